abbrev rmX9_lower : Room := { frames := 0, cells := 0, slots := 0, locals := 0 }
set_option maxHeartbeats 4000000 in
set_option maxRecDepth 100000 in
theorem kX9_lower (l : Launch) (D : va_G) (G : Nat → ClassId) (a : Int) (b : Int) (ha : -1073741824 ≤ a ∧ a < 1073741824) (hb_ : 0 < b ∧ b < 1073741824) : CtI l yX9_lower wsX9_lower rmX9_lower D G [.int (iI a), .int (iI b)] [] (fun (r : Int32) (_ : Unit) => r = iI (a / b)) (fun _ => []) := by
  refine CtI.ofI (cc := cX9_lower) (maxL := 3) (by decide) rfl (Nat.le_of_ble_eq_true rfl) ?_
  intro p0 e0 s0 m0 args bel met cd A0 ls Q0 hx hcd hml hown hts hK hP hD hA hl fin
  have hl : lv_has ls 3 [(0, .int (iI a)), (1, .int (iI b))] := hl
  have hS : va_S A0 s0.heap s0.heap [] := va_S.rf
  have hH : va_P D vwCl (fl []) s0.heap := hP
  obtain ⟨H, eH⟩ : ∃ H, H = s0.heap := ⟨_, rfl⟩
  obtain ⟨locs, eL⟩ : ∃ locs : List Loc, locs = [] := ⟨_, rfl⟩
  have hS : va_S A0 s0.heap H locs := by rw [eH, eL]; exact hS
  have hP : va_P D vwCl (fl []) H := by rw [eH]; exact hP
  suffices goal : W p0 l e0 rmX9_lower s0 m0 args bel met cd H locs 0 0 Q0 (F0 m0 0 ls []) by rw [eH, eL] at goal; exact goal
  clear eH eL hH
  have hlw := low_eq (a := a) (b := b) hb_.1
  refine lv_iload_n hx hcd dX9_lower_0 rfl (lv_at hl 0 rfl) ?_
  refine lv_iload_n hx hcd dX9_lower_1 rfl (lv_at hl 1 rfl) ?_
  refine lv_idiv hx hcd dX9_lower_2 (by rw [← iI_0, iI_eq (by omega) (by omega)]; omega) ?_
  rw [iI_tdivT (by omega) (by omega)]
  refine lv_istore_n (lv' := [(2, .int (iI (a.tdiv b))), (0, .int (iI a)), (1, .int (iI b))]) hx hcd dX9_lower_3 rfl hl (by decide) rfl (fun ls hl => ?_)
  refine lv_iload_n hx hcd dX9_lower_4 rfl (lv_at hl 1 rfl) ?_
  refine lv_iload_n hx hcd dX9_lower_5 rfl (lv_at hl 2 rfl) ?_
  refine lv_irem hx hcd dX9_lower_6 (by rw [← iI_0, iI_eq (by omega) (by omega)]; omega) ?_
  rw [iI_tdivT (by omega) (by omega), iI_mul, iI_sub]
  refine wi_if_ge (tgt := 16) hx hcd (by omega) dX9_lower_7 (by decide) (fun c7 => ?_) (fun c7 => ?_)
  ·
    refine lv_iload_n hx hcd dX9_lower_16 rfl (lv_at hl 0 rfl) ?_
    exact fin _ () H locs ls 17 dX9_lower_17 hP hD hS (trivial) (congrArg iI (by omega))
  ·
    refine lv_iload_n hx hcd dX9_lower_10 rfl (lv_at hl 0 rfl) ?_
    refine wi_iconst hx hcd dX9_lower_11 ?_
    refine wi_isub hx hcd dX9_lower_12 ?_
    refine lv_goto (tgt := 17) hx hcd dX9_lower_13 (by decide) ?_
    exact fin _ () H locs ls 17 dX9_lower_17 hP hD hS (trivial) (congrArg iI (by omega))
