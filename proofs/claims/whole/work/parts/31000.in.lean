abbrev rmX9_in : Room := { frames := 0, cells := 0, slots := 0, locals := 0 }
set_option maxHeartbeats 4000000 in
set_option maxRecDepth 100000 in
theorem kX9_in (l : Launch) (D : va_G) (G : Nat → ClassId) (v : Int) (a : Int) (b : Int) (hv : -2147483648 ≤ v ∧ v < 2147483648) (ha : -2147483648 ≤ a ∧ a < 2147483648) (hb_ : -2147483648 ≤ b ∧ b < 2147483648) : CtI l yX9_in wsX9_in rmX9_in D G [.int (iI v), .int (iI a), .int (iI b)] [] (fun (r : Int32) (_ : Unit) => r = iI (if a ≤ v ∧ v ≤ b then 1 else 0)) (fun _ => []) := by
  refine CtI.ofZ (cc := cX9_in) (maxL := 3) (by decide) rfl (Nat.le_of_ble_eq_true rfl) ?_
  intro p0 e0 s0 m0 args bel met cd A0 ls Q0 hx hcd hml hown hts hK hP hD hA hl fin
  have hl : lv_has ls 3 [(0, .int (iI v)), (1, .int (iI a)), (2, .int (iI b))] := hl
  have hS : va_S A0 s0.heap s0.heap [] := va_S.rf
  have hH : va_P D vwCl (fl []) s0.heap := hP
  obtain ⟨H, eH⟩ : ∃ H, H = s0.heap := ⟨_, rfl⟩
  obtain ⟨locs, eL⟩ : ∃ locs : List Loc, locs = [] := ⟨_, rfl⟩
  have hS : va_S A0 s0.heap H locs := by rw [eH, eL]; exact hS
  have hP : va_P D vwCl (fl []) H := by rw [eH]; exact hP
  suffices goal : W p0 l e0 rmX9_in s0 m0 args bel met cd H locs 0 0 Q0 (F0 m0 0 ls []) by rw [eH, eL] at goal; exact goal
  clear eH eL hH
  refine lv_iload_n hx hcd dX9_in_0 rfl (lv_at hl 0 rfl) ?_
  refine lv_iload_n hx hcd dX9_in_1 rfl (lv_at hl 1 rfl) ?_
  refine wi_icmp_lt (tgt := 14) hx hcd (by omega) (by omega) dX9_in_2 (by decide) (fun c2 => ?_) (fun c2 => ?_)
  ·
    refine wi_iconst hx hcd dX9_in_14 ?_
    exact fin _ () H locs ls 15 dX9_in_15 hP hD hS (by decide) (congrArg iI (by first | rfl | (rw [if_pos (by omega)]) | (rw [if_neg (by omega)]) | (split <;> omega)))
  ·
    refine lv_iload_n hx hcd dX9_in_5 rfl (lv_at hl 0 rfl) ?_
    refine lv_iload_n hx hcd dX9_in_6 rfl (lv_at hl 2 rfl) ?_
    refine wi_icmp_gt (tgt := 14) hx hcd (by omega) (by omega) dX9_in_7 (by decide) (fun c7 => ?_) (fun c7 => ?_)
    ·
      refine wi_iconst hx hcd dX9_in_14 ?_
      exact fin _ () H locs ls 15 dX9_in_15 hP hD hS (by decide) (congrArg iI (by first | rfl | (rw [if_pos (by omega)]) | (rw [if_neg (by omega)]) | (split <;> omega)))
    ·
      refine wi_iconst hx hcd dX9_in_10 ?_
      refine lv_goto (tgt := 15) hx hcd dX9_in_11 (by decide) ?_
      exact fin _ () H locs ls 15 dX9_in_15 hP hD hS (by decide) (congrArg iI (by first | rfl | (rw [if_pos (by omega)]) | (rw [if_neg (by omega)]) | (split <;> omega)))
