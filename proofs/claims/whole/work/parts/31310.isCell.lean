abbrev rmX9_isCell : Room := { frames := 1, cells := 0, slots := 0, locals := 22 }
set_option maxHeartbeats 4000000 in
set_option maxRecDepth 100000 in
theorem kX9_isCell (l : Launch) (D : va_G) (G : Nat → ClassId) (x : Int) (yy : Int) (hx_ : -2147483648 ≤ x ∧ x < 2147483648) (hy_ : -2147483648 ≤ yy ∧ yy < 2147483648) : CtI l yX9_isCell wsX9_isCell rmX9_isCell D G [.int (iI x), .int (iI yy)] [] (fun (r : Int32) (_ : Unit) => r = iI (if plc x yy then 1 else 0)) (fun _ => []) := by
  refine CtI.ofZ (cc := cX9_isCell) (maxL := 2) (by decide) rfl (Nat.le_of_ble_eq_true rfl) ?_
  intro p0 e0 s0 m0 args bel met cd A0 ls Q0 hx hcd hml hown hts hK hP hD hA hl fin
  have hl : lv_has ls 2 [(0, .int (iI x)), (1, .int (iI yy))] := hl
  have hS : va_S A0 s0.heap s0.heap [] := va_S.rf
  have hH : va_P D vwCl (fl []) s0.heap := hP
  obtain ⟨H, eH⟩ : ∃ H, H = s0.heap := ⟨_, rfl⟩
  obtain ⟨locs, eL⟩ : ∃ locs : List Loc, locs = [] := ⟨_, rfl⟩
  have hS : va_S A0 s0.heap H locs := by rw [eH, eL]; exact hS
  have hP : va_P D vwCl (fl []) H := by rw [eH]; exact hP
  suffices goal : W p0 l e0 rmX9_isCell s0 m0 args bel met cd H locs 0 0 Q0 (F0 m0 0 ls []) by rw [eH, eL] at goal; exact goal
  clear eH eL hH
  refine lv_iload_n hx hcd dX9_isCell_0 rfl (lv_at hl 0 rfl) ?_
  refine wi_iconst hx hcd dX9_isCell_1 ?_
  refine wi_bipush hx hcd dX9_isCell_2 (by decide) ?_
  refine cS_i (wc := []) (wr := []) (w1 := fun (_ : Unit) => []) (Bs1 := fun (_ : Unit) => []) (As := [.int (iI x), .int (iI 0), .int (iI 119)]) (rest := []) (kX9_in l D G x 0 119 (by first | assumption | omega) (by first | assumption | omega) (by first | assumption | omega)) rfl ⟨hx, hcd, hml, hown, hts⟩ (va_cwS 3 hts gX9_isCell_X9_in rfl rfl rfl (by decide +kernel) ⟨by decide, by decide⟩) rfl hl.1 (Nat.le_of_ble_eq_true rfl) ⟨Nat.le_of_ble_eq_true rfl, Nat.le_of_ble_eq_true rfl⟩ dX9_isCell_4 hK hP hD hS hA (perm_i2 [] 0 rfl (by decide) rfl) (fun _ => perm_i2 [] 0 rfl (by decide) rfl) (fun r u H locs hw1 hP hD hS => ?_)
  subst hw1
  have hin202 := if01 (0 ≤ x ∧ x ≤ 119)
  refine wi_if_eq (tgt := 24) hx hcd (by omega) dX9_isCell_7 (by decide) (fun c7 => ?_) (fun c7 => ?_)
  ·
    refine wi_iconst hx hcd dX9_isCell_24 ?_
    exact fin _ () H locs ls 25 dX9_isCell_25 hP hD hS (by decide) (congrArg iI (by (repeat' split) <;> omega))
  ·
    refine lv_iload_n hx hcd dX9_isCell_10 rfl (lv_at hl 1 rfl) ?_
    refine wi_iconst hx hcd dX9_isCell_11 ?_
    refine wi_bipush hx hcd dX9_isCell_12 (by decide) ?_
    refine cS_i (wc := []) (wr := []) (w1 := fun (_ : Unit) => []) (Bs1 := fun (_ : Unit) => []) (As := [.int (iI yy), .int (iI 0), .int (iI 9)]) (rest := []) (kX9_in l D G yy 0 9 (by first | assumption | omega) (by first | assumption | omega) (by first | assumption | omega)) rfl ⟨hx, hcd, hml, hown, hts⟩ (va_cwS 3 hts gX9_isCell_X9_in rfl rfl rfl (by decide +kernel) ⟨by decide, by decide⟩) rfl hl.1 (Nat.le_of_ble_eq_true rfl) ⟨Nat.le_of_ble_eq_true rfl, Nat.le_of_ble_eq_true rfl⟩ dX9_isCell_14 hK hP hD hS hA (perm_i2 [] 0 rfl (by decide) rfl) (fun _ => perm_i2 [] 0 rfl (by decide) rfl) (fun r u H locs hw2 hP hD hS => ?_)
    subst hw2
    have hin551 := if01 (0 ≤ yy ∧ yy ≤ 9)
    refine wi_if_eq (tgt := 24) hx hcd (by omega) dX9_isCell_17 (by decide) (fun c17 => ?_) (fun c17 => ?_)
    ·
      refine wi_iconst hx hcd dX9_isCell_24 ?_
      exact fin _ () H locs ls 25 dX9_isCell_25 hP hD hS (by decide) (congrArg iI (by (repeat' split) <;> omega))
    ·
      refine wi_iconst hx hcd dX9_isCell_20 ?_
      refine lv_goto (tgt := 25) hx hcd dX9_isCell_21 (by decide) ?_
      exact fin _ () H locs ls 25 dX9_isCell_25 hP hD hS (by decide) (congrArg iI (by (repeat' split) <;> omega))
