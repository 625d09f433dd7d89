abbrev rmX9_isCam : Room := { frames := 1, cells := 0, slots := 0, locals := 22 }
set_option maxHeartbeats 4000000 in
set_option maxRecDepth 100000 in
theorem kX9_isCam (l : Launch) (D : va_G) (G : Nat → ClassId) (v : Int) (hv : -2147483648 ≤ v ∧ v < 2147483648) : CtI l yX9_isCam wsX9_isCam rmX9_isCam D G [.int (iI v)] [] (fun (r : Int32) (_ : Unit) => r = iI (if 0 ≤ v ∧ v ≤ 11 then 1 else 0)) (fun _ => []) := by
  refine CtI.ofZ (cc := cX9_isCam) (maxL := 1) (by decide) rfl (Nat.le_of_ble_eq_true rfl) ?_
  intro p0 e0 s0 m0 args bel met cd A0 ls Q0 hx hcd hml hown hts hK hP hD hA hl fin
  have hl : lv_has ls 1 [(0, .int (iI v))] := hl
  have hS : va_S A0 s0.heap s0.heap [] := va_S.rf
  have hH : va_P D vwCl (fl []) s0.heap := hP
  obtain ⟨H, eH⟩ : ∃ H, H = s0.heap := ⟨_, rfl⟩
  obtain ⟨locs, eL⟩ : ∃ locs : List Loc, locs = [] := ⟨_, rfl⟩
  have hS : va_S A0 s0.heap H locs := by rw [eH, eL]; exact hS
  have hP : va_P D vwCl (fl []) H := by rw [eH]; exact hP
  suffices goal : W p0 l e0 rmX9_isCam s0 m0 args bel met cd H locs 0 0 Q0 (F0 m0 0 ls []) by rw [eH, eL] at goal; exact goal
  clear eH eL hH
  refine lv_iload_n hx hcd dX9_isCam_0 rfl (lv_at hl 0 rfl) ?_
  refine wi_iconst hx hcd dX9_isCam_1 ?_
  refine wi_bipush hx hcd dX9_isCam_2 (by decide) ?_
  refine cS_i (wc := []) (wr := []) (w1 := fun (_ : Unit) => []) (Bs1 := fun (_ : Unit) => []) (As := [.int (iI v), .int (iI 0), .int (iI 11)]) (rest := []) (kX9_in l D G v 0 11 (by first | assumption | omega) (by first | assumption | omega) (by first | assumption | omega)) rfl ⟨hx, hcd, hml, hown, hts⟩ (va_cwS 3 hts gX9_isCam_X9_in rfl rfl rfl (by decide +kernel) ⟨by decide, by decide⟩) rfl hl.1 (Nat.le_of_ble_eq_true rfl) ⟨Nat.le_of_ble_eq_true rfl, Nat.le_of_ble_eq_true rfl⟩ dX9_isCam_4 hK hP hD hS hA (perm_i2 [] 0 rfl (by decide) rfl) (fun _ => perm_i2 [] 0 rfl (by decide) rfl) (fun r u H locs hw1 hP hD hS => ?_)
  subst hw1
  have hin776 := if01 (0 ≤ v ∧ v ≤ 11)
  exact fin _ () H locs ls 7 dX9_isCam_7 hP hD hS (by exact nz (by omega)) (rfl)
