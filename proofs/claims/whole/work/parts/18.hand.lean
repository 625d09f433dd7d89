abbrev rmX3_rounded : Room := { frames := 1, cells := 0, slots := 0, locals := 22 }
set_option maxHeartbeats 4000000 in
set_option maxRecDepth 100000 in
theorem kX3_rounded (l : Launch) (D : va_G) (G : Nat → ClassId) (a : Int) (mm : Int) (ha : -100000 ≤ a ∧ a ≤ 100000) (hm : 0 < mm ∧ mm ≤ 1000) : CtI l yX3_rounded wsX3_rounded rmX3_rounded D G [.int (iI a), .int (iI mm)] [] (fun (r : Int32) (_ : Unit) => r = iI (rnd a mm)) (fun _ => []) := by
  refine CtI.ofI (cc := cX3_rounded) (maxL := 2) (by decide) rfl (Nat.le_of_ble_eq_true rfl) ?_
  intro p0 e0 s0 m0 args bel met cd A0 ls Q0 hx hcd hml hown hts hK hP hD hA hl fin
  have hl : lv_has ls 2 [(0, .int (iI a)), (1, .int (iI mm))] := hl
  have hS : va_S A0 s0.heap s0.heap [] := va_S.rf
  have hH : va_P D vwCl (fl []) s0.heap := hP
  obtain ⟨H, eH⟩ : ∃ H, H = s0.heap := ⟨_, rfl⟩
  obtain ⟨locs, eL⟩ : ∃ locs : List Loc, locs = [] := ⟨_, rfl⟩
  have hS : va_S A0 s0.heap H locs := by rw [eH, eL]; exact hS
  have hP : va_P D vwCl (fl []) H := by rw [eH]; exact hP
  suffices goal : W p0 l e0 rmX3_rounded s0 m0 args bel met cd H locs 0 0 Q0 (F0 m0 0 ls []) by rw [eH, eL] at goal; exact goal
  clear eH eL hH
  refine lv_iload_n hx hcd dX3_rounded_0 rfl (lv_at hl 1 rfl) ?_
  refine wi_if_le (tgt := 18) hx hcd (by omega) dX3_rounded_1 (by decide) (fun c1 => ?_) (fun c1 => ?_)
  ·
    exfalso
    omega
  ·
    refine wi_iconst hx hcd dX3_rounded_4 ?_
    refine lv_iload_n hx hcd dX3_rounded_5 rfl (lv_at hl 0 rfl) ?_
    refine wi_imul hx hcd dX3_rounded_6 ?_
    refine lv_iload_n hx hcd dX3_rounded_7 rfl (lv_at hl 1 rfl) ?_
    refine wi_iadd hx hcd dX3_rounded_8 ?_
    refine wi_iconst hx hcd dX3_rounded_9 ?_
    refine lv_iload_n hx hcd dX3_rounded_10 rfl (lv_at hl 1 rfl) ?_
    refine wi_imul hx hcd dX3_rounded_11 ?_
    refine g_fdiv hx hcd (by rw [hml]; exact hl.1.symm) hts hown (by decide +kernel) (by decide +kernel) (by decide +kernel) (by decide +kernel) ⟨Nat.le_of_ble_eq_true rfl, Nat.le_of_ble_eq_true rfl, Nat.le_of_ble_eq_true rfl, Nat.le_of_ble_eq_true rfl⟩ (Nat.le_of_ble_eq_true rfl) (by omega) (by omega) dX3_rounded_12 ?_
    refine lv_goto (tgt := 19) hx hcd dX3_rounded_15 (by decide) ?_
    exact fin _ () H locs ls 19 dX3_rounded_19 hP hD hS (trivial) (congrArg iI (rfl))

abbrev rmX3_heightOf : Room := { frames := 1, cells := 0, slots := 0, locals := 22 }
set_option maxHeartbeats 4000000 in
set_option maxRecDepth 100000 in
theorem kX3_heightOf (l : Launch) (D : va_G) (G : Nat → ClassId) (qh : Nat) (qm : Nat → Nat) (q : Nat → Nat) (st : Int) (th : Nat → Int) (R : Nat → Nat → Int) (sp : Nat → Int) (qf : Nat) (wo : Int) (lo : Int) (be : Int) (c : Int) (t : Int) (hR : ∀ i j, 0 ≤ R i j ∧ R i j ≤ 9) (hwo : -1 ≤ wo ∧ wo ≤ 11) (hc : 0 ≤ c ∧ c < 12) (ht : 0 ≤ t ∧ t < 16) : CtI l yX3_heightOf wsX3_heightOf rmX3_heightOf D G [.ref qh, .ref qf, .int (iI c), .int (iI t)] [BHan qh (q 0) (qm 0), BCams G q st th R sp, BFlt qf wo lo be] (fun (r : Int32) (_ : Unit) => r = iI (hof R wo c t)) (fun _ => [BHan qh (q 0) (qm 0), BCams G q st th R sp, BFlt qf wo lo be]) := by
  refine CtI.ofI (cc := cX3_heightOf) (maxL := 4) (by decide) rfl (Nat.le_of_ble_eq_true rfl) ?_
  intro p0 e0 s0 m0 args bel met cd A0 ls Q0 hx hcd hml hown hts hK hP hD hA hl fin
  have hl : lv_has ls 4 [(0, .ref qh), (1, .ref qf), (2, .int (iI c)), (3, .int (iI t))] := hl
  have hS : va_S A0 s0.heap s0.heap [] := va_S.rf
  have hH : va_P D vwCl (fl [BHan qh (q 0) (qm 0), BCams G q st th R sp, BFlt qf wo lo be]) s0.heap := hP
  obtain ⟨H, eH⟩ : ∃ H, H = s0.heap := ⟨_, rfl⟩
  obtain ⟨locs, eL⟩ : ∃ locs : List Loc, locs = [] := ⟨_, rfl⟩
  have hS : va_S A0 s0.heap H locs := by rw [eH, eL]; exact hS
  have hP : va_P D vwCl (fl [BHan qh (q 0) (qm 0), BCams G q st th R sp, BFlt qf wo lo be]) H := by rw [eH]; exact hP
  suffices goal : W p0 l e0 rmX3_heightOf s0 m0 args bel met cd H locs 0 0 Q0 (F0 m0 0 ls []) by rw [eH, eL] at goal; exact goal
  clear eH eL hH
  refine lv_aload_n hx hcd dX3_heightOf_0 rfl (lv_at hl 1 rfl) ?_
  refine lv_iload_n hx hcd dX3_heightOf_1 rfl (lv_at hl 2 rfl) ?_
  refine lv_aload_n hx hcd dX3_heightOf_2 rfl (lv_at hl 0 rfl) ?_
  refine g_get (C := RX3) (T := TX3) (N := 2) hx hcd hts (fun _ h => List.mem_cons_of_mem _ (List.mem_append_left _ (List.mem_append_left _ (List.mem_append_right _ h)))) hown hK hP (i := 0) rfl BHan_c0 rfl 0 (by decide) (by decide +kernel) rfl dX3_heightOf_3 ?_
  refine lv_iload_n hx hcd dX3_heightOf_6 rfl (lv_at hl 2 rfl) ?_
  refine lv_iload_n hx hcd dX3_heightOf_7 rfl (lv_at hl 3 rfl) ?_
  refine cV_i (wc := [BCams G q st th R sp]) (wr := [BHan qh (q 0) (qm 0), BFlt qf wo lo be]) (w1 := fun _ => [BCams G q st th R sp]) (Bs1 := fun _ => [BHan qh (q 0) (qm 0), BCams G q st th R sp, BFlt qf wo lo be]) (As := [.int (iI c), .int (iI t)]) (rest := [.int (iI c), .ref qf]) (kX0_heightAt l D G q st th R sp c t (by first | assumption | omega) (by first | assumption | omega)) rfl ⟨hx, hcd, hml, hown, hts⟩ (cwV 2 hts gX3_heightOf_X0_heightAt rfl rfl rfl (by decide +kernel) ⟨by decide, by decide⟩) (q0 := 0) (ci := 0) rfl rfl rfl rfl hl.1 (Nat.le_of_ble_eq_true rfl) ⟨Nat.le_of_ble_eq_true rfl, Nat.le_of_ble_eq_true rfl⟩ dX3_heightOf_8 hK hP hD hS hA (perm_idx [1, 0, 2] rfl rfl) (fun _ => perm_idx [1, 0, 2] rfl rfl) (fun r u H locs hw1 hP hD hS => ?_)
  subst hw1
  have hh := hR c.toNat t.toNat
  refine cV_i (wc := [BFlt qf wo lo be]) (wr := [BHan qh (q 0) (qm 0), BCams G q st th R sp]) (w1 := fun _ => [BFlt qf wo lo be]) (Bs1 := fun _ => [BHan qh (q 0) (qm 0), BCams G q st th R sp, BFlt qf wo lo be]) (As := [.int (iI c), .int (iI (R c.toNat t.toNat))]) (rest := []) (kX1_wornHeight l D G qf wo lo be c (R c.toNat t.toNat) (by first | assumption | omega) (by first | assumption | omega) (by first | assumption | omega)) rfl ⟨hx, hcd, hml, hown, hts⟩ (cwV 2 hts gX3_heightOf_X1_wornHeight rfl rfl rfl (by decide +kernel) ⟨by decide, by decide⟩) (q0 := 0) (ci := 1) rfl rfl rfl rfl hl.1 (Nat.le_of_ble_eq_true rfl) ⟨Nat.le_of_ble_eq_true rfl, Nat.le_of_ble_eq_true rfl⟩ dX3_heightOf_11 hK hP hD hS hA (perm_idx [2, 0, 1] rfl rfl) (fun _ => perm_idx [1, 2, 0] rfl rfl) (fun r u H locs hw2 hP hD hS => ?_)
  subst hw2
  exact fin _ () H locs ls 14 dX3_heightOf_14 hP hD hS (trivial) (congrArg iI (rfl))

abbrev rmX3_isDown : Room := { frames := 2, cells := 0, slots := 0, locals := 45 }
set_option maxHeartbeats 4000000 in
set_option maxRecDepth 100000 in
theorem kX3_isDown (l : Launch) (D : va_G) (G : Nat → ClassId) (qh : Nat) (qm : Nat → Nat) (ac : Nat → Int) (up : Nat → Int) (li : Nat → Int) (le : Nat → Int) (pg : Int) (spc : Int) (q : Nat → Nat) (st : Int) (th : Nat → Int) (R : Nat → Nat → Int) (sp : Nat → Int) (qf : Nat) (wo : Int) (lo : Int) (be : Int) (k : Int) (t : Int) (hR : ∀ i j, 0 ≤ R i j ∧ R i j ≤ 9) (hwo : -1 ≤ wo ∧ wo ≤ 11) (hli : ∀ k, 0 ≤ li k ∧ li k ≤ 11) (hle : ∀ k, 0 ≤ le k ∧ le k ≤ 9) (hk : 0 ≤ k ∧ k < 12) (ht : 0 ≤ t ∧ t < 16) : CtI l yX3_isDown wsX3_isDown rmX3_isDown D G [.ref qh, .ref qf, .int (iI k), .int (iI t)] [BHan qh (q 0) (qm 0), BMsg G qm ac up li le pg spc, BCams G q st th R sp, BFlt qf wo lo be] (fun (r : Int32) (_ : Unit) => r = iI (dwn R li le wo k t)) (fun _ => [BHan qh (q 0) (qm 0), BMsg G qm ac up li le pg spc, BCams G q st th R sp, BFlt qf wo lo be]) := by
  refine CtI.ofZ (cc := cX3_isDown) (maxL := 4) (by decide) rfl (Nat.le_of_ble_eq_true rfl) ?_
  intro p0 e0 s0 m0 args bel met cd A0 ls Q0 hx hcd hml hown hts hK hP hD hA hl fin
  have hl : lv_has ls 4 [(0, .ref qh), (1, .ref qf), (2, .int (iI k)), (3, .int (iI t))] := hl
  have hS : va_S A0 s0.heap s0.heap [] := va_S.rf
  have hH : va_P D vwCl (fl [BHan qh (q 0) (qm 0), BMsg G qm ac up li le pg spc, BCams G q st th R sp, BFlt qf wo lo be]) s0.heap := hP
  obtain ⟨H, eH⟩ : ∃ H, H = s0.heap := ⟨_, rfl⟩
  obtain ⟨locs, eL⟩ : ∃ locs : List Loc, locs = [] := ⟨_, rfl⟩
  have hS : va_S A0 s0.heap H locs := by rw [eH, eL]; exact hS
  have hP : va_P D vwCl (fl [BHan qh (q 0) (qm 0), BMsg G qm ac up li le pg spc, BCams G q st th R sp, BFlt qf wo lo be]) H := by rw [eH]; exact hP
  suffices goal : W p0 l e0 rmX3_isDown s0 m0 args bel met cd H locs 0 0 Q0 (F0 m0 0 ls []) by rw [eH, eL] at goal; exact goal
  clear eH eL hH
  refine lv_aload_n hx hcd dX3_isDown_0 rfl (lv_at hl 0 rfl) ?_
  refine lv_aload_n hx hcd dX3_isDown_1 rfl (lv_at hl 1 rfl) ?_
  refine lv_aload_n hx hcd dX3_isDown_2 rfl (lv_at hl 0 rfl) ?_
  refine g_get (C := RX3) (T := TX3) (N := 2) hx hcd hts (fun _ h => List.mem_cons_of_mem _ (List.mem_append_left _ (List.mem_append_left _ (List.mem_append_left _ (List.mem_append_right _ h))))) hown hK hP (i := 0) rfl BHan_c0 rfl 1 (by decide) (by decide +kernel) rfl dX3_isDown_3 ?_
  refine lv_iload_n hx hcd dX3_isDown_6 rfl (lv_at hl 2 rfl) ?_
  refine cV_i (wc := [BMsg G qm ac up li le pg spc]) (wr := [BHan qh (q 0) (qm 0), BCams G q st th R sp, BFlt qf wo lo be]) (w1 := fun _ => [BMsg G qm ac up li le pg spc]) (Bs1 := fun _ => [BHan qh (q 0) (qm 0), BMsg G qm ac up li le pg spc, BCams G q st th R sp, BFlt qf wo lo be]) (As := [.int (iI k)]) (rest := [.ref qf, .ref qh]) (kX5_liftOfPeg l D G qm ac up li le pg spc k (by first | assumption | omega) (by first | assumption | omega)) rfl ⟨hx, hcd, hml, hown, hts⟩ (cwV 1 hts gX3_isDown_X5_liftOfPeg rfl rfl rfl (by decide +kernel) ⟨by decide, by decide⟩) (q0 := 0) (ci := 5) rfl rfl rfl rfl hl.1 (Nat.le_of_ble_eq_true rfl) ⟨Nat.le_of_ble_eq_true rfl, Nat.le_of_ble_eq_true rfl⟩ dX3_isDown_7 hK hP hD hS hA (perm_idx [1, 0, 2, 3] rfl rfl) (fun _ => perm_idx [1, 0, 2, 3] rfl rfl) (fun r u H locs hw1 hP hD hS => ?_)
  subst hw1
  have hpg := hli (le k.toNat).toNat
  refine lv_iload_n hx hcd dX3_isDown_10 rfl (lv_at hl 3 rfl) ?_
  refine cV_i (wc := [BHan qh (q 0) (qm 0), BCams G q st th R sp, BFlt qf wo lo be]) (wr := [BMsg G qm ac up li le pg spc]) (w1 := fun _ => [BHan qh (q 0) (qm 0), BCams G q st th R sp, BFlt qf wo lo be]) (Bs1 := fun _ => [BHan qh (q 0) (qm 0), BMsg G qm ac up li le pg spc, BCams G q st th R sp, BFlt qf wo lo be]) (As := [.ref qf, .int (iI (li (le k.toNat).toNat)), .int (iI t)]) (rest := []) (kX3_heightOf l D G qh qm q st th R sp qf wo lo be (li (le k.toNat).toNat) t (by first | assumption | omega) (by first | assumption | omega) (by first | assumption | omega) (by first | assumption | omega)) rfl ⟨hx, hcd, hml, hown, hts⟩ (cwV 3 hts gX3_isDown_X3_heightOf rfl rfl rfl (by decide +kernel) ⟨by decide, by decide⟩) (q0 := 0) (ci := 3) rfl rfl rfl rfl hl.1 (Nat.le_of_ble_eq_true rfl) ⟨Nat.le_of_ble_eq_true rfl, Nat.le_of_ble_eq_true rfl⟩ dX3_isDown_11 hK hP hD hS hA (perm_idx [0, 2, 3, 1] rfl rfl) (fun _ => perm_idx [0, 3, 1, 2] rfl rfl) (fun r u H locs hw2 hP hD hS => ?_)
  subst hw2
  have hhr := hof_rng hR wo (li (le k.toNat).toNat) t
  refine wi_if_ne (tgt := 21) hx hcd (by omega) dX3_isDown_14 (by decide) (fun c14 => ?_) (fun c14 => ?_)
  ·
    refine wi_iconst hx hcd dX3_isDown_21 ?_
    exact fin _ () H locs ls 22 dX3_isDown_22 hP hD hS (by decide) (congrArg iI (by unfold dwn; split <;> omega))
  ·
    refine wi_iconst hx hcd dX3_isDown_17 ?_
    refine lv_goto (tgt := 22) hx hcd dX3_isDown_18 (by decide) ?_
    exact fin _ () H locs ls 22 dX3_isDown_22 hP hD hS (by decide) (congrArg iI (by unfold dwn; split <;> omega))

abbrev rmX3_xAt : Room := { frames := 2, cells := 0, slots := 0, locals := 45 }
set_option maxHeartbeats 4000000 in
set_option maxRecDepth 100000 in
theorem kX3_xAt (l : Launch) (D : va_G) (G : Nat → ClassId) (qh : Nat) (qm : Nat → Nat) (ac : Nat → Int) (up : Nat → Int) (li : Nat → Int) (le : Nat → Int) (pg : Int) (spc : Int) (q : Nat → Nat) (st : Int) (th : Nat → Int) (R : Nat → Nat → Int) (sp : Nat → Int) (qf : Nat) (wo : Int) (lo : Int) (be : Int) (k : Int) (t : Int) (hR : ∀ i j, 0 ≤ R i j ∧ R i j ≤ 9) (hwo : -1 ≤ wo ∧ wo ≤ 11) (hbe : -1 ≤ be ∧ be ≤ 1) (hac : ∀ k, 0 ≤ ac k ∧ ac k ≤ 11) (hle : ∀ k, 0 ≤ le k ∧ le k ≤ 9) (hk : 0 ≤ k ∧ k < 12) (ht : 0 ≤ t ∧ t < 16) : CtI l yX3_xAt wsX3_xAt rmX3_xAt D G [.ref qh, .ref qf, .int (iI k), .int (iI t)] [BHan qh (q 0) (qm 0), BMsg G qm ac up li le pg spc, BCams G q st th R sp, BFlt qf wo lo be] (fun (r : Int32) (_ : Unit) => r = iI (xA R ac le spc wo be k t)) (fun _ => [BHan qh (q 0) (qm 0), BMsg G qm ac up li le pg spc, BCams G q st th R sp, BFlt qf wo lo be]) := by
  refine CtI.ofI (cc := cX3_xAt) (maxL := 5) (by decide) rfl (Nat.le_of_ble_eq_true rfl) ?_
  intro p0 e0 s0 m0 args bel met cd A0 ls Q0 hx hcd hml hown hts hK hP hD hA hl fin
  have hl : lv_has ls 5 [(0, .ref qh), (1, .ref qf), (2, .int (iI k)), (3, .int (iI t))] := hl
  have hS : va_S A0 s0.heap s0.heap [] := va_S.rf
  have hH : va_P D vwCl (fl [BHan qh (q 0) (qm 0), BMsg G qm ac up li le pg spc, BCams G q st th R sp, BFlt qf wo lo be]) s0.heap := hP
  obtain ⟨H, eH⟩ : ∃ H, H = s0.heap := ⟨_, rfl⟩
  obtain ⟨locs, eL⟩ : ∃ locs : List Loc, locs = [] := ⟨_, rfl⟩
  have hS : va_S A0 s0.heap H locs := by rw [eH, eL]; exact hS
  have hP : va_P D vwCl (fl [BHan qh (q 0) (qm 0), BMsg G qm ac up li le pg spc, BCams G q st th R sp, BFlt qf wo lo be]) H := by rw [eH]; exact hP
  suffices goal : W p0 l e0 rmX3_xAt s0 m0 args bel met cd H locs 0 0 Q0 (F0 m0 0 ls []) by rw [eH, eL] at goal; exact goal
  clear eH eL hH
  refine lv_aload_n hx hcd dX3_xAt_0 rfl (lv_at hl 0 rfl) ?_
  refine lv_aload_n hx hcd dX3_xAt_1 rfl (lv_at hl 1 rfl) ?_
  refine lv_aload_n hx hcd dX3_xAt_2 rfl (lv_at hl 0 rfl) ?_
  refine g_get (C := RX3) (T := TX3) (N := 2) hx hcd hts (fun _ h => List.mem_cons_of_mem _ (List.mem_append_left _ (List.mem_append_left _ (List.mem_append_left _ (List.mem_append_right _ h))))) hown hK hP (i := 0) rfl BHan_c0 rfl 1 (by decide) (by decide +kernel) rfl dX3_xAt_3 ?_
  refine lv_iload_n hx hcd dX3_xAt_6 rfl (lv_at hl 2 rfl) ?_
  refine cV_i (wc := [BMsg G qm ac up li le pg spc]) (wr := [BHan qh (q 0) (qm 0), BCams G q st th R sp, BFlt qf wo lo be]) (w1 := fun _ => [BMsg G qm ac up li le pg spc]) (Bs1 := fun _ => [BHan qh (q 0) (qm 0), BMsg G qm ac up li le pg spc, BCams G q st th R sp, BFlt qf wo lo be]) (As := [.int (iI k)]) (rest := [.ref qf, .ref qh]) (kX5_acrossOfPeg l D G qm ac up li le pg spc k (by first | assumption | omega) (by first | assumption | omega)) rfl ⟨hx, hcd, hml, hown, hts⟩ (cwV 1 hts gX3_xAt_X5_acrossOfPeg rfl rfl rfl (by decide +kernel) ⟨by decide, by decide⟩) (q0 := 0) (ci := 5) rfl rfl rfl rfl hl.1 (Nat.le_of_ble_eq_true rfl) ⟨Nat.le_of_ble_eq_true rfl, Nat.le_of_ble_eq_true rfl⟩ dX3_xAt_7 hK hP hD hS hA (perm_idx [1, 0, 2, 3] rfl rfl) (fun _ => perm_idx [1, 0, 2, 3] rfl rfl) (fun r u H locs hw1 hP hD hS => ?_)
  subst hw1
  have hpg := hac (le k.toNat).toNat
  refine lv_iload_n hx hcd dX3_xAt_10 rfl (lv_at hl 3 rfl) ?_
  refine cV_i (wc := [BHan qh (q 0) (qm 0), BCams G q st th R sp, BFlt qf wo lo be]) (wr := [BMsg G qm ac up li le pg spc]) (w1 := fun _ => [BHan qh (q 0) (qm 0), BCams G q st th R sp, BFlt qf wo lo be]) (Bs1 := fun _ => [BHan qh (q 0) (qm 0), BMsg G qm ac up li le pg spc, BCams G q st th R sp, BFlt qf wo lo be]) (As := [.ref qf, .int (iI (ac (le k.toNat).toNat)), .int (iI t)]) (rest := []) (kX3_heightOf l D G qh qm q st th R sp qf wo lo be (ac (le k.toNat).toNat) t (by first | assumption | omega) (by first | assumption | omega) (by first | assumption | omega) (by first | assumption | omega)) rfl ⟨hx, hcd, hml, hown, hts⟩ (cwV 3 hts gX3_xAt_X3_heightOf rfl rfl rfl (by decide +kernel) ⟨by decide, by decide⟩) (q0 := 0) (ci := 3) rfl rfl rfl rfl hl.1 (Nat.le_of_ble_eq_true rfl) ⟨Nat.le_of_ble_eq_true rfl, Nat.le_of_ble_eq_true rfl⟩ dX3_xAt_11 hK hP hD hS hA (perm_idx [0, 2, 3, 1] rfl rfl) (fun _ => perm_idx [0, 3, 1, 2] rfl rfl) (fun r u H locs hw2 hP hD hS => ?_)
  subst hw2
  have hhr := hof_rng hR wo (ac (le k.toNat).toNat) t
  refine lv_istore (lv' := [(4, .int (iI (hof R wo (ac (le k.toNat).toNat) t))), (0, .ref qh), (1, .ref qf), (2, .int (iI k)), (3, .int (iI t))]) hx hcd dX3_xAt_14 hl (by decide) rfl (fun ls hl => ?_)
  refine lv_aload_n hx hcd dX3_xAt_16 rfl (lv_at hl 2 rfl) ?_
  refine lv_iload_n hx hcd dX3_xAt_17 rfl (lv_at hl 3 rfl) ?_
  refine lv_aload_n hx hcd dX3_xAt_18 rfl (lv_at hl 1 rfl) ?_
  refine g_get (C := RX3) (T := TX3) (N := 2) hx hcd hts (fun _ h => List.mem_cons_of_mem _ (List.mem_append_left _ (List.mem_append_left _ (List.mem_append_left _ (List.mem_append_right _ h))))) hown hK hP (i := 0) rfl BHan_c0 rfl 1 (by decide) (by decide +kernel) rfl dX3_xAt_19 ?_
  refine cV_i (wc := [BMsg G qm ac up li le pg spc]) (wr := [BHan qh (q 0) (qm 0), BCams G q st th R sp, BFlt qf wo lo be]) (w1 := fun _ => [BMsg G qm ac up li le pg spc]) (Bs1 := fun _ => [BHan qh (q 0) (qm 0), BMsg G qm ac up li le pg spc, BCams G q st th R sp, BFlt qf wo lo be]) (As := []) (rest := [.int (iI k), .ref qf]) (kX5_space l D G qm ac up li le pg spc ) rfl ⟨hx, hcd, hml, hown, hts⟩ (cwV 0 hts gX3_xAt_X5_space rfl rfl rfl (by decide +kernel) ⟨by decide, by decide⟩) (q0 := 0) (ci := 5) rfl rfl rfl rfl hl.1 (Nat.le_of_ble_eq_true rfl) ⟨Nat.le_of_ble_eq_true rfl, Nat.le_of_ble_eq_true rfl⟩ dX3_xAt_22 hK hP hD hS hA (perm_idx [1, 0, 2, 3] rfl rfl) (fun _ => perm_idx [1, 0, 2, 3] rfl rfl) (fun r u H locs hw3 hP hD hS => ?_)
  subst hw3
  refine wi_imul hx hcd dX3_xAt_25 ?_
  refine lv_iload hx hcd dX3_xAt_26 (lv_at hl 0 rfl) ?_
  refine wi_iadd hx hcd dX3_xAt_28 ?_
  refine cV_i (wc := [BFlt qf wo lo be]) (wr := [BHan qh (q 0) (qm 0), BMsg G qm ac up li le pg spc, BCams G q st th R sp]) (w1 := fun _ => [BFlt qf wo lo be]) (Bs1 := fun _ => [BHan qh (q 0) (qm 0), BMsg G qm ac up li le pg spc, BCams G q st th R sp, BFlt qf wo lo be]) (As := [.int (iI ((k * spc) + (hof R wo (ac (le k.toNat).toNat) t)))]) (rest := []) (kX1_bentX l D G qf wo lo be ((k * spc) + (hof R wo (ac (le k.toNat).toNat) t)) (by first | assumption | omega)) rfl ⟨hx, hcd, hml, hown, hts⟩ (cwV 1 hts gX3_xAt_X1_bentX rfl rfl rfl (by decide +kernel) ⟨by decide, by decide⟩) (q0 := 0) (ci := 1) rfl rfl rfl rfl hl.1 (Nat.le_of_ble_eq_true rfl) ⟨Nat.le_of_ble_eq_true rfl, Nat.le_of_ble_eq_true rfl⟩ dX3_xAt_29 hK hP hD hS hA (perm_idx [3, 0, 1, 2] rfl rfl) (fun _ => perm_idx [1, 2, 3, 0] rfl rfl) (fun r u H locs hw4 hP hD hS => ?_)
  subst hw4
  exact fin _ () H locs ls 32 dX3_xAt_32 hP hD hS (trivial) (congrArg iI (rfl))

abbrev rmX3_yAt : Room := { frames := 2, cells := 0, slots := 0, locals := 45 }
set_option maxHeartbeats 4000000 in
set_option maxRecDepth 100000 in
theorem kX3_yAt (l : Launch) (D : va_G) (G : Nat → ClassId) (qh : Nat) (qm : Nat → Nat) (ac : Nat → Int) (up : Nat → Int) (li : Nat → Int) (le : Nat → Int) (pg : Int) (spc : Int) (q : Nat → Nat) (st : Int) (th : Nat → Int) (R : Nat → Nat → Int) (sp : Nat → Int) (qf : Nat) (wo : Int) (lo : Int) (be : Int) (k : Int) (t : Int) (hR : ∀ i j, 0 ≤ R i j ∧ R i j ≤ 9) (hwo : -1 ≤ wo ∧ wo ≤ 11) (hbe : -1 ≤ be ∧ be ≤ 1) (hup : ∀ k, 0 ≤ up k ∧ up k ≤ 11) (hle : ∀ k, 0 ≤ le k ∧ le k ≤ 9) (hk : 0 ≤ k ∧ k < 12) (ht : 0 ≤ t ∧ t < 16) : CtI l yX3_yAt wsX3_yAt rmX3_yAt D G [.ref qh, .ref qf, .int (iI k), .int (iI t)] [BHan qh (q 0) (qm 0), BMsg G qm ac up li le pg spc, BCams G q st th R sp, BFlt qf wo lo be] (fun (r : Int32) (_ : Unit) => r = iI (yA R up le wo be k t)) (fun _ => [BHan qh (q 0) (qm 0), BMsg G qm ac up li le pg spc, BCams G q st th R sp, BFlt qf wo lo be]) := by
  refine CtI.ofI (cc := cX3_yAt) (maxL := 4) (by decide) rfl (Nat.le_of_ble_eq_true rfl) ?_
  intro p0 e0 s0 m0 args bel met cd A0 ls Q0 hx hcd hml hown hts hK hP hD hA hl fin
  have hl : lv_has ls 4 [(0, .ref qh), (1, .ref qf), (2, .int (iI k)), (3, .int (iI t))] := hl
  have hS : va_S A0 s0.heap s0.heap [] := va_S.rf
  have hH : va_P D vwCl (fl [BHan qh (q 0) (qm 0), BMsg G qm ac up li le pg spc, BCams G q st th R sp, BFlt qf wo lo be]) s0.heap := hP
  obtain ⟨H, eH⟩ : ∃ H, H = s0.heap := ⟨_, rfl⟩
  obtain ⟨locs, eL⟩ : ∃ locs : List Loc, locs = [] := ⟨_, rfl⟩
  have hS : va_S A0 s0.heap H locs := by rw [eH, eL]; exact hS
  have hP : va_P D vwCl (fl [BHan qh (q 0) (qm 0), BMsg G qm ac up li le pg spc, BCams G q st th R sp, BFlt qf wo lo be]) H := by rw [eH]; exact hP
  suffices goal : W p0 l e0 rmX3_yAt s0 m0 args bel met cd H locs 0 0 Q0 (F0 m0 0 ls []) by rw [eH, eL] at goal; exact goal
  clear eH eL hH
  refine lv_aload_n hx hcd dX3_yAt_0 rfl (lv_at hl 1 rfl) ?_
  refine lv_aload_n hx hcd dX3_yAt_1 rfl (lv_at hl 0 rfl) ?_
  refine lv_aload_n hx hcd dX3_yAt_2 rfl (lv_at hl 1 rfl) ?_
  refine lv_aload_n hx hcd dX3_yAt_3 rfl (lv_at hl 0 rfl) ?_
  refine g_get (C := RX3) (T := TX3) (N := 2) hx hcd hts (fun _ h => List.mem_cons_of_mem _ (List.mem_append_left _ (List.mem_append_left _ (List.mem_append_left _ (List.mem_append_right _ h))))) hown hK hP (i := 0) rfl BHan_c0 rfl 1 (by decide) (by decide +kernel) rfl dX3_yAt_4 ?_
  refine lv_iload_n hx hcd dX3_yAt_7 rfl (lv_at hl 2 rfl) ?_
  refine cV_i (wc := [BMsg G qm ac up li le pg spc]) (wr := [BHan qh (q 0) (qm 0), BCams G q st th R sp, BFlt qf wo lo be]) (w1 := fun _ => [BMsg G qm ac up li le pg spc]) (Bs1 := fun _ => [BHan qh (q 0) (qm 0), BMsg G qm ac up li le pg spc, BCams G q st th R sp, BFlt qf wo lo be]) (As := [.int (iI k)]) (rest := [.ref qf, .ref qh, .ref qf]) (kX5_upOfPeg l D G qm ac up li le pg spc k (by first | assumption | omega) (by first | assumption | omega)) rfl ⟨hx, hcd, hml, hown, hts⟩ (cwV 1 hts gX3_yAt_X5_upOfPeg rfl rfl rfl (by decide +kernel) ⟨by decide, by decide⟩) (q0 := 0) (ci := 5) rfl rfl rfl rfl hl.1 (Nat.le_of_ble_eq_true rfl) ⟨Nat.le_of_ble_eq_true rfl, Nat.le_of_ble_eq_true rfl⟩ dX3_yAt_8 hK hP hD hS hA (perm_idx [1, 0, 2, 3] rfl rfl) (fun _ => perm_idx [1, 0, 2, 3] rfl rfl) (fun r u H locs hw1 hP hD hS => ?_)
  subst hw1
  have hpg := hup (le k.toNat).toNat
  refine lv_iload_n hx hcd dX3_yAt_11 rfl (lv_at hl 3 rfl) ?_
  refine cV_i (wc := [BHan qh (q 0) (qm 0), BCams G q st th R sp, BFlt qf wo lo be]) (wr := [BMsg G qm ac up li le pg spc]) (w1 := fun _ => [BHan qh (q 0) (qm 0), BCams G q st th R sp, BFlt qf wo lo be]) (Bs1 := fun _ => [BHan qh (q 0) (qm 0), BMsg G qm ac up li le pg spc, BCams G q st th R sp, BFlt qf wo lo be]) (As := [.ref qf, .int (iI (up (le k.toNat).toNat)), .int (iI t)]) (rest := [.ref qf]) (kX3_heightOf l D G qh qm q st th R sp qf wo lo be (up (le k.toNat).toNat) t (by first | assumption | omega) (by first | assumption | omega) (by first | assumption | omega) (by first | assumption | omega)) rfl ⟨hx, hcd, hml, hown, hts⟩ (cwV 3 hts gX3_yAt_X3_heightOf rfl rfl rfl (by decide +kernel) ⟨by decide, by decide⟩) (q0 := 0) (ci := 3) rfl rfl rfl rfl hl.1 (Nat.le_of_ble_eq_true rfl) ⟨Nat.le_of_ble_eq_true rfl, Nat.le_of_ble_eq_true rfl⟩ dX3_yAt_12 hK hP hD hS hA (perm_idx [0, 2, 3, 1] rfl rfl) (fun _ => perm_idx [0, 3, 1, 2] rfl rfl) (fun r u H locs hw2 hP hD hS => ?_)
  subst hw2
  have hhr := hof_rng hR wo (up (le k.toNat).toNat) t
  refine cV_i (wc := [BFlt qf wo lo be]) (wr := [BHan qh (q 0) (qm 0), BMsg G qm ac up li le pg spc, BCams G q st th R sp]) (w1 := fun _ => [BFlt qf wo lo be]) (Bs1 := fun _ => [BHan qh (q 0) (qm 0), BMsg G qm ac up li le pg spc, BCams G q st th R sp, BFlt qf wo lo be]) (As := [.int (iI (hof R wo (up (le k.toNat).toNat) t))]) (rest := []) (kX1_bentY l D G qf wo lo be (hof R wo (up (le k.toNat).toNat) t) (by first | assumption | omega) (by first | assumption | omega)) rfl ⟨hx, hcd, hml, hown, hts⟩ (cwV 1 hts gX3_yAt_X1_bentY rfl rfl rfl (by decide +kernel) ⟨by decide, by decide⟩) (q0 := 0) (ci := 1) rfl rfl rfl rfl hl.1 (Nat.le_of_ble_eq_true rfl) ⟨Nat.le_of_ble_eq_true rfl, Nat.le_of_ble_eq_true rfl⟩ dX3_yAt_15 hK hP hD hS hA (perm_idx [3, 0, 1, 2] rfl rfl) (fun _ => perm_idx [1, 2, 3, 0] rfl rfl) (fun r u H locs hw3 hP hD hS => ?_)
  subst hw3
  exact fin _ () H locs ls 18 dX3_yAt_18 hP hD hS (trivial) (congrArg iI (rfl))

abbrev rmX3_drawLine : Room := { frames := 2, cells := 0, slots := 0, locals := 48 }
set_option maxHeartbeats 4000000 in
set_option maxRecDepth 100000 in
theorem kX3_drawLine (l : Launch) (D : va_G) (G : Nat → ClassId) (qp : Nat → Nat) (wd : Nat → Int64) (N : Nat) (fi : Nat → Int) (M : Nat → Bool) (x : Int) (yy : Int) (dx : Int) (dy : Int) (k : Int) (t : Int) (hM : bits wd M) (hN : N ≤ 1200) (hx_ : 0 ≤ x ∧ x < 120 ∧ 0 ≤ x + dx ∧ x + dx < 120) (hy_ : 0 ≤ yy ∧ yy < 10 ∧ 0 ≤ yy + dy ∧ yy + dy < 10) : CtV l yX3_drawLine wsX3_drawLine rmX3_drawLine D G [.ref (qp 0), .int (iI x), .int (iI yy), .int (iI dx), .int (iI dy), .int (iI k), .int (iI t)] [BPap G qp wd N fi] (fun u : (Nat → Int64) => bits u (orM M (lnS cC x yy dx dy (mxa dx dy) (mxa dx dy - 1).toNat))) (fun u => [BPap G qp u N (fiU N M (lnS cC x yy dx dy (mxa dx dy) (mxa dx dy - 1).toNat) (k * 100 + t) fi)]) := by
  refine CtV.of (cc := cX3_drawLine) (maxL := 9) (by decide) rfl (Nat.le_of_ble_eq_true rfl) ?_
  intro p0 e0 s0 m0 args bel met cd A0 ls Q0 hx hcd hml hown hts hK hP hD hA hl fin
  have hl : lv_has ls 9 [(0, .ref (qp 0)), (1, .int (iI x)), (2, .int (iI yy)), (3, .int (iI dx)), (4, .int (iI dy)), (5, .int (iI k)), (6, .int (iI t))] := hl
  have hS : va_S A0 s0.heap s0.heap [] := va_S.rf
  have hH : va_P D vwCl (fl [BPap G qp wd N fi]) s0.heap := hP
  obtain ⟨H, eH⟩ : ∃ H, H = s0.heap := ⟨_, rfl⟩
  obtain ⟨locs, eL⟩ : ∃ locs : List Loc, locs = [] := ⟨_, rfl⟩
  have hS : va_S A0 s0.heap H locs := by rw [eH, eL]; exact hS
  have hP : va_P D vwCl (fl [BPap G qp wd N fi]) H := by rw [eH]; exact hP
  suffices goal : W p0 l e0 rmX3_drawLine s0 m0 args bel met cd H locs 0 0 Q0 (F0 m0 0 ls []) by rw [eH, eL] at goal; exact goal
  clear eH eL hH
  have hma := mxa_ge dx dy
  have hmb := mxa_le (x := dx) (y := dy) (B := 119) (by omega) (by omega)
  refine lv_iload_n hx hcd dX3_drawLine_0 rfl (lv_at hl 3 rfl) ?_
  refine g_mabs hx hcd (by rw [hml]; exact hl.1.symm) hts hown (by decide +kernel) (by decide +kernel) (by decide +kernel) (by decide +kernel) ⟨Nat.le_of_ble_eq_true rfl, Nat.le_of_ble_eq_true rfl, Nat.le_of_ble_eq_true rfl, Nat.le_of_ble_eq_true rfl⟩ (by omega) dX3_drawLine_1 ?_
  refine lv_iload hx hcd dX3_drawLine_4 (lv_at hl 4 rfl) ?_
  refine g_mabs hx hcd (by rw [hml]; exact hl.1.symm) hts hown (by decide +kernel) (by decide +kernel) (by decide +kernel) (by decide +kernel) ⟨Nat.le_of_ble_eq_true rfl, Nat.le_of_ble_eq_true rfl, Nat.le_of_ble_eq_true rfl, Nat.le_of_ble_eq_true rfl⟩ (by omega) dX3_drawLine_6 ?_
  refine g_mmax hx hcd (by rw [hml]; exact hl.1.symm) hts hown (by decide +kernel) (by decide +kernel) (by decide +kernel) (by decide +kernel) ⟨Nat.le_of_ble_eq_true rfl, Nat.le_of_ble_eq_true rfl, Nat.le_of_ble_eq_true rfl, Nat.le_of_ble_eq_true rfl⟩ (by omega) (by omega) dX3_drawLine_9 ?_
  rw [show ((if (if 0 ≤ dx then dx else -dx) < (if 0 ≤ dy then dy else -dy) then (if 0 ≤ dy then dy else -dy) else (if 0 ≤ dx then dx else -dx)) : Int) = mxa dx dy from rfl]
  refine lv_istore (lv' := [(7, .int (iI (mxa dx dy))), (0, .ref (qp 0)), (1, .int (iI x)), (2, .int (iI yy)), (3, .int (iI dx)), (4, .int (iI dy)), (5, .int (iI k)), (6, .int (iI t))]) hx hcd dX3_drawLine_12 hl (by decide) rfl (fun ls hl => ?_)
  refine wi_iconst hx hcd dX3_drawLine_14 ?_
  refine lv_istore (lv' := [(8, .int (iI 1)), (7, .int (iI (mxa dx dy))), (0, .ref (qp 0)), (1, .int (iI x)), (2, .int (iI yy)), (3, .int (iI dx)), (4, .int (iI dy)), (5, .int (iI k)), (6, .int (iI t))]) hx hcd dX3_drawLine_15 hl (by decide) rfl (fun ls hl => ?_)
  have L17 : ∀ (fu : Nat) (i : Int) (w9 : Nat → Int64) (f9 : Nat → Int) (H : Heap) (locs : List Loc) (ls : Array Slot), (mxa dx dy + 1 - i < (fu : Int)) → (1 ≤ i ∧ (i ≤ mxa dx dy ∨ i = 1)) → (bits w9 (orM M (lnS cC x yy dx dy (mxa dx dy) (i - 1).toNat))) → (f9 = fiU N M (lnS cC x yy dx dy (mxa dx dy) (i - 1).toNat) (k * 100 + t) fi) → va_P D vwCl (fl [BPap G qp w9 N f9]) H → va_D A0 (fl [BPap G qp w9 N f9]) → va_S A0 s0.heap H locs → lv_has ls 9 [(0, .ref (qp 0)), (1, .int (iI x)), (2, .int (iI yy)), (3, .int (iI dx)), (4, .int (iI dy)), (5, .int (iI k)), (6, .int (iI t)), (7, .int (iI (mxa dx dy))), (8, .int (iI i))] → W p0 l e0 rmX3_drawLine s0 m0 args bel met cd H locs 0 0 Q0 (F0 m0 17 ls []) := by
    intro fu
    induction fu with
    | zero =>
      intro i w9 f9 H locs ls hfu hi hw hf
      exact absurd hfu (by omega)
    | succ fu ih =>
      intro i w9 f9 H locs ls hfu hi hw hf hP hD hS hl
      have ih17 := ih
      clear ih
      refine lv_iload hx hcd dX3_drawLine_17 (lv_at hl 8 rfl) ?_
      refine lv_iload hx hcd dX3_drawLine_19 (lv_at hl 7 rfl) ?_
      refine wi_icmp_ge (tgt := 61) hx hcd (by omega) (by omega) dX3_drawLine_21 (by decide) (fun c21 => ?_) (fun c21 => ?_)
      ·
        rw [show BPap G qp w9 N f9 = BPap G qp w9 N (fiU N M (lnS cC x yy dx dy (mxa dx dy) (mxa dx dy - 1).toNat) (k * 100 + t) fi) from congrArg (fun z_ : Nat → Int => BPap G qp w9 N z_) (show (f9 : Nat → Int) = (fiU N M (lnS cC x yy dx dy (mxa dx dy) (mxa dx dy - 1).toNat) (k * 100 + t) fi) from by rw [hf, show (i - 1).toNat = (mxa dx dy - 1).toNat by omega])] at hP hD
        exact fin w9 H locs ls 61 dX3_drawLine_61 hP hD hS (by rw [show (mxa dx dy - 1).toNat = (i - 1).toNat by omega]; exact hw)
      ·
        have r1 := rnd_rng (i := i) (d := dx) (m := mxa dx dy) (by omega)
        have r2 := rnd_rng (i := i) (d := dy) (m := mxa dx dy) (by omega)
        have r3 := mul_s (a := i) (b := dx) (A := 119) (B := 119) (by omega) (by omega) (by omega) (by omega)
        have r4 := mul_s (a := i) (b := dy) (A := 119) (B := 119) (by omega) (by omega) (by omega) (by omega)
        refine lv_aload_n hx hcd dX3_drawLine_24 rfl (lv_at hl 0 rfl) ?_
        refine lv_iload_n hx hcd dX3_drawLine_25 rfl (lv_at hl 1 rfl) ?_
        refine lv_iload hx hcd dX3_drawLine_26 (lv_at hl 8 rfl) ?_
        refine lv_iload_n hx hcd dX3_drawLine_28 rfl (lv_at hl 3 rfl) ?_
        refine wi_imul hx hcd dX3_drawLine_29 ?_
        refine lv_iload hx hcd dX3_drawLine_30 (lv_at hl 7 rfl) ?_
        refine cS_i (wc := []) (wr := [BPap G qp w9 N f9]) (w1 := fun _ => []) (Bs1 := fun _ => [BPap G qp w9 N f9]) (As := [.int (iI (i * dx)), .int (iI (mxa dx dy))]) (rest := [.int (iI x), .ref (qp 0)]) (kX3_rounded l D G (i * dx) (mxa dx dy) (by omega) (by omega)) rfl ⟨hx, hcd, hml, hown, hts⟩ (va_cwS 2 hts gX3_drawLine_X3_rounded rfl rfl rfl (by decide +kernel) ⟨by decide, by decide⟩) rfl hl.1 (Nat.le_of_ble_eq_true rfl) ⟨Nat.le_of_ble_eq_true rfl, Nat.le_of_ble_eq_true rfl⟩ dX3_drawLine_32 hK hP hD hS hA (perm_idx [0] rfl rfl) (fun _ => perm_idx [0] rfl rfl) (fun r u H locs hw1 hP hD hS => ?_)
        subst hw1
        refine wi_iadd hx hcd dX3_drawLine_35 ?_
        refine lv_iload_n hx hcd dX3_drawLine_36 rfl (lv_at hl 2 rfl) ?_
        refine lv_iload hx hcd dX3_drawLine_37 (lv_at hl 8 rfl) ?_
        refine lv_iload hx hcd dX3_drawLine_39 (lv_at hl 4 rfl) ?_
        refine wi_imul hx hcd dX3_drawLine_41 ?_
        refine lv_iload hx hcd dX3_drawLine_42 (lv_at hl 7 rfl) ?_
        refine cS_i (wc := []) (wr := [BPap G qp w9 N f9]) (w1 := fun _ => []) (Bs1 := fun _ => [BPap G qp w9 N f9]) (As := [.int (iI (i * dy)), .int (iI (mxa dx dy))]) (rest := [.int (iI yy), .int (iI (x + (rnd (i * dx) (mxa dx dy)))), .ref (qp 0)]) (kX3_rounded l D G (i * dy) (mxa dx dy) (by omega) (by omega)) rfl ⟨hx, hcd, hml, hown, hts⟩ (va_cwS 2 hts gX3_drawLine_X3_rounded rfl rfl rfl (by decide +kernel) ⟨by decide, by decide⟩) rfl hl.1 (Nat.le_of_ble_eq_true rfl) ⟨Nat.le_of_ble_eq_true rfl, Nat.le_of_ble_eq_true rfl⟩ dX3_drawLine_44 hK hP hD hS hA (perm_idx [0] rfl rfl) (fun _ => perm_idx [0] rfl rfl) (fun r u H locs hw2 hP hD hS => ?_)
        subst hw2
        refine wi_iadd hx hcd dX3_drawLine_47 ?_
        refine lv_iload hx hcd dX3_drawLine_48 (lv_at hl 5 rfl) ?_
        refine lv_iload hx hcd dX3_drawLine_50 (lv_at hl 6 rfl) ?_
        refine cV_v (wc := [BPap G qp w9 N f9]) (wr := []) (w1 := fun u => [BPap G qp u N (if (orM M (lnS cC x yy dx dy (mxa dx dy) (i - 1).toNat)) ((yy + (rnd (i * dy) (mxa dx dy))) * 120 + (x + (rnd (i * dx) (mxa dx dy)))).toNat = true ∨ N ≤ ((yy + (rnd (i * dy) (mxa dx dy))) * 120 + (x + (rnd (i * dx) (mxa dx dy)))).toNat then f9 else va_up f9 ((yy + (rnd (i * dy) (mxa dx dy))) * 120 + (x + (rnd (i * dx) (mxa dx dy)))).toNat (k * 100 + t))]) (Bs1 := fun u => [BPap G qp u N (if (orM M (lnS cC x yy dx dy (mxa dx dy) (i - 1).toNat)) ((yy + (rnd (i * dy) (mxa dx dy))) * 120 + (x + (rnd (i * dx) (mxa dx dy)))).toNat = true ∨ N ≤ ((yy + (rnd (i * dy) (mxa dx dy))) * 120 + (x + (rnd (i * dx) (mxa dx dy)))).toNat then f9 else va_up f9 ((yy + (rnd (i * dy) (mxa dx dy))) * 120 + (x + (rnd (i * dx) (mxa dx dy)))).toNat (k * 100 + t))]) (As := [.int (iI (x + (rnd (i * dx) (mxa dx dy)))), .int (iI (yy + (rnd (i * dy) (mxa dx dy)))), .int (iI k), .int (iI t)]) (rest := []) (kX6_put l D G qp w9 N f9 (orM M (lnS cC x yy dx dy (mxa dx dy) (i - 1).toNat)) (x + (rnd (i * dx) (mxa dx dy))) (yy + (rnd (i * dy) (mxa dx dy))) k t (by first | assumption | omega) (by first | assumption | omega) (by omega) (by omega)) rfl ⟨hx, hcd, hml, hown, hts⟩ (cwV 4 hts gX3_drawLine_X6_put rfl rfl rfl (by decide +kernel) ⟨by decide, by decide⟩) (q0 := 0) (ci := 6) rfl rfl rfl rfl hl.1 (Nat.le_of_ble_eq_true rfl) ⟨Nat.le_of_ble_eq_true rfl, Nat.le_of_ble_eq_true rfl⟩ dX3_drawLine_52 hK hP hD hS hA (perm_idx [0] rfl rfl) (fun _ => perm_idx [0] rfl rfl) (fun u H locs hw4 hP hD hS => ?_)
        obtain ⟨w23, rfl⟩ : ∃ z, z = u := ⟨_, rfl⟩
        refine lv_iinc (v := iI (i + 1)) (lv' := [(8, .int (iI (i + 1))), (0, .ref (qp 0)), (1, .int (iI x)), (2, .int (iI yy)), (3, .int (iI dx)), (4, .int (iI dy)), (5, .int (iI k)), (6, .int (iI t)), (7, .int (iI (mxa dx dy)))]) hx hcd dX3_drawLine_55 hl (k := 8) rfl (iI_add _ _) (by decide) rfl (fun ls hl => ?_)
        refine lv_goto (tgt := 17) hx hcd dX3_drawLine_58 (by decide) ?_
        have hf8 : (if orM M (lnS cC x yy dx dy (mxa dx dy) (i - 1).toNat) ((yy + rnd (i * dy) (mxa dx dy)) * 120 + (x + rnd (i * dx) (mxa dx dy))).toNat = true ∨ N ≤ ((yy + rnd (i * dy) (mxa dx dy)) * 120 + (x + rnd (i * dx) (mxa dx dy))).toNat then f9 else va_up f9 ((yy + rnd (i * dy) (mxa dx dy)) * 120 + (x + rnd (i * dx) (mxa dx dy))).toNat (k * 100 + t)) = fiU N M (lnS cC x yy dx dy (mxa dx dy) (i + 1 - 1).toNat) (k * 100 + t) fi := by
          rw [lnS_s (by omega), hf]
          exact fiU_put _ _ _ _ _ _
        exact ih17 (i + 1) w23 (if (orM M (lnS cC x yy dx dy (mxa dx dy) (i - 1).toNat)) ((yy + (rnd (i * dy) (mxa dx dy))) * 120 + (x + (rnd (i * dx) (mxa dx dy)))).toNat = true ∨ N ≤ ((yy + (rnd (i * dy) (mxa dx dy))) * 120 + (x + (rnd (i * dx) (mxa dx dy)))).toNat then f9 else va_up f9 ((yy + (rnd (i * dy) (mxa dx dy))) * 120 + (x + (rnd (i * dx) (mxa dx dy)))).toNat (k * 100 + t)) _ _ _ (by omega) (by omega) (bits_ext (by assumption) (fun c => by rw [lnS_s (by omega)]; unfold orM; rw [Bool.or_assoc]; rfl)) (hf8) hP hD hS (lv_sub hl [1, 2, 3, 4, 5, 6, 7, 8, 0] rfl)
  exact L17 (((mxa dx dy + 1 - 1) + 1 : Int)).toNat 1 wd fi _ _ _ (by omega) (by omega) (bits_ext hM (fun c => by show M c = (M c || false); rw [Bool.or_false])) (by funext c; unfold fiU; rw [if_neg]; intro q; exact absurd q.2.2 Bool.false_ne_true) hP hD hS (lv_sub hl [2, 3, 4, 5, 6, 7, 8, 1, 0] rfl)

abbrev rmX3_writeStep : Room := { frames := 3, cells := 0, slots := 0, locals := 76 }
set_option maxHeartbeats 4000000 in
set_option maxRecDepth 100000 in
theorem kX3_writeStep (l : Launch) (D : va_G) (G : Nat → ClassId) (qh : Nat) (qm : Nat → Nat) (ac : Nat → Int) (up : Nat → Int) (li : Nat → Int) (le : Nat → Int) (pg : Int) (spc : Int) (q : Nat → Nat) (st : Int) (th : Nat → Int) (R : Nat → Nat → Int) (sp : Nat → Int) (qf : Nat) (wo : Int) (lo : Int) (be : Int) (qp : Nat → Nat) (wd : Nat → Int64) (N : Nat) (fi : Nat → Int) (M : Nat → Bool) (k : Int) (t : Int) (hR : ∀ i j, 0 ≤ R i j ∧ R i j ≤ 9) (hwo : -1 ≤ wo ∧ wo ≤ 11) (hbe : -1 ≤ be ∧ be ≤ 1) (hac : ∀ k, 0 ≤ ac k ∧ ac k ≤ 11) (hup : ∀ k, 0 ≤ up k ∧ up k ≤ 11) (hli : ∀ k, 0 ≤ li k ∧ li k ≤ 11) (hle : ∀ k, 0 ≤ le k ∧ le k ≤ 9) (hsp : 0 ≤ spc ∧ spc ≤ 9) (hM : bits wd M) (hN : N ≤ 1200) (hk : 0 ≤ k ∧ k < 12) (ht : 0 ≤ t ∧ t < 16) : CtV l yX3_writeStep wsX3_writeStep rmX3_writeStep D G [.ref qh, .ref qf, .ref (qp 0), .int (iI k), .int (iI t)] [BHan qh (q 0) (qm 0), BMsg G qm ac up li le pg spc, BCams G q st th R sp, BFlt qf wo lo be, BPap G qp wd N fi] (fun u : (Nat → Int64) => bits u (orM M (SS cC R ac up li le spc wo be k t))) (fun u => [BHan qh (q 0) (qm 0), BMsg G qm ac up li le pg spc, BCams G q st th R sp, BFlt qf wo lo be, BPap G qp u N (fiU N M (SS cC R ac up li le spc wo be k t) (k * 100 + t) fi)]) := by
  refine CtV.of (cc := cX3_writeStep) (maxL := 9) (by decide) rfl (Nat.le_of_ble_eq_true rfl) ?_
  intro p0 e0 s0 m0 args bel met cd A0 ls Q0 hx hcd hml hown hts hK hP hD hA hl fin
  have hl : lv_has ls 9 [(0, .ref qh), (1, .ref qf), (2, .ref (qp 0)), (3, .int (iI k)), (4, .int (iI t))] := hl
  have hS : va_S A0 s0.heap s0.heap [] := va_S.rf
  have hH : va_P D vwCl (fl [BHan qh (q 0) (qm 0), BMsg G qm ac up li le pg spc, BCams G q st th R sp, BFlt qf wo lo be, BPap G qp wd N fi]) s0.heap := hP
  obtain ⟨H, eH⟩ : ∃ H, H = s0.heap := ⟨_, rfl⟩
  obtain ⟨locs, eL⟩ : ∃ locs : List Loc, locs = [] := ⟨_, rfl⟩
  have hS : va_S A0 s0.heap H locs := by rw [eH, eL]; exact hS
  have hP : va_P D vwCl (fl [BHan qh (q 0) (qm 0), BMsg G qm ac up li le pg spc, BCams G q st th R sp, BFlt qf wo lo be, BPap G qp wd N fi]) H := by rw [eH]; exact hP
  suffices goal : W p0 l e0 rmX3_writeStep s0 m0 args bel met cd H locs 0 0 Q0 (F0 m0 0 ls []) by rw [eH, eL] at goal; exact goal
  clear eH eL hH
  have x1 := xA_rng hR (ac := ac) (le := le) (spc := spc) (wo := wo) (be := be) (k := k) (t := t) hsp hk
  have y1 := yA_rng hR (up := up) (le := le) (wo := wo) (be := be) (k := k) (t := t)
  have x0 := xA_rng hR (ac := ac) (le := le) (spc := spc) (wo := wo) (be := be) (k := k) (t := t - 1) hsp hk
  have y0 := yA_rng hR (up := up) (le := le) (wo := wo) (be := be) (k := k) (t := t - 1)
  have d1 := dwn_01 R li le wo k t
  have d0 := dwn_01 R li le wo k (t - 1)
  refine lv_aload_n hx hcd dX3_writeStep_0 rfl (lv_at hl 0 rfl) ?_
  refine lv_aload_n hx hcd dX3_writeStep_1 rfl (lv_at hl 1 rfl) ?_
  refine lv_iload_n hx hcd dX3_writeStep_2 rfl (lv_at hl 3 rfl) ?_
  refine lv_iload hx hcd dX3_writeStep_3 (lv_at hl 4 rfl) ?_
  refine cV_i (wc := [BHan qh (q 0) (qm 0), BMsg G qm ac up li le pg spc, BCams G q st th R sp, BFlt qf wo lo be]) (wr := [BPap G qp wd N fi]) (w1 := fun _ => [BHan qh (q 0) (qm 0), BMsg G qm ac up li le pg spc, BCams G q st th R sp, BFlt qf wo lo be]) (Bs1 := fun _ => [BHan qh (q 0) (qm 0), BMsg G qm ac up li le pg spc, BCams G q st th R sp, BFlt qf wo lo be, BPap G qp wd N fi]) (As := [.ref qf, .int (iI k), .int (iI t)]) (rest := []) (kX3_isDown l D G qh qm ac up li le pg spc q st th R sp qf wo lo be k t (by first | assumption | omega) (by first | assumption | omega) (by first | assumption | omega) (by first | assumption | omega) (by first | assumption | omega) (by first | assumption | omega)) rfl ⟨hx, hcd, hml, hown, hts⟩ (cwV 3 hts gX3_writeStep_X3_isDown rfl rfl rfl (by decide +kernel) ⟨by decide, by decide⟩) (q0 := 0) (ci := 3) rfl rfl rfl rfl hl.1 (Nat.le_of_ble_eq_true rfl) ⟨Nat.le_of_ble_eq_true rfl, Nat.le_of_ble_eq_true rfl⟩ dX3_writeStep_5 hK hP hD hS hA (perm_idx [0, 1, 2, 3, 4] rfl rfl) (fun _ => perm_idx [0, 1, 2, 3, 4] rfl rfl) (fun r u H locs hw1 hP hD hS => ?_)
  subst hw1
  refine wi_if_ne (tgt := 12) hx hcd (by omega) dX3_writeStep_8 (by decide) (fun c8 => ?_) (fun c8 => ?_)
  ·
    refine lv_aload_n hx hcd dX3_writeStep_12 rfl (lv_at hl 0 rfl) ?_
    refine lv_aload_n hx hcd dX3_writeStep_13 rfl (lv_at hl 1 rfl) ?_
    refine lv_iload_n hx hcd dX3_writeStep_14 rfl (lv_at hl 3 rfl) ?_
    refine lv_iload hx hcd dX3_writeStep_15 (lv_at hl 4 rfl) ?_
    refine cV_i (wc := [BHan qh (q 0) (qm 0), BMsg G qm ac up li le pg spc, BCams G q st th R sp, BFlt qf wo lo be]) (wr := [BPap G qp wd N fi]) (w1 := fun _ => [BHan qh (q 0) (qm 0), BMsg G qm ac up li le pg spc, BCams G q st th R sp, BFlt qf wo lo be]) (Bs1 := fun _ => [BHan qh (q 0) (qm 0), BMsg G qm ac up li le pg spc, BCams G q st th R sp, BFlt qf wo lo be, BPap G qp wd N fi]) (As := [.ref qf, .int (iI k), .int (iI t)]) (rest := []) (kX3_xAt l D G qh qm ac up li le pg spc q st th R sp qf wo lo be k t (by first | assumption | omega) (by first | assumption | omega) (by first | assumption | omega) (by first | assumption | omega) (by first | assumption | omega) (by first | assumption | omega) (by first | assumption | omega)) rfl ⟨hx, hcd, hml, hown, hts⟩ (cwV 3 hts gX3_writeStep_X3_xAt rfl rfl rfl (by decide +kernel) ⟨by decide, by decide⟩) (q0 := 0) (ci := 3) rfl rfl rfl rfl hl.1 (Nat.le_of_ble_eq_true rfl) ⟨Nat.le_of_ble_eq_true rfl, Nat.le_of_ble_eq_true rfl⟩ dX3_writeStep_17 hK hP hD hS hA (perm_idx [0, 1, 2, 3, 4] rfl rfl) (fun _ => perm_idx [0, 1, 2, 3, 4] rfl rfl) (fun r u H locs hw2 hP hD hS => ?_)
    subst hw2
    refine lv_istore (lv' := [(5, .int (iI (xA R ac le spc wo be k t))), (0, .ref qh), (1, .ref qf), (2, .ref (qp 0)), (3, .int (iI k)), (4, .int (iI t))]) hx hcd dX3_writeStep_20 hl (by decide) rfl (fun ls hl => ?_)
    refine lv_aload_n hx hcd dX3_writeStep_22 rfl (lv_at hl 1 rfl) ?_
    refine lv_aload_n hx hcd dX3_writeStep_23 rfl (lv_at hl 2 rfl) ?_
    refine lv_iload_n hx hcd dX3_writeStep_24 rfl (lv_at hl 4 rfl) ?_
    refine lv_iload hx hcd dX3_writeStep_25 (lv_at hl 5 rfl) ?_
    refine cV_i (wc := [BHan qh (q 0) (qm 0), BMsg G qm ac up li le pg spc, BCams G q st th R sp, BFlt qf wo lo be]) (wr := [BPap G qp wd N fi]) (w1 := fun _ => [BHan qh (q 0) (qm 0), BMsg G qm ac up li le pg spc, BCams G q st th R sp, BFlt qf wo lo be]) (Bs1 := fun _ => [BHan qh (q 0) (qm 0), BMsg G qm ac up li le pg spc, BCams G q st th R sp, BFlt qf wo lo be, BPap G qp wd N fi]) (As := [.ref qf, .int (iI k), .int (iI t)]) (rest := []) (kX3_yAt l D G qh qm ac up li le pg spc q st th R sp qf wo lo be k t (by first | assumption | omega) (by first | assumption | omega) (by first | assumption | omega) (by first | assumption | omega) (by first | assumption | omega) (by first | assumption | omega) (by first | assumption | omega)) rfl ⟨hx, hcd, hml, hown, hts⟩ (cwV 3 hts gX3_writeStep_X3_yAt rfl rfl rfl (by decide +kernel) ⟨by decide, by decide⟩) (q0 := 0) (ci := 3) rfl rfl rfl rfl hl.1 (Nat.le_of_ble_eq_true rfl) ⟨Nat.le_of_ble_eq_true rfl, Nat.le_of_ble_eq_true rfl⟩ dX3_writeStep_27 hK hP hD hS hA (perm_idx [0, 1, 2, 3, 4] rfl rfl) (fun _ => perm_idx [0, 1, 2, 3, 4] rfl rfl) (fun r u H locs hw3 hP hD hS => ?_)
    subst hw3
    refine lv_istore (lv' := [(6, .int (iI (yA R up le wo be k t))), (5, .int (iI (xA R ac le spc wo be k t))), (0, .ref qh), (1, .ref qf), (2, .ref (qp 0)), (3, .int (iI k)), (4, .int (iI t))]) hx hcd dX3_writeStep_30 hl (by decide) rfl (fun ls hl => ?_)
    refine lv_aload_n hx hcd dX3_writeStep_32 rfl (lv_at hl 4 rfl) ?_
    refine lv_iload hx hcd dX3_writeStep_33 (lv_at hl 1 rfl) ?_
    refine lv_iload hx hcd dX3_writeStep_35 (lv_at hl 0 rfl) ?_
    refine lv_iload_n hx hcd dX3_writeStep_37 rfl (lv_at hl 5 rfl) ?_
    refine lv_iload hx hcd dX3_writeStep_38 (lv_at hl 6 rfl) ?_
    refine cV_v (wc := [BPap G qp wd N fi]) (wr := [BHan qh (q 0) (qm 0), BMsg G qm ac up li le pg spc, BCams G q st th R sp, BFlt qf wo lo be]) (w1 := fun u => [BPap G qp u N (if M ((yA R up le wo be k t) * 120 + (xA R ac le spc wo be k t)).toNat = true ∨ N ≤ ((yA R up le wo be k t) * 120 + (xA R ac le spc wo be k t)).toNat then fi else va_up fi ((yA R up le wo be k t) * 120 + (xA R ac le spc wo be k t)).toNat (k * 100 + t))]) (Bs1 := fun u => [BHan qh (q 0) (qm 0), BMsg G qm ac up li le pg spc, BCams G q st th R sp, BFlt qf wo lo be, BPap G qp u N (if M ((yA R up le wo be k t) * 120 + (xA R ac le spc wo be k t)).toNat = true ∨ N ≤ ((yA R up le wo be k t) * 120 + (xA R ac le spc wo be k t)).toNat then fi else va_up fi ((yA R up le wo be k t) * 120 + (xA R ac le spc wo be k t)).toNat (k * 100 + t))]) (As := [.int (iI (xA R ac le spc wo be k t)), .int (iI (yA R up le wo be k t)), .int (iI k), .int (iI t)]) (rest := []) (kX6_put l D G qp wd N fi M (xA R ac le spc wo be k t) (yA R up le wo be k t) k t (by first | assumption | omega) (by first | assumption | omega) (by first | assumption | omega) (by first | assumption | omega)) rfl ⟨hx, hcd, hml, hown, hts⟩ (cwV 4 hts gX3_writeStep_X6_put rfl rfl rfl (by decide +kernel) ⟨by decide, by decide⟩) (q0 := 0) (ci := 6) rfl rfl rfl rfl hl.1 (Nat.le_of_ble_eq_true rfl) ⟨Nat.le_of_ble_eq_true rfl, Nat.le_of_ble_eq_true rfl⟩ dX3_writeStep_40 hK hP hD hS hA (perm_idx [4, 0, 1, 2, 3] rfl rfl) (fun _ => perm_idx [1, 2, 3, 4, 0] rfl rfl) (fun u H locs hw5 hP hD hS => ?_)
    obtain ⟨w24, rfl⟩ : ∃ z, z = u := ⟨_, rfl⟩
    refine lv_iload hx hcd dX3_writeStep_43 (lv_at hl 6 rfl) ?_
    refine wi_if_le (tgt := 106) hx hcd (by omega) dX3_writeStep_45 (by decide) (fun c45 => ?_) (fun c45 => ?_)
    ·
      rw [show BPap G qp w24 N (if M ((yA R up le wo be k t) * 120 + (xA R ac le spc wo be k t)).toNat = true ∨ N ≤ ((yA R up le wo be k t) * 120 + (xA R ac le spc wo be k t)).toNat then fi else va_up fi ((yA R up le wo be k t) * 120 + (xA R ac le spc wo be k t)).toNat (k * 100 + t)) = BPap G qp w24 N (fiU N M (SS cC R ac up li le spc wo be k t) (k * 100 + t) fi) from congrArg (fun z_ : Nat → Int => BPap G qp w24 N z_) (show (if M ((yA R up le wo be k t) * 120 + (xA R ac le spc wo be k t)).toNat = true ∨ N ≤ ((yA R up le wo be k t) * 120 + (xA R ac le spc wo be k t)).toNat then fi else va_up fi ((yA R up le wo be k t) * 120 + (xA R ac le spc wo be k t)).toNat (k * 100 + t) : Nat → Int) = (fiU N M (SS cC R ac up li le spc wo be k t) (k * 100 + t) fi) from by first | (rw [SS_1 c8 (by omega)]; exact fiU_one _ _ _ _ _) | (rw [SS_2 c8 ⟨by omega, by omega⟩]; exact fiU_two _ _ _ _ _ _))] at hP hD
      exact fin w24 H locs ls 106 dX3_writeStep_106 hP hD hS (by first | (rw [SS_1 c8 (by omega)]; exact bits_ext (by assumption) (fun c => rfl)) | (rw [SS_2 c8 ⟨by omega, by omega⟩]; exact bits_ext (by assumption) (fun c => by unfold orM; simp only [Bool.or_assoc]; rfl)))
    ·
      refine lv_aload_n hx hcd dX3_writeStep_48 rfl (lv_at hl 2 rfl) ?_
      refine lv_aload_n hx hcd dX3_writeStep_49 rfl (lv_at hl 3 rfl) ?_
      refine lv_iload_n hx hcd dX3_writeStep_50 rfl (lv_at hl 5 rfl) ?_
      refine lv_iload hx hcd dX3_writeStep_51 (lv_at hl 6 rfl) ?_
      refine wi_iconst hx hcd dX3_writeStep_53 ?_
      refine wi_isub hx hcd dX3_writeStep_54 ?_
      refine cV_i (wc := [BHan qh (q 0) (qm 0), BMsg G qm ac up li le pg spc, BCams G q st th R sp, BFlt qf wo lo be]) (wr := [BPap G qp w24 N (if M ((yA R up le wo be k t) * 120 + (xA R ac le spc wo be k t)).toNat = true ∨ N ≤ ((yA R up le wo be k t) * 120 + (xA R ac le spc wo be k t)).toNat then fi else va_up fi ((yA R up le wo be k t) * 120 + (xA R ac le spc wo be k t)).toNat (k * 100 + t))]) (w1 := fun _ => [BHan qh (q 0) (qm 0), BMsg G qm ac up li le pg spc, BCams G q st th R sp, BFlt qf wo lo be]) (Bs1 := fun _ => [BHan qh (q 0) (qm 0), BMsg G qm ac up li le pg spc, BCams G q st th R sp, BFlt qf wo lo be, BPap G qp w24 N (if M ((yA R up le wo be k t) * 120 + (xA R ac le spc wo be k t)).toNat = true ∨ N ≤ ((yA R up le wo be k t) * 120 + (xA R ac le spc wo be k t)).toNat then fi else va_up fi ((yA R up le wo be k t) * 120 + (xA R ac le spc wo be k t)).toNat (k * 100 + t))]) (As := [.ref qf, .int (iI k), .int (iI (t - 1))]) (rest := []) (kX3_isDown l D G qh qm ac up li le pg spc q st th R sp qf wo lo be k (t - 1) (by first | assumption | omega) (by first | assumption | omega) (by first | assumption | omega) (by first | assumption | omega) (by first | assumption | omega) (by first | assumption | omega)) rfl ⟨hx, hcd, hml, hown, hts⟩ (cwV 3 hts gX3_writeStep_X3_isDown rfl rfl rfl (by decide +kernel) ⟨by decide, by decide⟩) (q0 := 0) (ci := 3) rfl rfl rfl rfl hl.1 (Nat.le_of_ble_eq_true rfl) ⟨Nat.le_of_ble_eq_true rfl, Nat.le_of_ble_eq_true rfl⟩ dX3_writeStep_55 hK hP hD hS hA (perm_idx [0, 1, 2, 3, 4] rfl rfl) (fun _ => perm_idx [0, 1, 2, 3, 4] rfl rfl) (fun r u H locs hw6 hP hD hS => ?_)
      subst hw6
      refine wi_if_eq (tgt := 106) hx hcd (by omega) dX3_writeStep_58 (by decide) (fun c58 => ?_) (fun c58 => ?_)
      ·
        rw [show BPap G qp w24 N (if M ((yA R up le wo be k t) * 120 + (xA R ac le spc wo be k t)).toNat = true ∨ N ≤ ((yA R up le wo be k t) * 120 + (xA R ac le spc wo be k t)).toNat then fi else va_up fi ((yA R up le wo be k t) * 120 + (xA R ac le spc wo be k t)).toNat (k * 100 + t)) = BPap G qp w24 N (fiU N M (SS cC R ac up li le spc wo be k t) (k * 100 + t) fi) from congrArg (fun z_ : Nat → Int => BPap G qp w24 N z_) (show (if M ((yA R up le wo be k t) * 120 + (xA R ac le spc wo be k t)).toNat = true ∨ N ≤ ((yA R up le wo be k t) * 120 + (xA R ac le spc wo be k t)).toNat then fi else va_up fi ((yA R up le wo be k t) * 120 + (xA R ac le spc wo be k t)).toNat (k * 100 + t) : Nat → Int) = (fiU N M (SS cC R ac up li le spc wo be k t) (k * 100 + t) fi) from by first | (rw [SS_1 c8 (by omega)]; exact fiU_one _ _ _ _ _) | (rw [SS_2 c8 ⟨by omega, by omega⟩]; exact fiU_two _ _ _ _ _ _))] at hP hD
        exact fin w24 H locs ls 106 dX3_writeStep_106 hP hD hS (by first | (rw [SS_1 c8 (by omega)]; exact bits_ext (by assumption) (fun c => rfl)) | (rw [SS_2 c8 ⟨by omega, by omega⟩]; exact bits_ext (by assumption) (fun c => by unfold orM; simp only [Bool.or_assoc]; rfl)))
      ·
        refine lv_aload_n hx hcd dX3_writeStep_61 rfl (lv_at hl 2 rfl) ?_
        refine lv_aload_n hx hcd dX3_writeStep_62 rfl (lv_at hl 3 rfl) ?_
        refine lv_iload_n hx hcd dX3_writeStep_63 rfl (lv_at hl 5 rfl) ?_
        refine lv_iload hx hcd dX3_writeStep_64 (lv_at hl 6 rfl) ?_
        refine wi_iconst hx hcd dX3_writeStep_66 ?_
        refine wi_isub hx hcd dX3_writeStep_67 ?_
        refine cV_i (wc := [BHan qh (q 0) (qm 0), BMsg G qm ac up li le pg spc, BCams G q st th R sp, BFlt qf wo lo be]) (wr := [BPap G qp w24 N (if M ((yA R up le wo be k t) * 120 + (xA R ac le spc wo be k t)).toNat = true ∨ N ≤ ((yA R up le wo be k t) * 120 + (xA R ac le spc wo be k t)).toNat then fi else va_up fi ((yA R up le wo be k t) * 120 + (xA R ac le spc wo be k t)).toNat (k * 100 + t))]) (w1 := fun _ => [BHan qh (q 0) (qm 0), BMsg G qm ac up li le pg spc, BCams G q st th R sp, BFlt qf wo lo be]) (Bs1 := fun _ => [BHan qh (q 0) (qm 0), BMsg G qm ac up li le pg spc, BCams G q st th R sp, BFlt qf wo lo be, BPap G qp w24 N (if M ((yA R up le wo be k t) * 120 + (xA R ac le spc wo be k t)).toNat = true ∨ N ≤ ((yA R up le wo be k t) * 120 + (xA R ac le spc wo be k t)).toNat then fi else va_up fi ((yA R up le wo be k t) * 120 + (xA R ac le spc wo be k t)).toNat (k * 100 + t))]) (As := [.ref qf, .int (iI k), .int (iI (t - 1))]) (rest := []) (kX3_xAt l D G qh qm ac up li le pg spc q st th R sp qf wo lo be k (t - 1) (by first | assumption | omega) (by first | assumption | omega) (by first | assumption | omega) (by first | assumption | omega) (by first | assumption | omega) (by first | assumption | omega) (by first | assumption | omega)) rfl ⟨hx, hcd, hml, hown, hts⟩ (cwV 3 hts gX3_writeStep_X3_xAt rfl rfl rfl (by decide +kernel) ⟨by decide, by decide⟩) (q0 := 0) (ci := 3) rfl rfl rfl rfl hl.1 (Nat.le_of_ble_eq_true rfl) ⟨Nat.le_of_ble_eq_true rfl, Nat.le_of_ble_eq_true rfl⟩ dX3_writeStep_68 hK hP hD hS hA (perm_idx [0, 1, 2, 3, 4] rfl rfl) (fun _ => perm_idx [0, 1, 2, 3, 4] rfl rfl) (fun r u H locs hw7 hP hD hS => ?_)
        subst hw7
        refine lv_istore (lv' := [(7, .int (iI (xA R ac le spc wo be k (t - 1)))), (6, .int (iI (yA R up le wo be k t))), (5, .int (iI (xA R ac le spc wo be k t))), (0, .ref qh), (1, .ref qf), (2, .ref (qp 0)), (3, .int (iI k)), (4, .int (iI t))]) hx hcd dX3_writeStep_71 hl (by decide) rfl (fun ls hl => ?_)
        refine lv_aload_n hx hcd dX3_writeStep_73 rfl (lv_at hl 3 rfl) ?_
        refine lv_aload_n hx hcd dX3_writeStep_74 rfl (lv_at hl 4 rfl) ?_
        refine lv_iload_n hx hcd dX3_writeStep_75 rfl (lv_at hl 6 rfl) ?_
        refine lv_iload hx hcd dX3_writeStep_76 (lv_at hl 7 rfl) ?_
        refine wi_iconst hx hcd dX3_writeStep_78 ?_
        refine wi_isub hx hcd dX3_writeStep_79 ?_
        refine cV_i (wc := [BHan qh (q 0) (qm 0), BMsg G qm ac up li le pg spc, BCams G q st th R sp, BFlt qf wo lo be]) (wr := [BPap G qp w24 N (if M ((yA R up le wo be k t) * 120 + (xA R ac le spc wo be k t)).toNat = true ∨ N ≤ ((yA R up le wo be k t) * 120 + (xA R ac le spc wo be k t)).toNat then fi else va_up fi ((yA R up le wo be k t) * 120 + (xA R ac le spc wo be k t)).toNat (k * 100 + t))]) (w1 := fun _ => [BHan qh (q 0) (qm 0), BMsg G qm ac up li le pg spc, BCams G q st th R sp, BFlt qf wo lo be]) (Bs1 := fun _ => [BHan qh (q 0) (qm 0), BMsg G qm ac up li le pg spc, BCams G q st th R sp, BFlt qf wo lo be, BPap G qp w24 N (if M ((yA R up le wo be k t) * 120 + (xA R ac le spc wo be k t)).toNat = true ∨ N ≤ ((yA R up le wo be k t) * 120 + (xA R ac le spc wo be k t)).toNat then fi else va_up fi ((yA R up le wo be k t) * 120 + (xA R ac le spc wo be k t)).toNat (k * 100 + t))]) (As := [.ref qf, .int (iI k), .int (iI (t - 1))]) (rest := []) (kX3_yAt l D G qh qm ac up li le pg spc q st th R sp qf wo lo be k (t - 1) (by first | assumption | omega) (by first | assumption | omega) (by first | assumption | omega) (by first | assumption | omega) (by first | assumption | omega) (by first | assumption | omega) (by first | assumption | omega)) rfl ⟨hx, hcd, hml, hown, hts⟩ (cwV 3 hts gX3_writeStep_X3_yAt rfl rfl rfl (by decide +kernel) ⟨by decide, by decide⟩) (q0 := 0) (ci := 3) rfl rfl rfl rfl hl.1 (Nat.le_of_ble_eq_true rfl) ⟨Nat.le_of_ble_eq_true rfl, Nat.le_of_ble_eq_true rfl⟩ dX3_writeStep_80 hK hP hD hS hA (perm_idx [0, 1, 2, 3, 4] rfl rfl) (fun _ => perm_idx [0, 1, 2, 3, 4] rfl rfl) (fun r u H locs hw8 hP hD hS => ?_)
        subst hw8
        refine lv_istore (lv' := [(8, .int (iI (yA R up le wo be k (t - 1)))), (7, .int (iI (xA R ac le spc wo be k (t - 1)))), (6, .int (iI (yA R up le wo be k t))), (5, .int (iI (xA R ac le spc wo be k t))), (0, .ref qh), (1, .ref qf), (2, .ref (qp 0)), (3, .int (iI k)), (4, .int (iI t))]) hx hcd dX3_writeStep_83 hl (by decide) rfl (fun ls hl => ?_)
        refine lv_aload_n hx hcd dX3_writeStep_85 rfl (lv_at hl 6 rfl) ?_
        refine lv_iload hx hcd dX3_writeStep_86 (lv_at hl 1 rfl) ?_
        refine lv_iload hx hcd dX3_writeStep_88 (lv_at hl 0 rfl) ?_
        refine lv_iload hx hcd dX3_writeStep_90 (lv_at hl 3 rfl) ?_
        refine lv_iload hx hcd dX3_writeStep_92 (lv_at hl 1 rfl) ?_
        refine wi_isub hx hcd dX3_writeStep_94 ?_
        refine lv_iload hx hcd dX3_writeStep_95 (lv_at hl 2 rfl) ?_
        refine lv_iload hx hcd dX3_writeStep_97 (lv_at hl 0 rfl) ?_
        refine wi_isub hx hcd dX3_writeStep_99 ?_
        refine lv_iload_n hx hcd dX3_writeStep_100 rfl (lv_at hl 7 rfl) ?_
        refine lv_iload hx hcd dX3_writeStep_101 (lv_at hl 8 rfl) ?_
        refine cS_v (wc := [BPap G qp w24 N (if M ((yA R up le wo be k t) * 120 + (xA R ac le spc wo be k t)).toNat = true ∨ N ≤ ((yA R up le wo be k t) * 120 + (xA R ac le spc wo be k t)).toNat then fi else va_up fi ((yA R up le wo be k t) * 120 + (xA R ac le spc wo be k t)).toNat (k * 100 + t))]) (wr := [BHan qh (q 0) (qm 0), BMsg G qm ac up li le pg spc, BCams G q st th R sp, BFlt qf wo lo be]) (w1 := fun u => [BPap G qp u N (fiU N (fun c => M c || decide (c = ((yA R up le wo be k t) * 120 + (xA R ac le spc wo be k t)).toNat)) (lnS cC (xA R ac le spc wo be k (t - 1)) (yA R up le wo be k (t - 1)) ((xA R ac le spc wo be k t) - (xA R ac le spc wo be k (t - 1))) ((yA R up le wo be k t) - (yA R up le wo be k (t - 1))) (mxa ((xA R ac le spc wo be k t) - (xA R ac le spc wo be k (t - 1))) ((yA R up le wo be k t) - (yA R up le wo be k (t - 1)))) (mxa ((xA R ac le spc wo be k t) - (xA R ac le spc wo be k (t - 1))) ((yA R up le wo be k t) - (yA R up le wo be k (t - 1))) - 1).toNat) (k * 100 + t) (if M ((yA R up le wo be k t) * 120 + (xA R ac le spc wo be k t)).toNat = true ∨ N ≤ ((yA R up le wo be k t) * 120 + (xA R ac le spc wo be k t)).toNat then fi else va_up fi ((yA R up le wo be k t) * 120 + (xA R ac le spc wo be k t)).toNat (k * 100 + t)))]) (Bs1 := fun u => [BHan qh (q 0) (qm 0), BMsg G qm ac up li le pg spc, BCams G q st th R sp, BFlt qf wo lo be, BPap G qp u N (fiU N (fun c => M c || decide (c = ((yA R up le wo be k t) * 120 + (xA R ac le spc wo be k t)).toNat)) (lnS cC (xA R ac le spc wo be k (t - 1)) (yA R up le wo be k (t - 1)) ((xA R ac le spc wo be k t) - (xA R ac le spc wo be k (t - 1))) ((yA R up le wo be k t) - (yA R up le wo be k (t - 1))) (mxa ((xA R ac le spc wo be k t) - (xA R ac le spc wo be k (t - 1))) ((yA R up le wo be k t) - (yA R up le wo be k (t - 1)))) (mxa ((xA R ac le spc wo be k t) - (xA R ac le spc wo be k (t - 1))) ((yA R up le wo be k t) - (yA R up le wo be k (t - 1))) - 1).toNat) (k * 100 + t) (if M ((yA R up le wo be k t) * 120 + (xA R ac le spc wo be k t)).toNat = true ∨ N ≤ ((yA R up le wo be k t) * 120 + (xA R ac le spc wo be k t)).toNat then fi else va_up fi ((yA R up le wo be k t) * 120 + (xA R ac le spc wo be k t)).toNat (k * 100 + t)))]) (As := [.ref (qp 0), .int (iI (xA R ac le spc wo be k (t - 1))), .int (iI (yA R up le wo be k (t - 1))), .int (iI ((xA R ac le spc wo be k t) - (xA R ac le spc wo be k (t - 1)))), .int (iI ((yA R up le wo be k t) - (yA R up le wo be k (t - 1)))), .int (iI k), .int (iI t)]) (rest := []) (kX3_drawLine l D G qp w24 N (if M ((yA R up le wo be k t) * 120 + (xA R ac le spc wo be k t)).toNat = true ∨ N ≤ ((yA R up le wo be k t) * 120 + (xA R ac le spc wo be k t)).toNat then fi else va_up fi ((yA R up le wo be k t) * 120 + (xA R ac le spc wo be k t)).toNat (k * 100 + t)) (fun c => M c || decide (c = ((yA R up le wo be k t) * 120 + (xA R ac le spc wo be k t)).toNat)) (xA R ac le spc wo be k (t - 1)) (yA R up le wo be k (t - 1)) ((xA R ac le spc wo be k t) - (xA R ac le spc wo be k (t - 1))) ((yA R up le wo be k t) - (yA R up le wo be k (t - 1))) k t (by first | assumption | omega) (by first | assumption | omega) (by first | assumption | omega) (by first | assumption | omega)) rfl ⟨hx, hcd, hml, hown, hts⟩ (va_cwS 7 hts gX3_writeStep_X3_drawLine rfl rfl rfl (by decide +kernel) ⟨by decide, by decide⟩) rfl hl.1 (Nat.le_of_ble_eq_true rfl) ⟨Nat.le_of_ble_eq_true rfl, Nat.le_of_ble_eq_true rfl⟩ dX3_writeStep_103 hK hP hD hS hA (perm_idx [4, 0, 1, 2, 3] rfl rfl) (fun _ => perm_idx [1, 2, 3, 4, 0] rfl rfl) (fun u H locs hw10 hP hD hS => ?_)
        obtain ⟨w29, rfl⟩ : ∃ z, z = u := ⟨_, rfl⟩
        rw [show BPap G qp w29 N (fiU N (fun c => M c || decide (c = ((yA R up le wo be k t) * 120 + (xA R ac le spc wo be k t)).toNat)) (lnS cC (xA R ac le spc wo be k (t - 1)) (yA R up le wo be k (t - 1)) ((xA R ac le spc wo be k t) - (xA R ac le spc wo be k (t - 1))) ((yA R up le wo be k t) - (yA R up le wo be k (t - 1))) (mxa ((xA R ac le spc wo be k t) - (xA R ac le spc wo be k (t - 1))) ((yA R up le wo be k t) - (yA R up le wo be k (t - 1)))) (mxa ((xA R ac le spc wo be k t) - (xA R ac le spc wo be k (t - 1))) ((yA R up le wo be k t) - (yA R up le wo be k (t - 1))) - 1).toNat) (k * 100 + t) (if M ((yA R up le wo be k t) * 120 + (xA R ac le spc wo be k t)).toNat = true ∨ N ≤ ((yA R up le wo be k t) * 120 + (xA R ac le spc wo be k t)).toNat then fi else va_up fi ((yA R up le wo be k t) * 120 + (xA R ac le spc wo be k t)).toNat (k * 100 + t))) = BPap G qp w29 N (fiU N M (SS cC R ac up li le spc wo be k t) (k * 100 + t) fi) from congrArg (fun z_ : Nat → Int => BPap G qp w29 N z_) (show (fiU N (fun c => M c || decide (c = ((yA R up le wo be k t) * 120 + (xA R ac le spc wo be k t)).toNat)) (lnS cC (xA R ac le spc wo be k (t - 1)) (yA R up le wo be k (t - 1)) ((xA R ac le spc wo be k t) - (xA R ac le spc wo be k (t - 1))) ((yA R up le wo be k t) - (yA R up le wo be k (t - 1))) (mxa ((xA R ac le spc wo be k t) - (xA R ac le spc wo be k (t - 1))) ((yA R up le wo be k t) - (yA R up le wo be k (t - 1)))) (mxa ((xA R ac le spc wo be k t) - (xA R ac le spc wo be k (t - 1))) ((yA R up le wo be k t) - (yA R up le wo be k (t - 1))) - 1).toNat) (k * 100 + t) (if M ((yA R up le wo be k t) * 120 + (xA R ac le spc wo be k t)).toNat = true ∨ N ≤ ((yA R up le wo be k t) * 120 + (xA R ac le spc wo be k t)).toNat then fi else va_up fi ((yA R up le wo be k t) * 120 + (xA R ac le spc wo be k t)).toNat (k * 100 + t)) : Nat → Int) = (fiU N M (SS cC R ac up li le spc wo be k t) (k * 100 + t) fi) from by first | (rw [SS_1 c8 (by omega)]; exact fiU_one _ _ _ _ _) | (rw [SS_2 c8 ⟨by omega, by omega⟩]; exact fiU_two _ _ _ _ _ _))] at hP hD
        exact fin w29 H locs ls 106 dX3_writeStep_106 hP hD hS (by first | (rw [SS_1 c8 (by omega)]; exact bits_ext (by assumption) (fun c => rfl)) | (rw [SS_2 c8 ⟨by omega, by omega⟩]; exact bits_ext (by assumption) (fun c => by unfold orM; simp only [Bool.or_assoc]; rfl)))
  ·
    rw [show BPap G qp wd N fi = BPap G qp wd N (fiU N M (SS cC R ac up li le spc wo be k t) (k * 100 + t) fi) from congrArg (fun z_ : Nat → Int => BPap G qp wd N z_) (show (fi : Nat → Int) = (fiU N M (SS cC R ac up li le spc wo be k t) (k * 100 + t) fi) from by rw [SS_0 c8, fiU_non])] at hP hD
    exact fin wd H locs ls 11 dX3_writeStep_11 hP hD hS (by rw [SS_0 c8]; exact bits_ext hM (fun c => by show M c = (M c || false); rw [Bool.or_false]))
