abbrev rmX5_pegs : Room := { frames := 0, cells := 0, slots := 0, locals := 0 }
set_option maxHeartbeats 4000000 in
set_option maxRecDepth 100000 in
theorem kX5_pegs (l : Launch) (D : va_G) (G : Nat → ClassId) (qm : Nat → Nat) (ac : Nat → Int) (up : Nat → Int) (li : Nat → Int) (le : Nat → Int) (pg : Int) (spc : Int) : CtI l yX5_pegs wsX5_pegs rmX5_pegs D G [.ref (qm 0)] [BMsg G qm ac up li le pg spc] (fun (r : Int32) (_ : Unit) => r = iI pg) (fun _ => [BMsg G qm ac up li le pg spc]) := by
  refine CtI.ofI (cc := cX5_pegs) (maxL := 1) (by decide) rfl (Nat.le_of_ble_eq_true rfl) ?_
  intro p0 e0 s0 m0 args bel met cd A0 ls Q0 hx hb hml hown hts hK hP hD hA hl fin
  have hl : lv_has ls 1 [(0, .ref (qm 0))] := hl
  have hS : va_S A0 s0.heap s0.heap [] := va_S.rf
  have hH : va_P D vwCl (fl [BMsg G qm ac up li le pg spc]) s0.heap := hP
  obtain ⟨H, eH⟩ : ∃ H, H = s0.heap := ⟨_, rfl⟩
  obtain ⟨locs, eL⟩ : ∃ locs : List Loc, locs = [] := ⟨_, rfl⟩
  have hS : va_S A0 s0.heap H locs := by rw [eH, eL]; exact hS
  have hP : va_P D vwCl (fl [BMsg G qm ac up li le pg spc]) H := by rw [eH]; exact hP
  suffices goal : W p0 l e0 rmX5_pegs s0 m0 args bel met cd H locs 0 0 Q0 (F0 m0 0 ls []) by rw [eH, eL] at goal; exact goal
  clear eH eL hH
  refine lv_aload_n hx hb dX5_pegs_0 rfl (lv_at hl 0 rfl) ?_
  refine g_get (C := RX5) (T := TX5) (N := 6) hx hb hts (fun _ h => List.mem_cons_of_mem _ (List.mem_append_right _ h)) hown hK hP (i := 0) rfl BMsg_c0 rfl 4 (by decide) (by decide +kernel) rfl dX5_pegs_1 ?_
  exact fin _ () H locs ls 4 dX5_pegs_4 hP hD hS (trivial) (rfl)

abbrev rmX5_space : Room := { frames := 0, cells := 0, slots := 0, locals := 0 }
set_option maxHeartbeats 4000000 in
set_option maxRecDepth 100000 in
theorem kX5_space (l : Launch) (D : va_G) (G : Nat → ClassId) (qm : Nat → Nat) (ac : Nat → Int) (up : Nat → Int) (li : Nat → Int) (le : Nat → Int) (pg : Int) (spc : Int) : CtI l yX5_space wsX5_space rmX5_space D G [.ref (qm 0)] [BMsg G qm ac up li le pg spc] (fun (r : Int32) (_ : Unit) => r = iI spc) (fun _ => [BMsg G qm ac up li le pg spc]) := by
  refine CtI.ofI (cc := cX5_space) (maxL := 1) (by decide) rfl (Nat.le_of_ble_eq_true rfl) ?_
  intro p0 e0 s0 m0 args bel met cd A0 ls Q0 hx hb hml hown hts hK hP hD hA hl fin
  have hl : lv_has ls 1 [(0, .ref (qm 0))] := hl
  have hS : va_S A0 s0.heap s0.heap [] := va_S.rf
  have hH : va_P D vwCl (fl [BMsg G qm ac up li le pg spc]) s0.heap := hP
  obtain ⟨H, eH⟩ : ∃ H, H = s0.heap := ⟨_, rfl⟩
  obtain ⟨locs, eL⟩ : ∃ locs : List Loc, locs = [] := ⟨_, rfl⟩
  have hS : va_S A0 s0.heap H locs := by rw [eH, eL]; exact hS
  have hP : va_P D vwCl (fl [BMsg G qm ac up li le pg spc]) H := by rw [eH]; exact hP
  suffices goal : W p0 l e0 rmX5_space s0 m0 args bel met cd H locs 0 0 Q0 (F0 m0 0 ls []) by rw [eH, eL] at goal; exact goal
  clear eH eL hH
  refine lv_aload_n hx hb dX5_space_0 rfl (lv_at hl 0 rfl) ?_
  refine g_get (C := RX5) (T := TX5) (N := 6) hx hb hts (fun _ h => List.mem_cons_of_mem _ (List.mem_append_right _ h)) hown hK hP (i := 0) rfl BMsg_c0 rfl 5 (by decide) (by decide +kernel) rfl dX5_space_1 ?_
  exact fin _ () H locs ls 4 dX5_space_4 hP hD hS (trivial) (rfl)

abbrev rmX5_setSpace : Room := { frames := 0, cells := 0, slots := 0, locals := 0 }
set_option maxHeartbeats 4000000 in
set_option maxRecDepth 100000 in
theorem kX5_setSpace (l : Launch) (D : va_G) (G : Nat → ClassId) (qm : Nat → Nat) (ac : Nat → Int) (up : Nat → Int) (li : Nat → Int) (le : Nat → Int) (pg : Int) (spc : Int) (v : Int) : CtV l yX5_setSpace wsX5_setSpace rmX5_setSpace D G [.ref (qm 0), .int (iI v)] [BMsg G qm ac up li le pg spc] (fun _ : Unit => True) (fun _ => [BMsg G qm ac up li le pg v]) := by
  refine CtV.of (cc := cX5_setSpace) (maxL := 2) (by decide) rfl (Nat.le_of_ble_eq_true rfl) ?_
  intro p0 e0 s0 m0 args bel met cd A0 ls Q0 hx hb hml hown hts hK hP hD hA hl fin
  have hl : lv_has ls 2 [(0, .ref (qm 0)), (1, .int (iI v))] := hl
  have hS : va_S A0 s0.heap s0.heap [] := va_S.rf
  have hH : va_P D vwCl (fl [BMsg G qm ac up li le pg spc]) s0.heap := hP
  obtain ⟨H, eH⟩ : ∃ H, H = s0.heap := ⟨_, rfl⟩
  obtain ⟨locs, eL⟩ : ∃ locs : List Loc, locs = [] := ⟨_, rfl⟩
  have hS : va_S A0 s0.heap H locs := by rw [eH, eL]; exact hS
  have hP : va_P D vwCl (fl [BMsg G qm ac up li le pg spc]) H := by rw [eH]; exact hP
  suffices goal : W p0 l e0 rmX5_setSpace s0 m0 args bel met cd H locs 0 0 Q0 (F0 m0 0 ls []) by rw [eH, eL] at goal; exact goal
  clear eH eL hH
  refine lv_aload_n hx hb dX5_setSpace_0 rfl (lv_at hl 0 rfl) ?_
  refine lv_iload_n hx hb dX5_setSpace_1 rfl (lv_at hl 1 rfl) ?_
  refine g_put (C := RX5) (T := TX5) (N := 6) hx hb hts (fun _ h => List.mem_cons_of_mem _ (List.mem_append_right _ h)) tyX5 tyX5_ok nmX5 hown hK hP hD hS (i := 0) rfl BMsg_c0 rfl 5 (by decide) (by decide +kernel) rfl (by decide +kernel) (Nat.le_of_ble_eq_true rfl) (B1 := BMsg G qm ac up li le pg v) rfl (Bs1 := [BMsg G qm ac up li le pg v]) rfl dX5_setSpace_2 (fun H locs hP hD hS => ?_)
  exact fin () H locs ls 5 dX5_setSpace_5 hP hD hS (trivial)

abbrev rmX5_setCams : Room := { frames := 0, cells := 0, slots := 0, locals := 0 }
set_option maxHeartbeats 4000000 in
set_option maxRecDepth 100000 in
theorem kX5_setCams (l : Launch) (D : va_G) (G : Nat → ClassId) (qm : Nat → Nat) (ac : Nat → Int) (up : Nat → Int) (li : Nat → Int) (le : Nat → Int) (pg : Int) (spc : Int) (k : Int) (a : Int) (u : Int) (f : Int) (hk : 0 ≤ k ∧ k < 10) : CtV l yX5_setCams wsX5_setCams rmX5_setCams D G [.ref (qm 0), .int (iI k), .int (iI a), .int (iI u), .int (iI f)] [BMsg G qm ac up li le pg spc] (fun _ : Unit => True) (fun _ => [BMsg G qm (va_up ac k.toNat a) (va_up up k.toNat u) (va_up li k.toNat f) le pg spc]) := by
  refine CtV.of (cc := cX5_setCams) (maxL := 5) (by decide) rfl (Nat.le_of_ble_eq_true rfl) ?_
  intro p0 e0 s0 m0 args bel met cd A0 ls Q0 hx hb hml hown hts hK hP hD hA hl fin
  have hl : lv_has ls 5 [(0, .ref (qm 0)), (1, .int (iI k)), (2, .int (iI a)), (3, .int (iI u)), (4, .int (iI f))] := hl
  have hS : va_S A0 s0.heap s0.heap [] := va_S.rf
  have hH : va_P D vwCl (fl [BMsg G qm ac up li le pg spc]) s0.heap := hP
  obtain ⟨H, eH⟩ : ∃ H, H = s0.heap := ⟨_, rfl⟩
  obtain ⟨locs, eL⟩ : ∃ locs : List Loc, locs = [] := ⟨_, rfl⟩
  have hS : va_S A0 s0.heap H locs := by rw [eH, eL]; exact hS
  have hP : va_P D vwCl (fl [BMsg G qm ac up li le pg spc]) H := by rw [eH]; exact hP
  suffices goal : W p0 l e0 rmX5_setCams s0 m0 args bel met cd H locs 0 0 Q0 (F0 m0 0 ls []) by rw [eH, eL] at goal; exact goal
  clear eH eL hH
  refine lv_aload_n hx hb dX5_setCams_0 rfl (lv_at hl 0 rfl) ?_
  refine g_get (C := RX5) (T := TX5) (N := 6) hx hb hts (fun _ h => List.mem_cons_of_mem _ (List.mem_append_right _ h)) hown hK hP (i := 0) rfl BMsg_c0 rfl 0 (by decide) (by decide +kernel) rfl dX5_setCams_1 ?_
  refine lv_iload_n hx hb dX5_setCams_4 rfl (lv_at hl 1 rfl) ?_
  refine lv_iload_n hx hb dX5_setCams_5 rfl (lv_at hl 2 rfl) ?_
  refine g_iast hx hb hK hP hD hS (i := 0) rfl BMsg_c1 (by omega) (by decide) (B1 := BMsg G qm (va_up ac k.toNat a) up li le pg spc) rfl (Bs1 := [BMsg G qm (va_up ac k.toNat a) up li le pg spc]) rfl dX5_setCams_6 (fun H locs hP hD hS => ?_)
  refine lv_aload_n hx hb dX5_setCams_7 rfl (lv_at hl 0 rfl) ?_
  refine g_get (C := RX5) (T := TX5) (N := 6) hx hb hts (fun _ h => List.mem_cons_of_mem _ (List.mem_append_right _ h)) hown hK hP (i := 0) rfl BMsg_c0 rfl 1 (by decide) (by decide +kernel) rfl dX5_setCams_8 ?_
  refine lv_iload_n hx hb dX5_setCams_11 rfl (lv_at hl 1 rfl) ?_
  refine lv_iload_n hx hb dX5_setCams_12 rfl (lv_at hl 3 rfl) ?_
  refine g_iast hx hb hK hP hD hS (i := 0) rfl BMsg_c2 (by omega) (by decide) (B1 := BMsg G qm (va_up ac k.toNat a) (va_up up k.toNat u) li le pg spc) rfl (Bs1 := [BMsg G qm (va_up ac k.toNat a) (va_up up k.toNat u) li le pg spc]) rfl dX5_setCams_13 (fun H locs hP hD hS => ?_)
  refine lv_aload_n hx hb dX5_setCams_14 rfl (lv_at hl 0 rfl) ?_
  refine g_get (C := RX5) (T := TX5) (N := 6) hx hb hts (fun _ h => List.mem_cons_of_mem _ (List.mem_append_right _ h)) hown hK hP (i := 0) rfl BMsg_c0 rfl 2 (by decide) (by decide +kernel) rfl dX5_setCams_15 ?_
  refine lv_iload_n hx hb dX5_setCams_18 rfl (lv_at hl 1 rfl) ?_
  refine lv_iload hx hb dX5_setCams_19 (lv_at hl 4 rfl) ?_
  refine g_iast hx hb hK hP hD hS (i := 0) rfl BMsg_c3 (by omega) (by decide) (B1 := BMsg G qm (va_up ac k.toNat a) (va_up up k.toNat u) (va_up li k.toNat f) le pg spc) rfl (Bs1 := [BMsg G qm (va_up ac k.toNat a) (va_up up k.toNat u) (va_up li k.toNat f) le pg spc]) rfl dX5_setCams_21 (fun H locs hP hD hS => ?_)
  exact fin () H locs ls 22 dX5_setCams_22 hP hD hS (trivial)

abbrev rmX5_addPeg : Room := { frames := 0, cells := 0, slots := 0, locals := 0 }
set_option maxHeartbeats 4000000 in
set_option maxRecDepth 100000 in
theorem kX5_addPeg (l : Launch) (D : va_G) (G : Nat → ClassId) (qm : Nat → Nat) (ac : Nat → Int) (up : Nat → Int) (li : Nat → Int) (le : Nat → Int) (pg : Int) (spc : Int) (k : Int) (hp : 0 ≤ pg ∧ pg < 12) : CtV l yX5_addPeg wsX5_addPeg rmX5_addPeg D G [.ref (qm 0), .int (iI k)] [BMsg G qm ac up li le pg spc] (fun _ : Unit => True) (fun _ => [BMsg G qm ac up li (va_up le pg.toNat k) (pg + 1) spc]) := by
  refine CtV.of (cc := cX5_addPeg) (maxL := 2) (by decide) rfl (Nat.le_of_ble_eq_true rfl) ?_
  intro p0 e0 s0 m0 args bel met cd A0 ls Q0 hx hb hml hown hts hK hP hD hA hl fin
  have hl : lv_has ls 2 [(0, .ref (qm 0)), (1, .int (iI k))] := hl
  have hS : va_S A0 s0.heap s0.heap [] := va_S.rf
  have hH : va_P D vwCl (fl [BMsg G qm ac up li le pg spc]) s0.heap := hP
  obtain ⟨H, eH⟩ : ∃ H, H = s0.heap := ⟨_, rfl⟩
  obtain ⟨locs, eL⟩ : ∃ locs : List Loc, locs = [] := ⟨_, rfl⟩
  have hS : va_S A0 s0.heap H locs := by rw [eH, eL]; exact hS
  have hP : va_P D vwCl (fl [BMsg G qm ac up li le pg spc]) H := by rw [eH]; exact hP
  suffices goal : W p0 l e0 rmX5_addPeg s0 m0 args bel met cd H locs 0 0 Q0 (F0 m0 0 ls []) by rw [eH, eL] at goal; exact goal
  clear eH eL hH
  refine lv_aload_n hx hb dX5_addPeg_0 rfl (lv_at hl 0 rfl) ?_
  refine g_get (C := RX5) (T := TX5) (N := 6) hx hb hts (fun _ h => List.mem_cons_of_mem _ (List.mem_append_right _ h)) hown hK hP (i := 0) rfl BMsg_c0 rfl 3 (by decide) (by decide +kernel) rfl dX5_addPeg_1 ?_
  refine lv_aload_n hx hb dX5_addPeg_4 rfl (lv_at hl 0 rfl) ?_
  refine g_get (C := RX5) (T := TX5) (N := 6) hx hb hts (fun _ h => List.mem_cons_of_mem _ (List.mem_append_right _ h)) hown hK hP (i := 0) rfl BMsg_c0 rfl 4 (by decide) (by decide +kernel) rfl dX5_addPeg_5 ?_
  refine lv_iload_n hx hb dX5_addPeg_8 rfl (lv_at hl 1 rfl) ?_
  refine g_iast hx hb hK hP hD hS (i := 0) rfl BMsg_c4 (by omega) (by decide) (B1 := BMsg G qm ac up li (va_up le pg.toNat k) pg spc) rfl (Bs1 := [BMsg G qm ac up li (va_up le pg.toNat k) pg spc]) rfl dX5_addPeg_9 (fun H locs hP hD hS => ?_)
  refine lv_aload_n hx hb dX5_addPeg_10 rfl (lv_at hl 0 rfl) ?_
  refine lv_dup hx hb dX5_addPeg_11 rfl ?_
  refine g_get (C := RX5) (T := TX5) (N := 6) hx hb hts (fun _ h => List.mem_cons_of_mem _ (List.mem_append_right _ h)) hown hK hP (i := 0) rfl BMsg_c0 rfl 4 (by decide) (by decide +kernel) rfl dX5_addPeg_12 ?_
  refine wi_iconst hx hb dX5_addPeg_15 ?_
  refine wi_iadd hx hb dX5_addPeg_16 ?_
  refine g_put (C := RX5) (T := TX5) (N := 6) hx hb hts (fun _ h => List.mem_cons_of_mem _ (List.mem_append_right _ h)) tyX5 tyX5_ok nmX5 hown hK hP hD hS (i := 0) rfl BMsg_c0 rfl 4 (by decide) (by decide +kernel) rfl (by decide +kernel) (Nat.le_of_ble_eq_true rfl) (B1 := BMsg G qm ac up li (va_up le pg.toNat k) (pg + 1) spc) rfl (Bs1 := [BMsg G qm ac up li (va_up le pg.toNat k) (pg + 1) spc]) rfl dX5_addPeg_17 (fun H locs hP hD hS => ?_)
  exact fin () H locs ls 20 dX5_addPeg_20 hP hD hS (trivial)

abbrev rmX5_dropPeg : Room := { frames := 0, cells := 0, slots := 0, locals := 0 }
set_option maxHeartbeats 4000000 in
set_option maxRecDepth 100000 in
theorem kX5_dropPeg (l : Launch) (D : va_G) (G : Nat → ClassId) (qm : Nat → Nat) (ac : Nat → Int) (up : Nat → Int) (li : Nat → Int) (le : Nat → Int) (pg : Int) (spc : Int) : CtV l yX5_dropPeg wsX5_dropPeg rmX5_dropPeg D G [.ref (qm 0)] [BMsg G qm ac up li le pg spc] (fun _ : Unit => True) (fun _ => [BMsg G qm ac up li le (pg - 1) spc]) := by
  refine CtV.of (cc := cX5_dropPeg) (maxL := 1) (by decide) rfl (Nat.le_of_ble_eq_true rfl) ?_
  intro p0 e0 s0 m0 args bel met cd A0 ls Q0 hx hb hml hown hts hK hP hD hA hl fin
  have hl : lv_has ls 1 [(0, .ref (qm 0))] := hl
  have hS : va_S A0 s0.heap s0.heap [] := va_S.rf
  have hH : va_P D vwCl (fl [BMsg G qm ac up li le pg spc]) s0.heap := hP
  obtain ⟨H, eH⟩ : ∃ H, H = s0.heap := ⟨_, rfl⟩
  obtain ⟨locs, eL⟩ : ∃ locs : List Loc, locs = [] := ⟨_, rfl⟩
  have hS : va_S A0 s0.heap H locs := by rw [eH, eL]; exact hS
  have hP : va_P D vwCl (fl [BMsg G qm ac up li le pg spc]) H := by rw [eH]; exact hP
  suffices goal : W p0 l e0 rmX5_dropPeg s0 m0 args bel met cd H locs 0 0 Q0 (F0 m0 0 ls []) by rw [eH, eL] at goal; exact goal
  clear eH eL hH
  refine lv_aload_n hx hb dX5_dropPeg_0 rfl (lv_at hl 0 rfl) ?_
  refine lv_dup hx hb dX5_dropPeg_1 rfl ?_
  refine g_get (C := RX5) (T := TX5) (N := 6) hx hb hts (fun _ h => List.mem_cons_of_mem _ (List.mem_append_right _ h)) hown hK hP (i := 0) rfl BMsg_c0 rfl 4 (by decide) (by decide +kernel) rfl dX5_dropPeg_2 ?_
  refine wi_iconst hx hb dX5_dropPeg_5 ?_
  refine wi_isub hx hb dX5_dropPeg_6 ?_
  refine g_put (C := RX5) (T := TX5) (N := 6) hx hb hts (fun _ h => List.mem_cons_of_mem _ (List.mem_append_right _ h)) tyX5 tyX5_ok nmX5 hown hK hP hD hS (i := 0) rfl BMsg_c0 rfl 4 (by decide) (by decide +kernel) rfl (by decide +kernel) (Nat.le_of_ble_eq_true rfl) (B1 := BMsg G qm ac up li le (pg - 1) spc) rfl (Bs1 := [BMsg G qm ac up li le (pg - 1) spc]) rfl dX5_dropPeg_7 (fun H locs hP hD hS => ?_)
  exact fin () H locs ls 10 dX5_dropPeg_10 hP hD hS (trivial)

abbrev rmX5_acrossOfPeg : Room := { frames := 0, cells := 0, slots := 0, locals := 0 }
set_option maxHeartbeats 4000000 in
set_option maxRecDepth 100000 in
theorem kX5_acrossOfPeg (l : Launch) (D : va_G) (G : Nat → ClassId) (qm : Nat → Nat) (ac : Nat → Int) (up : Nat → Int) (li : Nat → Int) (le : Nat → Int) (pg : Int) (spc : Int) (k : Int) (hle : ∀ k, 0 ≤ le k ∧ le k ≤ 9) (hk : 0 ≤ k ∧ k < 12) : CtI l yX5_acrossOfPeg wsX5_acrossOfPeg rmX5_acrossOfPeg D G [.ref (qm 0), .int (iI k)] [BMsg G qm ac up li le pg spc] (fun (r : Int32) (_ : Unit) => r = iI (ac (le k.toNat).toNat)) (fun _ => [BMsg G qm ac up li le pg spc]) := by
  refine CtI.ofI (cc := cX5_acrossOfPeg) (maxL := 2) (by decide) rfl (Nat.le_of_ble_eq_true rfl) ?_
  intro p0 e0 s0 m0 args bel met cd A0 ls Q0 hx hb hml hown hts hK hP hD hA hl fin
  have hl : lv_has ls 2 [(0, .ref (qm 0)), (1, .int (iI k))] := hl
  have hS : va_S A0 s0.heap s0.heap [] := va_S.rf
  have hH : va_P D vwCl (fl [BMsg G qm ac up li le pg spc]) s0.heap := hP
  obtain ⟨H, eH⟩ : ∃ H, H = s0.heap := ⟨_, rfl⟩
  obtain ⟨locs, eL⟩ : ∃ locs : List Loc, locs = [] := ⟨_, rfl⟩
  have hS : va_S A0 s0.heap H locs := by rw [eH, eL]; exact hS
  have hP : va_P D vwCl (fl [BMsg G qm ac up li le pg spc]) H := by rw [eH]; exact hP
  suffices goal : W p0 l e0 rmX5_acrossOfPeg s0 m0 args bel met cd H locs 0 0 Q0 (F0 m0 0 ls []) by rw [eH, eL] at goal; exact goal
  clear eH eL hH
  refine lv_aload_n hx hb dX5_acrossOfPeg_0 rfl (lv_at hl 0 rfl) ?_
  refine g_get (C := RX5) (T := TX5) (N := 6) hx hb hts (fun _ h => List.mem_cons_of_mem _ (List.mem_append_right _ h)) hown hK hP (i := 0) rfl BMsg_c0 rfl 0 (by decide) (by decide +kernel) rfl dX5_acrossOfPeg_1 ?_
  refine lv_aload_n hx hb dX5_acrossOfPeg_4 rfl (lv_at hl 0 rfl) ?_
  refine g_get (C := RX5) (T := TX5) (N := 6) hx hb hts (fun _ h => List.mem_cons_of_mem _ (List.mem_append_right _ h)) hown hK hP (i := 0) rfl BMsg_c0 rfl 3 (by decide) (by decide +kernel) rfl dX5_acrossOfPeg_5 ?_
  refine lv_iload_n hx hb dX5_acrossOfPeg_8 rfl (lv_at hl 1 rfl) ?_
  refine g_iald hx hb hK hP (i := 0) rfl BMsg_c4 (by omega) (by decide) dX5_acrossOfPeg_9 ?_
  have f1 := hle k.toNat
  refine g_iald hx hb hK hP (i := 0) rfl BMsg_c1 (by omega) (by decide) dX5_acrossOfPeg_10 ?_
  exact fin _ () H locs ls 11 dX5_acrossOfPeg_11 hP hD hS (trivial) (congrArg iI (by first | rfl | (rw [if_pos (by omega)]) | (rw [if_neg (by omega)]) | (split <;> omega)))

abbrev rmX5_upOfPeg : Room := { frames := 0, cells := 0, slots := 0, locals := 0 }
set_option maxHeartbeats 4000000 in
set_option maxRecDepth 100000 in
theorem kX5_upOfPeg (l : Launch) (D : va_G) (G : Nat → ClassId) (qm : Nat → Nat) (ac : Nat → Int) (up : Nat → Int) (li : Nat → Int) (le : Nat → Int) (pg : Int) (spc : Int) (k : Int) (hle : ∀ k, 0 ≤ le k ∧ le k ≤ 9) (hk : 0 ≤ k ∧ k < 12) : CtI l yX5_upOfPeg wsX5_upOfPeg rmX5_upOfPeg D G [.ref (qm 0), .int (iI k)] [BMsg G qm ac up li le pg spc] (fun (r : Int32) (_ : Unit) => r = iI (up (le k.toNat).toNat)) (fun _ => [BMsg G qm ac up li le pg spc]) := by
  refine CtI.ofI (cc := cX5_upOfPeg) (maxL := 2) (by decide) rfl (Nat.le_of_ble_eq_true rfl) ?_
  intro p0 e0 s0 m0 args bel met cd A0 ls Q0 hx hb hml hown hts hK hP hD hA hl fin
  have hl : lv_has ls 2 [(0, .ref (qm 0)), (1, .int (iI k))] := hl
  have hS : va_S A0 s0.heap s0.heap [] := va_S.rf
  have hH : va_P D vwCl (fl [BMsg G qm ac up li le pg spc]) s0.heap := hP
  obtain ⟨H, eH⟩ : ∃ H, H = s0.heap := ⟨_, rfl⟩
  obtain ⟨locs, eL⟩ : ∃ locs : List Loc, locs = [] := ⟨_, rfl⟩
  have hS : va_S A0 s0.heap H locs := by rw [eH, eL]; exact hS
  have hP : va_P D vwCl (fl [BMsg G qm ac up li le pg spc]) H := by rw [eH]; exact hP
  suffices goal : W p0 l e0 rmX5_upOfPeg s0 m0 args bel met cd H locs 0 0 Q0 (F0 m0 0 ls []) by rw [eH, eL] at goal; exact goal
  clear eH eL hH
  refine lv_aload_n hx hb dX5_upOfPeg_0 rfl (lv_at hl 0 rfl) ?_
  refine g_get (C := RX5) (T := TX5) (N := 6) hx hb hts (fun _ h => List.mem_cons_of_mem _ (List.mem_append_right _ h)) hown hK hP (i := 0) rfl BMsg_c0 rfl 1 (by decide) (by decide +kernel) rfl dX5_upOfPeg_1 ?_
  refine lv_aload_n hx hb dX5_upOfPeg_4 rfl (lv_at hl 0 rfl) ?_
  refine g_get (C := RX5) (T := TX5) (N := 6) hx hb hts (fun _ h => List.mem_cons_of_mem _ (List.mem_append_right _ h)) hown hK hP (i := 0) rfl BMsg_c0 rfl 3 (by decide) (by decide +kernel) rfl dX5_upOfPeg_5 ?_
  refine lv_iload_n hx hb dX5_upOfPeg_8 rfl (lv_at hl 1 rfl) ?_
  refine g_iald hx hb hK hP (i := 0) rfl BMsg_c4 (by omega) (by decide) dX5_upOfPeg_9 ?_
  have f1 := hle k.toNat
  refine g_iald hx hb hK hP (i := 0) rfl BMsg_c2 (by omega) (by decide) dX5_upOfPeg_10 ?_
  exact fin _ () H locs ls 11 dX5_upOfPeg_11 hP hD hS (trivial) (congrArg iI (by first | rfl | (rw [if_pos (by omega)]) | (rw [if_neg (by omega)]) | (split <;> omega)))

abbrev rmX5_liftOfPeg : Room := { frames := 0, cells := 0, slots := 0, locals := 0 }
set_option maxHeartbeats 4000000 in
set_option maxRecDepth 100000 in
theorem kX5_liftOfPeg (l : Launch) (D : va_G) (G : Nat → ClassId) (qm : Nat → Nat) (ac : Nat → Int) (up : Nat → Int) (li : Nat → Int) (le : Nat → Int) (pg : Int) (spc : Int) (k : Int) (hle : ∀ k, 0 ≤ le k ∧ le k ≤ 9) (hk : 0 ≤ k ∧ k < 12) : CtI l yX5_liftOfPeg wsX5_liftOfPeg rmX5_liftOfPeg D G [.ref (qm 0), .int (iI k)] [BMsg G qm ac up li le pg spc] (fun (r : Int32) (_ : Unit) => r = iI (li (le k.toNat).toNat)) (fun _ => [BMsg G qm ac up li le pg spc]) := by
  refine CtI.ofI (cc := cX5_liftOfPeg) (maxL := 2) (by decide) rfl (Nat.le_of_ble_eq_true rfl) ?_
  intro p0 e0 s0 m0 args bel met cd A0 ls Q0 hx hb hml hown hts hK hP hD hA hl fin
  have hl : lv_has ls 2 [(0, .ref (qm 0)), (1, .int (iI k))] := hl
  have hS : va_S A0 s0.heap s0.heap [] := va_S.rf
  have hH : va_P D vwCl (fl [BMsg G qm ac up li le pg spc]) s0.heap := hP
  obtain ⟨H, eH⟩ : ∃ H, H = s0.heap := ⟨_, rfl⟩
  obtain ⟨locs, eL⟩ : ∃ locs : List Loc, locs = [] := ⟨_, rfl⟩
  have hS : va_S A0 s0.heap H locs := by rw [eH, eL]; exact hS
  have hP : va_P D vwCl (fl [BMsg G qm ac up li le pg spc]) H := by rw [eH]; exact hP
  suffices goal : W p0 l e0 rmX5_liftOfPeg s0 m0 args bel met cd H locs 0 0 Q0 (F0 m0 0 ls []) by rw [eH, eL] at goal; exact goal
  clear eH eL hH
  refine lv_aload_n hx hb dX5_liftOfPeg_0 rfl (lv_at hl 0 rfl) ?_
  refine g_get (C := RX5) (T := TX5) (N := 6) hx hb hts (fun _ h => List.mem_cons_of_mem _ (List.mem_append_right _ h)) hown hK hP (i := 0) rfl BMsg_c0 rfl 2 (by decide) (by decide +kernel) rfl dX5_liftOfPeg_1 ?_
  refine lv_aload_n hx hb dX5_liftOfPeg_4 rfl (lv_at hl 0 rfl) ?_
  refine g_get (C := RX5) (T := TX5) (N := 6) hx hb hts (fun _ h => List.mem_cons_of_mem _ (List.mem_append_right _ h)) hown hK hP (i := 0) rfl BMsg_c0 rfl 3 (by decide) (by decide +kernel) rfl dX5_liftOfPeg_5 ?_
  refine lv_iload_n hx hb dX5_liftOfPeg_8 rfl (lv_at hl 1 rfl) ?_
  refine g_iald hx hb hK hP (i := 0) rfl BMsg_c4 (by omega) (by decide) dX5_liftOfPeg_9 ?_
  have f1 := hle k.toNat
  refine g_iald hx hb hK hP (i := 0) rfl BMsg_c3 (by omega) (by decide) dX5_liftOfPeg_10 ?_
  exact fin _ () H locs ls 11 dX5_liftOfPeg_11 hP hD hS (trivial) (congrArg iI (by first | rfl | (rw [if_pos (by omega)]) | (rw [if_neg (by omega)]) | (split <;> omega)))

abbrev rmX5_hasAllCams : Room := { frames := 1, cells := 0, slots := 0, locals := 21 }
set_option maxHeartbeats 4000000 in
set_option maxRecDepth 100000 in
theorem kX5_hasAllCams (l : Launch) (D : va_G) (G : Nat → ClassId) (qm : Nat → Nat) (ac : Nat → Int) (up : Nat → Int) (li : Nat → Int) (le : Nat → Int) (pg : Int) (spc : Int) (q : Nat → Nat) (st : Int) (th : Nat → Int) (R : Nat → Nat → Int) (sp : Nat → Int) (k : Int) (hth : ∀ k, th k = 0 ∨ th k = 1) (hac : ∀ k, 0 ≤ ac k ∧ ac k ≤ 11) (hup : ∀ k, 0 ≤ up k ∧ up k ≤ 11) (hli : ∀ k, 0 ≤ li k ∧ li k ≤ 11) (hk : 0 ≤ k ∧ k < 10) : CtI l yX5_hasAllCams wsX5_hasAllCams rmX5_hasAllCams D G [.ref (qm 0), .int (iI k), .ref (q 0)] [BMsg G qm ac up li le pg spc, BCams G q st th R sp] (fun (r : Int32) (_ : Unit) => r = iI (if cutL th ac up li k.toNat then 1 else 0)) (fun _ => [BMsg G qm ac up li le pg spc, BCams G q st th R sp]) := by
  refine CtI.ofZ (cc := cX5_hasAllCams) (maxL := 3) (by decide) rfl (Nat.le_of_ble_eq_true rfl) ?_
  intro p0 e0 s0 m0 args bel met cd A0 ls Q0 hx hb hml hown hts hK hP hD hA hl fin
  have hl : lv_has ls 3 [(0, .ref (qm 0)), (1, .int (iI k)), (2, .ref (q 0))] := hl
  have hS : va_S A0 s0.heap s0.heap [] := va_S.rf
  have hH : va_P D vwCl (fl [BMsg G qm ac up li le pg spc, BCams G q st th R sp]) s0.heap := hP
  obtain ⟨H, eH⟩ : ∃ H, H = s0.heap := ⟨_, rfl⟩
  obtain ⟨locs, eL⟩ : ∃ locs : List Loc, locs = [] := ⟨_, rfl⟩
  have hS : va_S A0 s0.heap H locs := by rw [eH, eL]; exact hS
  have hP : va_P D vwCl (fl [BMsg G qm ac up li le pg spc, BCams G q st th R sp]) H := by rw [eH]; exact hP
  suffices goal : W p0 l e0 rmX5_hasAllCams s0 m0 args bel met cd H locs 0 0 Q0 (F0 m0 0 ls []) by rw [eH, eL] at goal; exact goal
  clear eH eL hH
  refine lv_aload_n hx hb dX5_hasAllCams_0 rfl (lv_at hl 2 rfl) ?_
  refine lv_aload_n hx hb dX5_hasAllCams_1 rfl (lv_at hl 0 rfl) ?_
  refine g_get (C := RX5) (T := TX5) (N := 6) hx hb hts (fun _ h => List.mem_cons_of_mem _ (List.mem_append_left _ (List.mem_append_right _ h))) hown hK hP (i := 0) rfl BMsg_c0 rfl 0 (by decide) (by decide +kernel) rfl dX5_hasAllCams_2 ?_
  refine lv_iload_n hx hb dX5_hasAllCams_5 rfl (lv_at hl 1 rfl) ?_
  refine g_iald hx hb hK hP (i := 0) rfl BMsg_c1 (by omega) (by decide) dX5_hasAllCams_6 ?_
  have f1 := hac k.toNat
  refine cV_i (wc := [BCams G q st th R sp]) (wr := [BMsg G qm ac up li le pg spc]) (w1 := fun _ => [BCams G q st th R sp]) (Bs1 := fun _ => [BMsg G qm ac up li le pg spc, BCams G q st th R sp]) (As := [.int (iI (ac k.toNat))]) (rest := []) (kX0_isThere l D G q st th R sp (ac k.toNat) (hth _) (by first | assumption | omega)) rfl ⟨hx, hb, hml, hown, hts⟩ (cwV 1 hts gX5_hasAllCams_X0_isThere rfl rfl rfl (by decide +kernel) ⟨by decide, by decide⟩) (q0 := 0) (ci := 0) rfl rfl rfl rfl hl.1 (Nat.le_of_ble_eq_true rfl) ⟨Nat.le_of_ble_eq_true rfl, Nat.le_of_ble_eq_true rfl⟩ dX5_hasAllCams_7 hK hP hD hS hA (perm_idx [1, 0] rfl rfl) (fun _ => perm_idx [1, 0] rfl rfl) (fun r u H locs hw2 hP hD hS => ?_)
  subst hw2
  have := hth (ac k.toNat).toNat
  refine wi_if_eq (tgt := 43) hx hb (by omega) dX5_hasAllCams_10 (by decide) (fun c10 => ?_) (fun c10 => ?_)
  ·
    refine wi_iconst hx hb dX5_hasAllCams_43 ?_
    exact fin _ () H locs ls 44 dX5_hasAllCams_44 hP hD hS (by decide) (congrArg iI (by first | rfl | (rw [if_pos (by omega)]) | (rw [if_neg (by omega)]) | (split <;> omega)))
  ·
    refine lv_aload_n hx hb dX5_hasAllCams_13 rfl (lv_at hl 2 rfl) ?_
    refine lv_aload_n hx hb dX5_hasAllCams_14 rfl (lv_at hl 0 rfl) ?_
    refine g_get (C := RX5) (T := TX5) (N := 6) hx hb hts (fun _ h => List.mem_cons_of_mem _ (List.mem_append_left _ (List.mem_append_right _ h))) hown hK hP (i := 0) rfl BMsg_c0 rfl 1 (by decide) (by decide +kernel) rfl dX5_hasAllCams_15 ?_
    refine lv_iload_n hx hb dX5_hasAllCams_18 rfl (lv_at hl 1 rfl) ?_
    refine g_iald hx hb hK hP (i := 0) rfl BMsg_c2 (by omega) (by decide) dX5_hasAllCams_19 ?_
    have f3 := hup k.toNat
    refine cV_i (wc := [BCams G q st th R sp]) (wr := [BMsg G qm ac up li le pg spc]) (w1 := fun _ => [BCams G q st th R sp]) (Bs1 := fun _ => [BMsg G qm ac up li le pg spc, BCams G q st th R sp]) (As := [.int (iI (up k.toNat))]) (rest := []) (kX0_isThere l D G q st th R sp (up k.toNat) (hth _) (by first | assumption | omega)) rfl ⟨hx, hb, hml, hown, hts⟩ (cwV 1 hts gX5_hasAllCams_X0_isThere rfl rfl rfl (by decide +kernel) ⟨by decide, by decide⟩) (q0 := 0) (ci := 0) rfl rfl rfl rfl hl.1 (Nat.le_of_ble_eq_true rfl) ⟨Nat.le_of_ble_eq_true rfl, Nat.le_of_ble_eq_true rfl⟩ dX5_hasAllCams_20 hK hP hD hS hA (perm_idx [1, 0] rfl rfl) (fun _ => perm_idx [1, 0] rfl rfl) (fun r u H locs hw4 hP hD hS => ?_)
    subst hw4
    have := hth (up k.toNat).toNat
    refine wi_if_eq (tgt := 43) hx hb (by omega) dX5_hasAllCams_23 (by decide) (fun c23 => ?_) (fun c23 => ?_)
    ·
      refine wi_iconst hx hb dX5_hasAllCams_43 ?_
      exact fin _ () H locs ls 44 dX5_hasAllCams_44 hP hD hS (by decide) (congrArg iI (by first | rfl | (rw [if_pos (by omega)]) | (rw [if_neg (by omega)]) | (split <;> omega)))
    ·
      refine lv_aload_n hx hb dX5_hasAllCams_26 rfl (lv_at hl 2 rfl) ?_
      refine lv_aload_n hx hb dX5_hasAllCams_27 rfl (lv_at hl 0 rfl) ?_
      refine g_get (C := RX5) (T := TX5) (N := 6) hx hb hts (fun _ h => List.mem_cons_of_mem _ (List.mem_append_left _ (List.mem_append_right _ h))) hown hK hP (i := 0) rfl BMsg_c0 rfl 2 (by decide) (by decide +kernel) rfl dX5_hasAllCams_28 ?_
      refine lv_iload_n hx hb dX5_hasAllCams_31 rfl (lv_at hl 1 rfl) ?_
      refine g_iald hx hb hK hP (i := 0) rfl BMsg_c3 (by omega) (by decide) dX5_hasAllCams_32 ?_
      have f5 := hli k.toNat
      refine cV_i (wc := [BCams G q st th R sp]) (wr := [BMsg G qm ac up li le pg spc]) (w1 := fun _ => [BCams G q st th R sp]) (Bs1 := fun _ => [BMsg G qm ac up li le pg spc, BCams G q st th R sp]) (As := [.int (iI (li k.toNat))]) (rest := []) (kX0_isThere l D G q st th R sp (li k.toNat) (hth _) (by first | assumption | omega)) rfl ⟨hx, hb, hml, hown, hts⟩ (cwV 1 hts gX5_hasAllCams_X0_isThere rfl rfl rfl (by decide +kernel) ⟨by decide, by decide⟩) (q0 := 0) (ci := 0) rfl rfl rfl rfl hl.1 (Nat.le_of_ble_eq_true rfl) ⟨Nat.le_of_ble_eq_true rfl, Nat.le_of_ble_eq_true rfl⟩ dX5_hasAllCams_33 hK hP hD hS hA (perm_idx [1, 0] rfl rfl) (fun _ => perm_idx [1, 0] rfl rfl) (fun r u H locs hw6 hP hD hS => ?_)
      subst hw6
      have := hth (li k.toNat).toNat
      refine wi_if_eq (tgt := 43) hx hb (by omega) dX5_hasAllCams_36 (by decide) (fun c36 => ?_) (fun c36 => ?_)
      ·
        refine wi_iconst hx hb dX5_hasAllCams_43 ?_
        exact fin _ () H locs ls 44 dX5_hasAllCams_44 hP hD hS (by decide) (congrArg iI (by first | rfl | (rw [if_pos (by omega)]) | (rw [if_neg (by omega)]) | (split <;> omega)))
      ·
        refine wi_iconst hx hb dX5_hasAllCams_39 ?_
        refine lv_goto (tgt := 44) hx hb dX5_hasAllCams_40 (by decide) ?_
        exact fin _ () H locs ls 44 dX5_hasAllCams_44 hP hD hS (by decide) (congrArg iI (by first | rfl | (rw [if_pos (by omega)]) | (rw [if_neg (by omega)]) | (split <;> omega)))

abbrev rmX5_isWritable : Room := { frames := 2, cells := 0, slots := 0, locals := 43 }
set_option maxHeartbeats 4000000 in
set_option maxRecDepth 100000 in
theorem kX5_isWritable (l : Launch) (D : va_G) (G : Nat → ClassId) (qm : Nat → Nat) (ac : Nat → Int) (up : Nat → Int) (li : Nat → Int) (le : Nat → Int) (pg : Int) (spc : Int) (q : Nat → Nat) (st : Int) (th : Nat → Int) (R : Nat → Nat → Int) (sp : Nat → Int) (hth : ∀ k, th k = 0 ∨ th k = 1) (hac : ∀ k, 0 ≤ ac k ∧ ac k ≤ 11) (hup : ∀ k, 0 ≤ up k ∧ up k ≤ 11) (hli : ∀ k, 0 ≤ li k ∧ li k ≤ 11) (hle : ∀ k, 0 ≤ le k ∧ le k ≤ 9) (hpg : 0 ≤ pg ∧ pg ≤ 12) : CtI l yX5_isWritable wsX5_isWritable rmX5_isWritable D G [.ref (qm 0), .ref (q 0)] [BMsg G qm ac up li le pg spc, BCams G q st th R sp] (fun (r : Int32) (_ : Unit) => r = iI (if alc th ac up li le pg then 1 else 0)) (fun _ => [BMsg G qm ac up li le pg spc, BCams G q st th R sp]) := by
  refine CtI.ofZ (cc := cX5_isWritable) (maxL := 3) (by decide) rfl (Nat.le_of_ble_eq_true rfl) ?_
  intro p0 e0 s0 m0 args bel met cd A0 ls Q0 hx hb hml hown hts hK hP hD hA hl fin
  have hl : lv_has ls 3 [(0, .ref (qm 0)), (1, .ref (q 0))] := hl
  have hS : va_S A0 s0.heap s0.heap [] := va_S.rf
  have hH : va_P D vwCl (fl [BMsg G qm ac up li le pg spc, BCams G q st th R sp]) s0.heap := hP
  obtain ⟨H, eH⟩ : ∃ H, H = s0.heap := ⟨_, rfl⟩
  obtain ⟨locs, eL⟩ : ∃ locs : List Loc, locs = [] := ⟨_, rfl⟩
  have hS : va_S A0 s0.heap H locs := by rw [eH, eL]; exact hS
  have hP : va_P D vwCl (fl [BMsg G qm ac up li le pg spc, BCams G q st th R sp]) H := by rw [eH]; exact hP
  suffices goal : W p0 l e0 rmX5_isWritable s0 m0 args bel met cd H locs 0 0 Q0 (F0 m0 0 ls []) by rw [eH, eL] at goal; exact goal
  clear eH eL hH
  refine wi_iconst hx hb dX5_isWritable_0 ?_
  refine lv_istore_n (lv' := [(2, .int (iI 0)), (0, .ref (qm 0)), (1, .ref (q 0))]) hx hb dX5_isWritable_1 rfl hl (by decide) rfl (fun ls hl => ?_)
  have L2 : ∀ (fu : Nat) (i : Int) (H : Heap) (locs : List Loc) (ls : Array Slot), (pg - i < (fu : Int)) → (0 ≤ i ∧ i ≤ pg) → (∀ k : Nat, k < i.toNat → cutL th ac up li (le k).toNat) → va_P D vwCl (fl [BMsg G qm ac up li le pg spc, BCams G q st th R sp]) H → va_D A0 (fl [BMsg G qm ac up li le pg spc, BCams G q st th R sp]) → va_S A0 s0.heap H locs → lv_has ls 3 [(0, .ref (qm 0)), (1, .ref (q 0)), (2, .int (iI i))] → W p0 l e0 rmX5_isWritable s0 m0 args bel met cd H locs 0 0 Q0 (F0 m0 2 ls []) := by
    intro fu
    induction fu with
    | zero =>
      intro i H locs ls hfu hi ht
      exact absurd hfu (by omega)
    | succ fu ih =>
      intro i H locs ls hfu hi ht hP hD hS hl
      have ih2 := ih
      clear ih
      refine lv_iload_n hx hb dX5_isWritable_2 rfl (lv_at hl 2 rfl) ?_
      refine lv_aload_n hx hb dX5_isWritable_3 rfl (lv_at hl 0 rfl) ?_
      refine g_get (C := RX5) (T := TX5) (N := 6) hx hb hts (fun _ h => List.mem_cons_of_mem _ (List.mem_append_left _ (List.mem_append_right _ h))) hown hK hP (i := 0) rfl BMsg_c0 rfl 4 (by decide) (by decide +kernel) rfl dX5_isWritable_4 ?_
      refine wi_icmp_ge (tgt := 32) hx hb (by omega) (by omega) dX5_isWritable_7 (by decide) (fun c7 => ?_) (fun c7 => ?_)
      ·
        refine wi_iconst hx hb dX5_isWritable_32 ?_
        exact fin _ () H locs ls 33 dX5_isWritable_33 hP hD hS (by decide) (congrArg iI (by rw [if_pos (fun k h => ht k (by omega))]))
      ·
        refine lv_aload_n hx hb dX5_isWritable_10 rfl (lv_at hl 0 rfl) ?_
        refine lv_aload_n hx hb dX5_isWritable_11 rfl (lv_at hl 0 rfl) ?_
        refine g_get (C := RX5) (T := TX5) (N := 6) hx hb hts (fun _ h => List.mem_cons_of_mem _ (List.mem_append_left _ (List.mem_append_right _ h))) hown hK hP (i := 0) rfl BMsg_c0 rfl 3 (by decide) (by decide +kernel) rfl dX5_isWritable_12 ?_
        refine lv_iload_n hx hb dX5_isWritable_15 rfl (lv_at hl 2 rfl) ?_
        refine g_iald hx hb hK hP (i := 0) rfl BMsg_c4 (by omega) (by decide) dX5_isWritable_16 ?_
        have f1 := hle i.toNat
        refine lv_aload_n hx hb dX5_isWritable_17 rfl (lv_at hl 1 rfl) ?_
        refine cV_i (wc := [BMsg G qm ac up li le pg spc, BCams G q st th R sp]) (wr := []) (w1 := fun _ => [BMsg G qm ac up li le pg spc, BCams G q st th R sp]) (Bs1 := fun _ => [BMsg G qm ac up li le pg spc, BCams G q st th R sp]) (As := [.int (iI (le i.toNat)), .ref (q 0)]) (rest := []) (kX5_hasAllCams l D G qm ac up li le pg spc q st th R sp (le i.toNat) (by first | assumption | omega) (by first | assumption | omega) (by first | assumption | omega) (by first | assumption | omega) (by first | assumption | omega)) rfl ⟨hx, hb, hml, hown, hts⟩ (cwV 2 hts gX5_isWritable_X5_hasAllCams rfl rfl rfl (by decide +kernel) ⟨by decide, by decide⟩) (q0 := 0) (ci := 5) rfl rfl rfl rfl hl.1 (Nat.le_of_ble_eq_true rfl) ⟨Nat.le_of_ble_eq_true rfl, Nat.le_of_ble_eq_true rfl⟩ dX5_isWritable_18 hK hP hD hS hA (perm_idx [0, 1] rfl rfl) (fun _ => perm_idx [0, 1] rfl rfl) (fun r u H locs hw2 hP hD hS => ?_)
        subst hw2
        have hr9 : (if cutL th ac up li (le i.toNat).toNat then (1 : Int) else 0) = 0 ∨ (if cutL th ac up li (le i.toNat).toNat then (1 : Int) else 0) = 1 := by split <;> omega
        refine wi_if_ne (tgt := 26) hx hb (by omega) dX5_isWritable_21 (by decide) (fun c21 => ?_) (fun c21 => ?_)
        ·
          have h21 : cutL th ac up li (le i.toNat).toNat := by
            by_cases q : cutL th ac up li (le i.toNat).toNat
            · exact q
            · rw [if_neg q] at c21; exact absurd rfl c21
          refine lv_iinc (v := iI (i + 1)) (lv' := [(2, .int (iI (i + 1))), (0, .ref (qm 0)), (1, .ref (q 0))]) hx hb dX5_isWritable_26 hl (k := 2) rfl (iI_add _ _) (by decide) rfl (fun ls hl => ?_)
          refine lv_goto (tgt := 2) hx hb dX5_isWritable_29 (by decide) ?_
          exact ih2 (i + 1) _ _ _ (by omega) (by omega) (fun t h => by
              by_cases e : t = i.toNat
              · rw [e]; exact h21
              · exact ht t (by omega)) hP hD hS (lv_sub hl [1, 2, 0] rfl)
        ·
          have h21 : ¬ cutL th ac up li (le i.toNat).toNat := fun q => by rw [if_pos q] at c21; exact absurd c21 (by decide)
          refine wi_iconst hx hb dX5_isWritable_24 ?_
          exact fin _ () H locs ls 25 dX5_isWritable_25 hP hD hS (by decide) (congrArg iI (by rw [if_neg (fun q => h21 (q i.toNat (by omega)))]))
  exact L2 (((pg - 0) + 1 : Int)).toNat 0 _ _ _ (by omega) (by omega) (fun t h => absurd h (by omega)) hP hD hS (lv_sub hl [1, 2, 0] rfl)

abbrev rmX5_partsOfKind : Room := { frames := 0, cells := 0, slots := 0, locals := 0 }
set_option maxHeartbeats 4000000 in
set_option maxRecDepth 100000 in
theorem kX5_partsOfKind (l : Launch) (D : va_G) (G : Nat → ClassId) (qm : Nat → Nat) (ac : Nat → Int) (up : Nat → Int) (li : Nat → Int) (le : Nat → Int) (pg : Int) (spc : Int) (k : Int) (hk : -2147483648 ≤ k ∧ k < 2147483648) : CtI l yX5_partsOfKind wsX5_partsOfKind rmX5_partsOfKind D G [.ref (qm 0), .int (iI k)] [BMsg G qm ac up li le pg spc] (fun (r : Int32) (_ : Unit) => r = iI (if k = 1 then 12 else if k = 2 then pg else if k = 3 then 2 else 0)) (fun _ => [BMsg G qm ac up li le pg spc]) := by
  refine CtI.ofI (cc := cX5_partsOfKind) (maxL := 2) (by decide) rfl (Nat.le_of_ble_eq_true rfl) ?_
  intro p0 e0 s0 m0 args bel met cd A0 ls Q0 hx hb hml hown hts hK hP hD hA hl fin
  have hl : lv_has ls 2 [(0, .ref (qm 0)), (1, .int (iI k))] := hl
  have hS : va_S A0 s0.heap s0.heap [] := va_S.rf
  have hH : va_P D vwCl (fl [BMsg G qm ac up li le pg spc]) s0.heap := hP
  obtain ⟨H, eH⟩ : ∃ H, H = s0.heap := ⟨_, rfl⟩
  obtain ⟨locs, eL⟩ : ∃ locs : List Loc, locs = [] := ⟨_, rfl⟩
  have hS : va_S A0 s0.heap H locs := by rw [eH, eL]; exact hS
  have hP : va_P D vwCl (fl [BMsg G qm ac up li le pg spc]) H := by rw [eH]; exact hP
  suffices goal : W p0 l e0 rmX5_partsOfKind s0 m0 args bel met cd H locs 0 0 Q0 (F0 m0 0 ls []) by rw [eH, eL] at goal; exact goal
  clear eH eL hH
  refine lv_iload_n hx hb dX5_partsOfKind_0 rfl (lv_at hl 1 rfl) ?_
  by_cases s1_1 : k = 1
  · refine wi_tableIn (off := 27) (tgt := 28) hx hb dX5_partsOfKind_1 (by omega) (by omega) (by rw [s1_1]; rfl) (by decide) ?_
    refine wi_bipush hx hb dX5_partsOfKind_28 (by decide) ?_
    exact fin _ () H locs ls 30 dX5_partsOfKind_30 hP hD hS (trivial) (congrArg iI (by (repeat' split) <;> omega))
  by_cases s1_2 : k = 2
  · refine wi_tableIn (off := 30) (tgt := 31) hx hb dX5_partsOfKind_1 (by omega) (by omega) (by rw [s1_2]; rfl) (by decide) ?_
    refine lv_aload_n hx hb dX5_partsOfKind_31 rfl (lv_at hl 0 rfl) ?_
    refine g_get (C := RX5) (T := TX5) (N := 6) hx hb hts (fun _ h => List.mem_cons_of_mem _ (List.mem_append_right _ h)) hown hK hP (i := 0) rfl BMsg_c0 rfl 4 (by decide) (by decide +kernel) rfl dX5_partsOfKind_32 ?_
    exact fin _ () H locs ls 35 dX5_partsOfKind_35 hP hD hS (trivial) (congrArg iI (by (repeat' split) <;> omega))
  by_cases s1_3 : k = 3
  · refine wi_tableIn (off := 35) (tgt := 36) hx hb dX5_partsOfKind_1 (by omega) (by omega) (by rw [s1_3]; rfl) (by decide) ?_
    refine wi_iconst hx hb dX5_partsOfKind_36 ?_
    exact fin _ () H locs ls 37 dX5_partsOfKind_37 hP hD hS (trivial) (congrArg iI (by (repeat' split) <;> omega))
  refine wi_tableOut (tgt := 38) hx hb dX5_partsOfKind_1 (by omega) (by omega) (by decide) ?_
  refine wi_iconst hx hb dX5_partsOfKind_38 ?_
  exact fin _ () H locs ls 39 dX5_partsOfKind_39 hP hD hS (trivial) (congrArg iI (by (repeat' split) <;> omega))

abbrev rmX7_power : Room := { frames := 0, cells := 0, slots := 0, locals := 0 }
set_option maxHeartbeats 4000000 in
set_option maxRecDepth 100000 in
theorem kX7_power (l : Launch) (D : va_G) (G : Nat → ClassId) (qs : Nat) (pw : Int) (ld : Int) (sn : Int) (tk : Int) (ss : Int) : CtI l yX7_power wsX7_power rmX7_power D G [.ref qs] [BSpr qs pw ld sn tk ss] (fun (r : Int32) (_ : Unit) => r = iI pw) (fun _ => [BSpr qs pw ld sn tk ss]) := by
  refine CtI.ofI (cc := cX7_power) (maxL := 1) (by decide) rfl (Nat.le_of_ble_eq_true rfl) ?_
  intro p0 e0 s0 m0 args bel met cd A0 ls Q0 hx hb hml hown hts hK hP hD hA hl fin
  have hl : lv_has ls 1 [(0, .ref qs)] := hl
  have hS : va_S A0 s0.heap s0.heap [] := va_S.rf
  have hH : va_P D vwCl (fl [BSpr qs pw ld sn tk ss]) s0.heap := hP
  obtain ⟨H, eH⟩ : ∃ H, H = s0.heap := ⟨_, rfl⟩
  obtain ⟨locs, eL⟩ : ∃ locs : List Loc, locs = [] := ⟨_, rfl⟩
  have hS : va_S A0 s0.heap H locs := by rw [eH, eL]; exact hS
  have hP : va_P D vwCl (fl [BSpr qs pw ld sn tk ss]) H := by rw [eH]; exact hP
  suffices goal : W p0 l e0 rmX7_power s0 m0 args bel met cd H locs 0 0 Q0 (F0 m0 0 ls []) by rw [eH, eL] at goal; exact goal
  clear eH eL hH
  refine lv_aload_n hx hb dX7_power_0 rfl (lv_at hl 0 rfl) ?_
  refine g_get (C := RX7) (T := TX7) (N := 5) hx hb hts (fun _ h => List.mem_cons_of_mem _ (List.mem_append_right _ h)) hown hK hP (i := 0) rfl BSpr_c0 rfl 0 (by decide) (by decide +kernel) rfl dX7_power_1 ?_
  exact fin _ () H locs ls 4 dX7_power_4 hP hD hS (trivial) (rfl)

abbrev rmX7_load : Room := { frames := 0, cells := 0, slots := 0, locals := 0 }
set_option maxHeartbeats 4000000 in
set_option maxRecDepth 100000 in
theorem kX7_load (l : Launch) (D : va_G) (G : Nat → ClassId) (qs : Nat) (pw : Int) (ld : Int) (sn : Int) (tk : Int) (ss : Int) : CtI l yX7_load wsX7_load rmX7_load D G [.ref qs] [BSpr qs pw ld sn tk ss] (fun (r : Int32) (_ : Unit) => r = iI ld) (fun _ => [BSpr qs pw ld sn tk ss]) := by
  refine CtI.ofI (cc := cX7_load) (maxL := 1) (by decide) rfl (Nat.le_of_ble_eq_true rfl) ?_
  intro p0 e0 s0 m0 args bel met cd A0 ls Q0 hx hb hml hown hts hK hP hD hA hl fin
  have hl : lv_has ls 1 [(0, .ref qs)] := hl
  have hS : va_S A0 s0.heap s0.heap [] := va_S.rf
  have hH : va_P D vwCl (fl [BSpr qs pw ld sn tk ss]) s0.heap := hP
  obtain ⟨H, eH⟩ : ∃ H, H = s0.heap := ⟨_, rfl⟩
  obtain ⟨locs, eL⟩ : ∃ locs : List Loc, locs = [] := ⟨_, rfl⟩
  have hS : va_S A0 s0.heap H locs := by rw [eH, eL]; exact hS
  have hP : va_P D vwCl (fl [BSpr qs pw ld sn tk ss]) H := by rw [eH]; exact hP
  suffices goal : W p0 l e0 rmX7_load s0 m0 args bel met cd H locs 0 0 Q0 (F0 m0 0 ls []) by rw [eH, eL] at goal; exact goal
  clear eH eL hH
  refine lv_aload_n hx hb dX7_load_0 rfl (lv_at hl 0 rfl) ?_
  refine g_get (C := RX7) (T := TX7) (N := 5) hx hb hts (fun _ h => List.mem_cons_of_mem _ (List.mem_append_right _ h)) hown hK hP (i := 0) rfl BSpr_c0 rfl 1 (by decide) (by decide +kernel) rfl dX7_load_1 ?_
  exact fin _ () H locs ls 4 dX7_load_4 hP hD hS (trivial) (rfl)

abbrev rmX7_strain : Room := { frames := 0, cells := 0, slots := 0, locals := 0 }
set_option maxHeartbeats 4000000 in
set_option maxRecDepth 100000 in
theorem kX7_strain (l : Launch) (D : va_G) (G : Nat → ClassId) (qs : Nat) (pw : Int) (ld : Int) (sn : Int) (tk : Int) (ss : Int) : CtI l yX7_strain wsX7_strain rmX7_strain D G [.ref qs] [BSpr qs pw ld sn tk ss] (fun (r : Int32) (_ : Unit) => r = iI sn) (fun _ => [BSpr qs pw ld sn tk ss]) := by
  refine CtI.ofI (cc := cX7_strain) (maxL := 1) (by decide) rfl (Nat.le_of_ble_eq_true rfl) ?_
  intro p0 e0 s0 m0 args bel met cd A0 ls Q0 hx hb hml hown hts hK hP hD hA hl fin
  have hl : lv_has ls 1 [(0, .ref qs)] := hl
  have hS : va_S A0 s0.heap s0.heap [] := va_S.rf
  have hH : va_P D vwCl (fl [BSpr qs pw ld sn tk ss]) s0.heap := hP
  obtain ⟨H, eH⟩ : ∃ H, H = s0.heap := ⟨_, rfl⟩
  obtain ⟨locs, eL⟩ : ∃ locs : List Loc, locs = [] := ⟨_, rfl⟩
  have hS : va_S A0 s0.heap H locs := by rw [eH, eL]; exact hS
  have hP : va_P D vwCl (fl [BSpr qs pw ld sn tk ss]) H := by rw [eH]; exact hP
  suffices goal : W p0 l e0 rmX7_strain s0 m0 args bel met cd H locs 0 0 Q0 (F0 m0 0 ls []) by rw [eH, eL] at goal; exact goal
  clear eH eL hH
  refine lv_aload_n hx hb dX7_strain_0 rfl (lv_at hl 0 rfl) ?_
  refine g_get (C := RX7) (T := TX7) (N := 5) hx hb hts (fun _ h => List.mem_cons_of_mem _ (List.mem_append_right _ h)) hown hK hP (i := 0) rfl BSpr_c0 rfl 2 (by decide) (by decide +kernel) rfl dX7_strain_1 ?_
  exact fin _ () H locs ls 4 dX7_strain_4 hP hD hS (trivial) (rfl)

abbrev rmX7_ticks : Room := { frames := 0, cells := 0, slots := 0, locals := 0 }
set_option maxHeartbeats 4000000 in
set_option maxRecDepth 100000 in
theorem kX7_ticks (l : Launch) (D : va_G) (G : Nat → ClassId) (qs : Nat) (pw : Int) (ld : Int) (sn : Int) (tk : Int) (ss : Int) : CtI l yX7_ticks wsX7_ticks rmX7_ticks D G [.ref qs] [BSpr qs pw ld sn tk ss] (fun (r : Int32) (_ : Unit) => r = iI tk) (fun _ => [BSpr qs pw ld sn tk ss]) := by
  refine CtI.ofI (cc := cX7_ticks) (maxL := 1) (by decide) rfl (Nat.le_of_ble_eq_true rfl) ?_
  intro p0 e0 s0 m0 args bel met cd A0 ls Q0 hx hb hml hown hts hK hP hD hA hl fin
  have hl : lv_has ls 1 [(0, .ref qs)] := hl
  have hS : va_S A0 s0.heap s0.heap [] := va_S.rf
  have hH : va_P D vwCl (fl [BSpr qs pw ld sn tk ss]) s0.heap := hP
  obtain ⟨H, eH⟩ : ∃ H, H = s0.heap := ⟨_, rfl⟩
  obtain ⟨locs, eL⟩ : ∃ locs : List Loc, locs = [] := ⟨_, rfl⟩
  have hS : va_S A0 s0.heap H locs := by rw [eH, eL]; exact hS
  have hP : va_P D vwCl (fl [BSpr qs pw ld sn tk ss]) H := by rw [eH]; exact hP
  suffices goal : W p0 l e0 rmX7_ticks s0 m0 args bel met cd H locs 0 0 Q0 (F0 m0 0 ls []) by rw [eH, eL] at goal; exact goal
  clear eH eL hH
  refine lv_aload_n hx hb dX7_ticks_0 rfl (lv_at hl 0 rfl) ?_
  refine g_get (C := RX7) (T := TX7) (N := 5) hx hb hts (fun _ h => List.mem_cons_of_mem _ (List.mem_append_right _ h)) hown hK hP (i := 0) rfl BSpr_c0 rfl 3 (by decide) (by decide +kernel) rfl dX7_ticks_1 ?_
  exact fin _ () H locs ls 4 dX7_ticks_4 hP hD hS (trivial) (rfl)

abbrev rmX7_steps : Room := { frames := 0, cells := 0, slots := 0, locals := 0 }
set_option maxHeartbeats 4000000 in
set_option maxRecDepth 100000 in
theorem kX7_steps (l : Launch) (D : va_G) (G : Nat → ClassId) (qs : Nat) (pw : Int) (ld : Int) (sn : Int) (tk : Int) (ss : Int) : CtI l yX7_steps wsX7_steps rmX7_steps D G [.ref qs] [BSpr qs pw ld sn tk ss] (fun (r : Int32) (_ : Unit) => r = iI ss) (fun _ => [BSpr qs pw ld sn tk ss]) := by
  refine CtI.ofI (cc := cX7_steps) (maxL := 1) (by decide) rfl (Nat.le_of_ble_eq_true rfl) ?_
  intro p0 e0 s0 m0 args bel met cd A0 ls Q0 hx hb hml hown hts hK hP hD hA hl fin
  have hl : lv_has ls 1 [(0, .ref qs)] := hl
  have hS : va_S A0 s0.heap s0.heap [] := va_S.rf
  have hH : va_P D vwCl (fl [BSpr qs pw ld sn tk ss]) s0.heap := hP
  obtain ⟨H, eH⟩ : ∃ H, H = s0.heap := ⟨_, rfl⟩
  obtain ⟨locs, eL⟩ : ∃ locs : List Loc, locs = [] := ⟨_, rfl⟩
  have hS : va_S A0 s0.heap H locs := by rw [eH, eL]; exact hS
  have hP : va_P D vwCl (fl [BSpr qs pw ld sn tk ss]) H := by rw [eH]; exact hP
  suffices goal : W p0 l e0 rmX7_steps s0 m0 args bel met cd H locs 0 0 Q0 (F0 m0 0 ls []) by rw [eH, eL] at goal; exact goal
  clear eH eL hH
  refine lv_aload_n hx hb dX7_steps_0 rfl (lv_at hl 0 rfl) ?_
  refine g_get (C := RX7) (T := TX7) (N := 5) hx hb hts (fun _ h => List.mem_cons_of_mem _ (List.mem_append_right _ h)) hown hK hP (i := 0) rfl BSpr_c0 rfl 4 (by decide) (by decide +kernel) rfl dX7_steps_1 ?_
  exact fin _ () H locs ls 4 dX7_steps_4 hP hD hS (trivial) (rfl)

abbrev rmX7_setLoad : Room := { frames := 0, cells := 0, slots := 0, locals := 0 }
set_option maxHeartbeats 4000000 in
set_option maxRecDepth 100000 in
theorem kX7_setLoad (l : Launch) (D : va_G) (G : Nat → ClassId) (qs : Nat) (pw : Int) (ld : Int) (sn : Int) (tk : Int) (ss : Int) (v : Int) : CtV l yX7_setLoad wsX7_setLoad rmX7_setLoad D G [.ref qs, .int (iI v)] [BSpr qs pw ld sn tk ss] (fun _ : Unit => True) (fun _ => [BSpr qs pw v sn tk ss]) := by
  refine CtV.of (cc := cX7_setLoad) (maxL := 2) (by decide) rfl (Nat.le_of_ble_eq_true rfl) ?_
  intro p0 e0 s0 m0 args bel met cd A0 ls Q0 hx hb hml hown hts hK hP hD hA hl fin
  have hl : lv_has ls 2 [(0, .ref qs), (1, .int (iI v))] := hl
  have hS : va_S A0 s0.heap s0.heap [] := va_S.rf
  have hH : va_P D vwCl (fl [BSpr qs pw ld sn tk ss]) s0.heap := hP
  obtain ⟨H, eH⟩ : ∃ H, H = s0.heap := ⟨_, rfl⟩
  obtain ⟨locs, eL⟩ : ∃ locs : List Loc, locs = [] := ⟨_, rfl⟩
  have hS : va_S A0 s0.heap H locs := by rw [eH, eL]; exact hS
  have hP : va_P D vwCl (fl [BSpr qs pw ld sn tk ss]) H := by rw [eH]; exact hP
  suffices goal : W p0 l e0 rmX7_setLoad s0 m0 args bel met cd H locs 0 0 Q0 (F0 m0 0 ls []) by rw [eH, eL] at goal; exact goal
  clear eH eL hH
  refine lv_aload_n hx hb dX7_setLoad_0 rfl (lv_at hl 0 rfl) ?_
  refine lv_iload_n hx hb dX7_setLoad_1 rfl (lv_at hl 1 rfl) ?_
  refine g_put (C := RX7) (T := TX7) (N := 5) hx hb hts (fun _ h => List.mem_cons_of_mem _ (List.mem_append_right _ h)) tyX7 tyX7_ok nmX7 hown hK hP hD hS (i := 0) rfl BSpr_c0 rfl 1 (by decide) (by decide +kernel) rfl (by decide +kernel) (Nat.le_of_ble_eq_true rfl) (B1 := BSpr qs pw v sn tk ss) rfl (Bs1 := [BSpr qs pw v sn tk ss]) rfl dX7_setLoad_2 (fun H locs hP hD hS => ?_)
  exact fin () H locs ls 5 dX7_setLoad_5 hP hD hS (trivial)

abbrev rmX7_wear : Room := { frames := 1, cells := 0, slots := 0, locals := 21 }
set_option maxHeartbeats 4000000 in
set_option maxRecDepth 100000 in
theorem kX7_wear (l : Launch) (D : va_G) (G : Nat → ClassId) (qs : Nat) (pw : Int) (ld : Int) (sn : Int) (tk : Int) (ss : Int) (hss : 0 ≤ ss ∧ ss < 1000000) : CtI l yX7_wear wsX7_wear rmX7_wear D G [.ref qs] [BSpr qs pw ld sn tk ss] (fun (r : Int32) (_ : Unit) => r = iI (wr ss)) (fun _ => [BSpr qs pw ld sn tk ss]) := by
  refine CtI.ofI (cc := cX7_wear) (maxL := 1) (by decide) rfl (Nat.le_of_ble_eq_true rfl) ?_
  intro p0 e0 s0 m0 args bel met cd A0 ls Q0 hx hb hml hown hts hK hP hD hA hl fin
  have hl : lv_has ls 1 [(0, .ref qs)] := hl
  have hS : va_S A0 s0.heap s0.heap [] := va_S.rf
  have hH : va_P D vwCl (fl [BSpr qs pw ld sn tk ss]) s0.heap := hP
  obtain ⟨H, eH⟩ : ∃ H, H = s0.heap := ⟨_, rfl⟩
  obtain ⟨locs, eL⟩ : ∃ locs : List Loc, locs = [] := ⟨_, rfl⟩
  have hS : va_S A0 s0.heap H locs := by rw [eH, eL]; exact hS
  have hP : va_P D vwCl (fl [BSpr qs pw ld sn tk ss]) H := by rw [eH]; exact hP
  suffices goal : W p0 l e0 rmX7_wear s0 m0 args bel met cd H locs 0 0 Q0 (F0 m0 0 ls []) by rw [eH, eL] at goal; exact goal
  clear eH eL hH
  refine wi_bipush hx hb dX7_wear_0 (by decide) ?_
  refine lv_aload_n hx hb dX7_wear_2 rfl (lv_at hl 0 rfl) ?_
  refine g_get (C := RX7) (T := TX7) (N := 5) hx hb hts (fun _ h => List.mem_cons_of_mem _ (List.mem_append_right _ h)) hown hK hP (i := 0) rfl BSpr_c0 rfl 4 (by decide) (by decide +kernel) rfl dX7_wear_3 ?_
  refine wi_bipush hx hb dX7_wear_6 (by decide) ?_
  refine wi_idiv hx hb (by omega) (by omega) dX7_wear_8 ?_
  refine g_mmin hx hb (by rw [hml]; exact hl.1.symm) hts hown (by decide +kernel) (by decide +kernel) (by decide +kernel) (by decide +kernel) ⟨Nat.le_of_ble_eq_true rfl, Nat.le_of_ble_eq_true rfl, Nat.le_of_ble_eq_true rfl, Nat.le_of_ble_eq_true rfl⟩ (by omega) (by omega) dX7_wear_9 ?_
  exact fin _ () H locs ls 12 dX7_wear_12 hP hD hS (trivial) (congrArg iI (rfl))

abbrev rmX7_tighten : Room := { frames := 0, cells := 0, slots := 0, locals := 0 }
set_option maxHeartbeats 4000000 in
set_option maxRecDepth 100000 in
theorem kX7_tighten (l : Launch) (D : va_G) (G : Nat → ClassId) (qs : Nat) (pw : Int) (ld : Int) (sn : Int) (tk : Int) (ss : Int) (v : Int) (hpw : 0 ≤ pw ∧ pw ≤ 1000) (hv : 0 ≤ v ∧ v ≤ 5000) : CtV l yX7_tighten wsX7_tighten rmX7_tighten D G [.ref qs, .int (iI v)] [BSpr qs pw ld sn tk ss] (fun _ : Unit => True) (fun _ => [BSpr qs (if 1000 < pw + v then 1000 else pw + v) ld (if 1000 < pw + v then sn + 1 else sn) tk ss]) := by
  refine CtV.of (cc := cX7_tighten) (maxL := 2) (by decide) rfl (Nat.le_of_ble_eq_true rfl) ?_
  intro p0 e0 s0 m0 args bel met cd A0 ls Q0 hx hb hml hown hts hK hP hD hA hl fin
  have hl : lv_has ls 2 [(0, .ref qs), (1, .int (iI v))] := hl
  have hS : va_S A0 s0.heap s0.heap [] := va_S.rf
  have hH : va_P D vwCl (fl [BSpr qs pw ld sn tk ss]) s0.heap := hP
  obtain ⟨H, eH⟩ : ∃ H, H = s0.heap := ⟨_, rfl⟩
  obtain ⟨locs, eL⟩ : ∃ locs : List Loc, locs = [] := ⟨_, rfl⟩
  have hS : va_S A0 s0.heap H locs := by rw [eH, eL]; exact hS
  have hP : va_P D vwCl (fl [BSpr qs pw ld sn tk ss]) H := by rw [eH]; exact hP
  suffices goal : W p0 l e0 rmX7_tighten s0 m0 args bel met cd H locs 0 0 Q0 (F0 m0 0 ls []) by rw [eH, eL] at goal; exact goal
  clear eH eL hH
  refine lv_aload_n hx hb dX7_tighten_0 rfl (lv_at hl 0 rfl) ?_
  refine lv_dup hx hb dX7_tighten_1 rfl ?_
  refine g_get (C := RX7) (T := TX7) (N := 5) hx hb hts (fun _ h => List.mem_cons_of_mem _ (List.mem_append_right _ h)) hown hK hP (i := 0) rfl BSpr_c0 rfl 0 (by decide) (by decide +kernel) rfl dX7_tighten_2 ?_
  refine lv_iload_n hx hb dX7_tighten_5 rfl (lv_at hl 1 rfl) ?_
  refine wi_iadd hx hb dX7_tighten_6 ?_
  refine g_put (C := RX7) (T := TX7) (N := 5) hx hb hts (fun _ h => List.mem_cons_of_mem _ (List.mem_append_right _ h)) tyX7 tyX7_ok nmX7 hown hK hP hD hS (i := 0) rfl BSpr_c0 rfl 0 (by decide) (by decide +kernel) rfl (by decide +kernel) (Nat.le_of_ble_eq_true rfl) (B1 := BSpr qs (pw + v) ld sn tk ss) rfl (Bs1 := [BSpr qs (pw + v) ld sn tk ss]) rfl dX7_tighten_7 (fun H locs hP hD hS => ?_)
  refine lv_aload_n hx hb dX7_tighten_10 rfl (lv_at hl 0 rfl) ?_
  refine g_get (C := RX7) (T := TX7) (N := 5) hx hb hts (fun _ h => List.mem_cons_of_mem _ (List.mem_append_right _ h)) hown hK hP (i := 0) rfl BSpr_c0 rfl 0 (by decide) (by decide +kernel) rfl dX7_tighten_11 ?_
  refine wi_sipush hx hb dX7_tighten_14 (by decide) ?_
  refine wi_icmp_le (tgt := 37) hx hb (by omega) (by omega) dX7_tighten_17 (by decide) (fun c17 => ?_) (fun c17 => ?_)
  ·
    rw [show BSpr qs (pw + v) ld sn tk ss = BSpr qs (if 1000 < pw + v then 1000 else pw + v) ld sn tk ss from congrArg (fun z_ : Int => BSpr qs z_ ld sn tk ss) (show (pw + v : Int) = (if 1000 < pw + v then 1000 else pw + v) from by first | rfl | (rw [if_pos (by omega)]) | (rw [if_neg (by omega)]))] at hP hD
    rw [show BSpr qs (if 1000 < pw + v then 1000 else pw + v) ld sn tk ss = BSpr qs (if 1000 < pw + v then 1000 else pw + v) ld (if 1000 < pw + v then sn + 1 else sn) tk ss from congrArg (fun z_ : Int => BSpr qs (if 1000 < pw + v then 1000 else pw + v) ld z_ tk ss) (show (sn : Int) = (if 1000 < pw + v then sn + 1 else sn) from by first | rfl | (rw [if_pos (by omega)]) | (rw [if_neg (by omega)]))] at hP hD
    exact fin () H locs ls 37 dX7_tighten_37 hP hD hS (trivial)
  ·
    refine lv_aload_n hx hb dX7_tighten_20 rfl (lv_at hl 0 rfl) ?_
    refine wi_sipush hx hb dX7_tighten_21 (by decide) ?_
    refine g_put (C := RX7) (T := TX7) (N := 5) hx hb hts (fun _ h => List.mem_cons_of_mem _ (List.mem_append_right _ h)) tyX7 tyX7_ok nmX7 hown hK hP hD hS (i := 0) rfl BSpr_c0 rfl 0 (by decide) (by decide +kernel) rfl (by decide +kernel) (Nat.le_of_ble_eq_true rfl) (B1 := BSpr qs 1000 ld sn tk ss) rfl (Bs1 := [BSpr qs 1000 ld sn tk ss]) rfl dX7_tighten_24 (fun H locs hP hD hS => ?_)
    refine lv_aload_n hx hb dX7_tighten_27 rfl (lv_at hl 0 rfl) ?_
    refine lv_dup hx hb dX7_tighten_28 rfl ?_
    refine g_get (C := RX7) (T := TX7) (N := 5) hx hb hts (fun _ h => List.mem_cons_of_mem _ (List.mem_append_right _ h)) hown hK hP (i := 0) rfl BSpr_c0 rfl 2 (by decide) (by decide +kernel) rfl dX7_tighten_29 ?_
    refine wi_iconst hx hb dX7_tighten_32 ?_
    refine wi_iadd hx hb dX7_tighten_33 ?_
    refine g_put (C := RX7) (T := TX7) (N := 5) hx hb hts (fun _ h => List.mem_cons_of_mem _ (List.mem_append_right _ h)) tyX7 tyX7_ok nmX7 hown hK hP hD hS (i := 0) rfl BSpr_c0 rfl 2 (by decide) (by decide +kernel) rfl (by decide +kernel) (Nat.le_of_ble_eq_true rfl) (B1 := BSpr qs 1000 ld (sn + 1) tk ss) rfl (Bs1 := [BSpr qs 1000 ld (sn + 1) tk ss]) rfl dX7_tighten_34 (fun H locs hP hD hS => ?_)
    rw [show BSpr qs 1000 ld (sn + 1) tk ss = BSpr qs (if 1000 < pw + v then 1000 else pw + v) ld (sn + 1) tk ss from congrArg (fun z_ : Int => BSpr qs z_ ld (sn + 1) tk ss) (show (1000 : Int) = (if 1000 < pw + v then 1000 else pw + v) from by first | rfl | (rw [if_pos (by omega)]) | (rw [if_neg (by omega)]))] at hP hD
    rw [show BSpr qs (if 1000 < pw + v then 1000 else pw + v) ld (sn + 1) tk ss = BSpr qs (if 1000 < pw + v then 1000 else pw + v) ld (if 1000 < pw + v then sn + 1 else sn) tk ss from congrArg (fun z_ : Int => BSpr qs (if 1000 < pw + v then 1000 else pw + v) ld z_ tk ss) (show (sn + 1 : Int) = (if 1000 < pw + v then sn + 1 else sn) from by first | rfl | (rw [if_pos (by omega)]) | (rw [if_neg (by omega)]))] at hP hD
    exact fin () H locs ls 37 dX7_tighten_37 hP hD hS (trivial)

abbrev rmX7_ticksOfStep : Room := { frames := 0, cells := 0, slots := 0, locals := 0 }
set_option maxHeartbeats 4000000 in
set_option maxRecDepth 100000 in
theorem kX7_ticksOfStep (l : Launch) (D : va_G) (G : Nat → ClassId) (qs : Nat) (pw : Int) (ld : Int) (sn : Int) (tk : Int) (ss : Int) (hpw : 0 ≤ pw ∧ pw ≤ 1000) : CtI l yX7_ticksOfStep wsX7_ticksOfStep rmX7_ticksOfStep D G [.ref qs] [BSpr qs pw ld sn tk ss] (fun (r : Int32) (_ : Unit) => r = iI (tks pw)) (fun _ => [BSpr qs pw ld sn tk ss]) := by
  refine CtI.ofI (cc := cX7_ticksOfStep) (maxL := 1) (by decide) rfl (Nat.le_of_ble_eq_true rfl) ?_
  intro p0 e0 s0 m0 args bel met cd A0 ls Q0 hx hb hml hown hts hK hP hD hA hl fin
  have hl : lv_has ls 1 [(0, .ref qs)] := hl
  have hS : va_S A0 s0.heap s0.heap [] := va_S.rf
  have hH : va_P D vwCl (fl [BSpr qs pw ld sn tk ss]) s0.heap := hP
  obtain ⟨H, eH⟩ : ∃ H, H = s0.heap := ⟨_, rfl⟩
  obtain ⟨locs, eL⟩ : ∃ locs : List Loc, locs = [] := ⟨_, rfl⟩
  have hS : va_S A0 s0.heap H locs := by rw [eH, eL]; exact hS
  have hP : va_P D vwCl (fl [BSpr qs pw ld sn tk ss]) H := by rw [eH]; exact hP
  suffices goal : W p0 l e0 rmX7_ticksOfStep s0 m0 args bel met cd H locs 0 0 Q0 (F0 m0 0 ls []) by rw [eH, eL] at goal; exact goal
  clear eH eL hH
  refine lv_aload_n hx hb dX7_ticksOfStep_0 rfl (lv_at hl 0 rfl) ?_
  refine g_get (C := RX7) (T := TX7) (N := 5) hx hb hts (fun _ h => List.mem_cons_of_mem _ (List.mem_append_right _ h)) hown hK hP (i := 0) rfl BSpr_c0 rfl 0 (by decide) (by decide +kernel) rfl dX7_ticksOfStep_1 ?_
  refine wi_sipush hx hb dX7_ticksOfStep_4 (by decide) ?_
  refine wi_icmp_lt (tgt := 12) hx hb (by omega) (by omega) dX7_ticksOfStep_7 (by decide) (fun c7 => ?_) (fun c7 => ?_)
  ·
    refine lv_aload_n hx hb dX7_ticksOfStep_12 rfl (lv_at hl 0 rfl) ?_
    refine g_get (C := RX7) (T := TX7) (N := 5) hx hb hts (fun _ h => List.mem_cons_of_mem _ (List.mem_append_right _ h)) hown hK hP (i := 0) rfl BSpr_c0 rfl 0 (by decide) (by decide +kernel) rfl dX7_ticksOfStep_13 ?_
    refine wi_sipush hx hb dX7_ticksOfStep_16 (by decide) ?_
    refine wi_icmp_lt (tgt := 26) hx hb (by omega) (by omega) dX7_ticksOfStep_19 (by decide) (fun c19 => ?_) (fun c19 => ?_)
    ·
      refine wi_iconst hx hb dX7_ticksOfStep_26 ?_
      exact fin _ () H locs ls 27 dX7_ticksOfStep_27 hP hD hS (trivial) (congrArg iI (by unfold tks; (repeat' split) <;> omega))
    ·
      refine wi_iconst hx hb dX7_ticksOfStep_22 ?_
      refine lv_goto (tgt := 27) hx hb dX7_ticksOfStep_23 (by decide) ?_
      exact fin _ () H locs ls 27 dX7_ticksOfStep_27 hP hD hS (trivial) (congrArg iI (by unfold tks; (repeat' split) <;> omega))
  ·
    refine wi_iconst hx hb dX7_ticksOfStep_10 ?_
    exact fin _ () H locs ls 11 dX7_ticksOfStep_11 hP hD hS (trivial) (congrArg iI (by unfold tks; (repeat' split) <;> omega))

abbrev rmX7_makeStep : Room := { frames := 2, cells := 0, slots := 0, locals := 41 }
set_option maxHeartbeats 4000000 in
set_option maxRecDepth 100000 in
theorem kX7_makeStep (l : Launch) (D : va_G) (G : Nat → ClassId) (qs : Nat) (pw : Int) (ld : Int) (sn : Int) (tk : Int) (ss : Int) (hpw : 0 ≤ pw ∧ pw ≤ 1000) (hld : 1 ≤ ld ∧ ld ≤ 20) (hss : 0 ≤ ss ∧ ss < 1000000) : CtI l yX7_makeStep wsX7_makeStep rmX7_makeStep D G [.ref qs] [BSpr qs pw ld sn tk ss] (fun (r : Int32) (_ : Unit) => r = iI (if pw < ld + wr ss then 0 else 1)) (fun _ => [BSpr qs (if pw < ld + wr ss then pw else pw - (ld + wr ss)) ld sn (if pw < ld + wr ss then tk else tk + tks pw) (if pw < ld + wr ss then ss else ss + 1)]) := by
  refine CtI.ofZ (cc := cX7_makeStep) (maxL := 2) (by decide) rfl (Nat.le_of_ble_eq_true rfl) ?_
  intro p0 e0 s0 m0 args bel met cd A0 ls Q0 hx hb hml hown hts hK hP hD hA hl fin
  have hl : lv_has ls 2 [(0, .ref qs)] := hl
  have hS : va_S A0 s0.heap s0.heap [] := va_S.rf
  have hH : va_P D vwCl (fl [BSpr qs pw ld sn tk ss]) s0.heap := hP
  obtain ⟨H, eH⟩ : ∃ H, H = s0.heap := ⟨_, rfl⟩
  obtain ⟨locs, eL⟩ : ∃ locs : List Loc, locs = [] := ⟨_, rfl⟩
  have hS : va_S A0 s0.heap H locs := by rw [eH, eL]; exact hS
  have hP : va_P D vwCl (fl [BSpr qs pw ld sn tk ss]) H := by rw [eH]; exact hP
  suffices goal : W p0 l e0 rmX7_makeStep s0 m0 args bel met cd H locs 0 0 Q0 (F0 m0 0 ls []) by rw [eH, eL] at goal; exact goal
  clear eH eL hH
  refine lv_aload_n hx hb dX7_makeStep_0 rfl (lv_at hl 0 rfl) ?_
  refine g_get (C := RX7) (T := TX7) (N := 5) hx hb hts (fun _ h => List.mem_cons_of_mem _ (List.mem_append_right _ h)) hown hK hP (i := 0) rfl BSpr_c0 rfl 1 (by decide) (by decide +kernel) rfl dX7_makeStep_1 ?_
  refine lv_aload_n hx hb dX7_makeStep_4 rfl (lv_at hl 0 rfl) ?_
  refine cV_i (wc := [BSpr qs pw ld sn tk ss]) (wr := []) (w1 := fun _ => [BSpr qs pw ld sn tk ss]) (Bs1 := fun _ => [BSpr qs pw ld sn tk ss]) (As := []) (rest := [.int (iI ld)]) (kX7_wear l D G qs pw ld sn tk ss (by first | assumption | omega)) rfl ⟨hx, hb, hml, hown, hts⟩ (cwV 0 hts gX7_makeStep_X7_wear rfl rfl rfl (by decide +kernel) ⟨by decide, by decide⟩) (q0 := 0) (ci := 7) rfl rfl rfl rfl hl.1 (Nat.le_of_ble_eq_true rfl) ⟨Nat.le_of_ble_eq_true rfl, Nat.le_of_ble_eq_true rfl⟩ dX7_makeStep_5 hK hP hD hS hA (perm_idx [0] rfl rfl) (fun _ => perm_idx [0] rfl rfl) (fun r u H locs hw1 hP hD hS => ?_)
  subst hw1
  have hwr := wr_rng hss.1
  refine wi_iadd hx hb dX7_makeStep_8 ?_
  refine lv_istore_n (lv' := [(1, .int (iI (ld + (wr ss)))), (0, .ref qs)]) hx hb dX7_makeStep_9 rfl hl (by decide) rfl (fun ls hl => ?_)
  refine lv_aload_n hx hb dX7_makeStep_10 rfl (lv_at hl 1 rfl) ?_
  refine g_get (C := RX7) (T := TX7) (N := 5) hx hb hts (fun _ h => List.mem_cons_of_mem _ (List.mem_append_right _ h)) hown hK hP (i := 0) rfl BSpr_c0 rfl 0 (by decide) (by decide +kernel) rfl dX7_makeStep_11 ?_
  refine lv_iload_n hx hb dX7_makeStep_14 rfl (lv_at hl 0 rfl) ?_
  refine wi_icmp_ge (tgt := 20) hx hb (by omega) (by omega) dX7_makeStep_15 (by decide) (fun c15 => ?_) (fun c15 => ?_)
  ·
    refine lv_aload_n hx hb dX7_makeStep_20 rfl (lv_at hl 1 rfl) ?_
    refine lv_dup hx hb dX7_makeStep_21 rfl ?_
    refine g_get (C := RX7) (T := TX7) (N := 5) hx hb hts (fun _ h => List.mem_cons_of_mem _ (List.mem_append_right _ h)) hown hK hP (i := 0) rfl BSpr_c0 rfl 3 (by decide) (by decide +kernel) rfl dX7_makeStep_22 ?_
    refine lv_aload_n hx hb dX7_makeStep_25 rfl (lv_at hl 1 rfl) ?_
    refine cV_i (wc := [BSpr qs pw ld sn tk ss]) (wr := []) (w1 := fun _ => [BSpr qs pw ld sn tk ss]) (Bs1 := fun _ => [BSpr qs pw ld sn tk ss]) (As := []) (rest := [.int (iI tk), .ref qs]) (kX7_ticksOfStep l D G qs pw ld sn tk ss (by first | assumption | omega)) rfl ⟨hx, hb, hml, hown, hts⟩ (cwV 0 hts gX7_makeStep_X7_ticksOfStep rfl rfl rfl (by decide +kernel) ⟨by decide, by decide⟩) (q0 := 0) (ci := 7) rfl rfl rfl rfl hl.1 (Nat.le_of_ble_eq_true rfl) ⟨Nat.le_of_ble_eq_true rfl, Nat.le_of_ble_eq_true rfl⟩ dX7_makeStep_26 hK hP hD hS hA (perm_idx [0] rfl rfl) (fun _ => perm_idx [0] rfl rfl) (fun r u H locs hw2 hP hD hS => ?_)
    subst hw2
    refine wi_iadd hx hb dX7_makeStep_29 ?_
    refine g_put (C := RX7) (T := TX7) (N := 5) hx hb hts (fun _ h => List.mem_cons_of_mem _ (List.mem_append_right _ h)) tyX7 tyX7_ok nmX7 hown hK hP hD hS (i := 0) rfl BSpr_c0 rfl 3 (by decide) (by decide +kernel) rfl (by decide +kernel) (Nat.le_of_ble_eq_true rfl) (B1 := BSpr qs pw ld sn (tk + (tks pw)) ss) rfl (Bs1 := [BSpr qs pw ld sn (tk + (tks pw)) ss]) rfl dX7_makeStep_30 (fun H locs hP hD hS => ?_)
    refine lv_aload_n hx hb dX7_makeStep_33 rfl (lv_at hl 1 rfl) ?_
    refine lv_dup hx hb dX7_makeStep_34 rfl ?_
    refine g_get (C := RX7) (T := TX7) (N := 5) hx hb hts (fun _ h => List.mem_cons_of_mem _ (List.mem_append_right _ h)) hown hK hP (i := 0) rfl BSpr_c0 rfl 0 (by decide) (by decide +kernel) rfl dX7_makeStep_35 ?_
    refine lv_iload_n hx hb dX7_makeStep_38 rfl (lv_at hl 0 rfl) ?_
    refine wi_isub hx hb dX7_makeStep_39 ?_
    refine g_put (C := RX7) (T := TX7) (N := 5) hx hb hts (fun _ h => List.mem_cons_of_mem _ (List.mem_append_right _ h)) tyX7 tyX7_ok nmX7 hown hK hP hD hS (i := 0) rfl BSpr_c0 rfl 0 (by decide) (by decide +kernel) rfl (by decide +kernel) (Nat.le_of_ble_eq_true rfl) (B1 := BSpr qs (pw - (ld + (wr ss))) ld sn (tk + (tks pw)) ss) rfl (Bs1 := [BSpr qs (pw - (ld + (wr ss))) ld sn (tk + (tks pw)) ss]) rfl dX7_makeStep_40 (fun H locs hP hD hS => ?_)
    refine lv_aload_n hx hb dX7_makeStep_43 rfl (lv_at hl 1 rfl) ?_
    refine lv_dup hx hb dX7_makeStep_44 rfl ?_
    refine g_get (C := RX7) (T := TX7) (N := 5) hx hb hts (fun _ h => List.mem_cons_of_mem _ (List.mem_append_right _ h)) hown hK hP (i := 0) rfl BSpr_c0 rfl 4 (by decide) (by decide +kernel) rfl dX7_makeStep_45 ?_
    refine wi_iconst hx hb dX7_makeStep_48 ?_
    refine wi_iadd hx hb dX7_makeStep_49 ?_
    refine g_put (C := RX7) (T := TX7) (N := 5) hx hb hts (fun _ h => List.mem_cons_of_mem _ (List.mem_append_right _ h)) tyX7 tyX7_ok nmX7 hown hK hP hD hS (i := 0) rfl BSpr_c0 rfl 4 (by decide) (by decide +kernel) rfl (by decide +kernel) (Nat.le_of_ble_eq_true rfl) (B1 := BSpr qs (pw - (ld + (wr ss))) ld sn (tk + (tks pw)) (ss + 1)) rfl (Bs1 := [BSpr qs (pw - (ld + (wr ss))) ld sn (tk + (tks pw)) (ss + 1)]) rfl dX7_makeStep_50 (fun H locs hP hD hS => ?_)
    refine wi_iconst hx hb dX7_makeStep_53 ?_
    rw [show BSpr qs (pw - (ld + (wr ss))) ld sn (tk + (tks pw)) (ss + 1) = BSpr qs (if pw < ld + wr ss then pw else pw - (ld + wr ss)) ld sn (tk + (tks pw)) (ss + 1) from congrArg (fun z_ : Int => BSpr qs z_ ld sn (tk + (tks pw)) (ss + 1)) (show (pw - (ld + (wr ss)) : Int) = (if pw < ld + wr ss then pw else pw - (ld + wr ss)) from by first | rfl | (rw [if_pos (by omega)]) | (rw [if_neg (by omega)]))] at hP hD
    rw [show BSpr qs (if pw < ld + wr ss then pw else pw - (ld + wr ss)) ld sn (tk + (tks pw)) (ss + 1) = BSpr qs (if pw < ld + wr ss then pw else pw - (ld + wr ss)) ld sn (if pw < ld + wr ss then tk else tk + tks pw) (ss + 1) from congrArg (fun z_ : Int => BSpr qs (if pw < ld + wr ss then pw else pw - (ld + wr ss)) ld sn z_ (ss + 1)) (show (tk + (tks pw) : Int) = (if pw < ld + wr ss then tk else tk + tks pw) from by first | rfl | (rw [if_pos (by omega)]) | (rw [if_neg (by omega)]))] at hP hD
    rw [show BSpr qs (if pw < ld + wr ss then pw else pw - (ld + wr ss)) ld sn (if pw < ld + wr ss then tk else tk + tks pw) (ss + 1) = BSpr qs (if pw < ld + wr ss then pw else pw - (ld + wr ss)) ld sn (if pw < ld + wr ss then tk else tk + tks pw) (if pw < ld + wr ss then ss else ss + 1) from congrArg (fun z_ : Int => BSpr qs (if pw < ld + wr ss then pw else pw - (ld + wr ss)) ld sn (if pw < ld + wr ss then tk else tk + tks pw) z_) (show (ss + 1 : Int) = (if pw < ld + wr ss then ss else ss + 1) from by first | rfl | (rw [if_pos (by omega)]) | (rw [if_neg (by omega)]))] at hP hD
    exact fin _ () H locs ls 54 dX7_makeStep_54 hP hD hS (by decide) (congrArg iI (by first | rfl | (rw [if_pos (by omega)]) | (rw [if_neg (by omega)]) | (split <;> omega)))
  ·
    refine wi_iconst hx hb dX7_makeStep_18 ?_
    rw [show BSpr qs pw ld sn tk ss = BSpr qs (if pw < ld + wr ss then pw else pw - (ld + wr ss)) ld sn tk ss from congrArg (fun z_ : Int => BSpr qs z_ ld sn tk ss) (show (pw : Int) = (if pw < ld + wr ss then pw else pw - (ld + wr ss)) from by first | rfl | (rw [if_pos (by omega)]) | (rw [if_neg (by omega)]))] at hP hD
    rw [show BSpr qs (if pw < ld + wr ss then pw else pw - (ld + wr ss)) ld sn tk ss = BSpr qs (if pw < ld + wr ss then pw else pw - (ld + wr ss)) ld sn (if pw < ld + wr ss then tk else tk + tks pw) ss from congrArg (fun z_ : Int => BSpr qs (if pw < ld + wr ss then pw else pw - (ld + wr ss)) ld sn z_ ss) (show (tk : Int) = (if pw < ld + wr ss then tk else tk + tks pw) from by first | rfl | (rw [if_pos (by omega)]) | (rw [if_neg (by omega)]))] at hP hD
    rw [show BSpr qs (if pw < ld + wr ss then pw else pw - (ld + wr ss)) ld sn (if pw < ld + wr ss then tk else tk + tks pw) ss = BSpr qs (if pw < ld + wr ss then pw else pw - (ld + wr ss)) ld sn (if pw < ld + wr ss then tk else tk + tks pw) (if pw < ld + wr ss then ss else ss + 1) from congrArg (fun z_ : Int => BSpr qs (if pw < ld + wr ss then pw else pw - (ld + wr ss)) ld sn (if pw < ld + wr ss then tk else tk + tks pw) z_) (show (ss : Int) = (if pw < ld + wr ss then ss else ss + 1) from by first | rfl | (rw [if_pos (by omega)]) | (rw [if_neg (by omega)]))] at hP hD
    exact fin _ () H locs ls 19 dX7_makeStep_19 hP hD hS (by decide) (congrArg iI (by first | rfl | (rw [if_pos (by omega)]) | (rw [if_neg (by omega)]) | (split <;> omega)))

abbrev rmX1_clear : Room := { frames := 0, cells := 0, slots := 0, locals := 0 }
set_option maxHeartbeats 4000000 in
set_option maxRecDepth 100000 in
theorem kX1_clear (l : Launch) (D : va_G) (G : Nat → ClassId) (qf : Nat) (wo : Int) (lo : Int) (be : Int) : CtV l yX1_clear wsX1_clear rmX1_clear D G [.ref qf] [BFlt qf wo lo be] (fun _ : Unit => True) (fun _ => [BFlt qf (-1) (-1) (-1)]) := by
  refine CtV.of (cc := cX1_clear) (maxL := 1) (by decide) rfl (Nat.le_of_ble_eq_true rfl) ?_
  intro p0 e0 s0 m0 args bel met cd A0 ls Q0 hx hb hml hown hts hK hP hD hA hl fin
  have hl : lv_has ls 1 [(0, .ref qf)] := hl
  have hS : va_S A0 s0.heap s0.heap [] := va_S.rf
  have hH : va_P D vwCl (fl [BFlt qf wo lo be]) s0.heap := hP
  obtain ⟨H, eH⟩ : ∃ H, H = s0.heap := ⟨_, rfl⟩
  obtain ⟨locs, eL⟩ : ∃ locs : List Loc, locs = [] := ⟨_, rfl⟩
  have hS : va_S A0 s0.heap H locs := by rw [eH, eL]; exact hS
  have hP : va_P D vwCl (fl [BFlt qf wo lo be]) H := by rw [eH]; exact hP
  suffices goal : W p0 l e0 rmX1_clear s0 m0 args bel met cd H locs 0 0 Q0 (F0 m0 0 ls []) by rw [eH, eL] at goal; exact goal
  clear eH eL hH
  refine lv_aload_n hx hb dX1_clear_0 rfl (lv_at hl 0 rfl) ?_
  refine wi_iconst hx hb dX1_clear_1 ?_
  refine g_put (C := RX1) (T := TX1) (N := 3) hx hb hts (fun _ h => List.mem_cons_of_mem _ (List.mem_append_right _ h)) tyX1 tyX1_ok nmX1 hown hK hP hD hS (i := 0) rfl BFlt_c0 rfl 0 (by decide) (by decide +kernel) rfl (by decide +kernel) (Nat.le_of_ble_eq_true rfl) (B1 := BFlt qf (-1) lo be) rfl (Bs1 := [BFlt qf (-1) lo be]) rfl dX1_clear_2 (fun H locs hP hD hS => ?_)
  refine lv_aload_n hx hb dX1_clear_5 rfl (lv_at hl 0 rfl) ?_
  refine wi_iconst hx hb dX1_clear_6 ?_
  refine g_put (C := RX1) (T := TX1) (N := 3) hx hb hts (fun _ h => List.mem_cons_of_mem _ (List.mem_append_right _ h)) tyX1 tyX1_ok nmX1 hown hK hP hD hS (i := 0) rfl BFlt_c0 rfl 1 (by decide) (by decide +kernel) rfl (by decide +kernel) (Nat.le_of_ble_eq_true rfl) (B1 := BFlt qf (-1) (-1) be) rfl (Bs1 := [BFlt qf (-1) (-1) be]) rfl dX1_clear_7 (fun H locs hP hD hS => ?_)
  refine lv_aload_n hx hb dX1_clear_10 rfl (lv_at hl 0 rfl) ?_
  refine wi_iconst hx hb dX1_clear_11 ?_
  refine g_put (C := RX1) (T := TX1) (N := 3) hx hb hts (fun _ h => List.mem_cons_of_mem _ (List.mem_append_right _ h)) tyX1 tyX1_ok nmX1 hown hK hP hD hS (i := 0) rfl BFlt_c0 rfl 2 (by decide) (by decide +kernel) rfl (by decide +kernel) (Nat.le_of_ble_eq_true rfl) (B1 := BFlt qf (-1) (-1) (-1)) rfl (Bs1 := [BFlt qf (-1) (-1) (-1)]) rfl dX1_clear_12 (fun H locs hP hD hS => ?_)
  exact fin () H locs ls 15 dX1_clear_15 hP hD hS (trivial)

abbrev rmX1_tell : Room := { frames := 0, cells := 0, slots := 0, locals := 0 }
set_option maxHeartbeats 4000000 in
set_option maxRecDepth 100000 in
theorem kX1_tell (l : Launch) (D : va_G) (G : Nat → ClassId) (qf : Nat) (wo : Int) (lo : Int) (be : Int) (k : Int) (v : Int) (hk : -2147483648 ≤ k ∧ k < 2147483648) : CtV l yX1_tell wsX1_tell rmX1_tell D G [.ref qf, .int (iI k), .int (iI v)] [BFlt qf wo lo be] (fun _ : Unit => True) (fun _ => [BFlt qf (if k = 1 then v else wo) (if k = 2 then v else lo) (if k = 3 then v else be)]) := by
  refine CtV.of (cc := cX1_tell) (maxL := 3) (by decide) rfl (Nat.le_of_ble_eq_true rfl) ?_
  intro p0 e0 s0 m0 args bel met cd A0 ls Q0 hx hb hml hown hts hK hP hD hA hl fin
  have hl : lv_has ls 3 [(0, .ref qf), (1, .int (iI k)), (2, .int (iI v))] := hl
  have hS : va_S A0 s0.heap s0.heap [] := va_S.rf
  have hH : va_P D vwCl (fl [BFlt qf wo lo be]) s0.heap := hP
  obtain ⟨H, eH⟩ : ∃ H, H = s0.heap := ⟨_, rfl⟩
  obtain ⟨locs, eL⟩ : ∃ locs : List Loc, locs = [] := ⟨_, rfl⟩
  have hS : va_S A0 s0.heap H locs := by rw [eH, eL]; exact hS
  have hP : va_P D vwCl (fl [BFlt qf wo lo be]) H := by rw [eH]; exact hP
  suffices goal : W p0 l e0 rmX1_tell s0 m0 args bel met cd H locs 0 0 Q0 (F0 m0 0 ls []) by rw [eH, eL] at goal; exact goal
  clear eH eL hH
  refine lv_iload_n hx hb dX1_tell_0 rfl (lv_at hl 1 rfl) ?_
  by_cases s1_1 : k = 1
  · refine wi_tableIn (off := 27) (tgt := 28) hx hb dX1_tell_1 (by omega) (by omega) (by rw [s1_1]; rfl) (by decide) ?_
    refine lv_aload_n hx hb dX1_tell_28 rfl (lv_at hl 0 rfl) ?_
    refine lv_iload_n hx hb dX1_tell_29 rfl (lv_at hl 2 rfl) ?_
    refine g_put (C := RX1) (T := TX1) (N := 3) hx hb hts (fun _ h => List.mem_cons_of_mem _ (List.mem_append_right _ h)) tyX1 tyX1_ok nmX1 hown hK hP hD hS (i := 0) rfl BFlt_c0 rfl 0 (by decide) (by decide +kernel) rfl (by decide +kernel) (Nat.le_of_ble_eq_true rfl) (B1 := BFlt qf v lo be) rfl (Bs1 := [BFlt qf v lo be]) rfl dX1_tell_30 (fun H locs hP hD hS => ?_)
    refine lv_goto (tgt := 52) hx hb dX1_tell_33 (by decide) ?_
    rw [show BFlt qf v lo be = BFlt qf (if k = 1 then v else wo) lo be from congrArg (fun z_ : Int => BFlt qf z_ lo be) (show (v : Int) = (if k = 1 then v else wo) from by first | rfl | (rw [if_pos (by omega)]) | (rw [if_neg (by omega)]))] at hP hD
    rw [show BFlt qf (if k = 1 then v else wo) lo be = BFlt qf (if k = 1 then v else wo) (if k = 2 then v else lo) be from congrArg (fun z_ : Int => BFlt qf (if k = 1 then v else wo) z_ be) (show (lo : Int) = (if k = 2 then v else lo) from by first | rfl | (rw [if_pos (by omega)]) | (rw [if_neg (by omega)]))] at hP hD
    rw [show BFlt qf (if k = 1 then v else wo) (if k = 2 then v else lo) be = BFlt qf (if k = 1 then v else wo) (if k = 2 then v else lo) (if k = 3 then v else be) from congrArg (fun z_ : Int => BFlt qf (if k = 1 then v else wo) (if k = 2 then v else lo) z_) (show (be : Int) = (if k = 3 then v else be) from by first | rfl | (rw [if_pos (by omega)]) | (rw [if_neg (by omega)]))] at hP hD
    exact fin () H locs ls 52 dX1_tell_52 hP hD hS (trivial)
  by_cases s1_2 : k = 2
  · refine wi_tableIn (off := 35) (tgt := 36) hx hb dX1_tell_1 (by omega) (by omega) (by rw [s1_2]; rfl) (by decide) ?_
    refine lv_aload_n hx hb dX1_tell_36 rfl (lv_at hl 0 rfl) ?_
    refine lv_iload_n hx hb dX1_tell_37 rfl (lv_at hl 2 rfl) ?_
    refine g_put (C := RX1) (T := TX1) (N := 3) hx hb hts (fun _ h => List.mem_cons_of_mem _ (List.mem_append_right _ h)) tyX1 tyX1_ok nmX1 hown hK hP hD hS (i := 0) rfl BFlt_c0 rfl 1 (by decide) (by decide +kernel) rfl (by decide +kernel) (Nat.le_of_ble_eq_true rfl) (B1 := BFlt qf wo v be) rfl (Bs1 := [BFlt qf wo v be]) rfl dX1_tell_38 (fun H locs hP hD hS => ?_)
    refine lv_goto (tgt := 52) hx hb dX1_tell_41 (by decide) ?_
    rw [show BFlt qf wo v be = BFlt qf (if k = 1 then v else wo) v be from congrArg (fun z_ : Int => BFlt qf z_ v be) (show (wo : Int) = (if k = 1 then v else wo) from by first | rfl | (rw [if_pos (by omega)]) | (rw [if_neg (by omega)]))] at hP hD
    rw [show BFlt qf (if k = 1 then v else wo) v be = BFlt qf (if k = 1 then v else wo) (if k = 2 then v else lo) be from congrArg (fun z_ : Int => BFlt qf (if k = 1 then v else wo) z_ be) (show (v : Int) = (if k = 2 then v else lo) from by first | rfl | (rw [if_pos (by omega)]) | (rw [if_neg (by omega)]))] at hP hD
    rw [show BFlt qf (if k = 1 then v else wo) (if k = 2 then v else lo) be = BFlt qf (if k = 1 then v else wo) (if k = 2 then v else lo) (if k = 3 then v else be) from congrArg (fun z_ : Int => BFlt qf (if k = 1 then v else wo) (if k = 2 then v else lo) z_) (show (be : Int) = (if k = 3 then v else be) from by first | rfl | (rw [if_pos (by omega)]) | (rw [if_neg (by omega)]))] at hP hD
    exact fin () H locs ls 52 dX1_tell_52 hP hD hS (trivial)
  by_cases s1_3 : k = 3
  · refine wi_tableIn (off := 43) (tgt := 44) hx hb dX1_tell_1 (by omega) (by omega) (by rw [s1_3]; rfl) (by decide) ?_
    refine lv_aload_n hx hb dX1_tell_44 rfl (lv_at hl 0 rfl) ?_
    refine lv_iload_n hx hb dX1_tell_45 rfl (lv_at hl 2 rfl) ?_
    refine g_put (C := RX1) (T := TX1) (N := 3) hx hb hts (fun _ h => List.mem_cons_of_mem _ (List.mem_append_right _ h)) tyX1 tyX1_ok nmX1 hown hK hP hD hS (i := 0) rfl BFlt_c0 rfl 2 (by decide) (by decide +kernel) rfl (by decide +kernel) (Nat.le_of_ble_eq_true rfl) (B1 := BFlt qf wo lo v) rfl (Bs1 := [BFlt qf wo lo v]) rfl dX1_tell_46 (fun H locs hP hD hS => ?_)
    refine lv_goto (tgt := 52) hx hb dX1_tell_49 (by decide) ?_
    rw [show BFlt qf wo lo v = BFlt qf (if k = 1 then v else wo) lo v from congrArg (fun z_ : Int => BFlt qf z_ lo v) (show (wo : Int) = (if k = 1 then v else wo) from by first | rfl | (rw [if_pos (by omega)]) | (rw [if_neg (by omega)]))] at hP hD
    rw [show BFlt qf (if k = 1 then v else wo) lo v = BFlt qf (if k = 1 then v else wo) (if k = 2 then v else lo) v from congrArg (fun z_ : Int => BFlt qf (if k = 1 then v else wo) z_ v) (show (lo : Int) = (if k = 2 then v else lo) from by first | rfl | (rw [if_pos (by omega)]) | (rw [if_neg (by omega)]))] at hP hD
    rw [show BFlt qf (if k = 1 then v else wo) (if k = 2 then v else lo) v = BFlt qf (if k = 1 then v else wo) (if k = 2 then v else lo) (if k = 3 then v else be) from congrArg (fun z_ : Int => BFlt qf (if k = 1 then v else wo) (if k = 2 then v else lo) z_) (show (v : Int) = (if k = 3 then v else be) from by first | rfl | (rw [if_pos (by omega)]) | (rw [if_neg (by omega)]))] at hP hD
    exact fin () H locs ls 52 dX1_tell_52 hP hD hS (trivial)
  refine wi_tableOut (tgt := 52) hx hb dX1_tell_1 (by omega) (by omega) (by decide) ?_
  rw [show BFlt qf wo lo be = BFlt qf (if k = 1 then v else wo) lo be from congrArg (fun z_ : Int => BFlt qf z_ lo be) (show (wo : Int) = (if k = 1 then v else wo) from by first | rfl | (rw [if_pos (by omega)]) | (rw [if_neg (by omega)]))] at hP hD
  rw [show BFlt qf (if k = 1 then v else wo) lo be = BFlt qf (if k = 1 then v else wo) (if k = 2 then v else lo) be from congrArg (fun z_ : Int => BFlt qf (if k = 1 then v else wo) z_ be) (show (lo : Int) = (if k = 2 then v else lo) from by first | rfl | (rw [if_pos (by omega)]) | (rw [if_neg (by omega)]))] at hP hD
  rw [show BFlt qf (if k = 1 then v else wo) (if k = 2 then v else lo) be = BFlt qf (if k = 1 then v else wo) (if k = 2 then v else lo) (if k = 3 then v else be) from congrArg (fun z_ : Int => BFlt qf (if k = 1 then v else wo) (if k = 2 then v else lo) z_) (show (be : Int) = (if k = 3 then v else be) from by first | rfl | (rw [if_pos (by omega)]) | (rw [if_neg (by omega)]))] at hP hD
  exact fin () H locs ls 52 dX1_tell_52 hP hD hS (trivial)

abbrev rmX1_size : Room := { frames := 0, cells := 0, slots := 0, locals := 0 }
set_option maxHeartbeats 4000000 in
set_option maxRecDepth 100000 in
theorem kX1_size (l : Launch) (D : va_G) (G : Nat → ClassId) (qf : Nat) (wo : Int) (lo : Int) (be : Int) (hwo : -1 ≤ wo ∧ wo ≤ 11) (hlo : -1 ≤ lo ∧ lo ≤ 11) (hbe : -1 ≤ be ∧ be ≤ 1) : CtI l yX1_size wsX1_size rmX1_size D G [.ref qf] [BFlt qf wo lo be] (fun (r : Int32) (_ : Unit) => r = iI ((if wo = -1 then 0 else 1) + (if lo = -1 then 0 else 1) + (if be = -1 then 0 else 1))) (fun _ => [BFlt qf wo lo be]) := by
  refine CtI.ofI (cc := cX1_size) (maxL := 2) (by decide) rfl (Nat.le_of_ble_eq_true rfl) ?_
  intro p0 e0 s0 m0 args bel met cd A0 ls Q0 hx hb hml hown hts hK hP hD hA hl fin
  have hl : lv_has ls 2 [(0, .ref qf)] := hl
  have hS : va_S A0 s0.heap s0.heap [] := va_S.rf
  have hH : va_P D vwCl (fl [BFlt qf wo lo be]) s0.heap := hP
  obtain ⟨H, eH⟩ : ∃ H, H = s0.heap := ⟨_, rfl⟩
  obtain ⟨locs, eL⟩ : ∃ locs : List Loc, locs = [] := ⟨_, rfl⟩
  have hS : va_S A0 s0.heap H locs := by rw [eH, eL]; exact hS
  have hP : va_P D vwCl (fl [BFlt qf wo lo be]) H := by rw [eH]; exact hP
  suffices goal : W p0 l e0 rmX1_size s0 m0 args bel met cd H locs 0 0 Q0 (F0 m0 0 ls []) by rw [eH, eL] at goal; exact goal
  clear eH eL hH
  refine lv_aload_n hx hb dX1_size_0 rfl (lv_at hl 0 rfl) ?_
  refine g_get (C := RX1) (T := TX1) (N := 3) hx hb hts (fun _ h => List.mem_cons_of_mem _ (List.mem_append_right _ h)) hown hK hP (i := 0) rfl BFlt_c0 rfl 0 (by decide) (by decide +kernel) rfl dX1_size_1 ?_
  refine wi_iconst hx hb dX1_size_4 ?_
  refine wi_icmp_ne (tgt := 12) hx hb (by omega) (by omega) dX1_size_5 (by decide) (fun c5 => ?_) (fun c5 => ?_)
  ·
    refine wi_iconst hx hb dX1_size_12 ?_
    refine lv_istore_n (lv' := [(1, .int (iI 1)), (0, .ref qf)]) hx hb dX1_size_13 rfl hl (by decide) rfl (fun ls hl => ?_)
    refine lv_iload_n hx hb dX1_size_14 rfl (lv_at hl 0 rfl) ?_
    refine lv_aload_n hx hb dX1_size_15 rfl (lv_at hl 1 rfl) ?_
    refine g_get (C := RX1) (T := TX1) (N := 3) hx hb hts (fun _ h => List.mem_cons_of_mem _ (List.mem_append_right _ h)) hown hK hP (i := 0) rfl BFlt_c0 rfl 1 (by decide) (by decide +kernel) rfl dX1_size_16 ?_
    refine wi_iconst hx hb dX1_size_19 ?_
    refine wi_icmp_ne (tgt := 27) hx hb (by omega) (by omega) dX1_size_20 (by decide) (fun c20 => ?_) (fun c20 => ?_)
    ·
      refine wi_iconst hx hb dX1_size_27 ?_
      refine wi_iadd hx hb dX1_size_28 ?_
      refine lv_istore_n (lv' := [(1, .int (iI (1 + 1))), (0, .ref qf)]) hx hb dX1_size_29 rfl hl (by decide) rfl (fun ls hl => ?_)
      refine lv_iload_n hx hb dX1_size_30 rfl (lv_at hl 0 rfl) ?_
      refine lv_aload_n hx hb dX1_size_31 rfl (lv_at hl 1 rfl) ?_
      refine g_get (C := RX1) (T := TX1) (N := 3) hx hb hts (fun _ h => List.mem_cons_of_mem _ (List.mem_append_right _ h)) hown hK hP (i := 0) rfl BFlt_c0 rfl 2 (by decide) (by decide +kernel) rfl dX1_size_32 ?_
      refine wi_iconst hx hb dX1_size_35 ?_
      refine wi_icmp_ne (tgt := 43) hx hb (by omega) (by omega) dX1_size_36 (by decide) (fun c36 => ?_) (fun c36 => ?_)
      ·
        refine wi_iconst hx hb dX1_size_43 ?_
        refine wi_iadd hx hb dX1_size_44 ?_
        refine lv_istore_n (lv' := [(1, .int (iI ((1 + 1) + 1))), (0, .ref qf)]) hx hb dX1_size_45 rfl hl (by decide) rfl (fun ls hl => ?_)
        refine lv_iload_n hx hb dX1_size_46 rfl (lv_at hl 0 rfl) ?_
        exact fin _ () H locs ls 47 dX1_size_47 hP hD hS (trivial) (congrArg iI (by (repeat' split) <;> omega))
      ·
        refine wi_iconst hx hb dX1_size_39 ?_
        refine lv_goto (tgt := 44) hx hb dX1_size_40 (by decide) ?_
        refine wi_iadd hx hb dX1_size_44 ?_
        refine lv_istore_n (lv' := [(1, .int (iI ((1 + 1) + 0))), (0, .ref qf)]) hx hb dX1_size_45 rfl hl (by decide) rfl (fun ls hl => ?_)
        refine lv_iload_n hx hb dX1_size_46 rfl (lv_at hl 0 rfl) ?_
        exact fin _ () H locs ls 47 dX1_size_47 hP hD hS (trivial) (congrArg iI (by (repeat' split) <;> omega))
    ·
      refine wi_iconst hx hb dX1_size_23 ?_
      refine lv_goto (tgt := 28) hx hb dX1_size_24 (by decide) ?_
      refine wi_iadd hx hb dX1_size_28 ?_
      refine lv_istore_n (lv' := [(1, .int (iI (1 + 0))), (0, .ref qf)]) hx hb dX1_size_29 rfl hl (by decide) rfl (fun ls hl => ?_)
      refine lv_iload_n hx hb dX1_size_30 rfl (lv_at hl 0 rfl) ?_
      refine lv_aload_n hx hb dX1_size_31 rfl (lv_at hl 1 rfl) ?_
      refine g_get (C := RX1) (T := TX1) (N := 3) hx hb hts (fun _ h => List.mem_cons_of_mem _ (List.mem_append_right _ h)) hown hK hP (i := 0) rfl BFlt_c0 rfl 2 (by decide) (by decide +kernel) rfl dX1_size_32 ?_
      refine wi_iconst hx hb dX1_size_35 ?_
      refine wi_icmp_ne (tgt := 43) hx hb (by omega) (by omega) dX1_size_36 (by decide) (fun c36 => ?_) (fun c36 => ?_)
      ·
        refine wi_iconst hx hb dX1_size_43 ?_
        refine wi_iadd hx hb dX1_size_44 ?_
        refine lv_istore_n (lv' := [(1, .int (iI ((1 + 0) + 1))), (0, .ref qf)]) hx hb dX1_size_45 rfl hl (by decide) rfl (fun ls hl => ?_)
        refine lv_iload_n hx hb dX1_size_46 rfl (lv_at hl 0 rfl) ?_
        exact fin _ () H locs ls 47 dX1_size_47 hP hD hS (trivial) (congrArg iI (by (repeat' split) <;> omega))
      ·
        refine wi_iconst hx hb dX1_size_39 ?_
        refine lv_goto (tgt := 44) hx hb dX1_size_40 (by decide) ?_
        refine wi_iadd hx hb dX1_size_44 ?_
        refine lv_istore_n (lv' := [(1, .int (iI ((1 + 0) + 0))), (0, .ref qf)]) hx hb dX1_size_45 rfl hl (by decide) rfl (fun ls hl => ?_)
        refine lv_iload_n hx hb dX1_size_46 rfl (lv_at hl 0 rfl) ?_
        exact fin _ () H locs ls 47 dX1_size_47 hP hD hS (trivial) (congrArg iI (by (repeat' split) <;> omega))
  ·
    refine wi_iconst hx hb dX1_size_8 ?_
    refine lv_goto (tgt := 13) hx hb dX1_size_9 (by decide) ?_
    refine lv_istore_n (lv' := [(1, .int (iI 0)), (0, .ref qf)]) hx hb dX1_size_13 rfl hl (by decide) rfl (fun ls hl => ?_)
    refine lv_iload_n hx hb dX1_size_14 rfl (lv_at hl 0 rfl) ?_
    refine lv_aload_n hx hb dX1_size_15 rfl (lv_at hl 1 rfl) ?_
    refine g_get (C := RX1) (T := TX1) (N := 3) hx hb hts (fun _ h => List.mem_cons_of_mem _ (List.mem_append_right _ h)) hown hK hP (i := 0) rfl BFlt_c0 rfl 1 (by decide) (by decide +kernel) rfl dX1_size_16 ?_
    refine wi_iconst hx hb dX1_size_19 ?_
    refine wi_icmp_ne (tgt := 27) hx hb (by omega) (by omega) dX1_size_20 (by decide) (fun c20 => ?_) (fun c20 => ?_)
    ·
      refine wi_iconst hx hb dX1_size_27 ?_
      refine wi_iadd hx hb dX1_size_28 ?_
      refine lv_istore_n (lv' := [(1, .int (iI (0 + 1))), (0, .ref qf)]) hx hb dX1_size_29 rfl hl (by decide) rfl (fun ls hl => ?_)
      refine lv_iload_n hx hb dX1_size_30 rfl (lv_at hl 0 rfl) ?_
      refine lv_aload_n hx hb dX1_size_31 rfl (lv_at hl 1 rfl) ?_
      refine g_get (C := RX1) (T := TX1) (N := 3) hx hb hts (fun _ h => List.mem_cons_of_mem _ (List.mem_append_right _ h)) hown hK hP (i := 0) rfl BFlt_c0 rfl 2 (by decide) (by decide +kernel) rfl dX1_size_32 ?_
      refine wi_iconst hx hb dX1_size_35 ?_
      refine wi_icmp_ne (tgt := 43) hx hb (by omega) (by omega) dX1_size_36 (by decide) (fun c36 => ?_) (fun c36 => ?_)
      ·
        refine wi_iconst hx hb dX1_size_43 ?_
        refine wi_iadd hx hb dX1_size_44 ?_
        refine lv_istore_n (lv' := [(1, .int (iI ((0 + 1) + 1))), (0, .ref qf)]) hx hb dX1_size_45 rfl hl (by decide) rfl (fun ls hl => ?_)
        refine lv_iload_n hx hb dX1_size_46 rfl (lv_at hl 0 rfl) ?_
        exact fin _ () H locs ls 47 dX1_size_47 hP hD hS (trivial) (congrArg iI (by (repeat' split) <;> omega))
      ·
        refine wi_iconst hx hb dX1_size_39 ?_
        refine lv_goto (tgt := 44) hx hb dX1_size_40 (by decide) ?_
        refine wi_iadd hx hb dX1_size_44 ?_
        refine lv_istore_n (lv' := [(1, .int (iI ((0 + 1) + 0))), (0, .ref qf)]) hx hb dX1_size_45 rfl hl (by decide) rfl (fun ls hl => ?_)
        refine lv_iload_n hx hb dX1_size_46 rfl (lv_at hl 0 rfl) ?_
        exact fin _ () H locs ls 47 dX1_size_47 hP hD hS (trivial) (congrArg iI (by (repeat' split) <;> omega))
    ·
      refine wi_iconst hx hb dX1_size_23 ?_
      refine lv_goto (tgt := 28) hx hb dX1_size_24 (by decide) ?_
      refine wi_iadd hx hb dX1_size_28 ?_
      refine lv_istore_n (lv' := [(1, .int (iI (0 + 0))), (0, .ref qf)]) hx hb dX1_size_29 rfl hl (by decide) rfl (fun ls hl => ?_)
      refine lv_iload_n hx hb dX1_size_30 rfl (lv_at hl 0 rfl) ?_
      refine lv_aload_n hx hb dX1_size_31 rfl (lv_at hl 1 rfl) ?_
      refine g_get (C := RX1) (T := TX1) (N := 3) hx hb hts (fun _ h => List.mem_cons_of_mem _ (List.mem_append_right _ h)) hown hK hP (i := 0) rfl BFlt_c0 rfl 2 (by decide) (by decide +kernel) rfl dX1_size_32 ?_
      refine wi_iconst hx hb dX1_size_35 ?_
      refine wi_icmp_ne (tgt := 43) hx hb (by omega) (by omega) dX1_size_36 (by decide) (fun c36 => ?_) (fun c36 => ?_)
      ·
        refine wi_iconst hx hb dX1_size_43 ?_
        refine wi_iadd hx hb dX1_size_44 ?_
        refine lv_istore_n (lv' := [(1, .int (iI ((0 + 0) + 1))), (0, .ref qf)]) hx hb dX1_size_45 rfl hl (by decide) rfl (fun ls hl => ?_)
        refine lv_iload_n hx hb dX1_size_46 rfl (lv_at hl 0 rfl) ?_
        exact fin _ () H locs ls 47 dX1_size_47 hP hD hS (trivial) (congrArg iI (by (repeat' split) <;> omega))
      ·
        refine wi_iconst hx hb dX1_size_39 ?_
        refine lv_goto (tgt := 44) hx hb dX1_size_40 (by decide) ?_
        refine wi_iadd hx hb dX1_size_44 ?_
        refine lv_istore_n (lv' := [(1, .int (iI ((0 + 0) + 0))), (0, .ref qf)]) hx hb dX1_size_45 rfl hl (by decide) rfl (fun ls hl => ?_)
        refine lv_iload_n hx hb dX1_size_46 rfl (lv_at hl 0 rfl) ?_
        exact fin _ () H locs ls 47 dX1_size_47 hP hD hS (trivial) (congrArg iI (by (repeat' split) <;> omega))

abbrev rmX1_isLoose : Room := { frames := 0, cells := 0, slots := 0, locals := 0 }
set_option maxHeartbeats 4000000 in
set_option maxRecDepth 100000 in
theorem kX1_isLoose (l : Launch) (D : va_G) (G : Nat → ClassId) (qf : Nat) (wo : Int) (lo : Int) (be : Int) (k : Int) (hlo : -1 ≤ lo ∧ lo ≤ 11) (hk : 0 ≤ k ∧ k < 12) : CtI l yX1_isLoose wsX1_isLoose rmX1_isLoose D G [.ref qf, .int (iI k)] [BFlt qf wo lo be] (fun (r : Int32) (_ : Unit) => r = iI (if k = lo then 1 else 0)) (fun _ => [BFlt qf wo lo be]) := by
  refine CtI.ofZ (cc := cX1_isLoose) (maxL := 2) (by decide) rfl (Nat.le_of_ble_eq_true rfl) ?_
  intro p0 e0 s0 m0 args bel met cd A0 ls Q0 hx hb hml hown hts hK hP hD hA hl fin
  have hl : lv_has ls 2 [(0, .ref qf), (1, .int (iI k))] := hl
  have hS : va_S A0 s0.heap s0.heap [] := va_S.rf
  have hH : va_P D vwCl (fl [BFlt qf wo lo be]) s0.heap := hP
  obtain ⟨H, eH⟩ : ∃ H, H = s0.heap := ⟨_, rfl⟩
  obtain ⟨locs, eL⟩ : ∃ locs : List Loc, locs = [] := ⟨_, rfl⟩
  have hS : va_S A0 s0.heap H locs := by rw [eH, eL]; exact hS
  have hP : va_P D vwCl (fl [BFlt qf wo lo be]) H := by rw [eH]; exact hP
  suffices goal : W p0 l e0 rmX1_isLoose s0 m0 args bel met cd H locs 0 0 Q0 (F0 m0 0 ls []) by rw [eH, eL] at goal; exact goal
  clear eH eL hH
  refine lv_iload_n hx hb dX1_isLoose_0 rfl (lv_at hl 1 rfl) ?_
  refine lv_aload_n hx hb dX1_isLoose_1 rfl (lv_at hl 0 rfl) ?_
  refine g_get (C := RX1) (T := TX1) (N := 3) hx hb hts (fun _ h => List.mem_cons_of_mem _ (List.mem_append_right _ h)) hown hK hP (i := 0) rfl BFlt_c0 rfl 1 (by decide) (by decide +kernel) rfl dX1_isLoose_2 ?_
  refine wi_icmp_ne (tgt := 12) hx hb (by omega) (by omega) dX1_isLoose_5 (by decide) (fun c5 => ?_) (fun c5 => ?_)
  ·
    refine wi_iconst hx hb dX1_isLoose_12 ?_
    exact fin _ () H locs ls 13 dX1_isLoose_13 hP hD hS (by decide) (congrArg iI (by first | rfl | (rw [if_pos (by omega)]) | (rw [if_neg (by omega)]) | (split <;> omega)))
  ·
    refine wi_iconst hx hb dX1_isLoose_8 ?_
    refine lv_goto (tgt := 13) hx hb dX1_isLoose_9 (by decide) ?_
    exact fin _ () H locs ls 13 dX1_isLoose_13 hP hD hS (by decide) (congrArg iI (by first | rfl | (rw [if_pos (by omega)]) | (rw [if_neg (by omega)]) | (split <;> omega)))

abbrev rmX1_wornHeight : Room := { frames := 0, cells := 0, slots := 0, locals := 0 }
set_option maxHeartbeats 4000000 in
set_option maxRecDepth 100000 in
theorem kX1_wornHeight (l : Launch) (D : va_G) (G : Nat → ClassId) (qf : Nat) (wo : Int) (lo : Int) (be : Int) (k : Int) (h : Int) (hwo : -1 ≤ wo ∧ wo ≤ 11) (hk : 0 ≤ k ∧ k < 12) (hh : 0 ≤ h ∧ h ≤ 9) : CtI l yX1_wornHeight wsX1_wornHeight rmX1_wornHeight D G [.ref qf, .int (iI k), .int (iI h)] [BFlt qf wo lo be] (fun (r : Int32) (_ : Unit) => r = iI (hv wo k h)) (fun _ => [BFlt qf wo lo be]) := by
  refine CtI.ofI (cc := cX1_wornHeight) (maxL := 3) (by decide) rfl (Nat.le_of_ble_eq_true rfl) ?_
  intro p0 e0 s0 m0 args bel met cd A0 ls Q0 hx hb hml hown hts hK hP hD hA hl fin
  have hl : lv_has ls 3 [(0, .ref qf), (1, .int (iI k)), (2, .int (iI h))] := hl
  have hS : va_S A0 s0.heap s0.heap [] := va_S.rf
  have hH : va_P D vwCl (fl [BFlt qf wo lo be]) s0.heap := hP
  obtain ⟨H, eH⟩ : ∃ H, H = s0.heap := ⟨_, rfl⟩
  obtain ⟨locs, eL⟩ : ∃ locs : List Loc, locs = [] := ⟨_, rfl⟩
  have hS : va_S A0 s0.heap H locs := by rw [eH, eL]; exact hS
  have hP : va_P D vwCl (fl [BFlt qf wo lo be]) H := by rw [eH]; exact hP
  suffices goal : W p0 l e0 rmX1_wornHeight s0 m0 args bel met cd H locs 0 0 Q0 (F0 m0 0 ls []) by rw [eH, eL] at goal; exact goal
  clear eH eL hH
  refine lv_iload_n hx hb dX1_wornHeight_0 rfl (lv_at hl 1 rfl) ?_
  refine lv_aload_n hx hb dX1_wornHeight_1 rfl (lv_at hl 0 rfl) ?_
  refine g_get (C := RX1) (T := TX1) (N := 3) hx hb hts (fun _ h => List.mem_cons_of_mem _ (List.mem_append_right _ h)) hown hK hP (i := 0) rfl BFlt_c0 rfl 0 (by decide) (by decide +kernel) rfl dX1_wornHeight_2 ?_
  refine wi_icmp_ne (tgt := 18) hx hb (by omega) (by omega) dX1_wornHeight_5 (by decide) (fun c5 => ?_) (fun c5 => ?_)
  ·
    refine lv_iload_n hx hb dX1_wornHeight_18 rfl (lv_at hl 2 rfl) ?_
    exact fin _ () H locs ls 19 dX1_wornHeight_19 hP hD hS (trivial) (congrArg iI (by unfold hv; split <;> omega))
  ·
    refine lv_iload_n hx hb dX1_wornHeight_8 rfl (lv_at hl 2 rfl) ?_
    refine wi_if_le (tgt := 18) hx hb (by omega) dX1_wornHeight_9 (by decide) (fun c9 => ?_) (fun c9 => ?_)
    ·
      refine lv_iload_n hx hb dX1_wornHeight_18 rfl (lv_at hl 2 rfl) ?_
      exact fin _ () H locs ls 19 dX1_wornHeight_19 hP hD hS (trivial) (congrArg iI (by unfold hv; split <;> omega))
    ·
      refine lv_iload_n hx hb dX1_wornHeight_12 rfl (lv_at hl 2 rfl) ?_
      refine wi_iconst hx hb dX1_wornHeight_13 ?_
      refine wi_isub hx hb dX1_wornHeight_14 ?_
      refine lv_goto (tgt := 19) hx hb dX1_wornHeight_15 (by decide) ?_
      exact fin _ () H locs ls 19 dX1_wornHeight_19 hP hD hS (trivial) (congrArg iI (by unfold hv; split <;> omega))

abbrev rmX1_bentX : Room := { frames := 0, cells := 0, slots := 0, locals := 0 }
set_option maxHeartbeats 4000000 in
set_option maxRecDepth 100000 in
theorem kX1_bentX (l : Launch) (D : va_G) (G : Nat → ClassId) (qf : Nat) (wo : Int) (lo : Int) (be : Int) (x : Int) (hbe : -1 ≤ be ∧ be ≤ 1) : CtI l yX1_bentX wsX1_bentX rmX1_bentX D G [.ref qf, .int (iI x)] [BFlt qf wo lo be] (fun (r : Int32) (_ : Unit) => r = iI (bX be x)) (fun _ => [BFlt qf wo lo be]) := by
  refine CtI.ofI (cc := cX1_bentX) (maxL := 2) (by decide) rfl (Nat.le_of_ble_eq_true rfl) ?_
  intro p0 e0 s0 m0 args bel met cd A0 ls Q0 hx hb hml hown hts hK hP hD hA hl fin
  have hl : lv_has ls 2 [(0, .ref qf), (1, .int (iI x))] := hl
  have hS : va_S A0 s0.heap s0.heap [] := va_S.rf
  have hH : va_P D vwCl (fl [BFlt qf wo lo be]) s0.heap := hP
  obtain ⟨H, eH⟩ : ∃ H, H = s0.heap := ⟨_, rfl⟩
  obtain ⟨locs, eL⟩ : ∃ locs : List Loc, locs = [] := ⟨_, rfl⟩
  have hS : va_S A0 s0.heap H locs := by rw [eH, eL]; exact hS
  have hP : va_P D vwCl (fl [BFlt qf wo lo be]) H := by rw [eH]; exact hP
  suffices goal : W p0 l e0 rmX1_bentX s0 m0 args bel met cd H locs 0 0 Q0 (F0 m0 0 ls []) by rw [eH, eL] at goal; exact goal
  clear eH eL hH
  refine lv_aload_n hx hb dX1_bentX_0 rfl (lv_at hl 0 rfl) ?_
  refine g_get (C := RX1) (T := TX1) (N := 3) hx hb hts (fun _ h => List.mem_cons_of_mem _ (List.mem_append_right _ h)) hown hK hP (i := 0) rfl BFlt_c0 rfl 2 (by decide) (by decide +kernel) rfl dX1_bentX_1 ?_
  refine wi_if_ne (tgt := 13) hx hb (by omega) dX1_bentX_4 (by decide) (fun c4 => ?_) (fun c4 => ?_)
  ·
    refine lv_iload_n hx hb dX1_bentX_13 rfl (lv_at hl 1 rfl) ?_
    exact fin _ () H locs ls 14 dX1_bentX_14 hP hD hS (trivial) (congrArg iI (by unfold bX; split <;> omega))
  ·
    refine lv_iload_n hx hb dX1_bentX_7 rfl (lv_at hl 1 rfl) ?_
    refine wi_iconst hx hb dX1_bentX_8 ?_
    refine wi_iadd hx hb dX1_bentX_9 ?_
    refine lv_goto (tgt := 14) hx hb dX1_bentX_10 (by decide) ?_
    exact fin _ () H locs ls 14 dX1_bentX_14 hP hD hS (trivial) (congrArg iI (by unfold bX; split <;> omega))

abbrev rmX1_bentY : Room := { frames := 1, cells := 0, slots := 0, locals := 21 }
set_option maxHeartbeats 4000000 in
set_option maxRecDepth 100000 in
theorem kX1_bentY (l : Launch) (D : va_G) (G : Nat → ClassId) (qf : Nat) (wo : Int) (lo : Int) (be : Int) (yy : Int) (hbe : -1 ≤ be ∧ be ≤ 1) (hy : 0 ≤ yy ∧ yy ≤ 9) : CtI l yX1_bentY wsX1_bentY rmX1_bentY D G [.ref qf, .int (iI yy)] [BFlt qf wo lo be] (fun (r : Int32) (_ : Unit) => r = iI (bY be yy)) (fun _ => [BFlt qf wo lo be]) := by
  refine CtI.ofI (cc := cX1_bentY) (maxL := 2) (by decide) rfl (Nat.le_of_ble_eq_true rfl) ?_
  intro p0 e0 s0 m0 args bel met cd A0 ls Q0 hx hb hml hown hts hK hP hD hA hl fin
  have hl : lv_has ls 2 [(0, .ref qf), (1, .int (iI yy))] := hl
  have hS : va_S A0 s0.heap s0.heap [] := va_S.rf
  have hH : va_P D vwCl (fl [BFlt qf wo lo be]) s0.heap := hP
  obtain ⟨H, eH⟩ : ∃ H, H = s0.heap := ⟨_, rfl⟩
  obtain ⟨locs, eL⟩ : ∃ locs : List Loc, locs = [] := ⟨_, rfl⟩
  have hS : va_S A0 s0.heap H locs := by rw [eH, eL]; exact hS
  have hP : va_P D vwCl (fl [BFlt qf wo lo be]) H := by rw [eH]; exact hP
  suffices goal : W p0 l e0 rmX1_bentY s0 m0 args bel met cd H locs 0 0 Q0 (F0 m0 0 ls []) by rw [eH, eL] at goal; exact goal
  clear eH eL hH
  refine lv_aload_n hx hb dX1_bentY_0 rfl (lv_at hl 0 rfl) ?_
  refine g_get (C := RX1) (T := TX1) (N := 3) hx hb hts (fun _ h => List.mem_cons_of_mem _ (List.mem_append_right _ h)) hown hK hP (i := 0) rfl BFlt_c0 rfl 2 (by decide) (by decide +kernel) rfl dX1_bentY_1 ?_
  refine wi_iconst hx hb dX1_bentY_4 ?_
  refine wi_icmp_ne (tgt := 19) hx hb (by omega) (by omega) dX1_bentY_5 (by decide) (fun c5 => ?_) (fun c5 => ?_)
  ·
    refine lv_iload_n hx hb dX1_bentY_19 rfl (lv_at hl 1 rfl) ?_
    exact fin _ () H locs ls 20 dX1_bentY_20 hP hD hS (trivial) (congrArg iI (by unfold bY; (repeat' split) <;> omega))
  ·
    refine wi_bipush hx hb dX1_bentY_8 (by decide) ?_
    refine lv_iload_n hx hb dX1_bentY_10 rfl (lv_at hl 1 rfl) ?_
    refine wi_iconst hx hb dX1_bentY_11 ?_
    refine wi_iadd hx hb dX1_bentY_12 ?_
    refine g_mmin hx hb (by rw [hml]; exact hl.1.symm) hts hown (by decide +kernel) (by decide +kernel) (by decide +kernel) (by decide +kernel) ⟨Nat.le_of_ble_eq_true rfl, Nat.le_of_ble_eq_true rfl, Nat.le_of_ble_eq_true rfl, Nat.le_of_ble_eq_true rfl⟩ (by omega) (by omega) dX1_bentY_13 ?_
    refine lv_goto (tgt := 20) hx hb dX1_bentY_16 (by decide) ?_
    exact fin _ () H locs ls 20 dX1_bentY_20 hP hD hS (trivial) (congrArg iI (by unfold bY; (repeat' split) <;> omega))
