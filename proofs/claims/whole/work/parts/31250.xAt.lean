abbrev rmX9_xAt : Room := { frames := 1, cells := 0, slots := 0, locals := 23 }
set_option maxHeartbeats 4000000 in
set_option maxRecDepth 100000 in
theorem kX9_xAt (l : Launch) (D : va_G) (G : Nat → ClassId) (qM : Nat → Nat) (st : Int) (th : Nat → Int) (R : Nat → Nat → Int) (ac : Nat → Int) (up : Nat → Int) (li : Nat → Int) (le : Nat → Int) (pg : Int) (spc : Int) (pw : Int) (ld : Int) (sn : Int) (tk : Int) (ss : Int) (sh : Int) (dn : Int) (pp : Nat → Int) (ps : Nat → Int) (wo : Int) (lo : Int) (be : Int) (hb : Nat → Nat → Int) (tt : Nat → Int) (rf : Nat → Int) (mbt : Nat → Int) (mle : Nat → Int) (mbo : Nat → Int) (mwo : Int) (mlo : Int) (mbe : Int) (mmk : Nat → Int) (mms : Nat → Int) (mwh : Int) (k : Int) (t : Int) (hR : ∀ i j, 0 ≤ R i j ∧ R i j ≤ 9) (hmw : -1 ≤ mwo ∧ mwo ≤ 11) (hmb : -1 ≤ mbe ∧ mbe ≤ 1) (hac : ∀ k, 0 ≤ ac k ∧ ac k ≤ 11) (hle : ∀ k, 0 ≤ le k ∧ le k ≤ 9) (hk : 0 ≤ k ∧ k < 12) (ht : 0 ≤ t ∧ t < 16) : CtI l yX9_xAt wsX9_xAt rmX9_xAt D G [.ref (qM 0), .int (iI k), .int (iI t)] [BMod G qM st th (cmOf R) ac up li pg le spc pw ld (wr ss) sn tk ss sh dn pp ps (faOf wo lo be) (hbOf hb) tt (sh1 rf) mbt mle mbo mwo mlo mbe mmk mms mwh] (fun (r : Int32) (_ : Unit) => r = iI (xA R ac le spc mwo mbe k t)) (fun _ => [BMod G qM st th (cmOf R) ac up li pg le spc pw ld (wr ss) sn tk ss sh dn pp ps (faOf wo lo be) (hbOf hb) tt (sh1 rf) mbt mle mbo mwo mlo mbe mmk mms mwh]) := by
  refine CtI.ofI (cc := cX9_xAt) (maxL := 3) (by decide) rfl (Nat.le_of_ble_eq_true rfl) ?_
  intro p0 e0 s0 m0 args bel met cd A0 ls Q0 hx hcd hml hown hts hK hP hD hA hl fin
  have hl : lv_has ls 3 [(0, .ref (qM 0)), (1, .int (iI k)), (2, .int (iI t))] := hl
  have hS : va_S A0 s0.heap s0.heap [] := va_S.rf
  have hH : va_P D vwCl (fl [BMod G qM st th (cmOf R) ac up li pg le spc pw ld (wr ss) sn tk ss sh dn pp ps (faOf wo lo be) (hbOf hb) tt (sh1 rf) mbt mle mbo mwo mlo mbe mmk mms mwh]) s0.heap := hP
  obtain ⟨H, eH⟩ : ∃ H, H = s0.heap := ⟨_, rfl⟩
  obtain ⟨locs, eL⟩ : ∃ locs : List Loc, locs = [] := ⟨_, rfl⟩
  have hS : va_S A0 s0.heap H locs := by rw [eH, eL]; exact hS
  have hP : va_P D vwCl (fl [BMod G qM st th (cmOf R) ac up li pg le spc pw ld (wr ss) sn tk ss sh dn pp ps (faOf wo lo be) (hbOf hb) tt (sh1 rf) mbt mle mbo mwo mlo mbe mmk mms mwh]) H := by rw [eH]; exact hP
  suffices goal : W p0 l e0 rmX9_xAt s0 m0 args bel met cd H locs 0 0 Q0 (F0 m0 0 ls []) by rw [eH, eL] at goal; exact goal
  clear eH eL hH
  refine lv_iload_n hx hcd dX9_xAt_0 rfl (lv_at hl 1 rfl) ?_
  refine lv_aload_n hx hcd dX9_xAt_1 rfl (lv_at hl 0 rfl) ?_
  refine g_get (C := RX9) (T := TX9) (N := 32) hx hcd hts (fun _ h => List.mem_cons_of_mem _ (List.mem_append_right _ h)) hown hK hP (i := 0) rfl BMod_c0 rfl 8 (by decide) (by decide +kernel) rfl dX9_xAt_2 ?_
  refine wi_imul hx hcd dX9_xAt_5 ?_
  refine lv_aload_n hx hcd dX9_xAt_6 rfl (lv_at hl 0 rfl) ?_
  refine lv_aload_n hx hcd dX9_xAt_7 rfl (lv_at hl 0 rfl) ?_
  refine g_get (C := RX9) (T := TX9) (N := 32) hx hcd hts (fun _ h => List.mem_cons_of_mem _ (List.mem_append_right _ h)) hown hK hP (i := 0) rfl BMod_c0 rfl 3 (by decide) (by decide +kernel) rfl dX9_xAt_8 ?_
  refine lv_aload_n hx hcd dX9_xAt_11 rfl (lv_at hl 0 rfl) ?_
  refine g_get (C := RX9) (T := TX9) (N := 32) hx hcd hts (fun _ h => List.mem_cons_of_mem _ (List.mem_append_right _ h)) hown hK hP (i := 0) rfl BMod_c0 rfl 7 (by decide) (by decide +kernel) rfl dX9_xAt_12 ?_
  refine lv_iload_n hx hcd dX9_xAt_15 rfl (lv_at hl 1 rfl) ?_
  refine g_iald hx hcd hK hP (i := 0) rfl BMod_c6 (by omega) (by decide) dX9_xAt_16 ?_
  have f1 := hle k.toNat
  refine g_iald hx hcd hK hP (i := 0) rfl BMod_c3 (by omega) (by decide) dX9_xAt_17 ?_
  have f2 := hac ((le k.toNat).toNat)
  refine lv_iload_n hx hcd dX9_xAt_18 rfl (lv_at hl 2 rfl) ?_
  refine cV_i (wc := [BMod G qM st th (cmOf R) ac up li pg le spc pw ld (wr ss) sn tk ss sh dn pp ps (faOf wo lo be) (hbOf hb) tt (sh1 rf) mbt mle mbo mwo mlo mbe mmk mms mwh]) (wr := []) (w1 := fun (_ : Unit) => [BMod G qM st th (cmOf R) ac up li pg le spc pw ld (wr ss) sn tk ss sh dn pp ps (faOf wo lo be) (hbOf hb) tt (sh1 rf) mbt mle mbo mwo mlo mbe mmk mms mwh]) (Bs1 := fun (_ : Unit) => [BMod G qM st th (cmOf R) ac up li pg le spc pw ld (wr ss) sn tk ss sh dn pp ps (faOf wo lo be) (hbOf hb) tt (sh1 rf) mbt mle mbo mwo mlo mbe mmk mms mwh]) (As := [.int (iI (ac ((le k.toNat).toNat))), .int (iI t)]) (rest := [.int (iI (k * spc))]) (kX9_heightOf l D G qM st th R ac up li le pg spc pw ld sn tk ss sh dn pp ps wo lo be hb tt rf mbt mle mbo mwo mlo mbe mmk mms mwh (ac ((le k.toNat).toNat)) t (by first | assumption | omega) (by first | assumption | omega) (by first | assumption | omega) (by first | assumption | omega)) rfl ⟨hx, hcd, hml, hown, hts⟩ (cwV 2 hts gX9_xAt_X9_heightOf rfl rfl rfl (by decide +kernel) ⟨by decide, by decide⟩) (q0 := 0) (ci := 9) rfl rfl rfl rfl hl.1 (Nat.le_of_ble_eq_true rfl) ⟨Nat.le_of_ble_eq_true rfl, Nat.le_of_ble_eq_true rfl⟩ dX9_xAt_19 hK hP hD hS hA (perm_i2 [0] 1 rfl (by decide) rfl) (fun _ => perm_i2 [0] 1 rfl (by decide) rfl) (fun r u H locs hw3 hP hD hS => ?_)
  subst hw3
  have hhr := hof_rng hR mwo (ac ((le k.toNat).toNat)) t
  refine wi_iadd hx hcd dX9_xAt_22 ?_
  refine lv_aload_n hx hcd dX9_xAt_23 rfl (lv_at hl 0 rfl) ?_
  refine g_get (C := RX9) (T := TX9) (N := 32) hx hcd hts (fun _ h => List.mem_cons_of_mem _ (List.mem_append_right _ h)) hown hK hP (i := 0) rfl BMod_c0 rfl 28 (by decide) (by decide +kernel) rfl dX9_xAt_24 ?_
  refine wi_if_ne (tgt := 34) hx hcd (by omega) dX9_xAt_27 (by decide) (fun c27 => ?_) (fun c27 => ?_)
  ·
    refine wi_iconst hx hcd dX9_xAt_34 ?_
    refine wi_iadd hx hcd dX9_xAt_35 ?_
    exact fin _ () H locs ls 36 dX9_xAt_36 hP hD hS (trivial) (congrArg iI (by unfold xA bX; split <;> omega))
  ·
    refine wi_iconst hx hcd dX9_xAt_30 ?_
    refine lv_goto (tgt := 35) hx hcd dX9_xAt_31 (by decide) ?_
    refine wi_iadd hx hcd dX9_xAt_35 ?_
    exact fin _ () H locs ls 36 dX9_xAt_36 hP hD hS (trivial) (congrArg iI (by unfold xA bX; split <;> omega))
