abbrev rmX9_yAt : Room := { frames := 1, cells := 0, slots := 0, locals := 23 }
set_option maxHeartbeats 4000000 in
set_option maxRecDepth 100000 in
theorem kX9_yAt (l : Launch) (D : va_G) (G : Nat → ClassId) (qM : Nat → Nat) (st : Int) (th : Nat → Int) (R : Nat → Nat → Int) (ac : Nat → Int) (up : Nat → Int) (li : Nat → Int) (le : Nat → Int) (pg : Int) (spc : Int) (pw : Int) (ld : Int) (sn : Int) (tk : Int) (ss : Int) (sh : Int) (dn : Int) (pp : Nat → Int) (ps : Nat → Int) (wo : Int) (lo : Int) (be : Int) (hb : Nat → Nat → Int) (tt : Nat → Int) (rf : Nat → Int) (mbt : Nat → Int) (mle : Nat → Int) (mbo : Nat → Int) (mwo : Int) (mlo : Int) (mbe : Int) (mmk : Nat → Int) (mms : Nat → Int) (mwh : Int) (k : Int) (t : Int) (hR : ∀ i j, 0 ≤ R i j ∧ R i j ≤ 9) (hmw : -1 ≤ mwo ∧ mwo ≤ 11) (hmb : -1 ≤ mbe ∧ mbe ≤ 1) (hup : ∀ k, 0 ≤ up k ∧ up k ≤ 11) (hle : ∀ k, 0 ≤ le k ∧ le k ≤ 9) (hk : 0 ≤ k ∧ k < 12) (ht : 0 ≤ t ∧ t < 16) : CtI l yX9_yAt wsX9_yAt rmX9_yAt D G [.ref (qM 0), .int (iI k), .int (iI t)] [BMod G qM st th (cmOf R) ac up li pg le spc pw ld (wr ss) sn tk ss sh dn pp ps (faOf wo lo be) (hbOf hb) tt (sh1 rf) mbt mle mbo mwo mlo mbe mmk mms mwh] (fun (r : Int32) (_ : Unit) => r = iI (yA R up le mwo mbe k t)) (fun _ => [BMod G qM st th (cmOf R) ac up li pg le spc pw ld (wr ss) sn tk ss sh dn pp ps (faOf wo lo be) (hbOf hb) tt (sh1 rf) mbt mle mbo mwo mlo mbe mmk mms mwh]) := by
  refine CtI.ofI (cc := cX9_yAt) (maxL := 4) (by decide) rfl (Nat.le_of_ble_eq_true rfl) ?_
  intro p0 e0 s0 m0 args bel met cd A0 ls Q0 hx hcd hml hown hts hK hP hD hA hl fin
  have hl : lv_has ls 4 [(0, .ref (qM 0)), (1, .int (iI k)), (2, .int (iI t))] := hl
  have hS : va_S A0 s0.heap s0.heap [] := va_S.rf
  have hH : va_P D vwCl (fl [BMod G qM st th (cmOf R) ac up li pg le spc pw ld (wr ss) sn tk ss sh dn pp ps (faOf wo lo be) (hbOf hb) tt (sh1 rf) mbt mle mbo mwo mlo mbe mmk mms mwh]) s0.heap := hP
  obtain ⟨H, eH⟩ : ∃ H, H = s0.heap := ⟨_, rfl⟩
  obtain ⟨locs, eL⟩ : ∃ locs : List Loc, locs = [] := ⟨_, rfl⟩
  have hS : va_S A0 s0.heap H locs := by rw [eH, eL]; exact hS
  have hP : va_P D vwCl (fl [BMod G qM st th (cmOf R) ac up li pg le spc pw ld (wr ss) sn tk ss sh dn pp ps (faOf wo lo be) (hbOf hb) tt (sh1 rf) mbt mle mbo mwo mlo mbe mmk mms mwh]) H := by rw [eH]; exact hP
  suffices goal : W p0 l e0 rmX9_yAt s0 m0 args bel met cd H locs 0 0 Q0 (F0 m0 0 ls []) by rw [eH, eL] at goal; exact goal
  clear eH eL hH
  refine lv_aload_n hx hcd dX9_yAt_0 rfl (lv_at hl 0 rfl) ?_
  refine lv_aload_n hx hcd dX9_yAt_1 rfl (lv_at hl 0 rfl) ?_
  refine g_get (C := RX9) (T := TX9) (N := 32) hx hcd hts (fun _ h => List.mem_cons_of_mem _ (List.mem_append_right _ h)) hown hK hP (i := 0) rfl BMod_c0 rfl 4 (by decide) (by decide +kernel) rfl dX9_yAt_2 ?_
  refine lv_aload_n hx hcd dX9_yAt_5 rfl (lv_at hl 0 rfl) ?_
  refine g_get (C := RX9) (T := TX9) (N := 32) hx hcd hts (fun _ h => List.mem_cons_of_mem _ (List.mem_append_right _ h)) hown hK hP (i := 0) rfl BMod_c0 rfl 7 (by decide) (by decide +kernel) rfl dX9_yAt_6 ?_
  refine lv_iload_n hx hcd dX9_yAt_9 rfl (lv_at hl 1 rfl) ?_
  refine g_iald hx hcd hK hP (i := 0) rfl BMod_c6 (by omega) (by decide) dX9_yAt_10 ?_
  have f1 := hle k.toNat
  refine g_iald hx hcd hK hP (i := 0) rfl BMod_c4 (by omega) (by decide) dX9_yAt_11 ?_
  have f2 := hup ((le k.toNat).toNat)
  refine lv_iload_n hx hcd dX9_yAt_12 rfl (lv_at hl 2 rfl) ?_
  refine cV_i (wc := [BMod G qM st th (cmOf R) ac up li pg le spc pw ld (wr ss) sn tk ss sh dn pp ps (faOf wo lo be) (hbOf hb) tt (sh1 rf) mbt mle mbo mwo mlo mbe mmk mms mwh]) (wr := []) (w1 := fun (_ : Unit) => [BMod G qM st th (cmOf R) ac up li pg le spc pw ld (wr ss) sn tk ss sh dn pp ps (faOf wo lo be) (hbOf hb) tt (sh1 rf) mbt mle mbo mwo mlo mbe mmk mms mwh]) (Bs1 := fun (_ : Unit) => [BMod G qM st th (cmOf R) ac up li pg le spc pw ld (wr ss) sn tk ss sh dn pp ps (faOf wo lo be) (hbOf hb) tt (sh1 rf) mbt mle mbo mwo mlo mbe mmk mms mwh]) (As := [.int (iI (up ((le k.toNat).toNat))), .int (iI t)]) (rest := []) (kX9_heightOf l D G qM st th R ac up li le pg spc pw ld sn tk ss sh dn pp ps wo lo be hb tt rf mbt mle mbo mwo mlo mbe mmk mms mwh (up ((le k.toNat).toNat)) t (by first | assumption | omega) (by first | assumption | omega) (by first | assumption | omega) (by first | assumption | omega)) rfl ⟨hx, hcd, hml, hown, hts⟩ (cwV 2 hts gX9_yAt_X9_heightOf rfl rfl rfl (by decide +kernel) ⟨by decide, by decide⟩) (q0 := 0) (ci := 9) rfl rfl rfl rfl hl.1 (Nat.le_of_ble_eq_true rfl) ⟨Nat.le_of_ble_eq_true rfl, Nat.le_of_ble_eq_true rfl⟩ dX9_yAt_13 hK hP hD hS hA (perm_i2 [0] 1 rfl (by decide) rfl) (fun _ => perm_i2 [0] 1 rfl (by decide) rfl) (fun r u H locs hw3 hP hD hS => ?_)
  subst hw3
  have hhr := hof_rng hR mwo (up ((le k.toNat).toNat)) t
  refine lv_aload_n hx hcd dX9_yAt_16 rfl (lv_at hl 0 rfl) ?_
  refine g_get (C := RX9) (T := TX9) (N := 32) hx hcd hts (fun _ h => List.mem_cons_of_mem _ (List.mem_append_right _ h)) hown hK hP (i := 0) rfl BMod_c0 rfl 28 (by decide) (by decide +kernel) rfl dX9_yAt_17 ?_
  refine wi_iconst hx hcd dX9_yAt_20 ?_
  refine wi_icmp_ne (tgt := 28) hx hcd (by omega) (by omega) dX9_yAt_21 (by decide) (fun c21 => ?_) (fun c21 => ?_)
  ·
    refine wi_iconst hx hcd dX9_yAt_28 ?_
    refine wi_iadd hx hcd dX9_yAt_29 ?_
    refine lv_istore_n (lv' := [(3, .int (iI ((hof R mwo (up ((le k.toNat).toNat)) t) + 0))), (0, .ref (qM 0)), (1, .int (iI k)), (2, .int (iI t))]) hx hcd dX9_yAt_30 rfl hl (by decide) rfl (fun ls hl => ?_)
    refine lv_iload_n hx hcd dX9_yAt_31 rfl (lv_at hl 0 rfl) ?_
    refine wi_bipush hx hcd dX9_yAt_32 (by decide) ?_
    refine wi_icmp_le (tgt := 42) hx hcd (by omega) (by omega) dX9_yAt_34 (by decide) (fun c34 => ?_) (fun c34 => ?_)
    ·
      refine lv_iload_n hx hcd dX9_yAt_42 rfl (lv_at hl 0 rfl) ?_
      exact fin _ () H locs ls 43 dX9_yAt_43 hP hD hS (trivial) (congrArg iI (by unfold yA bY; (repeat' split) <;> omega))
    ·
      refine wi_bipush hx hcd dX9_yAt_37 (by decide) ?_
      refine lv_goto (tgt := 43) hx hcd dX9_yAt_39 (by decide) ?_
      exact fin _ () H locs ls 43 dX9_yAt_43 hP hD hS (trivial) (congrArg iI (by unfold yA bY; (repeat' split) <;> omega))
  ·
    refine wi_iconst hx hcd dX9_yAt_24 ?_
    refine lv_goto (tgt := 29) hx hcd dX9_yAt_25 (by decide) ?_
    refine wi_iadd hx hcd dX9_yAt_29 ?_
    refine lv_istore_n (lv' := [(3, .int (iI ((hof R mwo (up ((le k.toNat).toNat)) t) + 1))), (0, .ref (qM 0)), (1, .int (iI k)), (2, .int (iI t))]) hx hcd dX9_yAt_30 rfl hl (by decide) rfl (fun ls hl => ?_)
    refine lv_iload_n hx hcd dX9_yAt_31 rfl (lv_at hl 0 rfl) ?_
    refine wi_bipush hx hcd dX9_yAt_32 (by decide) ?_
    refine wi_icmp_le (tgt := 42) hx hcd (by omega) (by omega) dX9_yAt_34 (by decide) (fun c34 => ?_) (fun c34 => ?_)
    ·
      refine lv_iload_n hx hcd dX9_yAt_42 rfl (lv_at hl 0 rfl) ?_
      exact fin _ () H locs ls 43 dX9_yAt_43 hP hD hS (trivial) (congrArg iI (by unfold yA bY; (repeat' split) <;> omega))
    ·
      refine wi_bipush hx hcd dX9_yAt_37 (by decide) ?_
      refine lv_goto (tgt := 43) hx hcd dX9_yAt_39 (by decide) ?_
      exact fin _ () H locs ls 43 dX9_yAt_43 hP hD hS (trivial) (congrArg iI (by unfold yA bY; (repeat' split) <;> omega))
