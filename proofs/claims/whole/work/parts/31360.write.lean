abbrev rmX9_write : Room := { frames := 2, cells := 0, slots := 0, locals := 46 }
set_option maxHeartbeats 4000000 in
set_option maxRecDepth 100000 in
theorem kX9_write (l : Launch) (D : va_G) (G : Nat → ClassId) (qM : Nat → Nat) (st : Int) (th : Nat → Int) (R : Nat → Nat → Int) (ac : Nat → Int) (up : Nat → Int) (li : Nat → Int) (le : Nat → Int) (pg : Int) (spc : Int) (pw : Int) (ld : Int) (sn : Int) (tk : Int) (ss : Int) (sh : Int) (dn : Int) (pp : Nat → Int) (ps : Nat → Int) (wo : Int) (lo : Int) (be : Int) (hb : Nat → Nat → Int) (tt : Nat → Int) (rf : Nat → Int) (mbt : Nat → Int) (mle : Nat → Int) (mbo : Nat → Int) (mwo : Int) (mlo : Int) (mbe : Int) (mmk : Nat → Int) (mms : Nat → Int) (mwh : Int) (k : Int) (t : Int) (hR : ∀ i j, 0 ≤ R i j ∧ R i j ≤ 9) (hmw : -1 ≤ mwo ∧ mwo ≤ 11) (hmb : -1 ≤ mbe ∧ mbe ≤ 1) (hac : ∀ k, 0 ≤ ac k ∧ ac k ≤ 11) (hup : ∀ k, 0 ≤ up k ∧ up k ≤ 11) (hli : ∀ k, 0 ≤ li k ∧ li k ≤ 11) (hle : ∀ k, 0 ≤ le k ∧ le k ≤ 9) (hsp : 0 ≤ spc ∧ spc ≤ 9) (hmk : ∀ k, -1 ≤ mmk k ∧ mmk k ≤ 99) (hk : 0 ≤ k ∧ k < 12) (ht : 0 ≤ t ∧ t < 16) : CtV l yX9_write wsX9_write rmX9_write D G [.ref (qM 0), .int (iI k), .int (iI t)] [BMod G qM st th (cmOf R) ac up li pg le spc pw ld (wr ss) sn tk ss sh dn pp ps (faOf wo lo be) (hbOf hb) tt (sh1 rf) mbt mle mbo mwo mlo mbe mmk mms mwh] (fun _ : Unit => True) (fun _ => [BMod G qM st th (cmOf R) ac up li pg le spc pw ld (wr ss) sn tk ss sh dn pp ps (faOf wo lo be) (hbOf hb) tt (sh1 rf) mbt mle mbo mwo mlo mbe (mkP mmk (SS cM R ac up li le spc mwo mbe k t) k) (mkT mmk mms (SS cM R ac up li le spc mwo mbe k t) t) mwh]) := by
  refine CtV.of (cc := cX9_write) (maxL := 13) (by decide) rfl (Nat.le_of_ble_eq_true rfl) ?_
  intro p0 e0 s0 m0 args bel met cd A0 ls Q0 hx hcd hml hown hts hK hP hD hA hl fin
  have hl : lv_has ls 13 [(0, .ref (qM 0)), (1, .int (iI k)), (2, .int (iI t))] := hl
  have hS : va_S A0 s0.heap s0.heap [] := va_S.rf
  have hH : va_P D vwCl (fl [BMod G qM st th (cmOf R) ac up li pg le spc pw ld (wr ss) sn tk ss sh dn pp ps (faOf wo lo be) (hbOf hb) tt (sh1 rf) mbt mle mbo mwo mlo mbe mmk mms mwh]) s0.heap := hP
  obtain ⟨H, eH⟩ : ∃ H, H = s0.heap := ⟨_, rfl⟩
  obtain ⟨locs, eL⟩ : ∃ locs : List Loc, locs = [] := ⟨_, rfl⟩
  have hS : va_S A0 s0.heap H locs := by rw [eH, eL]; exact hS
  have hP : va_P D vwCl (fl [BMod G qM st th (cmOf R) ac up li pg le spc pw ld (wr ss) sn tk ss sh dn pp ps (faOf wo lo be) (hbOf hb) tt (sh1 rf) mbt mle mbo mwo mlo mbe mmk mms mwh]) H := by rw [eH]; exact hP
  suffices goal : W p0 l e0 rmX9_write s0 m0 args bel met cd H locs 0 0 Q0 (F0 m0 0 ls []) by rw [eH, eL] at goal; exact goal
  clear eH eL hH
  have g1 := xA_rng hR (ac := ac) (le := le) (spc := spc) (wo := mwo) (be := mbe) (k := k) (t := t) hsp hk
  have g2 := yA_rng hR (up := up) (le := le) (wo := mwo) (be := mbe) (k := k) (t := t)
  have g3 := xA_rng hR (ac := ac) (le := le) (spc := spc) (wo := mwo) (be := mbe) (k := k) (t := t - 1) hsp hk
  have g4 := yA_rng hR (up := up) (le := le) (wo := mwo) (be := mbe) (k := k) (t := t - 1)
  have d1 := dwn_01 R li le mwo k t
  have d0 := dwn_01 R li le mwo k (t - 1)
  refine lv_aload_n hx hcd dX9_write_0 rfl (lv_at hl 0 rfl) ?_
  refine lv_iload_n hx hcd dX9_write_1 rfl (lv_at hl 1 rfl) ?_
  refine lv_iload_n hx hcd dX9_write_2 rfl (lv_at hl 2 rfl) ?_
  refine cV_i (wc := [BMod G qM st th (cmOf R) ac up li pg le spc pw ld (wr ss) sn tk ss sh dn pp ps (faOf wo lo be) (hbOf hb) tt (sh1 rf) mbt mle mbo mwo mlo mbe mmk mms mwh]) (wr := []) (w1 := fun (_ : Unit) => [BMod G qM st th (cmOf R) ac up li pg le spc pw ld (wr ss) sn tk ss sh dn pp ps (faOf wo lo be) (hbOf hb) tt (sh1 rf) mbt mle mbo mwo mlo mbe mmk mms mwh]) (Bs1 := fun (_ : Unit) => [BMod G qM st th (cmOf R) ac up li pg le spc pw ld (wr ss) sn tk ss sh dn pp ps (faOf wo lo be) (hbOf hb) tt (sh1 rf) mbt mle mbo mwo mlo mbe mmk mms mwh]) (As := [.int (iI k), .int (iI t)]) (rest := []) (kX9_isDown l D G qM st th R ac up li le pg spc pw ld sn tk ss sh dn pp ps wo lo be hb tt rf mbt mle mbo mwo mlo mbe mmk mms mwh k t (by first | assumption | omega) (by first | assumption | omega) (by first | assumption | omega) (by first | assumption | omega) (by first | assumption | omega) (by first | assumption | omega)) rfl ⟨hx, hcd, hml, hown, hts⟩ (cwV 2 hts gX9_write_X9_isDown rfl rfl rfl (by decide +kernel) ⟨by decide, by decide⟩) (q0 := 0) (ci := 9) rfl rfl rfl rfl hl.1 (Nat.le_of_ble_eq_true rfl) ⟨Nat.le_of_ble_eq_true rfl, Nat.le_of_ble_eq_true rfl⟩ dX9_write_3 hK hP hD hS hA (perm_i2 [0] 1 rfl (by decide) rfl) (fun _ => perm_i2 [0] 1 rfl (by decide) rfl) (fun r u H locs hw1 hP hD hS => ?_)
  subst hw1
  refine wi_if_ne (tgt := 10) hx hcd (by omega) dX9_write_6 (by decide) (fun c6 => ?_) (fun c6 => ?_)
  ·
    refine lv_aload_n hx hcd dX9_write_10 rfl (lv_at hl 0 rfl) ?_
    refine lv_iload_n hx hcd dX9_write_11 rfl (lv_at hl 1 rfl) ?_
    refine lv_iload_n hx hcd dX9_write_12 rfl (lv_at hl 2 rfl) ?_
    refine cV_i (wc := [BMod G qM st th (cmOf R) ac up li pg le spc pw ld (wr ss) sn tk ss sh dn pp ps (faOf wo lo be) (hbOf hb) tt (sh1 rf) mbt mle mbo mwo mlo mbe mmk mms mwh]) (wr := []) (w1 := fun (_ : Unit) => [BMod G qM st th (cmOf R) ac up li pg le spc pw ld (wr ss) sn tk ss sh dn pp ps (faOf wo lo be) (hbOf hb) tt (sh1 rf) mbt mle mbo mwo mlo mbe mmk mms mwh]) (Bs1 := fun (_ : Unit) => [BMod G qM st th (cmOf R) ac up li pg le spc pw ld (wr ss) sn tk ss sh dn pp ps (faOf wo lo be) (hbOf hb) tt (sh1 rf) mbt mle mbo mwo mlo mbe mmk mms mwh]) (As := [.int (iI k), .int (iI t)]) (rest := []) (kX9_xAt l D G qM st th R ac up li le pg spc pw ld sn tk ss sh dn pp ps wo lo be hb tt rf mbt mle mbo mwo mlo mbe mmk mms mwh k t (by first | assumption | omega) (by first | assumption | omega) (by first | assumption | omega) (by first | assumption | omega) (by first | assumption | omega) (by first | assumption | omega) (by first | assumption | omega)) rfl ⟨hx, hcd, hml, hown, hts⟩ (cwV 2 hts gX9_write_X9_xAt rfl rfl rfl (by decide +kernel) ⟨by decide, by decide⟩) (q0 := 0) (ci := 9) rfl rfl rfl rfl hl.1 (Nat.le_of_ble_eq_true rfl) ⟨Nat.le_of_ble_eq_true rfl, Nat.le_of_ble_eq_true rfl⟩ dX9_write_13 hK hP hD hS hA (perm_i2 [0] 1 rfl (by decide) rfl) (fun _ => perm_i2 [0] 1 rfl (by decide) rfl) (fun r u H locs hw2 hP hD hS => ?_)
    subst hw2
    obtain ⟨x1, ex1⟩ : ∃ z_ : Int, z_ = xA R ac le spc mwo mbe k t := ⟨_, rfl⟩
    rw [show (xA R ac le spc mwo mbe k t : Int) = x1 from ex1.symm]
    refine lv_istore_n (lv' := [(3, .int (iI x1)), (0, .ref (qM 0)), (1, .int (iI k)), (2, .int (iI t))]) hx hcd dX9_write_16 rfl hl (by decide) rfl (fun ls hl => ?_)
    refine lv_aload_n hx hcd dX9_write_17 rfl (lv_at hl 1 rfl) ?_
    refine lv_iload_n hx hcd dX9_write_18 rfl (lv_at hl 2 rfl) ?_
    refine lv_iload_n hx hcd dX9_write_19 rfl (lv_at hl 3 rfl) ?_
    refine cV_i (wc := [BMod G qM st th (cmOf R) ac up li pg le spc pw ld (wr ss) sn tk ss sh dn pp ps (faOf wo lo be) (hbOf hb) tt (sh1 rf) mbt mle mbo mwo mlo mbe mmk mms mwh]) (wr := []) (w1 := fun (_ : Unit) => [BMod G qM st th (cmOf R) ac up li pg le spc pw ld (wr ss) sn tk ss sh dn pp ps (faOf wo lo be) (hbOf hb) tt (sh1 rf) mbt mle mbo mwo mlo mbe mmk mms mwh]) (Bs1 := fun (_ : Unit) => [BMod G qM st th (cmOf R) ac up li pg le spc pw ld (wr ss) sn tk ss sh dn pp ps (faOf wo lo be) (hbOf hb) tt (sh1 rf) mbt mle mbo mwo mlo mbe mmk mms mwh]) (As := [.int (iI k), .int (iI t)]) (rest := []) (kX9_yAt l D G qM st th R ac up li le pg spc pw ld sn tk ss sh dn pp ps wo lo be hb tt rf mbt mle mbo mwo mlo mbe mmk mms mwh k t (by first | assumption | omega) (by first | assumption | omega) (by first | assumption | omega) (by first | assumption | omega) (by first | assumption | omega) (by first | assumption | omega) (by first | assumption | omega)) rfl ⟨hx, hcd, hml, hown, hts⟩ (cwV 2 hts gX9_write_X9_yAt rfl rfl rfl (by decide +kernel) ⟨by decide, by decide⟩) (q0 := 0) (ci := 9) rfl rfl rfl rfl hl.1 (Nat.le_of_ble_eq_true rfl) ⟨Nat.le_of_ble_eq_true rfl, Nat.le_of_ble_eq_true rfl⟩ dX9_write_20 hK hP hD hS hA (perm_i2 [0] 1 rfl (by decide) rfl) (fun _ => perm_i2 [0] 1 rfl (by decide) rfl) (fun r u H locs hw3 hP hD hS => ?_)
    subst hw3
    obtain ⟨y1, ey1⟩ : ∃ z_ : Int, z_ = yA R up le mwo mbe k t := ⟨_, rfl⟩
    rw [show (yA R up le mwo mbe k t : Int) = y1 from ey1.symm]
    refine lv_istore (lv' := [(4, .int (iI y1)), (3, .int (iI x1)), (0, .ref (qM 0)), (1, .int (iI k)), (2, .int (iI t))]) hx hcd dX9_write_23 hl (by decide) rfl (fun ls hl => ?_)
    refine lv_aload_n hx hcd dX9_write_25 rfl (lv_at hl 2 rfl) ?_
    refine lv_iload_n hx hcd dX9_write_26 rfl (lv_at hl 1 rfl) ?_
    refine lv_iload hx hcd dX9_write_27 (lv_at hl 0 rfl) ?_
    refine lv_iload_n hx hcd dX9_write_29 rfl (lv_at hl 3 rfl) ?_
    refine lv_iload_n hx hcd dX9_write_30 rfl (lv_at hl 4 rfl) ?_
    refine cV_v (wc := [BMod G qM st th (cmOf R) ac up li pg le spc pw ld (wr ss) sn tk ss sh dn pp ps (faOf wo lo be) (hbOf hb) tt (sh1 rf) mbt mle mbo mwo mlo mbe mmk mms mwh]) (wr := []) (w1 := fun (_ : Unit) => [BMod G qM st th (cmOf R) ac up li pg le spc pw ld (wr ss) sn tk ss sh dn pp ps (faOf wo lo be) (hbOf hb) tt (sh1 rf) mbt mle mbo mwo mlo mbe (mkP mmk (one (cM x1 y1)) k) (mkT mmk mms (one (cM x1 y1)) t) mwh]) (Bs1 := fun (_ : Unit) => [BMod G qM st th (cmOf R) ac up li pg le spc pw ld (wr ss) sn tk ss sh dn pp ps (faOf wo lo be) (hbOf hb) tt (sh1 rf) mbt mle mbo mwo mlo mbe (mkP mmk (one (cM x1 y1)) k) (mkT mmk mms (one (cM x1 y1)) t) mwh]) (As := [.int (iI x1), .int (iI y1), .int (iI k), .int (iI t)]) (rest := []) (kX9_mark l D G qM st th R ac up li le pg spc pw ld sn tk ss sh dn pp ps wo lo be hb tt rf mbt mle mbo mwo mlo mbe mmk mms mwh x1 y1 k t (by assumption) (by omega)) rfl ⟨hx, hcd, hml, hown, hts⟩ (cwV 4 hts gX9_write_X9_mark rfl rfl rfl (by decide +kernel) ⟨by decide, by decide⟩) (q0 := 0) (ci := 9) rfl rfl rfl rfl hl.1 (Nat.le_of_ble_eq_true rfl) ⟨Nat.le_of_ble_eq_true rfl, Nat.le_of_ble_eq_true rfl⟩ dX9_write_31 hK hP hD hS hA (perm_i2 [0] 1 rfl (by decide) rfl) (fun _ => perm_i2 [0] 1 rfl (by decide) rfl) (fun u H locs hw4 hP hD hS => ?_)
    refine lv_iload_n hx hcd dX9_write_34 rfl (lv_at hl 4 rfl) ?_
    refine wi_if_le (tgt := 190) hx hcd (by omega) dX9_write_35 (by decide) (fun c35 => ?_) (fun c35 => ?_)
    ·
      rw [show BMod G qM st th (cmOf R) ac up li pg le spc pw ld (wr ss) sn tk ss sh dn pp ps (faOf wo lo be) (hbOf hb) tt (sh1 rf) mbt mle mbo mwo mlo mbe (mkP mmk (one (cM x1 y1)) k) (mkT mmk mms (one (cM x1 y1)) t) mwh = BMod G qM st th (cmOf R) ac up li pg le spc pw ld (wr ss) sn tk ss sh dn pp ps (faOf wo lo be) (hbOf hb) tt (sh1 rf) mbt mle mbo mwo mlo mbe (mkP mmk (SS cM R ac up li le spc mwo mbe k t) k) (mkT mmk mms (one (cM x1 y1)) t) mwh from congrArg (fun z_ : Nat → Int => BMod G qM st th (cmOf R) ac up li pg le spc pw ld (wr ss) sn tk ss sh dn pp ps (faOf wo lo be) (hbOf hb) tt (sh1 rf) mbt mle mbo mwo mlo mbe z_ (mkT mmk mms (one (cM x1 y1)) t) mwh) (show (mkP mmk (one (cM x1 y1)) k : Nat → Int) = (mkP mmk (SS cM R ac up li le spc mwo mbe k t) k) from by first | (rw [SS_1 c6 (by omega), ex1, ey1]) | (rw [hk9, show (i - 1).toNat = (mxa dx dy - 1).toNat by omega]; exact SS_2p (by omega) c6 ⟨by omega, by omega⟩ ex1 ey1 ex0 ey0 edx edy))] at hP hD
      rw [show BMod G qM st th (cmOf R) ac up li pg le spc pw ld (wr ss) sn tk ss sh dn pp ps (faOf wo lo be) (hbOf hb) tt (sh1 rf) mbt mle mbo mwo mlo mbe (mkP mmk (SS cM R ac up li le spc mwo mbe k t) k) (mkT mmk mms (one (cM x1 y1)) t) mwh = BMod G qM st th (cmOf R) ac up li pg le spc pw ld (wr ss) sn tk ss sh dn pp ps (faOf wo lo be) (hbOf hb) tt (sh1 rf) mbt mle mbo mwo mlo mbe (mkP mmk (SS cM R ac up li le spc mwo mbe k t) k) (mkT mmk mms (SS cM R ac up li le spc mwo mbe k t) t) mwh from congrArg (fun z_ : Nat → Int => BMod G qM st th (cmOf R) ac up li pg le spc pw ld (wr ss) sn tk ss sh dn pp ps (faOf wo lo be) (hbOf hb) tt (sh1 rf) mbt mle mbo mwo mlo mbe (mkP mmk (SS cM R ac up li le spc mwo mbe k t) k) z_ mwh) (show (mkT mmk mms (one (cM x1 y1)) t : Nat → Int) = (mkT mmk mms (SS cM R ac up li le spc mwo mbe k t) t) from by first | (rw [SS_1 c6 (by omega), ex1, ey1]) | (rw [hs9, show (i - 1).toNat = (mxa dx dy - 1).toNat by omega]; exact SS_2t (by omega) c6 ⟨by omega, by omega⟩ ex1 ey1 ex0 ey0 edx edy))] at hP hD
      exact fin () H locs ls 190 dX9_write_190 hP hD hS (trivial)
    ·
      refine lv_aload_n hx hcd dX9_write_38 rfl (lv_at hl 2 rfl) ?_
      refine lv_iload_n hx hcd dX9_write_39 rfl (lv_at hl 3 rfl) ?_
      refine lv_iload_n hx hcd dX9_write_40 rfl (lv_at hl 4 rfl) ?_
      refine wi_iconst hx hcd dX9_write_41 ?_
      refine wi_isub hx hcd dX9_write_42 ?_
      refine cV_i (wc := [BMod G qM st th (cmOf R) ac up li pg le spc pw ld (wr ss) sn tk ss sh dn pp ps (faOf wo lo be) (hbOf hb) tt (sh1 rf) mbt mle mbo mwo mlo mbe (mkP mmk (one (cM x1 y1)) k) (mkT mmk mms (one (cM x1 y1)) t) mwh]) (wr := []) (w1 := fun (_ : Unit) => [BMod G qM st th (cmOf R) ac up li pg le spc pw ld (wr ss) sn tk ss sh dn pp ps (faOf wo lo be) (hbOf hb) tt (sh1 rf) mbt mle mbo mwo mlo mbe (mkP mmk (one (cM x1 y1)) k) (mkT mmk mms (one (cM x1 y1)) t) mwh]) (Bs1 := fun (_ : Unit) => [BMod G qM st th (cmOf R) ac up li pg le spc pw ld (wr ss) sn tk ss sh dn pp ps (faOf wo lo be) (hbOf hb) tt (sh1 rf) mbt mle mbo mwo mlo mbe (mkP mmk (one (cM x1 y1)) k) (mkT mmk mms (one (cM x1 y1)) t) mwh]) (As := [.int (iI k), .int (iI (t - 1))]) (rest := []) (kX9_isDown l D G qM st th R ac up li le pg spc pw ld sn tk ss sh dn pp ps wo lo be hb tt rf mbt mle mbo mwo mlo mbe (mkP mmk (one (cM x1 y1)) k) (mkT mmk mms (one (cM x1 y1)) t) mwh k (t - 1) (by first | assumption | omega) (by first | assumption | omega) (by first | assumption | omega) (by first | assumption | omega) (by first | assumption | omega) (by first | assumption | omega)) rfl ⟨hx, hcd, hml, hown, hts⟩ (cwV 2 hts gX9_write_X9_isDown rfl rfl rfl (by decide +kernel) ⟨by decide, by decide⟩) (q0 := 0) (ci := 9) rfl rfl rfl rfl hl.1 (Nat.le_of_ble_eq_true rfl) ⟨Nat.le_of_ble_eq_true rfl, Nat.le_of_ble_eq_true rfl⟩ dX9_write_43 hK hP hD hS hA (perm_i2 [0] 1 rfl (by decide) rfl) (fun _ => perm_i2 [0] 1 rfl (by decide) rfl) (fun r u H locs hw5 hP hD hS => ?_)
      subst hw5
      refine wi_if_eq (tgt := 190) hx hcd (by omega) dX9_write_46 (by decide) (fun c46 => ?_) (fun c46 => ?_)
      ·
        rw [show BMod G qM st th (cmOf R) ac up li pg le spc pw ld (wr ss) sn tk ss sh dn pp ps (faOf wo lo be) (hbOf hb) tt (sh1 rf) mbt mle mbo mwo mlo mbe (mkP mmk (one (cM x1 y1)) k) (mkT mmk mms (one (cM x1 y1)) t) mwh = BMod G qM st th (cmOf R) ac up li pg le spc pw ld (wr ss) sn tk ss sh dn pp ps (faOf wo lo be) (hbOf hb) tt (sh1 rf) mbt mle mbo mwo mlo mbe (mkP mmk (SS cM R ac up li le spc mwo mbe k t) k) (mkT mmk mms (one (cM x1 y1)) t) mwh from congrArg (fun z_ : Nat → Int => BMod G qM st th (cmOf R) ac up li pg le spc pw ld (wr ss) sn tk ss sh dn pp ps (faOf wo lo be) (hbOf hb) tt (sh1 rf) mbt mle mbo mwo mlo mbe z_ (mkT mmk mms (one (cM x1 y1)) t) mwh) (show ((mkP mmk (one (cM x1 y1)) k) : Nat → Int) = (mkP mmk (SS cM R ac up li le spc mwo mbe k t) k) from by first | (rw [SS_1 c6 (by omega), ex1, ey1]) | (rw [hk9, show (i - 1).toNat = (mxa dx dy - 1).toNat by omega]; exact SS_2p (by omega) c6 ⟨by omega, by omega⟩ ex1 ey1 ex0 ey0 edx edy))] at hP hD
        rw [show BMod G qM st th (cmOf R) ac up li pg le spc pw ld (wr ss) sn tk ss sh dn pp ps (faOf wo lo be) (hbOf hb) tt (sh1 rf) mbt mle mbo mwo mlo mbe (mkP mmk (SS cM R ac up li le spc mwo mbe k t) k) (mkT mmk mms (one (cM x1 y1)) t) mwh = BMod G qM st th (cmOf R) ac up li pg le spc pw ld (wr ss) sn tk ss sh dn pp ps (faOf wo lo be) (hbOf hb) tt (sh1 rf) mbt mle mbo mwo mlo mbe (mkP mmk (SS cM R ac up li le spc mwo mbe k t) k) (mkT mmk mms (SS cM R ac up li le spc mwo mbe k t) t) mwh from congrArg (fun z_ : Nat → Int => BMod G qM st th (cmOf R) ac up li pg le spc pw ld (wr ss) sn tk ss sh dn pp ps (faOf wo lo be) (hbOf hb) tt (sh1 rf) mbt mle mbo mwo mlo mbe (mkP mmk (SS cM R ac up li le spc mwo mbe k t) k) z_ mwh) (show ((mkT mmk mms (one (cM x1 y1)) t) : Nat → Int) = (mkT mmk mms (SS cM R ac up li le spc mwo mbe k t) t) from by first | (rw [SS_1 c6 (by omega), ex1, ey1]) | (rw [hs9, show (i - 1).toNat = (mxa dx dy - 1).toNat by omega]; exact SS_2t (by omega) c6 ⟨by omega, by omega⟩ ex1 ey1 ex0 ey0 edx edy))] at hP hD
        exact fin () H locs ls 190 dX9_write_190 hP hD hS (trivial)
      ·
        refine lv_aload_n hx hcd dX9_write_49 rfl (lv_at hl 2 rfl) ?_
        refine lv_iload_n hx hcd dX9_write_50 rfl (lv_at hl 3 rfl) ?_
        refine lv_iload_n hx hcd dX9_write_51 rfl (lv_at hl 4 rfl) ?_
        refine wi_iconst hx hcd dX9_write_52 ?_
        refine wi_isub hx hcd dX9_write_53 ?_
        refine cV_i (wc := [BMod G qM st th (cmOf R) ac up li pg le spc pw ld (wr ss) sn tk ss sh dn pp ps (faOf wo lo be) (hbOf hb) tt (sh1 rf) mbt mle mbo mwo mlo mbe (mkP mmk (one (cM x1 y1)) k) (mkT mmk mms (one (cM x1 y1)) t) mwh]) (wr := []) (w1 := fun (_ : Unit) => [BMod G qM st th (cmOf R) ac up li pg le spc pw ld (wr ss) sn tk ss sh dn pp ps (faOf wo lo be) (hbOf hb) tt (sh1 rf) mbt mle mbo mwo mlo mbe (mkP mmk (one (cM x1 y1)) k) (mkT mmk mms (one (cM x1 y1)) t) mwh]) (Bs1 := fun (_ : Unit) => [BMod G qM st th (cmOf R) ac up li pg le spc pw ld (wr ss) sn tk ss sh dn pp ps (faOf wo lo be) (hbOf hb) tt (sh1 rf) mbt mle mbo mwo mlo mbe (mkP mmk (one (cM x1 y1)) k) (mkT mmk mms (one (cM x1 y1)) t) mwh]) (As := [.int (iI k), .int (iI (t - 1))]) (rest := []) (kX9_xAt l D G qM st th R ac up li le pg spc pw ld sn tk ss sh dn pp ps wo lo be hb tt rf mbt mle mbo mwo mlo mbe (mkP mmk (one (cM x1 y1)) k) (mkT mmk mms (one (cM x1 y1)) t) mwh k (t - 1) (by first | assumption | omega) (by first | assumption | omega) (by first | assumption | omega) (by first | assumption | omega) (by first | assumption | omega) (by first | assumption | omega) (by first | assumption | omega)) rfl ⟨hx, hcd, hml, hown, hts⟩ (cwV 2 hts gX9_write_X9_xAt rfl rfl rfl (by decide +kernel) ⟨by decide, by decide⟩) (q0 := 0) (ci := 9) rfl rfl rfl rfl hl.1 (Nat.le_of_ble_eq_true rfl) ⟨Nat.le_of_ble_eq_true rfl, Nat.le_of_ble_eq_true rfl⟩ dX9_write_54 hK hP hD hS hA (perm_i2 [0] 1 rfl (by decide) rfl) (fun _ => perm_i2 [0] 1 rfl (by decide) rfl) (fun r u H locs hw6 hP hD hS => ?_)
        subst hw6
        obtain ⟨x0, ex0⟩ : ∃ z_ : Int, z_ = xA R ac le spc mwo mbe k (t - 1) := ⟨_, rfl⟩
        rw [show (xA R ac le spc mwo mbe k (t - 1) : Int) = x0 from ex0.symm]
        refine lv_istore (lv' := [(5, .int (iI x0)), (4, .int (iI y1)), (3, .int (iI x1)), (0, .ref (qM 0)), (1, .int (iI k)), (2, .int (iI t))]) hx hcd dX9_write_57 hl (by decide) rfl (fun ls hl => ?_)
        refine lv_aload_n hx hcd dX9_write_59 rfl (lv_at hl 3 rfl) ?_
        refine lv_iload_n hx hcd dX9_write_60 rfl (lv_at hl 4 rfl) ?_
        refine lv_iload_n hx hcd dX9_write_61 rfl (lv_at hl 5 rfl) ?_
        refine wi_iconst hx hcd dX9_write_62 ?_
        refine wi_isub hx hcd dX9_write_63 ?_
        refine cV_i (wc := [BMod G qM st th (cmOf R) ac up li pg le spc pw ld (wr ss) sn tk ss sh dn pp ps (faOf wo lo be) (hbOf hb) tt (sh1 rf) mbt mle mbo mwo mlo mbe (mkP mmk (one (cM x1 y1)) k) (mkT mmk mms (one (cM x1 y1)) t) mwh]) (wr := []) (w1 := fun (_ : Unit) => [BMod G qM st th (cmOf R) ac up li pg le spc pw ld (wr ss) sn tk ss sh dn pp ps (faOf wo lo be) (hbOf hb) tt (sh1 rf) mbt mle mbo mwo mlo mbe (mkP mmk (one (cM x1 y1)) k) (mkT mmk mms (one (cM x1 y1)) t) mwh]) (Bs1 := fun (_ : Unit) => [BMod G qM st th (cmOf R) ac up li pg le spc pw ld (wr ss) sn tk ss sh dn pp ps (faOf wo lo be) (hbOf hb) tt (sh1 rf) mbt mle mbo mwo mlo mbe (mkP mmk (one (cM x1 y1)) k) (mkT mmk mms (one (cM x1 y1)) t) mwh]) (As := [.int (iI k), .int (iI (t - 1))]) (rest := []) (kX9_yAt l D G qM st th R ac up li le pg spc pw ld sn tk ss sh dn pp ps wo lo be hb tt rf mbt mle mbo mwo mlo mbe (mkP mmk (one (cM x1 y1)) k) (mkT mmk mms (one (cM x1 y1)) t) mwh k (t - 1) (by first | assumption | omega) (by first | assumption | omega) (by first | assumption | omega) (by first | assumption | omega) (by first | assumption | omega) (by first | assumption | omega) (by first | assumption | omega)) rfl ⟨hx, hcd, hml, hown, hts⟩ (cwV 2 hts gX9_write_X9_yAt rfl rfl rfl (by decide +kernel) ⟨by decide, by decide⟩) (q0 := 0) (ci := 9) rfl rfl rfl rfl hl.1 (Nat.le_of_ble_eq_true rfl) ⟨Nat.le_of_ble_eq_true rfl, Nat.le_of_ble_eq_true rfl⟩ dX9_write_64 hK hP hD hS hA (perm_i2 [0] 1 rfl (by decide) rfl) (fun _ => perm_i2 [0] 1 rfl (by decide) rfl) (fun r u H locs hw7 hP hD hS => ?_)
        subst hw7
        obtain ⟨y0, ey0⟩ : ∃ z_ : Int, z_ = yA R up le mwo mbe k (t - 1) := ⟨_, rfl⟩
        rw [show (yA R up le mwo mbe k (t - 1) : Int) = y0 from ey0.symm]
        refine lv_istore (lv' := [(6, .int (iI y0)), (5, .int (iI x0)), (4, .int (iI y1)), (3, .int (iI x1)), (0, .ref (qM 0)), (1, .int (iI k)), (2, .int (iI t))]) hx hcd dX9_write_67 hl (by decide) rfl (fun ls hl => ?_)
        refine lv_iload_n hx hcd dX9_write_69 rfl (lv_at hl 3 rfl) ?_
        refine lv_iload hx hcd dX9_write_70 (lv_at hl 1 rfl) ?_
        refine wi_isub hx hcd dX9_write_72 ?_
        obtain ⟨dx, edx⟩ : ∃ z_ : Int, z_ = x1 - x0 := ⟨_, rfl⟩
        rw [show (x1 - x0 : Int) = dx from edx.symm]
        refine lv_istore (lv' := [(7, .int (iI dx)), (6, .int (iI y0)), (5, .int (iI x0)), (4, .int (iI y1)), (3, .int (iI x1)), (0, .ref (qM 0)), (1, .int (iI k)), (2, .int (iI t))]) hx hcd dX9_write_73 hl (by decide) rfl (fun ls hl => ?_)
        refine lv_iload hx hcd dX9_write_75 (lv_at hl 3 rfl) ?_
        refine lv_iload hx hcd dX9_write_77 (lv_at hl 1 rfl) ?_
        refine wi_isub hx hcd dX9_write_79 ?_
        obtain ⟨dy, edy⟩ : ∃ z_ : Int, z_ = y1 - y0 := ⟨_, rfl⟩
        rw [show (y1 - y0 : Int) = dy from edy.symm]
        refine lv_istore (lv' := [(8, .int (iI dy)), (7, .int (iI dx)), (6, .int (iI y0)), (5, .int (iI x0)), (4, .int (iI y1)), (3, .int (iI x1)), (0, .ref (qM 0)), (1, .int (iI k)), (2, .int (iI t))]) hx hcd dX9_write_80 hl (by decide) rfl (fun ls hl => ?_)
        have hma := mxa_ge dx dy
        have hmb9 := mxa_le (x := dx) (y := dy) (B := 119) (by omega) (by omega)
        have ha1 : 0 ≤ aab dx ∧ aab dx ≤ 119 := by unfold aab; split <;> omega
        have ha2 : 0 ≤ aab dy ∧ aab dy ≤ 119 := by unfold aab; split <;> omega
        refine lv_iload hx hcd dX9_write_82 (lv_at hl 1 rfl) ?_
        have K95 : W p0 l e0 rmX9_write s0 m0 args bel met cd H locs 0 0 Q0 (F0 m0 95 ls [.int (iI (aab dx))]) := by
          refine lv_istore (lv' := [(9, .int (iI (aab dx))), (8, .int (iI dy)), (7, .int (iI dx)), (6, .int (iI y0)), (5, .int (iI x0)), (4, .int (iI y1)), (3, .int (iI x1)), (0, .ref (qM 0)), (1, .int (iI k)), (2, .int (iI t))]) hx hcd dX9_write_95 hl (by decide) rfl (fun ls hl => ?_)
          refine lv_iload hx hcd dX9_write_97 (lv_at hl 1 rfl) ?_
          have K110 : W p0 l e0 rmX9_write s0 m0 args bel met cd H locs 0 0 Q0 (F0 m0 110 ls [.int (iI (aab dy))]) := by
            refine lv_istore (lv' := [(10, .int (iI (aab dy))), (9, .int (iI (aab dx))), (8, .int (iI dy)), (7, .int (iI dx)), (6, .int (iI y0)), (5, .int (iI x0)), (4, .int (iI y1)), (3, .int (iI x1)), (0, .ref (qM 0)), (1, .int (iI k)), (2, .int (iI t))]) hx hcd dX9_write_110 hl (by decide) rfl (fun ls hl => ?_)
            refine lv_iload hx hcd dX9_write_112 (lv_at hl 1 rfl) ?_
            refine lv_iload hx hcd dX9_write_114 (lv_at hl 0 rfl) ?_
            have K126 : W p0 l e0 rmX9_write s0 m0 args bel met cd H locs 0 0 Q0 (F0 m0 126 ls [.int (iI (mxa dx dy))]) := by
              refine lv_istore (lv' := [(11, .int (iI (mxa dx dy))), (10, .int (iI (aab dy))), (9, .int (iI (aab dx))), (8, .int (iI dy)), (7, .int (iI dx)), (6, .int (iI y0)), (5, .int (iI x0)), (4, .int (iI y1)), (3, .int (iI x1)), (0, .ref (qM 0)), (1, .int (iI k)), (2, .int (iI t))]) hx hcd dX9_write_126 hl (by decide) rfl (fun ls hl => ?_)
              refine wi_iconst hx hcd dX9_write_128 ?_
              refine lv_istore (lv' := [(12, .int (iI 1)), (11, .int (iI (mxa dx dy))), (10, .int (iI (aab dy))), (9, .int (iI (aab dx))), (8, .int (iI dy)), (7, .int (iI dx)), (6, .int (iI y0)), (5, .int (iI x0)), (4, .int (iI y1)), (3, .int (iI x1)), (0, .ref (qM 0)), (1, .int (iI k)), (2, .int (iI t))]) hx hcd dX9_write_129 hl (by decide) rfl (fun ls hl => ?_)
              have L131 : ∀ (fu : Nat) (i : Int) (k9 : Nat → Int) (s9 : Nat → Int) (H : Heap) (locs : List Loc) (ls : Array Slot), (mxa dx dy + 1 - i < (fu : Int)) → (1 ≤ i ∧ (i ≤ mxa dx dy ∨ i = 1)) → (k9 = mkP (mkP mmk (one (cM x1 y1)) k) (lnS cM x0 y0 dx dy (mxa dx dy) (i - 1).toNat) k) → (s9 = mkT (mkP mmk (one (cM x1 y1)) k) (mkT mmk mms (one (cM x1 y1)) t) (lnS cM x0 y0 dx dy (mxa dx dy) (i - 1).toNat) t) → (∀ c, -1 ≤ k9 c ∧ k9 c ≤ 99) → va_P D vwCl (fl [BMod G qM st th (cmOf R) ac up li pg le spc pw ld (wr ss) sn tk ss sh dn pp ps (faOf wo lo be) (hbOf hb) tt (sh1 rf) mbt mle mbo mwo mlo mbe k9 s9 mwh]) H → va_D A0 (fl [BMod G qM st th (cmOf R) ac up li pg le spc pw ld (wr ss) sn tk ss sh dn pp ps (faOf wo lo be) (hbOf hb) tt (sh1 rf) mbt mle mbo mwo mlo mbe k9 s9 mwh]) → va_S A0 s0.heap H locs → lv_has ls 13 [(0, .ref (qM 0)), (1, .int (iI k)), (2, .int (iI t)), (3, .int (iI x1)), (4, .int (iI y1)), (5, .int (iI x0)), (6, .int (iI y0)), (7, .int (iI dx)), (8, .int (iI dy)), (9, .int (iI (aab dx))), (10, .int (iI (aab dy))), (11, .int (iI (mxa dx dy))), (12, .int (iI i))] → W p0 l e0 rmX9_write s0 m0 args bel met cd H locs 0 0 Q0 (F0 m0 131 ls []) := by
                intro fu
                induction fu with
                | zero =>
                  intro i k9 s9 H locs ls hfu hi hk9 hs9 hr9
                  exact absurd hfu (by omega)
                | succ fu ih =>
                  intro i k9 s9 H locs ls hfu hi hk9 hs9 hr9 hP hD hS hl
                  have ih131 := ih
                  clear ih
                  refine lv_iload hx hcd dX9_write_131 (lv_at hl 12 rfl) ?_
                  refine lv_iload hx hcd dX9_write_133 (lv_at hl 11 rfl) ?_
                  refine wi_icmp_ge (tgt := 190) hx hcd (by omega) (by omega) dX9_write_135 (by decide) (fun c135 => ?_) (fun c135 => ?_)
                  ·
                    rw [show BMod G qM st th (cmOf R) ac up li pg le spc pw ld (wr ss) sn tk ss sh dn pp ps (faOf wo lo be) (hbOf hb) tt (sh1 rf) mbt mle mbo mwo mlo mbe k9 s9 mwh = BMod G qM st th (cmOf R) ac up li pg le spc pw ld (wr ss) sn tk ss sh dn pp ps (faOf wo lo be) (hbOf hb) tt (sh1 rf) mbt mle mbo mwo mlo mbe (mkP mmk (SS cM R ac up li le spc mwo mbe k t) k) s9 mwh from congrArg (fun z_ : Nat → Int => BMod G qM st th (cmOf R) ac up li pg le spc pw ld (wr ss) sn tk ss sh dn pp ps (faOf wo lo be) (hbOf hb) tt (sh1 rf) mbt mle mbo mwo mlo mbe z_ s9 mwh) (show (k9 : Nat → Int) = (mkP mmk (SS cM R ac up li le spc mwo mbe k t) k) from by first | (rw [SS_1 c6 (by omega), ex1, ey1]) | (rw [hk9, show (i - 1).toNat = (mxa dx dy - 1).toNat by omega]; exact SS_2p (by omega) c6 ⟨by omega, by omega⟩ ex1 ey1 ex0 ey0 edx edy))] at hP hD
                    rw [show BMod G qM st th (cmOf R) ac up li pg le spc pw ld (wr ss) sn tk ss sh dn pp ps (faOf wo lo be) (hbOf hb) tt (sh1 rf) mbt mle mbo mwo mlo mbe (mkP mmk (SS cM R ac up li le spc mwo mbe k t) k) s9 mwh = BMod G qM st th (cmOf R) ac up li pg le spc pw ld (wr ss) sn tk ss sh dn pp ps (faOf wo lo be) (hbOf hb) tt (sh1 rf) mbt mle mbo mwo mlo mbe (mkP mmk (SS cM R ac up li le spc mwo mbe k t) k) (mkT mmk mms (SS cM R ac up li le spc mwo mbe k t) t) mwh from congrArg (fun z_ : Nat → Int => BMod G qM st th (cmOf R) ac up li pg le spc pw ld (wr ss) sn tk ss sh dn pp ps (faOf wo lo be) (hbOf hb) tt (sh1 rf) mbt mle mbo mwo mlo mbe (mkP mmk (SS cM R ac up li le spc mwo mbe k t) k) z_ mwh) (show (s9 : Nat → Int) = (mkT mmk mms (SS cM R ac up li le spc mwo mbe k t) t) from by first | (rw [SS_1 c6 (by omega), ex1, ey1]) | (rw [hs9, show (i - 1).toNat = (mxa dx dy - 1).toNat by omega]; exact SS_2t (by omega) c6 ⟨by omega, by omega⟩ ex1 ey1 ex0 ey0 edx edy))] at hP hD
                    exact fin () H locs ls 190 dX9_write_190 hP hD hS (trivial)
                  ·
                    have r1 := rnd_rng (i := i) (d := dx) (m := mxa dx dy) (by omega)
                    have r2 := rnd_rng (i := i) (d := dy) (m := mxa dx dy) (by omega)
                    have r3 := mul_s (a := i) (b := dx) (A := 119) (B := 119) (by omega) (by omega) (by omega) (by omega)
                    have r4 := mul_s (a := i) (b := dy) (A := 119) (B := 119) (by omega) (by omega) (by omega) (by omega)
                    have r5 : 2 * i * dx = 2 * (i * dx) := Int.mul_assoc _ _ _
                    have r6 : 2 * i * dy = 2 * (i * dy) := Int.mul_assoc _ _ _
                    refine lv_aload_n hx hcd dX9_write_138 rfl (lv_at hl 0 rfl) ?_
                    refine lv_iload hx hcd dX9_write_139 (lv_at hl 5 rfl) ?_
                    refine wi_iconst hx hcd dX9_write_141 ?_
                    refine lv_iload hx hcd dX9_write_142 (lv_at hl 12 rfl) ?_
                    refine wi_imul hx hcd dX9_write_144 ?_
                    refine lv_iload hx hcd dX9_write_145 (lv_at hl 7 rfl) ?_
                    refine wi_imul hx hcd dX9_write_147 ?_
                    refine lv_iload hx hcd dX9_write_148 (lv_at hl 11 rfl) ?_
                    refine wi_iadd hx hcd dX9_write_150 ?_
                    refine wi_iconst hx hcd dX9_write_151 ?_
                    refine lv_iload hx hcd dX9_write_152 (lv_at hl 11 rfl) ?_
                    refine wi_imul hx hcd dX9_write_154 ?_
                    refine cS_i (wc := []) (wr := [BMod G qM st th (cmOf R) ac up li pg le spc pw ld (wr ss) sn tk ss sh dn pp ps (faOf wo lo be) (hbOf hb) tt (sh1 rf) mbt mle mbo mwo mlo mbe k9 s9 mwh]) (w1 := fun (_ : Unit) => []) (Bs1 := fun (_ : Unit) => [BMod G qM st th (cmOf R) ac up li pg le spc pw ld (wr ss) sn tk ss sh dn pp ps (faOf wo lo be) (hbOf hb) tt (sh1 rf) mbt mle mbo mwo mlo mbe k9 s9 mwh]) (As := [.int (iI (((2 * i) * dx) + (mxa dx dy))), .int (iI (2 * (mxa dx dy)))]) (rest := [.int (iI x0), .ref (qM 0)]) (kX9_lower l D G (((2 * i) * dx) + (mxa dx dy)) (2 * (mxa dx dy)) (by omega) (by omega)) rfl ⟨hx, hcd, hml, hown, hts⟩ (va_cwS 2 hts gX9_write_X9_lower rfl rfl rfl (by decide +kernel) ⟨by decide, by decide⟩) rfl hl.1 (Nat.le_of_ble_eq_true rfl) ⟨Nat.le_of_ble_eq_true rfl, Nat.le_of_ble_eq_true rfl⟩ dX9_write_155 hK hP hD hS hA (perm_i2 [0] 1 rfl (by decide) rfl) (fun _ => perm_i2 [0] 1 rfl (by decide) rfl) (fun r u H locs hw8 hP hD hS => ?_)
                    subst hw8
                    rw [show ((((2 * i) * dx) + (mxa dx dy)) / (2 * (mxa dx dy)) : Int) = rnd (i * dx) (mxa dx dy) from by unfold rnd; rw [Int.mul_assoc]]
                    refine wi_iadd hx hcd dX9_write_158 ?_
                    refine lv_iload hx hcd dX9_write_159 (lv_at hl 6 rfl) ?_
                    refine wi_iconst hx hcd dX9_write_161 ?_
                    refine lv_iload hx hcd dX9_write_162 (lv_at hl 12 rfl) ?_
                    refine wi_imul hx hcd dX9_write_164 ?_
                    refine lv_iload hx hcd dX9_write_165 (lv_at hl 8 rfl) ?_
                    refine wi_imul hx hcd dX9_write_167 ?_
                    refine lv_iload hx hcd dX9_write_168 (lv_at hl 11 rfl) ?_
                    refine wi_iadd hx hcd dX9_write_170 ?_
                    refine wi_iconst hx hcd dX9_write_171 ?_
                    refine lv_iload hx hcd dX9_write_172 (lv_at hl 11 rfl) ?_
                    refine wi_imul hx hcd dX9_write_174 ?_
                    refine cS_i (wc := []) (wr := [BMod G qM st th (cmOf R) ac up li pg le spc pw ld (wr ss) sn tk ss sh dn pp ps (faOf wo lo be) (hbOf hb) tt (sh1 rf) mbt mle mbo mwo mlo mbe k9 s9 mwh]) (w1 := fun (_ : Unit) => []) (Bs1 := fun (_ : Unit) => [BMod G qM st th (cmOf R) ac up li pg le spc pw ld (wr ss) sn tk ss sh dn pp ps (faOf wo lo be) (hbOf hb) tt (sh1 rf) mbt mle mbo mwo mlo mbe k9 s9 mwh]) (As := [.int (iI (((2 * i) * dy) + (mxa dx dy))), .int (iI (2 * (mxa dx dy)))]) (rest := [.int (iI y0), .int (iI (x0 + (rnd (i * dx) (mxa dx dy)))), .ref (qM 0)]) (kX9_lower l D G (((2 * i) * dy) + (mxa dx dy)) (2 * (mxa dx dy)) (by omega) (by omega)) rfl ⟨hx, hcd, hml, hown, hts⟩ (va_cwS 2 hts gX9_write_X9_lower rfl rfl rfl (by decide +kernel) ⟨by decide, by decide⟩) rfl hl.1 (Nat.le_of_ble_eq_true rfl) ⟨Nat.le_of_ble_eq_true rfl, Nat.le_of_ble_eq_true rfl⟩ dX9_write_175 hK hP hD hS hA (perm_i2 [0] 1 rfl (by decide) rfl) (fun _ => perm_i2 [0] 1 rfl (by decide) rfl) (fun r u H locs hw9 hP hD hS => ?_)
                    subst hw9
                    rw [show ((((2 * i) * dy) + (mxa dx dy)) / (2 * (mxa dx dy)) : Int) = rnd (i * dy) (mxa dx dy) from by unfold rnd; rw [Int.mul_assoc]]
                    refine wi_iadd hx hcd dX9_write_178 ?_
                    refine lv_iload_n hx hcd dX9_write_179 rfl (lv_at hl 1 rfl) ?_
                    refine lv_iload_n hx hcd dX9_write_180 rfl (lv_at hl 2 rfl) ?_
                    refine cV_v (wc := [BMod G qM st th (cmOf R) ac up li pg le spc pw ld (wr ss) sn tk ss sh dn pp ps (faOf wo lo be) (hbOf hb) tt (sh1 rf) mbt mle mbo mwo mlo mbe k9 s9 mwh]) (wr := []) (w1 := fun (_ : Unit) => [BMod G qM st th (cmOf R) ac up li pg le spc pw ld (wr ss) sn tk ss sh dn pp ps (faOf wo lo be) (hbOf hb) tt (sh1 rf) mbt mle mbo mwo mlo mbe (mkP k9 (one (cM (x0 + (rnd (i * dx) (mxa dx dy))) (y0 + (rnd (i * dy) (mxa dx dy))))) k) (mkT k9 s9 (one (cM (x0 + (rnd (i * dx) (mxa dx dy))) (y0 + (rnd (i * dy) (mxa dx dy))))) t) mwh]) (Bs1 := fun (_ : Unit) => [BMod G qM st th (cmOf R) ac up li pg le spc pw ld (wr ss) sn tk ss sh dn pp ps (faOf wo lo be) (hbOf hb) tt (sh1 rf) mbt mle mbo mwo mlo mbe (mkP k9 (one (cM (x0 + (rnd (i * dx) (mxa dx dy))) (y0 + (rnd (i * dy) (mxa dx dy))))) k) (mkT k9 s9 (one (cM (x0 + (rnd (i * dx) (mxa dx dy))) (y0 + (rnd (i * dy) (mxa dx dy))))) t) mwh]) (As := [.int (iI (x0 + (rnd (i * dx) (mxa dx dy)))), .int (iI (y0 + (rnd (i * dy) (mxa dx dy)))), .int (iI k), .int (iI t)]) (rest := []) (kX9_mark l D G qM st th R ac up li le pg spc pw ld sn tk ss sh dn pp ps wo lo be hb tt rf mbt mle mbo mwo mlo mbe k9 s9 mwh (x0 + (rnd (i * dx) (mxa dx dy))) (y0 + (rnd (i * dy) (mxa dx dy))) k t (by assumption) (by omega)) rfl ⟨hx, hcd, hml, hown, hts⟩ (cwV 4 hts gX9_write_X9_mark rfl rfl rfl (by decide +kernel) ⟨by decide, by decide⟩) (q0 := 0) (ci := 9) rfl rfl rfl rfl hl.1 (Nat.le_of_ble_eq_true rfl) ⟨Nat.le_of_ble_eq_true rfl, Nat.le_of_ble_eq_true rfl⟩ dX9_write_181 hK hP hD hS hA (perm_i2 [0] 1 rfl (by decide) rfl) (fun _ => perm_i2 [0] 1 rfl (by decide) rfl) (fun u H locs hw10 hP hD hS => ?_)
                    refine lv_iinc (v := iI (i + 1)) (lv' := [(12, .int (iI (i + 1))), (0, .ref (qM 0)), (1, .int (iI k)), (2, .int (iI t)), (3, .int (iI x1)), (4, .int (iI y1)), (5, .int (iI x0)), (6, .int (iI y0)), (7, .int (iI dx)), (8, .int (iI dy)), (9, .int (iI (aab dx))), (10, .int (iI (aab dy))), (11, .int (iI (mxa dx dy)))]) hx hcd dX9_write_184 hl (k := 12) rfl (iI_add _ _) (by decide) rfl (fun ls hl => ?_)
                    refine lv_goto (tgt := 131) hx hcd dX9_write_187 (by decide) ?_
                    exact ih131 (i + 1) (mkP k9 (one (cM (x0 + (rnd (i * dx) (mxa dx dy))) (y0 + (rnd (i * dy) (mxa dx dy))))) k) (mkT k9 s9 (one (cM (x0 + (rnd (i * dx) (mxa dx dy))) (y0 + (rnd (i * dy) (mxa dx dy))))) t) _ _ _ (by omega) (by omega) (by rw [hk9, mk_two (by omega), lnS_s (by omega)]; rfl) (by rw [hk9, hs9, mt_two (by omega), lnS_s (by omega)]; rfl) (fun c => mkP_rng hr9 (by omega) c) hP hD hS (lv_sub hl [1, 2, 3, 4, 5, 6, 7, 8, 9, 10, 11, 12, 0] rfl)
              exact L131 (((mxa dx dy + 1 - 1) + 1 : Int)).toNat 1 (mkP mmk (one (cM x1 y1)) k) (mkT mmk mms (one (cM x1 y1)) t) _ _ _ (by omega) (by omega) (mk_non.symm) (mt_non.symm) (fun c => mkP_rng hmk (by omega) c) hP hD hS (lv_sub hl [10, 11, 12, 9, 8, 7, 6, 5, 4, 3, 2, 1, 0] rfl)
            refine wi_icmp_le (tgt := 124) hx hcd (by omega) (by omega) dX9_write_116 (by decide) (fun c116 => ?_) (fun c116 => ?_)
            ·
              refine lv_iload hx hcd dX9_write_124 (lv_at hl 0 rfl) ?_
              rw [show (mxa dx dy : Int) = (aab dy) from by unfold mxa; split <;> omega] at K126
              exact K126
            ·
              refine lv_iload hx hcd dX9_write_119 (lv_at hl 1 rfl) ?_
              refine lv_goto (tgt := 126) hx hcd dX9_write_121 (by decide) ?_
              rw [show (mxa dx dy : Int) = (aab dx) from by unfold mxa; split <;> omega] at K126
              exact K126
          refine wi_if_ge (tgt := 108) hx hcd (by omega) dX9_write_99 (by decide) (fun c99 => ?_) (fun c99 => ?_)
          ·
            refine lv_iload hx hcd dX9_write_108 (lv_at hl 1 rfl) ?_
            rw [show (aab dy : Int) = dy from by unfold aab; split <;> omega] at K110
            exact K110
          ·
            refine lv_iload hx hcd dX9_write_102 (lv_at hl 1 rfl) ?_
            refine wi_ineg hx hcd dX9_write_104 ?_
            refine lv_goto (tgt := 110) hx hcd dX9_write_105 (by decide) ?_
            rw [show (aab dy : Int) = (-dy) from by unfold aab; split <;> omega] at K110
            exact K110
        refine wi_if_ge (tgt := 93) hx hcd (by omega) dX9_write_84 (by decide) (fun c84 => ?_) (fun c84 => ?_)
        ·
          refine lv_iload hx hcd dX9_write_93 (lv_at hl 1 rfl) ?_
          rw [show (aab dx : Int) = dx from by unfold aab; split <;> omega] at K95
          exact K95
        ·
          refine lv_iload hx hcd dX9_write_87 (lv_at hl 1 rfl) ?_
          refine wi_ineg hx hcd dX9_write_89 ?_
          refine lv_goto (tgt := 95) hx hcd dX9_write_90 (by decide) ?_
          rw [show (aab dx : Int) = (-dx) from by unfold aab; split <;> omega] at K95
          exact K95
  ·
    rw [show BMod G qM st th (cmOf R) ac up li pg le spc pw ld (wr ss) sn tk ss sh dn pp ps (faOf wo lo be) (hbOf hb) tt (sh1 rf) mbt mle mbo mwo mlo mbe mmk mms mwh = BMod G qM st th (cmOf R) ac up li pg le spc pw ld (wr ss) sn tk ss sh dn pp ps (faOf wo lo be) (hbOf hb) tt (sh1 rf) mbt mle mbo mwo mlo mbe (mkP mmk (SS cM R ac up li le spc mwo mbe k t) k) mms mwh from congrArg (fun z_ : Nat → Int => BMod G qM st th (cmOf R) ac up li pg le spc pw ld (wr ss) sn tk ss sh dn pp ps (faOf wo lo be) (hbOf hb) tt (sh1 rf) mbt mle mbo mwo mlo mbe z_ mms mwh) (show (mmk : Nat → Int) = (mkP mmk (SS cM R ac up li le spc mwo mbe k t) k) from by rw [SS_0 c6, mk_non])] at hP hD
    rw [show BMod G qM st th (cmOf R) ac up li pg le spc pw ld (wr ss) sn tk ss sh dn pp ps (faOf wo lo be) (hbOf hb) tt (sh1 rf) mbt mle mbo mwo mlo mbe (mkP mmk (SS cM R ac up li le spc mwo mbe k t) k) mms mwh = BMod G qM st th (cmOf R) ac up li pg le spc pw ld (wr ss) sn tk ss sh dn pp ps (faOf wo lo be) (hbOf hb) tt (sh1 rf) mbt mle mbo mwo mlo mbe (mkP mmk (SS cM R ac up li le spc mwo mbe k t) k) (mkT mmk mms (SS cM R ac up li le spc mwo mbe k t) t) mwh from congrArg (fun z_ : Nat → Int => BMod G qM st th (cmOf R) ac up li pg le spc pw ld (wr ss) sn tk ss sh dn pp ps (faOf wo lo be) (hbOf hb) tt (sh1 rf) mbt mle mbo mwo mlo mbe (mkP mmk (SS cM R ac up li le spc mwo mbe k t) k) z_ mwh) (show (mms : Nat → Int) = (mkT mmk mms (SS cM R ac up li le spc mwo mbe k t) t) from by rw [SS_0 c6, mt_non])] at hP hD
    exact fin () H locs ls 9 dX9_write_9 hP hD hS (trivial)
