abbrev rmX9_camOf : Room := { frames := 3, cells := 0, slots := 0, locals := 63 }
set_option maxHeartbeats 4000000 in
set_option maxRecDepth 100000 in
theorem kX9_camOf (l : Launch) (D : va_G) (G : Nat → ClassId) (qM : Nat → Nat) (st : Int) (th : Nat → Int) (R : Nat → Nat → Int) (ac : Nat → Int) (up : Nat → Int) (li : Nat → Int) (le : Nat → Int) (pg : Int) (spc : Int) (pw : Int) (ld : Int) (sn : Int) (tk : Int) (ss : Int) (sh : Int) (dn : Int) (pp : Nat → Int) (ps : Nat → Int) (wo : Int) (lo : Int) (be : Int) (hb : Nat → Nat → Int) (tt : Nat → Int) (rf : Nat → Int) (mbt : Nat → Int) (mle : Nat → Int) (mbo : Nat → Int) (mwo : Int) (mlo : Int) (mbe : Int) (mmk : Nat → Int) (mms : Nat → Int) (mwh : Int) (c : Int) (w : Int) (hst : 2 ≤ st ∧ st ≤ 16) (hth : ∀ k, th k = 0 ∨ th k = 1) (hR : ∀ i j, 0 ≤ R i j ∧ R i j ≤ 9) (hac : ∀ k, 0 ≤ ac k ∧ ac k ≤ 11) (hup : ∀ k, 0 ≤ up k ∧ up k ≤ 11) (hli : ∀ k, 0 ≤ li k ∧ li k ≤ 11) (hle : ∀ k, 0 ≤ le k ∧ le k ≤ 9) (hpg : 0 ≤ pg ∧ pg ≤ 12) (hsp : 0 ≤ spc ∧ spc ≤ 9) (hpw : 0 ≤ pw ∧ pw ≤ 1000) (hld : 1 ≤ ld ∧ ld ≤ 20) (hss : 0 ≤ ss ∧ ss < 900000) (hpq : ∀ k, -1 ≤ pp k ∧ pp k ≤ 99 ∧ -1 ≤ ps k ∧ ps k ≤ 99 ∧ (0 ≤ pp k → 0 ≤ ps k)) (hwo : -1 ≤ wo ∧ wo ≤ 11) (hlo : -1 ≤ lo ∧ lo ≤ 11) (hbe : -1 ≤ be ∧ be ≤ 1) (hhb : ∀ i j, 0 ≤ hb i j ∧ hb i j ≤ 1000) (htt : ∀ k, 0 ≤ tt k ∧ tt k ≤ 1000) (hc_ : -2147483648 ≤ c ∧ c < 2147483648) (hw_ : -2147483648 ≤ w ∧ w < 2147483648) : CtI l yX9_camOf wsX9_camOf rmX9_camOf D G [.ref (qM 0), .int (iI c), .int (iI w)] [BMod G qM st th (cmOf R) ac up li pg le spc pw ld (wr ss) sn tk ss sh dn pp ps (faOf wo lo be) (hbOf hb) tt (sh1 rf) mbt mle mbo mwo mlo mbe mmk mms mwh] (fun (r : Int32) (u : (Nat → Int) × (Nat → Int)) => r = iI (aCam th st R c w) ∧ True) (fun u => [BMod G qM st th (cmOf R) ac up li pg le spc pw ld (wr ss) sn tk ss sh dn pp ps (faOf wo lo be) (hbOf hb) tt (sh1 (rfx rf (aCam th st R c w))) mbt u.1 u.2 mwo mlo mbe mmk mms mwh]) := by
  refine CtI.ofI (cc := cX9_camOf) (maxL := 5) (by decide) rfl (Nat.le_of_ble_eq_true rfl) ?_
  intro p0 e0 s0 m0 args bel met cd A0 ls Q0 hx hcd hml hown hts hK hP hD hA hl fin
  have hl : lv_has ls 5 [(0, .ref (qM 0)), (1, .int (iI c)), (2, .int (iI w))] := hl
  have hS : va_S A0 s0.heap s0.heap [] := va_S.rf
  have hH : va_P D vwCl (fl [BMod G qM st th (cmOf R) ac up li pg le spc pw ld (wr ss) sn tk ss sh dn pp ps (faOf wo lo be) (hbOf hb) tt (sh1 rf) mbt mle mbo mwo mlo mbe mmk mms mwh]) s0.heap := hP
  obtain ⟨H, eH⟩ : ∃ H, H = s0.heap := ⟨_, rfl⟩
  obtain ⟨locs, eL⟩ : ∃ locs : List Loc, locs = [] := ⟨_, rfl⟩
  have hS : va_S A0 s0.heap H locs := by rw [eH, eL]; exact hS
  have hP : va_P D vwCl (fl [BMod G qM st th (cmOf R) ac up li pg le spc pw ld (wr ss) sn tk ss sh dn pp ps (faOf wo lo be) (hbOf hb) tt (sh1 rf) mbt mle mbo mwo mlo mbe mmk mms mwh]) H := by rw [eH]; exact hP
  suffices goal : W p0 l e0 rmX9_camOf s0 m0 args bel met cd H locs 0 0 Q0 (F0 m0 0 ls []) by rw [eH, eL] at goal; exact goal
  clear eH eL hH
  have hrc := rC_rng th c
  have hth9 := hth c.toNat
  have hlr := la_rng st th R c.toNat
  refine lv_aload_n hx hcd dX9_camOf_0 rfl (lv_at hl 0 rfl) ?_
  refine lv_iload_n hx hcd dX9_camOf_1 rfl (lv_at hl 1 rfl) ?_
  refine cV_i (wc := [BMod G qM st th (cmOf R) ac up li pg le spc pw ld (wr ss) sn tk ss sh dn pp ps (faOf wo lo be) (hbOf hb) tt (sh1 rf) mbt mle mbo mwo mlo mbe mmk mms mwh]) (wr := []) (w1 := fun (_ : Unit) => [BMod G qM st th (cmOf R) ac up li pg le spc pw ld (wr ss) sn tk ss sh dn pp ps (faOf wo lo be) (hbOf hb) tt (sh1 rf) mbt mle mbo mwo mlo mbe mmk mms mwh]) (Bs1 := fun (_ : Unit) => [BMod G qM st th (cmOf R) ac up li pg le spc pw ld (wr ss) sn tk ss sh dn pp ps (faOf wo lo be) (hbOf hb) tt (sh1 rf) mbt mle mbo mwo mlo mbe mmk mms mwh]) (As := [.int (iI c)]) (rest := []) (kX9_lacks l D G qM st th R ac up li le pg spc pw ld sn tk ss sh dn pp ps wo lo be hb tt rf mbt mle mbo mwo mlo mbe mmk mms mwh c (by first | assumption | omega) (by first | assumption | omega)) rfl ⟨hx, hcd, hml, hown, hts⟩ (cwV 1 hts gX9_camOf_X9_lacks rfl rfl rfl (by decide +kernel) ⟨by decide, by decide⟩) (q0 := 0) (ci := 9) rfl rfl rfl rfl hl.1 (Nat.le_of_ble_eq_true rfl) ⟨Nat.le_of_ble_eq_true rfl, Nat.le_of_ble_eq_true rfl⟩ dX9_camOf_2 hK hP hD hS hA (perm_i2 [0] 1 rfl (by decide) rfl) (fun _ => perm_i2 [0] 1 rfl (by decide) rfl) (fun r u H locs hw1 hP hD hS => ?_)
  subst hw1
  refine lv_istore_n (lv' := [(3, .int (iI (rC th c))), (0, .ref (qM 0)), (1, .int (iI c)), (2, .int (iI w))]) hx hcd dX9_camOf_5 rfl hl (by decide) rfl (fun ls hl => ?_)
  refine lv_iload_n hx hcd dX9_camOf_6 rfl (lv_at hl 0 rfl) ?_
  refine wi_if_ge (tgt := 16) hx hcd (by omega) dX9_camOf_7 (by decide) (fun c7 => ?_) (fun c7 => ?_)
  ·
    refine lv_iload_n hx hcd dX9_camOf_16 rfl (lv_at hl 3 rfl) ?_
    refine wi_iconst hx hcd dX9_camOf_17 ?_
    refine wi_iconst hx hcd dX9_camOf_18 ?_
    refine cS_i (wc := []) (wr := [BMod G qM st th (cmOf R) ac up li pg le spc pw ld (wr ss) sn tk ss sh dn pp ps (faOf wo lo be) (hbOf hb) tt (sh1 rf) mbt mle mbo mwo mlo mbe mmk mms mwh]) (w1 := fun (_ : Unit) => []) (Bs1 := fun (_ : Unit) => [BMod G qM st th (cmOf R) ac up li pg le spc pw ld (wr ss) sn tk ss sh dn pp ps (faOf wo lo be) (hbOf hb) tt (sh1 rf) mbt mle mbo mwo mlo mbe mmk mms mwh]) (As := [.int (iI w), .int (iI 0), .int (iI 2)]) (rest := []) (kX9_in l D G w 0 2 (by first | assumption | omega) (by first | assumption | omega) (by first | assumption | omega)) rfl ⟨hx, hcd, hml, hown, hts⟩ (va_cwS 3 hts gX9_camOf_X9_in rfl rfl rfl (by decide +kernel) ⟨by decide, by decide⟩) rfl hl.1 (Nat.le_of_ble_eq_true rfl) ⟨Nat.le_of_ble_eq_true rfl, Nat.le_of_ble_eq_true rfl⟩ dX9_camOf_19 hK hP hD hS hA (perm_i2 [0] 1 rfl (by decide) rfl) (fun _ => perm_i2 [0] 1 rfl (by decide) rfl) (fun r u H locs hw2 hP hD hS => ?_)
    subst hw2
    have hin637 := if01 (0 ≤ w ∧ w ≤ 2)
    refine wi_if_ne (tgt := 32) hx hcd (by omega) dX9_camOf_22 (by decide) (fun c22 => ?_) (fun c22 => ?_)
    ·
      refine lv_aload_n hx hcd dX9_camOf_32 rfl (lv_at hl 1 rfl) ?_
      refine cV_i (wc := [BMod G qM st th (cmOf R) ac up li pg le spc pw ld (wr ss) sn tk ss sh dn pp ps (faOf wo lo be) (hbOf hb) tt (sh1 rf) mbt mle mbo mwo mlo mbe mmk mms mwh]) (wr := []) (w1 := fun (u : (Nat → Int) × (Nat → Int)) => [BMod G qM st th (cmOf R) ac up li pg le spc pw ld (wr ss) sn tk ss sh dn pp ps (faOf wo lo be) (hbOf hb) tt (sh1 rf) mbt u.1 u.2 mwo mlo mbe mmk mms mwh]) (Bs1 := fun (u : (Nat → Int) × (Nat → Int)) => [BMod G qM st th (cmOf R) ac up li pg le spc pw ld (wr ss) sn tk ss sh dn pp ps (faOf wo lo be) (hbOf hb) tt (sh1 rf) mbt u.1 u.2 mwo mlo mbe mmk mms mwh]) (As := []) (rest := []) (kX9_findBlanks l D G qM st th R ac up li le pg spc pw ld sn tk ss sh dn pp ps wo lo be hb tt rf mbt mle mbo mwo mlo mbe mmk mms mwh (by first | assumption | omega) (by first | assumption | omega) (by first | assumption | omega)) rfl ⟨hx, hcd, hml, hown, hts⟩ (cwV 0 hts gX9_camOf_X9_findBlanks rfl rfl rfl (by decide +kernel) ⟨by decide, by decide⟩) (q0 := 0) (ci := 9) rfl rfl rfl rfl hl.1 (Nat.le_of_ble_eq_true rfl) ⟨Nat.le_of_ble_eq_true rfl, Nat.le_of_ble_eq_true rfl⟩ dX9_camOf_33 hK hP hD hS hA (perm_i2 [0] 1 rfl (by decide) rfl) (fun _ => perm_i2 [0] 1 rfl (by decide) rfl) (fun r u H locs hw5 hP hD hS => ?_)
      obtain ⟨l23, o24⟩ := u
      dsimp only at hw5 hP hD
      obtain ⟨rfl, hq6⟩ := hw5
      have htc : th c.toNat = 1 := by omega
      have hfb := (by assumption : fbP st th R 12 _ _) c.toNat (by omega) htc
      have hb0 := bb_0 st th R (la st th R c.toNat).toNat
      refine lv_istore (lv' := [(4, .int (iI (bb st th R 12))), (3, .int (iI (rC th c))), (0, .ref (qM 0)), (1, .int (iI c)), (2, .int (iI w))]) hx hcd dX9_camOf_36 hl (by decide) rfl (fun ls hl => ?_)
      refine lv_iload_n hx hcd dX9_camOf_38 rfl (lv_at hl 4 rfl) ?_
      refine wi_if_ne (tgt := 51) hx hcd (by omega) dX9_camOf_39 (by decide) (fun c39 => ?_) (fun c39 => ?_)
      ·
        refine lv_iload_n hx hcd dX9_camOf_51 rfl (lv_at hl 4 rfl) ?_
        refine wi_iconst hx hcd dX9_camOf_52 ?_
        refine wi_icmp_ne (tgt := 70) hx hcd (by omega) (by omega) dX9_camOf_53 (by decide) (fun c53 => ?_) (fun c53 => ?_)
        ·
          refine lv_aload_n hx hcd dX9_camOf_70 rfl (lv_at hl 2 rfl) ?_
          refine lv_iload_n hx hcd dX9_camOf_71 rfl (lv_at hl 3 rfl) ?_
          refine cV_i (wc := [BMod G qM st th (cmOf R) ac up li pg le spc pw ld (wr ss) sn tk ss sh dn pp ps (faOf wo lo be) (hbOf hb) tt (sh1 rf) mbt l23 o24 mwo mlo mbe mmk mms mwh]) (wr := []) (w1 := fun (_ : Unit) => [BMod G qM st th (cmOf R) ac up li pg le spc pw ld (wr ss) sn tk ss sh dn pp ps (faOf wo lo be) (hbOf hb) tt (sh1 rf) mbt l23 o24 mwo mlo mbe mmk mms mwh]) (Bs1 := fun (_ : Unit) => [BMod G qM st th (cmOf R) ac up li pg le spc pw ld (wr ss) sn tk ss sh dn pp ps (faOf wo lo be) (hbOf hb) tt (sh1 rf) mbt l23 o24 mwo mlo mbe mmk mms mwh]) (As := [.int (iI c)]) (rest := []) (kX9_smoothOf l D G qM st th R ac up li le pg spc pw ld sn tk ss sh dn pp ps wo lo be hb tt rf mbt l23 o24 mwo mlo mbe mmk mms mwh c (by first | assumption | omega) (by first | assumption | omega) (by first | assumption | omega)) rfl ⟨hx, hcd, hml, hown, hts⟩ (cwV 1 hts gX9_camOf_X9_smoothOf rfl rfl rfl (by decide +kernel) ⟨by decide, by decide⟩) (q0 := 0) (ci := 9) rfl rfl rfl rfl hl.1 (Nat.le_of_ble_eq_true rfl) ⟨Nat.le_of_ble_eq_true rfl, Nat.le_of_ble_eq_true rfl⟩ dX9_camOf_72 hK hP hD hS hA (perm_i2 [0] 1 rfl (by decide) rfl) (fun _ => perm_i2 [0] 1 rfl (by decide) rfl) (fun r u H locs hw7 hP hD hS => ?_)
          subst hw7
          have hgr := gs_rng st (R c.toNat) (hR c.toNat) st.toNat
          have hA_ : (aCam th st R c w : Int) = (gs st (R c.toNat) st.toNat) := by unfold aCam; (repeat' split) <;> first | rfl | omega
          rw [show BMod G qM st th (cmOf R) ac up li pg le spc pw ld (wr ss) sn tk ss sh dn pp ps (faOf wo lo be) (hbOf hb) tt (sh1 rf) mbt l23 o24 mwo mlo mbe mmk mms mwh = BMod G qM st th (cmOf R) ac up li pg le spc pw ld (wr ss) sn tk ss sh dn pp ps (faOf wo lo be) (hbOf hb) tt (sh1 (rfx rf (aCam th st R c w))) mbt l23 o24 mwo mlo mbe mmk mms mwh from congrArg (fun z_ : Nat → Int => BMod G qM st th (cmOf R) ac up li pg le spc pw ld (wr ss) sn tk ss sh dn pp ps (faOf wo lo be) (hbOf hb) tt z_ mbt l23 o24 mwo mlo mbe mmk mms mwh) (show (sh1 rf : Nat → Int) = (sh1 (rfx rf (aCam th st R c w))) from congrArg sh1 (by rw [hA_]; first | exact (rfx_1 (by omega)).symm | exact (rfx_0 (by omega)).symm))] at hP hD
          exact fin _ ⟨l23, o24⟩ H locs ls 75 dX9_camOf_75 hP hD hS (trivial) (⟨congrArg iI hA_.symm, trivial⟩)
        ·
          refine lv_aload_n hx hcd dX9_camOf_56 rfl (lv_at hl 2 rfl) ?_
          refine lv_aload_n hx hcd dX9_camOf_57 rfl (lv_at hl 2 rfl) ?_
          refine g_get (C := RX9) (T := TX9) (N := 32) hx hcd hts (fun _ h => List.mem_cons_of_mem _ (List.mem_append_right _ h)) hown hK hP (i := 0) rfl BMod_c0 rfl 24 (by decide) (by decide +kernel) rfl dX9_camOf_58 ?_
          refine lv_iload_n hx hcd dX9_camOf_61 rfl (lv_at hl 3 rfl) ?_
          refine g_iald hx hcd hK hP (i := 0) rfl BMod_c14 (by omega) (by decide) dX9_camOf_62 ?_
          rw [show (l23 c.toNat : Int) = la st th R c.toNat from hfb.1]
          refine lv_iload_n hx hcd dX9_camOf_63 rfl (lv_at hl 3 rfl) ?_
          refine cV_i (wc := [BMod G qM st th (cmOf R) ac up li pg le spc pw ld (wr ss) sn tk ss sh dn pp ps (faOf wo lo be) (hbOf hb) tt (sh1 rf) mbt l23 o24 mwo mlo mbe mmk mms mwh]) (wr := []) (w1 := fun (_ : Unit) => [BMod G qM st th (cmOf R) ac up li pg le spc pw ld (wr ss) sn tk ss sh dn pp ps (faOf wo lo be) (hbOf hb) tt (sh1 rf) mbt l23 o24 mwo mlo mbe mmk mms mwh]) (Bs1 := fun (_ : Unit) => [BMod G qM st th (cmOf R) ac up li pg le spc pw ld (wr ss) sn tk ss sh dn pp ps (faOf wo lo be) (hbOf hb) tt (sh1 rf) mbt l23 o24 mwo mlo mbe mmk mms mwh]) (As := [.int (iI (la st th R c.toNat)), .int (iI c)]) (rest := []) (kX9_turnedBy l D G qM st th R ac up li le pg spc pw ld sn tk ss sh dn pp ps wo lo be hb tt rf mbt l23 o24 mwo mlo mbe mmk mms mwh (la st th R c.toNat) c (by first | assumption | omega) (by first | assumption | omega) (by first | assumption | omega) (by first | assumption | omega)) rfl ⟨hx, hcd, hml, hown, hts⟩ (cwV 2 hts gX9_camOf_X9_turnedBy rfl rfl rfl (by decide +kernel) ⟨by decide, by decide⟩) (q0 := 0) (ci := 9) rfl rfl rfl rfl hl.1 (Nat.le_of_ble_eq_true rfl) ⟨Nat.le_of_ble_eq_true rfl, Nat.le_of_ble_eq_true rfl⟩ dX9_camOf_64 hK hP hD hS hA (perm_i2 [0] 1 rfl (by decide) rfl) (fun _ => perm_i2 [0] 1 rfl (by decide) rfl) (fun r u H locs hw8 hP hD hS => ?_)
          subst hw8
          have hsr := sb_rng st (R (la st th R c.toNat).toNat) (R c.toNat) hst
          have hs9 := sb_9 st (R (la st th R c.toNat).toNat) (R c.toNat)
          refine lv_goto (tgt := 75) hx hcd dX9_camOf_67 (by decide) ?_
          have hA_ : (aCam th st R c w : Int) = (sb st (R (la st th R c.toNat).toNat) (R c.toNat)) := by unfold aCam; (repeat' split) <;> first | rfl | omega
          rw [show BMod G qM st th (cmOf R) ac up li pg le spc pw ld (wr ss) sn tk ss sh dn pp ps (faOf wo lo be) (hbOf hb) tt (sh1 rf) mbt l23 o24 mwo mlo mbe mmk mms mwh = BMod G qM st th (cmOf R) ac up li pg le spc pw ld (wr ss) sn tk ss sh dn pp ps (faOf wo lo be) (hbOf hb) tt (sh1 (rfx rf (aCam th st R c w))) mbt l23 o24 mwo mlo mbe mmk mms mwh from congrArg (fun z_ : Nat → Int => BMod G qM st th (cmOf R) ac up li pg le spc pw ld (wr ss) sn tk ss sh dn pp ps (faOf wo lo be) (hbOf hb) tt z_ mbt l23 o24 mwo mlo mbe mmk mms mwh) (show (sh1 rf : Nat → Int) = (sh1 (rfx rf (aCam th st R c w))) from congrArg sh1 (by rw [hA_]; first | exact (rfx_1 (by omega)).symm | exact (rfx_0 (by omega)).symm))] at hP hD
          exact fin _ ⟨l23, o24⟩ H locs ls 75 dX9_camOf_75 hP hD hS (trivial) (⟨congrArg iI hA_.symm, trivial⟩)
      ·
        refine lv_aload_n hx hcd dX9_camOf_42 rfl (lv_at hl 2 rfl) ?_
        refine g_get (C := RX9) (T := TX9) (N := 32) hx hcd hts (fun _ h => List.mem_cons_of_mem _ (List.mem_append_right _ h)) hown hK hP (i := 0) rfl BMod_c0 rfl 25 (by decide) (by decide +kernel) rfl dX9_camOf_43 ?_
        refine lv_iload_n hx hcd dX9_camOf_46 rfl (lv_at hl 3 rfl) ?_
        refine g_iald hx hcd hK hP (i := 0) rfl BMod_c15 (by omega) (by decide) dX9_camOf_47 ?_
        rw [show (o24 c.toNat : Int) = bb st th R (la st th R c.toNat).toNat from hfb.2]
        refine lv_goto (tgt := 75) hx hcd dX9_camOf_48 (by decide) ?_
        have hA_ : (aCam th st R c w : Int) = (bb st th R (la st th R c.toNat).toNat) := by unfold aCam; (repeat' split) <;> first | rfl | omega
        rw [show BMod G qM st th (cmOf R) ac up li pg le spc pw ld (wr ss) sn tk ss sh dn pp ps (faOf wo lo be) (hbOf hb) tt (sh1 rf) mbt l23 o24 mwo mlo mbe mmk mms mwh = BMod G qM st th (cmOf R) ac up li pg le spc pw ld (wr ss) sn tk ss sh dn pp ps (faOf wo lo be) (hbOf hb) tt (sh1 (rfx rf (aCam th st R c w))) mbt l23 o24 mwo mlo mbe mmk mms mwh from congrArg (fun z_ : Nat → Int => BMod G qM st th (cmOf R) ac up li pg le spc pw ld (wr ss) sn tk ss sh dn pp ps (faOf wo lo be) (hbOf hb) tt z_ mbt l23 o24 mwo mlo mbe mmk mms mwh) (show (sh1 rf : Nat → Int) = (sh1 (rfx rf (aCam th st R c w))) from congrArg sh1 (by rw [hA_]; first | exact (rfx_1 (by omega)).symm | exact (rfx_0 (by omega)).symm))] at hP hD
        exact fin _ ⟨l23, o24⟩ H locs ls 75 dX9_camOf_75 hP hD hS (trivial) (⟨congrArg iI hA_.symm, trivial⟩)
    ·
      refine lv_aload_n hx hcd dX9_camOf_25 rfl (lv_at hl 1 rfl) ?_
      refine wi_bipush hx hcd dX9_camOf_26 (by decide) ?_
      refine cV_i (wc := [BMod G qM st th (cmOf R) ac up li pg le spc pw ld (wr ss) sn tk ss sh dn pp ps (faOf wo lo be) (hbOf hb) tt (sh1 rf) mbt mle mbo mwo mlo mbe mmk mms mwh]) (wr := []) (w1 := fun (_ : Unit) => [BMod G qM st th (cmOf R) ac up li pg le spc pw ld (wr ss) sn tk ss sh dn pp ps (faOf wo lo be) (hbOf hb) tt (sh1 (rfu rf (-2))) mbt mle mbo mwo mlo mbe mmk mms mwh]) (Bs1 := fun (_ : Unit) => [BMod G qM st th (cmOf R) ac up li pg le spc pw ld (wr ss) sn tk ss sh dn pp ps (faOf wo lo be) (hbOf hb) tt (sh1 (rfu rf (-2))) mbt mle mbo mwo mlo mbe mmk mms mwh]) (As := [.int (iI (-2))]) (rest := []) (kX9_refuse l D G qM st th R ac up li le pg spc pw ld sn tk ss sh dn pp ps wo lo be hb tt rf mbt mle mbo mwo mlo mbe mmk mms mwh (-2) (by first | assumption | omega)) rfl ⟨hx, hcd, hml, hown, hts⟩ (cwV 1 hts gX9_camOf_X9_refuse rfl rfl rfl (by decide +kernel) ⟨by decide, by decide⟩) (q0 := 0) (ci := 9) rfl rfl rfl rfl hl.1 (Nat.le_of_ble_eq_true rfl) ⟨Nat.le_of_ble_eq_true rfl, Nat.le_of_ble_eq_true rfl⟩ dX9_camOf_28 hK hP hD hS hA (perm_i2 [0] 1 rfl (by decide) rfl) (fun _ => perm_i2 [0] 1 rfl (by decide) rfl) (fun r u H locs hw9 hP hD hS => ?_)
      subst hw9
      have hA_ : (aCam th st R c w : Int) = (-2) := by unfold aCam; (repeat' split) <;> first | rfl | omega
      rw [show BMod G qM st th (cmOf R) ac up li pg le spc pw ld (wr ss) sn tk ss sh dn pp ps (faOf wo lo be) (hbOf hb) tt (sh1 (rfu rf (-2))) mbt mle mbo mwo mlo mbe mmk mms mwh = BMod G qM st th (cmOf R) ac up li pg le spc pw ld (wr ss) sn tk ss sh dn pp ps (faOf wo lo be) (hbOf hb) tt (sh1 (rfx rf (aCam th st R c w))) mbt mle mbo mwo mlo mbe mmk mms mwh from congrArg (fun z_ : Nat → Int => BMod G qM st th (cmOf R) ac up li pg le spc pw ld (wr ss) sn tk ss sh dn pp ps (faOf wo lo be) (hbOf hb) tt z_ mbt mle mbo mwo mlo mbe mmk mms mwh) (show (sh1 (rfu rf (-2)) : Nat → Int) = (sh1 (rfx rf (aCam th st R c w))) from congrArg sh1 (by rw [hA_]; first | exact (rfx_1 (by omega)).symm | exact (rfx_0 (by omega)).symm))] at hP hD
      exact fin _ ⟨mle, mbo⟩ H locs ls 31 dX9_camOf_31 hP hD hS (trivial) (⟨congrArg iI hA_.symm, trivial⟩)
  ·
    refine lv_aload_n hx hcd dX9_camOf_10 rfl (lv_at hl 1 rfl) ?_
    refine lv_iload_n hx hcd dX9_camOf_11 rfl (lv_at hl 0 rfl) ?_
    refine cV_i (wc := [BMod G qM st th (cmOf R) ac up li pg le spc pw ld (wr ss) sn tk ss sh dn pp ps (faOf wo lo be) (hbOf hb) tt (sh1 rf) mbt mle mbo mwo mlo mbe mmk mms mwh]) (wr := []) (w1 := fun (_ : Unit) => [BMod G qM st th (cmOf R) ac up li pg le spc pw ld (wr ss) sn tk ss sh dn pp ps (faOf wo lo be) (hbOf hb) tt (sh1 (rfu rf (rC th c))) mbt mle mbo mwo mlo mbe mmk mms mwh]) (Bs1 := fun (_ : Unit) => [BMod G qM st th (cmOf R) ac up li pg le spc pw ld (wr ss) sn tk ss sh dn pp ps (faOf wo lo be) (hbOf hb) tt (sh1 (rfu rf (rC th c))) mbt mle mbo mwo mlo mbe mmk mms mwh]) (As := [.int (iI (rC th c))]) (rest := []) (kX9_refuse l D G qM st th R ac up li le pg spc pw ld sn tk ss sh dn pp ps wo lo be hb tt rf mbt mle mbo mwo mlo mbe mmk mms mwh (rC th c) (by first | assumption | omega)) rfl ⟨hx, hcd, hml, hown, hts⟩ (cwV 1 hts gX9_camOf_X9_refuse rfl rfl rfl (by decide +kernel) ⟨by decide, by decide⟩) (q0 := 0) (ci := 9) rfl rfl rfl rfl hl.1 (Nat.le_of_ble_eq_true rfl) ⟨Nat.le_of_ble_eq_true rfl, Nat.le_of_ble_eq_true rfl⟩ dX9_camOf_12 hK hP hD hS hA (perm_i2 [0] 1 rfl (by decide) rfl) (fun _ => perm_i2 [0] 1 rfl (by decide) rfl) (fun r u H locs hw10 hP hD hS => ?_)
    subst hw10
    have hA_ : (aCam th st R c w : Int) = (rC th c) := by unfold aCam; (repeat' split) <;> first | rfl | omega
    rw [show BMod G qM st th (cmOf R) ac up li pg le spc pw ld (wr ss) sn tk ss sh dn pp ps (faOf wo lo be) (hbOf hb) tt (sh1 (rfu rf (rC th c))) mbt mle mbo mwo mlo mbe mmk mms mwh = BMod G qM st th (cmOf R) ac up li pg le spc pw ld (wr ss) sn tk ss sh dn pp ps (faOf wo lo be) (hbOf hb) tt (sh1 (rfx rf (aCam th st R c w))) mbt mle mbo mwo mlo mbe mmk mms mwh from congrArg (fun z_ : Nat → Int => BMod G qM st th (cmOf R) ac up li pg le spc pw ld (wr ss) sn tk ss sh dn pp ps (faOf wo lo be) (hbOf hb) tt z_ mbt mle mbo mwo mlo mbe mmk mms mwh) (show (sh1 (rfu rf (rC th c)) : Nat → Int) = (sh1 (rfx rf (aCam th st R c w))) from congrArg sh1 (by rw [hA_]; first | exact (rfx_1 (by omega)).symm | exact (rfx_0 (by omega)).symm))] at hP hD
    exact fin _ ⟨mle, mbo⟩ H locs ls 15 dX9_camOf_15 hP hD hS (trivial) (⟨congrArg iI hA_.symm, trivial⟩)
