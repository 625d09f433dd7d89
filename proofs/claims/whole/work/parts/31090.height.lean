abbrev rmX9_height : Room := { frames := 3, cells := 0, slots := 0, locals := 63 }
set_option maxHeartbeats 4000000 in
set_option maxRecDepth 100000 in
theorem kX9_height (l : Launch) (D : va_G) (G : Nat → ClassId) (qM : Nat → Nat) (st : Int) (th : Nat → Int) (R : Nat → Nat → Int) (ac : Nat → Int) (up : Nat → Int) (li : Nat → Int) (le : Nat → Int) (pg : Int) (spc : Int) (pw : Int) (ld : Int) (sn : Int) (tk : Int) (ss : Int) (sh : Int) (dn : Int) (pp : Nat → Int) (ps : Nat → Int) (wo : Int) (lo : Int) (be : Int) (hb : Nat → Nat → Int) (tt : Nat → Int) (rf : Nat → Int) (mbt : Nat → Int) (mle : Nat → Int) (mbo : Nat → Int) (mwo : Int) (mlo : Int) (mbe : Int) (mmk : Nat → Int) (mms : Nat → Int) (mwh : Int) (c : Int) (t : Int) (hst : 2 ≤ st ∧ st ≤ 16) (hth : ∀ k, th k = 0 ∨ th k = 1) (hR : ∀ i j, 0 ≤ R i j ∧ R i j ≤ 9) (hac : ∀ k, 0 ≤ ac k ∧ ac k ≤ 11) (hup : ∀ k, 0 ≤ up k ∧ up k ≤ 11) (hli : ∀ k, 0 ≤ li k ∧ li k ≤ 11) (hle : ∀ k, 0 ≤ le k ∧ le k ≤ 9) (hpg : 0 ≤ pg ∧ pg ≤ 12) (hsp : 0 ≤ spc ∧ spc ≤ 9) (hpw : 0 ≤ pw ∧ pw ≤ 1000) (hld : 1 ≤ ld ∧ ld ≤ 20) (hss : 0 ≤ ss ∧ ss < 900000) (hpq : ∀ k, -1 ≤ pp k ∧ pp k ≤ 99 ∧ -1 ≤ ps k ∧ ps k ≤ 99 ∧ (0 ≤ pp k → 0 ≤ ps k)) (hwo : -1 ≤ wo ∧ wo ≤ 11) (hlo : -1 ≤ lo ∧ lo ≤ 11) (hbe : -1 ≤ be ∧ be ≤ 1) (hhb : ∀ i j, 0 ≤ hb i j ∧ hb i j ≤ 1000) (htt : ∀ k, 0 ≤ tt k ∧ tt k ≤ 1000) (hc_ : -2147483648 ≤ c ∧ c < 2147483648) (ht_ : -2147483648 ≤ t ∧ t < 2147483648) : CtI l yX9_height wsX9_height rmX9_height D G [.ref (qM 0), .int (iI c), .int (iI t)] [BMod G qM st th (cmOf R) ac up li pg le spc pw ld (wr ss) sn tk ss sh dn pp ps (faOf wo lo be) (hbOf hb) tt (sh1 rf) mbt mle mbo mwo mlo mbe mmk mms mwh] (fun (r : Int32) (_ : Unit) => r = iI (if rS th st c t = 0 then R c.toNat t.toNat else rS th st c t)) (fun _ => [BMod G qM st th (cmOf R) ac up li pg le spc pw ld (wr ss) sn tk ss sh dn pp ps (faOf wo lo be) (hbOf hb) tt (sh1 (rfx rf (if rS th st c t = 0 then R c.toNat t.toNat else rS th st c t))) mbt mle mbo mwo mlo mbe mmk mms mwh]) := by
  refine CtI.ofI (cc := cX9_height) (maxL := 4) (by decide) rfl (Nat.le_of_ble_eq_true rfl) ?_
  intro p0 e0 s0 m0 args bel met cd A0 ls Q0 hx hcd hml hown hts hK hP hD hA hl fin
  have hl : lv_has ls 4 [(0, .ref (qM 0)), (1, .int (iI c)), (2, .int (iI t))] := hl
  have hS : va_S A0 s0.heap s0.heap [] := va_S.rf
  have hH : va_P D vwCl (fl [BMod G qM st th (cmOf R) ac up li pg le spc pw ld (wr ss) sn tk ss sh dn pp ps (faOf wo lo be) (hbOf hb) tt (sh1 rf) mbt mle mbo mwo mlo mbe mmk mms mwh]) s0.heap := hP
  obtain ⟨H, eH⟩ : ∃ H, H = s0.heap := ⟨_, rfl⟩
  obtain ⟨locs, eL⟩ : ∃ locs : List Loc, locs = [] := ⟨_, rfl⟩
  have hS : va_S A0 s0.heap H locs := by rw [eH, eL]; exact hS
  have hP : va_P D vwCl (fl [BMod G qM st th (cmOf R) ac up li pg le spc pw ld (wr ss) sn tk ss sh dn pp ps (faOf wo lo be) (hbOf hb) tt (sh1 rf) mbt mle mbo mwo mlo mbe mmk mms mwh]) H := by rw [eH]; exact hP
  suffices goal : W p0 l e0 rmX9_height s0 m0 args bel met cd H locs 0 0 Q0 (F0 m0 0 ls []) by rw [eH, eL] at goal; exact goal
  clear eH eL hH
  have hrc := rC_rng th c
  have hrs := rS_rng th st c t
  refine lv_aload_n hx hcd dX9_height_0 rfl (lv_at hl 0 rfl) ?_
  refine lv_iload_n hx hcd dX9_height_1 rfl (lv_at hl 1 rfl) ?_
  refine cV_i (wc := [BMod G qM st th (cmOf R) ac up li pg le spc pw ld (wr ss) sn tk ss sh dn pp ps (faOf wo lo be) (hbOf hb) tt (sh1 rf) mbt mle mbo mwo mlo mbe mmk mms mwh]) (wr := []) (w1 := fun (_ : Unit) => [BMod G qM st th (cmOf R) ac up li pg le spc pw ld (wr ss) sn tk ss sh dn pp ps (faOf wo lo be) (hbOf hb) tt (sh1 rf) mbt mle mbo mwo mlo mbe mmk mms mwh]) (Bs1 := fun (_ : Unit) => [BMod G qM st th (cmOf R) ac up li pg le spc pw ld (wr ss) sn tk ss sh dn pp ps (faOf wo lo be) (hbOf hb) tt (sh1 rf) mbt mle mbo mwo mlo mbe mmk mms mwh]) (As := [.int (iI c)]) (rest := []) (kX9_lacks l D G qM st th R ac up li le pg spc pw ld sn tk ss sh dn pp ps wo lo be hb tt rf mbt mle mbo mwo mlo mbe mmk mms mwh c (by first | assumption | omega) (by first | assumption | omega)) rfl ⟨hx, hcd, hml, hown, hts⟩ (cwV 1 hts gX9_height_X9_lacks rfl rfl rfl (by decide +kernel) ⟨by decide, by decide⟩) (q0 := 0) (ci := 9) rfl rfl rfl rfl hl.1 (Nat.le_of_ble_eq_true rfl) ⟨Nat.le_of_ble_eq_true rfl, Nat.le_of_ble_eq_true rfl⟩ dX9_height_2 hK hP hD hS hA (perm_i2 [0] 1 rfl (by decide) rfl) (fun _ => perm_i2 [0] 1 rfl (by decide) rfl) (fun r u H locs hw1 hP hD hS => ?_)
  subst hw1
  refine lv_istore_n (lv' := [(3, .int (iI (rC th c))), (0, .ref (qM 0)), (1, .int (iI c)), (2, .int (iI t))]) hx hcd dX9_height_5 rfl hl (by decide) rfl (fun ls hl => ?_)
  refine lv_iload_n hx hcd dX9_height_6 rfl (lv_at hl 0 rfl) ?_
  refine wi_if_ge (tgt := 16) hx hcd (by omega) dX9_height_7 (by decide) (fun c7 => ?_) (fun c7 => ?_)
  ·
    refine lv_iload_n hx hcd dX9_height_16 rfl (lv_at hl 3 rfl) ?_
    refine wi_iconst hx hcd dX9_height_17 ?_
    refine lv_aload_n hx hcd dX9_height_18 rfl (lv_at hl 1 rfl) ?_
    refine g_get (C := RX9) (T := TX9) (N := 32) hx hcd hts (fun _ h => List.mem_cons_of_mem _ (List.mem_append_right _ h)) hown hK hP (i := 0) rfl BMod_c0 rfl 0 (by decide) (by decide +kernel) rfl dX9_height_19 ?_
    refine wi_iconst hx hcd dX9_height_22 ?_
    refine wi_isub hx hcd dX9_height_23 ?_
    refine cS_i (wc := []) (wr := [BMod G qM st th (cmOf R) ac up li pg le spc pw ld (wr ss) sn tk ss sh dn pp ps (faOf wo lo be) (hbOf hb) tt (sh1 rf) mbt mle mbo mwo mlo mbe mmk mms mwh]) (w1 := fun (_ : Unit) => []) (Bs1 := fun (_ : Unit) => [BMod G qM st th (cmOf R) ac up li pg le spc pw ld (wr ss) sn tk ss sh dn pp ps (faOf wo lo be) (hbOf hb) tt (sh1 rf) mbt mle mbo mwo mlo mbe mmk mms mwh]) (As := [.int (iI t), .int (iI 0), .int (iI (st - 1))]) (rest := []) (kX9_in l D G t 0 (st - 1) (by first | assumption | omega) (by first | assumption | omega) (by first | assumption | omega)) rfl ⟨hx, hcd, hml, hown, hts⟩ (va_cwS 3 hts gX9_height_X9_in rfl rfl rfl (by decide +kernel) ⟨by decide, by decide⟩) rfl hl.1 (Nat.le_of_ble_eq_true rfl) ⟨Nat.le_of_ble_eq_true rfl, Nat.le_of_ble_eq_true rfl⟩ dX9_height_24 hK hP hD hS hA (perm_i2 [0] 1 rfl (by decide) rfl) (fun _ => perm_i2 [0] 1 rfl (by decide) rfl) (fun r u H locs hw2 hP hD hS => ?_)
    subst hw2
    have hin785 := if01 (0 ≤ t ∧ t ≤ st - 1)
    refine wi_if_eq (tgt := 44) hx hcd (by omega) dX9_height_27 (by decide) (fun c27 => ?_) (fun c27 => ?_)
    ·
      refine lv_aload_n hx hcd dX9_height_44 rfl (lv_at hl 1 rfl) ?_
      refine wi_bipush hx hcd dX9_height_45 (by decide) ?_
      refine cV_i (wc := [BMod G qM st th (cmOf R) ac up li pg le spc pw ld (wr ss) sn tk ss sh dn pp ps (faOf wo lo be) (hbOf hb) tt (sh1 rf) mbt mle mbo mwo mlo mbe mmk mms mwh]) (wr := []) (w1 := fun (_ : Unit) => [BMod G qM st th (cmOf R) ac up li pg le spc pw ld (wr ss) sn tk ss sh dn pp ps (faOf wo lo be) (hbOf hb) tt (sh1 (rfu rf (-7))) mbt mle mbo mwo mlo mbe mmk mms mwh]) (Bs1 := fun (_ : Unit) => [BMod G qM st th (cmOf R) ac up li pg le spc pw ld (wr ss) sn tk ss sh dn pp ps (faOf wo lo be) (hbOf hb) tt (sh1 (rfu rf (-7))) mbt mle mbo mwo mlo mbe mmk mms mwh]) (As := [.int (iI (-7))]) (rest := []) (kX9_refuse l D G qM st th R ac up li le pg spc pw ld sn tk ss sh dn pp ps wo lo be hb tt rf mbt mle mbo mwo mlo mbe mmk mms mwh (-7) (by first | assumption | omega)) rfl ⟨hx, hcd, hml, hown, hts⟩ (cwV 1 hts gX9_height_X9_refuse rfl rfl rfl (by decide +kernel) ⟨by decide, by decide⟩) (q0 := 0) (ci := 9) rfl rfl rfl rfl hl.1 (Nat.le_of_ble_eq_true rfl) ⟨Nat.le_of_ble_eq_true rfl, Nat.le_of_ble_eq_true rfl⟩ dX9_height_47 hK hP hD hS hA (perm_i2 [0] 1 rfl (by decide) rfl) (fun _ => perm_i2 [0] 1 rfl (by decide) rfl) (fun r u H locs hw3 hP hD hS => ?_)
      subst hw3
      have hA_ : (if rS th st c t = 0 then R c.toNat t.toNat else rS th st c t : Int) = (-7) := by first | rfl | ((repeat' split) <;> first | rfl | omega)
      rw [show BMod G qM st th (cmOf R) ac up li pg le spc pw ld (wr ss) sn tk ss sh dn pp ps (faOf wo lo be) (hbOf hb) tt (sh1 (rfu rf (-7))) mbt mle mbo mwo mlo mbe mmk mms mwh = BMod G qM st th (cmOf R) ac up li pg le spc pw ld (wr ss) sn tk ss sh dn pp ps (faOf wo lo be) (hbOf hb) tt (sh1 (rfx rf (if rS th st c t = 0 then R c.toNat t.toNat else rS th st c t))) mbt mle mbo mwo mlo mbe mmk mms mwh from congrArg (fun z_ : Nat → Int => BMod G qM st th (cmOf R) ac up li pg le spc pw ld (wr ss) sn tk ss sh dn pp ps (faOf wo lo be) (hbOf hb) tt z_ mbt mle mbo mwo mlo mbe mmk mms mwh) (show (sh1 (rfu rf (-7)) : Nat → Int) = (sh1 (rfx rf (if rS th st c t = 0 then R c.toNat t.toNat else rS th st c t))) from congrArg sh1 (by rw [hA_]; first | exact (rfx_1 (by omega)).symm | exact (rfx_0 (by omega)).symm))] at hP hD
      exact fin _ () H locs ls 50 dX9_height_50 hP hD hS (trivial) (congrArg iI hA_.symm)
    ·
      refine lv_aload_n hx hcd dX9_height_30 rfl (lv_at hl 1 rfl) ?_
      refine g_get (C := RX9) (T := TX9) (N := 32) hx hcd hts (fun _ h => List.mem_cons_of_mem _ (List.mem_append_right _ h)) hown hK hP (i := 0) rfl BMod_c0 rfl 2 (by decide) (by decide +kernel) rfl dX9_height_31 ?_
      refine wi_bipush hx hcd dX9_height_34 (by decide) ?_
      refine lv_iload_n hx hcd dX9_height_36 rfl (lv_at hl 2 rfl) ?_
      refine wi_imul hx hcd dX9_height_37 ?_
      refine lv_iload_n hx hcd dX9_height_38 rfl (lv_at hl 3 rfl) ?_
      refine wi_iadd hx hcd dX9_height_39 ?_
      refine g_iald hx hcd hK hP (i := 0) rfl BMod_c2 (by omega) (by decide) dX9_height_40 ?_
      rw [show ((cmOf R) (((16 * c) + t).toNat) : Int) = R c.toNat t.toNat from cm_at (c := c) (t := t) (by omega) (by omega)]
      have f4 := hR c.toNat t.toNat
      refine lv_goto (tgt := 50) hx hcd dX9_height_41 (by decide) ?_
      have hA_ : (if rS th st c t = 0 then R c.toNat t.toNat else rS th st c t : Int) = (R c.toNat t.toNat) := by first | rfl | ((repeat' split) <;> first | rfl | omega)
      rw [show BMod G qM st th (cmOf R) ac up li pg le spc pw ld (wr ss) sn tk ss sh dn pp ps (faOf wo lo be) (hbOf hb) tt (sh1 rf) mbt mle mbo mwo mlo mbe mmk mms mwh = BMod G qM st th (cmOf R) ac up li pg le spc pw ld (wr ss) sn tk ss sh dn pp ps (faOf wo lo be) (hbOf hb) tt (sh1 (rfx rf (if rS th st c t = 0 then R c.toNat t.toNat else rS th st c t))) mbt mle mbo mwo mlo mbe mmk mms mwh from congrArg (fun z_ : Nat → Int => BMod G qM st th (cmOf R) ac up li pg le spc pw ld (wr ss) sn tk ss sh dn pp ps (faOf wo lo be) (hbOf hb) tt z_ mbt mle mbo mwo mlo mbe mmk mms mwh) (show (sh1 rf : Nat → Int) = (sh1 (rfx rf (if rS th st c t = 0 then R c.toNat t.toNat else rS th st c t))) from congrArg sh1 (by rw [hA_]; first | exact (rfx_1 (by omega)).symm | exact (rfx_0 (by omega)).symm))] at hP hD
      exact fin _ () H locs ls 50 dX9_height_50 hP hD hS (trivial) (congrArg iI hA_.symm)
  ·
    refine lv_aload_n hx hcd dX9_height_10 rfl (lv_at hl 1 rfl) ?_
    refine lv_iload_n hx hcd dX9_height_11 rfl (lv_at hl 0 rfl) ?_
    refine cV_i (wc := [BMod G qM st th (cmOf R) ac up li pg le spc pw ld (wr ss) sn tk ss sh dn pp ps (faOf wo lo be) (hbOf hb) tt (sh1 rf) mbt mle mbo mwo mlo mbe mmk mms mwh]) (wr := []) (w1 := fun (_ : Unit) => [BMod G qM st th (cmOf R) ac up li pg le spc pw ld (wr ss) sn tk ss sh dn pp ps (faOf wo lo be) (hbOf hb) tt (sh1 (rfu rf (rC th c))) mbt mle mbo mwo mlo mbe mmk mms mwh]) (Bs1 := fun (_ : Unit) => [BMod G qM st th (cmOf R) ac up li pg le spc pw ld (wr ss) sn tk ss sh dn pp ps (faOf wo lo be) (hbOf hb) tt (sh1 (rfu rf (rC th c))) mbt mle mbo mwo mlo mbe mmk mms mwh]) (As := [.int (iI (rC th c))]) (rest := []) (kX9_refuse l D G qM st th R ac up li le pg spc pw ld sn tk ss sh dn pp ps wo lo be hb tt rf mbt mle mbo mwo mlo mbe mmk mms mwh (rC th c) (by first | assumption | omega)) rfl ⟨hx, hcd, hml, hown, hts⟩ (cwV 1 hts gX9_height_X9_refuse rfl rfl rfl (by decide +kernel) ⟨by decide, by decide⟩) (q0 := 0) (ci := 9) rfl rfl rfl rfl hl.1 (Nat.le_of_ble_eq_true rfl) ⟨Nat.le_of_ble_eq_true rfl, Nat.le_of_ble_eq_true rfl⟩ dX9_height_12 hK hP hD hS hA (perm_i2 [0] 1 rfl (by decide) rfl) (fun _ => perm_i2 [0] 1 rfl (by decide) rfl) (fun r u H locs hw5 hP hD hS => ?_)
    subst hw5
    have hA_ : (if rS th st c t = 0 then R c.toNat t.toNat else rS th st c t : Int) = (rC th c) := by first | rfl | ((repeat' split) <;> first | rfl | omega)
    rw [show BMod G qM st th (cmOf R) ac up li pg le spc pw ld (wr ss) sn tk ss sh dn pp ps (faOf wo lo be) (hbOf hb) tt (sh1 (rfu rf (rC th c))) mbt mle mbo mwo mlo mbe mmk mms mwh = BMod G qM st th (cmOf R) ac up li pg le spc pw ld (wr ss) sn tk ss sh dn pp ps (faOf wo lo be) (hbOf hb) tt (sh1 (rfx rf (if rS th st c t = 0 then R c.toNat t.toNat else rS th st c t))) mbt mle mbo mwo mlo mbe mmk mms mwh from congrArg (fun z_ : Nat → Int => BMod G qM st th (cmOf R) ac up li pg le spc pw ld (wr ss) sn tk ss sh dn pp ps (faOf wo lo be) (hbOf hb) tt z_ mbt mle mbo mwo mlo mbe mmk mms mwh) (show (sh1 (rfu rf (rC th c)) : Nat → Int) = (sh1 (rfx rf (if rS th st c t = 0 then R c.toNat t.toNat else rS th st c t))) from congrArg sh1 (by rw [hA_]; first | exact (rfx_1 (by omega)).symm | exact (rfx_0 (by omega)).symm))] at hP hD
    exact fin _ () H locs ls 15 dX9_height_15 hP hD hS (trivial) (congrArg iI hA_.symm)
