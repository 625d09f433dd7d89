abbrev rmX9_first : Room := { frames := 2, cells := 0, slots := 0, locals := 43 }
set_option maxHeartbeats 4000000 in
set_option maxRecDepth 100000 in
theorem kX9_first (l : Launch) (D : va_G) (G : Nat → ClassId) (qM : Nat → Nat) (st : Int) (th : Nat → Int) (R : Nat → Nat → Int) (ac : Nat → Int) (up : Nat → Int) (li : Nat → Int) (le : Nat → Int) (pg : Int) (spc : Int) (pw : Int) (ld : Int) (sn : Int) (tk : Int) (ss : Int) (sh : Int) (dn : Int) (pp : Nat → Int) (ps : Nat → Int) (wo : Int) (lo : Int) (be : Int) (hb : Nat → Nat → Int) (tt : Nat → Int) (rf : Nat → Int) (mbt : Nat → Int) (mle : Nat → Int) (mbo : Nat → Int) (mwo : Int) (mlo : Int) (mbe : Int) (mmk : Nat → Int) (mms : Nat → Int) (mwh : Int) (x : Int) (yy : Int) (w : Int) (hst : 2 ≤ st ∧ st ≤ 16) (hth : ∀ k, th k = 0 ∨ th k = 1) (hR : ∀ i j, 0 ≤ R i j ∧ R i j ≤ 9) (hac : ∀ k, 0 ≤ ac k ∧ ac k ≤ 11) (hup : ∀ k, 0 ≤ up k ∧ up k ≤ 11) (hli : ∀ k, 0 ≤ li k ∧ li k ≤ 11) (hle : ∀ k, 0 ≤ le k ∧ le k ≤ 9) (hpg : 0 ≤ pg ∧ pg ≤ 12) (hsp : 0 ≤ spc ∧ spc ≤ 9) (hpw : 0 ≤ pw ∧ pw ≤ 1000) (hld : 1 ≤ ld ∧ ld ≤ 20) (hss : 0 ≤ ss ∧ ss < 900000) (hpq : ∀ k, -1 ≤ pp k ∧ pp k ≤ 99 ∧ -1 ≤ ps k ∧ ps k ≤ 99 ∧ (0 ≤ pp k → 0 ≤ ps k)) (hwo : -1 ≤ wo ∧ wo ≤ 11) (hlo : -1 ≤ lo ∧ lo ≤ 11) (hbe : -1 ≤ be ∧ be ≤ 1) (hhb : ∀ i j, 0 ≤ hb i j ∧ hb i j ≤ 1000) (htt : ∀ k, 0 ≤ tt k ∧ tt k ≤ 1000) (hx_ : -2147483648 ≤ x ∧ x < 2147483648) (hyy_ : -2147483648 ≤ yy ∧ yy < 2147483648) (hw_ : -2147483648 ≤ w ∧ w < 2147483648) : CtI l yX9_first wsX9_first rmX9_first D G [.ref (qM 0), .int (iI x), .int (iI yy), .int (iI w)] [BMod G qM st th (cmOf R) ac up li pg le spc pw ld (wr ss) sn tk ss sh dn pp ps (faOf wo lo be) (hbOf hb) tt (sh1 rf) mbt mle mbo mwo mlo mbe mmk mms mwh] (fun (r : Int32) (_ : Unit) => r = iI (if plc x yy then (if w = 0 ∨ w = 1 then (if 0 ≤ pp (cM x yy) then (if w = 0 then pp (cM x yy) else ps (cM x yy)) else -9) else -2) else -1)) (fun _ => [BMod G qM st th (cmOf R) ac up li pg le spc pw ld (wr ss) sn tk ss sh dn pp ps (faOf wo lo be) (hbOf hb) tt (sh1 (rfx rf (if plc x yy then (if w = 0 ∨ w = 1 then (if 0 ≤ pp (cM x yy) then (if w = 0 then pp (cM x yy) else ps (cM x yy)) else -9) else -2) else -1))) mbt mle mbo mwo mlo mbe mmk mms mwh]) := by
  refine CtI.ofI (cc := cX9_first) (maxL := 5) (by decide) rfl (Nat.le_of_ble_eq_true rfl) ?_
  intro p0 e0 s0 m0 args bel met cd A0 ls Q0 hx hcd hml hown hts hK hP hD hA hl fin
  have hl : lv_has ls 5 [(0, .ref (qM 0)), (1, .int (iI x)), (2, .int (iI yy)), (3, .int (iI w))] := hl
  have hS : va_S A0 s0.heap s0.heap [] := va_S.rf
  have hH : va_P D vwCl (fl [BMod G qM st th (cmOf R) ac up li pg le spc pw ld (wr ss) sn tk ss sh dn pp ps (faOf wo lo be) (hbOf hb) tt (sh1 rf) mbt mle mbo mwo mlo mbe mmk mms mwh]) s0.heap := hP
  obtain ⟨H, eH⟩ : ∃ H, H = s0.heap := ⟨_, rfl⟩
  obtain ⟨locs, eL⟩ : ∃ locs : List Loc, locs = [] := ⟨_, rfl⟩
  have hS : va_S A0 s0.heap H locs := by rw [eH, eL]; exact hS
  have hP : va_P D vwCl (fl [BMod G qM st th (cmOf R) ac up li pg le spc pw ld (wr ss) sn tk ss sh dn pp ps (faOf wo lo be) (hbOf hb) tt (sh1 rf) mbt mle mbo mwo mlo mbe mmk mms mwh]) H := by rw [eH]; exact hP
  suffices goal : W p0 l e0 rmX9_first s0 m0 args bel met cd H locs 0 0 Q0 (F0 m0 0 ls []) by rw [eH, eL] at goal; exact goal
  clear eH eL hH
  refine lv_iload_n hx hcd dX9_first_0 rfl (lv_at hl 1 rfl) ?_
  refine lv_iload_n hx hcd dX9_first_1 rfl (lv_at hl 2 rfl) ?_
  refine cS_i (wc := []) (wr := [BMod G qM st th (cmOf R) ac up li pg le spc pw ld (wr ss) sn tk ss sh dn pp ps (faOf wo lo be) (hbOf hb) tt (sh1 rf) mbt mle mbo mwo mlo mbe mmk mms mwh]) (w1 := fun (_ : Unit) => []) (Bs1 := fun (_ : Unit) => [BMod G qM st th (cmOf R) ac up li pg le spc pw ld (wr ss) sn tk ss sh dn pp ps (faOf wo lo be) (hbOf hb) tt (sh1 rf) mbt mle mbo mwo mlo mbe mmk mms mwh]) (As := [.int (iI x), .int (iI yy)]) (rest := []) (kX9_isCell l D G x yy (by first | assumption | omega) (by first | assumption | omega)) rfl ⟨hx, hcd, hml, hown, hts⟩ (va_cwS 2 hts gX9_first_X9_isCell rfl rfl rfl (by decide +kernel) ⟨by decide, by decide⟩) rfl hl.1 (Nat.le_of_ble_eq_true rfl) ⟨Nat.le_of_ble_eq_true rfl, Nat.le_of_ble_eq_true rfl⟩ dX9_first_2 hK hP hD hS hA (perm_i2 [0] 1 rfl (by decide) rfl) (fun _ => perm_i2 [0] 1 rfl (by decide) rfl) (fun r u H locs hw1 hP hD hS => ?_)
  subst hw1
  have hpl := if01 (plc x yy)
  have hcm1 : pp (cM x yy) = pp ((10 * x) + yy).toNat := rfl
  have hcm2 : ps (cM x yy) = ps ((10 * x) + yy).toNat := rfl
  refine wi_if_ne (tgt := 14) hx hcd (by omega) dX9_first_5 (by decide) (fun c5 => ?_) (fun c5 => ?_)
  ·
    refine lv_iload_n hx hcd dX9_first_14 rfl (lv_at hl 3 rfl) ?_
    refine wi_iconst hx hcd dX9_first_15 ?_
    refine wi_iconst hx hcd dX9_first_16 ?_
    refine cS_i (wc := []) (wr := [BMod G qM st th (cmOf R) ac up li pg le spc pw ld (wr ss) sn tk ss sh dn pp ps (faOf wo lo be) (hbOf hb) tt (sh1 rf) mbt mle mbo mwo mlo mbe mmk mms mwh]) (w1 := fun (_ : Unit) => []) (Bs1 := fun (_ : Unit) => [BMod G qM st th (cmOf R) ac up li pg le spc pw ld (wr ss) sn tk ss sh dn pp ps (faOf wo lo be) (hbOf hb) tt (sh1 rf) mbt mle mbo mwo mlo mbe mmk mms mwh]) (As := [.int (iI w), .int (iI 0), .int (iI 1)]) (rest := []) (kX9_in l D G w 0 1 (by first | assumption | omega) (by first | assumption | omega) (by first | assumption | omega)) rfl ⟨hx, hcd, hml, hown, hts⟩ (va_cwS 3 hts gX9_first_X9_in rfl rfl rfl (by decide +kernel) ⟨by decide, by decide⟩) rfl hl.1 (Nat.le_of_ble_eq_true rfl) ⟨Nat.le_of_ble_eq_true rfl, Nat.le_of_ble_eq_true rfl⟩ dX9_first_17 hK hP hD hS hA (perm_i2 [0] 1 rfl (by decide) rfl) (fun _ => perm_i2 [0] 1 rfl (by decide) rfl) (fun r u H locs hw2 hP hD hS => ?_)
    subst hw2
    have hin567 := if01 (0 ≤ w ∧ w ≤ 1)
    refine wi_if_ne (tgt := 30) hx hcd (by omega) dX9_first_20 (by decide) (fun c20 => ?_) (fun c20 => ?_)
    ·
      refine wi_bipush hx hcd dX9_first_30 (by decide) ?_
      refine lv_iload_n hx hcd dX9_first_32 rfl (lv_at hl 1 rfl) ?_
      refine wi_imul hx hcd dX9_first_33 ?_
      refine lv_iload_n hx hcd dX9_first_34 rfl (lv_at hl 2 rfl) ?_
      refine wi_iadd hx hcd dX9_first_35 ?_
      refine lv_istore (lv' := [(4, .int (iI ((10 * x) + yy))), (0, .ref (qM 0)), (1, .int (iI x)), (2, .int (iI yy)), (3, .int (iI w))]) hx hcd dX9_first_36 hl (by decide) rfl (fun ls hl => ?_)
      refine lv_aload_n hx hcd dX9_first_38 rfl (lv_at hl 1 rfl) ?_
      refine g_get (C := RX9) (T := TX9) (N := 32) hx hcd hts (fun _ h => List.mem_cons_of_mem _ (List.mem_append_right _ h)) hown hK hP (i := 0) rfl BMod_c0 rfl 17 (by decide) (by decide +kernel) rfl dX9_first_39 ?_
      refine lv_iload hx hcd dX9_first_42 (lv_at hl 0 rfl) ?_
      refine g_iald hx hcd hK hP (i := 0) rfl BMod_c7 (by omega) (by decide) dX9_first_44 ?_
      have f3 := hpq (((10 * x) + yy).toNat)
      refine wi_if_ge (tgt := 53) hx hcd (by omega) dX9_first_45 (by decide) (fun c45 => ?_) (fun c45 => ?_)
      ·
        refine lv_iload_n hx hcd dX9_first_53 rfl (lv_at hl 4 rfl) ?_
        refine wi_if_ne (tgt := 67) hx hcd (by omega) dX9_first_54 (by decide) (fun c54 => ?_) (fun c54 => ?_)
        ·
          refine lv_aload_n hx hcd dX9_first_67 rfl (lv_at hl 1 rfl) ?_
          refine g_get (C := RX9) (T := TX9) (N := 32) hx hcd hts (fun _ h => List.mem_cons_of_mem _ (List.mem_append_right _ h)) hown hK hP (i := 0) rfl BMod_c0 rfl 18 (by decide) (by decide +kernel) rfl dX9_first_68 ?_
          refine lv_iload hx hcd dX9_first_71 (lv_at hl 0 rfl) ?_
          refine g_iald hx hcd hK hP (i := 0) rfl BMod_c8 (by omega) (by decide) dX9_first_73 ?_
          have f4 := hpq (((10 * x) + yy).toNat)
          have hA_ : (if plc x yy then (if w = 0 ∨ w = 1 then (if 0 ≤ pp (cM x yy) then (if w = 0 then pp (cM x yy) else ps (cM x yy)) else -9) else -2) else -1 : Int) = (ps (((10 * x) + yy).toNat)) := by first | rfl | ((repeat' split) <;> first | rfl | omega)
          rw [show BMod G qM st th (cmOf R) ac up li pg le spc pw ld (wr ss) sn tk ss sh dn pp ps (faOf wo lo be) (hbOf hb) tt (sh1 rf) mbt mle mbo mwo mlo mbe mmk mms mwh = BMod G qM st th (cmOf R) ac up li pg le spc pw ld (wr ss) sn tk ss sh dn pp ps (faOf wo lo be) (hbOf hb) tt (sh1 (rfx rf (if plc x yy then (if w = 0 ∨ w = 1 then (if 0 ≤ pp (cM x yy) then (if w = 0 then pp (cM x yy) else ps (cM x yy)) else -9) else -2) else -1))) mbt mle mbo mwo mlo mbe mmk mms mwh from congrArg (fun z_ : Nat → Int => BMod G qM st th (cmOf R) ac up li pg le spc pw ld (wr ss) sn tk ss sh dn pp ps (faOf wo lo be) (hbOf hb) tt z_ mbt mle mbo mwo mlo mbe mmk mms mwh) (show (sh1 rf : Nat → Int) = (sh1 (rfx rf (if plc x yy then (if w = 0 ∨ w = 1 then (if 0 ≤ pp (cM x yy) then (if w = 0 then pp (cM x yy) else ps (cM x yy)) else -9) else -2) else -1))) from congrArg sh1 (by rw [hA_]; first | exact (rfx_1 (by omega)).symm | exact (rfx_0 (by omega)).symm))] at hP hD
          exact fin _ () H locs ls 74 dX9_first_74 hP hD hS (trivial) (congrArg iI hA_.symm)
        ·
          refine lv_aload_n hx hcd dX9_first_57 rfl (lv_at hl 1 rfl) ?_
          refine g_get (C := RX9) (T := TX9) (N := 32) hx hcd hts (fun _ h => List.mem_cons_of_mem _ (List.mem_append_right _ h)) hown hK hP (i := 0) rfl BMod_c0 rfl 17 (by decide) (by decide +kernel) rfl dX9_first_58 ?_
          refine lv_iload hx hcd dX9_first_61 (lv_at hl 0 rfl) ?_
          refine g_iald hx hcd hK hP (i := 0) rfl BMod_c7 (by omega) (by decide) dX9_first_63 ?_
          have f5 := hpq (((10 * x) + yy).toNat)
          refine lv_goto (tgt := 74) hx hcd dX9_first_64 (by decide) ?_
          have hA_ : (if plc x yy then (if w = 0 ∨ w = 1 then (if 0 ≤ pp (cM x yy) then (if w = 0 then pp (cM x yy) else ps (cM x yy)) else -9) else -2) else -1 : Int) = (pp (((10 * x) + yy).toNat)) := by first | rfl | ((repeat' split) <;> first | rfl | omega)
          rw [show BMod G qM st th (cmOf R) ac up li pg le spc pw ld (wr ss) sn tk ss sh dn pp ps (faOf wo lo be) (hbOf hb) tt (sh1 rf) mbt mle mbo mwo mlo mbe mmk mms mwh = BMod G qM st th (cmOf R) ac up li pg le spc pw ld (wr ss) sn tk ss sh dn pp ps (faOf wo lo be) (hbOf hb) tt (sh1 (rfx rf (if plc x yy then (if w = 0 ∨ w = 1 then (if 0 ≤ pp (cM x yy) then (if w = 0 then pp (cM x yy) else ps (cM x yy)) else -9) else -2) else -1))) mbt mle mbo mwo mlo mbe mmk mms mwh from congrArg (fun z_ : Nat → Int => BMod G qM st th (cmOf R) ac up li pg le spc pw ld (wr ss) sn tk ss sh dn pp ps (faOf wo lo be) (hbOf hb) tt z_ mbt mle mbo mwo mlo mbe mmk mms mwh) (show (sh1 rf : Nat → Int) = (sh1 (rfx rf (if plc x yy then (if w = 0 ∨ w = 1 then (if 0 ≤ pp (cM x yy) then (if w = 0 then pp (cM x yy) else ps (cM x yy)) else -9) else -2) else -1))) from congrArg sh1 (by rw [hA_]; first | exact (rfx_1 (by omega)).symm | exact (rfx_0 (by omega)).symm))] at hP hD
          exact fin _ () H locs ls 74 dX9_first_74 hP hD hS (trivial) (congrArg iI hA_.symm)
      ·
        refine wi_bipush hx hcd dX9_first_48 (by decide) ?_
        refine lv_goto (tgt := 74) hx hcd dX9_first_50 (by decide) ?_
        have hA_ : (if plc x yy then (if w = 0 ∨ w = 1 then (if 0 ≤ pp (cM x yy) then (if w = 0 then pp (cM x yy) else ps (cM x yy)) else -9) else -2) else -1 : Int) = (-9) := by first | rfl | ((repeat' split) <;> first | rfl | omega)
        rw [show BMod G qM st th (cmOf R) ac up li pg le spc pw ld (wr ss) sn tk ss sh dn pp ps (faOf wo lo be) (hbOf hb) tt (sh1 rf) mbt mle mbo mwo mlo mbe mmk mms mwh = BMod G qM st th (cmOf R) ac up li pg le spc pw ld (wr ss) sn tk ss sh dn pp ps (faOf wo lo be) (hbOf hb) tt (sh1 (rfx rf (if plc x yy then (if w = 0 ∨ w = 1 then (if 0 ≤ pp (cM x yy) then (if w = 0 then pp (cM x yy) else ps (cM x yy)) else -9) else -2) else -1))) mbt mle mbo mwo mlo mbe mmk mms mwh from congrArg (fun z_ : Nat → Int => BMod G qM st th (cmOf R) ac up li pg le spc pw ld (wr ss) sn tk ss sh dn pp ps (faOf wo lo be) (hbOf hb) tt z_ mbt mle mbo mwo mlo mbe mmk mms mwh) (show (sh1 rf : Nat → Int) = (sh1 (rfx rf (if plc x yy then (if w = 0 ∨ w = 1 then (if 0 ≤ pp (cM x yy) then (if w = 0 then pp (cM x yy) else ps (cM x yy)) else -9) else -2) else -1))) from congrArg sh1 (by rw [hA_]; first | exact (rfx_1 (by omega)).symm | exact (rfx_0 (by omega)).symm))] at hP hD
        exact fin _ () H locs ls 74 dX9_first_74 hP hD hS (trivial) (congrArg iI hA_.symm)
    ·
      refine lv_aload_n hx hcd dX9_first_23 rfl (lv_at hl 0 rfl) ?_
      refine wi_bipush hx hcd dX9_first_24 (by decide) ?_
      refine cV_i (wc := [BMod G qM st th (cmOf R) ac up li pg le spc pw ld (wr ss) sn tk ss sh dn pp ps (faOf wo lo be) (hbOf hb) tt (sh1 rf) mbt mle mbo mwo mlo mbe mmk mms mwh]) (wr := []) (w1 := fun (_ : Unit) => [BMod G qM st th (cmOf R) ac up li pg le spc pw ld (wr ss) sn tk ss sh dn pp ps (faOf wo lo be) (hbOf hb) tt (sh1 (rfu rf (-2))) mbt mle mbo mwo mlo mbe mmk mms mwh]) (Bs1 := fun (_ : Unit) => [BMod G qM st th (cmOf R) ac up li pg le spc pw ld (wr ss) sn tk ss sh dn pp ps (faOf wo lo be) (hbOf hb) tt (sh1 (rfu rf (-2))) mbt mle mbo mwo mlo mbe mmk mms mwh]) (As := [.int (iI (-2))]) (rest := []) (kX9_refuse l D G qM st th R ac up li le pg spc pw ld sn tk ss sh dn pp ps wo lo be hb tt rf mbt mle mbo mwo mlo mbe mmk mms mwh (-2) (by first | assumption | omega)) rfl ⟨hx, hcd, hml, hown, hts⟩ (cwV 1 hts gX9_first_X9_refuse rfl rfl rfl (by decide +kernel) ⟨by decide, by decide⟩) (q0 := 0) (ci := 9) rfl rfl rfl rfl hl.1 (Nat.le_of_ble_eq_true rfl) ⟨Nat.le_of_ble_eq_true rfl, Nat.le_of_ble_eq_true rfl⟩ dX9_first_26 hK hP hD hS hA (perm_i2 [0] 1 rfl (by decide) rfl) (fun _ => perm_i2 [0] 1 rfl (by decide) rfl) (fun r u H locs hw6 hP hD hS => ?_)
      subst hw6
      have hA_ : (if plc x yy then (if w = 0 ∨ w = 1 then (if 0 ≤ pp (cM x yy) then (if w = 0 then pp (cM x yy) else ps (cM x yy)) else -9) else -2) else -1 : Int) = (-2) := by first | rfl | ((repeat' split) <;> first | rfl | omega)
      rw [show BMod G qM st th (cmOf R) ac up li pg le spc pw ld (wr ss) sn tk ss sh dn pp ps (faOf wo lo be) (hbOf hb) tt (sh1 (rfu rf (-2))) mbt mle mbo mwo mlo mbe mmk mms mwh = BMod G qM st th (cmOf R) ac up li pg le spc pw ld (wr ss) sn tk ss sh dn pp ps (faOf wo lo be) (hbOf hb) tt (sh1 (rfx rf (if plc x yy then (if w = 0 ∨ w = 1 then (if 0 ≤ pp (cM x yy) then (if w = 0 then pp (cM x yy) else ps (cM x yy)) else -9) else -2) else -1))) mbt mle mbo mwo mlo mbe mmk mms mwh from congrArg (fun z_ : Nat → Int => BMod G qM st th (cmOf R) ac up li pg le spc pw ld (wr ss) sn tk ss sh dn pp ps (faOf wo lo be) (hbOf hb) tt z_ mbt mle mbo mwo mlo mbe mmk mms mwh) (show (sh1 (rfu rf (-2)) : Nat → Int) = (sh1 (rfx rf (if plc x yy then (if w = 0 ∨ w = 1 then (if 0 ≤ pp (cM x yy) then (if w = 0 then pp (cM x yy) else ps (cM x yy)) else -9) else -2) else -1))) from congrArg sh1 (by rw [hA_]; first | exact (rfx_1 (by omega)).symm | exact (rfx_0 (by omega)).symm))] at hP hD
      exact fin _ () H locs ls 29 dX9_first_29 hP hD hS (trivial) (congrArg iI hA_.symm)
  ·
    refine lv_aload_n hx hcd dX9_first_8 rfl (lv_at hl 0 rfl) ?_
    refine wi_iconst hx hcd dX9_first_9 ?_
    refine cV_i (wc := [BMod G qM st th (cmOf R) ac up li pg le spc pw ld (wr ss) sn tk ss sh dn pp ps (faOf wo lo be) (hbOf hb) tt (sh1 rf) mbt mle mbo mwo mlo mbe mmk mms mwh]) (wr := []) (w1 := fun (_ : Unit) => [BMod G qM st th (cmOf R) ac up li pg le spc pw ld (wr ss) sn tk ss sh dn pp ps (faOf wo lo be) (hbOf hb) tt (sh1 (rfu rf (-1))) mbt mle mbo mwo mlo mbe mmk mms mwh]) (Bs1 := fun (_ : Unit) => [BMod G qM st th (cmOf R) ac up li pg le spc pw ld (wr ss) sn tk ss sh dn pp ps (faOf wo lo be) (hbOf hb) tt (sh1 (rfu rf (-1))) mbt mle mbo mwo mlo mbe mmk mms mwh]) (As := [.int (iI (-1))]) (rest := []) (kX9_refuse l D G qM st th R ac up li le pg spc pw ld sn tk ss sh dn pp ps wo lo be hb tt rf mbt mle mbo mwo mlo mbe mmk mms mwh (-1) (by first | assumption | omega)) rfl ⟨hx, hcd, hml, hown, hts⟩ (cwV 1 hts gX9_first_X9_refuse rfl rfl rfl (by decide +kernel) ⟨by decide, by decide⟩) (q0 := 0) (ci := 9) rfl rfl rfl rfl hl.1 (Nat.le_of_ble_eq_true rfl) ⟨Nat.le_of_ble_eq_true rfl, Nat.le_of_ble_eq_true rfl⟩ dX9_first_10 hK hP hD hS hA (perm_i2 [0] 1 rfl (by decide) rfl) (fun _ => perm_i2 [0] 1 rfl (by decide) rfl) (fun r u H locs hw7 hP hD hS => ?_)
    subst hw7
    have hA_ : (if plc x yy then (if w = 0 ∨ w = 1 then (if 0 ≤ pp (cM x yy) then (if w = 0 then pp (cM x yy) else ps (cM x yy)) else -9) else -2) else -1 : Int) = (-1) := by first | rfl | ((repeat' split) <;> first | rfl | omega)
    rw [show BMod G qM st th (cmOf R) ac up li pg le spc pw ld (wr ss) sn tk ss sh dn pp ps (faOf wo lo be) (hbOf hb) tt (sh1 (rfu rf (-1))) mbt mle mbo mwo mlo mbe mmk mms mwh = BMod G qM st th (cmOf R) ac up li pg le spc pw ld (wr ss) sn tk ss sh dn pp ps (faOf wo lo be) (hbOf hb) tt (sh1 (rfx rf (if plc x yy then (if w = 0 ∨ w = 1 then (if 0 ≤ pp (cM x yy) then (if w = 0 then pp (cM x yy) else ps (cM x yy)) else -9) else -2) else -1))) mbt mle mbo mwo mlo mbe mmk mms mwh from congrArg (fun z_ : Nat → Int => BMod G qM st th (cmOf R) ac up li pg le spc pw ld (wr ss) sn tk ss sh dn pp ps (faOf wo lo be) (hbOf hb) tt z_ mbt mle mbo mwo mlo mbe mmk mms mwh) (show (sh1 (rfu rf (-1)) : Nat → Int) = (sh1 (rfx rf (if plc x yy then (if w = 0 ∨ w = 1 then (if 0 ≤ pp (cM x yy) then (if w = 0 then pp (cM x yy) else ps (cM x yy)) else -9) else -2) else -1))) from congrArg sh1 (by rw [hA_]; first | exact (rfx_1 (by omega)).symm | exact (rfx_0 (by omega)).symm))] at hP hD
    exact fin _ () H locs ls 13 dX9_first_13 hP hD hS (trivial) (congrArg iI hA_.symm)
