abbrev rmX9_mark : Room := { frames := 0, cells := 0, slots := 0, locals := 0 }
set_option maxHeartbeats 4000000 in
set_option maxRecDepth 100000 in
theorem kX9_mark (l : Launch) (D : va_G) (G : Nat → ClassId) (qM : Nat → Nat) (st : Int) (th : Nat → Int) (R : Nat → Nat → Int) (ac : Nat → Int) (up : Nat → Int) (li : Nat → Int) (le : Nat → Int) (pg : Int) (spc : Int) (pw : Int) (ld : Int) (sn : Int) (tk : Int) (ss : Int) (sh : Int) (dn : Int) (pp : Nat → Int) (ps : Nat → Int) (wo : Int) (lo : Int) (be : Int) (hb : Nat → Nat → Int) (tt : Nat → Int) (rf : Nat → Int) (mbt : Nat → Int) (mle : Nat → Int) (mbo : Nat → Int) (mwo : Int) (mlo : Int) (mbe : Int) (mmk : Nat → Int) (mms : Nat → Int) (mwh : Int) (x : Int) (yy : Int) (k : Int) (t : Int) (hmk : ∀ k, -1 ≤ mmk k ∧ mmk k ≤ 99) (hp : plc x yy) : CtV l yX9_mark wsX9_mark rmX9_mark D G [.ref (qM 0), .int (iI x), .int (iI yy), .int (iI k), .int (iI t)] [BMod G qM st th (cmOf R) ac up li pg le spc pw ld (wr ss) sn tk ss sh dn pp ps (faOf wo lo be) (hbOf hb) tt (sh1 rf) mbt mle mbo mwo mlo mbe mmk mms mwh] (fun _ : Unit => True) (fun _ => [BMod G qM st th (cmOf R) ac up li pg le spc pw ld (wr ss) sn tk ss sh dn pp ps (faOf wo lo be) (hbOf hb) tt (sh1 rf) mbt mle mbo mwo mlo mbe (mkP mmk (one (cM x yy)) k) (mkT mmk mms (one (cM x yy)) t) mwh]) := by
  refine CtV.of (cc := cX9_mark) (maxL := 6) (by decide) rfl (Nat.le_of_ble_eq_true rfl) ?_
  intro p0 e0 s0 m0 args bel met cd A0 ls Q0 hx hcd hml hown hts hK hP hD hA hl fin
  have hl : lv_has ls 6 [(0, .ref (qM 0)), (1, .int (iI x)), (2, .int (iI yy)), (3, .int (iI k)), (4, .int (iI t))] := hl
  have hS : va_S A0 s0.heap s0.heap [] := va_S.rf
  have hH : va_P D vwCl (fl [BMod G qM st th (cmOf R) ac up li pg le spc pw ld (wr ss) sn tk ss sh dn pp ps (faOf wo lo be) (hbOf hb) tt (sh1 rf) mbt mle mbo mwo mlo mbe mmk mms mwh]) s0.heap := hP
  obtain ⟨H, eH⟩ : ∃ H, H = s0.heap := ⟨_, rfl⟩
  obtain ⟨locs, eL⟩ : ∃ locs : List Loc, locs = [] := ⟨_, rfl⟩
  have hS : va_S A0 s0.heap H locs := by rw [eH, eL]; exact hS
  have hP : va_P D vwCl (fl [BMod G qM st th (cmOf R) ac up li pg le spc pw ld (wr ss) sn tk ss sh dn pp ps (faOf wo lo be) (hbOf hb) tt (sh1 rf) mbt mle mbo mwo mlo mbe mmk mms mwh]) H := by rw [eH]; exact hP
  suffices goal : W p0 l e0 rmX9_mark s0 m0 args bel met cd H locs 0 0 Q0 (F0 m0 0 ls []) by rw [eH, eL] at goal; exact goal
  clear eH eL hH
  have e1 := mk_one (pp := mmk) (c := cM x yy) (k := k)
  have e2 := mt_one (pp := mmk) (ps := mms) (c := cM x yy) (t := t)
  refine wi_bipush hx hcd dX9_mark_0 (by decide) ?_
  refine lv_iload_n hx hcd dX9_mark_2 rfl (lv_at hl 1 rfl) ?_
  refine wi_imul hx hcd dX9_mark_3 ?_
  refine lv_iload_n hx hcd dX9_mark_4 rfl (lv_at hl 2 rfl) ?_
  refine wi_iadd hx hcd dX9_mark_5 ?_
  refine lv_istore (lv' := [(5, .int (iI ((10 * x) + yy))), (0, .ref (qM 0)), (1, .int (iI x)), (2, .int (iI yy)), (3, .int (iI k)), (4, .int (iI t))]) hx hcd dX9_mark_6 hl (by decide) rfl (fun ls hl => ?_)
  refine lv_aload_n hx hcd dX9_mark_8 rfl (lv_at hl 1 rfl) ?_
  refine g_get (C := RX9) (T := TX9) (N := 32) hx hcd hts (fun _ h => List.mem_cons_of_mem _ (List.mem_append_right _ h)) hown hK hP (i := 0) rfl BMod_c0 rfl 29 (by decide) (by decide +kernel) rfl dX9_mark_9 ?_
  refine lv_iload hx hcd dX9_mark_12 (lv_at hl 0 rfl) ?_
  refine g_iald hx hcd hK hP (i := 0) rfl BMod_c16 (by omega) (by decide) dX9_mark_14 ?_
  have f1 := hmk (((10 * x) + yy).toNat)
  refine wi_if_ge (tgt := 35) hx hcd (by omega) dX9_mark_15 (by decide) (fun c15 => ?_) (fun c15 => ?_)
  ·
    rw [show BMod G qM st th (cmOf R) ac up li pg le spc pw ld (wr ss) sn tk ss sh dn pp ps (faOf wo lo be) (hbOf hb) tt (sh1 rf) mbt mle mbo mwo mlo mbe mmk mms mwh = BMod G qM st th (cmOf R) ac up li pg le spc pw ld (wr ss) sn tk ss sh dn pp ps (faOf wo lo be) (hbOf hb) tt (sh1 rf) mbt mle mbo mwo mlo mbe (mkP mmk (one (cM x yy)) k) mms mwh from congrArg (fun z_ : Nat → Int => BMod G qM st th (cmOf R) ac up li pg le spc pw ld (wr ss) sn tk ss sh dn pp ps (faOf wo lo be) (hbOf hb) tt (sh1 rf) mbt mle mbo mwo mlo mbe z_ mms mwh) (show (mmk : Nat → Int) = (mkP mmk (one (cM x yy)) k) from by rw [← e1]; first | exact (if_pos c15).symm | exact (if_neg (Int.not_lt.mpr c15)).symm)] at hP hD
    rw [show BMod G qM st th (cmOf R) ac up li pg le spc pw ld (wr ss) sn tk ss sh dn pp ps (faOf wo lo be) (hbOf hb) tt (sh1 rf) mbt mle mbo mwo mlo mbe (mkP mmk (one (cM x yy)) k) mms mwh = BMod G qM st th (cmOf R) ac up li pg le spc pw ld (wr ss) sn tk ss sh dn pp ps (faOf wo lo be) (hbOf hb) tt (sh1 rf) mbt mle mbo mwo mlo mbe (mkP mmk (one (cM x yy)) k) (mkT mmk mms (one (cM x yy)) t) mwh from congrArg (fun z_ : Nat → Int => BMod G qM st th (cmOf R) ac up li pg le spc pw ld (wr ss) sn tk ss sh dn pp ps (faOf wo lo be) (hbOf hb) tt (sh1 rf) mbt mle mbo mwo mlo mbe (mkP mmk (one (cM x yy)) k) z_ mwh) (show (mms : Nat → Int) = (mkT mmk mms (one (cM x yy)) t) from by rw [← e2]; first | exact (if_pos c15).symm | exact (if_neg (Int.not_lt.mpr c15)).symm)] at hP hD
    exact fin () H locs ls 35 dX9_mark_35 hP hD hS (trivial)
  ·
    refine lv_aload_n hx hcd dX9_mark_18 rfl (lv_at hl 1 rfl) ?_
    refine g_get (C := RX9) (T := TX9) (N := 32) hx hcd hts (fun _ h => List.mem_cons_of_mem _ (List.mem_append_right _ h)) hown hK hP (i := 0) rfl BMod_c0 rfl 29 (by decide) (by decide +kernel) rfl dX9_mark_19 ?_
    refine lv_iload hx hcd dX9_mark_22 (lv_at hl 0 rfl) ?_
    refine lv_iload_n hx hcd dX9_mark_24 rfl (lv_at hl 4 rfl) ?_
    refine g_iast hx hcd hK hP hD hS (i := 0) rfl BMod_c16 (by omega) (by decide) (B1 := BMod G qM st th (cmOf R) ac up li pg le spc pw ld (wr ss) sn tk ss sh dn pp ps (faOf wo lo be) (hbOf hb) tt (sh1 rf) mbt mle mbo mwo mlo mbe (va_up mmk (((10 * x) + yy).toNat) k) mms mwh) rfl (Bs1 := [BMod G qM st th (cmOf R) ac up li pg le spc pw ld (wr ss) sn tk ss sh dn pp ps (faOf wo lo be) (hbOf hb) tt (sh1 rf) mbt mle mbo mwo mlo mbe (va_up mmk (((10 * x) + yy).toNat) k) mms mwh]) rfl dX9_mark_25 (fun H locs hP hD hS => ?_)
    refine lv_aload_n hx hcd dX9_mark_26 rfl (lv_at hl 1 rfl) ?_
    refine g_get (C := RX9) (T := TX9) (N := 32) hx hcd hts (fun _ h => List.mem_cons_of_mem _ (List.mem_append_right _ h)) hown hK hP (i := 0) rfl BMod_c0 rfl 30 (by decide) (by decide +kernel) rfl dX9_mark_27 ?_
    refine lv_iload hx hcd dX9_mark_30 (lv_at hl 0 rfl) ?_
    refine lv_iload hx hcd dX9_mark_32 (lv_at hl 5 rfl) ?_
    refine g_iast hx hcd hK hP hD hS (i := 0) rfl BMod_c17 (by omega) (by decide) (B1 := BMod G qM st th (cmOf R) ac up li pg le spc pw ld (wr ss) sn tk ss sh dn pp ps (faOf wo lo be) (hbOf hb) tt (sh1 rf) mbt mle mbo mwo mlo mbe (va_up mmk (((10 * x) + yy).toNat) k) (va_up mms (((10 * x) + yy).toNat) t) mwh) rfl (Bs1 := [BMod G qM st th (cmOf R) ac up li pg le spc pw ld (wr ss) sn tk ss sh dn pp ps (faOf wo lo be) (hbOf hb) tt (sh1 rf) mbt mle mbo mwo mlo mbe (va_up mmk (((10 * x) + yy).toNat) k) (va_up mms (((10 * x) + yy).toNat) t) mwh]) rfl dX9_mark_34 (fun H locs hP hD hS => ?_)
    rw [show BMod G qM st th (cmOf R) ac up li pg le spc pw ld (wr ss) sn tk ss sh dn pp ps (faOf wo lo be) (hbOf hb) tt (sh1 rf) mbt mle mbo mwo mlo mbe (va_up mmk (((10 * x) + yy).toNat) k) (va_up mms (((10 * x) + yy).toNat) t) mwh = BMod G qM st th (cmOf R) ac up li pg le spc pw ld (wr ss) sn tk ss sh dn pp ps (faOf wo lo be) (hbOf hb) tt (sh1 rf) mbt mle mbo mwo mlo mbe (mkP mmk (one (cM x yy)) k) (va_up mms (((10 * x) + yy).toNat) t) mwh from congrArg (fun z_ : Nat → Int => BMod G qM st th (cmOf R) ac up li pg le spc pw ld (wr ss) sn tk ss sh dn pp ps (faOf wo lo be) (hbOf hb) tt (sh1 rf) mbt mle mbo mwo mlo mbe z_ (va_up mms (((10 * x) + yy).toNat) t) mwh) (show (va_up mmk (((10 * x) + yy).toNat) k : Nat → Int) = (mkP mmk (one (cM x yy)) k) from by rw [← e1]; first | exact (if_pos c15).symm | exact (if_neg (Int.not_lt.mpr c15)).symm)] at hP hD
    rw [show BMod G qM st th (cmOf R) ac up li pg le spc pw ld (wr ss) sn tk ss sh dn pp ps (faOf wo lo be) (hbOf hb) tt (sh1 rf) mbt mle mbo mwo mlo mbe (mkP mmk (one (cM x yy)) k) (va_up mms (((10 * x) + yy).toNat) t) mwh = BMod G qM st th (cmOf R) ac up li pg le spc pw ld (wr ss) sn tk ss sh dn pp ps (faOf wo lo be) (hbOf hb) tt (sh1 rf) mbt mle mbo mwo mlo mbe (mkP mmk (one (cM x yy)) k) (mkT mmk mms (one (cM x yy)) t) mwh from congrArg (fun z_ : Nat → Int => BMod G qM st th (cmOf R) ac up li pg le spc pw ld (wr ss) sn tk ss sh dn pp ps (faOf wo lo be) (hbOf hb) tt (sh1 rf) mbt mle mbo mwo mlo mbe (mkP mmk (one (cM x yy)) k) z_ mwh) (show (va_up mms (((10 * x) + yy).toNat) t : Nat → Int) = (mkT mmk mms (one (cM x yy)) t) from by rw [← e2]; first | exact (if_pos c15).symm | exact (if_neg (Int.not_lt.mpr c15)).symm)] at hP hD
    exact fin () H locs ls 35 dX9_mark_35 hP hD hS (trivial)
