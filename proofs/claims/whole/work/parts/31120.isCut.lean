abbrev rmX9_isCut : Room := { frames := 1, cells := 0, slots := 0, locals := 22 }
set_option maxHeartbeats 4000000 in
set_option maxRecDepth 100000 in
theorem kX9_isCut (l : Launch) (D : va_G) (G : Nat → ClassId) (qM : Nat → Nat) (st : Int) (th : Nat → Int) (R : Nat → Nat → Int) (ac : Nat → Int) (up : Nat → Int) (li : Nat → Int) (le : Nat → Int) (pg : Int) (spc : Int) (pw : Int) (ld : Int) (sn : Int) (tk : Int) (ss : Int) (sh : Int) (dn : Int) (pp : Nat → Int) (ps : Nat → Int) (wo : Int) (lo : Int) (be : Int) (hb : Nat → Nat → Int) (tt : Nat → Int) (rf : Nat → Int) (mbt : Nat → Int) (mle : Nat → Int) (mbo : Nat → Int) (mwo : Int) (mlo : Int) (mbe : Int) (mmk : Nat → Int) (mms : Nat → Int) (mwh : Int) (k : Int) (hst : 2 ≤ st ∧ st ≤ 16) (hth : ∀ k, th k = 0 ∨ th k = 1) (hR : ∀ i j, 0 ≤ R i j ∧ R i j ≤ 9) (hac : ∀ k, 0 ≤ ac k ∧ ac k ≤ 11) (hup : ∀ k, 0 ≤ up k ∧ up k ≤ 11) (hli : ∀ k, 0 ≤ li k ∧ li k ≤ 11) (hle : ∀ k, 0 ≤ le k ∧ le k ≤ 9) (hpg : 0 ≤ pg ∧ pg ≤ 12) (hsp : 0 ≤ spc ∧ spc ≤ 9) (hpw : 0 ≤ pw ∧ pw ≤ 1000) (hld : 1 ≤ ld ∧ ld ≤ 20) (hss : 0 ≤ ss ∧ ss < 900000) (hpq : ∀ k, -1 ≤ pp k ∧ pp k ≤ 99 ∧ -1 ≤ ps k ∧ ps k ≤ 99 ∧ (0 ≤ pp k → 0 ≤ ps k)) (hwo : -1 ≤ wo ∧ wo ≤ 11) (hlo : -1 ≤ lo ∧ lo ≤ 11) (hbe : -1 ≤ be ∧ be ≤ 1) (hhb : ∀ i j, 0 ≤ hb i j ∧ hb i j ≤ 1000) (htt : ∀ k, 0 ≤ tt k ∧ tt k ≤ 1000) (hk_ : -2147483648 ≤ k ∧ k < 2147483648) : CtI l yX9_isCut wsX9_isCut rmX9_isCut D G [.ref (qM 0), .int (iI k)] [BMod G qM st th (cmOf R) ac up li pg le spc pw ld (wr ss) sn tk ss sh dn pp ps (faOf wo lo be) (hbOf hb) tt (sh1 rf) mbt mle mbo mwo mlo mbe mmk mms mwh] (fun (r : Int32) (_ : Unit) => r = iI (if 0 ≤ k ∧ k < 10 then (if cutL th ac up li k.toNat then 1 else 0) else -1)) (fun _ => [BMod G qM st th (cmOf R) ac up li pg le spc pw ld (wr ss) sn tk ss sh dn pp ps (faOf wo lo be) (hbOf hb) tt (sh1 (rfx rf (if 0 ≤ k ∧ k < 10 then (if cutL th ac up li k.toNat then 1 else 0) else -1))) mbt mle mbo mwo mlo mbe mmk mms mwh]) := by
  refine CtI.ofI (cc := cX9_isCut) (maxL := 2) (by decide) rfl (Nat.le_of_ble_eq_true rfl) ?_
  intro p0 e0 s0 m0 args bel met cd A0 ls Q0 hx hcd hml hown hts hK hP hD hA hl fin
  have hl : lv_has ls 2 [(0, .ref (qM 0)), (1, .int (iI k))] := hl
  have hS : va_S A0 s0.heap s0.heap [] := va_S.rf
  have hH : va_P D vwCl (fl [BMod G qM st th (cmOf R) ac up li pg le spc pw ld (wr ss) sn tk ss sh dn pp ps (faOf wo lo be) (hbOf hb) tt (sh1 rf) mbt mle mbo mwo mlo mbe mmk mms mwh]) s0.heap := hP
  obtain ⟨H, eH⟩ : ∃ H, H = s0.heap := ⟨_, rfl⟩
  obtain ⟨locs, eL⟩ : ∃ locs : List Loc, locs = [] := ⟨_, rfl⟩
  have hS : va_S A0 s0.heap H locs := by rw [eH, eL]; exact hS
  have hP : va_P D vwCl (fl [BMod G qM st th (cmOf R) ac up li pg le spc pw ld (wr ss) sn tk ss sh dn pp ps (faOf wo lo be) (hbOf hb) tt (sh1 rf) mbt mle mbo mwo mlo mbe mmk mms mwh]) H := by rw [eH]; exact hP
  suffices goal : W p0 l e0 rmX9_isCut s0 m0 args bel met cd H locs 0 0 Q0 (F0 m0 0 ls []) by rw [eH, eL] at goal; exact goal
  clear eH eL hH
  refine lv_iload_n hx hcd dX9_isCut_0 rfl (lv_at hl 1 rfl) ?_
  refine wi_iconst hx hcd dX9_isCut_1 ?_
  refine wi_bipush hx hcd dX9_isCut_2 (by decide) ?_
  refine cS_i (wc := []) (wr := [BMod G qM st th (cmOf R) ac up li pg le spc pw ld (wr ss) sn tk ss sh dn pp ps (faOf wo lo be) (hbOf hb) tt (sh1 rf) mbt mle mbo mwo mlo mbe mmk mms mwh]) (w1 := fun (_ : Unit) => []) (Bs1 := fun (_ : Unit) => [BMod G qM st th (cmOf R) ac up li pg le spc pw ld (wr ss) sn tk ss sh dn pp ps (faOf wo lo be) (hbOf hb) tt (sh1 rf) mbt mle mbo mwo mlo mbe mmk mms mwh]) (As := [.int (iI k), .int (iI 0), .int (iI 9)]) (rest := []) (kX9_in l D G k 0 9 (by first | assumption | omega) (by first | assumption | omega) (by first | assumption | omega)) rfl ⟨hx, hcd, hml, hown, hts⟩ (va_cwS 3 hts gX9_isCut_X9_in rfl rfl rfl (by decide +kernel) ⟨by decide, by decide⟩) rfl hl.1 (Nat.le_of_ble_eq_true rfl) ⟨Nat.le_of_ble_eq_true rfl, Nat.le_of_ble_eq_true rfl⟩ dX9_isCut_4 hK hP hD hS hA (perm_i2 [0] 1 rfl (by decide) rfl) (fun _ => perm_i2 [0] 1 rfl (by decide) rfl) (fun r u H locs hw1 hP hD hS => ?_)
  subst hw1
  have hin169 := if01 (0 ≤ k ∧ k ≤ 9)
  refine wi_if_eq (tgt := 26) hx hcd (by omega) dX9_isCut_7 (by decide) (fun c7 => ?_) (fun c7 => ?_)
  ·
    refine lv_aload_n hx hcd dX9_isCut_26 rfl (lv_at hl 0 rfl) ?_
    refine wi_iconst hx hcd dX9_isCut_27 ?_
    refine cV_i (wc := [BMod G qM st th (cmOf R) ac up li pg le spc pw ld (wr ss) sn tk ss sh dn pp ps (faOf wo lo be) (hbOf hb) tt (sh1 rf) mbt mle mbo mwo mlo mbe mmk mms mwh]) (wr := []) (w1 := fun (_ : Unit) => [BMod G qM st th (cmOf R) ac up li pg le spc pw ld (wr ss) sn tk ss sh dn pp ps (faOf wo lo be) (hbOf hb) tt (sh1 (rfu rf (-1))) mbt mle mbo mwo mlo mbe mmk mms mwh]) (Bs1 := fun (_ : Unit) => [BMod G qM st th (cmOf R) ac up li pg le spc pw ld (wr ss) sn tk ss sh dn pp ps (faOf wo lo be) (hbOf hb) tt (sh1 (rfu rf (-1))) mbt mle mbo mwo mlo mbe mmk mms mwh]) (As := [.int (iI (-1))]) (rest := []) (kX9_refuse l D G qM st th R ac up li le pg spc pw ld sn tk ss sh dn pp ps wo lo be hb tt rf mbt mle mbo mwo mlo mbe mmk mms mwh (-1) (by first | assumption | omega)) rfl ⟨hx, hcd, hml, hown, hts⟩ (cwV 1 hts gX9_isCut_X9_refuse rfl rfl rfl (by decide +kernel) ⟨by decide, by decide⟩) (q0 := 0) (ci := 9) rfl rfl rfl rfl hl.1 (Nat.le_of_ble_eq_true rfl) ⟨Nat.le_of_ble_eq_true rfl, Nat.le_of_ble_eq_true rfl⟩ dX9_isCut_28 hK hP hD hS hA (perm_i2 [0] 1 rfl (by decide) rfl) (fun _ => perm_i2 [0] 1 rfl (by decide) rfl) (fun r u H locs hw2 hP hD hS => ?_)
    subst hw2
    have hA_ : (if 0 ≤ k ∧ k < 10 then (if cutL th ac up li k.toNat then 1 else 0) else -1 : Int) = (-1) := by first | exact (if_neg (by omega)) | exact (if_pos (by omega)).trans (if_pos hcl2) | exact (if_pos (by omega)).trans (if_neg hcl2)
    rw [show BMod G qM st th (cmOf R) ac up li pg le spc pw ld (wr ss) sn tk ss sh dn pp ps (faOf wo lo be) (hbOf hb) tt (sh1 (rfu rf (-1))) mbt mle mbo mwo mlo mbe mmk mms mwh = BMod G qM st th (cmOf R) ac up li pg le spc pw ld (wr ss) sn tk ss sh dn pp ps (faOf wo lo be) (hbOf hb) tt (sh1 (rfx rf (if 0 ≤ k ∧ k < 10 then (if cutL th ac up li k.toNat then 1 else 0) else -1))) mbt mle mbo mwo mlo mbe mmk mms mwh from congrArg (fun z_ : Nat → Int => BMod G qM st th (cmOf R) ac up li pg le spc pw ld (wr ss) sn tk ss sh dn pp ps (faOf wo lo be) (hbOf hb) tt z_ mbt mle mbo mwo mlo mbe mmk mms mwh) (show (sh1 (rfu rf (-1)) : Nat → Int) = (sh1 (rfx rf (if 0 ≤ k ∧ k < 10 then (if cutL th ac up li k.toNat then 1 else 0) else -1))) from congrArg sh1 (by rw [hA_]; first | exact (rfx_1 (by omega)).symm | exact (rfx_0 (by omega)).symm))] at hP hD
    exact fin _ () H locs ls 31 dX9_isCut_31 hP hD hS (trivial) (congrArg iI hA_.symm)
  ·
    refine lv_aload_n hx hcd dX9_isCut_10 rfl (lv_at hl 0 rfl) ?_
    refine lv_iload_n hx hcd dX9_isCut_11 rfl (lv_at hl 1 rfl) ?_
    refine cV_i (wc := [BMod G qM st th (cmOf R) ac up li pg le spc pw ld (wr ss) sn tk ss sh dn pp ps (faOf wo lo be) (hbOf hb) tt (sh1 rf) mbt mle mbo mwo mlo mbe mmk mms mwh]) (wr := []) (w1 := fun (_ : Unit) => [BMod G qM st th (cmOf R) ac up li pg le spc pw ld (wr ss) sn tk ss sh dn pp ps (faOf wo lo be) (hbOf hb) tt (sh1 rf) mbt mle mbo mwo mlo mbe mmk mms mwh]) (Bs1 := fun (_ : Unit) => [BMod G qM st th (cmOf R) ac up li pg le spc pw ld (wr ss) sn tk ss sh dn pp ps (faOf wo lo be) (hbOf hb) tt (sh1 rf) mbt mle mbo mwo mlo mbe mmk mms mwh]) (As := [.int (iI k)]) (rest := []) (kX9_isCutLetter l D G qM st th R ac up li le pg spc pw ld sn tk ss sh dn pp ps wo lo be hb tt rf mbt mle mbo mwo mlo mbe mmk mms mwh k (by first | assumption | omega) (by first | assumption | omega) (by first | assumption | omega) (by first | assumption | omega) (by omega)) rfl ⟨hx, hcd, hml, hown, hts⟩ (cwV 1 hts gX9_isCut_X9_isCutLetter rfl rfl rfl (by decide +kernel) ⟨by decide, by decide⟩) (q0 := 0) (ci := 9) rfl rfl rfl rfl hl.1 (Nat.le_of_ble_eq_true rfl) ⟨Nat.le_of_ble_eq_true rfl, Nat.le_of_ble_eq_true rfl⟩ dX9_isCut_12 hK hP hD hS hA (perm_i2 [0] 1 rfl (by decide) rfl) (fun _ => perm_i2 [0] 1 rfl (by decide) rfl) (fun r u H locs hw3 hP hD hS => ?_)
    subst hw3
    have hcl := if01 (cutL th ac up li k.toNat)
    refine wi_if_eq (tgt := 22) hx hcd (by omega) dX9_isCut_15 (by decide) (fun c15 => ?_) (fun c15 => ?_)
    ·
      have hcl2 : ¬ cutL th ac up li k.toNat := by
        rcases hcl with ⟨q, -⟩ | ⟨-, q⟩
        · rw [q] at c15; exact absurd c15 (by decide)
        · exact q
      refine wi_iconst hx hcd dX9_isCut_22 ?_
      refine lv_goto (tgt := 31) hx hcd dX9_isCut_23 (by decide) ?_
      have hA_ : (if 0 ≤ k ∧ k < 10 then (if cutL th ac up li k.toNat then 1 else 0) else -1 : Int) = 0 := by first | exact (if_neg (by omega)) | exact (if_pos (by omega)).trans (if_pos hcl2) | exact (if_pos (by omega)).trans (if_neg hcl2)
      rw [show BMod G qM st th (cmOf R) ac up li pg le spc pw ld (wr ss) sn tk ss sh dn pp ps (faOf wo lo be) (hbOf hb) tt (sh1 rf) mbt mle mbo mwo mlo mbe mmk mms mwh = BMod G qM st th (cmOf R) ac up li pg le spc pw ld (wr ss) sn tk ss sh dn pp ps (faOf wo lo be) (hbOf hb) tt (sh1 (rfx rf (if 0 ≤ k ∧ k < 10 then (if cutL th ac up li k.toNat then 1 else 0) else -1))) mbt mle mbo mwo mlo mbe mmk mms mwh from congrArg (fun z_ : Nat → Int => BMod G qM st th (cmOf R) ac up li pg le spc pw ld (wr ss) sn tk ss sh dn pp ps (faOf wo lo be) (hbOf hb) tt z_ mbt mle mbo mwo mlo mbe mmk mms mwh) (show (sh1 rf : Nat → Int) = (sh1 (rfx rf (if 0 ≤ k ∧ k < 10 then (if cutL th ac up li k.toNat then 1 else 0) else -1))) from congrArg sh1 (by rw [hA_]; first | exact (rfx_1 (by omega)).symm | exact (rfx_0 (by omega)).symm))] at hP hD
      exact fin _ () H locs ls 31 dX9_isCut_31 hP hD hS (trivial) (congrArg iI hA_.symm)
    ·
      have hcl2 : cutL th ac up li k.toNat := by
        rcases hcl with ⟨-, q⟩ | ⟨q, -⟩
        · exact q
        · exact absurd q c15
      refine wi_iconst hx hcd dX9_isCut_18 ?_
      refine lv_goto (tgt := 31) hx hcd dX9_isCut_19 (by decide) ?_
      have hA_ : (if 0 ≤ k ∧ k < 10 then (if cutL th ac up li k.toNat then 1 else 0) else -1 : Int) = 1 := by first | exact (if_neg (by omega)) | exact (if_pos (by omega)).trans (if_pos hcl2) | exact (if_pos (by omega)).trans (if_neg hcl2)
      rw [show BMod G qM st th (cmOf R) ac up li pg le spc pw ld (wr ss) sn tk ss sh dn pp ps (faOf wo lo be) (hbOf hb) tt (sh1 rf) mbt mle mbo mwo mlo mbe mmk mms mwh = BMod G qM st th (cmOf R) ac up li pg le spc pw ld (wr ss) sn tk ss sh dn pp ps (faOf wo lo be) (hbOf hb) tt (sh1 (rfx rf (if 0 ≤ k ∧ k < 10 then (if cutL th ac up li k.toNat then 1 else 0) else -1))) mbt mle mbo mwo mlo mbe mmk mms mwh from congrArg (fun z_ : Nat → Int => BMod G qM st th (cmOf R) ac up li pg le spc pw ld (wr ss) sn tk ss sh dn pp ps (faOf wo lo be) (hbOf hb) tt z_ mbt mle mbo mwo mlo mbe mmk mms mwh) (show (sh1 rf : Nat → Int) = (sh1 (rfx rf (if 0 ≤ k ∧ k < 10 then (if cutL th ac up li k.toNat then 1 else 0) else -1))) from congrArg sh1 (by rw [hA_]; first | exact (rfx_1 (by omega)).symm | exact (rfx_0 (by omega)).symm))] at hP hD
      exact fin _ () H locs ls 31 dX9_isCut_31 hP hD hS (trivial) (congrArg iI hA_.symm)
