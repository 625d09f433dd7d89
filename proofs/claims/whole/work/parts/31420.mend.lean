abbrev rmX9_mend : Room := { frames := 1, cells := 0, slots := 0, locals := 20 }
set_option maxHeartbeats 4000000 in
set_option maxRecDepth 100000 in
theorem kX9_mend (l : Launch) (D : va_G) (G : Nat → ClassId) (qM : Nat → Nat) (st : Int) (th : Nat → Int) (R : Nat → Nat → Int) (ac : Nat → Int) (up : Nat → Int) (li : Nat → Int) (le : Nat → Int) (pg : Int) (spc : Int) (pw : Int) (ld : Int) (sn : Int) (tk : Int) (ss : Int) (sh : Int) (dn : Int) (pp : Nat → Int) (ps : Nat → Int) (wo : Int) (lo : Int) (be : Int) (hb : Nat → Nat → Int) (tt : Nat → Int) (rf : Nat → Int) (mbt : Nat → Int) (mle : Nat → Int) (mbo : Nat → Int) (mwo : Int) (mlo : Int) (mbe : Int) (mmk : Nat → Int) (mms : Nat → Int) (mwh : Int) (hst : 2 ≤ st ∧ st ≤ 16) (hth : ∀ k, th k = 0 ∨ th k = 1) (hR : ∀ i j, 0 ≤ R i j ∧ R i j ≤ 9) (hac : ∀ k, 0 ≤ ac k ∧ ac k ≤ 11) (hup : ∀ k, 0 ≤ up k ∧ up k ≤ 11) (hli : ∀ k, 0 ≤ li k ∧ li k ≤ 11) (hle : ∀ k, 0 ≤ le k ∧ le k ≤ 9) (hpg : 0 ≤ pg ∧ pg ≤ 12) (hsp : 0 ≤ spc ∧ spc ≤ 9) (hpw : 0 ≤ pw ∧ pw ≤ 1000) (hld : 1 ≤ ld ∧ ld ≤ 20) (hss : 0 ≤ ss ∧ ss < 900000) (hpq : ∀ k, -1 ≤ pp k ∧ pp k ≤ 99 ∧ -1 ≤ ps k ∧ ps k ≤ 99 ∧ (0 ≤ pp k → 0 ≤ ps k)) (hwo : -1 ≤ wo ∧ wo ≤ 11) (hlo : -1 ≤ lo ∧ lo ≤ 11) (hbe : -1 ≤ be ∧ be ≤ 1) (hhb : ∀ i j, 0 ≤ hb i j ∧ hb i j ≤ 1000) (htt : ∀ k, 0 ≤ tt k ∧ tt k ≤ 1000) : CtI l yX9_mend wsX9_mend rmX9_mend D G [.ref (qM 0)] [BMod G qM st th (cmOf R) ac up li pg le spc pw ld (wr ss) sn tk ss sh dn pp ps (faOf wo lo be) (hbOf hb) tt (sh1 rf) mbt mle mbo mwo mlo mbe mmk mms mwh] (fun (r : Int32) (_ : Unit) => r = iI ((if wo = -1 then 0 else 1) + (if lo = -1 then 0 else 1) + (if be = -1 then 0 else 1))) (fun _ => [BMod G qM st th (cmOf R) ac up li pg le spc pw ld (wr ss) sn tk ss sh dn pp ps (faOf (-1) (-1) (-1)) (hbOf hb) tt (sh1 rf) mbt mle mbo mwo mlo mbe mmk mms mwh]) := by
  refine CtI.ofI (cc := cX9_mend) (maxL := 3) (by decide) rfl (Nat.le_of_ble_eq_true rfl) ?_
  intro p0 e0 s0 m0 args bel met cd A0 ls Q0 hx hcd hml hown hts hK hP hD hA hl fin
  have hl : lv_has ls 3 [(0, .ref (qM 0))] := hl
  have hS : va_S A0 s0.heap s0.heap [] := va_S.rf
  have hH : va_P D vwCl (fl [BMod G qM st th (cmOf R) ac up li pg le spc pw ld (wr ss) sn tk ss sh dn pp ps (faOf wo lo be) (hbOf hb) tt (sh1 rf) mbt mle mbo mwo mlo mbe mmk mms mwh]) s0.heap := hP
  obtain ⟨H, eH⟩ : ∃ H, H = s0.heap := ⟨_, rfl⟩
  obtain ⟨locs, eL⟩ : ∃ locs : List Loc, locs = [] := ⟨_, rfl⟩
  have hS : va_S A0 s0.heap H locs := by rw [eH, eL]; exact hS
  have hP : va_P D vwCl (fl [BMod G qM st th (cmOf R) ac up li pg le spc pw ld (wr ss) sn tk ss sh dn pp ps (faOf wo lo be) (hbOf hb) tt (sh1 rf) mbt mle mbo mwo mlo mbe mmk mms mwh]) H := by rw [eH]; exact hP
  suffices goal : W p0 l e0 rmX9_mend s0 m0 args bel met cd H locs 0 0 Q0 (F0 m0 0 ls []) by rw [eH, eL] at goal; exact goal
  clear eH eL hH
  refine lv_aload_n hx hcd dX9_mend_0 rfl (lv_at hl 0 rfl) ?_
  refine cV_i (wc := [BMod G qM st th (cmOf R) ac up li pg le spc pw ld (wr ss) sn tk ss sh dn pp ps (faOf wo lo be) (hbOf hb) tt (sh1 rf) mbt mle mbo mwo mlo mbe mmk mms mwh]) (wr := []) (w1 := fun (_ : Unit) => [BMod G qM st th (cmOf R) ac up li pg le spc pw ld (wr ss) sn tk ss sh dn pp ps (faOf wo lo be) (hbOf hb) tt (sh1 rf) mbt mle mbo mwo mlo mbe mmk mms mwh]) (Bs1 := fun (_ : Unit) => [BMod G qM st th (cmOf R) ac up li pg le spc pw ld (wr ss) sn tk ss sh dn pp ps (faOf wo lo be) (hbOf hb) tt (sh1 rf) mbt mle mbo mwo mlo mbe mmk mms mwh]) (As := []) (rest := []) (kX9_faultMany l D G qM st th R ac up li le pg spc pw ld sn tk ss sh dn pp ps wo lo be hb tt rf mbt mle mbo mwo mlo mbe mmk mms mwh (by first | assumption | omega) (by first | assumption | omega) (by first | assumption | omega)) rfl ⟨hx, hcd, hml, hown, hts⟩ (cwV 0 hts gX9_mend_X9_faultMany rfl rfl rfl (by decide +kernel) ⟨by decide, by decide⟩) (q0 := 0) (ci := 9) rfl rfl rfl rfl hl.1 (Nat.le_of_ble_eq_true rfl) ⟨Nat.le_of_ble_eq_true rfl, Nat.le_of_ble_eq_true rfl⟩ dX9_mend_1 hK hP hD hS hA (perm_i2 [0] 1 rfl (by decide) rfl) (fun _ => perm_i2 [0] 1 rfl (by decide) rfl) (fun r u H locs hw1 hP hD hS => ?_)
  subst hw1
  refine lv_istore_n (lv' := [(1, .int (iI ((if wo = -1 then 0 else 1) + (if lo = -1 then 0 else 1) + (if be = -1 then 0 else 1)))), (0, .ref (qM 0))]) hx hcd dX9_mend_4 rfl hl (by decide) rfl (fun ls hl => ?_)
  refine wi_iconst hx hcd dX9_mend_5 ?_
  refine lv_istore_n (lv' := [(2, .int (iI 1)), (1, .int (iI ((if wo = -1 then 0 else 1) + (if lo = -1 then 0 else 1) + (if be = -1 then 0 else 1)))), (0, .ref (qM 0))]) hx hcd dX9_mend_6 rfl hl (by decide) rfl (fun ls hl => ?_)
  have L7 : ∀ (fu : Nat) (i : Int) (f : Nat → Int) (H : Heap) (locs : List Loc) (ls : Array Slot), (4 - i < (fu : Int)) → (1 ≤ i ∧ i ≤ 4) → (f = faOf (if 1 < i then -1 else wo) (if 2 < i then -1 else lo) (if 3 < i then -1 else be)) → va_P D vwCl (fl [BMod G qM st th (cmOf R) ac up li pg le spc pw ld (wr ss) sn tk ss sh dn pp ps f (hbOf hb) tt (sh1 rf) mbt mle mbo mwo mlo mbe mmk mms mwh]) H → va_D A0 (fl [BMod G qM st th (cmOf R) ac up li pg le spc pw ld (wr ss) sn tk ss sh dn pp ps f (hbOf hb) tt (sh1 rf) mbt mle mbo mwo mlo mbe mmk mms mwh]) → va_S A0 s0.heap H locs → lv_has ls 3 [(0, .ref (qM 0)), (1, .int (iI ((if wo = -1 then 0 else 1) + (if lo = -1 then 0 else 1) + (if be = -1 then 0 else 1)))), (2, .int (iI i))] → W p0 l e0 rmX9_mend s0 m0 args bel met cd H locs 0 0 Q0 (F0 m0 7 ls []) := by
    intro fu
    induction fu with
    | zero =>
      intro i f H locs ls hfu hi hf
      exact absurd hfu (by omega)
    | succ fu ih =>
      intro i f H locs ls hfu hi hf hP hD hS hl
      have ih7 := ih
      clear ih
      refine lv_iload_n hx hcd dX9_mend_7 rfl (lv_at hl 2 rfl) ?_
      refine wi_iconst hx hcd dX9_mend_8 ?_
      refine wi_icmp_ge (tgt := 25) hx hcd (by omega) (by omega) dX9_mend_9 (by decide) (fun c9 => ?_) (fun c9 => ?_)
      ·
        refine lv_iload_n hx hcd dX9_mend_25 rfl (lv_at hl 1 rfl) ?_
        have hA_ : ((if wo = -1 then 0 else 1) + (if lo = -1 then 0 else 1) + (if be = -1 then 0 else 1) : Int) = ((if wo = -1 then 0 else 1) + (if lo = -1 then 0 else 1) + (if be = -1 then 0 else 1)) := by first | rfl | ((repeat' split) <;> first | rfl | omega)
        rw [show BMod G qM st th (cmOf R) ac up li pg le spc pw ld (wr ss) sn tk ss sh dn pp ps f (hbOf hb) tt (sh1 rf) mbt mle mbo mwo mlo mbe mmk mms mwh = BMod G qM st th (cmOf R) ac up li pg le spc pw ld (wr ss) sn tk ss sh dn pp ps (faOf (-1) (-1) (-1)) (hbOf hb) tt (sh1 rf) mbt mle mbo mwo mlo mbe mmk mms mwh from congrArg (fun z_ : Nat → Int => BMod G qM st th (cmOf R) ac up li pg le spc pw ld (wr ss) sn tk ss sh dn pp ps z_ (hbOf hb) tt (sh1 rf) mbt mle mbo mwo mlo mbe mmk mms mwh) (show (f : Nat → Int) = (faOf (-1) (-1) (-1)) from by rw [hf, show i = 4 by omega]; rfl)] at hP hD
        exact fin _ () H locs ls 26 dX9_mend_26 hP hD hS (trivial) (congrArg iI hA_.symm)
      ·
        refine lv_aload_n hx hcd dX9_mend_12 rfl (lv_at hl 0 rfl) ?_
        refine g_get (C := RX9) (T := TX9) (N := 32) hx hcd hts (fun _ h => List.mem_cons_of_mem _ (List.mem_append_right _ h)) hown hK hP (i := 0) rfl BMod_c0 rfl 19 (by decide) (by decide +kernel) rfl dX9_mend_13 ?_
        refine lv_iload_n hx hcd dX9_mend_16 rfl (lv_at hl 2 rfl) ?_
        refine wi_iconst hx hcd dX9_mend_17 ?_
        refine g_iast hx hcd hK hP hD hS (i := 0) rfl BMod_c9 (by omega) (by decide) (B1 := BMod G qM st th (cmOf R) ac up li pg le spc pw ld (wr ss) sn tk ss sh dn pp ps (va_up f i.toNat (-1)) (hbOf hb) tt (sh1 rf) mbt mle mbo mwo mlo mbe mmk mms mwh) rfl (Bs1 := [BMod G qM st th (cmOf R) ac up li pg le spc pw ld (wr ss) sn tk ss sh dn pp ps (va_up f i.toNat (-1)) (hbOf hb) tt (sh1 rf) mbt mle mbo mwo mlo mbe mmk mms mwh]) rfl dX9_mend_18 (fun H locs hP hD hS => ?_)
        refine lv_iinc (v := iI (i + 1)) (lv' := [(2, .int (iI (i + 1))), (0, .ref (qM 0)), (1, .int (iI ((if wo = -1 then 0 else 1) + (if lo = -1 then 0 else 1) + (if be = -1 then 0 else 1))))]) hx hcd dX9_mend_19 hl (k := 2) rfl (iI_add _ _) (by decide) rfl (fun ls hl => ?_)
        refine lv_goto (tgt := 7) hx hcd dX9_mend_22 (by decide) ?_
        exact ih7 (i + 1) (va_up f i.toNat (-1)) _ _ _ (by omega) (by omega) (by rw [hf]; rcases (show i = 1 ∨ i = 2 ∨ i = 3 by omega) with rfl | rfl | rfl <;> first | exact fa_1 _ _ _ _ | exact fa_2 _ _ _ _ | exact fa_3 _ _ _ _) hP hD hS (lv_sub hl [1, 2, 0] rfl)
  exact L7 (((4 - 1) + 1 : Int)).toNat 1 (faOf wo lo be) _ _ _ (by omega) (by omega) (by rfl) hP hD hS (lv_sub hl [2, 1, 0] rfl)
