abbrev rmX9_marks : Room := { frames := 0, cells := 0, slots := 0, locals := 0 }
set_option maxHeartbeats 4000000 in
set_option maxRecDepth 100000 in
theorem kX9_marks (l : Launch) (D : va_G) (G : Nat → ClassId) (qM : Nat → Nat) (st : Int) (th : Nat → Int) (R : Nat → Nat → Int) (ac : Nat → Int) (up : Nat → Int) (li : Nat → Int) (le : Nat → Int) (pg : Int) (spc : Int) (pw : Int) (ld : Int) (sn : Int) (tk : Int) (ss : Int) (sh : Int) (dn : Int) (pp : Nat → Int) (ps : Nat → Int) (wo : Int) (lo : Int) (be : Int) (hb : Nat → Nat → Int) (tt : Nat → Int) (rf : Nat → Int) (mbt : Nat → Int) (mle : Nat → Int) (mbo : Nat → Int) (mwo : Int) (mlo : Int) (mbe : Int) (mmk : Nat → Int) (mms : Nat → Int) (mwh : Int) (hst : 2 ≤ st ∧ st ≤ 16) (hth : ∀ k, th k = 0 ∨ th k = 1) (hR : ∀ i j, 0 ≤ R i j ∧ R i j ≤ 9) (hac : ∀ k, 0 ≤ ac k ∧ ac k ≤ 11) (hup : ∀ k, 0 ≤ up k ∧ up k ≤ 11) (hli : ∀ k, 0 ≤ li k ∧ li k ≤ 11) (hle : ∀ k, 0 ≤ le k ∧ le k ≤ 9) (hpg : 0 ≤ pg ∧ pg ≤ 12) (hsp : 0 ≤ spc ∧ spc ≤ 9) (hpw : 0 ≤ pw ∧ pw ≤ 1000) (hld : 1 ≤ ld ∧ ld ≤ 20) (hss : 0 ≤ ss ∧ ss < 900000) (hpq : ∀ k, -1 ≤ pp k ∧ pp k ≤ 99 ∧ -1 ≤ ps k ∧ ps k ≤ 99 ∧ (0 ≤ pp k → 0 ≤ ps k)) (hwo : -1 ≤ wo ∧ wo ≤ 11) (hlo : -1 ≤ lo ∧ lo ≤ 11) (hbe : -1 ≤ be ∧ be ≤ 1) (hhb : ∀ i j, 0 ≤ hb i j ∧ hb i j ≤ 1000) (htt : ∀ k, 0 ≤ tt k ∧ tt k ≤ 1000) : CtI l yX9_marks wsX9_marks rmX9_marks D G [.ref (qM 0)] [BMod G qM st th (cmOf R) ac up li pg le spc pw ld (wr ss) sn tk ss sh dn pp ps (faOf wo lo be) (hbOf hb) tt (sh1 rf) mbt mle mbo mwo mlo mbe mmk mms mwh] (fun (r : Int32) (_ : Unit) => r = iI (ctB (fun c => decide (0 ≤ pp c)) 1200)) (fun _ => [BMod G qM st th (cmOf R) ac up li pg le spc pw ld (wr ss) sn tk ss sh dn pp ps (faOf wo lo be) (hbOf hb) tt (sh1 rf) mbt mle mbo mwo mlo mbe mmk mms mwh]) := by
  refine CtI.ofI (cc := cX9_marks) (maxL := 3) (by decide) rfl (Nat.le_of_ble_eq_true rfl) ?_
  intro p0 e0 s0 m0 args bel met cd A0 ls Q0 hx hcd hml hown hts hK hP hD hA hl fin
  have hl : lv_has ls 3 [(0, .ref (qM 0))] := hl
  have hS : va_S A0 s0.heap s0.heap [] := va_S.rf
  have hH : va_P D vwCl (fl [BMod G qM st th (cmOf R) ac up li pg le spc pw ld (wr ss) sn tk ss sh dn pp ps (faOf wo lo be) (hbOf hb) tt (sh1 rf) mbt mle mbo mwo mlo mbe mmk mms mwh]) s0.heap := hP
  obtain ⟨H, eH⟩ : ∃ H, H = s0.heap := ⟨_, rfl⟩
  obtain ⟨locs, eL⟩ : ∃ locs : List Loc, locs = [] := ⟨_, rfl⟩
  have hS : va_S A0 s0.heap H locs := by rw [eH, eL]; exact hS
  have hP : va_P D vwCl (fl [BMod G qM st th (cmOf R) ac up li pg le spc pw ld (wr ss) sn tk ss sh dn pp ps (faOf wo lo be) (hbOf hb) tt (sh1 rf) mbt mle mbo mwo mlo mbe mmk mms mwh]) H := by rw [eH]; exact hP
  suffices goal : W p0 l e0 rmX9_marks s0 m0 args bel met cd H locs 0 0 Q0 (F0 m0 0 ls []) by rw [eH, eL] at goal; exact goal
  clear eH eL hH
  refine wi_iconst hx hcd dX9_marks_0 ?_
  refine lv_istore_n (lv' := [(1, .int (iI 0)), (0, .ref (qM 0))]) hx hcd dX9_marks_1 rfl hl (by decide) rfl (fun ls hl => ?_)
  refine wi_iconst hx hcd dX9_marks_2 ?_
  refine lv_istore_n (lv' := [(2, .int (iI 0)), (1, .int (iI 0)), (0, .ref (qM 0))]) hx hcd dX9_marks_3 rfl hl (by decide) rfl (fun ls hl => ?_)
  have L4 : ∀ (fu : Nat) (m : Int) (i : Int) (H : Heap) (locs : List Loc) (ls : Array Slot), (1200 - i < (fu : Int)) → (0 ≤ i ∧ i ≤ 1200) → (m = ctB (fun c => decide (0 ≤ pp c)) i.toNat) → va_P D vwCl (fl [BMod G qM st th (cmOf R) ac up li pg le spc pw ld (wr ss) sn tk ss sh dn pp ps (faOf wo lo be) (hbOf hb) tt (sh1 rf) mbt mle mbo mwo mlo mbe mmk mms mwh]) H → va_D A0 (fl [BMod G qM st th (cmOf R) ac up li pg le spc pw ld (wr ss) sn tk ss sh dn pp ps (faOf wo lo be) (hbOf hb) tt (sh1 rf) mbt mle mbo mwo mlo mbe mmk mms mwh]) → va_S A0 s0.heap H locs → lv_has ls 3 [(0, .ref (qM 0)), (1, .int (iI m)), (2, .int (iI i))] → W p0 l e0 rmX9_marks s0 m0 args bel met cd H locs 0 0 Q0 (F0 m0 4 ls []) := by
    intro fu
    induction fu with
    | zero =>
      intro m i H locs ls hfu hi hm
      exact absurd hfu (by omega)
    | succ fu ih =>
      intro m i H locs ls hfu hi hm hP hD hS hl
      have ih4 := ih
      clear ih
      refine lv_iload_n hx hcd dX9_marks_4 rfl (lv_at hl 2 rfl) ?_
      refine wi_sipush hx hcd dX9_marks_5 (by decide) ?_
      refine wi_icmp_ge (tgt := 34) hx hcd (by omega) (by omega) dX9_marks_8 (by decide) (fun c8 => ?_) (fun c8 => ?_)
      ·
        refine lv_iload_n hx hcd dX9_marks_34 rfl (lv_at hl 1 rfl) ?_
        have hA_ : (ctB (fun c => decide (0 ≤ pp c)) 1200 : Int) = m := by rw [hm, show i = 1200 by omega]; rfl
        exact fin _ () H locs ls 35 dX9_marks_35 hP hD hS (trivial) (congrArg iI hA_.symm)
      ·
        refine lv_iload_n hx hcd dX9_marks_11 rfl (lv_at hl 1 rfl) ?_
        refine lv_aload_n hx hcd dX9_marks_12 rfl (lv_at hl 0 rfl) ?_
        refine g_get (C := RX9) (T := TX9) (N := 32) hx hcd hts (fun _ h => List.mem_cons_of_mem _ (List.mem_append_right _ h)) hown hK hP (i := 0) rfl BMod_c0 rfl 17 (by decide) (by decide +kernel) rfl dX9_marks_13 ?_
        refine lv_iload_n hx hcd dX9_marks_16 rfl (lv_at hl 2 rfl) ?_
        refine g_iald hx hcd hK hP (i := 0) rfl BMod_c7 (by omega) (by decide) dX9_marks_17 ?_
        have f1 := hpq i.toNat
        refine wi_if_ge (tgt := 25) hx hcd (by omega) dX9_marks_18 (by decide) (fun c18 => ?_) (fun c18 => ?_)
        ·
          refine wi_iconst hx hcd dX9_marks_25 ?_
          refine wi_iadd hx hcd dX9_marks_26 ?_
          refine lv_istore_n (lv' := [(1, .int (iI (m + 1))), (0, .ref (qM 0)), (2, .int (iI i))]) hx hcd dX9_marks_27 rfl hl (by decide) rfl (fun ls hl => ?_)
          refine lv_iinc (v := iI (i + 1)) (lv' := [(2, .int (iI (i + 1))), (1, .int (iI (m + 1))), (0, .ref (qM 0))]) hx hcd dX9_marks_28 hl (k := 2) rfl (iI_add _ _) (by decide) rfl (fun ls hl => ?_)
          refine lv_goto (tgt := 4) hx hcd dX9_marks_31 (by decide) ?_
          exact ih4 (m + 1) (i + 1) _ _ _ (by omega) (by omega) (by rw [ctB_s (by omega)]; simp only [decide_eq_true_eq]; split <;> omega) hP hD hS (lv_sub hl [2, 1, 0] rfl)
        ·
          refine wi_iconst hx hcd dX9_marks_21 ?_
          refine lv_goto (tgt := 26) hx hcd dX9_marks_22 (by decide) ?_
          refine wi_iadd hx hcd dX9_marks_26 ?_
          refine lv_istore_n (lv' := [(1, .int (iI (m + 0))), (0, .ref (qM 0)), (2, .int (iI i))]) hx hcd dX9_marks_27 rfl hl (by decide) rfl (fun ls hl => ?_)
          refine lv_iinc (v := iI (i + 1)) (lv' := [(2, .int (iI (i + 1))), (1, .int (iI (m + 0))), (0, .ref (qM 0))]) hx hcd dX9_marks_28 hl (k := 2) rfl (iI_add _ _) (by decide) rfl (fun ls hl => ?_)
          refine lv_goto (tgt := 4) hx hcd dX9_marks_31 (by decide) ?_
          exact ih4 (m + 0) (i + 1) _ _ _ (by omega) (by omega) (by rw [ctB_s (by omega)]; simp only [decide_eq_true_eq]; split <;> omega) hP hD hS (lv_sub hl [2, 1, 0] rfl)
  exact L4 (((1200 - 0) + 1 : Int)).toNat 0 0 _ _ _ (by omega) (by omega) (by rfl) hP hD hS (lv_sub hl [2, 1, 0] rfl)
