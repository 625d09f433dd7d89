abbrev rmX9_timesIn : Room := { frames := 0, cells := 0, slots := 0, locals := 0 }
set_option maxHeartbeats 4000000 in
set_option maxRecDepth 100000 in
theorem kX9_timesIn (l : Launch) (D : va_G) (G : Nat → ClassId) (qM : Nat → Nat) (st : Int) (th : Nat → Int) (R : Nat → Nat → Int) (ac : Nat → Int) (up : Nat → Int) (li : Nat → Int) (le : Nat → Int) (pg : Int) (spc : Int) (pw : Int) (ld : Int) (sn : Int) (tk : Int) (ss : Int) (sh : Int) (dn : Int) (pp : Nat → Int) (ps : Nat → Int) (wo : Int) (lo : Int) (be : Int) (hb : Nat → Nat → Int) (tt : Nat → Int) (rf : Nat → Int) (mbt : Nat → Int) (mle : Nat → Int) (mbo : Nat → Int) (mwo : Int) (mlo : Int) (mbe : Int) (mmk : Nat → Int) (mms : Nat → Int) (mwh : Int) (c : Int) (h : Int) (hst : 2 ≤ st ∧ st ≤ 16) (hR : ∀ i j, 0 ≤ R i j ∧ R i j ≤ 9) (hc : 0 ≤ c ∧ c < 12) (hh : 0 ≤ h ∧ h < 10) : CtI l yX9_timesIn wsX9_timesIn rmX9_timesIn D G [.ref (qM 0), .int (iI c), .int (iI h)] [BMod G qM st th (cmOf R) ac up li pg le spc pw ld (wr ss) sn tk ss sh dn pp ps (faOf wo lo be) (hbOf hb) tt (sh1 rf) mbt mle mbo mwo mlo mbe mmk mms mwh] (fun (r : Int32) (_ : Unit) => r = iI (ti (R c.toNat) st.toNat h.toNat)) (fun _ => [BMod G qM st th (cmOf R) ac up li pg le spc pw ld (wr ss) sn tk ss sh dn pp ps (faOf wo lo be) (hbOf hb) tt (sh1 rf) mbt mle mbo mwo mlo mbe mmk mms mwh]) := by
  refine CtI.ofI (cc := cX9_timesIn) (maxL := 5) (by decide) rfl (Nat.le_of_ble_eq_true rfl) ?_
  intro p0 e0 s0 m0 args bel met cd A0 ls Q0 hx hcd hml hown hts hK hP hD hA hl fin
  have hl : lv_has ls 5 [(0, .ref (qM 0)), (1, .int (iI c)), (2, .int (iI h))] := hl
  have hS : va_S A0 s0.heap s0.heap [] := va_S.rf
  have hH : va_P D vwCl (fl [BMod G qM st th (cmOf R) ac up li pg le spc pw ld (wr ss) sn tk ss sh dn pp ps (faOf wo lo be) (hbOf hb) tt (sh1 rf) mbt mle mbo mwo mlo mbe mmk mms mwh]) s0.heap := hP
  obtain ⟨H, eH⟩ : ∃ H, H = s0.heap := ⟨_, rfl⟩
  obtain ⟨locs, eL⟩ : ∃ locs : List Loc, locs = [] := ⟨_, rfl⟩
  have hS : va_S A0 s0.heap H locs := by rw [eH, eL]; exact hS
  have hP : va_P D vwCl (fl [BMod G qM st th (cmOf R) ac up li pg le spc pw ld (wr ss) sn tk ss sh dn pp ps (faOf wo lo be) (hbOf hb) tt (sh1 rf) mbt mle mbo mwo mlo mbe mmk mms mwh]) H := by rw [eH]; exact hP
  suffices goal : W p0 l e0 rmX9_timesIn s0 m0 args bel met cd H locs 0 0 Q0 (F0 m0 0 ls []) by rw [eH, eL] at goal; exact goal
  clear eH eL hH
  refine wi_iconst hx hcd dX9_timesIn_0 ?_
  refine lv_istore_n (lv' := [(3, .int (iI 0)), (0, .ref (qM 0)), (1, .int (iI c)), (2, .int (iI h))]) hx hcd dX9_timesIn_1 rfl hl (by decide) rfl (fun ls hl => ?_)
  refine wi_iconst hx hcd dX9_timesIn_2 ?_
  refine lv_istore (lv' := [(4, .int (iI 0)), (3, .int (iI 0)), (0, .ref (qM 0)), (1, .int (iI c)), (2, .int (iI h))]) hx hcd dX9_timesIn_3 hl (by decide) rfl (fun ls hl => ?_)
  have L5 : ∀ (fu : Nat) (m : Int) (i : Int) (H : Heap) (locs : List Loc) (ls : Array Slot), (st - i < (fu : Int)) → (0 ≤ i ∧ i ≤ st) → (m = ti (R c.toNat) i.toNat h.toNat) → va_P D vwCl (fl [BMod G qM st th (cmOf R) ac up li pg le spc pw ld (wr ss) sn tk ss sh dn pp ps (faOf wo lo be) (hbOf hb) tt (sh1 rf) mbt mle mbo mwo mlo mbe mmk mms mwh]) H → va_D A0 (fl [BMod G qM st th (cmOf R) ac up li pg le spc pw ld (wr ss) sn tk ss sh dn pp ps (faOf wo lo be) (hbOf hb) tt (sh1 rf) mbt mle mbo mwo mlo mbe mmk mms mwh]) → va_S A0 s0.heap H locs → lv_has ls 5 [(0, .ref (qM 0)), (1, .int (iI c)), (2, .int (iI h)), (3, .int (iI m)), (4, .int (iI i))] → W p0 l e0 rmX9_timesIn s0 m0 args bel met cd H locs 0 0 Q0 (F0 m0 5 ls []) := by
    intro fu
    induction fu with
    | zero =>
      intro m i H locs ls hfu hi hm
      exact absurd hfu (by omega)
    | succ fu ih =>
      intro m i H locs ls hfu hi hm hP hD hS hl
      have ih5 := ih
      clear ih
      refine lv_iload hx hcd dX9_timesIn_5 (lv_at hl 4 rfl) ?_
      refine lv_aload_n hx hcd dX9_timesIn_7 rfl (lv_at hl 0 rfl) ?_
      refine g_get (C := RX9) (T := TX9) (N := 32) hx hcd hts (fun _ h => List.mem_cons_of_mem _ (List.mem_append_right _ h)) hown hK hP (i := 0) rfl BMod_c0 rfl 0 (by decide) (by decide +kernel) rfl dX9_timesIn_8 ?_
      refine wi_icmp_ge (tgt := 44) hx hcd (by omega) (by omega) dX9_timesIn_11 (by decide) (fun c11 => ?_) (fun c11 => ?_)
      ·
        refine lv_iload_n hx hcd dX9_timesIn_44 rfl (lv_at hl 3 rfl) ?_
        exact fin _ () H locs ls 45 dX9_timesIn_45 hP hD hS (trivial) (congrArg iI (by rw [hm, show i = st by omega]))
      ·
        refine lv_iload_n hx hcd dX9_timesIn_14 rfl (lv_at hl 3 rfl) ?_
        refine lv_aload_n hx hcd dX9_timesIn_15 rfl (lv_at hl 0 rfl) ?_
        refine g_get (C := RX9) (T := TX9) (N := 32) hx hcd hts (fun _ h => List.mem_cons_of_mem _ (List.mem_append_right _ h)) hown hK hP (i := 0) rfl BMod_c0 rfl 2 (by decide) (by decide +kernel) rfl dX9_timesIn_16 ?_
        refine wi_bipush hx hcd dX9_timesIn_19 (by decide) ?_
        refine lv_iload_n hx hcd dX9_timesIn_21 rfl (lv_at hl 1 rfl) ?_
        refine wi_imul hx hcd dX9_timesIn_22 ?_
        refine lv_iload hx hcd dX9_timesIn_23 (lv_at hl 4 rfl) ?_
        refine wi_iadd hx hcd dX9_timesIn_25 ?_
        refine g_iald hx hcd hK hP (i := 0) rfl BMod_c2 (by omega) (by decide) dX9_timesIn_26 ?_
        rw [show ((cmOf R) (((16 * c) + i).toNat) : Int) = R c.toNat i.toNat from cm_at (c := c) (t := i) (by omega) (by omega)]
        have f1 := hR c.toNat i.toNat
        refine lv_iload_n hx hcd dX9_timesIn_27 rfl (lv_at hl 2 rfl) ?_
        refine wi_icmp_ne (tgt := 35) hx hcd (by omega) (by omega) dX9_timesIn_28 (by decide) (fun c28 => ?_) (fun c28 => ?_)
        ·
          refine wi_iconst hx hcd dX9_timesIn_35 ?_
          refine wi_iadd hx hcd dX9_timesIn_36 ?_
          refine lv_istore_n (lv' := [(3, .int (iI (m + 0))), (0, .ref (qM 0)), (1, .int (iI c)), (2, .int (iI h)), (4, .int (iI i))]) hx hcd dX9_timesIn_37 rfl hl (by decide) rfl (fun ls hl => ?_)
          refine lv_iinc (v := iI (i + 1)) (lv' := [(4, .int (iI (i + 1))), (3, .int (iI (m + 0))), (0, .ref (qM 0)), (1, .int (iI c)), (2, .int (iI h))]) hx hcd dX9_timesIn_38 hl (k := 4) rfl (iI_add _ _) (by decide) rfl (fun ls hl => ?_)
          refine lv_goto (tgt := 5) hx hcd dX9_timesIn_41 (by decide) ?_
          exact ih5 (m + 0) (i + 1) _ _ _ (by omega) (by omega) (by rw [hm]; unfold ti; rw [ctB_s (by omega)]; simp only [decide_eq_true_eq]; split <;> omega) hP hD hS (lv_sub hl [2, 3, 4, 1, 0] rfl)
        ·
          refine wi_iconst hx hcd dX9_timesIn_31 ?_
          refine lv_goto (tgt := 36) hx hcd dX9_timesIn_32 (by decide) ?_
          refine wi_iadd hx hcd dX9_timesIn_36 ?_
          refine lv_istore_n (lv' := [(3, .int (iI (m + 1))), (0, .ref (qM 0)), (1, .int (iI c)), (2, .int (iI h)), (4, .int (iI i))]) hx hcd dX9_timesIn_37 rfl hl (by decide) rfl (fun ls hl => ?_)
          refine lv_iinc (v := iI (i + 1)) (lv' := [(4, .int (iI (i + 1))), (3, .int (iI (m + 1))), (0, .ref (qM 0)), (1, .int (iI c)), (2, .int (iI h))]) hx hcd dX9_timesIn_38 hl (k := 4) rfl (iI_add _ _) (by decide) rfl (fun ls hl => ?_)
          refine lv_goto (tgt := 5) hx hcd dX9_timesIn_41 (by decide) ?_
          exact ih5 (m + 1) (i + 1) _ _ _ (by omega) (by omega) (by rw [hm]; unfold ti; rw [ctB_s (by omega)]; simp only [decide_eq_true_eq]; split <;> omega) hP hD hS (lv_sub hl [2, 3, 4, 1, 0] rfl)
  exact L5 (((st - 0) + 1 : Int)).toNat 0 0 _ _ _ (by omega) (by omega) (by rfl) hP hD hS (lv_sub hl [2, 3, 4, 1, 0] rfl)
