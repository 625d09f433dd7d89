abbrev rmX9_likeness : Room := { frames := 1, cells := 0, slots := 0, locals := 24 }
set_option maxHeartbeats 4000000 in
set_option maxRecDepth 100000 in
theorem kX9_likeness (l : Launch) (D : va_G) (G : Nat → ClassId) (qM : Nat → Nat) (st : Int) (th : Nat → Int) (R : Nat → Nat → Int) (ac : Nat → Int) (up : Nat → Int) (li : Nat → Int) (le : Nat → Int) (pg : Int) (spc : Int) (pw : Int) (ld : Int) (sn : Int) (tk : Int) (ss : Int) (sh : Int) (dn : Int) (pp : Nat → Int) (ps : Nat → Int) (wo : Int) (lo : Int) (be : Int) (hb : Nat → Nat → Int) (tt : Nat → Int) (rf : Nat → Int) (mbt : Nat → Int) (mle : Nat → Int) (mbo : Nat → Int) (mwo : Int) (mlo : Int) (mbe : Int) (mmk : Nat → Int) (mms : Nat → Int) (mwh : Int) (c : Int) (k : Int) (hst : 2 ≤ st ∧ st ≤ 16) (hR : ∀ i j, 0 ≤ R i j ∧ R i j ≤ 9) (hhb : ∀ i j, 0 ≤ hb i j ∧ hb i j ≤ 1000) (htt : ∀ k, 0 ≤ tt k ∧ tt k ≤ 1000) (hk : 0 ≤ k ∧ k < 4) (hc : 0 ≤ c ∧ c < 12) : CtI l yX9_likeness wsX9_likeness rmX9_likeness D G [.ref (qM 0), .int (iI c), .int (iI k)] [BMod G qM st th (cmOf R) ac up li pg le spc pw ld (wr ss) sn tk ss sh dn pp ps (faOf wo lo be) (hbOf hb) tt (sh1 rf) mbt mle mbo mwo mlo mbe mmk mms mwh] (fun (r : Int32) (_ : Unit) => r = iI (LK st (R c.toNat) (hb k.toNat) (tt k.toNat))) (fun _ => [BMod G qM st th (cmOf R) ac up li pg le spc pw ld (wr ss) sn tk ss sh dn pp ps (faOf wo lo be) (hbOf hb) tt (sh1 rf) mbt mle mbo mwo mlo mbe mmk mms mwh]) := by
  refine CtI.ofI (cc := cX9_likeness) (maxL := 6) (by decide) rfl (Nat.le_of_ble_eq_true rfl) ?_
  intro p0 e0 s0 m0 args bel met cd A0 ls Q0 hx hcd hml hown hts hK hP hD hA hl fin
  have hl : lv_has ls 6 [(0, .ref (qM 0)), (1, .int (iI c)), (2, .int (iI k))] := hl
  have hS : va_S A0 s0.heap s0.heap [] := va_S.rf
  have hH : va_P D vwCl (fl [BMod G qM st th (cmOf R) ac up li pg le spc pw ld (wr ss) sn tk ss sh dn pp ps (faOf wo lo be) (hbOf hb) tt (sh1 rf) mbt mle mbo mwo mlo mbe mmk mms mwh]) s0.heap := hP
  obtain ⟨H, eH⟩ : ∃ H, H = s0.heap := ⟨_, rfl⟩
  obtain ⟨locs, eL⟩ : ∃ locs : List Loc, locs = [] := ⟨_, rfl⟩
  have hS : va_S A0 s0.heap H locs := by rw [eH, eL]; exact hS
  have hP : va_P D vwCl (fl [BMod G qM st th (cmOf R) ac up li pg le spc pw ld (wr ss) sn tk ss sh dn pp ps (faOf wo lo be) (hbOf hb) tt (sh1 rf) mbt mle mbo mwo mlo mbe mmk mms mwh]) H := by rw [eH]; exact hP
  suffices goal : W p0 l e0 rmX9_likeness s0 m0 args bel met cd H locs 0 0 Q0 (F0 m0 0 ls []) by rw [eH, eL] at goal; exact goal
  clear eH eL hH
  refine wi_iconst hx hcd dX9_likeness_0 ?_
  refine lv_istore_n (lv' := [(3, .int (iI 0)), (0, .ref (qM 0)), (1, .int (iI c)), (2, .int (iI k))]) hx hcd dX9_likeness_1 rfl hl (by decide) rfl (fun ls hl => ?_)
  refine wi_iconst hx hcd dX9_likeness_2 ?_
  refine lv_istore (lv' := [(4, .int (iI 0)), (3, .int (iI 0)), (0, .ref (qM 0)), (1, .int (iI c)), (2, .int (iI k))]) hx hcd dX9_likeness_3 hl (by decide) rfl (fun ls hl => ?_)
  have L5 : ∀ (fu : Nat) (s : Int) (i : Int) (H : Heap) (locs : List Loc) (ls : Array Slot), (10 - i < (fu : Int)) → (0 ≤ i ∧ i ≤ 10) → (s = lk (ti (R c.toNat) st.toNat) (hb k.toNat) (tt k.toNat) st i.toNat) → va_P D vwCl (fl [BMod G qM st th (cmOf R) ac up li pg le spc pw ld (wr ss) sn tk ss sh dn pp ps (faOf wo lo be) (hbOf hb) tt (sh1 rf) mbt mle mbo mwo mlo mbe mmk mms mwh]) H → va_D A0 (fl [BMod G qM st th (cmOf R) ac up li pg le spc pw ld (wr ss) sn tk ss sh dn pp ps (faOf wo lo be) (hbOf hb) tt (sh1 rf) mbt mle mbo mwo mlo mbe mmk mms mwh]) → va_S A0 s0.heap H locs → lv_has ls 6 [(0, .ref (qM 0)), (1, .int (iI c)), (2, .int (iI k)), (3, .int (iI s)), (4, .int (iI i))] → W p0 l e0 rmX9_likeness s0 m0 args bel met cd H locs 0 0 Q0 (F0 m0 5 ls []) := by
    intro fu
    induction fu with
    | zero =>
      intro s i H locs ls hfu hi hs
      exact absurd hfu (by omega)
    | succ fu ih =>
      intro s i H locs ls hfu hi hs hP hD hS hl
      have ih5 := ih
      clear ih
      refine lv_iload hx hcd dX9_likeness_5 (lv_at hl 4 rfl) ?_
      refine wi_bipush hx hcd dX9_likeness_7 (by decide) ?_
      refine wi_icmp_ge (tgt := 68) hx hcd (by omega) (by omega) dX9_likeness_9 (by decide) (fun c9 => ?_) (fun c9 => ?_)
      ·
        refine lv_iload_n hx hcd dX9_likeness_68 rfl (lv_at hl 3 rfl) ?_
        exact fin _ () H locs ls 69 dX9_likeness_69 hP hD hS (trivial) (congrArg iI (by rw [hs, show i = 10 by omega]; rfl))
      ·
        have b1 := ctB_rng (fun t => decide (R c.toNat t = (i.toNat : Int))) st.toNat
        have b0 : ti (R c.toNat) st.toNat i.toNat = ctB (fun t => decide (R c.toNat t = (i.toNat : Int))) st.toNat := rfl
        have b2 := htt k.toNat
        have b3 := hhb k.toNat i.toNat
        have b4 := mul_b (A := 16) (B := 1000) (a := ti (R c.toNat) st.toNat i.toNat) (b := tt k.toNat) (by rw [b0]; omega) b2
        have b5 := mul_b (A := 1000) (B := 16) (a := hb k.toNat i.toNat) (b := st) b3 (by omega)
        refine lv_aload_n hx hcd dX9_likeness_12 rfl (lv_at hl 0 rfl) ?_
        refine lv_iload_n hx hcd dX9_likeness_13 rfl (lv_at hl 1 rfl) ?_
        refine lv_iload hx hcd dX9_likeness_14 (lv_at hl 4 rfl) ?_
        refine cV_i (wc := [BMod G qM st th (cmOf R) ac up li pg le spc pw ld (wr ss) sn tk ss sh dn pp ps (faOf wo lo be) (hbOf hb) tt (sh1 rf) mbt mle mbo mwo mlo mbe mmk mms mwh]) (wr := []) (w1 := fun (_ : Unit) => [BMod G qM st th (cmOf R) ac up li pg le spc pw ld (wr ss) sn tk ss sh dn pp ps (faOf wo lo be) (hbOf hb) tt (sh1 rf) mbt mle mbo mwo mlo mbe mmk mms mwh]) (Bs1 := fun (_ : Unit) => [BMod G qM st th (cmOf R) ac up li pg le spc pw ld (wr ss) sn tk ss sh dn pp ps (faOf wo lo be) (hbOf hb) tt (sh1 rf) mbt mle mbo mwo mlo mbe mmk mms mwh]) (As := [.int (iI c), .int (iI i)]) (rest := []) (kX9_timesIn l D G qM st th R ac up li le pg spc pw ld sn tk ss sh dn pp ps wo lo be hb tt rf mbt mle mbo mwo mlo mbe mmk mms mwh c i (by first | assumption | omega) (by first | assumption | omega) (by first | assumption | omega) (by first | assumption | omega)) rfl ⟨hx, hcd, hml, hown, hts⟩ (cwV 2 hts gX9_likeness_X9_timesIn rfl rfl rfl (by decide +kernel) ⟨by decide, by decide⟩) (q0 := 0) (ci := 9) rfl rfl rfl rfl hl.1 (Nat.le_of_ble_eq_true rfl) ⟨Nat.le_of_ble_eq_true rfl, Nat.le_of_ble_eq_true rfl⟩ dX9_likeness_16 hK hP hD hS hA (perm_i2 [0] 1 rfl (by decide) rfl) (fun _ => perm_i2 [0] 1 rfl (by decide) rfl) (fun r u H locs hw1 hP hD hS => ?_)
        subst hw1
        refine lv_aload_n hx hcd dX9_likeness_19 rfl (lv_at hl 0 rfl) ?_
        refine g_get (C := RX9) (T := TX9) (N := 32) hx hcd hts (fun _ h => List.mem_cons_of_mem _ (List.mem_append_right _ h)) hown hK hP (i := 0) rfl BMod_c0 rfl 21 (by decide) (by decide +kernel) rfl dX9_likeness_20 ?_
        refine lv_iload_n hx hcd dX9_likeness_23 rfl (lv_at hl 2 rfl) ?_
        refine g_iald hx hcd hK hP (i := 0) rfl BMod_c11 (by omega) (by decide) dX9_likeness_24 ?_
        have f2 := htt k.toNat
        refine wi_imul hx hcd dX9_likeness_25 ?_
        refine lv_aload_n hx hcd dX9_likeness_26 rfl (lv_at hl 0 rfl) ?_
        refine g_get (C := RX9) (T := TX9) (N := 32) hx hcd hts (fun _ h => List.mem_cons_of_mem _ (List.mem_append_right _ h)) hown hK hP (i := 0) rfl BMod_c0 rfl 20 (by decide) (by decide +kernel) rfl dX9_likeness_27 ?_
        refine wi_bipush hx hcd dX9_likeness_30 (by decide) ?_
        refine lv_iload_n hx hcd dX9_likeness_32 rfl (lv_at hl 2 rfl) ?_
        refine wi_imul hx hcd dX9_likeness_33 ?_
        refine lv_iload hx hcd dX9_likeness_34 (lv_at hl 4 rfl) ?_
        refine wi_iadd hx hcd dX9_likeness_36 ?_
        refine g_iald hx hcd hK hP (i := 0) rfl BMod_c10 (by omega) (by decide) dX9_likeness_37 ?_
        rw [show ((hbOf hb) (((10 * k) + i).toNat) : Int) = hb k.toNat i.toNat from hb_at (c := k) (t := i) (by omega) (by omega)]
        have f3 := hhb k.toNat i.toNat
        refine lv_aload_n hx hcd dX9_likeness_38 rfl (lv_at hl 0 rfl) ?_
        refine g_get (C := RX9) (T := TX9) (N := 32) hx hcd hts (fun _ h => List.mem_cons_of_mem _ (List.mem_append_right _ h)) hown hK hP (i := 0) rfl BMod_c0 rfl 0 (by decide) (by decide +kernel) rfl dX9_likeness_39 ?_
        refine wi_imul hx hcd dX9_likeness_42 ?_
        refine wi_isub hx hcd dX9_likeness_43 ?_
        refine lv_istore (lv' := [(5, .int (iI (((ti (R c.toNat) st.toNat i.toNat) * (tt k.toNat)) - ((hb k.toNat i.toNat) * st)))), (0, .ref (qM 0)), (1, .int (iI c)), (2, .int (iI k)), (3, .int (iI s)), (4, .int (iI i))]) hx hcd dX9_likeness_44 hl (by decide) rfl (fun ls hl => ?_)
        refine lv_iload_n hx hcd dX9_likeness_46 rfl (lv_at hl 4 rfl) ?_
        refine lv_iload hx hcd dX9_likeness_47 (lv_at hl 0 rfl) ?_
        refine wi_if_ge (tgt := 58) hx hcd (by omega) dX9_likeness_49 (by decide) (fun c49 => ?_) (fun c49 => ?_)
        ·
          refine lv_iload hx hcd dX9_likeness_58 (lv_at hl 0 rfl) ?_
          refine wi_iadd hx hcd dX9_likeness_60 ?_
          refine lv_istore_n (lv' := [(3, .int (iI (s + (((ti (R c.toNat) st.toNat i.toNat) * (tt k.toNat)) - ((hb k.toNat i.toNat) * st))))), (5, .int (iI (((ti (R c.toNat) st.toNat i.toNat) * (tt k.toNat)) - ((hb k.toNat i.toNat) * st)))), (0, .ref (qM 0)), (1, .int (iI c)), (2, .int (iI k)), (4, .int (iI i))]) hx hcd dX9_likeness_61 rfl hl (by decide) rfl (fun ls hl => ?_)
          refine lv_iinc (v := iI (i + 1)) (lv' := [(4, .int (iI (i + 1))), (3, .int (iI (s + (((ti (R c.toNat) st.toNat i.toNat) * (tt k.toNat)) - ((hb k.toNat i.toNat) * st))))), (5, .int (iI (((ti (R c.toNat) st.toNat i.toNat) * (tt k.toNat)) - ((hb k.toNat i.toNat) * st)))), (0, .ref (qM 0)), (1, .int (iI c)), (2, .int (iI k))]) hx hcd dX9_likeness_62 hl (k := 5) rfl (iI_add _ _) (by decide) rfl (fun ls hl => ?_)
          refine lv_goto (tgt := 5) hx hcd dX9_likeness_65 (by decide) ?_
          exact ih5 (s + (((ti (R c.toNat) st.toNat i.toNat) * (tt k.toNat)) - ((hb k.toNat i.toNat) * st))) (i + 1) _ _ _ (by omega) (by omega) (by rw [lk_s (by omega), ← hs]; (repeat' split) <;> omega) hP hD hS (lv_sub hl [3, 4, 5, 1, 0] rfl)
        ·
          refine lv_iload hx hcd dX9_likeness_52 (lv_at hl 0 rfl) ?_
          refine wi_ineg hx hcd dX9_likeness_54 ?_
          refine lv_goto (tgt := 60) hx hcd dX9_likeness_55 (by decide) ?_
          refine wi_iadd hx hcd dX9_likeness_60 ?_
          refine lv_istore_n (lv' := [(3, .int (iI (s + (-(((ti (R c.toNat) st.toNat i.toNat) * (tt k.toNat)) - ((hb k.toNat i.toNat) * st)))))), (5, .int (iI (((ti (R c.toNat) st.toNat i.toNat) * (tt k.toNat)) - ((hb k.toNat i.toNat) * st)))), (0, .ref (qM 0)), (1, .int (iI c)), (2, .int (iI k)), (4, .int (iI i))]) hx hcd dX9_likeness_61 rfl hl (by decide) rfl (fun ls hl => ?_)
          refine lv_iinc (v := iI (i + 1)) (lv' := [(4, .int (iI (i + 1))), (3, .int (iI (s + (-(((ti (R c.toNat) st.toNat i.toNat) * (tt k.toNat)) - ((hb k.toNat i.toNat) * st)))))), (5, .int (iI (((ti (R c.toNat) st.toNat i.toNat) * (tt k.toNat)) - ((hb k.toNat i.toNat) * st)))), (0, .ref (qM 0)), (1, .int (iI c)), (2, .int (iI k))]) hx hcd dX9_likeness_62 hl (k := 5) rfl (iI_add _ _) (by decide) rfl (fun ls hl => ?_)
          refine lv_goto (tgt := 5) hx hcd dX9_likeness_65 (by decide) ?_
          exact ih5 (s + (-(((ti (R c.toNat) st.toNat i.toNat) * (tt k.toNat)) - ((hb k.toNat i.toNat) * st)))) (i + 1) _ _ _ (by omega) (by omega) (by rw [lk_s (by omega), ← hs]; (repeat' split) <;> omega) hP hD hS (lv_sub hl [3, 4, 5, 1, 0] rfl)
  exact L5 (((10 - 0) + 1 : Int)).toNat 0 0 _ _ _ (by omega) (by omega) (by rfl) hP hD hS (lv_sub hl [2, 3, 4, 1, 0] rfl)
