abbrev rmX9_smoothOf : Room := { frames := 0, cells := 0, slots := 0, locals := 0 }
set_option maxHeartbeats 4000000 in
set_option maxRecDepth 100000 in
theorem kX9_smoothOf (l : Launch) (D : va_G) (G : Nat → ClassId) (qM : Nat → Nat) (st : Int) (th : Nat → Int) (R : Nat → Nat → Int) (ac : Nat → Int) (up : Nat → Int) (li : Nat → Int) (le : Nat → Int) (pg : Int) (spc : Int) (pw : Int) (ld : Int) (sn : Int) (tk : Int) (ss : Int) (sh : Int) (dn : Int) (pp : Nat → Int) (ps : Nat → Int) (wo : Int) (lo : Int) (be : Int) (hb : Nat → Nat → Int) (tt : Nat → Int) (rf : Nat → Int) (mbt : Nat → Int) (mle : Nat → Int) (mbo : Nat → Int) (mwo : Int) (mlo : Int) (mbe : Int) (mmk : Nat → Int) (mms : Nat → Int) (mwh : Int) (c : Int) (hst : 2 ≤ st ∧ st ≤ 16) (hR : ∀ i j, 0 ≤ R i j ∧ R i j ≤ 9) (hc : 0 ≤ c ∧ c < 12) : CtI l yX9_smoothOf wsX9_smoothOf rmX9_smoothOf D G [.ref (qM 0), .int (iI c)] [BMod G qM st th (cmOf R) ac up li pg le spc pw ld (wr ss) sn tk ss sh dn pp ps (faOf wo lo be) (hbOf hb) tt (sh1 rf) mbt mle mbo mwo mlo mbe mmk mms mwh] (fun (r : Int32) (_ : Unit) => r = iI (gs st (R c.toNat) st.toNat)) (fun _ => [BMod G qM st th (cmOf R) ac up li pg le spc pw ld (wr ss) sn tk ss sh dn pp ps (faOf wo lo be) (hbOf hb) tt (sh1 rf) mbt mle mbo mwo mlo mbe mmk mms mwh]) := by
  refine CtI.ofI (cc := cX9_smoothOf) (maxL := 5) (by decide) rfl (Nat.le_of_ble_eq_true rfl) ?_
  intro p0 e0 s0 m0 args bel met cd A0 ls Q0 hx hcd hml hown hts hK hP hD hA hl fin
  have hl : lv_has ls 5 [(0, .ref (qM 0)), (1, .int (iI c))] := hl
  have hS : va_S A0 s0.heap s0.heap [] := va_S.rf
  have hH : va_P D vwCl (fl [BMod G qM st th (cmOf R) ac up li pg le spc pw ld (wr ss) sn tk ss sh dn pp ps (faOf wo lo be) (hbOf hb) tt (sh1 rf) mbt mle mbo mwo mlo mbe mmk mms mwh]) s0.heap := hP
  obtain ⟨H, eH⟩ : ∃ H, H = s0.heap := ⟨_, rfl⟩
  obtain ⟨locs, eL⟩ : ∃ locs : List Loc, locs = [] := ⟨_, rfl⟩
  have hS : va_S A0 s0.heap H locs := by rw [eH, eL]; exact hS
  have hP : va_P D vwCl (fl [BMod G qM st th (cmOf R) ac up li pg le spc pw ld (wr ss) sn tk ss sh dn pp ps (faOf wo lo be) (hbOf hb) tt (sh1 rf) mbt mle mbo mwo mlo mbe mmk mms mwh]) H := by rw [eH]; exact hP
  suffices goal : W p0 l e0 rmX9_smoothOf s0 m0 args bel met cd H locs 0 0 Q0 (F0 m0 0 ls []) by rw [eH, eL] at goal; exact goal
  clear eH eL hH
  refine wi_iconst hx hcd dX9_smoothOf_0 ?_
  refine lv_istore_n (lv' := [(2, .int (iI 0)), (0, .ref (qM 0)), (1, .int (iI c))]) hx hcd dX9_smoothOf_1 rfl hl (by decide) rfl (fun ls hl => ?_)
  refine wi_iconst hx hcd dX9_smoothOf_2 ?_
  refine lv_istore_n (lv' := [(3, .int (iI 0)), (2, .int (iI 0)), (0, .ref (qM 0)), (1, .int (iI c))]) hx hcd dX9_smoothOf_3 rfl hl (by decide) rfl (fun ls hl => ?_)
  have L4 : ∀ (fu : Nat) (g : Int) (i : Int) (H : Heap) (locs : List Loc) (ls : Array Slot), (st - i < (fu : Int)) → (0 ≤ i ∧ i ≤ st) → (g = gs st (R c.toNat) i.toNat) → va_P D vwCl (fl [BMod G qM st th (cmOf R) ac up li pg le spc pw ld (wr ss) sn tk ss sh dn pp ps (faOf wo lo be) (hbOf hb) tt (sh1 rf) mbt mle mbo mwo mlo mbe mmk mms mwh]) H → va_D A0 (fl [BMod G qM st th (cmOf R) ac up li pg le spc pw ld (wr ss) sn tk ss sh dn pp ps (faOf wo lo be) (hbOf hb) tt (sh1 rf) mbt mle mbo mwo mlo mbe mmk mms mwh]) → va_S A0 s0.heap H locs → lv_has ls 5 [(0, .ref (qM 0)), (1, .int (iI c)), (2, .int (iI g)), (3, .int (iI i))] → W p0 l e0 rmX9_smoothOf s0 m0 args bel met cd H locs 0 0 Q0 (F0 m0 4 ls []) := by
    intro fu
    induction fu with
    | zero =>
      intro g i H locs ls hfu hi hg
      exact absurd hfu (by omega)
    | succ fu ih =>
      intro g i H locs ls hfu hi hg hP hD hS hl
      have ih4 := ih
      clear ih
      refine lv_iload_n hx hcd dX9_smoothOf_4 rfl (lv_at hl 3 rfl) ?_
      refine lv_aload_n hx hcd dX9_smoothOf_5 rfl (lv_at hl 0 rfl) ?_
      refine g_get (C := RX9) (T := TX9) (N := 32) hx hcd hts (fun _ h => List.mem_cons_of_mem _ (List.mem_append_right _ h)) hown hK hP (i := 0) rfl BMod_c0 rfl 0 (by decide) (by decide +kernel) rfl dX9_smoothOf_6 ?_
      refine wi_icmp_ge (tgt := 78) hx hcd (by omega) (by omega) dX9_smoothOf_9 (by decide) (fun c9 => ?_) (fun c9 => ?_)
      ·
        refine lv_iload_n hx hcd dX9_smoothOf_78 rfl (lv_at hl 2 rfl) ?_
        exact fin _ () H locs ls 79 dX9_smoothOf_79 hP hD hS (trivial) (congrArg iI (by rw [hg, show i = st by omega]))
      ·
        refine lv_aload_n hx hcd dX9_smoothOf_12 rfl (lv_at hl 0 rfl) ?_
        refine g_get (C := RX9) (T := TX9) (N := 32) hx hcd hts (fun _ h => List.mem_cons_of_mem _ (List.mem_append_right _ h)) hown hK hP (i := 0) rfl BMod_c0 rfl 2 (by decide) (by decide +kernel) rfl dX9_smoothOf_13 ?_
        refine wi_bipush hx hcd dX9_smoothOf_16 (by decide) ?_
        refine lv_iload_n hx hcd dX9_smoothOf_18 rfl (lv_at hl 1 rfl) ?_
        refine wi_imul hx hcd dX9_smoothOf_19 ?_
        refine lv_iload_n hx hcd dX9_smoothOf_20 rfl (lv_at hl 3 rfl) ?_
        refine wi_iadd hx hcd dX9_smoothOf_21 ?_
        refine g_iald hx hcd hK hP (i := 0) rfl BMod_c2 (by omega) (by decide) dX9_smoothOf_22 ?_
        rw [show ((cmOf R) (((16 * c) + i).toNat) : Int) = R c.toNat i.toNat from cm_at (c := c) (t := i) (by omega) (by omega)]
        have f1 := hR c.toNat i.toNat
        refine lv_aload_n hx hcd dX9_smoothOf_23 rfl (lv_at hl 0 rfl) ?_
        refine g_get (C := RX9) (T := TX9) (N := 32) hx hcd hts (fun _ h => List.mem_cons_of_mem _ (List.mem_append_right _ h)) hown hK hP (i := 0) rfl BMod_c0 rfl 2 (by decide) (by decide +kernel) rfl dX9_smoothOf_24 ?_
        refine wi_bipush hx hcd dX9_smoothOf_27 (by decide) ?_
        refine lv_iload_n hx hcd dX9_smoothOf_29 rfl (lv_at hl 1 rfl) ?_
        refine wi_imul hx hcd dX9_smoothOf_30 ?_
        refine lv_iload_n hx hcd dX9_smoothOf_31 rfl (lv_at hl 3 rfl) ?_
        refine wi_iconst hx hcd dX9_smoothOf_32 ?_
        refine wi_iadd hx hcd dX9_smoothOf_33 ?_
        refine lv_aload_n hx hcd dX9_smoothOf_34 rfl (lv_at hl 0 rfl) ?_
        refine g_get (C := RX9) (T := TX9) (N := 32) hx hcd hts (fun _ h => List.mem_cons_of_mem _ (List.mem_append_right _ h)) hown hK hP (i := 0) rfl BMod_c0 rfl 0 (by decide) (by decide +kernel) rfl dX9_smoothOf_35 ?_
        refine wi_irem hx hcd (by omega) (by omega) dX9_smoothOf_38 ?_
        have f2 := fw_rng (st := st) (x := i + 1) (by omega)
        rw [show ((i + 1) % st : Int) = fw st (i + 1) from fw_mod (by omega)]
        refine wi_iadd hx hcd dX9_smoothOf_39 ?_
        refine g_iald hx hcd hK hP (i := 0) rfl BMod_c2 (by omega) (by decide) dX9_smoothOf_40 ?_
        rw [show ((cmOf R) (((16 * c) + (fw st (i + 1))).toNat) : Int) = R c.toNat (fw st (i + 1)).toNat from cm_at (c := c) (t := (fw st (i + 1))) (by omega) (by omega)]
        have f3 := hR c.toNat (fw st (i + 1)).toNat
        refine wi_isub hx hcd dX9_smoothOf_41 ?_
        have hgr := gs_rng st (R c.toNat) (hR c.toNat) i.toNat
        refine lv_istore (lv' := [(4, .int (iI ((R c.toNat i.toNat) - (R c.toNat (fw st (i + 1)).toNat)))), (0, .ref (qM 0)), (1, .int (iI c)), (2, .int (iI g)), (3, .int (iI i))]) hx hcd dX9_smoothOf_42 hl (by decide) rfl (fun ls hl => ?_)
        refine lv_iload hx hcd dX9_smoothOf_44 (lv_at hl 0 rfl) ?_
        refine wi_if_ge (tgt := 55) hx hcd (by omega) dX9_smoothOf_46 (by decide) (fun c46 => ?_) (fun c46 => ?_)
        ·
          refine lv_iload hx hcd dX9_smoothOf_55 (lv_at hl 0 rfl) ?_
          refine lv_istore (lv' := [(4, .int (iI ((R c.toNat i.toNat) - (R c.toNat (fw st (i + 1)).toNat)))), (0, .ref (qM 0)), (1, .int (iI c)), (2, .int (iI g)), (3, .int (iI i))]) hx hcd dX9_smoothOf_57 hl (by decide) rfl (fun ls hl => ?_)
          refine lv_iload hx hcd dX9_smoothOf_59 (lv_at hl 0 rfl) ?_
          refine lv_iload_n hx hcd dX9_smoothOf_61 rfl (lv_at hl 3 rfl) ?_
          refine wi_icmp_le (tgt := 70) hx hcd (by omega) (by omega) dX9_smoothOf_62 (by decide) (fun c62 => ?_) (fun c62 => ?_)
          ·
            refine lv_iload_n hx hcd dX9_smoothOf_70 rfl (lv_at hl 3 rfl) ?_
            refine lv_istore_n (lv' := [(2, .int (iI g)), (4, .int (iI ((R c.toNat i.toNat) - (R c.toNat (fw st (i + 1)).toNat)))), (0, .ref (qM 0)), (1, .int (iI c)), (3, .int (iI i))]) hx hcd dX9_smoothOf_71 rfl hl (by decide) rfl (fun ls hl => ?_)
            refine lv_iinc (v := iI (i + 1)) (lv' := [(3, .int (iI (i + 1))), (2, .int (iI g)), (4, .int (iI ((R c.toNat i.toNat) - (R c.toNat (fw st (i + 1)).toNat)))), (0, .ref (qM 0)), (1, .int (iI c))]) hx hcd dX9_smoothOf_72 hl (k := 4) rfl (iI_add _ _) (by decide) rfl (fun ls hl => ?_)
            refine lv_goto (tgt := 4) hx hcd dX9_smoothOf_75 (by decide) ?_
            exact ih4 g (i + 1) _ _ _ (by omega) (by omega) (by rw [gs_s (by omega), ← hg]; (repeat' split) <;> omega) hP hD hS (lv_sub hl [3, 4, 1, 0] rfl)
          ·
            refine lv_iload hx hcd dX9_smoothOf_65 (lv_at hl 0 rfl) ?_
            refine lv_goto (tgt := 71) hx hcd dX9_smoothOf_67 (by decide) ?_
            refine lv_istore_n (lv' := [(2, .int (iI ((R c.toNat i.toNat) - (R c.toNat (fw st (i + 1)).toNat)))), (4, .int (iI ((R c.toNat i.toNat) - (R c.toNat (fw st (i + 1)).toNat)))), (0, .ref (qM 0)), (1, .int (iI c)), (3, .int (iI i))]) hx hcd dX9_smoothOf_71 rfl hl (by decide) rfl (fun ls hl => ?_)
            refine lv_iinc (v := iI (i + 1)) (lv' := [(3, .int (iI (i + 1))), (2, .int (iI ((R c.toNat i.toNat) - (R c.toNat (fw st (i + 1)).toNat)))), (4, .int (iI ((R c.toNat i.toNat) - (R c.toNat (fw st (i + 1)).toNat)))), (0, .ref (qM 0)), (1, .int (iI c))]) hx hcd dX9_smoothOf_72 hl (k := 4) rfl (iI_add _ _) (by decide) rfl (fun ls hl => ?_)
            refine lv_goto (tgt := 4) hx hcd dX9_smoothOf_75 (by decide) ?_
            exact ih4 ((R c.toNat i.toNat) - (R c.toNat (fw st (i + 1)).toNat)) (i + 1) _ _ _ (by omega) (by omega) (by rw [gs_s (by omega), ← hg]; (repeat' split) <;> omega) hP hD hS (lv_sub hl [3, 4, 1, 0] rfl)
        ·
          refine lv_iload hx hcd dX9_smoothOf_49 (lv_at hl 0 rfl) ?_
          refine wi_ineg hx hcd dX9_smoothOf_51 ?_
          refine lv_goto (tgt := 57) hx hcd dX9_smoothOf_52 (by decide) ?_
          refine lv_istore (lv' := [(4, .int (iI (-((R c.toNat i.toNat) - (R c.toNat (fw st (i + 1)).toNat))))), (0, .ref (qM 0)), (1, .int (iI c)), (2, .int (iI g)), (3, .int (iI i))]) hx hcd dX9_smoothOf_57 hl (by decide) rfl (fun ls hl => ?_)
          refine lv_iload hx hcd dX9_smoothOf_59 (lv_at hl 0 rfl) ?_
          refine lv_iload_n hx hcd dX9_smoothOf_61 rfl (lv_at hl 3 rfl) ?_
          refine wi_icmp_le (tgt := 70) hx hcd (by omega) (by omega) dX9_smoothOf_62 (by decide) (fun c62 => ?_) (fun c62 => ?_)
          ·
            refine lv_iload_n hx hcd dX9_smoothOf_70 rfl (lv_at hl 3 rfl) ?_
            refine lv_istore_n (lv' := [(2, .int (iI g)), (4, .int (iI (-((R c.toNat i.toNat) - (R c.toNat (fw st (i + 1)).toNat))))), (0, .ref (qM 0)), (1, .int (iI c)), (3, .int (iI i))]) hx hcd dX9_smoothOf_71 rfl hl (by decide) rfl (fun ls hl => ?_)
            refine lv_iinc (v := iI (i + 1)) (lv' := [(3, .int (iI (i + 1))), (2, .int (iI g)), (4, .int (iI (-((R c.toNat i.toNat) - (R c.toNat (fw st (i + 1)).toNat))))), (0, .ref (qM 0)), (1, .int (iI c))]) hx hcd dX9_smoothOf_72 hl (k := 4) rfl (iI_add _ _) (by decide) rfl (fun ls hl => ?_)
            refine lv_goto (tgt := 4) hx hcd dX9_smoothOf_75 (by decide) ?_
            exact ih4 g (i + 1) _ _ _ (by omega) (by omega) (by rw [gs_s (by omega), ← hg]; (repeat' split) <;> omega) hP hD hS (lv_sub hl [3, 4, 1, 0] rfl)
          ·
            refine lv_iload hx hcd dX9_smoothOf_65 (lv_at hl 0 rfl) ?_
            refine lv_goto (tgt := 71) hx hcd dX9_smoothOf_67 (by decide) ?_
            refine lv_istore_n (lv' := [(2, .int (iI (-((R c.toNat i.toNat) - (R c.toNat (fw st (i + 1)).toNat))))), (4, .int (iI (-((R c.toNat i.toNat) - (R c.toNat (fw st (i + 1)).toNat))))), (0, .ref (qM 0)), (1, .int (iI c)), (3, .int (iI i))]) hx hcd dX9_smoothOf_71 rfl hl (by decide) rfl (fun ls hl => ?_)
            refine lv_iinc (v := iI (i + 1)) (lv' := [(3, .int (iI (i + 1))), (2, .int (iI (-((R c.toNat i.toNat) - (R c.toNat (fw st (i + 1)).toNat))))), (4, .int (iI (-((R c.toNat i.toNat) - (R c.toNat (fw st (i + 1)).toNat))))), (0, .ref (qM 0)), (1, .int (iI c))]) hx hcd dX9_smoothOf_72 hl (k := 4) rfl (iI_add _ _) (by decide) rfl (fun ls hl => ?_)
            refine lv_goto (tgt := 4) hx hcd dX9_smoothOf_75 (by decide) ?_
            exact ih4 (-((R c.toNat i.toNat) - (R c.toNat (fw st (i + 1)).toNat))) (i + 1) _ _ _ (by omega) (by omega) (by rw [gs_s (by omega), ← hg]; (repeat' split) <;> omega) hP hD hS (lv_sub hl [3, 4, 1, 0] rfl)
  exact L4 (((st - 0) + 1 : Int)).toNat 0 0 _ _ _ (by omega) (by omega) (by rfl) hP hD hS (lv_sub hl [2, 3, 1, 0] rfl)
