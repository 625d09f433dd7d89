abbrev rmX9_clearPaper : Room := { frames := 0, cells := 0, slots := 0, locals := 0 }
set_option maxHeartbeats 4000000 in
set_option maxRecDepth 100000 in
theorem kX9_clearPaper (l : Launch) (D : va_G) (G : Nat → ClassId) (qM : Nat → Nat) (st : Int) (th : Nat → Int) (R : Nat → Nat → Int) (ac : Nat → Int) (up : Nat → Int) (li : Nat → Int) (le : Nat → Int) (pg : Int) (spc : Int) (pw : Int) (ld : Int) (sn : Int) (tk : Int) (ss : Int) (sh : Int) (dn : Int) (pp : Nat → Int) (ps : Nat → Int) (wo : Int) (lo : Int) (be : Int) (hb : Nat → Nat → Int) (tt : Nat → Int) (rf : Nat → Int) (mbt : Nat → Int) (mle : Nat → Int) (mbo : Nat → Int) (mwo : Int) (mlo : Int) (mbe : Int) (mmk : Nat → Int) (mms : Nat → Int) (mwh : Int) : CtV l yX9_clearPaper wsX9_clearPaper rmX9_clearPaper D G [.ref (qM 0)] [BMod G qM st th (cmOf R) ac up li pg le spc pw ld (wr ss) sn tk ss sh dn pp ps (faOf wo lo be) (hbOf hb) tt (sh1 rf) mbt mle mbo mwo mlo mbe mmk mms mwh] (fun _ : Unit => True) (fun _ => [BMod G qM st th (cmOf R) ac up li pg le spc pw ld (wr ss) sn tk ss sh dn (filI (-1) 1200 pp) (filI (-1) 1200 ps) (faOf wo lo be) (hbOf hb) tt (sh1 rf) mbt mle mbo mwo mlo mbe mmk mms mwh]) := by
  refine CtV.of (cc := cX9_clearPaper) (maxL := 2) (by decide) rfl (Nat.le_of_ble_eq_true rfl) ?_
  intro p0 e0 s0 m0 args bel met cd A0 ls Q0 hx hcd hml hown hts hK hP hD hA hl fin
  have hl : lv_has ls 2 [(0, .ref (qM 0))] := hl
  have hS : va_S A0 s0.heap s0.heap [] := va_S.rf
  have hH : va_P D vwCl (fl [BMod G qM st th (cmOf R) ac up li pg le spc pw ld (wr ss) sn tk ss sh dn pp ps (faOf wo lo be) (hbOf hb) tt (sh1 rf) mbt mle mbo mwo mlo mbe mmk mms mwh]) s0.heap := hP
  obtain ⟨H, eH⟩ : ∃ H, H = s0.heap := ⟨_, rfl⟩
  obtain ⟨locs, eL⟩ : ∃ locs : List Loc, locs = [] := ⟨_, rfl⟩
  have hS : va_S A0 s0.heap H locs := by rw [eH, eL]; exact hS
  have hP : va_P D vwCl (fl [BMod G qM st th (cmOf R) ac up li pg le spc pw ld (wr ss) sn tk ss sh dn pp ps (faOf wo lo be) (hbOf hb) tt (sh1 rf) mbt mle mbo mwo mlo mbe mmk mms mwh]) H := by rw [eH]; exact hP
  suffices goal : W p0 l e0 rmX9_clearPaper s0 m0 args bel met cd H locs 0 0 Q0 (F0 m0 0 ls []) by rw [eH, eL] at goal; exact goal
  clear eH eL hH
  refine wi_iconst hx hcd dX9_clearPaper_0 ?_
  refine lv_istore_n (lv' := [(1, .int (iI 0)), (0, .ref (qM 0))]) hx hcd dX9_clearPaper_1 rfl hl (by decide) rfl (fun ls hl => ?_)
  have L2 : ∀ (fu : Nat) (i : Int) (f : Nat → Int) (g : Nat → Int) (H : Heap) (locs : List Loc) (ls : Array Slot), (1200 - i < (fu : Int)) → (0 ≤ i ∧ i ≤ 1200) → (f = filI (-1) i.toNat pp) → (g = filI (-1) i.toNat ps) → va_P D vwCl (fl [BMod G qM st th (cmOf R) ac up li pg le spc pw ld (wr ss) sn tk ss sh dn f g (faOf wo lo be) (hbOf hb) tt (sh1 rf) mbt mle mbo mwo mlo mbe mmk mms mwh]) H → va_D A0 (fl [BMod G qM st th (cmOf R) ac up li pg le spc pw ld (wr ss) sn tk ss sh dn f g (faOf wo lo be) (hbOf hb) tt (sh1 rf) mbt mle mbo mwo mlo mbe mmk mms mwh]) → va_S A0 s0.heap H locs → lv_has ls 2 [(0, .ref (qM 0)), (1, .int (iI i))] → W p0 l e0 rmX9_clearPaper s0 m0 args bel met cd H locs 0 0 Q0 (F0 m0 2 ls []) := by
    intro fu
    induction fu with
    | zero =>
      intro i f g H locs ls hfu hi hf hg
      exact absurd hfu (by omega)
    | succ fu ih =>
      intro i f g H locs ls hfu hi hf hg hP hD hS hl
      have ih2 := ih
      clear ih
      refine lv_iload_n hx hcd dX9_clearPaper_2 rfl (lv_at hl 1 rfl) ?_
      refine wi_sipush hx hcd dX9_clearPaper_3 (by decide) ?_
      refine wi_icmp_ge (tgt := 29) hx hcd (by omega) (by omega) dX9_clearPaper_6 (by decide) (fun c6 => ?_) (fun c6 => ?_)
      ·
        rw [show BMod G qM st th (cmOf R) ac up li pg le spc pw ld (wr ss) sn tk ss sh dn f g (faOf wo lo be) (hbOf hb) tt (sh1 rf) mbt mle mbo mwo mlo mbe mmk mms mwh = BMod G qM st th (cmOf R) ac up li pg le spc pw ld (wr ss) sn tk ss sh dn (filI (-1) 1200 pp) g (faOf wo lo be) (hbOf hb) tt (sh1 rf) mbt mle mbo mwo mlo mbe mmk mms mwh from congrArg (fun z_ : Nat → Int => BMod G qM st th (cmOf R) ac up li pg le spc pw ld (wr ss) sn tk ss sh dn z_ g (faOf wo lo be) (hbOf hb) tt (sh1 rf) mbt mle mbo mwo mlo mbe mmk mms mwh) (show (f : Nat → Int) = (filI (-1) 1200 pp) from by rw [hf, show i = 1200 by omega]; rfl)] at hP hD
        rw [show BMod G qM st th (cmOf R) ac up li pg le spc pw ld (wr ss) sn tk ss sh dn (filI (-1) 1200 pp) g (faOf wo lo be) (hbOf hb) tt (sh1 rf) mbt mle mbo mwo mlo mbe mmk mms mwh = BMod G qM st th (cmOf R) ac up li pg le spc pw ld (wr ss) sn tk ss sh dn (filI (-1) 1200 pp) (filI (-1) 1200 ps) (faOf wo lo be) (hbOf hb) tt (sh1 rf) mbt mle mbo mwo mlo mbe mmk mms mwh from congrArg (fun z_ : Nat → Int => BMod G qM st th (cmOf R) ac up li pg le spc pw ld (wr ss) sn tk ss sh dn (filI (-1) 1200 pp) z_ (faOf wo lo be) (hbOf hb) tt (sh1 rf) mbt mle mbo mwo mlo mbe mmk mms mwh) (show (g : Nat → Int) = (filI (-1) 1200 ps) from by rw [hg, show i = 1200 by omega]; rfl)] at hP hD
        exact fin () H locs ls 29 dX9_clearPaper_29 hP hD hS (trivial)
      ·
        refine lv_aload_n hx hcd dX9_clearPaper_9 rfl (lv_at hl 0 rfl) ?_
        refine g_get (C := RX9) (T := TX9) (N := 32) hx hcd hts (fun _ h => List.mem_cons_of_mem _ (List.mem_append_right _ h)) hown hK hP (i := 0) rfl BMod_c0 rfl 17 (by decide) (by decide +kernel) rfl dX9_clearPaper_10 ?_
        refine lv_iload_n hx hcd dX9_clearPaper_13 rfl (lv_at hl 1 rfl) ?_
        refine wi_iconst hx hcd dX9_clearPaper_14 ?_
        refine g_iast hx hcd hK hP hD hS (i := 0) rfl BMod_c7 (by omega) (by decide) (B1 := BMod G qM st th (cmOf R) ac up li pg le spc pw ld (wr ss) sn tk ss sh dn (va_up f i.toNat (-1)) g (faOf wo lo be) (hbOf hb) tt (sh1 rf) mbt mle mbo mwo mlo mbe mmk mms mwh) rfl (Bs1 := [BMod G qM st th (cmOf R) ac up li pg le spc pw ld (wr ss) sn tk ss sh dn (va_up f i.toNat (-1)) g (faOf wo lo be) (hbOf hb) tt (sh1 rf) mbt mle mbo mwo mlo mbe mmk mms mwh]) rfl dX9_clearPaper_15 (fun H locs hP hD hS => ?_)
        refine lv_aload_n hx hcd dX9_clearPaper_16 rfl (lv_at hl 0 rfl) ?_
        refine g_get (C := RX9) (T := TX9) (N := 32) hx hcd hts (fun _ h => List.mem_cons_of_mem _ (List.mem_append_right _ h)) hown hK hP (i := 0) rfl BMod_c0 rfl 18 (by decide) (by decide +kernel) rfl dX9_clearPaper_17 ?_
        refine lv_iload_n hx hcd dX9_clearPaper_20 rfl (lv_at hl 1 rfl) ?_
        refine wi_iconst hx hcd dX9_clearPaper_21 ?_
        refine g_iast hx hcd hK hP hD hS (i := 0) rfl BMod_c8 (by omega) (by decide) (B1 := BMod G qM st th (cmOf R) ac up li pg le spc pw ld (wr ss) sn tk ss sh dn (va_up f i.toNat (-1)) (va_up g i.toNat (-1)) (faOf wo lo be) (hbOf hb) tt (sh1 rf) mbt mle mbo mwo mlo mbe mmk mms mwh) rfl (Bs1 := [BMod G qM st th (cmOf R) ac up li pg le spc pw ld (wr ss) sn tk ss sh dn (va_up f i.toNat (-1)) (va_up g i.toNat (-1)) (faOf wo lo be) (hbOf hb) tt (sh1 rf) mbt mle mbo mwo mlo mbe mmk mms mwh]) rfl dX9_clearPaper_22 (fun H locs hP hD hS => ?_)
        refine lv_iinc (v := iI (i + 1)) (lv' := [(1, .int (iI (i + 1))), (0, .ref (qM 0))]) hx hcd dX9_clearPaper_23 hl (k := 1) rfl (iI_add _ _) (by decide) rfl (fun ls hl => ?_)
        refine lv_goto (tgt := 2) hx hcd dX9_clearPaper_26 (by decide) ?_
        exact ih2 (i + 1) (va_up f i.toNat (-1)) (va_up g i.toNat (-1)) _ _ _ (by omega) (by omega) (fil2_s (by omega) hf) (fil2_s (by omega) hg) hP hD hS (lv_sub hl [1, 0] rfl)
  exact L2 (((1200 - 0) + 1 : Int)).toNat 0 pp ps _ _ _ (by omega) (by omega) ((filI_0 _ _).symm) ((filI_0 _ _).symm) hP hD hS (lv_sub hl [1, 0] rfl)
