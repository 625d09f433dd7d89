abbrev rmX9_findBlanks : Room := { frames := 1, cells := 0, slots := 0, locals := 25 }
set_option maxHeartbeats 4000000 in
set_option maxRecDepth 100000 in
theorem kX9_findBlanks (l : Launch) (D : va_G) (G : Nat → ClassId) (qM : Nat → Nat) (st : Int) (th : Nat → Int) (R : Nat → Nat → Int) (ac : Nat → Int) (up : Nat → Int) (li : Nat → Int) (le : Nat → Int) (pg : Int) (spc : Int) (pw : Int) (ld : Int) (sn : Int) (tk : Int) (ss : Int) (sh : Int) (dn : Int) (pp : Nat → Int) (ps : Nat → Int) (wo : Int) (lo : Int) (be : Int) (hb : Nat → Nat → Int) (tt : Nat → Int) (rf : Nat → Int) (mbt : Nat → Int) (mle : Nat → Int) (mbo : Nat → Int) (mwo : Int) (mlo : Int) (mbe : Int) (mmk : Nat → Int) (mms : Nat → Int) (mwh : Int) (hst : 2 ≤ st ∧ st ≤ 16) (hth : ∀ k, th k = 0 ∨ th k = 1) (hR : ∀ i j, 0 ≤ R i j ∧ R i j ≤ 9) : CtI l yX9_findBlanks wsX9_findBlanks rmX9_findBlanks D G [.ref (qM 0)] [BMod G qM st th (cmOf R) ac up li pg le spc pw ld (wr ss) sn tk ss sh dn pp ps (faOf wo lo be) (hbOf hb) tt (sh1 rf) mbt mle mbo mwo mlo mbe mmk mms mwh] (fun (r : Int32) (u : (Nat → Int) × (Nat → Int)) => r = iI (bb st th R 12) ∧ fbP st th R 12 u.1 u.2) (fun u => [BMod G qM st th (cmOf R) ac up li pg le spc pw ld (wr ss) sn tk ss sh dn pp ps (faOf wo lo be) (hbOf hb) tt (sh1 rf) mbt u.1 u.2 mwo mlo mbe mmk mms mwh]) := by
  refine CtI.ofI (cc := cX9_findBlanks) (maxL := 4) (by decide) rfl (Nat.le_of_ble_eq_true rfl) ?_
  intro p0 e0 s0 m0 args bel met cd A0 ls Q0 hx hcd hml hown hts hK hP hD hA hl fin
  have hl : lv_has ls 4 [(0, .ref (qM 0))] := hl
  have hS : va_S A0 s0.heap s0.heap [] := va_S.rf
  have hH : va_P D vwCl (fl [BMod G qM st th (cmOf R) ac up li pg le spc pw ld (wr ss) sn tk ss sh dn pp ps (faOf wo lo be) (hbOf hb) tt (sh1 rf) mbt mle mbo mwo mlo mbe mmk mms mwh]) s0.heap := hP
  obtain ⟨H, eH⟩ : ∃ H, H = s0.heap := ⟨_, rfl⟩
  obtain ⟨locs, eL⟩ : ∃ locs : List Loc, locs = [] := ⟨_, rfl⟩
  have hS : va_S A0 s0.heap H locs := by rw [eH, eL]; exact hS
  have hP : va_P D vwCl (fl [BMod G qM st th (cmOf R) ac up li pg le spc pw ld (wr ss) sn tk ss sh dn pp ps (faOf wo lo be) (hbOf hb) tt (sh1 rf) mbt mle mbo mwo mlo mbe mmk mms mwh]) H := by rw [eH]; exact hP
  suffices goal : W p0 l e0 rmX9_findBlanks s0 m0 args bel met cd H locs 0 0 Q0 (F0 m0 0 ls []) by rw [eH, eL] at goal; exact goal
  clear eH eL hH
  refine wi_iconst hx hcd dX9_findBlanks_0 ?_
  refine lv_istore_n (lv' := [(1, .int (iI 0)), (0, .ref (qM 0))]) hx hcd dX9_findBlanks_1 rfl hl (by decide) rfl (fun ls hl => ?_)
  refine wi_iconst hx hcd dX9_findBlanks_2 ?_
  refine lv_istore_n (lv' := [(2, .int (iI 0)), (1, .int (iI 0)), (0, .ref (qM 0))]) hx hcd dX9_findBlanks_3 rfl hl (by decide) rfl (fun ls hl => ?_)
  have L4 : ∀ (fu : Nat) (m : Int) (c : Int) (f9 : Nat → Int) (g9 : Nat → Int) (H : Heap) (locs : List Loc) (ls : Array Slot), (12 - c < (fu : Int)) → (0 ≤ c ∧ c ≤ 12) → (m = bb st th R c.toNat) → (fbP st th R c.toNat f9 g9) → va_P D vwCl (fl [BMod G qM st th (cmOf R) ac up li pg le spc pw ld (wr ss) sn tk ss sh dn pp ps (faOf wo lo be) (hbOf hb) tt (sh1 rf) mbt f9 g9 mwo mlo mbe mmk mms mwh]) H → va_D A0 (fl [BMod G qM st th (cmOf R) ac up li pg le spc pw ld (wr ss) sn tk ss sh dn pp ps (faOf wo lo be) (hbOf hb) tt (sh1 rf) mbt f9 g9 mwo mlo mbe mmk mms mwh]) → va_S A0 s0.heap H locs → lv_has ls 4 [(0, .ref (qM 0)), (1, .int (iI m)), (2, .int (iI c))] → W p0 l e0 rmX9_findBlanks s0 m0 args bel met cd H locs 0 0 Q0 (F0 m0 4 ls []) := by
    intro fu
    induction fu with
    | zero =>
      intro m c f9 g9 H locs ls hfu hc hm hp9
      exact absurd hfu (by omega)
    | succ fu ih =>
      intro m c f9 g9 H locs ls hfu hc hm hp9 hP hD hS hl
      have ih4 := ih
      clear ih
      refine lv_iload_n hx hcd dX9_findBlanks_4 rfl (lv_at hl 2 rfl) ?_
      refine wi_bipush hx hcd dX9_findBlanks_5 (by decide) ?_
      refine wi_icmp_ge (tgt := 145) hx hcd (by omega) (by omega) dX9_findBlanks_7 (by decide) (fun c7 => ?_) (fun c7 => ?_)
      ·
        refine lv_iload_n hx hcd dX9_findBlanks_145 rfl (lv_at hl 1 rfl) ?_
        exact fin _ ⟨f9, g9⟩ H locs ls 146 dX9_findBlanks_146 hP hD hS (trivial) (⟨congrArg iI (by rw [hm, show c = 12 by omega]; rfl), by rw [show c = 12 by omega] at hp9; exact hp9⟩)
      ·
        refine lv_aload_n hx hcd dX9_findBlanks_10 rfl (lv_at hl 0 rfl) ?_
        refine g_get (C := RX9) (T := TX9) (N := 32) hx hcd hts (fun _ h => List.mem_cons_of_mem _ (List.mem_append_right _ h)) hown hK hP (i := 0) rfl BMod_c0 rfl 24 (by decide) (by decide +kernel) rfl dX9_findBlanks_11 ?_
        refine lv_iload_n hx hcd dX9_findBlanks_14 rfl (lv_at hl 2 rfl) ?_
        refine wi_bipush hx hcd dX9_findBlanks_15 (by decide) ?_
        refine g_iast hx hcd hK hP hD hS (i := 0) rfl BMod_c14 (by omega) (by decide) (B1 := BMod G qM st th (cmOf R) ac up li pg le spc pw ld (wr ss) sn tk ss sh dn pp ps (faOf wo lo be) (hbOf hb) tt (sh1 rf) mbt (va_up f9 c.toNat (-9)) g9 mwo mlo mbe mmk mms mwh) rfl (Bs1 := [BMod G qM st th (cmOf R) ac up li pg le spc pw ld (wr ss) sn tk ss sh dn pp ps (faOf wo lo be) (hbOf hb) tt (sh1 rf) mbt (va_up f9 c.toNat (-9)) g9 mwo mlo mbe mmk mms mwh]) rfl dX9_findBlanks_17 (fun H locs hP hD hS => ?_)
        refine lv_aload_n hx hcd dX9_findBlanks_18 rfl (lv_at hl 0 rfl) ?_
        refine g_get (C := RX9) (T := TX9) (N := 32) hx hcd hts (fun _ h => List.mem_cons_of_mem _ (List.mem_append_right _ h)) hown hK hP (i := 0) rfl BMod_c0 rfl 25 (by decide) (by decide +kernel) rfl dX9_findBlanks_19 ?_
        refine lv_iload_n hx hcd dX9_findBlanks_22 rfl (lv_at hl 2 rfl) ?_
        refine wi_bipush hx hcd dX9_findBlanks_23 (by decide) ?_
        refine g_iast hx hcd hK hP hD hS (i := 0) rfl BMod_c15 (by omega) (by decide) (B1 := BMod G qM st th (cmOf R) ac up li pg le spc pw ld (wr ss) sn tk ss sh dn pp ps (faOf wo lo be) (hbOf hb) tt (sh1 rf) mbt (va_up f9 c.toNat (-9)) (va_up g9 c.toNat (-9)) mwo mlo mbe mmk mms mwh) rfl (Bs1 := [BMod G qM st th (cmOf R) ac up li pg le spc pw ld (wr ss) sn tk ss sh dn pp ps (faOf wo lo be) (hbOf hb) tt (sh1 rf) mbt (va_up f9 c.toNat (-9)) (va_up g9 c.toNat (-9)) mwo mlo mbe mmk mms mwh]) rfl dX9_findBlanks_25 (fun H locs hP hD hS => ?_)
        refine wi_iconst hx hcd dX9_findBlanks_26 ?_
        refine lv_istore_n (lv' := [(3, .int (iI 0)), (0, .ref (qM 0)), (1, .int (iI m)), (2, .int (iI c))]) hx hcd dX9_findBlanks_27 rfl hl (by decide) rfl (fun ls hl => ?_)
        have L28 : ∀ (fu : Nat) (i : Int) (f8 : Nat → Int) (g8 : Nat → Int) (H : Heap) (locs : List Loc) (ls : Array Slot), (c - i < (fu : Int)) → (0 ≤ i ∧ i ≤ c) → (fbP st th R c.toNat f8 g8) → (fbQ st th R c.toNat i.toNat f8 g8) → va_P D vwCl (fl [BMod G qM st th (cmOf R) ac up li pg le spc pw ld (wr ss) sn tk ss sh dn pp ps (faOf wo lo be) (hbOf hb) tt (sh1 rf) mbt f8 g8 mwo mlo mbe mmk mms mwh]) H → va_D A0 (fl [BMod G qM st th (cmOf R) ac up li pg le spc pw ld (wr ss) sn tk ss sh dn pp ps (faOf wo lo be) (hbOf hb) tt (sh1 rf) mbt f8 g8 mwo mlo mbe mmk mms mwh]) → va_S A0 s0.heap H locs → lv_has ls 4 [(0, .ref (qM 0)), (1, .int (iI m)), (2, .int (iI c)), (3, .int (iI i))] → W p0 l e0 rmX9_findBlanks s0 m0 args bel met cd H locs 0 0 Q0 (F0 m0 28 ls []) := by
          intro fu
          induction fu with
          | zero =>
            intro i f8 g8 H locs ls hfu hi hp8 hq8
            exact absurd hfu (by omega)
          | succ fu ih =>
            intro i f8 g8 H locs ls hfu hi hp8 hq8 hP hD hS hl
            have ih28 := ih
            clear ih
            refine lv_iload_n hx hcd dX9_findBlanks_28 rfl (lv_at hl 3 rfl) ?_
            refine lv_iload_n hx hcd dX9_findBlanks_29 rfl (lv_at hl 2 rfl) ?_
            refine wi_icmp_ge (tgt := 104) hx hcd (by omega) (by omega) dX9_findBlanks_30 (by decide) (fun c30 => ?_) (fun c30 => ?_)
            ·
              refine lv_aload_n hx hcd dX9_findBlanks_104 rfl (lv_at hl 0 rfl) ?_
              refine g_get (C := RX9) (T := TX9) (N := 32) hx hcd hts (fun _ h => List.mem_cons_of_mem _ (List.mem_append_right _ h)) hown hK hP (i := 0) rfl BMod_c0 rfl 1 (by decide) (by decide +kernel) rfl dX9_findBlanks_105 ?_
              refine lv_iload_n hx hcd dX9_findBlanks_108 rfl (lv_at hl 2 rfl) ?_
              refine g_zald hx hcd hK hP (i := 0) rfl BMod_c1 (by omega) (by decide) dX9_findBlanks_109 ?_
              have f1 := hth c.toNat
              refine wi_if_eq (tgt := 139) hx hcd (by omega) dX9_findBlanks_110 (by decide) (fun c110 => ?_) (fun c110 => ?_)
              ·
                try (have hqp := fbQ_pos hq8 (by omega))
                try (have hp5 : fbP st th R (c + 1).toNat f8 g8 := fbP_s (by omega) hp8 (fun q => by first | exact ⟨hqp.2.1, hqp.2.2.1⟩ | (exfalso; omega)))
                refine lv_iinc (v := iI (c + 1)) (lv' := [(2, .int (iI (c + 1))), (0, .ref (qM 0)), (1, .int (iI m)), (3, .int (iI i))]) hx hcd dX9_findBlanks_139 hl (k := 2) rfl (iI_add _ _) (by decide) rfl (fun ls hl => ?_)
                refine lv_goto (tgt := 4) hx hcd dX9_findBlanks_142 (by decide) ?_
                exact ih4 m (c + 1) f8 g8 _ _ _ (by omega) (by omega) (by rw [bb_s (by omega)]; first | (rw [if_neg (fun q => by omega)]; omega) | (rw [if_pos ⟨by omega, hls⟩]; omega)) (by first | exact hp6 | exact hp5) hP hD hS (lv_sub hl [1, 2, 0] rfl)
              ·
                refine lv_aload_n hx hcd dX9_findBlanks_113 rfl (lv_at hl 0 rfl) ?_
                refine g_get (C := RX9) (T := TX9) (N := 32) hx hcd hts (fun _ h => List.mem_cons_of_mem _ (List.mem_append_right _ h)) hown hK hP (i := 0) rfl BMod_c0 rfl 24 (by decide) (by decide +kernel) rfl dX9_findBlanks_114 ?_
                refine lv_iload_n hx hcd dX9_findBlanks_117 rfl (lv_at hl 2 rfl) ?_
                refine g_iald hx hcd hK hP (i := 0) rfl BMod_c14 (by omega) (by decide) dX9_findBlanks_118 ?_
                have hqr := fbQ_rng hq8
                refine wi_if_ge (tgt := 139) hx hcd (by omega) dX9_findBlanks_119 (by decide) (fun c119 => ?_) (fun c119 => ?_)
                ·
                  try (have hqp := fbQ_pos hq8 (by omega))
                  try (have hp5 : fbP st th R (c + 1).toNat f8 g8 := fbP_s (by omega) hp8 (fun q => by first | exact ⟨hqp.2.1, hqp.2.2.1⟩ | (exfalso; omega)))
                  refine lv_iinc (v := iI (c + 1)) (lv' := [(2, .int (iI (c + 1))), (0, .ref (qM 0)), (1, .int (iI m)), (3, .int (iI i))]) hx hcd dX9_findBlanks_139 hl (k := 2) rfl (iI_add _ _) (by decide) rfl (fun ls hl => ?_)
                  refine lv_goto (tgt := 4) hx hcd dX9_findBlanks_142 (by decide) ?_
                  exact ih4 m (c + 1) f8 g8 _ _ _ (by omega) (by omega) (by rw [bb_s (by omega)]; first | (rw [if_neg (fun q => by omega)]; omega) | (rw [if_pos ⟨by omega, hls⟩]; omega)) (by first | exact hp6 | exact hp5) hP hD hS (lv_sub hl [1, 2, 0] rfl)
                ·
                  have hls : la st th R c.toNat = c := (la_self (fun o ho => (fbQ_neg hq8 (by omega)).2 o (by omega))).trans (by omega)
                  have hp6 : fbP st th R (c + 1).toNat (va_up f8 c.toNat c) (va_up g8 c.toNat m) := fbP_s (by omega) (fbP_up _ _ hp8 (Nat.le_refl _)) (fun _ => by rw [va_up_self, va_up_self, hls]; exact ⟨rfl, hm⟩)
                  refine lv_aload_n hx hcd dX9_findBlanks_122 rfl (lv_at hl 0 rfl) ?_
                  refine g_get (C := RX9) (T := TX9) (N := 32) hx hcd hts (fun _ h => List.mem_cons_of_mem _ (List.mem_append_right _ h)) hown hK hP (i := 0) rfl BMod_c0 rfl 24 (by decide) (by decide +kernel) rfl dX9_findBlanks_123 ?_
                  refine lv_iload_n hx hcd dX9_findBlanks_126 rfl (lv_at hl 2 rfl) ?_
                  refine lv_iload_n hx hcd dX9_findBlanks_127 rfl (lv_at hl 2 rfl) ?_
                  refine g_iast hx hcd hK hP hD hS (i := 0) rfl BMod_c14 (by omega) (by decide) (B1 := BMod G qM st th (cmOf R) ac up li pg le spc pw ld (wr ss) sn tk ss sh dn pp ps (faOf wo lo be) (hbOf hb) tt (sh1 rf) mbt (va_up f8 c.toNat c) g8 mwo mlo mbe mmk mms mwh) rfl (Bs1 := [BMod G qM st th (cmOf R) ac up li pg le spc pw ld (wr ss) sn tk ss sh dn pp ps (faOf wo lo be) (hbOf hb) tt (sh1 rf) mbt (va_up f8 c.toNat c) g8 mwo mlo mbe mmk mms mwh]) rfl dX9_findBlanks_128 (fun H locs hP hD hS => ?_)
                  refine lv_aload_n hx hcd dX9_findBlanks_129 rfl (lv_at hl 0 rfl) ?_
                  refine g_get (C := RX9) (T := TX9) (N := 32) hx hcd hts (fun _ h => List.mem_cons_of_mem _ (List.mem_append_right _ h)) hown hK hP (i := 0) rfl BMod_c0 rfl 25 (by decide) (by decide +kernel) rfl dX9_findBlanks_130 ?_
                  refine lv_iload_n hx hcd dX9_findBlanks_133 rfl (lv_at hl 2 rfl) ?_
                  refine lv_iload_n hx hcd dX9_findBlanks_134 rfl (lv_at hl 1 rfl) ?_
                  refine g_iast hx hcd hK hP hD hS (i := 0) rfl BMod_c15 (by omega) (by decide) (B1 := BMod G qM st th (cmOf R) ac up li pg le spc pw ld (wr ss) sn tk ss sh dn pp ps (faOf wo lo be) (hbOf hb) tt (sh1 rf) mbt (va_up f8 c.toNat c) (va_up g8 c.toNat m) mwo mlo mbe mmk mms mwh) rfl (Bs1 := [BMod G qM st th (cmOf R) ac up li pg le spc pw ld (wr ss) sn tk ss sh dn pp ps (faOf wo lo be) (hbOf hb) tt (sh1 rf) mbt (va_up f8 c.toNat c) (va_up g8 c.toNat m) mwo mlo mbe mmk mms mwh]) rfl dX9_findBlanks_135 (fun H locs hP hD hS => ?_)
                  refine lv_iinc (v := iI (m + 1)) (lv' := [(1, .int (iI (m + 1))), (0, .ref (qM 0)), (2, .int (iI c)), (3, .int (iI i))]) hx hcd dX9_findBlanks_136 hl (k := 1) rfl (iI_add _ _) (by decide) rfl (fun ls hl => ?_)
                  try (have hqp := fbQ_pos hq8 (by omega))
                  try (have hp5 : fbP st th R (c + 1).toNat f8 g8 := fbP_s (by omega) hp8 (fun q => by first | exact ⟨hqp.2.1, hqp.2.2.1⟩ | (exfalso; omega)))
                  refine lv_iinc (v := iI (c + 1)) (lv' := [(2, .int (iI (c + 1))), (1, .int (iI (m + 1))), (0, .ref (qM 0)), (3, .int (iI i))]) hx hcd dX9_findBlanks_139 hl (k := 2) rfl (iI_add _ _) (by decide) rfl (fun ls hl => ?_)
                  refine lv_goto (tgt := 4) hx hcd dX9_findBlanks_142 (by decide) ?_
                  exact ih4 (m + 1) (c + 1) (va_up f8 c.toNat c) (va_up g8 c.toNat m) _ _ _ (by omega) (by omega) (by rw [bb_s (by omega)]; first | (rw [if_neg (fun q => by omega)]; omega) | (rw [if_pos ⟨by omega, hls⟩]; omega)) (by first | exact hp6 | exact hp5) hP hD hS (lv_sub hl [2, 1, 0] rfl)
            ·
              refine lv_aload_n hx hcd dX9_findBlanks_33 rfl (lv_at hl 0 rfl) ?_
              refine g_get (C := RX9) (T := TX9) (N := 32) hx hcd hts (fun _ h => List.mem_cons_of_mem _ (List.mem_append_right _ h)) hown hK hP (i := 0) rfl BMod_c0 rfl 1 (by decide) (by decide +kernel) rfl dX9_findBlanks_34 ?_
              refine lv_iload_n hx hcd dX9_findBlanks_37 rfl (lv_at hl 2 rfl) ?_
              refine g_zald hx hcd hK hP (i := 0) rfl BMod_c1 (by omega) (by decide) dX9_findBlanks_38 ?_
              have f2 := hth c.toNat
              refine wi_if_eq (tgt := 104) hx hcd (by omega) dX9_findBlanks_39 (by decide) (fun c39 => ?_) (fun c39 => ?_)
              ·
                refine lv_aload_n hx hcd dX9_findBlanks_104 rfl (lv_at hl 0 rfl) ?_
                refine g_get (C := RX9) (T := TX9) (N := 32) hx hcd hts (fun _ h => List.mem_cons_of_mem _ (List.mem_append_right _ h)) hown hK hP (i := 0) rfl BMod_c0 rfl 1 (by decide) (by decide +kernel) rfl dX9_findBlanks_105 ?_
                refine lv_iload_n hx hcd dX9_findBlanks_108 rfl (lv_at hl 2 rfl) ?_
                refine g_zald hx hcd hK hP (i := 0) rfl BMod_c1 (by omega) (by decide) dX9_findBlanks_109 ?_
                have f3 := hth c.toNat
                refine wi_if_eq (tgt := 139) hx hcd (by omega) dX9_findBlanks_110 (by decide) (fun c110 => ?_) (fun c110 => ?_)
                ·
                  try (have hqp := fbQ_pos hq8 (by omega))
                  try (have hp5 : fbP st th R (c + 1).toNat f8 g8 := fbP_s (by omega) hp8 (fun q => by first | exact ⟨hqp.2.1, hqp.2.2.1⟩ | (exfalso; omega)))
                  refine lv_iinc (v := iI (c + 1)) (lv' := [(2, .int (iI (c + 1))), (0, .ref (qM 0)), (1, .int (iI m)), (3, .int (iI i))]) hx hcd dX9_findBlanks_139 hl (k := 2) rfl (iI_add _ _) (by decide) rfl (fun ls hl => ?_)
                  refine lv_goto (tgt := 4) hx hcd dX9_findBlanks_142 (by decide) ?_
                  exact ih4 m (c + 1) f8 g8 _ _ _ (by omega) (by omega) (by rw [bb_s (by omega)]; first | (rw [if_neg (fun q => by omega)]; omega) | (rw [if_pos ⟨by omega, hls⟩]; omega)) (by first | exact hp6 | exact hp5) hP hD hS (lv_sub hl [1, 2, 0] rfl)
                ·
                  refine lv_aload_n hx hcd dX9_findBlanks_113 rfl (lv_at hl 0 rfl) ?_
                  refine g_get (C := RX9) (T := TX9) (N := 32) hx hcd hts (fun _ h => List.mem_cons_of_mem _ (List.mem_append_right _ h)) hown hK hP (i := 0) rfl BMod_c0 rfl 24 (by decide) (by decide +kernel) rfl dX9_findBlanks_114 ?_
                  refine lv_iload_n hx hcd dX9_findBlanks_117 rfl (lv_at hl 2 rfl) ?_
                  refine g_iald hx hcd hK hP (i := 0) rfl BMod_c14 (by omega) (by decide) dX9_findBlanks_118 ?_
                  have hqr := fbQ_rng hq8
                  refine wi_if_ge (tgt := 139) hx hcd (by omega) dX9_findBlanks_119 (by decide) (fun c119 => ?_) (fun c119 => ?_)
                  ·
                    try (have hqp := fbQ_pos hq8 (by omega))
                    try (have hp5 : fbP st th R (c + 1).toNat f8 g8 := fbP_s (by omega) hp8 (fun q => by first | exact ⟨hqp.2.1, hqp.2.2.1⟩ | (exfalso; omega)))
                    refine lv_iinc (v := iI (c + 1)) (lv' := [(2, .int (iI (c + 1))), (0, .ref (qM 0)), (1, .int (iI m)), (3, .int (iI i))]) hx hcd dX9_findBlanks_139 hl (k := 2) rfl (iI_add _ _) (by decide) rfl (fun ls hl => ?_)
                    refine lv_goto (tgt := 4) hx hcd dX9_findBlanks_142 (by decide) ?_
                    exact ih4 m (c + 1) f8 g8 _ _ _ (by omega) (by omega) (by rw [bb_s (by omega)]; first | (rw [if_neg (fun q => by omega)]; omega) | (rw [if_pos ⟨by omega, hls⟩]; omega)) (by first | exact hp6 | exact hp5) hP hD hS (lv_sub hl [1, 2, 0] rfl)
                  ·
                    have hls : la st th R c.toNat = c := (la_self (fun o ho => (fbQ_neg hq8 (by omega)).2 o (by omega))).trans (by omega)
                    have hp6 : fbP st th R (c + 1).toNat (va_up f8 c.toNat c) (va_up g8 c.toNat m) := fbP_s (by omega) (fbP_up _ _ hp8 (Nat.le_refl _)) (fun _ => by rw [va_up_self, va_up_self, hls]; exact ⟨rfl, hm⟩)
                    refine lv_aload_n hx hcd dX9_findBlanks_122 rfl (lv_at hl 0 rfl) ?_
                    refine g_get (C := RX9) (T := TX9) (N := 32) hx hcd hts (fun _ h => List.mem_cons_of_mem _ (List.mem_append_right _ h)) hown hK hP (i := 0) rfl BMod_c0 rfl 24 (by decide) (by decide +kernel) rfl dX9_findBlanks_123 ?_
                    refine lv_iload_n hx hcd dX9_findBlanks_126 rfl (lv_at hl 2 rfl) ?_
                    refine lv_iload_n hx hcd dX9_findBlanks_127 rfl (lv_at hl 2 rfl) ?_
                    refine g_iast hx hcd hK hP hD hS (i := 0) rfl BMod_c14 (by omega) (by decide) (B1 := BMod G qM st th (cmOf R) ac up li pg le spc pw ld (wr ss) sn tk ss sh dn pp ps (faOf wo lo be) (hbOf hb) tt (sh1 rf) mbt (va_up f8 c.toNat c) g8 mwo mlo mbe mmk mms mwh) rfl (Bs1 := [BMod G qM st th (cmOf R) ac up li pg le spc pw ld (wr ss) sn tk ss sh dn pp ps (faOf wo lo be) (hbOf hb) tt (sh1 rf) mbt (va_up f8 c.toNat c) g8 mwo mlo mbe mmk mms mwh]) rfl dX9_findBlanks_128 (fun H locs hP hD hS => ?_)
                    refine lv_aload_n hx hcd dX9_findBlanks_129 rfl (lv_at hl 0 rfl) ?_
                    refine g_get (C := RX9) (T := TX9) (N := 32) hx hcd hts (fun _ h => List.mem_cons_of_mem _ (List.mem_append_right _ h)) hown hK hP (i := 0) rfl BMod_c0 rfl 25 (by decide) (by decide +kernel) rfl dX9_findBlanks_130 ?_
                    refine lv_iload_n hx hcd dX9_findBlanks_133 rfl (lv_at hl 2 rfl) ?_
                    refine lv_iload_n hx hcd dX9_findBlanks_134 rfl (lv_at hl 1 rfl) ?_
                    refine g_iast hx hcd hK hP hD hS (i := 0) rfl BMod_c15 (by omega) (by decide) (B1 := BMod G qM st th (cmOf R) ac up li pg le spc pw ld (wr ss) sn tk ss sh dn pp ps (faOf wo lo be) (hbOf hb) tt (sh1 rf) mbt (va_up f8 c.toNat c) (va_up g8 c.toNat m) mwo mlo mbe mmk mms mwh) rfl (Bs1 := [BMod G qM st th (cmOf R) ac up li pg le spc pw ld (wr ss) sn tk ss sh dn pp ps (faOf wo lo be) (hbOf hb) tt (sh1 rf) mbt (va_up f8 c.toNat c) (va_up g8 c.toNat m) mwo mlo mbe mmk mms mwh]) rfl dX9_findBlanks_135 (fun H locs hP hD hS => ?_)
                    refine lv_iinc (v := iI (m + 1)) (lv' := [(1, .int (iI (m + 1))), (0, .ref (qM 0)), (2, .int (iI c)), (3, .int (iI i))]) hx hcd dX9_findBlanks_136 hl (k := 1) rfl (iI_add _ _) (by decide) rfl (fun ls hl => ?_)
                    try (have hqp := fbQ_pos hq8 (by omega))
                    try (have hp5 : fbP st th R (c + 1).toNat f8 g8 := fbP_s (by omega) hp8 (fun q => by first | exact ⟨hqp.2.1, hqp.2.2.1⟩ | (exfalso; omega)))
                    refine lv_iinc (v := iI (c + 1)) (lv' := [(2, .int (iI (c + 1))), (1, .int (iI (m + 1))), (0, .ref (qM 0)), (3, .int (iI i))]) hx hcd dX9_findBlanks_139 hl (k := 2) rfl (iI_add _ _) (by decide) rfl (fun ls hl => ?_)
                    refine lv_goto (tgt := 4) hx hcd dX9_findBlanks_142 (by decide) ?_
                    exact ih4 (m + 1) (c + 1) (va_up f8 c.toNat c) (va_up g8 c.toNat m) _ _ _ (by omega) (by omega) (by rw [bb_s (by omega)]; first | (rw [if_neg (fun q => by omega)]; omega) | (rw [if_pos ⟨by omega, hls⟩]; omega)) (by first | exact hp6 | exact hp5) hP hD hS (lv_sub hl [2, 1, 0] rfl)
              ·
                refine lv_aload_n hx hcd dX9_findBlanks_42 rfl (lv_at hl 0 rfl) ?_
                refine g_get (C := RX9) (T := TX9) (N := 32) hx hcd hts (fun _ h => List.mem_cons_of_mem _ (List.mem_append_right _ h)) hown hK hP (i := 0) rfl BMod_c0 rfl 24 (by decide) (by decide +kernel) rfl dX9_findBlanks_43 ?_
                refine lv_iload_n hx hcd dX9_findBlanks_46 rfl (lv_at hl 2 rfl) ?_
                refine g_iald hx hcd hK hP (i := 0) rfl BMod_c14 (by omega) (by decide) dX9_findBlanks_47 ?_
                have hqr := fbQ_rng hq8
                refine wi_if_ge (tgt := 104) hx hcd (by omega) dX9_findBlanks_48 (by decide) (fun c48 => ?_) (fun c48 => ?_)
                ·
                  refine lv_aload_n hx hcd dX9_findBlanks_104 rfl (lv_at hl 0 rfl) ?_
                  refine g_get (C := RX9) (T := TX9) (N := 32) hx hcd hts (fun _ h => List.mem_cons_of_mem _ (List.mem_append_right _ h)) hown hK hP (i := 0) rfl BMod_c0 rfl 1 (by decide) (by decide +kernel) rfl dX9_findBlanks_105 ?_
                  refine lv_iload_n hx hcd dX9_findBlanks_108 rfl (lv_at hl 2 rfl) ?_
                  refine g_zald hx hcd hK hP (i := 0) rfl BMod_c1 (by omega) (by decide) dX9_findBlanks_109 ?_
                  have f4 := hth c.toNat
                  refine wi_if_eq (tgt := 139) hx hcd (by omega) dX9_findBlanks_110 (by decide) (fun c110 => ?_) (fun c110 => ?_)
                  ·
                    try (have hqp := fbQ_pos hq8 (by omega))
                    try (have hp5 : fbP st th R (c + 1).toNat f8 g8 := fbP_s (by omega) hp8 (fun q => by first | exact ⟨hqp.2.1, hqp.2.2.1⟩ | (exfalso; omega)))
                    refine lv_iinc (v := iI (c + 1)) (lv' := [(2, .int (iI (c + 1))), (0, .ref (qM 0)), (1, .int (iI m)), (3, .int (iI i))]) hx hcd dX9_findBlanks_139 hl (k := 2) rfl (iI_add _ _) (by decide) rfl (fun ls hl => ?_)
                    refine lv_goto (tgt := 4) hx hcd dX9_findBlanks_142 (by decide) ?_
                    exact ih4 m (c + 1) f8 g8 _ _ _ (by omega) (by omega) (by rw [bb_s (by omega)]; first | (rw [if_neg (fun q => by omega)]; omega) | (rw [if_pos ⟨by omega, hls⟩]; omega)) (by first | exact hp6 | exact hp5) hP hD hS (lv_sub hl [1, 2, 0] rfl)
                  ·
                    refine lv_aload_n hx hcd dX9_findBlanks_113 rfl (lv_at hl 0 rfl) ?_
                    refine g_get (C := RX9) (T := TX9) (N := 32) hx hcd hts (fun _ h => List.mem_cons_of_mem _ (List.mem_append_right _ h)) hown hK hP (i := 0) rfl BMod_c0 rfl 24 (by decide) (by decide +kernel) rfl dX9_findBlanks_114 ?_
                    refine lv_iload_n hx hcd dX9_findBlanks_117 rfl (lv_at hl 2 rfl) ?_
                    refine g_iald hx hcd hK hP (i := 0) rfl BMod_c14 (by omega) (by decide) dX9_findBlanks_118 ?_
                    have hqr := fbQ_rng hq8
                    refine wi_if_ge (tgt := 139) hx hcd (by omega) dX9_findBlanks_119 (by decide) (fun c119 => ?_) (fun c119 => ?_)
                    ·
                      try (have hqp := fbQ_pos hq8 (by omega))
                      try (have hp5 : fbP st th R (c + 1).toNat f8 g8 := fbP_s (by omega) hp8 (fun q => by first | exact ⟨hqp.2.1, hqp.2.2.1⟩ | (exfalso; omega)))
                      refine lv_iinc (v := iI (c + 1)) (lv' := [(2, .int (iI (c + 1))), (0, .ref (qM 0)), (1, .int (iI m)), (3, .int (iI i))]) hx hcd dX9_findBlanks_139 hl (k := 2) rfl (iI_add _ _) (by decide) rfl (fun ls hl => ?_)
                      refine lv_goto (tgt := 4) hx hcd dX9_findBlanks_142 (by decide) ?_
                      exact ih4 m (c + 1) f8 g8 _ _ _ (by omega) (by omega) (by rw [bb_s (by omega)]; first | (rw [if_neg (fun q => by omega)]; omega) | (rw [if_pos ⟨by omega, hls⟩]; omega)) (by first | exact hp6 | exact hp5) hP hD hS (lv_sub hl [1, 2, 0] rfl)
                    ·
                      have hls : la st th R c.toNat = c := (la_self (fun o ho => (fbQ_neg hq8 (by omega)).2 o (by omega))).trans (by omega)
                      have hp6 : fbP st th R (c + 1).toNat (va_up f8 c.toNat c) (va_up g8 c.toNat m) := fbP_s (by omega) (fbP_up _ _ hp8 (Nat.le_refl _)) (fun _ => by rw [va_up_self, va_up_self, hls]; exact ⟨rfl, hm⟩)
                      refine lv_aload_n hx hcd dX9_findBlanks_122 rfl (lv_at hl 0 rfl) ?_
                      refine g_get (C := RX9) (T := TX9) (N := 32) hx hcd hts (fun _ h => List.mem_cons_of_mem _ (List.mem_append_right _ h)) hown hK hP (i := 0) rfl BMod_c0 rfl 24 (by decide) (by decide +kernel) rfl dX9_findBlanks_123 ?_
                      refine lv_iload_n hx hcd dX9_findBlanks_126 rfl (lv_at hl 2 rfl) ?_
                      refine lv_iload_n hx hcd dX9_findBlanks_127 rfl (lv_at hl 2 rfl) ?_
                      refine g_iast hx hcd hK hP hD hS (i := 0) rfl BMod_c14 (by omega) (by decide) (B1 := BMod G qM st th (cmOf R) ac up li pg le spc pw ld (wr ss) sn tk ss sh dn pp ps (faOf wo lo be) (hbOf hb) tt (sh1 rf) mbt (va_up f8 c.toNat c) g8 mwo mlo mbe mmk mms mwh) rfl (Bs1 := [BMod G qM st th (cmOf R) ac up li pg le spc pw ld (wr ss) sn tk ss sh dn pp ps (faOf wo lo be) (hbOf hb) tt (sh1 rf) mbt (va_up f8 c.toNat c) g8 mwo mlo mbe mmk mms mwh]) rfl dX9_findBlanks_128 (fun H locs hP hD hS => ?_)
                      refine lv_aload_n hx hcd dX9_findBlanks_129 rfl (lv_at hl 0 rfl) ?_
                      refine g_get (C := RX9) (T := TX9) (N := 32) hx hcd hts (fun _ h => List.mem_cons_of_mem _ (List.mem_append_right _ h)) hown hK hP (i := 0) rfl BMod_c0 rfl 25 (by decide) (by decide +kernel) rfl dX9_findBlanks_130 ?_
                      refine lv_iload_n hx hcd dX9_findBlanks_133 rfl (lv_at hl 2 rfl) ?_
                      refine lv_iload_n hx hcd dX9_findBlanks_134 rfl (lv_at hl 1 rfl) ?_
                      refine g_iast hx hcd hK hP hD hS (i := 0) rfl BMod_c15 (by omega) (by decide) (B1 := BMod G qM st th (cmOf R) ac up li pg le spc pw ld (wr ss) sn tk ss sh dn pp ps (faOf wo lo be) (hbOf hb) tt (sh1 rf) mbt (va_up f8 c.toNat c) (va_up g8 c.toNat m) mwo mlo mbe mmk mms mwh) rfl (Bs1 := [BMod G qM st th (cmOf R) ac up li pg le spc pw ld (wr ss) sn tk ss sh dn pp ps (faOf wo lo be) (hbOf hb) tt (sh1 rf) mbt (va_up f8 c.toNat c) (va_up g8 c.toNat m) mwo mlo mbe mmk mms mwh]) rfl dX9_findBlanks_135 (fun H locs hP hD hS => ?_)
                      refine lv_iinc (v := iI (m + 1)) (lv' := [(1, .int (iI (m + 1))), (0, .ref (qM 0)), (2, .int (iI c)), (3, .int (iI i))]) hx hcd dX9_findBlanks_136 hl (k := 1) rfl (iI_add _ _) (by decide) rfl (fun ls hl => ?_)
                      try (have hqp := fbQ_pos hq8 (by omega))
                      try (have hp5 : fbP st th R (c + 1).toNat f8 g8 := fbP_s (by omega) hp8 (fun q => by first | exact ⟨hqp.2.1, hqp.2.2.1⟩ | (exfalso; omega)))
                      refine lv_iinc (v := iI (c + 1)) (lv' := [(2, .int (iI (c + 1))), (1, .int (iI (m + 1))), (0, .ref (qM 0)), (3, .int (iI i))]) hx hcd dX9_findBlanks_139 hl (k := 2) rfl (iI_add _ _) (by decide) rfl (fun ls hl => ?_)
                      refine lv_goto (tgt := 4) hx hcd dX9_findBlanks_142 (by decide) ?_
                      exact ih4 (m + 1) (c + 1) (va_up f8 c.toNat c) (va_up g8 c.toNat m) _ _ _ (by omega) (by omega) (by rw [bb_s (by omega)]; first | (rw [if_neg (fun q => by omega)]; omega) | (rw [if_pos ⟨by omega, hls⟩]; omega)) (by first | exact hp6 | exact hp5) hP hD hS (lv_sub hl [2, 1, 0] rfl)
                ·
                  refine lv_aload_n hx hcd dX9_findBlanks_51 rfl (lv_at hl 0 rfl) ?_
                  refine g_get (C := RX9) (T := TX9) (N := 32) hx hcd hts (fun _ h => List.mem_cons_of_mem _ (List.mem_append_right _ h)) hown hK hP (i := 0) rfl BMod_c0 rfl 1 (by decide) (by decide +kernel) rfl dX9_findBlanks_52 ?_
                  refine lv_iload_n hx hcd dX9_findBlanks_55 rfl (lv_at hl 3 rfl) ?_
                  refine g_zald hx hcd hK hP (i := 0) rfl BMod_c1 (by omega) (by decide) dX9_findBlanks_56 ?_
                  have f5 := hth i.toNat
                  refine wi_if_eq (tgt := 98) hx hcd (by omega) dX9_findBlanks_57 (by decide) (fun c57 => ?_) (fun c57 => ?_)
                  ·
                    try (have hq7 : fbQ st th R c.toNat (i + 1).toNat f8 g8 := fbQ_s (by omega) hq8 (by omega) (by first | exact lap_0 (fun q => by omega) | exact lap_ne (fbQ_neg hq8 (by omega)).2 (by omega)))
                    refine lv_iinc (v := iI (i + 1)) (lv' := [(3, .int (iI (i + 1))), (0, .ref (qM 0)), (1, .int (iI m)), (2, .int (iI c))]) hx hcd dX9_findBlanks_98 hl (k := 3) rfl (iI_add _ _) (by decide) rfl (fun ls hl => ?_)
                    refine lv_goto (tgt := 28) hx hcd dX9_findBlanks_101 (by decide) ?_
                    exact ih28 (i + 1) f8 g8 _ _ _ (by omega) (by omega) (by first | exact hp7 | exact hp8) (hq7) hP hD hS (lv_sub hl [1, 2, 3, 0] rfl)
                  ·
                    refine lv_aload_n hx hcd dX9_findBlanks_60 rfl (lv_at hl 0 rfl) ?_
                    refine g_get (C := RX9) (T := TX9) (N := 32) hx hcd hts (fun _ h => List.mem_cons_of_mem _ (List.mem_append_right _ h)) hown hK hP (i := 0) rfl BMod_c0 rfl 24 (by decide) (by decide +kernel) rfl dX9_findBlanks_61 ?_
                    refine lv_iload_n hx hcd dX9_findBlanks_64 rfl (lv_at hl 3 rfl) ?_
                    refine g_iald hx hcd hK hP (i := 0) rfl BMod_c14 (by omega) (by decide) dX9_findBlanks_65 ?_
                    have hqn := fbQ_neg hq8 (by omega)
                    have hla := hp8 i.toNat (by omega) (by omega)
                    have hlr := la_rng st th R i.toNat
                    refine lv_iload_n hx hcd dX9_findBlanks_66 rfl (lv_at hl 3 rfl) ?_
                    refine wi_icmp_ne (tgt := 98) hx hcd (by omega) (by omega) dX9_findBlanks_67 (by decide) (fun c67 => ?_) (fun c67 => ?_)
                    ·
                      try (have hq7 : fbQ st th R c.toNat (i + 1).toNat f8 g8 := fbQ_s (by omega) hq8 (by omega) (by first | exact lap_0 (fun q => by omega) | exact lap_ne (fbQ_neg hq8 (by omega)).2 (by omega)))
                      refine lv_iinc (v := iI (i + 1)) (lv' := [(3, .int (iI (i + 1))), (0, .ref (qM 0)), (1, .int (iI m)), (2, .int (iI c))]) hx hcd dX9_findBlanks_98 hl (k := 3) rfl (iI_add _ _) (by decide) rfl (fun ls hl => ?_)
                      refine lv_goto (tgt := 28) hx hcd dX9_findBlanks_101 (by decide) ?_
                      exact ih28 (i + 1) f8 g8 _ _ _ (by omega) (by omega) (by first | exact hp7 | exact hp8) (hq7) hP hD hS (lv_sub hl [1, 2, 3, 0] rfl)
                    ·
                      refine lv_aload_n hx hcd dX9_findBlanks_70 rfl (lv_at hl 0 rfl) ?_
                      refine lv_iload_n hx hcd dX9_findBlanks_71 rfl (lv_at hl 3 rfl) ?_
                      refine lv_iload_n hx hcd dX9_findBlanks_72 rfl (lv_at hl 2 rfl) ?_
                      refine cV_i (wc := [BMod G qM st th (cmOf R) ac up li pg le spc pw ld (wr ss) sn tk ss sh dn pp ps (faOf wo lo be) (hbOf hb) tt (sh1 rf) mbt f8 g8 mwo mlo mbe mmk mms mwh]) (wr := []) (w1 := fun (_ : Unit) => [BMod G qM st th (cmOf R) ac up li pg le spc pw ld (wr ss) sn tk ss sh dn pp ps (faOf wo lo be) (hbOf hb) tt (sh1 rf) mbt f8 g8 mwo mlo mbe mmk mms mwh]) (Bs1 := fun (_ : Unit) => [BMod G qM st th (cmOf R) ac up li pg le spc pw ld (wr ss) sn tk ss sh dn pp ps (faOf wo lo be) (hbOf hb) tt (sh1 rf) mbt f8 g8 mwo mlo mbe mmk mms mwh]) (As := [.int (iI i), .int (iI c)]) (rest := []) (kX9_turnedBy l D G qM st th R ac up li le pg spc pw ld sn tk ss sh dn pp ps wo lo be hb tt rf mbt f8 g8 mwo mlo mbe mmk mms mwh i c (by first | assumption | omega) (by first | assumption | omega) (by first | assumption | omega) (by first | assumption | omega)) rfl ⟨hx, hcd, hml, hown, hts⟩ (cwV 2 hts gX9_findBlanks_X9_turnedBy rfl rfl rfl (by decide +kernel) ⟨by decide, by decide⟩) (q0 := 0) (ci := 9) rfl rfl rfl rfl hl.1 (Nat.le_of_ble_eq_true rfl) ⟨Nat.le_of_ble_eq_true rfl, Nat.le_of_ble_eq_true rfl⟩ dX9_findBlanks_73 hK hP hD hS hA (perm_i2 [0] 1 rfl (by decide) rfl) (fun _ => perm_i2 [0] 1 rfl (by decide) rfl) (fun r u H locs hw6 hP hD hS => ?_)
                      subst hw6
                      have hsr := sb_rng st (R i.toNat) (R c.toNat) hst
                      refine wi_if_lt (tgt := 98) hx hcd (by omega) dX9_findBlanks_76 (by decide) (fun c76 => ?_) (fun c76 => ?_)
                      ·
                        try (have hq7 : fbQ st th R c.toNat (i + 1).toNat f8 g8 := fbQ_s (by omega) hq8 (by omega) (by first | exact lap_0 (fun q => by omega) | exact lap_ne (fbQ_neg hq8 (by omega)).2 (by omega)))
                        refine lv_iinc (v := iI (i + 1)) (lv' := [(3, .int (iI (i + 1))), (0, .ref (qM 0)), (1, .int (iI m)), (2, .int (iI c))]) hx hcd dX9_findBlanks_98 hl (k := 3) rfl (iI_add _ _) (by decide) rfl (fun ls hl => ?_)
                        refine lv_goto (tgt := 28) hx hcd dX9_findBlanks_101 (by decide) ?_
                        exact ih28 (i + 1) f8 g8 _ _ _ (by omega) (by omega) (by first | exact hp7 | exact hp8) (hq7) hP hD hS (lv_sub hl [1, 2, 3, 0] rfl)
                      ·
                        have hq7 : fbQ st th R c.toNat (i + 1).toNat (va_up f8 c.toNat i) (va_up g8 c.toNat (g8 i.toNat)) := by
                          have q := fbQ_hit (b := (i + 1).toNat) hp8 hqn.2 (by omega) (by omega) (by omega) (by omega) (by omega)
                          rw [show ((i.toNat : Nat) : Int) = i by omega] at q
                          exact q
                        have hp7 := fbP_up i (g8 i.toNat) hp8 (Nat.le_refl _)
                        refine lv_aload_n hx hcd dX9_findBlanks_79 rfl (lv_at hl 0 rfl) ?_
                        refine g_get (C := RX9) (T := TX9) (N := 32) hx hcd hts (fun _ h => List.mem_cons_of_mem _ (List.mem_append_right _ h)) hown hK hP (i := 0) rfl BMod_c0 rfl 24 (by decide) (by decide +kernel) rfl dX9_findBlanks_80 ?_
                        refine lv_iload_n hx hcd dX9_findBlanks_83 rfl (lv_at hl 2 rfl) ?_
                        refine lv_iload_n hx hcd dX9_findBlanks_84 rfl (lv_at hl 3 rfl) ?_
                        refine g_iast hx hcd hK hP hD hS (i := 0) rfl BMod_c14 (by omega) (by decide) (B1 := BMod G qM st th (cmOf R) ac up li pg le spc pw ld (wr ss) sn tk ss sh dn pp ps (faOf wo lo be) (hbOf hb) tt (sh1 rf) mbt (va_up f8 c.toNat i) g8 mwo mlo mbe mmk mms mwh) rfl (Bs1 := [BMod G qM st th (cmOf R) ac up li pg le spc pw ld (wr ss) sn tk ss sh dn pp ps (faOf wo lo be) (hbOf hb) tt (sh1 rf) mbt (va_up f8 c.toNat i) g8 mwo mlo mbe mmk mms mwh]) rfl dX9_findBlanks_85 (fun H locs hP hD hS => ?_)
                        refine lv_aload_n hx hcd dX9_findBlanks_86 rfl (lv_at hl 0 rfl) ?_
                        refine g_get (C := RX9) (T := TX9) (N := 32) hx hcd hts (fun _ h => List.mem_cons_of_mem _ (List.mem_append_right _ h)) hown hK hP (i := 0) rfl BMod_c0 rfl 25 (by decide) (by decide +kernel) rfl dX9_findBlanks_87 ?_
                        refine lv_iload_n hx hcd dX9_findBlanks_90 rfl (lv_at hl 2 rfl) ?_
                        refine lv_aload_n hx hcd dX9_findBlanks_91 rfl (lv_at hl 0 rfl) ?_
                        refine g_get (C := RX9) (T := TX9) (N := 32) hx hcd hts (fun _ h => List.mem_cons_of_mem _ (List.mem_append_right _ h)) hown hK hP (i := 0) rfl BMod_c0 rfl 25 (by decide) (by decide +kernel) rfl dX9_findBlanks_92 ?_
                        refine lv_iload_n hx hcd dX9_findBlanks_95 rfl (lv_at hl 3 rfl) ?_
                        refine g_iald hx hcd hK hP (i := 0) rfl BMod_c15 (by omega) (by decide) dX9_findBlanks_96 ?_
                        refine g_iast hx hcd hK hP hD hS (i := 0) rfl BMod_c15 (by omega) (by decide) (B1 := BMod G qM st th (cmOf R) ac up li pg le spc pw ld (wr ss) sn tk ss sh dn pp ps (faOf wo lo be) (hbOf hb) tt (sh1 rf) mbt (va_up f8 c.toNat i) (va_up g8 c.toNat (g8 i.toNat)) mwo mlo mbe mmk mms mwh) rfl (Bs1 := [BMod G qM st th (cmOf R) ac up li pg le spc pw ld (wr ss) sn tk ss sh dn pp ps (faOf wo lo be) (hbOf hb) tt (sh1 rf) mbt (va_up f8 c.toNat i) (va_up g8 c.toNat (g8 i.toNat)) mwo mlo mbe mmk mms mwh]) rfl dX9_findBlanks_97 (fun H locs hP hD hS => ?_)
                        try (have hq7 : fbQ st th R c.toNat (i + 1).toNat f8 g8 := fbQ_s (by omega) hq8 (by omega) (by first | exact lap_0 (fun q => by omega) | exact lap_ne (fbQ_neg hq8 (by omega)).2 (by omega)))
                        refine lv_iinc (v := iI (i + 1)) (lv' := [(3, .int (iI (i + 1))), (0, .ref (qM 0)), (1, .int (iI m)), (2, .int (iI c))]) hx hcd dX9_findBlanks_98 hl (k := 3) rfl (iI_add _ _) (by decide) rfl (fun ls hl => ?_)
                        refine lv_goto (tgt := 28) hx hcd dX9_findBlanks_101 (by decide) ?_
                        exact ih28 (i + 1) (va_up f8 c.toNat i) (va_up g8 c.toNat (g8 i.toNat)) _ _ _ (by omega) (by omega) (by first | exact hp7 | exact hp8) (hq7) hP hD hS (lv_sub hl [1, 2, 3, 0] rfl)
        exact L28 (((c - 0) + 1 : Int)).toNat 0 (va_up f9 c.toNat (-9)) (va_up g9 c.toNat (-9)) _ _ _ (by omega) (by omega) (fbP_up _ _ hp9 (Nat.le_refl _)) (fbQ_0 _) hP hD hS (lv_sub hl [1, 2, 3, 0] rfl)
  exact L4 (((12 - 0) + 1 : Int)).toNat 0 0 mle mbo _ _ _ (by omega) (by omega) (by rfl) (fun u h => absurd h (by omega)) hP hD hS (lv_sub hl [2, 1, 0] rfl)
