abbrev rmX9_isWritten : Room := { frames := 3, cells := 0, slots := 0, locals := 78 }
set_option maxHeartbeats 4000000 in
set_option maxRecDepth 100000 in
theorem kX9_isWritten (l : Launch) (D : va_G) (G : Nat → ClassId) (qM : Nat → Nat) (st : Int) (th : Nat → Int) (R : Nat → Nat → Int) (ac : Nat → Int) (up : Nat → Int) (li : Nat → Int) (le : Nat → Int) (pg : Int) (spc : Int) (pw : Int) (ld : Int) (sn : Int) (tk : Int) (ss : Int) (sh : Int) (dn : Int) (pp : Nat → Int) (ps : Nat → Int) (wo : Int) (lo : Int) (be : Int) (hb : Nat → Nat → Int) (tt : Nat → Int) (rf : Nat → Int) (mbt : Nat → Int) (mle : Nat → Int) (mbo : Nat → Int) (mwo : Int) (mlo : Int) (mbe : Int) (mmk : Nat → Int) (mms : Nat → Int) (mwh : Int) (a : Int) (b : Int) (e : Int) (hst : 2 ≤ st ∧ st ≤ 16) (hR : ∀ i j, 0 ≤ R i j ∧ R i j ≤ 9) (hac : ∀ k, 0 ≤ ac k ∧ ac k ≤ 11) (hup : ∀ k, 0 ≤ up k ∧ up k ≤ 11) (hli : ∀ k, 0 ≤ li k ∧ li k ≤ 11) (hle : ∀ k, 0 ≤ le k ∧ le k ≤ 9) (hpg : 0 ≤ pg ∧ pg ≤ 12) (hsp : 0 ≤ spc ∧ spc ≤ 9) (hpq : ∀ k, -1 ≤ pp k ∧ pp k ≤ 99 ∧ -1 ≤ ps k ∧ ps k ≤ 99 ∧ (0 ≤ pp k → 0 ≤ ps k)) (hmk : ∀ k, -1 ≤ mmk k ∧ mmk k ≤ 99) (ha : -1 ≤ a ∧ a ≤ 11) (hb_ : -1 ≤ b ∧ b ≤ 11) (he : -1 ≤ e ∧ e ≤ 1) : CtI l yX9_isWritten wsX9_isWritten rmX9_isWritten D G [.ref (qM 0), .int (iI a), .int (iI b), .int (iI e)] [BMod G qM st th (cmOf R) ac up li pg le spc pw ld (wr ss) sn tk ss sh dn pp ps (faOf wo lo be) (hbOf hb) tt (sh1 rf) mbt mle mbo mwo mlo mbe mmk mms mwh] (fun (r : Int32) (u : (Nat → Int) × (Nat → Int)) => r = iI (if fitB 1200 cM R ac up li le spc st pg (fun c => decide (0 ≤ pp c)) a b e = true then 1 else 0) ∧ ∀ c, -1 ≤ u.1 c ∧ u.1 c ≤ 99) (fun u => [BMod G qM st th (cmOf R) ac up li pg le spc pw ld (wr ss) sn tk ss sh dn pp ps (faOf wo lo be) (hbOf hb) tt (sh1 rf) mbt mle mbo a b e u.1 u.2 mwh]) := by
  refine CtI.ofZ (cc := cX9_isWritten) (maxL := 6) (by decide) rfl (Nat.le_of_ble_eq_true rfl) ?_
  intro p0 e0 s0 m0 args bel met cd A0 ls Q0 hx hcd hml hown hts hK hP hD hA hl fin
  have hl : lv_has ls 6 [(0, .ref (qM 0)), (1, .int (iI a)), (2, .int (iI b)), (3, .int (iI e))] := hl
  have hS : va_S A0 s0.heap s0.heap [] := va_S.rf
  have hH : va_P D vwCl (fl [BMod G qM st th (cmOf R) ac up li pg le spc pw ld (wr ss) sn tk ss sh dn pp ps (faOf wo lo be) (hbOf hb) tt (sh1 rf) mbt mle mbo mwo mlo mbe mmk mms mwh]) s0.heap := hP
  obtain ⟨H, eH⟩ : ∃ H, H = s0.heap := ⟨_, rfl⟩
  obtain ⟨locs, eL⟩ : ∃ locs : List Loc, locs = [] := ⟨_, rfl⟩
  have hS : va_S A0 s0.heap H locs := by rw [eH, eL]; exact hS
  have hP : va_P D vwCl (fl [BMod G qM st th (cmOf R) ac up li pg le spc pw ld (wr ss) sn tk ss sh dn pp ps (faOf wo lo be) (hbOf hb) tt (sh1 rf) mbt mle mbo mwo mlo mbe mmk mms mwh]) H := by rw [eH]; exact hP
  suffices goal : W p0 l e0 rmX9_isWritten s0 m0 args bel met cd H locs 0 0 Q0 (F0 m0 0 ls []) by rw [eH, eL] at goal; exact goal
  clear eH eL hH
  refine lv_aload_n hx hcd dX9_isWritten_0 rfl (lv_at hl 0 rfl) ?_
  refine lv_iload_n hx hcd dX9_isWritten_1 rfl (lv_at hl 1 rfl) ?_
  refine lv_iload_n hx hcd dX9_isWritten_2 rfl (lv_at hl 2 rfl) ?_
  refine lv_iload_n hx hcd dX9_isWritten_3 rfl (lv_at hl 3 rfl) ?_
  refine cV_v (wc := [BMod G qM st th (cmOf R) ac up li pg le spc pw ld (wr ss) sn tk ss sh dn pp ps (faOf wo lo be) (hbOf hb) tt (sh1 rf) mbt mle mbo mwo mlo mbe mmk mms mwh]) (wr := []) (w1 := fun (_ : Unit) => [BMod G qM st th (cmOf R) ac up li pg le spc pw ld (wr ss) sn tk ss sh dn pp ps (faOf wo lo be) (hbOf hb) tt (sh1 rf) mbt mle mbo a b e mmk mms mwh]) (Bs1 := fun (_ : Unit) => [BMod G qM st th (cmOf R) ac up li pg le spc pw ld (wr ss) sn tk ss sh dn pp ps (faOf wo lo be) (hbOf hb) tt (sh1 rf) mbt mle mbo a b e mmk mms mwh]) (As := [.int (iI a), .int (iI b), .int (iI e)]) (rest := []) (kX9_holdFaults l D G qM st th R ac up li le pg spc pw ld sn tk ss sh dn pp ps wo lo be hb tt rf mbt mle mbo mwo mlo mbe mmk mms mwh a b e ) rfl ⟨hx, hcd, hml, hown, hts⟩ (cwV 3 hts gX9_isWritten_X9_holdFaults rfl rfl rfl (by decide +kernel) ⟨by decide, by decide⟩) (q0 := 0) (ci := 9) rfl rfl rfl rfl hl.1 (Nat.le_of_ble_eq_true rfl) ⟨Nat.le_of_ble_eq_true rfl, Nat.le_of_ble_eq_true rfl⟩ dX9_isWritten_4 hK hP hD hS hA (perm_i2 [0] 1 rfl (by decide) rfl) (fun _ => perm_i2 [0] 1 rfl (by decide) rfl) (fun u H locs hw1 hP hD hS => ?_)
  refine lv_aload_n hx hcd dX9_isWritten_7 rfl (lv_at hl 0 rfl) ?_
  refine cV_v (wc := [BMod G qM st th (cmOf R) ac up li pg le spc pw ld (wr ss) sn tk ss sh dn pp ps (faOf wo lo be) (hbOf hb) tt (sh1 rf) mbt mle mbo a b e mmk mms mwh]) (wr := []) (w1 := fun (_ : Unit) => [BMod G qM st th (cmOf R) ac up li pg le spc pw ld (wr ss) sn tk ss sh dn pp ps (faOf wo lo be) (hbOf hb) tt (sh1 rf) mbt mle mbo a b e (filI (-1) 1200 mmk) (filI (-1) 1200 mms) mwh]) (Bs1 := fun (_ : Unit) => [BMod G qM st th (cmOf R) ac up li pg le spc pw ld (wr ss) sn tk ss sh dn pp ps (faOf wo lo be) (hbOf hb) tt (sh1 rf) mbt mle mbo a b e (filI (-1) 1200 mmk) (filI (-1) 1200 mms) mwh]) (As := []) (rest := []) (kX9_newMarks l D G qM st th R ac up li le pg spc pw ld sn tk ss sh dn pp ps wo lo be hb tt rf mbt mle mbo a b e mmk mms mwh ) rfl ⟨hx, hcd, hml, hown, hts⟩ (cwV 0 hts gX9_isWritten_X9_newMarks rfl rfl rfl (by decide +kernel) ⟨by decide, by decide⟩) (q0 := 0) (ci := 9) rfl rfl rfl rfl hl.1 (Nat.le_of_ble_eq_true rfl) ⟨Nat.le_of_ble_eq_true rfl, Nat.le_of_ble_eq_true rfl⟩ dX9_isWritten_8 hK hP hD hS hA (perm_i2 [0] 1 rfl (by decide) rfl) (fun _ => perm_i2 [0] 1 rfl (by decide) rfl) (fun u H locs hw2 hP hD hS => ?_)
  refine wi_iconst hx hcd dX9_isWritten_11 ?_
  refine lv_istore (lv' := [(4, .int (iI 0)), (0, .ref (qM 0)), (1, .int (iI a)), (2, .int (iI b)), (3, .int (iI e))]) hx hcd dX9_isWritten_12 hl (by decide) rfl (fun ls hl => ?_)
  have L14 : ∀ (fu : Nat) (k : Int) (k9 : Nat → Int) (s9 : Nat → Int) (H : Heap) (locs : List Loc) (ls : Array Slot), (pg - k < (fu : Int)) → (0 ≤ k ∧ k ≤ pg) → (∀ c : Nat, c < 1200 → decide (0 ≤ k9 c) = msS cM R ac up li le spc st a b e k.toNat c) → (∀ c, -1 ≤ k9 c ∧ k9 c ≤ 99) → va_P D vwCl (fl [BMod G qM st th (cmOf R) ac up li pg le spc pw ld (wr ss) sn tk ss sh dn pp ps (faOf wo lo be) (hbOf hb) tt (sh1 rf) mbt mle mbo a b e k9 s9 mwh]) H → va_D A0 (fl [BMod G qM st th (cmOf R) ac up li pg le spc pw ld (wr ss) sn tk ss sh dn pp ps (faOf wo lo be) (hbOf hb) tt (sh1 rf) mbt mle mbo a b e k9 s9 mwh]) → va_S A0 s0.heap H locs → lv_has ls 6 [(0, .ref (qM 0)), (1, .int (iI a)), (2, .int (iI b)), (3, .int (iI e)), (4, .int (iI k))] → W p0 l e0 rmX9_isWritten s0 m0 args bel met cd H locs 0 0 Q0 (F0 m0 14 ls []) := by
    intro fu
    induction fu with
    | zero =>
      intro k k9 s9 H locs ls hfu hk hm hr9
      exact absurd hfu (by omega)
    | succ fu ih =>
      intro k k9 s9 H locs ls hfu hk hm hr9 hP hD hS hl
      have ih14 := ih
      clear ih
      refine lv_iload hx hcd dX9_isWritten_14 (lv_at hl 4 rfl) ?_
      refine lv_aload_n hx hcd dX9_isWritten_16 rfl (lv_at hl 0 rfl) ?_
      refine g_get (C := RX9) (T := TX9) (N := 32) hx hcd hts (fun _ h => List.mem_cons_of_mem _ (List.mem_append_right _ h)) hown hK hP (i := 0) rfl BMod_c0 rfl 6 (by decide) (by decide +kernel) rfl dX9_isWritten_17 ?_
      refine wi_icmp_ge (tgt := 64) hx hcd (by omega) (by omega) dX9_isWritten_20 (by decide) (fun c20 => ?_) (fun c20 => ?_)
      ·
        refine wi_iconst hx hcd dX9_isWritten_64 ?_
        refine lv_istore (lv' := [(4, .int (iI 1)), (0, .ref (qM 0)), (1, .int (iI a)), (2, .int (iI b)), (3, .int (iI e))]) hx hcd dX9_isWritten_65 hl (by decide) rfl (fun ls hl => ?_)
        refine wi_iconst hx hcd dX9_isWritten_67 ?_
        refine lv_istore (lv' := [(5, .int (iI 0)), (4, .int (iI 1)), (0, .ref (qM 0)), (1, .int (iI a)), (2, .int (iI b)), (3, .int (iI e))]) hx hcd dX9_isWritten_68 hl (by decide) rfl (fun ls hl => ?_)
        try (rw [show k = pg by omega] at hm)
        have L70 : ∀ (fu : Nat) (s : Int) (i : Int) (H : Heap) (locs : List Loc) (ls : Array Slot), (1200 - i < (fu : Int)) → (0 ≤ i ∧ i ≤ 1200) → (s = 0 ∨ s = 1) → ((s = 1 ∧ (∀ c : Nat, c < i.toNat → msS cM R ac up li le spc st a b e pg.toNat c = decide (0 ≤ pp c))) ∨ (s = 0 ∧ ¬ (∀ c : Nat, c < i.toNat → msS cM R ac up li le spc st a b e pg.toNat c = decide (0 ≤ pp c)))) → va_P D vwCl (fl [BMod G qM st th (cmOf R) ac up li pg le spc pw ld (wr ss) sn tk ss sh dn pp ps (faOf wo lo be) (hbOf hb) tt (sh1 rf) mbt mle mbo a b e k9 s9 mwh]) H → va_D A0 (fl [BMod G qM st th (cmOf R) ac up li pg le spc pw ld (wr ss) sn tk ss sh dn pp ps (faOf wo lo be) (hbOf hb) tt (sh1 rf) mbt mle mbo a b e k9 s9 mwh]) → va_S A0 s0.heap H locs → lv_has ls 6 [(0, .ref (qM 0)), (1, .int (iI a)), (2, .int (iI b)), (3, .int (iI e)), (4, .int (iI s)), (5, .int (iI i))] → W p0 l e0 rmX9_isWritten s0 m0 args bel met cd H locs 0 0 Q0 (F0 m0 70 ls []) := by
          intro fu
          induction fu with
          | zero =>
            intro s i H locs ls hfu hi h01 hs
            exact absurd hfu (by omega)
          | succ fu ih =>
            intro s i H locs ls hfu hi h01 hs hP hD hS hl
            have ih70 := ih
            clear ih
            refine lv_iload hx hcd dX9_isWritten_70 (lv_at hl 5 rfl) ?_
            refine wi_sipush hx hcd dX9_isWritten_72 (by decide) ?_
            refine wi_icmp_ge (tgt := 129) hx hcd (by omega) (by omega) dX9_isWritten_75 (by decide) (fun c75 => ?_) (fun c75 => ?_)
            ·
              refine lv_iload hx hcd dX9_isWritten_129 (lv_at hl 4 rfl) ?_
              exact fin _ ⟨k9, s9⟩ H locs ls 131 dX9_isWritten_131 hP hD hS (nz (by omega)) (⟨congrArg iI (by rcases hs with ⟨e9, q⟩ | ⟨e9, q⟩ <;> first | (rw [e9, if_pos (by unfold fitB; rw [decide_eq_true_eq]; exact fun c h => q c (by omega))]) | (rw [e9, if_neg (fun z => q (by unfold fitB at z; rw [decide_eq_true_eq] at z; exact fun c h => z c (by omega)))])), hr9⟩)
            ·
              refine lv_iload hx hcd dX9_isWritten_78 (lv_at hl 4 rfl) ?_
              refine wi_if_eq (tgt := 120) hx hcd (by omega) dX9_isWritten_80 (by decide) (fun c80 => ?_) (fun c80 => ?_)
              ·
                have hs8 : ((0 : Int) = 1 ∧ (∀ c : Nat, c < (i + 1).toNat → msS cM R ac up li le spc st a b e pg.toNat c = decide (0 ≤ pp c))) ∨ ((0 : Int) = 0 ∧ ¬ (∀ c : Nat, c < (i + 1).toNat → msS cM R ac up li le spc st a b e pg.toNat c = decide (0 ≤ pp c))) := Or.inr ⟨rfl, fun z => by
                  first
                  | (rcases hs with ⟨q, -⟩ | ⟨-, q⟩; (exact absurd (q.symm.trans c80) (by decide)); exact q (fun c h => z c (by omega)))
                  | (exfalso; have q := z i.toNat (by omega); rw [← hm i.toNat (by omega), decide_eq_decide] at q; omega)⟩
                refine wi_iconst hx hcd dX9_isWritten_120 ?_
                refine lv_istore (lv' := [(4, .int (iI 0)), (0, .ref (qM 0)), (1, .int (iI a)), (2, .int (iI b)), (3, .int (iI e)), (5, .int (iI i))]) hx hcd dX9_isWritten_121 hl (by decide) rfl (fun ls hl => ?_)
                refine lv_iinc (v := iI (i + 1)) (lv' := [(5, .int (iI (i + 1))), (4, .int (iI 0)), (0, .ref (qM 0)), (1, .int (iI a)), (2, .int (iI b)), (3, .int (iI e))]) hx hcd dX9_isWritten_123 hl (k := 5) rfl (iI_add _ _) (by decide) rfl (fun ls hl => ?_)
                refine lv_goto (tgt := 70) hx hcd dX9_isWritten_126 (by decide) ?_
                try (rw [show k = pg by omega] at hm)
                exact ih70 0 (i + 1) _ _ _ (by omega) (by omega) (by omega) (hs8) hP hD hS (lv_sub hl [2, 3, 4, 5, 1, 0] rfl)
              ·
                refine lv_aload_n hx hcd dX9_isWritten_83 rfl (lv_at hl 0 rfl) ?_
                refine g_get (C := RX9) (T := TX9) (N := 32) hx hcd hts (fun _ h => List.mem_cons_of_mem _ (List.mem_append_right _ h)) hown hK hP (i := 0) rfl BMod_c0 rfl 17 (by decide) (by decide +kernel) rfl dX9_isWritten_84 ?_
                refine lv_iload hx hcd dX9_isWritten_87 (lv_at hl 5 rfl) ?_
                refine g_iald hx hcd hK hP (i := 0) rfl BMod_c7 (by omega) (by decide) dX9_isWritten_89 ?_
                have f3 := hpq i.toNat
                refine wi_if_ge (tgt := 97) hx hcd (by omega) dX9_isWritten_90 (by decide) (fun c90 => ?_) (fun c90 => ?_)
                ·
                  refine wi_iconst hx hcd dX9_isWritten_97 ?_
                  refine lv_aload_n hx hcd dX9_isWritten_98 rfl (lv_at hl 0 rfl) ?_
                  refine g_get (C := RX9) (T := TX9) (N := 32) hx hcd hts (fun _ h => List.mem_cons_of_mem _ (List.mem_append_right _ h)) hown hK hP (i := 0) rfl BMod_c0 rfl 29 (by decide) (by decide +kernel) rfl dX9_isWritten_99 ?_
                  refine lv_iload hx hcd dX9_isWritten_102 (lv_at hl 5 rfl) ?_
                  refine g_iald hx hcd hK hP (i := 0) rfl BMod_c16 (by omega) (by decide) dX9_isWritten_104 ?_
                  have f4 := hr9 i.toNat
                  refine wi_if_ge (tgt := 112) hx hcd (by omega) dX9_isWritten_105 (by decide) (fun c105 => ?_) (fun c105 => ?_)
                  ·
                    refine wi_iconst hx hcd dX9_isWritten_112 ?_
                    refine wi_icmp_ne (tgt := 120) hx hcd (by omega) (by omega) dX9_isWritten_113 (by decide) (fun c113 => ?_) (fun c113 => ?_)
                    ·
                      have hs8 : ((0 : Int) = 1 ∧ (∀ c : Nat, c < (i + 1).toNat → msS cM R ac up li le spc st a b e pg.toNat c = decide (0 ≤ pp c))) ∨ ((0 : Int) = 0 ∧ ¬ (∀ c : Nat, c < (i + 1).toNat → msS cM R ac up li le spc st a b e pg.toNat c = decide (0 ≤ pp c))) := Or.inr ⟨rfl, fun z => by
                        first
                        | (rcases hs with ⟨q, -⟩ | ⟨-, q⟩; (exact absurd (q.symm.trans c80) (by decide)); exact q (fun c h => z c (by omega)))
                        | (exfalso; have q := z i.toNat (by omega); rw [← hm i.toNat (by omega), decide_eq_decide] at q; omega)⟩
                      refine wi_iconst hx hcd dX9_isWritten_120 ?_
                      refine lv_istore (lv' := [(4, .int (iI 0)), (0, .ref (qM 0)), (1, .int (iI a)), (2, .int (iI b)), (3, .int (iI e)), (5, .int (iI i))]) hx hcd dX9_isWritten_121 hl (by decide) rfl (fun ls hl => ?_)
                      refine lv_iinc (v := iI (i + 1)) (lv' := [(5, .int (iI (i + 1))), (4, .int (iI 0)), (0, .ref (qM 0)), (1, .int (iI a)), (2, .int (iI b)), (3, .int (iI e))]) hx hcd dX9_isWritten_123 hl (k := 5) rfl (iI_add _ _) (by decide) rfl (fun ls hl => ?_)
                      refine lv_goto (tgt := 70) hx hcd dX9_isWritten_126 (by decide) ?_
                      try (rw [show k = pg by omega] at hm)
                      exact ih70 0 (i + 1) _ _ _ (by omega) (by omega) (by omega) (hs8) hP hD hS (lv_sub hl [2, 3, 4, 5, 1, 0] rfl)
                    ·
                      have hq : msS cM R ac up li le spc st a b e pg.toNat i.toNat = decide (0 ≤ pp i.toNat) := by
                        rw [← hm i.toNat (by omega)]
                        first | (rw [decide_eq_true (by omega), decide_eq_true (by omega)]) | (rw [decide_eq_false (by omega), decide_eq_false (by omega)]) | (exfalso; omega)
                      have hs8 : ((1 : Int) = 1 ∧ (∀ c : Nat, c < (i + 1).toNat → msS cM R ac up li le spc st a b e pg.toNat c = decide (0 ≤ pp c))) ∨ ((1 : Int) = 0 ∧ ¬ (∀ c : Nat, c < (i + 1).toNat → msS cM R ac up li le spc st a b e pg.toNat c = decide (0 ≤ pp c))) := Or.inl ⟨rfl, fun c h => by
                        rcases hs with ⟨-, q⟩ | ⟨q, -⟩
                        · by_cases e9 : c = i.toNat
                          · rw [e9]; exact hq
                          · exact q c (by omega)
                        · exact absurd q c80⟩
                      refine wi_iconst hx hcd dX9_isWritten_116 ?_
                      refine lv_goto (tgt := 121) hx hcd dX9_isWritten_117 (by decide) ?_
                      refine lv_istore (lv' := [(4, .int (iI 1)), (0, .ref (qM 0)), (1, .int (iI a)), (2, .int (iI b)), (3, .int (iI e)), (5, .int (iI i))]) hx hcd dX9_isWritten_121 hl (by decide) rfl (fun ls hl => ?_)
                      refine lv_iinc (v := iI (i + 1)) (lv' := [(5, .int (iI (i + 1))), (4, .int (iI 1)), (0, .ref (qM 0)), (1, .int (iI a)), (2, .int (iI b)), (3, .int (iI e))]) hx hcd dX9_isWritten_123 hl (k := 5) rfl (iI_add _ _) (by decide) rfl (fun ls hl => ?_)
                      refine lv_goto (tgt := 70) hx hcd dX9_isWritten_126 (by decide) ?_
                      try (rw [show k = pg by omega] at hm)
                      exact ih70 1 (i + 1) _ _ _ (by omega) (by omega) (by omega) (hs8) hP hD hS (lv_sub hl [2, 3, 4, 5, 1, 0] rfl)
                  ·
                    refine wi_iconst hx hcd dX9_isWritten_108 ?_
                    refine lv_goto (tgt := 113) hx hcd dX9_isWritten_109 (by decide) ?_
                    refine wi_icmp_ne (tgt := 120) hx hcd (by omega) (by omega) dX9_isWritten_113 (by decide) (fun c113 => ?_) (fun c113 => ?_)
                    ·
                      have hs8 : ((0 : Int) = 1 ∧ (∀ c : Nat, c < (i + 1).toNat → msS cM R ac up li le spc st a b e pg.toNat c = decide (0 ≤ pp c))) ∨ ((0 : Int) = 0 ∧ ¬ (∀ c : Nat, c < (i + 1).toNat → msS cM R ac up li le spc st a b e pg.toNat c = decide (0 ≤ pp c))) := Or.inr ⟨rfl, fun z => by
                        first
                        | (rcases hs with ⟨q, -⟩ | ⟨-, q⟩; (exact absurd (q.symm.trans c80) (by decide)); exact q (fun c h => z c (by omega)))
                        | (exfalso; have q := z i.toNat (by omega); rw [← hm i.toNat (by omega), decide_eq_decide] at q; omega)⟩
                      refine wi_iconst hx hcd dX9_isWritten_120 ?_
                      refine lv_istore (lv' := [(4, .int (iI 0)), (0, .ref (qM 0)), (1, .int (iI a)), (2, .int (iI b)), (3, .int (iI e)), (5, .int (iI i))]) hx hcd dX9_isWritten_121 hl (by decide) rfl (fun ls hl => ?_)
                      refine lv_iinc (v := iI (i + 1)) (lv' := [(5, .int (iI (i + 1))), (4, .int (iI 0)), (0, .ref (qM 0)), (1, .int (iI a)), (2, .int (iI b)), (3, .int (iI e))]) hx hcd dX9_isWritten_123 hl (k := 5) rfl (iI_add _ _) (by decide) rfl (fun ls hl => ?_)
                      refine lv_goto (tgt := 70) hx hcd dX9_isWritten_126 (by decide) ?_
                      try (rw [show k = pg by omega] at hm)
                      exact ih70 0 (i + 1) _ _ _ (by omega) (by omega) (by omega) (hs8) hP hD hS (lv_sub hl [2, 3, 4, 5, 1, 0] rfl)
                    ·
                      have hq : msS cM R ac up li le spc st a b e pg.toNat i.toNat = decide (0 ≤ pp i.toNat) := by
                        rw [← hm i.toNat (by omega)]
                        first | (rw [decide_eq_true (by omega), decide_eq_true (by omega)]) | (rw [decide_eq_false (by omega), decide_eq_false (by omega)]) | (exfalso; omega)
                      have hs8 : ((1 : Int) = 1 ∧ (∀ c : Nat, c < (i + 1).toNat → msS cM R ac up li le spc st a b e pg.toNat c = decide (0 ≤ pp c))) ∨ ((1 : Int) = 0 ∧ ¬ (∀ c : Nat, c < (i + 1).toNat → msS cM R ac up li le spc st a b e pg.toNat c = decide (0 ≤ pp c))) := Or.inl ⟨rfl, fun c h => by
                        rcases hs with ⟨-, q⟩ | ⟨q, -⟩
                        · by_cases e9 : c = i.toNat
                          · rw [e9]; exact hq
                          · exact q c (by omega)
                        · exact absurd q c80⟩
                      refine wi_iconst hx hcd dX9_isWritten_116 ?_
                      refine lv_goto (tgt := 121) hx hcd dX9_isWritten_117 (by decide) ?_
                      refine lv_istore (lv' := [(4, .int (iI 1)), (0, .ref (qM 0)), (1, .int (iI a)), (2, .int (iI b)), (3, .int (iI e)), (5, .int (iI i))]) hx hcd dX9_isWritten_121 hl (by decide) rfl (fun ls hl => ?_)
                      refine lv_iinc (v := iI (i + 1)) (lv' := [(5, .int (iI (i + 1))), (4, .int (iI 1)), (0, .ref (qM 0)), (1, .int (iI a)), (2, .int (iI b)), (3, .int (iI e))]) hx hcd dX9_isWritten_123 hl (k := 5) rfl (iI_add _ _) (by decide) rfl (fun ls hl => ?_)
                      refine lv_goto (tgt := 70) hx hcd dX9_isWritten_126 (by decide) ?_
                      try (rw [show k = pg by omega] at hm)
                      exact ih70 1 (i + 1) _ _ _ (by omega) (by omega) (by omega) (hs8) hP hD hS (lv_sub hl [2, 3, 4, 5, 1, 0] rfl)
                ·
                  refine wi_iconst hx hcd dX9_isWritten_93 ?_
                  refine lv_goto (tgt := 98) hx hcd dX9_isWritten_94 (by decide) ?_
                  refine lv_aload_n hx hcd dX9_isWritten_98 rfl (lv_at hl 0 rfl) ?_
                  refine g_get (C := RX9) (T := TX9) (N := 32) hx hcd hts (fun _ h => List.mem_cons_of_mem _ (List.mem_append_right _ h)) hown hK hP (i := 0) rfl BMod_c0 rfl 29 (by decide) (by decide +kernel) rfl dX9_isWritten_99 ?_
                  refine lv_iload hx hcd dX9_isWritten_102 (lv_at hl 5 rfl) ?_
                  refine g_iald hx hcd hK hP (i := 0) rfl BMod_c16 (by omega) (by decide) dX9_isWritten_104 ?_
                  have f5 := hr9 i.toNat
                  refine wi_if_ge (tgt := 112) hx hcd (by omega) dX9_isWritten_105 (by decide) (fun c105 => ?_) (fun c105 => ?_)
                  ·
                    refine wi_iconst hx hcd dX9_isWritten_112 ?_
                    refine wi_icmp_ne (tgt := 120) hx hcd (by omega) (by omega) dX9_isWritten_113 (by decide) (fun c113 => ?_) (fun c113 => ?_)
                    ·
                      have hs8 : ((0 : Int) = 1 ∧ (∀ c : Nat, c < (i + 1).toNat → msS cM R ac up li le spc st a b e pg.toNat c = decide (0 ≤ pp c))) ∨ ((0 : Int) = 0 ∧ ¬ (∀ c : Nat, c < (i + 1).toNat → msS cM R ac up li le spc st a b e pg.toNat c = decide (0 ≤ pp c))) := Or.inr ⟨rfl, fun z => by
                        first
                        | (rcases hs with ⟨q, -⟩ | ⟨-, q⟩; (exact absurd (q.symm.trans c80) (by decide)); exact q (fun c h => z c (by omega)))
                        | (exfalso; have q := z i.toNat (by omega); rw [← hm i.toNat (by omega), decide_eq_decide] at q; omega)⟩
                      refine wi_iconst hx hcd dX9_isWritten_120 ?_
                      refine lv_istore (lv' := [(4, .int (iI 0)), (0, .ref (qM 0)), (1, .int (iI a)), (2, .int (iI b)), (3, .int (iI e)), (5, .int (iI i))]) hx hcd dX9_isWritten_121 hl (by decide) rfl (fun ls hl => ?_)
                      refine lv_iinc (v := iI (i + 1)) (lv' := [(5, .int (iI (i + 1))), (4, .int (iI 0)), (0, .ref (qM 0)), (1, .int (iI a)), (2, .int (iI b)), (3, .int (iI e))]) hx hcd dX9_isWritten_123 hl (k := 5) rfl (iI_add _ _) (by decide) rfl (fun ls hl => ?_)
                      refine lv_goto (tgt := 70) hx hcd dX9_isWritten_126 (by decide) ?_
                      try (rw [show k = pg by omega] at hm)
                      exact ih70 0 (i + 1) _ _ _ (by omega) (by omega) (by omega) (hs8) hP hD hS (lv_sub hl [2, 3, 4, 5, 1, 0] rfl)
                    ·
                      have hq : msS cM R ac up li le spc st a b e pg.toNat i.toNat = decide (0 ≤ pp i.toNat) := by
                        rw [← hm i.toNat (by omega)]
                        first | (rw [decide_eq_true (by omega), decide_eq_true (by omega)]) | (rw [decide_eq_false (by omega), decide_eq_false (by omega)]) | (exfalso; omega)
                      have hs8 : ((1 : Int) = 1 ∧ (∀ c : Nat, c < (i + 1).toNat → msS cM R ac up li le spc st a b e pg.toNat c = decide (0 ≤ pp c))) ∨ ((1 : Int) = 0 ∧ ¬ (∀ c : Nat, c < (i + 1).toNat → msS cM R ac up li le spc st a b e pg.toNat c = decide (0 ≤ pp c))) := Or.inl ⟨rfl, fun c h => by
                        rcases hs with ⟨-, q⟩ | ⟨q, -⟩
                        · by_cases e9 : c = i.toNat
                          · rw [e9]; exact hq
                          · exact q c (by omega)
                        · exact absurd q c80⟩
                      refine wi_iconst hx hcd dX9_isWritten_116 ?_
                      refine lv_goto (tgt := 121) hx hcd dX9_isWritten_117 (by decide) ?_
                      refine lv_istore (lv' := [(4, .int (iI 1)), (0, .ref (qM 0)), (1, .int (iI a)), (2, .int (iI b)), (3, .int (iI e)), (5, .int (iI i))]) hx hcd dX9_isWritten_121 hl (by decide) rfl (fun ls hl => ?_)
                      refine lv_iinc (v := iI (i + 1)) (lv' := [(5, .int (iI (i + 1))), (4, .int (iI 1)), (0, .ref (qM 0)), (1, .int (iI a)), (2, .int (iI b)), (3, .int (iI e))]) hx hcd dX9_isWritten_123 hl (k := 5) rfl (iI_add _ _) (by decide) rfl (fun ls hl => ?_)
                      refine lv_goto (tgt := 70) hx hcd dX9_isWritten_126 (by decide) ?_
                      try (rw [show k = pg by omega] at hm)
                      exact ih70 1 (i + 1) _ _ _ (by omega) (by omega) (by omega) (hs8) hP hD hS (lv_sub hl [2, 3, 4, 5, 1, 0] rfl)
                  ·
                    refine wi_iconst hx hcd dX9_isWritten_108 ?_
                    refine lv_goto (tgt := 113) hx hcd dX9_isWritten_109 (by decide) ?_
                    refine wi_icmp_ne (tgt := 120) hx hcd (by omega) (by omega) dX9_isWritten_113 (by decide) (fun c113 => ?_) (fun c113 => ?_)
                    ·
                      have hs8 : ((0 : Int) = 1 ∧ (∀ c : Nat, c < (i + 1).toNat → msS cM R ac up li le spc st a b e pg.toNat c = decide (0 ≤ pp c))) ∨ ((0 : Int) = 0 ∧ ¬ (∀ c : Nat, c < (i + 1).toNat → msS cM R ac up li le spc st a b e pg.toNat c = decide (0 ≤ pp c))) := Or.inr ⟨rfl, fun z => by
                        first
                        | (rcases hs with ⟨q, -⟩ | ⟨-, q⟩; (exact absurd (q.symm.trans c80) (by decide)); exact q (fun c h => z c (by omega)))
                        | (exfalso; have q := z i.toNat (by omega); rw [← hm i.toNat (by omega), decide_eq_decide] at q; omega)⟩
                      refine wi_iconst hx hcd dX9_isWritten_120 ?_
                      refine lv_istore (lv' := [(4, .int (iI 0)), (0, .ref (qM 0)), (1, .int (iI a)), (2, .int (iI b)), (3, .int (iI e)), (5, .int (iI i))]) hx hcd dX9_isWritten_121 hl (by decide) rfl (fun ls hl => ?_)
                      refine lv_iinc (v := iI (i + 1)) (lv' := [(5, .int (iI (i + 1))), (4, .int (iI 0)), (0, .ref (qM 0)), (1, .int (iI a)), (2, .int (iI b)), (3, .int (iI e))]) hx hcd dX9_isWritten_123 hl (k := 5) rfl (iI_add _ _) (by decide) rfl (fun ls hl => ?_)
                      refine lv_goto (tgt := 70) hx hcd dX9_isWritten_126 (by decide) ?_
                      try (rw [show k = pg by omega] at hm)
                      exact ih70 0 (i + 1) _ _ _ (by omega) (by omega) (by omega) (hs8) hP hD hS (lv_sub hl [2, 3, 4, 5, 1, 0] rfl)
                    ·
                      have hq : msS cM R ac up li le spc st a b e pg.toNat i.toNat = decide (0 ≤ pp i.toNat) := by
                        rw [← hm i.toNat (by omega)]
                        first | (rw [decide_eq_true (by omega), decide_eq_true (by omega)]) | (rw [decide_eq_false (by omega), decide_eq_false (by omega)]) | (exfalso; omega)
                      have hs8 : ((1 : Int) = 1 ∧ (∀ c : Nat, c < (i + 1).toNat → msS cM R ac up li le spc st a b e pg.toNat c = decide (0 ≤ pp c))) ∨ ((1 : Int) = 0 ∧ ¬ (∀ c : Nat, c < (i + 1).toNat → msS cM R ac up li le spc st a b e pg.toNat c = decide (0 ≤ pp c))) := Or.inl ⟨rfl, fun c h => by
                        rcases hs with ⟨-, q⟩ | ⟨q, -⟩
                        · by_cases e9 : c = i.toNat
                          · rw [e9]; exact hq
                          · exact q c (by omega)
                        · exact absurd q c80⟩
                      refine wi_iconst hx hcd dX9_isWritten_116 ?_
                      refine lv_goto (tgt := 121) hx hcd dX9_isWritten_117 (by decide) ?_
                      refine lv_istore (lv' := [(4, .int (iI 1)), (0, .ref (qM 0)), (1, .int (iI a)), (2, .int (iI b)), (3, .int (iI e)), (5, .int (iI i))]) hx hcd dX9_isWritten_121 hl (by decide) rfl (fun ls hl => ?_)
                      refine lv_iinc (v := iI (i + 1)) (lv' := [(5, .int (iI (i + 1))), (4, .int (iI 1)), (0, .ref (qM 0)), (1, .int (iI a)), (2, .int (iI b)), (3, .int (iI e))]) hx hcd dX9_isWritten_123 hl (k := 5) rfl (iI_add _ _) (by decide) rfl (fun ls hl => ?_)
                      refine lv_goto (tgt := 70) hx hcd dX9_isWritten_126 (by decide) ?_
                      try (rw [show k = pg by omega] at hm)
                      exact ih70 1 (i + 1) _ _ _ (by omega) (by omega) (by omega) (hs8) hP hD hS (lv_sub hl [2, 3, 4, 5, 1, 0] rfl)
        exact L70 (((1200 - 0) + 1 : Int)).toNat 1 0 _ _ _ (by omega) (by omega) (by omega) (Or.inl ⟨rfl, fun c h => absurd h (by omega)⟩) hP hD hS (lv_sub hl [2, 3, 4, 5, 1, 0] rfl)
      ·
        refine wi_iconst hx hcd dX9_isWritten_23 ?_
        refine lv_istore (lv' := [(5, .int (iI 0)), (0, .ref (qM 0)), (1, .int (iI a)), (2, .int (iI b)), (3, .int (iI e)), (4, .int (iI k))]) hx hcd dX9_isWritten_24 hl (by decide) rfl (fun ls hl => ?_)
        have L26 : ∀ (fu : Nat) (t : Int) (k8 : Nat → Int) (s8 : Nat → Int) (H : Heap) (locs : List Loc) (ls : Array Slot), (st - t < (fu : Int)) → (0 ≤ t ∧ t ≤ st) → (k = b → t = 0) → (∀ c : Nat, c < 1200 → decide (0 ≤ k8 c) = orM (msS cM R ac up li le spc st a b e k.toNat) (pgS cM R ac up li le spc a e k t.toNat) c) → (∀ c, -1 ≤ k8 c ∧ k8 c ≤ 99) → va_P D vwCl (fl [BMod G qM st th (cmOf R) ac up li pg le spc pw ld (wr ss) sn tk ss sh dn pp ps (faOf wo lo be) (hbOf hb) tt (sh1 rf) mbt mle mbo a b e k8 s8 mwh]) H → va_D A0 (fl [BMod G qM st th (cmOf R) ac up li pg le spc pw ld (wr ss) sn tk ss sh dn pp ps (faOf wo lo be) (hbOf hb) tt (sh1 rf) mbt mle mbo a b e k8 s8 mwh]) → va_S A0 s0.heap H locs → lv_has ls 6 [(0, .ref (qM 0)), (1, .int (iI a)), (2, .int (iI b)), (3, .int (iI e)), (4, .int (iI k)), (5, .int (iI t))] → W p0 l e0 rmX9_isWritten s0 m0 args bel met cd H locs 0 0 Q0 (F0 m0 26 ls []) := by
          intro fu
          induction fu with
          | zero =>
            intro t k8 s8 H locs ls hfu ht hkt hm8 hr8
            exact absurd hfu (by omega)
          | succ fu ih =>
            intro t k8 s8 H locs ls hfu ht hkt hm8 hr8 hP hD hS hl
            have ih26 := ih
            clear ih
            refine lv_iload hx hcd dX9_isWritten_26 (lv_at hl 5 rfl) ?_
            refine lv_aload_n hx hcd dX9_isWritten_28 rfl (lv_at hl 0 rfl) ?_
            refine g_get (C := RX9) (T := TX9) (N := 32) hx hcd hts (fun _ h => List.mem_cons_of_mem _ (List.mem_append_right _ h)) hown hK hP (i := 0) rfl BMod_c0 rfl 0 (by decide) (by decide +kernel) rfl dX9_isWritten_29 ?_
            refine wi_icmp_ge (tgt := 58) hx hcd (by omega) (by omega) dX9_isWritten_32 (by decide) (fun c32 => ?_) (fun c32 => ?_)
            ·
              try (have hm7 : ∀ c : Nat, c < 1200 → decide (0 ≤ k8 c) = msS cM R ac up li le spc st a b e (k + 1).toNat c := (by rw [msS_l (by omega) c41]; rw [hkt c41] at hm8; intro c hc; rw [hm8 c hc]; exact Bool.or_false _))
              try (have hm7 : ∀ c : Nat, c < 1200 → decide (0 ≤ k8 c) = msS cM R ac up li le spc st a b e (k + 1).toNat c := (by rw [msS_n (by omega) (fun q => by have := hkt q; omega), show st.toNat = t.toNat by omega]; exact hm8))
              refine lv_iinc (v := iI (k + 1)) (lv' := [(4, .int (iI (k + 1))), (0, .ref (qM 0)), (1, .int (iI a)), (2, .int (iI b)), (3, .int (iI e)), (5, .int (iI t))]) hx hcd dX9_isWritten_58 hl (k := 4) rfl (iI_add _ _) (by decide) rfl (fun ls hl => ?_)
              refine lv_goto (tgt := 14) hx hcd dX9_isWritten_61 (by decide) ?_
              exact ih14 (k + 1) k8 s8 _ _ _ (by omega) (by omega) (hm7) (hr8) hP hD hS (lv_sub hl [1, 2, 3, 4, 0] rfl)
            ·
              refine lv_iload hx hcd dX9_isWritten_35 (lv_at hl 4 rfl) ?_
              refine lv_aload_n hx hcd dX9_isWritten_37 rfl (lv_at hl 0 rfl) ?_
              refine g_get (C := RX9) (T := TX9) (N := 32) hx hcd hts (fun _ h => List.mem_cons_of_mem _ (List.mem_append_right _ h)) hown hK hP (i := 0) rfl BMod_c0 rfl 27 (by decide) (by decide +kernel) rfl dX9_isWritten_38 ?_
              refine wi_icmp_eq (tgt := 58) hx hcd (by omega) (by omega) dX9_isWritten_41 (by decide) (fun c41 => ?_) (fun c41 => ?_)
              ·
                try (have hm7 : ∀ c : Nat, c < 1200 → decide (0 ≤ k8 c) = msS cM R ac up li le spc st a b e (k + 1).toNat c := (by rw [msS_l (by omega) c41]; rw [hkt c41] at hm8; intro c hc; rw [hm8 c hc]; exact Bool.or_false _))
                try (have hm7 : ∀ c : Nat, c < 1200 → decide (0 ≤ k8 c) = msS cM R ac up li le spc st a b e (k + 1).toNat c := (by rw [msS_n (by omega) (fun q => by have := hkt q; omega), show st.toNat = t.toNat by omega]; exact hm8))
                refine lv_iinc (v := iI (k + 1)) (lv' := [(4, .int (iI (k + 1))), (0, .ref (qM 0)), (1, .int (iI a)), (2, .int (iI b)), (3, .int (iI e)), (5, .int (iI t))]) hx hcd dX9_isWritten_58 hl (k := 4) rfl (iI_add _ _) (by decide) rfl (fun ls hl => ?_)
                refine lv_goto (tgt := 14) hx hcd dX9_isWritten_61 (by decide) ?_
                exact ih14 (k + 1) k8 s8 _ _ _ (by omega) (by omega) (hm7) (hr8) hP hD hS (lv_sub hl [1, 2, 3, 4, 0] rfl)
              ·
                refine lv_aload_n hx hcd dX9_isWritten_44 rfl (lv_at hl 0 rfl) ?_
                refine lv_iload hx hcd dX9_isWritten_45 (lv_at hl 4 rfl) ?_
                refine lv_iload hx hcd dX9_isWritten_47 (lv_at hl 5 rfl) ?_
                refine cV_v (wc := [BMod G qM st th (cmOf R) ac up li pg le spc pw ld (wr ss) sn tk ss sh dn pp ps (faOf wo lo be) (hbOf hb) tt (sh1 rf) mbt mle mbo a b e k8 s8 mwh]) (wr := []) (w1 := fun (_ : Unit) => [BMod G qM st th (cmOf R) ac up li pg le spc pw ld (wr ss) sn tk ss sh dn pp ps (faOf wo lo be) (hbOf hb) tt (sh1 rf) mbt mle mbo a b e (mkP k8 (SS cM R ac up li le spc a e k t) k) (mkT k8 s8 (SS cM R ac up li le spc a e k t) t) mwh]) (Bs1 := fun (_ : Unit) => [BMod G qM st th (cmOf R) ac up li pg le spc pw ld (wr ss) sn tk ss sh dn pp ps (faOf wo lo be) (hbOf hb) tt (sh1 rf) mbt mle mbo a b e (mkP k8 (SS cM R ac up li le spc a e k t) k) (mkT k8 s8 (SS cM R ac up li le spc a e k t) t) mwh]) (As := [.int (iI k), .int (iI t)]) (rest := []) (kX9_write l D G qM st th R ac up li le pg spc pw ld sn tk ss sh dn pp ps wo lo be hb tt rf mbt mle mbo a b e k8 s8 mwh k t (by first | assumption | omega) (by first | assumption | omega) (by first | assumption | omega) (by first | assumption | omega) (by first | assumption | omega) (by first | assumption | omega) (by first | assumption | omega) (by first | assumption | omega) (by assumption) (by omega) (by omega)) rfl ⟨hx, hcd, hml, hown, hts⟩ (cwV 2 hts gX9_isWritten_X9_write rfl rfl rfl (by decide +kernel) ⟨by decide, by decide⟩) (q0 := 0) (ci := 9) rfl rfl rfl rfl hl.1 (Nat.le_of_ble_eq_true rfl) ⟨Nat.le_of_ble_eq_true rfl, Nat.le_of_ble_eq_true rfl⟩ dX9_isWritten_49 hK hP hD hS hA (perm_i2 [0] 1 rfl (by decide) rfl) (fun _ => perm_i2 [0] 1 rfl (by decide) rfl) (fun u H locs hw6 hP hD hS => ?_)
                refine lv_iinc (v := iI (t + 1)) (lv' := [(5, .int (iI (t + 1))), (0, .ref (qM 0)), (1, .int (iI a)), (2, .int (iI b)), (3, .int (iI e)), (4, .int (iI k))]) hx hcd dX9_isWritten_52 hl (k := 5) rfl (iI_add _ _) (by decide) rfl (fun ls hl => ?_)
                refine lv_goto (tgt := 26) hx hcd dX9_isWritten_55 (by decide) ?_
                exact ih26 (t + 1) (mkP k8 (SS cM R ac up li le spc a e k t) k) (mkT k8 s8 (SS cM R ac up li le spc a e k t) t) _ _ _ (by omega) (by omega) (fun q => absurd q c41) (fun c hc => by rw [mk_dec (by omega), hm8 c hc, pgS_s (by omega)]; unfold orM; rw [Bool.or_assoc]) (fun c => mkP_rng hr8 (by omega) c) hP hD hS (lv_sub hl [1, 2, 3, 4, 5, 0] rfl)
        exact L26 (((st - 0) + 1 : Int)).toNat 0 k9 s9 _ _ _ (by omega) (by omega) (fun _ => rfl) (fun c hc => (hm c hc).trans (Bool.or_false _).symm) (hr9) hP hD hS (lv_sub hl [1, 2, 3, 4, 5, 0] rfl)
  exact L14 (((pg - 0) + 1 : Int)).toNat 0 (filI (-1) 1200 mmk) (filI (-1) 1200 mms) _ _ _ (by omega) (by omega) (fun c hc => by rw [show filI (-1) 1200 mmk c = -1 from if_pos hc]; rfl) (fun c => filI_rng hmk c) hP hD hS (lv_sub hl [1, 2, 3, 4, 0] rfl)
