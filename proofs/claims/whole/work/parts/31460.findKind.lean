abbrev rmX9_findKind : Room := { frames := 4, cells := 0, slots := 0, locals := 103 }
set_option maxHeartbeats 4000000 in
set_option maxRecDepth 100000 in
theorem kX9_findKind (l : Launch) (D : va_G) (G : Nat → ClassId) (qM : Nat → Nat) (st : Int) (th : Nat → Int) (R : Nat → Nat → Int) (ac : Nat → Int) (up : Nat → Int) (li : Nat → Int) (le : Nat → Int) (pg : Int) (spc : Int) (pw : Int) (ld : Int) (sn : Int) (tk : Int) (ss : Int) (sh : Int) (dn : Int) (pp : Nat → Int) (ps : Nat → Int) (wo : Int) (lo : Int) (be : Int) (hb : Nat → Nat → Int) (tt : Nat → Int) (rf : Nat → Int) (mbt : Nat → Int) (mle : Nat → Int) (mbo : Nat → Int) (mwo : Int) (mlo : Int) (mbe : Int) (mmk : Nat → Int) (mms : Nat → Int) (mwh : Int) (hst : 2 ≤ st ∧ st ≤ 16) (hth : ∀ k, th k = 0 ∨ th k = 1) (hR : ∀ i j, 0 ≤ R i j ∧ R i j ≤ 9) (hac : ∀ k, 0 ≤ ac k ∧ ac k ≤ 11) (hup : ∀ k, 0 ≤ up k ∧ up k ≤ 11) (hli : ∀ k, 0 ≤ li k ∧ li k ≤ 11) (hle : ∀ k, 0 ≤ le k ∧ le k ≤ 9) (hpg : 0 ≤ pg ∧ pg ≤ 12) (hsp : 0 ≤ spc ∧ spc ≤ 9) (hpq : ∀ k, -1 ≤ pp k ∧ pp k ≤ 99 ∧ -1 ≤ ps k ∧ ps k ≤ 99 ∧ (0 ≤ pp k → 0 ≤ ps k)) (hmk : ∀ k, -1 ≤ mmk k ∧ mmk k ≤ 99) (halc : alc th ac up li le pg) : CtI l yX9_findKind wsX9_findKind rmX9_findKind D G [.ref (qM 0)] [BMod G qM st th (cmOf R) ac up li pg le spc pw ld (wr ss) sn tk ss sh dn pp ps (faOf wo lo be) (hbOf hb) tt (sh1 rf) mbt mle mbo mwo mlo mbe mmk mms mwh] (fun (r : Int32) (u : Int × Int × Int × (Nat → Int) × (Nat → Int)) => r = iI (exK (FFB 1200 cM R ac up li le spc st pg (fun c => decide (0 ≤ pp c))) pg) ∧ ∀ c, -1 ≤ u.2.2.2.1 c ∧ u.2.2.2.1 c ≤ 99) (fun u => [BMod G qM st th (cmOf R) ac up li pg le spc pw ld (wr ss) sn tk ss sh dn pp ps (faOf wo lo be) (hbOf hb) tt (sh1 rf) mbt mle mbo u.1 u.2.1 u.2.2.1 u.2.2.2.1 u.2.2.2.2 (exW (FFB 1200 cM R ac up li le spc st pg (fun c => decide (0 ≤ pp c))) pg)]) := by
  refine CtI.ofI (cc := cX9_findKind) (maxL := 2) (by decide) rfl (Nat.le_of_ble_eq_true rfl) ?_
  intro p0 e0 s0 m0 args bel met cd A0 ls Q0 hx hcd hml hown hts hK hP hD hA hl fin
  have hl : lv_has ls 2 [(0, .ref (qM 0))] := hl
  have hS : va_S A0 s0.heap s0.heap [] := va_S.rf
  have hH : va_P D vwCl (fl [BMod G qM st th (cmOf R) ac up li pg le spc pw ld (wr ss) sn tk ss sh dn pp ps (faOf wo lo be) (hbOf hb) tt (sh1 rf) mbt mle mbo mwo mlo mbe mmk mms mwh]) s0.heap := hP
  obtain ⟨H, eH⟩ : ∃ H, H = s0.heap := ⟨_, rfl⟩
  obtain ⟨locs, eL⟩ : ∃ locs : List Loc, locs = [] := ⟨_, rfl⟩
  have hS : va_S A0 s0.heap H locs := by rw [eH, eL]; exact hS
  have hP : va_P D vwCl (fl [BMod G qM st th (cmOf R) ac up li pg le spc pw ld (wr ss) sn tk ss sh dn pp ps (faOf wo lo be) (hbOf hb) tt (sh1 rf) mbt mle mbo mwo mlo mbe mmk mms mwh]) H := by rw [eH]; exact hP
  suffices goal : W p0 l e0 rmX9_findKind s0 m0 args bel met cd H locs 0 0 Q0 (F0 m0 0 ls []) by rw [eH, eL] at goal; exact goal
  clear eH eL hH
  refine lv_aload_n hx hcd dX9_findKind_0 rfl (lv_at hl 0 rfl) ?_
  refine wi_bipush hx hcd dX9_findKind_1 (by decide) ?_
  refine g_put (C := RX9) (T := TX9) (N := 32) hx hcd hts (fun _ h => List.mem_cons_of_mem _ (List.mem_append_right _ h)) tyX9 tyX9_ok nmX9 hown hK hP hD hS (i := 0) rfl BMod_c0 rfl 31 (by decide) (by decide +kernel) rfl (by decide +kernel) (Nat.le_of_ble_eq_true rfl) (B1 := BMod G qM st th (cmOf R) ac up li pg le spc pw ld (wr ss) sn tk ss sh dn pp ps (faOf wo lo be) (hbOf hb) tt (sh1 rf) mbt mle mbo mwo mlo mbe mmk mms (-9)) rfl (Bs1 := [BMod G qM st th (cmOf R) ac up li pg le spc pw ld (wr ss) sn tk ss sh dn pp ps (faOf wo lo be) (hbOf hb) tt (sh1 rf) mbt mle mbo mwo mlo mbe mmk mms (-9)]) rfl dX9_findKind_3 (fun H locs hP hD hS => ?_)
  refine lv_aload_n hx hcd dX9_findKind_6 rfl (lv_at hl 0 rfl) ?_
  refine wi_iconst hx hcd dX9_findKind_7 ?_
  refine wi_iconst hx hcd dX9_findKind_8 ?_
  refine wi_iconst hx hcd dX9_findKind_9 ?_
  refine cV_i (wc := [BMod G qM st th (cmOf R) ac up li pg le spc pw ld (wr ss) sn tk ss sh dn pp ps (faOf wo lo be) (hbOf hb) tt (sh1 rf) mbt mle mbo mwo mlo mbe mmk mms (-9)]) (wr := []) (w1 := fun (u : (Nat → Int) × (Nat → Int)) => [BMod G qM st th (cmOf R) ac up li pg le spc pw ld (wr ss) sn tk ss sh dn pp ps (faOf wo lo be) (hbOf hb) tt (sh1 rf) mbt mle mbo (-1) (-1) (-1) u.1 u.2 (-9)]) (Bs1 := fun (u : (Nat → Int) × (Nat → Int)) => [BMod G qM st th (cmOf R) ac up li pg le spc pw ld (wr ss) sn tk ss sh dn pp ps (faOf wo lo be) (hbOf hb) tt (sh1 rf) mbt mle mbo (-1) (-1) (-1) u.1 u.2 (-9)]) (As := [.int (iI (-1)), .int (iI (-1)), .int (iI (-1))]) (rest := []) (kX9_isWritten l D G qM st th R ac up li le pg spc pw ld sn tk ss sh dn pp ps wo lo be hb tt rf mbt mle mbo mwo mlo mbe mmk mms (-9) (-1) (-1) (-1) (by first | assumption | omega) (by first | assumption | omega) (by first | assumption | omega) (by first | assumption | omega) (by first | assumption | omega) (by first | assumption | omega) (by first | assumption | omega) (by first | assumption | omega) (by first | assumption | omega) (by first | assumption | omega) (by first | assumption | omega) (by first | assumption | omega) (by first | assumption | omega)) rfl ⟨hx, hcd, hml, hown, hts⟩ (cwV 3 hts gX9_findKind_X9_isWritten rfl rfl rfl (by decide +kernel) ⟨by decide, by decide⟩) (q0 := 0) (ci := 9) rfl rfl rfl rfl hl.1 (Nat.le_of_ble_eq_true rfl) ⟨Nat.le_of_ble_eq_true rfl, Nat.le_of_ble_eq_true rfl⟩ dX9_findKind_10 hK hP hD hS hA (perm_i2 [0] 1 rfl (by decide) rfl) (fun _ => perm_i2 [0] 1 rfl (by decide) rfl) (fun r u H locs hw3 hP hD hS => ?_)
  obtain ⟨k21, s22⟩ := u
  dsimp only at hw3 hP hD
  obtain ⟨rfl, hq4⟩ := hw3
  have hf8 := ff_01 (fitB 1200 cM R ac up li le spc st pg (fun c => decide (0 ≤ pp c)) (-1) (-1) (-1))
  refine wi_if_eq (tgt := 18) hx hcd (by omega) dX9_findKind_13 (by decide) (fun c13 => ?_) (fun c13 => ?_)
  ·
    have h00 : FFB 1200 cM R ac up li le spc st pg (fun c => decide (0 ≤ pp c)) 0 0 = false := ff_n c13
    refine wi_iconst hx hcd dX9_findKind_18 ?_
    refine lv_istore_n (lv' := [(1, .int (iI 0)), (0, .ref (qM 0))]) hx hcd dX9_findKind_19 rfl hl (by decide) rfl (fun ls hl => ?_)
    have L20 : ∀ (fu : Nat) (i : Int) (w9 : Int) (l9 : Int) (b9 : Int) (k9 : Nat → Int) (s9 : Nat → Int) (H : Heap) (locs : List Loc) (ls : Array Slot), (12 - i < (fu : Int)) → (0 ≤ i ∧ i ≤ 12) → (∀ u : Nat, u < i.toNat → FFB 1200 cM R ac up li le spc st pg (fun c => decide (0 ≤ pp c)) 1 u = false) → (∀ c, -1 ≤ k9 c ∧ k9 c ≤ 99) → va_P D vwCl (fl [BMod G qM st th (cmOf R) ac up li pg le spc pw ld (wr ss) sn tk ss sh dn pp ps (faOf wo lo be) (hbOf hb) tt (sh1 rf) mbt mle mbo w9 l9 b9 k9 s9 (-9)]) H → va_D A0 (fl [BMod G qM st th (cmOf R) ac up li pg le spc pw ld (wr ss) sn tk ss sh dn pp ps (faOf wo lo be) (hbOf hb) tt (sh1 rf) mbt mle mbo w9 l9 b9 k9 s9 (-9)]) → va_S A0 s0.heap H locs → lv_has ls 2 [(0, .ref (qM 0)), (1, .int (iI i))] → W p0 l e0 rmX9_findKind s0 m0 args bel met cd H locs 0 0 Q0 (F0 m0 20 ls []) := by
      intro fu
      induction fu with
      | zero =>
        intro i w9 l9 b9 k9 s9 H locs ls hfu hi hj9 hr9
        exact absurd hfu (by omega)
      | succ fu ih =>
        intro i w9 l9 b9 k9 s9 H locs ls hfu hi hj9 hr9 hP hD hS hl
        have ih20 := ih
        clear ih
        refine lv_iload_n hx hcd dX9_findKind_20 rfl (lv_at hl 1 rfl) ?_
        refine wi_bipush hx hcd dX9_findKind_21 (by decide) ?_
        refine wi_icmp_ge (tgt := 58) hx hcd (by omega) (by omega) dX9_findKind_23 (by decide) (fun c23 => ?_) (fun c23 => ?_)
        ·
          have hp1 : ∀ u : Nat, (u : Int) < 12 → FFB 1200 cM R ac up li le spc st pg (fun c => decide (0 ≤ pp c)) 1 u = false := fun u h => hj9 u (by omega)
          refine wi_iconst hx hcd dX9_findKind_58 ?_
          refine lv_istore_n (lv' := [(1, .int (iI 0)), (0, .ref (qM 0))]) hx hcd dX9_findKind_59 rfl hl (by decide) rfl (fun ls hl => ?_)
          have L60 : ∀ (fu : Nat) (k : Int) (w8 : Int) (l8 : Int) (b8 : Int) (k8 : Nat → Int) (s8 : Nat → Int) (H : Heap) (locs : List Loc) (ls : Array Slot), (pg - k < (fu : Int)) → (0 ≤ k ∧ k ≤ pg) → (∀ u : Nat, u < k.toNat → FFB 1200 cM R ac up li le spc st pg (fun c => decide (0 ≤ pp c)) 2 u = false) → (∀ c, -1 ≤ k8 c ∧ k8 c ≤ 99) → va_P D vwCl (fl [BMod G qM st th (cmOf R) ac up li pg le spc pw ld (wr ss) sn tk ss sh dn pp ps (faOf wo lo be) (hbOf hb) tt (sh1 rf) mbt mle mbo w8 l8 b8 k8 s8 (-9)]) H → va_D A0 (fl [BMod G qM st th (cmOf R) ac up li pg le spc pw ld (wr ss) sn tk ss sh dn pp ps (faOf wo lo be) (hbOf hb) tt (sh1 rf) mbt mle mbo w8 l8 b8 k8 s8 (-9)]) → va_S A0 s0.heap H locs → lv_has ls 2 [(0, .ref (qM 0)), (1, .int (iI k))] → W p0 l e0 rmX9_findKind s0 m0 args bel met cd H locs 0 0 Q0 (F0 m0 60 ls []) := by
            intro fu
            induction fu with
            | zero =>
              intro k w8 l8 b8 k8 s8 H locs ls hfu hk hj8 hr8
              exact absurd hfu (by omega)
            | succ fu ih =>
              intro k w8 l8 b8 k8 s8 H locs ls hfu hk hj8 hr8 hP hD hS hl
              have ih60 := ih
              clear ih
              refine lv_iload_n hx hcd dX9_findKind_60 rfl (lv_at hl 1 rfl) ?_
              refine lv_aload_n hx hcd dX9_findKind_61 rfl (lv_at hl 0 rfl) ?_
              refine g_get (C := RX9) (T := TX9) (N := 32) hx hcd hts (fun _ h => List.mem_cons_of_mem _ (List.mem_append_right _ h)) hown hK hP (i := 0) rfl BMod_c0 rfl 6 (by decide) (by decide +kernel) rfl dX9_findKind_62 ?_
              refine wi_icmp_ge (tgt := 91) hx hcd (by omega) (by omega) dX9_findKind_65 (by decide) (fun c65 => ?_) (fun c65 => ?_)
              ·
                have hp2 : ∀ u : Nat, (u : Int) < pg → FFB 1200 cM R ac up li le spc st pg (fun c => decide (0 ≤ pp c)) 2 u = false := fun u h => hj8 u (by omega)
                refine wi_iconst hx hcd dX9_findKind_91 ?_
                refine lv_istore_n (lv' := [(1, .int (iI 0)), (0, .ref (qM 0))]) hx hcd dX9_findKind_92 rfl hl (by decide) rfl (fun ls hl => ?_)
                have L93 : ∀ (fu : Nat) (j : Int) (w7 : Int) (l7 : Int) (b7 : Int) (k7 : Nat → Int) (s7 : Nat → Int) (H : Heap) (locs : List Loc) (ls : Array Slot), (2 - j < (fu : Int)) → (0 ≤ j ∧ j ≤ 2) → (∀ u : Nat, u < j.toNat → FFB 1200 cM R ac up li le spc st pg (fun c => decide (0 ≤ pp c)) 3 u = false) → (∀ c, -1 ≤ k7 c ∧ k7 c ≤ 99) → va_P D vwCl (fl [BMod G qM st th (cmOf R) ac up li pg le spc pw ld (wr ss) sn tk ss sh dn pp ps (faOf wo lo be) (hbOf hb) tt (sh1 rf) mbt mle mbo w7 l7 b7 k7 s7 (-9)]) H → va_D A0 (fl [BMod G qM st th (cmOf R) ac up li pg le spc pw ld (wr ss) sn tk ss sh dn pp ps (faOf wo lo be) (hbOf hb) tt (sh1 rf) mbt mle mbo w7 l7 b7 k7 s7 (-9)]) → va_S A0 s0.heap H locs → lv_has ls 2 [(0, .ref (qM 0)), (1, .int (iI j))] → W p0 l e0 rmX9_findKind s0 m0 args bel met cd H locs 0 0 Q0 (F0 m0 93 ls []) := by
                  intro fu
                  induction fu with
                  | zero =>
                    intro j w7 l7 b7 k7 s7 H locs ls hfu hj hj7 hr7
                    exact absurd hfu (by omega)
                  | succ fu ih =>
                    intro j w7 l7 b7 k7 s7 H locs ls hfu hj hj7 hr7 hP hD hS hl
                    have ih93 := ih
                    clear ih
                    refine lv_iload_n hx hcd dX9_findKind_93 rfl (lv_at hl 1 rfl) ?_
                    refine wi_iconst hx hcd dX9_findKind_94 ?_
                    refine wi_icmp_ge (tgt := 121) hx hcd (by omega) (by omega) dX9_findKind_95 (by decide) (fun c95 => ?_) (fun c95 => ?_)
                    ·
                      have hp3 : ∀ u : Nat, (u : Int) < 2 → FFB 1200 cM R ac up li le spc st pg (fun c => decide (0 ≤ pp c)) 3 u = false := fun u h => hj7 u (by omega)
                      have hex := ex_no (F := FFB 1200 cM R ac up li le spc st pg (fun c => decide (0 ≤ pp c))) (pg := pg) h00 (fun j a b u hu => by
                          rcases (show j = 1 ∨ j = 2 ∨ j = 3 by omega) with rfl | rfl | rfl
                          · exact hp1 u hu
                          · exact hp2 u hu
                          · exact hp3 u hu)
                      refine wi_bipush hx hcd dX9_findKind_121 (by decide) ?_
                      rw [show BMod G qM st th (cmOf R) ac up li pg le spc pw ld (wr ss) sn tk ss sh dn pp ps (faOf wo lo be) (hbOf hb) tt (sh1 rf) mbt mle mbo w7 l7 b7 k7 s7 (-9) = BMod G qM st th (cmOf R) ac up li pg le spc pw ld (wr ss) sn tk ss sh dn pp ps (faOf wo lo be) (hbOf hb) tt (sh1 rf) mbt mle mbo w7 l7 b7 k7 s7 (exW (FFB 1200 cM R ac up li le spc st pg (fun c => decide (0 ≤ pp c))) pg) from congrArg (fun z_ : Int => BMod G qM st th (cmOf R) ac up li pg le spc pw ld (wr ss) sn tk ss sh dn pp ps (faOf wo lo be) (hbOf hb) tt (sh1 rf) mbt mle mbo w7 l7 b7 k7 s7 z_) (show ((-9) : Int) = (exW (FFB 1200 cM R ac up li le spc st pg (fun c => decide (0 ≤ pp c))) pg) from hex.2.symm)] at hP hD
                      exact fin _ ⟨w7, l7, b7, k7, s7⟩ H locs ls 123 dX9_findKind_123 hP hD hS (trivial) (⟨congrArg iI (hex.1.symm), by assumption⟩)
                    ·
                      refine lv_aload_n hx hcd dX9_findKind_98 rfl (lv_at hl 0 rfl) ?_
                      refine wi_iconst hx hcd dX9_findKind_99 ?_
                      refine wi_iconst hx hcd dX9_findKind_100 ?_
                      refine lv_iload_n hx hcd dX9_findKind_101 rfl (lv_at hl 1 rfl) ?_
                      refine cV_i (wc := [BMod G qM st th (cmOf R) ac up li pg le spc pw ld (wr ss) sn tk ss sh dn pp ps (faOf wo lo be) (hbOf hb) tt (sh1 rf) mbt mle mbo w7 l7 b7 k7 s7 (-9)]) (wr := []) (w1 := fun (u : (Nat → Int) × (Nat → Int)) => [BMod G qM st th (cmOf R) ac up li pg le spc pw ld (wr ss) sn tk ss sh dn pp ps (faOf wo lo be) (hbOf hb) tt (sh1 rf) mbt mle mbo (-1) (-1) j u.1 u.2 (-9)]) (Bs1 := fun (u : (Nat → Int) × (Nat → Int)) => [BMod G qM st th (cmOf R) ac up li pg le spc pw ld (wr ss) sn tk ss sh dn pp ps (faOf wo lo be) (hbOf hb) tt (sh1 rf) mbt mle mbo (-1) (-1) j u.1 u.2 (-9)]) (As := [.int (iI (-1)), .int (iI (-1)), .int (iI j)]) (rest := []) (kX9_isWritten l D G qM st th R ac up li le pg spc pw ld sn tk ss sh dn pp ps wo lo be hb tt rf mbt mle mbo w7 l7 b7 k7 s7 (-9) (-1) (-1) j (by first | assumption | omega) (by first | assumption | omega) (by first | assumption | omega) (by first | assumption | omega) (by first | assumption | omega) (by first | assumption | omega) (by first | assumption | omega) (by first | assumption | omega) (by first | assumption | omega) (by first | assumption | omega) (by first | assumption | omega) (by first | assumption | omega) (by first | assumption | omega)) rfl ⟨hx, hcd, hml, hown, hts⟩ (cwV 3 hts gX9_findKind_X9_isWritten rfl rfl rfl (by decide +kernel) ⟨by decide, by decide⟩) (q0 := 0) (ci := 9) rfl rfl rfl rfl hl.1 (Nat.le_of_ble_eq_true rfl) ⟨Nat.le_of_ble_eq_true rfl, Nat.le_of_ble_eq_true rfl⟩ dX9_findKind_102 hK hP hD hS hA (perm_i2 [0] 1 rfl (by decide) rfl) (fun _ => perm_i2 [0] 1 rfl (by decide) rfl) (fun r u H locs hw7 hP hD hS => ?_)
                      obtain ⟨k25, s26⟩ := u
                      dsimp only at hw7 hP hD
                      obtain ⟨rfl, hq8⟩ := hw7
                      have hf8 := ff_01 (fitB 1200 cM R ac up li le spc st pg (fun c => decide (0 ≤ pp c)) (-1) (-1) j)
                      refine wi_if_eq (tgt := 115) hx hcd (by omega) dX9_findKind_105 (by decide) (fun c105 => ?_) (fun c105 => ?_)
                      ·
                        have hvv : FFB 1200 cM R ac up li le spc st pg (fun c => decide (0 ≤ pp c)) 3 j.toNat = false := by first | exact (ff_3 (by omega)).trans (ff_n c105)
                        refine lv_iinc (v := iI (j + 1)) (lv' := [(1, .int (iI (j + 1))), (0, .ref (qM 0))]) hx hcd dX9_findKind_115 hl (k := 1) rfl (iI_add _ _) (by decide) rfl (fun ls hl => ?_)
                        refine lv_goto (tgt := 93) hx hcd dX9_findKind_118 (by decide) ?_
                        exact ih93 (j + 1) (-1) (-1) j k25 s26 _ _ _ (by omega) (by omega) (ff_s (by omega) hj7 hvv) (by assumption) hP hD hS (lv_sub hl [1, 0] rfl)
                      ·
                        have hvv : FFB 1200 cM R ac up li le spc st pg (fun c => decide (0 ≤ pp c)) 3 j.toNat = true := (ff_3 (by omega)).trans (ff_y c105)
                        have hex := ex_at (F := FFB 1200 cM R ac up li le spc st pg (fun c => decide (0 ≤ pp c))) (pg := pg) (k := 3) (v := j) h00 (by omega) (fun j a b u hu => by
                            rcases (show j = 1 ∨ j = 2 by omega) with rfl | rfl
                            · exact hp1 u hu
                            · exact hp2 u hu) ⟨by omega, by show j < 2; omega⟩ hj7 hvv
                        refine lv_aload_n hx hcd dX9_findKind_108 rfl (lv_at hl 0 rfl) ?_
                        refine lv_iload_n hx hcd dX9_findKind_109 rfl (lv_at hl 1 rfl) ?_
                        refine g_put (C := RX9) (T := TX9) (N := 32) hx hcd hts (fun _ h => List.mem_cons_of_mem _ (List.mem_append_right _ h)) tyX9 tyX9_ok nmX9 hown hK hP hD hS (i := 0) rfl BMod_c0 rfl 31 (by decide) (by decide +kernel) rfl (by decide +kernel) (Nat.le_of_ble_eq_true rfl) (B1 := BMod G qM st th (cmOf R) ac up li pg le spc pw ld (wr ss) sn tk ss sh dn pp ps (faOf wo lo be) (hbOf hb) tt (sh1 rf) mbt mle mbo (-1) (-1) j k25 s26 j) rfl (Bs1 := [BMod G qM st th (cmOf R) ac up li pg le spc pw ld (wr ss) sn tk ss sh dn pp ps (faOf wo lo be) (hbOf hb) tt (sh1 rf) mbt mle mbo (-1) (-1) j k25 s26 j]) rfl dX9_findKind_110 (fun H locs hP hD hS => ?_)
                        refine wi_iconst hx hcd dX9_findKind_113 ?_
                        rw [show BMod G qM st th (cmOf R) ac up li pg le spc pw ld (wr ss) sn tk ss sh dn pp ps (faOf wo lo be) (hbOf hb) tt (sh1 rf) mbt mle mbo (-1) (-1) j k25 s26 j = BMod G qM st th (cmOf R) ac up li pg le spc pw ld (wr ss) sn tk ss sh dn pp ps (faOf wo lo be) (hbOf hb) tt (sh1 rf) mbt mle mbo (-1) (-1) j k25 s26 (exW (FFB 1200 cM R ac up li le spc st pg (fun c => decide (0 ≤ pp c))) pg) from congrArg (fun z_ : Int => BMod G qM st th (cmOf R) ac up li pg le spc pw ld (wr ss) sn tk ss sh dn pp ps (faOf wo lo be) (hbOf hb) tt (sh1 rf) mbt mle mbo (-1) (-1) j k25 s26 z_) (show (j : Int) = (exW (FFB 1200 cM R ac up li le spc st pg (fun c => decide (0 ≤ pp c))) pg) from hex.2.symm)] at hP hD
                        exact fin _ ⟨(-1), (-1), j, k25, s26⟩ H locs ls 114 dX9_findKind_114 hP hD hS (trivial) (⟨congrArg iI (hex.1.symm), by assumption⟩)
                exact L93 (((2 - 0) + 1 : Int)).toNat 0 w8 l8 b8 k8 s8 _ _ _ (by omega) (by omega) (fun u h => absurd h (by omega)) (by assumption) hP hD hS (lv_sub hl [1, 0] rfl)
              ·
                refine lv_aload_n hx hcd dX9_findKind_68 rfl (lv_at hl 0 rfl) ?_
                refine wi_iconst hx hcd dX9_findKind_69 ?_
                refine lv_iload_n hx hcd dX9_findKind_70 rfl (lv_at hl 1 rfl) ?_
                refine wi_iconst hx hcd dX9_findKind_71 ?_
                refine cV_i (wc := [BMod G qM st th (cmOf R) ac up li pg le spc pw ld (wr ss) sn tk ss sh dn pp ps (faOf wo lo be) (hbOf hb) tt (sh1 rf) mbt mle mbo w8 l8 b8 k8 s8 (-9)]) (wr := []) (w1 := fun (u : (Nat → Int) × (Nat → Int)) => [BMod G qM st th (cmOf R) ac up li pg le spc pw ld (wr ss) sn tk ss sh dn pp ps (faOf wo lo be) (hbOf hb) tt (sh1 rf) mbt mle mbo (-1) k (-1) u.1 u.2 (-9)]) (Bs1 := fun (u : (Nat → Int) × (Nat → Int)) => [BMod G qM st th (cmOf R) ac up li pg le spc pw ld (wr ss) sn tk ss sh dn pp ps (faOf wo lo be) (hbOf hb) tt (sh1 rf) mbt mle mbo (-1) k (-1) u.1 u.2 (-9)]) (As := [.int (iI (-1)), .int (iI k), .int (iI (-1))]) (rest := []) (kX9_isWritten l D G qM st th R ac up li le pg spc pw ld sn tk ss sh dn pp ps wo lo be hb tt rf mbt mle mbo w8 l8 b8 k8 s8 (-9) (-1) k (-1) (by first | assumption | omega) (by first | assumption | omega) (by first | assumption | omega) (by first | assumption | omega) (by first | assumption | omega) (by first | assumption | omega) (by first | assumption | omega) (by first | assumption | omega) (by first | assumption | omega) (by first | assumption | omega) (by first | assumption | omega) (by first | assumption | omega) (by first | assumption | omega)) rfl ⟨hx, hcd, hml, hown, hts⟩ (cwV 3 hts gX9_findKind_X9_isWritten rfl rfl rfl (by decide +kernel) ⟨by decide, by decide⟩) (q0 := 0) (ci := 9) rfl rfl rfl rfl hl.1 (Nat.le_of_ble_eq_true rfl) ⟨Nat.le_of_ble_eq_true rfl, Nat.le_of_ble_eq_true rfl⟩ dX9_findKind_72 hK hP hD hS hA (perm_i2 [0] 1 rfl (by decide) rfl) (fun _ => perm_i2 [0] 1 rfl (by decide) rfl) (fun r u H locs hw11 hP hD hS => ?_)
                obtain ⟨k29, s210⟩ := u
                dsimp only at hw11 hP hD
                obtain ⟨rfl, hq12⟩ := hw11
                have hf8 := ff_01 (fitB 1200 cM R ac up li le spc st pg (fun c => decide (0 ≤ pp c)) (-1) k (-1))
                refine wi_if_eq (tgt := 85) hx hcd (by omega) dX9_findKind_75 (by decide) (fun c75 => ?_) (fun c75 => ?_)
                ·
                  have hvv : FFB 1200 cM R ac up li le spc st pg (fun c => decide (0 ≤ pp c)) 2 k.toNat = false := by first | exact (ff_2 (by omega)).trans (ff_n c75)
                  refine lv_iinc (v := iI (k + 1)) (lv' := [(1, .int (iI (k + 1))), (0, .ref (qM 0))]) hx hcd dX9_findKind_85 hl (k := 1) rfl (iI_add _ _) (by decide) rfl (fun ls hl => ?_)
                  refine lv_goto (tgt := 60) hx hcd dX9_findKind_88 (by decide) ?_
                  exact ih60 (k + 1) (-1) k (-1) k29 s210 _ _ _ (by omega) (by omega) (ff_s (by omega) hj8 hvv) (by assumption) hP hD hS (lv_sub hl [1, 0] rfl)
                ·
                  have hvv : FFB 1200 cM R ac up li le spc st pg (fun c => decide (0 ≤ pp c)) 2 k.toNat = true := (ff_2 (by omega)).trans (ff_y c75)
                  have hex := ex_at (F := FFB 1200 cM R ac up li le spc st pg (fun c => decide (0 ≤ pp c))) (pg := pg) (k := 2) (v := k) h00 (by omega) (fun j a b u hu => by
                      obtain rfl : j = 1 := by omega
                      exact hp1 u hu) ⟨by omega, by show k < pg; omega⟩ hj8 hvv
                  refine lv_aload_n hx hcd dX9_findKind_78 rfl (lv_at hl 0 rfl) ?_
                  refine lv_iload_n hx hcd dX9_findKind_79 rfl (lv_at hl 1 rfl) ?_
                  refine g_put (C := RX9) (T := TX9) (N := 32) hx hcd hts (fun _ h => List.mem_cons_of_mem _ (List.mem_append_right _ h)) tyX9 tyX9_ok nmX9 hown hK hP hD hS (i := 0) rfl BMod_c0 rfl 31 (by decide) (by decide +kernel) rfl (by decide +kernel) (Nat.le_of_ble_eq_true rfl) (B1 := BMod G qM st th (cmOf R) ac up li pg le spc pw ld (wr ss) sn tk ss sh dn pp ps (faOf wo lo be) (hbOf hb) tt (sh1 rf) mbt mle mbo (-1) k (-1) k29 s210 k) rfl (Bs1 := [BMod G qM st th (cmOf R) ac up li pg le spc pw ld (wr ss) sn tk ss sh dn pp ps (faOf wo lo be) (hbOf hb) tt (sh1 rf) mbt mle mbo (-1) k (-1) k29 s210 k]) rfl dX9_findKind_80 (fun H locs hP hD hS => ?_)
                  refine wi_iconst hx hcd dX9_findKind_83 ?_
                  rw [show BMod G qM st th (cmOf R) ac up li pg le spc pw ld (wr ss) sn tk ss sh dn pp ps (faOf wo lo be) (hbOf hb) tt (sh1 rf) mbt mle mbo (-1) k (-1) k29 s210 k = BMod G qM st th (cmOf R) ac up li pg le spc pw ld (wr ss) sn tk ss sh dn pp ps (faOf wo lo be) (hbOf hb) tt (sh1 rf) mbt mle mbo (-1) k (-1) k29 s210 (exW (FFB 1200 cM R ac up li le spc st pg (fun c => decide (0 ≤ pp c))) pg) from congrArg (fun z_ : Int => BMod G qM st th (cmOf R) ac up li pg le spc pw ld (wr ss) sn tk ss sh dn pp ps (faOf wo lo be) (hbOf hb) tt (sh1 rf) mbt mle mbo (-1) k (-1) k29 s210 z_) (show (k : Int) = (exW (FFB 1200 cM R ac up li le spc st pg (fun c => decide (0 ≤ pp c))) pg) from hex.2.symm)] at hP hD
                  exact fin _ ⟨(-1), k, (-1), k29, s210⟩ H locs ls 84 dX9_findKind_84 hP hD hS (trivial) (⟨congrArg iI (hex.1.symm), by assumption⟩)
          exact L60 (((pg - 0) + 1 : Int)).toNat 0 w9 l9 b9 k9 s9 _ _ _ (by omega) (by omega) (fun u h => absurd h (by omega)) (by assumption) hP hD hS (lv_sub hl [1, 0] rfl)
        ·
          refine lv_aload_n hx hcd dX9_findKind_26 rfl (lv_at hl 0 rfl) ?_
          refine g_get (C := RX9) (T := TX9) (N := 32) hx hcd hts (fun _ h => List.mem_cons_of_mem _ (List.mem_append_right _ h)) hown hK hP (i := 0) rfl BMod_c0 rfl 1 (by decide) (by decide +kernel) rfl dX9_findKind_27 ?_
          refine lv_iload_n hx hcd dX9_findKind_30 rfl (lv_at hl 1 rfl) ?_
          refine g_zald hx hcd hK hP (i := 0) rfl BMod_c1 (by omega) (by decide) dX9_findKind_31 ?_
          have f13 := hth i.toNat
          refine wi_if_eq (tgt := 52) hx hcd (by omega) dX9_findKind_32 (by decide) (fun c32 => ?_) (fun c32 => ?_)
          ·
            have hvv : FFB 1200 cM R ac up li le spc st pg (fun c => decide (0 ≤ pp c)) 1 i.toNat = false := by first | exact FF_gone hac hup hli halc (by omega) h00 | exact (ff_1 (by omega)).trans (ff_n c42)
            refine lv_iinc (v := iI (i + 1)) (lv' := [(1, .int (iI (i + 1))), (0, .ref (qM 0))]) hx hcd dX9_findKind_52 hl (k := 1) rfl (iI_add _ _) (by decide) rfl (fun ls hl => ?_)
            refine lv_goto (tgt := 20) hx hcd dX9_findKind_55 (by decide) ?_
            exact ih20 (i + 1) w9 l9 b9 k9 s9 _ _ _ (by omega) (by omega) (ff_s (by omega) hj9 hvv) (by assumption) hP hD hS (lv_sub hl [1, 0] rfl)
          ·
            refine lv_aload_n hx hcd dX9_findKind_35 rfl (lv_at hl 0 rfl) ?_
            refine lv_iload_n hx hcd dX9_findKind_36 rfl (lv_at hl 1 rfl) ?_
            refine wi_iconst hx hcd dX9_findKind_37 ?_
            refine wi_iconst hx hcd dX9_findKind_38 ?_
            refine cV_i (wc := [BMod G qM st th (cmOf R) ac up li pg le spc pw ld (wr ss) sn tk ss sh dn pp ps (faOf wo lo be) (hbOf hb) tt (sh1 rf) mbt mle mbo w9 l9 b9 k9 s9 (-9)]) (wr := []) (w1 := fun (u : (Nat → Int) × (Nat → Int)) => [BMod G qM st th (cmOf R) ac up li pg le spc pw ld (wr ss) sn tk ss sh dn pp ps (faOf wo lo be) (hbOf hb) tt (sh1 rf) mbt mle mbo i (-1) (-1) u.1 u.2 (-9)]) (Bs1 := fun (u : (Nat → Int) × (Nat → Int)) => [BMod G qM st th (cmOf R) ac up li pg le spc pw ld (wr ss) sn tk ss sh dn pp ps (faOf wo lo be) (hbOf hb) tt (sh1 rf) mbt mle mbo i (-1) (-1) u.1 u.2 (-9)]) (As := [.int (iI i), .int (iI (-1)), .int (iI (-1))]) (rest := []) (kX9_isWritten l D G qM st th R ac up li le pg spc pw ld sn tk ss sh dn pp ps wo lo be hb tt rf mbt mle mbo w9 l9 b9 k9 s9 (-9) i (-1) (-1) (by first | assumption | omega) (by first | assumption | omega) (by first | assumption | omega) (by first | assumption | omega) (by first | assumption | omega) (by first | assumption | omega) (by first | assumption | omega) (by first | assumption | omega) (by first | assumption | omega) (by first | assumption | omega) (by first | assumption | omega) (by first | assumption | omega) (by first | assumption | omega)) rfl ⟨hx, hcd, hml, hown, hts⟩ (cwV 3 hts gX9_findKind_X9_isWritten rfl rfl rfl (by decide +kernel) ⟨by decide, by decide⟩) (q0 := 0) (ci := 9) rfl rfl rfl rfl hl.1 (Nat.le_of_ble_eq_true rfl) ⟨Nat.le_of_ble_eq_true rfl, Nat.le_of_ble_eq_true rfl⟩ dX9_findKind_39 hK hP hD hS hA (perm_i2 [0] 1 rfl (by decide) rfl) (fun _ => perm_i2 [0] 1 rfl (by decide) rfl) (fun r u H locs hw16 hP hD hS => ?_)
            obtain ⟨k214, s215⟩ := u
            dsimp only at hw16 hP hD
            obtain ⟨rfl, hq17⟩ := hw16
            have hf8 := ff_01 (fitB 1200 cM R ac up li le spc st pg (fun c => decide (0 ≤ pp c)) i (-1) (-1))
            refine wi_if_eq (tgt := 52) hx hcd (by omega) dX9_findKind_42 (by decide) (fun c42 => ?_) (fun c42 => ?_)
            ·
              have hvv : FFB 1200 cM R ac up li le spc st pg (fun c => decide (0 ≤ pp c)) 1 i.toNat = false := by first | exact FF_gone hac hup hli halc (by omega) h00 | exact (ff_1 (by omega)).trans (ff_n c42)
              refine lv_iinc (v := iI (i + 1)) (lv' := [(1, .int (iI (i + 1))), (0, .ref (qM 0))]) hx hcd dX9_findKind_52 hl (k := 1) rfl (iI_add _ _) (by decide) rfl (fun ls hl => ?_)
              refine lv_goto (tgt := 20) hx hcd dX9_findKind_55 (by decide) ?_
              exact ih20 (i + 1) i (-1) (-1) k214 s215 _ _ _ (by omega) (by omega) (ff_s (by omega) hj9 hvv) (by assumption) hP hD hS (lv_sub hl [1, 0] rfl)
            ·
              have hvv : FFB 1200 cM R ac up li le spc st pg (fun c => decide (0 ≤ pp c)) 1 i.toNat = true := (ff_1 (by omega)).trans (ff_y c42)
              have hex := ex_at (F := FFB 1200 cM R ac up li le spc st pg (fun c => decide (0 ≤ pp c))) (pg := pg) (k := 1) (v := i) h00 (by omega) (fun j a b => absurd b (by omega)) ⟨by omega, by show i < 12; omega⟩ hj9 hvv
              refine lv_aload_n hx hcd dX9_findKind_45 rfl (lv_at hl 0 rfl) ?_
              refine lv_iload_n hx hcd dX9_findKind_46 rfl (lv_at hl 1 rfl) ?_
              refine g_put (C := RX9) (T := TX9) (N := 32) hx hcd hts (fun _ h => List.mem_cons_of_mem _ (List.mem_append_right _ h)) tyX9 tyX9_ok nmX9 hown hK hP hD hS (i := 0) rfl BMod_c0 rfl 31 (by decide) (by decide +kernel) rfl (by decide +kernel) (Nat.le_of_ble_eq_true rfl) (B1 := BMod G qM st th (cmOf R) ac up li pg le spc pw ld (wr ss) sn tk ss sh dn pp ps (faOf wo lo be) (hbOf hb) tt (sh1 rf) mbt mle mbo i (-1) (-1) k214 s215 i) rfl (Bs1 := [BMod G qM st th (cmOf R) ac up li pg le spc pw ld (wr ss) sn tk ss sh dn pp ps (faOf wo lo be) (hbOf hb) tt (sh1 rf) mbt mle mbo i (-1) (-1) k214 s215 i]) rfl dX9_findKind_47 (fun H locs hP hD hS => ?_)
              refine wi_iconst hx hcd dX9_findKind_50 ?_
              rw [show BMod G qM st th (cmOf R) ac up li pg le spc pw ld (wr ss) sn tk ss sh dn pp ps (faOf wo lo be) (hbOf hb) tt (sh1 rf) mbt mle mbo i (-1) (-1) k214 s215 i = BMod G qM st th (cmOf R) ac up li pg le spc pw ld (wr ss) sn tk ss sh dn pp ps (faOf wo lo be) (hbOf hb) tt (sh1 rf) mbt mle mbo i (-1) (-1) k214 s215 (exW (FFB 1200 cM R ac up li le spc st pg (fun c => decide (0 ≤ pp c))) pg) from congrArg (fun z_ : Int => BMod G qM st th (cmOf R) ac up li pg le spc pw ld (wr ss) sn tk ss sh dn pp ps (faOf wo lo be) (hbOf hb) tt (sh1 rf) mbt mle mbo i (-1) (-1) k214 s215 z_) (show (i : Int) = (exW (FFB 1200 cM R ac up li le spc st pg (fun c => decide (0 ≤ pp c))) pg) from hex.2.symm)] at hP hD
              exact fin _ ⟨i, (-1), (-1), k214, s215⟩ H locs ls 51 dX9_findKind_51 hP hD hS (trivial) (⟨congrArg iI (hex.1.symm), by assumption⟩)
    exact L20 (((12 - 0) + 1 : Int)).toNat 0 (-1) (-1) (-1) k21 s22 _ _ _ (by omega) (by omega) (fun u h => absurd h (by omega)) (by assumption) hP hD hS (lv_sub hl [1, 0] rfl)
  ·
    have h00 : FFB 1200 cM R ac up li le spc st pg (fun c => decide (0 ≤ pp c)) 0 0 = true := ff_y c13
    refine wi_iconst hx hcd dX9_findKind_16 ?_
    rw [show BMod G qM st th (cmOf R) ac up li pg le spc pw ld (wr ss) sn tk ss sh dn pp ps (faOf wo lo be) (hbOf hb) tt (sh1 rf) mbt mle mbo (-1) (-1) (-1) k21 s22 (-9) = BMod G qM st th (cmOf R) ac up li pg le spc pw ld (wr ss) sn tk ss sh dn pp ps (faOf wo lo be) (hbOf hb) tt (sh1 rf) mbt mle mbo (-1) (-1) (-1) k21 s22 (exW (FFB 1200 cM R ac up li le spc st pg (fun c => decide (0 ≤ pp c))) pg) from congrArg (fun z_ : Int => BMod G qM st th (cmOf R) ac up li pg le spc pw ld (wr ss) sn tk ss sh dn pp ps (faOf wo lo be) (hbOf hb) tt (sh1 rf) mbt mle mbo (-1) (-1) (-1) k21 s22 z_) (show ((-9) : Int) = (exW (FFB 1200 cM R ac up li le spc st pg (fun c => decide (0 ≤ pp c))) pg) from (ex_00 h00).2.symm)] at hP hD
    exact fin _ ⟨(-1), (-1), (-1), k21, s22⟩ H locs ls 17 dX9_findKind_17 hP hD hS (trivial) (⟨congrArg iI ((ex_00 h00).1.symm), by assumption⟩)
