abbrev rmX9_areCut : Room := { frames := 1, cells := 0, slots := 0, locals := 21 }
set_option maxHeartbeats 4000000 in
set_option maxRecDepth 100000 in
theorem kX9_areCut (l : Launch) (D : va_G) (G : Nat → ClassId) (qM : Nat → Nat) (st : Int) (th : Nat → Int) (R : Nat → Nat → Int) (ac : Nat → Int) (up : Nat → Int) (li : Nat → Int) (le : Nat → Int) (pg : Int) (spc : Int) (pw : Int) (ld : Int) (sn : Int) (tk : Int) (ss : Int) (sh : Int) (dn : Int) (pp : Nat → Int) (ps : Nat → Int) (wo : Int) (lo : Int) (be : Int) (hb : Nat → Nat → Int) (tt : Nat → Int) (rf : Nat → Int) (mbt : Nat → Int) (mle : Nat → Int) (mbo : Nat → Int) (mwo : Int) (mlo : Int) (mbe : Int) (mmk : Nat → Int) (mms : Nat → Int) (mwh : Int) (hth : ∀ k, th k = 0 ∨ th k = 1) (hac : ∀ k, 0 ≤ ac k ∧ ac k ≤ 11) (hup : ∀ k, 0 ≤ up k ∧ up k ≤ 11) (hli : ∀ k, 0 ≤ li k ∧ li k ≤ 11) (hle : ∀ k, 0 ≤ le k ∧ le k ≤ 9) (hpg : 0 ≤ pg ∧ pg ≤ 12) : CtI l yX9_areCut wsX9_areCut rmX9_areCut D G [.ref (qM 0)] [BMod G qM st th (cmOf R) ac up li pg le spc pw ld (wr ss) sn tk ss sh dn pp ps (faOf wo lo be) (hbOf hb) tt (sh1 rf) mbt mle mbo mwo mlo mbe mmk mms mwh] (fun (r : Int32) (_ : Unit) => r = iI (if alc th ac up li le pg then 1 else 0)) (fun _ => [BMod G qM st th (cmOf R) ac up li pg le spc pw ld (wr ss) sn tk ss sh dn pp ps (faOf wo lo be) (hbOf hb) tt (sh1 rf) mbt mle mbo mwo mlo mbe mmk mms mwh]) := by
  refine CtI.ofZ (cc := cX9_areCut) (maxL := 3) (by decide) rfl (Nat.le_of_ble_eq_true rfl) ?_
  intro p0 e0 s0 m0 args bel met cd A0 ls Q0 hx hcd hml hown hts hK hP hD hA hl fin
  have hl : lv_has ls 3 [(0, .ref (qM 0))] := hl
  have hS : va_S A0 s0.heap s0.heap [] := va_S.rf
  have hH : va_P D vwCl (fl [BMod G qM st th (cmOf R) ac up li pg le spc pw ld (wr ss) sn tk ss sh dn pp ps (faOf wo lo be) (hbOf hb) tt (sh1 rf) mbt mle mbo mwo mlo mbe mmk mms mwh]) s0.heap := hP
  obtain ⟨H, eH⟩ : ∃ H, H = s0.heap := ⟨_, rfl⟩
  obtain ⟨locs, eL⟩ : ∃ locs : List Loc, locs = [] := ⟨_, rfl⟩
  have hS : va_S A0 s0.heap H locs := by rw [eH, eL]; exact hS
  have hP : va_P D vwCl (fl [BMod G qM st th (cmOf R) ac up li pg le spc pw ld (wr ss) sn tk ss sh dn pp ps (faOf wo lo be) (hbOf hb) tt (sh1 rf) mbt mle mbo mwo mlo mbe mmk mms mwh]) H := by rw [eH]; exact hP
  suffices goal : W p0 l e0 rmX9_areCut s0 m0 args bel met cd H locs 0 0 Q0 (F0 m0 0 ls []) by rw [eH, eL] at goal; exact goal
  clear eH eL hH
  refine wi_iconst hx hcd dX9_areCut_0 ?_
  refine lv_istore_n (lv' := [(1, .int (iI 1)), (0, .ref (qM 0))]) hx hcd dX9_areCut_1 rfl hl (by decide) rfl (fun ls hl => ?_)
  refine wi_iconst hx hcd dX9_areCut_2 ?_
  refine lv_istore_n (lv' := [(2, .int (iI 0)), (1, .int (iI 1)), (0, .ref (qM 0))]) hx hcd dX9_areCut_3 rfl hl (by decide) rfl (fun ls hl => ?_)
  have L4 : ∀ (fu : Nat) (s : Int) (i : Int) (H : Heap) (locs : List Loc) (ls : Array Slot), (pg - i < (fu : Int)) → (0 ≤ i ∧ i ≤ pg) → (s = 0 ∨ s = 1) → ((s = 1 ∧ (∀ u : Nat, u < i.toNat → cutL th ac up li (le u).toNat)) ∨ (s = 0 ∧ ¬ (∀ u : Nat, u < i.toNat → cutL th ac up li (le u).toNat))) → va_P D vwCl (fl [BMod G qM st th (cmOf R) ac up li pg le spc pw ld (wr ss) sn tk ss sh dn pp ps (faOf wo lo be) (hbOf hb) tt (sh1 rf) mbt mle mbo mwo mlo mbe mmk mms mwh]) H → va_D A0 (fl [BMod G qM st th (cmOf R) ac up li pg le spc pw ld (wr ss) sn tk ss sh dn pp ps (faOf wo lo be) (hbOf hb) tt (sh1 rf) mbt mle mbo mwo mlo mbe mmk mms mwh]) → va_S A0 s0.heap H locs → lv_has ls 3 [(0, .ref (qM 0)), (1, .int (iI s)), (2, .int (iI i))] → W p0 l e0 rmX9_areCut s0 m0 args bel met cd H locs 0 0 Q0 (F0 m0 4 ls []) := by
    intro fu
    induction fu with
    | zero =>
      intro s i H locs ls hfu hi h01 hs
      exact absurd hfu (by omega)
    | succ fu ih =>
      intro s i H locs ls hfu hi h01 hs hP hD hS hl
      have ih4 := ih
      clear ih
      refine lv_iload_n hx hcd dX9_areCut_4 rfl (lv_at hl 2 rfl) ?_
      refine lv_aload_n hx hcd dX9_areCut_5 rfl (lv_at hl 0 rfl) ?_
      refine g_get (C := RX9) (T := TX9) (N := 32) hx hcd hts (fun _ h => List.mem_cons_of_mem _ (List.mem_append_right _ h)) hown hK hP (i := 0) rfl BMod_c0 rfl 6 (by decide) (by decide +kernel) rfl dX9_areCut_6 ?_
      refine wi_icmp_ge (tgt := 41) hx hcd (by omega) (by omega) dX9_areCut_9 (by decide) (fun c9 => ?_) (fun c9 => ?_)
      ·
        refine lv_iload_n hx hcd dX9_areCut_41 rfl (lv_at hl 1 rfl) ?_
        exact fin _ () H locs ls 42 dX9_areCut_42 hP hD hS (nz (by omega)) (congrArg iI (by rcases hs with ⟨e, q⟩ | ⟨e, q⟩ <;> first | (rw [e, if_pos (fun u h => q u (by omega))]) | (rw [e, if_neg (fun z => q (fun u h => z u (by omega)))])))
      ·
        refine lv_iload_n hx hcd dX9_areCut_12 rfl (lv_at hl 1 rfl) ?_
        refine wi_if_eq (tgt := 33) hx hcd (by omega) dX9_areCut_13 (by decide) (fun c13 => ?_) (fun c13 => ?_)
        ·
          have hs8 : ((0 : Int) = 1 ∧ (∀ u : Nat, u < (i + 1).toNat → cutL th ac up li (le u).toNat)) ∨ ((0 : Int) = 0 ∧ ¬ (∀ u : Nat, u < (i + 1).toNat → cutL th ac up li (le u).toNat)) := Or.inr ⟨rfl, fun z => by
            first
            | (rcases hcl with ⟨q, -⟩ | ⟨-, q⟩; (exact absurd (q.symm.trans c26) (by decide)); exact q (z i.toNat (by omega)))
            | (rcases hs with ⟨q, -⟩ | ⟨-, q⟩; (exact absurd (q.symm.trans c13) (by decide)); exact q (fun u h => z u (by omega)))⟩
          refine wi_iconst hx hcd dX9_areCut_33 ?_
          refine lv_istore_n (lv' := [(1, .int (iI 0)), (0, .ref (qM 0)), (2, .int (iI i))]) hx hcd dX9_areCut_34 rfl hl (by decide) rfl (fun ls hl => ?_)
          refine lv_iinc (v := iI (i + 1)) (lv' := [(2, .int (iI (i + 1))), (1, .int (iI 0)), (0, .ref (qM 0))]) hx hcd dX9_areCut_35 hl (k := 2) rfl (iI_add _ _) (by decide) rfl (fun ls hl => ?_)
          refine lv_goto (tgt := 4) hx hcd dX9_areCut_38 (by decide) ?_
          exact ih4 0 (i + 1) _ _ _ (by omega) (by omega) (by omega) (hs8) hP hD hS (lv_sub hl [2, 1, 0] rfl)
        ·
          refine lv_aload_n hx hcd dX9_areCut_16 rfl (lv_at hl 0 rfl) ?_
          refine lv_aload_n hx hcd dX9_areCut_17 rfl (lv_at hl 0 rfl) ?_
          refine g_get (C := RX9) (T := TX9) (N := 32) hx hcd hts (fun _ h => List.mem_cons_of_mem _ (List.mem_append_right _ h)) hown hK hP (i := 0) rfl BMod_c0 rfl 7 (by decide) (by decide +kernel) rfl dX9_areCut_18 ?_
          refine lv_iload_n hx hcd dX9_areCut_21 rfl (lv_at hl 2 rfl) ?_
          refine g_iald hx hcd hK hP (i := 0) rfl BMod_c6 (by omega) (by decide) dX9_areCut_22 ?_
          have f1 := hle i.toNat
          refine cV_i (wc := [BMod G qM st th (cmOf R) ac up li pg le spc pw ld (wr ss) sn tk ss sh dn pp ps (faOf wo lo be) (hbOf hb) tt (sh1 rf) mbt mle mbo mwo mlo mbe mmk mms mwh]) (wr := []) (w1 := fun (_ : Unit) => [BMod G qM st th (cmOf R) ac up li pg le spc pw ld (wr ss) sn tk ss sh dn pp ps (faOf wo lo be) (hbOf hb) tt (sh1 rf) mbt mle mbo mwo mlo mbe mmk mms mwh]) (Bs1 := fun (_ : Unit) => [BMod G qM st th (cmOf R) ac up li pg le spc pw ld (wr ss) sn tk ss sh dn pp ps (faOf wo lo be) (hbOf hb) tt (sh1 rf) mbt mle mbo mwo mlo mbe mmk mms mwh]) (As := [.int (iI (le i.toNat))]) (rest := []) (kX9_isCutLetter l D G qM st th R ac up li le pg spc pw ld sn tk ss sh dn pp ps wo lo be hb tt rf mbt mle mbo mwo mlo mbe mmk mms mwh (le i.toNat) (by first | assumption | omega) (by first | assumption | omega) (by first | assumption | omega) (by first | assumption | omega) (by omega)) rfl ⟨hx, hcd, hml, hown, hts⟩ (cwV 1 hts gX9_areCut_X9_isCutLetter rfl rfl rfl (by decide +kernel) ⟨by decide, by decide⟩) (q0 := 0) (ci := 9) rfl rfl rfl rfl hl.1 (Nat.le_of_ble_eq_true rfl) ⟨Nat.le_of_ble_eq_true rfl, Nat.le_of_ble_eq_true rfl⟩ dX9_areCut_23 hK hP hD hS hA (perm_i2 [0] 1 rfl (by decide) rfl) (fun _ => perm_i2 [0] 1 rfl (by decide) rfl) (fun r u H locs hw2 hP hD hS => ?_)
          subst hw2
          have hcl := if01 (cutL th ac up li (le i.toNat).toNat)
          refine wi_if_eq (tgt := 33) hx hcd (by omega) dX9_areCut_26 (by decide) (fun c26 => ?_) (fun c26 => ?_)
          ·
            have hs8 : ((0 : Int) = 1 ∧ (∀ u : Nat, u < (i + 1).toNat → cutL th ac up li (le u).toNat)) ∨ ((0 : Int) = 0 ∧ ¬ (∀ u : Nat, u < (i + 1).toNat → cutL th ac up li (le u).toNat)) := Or.inr ⟨rfl, fun z => by
              first
              | (rcases hcl with ⟨q, -⟩ | ⟨-, q⟩; (exact absurd (q.symm.trans c26) (by decide)); exact q (z i.toNat (by omega)))
              | (rcases hs with ⟨q, -⟩ | ⟨-, q⟩; (exact absurd (q.symm.trans c13) (by decide)); exact q (fun u h => z u (by omega)))⟩
            refine wi_iconst hx hcd dX9_areCut_33 ?_
            refine lv_istore_n (lv' := [(1, .int (iI 0)), (0, .ref (qM 0)), (2, .int (iI i))]) hx hcd dX9_areCut_34 rfl hl (by decide) rfl (fun ls hl => ?_)
            refine lv_iinc (v := iI (i + 1)) (lv' := [(2, .int (iI (i + 1))), (1, .int (iI 0)), (0, .ref (qM 0))]) hx hcd dX9_areCut_35 hl (k := 2) rfl (iI_add _ _) (by decide) rfl (fun ls hl => ?_)
            refine lv_goto (tgt := 4) hx hcd dX9_areCut_38 (by decide) ?_
            exact ih4 0 (i + 1) _ _ _ (by omega) (by omega) (by omega) (hs8) hP hD hS (lv_sub hl [2, 1, 0] rfl)
          ·
            have hs8 : ((1 : Int) = 1 ∧ (∀ u : Nat, u < (i + 1).toNat → cutL th ac up li (le u).toNat)) ∨ ((1 : Int) = 0 ∧ ¬ (∀ u : Nat, u < (i + 1).toNat → cutL th ac up li (le u).toNat)) := Or.inl ⟨rfl, fun u h => by
              rcases hs with ⟨-, q⟩ | ⟨q, -⟩
              · by_cases e : u = i.toNat
                · rcases hcl with ⟨-, z⟩ | ⟨z, -⟩
                  · rw [e]; exact z
                  · exact absurd z c26
                · exact q u (by omega)
              · exact absurd q c13⟩
            refine wi_iconst hx hcd dX9_areCut_29 ?_
            refine lv_goto (tgt := 34) hx hcd dX9_areCut_30 (by decide) ?_
            refine lv_istore_n (lv' := [(1, .int (iI 1)), (0, .ref (qM 0)), (2, .int (iI i))]) hx hcd dX9_areCut_34 rfl hl (by decide) rfl (fun ls hl => ?_)
            refine lv_iinc (v := iI (i + 1)) (lv' := [(2, .int (iI (i + 1))), (1, .int (iI 1)), (0, .ref (qM 0))]) hx hcd dX9_areCut_35 hl (k := 2) rfl (iI_add _ _) (by decide) rfl (fun ls hl => ?_)
            refine lv_goto (tgt := 4) hx hcd dX9_areCut_38 (by decide) ?_
            exact ih4 1 (i + 1) _ _ _ (by omega) (by omega) (by omega) (hs8) hP hD hS (lv_sub hl [2, 1, 0] rfl)
  exact L4 (((pg - 0) + 1 : Int)).toNat 1 0 _ _ _ (by omega) (by omega) (by omega) (Or.inl ⟨rfl, fun u h => absurd h (by omega)⟩) hP hD hS (lv_sub hl [2, 1, 0] rfl)
