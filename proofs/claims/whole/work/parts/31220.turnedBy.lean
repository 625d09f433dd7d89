abbrev rmX9_turnedBy : Room := { frames := 0, cells := 0, slots := 0, locals := 0 }
set_option maxHeartbeats 4000000 in
set_option maxRecDepth 100000 in
theorem kX9_turnedBy (l : Launch) (D : va_G) (G : Nat → ClassId) (qM : Nat → Nat) (st : Int) (th : Nat → Int) (R : Nat → Nat → Int) (ac : Nat → Int) (up : Nat → Int) (li : Nat → Int) (le : Nat → Int) (pg : Int) (spc : Int) (pw : Int) (ld : Int) (sn : Int) (tk : Int) (ss : Int) (sh : Int) (dn : Int) (pp : Nat → Int) (ps : Nat → Int) (wo : Int) (lo : Int) (be : Int) (hb : Nat → Nat → Int) (tt : Nat → Int) (rf : Nat → Int) (mbt : Nat → Int) (mle : Nat → Int) (mbo : Nat → Int) (mwo : Int) (mlo : Int) (mbe : Int) (mmk : Nat → Int) (mms : Nat → Int) (mwh : Int) (a : Int) (b : Int) (hst : 2 ≤ st ∧ st ≤ 16) (hR : ∀ i j, 0 ≤ R i j ∧ R i j ≤ 9) (ha : 0 ≤ a ∧ a < 12) (hb_ : 0 ≤ b ∧ b < 12) : CtI l yX9_turnedBy wsX9_turnedBy rmX9_turnedBy D G [.ref (qM 0), .int (iI a), .int (iI b)] [BMod G qM st th (cmOf R) ac up li pg le spc pw ld (wr ss) sn tk ss sh dn pp ps (faOf wo lo be) (hbOf hb) tt (sh1 rf) mbt mle mbo mwo mlo mbe mmk mms mwh] (fun (r : Int32) (_ : Unit) => r = iI (sb st (R a.toNat) (R b.toNat))) (fun _ => [BMod G qM st th (cmOf R) ac up li pg le spc pw ld (wr ss) sn tk ss sh dn pp ps (faOf wo lo be) (hbOf hb) tt (sh1 rf) mbt mle mbo mwo mlo mbe mmk mms mwh]) := by
  refine CtI.ofI (cc := cX9_turnedBy) (maxL := 6) (by decide) rfl (Nat.le_of_ble_eq_true rfl) ?_
  intro p0 e0 s0 m0 args bel met cd A0 ls Q0 hx hcd hml hown hts hK hP hD hA hl fin
  have hl : lv_has ls 6 [(0, .ref (qM 0)), (1, .int (iI a)), (2, .int (iI b))] := hl
  have hS : va_S A0 s0.heap s0.heap [] := va_S.rf
  have hH : va_P D vwCl (fl [BMod G qM st th (cmOf R) ac up li pg le spc pw ld (wr ss) sn tk ss sh dn pp ps (faOf wo lo be) (hbOf hb) tt (sh1 rf) mbt mle mbo mwo mlo mbe mmk mms mwh]) s0.heap := hP
  obtain ⟨H, eH⟩ : ∃ H, H = s0.heap := ⟨_, rfl⟩
  obtain ⟨locs, eL⟩ : ∃ locs : List Loc, locs = [] := ⟨_, rfl⟩
  have hS : va_S A0 s0.heap H locs := by rw [eH, eL]; exact hS
  have hP : va_P D vwCl (fl [BMod G qM st th (cmOf R) ac up li pg le spc pw ld (wr ss) sn tk ss sh dn pp ps (faOf wo lo be) (hbOf hb) tt (sh1 rf) mbt mle mbo mwo mlo mbe mmk mms mwh]) H := by rw [eH]; exact hP
  suffices goal : W p0 l e0 rmX9_turnedBy s0 m0 args bel met cd H locs 0 0 Q0 (F0 m0 0 ls []) by rw [eH, eL] at goal; exact goal
  clear eH eL hH
  refine wi_iconst hx hcd dX9_turnedBy_0 ?_
  refine lv_istore_n (lv' := [(3, .int (iI 0)), (0, .ref (qM 0)), (1, .int (iI a)), (2, .int (iI b))]) hx hcd dX9_turnedBy_1 rfl hl (by decide) rfl (fun ls hl => ?_)
  have L2 : ∀ (fu : Nat) (n : Int) (H : Heap) (locs : List Loc) (ls : Array Slot), (st - n < (fu : Int)) → (0 ≤ n ∧ n ≤ st) → (∀ j : Nat, j < n.toNat → decide (tn st (R a.toNat) (R b.toNat) (j : Int)) = false) → va_P D vwCl (fl [BMod G qM st th (cmOf R) ac up li pg le spc pw ld (wr ss) sn tk ss sh dn pp ps (faOf wo lo be) (hbOf hb) tt (sh1 rf) mbt mle mbo mwo mlo mbe mmk mms mwh]) H → va_D A0 (fl [BMod G qM st th (cmOf R) ac up li pg le spc pw ld (wr ss) sn tk ss sh dn pp ps (faOf wo lo be) (hbOf hb) tt (sh1 rf) mbt mle mbo mwo mlo mbe mmk mms mwh]) → va_S A0 s0.heap H locs → lv_has ls 6 [(0, .ref (qM 0)), (1, .int (iI a)), (2, .int (iI b)), (3, .int (iI n))] → W p0 l e0 rmX9_turnedBy s0 m0 args bel met cd H locs 0 0 Q0 (F0 m0 2 ls []) := by
    intro fu
    induction fu with
    | zero =>
      intro n H locs ls hfu hn hp
      exact absurd hfu (by omega)
    | succ fu ih =>
      intro n H locs ls hfu hn hp hP hD hS hl
      have ih2 := ih
      clear ih
      refine lv_iload_n hx hcd dX9_turnedBy_2 rfl (lv_at hl 3 rfl) ?_
      refine lv_aload_n hx hcd dX9_turnedBy_3 rfl (lv_at hl 0 rfl) ?_
      refine g_get (C := RX9) (T := TX9) (N := 32) hx hcd hts (fun _ h => List.mem_cons_of_mem _ (List.mem_append_right _ h)) hown hK hP (i := 0) rfl BMod_c0 rfl 0 (by decide) (by decide +kernel) rfl dX9_turnedBy_4 ?_
      refine wi_icmp_ge (tgt := 90) hx hcd (by omega) (by omega) dX9_turnedBy_7 (by decide) (fun c7 => ?_) (fun c7 => ?_)
      ·
        refine wi_bipush hx hcd dX9_turnedBy_90 (by decide) ?_
        exact fin _ () H locs ls 92 dX9_turnedBy_92 hP hD hS (trivial) (congrArg iI (by unfold sb; rw [fnd_miss (fun j h => hp j (by omega))]))
      ·
        refine wi_iconst hx hcd dX9_turnedBy_10 ?_
        refine lv_istore (lv' := [(4, .int (iI 1)), (0, .ref (qM 0)), (1, .int (iI a)), (2, .int (iI b)), (3, .int (iI n))]) hx hcd dX9_turnedBy_11 hl (by decide) rfl (fun ls hl => ?_)
        refine wi_iconst hx hcd dX9_turnedBy_13 ?_
        refine lv_istore (lv' := [(5, .int (iI 0)), (4, .int (iI 1)), (0, .ref (qM 0)), (1, .int (iI a)), (2, .int (iI b)), (3, .int (iI n))]) hx hcd dX9_turnedBy_14 hl (by decide) rfl (fun ls hl => ?_)
        have L16 : ∀ (fu : Nat) (s : Int) (t : Int) (H : Heap) (locs : List Loc) (ls : Array Slot), (st - t < (fu : Int)) → (0 ≤ t ∧ t ≤ st) → ((s = 1 ∧ (∀ u : Nat, u < t.toNat → R b.toNat (fw st ((u : Int) + n)).toNat = R a.toNat u)) ∨ (s = 0 ∧ ¬ (∀ u : Nat, u < t.toNat → R b.toNat (fw st ((u : Int) + n)).toNat = R a.toNat u))) → va_P D vwCl (fl [BMod G qM st th (cmOf R) ac up li pg le spc pw ld (wr ss) sn tk ss sh dn pp ps (faOf wo lo be) (hbOf hb) tt (sh1 rf) mbt mle mbo mwo mlo mbe mmk mms mwh]) H → va_D A0 (fl [BMod G qM st th (cmOf R) ac up li pg le spc pw ld (wr ss) sn tk ss sh dn pp ps (faOf wo lo be) (hbOf hb) tt (sh1 rf) mbt mle mbo mwo mlo mbe mmk mms mwh]) → va_S A0 s0.heap H locs → lv_has ls 6 [(0, .ref (qM 0)), (1, .int (iI a)), (2, .int (iI b)), (3, .int (iI n)), (4, .int (iI s)), (5, .int (iI t))] → W p0 l e0 rmX9_turnedBy s0 m0 args bel met cd H locs 0 0 Q0 (F0 m0 16 ls []) := by
          intro fu
          induction fu with
          | zero =>
            intro s t H locs ls hfu ht hs
            exact absurd hfu (by omega)
          | succ fu ih =>
            intro s t H locs ls hfu ht hs hP hD hS hl
            have ih16 := ih
            clear ih
            refine lv_iload hx hcd dX9_turnedBy_16 (lv_at hl 5 rfl) ?_
            refine lv_aload_n hx hcd dX9_turnedBy_18 rfl (lv_at hl 0 rfl) ?_
            refine g_get (C := RX9) (T := TX9) (N := 32) hx hcd hts (fun _ h => List.mem_cons_of_mem _ (List.mem_append_right _ h)) hown hK hP (i := 0) rfl BMod_c0 rfl 0 (by decide) (by decide +kernel) rfl dX9_turnedBy_19 ?_
            refine wi_icmp_ge (tgt := 77) hx hcd (by omega) (by omega) dX9_turnedBy_22 (by decide) (fun c22 => ?_) (fun c22 => ?_)
            ·
              refine lv_iload hx hcd dX9_turnedBy_77 (lv_at hl 4 rfl) ?_
              refine wi_if_eq (tgt := 84) hx hcd (by omega) dX9_turnedBy_79 (by decide) (fun c79 => ?_) (fun c79 => ?_)
              ·
                have h79 : ¬ tn st (R a.toNat) (R b.toNat) n := by
                  rcases hs with ⟨q, -⟩ | ⟨-, q⟩
                  · exact absurd (q.symm.trans c79) (by decide)
                  · exact fun z => q (fun u h => z u (by omega))
                refine lv_iinc (v := iI (n + 1)) (lv' := [(3, .int (iI (n + 1))), (0, .ref (qM 0)), (1, .int (iI a)), (2, .int (iI b)), (4, .int (iI s)), (5, .int (iI t))]) hx hcd dX9_turnedBy_84 hl (k := 3) rfl (iI_add _ _) (by decide) rfl (fun ls hl => ?_)
                refine lv_goto (tgt := 2) hx hcd dX9_turnedBy_87 (by decide) ?_
                exact ih2 (n + 1) _ _ _ (by omega) (by omega) (fun j h => by
            by_cases e : j = n.toNat
            · rw [e, show ((n.toNat : Nat) : Int) = n by omega]; exact decide_eq_false h79
            · exact hp j (by omega)) hP hD hS (lv_sub hl [1, 2, 3, 0] rfl)
              ·
                have h79 : tn st (R a.toNat) (R b.toNat) n := by
                  rcases hs with ⟨-, q⟩ | ⟨q, -⟩
                  · exact fun u h => q u (by omega)
                  · exact absurd q c79
                refine lv_iload_n hx hcd dX9_turnedBy_82 rfl (lv_at hl 3 rfl) ?_
                exact fin _ () H locs ls 83 dX9_turnedBy_83 hP hD hS (trivial) (congrArg iI (by unfold sb; rw [fnd_hit hp (by rw [show ((n.toNat : Nat) : Int) = n by omega]; exact decide_eq_true h79) (by omega)]; omega))
            ·
              refine lv_iload hx hcd dX9_turnedBy_25 (lv_at hl 4 rfl) ?_
              refine wi_if_eq (tgt := 68) hx hcd (by omega) dX9_turnedBy_27 (by decide) (fun c27 => ?_) (fun c27 => ?_)
              ·
                have hs8 : ((0 : Int) = 1 ∧ (∀ u : Nat, u < (t + 1).toNat → R b.toNat (fw st ((u : Int) + n)).toNat = R a.toNat u)) ∨ ((0 : Int) = 0 ∧ ¬ (∀ u : Nat, u < (t + 1).toNat → R b.toNat (fw st ((u : Int) + n)).toNat = R a.toNat u)) := Or.inr ⟨rfl, fun z => by
                  first
                  | exact c61 (by have q := z t.toNat (by omega); rw [show ((t.toNat : Nat) : Int) = t by omega] at q; exact q)
                  | (rcases hs with ⟨q, -⟩ | ⟨-, q⟩; (exact absurd (q.symm.trans c27) (by decide)); exact q (fun u h => z u (by omega)))⟩
                refine wi_iconst hx hcd dX9_turnedBy_68 ?_
                refine lv_istore (lv' := [(4, .int (iI 0)), (0, .ref (qM 0)), (1, .int (iI a)), (2, .int (iI b)), (3, .int (iI n)), (5, .int (iI t))]) hx hcd dX9_turnedBy_69 hl (by decide) rfl (fun ls hl => ?_)
                refine lv_iinc (v := iI (t + 1)) (lv' := [(5, .int (iI (t + 1))), (4, .int (iI 0)), (0, .ref (qM 0)), (1, .int (iI a)), (2, .int (iI b)), (3, .int (iI n))]) hx hcd dX9_turnedBy_71 hl (k := 5) rfl (iI_add _ _) (by decide) rfl (fun ls hl => ?_)
                refine lv_goto (tgt := 16) hx hcd dX9_turnedBy_74 (by decide) ?_
                exact ih16 0 (t + 1) _ _ _ (by omega) (by omega) (hs8) hP hD hS (lv_sub hl [2, 3, 4, 5, 1, 0] rfl)
              ·
                refine lv_aload_n hx hcd dX9_turnedBy_30 rfl (lv_at hl 0 rfl) ?_
                refine g_get (C := RX9) (T := TX9) (N := 32) hx hcd hts (fun _ h => List.mem_cons_of_mem _ (List.mem_append_right _ h)) hown hK hP (i := 0) rfl BMod_c0 rfl 2 (by decide) (by decide +kernel) rfl dX9_turnedBy_31 ?_
                refine wi_bipush hx hcd dX9_turnedBy_34 (by decide) ?_
                refine lv_iload_n hx hcd dX9_turnedBy_36 rfl (lv_at hl 2 rfl) ?_
                refine wi_imul hx hcd dX9_turnedBy_37 ?_
                refine lv_iload hx hcd dX9_turnedBy_38 (lv_at hl 5 rfl) ?_
                refine lv_iload_n hx hcd dX9_turnedBy_40 rfl (lv_at hl 3 rfl) ?_
                refine wi_iadd hx hcd dX9_turnedBy_41 ?_
                refine lv_aload_n hx hcd dX9_turnedBy_42 rfl (lv_at hl 0 rfl) ?_
                refine g_get (C := RX9) (T := TX9) (N := 32) hx hcd hts (fun _ h => List.mem_cons_of_mem _ (List.mem_append_right _ h)) hown hK hP (i := 0) rfl BMod_c0 rfl 0 (by decide) (by decide +kernel) rfl dX9_turnedBy_43 ?_
                refine wi_irem hx hcd (by omega) (by omega) dX9_turnedBy_46 ?_
                have f1 := fw_rng (st := st) (x := t + n) (by omega)
                rw [show ((t + n) % st : Int) = fw st (t + n) from fw_mod (by omega)]
                refine wi_iadd hx hcd dX9_turnedBy_47 ?_
                refine g_iald hx hcd hK hP (i := 0) rfl BMod_c2 (by omega) (by decide) dX9_turnedBy_48 ?_
                rw [show ((cmOf R) (((16 * b) + (fw st (t + n))).toNat) : Int) = R b.toNat (fw st (t + n)).toNat from cm_at (c := b) (t := (fw st (t + n))) (by omega) (by omega)]
                have f2 := hR b.toNat (fw st (t + n)).toNat
                refine lv_aload_n hx hcd dX9_turnedBy_49 rfl (lv_at hl 0 rfl) ?_
                refine g_get (C := RX9) (T := TX9) (N := 32) hx hcd hts (fun _ h => List.mem_cons_of_mem _ (List.mem_append_right _ h)) hown hK hP (i := 0) rfl BMod_c0 rfl 2 (by decide) (by decide +kernel) rfl dX9_turnedBy_50 ?_
                refine wi_bipush hx hcd dX9_turnedBy_53 (by decide) ?_
                refine lv_iload_n hx hcd dX9_turnedBy_55 rfl (lv_at hl 1 rfl) ?_
                refine wi_imul hx hcd dX9_turnedBy_56 ?_
                refine lv_iload hx hcd dX9_turnedBy_57 (lv_at hl 5 rfl) ?_
                refine wi_iadd hx hcd dX9_turnedBy_59 ?_
                refine g_iald hx hcd hK hP (i := 0) rfl BMod_c2 (by omega) (by decide) dX9_turnedBy_60 ?_
                rw [show ((cmOf R) (((16 * a) + t).toNat) : Int) = R a.toNat t.toNat from cm_at (c := a) (t := t) (by omega) (by omega)]
                have f3 := hR a.toNat t.toNat
                refine wi_icmp_ne (tgt := 68) hx hcd (by omega) (by omega) dX9_turnedBy_61 (by decide) (fun c61 => ?_) (fun c61 => ?_)
                ·
                  have hs8 : ((0 : Int) = 1 ∧ (∀ u : Nat, u < (t + 1).toNat → R b.toNat (fw st ((u : Int) + n)).toNat = R a.toNat u)) ∨ ((0 : Int) = 0 ∧ ¬ (∀ u : Nat, u < (t + 1).toNat → R b.toNat (fw st ((u : Int) + n)).toNat = R a.toNat u)) := Or.inr ⟨rfl, fun z => by
                    first
                    | exact c61 (by have q := z t.toNat (by omega); rw [show ((t.toNat : Nat) : Int) = t by omega] at q; exact q)
                    | (rcases hs with ⟨q, -⟩ | ⟨-, q⟩; (exact absurd (q.symm.trans c27) (by decide)); exact q (fun u h => z u (by omega)))⟩
                  refine wi_iconst hx hcd dX9_turnedBy_68 ?_
                  refine lv_istore (lv' := [(4, .int (iI 0)), (0, .ref (qM 0)), (1, .int (iI a)), (2, .int (iI b)), (3, .int (iI n)), (5, .int (iI t))]) hx hcd dX9_turnedBy_69 hl (by decide) rfl (fun ls hl => ?_)
                  refine lv_iinc (v := iI (t + 1)) (lv' := [(5, .int (iI (t + 1))), (4, .int (iI 0)), (0, .ref (qM 0)), (1, .int (iI a)), (2, .int (iI b)), (3, .int (iI n))]) hx hcd dX9_turnedBy_71 hl (k := 5) rfl (iI_add _ _) (by decide) rfl (fun ls hl => ?_)
                  refine lv_goto (tgt := 16) hx hcd dX9_turnedBy_74 (by decide) ?_
                  exact ih16 0 (t + 1) _ _ _ (by omega) (by omega) (hs8) hP hD hS (lv_sub hl [2, 3, 4, 5, 1, 0] rfl)
                ·
                  have hs8 : ((1 : Int) = 1 ∧ (∀ u : Nat, u < (t + 1).toNat → R b.toNat (fw st ((u : Int) + n)).toNat = R a.toNat u)) ∨ ((1 : Int) = 0 ∧ ¬ (∀ u : Nat, u < (t + 1).toNat → R b.toNat (fw st ((u : Int) + n)).toNat = R a.toNat u)) := Or.inl ⟨rfl, fun u h => by
                    rcases hs with ⟨-, q⟩ | ⟨q, -⟩
                    · by_cases e : u = t.toNat
                      · rw [e, show ((t.toNat : Nat) : Int) = t by omega]; exact c61
                      · exact q u (by omega)
                    · exact absurd q c27⟩
                  refine wi_iconst hx hcd dX9_turnedBy_64 ?_
                  refine lv_goto (tgt := 69) hx hcd dX9_turnedBy_65 (by decide) ?_
                  refine lv_istore (lv' := [(4, .int (iI 1)), (0, .ref (qM 0)), (1, .int (iI a)), (2, .int (iI b)), (3, .int (iI n)), (5, .int (iI t))]) hx hcd dX9_turnedBy_69 hl (by decide) rfl (fun ls hl => ?_)
                  refine lv_iinc (v := iI (t + 1)) (lv' := [(5, .int (iI (t + 1))), (4, .int (iI 1)), (0, .ref (qM 0)), (1, .int (iI a)), (2, .int (iI b)), (3, .int (iI n))]) hx hcd dX9_turnedBy_71 hl (k := 5) rfl (iI_add _ _) (by decide) rfl (fun ls hl => ?_)
                  refine lv_goto (tgt := 16) hx hcd dX9_turnedBy_74 (by decide) ?_
                  exact ih16 1 (t + 1) _ _ _ (by omega) (by omega) (hs8) hP hD hS (lv_sub hl [2, 3, 4, 5, 1, 0] rfl)
        exact L16 (((st - 0) + 1 : Int)).toNat 1 0 _ _ _ (by omega) (by omega) (Or.inl ⟨rfl, fun u h => absurd h (by omega)⟩) hP hD hS (lv_sub hl [2, 3, 4, 5, 1, 0] rfl)
  exact L2 (((st - 0) + 1 : Int)).toNat 0 _ _ _ (by omega) (by omega) (fun t h => absurd h (by omega)) hP hD hS (lv_sub hl [1, 2, 3, 0] rfl)
