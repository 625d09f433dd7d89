abbrev rmX9_whose : Room := { frames := 3, cells := 0, slots := 0, locals := 63 }
set_option maxHeartbeats 4000000 in
set_option maxRecDepth 100000 in
theorem kX9_whose (l : Launch) (D : va_G) (G : Nat → ClassId) (qM : Nat → Nat) (st : Int) (th : Nat → Int) (R : Nat → Nat → Int) (ac : Nat → Int) (up : Nat → Int) (li : Nat → Int) (le : Nat → Int) (pg : Int) (spc : Int) (pw : Int) (ld : Int) (sn : Int) (tk : Int) (ss : Int) (sh : Int) (dn : Int) (pp : Nat → Int) (ps : Nat → Int) (wo : Int) (lo : Int) (be : Int) (hb : Nat → Nat → Int) (tt : Nat → Int) (rf : Nat → Int) (mbt : Nat → Int) (mle : Nat → Int) (mbo : Nat → Int) (mwo : Int) (mlo : Int) (mbe : Int) (mmk : Nat → Int) (mms : Nat → Int) (mwh : Int) (c : Int) (hst : 2 ≤ st ∧ st ≤ 16) (hth : ∀ k, th k = 0 ∨ th k = 1) (hR : ∀ i j, 0 ≤ R i j ∧ R i j ≤ 9) (hac : ∀ k, 0 ≤ ac k ∧ ac k ≤ 11) (hup : ∀ k, 0 ≤ up k ∧ up k ≤ 11) (hli : ∀ k, 0 ≤ li k ∧ li k ≤ 11) (hle : ∀ k, 0 ≤ le k ∧ le k ≤ 9) (hpg : 0 ≤ pg ∧ pg ≤ 12) (hsp : 0 ≤ spc ∧ spc ≤ 9) (hpw : 0 ≤ pw ∧ pw ≤ 1000) (hld : 1 ≤ ld ∧ ld ≤ 20) (hss : 0 ≤ ss ∧ ss < 900000) (hpq : ∀ k, -1 ≤ pp k ∧ pp k ≤ 99 ∧ -1 ≤ ps k ∧ ps k ≤ 99 ∧ (0 ≤ pp k → 0 ≤ ps k)) (hwo : -1 ≤ wo ∧ wo ≤ 11) (hlo : -1 ≤ lo ∧ lo ≤ 11) (hbe : -1 ≤ be ∧ be ≤ 1) (hhb : ∀ i j, 0 ≤ hb i j ∧ hb i j ≤ 1000) (htt : ∀ k, 0 ≤ tt k ∧ tt k ≤ 1000) (hc_ : -2147483648 ≤ c ∧ c < 2147483648) : CtI l yX9_whose wsX9_whose rmX9_whose D G [.ref (qM 0), .int (iI c)] [BMod G qM st th (cmOf R) ac up li pg le spc pw ld (wr ss) sn tk ss sh dn pp ps (faOf wo lo be) (hbOf hb) tt (sh1 rf) mbt mle mbo mwo mlo mbe mmk mms mwh] (fun (r : Int32) (_ : Unit) => r = iI (if rC th c = 0 then bst (fun k => LK st (R c.toNat) (hb k) (tt k)) tt 4 else rC th c)) (fun _ => [BMod G qM st th (cmOf R) ac up li pg le spc pw ld (wr ss) sn tk ss sh dn pp ps (faOf wo lo be) (hbOf hb) tt (sh1 (rfx rf (if rC th c = 0 then bst (fun k => LK st (R c.toNat) (hb k) (tt k)) tt 4 else rC th c))) mbt mle mbo mwo mlo mbe mmk mms mwh]) := by
  refine CtI.ofI (cc := cX9_whose) (maxL := 5) (by decide) rfl (Nat.le_of_ble_eq_true rfl) ?_
  intro p0 e0 s0 m0 args bel met cd A0 ls Q0 hx hcd hml hown hts hK hP hD hA hl fin
  have hl : lv_has ls 5 [(0, .ref (qM 0)), (1, .int (iI c))] := hl
  have hS : va_S A0 s0.heap s0.heap [] := va_S.rf
  have hH : va_P D vwCl (fl [BMod G qM st th (cmOf R) ac up li pg le spc pw ld (wr ss) sn tk ss sh dn pp ps (faOf wo lo be) (hbOf hb) tt (sh1 rf) mbt mle mbo mwo mlo mbe mmk mms mwh]) s0.heap := hP
  obtain ⟨H, eH⟩ : ∃ H, H = s0.heap := ⟨_, rfl⟩
  obtain ⟨locs, eL⟩ : ∃ locs : List Loc, locs = [] := ⟨_, rfl⟩
  have hS : va_S A0 s0.heap H locs := by rw [eH, eL]; exact hS
  have hP : va_P D vwCl (fl [BMod G qM st th (cmOf R) ac up li pg le spc pw ld (wr ss) sn tk ss sh dn pp ps (faOf wo lo be) (hbOf hb) tt (sh1 rf) mbt mle mbo mwo mlo mbe mmk mms mwh]) H := by rw [eH]; exact hP
  suffices goal : W p0 l e0 rmX9_whose s0 m0 args bel met cd H locs 0 0 Q0 (F0 m0 0 ls []) by rw [eH, eL] at goal; exact goal
  clear eH eL hH
  have hrc := rC_rng th c
  refine lv_aload_n hx hcd dX9_whose_0 rfl (lv_at hl 0 rfl) ?_
  refine lv_iload_n hx hcd dX9_whose_1 rfl (lv_at hl 1 rfl) ?_
  refine cV_i (wc := [BMod G qM st th (cmOf R) ac up li pg le spc pw ld (wr ss) sn tk ss sh dn pp ps (faOf wo lo be) (hbOf hb) tt (sh1 rf) mbt mle mbo mwo mlo mbe mmk mms mwh]) (wr := []) (w1 := fun (_ : Unit) => [BMod G qM st th (cmOf R) ac up li pg le spc pw ld (wr ss) sn tk ss sh dn pp ps (faOf wo lo be) (hbOf hb) tt (sh1 rf) mbt mle mbo mwo mlo mbe mmk mms mwh]) (Bs1 := fun (_ : Unit) => [BMod G qM st th (cmOf R) ac up li pg le spc pw ld (wr ss) sn tk ss sh dn pp ps (faOf wo lo be) (hbOf hb) tt (sh1 rf) mbt mle mbo mwo mlo mbe mmk mms mwh]) (As := [.int (iI c)]) (rest := []) (kX9_lacks l D G qM st th R ac up li le pg spc pw ld sn tk ss sh dn pp ps wo lo be hb tt rf mbt mle mbo mwo mlo mbe mmk mms mwh c (by first | assumption | omega) (by first | assumption | omega)) rfl ⟨hx, hcd, hml, hown, hts⟩ (cwV 1 hts gX9_whose_X9_lacks rfl rfl rfl (by decide +kernel) ⟨by decide, by decide⟩) (q0 := 0) (ci := 9) rfl rfl rfl rfl hl.1 (Nat.le_of_ble_eq_true rfl) ⟨Nat.le_of_ble_eq_true rfl, Nat.le_of_ble_eq_true rfl⟩ dX9_whose_2 hK hP hD hS hA (perm_i2 [0] 1 rfl (by decide) rfl) (fun _ => perm_i2 [0] 1 rfl (by decide) rfl) (fun r u H locs hw1 hP hD hS => ?_)
  subst hw1
  refine lv_istore_n (lv' := [(2, .int (iI (rC th c))), (0, .ref (qM 0)), (1, .int (iI c))]) hx hcd dX9_whose_5 rfl hl (by decide) rfl (fun ls hl => ?_)
  refine lv_iload_n hx hcd dX9_whose_6 rfl (lv_at hl 0 rfl) ?_
  refine wi_if_ge (tgt := 16) hx hcd (by omega) dX9_whose_7 (by decide) (fun c7 => ?_) (fun c7 => ?_)
  ·
    refine wi_bipush hx hcd dX9_whose_16 (by decide) ?_
    refine lv_istore_n (lv' := [(3, .int (iI (-9))), (2, .int (iI (rC th c))), (0, .ref (qM 0)), (1, .int (iI c))]) hx hcd dX9_whose_18 rfl hl (by decide) rfl (fun ls hl => ?_)
    refine wi_iconst hx hcd dX9_whose_19 ?_
    refine lv_istore (lv' := [(4, .int (iI 0)), (3, .int (iI (-9))), (2, .int (iI (rC th c))), (0, .ref (qM 0)), (1, .int (iI c))]) hx hcd dX9_whose_20 hl (by decide) rfl (fun ls hl => ?_)
    have L22 : ∀ (fu : Nat) (b : Int) (i : Int) (H : Heap) (locs : List Loc) (ls : Array Slot), (4 - i < (fu : Int)) → (0 ≤ i ∧ i ≤ 4) → (b = -9 ∨ (0 ≤ b ∧ b < i)) → (b = bst (fun k => LK st (R c.toNat) (hb k) (tt k)) tt i.toNat) → va_P D vwCl (fl [BMod G qM st th (cmOf R) ac up li pg le spc pw ld (wr ss) sn tk ss sh dn pp ps (faOf wo lo be) (hbOf hb) tt (sh1 rf) mbt mle mbo mwo mlo mbe mmk mms mwh]) H → va_D A0 (fl [BMod G qM st th (cmOf R) ac up li pg le spc pw ld (wr ss) sn tk ss sh dn pp ps (faOf wo lo be) (hbOf hb) tt (sh1 rf) mbt mle mbo mwo mlo mbe mmk mms mwh]) → va_S A0 s0.heap H locs → lv_has ls 5 [(0, .ref (qM 0)), (1, .int (iI c)), (2, .int (iI (rC th c))), (3, .int (iI b)), (4, .int (iI i))] → W p0 l e0 rmX9_whose s0 m0 args bel met cd H locs 0 0 Q0 (F0 m0 22 ls []) := by
      intro fu
      induction fu with
      | zero =>
        intro b i H locs ls hfu hi hbr hb9
        exact absurd hfu (by omega)
      | succ fu ih =>
        intro b i H locs ls hfu hi hbr hb9 hP hD hS hl
        have ih22 := ih
        clear ih
        refine lv_iload hx hcd dX9_whose_22 (lv_at hl 4 rfl) ?_
        refine wi_iconst hx hcd dX9_whose_24 ?_
        refine wi_icmp_ge (tgt := 87) hx hcd (by omega) (by omega) dX9_whose_25 (by decide) (fun c25 => ?_) (fun c25 => ?_)
        ·
          refine lv_iload_n hx hcd dX9_whose_87 rfl (lv_at hl 3 rfl) ?_
          have hA_ : (if rC th c = 0 then bst (fun k => LK st (R c.toNat) (hb k) (tt k)) tt 4 else rC th c : Int) = b := (if_pos (by omega)).trans (by rw [hb9, show i = 4 by omega]; rfl)
          rw [show BMod G qM st th (cmOf R) ac up li pg le spc pw ld (wr ss) sn tk ss sh dn pp ps (faOf wo lo be) (hbOf hb) tt (sh1 rf) mbt mle mbo mwo mlo mbe mmk mms mwh = BMod G qM st th (cmOf R) ac up li pg le spc pw ld (wr ss) sn tk ss sh dn pp ps (faOf wo lo be) (hbOf hb) tt (sh1 (rfx rf (if rC th c = 0 then bst (fun k => LK st (R c.toNat) (hb k) (tt k)) tt 4 else rC th c))) mbt mle mbo mwo mlo mbe mmk mms mwh from congrArg (fun z_ : Nat → Int => BMod G qM st th (cmOf R) ac up li pg le spc pw ld (wr ss) sn tk ss sh dn pp ps (faOf wo lo be) (hbOf hb) tt z_ mbt mle mbo mwo mlo mbe mmk mms mwh) (show (sh1 rf : Nat → Int) = (sh1 (rfx rf (if rC th c = 0 then bst (fun k => LK st (R c.toNat) (hb k) (tt k)) tt 4 else rC th c))) from congrArg sh1 (by rw [hA_]; first | exact (rfx_1 (by omega)).symm | exact (rfx_0 (by omega)).symm))] at hP hD
          exact fin _ () H locs ls 88 dX9_whose_88 hP hD hS (trivial) (congrArg iI hA_.symm)
        ·
          refine lv_aload_n hx hcd dX9_whose_28 rfl (lv_at hl 0 rfl) ?_
          refine g_get (C := RX9) (T := TX9) (N := 32) hx hcd hts (fun _ h => List.mem_cons_of_mem _ (List.mem_append_right _ h)) hown hK hP (i := 0) rfl BMod_c0 rfl 21 (by decide) (by decide +kernel) rfl dX9_whose_29 ?_
          refine lv_iload hx hcd dX9_whose_32 (lv_at hl 4 rfl) ?_
          refine g_iald hx hcd hK hP (i := 0) rfl BMod_c11 (by omega) (by decide) dX9_whose_34 ?_
          have f2 := htt i.toNat
          refine wi_if_le (tgt := 81) hx hcd (by omega) dX9_whose_35 (by decide) (fun c35 => ?_) (fun c35 => ?_)
          ·
            try (have hb8 : b = bst (fun k => LK st (R c.toNat) (hb k) (tt k)) tt (i + 1).toNat := (by rw [bst_s (by omega), ← hb9, if_neg (fun q => by first | omega | (rcases q with ⟨-, q | q⟩; (omega); rcases hsg.2.2 with ⟨z, -⟩ | ⟨-, z⟩; (omega); exact z q))]))
            refine lv_iinc (v := iI (i + 1)) (lv' := [(4, .int (iI (i + 1))), (0, .ref (qM 0)), (1, .int (iI c)), (2, .int (iI (rC th c))), (3, .int (iI b))]) hx hcd dX9_whose_81 hl (k := 4) rfl (iI_add _ _) (by decide) rfl (fun ls hl => ?_)
            refine lv_goto (tgt := 22) hx hcd dX9_whose_84 (by decide) ?_
            exact ih22 b (i + 1) _ _ _ (by omega) (by omega) (by omega) (hb8) hP hD hS (lv_sub hl [1, 2, 3, 4, 0] rfl)
          ·
            refine lv_iload_n hx hcd dX9_whose_38 rfl (lv_at hl 3 rfl) ?_
            refine wi_if_lt (tgt := 78) hx hcd (by omega) dX9_whose_39 (by decide) (fun c39 => ?_) (fun c39 => ?_)
            ·
              have hb8 : i = bst (fun k => LK st (R c.toNat) (hb k) (tt k)) tt (i + 1).toNat := by
                rw [bst_s (by omega), ← hb9, if_pos]
                refine ⟨by omega, ?_⟩
                first
                | exact Or.inl (by omega)
                | exact Or.inr (by rcases hsg.2.2 with ⟨-, q⟩ | ⟨q, -⟩; (exact q); exact absurd c75 (by omega))
              refine lv_iload hx hcd dX9_whose_78 (lv_at hl 4 rfl) ?_
              refine lv_istore_n (lv' := [(3, .int (iI i)), (0, .ref (qM 0)), (1, .int (iI c)), (2, .int (iI (rC th c))), (4, .int (iI i))]) hx hcd dX9_whose_80 rfl hl (by decide) rfl (fun ls hl => ?_)
              try (have hb8 : b = bst (fun k => LK st (R c.toNat) (hb k) (tt k)) tt (i + 1).toNat := (by rw [bst_s (by omega), ← hb9, if_neg (fun q => by first | omega | (rcases q with ⟨-, q | q⟩; (omega); rcases hsg.2.2 with ⟨z, -⟩ | ⟨-, z⟩; (omega); exact z q))]))
              refine lv_iinc (v := iI (i + 1)) (lv' := [(4, .int (iI (i + 1))), (3, .int (iI i)), (0, .ref (qM 0)), (1, .int (iI c)), (2, .int (iI (rC th c)))]) hx hcd dX9_whose_81 hl (k := 4) rfl (iI_add _ _) (by decide) rfl (fun ls hl => ?_)
              refine lv_goto (tgt := 22) hx hcd dX9_whose_84 (by decide) ?_
              exact ih22 i (i + 1) _ _ _ (by omega) (by omega) (by omega) (hb8) hP hD hS (lv_sub hl [2, 3, 4, 1, 0] rfl)
            ·
              refine lv_aload_n hx hcd dX9_whose_42 rfl (lv_at hl 0 rfl) ?_
              refine lv_iload_n hx hcd dX9_whose_43 rfl (lv_at hl 1 rfl) ?_
              refine lv_iload hx hcd dX9_whose_44 (lv_at hl 4 rfl) ?_
              refine cV_i (wc := [BMod G qM st th (cmOf R) ac up li pg le spc pw ld (wr ss) sn tk ss sh dn pp ps (faOf wo lo be) (hbOf hb) tt (sh1 rf) mbt mle mbo mwo mlo mbe mmk mms mwh]) (wr := []) (w1 := fun (_ : Unit) => [BMod G qM st th (cmOf R) ac up li pg le spc pw ld (wr ss) sn tk ss sh dn pp ps (faOf wo lo be) (hbOf hb) tt (sh1 rf) mbt mle mbo mwo mlo mbe mmk mms mwh]) (Bs1 := fun (_ : Unit) => [BMod G qM st th (cmOf R) ac up li pg le spc pw ld (wr ss) sn tk ss sh dn pp ps (faOf wo lo be) (hbOf hb) tt (sh1 rf) mbt mle mbo mwo mlo mbe mmk mms mwh]) (As := [.int (iI c), .int (iI i)]) (rest := []) (kX9_likeness l D G qM st th R ac up li le pg spc pw ld sn tk ss sh dn pp ps wo lo be hb tt rf mbt mle mbo mwo mlo mbe mmk mms mwh c i (by first | assumption | omega) (by first | assumption | omega) (by first | assumption | omega) (by first | assumption | omega) (by first | assumption | omega) (by first | assumption | omega)) rfl ⟨hx, hcd, hml, hown, hts⟩ (cwV 2 hts gX9_whose_X9_likeness rfl rfl rfl (by decide +kernel) ⟨by decide, by decide⟩) (q0 := 0) (ci := 9) rfl rfl rfl rfl hl.1 (Nat.le_of_ble_eq_true rfl) ⟨Nat.le_of_ble_eq_true rfl, Nat.le_of_ble_eq_true rfl⟩ dX9_whose_46 hK hP hD hS hA (perm_i2 [0] 1 rfl (by decide) rfl) (fun _ => perm_i2 [0] 1 rfl (by decide) rfl) (fun r u H locs hw3 hP hD hS => ?_)
              subst hw3
              have hli := LK_rng (st := st) (f := R c.toNat) (g := hb i.toNat) (T := tt i.toNat) (htt i.toNat) hst (hhb i.toNat)
              refine wi_i2l hx hcd (by omega) dX9_whose_49 ?_
              refine lv_aload_n hx hcd dX9_whose_50 rfl (lv_at hl 0 rfl) ?_
              refine g_get (C := RX9) (T := TX9) (N := 32) hx hcd hts (fun _ h => List.mem_cons_of_mem _ (List.mem_append_right _ h)) hown hK hP (i := 0) rfl BMod_c0 rfl 21 (by decide) (by decide +kernel) rfl dX9_whose_51 ?_
              refine lv_iload_n hx hcd dX9_whose_54 rfl (lv_at hl 3 rfl) ?_
              refine g_iald hx hcd hK hP (i := 0) rfl BMod_c11 (by omega) (by decide) dX9_whose_55 ?_
              have f4 := htt b.toNat
              refine wi_i2l hx hcd (by omega) dX9_whose_56 ?_
              refine wi_lmul hx hcd dX9_whose_57 ?_
              refine lv_aload_n hx hcd dX9_whose_58 rfl (lv_at hl 0 rfl) ?_
              refine lv_iload_n hx hcd dX9_whose_59 rfl (lv_at hl 1 rfl) ?_
              refine lv_iload_n hx hcd dX9_whose_60 rfl (lv_at hl 3 rfl) ?_
              refine cV_i (wc := [BMod G qM st th (cmOf R) ac up li pg le spc pw ld (wr ss) sn tk ss sh dn pp ps (faOf wo lo be) (hbOf hb) tt (sh1 rf) mbt mle mbo mwo mlo mbe mmk mms mwh]) (wr := []) (w1 := fun (_ : Unit) => [BMod G qM st th (cmOf R) ac up li pg le spc pw ld (wr ss) sn tk ss sh dn pp ps (faOf wo lo be) (hbOf hb) tt (sh1 rf) mbt mle mbo mwo mlo mbe mmk mms mwh]) (Bs1 := fun (_ : Unit) => [BMod G qM st th (cmOf R) ac up li pg le spc pw ld (wr ss) sn tk ss sh dn pp ps (faOf wo lo be) (hbOf hb) tt (sh1 rf) mbt mle mbo mwo mlo mbe mmk mms mwh]) (As := [.int (iI c), .int (iI b)]) (rest := [.long (lI ((LK st (R c.toNat) (hb i.toNat) (tt i.toNat)) * (tt b.toNat)))]) (kX9_likeness l D G qM st th R ac up li le pg spc pw ld sn tk ss sh dn pp ps wo lo be hb tt rf mbt mle mbo mwo mlo mbe mmk mms mwh c b (by first | assumption | omega) (by first | assumption | omega) (by first | assumption | omega) (by first | assumption | omega) (by first | assumption | omega) (by first | assumption | omega)) rfl ⟨hx, hcd, hml, hown, hts⟩ (cwV 2 hts gX9_whose_X9_likeness rfl rfl rfl (by decide +kernel) ⟨by decide, by decide⟩) (q0 := 0) (ci := 9) rfl rfl rfl rfl hl.1 (Nat.le_of_ble_eq_true rfl) ⟨Nat.le_of_ble_eq_true rfl, Nat.le_of_ble_eq_true rfl⟩ dX9_whose_61 hK hP hD hS hA (perm_i2 [0] 1 rfl (by decide) rfl) (fun _ => perm_i2 [0] 1 rfl (by decide) rfl) (fun r u H locs hw5 hP hD hS => ?_)
              subst hw5
              have hlb := LK_rng (st := st) (f := R c.toNat) (g := hb b.toNat) (T := tt b.toNat) (htt b.toNat) hst (hhb b.toNat)
              refine wi_i2l hx hcd (by omega) dX9_whose_64 ?_
              refine lv_aload_n hx hcd dX9_whose_65 rfl (lv_at hl 0 rfl) ?_
              refine g_get (C := RX9) (T := TX9) (N := 32) hx hcd hts (fun _ h => List.mem_cons_of_mem _ (List.mem_append_right _ h)) hown hK hP (i := 0) rfl BMod_c0 rfl 21 (by decide) (by decide +kernel) rfl dX9_whose_66 ?_
              refine lv_iload hx hcd dX9_whose_69 (lv_at hl 4 rfl) ?_
              refine g_iald hx hcd hK hP (i := 0) rfl BMod_c11 (by omega) (by decide) dX9_whose_71 ?_
              have f6 := htt i.toNat
              refine wi_i2l hx hcd (by omega) dX9_whose_72 ?_
              refine wi_lmul hx hcd dX9_whose_73 ?_
              refine wi_lcmp hx hcd (pr_rng (by omega) (by omega)) (pr_rng (by omega) (by omega)) dX9_whose_74 ?_
              have hsg := sgc_cases ((LK st (R c.toNat) (hb i.toNat) (tt i.toNat)) * (tt b.toNat)) ((LK st (R c.toNat) (hb b.toNat) (tt b.toNat)) * (tt i.toNat))
              refine wi_if_ge (tgt := 81) hx hcd (by omega) dX9_whose_75 (by decide) (fun c75 => ?_) (fun c75 => ?_)
              ·
                try (have hb8 : b = bst (fun k => LK st (R c.toNat) (hb k) (tt k)) tt (i + 1).toNat := (by rw [bst_s (by omega), ← hb9, if_neg (fun q => by first | omega | (rcases q with ⟨-, q | q⟩; (omega); rcases hsg.2.2 with ⟨z, -⟩ | ⟨-, z⟩; (omega); exact z q))]))
                refine lv_iinc (v := iI (i + 1)) (lv' := [(4, .int (iI (i + 1))), (0, .ref (qM 0)), (1, .int (iI c)), (2, .int (iI (rC th c))), (3, .int (iI b))]) hx hcd dX9_whose_81 hl (k := 4) rfl (iI_add _ _) (by decide) rfl (fun ls hl => ?_)
                refine lv_goto (tgt := 22) hx hcd dX9_whose_84 (by decide) ?_
                exact ih22 b (i + 1) _ _ _ (by omega) (by omega) (by omega) (hb8) hP hD hS (lv_sub hl [1, 2, 3, 4, 0] rfl)
              ·
                have hb8 : i = bst (fun k => LK st (R c.toNat) (hb k) (tt k)) tt (i + 1).toNat := by
                  rw [bst_s (by omega), ← hb9, if_pos]
                  refine ⟨by omega, ?_⟩
                  first
                  | exact Or.inl (by omega)
                  | exact Or.inr (by rcases hsg.2.2 with ⟨-, q⟩ | ⟨q, -⟩; (exact q); exact absurd c75 (by omega))
                refine lv_iload hx hcd dX9_whose_78 (lv_at hl 4 rfl) ?_
                refine lv_istore_n (lv' := [(3, .int (iI i)), (0, .ref (qM 0)), (1, .int (iI c)), (2, .int (iI (rC th c))), (4, .int (iI i))]) hx hcd dX9_whose_80 rfl hl (by decide) rfl (fun ls hl => ?_)
                try (have hb8 : b = bst (fun k => LK st (R c.toNat) (hb k) (tt k)) tt (i + 1).toNat := (by rw [bst_s (by omega), ← hb9, if_neg (fun q => by first | omega | (rcases q with ⟨-, q | q⟩; (omega); rcases hsg.2.2 with ⟨z, -⟩ | ⟨-, z⟩; (omega); exact z q))]))
                refine lv_iinc (v := iI (i + 1)) (lv' := [(4, .int (iI (i + 1))), (3, .int (iI i)), (0, .ref (qM 0)), (1, .int (iI c)), (2, .int (iI (rC th c)))]) hx hcd dX9_whose_81 hl (k := 4) rfl (iI_add _ _) (by decide) rfl (fun ls hl => ?_)
                refine lv_goto (tgt := 22) hx hcd dX9_whose_84 (by decide) ?_
                exact ih22 i (i + 1) _ _ _ (by omega) (by omega) (by omega) (hb8) hP hD hS (lv_sub hl [2, 3, 4, 1, 0] rfl)
    exact L22 (((4 - 0) + 1 : Int)).toNat (-9) 0 _ _ _ (by omega) (by omega) (by omega) (by rfl) hP hD hS (lv_sub hl [3, 4, 2, 1, 0] rfl)
  ·
    refine lv_aload_n hx hcd dX9_whose_10 rfl (lv_at hl 1 rfl) ?_
    refine lv_iload_n hx hcd dX9_whose_11 rfl (lv_at hl 0 rfl) ?_
    refine cV_i (wc := [BMod G qM st th (cmOf R) ac up li pg le spc pw ld (wr ss) sn tk ss sh dn pp ps (faOf wo lo be) (hbOf hb) tt (sh1 rf) mbt mle mbo mwo mlo mbe mmk mms mwh]) (wr := []) (w1 := fun (_ : Unit) => [BMod G qM st th (cmOf R) ac up li pg le spc pw ld (wr ss) sn tk ss sh dn pp ps (faOf wo lo be) (hbOf hb) tt (sh1 (rfu rf (rC th c))) mbt mle mbo mwo mlo mbe mmk mms mwh]) (Bs1 := fun (_ : Unit) => [BMod G qM st th (cmOf R) ac up li pg le spc pw ld (wr ss) sn tk ss sh dn pp ps (faOf wo lo be) (hbOf hb) tt (sh1 (rfu rf (rC th c))) mbt mle mbo mwo mlo mbe mmk mms mwh]) (As := [.int (iI (rC th c))]) (rest := []) (kX9_refuse l D G qM st th R ac up li le pg spc pw ld sn tk ss sh dn pp ps wo lo be hb tt rf mbt mle mbo mwo mlo mbe mmk mms mwh (rC th c) (by first | assumption | omega)) rfl ⟨hx, hcd, hml, hown, hts⟩ (cwV 1 hts gX9_whose_X9_refuse rfl rfl rfl (by decide +kernel) ⟨by decide, by decide⟩) (q0 := 0) (ci := 9) rfl rfl rfl rfl hl.1 (Nat.le_of_ble_eq_true rfl) ⟨Nat.le_of_ble_eq_true rfl, Nat.le_of_ble_eq_true rfl⟩ dX9_whose_12 hK hP hD hS hA (perm_i2 [0] 1 rfl (by decide) rfl) (fun _ => perm_i2 [0] 1 rfl (by decide) rfl) (fun r u H locs hw7 hP hD hS => ?_)
    subst hw7
    have hA_ : (if rC th c = 0 then bst (fun k => LK st (R c.toNat) (hb k) (tt k)) tt 4 else rC th c : Int) = (rC th c) := by first | rfl | ((repeat' split) <;> first | rfl | omega)
    rw [show BMod G qM st th (cmOf R) ac up li pg le spc pw ld (wr ss) sn tk ss sh dn pp ps (faOf wo lo be) (hbOf hb) tt (sh1 (rfu rf (rC th c))) mbt mle mbo mwo mlo mbe mmk mms mwh = BMod G qM st th (cmOf R) ac up li pg le spc pw ld (wr ss) sn tk ss sh dn pp ps (faOf wo lo be) (hbOf hb) tt (sh1 (rfx rf (if rC th c = 0 then bst (fun k => LK st (R c.toNat) (hb k) (tt k)) tt 4 else rC th c))) mbt mle mbo mwo mlo mbe mmk mms mwh from congrArg (fun z_ : Nat → Int => BMod G qM st th (cmOf R) ac up li pg le spc pw ld (wr ss) sn tk ss sh dn pp ps (faOf wo lo be) (hbOf hb) tt z_ mbt mle mbo mwo mlo mbe mmk mms mwh) (show (sh1 (rfu rf (rC th c)) : Nat → Int) = (sh1 (rfx rf (if rC th c = 0 then bst (fun k => LK st (R c.toNat) (hb k) (tt k)) tt 4 else rC th c))) from congrArg sh1 (by rw [hA_]; first | exact (rfx_1 (by omega)).symm | exact (rfx_0 (by omega)).symm))] at hP hD
    exact fin _ () H locs ls 15 dX9_whose_15 hP hD hS (trivial) (congrArg iI hA_.symm)
