abbrev rmX9_turn : Room := { frames := 3, cells := 0, slots := 0, locals := 63 }
set_option maxHeartbeats 4000000 in
set_option maxRecDepth 100000 in
theorem kX9_turn (l : Launch) (D : va_G) (G : Nat → ClassId) (qM : Nat → Nat) (st : Int) (th : Nat → Int) (R : Nat → Nat → Int) (ac : Nat → Int) (up : Nat → Int) (li : Nat → Int) (le : Nat → Int) (pg : Int) (spc : Int) (pw : Int) (ld : Int) (sn : Int) (tk : Int) (ss : Int) (sh : Int) (dn : Int) (pp : Nat → Int) (ps : Nat → Int) (wo : Int) (lo : Int) (be : Int) (hb : Nat → Nat → Int) (tt : Nat → Int) (rf : Nat → Int) (mbt : Nat → Int) (mle : Nat → Int) (mbo : Nat → Int) (mwo : Int) (mlo : Int) (mbe : Int) (mmk : Nat → Int) (mms : Nat → Int) (mwh : Int) (c : Int) (n : Int) (hst : 2 ≤ st ∧ st ≤ 16) (hth : ∀ k, th k = 0 ∨ th k = 1) (hR : ∀ i j, 0 ≤ R i j ∧ R i j ≤ 9) (hac : ∀ k, 0 ≤ ac k ∧ ac k ≤ 11) (hup : ∀ k, 0 ≤ up k ∧ up k ≤ 11) (hli : ∀ k, 0 ≤ li k ∧ li k ≤ 11) (hle : ∀ k, 0 ≤ le k ∧ le k ≤ 9) (hpg : 0 ≤ pg ∧ pg ≤ 12) (hsp : 0 ≤ spc ∧ spc ≤ 9) (hpw : 0 ≤ pw ∧ pw ≤ 1000) (hld : 1 ≤ ld ∧ ld ≤ 20) (hss : 0 ≤ ss ∧ ss < 900000) (hpq : ∀ k, -1 ≤ pp k ∧ pp k ≤ 99 ∧ -1 ≤ ps k ∧ ps k ≤ 99 ∧ (0 ≤ pp k → 0 ≤ ps k)) (hwo : -1 ≤ wo ∧ wo ≤ 11) (hlo : -1 ≤ lo ∧ lo ≤ 11) (hbe : -1 ≤ be ∧ be ≤ 1) (hhb : ∀ i j, 0 ≤ hb i j ∧ hb i j ≤ 1000) (htt : ∀ k, 0 ≤ tt k ∧ tt k ≤ 1000) (hc_ : -2147483648 ≤ c ∧ c < 2147483648) (hn_ : -2147483648 ≤ n ∧ n < 2147483648) : CtI l yX9_turn wsX9_turn rmX9_turn D G [.ref (qM 0), .int (iI c), .int (iI n)] [BMod G qM st th (cmOf R) ac up li pg le spc pw ld (wr ss) sn tk ss sh dn pp ps (faOf wo lo be) (hbOf hb) tt (sh1 rf) mbt mle mbo mwo mlo mbe mmk mms mwh] (fun (r : Int32) (u : (Nat → Int)) => r = iI (if rS th st c n = 0 then 1 else rS th st c n) ∧ True) (fun u => [BMod G qM st th (cmOf (if rS th st c n = 0 then va_up R c.toNat (rot st n (R c.toNat)) else R)) ac up li pg le spc pw ld (wr ss) sn tk ss sh dn pp ps (faOf wo lo be) (hbOf hb) tt (sh1 (rfx rf (if rS th st c n = 0 then 1 else rS th st c n))) u mle mbo mwo mlo mbe mmk mms mwh]) := by
  refine CtI.ofI (cc := cX9_turn) (maxL := 5) (by decide) rfl (Nat.le_of_ble_eq_true rfl) ?_
  intro p0 e0 s0 m0 args bel met cd A0 ls Q0 hx hcd hml hown hts hK hP hD hA hl fin
  have hl : lv_has ls 5 [(0, .ref (qM 0)), (1, .int (iI c)), (2, .int (iI n))] := hl
  have hS : va_S A0 s0.heap s0.heap [] := va_S.rf
  have hH : va_P D vwCl (fl [BMod G qM st th (cmOf R) ac up li pg le spc pw ld (wr ss) sn tk ss sh dn pp ps (faOf wo lo be) (hbOf hb) tt (sh1 rf) mbt mle mbo mwo mlo mbe mmk mms mwh]) s0.heap := hP
  obtain ⟨H, eH⟩ : ∃ H, H = s0.heap := ⟨_, rfl⟩
  obtain ⟨locs, eL⟩ : ∃ locs : List Loc, locs = [] := ⟨_, rfl⟩
  have hS : va_S A0 s0.heap H locs := by rw [eH, eL]; exact hS
  have hP : va_P D vwCl (fl [BMod G qM st th (cmOf R) ac up li pg le spc pw ld (wr ss) sn tk ss sh dn pp ps (faOf wo lo be) (hbOf hb) tt (sh1 rf) mbt mle mbo mwo mlo mbe mmk mms mwh]) H := by rw [eH]; exact hP
  suffices goal : W p0 l e0 rmX9_turn s0 m0 args bel met cd H locs 0 0 Q0 (F0 m0 0 ls []) by rw [eH, eL] at goal; exact goal
  clear eH eL hH
  have hrc := rC_rng th c
  have hrs := rS_rng th st c n
  refine lv_aload_n hx hcd dX9_turn_0 rfl (lv_at hl 0 rfl) ?_
  refine lv_iload_n hx hcd dX9_turn_1 rfl (lv_at hl 1 rfl) ?_
  refine cV_i (wc := [BMod G qM st th (cmOf R) ac up li pg le spc pw ld (wr ss) sn tk ss sh dn pp ps (faOf wo lo be) (hbOf hb) tt (sh1 rf) mbt mle mbo mwo mlo mbe mmk mms mwh]) (wr := []) (w1 := fun (_ : Unit) => [BMod G qM st th (cmOf R) ac up li pg le spc pw ld (wr ss) sn tk ss sh dn pp ps (faOf wo lo be) (hbOf hb) tt (sh1 rf) mbt mle mbo mwo mlo mbe mmk mms mwh]) (Bs1 := fun (_ : Unit) => [BMod G qM st th (cmOf R) ac up li pg le spc pw ld (wr ss) sn tk ss sh dn pp ps (faOf wo lo be) (hbOf hb) tt (sh1 rf) mbt mle mbo mwo mlo mbe mmk mms mwh]) (As := [.int (iI c)]) (rest := []) (kX9_lacks l D G qM st th R ac up li le pg spc pw ld sn tk ss sh dn pp ps wo lo be hb tt rf mbt mle mbo mwo mlo mbe mmk mms mwh c (by first | assumption | omega) (by first | assumption | omega)) rfl ⟨hx, hcd, hml, hown, hts⟩ (cwV 1 hts gX9_turn_X9_lacks rfl rfl rfl (by decide +kernel) ⟨by decide, by decide⟩) (q0 := 0) (ci := 9) rfl rfl rfl rfl hl.1 (Nat.le_of_ble_eq_true rfl) ⟨Nat.le_of_ble_eq_true rfl, Nat.le_of_ble_eq_true rfl⟩ dX9_turn_2 hK hP hD hS hA (perm_i2 [0] 1 rfl (by decide) rfl) (fun _ => perm_i2 [0] 1 rfl (by decide) rfl) (fun r u H locs hw1 hP hD hS => ?_)
  subst hw1
  refine lv_istore_n (lv' := [(3, .int (iI (rC th c))), (0, .ref (qM 0)), (1, .int (iI c)), (2, .int (iI n))]) hx hcd dX9_turn_5 rfl hl (by decide) rfl (fun ls hl => ?_)
  refine lv_iload_n hx hcd dX9_turn_6 rfl (lv_at hl 0 rfl) ?_
  refine wi_if_ge (tgt := 16) hx hcd (by omega) dX9_turn_7 (by decide) (fun c7 => ?_) (fun c7 => ?_)
  ·
    refine lv_iload_n hx hcd dX9_turn_16 rfl (lv_at hl 3 rfl) ?_
    refine wi_iconst hx hcd dX9_turn_17 ?_
    refine lv_aload_n hx hcd dX9_turn_18 rfl (lv_at hl 1 rfl) ?_
    refine g_get (C := RX9) (T := TX9) (N := 32) hx hcd hts (fun _ h => List.mem_cons_of_mem _ (List.mem_append_right _ h)) hown hK hP (i := 0) rfl BMod_c0 rfl 0 (by decide) (by decide +kernel) rfl dX9_turn_19 ?_
    refine wi_iconst hx hcd dX9_turn_22 ?_
    refine wi_isub hx hcd dX9_turn_23 ?_
    refine cS_i (wc := []) (wr := [BMod G qM st th (cmOf R) ac up li pg le spc pw ld (wr ss) sn tk ss sh dn pp ps (faOf wo lo be) (hbOf hb) tt (sh1 rf) mbt mle mbo mwo mlo mbe mmk mms mwh]) (w1 := fun (_ : Unit) => []) (Bs1 := fun (_ : Unit) => [BMod G qM st th (cmOf R) ac up li pg le spc pw ld (wr ss) sn tk ss sh dn pp ps (faOf wo lo be) (hbOf hb) tt (sh1 rf) mbt mle mbo mwo mlo mbe mmk mms mwh]) (As := [.int (iI n), .int (iI 0), .int (iI (st - 1))]) (rest := []) (kX9_in l D G n 0 (st - 1) (by first | assumption | omega) (by first | assumption | omega) (by first | assumption | omega)) rfl ⟨hx, hcd, hml, hown, hts⟩ (va_cwS 3 hts gX9_turn_X9_in rfl rfl rfl (by decide +kernel) ⟨by decide, by decide⟩) rfl hl.1 (Nat.le_of_ble_eq_true rfl) ⟨Nat.le_of_ble_eq_true rfl, Nat.le_of_ble_eq_true rfl⟩ dX9_turn_24 hK hP hD hS hA (perm_i2 [0] 1 rfl (by decide) rfl) (fun _ => perm_i2 [0] 1 rfl (by decide) rfl) (fun r u H locs hw2 hP hD hS => ?_)
    subst hw2
    have hin818 := if01 (0 ≤ n ∧ n ≤ st - 1)
    refine wi_if_ne (tgt := 37) hx hcd (by omega) dX9_turn_27 (by decide) (fun c27 => ?_) (fun c27 => ?_)
    ·
      refine wi_iconst hx hcd dX9_turn_37 ?_
      refine lv_istore (lv' := [(4, .int (iI 0)), (3, .int (iI (rC th c))), (0, .ref (qM 0)), (1, .int (iI c)), (2, .int (iI n))]) hx hcd dX9_turn_38 hl (by decide) rfl (fun ls hl => ?_)
      have L40 : ∀ (fu : Nat) (t : Int) (f : Nat → Int) (H : Heap) (locs : List Loc) (ls : Array Slot), (st - t < (fu : Int)) → (0 ≤ t ∧ t ≤ st) → (∀ u : Nat, u < t.toNat → f (fw st ((u : Int) + n)).toNat = R c.toNat u) → va_P D vwCl (fl [BMod G qM st th (cmOf R) ac up li pg le spc pw ld (wr ss) sn tk ss sh dn pp ps (faOf wo lo be) (hbOf hb) tt (sh1 rf) f mle mbo mwo mlo mbe mmk mms mwh]) H → va_D A0 (fl [BMod G qM st th (cmOf R) ac up li pg le spc pw ld (wr ss) sn tk ss sh dn pp ps (faOf wo lo be) (hbOf hb) tt (sh1 rf) f mle mbo mwo mlo mbe mmk mms mwh]) → va_S A0 s0.heap H locs → lv_has ls 5 [(0, .ref (qM 0)), (1, .int (iI c)), (2, .int (iI n)), (3, .int (iI (rC th c))), (4, .int (iI t))] → W p0 l e0 rmX9_turn s0 m0 args bel met cd H locs 0 0 Q0 (F0 m0 40 ls []) := by
        intro fu
        induction fu with
        | zero =>
          intro t f H locs ls hfu ht hf
          exact absurd hfu (by omega)
        | succ fu ih =>
          intro t f H locs ls hfu ht hf hP hD hS hl
          have ih40 := ih
          clear ih
          refine lv_iload hx hcd dX9_turn_40 (lv_at hl 4 rfl) ?_
          refine lv_aload_n hx hcd dX9_turn_42 rfl (lv_at hl 0 rfl) ?_
          refine g_get (C := RX9) (T := TX9) (N := 32) hx hcd hts (fun _ h => List.mem_cons_of_mem _ (List.mem_append_right _ h)) hown hK hP (i := 0) rfl BMod_c0 rfl 0 (by decide) (by decide +kernel) rfl dX9_turn_43 ?_
          refine wi_icmp_ge (tgt := 81) hx hcd (by omega) (by omega) dX9_turn_46 (by decide) (fun c46 => ?_) (fun c46 => ?_)
          ·
            refine wi_iconst hx hcd dX9_turn_81 ?_
            refine lv_istore (lv' := [(4, .int (iI 0)), (0, .ref (qM 0)), (1, .int (iI c)), (2, .int (iI n)), (3, .int (iI (rC th c)))]) hx hcd dX9_turn_82 hl (by decide) rfl (fun ls hl => ?_)
            have L84 : ∀ (fu : Nat) (t2 : Int) (Rv : Nat → Nat → Int) (H : Heap) (locs : List Loc) (ls : Array Slot), (st - t2 < (fu : Int)) → (0 ≤ t2 ∧ t2 ≤ st) → (Rv = va_up R c.toNat (mixF f (R c.toNat) t2.toNat)) → va_P D vwCl (fl [BMod G qM st th (cmOf Rv) ac up li pg le spc pw ld (wr ss) sn tk ss sh dn pp ps (faOf wo lo be) (hbOf hb) tt (sh1 rf) f mle mbo mwo mlo mbe mmk mms mwh]) H → va_D A0 (fl [BMod G qM st th (cmOf Rv) ac up li pg le spc pw ld (wr ss) sn tk ss sh dn pp ps (faOf wo lo be) (hbOf hb) tt (sh1 rf) f mle mbo mwo mlo mbe mmk mms mwh]) → va_S A0 s0.heap H locs → lv_has ls 5 [(0, .ref (qM 0)), (1, .int (iI c)), (2, .int (iI n)), (3, .int (iI (rC th c))), (4, .int (iI t2))] → W p0 l e0 rmX9_turn s0 m0 args bel met cd H locs 0 0 Q0 (F0 m0 84 ls []) := by
              intro fu
              induction fu with
              | zero =>
                intro t2 Rv H locs ls hfu ht2 hv
                exact absurd hfu (by omega)
              | succ fu ih =>
                intro t2 Rv H locs ls hfu ht2 hv hP hD hS hl
                have ih84 := ih
                clear ih
                refine lv_iload hx hcd dX9_turn_84 (lv_at hl 4 rfl) ?_
                refine lv_aload_n hx hcd dX9_turn_86 rfl (lv_at hl 0 rfl) ?_
                refine g_get (C := RX9) (T := TX9) (N := 32) hx hcd hts (fun _ h => List.mem_cons_of_mem _ (List.mem_append_right _ h)) hown hK hP (i := 0) rfl BMod_c0 rfl 0 (by decide) (by decide +kernel) rfl dX9_turn_87 ?_
                refine wi_icmp_ge (tgt := 118) hx hcd (by omega) (by omega) dX9_turn_90 (by decide) (fun c90 => ?_) (fun c90 => ?_)
                ·
                  refine wi_iconst hx hcd dX9_turn_118 ?_
                  have hA_ : (if rS th st c n = 0 then 1 else rS th st c n : Int) = 1 := by first | rfl | ((repeat' split) <;> first | rfl | omega)
                  rw [show BMod G qM st th (cmOf Rv) ac up li pg le spc pw ld (wr ss) sn tk ss sh dn pp ps (faOf wo lo be) (hbOf hb) tt (sh1 rf) f mle mbo mwo mlo mbe mmk mms mwh = BMod G qM st th (cmOf (if rS th st c n = 0 then va_up R c.toNat (rot st n (R c.toNat)) else R)) ac up li pg le spc pw ld (wr ss) sn tk ss sh dn pp ps (faOf wo lo be) (hbOf hb) tt (sh1 rf) f mle mbo mwo mlo mbe mmk mms mwh from congrArg (fun z_ : Nat → Int => BMod G qM st th z_ ac up li pg le spc pw ld (wr ss) sn tk ss sh dn pp ps (faOf wo lo be) (hbOf hb) tt (sh1 rf) f mle mbo mwo mlo mbe mmk mms mwh) (show (cmOf Rv : Nat → Int) = (cmOf (if rS th st c n = 0 then va_up R c.toNat (rot st n (R c.toNat)) else R)) from by rw [hv, show t2 = st by omega, mix_rot (by omega) (by omega) (fun u hu => hf u (by omega))]; exact congrArg cmOf (if_pos (by omega)).symm)] at hP hD
                  rw [show BMod G qM st th (cmOf (if rS th st c n = 0 then va_up R c.toNat (rot st n (R c.toNat)) else R)) ac up li pg le spc pw ld (wr ss) sn tk ss sh dn pp ps (faOf wo lo be) (hbOf hb) tt (sh1 rf) f mle mbo mwo mlo mbe mmk mms mwh = BMod G qM st th (cmOf (if rS th st c n = 0 then va_up R c.toNat (rot st n (R c.toNat)) else R)) ac up li pg le spc pw ld (wr ss) sn tk ss sh dn pp ps (faOf wo lo be) (hbOf hb) tt (sh1 (rfx rf (if rS th st c n = 0 then 1 else rS th st c n))) f mle mbo mwo mlo mbe mmk mms mwh from congrArg (fun z_ : Nat → Int => BMod G qM st th (cmOf (if rS th st c n = 0 then va_up R c.toNat (rot st n (R c.toNat)) else R)) ac up li pg le spc pw ld (wr ss) sn tk ss sh dn pp ps (faOf wo lo be) (hbOf hb) tt z_ f mle mbo mwo mlo mbe mmk mms mwh) (show (sh1 rf : Nat → Int) = (sh1 (rfx rf (if rS th st c n = 0 then 1 else rS th st c n))) from congrArg sh1 (by rw [hA_]; first | exact (rfx_1 (by omega)).symm | exact (rfx_0 (by omega)).symm))] at hP hD
                  exact fin _ f H locs ls 119 dX9_turn_119 hP hD hS (trivial) (⟨congrArg iI hA_.symm, trivial⟩)
                ·
                  refine lv_aload_n hx hcd dX9_turn_93 rfl (lv_at hl 0 rfl) ?_
                  refine g_get (C := RX9) (T := TX9) (N := 32) hx hcd hts (fun _ h => List.mem_cons_of_mem _ (List.mem_append_right _ h)) hown hK hP (i := 0) rfl BMod_c0 rfl 2 (by decide) (by decide +kernel) rfl dX9_turn_94 ?_
                  refine wi_bipush hx hcd dX9_turn_97 (by decide) ?_
                  refine lv_iload_n hx hcd dX9_turn_99 rfl (lv_at hl 1 rfl) ?_
                  refine wi_imul hx hcd dX9_turn_100 ?_
                  refine lv_iload hx hcd dX9_turn_101 (lv_at hl 4 rfl) ?_
                  refine wi_iadd hx hcd dX9_turn_103 ?_
                  refine lv_aload_n hx hcd dX9_turn_104 rfl (lv_at hl 0 rfl) ?_
                  refine g_get (C := RX9) (T := TX9) (N := 32) hx hcd hts (fun _ h => List.mem_cons_of_mem _ (List.mem_append_right _ h)) hown hK hP (i := 0) rfl BMod_c0 rfl 23 (by decide) (by decide +kernel) rfl dX9_turn_105 ?_
                  refine lv_iload hx hcd dX9_turn_108 (lv_at hl 4 rfl) ?_
                  refine g_iald hx hcd hK hP (i := 0) rfl BMod_c13 (by omega) (by decide) dX9_turn_110 ?_
                  refine g_iast hx hcd hK hP hD hS (i := 0) rfl BMod_c2 (by omega) (by decide) (B1 := BMod G qM st th (va_up (cmOf Rv) (((16 * c) + t2).toNat) (f t2.toNat)) ac up li pg le spc pw ld (wr ss) sn tk ss sh dn pp ps (faOf wo lo be) (hbOf hb) tt (sh1 rf) f mle mbo mwo mlo mbe mmk mms mwh) rfl (Bs1 := [BMod G qM st th (va_up (cmOf Rv) (((16 * c) + t2).toNat) (f t2.toNat)) ac up li pg le spc pw ld (wr ss) sn tk ss sh dn pp ps (faOf wo lo be) (hbOf hb) tt (sh1 rf) f mle mbo mwo mlo mbe mmk mms mwh]) rfl dX9_turn_111 (fun H locs hP hD hS => ?_)
                  rw [show BMod G qM st th (va_up (cmOf Rv) (((16 * c) + t2).toNat) (f t2.toNat)) ac up li pg le spc pw ld (wr ss) sn tk ss sh dn pp ps (faOf wo lo be) (hbOf hb) tt (sh1 rf) f mle mbo mwo mlo mbe mmk mms mwh = BMod G qM st th (cmOf (va_up Rv c.toNat (va_up (Rv c.toNat) t2.toNat (f t2.toNat)))) ac up li pg le spc pw ld (wr ss) sn tk ss sh dn pp ps (faOf wo lo be) (hbOf hb) tt (sh1 rf) f mle mbo mwo mlo mbe mmk mms mwh from congrArg (fun z_ : Nat → Int => BMod G qM st th z_ ac up li pg le spc pw ld (wr ss) sn tk ss sh dn pp ps (faOf wo lo be) (hbOf hb) tt (sh1 rf) f mle mbo mwo mlo mbe mmk mms mwh) (cm_up (c := c) (t := t2) (by omega) (by omega))] at hP hD
                  refine lv_iinc (v := iI (t2 + 1)) (lv' := [(4, .int (iI (t2 + 1))), (0, .ref (qM 0)), (1, .int (iI c)), (2, .int (iI n)), (3, .int (iI (rC th c)))]) hx hcd dX9_turn_112 hl (k := 4) rfl (iI_add _ _) (by decide) rfl (fun ls hl => ?_)
                  refine lv_goto (tgt := 84) hx hcd dX9_turn_115 (by decide) ?_
                  exact ih84 (t2 + 1) (va_up Rv c.toNat (va_up (Rv c.toNat) t2.toNat (f t2.toNat))) _ _ _ (by omega) (by omega) (by rw [hv, up_up, va_up_self, mix_s, show (t2 + 1).toNat = t2.toNat + 1 by omega]) hP hD hS (lv_sub hl [1, 2, 3, 4, 0] rfl)
            exact L84 (((st - 0) + 1 : Int)).toNat 0 R _ _ _ (by omega) (by omega) (by rw [show (0 : Int).toNat = 0 from rfl, mix_0, up_id]) hP hD hS (lv_sub hl [1, 2, 3, 4, 0] rfl)
          ·
            refine lv_aload_n hx hcd dX9_turn_49 rfl (lv_at hl 0 rfl) ?_
            refine g_get (C := RX9) (T := TX9) (N := 32) hx hcd hts (fun _ h => List.mem_cons_of_mem _ (List.mem_append_right _ h)) hown hK hP (i := 0) rfl BMod_c0 rfl 23 (by decide) (by decide +kernel) rfl dX9_turn_50 ?_
            refine lv_iload hx hcd dX9_turn_53 (lv_at hl 4 rfl) ?_
            refine lv_iload_n hx hcd dX9_turn_55 rfl (lv_at hl 2 rfl) ?_
            refine wi_iadd hx hcd dX9_turn_56 ?_
            refine lv_aload_n hx hcd dX9_turn_57 rfl (lv_at hl 0 rfl) ?_
            refine g_get (C := RX9) (T := TX9) (N := 32) hx hcd hts (fun _ h => List.mem_cons_of_mem _ (List.mem_append_right _ h)) hown hK hP (i := 0) rfl BMod_c0 rfl 0 (by decide) (by decide +kernel) rfl dX9_turn_58 ?_
            refine wi_irem hx hcd (by omega) (by omega) dX9_turn_61 ?_
            have f3 := fw_rng (st := st) (x := t + n) (by omega)
            rw [show ((t + n) % st : Int) = fw st (t + n) from fw_mod (by omega)]
            refine lv_aload_n hx hcd dX9_turn_62 rfl (lv_at hl 0 rfl) ?_
            refine g_get (C := RX9) (T := TX9) (N := 32) hx hcd hts (fun _ h => List.mem_cons_of_mem _ (List.mem_append_right _ h)) hown hK hP (i := 0) rfl BMod_c0 rfl 2 (by decide) (by decide +kernel) rfl dX9_turn_63 ?_
            refine wi_bipush hx hcd dX9_turn_66 (by decide) ?_
            refine lv_iload_n hx hcd dX9_turn_68 rfl (lv_at hl 1 rfl) ?_
            refine wi_imul hx hcd dX9_turn_69 ?_
            refine lv_iload hx hcd dX9_turn_70 (lv_at hl 4 rfl) ?_
            refine wi_iadd hx hcd dX9_turn_72 ?_
            refine g_iald hx hcd hK hP (i := 0) rfl BMod_c2 (by omega) (by decide) dX9_turn_73 ?_
            rw [show ((cmOf R) (((16 * c) + t).toNat) : Int) = R c.toNat t.toNat from cm_at (c := c) (t := t) (by omega) (by omega)]
            have f4 := hR c.toNat t.toNat
            refine g_iast hx hcd hK hP hD hS (i := 0) rfl BMod_c13 (by omega) (by decide) (B1 := BMod G qM st th (cmOf R) ac up li pg le spc pw ld (wr ss) sn tk ss sh dn pp ps (faOf wo lo be) (hbOf hb) tt (sh1 rf) (va_up f ((fw st (t + n)).toNat) (R c.toNat t.toNat)) mle mbo mwo mlo mbe mmk mms mwh) rfl (Bs1 := [BMod G qM st th (cmOf R) ac up li pg le spc pw ld (wr ss) sn tk ss sh dn pp ps (faOf wo lo be) (hbOf hb) tt (sh1 rf) (va_up f ((fw st (t + n)).toNat) (R c.toNat t.toNat)) mle mbo mwo mlo mbe mmk mms mwh]) rfl dX9_turn_74 (fun H locs hP hD hS => ?_)
            refine lv_iinc (v := iI (t + 1)) (lv' := [(4, .int (iI (t + 1))), (0, .ref (qM 0)), (1, .int (iI c)), (2, .int (iI n)), (3, .int (iI (rC th c)))]) hx hcd dX9_turn_75 hl (k := 4) rfl (iI_add _ _) (by decide) rfl (fun ls hl => ?_)
            refine lv_goto (tgt := 40) hx hcd dX9_turn_78 (by decide) ?_
            exact ih40 (t + 1) (va_up f ((fw st (t + n)).toNat) (R c.toNat t.toNat)) _ _ _ (by omega) (by omega) (fun u h => by
            have r1 := fw_rng (st := st) (x := (u : Int) + n) (by omega)
            by_cases e : u = t.toNat
            · rw [e, show ((t.toNat : Nat) : Int) = t by omega, va_up_self]
            · rw [va_up_ne]
              · exact hf u (by omega)
              · intro q; apply e; unfold fw at q r1; revert q; (repeat' split) <;> omega) hP hD hS (lv_sub hl [1, 2, 3, 4, 0] rfl)
      exact L40 (((st - 0) + 1 : Int)).toNat 0 mbt _ _ _ (by omega) (by omega) (fun u h => absurd h (by omega)) hP hD hS (lv_sub hl [2, 3, 4, 1, 0] rfl)
    ·
      refine lv_aload_n hx hcd dX9_turn_30 rfl (lv_at hl 1 rfl) ?_
      refine wi_bipush hx hcd dX9_turn_31 (by decide) ?_
      refine cV_i (wc := [BMod G qM st th (cmOf R) ac up li pg le spc pw ld (wr ss) sn tk ss sh dn pp ps (faOf wo lo be) (hbOf hb) tt (sh1 rf) mbt mle mbo mwo mlo mbe mmk mms mwh]) (wr := []) (w1 := fun (_ : Unit) => [BMod G qM st th (cmOf R) ac up li pg le spc pw ld (wr ss) sn tk ss sh dn pp ps (faOf wo lo be) (hbOf hb) tt (sh1 (rfu rf (-7))) mbt mle mbo mwo mlo mbe mmk mms mwh]) (Bs1 := fun (_ : Unit) => [BMod G qM st th (cmOf R) ac up li pg le spc pw ld (wr ss) sn tk ss sh dn pp ps (faOf wo lo be) (hbOf hb) tt (sh1 (rfu rf (-7))) mbt mle mbo mwo mlo mbe mmk mms mwh]) (As := [.int (iI (-7))]) (rest := []) (kX9_refuse l D G qM st th R ac up li le pg spc pw ld sn tk ss sh dn pp ps wo lo be hb tt rf mbt mle mbo mwo mlo mbe mmk mms mwh (-7) (by first | assumption | omega)) rfl ⟨hx, hcd, hml, hown, hts⟩ (cwV 1 hts gX9_turn_X9_refuse rfl rfl rfl (by decide +kernel) ⟨by decide, by decide⟩) (q0 := 0) (ci := 9) rfl rfl rfl rfl hl.1 (Nat.le_of_ble_eq_true rfl) ⟨Nat.le_of_ble_eq_true rfl, Nat.le_of_ble_eq_true rfl⟩ dX9_turn_33 hK hP hD hS hA (perm_i2 [0] 1 rfl (by decide) rfl) (fun _ => perm_i2 [0] 1 rfl (by decide) rfl) (fun r u H locs hw5 hP hD hS => ?_)
      subst hw5
      have hA_ : (if rS th st c n = 0 then 1 else rS th st c n : Int) = (-7) := by first | rfl | ((repeat' split) <;> first | rfl | omega)
      rw [show BMod G qM st th (cmOf R) ac up li pg le spc pw ld (wr ss) sn tk ss sh dn pp ps (faOf wo lo be) (hbOf hb) tt (sh1 (rfu rf (-7))) mbt mle mbo mwo mlo mbe mmk mms mwh = BMod G qM st th (cmOf (if rS th st c n = 0 then va_up R c.toNat (rot st n (R c.toNat)) else R)) ac up li pg le spc pw ld (wr ss) sn tk ss sh dn pp ps (faOf wo lo be) (hbOf hb) tt (sh1 (rfu rf (-7))) mbt mle mbo mwo mlo mbe mmk mms mwh from congrArg (fun z_ : Nat → Int => BMod G qM st th z_ ac up li pg le spc pw ld (wr ss) sn tk ss sh dn pp ps (faOf wo lo be) (hbOf hb) tt (sh1 (rfu rf (-7))) mbt mle mbo mwo mlo mbe mmk mms mwh) (show (cmOf R : Nat → Int) = (cmOf (if rS th st c n = 0 then va_up R c.toNat (rot st n (R c.toNat)) else R)) from by first | rfl | exact congrArg cmOf (if_pos (by omega)).symm | exact congrArg cmOf (if_neg (by omega)).symm)] at hP hD
      rw [show BMod G qM st th (cmOf (if rS th st c n = 0 then va_up R c.toNat (rot st n (R c.toNat)) else R)) ac up li pg le spc pw ld (wr ss) sn tk ss sh dn pp ps (faOf wo lo be) (hbOf hb) tt (sh1 (rfu rf (-7))) mbt mle mbo mwo mlo mbe mmk mms mwh = BMod G qM st th (cmOf (if rS th st c n = 0 then va_up R c.toNat (rot st n (R c.toNat)) else R)) ac up li pg le spc pw ld (wr ss) sn tk ss sh dn pp ps (faOf wo lo be) (hbOf hb) tt (sh1 (rfx rf (if rS th st c n = 0 then 1 else rS th st c n))) mbt mle mbo mwo mlo mbe mmk mms mwh from congrArg (fun z_ : Nat → Int => BMod G qM st th (cmOf (if rS th st c n = 0 then va_up R c.toNat (rot st n (R c.toNat)) else R)) ac up li pg le spc pw ld (wr ss) sn tk ss sh dn pp ps (faOf wo lo be) (hbOf hb) tt z_ mbt mle mbo mwo mlo mbe mmk mms mwh) (show (sh1 (rfu rf (-7)) : Nat → Int) = (sh1 (rfx rf (if rS th st c n = 0 then 1 else rS th st c n))) from congrArg sh1 (by rw [hA_]; first | exact (rfx_1 (by omega)).symm | exact (rfx_0 (by omega)).symm))] at hP hD
      exact fin _ mbt H locs ls 36 dX9_turn_36 hP hD hS (trivial) (⟨congrArg iI hA_.symm, trivial⟩)
  ·
    refine lv_aload_n hx hcd dX9_turn_10 rfl (lv_at hl 1 rfl) ?_
    refine lv_iload_n hx hcd dX9_turn_11 rfl (lv_at hl 0 rfl) ?_
    refine cV_i (wc := [BMod G qM st th (cmOf R) ac up li pg le spc pw ld (wr ss) sn tk ss sh dn pp ps (faOf wo lo be) (hbOf hb) tt (sh1 rf) mbt mle mbo mwo mlo mbe mmk mms mwh]) (wr := []) (w1 := fun (_ : Unit) => [BMod G qM st th (cmOf R) ac up li pg le spc pw ld (wr ss) sn tk ss sh dn pp ps (faOf wo lo be) (hbOf hb) tt (sh1 (rfu rf (rC th c))) mbt mle mbo mwo mlo mbe mmk mms mwh]) (Bs1 := fun (_ : Unit) => [BMod G qM st th (cmOf R) ac up li pg le spc pw ld (wr ss) sn tk ss sh dn pp ps (faOf wo lo be) (hbOf hb) tt (sh1 (rfu rf (rC th c))) mbt mle mbo mwo mlo mbe mmk mms mwh]) (As := [.int (iI (rC th c))]) (rest := []) (kX9_refuse l D G qM st th R ac up li le pg spc pw ld sn tk ss sh dn pp ps wo lo be hb tt rf mbt mle mbo mwo mlo mbe mmk mms mwh (rC th c) (by first | assumption | omega)) rfl ⟨hx, hcd, hml, hown, hts⟩ (cwV 1 hts gX9_turn_X9_refuse rfl rfl rfl (by decide +kernel) ⟨by decide, by decide⟩) (q0 := 0) (ci := 9) rfl rfl rfl rfl hl.1 (Nat.le_of_ble_eq_true rfl) ⟨Nat.le_of_ble_eq_true rfl, Nat.le_of_ble_eq_true rfl⟩ dX9_turn_12 hK hP hD hS hA (perm_i2 [0] 1 rfl (by decide) rfl) (fun _ => perm_i2 [0] 1 rfl (by decide) rfl) (fun r u H locs hw6 hP hD hS => ?_)
    subst hw6
    have hA_ : (if rS th st c n = 0 then 1 else rS th st c n : Int) = (rC th c) := by first | rfl | ((repeat' split) <;> first | rfl | omega)
    rw [show BMod G qM st th (cmOf R) ac up li pg le spc pw ld (wr ss) sn tk ss sh dn pp ps (faOf wo lo be) (hbOf hb) tt (sh1 (rfu rf (rC th c))) mbt mle mbo mwo mlo mbe mmk mms mwh = BMod G qM st th (cmOf (if rS th st c n = 0 then va_up R c.toNat (rot st n (R c.toNat)) else R)) ac up li pg le spc pw ld (wr ss) sn tk ss sh dn pp ps (faOf wo lo be) (hbOf hb) tt (sh1 (rfu rf (rC th c))) mbt mle mbo mwo mlo mbe mmk mms mwh from congrArg (fun z_ : Nat → Int => BMod G qM st th z_ ac up li pg le spc pw ld (wr ss) sn tk ss sh dn pp ps (faOf wo lo be) (hbOf hb) tt (sh1 (rfu rf (rC th c))) mbt mle mbo mwo mlo mbe mmk mms mwh) (show (cmOf R : Nat → Int) = (cmOf (if rS th st c n = 0 then va_up R c.toNat (rot st n (R c.toNat)) else R)) from by first | rfl | exact congrArg cmOf (if_pos (by omega)).symm | exact congrArg cmOf (if_neg (by omega)).symm)] at hP hD
    rw [show BMod G qM st th (cmOf (if rS th st c n = 0 then va_up R c.toNat (rot st n (R c.toNat)) else R)) ac up li pg le spc pw ld (wr ss) sn tk ss sh dn pp ps (faOf wo lo be) (hbOf hb) tt (sh1 (rfu rf (rC th c))) mbt mle mbo mwo mlo mbe mmk mms mwh = BMod G qM st th (cmOf (if rS th st c n = 0 then va_up R c.toNat (rot st n (R c.toNat)) else R)) ac up li pg le spc pw ld (wr ss) sn tk ss sh dn pp ps (faOf wo lo be) (hbOf hb) tt (sh1 (rfx rf (if rS th st c n = 0 then 1 else rS th st c n))) mbt mle mbo mwo mlo mbe mmk mms mwh from congrArg (fun z_ : Nat → Int => BMod G qM st th (cmOf (if rS th st c n = 0 then va_up R c.toNat (rot st n (R c.toNat)) else R)) ac up li pg le spc pw ld (wr ss) sn tk ss sh dn pp ps (faOf wo lo be) (hbOf hb) tt z_ mbt mle mbo mwo mlo mbe mmk mms mwh) (show (sh1 (rfu rf (rC th c)) : Nat → Int) = (sh1 (rfx rf (if rS th st c n = 0 then 1 else rS th st c n))) from congrArg sh1 (by rw [hA_]; first | exact (rfx_1 (by omega)).symm | exact (rfx_0 (by omega)).symm))] at hP hD
    exact fin _ mbt H locs ls 15 dX9_turn_15 hP hD hS (trivial) (⟨congrArg iI hA_.symm, trivial⟩)
