abbrev rmX9_count : Room := { frames := 1, cells := 0, slots := 0, locals := 22 }
set_option maxHeartbeats 4000000 in
set_option maxRecDepth 100000 in
theorem kX9_count (l : Launch) (D : va_G) (G : Nat → ClassId) (qM : Nat → Nat) (st : Int) (th : Nat → Int) (R : Nat → Nat → Int) (ac : Nat → Int) (up : Nat → Int) (li : Nat → Int) (le : Nat → Int) (pg : Int) (spc : Int) (pw : Int) (ld : Int) (sn : Int) (tk : Int) (ss : Int) (sh : Int) (dn : Int) (pp : Nat → Int) (ps : Nat → Int) (wo : Int) (lo : Int) (be : Int) (hb : Nat → Nat → Int) (tt : Nat → Int) (rf : Nat → Int) (mbt : Nat → Int) (mle : Nat → Int) (mbo : Nat → Int) (mwo : Int) (mlo : Int) (mbe : Int) (mmk : Nat → Int) (mms : Nat → Int) (mwh : Int) (w : Int) (hst : 2 ≤ st ∧ st ≤ 16) (hth : ∀ k, th k = 0 ∨ th k = 1) (hR : ∀ i j, 0 ≤ R i j ∧ R i j ≤ 9) (hac : ∀ k, 0 ≤ ac k ∧ ac k ≤ 11) (hup : ∀ k, 0 ≤ up k ∧ up k ≤ 11) (hli : ∀ k, 0 ≤ li k ∧ li k ≤ 11) (hle : ∀ k, 0 ≤ le k ∧ le k ≤ 9) (hpg : 0 ≤ pg ∧ pg ≤ 12) (hsp : 0 ≤ spc ∧ spc ≤ 9) (hpw : 0 ≤ pw ∧ pw ≤ 1000) (hld : 1 ≤ ld ∧ ld ≤ 20) (hss : 0 ≤ ss ∧ ss < 900000) (hpq : ∀ k, -1 ≤ pp k ∧ pp k ≤ 99 ∧ -1 ≤ ps k ∧ ps k ≤ 99 ∧ (0 ≤ pp k → 0 ≤ ps k)) (hwo : -1 ≤ wo ∧ wo ≤ 11) (hlo : -1 ≤ lo ∧ lo ≤ 11) (hbe : -1 ≤ be ∧ be ≤ 1) (hhb : ∀ i j, 0 ≤ hb i j ∧ hb i j ≤ 1000) (htt : ∀ k, 0 ≤ tt k ∧ tt k ≤ 1000) (hw_ : -2147483648 ≤ w ∧ w < 2147483648) : CtI l yX9_count wsX9_count rmX9_count D G [.ref (qM 0), .int (iI w)] [BMod G qM st th (cmOf R) ac up li pg le spc pw ld (wr ss) sn tk ss sh dn pp ps (faOf wo lo be) (hbOf hb) tt (sh1 rf) mbt mle mbo mwo mlo mbe mmk mms mwh] (fun (r : Int32) (_ : Unit) => r = iI (if w = 0 then st else if w = 1 then cnt th 12 else if w = 2 then pg else if w = 3 then pw else if w = 4 then wr ss else if w = 5 then sn else if w = 6 then tk else if w = 7 then ss else if w = 8 then sh else if w = 9 then dn else if w = 10 then (if wo = -1 then 0 else 1) + (if lo = -1 then 0 else 1) + (if be = -1 then 0 else 1) else if 11 ≤ w ∧ w ≤ 17 then rf (w - 11).toNat else -9)) (fun _ => [BMod G qM st th (cmOf R) ac up li pg le spc pw ld (wr ss) sn tk ss sh dn pp ps (faOf wo lo be) (hbOf hb) tt (sh1 rf) mbt mle mbo mwo mlo mbe mmk mms mwh]) := by
  refine CtI.ofI (cc := cX9_count) (maxL := 4) (by decide) rfl (Nat.le_of_ble_eq_true rfl) ?_
  intro p0 e0 s0 m0 args bel met cd A0 ls Q0 hx hcd hml hown hts hK hP hD hA hl fin
  have hl : lv_has ls 4 [(0, .ref (qM 0)), (1, .int (iI w))] := hl
  have hS : va_S A0 s0.heap s0.heap [] := va_S.rf
  have hH : va_P D vwCl (fl [BMod G qM st th (cmOf R) ac up li pg le spc pw ld (wr ss) sn tk ss sh dn pp ps (faOf wo lo be) (hbOf hb) tt (sh1 rf) mbt mle mbo mwo mlo mbe mmk mms mwh]) s0.heap := hP
  obtain ⟨H, eH⟩ : ∃ H, H = s0.heap := ⟨_, rfl⟩
  obtain ⟨locs, eL⟩ : ∃ locs : List Loc, locs = [] := ⟨_, rfl⟩
  have hS : va_S A0 s0.heap H locs := by rw [eH, eL]; exact hS
  have hP : va_P D vwCl (fl [BMod G qM st th (cmOf R) ac up li pg le spc pw ld (wr ss) sn tk ss sh dn pp ps (faOf wo lo be) (hbOf hb) tt (sh1 rf) mbt mle mbo mwo mlo mbe mmk mms mwh]) H := by rw [eH]; exact hP
  suffices goal : W p0 l e0 rmX9_count s0 m0 args bel met cd H locs 0 0 Q0 (F0 m0 0 ls []) by rw [eH, eL] at goal; exact goal
  clear eH eL hH
  refine wi_iconst hx hcd dX9_count_0 ?_
  refine lv_istore_n (lv' := [(2, .int (iI 0)), (0, .ref (qM 0)), (1, .int (iI w))]) hx hcd dX9_count_1 rfl hl (by decide) rfl (fun ls hl => ?_)
  refine lv_iload_n hx hcd dX9_count_2 rfl (lv_at hl 2 rfl) ?_
  by_cases s3_0 : w = 0
  · refine wi_tableIn (off := 57) (tgt := 60) hx hcd dX9_count_3 (by omega) (by omega) (by rw [s3_0]; rfl) (by decide) ?_
    refine lv_aload_n hx hcd dX9_count_60 rfl (lv_at hl 1 rfl) ?_
    refine g_get (C := RX9) (T := TX9) (N := 32) hx hcd hts (fun _ h => List.mem_cons_of_mem _ (List.mem_append_right _ h)) hown hK hP (i := 0) rfl BMod_c0 rfl 0 (by decide) (by decide +kernel) rfl dX9_count_61 ?_
    have hA_ : (if w = 0 then st else if w = 1 then cnt th 12 else if w = 2 then pg else if w = 3 then pw else if w = 4 then wr ss else if w = 5 then sn else if w = 6 then tk else if w = 7 then ss else if w = 8 then sh else if w = 9 then dn else if w = 10 then (if wo = -1 then 0 else 1) + (if lo = -1 then 0 else 1) + (if be = -1 then 0 else 1) else if 11 ≤ w ∧ w ≤ 17 then rf (w - 11).toNat else -9 : Int) = st := (if_pos (by omega))
    exact fin _ () H locs ls 64 dX9_count_64 hP hD hS (trivial) (congrArg iI hA_.symm)
  by_cases s3_1 : w = 1
  · refine wi_tableIn (off := 62) (tgt := 65) hx hcd dX9_count_3 (by omega) (by omega) (by rw [s3_1]; rfl) (by decide) ?_
    refine wi_iconst hx hcd dX9_count_65 ?_
    refine lv_istore_n (lv' := [(3, .int (iI 0)), (2, .int (iI 0)), (0, .ref (qM 0)), (1, .int (iI w))]) hx hcd dX9_count_66 rfl hl (by decide) rfl (fun ls hl => ?_)
    have L67 : ∀ (fu : Nat) (m : Int) (i : Int) (H : Heap) (locs : List Loc) (ls : Array Slot), (12 - i < (fu : Int)) → (0 ≤ i ∧ i ≤ 12) → (m = cnt th i.toNat) → va_P D vwCl (fl [BMod G qM st th (cmOf R) ac up li pg le spc pw ld (wr ss) sn tk ss sh dn pp ps (faOf wo lo be) (hbOf hb) tt (sh1 rf) mbt mle mbo mwo mlo mbe mmk mms mwh]) H → va_D A0 (fl [BMod G qM st th (cmOf R) ac up li pg le spc pw ld (wr ss) sn tk ss sh dn pp ps (faOf wo lo be) (hbOf hb) tt (sh1 rf) mbt mle mbo mwo mlo mbe mmk mms mwh]) → va_S A0 s0.heap H locs → lv_has ls 4 [(0, .ref (qM 0)), (1, .int (iI w)), (2, .int (iI m)), (3, .int (iI i))] → W p0 l e0 rmX9_count s0 m0 args bel met cd H locs 0 0 Q0 (F0 m0 67 ls []) := by
      intro fu
      induction fu with
      | zero =>
        intro m i H locs ls hfu hi hm
        exact absurd hfu (by omega)
      | succ fu ih =>
        intro m i H locs ls hfu hi hm hP hD hS hl
        have ih67 := ih
        clear ih
        refine lv_iload_n hx hcd dX9_count_67 rfl (lv_at hl 3 rfl) ?_
        refine wi_bipush hx hcd dX9_count_68 (by decide) ?_
        refine wi_icmp_ge (tgt := 96) hx hcd (by omega) (by omega) dX9_count_70 (by decide) (fun c70 => ?_) (fun c70 => ?_)
        ·
          refine lv_iload_n hx hcd dX9_count_96 rfl (lv_at hl 2 rfl) ?_
          have hA_ : (if w = 0 then st else if w = 1 then cnt th 12 else if w = 2 then pg else if w = 3 then pw else if w = 4 then wr ss else if w = 5 then sn else if w = 6 then tk else if w = 7 then ss else if w = 8 then sh else if w = 9 then dn else if w = 10 then (if wo = -1 then 0 else 1) + (if lo = -1 then 0 else 1) + (if be = -1 then 0 else 1) else if 11 ≤ w ∧ w ≤ 17 then rf (w - 11).toNat else -9 : Int) = m := ((if_neg (by omega)).trans ((if_pos (by omega)).trans (by rw [hm, show i = 12 by omega]; rfl)))
          exact fin _ () H locs ls 97 dX9_count_97 hP hD hS (trivial) (congrArg iI hA_.symm)
        ·
          refine lv_iload_n hx hcd dX9_count_73 rfl (lv_at hl 2 rfl) ?_
          refine lv_aload_n hx hcd dX9_count_74 rfl (lv_at hl 0 rfl) ?_
          refine g_get (C := RX9) (T := TX9) (N := 32) hx hcd hts (fun _ h => List.mem_cons_of_mem _ (List.mem_append_right _ h)) hown hK hP (i := 0) rfl BMod_c0 rfl 1 (by decide) (by decide +kernel) rfl dX9_count_75 ?_
          refine lv_iload_n hx hcd dX9_count_78 rfl (lv_at hl 3 rfl) ?_
          refine g_zald hx hcd hK hP (i := 0) rfl BMod_c1 (by omega) (by decide) dX9_count_79 ?_
          have f1 := hth i.toNat
          refine wi_if_eq (tgt := 87) hx hcd (by omega) dX9_count_80 (by decide) (fun c80 => ?_) (fun c80 => ?_)
          ·
            refine wi_iconst hx hcd dX9_count_87 ?_
            refine wi_iadd hx hcd dX9_count_88 ?_
            refine lv_istore_n (lv' := [(2, .int (iI (m + 0))), (0, .ref (qM 0)), (1, .int (iI w)), (3, .int (iI i))]) hx hcd dX9_count_89 rfl hl (by decide) rfl (fun ls hl => ?_)
            refine lv_iinc (v := iI (i + 1)) (lv' := [(3, .int (iI (i + 1))), (2, .int (iI (m + 0))), (0, .ref (qM 0)), (1, .int (iI w))]) hx hcd dX9_count_90 hl (k := 3) rfl (iI_add _ _) (by decide) rfl (fun ls hl => ?_)
            refine lv_goto (tgt := 67) hx hcd dX9_count_93 (by decide) ?_
            exact ih67 (m + 0) (i + 1) _ _ _ (by omega) (by omega) (by rw [cnt_s (by omega)]; omega) hP hD hS (lv_sub hl [2, 3, 1, 0] rfl)
          ·
            refine wi_iconst hx hcd dX9_count_83 ?_
            refine lv_goto (tgt := 88) hx hcd dX9_count_84 (by decide) ?_
            refine wi_iadd hx hcd dX9_count_88 ?_
            refine lv_istore_n (lv' := [(2, .int (iI (m + 1))), (0, .ref (qM 0)), (1, .int (iI w)), (3, .int (iI i))]) hx hcd dX9_count_89 rfl hl (by decide) rfl (fun ls hl => ?_)
            refine lv_iinc (v := iI (i + 1)) (lv' := [(3, .int (iI (i + 1))), (2, .int (iI (m + 1))), (0, .ref (qM 0)), (1, .int (iI w))]) hx hcd dX9_count_90 hl (k := 3) rfl (iI_add _ _) (by decide) rfl (fun ls hl => ?_)
            refine lv_goto (tgt := 67) hx hcd dX9_count_93 (by decide) ?_
            exact ih67 (m + 1) (i + 1) _ _ _ (by omega) (by omega) (by rw [cnt_s (by omega)]; omega) hP hD hS (lv_sub hl [2, 3, 1, 0] rfl)
    exact L67 (((12 - 0) + 1 : Int)).toNat 0 0 _ _ _ (by omega) (by omega) (by rfl) hP hD hS (lv_sub hl [2, 3, 1, 0] rfl)
  by_cases s3_2 : w = 2
  · refine wi_tableIn (off := 95) (tgt := 98) hx hcd dX9_count_3 (by omega) (by omega) (by rw [s3_2]; rfl) (by decide) ?_
    refine lv_aload_n hx hcd dX9_count_98 rfl (lv_at hl 1 rfl) ?_
    refine g_get (C := RX9) (T := TX9) (N := 32) hx hcd hts (fun _ h => List.mem_cons_of_mem _ (List.mem_append_right _ h)) hown hK hP (i := 0) rfl BMod_c0 rfl 6 (by decide) (by decide +kernel) rfl dX9_count_99 ?_
    have hA_ : (if w = 0 then st else if w = 1 then cnt th 12 else if w = 2 then pg else if w = 3 then pw else if w = 4 then wr ss else if w = 5 then sn else if w = 6 then tk else if w = 7 then ss else if w = 8 then sh else if w = 9 then dn else if w = 10 then (if wo = -1 then 0 else 1) + (if lo = -1 then 0 else 1) + (if be = -1 then 0 else 1) else if 11 ≤ w ∧ w ≤ 17 then rf (w - 11).toNat else -9 : Int) = pg := ((if_neg (by omega)).trans ((if_neg (by omega)).trans (if_pos (by omega))))
    exact fin _ () H locs ls 102 dX9_count_102 hP hD hS (trivial) (congrArg iI hA_.symm)
  by_cases s3_3 : w = 3
  · refine wi_tableIn (off := 100) (tgt := 103) hx hcd dX9_count_3 (by omega) (by omega) (by rw [s3_3]; rfl) (by decide) ?_
    refine lv_aload_n hx hcd dX9_count_103 rfl (lv_at hl 1 rfl) ?_
    refine g_get (C := RX9) (T := TX9) (N := 32) hx hcd hts (fun _ h => List.mem_cons_of_mem _ (List.mem_append_right _ h)) hown hK hP (i := 0) rfl BMod_c0 rfl 9 (by decide) (by decide +kernel) rfl dX9_count_104 ?_
    have hA_ : (if w = 0 then st else if w = 1 then cnt th 12 else if w = 2 then pg else if w = 3 then pw else if w = 4 then wr ss else if w = 5 then sn else if w = 6 then tk else if w = 7 then ss else if w = 8 then sh else if w = 9 then dn else if w = 10 then (if wo = -1 then 0 else 1) + (if lo = -1 then 0 else 1) + (if be = -1 then 0 else 1) else if 11 ≤ w ∧ w ≤ 17 then rf (w - 11).toNat else -9 : Int) = pw := ((if_neg (by omega)).trans ((if_neg (by omega)).trans ((if_neg (by omega)).trans (if_pos (by omega)))))
    exact fin _ () H locs ls 107 dX9_count_107 hP hD hS (trivial) (congrArg iI hA_.symm)
  by_cases s3_4 : w = 4
  · refine wi_tableIn (off := 105) (tgt := 108) hx hcd dX9_count_3 (by omega) (by omega) (by rw [s3_4]; rfl) (by decide) ?_
    refine lv_aload_n hx hcd dX9_count_108 rfl (lv_at hl 1 rfl) ?_
    refine g_get (C := RX9) (T := TX9) (N := 32) hx hcd hts (fun _ h => List.mem_cons_of_mem _ (List.mem_append_right _ h)) hown hK hP (i := 0) rfl BMod_c0 rfl 11 (by decide) (by decide +kernel) rfl dX9_count_109 ?_
    have hA_ : (if w = 0 then st else if w = 1 then cnt th 12 else if w = 2 then pg else if w = 3 then pw else if w = 4 then wr ss else if w = 5 then sn else if w = 6 then tk else if w = 7 then ss else if w = 8 then sh else if w = 9 then dn else if w = 10 then (if wo = -1 then 0 else 1) + (if lo = -1 then 0 else 1) + (if be = -1 then 0 else 1) else if 11 ≤ w ∧ w ≤ 17 then rf (w - 11).toNat else -9 : Int) = (wr ss) := ((if_neg (by omega)).trans ((if_neg (by omega)).trans ((if_neg (by omega)).trans ((if_neg (by omega)).trans (if_pos (by omega))))))
    exact fin _ () H locs ls 112 dX9_count_112 hP hD hS (trivial) (congrArg iI hA_.symm)
  by_cases s3_5 : w = 5
  · refine wi_tableIn (off := 110) (tgt := 113) hx hcd dX9_count_3 (by omega) (by omega) (by rw [s3_5]; rfl) (by decide) ?_
    refine lv_aload_n hx hcd dX9_count_113 rfl (lv_at hl 1 rfl) ?_
    refine g_get (C := RX9) (T := TX9) (N := 32) hx hcd hts (fun _ h => List.mem_cons_of_mem _ (List.mem_append_right _ h)) hown hK hP (i := 0) rfl BMod_c0 rfl 12 (by decide) (by decide +kernel) rfl dX9_count_114 ?_
    have hA_ : (if w = 0 then st else if w = 1 then cnt th 12 else if w = 2 then pg else if w = 3 then pw else if w = 4 then wr ss else if w = 5 then sn else if w = 6 then tk else if w = 7 then ss else if w = 8 then sh else if w = 9 then dn else if w = 10 then (if wo = -1 then 0 else 1) + (if lo = -1 then 0 else 1) + (if be = -1 then 0 else 1) else if 11 ≤ w ∧ w ≤ 17 then rf (w - 11).toNat else -9 : Int) = sn := ((if_neg (by omega)).trans ((if_neg (by omega)).trans ((if_neg (by omega)).trans ((if_neg (by omega)).trans ((if_neg (by omega)).trans (if_pos (by omega)))))))
    exact fin _ () H locs ls 117 dX9_count_117 hP hD hS (trivial) (congrArg iI hA_.symm)
  by_cases s3_6 : w = 6
  · refine wi_tableIn (off := 115) (tgt := 118) hx hcd dX9_count_3 (by omega) (by omega) (by rw [s3_6]; rfl) (by decide) ?_
    refine lv_aload_n hx hcd dX9_count_118 rfl (lv_at hl 1 rfl) ?_
    refine g_get (C := RX9) (T := TX9) (N := 32) hx hcd hts (fun _ h => List.mem_cons_of_mem _ (List.mem_append_right _ h)) hown hK hP (i := 0) rfl BMod_c0 rfl 13 (by decide) (by decide +kernel) rfl dX9_count_119 ?_
    have hA_ : (if w = 0 then st else if w = 1 then cnt th 12 else if w = 2 then pg else if w = 3 then pw else if w = 4 then wr ss else if w = 5 then sn else if w = 6 then tk else if w = 7 then ss else if w = 8 then sh else if w = 9 then dn else if w = 10 then (if wo = -1 then 0 else 1) + (if lo = -1 then 0 else 1) + (if be = -1 then 0 else 1) else if 11 ≤ w ∧ w ≤ 17 then rf (w - 11).toNat else -9 : Int) = tk := ((if_neg (by omega)).trans ((if_neg (by omega)).trans ((if_neg (by omega)).trans ((if_neg (by omega)).trans ((if_neg (by omega)).trans ((if_neg (by omega)).trans (if_pos (by omega))))))))
    exact fin _ () H locs ls 122 dX9_count_122 hP hD hS (trivial) (congrArg iI hA_.symm)
  by_cases s3_7 : w = 7
  · refine wi_tableIn (off := 120) (tgt := 123) hx hcd dX9_count_3 (by omega) (by omega) (by rw [s3_7]; rfl) (by decide) ?_
    refine lv_aload_n hx hcd dX9_count_123 rfl (lv_at hl 1 rfl) ?_
    refine g_get (C := RX9) (T := TX9) (N := 32) hx hcd hts (fun _ h => List.mem_cons_of_mem _ (List.mem_append_right _ h)) hown hK hP (i := 0) rfl BMod_c0 rfl 14 (by decide) (by decide +kernel) rfl dX9_count_124 ?_
    have hA_ : (if w = 0 then st else if w = 1 then cnt th 12 else if w = 2 then pg else if w = 3 then pw else if w = 4 then wr ss else if w = 5 then sn else if w = 6 then tk else if w = 7 then ss else if w = 8 then sh else if w = 9 then dn else if w = 10 then (if wo = -1 then 0 else 1) + (if lo = -1 then 0 else 1) + (if be = -1 then 0 else 1) else if 11 ≤ w ∧ w ≤ 17 then rf (w - 11).toNat else -9 : Int) = ss := ((if_neg (by omega)).trans ((if_neg (by omega)).trans ((if_neg (by omega)).trans ((if_neg (by omega)).trans ((if_neg (by omega)).trans ((if_neg (by omega)).trans ((if_neg (by omega)).trans (if_pos (by omega)))))))))
    exact fin _ () H locs ls 127 dX9_count_127 hP hD hS (trivial) (congrArg iI hA_.symm)
  by_cases s3_8 : w = 8
  · refine wi_tableIn (off := 125) (tgt := 128) hx hcd dX9_count_3 (by omega) (by omega) (by rw [s3_8]; rfl) (by decide) ?_
    refine lv_aload_n hx hcd dX9_count_128 rfl (lv_at hl 1 rfl) ?_
    refine g_get (C := RX9) (T := TX9) (N := 32) hx hcd hts (fun _ h => List.mem_cons_of_mem _ (List.mem_append_right _ h)) hown hK hP (i := 0) rfl BMod_c0 rfl 15 (by decide) (by decide +kernel) rfl dX9_count_129 ?_
    have hA_ : (if w = 0 then st else if w = 1 then cnt th 12 else if w = 2 then pg else if w = 3 then pw else if w = 4 then wr ss else if w = 5 then sn else if w = 6 then tk else if w = 7 then ss else if w = 8 then sh else if w = 9 then dn else if w = 10 then (if wo = -1 then 0 else 1) + (if lo = -1 then 0 else 1) + (if be = -1 then 0 else 1) else if 11 ≤ w ∧ w ≤ 17 then rf (w - 11).toNat else -9 : Int) = sh := ((if_neg (by omega)).trans ((if_neg (by omega)).trans ((if_neg (by omega)).trans ((if_neg (by omega)).trans ((if_neg (by omega)).trans ((if_neg (by omega)).trans ((if_neg (by omega)).trans ((if_neg (by omega)).trans (if_pos (by omega))))))))))
    exact fin _ () H locs ls 132 dX9_count_132 hP hD hS (trivial) (congrArg iI hA_.symm)
  by_cases s3_9 : w = 9
  · refine wi_tableIn (off := 130) (tgt := 133) hx hcd dX9_count_3 (by omega) (by omega) (by rw [s3_9]; rfl) (by decide) ?_
    refine lv_aload_n hx hcd dX9_count_133 rfl (lv_at hl 1 rfl) ?_
    refine g_get (C := RX9) (T := TX9) (N := 32) hx hcd hts (fun _ h => List.mem_cons_of_mem _ (List.mem_append_right _ h)) hown hK hP (i := 0) rfl BMod_c0 rfl 16 (by decide) (by decide +kernel) rfl dX9_count_134 ?_
    have hA_ : (if w = 0 then st else if w = 1 then cnt th 12 else if w = 2 then pg else if w = 3 then pw else if w = 4 then wr ss else if w = 5 then sn else if w = 6 then tk else if w = 7 then ss else if w = 8 then sh else if w = 9 then dn else if w = 10 then (if wo = -1 then 0 else 1) + (if lo = -1 then 0 else 1) + (if be = -1 then 0 else 1) else if 11 ≤ w ∧ w ≤ 17 then rf (w - 11).toNat else -9 : Int) = dn := ((if_neg (by omega)).trans ((if_neg (by omega)).trans ((if_neg (by omega)).trans ((if_neg (by omega)).trans ((if_neg (by omega)).trans ((if_neg (by omega)).trans ((if_neg (by omega)).trans ((if_neg (by omega)).trans ((if_neg (by omega)).trans (if_pos (by omega)))))))))))
    exact fin _ () H locs ls 137 dX9_count_137 hP hD hS (trivial) (congrArg iI hA_.symm)
  by_cases s3_10 : w = 10
  · refine wi_tableIn (off := 135) (tgt := 138) hx hcd dX9_count_3 (by omega) (by omega) (by rw [s3_10]; rfl) (by decide) ?_
    refine lv_aload_n hx hcd dX9_count_138 rfl (lv_at hl 1 rfl) ?_
    refine cV_i (wc := [BMod G qM st th (cmOf R) ac up li pg le spc pw ld (wr ss) sn tk ss sh dn pp ps (faOf wo lo be) (hbOf hb) tt (sh1 rf) mbt mle mbo mwo mlo mbe mmk mms mwh]) (wr := []) (w1 := fun (_ : Unit) => [BMod G qM st th (cmOf R) ac up li pg le spc pw ld (wr ss) sn tk ss sh dn pp ps (faOf wo lo be) (hbOf hb) tt (sh1 rf) mbt mle mbo mwo mlo mbe mmk mms mwh]) (Bs1 := fun (_ : Unit) => [BMod G qM st th (cmOf R) ac up li pg le spc pw ld (wr ss) sn tk ss sh dn pp ps (faOf wo lo be) (hbOf hb) tt (sh1 rf) mbt mle mbo mwo mlo mbe mmk mms mwh]) (As := []) (rest := []) (kX9_faultMany l D G qM st th R ac up li le pg spc pw ld sn tk ss sh dn pp ps wo lo be hb tt rf mbt mle mbo mwo mlo mbe mmk mms mwh (by first | assumption | omega) (by first | assumption | omega) (by first | assumption | omega)) rfl ⟨hx, hcd, hml, hown, hts⟩ (cwV 0 hts gX9_count_X9_faultMany rfl rfl rfl (by decide +kernel) ⟨by decide, by decide⟩) (q0 := 0) (ci := 9) rfl rfl rfl rfl hl.1 (Nat.le_of_ble_eq_true rfl) ⟨Nat.le_of_ble_eq_true rfl, Nat.le_of_ble_eq_true rfl⟩ dX9_count_139 hK hP hD hS hA (perm_i2 [0] 1 rfl (by decide) rfl) (fun _ => perm_i2 [0] 1 rfl (by decide) rfl) (fun r u H locs hw2 hP hD hS => ?_)
    subst hw2
    have hA_ : (if w = 0 then st else if w = 1 then cnt th 12 else if w = 2 then pg else if w = 3 then pw else if w = 4 then wr ss else if w = 5 then sn else if w = 6 then tk else if w = 7 then ss else if w = 8 then sh else if w = 9 then dn else if w = 10 then (if wo = -1 then 0 else 1) + (if lo = -1 then 0 else 1) + (if be = -1 then 0 else 1) else if 11 ≤ w ∧ w ≤ 17 then rf (w - 11).toNat else -9 : Int) = ((if wo = -1 then 0 else 1) + (if lo = -1 then 0 else 1) + (if be = -1 then 0 else 1)) := ((if_neg (by omega)).trans ((if_neg (by omega)).trans ((if_neg (by omega)).trans ((if_neg (by omega)).trans ((if_neg (by omega)).trans ((if_neg (by omega)).trans ((if_neg (by omega)).trans ((if_neg (by omega)).trans ((if_neg (by omega)).trans ((if_neg (by omega)).trans (if_pos (by omega))))))))))))
    exact fin _ () H locs ls 142 dX9_count_142 hP hD hS (trivial) (congrArg iI hA_.symm)
  refine wi_tableOut (tgt := 143) hx hcd dX9_count_3 (by omega) (by omega) (by decide) ?_
  refine lv_iload_n hx hcd dX9_count_143 rfl (lv_at hl 2 rfl) ?_
  refine wi_bipush hx hcd dX9_count_144 (by decide) ?_
  refine wi_bipush hx hcd dX9_count_146 (by decide) ?_
  refine cS_i (wc := []) (wr := [BMod G qM st th (cmOf R) ac up li pg le spc pw ld (wr ss) sn tk ss sh dn pp ps (faOf wo lo be) (hbOf hb) tt (sh1 rf) mbt mle mbo mwo mlo mbe mmk mms mwh]) (w1 := fun (_ : Unit) => []) (Bs1 := fun (_ : Unit) => [BMod G qM st th (cmOf R) ac up li pg le spc pw ld (wr ss) sn tk ss sh dn pp ps (faOf wo lo be) (hbOf hb) tt (sh1 rf) mbt mle mbo mwo mlo mbe mmk mms mwh]) (As := [.int (iI w), .int (iI 11), .int (iI 17)]) (rest := []) (kX9_in l D G w 11 17 (by first | assumption | omega) (by first | assumption | omega) (by first | assumption | omega)) rfl ⟨hx, hcd, hml, hown, hts⟩ (va_cwS 3 hts gX9_count_X9_in rfl rfl rfl (by decide +kernel) ⟨by decide, by decide⟩) rfl hl.1 (Nat.le_of_ble_eq_true rfl) ⟨Nat.le_of_ble_eq_true rfl, Nat.le_of_ble_eq_true rfl⟩ dX9_count_148 hK hP hD hS hA (perm_i2 [0] 1 rfl (by decide) rfl) (fun _ => perm_i2 [0] 1 rfl (by decide) rfl) (fun r u H locs hw3 hP hD hS => ?_)
  subst hw3
  have hin88 := if01 (11 ≤ w ∧ w ≤ 17)
  refine wi_if_eq (tgt := 166) hx hcd (by omega) dX9_count_151 (by decide) (fun c151 => ?_) (fun c151 => ?_)
  ·
    refine wi_bipush hx hcd dX9_count_166 (by decide) ?_
    have hA_ : (if w = 0 then st else if w = 1 then cnt th 12 else if w = 2 then pg else if w = 3 then pw else if w = 4 then wr ss else if w = 5 then sn else if w = 6 then tk else if w = 7 then ss else if w = 8 then sh else if w = 9 then dn else if w = 10 then (if wo = -1 then 0 else 1) + (if lo = -1 then 0 else 1) + (if be = -1 then 0 else 1) else if 11 ≤ w ∧ w ≤ 17 then rf (w - 11).toNat else -9 : Int) = (-9) := ((if_neg (by omega)).trans ((if_neg (by omega)).trans ((if_neg (by omega)).trans ((if_neg (by omega)).trans ((if_neg (by omega)).trans ((if_neg (by omega)).trans ((if_neg (by omega)).trans ((if_neg (by omega)).trans ((if_neg (by omega)).trans ((if_neg (by omega)).trans ((if_neg (by omega)).trans (by first | (rw [if_pos (by omega)]; exact (sh1_ct (by omega)).symm) | (rw [if_neg (by omega)])))))))))))))
    exact fin _ () H locs ls 168 dX9_count_168 hP hD hS (trivial) (congrArg iI hA_.symm)
  ·
    refine lv_aload_n hx hcd dX9_count_154 rfl (lv_at hl 1 rfl) ?_
    refine g_get (C := RX9) (T := TX9) (N := 32) hx hcd hts (fun _ h => List.mem_cons_of_mem _ (List.mem_append_right _ h)) hown hK hP (i := 0) rfl BMod_c0 rfl 22 (by decide) (by decide +kernel) rfl dX9_count_155 ?_
    refine lv_iload_n hx hcd dX9_count_158 rfl (lv_at hl 2 rfl) ?_
    refine wi_bipush hx hcd dX9_count_159 (by decide) ?_
    refine wi_isub hx hcd dX9_count_161 ?_
    refine g_iald hx hcd hK hP (i := 0) rfl BMod_c12 (by omega) (by decide) dX9_count_162 ?_
    refine lv_goto (tgt := 168) hx hcd dX9_count_163 (by decide) ?_
    have hA_ : (if w = 0 then st else if w = 1 then cnt th 12 else if w = 2 then pg else if w = 3 then pw else if w = 4 then wr ss else if w = 5 then sn else if w = 6 then tk else if w = 7 then ss else if w = 8 then sh else if w = 9 then dn else if w = 10 then (if wo = -1 then 0 else 1) + (if lo = -1 then 0 else 1) + (if be = -1 then 0 else 1) else if 11 ≤ w ∧ w ≤ 17 then rf (w - 11).toNat else -9 : Int) = ((sh1 rf) ((w - 10).toNat)) := ((if_neg (by omega)).trans ((if_neg (by omega)).trans ((if_neg (by omega)).trans ((if_neg (by omega)).trans ((if_neg (by omega)).trans ((if_neg (by omega)).trans ((if_neg (by omega)).trans ((if_neg (by omega)).trans ((if_neg (by omega)).trans ((if_neg (by omega)).trans ((if_neg (by omega)).trans (by first | (rw [if_pos (by omega)]; exact (sh1_ct (by omega)).symm) | (rw [if_neg (by omega)])))))))))))))
    exact fin _ () H locs ls 168 dX9_count_168 hP hD hS (trivial) (congrArg iI hA_.symm)
