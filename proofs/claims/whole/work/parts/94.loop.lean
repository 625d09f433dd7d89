section OPS
variable {p0 : Program} {l : Launch} {e0 : Env} {s0 : State} {m0 : MethodId} {bel : List Frame} {met : Method} {cd : Code} {Q0 : State → Prop} {D : va_G} {G : Nat → ClassId} {A0 : Nat → Prop} {bS : Nat} {LL : Nat} {xs : Nat → Int32} {qT : Nat} {qr : Nat} {q : Nat → Nat} {qm : Nat → Nat} {qs : Nat} {qp : Nat → Nat} {qf : Nat} {qh : Nat} {qu : Nat} {qk : Nat → Nat} {qg : Nat} {qt : Nat → Nat} {qM : Nat → Nat}
set_option maxRecDepth 100000 in
theorem lg_inc {i0 : Int} (F : LFix p0 s0 m0 cd D G A0 bS LL xs) (nx : LGo p0 l e0 s0 m0 bel met cd Q0 D G A0 bS qT qr q qm qs qp qf qh qu qk qg qt qM (i0 + 6) (32 * (i0 + 6)) 18) : LGo p0 l e0 s0 m0 bel met cd Q0 D G A0 bS qT qr q qm qs qp qf qh qu qk qg qt qM (i0) (32 * (i0 + 6)) 970 := by
  obtain ⟨hx, hcd, hml, hown, hts, hK, hA, hX, hbl, hbA, hLL⟩ := F
  intro rf sh dn st th R sp ac up li le pg spc pw ld sn tk ss wd fi pp ps wo lo be kd wh w0 l0 b0 vd fj hb tt tm mbt mle mbo mwo mlo mbe mmk mms mwh H locs ls hinv hP hD hS hl
  refine lv_iinc (v := iI (i0 + 6)) (lv' := [(3, .int (iI (i0 + 6))), (0, .ref bS), (1, .ref qT), (2, .ref (qM 0))]) hx hcd dL_law_970 hl (k := 3) rfl (iI_add _ _) (by decide) rfl (fun ls hl => ?_)
  refine lv_goto (tgt := 18) hx hcd dL_law_973 (by decide) ?_
  exact nx rf sh dn st th R sp ac up li le pg spc pw ld sn tk ss wd fi pp ps wo lo be kd wh w0 l0 b0 vd fj hb tt tm mbt mle mbo mwo mlo mbe mmk mms mwh H locs ls hinv hP hD hS (lv_sub hl [1, 2, 3, 0] rfl)
set_option maxHeartbeats 4000000 in
set_option maxRecDepth 100000 in
theorem lg_loop (F : LFix p0 s0 m0 cd D G A0 bS LL xs) (fin : ∀ (H : Heap) (locs : List Loc) (ls : Array Slot), va_S A0 s0.heap H locs → W p0 l e0 room_1 s0 m0 #[Value.ref bS] bel met cd H locs 60 7999 Q0 (F0 m0 976 ls [])) : ∀ (fu : Nat) (i0 : Int), 0 ≤ i0 ∧ i0 ≤ (LL : Int) → (LL : Int) - i0 < (fu : Int) → LGo p0 l e0 s0 m0 bel met cd Q0 D G A0 bS qT qr q qm qs qp qf qh qu qk qg qt qM (i0) (32 * i0) 18 := by
  intro fu
  induction fu with
  | zero =>
    intro i0 h0 hfu
    exact absurd hfu (by omega)
  | succ fu ih =>
    intro i0 h0 hfu rf sh dn st th R sp ac up li le pg spc pw ld sn tk ss wd fi pp ps wo lo be kd wh w0 l0 b0 vd fj hb tt tm mbt mle mbo mwo mlo mbe mmk mms mwh H locs ls hinv hP hD hS hl
    obtain ⟨hx, hcd, hml, hown, hts, hK, hA, hX, hbl, hbA, hLL⟩ := id F
    refine lv_iload_n hx hcd dL_law_18 rfl (lv_at hl 3 rfl) ?_
    refine lv_aload_n hx hcd dL_law_19 rfl (lv_at hl 0 rfl) ?_
    refine w_slen hx hcd hX hbl hbA hS dL_law_20 ?_
    refine wi_bipush hx hcd dL_law_21 (by decide) ?_
    refine wi_isub hx hcd dL_law_23 ?_
    refine wi_icmp_gt (tgt := 976) hx hcd (by omega) (by omega) dL_law_24 (by decide) (fun c24 => ?_) (fun c24 => ?_)
    · exact fin H locs ls hS
    · have nx := lg_inc F (ih (i0 + 6) (by omega) (by omega))
      have hi : 0 ≤ i0 ∧ i0 + 6 ≤ (LL : Int) := by omega
      refine lv_aload_n hx hcd dL_law_27 rfl (lv_at hl 0 rfl) ?_
      refine lv_iload_n hx hcd dL_law_28 rfl (lv_at hl 3 rfl) ?_
      refine w_sld hx hcd hX hbl hbA hS hLL (by omega) rfl dL_law_29 ?_
      refine wi_bipush hx hcd dL_law_30 (by decide) ?_
      refine w_and31 hx hcd dL_law_32 (fun z hz => ?_)
      by_cases s0 : z = 0
      · refine wi_tableIn (off := 127) (tgt := 160) hx hcd dL_law_33 (by omega) (by omega) (by rw [s0]; rfl) (by decide) ?_
        exact op_length F hi nx rf sh dn st th R sp ac up li le pg spc pw ld sn tk ss wd fi pp ps wo lo be kd wh w0 l0 b0 vd fj hb tt tm mbt mle mbo mwo mlo mbe mmk mms mwh H locs ls hinv hP hD hS hl
      by_cases s1 : z = 1
      · refine wi_tableIn (off := 150) (tgt := 183) hx hcd dL_law_33 (by omega) (by omega) (by rw [s1]; rfl) (by decide) ?_
        exact op_blank F hi nx rf sh dn st th R sp ac up li le pg spc pw ld sn tk ss wd fi pp ps wo lo be kd wh w0 l0 b0 vd fj hb tt tm mbt mle mbo mwo mlo mbe mmk mms mwh H locs ls hinv hP hD hS hl
      by_cases s2 : z = 2
      · refine wi_tableIn (off := 173) (tgt := 206) hx hcd dL_law_33 (by omega) (by omega) (by rw [s2]; rfl) (by decide) ?_
        exact op_lose F hi nx rf sh dn st th R sp ac up li le pg spc pw ld sn tk ss wd fi pp ps wo lo be kd wh w0 l0 b0 vd fj hb tt tm mbt mle mbo mwo mlo mbe mmk mms mwh H locs ls hinv hP hD hS hl
      by_cases s3 : z = 3
      · refine wi_tableIn (off := 196) (tgt := 229) hx hcd dL_law_33 (by omega) (by omega) (by rw [s3]; rfl) (by decide) ?_
        exact op_cutAt F hi nx rf sh dn st th R sp ac up li le pg spc pw ld sn tk ss wd fi pp ps wo lo be kd wh w0 l0 b0 vd fj hb tt tm mbt mle mbo mwo mlo mbe mmk mms mwh H locs ls hinv hP hD hS hl
      by_cases s4 : z = 4
      · refine wi_tableIn (off := 239) (tgt := 272) hx hcd dL_law_33 (by omega) (by omega) (by rw [s4]; rfl) (by decide) ?_
        exact op_height F hi nx rf sh dn st th R sp ac up li le pg spc pw ld sn tk ss wd fi pp ps wo lo be kd wh w0 l0 b0 vd fj hb tt tm mbt mle mbo mwo mlo mbe mmk mms mwh H locs ls hinv hP hD hS hl
      by_cases s5 : z = 5
      · refine wi_tableIn (off := 272) (tgt := 305) hx hcd dL_law_33 (by omega) (by omega) (by rw [s5]; rfl) (by decide) ?_
        exact op_copy F hi nx rf sh dn st th R sp ac up li le pg spc pw ld sn tk ss wd fi pp ps wo lo be kd wh w0 l0 b0 vd fj hb tt tm mbt mle mbo mwo mlo mbe mmk mms mwh H locs ls hinv hP hD hS hl
      by_cases s6 : z = 6
      · refine wi_tableIn (off := 335) (tgt := 368) hx hcd dL_law_33 (by omega) (by omega) (by rw [s6]; rfl) (by decide) ?_
        exact op_turn F hi nx rf sh dn st th R sp ac up li le pg spc pw ld sn tk ss wd fi pp ps wo lo be kd wh w0 l0 b0 vd fj hb tt tm mbt mle mbo mwo mlo mbe mmk mms mwh H locs ls hinv hP hD hS hl
      by_cases s7 : z = 7
      · refine wi_tableIn (off := 368) (tgt := 401) hx hcd dL_law_33 (by omega) (by omega) (by rw [s7]; rfl) (by decide) ?_
        exact op_blanks F hi nx rf sh dn st th R sp ac up li le pg spc pw ld sn tk ss wd fi pp ps wo lo be kd wh w0 l0 b0 vd fj hb tt tm mbt mle mbo mwo mlo mbe mmk mms mwh H locs ls hinv hP hD hS hl
      by_cases s8 : z = 8
      · refine wi_tableIn (off := 381) (tgt := 414) hx hcd dL_law_33 (by omega) (by omega) (by rw [s8]; rfl) (by decide) ?_
        exact op_camOf F hi nx rf sh dn st th R sp ac up li le pg spc pw ld sn tk ss wd fi pp ps wo lo be kd wh w0 l0 b0 vd fj hb tt tm mbt mle mbo mwo mlo mbe mmk mms mwh H locs ls hinv hP hD hS hl
      by_cases s9 : z = 9
      · refine wi_tableIn (off := 414) (tgt := 447) hx hcd dL_law_33 (by omega) (by omega) (by rw [s9]; rfl) (by decide) ?_
        exact op_letter F hi nx rf sh dn st th R sp ac up li le pg spc pw ld sn tk ss wd fi pp ps wo lo be kd wh w0 l0 b0 vd fj hb tt tm mbt mle mbo mwo mlo mbe mmk mms mwh H locs ls hinv hP hD hS hl
      by_cases s10 : z = 10
      · refine wi_tableIn (off := 467) (tgt := 500) hx hcd dL_law_33 (by omega) (by omega) (by rw [s10]; rfl) (by decide) ?_
        exact op_isCut F hi nx rf sh dn st th R sp ac up li le pg spc pw ld sn tk ss wd fi pp ps wo lo be kd wh w0 l0 b0 vd fj hb tt tm mbt mle mbo mwo mlo mbe mmk mms mwh H locs ls hinv hP hD hS hl
      by_cases s11 : z = 11
      · refine wi_tableIn (off := 490) (tgt := 523) hx hcd dL_law_33 (by omega) (by omega) (by rw [s11]; rfl) (by decide) ?_
        exact op_peg F hi nx rf sh dn st th R sp ac up li le pg spc pw ld sn tk ss wd fi pp ps wo lo be kd wh w0 l0 b0 vd fj hb tt tm mbt mle mbo mwo mlo mbe mmk mms mwh H locs ls hinv hP hD hS hl
      by_cases s12 : z = 12
      · refine wi_tableIn (off := 513) (tgt := 546) hx hcd dL_law_33 (by omega) (by omega) (by rw [s12]; rfl) (by decide) ?_
        exact op_unpeg F hi nx rf sh dn st th R sp ac up li le pg spc pw ld sn tk ss wd fi pp ps wo lo be kd wh w0 l0 b0 vd fj hb tt tm mbt mle mbo mwo mlo mbe mmk mms mwh H locs ls hinv hP hD hS hl
      by_cases s13 : z = 13
      · refine wi_tableIn (off := 526) (tgt := 559) hx hcd dL_law_33 (by omega) (by omega) (by rw [s13]; rfl) (by decide) ?_
        exact op_advance F hi nx rf sh dn st th R sp ac up li le pg spc pw ld sn tk ss wd fi pp ps wo lo be kd wh w0 l0 b0 vd fj hb tt tm mbt mle mbo mwo mlo mbe mmk mms mwh H locs ls hinv hP hD hS hl
      by_cases s14 : z = 14
      · refine wi_tableIn (off := 549) (tgt := 582) hx hcd dL_law_33 (by omega) (by omega) (by rw [s14]; rfl) (by decide) ?_
        exact op_pull F hi nx rf sh dn st th R sp ac up li le pg spc pw ld sn tk ss wd fi pp ps wo lo be kd wh w0 l0 b0 vd fj hb tt tm mbt mle mbo mwo mlo mbe mmk mms mwh H locs ls hinv hP hD hS hl
      by_cases s15 : z = 15
      · refine wi_tableIn (off := 572) (tgt := 605) hx hcd dL_law_33 (by omega) (by omega) (by rw [s15]; rfl) (by decide) ?_
        exact op_wind F hi nx rf sh dn st th R sp ac up li le pg spc pw ld sn tk ss wd fi pp ps wo lo be kd wh w0 l0 b0 vd fj hb tt tm mbt mle mbo mwo mlo mbe mmk mms mwh H locs ls hinv hP hD hS hl
      by_cases s16 : z = 16
      · refine wi_tableIn (off := 595) (tgt := 628) hx hcd dL_law_33 (by omega) (by omega) (by rw [s16]; rfl) (by decide) ?_
        exact op_show F hi nx rf sh dn st th R sp ac up li le pg spc pw ld sn tk ss wd fi pp ps wo lo be kd wh w0 l0 b0 vd fj hb tt tm mbt mle mbo mwo mlo mbe mmk mms mwh H locs ls hinv hP hD hS hl
      by_cases s17 : z = 17
      · refine wi_tableIn (off := 608) (tgt := 641) hx hcd dL_law_33 (by omega) (by omega) (by rw [s17]; rfl) (by decide) ?_
        exact op_marked F hi nx rf sh dn st th R sp ac up li le pg spc pw ld sn tk ss wd fi pp ps wo lo be kd wh w0 l0 b0 vd fj hb tt tm mbt mle mbo mwo mlo mbe mmk mms mwh H locs ls hinv hP hD hS hl
      by_cases s18 : z = 18
      · refine wi_tableIn (off := 641) (tgt := 674) hx hcd dL_law_33 (by omega) (by omega) (by rw [s18]; rfl) (by decide) ?_
        exact op_first F hi nx rf sh dn st th R sp ac up li le pg spc pw ld sn tk ss wd fi pp ps wo lo be kd wh w0 l0 b0 vd fj hb tt tm mbt mle mbo mwo mlo mbe mmk mms mwh H locs ls hinv hP hD hS hl
      by_cases s19 : z = 19
      · refine wi_tableIn (off := 684) (tgt := 717) hx hcd dL_law_33 (by omega) (by omega) (by rw [s19]; rfl) (by decide) ?_
        exact op_marks F hi nx rf sh dn st th R sp ac up li le pg spc pw ld sn tk ss wd fi pp ps wo lo be kd wh w0 l0 b0 vd fj hb tt tm mbt mle mbo mwo mlo mbe mmk mms mwh H locs ls hinv hP hD hS hl
      by_cases s20 : z = 20
      · refine wi_tableIn (off := 697) (tgt := 730) hx hcd dL_law_33 (by omega) (by omega) (by rw [s20]; rfl) (by decide) ?_
        exact op_see F hi nx rf sh dn st th R sp ac up li le pg spc pw ld sn tk ss wd fi pp ps wo lo be kd wh w0 l0 b0 vd fj hb tt tm mbt mle mbo mwo mlo mbe mmk mms mwh H locs ls hinv hP hD hS hl
      by_cases s21 : z = 21
      · refine wi_tableIn (off := 756) (tgt := 789) hx hcd dL_law_33 (by omega) (by omega) (by rw [s21]; rfl) (by decide) ?_
        exact op_fault F hi nx rf sh dn st th R sp ac up li le pg spc pw ld sn tk ss wd fi pp ps wo lo be kd wh w0 l0 b0 vd fj hb tt tm mbt mle mbo mwo mlo mbe mmk mms mwh H locs ls hinv hP hD hS hl
      by_cases s22 : z = 22
      · refine wi_tableIn (off := 789) (tgt := 822) hx hcd dL_law_33 (by omega) (by omega) (by rw [s22]; rfl) (by decide) ?_
        exact op_mend F hi nx rf sh dn st th R sp ac up li le pg spc pw ld sn tk ss wd fi pp ps wo lo be kd wh w0 l0 b0 vd fj hb tt tm mbt mle mbo mwo mlo mbe mmk mms mwh H locs ls hinv hP hD hS hl
      by_cases s23 : z = 23
      · refine wi_tableIn (off := 802) (tgt := 835) hx hcd dL_law_33 (by omega) (by omega) (by rw [s23]; rfl) (by decide) ?_
        exact op_explained F hi nx rf sh dn st th R sp ac up li le pg spc pw ld sn tk ss wd fi pp ps wo lo be kd wh w0 l0 b0 vd fj hb tt tm mbt mle mbo mwo mlo mbe mmk mms mwh H locs ls hinv hP hD hS hl
      by_cases s24 : z = 24
      · refine wi_tableIn (off := 825) (tgt := 858) hx hcd dL_law_33 (by omega) (by omega) (by rw [s24]; rfl) (by decide) ?_
        exact op_made F hi nx rf sh dn st th R sp ac up li le pg spc pw ld sn tk ss wd fi pp ps wo lo be kd wh w0 l0 b0 vd fj hb tt tm mbt mle mbo mwo mlo mbe mmk mms mwh H locs ls hinv hP hD hS hl
      by_cases s25 : z = 25
      · refine wi_tableIn (off := 858) (tgt := 891) hx hcd dL_law_33 (by omega) (by omega) (by rw [s25]; rfl) (by decide) ?_
        exact op_like F hi nx rf sh dn st th R sp ac up li le pg spc pw ld sn tk ss wd fi pp ps wo lo be kd wh w0 l0 b0 vd fj hb tt tm mbt mle mbo mwo mlo mbe mmk mms mwh H locs ls hinv hP hD hS hl
      by_cases s26 : z = 26
      · refine wi_tableIn (off := 891) (tgt := 924) hx hcd dL_law_33 (by omega) (by omega) (by rw [s26]; rfl) (by decide) ?_
        exact op_whose F hi nx rf sh dn st th R sp ac up li le pg spc pw ld sn tk ss wd fi pp ps wo lo be kd wh w0 l0 b0 vd fj hb tt tm mbt mle mbo mwo mlo mbe mmk mms mwh H locs ls hinv hP hD hS hl
      by_cases s27 : z = 27
      · refine wi_tableIn (off := 914) (tgt := 947) hx hcd dL_law_33 (by omega) (by omega) (by rw [s27]; rfl) (by decide) ?_
        exact op_count F hi nx rf sh dn st th R sp ac up li le pg spc pw ld sn tk ss wd fi pp ps wo lo be kd wh w0 l0 b0 vd fj hb tt tm mbt mle mbo mwo mlo mbe mmk mms mwh H locs ls hinv hP hD hS hl
      refine wi_tableOut (tgt := 970) hx hcd dL_law_33 (by omega) (by omega) (by decide) ?_
      exact nx rf sh dn st th R sp ac up li le pg spc pw ld sn tk ss wd fi pp ps wo lo be kd wh w0 l0 b0 vd fj hb tt tm mbt mle mbo mwo mlo mbe mmk mms mwh H locs ls (LInv.up (by omega) hinv) hP hD hS hl
end OPS
