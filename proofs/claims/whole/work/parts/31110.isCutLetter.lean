abbrev rmX9_isCutLetter : Room := { frames := 0, cells := 0, slots := 0, locals := 0 }
set_option maxHeartbeats 4000000 in
set_option maxRecDepth 100000 in
theorem kX9_isCutLetter (l : Launch) (D : va_G) (G : Nat → ClassId) (qM : Nat → Nat) (st : Int) (th : Nat → Int) (R : Nat → Nat → Int) (ac : Nat → Int) (up : Nat → Int) (li : Nat → Int) (le : Nat → Int) (pg : Int) (spc : Int) (pw : Int) (ld : Int) (sn : Int) (tk : Int) (ss : Int) (sh : Int) (dn : Int) (pp : Nat → Int) (ps : Nat → Int) (wo : Int) (lo : Int) (be : Int) (hb : Nat → Nat → Int) (tt : Nat → Int) (rf : Nat → Int) (mbt : Nat → Int) (mle : Nat → Int) (mbo : Nat → Int) (mwo : Int) (mlo : Int) (mbe : Int) (mmk : Nat → Int) (mms : Nat → Int) (mwh : Int) (k : Int) (hth : ∀ k, th k = 0 ∨ th k = 1) (hac : ∀ k, 0 ≤ ac k ∧ ac k ≤ 11) (hup : ∀ k, 0 ≤ up k ∧ up k ≤ 11) (hli : ∀ k, 0 ≤ li k ∧ li k ≤ 11) (hk : 0 ≤ k ∧ k < 10) : CtI l yX9_isCutLetter wsX9_isCutLetter rmX9_isCutLetter D G [.ref (qM 0), .int (iI k)] [BMod G qM st th (cmOf R) ac up li pg le spc pw ld (wr ss) sn tk ss sh dn pp ps (faOf wo lo be) (hbOf hb) tt (sh1 rf) mbt mle mbo mwo mlo mbe mmk mms mwh] (fun (r : Int32) (_ : Unit) => r = iI (if cutL th ac up li k.toNat then 1 else 0)) (fun _ => [BMod G qM st th (cmOf R) ac up li pg le spc pw ld (wr ss) sn tk ss sh dn pp ps (faOf wo lo be) (hbOf hb) tt (sh1 rf) mbt mle mbo mwo mlo mbe mmk mms mwh]) := by
  refine CtI.ofZ (cc := cX9_isCutLetter) (maxL := 2) (by decide) rfl (Nat.le_of_ble_eq_true rfl) ?_
  intro p0 e0 s0 m0 args bel met cd A0 ls Q0 hx hcd hml hown hts hK hP hD hA hl fin
  have hl : lv_has ls 2 [(0, .ref (qM 0)), (1, .int (iI k))] := hl
  have hS : va_S A0 s0.heap s0.heap [] := va_S.rf
  have hH : va_P D vwCl (fl [BMod G qM st th (cmOf R) ac up li pg le spc pw ld (wr ss) sn tk ss sh dn pp ps (faOf wo lo be) (hbOf hb) tt (sh1 rf) mbt mle mbo mwo mlo mbe mmk mms mwh]) s0.heap := hP
  obtain ⟨H, eH⟩ : ∃ H, H = s0.heap := ⟨_, rfl⟩
  obtain ⟨locs, eL⟩ : ∃ locs : List Loc, locs = [] := ⟨_, rfl⟩
  have hS : va_S A0 s0.heap H locs := by rw [eH, eL]; exact hS
  have hP : va_P D vwCl (fl [BMod G qM st th (cmOf R) ac up li pg le spc pw ld (wr ss) sn tk ss sh dn pp ps (faOf wo lo be) (hbOf hb) tt (sh1 rf) mbt mle mbo mwo mlo mbe mmk mms mwh]) H := by rw [eH]; exact hP
  suffices goal : W p0 l e0 rmX9_isCutLetter s0 m0 args bel met cd H locs 0 0 Q0 (F0 m0 0 ls []) by rw [eH, eL] at goal; exact goal
  clear eH eL hH
  refine lv_aload_n hx hcd dX9_isCutLetter_0 rfl (lv_at hl 0 rfl) ?_
  refine g_get (C := RX9) (T := TX9) (N := 32) hx hcd hts (fun _ h => List.mem_cons_of_mem _ (List.mem_append_right _ h)) hown hK hP (i := 0) rfl BMod_c0 rfl 1 (by decide) (by decide +kernel) rfl dX9_isCutLetter_1 ?_
  refine lv_aload_n hx hcd dX9_isCutLetter_4 rfl (lv_at hl 0 rfl) ?_
  refine g_get (C := RX9) (T := TX9) (N := 32) hx hcd hts (fun _ h => List.mem_cons_of_mem _ (List.mem_append_right _ h)) hown hK hP (i := 0) rfl BMod_c0 rfl 3 (by decide) (by decide +kernel) rfl dX9_isCutLetter_5 ?_
  refine lv_iload_n hx hcd dX9_isCutLetter_8 rfl (lv_at hl 1 rfl) ?_
  refine g_iald hx hcd hK hP (i := 0) rfl BMod_c3 (by omega) (by decide) dX9_isCutLetter_9 ?_
  have f1 := hac k.toNat
  refine g_zald hx hcd hK hP (i := 0) rfl BMod_c1 (by omega) (by decide) dX9_isCutLetter_10 ?_
  have f2 := hth ((ac k.toNat).toNat)
  refine wi_if_eq (tgt := 46) hx hcd (by omega) dX9_isCutLetter_11 (by decide) (fun c11 => ?_) (fun c11 => ?_)
  ·
    refine wi_iconst hx hcd dX9_isCutLetter_46 ?_
    exact fin _ () H locs ls 47 dX9_isCutLetter_47 hP hD hS (by decide) (congrArg iI (by first | rfl | (rw [if_pos (by omega)]) | (rw [if_neg (by omega)]) | (split <;> omega)))
  ·
    refine lv_aload_n hx hcd dX9_isCutLetter_14 rfl (lv_at hl 0 rfl) ?_
    refine g_get (C := RX9) (T := TX9) (N := 32) hx hcd hts (fun _ h => List.mem_cons_of_mem _ (List.mem_append_right _ h)) hown hK hP (i := 0) rfl BMod_c0 rfl 1 (by decide) (by decide +kernel) rfl dX9_isCutLetter_15 ?_
    refine lv_aload_n hx hcd dX9_isCutLetter_18 rfl (lv_at hl 0 rfl) ?_
    refine g_get (C := RX9) (T := TX9) (N := 32) hx hcd hts (fun _ h => List.mem_cons_of_mem _ (List.mem_append_right _ h)) hown hK hP (i := 0) rfl BMod_c0 rfl 4 (by decide) (by decide +kernel) rfl dX9_isCutLetter_19 ?_
    refine lv_iload_n hx hcd dX9_isCutLetter_22 rfl (lv_at hl 1 rfl) ?_
    refine g_iald hx hcd hK hP (i := 0) rfl BMod_c4 (by omega) (by decide) dX9_isCutLetter_23 ?_
    have f3 := hup k.toNat
    refine g_zald hx hcd hK hP (i := 0) rfl BMod_c1 (by omega) (by decide) dX9_isCutLetter_24 ?_
    have f4 := hth ((up k.toNat).toNat)
    refine wi_if_eq (tgt := 46) hx hcd (by omega) dX9_isCutLetter_25 (by decide) (fun c25 => ?_) (fun c25 => ?_)
    ·
      refine wi_iconst hx hcd dX9_isCutLetter_46 ?_
      exact fin _ () H locs ls 47 dX9_isCutLetter_47 hP hD hS (by decide) (congrArg iI (by first | rfl | (rw [if_pos (by omega)]) | (rw [if_neg (by omega)]) | (split <;> omega)))
    ·
      refine lv_aload_n hx hcd dX9_isCutLetter_28 rfl (lv_at hl 0 rfl) ?_
      refine g_get (C := RX9) (T := TX9) (N := 32) hx hcd hts (fun _ h => List.mem_cons_of_mem _ (List.mem_append_right _ h)) hown hK hP (i := 0) rfl BMod_c0 rfl 1 (by decide) (by decide +kernel) rfl dX9_isCutLetter_29 ?_
      refine lv_aload_n hx hcd dX9_isCutLetter_32 rfl (lv_at hl 0 rfl) ?_
      refine g_get (C := RX9) (T := TX9) (N := 32) hx hcd hts (fun _ h => List.mem_cons_of_mem _ (List.mem_append_right _ h)) hown hK hP (i := 0) rfl BMod_c0 rfl 5 (by decide) (by decide +kernel) rfl dX9_isCutLetter_33 ?_
      refine lv_iload_n hx hcd dX9_isCutLetter_36 rfl (lv_at hl 1 rfl) ?_
      refine g_iald hx hcd hK hP (i := 0) rfl BMod_c5 (by omega) (by decide) dX9_isCutLetter_37 ?_
      have f5 := hli k.toNat
      refine g_zald hx hcd hK hP (i := 0) rfl BMod_c1 (by omega) (by decide) dX9_isCutLetter_38 ?_
      have f6 := hth ((li k.toNat).toNat)
      refine wi_if_eq (tgt := 46) hx hcd (by omega) dX9_isCutLetter_39 (by decide) (fun c39 => ?_) (fun c39 => ?_)
      ·
        refine wi_iconst hx hcd dX9_isCutLetter_46 ?_
        exact fin _ () H locs ls 47 dX9_isCutLetter_47 hP hD hS (by decide) (congrArg iI (by first | rfl | (rw [if_pos (by omega)]) | (rw [if_neg (by omega)]) | (split <;> omega)))
      ·
        refine wi_iconst hx hcd dX9_isCutLetter_42 ?_
        refine lv_goto (tgt := 47) hx hcd dX9_isCutLetter_43 (by decide) ?_
        exact fin _ () H locs ls 47 dX9_isCutLetter_47 hP hD hS (by decide) (congrArg iI (by first | rfl | (rw [if_pos (by omega)]) | (rw [if_neg (by omega)]) | (split <;> omega)))
