abbrev rmX9_heightOf : Room := { frames := 0, cells := 0, slots := 0, locals := 0 }
set_option maxHeartbeats 4000000 in
set_option maxRecDepth 100000 in
theorem kX9_heightOf (l : Launch) (D : va_G) (G : Nat → ClassId) (qM : Nat → Nat) (st : Int) (th : Nat → Int) (R : Nat → Nat → Int) (ac : Nat → Int) (up : Nat → Int) (li : Nat → Int) (le : Nat → Int) (pg : Int) (spc : Int) (pw : Int) (ld : Int) (sn : Int) (tk : Int) (ss : Int) (sh : Int) (dn : Int) (pp : Nat → Int) (ps : Nat → Int) (wo : Int) (lo : Int) (be : Int) (hb : Nat → Nat → Int) (tt : Nat → Int) (rf : Nat → Int) (mbt : Nat → Int) (mle : Nat → Int) (mbo : Nat → Int) (mwo : Int) (mlo : Int) (mbe : Int) (mmk : Nat → Int) (mms : Nat → Int) (mwh : Int) (c : Int) (t : Int) (hR : ∀ i j, 0 ≤ R i j ∧ R i j ≤ 9) (hmw : -1 ≤ mwo ∧ mwo ≤ 11) (hc : 0 ≤ c ∧ c < 12) (ht : 0 ≤ t ∧ t < 16) : CtI l yX9_heightOf wsX9_heightOf rmX9_heightOf D G [.ref (qM 0), .int (iI c), .int (iI t)] [BMod G qM st th (cmOf R) ac up li pg le spc pw ld (wr ss) sn tk ss sh dn pp ps (faOf wo lo be) (hbOf hb) tt (sh1 rf) mbt mle mbo mwo mlo mbe mmk mms mwh] (fun (r : Int32) (_ : Unit) => r = iI (hof R mwo c t)) (fun _ => [BMod G qM st th (cmOf R) ac up li pg le spc pw ld (wr ss) sn tk ss sh dn pp ps (faOf wo lo be) (hbOf hb) tt (sh1 rf) mbt mle mbo mwo mlo mbe mmk mms mwh]) := by
  refine CtI.ofI (cc := cX9_heightOf) (maxL := 4) (by decide) rfl (Nat.le_of_ble_eq_true rfl) ?_
  intro p0 e0 s0 m0 args bel met cd A0 ls Q0 hx hcd hml hown hts hK hP hD hA hl fin
  have hl : lv_has ls 4 [(0, .ref (qM 0)), (1, .int (iI c)), (2, .int (iI t))] := hl
  have hS : va_S A0 s0.heap s0.heap [] := va_S.rf
  have hH : va_P D vwCl (fl [BMod G qM st th (cmOf R) ac up li pg le spc pw ld (wr ss) sn tk ss sh dn pp ps (faOf wo lo be) (hbOf hb) tt (sh1 rf) mbt mle mbo mwo mlo mbe mmk mms mwh]) s0.heap := hP
  obtain ⟨H, eH⟩ : ∃ H, H = s0.heap := ⟨_, rfl⟩
  obtain ⟨locs, eL⟩ : ∃ locs : List Loc, locs = [] := ⟨_, rfl⟩
  have hS : va_S A0 s0.heap H locs := by rw [eH, eL]; exact hS
  have hP : va_P D vwCl (fl [BMod G qM st th (cmOf R) ac up li pg le spc pw ld (wr ss) sn tk ss sh dn pp ps (faOf wo lo be) (hbOf hb) tt (sh1 rf) mbt mle mbo mwo mlo mbe mmk mms mwh]) H := by rw [eH]; exact hP
  suffices goal : W p0 l e0 rmX9_heightOf s0 m0 args bel met cd H locs 0 0 Q0 (F0 m0 0 ls []) by rw [eH, eL] at goal; exact goal
  clear eH eL hH
  refine lv_aload_n hx hcd dX9_heightOf_0 rfl (lv_at hl 0 rfl) ?_
  refine g_get (C := RX9) (T := TX9) (N := 32) hx hcd hts (fun _ h => List.mem_cons_of_mem _ (List.mem_append_right _ h)) hown hK hP (i := 0) rfl BMod_c0 rfl 2 (by decide) (by decide +kernel) rfl dX9_heightOf_1 ?_
  refine wi_bipush hx hcd dX9_heightOf_4 (by decide) ?_
  refine lv_iload_n hx hcd dX9_heightOf_6 rfl (lv_at hl 1 rfl) ?_
  refine wi_imul hx hcd dX9_heightOf_7 ?_
  refine lv_iload_n hx hcd dX9_heightOf_8 rfl (lv_at hl 2 rfl) ?_
  refine wi_iadd hx hcd dX9_heightOf_9 ?_
  refine g_iald hx hcd hK hP (i := 0) rfl BMod_c2 (by omega) (by decide) dX9_heightOf_10 ?_
  rw [show ((cmOf R) (((16 * c) + t).toNat) : Int) = R c.toNat t.toNat from cm_at (c := c) (t := t) (by omega) (by omega)]
  have f1 := hR c.toNat t.toNat
  refine lv_istore_n (lv' := [(3, .int (iI (R c.toNat t.toNat))), (0, .ref (qM 0)), (1, .int (iI c)), (2, .int (iI t))]) hx hcd dX9_heightOf_11 rfl hl (by decide) rfl (fun ls hl => ?_)
  refine lv_iload_n hx hcd dX9_heightOf_12 rfl (lv_at hl 2 rfl) ?_
  refine lv_aload_n hx hcd dX9_heightOf_13 rfl (lv_at hl 1 rfl) ?_
  refine g_get (C := RX9) (T := TX9) (N := 32) hx hcd hts (fun _ h => List.mem_cons_of_mem _ (List.mem_append_right _ h)) hown hK hP (i := 0) rfl BMod_c0 rfl 26 (by decide) (by decide +kernel) rfl dX9_heightOf_14 ?_
  refine wi_icmp_ne (tgt := 30) hx hcd (by omega) (by omega) dX9_heightOf_17 (by decide) (fun c17 => ?_) (fun c17 => ?_)
  ·
    refine lv_iload_n hx hcd dX9_heightOf_30 rfl (lv_at hl 0 rfl) ?_
    exact fin _ () H locs ls 31 dX9_heightOf_31 hP hD hS (trivial) (congrArg iI (by unfold hof hv; split <;> omega))
  ·
    refine lv_iload_n hx hcd dX9_heightOf_20 rfl (lv_at hl 0 rfl) ?_
    refine wi_if_le (tgt := 30) hx hcd (by omega) dX9_heightOf_21 (by decide) (fun c21 => ?_) (fun c21 => ?_)
    ·
      refine lv_iload_n hx hcd dX9_heightOf_30 rfl (lv_at hl 0 rfl) ?_
      exact fin _ () H locs ls 31 dX9_heightOf_31 hP hD hS (trivial) (congrArg iI (by unfold hof hv; split <;> omega))
    ·
      refine lv_iload_n hx hcd dX9_heightOf_24 rfl (lv_at hl 0 rfl) ?_
      refine wi_iconst hx hcd dX9_heightOf_25 ?_
      refine wi_isub hx hcd dX9_heightOf_26 ?_
      refine lv_goto (tgt := 31) hx hcd dX9_heightOf_27 (by decide) ?_
      exact fin _ () H locs ls 31 dX9_heightOf_31 hP hD hS (trivial) (congrArg iI (by unfold hof hv; split <;> omega))
