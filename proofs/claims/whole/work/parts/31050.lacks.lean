abbrev rmX9_lacks : Room := { frames := 2, cells := 0, slots := 0, locals := 42 }
set_option maxHeartbeats 4000000 in
set_option maxRecDepth 100000 in
theorem kX9_lacks (l : Launch) (D : va_G) (G : Nat → ClassId) (qM : Nat → Nat) (st : Int) (th : Nat → Int) (R : Nat → Nat → Int) (ac : Nat → Int) (up : Nat → Int) (li : Nat → Int) (le : Nat → Int) (pg : Int) (spc : Int) (pw : Int) (ld : Int) (sn : Int) (tk : Int) (ss : Int) (sh : Int) (dn : Int) (pp : Nat → Int) (ps : Nat → Int) (wo : Int) (lo : Int) (be : Int) (hb : Nat → Nat → Int) (tt : Nat → Int) (rf : Nat → Int) (mbt : Nat → Int) (mle : Nat → Int) (mbo : Nat → Int) (mwo : Int) (mlo : Int) (mbe : Int) (mmk : Nat → Int) (mms : Nat → Int) (mwh : Int) (c : Int) (hth : ∀ k, th k = 0 ∨ th k = 1) (hc_ : -2147483648 ≤ c ∧ c < 2147483648) : CtI l yX9_lacks wsX9_lacks rmX9_lacks D G [.ref (qM 0), .int (iI c)] [BMod G qM st th (cmOf R) ac up li pg le spc pw ld (wr ss) sn tk ss sh dn pp ps (faOf wo lo be) (hbOf hb) tt (sh1 rf) mbt mle mbo mwo mlo mbe mmk mms mwh] (fun (r : Int32) (_ : Unit) => r = iI (rC th c)) (fun _ => [BMod G qM st th (cmOf R) ac up li pg le spc pw ld (wr ss) sn tk ss sh dn pp ps (faOf wo lo be) (hbOf hb) tt (sh1 rf) mbt mle mbo mwo mlo mbe mmk mms mwh]) := by
  refine CtI.ofI (cc := cX9_lacks) (maxL := 2) (by decide) rfl (Nat.le_of_ble_eq_true rfl) ?_
  intro p0 e0 s0 m0 args bel met cd A0 ls Q0 hx hcd hml hown hts hK hP hD hA hl fin
  have hl : lv_has ls 2 [(0, .ref (qM 0)), (1, .int (iI c))] := hl
  have hS : va_S A0 s0.heap s0.heap [] := va_S.rf
  have hH : va_P D vwCl (fl [BMod G qM st th (cmOf R) ac up li pg le spc pw ld (wr ss) sn tk ss sh dn pp ps (faOf wo lo be) (hbOf hb) tt (sh1 rf) mbt mle mbo mwo mlo mbe mmk mms mwh]) s0.heap := hP
  obtain ⟨H, eH⟩ : ∃ H, H = s0.heap := ⟨_, rfl⟩
  obtain ⟨locs, eL⟩ : ∃ locs : List Loc, locs = [] := ⟨_, rfl⟩
  have hS : va_S A0 s0.heap H locs := by rw [eH, eL]; exact hS
  have hP : va_P D vwCl (fl [BMod G qM st th (cmOf R) ac up li pg le spc pw ld (wr ss) sn tk ss sh dn pp ps (faOf wo lo be) (hbOf hb) tt (sh1 rf) mbt mle mbo mwo mlo mbe mmk mms mwh]) H := by rw [eH]; exact hP
  suffices goal : W p0 l e0 rmX9_lacks s0 m0 args bel met cd H locs 0 0 Q0 (F0 m0 0 ls []) by rw [eH, eL] at goal; exact goal
  clear eH eL hH
  refine lv_iload_n hx hcd dX9_lacks_0 rfl (lv_at hl 1 rfl) ?_
  refine cS_i (wc := []) (wr := [BMod G qM st th (cmOf R) ac up li pg le spc pw ld (wr ss) sn tk ss sh dn pp ps (faOf wo lo be) (hbOf hb) tt (sh1 rf) mbt mle mbo mwo mlo mbe mmk mms mwh]) (w1 := fun (_ : Unit) => []) (Bs1 := fun (_ : Unit) => [BMod G qM st th (cmOf R) ac up li pg le spc pw ld (wr ss) sn tk ss sh dn pp ps (faOf wo lo be) (hbOf hb) tt (sh1 rf) mbt mle mbo mwo mlo mbe mmk mms mwh]) (As := [.int (iI c)]) (rest := []) (kX9_isCam l D G c (by first | assumption | omega)) rfl ⟨hx, hcd, hml, hown, hts⟩ (va_cwS 1 hts gX9_lacks_X9_isCam rfl rfl rfl (by decide +kernel) ⟨by decide, by decide⟩) rfl hl.1 (Nat.le_of_ble_eq_true rfl) ⟨Nat.le_of_ble_eq_true rfl, Nat.le_of_ble_eq_true rfl⟩ dX9_lacks_1 hK hP hD hS hA (perm_i2 [0] 1 rfl (by decide) rfl) (fun _ => perm_i2 [0] 1 rfl (by decide) rfl) (fun r u H locs hw1 hP hD hS => ?_)
  subst hw1
  have hicc := if01 (0 ≤ c ∧ c ≤ 11)
  refine wi_if_ne (tgt := 11) hx hcd (by omega) dX9_lacks_4 (by decide) (fun c4 => ?_) (fun c4 => ?_)
  ·
    refine lv_aload_n hx hcd dX9_lacks_11 rfl (lv_at hl 0 rfl) ?_
    refine g_get (C := RX9) (T := TX9) (N := 32) hx hcd hts (fun _ h => List.mem_cons_of_mem _ (List.mem_append_right _ h)) hown hK hP (i := 0) rfl BMod_c0 rfl 1 (by decide) (by decide +kernel) rfl dX9_lacks_12 ?_
    refine lv_iload_n hx hcd dX9_lacks_15 rfl (lv_at hl 1 rfl) ?_
    refine g_zald hx hcd hK hP (i := 0) rfl BMod_c1 (by omega) (by decide) dX9_lacks_16 ?_
    have f2 := hth c.toNat
    refine wi_if_eq (tgt := 24) hx hcd (by omega) dX9_lacks_17 (by decide) (fun c17 => ?_) (fun c17 => ?_)
    ·
      refine wi_bipush hx hcd dX9_lacks_24 (by decide) ?_
      exact fin _ () H locs ls 26 dX9_lacks_26 hP hD hS (trivial) (congrArg iI (by unfold rC; (repeat' split) <;> omega))
    ·
      refine wi_iconst hx hcd dX9_lacks_20 ?_
      refine lv_goto (tgt := 26) hx hcd dX9_lacks_21 (by decide) ?_
      exact fin _ () H locs ls 26 dX9_lacks_26 hP hD hS (trivial) (congrArg iI (by unfold rC; (repeat' split) <;> omega))
  ·
    refine wi_iconst hx hcd dX9_lacks_7 ?_
    refine lv_goto (tgt := 26) hx hcd dX9_lacks_8 (by decide) ?_
    exact fin _ () H locs ls 26 dX9_lacks_26 hP hD hS (trivial) (congrArg iI (by unfold rC; (repeat' split) <;> omega))
