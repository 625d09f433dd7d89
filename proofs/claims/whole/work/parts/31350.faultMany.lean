abbrev rmX9_faultMany : Room := { frames := 0, cells := 0, slots := 0, locals := 0 }
set_option maxHeartbeats 4000000 in
set_option maxRecDepth 100000 in
theorem kX9_faultMany (l : Launch) (D : va_G) (G : Nat → ClassId) (qM : Nat → Nat) (st : Int) (th : Nat → Int) (R : Nat → Nat → Int) (ac : Nat → Int) (up : Nat → Int) (li : Nat → Int) (le : Nat → Int) (pg : Int) (spc : Int) (pw : Int) (ld : Int) (sn : Int) (tk : Int) (ss : Int) (sh : Int) (dn : Int) (pp : Nat → Int) (ps : Nat → Int) (wo : Int) (lo : Int) (be : Int) (hb : Nat → Nat → Int) (tt : Nat → Int) (rf : Nat → Int) (mbt : Nat → Int) (mle : Nat → Int) (mbo : Nat → Int) (mwo : Int) (mlo : Int) (mbe : Int) (mmk : Nat → Int) (mms : Nat → Int) (mwh : Int) (hwo : -1 ≤ wo ∧ wo ≤ 11) (hlo : -1 ≤ lo ∧ lo ≤ 11) (hbe : -1 ≤ be ∧ be ≤ 1) : CtI l yX9_faultMany wsX9_faultMany rmX9_faultMany D G [.ref (qM 0)] [BMod G qM st th (cmOf R) ac up li pg le spc pw ld (wr ss) sn tk ss sh dn pp ps (faOf wo lo be) (hbOf hb) tt (sh1 rf) mbt mle mbo mwo mlo mbe mmk mms mwh] (fun (r : Int32) (_ : Unit) => r = iI ((if wo = -1 then 0 else 1) + (if lo = -1 then 0 else 1) + (if be = -1 then 0 else 1))) (fun _ => [BMod G qM st th (cmOf R) ac up li pg le spc pw ld (wr ss) sn tk ss sh dn pp ps (faOf wo lo be) (hbOf hb) tt (sh1 rf) mbt mle mbo mwo mlo mbe mmk mms mwh]) := by
  refine CtI.ofI (cc := cX9_faultMany) (maxL := 1) (by decide) rfl (Nat.le_of_ble_eq_true rfl) ?_
  intro p0 e0 s0 m0 args bel met cd A0 ls Q0 hx hcd hml hown hts hK hP hD hA hl fin
  have hl : lv_has ls 1 [(0, .ref (qM 0))] := hl
  have hS : va_S A0 s0.heap s0.heap [] := va_S.rf
  have hH : va_P D vwCl (fl [BMod G qM st th (cmOf R) ac up li pg le spc pw ld (wr ss) sn tk ss sh dn pp ps (faOf wo lo be) (hbOf hb) tt (sh1 rf) mbt mle mbo mwo mlo mbe mmk mms mwh]) s0.heap := hP
  obtain ⟨H, eH⟩ : ∃ H, H = s0.heap := ⟨_, rfl⟩
  obtain ⟨locs, eL⟩ : ∃ locs : List Loc, locs = [] := ⟨_, rfl⟩
  have hS : va_S A0 s0.heap H locs := by rw [eH, eL]; exact hS
  have hP : va_P D vwCl (fl [BMod G qM st th (cmOf R) ac up li pg le spc pw ld (wr ss) sn tk ss sh dn pp ps (faOf wo lo be) (hbOf hb) tt (sh1 rf) mbt mle mbo mwo mlo mbe mmk mms mwh]) H := by rw [eH]; exact hP
  suffices goal : W p0 l e0 rmX9_faultMany s0 m0 args bel met cd H locs 0 0 Q0 (F0 m0 0 ls []) by rw [eH, eL] at goal; exact goal
  clear eH eL hH
  refine lv_aload_n hx hcd dX9_faultMany_0 rfl (lv_at hl 0 rfl) ?_
  refine g_get (C := RX9) (T := TX9) (N := 32) hx hcd hts (fun _ h => List.mem_cons_of_mem _ (List.mem_append_right _ h)) hown hK hP (i := 0) rfl BMod_c0 rfl 19 (by decide) (by decide +kernel) rfl dX9_faultMany_1 ?_
  refine wi_iconst hx hcd dX9_faultMany_4 ?_
  refine g_iald hx hcd hK hP (i := 0) rfl BMod_c9 (by omega) (by decide) dX9_faultMany_5 ?_
  rw [show ((faOf wo lo be) ((1 : Int).toNat) : Int) = wo from rfl]
  refine wi_if_ge (tgt := 13) hx hcd (by omega) dX9_faultMany_6 (by decide) (fun c6 => ?_) (fun c6 => ?_)
  ·
    refine wi_iconst hx hcd dX9_faultMany_13 ?_
    refine lv_aload_n hx hcd dX9_faultMany_14 rfl (lv_at hl 0 rfl) ?_
    refine g_get (C := RX9) (T := TX9) (N := 32) hx hcd hts (fun _ h => List.mem_cons_of_mem _ (List.mem_append_right _ h)) hown hK hP (i := 0) rfl BMod_c0 rfl 19 (by decide) (by decide +kernel) rfl dX9_faultMany_15 ?_
    refine wi_iconst hx hcd dX9_faultMany_18 ?_
    refine g_iald hx hcd hK hP (i := 0) rfl BMod_c9 (by omega) (by decide) dX9_faultMany_19 ?_
    rw [show ((faOf wo lo be) ((2 : Int).toNat) : Int) = lo from rfl]
    refine wi_if_ge (tgt := 27) hx hcd (by omega) dX9_faultMany_20 (by decide) (fun c20 => ?_) (fun c20 => ?_)
    ·
      refine wi_iconst hx hcd dX9_faultMany_27 ?_
      refine wi_iadd hx hcd dX9_faultMany_28 ?_
      refine lv_aload_n hx hcd dX9_faultMany_29 rfl (lv_at hl 0 rfl) ?_
      refine g_get (C := RX9) (T := TX9) (N := 32) hx hcd hts (fun _ h => List.mem_cons_of_mem _ (List.mem_append_right _ h)) hown hK hP (i := 0) rfl BMod_c0 rfl 19 (by decide) (by decide +kernel) rfl dX9_faultMany_30 ?_
      refine wi_iconst hx hcd dX9_faultMany_33 ?_
      refine g_iald hx hcd hK hP (i := 0) rfl BMod_c9 (by omega) (by decide) dX9_faultMany_34 ?_
      rw [show ((faOf wo lo be) ((3 : Int).toNat) : Int) = be from rfl]
      refine wi_if_ge (tgt := 42) hx hcd (by omega) dX9_faultMany_35 (by decide) (fun c35 => ?_) (fun c35 => ?_)
      ·
        refine wi_iconst hx hcd dX9_faultMany_42 ?_
        refine wi_iadd hx hcd dX9_faultMany_43 ?_
        exact fin _ () H locs ls 44 dX9_faultMany_44 hP hD hS (trivial) (congrArg iI (by (repeat' split) <;> omega))
      ·
        refine wi_iconst hx hcd dX9_faultMany_38 ?_
        refine lv_goto (tgt := 43) hx hcd dX9_faultMany_39 (by decide) ?_
        refine wi_iadd hx hcd dX9_faultMany_43 ?_
        exact fin _ () H locs ls 44 dX9_faultMany_44 hP hD hS (trivial) (congrArg iI (by (repeat' split) <;> omega))
    ·
      refine wi_iconst hx hcd dX9_faultMany_23 ?_
      refine lv_goto (tgt := 28) hx hcd dX9_faultMany_24 (by decide) ?_
      refine wi_iadd hx hcd dX9_faultMany_28 ?_
      refine lv_aload_n hx hcd dX9_faultMany_29 rfl (lv_at hl 0 rfl) ?_
      refine g_get (C := RX9) (T := TX9) (N := 32) hx hcd hts (fun _ h => List.mem_cons_of_mem _ (List.mem_append_right _ h)) hown hK hP (i := 0) rfl BMod_c0 rfl 19 (by decide) (by decide +kernel) rfl dX9_faultMany_30 ?_
      refine wi_iconst hx hcd dX9_faultMany_33 ?_
      refine g_iald hx hcd hK hP (i := 0) rfl BMod_c9 (by omega) (by decide) dX9_faultMany_34 ?_
      rw [show ((faOf wo lo be) ((3 : Int).toNat) : Int) = be from rfl]
      refine wi_if_ge (tgt := 42) hx hcd (by omega) dX9_faultMany_35 (by decide) (fun c35 => ?_) (fun c35 => ?_)
      ·
        refine wi_iconst hx hcd dX9_faultMany_42 ?_
        refine wi_iadd hx hcd dX9_faultMany_43 ?_
        exact fin _ () H locs ls 44 dX9_faultMany_44 hP hD hS (trivial) (congrArg iI (by (repeat' split) <;> omega))
      ·
        refine wi_iconst hx hcd dX9_faultMany_38 ?_
        refine lv_goto (tgt := 43) hx hcd dX9_faultMany_39 (by decide) ?_
        refine wi_iadd hx hcd dX9_faultMany_43 ?_
        exact fin _ () H locs ls 44 dX9_faultMany_44 hP hD hS (trivial) (congrArg iI (by (repeat' split) <;> omega))
  ·
    refine wi_iconst hx hcd dX9_faultMany_9 ?_
    refine lv_goto (tgt := 14) hx hcd dX9_faultMany_10 (by decide) ?_
    refine lv_aload_n hx hcd dX9_faultMany_14 rfl (lv_at hl 0 rfl) ?_
    refine g_get (C := RX9) (T := TX9) (N := 32) hx hcd hts (fun _ h => List.mem_cons_of_mem _ (List.mem_append_right _ h)) hown hK hP (i := 0) rfl BMod_c0 rfl 19 (by decide) (by decide +kernel) rfl dX9_faultMany_15 ?_
    refine wi_iconst hx hcd dX9_faultMany_18 ?_
    refine g_iald hx hcd hK hP (i := 0) rfl BMod_c9 (by omega) (by decide) dX9_faultMany_19 ?_
    rw [show ((faOf wo lo be) ((2 : Int).toNat) : Int) = lo from rfl]
    refine wi_if_ge (tgt := 27) hx hcd (by omega) dX9_faultMany_20 (by decide) (fun c20 => ?_) (fun c20 => ?_)
    ·
      refine wi_iconst hx hcd dX9_faultMany_27 ?_
      refine wi_iadd hx hcd dX9_faultMany_28 ?_
      refine lv_aload_n hx hcd dX9_faultMany_29 rfl (lv_at hl 0 rfl) ?_
      refine g_get (C := RX9) (T := TX9) (N := 32) hx hcd hts (fun _ h => List.mem_cons_of_mem _ (List.mem_append_right _ h)) hown hK hP (i := 0) rfl BMod_c0 rfl 19 (by decide) (by decide +kernel) rfl dX9_faultMany_30 ?_
      refine wi_iconst hx hcd dX9_faultMany_33 ?_
      refine g_iald hx hcd hK hP (i := 0) rfl BMod_c9 (by omega) (by decide) dX9_faultMany_34 ?_
      rw [show ((faOf wo lo be) ((3 : Int).toNat) : Int) = be from rfl]
      refine wi_if_ge (tgt := 42) hx hcd (by omega) dX9_faultMany_35 (by decide) (fun c35 => ?_) (fun c35 => ?_)
      ·
        refine wi_iconst hx hcd dX9_faultMany_42 ?_
        refine wi_iadd hx hcd dX9_faultMany_43 ?_
        exact fin _ () H locs ls 44 dX9_faultMany_44 hP hD hS (trivial) (congrArg iI (by (repeat' split) <;> omega))
      ·
        refine wi_iconst hx hcd dX9_faultMany_38 ?_
        refine lv_goto (tgt := 43) hx hcd dX9_faultMany_39 (by decide) ?_
        refine wi_iadd hx hcd dX9_faultMany_43 ?_
        exact fin _ () H locs ls 44 dX9_faultMany_44 hP hD hS (trivial) (congrArg iI (by (repeat' split) <;> omega))
    ·
      refine wi_iconst hx hcd dX9_faultMany_23 ?_
      refine lv_goto (tgt := 28) hx hcd dX9_faultMany_24 (by decide) ?_
      refine wi_iadd hx hcd dX9_faultMany_28 ?_
      refine lv_aload_n hx hcd dX9_faultMany_29 rfl (lv_at hl 0 rfl) ?_
      refine g_get (C := RX9) (T := TX9) (N := 32) hx hcd hts (fun _ h => List.mem_cons_of_mem _ (List.mem_append_right _ h)) hown hK hP (i := 0) rfl BMod_c0 rfl 19 (by decide) (by decide +kernel) rfl dX9_faultMany_30 ?_
      refine wi_iconst hx hcd dX9_faultMany_33 ?_
      refine g_iald hx hcd hK hP (i := 0) rfl BMod_c9 (by omega) (by decide) dX9_faultMany_34 ?_
      rw [show ((faOf wo lo be) ((3 : Int).toNat) : Int) = be from rfl]
      refine wi_if_ge (tgt := 42) hx hcd (by omega) dX9_faultMany_35 (by decide) (fun c35 => ?_) (fun c35 => ?_)
      ·
        refine wi_iconst hx hcd dX9_faultMany_42 ?_
        refine wi_iadd hx hcd dX9_faultMany_43 ?_
        exact fin _ () H locs ls 44 dX9_faultMany_44 hP hD hS (trivial) (congrArg iI (by (repeat' split) <;> omega))
      ·
        refine wi_iconst hx hcd dX9_faultMany_38 ?_
        refine lv_goto (tgt := 43) hx hcd dX9_faultMany_39 (by decide) ?_
        refine wi_iadd hx hcd dX9_faultMany_43 ?_
        exact fin _ () H locs ls 44 dX9_faultMany_44 hP hD hS (trivial) (congrArg iI (by (repeat' split) <;> omega))
