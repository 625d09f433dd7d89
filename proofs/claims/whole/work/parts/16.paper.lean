abbrev rmX6_hasPlace : Room := { frames := 0, cells := 0, slots := 0, locals := 0 }
set_option maxHeartbeats 4000000 in
set_option maxRecDepth 100000 in
theorem kX6_hasPlace (l : Launch) (D : va_G) (G : Nat → ClassId) (x : Int) (yy : Int) (hx_ : -2147483648 ≤ x ∧ x < 2147483648) (hy_ : -2147483648 ≤ yy ∧ yy < 2147483648) : CtI l yX6_hasPlace wsX6_hasPlace rmX6_hasPlace D G [.int (iI x), .int (iI yy)] [] (fun (r : Int32) (_ : Unit) => r = iI (if 0 ≤ x ∧ x < 120 ∧ 0 ≤ yy ∧ yy < 10 then 1 else 0)) (fun _ => []) := by
  refine CtI.ofZ (cc := cX6_hasPlace) (maxL := 2) (by decide) rfl (Nat.le_of_ble_eq_true rfl) ?_
  intro p0 e0 s0 m0 args bel met cd A0 ls Q0 hx hcd hml hown hts hK hP hD hA hl fin
  have hl : lv_has ls 2 [(0, .int (iI x)), (1, .int (iI yy))] := hl
  have hS : va_S A0 s0.heap s0.heap [] := va_S.rf
  have hH : va_P D vwCl (fl []) s0.heap := hP
  obtain ⟨H, eH⟩ : ∃ H, H = s0.heap := ⟨_, rfl⟩
  obtain ⟨locs, eL⟩ : ∃ locs : List Loc, locs = [] := ⟨_, rfl⟩
  have hS : va_S A0 s0.heap H locs := by rw [eH, eL]; exact hS
  have hP : va_P D vwCl (fl []) H := by rw [eH]; exact hP
  suffices goal : W p0 l e0 rmX6_hasPlace s0 m0 args bel met cd H locs 0 0 Q0 (F0 m0 0 ls []) by rw [eH, eL] at goal; exact goal
  clear eH eL hH
  refine lv_iload_n hx hcd dX6_hasPlace_0 rfl (lv_at hl 0 rfl) ?_
  refine wi_if_lt (tgt := 24) hx hcd (by omega) dX6_hasPlace_1 (by decide) (fun c1 => ?_) (fun c1 => ?_)
  ·
    refine wi_iconst hx hcd dX6_hasPlace_24 ?_
    exact fin _ () H locs ls 25 dX6_hasPlace_25 hP hD hS (by decide) (congrArg iI (by first | rfl | (rw [if_pos (by omega)]) | (rw [if_neg (by omega)]) | (split <;> omega)))
  ·
    refine lv_iload_n hx hcd dX6_hasPlace_4 rfl (lv_at hl 0 rfl) ?_
    refine wi_bipush hx hcd dX6_hasPlace_5 (by decide) ?_
    refine wi_icmp_ge (tgt := 24) hx hcd (by omega) (by omega) dX6_hasPlace_7 (by decide) (fun c7 => ?_) (fun c7 => ?_)
    ·
      refine wi_iconst hx hcd dX6_hasPlace_24 ?_
      exact fin _ () H locs ls 25 dX6_hasPlace_25 hP hD hS (by decide) (congrArg iI (by first | rfl | (rw [if_pos (by omega)]) | (rw [if_neg (by omega)]) | (split <;> omega)))
    ·
      refine lv_iload_n hx hcd dX6_hasPlace_10 rfl (lv_at hl 1 rfl) ?_
      refine wi_if_lt (tgt := 24) hx hcd (by omega) dX6_hasPlace_11 (by decide) (fun c11 => ?_) (fun c11 => ?_)
      ·
        refine wi_iconst hx hcd dX6_hasPlace_24 ?_
        exact fin _ () H locs ls 25 dX6_hasPlace_25 hP hD hS (by decide) (congrArg iI (by first | rfl | (rw [if_pos (by omega)]) | (rw [if_neg (by omega)]) | (split <;> omega)))
      ·
        refine lv_iload_n hx hcd dX6_hasPlace_14 rfl (lv_at hl 1 rfl) ?_
        refine wi_bipush hx hcd dX6_hasPlace_15 (by decide) ?_
        refine wi_icmp_ge (tgt := 24) hx hcd (by omega) (by omega) dX6_hasPlace_17 (by decide) (fun c17 => ?_) (fun c17 => ?_)
        ·
          refine wi_iconst hx hcd dX6_hasPlace_24 ?_
          exact fin _ () H locs ls 25 dX6_hasPlace_25 hP hD hS (by decide) (congrArg iI (by first | rfl | (rw [if_pos (by omega)]) | (rw [if_neg (by omega)]) | (split <;> omega)))
        ·
          refine wi_iconst hx hcd dX6_hasPlace_20 ?_
          refine lv_goto (tgt := 25) hx hcd dX6_hasPlace_21 (by decide) ?_
          exact fin _ () H locs ls 25 dX6_hasPlace_25 hP hD hS (by decide) (congrArg iI (by first | rfl | (rw [if_pos (by omega)]) | (rw [if_neg (by omega)]) | (split <;> omega)))

abbrev rmX6_clear : Room := { frames := 1, cells := 0, slots := 0, locals := 24 }
set_option maxHeartbeats 4000000 in
set_option maxRecDepth 100000 in
theorem kX6_clear (l : Launch) (D : va_G) (G : Nat → ClassId) (qp : Nat → Nat) (wd : Nat → Int64) (N : Nat) (fi : Nat → Int) : CtV l yX6_clear wsX6_clear rmX6_clear D G [.ref (qp 0)] [BPap G qp wd N fi] (fun _ : Unit => True) (fun _ => [BPap G qp (filL 0 19 wd) N fi]) := by
  refine CtV.of (cc := cX6_clear) (maxL := 1) (by decide) rfl (Nat.le_of_ble_eq_true rfl) ?_
  intro p0 e0 s0 m0 args bel met cd A0 ls Q0 hx hcd hml hown hts hK hP hD hA hl fin
  have hl : lv_has ls 1 [(0, .ref (qp 0))] := hl
  have hS : va_S A0 s0.heap s0.heap [] := va_S.rf
  have hH : va_P D vwCl (fl [BPap G qp wd N fi]) s0.heap := hP
  obtain ⟨H, eH⟩ : ∃ H, H = s0.heap := ⟨_, rfl⟩
  obtain ⟨locs, eL⟩ : ∃ locs : List Loc, locs = [] := ⟨_, rfl⟩
  have hS : va_S A0 s0.heap H locs := by rw [eH, eL]; exact hS
  have hP : va_P D vwCl (fl [BPap G qp wd N fi]) H := by rw [eH]; exact hP
  suffices goal : W p0 l e0 rmX6_clear s0 m0 args bel met cd H locs 0 0 Q0 (F0 m0 0 ls []) by rw [eH, eL] at goal; exact goal
  clear eH eL hH
  refine lv_aload_n hx hcd dX6_clear_0 rfl (lv_at hl 0 rfl) ?_
  refine g_get (C := RX6) (T := TX6) (N := 2) hx hcd hts (fun _ h => List.mem_cons_of_mem _ (List.mem_append_right _ h)) hown hK hP (i := 0) rfl BPap_c0 rfl 0 (by decide) (by decide +kernel) rfl dX6_clear_1 ?_
  refine lv_lconst (v := 0) hx hcd dX6_clear_4 rfl ?_
  refine cS_v (wc := [BPap G qp wd N fi]) (wr := []) (w1 := fun _ => [BPap G qp (filL 0 19 wd) N fi]) (Bs1 := fun _ => [BPap G qp (filL 0 19 wd) N fi]) (As := [.ref (qp 1), .long 0]) (rest := []) (kJ7_fill_d0a16 l D G [BPap G qp wd N fi] [BPap G qp (filL 0 19 wd) N fi] 0 1 (BPap G qp wd N fi) (BPap G qp (filL 0 19 wd) N fi) (qp 1) 19 wd 0 (by decide) rfl BPap_c1 rfl rfl) rfl ⟨hx, hcd, hml, hown, hts⟩ (va_cwS 2 hts gX6_clear_J7_fill_d0a16 rfl rfl rfl (by decide +kernel) ⟨by decide, by decide⟩) rfl hl.1 (Nat.le_of_ble_eq_true rfl) ⟨Nat.le_of_ble_eq_true rfl, Nat.le_of_ble_eq_true rfl⟩ dX6_clear_5 hK hP hD hS hA (perm_idx [0] rfl rfl) (fun _ => (perm_idx [0] rfl rfl)) (fun u H locs _ hP hD hS => ?_)
  exact fin () H locs ls 8 dX6_clear_8 hP hD hS (trivial)

abbrev rmX6_isMarked : Room := { frames := 0, cells := 0, slots := 0, locals := 0 }
set_option maxHeartbeats 4000000 in
set_option maxRecDepth 100000 in
theorem kX6_isMarked (l : Launch) (D : va_G) (G : Nat → ClassId) (qp : Nat → Nat) (wd : Nat → Int64) (N : Nat) (fi : Nat → Int) (M : Nat → Bool) (x : Int) (yy : Int) (hM : bits wd M) (hx_ : 0 ≤ x ∧ x < 120) (hy_ : 0 ≤ yy ∧ yy < 10) : CtI l yX6_isMarked wsX6_isMarked rmX6_isMarked D G [.ref (qp 0), .int (iI x), .int (iI yy)] [BPap G qp wd N fi] (fun (r : Int32) (_ : Unit) => r = iI (if M (yy * 120 + x).toNat = true then 1 else 0)) (fun _ => [BPap G qp wd N fi]) := by
  refine CtI.ofZ (cc := cX6_isMarked) (maxL := 4) (by decide) rfl (Nat.le_of_ble_eq_true rfl) ?_
  intro p0 e0 s0 m0 args bel met cd A0 ls Q0 hx hcd hml hown hts hK hP hD hA hl fin
  have hl : lv_has ls 4 [(0, .ref (qp 0)), (1, .int (iI x)), (2, .int (iI yy))] := hl
  have hS : va_S A0 s0.heap s0.heap [] := va_S.rf
  have hH : va_P D vwCl (fl [BPap G qp wd N fi]) s0.heap := hP
  obtain ⟨H, eH⟩ : ∃ H, H = s0.heap := ⟨_, rfl⟩
  obtain ⟨locs, eL⟩ : ∃ locs : List Loc, locs = [] := ⟨_, rfl⟩
  have hS : va_S A0 s0.heap H locs := by rw [eH, eL]; exact hS
  have hP : va_P D vwCl (fl [BPap G qp wd N fi]) H := by rw [eH]; exact hP
  suffices goal : W p0 l e0 rmX6_isMarked s0 m0 args bel met cd H locs 0 0 Q0 (F0 m0 0 ls []) by rw [eH, eL] at goal; exact goal
  clear eH eL hH
  refine lv_iload_n hx hcd dX6_isMarked_0 rfl (lv_at hl 2 rfl) ?_
  refine wi_bipush hx hcd dX6_isMarked_1 (by decide) ?_
  refine wi_imul hx hcd dX6_isMarked_3 ?_
  refine lv_iload_n hx hcd dX6_isMarked_4 rfl (lv_at hl 1 rfl) ?_
  refine wi_iadd hx hcd dX6_isMarked_5 ?_
  refine lv_istore_n (lv' := [(3, .int (iI ((yy * 120) + x))), (0, .ref (qp 0)), (1, .int (iI x)), (2, .int (iI yy))]) hx hcd dX6_isMarked_6 rfl hl (by decide) rfl (fun ls hl => ?_)
  refine lv_aload_n hx hcd dX6_isMarked_7 rfl (lv_at hl 1 rfl) ?_
  refine g_get (C := RX6) (T := TX6) (N := 2) hx hcd hts (fun _ h => List.mem_cons_of_mem _ (List.mem_append_right _ h)) hown hK hP (i := 0) rfl BPap_c0 rfl 0 (by decide) (by decide +kernel) rfl dX6_isMarked_8 ?_
  refine lv_iload_n hx hcd dX6_isMarked_11 rfl (lv_at hl 0 rfl) ?_
  refine wi_bipush hx hcd dX6_isMarked_12 (by decide) ?_
  refine wi_shr6 hx hcd (by omega) dX6_isMarked_14 ?_
  refine g_lald hx hcd hK hP (i := 0) rfl BPap_c1 (by omega) (by decide) dX6_isMarked_15 ?_
  refine lv_iload_n hx hcd dX6_isMarked_16 rfl (lv_at hl 0 rfl) ?_
  refine wi_bipush hx hcd dX6_isMarked_17 (by decide) ?_
  refine wi_and63 hx hcd (by omega) dX6_isMarked_19 ?_
  refine wi_lushr hx hcd dX6_isMarked_20 ?_
  refine lv_lconst (v := 1) hx hcd dX6_isMarked_21 rfl ?_
  refine lv_land hx hcd dX6_isMarked_22 ?_
  refine lv_lconst (v := 0) hx hcd dX6_isMarked_23 rfl ?_
  refine wi_lcmp0 hx hcd dX6_isMarked_24 ?_
  have f1 := cz_rng ((lsr (wd ((((yy * 120) + x) / 64).toNat)) (((yy * 120) + x) % 64)) &&& 1)
  refine wi_if_eq (tgt := 32) hx hcd (by omega) dX6_isMarked_25 (by decide) (fun c25 => ?_) (fun c25 => ?_)
  ·
    refine wi_iconst hx hcd dX6_isMarked_32 ?_
    exact fin _ () H locs ls 33 dX6_isMarked_33 hP hD hS (by decide) (congrArg iI (by
        have hg := bits_get hM (z := yy * 120 + x) (by omega)
        rw [← cz_0] at hg
        cases q : M (yy * 120 + x).toNat with
        | false => rw [q] at hg; first | (exact absurd (hg.mpr rfl) c25) | rfl
        | true => rw [q] at hg; first | (exact absurd (hg.mp c25) (by decide)) | rfl))
  ·
    refine wi_iconst hx hcd dX6_isMarked_28 ?_
    refine lv_goto (tgt := 33) hx hcd dX6_isMarked_29 (by decide) ?_
    exact fin _ () H locs ls 33 dX6_isMarked_33 hP hD hS (by decide) (congrArg iI (by
        have hg := bits_get hM (z := yy * 120 + x) (by omega)
        rw [← cz_0] at hg
        cases q : M (yy * 120 + x).toNat with
        | false => rw [q] at hg; first | (exact absurd (hg.mpr rfl) c25) | rfl
        | true => rw [q] at hg; first | (exact absurd (hg.mp c25) (by decide)) | rfl))

abbrev rmX6_put : Room := { frames := 1, cells := 0, slots := 0, locals := 23 }
set_option maxHeartbeats 4000000 in
set_option maxRecDepth 100000 in
theorem kX6_put (l : Launch) (D : va_G) (G : Nat → ClassId) (qp : Nat → Nat) (wd : Nat → Int64) (N : Nat) (fi : Nat → Int) (M : Nat → Bool) (x : Int) (yy : Int) (k : Int) (t : Int) (hM : bits wd M) (hN : N ≤ 1200) (hx_ : 0 ≤ x ∧ x < 120) (hy_ : 0 ≤ yy ∧ yy < 10) : CtV l yX6_put wsX6_put rmX6_put D G [.ref (qp 0), .int (iI x), .int (iI yy), .int (iI k), .int (iI t)] [BPap G qp wd N fi] (fun u : (Nat → Int64) => bits u (fun c => M c || decide (c = (yy * 120 + x).toNat))) (fun u => [BPap G qp u N (if M (yy * 120 + x).toNat = true ∨ N ≤ (yy * 120 + x).toNat then fi else va_up fi (yy * 120 + x).toNat (k * 100 + t))]) := by
  refine CtV.of (cc := cX6_put) (maxL := 6) (by decide) rfl (Nat.le_of_ble_eq_true rfl) ?_
  intro p0 e0 s0 m0 args bel met cd A0 ls Q0 hx hcd hml hown hts hK hP hD hA hl fin
  have hl : lv_has ls 6 [(0, .ref (qp 0)), (1, .int (iI x)), (2, .int (iI yy)), (3, .int (iI k)), (4, .int (iI t))] := hl
  have hS : va_S A0 s0.heap s0.heap [] := va_S.rf
  have hH : va_P D vwCl (fl [BPap G qp wd N fi]) s0.heap := hP
  obtain ⟨H, eH⟩ : ∃ H, H = s0.heap := ⟨_, rfl⟩
  obtain ⟨locs, eL⟩ : ∃ locs : List Loc, locs = [] := ⟨_, rfl⟩
  have hS : va_S A0 s0.heap H locs := by rw [eH, eL]; exact hS
  have hP : va_P D vwCl (fl [BPap G qp wd N fi]) H := by rw [eH]; exact hP
  suffices goal : W p0 l e0 rmX6_put s0 m0 args bel met cd H locs 0 0 Q0 (F0 m0 0 ls []) by rw [eH, eL] at goal; exact goal
  clear eH eL hH
  refine lv_iload_n hx hcd dX6_put_0 rfl (lv_at hl 1 rfl) ?_
  refine lv_iload_n hx hcd dX6_put_1 rfl (lv_at hl 2 rfl) ?_
  refine cS_i (wc := []) (wr := [BPap G qp wd N fi]) (w1 := fun _ => []) (Bs1 := fun _ => [BPap G qp wd N fi]) (As := [.int (iI x), .int (iI yy)]) (rest := []) (kX6_hasPlace l D G x yy (by omega) (by omega)) rfl ⟨hx, hcd, hml, hown, hts⟩ (va_cwS 2 hts gX6_put_X6_hasPlace rfl rfl rfl (by decide +kernel) ⟨by decide, by decide⟩) rfl hl.1 (Nat.le_of_ble_eq_true rfl) ⟨Nat.le_of_ble_eq_true rfl, Nat.le_of_ble_eq_true rfl⟩ dX6_put_2 hK hP hD hS hA (perm_idx [0] rfl rfl) (fun _ => perm_idx [0] rfl rfl) (fun r u H locs hw1 hP hD hS => ?_)
  subst hw1
  rw [if_pos (by omega : 0 ≤ x ∧ x < 120 ∧ 0 ≤ yy ∧ yy < 10)]
  refine wi_if_eq (tgt := 17) hx hcd (by omega) dX6_put_5 (by decide) (fun c5 => ?_) (fun c5 => ?_)
  ·
    exfalso
    omega
  ·
    refine lv_aload_n hx hcd dX6_put_8 rfl (lv_at hl 0 rfl) ?_
    refine lv_iload_n hx hcd dX6_put_9 rfl (lv_at hl 1 rfl) ?_
    refine lv_iload_n hx hcd dX6_put_10 rfl (lv_at hl 2 rfl) ?_
    refine cV_i (wc := [BPap G qp wd N fi]) (wr := []) (w1 := fun _ => [BPap G qp wd N fi]) (Bs1 := fun _ => [BPap G qp wd N fi]) (As := [.int (iI x), .int (iI yy)]) (rest := []) (kX6_isMarked l D G qp wd N fi M x yy hM (by omega) (by omega)) rfl ⟨hx, hcd, hml, hown, hts⟩ (cwV 2 hts gX6_put_X6_isMarked rfl rfl rfl (by decide +kernel) ⟨by decide, by decide⟩) (q0 := 0) (ci := 6) rfl rfl rfl rfl hl.1 (Nat.le_of_ble_eq_true rfl) ⟨Nat.le_of_ble_eq_true rfl, Nat.le_of_ble_eq_true rfl⟩ dX6_put_11 hK hP hD hS hA (perm_idx [0] rfl rfl) (fun _ => perm_idx [0] rfl rfl) (fun r u H locs hw2 hP hD hS => ?_)
    subst hw2
    have hz9 : (if M (yy * 120 + x).toNat = true then (1 : Int) else 0) = 0 ∨ (if M (yy * 120 + x).toNat = true then (1 : Int) else 0) = 1 := by split <;> omega
    refine wi_if_eq (tgt := 18) hx hcd (by omega) dX6_put_14 (by decide) (fun c14 => ?_) (fun c14 => ?_)
    ·
      have h14 : M (yy * 120 + x).toNat = false := by
        cases q : M (yy * 120 + x).toNat with
        | false => rfl
        | true => rw [q] at c14; exact absurd c14 (by decide)
      refine lv_iload_n hx hcd dX6_put_18 rfl (lv_at hl 2 rfl) ?_
      refine wi_bipush hx hcd dX6_put_19 (by decide) ?_
      refine wi_imul hx hcd dX6_put_21 ?_
      refine lv_iload_n hx hcd dX6_put_22 rfl (lv_at hl 1 rfl) ?_
      refine wi_iadd hx hcd dX6_put_23 ?_
      refine lv_istore (lv' := [(5, .int (iI ((yy * 120) + x))), (0, .ref (qp 0)), (1, .int (iI x)), (2, .int (iI yy)), (3, .int (iI k)), (4, .int (iI t))]) hx hcd dX6_put_24 hl (by decide) rfl (fun ls hl => ?_)
      refine lv_aload_n hx hcd dX6_put_26 rfl (lv_at hl 1 rfl) ?_
      refine g_get (C := RX6) (T := TX6) (N := 2) hx hcd hts (fun _ h => List.mem_cons_of_mem _ (List.mem_append_right _ h)) hown hK hP (i := 0) rfl BPap_c0 rfl 0 (by decide) (by decide +kernel) rfl dX6_put_27 ?_
      refine lv_iload hx hcd dX6_put_30 (lv_at hl 0 rfl) ?_
      refine wi_bipush hx hcd dX6_put_32 (by decide) ?_
      refine wi_shr6 hx hcd (by omega) dX6_put_34 ?_
      refine lv_dup2_11 hx hcd dX6_put_35 rfl rfl ?_
      refine g_lald hx hcd hK hP (i := 0) rfl BPap_c1 (by omega) (by decide) dX6_put_36 ?_
      refine lv_lconst (v := 1) hx hcd dX6_put_37 rfl ?_
      refine lv_iload hx hcd dX6_put_38 (lv_at hl 0 rfl) ?_
      refine wi_bipush hx hcd dX6_put_40 (by decide) ?_
      refine wi_and63 hx hcd (by omega) dX6_put_42 ?_
      refine wi_lshl hx hcd dX6_put_43 ?_
      refine lv_lor hx hcd dX6_put_44 ?_
      refine g_last hx hcd hK hP hD hS (i := 0) rfl BPap_c1 (by omega) (by decide) (B1 := BPap G qp (vp_updL wd ((((yy * 120) + x) / 64).toNat) ((wd ((((yy * 120) + x) / 64).toNat)) ||| (lsl 1 (((yy * 120) + x) % 64)))) N fi) rfl (Bs1 := [BPap G qp (vp_updL wd ((((yy * 120) + x) / 64).toNat) ((wd ((((yy * 120) + x) / 64).toNat)) ||| (lsl 1 (((yy * 120) + x) % 64)))) N fi]) rfl dX6_put_45 (fun H locs hP hD hS => ?_)
      refine lv_iload hx hcd dX6_put_46 (lv_at hl 0 rfl) ?_
      refine lv_aload_n hx hcd dX6_put_48 rfl (lv_at hl 1 rfl) ?_
      refine g_get (C := RX6) (T := TX6) (N := 2) hx hcd hts (fun _ h => List.mem_cons_of_mem _ (List.mem_append_right _ h)) hown hK hP (i := 0) rfl BPap_c0 rfl 1 (by decide) (by decide +kernel) rfl dX6_put_49 ?_
      refine g_alen hx hcd hK hP 0 (i := 0) rfl BPap_c2 rfl (n := N) rfl dX6_put_52 ?_
      refine wi_icmp_ge (tgt := 70) hx hcd (by omega) (by omega) dX6_put_53 (by decide) (fun c53 => ?_) (fun c53 => ?_)
      ·
        rw [show BPap G qp (vp_updL wd ((((yy * 120) + x) / 64).toNat) ((wd ((((yy * 120) + x) / 64).toNat)) ||| (lsl 1 (((yy * 120) + x) % 64)))) N fi = BPap G qp (vp_updL wd ((((yy * 120) + x) / 64).toNat) ((wd ((((yy * 120) + x) / 64).toNat)) ||| (lsl 1 (((yy * 120) + x) % 64)))) N (if M (yy * 120 + x).toNat = true ∨ N ≤ (yy * 120 + x).toNat then fi else va_up fi (yy * 120 + x).toNat (k * 100 + t)) from congrArg (fun z_ : Nat → Int => BPap G qp (vp_updL wd ((((yy * 120) + x) / 64).toNat) ((wd ((((yy * 120) + x) / 64).toNat)) ||| (lsl 1 (((yy * 120) + x) % 64)))) N z_) (show (fi : Nat → Int) = (if M (yy * 120 + x).toNat = true ∨ N ≤ (yy * 120 + x).toNat then fi else va_up fi (yy * 120 + x).toNat (k * 100 + t)) from by first | (rw [if_pos (Or.inr (by omega))]) | (rw [if_neg (fun q => by rcases q with q | q; (rw [h14] at q; exact absurd q (by decide)); omega)]))] at hP hD
        exact fin (vp_updL wd ((((yy * 120) + x) / 64).toNat) ((wd ((((yy * 120) + x) / 64).toNat)) ||| (lsl 1 (((yy * 120) + x) % 64)))) H locs ls 70 dX6_put_70 hP hD hS (bits_set hM (by omega))
      ·
        refine lv_aload_n hx hcd dX6_put_56 rfl (lv_at hl 1 rfl) ?_
        refine g_get (C := RX6) (T := TX6) (N := 2) hx hcd hts (fun _ h => List.mem_cons_of_mem _ (List.mem_append_right _ h)) hown hK hP (i := 0) rfl BPap_c0 rfl 1 (by decide) (by decide +kernel) rfl dX6_put_57 ?_
        refine lv_iload hx hcd dX6_put_60 (lv_at hl 0 rfl) ?_
        refine lv_iload_n hx hcd dX6_put_62 rfl (lv_at hl 4 rfl) ?_
        refine wi_bipush hx hcd dX6_put_63 (by decide) ?_
        refine wi_imul hx hcd dX6_put_65 ?_
        refine lv_iload hx hcd dX6_put_66 (lv_at hl 5 rfl) ?_
        refine wi_iadd hx hcd dX6_put_68 ?_
        refine g_iast hx hcd hK hP hD hS (i := 0) rfl BPap_c2 (by omega) (by omega) (B1 := BPap G qp (vp_updL wd ((((yy * 120) + x) / 64).toNat) ((wd ((((yy * 120) + x) / 64).toNat)) ||| (lsl 1 (((yy * 120) + x) % 64)))) N (va_up fi (((yy * 120) + x).toNat) ((k * 100) + t))) rfl (Bs1 := [BPap G qp (vp_updL wd ((((yy * 120) + x) / 64).toNat) ((wd ((((yy * 120) + x) / 64).toNat)) ||| (lsl 1 (((yy * 120) + x) % 64)))) N (va_up fi (((yy * 120) + x).toNat) ((k * 100) + t))]) rfl dX6_put_69 (fun H locs hP hD hS => ?_)
        rw [show BPap G qp (vp_updL wd ((((yy * 120) + x) / 64).toNat) ((wd ((((yy * 120) + x) / 64).toNat)) ||| (lsl 1 (((yy * 120) + x) % 64)))) N (va_up fi (((yy * 120) + x).toNat) ((k * 100) + t)) = BPap G qp (vp_updL wd ((((yy * 120) + x) / 64).toNat) ((wd ((((yy * 120) + x) / 64).toNat)) ||| (lsl 1 (((yy * 120) + x) % 64)))) N (if M (yy * 120 + x).toNat = true ∨ N ≤ (yy * 120 + x).toNat then fi else va_up fi (yy * 120 + x).toNat (k * 100 + t)) from congrArg (fun z_ : Nat → Int => BPap G qp (vp_updL wd ((((yy * 120) + x) / 64).toNat) ((wd ((((yy * 120) + x) / 64).toNat)) ||| (lsl 1 (((yy * 120) + x) % 64)))) N z_) (show (va_up fi (((yy * 120) + x).toNat) ((k * 100) + t) : Nat → Int) = (if M (yy * 120 + x).toNat = true ∨ N ≤ (yy * 120 + x).toNat then fi else va_up fi (yy * 120 + x).toNat (k * 100 + t)) from by first | (rw [if_pos (Or.inr (by omega))]) | (rw [if_neg (fun q => by rcases q with q | q; (rw [h14] at q; exact absurd q (by decide)); omega)]))] at hP hD
        exact fin (vp_updL wd ((((yy * 120) + x) / 64).toNat) ((wd ((((yy * 120) + x) / 64).toNat)) ||| (lsl 1 (((yy * 120) + x) % 64)))) H locs ls 70 dX6_put_70 hP hD hS (bits_set hM (by omega))
    ·
      have h14 : M (yy * 120 + x).toNat = true := by
        cases q : M (yy * 120 + x).toNat with
        | true => rfl
        | false => rw [q] at c14; exact absurd rfl c14
      rw [show BPap G qp wd N fi = BPap G qp wd N (if M (yy * 120 + x).toNat = true ∨ N ≤ (yy * 120 + x).toNat then fi else va_up fi (yy * 120 + x).toNat (k * 100 + t)) from congrArg (fun z_ : Nat → Int => BPap G qp wd N z_) (show (fi : Nat → Int) = (if M (yy * 120 + x).toNat = true ∨ N ≤ (yy * 120 + x).toNat then fi else va_up fi (yy * 120 + x).toNat (k * 100 + t)) from by rw [if_pos (Or.inl h14)])] at hP hD
      exact fin wd H locs ls 17 dX6_put_17 hP hD hS (bits_ext hM (fun c => by by_cases e : c = (yy * 120 + x).toNat <;> simp [e, h14]))

abbrev rmX6_wipe : Room := { frames := 0, cells := 0, slots := 0, locals := 0 }
set_option maxHeartbeats 4000000 in
set_option maxRecDepth 100000 in
theorem kX6_wipe (l : Launch) (D : va_G) (G : Nat → ClassId) (qp : Nat → Nat) (wd : Nat → Int64) (N : Nat) (fi : Nat → Int) (M : Nat → Bool) (x : Int) (yy : Int) (hM : bits wd M) (hx_ : 0 ≤ x ∧ x < 120) (hy_ : 0 ≤ yy ∧ yy < 10) : CtV l yX6_wipe wsX6_wipe rmX6_wipe D G [.ref (qp 0), .int (iI x), .int (iI yy)] [BPap G qp wd N fi] (fun u : (Nat → Int64) => bits u (fun c => M c && !decide (c = (yy * 120 + x).toNat))) (fun u => [BPap G qp u N fi]) := by
  refine CtV.of (cc := cX6_wipe) (maxL := 4) (by decide) rfl (Nat.le_of_ble_eq_true rfl) ?_
  intro p0 e0 s0 m0 args bel met cd A0 ls Q0 hx hcd hml hown hts hK hP hD hA hl fin
  have hl : lv_has ls 4 [(0, .ref (qp 0)), (1, .int (iI x)), (2, .int (iI yy))] := hl
  have hS : va_S A0 s0.heap s0.heap [] := va_S.rf
  have hH : va_P D vwCl (fl [BPap G qp wd N fi]) s0.heap := hP
  obtain ⟨H, eH⟩ : ∃ H, H = s0.heap := ⟨_, rfl⟩
  obtain ⟨locs, eL⟩ : ∃ locs : List Loc, locs = [] := ⟨_, rfl⟩
  have hS : va_S A0 s0.heap H locs := by rw [eH, eL]; exact hS
  have hP : va_P D vwCl (fl [BPap G qp wd N fi]) H := by rw [eH]; exact hP
  suffices goal : W p0 l e0 rmX6_wipe s0 m0 args bel met cd H locs 0 0 Q0 (F0 m0 0 ls []) by rw [eH, eL] at goal; exact goal
  clear eH eL hH
  refine lv_iload_n hx hcd dX6_wipe_0 rfl (lv_at hl 2 rfl) ?_
  refine wi_bipush hx hcd dX6_wipe_1 (by decide) ?_
  refine wi_imul hx hcd dX6_wipe_3 ?_
  refine lv_iload_n hx hcd dX6_wipe_4 rfl (lv_at hl 1 rfl) ?_
  refine wi_iadd hx hcd dX6_wipe_5 ?_
  refine lv_istore_n (lv' := [(3, .int (iI ((yy * 120) + x))), (0, .ref (qp 0)), (1, .int (iI x)), (2, .int (iI yy))]) hx hcd dX6_wipe_6 rfl hl (by decide) rfl (fun ls hl => ?_)
  refine lv_aload_n hx hcd dX6_wipe_7 rfl (lv_at hl 1 rfl) ?_
  refine g_get (C := RX6) (T := TX6) (N := 2) hx hcd hts (fun _ h => List.mem_cons_of_mem _ (List.mem_append_right _ h)) hown hK hP (i := 0) rfl BPap_c0 rfl 0 (by decide) (by decide +kernel) rfl dX6_wipe_8 ?_
  refine lv_iload_n hx hcd dX6_wipe_11 rfl (lv_at hl 0 rfl) ?_
  refine wi_bipush hx hcd dX6_wipe_12 (by decide) ?_
  refine wi_shr6 hx hcd (by omega) dX6_wipe_14 ?_
  refine lv_dup2_11 hx hcd dX6_wipe_15 rfl rfl ?_
  refine g_lald hx hcd hK hP (i := 0) rfl BPap_c1 (by omega) (by decide) dX6_wipe_16 ?_
  refine lv_lconst (v := 1) hx hcd dX6_wipe_17 rfl ?_
  refine lv_iload_n hx hcd dX6_wipe_18 rfl (lv_at hl 0 rfl) ?_
  refine wi_bipush hx hcd dX6_wipe_19 (by decide) ?_
  refine wi_and63 hx hcd (by omega) dX6_wipe_21 ?_
  refine wi_lshl hx hcd dX6_wipe_22 ?_
  refine lv_ldc2 (v := (-1)) hx hcd hown (hts _ (by decide +kernel)) dX6_wipe_23 ?_
  refine lv_lxor hx hcd dX6_wipe_26 ?_
  refine lv_land hx hcd dX6_wipe_27 ?_
  refine g_last hx hcd hK hP hD hS (i := 0) rfl BPap_c1 (by omega) (by decide) (B1 := BPap G qp (vp_updL wd ((((yy * 120) + x) / 64).toNat) ((wd ((((yy * 120) + x) / 64).toNat)) &&& ((lsl 1 (((yy * 120) + x) % 64)) ^^^ (-1)))) N fi) rfl (Bs1 := [BPap G qp (vp_updL wd ((((yy * 120) + x) / 64).toNat) ((wd ((((yy * 120) + x) / 64).toNat)) &&& ((lsl 1 (((yy * 120) + x) % 64)) ^^^ (-1)))) N fi]) rfl dX6_wipe_28 (fun H locs hP hD hS => ?_)
  exact fin (vp_updL wd ((((yy * 120) + x) / 64).toNat) ((wd ((((yy * 120) + x) / 64).toNat)) &&& ((lsl 1 (((yy * 120) + x) % 64)) ^^^ (-1)))) H locs ls 29 dX6_wipe_29 hP hD hS (bits_clr hM (by omega))

abbrev rmX6_firstCode : Room := { frames := 0, cells := 0, slots := 0, locals := 0 }
set_option maxHeartbeats 4000000 in
set_option maxRecDepth 100000 in
theorem kX6_firstCode (l : Launch) (D : va_G) (G : Nat → ClassId) (qp : Nat → Nat) (wd : Nat → Int64) (N : Nat) (fi : Nat → Int) (x : Int) (yy : Int) (hN : N = 1200) (hx_ : 0 ≤ x ∧ x < 120) (hy_ : 0 ≤ yy ∧ yy < 10) : CtI l yX6_firstCode wsX6_firstCode rmX6_firstCode D G [.ref (qp 0), .int (iI x), .int (iI yy)] [BPap G qp wd N fi] (fun (r : Int32) (_ : Unit) => r = iI (fi (yy * 120 + x).toNat)) (fun _ => [BPap G qp wd N fi]) := by
  refine CtI.ofI (cc := cX6_firstCode) (maxL := 4) (by decide) rfl (Nat.le_of_ble_eq_true rfl) ?_
  intro p0 e0 s0 m0 args bel met cd A0 ls Q0 hx hcd hml hown hts hK hP hD hA hl fin
  have hl : lv_has ls 4 [(0, .ref (qp 0)), (1, .int (iI x)), (2, .int (iI yy))] := hl
  have hS : va_S A0 s0.heap s0.heap [] := va_S.rf
  have hH : va_P D vwCl (fl [BPap G qp wd N fi]) s0.heap := hP
  obtain ⟨H, eH⟩ : ∃ H, H = s0.heap := ⟨_, rfl⟩
  obtain ⟨locs, eL⟩ : ∃ locs : List Loc, locs = [] := ⟨_, rfl⟩
  have hS : va_S A0 s0.heap H locs := by rw [eH, eL]; exact hS
  have hP : va_P D vwCl (fl [BPap G qp wd N fi]) H := by rw [eH]; exact hP
  suffices goal : W p0 l e0 rmX6_firstCode s0 m0 args bel met cd H locs 0 0 Q0 (F0 m0 0 ls []) by rw [eH, eL] at goal; exact goal
  clear eH eL hH
  refine lv_iload_n hx hcd dX6_firstCode_0 rfl (lv_at hl 2 rfl) ?_
  refine wi_bipush hx hcd dX6_firstCode_1 (by decide) ?_
  refine wi_imul hx hcd dX6_firstCode_3 ?_
  refine lv_iload_n hx hcd dX6_firstCode_4 rfl (lv_at hl 1 rfl) ?_
  refine wi_iadd hx hcd dX6_firstCode_5 ?_
  refine lv_istore_n (lv' := [(3, .int (iI ((yy * 120) + x))), (0, .ref (qp 0)), (1, .int (iI x)), (2, .int (iI yy))]) hx hcd dX6_firstCode_6 rfl hl (by decide) rfl (fun ls hl => ?_)
  refine lv_iload_n hx hcd dX6_firstCode_7 rfl (lv_at hl 0 rfl) ?_
  refine lv_aload_n hx hcd dX6_firstCode_8 rfl (lv_at hl 1 rfl) ?_
  refine g_get (C := RX6) (T := TX6) (N := 2) hx hcd hts (fun _ h => List.mem_cons_of_mem _ (List.mem_append_right _ h)) hown hK hP (i := 0) rfl BPap_c0 rfl 1 (by decide) (by decide +kernel) rfl dX6_firstCode_9 ?_
  refine g_alen hx hcd hK hP 0 (i := 0) rfl BPap_c2 rfl (n := N) rfl dX6_firstCode_12 ?_
  refine wi_icmp_ge (tgt := 25) hx hcd (by omega) (by omega) dX6_firstCode_13 (by decide) (fun c13 => ?_) (fun c13 => ?_)
  ·
    exfalso
    omega
  ·
    refine lv_aload_n hx hcd dX6_firstCode_16 rfl (lv_at hl 1 rfl) ?_
    refine g_get (C := RX6) (T := TX6) (N := 2) hx hcd hts (fun _ h => List.mem_cons_of_mem _ (List.mem_append_right _ h)) hown hK hP (i := 0) rfl BPap_c0 rfl 1 (by decide) (by decide +kernel) rfl dX6_firstCode_17 ?_
    refine lv_iload_n hx hcd dX6_firstCode_20 rfl (lv_at hl 0 rfl) ?_
    refine g_iald hx hcd hK hP (i := 0) rfl BPap_c2 (by omega) (by omega) dX6_firstCode_21 ?_
    refine lv_goto (tgt := 26) hx hcd dX6_firstCode_22 (by decide) ?_
    exact fin _ () H locs ls 26 dX6_firstCode_26 hP hD hS (trivial) (congrArg iI (by first | rfl | (rw [if_pos (by omega)]) | (rw [if_neg (by omega)]) | (split <;> omega)))

abbrev rmX6_pegThatMarked : Room := { frames := 1, cells := 0, slots := 0, locals := 23 }
set_option maxHeartbeats 4000000 in
set_option maxRecDepth 100000 in
theorem kX6_pegThatMarked (l : Launch) (D : va_G) (G : Nat → ClassId) (qp : Nat → Nat) (wd : Nat → Int64) (N : Nat) (fi : Nat → Int) (x : Int) (yy : Int) (hN : N = 1200) (hf : 0 ≤ fi (yy * 120 + x).toNat ∧ fi (yy * 120 + x).toNat < 100000) (hx_ : 0 ≤ x ∧ x < 120) (hy_ : 0 ≤ yy ∧ yy < 10) : CtI l yX6_pegThatMarked wsX6_pegThatMarked rmX6_pegThatMarked D G [.ref (qp 0), .int (iI x), .int (iI yy)] [BPap G qp wd N fi] (fun (r : Int32) (_ : Unit) => r = iI (fi (yy * 120 + x).toNat / 100)) (fun _ => [BPap G qp wd N fi]) := by
  refine CtI.ofI (cc := cX6_pegThatMarked) (maxL := 3) (by decide) rfl (Nat.le_of_ble_eq_true rfl) ?_
  intro p0 e0 s0 m0 args bel met cd A0 ls Q0 hx hcd hml hown hts hK hP hD hA hl fin
  have hl : lv_has ls 3 [(0, .ref (qp 0)), (1, .int (iI x)), (2, .int (iI yy))] := hl
  have hS : va_S A0 s0.heap s0.heap [] := va_S.rf
  have hH : va_P D vwCl (fl [BPap G qp wd N fi]) s0.heap := hP
  obtain ⟨H, eH⟩ : ∃ H, H = s0.heap := ⟨_, rfl⟩
  obtain ⟨locs, eL⟩ : ∃ locs : List Loc, locs = [] := ⟨_, rfl⟩
  have hS : va_S A0 s0.heap H locs := by rw [eH, eL]; exact hS
  have hP : va_P D vwCl (fl [BPap G qp wd N fi]) H := by rw [eH]; exact hP
  suffices goal : W p0 l e0 rmX6_pegThatMarked s0 m0 args bel met cd H locs 0 0 Q0 (F0 m0 0 ls []) by rw [eH, eL] at goal; exact goal
  clear eH eL hH
  refine lv_aload_n hx hcd dX6_pegThatMarked_0 rfl (lv_at hl 0 rfl) ?_
  refine lv_iload_n hx hcd dX6_pegThatMarked_1 rfl (lv_at hl 1 rfl) ?_
  refine lv_iload_n hx hcd dX6_pegThatMarked_2 rfl (lv_at hl 2 rfl) ?_
  refine cV_i (wc := [BPap G qp wd N fi]) (wr := []) (w1 := fun _ => [BPap G qp wd N fi]) (Bs1 := fun _ => [BPap G qp wd N fi]) (As := [.int (iI x), .int (iI yy)]) (rest := []) (kX6_firstCode l D G qp wd N fi x yy (by first | assumption | omega) (by first | assumption | omega) (by first | assumption | omega)) rfl ⟨hx, hcd, hml, hown, hts⟩ (cwV 2 hts gX6_pegThatMarked_X6_firstCode rfl rfl rfl (by decide +kernel) ⟨by decide, by decide⟩) (q0 := 0) (ci := 6) rfl rfl rfl rfl hl.1 (Nat.le_of_ble_eq_true rfl) ⟨Nat.le_of_ble_eq_true rfl, Nat.le_of_ble_eq_true rfl⟩ dX6_pegThatMarked_3 hK hP hD hS hA (perm_idx [0] rfl rfl) (fun _ => perm_idx [0] rfl rfl) (fun r u H locs hw1 hP hD hS => ?_)
  subst hw1
  refine wi_bipush hx hcd dX6_pegThatMarked_6 (by decide) ?_
  refine wi_idiv hx hcd (by omega) (by omega) dX6_pegThatMarked_8 ?_
  exact fin _ () H locs ls 9 dX6_pegThatMarked_9 hP hD hS (trivial) (congrArg iI (by first | rfl | (rw [if_pos (by omega)]) | (rw [if_neg (by omega)]) | (split <;> omega)))

abbrev rmX6_stepThatMarked : Room := { frames := 1, cells := 0, slots := 0, locals := 23 }
set_option maxHeartbeats 4000000 in
set_option maxRecDepth 100000 in
theorem kX6_stepThatMarked (l : Launch) (D : va_G) (G : Nat → ClassId) (qp : Nat → Nat) (wd : Nat → Int64) (N : Nat) (fi : Nat → Int) (x : Int) (yy : Int) (hN : N = 1200) (hf : 0 ≤ fi (yy * 120 + x).toNat ∧ fi (yy * 120 + x).toNat < 100000) (hx_ : 0 ≤ x ∧ x < 120) (hy_ : 0 ≤ yy ∧ yy < 10) : CtI l yX6_stepThatMarked wsX6_stepThatMarked rmX6_stepThatMarked D G [.ref (qp 0), .int (iI x), .int (iI yy)] [BPap G qp wd N fi] (fun (r : Int32) (_ : Unit) => r = iI (fi (yy * 120 + x).toNat % 100)) (fun _ => [BPap G qp wd N fi]) := by
  refine CtI.ofI (cc := cX6_stepThatMarked) (maxL := 3) (by decide) rfl (Nat.le_of_ble_eq_true rfl) ?_
  intro p0 e0 s0 m0 args bel met cd A0 ls Q0 hx hcd hml hown hts hK hP hD hA hl fin
  have hl : lv_has ls 3 [(0, .ref (qp 0)), (1, .int (iI x)), (2, .int (iI yy))] := hl
  have hS : va_S A0 s0.heap s0.heap [] := va_S.rf
  have hH : va_P D vwCl (fl [BPap G qp wd N fi]) s0.heap := hP
  obtain ⟨H, eH⟩ : ∃ H, H = s0.heap := ⟨_, rfl⟩
  obtain ⟨locs, eL⟩ : ∃ locs : List Loc, locs = [] := ⟨_, rfl⟩
  have hS : va_S A0 s0.heap H locs := by rw [eH, eL]; exact hS
  have hP : va_P D vwCl (fl [BPap G qp wd N fi]) H := by rw [eH]; exact hP
  suffices goal : W p0 l e0 rmX6_stepThatMarked s0 m0 args bel met cd H locs 0 0 Q0 (F0 m0 0 ls []) by rw [eH, eL] at goal; exact goal
  clear eH eL hH
  refine lv_aload_n hx hcd dX6_stepThatMarked_0 rfl (lv_at hl 0 rfl) ?_
  refine lv_iload_n hx hcd dX6_stepThatMarked_1 rfl (lv_at hl 1 rfl) ?_
  refine lv_iload_n hx hcd dX6_stepThatMarked_2 rfl (lv_at hl 2 rfl) ?_
  refine cV_i (wc := [BPap G qp wd N fi]) (wr := []) (w1 := fun _ => [BPap G qp wd N fi]) (Bs1 := fun _ => [BPap G qp wd N fi]) (As := [.int (iI x), .int (iI yy)]) (rest := []) (kX6_firstCode l D G qp wd N fi x yy (by first | assumption | omega) (by first | assumption | omega) (by first | assumption | omega)) rfl ⟨hx, hcd, hml, hown, hts⟩ (cwV 2 hts gX6_stepThatMarked_X6_firstCode rfl rfl rfl (by decide +kernel) ⟨by decide, by decide⟩) (q0 := 0) (ci := 6) rfl rfl rfl rfl hl.1 (Nat.le_of_ble_eq_true rfl) ⟨Nat.le_of_ble_eq_true rfl, Nat.le_of_ble_eq_true rfl⟩ dX6_stepThatMarked_3 hK hP hD hS hA (perm_idx [0] rfl rfl) (fun _ => perm_idx [0] rfl rfl) (fun r u H locs hw1 hP hD hS => ?_)
  subst hw1
  refine wi_bipush hx hcd dX6_stepThatMarked_6 (by decide) ?_
  refine wi_irem hx hcd (by omega) (by omega) dX6_stepThatMarked_8 ?_
  exact fin _ () H locs ls 9 dX6_stepThatMarked_9 hP hD hS (trivial) (congrArg iI (by first | rfl | (rw [if_pos (by omega)]) | (rw [if_neg (by omega)]) | (split <;> omega)))

abbrev rmX6_isWithin : Room := { frames := 0, cells := 0, slots := 0, locals := 0 }
set_option maxHeartbeats 4000000 in
set_option maxRecDepth 100000 in
theorem kX6_isWithin (l : Launch) (D : va_G) (G : Nat → ClassId) (qp : Nat → Nat) (wd : Nat → Int64) (N : Nat) (fi : Nat → Int) (qt : Nat → Nat) (vd : Nat → Int64) (N2 : Nat) (fj : Nat → Int) (M : Nat → Bool) (M2 : Nat → Bool) (hM : bits wd M) (hM2 : bits vd M2) : CtI l yX6_isWithin wsX6_isWithin rmX6_isWithin D G [.ref (qp 0), .ref (qt 0)] [BPap G qp wd N fi, BPap G qt vd N2 fj] (fun (r : Int32) (_ : Unit) => r = iI (if (∀ c : Nat, c < 1216 → M c = true → M2 c = true) then 1 else 0)) (fun _ => [BPap G qp wd N fi, BPap G qt vd N2 fj]) := by
  refine CtI.ofZ (cc := cX6_isWithin) (maxL := 3) (by decide) rfl (Nat.le_of_ble_eq_true rfl) ?_
  intro p0 e0 s0 m0 args bel met cd A0 ls Q0 hx hcd hml hown hts hK hP hD hA hl fin
  have hl : lv_has ls 3 [(0, .ref (qp 0)), (1, .ref (qt 0))] := hl
  have hS : va_S A0 s0.heap s0.heap [] := va_S.rf
  have hH : va_P D vwCl (fl [BPap G qp wd N fi, BPap G qt vd N2 fj]) s0.heap := hP
  obtain ⟨H, eH⟩ : ∃ H, H = s0.heap := ⟨_, rfl⟩
  obtain ⟨locs, eL⟩ : ∃ locs : List Loc, locs = [] := ⟨_, rfl⟩
  have hS : va_S A0 s0.heap H locs := by rw [eH, eL]; exact hS
  have hP : va_P D vwCl (fl [BPap G qp wd N fi, BPap G qt vd N2 fj]) H := by rw [eH]; exact hP
  suffices goal : W p0 l e0 rmX6_isWithin s0 m0 args bel met cd H locs 0 0 Q0 (F0 m0 0 ls []) by rw [eH, eL] at goal; exact goal
  clear eH eL hH
  refine wi_iconst hx hcd dX6_isWithin_0 ?_
  refine lv_istore_n (lv' := [(2, .int (iI 0)), (0, .ref (qp 0)), (1, .ref (qt 0))]) hx hcd dX6_isWithin_1 rfl hl (by decide) rfl (fun ls hl => ?_)
  have L2 : ∀ (fu : Nat) (i : Int) (H : Heap) (locs : List Loc) (ls : Array Slot), (19 - i < (fu : Int)) → (0 ≤ i ∧ i ≤ 19) → (∀ c : Nat, (c : Int) < 64 * i → M c = true → M2 c = true) → va_P D vwCl (fl [BPap G qp wd N fi, BPap G qt vd N2 fj]) H → va_D A0 (fl [BPap G qp wd N fi, BPap G qt vd N2 fj]) → va_S A0 s0.heap H locs → lv_has ls 3 [(0, .ref (qp 0)), (1, .ref (qt 0)), (2, .int (iI i))] → W p0 l e0 rmX6_isWithin s0 m0 args bel met cd H locs 0 0 Q0 (F0 m0 2 ls []) := by
    intro fu
    induction fu with
    | zero =>
      intro i H locs ls hfu hi ht
      exact absurd hfu (by omega)
    | succ fu ih =>
      intro i H locs ls hfu hi ht hP hD hS hl
      have ih2 := ih
      clear ih
      refine lv_iload_n hx hcd dX6_isWithin_2 rfl (lv_at hl 2 rfl) ?_
      refine wi_bipush hx hcd dX6_isWithin_3 (by decide) ?_
      refine wi_icmp_ge (tgt := 38) hx hcd (by omega) (by omega) dX6_isWithin_5 (by decide) (fun c5 => ?_) (fun c5 => ?_)
      ·
        refine wi_iconst hx hcd dX6_isWithin_38 ?_
        exact fin _ () H locs ls 39 dX6_isWithin_39 hP hD hS (by decide) (congrArg iI (by rw [if_pos (fun c hc q => ht c (by omega) q)]))
      ·
        refine lv_aload_n hx hcd dX6_isWithin_8 rfl (lv_at hl 0 rfl) ?_
        refine g_get (C := RX6) (T := TX6) (N := 2) hx hcd hts (fun _ h => List.mem_cons_of_mem _ (List.mem_append_right _ h)) hown hK hP (i := 0) rfl BPap_c0 rfl 0 (by decide) (by decide +kernel) rfl dX6_isWithin_9 ?_
        refine lv_iload_n hx hcd dX6_isWithin_12 rfl (lv_at hl 2 rfl) ?_
        refine g_lald hx hcd hK hP (i := 0) rfl BPap_c1 (by omega) (by decide) dX6_isWithin_13 ?_
        refine lv_aload_n hx hcd dX6_isWithin_14 rfl (lv_at hl 1 rfl) ?_
        refine g_get (C := RX6) (T := TX6) (N := 2) hx hcd hts (fun _ h => List.mem_cons_of_mem _ (List.mem_append_right _ h)) hown hK hP (i := 1) rfl BPap_c0 rfl 0 (by decide) (by decide +kernel) rfl dX6_isWithin_15 ?_
        refine lv_iload_n hx hcd dX6_isWithin_18 rfl (lv_at hl 2 rfl) ?_
        refine g_lald hx hcd hK hP (i := 1) rfl BPap_c1 (by omega) (by decide) dX6_isWithin_19 ?_
        refine lv_ldc2 (v := (-1)) hx hcd hown (hts _ (by decide +kernel)) dX6_isWithin_20 ?_
        refine lv_lxor hx hcd dX6_isWithin_23 ?_
        refine lv_land hx hcd dX6_isWithin_24 ?_
        refine lv_lconst (v := 0) hx hcd dX6_isWithin_25 rfl ?_
        refine wi_lcmp0 hx hcd dX6_isWithin_26 ?_
        have f1 := cz_rng ((wd i.toNat) &&& ((vd i.toNat) ^^^ (-1)))
        refine wi_if_eq (tgt := 32) hx hcd (by omega) dX6_isWithin_27 (by decide) (fun c27 => ?_) (fun c27 => ?_)
        ·
          refine lv_iinc (v := iI (i + 1)) (lv' := [(2, .int (iI (i + 1))), (0, .ref (qp 0)), (1, .ref (qt 0))]) hx hcd dX6_isWithin_32 hl (k := 2) rfl (iI_add _ _) (by decide) rfl (fun ls hl => ?_)
          refine lv_goto (tgt := 2) hx hcd dX6_isWithin_35 (by decide) ?_
          exact ih2 (i + 1) _ _ _ (by omega) (by omega) (fun c h q => by
              by_cases e : (c : Int) < 64 * i
              · exact ht c e q
              · have hw := (word_in.mp (cz_0.mp c27)) (c - 64 * i.toNat) (by omega)
                rw [hM _ _ (by omega) (by omega), hM2 _ _ (by omega) (by omega), show 64 * i.toNat + (c - 64 * i.toNat) = c by omega] at hw
                exact hw q) hP hD hS (lv_sub hl [1, 2, 0] rfl)
        ·
          refine wi_iconst hx hcd dX6_isWithin_30 ?_
          exact fin _ () H locs ls 31 dX6_isWithin_31 hP hD hS (by decide) (congrArg iI (by rw [if_neg (fun q => c27 (cz_0.mpr (word_in.mpr (fun j hj h9 => by rw [hM2 _ _ (by omega) hj]; rw [hM _ _ (by omega) hj] at h9; exact q _ (by omega) h9))))]))
  exact L2 (((19 - 0) + 1 : Int)).toNat 0 _ _ _ (by omega) (by omega) (fun c h => absurd h (by omega)) hP hD hS (lv_sub hl [1, 2, 0] rfl)
