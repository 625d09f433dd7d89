abbrev rmX4_total : Room := { frames := 0, cells := 0, slots := 0, locals := 0 }
set_option maxHeartbeats 4000000 in
set_option maxRecDepth 100000 in
theorem kX4_total (l : Launch) (D : va_G) (G : Nat → ClassId) (qk : Nat → Nat) (hb : Nat → Nat → Int) (tt : Nat → Int) (tm : Nat → Int) (k : Int) (hk : 0 ≤ k ∧ k < 4) : CtI l yX4_total wsX4_total rmX4_total D G [.ref (qk 0), .int (iI k)] [BMak G qk hb tt tm] (fun (r : Int32) (_ : Unit) => r = iI (tt k.toNat)) (fun _ => [BMak G qk hb tt tm]) := by
  refine CtI.ofI (cc := cX4_total) (maxL := 2) (by decide) rfl (Nat.le_of_ble_eq_true rfl) ?_
  intro p0 e0 s0 m0 args bel met cd A0 ls Q0 hx hcd hml hown hts hK hP hD hA hl fin
  have hl : lv_has ls 2 [(0, .ref (qk 0)), (1, .int (iI k))] := hl
  have hS : va_S A0 s0.heap s0.heap [] := va_S.rf
  have hH : va_P D vwCl (fl [BMak G qk hb tt tm]) s0.heap := hP
  obtain ⟨H, eH⟩ : ∃ H, H = s0.heap := ⟨_, rfl⟩
  obtain ⟨locs, eL⟩ : ∃ locs : List Loc, locs = [] := ⟨_, rfl⟩
  have hS : va_S A0 s0.heap H locs := by rw [eH, eL]; exact hS
  have hP : va_P D vwCl (fl [BMak G qk hb tt tm]) H := by rw [eH]; exact hP
  suffices goal : W p0 l e0 rmX4_total s0 m0 args bel met cd H locs 0 0 Q0 (F0 m0 0 ls []) by rw [eH, eL] at goal; exact goal
  clear eH eL hH
  refine lv_aload_n hx hcd dX4_total_0 rfl (lv_at hl 0 rfl) ?_
  refine g_get (C := RX4) (T := TX4) (N := 3) hx hcd hts (fun _ h => List.mem_cons_of_mem _ (List.mem_append_right _ h)) hown hK hP (i := 0) rfl BMak_c0 rfl 1 (by decide) (by decide +kernel) rfl dX4_total_1 ?_
  refine lv_iload_n hx hcd dX4_total_4 rfl (lv_at hl 1 rfl) ?_
  refine g_iald hx hcd hK hP (i := 0) rfl BMak_c2 (by omega) (by decide) dX4_total_5 ?_
  exact fin _ () H locs ls 6 dX4_total_6 hP hD hS (trivial) (rfl)

abbrev rmX4_tally : Room := { frames := 1, cells := 0, slots := 0, locals := 23 }
set_option maxHeartbeats 4000000 in
set_option maxRecDepth 100000 in
theorem kX4_tally (l : Launch) (D : va_G) (G : Nat → ClassId) (qk : Nat → Nat) (hb : Nat → Nat → Int) (tt : Nat → Int) (tm : Nat → Int) (q : Nat → Nat) (st : Int) (th : Nat → Int) (R : Nat → Nat → Int) (sp : Nat → Int) (c : Int) (hst : 2 ≤ st ∧ st ≤ 16) (hR : ∀ i j, 0 ≤ R i j ∧ R i j ≤ 9) (hc : 0 ≤ c ∧ c < 12) : CtV l yX4_tally wsX4_tally rmX4_tally D G [.ref (qk 0), .ref (q 0), .int (iI c)] [BMak G qk hb tt tm, BCams G q st th R sp] (fun _ : Unit => True) (fun _ => [BMak G qk hb tt (tal (R c.toNat) st.toNat tm), BCams G q st th R sp]) := by
  refine CtV.of (cc := cX4_tally) (maxL := 5) (by decide) rfl (Nat.le_of_ble_eq_true rfl) ?_
  intro p0 e0 s0 m0 args bel met cd A0 ls Q0 hx hcd hml hown hts hK hP hD hA hl fin
  have hl : lv_has ls 5 [(0, .ref (qk 0)), (1, .ref (q 0)), (2, .int (iI c))] := hl
  have hS : va_S A0 s0.heap s0.heap [] := va_S.rf
  have hH : va_P D vwCl (fl [BMak G qk hb tt tm, BCams G q st th R sp]) s0.heap := hP
  obtain ⟨H, eH⟩ : ∃ H, H = s0.heap := ⟨_, rfl⟩
  obtain ⟨locs, eL⟩ : ∃ locs : List Loc, locs = [] := ⟨_, rfl⟩
  have hS : va_S A0 s0.heap H locs := by rw [eH, eL]; exact hS
  have hP : va_P D vwCl (fl [BMak G qk hb tt tm, BCams G q st th R sp]) H := by rw [eH]; exact hP
  suffices goal : W p0 l e0 rmX4_tally s0 m0 args bel met cd H locs 0 0 Q0 (F0 m0 0 ls []) by rw [eH, eL] at goal; exact goal
  clear eH eL hH
  refine lv_aload_n hx hcd dX4_tally_0 rfl (lv_at hl 0 rfl) ?_
  refine g_get (C := RX4) (T := TX4) (N := 3) hx hcd hts (fun _ h => List.mem_cons_of_mem _ (List.mem_append_left _ (List.mem_append_right _ h))) hown hK hP (i := 0) rfl BMak_c0 rfl 2 (by decide) (by decide +kernel) rfl dX4_tally_1 ?_
  refine wi_iconst hx hcd dX4_tally_4 ?_
  refine cS_v (wc := [BMak G qk hb tt tm, BCams G q st th R sp]) (wr := []) (w1 := fun _ => [BMak G qk hb tt (filI 0 10 tm), BCams G q st th R sp]) (Bs1 := fun _ => [BMak G qk hb tt (filI 0 10 tm), BCams G q st th R sp]) (As := [.ref (qk 3), .int (iI 0)]) (rest := []) (kJ7_fill_53178 l D G [BMak G qk hb tt tm, BCams G q st th R sp] [BMak G qk hb tt (filI 0 10 tm), BCams G q st th R sp] 0 3 (BMak G qk hb tt tm) (BMak G qk hb tt (filI 0 10 tm)) (qk 3) 10 tm 0 (by decide) rfl BMak_c3 rfl rfl) rfl ⟨hx, hcd, hml, hown, hts⟩ (va_cwS 2 hts gX4_tally_J7_fill_53178 rfl rfl rfl (by decide +kernel) ⟨by decide, by decide⟩) rfl hl.1 (Nat.le_of_ble_eq_true rfl) ⟨Nat.le_of_ble_eq_true rfl, Nat.le_of_ble_eq_true rfl⟩ dX4_tally_5 hK hP hD hS hA (perm_idx [0, 1] rfl rfl) (fun _ => (perm_idx [0, 1] rfl rfl)) (fun u H locs _ hP hD hS => ?_)
  refine wi_iconst hx hcd dX4_tally_8 ?_
  refine lv_istore_n (lv' := [(3, .int (iI 0)), (0, .ref (qk 0)), (1, .ref (q 0)), (2, .int (iI c))]) hx hcd dX4_tally_9 rfl hl (by decide) rfl (fun ls hl => ?_)
  have L10 : ∀ (fu : Nat) (i : Int) (f : Nat → Int) (H : Heap) (locs : List Loc) (ls : Array Slot), (st - i < (fu : Int)) → (0 ≤ i ∧ i ≤ st) → (f = tal (R c.toNat) i.toNat tm) → va_P D vwCl (fl [BMak G qk hb tt f, BCams G q st th R sp]) H → va_D A0 (fl [BMak G qk hb tt f, BCams G q st th R sp]) → va_S A0 s0.heap H locs → lv_has ls 5 [(0, .ref (qk 0)), (1, .ref (q 0)), (2, .int (iI c)), (3, .int (iI i))] → W p0 l e0 rmX4_tally s0 m0 args bel met cd H locs 0 0 Q0 (F0 m0 10 ls []) := by
    intro fu
    induction fu with
    | zero =>
      intro i f H locs ls hfu hi hf
      exact absurd hfu (by omega)
    | succ fu ih =>
      intro i f H locs ls hfu hi hf hP hD hS hl
      have ih10 := ih
      clear ih
      refine lv_iload_n hx hcd dX4_tally_10 rfl (lv_at hl 3 rfl) ?_
      refine lv_aload_n hx hcd dX4_tally_11 rfl (lv_at hl 1 rfl) ?_
      refine cV_i (wc := [BCams G q st th R sp]) (wr := [BMak G qk hb tt f]) (w1 := fun _ => [BCams G q st th R sp]) (Bs1 := fun _ => [BMak G qk hb tt f, BCams G q st th R sp]) (As := []) (rest := [.int (iI i)]) (kX0_steps l D G q st th R sp ) rfl ⟨hx, hcd, hml, hown, hts⟩ (cwV 0 hts gX4_tally_X0_steps rfl rfl rfl (by decide +kernel) ⟨by decide, by decide⟩) (q0 := 0) (ci := 0) rfl rfl rfl rfl hl.1 (Nat.le_of_ble_eq_true rfl) ⟨Nat.le_of_ble_eq_true rfl, Nat.le_of_ble_eq_true rfl⟩ dX4_tally_12 hK hP hD hS hA (perm_idx [1, 0] rfl rfl) (fun _ => perm_idx [1, 0] rfl rfl) (fun r u H locs hw1 hP hD hS => ?_)
      subst hw1
      refine wi_icmp_ge (tgt := 55) hx hcd (by omega) (by omega) dX4_tally_15 (by decide) (fun c15 => ?_) (fun c15 => ?_)
      ·
        rw [show BMak G qk hb tt f = BMak G qk hb tt (tal (R c.toNat) st.toNat tm) from congrArg (fun z_ : Nat → Int => BMak G qk hb tt z_) (show (f : Nat → Int) = (tal (R c.toNat) st.toNat tm) from by rw [hf, show i = st by omega])] at hP hD
        exact fin () H locs ls 55 dX4_tally_55 hP hD hS (trivial)
      ·
        refine lv_aload_n hx hcd dX4_tally_18 rfl (lv_at hl 1 rfl) ?_
        refine lv_iload_n hx hcd dX4_tally_19 rfl (lv_at hl 2 rfl) ?_
        refine lv_iload_n hx hcd dX4_tally_20 rfl (lv_at hl 3 rfl) ?_
        refine cV_i (wc := [BCams G q st th R sp]) (wr := [BMak G qk hb tt f]) (w1 := fun _ => [BCams G q st th R sp]) (Bs1 := fun _ => [BMak G qk hb tt f, BCams G q st th R sp]) (As := [.int (iI c), .int (iI i)]) (rest := []) (kX0_heightAt l D G q st th R sp c i (by first | assumption | omega) (by first | assumption | omega)) rfl ⟨hx, hcd, hml, hown, hts⟩ (cwV 2 hts gX4_tally_X0_heightAt rfl rfl rfl (by decide +kernel) ⟨by decide, by decide⟩) (q0 := 0) (ci := 0) rfl rfl rfl rfl hl.1 (Nat.le_of_ble_eq_true rfl) ⟨Nat.le_of_ble_eq_true rfl, Nat.le_of_ble_eq_true rfl⟩ dX4_tally_21 hK hP hD hS hA (perm_idx [1, 0] rfl rfl) (fun _ => perm_idx [1, 0] rfl rfl) (fun r u H locs hw2 hP hD hS => ?_)
        subst hw2
        have hh := hR c.toNat i.toNat
        refine lv_istore (lv' := [(4, .int (iI (R c.toNat i.toNat))), (0, .ref (qk 0)), (1, .ref (q 0)), (2, .int (iI c)), (3, .int (iI i))]) hx hcd dX4_tally_24 hl (by decide) rfl (fun ls hl => ?_)
        refine lv_iload hx hcd dX4_tally_26 (lv_at hl 0 rfl) ?_
        refine wi_if_lt (tgt := 49) hx hcd (by omega) dX4_tally_28 (by decide) (fun c28 => ?_) (fun c28 => ?_)
        ·
          exfalso
          omega
        ·
          refine lv_iload hx hcd dX4_tally_31 (lv_at hl 0 rfl) ?_
          refine wi_bipush hx hcd dX4_tally_33 (by decide) ?_
          refine wi_icmp_ge (tgt := 49) hx hcd (by omega) (by omega) dX4_tally_35 (by decide) (fun c35 => ?_) (fun c35 => ?_)
          ·
            exfalso
            omega
          ·
            refine lv_aload_n hx hcd dX4_tally_38 rfl (lv_at hl 1 rfl) ?_
            refine g_get (C := RX4) (T := TX4) (N := 3) hx hcd hts (fun _ h => List.mem_cons_of_mem _ (List.mem_append_left _ (List.mem_append_right _ h))) hown hK hP (i := 0) rfl BMak_c0 rfl 2 (by decide) (by decide +kernel) rfl dX4_tally_39 ?_
            refine lv_iload hx hcd dX4_tally_42 (lv_at hl 0 rfl) ?_
            refine lv_dup2_11 hx hcd dX4_tally_44 rfl rfl ?_
            refine g_iald hx hcd hK hP (i := 0) rfl BMak_c3 (by omega) (by decide) dX4_tally_45 ?_
            refine wi_iconst hx hcd dX4_tally_46 ?_
            refine wi_iadd hx hcd dX4_tally_47 ?_
            refine g_iast hx hcd hK hP hD hS (i := 0) rfl BMak_c3 (by omega) (by decide) (B1 := BMak G qk hb tt (va_up f ((R c.toNat i.toNat).toNat) ((f ((R c.toNat i.toNat).toNat)) + 1))) rfl (Bs1 := [BMak G qk hb tt (va_up f ((R c.toNat i.toNat).toNat) ((f ((R c.toNat i.toNat).toNat)) + 1)), BCams G q st th R sp]) rfl dX4_tally_48 (fun H locs hP hD hS => ?_)
            refine lv_iinc (v := iI (i + 1)) (lv' := [(3, .int (iI (i + 1))), (4, .int (iI (R c.toNat i.toNat))), (0, .ref (qk 0)), (1, .ref (q 0)), (2, .int (iI c))]) hx hcd dX4_tally_49 hl (k := 4) rfl (iI_add _ _) (by decide) rfl (fun ls hl => ?_)
            refine lv_goto (tgt := 10) hx hcd dX4_tally_52 (by decide) ?_
            exact ih10 (i + 1) (va_up f ((R c.toNat i.toNat).toNat) ((f ((R c.toNat i.toNat).toNat)) + 1)) _ _ _ (by omega) (by omega) (by rw [hf, tal_s _ _ _ (hR _ _), show (i + 1).toNat = i.toNat + 1 by omega]) hP hD hS (lv_sub hl [2, 3, 4, 0] rfl)
  exact L10 (((st - 0) + 1 : Int)).toNat 0 (filI 0 10 tm) _ _ _ (by omega) (by omega) (by rfl) hP hD hS (lv_sub hl [1, 2, 3, 0] rfl)

abbrev rmX4_learn : Room := { frames := 2, cells := 0, slots := 0, locals := 47 }
set_option maxHeartbeats 4000000 in
set_option maxRecDepth 100000 in
theorem kX4_learn (l : Launch) (D : va_G) (G : Nat → ClassId) (qk : Nat → Nat) (hb : Nat → Nat → Int) (tt : Nat → Int) (tm : Nat → Int) (q : Nat → Nat) (st : Int) (th : Nat → Int) (R : Nat → Nat → Int) (sp : Nat → Int) (k : Int) (c : Int) (hst : 2 ≤ st ∧ st ≤ 16) (hR : ∀ i j, 0 ≤ R i j ∧ R i j ≤ 9) (hk : 0 ≤ k ∧ k < 4) (hc : 0 ≤ c ∧ c < 12) : CtV l yX4_learn wsX4_learn rmX4_learn D G [.ref (qk 0), .int (iI k), .ref (q 0), .int (iI c)] [BMak G qk hb tt tm, BCams G q st th R sp] (fun _ : Unit => True) (fun _ => [BMak G qk (va_up hb k.toNat (lrn (hb k.toNat) (tal (R c.toNat) st.toNat tm) 10)) (va_up tt k.toNat (tt k.toNat + st)) (tal (R c.toNat) st.toNat tm), BCams G q st th R sp]) := by
  refine CtV.of (cc := cX4_learn) (maxL := 5) (by decide) rfl (Nat.le_of_ble_eq_true rfl) ?_
  intro p0 e0 s0 m0 args bel met cd A0 ls Q0 hx hcd hml hown hts hK hP hD hA hl fin
  have hl : lv_has ls 5 [(0, .ref (qk 0)), (1, .int (iI k)), (2, .ref (q 0)), (3, .int (iI c))] := hl
  have hS : va_S A0 s0.heap s0.heap [] := va_S.rf
  have hH : va_P D vwCl (fl [BMak G qk hb tt tm, BCams G q st th R sp]) s0.heap := hP
  obtain ⟨H, eH⟩ : ∃ H, H = s0.heap := ⟨_, rfl⟩
  obtain ⟨locs, eL⟩ : ∃ locs : List Loc, locs = [] := ⟨_, rfl⟩
  have hS : va_S A0 s0.heap H locs := by rw [eH, eL]; exact hS
  have hP : va_P D vwCl (fl [BMak G qk hb tt tm, BCams G q st th R sp]) H := by rw [eH]; exact hP
  suffices goal : W p0 l e0 rmX4_learn s0 m0 args bel met cd H locs 0 0 Q0 (F0 m0 0 ls []) by rw [eH, eL] at goal; exact goal
  clear eH eL hH
  refine lv_aload_n hx hcd dX4_learn_0 rfl (lv_at hl 0 rfl) ?_
  refine lv_aload_n hx hcd dX4_learn_1 rfl (lv_at hl 2 rfl) ?_
  refine lv_iload_n hx hcd dX4_learn_2 rfl (lv_at hl 3 rfl) ?_
  refine cV_v (wc := [BMak G qk hb tt tm, BCams G q st th R sp]) (wr := []) (w1 := fun _ => [BMak G qk hb tt (tal (R c.toNat) st.toNat tm), BCams G q st th R sp]) (Bs1 := fun _ => [BMak G qk hb tt (tal (R c.toNat) st.toNat tm), BCams G q st th R sp]) (As := [.ref (q 0), .int (iI c)]) (rest := []) (kX4_tally l D G qk hb tt tm q st th R sp c (by first | assumption | omega) (by first | assumption | omega) (by first | assumption | omega)) rfl ⟨hx, hcd, hml, hown, hts⟩ (cwV 2 hts gX4_learn_X4_tally rfl rfl rfl (by decide +kernel) ⟨by decide, by decide⟩) (q0 := 0) (ci := 4) rfl rfl rfl rfl hl.1 (Nat.le_of_ble_eq_true rfl) ⟨Nat.le_of_ble_eq_true rfl, Nat.le_of_ble_eq_true rfl⟩ dX4_learn_3 hK hP hD hS hA (perm_idx [0, 1] rfl rfl) (fun _ => perm_idx [0, 1] rfl rfl) (fun u H locs hw1 hP hD hS => ?_)
  refine wi_iconst hx hcd dX4_learn_6 ?_
  refine lv_istore (lv' := [(4, .int (iI 0)), (0, .ref (qk 0)), (1, .int (iI k)), (2, .ref (q 0)), (3, .int (iI c))]) hx hcd dX4_learn_7 hl (by decide) rfl (fun ls hl => ?_)
  have L9 : ∀ (fu : Nat) (i : Int) (g : Nat → Nat → Int) (H : Heap) (locs : List Loc) (ls : Array Slot), (10 - i < (fu : Int)) → (0 ≤ i ∧ i ≤ 10) → (g = va_up hb k.toNat (lrn (hb k.toNat) (tal (R c.toNat) st.toNat tm) i.toNat)) → va_P D vwCl (fl [BMak G qk g tt (tal (R c.toNat) st.toNat tm), BCams G q st th R sp]) H → va_D A0 (fl [BMak G qk g tt (tal (R c.toNat) st.toNat tm), BCams G q st th R sp]) → va_S A0 s0.heap H locs → lv_has ls 5 [(0, .ref (qk 0)), (1, .int (iI k)), (2, .ref (q 0)), (3, .int (iI c)), (4, .int (iI i))] → W p0 l e0 rmX4_learn s0 m0 args bel met cd H locs 0 0 Q0 (F0 m0 9 ls []) := by
    intro fu
    induction fu with
    | zero =>
      intro i g H locs ls hfu hi hg
      exact absurd hfu (by omega)
    | succ fu ih =>
      intro i g H locs ls hfu hi hg hP hD hS hl
      have ih9 := ih
      clear ih
      refine lv_iload hx hcd dX4_learn_9 (lv_at hl 4 rfl) ?_
      refine wi_bipush hx hcd dX4_learn_11 (by decide) ?_
      refine wi_icmp_ge (tgt := 41) hx hcd (by omega) (by omega) dX4_learn_13 (by decide) (fun c13 => ?_) (fun c13 => ?_)
      ·
        refine lv_aload_n hx hcd dX4_learn_41 rfl (lv_at hl 0 rfl) ?_
        refine g_get (C := RX4) (T := TX4) (N := 3) hx hcd hts (fun _ h => List.mem_cons_of_mem _ (List.mem_append_left _ (List.mem_append_right _ h))) hown hK hP (i := 0) rfl BMak_c0 rfl 1 (by decide) (by decide +kernel) rfl dX4_learn_42 ?_
        refine lv_iload_n hx hcd dX4_learn_45 rfl (lv_at hl 1 rfl) ?_
        refine lv_dup2_11 hx hcd dX4_learn_46 rfl rfl ?_
        refine g_iald hx hcd hK hP (i := 0) rfl BMak_c2 (by omega) (by decide) dX4_learn_47 ?_
        refine lv_aload_n hx hcd dX4_learn_48 rfl (lv_at hl 2 rfl) ?_
        refine cV_i (wc := [BCams G q st th R sp]) (wr := [BMak G qk g tt (tal (R c.toNat) st.toNat tm)]) (w1 := fun _ => [BCams G q st th R sp]) (Bs1 := fun _ => [BMak G qk g tt (tal (R c.toNat) st.toNat tm), BCams G q st th R sp]) (As := []) (rest := [.int (iI (tt k.toNat)), .int (iI k), .ref (qk 2)]) (kX0_steps l D G q st th R sp ) rfl ⟨hx, hcd, hml, hown, hts⟩ (cwV 0 hts gX4_learn_X0_steps rfl rfl rfl (by decide +kernel) ⟨by decide, by decide⟩) (q0 := 0) (ci := 0) rfl rfl rfl rfl hl.1 (Nat.le_of_ble_eq_true rfl) ⟨Nat.le_of_ble_eq_true rfl, Nat.le_of_ble_eq_true rfl⟩ dX4_learn_49 hK hP hD hS hA (perm_idx [1, 0] rfl rfl) (fun _ => perm_idx [1, 0] rfl rfl) (fun r u H locs hw2 hP hD hS => ?_)
        subst hw2
        refine wi_iadd hx hcd dX4_learn_52 ?_
        refine g_iast hx hcd hK hP hD hS (i := 0) rfl BMak_c2 (by omega) (by decide) (B1 := BMak G qk g (va_up tt k.toNat ((tt k.toNat) + st)) (tal (R c.toNat) st.toNat tm)) rfl (Bs1 := [BMak G qk g (va_up tt k.toNat ((tt k.toNat) + st)) (tal (R c.toNat) st.toNat tm), BCams G q st th R sp]) rfl dX4_learn_53 (fun H locs hP hD hS => ?_)
        rw [show BMak G qk g (va_up tt k.toNat ((tt k.toNat) + st)) (tal (R c.toNat) st.toNat tm) = BMak G qk (va_up hb k.toNat (lrn (hb k.toNat) (tal (R c.toNat) st.toNat tm) 10)) (va_up tt k.toNat ((tt k.toNat) + st)) (tal (R c.toNat) st.toNat tm) from congrArg (fun z_ : Nat → Nat → Int => BMak G qk z_ (va_up tt k.toNat ((tt k.toNat) + st)) (tal (R c.toNat) st.toNat tm)) (show (g : Nat → Nat → Int) = (va_up hb k.toNat (lrn (hb k.toNat) (tal (R c.toNat) st.toNat tm) 10)) from by rw [hg, show i = 10 by omega]; rfl)] at hP hD
        rw [show BMak G qk (va_up hb k.toNat (lrn (hb k.toNat) (tal (R c.toNat) st.toNat tm) 10)) (va_up tt k.toNat ((tt k.toNat) + st)) (tal (R c.toNat) st.toNat tm) = BMak G qk (va_up hb k.toNat (lrn (hb k.toNat) (tal (R c.toNat) st.toNat tm) 10)) (va_up tt k.toNat (tt k.toNat + st)) (tal (R c.toNat) st.toNat tm) from congrArg (fun z_ : Nat → Int => BMak G qk (va_up hb k.toNat (lrn (hb k.toNat) (tal (R c.toNat) st.toNat tm) 10)) z_ (tal (R c.toNat) st.toNat tm)) (show (va_up tt k.toNat ((tt k.toNat) + st) : Nat → Int) = (va_up tt k.toNat (tt k.toNat + st)) from by first | rfl | (rw [if_pos (by omega)]) | (rw [if_neg (by omega)]))] at hP hD
        exact fin () H locs ls 54 dX4_learn_54 hP hD hS (trivial)
      ·
        refine lv_aload_n hx hcd dX4_learn_16 rfl (lv_at hl 0 rfl) ?_
        refine g_get (C := RX4) (T := TX4) (N := 3) hx hcd hts (fun _ h => List.mem_cons_of_mem _ (List.mem_append_left _ (List.mem_append_right _ h))) hown hK hP (i := 0) rfl BMak_c0 rfl 0 (by decide) (by decide +kernel) rfl dX4_learn_17 ?_
        refine lv_iload_n hx hcd dX4_learn_20 rfl (lv_at hl 1 rfl) ?_
        refine g_aald (r := fun i => qk (4 + i)) hx hcd hK hP (i := 0) rfl BMak_c1 (by omega) (by decide) dX4_learn_21 ?_
        refine lv_iload hx hcd dX4_learn_22 (lv_at hl 4 rfl) ?_
        refine lv_dup2_11 hx hcd dX4_learn_24 rfl rfl ?_
        refine g_iald hx hcd hK hP (i := 0) rfl (BMak_row (by omega)) (by omega) (by decide) dX4_learn_25 ?_
        refine lv_aload_n hx hcd dX4_learn_26 rfl (lv_at hl 0 rfl) ?_
        refine g_get (C := RX4) (T := TX4) (N := 3) hx hcd hts (fun _ h => List.mem_cons_of_mem _ (List.mem_append_left _ (List.mem_append_right _ h))) hown hK hP (i := 0) rfl BMak_c0 rfl 2 (by decide) (by decide +kernel) rfl dX4_learn_27 ?_
        refine lv_iload hx hcd dX4_learn_30 (lv_at hl 4 rfl) ?_
        refine g_iald hx hcd hK hP (i := 0) rfl BMak_c3 (by omega) (by decide) dX4_learn_32 ?_
        refine wi_iadd hx hcd dX4_learn_33 ?_
        refine g_iast hx hcd hK hP hD hS (i := 0) rfl (BMak_row (by omega)) (by omega) (by decide) (B1 := BMak G qk (va_up g k.toNat (va_up (g k.toNat) i.toNat ((g k.toNat i.toNat) + ((tal (R c.toNat) st.toNat tm) i.toNat)))) tt (tal (R c.toNat) st.toNat tm)) (BMak_srow _ (by omega)) (Bs1 := [BMak G qk (va_up g k.toNat (va_up (g k.toNat) i.toNat ((g k.toNat i.toNat) + ((tal (R c.toNat) st.toNat tm) i.toNat)))) tt (tal (R c.toNat) st.toNat tm), BCams G q st th R sp]) rfl dX4_learn_34 (fun H locs hP hD hS => ?_)
        refine lv_iinc (v := iI (i + 1)) (lv' := [(4, .int (iI (i + 1))), (0, .ref (qk 0)), (1, .int (iI k)), (2, .ref (q 0)), (3, .int (iI c))]) hx hcd dX4_learn_35 hl (k := 4) rfl (iI_add _ _) (by decide) rfl (fun ls hl => ?_)
        refine lv_goto (tgt := 9) hx hcd dX4_learn_38 (by decide) ?_
        exact ih9 (i + 1) (va_up g k.toNat (va_up (g k.toNat) i.toNat ((g k.toNat i.toNat) + ((tal (R c.toNat) st.toNat tm) i.toNat)))) _ _ _ (by omega) (by omega) (by rw [hg, va_up_self, lrn_s, up_up, show (i + 1).toNat = i.toNat + 1 by omega]) hP hD hS (lv_sub hl [1, 2, 3, 4, 0] rfl)
  exact L9 (((10 - 0) + 1 : Int)).toNat 0 hb _ _ _ (by omega) (by omega) (by rw [show (0 : Int).toNat = 0 from rfl, lrn_0, up_id]) hP hD hS (lv_sub hl [1, 2, 3, 4, 0] rfl)

abbrev rmX4_likeness : Room := { frames := 2, cells := 0, slots := 0, locals := 47 }
set_option maxHeartbeats 4000000 in
set_option maxRecDepth 100000 in
theorem kX4_likeness (l : Launch) (D : va_G) (G : Nat → ClassId) (qk : Nat → Nat) (hb : Nat → Nat → Int) (tt : Nat → Int) (tm : Nat → Int) (q : Nat → Nat) (st : Int) (th : Nat → Int) (R : Nat → Nat → Int) (sp : Nat → Int) (k : Int) (c : Int) (hst : 2 ≤ st ∧ st ≤ 16) (hR : ∀ i j, 0 ≤ R i j ∧ R i j ≤ 9) (hhb : ∀ i j, 0 ≤ hb i j ∧ hb i j ≤ 1000) (htt : ∀ k, 0 ≤ tt k ∧ tt k ≤ 1000) (hk : 0 ≤ k ∧ k < 4) (hc : 0 ≤ c ∧ c < 12) : CtI l yX4_likeness wsX4_likeness rmX4_likeness D G [.ref (qk 0), .int (iI k), .ref (q 0), .int (iI c)] [BMak G qk hb tt tm, BCams G q st th R sp] (fun (r : Int32) (_ : Unit) => r = iI (LK st (R c.toNat) (hb k.toNat) (tt k.toNat))) (fun _ => [BMak G qk hb tt (tal (R c.toNat) st.toNat tm), BCams G q st th R sp]) := by
  refine CtI.ofI (cc := cX4_likeness) (maxL := 6) (by decide) rfl (Nat.le_of_ble_eq_true rfl) ?_
  intro p0 e0 s0 m0 args bel met cd A0 ls Q0 hx hcd hml hown hts hK hP hD hA hl fin
  have hl : lv_has ls 6 [(0, .ref (qk 0)), (1, .int (iI k)), (2, .ref (q 0)), (3, .int (iI c))] := hl
  have hS : va_S A0 s0.heap s0.heap [] := va_S.rf
  have hH : va_P D vwCl (fl [BMak G qk hb tt tm, BCams G q st th R sp]) s0.heap := hP
  obtain ⟨H, eH⟩ : ∃ H, H = s0.heap := ⟨_, rfl⟩
  obtain ⟨locs, eL⟩ : ∃ locs : List Loc, locs = [] := ⟨_, rfl⟩
  have hS : va_S A0 s0.heap H locs := by rw [eH, eL]; exact hS
  have hP : va_P D vwCl (fl [BMak G qk hb tt tm, BCams G q st th R sp]) H := by rw [eH]; exact hP
  suffices goal : W p0 l e0 rmX4_likeness s0 m0 args bel met cd H locs 0 0 Q0 (F0 m0 0 ls []) by rw [eH, eL] at goal; exact goal
  clear eH eL hH
  refine lv_aload_n hx hcd dX4_likeness_0 rfl (lv_at hl 0 rfl) ?_
  refine lv_aload_n hx hcd dX4_likeness_1 rfl (lv_at hl 2 rfl) ?_
  refine lv_iload_n hx hcd dX4_likeness_2 rfl (lv_at hl 3 rfl) ?_
  refine cV_v (wc := [BMak G qk hb tt tm, BCams G q st th R sp]) (wr := []) (w1 := fun _ => [BMak G qk hb tt (tal (R c.toNat) st.toNat tm), BCams G q st th R sp]) (Bs1 := fun _ => [BMak G qk hb tt (tal (R c.toNat) st.toNat tm), BCams G q st th R sp]) (As := [.ref (q 0), .int (iI c)]) (rest := []) (kX4_tally l D G qk hb tt tm q st th R sp c (by first | assumption | omega) (by first | assumption | omega) (by first | assumption | omega)) rfl ⟨hx, hcd, hml, hown, hts⟩ (cwV 2 hts gX4_likeness_X4_tally rfl rfl rfl (by decide +kernel) ⟨by decide, by decide⟩) (q0 := 0) (ci := 4) rfl rfl rfl rfl hl.1 (Nat.le_of_ble_eq_true rfl) ⟨Nat.le_of_ble_eq_true rfl, Nat.le_of_ble_eq_true rfl⟩ dX4_likeness_3 hK hP hD hS hA (perm_idx [0, 1] rfl rfl) (fun _ => perm_idx [0, 1] rfl rfl) (fun u H locs hw1 hP hD hS => ?_)
  refine wi_iconst hx hcd dX4_likeness_6 ?_
  refine lv_istore (lv' := [(4, .int (iI 0)), (0, .ref (qk 0)), (1, .int (iI k)), (2, .ref (q 0)), (3, .int (iI c))]) hx hcd dX4_likeness_7 hl (by decide) rfl (fun ls hl => ?_)
  refine wi_iconst hx hcd dX4_likeness_9 ?_
  refine lv_istore (lv' := [(5, .int (iI 0)), (4, .int (iI 0)), (0, .ref (qk 0)), (1, .int (iI k)), (2, .ref (q 0)), (3, .int (iI c))]) hx hcd dX4_likeness_10 hl (by decide) rfl (fun ls hl => ?_)
  have L12 : ∀ (fu : Nat) (s : Int) (i : Int) (H : Heap) (locs : List Loc) (ls : Array Slot), (10 - i < (fu : Int)) → (0 ≤ i ∧ i ≤ 10) → (s = lk (tal (R c.toNat) st.toNat tm) (hb k.toNat) (tt k.toNat) st i.toNat) → va_P D vwCl (fl [BMak G qk hb tt (tal (R c.toNat) st.toNat tm), BCams G q st th R sp]) H → va_D A0 (fl [BMak G qk hb tt (tal (R c.toNat) st.toNat tm), BCams G q st th R sp]) → va_S A0 s0.heap H locs → lv_has ls 6 [(0, .ref (qk 0)), (1, .int (iI k)), (2, .ref (q 0)), (3, .int (iI c)), (4, .int (iI s)), (5, .int (iI i))] → W p0 l e0 rmX4_likeness s0 m0 args bel met cd H locs 0 0 Q0 (F0 m0 12 ls []) := by
    intro fu
    induction fu with
    | zero =>
      intro s i H locs ls hfu hi hs
      exact absurd hfu (by omega)
    | succ fu ih =>
      intro s i H locs ls hfu hi hs hP hD hS hl
      have ih12 := ih
      clear ih
      refine lv_iload hx hcd dX4_likeness_12 (lv_at hl 5 rfl) ?_
      refine wi_bipush hx hcd dX4_likeness_14 (by decide) ?_
      refine wi_icmp_ge (tgt := 62) hx hcd (by omega) (by omega) dX4_likeness_16 (by decide) (fun c16 => ?_) (fun c16 => ?_)
      ·
        refine lv_iload hx hcd dX4_likeness_62 (lv_at hl 4 rfl) ?_
        exact fin _ () H locs ls 64 dX4_likeness_64 hP hD hS (trivial) (congrArg iI (by rw [hs, show i = 10 by omega]; exact lk_cong 10 (fun k hk => by unfold tal ti; rw [if_pos hk]) (fun _ _ => rfl)))
      ·
        have b1 := tal_rng (R c.toNat) tm st.toNat i.toNat (by omega)
        have b2 := htt k.toNat
        have b3 := hhb k.toNat i.toNat
        have b4 := mul_b (A := 16) (B := 1000) (a := tal (R c.toNat) st.toNat tm i.toNat) (b := tt k.toNat) (by omega) b2
        have b5 := mul_b (A := 1000) (B := 16) (a := hb k.toNat i.toNat) (b := st) b3 (by omega)
        refine lv_iload hx hcd dX4_likeness_19 (lv_at hl 4 rfl) ?_
        refine lv_aload_n hx hcd dX4_likeness_21 rfl (lv_at hl 0 rfl) ?_
        refine g_get (C := RX4) (T := TX4) (N := 3) hx hcd hts (fun _ h => List.mem_cons_of_mem _ (List.mem_append_left _ (List.mem_append_right _ h))) hown hK hP (i := 0) rfl BMak_c0 rfl 2 (by decide) (by decide +kernel) rfl dX4_likeness_22 ?_
        refine lv_iload hx hcd dX4_likeness_25 (lv_at hl 5 rfl) ?_
        refine g_iald hx hcd hK hP (i := 0) rfl BMak_c3 (by omega) (by decide) dX4_likeness_27 ?_
        refine lv_aload_n hx hcd dX4_likeness_28 rfl (lv_at hl 0 rfl) ?_
        refine g_get (C := RX4) (T := TX4) (N := 3) hx hcd hts (fun _ h => List.mem_cons_of_mem _ (List.mem_append_left _ (List.mem_append_right _ h))) hown hK hP (i := 0) rfl BMak_c0 rfl 1 (by decide) (by decide +kernel) rfl dX4_likeness_29 ?_
        refine lv_iload_n hx hcd dX4_likeness_32 rfl (lv_at hl 1 rfl) ?_
        refine g_iald hx hcd hK hP (i := 0) rfl BMak_c2 (by omega) (by decide) dX4_likeness_33 ?_
        refine wi_imul hx hcd dX4_likeness_34 ?_
        refine lv_aload_n hx hcd dX4_likeness_35 rfl (lv_at hl 0 rfl) ?_
        refine g_get (C := RX4) (T := TX4) (N := 3) hx hcd hts (fun _ h => List.mem_cons_of_mem _ (List.mem_append_left _ (List.mem_append_right _ h))) hown hK hP (i := 0) rfl BMak_c0 rfl 0 (by decide) (by decide +kernel) rfl dX4_likeness_36 ?_
        refine lv_iload_n hx hcd dX4_likeness_39 rfl (lv_at hl 1 rfl) ?_
        refine g_aald (r := fun i => qk (4 + i)) hx hcd hK hP (i := 0) rfl BMak_c1 (by omega) (by decide) dX4_likeness_40 ?_
        refine lv_iload hx hcd dX4_likeness_41 (lv_at hl 5 rfl) ?_
        refine g_iald hx hcd hK hP (i := 0) rfl (BMak_row (by omega)) (by omega) (by decide) dX4_likeness_43 ?_
        refine lv_aload_n hx hcd dX4_likeness_44 rfl (lv_at hl 2 rfl) ?_
        refine cV_i (wc := [BCams G q st th R sp]) (wr := [BMak G qk hb tt (tal (R c.toNat) st.toNat tm)]) (w1 := fun _ => [BCams G q st th R sp]) (Bs1 := fun _ => [BMak G qk hb tt (tal (R c.toNat) st.toNat tm), BCams G q st th R sp]) (As := []) (rest := [.int (iI (hb k.toNat i.toNat)), .int (iI (((tal (R c.toNat) st.toNat tm) i.toNat) * (tt k.toNat))), .int (iI s)]) (kX0_steps l D G q st th R sp ) rfl ⟨hx, hcd, hml, hown, hts⟩ (cwV 0 hts gX4_likeness_X0_steps rfl rfl rfl (by decide +kernel) ⟨by decide, by decide⟩) (q0 := 0) (ci := 0) rfl rfl rfl rfl hl.1 (Nat.le_of_ble_eq_true rfl) ⟨Nat.le_of_ble_eq_true rfl, Nat.le_of_ble_eq_true rfl⟩ dX4_likeness_45 hK hP hD hS hA (perm_idx [1, 0] rfl rfl) (fun _ => perm_idx [1, 0] rfl rfl) (fun r u H locs hw2 hP hD hS => ?_)
        subst hw2
        refine wi_imul hx hcd dX4_likeness_48 ?_
        refine wi_isub hx hcd dX4_likeness_49 ?_
        refine g_mabs hx hcd (by rw [hml]; exact hl.1.symm) hts hown (by decide +kernel) (by decide +kernel) (by decide +kernel) (by decide +kernel) ⟨Nat.le_of_ble_eq_true rfl, Nat.le_of_ble_eq_true rfl, Nat.le_of_ble_eq_true rfl, Nat.le_of_ble_eq_true rfl⟩ (by omega) dX4_likeness_50 ?_
        refine wi_iadd hx hcd dX4_likeness_53 ?_
        refine lv_istore (lv' := [(4, .int (iI (s + (if 0 ≤ ((((tal (R c.toNat) st.toNat tm) i.toNat) * (tt k.toNat)) - ((hb k.toNat i.toNat) * st)) then ((((tal (R c.toNat) st.toNat tm) i.toNat) * (tt k.toNat)) - ((hb k.toNat i.toNat) * st)) else -((((tal (R c.toNat) st.toNat tm) i.toNat) * (tt k.toNat)) - ((hb k.toNat i.toNat) * st)))))), (0, .ref (qk 0)), (1, .int (iI k)), (2, .ref (q 0)), (3, .int (iI c)), (5, .int (iI i))]) hx hcd dX4_likeness_54 hl (by decide) rfl (fun ls hl => ?_)
        refine lv_iinc (v := iI (i + 1)) (lv' := [(5, .int (iI (i + 1))), (4, .int (iI (s + (if 0 ≤ ((((tal (R c.toNat) st.toNat tm) i.toNat) * (tt k.toNat)) - ((hb k.toNat i.toNat) * st)) then ((((tal (R c.toNat) st.toNat tm) i.toNat) * (tt k.toNat)) - ((hb k.toNat i.toNat) * st)) else -((((tal (R c.toNat) st.toNat tm) i.toNat) * (tt k.toNat)) - ((hb k.toNat i.toNat) * st)))))), (0, .ref (qk 0)), (1, .int (iI k)), (2, .ref (q 0)), (3, .int (iI c))]) hx hcd dX4_likeness_56 hl (k := 5) rfl (iI_add _ _) (by decide) rfl (fun ls hl => ?_)
        refine lv_goto (tgt := 12) hx hcd dX4_likeness_59 (by decide) ?_
        exact ih12 (s + (if 0 ≤ ((((tal (R c.toNat) st.toNat tm) i.toNat) * (tt k.toNat)) - ((hb k.toNat i.toNat) * st)) then ((((tal (R c.toNat) st.toNat tm) i.toNat) * (tt k.toNat)) - ((hb k.toNat i.toNat) * st)) else -((((tal (R c.toNat) st.toNat tm) i.toNat) * (tt k.toNat)) - ((hb k.toNat i.toNat) * st)))) (i + 1) _ _ _ (by omega) (by omega) (by rw [hs, lk_s (by omega)]) hP hD hS (lv_sub hl [2, 3, 4, 5, 1, 0] rfl)
  exact L12 (((10 - 0) + 1 : Int)).toNat 0 0 _ _ _ (by omega) (by omega) (by rfl) hP hD hS (lv_sub hl [2, 3, 4, 5, 1, 0] rfl)

abbrev rmX4_nearest : Room := { frames := 3, cells := 0, slots := 0, locals := 72 }
set_option maxHeartbeats 4000000 in
set_option maxRecDepth 100000 in
theorem kX4_nearest (l : Launch) (D : va_G) (G : Nat → ClassId) (qk : Nat → Nat) (hb : Nat → Nat → Int) (tt : Nat → Int) (tm : Nat → Int) (q : Nat → Nat) (st : Int) (th : Nat → Int) (R : Nat → Nat → Int) (sp : Nat → Int) (c : Int) (hst : 2 ≤ st ∧ st ≤ 16) (hR : ∀ i j, 0 ≤ R i j ∧ R i j ≤ 9) (hhb : ∀ i j, 0 ≤ hb i j ∧ hb i j ≤ 1000) (htt : ∀ k, 0 ≤ tt k ∧ tt k ≤ 1000) (hc : 0 ≤ c ∧ c < 12) : CtI l yX4_nearest wsX4_nearest rmX4_nearest D G [.ref (qk 0), .ref (q 0), .int (iI c)] [BMak G qk hb tt tm, BCams G q st th R sp] (fun (r : Int32) (u : (Nat → Int)) => r = iI (bst (fun k => LK st (R c.toNat) (hb k) (tt k)) tt 4) ∧ True) (fun u => [BMak G qk hb tt u, BCams G q st th R sp]) := by
  refine CtI.ofI (cc := cX4_nearest) (maxL := 8) (by decide) rfl (Nat.le_of_ble_eq_true rfl) ?_
  intro p0 e0 s0 m0 args bel met cd A0 ls Q0 hx hcd hml hown hts hK hP hD hA hl fin
  have hl : lv_has ls 8 [(0, .ref (qk 0)), (1, .ref (q 0)), (2, .int (iI c))] := hl
  have hS : va_S A0 s0.heap s0.heap [] := va_S.rf
  have hH : va_P D vwCl (fl [BMak G qk hb tt tm, BCams G q st th R sp]) s0.heap := hP
  obtain ⟨H, eH⟩ : ∃ H, H = s0.heap := ⟨_, rfl⟩
  obtain ⟨locs, eL⟩ : ∃ locs : List Loc, locs = [] := ⟨_, rfl⟩
  have hS : va_S A0 s0.heap H locs := by rw [eH, eL]; exact hS
  have hP : va_P D vwCl (fl [BMak G qk hb tt tm, BCams G q st th R sp]) H := by rw [eH]; exact hP
  suffices goal : W p0 l e0 rmX4_nearest s0 m0 args bel met cd H locs 0 0 Q0 (F0 m0 0 ls []) by rw [eH, eL] at goal; exact goal
  clear eH eL hH
  refine wi_bipush hx hcd dX4_nearest_0 (by decide) ?_
  refine lv_istore_n (lv' := [(3, .int (iI (-9))), (0, .ref (qk 0)), (1, .ref (q 0)), (2, .int (iI c))]) hx hcd dX4_nearest_2 rfl hl (by decide) rfl (fun ls hl => ?_)
  refine wi_iconst hx hcd dX4_nearest_3 ?_
  refine lv_istore (lv' := [(4, .int (iI 0)), (3, .int (iI (-9))), (0, .ref (qk 0)), (1, .ref (q 0)), (2, .int (iI c))]) hx hcd dX4_nearest_4 hl (by decide) rfl (fun ls hl => ?_)
  refine wi_iconst hx hcd dX4_nearest_6 ?_
  refine lv_istore (lv' := [(5, .int (iI 1)), (4, .int (iI 0)), (3, .int (iI (-9))), (0, .ref (qk 0)), (1, .ref (q 0)), (2, .int (iI c))]) hx hcd dX4_nearest_7 hl (by decide) rfl (fun ls hl => ?_)
  refine wi_iconst hx hcd dX4_nearest_9 ?_
  refine lv_istore (lv' := [(6, .int (iI 0)), (5, .int (iI 1)), (4, .int (iI 0)), (3, .int (iI (-9))), (0, .ref (qk 0)), (1, .ref (q 0)), (2, .int (iI c))]) hx hcd dX4_nearest_10 hl (by decide) rfl (fun ls hl => ?_)
  have L12 : ∀ (fu : Nat) (b : Int) (x : Int) (y : Int) (i : Int) (f : Nat → Int) (H : Heap) (locs : List Loc) (ls : Array Slot), (4 - i < (fu : Int)) → (0 ≤ i ∧ i ≤ 4) → (b = bst (fun k => LK st (R c.toNat) (hb k) (tt k)) tt i.toNat) → (b ≠ -9 → x = LK st (R c.toNat) (hb b.toNat) (tt b.toNat) ∧ y = tt b.toNat) → (b = -9 ∨ (0 ≤ b ∧ b < 4)) → (0 ≤ x ∧ x ≤ 160000 ∧ 0 ≤ y ∧ y ≤ 1000) → va_P D vwCl (fl [BMak G qk hb tt f, BCams G q st th R sp]) H → va_D A0 (fl [BMak G qk hb tt f, BCams G q st th R sp]) → va_S A0 s0.heap H locs → lv_has ls 8 [(0, .ref (qk 0)), (1, .ref (q 0)), (2, .int (iI c)), (3, .int (iI b)), (4, .int (iI x)), (5, .int (iI y)), (6, .int (iI i))] → W p0 l e0 rmX4_nearest s0 m0 args bel met cd H locs 0 0 Q0 (F0 m0 12 ls []) := by
    intro fu
    induction fu with
    | zero =>
      intro b x y i f H locs ls hfu hi hb9 hxy hbr hxr
      exact absurd hfu (by omega)
    | succ fu ih =>
      intro b x y i f H locs ls hfu hi hb9 hxy hbr hxr hP hD hS hl
      have ih12 := ih
      clear ih
      refine lv_iload hx hcd dX4_nearest_12 (lv_at hl 6 rfl) ?_
      refine wi_iconst hx hcd dX4_nearest_14 ?_
      refine wi_icmp_ge (tgt := 87) hx hcd (by omega) (by omega) dX4_nearest_15 (by decide) (fun c15 => ?_) (fun c15 => ?_)
      ·
        refine lv_iload_n hx hcd dX4_nearest_87 rfl (lv_at hl 3 rfl) ?_
        exact fin _ f H locs ls 88 dX4_nearest_88 hP hD hS (trivial) (⟨congrArg iI (by rw [hb9, show i = 4 by omega]; rfl), trivial⟩)
      ·
        refine lv_aload_n hx hcd dX4_nearest_18 rfl (lv_at hl 0 rfl) ?_
        refine g_get (C := RX4) (T := TX4) (N := 3) hx hcd hts (fun _ h => List.mem_cons_of_mem _ (List.mem_append_left _ (List.mem_append_right _ h))) hown hK hP (i := 0) rfl BMak_c0 rfl 1 (by decide) (by decide +kernel) rfl dX4_nearest_19 ?_
        refine lv_iload hx hcd dX4_nearest_22 (lv_at hl 6 rfl) ?_
        refine g_iald hx hcd hK hP (i := 0) rfl BMak_c2 (by omega) (by decide) dX4_nearest_24 ?_
        have f1 := htt i.toNat
        refine wi_if_gt (tgt := 31) hx hcd (by omega) dX4_nearest_25 (by decide) (fun c25 => ?_) (fun c25 => ?_)
        ·
          refine lv_aload_n hx hcd dX4_nearest_31 rfl (lv_at hl 0 rfl) ?_
          refine lv_iload hx hcd dX4_nearest_32 (lv_at hl 6 rfl) ?_
          refine lv_aload_n hx hcd dX4_nearest_34 rfl (lv_at hl 1 rfl) ?_
          refine lv_iload_n hx hcd dX4_nearest_35 rfl (lv_at hl 2 rfl) ?_
          refine cV_i (wc := [BMak G qk hb tt f, BCams G q st th R sp]) (wr := []) (w1 := fun _ => [BMak G qk hb tt (tal (R c.toNat) st.toNat f), BCams G q st th R sp]) (Bs1 := fun _ => [BMak G qk hb tt (tal (R c.toNat) st.toNat f), BCams G q st th R sp]) (As := [.int (iI i), .ref (q 0), .int (iI c)]) (rest := []) (kX4_likeness l D G qk hb tt f q st th R sp i c (by first | assumption | omega) (by first | assumption | omega) (by first | assumption | omega) (by first | assumption | omega) (by first | assumption | omega) (by first | assumption | omega)) rfl ⟨hx, hcd, hml, hown, hts⟩ (cwV 3 hts gX4_nearest_X4_likeness rfl rfl rfl (by decide +kernel) ⟨by decide, by decide⟩) (q0 := 0) (ci := 4) rfl rfl rfl rfl hl.1 (Nat.le_of_ble_eq_true rfl) ⟨Nat.le_of_ble_eq_true rfl, Nat.le_of_ble_eq_true rfl⟩ dX4_nearest_36 hK hP hD hS hA (perm_idx [0, 1] rfl rfl) (fun _ => perm_idx [0, 1] rfl rfl) (fun r u H locs hw2 hP hD hS => ?_)
          subst hw2
          have hlr := LK_rng (st := st) (f := R c.toNat) (g := hb i.toNat) (T := tt i.toNat) (htt i.toNat) hst (hhb i.toNat)
          refine lv_istore (lv' := [(7, .int (iI (LK st (R c.toNat) (hb i.toNat) (tt i.toNat)))), (0, .ref (qk 0)), (1, .ref (q 0)), (2, .int (iI c)), (3, .int (iI b)), (4, .int (iI x)), (5, .int (iI y)), (6, .int (iI i))]) hx hcd dX4_nearest_39 hl (by decide) rfl (fun ls hl => ?_)
          refine lv_iload_n hx hcd dX4_nearest_41 rfl (lv_at hl 4 rfl) ?_
          refine wi_bipush hx hcd dX4_nearest_42 (by decide) ?_
          refine wi_icmp_eq (tgt := 65) hx hcd (by omega) (by omega) dX4_nearest_44 (by decide) (fun c44 => ?_) (fun c44 => ?_)
          ·
            have hb8 : i = bst (fun k => LK st (R c.toNat) (hb k) (tt k)) tt (i + 1).toNat := by
              rw [bst_s (by omega), ← hb9, if_pos]
              refine ⟨by omega, ?_⟩
              first | exact Or.inl c44 | exact Or.inr (by rw [← (hxy c44).1, ← (hxy c44).2]; exact c62)
            have hx8 : i ≠ -9 → LK st (R c.toNat) (hb i.toNat) (tt i.toNat) = LK st (R c.toNat) (hb i.toNat) (tt i.toNat) ∧ tt i.toNat = tt i.toNat := fun _ => ⟨rfl, rfl⟩
            have hyr := htt i.toNat
            refine lv_iload hx hcd dX4_nearest_65 (lv_at hl 7 rfl) ?_
            refine lv_istore_n (lv' := [(3, .int (iI i)), (7, .int (iI (LK st (R c.toNat) (hb i.toNat) (tt i.toNat)))), (0, .ref (qk 0)), (1, .ref (q 0)), (2, .int (iI c)), (4, .int (iI x)), (5, .int (iI y)), (6, .int (iI i))]) hx hcd dX4_nearest_67 rfl hl (by decide) rfl (fun ls hl => ?_)
            refine lv_iload hx hcd dX4_nearest_68 (lv_at hl 1 rfl) ?_
            refine lv_istore (lv' := [(4, .int (iI (LK st (R c.toNat) (hb i.toNat) (tt i.toNat)))), (3, .int (iI i)), (7, .int (iI (LK st (R c.toNat) (hb i.toNat) (tt i.toNat)))), (0, .ref (qk 0)), (1, .ref (q 0)), (2, .int (iI c)), (5, .int (iI y)), (6, .int (iI i))]) hx hcd dX4_nearest_70 hl (by decide) rfl (fun ls hl => ?_)
            refine lv_aload_n hx hcd dX4_nearest_72 rfl (lv_at hl 3 rfl) ?_
            refine g_get (C := RX4) (T := TX4) (N := 3) hx hcd hts (fun _ h => List.mem_cons_of_mem _ (List.mem_append_left _ (List.mem_append_right _ h))) hown hK hP (i := 0) rfl BMak_c0 rfl 1 (by decide) (by decide +kernel) rfl dX4_nearest_73 ?_
            refine lv_iload hx hcd dX4_nearest_76 (lv_at hl 7 rfl) ?_
            refine g_iald hx hcd hK hP (i := 0) rfl BMak_c2 (by omega) (by decide) dX4_nearest_78 ?_
            have f3 := htt i.toNat
            refine lv_istore (lv' := [(5, .int (iI (tt i.toNat))), (4, .int (iI (LK st (R c.toNat) (hb i.toNat) (tt i.toNat)))), (3, .int (iI i)), (7, .int (iI (LK st (R c.toNat) (hb i.toNat) (tt i.toNat)))), (0, .ref (qk 0)), (1, .ref (q 0)), (2, .int (iI c)), (6, .int (iI i))]) hx hcd dX4_nearest_79 hl (by decide) rfl (fun ls hl => ?_)
            try (have hb8 : b = bst (fun k => LK st (R c.toNat) (hb k) (tt k)) tt (i + 1).toNat := (by rw [bst_s (by omega), ← hb9, if_neg (fun q => by rcases q with ⟨-, q | q⟩; exact c44 q; rw [← (hxy c44).1, ← (hxy c44).2] at q; omega)]))
            refine lv_iinc (v := iI (i + 1)) (lv' := [(6, .int (iI (i + 1))), (5, .int (iI (tt i.toNat))), (4, .int (iI (LK st (R c.toNat) (hb i.toNat) (tt i.toNat)))), (3, .int (iI i)), (7, .int (iI (LK st (R c.toNat) (hb i.toNat) (tt i.toNat)))), (0, .ref (qk 0)), (1, .ref (q 0)), (2, .int (iI c))]) hx hcd dX4_nearest_81 hl (k := 7) rfl (iI_add _ _) (by decide) rfl (fun ls hl => ?_)
            refine lv_goto (tgt := 12) hx hcd dX4_nearest_84 (by decide) ?_
            exact ih12 i (LK st (R c.toNat) (hb i.toNat) (tt i.toNat)) (tt i.toNat) (i + 1) (tal (R c.toNat) st.toNat f) _ _ _ (by omega) (by omega) (hb8) (by first | exact hxy | exact fun _ => ⟨rfl, rfl⟩) (by omega) (by omega) hP hD hS (lv_sub hl [5, 6, 7, 3, 2, 1, 0] rfl)
          ·
            have p1 := mul_b (A := 160000) (B := 1000) (a := LK st (R c.toNat) (hb i.toNat) (tt i.toNat)) (b := y) hlr (by omega)
            have p2 := mul_b (A := 160000) (B := 1000) (a := x) (b := tt i.toNat) (by omega) (htt i.toNat)
            refine lv_iload hx hcd dX4_nearest_47 (lv_at hl 0 rfl) ?_
            refine lv_iload hx hcd dX4_nearest_49 (lv_at hl 6 rfl) ?_
            refine wi_imul hx hcd dX4_nearest_51 ?_
            refine lv_iload hx hcd dX4_nearest_52 (lv_at hl 5 rfl) ?_
            refine lv_aload_n hx hcd dX4_nearest_54 rfl (lv_at hl 1 rfl) ?_
            refine g_get (C := RX4) (T := TX4) (N := 3) hx hcd hts (fun _ h => List.mem_cons_of_mem _ (List.mem_append_left _ (List.mem_append_right _ h))) hown hK hP (i := 0) rfl BMak_c0 rfl 1 (by decide) (by decide +kernel) rfl dX4_nearest_55 ?_
            refine lv_iload hx hcd dX4_nearest_58 (lv_at hl 7 rfl) ?_
            refine g_iald hx hcd hK hP (i := 0) rfl BMak_c2 (by omega) (by decide) dX4_nearest_60 ?_
            have f4 := htt i.toNat
            refine wi_imul hx hcd dX4_nearest_61 ?_
            refine wi_icmp_ge (tgt := 81) hx hcd (by omega) (by omega) dX4_nearest_62 (by decide) (fun c62 => ?_) (fun c62 => ?_)
            ·
              try (have hb8 : b = bst (fun k => LK st (R c.toNat) (hb k) (tt k)) tt (i + 1).toNat := (by rw [bst_s (by omega), ← hb9, if_neg (fun q => by rcases q with ⟨-, q | q⟩; exact c44 q; rw [← (hxy c44).1, ← (hxy c44).2] at q; omega)]))
              refine lv_iinc (v := iI (i + 1)) (lv' := [(6, .int (iI (i + 1))), (7, .int (iI (LK st (R c.toNat) (hb i.toNat) (tt i.toNat)))), (0, .ref (qk 0)), (1, .ref (q 0)), (2, .int (iI c)), (3, .int (iI b)), (4, .int (iI x)), (5, .int (iI y))]) hx hcd dX4_nearest_81 hl (k := 7) rfl (iI_add _ _) (by decide) rfl (fun ls hl => ?_)
              refine lv_goto (tgt := 12) hx hcd dX4_nearest_84 (by decide) ?_
              exact ih12 b x y (i + 1) (tal (R c.toNat) st.toNat f) _ _ _ (by omega) (by omega) (hb8) (by first | exact hxy | exact fun _ => ⟨rfl, rfl⟩) (by omega) (by omega) hP hD hS (lv_sub hl [2, 3, 4, 5, 6, 7, 0] rfl)
            ·
              have hb8 : i = bst (fun k => LK st (R c.toNat) (hb k) (tt k)) tt (i + 1).toNat := by
                rw [bst_s (by omega), ← hb9, if_pos]
                refine ⟨by omega, ?_⟩
                first | exact Or.inl c44 | exact Or.inr (by rw [← (hxy c44).1, ← (hxy c44).2]; exact c62)
              have hx8 : i ≠ -9 → LK st (R c.toNat) (hb i.toNat) (tt i.toNat) = LK st (R c.toNat) (hb i.toNat) (tt i.toNat) ∧ tt i.toNat = tt i.toNat := fun _ => ⟨rfl, rfl⟩
              have hyr := htt i.toNat
              refine lv_iload hx hcd dX4_nearest_65 (lv_at hl 7 rfl) ?_
              refine lv_istore_n (lv' := [(3, .int (iI i)), (7, .int (iI (LK st (R c.toNat) (hb i.toNat) (tt i.toNat)))), (0, .ref (qk 0)), (1, .ref (q 0)), (2, .int (iI c)), (4, .int (iI x)), (5, .int (iI y)), (6, .int (iI i))]) hx hcd dX4_nearest_67 rfl hl (by decide) rfl (fun ls hl => ?_)
              refine lv_iload hx hcd dX4_nearest_68 (lv_at hl 1 rfl) ?_
              refine lv_istore (lv' := [(4, .int (iI (LK st (R c.toNat) (hb i.toNat) (tt i.toNat)))), (3, .int (iI i)), (7, .int (iI (LK st (R c.toNat) (hb i.toNat) (tt i.toNat)))), (0, .ref (qk 0)), (1, .ref (q 0)), (2, .int (iI c)), (5, .int (iI y)), (6, .int (iI i))]) hx hcd dX4_nearest_70 hl (by decide) rfl (fun ls hl => ?_)
              refine lv_aload_n hx hcd dX4_nearest_72 rfl (lv_at hl 3 rfl) ?_
              refine g_get (C := RX4) (T := TX4) (N := 3) hx hcd hts (fun _ h => List.mem_cons_of_mem _ (List.mem_append_left _ (List.mem_append_right _ h))) hown hK hP (i := 0) rfl BMak_c0 rfl 1 (by decide) (by decide +kernel) rfl dX4_nearest_73 ?_
              refine lv_iload hx hcd dX4_nearest_76 (lv_at hl 7 rfl) ?_
              refine g_iald hx hcd hK hP (i := 0) rfl BMak_c2 (by omega) (by decide) dX4_nearest_78 ?_
              have f5 := htt i.toNat
              refine lv_istore (lv' := [(5, .int (iI (tt i.toNat))), (4, .int (iI (LK st (R c.toNat) (hb i.toNat) (tt i.toNat)))), (3, .int (iI i)), (7, .int (iI (LK st (R c.toNat) (hb i.toNat) (tt i.toNat)))), (0, .ref (qk 0)), (1, .ref (q 0)), (2, .int (iI c)), (6, .int (iI i))]) hx hcd dX4_nearest_79 hl (by decide) rfl (fun ls hl => ?_)
              try (have hb8 : b = bst (fun k => LK st (R c.toNat) (hb k) (tt k)) tt (i + 1).toNat := (by rw [bst_s (by omega), ← hb9, if_neg (fun q => by rcases q with ⟨-, q | q⟩; exact c44 q; rw [← (hxy c44).1, ← (hxy c44).2] at q; omega)]))
              refine lv_iinc (v := iI (i + 1)) (lv' := [(6, .int (iI (i + 1))), (5, .int (iI (tt i.toNat))), (4, .int (iI (LK st (R c.toNat) (hb i.toNat) (tt i.toNat)))), (3, .int (iI i)), (7, .int (iI (LK st (R c.toNat) (hb i.toNat) (tt i.toNat)))), (0, .ref (qk 0)), (1, .ref (q 0)), (2, .int (iI c))]) hx hcd dX4_nearest_81 hl (k := 7) rfl (iI_add _ _) (by decide) rfl (fun ls hl => ?_)
              refine lv_goto (tgt := 12) hx hcd dX4_nearest_84 (by decide) ?_
              exact ih12 i (LK st (R c.toNat) (hb i.toNat) (tt i.toNat)) (tt i.toNat) (i + 1) (tal (R c.toNat) st.toNat f) _ _ _ (by omega) (by omega) (hb8) (by first | exact hxy | exact fun _ => ⟨rfl, rfl⟩) (by omega) (by omega) hP hD hS (lv_sub hl [5, 6, 7, 3, 2, 1, 0] rfl)
        ·
          have hb8 : b = bst (fun k => LK st (R c.toNat) (hb k) (tt k)) tt (i + 1).toNat := by rw [bst_s (by omega), ← hb9, if_neg (by omega)]
          have hx8 := hxy
          refine lv_goto (tgt := 81) hx hcd dX4_nearest_28 (by decide) ?_
          try (have hb8 : b = bst (fun k => LK st (R c.toNat) (hb k) (tt k)) tt (i + 1).toNat := (by rw [bst_s (by omega), ← hb9, if_neg (fun q => by rcases q with ⟨-, q | q⟩; exact c44 q; rw [← (hxy c44).1, ← (hxy c44).2] at q; omega)]))
          refine lv_iinc (v := iI (i + 1)) (lv' := [(6, .int (iI (i + 1))), (0, .ref (qk 0)), (1, .ref (q 0)), (2, .int (iI c)), (3, .int (iI b)), (4, .int (iI x)), (5, .int (iI y))]) hx hcd dX4_nearest_81 hl (k := 6) rfl (iI_add _ _) (by decide) rfl (fun ls hl => ?_)
          refine lv_goto (tgt := 12) hx hcd dX4_nearest_84 (by decide) ?_
          exact ih12 b x y (i + 1) f _ _ _ (by omega) (by omega) (hb8) (by first | exact hxy | exact fun _ => ⟨rfl, rfl⟩) (by omega) (by omega) hP hD hS (lv_sub hl [1, 2, 3, 4, 5, 6, 0] rfl)
  exact L12 (((4 - 0) + 1 : Int)).toNat (-9) 0 1 0 tm _ _ _ (by omega) (by omega) (by rfl) (fun h => absurd rfl h) (by omega) (by omega) hP hD hS (lv_sub hl [4, 5, 6, 3, 2, 1, 0] rfl)
