abbrev rmX0_startAnew : Room := { frames := 0, cells := 0, slots := 0, locals := 0 }
set_option maxHeartbeats 4000000 in
set_option maxRecDepth 100000 in
theorem kX0_startAnew (l : Launch) (D : va_G) (G : Nat → ClassId) (q : Nat → Nat) (st : Int) (th : Nat → Int) (R : Nat → Nat → Int) (sp : Nat → Int) (v : Int) : CtV l yX0_startAnew wsX0_startAnew rmX0_startAnew D G [.ref (q 0), .int (iI v)] [BCams G q st th R sp] (fun _ : Unit => True) (fun _ => [BCams G q v (filI 0 12 th) R sp]) := by
  refine CtV.of (cc := cX0_startAnew) (maxL := 3) (by decide) rfl (Nat.le_of_ble_eq_true rfl) ?_
  intro p0 e0 s0 m0 args bel met cd A0 ls Q0 hx hb hml hown hts hK hP hD hA hl fin
  have hl : lv_has ls 3 [(0, .ref (q 0)), (1, .int (iI v))] := hl
  have hS : va_S A0 s0.heap s0.heap [] := va_S.rf
  have hH : va_P D vwCl (fl [BCams G q st th R sp]) s0.heap := hP
  obtain ⟨H, eH⟩ : ∃ H, H = s0.heap := ⟨_, rfl⟩
  obtain ⟨locs, eL⟩ : ∃ locs : List Loc, locs = [] := ⟨_, rfl⟩
  have hS : va_S A0 s0.heap H locs := by rw [eH, eL]; exact hS
  have hP : va_P D vwCl (fl [BCams G q st th R sp]) H := by rw [eH]; exact hP
  suffices goal : W p0 l e0 rmX0_startAnew s0 m0 args bel met cd H locs 0 0 Q0 (F0 m0 0 ls []) by rw [eH, eL] at goal; exact goal
  clear eH eL hH
  refine lv_aload_n hx hb dX0_startAnew_0 rfl (lv_at hl 0 rfl) ?_
  refine lv_iload_n hx hb dX0_startAnew_1 rfl (lv_at hl 1 rfl) ?_
  refine g_put (C := RX0) (T := TX0) (N := 4) hx hb hts (fun _ h => List.mem_cons_of_mem _ (List.mem_append_right _ h)) tyX0 tyX0_ok nmX0 hown hK hP hD hS (i := 0) rfl BCams_c0 rfl 3 (by decide) (by decide +kernel) rfl (by decide +kernel) (Nat.le_of_ble_eq_true rfl) (B1 := BCams G q v th R sp) rfl (Bs1 := [BCams G q v th R sp]) rfl dX0_startAnew_2 (fun H locs hP hD hS => ?_)
  refine wi_iconst hx hb dX0_startAnew_5 ?_
  refine lv_istore_n (lv' := [(2, .int (iI 0)), (0, .ref (q 0)), (1, .int (iI v))]) hx hb dX0_startAnew_6 rfl hl (by decide) rfl (fun ls hl => ?_)
  have L7 : ∀ (fu : Nat) (i : Int) (f : Nat → Int) (H : Heap) (locs : List Loc) (ls : Array Slot), (12 - i < (fu : Int)) → (0 ≤ i ∧ i ≤ 12) → (f = filI 0 i.toNat th) → va_P D vwCl (fl [BCams G q v f R sp]) H → va_D A0 (fl [BCams G q v f R sp]) → va_S A0 s0.heap H locs → lv_has ls 3 [(0, .ref (q 0)), (1, .int (iI v)), (2, .int (iI i))] → W p0 l e0 rmX0_startAnew s0 m0 args bel met cd H locs 0 0 Q0 (F0 m0 7 ls []) := by
    intro fu
    induction fu with
    | zero =>
      intro i f H locs ls hfu hi hf
      exact absurd hfu (by omega)
    | succ fu ih =>
      intro i f H locs ls hfu hi hf hP hD hS hl
      have ih7 := ih
      clear ih
      refine lv_iload_n hx hb dX0_startAnew_7 rfl (lv_at hl 2 rfl) ?_
      refine wi_bipush hx hb dX0_startAnew_8 (by decide) ?_
      refine wi_icmp_ge (tgt := 26) hx hb (by omega) (by omega) dX0_startAnew_10 (by decide) (fun c10 => ?_) (fun c10 => ?_)
      ·
        rw [show (f : Nat → Int) = (filI 0 12 th) from by rw [hf, show i = 12 by omega]; rfl] at hP hD
        exact fin () H locs ls 26 dX0_startAnew_26 hP hD hS (trivial)
      ·
        refine lv_aload_n hx hb dX0_startAnew_13 rfl (lv_at hl 0 rfl) ?_
        refine g_get (C := RX0) (T := TX0) (N := 4) hx hb hts (fun _ h => List.mem_cons_of_mem _ (List.mem_append_right _ h)) hown hK hP (i := 0) rfl BCams_c0 rfl 1 (by decide) (by decide +kernel) rfl dX0_startAnew_14 ?_
        refine lv_iload_n hx hb dX0_startAnew_17 rfl (lv_at hl 2 rfl) ?_
        refine wi_iconst hx hb dX0_startAnew_18 ?_
        refine g_zast hx hb hK hP hD hS (i := 0) rfl BCams_c2 (by omega) (by decide) (by decide) (B1 := BCams G q v (va_up f i.toNat 0) R sp) rfl (Bs1 := [BCams G q v (va_up f i.toNat 0) R sp]) rfl dX0_startAnew_19 (fun H locs hP hD hS => ?_)
        refine lv_iinc (v := iI (i + 1)) (lv' := [(2, .int (iI (i + 1))), (0, .ref (q 0)), (1, .int (iI v))]) hx hb dX0_startAnew_20 hl (k := 2) rfl (iI_add _ _) (by decide) rfl (fun ls hl => ?_)
        refine lv_goto (tgt := 7) hx hb dX0_startAnew_23 (by decide) ?_
        exact ih7 (i + 1) (va_up f i.toNat 0) _ _ _ (by omega) (by omega) (by rw [hf, filI_s, show (i + 1).toNat = i.toNat + 1 by omega]) hP hD hS (lv_sub hl [1, 2, 0] rfl)
  exact L7 (((12 - 0) + 1 : Int)).toNat 0 th _ _ _ (by omega) (by omega) ((filI_0 0 th).symm) hP hD hS (lv_sub hl [1, 2, 0] rfl)

abbrev rmX0_makeFlat : Room := { frames := 1, cells := 0, slots := 0, locals := 23 }
set_option maxHeartbeats 4000000 in
set_option maxRecDepth 100000 in
theorem kX0_makeFlat (l : Launch) (D : va_G) (G : Nat → ClassId) (q : Nat → Nat) (st : Int) (th : Nat → Int) (R : Nat → Nat → Int) (sp : Nat → Int) (c : Int) (hc : 0 ≤ c ∧ c < 12) : CtV l yX0_makeFlat wsX0_makeFlat rmX0_makeFlat D G [.ref (q 0), .int (iI c)] [BCams G q st th R sp] (fun _ : Unit => True) (fun _ => [BCams G q st (va_up th c.toNat 1) (va_up R c.toNat (filI 0 16 (R c.toNat))) sp]) := by
  refine CtV.of (cc := cX0_makeFlat) (maxL := 2) (by decide) rfl (Nat.le_of_ble_eq_true rfl) ?_
  intro p0 e0 s0 m0 args bel met cd A0 ls Q0 hx hb hml hown hts hK hP hD hA hl fin
  have hl : lv_has ls 2 [(0, .ref (q 0)), (1, .int (iI c))] := hl
  have hS : va_S A0 s0.heap s0.heap [] := va_S.rf
  have hH : va_P D vwCl (fl [BCams G q st th R sp]) s0.heap := hP
  obtain ⟨H, eH⟩ : ∃ H, H = s0.heap := ⟨_, rfl⟩
  obtain ⟨locs, eL⟩ : ∃ locs : List Loc, locs = [] := ⟨_, rfl⟩
  have hS : va_S A0 s0.heap H locs := by rw [eH, eL]; exact hS
  have hP : va_P D vwCl (fl [BCams G q st th R sp]) H := by rw [eH]; exact hP
  suffices goal : W p0 l e0 rmX0_makeFlat s0 m0 args bel met cd H locs 0 0 Q0 (F0 m0 0 ls []) by rw [eH, eL] at goal; exact goal
  clear eH eL hH
  refine lv_aload_n hx hb dX0_makeFlat_0 rfl (lv_at hl 0 rfl) ?_
  refine g_get (C := RX0) (T := TX0) (N := 4) hx hb hts (fun _ h => List.mem_cons_of_mem _ (List.mem_append_right _ h)) hown hK hP (i := 0) rfl BCams_c0 rfl 1 (by decide) (by decide +kernel) rfl dX0_makeFlat_1 ?_
  refine lv_iload_n hx hb dX0_makeFlat_4 rfl (lv_at hl 1 rfl) ?_
  refine wi_iconst hx hb dX0_makeFlat_5 ?_
  refine g_zast hx hb hK hP hD hS (i := 0) rfl BCams_c2 (by omega) (by decide) (by decide) (B1 := BCams G q st (va_up th c.toNat 1) R sp) rfl (Bs1 := [BCams G q st (va_up th c.toNat 1) R sp]) rfl dX0_makeFlat_6 (fun H locs hP hD hS => ?_)
  refine lv_aload_n hx hb dX0_makeFlat_7 rfl (lv_at hl 0 rfl) ?_
  refine g_get (C := RX0) (T := TX0) (N := 4) hx hb hts (fun _ h => List.mem_cons_of_mem _ (List.mem_append_right _ h)) hown hK hP (i := 0) rfl BCams_c0 rfl 0 (by decide) (by decide +kernel) rfl dX0_makeFlat_8 ?_
  refine lv_iload_n hx hb dX0_makeFlat_11 rfl (lv_at hl 1 rfl) ?_
  refine g_aald (r := fun i => q (4 + i)) hx hb hK hP (i := 0) rfl BCams_c1 (by omega) (by decide) dX0_makeFlat_12 ?_
  refine wi_iconst hx hb dX0_makeFlat_13 ?_
  refine cS_v (wc := [BCams G q st (va_up th c.toNat 1) R sp]) (wr := []) (w1 := fun _ => [BCams G q st (va_up th c.toNat 1) (va_up R c.toNat (filI 0 16 (R c.toNat))) sp]) (Bs1 := fun _ => [BCams G q st (va_up th c.toNat 1) (va_up R c.toNat (filI 0 16 (R c.toNat))) sp]) (As := [.ref (q (4 + c.toNat)), .int (iI 0)]) (rest := []) (kJ7_fill_53178 l D G [BCams G q st (va_up th c.toNat 1) R sp] [BCams G q st (va_up th c.toNat 1) (va_up R c.toNat (filI 0 16 (R c.toNat))) sp] 0 _ (BCams G q st (va_up th c.toNat 1) R sp) (BCams G q st (va_up th c.toNat 1) (va_up R c.toNat (filI 0 16 (R c.toNat))) sp) (q (4 + c.toNat)) 16 (R c.toNat) 0 (by decide) rfl (BCams_row (by omega)) (BCams_srow _ (by omega)) rfl) rfl ⟨hx, hb, hml, hown, hts⟩ (va_cwS 2 hts gX0_makeFlat_J7_fill_53178 rfl rfl rfl (by decide +kernel) ⟨by decide, by decide⟩) rfl hl.1 (Nat.le_of_ble_eq_true rfl) ⟨Nat.le_of_ble_eq_true rfl, Nat.le_of_ble_eq_true rfl⟩ dX0_makeFlat_14 hK hP hD hS hA (perm_idx [0] rfl rfl) (fun _ => (perm_idx [0] rfl rfl)) (fun u H locs _ hP hD hS => ?_)
  exact fin () H locs ls 17 dX0_makeFlat_17 hP hD hS (trivial)

abbrev rmX0_copySpan : Room := { frames := 1, cells := 0, slots := 0, locals := 40 }
set_option maxHeartbeats 4000000 in
set_option maxRecDepth 100000 in
theorem kX0_copySpan (l : Launch) (D : va_G) (G : Nat → ClassId) (q : Nat → Nat) (st : Int) (th : Nat → Int) (R : Nat → Nat → Int) (sp : Nat → Int) (a : Int) (i : Int) (b : Int) (j : Int) (n : Int) (ha : 0 ≤ a ∧ a < 12) (hb_ : 0 ≤ b ∧ b < 12) (hi : 0 ≤ i ∧ 0 ≤ j ∧ 0 ≤ n ∧ i + n ≤ 16 ∧ j + n ≤ 16) : CtV l yX0_copySpan wsX0_copySpan rmX0_copySpan D G [.ref (q 0), .int (iI a), .int (iI i), .int (iI b), .int (iI j), .int (iI n)] [BCams G q st th R sp] (fun _ : Unit => True) (fun _ => [BCams G q st th (va_up R b.toNat (va_cpy (R a.toNat) (R b.toNat) i.toNat j.toNat n.toNat)) sp]) := by
  refine CtV.of (cc := cX0_copySpan) (maxL := 6) (by decide) rfl (Nat.le_of_ble_eq_true rfl) ?_
  intro p0 e0 s0 m0 args bel met cd A0 ls Q0 hx hb hml hown hts hK hP hD hA hl fin
  have hl : lv_has ls 6 [(0, .ref (q 0)), (1, .int (iI a)), (2, .int (iI i)), (3, .int (iI b)), (4, .int (iI j)), (5, .int (iI n))] := hl
  have hS : va_S A0 s0.heap s0.heap [] := va_S.rf
  have hH : va_P D vwCl (fl [BCams G q st th R sp]) s0.heap := hP
  obtain ⟨H, eH⟩ : ∃ H, H = s0.heap := ⟨_, rfl⟩
  obtain ⟨locs, eL⟩ : ∃ locs : List Loc, locs = [] := ⟨_, rfl⟩
  have hS : va_S A0 s0.heap H locs := by rw [eH, eL]; exact hS
  have hP : va_P D vwCl (fl [BCams G q st th R sp]) H := by rw [eH]; exact hP
  suffices goal : W p0 l e0 rmX0_copySpan s0 m0 args bel met cd H locs 0 0 Q0 (F0 m0 0 ls []) by rw [eH, eL] at goal; exact goal
  clear eH eL hH
  refine lv_aload_n hx hb dX0_copySpan_0 rfl (lv_at hl 0 rfl) ?_
  refine g_get (C := RX0) (T := TX0) (N := 4) hx hb hts (fun _ h => List.mem_cons_of_mem _ (List.mem_append_right _ h)) hown hK hP (i := 0) rfl BCams_c0 rfl 0 (by decide) (by decide +kernel) rfl dX0_copySpan_1 ?_
  refine lv_iload_n hx hb dX0_copySpan_4 rfl (lv_at hl 1 rfl) ?_
  refine g_aald (r := fun i => q (4 + i)) hx hb hK hP (i := 0) rfl BCams_c1 (by omega) (by decide) dX0_copySpan_5 ?_
  refine lv_iload_n hx hb dX0_copySpan_6 rfl (lv_at hl 2 rfl) ?_
  refine lv_aload_n hx hb dX0_copySpan_7 rfl (lv_at hl 0 rfl) ?_
  refine g_get (C := RX0) (T := TX0) (N := 4) hx hb hts (fun _ h => List.mem_cons_of_mem _ (List.mem_append_right _ h)) hown hK hP (i := 0) rfl BCams_c0 rfl 0 (by decide) (by decide +kernel) rfl dX0_copySpan_8 ?_
  refine lv_iload_n hx hb dX0_copySpan_11 rfl (lv_at hl 3 rfl) ?_
  refine g_aald (r := fun i => q (4 + i)) hx hb hK hP (i := 0) rfl BCams_c1 (by omega) (by decide) dX0_copySpan_12 ?_
  refine lv_iload hx hb dX0_copySpan_13 (lv_at hl 4 rfl) ?_
  refine lv_iload hx hb dX0_copySpan_15 (lv_at hl 5 rfl) ?_
  refine g_copy hx hb (by rw [hml]; exact hl.1.symm) hts hown (by decide +kernel) (by decide +kernel) (by decide +kernel) (by decide +kernel) hK hP hD hS (i0 := 0) rfl (BCams_row (by omega)) (i := 0) rfl (BCams_row (by omega)) (by omega) (by omega) (by omega) (by omega) (by omega) (B1 := BCams G q st th (va_up R b.toNat (va_cpy (R a.toNat) (R b.toNat) i.toNat j.toNat n.toNat)) sp) (BCams_srow _ (by omega)) (Bs1 := [BCams G q st th (va_up R b.toNat (va_cpy (R a.toNat) (R b.toNat) i.toNat j.toNat n.toNat)) sp]) rfl ⟨Nat.le_of_ble_eq_true rfl, Nat.le_of_ble_eq_true rfl⟩ dX0_copySpan_17 (fun H locs hP hD hS => ?_)
  exact fin () H locs ls 20 dX0_copySpan_20 hP hD hS (trivial)

abbrev rmX0_rotate : Room := { frames := 1, cells := 0, slots := 0, locals := 40 }
set_option maxHeartbeats 4000000 in
set_option maxRecDepth 100000 in
theorem kX0_rotate (l : Launch) (D : va_G) (G : Nat → ClassId) (q : Nat → Nat) (st : Int) (th : Nat → Int) (R : Nat → Nat → Int) (sp : Nat → Int) (c : Int) (n : Int) (hst : 2 ≤ st ∧ st ≤ 16) (hc : 0 ≤ c ∧ c < 12) (hn : 0 ≤ n ∧ n < st) : CtV l yX0_rotate wsX0_rotate rmX0_rotate D G [.ref (q 0), .int (iI c), .int (iI n)] [BCams G q st th R sp] (fun _ : Unit => True) (fun _ => [BCams G q st th (va_up R c.toNat (rot st n (R c.toNat))) (va_cpy (R c.toNat) sp (0 : Int).toNat (0 : Int).toNat st.toNat)]) := by
  refine CtV.of (cc := cX0_rotate) (maxL := 5) (by decide) rfl (Nat.le_of_ble_eq_true rfl) ?_
  intro p0 e0 s0 m0 args bel met cd A0 ls Q0 hx hb hml hown hts hK hP hD hA hl fin
  have hl : lv_has ls 5 [(0, .ref (q 0)), (1, .int (iI c)), (2, .int (iI n))] := hl
  have hS : va_S A0 s0.heap s0.heap [] := va_S.rf
  have hH : va_P D vwCl (fl [BCams G q st th R sp]) s0.heap := hP
  obtain ⟨H, eH⟩ : ∃ H, H = s0.heap := ⟨_, rfl⟩
  obtain ⟨locs, eL⟩ : ∃ locs : List Loc, locs = [] := ⟨_, rfl⟩
  have hS : va_S A0 s0.heap H locs := by rw [eH, eL]; exact hS
  have hP : va_P D vwCl (fl [BCams G q st th R sp]) H := by rw [eH]; exact hP
  suffices goal : W p0 l e0 rmX0_rotate s0 m0 args bel met cd H locs 0 0 Q0 (F0 m0 0 ls []) by rw [eH, eL] at goal; exact goal
  clear eH eL hH
  refine lv_aload_n hx hb dX0_rotate_0 rfl (lv_at hl 0 rfl) ?_
  refine g_get (C := RX0) (T := TX0) (N := 4) hx hb hts (fun _ h => List.mem_cons_of_mem _ (List.mem_append_right _ h)) hown hK hP (i := 0) rfl BCams_c0 rfl 0 (by decide) (by decide +kernel) rfl dX0_rotate_1 ?_
  refine lv_iload_n hx hb dX0_rotate_4 rfl (lv_at hl 1 rfl) ?_
  refine g_aald (r := fun i => q (4 + i)) hx hb hK hP (i := 0) rfl BCams_c1 (by omega) (by decide) dX0_rotate_5 ?_
  refine lv_astore_n (lv' := [(3, .ref (q (4 + c.toNat))), (0, .ref (q 0)), (1, .int (iI c)), (2, .int (iI n))]) hx hb dX0_rotate_6 rfl hl (by decide) rfl (fun ls hl => ?_)
  refine lv_aload_n hx hb dX0_rotate_7 rfl (lv_at hl 0 rfl) ?_
  refine wi_iconst hx hb dX0_rotate_8 ?_
  refine lv_aload_n hx hb dX0_rotate_9 rfl (lv_at hl 1 rfl) ?_
  refine g_get (C := RX0) (T := TX0) (N := 4) hx hb hts (fun _ h => List.mem_cons_of_mem _ (List.mem_append_right _ h)) hown hK hP (i := 0) rfl BCams_c0 rfl 2 (by decide) (by decide +kernel) rfl dX0_rotate_10 ?_
  refine wi_iconst hx hb dX0_rotate_13 ?_
  refine lv_aload_n hx hb dX0_rotate_14 rfl (lv_at hl 1 rfl) ?_
  refine g_get (C := RX0) (T := TX0) (N := 4) hx hb hts (fun _ h => List.mem_cons_of_mem _ (List.mem_append_right _ h)) hown hK hP (i := 0) rfl BCams_c0 rfl 3 (by decide) (by decide +kernel) rfl dX0_rotate_15 ?_
  refine g_copy hx hb (by rw [hml]; exact hl.1.symm) hts hown (by decide +kernel) (by decide +kernel) (by decide +kernel) (by decide +kernel) hK hP hD hS (i0 := 0) rfl (BCams_row (by omega)) (i := 0) rfl BCams_c3 (by omega) (by omega) (by omega) (by omega) (by omega) (B1 := BCams G q st th R (va_cpy (R c.toNat) sp (0 : Int).toNat (0 : Int).toNat st.toNat)) rfl (Bs1 := [BCams G q st th R (va_cpy (R c.toNat) sp (0 : Int).toNat (0 : Int).toNat st.toNat)]) rfl ⟨Nat.le_of_ble_eq_true rfl, Nat.le_of_ble_eq_true rfl⟩ dX0_rotate_18 (fun H locs hP hD hS => ?_)
  refine wi_iconst hx hb dX0_rotate_21 ?_
  refine lv_istore (lv' := [(4, .int (iI 0)), (3, .ref (q (4 + c.toNat))), (0, .ref (q 0)), (1, .int (iI c)), (2, .int (iI n))]) hx hb dX0_rotate_22 hl (by decide) rfl (fun ls hl => ?_)
  have L24 : ∀ (fu : Nat) (t : Int) (R' : Nat → Nat → Int) (H : Heap) (locs : List Loc) (ls : Array Slot), (st - t < (fu : Int)) → (0 ≤ t ∧ t ≤ st) → (R' = va_up R c.toNat (rotP st n (R c.toNat) t)) → va_P D vwCl (fl [BCams G q st th R' (va_cpy (R c.toNat) sp (0 : Int).toNat (0 : Int).toNat st.toNat)]) H → va_D A0 (fl [BCams G q st th R' (va_cpy (R c.toNat) sp (0 : Int).toNat (0 : Int).toNat st.toNat)]) → va_S A0 s0.heap H locs → lv_has ls 5 [(0, .ref (q 0)), (1, .int (iI c)), (2, .int (iI n)), (3, .ref (q (4 + c.toNat))), (4, .int (iI t))] → W p0 l e0 rmX0_rotate s0 m0 args bel met cd H locs 0 0 Q0 (F0 m0 24 ls []) := by
    intro fu
    induction fu with
    | zero =>
      intro t R' H locs ls hfu ht hR
      exact absurd hfu (by omega)
    | succ fu ih =>
      intro t R' H locs ls hfu ht hR hP hD hS hl
      have ih24 := ih
      clear ih
      refine lv_iload hx hb dX0_rotate_24 (lv_at hl 4 rfl) ?_
      refine lv_aload_n hx hb dX0_rotate_26 rfl (lv_at hl 0 rfl) ?_
      refine g_get (C := RX0) (T := TX0) (N := 4) hx hb hts (fun _ h => List.mem_cons_of_mem _ (List.mem_append_right _ h)) hown hK hP (i := 0) rfl BCams_c0 rfl 3 (by decide) (by decide +kernel) rfl dX0_rotate_27 ?_
      refine wi_icmp_ge (tgt := 55) hx hb (by omega) (by omega) dX0_rotate_30 (by decide) (fun c30 => ?_) (fun c30 => ?_)
      ·
        rw [show (R' : Nat → Nat → Int) = (va_up R c.toNat (rot st n (R c.toNat))) from by rw [hR, show t = st by omega]; rfl] at hP hD
        exact fin () H locs ls 55 dX0_rotate_55 hP hD hS (trivial)
      ·
        refine lv_aload_n hx hb dX0_rotate_33 rfl (lv_at hl 3 rfl) ?_
        refine lv_aload_n hx hb dX0_rotate_34 rfl (lv_at hl 0 rfl) ?_
        refine lv_iload hx hb dX0_rotate_35 (lv_at hl 4 rfl) ?_
        refine lv_iload_n hx hb dX0_rotate_37 rfl (lv_at hl 2 rfl) ?_
        refine cV_i (wc := [BCams G q st th R' (va_cpy (R c.toNat) sp (0 : Int).toNat (0 : Int).toNat st.toNat)]) (wr := []) (w1 := fun _ => [BCams G q st th R' (va_cpy (R c.toNat) sp (0 : Int).toNat (0 : Int).toNat st.toNat)]) (Bs1 := fun _ => [BCams G q st th R' (va_cpy (R c.toNat) sp (0 : Int).toNat (0 : Int).toNat st.toNat)]) (As := [.int (iI t), .int (iI n)]) (rest := [.ref (q (4 + c.toNat))]) (kX0_further l D G q st th R' (va_cpy (R c.toNat) sp (0 : Int).toNat (0 : Int).toNat st.toNat) t n (by first | assumption | omega) (by first | assumption | omega) (by first | assumption | omega)) rfl ⟨hx, hb, hml, hown, hts⟩ (cwV 2 hts gX0_rotate_X0_further rfl rfl rfl (by decide +kernel) ⟨by decide, by decide⟩) (q0 := 0) (ci := 0) rfl rfl rfl rfl hl.1 (Nat.le_of_ble_eq_true rfl) ⟨Nat.le_of_ble_eq_true rfl, Nat.le_of_ble_eq_true rfl⟩ dX0_rotate_38 hK hP hD hS hA (perm_idx [0] rfl rfl) (fun _ => perm_idx [0] rfl rfl) (fun r u H locs hw1 hP hD hS => ?_)
        subst hw1
        have hfr := fw_rng (st := st) (x := t + n) (by omega)
        have hcp : va_cpy (R c.toNat) sp (0 : Int).toNat (0 : Int).toNat st.toNat t.toNat = R c.toNat t.toNat := by rw [pk_cpy_in (by omega) (by omega)]; congr 1; omega
        refine lv_aload_n hx hb dX0_rotate_41 rfl (lv_at hl 0 rfl) ?_
        refine g_get (C := RX0) (T := TX0) (N := 4) hx hb hts (fun _ h => List.mem_cons_of_mem _ (List.mem_append_right _ h)) hown hK hP (i := 0) rfl BCams_c0 rfl 2 (by decide) (by decide +kernel) rfl dX0_rotate_42 ?_
        refine lv_iload hx hb dX0_rotate_45 (lv_at hl 4 rfl) ?_
        refine g_iald hx hb hK hP (i := 0) rfl BCams_c3 (by omega) (by decide) dX0_rotate_47 ?_
        refine g_iast hx hb hK hP hD hS (i := 0) rfl (BCams_row (by omega)) (by omega) (by decide) (B1 := BCams G q st th (va_up R' c.toNat (va_up (R' c.toNat) ((fw st (t + n)).toNat) ((va_cpy (R c.toNat) sp (0 : Int).toNat (0 : Int).toNat st.toNat) t.toNat))) (va_cpy (R c.toNat) sp (0 : Int).toNat (0 : Int).toNat st.toNat)) (BCams_srow _ (by omega)) (Bs1 := [BCams G q st th (va_up R' c.toNat (va_up (R' c.toNat) ((fw st (t + n)).toNat) ((va_cpy (R c.toNat) sp (0 : Int).toNat (0 : Int).toNat st.toNat) t.toNat))) (va_cpy (R c.toNat) sp (0 : Int).toNat (0 : Int).toNat st.toNat)]) rfl dX0_rotate_48 (fun H locs hP hD hS => ?_)
        refine lv_iinc (v := iI (t + 1)) (lv' := [(4, .int (iI (t + 1))), (0, .ref (q 0)), (1, .int (iI c)), (2, .int (iI n)), (3, .ref (q (4 + c.toNat)))]) hx hb dX0_rotate_49 hl (k := 4) rfl (iI_add _ _) (by decide) rfl (fun ls hl => ?_)
        refine lv_goto (tgt := 24) hx hb dX0_rotate_52 (by decide) ?_
        exact ih24 (t + 1) (va_up R' c.toNat (va_up (R' c.toNat) ((fw st (t + n)).toNat) ((va_cpy (R c.toNat) sp (0 : Int).toNat (0 : Int).toNat st.toNat) t.toNat))) _ _ _ (by omega) (by omega) (by rw [hR, up_up, va_up_self, hcp, rotP_s _ _ _ _ hn (by omega)]) hP hD hS (lv_sub hl [1, 2, 3, 4, 0] rfl)
  exact L24 (((st - 0) + 1 : Int)).toNat 0 R _ _ _ (by omega) (by omega) (by rw [rotP_0 _ _ _ hn, up_id]) hP hD hS (lv_sub hl [2, 3, 4, 1, 0] rfl)

abbrev rmX0_isTurnedBy : Room := { frames := 1, cells := 0, slots := 0, locals := 23 }
set_option maxHeartbeats 4000000 in
set_option maxRecDepth 100000 in
theorem kX0_isTurnedBy (l : Launch) (D : va_G) (G : Nat → ClassId) (q : Nat → Nat) (st : Int) (th : Nat → Int) (R : Nat → Nat → Int) (sp : Nat → Int) (a : Nat) (b : Nat) (n : Int) (hst : 2 ≤ st ∧ st ≤ 16) (hR : ∀ i j, 0 ≤ R i j ∧ R i j ≤ 9) (ha : a < 12) (hb_ : b < 12) (hn : 0 ≤ n ∧ n < st) : CtI l yX0_isTurnedBy wsX0_isTurnedBy rmX0_isTurnedBy D G [.ref (q 0), .ref (q (4 + a)), .ref (q (4 + b)), .int (iI n)] [BCams G q st th R sp] (fun (r : Int32) (_ : Unit) => r = iI (if tn st (R a) (R b) n then 1 else 0)) (fun _ => [BCams G q st th R sp]) := by
  refine CtI.ofZ (cc := cX0_isTurnedBy) (maxL := 5) (by decide) rfl (Nat.le_of_ble_eq_true rfl) ?_
  intro p0 e0 s0 m0 args bel met cd A0 ls Q0 hx hb hml hown hts hK hP hD hA hl fin
  have hl : lv_has ls 5 [(0, .ref (q 0)), (1, .ref (q (4 + a))), (2, .ref (q (4 + b))), (3, .int (iI n))] := hl
  have hS : va_S A0 s0.heap s0.heap [] := va_S.rf
  have hH : va_P D vwCl (fl [BCams G q st th R sp]) s0.heap := hP
  obtain ⟨H, eH⟩ : ∃ H, H = s0.heap := ⟨_, rfl⟩
  obtain ⟨locs, eL⟩ : ∃ locs : List Loc, locs = [] := ⟨_, rfl⟩
  have hS : va_S A0 s0.heap H locs := by rw [eH, eL]; exact hS
  have hP : va_P D vwCl (fl [BCams G q st th R sp]) H := by rw [eH]; exact hP
  suffices goal : W p0 l e0 rmX0_isTurnedBy s0 m0 args bel met cd H locs 0 0 Q0 (F0 m0 0 ls []) by rw [eH, eL] at goal; exact goal
  clear eH eL hH
  refine wi_iconst hx hb dX0_isTurnedBy_0 ?_
  refine lv_istore (lv' := [(4, .int (iI 0)), (0, .ref (q 0)), (1, .ref (q (4 + a))), (2, .ref (q (4 + b))), (3, .int (iI n))]) hx hb dX0_isTurnedBy_1 hl (by decide) rfl (fun ls hl => ?_)
  have L3 : ∀ (fu : Nat) (i : Int) (H : Heap) (locs : List Loc) (ls : Array Slot), (st - i < (fu : Int)) → (0 ≤ i ∧ i ≤ st) → (∀ t : Nat, t < i.toNat → R b (fw st ((t : Int) + n)).toNat = R a t) → va_P D vwCl (fl [BCams G q st th R sp]) H → va_D A0 (fl [BCams G q st th R sp]) → va_S A0 s0.heap H locs → lv_has ls 5 [(0, .ref (q 0)), (1, .ref (q (4 + a))), (2, .ref (q (4 + b))), (3, .int (iI n)), (4, .int (iI i))] → W p0 l e0 rmX0_isTurnedBy s0 m0 args bel met cd H locs 0 0 Q0 (F0 m0 3 ls []) := by
    intro fu
    induction fu with
    | zero =>
      intro i H locs ls hfu hi ht
      exact absurd hfu (by omega)
    | succ fu ih =>
      intro i H locs ls hfu hi ht hP hD hS hl
      have ih3 := ih
      clear ih
      refine lv_iload hx hb dX0_isTurnedBy_3 (lv_at hl 4 rfl) ?_
      refine lv_aload_n hx hb dX0_isTurnedBy_5 rfl (lv_at hl 0 rfl) ?_
      refine g_get (C := RX0) (T := TX0) (N := 4) hx hb hts (fun _ h => List.mem_cons_of_mem _ (List.mem_append_right _ h)) hown hK hP (i := 0) rfl BCams_c0 rfl 3 (by decide) (by decide +kernel) rfl dX0_isTurnedBy_6 ?_
      refine wi_icmp_ge (tgt := 36) hx hb (by omega) (by omega) dX0_isTurnedBy_9 (by decide) (fun c9 => ?_) (fun c9 => ?_)
      ·
        refine wi_iconst hx hb dX0_isTurnedBy_36 ?_
        exact fin _ () H locs ls 37 dX0_isTurnedBy_37 hP hD hS (by decide) (congrArg iI (by rw [if_pos (fun t h => ht t (by omega))]))
      ·
        refine lv_aload_n hx hb dX0_isTurnedBy_12 rfl (lv_at hl 2 rfl) ?_
        refine lv_aload_n hx hb dX0_isTurnedBy_13 rfl (lv_at hl 0 rfl) ?_
        refine lv_iload hx hb dX0_isTurnedBy_14 (lv_at hl 4 rfl) ?_
        refine lv_iload_n hx hb dX0_isTurnedBy_16 rfl (lv_at hl 3 rfl) ?_
        refine cV_i (wc := [BCams G q st th R sp]) (wr := []) (w1 := fun _ => [BCams G q st th R sp]) (Bs1 := fun _ => [BCams G q st th R sp]) (As := [.int (iI i), .int (iI n)]) (rest := [.ref (q (4 + b))]) (kX0_further l D G q st th R sp i n (by first | assumption | omega) (by first | assumption | omega) (by first | assumption | omega)) rfl ⟨hx, hb, hml, hown, hts⟩ (cwV 2 hts gX0_isTurnedBy_X0_further rfl rfl rfl (by decide +kernel) ⟨by decide, by decide⟩) (q0 := 0) (ci := 0) rfl rfl rfl rfl hl.1 (Nat.le_of_ble_eq_true rfl) ⟨Nat.le_of_ble_eq_true rfl, Nat.le_of_ble_eq_true rfl⟩ dX0_isTurnedBy_17 hK hP hD hS hA (perm_idx [0] rfl rfl) (fun _ => perm_idx [0] rfl rfl) (fun r u H locs hw1 hP hD hS => ?_)
        subst hw1
        have hfr := fw_rng (st := st) (x := i + n) (by omega)
        refine g_iald hx hb hK hP (i := 0) rfl (BCams_row (by omega)) (by omega) (by decide) dX0_isTurnedBy_20 ?_
        have f2 := hR b ((fw st (i + n)).toNat)
        refine lv_aload_n hx hb dX0_isTurnedBy_21 rfl (lv_at hl 1 rfl) ?_
        refine lv_iload hx hb dX0_isTurnedBy_22 (lv_at hl 4 rfl) ?_
        refine g_iald hx hb hK hP (i := 0) rfl (BCams_row (by omega)) (by omega) (by decide) dX0_isTurnedBy_24 ?_
        have f3 := hR a i.toNat
        refine wi_icmp_eq (tgt := 30) hx hb (by omega) (by omega) dX0_isTurnedBy_25 (by decide) (fun c25 => ?_) (fun c25 => ?_)
        ·
          refine lv_iinc (v := iI (i + 1)) (lv' := [(4, .int (iI (i + 1))), (0, .ref (q 0)), (1, .ref (q (4 + a))), (2, .ref (q (4 + b))), (3, .int (iI n))]) hx hb dX0_isTurnedBy_30 hl (k := 4) rfl (iI_add _ _) (by decide) rfl (fun ls hl => ?_)
          refine lv_goto (tgt := 3) hx hb dX0_isTurnedBy_33 (by decide) ?_
          exact ih3 (i + 1) _ _ _ (by omega) (by omega) (fun t h => by
              by_cases e : t = i.toNat
              · rw [e, show ((i.toNat : Nat) : Int) = i by omega]; exact c25
              · exact ht t (by omega)) hP hD hS (lv_sub hl [1, 2, 3, 4, 0] rfl)
        ·
          refine wi_iconst hx hb dX0_isTurnedBy_28 ?_
          exact fin _ () H locs ls 29 dX0_isTurnedBy_29 hP hD hS (by decide) (congrArg iI (by rw [if_neg (fun q => c25 (by have h9 := q i.toNat (by omega); rw [show ((i.toNat : Nat) : Int) = i by omega] at h9; exact h9))]))
  exact L3 (((st - 0) + 1 : Int)).toNat 0 _ _ _ (by omega) (by omega) (fun t h => absurd h (by omega)) hP hD hS (lv_sub hl [1, 2, 3, 4, 0] rfl)

abbrev rmX0_stepsBetween : Room := { frames := 2, cells := 0, slots := 0, locals := 47 }
set_option maxHeartbeats 4000000 in
set_option maxRecDepth 100000 in
theorem kX0_stepsBetween (l : Launch) (D : va_G) (G : Nat → ClassId) (q : Nat → Nat) (st : Int) (th : Nat → Int) (R : Nat → Nat → Int) (sp : Nat → Int) (a : Int) (b : Int) (hst : 2 ≤ st ∧ st ≤ 16) (hR : ∀ i j, 0 ≤ R i j ∧ R i j ≤ 9) (ha : 0 ≤ a ∧ a < 12) (hb_ : 0 ≤ b ∧ b < 12) : CtI l yX0_stepsBetween wsX0_stepsBetween rmX0_stepsBetween D G [.ref (q 0), .int (iI a), .int (iI b)] [BCams G q st th R sp] (fun (r : Int32) (_ : Unit) => r = iI (sb st (R a.toNat) (R b.toNat))) (fun _ => [BCams G q st th R sp]) := by
  refine CtI.ofI (cc := cX0_stepsBetween) (maxL := 4) (by decide) rfl (Nat.le_of_ble_eq_true rfl) ?_
  intro p0 e0 s0 m0 args bel met cd A0 ls Q0 hx hb hml hown hts hK hP hD hA hl fin
  have hl : lv_has ls 4 [(0, .ref (q 0)), (1, .int (iI a)), (2, .int (iI b))] := hl
  have hS : va_S A0 s0.heap s0.heap [] := va_S.rf
  have hH : va_P D vwCl (fl [BCams G q st th R sp]) s0.heap := hP
  obtain ⟨H, eH⟩ : ∃ H, H = s0.heap := ⟨_, rfl⟩
  obtain ⟨locs, eL⟩ : ∃ locs : List Loc, locs = [] := ⟨_, rfl⟩
  have hS : va_S A0 s0.heap H locs := by rw [eH, eL]; exact hS
  have hP : va_P D vwCl (fl [BCams G q st th R sp]) H := by rw [eH]; exact hP
  suffices goal : W p0 l e0 rmX0_stepsBetween s0 m0 args bel met cd H locs 0 0 Q0 (F0 m0 0 ls []) by rw [eH, eL] at goal; exact goal
  clear eH eL hH
  refine wi_iconst hx hb dX0_stepsBetween_0 ?_
  refine lv_istore_n (lv' := [(3, .int (iI 0)), (0, .ref (q 0)), (1, .int (iI a)), (2, .int (iI b))]) hx hb dX0_stepsBetween_1 rfl hl (by decide) rfl (fun ls hl => ?_)
  have L2 : ∀ (fu : Nat) (i : Int) (H : Heap) (locs : List Loc) (ls : Array Slot), (st - i < (fu : Int)) → (0 ≤ i ∧ i ≤ st) → (∀ j : Nat, j < i.toNat → decide (tn st (R a.toNat) (R b.toNat) (j : Int)) = false) → va_P D vwCl (fl [BCams G q st th R sp]) H → va_D A0 (fl [BCams G q st th R sp]) → va_S A0 s0.heap H locs → lv_has ls 4 [(0, .ref (q 0)), (1, .int (iI a)), (2, .int (iI b)), (3, .int (iI i))] → W p0 l e0 rmX0_stepsBetween s0 m0 args bel met cd H locs 0 0 Q0 (F0 m0 2 ls []) := by
    intro fu
    induction fu with
    | zero =>
      intro i H locs ls hfu hi ht
      exact absurd hfu (by omega)
    | succ fu ih =>
      intro i H locs ls hfu hi ht hP hD hS hl
      have ih2 := ih
      clear ih
      refine lv_iload_n hx hb dX0_stepsBetween_2 rfl (lv_at hl 3 rfl) ?_
      refine lv_aload_n hx hb dX0_stepsBetween_3 rfl (lv_at hl 0 rfl) ?_
      refine g_get (C := RX0) (T := TX0) (N := 4) hx hb hts (fun _ h => List.mem_cons_of_mem _ (List.mem_append_right _ h)) hown hK hP (i := 0) rfl BCams_c0 rfl 3 (by decide) (by decide +kernel) rfl dX0_stepsBetween_4 ?_
      refine wi_icmp_ge (tgt := 38) hx hb (by omega) (by omega) dX0_stepsBetween_7 (by decide) (fun c7 => ?_) (fun c7 => ?_)
      ·
        refine wi_bipush hx hb dX0_stepsBetween_38 (by decide) ?_
        exact fin _ () H locs ls 40 dX0_stepsBetween_40 hP hD hS (trivial) (congrArg iI (by unfold sb; rw [fnd_miss (fun j h => ht j (by omega))]))
      ·
        refine lv_aload_n hx hb dX0_stepsBetween_10 rfl (lv_at hl 0 rfl) ?_
        refine lv_aload_n hx hb dX0_stepsBetween_11 rfl (lv_at hl 0 rfl) ?_
        refine g_get (C := RX0) (T := TX0) (N := 4) hx hb hts (fun _ h => List.mem_cons_of_mem _ (List.mem_append_right _ h)) hown hK hP (i := 0) rfl BCams_c0 rfl 0 (by decide) (by decide +kernel) rfl dX0_stepsBetween_12 ?_
        refine lv_iload_n hx hb dX0_stepsBetween_15 rfl (lv_at hl 1 rfl) ?_
        refine g_aald (r := fun i => q (4 + i)) hx hb hK hP (i := 0) rfl BCams_c1 (by omega) (by decide) dX0_stepsBetween_16 ?_
        refine lv_aload_n hx hb dX0_stepsBetween_17 rfl (lv_at hl 0 rfl) ?_
        refine g_get (C := RX0) (T := TX0) (N := 4) hx hb hts (fun _ h => List.mem_cons_of_mem _ (List.mem_append_right _ h)) hown hK hP (i := 0) rfl BCams_c0 rfl 0 (by decide) (by decide +kernel) rfl dX0_stepsBetween_18 ?_
        refine lv_iload_n hx hb dX0_stepsBetween_21 rfl (lv_at hl 2 rfl) ?_
        refine g_aald (r := fun i => q (4 + i)) hx hb hK hP (i := 0) rfl BCams_c1 (by omega) (by decide) dX0_stepsBetween_22 ?_
        refine lv_iload_n hx hb dX0_stepsBetween_23 rfl (lv_at hl 3 rfl) ?_
        refine cV_i (wc := [BCams G q st th R sp]) (wr := []) (w1 := fun _ => [BCams G q st th R sp]) (Bs1 := fun _ => [BCams G q st th R sp]) (As := [.ref (q (4 + a.toNat)), .ref (q (4 + b.toNat)), .int (iI i)]) (rest := []) (kX0_isTurnedBy l D G q st th R sp a.toNat b.toNat i (by first | assumption | omega) (by first | assumption | omega) (by first | assumption | omega) (by first | assumption | omega) (by first | assumption | omega)) rfl ⟨hx, hb, hml, hown, hts⟩ (cwV 3 hts gX0_stepsBetween_X0_isTurnedBy rfl rfl rfl (by decide +kernel) ⟨by decide, by decide⟩) (q0 := 0) (ci := 0) rfl rfl rfl rfl hl.1 (Nat.le_of_ble_eq_true rfl) ⟨Nat.le_of_ble_eq_true rfl, Nat.le_of_ble_eq_true rfl⟩ dX0_stepsBetween_24 hK hP hD hS hA (perm_idx [0] rfl rfl) (fun _ => perm_idx [0] rfl rfl) (fun r u H locs hw1 hP hD hS => ?_)
        subst hw1
        have hr9 : (if tn st (R a.toNat) (R b.toNat) i then (1 : Int) else 0) = 0 ∨ (if tn st (R a.toNat) (R b.toNat) i then (1 : Int) else 0) = 1 := by split <;> omega
        refine wi_if_eq (tgt := 32) hx hb (by omega) dX0_stepsBetween_27 (by decide) (fun c27 => ?_) (fun c27 => ?_)
        ·
          have h27 : ¬ tn st (R a.toNat) (R b.toNat) i := fun q => by rw [if_pos q] at c27; exact absurd c27 (by decide)
          refine lv_iinc (v := iI (i + 1)) (lv' := [(3, .int (iI (i + 1))), (0, .ref (q 0)), (1, .int (iI a)), (2, .int (iI b))]) hx hb dX0_stepsBetween_32 hl (k := 3) rfl (iI_add _ _) (by decide) rfl (fun ls hl => ?_)
          refine lv_goto (tgt := 2) hx hb dX0_stepsBetween_35 (by decide) ?_
          exact ih2 (i + 1) _ _ _ (by omega) (by omega) (fun t h => by
              by_cases e : t = i.toNat
              · rw [e, show ((i.toNat : Nat) : Int) = i by omega]; exact decide_eq_false h27
              · exact ht t (by omega)) hP hD hS (lv_sub hl [1, 2, 3, 0] rfl)
        ·
          have h27 : tn st (R a.toNat) (R b.toNat) i := by
            by_cases q : tn st (R a.toNat) (R b.toNat) i
            · exact q
            · rw [if_neg q] at c27; exact absurd rfl c27
          refine lv_iload_n hx hb dX0_stepsBetween_30 rfl (lv_at hl 3 rfl) ?_
          exact fin _ () H locs ls 31 dX0_stepsBetween_31 hP hD hS (trivial) (congrArg iI (by unfold sb; rw [fnd_hit ht (by rw [show ((i.toNat : Nat) : Int) = i by omega]; exact decide_eq_true h27) (by omega)]; omega))
  exact L2 (((st - 0) + 1 : Int)).toNat 0 _ _ _ (by omega) (by omega) (fun t h => absurd h (by omega)) hP hD hS (lv_sub hl [1, 2, 3, 0] rfl)

abbrev rmX0_leastAlike : Room := { frames := 3, cells := 0, slots := 0, locals := 70 }
set_option maxHeartbeats 4000000 in
set_option maxRecDepth 100000 in
theorem kX0_leastAlike (l : Launch) (D : va_G) (G : Nat → ClassId) (q : Nat → Nat) (st : Int) (th : Nat → Int) (R : Nat → Nat → Int) (sp : Nat → Int) (c : Int) (hst : 2 ≤ st ∧ st ≤ 16) (hth : ∀ k, th k = 0 ∨ th k = 1) (hR : ∀ i j, 0 ≤ R i j ∧ R i j ≤ 9) (hc : 0 ≤ c ∧ c < 12) : CtI l yX0_leastAlike wsX0_leastAlike rmX0_leastAlike D G [.ref (q 0), .int (iI c)] [BCams G q st th R sp] (fun (r : Int32) (_ : Unit) => r = iI (la st th R c.toNat)) (fun _ => [BCams G q st th R sp]) := by
  refine CtI.ofI (cc := cX0_leastAlike) (maxL := 3) (by decide) rfl (Nat.le_of_ble_eq_true rfl) ?_
  intro p0 e0 s0 m0 args bel met cd A0 ls Q0 hx hb hml hown hts hK hP hD hA hl fin
  have hl : lv_has ls 3 [(0, .ref (q 0)), (1, .int (iI c))] := hl
  have hS : va_S A0 s0.heap s0.heap [] := va_S.rf
  have hH : va_P D vwCl (fl [BCams G q st th R sp]) s0.heap := hP
  obtain ⟨H, eH⟩ : ∃ H, H = s0.heap := ⟨_, rfl⟩
  obtain ⟨locs, eL⟩ : ∃ locs : List Loc, locs = [] := ⟨_, rfl⟩
  have hS : va_S A0 s0.heap H locs := by rw [eH, eL]; exact hS
  have hP : va_P D vwCl (fl [BCams G q st th R sp]) H := by rw [eH]; exact hP
  suffices goal : W p0 l e0 rmX0_leastAlike s0 m0 args bel met cd H locs 0 0 Q0 (F0 m0 0 ls []) by rw [eH, eL] at goal; exact goal
  clear eH eL hH
  refine wi_iconst hx hb dX0_leastAlike_0 ?_
  refine lv_istore_n (lv' := [(2, .int (iI 0)), (0, .ref (q 0)), (1, .int (iI c))]) hx hb dX0_leastAlike_1 rfl hl (by decide) rfl (fun ls hl => ?_)
  have L2 : ∀ (fu : Nat) (i : Int) (H : Heap) (locs : List Loc) (ls : Array Slot), (c - i < (fu : Int)) → (0 ≤ i ∧ i ≤ c) → (∀ j : Nat, j < i.toNat → lap st th R c.toNat j = false) → va_P D vwCl (fl [BCams G q st th R sp]) H → va_D A0 (fl [BCams G q st th R sp]) → va_S A0 s0.heap H locs → lv_has ls 3 [(0, .ref (q 0)), (1, .int (iI c)), (2, .int (iI i))] → W p0 l e0 rmX0_leastAlike s0 m0 args bel met cd H locs 0 0 Q0 (F0 m0 2 ls []) := by
    intro fu
    induction fu with
    | zero =>
      intro i H locs ls hfu hi ht
      exact absurd hfu (by omega)
    | succ fu ih =>
      intro i H locs ls hfu hi ht hP hD hS hl
      have ih2 := ih
      clear ih
      refine lv_iload_n hx hb dX0_leastAlike_2 rfl (lv_at hl 2 rfl) ?_
      refine lv_iload_n hx hb dX0_leastAlike_3 rfl (lv_at hl 1 rfl) ?_
      refine wi_icmp_ge (tgt := 33) hx hb (by omega) (by omega) dX0_leastAlike_4 (by decide) (fun c4 => ?_) (fun c4 => ?_)
      ·
        refine lv_iload_n hx hb dX0_leastAlike_33 rfl (lv_at hl 1 rfl) ?_
        exact fin _ () H locs ls 34 dX0_leastAlike_34 hP hD hS (trivial) (congrArg iI (by unfold la; rw [fnd_miss (fun j h => ht j (by omega))]; omega))
      ·
        refine lv_aload_n hx hb dX0_leastAlike_7 rfl (lv_at hl 0 rfl) ?_
        refine g_get (C := RX0) (T := TX0) (N := 4) hx hb hts (fun _ h => List.mem_cons_of_mem _ (List.mem_append_right _ h)) hown hK hP (i := 0) rfl BCams_c0 rfl 1 (by decide) (by decide +kernel) rfl dX0_leastAlike_8 ?_
        refine lv_iload_n hx hb dX0_leastAlike_11 rfl (lv_at hl 2 rfl) ?_
        refine g_zald hx hb hK hP (i := 0) rfl BCams_c2 (by omega) (by decide) dX0_leastAlike_12 ?_
        have f1 := hth i.toNat
        refine wi_if_eq (tgt := 27) hx hb (by omega) dX0_leastAlike_13 (by decide) (fun c13 => ?_) (fun c13 => ?_)
        ·
          have h27 : lap st th R c.toNat i.toNat = false := by
            unfold lap
            first | (rw [decide_eq_false (by omega : ¬ th i.toNat = 1)]; rfl) | (rw [decide_eq_false (by omega : ¬ 0 ≤ sb st (R i.toNat) (R c.toNat)), Bool.and_false])
          refine lv_iinc (v := iI (i + 1)) (lv' := [(2, .int (iI (i + 1))), (0, .ref (q 0)), (1, .int (iI c))]) hx hb dX0_leastAlike_27 hl (k := 2) rfl (iI_add _ _) (by decide) rfl (fun ls hl => ?_)
          refine lv_goto (tgt := 2) hx hb dX0_leastAlike_30 (by decide) ?_
          exact ih2 (i + 1) _ _ _ (by omega) (by omega) (fun t h => by
              by_cases e : t = i.toNat
              · rw [e]; exact h27
              · exact ht t (by omega)) hP hD hS (lv_sub hl [1, 2, 0] rfl)
        ·
          refine lv_aload_n hx hb dX0_leastAlike_16 rfl (lv_at hl 0 rfl) ?_
          refine lv_iload_n hx hb dX0_leastAlike_17 rfl (lv_at hl 2 rfl) ?_
          refine lv_iload_n hx hb dX0_leastAlike_18 rfl (lv_at hl 1 rfl) ?_
          refine cV_i (wc := [BCams G q st th R sp]) (wr := []) (w1 := fun _ => [BCams G q st th R sp]) (Bs1 := fun _ => [BCams G q st th R sp]) (As := [.int (iI i), .int (iI c)]) (rest := []) (kX0_stepsBetween l D G q st th R sp i c (by first | assumption | omega) (by first | assumption | omega) (by first | assumption | omega) (by first | assumption | omega)) rfl ⟨hx, hb, hml, hown, hts⟩ (cwV 2 hts gX0_leastAlike_X0_stepsBetween rfl rfl rfl (by decide +kernel) ⟨by decide, by decide⟩) (q0 := 0) (ci := 0) rfl rfl rfl rfl hl.1 (Nat.le_of_ble_eq_true rfl) ⟨Nat.le_of_ble_eq_true rfl, Nat.le_of_ble_eq_true rfl⟩ dX0_leastAlike_19 hK hP hD hS hA (perm_idx [0] rfl rfl) (fun _ => perm_idx [0] rfl rfl) (fun r u H locs hw2 hP hD hS => ?_)
          subst hw2
          have hsr := sb_rng st (R i.toNat) (R c.toNat) hst
          refine wi_if_lt (tgt := 27) hx hb (by omega) dX0_leastAlike_22 (by decide) (fun c22 => ?_) (fun c22 => ?_)
          ·
            have h27 : lap st th R c.toNat i.toNat = false := by
              unfold lap
              first | (rw [decide_eq_false (by omega : ¬ th i.toNat = 1)]; rfl) | (rw [decide_eq_false (by omega : ¬ 0 ≤ sb st (R i.toNat) (R c.toNat)), Bool.and_false])
            refine lv_iinc (v := iI (i + 1)) (lv' := [(2, .int (iI (i + 1))), (0, .ref (q 0)), (1, .int (iI c))]) hx hb dX0_leastAlike_27 hl (k := 2) rfl (iI_add _ _) (by decide) rfl (fun ls hl => ?_)
            refine lv_goto (tgt := 2) hx hb dX0_leastAlike_30 (by decide) ?_
            exact ih2 (i + 1) _ _ _ (by omega) (by omega) (fun t h => by
              by_cases e : t = i.toNat
              · rw [e]; exact h27
              · exact ht t (by omega)) hP hD hS (lv_sub hl [1, 2, 0] rfl)
          ·
            have h27 : lap st th R c.toNat i.toNat = true := by
              unfold lap; rw [decide_eq_true (by omega : th i.toNat = 1), decide_eq_true c22]; rfl
            refine lv_iload_n hx hb dX0_leastAlike_25 rfl (lv_at hl 2 rfl) ?_
            exact fin _ () H locs ls 26 dX0_leastAlike_26 hP hD hS (trivial) (congrArg iI (by unfold la; rw [fnd_hit ht h27 (by omega)]; omega))
  exact L2 (((c - 0) + 1 : Int)).toNat 0 _ _ _ (by omega) (by omega) (fun t h => absurd h (by omega)) hP hD hS (lv_sub hl [1, 2, 0] rfl)

abbrev rmX0_blanksBelow : Room := { frames := 4, cells := 0, slots := 0, locals := 92 }
set_option maxHeartbeats 4000000 in
set_option maxRecDepth 100000 in
theorem kX0_blanksBelow (l : Launch) (D : va_G) (G : Nat → ClassId) (q : Nat → Nat) (st : Int) (th : Nat → Int) (R : Nat → Nat → Int) (sp : Nat → Int) (n : Int) (hst : 2 ≤ st ∧ st ≤ 16) (hth : ∀ k, th k = 0 ∨ th k = 1) (hR : ∀ i j, 0 ≤ R i j ∧ R i j ≤ 9) (hn : 0 ≤ n ∧ n ≤ 12) : CtI l yX0_blanksBelow wsX0_blanksBelow rmX0_blanksBelow D G [.ref (q 0), .int (iI n)] [BCams G q st th R sp] (fun (r : Int32) (_ : Unit) => r = iI (bb st th R n.toNat)) (fun _ => [BCams G q st th R sp]) := by
  refine CtI.ofI (cc := cX0_blanksBelow) (maxL := 4) (by decide) rfl (Nat.le_of_ble_eq_true rfl) ?_
  intro p0 e0 s0 m0 args bel met cd A0 ls Q0 hx hb hml hown hts hK hP hD hA hl fin
  have hl : lv_has ls 4 [(0, .ref (q 0)), (1, .int (iI n))] := hl
  have hS : va_S A0 s0.heap s0.heap [] := va_S.rf
  have hH : va_P D vwCl (fl [BCams G q st th R sp]) s0.heap := hP
  obtain ⟨H, eH⟩ : ∃ H, H = s0.heap := ⟨_, rfl⟩
  obtain ⟨locs, eL⟩ : ∃ locs : List Loc, locs = [] := ⟨_, rfl⟩
  have hS : va_S A0 s0.heap H locs := by rw [eH, eL]; exact hS
  have hP : va_P D vwCl (fl [BCams G q st th R sp]) H := by rw [eH]; exact hP
  suffices goal : W p0 l e0 rmX0_blanksBelow s0 m0 args bel met cd H locs 0 0 Q0 (F0 m0 0 ls []) by rw [eH, eL] at goal; exact goal
  clear eH eL hH
  refine wi_iconst hx hb dX0_blanksBelow_0 ?_
  refine lv_istore_n (lv' := [(2, .int (iI 0)), (0, .ref (q 0)), (1, .int (iI n))]) hx hb dX0_blanksBelow_1 rfl hl (by decide) rfl (fun ls hl => ?_)
  refine wi_iconst hx hb dX0_blanksBelow_2 ?_
  refine lv_istore_n (lv' := [(3, .int (iI 0)), (2, .int (iI 0)), (0, .ref (q 0)), (1, .int (iI n))]) hx hb dX0_blanksBelow_3 rfl hl (by decide) rfl (fun ls hl => ?_)
  have L4 : ∀ (fu : Nat) (k : Int) (i : Int) (H : Heap) (locs : List Loc) (ls : Array Slot), (n - i < (fu : Int)) → (0 ≤ i ∧ i ≤ n) → (k = ctB (bbp st th R) i.toNat) → va_P D vwCl (fl [BCams G q st th R sp]) H → va_D A0 (fl [BCams G q st th R sp]) → va_S A0 s0.heap H locs → lv_has ls 4 [(0, .ref (q 0)), (1, .int (iI n)), (2, .int (iI k)), (3, .int (iI i))] → W p0 l e0 rmX0_blanksBelow s0 m0 args bel met cd H locs 0 0 Q0 (F0 m0 4 ls []) := by
    intro fu
    induction fu with
    | zero =>
      intro k i H locs ls hfu hi hk
      exact absurd hfu (by omega)
    | succ fu ih =>
      intro k i H locs ls hfu hi hk hP hD hS hl
      have ih4 := ih
      clear ih
      refine lv_iload_n hx hb dX0_blanksBelow_4 rfl (lv_at hl 3 rfl) ?_
      refine lv_iload_n hx hb dX0_blanksBelow_5 rfl (lv_at hl 1 rfl) ?_
      refine wi_icmp_ge (tgt := 36) hx hb (by omega) (by omega) dX0_blanksBelow_6 (by decide) (fun c6 => ?_) (fun c6 => ?_)
      ·
        refine lv_iload_n hx hb dX0_blanksBelow_36 rfl (lv_at hl 2 rfl) ?_
        exact fin _ () H locs ls 37 dX0_blanksBelow_37 hP hD hS (trivial) (congrArg iI (by rw [hk, show i = n by omega]; rfl))
      ·
        refine lv_aload_n hx hb dX0_blanksBelow_9 rfl (lv_at hl 0 rfl) ?_
        refine g_get (C := RX0) (T := TX0) (N := 4) hx hb hts (fun _ h => List.mem_cons_of_mem _ (List.mem_append_right _ h)) hown hK hP (i := 0) rfl BCams_c0 rfl 1 (by decide) (by decide +kernel) rfl dX0_blanksBelow_10 ?_
        refine lv_iload_n hx hb dX0_blanksBelow_13 rfl (lv_at hl 3 rfl) ?_
        refine g_zald hx hb hK hP (i := 0) rfl BCams_c2 (by omega) (by decide) dX0_blanksBelow_14 ?_
        have f1 := hth i.toNat
        refine wi_if_eq (tgt := 30) hx hb (by omega) dX0_blanksBelow_15 (by decide) (fun c15 => ?_) (fun c15 => ?_)
        ·
          refine lv_iinc (v := iI (i + 1)) (lv' := [(3, .int (iI (i + 1))), (0, .ref (q 0)), (1, .int (iI n)), (2, .int (iI k))]) hx hb dX0_blanksBelow_30 hl (k := 3) rfl (iI_add _ _) (by decide) rfl (fun ls hl => ?_)
          refine lv_goto (tgt := 4) hx hb dX0_blanksBelow_33 (by decide) ?_
          exact ih4 k (i + 1) _ _ _ (by omega) (by omega) (by rw [ctB_s (by omega), bbp_if]; split <;> omega) hP hD hS (lv_sub hl [1, 2, 3, 0] rfl)
        ·
          refine lv_aload_n hx hb dX0_blanksBelow_18 rfl (lv_at hl 0 rfl) ?_
          refine lv_iload_n hx hb dX0_blanksBelow_19 rfl (lv_at hl 3 rfl) ?_
          refine cV_i (wc := [BCams G q st th R sp]) (wr := []) (w1 := fun _ => [BCams G q st th R sp]) (Bs1 := fun _ => [BCams G q st th R sp]) (As := [.int (iI i)]) (rest := []) (kX0_leastAlike l D G q st th R sp i (by first | assumption | omega) (by first | assumption | omega) (by first | assumption | omega) (by first | assumption | omega)) rfl ⟨hx, hb, hml, hown, hts⟩ (cwV 1 hts gX0_blanksBelow_X0_leastAlike rfl rfl rfl (by decide +kernel) ⟨by decide, by decide⟩) (q0 := 0) (ci := 0) rfl rfl rfl rfl hl.1 (Nat.le_of_ble_eq_true rfl) ⟨Nat.le_of_ble_eq_true rfl, Nat.le_of_ble_eq_true rfl⟩ dX0_blanksBelow_20 hK hP hD hS hA (perm_idx [0] rfl rfl) (fun _ => perm_idx [0] rfl rfl) (fun r u H locs hw2 hP hD hS => ?_)
          subst hw2
          have hlr := la_rng st th R i.toNat
          refine lv_iload_n hx hb dX0_blanksBelow_23 rfl (lv_at hl 3 rfl) ?_
          refine wi_icmp_ne (tgt := 30) hx hb (by omega) (by omega) dX0_blanksBelow_24 (by decide) (fun c24 => ?_) (fun c24 => ?_)
          ·
            refine lv_iinc (v := iI (i + 1)) (lv' := [(3, .int (iI (i + 1))), (0, .ref (q 0)), (1, .int (iI n)), (2, .int (iI k))]) hx hb dX0_blanksBelow_30 hl (k := 3) rfl (iI_add _ _) (by decide) rfl (fun ls hl => ?_)
            refine lv_goto (tgt := 4) hx hb dX0_blanksBelow_33 (by decide) ?_
            exact ih4 k (i + 1) _ _ _ (by omega) (by omega) (by rw [ctB_s (by omega), bbp_if]; split <;> omega) hP hD hS (lv_sub hl [1, 2, 3, 0] rfl)
          ·
            refine lv_iinc (v := iI (k + 1)) (lv' := [(2, .int (iI (k + 1))), (0, .ref (q 0)), (1, .int (iI n)), (3, .int (iI i))]) hx hb dX0_blanksBelow_27 hl (k := 2) rfl (iI_add _ _) (by decide) rfl (fun ls hl => ?_)
            refine lv_iinc (v := iI (i + 1)) (lv' := [(3, .int (iI (i + 1))), (2, .int (iI (k + 1))), (0, .ref (q 0)), (1, .int (iI n))]) hx hb dX0_blanksBelow_30 hl (k := 3) rfl (iI_add _ _) (by decide) rfl (fun ls hl => ?_)
            refine lv_goto (tgt := 4) hx hb dX0_blanksBelow_33 (by decide) ?_
            exact ih4 (k + 1) (i + 1) _ _ _ (by omega) (by omega) (by rw [ctB_s (by omega), bbp_if]; split <;> omega) hP hD hS (lv_sub hl [2, 3, 1, 0] rfl)
  exact L4 (((n - 0) + 1 : Int)).toNat 0 0 _ _ _ (by omega) (by omega) (by rfl) hP hD hS (lv_sub hl [2, 3, 1, 0] rfl)

abbrev rmX0_greatestStep : Room := { frames := 1, cells := 0, slots := 0, locals := 23 }
set_option maxHeartbeats 4000000 in
set_option maxRecDepth 100000 in
theorem kX0_greatestStep (l : Launch) (D : va_G) (G : Nat → ClassId) (q : Nat → Nat) (st : Int) (th : Nat → Int) (R : Nat → Nat → Int) (sp : Nat → Int) (c : Int) (hst : 2 ≤ st ∧ st ≤ 16) (hR : ∀ i j, 0 ≤ R i j ∧ R i j ≤ 9) (hc : 0 ≤ c ∧ c < 12) : CtI l yX0_greatestStep wsX0_greatestStep rmX0_greatestStep D G [.ref (q 0), .int (iI c)] [BCams G q st th R sp] (fun (r : Int32) (_ : Unit) => r = iI (gs st (R c.toNat) st.toNat)) (fun _ => [BCams G q st th R sp]) := by
  refine CtI.ofI (cc := cX0_greatestStep) (maxL := 5) (by decide) rfl (Nat.le_of_ble_eq_true rfl) ?_
  intro p0 e0 s0 m0 args bel met cd A0 ls Q0 hx hb hml hown hts hK hP hD hA hl fin
  have hl : lv_has ls 5 [(0, .ref (q 0)), (1, .int (iI c))] := hl
  have hS : va_S A0 s0.heap s0.heap [] := va_S.rf
  have hH : va_P D vwCl (fl [BCams G q st th R sp]) s0.heap := hP
  obtain ⟨H, eH⟩ : ∃ H, H = s0.heap := ⟨_, rfl⟩
  obtain ⟨locs, eL⟩ : ∃ locs : List Loc, locs = [] := ⟨_, rfl⟩
  have hS : va_S A0 s0.heap H locs := by rw [eH, eL]; exact hS
  have hP : va_P D vwCl (fl [BCams G q st th R sp]) H := by rw [eH]; exact hP
  suffices goal : W p0 l e0 rmX0_greatestStep s0 m0 args bel met cd H locs 0 0 Q0 (F0 m0 0 ls []) by rw [eH, eL] at goal; exact goal
  clear eH eL hH
  refine wi_iconst hx hb dX0_greatestStep_0 ?_
  refine lv_istore_n (lv' := [(2, .int (iI 0)), (0, .ref (q 0)), (1, .int (iI c))]) hx hb dX0_greatestStep_1 rfl hl (by decide) rfl (fun ls hl => ?_)
  refine wi_iconst hx hb dX0_greatestStep_2 ?_
  refine lv_istore_n (lv' := [(3, .int (iI 0)), (2, .int (iI 0)), (0, .ref (q 0)), (1, .int (iI c))]) hx hb dX0_greatestStep_3 rfl hl (by decide) rfl (fun ls hl => ?_)
  have L4 : ∀ (fu : Nat) (g : Int) (i : Int) (H : Heap) (locs : List Loc) (ls : Array Slot), (st - i < (fu : Int)) → (0 ≤ i ∧ i ≤ st) → (g = gs st (R c.toNat) i.toNat) → va_P D vwCl (fl [BCams G q st th R sp]) H → va_D A0 (fl [BCams G q st th R sp]) → va_S A0 s0.heap H locs → lv_has ls 5 [(0, .ref (q 0)), (1, .int (iI c)), (2, .int (iI g)), (3, .int (iI i))] → W p0 l e0 rmX0_greatestStep s0 m0 args bel met cd H locs 0 0 Q0 (F0 m0 4 ls []) := by
    intro fu
    induction fu with
    | zero =>
      intro g i H locs ls hfu hi hg
      exact absurd hfu (by omega)
    | succ fu ih =>
      intro g i H locs ls hfu hi hg hP hD hS hl
      have ih4 := ih
      clear ih
      refine lv_iload_n hx hb dX0_greatestStep_4 rfl (lv_at hl 3 rfl) ?_
      refine lv_aload_n hx hb dX0_greatestStep_5 rfl (lv_at hl 0 rfl) ?_
      refine g_get (C := RX0) (T := TX0) (N := 4) hx hb hts (fun _ h => List.mem_cons_of_mem _ (List.mem_append_right _ h)) hown hK hP (i := 0) rfl BCams_c0 rfl 3 (by decide) (by decide +kernel) rfl dX0_greatestStep_6 ?_
      refine wi_icmp_ge (tgt := 52) hx hb (by omega) (by omega) dX0_greatestStep_9 (by decide) (fun c9 => ?_) (fun c9 => ?_)
      ·
        refine lv_iload_n hx hb dX0_greatestStep_52 rfl (lv_at hl 2 rfl) ?_
        exact fin _ () H locs ls 53 dX0_greatestStep_53 hP hD hS (trivial) (congrArg iI (by rw [hg, show i = st by omega]))
      ·
        refine lv_aload_n hx hb dX0_greatestStep_12 rfl (lv_at hl 0 rfl) ?_
        refine g_get (C := RX0) (T := TX0) (N := 4) hx hb hts (fun _ h => List.mem_cons_of_mem _ (List.mem_append_right _ h)) hown hK hP (i := 0) rfl BCams_c0 rfl 0 (by decide) (by decide +kernel) rfl dX0_greatestStep_13 ?_
        refine lv_iload_n hx hb dX0_greatestStep_16 rfl (lv_at hl 1 rfl) ?_
        refine g_aald (r := fun i => q (4 + i)) hx hb hK hP (i := 0) rfl BCams_c1 (by omega) (by decide) dX0_greatestStep_17 ?_
        refine lv_aload_n hx hb dX0_greatestStep_18 rfl (lv_at hl 0 rfl) ?_
        refine lv_iload_n hx hb dX0_greatestStep_19 rfl (lv_at hl 3 rfl) ?_
        refine wi_iconst hx hb dX0_greatestStep_20 ?_
        refine cV_i (wc := [BCams G q st th R sp]) (wr := []) (w1 := fun _ => [BCams G q st th R sp]) (Bs1 := fun _ => [BCams G q st th R sp]) (As := [.int (iI i), .int (iI 1)]) (rest := [.ref (q (4 + c.toNat))]) (kX0_further l D G q st th R sp i 1 (by first | assumption | omega) (by first | assumption | omega) (by first | assumption | omega)) rfl ⟨hx, hb, hml, hown, hts⟩ (cwV 2 hts gX0_greatestStep_X0_further rfl rfl rfl (by decide +kernel) ⟨by decide, by decide⟩) (q0 := 0) (ci := 0) rfl rfl rfl rfl hl.1 (Nat.le_of_ble_eq_true rfl) ⟨Nat.le_of_ble_eq_true rfl, Nat.le_of_ble_eq_true rfl⟩ dX0_greatestStep_21 hK hP hD hS hA (perm_idx [0] rfl rfl) (fun _ => perm_idx [0] rfl rfl) (fun r u H locs hw1 hP hD hS => ?_)
        subst hw1
        have hfr := fw_rng (st := st) (x := i + 1) (by omega)
        refine g_iald hx hb hK hP (i := 0) rfl (BCams_row (by omega)) (by omega) (by decide) dX0_greatestStep_24 ?_
        have f2 := hR c.toNat ((fw st (i + 1)).toNat)
        refine lv_aload_n hx hb dX0_greatestStep_25 rfl (lv_at hl 0 rfl) ?_
        refine g_get (C := RX0) (T := TX0) (N := 4) hx hb hts (fun _ h => List.mem_cons_of_mem _ (List.mem_append_right _ h)) hown hK hP (i := 0) rfl BCams_c0 rfl 0 (by decide) (by decide +kernel) rfl dX0_greatestStep_26 ?_
        refine lv_iload_n hx hb dX0_greatestStep_29 rfl (lv_at hl 1 rfl) ?_
        refine g_aald (r := fun i => q (4 + i)) hx hb hK hP (i := 0) rfl BCams_c1 (by omega) (by decide) dX0_greatestStep_30 ?_
        refine lv_iload_n hx hb dX0_greatestStep_31 rfl (lv_at hl 3 rfl) ?_
        refine g_iald hx hb hK hP (i := 0) rfl (BCams_row (by omega)) (by omega) (by decide) dX0_greatestStep_32 ?_
        have f3 := hR c.toNat i.toNat
        refine wi_isub hx hb dX0_greatestStep_33 ?_
        refine lv_istore (lv' := [(4, .int (iI ((R c.toNat ((fw st (i + 1)).toNat)) - (R c.toNat i.toNat)))), (0, .ref (q 0)), (1, .int (iI c)), (2, .int (iI g)), (3, .int (iI i))]) hx hb dX0_greatestStep_34 hl (by decide) rfl (fun ls hl => ?_)
        have hgr := gs_rng st (R c.toNat) (hR c.toNat) i.toNat
        refine lv_iload_n hx hb dX0_greatestStep_36 rfl (lv_at hl 3 rfl) ?_
        refine lv_iload hx hb dX0_greatestStep_37 (lv_at hl 0 rfl) ?_
        refine g_mabs hx hb (by rw [hml]; exact hl.1.symm) hts hown (by decide +kernel) (by decide +kernel) (by decide +kernel) (by decide +kernel) ⟨Nat.le_of_ble_eq_true rfl, Nat.le_of_ble_eq_true rfl, Nat.le_of_ble_eq_true rfl, Nat.le_of_ble_eq_true rfl⟩ (by omega) dX0_greatestStep_39 ?_
        refine g_mmax hx hb (by rw [hml]; exact hl.1.symm) hts hown (by decide +kernel) (by decide +kernel) (by decide +kernel) (by decide +kernel) ⟨Nat.le_of_ble_eq_true rfl, Nat.le_of_ble_eq_true rfl, Nat.le_of_ble_eq_true rfl, Nat.le_of_ble_eq_true rfl⟩ (by omega) (by omega) dX0_greatestStep_42 ?_
        refine lv_istore_n (lv' := [(2, .int (iI (if g < (if 0 ≤ ((R c.toNat ((fw st (i + 1)).toNat)) - (R c.toNat i.toNat)) then ((R c.toNat ((fw st (i + 1)).toNat)) - (R c.toNat i.toNat)) else -((R c.toNat ((fw st (i + 1)).toNat)) - (R c.toNat i.toNat))) then (if 0 ≤ ((R c.toNat ((fw st (i + 1)).toNat)) - (R c.toNat i.toNat)) then ((R c.toNat ((fw st (i + 1)).toNat)) - (R c.toNat i.toNat)) else -((R c.toNat ((fw st (i + 1)).toNat)) - (R c.toNat i.toNat))) else g))), (4, .int (iI ((R c.toNat ((fw st (i + 1)).toNat)) - (R c.toNat i.toNat)))), (0, .ref (q 0)), (1, .int (iI c)), (3, .int (iI i))]) hx hb dX0_greatestStep_45 rfl hl (by decide) rfl (fun ls hl => ?_)
        refine lv_iinc (v := iI (i + 1)) (lv' := [(3, .int (iI (i + 1))), (2, .int (iI (if g < (if 0 ≤ ((R c.toNat ((fw st (i + 1)).toNat)) - (R c.toNat i.toNat)) then ((R c.toNat ((fw st (i + 1)).toNat)) - (R c.toNat i.toNat)) else -((R c.toNat ((fw st (i + 1)).toNat)) - (R c.toNat i.toNat))) then (if 0 ≤ ((R c.toNat ((fw st (i + 1)).toNat)) - (R c.toNat i.toNat)) then ((R c.toNat ((fw st (i + 1)).toNat)) - (R c.toNat i.toNat)) else -((R c.toNat ((fw st (i + 1)).toNat)) - (R c.toNat i.toNat))) else g))), (4, .int (iI ((R c.toNat ((fw st (i + 1)).toNat)) - (R c.toNat i.toNat)))), (0, .ref (q 0)), (1, .int (iI c))]) hx hb dX0_greatestStep_46 hl (k := 4) rfl (iI_add _ _) (by decide) rfl (fun ls hl => ?_)
        refine lv_goto (tgt := 4) hx hb dX0_greatestStep_49 (by decide) ?_
        exact ih4 (if g < (if 0 ≤ ((R c.toNat ((fw st (i + 1)).toNat)) - (R c.toNat i.toNat)) then ((R c.toNat ((fw st (i + 1)).toNat)) - (R c.toNat i.toNat)) else -((R c.toNat ((fw st (i + 1)).toNat)) - (R c.toNat i.toNat))) then (if 0 ≤ ((R c.toNat ((fw st (i + 1)).toNat)) - (R c.toNat i.toNat)) then ((R c.toNat ((fw st (i + 1)).toNat)) - (R c.toNat i.toNat)) else -((R c.toNat ((fw st (i + 1)).toNat)) - (R c.toNat i.toNat))) else g) (i + 1) _ _ _ (by omega) (by omega) (by rw [hg, gs_s (by omega)]) hP hD hS (lv_sub hl [3, 4, 1, 0] rfl)
  exact L4 (((st - 0) + 1 : Int)).toNat 0 0 _ _ _ (by omega) (by omega) (by rfl) hP hD hS (lv_sub hl [2, 3, 1, 0] rfl)
