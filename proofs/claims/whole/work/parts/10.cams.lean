abbrev rmX0_steps : Room := { frames := 0, cells := 0, slots := 0, locals := 0 }
set_option maxHeartbeats 4000000 in
set_option maxRecDepth 100000 in
theorem kX0_steps (l : Launch) (D : va_G) (G : Nat → ClassId) (q : Nat → Nat) (st : Int) (th : Nat → Int) (R : Nat → Nat → Int) (sp : Nat → Int) : CtI l yX0_steps wsX0_steps rmX0_steps D G [.ref (q 0)] [BCams G q st th R sp] (fun (r : Int32) (_ : Unit) => r = iI st) (fun _ => [BCams G q st th R sp]) := by
  refine CtI.ofI (cc := cX0_steps) (maxL := 1) (by decide) rfl (Nat.le_of_ble_eq_true rfl) ?_
  intro p0 e0 s0 m0 args bel met cd A0 ls Q0 hx hb hml hown hts hK hP hD hA hl fin
  have hl : lv_has ls 1 [(0, .ref (q 0))] := hl
  have hS : va_S A0 s0.heap s0.heap [] := va_S.rf
  have hH : va_P D vwCl (fl [BCams G q st th R sp]) s0.heap := hP
  obtain ⟨H, eH⟩ : ∃ H, H = s0.heap := ⟨_, rfl⟩
  obtain ⟨locs, eL⟩ : ∃ locs : List Loc, locs = [] := ⟨_, rfl⟩
  have hS : va_S A0 s0.heap H locs := by rw [eH, eL]; exact hS
  have hP : va_P D vwCl (fl [BCams G q st th R sp]) H := by rw [eH]; exact hP
  suffices goal : W p0 l e0 rmX0_steps s0 m0 args bel met cd H locs 0 0 Q0 (F0 m0 0 ls []) by rw [eH, eL] at goal; exact goal
  clear eH eL hH
  refine lv_aload_n hx hb dX0_steps_0 rfl (lv_at hl 0 rfl) ?_
  refine g_get (C := RX0) (T := TX0) (N := 4) hx hb hts (fun _ h => List.mem_cons_of_mem _ (List.mem_append_right _ h)) hown hK hP (i := 0) rfl BCams_c0 rfl 3 (by decide) (by decide +kernel) rfl dX0_steps_1 ?_
  exact fin _ () H locs ls 4 dX0_steps_4 hP hD hS (trivial) (rfl)

abbrev rmX0_isThere : Room := { frames := 0, cells := 0, slots := 0, locals := 0 }
set_option maxHeartbeats 4000000 in
set_option maxRecDepth 100000 in
theorem kX0_isThere (l : Launch) (D : va_G) (G : Nat → ClassId) (q : Nat → Nat) (st : Int) (th : Nat → Int) (R : Nat → Nat → Int) (sp : Nat → Int) (c : Int) (hth : th c.toNat = 0 ∨ th c.toNat = 1) (hc : 0 ≤ c ∧ c < 12) : CtI l yX0_isThere wsX0_isThere rmX0_isThere D G [.ref (q 0), .int (iI c)] [BCams G q st th R sp] (fun (r : Int32) (_ : Unit) => r = iI (th c.toNat)) (fun _ => [BCams G q st th R sp]) := by
  refine CtI.ofZ (cc := cX0_isThere) (maxL := 2) (by decide) rfl (Nat.le_of_ble_eq_true rfl) ?_
  intro p0 e0 s0 m0 args bel met cd A0 ls Q0 hx hb hml hown hts hK hP hD hA hl fin
  have hl : lv_has ls 2 [(0, .ref (q 0)), (1, .int (iI c))] := hl
  have hS : va_S A0 s0.heap s0.heap [] := va_S.rf
  have hH : va_P D vwCl (fl [BCams G q st th R sp]) s0.heap := hP
  obtain ⟨H, eH⟩ : ∃ H, H = s0.heap := ⟨_, rfl⟩
  obtain ⟨locs, eL⟩ : ∃ locs : List Loc, locs = [] := ⟨_, rfl⟩
  have hS : va_S A0 s0.heap H locs := by rw [eH, eL]; exact hS
  have hP : va_P D vwCl (fl [BCams G q st th R sp]) H := by rw [eH]; exact hP
  suffices goal : W p0 l e0 rmX0_isThere s0 m0 args bel met cd H locs 0 0 Q0 (F0 m0 0 ls []) by rw [eH, eL] at goal; exact goal
  clear eH eL hH
  refine lv_aload_n hx hb dX0_isThere_0 rfl (lv_at hl 0 rfl) ?_
  refine g_get (C := RX0) (T := TX0) (N := 4) hx hb hts (fun _ h => List.mem_cons_of_mem _ (List.mem_append_right _ h)) hown hK hP (i := 0) rfl BCams_c0 rfl 1 (by decide) (by decide +kernel) rfl dX0_isThere_1 ?_
  refine lv_iload_n hx hb dX0_isThere_4 rfl (lv_at hl 1 rfl) ?_
  refine g_zald hx hb hK hP (i := 0) rfl BCams_c2 (by omega) (by decide) dX0_isThere_5 ?_
  exact fin _ () H locs ls 6 dX0_isThere_6 hP hD hS (nz hth) (rfl)

abbrev rmX0_remove : Room := { frames := 0, cells := 0, slots := 0, locals := 0 }
set_option maxHeartbeats 4000000 in
set_option maxRecDepth 100000 in
theorem kX0_remove (l : Launch) (D : va_G) (G : Nat → ClassId) (q : Nat → Nat) (st : Int) (th : Nat → Int) (R : Nat → Nat → Int) (sp : Nat → Int) (c : Int) (hc : 0 ≤ c ∧ c < 12) : CtV l yX0_remove wsX0_remove rmX0_remove D G [.ref (q 0), .int (iI c)] [BCams G q st th R sp] (fun _ : Unit => True) (fun _ => [BCams G q st (va_up th c.toNat 0) R sp]) := by
  refine CtV.of (cc := cX0_remove) (maxL := 2) (by decide) rfl (Nat.le_of_ble_eq_true rfl) ?_
  intro p0 e0 s0 m0 args bel met cd A0 ls Q0 hx hb hml hown hts hK hP hD hA hl fin
  have hl : lv_has ls 2 [(0, .ref (q 0)), (1, .int (iI c))] := hl
  have hS : va_S A0 s0.heap s0.heap [] := va_S.rf
  have hH : va_P D vwCl (fl [BCams G q st th R sp]) s0.heap := hP
  obtain ⟨H, eH⟩ : ∃ H, H = s0.heap := ⟨_, rfl⟩
  obtain ⟨locs, eL⟩ : ∃ locs : List Loc, locs = [] := ⟨_, rfl⟩
  have hS : va_S A0 s0.heap H locs := by rw [eH, eL]; exact hS
  have hP : va_P D vwCl (fl [BCams G q st th R sp]) H := by rw [eH]; exact hP
  suffices goal : W p0 l e0 rmX0_remove s0 m0 args bel met cd H locs 0 0 Q0 (F0 m0 0 ls []) by rw [eH, eL] at goal; exact goal
  clear eH eL hH
  refine lv_aload_n hx hb dX0_remove_0 rfl (lv_at hl 0 rfl) ?_
  refine g_get (C := RX0) (T := TX0) (N := 4) hx hb hts (fun _ h => List.mem_cons_of_mem _ (List.mem_append_right _ h)) hown hK hP (i := 0) rfl BCams_c0 rfl 1 (by decide) (by decide +kernel) rfl dX0_remove_1 ?_
  refine lv_iload_n hx hb dX0_remove_4 rfl (lv_at hl 1 rfl) ?_
  refine wi_iconst hx hb dX0_remove_5 ?_
  refine g_zast hx hb hK hP hD hS (i := 0) rfl BCams_c2 (by omega) (by decide) (by decide) (B1 := BCams G q st (va_up th c.toNat 0) R sp) rfl (Bs1 := [BCams G q st (va_up th c.toNat 0) R sp]) rfl dX0_remove_6 (fun H locs hP hD hS => ?_)
  exact fin () H locs ls 7 dX0_remove_7 hP hD hS (trivial)

abbrev rmX0_heightAt : Room := { frames := 0, cells := 0, slots := 0, locals := 0 }
set_option maxHeartbeats 4000000 in
set_option maxRecDepth 100000 in
theorem kX0_heightAt (l : Launch) (D : va_G) (G : Nat → ClassId) (q : Nat → Nat) (st : Int) (th : Nat → Int) (R : Nat → Nat → Int) (sp : Nat → Int) (c : Int) (t : Int) (hc : 0 ≤ c ∧ c < 12) (ht : 0 ≤ t ∧ t < 16) : CtI l yX0_heightAt wsX0_heightAt rmX0_heightAt D G [.ref (q 0), .int (iI c), .int (iI t)] [BCams G q st th R sp] (fun (r : Int32) (_ : Unit) => r = iI (R c.toNat t.toNat)) (fun _ => [BCams G q st th R sp]) := by
  refine CtI.ofI (cc := cX0_heightAt) (maxL := 3) (by decide) rfl (Nat.le_of_ble_eq_true rfl) ?_
  intro p0 e0 s0 m0 args bel met cd A0 ls Q0 hx hb hml hown hts hK hP hD hA hl fin
  have hl : lv_has ls 3 [(0, .ref (q 0)), (1, .int (iI c)), (2, .int (iI t))] := hl
  have hS : va_S A0 s0.heap s0.heap [] := va_S.rf
  have hH : va_P D vwCl (fl [BCams G q st th R sp]) s0.heap := hP
  obtain ⟨H, eH⟩ : ∃ H, H = s0.heap := ⟨_, rfl⟩
  obtain ⟨locs, eL⟩ : ∃ locs : List Loc, locs = [] := ⟨_, rfl⟩
  have hS : va_S A0 s0.heap H locs := by rw [eH, eL]; exact hS
  have hP : va_P D vwCl (fl [BCams G q st th R sp]) H := by rw [eH]; exact hP
  suffices goal : W p0 l e0 rmX0_heightAt s0 m0 args bel met cd H locs 0 0 Q0 (F0 m0 0 ls []) by rw [eH, eL] at goal; exact goal
  clear eH eL hH
  refine lv_aload_n hx hb dX0_heightAt_0 rfl (lv_at hl 0 rfl) ?_
  refine g_get (C := RX0) (T := TX0) (N := 4) hx hb hts (fun _ h => List.mem_cons_of_mem _ (List.mem_append_right _ h)) hown hK hP (i := 0) rfl BCams_c0 rfl 0 (by decide) (by decide +kernel) rfl dX0_heightAt_1 ?_
  refine lv_iload_n hx hb dX0_heightAt_4 rfl (lv_at hl 1 rfl) ?_
  refine g_aald (r := fun i => q (4 + i)) hx hb hK hP (i := 0) rfl BCams_c1 (by omega) (by decide) dX0_heightAt_5 ?_
  refine lv_iload_n hx hb dX0_heightAt_6 rfl (lv_at hl 2 rfl) ?_
  refine g_iald hx hb hK hP (i := 0) rfl (BCams_row (by omega)) (by omega) (by decide) dX0_heightAt_7 ?_
  exact fin _ () H locs ls 8 dX0_heightAt_8 hP hD hS (trivial) (rfl)

abbrev rmX0_setHeight : Room := { frames := 0, cells := 0, slots := 0, locals := 0 }
set_option maxHeartbeats 4000000 in
set_option maxRecDepth 100000 in
theorem kX0_setHeight (l : Launch) (D : va_G) (G : Nat → ClassId) (q : Nat → Nat) (st : Int) (th : Nat → Int) (R : Nat → Nat → Int) (sp : Nat → Int) (c : Int) (t : Int) (v : Int) (hc : 0 ≤ c ∧ c < 12) (ht : 0 ≤ t ∧ t < 16) : CtV l yX0_setHeight wsX0_setHeight rmX0_setHeight D G [.ref (q 0), .int (iI c), .int (iI t), .int (iI v)] [BCams G q st th R sp] (fun _ : Unit => True) (fun _ => [BCams G q st th (va_up R c.toNat (va_up (R c.toNat) t.toNat v)) sp]) := by
  refine CtV.of (cc := cX0_setHeight) (maxL := 4) (by decide) rfl (Nat.le_of_ble_eq_true rfl) ?_
  intro p0 e0 s0 m0 args bel met cd A0 ls Q0 hx hb hml hown hts hK hP hD hA hl fin
  have hl : lv_has ls 4 [(0, .ref (q 0)), (1, .int (iI c)), (2, .int (iI t)), (3, .int (iI v))] := hl
  have hS : va_S A0 s0.heap s0.heap [] := va_S.rf
  have hH : va_P D vwCl (fl [BCams G q st th R sp]) s0.heap := hP
  obtain ⟨H, eH⟩ : ∃ H, H = s0.heap := ⟨_, rfl⟩
  obtain ⟨locs, eL⟩ : ∃ locs : List Loc, locs = [] := ⟨_, rfl⟩
  have hS : va_S A0 s0.heap H locs := by rw [eH, eL]; exact hS
  have hP : va_P D vwCl (fl [BCams G q st th R sp]) H := by rw [eH]; exact hP
  suffices goal : W p0 l e0 rmX0_setHeight s0 m0 args bel met cd H locs 0 0 Q0 (F0 m0 0 ls []) by rw [eH, eL] at goal; exact goal
  clear eH eL hH
  refine lv_aload_n hx hb dX0_setHeight_0 rfl (lv_at hl 0 rfl) ?_
  refine g_get (C := RX0) (T := TX0) (N := 4) hx hb hts (fun _ h => List.mem_cons_of_mem _ (List.mem_append_right _ h)) hown hK hP (i := 0) rfl BCams_c0 rfl 0 (by decide) (by decide +kernel) rfl dX0_setHeight_1 ?_
  refine lv_iload_n hx hb dX0_setHeight_4 rfl (lv_at hl 1 rfl) ?_
  refine g_aald (r := fun i => q (4 + i)) hx hb hK hP (i := 0) rfl BCams_c1 (by omega) (by decide) dX0_setHeight_5 ?_
  refine lv_iload_n hx hb dX0_setHeight_6 rfl (lv_at hl 2 rfl) ?_
  refine lv_iload_n hx hb dX0_setHeight_7 rfl (lv_at hl 3 rfl) ?_
  refine g_iast hx hb hK hP hD hS (i := 0) rfl (BCams_row (by omega)) (by omega) (by decide) (B1 := BCams G q st th (va_up R c.toNat (va_up (R c.toNat) t.toNat v)) sp) (BCams_srow _ (by omega)) (Bs1 := [BCams G q st th (va_up R c.toNat (va_up (R c.toNat) t.toNat v)) sp]) rfl dX0_setHeight_8 (fun H locs hP hD hS => ?_)
  exact fin () H locs ls 9 dX0_setHeight_9 hP hD hS (trivial)

abbrev rmX0_further : Room := { frames := 0, cells := 0, slots := 0, locals := 0 }
set_option maxHeartbeats 4000000 in
set_option maxRecDepth 100000 in
theorem kX0_further (l : Launch) (D : va_G) (G : Nat → ClassId) (q : Nat → Nat) (st : Int) (th : Nat → Int) (R : Nat → Nat → Int) (sp : Nat → Int) (a : Int) (n : Int) (hst : 2 ≤ st ∧ st ≤ 16) (ha : 0 ≤ a ∧ a < st) (hn : 0 ≤ n ∧ n < st) : CtI l yX0_further wsX0_further rmX0_further D G [.ref (q 0), .int (iI a), .int (iI n)] [BCams G q st th R sp] (fun (r : Int32) (_ : Unit) => r = iI (fw st (a + n))) (fun _ => [BCams G q st th R sp]) := by
  refine CtI.ofI (cc := cX0_further) (maxL := 4) (by decide) rfl (Nat.le_of_ble_eq_true rfl) ?_
  intro p0 e0 s0 m0 args bel met cd A0 ls Q0 hx hb hml hown hts hK hP hD hA hl fin
  have hl : lv_has ls 4 [(0, .ref (q 0)), (1, .int (iI a)), (2, .int (iI n))] := hl
  have hS : va_S A0 s0.heap s0.heap [] := va_S.rf
  have hH : va_P D vwCl (fl [BCams G q st th R sp]) s0.heap := hP
  obtain ⟨H, eH⟩ : ∃ H, H = s0.heap := ⟨_, rfl⟩
  obtain ⟨locs, eL⟩ : ∃ locs : List Loc, locs = [] := ⟨_, rfl⟩
  have hS : va_S A0 s0.heap H locs := by rw [eH, eL]; exact hS
  have hP : va_P D vwCl (fl [BCams G q st th R sp]) H := by rw [eH]; exact hP
  suffices goal : W p0 l e0 rmX0_further s0 m0 args bel met cd H locs 0 0 Q0 (F0 m0 0 ls []) by rw [eH, eL] at goal; exact goal
  clear eH eL hH
  refine lv_iload_n hx hb dX0_further_0 rfl (lv_at hl 1 rfl) ?_
  refine lv_iload_n hx hb dX0_further_1 rfl (lv_at hl 2 rfl) ?_
  refine wi_iadd hx hb dX0_further_2 ?_
  refine lv_istore_n (lv' := [(3, .int (iI (a + n))), (0, .ref (q 0)), (1, .int (iI a)), (2, .int (iI n))]) hx hb dX0_further_3 rfl hl (by decide) rfl (fun ls hl => ?_)
  refine lv_iload_n hx hb dX0_further_4 rfl (lv_at hl 0 rfl) ?_
  refine lv_aload_n hx hb dX0_further_5 rfl (lv_at hl 1 rfl) ?_
  refine g_get (C := RX0) (T := TX0) (N := 4) hx hb hts (fun _ h => List.mem_cons_of_mem _ (List.mem_append_right _ h)) hown hK hP (i := 0) rfl BCams_c0 rfl 3 (by decide) (by decide +kernel) rfl dX0_further_6 ?_
  refine wi_icmp_ge (tgt := 16) hx hb (by omega) (by omega) dX0_further_9 (by decide) (fun c9 => ?_) (fun c9 => ?_)
  ·
    refine lv_iload_n hx hb dX0_further_16 rfl (lv_at hl 0 rfl) ?_
    refine lv_aload_n hx hb dX0_further_17 rfl (lv_at hl 1 rfl) ?_
    refine g_get (C := RX0) (T := TX0) (N := 4) hx hb hts (fun _ h => List.mem_cons_of_mem _ (List.mem_append_right _ h)) hown hK hP (i := 0) rfl BCams_c0 rfl 3 (by decide) (by decide +kernel) rfl dX0_further_18 ?_
    refine wi_isub hx hb dX0_further_21 ?_
    exact fin _ () H locs ls 22 dX0_further_22 hP hD hS (trivial) (congrArg iI (by unfold fw; split <;> omega))
  ·
    refine lv_iload_n hx hb dX0_further_12 rfl (lv_at hl 0 rfl) ?_
    refine lv_goto (tgt := 22) hx hb dX0_further_13 (by decide) ?_
    exact fin _ () H locs ls 22 dX0_further_22 hP hD hS (trivial) (congrArg iI (by unfold fw; split <;> omega))

abbrev rmX0_hasSpan : Room := { frames := 0, cells := 0, slots := 0, locals := 0 }
set_option maxHeartbeats 4000000 in
set_option maxRecDepth 100000 in
theorem kX0_hasSpan (l : Launch) (D : va_G) (G : Nat → ClassId) (q : Nat → Nat) (st : Int) (th : Nat → Int) (R : Nat → Nat → Int) (sp : Nat → Int) (f : Int) (n : Int) (hst : 2 ≤ st ∧ st ≤ 16) (hf : -2147483648 ≤ f ∧ f < 2147483648) (hn : -2147483648 ≤ n ∧ n < 2147483648) : CtI l yX0_hasSpan wsX0_hasSpan rmX0_hasSpan D G [.ref (q 0), .int (iI f), .int (iI n)] [BCams G q st th R sp] (fun (r : Int32) (_ : Unit) => r = iI (if 0 ≤ n ∧ n ≤ st ∧ 0 ≤ f ∧ f ≤ st - n then 1 else 0)) (fun _ => [BCams G q st th R sp]) := by
  refine CtI.ofZ (cc := cX0_hasSpan) (maxL := 3) (by decide) rfl (Nat.le_of_ble_eq_true rfl) ?_
  intro p0 e0 s0 m0 args bel met cd A0 ls Q0 hx hb hml hown hts hK hP hD hA hl fin
  have hl : lv_has ls 3 [(0, .ref (q 0)), (1, .int (iI f)), (2, .int (iI n))] := hl
  have hS : va_S A0 s0.heap s0.heap [] := va_S.rf
  have hH : va_P D vwCl (fl [BCams G q st th R sp]) s0.heap := hP
  obtain ⟨H, eH⟩ : ∃ H, H = s0.heap := ⟨_, rfl⟩
  obtain ⟨locs, eL⟩ : ∃ locs : List Loc, locs = [] := ⟨_, rfl⟩
  have hS : va_S A0 s0.heap H locs := by rw [eH, eL]; exact hS
  have hP : va_P D vwCl (fl [BCams G q st th R sp]) H := by rw [eH]; exact hP
  suffices goal : W p0 l e0 rmX0_hasSpan s0 m0 args bel met cd H locs 0 0 Q0 (F0 m0 0 ls []) by rw [eH, eL] at goal; exact goal
  clear eH eL hH
  refine lv_iload_n hx hb dX0_hasSpan_0 rfl (lv_at hl 2 rfl) ?_
  refine wi_if_lt (tgt := 30) hx hb (by omega) dX0_hasSpan_1 (by decide) (fun c1 => ?_) (fun c1 => ?_)
  ·
    refine wi_iconst hx hb dX0_hasSpan_30 ?_
    exact fin _ () H locs ls 31 dX0_hasSpan_31 hP hD hS (by decide) (congrArg iI (by first | rfl | (rw [if_pos (by omega)]) | (rw [if_neg (by omega)]) | (split <;> omega)))
  ·
    refine lv_iload_n hx hb dX0_hasSpan_4 rfl (lv_at hl 2 rfl) ?_
    refine lv_aload_n hx hb dX0_hasSpan_5 rfl (lv_at hl 0 rfl) ?_
    refine g_get (C := RX0) (T := TX0) (N := 4) hx hb hts (fun _ h => List.mem_cons_of_mem _ (List.mem_append_right _ h)) hown hK hP (i := 0) rfl BCams_c0 rfl 3 (by decide) (by decide +kernel) rfl dX0_hasSpan_6 ?_
    refine wi_icmp_gt (tgt := 30) hx hb (by omega) (by omega) dX0_hasSpan_9 (by decide) (fun c9 => ?_) (fun c9 => ?_)
    ·
      refine wi_iconst hx hb dX0_hasSpan_30 ?_
      exact fin _ () H locs ls 31 dX0_hasSpan_31 hP hD hS (by decide) (congrArg iI (by first | rfl | (rw [if_pos (by omega)]) | (rw [if_neg (by omega)]) | (split <;> omega)))
    ·
      refine lv_iload_n hx hb dX0_hasSpan_12 rfl (lv_at hl 1 rfl) ?_
      refine wi_if_lt (tgt := 30) hx hb (by omega) dX0_hasSpan_13 (by decide) (fun c13 => ?_) (fun c13 => ?_)
      ·
        refine wi_iconst hx hb dX0_hasSpan_30 ?_
        exact fin _ () H locs ls 31 dX0_hasSpan_31 hP hD hS (by decide) (congrArg iI (by first | rfl | (rw [if_pos (by omega)]) | (rw [if_neg (by omega)]) | (split <;> omega)))
      ·
        refine lv_iload_n hx hb dX0_hasSpan_16 rfl (lv_at hl 1 rfl) ?_
        refine lv_aload_n hx hb dX0_hasSpan_17 rfl (lv_at hl 0 rfl) ?_
        refine g_get (C := RX0) (T := TX0) (N := 4) hx hb hts (fun _ h => List.mem_cons_of_mem _ (List.mem_append_right _ h)) hown hK hP (i := 0) rfl BCams_c0 rfl 3 (by decide) (by decide +kernel) rfl dX0_hasSpan_18 ?_
        refine lv_iload_n hx hb dX0_hasSpan_21 rfl (lv_at hl 2 rfl) ?_
        refine wi_isub hx hb dX0_hasSpan_22 ?_
        refine wi_icmp_gt (tgt := 30) hx hb (by omega) (by omega) dX0_hasSpan_23 (by decide) (fun c23 => ?_) (fun c23 => ?_)
        ·
          refine wi_iconst hx hb dX0_hasSpan_30 ?_
          exact fin _ () H locs ls 31 dX0_hasSpan_31 hP hD hS (by decide) (congrArg iI (by first | rfl | (rw [if_pos (by omega)]) | (rw [if_neg (by omega)]) | (split <;> omega)))
        ·
          refine wi_iconst hx hb dX0_hasSpan_26 ?_
          refine lv_goto (tgt := 31) hx hb dX0_hasSpan_27 (by decide) ?_
          exact fin _ () H locs ls 31 dX0_hasSpan_31 hP hD hS (by decide) (congrArg iI (by first | rfl | (rw [if_pos (by omega)]) | (rw [if_neg (by omega)]) | (split <;> omega)))

abbrev rmX0_size : Room := { frames := 0, cells := 0, slots := 0, locals := 0 }
set_option maxHeartbeats 4000000 in
set_option maxRecDepth 100000 in
theorem kX0_size (l : Launch) (D : va_G) (G : Nat → ClassId) (q : Nat → Nat) (st : Int) (th : Nat → Int) (R : Nat → Nat → Int) (sp : Nat → Int) (hth : ∀ k, th k = 0 ∨ th k = 1) : CtI l yX0_size wsX0_size rmX0_size D G [.ref (q 0)] [BCams G q st th R sp] (fun (r : Int32) (_ : Unit) => r = iI (cnt th 12)) (fun _ => [BCams G q st th R sp]) := by
  refine CtI.ofI (cc := cX0_size) (maxL := 3) (by decide) rfl (Nat.le_of_ble_eq_true rfl) ?_
  intro p0 e0 s0 m0 args bel met cd A0 ls Q0 hx hb hml hown hts hK hP hD hA hl fin
  have hl : lv_has ls 3 [(0, .ref (q 0))] := hl
  have hS : va_S A0 s0.heap s0.heap [] := va_S.rf
  have hH : va_P D vwCl (fl [BCams G q st th R sp]) s0.heap := hP
  obtain ⟨H, eH⟩ : ∃ H, H = s0.heap := ⟨_, rfl⟩
  obtain ⟨locs, eL⟩ : ∃ locs : List Loc, locs = [] := ⟨_, rfl⟩
  have hS : va_S A0 s0.heap H locs := by rw [eH, eL]; exact hS
  have hP : va_P D vwCl (fl [BCams G q st th R sp]) H := by rw [eH]; exact hP
  suffices goal : W p0 l e0 rmX0_size s0 m0 args bel met cd H locs 0 0 Q0 (F0 m0 0 ls []) by rw [eH, eL] at goal; exact goal
  clear eH eL hH
  refine wi_iconst hx hb dX0_size_0 ?_
  refine lv_istore_n (lv' := [(1, .int (iI 0)), (0, .ref (q 0))]) hx hb dX0_size_1 rfl hl (by decide) rfl (fun ls hl => ?_)
  refine wi_iconst hx hb dX0_size_2 ?_
  refine lv_istore_n (lv' := [(2, .int (iI 0)), (1, .int (iI 0)), (0, .ref (q 0))]) hx hb dX0_size_3 rfl hl (by decide) rfl (fun ls hl => ?_)
  have L4 : ∀ (fu : Nat) (n0 : Int) (i : Int) (H : Heap) (locs : List Loc) (ls : Array Slot), (12 - i < (fu : Int)) → (0 ≤ i ∧ i ≤ 12) → (n0 = cnt th i.toNat) → va_P D vwCl (fl [BCams G q st th R sp]) H → va_D A0 (fl [BCams G q st th R sp]) → va_S A0 s0.heap H locs → lv_has ls 3 [(0, .ref (q 0)), (1, .int (iI n0)), (2, .int (iI i))] → W p0 l e0 rmX0_size s0 m0 args bel met cd H locs 0 0 Q0 (F0 m0 4 ls []) := by
    intro fu
    induction fu with
    | zero =>
      intro n0 i H locs ls hfu hi hc
      exact absurd hfu (by omega)
    | succ fu ih =>
      intro n0 i H locs ls hfu hi hc hP hD hS hl
      have ih4 := ih
      clear ih
      refine lv_iload_n hx hb dX0_size_4 rfl (lv_at hl 2 rfl) ?_
      refine wi_bipush hx hb dX0_size_5 (by decide) ?_
      refine wi_icmp_ge (tgt := 28) hx hb (by omega) (by omega) dX0_size_7 (by decide) (fun c7 => ?_) (fun c7 => ?_)
      ·
        refine lv_iload_n hx hb dX0_size_28 rfl (lv_at hl 1 rfl) ?_
        exact fin _ () H locs ls 29 dX0_size_29 hP hD hS (trivial) (congrArg iI (by rw [hc, show i = 12 by omega]; rfl))
      ·
        refine lv_aload_n hx hb dX0_size_10 rfl (lv_at hl 0 rfl) ?_
        refine g_get (C := RX0) (T := TX0) (N := 4) hx hb hts (fun _ h => List.mem_cons_of_mem _ (List.mem_append_right _ h)) hown hK hP (i := 0) rfl BCams_c0 rfl 1 (by decide) (by decide +kernel) rfl dX0_size_11 ?_
        refine lv_iload_n hx hb dX0_size_14 rfl (lv_at hl 2 rfl) ?_
        refine g_zald hx hb hK hP (i := 0) rfl BCams_c2 (by omega) (by decide) dX0_size_15 ?_
        have f1 := hth i.toNat
        refine wi_if_eq (tgt := 22) hx hb (by omega) dX0_size_16 (by decide) (fun c16 => ?_) (fun c16 => ?_)
        ·
          refine lv_iinc (v := iI (i + 1)) (lv' := [(2, .int (iI (i + 1))), (0, .ref (q 0)), (1, .int (iI n0))]) hx hb dX0_size_22 hl (k := 2) rfl (iI_add _ _) (by decide) rfl (fun ls hl => ?_)
          refine lv_goto (tgt := 4) hx hb dX0_size_25 (by decide) ?_
          exact ih4 n0 (i + 1) _ _ _ (by omega) (by omega) (by rw [cnt_s (by omega)]; omega) hP hD hS (lv_sub hl [1, 2, 0] rfl)
        ·
          refine lv_iinc (v := iI (n0 + 1)) (lv' := [(1, .int (iI (n0 + 1))), (0, .ref (q 0)), (2, .int (iI i))]) hx hb dX0_size_19 hl (k := 1) rfl (iI_add _ _) (by decide) rfl (fun ls hl => ?_)
          refine lv_iinc (v := iI (i + 1)) (lv' := [(2, .int (iI (i + 1))), (1, .int (iI (n0 + 1))), (0, .ref (q 0))]) hx hb dX0_size_22 hl (k := 2) rfl (iI_add _ _) (by decide) rfl (fun ls hl => ?_)
          refine lv_goto (tgt := 4) hx hb dX0_size_25 (by decide) ?_
          exact ih4 (n0 + 1) (i + 1) _ _ _ (by omega) (by omega) (by rw [cnt_s (by omega)]; omega) hP hD hS (lv_sub hl [2, 1, 0] rfl)
  exact L4 (((12 - 0) + 1 : Int)).toNat 0 0 _ _ _ (by omega) (by omega) (by rfl) hP hD hS (lv_sub hl [2, 1, 0] rfl)
