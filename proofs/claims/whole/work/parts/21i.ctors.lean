abbrev rmX1_init : Room := { frames := 1, cells := 0, slots := 0, locals := 20 }
set_option maxHeartbeats 4000000 in
set_option maxRecDepth 100000 in
theorem kX1_init (l : Launch) (D : va_G) (G : Nat → ClassId) (b : Nat) : CtN l yX1_init wsX1_init rmX1_init D G [.ref b] [[(b, .inr (1, [.int (iI 0), .int (iI 0), .int (iI 0)]))]] (fun _ : Unit => True) (fun _ => [BFlt b (-1) (-1) (-1)]) 0 0 := by
  refine CtN.of (cc := cX1_init) (maxL := 1) (by decide) rfl (Nat.le_of_ble_eq_true rfl) ?_
  intro p0 e0 s0 m0 args bel met cd A0 ls Q0 hx hcd hml hown hts hK hP hD hA hN hin hl fin
  have hin : met.name = "<init>" := hin
  have hl : lv_has ls 1 [(0, .ref b)] := hl
  have hS : va_S A0 s0.heap s0.heap [] := va_S.rf
  obtain ⟨H, eH⟩ : ∃ H, H = s0.heap := ⟨_, rfl⟩
  obtain ⟨locs, eL⟩ : ∃ locs : List Loc, locs = [] := ⟨_, rfl⟩
  have hS : va_S A0 s0.heap H locs := by rw [eH, eL]; exact hS
  have hP : va_P D vwCl (fl [[(b, .inr (1, [.int (iI 0), .int (iI 0), .int (iI 0)]))]]) H := by rw [eH]; exact hP
  suffices goal : W p0 l e0 rmX1_init s0 m0 args bel met cd H locs 0 0 Q0 (F0 m0 0 ls []) by rw [eH, eL] at goal; exact goal
  clear eH eL
  refine lv_aload_n hx hcd dX1_init_0 rfl (lv_at hl 0 rfl) ?_
  refine W.objInit hx hcd hown (hts (.methodLink RX1 3 objectInit) (by decide +kernel)) (hts (.instanceMethod objectInit) (by decide +kernel)) (hts (.code objectInit ⟨#[0xb1]⟩ 1 none) (by decide +kernel)) rfl (by rw [hml]; exact hl.1) rfl dX1_init_1 (Nat.le_of_ble_eq_true rfl) (Nat.le_of_ble_eq_true rfl) ?_
  refine W.eq (g2 := F0 m0 4 ls []) rfl ?_
  refine lv_aload_n hx hcd dX1_init_4 rfl (lv_at hl 0 rfl) ?_
  refine wi_iconst hx hcd dX1_init_5 ?_
  refine g_put (C := RX1) (T := TX1) (N := 3) hx hcd hts (fun _ h => List.mem_cons_of_mem _ (List.mem_append_right _ h)) tyX1 tyX1_ok nmX1 hown hK hP hD hS (i := 0) (j := 0) rfl rfl rfl 0 (by decide) (by decide +kernel) rfl (by decide +kernel) (Nat.le_of_ble_eq_true rfl) (B1 := [(b, .inr (1, [.int (iI (-1)), .int (iI 0), .int (iI 0)]))]) rfl (Bs1 := [[(b, .inr (1, [.int (iI (-1)), .int (iI 0), .int (iI 0)]))]]) rfl dX1_init_6 (fun H locs hP hD hS => ?_)
  refine lv_aload_n hx hcd dX1_init_9 rfl (lv_at hl 0 rfl) ?_
  refine wi_iconst hx hcd dX1_init_10 ?_
  refine g_put (C := RX1) (T := TX1) (N := 3) hx hcd hts (fun _ h => List.mem_cons_of_mem _ (List.mem_append_right _ h)) tyX1 tyX1_ok nmX1 hown hK hP hD hS (i := 0) (j := 0) rfl rfl rfl 1 (by decide) (by decide +kernel) rfl (by decide +kernel) (Nat.le_of_ble_eq_true rfl) (B1 := [(b, .inr (1, [.int (iI (-1)), .int (iI (-1)), .int (iI 0)]))]) rfl (Bs1 := [[(b, .inr (1, [.int (iI (-1)), .int (iI (-1)), .int (iI 0)]))]]) rfl dX1_init_11 (fun H locs hP hD hS => ?_)
  refine lv_aload_n hx hcd dX1_init_14 rfl (lv_at hl 0 rfl) ?_
  refine wi_iconst hx hcd dX1_init_15 ?_
  refine g_put (C := RX1) (T := TX1) (N := 3) hx hcd hts (fun _ h => List.mem_cons_of_mem _ (List.mem_append_right _ h)) tyX1 tyX1_ok nmX1 hown hK hP hD hS (i := 0) (j := 0) rfl rfl rfl 2 (by decide) (by decide +kernel) rfl (by decide +kernel) (Nat.le_of_ble_eq_true rfl) (B1 := [(b, .inr (1, [.int (iI (-1)), .int (iI (-1)), .int (iI (-1))]))]) rfl (Bs1 := [[(b, .inr (1, [.int (iI (-1)), .int (iI (-1)), .int (iI (-1))]))]]) rfl dX1_init_16 (fun H locs hP hD hS => ?_)
  exact fin () H locs ls 19 dX1_init_19 hP hD hS trivial

abbrev rmX7_init : Room := { frames := 1, cells := 0, slots := 0, locals := 20 }
set_option maxHeartbeats 4000000 in
set_option maxRecDepth 100000 in
theorem kX7_init (l : Launch) (D : va_G) (G : Nat → ClassId) (b : Nat) : CtN l yX7_init wsX7_init rmX7_init D G [.ref b] [[(b, .inr (7, [.int (iI 0), .int (iI 0), .int (iI 0), .int (iI 0), .int (iI 0)]))]] (fun _ : Unit => True) (fun _ => [BSpr b 0 2 0 0 0]) 0 0 := by
  refine CtN.of (cc := cX7_init) (maxL := 1) (by decide) rfl (Nat.le_of_ble_eq_true rfl) ?_
  intro p0 e0 s0 m0 args bel met cd A0 ls Q0 hx hcd hml hown hts hK hP hD hA hN hin hl fin
  have hin : met.name = "<init>" := hin
  have hl : lv_has ls 1 [(0, .ref b)] := hl
  have hS : va_S A0 s0.heap s0.heap [] := va_S.rf
  obtain ⟨H, eH⟩ : ∃ H, H = s0.heap := ⟨_, rfl⟩
  obtain ⟨locs, eL⟩ : ∃ locs : List Loc, locs = [] := ⟨_, rfl⟩
  have hS : va_S A0 s0.heap H locs := by rw [eH, eL]; exact hS
  have hP : va_P D vwCl (fl [[(b, .inr (7, [.int (iI 0), .int (iI 0), .int (iI 0), .int (iI 0), .int (iI 0)]))]]) H := by rw [eH]; exact hP
  suffices goal : W p0 l e0 rmX7_init s0 m0 args bel met cd H locs 0 0 Q0 (F0 m0 0 ls []) by rw [eH, eL] at goal; exact goal
  clear eH eL
  refine lv_aload_n hx hcd dX7_init_0 rfl (lv_at hl 0 rfl) ?_
  refine W.objInit hx hcd hown (hts (.methodLink RX7 1 objectInit) (by decide +kernel)) (hts (.instanceMethod objectInit) (by decide +kernel)) (hts (.code objectInit ⟨#[0xb1]⟩ 1 none) (by decide +kernel)) rfl (by rw [hml]; exact hl.1) rfl dX7_init_1 (Nat.le_of_ble_eq_true rfl) (Nat.le_of_ble_eq_true rfl) ?_
  refine W.eq (g2 := F0 m0 4 ls []) rfl ?_
  refine lv_aload_n hx hcd dX7_init_4 rfl (lv_at hl 0 rfl) ?_
  refine wi_iconst hx hcd dX7_init_5 ?_
  refine g_put (C := RX7) (T := TX7) (N := 5) hx hcd hts (fun _ h => List.mem_cons_of_mem _ (List.mem_append_right _ h)) tyX7 tyX7_ok nmX7 hown hK hP hD hS (i := 0) (j := 0) rfl rfl rfl 0 (by decide) (by decide +kernel) rfl (by decide +kernel) (Nat.le_of_ble_eq_true rfl) (B1 := [(b, .inr (7, [.int (iI 0), .int (iI 0), .int (iI 0), .int (iI 0), .int (iI 0)]))]) rfl (Bs1 := [[(b, .inr (7, [.int (iI 0), .int (iI 0), .int (iI 0), .int (iI 0), .int (iI 0)]))]]) rfl dX7_init_6 (fun H locs hP hD hS => ?_)
  refine lv_aload_n hx hcd dX7_init_9 rfl (lv_at hl 0 rfl) ?_
  refine wi_iconst hx hcd dX7_init_10 ?_
  refine g_put (C := RX7) (T := TX7) (N := 5) hx hcd hts (fun _ h => List.mem_cons_of_mem _ (List.mem_append_right _ h)) tyX7 tyX7_ok nmX7 hown hK hP hD hS (i := 0) (j := 0) rfl rfl rfl 1 (by decide) (by decide +kernel) rfl (by decide +kernel) (Nat.le_of_ble_eq_true rfl) (B1 := [(b, .inr (7, [.int (iI 0), .int (iI 2), .int (iI 0), .int (iI 0), .int (iI 0)]))]) rfl (Bs1 := [[(b, .inr (7, [.int (iI 0), .int (iI 2), .int (iI 0), .int (iI 0), .int (iI 0)]))]]) rfl dX7_init_11 (fun H locs hP hD hS => ?_)
  refine lv_aload_n hx hcd dX7_init_14 rfl (lv_at hl 0 rfl) ?_
  refine wi_iconst hx hcd dX7_init_15 ?_
  refine g_put (C := RX7) (T := TX7) (N := 5) hx hcd hts (fun _ h => List.mem_cons_of_mem _ (List.mem_append_right _ h)) tyX7 tyX7_ok nmX7 hown hK hP hD hS (i := 0) (j := 0) rfl rfl rfl 2 (by decide) (by decide +kernel) rfl (by decide +kernel) (Nat.le_of_ble_eq_true rfl) (B1 := [(b, .inr (7, [.int (iI 0), .int (iI 2), .int (iI 0), .int (iI 0), .int (iI 0)]))]) rfl (Bs1 := [[(b, .inr (7, [.int (iI 0), .int (iI 2), .int (iI 0), .int (iI 0), .int (iI 0)]))]]) rfl dX7_init_16 (fun H locs hP hD hS => ?_)
  refine lv_aload_n hx hcd dX7_init_19 rfl (lv_at hl 0 rfl) ?_
  refine wi_iconst hx hcd dX7_init_20 ?_
  refine g_put (C := RX7) (T := TX7) (N := 5) hx hcd hts (fun _ h => List.mem_cons_of_mem _ (List.mem_append_right _ h)) tyX7 tyX7_ok nmX7 hown hK hP hD hS (i := 0) (j := 0) rfl rfl rfl 3 (by decide) (by decide +kernel) rfl (by decide +kernel) (Nat.le_of_ble_eq_true rfl) (B1 := [(b, .inr (7, [.int (iI 0), .int (iI 2), .int (iI 0), .int (iI 0), .int (iI 0)]))]) rfl (Bs1 := [[(b, .inr (7, [.int (iI 0), .int (iI 2), .int (iI 0), .int (iI 0), .int (iI 0)]))]]) rfl dX7_init_21 (fun H locs hP hD hS => ?_)
  refine lv_aload_n hx hcd dX7_init_24 rfl (lv_at hl 0 rfl) ?_
  refine wi_iconst hx hcd dX7_init_25 ?_
  refine g_put (C := RX7) (T := TX7) (N := 5) hx hcd hts (fun _ h => List.mem_cons_of_mem _ (List.mem_append_right _ h)) tyX7 tyX7_ok nmX7 hown hK hP hD hS (i := 0) (j := 0) rfl rfl rfl 4 (by decide) (by decide +kernel) rfl (by decide +kernel) (Nat.le_of_ble_eq_true rfl) (B1 := [(b, .inr (7, [.int (iI 0), .int (iI 2), .int (iI 0), .int (iI 0), .int (iI 0)]))]) rfl (Bs1 := [[(b, .inr (7, [.int (iI 0), .int (iI 2), .int (iI 0), .int (iI 0), .int (iI 0)]))]]) rfl dX7_init_26 (fun H locs hP hD hS => ?_)
  exact fin () H locs ls 29 dX7_init_29 hP hD hS trivial

abbrev rmX3_init : Room := { frames := 1, cells := 0, slots := 0, locals := 20 }
set_option maxHeartbeats 4000000 in
set_option maxRecDepth 100000 in
theorem kX3_init (l : Launch) (D : va_G) (G : Nat → ClassId) (b : Nat) (c : Nat) (m : Nat) : CtN l yX3_init wsX3_init rmX3_init D G [.ref b, .ref c, .ref m] [[(b, .inr (3, [.null, .null]))]] (fun _ : Unit => True) (fun _ => [BHan b c m]) 0 0 := by
  refine CtN.of (cc := cX3_init) (maxL := 3) (by decide) rfl (Nat.le_of_ble_eq_true rfl) ?_
  intro p0 e0 s0 m0 args bel met cd A0 ls Q0 hx hcd hml hown hts hK hP hD hA hN hin hl fin
  have hin : met.name = "<init>" := hin
  have hl : lv_has ls 3 [(0, .ref b), (1, .ref c), (2, .ref m)] := hl
  have hS : va_S A0 s0.heap s0.heap [] := va_S.rf
  obtain ⟨H, eH⟩ : ∃ H, H = s0.heap := ⟨_, rfl⟩
  obtain ⟨locs, eL⟩ : ∃ locs : List Loc, locs = [] := ⟨_, rfl⟩
  have hS : va_S A0 s0.heap H locs := by rw [eH, eL]; exact hS
  have hP : va_P D vwCl (fl [[(b, .inr (3, [.null, .null]))]]) H := by rw [eH]; exact hP
  suffices goal : W p0 l e0 rmX3_init s0 m0 args bel met cd H locs 0 0 Q0 (F0 m0 0 ls []) by rw [eH, eL] at goal; exact goal
  clear eH eL
  refine lv_aload_n hx hcd dX3_init_0 rfl (lv_at hl 0 rfl) ?_
  refine W.objInit hx hcd hown (hts (.methodLink RX3 1 objectInit) (by decide +kernel)) (hts (.instanceMethod objectInit) (by decide +kernel)) (hts (.code objectInit ⟨#[0xb1]⟩ 1 none) (by decide +kernel)) rfl (by rw [hml]; exact hl.1) rfl dX3_init_1 (Nat.le_of_ble_eq_true rfl) (Nat.le_of_ble_eq_true rfl) ?_
  refine W.eq (g2 := F0 m0 4 ls []) rfl ?_
  refine lv_aload_n hx hcd dX3_init_4 rfl (lv_at hl 0 rfl) ?_
  refine lv_aload_n hx hcd dX3_init_5 rfl (lv_at hl 1 rfl) ?_
  refine g_putF (C := RX3) (T := TX3) (N := 2) hx hcd hts (fun _ h => List.mem_cons_of_mem _ (List.mem_append_right _ h)) tyX3 tyX3_ok nmX3 hown hK hP hD hS (i := 0) (j := 0) rfl rfl rfl 0 (by decide) (by decide +kernel) rfl hin rfl rfl rfl (Nat.le_of_ble_eq_true rfl) (B1 := [(b, .inr (3, [.ref c, .null]))]) rfl (Bs1 := [[(b, .inr (3, [.ref c, .null]))]]) rfl dX3_init_6 (fun H locs hP hD hS => ?_)
  refine lv_aload_n hx hcd dX3_init_9 rfl (lv_at hl 0 rfl) ?_
  refine lv_aload_n hx hcd dX3_init_10 rfl (lv_at hl 2 rfl) ?_
  refine g_putF (C := RX3) (T := TX3) (N := 2) hx hcd hts (fun _ h => List.mem_cons_of_mem _ (List.mem_append_right _ h)) tyX3 tyX3_ok nmX3 hown hK hP hD hS (i := 0) (j := 0) rfl rfl rfl 1 (by decide) (by decide +kernel) rfl hin rfl rfl rfl (Nat.le_of_ble_eq_true rfl) (B1 := [(b, .inr (3, [.ref c, .ref m]))]) rfl (Bs1 := [[(b, .inr (3, [.ref c, .ref m]))]]) rfl dX3_init_11 (fun H locs hP hD hS => ?_)
  exact fin () H locs ls 14 dX3_init_14 hP hD hS trivial

abbrev rmX5_init : Room := { frames := 1, cells := 4, slots := 42, locals := 20 }
set_option maxHeartbeats 4000000 in
set_option maxRecDepth 100000 in
theorem kX5_init (l : Launch) (D : va_G) (G : Nat → ClassId) (b : Nat) : CtN l yX5_init wsX5_init rmX5_init D G [.ref b] [[(b, .inr (5, [.null, .null, .null, .null, .int (iI 0), .int (iI 0)]))]] (fun u : (Nat → Nat) => u 0 = b) (fun u => [BMsg G u (fun _ => 0) (fun _ => 0) (fun _ => 0) (fun _ => 0) 0 5]) 4 42 := by
  refine CtN.of (cc := cX5_init) (maxL := 1) (by decide) rfl (Nat.le_of_ble_eq_true rfl) ?_
  intro p0 e0 s0 m0 args bel met cd A0 ls Q0 hx hcd hml hown hts hK hP hD hA hN hin hl fin
  have hin : met.name = "<init>" := hin
  have hl : lv_has ls 1 [(0, .ref b)] := hl
  have hS : va_S A0 s0.heap s0.heap [] := va_S.rf
  obtain ⟨H, eH⟩ : ∃ H, H = s0.heap := ⟨_, rfl⟩
  obtain ⟨locs, eL⟩ : ∃ locs : List Loc, locs = [] := ⟨_, rfl⟩
  have hS : va_S A0 s0.heap H locs := by rw [eH, eL]; exact hS
  have hP : va_P D vwCl (fl [[(b, .inr (5, [.null, .null, .null, .null, .int (iI 0), .int (iI 0)]))]]) H := by rw [eH]; exact hP
  suffices goal : W p0 l e0 rmX5_init s0 m0 args bel met cd H locs 0 0 Q0 (F0 m0 0 ls []) by rw [eH, eL] at goal; exact goal
  clear eH eL
  refine lv_aload_n hx hcd dX5_init_0 rfl (lv_at hl 0 rfl) ?_
  refine W.objInit hx hcd hown (hts (.methodLink RX5 3 objectInit) (by decide +kernel)) (hts (.instanceMethod objectInit) (by decide +kernel)) (hts (.code objectInit ⟨#[0xb1]⟩ 1 none) (by decide +kernel)) rfl (by rw [hml]; exact hl.1) rfl dX5_init_1 (Nat.le_of_ble_eq_true rfl) (Nat.le_of_ble_eq_true rfl) ?_
  refine W.eq (g2 := F0 m0 4 ls []) rfl ?_
  refine lv_aload_n hx hcd dX5_init_4 rfl (lv_at hl 0 rfl) ?_
  refine wi_bipush hx hcd dX5_init_5 (by decide) ?_
  refine g_newI hx hcd hts (by decide +kernel) hK hP hD hS hA (fun _ => 0) 10 rfl (by decide) (fun _ _ => rfl) (Nat.le_of_ble_eq_true rfl) (Nat.le_of_ble_eq_true rfl) dX5_init_7 (fun q1 H hP hD hS => ?_)
  refine W.widen (k := 1) (n := 10) (Nat.le_of_ble_eq_true rfl) (Nat.le_of_ble_eq_true rfl) ?_
  have hP : va_P D vwCl (fl [[(b, .inr (5, [.null, .null, .null, .null, .int (iI 0), .int (iI 0)]))], [(q1, .inl (G 0, 10, .inl (ai (fun _ => 0))))]]) H := hP
  have hD : va_D A0 (fl [[(b, .inr (5, [.null, .null, .null, .null, .int (iI 0), .int (iI 0)]))], [(q1, .inl (G 0, 10, .inl (ai (fun _ => 0))))]]) := hD
  refine g_putF (C := RX5) (T := TX5) (N := 6) hx hcd hts (fun _ h => List.mem_cons_of_mem _ (List.mem_append_right _ h)) tyX5 tyX5_ok nmX5 hown hK hP hD hS (i := 0) (j := 0) rfl rfl rfl 0 (by decide) (by decide +kernel) rfl hin rfl rfl rfl (Nat.le_of_ble_eq_true rfl) (B1 := [(b, .inr (5, [.ref q1, .null, .null, .null, .int (iI 0), .int (iI 0)]))]) rfl (Bs1 := [[(b, .inr (5, [.ref q1, .null, .null, .null, .int (iI 0), .int (iI 0)]))], [(q1, .inl (G 0, 10, .inl (ai (fun _ => 0))))]]) rfl dX5_init_9 (fun H locs hP hD hS => ?_)
  refine lv_aload_n hx hcd dX5_init_12 rfl (lv_at hl 0 rfl) ?_
  refine wi_bipush hx hcd dX5_init_13 (by decide) ?_
  refine g_newI hx hcd hts (by decide +kernel) hK hP hD hS hA (fun _ => 0) 10 rfl (by decide) (fun _ _ => rfl) (Nat.le_of_ble_eq_true rfl) (Nat.le_of_ble_eq_true rfl) dX5_init_15 (fun q2 H hP hD hS => ?_)
  refine W.widen (k := 2) (n := 20) (Nat.le_of_ble_eq_true rfl) (Nat.le_of_ble_eq_true rfl) ?_
  have hP : va_P D vwCl (fl [[(b, .inr (5, [.ref q1, .null, .null, .null, .int (iI 0), .int (iI 0)]))], [(q1, .inl (G 0, 10, .inl (ai (fun _ => 0))))], [(q2, .inl (G 0, 10, .inl (ai (fun _ => 0))))]]) H := hP
  have hD : va_D A0 (fl [[(b, .inr (5, [.ref q1, .null, .null, .null, .int (iI 0), .int (iI 0)]))], [(q1, .inl (G 0, 10, .inl (ai (fun _ => 0))))], [(q2, .inl (G 0, 10, .inl (ai (fun _ => 0))))]]) := hD
  refine g_putF (C := RX5) (T := TX5) (N := 6) hx hcd hts (fun _ h => List.mem_cons_of_mem _ (List.mem_append_right _ h)) tyX5 tyX5_ok nmX5 hown hK hP hD hS (i := 0) (j := 0) rfl rfl rfl 1 (by decide) (by decide +kernel) rfl hin rfl rfl rfl (Nat.le_of_ble_eq_true rfl) (B1 := [(b, .inr (5, [.ref q1, .ref q2, .null, .null, .int (iI 0), .int (iI 0)]))]) rfl (Bs1 := [[(b, .inr (5, [.ref q1, .ref q2, .null, .null, .int (iI 0), .int (iI 0)]))], [(q1, .inl (G 0, 10, .inl (ai (fun _ => 0))))], [(q2, .inl (G 0, 10, .inl (ai (fun _ => 0))))]]) rfl dX5_init_17 (fun H locs hP hD hS => ?_)
  refine lv_aload_n hx hcd dX5_init_20 rfl (lv_at hl 0 rfl) ?_
  refine wi_bipush hx hcd dX5_init_21 (by decide) ?_
  refine g_newI hx hcd hts (by decide +kernel) hK hP hD hS hA (fun _ => 0) 10 rfl (by decide) (fun _ _ => rfl) (Nat.le_of_ble_eq_true rfl) (Nat.le_of_ble_eq_true rfl) dX5_init_23 (fun q3 H hP hD hS => ?_)
  refine W.widen (k := 3) (n := 30) (Nat.le_of_ble_eq_true rfl) (Nat.le_of_ble_eq_true rfl) ?_
  have hP : va_P D vwCl (fl [[(b, .inr (5, [.ref q1, .ref q2, .null, .null, .int (iI 0), .int (iI 0)]))], [(q1, .inl (G 0, 10, .inl (ai (fun _ => 0))))], [(q2, .inl (G 0, 10, .inl (ai (fun _ => 0))))], [(q3, .inl (G 0, 10, .inl (ai (fun _ => 0))))]]) H := hP
  have hD : va_D A0 (fl [[(b, .inr (5, [.ref q1, .ref q2, .null, .null, .int (iI 0), .int (iI 0)]))], [(q1, .inl (G 0, 10, .inl (ai (fun _ => 0))))], [(q2, .inl (G 0, 10, .inl (ai (fun _ => 0))))], [(q3, .inl (G 0, 10, .inl (ai (fun _ => 0))))]]) := hD
  refine g_putF (C := RX5) (T := TX5) (N := 6) hx hcd hts (fun _ h => List.mem_cons_of_mem _ (List.mem_append_right _ h)) tyX5 tyX5_ok nmX5 hown hK hP hD hS (i := 0) (j := 0) rfl rfl rfl 2 (by decide) (by decide +kernel) rfl hin rfl rfl rfl (Nat.le_of_ble_eq_true rfl) (B1 := [(b, .inr (5, [.ref q1, .ref q2, .ref q3, .null, .int (iI 0), .int (iI 0)]))]) rfl (Bs1 := [[(b, .inr (5, [.ref q1, .ref q2, .ref q3, .null, .int (iI 0), .int (iI 0)]))], [(q1, .inl (G 0, 10, .inl (ai (fun _ => 0))))], [(q2, .inl (G 0, 10, .inl (ai (fun _ => 0))))], [(q3, .inl (G 0, 10, .inl (ai (fun _ => 0))))]]) rfl dX5_init_25 (fun H locs hP hD hS => ?_)
  refine lv_aload_n hx hcd dX5_init_28 rfl (lv_at hl 0 rfl) ?_
  refine wi_bipush hx hcd dX5_init_29 (by decide) ?_
  refine g_newI hx hcd hts (by decide +kernel) hK hP hD hS hA (fun _ => 0) 12 rfl (by decide) (fun _ _ => rfl) (Nat.le_of_ble_eq_true rfl) (Nat.le_of_ble_eq_true rfl) dX5_init_31 (fun q4 H hP hD hS => ?_)
  refine W.widen (k := 4) (n := 42) (Nat.le_of_ble_eq_true rfl) (Nat.le_of_ble_eq_true rfl) ?_
  have hP : va_P D vwCl (fl [[(b, .inr (5, [.ref q1, .ref q2, .ref q3, .null, .int (iI 0), .int (iI 0)]))], [(q1, .inl (G 0, 10, .inl (ai (fun _ => 0))))], [(q2, .inl (G 0, 10, .inl (ai (fun _ => 0))))], [(q3, .inl (G 0, 10, .inl (ai (fun _ => 0))))], [(q4, .inl (G 0, 12, .inl (ai (fun _ => 0))))]]) H := hP
  have hD : va_D A0 (fl [[(b, .inr (5, [.ref q1, .ref q2, .ref q3, .null, .int (iI 0), .int (iI 0)]))], [(q1, .inl (G 0, 10, .inl (ai (fun _ => 0))))], [(q2, .inl (G 0, 10, .inl (ai (fun _ => 0))))], [(q3, .inl (G 0, 10, .inl (ai (fun _ => 0))))], [(q4, .inl (G 0, 12, .inl (ai (fun _ => 0))))]]) := hD
  refine g_putF (C := RX5) (T := TX5) (N := 6) hx hcd hts (fun _ h => List.mem_cons_of_mem _ (List.mem_append_right _ h)) tyX5 tyX5_ok nmX5 hown hK hP hD hS (i := 0) (j := 0) rfl rfl rfl 3 (by decide) (by decide +kernel) rfl hin rfl rfl rfl (Nat.le_of_ble_eq_true rfl) (B1 := [(b, .inr (5, [.ref q1, .ref q2, .ref q3, .ref q4, .int (iI 0), .int (iI 0)]))]) rfl (Bs1 := [[(b, .inr (5, [.ref q1, .ref q2, .ref q3, .ref q4, .int (iI 0), .int (iI 0)]))], [(q1, .inl (G 0, 10, .inl (ai (fun _ => 0))))], [(q2, .inl (G 0, 10, .inl (ai (fun _ => 0))))], [(q3, .inl (G 0, 10, .inl (ai (fun _ => 0))))], [(q4, .inl (G 0, 12, .inl (ai (fun _ => 0))))]]) rfl dX5_init_33 (fun H locs hP hD hS => ?_)
  refine lv_aload_n hx hcd dX5_init_36 rfl (lv_at hl 0 rfl) ?_
  refine wi_iconst hx hcd dX5_init_37 ?_
  refine g_put (C := RX5) (T := TX5) (N := 6) hx hcd hts (fun _ h => List.mem_cons_of_mem _ (List.mem_append_right _ h)) tyX5 tyX5_ok nmX5 hown hK hP hD hS (i := 0) (j := 0) rfl rfl rfl 4 (by decide) (by decide +kernel) rfl (by decide +kernel) (Nat.le_of_ble_eq_true rfl) (B1 := [(b, .inr (5, [.ref q1, .ref q2, .ref q3, .ref q4, .int (iI 0), .int (iI 0)]))]) rfl (Bs1 := [[(b, .inr (5, [.ref q1, .ref q2, .ref q3, .ref q4, .int (iI 0), .int (iI 0)]))], [(q1, .inl (G 0, 10, .inl (ai (fun _ => 0))))], [(q2, .inl (G 0, 10, .inl (ai (fun _ => 0))))], [(q3, .inl (G 0, 10, .inl (ai (fun _ => 0))))], [(q4, .inl (G 0, 12, .inl (ai (fun _ => 0))))]]) rfl dX5_init_38 (fun H locs hP hD hS => ?_)
  refine lv_aload_n hx hcd dX5_init_41 rfl (lv_at hl 0 rfl) ?_
  refine wi_iconst hx hcd dX5_init_42 ?_
  refine g_put (C := RX5) (T := TX5) (N := 6) hx hcd hts (fun _ h => List.mem_cons_of_mem _ (List.mem_append_right _ h)) tyX5 tyX5_ok nmX5 hown hK hP hD hS (i := 0) (j := 0) rfl rfl rfl 5 (by decide) (by decide +kernel) rfl (by decide +kernel) (Nat.le_of_ble_eq_true rfl) (B1 := [(b, .inr (5, [.ref q1, .ref q2, .ref q3, .ref q4, .int (iI 0), .int (iI 5)]))]) rfl (Bs1 := [[(b, .inr (5, [.ref q1, .ref q2, .ref q3, .ref q4, .int (iI 0), .int (iI 5)]))], [(q1, .inl (G 0, 10, .inl (ai (fun _ => 0))))], [(q2, .inl (G 0, 10, .inl (ai (fun _ => 0))))], [(q3, .inl (G 0, 10, .inl (ai (fun _ => 0))))], [(q4, .inl (G 0, 12, .inl (ai (fun _ => 0))))]]) rfl dX5_init_43 (fun H locs hP hD hS => ?_)
  exact fin (qfs [b, q1, q2, q3, q4]) H locs ls 46 dX5_init_46 hP hD hS rfl

abbrev rmX6_init : Room := { frames := 1, cells := 2, slots := 1219, locals := 20 }
set_option maxHeartbeats 4000000 in
set_option maxRecDepth 100000 in
theorem kX6_init (l : Launch) (D : va_G) (G : Nat → ClassId) (b : Nat) (z : Int) (N : Nat) (hz : (z = 1 ∧ N = 1200) ∨ (z = 0 ∧ N = 0)) : CtN l yX6_init wsX6_init rmX6_init D G [.ref b, .int (iI z)] [[(b, .inr (6, [.null, .null]))]] (fun u : (Nat → Nat) => u 0 = b) (fun u => [BPap G u (fun _ => 0) N (fun _ => 0)]) 2 1219 := by
  refine CtN.of (cc := cX6_init) (maxL := 2) (by decide) rfl (Nat.le_of_ble_eq_true rfl) ?_
  intro p0 e0 s0 m0 args bel met cd A0 ls Q0 hx hcd hml hown hts hK hP hD hA hN hin hl fin
  have hin : met.name = "<init>" := hin
  have hl : lv_has ls 2 [(0, .ref b), (1, .int (iI z))] := hl
  have hS : va_S A0 s0.heap s0.heap [] := va_S.rf
  obtain ⟨H, eH⟩ : ∃ H, H = s0.heap := ⟨_, rfl⟩
  obtain ⟨locs, eL⟩ : ∃ locs : List Loc, locs = [] := ⟨_, rfl⟩
  have hS : va_S A0 s0.heap H locs := by rw [eH, eL]; exact hS
  have hP : va_P D vwCl (fl [[(b, .inr (6, [.null, .null]))]]) H := by rw [eH]; exact hP
  suffices goal : W p0 l e0 rmX6_init s0 m0 args bel met cd H locs 0 0 Q0 (F0 m0 0 ls []) by rw [eH, eL] at goal; exact goal
  clear eH eL
  refine lv_aload_n hx hcd dX6_init_0 rfl (lv_at hl 0 rfl) ?_
  refine W.objInit hx hcd hown (hts (.methodLink RX6 1 objectInit) (by decide +kernel)) (hts (.instanceMethod objectInit) (by decide +kernel)) (hts (.code objectInit ⟨#[0xb1]⟩ 1 none) (by decide +kernel)) rfl (by rw [hml]; exact hl.1) rfl dX6_init_1 (Nat.le_of_ble_eq_true rfl) (Nat.le_of_ble_eq_true rfl) ?_
  refine W.eq (g2 := F0 m0 4 ls []) rfl ?_
  refine lv_aload_n hx hcd dX6_init_4 rfl (lv_at hl 0 rfl) ?_
  refine wi_bipush hx hcd dX6_init_5 (by decide) ?_
  refine g_newL hx hcd hts (by decide +kernel) hK hP hD hS hA 19 rfl (by decide) (Nat.le_of_ble_eq_true rfl) (Nat.le_of_ble_eq_true rfl) dX6_init_7 (fun q1 H hP hD hS => ?_)
  refine W.widen (k := 1) (n := 19) (Nat.le_of_ble_eq_true rfl) (Nat.le_of_ble_eq_true rfl) ?_
  have hP : va_P D vwCl (fl [[(b, .inr (6, [.null, .null]))], [(q1, .inl (G 2, 19, .inr (.inl (fun _ => 0))))]]) H := hP
  have hD : va_D A0 (fl [[(b, .inr (6, [.null, .null]))], [(q1, .inl (G 2, 19, .inr (.inl (fun _ => 0))))]]) := hD
  refine g_putF (C := RX6) (T := TX6) (N := 2) hx hcd hts (fun _ h => List.mem_cons_of_mem _ (List.mem_append_right _ h)) tyX6 tyX6_ok nmX6 hown hK hP hD hS (i := 0) (j := 0) rfl rfl rfl 0 (by decide) (by decide +kernel) rfl hin rfl rfl rfl (Nat.le_of_ble_eq_true rfl) (B1 := [(b, .inr (6, [.ref q1, .null]))]) rfl (Bs1 := [[(b, .inr (6, [.ref q1, .null]))], [(q1, .inl (G 2, 19, .inr (.inl (fun _ => 0))))]]) rfl dX6_init_9 (fun H locs hP hD hS => ?_)
  refine lv_aload_n hx hcd dX6_init_12 rfl (lv_at hl 0 rfl) ?_
  refine lv_iload_n hx hcd dX6_init_13 rfl (lv_at hl 1 rfl) ?_
  refine wi_if_eq (tgt := 23) hx hcd (by omega) dX6_init_14 (by decide) (fun c14 => ?_) (fun c14 => ?_)
  ·
    refine wi_iconst hx hcd dX6_init_23 ?_
    refine g_newI hx hcd hts (by decide +kernel) hK hP hD hS hA (fun _ => 0) 0 rfl (by decide) (fun _ _ => rfl) (Nat.le_of_ble_eq_true rfl) (Nat.le_of_ble_eq_true rfl) dX6_init_24 (fun q2 H hP hD hS => ?_)
    refine W.widen (k := 2) (n := 19) (Nat.le_of_ble_eq_true rfl) (Nat.le_of_ble_eq_true rfl) ?_
    have hP : va_P D vwCl (fl [[(b, .inr (6, [.ref q1, .null]))], [(q1, .inl (G 2, 19, .inr (.inl (fun _ => 0))))], [(q2, .inl (G 0, 0, .inl (ai (fun _ => 0))))]]) H := hP
    have hD : va_D A0 (fl [[(b, .inr (6, [.ref q1, .null]))], [(q1, .inl (G 2, 19, .inr (.inl (fun _ => 0))))], [(q2, .inl (G 0, 0, .inl (ai (fun _ => 0))))]]) := hD
    refine g_putF (C := RX6) (T := TX6) (N := 2) hx hcd hts (fun _ h => List.mem_cons_of_mem _ (List.mem_append_right _ h)) tyX6 tyX6_ok nmX6 hown hK hP hD hS (i := 0) (j := 0) rfl rfl rfl 1 (by decide) (by decide +kernel) rfl hin rfl rfl rfl (Nat.le_of_ble_eq_true rfl) (B1 := [(b, .inr (6, [.ref q1, .ref q2]))]) rfl (Bs1 := [[(b, .inr (6, [.ref q1, .ref q2]))], [(q1, .inl (G 2, 19, .inr (.inl (fun _ => 0))))], [(q2, .inl (G 0, 0, .inl (ai (fun _ => 0))))]]) rfl dX6_init_26 (fun H locs hP hD hS => ?_)
    obtain rfl : N = 0 := by omega
    refine W.widen (k := 2) (n := 1219) (by decide) (by decide) ?_
    exact fin (qfs [b, q1, q2]) H locs ls 29 dX6_init_29 hP hD hS rfl
  ·
    refine wi_sipush hx hcd dX6_init_17 (by decide) ?_
    refine lv_goto (tgt := 24) hx hcd dX6_init_20 (by decide) ?_
    refine g_newI hx hcd hts (by decide +kernel) hK hP hD hS hA (fun _ => 0) 1200 rfl (by decide) (fun _ _ => rfl) (Nat.le_of_ble_eq_true rfl) (Nat.le_of_ble_eq_true rfl) dX6_init_24 (fun q3 H hP hD hS => ?_)
    refine W.widen (k := 2) (n := 1219) (Nat.le_of_ble_eq_true rfl) (Nat.le_of_ble_eq_true rfl) ?_
    have hP : va_P D vwCl (fl [[(b, .inr (6, [.ref q1, .null]))], [(q1, .inl (G 2, 19, .inr (.inl (fun _ => 0))))], [(q3, .inl (G 0, 1200, .inl (ai (fun _ => 0))))]]) H := hP
    have hD : va_D A0 (fl [[(b, .inr (6, [.ref q1, .null]))], [(q1, .inl (G 2, 19, .inr (.inl (fun _ => 0))))], [(q3, .inl (G 0, 1200, .inl (ai (fun _ => 0))))]]) := hD
    refine g_putF (C := RX6) (T := TX6) (N := 2) hx hcd hts (fun _ h => List.mem_cons_of_mem _ (List.mem_append_right _ h)) tyX6 tyX6_ok nmX6 hown hK hP hD hS (i := 0) (j := 0) rfl rfl rfl 1 (by decide) (by decide +kernel) rfl hin rfl rfl rfl (Nat.le_of_ble_eq_true rfl) (B1 := [(b, .inr (6, [.ref q1, .ref q3]))]) rfl (Bs1 := [[(b, .inr (6, [.ref q1, .ref q3]))], [(q1, .inl (G 2, 19, .inr (.inl (fun _ => 0))))], [(q3, .inl (G 0, 1200, .inl (ai (fun _ => 0))))]]) rfl dX6_init_26 (fun H locs hP hD hS => ?_)
    obtain rfl : N = 1200 := by omega
    refine W.widen (k := 2) (n := 1219) (by decide) (by decide) ?_
    exact fin (qfs [b, q1, q3]) H locs ls 29 dX6_init_29 hP hD hS rfl

abbrev rmX0_init : Room := { frames := 1, cells := 15, slots := 232, locals := 20 }
set_option maxHeartbeats 4000000 in
set_option maxRecDepth 100000 in
theorem kX0_init (l : Launch) (D : va_G) (G : Nat → ClassId) (b : Nat) : CtN l yX0_init wsX0_init rmX0_init D G [.ref b] [[(b, .inr (0, [.null, .null, .null, .int (iI 0)]))]] (fun u : (Nat → Nat) => u 0 = b) (fun u => [BCams G u 8 (fun _ => 0) (fun _ _ => 0) (fun _ => 0)]) 15 232 := by
  refine CtN.of (cc := cX0_init) (maxL := 1) (by decide) rfl (Nat.le_of_ble_eq_true rfl) ?_
  intro p0 e0 s0 m0 args bel met cd A0 ls Q0 hx hcd hml hown hts hK hP hD hA hN hin hl fin
  have hin : met.name = "<init>" := hin
  have hl : lv_has ls 1 [(0, .ref b)] := hl
  have hS : va_S A0 s0.heap s0.heap [] := va_S.rf
  obtain ⟨H, eH⟩ : ∃ H, H = s0.heap := ⟨_, rfl⟩
  obtain ⟨locs, eL⟩ : ∃ locs : List Loc, locs = [] := ⟨_, rfl⟩
  have hS : va_S A0 s0.heap H locs := by rw [eH, eL]; exact hS
  have hP : va_P D vwCl (fl [[(b, .inr (0, [.null, .null, .null, .int (iI 0)]))]]) H := by rw [eH]; exact hP
  suffices goal : W p0 l e0 rmX0_init s0 m0 args bel met cd H locs 0 0 Q0 (F0 m0 0 ls []) by rw [eH, eL] at goal; exact goal
  clear eH eL
  refine lv_aload_n hx hcd dX0_init_0 rfl (lv_at hl 0 rfl) ?_
  refine W.objInit hx hcd hown (hts (.methodLink RX0 3 objectInit) (by decide +kernel)) (hts (.instanceMethod objectInit) (by decide +kernel)) (hts (.code objectInit ⟨#[0xb1]⟩ 1 none) (by decide +kernel)) rfl (by rw [hml]; exact hl.1) rfl dX0_init_1 (Nat.le_of_ble_eq_true rfl) (Nat.le_of_ble_eq_true rfl) ?_
  refine W.eq (g2 := F0 m0 4 ls []) rfl ?_
  refine lv_aload_n hx hcd dX0_init_4 rfl (lv_at hl 0 rfl) ?_
  refine wi_bipush hx hcd dX0_init_5 (by decide) ?_
  refine wi_bipush hx hcd dX0_init_7 (by decide) ?_
  refine g_mna hx hcd hts hown (by decide +kernel) (by decide +kernel) hN hK hP hD hS hA 12 16 rfl rfl (by decide) (by decide) (Nat.le_of_ble_eq_true rfl) (Nat.le_of_ble_eq_true rfl) dX0_init_9 (fun q1 r2 H hP hD hS => ?_)
  refine W.widen (k := 13) (n := 204) (Nat.le_of_ble_eq_true rfl) (Nat.le_of_ble_eq_true rfl) ?_
  have hP : va_P D vwCl (fl [[(b, .inr (0, [.null, .null, .null, .int (iI 0)]))], mnB G q1 r2 12 16]) H := hP
  have hD : va_D A0 (fl [[(b, .inr (0, [.null, .null, .null, .int (iI 0)]))], mnB G q1 r2 12 16]) := hD
  refine g_putF (C := RX0) (T := TX0) (N := 4) hx hcd hts (fun _ h => List.mem_cons_of_mem _ (List.mem_append_right _ h)) tyX0 tyX0_ok nmX0 hown hK hP hD hS (i := 0) (j := 0) rfl rfl rfl 0 (by decide) (by decide +kernel) rfl hin rfl rfl rfl (Nat.le_of_ble_eq_true rfl) (B1 := [(b, .inr (0, [.ref q1, .null, .null, .int (iI 0)]))]) rfl (Bs1 := [[(b, .inr (0, [.ref q1, .null, .null, .int (iI 0)]))], mnB G q1 r2 12 16]) rfl dX0_init_13 (fun H locs hP hD hS => ?_)
  refine lv_aload_n hx hcd dX0_init_16 rfl (lv_at hl 0 rfl) ?_
  refine wi_bipush hx hcd dX0_init_17 (by decide) ?_
  refine g_newZ hx hcd hts (by decide +kernel) hK hP hD hS hA (fun _ => 0) 12 rfl (by decide) (fun _ _ => rfl) (Nat.le_of_ble_eq_true rfl) (Nat.le_of_ble_eq_true rfl) dX0_init_19 (fun q3 H hP hD hS => ?_)
  refine W.widen (k := 14) (n := 216) (Nat.le_of_ble_eq_true rfl) (Nat.le_of_ble_eq_true rfl) ?_
  have hP : va_P D vwCl (fl [[(b, .inr (0, [.ref q1, .null, .null, .int (iI 0)]))], mnB G q1 r2 12 16, [(q3, .inl (G 1, 12, .inl (ai (fun _ => 0))))]]) H := hP
  have hD : va_D A0 (fl [[(b, .inr (0, [.ref q1, .null, .null, .int (iI 0)]))], mnB G q1 r2 12 16, [(q3, .inl (G 1, 12, .inl (ai (fun _ => 0))))]]) := hD
  refine g_putF (C := RX0) (T := TX0) (N := 4) hx hcd hts (fun _ h => List.mem_cons_of_mem _ (List.mem_append_right _ h)) tyX0 tyX0_ok nmX0 hown hK hP hD hS (i := 0) (j := 0) rfl rfl rfl 1 (by decide) (by decide +kernel) rfl hin rfl rfl rfl (Nat.le_of_ble_eq_true rfl) (B1 := [(b, .inr (0, [.ref q1, .ref q3, .null, .int (iI 0)]))]) rfl (Bs1 := [[(b, .inr (0, [.ref q1, .ref q3, .null, .int (iI 0)]))], mnB G q1 r2 12 16, [(q3, .inl (G 1, 12, .inl (ai (fun _ => 0))))]]) rfl dX0_init_21 (fun H locs hP hD hS => ?_)
  refine lv_aload_n hx hcd dX0_init_24 rfl (lv_at hl 0 rfl) ?_
  refine wi_bipush hx hcd dX0_init_25 (by decide) ?_
  refine g_newI hx hcd hts (by decide +kernel) hK hP hD hS hA (fun _ => 0) 16 rfl (by decide) (fun _ _ => rfl) (Nat.le_of_ble_eq_true rfl) (Nat.le_of_ble_eq_true rfl) dX0_init_27 (fun q4 H hP hD hS => ?_)
  refine W.widen (k := 15) (n := 232) (Nat.le_of_ble_eq_true rfl) (Nat.le_of_ble_eq_true rfl) ?_
  have hP : va_P D vwCl (fl [[(b, .inr (0, [.ref q1, .ref q3, .null, .int (iI 0)]))], mnB G q1 r2 12 16, [(q3, .inl (G 1, 12, .inl (ai (fun _ => 0))))], [(q4, .inl (G 0, 16, .inl (ai (fun _ => 0))))]]) H := hP
  have hD : va_D A0 (fl [[(b, .inr (0, [.ref q1, .ref q3, .null, .int (iI 0)]))], mnB G q1 r2 12 16, [(q3, .inl (G 1, 12, .inl (ai (fun _ => 0))))], [(q4, .inl (G 0, 16, .inl (ai (fun _ => 0))))]]) := hD
  refine g_putF (C := RX0) (T := TX0) (N := 4) hx hcd hts (fun _ h => List.mem_cons_of_mem _ (List.mem_append_right _ h)) tyX0 tyX0_ok nmX0 hown hK hP hD hS (i := 0) (j := 0) rfl rfl rfl 2 (by decide) (by decide +kernel) rfl hin rfl rfl rfl (Nat.le_of_ble_eq_true rfl) (B1 := [(b, .inr (0, [.ref q1, .ref q3, .ref q4, .int (iI 0)]))]) rfl (Bs1 := [[(b, .inr (0, [.ref q1, .ref q3, .ref q4, .int (iI 0)]))], mnB G q1 r2 12 16, [(q3, .inl (G 1, 12, .inl (ai (fun _ => 0))))], [(q4, .inl (G 0, 16, .inl (ai (fun _ => 0))))]]) rfl dX0_init_29 (fun H locs hP hD hS => ?_)
  refine lv_aload_n hx hcd dX0_init_32 rfl (lv_at hl 0 rfl) ?_
  refine wi_bipush hx hcd dX0_init_33 (by decide) ?_
  refine g_put (C := RX0) (T := TX0) (N := 4) hx hcd hts (fun _ h => List.mem_cons_of_mem _ (List.mem_append_right _ h)) tyX0 tyX0_ok nmX0 hown hK hP hD hS (i := 0) (j := 0) rfl rfl rfl 3 (by decide) (by decide +kernel) rfl (by decide +kernel) (Nat.le_of_ble_eq_true rfl) (B1 := [(b, .inr (0, [.ref q1, .ref q3, .ref q4, .int (iI 8)]))]) rfl (Bs1 := [[(b, .inr (0, [.ref q1, .ref q3, .ref q4, .int (iI 8)]))], mnB G q1 r2 12 16, [(q3, .inl (G 1, 12, .inl (ai (fun _ => 0))))], [(q4, .inl (G 0, 16, .inl (ai (fun _ => 0))))]]) rfl dX0_init_35 (fun H locs hP hD hS => ?_)
  rw [mn_eq (u := (qof [b, q1, q3, q4] r2)) (qof_r _ _)] at hP hD
  exact fin (qof [b, q1, q3, q4] r2) H locs ls 38 dX0_init_38 (P_perm asm_II hP) (D_perm asm_II hD) hS rfl

abbrev rmX4_init : Room := { frames := 1, cells := 7, slots := 58, locals := 20 }
set_option maxHeartbeats 4000000 in
set_option maxRecDepth 100000 in
theorem kX4_init (l : Launch) (D : va_G) (G : Nat → ClassId) (b : Nat) : CtN l yX4_init wsX4_init rmX4_init D G [.ref b] [[(b, .inr (4, [.null, .null, .null]))]] (fun u : (Nat → Nat) => u 0 = b) (fun u => [BMak G u (fun _ _ => 0) (fun _ => 0) (fun _ => 0)]) 7 58 := by
  refine CtN.of (cc := cX4_init) (maxL := 1) (by decide) rfl (Nat.le_of_ble_eq_true rfl) ?_
  intro p0 e0 s0 m0 args bel met cd A0 ls Q0 hx hcd hml hown hts hK hP hD hA hN hin hl fin
  have hin : met.name = "<init>" := hin
  have hl : lv_has ls 1 [(0, .ref b)] := hl
  have hS : va_S A0 s0.heap s0.heap [] := va_S.rf
  obtain ⟨H, eH⟩ : ∃ H, H = s0.heap := ⟨_, rfl⟩
  obtain ⟨locs, eL⟩ : ∃ locs : List Loc, locs = [] := ⟨_, rfl⟩
  have hS : va_S A0 s0.heap H locs := by rw [eH, eL]; exact hS
  have hP : va_P D vwCl (fl [[(b, .inr (4, [.null, .null, .null]))]]) H := by rw [eH]; exact hP
  suffices goal : W p0 l e0 rmX4_init s0 m0 args bel met cd H locs 0 0 Q0 (F0 m0 0 ls []) by rw [eH, eL] at goal; exact goal
  clear eH eL
  refine lv_aload_n hx hcd dX4_init_0 rfl (lv_at hl 0 rfl) ?_
  refine W.objInit hx hcd hown (hts (.methodLink RX4 3 objectInit) (by decide +kernel)) (hts (.instanceMethod objectInit) (by decide +kernel)) (hts (.code objectInit ⟨#[0xb1]⟩ 1 none) (by decide +kernel)) rfl (by rw [hml]; exact hl.1) rfl dX4_init_1 (Nat.le_of_ble_eq_true rfl) (Nat.le_of_ble_eq_true rfl) ?_
  refine W.eq (g2 := F0 m0 4 ls []) rfl ?_
  refine lv_aload_n hx hcd dX4_init_4 rfl (lv_at hl 0 rfl) ?_
  refine wi_iconst hx hcd dX4_init_5 ?_
  refine wi_bipush hx hcd dX4_init_6 (by decide) ?_
  refine g_mna hx hcd hts hown (by decide +kernel) (by decide +kernel) hN hK hP hD hS hA 4 10 rfl rfl (by decide) (by decide) (Nat.le_of_ble_eq_true rfl) (Nat.le_of_ble_eq_true rfl) dX4_init_8 (fun q1 r2 H hP hD hS => ?_)
  refine W.widen (k := 5) (n := 44) (Nat.le_of_ble_eq_true rfl) (Nat.le_of_ble_eq_true rfl) ?_
  have hP : va_P D vwCl (fl [[(b, .inr (4, [.null, .null, .null]))], mnB G q1 r2 4 10]) H := hP
  have hD : va_D A0 (fl [[(b, .inr (4, [.null, .null, .null]))], mnB G q1 r2 4 10]) := hD
  refine g_putF (C := RX4) (T := TX4) (N := 3) hx hcd hts (fun _ h => List.mem_cons_of_mem _ (List.mem_append_right _ h)) tyX4 tyX4_ok nmX4 hown hK hP hD hS (i := 0) (j := 0) rfl rfl rfl 0 (by decide) (by decide +kernel) rfl hin rfl rfl rfl (Nat.le_of_ble_eq_true rfl) (B1 := [(b, .inr (4, [.ref q1, .null, .null]))]) rfl (Bs1 := [[(b, .inr (4, [.ref q1, .null, .null]))], mnB G q1 r2 4 10]) rfl dX4_init_12 (fun H locs hP hD hS => ?_)
  refine lv_aload_n hx hcd dX4_init_15 rfl (lv_at hl 0 rfl) ?_
  refine wi_iconst hx hcd dX4_init_16 ?_
  refine g_newI hx hcd hts (by decide +kernel) hK hP hD hS hA (fun _ => 0) 4 rfl (by decide) (fun _ _ => rfl) (Nat.le_of_ble_eq_true rfl) (Nat.le_of_ble_eq_true rfl) dX4_init_17 (fun q3 H hP hD hS => ?_)
  refine W.widen (k := 6) (n := 48) (Nat.le_of_ble_eq_true rfl) (Nat.le_of_ble_eq_true rfl) ?_
  have hP : va_P D vwCl (fl [[(b, .inr (4, [.ref q1, .null, .null]))], mnB G q1 r2 4 10, [(q3, .inl (G 0, 4, .inl (ai (fun _ => 0))))]]) H := hP
  have hD : va_D A0 (fl [[(b, .inr (4, [.ref q1, .null, .null]))], mnB G q1 r2 4 10, [(q3, .inl (G 0, 4, .inl (ai (fun _ => 0))))]]) := hD
  refine g_putF (C := RX4) (T := TX4) (N := 3) hx hcd hts (fun _ h => List.mem_cons_of_mem _ (List.mem_append_right _ h)) tyX4 tyX4_ok nmX4 hown hK hP hD hS (i := 0) (j := 0) rfl rfl rfl 1 (by decide) (by decide +kernel) rfl hin rfl rfl rfl (Nat.le_of_ble_eq_true rfl) (B1 := [(b, .inr (4, [.ref q1, .ref q3, .null]))]) rfl (Bs1 := [[(b, .inr (4, [.ref q1, .ref q3, .null]))], mnB G q1 r2 4 10, [(q3, .inl (G 0, 4, .inl (ai (fun _ => 0))))]]) rfl dX4_init_19 (fun H locs hP hD hS => ?_)
  refine lv_aload_n hx hcd dX4_init_22 rfl (lv_at hl 0 rfl) ?_
  refine wi_bipush hx hcd dX4_init_23 (by decide) ?_
  refine g_newI hx hcd hts (by decide +kernel) hK hP hD hS hA (fun _ => 0) 10 rfl (by decide) (fun _ _ => rfl) (Nat.le_of_ble_eq_true rfl) (Nat.le_of_ble_eq_true rfl) dX4_init_25 (fun q4 H hP hD hS => ?_)
  refine W.widen (k := 7) (n := 58) (Nat.le_of_ble_eq_true rfl) (Nat.le_of_ble_eq_true rfl) ?_
  have hP : va_P D vwCl (fl [[(b, .inr (4, [.ref q1, .ref q3, .null]))], mnB G q1 r2 4 10, [(q3, .inl (G 0, 4, .inl (ai (fun _ => 0))))], [(q4, .inl (G 0, 10, .inl (ai (fun _ => 0))))]]) H := hP
  have hD : va_D A0 (fl [[(b, .inr (4, [.ref q1, .ref q3, .null]))], mnB G q1 r2 4 10, [(q3, .inl (G 0, 4, .inl (ai (fun _ => 0))))], [(q4, .inl (G 0, 10, .inl (ai (fun _ => 0))))]]) := hD
  refine g_putF (C := RX4) (T := TX4) (N := 3) hx hcd hts (fun _ h => List.mem_cons_of_mem _ (List.mem_append_right _ h)) tyX4 tyX4_ok nmX4 hown hK hP hD hS (i := 0) (j := 0) rfl rfl rfl 2 (by decide) (by decide +kernel) rfl hin rfl rfl rfl (Nat.le_of_ble_eq_true rfl) (B1 := [(b, .inr (4, [.ref q1, .ref q3, .ref q4]))]) rfl (Bs1 := [[(b, .inr (4, [.ref q1, .ref q3, .ref q4]))], mnB G q1 r2 4 10, [(q3, .inl (G 0, 4, .inl (ai (fun _ => 0))))], [(q4, .inl (G 0, 10, .inl (ai (fun _ => 0))))]]) rfl dX4_init_27 (fun H locs hP hD hS => ?_)
  rw [mn_eq (u := (qof [b, q1, q3, q4] r2)) (qof_r _ _)] at hP hD
  exact fin (qof [b, q1, q3, q4] r2) H locs ls 30 dX4_init_30 (P_perm asm_II hP) (D_perm asm_II hD) hS rfl

abbrev rmX2_init : Room := { frames := 2, cells := 4, slots := 1224, locals := 41 }
set_option maxHeartbeats 4000000 in
set_option maxRecDepth 100000 in
theorem kX2_init (l : Launch) (D : va_G) (G : Nat → ClassId) (b : Nat) (h : Nat) (c : Nat) (m : Nat) : CtN l yX2_init wsX2_init rmX2_init D G [.ref b, .ref h, .ref c, .ref m] [[(b, .inr (2, [.null, .null, .null, .null, .null, .int (iI 0), .int (iI 0)]))]] (fun u : Nat × (Nat → Nat) => True) (fun u => [BGue b h c m u.1 (u.2 0) (-9) (-9), BFlt u.1 (-1) (-1) (-1), BPap G u.2 (fun _ => 0) 0 (fun _ => 0)]) 4 1224 := by
  refine CtN.of (cc := cX2_init) (maxL := 4) (by decide) rfl (Nat.le_of_ble_eq_true rfl) ?_
  intro p0 e0 s0 m0 args bel met cd A0 ls Q0 hx hcd hml hown hts hK hP hD hA hN hin hl fin
  have hin : met.name = "<init>" := hin
  have hl : lv_has ls 4 [(0, .ref b), (1, .ref h), (2, .ref c), (3, .ref m)] := hl
  have hS : va_S A0 s0.heap s0.heap [] := va_S.rf
  obtain ⟨H, eH⟩ : ∃ H, H = s0.heap := ⟨_, rfl⟩
  obtain ⟨locs, eL⟩ : ∃ locs : List Loc, locs = [] := ⟨_, rfl⟩
  have hS : va_S A0 s0.heap H locs := by rw [eH, eL]; exact hS
  have hP : va_P D vwCl (fl [[(b, .inr (2, [.null, .null, .null, .null, .null, .int (iI 0), .int (iI 0)]))]]) H := by rw [eH]; exact hP
  suffices goal : W p0 l e0 rmX2_init s0 m0 args bel met cd H locs 0 0 Q0 (F0 m0 0 ls []) by rw [eH, eL] at goal; exact goal
  clear eH eL
  refine lv_aload_n hx hcd dX2_init_0 rfl (lv_at hl 0 rfl) ?_
  refine W.objInit hx hcd hown (hts (.methodLink RX2 3 objectInit) (by decide +kernel)) (hts (.instanceMethod objectInit) (by decide +kernel)) (hts (.code objectInit ⟨#[0xb1]⟩ 1 none) (by decide +kernel)) rfl (by rw [hml]; exact hl.1) rfl dX2_init_1 (Nat.le_of_ble_eq_true rfl) (Nat.le_of_ble_eq_true rfl) ?_
  refine W.eq (g2 := F0 m0 4 ls []) rfl ?_
  refine lv_aload_n hx hcd dX2_init_4 rfl (lv_at hl 0 rfl) ?_
  refine g_new (ci := 1) (fs := [.int (iI 0), .int (iI 0), .int (iI 0)]) (C := RX1) (T := TX1) (N := 3) hx hcd hts (fun _ h => List.mem_cons_of_mem _ (List.mem_append_left _ (List.mem_append_left _ (List.mem_append_right _ h)))) tyX1 tyX1_ok hown (by decide +kernel) (by decide +kernel) (by decide +kernel) hK hP hD hS hA rfl (fun j hj => by rcases (show j = 0 ∨ j = 1 ∨ j = 2 by omega) with rfl | rfl | rfl <;> rfl) (Nat.le_of_ble_eq_true rfl) (Nat.le_of_ble_eq_true rfl) dX2_init_5 (fun q1 H hP hD hS => ?_)
  refine W.widen (k := 1) (n := 3) (Nat.le_of_ble_eq_true rfl) (Nat.le_of_ble_eq_true rfl) ?_
  have hP : va_P D vwCl (fl [[(b, .inr (2, [.null, .null, .null, .null, .null, .int (iI 0), .int (iI 0)]))], [(q1, .inr (1, [.int (iI 0), .int (iI 0), .int (iI 0)]))]]) H := hP
  have hD : va_D A0 (fl [[(b, .inr (2, [.null, .null, .null, .null, .null, .int (iI 0), .int (iI 0)]))], [(q1, .inr (1, [.int (iI 0), .int (iI 0), .int (iI 0)]))]]) := hD
  refine lv_dup hx hcd dX2_init_8 rfl ?_
  refine cI_nn (wc := [[(q1, .inr (1, [.int (iI 0), .int (iI 0), .int (iI 0)]))]]) (wr := [[(b, .inr (2, [.null, .null, .null, .null, .null, .int (iI 0), .int (iI 0)]))]]) (w1 := fun (_ : Unit) => [BFlt q1 (-1) (-1) (-1)]) (Bs2 := fun (_ : Unit) => [BFlt q1 (-1) (-1) (-1), [(b, .inr (2, [.null, .null, .null, .null, .null, .int (iI 0), .int (iI 0)]))]]) (As := []) (rest := [.ref q1, .ref b]) (kX1_init l D G q1 ) rfl ⟨hx, hcd, hml, hown, hts⟩ ⟨va_cnB 0 hts gX2_init_X1_init_n11 rfl rfl rfl hN.2.2.2.2.2.2 (hts (.initialized RX1) (by decide +kernel)) (by decide +kernel) ⟨Nat.le_of_ble_eq_true rfl, Nat.le_of_ble_eq_true rfl⟩, rfl, hts (.instanceMethod yX1_init) (by decide +kernel)⟩ rfl hl.1 (Nat.le_of_ble_eq_true rfl) ⟨Nat.le_of_ble_eq_true rfl, Nat.le_of_ble_eq_true rfl⟩ dX2_init_9 hN hK hP hD hS hA (perm_idx [1, 0] rfl rfl) (fun _ => List.Perm.refl _) (fun u H locs hw hP9 hD9 hS => ?_)
  refine W.widen (k := 1) (n := 3) (Nat.le_of_ble_eq_true rfl) (Nat.le_of_ble_eq_true rfl) ?_
  have hP : va_P D vwCl (fl [BFlt q1 (-1) (-1) (-1), [(b, .inr (2, [.null, .null, .null, .null, .null, .int (iI 0), .int (iI 0)]))]]) H := hP9
  have hD : va_D A0 (fl [BFlt q1 (-1) (-1) (-1), [(b, .inr (2, [.null, .null, .null, .null, .null, .int (iI 0), .int (iI 0)]))]]) := hD9
  clear hP9 hD9
  refine g_putF (C := RX2) (T := TX2) (N := 7) hx hcd hts (fun _ h => List.mem_cons_of_mem _ (List.mem_append_left _ (List.mem_append_right _ h))) tyX2 tyX2_ok nmX2 hown hK hP hD hS (i := 1) (j := 0) rfl rfl rfl 3 (by decide) (by decide +kernel) rfl hin rfl rfl rfl (Nat.le_of_ble_eq_true rfl) (B1 := [(b, .inr (2, [.null, .null, .null, .ref q1, .null, .int (iI 0), .int (iI 0)]))]) rfl (Bs1 := [BFlt q1 (-1) (-1) (-1), [(b, .inr (2, [.null, .null, .null, .ref q1, .null, .int (iI 0), .int (iI 0)]))]]) rfl dX2_init_12 (fun H locs hP hD hS => ?_)
  refine lv_aload_n hx hcd dX2_init_15 rfl (lv_at hl 0 rfl) ?_
  refine g_new (ci := 6) (fs := [.null, .null]) (C := RX6) (T := TX6) (N := 2) hx hcd hts (fun _ h => List.mem_cons_of_mem _ (List.mem_append_right _ h)) tyX6 tyX6_ok hown (by decide +kernel) (by decide +kernel) (by decide +kernel) hK hP hD hS hA rfl (fun j hj => by rcases (show j = 0 ∨ j = 1 by omega) with rfl | rfl <;> rfl) (Nat.le_of_ble_eq_true rfl) (Nat.le_of_ble_eq_true rfl) dX2_init_16 (fun q2 H hP hD hS => ?_)
  refine W.widen (k := 2) (n := 5) (Nat.le_of_ble_eq_true rfl) (Nat.le_of_ble_eq_true rfl) ?_
  have hP : va_P D vwCl (fl [BFlt q1 (-1) (-1) (-1), [(b, .inr (2, [.null, .null, .null, .ref q1, .null, .int (iI 0), .int (iI 0)]))], [(q2, .inr (6, [.null, .null]))]]) H := hP
  have hD : va_D A0 (fl [BFlt q1 (-1) (-1) (-1), [(b, .inr (2, [.null, .null, .null, .ref q1, .null, .int (iI 0), .int (iI 0)]))], [(q2, .inr (6, [.null, .null]))]]) := hD
  refine lv_dup hx hcd dX2_init_19 rfl ?_
  refine wi_iconst hx hcd dX2_init_20 ?_
  refine cI_n (wc := [[(q2, .inr (6, [.null, .null]))]]) (wr := [BFlt q1 (-1) (-1) (-1), [(b, .inr (2, [.null, .null, .null, .ref q1, .null, .int (iI 0), .int (iI 0)]))]]) (w1 := fun (u : (Nat → Nat)) => [BPap G u (fun _ => 0) 0 (fun _ => 0)]) (Bs2 := fun (u : (Nat → Nat)) => [BPap G u (fun _ => 0) 0 (fun _ => 0), BFlt q1 (-1) (-1) (-1), [(b, .inr (2, [.null, .null, .null, .ref q1, .null, .int (iI 0), .int (iI 0)]))]]) (As := [.int (iI 0)]) (rest := [.ref q2, .ref b]) (kX6_init l D G q2 0 0 (by decide)) rfl ⟨hx, hcd, hml, hown, hts⟩ (cwI 1 hts gX2_init_X6_init rfl rfl rfl (hts (.initialized RX6) (by decide +kernel)) (hts (.methodLink RX2 20 yX6_init) (by decide +kernel)) (hts (.instanceMethod yX6_init) (by decide +kernel)) rfl (by decide +kernel) ⟨Nat.le_of_ble_eq_true rfl, Nat.le_of_ble_eq_true rfl⟩) rfl hl.1 (Nat.le_of_ble_eq_true rfl) ⟨Nat.le_of_ble_eq_true rfl, Nat.le_of_ble_eq_true rfl⟩ dX2_init_21 hN hK hP hD hS hA (perm_idx [2, 0, 1] rfl rfl) (fun _ => List.Perm.refl _) (fun u H locs hw hP9 hD9 hS => ?_)
  refine W.widen (k := 4) (n := 1224) (Nat.le_of_ble_eq_true rfl) (Nat.le_of_ble_eq_true rfl) ?_
  obtain ⟨q3, rfl⟩ : ∃ z, z = u := ⟨_, rfl⟩
  have hw : q3 0 = q2 := hw
  subst hw
  have hP : va_P D vwCl (fl [BPap G q3 (fun _ => 0) 0 (fun _ => 0), BFlt q1 (-1) (-1) (-1), [(b, .inr (2, [.null, .null, .null, .ref q1, .null, .int (iI 0), .int (iI 0)]))]]) H := hP9
  have hD : va_D A0 (fl [BPap G q3 (fun _ => 0) 0 (fun _ => 0), BFlt q1 (-1) (-1) (-1), [(b, .inr (2, [.null, .null, .null, .ref q1, .null, .int (iI 0), .int (iI 0)]))]]) := hD9
  clear hP9 hD9
  refine g_putF (C := RX2) (T := TX2) (N := 7) hx hcd hts (fun _ h => List.mem_cons_of_mem _ (List.mem_append_left _ (List.mem_append_right _ h))) tyX2 tyX2_ok nmX2 hown hK hP hD hS (i := 2) (j := 0) rfl rfl rfl 4 (by decide) (by decide +kernel) rfl hin rfl rfl rfl (Nat.le_of_ble_eq_true rfl) (B1 := [(b, .inr (2, [.null, .null, .null, .ref q1, .ref (q3 0), .int (iI 0), .int (iI 0)]))]) rfl (Bs1 := [BPap G q3 (fun _ => 0) 0 (fun _ => 0), BFlt q1 (-1) (-1) (-1), [(b, .inr (2, [.null, .null, .null, .ref q1, .ref (q3 0), .int (iI 0), .int (iI 0)]))]]) rfl dX2_init_24 (fun H locs hP hD hS => ?_)
  refine lv_aload_n hx hcd dX2_init_27 rfl (lv_at hl 0 rfl) ?_
  refine wi_bipush hx hcd dX2_init_28 (by decide) ?_
  refine g_put (C := RX2) (T := TX2) (N := 7) hx hcd hts (fun _ h => List.mem_cons_of_mem _ (List.mem_append_left _ (List.mem_append_right _ h))) tyX2 tyX2_ok nmX2 hown hK hP hD hS (i := 2) (j := 0) rfl rfl rfl 5 (by decide) (by decide +kernel) rfl (by decide +kernel) (Nat.le_of_ble_eq_true rfl) (B1 := [(b, .inr (2, [.null, .null, .null, .ref q1, .ref (q3 0), .int (iI (-9)), .int (iI 0)]))]) rfl (Bs1 := [BPap G q3 (fun _ => 0) 0 (fun _ => 0), BFlt q1 (-1) (-1) (-1), [(b, .inr (2, [.null, .null, .null, .ref q1, .ref (q3 0), .int (iI (-9)), .int (iI 0)]))]]) rfl dX2_init_30 (fun H locs hP hD hS => ?_)
  refine lv_aload_n hx hcd dX2_init_33 rfl (lv_at hl 0 rfl) ?_
  refine wi_bipush hx hcd dX2_init_34 (by decide) ?_
  refine g_put (C := RX2) (T := TX2) (N := 7) hx hcd hts (fun _ h => List.mem_cons_of_mem _ (List.mem_append_left _ (List.mem_append_right _ h))) tyX2 tyX2_ok nmX2 hown hK hP hD hS (i := 2) (j := 0) rfl rfl rfl 6 (by decide) (by decide +kernel) rfl (by decide +kernel) (Nat.le_of_ble_eq_true rfl) (B1 := [(b, .inr (2, [.null, .null, .null, .ref q1, .ref (q3 0), .int (iI (-9)), .int (iI (-9))]))]) rfl (Bs1 := [BPap G q3 (fun _ => 0) 0 (fun _ => 0), BFlt q1 (-1) (-1) (-1), [(b, .inr (2, [.null, .null, .null, .ref q1, .ref (q3 0), .int (iI (-9)), .int (iI (-9))]))]]) rfl dX2_init_36 (fun H locs hP hD hS => ?_)
  refine lv_aload_n hx hcd dX2_init_39 rfl (lv_at hl 0 rfl) ?_
  refine lv_aload_n hx hcd dX2_init_40 rfl (lv_at hl 1 rfl) ?_
  refine g_putF (C := RX2) (T := TX2) (N := 7) hx hcd hts (fun _ h => List.mem_cons_of_mem _ (List.mem_append_left _ (List.mem_append_right _ h))) tyX2 tyX2_ok nmX2 hown hK hP hD hS (i := 2) (j := 0) rfl rfl rfl 0 (by decide) (by decide +kernel) rfl hin rfl rfl rfl (Nat.le_of_ble_eq_true rfl) (B1 := [(b, .inr (2, [.ref h, .null, .null, .ref q1, .ref (q3 0), .int (iI (-9)), .int (iI (-9))]))]) rfl (Bs1 := [BPap G q3 (fun _ => 0) 0 (fun _ => 0), BFlt q1 (-1) (-1) (-1), [(b, .inr (2, [.ref h, .null, .null, .ref q1, .ref (q3 0), .int (iI (-9)), .int (iI (-9))]))]]) rfl dX2_init_41 (fun H locs hP hD hS => ?_)
  refine lv_aload_n hx hcd dX2_init_44 rfl (lv_at hl 0 rfl) ?_
  refine lv_aload_n hx hcd dX2_init_45 rfl (lv_at hl 2 rfl) ?_
  refine g_putF (C := RX2) (T := TX2) (N := 7) hx hcd hts (fun _ h => List.mem_cons_of_mem _ (List.mem_append_left _ (List.mem_append_right _ h))) tyX2 tyX2_ok nmX2 hown hK hP hD hS (i := 2) (j := 0) rfl rfl rfl 1 (by decide) (by decide +kernel) rfl hin rfl rfl rfl (Nat.le_of_ble_eq_true rfl) (B1 := [(b, .inr (2, [.ref h, .ref c, .null, .ref q1, .ref (q3 0), .int (iI (-9)), .int (iI (-9))]))]) rfl (Bs1 := [BPap G q3 (fun _ => 0) 0 (fun _ => 0), BFlt q1 (-1) (-1) (-1), [(b, .inr (2, [.ref h, .ref c, .null, .ref q1, .ref (q3 0), .int (iI (-9)), .int (iI (-9))]))]]) rfl dX2_init_46 (fun H locs hP hD hS => ?_)
  refine lv_aload_n hx hcd dX2_init_49 rfl (lv_at hl 0 rfl) ?_
  refine lv_aload_n hx hcd dX2_init_50 rfl (lv_at hl 3 rfl) ?_
  refine g_putF (C := RX2) (T := TX2) (N := 7) hx hcd hts (fun _ h => List.mem_cons_of_mem _ (List.mem_append_left _ (List.mem_append_right _ h))) tyX2 tyX2_ok nmX2 hown hK hP hD hS (i := 2) (j := 0) rfl rfl rfl 2 (by decide) (by decide +kernel) rfl hin rfl rfl rfl (Nat.le_of_ble_eq_true rfl) (B1 := [(b, .inr (2, [.ref h, .ref c, .ref m, .ref q1, .ref (q3 0), .int (iI (-9)), .int (iI (-9))]))]) rfl (Bs1 := [BPap G q3 (fun _ => 0) 0 (fun _ => 0), BFlt q1 (-1) (-1) (-1), [(b, .inr (2, [.ref h, .ref c, .ref m, .ref q1, .ref (q3 0), .int (iI (-9)), .int (iI (-9))]))]]) rfl dX2_init_51 (fun H locs hP hD hS => ?_)
  have hP := P_perm (fl_perm (perm_idx (L' := [[(b, .inr (2, [.ref h, .ref c, .ref m, .ref q1, .ref (q3 0), .int (iI (-9)), .int (iI (-9))]))], BFlt q1 (-1) (-1) (-1), BPap G q3 (fun _ => 0) 0 (fun _ => 0)]) [2, 1, 0] rfl rfl)) hP
  have hD := D_perm (fl_perm (perm_idx (L' := [[(b, .inr (2, [.ref h, .ref c, .ref m, .ref q1, .ref (q3 0), .int (iI (-9)), .int (iI (-9))]))], BFlt q1 (-1) (-1) (-1), BPap G q3 (fun _ => 0) 0 (fun _ => 0)]) [2, 1, 0] rfl rfl)) hD
  exact fin ⟨q1, q3⟩ H locs ls 54 dX2_init_54 hP hD hS trivial
