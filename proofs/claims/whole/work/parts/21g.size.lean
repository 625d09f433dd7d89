abbrev rmX6_size : Room := { frames := 1, cells := 0, slots := 0, locals := 21 }
set_option maxHeartbeats 4000000 in
set_option maxRecDepth 100000 in
theorem kX6_size (l : Launch) (D : va_G) (G : Nat → ClassId) (qp : Nat → Nat) (wd : Nat → Int64) (N : Nat) (fi : Nat → Int) (M : Nat → Bool) (hM : bits wd M) : CtI l yX6_size wsX6_size rmX6_size D G [.ref (qp 0)] [BPap G qp wd N fi] (fun (r : Int32) (_ : Unit) => r = iI (ctB M 1216)) (fun _ => [BPap G qp wd N fi]) := by
  refine CtI.ofI (cc := cX6_size) (maxL := 3) (by decide) rfl (Nat.le_of_ble_eq_true rfl) ?_
  intro p0 e0 s0 m0 args bel met cd A0 ls Q0 hx hcd hml hown hts hK hP hD hA hl fin
  have hl : lv_has ls 3 [(0, .ref (qp 0))] := hl
  have hS : va_S A0 s0.heap s0.heap [] := va_S.rf
  have hH : va_P D vwCl (fl [BPap G qp wd N fi]) s0.heap := hP
  obtain ⟨H, eH⟩ : ∃ H, H = s0.heap := ⟨_, rfl⟩
  obtain ⟨locs, eL⟩ : ∃ locs : List Loc, locs = [] := ⟨_, rfl⟩
  have hS : va_S A0 s0.heap H locs := by rw [eH, eL]; exact hS
  have hP : va_P D vwCl (fl [BPap G qp wd N fi]) H := by rw [eH]; exact hP
  suffices goal : W p0 l e0 rmX6_size s0 m0 args bel met cd H locs 0 0 Q0 (F0 m0 0 ls []) by rw [eH, eL] at goal; exact goal
  clear eH eL hH
  refine wi_iconst hx hcd dX6_size_0 ?_
  refine lv_istore_n (lv' := [(1, .int (iI 0)), (0, .ref (qp 0))]) hx hcd dX6_size_1 rfl hl (by decide) rfl (fun ls hl => ?_)
  refine wi_iconst hx hcd dX6_size_2 ?_
  refine lv_istore_n (lv' := [(2, .int (iI 0)), (1, .int (iI 0)), (0, .ref (qp 0))]) hx hcd dX6_size_3 rfl hl (by decide) rfl (fun ls hl => ?_)
  have L4 : ∀ (fu : Nat) (n0 : Int) (i : Int) (H : Heap) (locs : List Loc) (ls : Array Slot), (19 - i < (fu : Int)) → (0 ≤ i ∧ i ≤ 19) → (n0 = ctB M (64 * i.toNat)) → va_P D vwCl (fl [BPap G qp wd N fi]) H → va_D A0 (fl [BPap G qp wd N fi]) → va_S A0 s0.heap H locs → lv_has ls 3 [(0, .ref (qp 0)), (1, .int (iI n0)), (2, .int (iI i))] → W p0 l e0 rmX6_size s0 m0 args bel met cd H locs 0 0 Q0 (F0 m0 4 ls []) := by
    intro fu
    induction fu with
    | zero =>
      intro n0 i H locs ls hfu hi hn
      exact absurd hfu (by omega)
    | succ fu ih =>
      intro n0 i H locs ls hfu hi hn hP hD hS hl
      have ih4 := ih
      clear ih
      refine lv_iload_n hx hcd dX6_size_4 rfl (lv_at hl 2 rfl) ?_
      refine wi_bipush hx hcd dX6_size_5 (by decide) ?_
      refine wi_icmp_ge (tgt := 28) hx hcd (by omega) (by omega) dX6_size_7 (by decide) (fun c7 => ?_) (fun c7 => ?_)
      ·
        refine lv_iload_n hx hcd dX6_size_28 rfl (lv_at hl 1 rfl) ?_
        exact fin _ () H locs ls 29 dX6_size_29 hP hD hS (trivial) (congrArg iI (by rw [hn, show i = 19 by omega]; rfl))
      ·
        refine lv_iload_n hx hcd dX6_size_10 rfl (lv_at hl 1 rfl) ?_
        refine lv_aload_n hx hcd dX6_size_11 rfl (lv_at hl 0 rfl) ?_
        refine g_get (C := RX6) (T := TX6) (N := 2) hx hcd hts (fun _ h => List.mem_cons_of_mem _ (List.mem_append_right _ h)) hown hK hP (i := 0) rfl BPap_c0 rfl 0 (by decide) (by decide +kernel) rfl dX6_size_12 ?_
        refine lv_iload_n hx hcd dX6_size_15 rfl (lv_at hl 2 rfl) ?_
        refine g_lald hx hcd hK hP (i := 0) rfl BPap_c1 (by omega) (by decide) dX6_size_16 ?_
        refine cS_i (wc := []) (wr := [BPap G qp wd N fi]) (w1 := fun (_ : Unit) => []) (Bs1 := fun (_ : Unit) => [BPap G qp wd N fi]) (As := [.long (wd i.toNat)]) (rest := [.int (iI n0)]) (kJ13_bitCount_95d88 l D G (wd i.toNat) ) rfl ⟨hx, hcd, hml, hown, hts⟩ (va_cwS 1 hts gX6_size_J13_bitCount_95d88 rfl rfl rfl (by decide +kernel) ⟨by decide, by decide⟩) rfl hl.1 (Nat.le_of_ble_eq_true rfl) ⟨Nat.le_of_ble_eq_true rfl, Nat.le_of_ble_eq_true rfl⟩ dX6_size_17 hK hP hD hS hA (perm_idx [0] rfl rfl) (fun _ => perm_idx [0] rfl rfl) (fun r u H locs hw1 hP hD hS => ?_)
        subst hw1
        refine wi_iadd hx hcd dX6_size_20 ?_
        refine lv_istore_n (lv' := [(1, .int (iI (n0 + (bcn (wd i.toNat))))), (0, .ref (qp 0)), (2, .int (iI i))]) hx hcd dX6_size_21 rfl hl (by decide) rfl (fun ls hl => ?_)
        refine lv_iinc (v := iI (i + 1)) (lv' := [(2, .int (iI (i + 1))), (1, .int (iI (n0 + (bcn (wd i.toNat))))), (0, .ref (qp 0))]) hx hcd dX6_size_22 hl (k := 2) rfl (iI_add _ _) (by decide) rfl (fun ls hl => ?_)
        refine lv_goto (tgt := 4) hx hcd dX6_size_25 (by decide) ?_
        exact ih4 (n0 + (bcn (wd i.toNat))) (i + 1) _ _ _ (by omega) (by omega) (by rw [hn, bcn_s hM (by omega)]) hP hD hS (lv_sub hl [2, 1, 0] rfl)
  exact L4 (((19 - 0) + 1 : Int)).toNat 0 0 _ _ _ (by omega) (by omega) (by rfl) hP hD hS (lv_sub hl [2, 1, 0] rfl)
