abbrev rmX2_kind : Room := { frames := 0, cells := 0, slots := 0, locals := 0 }
set_option maxHeartbeats 4000000 in
set_option maxRecDepth 100000 in
theorem kX2_kind (l : Launch) (D : va_G) (G : Nat → ClassId) (qu : Nat) (qh : Nat) (q : Nat → Nat) (qm : Nat → Nat) (qg : Nat) (qt : Nat → Nat) (kd : Int) (wh : Int) : CtI l yX2_kind wsX2_kind rmX2_kind D G [.ref qu] [BGue qu qh (q 0) (qm 0) qg (qt 0) kd wh] (fun (r : Int32) (_ : Unit) => r = iI kd) (fun _ => [BGue qu qh (q 0) (qm 0) qg (qt 0) kd wh]) := by
  refine CtI.ofI (cc := cX2_kind) (maxL := 1) (by decide) rfl (Nat.le_of_ble_eq_true rfl) ?_
  intro p0 e0 s0 m0 args bel met cd A0 ls Q0 hx hcd hml hown hts hK hP hD hA hl fin
  have hl : lv_has ls 1 [(0, .ref qu)] := hl
  have hS : va_S A0 s0.heap s0.heap [] := va_S.rf
  have hH : va_P D vwCl (fl [BGue qu qh (q 0) (qm 0) qg (qt 0) kd wh]) s0.heap := hP
  obtain ⟨H, eH⟩ : ∃ H, H = s0.heap := ⟨_, rfl⟩
  obtain ⟨locs, eL⟩ : ∃ locs : List Loc, locs = [] := ⟨_, rfl⟩
  have hS : va_S A0 s0.heap H locs := by rw [eH, eL]; exact hS
  have hP : va_P D vwCl (fl [BGue qu qh (q 0) (qm 0) qg (qt 0) kd wh]) H := by rw [eH]; exact hP
  suffices goal : W p0 l e0 rmX2_kind s0 m0 args bel met cd H locs 0 0 Q0 (F0 m0 0 ls []) by rw [eH, eL] at goal; exact goal
  clear eH eL hH
  refine lv_aload_n hx hcd dX2_kind_0 rfl (lv_at hl 0 rfl) ?_
  refine g_get (C := RX2) (T := TX2) (N := 7) hx hcd hts (fun _ h => List.mem_cons_of_mem _ (List.mem_append_right _ h)) hown hK hP (i := 0) rfl BGue_c0 rfl 5 (by decide) (by decide +kernel) rfl dX2_kind_1 ?_
  exact fin _ () H locs ls 4 dX2_kind_4 hP hD hS (trivial) (rfl)

abbrev rmX2_which : Room := { frames := 0, cells := 0, slots := 0, locals := 0 }
set_option maxHeartbeats 4000000 in
set_option maxRecDepth 100000 in
theorem kX2_which (l : Launch) (D : va_G) (G : Nat → ClassId) (qu : Nat) (qh : Nat) (q : Nat → Nat) (qm : Nat → Nat) (qg : Nat) (qt : Nat → Nat) (kd : Int) (wh : Int) : CtI l yX2_which wsX2_which rmX2_which D G [.ref qu] [BGue qu qh (q 0) (qm 0) qg (qt 0) kd wh] (fun (r : Int32) (_ : Unit) => r = iI wh) (fun _ => [BGue qu qh (q 0) (qm 0) qg (qt 0) kd wh]) := by
  refine CtI.ofI (cc := cX2_which) (maxL := 1) (by decide) rfl (Nat.le_of_ble_eq_true rfl) ?_
  intro p0 e0 s0 m0 args bel met cd A0 ls Q0 hx hcd hml hown hts hK hP hD hA hl fin
  have hl : lv_has ls 1 [(0, .ref qu)] := hl
  have hS : va_S A0 s0.heap s0.heap [] := va_S.rf
  have hH : va_P D vwCl (fl [BGue qu qh (q 0) (qm 0) qg (qt 0) kd wh]) s0.heap := hP
  obtain ⟨H, eH⟩ : ∃ H, H = s0.heap := ⟨_, rfl⟩
  obtain ⟨locs, eL⟩ : ∃ locs : List Loc, locs = [] := ⟨_, rfl⟩
  have hS : va_S A0 s0.heap H locs := by rw [eH, eL]; exact hS
  have hP : va_P D vwCl (fl [BGue qu qh (q 0) (qm 0) qg (qt 0) kd wh]) H := by rw [eH]; exact hP
  suffices goal : W p0 l e0 rmX2_which s0 m0 args bel met cd H locs 0 0 Q0 (F0 m0 0 ls []) by rw [eH, eL] at goal; exact goal
  clear eH eL hH
  refine lv_aload_n hx hcd dX2_which_0 rfl (lv_at hl 0 rfl) ?_
  refine g_get (C := RX2) (T := TX2) (N := 7) hx hcd hts (fun _ h => List.mem_cons_of_mem _ (List.mem_append_right _ h)) hown hK hP (i := 0) rfl BGue_c0 rfl 6 (by decide) (by decide +kernel) rfl dX2_which_1 ?_
  exact fin _ () H locs ls 4 dX2_which_4 hP hD hS (trivial) (rfl)

abbrev rmX2_fits : Room := { frames := 4, cells := 0, slots := 0, locals := 104 }
set_option maxHeartbeats 4000000 in
set_option maxRecDepth 100000 in
theorem kX2_fits (l : Launch) (D : va_G) (G : Nat → ClassId) (qu : Nat) (qg : Nat) (qt : Nat → Nat) (kd : Int) (wh : Int) (w0 : Int) (l0 : Int) (b0 : Int) (vd : Nat → Int64) (fj : Nat → Int) (qh : Nat) (qm : Nat → Nat) (ac : Nat → Int) (up : Nat → Int) (li : Nat → Int) (le : Nat → Int) (pg : Int) (spc : Int) (q : Nat → Nat) (st : Int) (th : Nat → Int) (R : Nat → Nat → Int) (sp : Nat → Int) (qp : Nat → Nat) (wd : Nat → Int64) (N : Nat) (fi : Nat → Int) (M : Nat → Bool) (kn : Int) (v : Int) (wo : Int) (lo : Int) (be : Int) (hst : 2 ≤ st ∧ st ≤ 16) (hR : ∀ i j, 0 ≤ R i j ∧ R i j ≤ 9) (hac : ∀ k, 0 ≤ ac k ∧ ac k ≤ 11) (hup : ∀ k, 0 ≤ up k ∧ up k ≤ 11) (hli : ∀ k, 0 ≤ li k ∧ li k ≤ 11) (hle : ∀ k, 0 ≤ le k ∧ le k ≤ 9) (hsp : 0 ≤ spc ∧ spc ≤ 9) (hpg : 0 ≤ pg ∧ pg ≤ 12) (hM : bits wd M) (hkn : 0 ≤ kn ∧ kn ≤ 3) (hv : 0 ≤ v ∧ v ≤ 11) (hv3 : kn = 3 → v ≤ 1) (ewo : wo = if kn = 1 then v else -1) (elo : lo = if kn = 2 then v else -1) (ebe : be = if kn = 3 then v else -1) : CtI l yX2_fits wsX2_fits rmX2_fits D G [.ref qu, .ref (qp 0), .int (iI kn), .int (iI v)] [BGue qu qh (q 0) (qm 0) qg (qt 0) kd wh, BFlt qg w0 l0 b0, BPap G qt vd 0 fj, BHan qh (q 0) (qm 0), BMsg G qm ac up li le pg spc, BCams G q st th R sp, BPap G qp wd N fi] (fun (r : Int32) (u : (Nat → Int64)) => r = iI (if fitB 1216 cC R ac up li le spc st pg M wo lo be = true then 1 else 0) ∧ True) (fun u => [BGue qu qh (q 0) (qm 0) qg (qt 0) kd wh, BFlt qg wo lo be, BPap G qt u 0 fj, BHan qh (q 0) (qm 0), BMsg G qm ac up li le pg spc, BCams G q st th R sp, BPap G qp wd N fi]) := by
  refine CtI.ofZ (cc := cX2_fits) (maxL := 6) (by decide) rfl (Nat.le_of_ble_eq_true rfl) ?_
  intro p0 e0 s0 m0 args bel met cd A0 ls Q0 hx hcd hml hown hts hK hP hD hA hl fin
  have hl : lv_has ls 6 [(0, .ref qu), (1, .ref (qp 0)), (2, .int (iI kn)), (3, .int (iI v))] := hl
  have hS : va_S A0 s0.heap s0.heap [] := va_S.rf
  have hH : va_P D vwCl (fl [BGue qu qh (q 0) (qm 0) qg (qt 0) kd wh, BFlt qg w0 l0 b0, BPap G qt vd 0 fj, BHan qh (q 0) (qm 0), BMsg G qm ac up li le pg spc, BCams G q st th R sp, BPap G qp wd N fi]) s0.heap := hP
  obtain ⟨H, eH⟩ : ∃ H, H = s0.heap := ⟨_, rfl⟩
  obtain ⟨locs, eL⟩ : ∃ locs : List Loc, locs = [] := ⟨_, rfl⟩
  have hS : va_S A0 s0.heap H locs := by rw [eH, eL]; exact hS
  have hP : va_P D vwCl (fl [BGue qu qh (q 0) (qm 0) qg (qt 0) kd wh, BFlt qg w0 l0 b0, BPap G qt vd 0 fj, BHan qh (q 0) (qm 0), BMsg G qm ac up li le pg spc, BCams G q st th R sp, BPap G qp wd N fi]) H := by rw [eH]; exact hP
  suffices goal : W p0 l e0 rmX2_fits s0 m0 args bel met cd H locs 0 0 Q0 (F0 m0 0 ls []) by rw [eH, eL] at goal; exact goal
  clear eH eL hH
  have hwo : -1 ≤ wo ∧ wo ≤ 11 := by rw [ewo]; split <;> omega
  have hlo : -1 ≤ lo ∧ lo ≤ 11 := by rw [elo]; split <;> omega
  have hbe : -1 ≤ be ∧ be ≤ 1 := by rw [ebe]; split <;> omega
  refine lv_aload_n hx hcd dX2_fits_0 rfl (lv_at hl 0 rfl) ?_
  refine g_get (C := RX2) (T := TX2) (N := 7) hx hcd hts (fun _ h => List.mem_cons_of_mem _ (List.mem_append_left _ (List.mem_append_left _ (List.mem_append_left _ (List.mem_append_left _ (List.mem_append_left _ (List.mem_append_right _ h))))))) hown hK hP (i := 0) rfl BGue_c0 rfl 3 (by decide) (by decide +kernel) rfl dX2_fits_1 ?_
  refine cV_v (wc := [BFlt qg w0 l0 b0]) (wr := [BGue qu qh (q 0) (qm 0) qg (qt 0) kd wh, BPap G qt vd 0 fj, BHan qh (q 0) (qm 0), BMsg G qm ac up li le pg spc, BCams G q st th R sp, BPap G qp wd N fi]) (w1 := fun _ => [BFlt qg (-1) (-1) (-1)]) (Bs1 := fun _ => [BGue qu qh (q 0) (qm 0) qg (qt 0) kd wh, BFlt qg (-1) (-1) (-1), BPap G qt vd 0 fj, BHan qh (q 0) (qm 0), BMsg G qm ac up li le pg spc, BCams G q st th R sp, BPap G qp wd N fi]) (As := []) (rest := []) (kX1_clear l D G qg w0 l0 b0 ) rfl ⟨hx, hcd, hml, hown, hts⟩ (cwV 0 hts gX2_fits_X1_clear rfl rfl rfl (by decide +kernel) ⟨by decide, by decide⟩) (q0 := 0) (ci := 1) rfl rfl rfl rfl hl.1 (Nat.le_of_ble_eq_true rfl) ⟨Nat.le_of_ble_eq_true rfl, Nat.le_of_ble_eq_true rfl⟩ dX2_fits_4 hK hP hD hS hA (perm_idx [1, 0, 2, 3, 4, 5, 6] rfl rfl) (fun _ => perm_idx [1, 0, 2, 3, 4, 5, 6] rfl rfl) (fun u H locs hw1 hP hD hS => ?_)
  refine lv_aload_n hx hcd dX2_fits_7 rfl (lv_at hl 0 rfl) ?_
  refine g_get (C := RX2) (T := TX2) (N := 7) hx hcd hts (fun _ h => List.mem_cons_of_mem _ (List.mem_append_left _ (List.mem_append_left _ (List.mem_append_left _ (List.mem_append_left _ (List.mem_append_left _ (List.mem_append_right _ h))))))) hown hK hP (i := 0) rfl BGue_c0 rfl 3 (by decide) (by decide +kernel) rfl dX2_fits_8 ?_
  refine lv_iload_n hx hcd dX2_fits_11 rfl (lv_at hl 2 rfl) ?_
  refine lv_iload_n hx hcd dX2_fits_12 rfl (lv_at hl 3 rfl) ?_
  refine cV_v (wc := [BFlt qg (-1) (-1) (-1)]) (wr := [BGue qu qh (q 0) (qm 0) qg (qt 0) kd wh, BPap G qt vd 0 fj, BHan qh (q 0) (qm 0), BMsg G qm ac up li le pg spc, BCams G q st th R sp, BPap G qp wd N fi]) (w1 := fun _ => [BFlt qg (if kn = 1 then v else (-1)) (if kn = 2 then v else (-1)) (if kn = 3 then v else (-1))]) (Bs1 := fun _ => [BGue qu qh (q 0) (qm 0) qg (qt 0) kd wh, BFlt qg (if kn = 1 then v else (-1)) (if kn = 2 then v else (-1)) (if kn = 3 then v else (-1)), BPap G qt vd 0 fj, BHan qh (q 0) (qm 0), BMsg G qm ac up li le pg spc, BCams G q st th R sp, BPap G qp wd N fi]) (As := [.int (iI kn), .int (iI v)]) (rest := []) (kX1_tell l D G qg (-1) (-1) (-1) kn v (by first | assumption | omega)) rfl ⟨hx, hcd, hml, hown, hts⟩ (cwV 2 hts gX2_fits_X1_tell rfl rfl rfl (by decide +kernel) ⟨by decide, by decide⟩) (q0 := 0) (ci := 1) rfl rfl rfl rfl hl.1 (Nat.le_of_ble_eq_true rfl) ⟨Nat.le_of_ble_eq_true rfl, Nat.le_of_ble_eq_true rfl⟩ dX2_fits_13 hK hP hD hS hA (perm_idx [1, 0, 2, 3, 4, 5, 6] rfl rfl) (fun _ => perm_idx [1, 0, 2, 3, 4, 5, 6] rfl rfl) (fun u H locs hw2 hP hD hS => ?_)
  rw [show BFlt qg (if kn = 1 then v else (-1)) (if kn = 2 then v else (-1)) (if kn = 3 then v else (-1)) = BFlt qg wo (if kn = 2 then v else (-1)) (if kn = 3 then v else (-1)) from congrArg (fun z_ : Int => BFlt qg z_ (if kn = 2 then v else (-1)) (if kn = 3 then v else (-1))) (show (if kn = 1 then v else (-1) : Int) = wo from ewo.symm)] at hP hD
  rw [show BFlt qg wo (if kn = 2 then v else (-1)) (if kn = 3 then v else (-1)) = BFlt qg wo lo (if kn = 3 then v else (-1)) from congrArg (fun z_ : Int => BFlt qg wo z_ (if kn = 3 then v else (-1))) (show (if kn = 2 then v else (-1) : Int) = lo from elo.symm)] at hP hD
  rw [show BFlt qg wo lo (if kn = 3 then v else (-1)) = BFlt qg wo lo be from congrArg (fun z_ : Int => BFlt qg wo lo z_) (show (if kn = 3 then v else (-1) : Int) = be from ebe.symm)] at hP hD
  refine lv_aload_n hx hcd dX2_fits_16 rfl (lv_at hl 0 rfl) ?_
  refine g_get (C := RX2) (T := TX2) (N := 7) hx hcd hts (fun _ h => List.mem_cons_of_mem _ (List.mem_append_left _ (List.mem_append_left _ (List.mem_append_left _ (List.mem_append_left _ (List.mem_append_left _ (List.mem_append_right _ h))))))) hown hK hP (i := 0) rfl BGue_c0 rfl 4 (by decide) (by decide +kernel) rfl dX2_fits_17 ?_
  refine cV_v (wc := [BPap G qt vd 0 fj]) (wr := [BGue qu qh (q 0) (qm 0) qg (qt 0) kd wh, BFlt qg wo lo be, BHan qh (q 0) (qm 0), BMsg G qm ac up li le pg spc, BCams G q st th R sp, BPap G qp wd N fi]) (w1 := fun _ => [BPap G qt (filL 0 19 vd) 0 fj]) (Bs1 := fun _ => [BGue qu qh (q 0) (qm 0) qg (qt 0) kd wh, BFlt qg wo lo be, BPap G qt (filL 0 19 vd) 0 fj, BHan qh (q 0) (qm 0), BMsg G qm ac up li le pg spc, BCams G q st th R sp, BPap G qp wd N fi]) (As := []) (rest := []) (kX6_clear l D G qt vd 0 fj ) rfl ⟨hx, hcd, hml, hown, hts⟩ (cwV 0 hts gX2_fits_X6_clear rfl rfl rfl (by decide +kernel) ⟨by decide, by decide⟩) (q0 := 0) (ci := 6) rfl rfl rfl rfl hl.1 (Nat.le_of_ble_eq_true rfl) ⟨Nat.le_of_ble_eq_true rfl, Nat.le_of_ble_eq_true rfl⟩ dX2_fits_20 hK hP hD hS hA (perm_idx [2, 0, 1, 3, 4, 5, 6] rfl rfl) (fun _ => perm_idx [1, 2, 0, 3, 4, 5, 6] rfl rfl) (fun u H locs hw3 hP hD hS => ?_)
  have hMc := bits_fil M vd
  refine wi_iconst hx hcd dX2_fits_23 ?_
  refine lv_istore (lv' := [(4, .int (iI 0)), (0, .ref qu), (1, .ref (qp 0)), (2, .int (iI kn)), (3, .int (iI v))]) hx hcd dX2_fits_24 hl (by decide) rfl (fun ls hl => ?_)
  have L26 : ∀ (fu : Nat) (k : Int) (v9 : Nat → Int64) (H : Heap) (locs : List Loc) (ls : Array Slot), (pg - k < (fu : Int)) → (0 ≤ k ∧ k ≤ pg) → (bits v9 (msS cC R ac up li le spc st wo lo be k.toNat)) → (∀ c : Nat, c < 1216 → msS cC R ac up li le spc st wo lo be k.toNat c = true → M c = true) → va_P D vwCl (fl [BGue qu qh (q 0) (qm 0) qg (qt 0) kd wh, BFlt qg wo lo be, BPap G qt v9 0 fj, BHan qh (q 0) (qm 0), BMsg G qm ac up li le pg spc, BCams G q st th R sp, BPap G qp wd N fi]) H → va_D A0 (fl [BGue qu qh (q 0) (qm 0) qg (qt 0) kd wh, BFlt qg wo lo be, BPap G qt v9 0 fj, BHan qh (q 0) (qm 0), BMsg G qm ac up li le pg spc, BCams G q st th R sp, BPap G qp wd N fi]) → va_S A0 s0.heap H locs → lv_has ls 6 [(0, .ref qu), (1, .ref (qp 0)), (2, .int (iI kn)), (3, .int (iI v)), (4, .int (iI k))] → W p0 l e0 rmX2_fits s0 m0 args bel met cd H locs 0 0 Q0 (F0 m0 26 ls []) := by
    intro fu
    induction fu with
    | zero =>
      intro k v9 H locs ls hfu hk hw hin
      exact absurd hfu (by omega)
    | succ fu ih =>
      intro k v9 H locs ls hfu hk hw hin hP hD hS hl
      have ih26 := ih
      clear ih
      refine lv_iload hx hcd dX2_fits_26 (lv_at hl 4 rfl) ?_
      refine lv_aload_n hx hcd dX2_fits_28 rfl (lv_at hl 0 rfl) ?_
      refine g_get (C := RX2) (T := TX2) (N := 7) hx hcd hts (fun _ h => List.mem_cons_of_mem _ (List.mem_append_left _ (List.mem_append_left _ (List.mem_append_left _ (List.mem_append_left _ (List.mem_append_left _ (List.mem_append_right _ h))))))) hown hK hP (i := 0) rfl BGue_c0 rfl 2 (by decide) (by decide +kernel) rfl dX2_fits_29 ?_
      refine cV_i (wc := [BMsg G qm ac up li le pg spc]) (wr := [BGue qu qh (q 0) (qm 0) qg (qt 0) kd wh, BFlt qg wo lo be, BPap G qt v9 0 fj, BHan qh (q 0) (qm 0), BCams G q st th R sp, BPap G qp wd N fi]) (w1 := fun _ => [BMsg G qm ac up li le pg spc]) (Bs1 := fun _ => [BGue qu qh (q 0) (qm 0) qg (qt 0) kd wh, BFlt qg wo lo be, BPap G qt v9 0 fj, BHan qh (q 0) (qm 0), BMsg G qm ac up li le pg spc, BCams G q st th R sp, BPap G qp wd N fi]) (As := []) (rest := [.int (iI k)]) (kX5_pegs l D G qm ac up li le pg spc ) rfl ⟨hx, hcd, hml, hown, hts⟩ (cwV 0 hts gX2_fits_X5_pegs rfl rfl rfl (by decide +kernel) ⟨by decide, by decide⟩) (q0 := 0) (ci := 5) rfl rfl rfl rfl hl.1 (Nat.le_of_ble_eq_true rfl) ⟨Nat.le_of_ble_eq_true rfl, Nat.le_of_ble_eq_true rfl⟩ dX2_fits_32 hK hP hD hS hA (perm_idx [4, 0, 1, 2, 3, 5, 6] rfl rfl) (fun _ => perm_idx [1, 2, 3, 4, 0, 5, 6] rfl rfl) (fun r u H locs hw4 hP hD hS => ?_)
      subst hw4
      refine wi_icmp_ge (tgt := 112) hx hcd (by omega) (by omega) dX2_fits_35 (by decide) (fun c35 => ?_) (fun c35 => ?_)
      ·
        refine lv_aload_n hx hcd dX2_fits_112 rfl (lv_at hl 1 rfl) ?_
        refine lv_aload_n hx hcd dX2_fits_113 rfl (lv_at hl 0 rfl) ?_
        refine g_get (C := RX2) (T := TX2) (N := 7) hx hcd hts (fun _ h => List.mem_cons_of_mem _ (List.mem_append_left _ (List.mem_append_left _ (List.mem_append_left _ (List.mem_append_left _ (List.mem_append_left _ (List.mem_append_right _ h))))))) hown hK hP (i := 0) rfl BGue_c0 rfl 4 (by decide) (by decide +kernel) rfl dX2_fits_114 ?_
        refine cV_i (wc := [BPap G qp wd N fi, BPap G qt v9 0 fj]) (wr := [BGue qu qh (q 0) (qm 0) qg (qt 0) kd wh, BFlt qg wo lo be, BHan qh (q 0) (qm 0), BMsg G qm ac up li le pg spc, BCams G q st th R sp]) (w1 := fun _ => [BPap G qp wd N fi, BPap G qt v9 0 fj]) (Bs1 := fun _ => [BGue qu qh (q 0) (qm 0) qg (qt 0) kd wh, BFlt qg wo lo be, BPap G qt v9 0 fj, BHan qh (q 0) (qm 0), BMsg G qm ac up li le pg spc, BCams G q st th R sp, BPap G qp wd N fi]) (As := [.ref (qt 0)]) (rest := []) (kX6_isWithin l D G qp wd N fi qt v9 0 fj M (msS cC R ac up li le spc st wo lo be k.toNat) (by first | assumption | omega) (by first | assumption | omega)) rfl ⟨hx, hcd, hml, hown, hts⟩ (cwV 1 hts gX2_fits_X6_isWithin rfl rfl rfl (by decide +kernel) ⟨by decide, by decide⟩) (q0 := 0) (ci := 6) rfl rfl rfl rfl hl.1 (Nat.le_of_ble_eq_true rfl) ⟨Nat.le_of_ble_eq_true rfl, Nat.le_of_ble_eq_true rfl⟩ dX2_fits_117 hK hP hD hS hA (perm_idx [6, 2, 0, 1, 3, 4, 5] rfl rfl) (fun _ => perm_idx [2, 3, 1, 4, 5, 6, 0] rfl rfl) (fun r u H locs hw5 hP hD hS => ?_)
        subst hw5
        have hiw : ∀ p : Prop, ∀ [Decidable p], (if p then (1 : Int) else 0) = 0 ∨ (if p then (1 : Int) else 0) = 1 := fun p _ => by split <;> omega
        have hiw2 := hiw (∀ c : Nat, c < 1216 → M c = true → (msS cC R ac up li le spc st wo lo be k.toNat) c = true)
        exact fin _ v9 H locs ls 120 dX2_fits_120 hP hD hS (nz hiw2) (⟨congrArg iI (by
      by_cases e : ∀ c : Nat, c < 1216 → M c = true → msS cC R ac up li le spc st wo lo be k.toNat c = true
      · rw [if_pos e, if_pos]
        unfold fitB
        rw [decide_eq_true_eq]
        intro c hc
        rw [show pg.toNat = k.toNat by omega, Bool.eq_iff_iff]
        exact ⟨hin c hc, e c hc⟩
      · rw [if_neg e, if_neg]
        intro q
        unfold fitB at q
        rw [decide_eq_true_eq] at q
        apply e
        intro c hc hm
        rw [show k.toNat = pg.toNat by omega, q c hc]
        exact hm), trivial⟩)
      ·
        refine lv_aload_n hx hcd dX2_fits_38 rfl (lv_at hl 0 rfl) ?_
        refine g_get (C := RX2) (T := TX2) (N := 7) hx hcd hts (fun _ h => List.mem_cons_of_mem _ (List.mem_append_left _ (List.mem_append_left _ (List.mem_append_left _ (List.mem_append_left _ (List.mem_append_left _ (List.mem_append_right _ h))))))) hown hK hP (i := 0) rfl BGue_c0 rfl 3 (by decide) (by decide +kernel) rfl dX2_fits_39 ?_
        refine lv_iload hx hcd dX2_fits_42 (lv_at hl 4 rfl) ?_
        refine cV_i (wc := [BFlt qg wo lo be]) (wr := [BGue qu qh (q 0) (qm 0) qg (qt 0) kd wh, BPap G qt v9 0 fj, BHan qh (q 0) (qm 0), BMsg G qm ac up li le pg spc, BCams G q st th R sp, BPap G qp wd N fi]) (w1 := fun _ => [BFlt qg wo lo be]) (Bs1 := fun _ => [BGue qu qh (q 0) (qm 0) qg (qt 0) kd wh, BFlt qg wo lo be, BPap G qt v9 0 fj, BHan qh (q 0) (qm 0), BMsg G qm ac up li le pg spc, BCams G q st th R sp, BPap G qp wd N fi]) (As := [.int (iI k)]) (rest := []) (kX1_isLoose l D G qg wo lo be k (by first | assumption | omega) (by first | assumption | omega)) rfl ⟨hx, hcd, hml, hown, hts⟩ (cwV 1 hts gX2_fits_X1_isLoose rfl rfl rfl (by decide +kernel) ⟨by decide, by decide⟩) (q0 := 0) (ci := 1) rfl rfl rfl rfl hl.1 (Nat.le_of_ble_eq_true rfl) ⟨Nat.le_of_ble_eq_true rfl, Nat.le_of_ble_eq_true rfl⟩ dX2_fits_44 hK hP hD hS hA (perm_idx [1, 0, 2, 3, 4, 5, 6] rfl rfl) (fun _ => perm_idx [1, 0, 2, 3, 4, 5, 6] rfl rfl) (fun r u H locs hw6 hP hD hS => ?_)
        subst hw6
        have hil : (if k = lo then (1 : Int) else 0) = 0 ∨ (if k = lo then (1 : Int) else 0) = 1 := by split <;> omega
        refine wi_if_eq (tgt := 53) hx hcd (by omega) dX2_fits_47 (by decide) (fun c47 => ?_) (fun c47 => ?_)
        ·
          have hkl : k ≠ lo := fun e => by rw [if_pos e] at c47; exact absurd c47 (by decide)
          refine wi_iconst hx hcd dX2_fits_53 ?_
          refine lv_istore (lv' := [(5, .int (iI 0)), (0, .ref qu), (1, .ref (qp 0)), (2, .int (iI kn)), (3, .int (iI v)), (4, .int (iI k))]) hx hcd dX2_fits_54 hl (by decide) rfl (fun ls hl => ?_)
          have L56 : ∀ (fu : Nat) (t : Int) (v8 : Nat → Int64) (H : Heap) (locs : List Loc) (ls : Array Slot), (st - t < (fu : Int)) → (0 ≤ t ∧ t ≤ st) → (bits v8 (orM (msS cC R ac up li le spc st wo lo be k.toNat) (pgS cC R ac up li le spc wo be k t.toNat))) → va_P D vwCl (fl [BGue qu qh (q 0) (qm 0) qg (qt 0) kd wh, BFlt qg wo lo be, BPap G qt v8 0 fj, BHan qh (q 0) (qm 0), BMsg G qm ac up li le pg spc, BCams G q st th R sp, BPap G qp wd N fi]) H → va_D A0 (fl [BGue qu qh (q 0) (qm 0) qg (qt 0) kd wh, BFlt qg wo lo be, BPap G qt v8 0 fj, BHan qh (q 0) (qm 0), BMsg G qm ac up li le pg spc, BCams G q st th R sp, BPap G qp wd N fi]) → va_S A0 s0.heap H locs → lv_has ls 6 [(0, .ref qu), (1, .ref (qp 0)), (2, .int (iI kn)), (3, .int (iI v)), (4, .int (iI k)), (5, .int (iI t))] → W p0 l e0 rmX2_fits s0 m0 args bel met cd H locs 0 0 Q0 (F0 m0 56 ls []) := by
            intro fu
            induction fu with
            | zero =>
              intro t v8 H locs ls hfu ht hw8
              exact absurd hfu (by omega)
            | succ fu ih =>
              intro t v8 H locs ls hfu ht hw8 hP hD hS hl
              have ih56 := ih
              clear ih
              refine lv_iload hx hcd dX2_fits_56 (lv_at hl 5 rfl) ?_
              refine lv_aload_n hx hcd dX2_fits_58 rfl (lv_at hl 0 rfl) ?_
              refine g_get (C := RX2) (T := TX2) (N := 7) hx hcd hts (fun _ h => List.mem_cons_of_mem _ (List.mem_append_left _ (List.mem_append_left _ (List.mem_append_left _ (List.mem_append_left _ (List.mem_append_left _ (List.mem_append_right _ h))))))) hown hK hP (i := 0) rfl BGue_c0 rfl 1 (by decide) (by decide +kernel) rfl dX2_fits_59 ?_
              refine cV_i (wc := [BCams G q st th R sp]) (wr := [BGue qu qh (q 0) (qm 0) qg (qt 0) kd wh, BFlt qg wo lo be, BPap G qt v8 0 fj, BHan qh (q 0) (qm 0), BMsg G qm ac up li le pg spc, BPap G qp wd N fi]) (w1 := fun _ => [BCams G q st th R sp]) (Bs1 := fun _ => [BGue qu qh (q 0) (qm 0) qg (qt 0) kd wh, BFlt qg wo lo be, BPap G qt v8 0 fj, BHan qh (q 0) (qm 0), BMsg G qm ac up li le pg spc, BCams G q st th R sp, BPap G qp wd N fi]) (As := []) (rest := [.int (iI t)]) (kX0_steps l D G q st th R sp ) rfl ⟨hx, hcd, hml, hown, hts⟩ (cwV 0 hts gX2_fits_X0_steps rfl rfl rfl (by decide +kernel) ⟨by decide, by decide⟩) (q0 := 0) (ci := 0) rfl rfl rfl rfl hl.1 (Nat.le_of_ble_eq_true rfl) ⟨Nat.le_of_ble_eq_true rfl, Nat.le_of_ble_eq_true rfl⟩ dX2_fits_62 hK hP hD hS hA (perm_idx [5, 0, 1, 2, 3, 4, 6] rfl rfl) (fun _ => perm_idx [1, 2, 3, 4, 5, 0, 6] rfl rfl) (fun r u H locs hw7 hP hD hS => ?_)
              subst hw7
              refine wi_icmp_ge (tgt := 93) hx hcd (by omega) (by omega) dX2_fits_65 (by decide) (fun c65 => ?_) (fun c65 => ?_)
              ·
                refine lv_aload_n hx hcd dX2_fits_93 rfl (lv_at hl 0 rfl) ?_
                refine g_get (C := RX2) (T := TX2) (N := 7) hx hcd hts (fun _ h => List.mem_cons_of_mem _ (List.mem_append_left _ (List.mem_append_left _ (List.mem_append_left _ (List.mem_append_left _ (List.mem_append_left _ (List.mem_append_right _ h))))))) hown hK hP (i := 0) rfl BGue_c0 rfl 4 (by decide) (by decide +kernel) rfl dX2_fits_94 ?_
                refine lv_aload_n hx hcd dX2_fits_97 rfl (lv_at hl 1 rfl) ?_
                refine cV_i (wc := [BPap G qt v8 0 fj, BPap G qp wd N fi]) (wr := [BGue qu qh (q 0) (qm 0) qg (qt 0) kd wh, BFlt qg wo lo be, BHan qh (q 0) (qm 0), BMsg G qm ac up li le pg spc, BCams G q st th R sp]) (w1 := fun _ => [BPap G qt v8 0 fj, BPap G qp wd N fi]) (Bs1 := fun _ => [BGue qu qh (q 0) (qm 0) qg (qt 0) kd wh, BFlt qg wo lo be, BPap G qt v8 0 fj, BHan qh (q 0) (qm 0), BMsg G qm ac up li le pg spc, BCams G q st th R sp, BPap G qp wd N fi]) (As := [.ref (qp 0)]) (rest := []) (kX6_isWithin l D G qt v8 0 fj qp wd N fi (orM (msS cC R ac up li le spc st wo lo be k.toNat) (pgS cC R ac up li le spc wo be k t.toNat)) M (by first | assumption | omega) (by first | assumption | omega)) rfl ⟨hx, hcd, hml, hown, hts⟩ (cwV 1 hts gX2_fits_X6_isWithin rfl rfl rfl (by decide +kernel) ⟨by decide, by decide⟩) (q0 := 0) (ci := 6) rfl rfl rfl rfl hl.1 (Nat.le_of_ble_eq_true rfl) ⟨Nat.le_of_ble_eq_true rfl, Nat.le_of_ble_eq_true rfl⟩ dX2_fits_98 hK hP hD hS hA (perm_idx [2, 6, 0, 1, 3, 4, 5] rfl rfl) (fun _ => perm_idx [2, 3, 0, 4, 5, 6, 1] rfl rfl) (fun r u H locs hw8 hP hD hS => ?_)
                subst hw8
                have hiw : ∀ p : Prop, ∀ [Decidable p], (if p then (1 : Int) else 0) = 0 ∨ (if p then (1 : Int) else 0) = 1 := fun p _ => by split <;> omega
                have hiw2 := hiw (∀ c : Nat, c < 1216 → (orM (msS cC R ac up li le spc st wo lo be k.toNat) (pgS cC R ac up li le spc wo be k t.toNat)) c = true → M c = true)
                refine wi_if_ne (tgt := 106) hx hcd (by omega) dX2_fits_101 (by decide) (fun c101 => ?_) (fun c101 => ?_)
                ·
                  try (have h101 : ∀ c : Nat, c < 1216 → orM (msS cC R ac up li le spc st wo lo be k.toNat) (pgS cC R ac up li le spc wo be k t.toNat) c = true → M c = true := (by
                    by_cases q : ∀ c : Nat, c < 1216 → orM (msS cC R ac up li le spc st wo lo be k.toNat) (pgS cC R ac up li le spc wo be k t.toNat) c = true → M c = true
                    · exact q
                    · rw [if_neg q] at c101; exact absurd rfl c101))
                  try (have hms : msS cC R ac up li le spc st wo lo be (k + 1).toNat = orM (msS cC R ac up li le spc st wo lo be k.toNat) (pgS cC R ac up li le spc wo be k t.toNat) := (by rw [msS_n (by omega) hkl, show st.toNat = t.toNat by omega]))
                  try (have hw7 : bits v8 (msS cC R ac up li le spc st wo lo be (k + 1).toNat) := (by rw [hms]; exact hw8))
                  try (have hin8 : ∀ c : Nat, c < 1216 → msS cC R ac up li le spc st wo lo be (k + 1).toNat c = true → M c = true := (by rw [hms]; exact h101))
                  refine lv_iinc (v := iI (k + 1)) (lv' := [(4, .int (iI (k + 1))), (0, .ref qu), (1, .ref (qp 0)), (2, .int (iI kn)), (3, .int (iI v)), (5, .int (iI t))]) hx hcd dX2_fits_106 hl (k := 4) rfl (iI_add _ _) (by decide) rfl (fun ls hl => ?_)
                  refine lv_goto (tgt := 26) hx hcd dX2_fits_109 (by decide) ?_
                  exact ih26 (k + 1) v8 _ _ _ (by omega) (by omega) (hw7) (hin8) hP hD hS (lv_sub hl [1, 2, 3, 4, 0] rfl)
                ·
                  have h101 : ¬ ∀ c : Nat, c < 1216 → orM (msS cC R ac up li le spc st wo lo be k.toNat) (pgS cC R ac up li le spc wo be k t.toNat) c = true → M c = true := fun q => by rw [if_pos q] at c101; exact absurd c101 (by decide)
                  refine wi_iconst hx hcd dX2_fits_104 ?_
                  exact fin _ v8 H locs ls 105 dX2_fits_105 hP hD hS (nz (by omega)) (⟨congrArg iI (by rw [if_neg]; intro q; unfold fitB at q; rw [decide_eq_true_eq] at q; apply h101; intro c hc hb; rw [← q c hc]; rw [show pg.toNat = (k + 1).toNat + (pg.toNat - (k + 1).toNat) by omega]; apply msS_mono; rw [msS_n (by omega) hkl, show st.toNat = t.toNat by omega]; exact hb), trivial⟩)
              ·
                refine lv_aload_n hx hcd dX2_fits_68 rfl (lv_at hl 0 rfl) ?_
                refine g_get (C := RX2) (T := TX2) (N := 7) hx hcd hts (fun _ h => List.mem_cons_of_mem _ (List.mem_append_left _ (List.mem_append_left _ (List.mem_append_left _ (List.mem_append_left _ (List.mem_append_left _ (List.mem_append_right _ h))))))) hown hK hP (i := 0) rfl BGue_c0 rfl 0 (by decide) (by decide +kernel) rfl dX2_fits_69 ?_
                refine lv_aload_n hx hcd dX2_fits_72 rfl (lv_at hl 0 rfl) ?_
                refine g_get (C := RX2) (T := TX2) (N := 7) hx hcd hts (fun _ h => List.mem_cons_of_mem _ (List.mem_append_left _ (List.mem_append_left _ (List.mem_append_left _ (List.mem_append_left _ (List.mem_append_left _ (List.mem_append_right _ h))))))) hown hK hP (i := 0) rfl BGue_c0 rfl 3 (by decide) (by decide +kernel) rfl dX2_fits_73 ?_
                refine lv_aload_n hx hcd dX2_fits_76 rfl (lv_at hl 0 rfl) ?_
                refine g_get (C := RX2) (T := TX2) (N := 7) hx hcd hts (fun _ h => List.mem_cons_of_mem _ (List.mem_append_left _ (List.mem_append_left _ (List.mem_append_left _ (List.mem_append_left _ (List.mem_append_left _ (List.mem_append_right _ h))))))) hown hK hP (i := 0) rfl BGue_c0 rfl 4 (by decide) (by decide +kernel) rfl dX2_fits_77 ?_
                refine lv_iload hx hcd dX2_fits_80 (lv_at hl 4 rfl) ?_
                refine lv_iload hx hcd dX2_fits_82 (lv_at hl 5 rfl) ?_
                refine cV_v (wc := [BHan qh (q 0) (qm 0), BMsg G qm ac up li le pg spc, BCams G q st th R sp, BFlt qg wo lo be, BPap G qt v8 0 fj]) (wr := [BGue qu qh (q 0) (qm 0) qg (qt 0) kd wh, BPap G qp wd N fi]) (w1 := fun u => [BHan qh (q 0) (qm 0), BMsg G qm ac up li le pg spc, BCams G q st th R sp, BFlt qg wo lo be, BPap G qt u 0 (fiU 0 (orM (msS cC R ac up li le spc st wo lo be k.toNat) (pgS cC R ac up li le spc wo be k t.toNat)) (SS cC R ac up li le spc wo be k t) (k * 100 + t) fj)]) (Bs1 := fun u => [BGue qu qh (q 0) (qm 0) qg (qt 0) kd wh, BFlt qg wo lo be, BPap G qt u 0 (fiU 0 (orM (msS cC R ac up li le spc st wo lo be k.toNat) (pgS cC R ac up li le spc wo be k t.toNat)) (SS cC R ac up li le spc wo be k t) (k * 100 + t) fj), BHan qh (q 0) (qm 0), BMsg G qm ac up li le pg spc, BCams G q st th R sp, BPap G qp wd N fi]) (As := [.ref qg, .ref (qt 0), .int (iI k), .int (iI t)]) (rest := []) (kX3_writeStep l D G qh qm ac up li le pg spc q st th R sp qg wo lo be qt v8 0 fj (orM (msS cC R ac up li le spc st wo lo be k.toNat) (pgS cC R ac up li le spc wo be k t.toNat)) k t (by first | assumption | omega) (by first | assumption | omega) (by first | assumption | omega) (by first | assumption | omega) (by first | assumption | omega) (by first | assumption | omega) (by first | assumption | omega) (by first | assumption | omega) (by first | assumption | omega) (by first | assumption | omega) (by first | assumption | omega) (by first | assumption | omega)) rfl ⟨hx, hcd, hml, hown, hts⟩ (cwV 4 hts gX2_fits_X3_writeStep rfl rfl rfl (by decide +kernel) ⟨by decide, by decide⟩) (q0 := 0) (ci := 3) rfl rfl rfl rfl hl.1 (Nat.le_of_ble_eq_true rfl) ⟨Nat.le_of_ble_eq_true rfl, Nat.le_of_ble_eq_true rfl⟩ dX2_fits_84 hK hP hD hS hA (perm_idx [3, 4, 5, 1, 2, 0, 6] rfl rfl) (fun _ => perm_idx [5, 3, 4, 0, 1, 2, 6] rfl rfl) (fun u H locs hw10 hP hD hS => ?_)
                obtain ⟨w29, rfl⟩ : ∃ z, z = u := ⟨_, rfl⟩
                rw [show BPap G qt w29 0 (fiU 0 (orM (msS cC R ac up li le spc st wo lo be k.toNat) (pgS cC R ac up li le spc wo be k t.toNat)) (SS cC R ac up li le spc wo be k t) (k * 100 + t) fj) = BPap G qt w29 0 fj from congrArg (fun z_ : Nat → Int => BPap G qt w29 0 z_) (show (fiU 0 (orM (msS cC R ac up li le spc st wo lo be k.toNat) (pgS cC R ac up li le spc wo be k t.toNat)) (SS cC R ac up li le spc wo be k t) (k * 100 + t) fj : Nat → Int) = fj from fiU_z _ _ _ _)] at hP hD
                refine lv_iinc (v := iI (t + 1)) (lv' := [(5, .int (iI (t + 1))), (0, .ref qu), (1, .ref (qp 0)), (2, .int (iI kn)), (3, .int (iI v)), (4, .int (iI k))]) hx hcd dX2_fits_87 hl (k := 5) rfl (iI_add _ _) (by decide) rfl (fun ls hl => ?_)
                refine lv_goto (tgt := 56) hx hcd dX2_fits_90 (by decide) ?_
                exact ih56 (t + 1) w29 _ _ _ (by omega) (by omega) (bits_ext (by assumption) (fun c => by rw [pgS_s (by omega)]; unfold orM; rw [Bool.or_assoc])) hP hD hS (lv_sub hl [1, 2, 3, 4, 5, 0] rfl)
          exact L56 (((st - 0) + 1 : Int)).toNat 0 v9 _ _ _ (by omega) (by omega) (bits_ext hw (fun c => by show _ = (_ || false); rw [Bool.or_false])) hP hD hS (lv_sub hl [1, 2, 3, 4, 5, 0] rfl)
        ·
          have hkl : k = lo := by
            by_cases e : k = lo
            · exact e
            · rw [if_neg e] at c47; exact absurd rfl c47
          have hms : msS cC R ac up li le spc st wo lo be (k + 1).toNat = msS cC R ac up li le spc st wo lo be k.toNat := by
            exact msS_l (by omega) hkl
          have hw7 : bits v9 (msS cC R ac up li le spc st wo lo be (k + 1).toNat) := by rw [hms]; exact hw
          have hin8 : ∀ c : Nat, c < 1216 → msS cC R ac up li le spc st wo lo be (k + 1).toNat c = true → M c = true := by rw [hms]; exact hin
          refine lv_goto (tgt := 106) hx hcd dX2_fits_50 (by decide) ?_
          try (have h101 : ∀ c : Nat, c < 1216 → orM (msS cC R ac up li le spc st wo lo be k.toNat) (pgS cC R ac up li le spc wo be k t.toNat) c = true → M c = true := (by
            by_cases q : ∀ c : Nat, c < 1216 → orM (msS cC R ac up li le spc st wo lo be k.toNat) (pgS cC R ac up li le spc wo be k t.toNat) c = true → M c = true
            · exact q
            · rw [if_neg q] at c101; exact absurd rfl c101))
          try (have hms : msS cC R ac up li le spc st wo lo be (k + 1).toNat = orM (msS cC R ac up li le spc st wo lo be k.toNat) (pgS cC R ac up li le spc wo be k t.toNat) := (by rw [msS_n (by omega) hkl, show st.toNat = t.toNat by omega]))
          try (have hw7 : bits v8 (msS cC R ac up li le spc st wo lo be (k + 1).toNat) := (by rw [hms]; exact hw8))
          try (have hin8 : ∀ c : Nat, c < 1216 → msS cC R ac up li le spc st wo lo be (k + 1).toNat c = true → M c = true := (by rw [hms]; exact h101))
          refine lv_iinc (v := iI (k + 1)) (lv' := [(4, .int (iI (k + 1))), (0, .ref qu), (1, .ref (qp 0)), (2, .int (iI kn)), (3, .int (iI v))]) hx hcd dX2_fits_106 hl (k := 4) rfl (iI_add _ _) (by decide) rfl (fun ls hl => ?_)
          refine lv_goto (tgt := 26) hx hcd dX2_fits_109 (by decide) ?_
          exact ih26 (k + 1) v9 _ _ _ (by omega) (by omega) (hw7) (hin8) hP hD hS (lv_sub hl [1, 2, 3, 4, 0] rfl)
  exact L26 (((pg - 0) + 1 : Int)).toNat 0 (filL 0 19 vd) _ _ _ (by omega) (by omega) (hMc) (fun c _ h => absurd h Bool.false_ne_true) hP hD hS (lv_sub hl [1, 2, 3, 4, 0] rfl)

abbrev rmX2_search : Room := { frames := 5, cells := 0, slots := 0, locals := 129 }
set_option maxHeartbeats 4000000 in
set_option maxRecDepth 100000 in
theorem kX2_search (l : Launch) (D : va_G) (G : Nat → ClassId) (qu : Nat) (qg : Nat) (qt : Nat → Nat) (kd : Int) (wh : Int) (w0 : Int) (l0 : Int) (b0 : Int) (vd : Nat → Int64) (fj : Nat → Int) (qh : Nat) (qm : Nat → Nat) (ac : Nat → Int) (up : Nat → Int) (li : Nat → Int) (le : Nat → Int) (pg : Int) (spc : Int) (q : Nat → Nat) (st : Int) (th : Nat → Int) (R : Nat → Nat → Int) (sp : Nat → Int) (qp : Nat → Nat) (wd : Nat → Int64) (N : Nat) (fi : Nat → Int) (M : Nat → Bool) (hst : 2 ≤ st ∧ st ≤ 16) (hR : ∀ i j, 0 ≤ R i j ∧ R i j ≤ 9) (hac : ∀ k, 0 ≤ ac k ∧ ac k ≤ 11) (hup : ∀ k, 0 ≤ up k ∧ up k ≤ 11) (hli : ∀ k, 0 ≤ li k ∧ li k ≤ 11) (hle : ∀ k, 0 ≤ le k ∧ le k ≤ 9) (hsp : 0 ≤ spc ∧ spc ≤ 9) (hpg : 0 ≤ pg ∧ pg ≤ 12) (hM : bits wd M) : CtV l yX2_search wsX2_search rmX2_search D G [.ref qu, .ref (qp 0)] [BGue qu qh (q 0) (qm 0) qg (qt 0) kd wh, BFlt qg w0 l0 b0, BPap G qt vd 0 fj, BHan qh (q 0) (qm 0), BMsg G qm ac up li le pg spc, BCams G q st th R sp, BPap G qp wd N fi] (fun u : Int × Int × Int × (Nat → Int64) => True) (fun u => [BGue qu qh (q 0) (qm 0) qg (qt 0) (exK (FFB 1216 cC R ac up li le spc st pg M) pg) (exW (FFB 1216 cC R ac up li le spc st pg M) pg), BFlt qg u.1 u.2.1 u.2.2.1, BPap G qt u.2.2.2 0 fj, BHan qh (q 0) (qm 0), BMsg G qm ac up li le pg spc, BCams G q st th R sp, BPap G qp wd N fi]) := by
  refine CtV.of (cc := cX2_search) (maxL := 5) (by decide) rfl (Nat.le_of_ble_eq_true rfl) ?_
  intro p0 e0 s0 m0 args bel met cd A0 ls Q0 hx hcd hml hown hts hK hP hD hA hl fin
  have hl : lv_has ls 5 [(0, .ref qu), (1, .ref (qp 0))] := hl
  have hS : va_S A0 s0.heap s0.heap [] := va_S.rf
  have hH : va_P D vwCl (fl [BGue qu qh (q 0) (qm 0) qg (qt 0) kd wh, BFlt qg w0 l0 b0, BPap G qt vd 0 fj, BHan qh (q 0) (qm 0), BMsg G qm ac up li le pg spc, BCams G q st th R sp, BPap G qp wd N fi]) s0.heap := hP
  obtain ⟨H, eH⟩ : ∃ H, H = s0.heap := ⟨_, rfl⟩
  obtain ⟨locs, eL⟩ : ∃ locs : List Loc, locs = [] := ⟨_, rfl⟩
  have hS : va_S A0 s0.heap H locs := by rw [eH, eL]; exact hS
  have hP : va_P D vwCl (fl [BGue qu qh (q 0) (qm 0) qg (qt 0) kd wh, BFlt qg w0 l0 b0, BPap G qt vd 0 fj, BHan qh (q 0) (qm 0), BMsg G qm ac up li le pg spc, BCams G q st th R sp, BPap G qp wd N fi]) H := by rw [eH]; exact hP
  suffices goal : W p0 l e0 rmX2_search s0 m0 args bel met cd H locs 0 0 Q0 (F0 m0 0 ls []) by rw [eH, eL] at goal; exact goal
  clear eH eL hH
  refine lv_aload_n hx hcd dX2_search_0 rfl (lv_at hl 0 rfl) ?_
  refine wi_iconst hx hcd dX2_search_1 ?_
  refine g_put (C := RX2) (T := TX2) (N := 7) hx hcd hts (fun _ h => List.mem_cons_of_mem _ (List.mem_append_left _ (List.mem_append_left _ (List.mem_append_left _ (List.mem_append_left _ (List.mem_append_left _ (List.mem_append_right _ h))))))) tyX2 tyX2_ok nmX2 hown hK hP hD hS (i := 0) rfl BGue_c0 rfl 5 (by decide) (by decide +kernel) rfl (by decide +kernel) (Nat.le_of_ble_eq_true rfl) (B1 := BGue qu qh (q 0) (qm 0) qg (qt 0) 0 wh) rfl (Bs1 := [BGue qu qh (q 0) (qm 0) qg (qt 0) 0 wh, BFlt qg w0 l0 b0, BPap G qt vd 0 fj, BHan qh (q 0) (qm 0), BMsg G qm ac up li le pg spc, BCams G q st th R sp, BPap G qp wd N fi]) rfl dX2_search_2 (fun H locs hP hD hS => ?_)
  refine lv_aload_n hx hcd dX2_search_5 rfl (lv_at hl 0 rfl) ?_
  refine wi_bipush hx hcd dX2_search_6 (by decide) ?_
  refine g_put (C := RX2) (T := TX2) (N := 7) hx hcd hts (fun _ h => List.mem_cons_of_mem _ (List.mem_append_left _ (List.mem_append_left _ (List.mem_append_left _ (List.mem_append_left _ (List.mem_append_left _ (List.mem_append_right _ h))))))) tyX2 tyX2_ok nmX2 hown hK hP hD hS (i := 0) rfl BGue_c0 rfl 6 (by decide) (by decide +kernel) rfl (by decide +kernel) (Nat.le_of_ble_eq_true rfl) (B1 := BGue qu qh (q 0) (qm 0) qg (qt 0) 0 (-9)) rfl (Bs1 := [BGue qu qh (q 0) (qm 0) qg (qt 0) 0 (-9), BFlt qg w0 l0 b0, BPap G qt vd 0 fj, BHan qh (q 0) (qm 0), BMsg G qm ac up li le pg spc, BCams G q st th R sp, BPap G qp wd N fi]) rfl dX2_search_8 (fun H locs hP hD hS => ?_)
  refine lv_aload_n hx hcd dX2_search_11 rfl (lv_at hl 0 rfl) ?_
  refine lv_aload_n hx hcd dX2_search_12 rfl (lv_at hl 1 rfl) ?_
  refine wi_iconst hx hcd dX2_search_13 ?_
  refine wi_iconst hx hcd dX2_search_14 ?_
  refine cV_i (wc := [BGue qu qh (q 0) (qm 0) qg (qt 0) 0 (-9), BFlt qg w0 l0 b0, BPap G qt vd 0 fj, BHan qh (q 0) (qm 0), BMsg G qm ac up li le pg spc, BCams G q st th R sp, BPap G qp wd N fi]) (wr := []) (w1 := fun u => [BGue qu qh (q 0) (qm 0) qg (qt 0) 0 (-9), BFlt qg (if (0 : Int) = 1 then 0 else -1) (if (0 : Int) = 2 then 0 else -1) (if (0 : Int) = 3 then 0 else -1), BPap G qt u 0 fj, BHan qh (q 0) (qm 0), BMsg G qm ac up li le pg spc, BCams G q st th R sp, BPap G qp wd N fi]) (Bs1 := fun u => [BGue qu qh (q 0) (qm 0) qg (qt 0) 0 (-9), BFlt qg (if (0 : Int) = 1 then 0 else -1) (if (0 : Int) = 2 then 0 else -1) (if (0 : Int) = 3 then 0 else -1), BPap G qt u 0 fj, BHan qh (q 0) (qm 0), BMsg G qm ac up li le pg spc, BCams G q st th R sp, BPap G qp wd N fi]) (As := [.ref (qp 0), .int (iI 0), .int (iI 0)]) (rest := []) (kX2_fits l D G qu qg qt 0 (-9) w0 l0 b0 vd fj qh qm ac up li le pg spc q st th R sp qp wd N fi M 0 0 (if (0 : Int) = 1 then 0 else -1) (if (0 : Int) = 2 then 0 else -1) (if (0 : Int) = 3 then 0 else -1) (by first | assumption | omega) (by first | assumption | omega) (by first | assumption | omega) (by first | assumption | omega) (by first | assumption | omega) (by first | assumption | omega) (by first | assumption | omega) (by first | assumption | omega) (by first | assumption | omega) (by omega) (by omega) (by omega) rfl rfl rfl) rfl ⟨hx, hcd, hml, hown, hts⟩ (cwV 3 hts gX2_search_X2_fits rfl rfl rfl (by decide +kernel) ⟨by decide, by decide⟩) (q0 := 0) (ci := 2) rfl rfl rfl rfl hl.1 (Nat.le_of_ble_eq_true rfl) ⟨Nat.le_of_ble_eq_true rfl, Nat.le_of_ble_eq_true rfl⟩ dX2_search_15 hK hP hD hS hA (perm_idx [0, 1, 2, 3, 4, 5, 6] rfl rfl) (fun _ => perm_idx [0, 1, 2, 3, 4, 5, 6] rfl rfl) (fun r u H locs hw2 hP hD hS => ?_)
  obtain ⟨v21, rfl⟩ : ∃ z, z = u := ⟨_, rfl⟩
  obtain ⟨rfl, hq3⟩ := hw2
  have hf9 : ∀ b : Bool, (if b = true then (1 : Int) else 0) = 0 ∨ (if b = true then (1 : Int) else 0) = 1 := fun b => by cases b <;> decide
  have hf8 := hf9 (fitB 1216 cC R ac up li le spc st pg M (if (0 : Int) = 1 then 0 else -1) (if (0 : Int) = 2 then 0 else -1) (if (0 : Int) = 3 then 0 else -1))
  refine wi_if_eq (tgt := 22) hx hcd (by omega) dX2_search_18 (by decide) (fun c18 => ?_) (fun c18 => ?_)
  ·
    have h00 : FFB 1216 cC R ac up li le spc st pg M 0 0 = false := by
      cases q : FFB 1216 cC R ac up li le spc st pg M 0 0 with
      | false => rfl
      | true => rw [show fitB 1216 cC R ac up li le spc st pg M (if (0 : Int) = 1 then 0 else -1) (if (0 : Int) = 2 then 0 else -1) (if (0 : Int) = 3 then 0 else -1) = true from q] at c18; exact absurd c18 (by decide)
    refine wi_iconst hx hcd dX2_search_22 ?_
    refine lv_istore_n (lv' := [(2, .int (iI 1)), (0, .ref qu), (1, .ref (qp 0))]) hx hcd dX2_search_23 rfl hl (by decide) rfl (fun ls hl => ?_)
    have L24 : ∀ (fu : Nat) (k : Int) (w9 : Int) (l9 : Int) (b9 : Int) (v9 : Nat → Int64) (H : Heap) (locs : List Loc) (ls : Array Slot), (4 - k < (fu : Int)) → (1 ≤ k ∧ k ≤ 4) → (∀ j : Int, 1 ≤ j → j < k → ∀ u : Nat, (u : Int) < prts pg j → FFB 1216 cC R ac up li le spc st pg M j u = false) → va_P D vwCl (fl [BGue qu qh (q 0) (qm 0) qg (qt 0) 0 (-9), BFlt qg w9 l9 b9, BPap G qt v9 0 fj, BHan qh (q 0) (qm 0), BMsg G qm ac up li le pg spc, BCams G q st th R sp, BPap G qp wd N fi]) H → va_D A0 (fl [BGue qu qh (q 0) (qm 0) qg (qt 0) 0 (-9), BFlt qg w9 l9 b9, BPap G qt v9 0 fj, BHan qh (q 0) (qm 0), BMsg G qm ac up li le pg spc, BCams G q st th R sp, BPap G qp wd N fi]) → va_S A0 s0.heap H locs → lv_has ls 5 [(0, .ref qu), (1, .ref (qp 0)), (2, .int (iI k))] → W p0 l e0 rmX2_search s0 m0 args bel met cd H locs 0 0 Q0 (F0 m0 24 ls []) := by
      intro fu
      induction fu with
      | zero =>
        intro k w9 l9 b9 v9 H locs ls hfu hk hp
        exact absurd hfu (by omega)
      | succ fu ih =>
        intro k w9 l9 b9 v9 H locs ls hfu hk hp hP hD hS hl
        have ih24 := ih
        clear ih
        refine lv_iload_n hx hcd dX2_search_24 rfl (lv_at hl 2 rfl) ?_
        refine wi_iconst hx hcd dX2_search_25 ?_
        refine wi_icmp_gt (tgt := 82) hx hcd (by omega) (by omega) dX2_search_26 (by decide) (fun c26 => ?_) (fun c26 => ?_)
        ·
          have hex := ex_no (F := FFB 1216 cC R ac up li le spc st pg M) (pg := pg) h00 (fun j a b u hu => hp j a (by omega) u hu)
          refine lv_aload_n hx hcd dX2_search_82 rfl (lv_at hl 0 rfl) ?_
          refine wi_bipush hx hcd dX2_search_83 (by decide) ?_
          refine g_put (C := RX2) (T := TX2) (N := 7) hx hcd hts (fun _ h => List.mem_cons_of_mem _ (List.mem_append_left _ (List.mem_append_left _ (List.mem_append_left _ (List.mem_append_left _ (List.mem_append_left _ (List.mem_append_right _ h))))))) tyX2 tyX2_ok nmX2 hown hK hP hD hS (i := 0) rfl BGue_c0 rfl 5 (by decide) (by decide +kernel) rfl (by decide +kernel) (Nat.le_of_ble_eq_true rfl) (B1 := BGue qu qh (q 0) (qm 0) qg (qt 0) (-9) (-9)) rfl (Bs1 := [BGue qu qh (q 0) (qm 0) qg (qt 0) (-9) (-9), BFlt qg w9 l9 b9, BPap G qt v9 0 fj, BHan qh (q 0) (qm 0), BMsg G qm ac up li le pg spc, BCams G q st th R sp, BPap G qp wd N fi]) rfl dX2_search_85 (fun H locs hP hD hS => ?_)
          rw [show BGue qu qh (q 0) (qm 0) qg (qt 0) (-9) (-9) = BGue qu qh (q 0) (qm 0) qg (qt 0) (exK (FFB 1216 cC R ac up li le spc st pg M) pg) (-9) from congrArg (fun z_ : Int => BGue qu qh (q 0) (qm 0) qg (qt 0) z_ (-9)) (show (-9 : Int) = (exK (FFB 1216 cC R ac up li le spc st pg M) pg) from hex.1.symm)] at hP hD
          rw [show BGue qu qh (q 0) (qm 0) qg (qt 0) (exK (FFB 1216 cC R ac up li le spc st pg M) pg) (-9) = BGue qu qh (q 0) (qm 0) qg (qt 0) (exK (FFB 1216 cC R ac up li le spc st pg M) pg) (exW (FFB 1216 cC R ac up li le spc st pg M) pg) from congrArg (fun z_ : Int => BGue qu qh (q 0) (qm 0) qg (qt 0) (exK (FFB 1216 cC R ac up li le spc st pg M) pg) z_) (show ((-9) : Int) = (exW (FFB 1216 cC R ac up li le spc st pg M) pg) from hex.2.symm)] at hP hD
          exact fin ⟨w9, l9, b9, v9⟩ H locs ls 88 dX2_search_88 hP hD hS (trivial)
        ·
          refine lv_aload_n hx hcd dX2_search_29 rfl (lv_at hl 0 rfl) ?_
          refine g_get (C := RX2) (T := TX2) (N := 7) hx hcd hts (fun _ h => List.mem_cons_of_mem _ (List.mem_append_left _ (List.mem_append_left _ (List.mem_append_left _ (List.mem_append_left _ (List.mem_append_left _ (List.mem_append_right _ h))))))) hown hK hP (i := 0) rfl BGue_c0 rfl 2 (by decide) (by decide +kernel) rfl dX2_search_30 ?_
          refine lv_iload_n hx hcd dX2_search_33 rfl (lv_at hl 2 rfl) ?_
          refine cV_i (wc := [BMsg G qm ac up li le pg spc]) (wr := [BGue qu qh (q 0) (qm 0) qg (qt 0) 0 (-9), BFlt qg w9 l9 b9, BPap G qt v9 0 fj, BHan qh (q 0) (qm 0), BCams G q st th R sp, BPap G qp wd N fi]) (w1 := fun _ => [BMsg G qm ac up li le pg spc]) (Bs1 := fun _ => [BGue qu qh (q 0) (qm 0) qg (qt 0) 0 (-9), BFlt qg w9 l9 b9, BPap G qt v9 0 fj, BHan qh (q 0) (qm 0), BMsg G qm ac up li le pg spc, BCams G q st th R sp, BPap G qp wd N fi]) (As := [.int (iI k)]) (rest := []) (kX5_partsOfKind l D G qm ac up li le pg spc k (by first | assumption | omega)) rfl ⟨hx, hcd, hml, hown, hts⟩ (cwV 1 hts gX2_search_X5_partsOfKind rfl rfl rfl (by decide +kernel) ⟨by decide, by decide⟩) (q0 := 0) (ci := 5) rfl rfl rfl rfl hl.1 (Nat.le_of_ble_eq_true rfl) ⟨Nat.le_of_ble_eq_true rfl, Nat.le_of_ble_eq_true rfl⟩ dX2_search_34 hK hP hD hS hA (perm_idx [4, 0, 1, 2, 3, 5, 6] rfl rfl) (fun _ => perm_idx [1, 2, 3, 4, 0, 5, 6] rfl rfl) (fun r u H locs hw4 hP hD hS => ?_)
          subst hw4
          have hpr : prts pg k = (if k = 1 then 12 else if k = 2 then pg else if k = 3 then 2 else 0) := rfl
          have hpk : 0 ≤ prts pg k ∧ prts pg k ≤ 12 ∧ (k = 3 → prts pg k ≤ 2) := by rw [hpr]; (repeat' split) <;> omega
          rw [show (if k = 1 then 12 else if k = 2 then pg else if k = 3 then 2 else 0 : Int) = prts pg k from rfl]
          refine lv_istore_n (lv' := [(3, .int (iI (prts pg k))), (0, .ref qu), (1, .ref (qp 0)), (2, .int (iI k))]) hx hcd dX2_search_37 rfl hl (by decide) rfl (fun ls hl => ?_)
          refine wi_iconst hx hcd dX2_search_38 ?_
          refine lv_istore (lv' := [(4, .int (iI 0)), (3, .int (iI (prts pg k))), (0, .ref qu), (1, .ref (qp 0)), (2, .int (iI k))]) hx hcd dX2_search_39 hl (by decide) rfl (fun ls hl => ?_)
          have L41 : ∀ (fu : Nat) (v : Int) (w8 : Int) (l8 : Int) (b8 : Int) (v8 : Nat → Int64) (H : Heap) (locs : List Loc) (ls : Array Slot), (prts pg k - v < (fu : Int)) → (0 ≤ v ∧ v ≤ prts pg k) → (∀ u : Nat, u < v.toNat → FFB 1216 cC R ac up li le spc st pg M k u = false) → va_P D vwCl (fl [BGue qu qh (q 0) (qm 0) qg (qt 0) 0 (-9), BFlt qg w8 l8 b8, BPap G qt v8 0 fj, BHan qh (q 0) (qm 0), BMsg G qm ac up li le pg spc, BCams G q st th R sp, BPap G qp wd N fi]) H → va_D A0 (fl [BGue qu qh (q 0) (qm 0) qg (qt 0) 0 (-9), BFlt qg w8 l8 b8, BPap G qt v8 0 fj, BHan qh (q 0) (qm 0), BMsg G qm ac up li le pg spc, BCams G q st th R sp, BPap G qp wd N fi]) → va_S A0 s0.heap H locs → lv_has ls 5 [(0, .ref qu), (1, .ref (qp 0)), (2, .int (iI k)), (3, .int (iI (prts pg k))), (4, .int (iI v))] → W p0 l e0 rmX2_search s0 m0 args bel met cd H locs 0 0 Q0 (F0 m0 41 ls []) := by
            intro fu
            induction fu with
            | zero =>
              intro v w8 l8 b8 v8 H locs ls hfu hv hj
              exact absurd hfu (by omega)
            | succ fu ih =>
              intro v w8 l8 b8 v8 H locs ls hfu hv hj hP hD hS hl
              have ih41 := ih
              clear ih
              refine lv_iload hx hcd dX2_search_41 (lv_at hl 4 rfl) ?_
              refine lv_iload_n hx hcd dX2_search_43 rfl (lv_at hl 3 rfl) ?_
              refine wi_icmp_ge (tgt := 76) hx hcd (by omega) (by omega) dX2_search_44 (by decide) (fun c44 => ?_) (fun c44 => ?_)
              ·
                refine lv_iinc (v := iI (k + 1)) (lv' := [(2, .int (iI (k + 1))), (0, .ref qu), (1, .ref (qp 0)), (3, .int (iI (prts pg k))), (4, .int (iI v))]) hx hcd dX2_search_76 hl (k := 2) rfl (iI_add _ _) (by decide) rfl (fun ls hl => ?_)
                refine lv_goto (tgt := 24) hx hcd dX2_search_79 (by decide) ?_
                exact ih24 (k + 1) w8 l8 b8 v8 _ _ _ (by omega) (by omega) (fun j a b u hu => by
              by_cases e : j = k
              · subst e; exact hj u (by omega)
              · exact hp j a (by omega) u hu) hP hD hS (lv_sub hl [1, 2, 0] rfl)
              ·
                refine lv_aload_n hx hcd dX2_search_47 rfl (lv_at hl 0 rfl) ?_
                refine lv_aload_n hx hcd dX2_search_48 rfl (lv_at hl 1 rfl) ?_
                refine lv_iload_n hx hcd dX2_search_49 rfl (lv_at hl 2 rfl) ?_
                refine lv_iload hx hcd dX2_search_50 (lv_at hl 4 rfl) ?_
                refine cV_i (wc := [BGue qu qh (q 0) (qm 0) qg (qt 0) 0 (-9), BFlt qg w8 l8 b8, BPap G qt v8 0 fj, BHan qh (q 0) (qm 0), BMsg G qm ac up li le pg spc, BCams G q st th R sp, BPap G qp wd N fi]) (wr := []) (w1 := fun u => [BGue qu qh (q 0) (qm 0) qg (qt 0) 0 (-9), BFlt qg (if k = 1 then v else -1) (if k = 2 then v else -1) (if k = 3 then v else -1), BPap G qt u 0 fj, BHan qh (q 0) (qm 0), BMsg G qm ac up li le pg spc, BCams G q st th R sp, BPap G qp wd N fi]) (Bs1 := fun u => [BGue qu qh (q 0) (qm 0) qg (qt 0) 0 (-9), BFlt qg (if k = 1 then v else -1) (if k = 2 then v else -1) (if k = 3 then v else -1), BPap G qt u 0 fj, BHan qh (q 0) (qm 0), BMsg G qm ac up li le pg spc, BCams G q st th R sp, BPap G qp wd N fi]) (As := [.ref (qp 0), .int (iI k), .int (iI v)]) (rest := []) (kX2_fits l D G qu qg qt 0 (-9) w8 l8 b8 v8 fj qh qm ac up li le pg spc q st th R sp qp wd N fi M k v (if k = 1 then v else -1) (if k = 2 then v else -1) (if k = 3 then v else -1) (by first | assumption | omega) (by first | assumption | omega) (by first | assumption | omega) (by first | assumption | omega) (by first | assumption | omega) (by first | assumption | omega) (by first | assumption | omega) (by first | assumption | omega) (by first | assumption | omega) (by omega) (by omega) (by omega) rfl rfl rfl) rfl ⟨hx, hcd, hml, hown, hts⟩ (cwV 3 hts gX2_search_X2_fits rfl rfl rfl (by decide +kernel) ⟨by decide, by decide⟩) (q0 := 0) (ci := 2) rfl rfl rfl rfl hl.1 (Nat.le_of_ble_eq_true rfl) ⟨Nat.le_of_ble_eq_true rfl, Nat.le_of_ble_eq_true rfl⟩ dX2_search_52 hK hP hD hS hA (perm_idx [0, 1, 2, 3, 4, 5, 6] rfl rfl) (fun _ => perm_idx [0, 1, 2, 3, 4, 5, 6] rfl rfl) (fun r u H locs hw6 hP hD hS => ?_)
                obtain ⟨v25, rfl⟩ : ∃ z, z = u := ⟨_, rfl⟩
                obtain ⟨rfl, hq7⟩ := hw6
                have hf9 : ∀ b : Bool, (if b = true then (1 : Int) else 0) = 0 ∨ (if b = true then (1 : Int) else 0) = 1 := fun b => by cases b <;> decide
                have hf8 := hf9 (fitB 1216 cC R ac up li le spc st pg M (if k = 1 then v else -1) (if k = 2 then v else -1) (if k = 3 then v else -1))
                refine wi_if_eq (tgt := 70) hx hcd (by omega) dX2_search_55 (by decide) (fun c55 => ?_) (fun c55 => ?_)
                ·
                  have hvv : FFB 1216 cC R ac up li le spc st pg M k v.toNat = false := by
                    unfold FFB
                    rw [show ((v.toNat : Nat) : Int) = v by omega]
                    cases q : fitB 1216 cC R ac up li le spc st pg M (if k = 1 then v else -1) (if k = 2 then v else -1) (if k = 3 then v else -1) with
                    | false => rfl
                    | true => rw [q] at c55; exact absurd c55 (by decide)
                  refine lv_iinc (v := iI (v + 1)) (lv' := [(4, .int (iI (v + 1))), (0, .ref qu), (1, .ref (qp 0)), (2, .int (iI k)), (3, .int (iI (prts pg k)))]) hx hcd dX2_search_70 hl (k := 4) rfl (iI_add _ _) (by decide) rfl (fun ls hl => ?_)
                  refine lv_goto (tgt := 41) hx hcd dX2_search_73 (by decide) ?_
                  exact ih41 (v + 1) (if k = 1 then v else -1) (if k = 2 then v else -1) (if k = 3 then v else -1) v25 _ _ _ (by omega) (by omega) (fun u h => by
              by_cases e : u = v.toNat
              · rw [e]; exact hvv
              · exact hj u (by omega)) hP hD hS (lv_sub hl [1, 2, 3, 4, 0] rfl)
                ·
                  have hvv : FFB 1216 cC R ac up li le spc st pg M k v.toNat = true := by
                    unfold FFB
                    rw [show ((v.toNat : Nat) : Int) = v by omega]
                    cases q : fitB 1216 cC R ac up li le spc st pg M (if k = 1 then v else -1) (if k = 2 then v else -1) (if k = 3 then v else -1) with
                    | true => rfl
                    | false => rw [q] at c55; exact absurd rfl c55
                  have hex := ex_at (F := FFB 1216 cC R ac up li le spc st pg M) (pg := pg) (k := k) (v := v) h00 (by omega) hp (by omega) hj hvv
                  refine lv_aload_n hx hcd dX2_search_58 rfl (lv_at hl 0 rfl) ?_
                  refine lv_iload_n hx hcd dX2_search_59 rfl (lv_at hl 2 rfl) ?_
                  refine g_put (C := RX2) (T := TX2) (N := 7) hx hcd hts (fun _ h => List.mem_cons_of_mem _ (List.mem_append_left _ (List.mem_append_left _ (List.mem_append_left _ (List.mem_append_left _ (List.mem_append_left _ (List.mem_append_right _ h))))))) tyX2 tyX2_ok nmX2 hown hK hP hD hS (i := 0) rfl BGue_c0 rfl 5 (by decide) (by decide +kernel) rfl (by decide +kernel) (Nat.le_of_ble_eq_true rfl) (B1 := BGue qu qh (q 0) (qm 0) qg (qt 0) k (-9)) rfl (Bs1 := [BGue qu qh (q 0) (qm 0) qg (qt 0) k (-9), BFlt qg (if k = 1 then v else -1) (if k = 2 then v else -1) (if k = 3 then v else -1), BPap G qt v25 0 fj, BHan qh (q 0) (qm 0), BMsg G qm ac up li le pg spc, BCams G q st th R sp, BPap G qp wd N fi]) rfl dX2_search_60 (fun H locs hP hD hS => ?_)
                  refine lv_aload_n hx hcd dX2_search_63 rfl (lv_at hl 0 rfl) ?_
                  refine lv_iload hx hcd dX2_search_64 (lv_at hl 4 rfl) ?_
                  refine g_put (C := RX2) (T := TX2) (N := 7) hx hcd hts (fun _ h => List.mem_cons_of_mem _ (List.mem_append_left _ (List.mem_append_left _ (List.mem_append_left _ (List.mem_append_left _ (List.mem_append_left _ (List.mem_append_right _ h))))))) tyX2 tyX2_ok nmX2 hown hK hP hD hS (i := 0) rfl BGue_c0 rfl 6 (by decide) (by decide +kernel) rfl (by decide +kernel) (Nat.le_of_ble_eq_true rfl) (B1 := BGue qu qh (q 0) (qm 0) qg (qt 0) k v) rfl (Bs1 := [BGue qu qh (q 0) (qm 0) qg (qt 0) k v, BFlt qg (if k = 1 then v else -1) (if k = 2 then v else -1) (if k = 3 then v else -1), BPap G qt v25 0 fj, BHan qh (q 0) (qm 0), BMsg G qm ac up li le pg spc, BCams G q st th R sp, BPap G qp wd N fi]) rfl dX2_search_66 (fun H locs hP hD hS => ?_)
                  rw [show BGue qu qh (q 0) (qm 0) qg (qt 0) k v = BGue qu qh (q 0) (qm 0) qg (qt 0) (exK (FFB 1216 cC R ac up li le spc st pg M) pg) v from congrArg (fun z_ : Int => BGue qu qh (q 0) (qm 0) qg (qt 0) z_ v) (show (k : Int) = (exK (FFB 1216 cC R ac up li le spc st pg M) pg) from hex.1.symm)] at hP hD
                  rw [show BGue qu qh (q 0) (qm 0) qg (qt 0) (exK (FFB 1216 cC R ac up li le spc st pg M) pg) v = BGue qu qh (q 0) (qm 0) qg (qt 0) (exK (FFB 1216 cC R ac up li le spc st pg M) pg) (exW (FFB 1216 cC R ac up li le spc st pg M) pg) from congrArg (fun z_ : Int => BGue qu qh (q 0) (qm 0) qg (qt 0) (exK (FFB 1216 cC R ac up li le spc st pg M) pg) z_) (show (v : Int) = (exW (FFB 1216 cC R ac up li le spc st pg M) pg) from hex.2.symm)] at hP hD
                  exact fin ⟨(if k = 1 then v else -1), (if k = 2 then v else -1), (if k = 3 then v else -1), v25⟩ H locs ls 69 dX2_search_69 hP hD hS (trivial)
          exact L41 (((prts pg k - 0) + 1 : Int)).toNat 0 w9 l9 b9 v9 _ _ _ (by omega) (by omega) (fun u h => absurd h (by omega)) hP hD hS (lv_sub hl [2, 3, 4, 1, 0] rfl)
    exact L24 (((4 - 1) + 1 : Int)).toNat 1 (if (0 : Int) = 1 then 0 else -1) (if (0 : Int) = 2 then 0 else -1) (if (0 : Int) = 3 then 0 else -1) v21 _ _ _ (by omega) (by omega) (fun j a b => absurd b (by omega)) hP hD hS (lv_sub hl [1, 2, 0] rfl)
  ·
    have h00 : FFB 1216 cC R ac up li le spc st pg M 0 0 = true := by
      cases q : FFB 1216 cC R ac up li le spc st pg M 0 0 with
      | true => rfl
      | false => exact absurd (by rw [show fitB 1216 cC R ac up li le spc st pg M (if (0 : Int) = 1 then 0 else -1) (if (0 : Int) = 2 then 0 else -1) (if (0 : Int) = 3 then 0 else -1) = false from q]; rfl) c18
    rw [show BGue qu qh (q 0) (qm 0) qg (qt 0) 0 (-9) = BGue qu qh (q 0) (qm 0) qg (qt 0) (exK (FFB 1216 cC R ac up li le spc st pg M) pg) (-9) from congrArg (fun z_ : Int => BGue qu qh (q 0) (qm 0) qg (qt 0) z_ (-9)) (show (0 : Int) = (exK (FFB 1216 cC R ac up li le spc st pg M) pg) from (ex_00 h00).1.symm)] at hP hD
    rw [show BGue qu qh (q 0) (qm 0) qg (qt 0) (exK (FFB 1216 cC R ac up li le spc st pg M) pg) (-9) = BGue qu qh (q 0) (qm 0) qg (qt 0) (exK (FFB 1216 cC R ac up li le spc st pg M) pg) (exW (FFB 1216 cC R ac up li le spc st pg M) pg) from congrArg (fun z_ : Int => BGue qu qh (q 0) (qm 0) qg (qt 0) (exK (FFB 1216 cC R ac up li le spc st pg M) pg) z_) (show ((-9) : Int) = (exW (FFB 1216 cC R ac up li le spc st pg M) pg) from (ex_00 h00).2.symm)] at hP hD
    exact fin ⟨(if (0 : Int) = 1 then 0 else -1), (if (0 : Int) = 2 then 0 else -1), (if (0 : Int) = 3 then 0 else -1), v21⟩ H locs ls 21 dX2_search_21 hP hD hS (trivial)
