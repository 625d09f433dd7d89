abbrev rmX8_isCam : Room := { frames := 0, cells := 0, slots := 0, locals := 0 }
set_option maxHeartbeats 4000000 in
set_option maxRecDepth 100000 in
theorem kX8_isCam (l : Launch) (D : va_G) (G : Nat → ClassId) (c : Int) (hc : -2147483648 ≤ c ∧ c < 2147483648) : CtI l yX8_isCam wsX8_isCam rmX8_isCam D G [.int (iI c)] [] (fun (r : Int32) (_ : Unit) => r = iI (if 0 ≤ c ∧ c < 12 then 1 else 0)) (fun _ => []) := by
  refine CtI.ofZ (cc := cX8_isCam) (maxL := 1) (by decide) rfl (Nat.le_of_ble_eq_true rfl) ?_
  intro p0 e0 s0 m0 args bel met cd A0 ls Q0 hx hcd hml hown hts hK hP hD hA hl fin
  have hl : lv_has ls 1 [(0, .int (iI c))] := hl
  have hS : va_S A0 s0.heap s0.heap [] := va_S.rf
  have hH : va_P D vwCl (fl []) s0.heap := hP
  obtain ⟨H, eH⟩ : ∃ H, H = s0.heap := ⟨_, rfl⟩
  obtain ⟨locs, eL⟩ : ∃ locs : List Loc, locs = [] := ⟨_, rfl⟩
  have hS : va_S A0 s0.heap H locs := by rw [eH, eL]; exact hS
  have hP : va_P D vwCl (fl []) H := by rw [eH]; exact hP
  suffices goal : W p0 l e0 rmX8_isCam s0 m0 args bel met cd H locs 0 0 Q0 (F0 m0 0 ls []) by rw [eH, eL] at goal; exact goal
  clear eH eL hH
  refine lv_iload_n hx hcd dX8_isCam_0 rfl (lv_at hl 0 rfl) ?_
  refine wi_if_lt (tgt := 14) hx hcd (by omega) dX8_isCam_1 (by decide) (fun c1 => ?_) (fun c1 => ?_)
  ·
    refine wi_iconst hx hcd dX8_isCam_14 ?_
    exact fin _ () H locs ls 15 dX8_isCam_15 hP hD hS (by decide) (congrArg iI (by first | rfl | (rw [if_pos (by omega)]) | (rw [if_neg (by omega)]) | (split <;> omega)))
  ·
    refine lv_iload_n hx hcd dX8_isCam_4 rfl (lv_at hl 0 rfl) ?_
    refine wi_bipush hx hcd dX8_isCam_5 (by decide) ?_
    refine wi_icmp_ge (tgt := 14) hx hcd (by omega) (by omega) dX8_isCam_7 (by decide) (fun c7 => ?_) (fun c7 => ?_)
    ·
      refine wi_iconst hx hcd dX8_isCam_14 ?_
      exact fin _ () H locs ls 15 dX8_isCam_15 hP hD hS (by decide) (congrArg iI (by first | rfl | (rw [if_pos (by omega)]) | (rw [if_neg (by omega)]) | (split <;> omega)))
    ·
      refine wi_iconst hx hcd dX8_isCam_10 ?_
      refine lv_goto (tgt := 15) hx hcd dX8_isCam_11 (by decide) ?_
      exact fin _ () H locs ls 15 dX8_isCam_15 hP hD hS (by decide) (congrArg iI (by first | rfl | (rw [if_pos (by omega)]) | (rw [if_neg (by omega)]) | (split <;> omega)))

abbrev rmX8_isLetter : Room := { frames := 0, cells := 0, slots := 0, locals := 0 }
set_option maxHeartbeats 4000000 in
set_option maxRecDepth 100000 in
theorem kX8_isLetter (l : Launch) (D : va_G) (G : Nat → ClassId) (c : Int) (hc : -2147483648 ≤ c ∧ c < 2147483648) : CtI l yX8_isLetter wsX8_isLetter rmX8_isLetter D G [.int (iI c)] [] (fun (r : Int32) (_ : Unit) => r = iI (if 0 ≤ c ∧ c < 10 then 1 else 0)) (fun _ => []) := by
  refine CtI.ofZ (cc := cX8_isLetter) (maxL := 1) (by decide) rfl (Nat.le_of_ble_eq_true rfl) ?_
  intro p0 e0 s0 m0 args bel met cd A0 ls Q0 hx hcd hml hown hts hK hP hD hA hl fin
  have hl : lv_has ls 1 [(0, .int (iI c))] := hl
  have hS : va_S A0 s0.heap s0.heap [] := va_S.rf
  have hH : va_P D vwCl (fl []) s0.heap := hP
  obtain ⟨H, eH⟩ : ∃ H, H = s0.heap := ⟨_, rfl⟩
  obtain ⟨locs, eL⟩ : ∃ locs : List Loc, locs = [] := ⟨_, rfl⟩
  have hS : va_S A0 s0.heap H locs := by rw [eH, eL]; exact hS
  have hP : va_P D vwCl (fl []) H := by rw [eH]; exact hP
  suffices goal : W p0 l e0 rmX8_isLetter s0 m0 args bel met cd H locs 0 0 Q0 (F0 m0 0 ls []) by rw [eH, eL] at goal; exact goal
  clear eH eL hH
  refine lv_iload_n hx hcd dX8_isLetter_0 rfl (lv_at hl 0 rfl) ?_
  refine wi_if_lt (tgt := 14) hx hcd (by omega) dX8_isLetter_1 (by decide) (fun c1 => ?_) (fun c1 => ?_)
  ·
    refine wi_iconst hx hcd dX8_isLetter_14 ?_
    exact fin _ () H locs ls 15 dX8_isLetter_15 hP hD hS (by decide) (congrArg iI (by first | rfl | (rw [if_pos (by omega)]) | (rw [if_neg (by omega)]) | (split <;> omega)))
  ·
    refine lv_iload_n hx hcd dX8_isLetter_4 rfl (lv_at hl 0 rfl) ?_
    refine wi_bipush hx hcd dX8_isLetter_5 (by decide) ?_
    refine wi_icmp_ge (tgt := 14) hx hcd (by omega) (by omega) dX8_isLetter_7 (by decide) (fun c7 => ?_) (fun c7 => ?_)
    ·
      refine wi_iconst hx hcd dX8_isLetter_14 ?_
      exact fin _ () H locs ls 15 dX8_isLetter_15 hP hD hS (by decide) (congrArg iI (by first | rfl | (rw [if_pos (by omega)]) | (rw [if_neg (by omega)]) | (split <;> omega)))
    ·
      refine wi_iconst hx hcd dX8_isLetter_10 ?_
      refine lv_goto (tgt := 15) hx hcd dX8_isLetter_11 (by decide) ?_
      exact fin _ () H locs ls 15 dX8_isLetter_15 hP hD hS (by decide) (congrArg iI (by first | rfl | (rw [if_pos (by omega)]) | (rw [if_neg (by omega)]) | (split <;> omega)))

abbrev rmX8_refuse : Room := { frames := 0, cells := 0, slots := 0, locals := 0 }
set_option maxHeartbeats 4000000 in
set_option maxRecDepth 100000 in
theorem kX8_refuse (l : Launch) (D : va_G) (G : Nat → ClassId) (qT : Nat) (qr : Nat) (q : Nat → Nat) (qm : Nat → Nat) (qs : Nat) (qp : Nat → Nat) (qf : Nat) (qh : Nat) (qu : Nat) (qk : Nat → Nat) (rf : Nat → Int) (sh : Int) (dn : Int) (v : Int) (hv : -7 ≤ v ∧ v ≤ -1) : CtI l yX8_refuse wsX8_refuse rmX8_refuse D G [.ref qT, .int (iI v)] [BTop G qT qr (q 0) (qm 0) qs (qp 0) qf qh qu (qk 0) rf sh dn] (fun (r : Int32) (_ : Unit) => r = iI v) (fun _ => [BTop G qT qr (q 0) (qm 0) qs (qp 0) qf qh qu (qk 0) (rfu rf v) sh dn]) := by
  refine CtI.ofI (cc := cX8_refuse) (maxL := 3) (by decide) rfl (Nat.le_of_ble_eq_true rfl) ?_
  intro p0 e0 s0 m0 args bel met cd A0 ls Q0 hx hcd hml hown hts hK hP hD hA hl fin
  have hl : lv_has ls 3 [(0, .ref qT), (1, .int (iI v))] := hl
  have hS : va_S A0 s0.heap s0.heap [] := va_S.rf
  have hH : va_P D vwCl (fl [BTop G qT qr (q 0) (qm 0) qs (qp 0) qf qh qu (qk 0) rf sh dn]) s0.heap := hP
  obtain ⟨H, eH⟩ : ∃ H, H = s0.heap := ⟨_, rfl⟩
  obtain ⟨locs, eL⟩ : ∃ locs : List Loc, locs = [] := ⟨_, rfl⟩
  have hS : va_S A0 s0.heap H locs := by rw [eH, eL]; exact hS
  have hP : va_P D vwCl (fl [BTop G qT qr (q 0) (qm 0) qs (qp 0) qf qh qu (qk 0) rf sh dn]) H := by rw [eH]; exact hP
  suffices goal : W p0 l e0 rmX8_refuse s0 m0 args bel met cd H locs 0 0 Q0 (F0 m0 0 ls []) by rw [eH, eL] at goal; exact goal
  clear eH eL hH
  refine wi_iconst hx hcd dX8_refuse_0 ?_
  refine lv_iload_n hx hcd dX8_refuse_1 rfl (lv_at hl 1 rfl) ?_
  refine wi_isub hx hcd dX8_refuse_2 ?_
  refine lv_istore_n (lv' := [(2, .int (iI ((-1) - v))), (0, .ref qT), (1, .int (iI v))]) hx hcd dX8_refuse_3 rfl hl (by decide) rfl (fun ls hl => ?_)
  refine lv_iload_n hx hcd dX8_refuse_4 rfl (lv_at hl 0 rfl) ?_
  refine wi_if_lt (tgt := 27) hx hcd (by omega) dX8_refuse_5 (by decide) (fun c5 => ?_) (fun c5 => ?_)
  ·
    exfalso
    omega
  ·
    refine lv_iload_n hx hcd dX8_refuse_8 rfl (lv_at hl 0 rfl) ?_
    refine lv_aload_n hx hcd dX8_refuse_9 rfl (lv_at hl 1 rfl) ?_
    refine g_get (C := RX8) (T := TX8) (N := 11) hx hcd hts (fun _ h => List.mem_cons_of_mem _ (List.mem_append_right _ h)) hown hK hP (i := 0) rfl BTop_c0 rfl 8 (by decide) (by decide +kernel) rfl dX8_refuse_10 ?_
    refine g_alen hx hcd hK hP 0 (i := 0) rfl BTop_c1 rfl (n := 7) rfl dX8_refuse_13 ?_
    refine wi_icmp_ge (tgt := 27) hx hcd (by omega) (by omega) dX8_refuse_14 (by decide) (fun c14 => ?_) (fun c14 => ?_)
    ·
      exfalso
      omega
    ·
      refine lv_aload_n hx hcd dX8_refuse_17 rfl (lv_at hl 1 rfl) ?_
      refine g_get (C := RX8) (T := TX8) (N := 11) hx hcd hts (fun _ h => List.mem_cons_of_mem _ (List.mem_append_right _ h)) hown hK hP (i := 0) rfl BTop_c0 rfl 8 (by decide) (by decide +kernel) rfl dX8_refuse_18 ?_
      refine lv_iload_n hx hcd dX8_refuse_21 rfl (lv_at hl 0 rfl) ?_
      refine lv_dup2_11 hx hcd dX8_refuse_22 rfl rfl ?_
      refine g_iald hx hcd hK hP (i := 0) rfl BTop_c1 (by omega) (by decide) dX8_refuse_23 ?_
      refine wi_iconst hx hcd dX8_refuse_24 ?_
      refine wi_iadd hx hcd dX8_refuse_25 ?_
      refine g_iast hx hcd hK hP hD hS (i := 0) rfl BTop_c1 (by omega) (by decide) (B1 := BTop G qT qr (q 0) (qm 0) qs (qp 0) qf qh qu (qk 0) (va_up rf (((-1) - v).toNat) ((rf (((-1) - v).toNat)) + 1)) sh dn) rfl (Bs1 := [BTop G qT qr (q 0) (qm 0) qs (qp 0) qf qh qu (qk 0) (va_up rf (((-1) - v).toNat) ((rf (((-1) - v).toNat)) + 1)) sh dn]) rfl dX8_refuse_26 (fun H locs hP hD hS => ?_)
      refine lv_iload_n hx hcd dX8_refuse_27 rfl (lv_at hl 2 rfl) ?_
      rw [show BTop G qT qr (q 0) (qm 0) qs (qp 0) qf qh qu (qk 0) (va_up rf (((-1) - v).toNat) ((rf (((-1) - v).toNat)) + 1)) sh dn = BTop G qT qr (q 0) (qm 0) qs (qp 0) qf qh qu (qk 0) (rfu rf v) sh dn from congrArg (fun z_ : Nat → Int => BTop G qT qr (q 0) (qm 0) qs (qp 0) qf qh qu (qk 0) z_ sh dn) (show (va_up rf (((-1) - v).toNat) ((rf (((-1) - v).toNat)) + 1) : Nat → Int) = (rfu rf v) from by first | rfl | exact (if_pos (by omega)).symm | exact (if_neg (by omega)).symm | (rw [if_pos (by omega)]) | (rw [if_neg (by omega)]))] at hP hD
      exact fin _ () H locs ls 28 dX8_refuse_28 hP hD hS (trivial) (rfl)

abbrev rmX8_refusalsTold : Room := { frames := 0, cells := 0, slots := 0, locals := 0 }
set_option maxHeartbeats 4000000 in
set_option maxRecDepth 100000 in
theorem kX8_refusalsTold (l : Launch) (D : va_G) (G : Nat → ClassId) (qT : Nat) (qr : Nat) (q : Nat → Nat) (qm : Nat → Nat) (qs : Nat) (qp : Nat → Nat) (qf : Nat) (qh : Nat) (qu : Nat) (qk : Nat → Nat) (rf : Nat → Int) (sh : Int) (dn : Int) (v : Int) (hv : -2147483648 ≤ v ∧ v < 2147483648) : CtI l yX8_refusalsTold wsX8_refusalsTold rmX8_refusalsTold D G [.ref qT, .int (iI v)] [BTop G qT qr (q 0) (qm 0) qs (qp 0) qf qh qu (qk 0) rf sh dn] (fun (r : Int32) (_ : Unit) => r = iI (if 0 ≤ v ∧ v < 7 then rf v.toNat else -9)) (fun _ => [BTop G qT qr (q 0) (qm 0) qs (qp 0) qf qh qu (qk 0) rf sh dn]) := by
  refine CtI.ofI (cc := cX8_refusalsTold) (maxL := 2) (by decide) rfl (Nat.le_of_ble_eq_true rfl) ?_
  intro p0 e0 s0 m0 args bel met cd A0 ls Q0 hx hcd hml hown hts hK hP hD hA hl fin
  have hl : lv_has ls 2 [(0, .ref qT), (1, .int (iI v))] := hl
  have hS : va_S A0 s0.heap s0.heap [] := va_S.rf
  have hH : va_P D vwCl (fl [BTop G qT qr (q 0) (qm 0) qs (qp 0) qf qh qu (qk 0) rf sh dn]) s0.heap := hP
  obtain ⟨H, eH⟩ : ∃ H, H = s0.heap := ⟨_, rfl⟩
  obtain ⟨locs, eL⟩ : ∃ locs : List Loc, locs = [] := ⟨_, rfl⟩
  have hS : va_S A0 s0.heap H locs := by rw [eH, eL]; exact hS
  have hP : va_P D vwCl (fl [BTop G qT qr (q 0) (qm 0) qs (qp 0) qf qh qu (qk 0) rf sh dn]) H := by rw [eH]; exact hP
  suffices goal : W p0 l e0 rmX8_refusalsTold s0 m0 args bel met cd H locs 0 0 Q0 (F0 m0 0 ls []) by rw [eH, eL] at goal; exact goal
  clear eH eL hH
  refine lv_iload_n hx hcd dX8_refusalsTold_0 rfl (lv_at hl 1 rfl) ?_
  refine wi_if_lt (tgt := 22) hx hcd (by omega) dX8_refusalsTold_1 (by decide) (fun c1 => ?_) (fun c1 => ?_)
  ·
    refine wi_bipush hx hcd dX8_refusalsTold_22 (by decide) ?_
    exact fin _ () H locs ls 24 dX8_refusalsTold_24 hP hD hS (trivial) (congrArg iI (by first | rfl | (rw [if_pos (by omega)]) | (rw [if_neg (by omega)]) | (split <;> omega)))
  ·
    refine lv_iload_n hx hcd dX8_refusalsTold_4 rfl (lv_at hl 1 rfl) ?_
    refine lv_aload_n hx hcd dX8_refusalsTold_5 rfl (lv_at hl 0 rfl) ?_
    refine g_get (C := RX8) (T := TX8) (N := 11) hx hcd hts (fun _ h => List.mem_cons_of_mem _ (List.mem_append_right _ h)) hown hK hP (i := 0) rfl BTop_c0 rfl 8 (by decide) (by decide +kernel) rfl dX8_refusalsTold_6 ?_
    refine g_alen hx hcd hK hP 0 (i := 0) rfl BTop_c1 rfl (n := 7) rfl dX8_refusalsTold_9 ?_
    refine wi_icmp_ge (tgt := 22) hx hcd (by omega) (by omega) dX8_refusalsTold_10 (by decide) (fun c10 => ?_) (fun c10 => ?_)
    ·
      refine wi_bipush hx hcd dX8_refusalsTold_22 (by decide) ?_
      exact fin _ () H locs ls 24 dX8_refusalsTold_24 hP hD hS (trivial) (congrArg iI (by first | rfl | (rw [if_pos (by omega)]) | (rw [if_neg (by omega)]) | (split <;> omega)))
    ·
      refine lv_aload_n hx hcd dX8_refusalsTold_13 rfl (lv_at hl 0 rfl) ?_
      refine g_get (C := RX8) (T := TX8) (N := 11) hx hcd hts (fun _ h => List.mem_cons_of_mem _ (List.mem_append_right _ h)) hown hK hP (i := 0) rfl BTop_c0 rfl 8 (by decide) (by decide +kernel) rfl dX8_refusalsTold_14 ?_
      refine lv_iload_n hx hcd dX8_refusalsTold_17 rfl (lv_at hl 1 rfl) ?_
      refine g_iald hx hcd hK hP (i := 0) rfl BTop_c1 (by omega) (by decide) dX8_refusalsTold_18 ?_
      refine lv_goto (tgt := 24) hx hcd dX8_refusalsTold_19 (by decide) ?_
      exact fin _ () H locs ls 24 dX8_refusalsTold_24 hP hD hS (trivial) (congrArg iI (by first | rfl | (rw [if_pos (by omega)]) | (rw [if_neg (by omega)]) | (split <;> omega)))

abbrev rmX8_refusalOfCam : Room := { frames := 1, cells := 0, slots := 0, locals := 21 }
set_option maxHeartbeats 4000000 in
set_option maxRecDepth 100000 in
theorem kX8_refusalOfCam (l : Launch) (D : va_G) (G : Nat → ClassId) (qT : Nat) (qr : Nat) (q : Nat → Nat) (qm : Nat → Nat) (qs : Nat) (qp : Nat → Nat) (qf : Nat) (qh : Nat) (qu : Nat) (qk : Nat → Nat) (rf : Nat → Int) (sh : Int) (dn : Int) (st : Int) (th : Nat → Int) (R : Nat → Nat → Int) (sp : Nat → Int) (c : Int) (hth : ∀ k, th k = 0 ∨ th k = 1) (hc : -2147483648 ≤ c ∧ c < 2147483648) : CtI l yX8_refusalOfCam wsX8_refusalOfCam rmX8_refusalOfCam D G [.ref qT, .int (iI c)] [BTop G qT qr (q 0) (qm 0) qs (qp 0) qf qh qu (qk 0) rf sh dn, BCams G q st th R sp] (fun (r : Int32) (_ : Unit) => r = iI (rC th c)) (fun _ => [BTop G qT qr (q 0) (qm 0) qs (qp 0) qf qh qu (qk 0) rf sh dn, BCams G q st th R sp]) := by
  refine CtI.ofI (cc := cX8_refusalOfCam) (maxL := 2) (by decide) rfl (Nat.le_of_ble_eq_true rfl) ?_
  intro p0 e0 s0 m0 args bel met cd A0 ls Q0 hx hcd hml hown hts hK hP hD hA hl fin
  have hl : lv_has ls 2 [(0, .ref qT), (1, .int (iI c))] := hl
  have hS : va_S A0 s0.heap s0.heap [] := va_S.rf
  have hH : va_P D vwCl (fl [BTop G qT qr (q 0) (qm 0) qs (qp 0) qf qh qu (qk 0) rf sh dn, BCams G q st th R sp]) s0.heap := hP
  obtain ⟨H, eH⟩ : ∃ H, H = s0.heap := ⟨_, rfl⟩
  obtain ⟨locs, eL⟩ : ∃ locs : List Loc, locs = [] := ⟨_, rfl⟩
  have hS : va_S A0 s0.heap H locs := by rw [eH, eL]; exact hS
  have hP : va_P D vwCl (fl [BTop G qT qr (q 0) (qm 0) qs (qp 0) qf qh qu (qk 0) rf sh dn, BCams G q st th R sp]) H := by rw [eH]; exact hP
  suffices goal : W p0 l e0 rmX8_refusalOfCam s0 m0 args bel met cd H locs 0 0 Q0 (F0 m0 0 ls []) by rw [eH, eL] at goal; exact goal
  clear eH eL hH
  refine lv_iload_n hx hcd dX8_refusalOfCam_0 rfl (lv_at hl 1 rfl) ?_
  refine cS_i (wc := []) (wr := [BTop G qT qr (q 0) (qm 0) qs (qp 0) qf qh qu (qk 0) rf sh dn, BCams G q st th R sp]) (w1 := fun _ => []) (Bs1 := fun _ => [BTop G qT qr (q 0) (qm 0) qs (qp 0) qf qh qu (qk 0) rf sh dn, BCams G q st th R sp]) (As := [.int (iI c)]) (rest := []) (kX8_isCam l D G c (by first | assumption | omega)) rfl ⟨hx, hcd, hml, hown, hts⟩ (va_cwS 1 hts gX8_refusalOfCam_X8_isCam rfl rfl rfl (by decide +kernel) ⟨by decide, by decide⟩) rfl hl.1 (Nat.le_of_ble_eq_true rfl) ⟨Nat.le_of_ble_eq_true rfl, Nat.le_of_ble_eq_true rfl⟩ dX8_refusalOfCam_1 hK hP hD hS hA (perm_i2 [0, 1] 2 rfl (by decide) rfl) (fun _ => perm_i2 [0, 1] 2 rfl (by decide) rfl) (fun r u H locs hw1 hP hD hS => ?_)
  subst hw1
  have hic := if01 (0 ≤ c ∧ c < 12)
  refine wi_if_ne (tgt := 9) hx hcd (by omega) dX8_refusalOfCam_4 (by decide) (fun c4 => ?_) (fun c4 => ?_)
  ·
    refine lv_aload_n hx hcd dX8_refusalOfCam_9 rfl (lv_at hl 0 rfl) ?_
    refine g_get (C := RX8) (T := TX8) (N := 11) hx hcd hts (fun _ h => List.mem_cons_of_mem _ (List.mem_append_left _ (List.mem_append_right _ h))) hown hK hP (i := 0) rfl BTop_c0 rfl 0 (by decide) (by decide +kernel) rfl dX8_refusalOfCam_10 ?_
    refine lv_iload_n hx hcd dX8_refusalOfCam_13 rfl (lv_at hl 1 rfl) ?_
    refine cV_i (wc := [BCams G q st th R sp]) (wr := [BTop G qT qr (q 0) (qm 0) qs (qp 0) qf qh qu (qk 0) rf sh dn]) (w1 := fun _ => [BCams G q st th R sp]) (Bs1 := fun _ => [BTop G qT qr (q 0) (qm 0) qs (qp 0) qf qh qu (qk 0) rf sh dn, BCams G q st th R sp]) (As := [.int (iI c)]) (rest := []) (kX0_isThere l D G q st th R sp c (hth _) (by first | assumption | omega)) rfl ⟨hx, hcd, hml, hown, hts⟩ (cwV 1 hts gX8_refusalOfCam_X0_isThere rfl rfl rfl (by decide +kernel) ⟨by decide, by decide⟩) (q0 := 0) (ci := 0) rfl rfl rfl rfl hl.1 (Nat.le_of_ble_eq_true rfl) ⟨Nat.le_of_ble_eq_true rfl, Nat.le_of_ble_eq_true rfl⟩ dX8_refusalOfCam_14 hK hP hD hS hA (perm_i2 [1, 0] 2 rfl (by decide) rfl) (fun _ => perm_i2 [1, 0] 2 rfl (by decide) rfl) (fun r u H locs hw2 hP hD hS => ?_)
    subst hw2
    have := hth c.toNat
    refine wi_if_eq (tgt := 24) hx hcd (by omega) dX8_refusalOfCam_17 (by decide) (fun c17 => ?_) (fun c17 => ?_)
    ·
      refine wi_bipush hx hcd dX8_refusalOfCam_24 (by decide) ?_
      exact fin _ () H locs ls 26 dX8_refusalOfCam_26 hP hD hS (trivial) (congrArg iI (by unfold rC; (repeat' split) <;> omega))
    ·
      refine wi_iconst hx hcd dX8_refusalOfCam_20 ?_
      refine lv_goto (tgt := 26) hx hcd dX8_refusalOfCam_21 (by decide) ?_
      exact fin _ () H locs ls 26 dX8_refusalOfCam_26 hP hD hS (trivial) (congrArg iI (by unfold rC; (repeat' split) <;> omega))
  ·
    refine wi_iconst hx hcd dX8_refusalOfCam_7 ?_
    exact fin _ () H locs ls 8 dX8_refusalOfCam_8 hP hD hS (trivial) (congrArg iI (by unfold rC; (repeat' split) <;> omega))

abbrev rmX8_refusalOfStep : Room := { frames := 2, cells := 0, slots := 0, locals := 42 }
set_option maxHeartbeats 4000000 in
set_option maxRecDepth 100000 in
theorem kX8_refusalOfStep (l : Launch) (D : va_G) (G : Nat → ClassId) (qT : Nat) (qr : Nat) (q : Nat → Nat) (qm : Nat → Nat) (qs : Nat) (qp : Nat → Nat) (qf : Nat) (qh : Nat) (qu : Nat) (qk : Nat → Nat) (rf : Nat → Int) (sh : Int) (dn : Int) (st : Int) (th : Nat → Int) (R : Nat → Nat → Int) (sp : Nat → Int) (c : Int) (t : Int) (hth : ∀ k, th k = 0 ∨ th k = 1) (hst : 2 ≤ st ∧ st ≤ 16) (hc : -2147483648 ≤ c ∧ c < 2147483648) (ht : -2147483648 ≤ t ∧ t < 2147483648) : CtI l yX8_refusalOfStep wsX8_refusalOfStep rmX8_refusalOfStep D G [.ref qT, .int (iI c), .int (iI t)] [BTop G qT qr (q 0) (qm 0) qs (qp 0) qf qh qu (qk 0) rf sh dn, BCams G q st th R sp] (fun (r : Int32) (_ : Unit) => r = iI (rS th st c t)) (fun _ => [BTop G qT qr (q 0) (qm 0) qs (qp 0) qf qh qu (qk 0) rf sh dn, BCams G q st th R sp]) := by
  refine CtI.ofI (cc := cX8_refusalOfStep) (maxL := 4) (by decide) rfl (Nat.le_of_ble_eq_true rfl) ?_
  intro p0 e0 s0 m0 args bel met cd A0 ls Q0 hx hcd hml hown hts hK hP hD hA hl fin
  have hl : lv_has ls 4 [(0, .ref qT), (1, .int (iI c)), (2, .int (iI t))] := hl
  have hS : va_S A0 s0.heap s0.heap [] := va_S.rf
  have hH : va_P D vwCl (fl [BTop G qT qr (q 0) (qm 0) qs (qp 0) qf qh qu (qk 0) rf sh dn, BCams G q st th R sp]) s0.heap := hP
  obtain ⟨H, eH⟩ : ∃ H, H = s0.heap := ⟨_, rfl⟩
  obtain ⟨locs, eL⟩ : ∃ locs : List Loc, locs = [] := ⟨_, rfl⟩
  have hS : va_S A0 s0.heap H locs := by rw [eH, eL]; exact hS
  have hP : va_P D vwCl (fl [BTop G qT qr (q 0) (qm 0) qs (qp 0) qf qh qu (qk 0) rf sh dn, BCams G q st th R sp]) H := by rw [eH]; exact hP
  suffices goal : W p0 l e0 rmX8_refusalOfStep s0 m0 args bel met cd H locs 0 0 Q0 (F0 m0 0 ls []) by rw [eH, eL] at goal; exact goal
  clear eH eL hH
  have hrc := rC_rng th c
  refine lv_aload_n hx hcd dX8_refusalOfStep_0 rfl (lv_at hl 0 rfl) ?_
  refine lv_iload_n hx hcd dX8_refusalOfStep_1 rfl (lv_at hl 1 rfl) ?_
  refine cV_i (wc := [BTop G qT qr (q 0) (qm 0) qs (qp 0) qf qh qu (qk 0) rf sh dn, BCams G q st th R sp]) (wr := []) (w1 := fun _ => [BTop G qT qr (q 0) (qm 0) qs (qp 0) qf qh qu (qk 0) rf sh dn, BCams G q st th R sp]) (Bs1 := fun _ => [BTop G qT qr (q 0) (qm 0) qs (qp 0) qf qh qu (qk 0) rf sh dn, BCams G q st th R sp]) (As := [.int (iI c)]) (rest := []) (kX8_refusalOfCam l D G qT qr q qm qs qp qf qh qu qk rf sh dn st th R sp c (by first | assumption | omega) (by first | assumption | omega)) rfl ⟨hx, hcd, hml, hown, hts⟩ (cwV 1 hts gX8_refusalOfStep_X8_refusalOfCam rfl rfl rfl (by decide +kernel) ⟨by decide, by decide⟩) (q0 := 0) (ci := 8) rfl rfl rfl rfl hl.1 (Nat.le_of_ble_eq_true rfl) ⟨Nat.le_of_ble_eq_true rfl, Nat.le_of_ble_eq_true rfl⟩ dX8_refusalOfStep_2 hK hP hD hS hA (perm_i2 [0, 1] 2 rfl (by decide) rfl) (fun _ => perm_i2 [0, 1] 2 rfl (by decide) rfl) (fun r u H locs hw1 hP hD hS => ?_)
  subst hw1
  refine lv_istore_n (lv' := [(3, .int (iI (rC th c))), (0, .ref qT), (1, .int (iI c)), (2, .int (iI t))]) hx hcd dX8_refusalOfStep_5 rfl hl (by decide) rfl (fun ls hl => ?_)
  refine lv_iload_n hx hcd dX8_refusalOfStep_6 rfl (lv_at hl 0 rfl) ?_
  refine wi_if_eq (tgt := 12) hx hcd (by omega) dX8_refusalOfStep_7 (by decide) (fun c7 => ?_) (fun c7 => ?_)
  ·
    refine lv_iload_n hx hcd dX8_refusalOfStep_12 rfl (lv_at hl 3 rfl) ?_
    refine wi_if_lt (tgt := 31) hx hcd (by omega) dX8_refusalOfStep_13 (by decide) (fun c13 => ?_) (fun c13 => ?_)
    ·
      refine wi_bipush hx hcd dX8_refusalOfStep_31 (by decide) ?_
      exact fin _ () H locs ls 33 dX8_refusalOfStep_33 hP hD hS (trivial) (congrArg iI (by unfold rS; (repeat' split) <;> omega))
    ·
      refine lv_iload_n hx hcd dX8_refusalOfStep_16 rfl (lv_at hl 3 rfl) ?_
      refine lv_aload_n hx hcd dX8_refusalOfStep_17 rfl (lv_at hl 1 rfl) ?_
      refine g_get (C := RX8) (T := TX8) (N := 11) hx hcd hts (fun _ h => List.mem_cons_of_mem _ (List.mem_append_left _ (List.mem_append_right _ h))) hown hK hP (i := 0) rfl BTop_c0 rfl 0 (by decide) (by decide +kernel) rfl dX8_refusalOfStep_18 ?_
      refine cV_i (wc := [BCams G q st th R sp]) (wr := [BTop G qT qr (q 0) (qm 0) qs (qp 0) qf qh qu (qk 0) rf sh dn]) (w1 := fun _ => [BCams G q st th R sp]) (Bs1 := fun _ => [BTop G qT qr (q 0) (qm 0) qs (qp 0) qf qh qu (qk 0) rf sh dn, BCams G q st th R sp]) (As := []) (rest := [.int (iI t)]) (kX0_steps l D G q st th R sp ) rfl ⟨hx, hcd, hml, hown, hts⟩ (cwV 0 hts gX8_refusalOfStep_X0_steps rfl rfl rfl (by decide +kernel) ⟨by decide, by decide⟩) (q0 := 0) (ci := 0) rfl rfl rfl rfl hl.1 (Nat.le_of_ble_eq_true rfl) ⟨Nat.le_of_ble_eq_true rfl, Nat.le_of_ble_eq_true rfl⟩ dX8_refusalOfStep_21 hK hP hD hS hA (perm_i2 [1, 0] 2 rfl (by decide) rfl) (fun _ => perm_i2 [1, 0] 2 rfl (by decide) rfl) (fun r u H locs hw2 hP hD hS => ?_)
      subst hw2
      refine wi_icmp_ge (tgt := 31) hx hcd (by omega) (by omega) dX8_refusalOfStep_24 (by decide) (fun c24 => ?_) (fun c24 => ?_)
      ·
        refine wi_bipush hx hcd dX8_refusalOfStep_31 (by decide) ?_
        exact fin _ () H locs ls 33 dX8_refusalOfStep_33 hP hD hS (trivial) (congrArg iI (by unfold rS; (repeat' split) <;> omega))
      ·
        refine wi_iconst hx hcd dX8_refusalOfStep_27 ?_
        refine lv_goto (tgt := 33) hx hcd dX8_refusalOfStep_28 (by decide) ?_
        exact fin _ () H locs ls 33 dX8_refusalOfStep_33 hP hD hS (trivial) (congrArg iI (by unfold rS; (repeat' split) <;> omega))
  ·
    refine lv_iload_n hx hcd dX8_refusalOfStep_10 rfl (lv_at hl 0 rfl) ?_
    exact fin _ () H locs ls 11 dX8_refusalOfStep_11 hP hD hS (trivial) (congrArg iI (by unfold rS; (repeat' split) <;> omega))

abbrev rmX8_refusalOfMaker : Room := { frames := 2, cells := 0, slots := 0, locals := 42 }
set_option maxHeartbeats 4000000 in
set_option maxRecDepth 100000 in
theorem kX8_refusalOfMaker (l : Launch) (D : va_G) (G : Nat → ClassId) (qT : Nat) (qr : Nat) (q : Nat → Nat) (qm : Nat → Nat) (qs : Nat) (qp : Nat → Nat) (qf : Nat) (qh : Nat) (qu : Nat) (qk : Nat → Nat) (rf : Nat → Int) (sh : Int) (dn : Int) (st : Int) (th : Nat → Int) (R : Nat → Nat → Int) (sp : Nat → Int) (c : Int) (k : Int) (hth : ∀ k, th k = 0 ∨ th k = 1) (hc : -2147483648 ≤ c ∧ c < 2147483648) (hk : -2147483648 ≤ k ∧ k < 2147483648) : CtI l yX8_refusalOfMaker wsX8_refusalOfMaker rmX8_refusalOfMaker D G [.ref qT, .int (iI c), .int (iI k)] [BTop G qT qr (q 0) (qm 0) qs (qp 0) qf qh qu (qk 0) rf sh dn, BCams G q st th R sp] (fun (r : Int32) (_ : Unit) => r = iI (if 0 ≤ k ∧ k < 4 then rC th c else -1)) (fun _ => [BTop G qT qr (q 0) (qm 0) qs (qp 0) qf qh qu (qk 0) rf sh dn, BCams G q st th R sp]) := by
  refine CtI.ofI (cc := cX8_refusalOfMaker) (maxL := 3) (by decide) rfl (Nat.le_of_ble_eq_true rfl) ?_
  intro p0 e0 s0 m0 args bel met cd A0 ls Q0 hx hcd hml hown hts hK hP hD hA hl fin
  have hl : lv_has ls 3 [(0, .ref qT), (1, .int (iI c)), (2, .int (iI k))] := hl
  have hS : va_S A0 s0.heap s0.heap [] := va_S.rf
  have hH : va_P D vwCl (fl [BTop G qT qr (q 0) (qm 0) qs (qp 0) qf qh qu (qk 0) rf sh dn, BCams G q st th R sp]) s0.heap := hP
  obtain ⟨H, eH⟩ : ∃ H, H = s0.heap := ⟨_, rfl⟩
  obtain ⟨locs, eL⟩ : ∃ locs : List Loc, locs = [] := ⟨_, rfl⟩
  have hS : va_S A0 s0.heap H locs := by rw [eH, eL]; exact hS
  have hP : va_P D vwCl (fl [BTop G qT qr (q 0) (qm 0) qs (qp 0) qf qh qu (qk 0) rf sh dn, BCams G q st th R sp]) H := by rw [eH]; exact hP
  suffices goal : W p0 l e0 rmX8_refusalOfMaker s0 m0 args bel met cd H locs 0 0 Q0 (F0 m0 0 ls []) by rw [eH, eL] at goal; exact goal
  clear eH eL hH
  refine lv_iload_n hx hcd dX8_refusalOfMaker_0 rfl (lv_at hl 2 rfl) ?_
  refine wi_if_lt (tgt := 9) hx hcd (by omega) dX8_refusalOfMaker_1 (by decide) (fun c1 => ?_) (fun c1 => ?_)
  ·
    refine wi_iconst hx hcd dX8_refusalOfMaker_9 ?_
    exact fin _ () H locs ls 10 dX8_refusalOfMaker_10 hP hD hS (trivial) (congrArg iI (by first | rfl | (rw [if_pos (by omega)]) | (rw [if_neg (by omega)]) | (split <;> omega)))
  ·
    refine lv_iload_n hx hcd dX8_refusalOfMaker_4 rfl (lv_at hl 2 rfl) ?_
    refine wi_iconst hx hcd dX8_refusalOfMaker_5 ?_
    refine wi_icmp_lt (tgt := 11) hx hcd (by omega) (by omega) dX8_refusalOfMaker_6 (by decide) (fun c6 => ?_) (fun c6 => ?_)
    ·
      refine lv_aload_n hx hcd dX8_refusalOfMaker_11 rfl (lv_at hl 0 rfl) ?_
      refine lv_iload_n hx hcd dX8_refusalOfMaker_12 rfl (lv_at hl 1 rfl) ?_
      refine cV_i (wc := [BTop G qT qr (q 0) (qm 0) qs (qp 0) qf qh qu (qk 0) rf sh dn, BCams G q st th R sp]) (wr := []) (w1 := fun _ => [BTop G qT qr (q 0) (qm 0) qs (qp 0) qf qh qu (qk 0) rf sh dn, BCams G q st th R sp]) (Bs1 := fun _ => [BTop G qT qr (q 0) (qm 0) qs (qp 0) qf qh qu (qk 0) rf sh dn, BCams G q st th R sp]) (As := [.int (iI c)]) (rest := []) (kX8_refusalOfCam l D G qT qr q qm qs qp qf qh qu qk rf sh dn st th R sp c (by first | assumption | omega) (by first | assumption | omega)) rfl ⟨hx, hcd, hml, hown, hts⟩ (cwV 1 hts gX8_refusalOfMaker_X8_refusalOfCam rfl rfl rfl (by decide +kernel) ⟨by decide, by decide⟩) (q0 := 0) (ci := 8) rfl rfl rfl rfl hl.1 (Nat.le_of_ble_eq_true rfl) ⟨Nat.le_of_ble_eq_true rfl, Nat.le_of_ble_eq_true rfl⟩ dX8_refusalOfMaker_13 hK hP hD hS hA (perm_i2 [0, 1] 2 rfl (by decide) rfl) (fun _ => perm_i2 [0, 1] 2 rfl (by decide) rfl) (fun r u H locs hw1 hP hD hS => ?_)
      subst hw1
      exact fin _ () H locs ls 16 dX8_refusalOfMaker_16 hP hD hS (trivial) (congrArg iI (by first | rfl | (rw [if_pos (by omega)]) | (rw [if_neg (by omega)]) | (split <;> omega)))
    ·
      refine wi_iconst hx hcd dX8_refusalOfMaker_9 ?_
      exact fin _ () H locs ls 10 dX8_refusalOfMaker_10 hP hD hS (trivial) (congrArg iI (by first | rfl | (rw [if_pos (by omega)]) | (rw [if_neg (by omega)]) | (split <;> omega)))
