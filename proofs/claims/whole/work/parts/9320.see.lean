section OPS
variable {p0 : Program} {l : Launch} {e0 : Env} {s0 : State} {m0 : MethodId} {bel : List Frame} {met : Method} {cd : Code} {Q0 : State → Prop} {D : va_G} {G : Nat → ClassId} {A0 : Nat → Prop} {bS : Nat} {LL : Nat} {xs : Nat → Int32} {qT : Nat} {qr : Nat} {q : Nat → Nat} {qm : Nat → Nat} {qs : Nat} {qp : Nat → Nat} {qf : Nat} {qh : Nat} {qu : Nat} {qk : Nat → Nat} {qg : Nat} {qt : Nat → Nat} {qM : Nat → Nat}
set_option maxHeartbeats 4000000 in
set_option maxRecDepth 100000 in
theorem op_see {i0 : Int} (F : LFix p0 s0 m0 cd D G A0 bS LL xs) (hi : 0 ≤ i0 ∧ i0 + 6 ≤ (LL : Int)) (nx : LGo p0 l e0 s0 m0 bel met cd Q0 D G A0 bS qT qr q qm qs qp qf qh qu qk qg qt qM i0 (32 * (i0 + 6)) 970) : LGo p0 l e0 s0 m0 bel met cd Q0 D G A0 bS qT qr q qm qs qp qf qh qu qk qg qt qM i0 (32 * i0) 730 := by
  obtain ⟨hx, hcd, hml, hown, hts, hK, hA, hX, hbl, hbA, hLL⟩ := F
  intro rf sh dn st th R sp ac up li le pg spc pw ld sn tk ss wd fi pp ps wo lo be kd wh w0 l0 b0 vd fj hb tt tm mbt mle mbo mwo mlo mbe mmk mms mwh H locs ls hinv hP hD hS hl
  obtain ⟨hst, hth, hR, hac, hup, hli, hle, hpg, hsp, hpw, hld, hss, hrel, hpq, hwo, hlo, hbe, hht, htt, hmk⟩ := hinv
  have hP : va_P D vwCl (fl [BTop G qT qr (q 0) (qm 0) qs (qp 0) qf qh qu (qk 0) rf sh dn, BCams G q st th R sp, BMsg G qm ac up li le pg spc, BSpr qs pw ld sn tk ss, BPap G qp wd 1200 fi, BFlt qf wo lo be, BHan qh (q 0) (qm 0), BGue qu qh (q 0) (qm 0) qg (qt 0) kd wh, BFlt qg w0 l0 b0, BPap G qt vd 0 fj, BMak G qk hb tt tm, BMod G qM st th (cmOf R) ac up li pg le spc pw ld (wr ss) sn tk ss sh dn pp ps (faOf wo lo be) (hbOf hb) tt (sh1 rf) mbt mle mbo mwo mlo mbe mmk mms mwh]) H := hP
  have hD : va_D A0 (fl [BTop G qT qr (q 0) (qm 0) qs (qp 0) qf qh qu (qk 0) rf sh dn, BCams G q st th R sp, BMsg G qm ac up li le pg spc, BSpr qs pw ld sn tk ss, BPap G qp wd 1200 fi, BFlt qf wo lo be, BHan qh (q 0) (qm 0), BGue qu qh (q 0) (qm 0) qg (qt 0) kd wh, BFlt qg w0 l0 b0, BPap G qt vd 0 fj, BMak G qk hb tt tm, BMod G qM st th (cmOf R) ac up li pg le spc pw ld (wr ss) sn tk ss sh dn pp ps (faOf wo lo be) (hbOf hb) tt (sh1 rf) mbt mle mbo mwo mlo mbe mmk mms mwh]) := hD
  have hhb : ∀ i j, 0 ≤ hb i j ∧ hb i j ≤ 1000 := fun i j => ⟨(hht i j).1, Int.le_trans (hht i j).2 (htt i).2⟩
  have hss9 : 0 ≤ ss ∧ ss < 900000 := by omega
  have hss8 : 0 ≤ ss ∧ ss ≤ 32 * (i0 + 6) := by omega
  obtain ⟨x, hv_x⟩ : ∃ z_, (xs (i0 + 1).toNat).toInt = z_ := ⟨_, rfl⟩
  have hx_ : -2147483648 ≤ x ∧ x < 2147483648 := by rw [← hv_x]; exact ib_rng _
  obtain ⟨yy, hv_yy⟩ : ∃ z_, (xs (i0 + 2).toNat).toInt = z_ := ⟨_, rfl⟩
  have hyy_ : -2147483648 ≤ yy ∧ yy < 2147483648 := by rw [← hv_yy]; exact ib_rng _
  obtain ⟨z3, hv_z3⟩ : ∃ z_, (xs (i0 + 3).toNat).toInt = z_ := ⟨_, rfl⟩
  have hz3_ : -2147483648 ≤ z3 ∧ z3 < 2147483648 := by rw [← hv_z3]; exact ib_rng _
  obtain ⟨on, hond⟩ : ∃ z_ : Int, z_ = if z3 = 0 then 0 else 1 := ⟨_, rfl⟩
  have hon : on = 0 ∨ on = 1 := by rw [hond]; split <;> omega
  refine lv_aload_n hx hcd dL_law_730 rfl (lv_at hl 1 rfl) ?_
  refine lv_aload_n hx hcd dL_law_731 rfl (lv_at hl 0 rfl) ?_
  refine lv_iload_n hx hcd dL_law_732 rfl (lv_at hl 3 rfl) ?_
  refine wi_iconst hx hcd dL_law_733 ?_
  refine wi_iadd hx hcd dL_law_734 ?_
  refine w_sld hx hcd hX hbl hbA hS hLL (by omega) hv_x dL_law_735 ?_
  refine lv_aload_n hx hcd dL_law_736 rfl (lv_at hl 0 rfl) ?_
  refine lv_iload_n hx hcd dL_law_737 rfl (lv_at hl 3 rfl) ?_
  refine wi_iconst hx hcd dL_law_738 ?_
  refine wi_iadd hx hcd dL_law_739 ?_
  refine w_sld hx hcd hX hbl hbA hS hLL (by omega) hv_yy dL_law_740 ?_
  refine lv_aload_n hx hcd dL_law_741 rfl (lv_at hl 0 rfl) ?_
  refine lv_iload_n hx hcd dL_law_742 rfl (lv_at hl 3 rfl) ?_
  refine wi_iconst hx hcd dL_law_743 ?_
  refine wi_iadd hx hcd dL_law_744 ?_
  refine w_sld hx hcd hX hbl hbA hS hLL (by omega) hv_z3 dL_law_745 ?_
  have K754 : W p0 l e0 room_1 s0 m0 #[Value.ref bS] bel met cd H locs 60 7999 Q0 (F0 m0 754 ls [.int (iI on), .int (iI yy), .int (iI x), .ref qT]) := by
    refine cV_i (wc := [BTop G qT qr (q 0) (qm 0) qs (qp 0) qf qh qu (qk 0) rf sh dn, BCams G q st th R sp, BMsg G qm ac up li le pg spc, BSpr qs pw ld sn tk ss, BPap G qp wd 1200 fi, BFlt qf wo lo be, BHan qh (q 0) (qm 0), BGue qu qh (q 0) (qm 0) qg (qt 0) kd wh, BFlt qg w0 l0 b0, BPap G qt vd 0 fj, BMak G qk hb tt tm]) (wr := [BMod G qM st th (cmOf R) ac up li pg le spc pw ld (wr ss) sn tk ss sh dn pp ps (faOf wo lo be) (hbOf hb) tt (sh1 rf) mbt mle mbo mwo mlo mbe mmk mms mwh]) (w1 := fun (u : (Nat → Int64) × (Nat → Int)) => [BTop G qT qr (q 0) (qm 0) qs (qp 0) qf qh qu (qk 0) (rfx rf (if plc x yy then (if (0 ≤ pp (cM x yy)) ↔ on = 1 then 0 else 1) else -1)) sh dn, BCams G q st th R sp, BMsg G qm ac up li le pg spc, BSpr qs pw ld sn tk ss, BPap G qp u.1 1200 u.2, BFlt qf wo lo be, BHan qh (q 0) (qm 0), BGue qu qh (q 0) (qm 0) qg (qt 0) kd wh, BFlt qg w0 l0 b0, BPap G qt vd 0 fj, BMak G qk hb tt tm]) (Bs1 := fun (u : (Nat → Int64) × (Nat → Int)) => [BTop G qT qr (q 0) (qm 0) qs (qp 0) qf qh qu (qk 0) (rfx rf (if plc x yy then (if (0 ≤ pp (cM x yy)) ↔ on = 1 then 0 else 1) else -1)) sh dn, BCams G q st th R sp, BMsg G qm ac up li le pg spc, BSpr qs pw ld sn tk ss, BPap G qp u.1 1200 u.2, BFlt qf wo lo be, BHan qh (q 0) (qm 0), BGue qu qh (q 0) (qm 0) qg (qt 0) kd wh, BFlt qg w0 l0 b0, BPap G qt vd 0 fj, BMak G qk hb tt tm, BMod G qM st th (cmOf R) ac up li pg le spc pw ld (wr ss) sn tk ss sh dn pp ps (faOf wo lo be) (hbOf hb) tt (sh1 rf) mbt mle mbo mwo mlo mbe mmk mms mwh]) (As := [.int (iI x), .int (iI yy), .int (iI on)]) (rest := []) (kX8_see l D G qT qr q qm qs qp qf qh qu qk rf sh dn st th R sp ac up li le pg spc pw ld sn tk ss wd fi pp ps wo lo be qg qt kd wh w0 l0 b0 vd fj hb tt tm x yy on hst hth hR hac hup hli hle hpg hsp hpw hld hss9 hrel hpq hwo hlo hbe hhb htt hx_ hyy_ hon) rfl ⟨hx, hcd, hml, hown, hts⟩ (cwV 3 hts gL_law_X8_see rfl rfl rfl (by decide +kernel) ⟨by decide, by decide⟩) (q0 := 0) (ci := 8) rfl rfl rfl rfl hl.1 (Nat.le_of_ble_eq_true rfl) ⟨Nat.le_of_ble_eq_true rfl, Nat.le_of_ble_eq_true rfl⟩ dL_law_754 hK hP hD hS hA (perm_i2 [0, 1, 2, 3, 4, 5, 6, 7, 8, 9, 10, 11] 12 rfl (by decide) rfl) (fun _ => perm_i2 [0, 1, 2, 3, 4, 5, 6, 7, 8, 9, 10, 11] 12 rfl (by decide) rfl) (fun r u H locs hw3 hP hD hS => ?_)
    obtain ⟨w21, f22⟩ := u
    dsimp only at hw3 hP hD
    obtain ⟨rfl, hq4⟩ := hw3
    refine lv_aload_n hx hcd dL_law_757 rfl (lv_at hl 2 rfl) ?_
    refine lv_aload_n hx hcd dL_law_758 rfl (lv_at hl 0 rfl) ?_
    refine lv_iload_n hx hcd dL_law_759 rfl (lv_at hl 3 rfl) ?_
    refine wi_iconst hx hcd dL_law_760 ?_
    refine wi_iadd hx hcd dL_law_761 ?_
    refine w_sld hx hcd hX hbl hbA hS hLL (by omega) hv_x dL_law_762 ?_
    refine lv_aload_n hx hcd dL_law_763 rfl (lv_at hl 0 rfl) ?_
    refine lv_iload_n hx hcd dL_law_764 rfl (lv_at hl 3 rfl) ?_
    refine wi_iconst hx hcd dL_law_765 ?_
    refine wi_iadd hx hcd dL_law_766 ?_
    refine w_sld hx hcd hX hbl hbA hS hLL (by omega) hv_yy dL_law_767 ?_
    refine lv_aload_n hx hcd dL_law_768 rfl (lv_at hl 0 rfl) ?_
    refine lv_iload_n hx hcd dL_law_769 rfl (lv_at hl 3 rfl) ?_
    refine wi_iconst hx hcd dL_law_770 ?_
    refine wi_iadd hx hcd dL_law_771 ?_
    refine w_sld hx hcd hX hbl hbA hS hLL (by omega) hv_z3 dL_law_772 ?_
    have K781 : W p0 l e0 room_1 s0 m0 #[Value.ref bS] bel met cd H locs 60 7999 Q0 (F0 m0 781 ls [.int (iI on), .int (iI yy), .int (iI x), .ref (qM 0), .int (iI (if plc x yy then (if (0 ≤ pp (cM x yy)) ↔ on = 1 then 0 else 1) else -1))]) := by
      refine cV_i (wc := [BMod G qM st th (cmOf R) ac up li pg le spc pw ld (wr ss) sn tk ss sh dn pp ps (faOf wo lo be) (hbOf hb) tt (sh1 rf) mbt mle mbo mwo mlo mbe mmk mms mwh]) (wr := [BTop G qT qr (q 0) (qm 0) qs (qp 0) qf qh qu (qk 0) (rfx rf (if plc x yy then (if (0 ≤ pp (cM x yy)) ↔ on = 1 then 0 else 1) else -1)) sh dn, BCams G q st th R sp, BMsg G qm ac up li le pg spc, BSpr qs pw ld sn tk ss, BPap G qp w21 1200 f22, BFlt qf wo lo be, BHan qh (q 0) (qm 0), BGue qu qh (q 0) (qm 0) qg (qt 0) kd wh, BFlt qg w0 l0 b0, BPap G qt vd 0 fj, BMak G qk hb tt tm]) (w1 := fun (_ : Unit) => [BMod G qM st th (cmOf R) ac up li pg le spc pw ld (wr ss) sn tk ss sh dn (if plc x yy ∧ ¬ ((0 ≤ pp (cM x yy)) ↔ on = 1) then va_up pp (cM x yy) (if on = 1 then 99 else -1) else pp) (if plc x yy ∧ ¬ ((0 ≤ pp (cM x yy)) ↔ on = 1) then va_up ps (cM x yy) (if on = 1 then 99 else -1) else ps) (faOf wo lo be) (hbOf hb) tt (sh1 (rfx rf (if plc x yy then (if (0 ≤ pp (cM x yy)) ↔ on = 1 then 0 else 1) else -1))) mbt mle mbo mwo mlo mbe mmk mms mwh]) (Bs1 := fun (_ : Unit) => [BTop G qT qr (q 0) (qm 0) qs (qp 0) qf qh qu (qk 0) (rfx rf (if plc x yy then (if (0 ≤ pp (cM x yy)) ↔ on = 1 then 0 else 1) else -1)) sh dn, BCams G q st th R sp, BMsg G qm ac up li le pg spc, BSpr qs pw ld sn tk ss, BPap G qp w21 1200 f22, BFlt qf wo lo be, BHan qh (q 0) (qm 0), BGue qu qh (q 0) (qm 0) qg (qt 0) kd wh, BFlt qg w0 l0 b0, BPap G qt vd 0 fj, BMak G qk hb tt tm, BMod G qM st th (cmOf R) ac up li pg le spc pw ld (wr ss) sn tk ss sh dn (if plc x yy ∧ ¬ ((0 ≤ pp (cM x yy)) ↔ on = 1) then va_up pp (cM x yy) (if on = 1 then 99 else -1) else pp) (if plc x yy ∧ ¬ ((0 ≤ pp (cM x yy)) ↔ on = 1) then va_up ps (cM x yy) (if on = 1 then 99 else -1) else ps) (faOf wo lo be) (hbOf hb) tt (sh1 (rfx rf (if plc x yy then (if (0 ≤ pp (cM x yy)) ↔ on = 1 then 0 else 1) else -1))) mbt mle mbo mwo mlo mbe mmk mms mwh]) (As := [.int (iI x), .int (iI yy), .int (iI on)]) (rest := [.int (iI (if plc x yy then (if (0 ≤ pp (cM x yy)) ↔ on = 1 then 0 else 1) else -1))]) (kX9_see l D G qM st th R ac up li le pg spc pw ld sn tk ss sh dn pp ps wo lo be hb tt rf mbt mle mbo mwo mlo mbe mmk mms mwh x yy on hst hth hR hac hup hli hle hpg hsp hpw hld hss9 hpq hwo hlo hbe hhb htt hx_ hyy_ hon) rfl ⟨hx, hcd, hml, hown, hts⟩ (cwV 3 hts gL_law_X9_see rfl rfl rfl (by decide +kernel) ⟨by decide, by decide⟩) (q0 := 0) (ci := 9) rfl rfl rfl rfl hl.1 (Nat.le_of_ble_eq_true rfl) ⟨Nat.le_of_ble_eq_true rfl, Nat.le_of_ble_eq_true rfl⟩ dL_law_781 hK hP hD hS hA (perm_i2 [11, 0, 1, 2, 3, 4, 5, 6, 7, 8, 9, 10] 12 rfl (by decide) rfl) (fun _ => perm_i2 [1, 2, 3, 4, 5, 6, 7, 8, 9, 10, 11, 0] 12 rfl (by decide) rfl) (fun r u H locs hw5 hP hD hS => ?_)
      subst hw5
      refine w_ieq (tgt := 970) hx hcd dL_law_784 (by decide) ?_
      exact nx (rfx rf (if plc x yy then (if (0 ≤ pp (cM x yy)) ↔ on = 1 then 0 else 1) else -1)) sh dn st th R sp ac up li le pg spc pw ld sn tk ss w21 f22 (if plc x yy ∧ ¬ ((0 ≤ pp (cM x yy)) ↔ on = 1) then va_up pp (cM x yy) (if on = 1 then 99 else -1) else pp) (if plc x yy ∧ ¬ ((0 ≤ pp (cM x yy)) ↔ on = 1) then va_up ps (cM x yy) (if on = 1 then 99 else -1) else ps) wo lo be kd wh w0 l0 b0 vd fj hb tt tm mbt mle mbo mwo mlo mbe mmk mms mwh H locs ls (LInv.mk hst hth hR hac hup hli hle hpg hsp hpw hld hss8 (by assumption) (pq_ite (fun _ => pq_up hpq (by (repeat' split) <;> omega) _) hpq) hwo hlo hbe hht htt hmk) hP hD hS hl
    refine wi_if_eq (tgt := 780) hx hcd (by omega) dL_law_773 (by decide) (fun c773 => ?_) (fun c773 => ?_)
    ·
      refine wi_iconst hx hcd dL_law_780 ?_
      have e9 : (on : Int) = 0 := by first | exact hond.trans (if_pos (by omega)) | exact hond.trans (if_neg (by omega))
      rw [e9] at K781
      try rw [e9]
      exact K781
    ·
      refine wi_iconst hx hcd dL_law_776 ?_
      refine lv_goto (tgt := 781) hx hcd dL_law_777 (by decide) ?_
      have e9 : (on : Int) = 1 := by first | exact hond.trans (if_pos (by omega)) | exact hond.trans (if_neg (by omega))
      rw [e9] at K781
      try rw [e9]
      exact K781
  refine wi_if_eq (tgt := 753) hx hcd (by omega) dL_law_746 (by decide) (fun c746 => ?_) (fun c746 => ?_)
  ·
    refine wi_iconst hx hcd dL_law_753 ?_
    have e9 : (on : Int) = 0 := by first | exact hond.trans (if_pos (by omega)) | exact hond.trans (if_neg (by omega))
    rw [e9] at K754
    try rw [e9]
    exact K754
  ·
    refine wi_iconst hx hcd dL_law_749 ?_
    refine lv_goto (tgt := 754) hx hcd dL_law_750 (by decide) ?_
    have e9 : (on : Int) = 1 := by first | exact hond.trans (if_pos (by omega)) | exact hond.trans (if_neg (by omega))
    rw [e9] at K754
    try rw [e9]
    exact K754
end OPS
