section OPS
variable {p0 : Program} {l : Launch} {e0 : Env} {s0 : State} {m0 : MethodId} {bel : List Frame} {met : Method} {cd : Code} {Q0 : State → Prop} {D : va_G} {G : Nat → ClassId} {A0 : Nat → Prop} {bS : Nat} {LL : Nat} {xs : Nat → Int32} {qT : Nat} {qr : Nat} {q : Nat → Nat} {qm : Nat → Nat} {qs : Nat} {qp : Nat → Nat} {qf : Nat} {qh : Nat} {qu : Nat} {qk : Nat → Nat} {qg : Nat} {qt : Nat → Nat} {qM : Nat → Nat}
set_option maxHeartbeats 4000000 in
set_option maxRecDepth 100000 in
theorem op_marked {i0 : Int} (F : LFix p0 s0 m0 cd D G A0 bS LL xs) (hi : 0 ≤ i0 ∧ i0 + 6 ≤ (LL : Int)) (nx : LGo p0 l e0 s0 m0 bel met cd Q0 D G A0 bS qT qr q qm qs qp qf qh qu qk qg qt qM i0 (32 * (i0 + 6)) 970) : LGo p0 l e0 s0 m0 bel met cd Q0 D G A0 bS qT qr q qm qs qp qf qh qu qk qg qt qM i0 (32 * i0) 641 := by
  obtain ⟨hx, hcd, hml, hown, hts, hK, hA, hX, hbl, hbA, hLL⟩ := F
  intro rf sh dn st th R sp ac up li le pg spc pw ld sn tk ss wd fi pp ps wo lo be kd wh w0 l0 b0 vd fj hb tt tm mbt mle mbo mwo mlo mbe mmk mms mwh H locs ls hinv hP hD hS hl
  obtain ⟨hst, hth, hR, hac, hup, hli, hle, hpg, hsp, hpw, hld, hss, hrel, hpq, hwo, hlo, hbe, hht, htt, hmk⟩ := hinv
  have hP : va_P D vwCl (fl [BTop G qT qr (q 0) (qm 0) qs (qp 0) qf qh qu (qk 0) rf sh dn, BCams G q st th R sp, BMsg G qm ac up li le pg spc, BSpr qs pw ld sn tk ss, BPap G qp wd 1200 fi, BFlt qf wo lo be, BHan qh (q 0) (qm 0), BGue qu qh (q 0) (qm 0) qg (qt 0) kd wh, BFlt qg w0 l0 b0, BPap G qt vd 0 fj, BMak G qk hb tt tm, BMod G qM st th (cmOf R) ac up li pg le spc pw ld (wr ss) sn tk ss sh dn pp ps (faOf wo lo be) (hbOf hb) tt (sh1 rf) mbt mle mbo mwo mlo mbe mmk mms mwh]) H := hP
  have hD : va_D A0 (fl [BTop G qT qr (q 0) (qm 0) qs (qp 0) qf qh qu (qk 0) rf sh dn, BCams G q st th R sp, BMsg G qm ac up li le pg spc, BSpr qs pw ld sn tk ss, BPap G qp wd 1200 fi, BFlt qf wo lo be, BHan qh (q 0) (qm 0), BGue qu qh (q 0) (qm 0) qg (qt 0) kd wh, BFlt qg w0 l0 b0, BPap G qt vd 0 fj, BMak G qk hb tt tm, BMod G qM st th (cmOf R) ac up li pg le spc pw ld (wr ss) sn tk ss sh dn pp ps (faOf wo lo be) (hbOf hb) tt (sh1 rf) mbt mle mbo mwo mlo mbe mmk mms mwh]) := hD
  have hhb : ∀ i j, 0 ≤ hb i j ∧ hb i j ≤ 1000 := fun i j => ⟨(hht i j).1, Int.le_trans (hht i j).2 (htt i).2⟩
  have hss9 : 0 ≤ ss ∧ ss < 900000 := by omega
  have hss8 : 0 ≤ ss ∧ ss ≤ 32 * (i0 + 6) := by omega
  obtain ⟨x, hv_x⟩ : ∃ z_, (xs (i0 + 1).toNat).toInt = z_ := ⟨_, rfl⟩
  have hx_ : -2147483648 ≤ x ∧ x < 2147483648 := by rw [← hv_x]; exact ib_rng _
  obtain ⟨yy, hv_yy⟩ : ∃ z_, (xs (i0 + 2).toNat).toInt = z_ := ⟨_, rfl⟩
  have hyy_ : -2147483648 ≤ yy ∧ yy < 2147483648 := by rw [← hv_yy]; exact ib_rng _
  refine lv_aload_n hx hcd dL_law_641 rfl (lv_at hl 1 rfl) ?_
  refine lv_aload_n hx hcd dL_law_642 rfl (lv_at hl 0 rfl) ?_
  refine lv_iload_n hx hcd dL_law_643 rfl (lv_at hl 3 rfl) ?_
  refine wi_iconst hx hcd dL_law_644 ?_
  refine wi_iadd hx hcd dL_law_645 ?_
  refine w_sld hx hcd hX hbl hbA hS hLL (by omega) hv_x dL_law_646 ?_
  refine lv_aload_n hx hcd dL_law_647 rfl (lv_at hl 0 rfl) ?_
  refine lv_iload_n hx hcd dL_law_648 rfl (lv_at hl 3 rfl) ?_
  refine wi_iconst hx hcd dL_law_649 ?_
  refine wi_iadd hx hcd dL_law_650 ?_
  refine w_sld hx hcd hX hbl hbA hS hLL (by omega) hv_yy dL_law_651 ?_
  refine cV_i (wc := [BTop G qT qr (q 0) (qm 0) qs (qp 0) qf qh qu (qk 0) rf sh dn, BCams G q st th R sp, BMsg G qm ac up li le pg spc, BSpr qs pw ld sn tk ss, BPap G qp wd 1200 fi, BFlt qf wo lo be, BHan qh (q 0) (qm 0), BGue qu qh (q 0) (qm 0) qg (qt 0) kd wh, BFlt qg w0 l0 b0, BPap G qt vd 0 fj, BMak G qk hb tt tm]) (wr := [BMod G qM st th (cmOf R) ac up li pg le spc pw ld (wr ss) sn tk ss sh dn pp ps (faOf wo lo be) (hbOf hb) tt (sh1 rf) mbt mle mbo mwo mlo mbe mmk mms mwh]) (w1 := fun (_ : Unit) => [BTop G qT qr (q 0) (qm 0) qs (qp 0) qf qh qu (qk 0) (rfx rf (if plc x yy then (if 0 ≤ pp (cM x yy) then 1 else 0) else -1)) sh dn, BCams G q st th R sp, BMsg G qm ac up li le pg spc, BSpr qs pw ld sn tk ss, BPap G qp wd 1200 fi, BFlt qf wo lo be, BHan qh (q 0) (qm 0), BGue qu qh (q 0) (qm 0) qg (qt 0) kd wh, BFlt qg w0 l0 b0, BPap G qt vd 0 fj, BMak G qk hb tt tm]) (Bs1 := fun (_ : Unit) => [BTop G qT qr (q 0) (qm 0) qs (qp 0) qf qh qu (qk 0) (rfx rf (if plc x yy then (if 0 ≤ pp (cM x yy) then 1 else 0) else -1)) sh dn, BCams G q st th R sp, BMsg G qm ac up li le pg spc, BSpr qs pw ld sn tk ss, BPap G qp wd 1200 fi, BFlt qf wo lo be, BHan qh (q 0) (qm 0), BGue qu qh (q 0) (qm 0) qg (qt 0) kd wh, BFlt qg w0 l0 b0, BPap G qt vd 0 fj, BMak G qk hb tt tm, BMod G qM st th (cmOf R) ac up li pg le spc pw ld (wr ss) sn tk ss sh dn pp ps (faOf wo lo be) (hbOf hb) tt (sh1 rf) mbt mle mbo mwo mlo mbe mmk mms mwh]) (As := [.int (iI x), .int (iI yy)]) (rest := []) (kX8_marked l D G qT qr q qm qs qp qf qh qu qk rf sh dn st th R sp ac up li le pg spc pw ld sn tk ss wd fi pp ps wo lo be qg qt kd wh w0 l0 b0 vd fj hb tt tm x yy hst hth hR hac hup hli hle hpg hsp hpw hld hss9 hrel hpq hwo hlo hbe hhb htt hx_ hyy_) rfl ⟨hx, hcd, hml, hown, hts⟩ (cwV 2 hts gL_law_X8_marked rfl rfl rfl (by decide +kernel) ⟨by decide, by decide⟩) (q0 := 0) (ci := 8) rfl rfl rfl rfl hl.1 (Nat.le_of_ble_eq_true rfl) ⟨Nat.le_of_ble_eq_true rfl, Nat.le_of_ble_eq_true rfl⟩ dL_law_652 hK hP hD hS hA (perm_i2 [0, 1, 2, 3, 4, 5, 6, 7, 8, 9, 10, 11] 12 rfl (by decide) rfl) (fun _ => perm_i2 [0, 1, 2, 3, 4, 5, 6, 7, 8, 9, 10, 11] 12 rfl (by decide) rfl) (fun r u H locs hw1 hP hD hS => ?_)
  subst hw1
  refine lv_aload_n hx hcd dL_law_655 rfl (lv_at hl 2 rfl) ?_
  refine lv_aload_n hx hcd dL_law_656 rfl (lv_at hl 0 rfl) ?_
  refine lv_iload_n hx hcd dL_law_657 rfl (lv_at hl 3 rfl) ?_
  refine wi_iconst hx hcd dL_law_658 ?_
  refine wi_iadd hx hcd dL_law_659 ?_
  refine w_sld hx hcd hX hbl hbA hS hLL (by omega) hv_x dL_law_660 ?_
  refine lv_aload_n hx hcd dL_law_661 rfl (lv_at hl 0 rfl) ?_
  refine lv_iload_n hx hcd dL_law_662 rfl (lv_at hl 3 rfl) ?_
  refine wi_iconst hx hcd dL_law_663 ?_
  refine wi_iadd hx hcd dL_law_664 ?_
  refine w_sld hx hcd hX hbl hbA hS hLL (by omega) hv_yy dL_law_665 ?_
  refine cV_i (wc := [BMod G qM st th (cmOf R) ac up li pg le spc pw ld (wr ss) sn tk ss sh dn pp ps (faOf wo lo be) (hbOf hb) tt (sh1 rf) mbt mle mbo mwo mlo mbe mmk mms mwh]) (wr := [BTop G qT qr (q 0) (qm 0) qs (qp 0) qf qh qu (qk 0) (rfx rf (if plc x yy then (if 0 ≤ pp (cM x yy) then 1 else 0) else -1)) sh dn, BCams G q st th R sp, BMsg G qm ac up li le pg spc, BSpr qs pw ld sn tk ss, BPap G qp wd 1200 fi, BFlt qf wo lo be, BHan qh (q 0) (qm 0), BGue qu qh (q 0) (qm 0) qg (qt 0) kd wh, BFlt qg w0 l0 b0, BPap G qt vd 0 fj, BMak G qk hb tt tm]) (w1 := fun (_ : Unit) => [BMod G qM st th (cmOf R) ac up li pg le spc pw ld (wr ss) sn tk ss sh dn pp ps (faOf wo lo be) (hbOf hb) tt (sh1 (rfx rf (if plc x yy then (if 0 ≤ pp (cM x yy) then 1 else 0) else -1))) mbt mle mbo mwo mlo mbe mmk mms mwh]) (Bs1 := fun (_ : Unit) => [BTop G qT qr (q 0) (qm 0) qs (qp 0) qf qh qu (qk 0) (rfx rf (if plc x yy then (if 0 ≤ pp (cM x yy) then 1 else 0) else -1)) sh dn, BCams G q st th R sp, BMsg G qm ac up li le pg spc, BSpr qs pw ld sn tk ss, BPap G qp wd 1200 fi, BFlt qf wo lo be, BHan qh (q 0) (qm 0), BGue qu qh (q 0) (qm 0) qg (qt 0) kd wh, BFlt qg w0 l0 b0, BPap G qt vd 0 fj, BMak G qk hb tt tm, BMod G qM st th (cmOf R) ac up li pg le spc pw ld (wr ss) sn tk ss sh dn pp ps (faOf wo lo be) (hbOf hb) tt (sh1 (rfx rf (if plc x yy then (if 0 ≤ pp (cM x yy) then 1 else 0) else -1))) mbt mle mbo mwo mlo mbe mmk mms mwh]) (As := [.int (iI x), .int (iI yy)]) (rest := [.int (iI (if plc x yy then (if 0 ≤ pp (cM x yy) then 1 else 0) else -1))]) (kX9_marked l D G qM st th R ac up li le pg spc pw ld sn tk ss sh dn pp ps wo lo be hb tt rf mbt mle mbo mwo mlo mbe mmk mms mwh x yy hst hth hR hac hup hli hle hpg hsp hpw hld hss9 hpq hwo hlo hbe hhb htt hx_ hyy_) rfl ⟨hx, hcd, hml, hown, hts⟩ (cwV 2 hts gL_law_X9_marked rfl rfl rfl (by decide +kernel) ⟨by decide, by decide⟩) (q0 := 0) (ci := 9) rfl rfl rfl rfl hl.1 (Nat.le_of_ble_eq_true rfl) ⟨Nat.le_of_ble_eq_true rfl, Nat.le_of_ble_eq_true rfl⟩ dL_law_666 hK hP hD hS hA (perm_i2 [11, 0, 1, 2, 3, 4, 5, 6, 7, 8, 9, 10] 12 rfl (by decide) rfl) (fun _ => perm_i2 [1, 2, 3, 4, 5, 6, 7, 8, 9, 10, 11, 0] 12 rfl (by decide) rfl) (fun r u H locs hw2 hP hD hS => ?_)
  subst hw2
  refine w_ieq (tgt := 970) hx hcd dL_law_669 (by decide) ?_
  exact nx (rfx rf (if plc x yy then (if 0 ≤ pp (cM x yy) then 1 else 0) else -1)) sh dn st th R sp ac up li le pg spc pw ld sn tk ss wd fi pp ps wo lo be kd wh w0 l0 b0 vd fj hb tt tm mbt mle mbo mwo mlo mbe mmk mms mwh H locs ls (LInv.mk hst hth hR hac hup hli hle hpg hsp hpw hld hss8 hrel hpq hwo hlo hbe hht htt hmk) hP hD hS hl
end OPS
