section OPS
variable {p0 : Program} {l : Launch} {e0 : Env} {s0 : State} {m0 : MethodId} {bel : List Frame} {met : Method} {cd : Code} {Q0 : State → Prop} {D : va_G} {G : Nat → ClassId} {A0 : Nat → Prop} {bS : Nat} {LL : Nat} {xs : Nat → Int32} {qT : Nat} {qr : Nat} {q : Nat → Nat} {qm : Nat → Nat} {qs : Nat} {qp : Nat → Nat} {qf : Nat} {qh : Nat} {qu : Nat} {qk : Nat → Nat} {qg : Nat} {qt : Nat → Nat} {qM : Nat → Nat}
set_option maxHeartbeats 4000000 in
set_option maxRecDepth 100000 in
theorem op_copy {i0 : Int} (F : LFix p0 s0 m0 cd D G A0 bS LL xs) (hi : 0 ≤ i0 ∧ i0 + 6 ≤ (LL : Int)) (nx : LGo p0 l e0 s0 m0 bel met cd Q0 D G A0 bS qT qr q qm qs qp qf qh qu qk qg qt qM i0 (32 * (i0 + 6)) 970) : LGo p0 l e0 s0 m0 bel met cd Q0 D G A0 bS qT qr q qm qs qp qf qh qu qk qg qt qM i0 (32 * i0) 305 := by
  obtain ⟨hx, hcd, hml, hown, hts, hK, hA, hX, hbl, hbA, hLL⟩ := F
  intro rf sh dn st th R sp ac up li le pg spc pw ld sn tk ss wd fi pp ps wo lo be kd wh w0 l0 b0 vd fj hb tt tm mbt mle mbo mwo mlo mbe mmk mms mwh H locs ls hinv hP hD hS hl
  obtain ⟨hst, hth, hR, hac, hup, hli, hle, hpg, hsp, hpw, hld, hss, hrel, hpq, hwo, hlo, hbe, hht, htt, hmk⟩ := hinv
  have hP : va_P D vwCl (fl [BTop G qT qr (q 0) (qm 0) qs (qp 0) qf qh qu (qk 0) rf sh dn, BCams G q st th R sp, BMsg G qm ac up li le pg spc, BSpr qs pw ld sn tk ss, BPap G qp wd 1200 fi, BFlt qf wo lo be, BHan qh (q 0) (qm 0), BGue qu qh (q 0) (qm 0) qg (qt 0) kd wh, BFlt qg w0 l0 b0, BPap G qt vd 0 fj, BMak G qk hb tt tm, BMod G qM st th (cmOf R) ac up li pg le spc pw ld (wr ss) sn tk ss sh dn pp ps (faOf wo lo be) (hbOf hb) tt (sh1 rf) mbt mle mbo mwo mlo mbe mmk mms mwh]) H := hP
  have hD : va_D A0 (fl [BTop G qT qr (q 0) (qm 0) qs (qp 0) qf qh qu (qk 0) rf sh dn, BCams G q st th R sp, BMsg G qm ac up li le pg spc, BSpr qs pw ld sn tk ss, BPap G qp wd 1200 fi, BFlt qf wo lo be, BHan qh (q 0) (qm 0), BGue qu qh (q 0) (qm 0) qg (qt 0) kd wh, BFlt qg w0 l0 b0, BPap G qt vd 0 fj, BMak G qk hb tt tm, BMod G qM st th (cmOf R) ac up li pg le spc pw ld (wr ss) sn tk ss sh dn pp ps (faOf wo lo be) (hbOf hb) tt (sh1 rf) mbt mle mbo mwo mlo mbe mmk mms mwh]) := hD
  have hhb : ∀ i j, 0 ≤ hb i j ∧ hb i j ≤ 1000 := fun i j => ⟨(hht i j).1, Int.le_trans (hht i j).2 (htt i).2⟩
  have hss9 : 0 ≤ ss ∧ ss < 900000 := by omega
  have hss8 : 0 ≤ ss ∧ ss ≤ 32 * (i0 + 6) := by omega
  obtain ⟨a, hv_a⟩ : ∃ z_, (xs (i0 + 1).toNat).toInt = z_ := ⟨_, rfl⟩
  have ha_ : -2147483648 ≤ a ∧ a < 2147483648 := by rw [← hv_a]; exact ib_rng _
  obtain ⟨i, hv_i⟩ : ∃ z_, (xs (i0 + 2).toNat).toInt = z_ := ⟨_, rfl⟩
  have hi_ : -2147483648 ≤ i ∧ i < 2147483648 := by rw [← hv_i]; exact ib_rng _
  obtain ⟨b, hv_b⟩ : ∃ z_, (xs (i0 + 3).toNat).toInt = z_ := ⟨_, rfl⟩
  have hb_ : -2147483648 ≤ b ∧ b < 2147483648 := by rw [← hv_b]; exact ib_rng _
  obtain ⟨j, hv_j⟩ : ∃ z_, (xs (i0 + 4).toNat).toInt = z_ := ⟨_, rfl⟩
  have hj_ : -2147483648 ≤ j ∧ j < 2147483648 := by rw [← hv_j]; exact ib_rng _
  obtain ⟨n, hv_n⟩ : ∃ z_, (xs (i0 + 5).toNat).toInt = z_ := ⟨_, rfl⟩
  have hn_ : -2147483648 ≤ n ∧ n < 2147483648 := by rw [← hv_n]; exact ib_rng _
  refine lv_aload_n hx hcd dL_law_305 rfl (lv_at hl 1 rfl) ?_
  refine lv_aload_n hx hcd dL_law_306 rfl (lv_at hl 0 rfl) ?_
  refine lv_iload_n hx hcd dL_law_307 rfl (lv_at hl 3 rfl) ?_
  refine wi_iconst hx hcd dL_law_308 ?_
  refine wi_iadd hx hcd dL_law_309 ?_
  refine w_sld hx hcd hX hbl hbA hS hLL (by omega) hv_a dL_law_310 ?_
  refine lv_aload_n hx hcd dL_law_311 rfl (lv_at hl 0 rfl) ?_
  refine lv_iload_n hx hcd dL_law_312 rfl (lv_at hl 3 rfl) ?_
  refine wi_iconst hx hcd dL_law_313 ?_
  refine wi_iadd hx hcd dL_law_314 ?_
  refine w_sld hx hcd hX hbl hbA hS hLL (by omega) hv_i dL_law_315 ?_
  refine lv_aload_n hx hcd dL_law_316 rfl (lv_at hl 0 rfl) ?_
  refine lv_iload_n hx hcd dL_law_317 rfl (lv_at hl 3 rfl) ?_
  refine wi_iconst hx hcd dL_law_318 ?_
  refine wi_iadd hx hcd dL_law_319 ?_
  refine w_sld hx hcd hX hbl hbA hS hLL (by omega) hv_b dL_law_320 ?_
  refine lv_aload_n hx hcd dL_law_321 rfl (lv_at hl 0 rfl) ?_
  refine lv_iload_n hx hcd dL_law_322 rfl (lv_at hl 3 rfl) ?_
  refine wi_iconst hx hcd dL_law_323 ?_
  refine wi_iadd hx hcd dL_law_324 ?_
  refine w_sld hx hcd hX hbl hbA hS hLL (by omega) hv_j dL_law_325 ?_
  refine lv_aload_n hx hcd dL_law_326 rfl (lv_at hl 0 rfl) ?_
  refine lv_iload_n hx hcd dL_law_327 rfl (lv_at hl 3 rfl) ?_
  refine wi_iconst hx hcd dL_law_328 ?_
  refine wi_iadd hx hcd dL_law_329 ?_
  refine w_sld hx hcd hX hbl hbA hS hLL (by omega) hv_n dL_law_330 ?_
  refine cV_i (wc := [BTop G qT qr (q 0) (qm 0) qs (qp 0) qf qh qu (qk 0) rf sh dn, BCams G q st th R sp, BMsg G qm ac up li le pg spc, BSpr qs pw ld sn tk ss, BPap G qp wd 1200 fi, BFlt qf wo lo be, BHan qh (q 0) (qm 0), BGue qu qh (q 0) (qm 0) qg (qt 0) kd wh, BFlt qg w0 l0 b0, BPap G qt vd 0 fj, BMak G qk hb tt tm]) (wr := [BMod G qM st th (cmOf R) ac up li pg le spc pw ld (wr ss) sn tk ss sh dn pp ps (faOf wo lo be) (hbOf hb) tt (sh1 rf) mbt mle mbo mwo mlo mbe mmk mms mwh]) (w1 := fun (_ : Unit) => [BTop G qT qr (q 0) (qm 0) qs (qp 0) qf qh qu (qk 0) (rfx rf (if 0 ≤ a ∧ a < 12 ∧ 0 ≤ b ∧ b < 12 then (if th a.toNat = 1 ∧ th b.toNat = 1 then (if 0 ≤ n ∧ n ≤ st ∧ 0 ≤ i ∧ i ≤ st - n ∧ 0 ≤ j ∧ j ≤ st - n then n else -7) else -5) else -1)) sh dn, BCams G q st th (if (0 ≤ a ∧ a < 12 ∧ 0 ≤ b ∧ b < 12) ∧ th a.toNat = 1 ∧ th b.toNat = 1 ∧ 0 ≤ n ∧ n ≤ st ∧ 0 ≤ i ∧ i ≤ st - n ∧ 0 ≤ j ∧ j ≤ st - n then va_up R b.toNat (va_cpy (R a.toNat) (R b.toNat) i.toNat j.toNat n.toNat) else R) sp, BMsg G qm ac up li le pg spc, BSpr qs pw ld sn tk ss, BPap G qp wd 1200 fi, BFlt qf wo lo be, BHan qh (q 0) (qm 0), BGue qu qh (q 0) (qm 0) qg (qt 0) kd wh, BFlt qg w0 l0 b0, BPap G qt vd 0 fj, BMak G qk hb tt tm]) (Bs1 := fun (_ : Unit) => [BTop G qT qr (q 0) (qm 0) qs (qp 0) qf qh qu (qk 0) (rfx rf (if 0 ≤ a ∧ a < 12 ∧ 0 ≤ b ∧ b < 12 then (if th a.toNat = 1 ∧ th b.toNat = 1 then (if 0 ≤ n ∧ n ≤ st ∧ 0 ≤ i ∧ i ≤ st - n ∧ 0 ≤ j ∧ j ≤ st - n then n else -7) else -5) else -1)) sh dn, BCams G q st th (if (0 ≤ a ∧ a < 12 ∧ 0 ≤ b ∧ b < 12) ∧ th a.toNat = 1 ∧ th b.toNat = 1 ∧ 0 ≤ n ∧ n ≤ st ∧ 0 ≤ i ∧ i ≤ st - n ∧ 0 ≤ j ∧ j ≤ st - n then va_up R b.toNat (va_cpy (R a.toNat) (R b.toNat) i.toNat j.toNat n.toNat) else R) sp, BMsg G qm ac up li le pg spc, BSpr qs pw ld sn tk ss, BPap G qp wd 1200 fi, BFlt qf wo lo be, BHan qh (q 0) (qm 0), BGue qu qh (q 0) (qm 0) qg (qt 0) kd wh, BFlt qg w0 l0 b0, BPap G qt vd 0 fj, BMak G qk hb tt tm, BMod G qM st th (cmOf R) ac up li pg le spc pw ld (wr ss) sn tk ss sh dn pp ps (faOf wo lo be) (hbOf hb) tt (sh1 rf) mbt mle mbo mwo mlo mbe mmk mms mwh]) (As := [.int (iI a), .int (iI i), .int (iI b), .int (iI j), .int (iI n)]) (rest := []) (kX8_copy l D G qT qr q qm qs qp qf qh qu qk rf sh dn st th R sp ac up li le pg spc pw ld sn tk ss wd fi pp ps wo lo be qg qt kd wh w0 l0 b0 vd fj hb tt tm a i b j n hst hth hR hac hup hli hle hpg hsp hpw hld hss9 hrel hpq hwo hlo hbe hhb htt ha_ hi_ hb_ hj_ hn_) rfl ⟨hx, hcd, hml, hown, hts⟩ (cwV 5 hts gL_law_X8_copy rfl rfl rfl (by decide +kernel) ⟨by decide, by decide⟩) (q0 := 0) (ci := 8) rfl rfl rfl rfl hl.1 (Nat.le_of_ble_eq_true rfl) ⟨Nat.le_of_ble_eq_true rfl, Nat.le_of_ble_eq_true rfl⟩ dL_law_331 hK hP hD hS hA (perm_i2 [0, 1, 2, 3, 4, 5, 6, 7, 8, 9, 10, 11] 12 rfl (by decide) rfl) (fun _ => perm_i2 [0, 1, 2, 3, 4, 5, 6, 7, 8, 9, 10, 11] 12 rfl (by decide) rfl) (fun r u H locs hw1 hP hD hS => ?_)
  subst hw1
  refine lv_aload_n hx hcd dL_law_334 rfl (lv_at hl 2 rfl) ?_
  refine lv_aload_n hx hcd dL_law_335 rfl (lv_at hl 0 rfl) ?_
  refine lv_iload_n hx hcd dL_law_336 rfl (lv_at hl 3 rfl) ?_
  refine wi_iconst hx hcd dL_law_337 ?_
  refine wi_iadd hx hcd dL_law_338 ?_
  refine w_sld hx hcd hX hbl hbA hS hLL (by omega) hv_a dL_law_339 ?_
  refine lv_aload_n hx hcd dL_law_340 rfl (lv_at hl 0 rfl) ?_
  refine lv_iload_n hx hcd dL_law_341 rfl (lv_at hl 3 rfl) ?_
  refine wi_iconst hx hcd dL_law_342 ?_
  refine wi_iadd hx hcd dL_law_343 ?_
  refine w_sld hx hcd hX hbl hbA hS hLL (by omega) hv_i dL_law_344 ?_
  refine lv_aload_n hx hcd dL_law_345 rfl (lv_at hl 0 rfl) ?_
  refine lv_iload_n hx hcd dL_law_346 rfl (lv_at hl 3 rfl) ?_
  refine wi_iconst hx hcd dL_law_347 ?_
  refine wi_iadd hx hcd dL_law_348 ?_
  refine w_sld hx hcd hX hbl hbA hS hLL (by omega) hv_b dL_law_349 ?_
  refine lv_aload_n hx hcd dL_law_350 rfl (lv_at hl 0 rfl) ?_
  refine lv_iload_n hx hcd dL_law_351 rfl (lv_at hl 3 rfl) ?_
  refine wi_iconst hx hcd dL_law_352 ?_
  refine wi_iadd hx hcd dL_law_353 ?_
  refine w_sld hx hcd hX hbl hbA hS hLL (by omega) hv_j dL_law_354 ?_
  refine lv_aload_n hx hcd dL_law_355 rfl (lv_at hl 0 rfl) ?_
  refine lv_iload_n hx hcd dL_law_356 rfl (lv_at hl 3 rfl) ?_
  refine wi_iconst hx hcd dL_law_357 ?_
  refine wi_iadd hx hcd dL_law_358 ?_
  refine w_sld hx hcd hX hbl hbA hS hLL (by omega) hv_n dL_law_359 ?_
  refine cV_i (wc := [BMod G qM st th (cmOf R) ac up li pg le spc pw ld (wr ss) sn tk ss sh dn pp ps (faOf wo lo be) (hbOf hb) tt (sh1 rf) mbt mle mbo mwo mlo mbe mmk mms mwh]) (wr := [BTop G qT qr (q 0) (qm 0) qs (qp 0) qf qh qu (qk 0) (rfx rf (if 0 ≤ a ∧ a < 12 ∧ 0 ≤ b ∧ b < 12 then (if th a.toNat = 1 ∧ th b.toNat = 1 then (if 0 ≤ n ∧ n ≤ st ∧ 0 ≤ i ∧ i ≤ st - n ∧ 0 ≤ j ∧ j ≤ st - n then n else -7) else -5) else -1)) sh dn, BCams G q st th (if (0 ≤ a ∧ a < 12 ∧ 0 ≤ b ∧ b < 12) ∧ th a.toNat = 1 ∧ th b.toNat = 1 ∧ 0 ≤ n ∧ n ≤ st ∧ 0 ≤ i ∧ i ≤ st - n ∧ 0 ≤ j ∧ j ≤ st - n then va_up R b.toNat (va_cpy (R a.toNat) (R b.toNat) i.toNat j.toNat n.toNat) else R) sp, BMsg G qm ac up li le pg spc, BSpr qs pw ld sn tk ss, BPap G qp wd 1200 fi, BFlt qf wo lo be, BHan qh (q 0) (qm 0), BGue qu qh (q 0) (qm 0) qg (qt 0) kd wh, BFlt qg w0 l0 b0, BPap G qt vd 0 fj, BMak G qk hb tt tm]) (w1 := fun (u : (Nat → Int)) => [BMod G qM st th (cmOf (if (0 ≤ a ∧ a < 12 ∧ 0 ≤ b ∧ b < 12) ∧ th a.toNat = 1 ∧ th b.toNat = 1 ∧ 0 ≤ n ∧ n ≤ st ∧ 0 ≤ i ∧ i ≤ st - n ∧ 0 ≤ j ∧ j ≤ st - n then va_up R b.toNat (va_cpy (R a.toNat) (R b.toNat) i.toNat j.toNat n.toNat) else R)) ac up li pg le spc pw ld (wr ss) sn tk ss sh dn pp ps (faOf wo lo be) (hbOf hb) tt (sh1 (rfx rf (if 0 ≤ a ∧ a < 12 ∧ 0 ≤ b ∧ b < 12 then (if th a.toNat = 1 ∧ th b.toNat = 1 then (if 0 ≤ n ∧ n ≤ st ∧ 0 ≤ i ∧ i ≤ st - n ∧ 0 ≤ j ∧ j ≤ st - n then n else -7) else -5) else -1))) u mle mbo mwo mlo mbe mmk mms mwh]) (Bs1 := fun (u : (Nat → Int)) => [BTop G qT qr (q 0) (qm 0) qs (qp 0) qf qh qu (qk 0) (rfx rf (if 0 ≤ a ∧ a < 12 ∧ 0 ≤ b ∧ b < 12 then (if th a.toNat = 1 ∧ th b.toNat = 1 then (if 0 ≤ n ∧ n ≤ st ∧ 0 ≤ i ∧ i ≤ st - n ∧ 0 ≤ j ∧ j ≤ st - n then n else -7) else -5) else -1)) sh dn, BCams G q st th (if (0 ≤ a ∧ a < 12 ∧ 0 ≤ b ∧ b < 12) ∧ th a.toNat = 1 ∧ th b.toNat = 1 ∧ 0 ≤ n ∧ n ≤ st ∧ 0 ≤ i ∧ i ≤ st - n ∧ 0 ≤ j ∧ j ≤ st - n then va_up R b.toNat (va_cpy (R a.toNat) (R b.toNat) i.toNat j.toNat n.toNat) else R) sp, BMsg G qm ac up li le pg spc, BSpr qs pw ld sn tk ss, BPap G qp wd 1200 fi, BFlt qf wo lo be, BHan qh (q 0) (qm 0), BGue qu qh (q 0) (qm 0) qg (qt 0) kd wh, BFlt qg w0 l0 b0, BPap G qt vd 0 fj, BMak G qk hb tt tm, BMod G qM st th (cmOf (if (0 ≤ a ∧ a < 12 ∧ 0 ≤ b ∧ b < 12) ∧ th a.toNat = 1 ∧ th b.toNat = 1 ∧ 0 ≤ n ∧ n ≤ st ∧ 0 ≤ i ∧ i ≤ st - n ∧ 0 ≤ j ∧ j ≤ st - n then va_up R b.toNat (va_cpy (R a.toNat) (R b.toNat) i.toNat j.toNat n.toNat) else R)) ac up li pg le spc pw ld (wr ss) sn tk ss sh dn pp ps (faOf wo lo be) (hbOf hb) tt (sh1 (rfx rf (if 0 ≤ a ∧ a < 12 ∧ 0 ≤ b ∧ b < 12 then (if th a.toNat = 1 ∧ th b.toNat = 1 then (if 0 ≤ n ∧ n ≤ st ∧ 0 ≤ i ∧ i ≤ st - n ∧ 0 ≤ j ∧ j ≤ st - n then n else -7) else -5) else -1))) u mle mbo mwo mlo mbe mmk mms mwh]) (As := [.int (iI a), .int (iI i), .int (iI b), .int (iI j), .int (iI n)]) (rest := [.int (iI (if 0 ≤ a ∧ a < 12 ∧ 0 ≤ b ∧ b < 12 then (if th a.toNat = 1 ∧ th b.toNat = 1 then (if 0 ≤ n ∧ n ≤ st ∧ 0 ≤ i ∧ i ≤ st - n ∧ 0 ≤ j ∧ j ≤ st - n then n else -7) else -5) else -1))]) (kX9_copy l D G qM st th R ac up li le pg spc pw ld sn tk ss sh dn pp ps wo lo be hb tt rf mbt mle mbo mwo mlo mbe mmk mms mwh a i b j n hst hth hR hac hup hli hle hpg hsp hpw hld hss9 hpq hwo hlo hbe hhb htt ha_ hi_ hb_ hj_ hn_) rfl ⟨hx, hcd, hml, hown, hts⟩ (cwV 5 hts gL_law_X9_copy rfl rfl rfl (by decide +kernel) ⟨by decide, by decide⟩) (q0 := 0) (ci := 9) rfl rfl rfl rfl hl.1 (Nat.le_of_ble_eq_true rfl) ⟨Nat.le_of_ble_eq_true rfl, Nat.le_of_ble_eq_true rfl⟩ dL_law_360 hK hP hD hS hA (perm_i2 [11, 0, 1, 2, 3, 4, 5, 6, 7, 8, 9, 10] 12 rfl (by decide) rfl) (fun _ => perm_i2 [1, 2, 3, 4, 5, 6, 7, 8, 9, 10, 11, 0] 12 rfl (by decide) rfl) (fun r u H locs hw3 hP hD hS => ?_)
  obtain ⟨b22, rfl⟩ : ∃ z, z = u := ⟨_, rfl⟩
  obtain ⟨rfl, hq4⟩ := hw3
  refine w_ieq (tgt := 970) hx hcd dL_law_363 (by decide) ?_
  exact nx (rfx rf (if 0 ≤ a ∧ a < 12 ∧ 0 ≤ b ∧ b < 12 then (if th a.toNat = 1 ∧ th b.toNat = 1 then (if 0 ≤ n ∧ n ≤ st ∧ 0 ≤ i ∧ i ≤ st - n ∧ 0 ≤ j ∧ j ≤ st - n then n else -7) else -5) else -1)) sh dn st th (if (0 ≤ a ∧ a < 12 ∧ 0 ≤ b ∧ b < 12) ∧ th a.toNat = 1 ∧ th b.toNat = 1 ∧ 0 ≤ n ∧ n ≤ st ∧ 0 ≤ i ∧ i ≤ st - n ∧ 0 ≤ j ∧ j ≤ st - n then va_up R b.toNat (va_cpy (R a.toNat) (R b.toNat) i.toNat j.toNat n.toNat) else R) sp ac up li le pg spc pw ld sn tk ss wd fi pp ps wo lo be kd wh w0 l0 b0 vd fj hb tt tm b22 mle mbo mwo mlo mbe mmk mms mwh H locs ls (LInv.mk hst hth (R_ite (fun _ => R_up hR (a_cpy (hR _) (hR _) _ _ _) _) hR) hac hup hli hle hpg hsp hpw hld hss8 hrel hpq hwo hlo hbe hht htt hmk) hP hD hS hl
end OPS
