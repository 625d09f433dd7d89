/-! Long.bitCount -/
def uN (x : Int64) : Nat := x.toBitVec.toNat
theorem uN_lt (x : Int64) : uN x < 18446744073709551616 := x.toBitVec.isLt
theorem uN_lsr {x : Int64} {n : Nat} (h : n < 64) : uN (lsr x (n : Int)) = uN x / 2 ^ n := by
  show (x.toUInt64 >>> ((iI (n : Int)).toInt64.toUInt64 &&& Int64.toUInt64 63)).toNat = _
  rw [UInt64.toNat_shiftRight, sh_u n h, Nat.mod_eq_of_lt h, Nat.shiftRight_eq_div_pow]
  rfl
theorem uL1 (x : Int64) : uN (lsr x 1) = uN x / 2 := uN_lsr (n := 1) (by omega)
theorem uL2 (x : Int64) : uN (lsr x 2) = uN x / 4 := uN_lsr (n := 2) (by omega)
theorem uL4 (x : Int64) : uN (lsr x 4) = uN x / 16 := uN_lsr (n := 4) (by omega)
theorem uL8 (x : Int64) : uN (lsr x 8) = uN x / 256 := uN_lsr (n := 8) (by omega)
theorem uL16 (x : Int64) : uN (lsr x 16) = uN x / 65536 := uN_lsr (n := 16) (by omega)
theorem uL32 (x : Int64) : uN (lsr x 32) = uN x / 4294967296 := uN_lsr (n := 32) (by omega)
theorem uN_and (x y : Int64) : uN (x &&& y) = uN x &&& uN y := by
  unfold uN
  rw [Int64.toBitVec_and, BitVec.toNat_and]
theorem uN_add (x y : Int64) : uN (x + y) = (uN x + uN y) % 18446744073709551616 := by
  unfold uN
  rw [Int64.toBitVec_add, BitVec.toNat_add]
theorem uN_sub (x y : Int64) : uN (x - y) = (18446744073709551616 - uN y + uN x) % 18446744073709551616 := by
  unfold uN
  rw [Int64.toBitVec_sub, BitVec.toNat_sub]
def bX1 (w : Int64) : Int64 := w - (lsr w 1 &&& 6148914691236517205)
def bX2 (w : Int64) : Int64 := (bX1 w &&& 3689348814741910323) + (lsr (bX1 w) 2 &&& 3689348814741910323)
def bX3 (w : Int64) : Int64 := (bX2 w + lsr (bX2 w) 4) &&& 1085102592571150095
def bX4 (w : Int64) : Int64 := bX3 w + lsr (bX3 w) 8
def bX5 (w : Int64) : Int64 := bX4 w + lsr (bX4 w) 16
def bX6 (w : Int64) : Int64 := bX5 w + lsr (bX5 w) 32
theorem bX1_n (w : Int64) : uN (bX1 w) = a1 8 (uN w) := by
  have h0 := uN_lt w
  have e2 : (uN w / 2 &&& m5 8) ≤ uN w := Nat.le_trans Nat.and_le_left (by omega)
  have e3 : uN (6148914691236517205 : Int64) = m5 8 := by decide +kernel
  unfold bX1 a1
  rw [uN_sub, uN_and, uL1, e3]
  generalize (uN w / 2 &&& m5 8) = A at *
  omega
theorem m3_8 : m3 8 = 3689348814741910323 := by decide +kernel
theorem bX2_n (w : Int64) : uN (bX2 w) = a2 8 (uN w) ∧ a2 8 (uN w) ≤ 7378697629483820646 := by
  have e3 : uN (3689348814741910323 : Int64) = m3 8 := by decide +kernel
  have e4 : (a1 8 (uN w) &&& m3 8) ≤ m3 8 := Nat.and_le_right
  have e5 : (a1 8 (uN w) / 4 &&& m3 8) ≤ m3 8 := Nat.and_le_right
  unfold bX2 a2
  rw [uN_add, uN_and, uN_and, uL2, e3, bX1_n]
  rw [m3_8] at e4 e5 ⊢
  generalize (a1 8 (uN w) &&& 3689348814741910323) = A at *
  generalize (a1 8 (uN w) / 4 &&& 3689348814741910323) = B at *
  omega
theorem bX3_n (w : Int64) : uN (bX3 w) = a3 8 (uN w) := by
  have e3 : uN (1085102592571150095 : Int64) = mf 8 := by decide +kernel
  obtain ⟨h1, h2⟩ := bX2_n w
  unfold bX3 a3
  rw [uN_and, uN_add, uL4, e3, h1, Nat.mod_eq_of_lt (by omega)]
theorem bX6_n (w : Int64) : uN (bX6 w) % 128 = sp8 8 (uN w) ∧ sp8 8 (uN w) ≤ 64 := by
  obtain ⟨s1, s2, s3, s4, s5⟩ := bc_sum (bX3_n w) rfl rfl rfl
  have e4 : uN (bX4 w) = uN (bX3 w) + uN (bX3 w) / 256 := by
    unfold bX4
    rw [uN_add, uL8, Nat.mod_eq_of_lt (Nat.lt_trans s2 (by decide))]
  rw [← e4] at s3 s4 s5
  have e5 : uN (bX5 w) = uN (bX4 w) + uN (bX4 w) / 65536 := by
    unfold bX5
    rw [uN_add, uL16, Nat.mod_eq_of_lt (Nat.lt_trans s3 (by decide))]
  rw [← e5] at s4 s5
  have e6 : uN (bX6 w) = uN (bX5 w) + uN (bX5 w) / 4294967296 := by
    unfold bX6
    rw [uN_add, uL32, Nat.mod_eq_of_lt (Nat.lt_trans s4 (by decide))]
  rw [← e6] at s5
  exact ⟨s5, sp8_le 8 _⟩
def bcn (w : Int64) : Int := ctB (fun i => w.toBitVec.getLsbD i) 64
theorem bcn_sp (w : Int64) : bcn w = (sp8 8 (uN w) : Int) := (sp8_ct 8 (uN w)).symm
theorem bc_fin (w : Int64) : (bX6 w).toInt32 &&& iI 127 = iI (bcn w) := by
  obtain ⟨h1, h2⟩ := bX6_n w
  rw [bcn_sp, ← iI_nI]
  apply Int32.toBitVec_inj.mp
  apply BitVec.eq_of_toNat_eq
  rw [Int32.toBitVec_and, BitVec.toNat_and, Int64.toBitVec_toInt32, BitVec.signExtend_eq_setWidth_of_le _ (by omega), BitVec.toNat_setWidth]
  show (uN (bX6 w) % 2 ^ 32) &&& 127 = (BitVec.ofNat 32 (sp8 8 (uN w))).toNat
  rw [BitVec.toNat_ofNat, show (127 : Nat) = 2 ^ 7 - 1 from rfl, Nat.and_two_pow_sub_one_eq_mod]
  omega
theorem bcn_s {wd : Nat → Int64} {M : Nat → Bool} (h : bits wd M) {i : Int} (hi : 0 ≤ i ∧ i < 19) : ctB M (64 * (i + 1).toNat) = ctB M (64 * i.toNat) + bcn (wd i.toNat) := by
  rw [show 64 * (i + 1).toNat = 64 * i.toNat + 64 by omega, ctB_app]
  unfold bcn
  congr 1
  exact ctB_ext (fun j hj => (h _ _ (by omega) hj).symm)
abbrev rmJ13_bitCount_95d88 : Room := { frames := 0, cells := 0, slots := 0, locals := 0 }
set_option maxHeartbeats 4000000 in
theorem kJ13_bitCount_95d88 (l : Launch) (D : va_G) (G : Nat → ClassId) (w : Int64) : CtI l yJ13_bitCount_95d88 wsJ13_bitCount_95d88 rmJ13_bitCount_95d88 D G [.long w] [] (fun (r : Int32) (_ : Unit) => r = iI (bcn w)) (fun _ => []) := by
  refine CtI.ofI (cc := cJ13_bitCount_95d88) (maxL := 2) (by decide) rfl (Nat.le_of_ble_eq_true rfl) ?_
  intro p0 e0 s0 m0 args bel met cd A0 ls Q0 hx hcd hml hown hts hK hP hD hA hl fin
  have hl : lv_has ls 2 [(0, .long w)] := hl
  refine lv_lload_n hx hcd dJ13_bitCount_95d88_0 rfl (lv_at hl 0 rfl) ?_
  refine lv_lload_n hx hcd dJ13_bitCount_95d88_1 rfl (lv_at hl 0 rfl) ?_
  refine wi_iconst hx hcd dJ13_bitCount_95d88_2 ?_
  refine wi_lushr hx hcd dJ13_bitCount_95d88_3 ?_
  refine lv_ldc2 (v := 6148914691236517205) hx hcd hown (hts _ (by decide +kernel)) dJ13_bitCount_95d88_4 ?_
  refine lv_land hx hcd dJ13_bitCount_95d88_7 ?_
  refine lv_lsub hx hcd dJ13_bitCount_95d88_8 ?_
  refine lv_lstore_n (lv' := [(0, .long (bX1 w))]) hx hcd dJ13_bitCount_95d88_9 rfl hl (by decide) rfl (fun ls hl => ?_)
  refine lv_lload_n hx hcd dJ13_bitCount_95d88_10 rfl (lv_at hl 0 rfl) ?_
  refine lv_ldc2 (v := 3689348814741910323) hx hcd hown (hts _ (by decide +kernel)) dJ13_bitCount_95d88_11 ?_
  refine lv_land hx hcd dJ13_bitCount_95d88_14 ?_
  refine lv_lload_n hx hcd dJ13_bitCount_95d88_15 rfl (lv_at hl 0 rfl) ?_
  refine wi_iconst hx hcd dJ13_bitCount_95d88_16 ?_
  refine wi_lushr hx hcd dJ13_bitCount_95d88_17 ?_
  refine lv_ldc2 (v := 3689348814741910323) hx hcd hown (hts _ (by decide +kernel)) dJ13_bitCount_95d88_18 ?_
  refine lv_land hx hcd dJ13_bitCount_95d88_21 ?_
  refine lv_ladd hx hcd dJ13_bitCount_95d88_22 ?_
  refine lv_lstore_n (lv' := [(0, .long (bX2 w))]) hx hcd dJ13_bitCount_95d88_23 rfl hl (by decide) rfl (fun ls hl => ?_)
  refine lv_lload_n hx hcd dJ13_bitCount_95d88_24 rfl (lv_at hl 0 rfl) ?_
  refine lv_lload_n hx hcd dJ13_bitCount_95d88_25 rfl (lv_at hl 0 rfl) ?_
  refine wi_iconst hx hcd dJ13_bitCount_95d88_26 ?_
  refine wi_lushr hx hcd dJ13_bitCount_95d88_27 ?_
  refine lv_ladd hx hcd dJ13_bitCount_95d88_28 ?_
  refine lv_ldc2 (v := 1085102592571150095) hx hcd hown (hts _ (by decide +kernel)) dJ13_bitCount_95d88_29 ?_
  refine lv_land hx hcd dJ13_bitCount_95d88_32 ?_
  refine lv_lstore_n (lv' := [(0, .long (bX3 w))]) hx hcd dJ13_bitCount_95d88_33 rfl hl (by decide) rfl (fun ls hl => ?_)
  refine lv_lload_n hx hcd dJ13_bitCount_95d88_34 rfl (lv_at hl 0 rfl) ?_
  refine lv_lload_n hx hcd dJ13_bitCount_95d88_35 rfl (lv_at hl 0 rfl) ?_
  refine wi_bipush hx hcd dJ13_bitCount_95d88_36 (by decide) ?_
  refine wi_lushr hx hcd dJ13_bitCount_95d88_38 ?_
  refine lv_ladd hx hcd dJ13_bitCount_95d88_39 ?_
  refine lv_lstore_n (lv' := [(0, .long (bX4 w))]) hx hcd dJ13_bitCount_95d88_40 rfl hl (by decide) rfl (fun ls hl => ?_)
  refine lv_lload_n hx hcd dJ13_bitCount_95d88_41 rfl (lv_at hl 0 rfl) ?_
  refine lv_lload_n hx hcd dJ13_bitCount_95d88_42 rfl (lv_at hl 0 rfl) ?_
  refine wi_bipush hx hcd dJ13_bitCount_95d88_43 (by decide) ?_
  refine wi_lushr hx hcd dJ13_bitCount_95d88_45 ?_
  refine lv_ladd hx hcd dJ13_bitCount_95d88_46 ?_
  refine lv_lstore_n (lv' := [(0, .long (bX5 w))]) hx hcd dJ13_bitCount_95d88_47 rfl hl (by decide) rfl (fun ls hl => ?_)
  refine lv_lload_n hx hcd dJ13_bitCount_95d88_48 rfl (lv_at hl 0 rfl) ?_
  refine lv_lload_n hx hcd dJ13_bitCount_95d88_49 rfl (lv_at hl 0 rfl) ?_
  refine wi_bipush hx hcd dJ13_bitCount_95d88_50 (by decide) ?_
  refine wi_lushr hx hcd dJ13_bitCount_95d88_52 ?_
  refine lv_ladd hx hcd dJ13_bitCount_95d88_53 ?_
  refine lv_lstore_n (lv' := [(0, .long (bX6 w))]) hx hcd dJ13_bitCount_95d88_54 rfl hl (by decide) rfl (fun ls hl => ?_)
  refine lv_lload_n hx hcd dJ13_bitCount_95d88_55 rfl (lv_at hl 0 rfl) ?_
  refine lv_l2i hx hcd dJ13_bitCount_95d88_56 rfl ?_
  refine wi_bipush hx hcd dJ13_bitCount_95d88_57 (by decide) ?_
  refine lv_iand hx hcd dJ13_bitCount_95d88_59 ?_
  exact fin _ () _ [] ls 60 dJ13_bitCount_95d88_60 hP hD va_S.rf trivial (bc_fin w)
/-! how many cells are marked, counted by words or by cells -/
theorem cn_ext {f g : Nat → Int} {n : Nat} (h : ∀ i, i < n → f i = g i) : cnt f n = cnt g n := by
  induction n with
  | zero => rfl
  | succ n ih =>
    show cnt f n + f n = cnt g n + g n
    rw [ih (fun i hi => h i (by omega)), h n (by omega)]
theorem cn_add (f g : Nat → Int) (n : Nat) : cnt (fun i => f i + g i) n = cnt f n + cnt g n := by
  induction n with
  | zero => rfl
  | succ n ih =>
    show cnt (fun i => f i + g i) n + (f n + g n) = (cnt f n + f n) + (cnt g n + g n)
    rw [ih]
    omega
theorem cn_0 (n : Nat) : cnt (fun _ => 0) n = 0 := by
  induction n with
  | zero => rfl
  | succ n ih =>
    show cnt (fun _ => 0) n + 0 = 0
    rw [ih]
    rfl
theorem cn_swap (f : Nat → Nat → Int) (n m : Nat) : cnt (fun i => cnt (f i) m) n = cnt (fun j => cnt (fun i => f i j) n) m := by
  induction n with
  | zero => exact (cn_0 m).symm
  | succ n ih =>
    show cnt (fun i => cnt (f i) m) n + cnt (f n) m = cnt (fun j => cnt (fun i => f i j) n + f n j) m
    rw [cn_add, ih]
theorem cn_app (f : Nat → Int) (n m : Nat) : cnt f (n + m) = cnt f n + cnt (fun i => f (n + i)) m := by
  induction m with
  | zero => exact (Int.add_zero _).symm
  | succ m ih =>
    show cnt f (n + m) + f (n + m) = cnt f n + (cnt (fun i => f (n + i)) m + f (n + m))
    rw [ih]
    omega
theorem cn_mul (f : Nat → Int) (a n : Nat) : cnt f (n * a) = cnt (fun i => cnt (fun j => f (i * a + j)) a) n := by
  induction n with
  | zero =>
    rw [Nat.zero_mul]
    rfl
  | succ n ih =>
    rw [Nat.succ_mul, cn_app, ih]
    rfl
theorem ct_cn (p : Nat → Bool) (n : Nat) : ctB p n = cnt (fun i => if p i = true then 1 else 0) n := by
  induction n with
  | zero => rfl
  | succ n ih =>
    show ctB p n + _ = cnt _ n + _
    rw [ih]
theorem ct_no {p : Nat → Bool} {n : Nat} (h : ∀ i, i < n → p i = false) : ctB p n = 0 := by
  rw [ct_cn, cn_ext (g := fun _ => 0) (fun i hi => by rw [h i hi]; rfl), cn_0]
theorem marks_eq {M P : Nat → Bool} (h : ∀ x y : Nat, x < 120 → y < 10 → M (y * 120 + x) = P (x * 10 + y)) (ht : ∀ c : Nat, 1200 ≤ c → c < 1216 → M c = false) : ctB P 1200 = ctB M 1216 := by
  rw [show (1216 : Nat) = 1200 + 16 from rfl, ctB_app, ct_no (p := fun i => M (1200 + i)) (fun i hi => ht _ (by omega) (by omega)), Int.add_zero, ct_cn, ct_cn]
  have e1 := cn_mul (fun i => if P i = true then (1 : Int) else 0) 10 120
  have e2 := cn_mul (fun i => if M i = true then (1 : Int) else 0) 120 10
  rw [show (1200 : Nat) = 120 * 10 from rfl, e1, show (120 * 10 : Nat) = 10 * 120 from rfl, e2, cn_swap]
  exact cn_ext (fun y hy => cn_ext (fun x hx => by rw [h x y hx hy]))
theorem marks_rel {wd : Nat → Int64} {fi pp ps : Nat → Int} (h : relW wd fi pp ps) : ctB (fun c => decide (0 ≤ pp c)) 1200 = ctB (mOf wd) 1216 := by
  refine marks_eq (fun x y hx hy => ?_) h.2
  have e := (h.1 (x : Int) (y : Int) (by omega)).1
  unfold cC cM at e
  rw [show ((y : Int) * 120 + (x : Int)).toNat = y * 120 + x by omega, show (10 * (x : Int) + (y : Int)).toNat = x * 10 + y by omega] at e
  exact e
