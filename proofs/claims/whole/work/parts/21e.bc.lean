/-! how many bits of a long are set -/
theorem bc_and {a m A M : Nat} (ha : a < 256) (hm : m < 256) : (a + 256 * A) &&& (m + 256 * M) = (a &&& m) + 256 * (A &&& M) := by
  have e1 : ((a + 256 * A) &&& (m + 256 * M)) % 2 ^ 8 = a &&& m := by
    rw [Nat.and_mod_two_pow, show (a + 256 * A) % 2 ^ 8 = a by omega, show (m + 256 * M) % 2 ^ 8 = m by omega]
  have e2 : ((a + 256 * A) &&& (m + 256 * M)) / 2 ^ 8 = A &&& M := by
    rw [Nat.and_div_two_pow, show (a + 256 * A) / 2 ^ 8 = A by omega, show (m + 256 * M) / 2 ^ 8 = M by omega]
  omega
def m5 : Nat → Nat
  | 0 => 0
  | k + 1 => 85 + 256 * m5 k
def m3 : Nat → Nat
  | 0 => 0
  | k + 1 => 51 + 256 * m3 k
def mf : Nat → Nat
  | 0 => 0
  | k + 1 => 15 + 256 * mf k
def a1 (k N : Nat) : Nat := N - ((N / 2) &&& m5 k)
def a2 (k N : Nat) : Nat := (a1 k N &&& m3 k) + ((a1 k N / 4) &&& m3 k)
def a3 (k N : Nat) : Nat := (a2 k N + a2 k N / 16) &&& mf k
def b1 (a : Nat) : Nat := a - ((a / 2) &&& 85)
def b2 (a : Nat) : Nat := (b1 a &&& 51) + ((b1 a / 4) &&& 51)
def b3 (a : Nat) : Nat := (b2 a + b2 a / 16) &&& 15
theorem b1_ok : ∀ a : Nat, a < 256 → ((a / 2 + 128 * 0) &&& 85) = ((a / 2) &&& 85) ∧ ((a / 2 + 128 * 1) &&& 85) = ((a / 2) &&& 85) ∧ ((a / 2) &&& 85) ≤ a ∧ b1 a < 256 := by decide +kernel
theorem b2_ok : ∀ x : Nat, x < 256 → ∀ e : Nat, e < 4 → ((x / 4 + 64 * e) &&& 51) = ((x / 4) &&& 51) := by decide +kernel
theorem b2_rng : ∀ a : Nat, a < 256 → b2 a ≤ 68 ∧ b2 a % 16 ≤ 4 := by decide +kernel
theorem b3_ok : ∀ x : Nat, x < 69 → ∀ e : Nat, e < 5 → ((x + x / 16 + 16 * e) &&& 15) = ((x + x / 16) &&& 15) := by decide +kernel
theorem a1_s {k a A : Nat} (ha : a < 256) : a1 (k + 1) (a + 256 * A) = b1 a + 256 * a1 k A := by
  obtain ⟨h1, h2, h3, h4⟩ := b1_ok a ha
  have h5 : (A / 2 &&& m5 k) ≤ A := Nat.le_trans Nat.and_le_left (by omega)
  have e : ((a + 256 * A) / 2 &&& m5 (k + 1)) = ((a / 2) &&& 85) + 256 * (A / 2 &&& m5 k) := by
    show ((a + 256 * A) / 2 &&& (85 + 256 * m5 k)) = _
    rw [show (a + 256 * A) / 2 = (a / 2 + 128 * (A % 2)) + 256 * (A / 2) by omega, bc_and (by omega) (by omega)]
    rcases (show A % 2 = 0 ∨ A % 2 = 1 by omega) with q | q <;> rw [q]
    · rw [h1]
    · rw [h2]
  unfold a1 b1
  rw [e]
  omega
theorem a2_s {k a A : Nat} (ha : a < 256) : a2 (k + 1) (a + 256 * A) = b2 a + 256 * a2 k A := by
  obtain ⟨-, -, -, h4⟩ := b1_ok a ha
  have h5 := b2_ok (b1 a) h4 (a1 k A % 4) (by omega)
  have e1 : (a1 (k + 1) (a + 256 * A) &&& m3 (k + 1)) = (b1 a &&& 51) + 256 * (a1 k A &&& m3 k) := by
    rw [a1_s ha]
    exact bc_and h4 (by omega)
  have e2 : (a1 (k + 1) (a + 256 * A) / 4 &&& m3 (k + 1)) = ((b1 a / 4) &&& 51) + 256 * (a1 k A / 4 &&& m3 k) := by
    rw [a1_s ha, show (b1 a + 256 * a1 k A) / 4 = (b1 a / 4 + 64 * (a1 k A % 4)) + 256 * (a1 k A / 4) by omega]
    show ((b1 a / 4 + 64 * (a1 k A % 4)) + 256 * (a1 k A / 4) &&& (51 + 256 * m3 k)) = _
    rw [bc_and (by omega) (by omega), h5]
  show (a1 (k + 1) (a + 256 * A) &&& m3 (k + 1)) + (a1 (k + 1) (a + 256 * A) / 4 &&& m3 (k + 1)) = ((b1 a &&& 51) + ((b1 a / 4) &&& 51)) + 256 * ((a1 k A &&& m3 k) + (a1 k A / 4 &&& m3 k))
  rw [e1, e2]
  omega
theorem a2_lo (k A : Nat) : a2 k A % 16 ≤ 4 := by
  cases k with
  | zero =>
    have e : a2 0 A = 0 := by
      show (a1 0 A &&& 0) + (a1 0 A / 4 &&& 0) = 0
      rw [Nat.and_zero, Nat.and_zero]
    rw [e]
    decide
  | succ k =>
    have e := a2_s (k := k) (a := A % 256) (A := A / 256) (by omega)
    rw [show A % 256 + 256 * (A / 256) = A by omega] at e
    have r := b2_rng (A % 256) (by omega)
    omega
theorem a3_s {k a A : Nat} (ha : a < 256) : a3 (k + 1) (a + 256 * A) = b3 a + 256 * a3 k A := by
  obtain ⟨r1, r2⟩ := b2_rng a ha
  have r3 := a2_lo k A
  have h := b3_ok (b2 a) (by omega) (a2 k A % 16) (by omega)
  show (a2 (k + 1) (a + 256 * A) + a2 (k + 1) (a + 256 * A) / 16 &&& (15 + 256 * mf k)) = (b2 a + b2 a / 16 &&& 15) + 256 * (a2 k A + a2 k A / 16 &&& mf k)
  rw [a2_s ha, show b2 a + 256 * a2 k A + (b2 a + 256 * a2 k A) / 16 = (b2 a + b2 a / 16 + 16 * (a2 k A % 16)) + 256 * (a2 k A + a2 k A / 16) by omega, bc_and (by omega) (by omega), h]
theorem b3_rng : ∀ a : Nat, a < 256 → b3 a ≤ 8 ∧ (b3 a : Int) = ctB (fun i => a.testBit i) 8 := by decide +kernel
theorem ctB_app (p : Nat → Bool) (n m : Nat) : ctB p (n + m) = ctB p n + ctB (fun i => p (n + i)) m := by
  induction m with
  | zero => exact (Int.add_zero _).symm
  | succ m ih =>
    show ctB p (n + m) + (if p (n + m) = true then 1 else 0) = ctB p n + (ctB (fun i => p (n + i)) m + (if p (n + m) = true then 1 else 0))
    rw [ih]
    omega
theorem ctB_ext {p q : Nat → Bool} {n : Nat} (h : ∀ i, i < n → p i = q i) : ctB p n = ctB q n := by
  induction n with
  | zero => rfl
  | succ n ih =>
    show ctB p n + _ = ctB q n + _
    rw [ih (fun i hi => h i (by omega)), h n (by omega)]
def sp8 : Nat → Nat → Nat
  | 0, _ => 0
  | k + 1, N => b3 (N % 256) + sp8 k (N / 256)
theorem sp8_ct (k N : Nat) : (sp8 k N : Int) = ctB (fun i => N.testBit i) (8 * k) := by
  induction k generalizing N with
  | zero => rfl
  | succ k ih =>
    rw [show 8 * (k + 1) = 8 + 8 * k by omega, ctB_app]
    have e1 : ctB (fun i => N.testBit i) 8 = ctB (fun i => (N % 256).testBit i) 8 := ctB_ext (fun i hi => by
      rw [show (256 : Nat) = 2 ^ 8 from rfl, Nat.testBit_mod_two_pow, decide_eq_true hi, Bool.true_and])
    have e2 : ctB (fun i => N.testBit (8 + i)) (8 * k) = ctB (fun i => (N / 256).testBit i) (8 * k) := ctB_ext (fun i _ => by
      rw [show (256 : Nat) = 2 ^ 8 from rfl, Nat.testBit_div_two_pow, Nat.add_comm])
    rw [e1, e2, ← ih, ← (b3_rng (N % 256) (by omega)).2]
    show ((b3 (N % 256) + sp8 k (N / 256) : Nat) : Int) = _
    omega
theorem a3_0 (N : Nat) : a3 0 N = 0 := Nat.and_zero _
theorem a3_n (k N : Nat) : a3 (k + 1) N = b3 (N % 256) + 256 * a3 k (N / 256) := by
  have e := a3_s (k := k) (a := N % 256) (A := N / 256) (by omega)
  rw [show N % 256 + 256 * (N / 256) = N by omega] at e
  exact e
theorem bc_dv {x p q B : Nat} (hB : 0 < B) (h : p < B) (e : x = p + B * q) : x / B = q := by
  rw [e, Nat.add_mul_div_left _ _ hB, Nat.div_eq_of_lt h, Nat.zero_add]
theorem bc_ar {p0 p1 p2 p3 p4 p5 p6 p7 q0 q1 q2 q3 q4 q5 q6 q7 q8 x4 x5 x6 : Nat} (r0 : p0 ≤ 8) (r1 : p1 ≤ 8) (r2 : p2 ≤ 8) (r3 : p3 ≤ 8) (r4 : p4 ≤ 8) (r5 : p5 ≤ 8) (r6 : p6 ≤ 8) (r7 : p7 ≤ 8) (e0 : q0 = p0 + 256 * q1) (e1 : q1 = p1 + 256 * q2) (e2 : q2 = p2 + 256 * q3) (e3 : q3 = p3 + 256 * q4) (e4 : q4 = p4 + 256 * q5) (e5 : q5 = p5 + 256 * q6) (e6 : q6 = p6 + 256 * q7) (e7 : q7 = p7 + 256 * q8) (e8 : q8 = 0) (h4 : x4 = q0 + q0 / 256) (h5 : x5 = x4 + x4 / 65536) (h6 : x6 = x5 + x5 / 4294967296) : q0 < 1152921504606846976 ∧ x4 < 2305843009213693952 ∧ x5 < 4611686018427387904 ∧ x6 < 9223372036854775808 ∧ x6 % 128 = p0 + (p1 + (p2 + (p3 + (p4 + (p5 + (p6 + (p7 + 0))))))) := by
  have d1 : q0 / 256 = q1 := bc_dv (by decide) (by omega) e0
  rw [d1] at h4
  have y4 : x4 = (p0 + p1 + 256 * (p1 + p2)) + 65536 * (q2 + q3) := by omega
  have d2 : x4 / 65536 = q2 + q3 := bc_dv (by decide) (by omega) y4
  rw [d2] at h5
  have y5 : x5 = (p0 + p1 + p2 + p3 + 256 * (p1 + p2 + p3 + p4 + 256 * (p2 + p3 + p4 + p5 + 256 * (p3 + p4 + p5 + p6)))) + 4294967296 * (q4 + q5 + q6 + q7) := by omega
  have d3 : x5 / 4294967296 = q4 + q5 + q6 + q7 := bc_dv (by decide) (by omega) y5
  rw [d3] at h6
  have y6 : x6 = (p0 + p1 + p2 + p3 + p4 + p5 + p6 + p7) + 256 * ((p1 + p2 + p3 + p4 + 256 * (p2 + p3 + p4 + p5 + 256 * (p3 + p4 + p5 + p6))) + 16777216 * (q4 + q5 + q6 + q7) + (q5 + q6 + q7 + q8)) := by omega
  have t7 : q7 ≤ 8 := by omega
  have t6 : q6 ≤ 2056 := by omega
  have t5 : q5 ≤ 526344 := by omega
  have t4 : q4 ≤ 134744072 := by omega
  have t3 : q3 ≤ 34494482440 := by omega
  have t2 : q2 ≤ 8830587504648 := by omega
  have t1 : q1 ≤ 2260630401189896 := by omega
  have t0 : q0 ≤ 578721382704613384 := by omega
  refine ⟨by omega, by omega, by omega, by omega, ?_⟩
  generalize (p1 + p2 + p3 + p4 + 256 * (p2 + p3 + p4 + p5 + 256 * (p3 + p4 + p5 + p6))) + 16777216 * (q4 + q5 + q6 + q7) + (q5 + q6 + q7 + q8) = Y at y6
  clear h4 h5 h6 y4 y5 d1 d2 d3 t0 t1 t2 t3 t4 t5 t6 t7 e0 e1 e2 e3 e4 e5 e6 e7 e8
  omega
theorem bc_sum {N x3 x4 x5 x6 : Nat} (e3 : x3 = a3 8 N) (h4 : x4 = x3 + x3 / 256) (h5 : x5 = x4 + x4 / 65536) (h6 : x6 = x5 + x5 / 4294967296) : x3 < 1152921504606846976 ∧ x4 < 2305843009213693952 ∧ x5 < 4611686018427387904 ∧ x6 < 9223372036854775808 ∧ x6 % 128 = sp8 8 N := by
  subst e3
  exact bc_ar (q1 := a3 7 (N / 256)) (q2 := a3 6 (N / 256 / 256)) (q3 := a3 5 (N / 256 / 256 / 256)) (q4 := a3 4 (N / 256 / 256 / 256 / 256)) (q5 := a3 3 (N / 256 / 256 / 256 / 256 / 256)) (q6 := a3 2 (N / 256 / 256 / 256 / 256 / 256 / 256)) (q7 := a3 1 (N / 256 / 256 / 256 / 256 / 256 / 256 / 256)) (q8 := a3 0 (N / 256 / 256 / 256 / 256 / 256 / 256 / 256 / 256)) (b3_rng _ (Nat.mod_lt _ (by decide))).1 (b3_rng _ (Nat.mod_lt _ (by decide))).1 (b3_rng _ (Nat.mod_lt _ (by decide))).1 (b3_rng _ (Nat.mod_lt _ (by decide))).1 (b3_rng _ (Nat.mod_lt _ (by decide))).1 (b3_rng _ (Nat.mod_lt _ (by decide))).1 (b3_rng _ (Nat.mod_lt _ (by decide))).1 (b3_rng _ (Nat.mod_lt _ (by decide))).1 (a3_n 7 _) (a3_n 6 _) (a3_n 5 _) (a3_n 4 _) (a3_n 3 _) (a3_n 2 _) (a3_n 1 _) (a3_n 0 _) (a3_0 _) h4 h5 h6
theorem sp8_le (k N : Nat) : sp8 k N ≤ 8 * k := by
  induction k generalizing N with
  | zero => exact Nat.le_refl 0
  | succ k ih =>
    have h1 := (b3_rng (N % 256) (Nat.mod_lt _ (by decide))).1
    have h2 := ih (N / 256)
    show b3 (N % 256) + sp8 k (N / 256) ≤ _
    generalize b3 (N % 256) = x at h1 ⊢
    generalize sp8 k (N / 256) = y at h2 ⊢
    omega
