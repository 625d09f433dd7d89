theorem FF_same {R : Nat → Nat → Int} (hR : ∀ i j, 0 ≤ R i j ∧ R i j ≤ 9) {ac up li le : Nat → Int} {spc st pg : Int} (h1 : 0 ≤ spc ∧ spc ≤ 9) (h2 : 0 ≤ pg ∧ pg ≤ 12) {M : Nat → Bool} {fi pp ps : Nat → Int} (h : relP M fi pp ps) : FFB 1216 cC R ac up li le spc st pg M = FFB 1200 cM R ac up li le spc st pg (fun c => decide (0 ≤ pp c)) := by
  funext k v
  exact fit_same hR h1 h2 h
def wrp (z : Int) : Int := if z < -2147483648 then z + 4294967296 else z
theorem iI_wrp (z : Int) : iI z = iI (wrp z) := by
  unfold wrp
  split
  · rw [← iI_add]
    have e : iI 4294967296 = 0 := by decide
    rw [e]
    simp
  · rfl
theorem fK_rng (F : Int → Nat → Bool) (pg k : Int) : fK F pg k = -9 ∨ 0 ≤ fK F pg k := by
  unfold fK
  rcases fnd_cases (F k) (-9) (prts pg k).toNat with ⟨e, -⟩ | ⟨i, -, e, -⟩
  · exact Or.inl e
  · rw [e]; omega
theorem exK_rng (F : Int → Nat → Bool) (pg : Int) : exK F pg = -9 ∨ 0 ≤ exK F pg := by
  unfold exK
  (repeat' split) <;> omega
theorem exW_rng (F : Int → Nat → Bool) (pg : Int) : exW F pg = -9 ∨ 0 ≤ exW F pg := by
  have h1 := fK_rng F pg 1
  have h2 := fK_rng F pg 2
  have h3 := fK_rng F pg 3
  unfold exW
  (repeat' split) <;> omega
theorem z1_ss (ld : Int) (S : Nat → Bool) (k t : Int) (z : ZZ) : z.2.2.2.1 ≤ (z1 ld S k t z).2.2.2.1 ∧ (z1 ld S k t z).2.2.2.1 ≤ z.2.2.2.1 + 1 := by
  unfold z1
  split
  · omega
  · split
    · show z.2.2.2.1 ≤ z.2.2.2.1 ∧ z.2.2.2.1 ≤ z.2.2.2.1 + 1
      omega
    · show z.2.2.2.1 ≤ z.2.2.2.1 + 1 ∧ z.2.2.2.1 + 1 ≤ z.2.2.2.1 + 1
      omega
theorem zin_ss (ld : Int) (S : Int → Int → Nat → Bool) (k : Int) (n : Nat) (z : ZZ) : z.2.2.2.1 ≤ (zin ld S k n z).2.2.2.1 ∧ (zin ld S k n z).2.2.2.1 ≤ z.2.2.2.1 + n := by
  induction n with
  | zero =>
    show z.2.2.2.1 ≤ z.2.2.2.1 ∧ z.2.2.2.1 ≤ z.2.2.2.1 + _
    omega
  | succ n ih =>
    have h := z1_ss ld (S k (n : Int)) k (n : Int) (zin ld S k n z)
    show z.2.2.2.1 ≤ (z1 ld (S k (n : Int)) k (n : Int) (zin ld S k n z)).2.2.2.1 ∧ (z1 ld (S k (n : Int)) k (n : Int) (zin ld S k n z)).2.2.2.1 ≤ _
    omega
theorem zout_ss (ld : Int) (S : Int → Int → Nat → Bool) (st lo : Int) (n : Nat) (z : ZZ) : z.2.2.2.1 ≤ (zout ld S st lo n z).2.2.2.1 ∧ (zout ld S st lo n z).2.2.2.1 ≤ z.2.2.2.1 + n * st.toNat := by
  induction n with
  | zero =>
    show z.2.2.2.1 ≤ z.2.2.2.1 ∧ z.2.2.2.1 ≤ z.2.2.2.1 + _
    omega
  | succ n ih =>
    have h := zin_ss ld S (n : Int) st.toNat (zout ld S st lo n z)
    have e : ((n + 1 : Nat) : Int) * (st.toNat : Int) = (n : Int) * st.toNat + st.toNat := by
      rw [Int.natCast_add, Int.add_mul]
      simp
    show z.2.2.2.1 ≤ (if _ then zout ld S st lo n z else zin ld S _ st.toNat (zout ld S st lo n z)).2.2.2.1 ∧ (if _ then zout ld S st lo n z else zin ld S _ st.toNat (zout ld S st lo n z)).2.2.2.1 ≤ _
    rw [e]
    split <;> omega
