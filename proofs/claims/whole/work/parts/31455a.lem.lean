theorem ff_y {b : Bool} (h : (if b = true then (1 : Int) else 0) ≠ 0) : b = true := by
  cases b with
  | true => rfl
  | false => exact absurd rfl h
theorem ff_n {b : Bool} (h : (if b = true then (1 : Int) else 0) = 0) : b = false := by
  cases b with
  | false => rfl
  | true => exact absurd h (by decide)
theorem ff_01 (b : Bool) : (if b = true then (1 : Int) else 0) = 0 ∨ (if b = true then (1 : Int) else 0) = 1 := by
  cases b with
  | false => exact Or.inl rfl
  | true => exact Or.inr rfl
theorem ff_1 {N : Nat} {cf : Int → Int → Nat} {R : Nat → Nat → Int} {ac up li le : Nat → Int} {spc st pg v : Int} {M : Nat → Bool} (h : 0 ≤ v) : FFB N cf R ac up li le spc st pg M 1 v.toNat = fitB N cf R ac up li le spc st pg M v (-1) (-1) := by
  unfold FFB
  rw [show ((v.toNat : Nat) : Int) = v by omega]
  rfl
theorem ff_2 {N : Nat} {cf : Int → Int → Nat} {R : Nat → Nat → Int} {ac up li le : Nat → Int} {spc st pg v : Int} {M : Nat → Bool} (h : 0 ≤ v) : FFB N cf R ac up li le spc st pg M 2 v.toNat = fitB N cf R ac up li le spc st pg M (-1) v (-1) := by
  unfold FFB
  rw [show ((v.toNat : Nat) : Int) = v by omega]
  rfl
theorem ff_3 {N : Nat} {cf : Int → Int → Nat} {R : Nat → Nat → Int} {ac up li le : Nat → Int} {spc st pg v : Int} {M : Nat → Bool} (h : 0 ≤ v) : FFB N cf R ac up li le spc st pg M 3 v.toNat = fitB N cf R ac up li le spc st pg M (-1) (-1) v := by
  unfold FFB
  rw [show ((v.toNat : Nat) : Int) = v by omega]
  rfl
theorem ff_s {p : Nat → Bool} {i : Int} (h0 : 0 ≤ i) (h : ∀ u : Nat, u < i.toNat → p u = false) (hv : p i.toNat = false) : ∀ u : Nat, u < (i + 1).toNat → p u = false := fun u hu => by
  by_cases e : u = i.toNat
  · rw [e]; exact hv
  · exact h u (by omega)
