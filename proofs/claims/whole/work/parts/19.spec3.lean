/-! a message written to its end: its cells -/
def pgS (cf : Int → Int → Nat) (R : Nat → Nat → Int) (ac up li le : Nat → Int) (spc wo be : Int) (k : Int) : Nat → Nat → Bool
  | 0 => non
  | t + 1 => fun c => pgS cf R ac up li le spc wo be k t c || SS cf R ac up li le spc wo be k (t : Int) c
def msS (cf : Int → Int → Nat) (R : Nat → Nat → Int) (ac up li le : Nat → Int) (spc st wo lo be : Int) : Nat → Nat → Bool
  | 0 => non
  | k + 1 => fun c => msS cf R ac up li le spc st wo lo be k c || (if (k : Int) = lo then false else pgS cf R ac up li le spc wo be (k : Int) st.toNat c)
theorem pgS_s {cf : Int → Int → Nat} {R : Nat → Nat → Int} {ac up li le : Nat → Int} {spc wo be k t : Int} (h : 0 ≤ t) : pgS cf R ac up li le spc wo be k (t + 1).toNat = fun c => pgS cf R ac up li le spc wo be k t.toNat c || SS cf R ac up li le spc wo be k t c := by
  obtain ⟨n, rfl⟩ := Int.eq_ofNat_of_zero_le h
  rfl
theorem msS_s {cf : Int → Int → Nat} {R : Nat → Nat → Int} {ac up li le : Nat → Int} {spc st wo lo be k : Int} (h : 0 ≤ k) : msS cf R ac up li le spc st wo lo be (k + 1).toNat = fun c => msS cf R ac up li le spc st wo lo be k.toNat c || (if k = lo then false else pgS cf R ac up li le spc wo be k st.toNat c) := by
  obtain ⟨n, rfl⟩ := Int.eq_ofNat_of_zero_le h
  rfl
theorem msS_mono {cf : Int → Int → Nat} {R : Nat → Nat → Int} {ac up li le : Nat → Int} {spc st wo lo be : Int} (a b : Nat) (c : Nat) (h : msS cf R ac up li le spc st wo lo be a c = true) : msS cf R ac up li le spc st wo lo be (a + b) c = true := by
  induction b with
  | zero => exact h
  | succ b ih =>
    show (msS cf R ac up li le spc st wo lo be (a + b) c || _) = true
    rw [ih]
    rfl
/-- whether a paper is as a message is written, with one fault of a kind -/
def fitB (N : Nat) (cf : Int → Int → Nat) (R : Nat → Nat → Int) (ac up li le : Nat → Int) (spc st pg : Int) (M : Nat → Bool) (wo lo be : Int) : Bool := decide (∀ c : Nat, c < N → msS cf R ac up li le spc st wo lo be pg.toNat c = M c)
def FFB (N : Nat) (cf : Int → Int → Nat) (R : Nat → Nat → Int) (ac up li le : Nat → Int) (spc st pg : Int) (M : Nat → Bool) (k : Int) : Nat → Bool := fun v => fitB N cf R ac up li le spc st pg M (if k = 1 then (v : Int) else -1) (if k = 2 then (v : Int) else -1) (if k = 3 then (v : Int) else -1)
def prts (pg k : Int) : Int := if k = 1 then 12 else if k = 2 then pg else if k = 3 then 2 else 0
def fK (F : Int → Nat → Bool) (pg k : Int) : Int := fnd (F k) (-9) (prts pg k).toNat 0
def exK (F : Int → Nat → Bool) (pg : Int) : Int := if F 0 0 = true then 0 else if 0 ≤ fK F pg 1 then 1 else if 0 ≤ fK F pg 2 then 2 else if 0 ≤ fK F pg 3 then 3 else -9
def exW (F : Int → Nat → Bool) (pg : Int) : Int := if F 0 0 = true then -9 else if 0 ≤ fK F pg 1 then fK F pg 1 else if 0 ≤ fK F pg 2 then fK F pg 2 else fK F pg 3
theorem fK_hit {F : Int → Nat → Bool} {pg k v : Int} (h0 : 0 ≤ v ∧ v < prts pg k) (h : ∀ j : Nat, j < v.toNat → F k j = false) (hv : F k v.toNat = true) : fK F pg k = v := by
  unfold fK
  rw [fnd_hit h hv (by omega)]
  omega
theorem fK_miss {F : Int → Nat → Bool} {pg k : Int} (h : ∀ j : Nat, (j : Int) < prts pg k → F k j = false) : fK F pg k = -9 := by
  unfold fK
  exact fnd_miss (fun j hj => h j (by omega))
theorem ex_at {F : Int → Nat → Bool} {pg k v : Int} (h00 : F 0 0 = false) (hk : 1 ≤ k ∧ k ≤ 3) (hp : ∀ j : Int, 1 ≤ j → j < k → ∀ u : Nat, (u : Int) < prts pg j → F j u = false) (h0 : 0 ≤ v ∧ v < prts pg k) (h : ∀ j : Nat, j < v.toNat → F k j = false) (hv : F k v.toNat = true) : exK F pg = k ∧ exW F pg = v := by
  have hh := fK_hit h0 h hv
  unfold exK exW
  rw [h00]
  simp only [Bool.false_eq_true, if_false]
  rcases (show k = 1 ∨ k = 2 ∨ k = 3 by omega) with rfl | rfl | rfl
  · rw [hh, if_pos h0.1, if_pos h0.1]
    exact ⟨rfl, rfl⟩
  · rw [fK_miss (hp 1 (by omega) (by omega)), hh]
    simp only [show ¬ (0 : Int) ≤ -9 by omega, if_false]
    rw [if_pos h0.1, if_pos h0.1]
    exact ⟨rfl, rfl⟩
  · rw [fK_miss (hp 1 (by omega) (by omega)), fK_miss (hp 2 (by omega) (by omega)), hh]
    simp only [show ¬ (0 : Int) ≤ -9 by omega, if_false]
    rw [if_pos h0.1]
    first | exact ⟨rfl, rfl⟩ | exact ⟨rfl, trivial⟩
theorem ex_no {F : Int → Nat → Bool} {pg : Int} (h00 : F 0 0 = false) (hp : ∀ j : Int, 1 ≤ j → j < 4 → ∀ u : Nat, (u : Int) < prts pg j → F j u = false) : exK F pg = -9 ∧ exW F pg = -9 := by
  unfold exK exW
  rw [h00, fK_miss (hp 1 (by omega) (by omega)), fK_miss (hp 2 (by omega) (by omega)), fK_miss (hp 3 (by omega) (by omega))]
  simp
theorem ex_00 {F : Int → Nat → Bool} {pg : Int} (h00 : F 0 0 = true) : exK F pg = 0 ∧ exW F pg = -9 := by
  unfold exK exW
  rw [h00]
  simp
theorem fiU_z (M S : Nat → Bool) (v : Int) (fi : Nat → Int) : fiU 0 M S v fi = fi := by
  funext c
  exact if_neg (fun q => absurd q.1 (by omega))
theorem msS_l {cf : Int → Int → Nat} {R : Nat → Nat → Int} {ac up li le : Nat → Int} {spc st wo lo be k : Int} (h : 0 ≤ k) (e : k = lo) : msS cf R ac up li le spc st wo lo be (k + 1).toNat = msS cf R ac up li le spc st wo lo be k.toNat := by
  rw [msS_s h]
  funext c
  rw [if_pos e, Bool.or_false]
theorem msS_n {cf : Int → Int → Nat} {R : Nat → Nat → Int} {ac up li le : Nat → Int} {spc st wo lo be k : Int} (h : 0 ≤ k) (e : k ≠ lo) : msS cf R ac up li le spc st wo lo be (k + 1).toNat = orM (msS cf R ac up li le spc st wo lo be k.toNat) (pgS cf R ac up li le spc wo be k st.toNat) := by
  rw [msS_s h]
  funext c
  rw [if_neg e]
  rfl
