/-! plain functions that say what the loops do -/
def fw (st x : Int) : Int := if x < st then x else x - st
theorem fw_rng {st x : Int} (h : 0 ≤ x ∧ x < st + st) : 0 ≤ fw st x ∧ fw st x < st := by
  unfold fw
  split <;> omega
theorem fw_mod {st x : Int} (h : 0 ≤ x ∧ x < st + st) : x % st = fw st x := by
  unfold fw
  split
  · exact Int.emod_eq_of_lt h.1 (by assumption)
  · rw [← Int.sub_emod_right]
    exact Int.emod_eq_of_lt (by omega) (by omega)
abbrev tn (st : Int) (f g : Nat → Int) (n : Int) : Prop := ∀ t : Nat, t < st.toNat → g (fw st ((t : Int) + n)).toNat = f t
def fnd (p : Nat → Bool) (d : Int) : Nat → Nat → Int
  | 0, _ => d
  | m + 1, k => if p k = true then (k : Int) else fnd p d m (k + 1)
theorem fnd_hit0 {p : Nat → Bool} {d : Int} {i : Nat} (hp : p i = true) : ∀ (m k : Nat), k ≤ i → i < k + m → (∀ j, k ≤ j → j < i → p j = false) → fnd p d m k = i := by
  intro m
  induction m with
  | zero => intro k h1 h2 _; omega
  | succ m ih =>
    intro k h1 h2 h3
    unfold fnd
    by_cases e : k = i
    · rw [e, if_pos hp]
    · rw [h3 k (Nat.le_refl k) (by omega)]
      simp only [Bool.false_eq_true, if_false]
      exact ih (k + 1) (by omega) (by omega) (fun j a b => h3 j (by omega) b)
theorem fnd_miss0 {p : Nat → Bool} {d : Int} : ∀ (m k : Nat), (∀ j, k ≤ j → j < k + m → p j = false) → fnd p d m k = d := by
  intro m
  induction m with
  | zero => intro k _; rfl
  | succ m ih =>
    intro k h
    unfold fnd
    rw [h k (Nat.le_refl k) (by omega)]
    simp only [Bool.false_eq_true, if_false]
    exact ih (k + 1) (fun j a b => h j (by omega) (by omega))
theorem fnd_hit {p : Nat → Bool} {d : Int} {i N : Nat} (h : ∀ j, j < i → p j = false) (hp : p i = true) (hi : i < N) : fnd p d N 0 = i := fnd_hit0 hp N 0 (by omega) (by omega) (fun j _ b => h j b)
theorem fnd_miss {p : Nat → Bool} {d : Int} {N : Nat} (h : ∀ j, j < N → p j = false) : fnd p d N 0 = d := fnd_miss0 N 0 (fun j _ b => h j (by omega))
theorem fnd_cases (p : Nat → Bool) (d : Int) (N : Nat) : (fnd p d N 0 = d ∧ ∀ j, j < N → p j = false) ∨ ∃ i, i < N ∧ fnd p d N 0 = i ∧ p i = true ∧ ∀ j, j < i → p j = false := by
  by_cases h : ∃ i, i < N ∧ p i = true
  · obtain ⟨i, ⟨h1, h2⟩, h3⟩ := pk_least (fun i => i < N ∧ p i = true) h
    have h4 : ∀ j, j < i → p j = false := fun j hj => by
      cases e : p j with
      | false => rfl
      | true => exact absurd ⟨by omega, e⟩ (h3 j hj)
    exact Or.inr ⟨i, h1, fnd_hit h4 h2 h1, h2, h4⟩
  · have h4 : ∀ j, j < N → p j = false := fun j hj => by
      cases e : p j with
      | false => rfl
      | true => exact absurd ⟨j, hj, e⟩ h
    exact Or.inl ⟨fnd_miss h4, h4⟩
/-- the least number of steps that turns f into g, -9 if none -/
def sb (st : Int) (f g : Nat → Int) : Int := fnd (fun n => decide (tn st f g (n : Int))) (-9) st.toNat 0
theorem sb_rng (st : Int) (f g : Nat → Int) (h : 2 ≤ st ∧ st ≤ 16) : -9 ≤ sb st f g ∧ sb st f g < 16 := by
  unfold sb
  rcases fnd_cases (fun n => decide (tn st f g (n : Int))) (-9) st.toNat with ⟨e, -⟩ | ⟨i, h1, e, -⟩
  · rw [e]; omega
  · rw [e]; omega
def lap (st : Int) (th : Nat → Int) (R : Nat → Nat → Int) (c : Nat) : Nat → Bool := fun o => decide (th o = 1) && decide (0 ≤ sb st (R o) (R c))
/-- the least cam that is one with c -/
def la (st : Int) (th : Nat → Int) (R : Nat → Nat → Int) (c : Nat) : Int := fnd (lap st th R c) (c : Int) c 0
theorem la_rng (st : Int) (th : Nat → Int) (R : Nat → Nat → Int) (c : Nat) : 0 ≤ la st th R c ∧ la st th R c ≤ c := by
  unfold la
  rcases fnd_cases (lap st th R c) (c : Int) c with ⟨e, -⟩ | ⟨i, h1, e, -⟩
  · rw [e]; omega
  · rw [e]; omega
def ctB (p : Nat → Bool) : Nat → Int
  | 0 => 0
  | n + 1 => ctB p n + (if p n = true then 1 else 0)
theorem ctB_s {p : Nat → Bool} {i : Int} (h : 0 ≤ i) : ctB p (i + 1).toNat = ctB p i.toNat + (if p i.toNat = true then 1 else 0) := by
  rw [show (i + 1).toNat = i.toNat + 1 by omega]
  rfl
theorem ctB_rng (p : Nat → Bool) (n : Nat) : 0 ≤ ctB p n ∧ ctB p n ≤ n := by
  induction n with
  | zero => exact ⟨Int.le_refl 0, Int.le_refl 0⟩
  | succ n ih =>
    have e : ctB p (n + 1) = ctB p n + (if p n = true then 1 else 0) := rfl
    rw [e]
    split <;> omega
def bbp (st : Int) (th : Nat → Int) (R : Nat → Nat → Int) : Nat → Bool := fun c => decide (th c = 1) && decide (la st th R c = c)
def bb (st : Int) (th : Nat → Int) (R : Nat → Nat → Int) (n : Nat) : Int := ctB (bbp st th R) n
def gs (st : Int) (f : Nat → Int) : Nat → Int
  | 0 => 0
  | t + 1 => if gs st f t < (if 0 ≤ f (fw st ((t : Int) + 1)).toNat - f t then f (fw st ((t : Int) + 1)).toNat - f t else -(f (fw st ((t : Int) + 1)).toNat - f t)) then (if 0 ≤ f (fw st ((t : Int) + 1)).toNat - f t then f (fw st ((t : Int) + 1)).toNat - f t else -(f (fw st ((t : Int) + 1)).toNat - f t)) else gs st f t
theorem gs_s {st : Int} {f : Nat → Int} {i : Int} (h : 0 ≤ i) : gs st f (i + 1).toNat = if gs st f i.toNat < (if 0 ≤ f (fw st (i + 1)).toNat - f i.toNat then f (fw st (i + 1)).toNat - f i.toNat else -(f (fw st (i + 1)).toNat - f i.toNat)) then (if 0 ≤ f (fw st (i + 1)).toNat - f i.toNat then f (fw st (i + 1)).toNat - f i.toNat else -(f (fw st (i + 1)).toNat - f i.toNat)) else gs st f i.toNat := by
  obtain ⟨t, rfl⟩ := Int.eq_ofNat_of_zero_le h
  rfl
theorem bbp_if (st : Int) (th : Nat → Int) (R : Nat → Nat → Int) (c : Nat) : (if bbp st th R c = true then (1 : Int) else 0) = if th c = 1 ∧ la st th R c = c then 1 else 0 := by
  simp only [bbp, Bool.and_eq_true, decide_eq_true_eq]
theorem gs_rng (st : Int) (f : Nat → Int) (hf : ∀ k, 0 ≤ f k ∧ f k ≤ 9) (t : Nat) : 0 ≤ gs st f t ∧ gs st f t ≤ 9 := by
  induction t with
  | zero =>
    show (0 : Int) ≤ 0 ∧ (0 : Int) ≤ 9
    omega
  | succ t ih =>
    have h1 := hf (fw st ((t : Int) + 1)).toNat
    have h2 := hf t
    unfold gs
    split <;> (try split) <;> omega
def filI (v : Int) (n : Nat) (f : Nat → Int) : Nat → Int := fun k => if k < n then v else f k
def filL (v : Int64) (n : Nat) (f : Nat → Int64) : Nat → Int64 := fun k => if k < n then v else f k
theorem filI_0 (v : Int) (f : Nat → Int) : filI v 0 f = f := by
  funext k
  exact if_neg (by omega)
theorem filL_0 (v : Int64) (f : Nat → Int64) : filL v 0 f = f := by
  funext k
  exact if_neg (by omega)
theorem filI_s (v : Int) (n : Nat) (f : Nat → Int) : va_up (filI v n f) n v = filI v (n + 1) f := by
  funext k
  by_cases h : k = n
  · rw [h, va_up_self]
    exact (if_pos (by omega)).symm
  · rw [va_up_ne _ _ h]
    unfold filI
    by_cases h2 : k < n
    · rw [if_pos h2, if_pos (by omega)]
    · rw [if_neg h2, if_neg (by omega)]
theorem filL_s (v : Int64) (n : Nat) (f : Nat → Int64) : vp_updL (filL v n f) n v = filL v (n + 1) f := by
  funext k
  by_cases h : k = n
  · rw [h, pk_uLs]
    exact (if_pos (by omega)).symm
  · rw [pk_uLn h]
    unfold filL
    by_cases h2 : k < n
    · rw [if_pos h2, if_pos (by omega)]
    · rw [if_neg h2, if_neg (by omega)]
theorem up_id {α : Type} (f : Nat → α) (k : Nat) : va_up f k (f k) = f := by
  funext j
  by_cases h : j = k
  · rw [h, va_up_self]
  · rw [va_up_ne _ _ h]
theorem up_up {α : Type} (f : Nat → α) (k : Nat) (x y : α) : va_up (va_up f k x) k y = va_up f k y := by
  funext j
  by_cases h : j = k
  · rw [h, va_up_self, va_up_self]
  · rw [va_up_ne _ _ h, va_up_ne _ _ h, va_up_ne _ _ h]
/-- a row turned: how far it has come -/
def rotP (st n : Int) (f : Nat → Int) (t : Int) : Nat → Int := fun k => if (k : Int) < st ∧ fw st ((k : Int) + (st - n)) < t then f (fw st ((k : Int) + (st - n))).toNat else f k
def rot (st n : Int) (f : Nat → Int) : Nat → Int := rotP st n f st
theorem rotP_0 (st n : Int) (f : Nat → Int) (hn : 0 ≤ n ∧ n < st) : rotP st n f 0 = f := by
  funext k
  unfold rotP
  by_cases h : (k : Int) < st
  · have := fw_rng (st := st) (x := (k : Int) + (st - n)) (by omega)
    rw [if_neg (by omega)]
  · rw [if_neg (by omega)]
theorem rotP_s (st n : Int) (f : Nat → Int) (t : Int) (hn : 0 ≤ n ∧ n < st) (ht : 0 ≤ t ∧ t < st) : va_up (rotP st n f t) (fw st (t + n)).toNat (f t.toNat) = rotP st n f (t + 1) := by
  have h0 := fw_rng (st := st) (x := t + n) (by omega)
  funext k
  by_cases h : k = (fw st (t + n)).toNat
  · have e : fw st ((k : Int) + (st - n)) = t := by
      rw [h]
      unfold fw
      split <;> split <;> omega
    have hk : (k : Int) < st := by omega
    rw [← h, va_up_self]
    unfold rotP
    rw [e, if_pos ⟨hk, by omega⟩]
  · rw [va_up_ne _ _ h]
    unfold rotP
    by_cases hk : (k : Int) < st
    · have h1 := fw_rng (st := st) (x := (k : Int) + (st - n)) (by omega)
      have ne : fw st ((k : Int) + (st - n)) ≠ t := fun e => h (by
        rw [← e]
        unfold fw
        split <;> split <;> omega)
      by_cases h2 : fw st ((k : Int) + (st - n)) < t
      · rw [if_pos ⟨hk, h2⟩, if_pos ⟨hk, by omega⟩]
      · rw [if_neg (fun q => h2 q.2), if_neg (fun q => by omega)]
    · rw [if_neg (fun q => hk q.1), if_neg (fun q => hk q.1)]
