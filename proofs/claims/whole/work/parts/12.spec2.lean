abbrev cutL (th ac up li : Nat → Int) (k : Nat) : Prop := th (ac k).toNat = 1 ∧ th (up k).toNat = 1 ∧ th (li k).toNat = 1
abbrev alc (th ac up li le : Nat → Int) (pg : Int) : Prop := ∀ k : Nat, k < pg.toNat → cutL th ac up li (le k).toNat
def wr (ss : Int) : Int := if ss / 100 < 20 then ss / 100 else 20
theorem wr_rng {ss : Int} (h : 0 ≤ ss) : 0 ≤ wr ss ∧ wr ss ≤ 20 := by
  unfold wr
  split <;> omega
def tks (pw : Int) : Int := if 500 ≤ pw then 1 else if 200 ≤ pw then 2 else 4
def hv (wo c h : Int) : Int := if c = wo ∧ 0 < h then h - 1 else h
def bX (be x : Int) : Int := if be = 0 then x + 1 else x
def bY (be y : Int) : Int := if be = 1 then (if y + 1 < 9 then y + 1 else 9) else y
def tal (f : Nat → Int) (n : Nat) (tm : Nat → Int) : Nat → Int := fun k => if k < 10 then ctB (fun t => decide (f t = (k : Int))) n else tm k
theorem tal_0 (f tm : Nat → Int) : filI 0 10 tm = tal f 0 tm := rfl
theorem tal_s (f tm : Nat → Int) (n : Nat) (h : 0 ≤ f n ∧ f n ≤ 9) : va_up (tal f n tm) (f n).toNat (tal f n tm (f n).toNat + 1) = tal f (n + 1) tm := by
  funext k
  by_cases e : k = (f n).toNat
  · subst e
    rw [va_up_self]
    unfold tal
    rw [if_pos (by omega), if_pos (by omega)]
    show _ = ctB _ n + _
    rw [if_pos (by rw [decide_eq_true_eq]; omega)]
  · rw [va_up_ne _ _ e]
    unfold tal
    by_cases h2 : k < 10
    · rw [if_pos h2, if_pos h2]
      show _ = ctB _ n + _
      rw [if_neg (by rw [decide_eq_true_eq]; omega)]
      omega
    · rw [if_neg h2, if_neg h2]
theorem tal_rng (f tm : Nat → Int) (n k : Nat) (h : k < 10) : 0 ≤ tal f n tm k ∧ tal f n tm k ≤ n := by
  unfold tal
  rw [if_pos h]
  exact ctB_rng _ n
def lrn (g t : Nat → Int) (n : Nat) : Nat → Int := fun k => if k < n then g k + t k else g k
theorem lrn_0 (g t : Nat → Int) : lrn g t 0 = g := by
  funext k
  exact if_neg (by omega)
theorem lrn_s (g t : Nat → Int) (n : Nat) : va_up (lrn g t n) n (lrn g t n n + t n) = lrn g t (n + 1) := by
  funext k
  by_cases e : k = n
  · subst e
    rw [va_up_self]
    unfold lrn
    rw [if_neg (by omega), if_pos (by omega)]
  · rw [va_up_ne _ _ e]
    unfold lrn
    by_cases h2 : k < n
    · rw [if_pos h2, if_pos (by omega)]
    · rw [if_neg h2, if_neg (by omega)]
/-- the sum of the amounts, over the first n heights -/
def lk (t g : Nat → Int) (T st : Int) : Nat → Int
  | 0 => 0
  | n + 1 => lk t g T st n + (if 0 ≤ t n * T - g n * st then t n * T - g n * st else -(t n * T - g n * st))
theorem lk_s {t g : Nat → Int} {T st i : Int} (h : 0 ≤ i) : lk t g T st (i + 1).toNat = lk t g T st i.toNat + (if 0 ≤ t i.toNat * T - g i.toNat * st then t i.toNat * T - g i.toNat * st else -(t i.toNat * T - g i.toNat * st)) := by
  obtain ⟨n, rfl⟩ := Int.eq_ofNat_of_zero_le h
  rfl
theorem mul_b {a b A B : Int} (ha : 0 ≤ a ∧ a ≤ A) (hb : 0 ≤ b ∧ b ≤ B) : 0 ≤ a * b ∧ a * b ≤ A * B := by
  refine ⟨Int.mul_nonneg ha.1 hb.1, ?_⟩
  exact Int.mul_le_mul ha.2 hb.2 hb.1 (by omega)
theorem lk_rng {t g : Nat → Int} {T st : Int} (hT : 0 ≤ T ∧ T ≤ 1000) (hst : 0 ≤ st ∧ st ≤ 16) (hg : ∀ k, 0 ≤ g k ∧ g k ≤ 1000) (ht : ∀ k, k < 10 → 0 ≤ t k ∧ t k ≤ 16) (n : Nat) (hn : n ≤ 10) : 0 ≤ lk t g T st n ∧ lk t g T st n ≤ 16000 * n := by
  induction n with
  | zero =>
    show (0 : Int) ≤ 0 ∧ (0 : Int) ≤ _
    omega
  | succ n ih =>
    have h1 := ih (by omega)
    have h2 := mul_b (ht n (by omega)) hT
    have h3 := mul_b (hg n) hst
    show 0 ≤ lk t g T st n + _ ∧ lk t g T st n + _ ≤ _
    split <;> omega
/-- times each height is in the first n places -/
def ti (f : Nat → Int) (n : Nat) : Nat → Int := fun k => ctB (fun t => decide (f t = (k : Int))) n
theorem lk_cong {t t' g g' : Nat → Int} {T st : Int} (n : Nat) (h : ∀ k, k < n → t k = t' k) (h2 : ∀ k, k < n → g k = g' k) : lk t g T st n = lk t' g' T st n := by
  induction n with
  | zero => rfl
  | succ n ih =>
    show lk t g T st n + _ = lk t' g' T st n + _
    rw [ih (fun k hk => h k (by omega)) (fun k hk => h2 k (by omega)), h n (by omega), h2 n (by omega)]
/-- how unlike a cam is to a maker -/
def LK (st : Int) (f : Nat → Int) (g : Nat → Int) (T : Int) : Int := lk (ti f st.toNat) g T st 10
theorem LK_rng {st : Int} {f g : Nat → Int} {T : Int} (hT : 0 ≤ T ∧ T ≤ 1000) (hst : 2 ≤ st ∧ st ≤ 16) (hg : ∀ k, 0 ≤ g k ∧ g k ≤ 1000) : 0 ≤ LK st f g T ∧ LK st f g T ≤ 160000 := by
  have h := lk_rng (t := ti f st.toNat) (g := g) (T := T) (st := st) hT (by omega) hg (fun k hk => by
    have := ctB_rng (fun t => decide (f t = (k : Int))) st.toNat
    show 0 ≤ ctB _ _ ∧ ctB _ _ ≤ 16
    omega) 10 (by omega)
  unfold LK
  omega
/-- the maker whose likeness by all that was cut is least -/
def bst (L T : Nat → Int) : Nat → Int
  | 0 => -9
  | n + 1 => if 0 < T n ∧ (bst L T n = -9 ∨ L n * T (bst L T n).toNat < L (bst L T n).toNat * T n) then (n : Int) else bst L T n
theorem bst_s {L T : Nat → Int} {i : Int} (h : 0 ≤ i) : bst L T (i + 1).toNat = if 0 < T i.toNat ∧ (bst L T i.toNat = -9 ∨ L i.toNat * T (bst L T i.toNat).toNat < L (bst L T i.toNat).toNat * T i.toNat) then i else bst L T i.toNat := by
  obtain ⟨n, rfl⟩ := Int.eq_ofNat_of_zero_le h
  rfl
theorem bst_rng (L T : Nat → Int) (n : Nat) : bst L T n = -9 ∨ (0 ≤ bst L T n ∧ bst L T n < n) := by
  induction n with
  | zero => exact Or.inl rfl
  | succ n ih =>
    show (if _ then (n : Int) else bst L T n) = -9 ∨ _
    by_cases h : 0 < T n ∧ (bst L T n = -9 ∨ L n * T (bst L T n).toNat < L (bst L T n).toNat * T n)
    · refine Or.inr ?_
      show 0 ≤ (if _ then (n : Int) else bst L T n) ∧ (if _ then (n : Int) else bst L T n) < _
      rw [if_pos h]
      omega
    · have e : bst L T (n + 1) = bst L T n := if_neg h
      rw [if_neg h, e]
      omega
