/-! cams that are one another turned -/
theorem sb_iff {st : Int} {f g : Nat → Int} : 0 ≤ sb st f g ↔ ∃ n : Nat, n < st.toNat ∧ tn st f g (n : Int) := by
  unfold sb
  constructor
  · intro h
    rcases fnd_cases (fun n => decide (tn st f g (n : Int))) (-9) st.toNat with ⟨e, -⟩ | ⟨i, h1, -, h2, -⟩
    · rw [e] at h; exact absurd h (by decide)
    · exact ⟨i, h1, of_decide_eq_true h2⟩
  · rintro ⟨n, h1, h2⟩
    rcases fnd_cases (fun n => decide (tn st f g (n : Int))) (-9) st.toNat with ⟨-, e⟩ | ⟨i, h1, e, h2, -⟩
    · exact absurd h2 (of_decide_eq_false (e n h1))
    · rw [e]; omega
theorem fw_fw {st t n m : Int} (h1 : 0 ≤ t ∧ t < st) (h2 : 0 ≤ n ∧ n < st) (h3 : 0 ≤ m ∧ m < st) : fw st (fw st (t + n) + m) = fw st (t + fw st (n + m)) := by
  unfold fw
  (repeat' split) <;> omega
theorem sb_trans {st : Int} {f g h : Nat → Int} (h1 : 0 ≤ sb st f g) (h2 : 0 ≤ sb st g h) : 0 ≤ sb st f h := by
  obtain ⟨n, hn, a⟩ := sb_iff.mp h1
  obtain ⟨m, hm, b⟩ := sb_iff.mp h2
  have r := fw_rng (st := st) (x := (n : Int) + m) (by omega)
  refine sb_iff.mpr ⟨(fw st ((n : Int) + m)).toNat, by omega, fun t ht => ?_⟩
  have r2 := fw_rng (st := st) (x := (t : Int) + n) (by omega)
  rw [← a t ht, ← b (fw st ((t : Int) + n)).toNat (by omega), show (((fw st ((t : Int) + n)).toNat : Nat) : Int) = fw st ((t : Int) + n) by omega, show (((fw st ((n : Int) + m)).toNat : Nat) : Int) = fw st ((n : Int) + m) by omega, fw_fw (by omega) (by omega) (by omega)]
theorem lap_t {st : Int} {th : Nat → Int} {R : Nat → Nat → Int} {c o : Nat} : lap st th R c o = true ↔ th o = 1 ∧ 0 ≤ sb st (R o) (R c) := by
  unfold lap
  rw [Bool.and_eq_true, decide_eq_true_eq, decide_eq_true_eq]
theorem lap_0 {st : Int} {th : Nat → Int} {R : Nat → Nat → Int} {c o : Nat} (h : ¬ (th o = 1 ∧ 0 ≤ sb st (R o) (R c))) : lap st th R c o = false := by
  cases q : lap st th R c o with
  | false => rfl
  | true => exact absurd (lap_t.mp q) h
/-- a cam that is not the least of its blank cannot be the first that c is like -/
theorem lap_ne {st : Int} {th : Nat → Int} {R : Nat → Nat → Int} {c a : Nat} (h : ∀ o, o < a → lap st th R c o = false) (hn : la st th R a ≠ a) : lap st th R c a = false := by
  refine lap_0 (fun q => ?_)
  unfold la at hn
  rcases fnd_cases (lap st th R a) (a : Int) a with ⟨e, -⟩ | ⟨i, h1, -, h2, -⟩
  · exact hn e
  · obtain ⟨t1, t2⟩ := lap_t.mp h2
    have := h i h1
    rw [lap_t.mpr ⟨t1, sb_trans t2 q.2⟩] at this
    exact absurd this (by decide)
theorem la_hit {st : Int} {th : Nat → Int} {R : Nat → Nat → Int} {c a : Nat} (h : ∀ o, o < a → lap st th R c o = false) (hp : lap st th R c a = true) (hc : a < c) : la st th R c = a := fnd_hit h hp hc
theorem la_self {st : Int} {th : Nat → Int} {R : Nat → Nat → Int} {c : Nat} (h : ∀ o, o < c → lap st th R c o = false) : la st th R c = c := fnd_miss h
def fbP (st : Int) (th : Nat → Int) (R : Nat → Nat → Int) (n : Nat) (f g : Nat → Int) : Prop := ∀ u : Nat, u < n → th u = 1 → f u = la st th R u ∧ g u = bb st th R (la st th R u).toNat
def fbQ (st : Int) (th : Nat → Int) (R : Nat → Nat → Int) (c a : Nat) (f g : Nat → Int) : Prop := (f c = -9 ∧ ∀ o, o < a → lap st th R c o = false) ∨ (th c = 1 ∧ f c = la st th R c ∧ g c = bb st th R (la st th R c).toNat ∧ la st th R c < c)
theorem fbP_up {st : Int} {th : Nat → Int} {R : Nat → Nat → Int} {n c : Nat} {f g : Nat → Int} (v w : Int) (h : fbP st th R n f g) (hc : n ≤ c) : fbP st th R n (va_up f c v) (va_up g c w) := fun u hu ht => by
  rw [va_up_ne _ _ (by omega), va_up_ne _ _ (by omega)]
  exact h u hu ht
theorem fbQ_0 {st : Int} {th : Nat → Int} {R : Nat → Nat → Int} {c : Nat} {f g : Nat → Int} (w : Int) : fbQ st th R c 0 (va_up f c (-9)) (va_up g c w) := Or.inl ⟨va_up_self _ _ _, fun o h => absurd h (by omega)⟩
theorem fbQ_rng {st : Int} {th : Nat → Int} {R : Nat → Nat → Int} {c a : Nat} {f g : Nat → Int} (h : fbQ st th R c a f g) : -9 ≤ f c ∧ f c ≤ c := by
  have := la_rng st th R c
  rcases h with ⟨e, -⟩ | ⟨-, e, -⟩ <;> omega
theorem fbQ_neg {st : Int} {th : Nat → Int} {R : Nat → Nat → Int} {c a : Nat} {f g : Nat → Int} (h : fbQ st th R c a f g) (hn : f c < 0) : f c = -9 ∧ ∀ o, o < a → lap st th R c o = false := by
  have := la_rng st th R c
  rcases h with h | ⟨-, e, -⟩
  · exact h
  · omega
theorem fbQ_pos {st : Int} {th : Nat → Int} {R : Nat → Nat → Int} {c a : Nat} {f g : Nat → Int} (h : fbQ st th R c a f g) (hn : 0 ≤ f c) : th c = 1 ∧ f c = la st th R c ∧ g c = bb st th R (la st th R c).toNat ∧ la st th R c < c := by
  rcases h with ⟨e, -⟩ | h
  · omega
  · exact h
theorem fbQ_s {st : Int} {th : Nat → Int} {R : Nat → Nat → Int} {c : Nat} {a : Int} {f g : Nat → Int} (ha : 0 ≤ a) (h : fbQ st th R c a.toNat f g) (hn : f c < 0) (hl : lap st th R c a.toNat = false) : fbQ st th R c (a + 1).toNat f g := by
  obtain ⟨e, q⟩ := fbQ_neg h hn
  exact Or.inl ⟨e, ff_s ha q hl⟩
theorem fbQ_hit {st : Int} {th : Nat → Int} {R : Nat → Nat → Int} {c a b : Nat} {f g : Nat → Int} (hp : fbP st th R c f g) (h : ∀ o, o < a → lap st th R c o = false) (hc : a < c) (tc : th c = 1) (ta : th a = 1) (hl : f a = a) (hs : 0 ≤ sb st (R a) (R c)) : fbQ st th R c b (va_up f c a) (va_up g c (g a)) := by
  have e := la_hit h (lap_t.mpr ⟨ta, hs⟩) hc
  obtain ⟨e1, e2⟩ := hp a hc ta
  refine Or.inr ⟨tc, ?_, ?_, by omega⟩
  · rw [va_up_self, e]
  · rw [va_up_self, e2, ← e1, hl, e]
theorem fbP_s {st : Int} {th : Nat → Int} {R : Nat → Nat → Int} {c : Int} {f g : Nat → Int} (h0 : 0 ≤ c) (h : fbP st th R c.toNat f g) (hq : th c.toNat = 1 → f c.toNat = la st th R c.toNat ∧ g c.toNat = bb st th R (la st th R c.toNat).toNat) : fbP st th R (c + 1).toNat f g := fun u hu ht => by
  by_cases e : u = c.toNat
  · rw [e] at ht ⊢; exact hq ht
  · exact h u (by omega) ht
theorem bb_s {st : Int} {th : Nat → Int} {R : Nat → Nat → Int} {c : Int} (h : 0 ≤ c) : bb st th R (c + 1).toNat = bb st th R c.toNat + (if th c.toNat = 1 ∧ la st th R c.toNat = c then 1 else 0) := by
  unfold bb
  rw [ctB_s h, bbp_if, show ((c.toNat : Nat) : Int) = c by omega]
theorem sb_9 (st : Int) (f g : Nat → Int) : sb st f g = -9 ∨ 0 ≤ sb st f g := by
  unfold sb
  rcases fnd_cases (fun n => decide (tn st f g (n : Int))) (-9) st.toNat with ⟨e, -⟩ | ⟨i, h1, e, -⟩
  · exact Or.inl e
  · right; rw [e]; omega
theorem bb_0 (st : Int) (th : Nat → Int) (R : Nat → Nat → Int) (n : Nat) : 0 ≤ bb st th R n := (ctB_rng (bbp st th R) n).1
