theorem fa_k {wo lo be a k pg : Int} (h : 1 ≤ k ∧ k ≤ 3 ∧ 0 ≤ a ∧ a < prts pg k) : va_up (faOf wo lo be) k.toNat a = faOf (if (1 ≤ k ∧ k ≤ 3 ∧ 0 ≤ a ∧ a < prts pg k) ∧ k = 1 then a else wo) (if (1 ≤ k ∧ k ≤ 3 ∧ 0 ≤ a ∧ a < prts pg k) ∧ k = 2 then a else lo) (if (1 ≤ k ∧ k ≤ 3 ∧ 0 ≤ a ∧ a < prts pg k) ∧ k = 3 then a else be) := by
  rw [← if_and h, ← if_and h, ← if_and h]
  rcases (show k = 1 ∨ k = 2 ∨ k = 3 by omega) with rfl | rfl | rfl
  · exact fa_1 _ _ _ _
  · exact fa_2 _ _ _ _
  · exact fa_3 _ _ _ _
theorem sh1_ct {rf : Nat → Int} {w : Int} (h : 11 ≤ w ∧ w ≤ 17) : sh1 rf (w - 10).toNat = rf (w - 11).toNat := by
  unfold sh1
  rw [if_neg (by omega), show (w - 10).toNat - 1 = (w - 11).toNat by omega]
theorem mk_dec {pp : Nat → Int} {S : Nat → Bool} {k : Int} (hk : 0 ≤ k) (c : Nat) : decide (0 ≤ mkP pp S k c) = (decide (0 ≤ pp c) || S c) := by
  unfold mkP
  by_cases h : 0 ≤ pp c
  · rw [if_neg (by omega), decide_eq_true h]
    rfl
  · cases hS : S c with
    | true => rw [if_pos ⟨by omega, rfl⟩, decide_eq_true hk, decide_eq_false h]; rfl
    | false => rw [if_neg (fun q => absurd q.2 (by decide)), decide_eq_false h]; rfl
theorem filI_rng {f : Nat → Int} {n : Nat} (h : ∀ k, -1 ≤ f k ∧ f k ≤ 99) (k : Nat) : -1 ≤ filI (-1) n f k ∧ filI (-1) n f k ≤ 99 := by
  have := h k
  unfold filI
  split <;> omega
/-! a cam that is missing explains nothing -/
theorem hof_ne {R : Nat → Nat → Int} {wo c t : Int} (h : c ≠ wo) (h0 : 0 ≤ c) : hof R wo c t = hof R (-1) c t := by
  unfold hof hv
  rw [if_neg (fun q => h q.1), if_neg (fun q => by omega)]
theorem SS_ne {R : Nat → Nat → Int} {ac up li le : Nat → Int} {spc wo be k t : Int} (h1 : ac (le k.toNat).toNat ≠ wo ∧ 0 ≤ ac (le k.toNat).toNat) (h2 : up (le k.toNat).toNat ≠ wo ∧ 0 ≤ up (le k.toNat).toNat) (h3 : li (le k.toNat).toNat ≠ wo ∧ 0 ≤ li (le k.toNat).toNat) : SS cM R ac up li le spc wo be k t = SS cM R ac up li le spc (-1) be k t := by
  unfold SS dwn xA yA
  simp only [hof_ne h1.1 h1.2, hof_ne h2.1 h2.2, hof_ne h3.1 h3.2]
theorem pg_ne {R : Nat → Nat → Int} {ac up li le : Nat → Int} {spc wo be k : Int} (h1 : ac (le k.toNat).toNat ≠ wo ∧ 0 ≤ ac (le k.toNat).toNat) (h2 : up (le k.toNat).toNat ≠ wo ∧ 0 ≤ up (le k.toNat).toNat) (h3 : li (le k.toNat).toNat ≠ wo ∧ 0 ≤ li (le k.toNat).toNat) (n : Nat) : pgS cM R ac up li le spc wo be k n = pgS cM R ac up li le spc (-1) be k n := by
  induction n with
  | zero => rfl
  | succ n ih =>
    funext c
    show (pgS cM R ac up li le spc wo be k n c || SS cM R ac up li le spc wo be k n c) = (pgS cM R ac up li le spc (-1) be k n c || SS cM R ac up li le spc (-1) be k n c)
    rw [ih, SS_ne h1 h2 h3]
theorem ms_ne {R : Nat → Nat → Int} {th ac up li le : Nat → Int} {spc st wo lo be pg : Int} (ha : ∀ k, 0 ≤ ac k ∧ ac k ≤ 11) (hu : ∀ k, 0 ≤ up k ∧ up k ≤ 11) (hl : ∀ k, 0 ≤ li k ∧ li k ≤ 11) (hc : alc th ac up li le pg) (hw : th wo.toNat = 0) (n : Nat) (hn : n ≤ pg.toNat) : msS cM R ac up li le spc st wo lo be n = msS cM R ac up li le spc st (-1) lo be n := by
  induction n with
  | zero => rfl
  | succ n ih =>
    obtain ⟨c1, c2, c3⟩ := hc n (by omega)
    have e : pgS cM R ac up li le spc wo be (n : Int) st.toNat = pgS cM R ac up li le spc (-1) be (n : Int) st.toNat := pg_ne ⟨fun q => by
        have q : ac (le n).toNat = wo := q
        rw [q] at c1; omega, (ha _).1⟩ ⟨fun q => by
        have q : up (le n).toNat = wo := q
        rw [q] at c2; omega, (hu _).1⟩ ⟨fun q => by
        have q : li (le n).toNat = wo := q
        rw [q] at c3; omega, (hl _).1⟩ _
    funext c
    show (msS cM R ac up li le spc st wo lo be n c || (if (n : Int) = lo then false else pgS cM R ac up li le spc wo be (n : Int) st.toNat c)) = (msS cM R ac up li le spc st (-1) lo be n c || (if (n : Int) = lo then false else pgS cM R ac up li le spc (-1) be (n : Int) st.toNat c))
    rw [ih (by omega), e]
theorem FF_gone {R : Nat → Nat → Int} {th ac up li le : Nat → Int} {spc st pg : Int} {M : Nat → Bool} (ha : ∀ k, 0 ≤ ac k ∧ ac k ≤ 11) (hu : ∀ k, 0 ≤ up k ∧ up k ≤ 11) (hl : ∀ k, 0 ≤ li k ∧ li k ≤ 11) (hc : alc th ac up li le pg) {v : Nat} (hw : th v = 0) (h0 : FFB 1200 cM R ac up li le spc st pg M 0 0 = false) : FFB 1200 cM R ac up li le spc st pg M 1 v = false := by
  rw [← h0]
  unfold FFB fitB
  have e : msS cM R ac up li le spc st (v : Int) (-1) (-1) pg.toNat = msS cM R ac up li le spc st (-1) (-1) (-1) pg.toNat := ms_ne ha hu hl hc (wo := (v : Int)) hw _ (Nat.le_refl _)
  show decide (∀ c : Nat, c < 1200 → msS cM R ac up li le spc st (v : Int) (-1) (-1) pg.toNat c = M c) = decide (∀ c : Nat, c < 1200 → msS cM R ac up li le spc st (-1) (-1) (-1) pg.toNat c = M c)
  rw [e]
