theorem see_put {M : Nat → Bool} {fi pp ps : Nat → Int} {x y : Int} (h : relP M fi pp ps) (hp : plc x y) (hm : M (cC x y) = false) : relP (fun c => M c || decide (c = (y * 120 + x).toNat)) (if M (y * 120 + x).toNat = true ∨ 1200 ≤ (y * 120 + x).toNat then fi else va_up fi (y * 120 + x).toNat (99 * 100 + 99)) (va_up pp (cM x y) 99) (va_up ps (cM x y) 99) := by
  have e : (if M (y * 120 + x).toNat = true ∨ 1200 ≤ (y * 120 + x).toNat then fi else va_up fi (y * 120 + x).toNat (99 * 100 + 99)) = va_up fi (cC x y) (99 * 100 + 99) := if_neg (fun q => by
    have h1 := cC_lt hp
    have hm : M (y * 120 + x).toNat = false := hm
    have h1 : (y * 120 + x).toNat < 1200 := h1
    rcases q with q | q
    · rw [hm] at q
      exact absurd q (by decide)
    · omega)
  rw [e]
  exact rel_see h hp hm
theorem if_and {p q : Prop} [Decidable p] [Decidable q] {α : Type} {a b : α} (h : p) : (if q then a else b) = if p ∧ q then a else b := by
  by_cases hq : q
  · rw [if_pos hq, if_pos ⟨h, hq⟩]
  · rw [if_neg hq, if_neg (fun z => hq z.2)]
