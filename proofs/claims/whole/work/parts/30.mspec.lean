/-! the reference's arrays, out of the shared state -/
def cmOf (R : Nat → Nat → Int) : Nat → Int := fun k => R (k / 16) (k % 16)
theorem cm_at {R : Nat → Nat → Int} {c t z : Int} (h : 0 ≤ c ∧ 0 ≤ t ∧ t < 16) (hz : z = 16 * c + t) : cmOf R z.toNat = R c.toNat t.toNat := by
  unfold cmOf
  rw [show z.toNat / 16 = c.toNat by omega, show z.toNat % 16 = t.toNat by omega]
theorem cm_up {R : Nat → Nat → Int} {c t z v : Int} (h : 0 ≤ c ∧ 0 ≤ t ∧ t < 16) (hz : z = 16 * c + t) : va_up (cmOf R) z.toNat v = cmOf (va_up R c.toNat (va_up (R c.toNat) t.toNat v)) := by
  funext k
  unfold cmOf
  by_cases e : k / 16 = c.toNat
  · rw [e, va_up_self]
    by_cases e2 : k % 16 = t.toNat
    · rw [e2, va_up_self, show k = z.toNat by omega, va_up_self]
    · rw [va_up_ne _ _ e2, va_up_ne _ _ (by omega), e]
  · rw [va_up_ne _ _ e, va_up_ne _ _ (by omega)]
def hbOf (hb : Nat → Nat → Int) : Nat → Int := fun k => hb (k / 10) (k % 10)
theorem hb_at {R : Nat → Nat → Int} {c t z : Int} (h : 0 ≤ c ∧ 0 ≤ t ∧ t < 10) (hz : z = 10 * c + t) : hbOf R z.toNat = R c.toNat t.toNat := by
  unfold hbOf
  rw [show z.toNat / 10 = c.toNat by omega, show z.toNat % 10 = t.toNat by omega]
theorem hb_up {R : Nat → Nat → Int} {c t z v : Int} (h : 0 ≤ c ∧ 0 ≤ t ∧ t < 10) (hz : z = 10 * c + t) : va_up (hbOf R) z.toNat v = hbOf (va_up R c.toNat (va_up (R c.toNat) t.toNat v)) := by
  funext k
  unfold hbOf
  by_cases e : k / 10 = c.toNat
  · rw [e, va_up_self]
    by_cases e2 : k % 10 = t.toNat
    · rw [e2, va_up_self, show k = z.toNat by omega, va_up_self]
    · rw [va_up_ne _ _ e2, va_up_ne _ _ (by omega), e]
  · rw [va_up_ne _ _ e, va_up_ne _ _ (by omega)]
def sh1 (rf : Nat → Int) : Nat → Int := fun k => if k = 0 then 0 else rf (k - 1)
theorem sh1_at {rf : Nat → Int} {v : Int} (h : -7 ≤ v ∧ v ≤ -1) : sh1 rf (-v).toNat = rf (-1 - v).toNat := by
  unfold sh1
  rw [if_neg (by omega), show (-v).toNat - 1 = (-1 - v).toNat by omega]
theorem sh1_up {rf : Nat → Int} {v : Int} (h : -7 ≤ v ∧ v ≤ -1) : va_up (sh1 rf) (-v).toNat (sh1 rf (-v).toNat + 1) = sh1 (rfu rf v) := by
  rw [sh1_at h]
  funext k
  unfold rfu
  by_cases e : k = (-v).toNat
  · rw [e, va_up_self, sh1_at h, va_up_self]
  · rw [va_up_ne _ _ e]
    unfold sh1
    by_cases e0 : k = 0
    · rw [if_pos e0, if_pos e0]
    · rw [if_neg e0, if_neg e0, va_up_ne _ _ (by omega)]
def faOf (wo lo be : Int) : Nat → Int := fun k => if k = 1 then wo else if k = 2 then lo else if k = 3 then be else -1
theorem fil2_s {f g : Nat → Int} {v : Int} {i : Int} (h : 0 ≤ i) (hf : f = filI v i.toNat g) : va_up f i.toNat v = filI v (i + 1).toNat g := by
  rw [hf, filI_s, show (i + 1).toNat = i.toNat + 1 by omega]
