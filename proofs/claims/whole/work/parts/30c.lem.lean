theorem mkP_rng {pp : Nat → Int} {S : Nat → Bool} {k : Int} (h : ∀ c, -1 ≤ pp c ∧ pp c ≤ 99) (hk : 0 ≤ k ∧ k ≤ 99) (c : Nat) : -1 ≤ mkP pp S k c ∧ mkP pp S k c ≤ 99 := by
  have := h c
  unfold mkP
  split <;> omega
theorem SS_2p {pp : Nat → Int} {R : Nat → Nat → Int} {ac up li le : Nat → Int} {spc wo be k t x1 y1 x0 y0 dx dy : Int} (hk : 0 ≤ k) (h : dwn R li le wo k t ≠ 0) (h2 : 0 < t ∧ dwn R li le wo k (t - 1) = 1) (e1 : x1 = xA R ac le spc wo be k t) (e2 : y1 = yA R up le wo be k t) (e3 : x0 = xA R ac le spc wo be k (t - 1)) (e4 : y0 = yA R up le wo be k (t - 1)) (e5 : dx = x1 - x0) (e6 : dy = y1 - y0) : mkP (mkP pp (one (cM x1 y1)) k) (lnS cM x0 y0 dx dy (mxa dx dy) (mxa dx dy - 1).toNat) k = mkP pp (SS cM R ac up li le spc wo be k t) k := by
  rw [mk_two hk, SS_2 h h2, e5, e6, e1, e2, e3, e4]
  rfl
theorem SS_2t {pp ps : Nat → Int} {R : Nat → Nat → Int} {ac up li le : Nat → Int} {spc wo be k t x1 y1 x0 y0 dx dy : Int} (hk : 0 ≤ k) (h : dwn R li le wo k t ≠ 0) (h2 : 0 < t ∧ dwn R li le wo k (t - 1) = 1) (e1 : x1 = xA R ac le spc wo be k t) (e2 : y1 = yA R up le wo be k t) (e3 : x0 = xA R ac le spc wo be k (t - 1)) (e4 : y0 = yA R up le wo be k (t - 1)) (e5 : dx = x1 - x0) (e6 : dy = y1 - y0) : mkT (mkP pp (one (cM x1 y1)) k) (mkT pp ps (one (cM x1 y1)) t) (lnS cM x0 y0 dx dy (mxa dx dy) (mxa dx dy - 1).toNat) t = mkT pp ps (SS cM R ac up li le spc wo be k t) t := by
  rw [mt_two hk, SS_2 h h2, e5, e6, e1, e2, e3, e4]
  rfl
theorem fa_1 (wo lo be a : Int) : va_up (faOf wo lo be) 1 a = faOf a lo be := by
  funext k
  unfold va_up faOf
  by_cases h : k = 1 <;> simp [h]
theorem fa_2 (wo lo be a : Int) : va_up (faOf wo lo be) 2 a = faOf wo a be := by
  funext k
  unfold va_up faOf
  by_cases h : k = 2
  · subst h; simp
  · by_cases h1 : k = 1 <;> simp [h, h1]
theorem fa_3 (wo lo be a : Int) : va_up (faOf wo lo be) 3 a = faOf wo lo a := by
  funext k
  unfold va_up faOf
  by_cases h : k = 3
  · subst h; simp
  · by_cases h1 : k = 1 <;> by_cases h2 : k = 2 <;> simp [h, h1, h2]
