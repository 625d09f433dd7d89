theorem cpy_0 (f g : Nat → Int) (i j : Nat) : va_cpy f g i j 0 = g := by
  funext k
  exact pk_cpy_out (by omega)
theorem cpy_s (f g : Nat → Int) (i j n : Nat) : va_up (va_cpy f g i j n) (j + n) (f (i + n)) = va_cpy f g i j (n + 1) := by
  funext k
  by_cases e : k = j + n
  · rw [e, va_up_self, pk_cpy_in (by omega) (by omega)]
    congr 1
    omega
  · rw [va_up_ne _ _ e]
    by_cases h : j ≤ k ∧ k < j + n
    · rw [pk_cpy_in h.1 h.2, pk_cpy_in h.1 (by omega)]
    · rw [pk_cpy_out (by omega), pk_cpy_out (by omega)]
def mixF (f g : Nat → Int) (n : Nat) : Nat → Int := fun k => if k < n then f k else g k
theorem mix_0 (f g : Nat → Int) : mixF f g 0 = g := by
  funext k
  exact if_neg (by omega)
theorem mix_s (f g : Nat → Int) (n : Nat) : va_up (mixF f g n) n (f n) = mixF f g (n + 1) := by
  funext k
  by_cases e : k = n
  · rw [e, va_up_self]
    exact (if_pos (by omega)).symm
  · rw [va_up_ne _ _ e]
    unfold mixF
    by_cases h : k < n
    · rw [if_pos h, if_pos (by omega)]
    · rw [if_neg h, if_neg (by omega)]
theorem mix_rot {f g : Nat → Int} {st n : Int} (hst : 2 ≤ st) (hn : 0 ≤ n ∧ n < st) (h : ∀ u : Nat, (u : Int) < st → f (fw st ((u : Int) + n)).toNat = g u) : mixF f g st.toNat = rot st n g := by
  funext k
  unfold mixF rot rotP
  by_cases hk : (k : Int) < st
  · have r := fw_rng (st := st) (x := (k : Int) + (st - n)) (by omega)
    rw [if_pos (by omega), if_pos ⟨hk, r.2⟩]
    have q := h (fw st ((k : Int) + (st - n))).toNat (by omega)
    rw [show ((fw st ((k : Int) + (st - n))).toNat : Int) = fw st ((k : Int) + (st - n)) by omega] at q
    rw [← q]
    congr 1
    unfold fw
    split <;> split <;> omega
  · rw [if_neg (by omega), if_neg (fun q => hk q.1)]
theorem mk_one {pp : Nat → Int} {c : Nat} {k : Int} : (if pp c < 0 then va_up pp c k else pp) = mkP pp (one c) k := by
  funext d
  unfold mkP one
  by_cases h : pp c < 0
  · rw [if_pos h]
    by_cases e : d = c
    · subst e
      rw [va_up_self, if_pos ⟨h, by simp⟩]
    · rw [va_up_ne _ _ e, if_neg (by simp [e])]
  · rw [if_neg h]
    by_cases e : d = c
    · subst e
      rw [if_neg (fun q => h q.1)]
    · rw [if_neg (by simp [e])]
theorem mt_one {pp ps : Nat → Int} {c : Nat} {t : Int} : (if pp c < 0 then va_up ps c t else ps) = mkT pp ps (one c) t := by
  funext d
  unfold mkT one
  by_cases h : pp c < 0
  · rw [if_pos h]
    by_cases e : d = c
    · subst e
      rw [va_up_self, if_pos ⟨h, by simp⟩]
    · rw [va_up_ne _ _ e, if_neg (by simp [e])]
  · rw [if_neg h]
    by_cases e : d = c
    · subst e
      rw [if_neg (fun q => h q.1)]
    · rw [if_neg (by simp [e])]
theorem mk_two {pp : Nat → Int} {S T : Nat → Bool} {k : Int} (hk : 0 ≤ k) : mkP (mkP pp S k) T k = mkP pp (fun c => S c || T c) k := by
  funext c
  unfold mkP
  by_cases h : pp c < 0
  · cases hS : S c with
    | true => simp [h, hS]
    | false => simp [h, hS]
  · simp [h]
theorem mt_two {pp ps : Nat → Int} {S T : Nat → Bool} {k t : Int} (hk : 0 ≤ k) : mkT (mkP pp S k) (mkT pp ps S t) T t = mkT pp ps (fun c => S c || T c) t := by
  funext c
  unfold mkT mkP
  by_cases h : pp c < 0
  · cases hS : S c with
    | true => simp [h, hS]
    | false => simp [h, hS]
  · simp [h]
theorem mk_non {pp : Nat → Int} {k : Int} : mkP pp non k = pp := by
  funext c
  exact if_neg (fun q => absurd q.2 Bool.false_ne_true)
theorem mt_non {pp ps : Nat → Int} {t : Int} : mkT pp ps non t = ps := by
  funext c
  exact if_neg (fun q => absurd q.2 Bool.false_ne_true)
theorem low_eq {a b : Int} (hb : 0 < b) : -b < a - a.tdiv b * b ∧ a - a.tdiv b * b < b ∧ (a - a.tdiv b * b < 0 → a / b = a.tdiv b - 1) ∧ (0 ≤ a - a.tdiv b * b → a / b = a.tdiv b) := by
  by_cases h : 0 ≤ a
  · rw [Int.tdiv_eq_ediv_of_nonneg h]
    have h1 := Int.mul_ediv_add_emod a b
    have h2 := Int.emod_nonneg a (show b ≠ 0 by omega)
    have h3 := Int.emod_lt_of_pos a hb
    rw [Int.mul_comm] at h1
    refine ⟨by omega, by omega, fun q => by omega, fun _ => rfl⟩
  · have e : a.tdiv b = -((-a) / b) := by
      rw [← Int.tdiv_eq_ediv_of_nonneg (a := -a) (by omega), Int.neg_tdiv, Int.neg_neg]
    have h1 := Int.mul_ediv_add_emod (-a) b
    have h2 := Int.emod_nonneg (-a) (show b ≠ 0 by omega)
    have h3 := Int.emod_lt_of_pos (-a) hb
    rw [e]
    generalize hq : (-a) / b = q at *
    generalize hr : (-a) % b = r at *
    have e9 : -q * b = a + r := by
      rw [Int.neg_mul, Int.mul_comm]
      omega
    rw [e9]
    refine ⟨by omega, by omega, fun z => ?_, fun z => ?_⟩
    · have e3 : a = (b - r) + b * (-q - 1) := by
        rw [Int.mul_sub, Int.mul_neg, Int.mul_one]
        rw [Int.neg_mul, Int.mul_comm] at e9
        omega
      rw [e3, Int.add_mul_ediv_left _ _ (by omega), Int.ediv_eq_zero_of_lt (by omega) (by omega)]
      omega
    · have e2 : a = -q * b := by omega
      rw [e2, Int.mul_ediv_cancel _ (by omega)]
