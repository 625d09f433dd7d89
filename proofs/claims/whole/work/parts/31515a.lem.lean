theorem wr_s {ss : Int} (h : 0 ≤ ss) : wr ss + (if (ss + 1) % 100 = 0 ∧ wr ss < 20 then 1 else 0) = wr (ss + 1) := by
  unfold wr
  (repeat' split) <;> omega
def outS (S : Nat → Bool) : Prop := ∀ c : Nat, 1200 ≤ c → S c = false
theorem out_one {x y : Int} (h : plc x y) : outS (one (cM x y)) := fun c hc => decide_eq_false (fun q => by
  obtain ⟨a, b, c9, d⟩ := h
  rw [q] at hc
  unfold cM at hc
  omega)
theorem out_line {x y dx dy : Int} (hx : 0 ≤ x ∧ x < 120 ∧ 0 ≤ x + dx ∧ x + dx < 120) (hy : 0 ≤ y ∧ y < 10 ∧ 0 ≤ y + dy ∧ y + dy < 10) (m : Int) (n : Nat) (hn : (n : Int) < m ∨ n = 0) : outS (lnS cM x y dx dy m n) := by
  induction n with
  | zero => exact fun _ _ => rfl
  | succ n ih =>
    have r1 := rnd_rng (i := (n : Int) + 1) (d := dx) (m := m) (by omega)
    have r2 := rnd_rng (i := (n : Int) + 1) (d := dy) (m := m) (by omega)
    have o := out_one (x := x + rnd (((n : Int) + 1) * dx) m) (y := y + rnd (((n : Int) + 1) * dy) m) (by
      refine ⟨?_, ?_, ?_, ?_⟩ <;> (by_cases h1 : 0 ≤ dx <;> by_cases h2 : 0 ≤ dy <;> omega))
    intro c hc
    show (lnS cM x y dx dy m n c || decide (c = cM (x + rnd (((n : Int) + 1) * dx) m) (y + rnd (((n : Int) + 1) * dy) m))) = false
    rw [ih (by omega) c hc, show decide (c = cM (x + rnd (((n : Int) + 1) * dx) m) (y + rnd (((n : Int) + 1) * dy) m)) = false from o c hc]
    rfl
theorem out_SS {R : Nat → Nat → Int} (hR : ∀ i j, 0 ≤ R i j ∧ R i j ≤ 9) {ac up li le : Nat → Int} {spc wo be k t : Int} (h1 : 0 ≤ spc ∧ spc ≤ 9) (h2 : 0 ≤ k ∧ k < 12) : outS (SS cM R ac up li le spc wo be k t) := by
  have x1 := xA_rng hR (ac := ac) (le := le) (spc := spc) (wo := wo) (be := be) (k := k) (t := t) h1 h2
  have y1 := yA_rng hR (up := up) (le := le) (wo := wo) (be := be) (k := k) (t := t)
  have x0 := xA_rng hR (ac := ac) (le := le) (spc := spc) (wo := wo) (be := be) (k := k) (t := t - 1) h1 h2
  have y0 := yA_rng hR (up := up) (le := le) (wo := wo) (be := be) (k := k) (t := t - 1)
  by_cases hd : dwn R li le wo k t = 0
  · rw [SS_0 hd]
    exact fun _ _ => rfl
  · by_cases hd2 : 0 < t ∧ dwn R li le wo k (t - 1) = 1
    · rw [SS_2 hd hd2]
      intro c hc
      have a := out_one (x := xA R ac le spc wo be k t) (y := yA R up le wo be k t) ⟨by omega, by omega, by omega, by omega⟩ c hc
      have b := out_line (x := xA R ac le spc wo be k (t - 1)) (y := yA R up le wo be k (t - 1)) (dx := xA R ac le spc wo be k t - xA R ac le spc wo be k (t - 1)) (dy := yA R up le wo be k t - yA R up le wo be k (t - 1)) (by omega) (by omega) (mxa (xA R ac le spc wo be k t - xA R ac le spc wo be k (t - 1)) (yA R up le wo be k t - yA R up le wo be k (t - 1))) (mxa (xA R ac le spc wo be k t - xA R ac le spc wo be k (t - 1)) (yA R up le wo be k t - yA R up le wo be k (t - 1)) - 1).toNat (by omega) c hc
      show (_ || _) = false
      rw [b]
      exact (Bool.or_false _).trans a
    · rw [SS_1 hd hd2]
      exact out_one ⟨by omega, by omega, by omega, by omega⟩
/-- two runs that begin with other papers -/
def zr (pp ps : Nat → Int) (z z' : ZZ) : Prop := z.1 = z'.1 ∧ z.2.1 = z'.2.1 ∧ z.2.2.1 = z'.2.2.1 ∧ z.2.2.2.1 = z'.2.2.2.1 ∧ (∀ c : Nat, c < 1200 → z.2.2.2.2.1 c = z'.2.2.2.2.1 c ∧ z.2.2.2.2.2 c = z'.2.2.2.2.2 c) ∧ ∀ c : Nat, 1200 ≤ c → z'.2.2.2.2.1 c = pp c ∧ z'.2.2.2.2.2 c = ps c
theorem zr_1 {pp ps : Nat → Int} {ld : Int} {S : Nat → Bool} (hS : outS S) {k t : Int} {z z' : ZZ} (h : zr pp ps z z') : zr pp ps (z1 ld S k t z) (z1 ld S k t z') := by
  obtain ⟨b, pw, tk, ss, p, q⟩ := z
  obtain ⟨b', pw', tk', ss', p', q'⟩ := z'
  obtain ⟨e1, e2, e3, e4, e5, e6⟩ := h
  dsimp only at e1 e2 e3 e4 e5 e6
  subst e1 e2 e3 e4
  unfold z1
  dsimp only
  by_cases h1 : b = false
  · rw [if_pos h1, if_pos h1]
    exact ⟨rfl, rfl, rfl, rfl, e5, e6⟩
  · rw [if_neg h1, if_neg h1]
    by_cases h2 : pw < ld + wr ss
    · rw [if_pos h2, if_pos h2]
      exact ⟨rfl, rfl, rfl, rfl, e5, e6⟩
    · rw [if_neg h2, if_neg h2]
      refine ⟨rfl, rfl, rfl, rfl, fun c hc => ?_, fun c hc => ?_⟩
      · have a := e5 c hc
        show mkP p S k c = mkP p' S k c ∧ mkT p q S t c = mkT p' q' S t c
        unfold mkP mkT
        rw [a.1, a.2]
        exact ⟨rfl, rfl⟩
      · have a := e6 c hc
        show mkP p' S k c = pp c ∧ mkT p' q' S t c = ps c
        unfold mkP mkT
        rw [hS c hc, if_neg (fun q => absurd q.2 (by decide)), if_neg (fun q => absurd q.2 (by decide))]
        exact a
theorem zr_in {pp ps : Nat → Int} {ld : Int} {S : Int → Int → Nat → Bool} {k : Int} (hS : ∀ t, outS (S k t)) (n : Nat) {z z' : ZZ} (h : zr pp ps z z') : zr pp ps (zin ld S k n z) (zin ld S k n z') := by
  induction n with
  | zero => exact h
  | succ n ih => exact zr_1 (hS _) ih
theorem zr_out {pp ps : Nat → Int} {ld st lo : Int} {S : Int → Int → Nat → Bool} (n : Nat) (hS : ∀ k t, 0 ≤ k ∧ k < (n : Int) → outS (S k t)) {z z' : ZZ} (h : zr pp ps z z') : zr pp ps (zout ld S st lo n z) (zout ld S st lo n z') := by
  induction n with
  | zero => exact h
  | succ n ih =>
    have q := ih (fun k t hk => hS k t (by omega))
    show zr pp ps (if (n : Int) = lo then zout ld S st lo n z else zin ld S n st.toNat (zout ld S st lo n z)) (if (n : Int) = lo then zout ld S st lo n z' else zin ld S n st.toNat (zout ld S st lo n z'))
    by_cases e : (n : Int) = lo
    · rw [if_pos e, if_pos e]; exact q
    · rw [if_neg e, if_neg e]; exact zr_in (fun t => hS _ t (by omega)) _ q
def cpN (f g : Nat → Int) (n : Nat) : Nat → Int := fun c => if c < n then f c else g c
theorem cpN_0 (f g : Nat → Int) : cpN f g 0 = g := by
  funext c
  exact if_neg (by omega)
theorem cpN_s {f g h : Nat → Int} {i : Int} (hi : 0 ≤ i) (e : h = cpN f g i.toNat) : va_up h i.toNat (f i.toNat) = cpN f g (i + 1).toNat := by
  rw [e]
  funext c
  by_cases q : c = i.toNat
  · rw [q, va_up_self]; exact (if_pos (by omega)).symm
  · rw [va_up_ne _ _ q]
    unfold cpN
    by_cases q2 : c < i.toNat
    · rw [if_pos q2, if_pos (by omega)]
    · rw [if_neg q2, if_neg (by omega)]
theorem z_show {R : Nat → Nat → Int} (hR : ∀ i j, 0 ≤ R i j ∧ R i j ≤ 9) {ac up li le : Nat → Int} {ld st lo spc wo be pw tk ss pg pw9 tk9 ss9 : Int} {b : Bool} {pp ps f g k9 q9 : Nat → Int} (h1 : 0 ≤ spc ∧ spc ≤ 9) (hpg : 0 ≤ pg ∧ pg ≤ 12) (h : zout ld (SS cM R ac up li le spc wo be) st lo pg.toNat (true, pw, tk, ss, filI (-1) 1200 f, filI (-1) 1200 g) = (b, pw9, tk9, ss9, k9, q9)) : zout ld (SS cM R ac up li le spc wo be) st lo pg.toNat (true, pw, tk, ss, filI (-1) 1200 pp, filI (-1) 1200 ps) = (b, pw9, tk9, ss9, cpN k9 pp 1200, cpN q9 ps 1200) := by
  have q := zr_out (pp := pp) (ps := ps) (ld := ld) (st := st) (lo := lo) (S := SS cM R ac up li le spc wo be) pg.toNat (fun k t hk => out_SS hR h1 (by omega)) (z := (true, pw, tk, ss, filI (-1) 1200 f, filI (-1) 1200 g)) (z' := (true, pw, tk, ss, filI (-1) 1200 pp, filI (-1) 1200 ps)) ⟨rfl, rfl, rfl, rfl, fun c hc => by
    show filI (-1) 1200 f c = filI (-1) 1200 pp c ∧ filI (-1) 1200 g c = filI (-1) 1200 ps c
    unfold filI
    rw [if_pos hc, if_pos hc, if_pos hc, if_pos hc]
    exact ⟨rfl, rfl⟩, fun c hc => by
    show filI (-1) 1200 pp c = pp c ∧ filI (-1) 1200 ps c = ps c
    unfold filI
    rw [if_neg (by omega), if_neg (by omega)]
    exact ⟨rfl, rfl⟩⟩
  rw [h] at q
  obtain ⟨z, hz⟩ : ∃ z, z = zout ld (SS cM R ac up li le spc wo be) st lo pg.toNat (true, pw, tk, ss, filI (-1) 1200 pp, filI (-1) 1200 ps) := ⟨_, rfl⟩
  rw [← hz] at q ⊢
  obtain ⟨b', pw', tk', ss', p', q'⟩ := z
  obtain ⟨e1, e2, e3, e4, e5, e6⟩ := q
  dsimp only at e1 e2 e3 e4 e5 e6
  rw [← e1, ← e2, ← e3, ← e4, show p' = cpN k9 pp 1200 from by
    funext c
    unfold cpN
    by_cases hc : c < 1200
    · rw [if_pos hc]; exact (e5 c hc).1.symm
    · rw [if_neg hc]; exact (e6 c (by omega)).1, show q' = cpN q9 ps 1200 from by
    funext c
    unfold cpN
    by_cases hc : c < 1200
    · rw [if_pos hc]; exact (e5 c hc).2.symm
    · rw [if_neg hc]; exact (e6 c (by omega)).2]
theorem zs_lo {ld st lo k t : Int} {S : Int → Int → Nat → Bool} {z z9 z8 : ZZ} (hk : 0 ≤ k) (e : k = lo) (h9 : zout ld S st lo k.toNat z = z9) (h8 : zin ld S k t.toNat z9 = z8) (ht : t = 0) : zout ld S st lo (k + 1).toNat z = z8 := by
  rw [zout_s hk, if_pos e, h9, ← h8, ht]
  rfl
theorem zs_full {ld st lo k t : Int} {S : Int → Int → Nat → Bool} {z z9 z8 : ZZ} (hk : 0 ≤ k) (e : k ≠ lo) (h9 : zout ld S st lo k.toNat z = z9) (h8 : zin ld S k t.toNat z9 = z8) (ht : t = st) : zout ld S st lo (k + 1).toNat z = z8 := by
  rw [zout_s hk, if_neg e, h9, ← h8, ht]
theorem zs_stop {ld st lo k t : Int} {S : Int → Int → Nat → Bool} {z z9 z8 : ZZ} (hk : 0 ≤ k) (e : k ≠ lo) (h9 : zout ld S st lo k.toNat z = z9) (h8 : zin ld S k t.toNat z9 = z8) (hb : z8.1 = false) (ht : 0 ≤ t ∧ t ≤ st) : zout ld S st lo (k + 1).toNat z = z8 := by
  rw [zout_s hk, if_neg e, h9, show st.toNat = t.toNat + (st.toNat - t.toNat) by omega, zin_stop _ _ (by rw [h8]; exact hb), h8]
theorem zi_stop {ld k t s8 pw8 tk8 ss8 : Int} {S : Int → Int → Nat → Bool} {z9 : ZZ} {k8 q8 : Nat → Int} (ht : 0 ≤ t) (h8 : zin ld S k t.toNat z9 = (decide (s8 = 0), pw8, tk8, ss8, k8, q8)) (hs : s8 = 0) (hp : pw8 < ld + wr ss8) : zin ld S k (t + 1).toNat z9 = (decide ((1 : Int) = 0), pw8, tk8, ss8, k8, q8) := by
  rw [zin_s ht, h8, decide_eq_true hs]
  unfold z1
  rw [if_neg (by simp)]
  exact if_pos hp
theorem zi_step {ld k t s8 pw8 tk8 ss8 : Int} {S : Int → Int → Nat → Bool} {z9 : ZZ} {k8 q8 : Nat → Int} (ht : 0 ≤ t) (h8 : zin ld S k t.toNat z9 = (decide (s8 = 0), pw8, tk8, ss8, k8, q8)) (hs : s8 = 0) (hp : ¬ pw8 < ld + wr ss8) : zin ld S k (t + 1).toNat z9 = (decide (s8 = 0), pw8 - (ld + wr ss8), tk8 + tks pw8, ss8 + 1, mkP k8 (S k t) k, mkT k8 q8 (S k t) t) := by
  rw [zin_s ht, h8, decide_eq_true hs]
  unfold z1
  rw [if_neg (by simp)]
  exact if_neg hp
