/-! what the figure's calls answer and do -/
def mOf (wd : Nat → Int64) : Nat → Bool := fun c => (wd (c / 64)).toBitVec.getLsbD (c % 64)
theorem bits_mOf (wd : Nat → Int64) : bits wd (mOf wd) := by
  intro i j hi hj
  unfold mOf
  rw [show (64 * i + j) / 64 = i by omega, show (64 * i + j) % 64 = j by omega]
theorem mOf_eq {wd : Nat → Int64} {M : Nat → Bool} (h : bits wd M) {c : Nat} (hc : c < 1216) : mOf wd c = M c := by
  unfold mOf
  rw [h _ _ (by omega) (by omega), show 64 * (c / 64) + c % 64 = c by omega]
def cM (x y : Int) : Nat := (10 * x + y).toNat
theorem cC_eq {x y a b : Int} (h : 0 ≤ x ∧ x < 120 ∧ 0 ≤ y ∧ y < 10) (h2 : 0 ≤ a ∧ a < 120 ∧ 0 ≤ b ∧ b < 10) : cC x y = cC a b ↔ x = a ∧ y = b := by
  unfold cC
  omega
theorem cM_eq {x y a b : Int} (h : 0 ≤ x ∧ x < 120 ∧ 0 ≤ y ∧ y < 10) (h2 : 0 ≤ a ∧ a < 120 ∧ 0 ≤ b ∧ b < 10) : cM x y = cM a b ↔ x = a ∧ y = b := by
  unfold cM
  omega
/-- the paper's words and numbers, and the pegs and steps that they stand for -/
def relP (M : Nat → Bool) (fi pp ps : Nat → Int) : Prop := (∀ x y : Int, 0 ≤ x ∧ x < 120 ∧ 0 ≤ y ∧ y < 10 → M (cC x y) = decide (0 ≤ pp (cM x y)) ∧ (0 ≤ pp (cM x y) → fi (cC x y) = pp (cM x y) * 100 + ps (cM x y))) ∧ ∀ c : Nat, 1200 ≤ c → c < 1216 → M c = false
def relW (wd : Nat → Int64) (fi pp ps : Nat → Int) : Prop := relP (mOf wd) fi pp ps
theorem relW_of {wd : Nat → Int64} {M : Nat → Bool} {fi pp ps : Nat → Int} (h : bits wd M) (hr : relP M fi pp ps) : relW wd fi pp ps := by
  refine ⟨fun x y hxy => ?_, fun c h1 h2 => ?_⟩
  · rw [mOf_eq h (by unfold cC; omega)]
    exact hr.1 x y hxy
  · rw [mOf_eq h h2]
    exact hr.2 c h1 h2
abbrev plc (x y : Int) : Prop := 0 ≤ x ∧ x < 120 ∧ 0 ≤ y ∧ y < 10
theorem cM_lt {x y : Int} (h : plc x y) : cM x y < 1200 := by
  unfold cM
  omega
theorem cC_lt {x y : Int} (h : plc x y) : cC x y < 1200 := by
  unfold cC
  omega
theorem rel_clear (wd : Nat → Int64) (fi pp ps : Nat → Int) : relW (filL 0 19 wd) fi (filI (-1) 1200 pp) (filI (-1) 1200 ps) := by
  refine relW_of (bits_fil non wd) ⟨fun x y h => ?_, fun c _ _ => rfl⟩
  have e : filI (-1) 1200 pp (cM x y) = -1 := if_pos (cM_lt h)
  rw [e]
  exact ⟨rfl, fun q => absurd q (by decide)⟩
/-- marks of a set of cells, by peg k and step t -/
def mkP (pp : Nat → Int) (S : Nat → Bool) (k : Int) : Nat → Int := fun c => if pp c < 0 ∧ S c = true then k else pp c
def mkT (pp ps : Nat → Int) (S : Nat → Bool) (t : Int) : Nat → Int := fun c => if pp c < 0 ∧ S c = true then t else ps c
/-- a set of cells in one way of numbering and in the other -/
def samS (S S' : Nat → Bool) : Prop := (∀ x y : Int, plc x y → S (cC x y) = S' (cM x y)) ∧ ∀ c : Nat, 1200 ≤ c → S c = false
theorem rel_mark {M : Nat → Bool} {fi pp ps : Nat → Int} {S S' : Nat → Bool} {k t : Int} (h : relP M fi pp ps) (hs : samS S S') (hk : 0 ≤ k) : relP (orM M S) (fiU 1200 M S (k * 100 + t) fi) (mkP pp S' k) (mkT pp ps S' t) := by
  refine ⟨fun x y hxy => ?_, fun c h1 h2 => ?_⟩
  · obtain ⟨a, b⟩ := h.1 x y hxy
    have e := hs.1 x y hxy
    have hl := cC_lt hxy
    show (M (cC x y) || S (cC x y)) = decide (0 ≤ mkP pp S' k (cM x y)) ∧ (0 ≤ mkP pp S' k (cM x y) → fiU 1200 M S (k * 100 + t) fi (cC x y) = mkP pp S' k (cM x y) * 100 + mkT pp ps S' t (cM x y))
    by_cases hp : 0 ≤ pp (cM x y)
    · have e1 : mkP pp S' k (cM x y) = pp (cM x y) := if_neg (by omega)
      have e2 : mkT pp ps S' t (cM x y) = ps (cM x y) := if_neg (by omega)
      have e3 : fiU 1200 M S (k * 100 + t) fi (cC x y) = fi (cC x y) := if_neg (fun q => by
        have q1 := q.2.1
        rw [a, decide_eq_true hp] at q1
        exact absurd q1 (by decide))
      rw [e1, e2, e3, a, decide_eq_true hp]
      exact ⟨rfl, b⟩
    · rw [decide_eq_false hp] at a
      cases hS : S' (cM x y) with
      | true =>
        have e1 : mkP pp S' k (cM x y) = k := if_pos ⟨by omega, hS⟩
        have e2 : mkT pp ps S' t (cM x y) = t := if_pos ⟨by omega, hS⟩
        have e3 : fiU 1200 M S (k * 100 + t) fi (cC x y) = k * 100 + t := if_pos ⟨hl, a, e.trans hS⟩
        rw [e1, e2, e3, a, e, hS, decide_eq_true hk]
        exact ⟨rfl, fun _ => rfl⟩
      | false =>
        have e1 : mkP pp S' k (cM x y) = pp (cM x y) := if_neg (fun q => by rw [hS] at q; exact absurd q.2 (by decide))
        rw [e1, a, e, hS, decide_eq_false hp]
        exact ⟨rfl, fun q => absurd q hp⟩
  · unfold orM
    rw [h.2 c h1 h2, hs.2 c h1]
    rfl
theorem sam_one {x y : Int} (h : plc x y) : samS (one (cC x y)) (one (cM x y)) := by
  refine ⟨fun a b hab => ?_, fun c hc => ?_⟩
  · unfold one
    rw [Bool.eq_iff_iff, decide_eq_true_eq, decide_eq_true_eq, cC_eq hab h, cM_eq hab h]
  · have := cC_lt h
    exact decide_eq_false (by omega)
theorem sam_or {S S' T T' : Nat → Bool} (h : samS S S') (h2 : samS T T') : samS (fun c => S c || T c) (fun c => S' c || T' c) := by
  refine ⟨fun a b hab => ?_, fun c hc => ?_⟩
  · show (S _ || T _) = (S' _ || T' _)
    rw [h.1 a b hab, h2.1 a b hab]
  · show (S c || T c) = false
    rw [h.2 c hc, h2.2 c hc]
    rfl
theorem sam_non : samS non non := ⟨fun _ _ _ => rfl, fun _ _ => rfl⟩
theorem sam_line {x y dx dy : Int} (hx : 0 ≤ x ∧ x < 120 ∧ 0 ≤ x + dx ∧ x + dx < 120) (hy : 0 ≤ y ∧ y < 10 ∧ 0 ≤ y + dy ∧ y + dy < 10) (m : Int) (n : Nat) (hn : (n : Int) < m ∨ n = 0) : samS (lnS cC x y dx dy m n) (lnS cM x y dx dy m n) := by
  induction n with
  | zero => exact sam_non
  | succ n ih =>
    have r1 := rnd_rng (i := (n : Int) + 1) (d := dx) (m := m) (by omega)
    have r2 := rnd_rng (i := (n : Int) + 1) (d := dy) (m := m) (by omega)
    refine sam_or (ih (by omega)) (sam_one (x := x + rnd (((n : Int) + 1) * dx) m) (y := y + rnd (((n : Int) + 1) * dy) m) ?_)
    refine ⟨?_, ?_, ?_, ?_⟩ <;> (by_cases h1 : 0 ≤ dx <;> by_cases h2 : 0 ≤ dy <;> omega)
theorem sam_SS {R : Nat → Nat → Int} (hR : ∀ i j, 0 ≤ R i j ∧ R i j ≤ 9) {ac up li le : Nat → Int} {spc wo be k t : Int} (h1 : 0 ≤ spc ∧ spc ≤ 9) (h2 : 0 ≤ k ∧ k < 12) : samS (SS cC R ac up li le spc wo be k t) (SS cM R ac up li le spc wo be k t) := by
  have x1 := xA_rng hR (ac := ac) (le := le) (spc := spc) (wo := wo) (be := be) (k := k) (t := t) h1 h2
  have y1 := yA_rng hR (up := up) (le := le) (wo := wo) (be := be) (k := k) (t := t)
  have x0 := xA_rng hR (ac := ac) (le := le) (spc := spc) (wo := wo) (be := be) (k := k) (t := t - 1) h1 h2
  have y0 := yA_rng hR (up := up) (le := le) (wo := wo) (be := be) (k := k) (t := t - 1)
  by_cases hd : dwn R li le wo k t = 0
  · rw [SS_0 hd, SS_0 hd]
    exact sam_non
  · by_cases hd2 : 0 < t ∧ dwn R li le wo k (t - 1) = 1
    · rw [SS_2 hd hd2, SS_2 hd hd2]
      exact sam_or (sam_one ⟨by omega, by omega, by omega, by omega⟩) (sam_line (by omega) (by omega) _ _ (by omega))
    · rw [SS_1 hd hd2, SS_1 hd hd2]
      exact sam_one ⟨by omega, by omega, by omega, by omega⟩
theorem sam_pg {R : Nat → Nat → Int} (hR : ∀ i j, 0 ≤ R i j ∧ R i j ≤ 9) {ac up li le : Nat → Int} {spc wo be k : Int} (h1 : 0 ≤ spc ∧ spc ≤ 9) (h2 : 0 ≤ k ∧ k < 12) (n : Nat) : samS (pgS cC R ac up li le spc wo be k n) (pgS cM R ac up li le spc wo be k n) := by
  induction n with
  | zero => exact sam_non
  | succ n ih => exact sam_or ih (sam_SS hR h1 h2)
theorem sam_ms {R : Nat → Nat → Int} (hR : ∀ i j, 0 ≤ R i j ∧ R i j ≤ 9) {ac up li le : Nat → Int} {spc st wo lo be : Int} (h1 : 0 ≤ spc ∧ spc ≤ 9) (n : Nat) (hn : n ≤ 12) : samS (msS cC R ac up li le spc st wo lo be n) (msS cM R ac up li le spc st wo lo be n) := by
  induction n with
  | zero => exact sam_non
  | succ n ih =>
    refine sam_or (ih (by omega)) ?_
    by_cases e : (n : Int) = lo
    · have e1 : (fun c => if (n : Int) = lo then false else pgS cC R ac up li le spc wo be (n : Int) st.toNat c) = non := by
        funext c
        exact if_pos e
      have e2 : (fun c => if (n : Int) = lo then false else pgS cM R ac up li le spc wo be (n : Int) st.toNat c) = non := by
        funext c
        exact if_pos e
      rw [e1, e2]
      exact sam_non
    · have e1 : (fun c => if (n : Int) = lo then false else pgS cC R ac up li le spc wo be (n : Int) st.toNat c) = pgS cC R ac up li le spc wo be (n : Int) st.toNat := by
        funext c
        exact if_neg e
      have e2 : (fun c => if (n : Int) = lo then false else pgS cM R ac up li le spc wo be (n : Int) st.toNat c) = pgS cM R ac up li le spc wo be (n : Int) st.toNat := by
        funext c
        exact if_neg e
      rw [e1, e2]
      exact sam_pg hR h1 (by omega) _
/-- the same paper is the same message, in either numbering -/
theorem fit_same {R : Nat → Nat → Int} (hR : ∀ i j, 0 ≤ R i j ∧ R i j ≤ 9) {ac up li le : Nat → Int} {spc st pg wo lo be : Int} (h1 : 0 ≤ spc ∧ spc ≤ 9) (h2 : 0 ≤ pg ∧ pg ≤ 12) {M : Nat → Bool} {fi pp ps : Nat → Int} (h : relP M fi pp ps) : fitB 1216 cC R ac up li le spc st pg M wo lo be = fitB 1200 cM R ac up li le spc st pg (fun c => decide (0 ≤ pp c)) wo lo be := by
  have hs := sam_ms hR (ac := ac) (up := up) (li := li) (le := le) (st := st) (wo := wo) (lo := lo) (be := be) h1 pg.toNat (by omega)
  unfold fitB
  rw [decide_eq_decide]
  constructor
  · intro q c hc
    have hp : plc ((c / 10 : Nat) : Int) ((c % 10 : Nat) : Int) := ⟨by omega, by omega, by omega, by omega⟩
    have e : cM ((c / 10 : Nat) : Int) ((c % 10 : Nat) : Int) = c := by unfold cM; omega
    have a := hs.1 _ _ hp
    have b := (h.1 _ _ hp).1
    rw [e] at a b
    show _ = decide (0 ≤ pp c)
    rw [← a, ← b]
    exact q _ (by have := cC_lt hp; omega)
  · intro q c hc
    by_cases h9 : c < 1200
    · have hp : plc ((c % 120 : Nat) : Int) ((c / 120 : Nat) : Int) := ⟨by omega, by omega, by omega, by omega⟩
      have e : cC ((c % 120 : Nat) : Int) ((c / 120 : Nat) : Int) = c := by unfold cC; omega
      have a := hs.1 _ _ hp
      have b := (h.1 _ _ hp).1
      rw [e] at a b
      rw [a, b]
      exact q _ (cM_lt hp)
    · rw [hs.2 c (by omega), h.2 c (by omega) hc]
def rfu (rf : Nat → Int) (v : Int) : Nat → Int := va_up rf (-1 - v).toNat (rf (-1 - v).toNat + 1)
def rfx (rf : Nat → Int) (v : Int) : Nat → Int := if v < 0 ∧ -7 ≤ v then rfu rf v else rf
def rC (th : Nat → Int) (c : Int) : Int := if 0 ≤ c ∧ c < 12 then (if th c.toNat = 0 then -5 else 0) else -1
def rS (th : Nat → Int) (st c t : Int) : Int := if rC th c = 0 then (if 0 ≤ t ∧ t < st then 0 else -7) else rC th c
theorem rC_rng (th : Nat → Int) (c : Int) : (rC th c = 0 ∧ 0 ≤ c ∧ c < 12 ∧ th c.toNat ≠ 0) ∨ (rC th c = -5 ∧ 0 ≤ c ∧ c < 12 ∧ th c.toNat = 0) ∨ (rC th c = -1 ∧ ¬ (0 ≤ c ∧ c < 12)) := by
  unfold rC
  split
  · split
    · refine Or.inr (Or.inl ⟨rfl, by omega, by omega, by omega⟩)
    · refine Or.inl ⟨rfl, by omega, by omega, by omega⟩
  · exact Or.inr (Or.inr ⟨rfl, by omega⟩)
theorem rS_rng (th : Nat → Int) (st c t : Int) : (rS th st c t = 0 ∧ rC th c = 0 ∧ 0 ≤ t ∧ t < st) ∨ (rS th st c t = -7 ∧ rC th c = 0 ∧ ¬ (0 ≤ t ∧ t < st)) ∨ (rS th st c t = rC th c ∧ rC th c ≠ 0) := by
  unfold rS
  split
  · split
    · exact Or.inl ⟨rfl, by assumption, by omega, by omega⟩
    · exact Or.inr (Or.inl ⟨rfl, by assumption, by omega⟩)
  · exact Or.inr (Or.inr ⟨rfl, by assumption⟩)
/-! a show: the spring and the paper, step by step -/
abbrev ZZ : Type := Bool × Int × Int × Int × (Nat → Int) × (Nat → Int)
def z1 (ld : Int) (S : Nat → Bool) (k t : Int) (z : ZZ) : ZZ := if z.1 = false then z else if z.2.1 < ld + wr z.2.2.2.1 then (false, z.2) else (true, z.2.1 - (ld + wr z.2.2.2.1), z.2.2.1 + tks z.2.1, z.2.2.2.1 + 1, mkP z.2.2.2.2.1 S k, mkT z.2.2.2.2.1 z.2.2.2.2.2 S t)
def zin (ld : Int) (S : Int → Int → Nat → Bool) (k : Int) : Nat → ZZ → ZZ
  | 0, z => z
  | t + 1, z => z1 ld (S k (t : Int)) k (t : Int) (zin ld S k t z)
def zout (ld : Int) (S : Int → Int → Nat → Bool) (st lo : Int) : Nat → ZZ → ZZ
  | 0, z => z
  | k + 1, z => if (k : Int) = lo then zout ld S st lo k z else zin ld S (k : Int) st.toNat (zout ld S st lo k z)
theorem zin_s {ld : Int} {S : Int → Int → Nat → Bool} {k t : Int} {z : ZZ} (h : 0 ≤ t) : zin ld S k (t + 1).toNat z = z1 ld (S k t) k t (zin ld S k t.toNat z) := by
  obtain ⟨n, rfl⟩ := Int.eq_ofNat_of_zero_le h
  rfl
theorem zout_s {ld : Int} {S : Int → Int → Nat → Bool} {st lo k : Int} {z : ZZ} (h : 0 ≤ k) : zout ld S st lo (k + 1).toNat z = if k = lo then zout ld S st lo k.toNat z else zin ld S k st.toNat (zout ld S st lo k.toNat z) := by
  obtain ⟨n, rfl⟩ := Int.eq_ofNat_of_zero_le h
  rfl
theorem z1_stop {ld : Int} {S : Nat → Bool} {k t : Int} {z : ZZ} (h : z.1 = false) : z1 ld S k t z = z := if_pos h
theorem zin_stop {ld : Int} {S : Int → Int → Nat → Bool} {k : Int} {z : ZZ} (a b : Nat) (h : (zin ld S k a z).1 = false) : zin ld S k (a + b) z = zin ld S k a z := by
  induction b with
  | zero => rfl
  | succ b ih =>
    show z1 ld _ k _ (zin ld S k (a + b) z) = _
    rw [ih, z1_stop h]
theorem zout_stop {ld : Int} {S : Int → Int → Nat → Bool} {st lo : Int} {z : ZZ} (a b : Nat) (h : (zout ld S st lo a z).1 = false) : zout ld S st lo (a + b) z = zout ld S st lo a z := by
  induction b with
  | zero => rfl
  | succ b ih =>
    show (if ((a + b : Nat) : Int) = lo then zout ld S st lo (a + b) z else zin ld S _ st.toNat (zout ld S st lo (a + b) z)) = _
    rw [ih]
    split
    · rfl
    · have := zin_stop (ld := ld) (S := S) (k := ((a + b : Nat) : Int)) (z := zout ld S st lo a z) 0 st.toNat h
      rw [Nat.zero_add] at this
      exact this
theorem if01 (p : Prop) [Decidable p] : ((if p then (1 : Int) else 0) = 1 ∧ p) ∨ ((if p then (1 : Int) else 0) = 0 ∧ ¬ p) := by
  by_cases h : p
  · exact Or.inl ⟨if_pos h, h⟩
  · exact Or.inr ⟨if_neg h, h⟩
def aCam (th : Nat → Int) (st : Int) (R : Nat → Nat → Int) (c w : Int) : Int := if rC th c = 0 then (if w = 0 then bb st th R (la st th R c.toNat).toNat else if w = 1 then sb st (R (la st th R c.toNat).toNat) (R c.toNat) else if w = 2 then gs st (R c.toNat) st.toNat else -2) else rC th c
theorem lrn_cong {g t t' : Nat → Int} {n : Nat} (h : ∀ k, k < n → t k = t' k) : lrn g t n = lrn g t' n := by
  funext k
  unfold lrn
  by_cases hk : k < n
  · rw [if_pos hk, if_pos hk, h k hk]
  · rw [if_neg hk, if_neg hk]
theorem tal_ti (f tm : Nat → Int) (n k : Nat) (h : k < 10) : tal f n tm k = ti f n k := if_pos h
theorem rfx_0 {rf : Nat → Int} {v : Int} (h : ¬ (v < 0 ∧ -7 ≤ v)) : rfx rf v = rf := if_neg h
theorem rfx_1 {rf : Nat → Int} {v : Int} (h : v < 0 ∧ -7 ≤ v) : rfx rf v = rfu rf v := if_pos h
theorem rel_see {M : Nat → Bool} {fi pp ps : Nat → Int} {x y : Int} (h : relP M fi pp ps) (hp : plc x y) (hm : M (cC x y) = false) : relP (fun c => M c || decide (c = cC x y)) (va_up fi (cC x y) (99 * 100 + 99)) (va_up pp (cM x y) 99) (va_up ps (cM x y) 99) := by
  refine ⟨fun a b hab => ?_, fun c h1 h2 => ?_⟩
  · obtain ⟨e, f⟩ := h.1 a b hab
    by_cases q : a = x ∧ b = y
    · obtain ⟨rfl, rfl⟩ := q
      rw [va_up_self, va_up_self, va_up_self]
      exact ⟨by simp, fun _ => by omega⟩
    · have q1 : cC a b ≠ cC x y := fun z => q ((cC_eq hab hp).mp z)
      have q2 : cM a b ≠ cM x y := fun z => q ((cM_eq hab hp).mp z)
      show (M (cC a b) || decide (cC a b = cC x y)) = _ ∧ _
      rw [va_up_ne _ _ q1, va_up_ne _ _ q2, va_up_ne _ _ q2, e, decide_eq_false q1, Bool.or_false]
      exact ⟨rfl, f⟩
  · have := cC_lt hp
    show (M c || decide (c = cC x y)) = false
    rw [h.2 c h1 h2, decide_eq_false (by omega)]
    rfl
theorem rel_wipe {M : Nat → Bool} {fi pp ps : Nat → Int} {x y : Int} (h : relP M fi pp ps) (hp : plc x y) : relP (fun c => M c && !decide (c = cC x y)) fi (va_up pp (cM x y) (-1)) (va_up ps (cM x y) (-1)) := by
  refine ⟨fun a b hab => ?_, fun c h1 h2 => ?_⟩
  · obtain ⟨e, f⟩ := h.1 a b hab
    by_cases q : a = x ∧ b = y
    · obtain ⟨rfl, rfl⟩ := q
      rw [va_up_self, va_up_self]
      exact ⟨by simp, fun z => absurd z (by decide)⟩
    · have q1 : cC a b ≠ cC x y := fun z => q ((cC_eq hab hp).mp z)
      have q2 : cM a b ≠ cM x y := fun z => q ((cM_eq hab hp).mp z)
      show (M (cC a b) && !decide (cC a b = cC x y)) = _ ∧ _
      rw [va_up_ne _ _ q2, va_up_ne _ _ q2, e, decide_eq_false q1]
      exact ⟨by simp, f⟩
  · show (M c && !decide (c = cC x y)) = false
    rw [h.2 c h1 h2]
    rfl
