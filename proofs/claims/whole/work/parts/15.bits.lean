theorem ts_nf {x : Bool} (h : ¬ x = false) : x = true := by cases x <;> first | rfl | exact absurd rfl h
theorem ts_nt {x : Bool} (h : ¬ x = true) : x = false := by cases x <;> first | rfl | exact absurd rfl h
theorem ts_bit {w : Int64} {s : UInt64} {j : Nat} (hj : j < 64) (hs : s.toNat = j) : ((w.toUInt64 >>> s).toInt64 &&& 1) = 0 ↔ w.toBitVec.getLsbD j = false := by
  have e : (w.toUInt64 >>> s).toInt64.toBitVec = w.toBitVec >>> j := by
    apply BitVec.eq_of_toNat_eq
    show (w.toUInt64 >>> s).toNat = _
    rw [UInt64.toNat_shiftRight, hs, Nat.mod_eq_of_lt hj, BitVec.toNat_ushiftRight]
    rfl
  rw [← Int64.toBitVec_inj, Int64.toBitVec_and, e]
  show w.toBitVec >>> j &&& 1#64 = 0#64 ↔ _
  constructor
  · intro h
    have t := congrArg (fun x => x.getLsbD 0) h
    simpa using t
  · intro h
    apply BitVec.eq_of_getLsbD_eq
    intro i hi
    cases i with
    | zero => simp [h]
    | succ i => simp
theorem ts_or {w m : Int64} {j : Nat} (hj : j < 64) (hm : m.toBitVec = BitVec.twoPow 64 j) : (w ||| m) = w ↔ w.toBitVec.getLsbD j = true := by
  rw [← Int64.toBitVec_inj, Int64.toBitVec_or, hm]
  constructor
  · intro h
    have t := congrArg (fun x => x.getLsbD j) h
    simp only [BitVec.getLsbD_or, BitVec.getLsbD_twoPow] at t
    simpa [hj] using t.symm
  · intro h
    apply BitVec.eq_of_getLsbD_eq
    intro i hi
    rw [BitVec.getLsbD_or, BitVec.getLsbD_twoPow]
    by_cases e : j = i
    · subst e; rw [h, Bool.true_or]
    · simp [e]
theorem ts_and {w m : Int64} {j : Nat} (hj : j < 64) (hm : m.toBitVec = BitVec.twoPow 64 j) : (w &&& (m ^^^ (-1))) = w ↔ w.toBitVec.getLsbD j = false := by
  have ha : (-1 : Int64).toBitVec = BitVec.allOnes 64 := by decide
  rw [← Int64.toBitVec_inj, Int64.toBitVec_and, Int64.toBitVec_xor, hm, ha]
  constructor
  · intro h
    have t := congrArg (fun x => x.getLsbD j) h
    simp only [BitVec.getLsbD_and, BitVec.getLsbD_xor, BitVec.getLsbD_twoPow, BitVec.getLsbD_allOnes] at t
    simpa [hj] using t.symm
  · intro h
    apply BitVec.eq_of_getLsbD_eq
    intro i hi
    rw [BitVec.getLsbD_and, BitVec.getLsbD_xor, BitVec.getLsbD_twoPow, BitVec.getLsbD_allOnes]
    by_cases e : j = i
    · subst e; rw [h, Bool.false_and]
    · simp [e, hi]
def lsr (w : Int64) (s : Int) : Int64 := (w.toUInt64 >>> ((iI s).toInt64.toUInt64 &&& Int64.toUInt64 63)).toInt64
def lsl (w : Int64) (s : Int) : Int64 := w <<< ((iI s).toInt64 &&& 63)
def cz (x : Int64) : Int := if (0 : Int64) < x then 1 else if x = 0 then 0 else -1
theorem cz_rng (x : Int64) : -1 ≤ cz x ∧ cz x ≤ 1 := by
  unfold cz
  split <;> (try split) <;> omega
theorem cz_0 {x : Int64} : cz x = 0 ↔ x = 0 := by
  unfold cz
  by_cases h : (0 : Int64) < x
  · rw [if_pos h]
    constructor
    · intro q; omega
    · intro q; rw [q] at h; exact absurd h (by decide)
  · rw [if_neg h]
    by_cases h2 : x = 0
    · rw [if_pos h2]; exact ⟨fun _ => h2, fun _ => rfl⟩
    · rw [if_neg h2]
      constructor
      · intro q; omega
      · intro q; exact absurd q h2
theorem sh_u : ∀ n : Nat, n < 64 → ((iI (n : Int)).toInt64.toUInt64 &&& Int64.toUInt64 63).toNat = n := by decide +kernel
theorem sh_l : ∀ n : Nat, n < 64 → ((1 : Int64) <<< ((iI (n : Int)).toInt64 &&& 63)).toBitVec = BitVec.twoPow 64 n := by decide +kernel
theorem lsr_bit {w : Int64} {s : Int} (h : 0 ≤ s ∧ s < 64) : (lsr w s &&& 1) = 0 ↔ w.toBitVec.getLsbD s.toNat = false := by
  obtain ⟨n, rfl⟩ := Int.eq_ofNat_of_zero_le h.1
  exact ts_bit (by omega) (sh_u n (by omega))
theorem lsl_bit {s : Int} (h : 0 ≤ s ∧ s < 64) : (lsl 1 s).toBitVec = BitVec.twoPow 64 s.toNat := by
  obtain ⟨n, rfl⟩ := Int.eq_ofNat_of_zero_le h.1
  exact sh_l n (by omega)
/-- words and the cells that they hold -/
def bits (wd : Nat → Int64) (M : Nat → Bool) : Prop := ∀ i j : Nat, i < 19 → j < 64 → (wd i).toBitVec.getLsbD j = M (64 * i + j)
theorem bits_get {wd : Nat → Int64} {M : Nat → Bool} (h : bits wd M) {z : Int} (hz : 0 ≤ z ∧ z < 1216) : (lsr (wd (z / 64).toNat) (z % 64) &&& 1) = 0 ↔ M z.toNat = false := by
  rw [lsr_bit (by omega), h _ _ (by omega) (by omega), show 64 * (z / 64).toNat + (z % 64).toNat = z.toNat by omega]
theorem tp_at {z : Int} {j : Nat} (hz : 0 ≤ z) : (decide ((z % 64).toNat < 64) && decide ((z % 64).toNat = j)) = decide (64 * (z / 64).toNat + j = z.toNat) := by
  rw [Bool.eq_iff_iff]
  simp only [Bool.and_eq_true, decide_eq_true_eq]
  omega
theorem bits_set {wd : Nat → Int64} {M : Nat → Bool} (h : bits wd M) {z : Int} (hz : 0 ≤ z ∧ z < 1216) : bits (vp_updL wd (z / 64).toNat (wd (z / 64).toNat ||| lsl 1 (z % 64))) (fun c => M c || decide (c = z.toNat)) := by
  intro i j hi hj
  show _ = (M (64 * i + j) || decide (64 * i + j = z.toNat))
  by_cases e : i = (z / 64).toNat
  · subst e
    rw [pk_uLs, Int64.toBitVec_or, BitVec.getLsbD_or, lsl_bit (by omega), BitVec.getLsbD_twoPow, h _ _ hi hj, tp_at hz.1]
  · rw [pk_uLn e, h _ _ hi hj, decide_eq_false (by omega), Bool.or_false]
theorem bits_clr {wd : Nat → Int64} {M : Nat → Bool} (h : bits wd M) {z : Int} (hz : 0 ≤ z ∧ z < 1216) : bits (vp_updL wd (z / 64).toNat (wd (z / 64).toNat &&& (lsl 1 (z % 64) ^^^ (-1)))) (fun c => M c && !decide (c = z.toNat)) := by
  have ha : (-1 : Int64).toBitVec = BitVec.allOnes 64 := by decide
  intro i j hi hj
  show _ = (M (64 * i + j) && !decide (64 * i + j = z.toNat))
  by_cases e : i = (z / 64).toNat
  · subst e
    rw [pk_uLs, Int64.toBitVec_and, BitVec.getLsbD_and, Int64.toBitVec_xor, BitVec.getLsbD_xor, ha, BitVec.getLsbD_allOnes, lsl_bit (by omega), BitVec.getLsbD_twoPow, h _ _ hi hj, tp_at hz.1, decide_eq_true hj]
    cases decide (64 * (z / 64).toNat + j = z.toNat) <;> rfl
  · rw [pk_uLn e, h _ _ hi hj, decide_eq_false (by omega)]
    simp
theorem bits_fil (M : Nat → Bool) (wd : Nat → Int64) : bits (filL 0 19 wd) (fun _ => false) := by
  intro i j hi hj
  unfold filL
  rw [if_pos hi]
  simp
theorem word_in {a b : Int64} : (a &&& (b ^^^ (-1))) = 0 ↔ ∀ j, j < 64 → a.toBitVec.getLsbD j = true → b.toBitVec.getLsbD j = true := by
  have ha : (-1 : Int64).toBitVec = BitVec.allOnes 64 := by decide
  rw [← Int64.toBitVec_inj, Int64.toBitVec_and, Int64.toBitVec_xor, ha]
  constructor
  · intro h j hj q
    have t := congrArg (fun x => x.getLsbD j) h
    simp only [BitVec.getLsbD_and, BitVec.getLsbD_xor, BitVec.getLsbD_allOnes] at t
    rw [q, decide_eq_true hj] at t
    cases hb : b.toBitVec.getLsbD j with
    | true => rfl
    | false => rw [hb] at t; simp at t
  · intro h
    apply BitVec.eq_of_getLsbD_eq
    intro i hi
    rw [BitVec.getLsbD_and, BitVec.getLsbD_xor, BitVec.getLsbD_allOnes, decide_eq_true hi]
    cases hq : a.toBitVec.getLsbD i with
    | false => simp
    | true => rw [h i hi hq]; simp
section LROWS
variable {p : Program} {l : Launch} {e : Env} {R : Room} {s : State} {m : MethodId} {args : Array Value} {below : List Frame} {meth : Method} {c : Code} {H : Heap} {locs : List Loc} {cells slots : Nat} {Q : State → Prop}
variable {cc : ByteArray} {pc : Nat} {ls : Array Slot} {rest : List Value}
theorem wi_shr6 (hx : p.tables.exec = Jvm.exec) (hb : c.code = cc) {z : Int} (h : 0 ≤ z ∧ z < 2147483648) (hdg : decode cc pc = .ok (.ishr, 1)) (k : W p l e R s m args below meth c H locs cells slots Q (F0 m (pc + 1) ls (.int (iI (z / 64)) :: rest))) : W p l e R s m args below meth c H locs cells slots Q (F0 m pc ls (.int (iI 6) :: .int (iI z) :: rest)) := by
  refine lv_ishr hx hb hdg ?_
  have e9 : iI z >>> (iI 6 &&& 31) = iI (z / 64) := by
    obtain ⟨n, rfl⟩ := Int.eq_ofNat_of_zero_le h.1
    rw [← iI_nI, pk_shrN (by omega) (iI 6 &&& 31) 6 (by decide), iI_nI]
    rfl
  rw [e9]
  exact k
theorem wi_and63 (hx : p.tables.exec = Jvm.exec) (hb : c.code = cc) {z : Int} (h : 0 ≤ z ∧ z < 2147483648) (hdg : decode cc pc = .ok (.iand, 1)) (k : W p l e R s m args below meth c H locs cells slots Q (F0 m (pc + 1) ls (.int (iI (z % 64)) :: rest))) : W p l e R s m args below meth c H locs cells slots Q (F0 m pc ls (.int (iI 63) :: .int (iI z) :: rest)) := by
  refine lv_iand hx hb hdg ?_
  have e9 : iI z &&& iI 63 = iI (z % 64) := by
    obtain ⟨n, rfl⟩ := Int.eq_ofNat_of_zero_le h.1
    rw [← iI_nI, pk_andN (by omega) 6 (by decide), iI_nI]
    rfl
  rw [e9]
  exact k
theorem wi_lushr (hx : p.tables.exec = Jvm.exec) (hb : c.code = cc) {w : Int64} {z : Int} (hdg : decode cc pc = .ok (.lushr, 1)) (k : W p l e R s m args below meth c H locs cells slots Q (F0 m (pc + 1) ls (.long (lsr w z) :: rest))) : W p l e R s m args below meth c H locs cells slots Q (F0 m pc ls (.int (iI z) :: .long w :: rest)) := lv_lushr hx hb hdg rfl k
theorem wi_lshl (hx : p.tables.exec = Jvm.exec) (hb : c.code = cc) {w : Int64} {z : Int} (hdg : decode cc pc = .ok (.lshl, 1)) (k : W p l e R s m args below meth c H locs cells slots Q (F0 m (pc + 1) ls (.long (lsl w z) :: rest))) : W p l e R s m args below meth c H locs cells slots Q (F0 m pc ls (.int (iI z) :: .long w :: rest)) := lv_lshl hx hb hdg rfl k
theorem wi_lcmp0 (hx : p.tables.exec = Jvm.exec) (hb : c.code = cc) {x : Int64} (hdg : decode cc pc = .ok (.lcmp, 1)) (k : W p l e R s m args below meth c H locs cells slots Q (F0 m (pc + 1) ls (.int (iI (cz x)) :: rest))) : W p l e R s m args below meth c H locs cells slots Q (F0 m pc ls (.long 0 :: .long x :: rest)) := by
  refine W.lcmp hx hb hdg ?_
  have e9 : lg_cmp x 0 = iI (cz x) := by
    unfold lg_cmp cz
    by_cases h : (0 : Int64) < x
    · rw [if_pos h, if_pos h]; rfl
    · rw [if_neg h, if_neg h]
      by_cases h2 : x = 0
      · rw [if_pos h2, if_pos h2]; rfl
      · rw [if_neg h2, if_neg h2]; rfl
  rw [e9]
  exact k
end LROWS
/-! marks on a paper: a set of cells by one peg and step -/
def orM (M S : Nat → Bool) : Nat → Bool := fun c => M c || S c
def fiU (n : Nat) (M S : Nat → Bool) (v : Int) (fi : Nat → Int) : Nat → Int := fun c => if c < n ∧ M c = false ∧ S c = true then v else fi c
def one (c : Nat) : Nat → Bool := fun d => decide (d = c)
def non : Nat → Bool := fun _ => false
theorem bits_ext {wd : Nat → Int64} {M M' : Nat → Bool} (h : bits wd M) (e : ∀ c, M c = M' c) : bits wd M' := fun i j hi hj => by rw [h i j hi hj, e]
theorem orM_hit {M S : Nat → Bool} {c : Nat} (h : (M c || S c) = true) (d : Nat) : orM M S d = orM M (fun d => S d || decide (d = c)) d := by
  unfold orM
  by_cases e : d = c
  · rw [e]
    show (M c || S c) = (M c || (S c || decide (c = c)))
    rw [← Bool.or_assoc, h]
    simp
  · simp [e]
theorem fiU_hit {n : Nat} {M S : Nat → Bool} {v : Int} {fi : Nat → Int} {c : Nat} (h : (M c || S c) = true) : fiU n M S v fi = fiU n M (fun d => S d || decide (d = c)) v fi := by
  funext d
  unfold fiU
  by_cases e : d = c
  · subst e
    cases hM : M d with
    | true => simp
    | false =>
      rw [hM] at h
      have h2 : S d = true := by simpa using h
      simp [h2]
  · simp [e]
theorem fiU_new {n : Nat} {M S : Nat → Bool} {v : Int} {fi : Nat → Int} {c : Nat} (h : (M c || S c) = false) : (if c < n then va_up (fiU n M S v fi) c v else fiU n M S v fi) = fiU n M (fun d => S d || decide (d = c)) v fi := by
  have h1 : M c = false := by
    cases q : M c with
    | false => rfl
    | true => rw [q] at h; simp at h
  funext d
  by_cases e : d = c
  · subst e
    by_cases hn : d < n
    · rw [if_pos hn, va_up_self]
      unfold fiU
      rw [if_pos ⟨hn, h1, by simp⟩]
    · rw [if_neg hn]
      unfold fiU
      rw [if_neg (fun q => hn q.1), if_neg (fun q => hn q.1)]
  · have e2 : fiU n M (fun d => S d || decide (d = c)) v fi d = fiU n M S v fi d := by
      unfold fiU
      simp [e]
    rw [e2]
    by_cases hn : c < n
    · rw [if_pos hn, va_up_ne _ _ e]
    · rw [if_neg hn]
