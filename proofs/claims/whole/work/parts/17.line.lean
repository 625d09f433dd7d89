/-! division to the lower whole number, and the line between two steps -/
theorem iI_tdivT {a b : Int} (ha : -2147483648 ≤ a ∧ a < 2147483648) (hb : 0 < b ∧ b < 2147483648) : iI a / iI b = iI (a.tdiv b) := by
  have h1 : -2147483648 ≤ a.tdiv b ∧ a.tdiv b < 2147483648 := by
    by_cases h : 0 ≤ a
    · rw [Int.tdiv_eq_ediv_of_nonneg h]
      have := Int.ediv_nonneg h (Int.le_of_lt hb.1)
      have := Int.ediv_le_self b h
      omega
    · have e : a.tdiv b = -((-a).tdiv b) := by rw [Int.neg_tdiv, Int.neg_neg]
      rw [e, Int.tdiv_eq_ediv_of_nonneg (by omega)]
      have := Int.ediv_nonneg (a := -a) (b := b) (by omega) (Int.le_of_lt hb.1)
      have := Int.ediv_le_self b (a := -a) (by omega)
      omega
  rw [← Int32.toInt_inj, Int32.toInt_div, iI_toInt ha, iI_toInt (by omega), iI_toInt h1]
  exact ib_bmod h1
theorem xor_neg {a b : Int} (ha : -2147483648 ≤ a ∧ a < 2147483648) (hb : 0 ≤ b ∧ b < 2147483648) : (iI a ^^^ iI b).toInt < 0 ↔ a < 0 := by
  have key : ∀ x : Int32, x.toInt < 0 ↔ x.toBitVec.msb = true := fun x => by
    rw [BitVec.msb_eq_toInt, decide_eq_true_eq]
    exact Iff.rfl
  have hb1 : (iI b).toBitVec.msb = false := by
    cases q : (iI b).toBitVec.msb with
    | false => rfl
    | true =>
      have := (key (iI b)).mpr q
      rw [iI_toInt (by omega)] at this
      omega
  rw [key, Int32.toBitVec_xor, BitVec.msb_xor, hb1, Bool.xor_false, ← key, iI_toInt ha]
theorem fd_val {a b : Int} (ha : -1073741824 ≤ a ∧ a < 1073741824) (hb : 0 < b ∧ b < 1073741824) : Jvm.Free.JP.Math_floorDiv_II.val (iI a) (iI b) = iI (a / b) := by
  have hxn := xor_neg (a := a) (b := b) (by omega) (by omega)
  unfold Jvm.Free.JP.Math_floorDiv_II.val
  rw [iI_tdivT (by omega) (by omega), iI_mul]
  have hx : (iI a ^^^ iI b) < 0 ↔ a < 0 := by
    rw [Int32.lt_iff_toInt_lt]
    exact hxn
  by_cases h0 : a < 0
  · rw [if_pos (hx.mpr h0)]
    have e : a.tdiv b = -((-a) / b) := by
      rw [← Int.tdiv_eq_ediv_of_nonneg (a := -a) (by omega), Int.neg_tdiv, Int.neg_neg]
    have h1 := Int.mul_ediv_add_emod (-a) b
    have h2 := Int.emod_nonneg (-a) (show b ≠ 0 by omega)
    have h3 := Int.emod_lt_of_pos (-a) hb.1
    rw [e]
    generalize hq : (-a) / b = q at *
    generalize hr : (-a) % b = r at *
    have e9 : -q * b = a + r := by
      rw [Int.neg_mul, Int.mul_comm]
      omega
    rw [e9]
    by_cases h : r = 0
    · rw [if_pos (by rw [h, Int.add_zero])]
      congr 1
      have e2 : a = -q * b := by omega
      rw [e2, Int.mul_ediv_cancel _ (by omega)]
    · rw [if_neg (fun z => h (by
        rw [iI_eq (by omega) (by omega)] at z
        omega))]
      show iI (-q) - iI 1 = _
      rw [iI_sub]
      congr 1
      have e3 : a = (b - r) + b * (-q - 1) := by
        rw [Int.mul_sub, Int.mul_neg, Int.mul_one]
        rw [Int.neg_mul, Int.mul_comm] at e9
        omega
      rw [e3, Int.add_mul_ediv_left _ _ (by omega), Int.ediv_eq_zero_of_lt (by omega) (by omega)]
      omega
  · rw [if_neg (fun q => h0 (hx.mp q)), Int.tdiv_eq_ediv_of_nonneg (by omega)]
section FDIV
variable {p : Program} {l : Launch} {e : Env} {R : Room} {s : State} {m : MethodId} {args : Array Value} {below : List Frame} {meth : Method} {c : Code} {H : Heap} {locs : List Loc} {cells slots : Nat} {Q : State → Prop}
variable {cc : ByteArray} {pc : Nat} {ls : Array Slot} {rest : List Value}
theorem g_fdiv (hx : p.tables.exec = Jvm.exec) (hb : c.code = cc) (hml : c.maxLocals = ls.size) {own : String} {index : Nat} {Ts : List Cond} (hts : ∀ w ∈ Ts, w.before args s = true) (hown : s.vm.findClass own = some m.cls) (h1 : Cond.methodLink own index yJ9_floorDiv_7cf53 ∈ Ts) (h2 : Cond.static yJ9_floorDiv_7cf53 ∈ Ts) (h3 : Cond.initialized RJ9 ∈ Ts) (h4 : Cond.code yJ9_floorDiv_7cf53 cJ9_floorDiv_7cf53 3 (some .int) ∈ Ts) (hr : 1 ≤ R.frames ∧ 22 ≤ R.locals ∧ cells ≤ R.cells ∧ slots ≤ R.slots) (hW : (rest.map fun v => v.category).sum ≤ 8) {a b : Int} (ha : -1073741824 ≤ a ∧ a < 1073741824) (hb_ : 0 < b ∧ b < 1073741824) (hdg : decode cc pc = .ok (.invokestatic index, 3))
    (kk : W p l e R s m args below meth c H locs cells slots Q (F0 m (pc + 3) ls (.int (iI (a / b)) :: rest))) : W p l e R s m args below meth c H locs cells slots Q (F0 m pc ls (.int (iI b) :: .int (iI a) :: rest)) := by
  intro T hT X
  have hy : cJ9_floorDiv_7cf53 = Jvm.Free.JP.Math_floorDiv_II.yB := by decide +kernel
  have htab : Jvm.Free.JP.Math_floorDiv_II.tab.before args s = true := by
    show (Cond.and (Cond.code yJ9_floorDiv_7cf53 Jvm.Free.JP.Math_floorDiv_II.yB 3 (some .int)) (Cond.initialized RJ9)).before args s = true
    rw [Cond.before_and, ← hy, hts _ h4, hts _ h3]
    rfl
  have hK : Back l R p e below s args yJ9_floorDiv_7cf53 3 8 _ _ := Jvm.Free.JP.Math_floorDiv_II.pays (iI a) (iI b) htab hr.1 (by omega)
  obtain ⟨v, vm₁, ⟨U', l2, c2, s2⟩, hW₁, X', ⟨⟨hv, hh⟩, hl, hc, hs⟩, st⟩ := callS X hx (bytes := cJ9_floorDiv_7cf53) (maxL := 3) (ret := some .int) hown (hts _ h1) (hts _ h2) (hts _ h3) (hts _ h4) (by decide) hK (g := F0 m pc ls (.int (iI b) :: .int (iI a) :: rest)) rfl hml.symm (argsL := [.int (iI a), .int (iI b)]) (rest := rest) (fun sig h => by
      have h9 : parseMethodDescriptor "(II)I" = some { parameters := [.int, .int], returnType := some .int } := by decide +kernel
      rw [show yJ9_floorDiv_7cf53.desc = "(II)I" from rfl, h9] at h
      rw [← Option.some.inj h]; rfl) rfl (lv_room hW) (by rw [hb]; exact hdg) (fun vm₁ _ => ⟨hr.2.2.1, hr.2.2.2, rfl, by
        show iI b ≠ 0
        rw [← iI_0, ne_eq, iI_eq (by omega) (by omega)]
        omega⟩)
  dsimp only [Pt.U, Pt.locs, Pt.cells, Pt.slots] at X' hh hl hc hs st
  subst hl; subst hc; subst hs
  rw [fd_val ha hb_] at hv
  subst hv
  rw [List.append_nil] at X'
  obtain ⟨t, a1, b1⟩ := kk U' (hh.trans hT) X'
  exact ⟨t, st t a1, b1⟩
end FDIV
def rnd (a m : Int) : Int := (2 * a + m) / (2 * m)
def aab (x : Int) : Int := if 0 ≤ x then x else -x
def mxa (x y : Int) : Int := if aab x < aab y then aab y else aab x
theorem mxa_ge (x y : Int) : -(mxa x y) ≤ x ∧ x ≤ mxa x y ∧ -(mxa x y) ≤ y ∧ y ≤ mxa x y := by
  unfold mxa aab
  (repeat' split) <;> omega
theorem mxa_le {x y B : Int} (h : -B ≤ x ∧ x ≤ B) (h2 : -B ≤ y ∧ y ≤ B) : 0 ≤ mxa x y ∧ mxa x y ≤ B := by
  unfold mxa aab
  (repeat' split) <;> omega
theorem rnd_rng {i d m : Int} (hi : 0 < i ∧ i < m) : (0 ≤ d → 0 ≤ rnd (i * d) m ∧ rnd (i * d) m ≤ d) ∧ (d ≤ 0 → d ≤ rnd (i * d) m ∧ rnd (i * d) m ≤ 0) := by
  unfold rnd
  constructor
  · intro hd
    have h1 : 0 ≤ i * d := Int.mul_nonneg (by omega) hd
    have h2 : i * d ≤ m * d := Int.mul_le_mul_of_nonneg_right (by omega) hd
    refine ⟨Int.ediv_nonneg (by omega) (by omega), ?_⟩
    have h3 : (2 * (i * d) + m) / (2 * m) < d + 1 := Int.ediv_lt_of_lt_mul (by omega) (by
      have e : (d + 1) * (2 * m) = 2 * (m * d) + 2 * m := by
        rw [Int.add_mul, Int.one_mul, Int.mul_left_comm, Int.mul_comm d m]
      rw [e]
      omega)
    omega
  · intro hd
    have h1 : i * d ≤ 0 := by
      have := Int.mul_nonneg (a := i) (b := -d) (by omega) (by omega)
      rw [Int.mul_neg] at this
      omega
    have h2 : m * d ≤ i * d := Int.mul_le_mul_of_nonpos_right (by omega) hd
    constructor
    · refine Int.le_ediv_of_mul_le (by omega) ?_
      have e : d * (2 * m) = 2 * (m * d) := by rw [Int.mul_left_comm, Int.mul_comm d m]
      rw [e]
      omega
    · have h3 : (2 * (i * d) + m) / (2 * m) < 1 := Int.ediv_lt_of_lt_mul (by omega) (by omega)
      omega
theorem mul_s {a b A B : Int} (ha : -A ≤ a ∧ a ≤ A) (hb : -B ≤ b ∧ b ≤ B) (hA : 0 ≤ A) (hB : 0 ≤ B) : -(A * B) ≤ a * b ∧ a * b ≤ A * B := by
  by_cases h1 : 0 ≤ a <;> by_cases h2 : 0 ≤ b
  · have := mul_b (a := a) (b := b) (A := A) (B := B) (by omega) (by omega)
    omega
  · have := mul_b (a := a) (b := -b) (A := A) (B := B) (by omega) (by omega)
    rw [Int.mul_neg] at this
    omega
  · have := mul_b (a := -a) (b := b) (A := A) (B := B) (by omega) (by omega)
    rw [Int.neg_mul] at this
    omega
  · have := mul_b (a := -a) (b := -b) (A := A) (B := B) (by omega) (by omega)
    rw [Int.neg_mul_neg] at this
    omega
def cC (x y : Int) : Nat := (y * 120 + x).toNat
/-- the cells of a line, of its first n inner places -/
def lnS (cf : Int → Int → Nat) (x y dx dy m : Int) : Nat → Nat → Bool
  | 0 => non
  | n + 1 => fun c => lnS cf x y dx dy m n c || decide (c = cf (x + rnd (((n : Int) + 1) * dx) m) (y + rnd (((n : Int) + 1) * dy) m))
theorem lnS_s {cf : Int → Int → Nat} {x y dx dy m i : Int} (h : 1 ≤ i) : lnS cf x y dx dy m (i + 1 - 1).toNat = fun c => lnS cf x y dx dy m (i - 1).toNat c || decide (c = cf (x + rnd (i * dx) m) (y + rnd (i * dy) m)) := by
  obtain ⟨n, hn⟩ := Int.eq_ofNat_of_zero_le (show 0 ≤ i - 1 by omega)
  have e : i = (n : Int) + 1 := by omega
  subst e
  rw [show ((n : Int) + 1 + 1 - 1).toNat = n + 1 by omega, show ((n : Int) + 1 - 1).toNat = n by omega]
  rfl
/-- the height of a cam at a step, worn or not -/
def hof (R : Nat → Nat → Int) (wo c t : Int) : Int := hv wo c (R c.toNat t.toNat)
theorem hof_rng {R : Nat → Nat → Int} (hR : ∀ i j, 0 ≤ R i j ∧ R i j ≤ 9) (wo c t : Int) : 0 ≤ hof R wo c t ∧ hof R wo c t ≤ 9 := by
  have := hR c.toNat t.toNat
  unfold hof hv
  split <;> omega
def xA (R : Nat → Nat → Int) (ac le : Nat → Int) (spc wo be k t : Int) : Int := bX be (k * spc + hof R wo (ac (le k.toNat).toNat) t)
def yA (R : Nat → Nat → Int) (up le : Nat → Int) (wo be k t : Int) : Int := bY be (hof R wo (up (le k.toNat).toNat) t)
def dwn (R : Nat → Nat → Int) (li le : Nat → Int) (wo k t : Int) : Int := if hof R wo (li (le k.toNat).toNat) t = 0 then 1 else 0
theorem xA_rng {R : Nat → Nat → Int} (hR : ∀ i j, 0 ≤ R i j ∧ R i j ≤ 9) {ac le : Nat → Int} {spc wo be k t : Int} (h1 : 0 ≤ spc ∧ spc ≤ 9) (h2 : 0 ≤ k ∧ k < 12) : 0 ≤ xA R ac le spc wo be k t ∧ xA R ac le spc wo be k t ≤ 109 := by
  have a := hof_rng hR wo (ac (le k.toNat).toNat) t
  have b := mul_b (a := k) (b := spc) (A := 11) (B := 9) (by omega) h1
  unfold xA bX
  split <;> omega
theorem yA_rng {R : Nat → Nat → Int} (hR : ∀ i j, 0 ≤ R i j ∧ R i j ≤ 9) {up le : Nat → Int} {wo be k t : Int} : 0 ≤ yA R up le wo be k t ∧ yA R up le wo be k t ≤ 9 := by
  have a := hof_rng hR wo (up (le k.toNat).toNat) t
  unfold yA bY
  (repeat' split) <;> omega
theorem dwn_01 (R : Nat → Nat → Int) (li le : Nat → Int) (wo k t : Int) : dwn R li le wo k t = 0 ∨ dwn R li le wo k t = 1 := by
  unfold dwn
  split <;> omega
/-- the cells that step t of peg k marks -/
def SS (cf : Int → Int → Nat) (R : Nat → Nat → Int) (ac up li le : Nat → Int) (spc wo be k t : Int) : Nat → Bool :=
  if dwn R li le wo k t = 0 then non else
  if 0 < t ∧ dwn R li le wo k (t - 1) = 1 then
    fun c => decide (c = cf (xA R ac le spc wo be k t) (yA R up le wo be k t)) || lnS cf (xA R ac le spc wo be k (t - 1)) (yA R up le wo be k (t - 1)) (xA R ac le spc wo be k t - xA R ac le spc wo be k (t - 1)) (yA R up le wo be k t - yA R up le wo be k (t - 1)) (mxa (xA R ac le spc wo be k t - xA R ac le spc wo be k (t - 1)) (yA R up le wo be k t - yA R up le wo be k (t - 1))) (mxa (xA R ac le spc wo be k t - xA R ac le spc wo be k (t - 1)) (yA R up le wo be k t - yA R up le wo be k (t - 1)) - 1).toNat c
  else one (cf (xA R ac le spc wo be k t) (yA R up le wo be k t))
theorem fiU_put (n : Nat) (M S : Nat → Bool) (v : Int) (fi : Nat → Int) (c : Nat) : (if orM M S c = true ∨ n ≤ c then fiU n M S v fi else va_up (fiU n M S v fi) c v) = fiU n M (fun d => S d || decide (d = c)) v fi := by
  cases h : (M c || S c) with
  | true =>
    rw [if_pos (Or.inl (show orM M S c = true from h))]
    exact fiU_hit h
  | false =>
    rw [← fiU_new h]
    by_cases hn : c < n
    · rw [if_pos hn, if_neg]
      intro q
      rcases q with q | q
      · have q : (M c || S c) = true := q
        rw [h] at q
        exact absurd q (by decide)
      · omega
    · rw [if_neg hn, if_pos (Or.inr (by omega))]
theorem fiU_non (n : Nat) (M : Nat → Bool) (v : Int) (fi : Nat → Int) : fiU n M non v fi = fi := by
  funext c
  unfold fiU
  rw [if_neg]
  intro q
  exact absurd q.2.2 Bool.false_ne_true
theorem fiU_one (n : Nat) (M : Nat → Bool) (v : Int) (fi : Nat → Int) (c : Nat) : (if M c = true ∨ n ≤ c then fi else va_up fi c v) = fiU n M (one c) v fi := by
  have h := fiU_put n M non v fi c
  rw [fiU_non] at h
  have e : orM M non c = M c := by unfold orM non; rw [Bool.or_false]
  rw [e] at h
  rw [h]
  have e2 : (fun d => non d || decide (d = c)) = one c := by
    funext d
    unfold non one
    rw [Bool.false_or]
  rw [e2]
theorem fiU_two (n : Nat) (M S : Nat → Bool) (v : Int) (fi : Nat → Int) (c : Nat) : fiU n (fun d => M d || decide (d = c)) S v (if M c = true ∨ n ≤ c then fi else va_up fi c v) = fiU n M (fun d => decide (d = c) || S d) v fi := by
  rw [fiU_one]
  funext d
  unfold fiU one
  by_cases e : d = c
  · subst e
    by_cases hn : d < n
    · cases h : M d with
      | true => simp
      | false => simp [hn]
    · simp [hn]
  · by_cases hn : d < n
    · simp [e, hn]
    · simp [hn]
theorem SS_0 {cf : Int → Int → Nat} {R : Nat → Nat → Int} {ac up li le : Nat → Int} {spc wo be k t : Int} (h : dwn R li le wo k t = 0) : SS cf R ac up li le spc wo be k t = non := if_pos h
theorem SS_1 {cf : Int → Int → Nat} {R : Nat → Nat → Int} {ac up li le : Nat → Int} {spc wo be k t : Int} (h : dwn R li le wo k t ≠ 0) (h2 : ¬ (0 < t ∧ dwn R li le wo k (t - 1) = 1)) : SS cf R ac up li le spc wo be k t = one (cf (xA R ac le spc wo be k t) (yA R up le wo be k t)) := by
  unfold SS
  rw [if_neg h, if_neg h2]
theorem SS_2 {cf : Int → Int → Nat} {R : Nat → Nat → Int} {ac up li le : Nat → Int} {spc wo be k t : Int} (h : dwn R li le wo k t ≠ 0) (h2 : 0 < t ∧ dwn R li le wo k (t - 1) = 1) : SS cf R ac up li le spc wo be k t = fun c => decide (c = cf (xA R ac le spc wo be k t) (yA R up le wo be k t)) || lnS cf (xA R ac le spc wo be k (t - 1)) (yA R up le wo be k (t - 1)) (xA R ac le spc wo be k t - xA R ac le spc wo be k (t - 1)) (yA R up le wo be k t - yA R up le wo be k (t - 1)) (mxa (xA R ac le spc wo be k t - xA R ac le spc wo be k (t - 1)) (yA R up le wo be k t - yA R up le wo be k (t - 1))) (mxa (xA R ac le spc wo be k t - xA R ac le spc wo be k (t - 1)) (yA R up le wo be k t - yA R up le wo be k (t - 1)) - 1).toNat c := by
  unfold SS
  rw [if_neg h, if_pos h2]
