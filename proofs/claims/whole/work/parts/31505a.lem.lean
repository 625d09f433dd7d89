def lI (z : Int) : Int64 := Int64.ofInt z
theorem lI_toInt {z : Int} (h : -9223372036854775808 ≤ z ∧ z < 9223372036854775808) : (lI z).toInt = z := Int64.toInt_ofInt_of_le (by show -2 ^ 63 ≤ z; omega) (by show z < 2 ^ 63; omega)
theorem lI_of {z : Int} (h : -2147483648 ≤ z ∧ z < 2147483648) : (iI z).toInt64 = lI z := by
  apply Int64.toInt_inj.mp
  rw [Int32.toInt_toInt64, iI_toInt h, lI_toInt (by omega)]
theorem lI_mul (a b : Int) : lI a * lI b = lI (a * b) := (Int64.ofInt_mul a b).symm
theorem pr_rng {a b : Int} (ha : -2147483648 ≤ a ∧ a < 2147483648) (hb : -2147483648 ≤ b ∧ b < 2147483648) : -9223372036854775808 ≤ a * b ∧ a * b < 9223372036854775808 := by
  have h : (a * b).natAbs ≤ 2147483648 * 2147483648 := by
    rw [Int.natAbs_mul]
    exact Nat.mul_le_mul (by omega) (by omega)
  omega
def sgc (a b : Int) : Int := if b < a then 1 else if a = b then 0 else -1
theorem sgc_cases (a b : Int) : -1 ≤ sgc a b ∧ sgc a b ≤ 1 ∧ (sgc a b < 0 ∧ a < b ∨ 0 ≤ sgc a b ∧ ¬ a < b) := by
  unfold sgc
  (repeat' split) <;> omega
section LROWS2
variable {p : Program} {l : Launch} {e : Env} {R : Room} {s : State} {m : MethodId} {args : Array Value} {below : List Frame} {meth : Method} {c : Code} {H : Heap} {locs : List Loc} {cells slots : Nat} {Q : State → Prop}
variable {cc : ByteArray} {pc : Nat} {ls : Array Slot} {rest : List Value}
theorem wi_i2l (hx : p.tables.exec = Jvm.exec) (hb : c.code = cc) {z : Int} (h : -2147483648 ≤ z ∧ z < 2147483648) (hdg : decode cc pc = .ok (.i2l, 1)) (k : W p l e R s m args below meth c H locs cells slots Q (F0 m (pc + 1) ls (.long (lI z) :: rest))) : W p l e R s m args below meth c H locs cells slots Q (F0 m pc ls (.int (iI z) :: rest)) := lv_i2l hx hb hdg (lI_of h) k
theorem wi_lmul (hx : p.tables.exec = Jvm.exec) (hb : c.code = cc) {x y : Int} (hdg : decode cc pc = .ok (.lmul, 1)) (k : W p l e R s m args below meth c H locs cells slots Q (F0 m (pc + 1) ls (.long (lI (x * y)) :: rest))) : W p l e R s m args below meth c H locs cells slots Q (F0 m pc ls (.long (lI y) :: .long (lI x) :: rest)) := lv_lmul hx hb hdg (by rw [lI_mul]; exact k)
theorem wi_lcmp (hx : p.tables.exec = Jvm.exec) (hb : c.code = cc) {x y : Int} (h1 : -9223372036854775808 ≤ x ∧ x < 9223372036854775808) (h2 : -9223372036854775808 ≤ y ∧ y < 9223372036854775808) (hdg : decode cc pc = .ok (.lcmp, 1)) (k : W p l e R s m args below meth c H locs cells slots Q (F0 m (pc + 1) ls (.int (iI (sgc x y)) :: rest))) : W p l e R s m args below meth c H locs cells slots Q (F0 m pc ls (.long (lI y) :: .long (lI x) :: rest)) := by
  refine W.lcmp hx hb hdg ?_
  have e9 : lg_cmp (lI x) (lI y) = iI (sgc x y) := by
    unfold lg_cmp sgc
    have c1 : (lI y < lI x) ↔ y < x := by rw [Int64.lt_iff_toInt_lt, lI_toInt h1, lI_toInt h2]
    have c2 : (lI x = lI y) ↔ x = y := by rw [← Int64.toInt_inj, lI_toInt h1, lI_toInt h2]
    by_cases h : y < x
    · rw [if_pos h, if_pos (c1.mpr h)]; rfl
    · rw [if_neg h, if_neg (fun q => h (c1.mp q))]
      by_cases h2 : x = y
      · rw [if_pos h2, if_pos (c2.mpr h2)]; rfl
      · rw [if_neg h2, if_neg (fun q => h2 (c2.mp q))]; rfl
  rw [e9]
  exact k
end LROWS2
