/-! a cell of a block of a world; the rows that read and write it -/
theorem fl_at {Bs : List va_W} {i j : Nat} {B : va_W} {x : Nat × va_E} (hi : Bs[i]? = some B) (hj : B[j]? = some x) : ∃ k : Nat, (fl Bs)[k]? = some x ∧ ∀ y, (fl Bs).set k y = fl (Bs.set i (B.set j y)) := by
  induction Bs generalizing i with
  | nil => simp at hi
  | cons C Bs ih =>
    have hlt : j < B.length := (List.getElem?_eq_some_iff.mp hj).1
    cases i with
    | zero =>
      have e : C = B := by simpa using hi
      subst e
      refine ⟨j, ?_, fun y => ?_⟩
      · show (List.flatten (C :: Bs))[j]? = some x
        rw [List.flatten_cons, List.getElem?_append_left hlt]
        exact hj
      · show (List.flatten (C :: Bs)).set j y = List.flatten (C.set j y :: Bs)
        rw [List.flatten_cons, List.flatten_cons, List.set_append_left _ _ hlt]
    | succ i =>
      obtain ⟨k, h1, h2⟩ := ih (i := i) (by simpa using hi)
      refine ⟨C.length + k, ?_, fun y => ?_⟩
      · show (List.flatten (C :: Bs))[C.length + k]? = some x
        rw [List.flatten_cons, List.getElem?_append_right (by omega), Nat.add_sub_cancel_left]
        exact h1
      · show (List.flatten (C :: Bs)).set (C.length + k) y = List.flatten (C :: Bs.set i (B.set j y))
        rw [List.flatten_cons, List.flatten_cons, List.set_append_right _ _ (by omega), Nat.add_sub_cancel_left]
        exact congrArg (fun z => C ++ z) (h2 y)
section GROWS
variable {p : Program} {l : Launch} {e : Env} {R : Room} {s : State} {m : MethodId} {args : Array Value} {below : List Frame} {meth : Method} {c : Code} {H : Heap} {locs : List Loc} {cells slots : Nat} {Q : State → Prop}
variable {cc : ByteArray} {pc : Nat} {ls : Array Slot} {rest : List Value} {D : va_G} {A : Nat → Prop} {a : Nat} {Bs Bs1 : List va_W} {H0 : Heap} {G : Nat → ClassId} {i j : Nat} {B B1 : va_W}
theorem g_get (hx : p.tables.exec = Jvm.exec) (hb : c.code = cc) {own C : String} {T : u_T} {N ci index : Nat} {Ts : List Cond} (hts : ∀ w ∈ Ts, w.before args s = true) (hin : ∀ w ∈ u_ws C T N, w ∈ Ts) (hown : s.vm.findClass own = some m.cls) (hK : va_K D vwCl (TY G) s) (hP : va_P D vwCl (fl Bs) H) (hi : Bs[i]? = some B) {fs : List Value} (hj : B[j]? = some (a, .inr (ci, fs))) (hc : vwCl[ci]? = some (C, T, N)) (k : Nat) (hk : k < N) (hlink : Cond.fieldLink own index (T k).1 (T k).2.1 (T k).2.2.1 ∈ Ts) {v : Value} (hv : fs[k]? = some v) (hdg : decode cc pc = .ok (.getfield index, 3))
    (kk : W p l e R s m args below meth c H locs cells slots Q (F0 m (pc + 3) ls (v :: rest))) : W p l e R s m args below meth c H locs cells slots Q (F0 m pc ls (.ref a :: rest)) := by
  obtain ⟨k1, e1, -⟩ := fl_at hi hj
  exact va_get hx hb hts hin hown hK hP k1 e1 hc k hk (hts _ hlink) (fun _ h => h) hv hdg kk
theorem g_put (hx : p.tables.exec = Jvm.exec) (hb : c.code = cc) {own C : String} {T : u_T} {N ci index : Nat} {Ts : List Cond} (hts : ∀ w ∈ Ts, w.before args s = true) (hin : ∀ w ∈ u_ws C T N, w ∈ Ts) (ty0 : Nat → FieldType) (hty : ∀ k, k < N → parseFieldDescriptor (T k).2.2.1 = some (ty0 k)) (hnm : ∀ a, a < N → ∀ b, b < N → a ≠ b → (T a).2.1 ≠ (T b).2.1) (hown : s.vm.findClass own = some m.cls) (hK : va_K D vwCl (TY G) s) (hP : va_P D vwCl (fl Bs) H) (hD : va_D A (fl Bs)) (hS : va_S A H0 H locs) (hi : Bs[i]? = some B) {fs : List Value} (hj : B[j]? = some (a, .inr (ci, fs))) (hc : vwCl[ci]? = some (C, T, N)) (k : Nat) (hk : k < N) (hlink : Cond.fieldLink own index (T k).1 (T k).2.1 (T k).2.2.1 ∈ Ts) (hfin : (T k).2.2.2 = false) {v : Int32} (hd : parseFieldDescriptor (T k).2.2.1 = some .int) (hl : k < fs.length) (hB : B.set j (a, .inr (ci, fs.set k (.int v))) = B1) (hBs : Bs.set i B1 = Bs1) (hdg : decode cc pc = .ok (.putfield index, 3))
    (kk : ∀ (H1 : Heap) (locs1 : List Loc), va_P D vwCl (fl Bs1) H1 → va_D A (fl Bs1) → va_S A H0 H1 locs1 → W p l e R s m args below meth c H1 locs1 cells slots Q (F0 m (pc + 3) ls rest)) : W p l e R s m args below meth c H locs cells slots Q (F0 m pc ls (.int v :: .ref a :: rest)) := by
  obtain ⟨k1, e1, s1⟩ := fl_at hi hj
  refine va_put hx hb hts hin ty0 hty hnm hown hK hP hD hS k1 e1 hc k hk (hts _ hlink) (fun _ h => h) hfin hd rfl rfl hl hdg (fun H1 locs1 p1 d1 s9 => ?_)
  rw [s1, hB, hBs] at p1 d1
  exact kk H1 locs1 p1 d1 s9
theorem g_iald (hx : p.tables.exec = Jvm.exec) (hb : c.code = cc) (hK : va_K D vwCl (TY G) s) (hP : va_P D vwCl (fl Bs) H) (hi : Bs[i]? = some B) {n : Nat} {f : Nat → Int} (hj : B[j]? = some (a, .inl (G 0, n, .inl (ai f)))) {z : Int} (hz : 0 ≤ z ∧ z < n) (hn : n < 2147483648) (hdg : decode cc pc = .ok (.iaload, 1)) (k : W p l e R s m args below meth c H locs cells slots Q (F0 m (pc + 1) ls (.int (iI (f z.toNat)) :: rest))) : W p l e R s m args below meth c H locs cells slots Q (F0 m pc ls (.int (iI z) :: .ref a :: rest)) := by
  obtain ⟨k1, e1, -⟩ := fl_at hi hj
  exact wi_iald hx hb hK hP k1 e1 hz hn hdg k
theorem g_zald (hx : p.tables.exec = Jvm.exec) (hb : c.code = cc) (hK : va_K D vwCl (TY G) s) (hP : va_P D vwCl (fl Bs) H) (hi : Bs[i]? = some B) {n : Nat} {f : Nat → Int} (hj : B[j]? = some (a, .inl (G 1, n, .inl (ai f)))) {z : Int} (hz : 0 ≤ z ∧ z < n) (hn : n < 2147483648) (hdg : decode cc pc = .ok (.baload, 1)) (k : W p l e R s m args below meth c H locs cells slots Q (F0 m (pc + 1) ls (.int (iI (f z.toNat)) :: rest))) : W p l e R s m args below meth c H locs cells slots Q (F0 m pc ls (.int (iI z) :: .ref a :: rest)) := by
  obtain ⟨k1, e1, -⟩ := fl_at hi hj
  exact wi_zald hx hb hK hP k1 e1 hz hn hdg k
theorem g_lald (hx : p.tables.exec = Jvm.exec) (hb : c.code = cc) (hK : va_K D vwCl (TY G) s) (hP : va_P D vwCl (fl Bs) H) (hi : Bs[i]? = some B) {n : Nat} {f : Nat → Int64} (hj : B[j]? = some (a, .inl (G 2, n, .inr (.inl f)))) {z : Int} (hz : 0 ≤ z ∧ z < n) (hn : n < 2147483648) (hdg : decode cc pc = .ok (.laload, 1)) (k : W p l e R s m args below meth c H locs cells slots Q (F0 m (pc + 1) ls (.long (f z.toNat) :: rest))) : W p l e R s m args below meth c H locs cells slots Q (F0 m pc ls (.int (iI z) :: .ref a :: rest)) := by
  obtain ⟨k1, e1, -⟩ := fl_at hi hj
  exact wi_lald hx hb hK hP k1 e1 hz hn hdg k
theorem g_aald (hx : p.tables.exec = Jvm.exec) (hb : c.code = cc) (hK : va_K D vwCl (TY G) s) (hP : va_P D vwCl (fl Bs) H) (hi : Bs[i]? = some B) {n : Nat} {r : Nat → Nat} (hj : B[j]? = some (a, .inl (G 3, n, .inr (.inr (.inr (.inr (fun i => if i < n then some (r i) else none))))))) {z : Int} (hz : 0 ≤ z ∧ z < n) (hn : n < 2147483648) (hdg : decode cc pc = .ok (.aaload, 1)) (k : W p l e R s m args below meth c H locs cells slots Q (F0 m (pc + 1) ls (.ref (r z.toNat) :: rest))) : W p l e R s m args below meth c H locs cells slots Q (F0 m pc ls (.int (iI z) :: .ref a :: rest)) := by
  obtain ⟨k1, e1, -⟩ := fl_at hi hj
  exact wi_aald hx hb hK hP k1 e1 hz hn hdg k
theorem g_alen (hx : p.tables.exec = Jvm.exec) (hb : c.code = cc) (hK : va_K D vwCl (TY G) s) (hP : va_P D vwCl (fl Bs) H) (t0 : Nat) (hi : Bs[i]? = some B) {n : Nat} {x : vp_A} {cA : ClassId} (hj : B[j]? = some (a, .inl (cA, x))) {ty : FieldType} (ht : (TY G)[t0]? = some (cA, ty)) (hn : x.1 = n) (hdg : decode cc pc = .ok (.arraylength, 1)) (k : W p l e R s m args below meth c H locs cells slots Q (F0 m (pc + 1) ls (.int (iI (n : Int)) :: rest))) : W p l e R s m args below meth c H locs cells slots Q (F0 m pc ls (.ref a :: rest)) := by
  obtain ⟨k1, e1, -⟩ := fl_at hi hj
  exact wi_alen hx hb hK hP k1 t0 e1 ht hn hdg k
theorem g_iast (hx : p.tables.exec = Jvm.exec) (hb : c.code = cc) (hK : va_K D vwCl (TY G) s) (hP : va_P D vwCl (fl Bs) H) (hD : va_D A (fl Bs)) (hS : va_S A H0 H locs) (hi : Bs[i]? = some B) {n : Nat} {f : Nat → Int} (hj : B[j]? = some (a, .inl (G 0, n, .inl (ai f)))) {z v : Int} (hz : 0 ≤ z ∧ z < n) (hn : n < 2147483648) (hB : B.set j (a, .inl (G 0, n, .inl (ai (va_up f z.toNat v)))) = B1) (hBs : Bs.set i B1 = Bs1) (hdg : decode cc pc = .ok (.iastore, 1))
    (k : ∀ (H1 : Heap) (locs1 : List Loc), va_P D vwCl (fl Bs1) H1 → va_D A (fl Bs1) → va_S A H0 H1 locs1 → W p l e R s m args below meth c H1 locs1 cells slots Q (F0 m (pc + 1) ls rest)) : W p l e R s m args below meth c H locs cells slots Q (F0 m pc ls (.int (iI v) :: .int (iI z) :: .ref a :: rest)) := by
  obtain ⟨k1, e1, s1⟩ := fl_at hi hj
  exact wi_iast hx hb hK hP hD hS k1 e1 hz hn (fl Bs1) (by rw [s1, hB, hBs]) hdg k
theorem g_zast (hx : p.tables.exec = Jvm.exec) (hb : c.code = cc) (hK : va_K D vwCl (TY G) s) (hP : va_P D vwCl (fl Bs) H) (hD : va_D A (fl Bs)) (hS : va_S A H0 H locs) (hi : Bs[i]? = some B) {n : Nat} {f : Nat → Int} (hj : B[j]? = some (a, .inl (G 1, n, .inl (ai f)))) {z v : Int} (hz : 0 ≤ z ∧ z < n) (hn : n < 2147483648) (hv : v = 0 ∨ v = 1) (hB : B.set j (a, .inl (G 1, n, .inl (ai (va_up f z.toNat v)))) = B1) (hBs : Bs.set i B1 = Bs1) (hdg : decode cc pc = .ok (.bastore, 1))
    (k : ∀ (H1 : Heap) (locs1 : List Loc), va_P D vwCl (fl Bs1) H1 → va_D A (fl Bs1) → va_S A H0 H1 locs1 → W p l e R s m args below meth c H1 locs1 cells slots Q (F0 m (pc + 1) ls rest)) : W p l e R s m args below meth c H locs cells slots Q (F0 m pc ls (.int (iI v) :: .int (iI z) :: .ref a :: rest)) := by
  obtain ⟨k1, e1, s1⟩ := fl_at hi hj
  exact wi_zast hx hb hK hP hD hS k1 e1 hz hn hv (fl Bs1) (by rw [s1, hB, hBs]) hdg k
theorem g_last (hx : p.tables.exec = Jvm.exec) (hb : c.code = cc) (hK : va_K D vwCl (TY G) s) (hP : va_P D vwCl (fl Bs) H) (hD : va_D A (fl Bs)) (hS : va_S A H0 H locs) (hi : Bs[i]? = some B) {n : Nat} {f : Nat → Int64} (hj : B[j]? = some (a, .inl (G 2, n, .inr (.inl f)))) {z : Int} {v : Int64} (hz : 0 ≤ z ∧ z < n) (hn : n < 2147483648) (hB : B.set j (a, .inl (G 2, n, .inr (.inl (vp_updL f z.toNat v)))) = B1) (hBs : Bs.set i B1 = Bs1) (hdg : decode cc pc = .ok (.lastore, 1))
    (k : ∀ (H1 : Heap) (locs1 : List Loc), va_P D vwCl (fl Bs1) H1 → va_D A (fl Bs1) → va_S A H0 H1 locs1 → W p l e R s m args below meth c H1 locs1 cells slots Q (F0 m (pc + 1) ls rest)) : W p l e R s m args below meth c H locs cells slots Q (F0 m pc ls (.long v :: .int (iI z) :: .ref a :: rest)) := by
  obtain ⟨k1, e1, s1⟩ := fl_at hi hj
  exact wi_last hx hb hK hP hD hS k1 e1 hz hn (fl Bs1) (by rw [s1, hB, hBs]) hdg k
theorem g_mmax (hx : p.tables.exec = Jvm.exec) (hb : c.code = cc) (hml : c.maxLocals = ls.size) {own : String} {index : Nat} {Ts : List Cond} (hts : ∀ w ∈ Ts, w.before args s = true) (hown : s.vm.findClass own = some m.cls) (h1 : Cond.methodLink own index Lib.Math.max.name ∈ Ts) (h2 : Cond.static Lib.Math.max.name ∈ Ts) (h3 : Cond.initialized "java/lang/Math" ∈ Ts) (h4 : Cond.code Lib.Math.max.name Lib.Math.max.code 2 (some .int) ∈ Ts) (hr : 1 ≤ R.frames ∧ (rest.map fun v => v.category).sum + 13 ≤ R.locals ∧ cells ≤ R.cells ∧ slots ≤ R.slots) {x y : Int} (r1 : -2147483648 ≤ x ∧ x < 2147483648) (r2 : -2147483648 ≤ y ∧ y < 2147483648) (hdg : decode cc pc = .ok (.invokestatic index, 3))
    (kk : W p l e R s m args below meth c H locs cells slots Q (F0 m (pc + 3) ls (.int (iI (if x < y then y else x)) :: rest))) : W p l e R s m args below meth c H locs cells slots Q (F0 m pc ls (.int (iI y) :: .int (iI x) :: rest)) :=
  va_mmax hx hb hml hown (hts _ h1) (hts _ h2) (hts _ h3) (hts _ h4) hr.1 hr.2.1 hr.2.2.1 hr.2.2.2 hdg (by
    have e9 : (if iI x < iI y then iI y else iI x) = iI (if x < y then y else x) := by
      by_cases h : x < y
      · rw [if_pos h, if_pos ((iI_lt r1 r2).mpr h)]
      · rw [if_neg h, if_neg (fun q => h ((iI_lt r1 r2).mp q))]
    rw [e9]
    exact kk)
theorem g_mmin (hx : p.tables.exec = Jvm.exec) (hb : c.code = cc) (hml : c.maxLocals = ls.size) {own : String} {index : Nat} {Ts : List Cond} (hts : ∀ w ∈ Ts, w.before args s = true) (hown : s.vm.findClass own = some m.cls) (h1 : Cond.methodLink own index Lib.Math.min.name ∈ Ts) (h2 : Cond.static Lib.Math.min.name ∈ Ts) (h3 : Cond.initialized "java/lang/Math" ∈ Ts) (h4 : Cond.code Lib.Math.min.name Lib.Math.min.code 2 (some .int) ∈ Ts) (hr : 1 ≤ R.frames ∧ (rest.map fun v => v.category).sum + 13 ≤ R.locals ∧ cells ≤ R.cells ∧ slots ≤ R.slots) {x y : Int} (r1 : -2147483648 ≤ x ∧ x < 2147483648) (r2 : -2147483648 ≤ y ∧ y < 2147483648) (hdg : decode cc pc = .ok (.invokestatic index, 3))
    (kk : W p l e R s m args below meth c H locs cells slots Q (F0 m (pc + 3) ls (.int (iI (if y < x then y else x)) :: rest))) : W p l e R s m args below meth c H locs cells slots Q (F0 m pc ls (.int (iI y) :: .int (iI x) :: rest)) :=
  va_mmin hx hb hml hown (hts _ h1) (hts _ h2) (hts _ h3) (hts _ h4) hr.1 hr.2.1 hr.2.2.1 hr.2.2.2 hdg (by
    have e9 : (if iI y < iI x then iI y else iI x) = iI (if y < x then y else x) := by
      by_cases h : y < x
      · rw [if_pos h, if_pos ((iI_lt r2 r1).mpr h)]
      · rw [if_neg h, if_neg (fun q => h ((iI_lt r2 r1).mp q))]
    rw [e9]
    exact kk)
theorem g_mabs (hx : p.tables.exec = Jvm.exec) (hb : c.code = cc) (hml : c.maxLocals = ls.size) {own : String} {index : Nat} {Ts : List Cond} (hts : ∀ w ∈ Ts, w.before args s = true) (hown : s.vm.findClass own = some m.cls) (h1 : Cond.methodLink own index Lib.Math.abs.name ∈ Ts) (h2 : Cond.static Lib.Math.abs.name ∈ Ts) (h3 : Cond.initialized "java/lang/Math" ∈ Ts) (h4 : Cond.code Lib.Math.abs.name Lib.Math.abs.code 1 (some .int) ∈ Ts) (hr : 1 ≤ R.frames ∧ (rest.map fun v => v.category).sum + 13 ≤ R.locals ∧ cells ≤ R.cells ∧ slots ≤ R.slots) {x : Int} (r1 : -2147483648 ≤ x ∧ x < 2147483648) (hdg : decode cc pc = .ok (.invokestatic index, 3))
    (kk : W p l e R s m args below meth c H locs cells slots Q (F0 m (pc + 3) ls (.int (iI (if 0 ≤ x then x else -x)) :: rest))) : W p l e R s m args below meth c H locs cells slots Q (F0 m pc ls (.int (iI x) :: rest)) :=
  va_mabs hx hb hml hown (hts _ h1) (hts _ h2) (hts _ h3) (hts _ h4) hr.1 hr.2.1 hr.2.2.1 hr.2.2.2 hdg (by
    have e9 : (if (0 : Int32) ≤ iI x then iI x else 0 - iI x) = iI (if 0 ≤ x then x else -x) := by
      have r0 : (-2147483648 : Int) ≤ 0 ∧ (0 : Int) < 2147483648 := by omega
      by_cases h : 0 ≤ x
      · rw [if_pos h, ← iI_0, if_pos ((iI_le r0 r1).mpr h)]
      · rw [if_neg h, ← iI_0, if_neg (fun q => h ((iI_le r0 r1).mp q)), iI_sub]
        congr 1
        omega
    rw [e9]
    exact kk)
theorem wi_tableIn (hx : p.tables.exec = Jvm.exec) (hb : c.code = cc) {dflt lo hi : Int} {offs : Array Int} {len : Nat} {x : Int} {off : Int} {tgt : Nat} (hdg : decode cc pc = .ok (.tableswitch dflt lo hi offs, len)) (h0 : -2147483648 ≤ x ∧ x < 2147483648) (h1 : lo ≤ x ∧ x ≤ hi) (ho : offs[(x - lo).toNat]? = some off) (ht : (pc : Int) + off = (tgt : Int)) (k : W p l e R s m args below meth c H locs cells slots Q (F0 m tgt ls rest)) : W p l e R s m args below meth c H locs cells slots Q (F0 m pc ls (.int (iI x) :: rest)) :=
  lv_tableIn hx hb hdg (by rw [iI_toInt h0]; omega) (by rw [iI_toInt h0]; omega) (by rw [iI_toInt h0]; exact ho) ht k
theorem wi_tableOut (hx : p.tables.exec = Jvm.exec) (hb : c.code = cc) {dflt lo hi : Int} {offs : Array Int} {len : Nat} {x : Int} {tgt : Nat} (hdg : decode cc pc = .ok (.tableswitch dflt lo hi offs, len)) (h0 : -2147483648 ≤ x ∧ x < 2147483648) (h1 : x < lo ∨ hi < x) (ht : (pc : Int) + dflt = (tgt : Int)) (k : W p l e R s m args below meth c H locs cells slots Q (F0 m tgt ls rest)) : W p l e R s m args below meth c H locs cells slots Q (F0 m pc ls (.int (iI x) :: rest)) :=
  lv_tableOut hx hb hdg (by rw [iI_toInt h0]; exact h1) ht k
end GROWS
/-! the blocks -/
def rowsW (cI : ClassId) (q : Nat → Nat) (n k : Nat) (R : Nat → Nat → Int) : va_W := (List.range n).map (fun i => (q (4 + i), .inl (cI, k, .inl (ai (R i)))))
theorem rowsW_at {cI : ClassId} {q : Nat → Nat} {n k : Nat} {R : Nat → Nat → Int} {i : Nat} (h : i < n) : (rowsW cI q n k R)[i]? = some (q (4 + i), .inl (cI, k, .inl (ai (R i)))) := by
  unfold rowsW
  rw [List.getElem?_map, List.getElem?_range h]
  rfl
theorem rowsW_set {cI : ClassId} {q : Nat → Nat} {n k : Nat} {R : Nat → Nat → Int} {i : Nat} (f : Nat → Int) (h : i < n) : (rowsW cI q n k R).set i (q (4 + i), .inl (cI, k, .inl (ai f))) = rowsW cI q n k (va_up R i f) := by
  apply List.ext_getElem?
  intro j
  rw [List.getElem?_set]
  by_cases e : i = j
  · subst e
    rw [if_pos rfl, rowsW_at h, va_up_self]
    have : i < (rowsW cI q n k R).length := by unfold rowsW; rw [List.length_map, List.length_range]; exact h
    rw [if_pos this]
  · rw [if_neg e]
    by_cases hj : j < n
    · rw [rowsW_at hj, rowsW_at hj, show va_up R i f j = R j from if_neg (Ne.symm e)]
    · have l1 : (rowsW cI q n k R).length = n := by unfold rowsW; rw [List.length_map, List.length_range]
      have l2 : (rowsW cI q n k (va_up R i f)).length = n := by unfold rowsW; rw [List.length_map, List.length_range]
      rw [List.getElem?_eq_none (by omega), List.getElem?_eq_none (by omega)]
def outW (cB : ClassId) (q : Nat → Nat) (n : Nat) : va_E := .inl (cB, n, .inr (.inr (.inr (.inr (fun i => if i < n then some (q (4 + i)) else none)))))
