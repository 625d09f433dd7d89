/-! ints as whole numbers, worlds as blocks, calls and ends in one row -/
def iI (z : Int) : Int32 := Int32.ofInt z
def ai (f : Nat → Int) : Nat → Int32 := fun k => iI (f k)
theorem ib_rng (x : Int32) : -2147483648 ≤ x.toInt ∧ x.toInt < 2147483648 := by
  have h1 := Int32.le_toInt x
  have h2 := Int32.toInt_lt x
  omega
theorem ib_bmod {z : Int} (h : -2147483648 ≤ z ∧ z < 2147483648) : z.bmod (2 ^ 32) = z := by
  rw [Int.bmod_eq_of_le (by omega) (by omega)]
theorem iI_toInt {z : Int} (h : -2147483648 ≤ z ∧ z < 2147483648) : (iI z).toInt = z := by
  unfold iI
  rw [Int32.toInt_ofInt, ib_bmod h]
theorem iI_of (x : Int32) : x = iI x.toInt := (Int32.ofInt_toInt x).symm
theorem iI_add (a b : Int) : iI a + iI b = iI (a + b) := (Int32.ofInt_add a b).symm
theorem iI_sub (a b : Int) : iI a - iI b = iI (a - b) := (Int32.ofInt_sub a b).symm
theorem iI_mul (a b : Int) : iI a * iI b = iI (a * b) := (Int32.ofInt_mul a b).symm
theorem iI_neg (a : Int) : -iI a = iI (-a) := (Int32.ofInt_neg a).symm
theorem iI_lt {a b : Int} (ha : -2147483648 ≤ a ∧ a < 2147483648) (hb : -2147483648 ≤ b ∧ b < 2147483648) : iI a < iI b ↔ a < b := by
  rw [Int32.lt_iff_toInt_lt, iI_toInt ha, iI_toInt hb]
theorem iI_le {a b : Int} (ha : -2147483648 ≤ a ∧ a < 2147483648) (hb : -2147483648 ≤ b ∧ b < 2147483648) : iI a ≤ iI b ↔ a ≤ b := by
  rw [Int32.le_iff_toInt_le, iI_toInt ha, iI_toInt hb]
theorem iI_eq {a b : Int} (ha : -2147483648 ≤ a ∧ a < 2147483648) (hb : -2147483648 ≤ b ∧ b < 2147483648) : iI a = iI b ↔ a = b := by
  rw [← Int32.toInt_inj, iI_toInt ha, iI_toInt hb]
theorem iI_0 : iI 0 = 0 := rfl
theorem iI_nI (n : Nat) : nI n = iI (n : Int) := by
  unfold nI iI
  exact Int32.ofInt_eq_ofNat.symm
theorem iI_clamp {z : Int} (h : 0 ≤ z ∧ z < 2147483648) : (iI z).toNatClampNeg = z.toNat := by
  have h1 : (iI z).toNatClampNeg = (iI z).toInt.toNat := rfl
  rw [h1, iI_toInt (by omega)]
theorem iI_in {z : Int} {n : Nat} (h : 0 ≤ z ∧ z < n) (hn : n < 2147483648) : vp_in (iI z) n := by
  rw [vp_in_iff, iI_toInt (by omega)]
  omega
theorem iI_nlt0 {z : Int} (h : 0 ≤ z ∧ z < 2147483648) : ¬ iI z < 0 := by
  rw [← iI_0, iI_lt (by omega) (by omega)]
  omega
theorem iI_tdiv {a b : Int} (ha : 0 ≤ a ∧ a < 2147483648) (hb : 0 < b ∧ b < 2147483648) : iI a / iI b = iI (a / b) := by
  obtain ⟨m, rfl⟩ := Int.eq_ofNat_of_zero_le ha.1
  obtain ⟨n, rfl⟩ := Int.eq_ofNat_of_zero_le (Int.le_of_lt hb.1)
  rw [← iI_nI, ← iI_nI, pk_div (by omega) (by omega) (by omega), iI_nI]
  rfl
theorem iI_tmod {a b : Int} (ha : 0 ≤ a ∧ a < 2147483648) (hb : 0 < b ∧ b < 2147483648) : iI a - iI a / iI b * iI b = iI (a % b) := by
  obtain ⟨m, rfl⟩ := Int.eq_ofNat_of_zero_le ha.1
  obtain ⟨n, rfl⟩ := Int.eq_ofNat_of_zero_le (Int.le_of_lt hb.1)
  rw [← iI_nI, ← iI_nI, pk_rem (by omega) (by omega) (by omega), iI_nI]
  rfl
theorem ai_up (f : Nat → Int) (k : Nat) (v : Int) : upd (ai f) k (iI v) = ai (va_up f k v) := by
  funext j
  by_cases h : j = k
  · subst h
    rw [pk_us]
    show iI v = iI (va_up f j v j)
    rw [va_up_self]
  · rw [pk_un h]
    show iI (f j) = iI (va_up f k v j)
    rw [show va_up f k v j = f j from if_neg h]
theorem ai_cpy (f g : Nat → Int) (sp dp n : Nat) : va_cpy (ai f) (ai g) sp dp n = ai (va_cpy f g sp dp n) := by
  funext j
  show (if dp ≤ j ∧ j < dp + n then iI (f (sp + (j - dp))) else iI (g j)) = iI (if dp ≤ j ∧ j < dp + n then f (sp + (j - dp)) else g j)
  by_cases h : dp ≤ j ∧ j < dp + n
  · rw [if_pos h, if_pos h]
  · rw [if_neg h, if_neg h]
theorem nz {z : Int} (h : z = 0 ∨ z = 1) : narrow .boolean (.int (iI z)) = .int (iI z) := by
  rcases h with rfl | rfl <;> rfl
theorem nz2 {z : Int} (h : z = 0 ∨ z = 1) : vp_nar .boolean (iI z) = iI z := by
  rcases h with rfl | rfl <;> rfl
/-! worlds out of blocks -/
def fl (Bs : List va_W) : va_W := Bs.flatten
theorem P_perm {D : va_G} {cl : List vw_C} {ws ws' : va_W} {H : Heap} (h : ws.Perm ws') (hP : va_P D cl ws H) : va_P D cl ws' H := by
  intro k q hk
  have h1 : q ∈ ws := h.mem_iff.mpr (List.mem_of_getElem? hk)
  obtain ⟨i, hi⟩ := List.getElem?_of_mem h1
  exact hP i q hi
theorem D_pw {A : Nat → Prop} {ws : va_W} : va_D A ws ↔ ws.Pairwise (fun a b => a.1 ≠ b.1) ∧ ∀ q ∈ ws, A q.1 := by
  constructor
  · intro h
    refine ⟨?_, fun q hq => ?_⟩
    · rw [List.pairwise_iff_getElem]
      intro i j hi hj hij e
      have := h.1 i j ws[i] ws[j] (List.getElem?_eq_getElem hi) (List.getElem?_eq_getElem hj) e
      omega
    · obtain ⟨i, hi⟩ := List.getElem?_of_mem hq
      exact h.2 i q hi
  · intro h
    obtain ⟨h1, h2⟩ := h
    refine ⟨fun i j x y hi hj e => ?_, fun k q hk => h2 q (List.mem_of_getElem? hk)⟩
    rw [List.pairwise_iff_getElem] at h1
    obtain ⟨hi', rfl⟩ := List.getElem?_eq_some_iff.mp hi
    obtain ⟨hj', rfl⟩ := List.getElem?_eq_some_iff.mp hj
    rcases Nat.lt_trichotomy i j with h | h | h
    · exact absurd e (h1 i j hi' hj' h)
    · exact h
    · exact absurd e.symm (h1 j i hj' hi' h)
theorem D_perm {A : Nat → Prop} {ws ws' : va_W} (h : ws.Perm ws') (hD : va_D A ws) : va_D A ws' := by
  rw [D_pw] at hD ⊢
  exact ⟨(h.pairwise_iff (fun h e => h e.symm)).mp hD.1, fun q hq => hD.2 q (h.mem_iff.mpr hq)⟩
theorem fl_perm {L L' : List va_W} (h : L.Perm L') : (fl L).Perm (fl L') := by
  unfold fl
  induction h with
  | nil => exact List.Perm.refl _
  | cons x _ ih => rw [List.flatten_cons, List.flatten_cons]; exact ih.append_left x
  | swap x y l =>
    rw [List.flatten_cons, List.flatten_cons, List.flatten_cons, List.flatten_cons, ← List.append_assoc, ← List.append_assoc]
    exact List.perm_append_comm.append_right _
  | trans _ _ a b => exact a.trans b
theorem fl_app (L L' : List va_W) : fl (L ++ L') = fl L ++ fl L' := List.flatten_append
theorem perm_idx {α : Type} {L L' : List α} (is : List Nat) (h : is.isPerm (List.range L.length) = true) (e : is.map (fun i => L[i]?) = L'.map some) : L.Perm L' := by
  have h1 := (List.isPerm_iff.mp h).map (fun i => L[i]?)
  rw [e] at h1
  have h2 : (List.range L.length).map (fun i => L[i]?) = L.map some := by
    apply List.ext_getElem?
    intro i
    rw [List.getElem?_map, List.getElem?_map]
    by_cases hi : i < L.length
    · rw [List.getElem?_range hi, List.getElem?_eq_getElem hi]
      show some L[i]? = some (some L[i])
      rw [List.getElem?_eq_getElem hi]
    · rw [List.getElem?_eq_none (by rw [List.length_range]; omega), List.getElem?_eq_none (by omega)]
      rfl
  rw [h2] at h1
  have h3 := h1.filterMap id
  rw [List.filterMap_map, List.filterMap_map] at h3
  have h4 : ∀ M : List α, M.filterMap (id ∘ some) = M := fun M => by
    induction M with
    | nil => rfl
    | cons a M ih => rw [List.filterMap_cons]; simp only [Function.comp]; rw [← ih]; simp
  rw [h4, h4] at h3
  exact h3.symm
theorem jn {A0 : Nat → Prop} {D : va_G} {cl : List vw_C} {wc wr w1 : va_W} {H H1 : Heap} (hP : va_P D cl (wc ++ wr) H) (hD : va_D A0 (wc ++ wr))
    (hk : ∀ q : Nat, q < H.size → ¬ va_A wc H.size q → H1[q]? = H[q]?) (hF : ∀ q, va_A wc H.size q → A0 q) (hP1 : va_P D cl w1 H1) (hD1 : va_D (va_A wc H.size) w1) : va_P D cl (w1 ++ wr) H1 ∧ va_D A0 (w1 ++ wr) := by
  have hPr : ∀ q ∈ wr, va_at D cl q H := fun q hq => by
    obtain ⟨i, hi⟩ := List.getElem?_of_mem (List.mem_append_right wc hq)
    exact hP i q hi
  rw [D_pw, List.pairwise_append] at hD
  obtain ⟨⟨d1, d2, d3⟩, d4⟩ := hD
  have apart : ∀ q ∈ wr, q.1 < H.size ∧ ¬ va_A wc H.size q.1 := fun q hq => by
    have hl := (hPr q hq).lt
    refine ⟨hl, fun h => ?_⟩
    rcases h with ⟨k2, e, h⟩ | h
    · exact d3 _ (List.mem_of_getElem? h) q hq rfl
    · omega
  rw [D_pw] at hD1
  obtain ⟨e1, e2⟩ := hD1
  refine ⟨va_P.app hP1 (fun k q hk9 => ?_), D_pw.mpr ⟨?_, fun q hq => ?_⟩⟩
  · have hq := List.mem_of_getElem? hk9
    exact (hPr q hq).kept (hk q.1 (apart q hq).1 (apart q hq).2)
  · rw [List.pairwise_append]
    refine ⟨e1, d2, fun x hx y hy e => ?_⟩
    exact (apart y hy).2 (by rw [← e]; exact e2 x hx)
  · rcases List.mem_append.mp hq with h | h
    · exact hF _ (e2 q h)
    · exact d4 q (List.mem_append_right _ h)
/-! contracts -/
abbrev TY (G : Nat → ClassId) : List (ClassId × FieldType) := [(G 0, .int), (G 1, .boolean), (G 2, .long), (G 3, .array .int)]
abbrev PreW (D : va_G) (G : Nat → ClassId) (wc : List va_W) (sz : Nat) (U : State) : Prop := U.heap.size = sz ∧ va_P D vwCl (fl wc) U.heap ∧ va_K D vwCl (TY G) U ∧ va_D (fun _ => True) (fl wc)
abbrev PostW (D : va_G) (G : Nat → ClassId) (A : Nat → Prop) (w1 : List va_W) (t : State) : Prop := va_P D vwCl (fl w1) t.heap ∧ va_K D vwCl (TY G) t ∧ va_D A (fl w1)
def CtI (l : Launch) (y : MethodName) (wy : List Cond) (rm : Room) (D : va_G) (G : Nat → ClassId) (av : List Value) (wc : List va_W) {S : Type} (post : Int32 → S → Prop) (w1 : S → List va_W) : Prop :=
  ∀ sz : Nat, Met l y wy rm (va_Pc av (PreW D G wc sz)) (va_Qi post (fun u t => PostW D G (va_A (fl wc) sz) (w1 u) t) (va_A (fl wc) sz)) 0 0 (va_A (fl wc) sz)
def CtV (l : Launch) (y : MethodName) (wy : List Cond) (rm : Room) (D : va_G) (G : Nat → ClassId) (av : List Value) (wc : List va_W) {S : Type} (post : S → Prop) (w1 : S → List va_W) : Prop :=
  ∀ sz : Nat, Met l y wy rm (va_Pc av (PreW D G wc sz)) (va_Qv post (fun u t => PostW D G (va_A (fl wc) sz) (w1 u) t) (va_A (fl wc) sz)) 0 0 (va_A (fl wc) sz)
section FINS
variable {p : Program} {l : Launch} {e : Env} {R : Room} {s : State} {m : MethodId} {args : Array Value} {below : List Frame} {meth : Method} {c : Code} {H : Heap} {locs : List Loc}
variable {cc : ByteArray} {pc : Nat} {ls : Array Slot} {D : va_G} {A : Nat → Prop} {G : Nat → ClassId}
theorem fin_i {S : Type} {post : Int32 → S → Prop} {w1 : S → List va_W} {v : Int32} (u : S) (hx : p.tables.exec = Jvm.exec) (hb : c.code = cc) (hr : meth.sig.returnType = some .int) (hlocks : meth.locks = false) (hK : va_K D vwCl (TY G) s) (hP : va_P D vwCl (fl (w1 u)) H) (hD : va_D A (fl (w1 u))) (hS : va_S A s.heap H locs) (hdg : decode cc pc = .ok (.ireturn, 1)) (hw : post v u) : W p l e R s m args below meth c H locs 0 0 (MQ below (va_Qi post (fun u t => PostW D G A (w1 u) t) A) args s 0 0 A) (F0 m pc ls [.int v]) :=
  W.iret hx hb hr (fun t ht hW => ⟨⟨v, u, rfl, hw, by rw [ht]; exact hP, va_K.moved hW.alike hK, hD⟩, hS.F ht⟩) hS.2.2 hdg hlocks
theorem fin_z {S : Type} {post : Int32 → S → Prop} {w1 : S → List va_W} {v : Int32} (u : S) (hx : p.tables.exec = Jvm.exec) (hb : c.code = cc) (hr : meth.sig.returnType = some .boolean) (hlocks : meth.locks = false) (hK : va_K D vwCl (TY G) s) (hP : va_P D vwCl (fl (w1 u)) H) (hD : va_D A (fl (w1 u))) (hS : va_S A s.heap H locs) (hdg : decode cc pc = .ok (.ireturn, 1)) (hn : narrow .boolean (.int v) = .int v) (hw : post v u) : W p l e R s m args below meth c H locs 0 0 (MQ below (va_Qi post (fun u t => PostW D G A (w1 u) t) A) args s 0 0 A) (F0 m pc ls [.int v]) :=
  W.zret hx hb hr hn (fun t ht hW => ⟨⟨v, u, rfl, hw, by rw [ht]; exact hP, va_K.moved hW.alike hK, hD⟩, hS.F ht⟩) hS.2.2 hdg hlocks
theorem fin_v {S : Type} {post : S → Prop} {w1 : S → List va_W} (u : S) (hx : p.tables.exec = Jvm.exec) (hb : c.code = cc) (hr : meth.sig.returnType = none) (hlocks : meth.locks = false) (hK : va_K D vwCl (TY G) s) (hP : va_P D vwCl (fl (w1 u)) H) (hD : va_D A (fl (w1 u))) (hS : va_S A s.heap H locs) (hdg : decode cc pc = .ok (.return_, 1)) (hw : post u) : W p l e R s m args below meth c H locs 0 0 (MQ below (va_Qv post (fun u t => PostW D G A (w1 u) t) A) args s 0 0 A) (F0 m pc ls []) :=
  W.vret hx hb hr (fun t ht hW => ⟨⟨u, rfl, hw, by rw [ht]; exact hP, va_K.moved hW.alike hK, hD⟩, hS.F ht⟩) hS.2.2 hdg hlocks
end FINS
/-- what a method's walk must come to, with its end as a row -/
abbrev BodyI (l : Launch) (y : MethodName) (wy : List Cond) (rm : Room) (D : va_G) (G : Nat → ClassId) (av : List Value) (wc : List va_W) {S : Type} (post : Int32 → S → Prop) (w1 : S → List va_W) (cc : ByteArray) (maxL : Nat) (ok : Int32 → Prop) : Prop :=
  ∀ (p : Program) (e : Env) (s : State) (m : MethodId) (args : Array Value) (below : List Frame) (meth : Method) (c : Code) (A : Nat → Prop) (ls : Array Slot) (Q : State → Prop), p.tables.exec = Jvm.exec → c.code = cc → c.maxLocals = maxL → s.vm.findClass y.cls = some m.cls → (∀ w ∈ wy, w.before args s = true) → va_K D vwCl (TY G) s → va_P D vwCl (fl wc) s.heap → va_D A (fl wc) → (∀ q : Nat, s.heap.size ≤ q → A q) → lv_has ls maxL (lv_args 0 av) →
    (∀ (v : Int32) (u : S) (H : Heap) (locs : List Loc) (ls : Array Slot) (pc : Nat), decode cc pc = .ok (.ireturn, 1) → va_P D vwCl (fl (w1 u)) H → va_D A (fl (w1 u)) → va_S A s.heap H locs → ok v → post v u → W p l e rm s m args below meth c H locs 0 0 Q (F0 m pc ls [.int v])) →
    W p l e rm s m args below meth c s.heap [] 0 0 Q (F0 m 0 ls [])
abbrev BodyV (l : Launch) (y : MethodName) (wy : List Cond) (rm : Room) (D : va_G) (G : Nat → ClassId) (av : List Value) (wc : List va_W) {S : Type} (post : S → Prop) (w1 : S → List va_W) (cc : ByteArray) (maxL : Nat) : Prop :=
  ∀ (p : Program) (e : Env) (s : State) (m : MethodId) (args : Array Value) (below : List Frame) (meth : Method) (c : Code) (A : Nat → Prop) (ls : Array Slot) (Q : State → Prop), p.tables.exec = Jvm.exec → c.code = cc → c.maxLocals = maxL → s.vm.findClass y.cls = some m.cls → (∀ w ∈ wy, w.before args s = true) → va_K D vwCl (TY G) s → va_P D vwCl (fl wc) s.heap → va_D A (fl wc) → (∀ q : Nat, s.heap.size ≤ q → A q) → lv_has ls maxL (lv_args 0 av) →
    (∀ (u : S) (H : Heap) (locs : List Loc) (ls : Array Slot) (pc : Nat), decode cc pc = .ok (.return_, 1) → va_P D vwCl (fl (w1 u)) H → va_D A (fl (w1 u)) → va_S A s.heap H locs → post u → W p l e rm s m args below meth c H locs 0 0 Q (F0 m pc ls [])) →
    W p l e rm s m args below meth c s.heap [] 0 0 Q (F0 m 0 ls [])
theorem CtI.ofI {l : Launch} {y : MethodName} {wy ws' : List Cond} {rm : Room} {D : va_G} {G : Nat → ClassId} {av : List Value} {wc : List va_W} {S : Type} {post : Int32 → S → Prop} {w1 : S → List va_W} {cc : ByteArray} {maxL : Nat}
    (hy : plainName y.cls = true) (hw : wy = Cond.code y cc maxL (some .int) :: ws') (hn : (lg_sl av).length ≤ maxL) (body : BodyI l y wy rm D G av wc post w1 cc maxL (fun _ => True)) : CtI l y wy rm D G av wc post w1 := by
  intro sz
  refine Met.ofW (cc := cc) (maxL := maxL) (ret := some .int) hy hw ?_
  intro p e s m args below meth c s₁ B hml hv
  obtain ⟨rfl, hsz, hP, hK, hD0⟩ := hv
  have hl := lv_entry av (n := maxL) hn
  subst hsz
  rw [lg_entry_eq]
  exact body p e s m _ below meth c _ _ _ B.exec B.bytes hml (findClass_of_methodNamed B.named) (atoms_spec (ws := wy) B.pre) hK hP (hD0.self (sz := s.heap.size)) (fun q h => Or.inr h) hl (fun v u H locs ls pc hd p1 d1 s1 _ hw => fin_i u B.exec B.bytes B.returns B.notSynchronized hK p1 d1 s1 hd hw)
theorem CtI.ofZ {l : Launch} {y : MethodName} {wy ws' : List Cond} {rm : Room} {D : va_G} {G : Nat → ClassId} {av : List Value} {wc : List va_W} {S : Type} {post : Int32 → S → Prop} {w1 : S → List va_W} {cc : ByteArray} {maxL : Nat}
    (hy : plainName y.cls = true) (hw : wy = Cond.code y cc maxL (some .boolean) :: ws') (hn : (lg_sl av).length ≤ maxL) (body : BodyI l y wy rm D G av wc post w1 cc maxL (fun v => narrow .boolean (.int v) = .int v)) : CtI l y wy rm D G av wc post w1 := by
  intro sz
  refine Met.ofW (cc := cc) (maxL := maxL) (ret := some .boolean) hy hw ?_
  intro p e s m args below meth c s₁ B hml hv
  obtain ⟨rfl, hsz, hP, hK, hD0⟩ := hv
  have hl := lv_entry av (n := maxL) hn
  subst hsz
  rw [lg_entry_eq]
  exact body p e s m _ below meth c _ _ _ B.exec B.bytes hml (findClass_of_methodNamed B.named) (atoms_spec (ws := wy) B.pre) hK hP (hD0.self (sz := s.heap.size)) (fun q h => Or.inr h) hl (fun v u H locs ls pc hd p1 d1 s1 ok hw => fin_z u B.exec B.bytes B.returns B.notSynchronized hK p1 d1 s1 hd ok hw)
theorem CtV.of {l : Launch} {y : MethodName} {wy ws' : List Cond} {rm : Room} {D : va_G} {G : Nat → ClassId} {av : List Value} {wc : List va_W} {S : Type} {post : S → Prop} {w1 : S → List va_W} {cc : ByteArray} {maxL : Nat}
    (hy : plainName y.cls = true) (hw : wy = Cond.code y cc maxL none :: ws') (hn : (lg_sl av).length ≤ maxL) (body : BodyV l y wy rm D G av wc post w1 cc maxL) : CtV l y wy rm D G av wc post w1 := by
  intro sz
  refine Met.ofW (cc := cc) (maxL := maxL) (ret := none) hy hw ?_
  intro p e s m args below meth c s₁ B hml hv
  obtain ⟨rfl, hsz, hP, hK, hD0⟩ := hv
  have hl := lv_entry av (n := maxL) hn
  subst hsz
  rw [lg_entry_eq]
  exact body p e s m _ below meth c _ _ _ B.exec B.bytes hml (findClass_of_methodNamed B.named) (atoms_spec (ws := wy) B.pre) hK hP (hD0.self (sz := s.heap.size)) (fun q h => Or.inr h) hl (fun u H locs ls pc hd p1 d1 s1 hw => fin_v u B.exec B.bytes B.returns B.notSynchronized hK p1 d1 s1 hd hw)
section BASE
variable {p : Program} {l : Launch} {e : Env} {R : Room} {s : State} {m : MethodId} {args : Array Value} {below : List Frame} {meth : Method} {c : Code} {H : Heap} {locs : List Loc} {cells slots : Nat} {Q : State → Prop}
variable {cc : ByteArray} {pc : Nat} {ls : Array Slot} {rest : List Value} {D : va_G} {A : Nat → Prop} {a : Nat} {ws : va_W} {H0 : Heap} {G : Nat → ClassId}
theorem wi_iconst (hx : p.tables.exec = Jvm.exec) (hb : c.code = cc) {n : Int} (hdg : decode cc pc = .ok (.iconst n, 1)) (k : W p l e R s m args below meth c H locs cells slots Q (F0 m (pc + 1) ls (.int (iI n) :: rest))) : W p l e R s m args below meth c H locs cells slots Q (F0 m pc ls rest) := lv_iconst hx hb hdg rfl k
theorem wi_bipush (hx : p.tables.exec = Jvm.exec) (hb : c.code = cc) {n : Int} (hdg : decode cc pc = .ok (.bipush n, 2)) (hv : (Int8.ofInt n).toInt32 = iI n) (k : W p l e R s m args below meth c H locs cells slots Q (F0 m (pc + 2) ls (.int (iI n) :: rest))) : W p l e R s m args below meth c H locs cells slots Q (F0 m pc ls rest) := lv_bipush hx hb hdg hv k
theorem wi_sipush (hx : p.tables.exec = Jvm.exec) (hb : c.code = cc) {n : Int} (hdg : decode cc pc = .ok (.sipush n, 3)) (hv : (Int16.ofInt n).toInt32 = iI n) (k : W p l e R s m args below meth c H locs cells slots Q (F0 m (pc + 3) ls (.int (iI n) :: rest))) : W p l e R s m args below meth c H locs cells slots Q (F0 m pc ls rest) := lv_sipush hx hb hdg hv k
theorem wi_iadd (hx : p.tables.exec = Jvm.exec) (hb : c.code = cc) {x y : Int} (hdg : decode cc pc = .ok (.iadd, 1)) (k : W p l e R s m args below meth c H locs cells slots Q (F0 m (pc + 1) ls (.int (iI (x + y)) :: rest))) : W p l e R s m args below meth c H locs cells slots Q (F0 m pc ls (.int (iI y) :: .int (iI x) :: rest)) := lv_iadd hx hb hdg (by rw [iI_add]; exact k)
theorem wi_isub (hx : p.tables.exec = Jvm.exec) (hb : c.code = cc) {x y : Int} (hdg : decode cc pc = .ok (.isub, 1)) (k : W p l e R s m args below meth c H locs cells slots Q (F0 m (pc + 1) ls (.int (iI (x - y)) :: rest))) : W p l e R s m args below meth c H locs cells slots Q (F0 m pc ls (.int (iI y) :: .int (iI x) :: rest)) := lv_isub hx hb hdg (by rw [iI_sub]; exact k)
theorem wi_imul (hx : p.tables.exec = Jvm.exec) (hb : c.code = cc) {x y : Int} (hdg : decode cc pc = .ok (.imul, 1)) (k : W p l e R s m args below meth c H locs cells slots Q (F0 m (pc + 1) ls (.int (iI (x * y)) :: rest))) : W p l e R s m args below meth c H locs cells slots Q (F0 m pc ls (.int (iI y) :: .int (iI x) :: rest)) := lv_imul hx hb hdg (by rw [iI_mul]; exact k)
theorem wi_ineg (hx : p.tables.exec = Jvm.exec) (hb : c.code = cc) {x : Int} (hdg : decode cc pc = .ok (.ineg, 1)) (k : W p l e R s m args below meth c H locs cells slots Q (F0 m (pc + 1) ls (.int (iI (-x)) :: rest))) : W p l e R s m args below meth c H locs cells slots Q (F0 m pc ls (.int (iI x) :: rest)) := lv_ineg hx hb hdg (by rw [iI_neg]; exact k)
theorem wi_idiv (hx : p.tables.exec = Jvm.exec) (hb : c.code = cc) {x y : Int} (h1 : 0 ≤ x ∧ x < 2147483648) (h2 : 0 < y ∧ y < 2147483648) (hdg : decode cc pc = .ok (.idiv, 1)) (k : W p l e R s m args below meth c H locs cells slots Q (F0 m (pc + 1) ls (.int (iI (x / y)) :: rest))) : W p l e R s m args below meth c H locs cells slots Q (F0 m pc ls (.int (iI y) :: .int (iI x) :: rest)) := lv_idiv hx hb hdg (by rw [← iI_0, iI_eq (by omega) (by omega)]; omega) (by rw [iI_tdiv h1 h2]; exact k)
theorem wi_irem (hx : p.tables.exec = Jvm.exec) (hb : c.code = cc) {x y : Int} (h1 : 0 ≤ x ∧ x < 2147483648) (h2 : 0 < y ∧ y < 2147483648) (hdg : decode cc pc = .ok (.irem, 1)) (k : W p l e R s m args below meth c H locs cells slots Q (F0 m (pc + 1) ls (.int (iI (x % y)) :: rest))) : W p l e R s m args below meth c H locs cells slots Q (F0 m pc ls (.int (iI y) :: .int (iI x) :: rest)) := lv_irem hx hb hdg (by rw [← iI_0, iI_eq (by omega) (by omega)]; omega) (by rw [iI_tmod h1 h2]; exact k)
theorem wi_icmp_eq (hx : p.tables.exec = Jvm.exec) (hb : c.code = cc) {x y : Int} {off : Int} {tgt : Nat} (h1 : -2147483648 ≤ x ∧ x < 2147483648) (h2 : -2147483648 ≤ y ∧ y < 2147483648) (hdg : decode cc pc = .ok (.if_icmp .eq off, 3)) (ht : (pc : Int) + off = (tgt : Int)) (kt : x = y → W p l e R s m args below meth c H locs cells slots Q (F0 m tgt ls rest)) (kf : x ≠ y → W p l e R s m args below meth c H locs cells slots Q (F0 m (pc + 3) ls rest)) : W p l e R s m args below meth c H locs cells slots Q (F0 m pc ls (.int (iI y) :: .int (iI x) :: rest)) := lv_icmp_eq hx hb hdg ht (fun h => kt (by rw [iI_eq h1 h2] at h; omega)) (fun h => kf (by rw [iI_eq h1 h2] at h; omega))
theorem wi_icmp_ne (hx : p.tables.exec = Jvm.exec) (hb : c.code = cc) {x y : Int} {off : Int} {tgt : Nat} (h1 : -2147483648 ≤ x ∧ x < 2147483648) (h2 : -2147483648 ≤ y ∧ y < 2147483648) (hdg : decode cc pc = .ok (.if_icmp .ne off, 3)) (ht : (pc : Int) + off = (tgt : Int)) (kt : x ≠ y → W p l e R s m args below meth c H locs cells slots Q (F0 m tgt ls rest)) (kf : x = y → W p l e R s m args below meth c H locs cells slots Q (F0 m (pc + 3) ls rest)) : W p l e R s m args below meth c H locs cells slots Q (F0 m pc ls (.int (iI y) :: .int (iI x) :: rest)) := lv_icmp_ne hx hb hdg ht (fun h => kt (by rw [iI_eq h1 h2] at h; omega)) (fun h => kf (by rw [iI_eq h1 h2] at h; omega))
theorem wi_icmp_lt (hx : p.tables.exec = Jvm.exec) (hb : c.code = cc) {x y : Int} {off : Int} {tgt : Nat} (h1 : -2147483648 ≤ x ∧ x < 2147483648) (h2 : -2147483648 ≤ y ∧ y < 2147483648) (hdg : decode cc pc = .ok (.if_icmp .lt off, 3)) (ht : (pc : Int) + off = (tgt : Int)) (kt : x < y → W p l e R s m args below meth c H locs cells slots Q (F0 m tgt ls rest)) (kf : y ≤ x → W p l e R s m args below meth c H locs cells slots Q (F0 m (pc + 3) ls rest)) : W p l e R s m args below meth c H locs cells slots Q (F0 m pc ls (.int (iI y) :: .int (iI x) :: rest)) := lv_icmp_lt hx hb hdg ht (fun h => kt (by rw [iI_lt h1 h2] at h; omega)) (fun h => kf (by rw [iI_lt h1 h2] at h; omega))
theorem wi_icmp_ge (hx : p.tables.exec = Jvm.exec) (hb : c.code = cc) {x y : Int} {off : Int} {tgt : Nat} (h1 : -2147483648 ≤ x ∧ x < 2147483648) (h2 : -2147483648 ≤ y ∧ y < 2147483648) (hdg : decode cc pc = .ok (.if_icmp .ge off, 3)) (ht : (pc : Int) + off = (tgt : Int)) (kt : y ≤ x → W p l e R s m args below meth c H locs cells slots Q (F0 m tgt ls rest)) (kf : x < y → W p l e R s m args below meth c H locs cells slots Q (F0 m (pc + 3) ls rest)) : W p l e R s m args below meth c H locs cells slots Q (F0 m pc ls (.int (iI y) :: .int (iI x) :: rest)) := lv_icmp_ge hx hb hdg ht (fun h => kt (by rw [iI_le h2 h1] at h; omega)) (fun h => kf (by rw [iI_le h2 h1] at h; omega))
theorem wi_icmp_gt (hx : p.tables.exec = Jvm.exec) (hb : c.code = cc) {x y : Int} {off : Int} {tgt : Nat} (h1 : -2147483648 ≤ x ∧ x < 2147483648) (h2 : -2147483648 ≤ y ∧ y < 2147483648) (hdg : decode cc pc = .ok (.if_icmp .gt off, 3)) (ht : (pc : Int) + off = (tgt : Int)) (kt : y < x → W p l e R s m args below meth c H locs cells slots Q (F0 m tgt ls rest)) (kf : x ≤ y → W p l e R s m args below meth c H locs cells slots Q (F0 m (pc + 3) ls rest)) : W p l e R s m args below meth c H locs cells slots Q (F0 m pc ls (.int (iI y) :: .int (iI x) :: rest)) := lv_icmp_gt hx hb hdg ht (fun h => kt (by rw [iI_lt h2 h1] at h; omega)) (fun h => kf (by rw [iI_lt h2 h1] at h; omega))
theorem wi_icmp_le (hx : p.tables.exec = Jvm.exec) (hb : c.code = cc) {x y : Int} {off : Int} {tgt : Nat} (h1 : -2147483648 ≤ x ∧ x < 2147483648) (h2 : -2147483648 ≤ y ∧ y < 2147483648) (hdg : decode cc pc = .ok (.if_icmp .le off, 3)) (ht : (pc : Int) + off = (tgt : Int)) (kt : x ≤ y → W p l e R s m args below meth c H locs cells slots Q (F0 m tgt ls rest)) (kf : y < x → W p l e R s m args below meth c H locs cells slots Q (F0 m (pc + 3) ls rest)) : W p l e R s m args below meth c H locs cells slots Q (F0 m pc ls (.int (iI y) :: .int (iI x) :: rest)) := lv_icmp_le hx hb hdg ht (fun h => kt (by rw [iI_le h1 h2] at h; omega)) (fun h => kf (by rw [iI_le h1 h2] at h; omega))
theorem wi_if_eq (hx : p.tables.exec = Jvm.exec) (hb : c.code = cc) {x : Int} {off : Int} {tgt : Nat} (h1 : -2147483648 ≤ x ∧ x < 2147483648) (hdg : decode cc pc = .ok (.ifCond .eq off, 3)) (ht : (pc : Int) + off = (tgt : Int)) (kt : x = 0 → W p l e R s m args below meth c H locs cells slots Q (F0 m tgt ls rest)) (kf : x ≠ 0 → W p l e R s m args below meth c H locs cells slots Q (F0 m (pc + 3) ls rest)) : W p l e R s m args below meth c H locs cells slots Q (F0 m pc ls (.int (iI x) :: rest)) := lv_if_eq hx hb hdg ht (fun h => kt (by rw [← iI_0, iI_eq h1 (by omega)] at h; omega)) (fun h => kf (by rw [← iI_0, iI_eq h1 (by omega)] at h; omega))
theorem wi_if_ne (hx : p.tables.exec = Jvm.exec) (hb : c.code = cc) {x : Int} {off : Int} {tgt : Nat} (h1 : -2147483648 ≤ x ∧ x < 2147483648) (hdg : decode cc pc = .ok (.ifCond .ne off, 3)) (ht : (pc : Int) + off = (tgt : Int)) (kt : x ≠ 0 → W p l e R s m args below meth c H locs cells slots Q (F0 m tgt ls rest)) (kf : x = 0 → W p l e R s m args below meth c H locs cells slots Q (F0 m (pc + 3) ls rest)) : W p l e R s m args below meth c H locs cells slots Q (F0 m pc ls (.int (iI x) :: rest)) := lv_if_ne hx hb hdg ht (fun h => kt (by rw [← iI_0, iI_eq h1 (by omega)] at h; omega)) (fun h => kf (by rw [← iI_0, iI_eq h1 (by omega)] at h; omega))
theorem wi_if_lt (hx : p.tables.exec = Jvm.exec) (hb : c.code = cc) {x : Int} {off : Int} {tgt : Nat} (h1 : -2147483648 ≤ x ∧ x < 2147483648) (hdg : decode cc pc = .ok (.ifCond .lt off, 3)) (ht : (pc : Int) + off = (tgt : Int)) (kt : x < 0 → W p l e R s m args below meth c H locs cells slots Q (F0 m tgt ls rest)) (kf : 0 ≤ x → W p l e R s m args below meth c H locs cells slots Q (F0 m (pc + 3) ls rest)) : W p l e R s m args below meth c H locs cells slots Q (F0 m pc ls (.int (iI x) :: rest)) := lv_if_lt hx hb hdg ht (fun h => kt (by rw [← iI_0, iI_lt h1 (by omega)] at h; omega)) (fun h => kf (by rw [← iI_0, iI_lt h1 (by omega)] at h; omega))
theorem wi_if_ge (hx : p.tables.exec = Jvm.exec) (hb : c.code = cc) {x : Int} {off : Int} {tgt : Nat} (h1 : -2147483648 ≤ x ∧ x < 2147483648) (hdg : decode cc pc = .ok (.ifCond .ge off, 3)) (ht : (pc : Int) + off = (tgt : Int)) (kt : 0 ≤ x → W p l e R s m args below meth c H locs cells slots Q (F0 m tgt ls rest)) (kf : x < 0 → W p l e R s m args below meth c H locs cells slots Q (F0 m (pc + 3) ls rest)) : W p l e R s m args below meth c H locs cells slots Q (F0 m pc ls (.int (iI x) :: rest)) := lv_if_ge hx hb hdg ht (fun h => kt (by rw [← iI_0, iI_le (by omega) h1] at h; omega)) (fun h => kf (by rw [← iI_0, iI_le (by omega) h1] at h; omega))
theorem wi_if_gt (hx : p.tables.exec = Jvm.exec) (hb : c.code = cc) {x : Int} {off : Int} {tgt : Nat} (h1 : -2147483648 ≤ x ∧ x < 2147483648) (hdg : decode cc pc = .ok (.ifCond .gt off, 3)) (ht : (pc : Int) + off = (tgt : Int)) (kt : 0 < x → W p l e R s m args below meth c H locs cells slots Q (F0 m tgt ls rest)) (kf : x ≤ 0 → W p l e R s m args below meth c H locs cells slots Q (F0 m (pc + 3) ls rest)) : W p l e R s m args below meth c H locs cells slots Q (F0 m pc ls (.int (iI x) :: rest)) := lv_if_gt hx hb hdg ht (fun h => kt (by rw [← iI_0, iI_lt (by omega) h1] at h; omega)) (fun h => kf (by rw [← iI_0, iI_lt (by omega) h1] at h; omega))
theorem wi_if_le (hx : p.tables.exec = Jvm.exec) (hb : c.code = cc) {x : Int} {off : Int} {tgt : Nat} (h1 : -2147483648 ≤ x ∧ x < 2147483648) (hdg : decode cc pc = .ok (.ifCond .le off, 3)) (ht : (pc : Int) + off = (tgt : Int)) (kt : x ≤ 0 → W p l e R s m args below meth c H locs cells slots Q (F0 m tgt ls rest)) (kf : 0 < x → W p l e R s m args below meth c H locs cells slots Q (F0 m (pc + 3) ls rest)) : W p l e R s m args below meth c H locs cells slots Q (F0 m pc ls (.int (iI x) :: rest)) := lv_if_le hx hb hdg ht (fun h => kt (by rw [← iI_0, iI_le h1 (by omega)] at h; omega)) (fun h => kf (by rw [← iI_0, iI_le h1 (by omega)] at h; omega))
theorem wi_iald (hx : p.tables.exec = Jvm.exec) (hb : c.code = cc) (hK : va_K D vwCl (TY G) s) (hP : va_P D vwCl ws H) (q0 : Nat) {n : Nat} {f : Nat → Int} (ha : ws[q0]? = some (a, .inl (G 0, n, .inl (ai f)))) {z : Int} (hz : 0 ≤ z ∧ z < n) (hn : n < 2147483648) (hdg : decode cc pc = .ok (.iaload, 1)) (k : W p l e R s m args below meth c H locs cells slots Q (F0 m (pc + 1) ls (.int (iI (f z.toNat)) :: rest))) : W p l e R s m args below meth c H locs cells slots Q (F0 m pc ls (.int (iI z) :: .ref a :: rest)) :=
  va_iald hx hb hK hP q0 0 ha rfl (iI_in hz hn) hdg (by rw [iI_clamp (by omega)]; exact k)
theorem wi_zald (hx : p.tables.exec = Jvm.exec) (hb : c.code = cc) (hK : va_K D vwCl (TY G) s) (hP : va_P D vwCl ws H) (q0 : Nat) {n : Nat} {f : Nat → Int} (ha : ws[q0]? = some (a, .inl (G 1, n, .inl (ai f)))) {z : Int} (hz : 0 ≤ z ∧ z < n) (hn : n < 2147483648) (hdg : decode cc pc = .ok (.baload, 1)) (k : W p l e R s m args below meth c H locs cells slots Q (F0 m (pc + 1) ls (.int (iI (f z.toNat)) :: rest))) : W p l e R s m args below meth c H locs cells slots Q (F0 m pc ls (.int (iI z) :: .ref a :: rest)) :=
  va_zald hx hb hK hP q0 1 ha rfl (iI_in hz hn) hdg (by rw [iI_clamp (by omega)]; exact k)
theorem wi_lald (hx : p.tables.exec = Jvm.exec) (hb : c.code = cc) (hK : va_K D vwCl (TY G) s) (hP : va_P D vwCl ws H) (q0 : Nat) {n : Nat} {f : Nat → Int64} (ha : ws[q0]? = some (a, .inl (G 2, n, .inr (.inl f)))) {z : Int} (hz : 0 ≤ z ∧ z < n) (hn : n < 2147483648) (hdg : decode cc pc = .ok (.laload, 1)) (k : W p l e R s m args below meth c H locs cells slots Q (F0 m (pc + 1) ls (.long (f z.toNat) :: rest))) : W p l e R s m args below meth c H locs cells slots Q (F0 m pc ls (.int (iI z) :: .ref a :: rest)) :=
  va_lald hx hb hK hP q0 2 ha rfl (iI_in hz hn) hdg (by rw [iI_clamp (by omega)]; exact k)
theorem wi_iast (hx : p.tables.exec = Jvm.exec) (hb : c.code = cc) (hK : va_K D vwCl (TY G) s) (hP : va_P D vwCl ws H) (hD : va_D A ws) (hS : va_S A H0 H locs) (q0 : Nat) {n : Nat} {f : Nat → Int} (ha : ws[q0]? = some (a, .inl (G 0, n, .inl (ai f)))) {z v : Int} (hz : 0 ≤ z ∧ z < n) (hn : n < 2147483648) (ws1 : va_W) (hw : ws.set q0 (a, .inl (G 0, n, .inl (ai (va_up f z.toNat v)))) = ws1) (hdg : decode cc pc = .ok (.iastore, 1))
    (k : ∀ (H1 : Heap) (locs1 : List Loc), va_P D vwCl ws1 H1 → va_D A ws1 → va_S A H0 H1 locs1 → W p l e R s m args below meth c H1 locs1 cells slots Q (F0 m (pc + 1) ls rest)) : W p l e R s m args below meth c H locs cells slots Q (F0 m pc ls (.int (iI v) :: .int (iI z) :: .ref a :: rest)) :=
  va_iast hx hb hK hP hD hS q0 0 ha rfl (iI_in hz hn) hdg (fun H1 locs1 p1 d1 s1 => by
    rw [iI_clamp (by omega), ai_up, hw] at p1 d1
    exact k H1 locs1 p1 d1 s1)
theorem wi_zast (hx : p.tables.exec = Jvm.exec) (hb : c.code = cc) (hK : va_K D vwCl (TY G) s) (hP : va_P D vwCl ws H) (hD : va_D A ws) (hS : va_S A H0 H locs) (q0 : Nat) {n : Nat} {f : Nat → Int} (ha : ws[q0]? = some (a, .inl (G 1, n, .inl (ai f)))) {z v : Int} (hz : 0 ≤ z ∧ z < n) (hn : n < 2147483648) (hv : v = 0 ∨ v = 1) (ws1 : va_W) (hw : ws.set q0 (a, .inl (G 1, n, .inl (ai (va_up f z.toNat v)))) = ws1) (hdg : decode cc pc = .ok (.bastore, 1))
    (k : ∀ (H1 : Heap) (locs1 : List Loc), va_P D vwCl ws1 H1 → va_D A ws1 → va_S A H0 H1 locs1 → W p l e R s m args below meth c H1 locs1 cells slots Q (F0 m (pc + 1) ls rest)) : W p l e R s m args below meth c H locs cells slots Q (F0 m pc ls (.int (iI v) :: .int (iI z) :: .ref a :: rest)) :=
  va_zast hx hb hK hP hD hS q0 1 ha rfl (iI_in hz hn) hdg (fun H1 locs1 p1 d1 s1 => by
    rw [iI_clamp (by omega), nz2 hv, ai_up, hw] at p1 d1
    exact k H1 locs1 p1 d1 s1)
theorem wi_last (hx : p.tables.exec = Jvm.exec) (hb : c.code = cc) (hK : va_K D vwCl (TY G) s) (hP : va_P D vwCl ws H) (hD : va_D A ws) (hS : va_S A H0 H locs) (q0 : Nat) {n : Nat} {f : Nat → Int64} (ha : ws[q0]? = some (a, .inl (G 2, n, .inr (.inl f)))) {z : Int} {v : Int64} (hz : 0 ≤ z ∧ z < n) (hn : n < 2147483648) (ws1 : va_W) (hw : ws.set q0 (a, .inl (G 2, n, .inr (.inl (vp_updL f z.toNat v)))) = ws1) (hdg : decode cc pc = .ok (.lastore, 1))
    (k : ∀ (H1 : Heap) (locs1 : List Loc), va_P D vwCl ws1 H1 → va_D A ws1 → va_S A H0 H1 locs1 → W p l e R s m args below meth c H1 locs1 cells slots Q (F0 m (pc + 1) ls rest)) : W p l e R s m args below meth c H locs cells slots Q (F0 m pc ls (.long v :: .int (iI z) :: .ref a :: rest)) :=
  va_last hx hb hK hP hD hS q0 2 ha rfl (iI_in hz hn) hdg (fun H1 locs1 p1 d1 s1 => by
    rw [iI_clamp (by omega), hw] at p1 d1
    exact k H1 locs1 p1 d1 s1)
theorem wi_alen (hx : p.tables.exec = Jvm.exec) (hb : c.code = cc) (hK : va_K D vwCl (TY G) s) (hP : va_P D vwCl ws H) (q0 t0 : Nat) {n : Nat} {x : vp_A} {cA : ClassId} (ha : ws[q0]? = some (a, .inl (cA, x))) {ty : FieldType} (ht : (TY G)[t0]? = some (cA, ty)) (hn : x.1 = n) (hdg : decode cc pc = .ok (.arraylength, 1)) (k : W p l e R s m args below meth c H locs cells slots Q (F0 m (pc + 1) ls (.int (iI (n : Int)) :: rest))) : W p l e R s m args below meth c H locs cells slots Q (F0 m pc ls (.ref a :: rest)) :=
  va_alen hx hb hK hP q0 t0 ha ht (by rw [hn]; exact iI_nI n) hdg k
/-- rows of a two-dimensional array: the outer one's place gives the row's address -/
theorem wi_aald (hx : p.tables.exec = Jvm.exec) (hb : c.code = cc) (hK : va_K D vwCl (TY G) s) (hP : va_P D vwCl ws H) (q0 : Nat) {n : Nat} {r : Nat → Nat} (ha : ws[q0]? = some (a, .inl (G 3, n, .inr (.inr (.inr (.inr (fun i => if i < n then some (r i) else none))))))) {z : Int} (hz : 0 ≤ z ∧ z < n) (hn : n < 2147483648) (hdg : decode cc pc = .ok (.aaload, 1)) (k : W p l e R s m args below meth c H locs cells slots Q (F0 m (pc + 1) ls (.ref (r z.toNat) :: rest))) : W p l e R s m args below meth c H locs cells slots Q (F0 m pc ls (.int (iI z) :: .ref a :: rest)) := by
  have hin := iI_in hz hn
  have hcl : (iI z).toNatClampNeg = z.toNat := iI_clamp (by omega)
  have hlt : (iI z).toNatClampNeg < n := by rw [hcl]; omega
  refine W.aald (v := va_rf ((fun i => if i < n then some (r i) else none) (iI z).toNatClampNeg)) (ty := .array .int) hx hb (hP q0 _ ha) ((hK.2 3 _ rfl).1 n (fun j => va_rf ((fun i => if i < n then some (r i) else none) j))) rfl (fun q => by cases q) (by show ¬ (iI z < 0 ∨ (arrV _ _ _).slots.size ≤ _); rw [arrV_size]; exact hin) (by show (arrV _ _ _).slots[_]? = _; rw [arrV_read _ _ hlt]) rfl rfl hdg ?_
  show W p l e R s m args below meth c H locs cells slots Q (F0 m (pc + 1) ls (va_rf (if (iI z).toNatClampNeg < n then some (r (iI z).toNatClampNeg) else none) :: rest))
  rw [if_pos hlt, hcl]
  exact k
theorem blindW {av : List Value} {wc : List va_W} {sz : Nat} : FrameBlind (va_Pc av (PreW D G wc sz)) := fun a U g mk q => by
  obtain ⟨q0, q1, qP, qK, qD⟩ := q
  exact ⟨q0, q1, qP, va_K.moved (u := U) (U := U.calling g mk a) (Vm.Alike.refl U.vm) qK, qD⟩
theorem freeW {wc wr : va_W} (hD : va_D A (wc ++ wr)) (hS : va_S A H0 H locs) (hA : ∀ q : Nat, H0.size ≤ q → A q) : ∀ q, va_A wc H.size q → A q := by
  intro q h
  rcases h with ⟨k, e, h⟩ | h
  · have := (D_pw.mp hD).2 (q, e) (List.mem_append_left _ (List.mem_of_getElem? h))
    exact this
  · exact hA q (Nat.le_trans hS.1 h)
variable {y : MethodName} {bytes : ByteArray} {maxL nL n index : Nat} {ret : Option FieldType} {wy Ts : List Cond} {rm : Room} {own C : String} {b : Addr} {As st0 : List Value} {S : Type} {Bs wc wr : List va_W} {w1 Bs1 : S → List va_W}
theorem ca_i {post : Int32 → S → Prop} (hr : ∀ av : Array Value, va_P D vwCl (fl wc) H → va_D (fun _ => True) (fl wc) → va_K D vwCl (TY G) s → va_Run p l e R s m args below meth c H locs cells slots 0 0 (F0 m pc ls st0) rest (va_Qi post (fun u t => PostW D G (va_A (fl wc) H.size) (w1 u) t) (va_A (fl wc) H.size) av) (va_A (fl wc) H.size))
    (hK : va_K D vwCl (TY G) s) (hP : va_P D vwCl (fl Bs) H) (hD : va_D A (fl Bs)) (hS : va_S A H0 H locs) (hA : ∀ q : Nat, H0.size ≤ q → A q) (hp : Bs.Perm (wc ++ wr)) (hp1 : ∀ u, (w1 u ++ wr).Perm (Bs1 u))
    (k : ∀ (r : Int32) (u : S) (H1 : Heap) (locs1 : List Loc), post r u → va_P D vwCl (fl (Bs1 u)) H1 → va_D A (fl (Bs1 u)) → va_S A H0 H1 locs1 → W p l e R s m args below meth c H1 locs1 cells slots Q (F0 m (pc + 3) ls (.int r :: rest))) : W p l e R s m args below meth c H locs cells slots Q (F0 m pc ls st0) := by
  have hP' := P_perm (fl_perm hp) hP
  have hD' := D_perm (fl_perm hp) hD
  rw [fl_app] at hP' hD'
  have hPc : va_P D vwCl (fl wc) H := fun i q hi => by
    obtain ⟨j, hj⟩ := List.getElem?_of_mem (List.mem_append_left (fl wr) (List.mem_of_getElem? hi))
    exact hP' j q hj
  have hDc : va_D (fun _ => True) (fl wc) := D_pw.mpr ⟨(List.pairwise_append.mp (D_pw.mp hD').1).1, fun _ _ => trivial⟩
  have hF := freeW hD' hS hA
  refine va_calli (hr #[] hPc hDc hK) hS (fun q _ h => hF q h) hF (fun r u t H1 locs1 ht hvm hw hB hz1 hk1 hS1 => ?_)
  obtain ⟨hP1, -, hD1⟩ := hB
  rw [ht] at hP1
  obtain ⟨p2, d2⟩ := jn hP' hD' hk1 hF hP1 hD1
  rw [← fl_app] at p2 d2
  exact k r u H1 locs1 hw (P_perm (fl_perm (hp1 u)) p2) (D_perm (fl_perm (hp1 u)) d2) hS1
theorem ca_v {post : S → Prop} (hr : ∀ av : Array Value, va_P D vwCl (fl wc) H → va_D (fun _ => True) (fl wc) → va_K D vwCl (TY G) s → va_Run p l e R s m args below meth c H locs cells slots 0 0 (F0 m pc ls st0) rest (va_Qv post (fun u t => PostW D G (va_A (fl wc) H.size) (w1 u) t) (va_A (fl wc) H.size) av) (va_A (fl wc) H.size))
    (hK : va_K D vwCl (TY G) s) (hP : va_P D vwCl (fl Bs) H) (hD : va_D A (fl Bs)) (hS : va_S A H0 H locs) (hA : ∀ q : Nat, H0.size ≤ q → A q) (hp : Bs.Perm (wc ++ wr)) (hp1 : ∀ u, (w1 u ++ wr).Perm (Bs1 u))
    (k : ∀ (u : S) (H1 : Heap) (locs1 : List Loc), post u → va_P D vwCl (fl (Bs1 u)) H1 → va_D A (fl (Bs1 u)) → va_S A H0 H1 locs1 → W p l e R s m args below meth c H1 locs1 cells slots Q (F0 m (pc + 3) ls rest)) : W p l e R s m args below meth c H locs cells slots Q (F0 m pc ls st0) := by
  have hP' := P_perm (fl_perm hp) hP
  have hD' := D_perm (fl_perm hp) hD
  rw [fl_app] at hP' hD'
  have hPc : va_P D vwCl (fl wc) H := fun i q hi => by
    obtain ⟨j, hj⟩ := List.getElem?_of_mem (List.mem_append_left (fl wr) (List.mem_of_getElem? hi))
    exact hP' j q hj
  have hDc : va_D (fun _ => True) (fl wc) := D_pw.mpr ⟨(List.pairwise_append.mp (D_pw.mp hD').1).1, fun _ _ => trivial⟩
  have hF := freeW hD' hS hA
  refine va_callv (hr #[] hPc hDc hK) hS (fun q _ h => hF q h) hF (fun u t H1 locs1 ht hvm hw hB hz1 hk1 hS1 => ?_)
  obtain ⟨hP1, -, hD1⟩ := hB
  rw [ht] at hP1
  obtain ⟨p2, d2⟩ := jn hP' hD' hk1 hF hP1 hD1
  rw [← fl_app] at p2 d2
  exact k u H1 locs1 hw (P_perm (fl_perm (hp1 u)) p2) (D_perm (fl_perm (hp1 u)) d2) hS1
theorem cV_i {post : Int32 → S → Prop} (hM : CtI l y wy rm D G (.ref b :: As) wc post w1) (hst : st0 = As.reverse ++ .ref b :: rest) (hs : CallFix p m c cc nL s args Ts own) (cw : CallW R s args own C index y bytes maxL ret wy rm 0 0 n) {q0 ci : Nat} {q : vw_C} {fs : List Value} (he : (fl wc)[q0]? = some (b, .inr (ci, fs))) (hc : vwCl[ci]? = some q) (hq : q.1 = C) (hn : As.length = n) (hsize : ls.size = nL) (hW : (rest.map fun v => v.category).sum ≤ 8) (hcs : cells ≤ R.cells ∧ slots ≤ R.slots) (hdg : decode cc pc = .ok (.invokevirtual index, 3))
    (hK : va_K D vwCl (TY G) s) (hP : va_P D vwCl (fl Bs) H) (hD : va_D A (fl Bs)) (hS : va_S A H0 H locs) (hA : ∀ q : Nat, H0.size ≤ q → A q) (hp : Bs.Perm (wc ++ wr)) (hp1 : ∀ u, (w1 u ++ wr).Perm (Bs1 u))
    (k : ∀ (r : Int32) (u : S) (H1 : Heap) (locs1 : List Loc), post r u → va_P D vwCl (fl (Bs1 u)) H1 → va_D A (fl (Bs1 u)) → va_S A H0 H1 locs1 → W p l e R s m args below meth c H1 locs1 cells slots Q (F0 m (pc + 3) ls (.int r :: rest))) : W p l e R s m args below meth c H locs cells slots Q (F0 m pc ls st0) := by
  subst hq
  refine ca_i (fun av hPc hDc hKc => ?_) hK hP hD hS hA hp hp1 k
  exact va_runV (As := As) (rest := rest) hs (hM H.size) cw ⟨blindW, va_recv hKc hPc hc he, fun U hU hW => ⟨rfl, by rw [hU], by rw [hU]; exact hPc, va_K.moved hW.alike hKc, hDc⟩⟩ rfl hn hsize hst (lv_room hW) hdg hcs
theorem cV_v {post : S → Prop} (hM : CtV l y wy rm D G (.ref b :: As) wc post w1) (hst : st0 = As.reverse ++ .ref b :: rest) (hs : CallFix p m c cc nL s args Ts own) (cw : CallW R s args own C index y bytes maxL ret wy rm 0 0 n) {q0 ci : Nat} {q : vw_C} {fs : List Value} (he : (fl wc)[q0]? = some (b, .inr (ci, fs))) (hc : vwCl[ci]? = some q) (hq : q.1 = C) (hn : As.length = n) (hsize : ls.size = nL) (hW : (rest.map fun v => v.category).sum ≤ 8) (hcs : cells ≤ R.cells ∧ slots ≤ R.slots) (hdg : decode cc pc = .ok (.invokevirtual index, 3))
    (hK : va_K D vwCl (TY G) s) (hP : va_P D vwCl (fl Bs) H) (hD : va_D A (fl Bs)) (hS : va_S A H0 H locs) (hA : ∀ q : Nat, H0.size ≤ q → A q) (hp : Bs.Perm (wc ++ wr)) (hp1 : ∀ u, (w1 u ++ wr).Perm (Bs1 u))
    (k : ∀ (u : S) (H1 : Heap) (locs1 : List Loc), post u → va_P D vwCl (fl (Bs1 u)) H1 → va_D A (fl (Bs1 u)) → va_S A H0 H1 locs1 → W p l e R s m args below meth c H1 locs1 cells slots Q (F0 m (pc + 3) ls rest)) : W p l e R s m args below meth c H locs cells slots Q (F0 m pc ls st0) := by
  subst hq
  refine ca_v (fun av hPc hDc hKc => ?_) hK hP hD hS hA hp hp1 k
  exact va_runV (As := As) (rest := rest) hs (hM H.size) cw ⟨blindW, va_recv hKc hPc hc he, fun U hU hW => ⟨rfl, by rw [hU], by rw [hU]; exact hPc, va_K.moved hW.alike hKc, hDc⟩⟩ rfl hn hsize hst (lv_room hW) hdg hcs
theorem cS_i {post : Int32 → S → Prop} (hM : CtI l y wy rm D G As wc post w1) (hst : st0 = As.reverse ++ rest) (hs : CallFix p m c cc nL s args Ts own) (cw : CallB R s args own index y bytes maxL ret wy rm 0 0 n ∧ (Cond.static y).before args s = true) (hn : As.length = n) (hsize : ls.size = nL) (hW : (rest.map fun v => v.category).sum ≤ 8) (hcs : cells ≤ R.cells ∧ slots ≤ R.slots) (hdg : decode cc pc = .ok (.invokestatic index, 3))
    (hK : va_K D vwCl (TY G) s) (hP : va_P D vwCl (fl Bs) H) (hD : va_D A (fl Bs)) (hS : va_S A H0 H locs) (hA : ∀ q : Nat, H0.size ≤ q → A q) (hp : Bs.Perm (wc ++ wr)) (hp1 : ∀ u, (w1 u ++ wr).Perm (Bs1 u))
    (k : ∀ (r : Int32) (u : S) (H1 : Heap) (locs1 : List Loc), post r u → va_P D vwCl (fl (Bs1 u)) H1 → va_D A (fl (Bs1 u)) → va_S A H0 H1 locs1 → W p l e R s m args below meth c H1 locs1 cells slots Q (F0 m (pc + 3) ls (.int r :: rest))) : W p l e R s m args below meth c H locs cells slots Q (F0 m pc ls st0) := by
  refine ca_i (fun av hPc hDc hKc => ?_) hK hP hD hS hA hp hp1 k
  exact va_runS (As := As) (rest := rest) hs (hM H.size) cw ⟨blindW, fun U hU hW => ⟨rfl, by rw [hU], by rw [hU]; exact hPc, va_K.moved hW.alike hKc, hDc⟩⟩ rfl hn hsize hst (lv_room hW) hdg hcs
theorem cS_v {post : S → Prop} (hM : CtV l y wy rm D G As wc post w1) (hst : st0 = As.reverse ++ rest) (hs : CallFix p m c cc nL s args Ts own) (cw : CallB R s args own index y bytes maxL ret wy rm 0 0 n ∧ (Cond.static y).before args s = true) (hn : As.length = n) (hsize : ls.size = nL) (hW : (rest.map fun v => v.category).sum ≤ 8) (hcs : cells ≤ R.cells ∧ slots ≤ R.slots) (hdg : decode cc pc = .ok (.invokestatic index, 3))
    (hK : va_K D vwCl (TY G) s) (hP : va_P D vwCl (fl Bs) H) (hD : va_D A (fl Bs)) (hS : va_S A H0 H locs) (hA : ∀ q : Nat, H0.size ≤ q → A q) (hp : Bs.Perm (wc ++ wr)) (hp1 : ∀ u, (w1 u ++ wr).Perm (Bs1 u))
    (k : ∀ (u : S) (H1 : Heap) (locs1 : List Loc), post u → va_P D vwCl (fl (Bs1 u)) H1 → va_D A (fl (Bs1 u)) → va_S A H0 H1 locs1 → W p l e R s m args below meth c H1 locs1 cells slots Q (F0 m (pc + 3) ls rest)) : W p l e R s m args below meth c H locs cells slots Q (F0 m pc ls st0) := by
  refine ca_v (fun av hPc hDc hKc => ?_) hK hP hD hS hA hp hp1 k
  exact va_runS (As := As) (rest := rest) hs (hM H.size) cw ⟨blindW, fun U hU hW => ⟨rfl, by rw [hU], by rw [hU]; exact hPc, va_K.moved hW.alike hKc, hDc⟩⟩ rfl hn hsize hst (lv_room hW) hdg hcs
end BASE
