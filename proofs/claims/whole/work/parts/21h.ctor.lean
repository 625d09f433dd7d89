/-! constructors: contracts that make cells -/
def NX (U : State) : Prop := va_AOA .int U ∧ va_Nw (.methodLinkNest RX8 9 yX0_init RX8) U ∧ va_Nw (.methodLinkNest RX8 18 yX5_init RX8) U ∧ va_Nw (.methodLinkNest RX8 25 yX7_init RX8) U ∧ va_Nw (.methodLinkNest RX8 41 yX1_init RX8) U ∧ va_Nw (.methodLinkNest RX8 66 yX4_init RX8) U ∧ va_Nw (.methodLinkNest RX2 11 yX1_init RX8) U
theorem NX.warm {s U : State} (hW : s.WarmedH U.vm) (h : NX s) : NX U := ⟨Jvm.Stand.arrayOver_alikeB hW.alike h.1, va_Nw.warmM hW h.2.1, va_Nw.warmM hW h.2.2.1, va_Nw.warmM hW h.2.2.2.1, va_Nw.warmM hW h.2.2.2.2.1, va_Nw.warmM hW h.2.2.2.2.2.1, va_Nw.warmM hW h.2.2.2.2.2.2⟩
theorem NX.same {u U : State} (h : u.vm = U.vm) (hZ : NX u) : NX U := ⟨Jvm.Stand.arrayOver_alikeB (by rw [h]; exact Vm.Alike.refl _) hZ.1, va_Nw.same rfl h hZ.2.1, va_Nw.same rfl h hZ.2.2.1, va_Nw.same rfl h hZ.2.2.2.1, va_Nw.same rfl h hZ.2.2.2.2.1, va_Nw.same rfl h hZ.2.2.2.2.2.1, va_Nw.same rfl h hZ.2.2.2.2.2.2⟩
abbrev PreN (D : va_G) (G : Nat → ClassId) (wc : List va_W) (sz : Nat) (U : State) : Prop := U.heap.size = sz ∧ va_P D vwCl (fl wc) U.heap ∧ va_K D vwCl (TY G) U ∧ va_D (fun _ => True) (fl wc) ∧ NX U
def CtN (l : Launch) (y : MethodName) (wy : List Cond) (rm : Room) (D : va_G) (G : Nat → ClassId) (av : List Value) (wc : List va_W) {S : Type} (post : S → Prop) (w1 : S → List va_W) (mc ms : Nat) : Prop :=
  ∀ sz : Nat, Met l y wy rm (va_Pc av (PreN D G wc sz)) (va_Qv post (fun u t => PostW D G (va_A (fl wc) sz) (w1 u) t) (va_A (fl wc) sz)) mc ms (va_A (fl wc) sz)
abbrev BodyN (l : Launch) (y : MethodName) (wy : List Cond) (rm : Room) (D : va_G) (G : Nat → ClassId) (av : List Value) (wc : List va_W) {S : Type} (post : S → Prop) (w1 : S → List va_W) (mc ms : Nat) (cc : ByteArray) (maxL : Nat) : Prop :=
  ∀ (p : Program) (e : Env) (s : State) (m : MethodId) (args : Array Value) (below : List Frame) (meth : Method) (c : Code) (A : Nat → Prop) (ls : Array Slot) (Q : State → Prop), p.tables.exec = Jvm.exec → c.code = cc → c.maxLocals = maxL → s.vm.findClass y.cls = some m.cls → (∀ w ∈ wy, w.before args s = true) → va_K D vwCl (TY G) s → va_P D vwCl (fl wc) s.heap → va_D A (fl wc) → (∀ q : Nat, s.heap.size ≤ q → A q) → NX s → meth.name = y.name → lv_has ls maxL (lv_args 0 av) →
    (∀ (u : S) (H : Heap) (locs : List Loc) (ls : Array Slot) (pc : Nat), decode cc pc = .ok (.return_, 1) → va_P D vwCl (fl (w1 u)) H → va_D A (fl (w1 u)) → va_S A s.heap H locs → post u → W p l e rm s m args below meth c H locs mc ms Q (F0 m pc ls [])) →
    W p l e rm s m args below meth c s.heap [] 0 0 Q (F0 m 0 ls [])
section CTORS
variable {p : Program} {l : Launch} {e : Env} {R : Room} {s : State} {m : MethodId} {args : Array Value} {below : List Frame} {meth : Method} {c : Code} {H : Heap} {locs : List Loc} {cells slots : Nat} {Q : State → Prop}
variable {cc : ByteArray} {pc : Nat} {ls : Array Slot} {rest : List Value} {D : va_G} {A : Nat → Prop} {a : Nat} {Bs Bs1 : List va_W} {H0 : Heap} {G : Nat → ClassId} {i j : Nat} {B B1 : va_W}
theorem fin_n {S : Type} {post : S → Prop} {w1 : S → List va_W} (u : S) (hx : p.tables.exec = Jvm.exec) (hb : c.code = cc) (hr : meth.sig.returnType = none) (hlocks : meth.locks = false) (hK : va_K D vwCl (TY G) s) (hP : va_P D vwCl (fl (w1 u)) H) (hD : va_D A (fl (w1 u))) (hS : va_S A s.heap H locs) (hdg : decode cc pc = .ok (.return_, 1)) (hw : post u) : W p l e R s m args below meth c H locs cells slots (MQ below (va_Qv post (fun u t => PostW D G A (w1 u) t) A) args s cells slots A) (F0 m pc ls []) :=
  W.vret hx hb hr (fun t ht hW => ⟨⟨u, rfl, hw, by rw [ht]; exact hP, va_K.moved hW.alike hK, hD⟩, hS.F ht⟩) hS.2.2 hdg hlocks
theorem CtN.of {y : MethodName} {wy ws' : List Cond} {rm : Room} {av : List Value} {wc : List va_W} {S : Type} {post : S → Prop} {w1 : S → List va_W} {mc ms maxL : Nat}
    (hy : plainName y.cls = true) (hw : wy = Cond.code y cc maxL none :: ws') (hn : (lg_sl av).length ≤ maxL) (body : BodyN l y wy rm D G av wc post w1 mc ms cc maxL) : CtN l y wy rm D G av wc post w1 mc ms := by
  intro sz
  refine Met.ofW (cc := cc) (maxL := maxL) (ret := none) hy hw ?_
  intro p e s m args below meth c s₁ B hml hv
  obtain ⟨rfl, hsz, hP, hK, hD0, hN⟩ := hv
  have hl := lv_entry av (n := maxL) hn
  subst hsz
  rw [lg_entry_eq]
  exact body p e s m _ below meth c _ _ _ B.exec B.bytes hml (findClass_of_methodNamed B.named) (atoms_spec (ws := wy) B.pre) hK hP (hD0.self (sz := s.heap.size)) (fun q h => Or.inr h) hN ((name_of_methodNamed B.named B.method).1) hl (fun u H locs ls pc hd p1 d1 s1 hw => fin_n u B.exec B.bytes B.returns B.notSynchronized hK p1 d1 s1 hd hw)
theorem blindN {av : List Value} {wc : List va_W} {sz : Nat} : FrameBlind (va_Pc av (PreN D G wc sz)) := fun a U g mk q => by
  obtain ⟨q0, q1, qP, qK, qD, qN⟩ := q
  exact ⟨q0, q1, qP, va_K.moved (u := U) (U := U.calling g mk a) (Vm.Alike.refl U.vm) qK, qD, NX.same rfl qN⟩
variable {y : MethodName} {bytes : ByteArray} {maxL nL n index mc ms : Nat} {ret : Option FieldType} {wy Ts : List Cond} {rm : Room} {own C host : String} {b : Addr} {As st0 : List Value} {S : Type} {wc wr : List va_W} {w1 Bs2 : S → List va_W}
theorem ca_n {post : S → Prop} (hr : ∀ av : Array Value, va_P D vwCl (fl wc) H → va_D (fun _ => True) (fl wc) → va_K D vwCl (TY G) s → va_Run p l e R s m args below meth c H locs cells slots mc ms (F0 m pc ls st0) rest (va_Qv post (fun u t => PostW D G (va_A (fl wc) H.size) (w1 u) t) (va_A (fl wc) H.size) av) (va_A (fl wc) H.size))
    (hK : va_K D vwCl (TY G) s) (hP : va_P D vwCl (fl Bs) H) (hD : va_D A (fl Bs)) (hS : va_S A H0 H locs) (hA : ∀ q : Nat, H0.size ≤ q → A q) (hp : Bs.Perm (wc ++ wr)) (hp1 : ∀ u, (w1 u ++ wr).Perm (Bs2 u))
    (k : ∀ (u : S) (H1 : Heap) (locs1 : List Loc), post u → va_P D vwCl (fl (Bs2 u)) H1 → va_D A (fl (Bs2 u)) → va_S A H0 H1 locs1 → W p l e R s m args below meth c H1 locs1 (cells + mc) (slots + ms) Q (F0 m (pc + 3) ls rest)) : W p l e R s m args below meth c H locs cells slots Q (F0 m pc ls st0) := by
  have hP' := P_perm (fl_perm hp) hP
  have hD' := D_perm (fl_perm hp) hD
  rw [fl_app] at hP' hD'
  have hPc : va_P D vwCl (fl wc) H := fun i q hi => by
    obtain ⟨j, hj⟩ := List.getElem?_of_mem (List.mem_append_left (fl wr) (List.mem_of_getElem? hi))
    exact hP' j q hj
  have hDc : va_D (fun _ => True) (fl wc) := D_pw.mpr ⟨(List.pairwise_append.mp (D_pw.mp hD').1).1, fun _ _ => trivial⟩
  have hF := freeW hD' hS hA
  refine va_callv (hr #[] hPc hDc hK) hS (fun q _ h => hF q h) hF (fun u t H1 locs1 ht hvm hw hB hz1 hk1 hS1 => ?_)
  obtain ⟨hP1, -, hD1⟩ := hB
  rw [ht] at hP1
  obtain ⟨p2, d2⟩ := jn hP' hD' hk1 hF hP1 hD1
  rw [← fl_app] at p2 d2
  exact k u H1 locs1 hw (P_perm (fl_perm (hp1 u)) p2) (D_perm (fl_perm (hp1 u)) d2) hS1
theorem cI_n {post : S → Prop} (hM : CtN l y wy rm D G (.ref b :: As) wc post w1 mc ms) (hst : st0 = As.reverse ++ .ref b :: rest) (hs : CallFix p m c cc nL s args Ts own) (cw : CallB R s args own index y bytes maxL none wy rm mc ms n ∧ y.name = "<init>" ∧ (Cond.instanceMethod y).before args s = true) (hn : As.length = n) (hsize : ls.size = nL) (hW : (rest.map fun v => v.category).sum ≤ 8) (hcs : cells + mc ≤ R.cells ∧ slots + ms ≤ R.slots) (hdg : decode cc pc = .ok (.invokespecial index, 3)) (hN : NX s)
    (hK : va_K D vwCl (TY G) s) (hP : va_P D vwCl (fl Bs) H) (hD : va_D A (fl Bs)) (hS : va_S A H0 H locs) (hA : ∀ q : Nat, H0.size ≤ q → A q) (hp : Bs.Perm (wc ++ wr)) (hp1 : ∀ u, (w1 u ++ wr).Perm (Bs2 u))
    (k : ∀ (u : S) (H1 : Heap) (locs1 : List Loc), post u → va_P D vwCl (fl (Bs2 u)) H1 → va_D A (fl (Bs2 u)) → va_S A H0 H1 locs1 → W p l e R s m args below meth c H1 locs1 (cells + mc) (slots + ms) Q (F0 m (pc + 3) ls rest)) : W p l e R s m args below meth c H locs cells slots Q (F0 m pc ls st0) := by
  refine ca_n (fun av hPc hDc hKc => ?_) hK hP hD hS hA hp hp1 k
  exact va_runI (As := As) (rest := rest) hs (hM H.size) cw ⟨blindN, fun U hU hW => ⟨rfl, by rw [hU], by rw [hU]; exact hPc, va_K.moved hW.alike hKc, hDc, NX.warm hW hN⟩⟩ rfl hn hsize hst (lv_room hW) hdg hcs
theorem cI_nn {post : S → Prop} (hM : CtN l y wy rm D G (.ref b :: As) wc post w1 mc ms) (hst : st0 = As.reverse ++ .ref b :: rest) (hs : CallFix p m c cc nL s args Ts own) (cw : va_CN R s args own index y host bytes maxL none wy rm mc ms n ∧ y.name = "<init>" ∧ (Cond.instanceMethod y).before args s = true) (hn : As.length = n) (hsize : ls.size = nL) (hW : (rest.map fun v => v.category).sum ≤ 8) (hcs : cells + mc ≤ R.cells ∧ slots + ms ≤ R.slots) (hdg : decode cc pc = .ok (.invokespecial index, 3)) (hN : NX s)
    (hK : va_K D vwCl (TY G) s) (hP : va_P D vwCl (fl Bs) H) (hD : va_D A (fl Bs)) (hS : va_S A H0 H locs) (hA : ∀ q : Nat, H0.size ≤ q → A q) (hp : Bs.Perm (wc ++ wr)) (hp1 : ∀ u, (w1 u ++ wr).Perm (Bs2 u))
    (k : ∀ (u : S) (H1 : Heap) (locs1 : List Loc), post u → va_P D vwCl (fl (Bs2 u)) H1 → va_D A (fl (Bs2 u)) → va_S A H0 H1 locs1 → W p l e R s m args below meth c H1 locs1 (cells + mc) (slots + ms) Q (F0 m (pc + 3) ls rest)) : W p l e R s m args below meth c H locs cells slots Q (F0 m pc ls st0) := by
  refine ca_n (fun av hPc hDc hKc => ?_) hK hP hD hS hA hp hp1 k
  exact va_runIN (As := As) (rest := rest) hs (hM H.size) cw ⟨blindN, fun U hU hW => ⟨rfl, by rw [hU], by rw [hU]; exact hPc, va_K.moved hW.alike hKc, hDc, NX.warm hW hN⟩⟩ rfl hn hsize hst (lv_room hW) hdg hcs
theorem g_putF (hx : p.tables.exec = Jvm.exec) (hb : c.code = cc) {T : u_T} {N ci : Nat} (hts : ∀ w ∈ Ts, w.before args s = true) (hin : ∀ w ∈ u_ws C T N, w ∈ Ts) (ty0 : Nat → FieldType) (hty : ∀ k, k < N → parseFieldDescriptor (T k).2.2.1 = some (ty0 k)) (hnm : ∀ a, a < N → ∀ b, b < N → a ≠ b → (T a).2.1 ≠ (T b).2.1) (hown : s.vm.findClass own = some m.cls) (hK : va_K D vwCl (TY G) s) (hP : va_P D vwCl (fl Bs) H) (hD : va_D A (fl Bs)) (hS : va_S A H0 H locs) (hi : Bs[i]? = some B) {fs : List Value} (hj : B[j]? = some (a, .inr (ci, fs))) (hc : vwCl[ci]? = some (C, T, N)) (k : Nat) (hk : k < N) (hlink : Cond.fieldLink own index (T k).1 (T k).2.1 (T k).2.2.1 ∈ Ts) (hfin : (T k).2.2.2 = true) (hin2 : meth.name = "<init>") (hdecl : (T k).1 = own) {v : Value} (hn : narrow (ty0 k) v = v) (hfit : fits (ty0 k) v = true) (hl : k < fs.length) (hB : B.set j (a, .inr (ci, fs.set k v)) = B1) (hBs : Bs.set i B1 = Bs1) (hdg : decode cc pc = .ok (.putfield index, 3))
    (kk : ∀ (H1 : Heap) (locs1 : List Loc), va_P D vwCl (fl Bs1) H1 → va_D A (fl Bs1) → va_S A H0 H1 locs1 → W p l e R s m args below meth c H1 locs1 cells slots Q (F0 m (pc + 3) ls rest)) : W p l e R s m args below meth c H locs cells slots Q (F0 m pc ls (v :: .ref a :: rest)) := by
  obtain ⟨k1, e1, s1⟩ := fl_at hi hj
  refine va_putF hx hb hts hin ty0 hty hnm hown hK hP hD hS k1 e1 hc k hk (hts _ hlink) (fun _ h => h) hfin hin2 hdecl (hty k hk) hn hfit hl hdg (fun H1 locs1 p1 d1 s9 => ?_)
  rw [s1, hB, hBs] at p1 d1
  exact kk H1 locs1 p1 d1 s9
theorem g_new (hx : p.tables.exec = Jvm.exec) (hb : c.code = cc) {T : u_T} {N ci : Nat} (hts : ∀ w ∈ Ts, w.before args s = true) (hin : ∀ w ∈ u_ws C T N, w ∈ Ts) (ty0 : Nat → FieldType) (hty : ∀ k, k < N → parseFieldDescriptor (T k).2.2.1 = some (ty0 k)) (hown : s.vm.findClass own = some m.cls) (hcl : Cond.classLink own index C ∈ Ts) (hinst : Cond.instantiable C N ∈ Ts) (hini : Cond.initialized C ∈ Ts)
    (hK : va_K D vwCl (TY G) s) (hP : va_P D vwCl (fl Bs) H) (hD : va_D A (fl Bs)) (hS : va_S A H0 H locs) (hA : ∀ q : Nat, H0.size ≤ q → A q) (hc : vwCl[ci]? = some (C, T, N)) {fs : List Value} (hfs : ∀ j, j < N → defaultValue (ty0 j) = vp_V fs j) (hcells : cells + 1 ≤ R.cells) (hslots : slots + N ≤ R.slots) (hdg : decode cc pc = .ok (.new index, 3))
    (kk : ∀ (q : Nat) (H1 : Heap), va_P D vwCl (fl (Bs ++ [[(q, .inr (ci, fs))]])) H1 → va_D A (fl (Bs ++ [[(q, .inr (ci, fs))]])) → va_S A H0 H1 locs → W p l e R s m args below meth c H1 locs (cells + 1) (slots + N) Q (F0 m (pc + 3) ls (.ref q :: rest))) : W p l e R s m args below meth c H locs cells slots Q (F0 m pc ls rest) :=
  va_new hx hb hts hin ty0 hty hown (hts _ hcl) (hts _ hinst) (hts _ hini) hK hP hD hS hA hc hfs hcells hslots hdg (fun q H1 p1 d1 s1 => kk q H1 (by rw [fl_app]; exact p1) (by rw [fl_app]; exact d1) s1)
theorem arrV_ext {cI : ClassId} {N : Nat} {f g : Nat → Value} (h : ∀ k, k < N → f k = g k) : arrV cI N f = arrV cI N g := by
  have e : (fun j : Fin N => f j.val) = fun j : Fin N => g j.val := funext fun j => h j.val j.isLt
  unfold arrV
  rw [e]
theorem cA_eq {cA cB : ClassId} {t : FieldType} (h1 : s.vm.findClass ("[" ++ t.toString) = some cA) (h2 : s.vm.findClass ("[" ++ t.toString) = some cB) : cA = cB := Option.some.inj (h1.symm.trans h2)
theorem g_newI (hx : p.tables.exec = Jvm.exec) (hb : c.code = cc) (hts : ∀ w ∈ Ts, w.before args s = true) (harr : Cond.arrayClass .int ∈ Ts) (hK : va_K D vwCl (TY G) s) (hP : va_P D vwCl (fl Bs) H) (hD : va_D A (fl Bs)) (hS : va_S A H0 H locs) (hA : ∀ q : Nat, H0.size ≤ q → A q) (f : Nat → Int) (N : Nat) {z : Int} (hz : z = (N : Int)) (hN : N < 10000) (hf : ∀ k, k < N → f k = 0) (hcells : cells + 1 ≤ R.cells) (hslots : slots + N ≤ R.slots) (hdg : decode cc pc = .ok (.newarray .int, 2))
    (kk : ∀ (q : Nat) (H1 : Heap), va_P D vwCl (fl (Bs ++ [[(q, .inl (G 0, N, .inl (ai f)))]])) H1 → va_D A (fl (Bs ++ [[(q, .inl (G 0, N, .inl (ai f)))]])) → va_S A H0 H1 locs → W p l e R s m args below meth c H1 locs (cells + 1) (slots + N) Q (F0 m (pc + 2) ls (.ref q :: rest))) : W p l e R s m args below meth c H locs cells slots Q (F0 m pc ls (.int (iI z) :: rest)) := by
  refine va_newa (atype := .int) (ty := .int) (a0 := (N, .inl (ai f))) (N' := N) hx hb (hts _ harr) rfl hK hP hD hS hA (fun cA => ?_) (iI_nlt0 (by omega)) (by rw [iI_clamp (by omega)]; omega) (by show N * 4 ≤ 536870912; omega) hcells hslots hdg (fun q cA H1 hK1 p1 d1 s1 => ?_)
  · rw [vp_cell_i]
    exact arrV_ext (fun k hk => by show Value.int (iI (f k)) = .int 0; rw [hf k hk]; rfl)
  · have e : cA = G 0 := cA_eq (t := .int) (hK1.2 4 (cA, .int) rfl).2 (hK.2 0 (G 0, .int) rfl).2
    subst e
    exact kk q H1 (by rw [fl_app]; exact p1) (by rw [fl_app]; exact d1) s1
theorem g_newZ (hx : p.tables.exec = Jvm.exec) (hb : c.code = cc) (hts : ∀ w ∈ Ts, w.before args s = true) (harr : Cond.arrayClass .boolean ∈ Ts) (hK : va_K D vwCl (TY G) s) (hP : va_P D vwCl (fl Bs) H) (hD : va_D A (fl Bs)) (hS : va_S A H0 H locs) (hA : ∀ q : Nat, H0.size ≤ q → A q) (f : Nat → Int) (N : Nat) {z : Int} (hz : z = (N : Int)) (hN : N < 10000) (hf : ∀ k, k < N → f k = 0) (hcells : cells + 1 ≤ R.cells) (hslots : slots + N ≤ R.slots) (hdg : decode cc pc = .ok (.newarray .boolean, 2))
    (kk : ∀ (q : Nat) (H1 : Heap), va_P D vwCl (fl (Bs ++ [[(q, .inl (G 1, N, .inl (ai f)))]])) H1 → va_D A (fl (Bs ++ [[(q, .inl (G 1, N, .inl (ai f)))]])) → va_S A H0 H1 locs → W p l e R s m args below meth c H1 locs (cells + 1) (slots + N) Q (F0 m (pc + 2) ls (.ref q :: rest))) : W p l e R s m args below meth c H locs cells slots Q (F0 m pc ls (.int (iI z) :: rest)) := by
  refine va_newa (atype := .boolean) (ty := .boolean) (a0 := (N, .inl (ai f))) (N' := N) hx hb (hts _ harr) rfl hK hP hD hS hA (fun cA => ?_) (iI_nlt0 (by omega)) (by rw [iI_clamp (by omega)]; omega) (by show N * 1 ≤ 536870912; omega) hcells hslots hdg (fun q cA H1 hK1 p1 d1 s1 => ?_)
  · rw [vp_cell_i]
    exact arrV_ext (fun k hk => by show Value.int (iI (f k)) = .int 0; rw [hf k hk]; rfl)
  · have e : cA = G 1 := cA_eq (t := .boolean) (hK1.2 4 (cA, .boolean) rfl).2 (hK.2 1 (G 1, .boolean) rfl).2
    subst e
    exact kk q H1 (by rw [fl_app]; exact p1) (by rw [fl_app]; exact d1) s1
theorem g_newL (hx : p.tables.exec = Jvm.exec) (hb : c.code = cc) (hts : ∀ w ∈ Ts, w.before args s = true) (harr : Cond.arrayClass .long ∈ Ts) (hK : va_K D vwCl (TY G) s) (hP : va_P D vwCl (fl Bs) H) (hD : va_D A (fl Bs)) (hS : va_S A H0 H locs) (hA : ∀ q : Nat, H0.size ≤ q → A q) (N : Nat) {z : Int} (hz : z = (N : Int)) (hN : N < 10000) (hcells : cells + 1 ≤ R.cells) (hslots : slots + N ≤ R.slots) (hdg : decode cc pc = .ok (.newarray .long, 2))
    (kk : ∀ (q : Nat) (H1 : Heap), va_P D vwCl (fl (Bs ++ [[(q, .inl (G 2, N, .inr (.inl (fun _ => 0))))]])) H1 → va_D A (fl (Bs ++ [[(q, .inl (G 2, N, .inr (.inl (fun _ => 0))))]])) → va_S A H0 H1 locs → W p l e R s m args below meth c H1 locs (cells + 1) (slots + N) Q (F0 m (pc + 2) ls (.ref q :: rest))) : W p l e R s m args below meth c H locs cells slots Q (F0 m pc ls (.int (iI z) :: rest)) := by
  refine va_newa (atype := .long) (ty := .long) (a0 := (N, .inr (.inl (fun _ => 0)))) (N' := N) hx hb (hts _ harr) rfl hK hP hD hS hA (fun cA => ?_) (iI_nlt0 (by omega)) (by rw [iI_clamp (by omega)]; omega) (by show N * 8 ≤ 536870912; omega) hcells hslots hdg (fun q cA H1 hK1 p1 d1 s1 => ?_)
  · rw [vp_cell_l]
    rfl
  · have e : cA = G 2 := cA_eq (t := .long) (hK1.2 4 (cA, .long) rfl).2 (hK.2 2 (G 2, .long) rfl).2
    subst e
    exact kk q H1 (by rw [fl_app]; exact p1) (by rw [fl_app]; exact d1) s1
def mnB (G : Nat → ClassId) (q : Nat) (r : Nat → Nat) (N K : Nat) : va_W := (q, .inl (G 3, N, .inr (.inr (.inr (.inr (fun i => if i < N then some (r i) else none)))))) :: (List.range N).map (fun i => (r i, .inl (G 0, K, .inl (ai (fun _ => 0)))))
theorem mn_eq {q N K : Nat} {r u : Nat → Nat} (h : ∀ i, u (4 + i) = r i) : mnB G q r N K = (q, outW (G 3) u N) :: rowsW (G 0) u N K (fun _ _ => 0) := by
  unfold mnB outW rowsW
  rw [show (fun i => if i < N then some (u (4 + i)) else none) = (fun i => if i < N then some (r i) else none) from funext fun i => by rw [h i], show (fun i => ((u (4 + i), .inl (G 0, K, .inl (ai (fun _ => 0)))) : Nat × va_E)) = (fun i => (r i, .inl (G 0, K, .inl (ai (fun _ => 0))))) from funext fun i => by rw [h i]]
theorem g_mna (hx : p.tables.exec = Jvm.exec) (hb : c.code = cc) (hts : ∀ w ∈ Ts, w.before args s = true) (hown : s.vm.findClass own = some m.cls) (hclink : Cond.classLink own index "[[I" ∈ Ts) (harr : Cond.arrayClass .int ∈ Ts) (hN : NX s) (hK : va_K D vwCl (TY G) s) (hP : va_P D vwCl (fl Bs) H) (hD : va_D A (fl Bs)) (hS : va_S A H0 H locs) (hA : ∀ q : Nat, H0.size ≤ q → A q) (N K : Nat) {z w : Int} (hz : z = (N : Int)) (hw : w = (K : Int)) (hb1 : N < 10000) (hb2 : K < 10000) (hcells : cells + (1 + N) ≤ R.cells) (hslots : slots + (N + N * K) ≤ R.slots) (hdg : decode cc pc = .ok (.multianewarray index 2, 4))
    (kk : ∀ (q : Nat) (r : Nat → Nat) (H1 : Heap), va_P D vwCl (fl (Bs ++ [mnB G q r N K])) H1 → va_D A (fl (Bs ++ [mnB G q r N K])) → va_S A H0 H1 locs → W p l e R s m args below meth c H1 locs (cells + 1 + N) (slots + N + N * K) Q (F0 m (pc + 4) ls (.ref q :: rest))) : W p l e R s m args below meth c H locs cells slots Q (F0 m pc ls (.int (iI w) :: .int (iI z) :: rest)) := by
  have hcy : s.vm.findClass (FieldType.array .int).toString = some (G 0) := (hK.2 0 (G 0, .int) rfl).2
  refine va_mna (X := fl Bs) (L := []) (f := fun _ => .inr (0, [])) (ty := .int) (cy := G 0) (N' := N) (K' := K) (z := (K, .inl (ai (fun _ => 0)))) hx hb hown (hts _ hclink) hN.1 (hts _ harr) hcy hK (by show va_P D vwCl (fl Bs ++ []) H; rw [List.append_nil]; exact hP) (by show va_D A (fl Bs ++ []); rw [List.append_nil]; exact hD) hS hA (iI_nlt0 (by omega)) (iI_nlt0 (by omega)) (by rw [iI_clamp (by omega)]; omega) (by rw [iI_clamp (by omega)]; omega) (by omega) (by show K * 4 ≤ 536870912; omega) (by omega) rfl rfl hcells hslots (fun c => ?_) hdg (fun q r cA H1 hinj hno hK1 p1 d1 s1 => ?_)
  · rw [vp_cell_i]
    exact arrV_new c K (.int 0)
  · have e : cA = G 3 := cA_eq (t := .array .int) (hK1.2 4 (cA, .array .int) rfl).2 (hK.2 3 (G 3, .array .int) rfl).2
    subst e
    have e2 : va_pl ([] ++ (List.range N).map r) (vr_up (fun _ => .inr (0, [])) ((List.range N).map r) (.inl (G 0, (K, .inl (ai (fun _ => 0)))))) = (List.range N).map (fun i => (r i, .inl (G 0, K, .inl (ai (fun _ => 0))))) := by
      unfold va_pl
      rw [List.nil_append, List.map_map]
      apply List.map_congr_left
      intro i hi
      show (r i, vr_up _ _ _ (r i)) = _
      rw [vr_up_in (List.mem_map_of_mem hi)]
    rw [e2, List.append_assoc] at p1 d1
    refine kk q r H1 ?_ ?_ s1
    · rw [fl_app]
      show va_P D vwCl (fl Bs ++ (mnB G q r N K ++ [])) H1
      rw [List.append_nil]
      exact p1
    · rw [fl_app]
      show va_D A (fl Bs ++ (mnB G q r N K ++ []))
      rw [List.append_nil]
      exact d1
end CTORS
theorem asm_II {o x a b : Nat × va_E} {rows : va_W} : (fl [[o], x :: rows, [a], [b]]).Perm (fl [[o, x, a, b] ++ rows]) := by
  have h : (rows ++ [a, b]).Perm ([a, b] ++ rows) := List.perm_append_comm
  have e : fl [[o, x, a, b] ++ rows] = o :: x :: ([a, b] ++ rows) := by
    show ([o, x, a, b] ++ rows) ++ [] = _
    rw [List.append_nil]
    rfl
  rw [e]
  exact List.Perm.cons _ (List.Perm.cons _ h)
def qof (L : List Nat) (r : Nat → Nat) : Nat → Nat := fun k => if k < 4 then L.getD k 0 else r (k - 4)
theorem qof_r (L : List Nat) (r : Nat → Nat) (i : Nat) : qof L r (4 + i) = r i := by
  unfold qof
  rw [if_neg (by omega), Nat.add_sub_cancel_left]
def qfs (L : List Nat) : Nat → Nat := fun k => L.getD k 0
