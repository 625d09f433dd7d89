/-! Arrays.fill, in any world -/
theorem set_at {α : Type} {L : List α} {i : Nat} {x y : α} (h : L[i]? = some x) : (L.set i y)[i]? = some y := by
  rw [List.getElem?_set_self (List.getElem?_eq_some_iff.mp h).1]
theorem set_id {α : Type} {L : List α} {i : Nat} {x : α} (h : L[i]? = some x) : L.set i x = L := by
  obtain ⟨h1, h2⟩ := List.getElem?_eq_some_iff.mp h
  rw [← h2]
  exact List.set_getElem_self h1
abbrev rmJ7_fill_53178 : Room := { frames := 0, cells := 0, slots := 0, locals := 0 }
abbrev rmJ7_fill_d0a16 : Room := { frames := 0, cells := 0, slots := 0, locals := 0 }
set_option maxHeartbeats 4000000 in
theorem kJ7_fill_53178 (l : Launch) (D : va_G) (G : Nat → ClassId) (Bs Bs1 : List va_W) (i j : Nat) (B B1 : va_W) (a n : Nat) (f : Nat → Int) (v : Int) (hn : n < 2147483648) (hi : Bs[i]? = some B) (hj : B[j]? = some (a, .inl (G 0, n, .inl (ai f)))) (hB : B.set j (a, .inl (G 0, n, .inl (ai (filI v n f)))) = B1) (hBs : Bs.set i B1 = Bs1) : CtV l yJ7_fill_53178 wsJ7_fill_53178 rmJ7_fill_53178 D G [.ref a, .int (iI v)] Bs (fun _ : Unit => True) (fun _ => Bs1) := by
  refine CtV.of (cc := cJ7_fill_53178) (maxL := 4) (by decide) rfl (Nat.le_of_ble_eq_true rfl) ?_
  intro p0 e0 s0 m0 args bel met cd A0 ls Q0 hx hb hml hown hts hK hP hD hA hl fin
  have hl : lv_has ls 4 [(0, .ref a), (1, .int (iI v))] := hl
  have hS : va_S A0 s0.heap s0.heap [] := va_S.rf
  have L5 : ∀ (fu : Nat) (k : Int) (H : Heap) (locs : List Loc) (ls : Array Slot), ((n : Int) - k < (fu : Int)) → (0 ≤ k ∧ k ≤ n) → va_P D vwCl (fl (Bs.set i (B.set j (a, .inl (G 0, n, .inl (ai (filI v k.toNat f))))))) H → va_D A0 (fl (Bs.set i (B.set j (a, .inl (G 0, n, .inl (ai (filI v k.toNat f))))))) → va_S A0 s0.heap H locs → lv_has ls 4 [(0, .ref a), (1, .int (iI v)), (2, .int (iI k)), (3, .int (iI (n : Int)))] → W p0 l e0 rmJ7_fill_53178 s0 m0 args bel met cd H locs 0 0 Q0 (F0 m0 5 ls []) := by
    intro fu
    induction fu with
    | zero =>
      intro k H locs ls hfu hk
      exact absurd hfu (by omega)
    | succ fu ih =>
      intro k H locs ls hfu hk hP hD hS hl
      refine lv_iload_n hx hb dJ7_fill_53178_5 rfl (lv_at hl 2 rfl) ?_
      refine lv_iload_n hx hb dJ7_fill_53178_6 rfl (lv_at hl 3 rfl) ?_
      refine wi_icmp_ge (tgt := 20) hx hb (by omega) (by omega) dJ7_fill_53178_7 (by decide) (fun c7 => ?_) (fun c7 => ?_)
      · have e : k.toNat = n := by omega
        rw [e, hB, hBs] at hP hD
        exact fin () H locs ls 20 dJ7_fill_53178_20 hP hD hS trivial
      · refine lv_aload_n hx hb dJ7_fill_53178_10 rfl (lv_at hl 0 rfl) ?_
        refine lv_iload_n hx hb dJ7_fill_53178_11 rfl (lv_at hl 2 rfl) ?_
        refine lv_iload_n hx hb dJ7_fill_53178_12 rfl (lv_at hl 1 rfl) ?_
        refine g_iast hx hb hK hP hD hS (set_at hi) (set_at hj) (by omega) hn (B1 := B.set j (a, .inl (G 0, n, .inl (ai (filI v (k + 1).toNat f))))) (by rw [List.set_set, filI_s, show (k + 1).toNat = k.toNat + 1 by omega]) (Bs1 := Bs.set i (B.set j (a, .inl (G 0, n, .inl (ai (filI v (k + 1).toNat f)))))) (by rw [List.set_set]) dJ7_fill_53178_13 (fun H locs hP hD hS => ?_)
        refine lv_iinc (v := iI (k + 1)) (lv' := [(2, .int (iI (k + 1))), (0, .ref a), (1, .int (iI v)), (3, .int (iI (n : Int)))]) hx hb dJ7_fill_53178_14 hl (k := 2) rfl (iI_add _ _) (by decide) rfl (fun ls hl => ?_)
        refine lv_goto (tgt := 5) hx hb dJ7_fill_53178_17 (by decide) ?_
        exact ih (k + 1) _ _ _ (by omega) (by omega) hP hD hS (lv_sub hl [1, 2, 0, 3] rfl)
  refine wi_iconst hx hb dJ7_fill_53178_0 ?_
  refine lv_istore_n (lv' := [(2, .int (iI 0)), (0, .ref a), (1, .int (iI v))]) hx hb dJ7_fill_53178_1 rfl hl (by decide) rfl (fun ls hl => ?_)
  refine lv_aload_n hx hb dJ7_fill_53178_2 rfl (lv_at hl 1 rfl) ?_
  refine g_alen hx hb hK hP 0 hi hj rfl (n := n) rfl dJ7_fill_53178_3 ?_
  refine lv_istore_n (lv' := [(3, .int (iI (n : Int))), (2, .int (iI 0)), (0, .ref a), (1, .int (iI v))]) hx hb dJ7_fill_53178_4 rfl hl (by decide) rfl (fun ls hl => ?_)
  have e : Bs.set i (B.set j (a, .inl (G 0, n, .inl (ai (filI v (0 : Int).toNat f))))) = Bs := by
    rw [show (0 : Int).toNat = 0 from rfl, filI_0, set_id hj, set_id hi]
  rw [← e] at hP hD
  exact L5 (n + 1) 0 _ _ _ (by omega) (by omega) hP hD hS (lv_sub hl [2, 3, 1, 0] rfl)
set_option maxHeartbeats 4000000 in
theorem kJ7_fill_d0a16 (l : Launch) (D : va_G) (G : Nat → ClassId) (Bs Bs1 : List va_W) (i j : Nat) (B B1 : va_W) (a n : Nat) (f : Nat → Int64) (v : Int64) (hn : n < 2147483648) (hi : Bs[i]? = some B) (hj : B[j]? = some (a, .inl (G 2, n, .inr (.inl f)))) (hB : B.set j (a, .inl (G 2, n, .inr (.inl (filL v n f)))) = B1) (hBs : Bs.set i B1 = Bs1) : CtV l yJ7_fill_d0a16 wsJ7_fill_d0a16 rmJ7_fill_d0a16 D G [.ref a, .long v] Bs (fun _ : Unit => True) (fun _ => Bs1) := by
  refine CtV.of (cc := cJ7_fill_d0a16) (maxL := 5) (by decide) rfl (Nat.le_of_ble_eq_true rfl) ?_
  intro p0 e0 s0 m0 args bel met cd A0 ls Q0 hx hb hml hown hts hK hP hD hA hl fin
  have hl : lv_has ls 5 [(0, .ref a), (1, .long v)] := hl
  have hS : va_S A0 s0.heap s0.heap [] := va_S.rf
  have L6 : ∀ (fu : Nat) (k : Int) (H : Heap) (locs : List Loc) (ls : Array Slot), ((n : Int) - k < (fu : Int)) → (0 ≤ k ∧ k ≤ n) → va_P D vwCl (fl (Bs.set i (B.set j (a, .inl (G 2, n, .inr (.inl (filL v k.toNat f))))))) H → va_D A0 (fl (Bs.set i (B.set j (a, .inl (G 2, n, .inr (.inl (filL v k.toNat f))))))) → va_S A0 s0.heap H locs → lv_has ls 5 [(0, .ref a), (1, .long v), (3, .int (iI k)), (4, .int (iI (n : Int)))] → W p0 l e0 rmJ7_fill_d0a16 s0 m0 args bel met cd H locs 0 0 Q0 (F0 m0 6 ls []) := by
    intro fu
    induction fu with
    | zero =>
      intro k H locs ls hfu hk
      exact absurd hfu (by omega)
    | succ fu ih =>
      intro k H locs ls hfu hk hP hD hS hl
      refine lv_iload_n hx hb dJ7_fill_d0a16_6 rfl (lv_at hl 2 rfl) ?_
      refine lv_iload hx hb dJ7_fill_d0a16_7 (lv_at hl 3 rfl) ?_
      refine wi_icmp_ge (tgt := 22) hx hb (by omega) (by omega) dJ7_fill_d0a16_9 (by decide) (fun c7 => ?_) (fun c7 => ?_)
      · have e : k.toNat = n := by omega
        rw [e, hB, hBs] at hP hD
        exact fin () H locs ls 22 dJ7_fill_d0a16_22 hP hD hS trivial
      · refine lv_aload_n hx hb dJ7_fill_d0a16_12 rfl (lv_at hl 0 rfl) ?_
        refine lv_iload_n hx hb dJ7_fill_d0a16_13 rfl (lv_at hl 2 rfl) ?_
        refine lv_lload_n hx hb dJ7_fill_d0a16_14 rfl (lv_at hl 1 rfl) ?_
        refine g_last hx hb hK hP hD hS (set_at hi) (set_at hj) (by omega) hn (B1 := B.set j (a, .inl (G 2, n, .inr (.inl (filL v (k + 1).toNat f))))) (by rw [List.set_set, filL_s, show (k + 1).toNat = k.toNat + 1 by omega]) (Bs1 := Bs.set i (B.set j (a, .inl (G 2, n, .inr (.inl (filL v (k + 1).toNat f)))))) (by rw [List.set_set]) dJ7_fill_d0a16_15 (fun H locs hP hD hS => ?_)
        refine lv_iinc (v := iI (k + 1)) (lv' := [(3, .int (iI (k + 1))), (0, .ref a), (1, .long v), (4, .int (iI (n : Int)))]) hx hb dJ7_fill_d0a16_16 hl (k := 2) rfl (iI_add _ _) (by decide) rfl (fun ls hl => ?_)
        refine lv_goto (tgt := 6) hx hb dJ7_fill_d0a16_19 (by decide) ?_
        exact ih (k + 1) _ _ _ (by omega) (by omega) hP hD hS (lv_sub hl [1, 2, 0, 3] rfl)
  refine wi_iconst hx hb dJ7_fill_d0a16_0 ?_
  refine lv_istore_n (lv' := [(3, .int (iI 0)), (0, .ref a), (1, .long v)]) hx hb dJ7_fill_d0a16_1 rfl hl (by decide) rfl (fun ls hl => ?_)
  refine lv_aload_n hx hb dJ7_fill_d0a16_2 rfl (lv_at hl 1 rfl) ?_
  refine g_alen hx hb hK hP 2 hi hj rfl (n := n) rfl dJ7_fill_d0a16_3 ?_
  refine lv_istore (lv' := [(4, .int (iI (n : Int))), (3, .int (iI 0)), (0, .ref a), (1, .long v)]) hx hb dJ7_fill_d0a16_4 hl (by decide) rfl (fun ls hl => ?_)
  have e : Bs.set i (B.set j (a, .inl (G 2, n, .inr (.inl (filL v (0 : Int).toNat f))))) = Bs := by
    rw [show (0 : Int).toNat = 0 from rfl, filL_0, set_id hj, set_id hi]
  rw [← e] at hP hD
  exact L6 (n + 1) 0 _ _ _ (by omega) (by omega) hP hD hS (lv_sub hl [2, 3, 1, 0] rfl)
section COPY
variable {p : Program} {l : Launch} {e : Env} {R : Room} {s : State} {m : MethodId} {args : Array Value} {below : List Frame} {meth : Method} {c : Code} {H : Heap} {locs : List Loc} {cells slots : Nat} {Q : State → Prop}
variable {cc : ByteArray} {pc : Nat} {ls : Array Slot} {rest : List Value} {D : va_G} {A : Nat → Prop} {a : Nat} {Bs Bs1 : List va_W} {H0 : Heap} {G : Nat → ClassId} {i j i0 j0 : Nat} {B B1 B0 : va_W}
theorem g_copy (hx : p.tables.exec = Jvm.exec) (hb : c.code = cc) (hml : c.maxLocals = ls.size) {own : String} {index : Nat} {Ts : List Cond} (hts : ∀ w ∈ Ts, w.before args s = true) (hown : s.vm.findClass own = some m.cls) (h1 : Cond.methodLink own index arraycopyName ∈ Ts) (h2 : Cond.native arraycopyName ∈ Ts) (h3 : Cond.static arraycopyName ∈ Ts) (h4 : Cond.initialized "java/lang/System" ∈ Ts) (hK : va_K D vwCl (TY G) s) (hP : va_P D vwCl (fl Bs) H) (hD : va_D A (fl Bs)) (hS : va_S A H0 H locs) (hi0 : Bs[i0]? = some B0) {a0 n0 n1 : Nat} {f g : Nat → Int} (hj0 : B0[j0]? = some (a0, .inl (G 0, n0, .inl (ai f)))) (hi : Bs[i]? = some B) (hj : B[j]? = some (a, .inl (G 0, n1, .inl (ai g)))) {sp dp n : Int} (k1 : 0 ≤ sp ∧ sp < 2147483648) (k2 : 0 ≤ dp ∧ dp < 2147483648) (k3 : 0 ≤ n ∧ n < 2147483648) (k4 : sp + n ≤ n0) (k5 : dp + n ≤ n1) (hB : B.set j (a, .inl (G 0, n1, .inl (ai (va_cpy f g sp.toNat dp.toNat n.toNat)))) = B1) (hBs : Bs.set i B1 = Bs1) (hr : 1 ≤ R.frames ∧ (rest.map fun v => v.category).sum + (nativeFrameWords "java/lang/System" "arraycopy" 5 + 11) ≤ R.locals) (hdg : decode cc pc = .ok (.invokestatic index, 3))
    (k : ∀ (H1 : Heap) (locs1 : List Loc), va_P D vwCl (fl Bs1) H1 → va_D A (fl Bs1) → va_S A H0 H1 locs1 → W p l e R s m args below meth c H1 locs1 cells slots Q (F0 m (pc + 3) ls rest)) : W p l e R s m args below meth c H locs cells slots Q (F0 m pc ls (.int (iI n) :: .int (iI dp) :: .ref a :: .int (iI sp) :: .ref a0 :: rest)) := by
  obtain ⟨q0, e0, -⟩ := fl_at hi0 hj0
  obtain ⟨q1, e1, s1⟩ := fl_at hi hj
  refine va_copyi hx hb hml hown (hts _ h1) (hts _ h2) (hts _ h3) (hts _ h4) hK hP hD hS q0 q1 0 0 e0 e1 rfl rfl rfl (iI_nlt0 k1) (iI_nlt0 k2) (iI_nlt0 k3) (by rw [iI_clamp k1, iI_clamp k3]; omega) (by rw [iI_clamp k2, iI_clamp k3]; omega) (fun _ _ => rfl) hr.1 hr.2 hdg (fun H1 locs1 p1 d1 t1 => ?_)
  rw [iI_clamp k1, iI_clamp k2, iI_clamp k3, ai_cpy, s1, hB, hBs] at p1 d1
  exact k H1 locs1 p1 d1 t1
end COPY
