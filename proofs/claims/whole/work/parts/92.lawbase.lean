/-! the law: what its rows need, and what stays true of the common state -/
section LAWROWS
variable {p : Program} {l : Launch} {e : Env} {R : Room} {s : State} {m : MethodId} {args : Array Value} {below : List Frame} {meth : Method} {c : Code} {H : Heap} {locs : List Loc} {cells slots : Nat} {Q : State → Prop}
variable {cc : ByteArray} {pc : Nat} {ls : Array Slot} {rest : List Value} {A : Nat → Prop} {H0 : Heap} {b L : Nat} {xs : Nat → Int32}
theorem w_sld (hx : p.tables.exec = Jvm.exec) (hb : c.code = cc) (hX : va_X b L xs s H0) (hbl : b < H0.size) (hbA : ¬ A b) (hS : va_S A H0 H locs) (hL : L ≤ 3072) {z v : Int} (hz : 0 ≤ z ∧ z < (L : Int)) (hv : (xs z.toNat).toInt = v) (hdg : decode cc pc = .ok (.iaload, 1))
    (k : W p l e R s m args below meth c H locs cells slots Q (F0 m (pc + 1) ls (.int (iI v) :: rest))) : W p l e R s m args below meth c H locs cells slots Q (F0 m pc ls (.int (iI z) :: .ref b :: rest)) :=
  va_sld hx hb hX hbl hbA hS (iI_in hz (by omega)) hdg (by
    have e9 : xs z.toNat = iI v := by rw [← hv]; exact iI_of _
    rw [iI_clamp (by omega), e9]
    exact k)
theorem w_slen (hx : p.tables.exec = Jvm.exec) (hb : c.code = cc) (hX : va_X b L xs s H0) (hbl : b < H0.size) (hbA : ¬ A b) (hS : va_S A H0 H locs) (hdg : decode cc pc = .ok (.arraylength, 1))
    (k : W p l e R s m args below meth c H locs cells slots Q (F0 m (pc + 1) ls (.int (iI (L : Int)) :: rest))) : W p l e R s m args below meth c H locs cells slots Q (F0 m pc ls (.ref b :: rest)) :=
  va_slen hx hb hX hbl hbA hS hdg (by
    have e9 : Int32.ofNat L = iI (L : Int) := iI_nI L
    rw [e9]
    exact k)
theorem w_ieq (hx : p.tables.exec = Jvm.exec) (hb : c.code = cc) {v : Int32} {off : Int} {tgt : Nat} (hdg : decode cc pc = .ok (.if_icmp .eq off, 3)) (ht : (pc : Int) + off = (tgt : Int))
    (k : W p l e R s m args below meth c H locs cells slots Q (F0 m tgt ls rest)) : W p l e R s m args below meth c H locs cells slots Q (F0 m pc ls (.int v :: .int v :: rest)) :=
  lv_icmp_eq hx hb hdg ht (fun _ => k) (fun h => absurd rfl h)
theorem w_and31 (hx : p.tables.exec = Jvm.exec) (hb : c.code = cc) {x : Int32} (hdg : decode cc pc = .ok (.iand, 1))
    (k : ∀ z : Int, 0 ≤ z ∧ z < 32 → W p l e R s m args below meth c H locs cells slots Q (F0 m (pc + 1) ls (.int (iI z) :: rest))) : W p l e R s m args below meth c H locs cells slots Q (F0 m pc ls (.int (iI 31) :: .int x :: rest)) := by
  refine lv_iand hx hb hdg ?_
  have e9 : x &&& iI 31 = iI ((x.toBitVec.toNat % 32 : Nat) : Int) := by
    rw [← iI_nI]
    apply Int32.toBitVec_inj.mp
    apply BitVec.eq_of_toNat_eq
    rw [Int32.toBitVec_and, BitVec.toNat_and]
    show x.toBitVec.toNat &&& 31 = (BitVec.ofNat 32 (x.toBitVec.toNat % 32)).toNat
    rw [BitVec.toNat_ofNat, show (31 : Nat) = 2 ^ 5 - 1 from rfl, Nat.and_two_pow_sub_one_eq_mod]
    omega
  rw [e9]
  exact k _ (by omega)
end LAWROWS
/-! what stays -/
theorem th_ite {c : Prop} [Decidable c] {f g : Nat → Int} (hf : c → ∀ k, f k = 0 ∨ f k = 1) (hg : ∀ k, g k = 0 ∨ g k = 1) : ∀ k, (if c then f else g) k = 0 ∨ (if c then f else g) k = 1 := by
  split
  · exact hf (by assumption)
  · exact hg
theorem R_ite {c : Prop} [Decidable c] {lo hi : Int} {f g : Nat → Nat → Int} (hf : c → ∀ i j, lo ≤ f i j ∧ f i j ≤ hi) (hg : ∀ i j, lo ≤ g i j ∧ g i j ≤ hi) : ∀ i j, lo ≤ (if c then f else g) i j ∧ (if c then f else g) i j ≤ hi := by
  split
  · exact hf (by assumption)
  · exact hg
theorem a_ite {c : Prop} [Decidable c] {lo hi : Int} {f g : Nat → Int} (hf : c → ∀ k, lo ≤ f k ∧ f k ≤ hi) (hg : ∀ k, lo ≤ g k ∧ g k ≤ hi) : ∀ k, lo ≤ (if c then f else g) k ∧ (if c then f else g) k ≤ hi := by
  split
  · exact hf (by assumption)
  · exact hg
def PQ (pp ps : Nat → Int) : Prop := ∀ k, -1 ≤ pp k ∧ pp k ≤ 99 ∧ -1 ≤ ps k ∧ ps k ≤ 99 ∧ (0 ≤ pp k → 0 ≤ ps k)
theorem pq_ite {c : Prop} [Decidable c] {f g f' g' : Nat → Int} (hf : c → PQ f f') (hg : PQ g g') : PQ (if c then f else g) (if c then f' else g') := by
  split
  · exact hf (by assumption)
  · exact hg
theorem th_up {f : Nat → Int} {v : Int} (hf : ∀ k, f k = 0 ∨ f k = 1) (hv : v = 0 ∨ v = 1) (c : Nat) : ∀ k, va_up f c v k = 0 ∨ va_up f c v k = 1 := by
  intro k
  by_cases h : k = c
  · rw [h, va_up_self]; exact hv
  · rw [va_up_ne _ _ h]; exact hf k
theorem th_fil {f : Nat → Int} (hf : ∀ k, f k = 0 ∨ f k = 1) (n : Nat) : ∀ k, filI 0 n f k = 0 ∨ filI 0 n f k = 1 := by
  intro k
  unfold filI
  split
  · exact Or.inl rfl
  · exact hf k
theorem a_up {lo hi : Int} {f : Nat → Int} {v : Int} (hf : ∀ k, lo ≤ f k ∧ f k ≤ hi) (hv : lo ≤ v ∧ v ≤ hi) (c : Nat) : ∀ k, lo ≤ va_up f c v k ∧ va_up f c v k ≤ hi := by
  intro k
  by_cases h : k = c
  · rw [h, va_up_self]; exact hv
  · rw [va_up_ne _ _ h]; exact hf k
theorem R_up {lo hi : Int} {R : Nat → Nat → Int} {f : Nat → Int} (hR : ∀ i j, lo ≤ R i j ∧ R i j ≤ hi) (hf : ∀ k, lo ≤ f k ∧ f k ≤ hi) (c : Nat) : ∀ i j, lo ≤ va_up R c f i j ∧ va_up R c f i j ≤ hi := by
  intro i j
  by_cases h : i = c
  · rw [h, va_up_self]; exact hf j
  · rw [va_up_ne _ _ h]; exact hR i j
theorem a_fil {lo hi v : Int} {f : Nat → Int} (hf : ∀ k, lo ≤ f k ∧ f k ≤ hi) (hv : lo ≤ v ∧ v ≤ hi) (n : Nat) : ∀ k, lo ≤ filI v n f k ∧ filI v n f k ≤ hi := by
  intro k
  unfold filI
  split
  · exact hv
  · exact hf k
theorem a_cpy {lo hi : Int} {f g : Nat → Int} (hf : ∀ k, lo ≤ f k ∧ f k ≤ hi) (hg : ∀ k, lo ≤ g k ∧ g k ≤ hi) (a b n : Nat) : ∀ k, lo ≤ va_cpy f g a b n k ∧ va_cpy f g a b n k ≤ hi := by
  intro k
  unfold va_cpy
  split
  · exact hf _
  · exact hg k
theorem a_rot {lo hi : Int} {f : Nat → Int} (hf : ∀ k, lo ≤ f k ∧ f k ≤ hi) (st n : Int) : ∀ k, lo ≤ rot st n f k ∧ rot st n f k ≤ hi := by
  intro k
  unfold rot rotP
  split
  · exact hf _
  · exact hf k
theorem pq_fil {pp ps : Nat → Int} (h : PQ pp ps) (n : Nat) : PQ (filI (-1) n pp) (filI (-1) n ps) := by
  intro k
  have hk := h k
  unfold filI
  by_cases q : k < n
  · rw [if_pos q, if_pos q]; omega
  · rw [if_neg q, if_neg q]; exact hk
theorem pq_up {pp ps : Nat → Int} (h : PQ pp ps) {v : Int} (hv : v = 99 ∨ v = -1) (c : Nat) : PQ (va_up pp c v) (va_up ps c v) := by
  intro k
  have hk := h k
  by_cases q : k = c
  · rw [q, va_up_self, va_up_self]; omega
  · rw [va_up_ne _ _ q, va_up_ne _ _ q]; exact hk
theorem pq_mk {pp ps : Nat → Int} (h : PQ pp ps) (S : Nat → Bool) {k t : Int} (hk : 0 ≤ k ∧ k ≤ 99) (ht : 0 ≤ t ∧ t ≤ 99) : PQ (mkP pp S k) (mkT pp ps S t) := by
  intro c
  have hc := h c
  unfold mkP mkT
  by_cases q : pp c < 0 ∧ S c = true
  · rw [if_pos q, if_pos q]; omega
  · rw [if_neg q, if_neg q]; exact hc
def ZOK (z : ZZ) : Prop := (0 ≤ z.2.1 ∧ z.2.1 ≤ 1000) ∧ 0 ≤ z.2.2.2.1 ∧ PQ z.2.2.2.2.1 z.2.2.2.2.2
theorem z1_ok {ld : Int} {S : Nat → Bool} {k t : Int} {z : ZZ} (hld : 1 ≤ ld ∧ ld ≤ 20) (hk : 0 ≤ k ∧ k ≤ 99) (ht : 0 ≤ t ∧ t ≤ 99) (h : ZOK z) : ZOK (z1 ld S k t z) := by
  obtain ⟨h1, h2, h3⟩ := h
  have hw := wr_rng h2
  unfold z1
  by_cases q : z.1 = false
  · rw [if_pos q]; exact ⟨h1, h2, h3⟩
  · rw [if_neg q]
    by_cases q2 : z.2.1 < ld + wr z.2.2.2.1
    · rw [if_pos q2]; exact ⟨h1, h2, h3⟩
    · rw [if_neg q2]
      refine ⟨?_, ?_, pq_mk h3 S hk ht⟩
      · show 0 ≤ z.2.1 - (ld + wr z.2.2.2.1) ∧ z.2.1 - (ld + wr z.2.2.2.1) ≤ 1000
        omega
      · show 0 ≤ z.2.2.2.1 + 1
        omega
theorem zin_ok {ld : Int} {S : Int → Int → Nat → Bool} {k : Int} (hld : 1 ≤ ld ∧ ld ≤ 20) (hk : 0 ≤ k ∧ k ≤ 99) (n : Nat) (hn : n ≤ 99) {z : ZZ} (h : ZOK z) : ZOK (zin ld S k n z) := by
  induction n with
  | zero => exact h
  | succ n ih => exact z1_ok hld hk (by omega) (ih (by omega))
theorem zout_ok {ld : Int} {S : Int → Int → Nat → Bool} {st lo : Int} (hld : 1 ≤ ld ∧ ld ≤ 20) (hst : 2 ≤ st ∧ st ≤ 16) (n : Nat) (hn : n ≤ 99) {z : ZZ} (h : ZOK z) : ZOK (zout ld S st lo n z) := by
  induction n with
  | zero => exact h
  | succ n ih =>
    show ZOK (if (n : Int) = lo then zout ld S st lo n z else zin ld S (n : Int) st.toNat (zout ld S st lo n z))
    split
    · exact ih (by omega)
    · exact zin_ok hld (by omega) _ (by omega) (ih (by omega))
theorem zss_le {ld : Int} {S : Int → Int → Nat → Bool} {st lo pg : Int} (hst : 2 ≤ st ∧ st ≤ 16) (hpg : 0 ≤ pg ∧ pg ≤ 12) (z : ZZ) : z.2.2.2.1 ≤ (zout ld S st lo pg.toNat z).2.2.2.1 ∧ (zout ld S st lo pg.toNat z).2.2.2.1 ≤ z.2.2.2.1 + 192 := by
  have h := zout_ss ld S st lo pg.toNat z
  have h2 : pg.toNat * st.toNat ≤ 12 * 16 := Nat.mul_le_mul (by omega) (by omega)
  have h3 : ((pg.toNat : Int) * (st.toNat : Int)) = ((pg.toNat * st.toNat : Nat) : Int) := (Int.natCast_mul _ _).symm
  rw [h3] at h
  generalize pg.toNat * st.toNat = w at h h2
  omega
theorem ss_ite {c : Prop} [Decidable c] {a b lo hi : Int} (ha : c → lo ≤ a ∧ a ≤ hi) (hb : lo ≤ b ∧ b ≤ hi) : lo ≤ (if c then a else b) ∧ (if c then a else b) ≤ hi := by
  split
  · exact ha (by assumption)
  · exact hb
theorem ht_ite {c : Prop} [Decidable c] {f g : Nat → Nat → Int} {t u : Nat → Int} (hf : c → ∀ i j, 0 ≤ f i j ∧ f i j ≤ t i) (hg : ∀ i j, 0 ≤ g i j ∧ g i j ≤ u i) : ∀ i j, 0 ≤ (if c then f else g) i j ∧ (if c then f else g) i j ≤ (if c then t else u) i := by
  split
  · exact hf (by assumption)
  · exact hg
theorem ht_up {hb : Nat → Nat → Int} {tt f : Nat → Int} {st : Int} (hst : 2 ≤ st ∧ st ≤ 16) (h : ∀ i j, 0 ≤ hb i j ∧ hb i j ≤ tt i) (k : Nat) : ∀ i j, 0 ≤ va_up hb k (lrn (hb k) (ti f st.toNat) 10) i j ∧ va_up hb k (lrn (hb k) (ti f st.toNat) 10) i j ≤ va_up tt k (tt k + st) i := by
  intro i j
  by_cases q : i = k
  · rw [q, va_up_self, va_up_self]
    have h1 := h k j
    have h2 := ctB_rng (fun t => decide (f t = (j : Int))) st.toNat
    unfold lrn
    split
    · show 0 ≤ hb k j + ctB (fun t => decide (f t = (j : Int))) st.toNat ∧ _
      unfold ti
      omega
    · omega
  · rw [va_up_ne _ _ q, va_up_ne _ _ q]
    exact h i j
theorem prts_1 (pg : Int) : prts pg 1 = 12 := rfl
theorem prts_2 (pg : Int) : prts pg 2 = pg := rfl
theorem prts_3 (pg : Int) : prts pg 3 = 2 := rfl
