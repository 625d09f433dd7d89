section
-- ===== PART A: goes FIRST, ahead of the names: the tables' words, and 'selects' of the private methods out of them =====
/-- a private method of a class that the tables say can be made, by its rows of tables_1 -/
def lw_okq (q : MethodName × Nat) : Prop := (q.1.cls ≠ "java/lang/invoke/MethodHandle" ∧ q.1.cls ≠ "java/lang/invoke/VarHandle") ∧ Cond.instantiable q.1.cls q.2 ∈ tables_1 ∧ Cond.privateMethod q.1 ∈ tables_1 ∧ Cond.instanceMethod q.1 ∈ tables_1
theorem lw_p0 : lw_okq (⟨"CamFigures", "refuse", "(I)I"⟩, 11) := ⟨⟨by decide +kernel, by decide +kernel⟩, List.mem_of_getElem? (i := 16) (by decide +kernel), List.mem_of_getElem? (i := 224) (by decide +kernel), List.mem_of_getElem? (i := 225) (by decide +kernel)⟩
theorem lw_p1 : lw_okq (⟨"CamFigures", "refusalOfCam", "(I)I"⟩, 11) := ⟨⟨by decide +kernel, by decide +kernel⟩, List.mem_of_getElem? (i := 16) (by decide +kernel), List.mem_of_getElem? (i := 265) (by decide +kernel), List.mem_of_getElem? (i := 266) (by decide +kernel)⟩
theorem lw_p2 : lw_okq (⟨"CamFigures", "refusalOfStep", "(II)I"⟩, 11) := ⟨⟨by decide +kernel, by decide +kernel⟩, List.mem_of_getElem? (i := 16) (by decide +kernel), List.mem_of_getElem? (i := 277) (by decide +kernel), List.mem_of_getElem? (i := 278) (by decide +kernel)⟩
theorem lw_p3 : lw_okq (⟨"CamFigures$Cams", "further", "(II)I"⟩, 4) := ⟨⟨by decide +kernel, by decide +kernel⟩, List.mem_of_getElem? (i := 24) (by decide +kernel), List.mem_of_getElem? (i := 316) (by decide +kernel), List.mem_of_getElem? (i := 317) (by decide +kernel)⟩
theorem lw_p4 : lw_okq (⟨"CamFigures$Cams", "isTurnedBy", "([I[II)Z"⟩, 4) := ⟨⟨by decide +kernel, by decide +kernel⟩, List.mem_of_getElem? (i := 24) (by decide +kernel), List.mem_of_getElem? (i := 336) (by decide +kernel), List.mem_of_getElem? (i := 337) (by decide +kernel)⟩
theorem lw_p5 : lw_okq (⟨"CamFigures", "perform", "()Z"⟩, 11) := ⟨⟨by decide +kernel, by decide +kernel⟩, List.mem_of_getElem? (i := 16) (by decide +kernel), List.mem_of_getElem? (i := 445) (by decide +kernel), List.mem_of_getElem? (i := 446) (by decide +kernel)⟩
theorem lw_p6 : lw_okq (⟨"CamFigures$Spring", "ticksOfStep", "()I"⟩, 5) := ⟨⟨by decide +kernel, by decide +kernel⟩, List.mem_of_getElem? (i := 72) (by decide +kernel), List.mem_of_getElem? (i := 464) (by decide +kernel), List.mem_of_getElem? (i := 465) (by decide +kernel)⟩
theorem lw_p7 : lw_okq (⟨"CamFigures$Hand", "isDown", "(LCamFigures$Faults;II)Z"⟩, 2) := ⟨⟨by decide +kernel, by decide +kernel⟩, List.mem_of_getElem? (i := 124) (by decide +kernel), List.mem_of_getElem? (i := 472) (by decide +kernel), List.mem_of_getElem? (i := 473) (by decide +kernel)⟩
theorem lw_p8 : lw_okq (⟨"CamFigures$Hand", "heightOf", "(LCamFigures$Faults;II)I"⟩, 2) := ⟨⟨by decide +kernel, by decide +kernel⟩, List.mem_of_getElem? (i := 124) (by decide +kernel), List.mem_of_getElem? (i := 480) (by decide +kernel), List.mem_of_getElem? (i := 481) (by decide +kernel)⟩
theorem lw_p9 : lw_okq (⟨"CamFigures$Hand", "xAt", "(LCamFigures$Faults;II)I"⟩, 2) := ⟨⟨by decide +kernel, by decide +kernel⟩, List.mem_of_getElem? (i := 124) (by decide +kernel), List.mem_of_getElem? (i := 489) (by decide +kernel), List.mem_of_getElem? (i := 490) (by decide +kernel)⟩
theorem lw_p10 : lw_okq (⟨"CamFigures$Hand", "yAt", "(LCamFigures$Faults;II)I"⟩, 2) := ⟨⟨by decide +kernel, by decide +kernel⟩, List.mem_of_getElem? (i := 124) (by decide +kernel), List.mem_of_getElem? (i := 502) (by decide +kernel), List.mem_of_getElem? (i := 503) (by decide +kernel)⟩
theorem lw_p11 : lw_okq (⟨"CamFigures$Paper", "firstCode", "(II)I"⟩, 2) := ⟨⟨by decide +kernel, by decide +kernel⟩, List.mem_of_getElem? (i := 94) (by decide +kernel), List.mem_of_getElem? (i := 551) (by decide +kernel), List.mem_of_getElem? (i := 552) (by decide +kernel)⟩
theorem lw_p12 : lw_okq (⟨"CamFigures$Guess", "fits", "(LCamFigures$Paper;II)Z"⟩, 7) := ⟨⟨by decide +kernel, by decide +kernel⟩, List.mem_of_getElem? (i := 137) (by decide +kernel), List.mem_of_getElem? (i := 615) (by decide +kernel), List.mem_of_getElem? (i := 616) (by decide +kernel)⟩
theorem lw_p13 : lw_okq (⟨"CamFigures", "refusalOfMaker", "(II)I"⟩, 11) := ⟨⟨by decide +kernel, by decide +kernel⟩, List.mem_of_getElem? (i := 16) (by decide +kernel), List.mem_of_getElem? (i := 643) (by decide +kernel), List.mem_of_getElem? (i := 644) (by decide +kernel)⟩
theorem lw_p14 : lw_okq (⟨"CamFigures$Makers", "tally", "(LCamFigures$Cams;I)V"⟩, 3) := ⟨⟨by decide +kernel, by decide +kernel⟩, List.mem_of_getElem? (i := 169) (by decide +kernel), List.mem_of_getElem? (i := 655) (by decide +kernel), List.mem_of_getElem? (i := 656) (by decide +kernel)⟩
theorem lw_p15 : lw_okq (⟨"CamFigures", "refusalsTold", "(I)I"⟩, 11) := ⟨⟨by decide +kernel, by decide +kernel⟩, List.mem_of_getElem? (i := 16) (by decide +kernel), List.mem_of_getElem? (i := 697) (by decide +kernel), List.mem_of_getElem? (i := 698) (by decide +kernel)⟩
def lw_privs_1 : List (MethodName × Nat) := [(⟨"CamFigures", "refuse", "(I)I"⟩, 11), (⟨"CamFigures", "refusalOfCam", "(I)I"⟩, 11), (⟨"CamFigures", "refusalOfStep", "(II)I"⟩, 11), (⟨"CamFigures$Cams", "further", "(II)I"⟩, 4), (⟨"CamFigures$Cams", "isTurnedBy", "([I[II)Z"⟩, 4), (⟨"CamFigures", "perform", "()Z"⟩, 11), (⟨"CamFigures$Spring", "ticksOfStep", "()I"⟩, 5), (⟨"CamFigures$Hand", "isDown", "(LCamFigures$Faults;II)Z"⟩, 2), (⟨"CamFigures$Hand", "heightOf", "(LCamFigures$Faults;II)I"⟩, 2), (⟨"CamFigures$Hand", "xAt", "(LCamFigures$Faults;II)I"⟩, 2), (⟨"CamFigures$Hand", "yAt", "(LCamFigures$Faults;II)I"⟩, 2), (⟨"CamFigures$Paper", "firstCode", "(II)I"⟩, 2), (⟨"CamFigures$Guess", "fits", "(LCamFigures$Paper;II)Z"⟩, 7), (⟨"CamFigures", "refusalOfMaker", "(II)I"⟩, 11), (⟨"CamFigures$Makers", "tally", "(LCamFigures$Cams;I)V"⟩, 3), (⟨"CamFigures", "refusalsTold", "(I)I"⟩, 11)]
theorem lw_r1 : ∀ q ∈ lw_privs_1, lw_okq q := List.forall_mem_cons.mpr ⟨lw_p0, List.forall_mem_cons.mpr ⟨lw_p1, List.forall_mem_cons.mpr ⟨lw_p2, List.forall_mem_cons.mpr ⟨lw_p3, List.forall_mem_cons.mpr ⟨lw_p4, List.forall_mem_cons.mpr ⟨lw_p5, List.forall_mem_cons.mpr ⟨lw_p6, List.forall_mem_cons.mpr ⟨lw_p7, List.forall_mem_cons.mpr ⟨lw_p8, List.forall_mem_cons.mpr ⟨lw_p9, List.forall_mem_cons.mpr ⟨lw_p10, List.forall_mem_cons.mpr ⟨lw_p11, List.forall_mem_cons.mpr ⟨lw_p12, List.forall_mem_cons.mpr ⟨lw_p13, List.forall_mem_cons.mpr ⟨lw_p14, List.forall_mem_cons.mpr ⟨lw_p15, fun _ h => absurd h List.not_mem_nil⟩⟩⟩⟩⟩⟩⟩⟩⟩⟩⟩⟩⟩⟩⟩⟩
theorem lw_p16 : lw_okq (⟨"CamFiguresModel", "clearPaper", "()V"⟩, 32) := ⟨⟨by decide +kernel, by decide +kernel⟩, List.mem_of_getElem? (i := 701) (by decide +kernel), List.mem_of_getElem? (i := 707) (by decide +kernel), List.mem_of_getElem? (i := 708) (by decide +kernel)⟩
theorem lw_p17 : lw_okq (⟨"CamFiguresModel", "refuse", "(I)I"⟩, 32) := ⟨⟨by decide +kernel, by decide +kernel⟩, List.mem_of_getElem? (i := 701) (by decide +kernel), List.mem_of_getElem? (i := 812) (by decide +kernel), List.mem_of_getElem? (i := 813) (by decide +kernel)⟩
theorem lw_p18 : lw_okq (⟨"CamFiguresModel", "lacks", "(I)I"⟩, 32) := ⟨⟨by decide +kernel, by decide +kernel⟩, List.mem_of_getElem? (i := 701) (by decide +kernel), List.mem_of_getElem? (i := 830) (by decide +kernel), List.mem_of_getElem? (i := 831) (by decide +kernel)⟩
theorem lw_p19 : lw_okq (⟨"CamFiguresModel", "findBlanks", "()I"⟩, 32) := ⟨⟨by decide +kernel, by decide +kernel⟩, List.mem_of_getElem? (i := 701) (by decide +kernel), List.mem_of_getElem? (i := 854) (by decide +kernel), List.mem_of_getElem? (i := 855) (by decide +kernel)⟩
theorem lw_p20 : lw_okq (⟨"CamFiguresModel", "turnedBy", "(II)I"⟩, 32) := ⟨⟨by decide +kernel, by decide +kernel⟩, List.mem_of_getElem? (i := 701) (by decide +kernel), List.mem_of_getElem? (i := 858) (by decide +kernel), List.mem_of_getElem? (i := 859) (by decide +kernel)⟩
theorem lw_p21 : lw_okq (⟨"CamFiguresModel", "smoothOf", "(I)I"⟩, 32) := ⟨⟨by decide +kernel, by decide +kernel⟩, List.mem_of_getElem? (i := 701) (by decide +kernel), List.mem_of_getElem? (i := 866) (by decide +kernel), List.mem_of_getElem? (i := 867) (by decide +kernel)⟩
theorem lw_p22 : lw_okq (⟨"CamFiguresModel", "isCutLetter", "(I)Z"⟩, 32) := ⟨⟨by decide +kernel, by decide +kernel⟩, List.mem_of_getElem? (i := 701) (by decide +kernel), List.mem_of_getElem? (i := 878) (by decide +kernel), List.mem_of_getElem? (i := 879) (by decide +kernel)⟩
theorem lw_p23 : lw_okq (⟨"CamFiguresModel", "areCut", "()Z"⟩, 32) := ⟨⟨by decide +kernel, by decide +kernel⟩, List.mem_of_getElem? (i := 701) (by decide +kernel), List.mem_of_getElem? (i := 906) (by decide +kernel), List.mem_of_getElem? (i := 907) (by decide +kernel)⟩
theorem lw_p24 : lw_okq (⟨"CamFiguresModel", "holdFaults", "(III)V"⟩, 32) := ⟨⟨by decide +kernel, by decide +kernel⟩, List.mem_of_getElem? (i := 701) (by decide +kernel), List.mem_of_getElem? (i := 910) (by decide +kernel), List.mem_of_getElem? (i := 911) (by decide +kernel)⟩
theorem lw_p25 : lw_okq (⟨"CamFiguresModel", "newMarks", "()V"⟩, 32) := ⟨⟨by decide +kernel, by decide +kernel⟩, List.mem_of_getElem? (i := 701) (by decide +kernel), List.mem_of_getElem? (i := 914) (by decide +kernel), List.mem_of_getElem? (i := 915) (by decide +kernel)⟩
theorem lw_p26 : lw_okq (⟨"CamFiguresModel", "write", "(II)V"⟩, 32) := ⟨⟨by decide +kernel, by decide +kernel⟩, List.mem_of_getElem? (i := 701) (by decide +kernel), List.mem_of_getElem? (i := 918) (by decide +kernel), List.mem_of_getElem? (i := 919) (by decide +kernel)⟩
theorem lw_p27 : lw_okq (⟨"CamFiguresModel", "isDown", "(II)Z"⟩, 32) := ⟨⟨by decide +kernel, by decide +kernel⟩, List.mem_of_getElem? (i := 701) (by decide +kernel), List.mem_of_getElem? (i := 922) (by decide +kernel), List.mem_of_getElem? (i := 923) (by decide +kernel)⟩
theorem lw_p28 : lw_okq (⟨"CamFiguresModel", "heightOf", "(II)I"⟩, 32) := ⟨⟨by decide +kernel, by decide +kernel⟩, List.mem_of_getElem? (i := 701) (by decide +kernel), List.mem_of_getElem? (i := 926) (by decide +kernel), List.mem_of_getElem? (i := 927) (by decide +kernel)⟩
theorem lw_p29 : lw_okq (⟨"CamFiguresModel", "xAt", "(II)I"⟩, 32) := ⟨⟨by decide +kernel, by decide +kernel⟩, List.mem_of_getElem? (i := 701) (by decide +kernel), List.mem_of_getElem? (i := 930) (by decide +kernel), List.mem_of_getElem? (i := 931) (by decide +kernel)⟩
theorem lw_p30 : lw_okq (⟨"CamFiguresModel", "yAt", "(II)I"⟩, 32) := ⟨⟨by decide +kernel, by decide +kernel⟩, List.mem_of_getElem? (i := 701) (by decide +kernel), List.mem_of_getElem? (i := 934) (by decide +kernel), List.mem_of_getElem? (i := 935) (by decide +kernel)⟩
theorem lw_p31 : lw_okq (⟨"CamFiguresModel", "mark", "(IIII)V"⟩, 32) := ⟨⟨by decide +kernel, by decide +kernel⟩, List.mem_of_getElem? (i := 701) (by decide +kernel), List.mem_of_getElem? (i := 938) (by decide +kernel), List.mem_of_getElem? (i := 939) (by decide +kernel)⟩
def lw_privs_2 : List (MethodName × Nat) := [(⟨"CamFiguresModel", "clearPaper", "()V"⟩, 32), (⟨"CamFiguresModel", "refuse", "(I)I"⟩, 32), (⟨"CamFiguresModel", "lacks", "(I)I"⟩, 32), (⟨"CamFiguresModel", "findBlanks", "()I"⟩, 32), (⟨"CamFiguresModel", "turnedBy", "(II)I"⟩, 32), (⟨"CamFiguresModel", "smoothOf", "(I)I"⟩, 32), (⟨"CamFiguresModel", "isCutLetter", "(I)Z"⟩, 32), (⟨"CamFiguresModel", "areCut", "()Z"⟩, 32), (⟨"CamFiguresModel", "holdFaults", "(III)V"⟩, 32), (⟨"CamFiguresModel", "newMarks", "()V"⟩, 32), (⟨"CamFiguresModel", "write", "(II)V"⟩, 32), (⟨"CamFiguresModel", "isDown", "(II)Z"⟩, 32), (⟨"CamFiguresModel", "heightOf", "(II)I"⟩, 32), (⟨"CamFiguresModel", "xAt", "(II)I"⟩, 32), (⟨"CamFiguresModel", "yAt", "(II)I"⟩, 32), (⟨"CamFiguresModel", "mark", "(IIII)V"⟩, 32)]
theorem lw_r2 : ∀ q ∈ lw_privs_2, lw_okq q := List.forall_mem_cons.mpr ⟨lw_p16, List.forall_mem_cons.mpr ⟨lw_p17, List.forall_mem_cons.mpr ⟨lw_p18, List.forall_mem_cons.mpr ⟨lw_p19, List.forall_mem_cons.mpr ⟨lw_p20, List.forall_mem_cons.mpr ⟨lw_p21, List.forall_mem_cons.mpr ⟨lw_p22, List.forall_mem_cons.mpr ⟨lw_p23, List.forall_mem_cons.mpr ⟨lw_p24, List.forall_mem_cons.mpr ⟨lw_p25, List.forall_mem_cons.mpr ⟨lw_p26, List.forall_mem_cons.mpr ⟨lw_p27, List.forall_mem_cons.mpr ⟨lw_p28, List.forall_mem_cons.mpr ⟨lw_p29, List.forall_mem_cons.mpr ⟨lw_p30, List.forall_mem_cons.mpr ⟨lw_p31, fun _ h => absurd h List.not_mem_nil⟩⟩⟩⟩⟩⟩⟩⟩⟩⟩⟩⟩⟩⟩⟩⟩
theorem lw_p32 : lw_okq (⟨"CamFiguresModel", "faultMany", "()I"⟩, 32) := ⟨⟨by decide +kernel, by decide +kernel⟩, List.mem_of_getElem? (i := 701) (by decide +kernel), List.mem_of_getElem? (i := 972) (by decide +kernel), List.mem_of_getElem? (i := 973) (by decide +kernel)⟩
theorem lw_p33 : lw_okq (⟨"CamFiguresModel", "findKind", "()I"⟩, 32) := ⟨⟨by decide +kernel, by decide +kernel⟩, List.mem_of_getElem? (i := 701) (by decide +kernel), List.mem_of_getElem? (i := 980) (by decide +kernel), List.mem_of_getElem? (i := 981) (by decide +kernel)⟩
theorem lw_p34 : lw_okq (⟨"CamFiguresModel", "isWritten", "(III)Z"⟩, 32) := ⟨⟨by decide +kernel, by decide +kernel⟩, List.mem_of_getElem? (i := 701) (by decide +kernel), List.mem_of_getElem? (i := 984) (by decide +kernel), List.mem_of_getElem? (i := 985) (by decide +kernel)⟩
theorem lw_p35 : lw_okq (⟨"CamFiguresModel", "timesIn", "(II)I"⟩, 32) := ⟨⟨by decide +kernel, by decide +kernel⟩, List.mem_of_getElem? (i := 701) (by decide +kernel), List.mem_of_getElem? (i := 992) (by decide +kernel), List.mem_of_getElem? (i := 993) (by decide +kernel)⟩
theorem lw_p36 : lw_okq (⟨"CamFiguresModel", "likeness", "(II)I"⟩, 32) := ⟨⟨by decide +kernel, by decide +kernel⟩, List.mem_of_getElem? (i := 701) (by decide +kernel), List.mem_of_getElem? (i := 1000) (by decide +kernel), List.mem_of_getElem? (i := 1001) (by decide +kernel)⟩
def lw_privs_3 : List (MethodName × Nat) := [(⟨"CamFiguresModel", "faultMany", "()I"⟩, 32), (⟨"CamFiguresModel", "findKind", "()I"⟩, 32), (⟨"CamFiguresModel", "isWritten", "(III)Z"⟩, 32), (⟨"CamFiguresModel", "timesIn", "(II)I"⟩, 32), (⟨"CamFiguresModel", "likeness", "(II)I"⟩, 32)]
theorem lw_r3 : ∀ q ∈ lw_privs_3, lw_okq q := List.forall_mem_cons.mpr ⟨lw_p32, List.forall_mem_cons.mpr ⟨lw_p33, List.forall_mem_cons.mpr ⟨lw_p34, List.forall_mem_cons.mpr ⟨lw_p35, List.forall_mem_cons.mpr ⟨lw_p36, fun _ h => absurd h List.not_mem_nil⟩⟩⟩⟩⟩
def lw_privs : List (MethodName × Nat) := lw_privs_1 ++ (lw_privs_2 ++ (lw_privs_3))
def lw_tbl : List Cond := k2_sels lw_privs ++ tables_1
theorem lw_privs_ok : ∀ q ∈ lw_privs, lw_okq q := by
  show ∀ q ∈ lw_privs_1 ++ (lw_privs_2 ++ (lw_privs_3)), lw_okq q
  exact List.forall_mem_append.mpr ⟨lw_r1, List.forall_mem_append.mpr ⟨lw_r2, lw_r3⟩⟩
-- ===== end of PART A; then your names; then what follows =====
end
section
/-! ===== BEGIN words of one list among another's, by their places ===== -/
theorem goodIn_r {big : List Cond} (ws : List Cond) (ps : List Nat) (hp : ws = ps.filterMap (fun i => big[i]?)) (h : ws.all goodWord = true) : GoodIn big ws := by
  intro w hw
  have h1 := List.all_eq_true.mp h w hw
  rw [hp] at hw
  obtain ⟨i, -, hi⟩ := List.mem_filterMap.mp hw
  have hm : w ∈ big := by first | exact List.mem_of_getElem? hi | exact List.getElem?_mem hi
  exact ⟨hm, good_of_word h1⟩
theorem goodIn_app {big a b : List Cond} (ha : GoodIn big a) (hb : GoodIn big b) : GoodIn big (a ++ b) := fun w h => (List.mem_append.mp h).elim (ha w) (hb w)
theorem goodIn_ca {big a b : List Cond} {c : Cond} (ha : GoodIn big (c :: a)) (hb : GoodIn big b) : GoodIn big (c :: (a ++ b)) := fun w h => (List.mem_cons.mp h).elim (fun e => ha w (List.mem_cons.mpr (Or.inl e))) (fun h => (List.mem_append.mp h).elim (fun h => ha w (List.mem_cons.mpr (Or.inr h))) (hb w))
theorem goodIn_sub {big ws : List Cond} (hm : ∀ w ∈ ws, w ∈ big) (h : ws.all goodWord = true) : GoodIn big ws := fun w hw => ⟨hm w hw, good_of_word (List.all_eq_true.mp h w hw)⟩
/-! ===== END ===== -/

/-! ===== BEGIN printed: names, fields, word lists, decode rows ===== -/
def RX0 : String := "CamFigures$Cams"
def TX0 : u_T := fun k => match k with
  | 0 => ("CamFigures$Cams", "rows", "[[I", true)
  | 1 => ("CamFigures$Cams", "there", "[Z", true)
  | 2 => ("CamFigures$Cams", "spare", "[I", true)
  | _ => ("CamFigures$Cams", "steps", "I", false)
def tyX0 : Nat → FieldType := fun k => match k with
  | 0 => .array (.array .int)
  | 1 => .array .boolean
  | 2 => .array .int
  | _ => .int
abbrev wsX00 : List Cond := u_ws RX0 TX0 4
theorem nmX0 : ∀ a, a < 4 → ∀ b, b < 4 → a ≠ b → (TX0 a).2.1 ≠ (TX0 b).2.1 := by decide +kernel
theorem tyX0_ok : ∀ k, k < 4 → parseFieldDescriptor (TX0 k).2.2.1 = some (tyX0 k) := by decide +kernel
abbrev cX0_init : ByteArray := prog_2_method_1_code
def yX0_init : MethodName := ⟨RX0, "<init>", "()V"⟩
abbrev cX0_steps : ByteArray := prog_2_method_2_code
def yX0_steps : MethodName := ⟨RX0, "steps", "()I"⟩
abbrev cX0_size : ByteArray := prog_2_method_3_code
def yX0_size : MethodName := ⟨RX0, "size", "()I"⟩
abbrev cX0_isThere : ByteArray := prog_2_method_4_code
def yX0_isThere : MethodName := ⟨RX0, "isThere", "(I)Z"⟩
abbrev cX0_startAnew : ByteArray := prog_2_method_5_code
def yX0_startAnew : MethodName := ⟨RX0, "startAnew", "(I)V"⟩
abbrev cX0_makeFlat : ByteArray := prog_2_method_6_code
def yX0_makeFlat : MethodName := ⟨RX0, "makeFlat", "(I)V"⟩
abbrev cX0_remove : ByteArray := prog_2_method_7_code
def yX0_remove : MethodName := ⟨RX0, "remove", "(I)V"⟩
abbrev cX0_heightAt : ByteArray := prog_2_method_8_code
def yX0_heightAt : MethodName := ⟨RX0, "heightAt", "(II)I"⟩
abbrev cX0_setHeight : ByteArray := prog_2_method_9_code
def yX0_setHeight : MethodName := ⟨RX0, "setHeight", "(III)V"⟩
abbrev cX0_hasSpan : ByteArray := prog_2_method_10_code
def yX0_hasSpan : MethodName := ⟨RX0, "hasSpan", "(II)Z"⟩
abbrev cX0_copySpan : ByteArray := prog_2_method_11_code
def yX0_copySpan : MethodName := ⟨RX0, "copySpan", "(IIIII)V"⟩
abbrev cX0_rotate : ByteArray := prog_2_method_12_code
def yX0_rotate : MethodName := ⟨RX0, "rotate", "(II)V"⟩
abbrev cX0_blanksBelow : ByteArray := prog_2_method_13_code
def yX0_blanksBelow : MethodName := ⟨RX0, "blanksBelow", "(I)I"⟩
abbrev cX0_leastAlike : ByteArray := prog_2_method_14_code
def yX0_leastAlike : MethodName := ⟨RX0, "leastAlike", "(I)I"⟩
abbrev cX0_stepsBetween : ByteArray := prog_2_method_15_code
def yX0_stepsBetween : MethodName := ⟨RX0, "stepsBetween", "(II)I"⟩
abbrev cX0_isTurnedBy : ByteArray := prog_2_method_16_code
def yX0_isTurnedBy : MethodName := ⟨RX0, "isTurnedBy", "([I[II)Z"⟩
abbrev cX0_greatestStep : ByteArray := prog_2_method_17_code
def yX0_greatestStep : MethodName := ⟨RX0, "greatestStep", "(I)I"⟩
abbrev cX0_further : ByteArray := prog_2_method_18_code
def yX0_further : MethodName := ⟨RX0, "further", "(II)I"⟩
def RX1 : String := "CamFigures$Faults"
def TX1 : u_T := fun k => match k with
  | 0 => ("CamFigures$Faults", "worn", "I", false)
  | 1 => ("CamFigures$Faults", "loose", "I", false)
  | _ => ("CamFigures$Faults", "bent", "I", false)
def tyX1 : Nat → FieldType := fun k => match k with
  | 0 => .int
  | 1 => .int
  | _ => .int
abbrev wsX10 : List Cond := u_ws RX1 TX1 3
theorem nmX1 : ∀ a, a < 3 → ∀ b, b < 3 → a ≠ b → (TX1 a).2.1 ≠ (TX1 b).2.1 := by decide +kernel
theorem tyX1_ok : ∀ k, k < 3 → parseFieldDescriptor (TX1 k).2.2.1 = some (tyX1 k) := by decide +kernel
abbrev cX1_init : ByteArray := prog_3_method_1_code
def yX1_init : MethodName := ⟨RX1, "<init>", "()V"⟩
abbrev cX1_clear : ByteArray := prog_3_method_2_code
def yX1_clear : MethodName := ⟨RX1, "clear", "()V"⟩
abbrev cX1_tell : ByteArray := prog_3_method_3_code
def yX1_tell : MethodName := ⟨RX1, "tell", "(II)V"⟩
abbrev cX1_size : ByteArray := prog_3_method_4_code
def yX1_size : MethodName := ⟨RX1, "size", "()I"⟩
abbrev cX1_isLoose : ByteArray := prog_3_method_5_code
def yX1_isLoose : MethodName := ⟨RX1, "isLoose", "(I)Z"⟩
abbrev cX1_wornHeight : ByteArray := prog_3_method_6_code
def yX1_wornHeight : MethodName := ⟨RX1, "wornHeight", "(II)I"⟩
abbrev cX1_bentX : ByteArray := prog_3_method_7_code
def yX1_bentX : MethodName := ⟨RX1, "bentX", "(I)I"⟩
abbrev cX1_bentY : ByteArray := prog_3_method_8_code
def yX1_bentY : MethodName := ⟨RX1, "bentY", "(I)I"⟩
def RX2 : String := "CamFigures$Guess"
def TX2 : u_T := fun k => match k with
  | 0 => ("CamFigures$Guess", "hand", "LCamFigures$Hand;", true)
  | 1 => ("CamFigures$Guess", "cams", "LCamFigures$Cams;", true)
  | 2 => ("CamFigures$Guess", "message", "LCamFigures$Message;", true)
  | 3 => ("CamFigures$Guess", "supposed", "LCamFigures$Faults;", true)
  | 4 => ("CamFigures$Guess", "trial", "LCamFigures$Paper;", true)
  | 5 => ("CamFigures$Guess", "kind", "I", false)
  | _ => ("CamFigures$Guess", "which", "I", false)
def tyX2 : Nat → FieldType := fun k => match k with
  | 0 => .object "CamFigures$Hand"
  | 1 => .object "CamFigures$Cams"
  | 2 => .object "CamFigures$Message"
  | 3 => .object "CamFigures$Faults"
  | 4 => .object "CamFigures$Paper"
  | 5 => .int
  | _ => .int
abbrev wsX20 : List Cond := u_ws RX2 TX2 7
theorem nmX2 : ∀ a, a < 7 → ∀ b, b < 7 → a ≠ b → (TX2 a).2.1 ≠ (TX2 b).2.1 := by decide +kernel
theorem tyX2_ok : ∀ k, k < 7 → parseFieldDescriptor (TX2 k).2.2.1 = some (tyX2 k) := by decide +kernel
abbrev cX2_init : ByteArray := prog_4_method_1_code
def yX2_init : MethodName := ⟨RX2, "<init>", "(LCamFigures$Hand;LCamFigures$Cams;LCamFigures$Message;)V"⟩
abbrev cX2_kind : ByteArray := prog_4_method_2_code
def yX2_kind : MethodName := ⟨RX2, "kind", "()I"⟩
abbrev cX2_which : ByteArray := prog_4_method_3_code
def yX2_which : MethodName := ⟨RX2, "which", "()I"⟩
abbrev cX2_search : ByteArray := prog_4_method_4_code
def yX2_search : MethodName := ⟨RX2, "search", "(LCamFigures$Paper;)V"⟩
abbrev cX2_fits : ByteArray := prog_4_method_5_code
def yX2_fits : MethodName := ⟨RX2, "fits", "(LCamFigures$Paper;II)Z"⟩
def RX3 : String := "CamFigures$Hand"
def TX3 : u_T := fun k => match k with
  | 0 => ("CamFigures$Hand", "cams", "LCamFigures$Cams;", true)
  | _ => ("CamFigures$Hand", "message", "LCamFigures$Message;", true)
def tyX3 : Nat → FieldType := fun k => match k with
  | 0 => .object "CamFigures$Cams"
  | _ => .object "CamFigures$Message"
abbrev wsX30 : List Cond := u_ws RX3 TX3 2
theorem nmX3 : ∀ a, a < 2 → ∀ b, b < 2 → a ≠ b → (TX3 a).2.1 ≠ (TX3 b).2.1 := by decide +kernel
theorem tyX3_ok : ∀ k, k < 2 → parseFieldDescriptor (TX3 k).2.2.1 = some (tyX3 k) := by decide +kernel
abbrev cX3_init : ByteArray := prog_5_method_1_code
def yX3_init : MethodName := ⟨RX3, "<init>", "(LCamFigures$Cams;LCamFigures$Message;)V"⟩
abbrev cX3_writeStep : ByteArray := prog_5_method_2_code
def yX3_writeStep : MethodName := ⟨RX3, "writeStep", "(LCamFigures$Faults;LCamFigures$Paper;II)V"⟩
abbrev cX3_isDown : ByteArray := prog_5_method_3_code
def yX3_isDown : MethodName := ⟨RX3, "isDown", "(LCamFigures$Faults;II)Z"⟩
abbrev cX3_xAt : ByteArray := prog_5_method_4_code
def yX3_xAt : MethodName := ⟨RX3, "xAt", "(LCamFigures$Faults;II)I"⟩
abbrev cX3_yAt : ByteArray := prog_5_method_5_code
def yX3_yAt : MethodName := ⟨RX3, "yAt", "(LCamFigures$Faults;II)I"⟩
abbrev cX3_heightOf : ByteArray := prog_5_method_6_code
def yX3_heightOf : MethodName := ⟨RX3, "heightOf", "(LCamFigures$Faults;II)I"⟩
abbrev cX3_drawLine : ByteArray := prog_5_method_7_code
def yX3_drawLine : MethodName := ⟨RX3, "drawLine", "(LCamFigures$Paper;IIIIII)V"⟩
abbrev cX3_rounded : ByteArray := prog_5_method_8_code
def yX3_rounded : MethodName := ⟨RX3, "rounded", "(II)I"⟩
def RX4 : String := "CamFigures$Makers"
def TX4 : u_T := fun k => match k with
  | 0 => ("CamFigures$Makers", "habits", "[[I", true)
  | 1 => ("CamFigures$Makers", "totals", "[I", true)
  | _ => ("CamFigures$Makers", "times", "[I", true)
def tyX4 : Nat → FieldType := fun k => match k with
  | 0 => .array (.array .int)
  | 1 => .array .int
  | _ => .array .int
abbrev wsX40 : List Cond := u_ws RX4 TX4 3
theorem nmX4 : ∀ a, a < 3 → ∀ b, b < 3 → a ≠ b → (TX4 a).2.1 ≠ (TX4 b).2.1 := by decide +kernel
theorem tyX4_ok : ∀ k, k < 3 → parseFieldDescriptor (TX4 k).2.2.1 = some (tyX4 k) := by decide +kernel
abbrev cX4_init : ByteArray := prog_6_method_1_code
def yX4_init : MethodName := ⟨RX4, "<init>", "()V"⟩
abbrev cX4_total : ByteArray := prog_6_method_2_code
def yX4_total : MethodName := ⟨RX4, "total", "(I)I"⟩
abbrev cX4_learn : ByteArray := prog_6_method_3_code
def yX4_learn : MethodName := ⟨RX4, "learn", "(ILCamFigures$Cams;I)V"⟩
abbrev cX4_likeness : ByteArray := prog_6_method_4_code
def yX4_likeness : MethodName := ⟨RX4, "likeness", "(ILCamFigures$Cams;I)I"⟩
abbrev cX4_nearest : ByteArray := prog_6_method_5_code
def yX4_nearest : MethodName := ⟨RX4, "nearest", "(LCamFigures$Cams;I)I"⟩
abbrev cX4_tally : ByteArray := prog_6_method_6_code
def yX4_tally : MethodName := ⟨RX4, "tally", "(LCamFigures$Cams;I)V"⟩
def RX5 : String := "CamFigures$Message"
def TX5 : u_T := fun k => match k with
  | 0 => ("CamFigures$Message", "across", "[I", true)
  | 1 => ("CamFigures$Message", "up", "[I", true)
  | 2 => ("CamFigures$Message", "lift", "[I", true)
  | 3 => ("CamFigures$Message", "letters", "[I", true)
  | 4 => ("CamFigures$Message", "pegs", "I", false)
  | _ => ("CamFigures$Message", "space", "I", false)
def tyX5 : Nat → FieldType := fun k => match k with
  | 0 => .array .int
  | 1 => .array .int
  | 2 => .array .int
  | 3 => .array .int
  | 4 => .int
  | _ => .int
abbrev wsX50 : List Cond := u_ws RX5 TX5 6
theorem nmX5 : ∀ a, a < 6 → ∀ b, b < 6 → a ≠ b → (TX5 a).2.1 ≠ (TX5 b).2.1 := by decide +kernel
theorem tyX5_ok : ∀ k, k < 6 → parseFieldDescriptor (TX5 k).2.2.1 = some (tyX5 k) := by decide +kernel
abbrev cX5_init : ByteArray := prog_7_method_1_code
def yX5_init : MethodName := ⟨RX5, "<init>", "()V"⟩
abbrev cX5_pegs : ByteArray := prog_7_method_2_code
def yX5_pegs : MethodName := ⟨RX5, "pegs", "()I"⟩
abbrev cX5_space : ByteArray := prog_7_method_3_code
def yX5_space : MethodName := ⟨RX5, "space", "()I"⟩
abbrev cX5_setSpace : ByteArray := prog_7_method_4_code
def yX5_setSpace : MethodName := ⟨RX5, "setSpace", "(I)V"⟩
abbrev cX5_setCams : ByteArray := prog_7_method_5_code
def yX5_setCams : MethodName := ⟨RX5, "setCams", "(IIII)V"⟩
abbrev cX5_addPeg : ByteArray := prog_7_method_6_code
def yX5_addPeg : MethodName := ⟨RX5, "addPeg", "(I)V"⟩
abbrev cX5_dropPeg : ByteArray := prog_7_method_7_code
def yX5_dropPeg : MethodName := ⟨RX5, "dropPeg", "()V"⟩
abbrev cX5_acrossOfPeg : ByteArray := prog_7_method_8_code
def yX5_acrossOfPeg : MethodName := ⟨RX5, "acrossOfPeg", "(I)I"⟩
abbrev cX5_upOfPeg : ByteArray := prog_7_method_9_code
def yX5_upOfPeg : MethodName := ⟨RX5, "upOfPeg", "(I)I"⟩
abbrev cX5_liftOfPeg : ByteArray := prog_7_method_10_code
def yX5_liftOfPeg : MethodName := ⟨RX5, "liftOfPeg", "(I)I"⟩
abbrev cX5_hasAllCams : ByteArray := prog_7_method_11_code
def yX5_hasAllCams : MethodName := ⟨RX5, "hasAllCams", "(ILCamFigures$Cams;)Z"⟩
abbrev cX5_isWritable : ByteArray := prog_7_method_12_code
def yX5_isWritable : MethodName := ⟨RX5, "isWritable", "(LCamFigures$Cams;)Z"⟩
abbrev cX5_partsOfKind : ByteArray := prog_7_method_13_code
def yX5_partsOfKind : MethodName := ⟨RX5, "partsOfKind", "(I)I"⟩
def RX6 : String := "CamFigures$Paper"
def TX6 : u_T := fun k => match k with
  | 0 => ("CamFigures$Paper", "words", "[J", true)
  | _ => ("CamFigures$Paper", "firsts", "[I", true)
def tyX6 : Nat → FieldType := fun k => match k with
  | 0 => .array .long
  | _ => .array .int
abbrev wsX60 : List Cond := u_ws RX6 TX6 2
theorem nmX6 : ∀ a, a < 2 → ∀ b, b < 2 → a ≠ b → (TX6 a).2.1 ≠ (TX6 b).2.1 := by decide +kernel
theorem tyX6_ok : ∀ k, k < 2 → parseFieldDescriptor (TX6 k).2.2.1 = some (tyX6 k) := by decide +kernel
abbrev cX6_init : ByteArray := prog_8_method_1_code
def yX6_init : MethodName := ⟨RX6, "<init>", "(Z)V"⟩
abbrev cX6_hasPlace : ByteArray := prog_8_method_2_code
def yX6_hasPlace : MethodName := ⟨RX6, "hasPlace", "(II)Z"⟩
abbrev cX6_clear : ByteArray := prog_8_method_3_code
def yX6_clear : MethodName := ⟨RX6, "clear", "()V"⟩
abbrev cX6_isMarked : ByteArray := prog_8_method_4_code
def yX6_isMarked : MethodName := ⟨RX6, "isMarked", "(II)Z"⟩
abbrev cX6_put : ByteArray := prog_8_method_5_code
def yX6_put : MethodName := ⟨RX6, "put", "(IIII)V"⟩
abbrev cX6_wipe : ByteArray := prog_8_method_6_code
def yX6_wipe : MethodName := ⟨RX6, "wipe", "(II)V"⟩
abbrev cX6_pegThatMarked : ByteArray := prog_8_method_7_code
def yX6_pegThatMarked : MethodName := ⟨RX6, "pegThatMarked", "(II)I"⟩
abbrev cX6_stepThatMarked : ByteArray := prog_8_method_8_code
def yX6_stepThatMarked : MethodName := ⟨RX6, "stepThatMarked", "(II)I"⟩
abbrev cX6_firstCode : ByteArray := prog_8_method_9_code
def yX6_firstCode : MethodName := ⟨RX6, "firstCode", "(II)I"⟩
abbrev cX6_size : ByteArray := prog_8_method_10_code
def yX6_size : MethodName := ⟨RX6, "size", "()I"⟩
abbrev cX6_isWithin : ByteArray := prog_8_method_11_code
def yX6_isWithin : MethodName := ⟨RX6, "isWithin", "(LCamFigures$Paper;)Z"⟩
def RX7 : String := "CamFigures$Spring"
def TX7 : u_T := fun k => match k with
  | 0 => ("CamFigures$Spring", "power", "I", false)
  | 1 => ("CamFigures$Spring", "load", "I", false)
  | 2 => ("CamFigures$Spring", "strain", "I", false)
  | 3 => ("CamFigures$Spring", "ticks", "I", false)
  | _ => ("CamFigures$Spring", "steps", "I", false)
def tyX7 : Nat → FieldType := fun k => match k with
  | 0 => .int
  | 1 => .int
  | 2 => .int
  | 3 => .int
  | _ => .int
abbrev wsX70 : List Cond := u_ws RX7 TX7 5
theorem nmX7 : ∀ a, a < 5 → ∀ b, b < 5 → a ≠ b → (TX7 a).2.1 ≠ (TX7 b).2.1 := by decide +kernel
theorem tyX7_ok : ∀ k, k < 5 → parseFieldDescriptor (TX7 k).2.2.1 = some (tyX7 k) := by decide +kernel
abbrev cX7_init : ByteArray := prog_9_method_1_code
def yX7_init : MethodName := ⟨RX7, "<init>", "()V"⟩
abbrev cX7_power : ByteArray := prog_9_method_2_code
def yX7_power : MethodName := ⟨RX7, "power", "()I"⟩
abbrev cX7_load : ByteArray := prog_9_method_3_code
def yX7_load : MethodName := ⟨RX7, "load", "()I"⟩
abbrev cX7_setLoad : ByteArray := prog_9_method_4_code
def yX7_setLoad : MethodName := ⟨RX7, "setLoad", "(I)V"⟩
abbrev cX7_strain : ByteArray := prog_9_method_5_code
def yX7_strain : MethodName := ⟨RX7, "strain", "()I"⟩
abbrev cX7_ticks : ByteArray := prog_9_method_6_code
def yX7_ticks : MethodName := ⟨RX7, "ticks", "()I"⟩
abbrev cX7_steps : ByteArray := prog_9_method_7_code
def yX7_steps : MethodName := ⟨RX7, "steps", "()I"⟩
abbrev cX7_wear : ByteArray := prog_9_method_8_code
def yX7_wear : MethodName := ⟨RX7, "wear", "()I"⟩
abbrev cX7_tighten : ByteArray := prog_9_method_9_code
def yX7_tighten : MethodName := ⟨RX7, "tighten", "(I)V"⟩
abbrev cX7_makeStep : ByteArray := prog_9_method_10_code
def yX7_makeStep : MethodName := ⟨RX7, "makeStep", "()Z"⟩
abbrev cX7_ticksOfStep : ByteArray := prog_9_method_11_code
def yX7_ticksOfStep : MethodName := ⟨RX7, "ticksOfStep", "()I"⟩
def RX8 : String := "CamFigures"
def TX8 : u_T := fun k => match k with
  | 0 => ("CamFigures", "cams", "LCamFigures$Cams;", true)
  | 1 => ("CamFigures", "message", "LCamFigures$Message;", true)
  | 2 => ("CamFigures", "spring", "LCamFigures$Spring;", true)
  | 3 => ("CamFigures", "paper", "LCamFigures$Paper;", true)
  | 4 => ("CamFigures", "faults", "LCamFigures$Faults;", true)
  | 5 => ("CamFigures", "hand", "LCamFigures$Hand;", true)
  | 6 => ("CamFigures", "guess", "LCamFigures$Guess;", true)
  | 7 => ("CamFigures", "makers", "LCamFigures$Makers;", true)
  | 8 => ("CamFigures", "refusals", "[I", true)
  | 9 => ("CamFigures", "shows", "I", false)
  | _ => ("CamFigures", "showsDone", "I", false)
def tyX8 : Nat → FieldType := fun k => match k with
  | 0 => .object "CamFigures$Cams"
  | 1 => .object "CamFigures$Message"
  | 2 => .object "CamFigures$Spring"
  | 3 => .object "CamFigures$Paper"
  | 4 => .object "CamFigures$Faults"
  | 5 => .object "CamFigures$Hand"
  | 6 => .object "CamFigures$Guess"
  | 7 => .object "CamFigures$Makers"
  | 8 => .array .int
  | 9 => .int
  | _ => .int
abbrev wsX80 : List Cond := u_ws RX8 TX8 11
theorem nmX8 : ∀ a, a < 11 → ∀ b, b < 11 → a ≠ b → (TX8 a).2.1 ≠ (TX8 b).2.1 := by decide +kernel
theorem tyX8_ok : ∀ k, k < 11 → parseFieldDescriptor (TX8 k).2.2.1 = some (tyX8 k) := by decide +kernel
abbrev cX8_init : ByteArray := prog_1_method_1_code
def yX8_init : MethodName := ⟨RX8, "<init>", "()V"⟩
abbrev cX8_length : ByteArray := prog_1_method_2_code
def yX8_length : MethodName := ⟨RX8, "length", "(I)I"⟩
abbrev cX8_blank : ByteArray := prog_1_method_3_code
def yX8_blank : MethodName := ⟨RX8, "blank", "(I)I"⟩
abbrev cX8_lose : ByteArray := prog_1_method_4_code
def yX8_lose : MethodName := ⟨RX8, "lose", "(I)I"⟩
abbrev cX8_cutAt : ByteArray := prog_1_method_5_code
def yX8_cutAt : MethodName := ⟨RX8, "cutAt", "(III)I"⟩
abbrev cX8_height : ByteArray := prog_1_method_6_code
def yX8_height : MethodName := ⟨RX8, "height", "(II)I"⟩
abbrev cX8_copy : ByteArray := prog_1_method_7_code
def yX8_copy : MethodName := ⟨RX8, "copy", "(IIIII)I"⟩
abbrev cX8_turn : ByteArray := prog_1_method_8_code
def yX8_turn : MethodName := ⟨RX8, "turn", "(II)I"⟩
abbrev cX8_blanks : ByteArray := prog_1_method_9_code
def yX8_blanks : MethodName := ⟨RX8, "blanks", "()I"⟩
abbrev cX8_camOf : ByteArray := prog_1_method_10_code
def yX8_camOf : MethodName := ⟨RX8, "camOf", "(II)I"⟩
abbrev cX8_letter : ByteArray := prog_1_method_11_code
def yX8_letter : MethodName := ⟨RX8, "letter", "(IIII)I"⟩
abbrev cX8_isCut : ByteArray := prog_1_method_12_code
def yX8_isCut : MethodName := ⟨RX8, "isCut", "(I)I"⟩
abbrev cX8_peg : ByteArray := prog_1_method_13_code
def yX8_peg : MethodName := ⟨RX8, "peg", "(I)I"⟩
abbrev cX8_unpeg : ByteArray := prog_1_method_14_code
def yX8_unpeg : MethodName := ⟨RX8, "unpeg", "()I"⟩
abbrev cX8_advance : ByteArray := prog_1_method_15_code
def yX8_advance : MethodName := ⟨RX8, "advance", "(I)I"⟩
abbrev cX8_pull : ByteArray := prog_1_method_16_code
def yX8_pull : MethodName := ⟨RX8, "pull", "(I)I"⟩
abbrev cX8_wind : ByteArray := prog_1_method_17_code
def yX8_wind : MethodName := ⟨RX8, "wind", "(I)I"⟩
abbrev cX8_show : ByteArray := prog_1_method_18_code
def yX8_show : MethodName := ⟨RX8, "show", "()I"⟩
abbrev cX8_marked : ByteArray := prog_1_method_19_code
def yX8_marked : MethodName := ⟨RX8, "marked", "(II)I"⟩
abbrev cX8_first : ByteArray := prog_1_method_20_code
def yX8_first : MethodName := ⟨RX8, "first", "(III)I"⟩
abbrev cX8_marks : ByteArray := prog_1_method_21_code
def yX8_marks : MethodName := ⟨RX8, "marks", "()I"⟩
abbrev cX8_see : ByteArray := prog_1_method_22_code
def yX8_see : MethodName := ⟨RX8, "see", "(IIZ)I"⟩
abbrev cX8_fault : ByteArray := prog_1_method_23_code
def yX8_fault : MethodName := ⟨RX8, "fault", "(II)I"⟩
abbrev cX8_mend : ByteArray := prog_1_method_24_code
def yX8_mend : MethodName := ⟨RX8, "mend", "()I"⟩
abbrev cX8_explained : ByteArray := prog_1_method_25_code
def yX8_explained : MethodName := ⟨RX8, "explained", "(I)I"⟩
abbrev cX8_made : ByteArray := prog_1_method_26_code
def yX8_made : MethodName := ⟨RX8, "made", "(II)I"⟩
abbrev cX8_like : ByteArray := prog_1_method_27_code
def yX8_like : MethodName := ⟨RX8, "like", "(II)I"⟩
abbrev cX8_whose : ByteArray := prog_1_method_28_code
def yX8_whose : MethodName := ⟨RX8, "whose", "(I)I"⟩
abbrev cX8_count : ByteArray := prog_1_method_29_code
def yX8_count : MethodName := ⟨RX8, "count", "(I)I"⟩
abbrev cX8_refusalsTold : ByteArray := prog_1_method_30_code
def yX8_refusalsTold : MethodName := ⟨RX8, "refusalsTold", "(I)I"⟩
abbrev cX8_refuse : ByteArray := prog_1_method_31_code
def yX8_refuse : MethodName := ⟨RX8, "refuse", "(I)I"⟩
abbrev cX8_isCam : ByteArray := prog_1_method_32_code
def yX8_isCam : MethodName := ⟨RX8, "isCam", "(I)Z"⟩
abbrev cX8_isLetter : ByteArray := prog_1_method_33_code
def yX8_isLetter : MethodName := ⟨RX8, "isLetter", "(I)Z"⟩
abbrev cX8_refusalOfCam : ByteArray := prog_1_method_34_code
def yX8_refusalOfCam : MethodName := ⟨RX8, "refusalOfCam", "(I)I"⟩
abbrev cX8_refusalOfStep : ByteArray := prog_1_method_35_code
def yX8_refusalOfStep : MethodName := ⟨RX8, "refusalOfStep", "(II)I"⟩
abbrev cX8_refusalOfMaker : ByteArray := prog_1_method_36_code
def yX8_refusalOfMaker : MethodName := ⟨RX8, "refusalOfMaker", "(II)I"⟩
abbrev cX8_perform : ByteArray := prog_1_method_37_code
def yX8_perform : MethodName := ⟨RX8, "perform", "()Z"⟩
def RX9 : String := "CamFiguresModel"
def TX9 : u_T := fun k => match k with
  | 0 => ("CamFiguresModel", "length", "I", false)
  | 1 => ("CamFiguresModel", "isThere", "[Z", true)
  | 2 => ("CamFiguresModel", "cam", "[I", true)
  | 3 => ("CamFiguresModel", "across", "[I", true)
  | 4 => ("CamFiguresModel", "up", "[I", true)
  | 5 => ("CamFiguresModel", "lift", "[I", true)
  | 6 => ("CamFiguresModel", "pegs", "I", false)
  | 7 => ("CamFiguresModel", "peg", "[I", true)
  | 8 => ("CamFiguresModel", "advance", "I", false)
  | 9 => ("CamFiguresModel", "power", "I", false)
  | 10 => ("CamFiguresModel", "pull", "I", false)
  | 11 => ("CamFiguresModel", "wear", "I", false)
  | 12 => ("CamFiguresModel", "strain", "I", false)
  | 13 => ("CamFiguresModel", "ticks", "I", false)
  | 14 => ("CamFiguresModel", "steps", "I", false)
  | 15 => ("CamFiguresModel", "shows", "I", false)
  | 16 => ("CamFiguresModel", "doneMany", "I", false)
  | 17 => ("CamFiguresModel", "paperPeg", "[I", true)
  | 18 => ("CamFiguresModel", "paperStep", "[I", true)
  | 19 => ("CamFiguresModel", "fault", "[I", true)
  | 20 => ("CamFiguresModel", "habit", "[I", true)
  | 21 => ("CamFiguresModel", "cutBy", "[I", true)
  | 22 => ("CamFiguresModel", "refused", "[I", true)
  | 23 => ("CamFiguresModel", "between", "[I", true)
  | 24 => ("CamFiguresModel", "least", "[I", true)
  | 25 => ("CamFiguresModel", "blankOf", "[I", true)
  | 26 => ("CamFiguresModel", "worn", "I", false)
  | 27 => ("CamFiguresModel", "loose", "I", false)
  | 28 => ("CamFiguresModel", "bent", "I", false)
  | 29 => ("CamFiguresModel", "markPeg", "[I", true)
  | 30 => ("CamFiguresModel", "markStep", "[I", true)
  | _ => ("CamFiguresModel", "which", "I", false)
def tyX9 : Nat → FieldType := fun k => match k with
  | 0 => .int
  | 1 => .array .boolean
  | 2 => .array .int
  | 3 => .array .int
  | 4 => .array .int
  | 5 => .array .int
  | 6 => .int
  | 7 => .array .int
  | 8 => .int
  | 9 => .int
  | 10 => .int
  | 11 => .int
  | 12 => .int
  | 13 => .int
  | 14 => .int
  | 15 => .int
  | 16 => .int
  | 17 => .array .int
  | 18 => .array .int
  | 19 => .array .int
  | 20 => .array .int
  | 21 => .array .int
  | 22 => .array .int
  | 23 => .array .int
  | 24 => .array .int
  | 25 => .array .int
  | 26 => .int
  | 27 => .int
  | 28 => .int
  | 29 => .array .int
  | 30 => .array .int
  | _ => .int
abbrev wsX90 : List Cond := u_ws RX9 TX9 32
theorem nmX9 : ∀ a, a < 32 → ∀ b, b < 32 → a ≠ b → (TX9 a).2.1 ≠ (TX9 b).2.1 := by decide +kernel
theorem tyX9_ok : ∀ k, k < 32 → parseFieldDescriptor (TX9 k).2.2.1 = some (tyX9 k) := by decide +kernel
abbrev cX9_init : ByteArray := prog_11_method_1_code
def yX9_init : MethodName := ⟨RX9, "<init>", "()V"⟩
abbrev cX9_in : ByteArray := prog_11_method_3_code
def yX9_in : MethodName := ⟨RX9, "in", "(III)Z"⟩
abbrev cX9_refuse : ByteArray := prog_11_method_4_code
def yX9_refuse : MethodName := ⟨RX9, "refuse", "(I)I"⟩
abbrev cX9_clearPaper : ByteArray := prog_11_method_5_code
def yX9_clearPaper : MethodName := ⟨RX9, "clearPaper", "()V"⟩
abbrev cX9_isCam : ByteArray := prog_11_method_6_code
def yX9_isCam : MethodName := ⟨RX9, "isCam", "(I)Z"⟩
abbrev cX9_length : ByteArray := prog_11_method_7_code
def yX9_length : MethodName := ⟨RX9, "length", "(I)I"⟩
abbrev cX9_blank : ByteArray := prog_11_method_8_code
def yX9_blank : MethodName := ⟨RX9, "blank", "(I)I"⟩
abbrev cX9_lacks : ByteArray := prog_11_method_9_code
def yX9_lacks : MethodName := ⟨RX9, "lacks", "(I)I"⟩
abbrev cX9_lose : ByteArray := prog_11_method_10_code
def yX9_lose : MethodName := ⟨RX9, "lose", "(I)I"⟩
abbrev cX9_cutAt : ByteArray := prog_11_method_11_code
def yX9_cutAt : MethodName := ⟨RX9, "cutAt", "(III)I"⟩
abbrev cX9_height : ByteArray := prog_11_method_12_code
def yX9_height : MethodName := ⟨RX9, "height", "(II)I"⟩
abbrev cX9_copy : ByteArray := prog_11_method_13_code
def yX9_copy : MethodName := ⟨RX9, "copy", "(IIIII)I"⟩
abbrev cX9_turn : ByteArray := prog_11_method_14_code
def yX9_turn : MethodName := ⟨RX9, "turn", "(II)I"⟩
abbrev cX9_turnedBy : ByteArray := prog_11_method_15_code
def yX9_turnedBy : MethodName := ⟨RX9, "turnedBy", "(II)I"⟩
abbrev cX9_findBlanks : ByteArray := prog_11_method_16_code
def yX9_findBlanks : MethodName := ⟨RX9, "findBlanks", "()I"⟩
abbrev cX9_blanks : ByteArray := prog_11_method_17_code
def yX9_blanks : MethodName := ⟨RX9, "blanks", "()I"⟩
abbrev cX9_smoothOf : ByteArray := prog_11_method_18_code
def yX9_smoothOf : MethodName := ⟨RX9, "smoothOf", "(I)I"⟩
abbrev cX9_camOf : ByteArray := prog_11_method_19_code
def yX9_camOf : MethodName := ⟨RX9, "camOf", "(II)I"⟩
abbrev cX9_letter : ByteArray := prog_11_method_20_code
def yX9_letter : MethodName := ⟨RX9, "letter", "(IIII)I"⟩
abbrev cX9_isCutLetter : ByteArray := prog_11_method_21_code
def yX9_isCutLetter : MethodName := ⟨RX9, "isCutLetter", "(I)Z"⟩
abbrev cX9_isCut : ByteArray := prog_11_method_22_code
def yX9_isCut : MethodName := ⟨RX9, "isCut", "(I)I"⟩
abbrev cX9_peg : ByteArray := prog_11_method_23_code
def yX9_peg : MethodName := ⟨RX9, "peg", "(I)I"⟩
abbrev cX9_unpeg : ByteArray := prog_11_method_24_code
def yX9_unpeg : MethodName := ⟨RX9, "unpeg", "()I"⟩
abbrev cX9_advance : ByteArray := prog_11_method_25_code
def yX9_advance : MethodName := ⟨RX9, "advance", "(I)I"⟩
abbrev cX9_pull : ByteArray := prog_11_method_26_code
def yX9_pull : MethodName := ⟨RX9, "pull", "(I)I"⟩
abbrev cX9_wind : ByteArray := prog_11_method_27_code
def yX9_wind : MethodName := ⟨RX9, "wind", "(I)I"⟩
abbrev cX9_holdFaults : ByteArray := prog_11_method_28_code
def yX9_holdFaults : MethodName := ⟨RX9, "holdFaults", "(III)V"⟩
abbrev cX9_heightOf : ByteArray := prog_11_method_29_code
def yX9_heightOf : MethodName := ⟨RX9, "heightOf", "(II)I"⟩
abbrev cX9_xAt : ByteArray := prog_11_method_30_code
def yX9_xAt : MethodName := ⟨RX9, "xAt", "(II)I"⟩
abbrev cX9_yAt : ByteArray := prog_11_method_31_code
def yX9_yAt : MethodName := ⟨RX9, "yAt", "(II)I"⟩
abbrev cX9_isDown : ByteArray := prog_11_method_32_code
def yX9_isDown : MethodName := ⟨RX9, "isDown", "(II)Z"⟩
abbrev cX9_newMarks : ByteArray := prog_11_method_33_code
def yX9_newMarks : MethodName := ⟨RX9, "newMarks", "()V"⟩
abbrev cX9_mark : ByteArray := prog_11_method_34_code
def yX9_mark : MethodName := ⟨RX9, "mark", "(IIII)V"⟩
abbrev cX9_lower : ByteArray := prog_11_method_35_code
def yX9_lower : MethodName := ⟨RX9, "lower", "(II)I"⟩
abbrev cX9_write : ByteArray := prog_11_method_36_code
def yX9_write : MethodName := ⟨RX9, "write", "(II)V"⟩
abbrev cX9_areCut : ByteArray := prog_11_method_37_code
def yX9_areCut : MethodName := ⟨RX9, "areCut", "()Z"⟩
abbrev cX9_show : ByteArray := prog_11_method_38_code
def yX9_show : MethodName := ⟨RX9, "show", "()I"⟩
abbrev cX9_isCell : ByteArray := prog_11_method_39_code
def yX9_isCell : MethodName := ⟨RX9, "isCell", "(II)Z"⟩
abbrev cX9_marked : ByteArray := prog_11_method_40_code
def yX9_marked : MethodName := ⟨RX9, "marked", "(II)I"⟩
abbrev cX9_first : ByteArray := prog_11_method_41_code
def yX9_first : MethodName := ⟨RX9, "first", "(III)I"⟩
abbrev cX9_marks : ByteArray := prog_11_method_42_code
def yX9_marks : MethodName := ⟨RX9, "marks", "()I"⟩
abbrev cX9_see : ByteArray := prog_11_method_43_code
def yX9_see : MethodName := ⟨RX9, "see", "(IIZ)I"⟩
abbrev cX9_fault : ByteArray := prog_11_method_44_code
def yX9_fault : MethodName := ⟨RX9, "fault", "(II)I"⟩
abbrev cX9_faultMany : ByteArray := prog_11_method_45_code
def yX9_faultMany : MethodName := ⟨RX9, "faultMany", "()I"⟩
abbrev cX9_mend : ByteArray := prog_11_method_46_code
def yX9_mend : MethodName := ⟨RX9, "mend", "()I"⟩
abbrev cX9_isWritten : ByteArray := prog_11_method_47_code
def yX9_isWritten : MethodName := ⟨RX9, "isWritten", "(III)Z"⟩
abbrev cX9_findKind : ByteArray := prog_11_method_48_code
def yX9_findKind : MethodName := ⟨RX9, "findKind", "()I"⟩
abbrev cX9_explained : ByteArray := prog_11_method_49_code
def yX9_explained : MethodName := ⟨RX9, "explained", "(I)I"⟩
abbrev cX9_timesIn : ByteArray := prog_11_method_50_code
def yX9_timesIn : MethodName := ⟨RX9, "timesIn", "(II)I"⟩
abbrev cX9_made : ByteArray := prog_11_method_51_code
def yX9_made : MethodName := ⟨RX9, "made", "(II)I"⟩
abbrev cX9_likeness : ByteArray := prog_11_method_52_code
def yX9_likeness : MethodName := ⟨RX9, "likeness", "(II)I"⟩
abbrev cX9_like : ByteArray := prog_11_method_53_code
def yX9_like : MethodName := ⟨RX9, "like", "(II)I"⟩
abbrev cX9_whose : ByteArray := prog_11_method_54_code
def yX9_whose : MethodName := ⟨RX9, "whose", "(I)I"⟩
abbrev cX9_count : ByteArray := prog_11_method_55_code
def yX9_count : MethodName := ⟨RX9, "count", "(I)I"⟩
def RJ13 : String := "java/lang/Long"
def TJ13 : u_T := fun k => match k with
  | _ => ("", "", "", false)
def tyJ13 : Nat → FieldType := fun k => match k with
  | _ => .int
abbrev wsJ130 : List Cond := u_ws RJ13 TJ13 0
theorem nmJ13 : ∀ a, a < 0 → ∀ b, b < 0 → a ≠ b → (TJ13 a).2.1 ≠ (TJ13 b).2.1 := by decide +kernel
theorem tyJ13_ok : ∀ k, k < 0 → parseFieldDescriptor (TJ13 k).2.2.1 = some (tyJ13 k) := by decide +kernel
abbrev cJ13_bitCount_95d88 : ByteArray := prog_12_method_50_code
def yJ13_bitCount_95d88 : MethodName := ⟨RJ13, "bitCount", "(J)I"⟩
def RJ9 : String := "java/lang/Math"
def TJ9 : u_T := fun k => match k with
  | _ => ("", "", "", false)
def tyJ9 : Nat → FieldType := fun k => match k with
  | _ => .int
abbrev wsJ90 : List Cond := u_ws RJ9 TJ9 0
theorem nmJ9 : ∀ a, a < 0 → ∀ b, b < 0 → a ≠ b → (TJ9 a).2.1 ≠ (TJ9 b).2.1 := by decide +kernel
theorem tyJ9_ok : ∀ k, k < 0 → parseFieldDescriptor (TJ9 k).2.2.1 = some (tyJ9 k) := by decide +kernel
abbrev cJ9_floorDiv_7cf53 : ByteArray := prog_13_method_47_code
def yJ9_floorDiv_7cf53 : MethodName := ⟨RJ9, "floorDiv", "(II)I"⟩
abbrev cJ9_abs_0f7a4 : ByteArray := prog_13_method_59_code
def yJ9_abs_0f7a4 : MethodName := ⟨RJ9, "abs", "(I)I"⟩
abbrev cJ9_max_7cf53 : ByteArray := prog_13_method_65_code
def yJ9_max_7cf53 : MethodName := ⟨RJ9, "max", "(II)I"⟩
abbrev cJ9_min_7cf53 : ByteArray := prog_13_method_69_code
def yJ9_min_7cf53 : MethodName := ⟨RJ9, "min", "(II)I"⟩
def RJ10 : String := "java/lang/System"
def TJ10 : u_T := fun k => match k with
  | _ => ("", "", "", false)
def tyJ10 : Nat → FieldType := fun k => match k with
  | _ => .int
abbrev wsJ100 : List Cond := u_ws RJ10 TJ10 0
theorem nmJ10 : ∀ a, a < 0 → ∀ b, b < 0 → a ≠ b → (TJ10 a).2.1 ≠ (TJ10 b).2.1 := by decide +kernel
theorem tyJ10_ok : ∀ k, k < 0 → parseFieldDescriptor (TJ10 k).2.2.1 = some (tyJ10 k) := by decide +kernel
def RJ7 : String := "java/util/Arrays"
def TJ7 : u_T := fun k => match k with
  | _ => ("", "", "", false)
def tyJ7 : Nat → FieldType := fun k => match k with
  | _ => .int
abbrev wsJ70 : List Cond := u_ws RJ7 TJ7 0
theorem nmJ7 : ∀ a, a < 0 → ∀ b, b < 0 → a ≠ b → (TJ7 a).2.1 ≠ (TJ7 b).2.1 := by decide +kernel
theorem tyJ7_ok : ∀ k, k < 0 → parseFieldDescriptor (TJ7 k).2.2.1 = some (tyJ7 k) := by decide +kernel
abbrev cJ7_fill_d0a16 : ByteArray := prog_15_method_101_code
def yJ7_fill_d0a16 : MethodName := ⟨RJ7, "fill", "([JJ)V"⟩
abbrev cJ7_fill_53178 : ByteArray := prog_15_method_103_code
def yJ7_fill_53178 : MethodName := ⟨RJ7, "fill", "([II)V"⟩
def RL : String := "CamFiguresLaw"
abbrev cL_law : ByteArray := code
def yL_law : MethodName := ⟨RL, "law", "([I)Z"⟩
def wsX0_init : List Cond := .code yX0_init cX0_init 1 none :: ([.methodLink RX0 3 objectInit, .instanceMethod objectInit, .code objectInit ⟨#[0xb1]⟩ 1 none, .classLink RX0 9 "[[I", .arrayClass .int, .fieldLink RX0 11 "CamFigures$Cams" "rows" "[[I", .arrayClass .boolean, .fieldLink RX0 16 "CamFigures$Cams" "there" "[Z", .fieldLink RX0 20 "CamFigures$Cams" "spare" "[I", .fieldLink RX0 24 "CamFigures$Cams" "steps" "I"] ++ wsX00)
def wsX0_steps : List Cond := .code yX0_steps cX0_steps 1 (some .int) :: ([.fieldLink RX0 24 "CamFigures$Cams" "steps" "I"] ++ wsX00)
def wsX0_size : List Cond := .code yX0_size cX0_size 3 (some .int) :: ([.fieldLink RX0 16 "CamFigures$Cams" "there" "[Z"] ++ wsX00)
def wsX0_isThere : List Cond := .code yX0_isThere cX0_isThere 2 (some .boolean) :: ([.fieldLink RX0 16 "CamFigures$Cams" "there" "[Z"] ++ wsX00)
def wsX0_startAnew : List Cond := .code yX0_startAnew cX0_startAnew 3 none :: ([.fieldLink RX0 24 "CamFigures$Cams" "steps" "I", .fieldLink RX0 16 "CamFigures$Cams" "there" "[Z"] ++ wsX00)
def wsJ7_fill_53178 : List Cond := .code yJ7_fill_53178 cJ7_fill_53178 4 none :: ([])
def wsX0_makeFlat : List Cond := .code yX0_makeFlat cX0_makeFlat 2 none :: ([.fieldLink RX0 16 "CamFigures$Cams" "there" "[Z", .fieldLink RX0 11 "CamFigures$Cams" "rows" "[[I", .methodLink RX0 28 yJ7_fill_53178, .static yJ7_fill_53178, .initialized RJ7, .code yJ7_fill_53178 cJ7_fill_53178 4 none] ++ wsX00)
def wsX0_remove : List Cond := .code yX0_remove cX0_remove 2 none :: ([.fieldLink RX0 16 "CamFigures$Cams" "there" "[Z"] ++ wsX00)
def wsX0_heightAt : List Cond := .code yX0_heightAt cX0_heightAt 3 (some .int) :: ([.fieldLink RX0 11 "CamFigures$Cams" "rows" "[[I"] ++ wsX00)
def wsX0_setHeight : List Cond := .code yX0_setHeight cX0_setHeight 4 none :: ([.fieldLink RX0 11 "CamFigures$Cams" "rows" "[[I"] ++ wsX00)
def wsX0_hasSpan : List Cond := .code yX0_hasSpan cX0_hasSpan 3 (some .boolean) :: ([.fieldLink RX0 24 "CamFigures$Cams" "steps" "I"] ++ wsX00)
def wsX0_copySpan : List Cond := .code yX0_copySpan cX0_copySpan 6 none :: ([.fieldLink RX0 11 "CamFigures$Cams" "rows" "[[I", .methodLink RX0 34 arraycopyName, .native arraycopyName, .static arraycopyName, .initialized "java/lang/System"] ++ wsX00)
def wsX0_further : List Cond := .code yX0_further cX0_further 4 (some .int) :: ([.fieldLink RX0 24 "CamFigures$Cams" "steps" "I"] ++ wsX00)
def wsX0_rotate : List Cond := .code yX0_rotate cX0_rotate 5 none :: ([.fieldLink RX0 11 "CamFigures$Cams" "rows" "[[I", .fieldLink RX0 20 "CamFigures$Cams" "spare" "[I", .fieldLink RX0 24 "CamFigures$Cams" "steps" "I", .methodLink RX0 34 arraycopyName, .native arraycopyName, .static arraycopyName, .initialized "java/lang/System", .methodLink RX0 40 yX0_further, .instanceMethod yX0_further, .selects RX0 yX0_further yX0_further, .initialized RX0, .code yX0_further cX0_further 4 (some .int)] ++ wsX00)
def wsX0_isTurnedBy : List Cond := .code yX0_isTurnedBy cX0_isTurnedBy 5 (some .boolean) :: ([.fieldLink RX0 24 "CamFigures$Cams" "steps" "I", .methodLink RX0 40 yX0_further, .instanceMethod yX0_further, .selects RX0 yX0_further yX0_further, .initialized RX0, .code yX0_further cX0_further 4 (some .int)] ++ wsX00)
def wsX0_stepsBetween : List Cond := .code yX0_stepsBetween cX0_stepsBetween 4 (some .int) :: ([.fieldLink RX0 24 "CamFigures$Cams" "steps" "I", .fieldLink RX0 11 "CamFigures$Cams" "rows" "[[I", .methodLink RX0 51 yX0_isTurnedBy, .instanceMethod yX0_isTurnedBy, .selects RX0 yX0_isTurnedBy yX0_isTurnedBy, .initialized RX0, .code yX0_isTurnedBy cX0_isTurnedBy 5 (some .boolean), .methodLink RX0 40 yX0_further, .instanceMethod yX0_further, .selects RX0 yX0_further yX0_further, .code yX0_further cX0_further 4 (some .int)] ++ wsX00)
def wsX0_leastAlike : List Cond := .code yX0_leastAlike cX0_leastAlike 3 (some .int) :: ([.fieldLink RX0 16 "CamFigures$Cams" "there" "[Z", .methodLink RX0 48 yX0_stepsBetween, .instanceMethod yX0_stepsBetween, .selects RX0 yX0_stepsBetween yX0_stepsBetween, .initialized RX0, .code yX0_stepsBetween cX0_stepsBetween 4 (some .int), .fieldLink RX0 24 "CamFigures$Cams" "steps" "I", .fieldLink RX0 11 "CamFigures$Cams" "rows" "[[I", .methodLink RX0 51 yX0_isTurnedBy, .instanceMethod yX0_isTurnedBy, .selects RX0 yX0_isTurnedBy yX0_isTurnedBy, .code yX0_isTurnedBy cX0_isTurnedBy 5 (some .boolean), .methodLink RX0 40 yX0_further, .instanceMethod yX0_further, .selects RX0 yX0_further yX0_further, .code yX0_further cX0_further 4 (some .int)] ++ wsX00)
def wsX0_blanksBelow : List Cond := .code yX0_blanksBelow cX0_blanksBelow 4 (some .int) :: ([.fieldLink RX0 16 "CamFigures$Cams" "there" "[Z", .methodLink RX0 44 yX0_leastAlike, .instanceMethod yX0_leastAlike, .selects RX0 yX0_leastAlike yX0_leastAlike, .initialized RX0, .code yX0_leastAlike cX0_leastAlike 3 (some .int), .methodLink RX0 48 yX0_stepsBetween, .instanceMethod yX0_stepsBetween, .selects RX0 yX0_stepsBetween yX0_stepsBetween, .code yX0_stepsBetween cX0_stepsBetween 4 (some .int), .fieldLink RX0 24 "CamFigures$Cams" "steps" "I", .fieldLink RX0 11 "CamFigures$Cams" "rows" "[[I", .methodLink RX0 51 yX0_isTurnedBy, .instanceMethod yX0_isTurnedBy, .selects RX0 yX0_isTurnedBy yX0_isTurnedBy, .code yX0_isTurnedBy cX0_isTurnedBy 5 (some .boolean), .methodLink RX0 40 yX0_further, .instanceMethod yX0_further, .selects RX0 yX0_further yX0_further, .code yX0_further cX0_further 4 (some .int)] ++ wsX00)
def wsX0_greatestStep : List Cond := .code yX0_greatestStep cX0_greatestStep 5 (some .int) :: ([.fieldLink RX0 24 "CamFigures$Cams" "steps" "I", .fieldLink RX0 11 "CamFigures$Cams" "rows" "[[I", .methodLink RX0 55 Lib.Math.abs.name, .static Lib.Math.abs.name, .initialized "java/lang/Math", .code Lib.Math.abs.name Lib.Math.abs.code 1 (some .int), .methodLink RX0 60 Lib.Math.max.name, .static Lib.Math.max.name, .code Lib.Math.max.name Lib.Math.max.code 2 (some .int), .methodLink RX0 40 yX0_further, .instanceMethod yX0_further, .selects RX0 yX0_further yX0_further, .initialized RX0, .code yX0_further cX0_further 4 (some .int)] ++ wsX00)
def wsX1_init : List Cond := .code yX1_init cX1_init 1 none :: ([.methodLink RX1 3 objectInit, .instanceMethod objectInit, .code objectInit ⟨#[0xb1]⟩ 1 none, .fieldLink RX1 11 "CamFigures$Faults" "worn" "I", .fieldLink RX1 15 "CamFigures$Faults" "loose" "I", .fieldLink RX1 18 "CamFigures$Faults" "bent" "I"] ++ wsX10)
def wsX1_clear : List Cond := .code yX1_clear cX1_clear 1 none :: ([.fieldLink RX1 11 "CamFigures$Faults" "worn" "I", .fieldLink RX1 15 "CamFigures$Faults" "loose" "I", .fieldLink RX1 18 "CamFigures$Faults" "bent" "I"] ++ wsX10)
def wsX1_tell : List Cond := .code yX1_tell cX1_tell 3 none :: ([.fieldLink RX1 11 "CamFigures$Faults" "worn" "I", .fieldLink RX1 15 "CamFigures$Faults" "loose" "I", .fieldLink RX1 18 "CamFigures$Faults" "bent" "I"] ++ wsX10)
def wsX1_size : List Cond := .code yX1_size cX1_size 2 (some .int) :: ([.fieldLink RX1 11 "CamFigures$Faults" "worn" "I", .fieldLink RX1 15 "CamFigures$Faults" "loose" "I", .fieldLink RX1 18 "CamFigures$Faults" "bent" "I"] ++ wsX10)
def wsX1_isLoose : List Cond := .code yX1_isLoose cX1_isLoose 2 (some .boolean) :: ([.fieldLink RX1 15 "CamFigures$Faults" "loose" "I"] ++ wsX10)
def wsX1_wornHeight : List Cond := .code yX1_wornHeight cX1_wornHeight 3 (some .int) :: ([.fieldLink RX1 11 "CamFigures$Faults" "worn" "I"] ++ wsX10)
def wsX1_bentX : List Cond := .code yX1_bentX cX1_bentX 2 (some .int) :: ([.fieldLink RX1 18 "CamFigures$Faults" "bent" "I"] ++ wsX10)
def wsX1_bentY : List Cond := .code yX1_bentY cX1_bentY 2 (some .int) :: ([.fieldLink RX1 18 "CamFigures$Faults" "bent" "I", .methodLink RX1 21 Lib.Math.min.name, .static Lib.Math.min.name, .initialized "java/lang/Math", .code Lib.Math.min.name Lib.Math.min.code 2 (some .int)] ++ wsX10)
def wsX6_init : List Cond := .code yX6_init cX6_init 2 none :: ([.methodLink RX6 1 objectInit, .instanceMethod objectInit, .code objectInit ⟨#[0xb1]⟩ 1 none, .arrayClass .long, .fieldLink RX6 9 "CamFigures$Paper" "words" "[J", .arrayClass .int, .fieldLink RX6 13 "CamFigures$Paper" "firsts" "[I"] ++ wsX60)
def wsX2_init_r1 : List Cond := [Cond.methodLink RX2 3 objectInit, Cond.instanceMethod objectInit, Cond.code objectInit ⟨#[0xb1]⟩ 1 none, Cond.classLink RX2 9 RX1, Cond.instantiable RX1 3, Cond.initialized RX1, Cond.fieldLink RX2 12 "CamFigures$Guess" "supposed" "LCamFigures$Faults;", Cond.classLink RX2 18 RX6, Cond.instantiable RX6 2, Cond.initialized RX6, Cond.fieldLink RX2 23 "CamFigures$Guess" "trial" "LCamFigures$Paper;", Cond.fieldLink RX2 27 "CamFigures$Guess" "kind" "I", Cond.fieldLink RX2 31 "CamFigures$Guess" "which" "I", Cond.fieldLink RX2 34 "CamFigures$Guess" "hand" "LCamFigures$Hand;", Cond.fieldLink RX2 38 "CamFigures$Guess" "cams" "LCamFigures$Cams;", Cond.fieldLink RX2 42 "CamFigures$Guess" "message" "LCamFigures$Message;", Cond.instanceMethod yX1_init, Cond.code yX1_init cX1_init 1 none, Cond.methodLink RX1 3 objectInit, Cond.fieldLink RX1 11 "CamFigures$Faults" "worn" "I", Cond.fieldLink RX1 15 "CamFigures$Faults" "loose" "I", Cond.fieldLink RX1 18 "CamFigures$Faults" "bent" "I", Cond.methodLink RX2 20 yX6_init, Cond.instanceMethod yX6_init]
def wsX2_init_r2 : List Cond := [Cond.code yX6_init cX6_init 2 none, Cond.methodLink RX6 1 objectInit, Cond.arrayClass .long, Cond.fieldLink RX6 9 "CamFigures$Paper" "words" "[J", Cond.arrayClass .int, Cond.fieldLink RX6 13 "CamFigures$Paper" "firsts" "[I"]
def wsX2_init : List Cond := .code yX2_init cX2_init 4 none :: ((wsX2_init_r1 ++ wsX2_init_r2) ++ wsX10 ++ wsX20 ++ wsX60)
def wsX2_kind : List Cond := .code yX2_kind cX2_kind 1 (some .int) :: ([.fieldLink RX2 27 "CamFigures$Guess" "kind" "I"] ++ wsX20)
def wsX2_which : List Cond := .code yX2_which cX2_which 1 (some .int) :: ([.fieldLink RX2 31 "CamFigures$Guess" "which" "I"] ++ wsX20)
def wsJ7_fill_d0a16 : List Cond := .code yJ7_fill_d0a16 cJ7_fill_d0a16 5 none :: ([])
def wsX6_clear : List Cond := .code yX6_clear cX6_clear 1 none :: ([.fieldLink RX6 9 "CamFigures$Paper" "words" "[J", .methodLink RX6 17 yJ7_fill_d0a16, .static yJ7_fill_d0a16, .initialized RJ7, .code yJ7_fill_d0a16 cJ7_fill_d0a16 5 none] ++ wsX60)
def wsX5_pegs : List Cond := .code yX5_pegs cX5_pegs 1 (some .int) :: ([.fieldLink RX5 24 "CamFigures$Message" "pegs" "I"] ++ wsX50)
def wsX5_liftOfPeg : List Cond := .code yX5_liftOfPeg cX5_liftOfPeg 2 (some .int) :: ([.fieldLink RX5 18 "CamFigures$Message" "lift" "[I", .fieldLink RX5 21 "CamFigures$Message" "letters" "[I"] ++ wsX50)
def wsX3_heightOf : List Cond := .code yX3_heightOf cX3_heightOf 4 (some .int) :: ([.fieldLink RX3 7 "CamFigures$Hand" "cams" "LCamFigures$Cams;", .methodLink RX3 65 yX0_heightAt, .instanceMethod yX0_heightAt, .selects RX0 yX0_heightAt yX0_heightAt, .initialized RX0, .code yX0_heightAt cX0_heightAt 3 (some .int), .fieldLink RX0 11 "CamFigures$Cams" "rows" "[[I", .methodLink RX3 71 yX1_wornHeight, .instanceMethod yX1_wornHeight, .selects RX1 yX1_wornHeight yX1_wornHeight, .initialized RX1, .code yX1_wornHeight cX1_wornHeight 3 (some .int), .fieldLink RX1 11 "CamFigures$Faults" "worn" "I"] ++ wsX30 ++ wsX00 ++ wsX10)
def wsX3_isDown_r1 : List Cond := [Cond.fieldLink RX3 13 "CamFigures$Hand" "message" "LCamFigures$Message;", Cond.methodLink RX3 38 yX5_liftOfPeg, Cond.instanceMethod yX5_liftOfPeg, Cond.selects RX5 yX5_liftOfPeg yX5_liftOfPeg, Cond.initialized RX5, Cond.code yX5_liftOfPeg cX5_liftOfPeg 2 (some .int), Cond.fieldLink RX5 18 "CamFigures$Message" "lift" "[I", Cond.fieldLink RX5 21 "CamFigures$Message" "letters" "[I", Cond.methodLink RX3 44 yX3_heightOf, Cond.instanceMethod yX3_heightOf, Cond.selects RX3 yX3_heightOf yX3_heightOf, Cond.initialized RX3, Cond.code yX3_heightOf cX3_heightOf 4 (some .int), Cond.fieldLink RX3 7 "CamFigures$Hand" "cams" "LCamFigures$Cams;", Cond.methodLink RX3 65 yX0_heightAt, Cond.instanceMethod yX0_heightAt, Cond.selects RX0 yX0_heightAt yX0_heightAt, Cond.initialized RX0, Cond.code yX0_heightAt cX0_heightAt 3 (some .int), Cond.fieldLink RX0 11 "CamFigures$Cams" "rows" "[[I", Cond.methodLink RX3 71 yX1_wornHeight, Cond.instanceMethod yX1_wornHeight, Cond.selects RX1 yX1_wornHeight yX1_wornHeight, Cond.initialized RX1]
def wsX3_isDown_r2 : List Cond := [Cond.code yX1_wornHeight cX1_wornHeight 3 (some .int), Cond.fieldLink RX1 11 "CamFigures$Faults" "worn" "I"]
def wsX3_isDown : List Cond := .code yX3_isDown cX3_isDown 4 (some .boolean) :: ((wsX3_isDown_r1 ++ wsX3_isDown_r2) ++ wsX30 ++ wsX50 ++ wsX00 ++ wsX10)
def wsX5_acrossOfPeg : List Cond := .code yX5_acrossOfPeg cX5_acrossOfPeg 2 (some .int) :: ([.fieldLink RX5 9 "CamFigures$Message" "across" "[I", .fieldLink RX5 21 "CamFigures$Message" "letters" "[I"] ++ wsX50)
def wsX5_space : List Cond := .code yX5_space cX5_space 1 (some .int) :: ([.fieldLink RX5 28 "CamFigures$Message" "space" "I"] ++ wsX50)
def wsX3_xAt_r1 : List Cond := [Cond.fieldLink RX3 13 "CamFigures$Hand" "message" "LCamFigures$Message;", Cond.methodLink RX3 47 yX5_acrossOfPeg, Cond.instanceMethod yX5_acrossOfPeg, Cond.selects RX5 yX5_acrossOfPeg yX5_acrossOfPeg, Cond.initialized RX5, Cond.code yX5_acrossOfPeg cX5_acrossOfPeg 2 (some .int), Cond.fieldLink RX5 9 "CamFigures$Message" "across" "[I", Cond.fieldLink RX5 21 "CamFigures$Message" "letters" "[I", Cond.methodLink RX3 44 yX3_heightOf, Cond.instanceMethod yX3_heightOf, Cond.selects RX3 yX3_heightOf yX3_heightOf, Cond.initialized RX3, Cond.code yX3_heightOf cX3_heightOf 4 (some .int), Cond.fieldLink RX3 7 "CamFigures$Hand" "cams" "LCamFigures$Cams;", Cond.methodLink RX3 65 yX0_heightAt, Cond.instanceMethod yX0_heightAt, Cond.selects RX0 yX0_heightAt yX0_heightAt, Cond.initialized RX0, Cond.code yX0_heightAt cX0_heightAt 3 (some .int), Cond.fieldLink RX0 11 "CamFigures$Cams" "rows" "[[I", Cond.methodLink RX3 71 yX1_wornHeight, Cond.instanceMethod yX1_wornHeight, Cond.selects RX1 yX1_wornHeight yX1_wornHeight, Cond.initialized RX1]
def wsX3_xAt_r2 : List Cond := [Cond.code yX1_wornHeight cX1_wornHeight 3 (some .int), Cond.fieldLink RX1 11 "CamFigures$Faults" "worn" "I", Cond.methodLink RX3 50 yX5_space, Cond.instanceMethod yX5_space, Cond.selects RX5 yX5_space yX5_space, Cond.code yX5_space cX5_space 1 (some .int), Cond.fieldLink RX5 28 "CamFigures$Message" "space" "I", Cond.methodLink RX3 54 yX1_bentX, Cond.instanceMethod yX1_bentX, Cond.selects RX1 yX1_bentX yX1_bentX, Cond.code yX1_bentX cX1_bentX 2 (some .int), Cond.fieldLink RX1 18 "CamFigures$Faults" "bent" "I"]
def wsX3_xAt : List Cond := .code yX3_xAt cX3_xAt 5 (some .int) :: ((wsX3_xAt_r1 ++ wsX3_xAt_r2) ++ wsX30 ++ wsX50 ++ wsX00 ++ wsX10)
def wsX5_upOfPeg : List Cond := .code yX5_upOfPeg cX5_upOfPeg 2 (some .int) :: ([.fieldLink RX5 15 "CamFigures$Message" "up" "[I", .fieldLink RX5 21 "CamFigures$Message" "letters" "[I"] ++ wsX50)
def wsX3_yAt_r1 : List Cond := [Cond.fieldLink RX3 13 "CamFigures$Hand" "message" "LCamFigures$Message;", Cond.methodLink RX3 59 yX5_upOfPeg, Cond.instanceMethod yX5_upOfPeg, Cond.selects RX5 yX5_upOfPeg yX5_upOfPeg, Cond.initialized RX5, Cond.code yX5_upOfPeg cX5_upOfPeg 2 (some .int), Cond.fieldLink RX5 15 "CamFigures$Message" "up" "[I", Cond.fieldLink RX5 21 "CamFigures$Message" "letters" "[I", Cond.methodLink RX3 44 yX3_heightOf, Cond.instanceMethod yX3_heightOf, Cond.selects RX3 yX3_heightOf yX3_heightOf, Cond.initialized RX3, Cond.code yX3_heightOf cX3_heightOf 4 (some .int), Cond.fieldLink RX3 7 "CamFigures$Hand" "cams" "LCamFigures$Cams;", Cond.methodLink RX3 65 yX0_heightAt, Cond.instanceMethod yX0_heightAt, Cond.selects RX0 yX0_heightAt yX0_heightAt, Cond.initialized RX0, Cond.code yX0_heightAt cX0_heightAt 3 (some .int), Cond.fieldLink RX0 11 "CamFigures$Cams" "rows" "[[I", Cond.methodLink RX3 71 yX1_wornHeight, Cond.instanceMethod yX1_wornHeight, Cond.selects RX1 yX1_wornHeight yX1_wornHeight, Cond.initialized RX1]
def wsX3_yAt_r2 : List Cond := [Cond.code yX1_wornHeight cX1_wornHeight 3 (some .int), Cond.fieldLink RX1 11 "CamFigures$Faults" "worn" "I", Cond.methodLink RX3 62 yX1_bentY, Cond.instanceMethod yX1_bentY, Cond.selects RX1 yX1_bentY yX1_bentY, Cond.code yX1_bentY cX1_bentY 2 (some .int), Cond.fieldLink RX1 18 "CamFigures$Faults" "bent" "I", Cond.methodLink RX1 21 Lib.Math.min.name, Cond.static Lib.Math.min.name, Cond.initialized "java/lang/Math", Cond.code Lib.Math.min.name Lib.Math.min.code 2 (some .int)]
def wsX3_yAt : List Cond := .code yX3_yAt cX3_yAt 4 (some .int) :: ((wsX3_yAt_r1 ++ wsX3_yAt_r2) ++ wsX30 ++ wsX50 ++ wsX00 ++ wsX10)
def wsX6_hasPlace : List Cond := .code yX6_hasPlace cX6_hasPlace 2 (some .boolean) :: ([])
def wsX6_isMarked : List Cond := .code yX6_isMarked cX6_isMarked 4 (some .boolean) :: ([.fieldLink RX6 9 "CamFigures$Paper" "words" "[J"] ++ wsX60)
def wsX6_put : List Cond := .code yX6_put cX6_put 6 none :: ([.fieldLink RX6 9 "CamFigures$Paper" "words" "[J", .fieldLink RX6 13 "CamFigures$Paper" "firsts" "[I", .methodLink RX6 23 yX6_hasPlace, .static yX6_hasPlace, .initialized RX6, .code yX6_hasPlace cX6_hasPlace 2 (some .boolean), .methodLink RX6 27 yX6_isMarked, .instanceMethod yX6_isMarked, .selects RX6 yX6_isMarked yX6_isMarked, .code yX6_isMarked cX6_isMarked 4 (some .boolean)] ++ wsX60)
def wsJ9_floorDiv_7cf53 : List Cond := .code yJ9_floorDiv_7cf53 cJ9_floorDiv_7cf53 3 (some .int) :: ([])
def wsX3_rounded : List Cond := .code yX3_rounded cX3_rounded 2 (some .int) :: ([.methodLink RX3 85 yJ9_floorDiv_7cf53, .static yJ9_floorDiv_7cf53, .initialized RJ9, .code yJ9_floorDiv_7cf53 cJ9_floorDiv_7cf53 3 (some .int)])
def wsX3_drawLine_r1 : List Cond := [Cond.methodLink RX3 74 Lib.Math.abs.name, Cond.static Lib.Math.abs.name, Cond.initialized "java/lang/Math", Cond.code Lib.Math.abs.name Lib.Math.abs.code 1 (some .int), Cond.methodLink RX3 79 Lib.Math.max.name, Cond.static Lib.Math.max.name, Cond.code Lib.Math.max.name Lib.Math.max.code 2 (some .int), Cond.methodLink RX3 82 yX3_rounded, Cond.static yX3_rounded, Cond.initialized RX3, Cond.code yX3_rounded cX3_rounded 2 (some .int), Cond.methodLink RX3 85 yJ9_floorDiv_7cf53, Cond.static yJ9_floorDiv_7cf53, Cond.initialized RJ9, Cond.code yJ9_floorDiv_7cf53 cJ9_floorDiv_7cf53 3 (some .int), Cond.methodLink RX3 28 yX6_put, Cond.instanceMethod yX6_put, Cond.selects RX6 yX6_put yX6_put, Cond.initialized RX6, Cond.code yX6_put cX6_put 6 none, Cond.fieldLink RX6 9 "CamFigures$Paper" "words" "[J", Cond.fieldLink RX6 13 "CamFigures$Paper" "firsts" "[I", Cond.methodLink RX6 23 yX6_hasPlace, Cond.static yX6_hasPlace]
def wsX3_drawLine_r2 : List Cond := [Cond.code yX6_hasPlace cX6_hasPlace 2 (some .boolean), Cond.methodLink RX6 27 yX6_isMarked, Cond.instanceMethod yX6_isMarked, Cond.selects RX6 yX6_isMarked yX6_isMarked, Cond.code yX6_isMarked cX6_isMarked 4 (some .boolean)]
def wsX3_drawLine : List Cond := .code yX3_drawLine cX3_drawLine 9 none :: ((wsX3_drawLine_r1 ++ wsX3_drawLine_r2) ++ wsX60)
def wsX3_writeStep_r1 : List Cond := [Cond.methodLink RX3 17 yX3_isDown, Cond.instanceMethod yX3_isDown, Cond.selects RX3 yX3_isDown yX3_isDown, Cond.initialized RX3, Cond.code yX3_isDown cX3_isDown 4 (some .boolean), Cond.fieldLink RX3 13 "CamFigures$Hand" "message" "LCamFigures$Message;", Cond.methodLink RX3 38 yX5_liftOfPeg, Cond.instanceMethod yX5_liftOfPeg, Cond.selects RX5 yX5_liftOfPeg yX5_liftOfPeg, Cond.initialized RX5, Cond.code yX5_liftOfPeg cX5_liftOfPeg 2 (some .int), Cond.fieldLink RX5 18 "CamFigures$Message" "lift" "[I", Cond.fieldLink RX5 21 "CamFigures$Message" "letters" "[I", Cond.methodLink RX3 44 yX3_heightOf, Cond.instanceMethod yX3_heightOf, Cond.selects RX3 yX3_heightOf yX3_heightOf, Cond.code yX3_heightOf cX3_heightOf 4 (some .int), Cond.fieldLink RX3 7 "CamFigures$Hand" "cams" "LCamFigures$Cams;", Cond.methodLink RX3 65 yX0_heightAt, Cond.instanceMethod yX0_heightAt, Cond.selects RX0 yX0_heightAt yX0_heightAt, Cond.initialized RX0, Cond.code yX0_heightAt cX0_heightAt 3 (some .int), Cond.fieldLink RX0 11 "CamFigures$Cams" "rows" "[[I"]
def wsX3_writeStep_r2 : List Cond := [Cond.methodLink RX3 71 yX1_wornHeight, Cond.instanceMethod yX1_wornHeight, Cond.selects RX1 yX1_wornHeight yX1_wornHeight, Cond.initialized RX1, Cond.code yX1_wornHeight cX1_wornHeight 3 (some .int), Cond.fieldLink RX1 11 "CamFigures$Faults" "worn" "I", Cond.methodLink RX3 21 yX3_xAt, Cond.instanceMethod yX3_xAt, Cond.selects RX3 yX3_xAt yX3_xAt, Cond.code yX3_xAt cX3_xAt 5 (some .int), Cond.methodLink RX3 47 yX5_acrossOfPeg, Cond.instanceMethod yX5_acrossOfPeg, Cond.selects RX5 yX5_acrossOfPeg yX5_acrossOfPeg, Cond.code yX5_acrossOfPeg cX5_acrossOfPeg 2 (some .int), Cond.fieldLink RX5 9 "CamFigures$Message" "across" "[I", Cond.methodLink RX3 50 yX5_space, Cond.instanceMethod yX5_space, Cond.selects RX5 yX5_space yX5_space, Cond.code yX5_space cX5_space 1 (some .int), Cond.fieldLink RX5 28 "CamFigures$Message" "space" "I", Cond.methodLink RX3 54 yX1_bentX, Cond.instanceMethod yX1_bentX, Cond.selects RX1 yX1_bentX yX1_bentX, Cond.code yX1_bentX cX1_bentX 2 (some .int)]
def wsX3_writeStep_r3 : List Cond := [Cond.fieldLink RX1 18 "CamFigures$Faults" "bent" "I", Cond.methodLink RX3 25 yX3_yAt, Cond.instanceMethod yX3_yAt, Cond.selects RX3 yX3_yAt yX3_yAt, Cond.code yX3_yAt cX3_yAt 4 (some .int), Cond.methodLink RX3 59 yX5_upOfPeg, Cond.instanceMethod yX5_upOfPeg, Cond.selects RX5 yX5_upOfPeg yX5_upOfPeg, Cond.code yX5_upOfPeg cX5_upOfPeg 2 (some .int), Cond.fieldLink RX5 15 "CamFigures$Message" "up" "[I", Cond.methodLink RX3 62 yX1_bentY, Cond.instanceMethod yX1_bentY, Cond.selects RX1 yX1_bentY yX1_bentY, Cond.code yX1_bentY cX1_bentY 2 (some .int), Cond.methodLink RX1 21 Lib.Math.min.name, Cond.static Lib.Math.min.name, Cond.initialized "java/lang/Math", Cond.code Lib.Math.min.name Lib.Math.min.code 2 (some .int), Cond.methodLink RX3 28 yX6_put, Cond.instanceMethod yX6_put, Cond.selects RX6 yX6_put yX6_put, Cond.initialized RX6, Cond.code yX6_put cX6_put 6 none, Cond.fieldLink RX6 9 "CamFigures$Paper" "words" "[J"]
def wsX3_writeStep_r4 : List Cond := [Cond.fieldLink RX6 13 "CamFigures$Paper" "firsts" "[I", Cond.methodLink RX6 23 yX6_hasPlace, Cond.static yX6_hasPlace, Cond.code yX6_hasPlace cX6_hasPlace 2 (some .boolean), Cond.methodLink RX6 27 yX6_isMarked, Cond.instanceMethod yX6_isMarked, Cond.selects RX6 yX6_isMarked yX6_isMarked, Cond.code yX6_isMarked cX6_isMarked 4 (some .boolean), Cond.methodLink RX3 34 yX3_drawLine, Cond.static yX3_drawLine, Cond.code yX3_drawLine cX3_drawLine 9 none, Cond.methodLink RX3 74 Lib.Math.abs.name, Cond.static Lib.Math.abs.name, Cond.code Lib.Math.abs.name Lib.Math.abs.code 1 (some .int), Cond.methodLink RX3 79 Lib.Math.max.name, Cond.static Lib.Math.max.name, Cond.code Lib.Math.max.name Lib.Math.max.code 2 (some .int), Cond.methodLink RX3 82 yX3_rounded, Cond.static yX3_rounded, Cond.code yX3_rounded cX3_rounded 2 (some .int), Cond.methodLink RX3 85 yJ9_floorDiv_7cf53, Cond.static yJ9_floorDiv_7cf53, Cond.initialized RJ9, Cond.code yJ9_floorDiv_7cf53 cJ9_floorDiv_7cf53 3 (some .int)]
def wsX3_writeStep : List Cond := .code yX3_writeStep cX3_writeStep 9 none :: ((wsX3_writeStep_r1 ++ (wsX3_writeStep_r2 ++ (wsX3_writeStep_r3 ++ wsX3_writeStep_r4))) ++ wsX30 ++ wsX50 ++ wsX00 ++ wsX10 ++ wsX60)
def wsX6_isWithin : List Cond := .code yX6_isWithin cX6_isWithin 3 (some .boolean) :: ([.fieldLink RX6 9 "CamFigures$Paper" "words" "[J", .constantLong RX6 30 (-1)] ++ wsX60)
def wsX2_fits_r1 : List Cond := [Cond.fieldLink RX2 12 "CamFigures$Guess" "supposed" "LCamFigures$Faults;", Cond.fieldLink RX2 23 "CamFigures$Guess" "trial" "LCamFigures$Paper;", Cond.fieldLink RX2 42 "CamFigures$Guess" "message" "LCamFigures$Message;", Cond.fieldLink RX2 38 "CamFigures$Guess" "cams" "LCamFigures$Cams;", Cond.fieldLink RX2 34 "CamFigures$Guess" "hand" "LCamFigures$Hand;", Cond.methodLink RX2 56 yX1_clear, Cond.instanceMethod yX1_clear, Cond.selects RX1 yX1_clear yX1_clear, Cond.initialized RX1, Cond.code yX1_clear cX1_clear 1 none, Cond.fieldLink RX1 11 "CamFigures$Faults" "worn" "I", Cond.fieldLink RX1 15 "CamFigures$Faults" "loose" "I", Cond.fieldLink RX1 18 "CamFigures$Faults" "bent" "I", Cond.methodLink RX2 59 yX1_tell, Cond.instanceMethod yX1_tell, Cond.selects RX1 yX1_tell yX1_tell, Cond.code yX1_tell cX1_tell 3 none, Cond.methodLink RX2 63 yX6_clear, Cond.instanceMethod yX6_clear, Cond.selects RX6 yX6_clear yX6_clear, Cond.initialized RX6, Cond.code yX6_clear cX6_clear 1 none, Cond.fieldLink RX6 9 "CamFigures$Paper" "words" "[J", Cond.methodLink RX6 17 yJ7_fill_d0a16]
def wsX2_fits_r2 : List Cond := [Cond.static yJ7_fill_d0a16, Cond.initialized RJ7, Cond.code yJ7_fill_d0a16 cJ7_fill_d0a16 5 none, Cond.methodLink RX2 64 yX5_pegs, Cond.instanceMethod yX5_pegs, Cond.selects RX5 yX5_pegs yX5_pegs, Cond.initialized RX5, Cond.code yX5_pegs cX5_pegs 1 (some .int), Cond.fieldLink RX5 24 "CamFigures$Message" "pegs" "I", Cond.methodLink RX2 68 yX1_isLoose, Cond.instanceMethod yX1_isLoose, Cond.selects RX1 yX1_isLoose yX1_isLoose, Cond.code yX1_isLoose cX1_isLoose 2 (some .boolean), Cond.methodLink RX2 72 yX0_steps, Cond.instanceMethod yX0_steps, Cond.selects RX0 yX0_steps yX0_steps, Cond.initialized RX0, Cond.code yX0_steps cX0_steps 1 (some .int), Cond.fieldLink RX0 24 "CamFigures$Cams" "steps" "I", Cond.methodLink RX2 77 yX3_writeStep, Cond.instanceMethod yX3_writeStep, Cond.selects RX3 yX3_writeStep yX3_writeStep, Cond.initialized RX3, Cond.code yX3_writeStep cX3_writeStep 9 none]
def wsX2_fits_r3 : List Cond := [Cond.methodLink RX3 17 yX3_isDown, Cond.instanceMethod yX3_isDown, Cond.selects RX3 yX3_isDown yX3_isDown, Cond.code yX3_isDown cX3_isDown 4 (some .boolean), Cond.fieldLink RX3 13 "CamFigures$Hand" "message" "LCamFigures$Message;", Cond.methodLink RX3 38 yX5_liftOfPeg, Cond.instanceMethod yX5_liftOfPeg, Cond.selects RX5 yX5_liftOfPeg yX5_liftOfPeg, Cond.code yX5_liftOfPeg cX5_liftOfPeg 2 (some .int), Cond.fieldLink RX5 18 "CamFigures$Message" "lift" "[I", Cond.fieldLink RX5 21 "CamFigures$Message" "letters" "[I", Cond.methodLink RX3 44 yX3_heightOf, Cond.instanceMethod yX3_heightOf, Cond.selects RX3 yX3_heightOf yX3_heightOf, Cond.code yX3_heightOf cX3_heightOf 4 (some .int), Cond.fieldLink RX3 7 "CamFigures$Hand" "cams" "LCamFigures$Cams;", Cond.methodLink RX3 65 yX0_heightAt, Cond.instanceMethod yX0_heightAt, Cond.selects RX0 yX0_heightAt yX0_heightAt, Cond.code yX0_heightAt cX0_heightAt 3 (some .int), Cond.fieldLink RX0 11 "CamFigures$Cams" "rows" "[[I", Cond.methodLink RX3 71 yX1_wornHeight, Cond.instanceMethod yX1_wornHeight, Cond.selects RX1 yX1_wornHeight yX1_wornHeight]
def wsX2_fits_r4 : List Cond := [Cond.code yX1_wornHeight cX1_wornHeight 3 (some .int), Cond.methodLink RX3 21 yX3_xAt, Cond.instanceMethod yX3_xAt, Cond.selects RX3 yX3_xAt yX3_xAt, Cond.code yX3_xAt cX3_xAt 5 (some .int), Cond.methodLink RX3 47 yX5_acrossOfPeg, Cond.instanceMethod yX5_acrossOfPeg, Cond.selects RX5 yX5_acrossOfPeg yX5_acrossOfPeg, Cond.code yX5_acrossOfPeg cX5_acrossOfPeg 2 (some .int), Cond.fieldLink RX5 9 "CamFigures$Message" "across" "[I", Cond.methodLink RX3 50 yX5_space, Cond.instanceMethod yX5_space, Cond.selects RX5 yX5_space yX5_space, Cond.code yX5_space cX5_space 1 (some .int), Cond.fieldLink RX5 28 "CamFigures$Message" "space" "I", Cond.methodLink RX3 54 yX1_bentX, Cond.instanceMethod yX1_bentX, Cond.selects RX1 yX1_bentX yX1_bentX, Cond.code yX1_bentX cX1_bentX 2 (some .int), Cond.methodLink RX3 25 yX3_yAt, Cond.instanceMethod yX3_yAt, Cond.selects RX3 yX3_yAt yX3_yAt, Cond.code yX3_yAt cX3_yAt 4 (some .int), Cond.methodLink RX3 59 yX5_upOfPeg]
def wsX2_fits_r5 : List Cond := [Cond.instanceMethod yX5_upOfPeg, Cond.selects RX5 yX5_upOfPeg yX5_upOfPeg, Cond.code yX5_upOfPeg cX5_upOfPeg 2 (some .int), Cond.fieldLink RX5 15 "CamFigures$Message" "up" "[I", Cond.methodLink RX3 62 yX1_bentY, Cond.instanceMethod yX1_bentY, Cond.selects RX1 yX1_bentY yX1_bentY, Cond.code yX1_bentY cX1_bentY 2 (some .int), Cond.methodLink RX1 21 Lib.Math.min.name, Cond.static Lib.Math.min.name, Cond.initialized "java/lang/Math", Cond.code Lib.Math.min.name Lib.Math.min.code 2 (some .int), Cond.methodLink RX3 28 yX6_put, Cond.instanceMethod yX6_put, Cond.selects RX6 yX6_put yX6_put, Cond.code yX6_put cX6_put 6 none, Cond.fieldLink RX6 13 "CamFigures$Paper" "firsts" "[I", Cond.methodLink RX6 23 yX6_hasPlace, Cond.static yX6_hasPlace, Cond.code yX6_hasPlace cX6_hasPlace 2 (some .boolean), Cond.methodLink RX6 27 yX6_isMarked, Cond.instanceMethod yX6_isMarked, Cond.selects RX6 yX6_isMarked yX6_isMarked, Cond.code yX6_isMarked cX6_isMarked 4 (some .boolean)]
def wsX2_fits_r6 : List Cond := [Cond.methodLink RX3 34 yX3_drawLine, Cond.static yX3_drawLine, Cond.code yX3_drawLine cX3_drawLine 9 none, Cond.methodLink RX3 74 Lib.Math.abs.name, Cond.static Lib.Math.abs.name, Cond.code Lib.Math.abs.name Lib.Math.abs.code 1 (some .int), Cond.methodLink RX3 79 Lib.Math.max.name, Cond.static Lib.Math.max.name, Cond.code Lib.Math.max.name Lib.Math.max.code 2 (some .int), Cond.methodLink RX3 82 yX3_rounded, Cond.static yX3_rounded, Cond.code yX3_rounded cX3_rounded 2 (some .int), Cond.methodLink RX3 85 yJ9_floorDiv_7cf53, Cond.static yJ9_floorDiv_7cf53, Cond.initialized RJ9, Cond.code yJ9_floorDiv_7cf53 cJ9_floorDiv_7cf53 3 (some .int), Cond.methodLink RX2 83 yX6_isWithin, Cond.instanceMethod yX6_isWithin, Cond.selects RX6 yX6_isWithin yX6_isWithin, Cond.code yX6_isWithin cX6_isWithin 3 (some .boolean), Cond.constantLong RX6 30 (-1)]
def wsX2_fits : List Cond := .code yX2_fits cX2_fits 6 (some .boolean) :: ((wsX2_fits_r1 ++ (wsX2_fits_r2 ++ (wsX2_fits_r3 ++ (wsX2_fits_r4 ++ (wsX2_fits_r5 ++ wsX2_fits_r6))))) ++ wsX20 ++ wsX10 ++ wsX60 ++ wsX50 ++ wsX00 ++ wsX30)
def wsX5_partsOfKind : List Cond := .code yX5_partsOfKind cX5_partsOfKind 2 (some .int) :: ([.fieldLink RX5 24 "CamFigures$Message" "pegs" "I"] ++ wsX50)
def wsX2_search_r1 : List Cond := [Cond.fieldLink RX2 27 "CamFigures$Guess" "kind" "I", Cond.fieldLink RX2 31 "CamFigures$Guess" "which" "I", Cond.fieldLink RX2 42 "CamFigures$Guess" "message" "LCamFigures$Message;", Cond.methodLink RX2 46 yX2_fits, Cond.instanceMethod yX2_fits, Cond.selects RX2 yX2_fits yX2_fits, Cond.initialized RX2, Cond.code yX2_fits cX2_fits 6 (some .boolean), Cond.fieldLink RX2 12 "CamFigures$Guess" "supposed" "LCamFigures$Faults;", Cond.fieldLink RX2 23 "CamFigures$Guess" "trial" "LCamFigures$Paper;", Cond.fieldLink RX2 38 "CamFigures$Guess" "cams" "LCamFigures$Cams;", Cond.fieldLink RX2 34 "CamFigures$Guess" "hand" "LCamFigures$Hand;", Cond.methodLink RX2 56 yX1_clear, Cond.instanceMethod yX1_clear, Cond.selects RX1 yX1_clear yX1_clear, Cond.initialized RX1, Cond.code yX1_clear cX1_clear 1 none, Cond.fieldLink RX1 11 "CamFigures$Faults" "worn" "I", Cond.fieldLink RX1 15 "CamFigures$Faults" "loose" "I", Cond.fieldLink RX1 18 "CamFigures$Faults" "bent" "I", Cond.methodLink RX2 59 yX1_tell, Cond.instanceMethod yX1_tell, Cond.selects RX1 yX1_tell yX1_tell, Cond.code yX1_tell cX1_tell 3 none]
def wsX2_search_r2 : List Cond := [Cond.methodLink RX2 63 yX6_clear, Cond.instanceMethod yX6_clear, Cond.selects RX6 yX6_clear yX6_clear, Cond.initialized RX6, Cond.code yX6_clear cX6_clear 1 none, Cond.fieldLink RX6 9 "CamFigures$Paper" "words" "[J", Cond.methodLink RX6 17 yJ7_fill_d0a16, Cond.static yJ7_fill_d0a16, Cond.initialized RJ7, Cond.code yJ7_fill_d0a16 cJ7_fill_d0a16 5 none, Cond.methodLink RX2 64 yX5_pegs, Cond.instanceMethod yX5_pegs, Cond.selects RX5 yX5_pegs yX5_pegs, Cond.initialized RX5, Cond.code yX5_pegs cX5_pegs 1 (some .int), Cond.fieldLink RX5 24 "CamFigures$Message" "pegs" "I", Cond.methodLink RX2 68 yX1_isLoose, Cond.instanceMethod yX1_isLoose, Cond.selects RX1 yX1_isLoose yX1_isLoose, Cond.code yX1_isLoose cX1_isLoose 2 (some .boolean), Cond.methodLink RX2 72 yX0_steps, Cond.instanceMethod yX0_steps, Cond.selects RX0 yX0_steps yX0_steps, Cond.initialized RX0]
def wsX2_search_r3 : List Cond := [Cond.code yX0_steps cX0_steps 1 (some .int), Cond.fieldLink RX0 24 "CamFigures$Cams" "steps" "I", Cond.methodLink RX2 77 yX3_writeStep, Cond.instanceMethod yX3_writeStep, Cond.selects RX3 yX3_writeStep yX3_writeStep, Cond.initialized RX3, Cond.code yX3_writeStep cX3_writeStep 9 none, Cond.methodLink RX3 17 yX3_isDown, Cond.instanceMethod yX3_isDown, Cond.selects RX3 yX3_isDown yX3_isDown, Cond.code yX3_isDown cX3_isDown 4 (some .boolean), Cond.fieldLink RX3 13 "CamFigures$Hand" "message" "LCamFigures$Message;", Cond.methodLink RX3 38 yX5_liftOfPeg, Cond.instanceMethod yX5_liftOfPeg, Cond.selects RX5 yX5_liftOfPeg yX5_liftOfPeg, Cond.code yX5_liftOfPeg cX5_liftOfPeg 2 (some .int), Cond.fieldLink RX5 18 "CamFigures$Message" "lift" "[I", Cond.fieldLink RX5 21 "CamFigures$Message" "letters" "[I", Cond.methodLink RX3 44 yX3_heightOf, Cond.instanceMethod yX3_heightOf, Cond.selects RX3 yX3_heightOf yX3_heightOf, Cond.code yX3_heightOf cX3_heightOf 4 (some .int), Cond.fieldLink RX3 7 "CamFigures$Hand" "cams" "LCamFigures$Cams;", Cond.methodLink RX3 65 yX0_heightAt]
def wsX2_search_r4 : List Cond := [Cond.instanceMethod yX0_heightAt, Cond.selects RX0 yX0_heightAt yX0_heightAt, Cond.code yX0_heightAt cX0_heightAt 3 (some .int), Cond.fieldLink RX0 11 "CamFigures$Cams" "rows" "[[I", Cond.methodLink RX3 71 yX1_wornHeight, Cond.instanceMethod yX1_wornHeight, Cond.selects RX1 yX1_wornHeight yX1_wornHeight, Cond.code yX1_wornHeight cX1_wornHeight 3 (some .int), Cond.methodLink RX3 21 yX3_xAt, Cond.instanceMethod yX3_xAt, Cond.selects RX3 yX3_xAt yX3_xAt, Cond.code yX3_xAt cX3_xAt 5 (some .int), Cond.methodLink RX3 47 yX5_acrossOfPeg, Cond.instanceMethod yX5_acrossOfPeg, Cond.selects RX5 yX5_acrossOfPeg yX5_acrossOfPeg, Cond.code yX5_acrossOfPeg cX5_acrossOfPeg 2 (some .int), Cond.fieldLink RX5 9 "CamFigures$Message" "across" "[I", Cond.methodLink RX3 50 yX5_space, Cond.instanceMethod yX5_space, Cond.selects RX5 yX5_space yX5_space, Cond.code yX5_space cX5_space 1 (some .int), Cond.fieldLink RX5 28 "CamFigures$Message" "space" "I", Cond.methodLink RX3 54 yX1_bentX, Cond.instanceMethod yX1_bentX]
def wsX2_search_r5 : List Cond := [Cond.selects RX1 yX1_bentX yX1_bentX, Cond.code yX1_bentX cX1_bentX 2 (some .int), Cond.methodLink RX3 25 yX3_yAt, Cond.instanceMethod yX3_yAt, Cond.selects RX3 yX3_yAt yX3_yAt, Cond.code yX3_yAt cX3_yAt 4 (some .int), Cond.methodLink RX3 59 yX5_upOfPeg, Cond.instanceMethod yX5_upOfPeg, Cond.selects RX5 yX5_upOfPeg yX5_upOfPeg, Cond.code yX5_upOfPeg cX5_upOfPeg 2 (some .int), Cond.fieldLink RX5 15 "CamFigures$Message" "up" "[I", Cond.methodLink RX3 62 yX1_bentY, Cond.instanceMethod yX1_bentY, Cond.selects RX1 yX1_bentY yX1_bentY, Cond.code yX1_bentY cX1_bentY 2 (some .int), Cond.methodLink RX1 21 Lib.Math.min.name, Cond.static Lib.Math.min.name, Cond.initialized "java/lang/Math", Cond.code Lib.Math.min.name Lib.Math.min.code 2 (some .int), Cond.methodLink RX3 28 yX6_put, Cond.instanceMethod yX6_put, Cond.selects RX6 yX6_put yX6_put, Cond.code yX6_put cX6_put 6 none, Cond.fieldLink RX6 13 "CamFigures$Paper" "firsts" "[I"]
def wsX2_search_r6 : List Cond := [Cond.methodLink RX6 23 yX6_hasPlace, Cond.static yX6_hasPlace, Cond.code yX6_hasPlace cX6_hasPlace 2 (some .boolean), Cond.methodLink RX6 27 yX6_isMarked, Cond.instanceMethod yX6_isMarked, Cond.selects RX6 yX6_isMarked yX6_isMarked, Cond.code yX6_isMarked cX6_isMarked 4 (some .boolean), Cond.methodLink RX3 34 yX3_drawLine, Cond.static yX3_drawLine, Cond.code yX3_drawLine cX3_drawLine 9 none, Cond.methodLink RX3 74 Lib.Math.abs.name, Cond.static Lib.Math.abs.name, Cond.code Lib.Math.abs.name Lib.Math.abs.code 1 (some .int), Cond.methodLink RX3 79 Lib.Math.max.name, Cond.static Lib.Math.max.name, Cond.code Lib.Math.max.name Lib.Math.max.code 2 (some .int), Cond.methodLink RX3 82 yX3_rounded, Cond.static yX3_rounded, Cond.code yX3_rounded cX3_rounded 2 (some .int), Cond.methodLink RX3 85 yJ9_floorDiv_7cf53, Cond.static yJ9_floorDiv_7cf53, Cond.initialized RJ9, Cond.code yJ9_floorDiv_7cf53 cJ9_floorDiv_7cf53 3 (some .int), Cond.methodLink RX2 83 yX6_isWithin]
def wsX2_search_r7 : List Cond := [Cond.instanceMethod yX6_isWithin, Cond.selects RX6 yX6_isWithin yX6_isWithin, Cond.code yX6_isWithin cX6_isWithin 3 (some .boolean), Cond.constantLong RX6 30 (-1), Cond.methodLink RX2 50 yX5_partsOfKind, Cond.instanceMethod yX5_partsOfKind, Cond.selects RX5 yX5_partsOfKind yX5_partsOfKind, Cond.code yX5_partsOfKind cX5_partsOfKind 2 (some .int)]
def wsX2_search : List Cond := .code yX2_search cX2_search 5 none :: ((wsX2_search_r1 ++ (wsX2_search_r2 ++ (wsX2_search_r3 ++ (wsX2_search_r4 ++ (wsX2_search_r5 ++ (wsX2_search_r6 ++ wsX2_search_r7)))))) ++ wsX20 ++ wsX10 ++ wsX60 ++ wsX50 ++ wsX00 ++ wsX30)
def wsX3_init : List Cond := .code yX3_init cX3_init 3 none :: ([.methodLink RX3 1 objectInit, .instanceMethod objectInit, .code objectInit ⟨#[0xb1]⟩ 1 none, .fieldLink RX3 7 "CamFigures$Hand" "cams" "LCamFigures$Cams;", .fieldLink RX3 13 "CamFigures$Hand" "message" "LCamFigures$Message;"] ++ wsX30)
def wsX4_init : List Cond := .code yX4_init cX4_init 1 none :: ([.methodLink RX4 3 objectInit, .instanceMethod objectInit, .code objectInit ⟨#[0xb1]⟩ 1 none, .classLink RX4 11 "[[I", .arrayClass .int, .fieldLink RX4 13 "CamFigures$Makers" "habits" "[[I", .fieldLink RX4 16 "CamFigures$Makers" "totals" "[I", .fieldLink RX4 20 "CamFigures$Makers" "times" "[I"] ++ wsX40)
def wsX4_total : List Cond := .code yX4_total cX4_total 2 (some .int) :: ([.fieldLink RX4 16 "CamFigures$Makers" "totals" "[I"] ++ wsX40)
def wsX4_tally : List Cond := .code yX4_tally cX4_tally 5 none :: ([.fieldLink RX4 20 "CamFigures$Makers" "times" "[I", .methodLink RX4 43 yJ7_fill_53178, .static yJ7_fill_53178, .initialized RJ7, .code yJ7_fill_53178 cJ7_fill_53178 4 none, .methodLink RX4 27 yX0_steps, .instanceMethod yX0_steps, .selects RX0 yX0_steps yX0_steps, .initialized RX0, .code yX0_steps cX0_steps 1 (some .int), .fieldLink RX0 24 "CamFigures$Cams" "steps" "I", .methodLink RX4 49 yX0_heightAt, .instanceMethod yX0_heightAt, .selects RX0 yX0_heightAt yX0_heightAt, .code yX0_heightAt cX0_heightAt 3 (some .int), .fieldLink RX0 11 "CamFigures$Cams" "rows" "[[I"] ++ wsX40 ++ wsX00)
def wsX4_learn : List Cond := .code yX4_learn cX4_learn 5 none :: ([.fieldLink RX4 13 "CamFigures$Makers" "habits" "[[I", .fieldLink RX4 20 "CamFigures$Makers" "times" "[I", .fieldLink RX4 16 "CamFigures$Makers" "totals" "[I", .methodLink RX4 23 yX4_tally, .instanceMethod yX4_tally, .selects RX4 yX4_tally yX4_tally, .initialized RX4, .code yX4_tally cX4_tally 5 none, .methodLink RX4 43 yJ7_fill_53178, .static yJ7_fill_53178, .initialized RJ7, .code yJ7_fill_53178 cJ7_fill_53178 4 none, .methodLink RX4 27 yX0_steps, .instanceMethod yX0_steps, .selects RX0 yX0_steps yX0_steps, .initialized RX0, .code yX0_steps cX0_steps 1 (some .int), .fieldLink RX0 24 "CamFigures$Cams" "steps" "I", .methodLink RX4 49 yX0_heightAt, .instanceMethod yX0_heightAt, .selects RX0 yX0_heightAt yX0_heightAt, .code yX0_heightAt cX0_heightAt 3 (some .int), .fieldLink RX0 11 "CamFigures$Cams" "rows" "[[I"] ++ wsX40 ++ wsX00)
def wsX4_likeness_r1 : List Cond := [Cond.fieldLink RX4 20 "CamFigures$Makers" "times" "[I", Cond.fieldLink RX4 16 "CamFigures$Makers" "totals" "[I", Cond.fieldLink RX4 13 "CamFigures$Makers" "habits" "[[I", Cond.methodLink RX4 33 Lib.Math.abs.name, Cond.static Lib.Math.abs.name, Cond.initialized "java/lang/Math", Cond.code Lib.Math.abs.name Lib.Math.abs.code 1 (some .int), Cond.methodLink RX4 23 yX4_tally, Cond.instanceMethod yX4_tally, Cond.selects RX4 yX4_tally yX4_tally, Cond.initialized RX4, Cond.code yX4_tally cX4_tally 5 none, Cond.methodLink RX4 43 yJ7_fill_53178, Cond.static yJ7_fill_53178, Cond.initialized RJ7, Cond.code yJ7_fill_53178 cJ7_fill_53178 4 none, Cond.methodLink RX4 27 yX0_steps, Cond.instanceMethod yX0_steps, Cond.selects RX0 yX0_steps yX0_steps, Cond.initialized RX0, Cond.code yX0_steps cX0_steps 1 (some .int), Cond.fieldLink RX0 24 "CamFigures$Cams" "steps" "I", Cond.methodLink RX4 49 yX0_heightAt, Cond.instanceMethod yX0_heightAt]
def wsX4_likeness_r2 : List Cond := [Cond.selects RX0 yX0_heightAt yX0_heightAt, Cond.code yX0_heightAt cX0_heightAt 3 (some .int), Cond.fieldLink RX0 11 "CamFigures$Cams" "rows" "[[I"]
def wsX4_likeness : List Cond := .code yX4_likeness cX4_likeness 6 (some .int) :: ((wsX4_likeness_r1 ++ wsX4_likeness_r2) ++ wsX40 ++ wsX00)
def wsX4_nearest_r1 : List Cond := [Cond.fieldLink RX4 16 "CamFigures$Makers" "totals" "[I", Cond.methodLink RX4 39 yX4_likeness, Cond.instanceMethod yX4_likeness, Cond.selects RX4 yX4_likeness yX4_likeness, Cond.initialized RX4, Cond.code yX4_likeness cX4_likeness 6 (some .int), Cond.fieldLink RX4 20 "CamFigures$Makers" "times" "[I", Cond.fieldLink RX4 13 "CamFigures$Makers" "habits" "[[I", Cond.methodLink RX4 33 Lib.Math.abs.name, Cond.static Lib.Math.abs.name, Cond.initialized "java/lang/Math", Cond.code Lib.Math.abs.name Lib.Math.abs.code 1 (some .int), Cond.methodLink RX4 23 yX4_tally, Cond.instanceMethod yX4_tally, Cond.selects RX4 yX4_tally yX4_tally, Cond.code yX4_tally cX4_tally 5 none, Cond.methodLink RX4 43 yJ7_fill_53178, Cond.static yJ7_fill_53178, Cond.initialized RJ7, Cond.code yJ7_fill_53178 cJ7_fill_53178 4 none, Cond.methodLink RX4 27 yX0_steps, Cond.instanceMethod yX0_steps, Cond.selects RX0 yX0_steps yX0_steps, Cond.initialized RX0]
def wsX4_nearest_r2 : List Cond := [Cond.code yX0_steps cX0_steps 1 (some .int), Cond.fieldLink RX0 24 "CamFigures$Cams" "steps" "I", Cond.methodLink RX4 49 yX0_heightAt, Cond.instanceMethod yX0_heightAt, Cond.selects RX0 yX0_heightAt yX0_heightAt, Cond.code yX0_heightAt cX0_heightAt 3 (some .int), Cond.fieldLink RX0 11 "CamFigures$Cams" "rows" "[[I"]
def wsX4_nearest : List Cond := .code yX4_nearest cX4_nearest 8 (some .int) :: ((wsX4_nearest_r1 ++ wsX4_nearest_r2) ++ wsX40 ++ wsX00)
def wsX5_init : List Cond := .code yX5_init cX5_init 1 none :: ([.methodLink RX5 3 objectInit, .instanceMethod objectInit, .code objectInit ⟨#[0xb1]⟩ 1 none, .arrayClass .int, .fieldLink RX5 9 "CamFigures$Message" "across" "[I", .fieldLink RX5 15 "CamFigures$Message" "up" "[I", .fieldLink RX5 18 "CamFigures$Message" "lift" "[I", .fieldLink RX5 21 "CamFigures$Message" "letters" "[I", .fieldLink RX5 24 "CamFigures$Message" "pegs" "I", .fieldLink RX5 28 "CamFigures$Message" "space" "I"] ++ wsX50)
def wsX5_setSpace : List Cond := .code yX5_setSpace cX5_setSpace 2 none :: ([.fieldLink RX5 28 "CamFigures$Message" "space" "I"] ++ wsX50)
def wsX5_setCams : List Cond := .code yX5_setCams cX5_setCams 5 none :: ([.fieldLink RX5 9 "CamFigures$Message" "across" "[I", .fieldLink RX5 15 "CamFigures$Message" "up" "[I", .fieldLink RX5 18 "CamFigures$Message" "lift" "[I"] ++ wsX50)
def wsX5_addPeg : List Cond := .code yX5_addPeg cX5_addPeg 2 none :: ([.fieldLink RX5 21 "CamFigures$Message" "letters" "[I", .fieldLink RX5 24 "CamFigures$Message" "pegs" "I"] ++ wsX50)
def wsX5_dropPeg : List Cond := .code yX5_dropPeg cX5_dropPeg 1 none :: ([.fieldLink RX5 24 "CamFigures$Message" "pegs" "I"] ++ wsX50)
def wsX5_hasAllCams : List Cond := .code yX5_hasAllCams cX5_hasAllCams 3 (some .boolean) :: ([.fieldLink RX5 9 "CamFigures$Message" "across" "[I", .fieldLink RX5 15 "CamFigures$Message" "up" "[I", .fieldLink RX5 18 "CamFigures$Message" "lift" "[I", .methodLink RX5 31 yX0_isThere, .instanceMethod yX0_isThere, .selects RX0 yX0_isThere yX0_isThere, .initialized RX0, .code yX0_isThere cX0_isThere 2 (some .boolean), .fieldLink RX0 16 "CamFigures$Cams" "there" "[Z"] ++ wsX50 ++ wsX00)
def wsX5_isWritable : List Cond := .code yX5_isWritable cX5_isWritable 3 (some .boolean) :: ([.fieldLink RX5 24 "CamFigures$Message" "pegs" "I", .fieldLink RX5 21 "CamFigures$Message" "letters" "[I", .methodLink RX5 37 yX5_hasAllCams, .instanceMethod yX5_hasAllCams, .selects RX5 yX5_hasAllCams yX5_hasAllCams, .initialized RX5, .code yX5_hasAllCams cX5_hasAllCams 3 (some .boolean), .fieldLink RX5 9 "CamFigures$Message" "across" "[I", .fieldLink RX5 15 "CamFigures$Message" "up" "[I", .fieldLink RX5 18 "CamFigures$Message" "lift" "[I", .methodLink RX5 31 yX0_isThere, .instanceMethod yX0_isThere, .selects RX0 yX0_isThere yX0_isThere, .initialized RX0, .code yX0_isThere cX0_isThere 2 (some .boolean), .fieldLink RX0 16 "CamFigures$Cams" "there" "[Z"] ++ wsX50 ++ wsX00)
def wsX6_wipe : List Cond := .code yX6_wipe cX6_wipe 4 none :: ([.fieldLink RX6 9 "CamFigures$Paper" "words" "[J", .constantLong RX6 30 (-1)] ++ wsX60)
def wsX6_firstCode : List Cond := .code yX6_firstCode cX6_firstCode 4 (some .int) :: ([.fieldLink RX6 13 "CamFigures$Paper" "firsts" "[I"] ++ wsX60)
def wsX6_pegThatMarked : List Cond := .code yX6_pegThatMarked cX6_pegThatMarked 3 (some .int) :: ([.methodLink RX6 32 yX6_firstCode, .instanceMethod yX6_firstCode, .selects RX6 yX6_firstCode yX6_firstCode, .initialized RX6, .code yX6_firstCode cX6_firstCode 4 (some .int), .fieldLink RX6 13 "CamFigures$Paper" "firsts" "[I"] ++ wsX60)
def wsX6_stepThatMarked : List Cond := .code yX6_stepThatMarked cX6_stepThatMarked 3 (some .int) :: ([.methodLink RX6 32 yX6_firstCode, .instanceMethod yX6_firstCode, .selects RX6 yX6_firstCode yX6_firstCode, .initialized RX6, .code yX6_firstCode cX6_firstCode 4 (some .int), .fieldLink RX6 13 "CamFigures$Paper" "firsts" "[I"] ++ wsX60)
def wsJ13_bitCount_95d88 : List Cond := .code yJ13_bitCount_95d88 cJ13_bitCount_95d88 2 (some .int) :: ([.constantLong RJ13 314 (6148914691236517205), .constantLong RJ13 316 (3689348814741910323), .constantLong RJ13 318 (1085102592571150095)])
def wsX6_size : List Cond := .code yX6_size cX6_size 3 (some .int) :: ([.fieldLink RX6 9 "CamFigures$Paper" "words" "[J", .methodLink RX6 36 yJ13_bitCount_95d88, .static yJ13_bitCount_95d88, .initialized RJ13, .code yJ13_bitCount_95d88 cJ13_bitCount_95d88 2 (some .int), .constantLong RJ13 314 (6148914691236517205), .constantLong RJ13 316 (3689348814741910323), .constantLong RJ13 318 (1085102592571150095)] ++ wsX60)
def wsX7_init : List Cond := .code yX7_init cX7_init 1 none :: ([.methodLink RX7 1 objectInit, .instanceMethod objectInit, .code objectInit ⟨#[0xb1]⟩ 1 none, .fieldLink RX7 7 "CamFigures$Spring" "power" "I", .fieldLink RX7 13 "CamFigures$Spring" "load" "I", .fieldLink RX7 16 "CamFigures$Spring" "strain" "I", .fieldLink RX7 19 "CamFigures$Spring" "ticks" "I", .fieldLink RX7 22 "CamFigures$Spring" "steps" "I"] ++ wsX70)
def wsX7_power : List Cond := .code yX7_power cX7_power 1 (some .int) :: ([.fieldLink RX7 7 "CamFigures$Spring" "power" "I"] ++ wsX70)
def wsX7_load : List Cond := .code yX7_load cX7_load 1 (some .int) :: ([.fieldLink RX7 13 "CamFigures$Spring" "load" "I"] ++ wsX70)
def wsX7_setLoad : List Cond := .code yX7_setLoad cX7_setLoad 2 none :: ([.fieldLink RX7 13 "CamFigures$Spring" "load" "I"] ++ wsX70)
def wsX7_strain : List Cond := .code yX7_strain cX7_strain 1 (some .int) :: ([.fieldLink RX7 16 "CamFigures$Spring" "strain" "I"] ++ wsX70)
def wsX7_ticks : List Cond := .code yX7_ticks cX7_ticks 1 (some .int) :: ([.fieldLink RX7 19 "CamFigures$Spring" "ticks" "I"] ++ wsX70)
def wsX7_steps : List Cond := .code yX7_steps cX7_steps 1 (some .int) :: ([.fieldLink RX7 22 "CamFigures$Spring" "steps" "I"] ++ wsX70)
def wsX7_wear : List Cond := .code yX7_wear cX7_wear 1 (some .int) :: ([.fieldLink RX7 22 "CamFigures$Spring" "steps" "I", .methodLink RX7 25 Lib.Math.min.name, .static Lib.Math.min.name, .initialized "java/lang/Math", .code Lib.Math.min.name Lib.Math.min.code 2 (some .int)] ++ wsX70)
def wsX7_tighten : List Cond := .code yX7_tighten cX7_tighten 2 none :: ([.fieldLink RX7 7 "CamFigures$Spring" "power" "I", .fieldLink RX7 16 "CamFigures$Spring" "strain" "I"] ++ wsX70)
def wsX7_ticksOfStep : List Cond := .code yX7_ticksOfStep cX7_ticksOfStep 1 (some .int) :: ([.fieldLink RX7 7 "CamFigures$Spring" "power" "I"] ++ wsX70)
def wsX7_makeStep : List Cond := .code yX7_makeStep cX7_makeStep 2 (some .boolean) :: ([.fieldLink RX7 13 "CamFigures$Spring" "load" "I", .fieldLink RX7 7 "CamFigures$Spring" "power" "I", .fieldLink RX7 19 "CamFigures$Spring" "ticks" "I", .fieldLink RX7 22 "CamFigures$Spring" "steps" "I", .methodLink RX7 31 yX7_wear, .instanceMethod yX7_wear, .selects RX7 yX7_wear yX7_wear, .initialized RX7, .code yX7_wear cX7_wear 1 (some .int), .methodLink RX7 25 Lib.Math.min.name, .static Lib.Math.min.name, .initialized "java/lang/Math", .code Lib.Math.min.name Lib.Math.min.code 2 (some .int), .methodLink RX7 35 yX7_ticksOfStep, .instanceMethod yX7_ticksOfStep, .selects RX7 yX7_ticksOfStep yX7_ticksOfStep, .code yX7_ticksOfStep cX7_ticksOfStep 1 (some .int)] ++ wsX70)
def wsX8_init_r1 : List Cond := [Cond.methodLink RX8 1 objectInit, Cond.instanceMethod objectInit, Cond.code objectInit ⟨#[0xb1]⟩ 1 none, Cond.classLink RX8 7 RX0, Cond.instantiable RX0 4, Cond.initialized RX0, Cond.fieldLink RX8 10 "CamFigures" "cams" "LCamFigures$Cams;", Cond.classLink RX8 16 RX5, Cond.instantiable RX5 6, Cond.initialized RX5, Cond.fieldLink RX8 19 "CamFigures" "message" "LCamFigures$Message;", Cond.classLink RX8 23 RX7, Cond.instantiable RX7 5, Cond.initialized RX7, Cond.fieldLink RX8 26 "CamFigures" "spring" "LCamFigures$Spring;", Cond.classLink RX8 30 RX6, Cond.instantiable RX6 2, Cond.initialized RX6, Cond.fieldLink RX8 35 "CamFigures" "paper" "LCamFigures$Paper;", Cond.classLink RX8 39 RX1, Cond.instantiable RX1 3, Cond.initialized RX1, Cond.fieldLink RX8 42 "CamFigures" "faults" "LCamFigures$Faults;", Cond.classLink RX8 46 RX3]
def wsX8_init_r2 : List Cond := [Cond.instantiable RX3 2, Cond.initialized RX3, Cond.fieldLink RX8 51 "CamFigures" "hand" "LCamFigures$Hand;", Cond.classLink RX8 55 RX2, Cond.instantiable RX2 7, Cond.initialized RX2, Cond.fieldLink RX8 60 "CamFigures" "guess" "LCamFigures$Guess;", Cond.classLink RX8 64 RX4, Cond.instantiable RX4 3, Cond.initialized RX4, Cond.fieldLink RX8 67 "CamFigures" "makers" "LCamFigures$Makers;", Cond.arrayClass .int, Cond.fieldLink RX8 71 "CamFigures" "refusals" "[I", Cond.fieldLink RX8 75 "CamFigures" "shows" "I", Cond.fieldLink RX8 79 "CamFigures" "showsDone" "I", Cond.instanceMethod yX0_init, Cond.code yX0_init cX0_init 1 none, Cond.methodLink RX0 3 objectInit, Cond.classLink RX0 9 "[[I", Cond.fieldLink RX0 11 "CamFigures$Cams" "rows" "[[I", Cond.arrayClass .boolean, Cond.fieldLink RX0 16 "CamFigures$Cams" "there" "[Z", Cond.fieldLink RX0 20 "CamFigures$Cams" "spare" "[I", Cond.fieldLink RX0 24 "CamFigures$Cams" "steps" "I"]
def wsX8_init_r3 : List Cond := [Cond.instanceMethod yX5_init, Cond.code yX5_init cX5_init 1 none, Cond.methodLink RX5 3 objectInit, Cond.fieldLink RX5 9 "CamFigures$Message" "across" "[I", Cond.fieldLink RX5 15 "CamFigures$Message" "up" "[I", Cond.fieldLink RX5 18 "CamFigures$Message" "lift" "[I", Cond.fieldLink RX5 21 "CamFigures$Message" "letters" "[I", Cond.fieldLink RX5 24 "CamFigures$Message" "pegs" "I", Cond.fieldLink RX5 28 "CamFigures$Message" "space" "I", Cond.instanceMethod yX7_init, Cond.code yX7_init cX7_init 1 none, Cond.methodLink RX7 1 objectInit, Cond.fieldLink RX7 7 "CamFigures$Spring" "power" "I", Cond.fieldLink RX7 13 "CamFigures$Spring" "load" "I", Cond.fieldLink RX7 16 "CamFigures$Spring" "strain" "I", Cond.fieldLink RX7 19 "CamFigures$Spring" "ticks" "I", Cond.fieldLink RX7 22 "CamFigures$Spring" "steps" "I", Cond.methodLink RX8 32 yX6_init, Cond.instanceMethod yX6_init, Cond.code yX6_init cX6_init 2 none, Cond.methodLink RX6 1 objectInit, Cond.arrayClass .long, Cond.fieldLink RX6 9 "CamFigures$Paper" "words" "[J", Cond.fieldLink RX6 13 "CamFigures$Paper" "firsts" "[I"]
def wsX8_init_r4 : List Cond := [Cond.instanceMethod yX1_init, Cond.code yX1_init cX1_init 1 none, Cond.methodLink RX1 3 objectInit, Cond.fieldLink RX1 11 "CamFigures$Faults" "worn" "I", Cond.fieldLink RX1 15 "CamFigures$Faults" "loose" "I", Cond.fieldLink RX1 18 "CamFigures$Faults" "bent" "I", Cond.methodLink RX8 48 yX3_init, Cond.instanceMethod yX3_init, Cond.code yX3_init cX3_init 3 none, Cond.methodLink RX3 1 objectInit, Cond.fieldLink RX3 7 "CamFigures$Hand" "cams" "LCamFigures$Cams;", Cond.fieldLink RX3 13 "CamFigures$Hand" "message" "LCamFigures$Message;", Cond.methodLink RX8 57 yX2_init, Cond.instanceMethod yX2_init, Cond.code yX2_init cX2_init 4 none, Cond.methodLink RX2 3 objectInit, Cond.classLink RX2 9 RX1, Cond.fieldLink RX2 12 "CamFigures$Guess" "supposed" "LCamFigures$Faults;", Cond.classLink RX2 18 RX6, Cond.fieldLink RX2 23 "CamFigures$Guess" "trial" "LCamFigures$Paper;", Cond.fieldLink RX2 27 "CamFigures$Guess" "kind" "I", Cond.fieldLink RX2 31 "CamFigures$Guess" "which" "I", Cond.fieldLink RX2 34 "CamFigures$Guess" "hand" "LCamFigures$Hand;", Cond.fieldLink RX2 38 "CamFigures$Guess" "cams" "LCamFigures$Cams;"]
def wsX8_init_r5 : List Cond := [Cond.fieldLink RX2 42 "CamFigures$Guess" "message" "LCamFigures$Message;", Cond.methodLink RX2 20 yX6_init, Cond.instanceMethod yX4_init, Cond.code yX4_init cX4_init 1 none, Cond.methodLink RX4 3 objectInit, Cond.classLink RX4 11 "[[I", Cond.fieldLink RX4 13 "CamFigures$Makers" "habits" "[[I", Cond.fieldLink RX4 16 "CamFigures$Makers" "totals" "[I", Cond.fieldLink RX4 20 "CamFigures$Makers" "times" "[I"]
def wsX8_init : List Cond := .code yX8_init cX8_init 1 none :: ((wsX8_init_r1 ++ (wsX8_init_r2 ++ (wsX8_init_r3 ++ (wsX8_init_r4 ++ wsX8_init_r5)))) ++ wsX00 ++ wsX80 ++ wsX50 ++ wsX70 ++ wsX60 ++ wsX10 ++ wsX30 ++ wsX20 ++ wsX40)
def wsX8_refuse : List Cond := .code yX8_refuse cX8_refuse 3 (some .int) :: ([.fieldLink RX8 71 "CamFigures" "refusals" "[I"] ++ wsX80)
def wsX8_length_r1 : List Cond := [Cond.fieldLink RX8 10 "CamFigures" "cams" "LCamFigures$Cams;", Cond.fieldLink RX8 35 "CamFigures" "paper" "LCamFigures$Paper;", Cond.methodLink RX8 82 yX8_refuse, Cond.instanceMethod yX8_refuse, Cond.selects RX8 yX8_refuse yX8_refuse, Cond.initialized RX8, Cond.code yX8_refuse cX8_refuse 3 (some .int), Cond.fieldLink RX8 71 "CamFigures" "refusals" "[I", Cond.methodLink RX8 86 yX0_steps, Cond.instanceMethod yX0_steps, Cond.selects RX0 yX0_steps yX0_steps, Cond.initialized RX0, Cond.code yX0_steps cX0_steps 1 (some .int), Cond.fieldLink RX0 24 "CamFigures$Cams" "steps" "I", Cond.methodLink RX8 90 yX0_startAnew, Cond.instanceMethod yX0_startAnew, Cond.selects RX0 yX0_startAnew yX0_startAnew, Cond.code yX0_startAnew cX0_startAnew 3 none, Cond.fieldLink RX0 16 "CamFigures$Cams" "there" "[Z", Cond.methodLink RX8 94 yX6_clear, Cond.instanceMethod yX6_clear, Cond.selects RX6 yX6_clear yX6_clear, Cond.initialized RX6, Cond.code yX6_clear cX6_clear 1 none]
def wsX8_length_r2 : List Cond := [Cond.fieldLink RX6 9 "CamFigures$Paper" "words" "[J", Cond.methodLink RX6 17 yJ7_fill_d0a16, Cond.static yJ7_fill_d0a16, Cond.initialized RJ7, Cond.code yJ7_fill_d0a16 cJ7_fill_d0a16 5 none]
def wsX8_length : List Cond := .code yX8_length cX8_length 3 (some .int) :: ((wsX8_length_r1 ++ wsX8_length_r2) ++ wsX80 ++ wsX00 ++ wsX60)
def wsX8_isCam : List Cond := .code yX8_isCam cX8_isCam 1 (some .boolean) :: ([])
def wsX8_blank_r1 : List Cond := [Cond.fieldLink RX8 10 "CamFigures" "cams" "LCamFigures$Cams;", Cond.methodLink RX8 97 yX8_isCam, Cond.static yX8_isCam, Cond.initialized RX8, Cond.code yX8_isCam cX8_isCam 1 (some .boolean), Cond.methodLink RX8 82 yX8_refuse, Cond.instanceMethod yX8_refuse, Cond.selects RX8 yX8_refuse yX8_refuse, Cond.code yX8_refuse cX8_refuse 3 (some .int), Cond.fieldLink RX8 71 "CamFigures" "refusals" "[I", Cond.methodLink RX8 101 yX0_isThere, Cond.instanceMethod yX0_isThere, Cond.selects RX0 yX0_isThere yX0_isThere, Cond.initialized RX0, Cond.code yX0_isThere cX0_isThere 2 (some .boolean), Cond.fieldLink RX0 16 "CamFigures$Cams" "there" "[Z", Cond.methodLink RX8 104 yX0_makeFlat, Cond.instanceMethod yX0_makeFlat, Cond.selects RX0 yX0_makeFlat yX0_makeFlat, Cond.code yX0_makeFlat cX0_makeFlat 2 none, Cond.fieldLink RX0 11 "CamFigures$Cams" "rows" "[[I", Cond.methodLink RX0 28 yJ7_fill_53178, Cond.static yJ7_fill_53178, Cond.initialized RJ7]
def wsX8_blank_r2 : List Cond := [Cond.code yJ7_fill_53178 cJ7_fill_53178 4 none]
def wsX8_blank : List Cond := .code yX8_blank cX8_blank 3 (some .int) :: ((wsX8_blank_r1 ++ wsX8_blank_r2) ++ wsX80 ++ wsX00)
def wsX8_refusalOfCam : List Cond := .code yX8_refusalOfCam cX8_refusalOfCam 2 (some .int) :: ([.fieldLink RX8 10 "CamFigures" "cams" "LCamFigures$Cams;", .methodLink RX8 97 yX8_isCam, .static yX8_isCam, .initialized RX8, .code yX8_isCam cX8_isCam 1 (some .boolean), .methodLink RX8 101 yX0_isThere, .instanceMethod yX0_isThere, .selects RX0 yX0_isThere yX0_isThere, .initialized RX0, .code yX0_isThere cX0_isThere 2 (some .boolean), .fieldLink RX0 16 "CamFigures$Cams" "there" "[Z"] ++ wsX80 ++ wsX00)
def wsX8_lose : List Cond := .code yX8_lose cX8_lose 3 (some .int) :: ([.fieldLink RX8 10 "CamFigures" "cams" "LCamFigures$Cams;", .methodLink RX8 107 yX8_refusalOfCam, .instanceMethod yX8_refusalOfCam, .selects RX8 yX8_refusalOfCam yX8_refusalOfCam, .initialized RX8, .code yX8_refusalOfCam cX8_refusalOfCam 2 (some .int), .methodLink RX8 97 yX8_isCam, .static yX8_isCam, .code yX8_isCam cX8_isCam 1 (some .boolean), .methodLink RX8 101 yX0_isThere, .instanceMethod yX0_isThere, .selects RX0 yX0_isThere yX0_isThere, .initialized RX0, .code yX0_isThere cX0_isThere 2 (some .boolean), .fieldLink RX0 16 "CamFigures$Cams" "there" "[Z", .methodLink RX8 82 yX8_refuse, .instanceMethod yX8_refuse, .selects RX8 yX8_refuse yX8_refuse, .code yX8_refuse cX8_refuse 3 (some .int), .fieldLink RX8 71 "CamFigures" "refusals" "[I", .methodLink RX8 110 yX0_remove, .instanceMethod yX0_remove, .selects RX0 yX0_remove yX0_remove, .code yX0_remove cX0_remove 2 none] ++ wsX80 ++ wsX00)
def wsX8_refusalOfStep : List Cond := .code yX8_refusalOfStep cX8_refusalOfStep 4 (some .int) :: ([.fieldLink RX8 10 "CamFigures" "cams" "LCamFigures$Cams;", .methodLink RX8 107 yX8_refusalOfCam, .instanceMethod yX8_refusalOfCam, .selects RX8 yX8_refusalOfCam yX8_refusalOfCam, .initialized RX8, .code yX8_refusalOfCam cX8_refusalOfCam 2 (some .int), .methodLink RX8 97 yX8_isCam, .static yX8_isCam, .code yX8_isCam cX8_isCam 1 (some .boolean), .methodLink RX8 101 yX0_isThere, .instanceMethod yX0_isThere, .selects RX0 yX0_isThere yX0_isThere, .initialized RX0, .code yX0_isThere cX0_isThere 2 (some .boolean), .fieldLink RX0 16 "CamFigures$Cams" "there" "[Z", .methodLink RX8 86 yX0_steps, .instanceMethod yX0_steps, .selects RX0 yX0_steps yX0_steps, .code yX0_steps cX0_steps 1 (some .int), .fieldLink RX0 24 "CamFigures$Cams" "steps" "I"] ++ wsX80 ++ wsX00)
def wsX8_cutAt_r1 : List Cond := [Cond.fieldLink RX8 10 "CamFigures" "cams" "LCamFigures$Cams;", Cond.methodLink RX8 113 yX8_refusalOfStep, Cond.instanceMethod yX8_refusalOfStep, Cond.selects RX8 yX8_refusalOfStep yX8_refusalOfStep, Cond.initialized RX8, Cond.code yX8_refusalOfStep cX8_refusalOfStep 4 (some .int), Cond.methodLink RX8 107 yX8_refusalOfCam, Cond.instanceMethod yX8_refusalOfCam, Cond.selects RX8 yX8_refusalOfCam yX8_refusalOfCam, Cond.code yX8_refusalOfCam cX8_refusalOfCam 2 (some .int), Cond.methodLink RX8 97 yX8_isCam, Cond.static yX8_isCam, Cond.code yX8_isCam cX8_isCam 1 (some .boolean), Cond.methodLink RX8 101 yX0_isThere, Cond.instanceMethod yX0_isThere, Cond.selects RX0 yX0_isThere yX0_isThere, Cond.initialized RX0, Cond.code yX0_isThere cX0_isThere 2 (some .boolean), Cond.fieldLink RX0 16 "CamFigures$Cams" "there" "[Z", Cond.methodLink RX8 86 yX0_steps, Cond.instanceMethod yX0_steps, Cond.selects RX0 yX0_steps yX0_steps, Cond.code yX0_steps cX0_steps 1 (some .int), Cond.fieldLink RX0 24 "CamFigures$Cams" "steps" "I"]
def wsX8_cutAt_r2 : List Cond := [Cond.methodLink RX8 82 yX8_refuse, Cond.instanceMethod yX8_refuse, Cond.selects RX8 yX8_refuse yX8_refuse, Cond.code yX8_refuse cX8_refuse 3 (some .int), Cond.fieldLink RX8 71 "CamFigures" "refusals" "[I", Cond.methodLink RX8 117 yX0_heightAt, Cond.instanceMethod yX0_heightAt, Cond.selects RX0 yX0_heightAt yX0_heightAt, Cond.code yX0_heightAt cX0_heightAt 3 (some .int), Cond.fieldLink RX0 11 "CamFigures$Cams" "rows" "[[I", Cond.methodLink RX8 120 yX0_setHeight, Cond.instanceMethod yX0_setHeight, Cond.selects RX0 yX0_setHeight yX0_setHeight, Cond.code yX0_setHeight cX0_setHeight 4 none]
def wsX8_cutAt : List Cond := .code yX8_cutAt cX8_cutAt 6 (some .int) :: ((wsX8_cutAt_r1 ++ wsX8_cutAt_r2) ++ wsX80 ++ wsX00)
def wsX8_height_r1 : List Cond := [Cond.fieldLink RX8 10 "CamFigures" "cams" "LCamFigures$Cams;", Cond.methodLink RX8 113 yX8_refusalOfStep, Cond.instanceMethod yX8_refusalOfStep, Cond.selects RX8 yX8_refusalOfStep yX8_refusalOfStep, Cond.initialized RX8, Cond.code yX8_refusalOfStep cX8_refusalOfStep 4 (some .int), Cond.methodLink RX8 107 yX8_refusalOfCam, Cond.instanceMethod yX8_refusalOfCam, Cond.selects RX8 yX8_refusalOfCam yX8_refusalOfCam, Cond.code yX8_refusalOfCam cX8_refusalOfCam 2 (some .int), Cond.methodLink RX8 97 yX8_isCam, Cond.static yX8_isCam, Cond.code yX8_isCam cX8_isCam 1 (some .boolean), Cond.methodLink RX8 101 yX0_isThere, Cond.instanceMethod yX0_isThere, Cond.selects RX0 yX0_isThere yX0_isThere, Cond.initialized RX0, Cond.code yX0_isThere cX0_isThere 2 (some .boolean), Cond.fieldLink RX0 16 "CamFigures$Cams" "there" "[Z", Cond.methodLink RX8 86 yX0_steps, Cond.instanceMethod yX0_steps, Cond.selects RX0 yX0_steps yX0_steps, Cond.code yX0_steps cX0_steps 1 (some .int), Cond.fieldLink RX0 24 "CamFigures$Cams" "steps" "I"]
def wsX8_height_r2 : List Cond := [Cond.methodLink RX8 82 yX8_refuse, Cond.instanceMethod yX8_refuse, Cond.selects RX8 yX8_refuse yX8_refuse, Cond.code yX8_refuse cX8_refuse 3 (some .int), Cond.fieldLink RX8 71 "CamFigures" "refusals" "[I", Cond.methodLink RX8 117 yX0_heightAt, Cond.instanceMethod yX0_heightAt, Cond.selects RX0 yX0_heightAt yX0_heightAt, Cond.code yX0_heightAt cX0_heightAt 3 (some .int), Cond.fieldLink RX0 11 "CamFigures$Cams" "rows" "[[I"]
def wsX8_height : List Cond := .code yX8_height cX8_height 4 (some .int) :: ((wsX8_height_r1 ++ wsX8_height_r2) ++ wsX80 ++ wsX00)
def wsX8_copy_r1 : List Cond := [Cond.fieldLink RX8 10 "CamFigures" "cams" "LCamFigures$Cams;", Cond.methodLink RX8 97 yX8_isCam, Cond.static yX8_isCam, Cond.initialized RX8, Cond.code yX8_isCam cX8_isCam 1 (some .boolean), Cond.methodLink RX8 82 yX8_refuse, Cond.instanceMethod yX8_refuse, Cond.selects RX8 yX8_refuse yX8_refuse, Cond.code yX8_refuse cX8_refuse 3 (some .int), Cond.fieldLink RX8 71 "CamFigures" "refusals" "[I", Cond.methodLink RX8 101 yX0_isThere, Cond.instanceMethod yX0_isThere, Cond.selects RX0 yX0_isThere yX0_isThere, Cond.initialized RX0, Cond.code yX0_isThere cX0_isThere 2 (some .boolean), Cond.fieldLink RX0 16 "CamFigures$Cams" "there" "[Z", Cond.methodLink RX8 124 yX0_hasSpan, Cond.instanceMethod yX0_hasSpan, Cond.selects RX0 yX0_hasSpan yX0_hasSpan, Cond.code yX0_hasSpan cX0_hasSpan 3 (some .boolean), Cond.fieldLink RX0 24 "CamFigures$Cams" "steps" "I", Cond.methodLink RX8 128 yX0_copySpan, Cond.instanceMethod yX0_copySpan, Cond.selects RX0 yX0_copySpan yX0_copySpan]
def wsX8_copy_r2 : List Cond := [Cond.code yX0_copySpan cX0_copySpan 6 none, Cond.fieldLink RX0 11 "CamFigures$Cams" "rows" "[[I", Cond.methodLink RX0 34 arraycopyName, Cond.native arraycopyName, Cond.static arraycopyName, Cond.initialized "java/lang/System"]
def wsX8_copy : List Cond := .code yX8_copy cX8_copy 6 (some .int) :: ((wsX8_copy_r1 ++ wsX8_copy_r2) ++ wsX80 ++ wsX00)
def wsX8_turn_r1 : List Cond := [Cond.fieldLink RX8 10 "CamFigures" "cams" "LCamFigures$Cams;", Cond.methodLink RX8 113 yX8_refusalOfStep, Cond.instanceMethod yX8_refusalOfStep, Cond.selects RX8 yX8_refusalOfStep yX8_refusalOfStep, Cond.initialized RX8, Cond.code yX8_refusalOfStep cX8_refusalOfStep 4 (some .int), Cond.methodLink RX8 107 yX8_refusalOfCam, Cond.instanceMethod yX8_refusalOfCam, Cond.selects RX8 yX8_refusalOfCam yX8_refusalOfCam, Cond.code yX8_refusalOfCam cX8_refusalOfCam 2 (some .int), Cond.methodLink RX8 97 yX8_isCam, Cond.static yX8_isCam, Cond.code yX8_isCam cX8_isCam 1 (some .boolean), Cond.methodLink RX8 101 yX0_isThere, Cond.instanceMethod yX0_isThere, Cond.selects RX0 yX0_isThere yX0_isThere, Cond.initialized RX0, Cond.code yX0_isThere cX0_isThere 2 (some .boolean), Cond.fieldLink RX0 16 "CamFigures$Cams" "there" "[Z", Cond.methodLink RX8 86 yX0_steps, Cond.instanceMethod yX0_steps, Cond.selects RX0 yX0_steps yX0_steps, Cond.code yX0_steps cX0_steps 1 (some .int), Cond.fieldLink RX0 24 "CamFigures$Cams" "steps" "I"]
def wsX8_turn_r2 : List Cond := [Cond.methodLink RX8 82 yX8_refuse, Cond.instanceMethod yX8_refuse, Cond.selects RX8 yX8_refuse yX8_refuse, Cond.code yX8_refuse cX8_refuse 3 (some .int), Cond.fieldLink RX8 71 "CamFigures" "refusals" "[I", Cond.methodLink RX8 132 yX0_rotate, Cond.instanceMethod yX0_rotate, Cond.selects RX0 yX0_rotate yX0_rotate, Cond.code yX0_rotate cX0_rotate 5 none, Cond.fieldLink RX0 11 "CamFigures$Cams" "rows" "[[I", Cond.fieldLink RX0 20 "CamFigures$Cams" "spare" "[I", Cond.methodLink RX0 34 arraycopyName, Cond.native arraycopyName, Cond.static arraycopyName, Cond.initialized "java/lang/System", Cond.methodLink RX0 40 yX0_further, Cond.instanceMethod yX0_further, Cond.selects RX0 yX0_further yX0_further, Cond.code yX0_further cX0_further 4 (some .int)]
def wsX8_turn : List Cond := .code yX8_turn cX8_turn 4 (some .int) :: ((wsX8_turn_r1 ++ wsX8_turn_r2) ++ wsX80 ++ wsX00)
def wsX8_blanks_r1 : List Cond := [Cond.fieldLink RX8 10 "CamFigures" "cams" "LCamFigures$Cams;", Cond.methodLink RX8 136 yX0_blanksBelow, Cond.instanceMethod yX0_blanksBelow, Cond.selects RX0 yX0_blanksBelow yX0_blanksBelow, Cond.initialized RX0, Cond.code yX0_blanksBelow cX0_blanksBelow 4 (some .int), Cond.fieldLink RX0 16 "CamFigures$Cams" "there" "[Z", Cond.methodLink RX0 44 yX0_leastAlike, Cond.instanceMethod yX0_leastAlike, Cond.selects RX0 yX0_leastAlike yX0_leastAlike, Cond.code yX0_leastAlike cX0_leastAlike 3 (some .int), Cond.methodLink RX0 48 yX0_stepsBetween, Cond.instanceMethod yX0_stepsBetween, Cond.selects RX0 yX0_stepsBetween yX0_stepsBetween, Cond.code yX0_stepsBetween cX0_stepsBetween 4 (some .int), Cond.fieldLink RX0 24 "CamFigures$Cams" "steps" "I", Cond.fieldLink RX0 11 "CamFigures$Cams" "rows" "[[I", Cond.methodLink RX0 51 yX0_isTurnedBy, Cond.instanceMethod yX0_isTurnedBy, Cond.selects RX0 yX0_isTurnedBy yX0_isTurnedBy, Cond.code yX0_isTurnedBy cX0_isTurnedBy 5 (some .boolean), Cond.methodLink RX0 40 yX0_further, Cond.instanceMethod yX0_further, Cond.selects RX0 yX0_further yX0_further]
def wsX8_blanks_r2 : List Cond := [Cond.code yX0_further cX0_further 4 (some .int)]
def wsX8_blanks : List Cond := .code yX8_blanks cX8_blanks 1 (some .int) :: ((wsX8_blanks_r1 ++ wsX8_blanks_r2) ++ wsX80 ++ wsX00)
def wsX8_camOf_r1 : List Cond := [Cond.fieldLink RX8 10 "CamFigures" "cams" "LCamFigures$Cams;", Cond.methodLink RX8 107 yX8_refusalOfCam, Cond.instanceMethod yX8_refusalOfCam, Cond.selects RX8 yX8_refusalOfCam yX8_refusalOfCam, Cond.initialized RX8, Cond.code yX8_refusalOfCam cX8_refusalOfCam 2 (some .int), Cond.methodLink RX8 97 yX8_isCam, Cond.static yX8_isCam, Cond.code yX8_isCam cX8_isCam 1 (some .boolean), Cond.methodLink RX8 101 yX0_isThere, Cond.instanceMethod yX0_isThere, Cond.selects RX0 yX0_isThere yX0_isThere, Cond.initialized RX0, Cond.code yX0_isThere cX0_isThere 2 (some .boolean), Cond.fieldLink RX0 16 "CamFigures$Cams" "there" "[Z", Cond.methodLink RX8 82 yX8_refuse, Cond.instanceMethod yX8_refuse, Cond.selects RX8 yX8_refuse yX8_refuse, Cond.code yX8_refuse cX8_refuse 3 (some .int), Cond.fieldLink RX8 71 "CamFigures" "refusals" "[I", Cond.methodLink RX8 139 yX0_leastAlike, Cond.instanceMethod yX0_leastAlike, Cond.selects RX0 yX0_leastAlike yX0_leastAlike, Cond.code yX0_leastAlike cX0_leastAlike 3 (some .int)]
def wsX8_camOf_r2 : List Cond := [Cond.methodLink RX0 48 yX0_stepsBetween, Cond.instanceMethod yX0_stepsBetween, Cond.selects RX0 yX0_stepsBetween yX0_stepsBetween, Cond.code yX0_stepsBetween cX0_stepsBetween 4 (some .int), Cond.fieldLink RX0 24 "CamFigures$Cams" "steps" "I", Cond.fieldLink RX0 11 "CamFigures$Cams" "rows" "[[I", Cond.methodLink RX0 51 yX0_isTurnedBy, Cond.instanceMethod yX0_isTurnedBy, Cond.selects RX0 yX0_isTurnedBy yX0_isTurnedBy, Cond.code yX0_isTurnedBy cX0_isTurnedBy 5 (some .boolean), Cond.methodLink RX0 40 yX0_further, Cond.instanceMethod yX0_further, Cond.selects RX0 yX0_further yX0_further, Cond.code yX0_further cX0_further 4 (some .int), Cond.methodLink RX8 136 yX0_blanksBelow, Cond.instanceMethod yX0_blanksBelow, Cond.selects RX0 yX0_blanksBelow yX0_blanksBelow, Cond.code yX0_blanksBelow cX0_blanksBelow 4 (some .int), Cond.methodLink RX0 44 yX0_leastAlike, Cond.methodLink RX8 142 yX0_stepsBetween, Cond.methodLink RX8 145 yX0_greatestStep, Cond.instanceMethod yX0_greatestStep, Cond.selects RX0 yX0_greatestStep yX0_greatestStep, Cond.code yX0_greatestStep cX0_greatestStep 5 (some .int)]
def wsX8_camOf_r3 : List Cond := [Cond.methodLink RX0 55 Lib.Math.abs.name, Cond.static Lib.Math.abs.name, Cond.initialized "java/lang/Math", Cond.code Lib.Math.abs.name Lib.Math.abs.code 1 (some .int), Cond.methodLink RX0 60 Lib.Math.max.name, Cond.static Lib.Math.max.name, Cond.code Lib.Math.max.name Lib.Math.max.code 2 (some .int)]
def wsX8_camOf : List Cond := .code yX8_camOf cX8_camOf 4 (some .int) :: ((wsX8_camOf_r1 ++ (wsX8_camOf_r2 ++ wsX8_camOf_r3)) ++ wsX80 ++ wsX00)
def wsX8_isLetter : List Cond := .code yX8_isLetter cX8_isLetter 1 (some .boolean) :: ([])
def wsX8_letter : List Cond := .code yX8_letter cX8_letter 5 (some .int) :: ([.fieldLink RX8 19 "CamFigures" "message" "LCamFigures$Message;", .methodLink RX8 148 yX8_isLetter, .static yX8_isLetter, .initialized RX8, .code yX8_isLetter cX8_isLetter 1 (some .boolean), .methodLink RX8 97 yX8_isCam, .static yX8_isCam, .code yX8_isCam cX8_isCam 1 (some .boolean), .methodLink RX8 82 yX8_refuse, .instanceMethod yX8_refuse, .selects RX8 yX8_refuse yX8_refuse, .code yX8_refuse cX8_refuse 3 (some .int), .fieldLink RX8 71 "CamFigures" "refusals" "[I", .methodLink RX8 151 yX5_setCams, .instanceMethod yX5_setCams, .selects RX5 yX5_setCams yX5_setCams, .initialized RX5, .code yX5_setCams cX5_setCams 5 none, .fieldLink RX5 9 "CamFigures$Message" "across" "[I", .fieldLink RX5 15 "CamFigures$Message" "up" "[I", .fieldLink RX5 18 "CamFigures$Message" "lift" "[I"] ++ wsX80 ++ wsX50)
def wsX8_isCut_r1 : List Cond := [Cond.fieldLink RX8 19 "CamFigures" "message" "LCamFigures$Message;", Cond.fieldLink RX8 10 "CamFigures" "cams" "LCamFigures$Cams;", Cond.methodLink RX8 148 yX8_isLetter, Cond.static yX8_isLetter, Cond.initialized RX8, Cond.code yX8_isLetter cX8_isLetter 1 (some .boolean), Cond.methodLink RX8 82 yX8_refuse, Cond.instanceMethod yX8_refuse, Cond.selects RX8 yX8_refuse yX8_refuse, Cond.code yX8_refuse cX8_refuse 3 (some .int), Cond.fieldLink RX8 71 "CamFigures" "refusals" "[I", Cond.methodLink RX8 155 yX5_hasAllCams, Cond.instanceMethod yX5_hasAllCams, Cond.selects RX5 yX5_hasAllCams yX5_hasAllCams, Cond.initialized RX5, Cond.code yX5_hasAllCams cX5_hasAllCams 3 (some .boolean), Cond.fieldLink RX5 9 "CamFigures$Message" "across" "[I", Cond.fieldLink RX5 15 "CamFigures$Message" "up" "[I", Cond.fieldLink RX5 18 "CamFigures$Message" "lift" "[I", Cond.methodLink RX5 31 yX0_isThere, Cond.instanceMethod yX0_isThere, Cond.selects RX0 yX0_isThere yX0_isThere, Cond.initialized RX0, Cond.code yX0_isThere cX0_isThere 2 (some .boolean)]
def wsX8_isCut_r2 : List Cond := [Cond.fieldLink RX0 16 "CamFigures$Cams" "there" "[Z"]
def wsX8_isCut : List Cond := .code yX8_isCut cX8_isCut 2 (some .int) :: ((wsX8_isCut_r1 ++ wsX8_isCut_r2) ++ wsX80 ++ wsX50 ++ wsX00)
def wsX8_peg : List Cond := .code yX8_peg cX8_peg 2 (some .int) :: ([.fieldLink RX8 19 "CamFigures" "message" "LCamFigures$Message;", .methodLink RX8 148 yX8_isLetter, .static yX8_isLetter, .initialized RX8, .code yX8_isLetter cX8_isLetter 1 (some .boolean), .methodLink RX8 82 yX8_refuse, .instanceMethod yX8_refuse, .selects RX8 yX8_refuse yX8_refuse, .code yX8_refuse cX8_refuse 3 (some .int), .fieldLink RX8 71 "CamFigures" "refusals" "[I", .methodLink RX8 159 yX5_pegs, .instanceMethod yX5_pegs, .selects RX5 yX5_pegs yX5_pegs, .initialized RX5, .code yX5_pegs cX5_pegs 1 (some .int), .fieldLink RX5 24 "CamFigures$Message" "pegs" "I", .methodLink RX8 162 yX5_addPeg, .instanceMethod yX5_addPeg, .selects RX5 yX5_addPeg yX5_addPeg, .code yX5_addPeg cX5_addPeg 2 none, .fieldLink RX5 21 "CamFigures$Message" "letters" "[I"] ++ wsX80 ++ wsX50)
def wsX8_unpeg : List Cond := .code yX8_unpeg cX8_unpeg 1 (some .int) :: ([.fieldLink RX8 19 "CamFigures" "message" "LCamFigures$Message;", .methodLink RX8 159 yX5_pegs, .instanceMethod yX5_pegs, .selects RX5 yX5_pegs yX5_pegs, .initialized RX5, .code yX5_pegs cX5_pegs 1 (some .int), .fieldLink RX5 24 "CamFigures$Message" "pegs" "I", .methodLink RX8 82 yX8_refuse, .instanceMethod yX8_refuse, .selects RX8 yX8_refuse yX8_refuse, .initialized RX8, .code yX8_refuse cX8_refuse 3 (some .int), .fieldLink RX8 71 "CamFigures" "refusals" "[I", .methodLink RX8 165 yX5_dropPeg, .instanceMethod yX5_dropPeg, .selects RX5 yX5_dropPeg yX5_dropPeg, .code yX5_dropPeg cX5_dropPeg 1 none] ++ wsX80 ++ wsX50)
def wsX8_advance : List Cond := .code yX8_advance cX8_advance 3 (some .int) :: ([.fieldLink RX8 19 "CamFigures" "message" "LCamFigures$Message;", .methodLink RX8 82 yX8_refuse, .instanceMethod yX8_refuse, .selects RX8 yX8_refuse yX8_refuse, .initialized RX8, .code yX8_refuse cX8_refuse 3 (some .int), .fieldLink RX8 71 "CamFigures" "refusals" "[I", .methodLink RX8 168 yX5_space, .instanceMethod yX5_space, .selects RX5 yX5_space yX5_space, .initialized RX5, .code yX5_space cX5_space 1 (some .int), .fieldLink RX5 28 "CamFigures$Message" "space" "I", .methodLink RX8 171 yX5_setSpace, .instanceMethod yX5_setSpace, .selects RX5 yX5_setSpace yX5_setSpace, .code yX5_setSpace cX5_setSpace 2 none] ++ wsX80 ++ wsX50)
def wsX8_pull : List Cond := .code yX8_pull cX8_pull 3 (some .int) :: ([.fieldLink RX8 26 "CamFigures" "spring" "LCamFigures$Spring;", .methodLink RX8 82 yX8_refuse, .instanceMethod yX8_refuse, .selects RX8 yX8_refuse yX8_refuse, .initialized RX8, .code yX8_refuse cX8_refuse 3 (some .int), .fieldLink RX8 71 "CamFigures" "refusals" "[I", .methodLink RX8 174 yX7_load, .instanceMethod yX7_load, .selects RX7 yX7_load yX7_load, .initialized RX7, .code yX7_load cX7_load 1 (some .int), .fieldLink RX7 13 "CamFigures$Spring" "load" "I", .methodLink RX8 177 yX7_setLoad, .instanceMethod yX7_setLoad, .selects RX7 yX7_setLoad yX7_setLoad, .code yX7_setLoad cX7_setLoad 2 none] ++ wsX80 ++ wsX70)
def wsX8_wind : List Cond := .code yX8_wind cX8_wind 2 (some .int) :: ([.fieldLink RX8 26 "CamFigures" "spring" "LCamFigures$Spring;", .methodLink RX8 82 yX8_refuse, .instanceMethod yX8_refuse, .selects RX8 yX8_refuse yX8_refuse, .initialized RX8, .code yX8_refuse cX8_refuse 3 (some .int), .fieldLink RX8 71 "CamFigures" "refusals" "[I", .methodLink RX8 180 yX7_tighten, .instanceMethod yX7_tighten, .selects RX7 yX7_tighten yX7_tighten, .initialized RX7, .code yX7_tighten cX7_tighten 2 none, .fieldLink RX7 7 "CamFigures$Spring" "power" "I", .fieldLink RX7 16 "CamFigures$Spring" "strain" "I", .methodLink RX8 183 yX7_power, .instanceMethod yX7_power, .selects RX7 yX7_power yX7_power, .code yX7_power cX7_power 1 (some .int)] ++ wsX80 ++ wsX70)
def wsX8_perform_r1 : List Cond := [Cond.fieldLink RX8 19 "CamFigures" "message" "LCamFigures$Message;", Cond.fieldLink RX8 42 "CamFigures" "faults" "LCamFigures$Faults;", Cond.fieldLink RX8 10 "CamFigures" "cams" "LCamFigures$Cams;", Cond.fieldLink RX8 26 "CamFigures" "spring" "LCamFigures$Spring;", Cond.fieldLink RX8 51 "CamFigures" "hand" "LCamFigures$Hand;", Cond.fieldLink RX8 35 "CamFigures" "paper" "LCamFigures$Paper;", Cond.methodLink RX8 159 yX5_pegs, Cond.instanceMethod yX5_pegs, Cond.selects RX5 yX5_pegs yX5_pegs, Cond.initialized RX5, Cond.code yX5_pegs cX5_pegs 1 (some .int), Cond.fieldLink RX5 24 "CamFigures$Message" "pegs" "I", Cond.methodLink RX8 265 yX1_isLoose, Cond.instanceMethod yX1_isLoose, Cond.selects RX1 yX1_isLoose yX1_isLoose, Cond.initialized RX1, Cond.code yX1_isLoose cX1_isLoose 2 (some .boolean), Cond.fieldLink RX1 15 "CamFigures$Faults" "loose" "I", Cond.methodLink RX8 86 yX0_steps, Cond.instanceMethod yX0_steps, Cond.selects RX0 yX0_steps yX0_steps, Cond.initialized RX0, Cond.code yX0_steps cX0_steps 1 (some .int), Cond.fieldLink RX0 24 "CamFigures$Cams" "steps" "I"]
def wsX8_perform_r2 : List Cond := [Cond.methodLink RX8 268 yX7_makeStep, Cond.instanceMethod yX7_makeStep, Cond.selects RX7 yX7_makeStep yX7_makeStep, Cond.initialized RX7, Cond.code yX7_makeStep cX7_makeStep 2 (some .boolean), Cond.fieldLink RX7 13 "CamFigures$Spring" "load" "I", Cond.fieldLink RX7 7 "CamFigures$Spring" "power" "I", Cond.fieldLink RX7 19 "CamFigures$Spring" "ticks" "I", Cond.fieldLink RX7 22 "CamFigures$Spring" "steps" "I", Cond.methodLink RX7 31 yX7_wear, Cond.instanceMethod yX7_wear, Cond.selects RX7 yX7_wear yX7_wear, Cond.code yX7_wear cX7_wear 1 (some .int), Cond.methodLink RX7 25 Lib.Math.min.name, Cond.static Lib.Math.min.name, Cond.initialized "java/lang/Math", Cond.code Lib.Math.min.name Lib.Math.min.code 2 (some .int), Cond.methodLink RX7 35 yX7_ticksOfStep, Cond.instanceMethod yX7_ticksOfStep, Cond.selects RX7 yX7_ticksOfStep yX7_ticksOfStep, Cond.code yX7_ticksOfStep cX7_ticksOfStep 1 (some .int), Cond.methodLink RX8 271 yX3_writeStep, Cond.instanceMethod yX3_writeStep, Cond.selects RX3 yX3_writeStep yX3_writeStep]
def wsX8_perform_r3 : List Cond := [Cond.initialized RX3, Cond.code yX3_writeStep cX3_writeStep 9 none, Cond.methodLink RX3 17 yX3_isDown, Cond.instanceMethod yX3_isDown, Cond.selects RX3 yX3_isDown yX3_isDown, Cond.code yX3_isDown cX3_isDown 4 (some .boolean), Cond.fieldLink RX3 13 "CamFigures$Hand" "message" "LCamFigures$Message;", Cond.methodLink RX3 38 yX5_liftOfPeg, Cond.instanceMethod yX5_liftOfPeg, Cond.selects RX5 yX5_liftOfPeg yX5_liftOfPeg, Cond.code yX5_liftOfPeg cX5_liftOfPeg 2 (some .int), Cond.fieldLink RX5 18 "CamFigures$Message" "lift" "[I", Cond.fieldLink RX5 21 "CamFigures$Message" "letters" "[I", Cond.methodLink RX3 44 yX3_heightOf, Cond.instanceMethod yX3_heightOf, Cond.selects RX3 yX3_heightOf yX3_heightOf, Cond.code yX3_heightOf cX3_heightOf 4 (some .int), Cond.fieldLink RX3 7 "CamFigures$Hand" "cams" "LCamFigures$Cams;", Cond.methodLink RX3 65 yX0_heightAt, Cond.instanceMethod yX0_heightAt, Cond.selects RX0 yX0_heightAt yX0_heightAt, Cond.code yX0_heightAt cX0_heightAt 3 (some .int), Cond.fieldLink RX0 11 "CamFigures$Cams" "rows" "[[I", Cond.methodLink RX3 71 yX1_wornHeight]
def wsX8_perform_r4 : List Cond := [Cond.instanceMethod yX1_wornHeight, Cond.selects RX1 yX1_wornHeight yX1_wornHeight, Cond.code yX1_wornHeight cX1_wornHeight 3 (some .int), Cond.fieldLink RX1 11 "CamFigures$Faults" "worn" "I", Cond.methodLink RX3 21 yX3_xAt, Cond.instanceMethod yX3_xAt, Cond.selects RX3 yX3_xAt yX3_xAt, Cond.code yX3_xAt cX3_xAt 5 (some .int), Cond.methodLink RX3 47 yX5_acrossOfPeg, Cond.instanceMethod yX5_acrossOfPeg, Cond.selects RX5 yX5_acrossOfPeg yX5_acrossOfPeg, Cond.code yX5_acrossOfPeg cX5_acrossOfPeg 2 (some .int), Cond.fieldLink RX5 9 "CamFigures$Message" "across" "[I", Cond.methodLink RX3 50 yX5_space, Cond.instanceMethod yX5_space, Cond.selects RX5 yX5_space yX5_space, Cond.code yX5_space cX5_space 1 (some .int), Cond.fieldLink RX5 28 "CamFigures$Message" "space" "I", Cond.methodLink RX3 54 yX1_bentX, Cond.instanceMethod yX1_bentX, Cond.selects RX1 yX1_bentX yX1_bentX, Cond.code yX1_bentX cX1_bentX 2 (some .int), Cond.fieldLink RX1 18 "CamFigures$Faults" "bent" "I", Cond.methodLink RX3 25 yX3_yAt]
def wsX8_perform_r5 : List Cond := [Cond.instanceMethod yX3_yAt, Cond.selects RX3 yX3_yAt yX3_yAt, Cond.code yX3_yAt cX3_yAt 4 (some .int), Cond.methodLink RX3 59 yX5_upOfPeg, Cond.instanceMethod yX5_upOfPeg, Cond.selects RX5 yX5_upOfPeg yX5_upOfPeg, Cond.code yX5_upOfPeg cX5_upOfPeg 2 (some .int), Cond.fieldLink RX5 15 "CamFigures$Message" "up" "[I", Cond.methodLink RX3 62 yX1_bentY, Cond.instanceMethod yX1_bentY, Cond.selects RX1 yX1_bentY yX1_bentY, Cond.code yX1_bentY cX1_bentY 2 (some .int), Cond.methodLink RX1 21 Lib.Math.min.name, Cond.methodLink RX3 28 yX6_put, Cond.instanceMethod yX6_put, Cond.selects RX6 yX6_put yX6_put, Cond.initialized RX6, Cond.code yX6_put cX6_put 6 none, Cond.fieldLink RX6 9 "CamFigures$Paper" "words" "[J", Cond.fieldLink RX6 13 "CamFigures$Paper" "firsts" "[I", Cond.methodLink RX6 23 yX6_hasPlace, Cond.static yX6_hasPlace, Cond.code yX6_hasPlace cX6_hasPlace 2 (some .boolean), Cond.methodLink RX6 27 yX6_isMarked]
def wsX8_perform_r6 : List Cond := [Cond.instanceMethod yX6_isMarked, Cond.selects RX6 yX6_isMarked yX6_isMarked, Cond.code yX6_isMarked cX6_isMarked 4 (some .boolean), Cond.methodLink RX3 34 yX3_drawLine, Cond.static yX3_drawLine, Cond.code yX3_drawLine cX3_drawLine 9 none, Cond.methodLink RX3 74 Lib.Math.abs.name, Cond.static Lib.Math.abs.name, Cond.code Lib.Math.abs.name Lib.Math.abs.code 1 (some .int), Cond.methodLink RX3 79 Lib.Math.max.name, Cond.static Lib.Math.max.name, Cond.code Lib.Math.max.name Lib.Math.max.code 2 (some .int), Cond.methodLink RX3 82 yX3_rounded, Cond.static yX3_rounded, Cond.code yX3_rounded cX3_rounded 2 (some .int), Cond.methodLink RX3 85 yJ9_floorDiv_7cf53, Cond.static yJ9_floorDiv_7cf53, Cond.initialized RJ9, Cond.code yJ9_floorDiv_7cf53 cJ9_floorDiv_7cf53 3 (some .int)]
def wsX8_perform : List Cond := .code yX8_perform cX8_perform 3 (some .boolean) :: ((wsX8_perform_r1 ++ (wsX8_perform_r2 ++ (wsX8_perform_r3 ++ (wsX8_perform_r4 ++ (wsX8_perform_r5 ++ wsX8_perform_r6))))) ++ wsX80 ++ wsX50 ++ wsX10 ++ wsX00 ++ wsX70 ++ wsX30 ++ wsX60)
def wsX8_show_r1 : List Cond := [Cond.fieldLink RX8 19 "CamFigures" "message" "LCamFigures$Message;", Cond.fieldLink RX8 10 "CamFigures" "cams" "LCamFigures$Cams;", Cond.fieldLink RX8 26 "CamFigures" "spring" "LCamFigures$Spring;", Cond.fieldLink RX8 35 "CamFigures" "paper" "LCamFigures$Paper;", Cond.fieldLink RX8 75 "CamFigures" "shows" "I", Cond.fieldLink RX8 79 "CamFigures" "showsDone" "I", Cond.methodLink RX8 186 yX5_isWritable, Cond.instanceMethod yX5_isWritable, Cond.selects RX5 yX5_isWritable yX5_isWritable, Cond.initialized RX5, Cond.code yX5_isWritable cX5_isWritable 3 (some .boolean), Cond.fieldLink RX5 24 "CamFigures$Message" "pegs" "I", Cond.fieldLink RX5 21 "CamFigures$Message" "letters" "[I", Cond.methodLink RX5 37 yX5_hasAllCams, Cond.instanceMethod yX5_hasAllCams, Cond.selects RX5 yX5_hasAllCams yX5_hasAllCams, Cond.code yX5_hasAllCams cX5_hasAllCams 3 (some .boolean), Cond.fieldLink RX5 9 "CamFigures$Message" "across" "[I", Cond.fieldLink RX5 15 "CamFigures$Message" "up" "[I", Cond.fieldLink RX5 18 "CamFigures$Message" "lift" "[I", Cond.methodLink RX5 31 yX0_isThere, Cond.instanceMethod yX0_isThere, Cond.selects RX0 yX0_isThere yX0_isThere, Cond.initialized RX0]
def wsX8_show_r2 : List Cond := [Cond.code yX0_isThere cX0_isThere 2 (some .boolean), Cond.fieldLink RX0 16 "CamFigures$Cams" "there" "[Z", Cond.methodLink RX8 82 yX8_refuse, Cond.instanceMethod yX8_refuse, Cond.selects RX8 yX8_refuse yX8_refuse, Cond.initialized RX8, Cond.code yX8_refuse cX8_refuse 3 (some .int), Cond.fieldLink RX8 71 "CamFigures" "refusals" "[I", Cond.methodLink RX8 190 yX7_steps, Cond.instanceMethod yX7_steps, Cond.selects RX7 yX7_steps yX7_steps, Cond.initialized RX7, Cond.code yX7_steps cX7_steps 1 (some .int), Cond.fieldLink RX7 22 "CamFigures$Spring" "steps" "I", Cond.methodLink RX8 94 yX6_clear, Cond.instanceMethod yX6_clear, Cond.selects RX6 yX6_clear yX6_clear, Cond.initialized RX6, Cond.code yX6_clear cX6_clear 1 none, Cond.fieldLink RX6 9 "CamFigures$Paper" "words" "[J", Cond.methodLink RX6 17 yJ7_fill_d0a16, Cond.static yJ7_fill_d0a16, Cond.initialized RJ7, Cond.code yJ7_fill_d0a16 cJ7_fill_d0a16 5 none]
def wsX8_show_r3 : List Cond := [Cond.methodLink RX8 191 yX8_perform, Cond.instanceMethod yX8_perform, Cond.selects RX8 yX8_perform yX8_perform, Cond.code yX8_perform cX8_perform 3 (some .boolean), Cond.fieldLink RX8 42 "CamFigures" "faults" "LCamFigures$Faults;", Cond.fieldLink RX8 51 "CamFigures" "hand" "LCamFigures$Hand;", Cond.methodLink RX8 159 yX5_pegs, Cond.instanceMethod yX5_pegs, Cond.selects RX5 yX5_pegs yX5_pegs, Cond.code yX5_pegs cX5_pegs 1 (some .int), Cond.methodLink RX8 265 yX1_isLoose, Cond.instanceMethod yX1_isLoose, Cond.selects RX1 yX1_isLoose yX1_isLoose, Cond.initialized RX1, Cond.code yX1_isLoose cX1_isLoose 2 (some .boolean), Cond.fieldLink RX1 15 "CamFigures$Faults" "loose" "I", Cond.methodLink RX8 86 yX0_steps, Cond.instanceMethod yX0_steps, Cond.selects RX0 yX0_steps yX0_steps, Cond.code yX0_steps cX0_steps 1 (some .int), Cond.fieldLink RX0 24 "CamFigures$Cams" "steps" "I", Cond.methodLink RX8 268 yX7_makeStep, Cond.instanceMethod yX7_makeStep, Cond.selects RX7 yX7_makeStep yX7_makeStep]
def wsX8_show_r4 : List Cond := [Cond.code yX7_makeStep cX7_makeStep 2 (some .boolean), Cond.fieldLink RX7 13 "CamFigures$Spring" "load" "I", Cond.fieldLink RX7 7 "CamFigures$Spring" "power" "I", Cond.fieldLink RX7 19 "CamFigures$Spring" "ticks" "I", Cond.methodLink RX7 31 yX7_wear, Cond.instanceMethod yX7_wear, Cond.selects RX7 yX7_wear yX7_wear, Cond.code yX7_wear cX7_wear 1 (some .int), Cond.methodLink RX7 25 Lib.Math.min.name, Cond.static Lib.Math.min.name, Cond.initialized "java/lang/Math", Cond.code Lib.Math.min.name Lib.Math.min.code 2 (some .int), Cond.methodLink RX7 35 yX7_ticksOfStep, Cond.instanceMethod yX7_ticksOfStep, Cond.selects RX7 yX7_ticksOfStep yX7_ticksOfStep, Cond.code yX7_ticksOfStep cX7_ticksOfStep 1 (some .int), Cond.methodLink RX8 271 yX3_writeStep, Cond.instanceMethod yX3_writeStep, Cond.selects RX3 yX3_writeStep yX3_writeStep, Cond.initialized RX3, Cond.code yX3_writeStep cX3_writeStep 9 none, Cond.methodLink RX3 17 yX3_isDown, Cond.instanceMethod yX3_isDown, Cond.selects RX3 yX3_isDown yX3_isDown]
def wsX8_show_r5 : List Cond := [Cond.code yX3_isDown cX3_isDown 4 (some .boolean), Cond.fieldLink RX3 13 "CamFigures$Hand" "message" "LCamFigures$Message;", Cond.methodLink RX3 38 yX5_liftOfPeg, Cond.instanceMethod yX5_liftOfPeg, Cond.selects RX5 yX5_liftOfPeg yX5_liftOfPeg, Cond.code yX5_liftOfPeg cX5_liftOfPeg 2 (some .int), Cond.methodLink RX3 44 yX3_heightOf, Cond.instanceMethod yX3_heightOf, Cond.selects RX3 yX3_heightOf yX3_heightOf, Cond.code yX3_heightOf cX3_heightOf 4 (some .int), Cond.fieldLink RX3 7 "CamFigures$Hand" "cams" "LCamFigures$Cams;", Cond.methodLink RX3 65 yX0_heightAt, Cond.instanceMethod yX0_heightAt, Cond.selects RX0 yX0_heightAt yX0_heightAt, Cond.code yX0_heightAt cX0_heightAt 3 (some .int), Cond.fieldLink RX0 11 "CamFigures$Cams" "rows" "[[I", Cond.methodLink RX3 71 yX1_wornHeight, Cond.instanceMethod yX1_wornHeight, Cond.selects RX1 yX1_wornHeight yX1_wornHeight, Cond.code yX1_wornHeight cX1_wornHeight 3 (some .int), Cond.fieldLink RX1 11 "CamFigures$Faults" "worn" "I", Cond.methodLink RX3 21 yX3_xAt, Cond.instanceMethod yX3_xAt, Cond.selects RX3 yX3_xAt yX3_xAt]
def wsX8_show_r6 : List Cond := [Cond.code yX3_xAt cX3_xAt 5 (some .int), Cond.methodLink RX3 47 yX5_acrossOfPeg, Cond.instanceMethod yX5_acrossOfPeg, Cond.selects RX5 yX5_acrossOfPeg yX5_acrossOfPeg, Cond.code yX5_acrossOfPeg cX5_acrossOfPeg 2 (some .int), Cond.methodLink RX3 50 yX5_space, Cond.instanceMethod yX5_space, Cond.selects RX5 yX5_space yX5_space, Cond.code yX5_space cX5_space 1 (some .int), Cond.fieldLink RX5 28 "CamFigures$Message" "space" "I", Cond.methodLink RX3 54 yX1_bentX, Cond.instanceMethod yX1_bentX, Cond.selects RX1 yX1_bentX yX1_bentX, Cond.code yX1_bentX cX1_bentX 2 (some .int), Cond.fieldLink RX1 18 "CamFigures$Faults" "bent" "I", Cond.methodLink RX3 25 yX3_yAt, Cond.instanceMethod yX3_yAt, Cond.selects RX3 yX3_yAt yX3_yAt, Cond.code yX3_yAt cX3_yAt 4 (some .int), Cond.methodLink RX3 59 yX5_upOfPeg, Cond.instanceMethod yX5_upOfPeg, Cond.selects RX5 yX5_upOfPeg yX5_upOfPeg, Cond.code yX5_upOfPeg cX5_upOfPeg 2 (some .int), Cond.methodLink RX3 62 yX1_bentY]
def wsX8_show_r7 : List Cond := [Cond.instanceMethod yX1_bentY, Cond.selects RX1 yX1_bentY yX1_bentY, Cond.code yX1_bentY cX1_bentY 2 (some .int), Cond.methodLink RX1 21 Lib.Math.min.name, Cond.methodLink RX3 28 yX6_put, Cond.instanceMethod yX6_put, Cond.selects RX6 yX6_put yX6_put, Cond.code yX6_put cX6_put 6 none, Cond.fieldLink RX6 13 "CamFigures$Paper" "firsts" "[I", Cond.methodLink RX6 23 yX6_hasPlace, Cond.static yX6_hasPlace, Cond.code yX6_hasPlace cX6_hasPlace 2 (some .boolean), Cond.methodLink RX6 27 yX6_isMarked, Cond.instanceMethod yX6_isMarked, Cond.selects RX6 yX6_isMarked yX6_isMarked, Cond.code yX6_isMarked cX6_isMarked 4 (some .boolean), Cond.methodLink RX3 34 yX3_drawLine, Cond.static yX3_drawLine, Cond.code yX3_drawLine cX3_drawLine 9 none, Cond.methodLink RX3 74 Lib.Math.abs.name, Cond.static Lib.Math.abs.name, Cond.code Lib.Math.abs.name Lib.Math.abs.code 1 (some .int), Cond.methodLink RX3 79 Lib.Math.max.name, Cond.static Lib.Math.max.name]
def wsX8_show_r8 : List Cond := [Cond.code Lib.Math.max.name Lib.Math.max.code 2 (some .int), Cond.methodLink RX3 82 yX3_rounded, Cond.static yX3_rounded, Cond.code yX3_rounded cX3_rounded 2 (some .int), Cond.methodLink RX3 85 yJ9_floorDiv_7cf53, Cond.static yJ9_floorDiv_7cf53, Cond.initialized RJ9, Cond.code yJ9_floorDiv_7cf53 cJ9_floorDiv_7cf53 3 (some .int)]
def wsX8_show : List Cond := .code yX8_show cX8_show 2 (some .int) :: ((wsX8_show_r1 ++ (wsX8_show_r2 ++ (wsX8_show_r3 ++ (wsX8_show_r4 ++ (wsX8_show_r5 ++ (wsX8_show_r6 ++ (wsX8_show_r7 ++ wsX8_show_r8))))))) ++ wsX80 ++ wsX50 ++ wsX00 ++ wsX70 ++ wsX60 ++ wsX10 ++ wsX30)
def wsX8_marked : List Cond := .code yX8_marked cX8_marked 3 (some .int) :: ([.fieldLink RX8 35 "CamFigures" "paper" "LCamFigures$Paper;", .methodLink RX8 195 yX6_hasPlace, .static yX6_hasPlace, .initialized RX6, .code yX6_hasPlace cX6_hasPlace 2 (some .boolean), .methodLink RX8 82 yX8_refuse, .instanceMethod yX8_refuse, .selects RX8 yX8_refuse yX8_refuse, .initialized RX8, .code yX8_refuse cX8_refuse 3 (some .int), .fieldLink RX8 71 "CamFigures" "refusals" "[I", .methodLink RX8 198 yX6_isMarked, .instanceMethod yX6_isMarked, .selects RX6 yX6_isMarked yX6_isMarked, .code yX6_isMarked cX6_isMarked 4 (some .boolean), .fieldLink RX6 9 "CamFigures$Paper" "words" "[J"] ++ wsX80 ++ wsX60)
def wsX8_first_r1 : List Cond := [Cond.fieldLink RX8 35 "CamFigures" "paper" "LCamFigures$Paper;", Cond.methodLink RX8 195 yX6_hasPlace, Cond.static yX6_hasPlace, Cond.initialized RX6, Cond.code yX6_hasPlace cX6_hasPlace 2 (some .boolean), Cond.methodLink RX8 82 yX8_refuse, Cond.instanceMethod yX8_refuse, Cond.selects RX8 yX8_refuse yX8_refuse, Cond.initialized RX8, Cond.code yX8_refuse cX8_refuse 3 (some .int), Cond.fieldLink RX8 71 "CamFigures" "refusals" "[I", Cond.methodLink RX8 198 yX6_isMarked, Cond.instanceMethod yX6_isMarked, Cond.selects RX6 yX6_isMarked yX6_isMarked, Cond.code yX6_isMarked cX6_isMarked 4 (some .boolean), Cond.fieldLink RX6 9 "CamFigures$Paper" "words" "[J", Cond.methodLink RX8 201 yX6_pegThatMarked, Cond.instanceMethod yX6_pegThatMarked, Cond.selects RX6 yX6_pegThatMarked yX6_pegThatMarked, Cond.code yX6_pegThatMarked cX6_pegThatMarked 3 (some .int), Cond.methodLink RX6 32 yX6_firstCode, Cond.instanceMethod yX6_firstCode, Cond.selects RX6 yX6_firstCode yX6_firstCode, Cond.code yX6_firstCode cX6_firstCode 4 (some .int)]
def wsX8_first_r2 : List Cond := [Cond.fieldLink RX6 13 "CamFigures$Paper" "firsts" "[I", Cond.methodLink RX8 204 yX6_stepThatMarked, Cond.instanceMethod yX6_stepThatMarked, Cond.selects RX6 yX6_stepThatMarked yX6_stepThatMarked, Cond.code yX6_stepThatMarked cX6_stepThatMarked 3 (some .int)]
def wsX8_first : List Cond := .code yX8_first cX8_first 4 (some .int) :: ((wsX8_first_r1 ++ wsX8_first_r2) ++ wsX80 ++ wsX60)
def wsX8_marks : List Cond := .code yX8_marks cX8_marks 1 (some .int) :: ([.fieldLink RX8 35 "CamFigures" "paper" "LCamFigures$Paper;", .methodLink RX8 207 yX6_size, .instanceMethod yX6_size, .selects RX6 yX6_size yX6_size, .initialized RX6, .code yX6_size cX6_size 3 (some .int), .fieldLink RX6 9 "CamFigures$Paper" "words" "[J", .methodLink RX6 36 yJ13_bitCount_95d88, .static yJ13_bitCount_95d88, .initialized RJ13, .code yJ13_bitCount_95d88 cJ13_bitCount_95d88 2 (some .int), .constantLong RJ13 314 (6148914691236517205), .constantLong RJ13 316 (3689348814741910323), .constantLong RJ13 318 (1085102592571150095)] ++ wsX80 ++ wsX60)
def wsX8_see_r1 : List Cond := [Cond.fieldLink RX8 35 "CamFigures" "paper" "LCamFigures$Paper;", Cond.methodLink RX8 195 yX6_hasPlace, Cond.static yX6_hasPlace, Cond.initialized RX6, Cond.code yX6_hasPlace cX6_hasPlace 2 (some .boolean), Cond.methodLink RX8 82 yX8_refuse, Cond.instanceMethod yX8_refuse, Cond.selects RX8 yX8_refuse yX8_refuse, Cond.initialized RX8, Cond.code yX8_refuse cX8_refuse 3 (some .int), Cond.fieldLink RX8 71 "CamFigures" "refusals" "[I", Cond.methodLink RX8 198 yX6_isMarked, Cond.instanceMethod yX6_isMarked, Cond.selects RX6 yX6_isMarked yX6_isMarked, Cond.code yX6_isMarked cX6_isMarked 4 (some .boolean), Cond.fieldLink RX6 9 "CamFigures$Paper" "words" "[J", Cond.methodLink RX8 210 yX6_put, Cond.instanceMethod yX6_put, Cond.selects RX6 yX6_put yX6_put, Cond.code yX6_put cX6_put 6 none, Cond.fieldLink RX6 13 "CamFigures$Paper" "firsts" "[I", Cond.methodLink RX6 23 yX6_hasPlace, Cond.methodLink RX6 27 yX6_isMarked, Cond.methodLink RX8 213 yX6_wipe]
def wsX8_see_r2 : List Cond := [Cond.instanceMethod yX6_wipe, Cond.selects RX6 yX6_wipe yX6_wipe, Cond.code yX6_wipe cX6_wipe 4 none, Cond.constantLong RX6 30 (-1)]
def wsX8_see : List Cond := .code yX8_see cX8_see 4 (some .int) :: ((wsX8_see_r1 ++ wsX8_see_r2) ++ wsX80 ++ wsX60)
def wsX8_fault : List Cond := .code yX8_fault cX8_fault 3 (some .int) :: ([.fieldLink RX8 19 "CamFigures" "message" "LCamFigures$Message;", .fieldLink RX8 42 "CamFigures" "faults" "LCamFigures$Faults;", .methodLink RX8 82 yX8_refuse, .instanceMethod yX8_refuse, .selects RX8 yX8_refuse yX8_refuse, .initialized RX8, .code yX8_refuse cX8_refuse 3 (some .int), .fieldLink RX8 71 "CamFigures" "refusals" "[I", .methodLink RX8 216 yX5_partsOfKind, .instanceMethod yX5_partsOfKind, .selects RX5 yX5_partsOfKind yX5_partsOfKind, .initialized RX5, .code yX5_partsOfKind cX5_partsOfKind 2 (some .int), .fieldLink RX5 24 "CamFigures$Message" "pegs" "I", .methodLink RX8 219 yX1_tell, .instanceMethod yX1_tell, .selects RX1 yX1_tell yX1_tell, .initialized RX1, .code yX1_tell cX1_tell 3 none, .fieldLink RX1 11 "CamFigures$Faults" "worn" "I", .fieldLink RX1 15 "CamFigures$Faults" "loose" "I", .fieldLink RX1 18 "CamFigures$Faults" "bent" "I"] ++ wsX80 ++ wsX50 ++ wsX10)
def wsX8_mend : List Cond := .code yX8_mend cX8_mend 2 (some .int) :: ([.fieldLink RX8 42 "CamFigures" "faults" "LCamFigures$Faults;", .methodLink RX8 222 yX1_size, .instanceMethod yX1_size, .selects RX1 yX1_size yX1_size, .initialized RX1, .code yX1_size cX1_size 2 (some .int), .fieldLink RX1 11 "CamFigures$Faults" "worn" "I", .fieldLink RX1 15 "CamFigures$Faults" "loose" "I", .fieldLink RX1 18 "CamFigures$Faults" "bent" "I", .methodLink RX8 223 yX1_clear, .instanceMethod yX1_clear, .selects RX1 yX1_clear yX1_clear, .code yX1_clear cX1_clear 1 none] ++ wsX80 ++ wsX10)
def wsX8_explained_r1 : List Cond := [Cond.fieldLink RX8 19 "CamFigures" "message" "LCamFigures$Message;", Cond.fieldLink RX8 10 "CamFigures" "cams" "LCamFigures$Cams;", Cond.fieldLink RX8 60 "CamFigures" "guess" "LCamFigures$Guess;", Cond.fieldLink RX8 35 "CamFigures" "paper" "LCamFigures$Paper;", Cond.methodLink RX8 82 yX8_refuse, Cond.instanceMethod yX8_refuse, Cond.selects RX8 yX8_refuse yX8_refuse, Cond.initialized RX8, Cond.code yX8_refuse cX8_refuse 3 (some .int), Cond.fieldLink RX8 71 "CamFigures" "refusals" "[I", Cond.methodLink RX8 186 yX5_isWritable, Cond.instanceMethod yX5_isWritable, Cond.selects RX5 yX5_isWritable yX5_isWritable, Cond.initialized RX5, Cond.code yX5_isWritable cX5_isWritable 3 (some .boolean), Cond.fieldLink RX5 24 "CamFigures$Message" "pegs" "I", Cond.fieldLink RX5 21 "CamFigures$Message" "letters" "[I", Cond.methodLink RX5 37 yX5_hasAllCams, Cond.instanceMethod yX5_hasAllCams, Cond.selects RX5 yX5_hasAllCams yX5_hasAllCams, Cond.code yX5_hasAllCams cX5_hasAllCams 3 (some .boolean), Cond.fieldLink RX5 9 "CamFigures$Message" "across" "[I", Cond.fieldLink RX5 15 "CamFigures$Message" "up" "[I", Cond.fieldLink RX5 18 "CamFigures$Message" "lift" "[I"]
def wsX8_explained_r2 : List Cond := [Cond.methodLink RX5 31 yX0_isThere, Cond.instanceMethod yX0_isThere, Cond.selects RX0 yX0_isThere yX0_isThere, Cond.initialized RX0, Cond.code yX0_isThere cX0_isThere 2 (some .boolean), Cond.fieldLink RX0 16 "CamFigures$Cams" "there" "[Z", Cond.methodLink RX8 224 yX2_search, Cond.instanceMethod yX2_search, Cond.selects RX2 yX2_search yX2_search, Cond.initialized RX2, Cond.code yX2_search cX2_search 5 none, Cond.fieldLink RX2 27 "CamFigures$Guess" "kind" "I", Cond.fieldLink RX2 31 "CamFigures$Guess" "which" "I", Cond.fieldLink RX2 42 "CamFigures$Guess" "message" "LCamFigures$Message;", Cond.methodLink RX2 46 yX2_fits, Cond.instanceMethod yX2_fits, Cond.selects RX2 yX2_fits yX2_fits, Cond.code yX2_fits cX2_fits 6 (some .boolean), Cond.fieldLink RX2 12 "CamFigures$Guess" "supposed" "LCamFigures$Faults;", Cond.fieldLink RX2 23 "CamFigures$Guess" "trial" "LCamFigures$Paper;", Cond.fieldLink RX2 38 "CamFigures$Guess" "cams" "LCamFigures$Cams;", Cond.fieldLink RX2 34 "CamFigures$Guess" "hand" "LCamFigures$Hand;", Cond.methodLink RX2 56 yX1_clear, Cond.instanceMethod yX1_clear]
def wsX8_explained_r3 : List Cond := [Cond.selects RX1 yX1_clear yX1_clear, Cond.initialized RX1, Cond.code yX1_clear cX1_clear 1 none, Cond.fieldLink RX1 11 "CamFigures$Faults" "worn" "I", Cond.fieldLink RX1 15 "CamFigures$Faults" "loose" "I", Cond.fieldLink RX1 18 "CamFigures$Faults" "bent" "I", Cond.methodLink RX2 59 yX1_tell, Cond.instanceMethod yX1_tell, Cond.selects RX1 yX1_tell yX1_tell, Cond.code yX1_tell cX1_tell 3 none, Cond.methodLink RX2 63 yX6_clear, Cond.instanceMethod yX6_clear, Cond.selects RX6 yX6_clear yX6_clear, Cond.initialized RX6, Cond.code yX6_clear cX6_clear 1 none, Cond.fieldLink RX6 9 "CamFigures$Paper" "words" "[J", Cond.methodLink RX6 17 yJ7_fill_d0a16, Cond.static yJ7_fill_d0a16, Cond.initialized RJ7, Cond.code yJ7_fill_d0a16 cJ7_fill_d0a16 5 none, Cond.methodLink RX2 64 yX5_pegs, Cond.instanceMethod yX5_pegs, Cond.selects RX5 yX5_pegs yX5_pegs, Cond.code yX5_pegs cX5_pegs 1 (some .int)]
def wsX8_explained_r4 : List Cond := [Cond.methodLink RX2 68 yX1_isLoose, Cond.instanceMethod yX1_isLoose, Cond.selects RX1 yX1_isLoose yX1_isLoose, Cond.code yX1_isLoose cX1_isLoose 2 (some .boolean), Cond.methodLink RX2 72 yX0_steps, Cond.instanceMethod yX0_steps, Cond.selects RX0 yX0_steps yX0_steps, Cond.code yX0_steps cX0_steps 1 (some .int), Cond.fieldLink RX0 24 "CamFigures$Cams" "steps" "I", Cond.methodLink RX2 77 yX3_writeStep, Cond.instanceMethod yX3_writeStep, Cond.selects RX3 yX3_writeStep yX3_writeStep, Cond.initialized RX3, Cond.code yX3_writeStep cX3_writeStep 9 none, Cond.methodLink RX3 17 yX3_isDown, Cond.instanceMethod yX3_isDown, Cond.selects RX3 yX3_isDown yX3_isDown, Cond.code yX3_isDown cX3_isDown 4 (some .boolean), Cond.fieldLink RX3 13 "CamFigures$Hand" "message" "LCamFigures$Message;", Cond.methodLink RX3 38 yX5_liftOfPeg, Cond.instanceMethod yX5_liftOfPeg, Cond.selects RX5 yX5_liftOfPeg yX5_liftOfPeg, Cond.code yX5_liftOfPeg cX5_liftOfPeg 2 (some .int), Cond.methodLink RX3 44 yX3_heightOf]
def wsX8_explained_r5 : List Cond := [Cond.instanceMethod yX3_heightOf, Cond.selects RX3 yX3_heightOf yX3_heightOf, Cond.code yX3_heightOf cX3_heightOf 4 (some .int), Cond.fieldLink RX3 7 "CamFigures$Hand" "cams" "LCamFigures$Cams;", Cond.methodLink RX3 65 yX0_heightAt, Cond.instanceMethod yX0_heightAt, Cond.selects RX0 yX0_heightAt yX0_heightAt, Cond.code yX0_heightAt cX0_heightAt 3 (some .int), Cond.fieldLink RX0 11 "CamFigures$Cams" "rows" "[[I", Cond.methodLink RX3 71 yX1_wornHeight, Cond.instanceMethod yX1_wornHeight, Cond.selects RX1 yX1_wornHeight yX1_wornHeight, Cond.code yX1_wornHeight cX1_wornHeight 3 (some .int), Cond.methodLink RX3 21 yX3_xAt, Cond.instanceMethod yX3_xAt, Cond.selects RX3 yX3_xAt yX3_xAt, Cond.code yX3_xAt cX3_xAt 5 (some .int), Cond.methodLink RX3 47 yX5_acrossOfPeg, Cond.instanceMethod yX5_acrossOfPeg, Cond.selects RX5 yX5_acrossOfPeg yX5_acrossOfPeg, Cond.code yX5_acrossOfPeg cX5_acrossOfPeg 2 (some .int), Cond.methodLink RX3 50 yX5_space, Cond.instanceMethod yX5_space, Cond.selects RX5 yX5_space yX5_space]
def wsX8_explained_r6 : List Cond := [Cond.code yX5_space cX5_space 1 (some .int), Cond.fieldLink RX5 28 "CamFigures$Message" "space" "I", Cond.methodLink RX3 54 yX1_bentX, Cond.instanceMethod yX1_bentX, Cond.selects RX1 yX1_bentX yX1_bentX, Cond.code yX1_bentX cX1_bentX 2 (some .int), Cond.methodLink RX3 25 yX3_yAt, Cond.instanceMethod yX3_yAt, Cond.selects RX3 yX3_yAt yX3_yAt, Cond.code yX3_yAt cX3_yAt 4 (some .int), Cond.methodLink RX3 59 yX5_upOfPeg, Cond.instanceMethod yX5_upOfPeg, Cond.selects RX5 yX5_upOfPeg yX5_upOfPeg, Cond.code yX5_upOfPeg cX5_upOfPeg 2 (some .int), Cond.methodLink RX3 62 yX1_bentY, Cond.instanceMethod yX1_bentY, Cond.selects RX1 yX1_bentY yX1_bentY, Cond.code yX1_bentY cX1_bentY 2 (some .int), Cond.methodLink RX1 21 Lib.Math.min.name, Cond.static Lib.Math.min.name, Cond.initialized "java/lang/Math", Cond.code Lib.Math.min.name Lib.Math.min.code 2 (some .int), Cond.methodLink RX3 28 yX6_put, Cond.instanceMethod yX6_put]
def wsX8_explained_r7 : List Cond := [Cond.selects RX6 yX6_put yX6_put, Cond.code yX6_put cX6_put 6 none, Cond.fieldLink RX6 13 "CamFigures$Paper" "firsts" "[I", Cond.methodLink RX6 23 yX6_hasPlace, Cond.static yX6_hasPlace, Cond.code yX6_hasPlace cX6_hasPlace 2 (some .boolean), Cond.methodLink RX6 27 yX6_isMarked, Cond.instanceMethod yX6_isMarked, Cond.selects RX6 yX6_isMarked yX6_isMarked, Cond.code yX6_isMarked cX6_isMarked 4 (some .boolean), Cond.methodLink RX3 34 yX3_drawLine, Cond.static yX3_drawLine, Cond.code yX3_drawLine cX3_drawLine 9 none, Cond.methodLink RX3 74 Lib.Math.abs.name, Cond.static Lib.Math.abs.name, Cond.code Lib.Math.abs.name Lib.Math.abs.code 1 (some .int), Cond.methodLink RX3 79 Lib.Math.max.name, Cond.static Lib.Math.max.name, Cond.code Lib.Math.max.name Lib.Math.max.code 2 (some .int), Cond.methodLink RX3 82 yX3_rounded, Cond.static yX3_rounded, Cond.code yX3_rounded cX3_rounded 2 (some .int), Cond.methodLink RX3 85 yJ9_floorDiv_7cf53, Cond.static yJ9_floorDiv_7cf53]
def wsX8_explained_r8 : List Cond := [Cond.initialized RJ9, Cond.code yJ9_floorDiv_7cf53 cJ9_floorDiv_7cf53 3 (some .int), Cond.methodLink RX2 83 yX6_isWithin, Cond.instanceMethod yX6_isWithin, Cond.selects RX6 yX6_isWithin yX6_isWithin, Cond.code yX6_isWithin cX6_isWithin 3 (some .boolean), Cond.constantLong RX6 30 (-1), Cond.methodLink RX2 50 yX5_partsOfKind, Cond.instanceMethod yX5_partsOfKind, Cond.selects RX5 yX5_partsOfKind yX5_partsOfKind, Cond.code yX5_partsOfKind cX5_partsOfKind 2 (some .int), Cond.methodLink RX8 228 yX2_kind, Cond.instanceMethod yX2_kind, Cond.selects RX2 yX2_kind yX2_kind, Cond.code yX2_kind cX2_kind 1 (some .int), Cond.methodLink RX8 231 yX2_which, Cond.instanceMethod yX2_which, Cond.selects RX2 yX2_which yX2_which, Cond.code yX2_which cX2_which 1 (some .int)]
def wsX8_explained : List Cond := .code yX8_explained cX8_explained 2 (some .int) :: ((wsX8_explained_r1 ++ (wsX8_explained_r2 ++ (wsX8_explained_r3 ++ (wsX8_explained_r4 ++ (wsX8_explained_r5 ++ (wsX8_explained_r6 ++ (wsX8_explained_r7 ++ wsX8_explained_r8))))))) ++ wsX80 ++ wsX50 ++ wsX00 ++ wsX20 ++ wsX10 ++ wsX60 ++ wsX30)
def wsX8_refusalOfMaker : List Cond := .code yX8_refusalOfMaker cX8_refusalOfMaker 3 (some .int) :: ([.methodLink RX8 107 yX8_refusalOfCam, .instanceMethod yX8_refusalOfCam, .selects RX8 yX8_refusalOfCam yX8_refusalOfCam, .initialized RX8, .code yX8_refusalOfCam cX8_refusalOfCam 2 (some .int), .fieldLink RX8 10 "CamFigures" "cams" "LCamFigures$Cams;", .methodLink RX8 97 yX8_isCam, .static yX8_isCam, .code yX8_isCam cX8_isCam 1 (some .boolean), .methodLink RX8 101 yX0_isThere, .instanceMethod yX0_isThere, .selects RX0 yX0_isThere yX0_isThere, .initialized RX0, .code yX0_isThere cX0_isThere 2 (some .boolean), .fieldLink RX0 16 "CamFigures$Cams" "there" "[Z"] ++ wsX80 ++ wsX00)
def wsX8_made_r1 : List Cond := [Cond.fieldLink RX8 67 "CamFigures" "makers" "LCamFigures$Makers;", Cond.fieldLink RX8 10 "CamFigures" "cams" "LCamFigures$Cams;", Cond.methodLink RX8 234 yX8_refusalOfMaker, Cond.instanceMethod yX8_refusalOfMaker, Cond.selects RX8 yX8_refusalOfMaker yX8_refusalOfMaker, Cond.initialized RX8, Cond.code yX8_refusalOfMaker cX8_refusalOfMaker 3 (some .int), Cond.methodLink RX8 107 yX8_refusalOfCam, Cond.instanceMethod yX8_refusalOfCam, Cond.selects RX8 yX8_refusalOfCam yX8_refusalOfCam, Cond.code yX8_refusalOfCam cX8_refusalOfCam 2 (some .int), Cond.methodLink RX8 97 yX8_isCam, Cond.static yX8_isCam, Cond.code yX8_isCam cX8_isCam 1 (some .boolean), Cond.methodLink RX8 101 yX0_isThere, Cond.instanceMethod yX0_isThere, Cond.selects RX0 yX0_isThere yX0_isThere, Cond.initialized RX0, Cond.code yX0_isThere cX0_isThere 2 (some .boolean), Cond.fieldLink RX0 16 "CamFigures$Cams" "there" "[Z", Cond.methodLink RX8 82 yX8_refuse, Cond.instanceMethod yX8_refuse, Cond.selects RX8 yX8_refuse yX8_refuse, Cond.code yX8_refuse cX8_refuse 3 (some .int)]
def wsX8_made_r2 : List Cond := [Cond.fieldLink RX8 71 "CamFigures" "refusals" "[I", Cond.methodLink RX8 237 yX4_total, Cond.instanceMethod yX4_total, Cond.selects RX4 yX4_total yX4_total, Cond.initialized RX4, Cond.code yX4_total cX4_total 2 (some .int), Cond.fieldLink RX4 16 "CamFigures$Makers" "totals" "[I", Cond.methodLink RX8 86 yX0_steps, Cond.instanceMethod yX0_steps, Cond.selects RX0 yX0_steps yX0_steps, Cond.code yX0_steps cX0_steps 1 (some .int), Cond.fieldLink RX0 24 "CamFigures$Cams" "steps" "I", Cond.methodLink RX8 240 yX4_learn, Cond.instanceMethod yX4_learn, Cond.selects RX4 yX4_learn yX4_learn, Cond.code yX4_learn cX4_learn 5 none, Cond.fieldLink RX4 13 "CamFigures$Makers" "habits" "[[I", Cond.fieldLink RX4 20 "CamFigures$Makers" "times" "[I", Cond.methodLink RX4 23 yX4_tally, Cond.instanceMethod yX4_tally, Cond.selects RX4 yX4_tally yX4_tally, Cond.code yX4_tally cX4_tally 5 none, Cond.methodLink RX4 43 yJ7_fill_53178, Cond.static yJ7_fill_53178]
def wsX8_made_r3 : List Cond := [Cond.initialized RJ7, Cond.code yJ7_fill_53178 cJ7_fill_53178 4 none, Cond.methodLink RX4 27 yX0_steps, Cond.methodLink RX4 49 yX0_heightAt, Cond.instanceMethod yX0_heightAt, Cond.selects RX0 yX0_heightAt yX0_heightAt, Cond.code yX0_heightAt cX0_heightAt 3 (some .int), Cond.fieldLink RX0 11 "CamFigures$Cams" "rows" "[[I"]
def wsX8_made : List Cond := .code yX8_made cX8_made 4 (some .int) :: ((wsX8_made_r1 ++ (wsX8_made_r2 ++ wsX8_made_r3)) ++ wsX80 ++ wsX00 ++ wsX40)
def wsX8_like_r1 : List Cond := [Cond.fieldLink RX8 67 "CamFigures" "makers" "LCamFigures$Makers;", Cond.fieldLink RX8 10 "CamFigures" "cams" "LCamFigures$Cams;", Cond.methodLink RX8 234 yX8_refusalOfMaker, Cond.instanceMethod yX8_refusalOfMaker, Cond.selects RX8 yX8_refusalOfMaker yX8_refusalOfMaker, Cond.initialized RX8, Cond.code yX8_refusalOfMaker cX8_refusalOfMaker 3 (some .int), Cond.methodLink RX8 107 yX8_refusalOfCam, Cond.instanceMethod yX8_refusalOfCam, Cond.selects RX8 yX8_refusalOfCam yX8_refusalOfCam, Cond.code yX8_refusalOfCam cX8_refusalOfCam 2 (some .int), Cond.methodLink RX8 97 yX8_isCam, Cond.static yX8_isCam, Cond.code yX8_isCam cX8_isCam 1 (some .boolean), Cond.methodLink RX8 101 yX0_isThere, Cond.instanceMethod yX0_isThere, Cond.selects RX0 yX0_isThere yX0_isThere, Cond.initialized RX0, Cond.code yX0_isThere cX0_isThere 2 (some .boolean), Cond.fieldLink RX0 16 "CamFigures$Cams" "there" "[Z", Cond.methodLink RX8 82 yX8_refuse, Cond.instanceMethod yX8_refuse, Cond.selects RX8 yX8_refuse yX8_refuse, Cond.code yX8_refuse cX8_refuse 3 (some .int)]
def wsX8_like_r2 : List Cond := [Cond.fieldLink RX8 71 "CamFigures" "refusals" "[I", Cond.methodLink RX8 237 yX4_total, Cond.instanceMethod yX4_total, Cond.selects RX4 yX4_total yX4_total, Cond.initialized RX4, Cond.code yX4_total cX4_total 2 (some .int), Cond.fieldLink RX4 16 "CamFigures$Makers" "totals" "[I", Cond.methodLink RX8 244 yX4_likeness, Cond.instanceMethod yX4_likeness, Cond.selects RX4 yX4_likeness yX4_likeness, Cond.code yX4_likeness cX4_likeness 6 (some .int), Cond.fieldLink RX4 20 "CamFigures$Makers" "times" "[I", Cond.fieldLink RX4 13 "CamFigures$Makers" "habits" "[[I", Cond.methodLink RX4 33 Lib.Math.abs.name, Cond.static Lib.Math.abs.name, Cond.initialized "java/lang/Math", Cond.code Lib.Math.abs.name Lib.Math.abs.code 1 (some .int), Cond.methodLink RX4 23 yX4_tally, Cond.instanceMethod yX4_tally, Cond.selects RX4 yX4_tally yX4_tally, Cond.code yX4_tally cX4_tally 5 none, Cond.methodLink RX4 43 yJ7_fill_53178, Cond.static yJ7_fill_53178, Cond.initialized RJ7]
def wsX8_like_r3 : List Cond := [Cond.code yJ7_fill_53178 cJ7_fill_53178 4 none, Cond.methodLink RX4 27 yX0_steps, Cond.instanceMethod yX0_steps, Cond.selects RX0 yX0_steps yX0_steps, Cond.code yX0_steps cX0_steps 1 (some .int), Cond.fieldLink RX0 24 "CamFigures$Cams" "steps" "I", Cond.methodLink RX4 49 yX0_heightAt, Cond.instanceMethod yX0_heightAt, Cond.selects RX0 yX0_heightAt yX0_heightAt, Cond.code yX0_heightAt cX0_heightAt 3 (some .int), Cond.fieldLink RX0 11 "CamFigures$Cams" "rows" "[[I"]
def wsX8_like : List Cond := .code yX8_like cX8_like 4 (some .int) :: ((wsX8_like_r1 ++ (wsX8_like_r2 ++ wsX8_like_r3)) ++ wsX80 ++ wsX00 ++ wsX40)
def wsX8_whose_r1 : List Cond := [Cond.fieldLink RX8 67 "CamFigures" "makers" "LCamFigures$Makers;", Cond.fieldLink RX8 10 "CamFigures" "cams" "LCamFigures$Cams;", Cond.methodLink RX8 107 yX8_refusalOfCam, Cond.instanceMethod yX8_refusalOfCam, Cond.selects RX8 yX8_refusalOfCam yX8_refusalOfCam, Cond.initialized RX8, Cond.code yX8_refusalOfCam cX8_refusalOfCam 2 (some .int), Cond.methodLink RX8 97 yX8_isCam, Cond.static yX8_isCam, Cond.code yX8_isCam cX8_isCam 1 (some .boolean), Cond.methodLink RX8 101 yX0_isThere, Cond.instanceMethod yX0_isThere, Cond.selects RX0 yX0_isThere yX0_isThere, Cond.initialized RX0, Cond.code yX0_isThere cX0_isThere 2 (some .boolean), Cond.fieldLink RX0 16 "CamFigures$Cams" "there" "[Z", Cond.methodLink RX8 82 yX8_refuse, Cond.instanceMethod yX8_refuse, Cond.selects RX8 yX8_refuse yX8_refuse, Cond.code yX8_refuse cX8_refuse 3 (some .int), Cond.fieldLink RX8 71 "CamFigures" "refusals" "[I", Cond.methodLink RX8 248 yX4_nearest, Cond.instanceMethod yX4_nearest, Cond.selects RX4 yX4_nearest yX4_nearest]
def wsX8_whose_r2 : List Cond := [Cond.initialized RX4, Cond.code yX4_nearest cX4_nearest 8 (some .int), Cond.fieldLink RX4 16 "CamFigures$Makers" "totals" "[I", Cond.methodLink RX4 39 yX4_likeness, Cond.instanceMethod yX4_likeness, Cond.selects RX4 yX4_likeness yX4_likeness, Cond.code yX4_likeness cX4_likeness 6 (some .int), Cond.fieldLink RX4 20 "CamFigures$Makers" "times" "[I", Cond.fieldLink RX4 13 "CamFigures$Makers" "habits" "[[I", Cond.methodLink RX4 33 Lib.Math.abs.name, Cond.static Lib.Math.abs.name, Cond.initialized "java/lang/Math", Cond.code Lib.Math.abs.name Lib.Math.abs.code 1 (some .int), Cond.methodLink RX4 23 yX4_tally, Cond.instanceMethod yX4_tally, Cond.selects RX4 yX4_tally yX4_tally, Cond.code yX4_tally cX4_tally 5 none, Cond.methodLink RX4 43 yJ7_fill_53178, Cond.static yJ7_fill_53178, Cond.initialized RJ7, Cond.code yJ7_fill_53178 cJ7_fill_53178 4 none, Cond.methodLink RX4 27 yX0_steps, Cond.instanceMethod yX0_steps, Cond.selects RX0 yX0_steps yX0_steps]
def wsX8_whose_r3 : List Cond := [Cond.code yX0_steps cX0_steps 1 (some .int), Cond.fieldLink RX0 24 "CamFigures$Cams" "steps" "I", Cond.methodLink RX4 49 yX0_heightAt, Cond.instanceMethod yX0_heightAt, Cond.selects RX0 yX0_heightAt yX0_heightAt, Cond.code yX0_heightAt cX0_heightAt 3 (some .int), Cond.fieldLink RX0 11 "CamFigures$Cams" "rows" "[[I"]
def wsX8_whose : List Cond := .code yX8_whose cX8_whose 3 (some .int) :: ((wsX8_whose_r1 ++ (wsX8_whose_r2 ++ wsX8_whose_r3)) ++ wsX80 ++ wsX00 ++ wsX40)
def wsX8_refusalsTold : List Cond := .code yX8_refusalsTold cX8_refusalsTold 2 (some .int) :: ([.fieldLink RX8 71 "CamFigures" "refusals" "[I"] ++ wsX80)
def wsX8_count_r1 : List Cond := [Cond.fieldLink RX8 10 "CamFigures" "cams" "LCamFigures$Cams;", Cond.fieldLink RX8 19 "CamFigures" "message" "LCamFigures$Message;", Cond.fieldLink RX8 26 "CamFigures" "spring" "LCamFigures$Spring;", Cond.fieldLink RX8 75 "CamFigures" "shows" "I", Cond.fieldLink RX8 79 "CamFigures" "showsDone" "I", Cond.fieldLink RX8 42 "CamFigures" "faults" "LCamFigures$Faults;", Cond.methodLink RX8 86 yX0_steps, Cond.instanceMethod yX0_steps, Cond.selects RX0 yX0_steps yX0_steps, Cond.initialized RX0, Cond.code yX0_steps cX0_steps 1 (some .int), Cond.fieldLink RX0 24 "CamFigures$Cams" "steps" "I", Cond.methodLink RX8 252 yX0_size, Cond.instanceMethod yX0_size, Cond.selects RX0 yX0_size yX0_size, Cond.code yX0_size cX0_size 3 (some .int), Cond.fieldLink RX0 16 "CamFigures$Cams" "there" "[Z", Cond.methodLink RX8 159 yX5_pegs, Cond.instanceMethod yX5_pegs, Cond.selects RX5 yX5_pegs yX5_pegs, Cond.initialized RX5, Cond.code yX5_pegs cX5_pegs 1 (some .int), Cond.fieldLink RX5 24 "CamFigures$Message" "pegs" "I", Cond.methodLink RX8 183 yX7_power]
def wsX8_count_r2 : List Cond := [Cond.instanceMethod yX7_power, Cond.selects RX7 yX7_power yX7_power, Cond.initialized RX7, Cond.code yX7_power cX7_power 1 (some .int), Cond.fieldLink RX7 7 "CamFigures$Spring" "power" "I", Cond.methodLink RX8 253 yX7_wear, Cond.instanceMethod yX7_wear, Cond.selects RX7 yX7_wear yX7_wear, Cond.code yX7_wear cX7_wear 1 (some .int), Cond.fieldLink RX7 22 "CamFigures$Spring" "steps" "I", Cond.methodLink RX7 25 Lib.Math.min.name, Cond.static Lib.Math.min.name, Cond.initialized "java/lang/Math", Cond.code Lib.Math.min.name Lib.Math.min.code 2 (some .int), Cond.methodLink RX8 256 yX7_strain, Cond.instanceMethod yX7_strain, Cond.selects RX7 yX7_strain yX7_strain, Cond.code yX7_strain cX7_strain 1 (some .int), Cond.fieldLink RX7 16 "CamFigures$Spring" "strain" "I", Cond.methodLink RX8 259 yX7_ticks, Cond.instanceMethod yX7_ticks, Cond.selects RX7 yX7_ticks yX7_ticks, Cond.code yX7_ticks cX7_ticks 1 (some .int), Cond.fieldLink RX7 19 "CamFigures$Spring" "ticks" "I"]
def wsX8_count_r3 : List Cond := [Cond.methodLink RX8 190 yX7_steps, Cond.instanceMethod yX7_steps, Cond.selects RX7 yX7_steps yX7_steps, Cond.code yX7_steps cX7_steps 1 (some .int), Cond.methodLink RX8 222 yX1_size, Cond.instanceMethod yX1_size, Cond.selects RX1 yX1_size yX1_size, Cond.initialized RX1, Cond.code yX1_size cX1_size 2 (some .int), Cond.fieldLink RX1 11 "CamFigures$Faults" "worn" "I", Cond.fieldLink RX1 15 "CamFigures$Faults" "loose" "I", Cond.fieldLink RX1 18 "CamFigures$Faults" "bent" "I", Cond.methodLink RX8 262 yX8_refusalsTold, Cond.instanceMethod yX8_refusalsTold, Cond.selects RX8 yX8_refusalsTold yX8_refusalsTold, Cond.initialized RX8, Cond.code yX8_refusalsTold cX8_refusalsTold 2 (some .int), Cond.fieldLink RX8 71 "CamFigures" "refusals" "[I"]
def wsX8_count : List Cond := .code yX8_count cX8_count 2 (some .int) :: ((wsX8_count_r1 ++ (wsX8_count_r2 ++ wsX8_count_r3)) ++ wsX80 ++ wsX00 ++ wsX50 ++ wsX70 ++ wsX10)
def wsX9_clearPaper : List Cond := .code yX9_clearPaper cX9_clearPaper 2 none :: ([.fieldLink RX9 39 "CamFiguresModel" "paperPeg" "[I", .fieldLink RX9 42 "CamFiguresModel" "paperStep" "[I"] ++ wsX90)
def wsX9_init_r1 : List Cond := [Cond.methodLink RX9 1 objectInit, Cond.instanceMethod objectInit, Cond.code objectInit ⟨#[0xb1]⟩ 1 none, Cond.fieldLink RX9 7 "CamFiguresModel" "length" "I", Cond.arrayClass .boolean, Cond.fieldLink RX9 13 "CamFiguresModel" "isThere" "[Z", Cond.arrayClass .int, Cond.fieldLink RX9 17 "CamFiguresModel" "cam" "[I", Cond.fieldLink RX9 21 "CamFiguresModel" "across" "[I", Cond.fieldLink RX9 24 "CamFiguresModel" "up" "[I", Cond.fieldLink RX9 27 "CamFiguresModel" "lift" "[I", Cond.fieldLink RX9 30 "CamFiguresModel" "peg" "[I", Cond.fieldLink RX9 33 "CamFiguresModel" "advance" "I", Cond.fieldLink RX9 36 "CamFiguresModel" "pull" "I", Cond.fieldLink RX9 39 "CamFiguresModel" "paperPeg" "[I", Cond.fieldLink RX9 42 "CamFiguresModel" "paperStep" "[I", Cond.fieldLink RX9 45 "CamFiguresModel" "fault" "[I", Cond.fieldLink RX9 48 "CamFiguresModel" "habit" "[I", Cond.fieldLink RX9 51 "CamFiguresModel" "cutBy" "[I", Cond.fieldLink RX9 54 "CamFiguresModel" "refused" "[I", Cond.fieldLink RX9 57 "CamFiguresModel" "between" "[I", Cond.fieldLink RX9 60 "CamFiguresModel" "least" "[I", Cond.fieldLink RX9 63 "CamFiguresModel" "blankOf" "[I", Cond.fieldLink RX9 66 "CamFiguresModel" "markPeg" "[I"]
def wsX9_init_r2 : List Cond := [Cond.fieldLink RX9 69 "CamFiguresModel" "markStep" "[I", Cond.methodLink RX9 72 yX9_clearPaper, Cond.instanceMethod yX9_clearPaper, Cond.selects RX9 yX9_clearPaper yX9_clearPaper, Cond.initialized RX9, Cond.code yX9_clearPaper cX9_clearPaper 2 none]
def wsX9_init : List Cond := .code yX9_init cX9_init 1 none :: ((wsX9_init_r1 ++ wsX9_init_r2) ++ wsX90)
def wsX9_in : List Cond := .code yX9_in cX9_in 3 (some .boolean) :: ([])
def wsX9_refuse : List Cond := .code yX9_refuse cX9_refuse 2 (some .int) :: ([.fieldLink RX9 54 "CamFiguresModel" "refused" "[I"] ++ wsX90)
def wsX9_isCam : List Cond := .code yX9_isCam cX9_isCam 1 (some .boolean) :: ([.methodLink RX9 75 yX9_in, .static yX9_in, .initialized RX9, .code yX9_in cX9_in 3 (some .boolean)])
def wsX9_length : List Cond := .code yX9_length cX9_length 4 (some .int) :: ([.fieldLink RX9 7 "CamFiguresModel" "length" "I", .fieldLink RX9 13 "CamFiguresModel" "isThere" "[Z", .methodLink RX9 79 yX9_refuse, .instanceMethod yX9_refuse, .selects RX9 yX9_refuse yX9_refuse, .initialized RX9, .code yX9_refuse cX9_refuse 2 (some .int), .fieldLink RX9 54 "CamFiguresModel" "refused" "[I", .methodLink RX9 72 yX9_clearPaper, .instanceMethod yX9_clearPaper, .selects RX9 yX9_clearPaper yX9_clearPaper, .code yX9_clearPaper cX9_clearPaper 2 none, .fieldLink RX9 39 "CamFiguresModel" "paperPeg" "[I", .fieldLink RX9 42 "CamFiguresModel" "paperStep" "[I"] ++ wsX90)
def wsX9_blank : List Cond := .code yX9_blank cX9_blank 4 (some .int) :: ([.fieldLink RX9 13 "CamFiguresModel" "isThere" "[Z", .fieldLink RX9 17 "CamFiguresModel" "cam" "[I", .methodLink RX9 83 yX9_isCam, .static yX9_isCam, .initialized RX9, .code yX9_isCam cX9_isCam 1 (some .boolean), .methodLink RX9 75 yX9_in, .static yX9_in, .code yX9_in cX9_in 3 (some .boolean), .methodLink RX9 79 yX9_refuse, .instanceMethod yX9_refuse, .selects RX9 yX9_refuse yX9_refuse, .code yX9_refuse cX9_refuse 2 (some .int), .fieldLink RX9 54 "CamFiguresModel" "refused" "[I"] ++ wsX90)
def wsX9_lacks : List Cond := .code yX9_lacks cX9_lacks 2 (some .int) :: ([.fieldLink RX9 13 "CamFiguresModel" "isThere" "[Z", .methodLink RX9 83 yX9_isCam, .static yX9_isCam, .initialized RX9, .code yX9_isCam cX9_isCam 1 (some .boolean), .methodLink RX9 75 yX9_in, .static yX9_in, .code yX9_in cX9_in 3 (some .boolean)] ++ wsX90)
def wsX9_lose : List Cond := .code yX9_lose cX9_lose 3 (some .int) :: ([.fieldLink RX9 13 "CamFiguresModel" "isThere" "[Z", .methodLink RX9 87 yX9_lacks, .instanceMethod yX9_lacks, .selects RX9 yX9_lacks yX9_lacks, .initialized RX9, .code yX9_lacks cX9_lacks 2 (some .int), .methodLink RX9 83 yX9_isCam, .static yX9_isCam, .code yX9_isCam cX9_isCam 1 (some .boolean), .methodLink RX9 75 yX9_in, .static yX9_in, .code yX9_in cX9_in 3 (some .boolean), .methodLink RX9 79 yX9_refuse, .instanceMethod yX9_refuse, .selects RX9 yX9_refuse yX9_refuse, .code yX9_refuse cX9_refuse 2 (some .int), .fieldLink RX9 54 "CamFiguresModel" "refused" "[I"] ++ wsX90)
def wsX9_cutAt : List Cond := .code yX9_cutAt cX9_cutAt 6 (some .int) :: ([.fieldLink RX9 7 "CamFiguresModel" "length" "I", .fieldLink RX9 17 "CamFiguresModel" "cam" "[I", .methodLink RX9 87 yX9_lacks, .instanceMethod yX9_lacks, .selects RX9 yX9_lacks yX9_lacks, .initialized RX9, .code yX9_lacks cX9_lacks 2 (some .int), .fieldLink RX9 13 "CamFiguresModel" "isThere" "[Z", .methodLink RX9 83 yX9_isCam, .static yX9_isCam, .code yX9_isCam cX9_isCam 1 (some .boolean), .methodLink RX9 75 yX9_in, .static yX9_in, .code yX9_in cX9_in 3 (some .boolean), .methodLink RX9 79 yX9_refuse, .instanceMethod yX9_refuse, .selects RX9 yX9_refuse yX9_refuse, .code yX9_refuse cX9_refuse 2 (some .int), .fieldLink RX9 54 "CamFiguresModel" "refused" "[I"] ++ wsX90)
def wsX9_height : List Cond := .code yX9_height cX9_height 4 (some .int) :: ([.fieldLink RX9 7 "CamFiguresModel" "length" "I", .fieldLink RX9 17 "CamFiguresModel" "cam" "[I", .methodLink RX9 87 yX9_lacks, .instanceMethod yX9_lacks, .selects RX9 yX9_lacks yX9_lacks, .initialized RX9, .code yX9_lacks cX9_lacks 2 (some .int), .fieldLink RX9 13 "CamFiguresModel" "isThere" "[Z", .methodLink RX9 83 yX9_isCam, .static yX9_isCam, .code yX9_isCam cX9_isCam 1 (some .boolean), .methodLink RX9 75 yX9_in, .static yX9_in, .code yX9_in cX9_in 3 (some .boolean), .methodLink RX9 79 yX9_refuse, .instanceMethod yX9_refuse, .selects RX9 yX9_refuse yX9_refuse, .code yX9_refuse cX9_refuse 2 (some .int), .fieldLink RX9 54 "CamFiguresModel" "refused" "[I"] ++ wsX90)
def wsX9_copy : List Cond := .code yX9_copy cX9_copy 7 (some .int) :: ([.fieldLink RX9 13 "CamFiguresModel" "isThere" "[Z", .fieldLink RX9 7 "CamFiguresModel" "length" "I", .fieldLink RX9 57 "CamFiguresModel" "between" "[I", .fieldLink RX9 17 "CamFiguresModel" "cam" "[I", .methodLink RX9 83 yX9_isCam, .static yX9_isCam, .initialized RX9, .code yX9_isCam cX9_isCam 1 (some .boolean), .methodLink RX9 75 yX9_in, .static yX9_in, .code yX9_in cX9_in 3 (some .boolean), .methodLink RX9 79 yX9_refuse, .instanceMethod yX9_refuse, .selects RX9 yX9_refuse yX9_refuse, .code yX9_refuse cX9_refuse 2 (some .int), .fieldLink RX9 54 "CamFiguresModel" "refused" "[I"] ++ wsX90)
def wsX9_turn : List Cond := .code yX9_turn cX9_turn 5 (some .int) :: ([.fieldLink RX9 7 "CamFiguresModel" "length" "I", .fieldLink RX9 57 "CamFiguresModel" "between" "[I", .fieldLink RX9 17 "CamFiguresModel" "cam" "[I", .methodLink RX9 87 yX9_lacks, .instanceMethod yX9_lacks, .selects RX9 yX9_lacks yX9_lacks, .initialized RX9, .code yX9_lacks cX9_lacks 2 (some .int), .fieldLink RX9 13 "CamFiguresModel" "isThere" "[Z", .methodLink RX9 83 yX9_isCam, .static yX9_isCam, .code yX9_isCam cX9_isCam 1 (some .boolean), .methodLink RX9 75 yX9_in, .static yX9_in, .code yX9_in cX9_in 3 (some .boolean), .methodLink RX9 79 yX9_refuse, .instanceMethod yX9_refuse, .selects RX9 yX9_refuse yX9_refuse, .code yX9_refuse cX9_refuse 2 (some .int), .fieldLink RX9 54 "CamFiguresModel" "refused" "[I"] ++ wsX90)
def wsX9_turnedBy : List Cond := .code yX9_turnedBy cX9_turnedBy 6 (some .int) :: ([.fieldLink RX9 7 "CamFiguresModel" "length" "I", .fieldLink RX9 17 "CamFiguresModel" "cam" "[I"] ++ wsX90)
def wsX9_findBlanks : List Cond := .code yX9_findBlanks cX9_findBlanks 4 (some .int) :: ([.fieldLink RX9 60 "CamFiguresModel" "least" "[I", .fieldLink RX9 63 "CamFiguresModel" "blankOf" "[I", .fieldLink RX9 13 "CamFiguresModel" "isThere" "[Z", .methodLink RX9 90 yX9_turnedBy, .instanceMethod yX9_turnedBy, .selects RX9 yX9_turnedBy yX9_turnedBy, .initialized RX9, .code yX9_turnedBy cX9_turnedBy 6 (some .int), .fieldLink RX9 7 "CamFiguresModel" "length" "I", .fieldLink RX9 17 "CamFiguresModel" "cam" "[I"] ++ wsX90)
def wsX9_blanks : List Cond := .code yX9_blanks cX9_blanks 1 (some .int) :: ([.methodLink RX9 94 yX9_findBlanks, .instanceMethod yX9_findBlanks, .selects RX9 yX9_findBlanks yX9_findBlanks, .initialized RX9, .code yX9_findBlanks cX9_findBlanks 4 (some .int), .fieldLink RX9 60 "CamFiguresModel" "least" "[I", .fieldLink RX9 63 "CamFiguresModel" "blankOf" "[I", .fieldLink RX9 13 "CamFiguresModel" "isThere" "[Z", .methodLink RX9 90 yX9_turnedBy, .instanceMethod yX9_turnedBy, .selects RX9 yX9_turnedBy yX9_turnedBy, .code yX9_turnedBy cX9_turnedBy 6 (some .int), .fieldLink RX9 7 "CamFiguresModel" "length" "I", .fieldLink RX9 17 "CamFiguresModel" "cam" "[I"] ++ wsX90)
def wsX9_smoothOf : List Cond := .code yX9_smoothOf cX9_smoothOf 5 (some .int) :: ([.fieldLink RX9 7 "CamFiguresModel" "length" "I", .fieldLink RX9 17 "CamFiguresModel" "cam" "[I"] ++ wsX90)
def wsX9_camOf_r1 : List Cond := [Cond.fieldLink RX9 63 "CamFiguresModel" "blankOf" "[I", Cond.fieldLink RX9 60 "CamFiguresModel" "least" "[I", Cond.methodLink RX9 87 yX9_lacks, Cond.instanceMethod yX9_lacks, Cond.selects RX9 yX9_lacks yX9_lacks, Cond.initialized RX9, Cond.code yX9_lacks cX9_lacks 2 (some .int), Cond.fieldLink RX9 13 "CamFiguresModel" "isThere" "[Z", Cond.methodLink RX9 83 yX9_isCam, Cond.static yX9_isCam, Cond.code yX9_isCam cX9_isCam 1 (some .boolean), Cond.methodLink RX9 75 yX9_in, Cond.static yX9_in, Cond.code yX9_in cX9_in 3 (some .boolean), Cond.methodLink RX9 79 yX9_refuse, Cond.instanceMethod yX9_refuse, Cond.selects RX9 yX9_refuse yX9_refuse, Cond.code yX9_refuse cX9_refuse 2 (some .int), Cond.fieldLink RX9 54 "CamFiguresModel" "refused" "[I", Cond.methodLink RX9 94 yX9_findBlanks, Cond.instanceMethod yX9_findBlanks, Cond.selects RX9 yX9_findBlanks yX9_findBlanks, Cond.code yX9_findBlanks cX9_findBlanks 4 (some .int), Cond.methodLink RX9 90 yX9_turnedBy]
def wsX9_camOf_r2 : List Cond := [Cond.instanceMethod yX9_turnedBy, Cond.selects RX9 yX9_turnedBy yX9_turnedBy, Cond.code yX9_turnedBy cX9_turnedBy 6 (some .int), Cond.fieldLink RX9 7 "CamFiguresModel" "length" "I", Cond.fieldLink RX9 17 "CamFiguresModel" "cam" "[I", Cond.methodLink RX9 98 yX9_smoothOf, Cond.instanceMethod yX9_smoothOf, Cond.selects RX9 yX9_smoothOf yX9_smoothOf, Cond.code yX9_smoothOf cX9_smoothOf 5 (some .int)]
def wsX9_camOf : List Cond := .code yX9_camOf cX9_camOf 5 (some .int) :: ((wsX9_camOf_r1 ++ wsX9_camOf_r2) ++ wsX90)
def wsX9_letter : List Cond := .code yX9_letter cX9_letter 5 (some .int) :: ([.fieldLink RX9 21 "CamFiguresModel" "across" "[I", .fieldLink RX9 24 "CamFiguresModel" "up" "[I", .fieldLink RX9 27 "CamFiguresModel" "lift" "[I", .methodLink RX9 75 yX9_in, .static yX9_in, .initialized RX9, .code yX9_in cX9_in 3 (some .boolean), .methodLink RX9 83 yX9_isCam, .static yX9_isCam, .code yX9_isCam cX9_isCam 1 (some .boolean), .methodLink RX9 79 yX9_refuse, .instanceMethod yX9_refuse, .selects RX9 yX9_refuse yX9_refuse, .code yX9_refuse cX9_refuse 2 (some .int), .fieldLink RX9 54 "CamFiguresModel" "refused" "[I"] ++ wsX90)
def wsX9_isCutLetter : List Cond := .code yX9_isCutLetter cX9_isCutLetter 2 (some .boolean) :: ([.fieldLink RX9 13 "CamFiguresModel" "isThere" "[Z", .fieldLink RX9 21 "CamFiguresModel" "across" "[I", .fieldLink RX9 24 "CamFiguresModel" "up" "[I", .fieldLink RX9 27 "CamFiguresModel" "lift" "[I"] ++ wsX90)
def wsX9_isCut : List Cond := .code yX9_isCut cX9_isCut 2 (some .int) :: ([.methodLink RX9 75 yX9_in, .static yX9_in, .initialized RX9, .code yX9_in cX9_in 3 (some .boolean), .methodLink RX9 101 yX9_isCutLetter, .instanceMethod yX9_isCutLetter, .selects RX9 yX9_isCutLetter yX9_isCutLetter, .code yX9_isCutLetter cX9_isCutLetter 2 (some .boolean), .fieldLink RX9 13 "CamFiguresModel" "isThere" "[Z", .fieldLink RX9 21 "CamFiguresModel" "across" "[I", .fieldLink RX9 24 "CamFiguresModel" "up" "[I", .fieldLink RX9 27 "CamFiguresModel" "lift" "[I", .methodLink RX9 79 yX9_refuse, .instanceMethod yX9_refuse, .selects RX9 yX9_refuse yX9_refuse, .code yX9_refuse cX9_refuse 2 (some .int), .fieldLink RX9 54 "CamFiguresModel" "refused" "[I"] ++ wsX90)
def wsX9_peg : List Cond := .code yX9_peg cX9_peg 2 (some .int) :: ([.fieldLink RX9 104 "CamFiguresModel" "pegs" "I", .fieldLink RX9 30 "CamFiguresModel" "peg" "[I", .methodLink RX9 75 yX9_in, .static yX9_in, .initialized RX9, .code yX9_in cX9_in 3 (some .boolean), .methodLink RX9 79 yX9_refuse, .instanceMethod yX9_refuse, .selects RX9 yX9_refuse yX9_refuse, .code yX9_refuse cX9_refuse 2 (some .int), .fieldLink RX9 54 "CamFiguresModel" "refused" "[I"] ++ wsX90)
def wsX9_unpeg : List Cond := .code yX9_unpeg cX9_unpeg 1 (some .int) :: ([.fieldLink RX9 104 "CamFiguresModel" "pegs" "I", .methodLink RX9 79 yX9_refuse, .instanceMethod yX9_refuse, .selects RX9 yX9_refuse yX9_refuse, .initialized RX9, .code yX9_refuse cX9_refuse 2 (some .int), .fieldLink RX9 54 "CamFiguresModel" "refused" "[I"] ++ wsX90)
def wsX9_advance : List Cond := .code yX9_advance cX9_advance 3 (some .int) :: ([.fieldLink RX9 33 "CamFiguresModel" "advance" "I", .methodLink RX9 79 yX9_refuse, .instanceMethod yX9_refuse, .selects RX9 yX9_refuse yX9_refuse, .initialized RX9, .code yX9_refuse cX9_refuse 2 (some .int), .fieldLink RX9 54 "CamFiguresModel" "refused" "[I"] ++ wsX90)
def wsX9_pull : List Cond := .code yX9_pull cX9_pull 3 (some .int) :: ([.fieldLink RX9 36 "CamFiguresModel" "pull" "I", .methodLink RX9 79 yX9_refuse, .instanceMethod yX9_refuse, .selects RX9 yX9_refuse yX9_refuse, .initialized RX9, .code yX9_refuse cX9_refuse 2 (some .int), .fieldLink RX9 54 "CamFiguresModel" "refused" "[I"] ++ wsX90)
def wsX9_wind : List Cond := .code yX9_wind cX9_wind 2 (some .int) :: ([.fieldLink RX9 107 "CamFiguresModel" "strain" "I", .fieldLink RX9 110 "CamFiguresModel" "power" "I", .methodLink RX9 79 yX9_refuse, .instanceMethod yX9_refuse, .selects RX9 yX9_refuse yX9_refuse, .initialized RX9, .code yX9_refuse cX9_refuse 2 (some .int), .fieldLink RX9 54 "CamFiguresModel" "refused" "[I"] ++ wsX90)
def wsX9_holdFaults : List Cond := .code yX9_holdFaults cX9_holdFaults 4 none :: ([.fieldLink RX9 113 "CamFiguresModel" "worn" "I", .fieldLink RX9 116 "CamFiguresModel" "loose" "I", .fieldLink RX9 119 "CamFiguresModel" "bent" "I"] ++ wsX90)
def wsX9_heightOf : List Cond := .code yX9_heightOf cX9_heightOf 4 (some .int) :: ([.fieldLink RX9 17 "CamFiguresModel" "cam" "[I", .fieldLink RX9 113 "CamFiguresModel" "worn" "I"] ++ wsX90)
def wsX9_xAt : List Cond := .code yX9_xAt cX9_xAt 3 (some .int) :: ([.fieldLink RX9 33 "CamFiguresModel" "advance" "I", .fieldLink RX9 21 "CamFiguresModel" "across" "[I", .fieldLink RX9 30 "CamFiguresModel" "peg" "[I", .fieldLink RX9 119 "CamFiguresModel" "bent" "I", .methodLink RX9 122 yX9_heightOf, .instanceMethod yX9_heightOf, .selects RX9 yX9_heightOf yX9_heightOf, .initialized RX9, .code yX9_heightOf cX9_heightOf 4 (some .int), .fieldLink RX9 17 "CamFiguresModel" "cam" "[I", .fieldLink RX9 113 "CamFiguresModel" "worn" "I"] ++ wsX90)
def wsX9_yAt : List Cond := .code yX9_yAt cX9_yAt 4 (some .int) :: ([.fieldLink RX9 24 "CamFiguresModel" "up" "[I", .fieldLink RX9 30 "CamFiguresModel" "peg" "[I", .fieldLink RX9 119 "CamFiguresModel" "bent" "I", .methodLink RX9 122 yX9_heightOf, .instanceMethod yX9_heightOf, .selects RX9 yX9_heightOf yX9_heightOf, .initialized RX9, .code yX9_heightOf cX9_heightOf 4 (some .int), .fieldLink RX9 17 "CamFiguresModel" "cam" "[I", .fieldLink RX9 113 "CamFiguresModel" "worn" "I"] ++ wsX90)
def wsX9_isDown : List Cond := .code yX9_isDown cX9_isDown 3 (some .boolean) :: ([.fieldLink RX9 27 "CamFiguresModel" "lift" "[I", .fieldLink RX9 30 "CamFiguresModel" "peg" "[I", .methodLink RX9 122 yX9_heightOf, .instanceMethod yX9_heightOf, .selects RX9 yX9_heightOf yX9_heightOf, .initialized RX9, .code yX9_heightOf cX9_heightOf 4 (some .int), .fieldLink RX9 17 "CamFiguresModel" "cam" "[I", .fieldLink RX9 113 "CamFiguresModel" "worn" "I"] ++ wsX90)
def wsX9_newMarks : List Cond := .code yX9_newMarks cX9_newMarks 2 none :: ([.fieldLink RX9 66 "CamFiguresModel" "markPeg" "[I", .fieldLink RX9 69 "CamFiguresModel" "markStep" "[I"] ++ wsX90)
def wsX9_mark : List Cond := .code yX9_mark cX9_mark 6 none :: ([.fieldLink RX9 66 "CamFiguresModel" "markPeg" "[I", .fieldLink RX9 69 "CamFiguresModel" "markStep" "[I"] ++ wsX90)
def wsX9_lower : List Cond := .code yX9_lower cX9_lower 3 (some .int) :: ([])
def wsX9_write_r1 : List Cond := [Cond.methodLink RX9 125 yX9_isDown, Cond.instanceMethod yX9_isDown, Cond.selects RX9 yX9_isDown yX9_isDown, Cond.initialized RX9, Cond.code yX9_isDown cX9_isDown 3 (some .boolean), Cond.fieldLink RX9 27 "CamFiguresModel" "lift" "[I", Cond.fieldLink RX9 30 "CamFiguresModel" "peg" "[I", Cond.methodLink RX9 122 yX9_heightOf, Cond.instanceMethod yX9_heightOf, Cond.selects RX9 yX9_heightOf yX9_heightOf, Cond.code yX9_heightOf cX9_heightOf 4 (some .int), Cond.fieldLink RX9 17 "CamFiguresModel" "cam" "[I", Cond.fieldLink RX9 113 "CamFiguresModel" "worn" "I", Cond.methodLink RX9 129 yX9_xAt, Cond.instanceMethod yX9_xAt, Cond.selects RX9 yX9_xAt yX9_xAt, Cond.code yX9_xAt cX9_xAt 3 (some .int), Cond.fieldLink RX9 33 "CamFiguresModel" "advance" "I", Cond.fieldLink RX9 21 "CamFiguresModel" "across" "[I", Cond.fieldLink RX9 119 "CamFiguresModel" "bent" "I", Cond.methodLink RX9 132 yX9_yAt, Cond.instanceMethod yX9_yAt, Cond.selects RX9 yX9_yAt yX9_yAt, Cond.code yX9_yAt cX9_yAt 4 (some .int)]
def wsX9_write_r2 : List Cond := [Cond.fieldLink RX9 24 "CamFiguresModel" "up" "[I", Cond.methodLink RX9 135 yX9_mark, Cond.instanceMethod yX9_mark, Cond.selects RX9 yX9_mark yX9_mark, Cond.code yX9_mark cX9_mark 6 none, Cond.fieldLink RX9 66 "CamFiguresModel" "markPeg" "[I", Cond.fieldLink RX9 69 "CamFiguresModel" "markStep" "[I", Cond.methodLink RX9 139 yX9_lower, Cond.static yX9_lower, Cond.code yX9_lower cX9_lower 3 (some .int)]
def wsX9_write : List Cond := .code yX9_write cX9_write 13 none :: ((wsX9_write_r1 ++ wsX9_write_r2) ++ wsX90)
def wsX9_areCut : List Cond := .code yX9_areCut cX9_areCut 3 (some .boolean) :: ([.fieldLink RX9 104 "CamFiguresModel" "pegs" "I", .fieldLink RX9 30 "CamFiguresModel" "peg" "[I", .methodLink RX9 101 yX9_isCutLetter, .instanceMethod yX9_isCutLetter, .selects RX9 yX9_isCutLetter yX9_isCutLetter, .initialized RX9, .code yX9_isCutLetter cX9_isCutLetter 2 (some .boolean), .fieldLink RX9 13 "CamFiguresModel" "isThere" "[Z", .fieldLink RX9 21 "CamFiguresModel" "across" "[I", .fieldLink RX9 24 "CamFiguresModel" "up" "[I", .fieldLink RX9 27 "CamFiguresModel" "lift" "[I"] ++ wsX90)
def wsX9_show_r1 : List Cond := [Cond.fieldLink RX9 45 "CamFiguresModel" "fault" "[I", Cond.fieldLink RX9 153 "CamFiguresModel" "shows" "I", Cond.fieldLink RX9 104 "CamFiguresModel" "pegs" "I", Cond.fieldLink RX9 7 "CamFiguresModel" "length" "I", Cond.fieldLink RX9 116 "CamFiguresModel" "loose" "I", Cond.fieldLink RX9 110 "CamFiguresModel" "power" "I", Cond.fieldLink RX9 36 "CamFiguresModel" "pull" "I", Cond.fieldLink RX9 156 "CamFiguresModel" "wear" "I", Cond.fieldLink RX9 159 "CamFiguresModel" "ticks" "I", Cond.fieldLink RX9 166 "CamFiguresModel" "steps" "I", Cond.fieldLink RX9 169 "CamFiguresModel" "doneMany" "I", Cond.fieldLink RX9 39 "CamFiguresModel" "paperPeg" "[I", Cond.fieldLink RX9 66 "CamFiguresModel" "markPeg" "[I", Cond.fieldLink RX9 42 "CamFiguresModel" "paperStep" "[I", Cond.fieldLink RX9 69 "CamFiguresModel" "markStep" "[I", Cond.methodLink RX9 142 yX9_areCut, Cond.instanceMethod yX9_areCut, Cond.selects RX9 yX9_areCut yX9_areCut, Cond.initialized RX9, Cond.code yX9_areCut cX9_areCut 3 (some .boolean), Cond.fieldLink RX9 30 "CamFiguresModel" "peg" "[I", Cond.methodLink RX9 101 yX9_isCutLetter, Cond.instanceMethod yX9_isCutLetter, Cond.selects RX9 yX9_isCutLetter yX9_isCutLetter]
def wsX9_show_r2 : List Cond := [Cond.code yX9_isCutLetter cX9_isCutLetter 2 (some .boolean), Cond.fieldLink RX9 13 "CamFiguresModel" "isThere" "[Z", Cond.fieldLink RX9 21 "CamFiguresModel" "across" "[I", Cond.fieldLink RX9 24 "CamFiguresModel" "up" "[I", Cond.fieldLink RX9 27 "CamFiguresModel" "lift" "[I", Cond.methodLink RX9 79 yX9_refuse, Cond.instanceMethod yX9_refuse, Cond.selects RX9 yX9_refuse yX9_refuse, Cond.code yX9_refuse cX9_refuse 2 (some .int), Cond.fieldLink RX9 54 "CamFiguresModel" "refused" "[I", Cond.methodLink RX9 146 yX9_holdFaults, Cond.instanceMethod yX9_holdFaults, Cond.selects RX9 yX9_holdFaults yX9_holdFaults, Cond.code yX9_holdFaults cX9_holdFaults 4 none, Cond.fieldLink RX9 113 "CamFiguresModel" "worn" "I", Cond.fieldLink RX9 119 "CamFiguresModel" "bent" "I", Cond.methodLink RX9 150 yX9_newMarks, Cond.instanceMethod yX9_newMarks, Cond.selects RX9 yX9_newMarks yX9_newMarks, Cond.code yX9_newMarks cX9_newMarks 2 none, Cond.methodLink RX9 162 yX9_write, Cond.instanceMethod yX9_write, Cond.selects RX9 yX9_write yX9_write, Cond.code yX9_write cX9_write 13 none]
def wsX9_show_r3 : List Cond := [Cond.methodLink RX9 125 yX9_isDown, Cond.instanceMethod yX9_isDown, Cond.selects RX9 yX9_isDown yX9_isDown, Cond.code yX9_isDown cX9_isDown 3 (some .boolean), Cond.methodLink RX9 122 yX9_heightOf, Cond.instanceMethod yX9_heightOf, Cond.selects RX9 yX9_heightOf yX9_heightOf, Cond.code yX9_heightOf cX9_heightOf 4 (some .int), Cond.fieldLink RX9 17 "CamFiguresModel" "cam" "[I", Cond.methodLink RX9 129 yX9_xAt, Cond.instanceMethod yX9_xAt, Cond.selects RX9 yX9_xAt yX9_xAt, Cond.code yX9_xAt cX9_xAt 3 (some .int), Cond.fieldLink RX9 33 "CamFiguresModel" "advance" "I", Cond.methodLink RX9 132 yX9_yAt, Cond.instanceMethod yX9_yAt, Cond.selects RX9 yX9_yAt yX9_yAt, Cond.code yX9_yAt cX9_yAt 4 (some .int), Cond.methodLink RX9 135 yX9_mark, Cond.instanceMethod yX9_mark, Cond.selects RX9 yX9_mark yX9_mark, Cond.code yX9_mark cX9_mark 6 none, Cond.methodLink RX9 139 yX9_lower, Cond.static yX9_lower]
def wsX9_show_r4 : List Cond := [Cond.code yX9_lower cX9_lower 3 (some .int)]
def wsX9_show : List Cond := .code yX9_show cX9_show 5 (some .int) :: ((wsX9_show_r1 ++ (wsX9_show_r2 ++ (wsX9_show_r3 ++ wsX9_show_r4))) ++ wsX90)
def wsX9_isCell : List Cond := .code yX9_isCell cX9_isCell 2 (some .boolean) :: ([.methodLink RX9 75 yX9_in, .static yX9_in, .initialized RX9, .code yX9_in cX9_in 3 (some .boolean)])
def wsX9_marked : List Cond := .code yX9_marked cX9_marked 3 (some .int) :: ([.fieldLink RX9 39 "CamFiguresModel" "paperPeg" "[I", .methodLink RX9 172 yX9_isCell, .static yX9_isCell, .initialized RX9, .code yX9_isCell cX9_isCell 2 (some .boolean), .methodLink RX9 75 yX9_in, .static yX9_in, .code yX9_in cX9_in 3 (some .boolean), .methodLink RX9 79 yX9_refuse, .instanceMethod yX9_refuse, .selects RX9 yX9_refuse yX9_refuse, .code yX9_refuse cX9_refuse 2 (some .int), .fieldLink RX9 54 "CamFiguresModel" "refused" "[I"] ++ wsX90)
def wsX9_first : List Cond := .code yX9_first cX9_first 5 (some .int) :: ([.fieldLink RX9 39 "CamFiguresModel" "paperPeg" "[I", .fieldLink RX9 42 "CamFiguresModel" "paperStep" "[I", .methodLink RX9 172 yX9_isCell, .static yX9_isCell, .initialized RX9, .code yX9_isCell cX9_isCell 2 (some .boolean), .methodLink RX9 75 yX9_in, .static yX9_in, .code yX9_in cX9_in 3 (some .boolean), .methodLink RX9 79 yX9_refuse, .instanceMethod yX9_refuse, .selects RX9 yX9_refuse yX9_refuse, .code yX9_refuse cX9_refuse 2 (some .int), .fieldLink RX9 54 "CamFiguresModel" "refused" "[I"] ++ wsX90)
def wsX9_marks : List Cond := .code yX9_marks cX9_marks 3 (some .int) :: ([.fieldLink RX9 39 "CamFiguresModel" "paperPeg" "[I"] ++ wsX90)
def wsX9_see : List Cond := .code yX9_see cX9_see 6 (some .int) :: ([.fieldLink RX9 39 "CamFiguresModel" "paperPeg" "[I", .fieldLink RX9 42 "CamFiguresModel" "paperStep" "[I", .methodLink RX9 172 yX9_isCell, .static yX9_isCell, .initialized RX9, .code yX9_isCell cX9_isCell 2 (some .boolean), .methodLink RX9 75 yX9_in, .static yX9_in, .code yX9_in cX9_in 3 (some .boolean), .methodLink RX9 79 yX9_refuse, .instanceMethod yX9_refuse, .selects RX9 yX9_refuse yX9_refuse, .code yX9_refuse cX9_refuse 2 (some .int), .fieldLink RX9 54 "CamFiguresModel" "refused" "[I"] ++ wsX90)
def wsX9_fault : List Cond := .code yX9_fault cX9_fault 3 (some .int) :: ([.fieldLink RX9 104 "CamFiguresModel" "pegs" "I", .fieldLink RX9 45 "CamFiguresModel" "fault" "[I", .methodLink RX9 75 yX9_in, .static yX9_in, .initialized RX9, .code yX9_in cX9_in 3 (some .boolean), .methodLink RX9 79 yX9_refuse, .instanceMethod yX9_refuse, .selects RX9 yX9_refuse yX9_refuse, .code yX9_refuse cX9_refuse 2 (some .int), .fieldLink RX9 54 "CamFiguresModel" "refused" "[I"] ++ wsX90)
def wsX9_faultMany : List Cond := .code yX9_faultMany cX9_faultMany 1 (some .int) :: ([.fieldLink RX9 45 "CamFiguresModel" "fault" "[I"] ++ wsX90)
def wsX9_mend : List Cond := .code yX9_mend cX9_mend 3 (some .int) :: ([.fieldLink RX9 45 "CamFiguresModel" "fault" "[I", .methodLink RX9 175 yX9_faultMany, .instanceMethod yX9_faultMany, .selects RX9 yX9_faultMany yX9_faultMany, .initialized RX9, .code yX9_faultMany cX9_faultMany 1 (some .int)] ++ wsX90)
def wsX9_isWritten_r1 : List Cond := [Cond.fieldLink RX9 104 "CamFiguresModel" "pegs" "I", Cond.fieldLink RX9 7 "CamFiguresModel" "length" "I", Cond.fieldLink RX9 116 "CamFiguresModel" "loose" "I", Cond.fieldLink RX9 39 "CamFiguresModel" "paperPeg" "[I", Cond.fieldLink RX9 66 "CamFiguresModel" "markPeg" "[I", Cond.methodLink RX9 146 yX9_holdFaults, Cond.instanceMethod yX9_holdFaults, Cond.selects RX9 yX9_holdFaults yX9_holdFaults, Cond.initialized RX9, Cond.code yX9_holdFaults cX9_holdFaults 4 none, Cond.fieldLink RX9 113 "CamFiguresModel" "worn" "I", Cond.fieldLink RX9 119 "CamFiguresModel" "bent" "I", Cond.methodLink RX9 150 yX9_newMarks, Cond.instanceMethod yX9_newMarks, Cond.selects RX9 yX9_newMarks yX9_newMarks, Cond.code yX9_newMarks cX9_newMarks 2 none, Cond.fieldLink RX9 69 "CamFiguresModel" "markStep" "[I", Cond.methodLink RX9 162 yX9_write, Cond.instanceMethod yX9_write, Cond.selects RX9 yX9_write yX9_write, Cond.code yX9_write cX9_write 13 none, Cond.methodLink RX9 125 yX9_isDown, Cond.instanceMethod yX9_isDown, Cond.selects RX9 yX9_isDown yX9_isDown]
def wsX9_isWritten_r2 : List Cond := [Cond.code yX9_isDown cX9_isDown 3 (some .boolean), Cond.fieldLink RX9 27 "CamFiguresModel" "lift" "[I", Cond.fieldLink RX9 30 "CamFiguresModel" "peg" "[I", Cond.methodLink RX9 122 yX9_heightOf, Cond.instanceMethod yX9_heightOf, Cond.selects RX9 yX9_heightOf yX9_heightOf, Cond.code yX9_heightOf cX9_heightOf 4 (some .int), Cond.fieldLink RX9 17 "CamFiguresModel" "cam" "[I", Cond.methodLink RX9 129 yX9_xAt, Cond.instanceMethod yX9_xAt, Cond.selects RX9 yX9_xAt yX9_xAt, Cond.code yX9_xAt cX9_xAt 3 (some .int), Cond.fieldLink RX9 33 "CamFiguresModel" "advance" "I", Cond.fieldLink RX9 21 "CamFiguresModel" "across" "[I", Cond.methodLink RX9 132 yX9_yAt, Cond.instanceMethod yX9_yAt, Cond.selects RX9 yX9_yAt yX9_yAt, Cond.code yX9_yAt cX9_yAt 4 (some .int), Cond.fieldLink RX9 24 "CamFiguresModel" "up" "[I", Cond.methodLink RX9 135 yX9_mark, Cond.instanceMethod yX9_mark, Cond.selects RX9 yX9_mark yX9_mark, Cond.code yX9_mark cX9_mark 6 none, Cond.methodLink RX9 139 yX9_lower]
def wsX9_isWritten_r3 : List Cond := [Cond.static yX9_lower, Cond.code yX9_lower cX9_lower 3 (some .int)]
def wsX9_isWritten : List Cond := .code yX9_isWritten cX9_isWritten 6 (some .boolean) :: ((wsX9_isWritten_r1 ++ (wsX9_isWritten_r2 ++ wsX9_isWritten_r3)) ++ wsX90)
def wsX9_findKind_r1 : List Cond := [Cond.fieldLink RX9 178 "CamFiguresModel" "which" "I", Cond.fieldLink RX9 13 "CamFiguresModel" "isThere" "[Z", Cond.fieldLink RX9 104 "CamFiguresModel" "pegs" "I", Cond.methodLink RX9 181 yX9_isWritten, Cond.instanceMethod yX9_isWritten, Cond.selects RX9 yX9_isWritten yX9_isWritten, Cond.initialized RX9, Cond.code yX9_isWritten cX9_isWritten 6 (some .boolean), Cond.fieldLink RX9 7 "CamFiguresModel" "length" "I", Cond.fieldLink RX9 116 "CamFiguresModel" "loose" "I", Cond.fieldLink RX9 39 "CamFiguresModel" "paperPeg" "[I", Cond.fieldLink RX9 66 "CamFiguresModel" "markPeg" "[I", Cond.methodLink RX9 146 yX9_holdFaults, Cond.instanceMethod yX9_holdFaults, Cond.selects RX9 yX9_holdFaults yX9_holdFaults, Cond.code yX9_holdFaults cX9_holdFaults 4 none, Cond.fieldLink RX9 113 "CamFiguresModel" "worn" "I", Cond.fieldLink RX9 119 "CamFiguresModel" "bent" "I", Cond.methodLink RX9 150 yX9_newMarks, Cond.instanceMethod yX9_newMarks, Cond.selects RX9 yX9_newMarks yX9_newMarks, Cond.code yX9_newMarks cX9_newMarks 2 none, Cond.fieldLink RX9 69 "CamFiguresModel" "markStep" "[I", Cond.methodLink RX9 162 yX9_write]
def wsX9_findKind_r2 : List Cond := [Cond.instanceMethod yX9_write, Cond.selects RX9 yX9_write yX9_write, Cond.code yX9_write cX9_write 13 none, Cond.methodLink RX9 125 yX9_isDown, Cond.instanceMethod yX9_isDown, Cond.selects RX9 yX9_isDown yX9_isDown, Cond.code yX9_isDown cX9_isDown 3 (some .boolean), Cond.fieldLink RX9 27 "CamFiguresModel" "lift" "[I", Cond.fieldLink RX9 30 "CamFiguresModel" "peg" "[I", Cond.methodLink RX9 122 yX9_heightOf, Cond.instanceMethod yX9_heightOf, Cond.selects RX9 yX9_heightOf yX9_heightOf, Cond.code yX9_heightOf cX9_heightOf 4 (some .int), Cond.fieldLink RX9 17 "CamFiguresModel" "cam" "[I", Cond.methodLink RX9 129 yX9_xAt, Cond.instanceMethod yX9_xAt, Cond.selects RX9 yX9_xAt yX9_xAt, Cond.code yX9_xAt cX9_xAt 3 (some .int), Cond.fieldLink RX9 33 "CamFiguresModel" "advance" "I", Cond.fieldLink RX9 21 "CamFiguresModel" "across" "[I", Cond.methodLink RX9 132 yX9_yAt, Cond.instanceMethod yX9_yAt, Cond.selects RX9 yX9_yAt yX9_yAt, Cond.code yX9_yAt cX9_yAt 4 (some .int)]
def wsX9_findKind_r3 : List Cond := [Cond.fieldLink RX9 24 "CamFiguresModel" "up" "[I", Cond.methodLink RX9 135 yX9_mark, Cond.instanceMethod yX9_mark, Cond.selects RX9 yX9_mark yX9_mark, Cond.code yX9_mark cX9_mark 6 none, Cond.methodLink RX9 139 yX9_lower, Cond.static yX9_lower, Cond.code yX9_lower cX9_lower 3 (some .int)]
def wsX9_findKind : List Cond := .code yX9_findKind cX9_findKind 2 (some .int) :: ((wsX9_findKind_r1 ++ (wsX9_findKind_r2 ++ wsX9_findKind_r3)) ++ wsX90)
def wsX9_explained_r1 : List Cond := [Cond.fieldLink RX9 178 "CamFiguresModel" "which" "I", Cond.methodLink RX9 75 yX9_in, Cond.static yX9_in, Cond.initialized RX9, Cond.code yX9_in cX9_in 3 (some .boolean), Cond.methodLink RX9 79 yX9_refuse, Cond.instanceMethod yX9_refuse, Cond.selects RX9 yX9_refuse yX9_refuse, Cond.code yX9_refuse cX9_refuse 2 (some .int), Cond.fieldLink RX9 54 "CamFiguresModel" "refused" "[I", Cond.methodLink RX9 142 yX9_areCut, Cond.instanceMethod yX9_areCut, Cond.selects RX9 yX9_areCut yX9_areCut, Cond.code yX9_areCut cX9_areCut 3 (some .boolean), Cond.fieldLink RX9 104 "CamFiguresModel" "pegs" "I", Cond.fieldLink RX9 30 "CamFiguresModel" "peg" "[I", Cond.methodLink RX9 101 yX9_isCutLetter, Cond.instanceMethod yX9_isCutLetter, Cond.selects RX9 yX9_isCutLetter yX9_isCutLetter, Cond.code yX9_isCutLetter cX9_isCutLetter 2 (some .boolean), Cond.fieldLink RX9 13 "CamFiguresModel" "isThere" "[Z", Cond.fieldLink RX9 21 "CamFiguresModel" "across" "[I", Cond.fieldLink RX9 24 "CamFiguresModel" "up" "[I", Cond.fieldLink RX9 27 "CamFiguresModel" "lift" "[I"]
def wsX9_explained_r2 : List Cond := [Cond.methodLink RX9 184 yX9_findKind, Cond.instanceMethod yX9_findKind, Cond.selects RX9 yX9_findKind yX9_findKind, Cond.code yX9_findKind cX9_findKind 2 (some .int), Cond.methodLink RX9 181 yX9_isWritten, Cond.instanceMethod yX9_isWritten, Cond.selects RX9 yX9_isWritten yX9_isWritten, Cond.code yX9_isWritten cX9_isWritten 6 (some .boolean), Cond.fieldLink RX9 7 "CamFiguresModel" "length" "I", Cond.fieldLink RX9 116 "CamFiguresModel" "loose" "I", Cond.fieldLink RX9 39 "CamFiguresModel" "paperPeg" "[I", Cond.fieldLink RX9 66 "CamFiguresModel" "markPeg" "[I", Cond.methodLink RX9 146 yX9_holdFaults, Cond.instanceMethod yX9_holdFaults, Cond.selects RX9 yX9_holdFaults yX9_holdFaults, Cond.code yX9_holdFaults cX9_holdFaults 4 none, Cond.fieldLink RX9 113 "CamFiguresModel" "worn" "I", Cond.fieldLink RX9 119 "CamFiguresModel" "bent" "I", Cond.methodLink RX9 150 yX9_newMarks, Cond.instanceMethod yX9_newMarks, Cond.selects RX9 yX9_newMarks yX9_newMarks, Cond.code yX9_newMarks cX9_newMarks 2 none, Cond.fieldLink RX9 69 "CamFiguresModel" "markStep" "[I", Cond.methodLink RX9 162 yX9_write]
def wsX9_explained_r3 : List Cond := [Cond.instanceMethod yX9_write, Cond.selects RX9 yX9_write yX9_write, Cond.code yX9_write cX9_write 13 none, Cond.methodLink RX9 125 yX9_isDown, Cond.instanceMethod yX9_isDown, Cond.selects RX9 yX9_isDown yX9_isDown, Cond.code yX9_isDown cX9_isDown 3 (some .boolean), Cond.methodLink RX9 122 yX9_heightOf, Cond.instanceMethod yX9_heightOf, Cond.selects RX9 yX9_heightOf yX9_heightOf, Cond.code yX9_heightOf cX9_heightOf 4 (some .int), Cond.fieldLink RX9 17 "CamFiguresModel" "cam" "[I", Cond.methodLink RX9 129 yX9_xAt, Cond.instanceMethod yX9_xAt, Cond.selects RX9 yX9_xAt yX9_xAt, Cond.code yX9_xAt cX9_xAt 3 (some .int), Cond.fieldLink RX9 33 "CamFiguresModel" "advance" "I", Cond.methodLink RX9 132 yX9_yAt, Cond.instanceMethod yX9_yAt, Cond.selects RX9 yX9_yAt yX9_yAt, Cond.code yX9_yAt cX9_yAt 4 (some .int), Cond.methodLink RX9 135 yX9_mark, Cond.instanceMethod yX9_mark, Cond.selects RX9 yX9_mark yX9_mark]
def wsX9_explained_r4 : List Cond := [Cond.code yX9_mark cX9_mark 6 none, Cond.methodLink RX9 139 yX9_lower, Cond.static yX9_lower, Cond.code yX9_lower cX9_lower 3 (some .int)]
def wsX9_explained : List Cond := .code yX9_explained cX9_explained 3 (some .int) :: ((wsX9_explained_r1 ++ (wsX9_explained_r2 ++ (wsX9_explained_r3 ++ wsX9_explained_r4))) ++ wsX90)
def wsX9_timesIn : List Cond := .code yX9_timesIn cX9_timesIn 5 (some .int) :: ([.fieldLink RX9 7 "CamFiguresModel" "length" "I", .fieldLink RX9 17 "CamFiguresModel" "cam" "[I"] ++ wsX90)
def wsX9_made : List Cond := .code yX9_made cX9_made 4 (some .int) :: ([.fieldLink RX9 13 "CamFiguresModel" "isThere" "[Z", .fieldLink RX9 51 "CamFiguresModel" "cutBy" "[I", .fieldLink RX9 7 "CamFiguresModel" "length" "I", .fieldLink RX9 48 "CamFiguresModel" "habit" "[I", .methodLink RX9 83 yX9_isCam, .static yX9_isCam, .initialized RX9, .code yX9_isCam cX9_isCam 1 (some .boolean), .methodLink RX9 75 yX9_in, .static yX9_in, .code yX9_in cX9_in 3 (some .boolean), .methodLink RX9 79 yX9_refuse, .instanceMethod yX9_refuse, .selects RX9 yX9_refuse yX9_refuse, .code yX9_refuse cX9_refuse 2 (some .int), .fieldLink RX9 54 "CamFiguresModel" "refused" "[I", .methodLink RX9 187 yX9_timesIn, .instanceMethod yX9_timesIn, .selects RX9 yX9_timesIn yX9_timesIn, .code yX9_timesIn cX9_timesIn 5 (some .int), .fieldLink RX9 17 "CamFiguresModel" "cam" "[I"] ++ wsX90)
def wsX9_likeness : List Cond := .code yX9_likeness cX9_likeness 6 (some .int) :: ([.fieldLink RX9 51 "CamFiguresModel" "cutBy" "[I", .fieldLink RX9 48 "CamFiguresModel" "habit" "[I", .fieldLink RX9 7 "CamFiguresModel" "length" "I", .methodLink RX9 187 yX9_timesIn, .instanceMethod yX9_timesIn, .selects RX9 yX9_timesIn yX9_timesIn, .initialized RX9, .code yX9_timesIn cX9_timesIn 5 (some .int), .fieldLink RX9 17 "CamFiguresModel" "cam" "[I"] ++ wsX90)
def wsX9_like_r1 : List Cond := [Cond.fieldLink RX9 13 "CamFiguresModel" "isThere" "[Z", Cond.fieldLink RX9 51 "CamFiguresModel" "cutBy" "[I", Cond.methodLink RX9 83 yX9_isCam, Cond.static yX9_isCam, Cond.initialized RX9, Cond.code yX9_isCam cX9_isCam 1 (some .boolean), Cond.methodLink RX9 75 yX9_in, Cond.static yX9_in, Cond.code yX9_in cX9_in 3 (some .boolean), Cond.methodLink RX9 79 yX9_refuse, Cond.instanceMethod yX9_refuse, Cond.selects RX9 yX9_refuse yX9_refuse, Cond.code yX9_refuse cX9_refuse 2 (some .int), Cond.fieldLink RX9 54 "CamFiguresModel" "refused" "[I", Cond.methodLink RX9 190 yX9_likeness, Cond.instanceMethod yX9_likeness, Cond.selects RX9 yX9_likeness yX9_likeness, Cond.code yX9_likeness cX9_likeness 6 (some .int), Cond.fieldLink RX9 48 "CamFiguresModel" "habit" "[I", Cond.fieldLink RX9 7 "CamFiguresModel" "length" "I", Cond.methodLink RX9 187 yX9_timesIn, Cond.instanceMethod yX9_timesIn, Cond.selects RX9 yX9_timesIn yX9_timesIn, Cond.code yX9_timesIn cX9_timesIn 5 (some .int)]
def wsX9_like_r2 : List Cond := [Cond.fieldLink RX9 17 "CamFiguresModel" "cam" "[I"]
def wsX9_like : List Cond := .code yX9_like cX9_like 3 (some .int) :: ((wsX9_like_r1 ++ wsX9_like_r2) ++ wsX90)
def wsX9_whose_r1 : List Cond := [Cond.fieldLink RX9 51 "CamFiguresModel" "cutBy" "[I", Cond.methodLink RX9 87 yX9_lacks, Cond.instanceMethod yX9_lacks, Cond.selects RX9 yX9_lacks yX9_lacks, Cond.initialized RX9, Cond.code yX9_lacks cX9_lacks 2 (some .int), Cond.fieldLink RX9 13 "CamFiguresModel" "isThere" "[Z", Cond.methodLink RX9 83 yX9_isCam, Cond.static yX9_isCam, Cond.code yX9_isCam cX9_isCam 1 (some .boolean), Cond.methodLink RX9 75 yX9_in, Cond.static yX9_in, Cond.code yX9_in cX9_in 3 (some .boolean), Cond.methodLink RX9 79 yX9_refuse, Cond.instanceMethod yX9_refuse, Cond.selects RX9 yX9_refuse yX9_refuse, Cond.code yX9_refuse cX9_refuse 2 (some .int), Cond.fieldLink RX9 54 "CamFiguresModel" "refused" "[I", Cond.methodLink RX9 190 yX9_likeness, Cond.instanceMethod yX9_likeness, Cond.selects RX9 yX9_likeness yX9_likeness, Cond.code yX9_likeness cX9_likeness 6 (some .int), Cond.fieldLink RX9 48 "CamFiguresModel" "habit" "[I", Cond.fieldLink RX9 7 "CamFiguresModel" "length" "I"]
def wsX9_whose_r2 : List Cond := [Cond.methodLink RX9 187 yX9_timesIn, Cond.instanceMethod yX9_timesIn, Cond.selects RX9 yX9_timesIn yX9_timesIn, Cond.code yX9_timesIn cX9_timesIn 5 (some .int), Cond.fieldLink RX9 17 "CamFiguresModel" "cam" "[I"]
def wsX9_whose : List Cond := .code yX9_whose cX9_whose 5 (some .int) :: ((wsX9_whose_r1 ++ wsX9_whose_r2) ++ wsX90)
def wsX9_count : List Cond := .code yX9_count cX9_count 4 (some .int) :: ([.fieldLink RX9 7 "CamFiguresModel" "length" "I", .fieldLink RX9 13 "CamFiguresModel" "isThere" "[Z", .fieldLink RX9 104 "CamFiguresModel" "pegs" "I", .fieldLink RX9 110 "CamFiguresModel" "power" "I", .fieldLink RX9 156 "CamFiguresModel" "wear" "I", .fieldLink RX9 107 "CamFiguresModel" "strain" "I", .fieldLink RX9 159 "CamFiguresModel" "ticks" "I", .fieldLink RX9 166 "CamFiguresModel" "steps" "I", .fieldLink RX9 153 "CamFiguresModel" "shows" "I", .fieldLink RX9 169 "CamFiguresModel" "doneMany" "I", .fieldLink RX9 54 "CamFiguresModel" "refused" "[I", .methodLink RX9 175 yX9_faultMany, .instanceMethod yX9_faultMany, .selects RX9 yX9_faultMany yX9_faultMany, .initialized RX9, .code yX9_faultMany cX9_faultMany 1 (some .int), .fieldLink RX9 45 "CamFiguresModel" "fault" "[I", .methodLink RX9 75 yX9_in, .static yX9_in, .code yX9_in cX9_in 3 (some .boolean)] ++ wsX90)
def wsJ9_abs_0f7a4 : List Cond := .code yJ9_abs_0f7a4 cJ9_abs_0f7a4 1 (some .int) :: ([])
def wsJ9_max_7cf53 : List Cond := .code yJ9_max_7cf53 cJ9_max_7cf53 2 (some .int) :: ([])
def wsJ9_min_7cf53 : List Cond := .code yJ9_min_7cf53 cJ9_min_7cf53 2 (some .int) :: ([])
end
section
theorem dX0_init_0 : decode cX0_init 0 = .ok (.aload_n 0, 1) := by decide +kernel
theorem dX0_init_1 : decode cX0_init 1 = .ok (.invokespecial 3, 3) := by decide +kernel
theorem dX0_init_4 : decode cX0_init 4 = .ok (.aload_n 0, 1) := by decide +kernel
theorem dX0_init_5 : decode cX0_init 5 = .ok (.bipush 12, 2) := by decide +kernel
theorem dX0_init_7 : decode cX0_init 7 = .ok (.bipush 16, 2) := by decide +kernel
theorem dX0_init_9 : decode cX0_init 9 = .ok (.multianewarray 9 2, 4) := by decide +kernel
theorem dX0_init_13 : decode cX0_init 13 = .ok (.putfield 11, 3) := by decide +kernel
theorem dX0_init_16 : decode cX0_init 16 = .ok (.aload_n 0, 1) := by decide +kernel
theorem dX0_init_17 : decode cX0_init 17 = .ok (.bipush 12, 2) := by decide +kernel
theorem dX0_init_19 : decode cX0_init 19 = .ok (.newarray .boolean, 2) := by decide +kernel
theorem dX0_init_21 : decode cX0_init 21 = .ok (.putfield 16, 3) := by decide +kernel
theorem dX0_init_24 : decode cX0_init 24 = .ok (.aload_n 0, 1) := by decide +kernel
theorem dX0_init_25 : decode cX0_init 25 = .ok (.bipush 16, 2) := by decide +kernel
theorem dX0_init_27 : decode cX0_init 27 = .ok (.newarray .int, 2) := by decide +kernel
theorem dX0_init_29 : decode cX0_init 29 = .ok (.putfield 20, 3) := by decide +kernel
theorem dX0_init_32 : decode cX0_init 32 = .ok (.aload_n 0, 1) := by decide +kernel
theorem dX0_init_33 : decode cX0_init 33 = .ok (.bipush 8, 2) := by decide +kernel
theorem dX0_init_35 : decode cX0_init 35 = .ok (.putfield 24, 3) := by decide +kernel
theorem dX0_init_38 : decode cX0_init 38 = .ok (.return_, 1) := by decide +kernel
theorem dX0_steps_0 : decode cX0_steps 0 = .ok (.aload_n 0, 1) := by decide +kernel
theorem dX0_steps_1 : decode cX0_steps 1 = .ok (.getfield 24, 3) := by decide +kernel
theorem dX0_steps_4 : decode cX0_steps 4 = .ok (.ireturn, 1) := by decide +kernel
theorem dX0_size_0 : decode cX0_size 0 = .ok (.iconst 0, 1) := by decide +kernel
theorem dX0_size_1 : decode cX0_size 1 = .ok (.istore_n 1, 1) := by decide +kernel
theorem dX0_size_2 : decode cX0_size 2 = .ok (.iconst 0, 1) := by decide +kernel
theorem dX0_size_3 : decode cX0_size 3 = .ok (.istore_n 2, 1) := by decide +kernel
theorem dX0_size_4 : decode cX0_size 4 = .ok (.iload_n 2, 1) := by decide +kernel
theorem dX0_size_5 : decode cX0_size 5 = .ok (.bipush 12, 2) := by decide +kernel
theorem dX0_size_7 : decode cX0_size 7 = .ok (.if_icmp .ge 21, 3) := by decide +kernel
theorem dX0_size_10 : decode cX0_size 10 = .ok (.aload_n 0, 1) := by decide +kernel
theorem dX0_size_11 : decode cX0_size 11 = .ok (.getfield 16, 3) := by decide +kernel
theorem dX0_size_14 : decode cX0_size 14 = .ok (.iload_n 2, 1) := by decide +kernel
theorem dX0_size_15 : decode cX0_size 15 = .ok (.baload, 1) := by decide +kernel
theorem dX0_size_16 : decode cX0_size 16 = .ok (.ifCond .eq 6, 3) := by decide +kernel
theorem dX0_size_19 : decode cX0_size 19 = .ok (.iinc 1 1, 3) := by decide +kernel
theorem dX0_size_22 : decode cX0_size 22 = .ok (.iinc 2 1, 3) := by decide +kernel
theorem dX0_size_25 : decode cX0_size 25 = .ok (.goto (-21), 3) := by decide +kernel
theorem dX0_size_28 : decode cX0_size 28 = .ok (.iload_n 1, 1) := by decide +kernel
theorem dX0_size_29 : decode cX0_size 29 = .ok (.ireturn, 1) := by decide +kernel
theorem dX0_isThere_0 : decode cX0_isThere 0 = .ok (.aload_n 0, 1) := by decide +kernel
theorem dX0_isThere_1 : decode cX0_isThere 1 = .ok (.getfield 16, 3) := by decide +kernel
theorem dX0_isThere_4 : decode cX0_isThere 4 = .ok (.iload_n 1, 1) := by decide +kernel
theorem dX0_isThere_5 : decode cX0_isThere 5 = .ok (.baload, 1) := by decide +kernel
theorem dX0_isThere_6 : decode cX0_isThere 6 = .ok (.ireturn, 1) := by decide +kernel
theorem dX0_startAnew_0 : decode cX0_startAnew 0 = .ok (.aload_n 0, 1) := by decide +kernel
theorem dX0_startAnew_1 : decode cX0_startAnew 1 = .ok (.iload_n 1, 1) := by decide +kernel
theorem dX0_startAnew_2 : decode cX0_startAnew 2 = .ok (.putfield 24, 3) := by decide +kernel
theorem dX0_startAnew_5 : decode cX0_startAnew 5 = .ok (.iconst 0, 1) := by decide +kernel
theorem dX0_startAnew_6 : decode cX0_startAnew 6 = .ok (.istore_n 2, 1) := by decide +kernel
theorem dX0_startAnew_7 : decode cX0_startAnew 7 = .ok (.iload_n 2, 1) := by decide +kernel
theorem dX0_startAnew_8 : decode cX0_startAnew 8 = .ok (.bipush 12, 2) := by decide +kernel
theorem dX0_startAnew_10 : decode cX0_startAnew 10 = .ok (.if_icmp .ge 16, 3) := by decide +kernel
theorem dX0_startAnew_13 : decode cX0_startAnew 13 = .ok (.aload_n 0, 1) := by decide +kernel
theorem dX0_startAnew_14 : decode cX0_startAnew 14 = .ok (.getfield 16, 3) := by decide +kernel
theorem dX0_startAnew_17 : decode cX0_startAnew 17 = .ok (.iload_n 2, 1) := by decide +kernel
theorem dX0_startAnew_18 : decode cX0_startAnew 18 = .ok (.iconst 0, 1) := by decide +kernel
theorem dX0_startAnew_19 : decode cX0_startAnew 19 = .ok (.bastore, 1) := by decide +kernel
theorem dX0_startAnew_20 : decode cX0_startAnew 20 = .ok (.iinc 2 1, 3) := by decide +kernel
theorem dX0_startAnew_23 : decode cX0_startAnew 23 = .ok (.goto (-16), 3) := by decide +kernel
theorem dX0_startAnew_26 : decode cX0_startAnew 26 = .ok (.return_, 1) := by decide +kernel
set_option maxRecDepth 20000 in
theorem ggX0_makeFlat_J7_fill_53178 : GoodIn wsX0_makeFlat wsJ7_fill_53178 := goodIn_r _ [6] (by decide +kernel) (by decide +kernel)
set_option maxRecDepth 20000 in
theorem gX0_makeFlat_J7_fill_53178 : GoodIn wsX0_makeFlat (va_wsS RX0 28 yJ7_fill_53178 wsJ7_fill_53178) := goodIn_app (goodIn_of _ (by decide +kernel)) ggX0_makeFlat_J7_fill_53178
theorem dX0_makeFlat_0 : decode cX0_makeFlat 0 = .ok (.aload_n 0, 1) := by decide +kernel
theorem dX0_makeFlat_1 : decode cX0_makeFlat 1 = .ok (.getfield 16, 3) := by decide +kernel
theorem dX0_makeFlat_4 : decode cX0_makeFlat 4 = .ok (.iload_n 1, 1) := by decide +kernel
theorem dX0_makeFlat_5 : decode cX0_makeFlat 5 = .ok (.iconst 1, 1) := by decide +kernel
theorem dX0_makeFlat_6 : decode cX0_makeFlat 6 = .ok (.bastore, 1) := by decide +kernel
theorem dX0_makeFlat_7 : decode cX0_makeFlat 7 = .ok (.aload_n 0, 1) := by decide +kernel
theorem dX0_makeFlat_8 : decode cX0_makeFlat 8 = .ok (.getfield 11, 3) := by decide +kernel
theorem dX0_makeFlat_11 : decode cX0_makeFlat 11 = .ok (.iload_n 1, 1) := by decide +kernel
theorem dX0_makeFlat_12 : decode cX0_makeFlat 12 = .ok (.aaload, 1) := by decide +kernel
theorem dX0_makeFlat_13 : decode cX0_makeFlat 13 = .ok (.iconst 0, 1) := by decide +kernel
theorem dX0_makeFlat_14 : decode cX0_makeFlat 14 = .ok (.invokestatic 28, 3) := by decide +kernel
theorem dX0_makeFlat_17 : decode cX0_makeFlat 17 = .ok (.return_, 1) := by decide +kernel
theorem dX0_remove_0 : decode cX0_remove 0 = .ok (.aload_n 0, 1) := by decide +kernel
theorem dX0_remove_1 : decode cX0_remove 1 = .ok (.getfield 16, 3) := by decide +kernel
theorem dX0_remove_4 : decode cX0_remove 4 = .ok (.iload_n 1, 1) := by decide +kernel
theorem dX0_remove_5 : decode cX0_remove 5 = .ok (.iconst 0, 1) := by decide +kernel
theorem dX0_remove_6 : decode cX0_remove 6 = .ok (.bastore, 1) := by decide +kernel
theorem dX0_remove_7 : decode cX0_remove 7 = .ok (.return_, 1) := by decide +kernel
theorem dX0_heightAt_0 : decode cX0_heightAt 0 = .ok (.aload_n 0, 1) := by decide +kernel
theorem dX0_heightAt_1 : decode cX0_heightAt 1 = .ok (.getfield 11, 3) := by decide +kernel
theorem dX0_heightAt_4 : decode cX0_heightAt 4 = .ok (.iload_n 1, 1) := by decide +kernel
theorem dX0_heightAt_5 : decode cX0_heightAt 5 = .ok (.aaload, 1) := by decide +kernel
theorem dX0_heightAt_6 : decode cX0_heightAt 6 = .ok (.iload_n 2, 1) := by decide +kernel
theorem dX0_heightAt_7 : decode cX0_heightAt 7 = .ok (.iaload, 1) := by decide +kernel
theorem dX0_heightAt_8 : decode cX0_heightAt 8 = .ok (.ireturn, 1) := by decide +kernel
theorem dX0_setHeight_0 : decode cX0_setHeight 0 = .ok (.aload_n 0, 1) := by decide +kernel
theorem dX0_setHeight_1 : decode cX0_setHeight 1 = .ok (.getfield 11, 3) := by decide +kernel
theorem dX0_setHeight_4 : decode cX0_setHeight 4 = .ok (.iload_n 1, 1) := by decide +kernel
theorem dX0_setHeight_5 : decode cX0_setHeight 5 = .ok (.aaload, 1) := by decide +kernel
theorem dX0_setHeight_6 : decode cX0_setHeight 6 = .ok (.iload_n 2, 1) := by decide +kernel
theorem dX0_setHeight_7 : decode cX0_setHeight 7 = .ok (.iload_n 3, 1) := by decide +kernel
theorem dX0_setHeight_8 : decode cX0_setHeight 8 = .ok (.iastore, 1) := by decide +kernel
theorem dX0_setHeight_9 : decode cX0_setHeight 9 = .ok (.return_, 1) := by decide +kernel
theorem dX0_hasSpan_0 : decode cX0_hasSpan 0 = .ok (.iload_n 2, 1) := by decide +kernel
theorem dX0_hasSpan_1 : decode cX0_hasSpan 1 = .ok (.ifCond .lt 29, 3) := by decide +kernel
theorem dX0_hasSpan_4 : decode cX0_hasSpan 4 = .ok (.iload_n 2, 1) := by decide +kernel
theorem dX0_hasSpan_5 : decode cX0_hasSpan 5 = .ok (.aload_n 0, 1) := by decide +kernel
theorem dX0_hasSpan_6 : decode cX0_hasSpan 6 = .ok (.getfield 24, 3) := by decide +kernel
theorem dX0_hasSpan_9 : decode cX0_hasSpan 9 = .ok (.if_icmp .gt 21, 3) := by decide +kernel
theorem dX0_hasSpan_12 : decode cX0_hasSpan 12 = .ok (.iload_n 1, 1) := by decide +kernel
theorem dX0_hasSpan_13 : decode cX0_hasSpan 13 = .ok (.ifCond .lt 17, 3) := by decide +kernel
theorem dX0_hasSpan_16 : decode cX0_hasSpan 16 = .ok (.iload_n 1, 1) := by decide +kernel
theorem dX0_hasSpan_17 : decode cX0_hasSpan 17 = .ok (.aload_n 0, 1) := by decide +kernel
theorem dX0_hasSpan_18 : decode cX0_hasSpan 18 = .ok (.getfield 24, 3) := by decide +kernel
theorem dX0_hasSpan_21 : decode cX0_hasSpan 21 = .ok (.iload_n 2, 1) := by decide +kernel
theorem dX0_hasSpan_22 : decode cX0_hasSpan 22 = .ok (.isub, 1) := by decide +kernel
theorem dX0_hasSpan_23 : decode cX0_hasSpan 23 = .ok (.if_icmp .gt 7, 3) := by decide +kernel
theorem dX0_hasSpan_26 : decode cX0_hasSpan 26 = .ok (.iconst 1, 1) := by decide +kernel
theorem dX0_hasSpan_27 : decode cX0_hasSpan 27 = .ok (.goto 4, 3) := by decide +kernel
theorem dX0_hasSpan_30 : decode cX0_hasSpan 30 = .ok (.iconst 0, 1) := by decide +kernel
theorem dX0_hasSpan_31 : decode cX0_hasSpan 31 = .ok (.ireturn, 1) := by decide +kernel
theorem dX0_copySpan_0 : decode cX0_copySpan 0 = .ok (.aload_n 0, 1) := by decide +kernel
theorem dX0_copySpan_1 : decode cX0_copySpan 1 = .ok (.getfield 11, 3) := by decide +kernel
theorem dX0_copySpan_4 : decode cX0_copySpan 4 = .ok (.iload_n 1, 1) := by decide +kernel
theorem dX0_copySpan_5 : decode cX0_copySpan 5 = .ok (.aaload, 1) := by decide +kernel
theorem dX0_copySpan_6 : decode cX0_copySpan 6 = .ok (.iload_n 2, 1) := by decide +kernel
theorem dX0_copySpan_7 : decode cX0_copySpan 7 = .ok (.aload_n 0, 1) := by decide +kernel
theorem dX0_copySpan_8 : decode cX0_copySpan 8 = .ok (.getfield 11, 3) := by decide +kernel
theorem dX0_copySpan_11 : decode cX0_copySpan 11 = .ok (.iload_n 3, 1) := by decide +kernel
theorem dX0_copySpan_12 : decode cX0_copySpan 12 = .ok (.aaload, 1) := by decide +kernel
theorem dX0_copySpan_13 : decode cX0_copySpan 13 = .ok (.iload 4, 2) := by decide +kernel
theorem dX0_copySpan_15 : decode cX0_copySpan 15 = .ok (.iload 5, 2) := by decide +kernel
theorem dX0_copySpan_17 : decode cX0_copySpan 17 = .ok (.invokestatic 34, 3) := by decide +kernel
theorem dX0_copySpan_20 : decode cX0_copySpan 20 = .ok (.return_, 1) := by decide +kernel
set_option maxRecDepth 20000 in
theorem ggX0_rotate_X0_further : GoodIn wsX0_rotate wsX0_further := goodIn_r _ [12, 3, 13, 14, 15, 16] (by decide +kernel) (by decide +kernel)
set_option maxRecDepth 20000 in
theorem gX0_rotate_X0_further : GoodIn wsX0_rotate (wsV RX0 40 RX0 yX0_further wsX0_further) := goodIn_app (goodIn_of _ (by decide +kernel)) ggX0_rotate_X0_further
theorem dX0_rotate_0 : decode cX0_rotate 0 = .ok (.aload_n 0, 1) := by decide +kernel
theorem dX0_rotate_1 : decode cX0_rotate 1 = .ok (.getfield 11, 3) := by decide +kernel
theorem dX0_rotate_4 : decode cX0_rotate 4 = .ok (.iload_n 1, 1) := by decide +kernel
theorem dX0_rotate_5 : decode cX0_rotate 5 = .ok (.aaload, 1) := by decide +kernel
theorem dX0_rotate_6 : decode cX0_rotate 6 = .ok (.astore_n 3, 1) := by decide +kernel
theorem dX0_rotate_7 : decode cX0_rotate 7 = .ok (.aload_n 3, 1) := by decide +kernel
theorem dX0_rotate_8 : decode cX0_rotate 8 = .ok (.iconst 0, 1) := by decide +kernel
theorem dX0_rotate_9 : decode cX0_rotate 9 = .ok (.aload_n 0, 1) := by decide +kernel
theorem dX0_rotate_10 : decode cX0_rotate 10 = .ok (.getfield 20, 3) := by decide +kernel
theorem dX0_rotate_13 : decode cX0_rotate 13 = .ok (.iconst 0, 1) := by decide +kernel
theorem dX0_rotate_14 : decode cX0_rotate 14 = .ok (.aload_n 0, 1) := by decide +kernel
theorem dX0_rotate_15 : decode cX0_rotate 15 = .ok (.getfield 24, 3) := by decide +kernel
theorem dX0_rotate_18 : decode cX0_rotate 18 = .ok (.invokestatic 34, 3) := by decide +kernel
theorem dX0_rotate_21 : decode cX0_rotate 21 = .ok (.iconst 0, 1) := by decide +kernel
theorem dX0_rotate_22 : decode cX0_rotate 22 = .ok (.istore 4, 2) := by decide +kernel
theorem dX0_rotate_24 : decode cX0_rotate 24 = .ok (.iload 4, 2) := by decide +kernel
theorem dX0_rotate_26 : decode cX0_rotate 26 = .ok (.aload_n 0, 1) := by decide +kernel
theorem dX0_rotate_27 : decode cX0_rotate 27 = .ok (.getfield 24, 3) := by decide +kernel
theorem dX0_rotate_30 : decode cX0_rotate 30 = .ok (.if_icmp .ge 25, 3) := by decide +kernel
theorem dX0_rotate_33 : decode cX0_rotate 33 = .ok (.aload_n 3, 1) := by decide +kernel
theorem dX0_rotate_34 : decode cX0_rotate 34 = .ok (.aload_n 0, 1) := by decide +kernel
theorem dX0_rotate_35 : decode cX0_rotate 35 = .ok (.iload 4, 2) := by decide +kernel
theorem dX0_rotate_37 : decode cX0_rotate 37 = .ok (.iload_n 2, 1) := by decide +kernel
theorem dX0_rotate_38 : decode cX0_rotate 38 = .ok (.invokevirtual 40, 3) := by decide +kernel
theorem dX0_rotate_41 : decode cX0_rotate 41 = .ok (.aload_n 0, 1) := by decide +kernel
theorem dX0_rotate_42 : decode cX0_rotate 42 = .ok (.getfield 20, 3) := by decide +kernel
theorem dX0_rotate_45 : decode cX0_rotate 45 = .ok (.iload 4, 2) := by decide +kernel
theorem dX0_rotate_47 : decode cX0_rotate 47 = .ok (.iaload, 1) := by decide +kernel
theorem dX0_rotate_48 : decode cX0_rotate 48 = .ok (.iastore, 1) := by decide +kernel
theorem dX0_rotate_49 : decode cX0_rotate 49 = .ok (.iinc 4 1, 3) := by decide +kernel
theorem dX0_rotate_52 : decode cX0_rotate 52 = .ok (.goto (-28), 3) := by decide +kernel
theorem dX0_rotate_55 : decode cX0_rotate 55 = .ok (.return_, 1) := by decide +kernel
set_option maxRecDepth 20000 in
theorem ggX0_blanksBelow_X0_leastAlike : GoodIn wsX0_blanksBelow wsX0_leastAlike := goodIn_r _ [6, 1, 7, 8, 9, 5, 10, 11, 12, 13, 14, 15, 16, 17, 18, 19, 20, 21, 22, 23, 24] (by decide +kernel) (by decide +kernel)
set_option maxRecDepth 20000 in
theorem gX0_blanksBelow_X0_leastAlike : GoodIn wsX0_blanksBelow (wsV RX0 44 RX0 yX0_leastAlike wsX0_leastAlike) := goodIn_app (goodIn_of _ (by decide +kernel)) ggX0_blanksBelow_X0_leastAlike
theorem dX0_blanksBelow_0 : decode cX0_blanksBelow 0 = .ok (.iconst 0, 1) := by decide +kernel
theorem dX0_blanksBelow_1 : decode cX0_blanksBelow 1 = .ok (.istore_n 2, 1) := by decide +kernel
theorem dX0_blanksBelow_2 : decode cX0_blanksBelow 2 = .ok (.iconst 0, 1) := by decide +kernel
theorem dX0_blanksBelow_3 : decode cX0_blanksBelow 3 = .ok (.istore_n 3, 1) := by decide +kernel
theorem dX0_blanksBelow_4 : decode cX0_blanksBelow 4 = .ok (.iload_n 3, 1) := by decide +kernel
theorem dX0_blanksBelow_5 : decode cX0_blanksBelow 5 = .ok (.iload_n 1, 1) := by decide +kernel
theorem dX0_blanksBelow_6 : decode cX0_blanksBelow 6 = .ok (.if_icmp .ge 30, 3) := by decide +kernel
theorem dX0_blanksBelow_9 : decode cX0_blanksBelow 9 = .ok (.aload_n 0, 1) := by decide +kernel
theorem dX0_blanksBelow_10 : decode cX0_blanksBelow 10 = .ok (.getfield 16, 3) := by decide +kernel
theorem dX0_blanksBelow_13 : decode cX0_blanksBelow 13 = .ok (.iload_n 3, 1) := by decide +kernel
theorem dX0_blanksBelow_14 : decode cX0_blanksBelow 14 = .ok (.baload, 1) := by decide +kernel
theorem dX0_blanksBelow_15 : decode cX0_blanksBelow 15 = .ok (.ifCond .eq 15, 3) := by decide +kernel
theorem dX0_blanksBelow_18 : decode cX0_blanksBelow 18 = .ok (.aload_n 0, 1) := by decide +kernel
theorem dX0_blanksBelow_19 : decode cX0_blanksBelow 19 = .ok (.iload_n 3, 1) := by decide +kernel
theorem dX0_blanksBelow_20 : decode cX0_blanksBelow 20 = .ok (.invokevirtual 44, 3) := by decide +kernel
theorem dX0_blanksBelow_23 : decode cX0_blanksBelow 23 = .ok (.iload_n 3, 1) := by decide +kernel
theorem dX0_blanksBelow_24 : decode cX0_blanksBelow 24 = .ok (.if_icmp .ne 6, 3) := by decide +kernel
theorem dX0_blanksBelow_27 : decode cX0_blanksBelow 27 = .ok (.iinc 2 1, 3) := by decide +kernel
theorem dX0_blanksBelow_30 : decode cX0_blanksBelow 30 = .ok (.iinc 3 1, 3) := by decide +kernel
theorem dX0_blanksBelow_33 : decode cX0_blanksBelow 33 = .ok (.goto (-29), 3) := by decide +kernel
theorem dX0_blanksBelow_36 : decode cX0_blanksBelow 36 = .ok (.iload_n 2, 1) := by decide +kernel
theorem dX0_blanksBelow_37 : decode cX0_blanksBelow 37 = .ok (.ireturn, 1) := by decide +kernel
set_option maxRecDepth 20000 in
theorem ggX0_leastAlike_X0_stepsBetween : GoodIn wsX0_leastAlike wsX0_stepsBetween := goodIn_r _ [6, 7, 8, 9, 10, 11, 5, 12, 13, 14, 15, 16, 17, 18, 19, 20] (by decide +kernel) (by decide +kernel)
set_option maxRecDepth 20000 in
theorem gX0_leastAlike_X0_stepsBetween : GoodIn wsX0_leastAlike (wsV RX0 48 RX0 yX0_stepsBetween wsX0_stepsBetween) := goodIn_app (goodIn_of _ (by decide +kernel)) ggX0_leastAlike_X0_stepsBetween
theorem dX0_leastAlike_0 : decode cX0_leastAlike 0 = .ok (.iconst 0, 1) := by decide +kernel
theorem dX0_leastAlike_1 : decode cX0_leastAlike 1 = .ok (.istore_n 2, 1) := by decide +kernel
theorem dX0_leastAlike_2 : decode cX0_leastAlike 2 = .ok (.iload_n 2, 1) := by decide +kernel
theorem dX0_leastAlike_3 : decode cX0_leastAlike 3 = .ok (.iload_n 1, 1) := by decide +kernel
theorem dX0_leastAlike_4 : decode cX0_leastAlike 4 = .ok (.if_icmp .ge 29, 3) := by decide +kernel
theorem dX0_leastAlike_7 : decode cX0_leastAlike 7 = .ok (.aload_n 0, 1) := by decide +kernel
theorem dX0_leastAlike_8 : decode cX0_leastAlike 8 = .ok (.getfield 16, 3) := by decide +kernel
theorem dX0_leastAlike_11 : decode cX0_leastAlike 11 = .ok (.iload_n 2, 1) := by decide +kernel
theorem dX0_leastAlike_12 : decode cX0_leastAlike 12 = .ok (.baload, 1) := by decide +kernel
theorem dX0_leastAlike_13 : decode cX0_leastAlike 13 = .ok (.ifCond .eq 14, 3) := by decide +kernel
theorem dX0_leastAlike_16 : decode cX0_leastAlike 16 = .ok (.aload_n 0, 1) := by decide +kernel
theorem dX0_leastAlike_17 : decode cX0_leastAlike 17 = .ok (.iload_n 2, 1) := by decide +kernel
theorem dX0_leastAlike_18 : decode cX0_leastAlike 18 = .ok (.iload_n 1, 1) := by decide +kernel
theorem dX0_leastAlike_19 : decode cX0_leastAlike 19 = .ok (.invokevirtual 48, 3) := by decide +kernel
theorem dX0_leastAlike_22 : decode cX0_leastAlike 22 = .ok (.ifCond .lt 5, 3) := by decide +kernel
theorem dX0_leastAlike_25 : decode cX0_leastAlike 25 = .ok (.iload_n 2, 1) := by decide +kernel
theorem dX0_leastAlike_26 : decode cX0_leastAlike 26 = .ok (.ireturn, 1) := by decide +kernel
theorem dX0_leastAlike_27 : decode cX0_leastAlike 27 = .ok (.iinc 2 1, 3) := by decide +kernel
theorem dX0_leastAlike_30 : decode cX0_leastAlike 30 = .ok (.goto (-28), 3) := by decide +kernel
theorem dX0_leastAlike_33 : decode cX0_leastAlike 33 = .ok (.iload_n 1, 1) := by decide +kernel
theorem dX0_leastAlike_34 : decode cX0_leastAlike 34 = .ok (.ireturn, 1) := by decide +kernel
set_option maxRecDepth 20000 in
theorem ggX0_stepsBetween_X0_isTurnedBy : GoodIn wsX0_stepsBetween wsX0_isTurnedBy := goodIn_r _ [7, 1, 8, 9, 10, 6, 11, 12, 13, 14, 15] (by decide +kernel) (by decide +kernel)
set_option maxRecDepth 20000 in
theorem gX0_stepsBetween_X0_isTurnedBy : GoodIn wsX0_stepsBetween (wsV RX0 51 RX0 yX0_isTurnedBy wsX0_isTurnedBy) := goodIn_app (goodIn_of _ (by decide +kernel)) ggX0_stepsBetween_X0_isTurnedBy
theorem dX0_stepsBetween_0 : decode cX0_stepsBetween 0 = .ok (.iconst 0, 1) := by decide +kernel
theorem dX0_stepsBetween_1 : decode cX0_stepsBetween 1 = .ok (.istore_n 3, 1) := by decide +kernel
theorem dX0_stepsBetween_2 : decode cX0_stepsBetween 2 = .ok (.iload_n 3, 1) := by decide +kernel
theorem dX0_stepsBetween_3 : decode cX0_stepsBetween 3 = .ok (.aload_n 0, 1) := by decide +kernel
theorem dX0_stepsBetween_4 : decode cX0_stepsBetween 4 = .ok (.getfield 24, 3) := by decide +kernel
theorem dX0_stepsBetween_7 : decode cX0_stepsBetween 7 = .ok (.if_icmp .ge 31, 3) := by decide +kernel
theorem dX0_stepsBetween_10 : decode cX0_stepsBetween 10 = .ok (.aload_n 0, 1) := by decide +kernel
theorem dX0_stepsBetween_11 : decode cX0_stepsBetween 11 = .ok (.aload_n 0, 1) := by decide +kernel
theorem dX0_stepsBetween_12 : decode cX0_stepsBetween 12 = .ok (.getfield 11, 3) := by decide +kernel
theorem dX0_stepsBetween_15 : decode cX0_stepsBetween 15 = .ok (.iload_n 1, 1) := by decide +kernel
theorem dX0_stepsBetween_16 : decode cX0_stepsBetween 16 = .ok (.aaload, 1) := by decide +kernel
theorem dX0_stepsBetween_17 : decode cX0_stepsBetween 17 = .ok (.aload_n 0, 1) := by decide +kernel
theorem dX0_stepsBetween_18 : decode cX0_stepsBetween 18 = .ok (.getfield 11, 3) := by decide +kernel
theorem dX0_stepsBetween_21 : decode cX0_stepsBetween 21 = .ok (.iload_n 2, 1) := by decide +kernel
theorem dX0_stepsBetween_22 : decode cX0_stepsBetween 22 = .ok (.aaload, 1) := by decide +kernel
theorem dX0_stepsBetween_23 : decode cX0_stepsBetween 23 = .ok (.iload_n 3, 1) := by decide +kernel
theorem dX0_stepsBetween_24 : decode cX0_stepsBetween 24 = .ok (.invokevirtual 51, 3) := by decide +kernel
theorem dX0_stepsBetween_27 : decode cX0_stepsBetween 27 = .ok (.ifCond .eq 5, 3) := by decide +kernel
theorem dX0_stepsBetween_30 : decode cX0_stepsBetween 30 = .ok (.iload_n 3, 1) := by decide +kernel
theorem dX0_stepsBetween_31 : decode cX0_stepsBetween 31 = .ok (.ireturn, 1) := by decide +kernel
theorem dX0_stepsBetween_32 : decode cX0_stepsBetween 32 = .ok (.iinc 3 1, 3) := by decide +kernel
theorem dX0_stepsBetween_35 : decode cX0_stepsBetween 35 = .ok (.goto (-33), 3) := by decide +kernel
theorem dX0_stepsBetween_38 : decode cX0_stepsBetween 38 = .ok (.bipush (-9), 2) := by decide +kernel
theorem dX0_stepsBetween_40 : decode cX0_stepsBetween 40 = .ok (.ireturn, 1) := by decide +kernel
set_option maxRecDepth 20000 in
theorem ggX0_isTurnedBy_X0_further : GoodIn wsX0_isTurnedBy wsX0_further := goodIn_r _ [6, 1, 7, 8, 9, 10] (by decide +kernel) (by decide +kernel)
set_option maxRecDepth 20000 in
theorem gX0_isTurnedBy_X0_further : GoodIn wsX0_isTurnedBy (wsV RX0 40 RX0 yX0_further wsX0_further) := goodIn_app (goodIn_of _ (by decide +kernel)) ggX0_isTurnedBy_X0_further
theorem dX0_isTurnedBy_0 : decode cX0_isTurnedBy 0 = .ok (.iconst 0, 1) := by decide +kernel
theorem dX0_isTurnedBy_1 : decode cX0_isTurnedBy 1 = .ok (.istore 4, 2) := by decide +kernel
theorem dX0_isTurnedBy_3 : decode cX0_isTurnedBy 3 = .ok (.iload 4, 2) := by decide +kernel
theorem dX0_isTurnedBy_5 : decode cX0_isTurnedBy 5 = .ok (.aload_n 0, 1) := by decide +kernel
theorem dX0_isTurnedBy_6 : decode cX0_isTurnedBy 6 = .ok (.getfield 24, 3) := by decide +kernel
theorem dX0_isTurnedBy_9 : decode cX0_isTurnedBy 9 = .ok (.if_icmp .ge 27, 3) := by decide +kernel
theorem dX0_isTurnedBy_12 : decode cX0_isTurnedBy 12 = .ok (.aload_n 2, 1) := by decide +kernel
theorem dX0_isTurnedBy_13 : decode cX0_isTurnedBy 13 = .ok (.aload_n 0, 1) := by decide +kernel
theorem dX0_isTurnedBy_14 : decode cX0_isTurnedBy 14 = .ok (.iload 4, 2) := by decide +kernel
theorem dX0_isTurnedBy_16 : decode cX0_isTurnedBy 16 = .ok (.iload_n 3, 1) := by decide +kernel
theorem dX0_isTurnedBy_17 : decode cX0_isTurnedBy 17 = .ok (.invokevirtual 40, 3) := by decide +kernel
theorem dX0_isTurnedBy_20 : decode cX0_isTurnedBy 20 = .ok (.iaload, 1) := by decide +kernel
theorem dX0_isTurnedBy_21 : decode cX0_isTurnedBy 21 = .ok (.aload_n 1, 1) := by decide +kernel
theorem dX0_isTurnedBy_22 : decode cX0_isTurnedBy 22 = .ok (.iload 4, 2) := by decide +kernel
theorem dX0_isTurnedBy_24 : decode cX0_isTurnedBy 24 = .ok (.iaload, 1) := by decide +kernel
theorem dX0_isTurnedBy_25 : decode cX0_isTurnedBy 25 = .ok (.if_icmp .eq 5, 3) := by decide +kernel
theorem dX0_isTurnedBy_28 : decode cX0_isTurnedBy 28 = .ok (.iconst 0, 1) := by decide +kernel
theorem dX0_isTurnedBy_29 : decode cX0_isTurnedBy 29 = .ok (.ireturn, 1) := by decide +kernel
theorem dX0_isTurnedBy_30 : decode cX0_isTurnedBy 30 = .ok (.iinc 4 1, 3) := by decide +kernel
theorem dX0_isTurnedBy_33 : decode cX0_isTurnedBy 33 = .ok (.goto (-30), 3) := by decide +kernel
theorem dX0_isTurnedBy_36 : decode cX0_isTurnedBy 36 = .ok (.iconst 1, 1) := by decide +kernel
theorem dX0_isTurnedBy_37 : decode cX0_isTurnedBy 37 = .ok (.ireturn, 1) := by decide +kernel
set_option maxRecDepth 20000 in
theorem ggX0_greatestStep_X0_further : GoodIn wsX0_greatestStep wsX0_further := goodIn_r _ [14, 1, 15, 16, 17, 18] (by decide +kernel) (by decide +kernel)
set_option maxRecDepth 20000 in
theorem gX0_greatestStep_X0_further : GoodIn wsX0_greatestStep (wsV RX0 40 RX0 yX0_further wsX0_further) := goodIn_app (goodIn_of _ (by decide +kernel)) ggX0_greatestStep_X0_further
theorem dX0_greatestStep_0 : decode cX0_greatestStep 0 = .ok (.iconst 0, 1) := by decide +kernel
theorem dX0_greatestStep_1 : decode cX0_greatestStep 1 = .ok (.istore_n 2, 1) := by decide +kernel
theorem dX0_greatestStep_2 : decode cX0_greatestStep 2 = .ok (.iconst 0, 1) := by decide +kernel
theorem dX0_greatestStep_3 : decode cX0_greatestStep 3 = .ok (.istore_n 3, 1) := by decide +kernel
theorem dX0_greatestStep_4 : decode cX0_greatestStep 4 = .ok (.iload_n 3, 1) := by decide +kernel
theorem dX0_greatestStep_5 : decode cX0_greatestStep 5 = .ok (.aload_n 0, 1) := by decide +kernel
theorem dX0_greatestStep_6 : decode cX0_greatestStep 6 = .ok (.getfield 24, 3) := by decide +kernel
theorem dX0_greatestStep_9 : decode cX0_greatestStep 9 = .ok (.if_icmp .ge 43, 3) := by decide +kernel
theorem dX0_greatestStep_12 : decode cX0_greatestStep 12 = .ok (.aload_n 0, 1) := by decide +kernel
theorem dX0_greatestStep_13 : decode cX0_greatestStep 13 = .ok (.getfield 11, 3) := by decide +kernel
theorem dX0_greatestStep_16 : decode cX0_greatestStep 16 = .ok (.iload_n 1, 1) := by decide +kernel
theorem dX0_greatestStep_17 : decode cX0_greatestStep 17 = .ok (.aaload, 1) := by decide +kernel
theorem dX0_greatestStep_18 : decode cX0_greatestStep 18 = .ok (.aload_n 0, 1) := by decide +kernel
theorem dX0_greatestStep_19 : decode cX0_greatestStep 19 = .ok (.iload_n 3, 1) := by decide +kernel
theorem dX0_greatestStep_20 : decode cX0_greatestStep 20 = .ok (.iconst 1, 1) := by decide +kernel
theorem dX0_greatestStep_21 : decode cX0_greatestStep 21 = .ok (.invokevirtual 40, 3) := by decide +kernel
theorem dX0_greatestStep_24 : decode cX0_greatestStep 24 = .ok (.iaload, 1) := by decide +kernel
theorem dX0_greatestStep_25 : decode cX0_greatestStep 25 = .ok (.aload_n 0, 1) := by decide +kernel
theorem dX0_greatestStep_26 : decode cX0_greatestStep 26 = .ok (.getfield 11, 3) := by decide +kernel
theorem dX0_greatestStep_29 : decode cX0_greatestStep 29 = .ok (.iload_n 1, 1) := by decide +kernel
theorem dX0_greatestStep_30 : decode cX0_greatestStep 30 = .ok (.aaload, 1) := by decide +kernel
theorem dX0_greatestStep_31 : decode cX0_greatestStep 31 = .ok (.iload_n 3, 1) := by decide +kernel
theorem dX0_greatestStep_32 : decode cX0_greatestStep 32 = .ok (.iaload, 1) := by decide +kernel
theorem dX0_greatestStep_33 : decode cX0_greatestStep 33 = .ok (.isub, 1) := by decide +kernel
theorem dX0_greatestStep_34 : decode cX0_greatestStep 34 = .ok (.istore 4, 2) := by decide +kernel
theorem dX0_greatestStep_36 : decode cX0_greatestStep 36 = .ok (.iload_n 2, 1) := by decide +kernel
theorem dX0_greatestStep_37 : decode cX0_greatestStep 37 = .ok (.iload 4, 2) := by decide +kernel
theorem dX0_greatestStep_39 : decode cX0_greatestStep 39 = .ok (.invokestatic 55, 3) := by decide +kernel
theorem dX0_greatestStep_42 : decode cX0_greatestStep 42 = .ok (.invokestatic 60, 3) := by decide +kernel
theorem dX0_greatestStep_45 : decode cX0_greatestStep 45 = .ok (.istore_n 2, 1) := by decide +kernel
theorem dX0_greatestStep_46 : decode cX0_greatestStep 46 = .ok (.iinc 3 1, 3) := by decide +kernel
theorem dX0_greatestStep_49 : decode cX0_greatestStep 49 = .ok (.goto (-45), 3) := by decide +kernel
theorem dX0_greatestStep_52 : decode cX0_greatestStep 52 = .ok (.iload_n 2, 1) := by decide +kernel
theorem dX0_greatestStep_53 : decode cX0_greatestStep 53 = .ok (.ireturn, 1) := by decide +kernel
theorem dX0_further_0 : decode cX0_further 0 = .ok (.iload_n 1, 1) := by decide +kernel
theorem dX0_further_1 : decode cX0_further 1 = .ok (.iload_n 2, 1) := by decide +kernel
theorem dX0_further_2 : decode cX0_further 2 = .ok (.iadd, 1) := by decide +kernel
theorem dX0_further_3 : decode cX0_further 3 = .ok (.istore_n 3, 1) := by decide +kernel
theorem dX0_further_4 : decode cX0_further 4 = .ok (.iload_n 3, 1) := by decide +kernel
theorem dX0_further_5 : decode cX0_further 5 = .ok (.aload_n 0, 1) := by decide +kernel
theorem dX0_further_6 : decode cX0_further 6 = .ok (.getfield 24, 3) := by decide +kernel
theorem dX0_further_9 : decode cX0_further 9 = .ok (.if_icmp .ge 7, 3) := by decide +kernel
theorem dX0_further_12 : decode cX0_further 12 = .ok (.iload_n 3, 1) := by decide +kernel
theorem dX0_further_13 : decode cX0_further 13 = .ok (.goto 9, 3) := by decide +kernel
theorem dX0_further_16 : decode cX0_further 16 = .ok (.iload_n 3, 1) := by decide +kernel
theorem dX0_further_17 : decode cX0_further 17 = .ok (.aload_n 0, 1) := by decide +kernel
theorem dX0_further_18 : decode cX0_further 18 = .ok (.getfield 24, 3) := by decide +kernel
theorem dX0_further_21 : decode cX0_further 21 = .ok (.isub, 1) := by decide +kernel
theorem dX0_further_22 : decode cX0_further 22 = .ok (.ireturn, 1) := by decide +kernel
theorem dX1_init_0 : decode cX1_init 0 = .ok (.aload_n 0, 1) := by decide +kernel
theorem dX1_init_1 : decode cX1_init 1 = .ok (.invokespecial 3, 3) := by decide +kernel
theorem dX1_init_4 : decode cX1_init 4 = .ok (.aload_n 0, 1) := by decide +kernel
theorem dX1_init_5 : decode cX1_init 5 = .ok (.iconst (-1), 1) := by decide +kernel
theorem dX1_init_6 : decode cX1_init 6 = .ok (.putfield 11, 3) := by decide +kernel
theorem dX1_init_9 : decode cX1_init 9 = .ok (.aload_n 0, 1) := by decide +kernel
theorem dX1_init_10 : decode cX1_init 10 = .ok (.iconst (-1), 1) := by decide +kernel
theorem dX1_init_11 : decode cX1_init 11 = .ok (.putfield 15, 3) := by decide +kernel
theorem dX1_init_14 : decode cX1_init 14 = .ok (.aload_n 0, 1) := by decide +kernel
theorem dX1_init_15 : decode cX1_init 15 = .ok (.iconst (-1), 1) := by decide +kernel
theorem dX1_init_16 : decode cX1_init 16 = .ok (.putfield 18, 3) := by decide +kernel
theorem dX1_init_19 : decode cX1_init 19 = .ok (.return_, 1) := by decide +kernel
theorem dX1_clear_0 : decode cX1_clear 0 = .ok (.aload_n 0, 1) := by decide +kernel
theorem dX1_clear_1 : decode cX1_clear 1 = .ok (.iconst (-1), 1) := by decide +kernel
theorem dX1_clear_2 : decode cX1_clear 2 = .ok (.putfield 11, 3) := by decide +kernel
theorem dX1_clear_5 : decode cX1_clear 5 = .ok (.aload_n 0, 1) := by decide +kernel
theorem dX1_clear_6 : decode cX1_clear 6 = .ok (.iconst (-1), 1) := by decide +kernel
theorem dX1_clear_7 : decode cX1_clear 7 = .ok (.putfield 15, 3) := by decide +kernel
theorem dX1_clear_10 : decode cX1_clear 10 = .ok (.aload_n 0, 1) := by decide +kernel
theorem dX1_clear_11 : decode cX1_clear 11 = .ok (.iconst (-1), 1) := by decide +kernel
theorem dX1_clear_12 : decode cX1_clear 12 = .ok (.putfield 18, 3) := by decide +kernel
theorem dX1_clear_15 : decode cX1_clear 15 = .ok (.return_, 1) := by decide +kernel
theorem dX1_tell_0 : decode cX1_tell 0 = .ok (.iload_n 1, 1) := by decide +kernel
theorem dX1_tell_1 : decode cX1_tell 1 = .ok (.tableswitch 51 1 3 #[27, 35, 43], 27) := by decide +kernel
theorem dX1_tell_28 : decode cX1_tell 28 = .ok (.aload_n 0, 1) := by decide +kernel
theorem dX1_tell_29 : decode cX1_tell 29 = .ok (.iload_n 2, 1) := by decide +kernel
theorem dX1_tell_30 : decode cX1_tell 30 = .ok (.putfield 11, 3) := by decide +kernel
theorem dX1_tell_33 : decode cX1_tell 33 = .ok (.goto 19, 3) := by decide +kernel
theorem dX1_tell_36 : decode cX1_tell 36 = .ok (.aload_n 0, 1) := by decide +kernel
theorem dX1_tell_37 : decode cX1_tell 37 = .ok (.iload_n 2, 1) := by decide +kernel
theorem dX1_tell_38 : decode cX1_tell 38 = .ok (.putfield 15, 3) := by decide +kernel
theorem dX1_tell_41 : decode cX1_tell 41 = .ok (.goto 11, 3) := by decide +kernel
theorem dX1_tell_44 : decode cX1_tell 44 = .ok (.aload_n 0, 1) := by decide +kernel
theorem dX1_tell_45 : decode cX1_tell 45 = .ok (.iload_n 2, 1) := by decide +kernel
theorem dX1_tell_46 : decode cX1_tell 46 = .ok (.putfield 18, 3) := by decide +kernel
theorem dX1_tell_49 : decode cX1_tell 49 = .ok (.goto 3, 3) := by decide +kernel
theorem dX1_tell_52 : decode cX1_tell 52 = .ok (.return_, 1) := by decide +kernel
theorem dX1_size_0 : decode cX1_size 0 = .ok (.aload_n 0, 1) := by decide +kernel
theorem dX1_size_1 : decode cX1_size 1 = .ok (.getfield 11, 3) := by decide +kernel
theorem dX1_size_4 : decode cX1_size 4 = .ok (.iconst (-1), 1) := by decide +kernel
theorem dX1_size_5 : decode cX1_size 5 = .ok (.if_icmp .ne 7, 3) := by decide +kernel
theorem dX1_size_8 : decode cX1_size 8 = .ok (.iconst 0, 1) := by decide +kernel
theorem dX1_size_9 : decode cX1_size 9 = .ok (.goto 4, 3) := by decide +kernel
theorem dX1_size_12 : decode cX1_size 12 = .ok (.iconst 1, 1) := by decide +kernel
theorem dX1_size_13 : decode cX1_size 13 = .ok (.istore_n 1, 1) := by decide +kernel
theorem dX1_size_14 : decode cX1_size 14 = .ok (.iload_n 1, 1) := by decide +kernel
theorem dX1_size_15 : decode cX1_size 15 = .ok (.aload_n 0, 1) := by decide +kernel
theorem dX1_size_16 : decode cX1_size 16 = .ok (.getfield 15, 3) := by decide +kernel
theorem dX1_size_19 : decode cX1_size 19 = .ok (.iconst (-1), 1) := by decide +kernel
theorem dX1_size_20 : decode cX1_size 20 = .ok (.if_icmp .ne 7, 3) := by decide +kernel
theorem dX1_size_23 : decode cX1_size 23 = .ok (.iconst 0, 1) := by decide +kernel
theorem dX1_size_24 : decode cX1_size 24 = .ok (.goto 4, 3) := by decide +kernel
theorem dX1_size_27 : decode cX1_size 27 = .ok (.iconst 1, 1) := by decide +kernel
theorem dX1_size_28 : decode cX1_size 28 = .ok (.iadd, 1) := by decide +kernel
theorem dX1_size_29 : decode cX1_size 29 = .ok (.istore_n 1, 1) := by decide +kernel
theorem dX1_size_30 : decode cX1_size 30 = .ok (.iload_n 1, 1) := by decide +kernel
theorem dX1_size_31 : decode cX1_size 31 = .ok (.aload_n 0, 1) := by decide +kernel
theorem dX1_size_32 : decode cX1_size 32 = .ok (.getfield 18, 3) := by decide +kernel
theorem dX1_size_35 : decode cX1_size 35 = .ok (.iconst (-1), 1) := by decide +kernel
theorem dX1_size_36 : decode cX1_size 36 = .ok (.if_icmp .ne 7, 3) := by decide +kernel
theorem dX1_size_39 : decode cX1_size 39 = .ok (.iconst 0, 1) := by decide +kernel
theorem dX1_size_40 : decode cX1_size 40 = .ok (.goto 4, 3) := by decide +kernel
theorem dX1_size_43 : decode cX1_size 43 = .ok (.iconst 1, 1) := by decide +kernel
theorem dX1_size_44 : decode cX1_size 44 = .ok (.iadd, 1) := by decide +kernel
theorem dX1_size_45 : decode cX1_size 45 = .ok (.istore_n 1, 1) := by decide +kernel
theorem dX1_size_46 : decode cX1_size 46 = .ok (.iload_n 1, 1) := by decide +kernel
theorem dX1_size_47 : decode cX1_size 47 = .ok (.ireturn, 1) := by decide +kernel
theorem dX1_isLoose_0 : decode cX1_isLoose 0 = .ok (.iload_n 1, 1) := by decide +kernel
theorem dX1_isLoose_1 : decode cX1_isLoose 1 = .ok (.aload_n 0, 1) := by decide +kernel
theorem dX1_isLoose_2 : decode cX1_isLoose 2 = .ok (.getfield 15, 3) := by decide +kernel
theorem dX1_isLoose_5 : decode cX1_isLoose 5 = .ok (.if_icmp .ne 7, 3) := by decide +kernel
theorem dX1_isLoose_8 : decode cX1_isLoose 8 = .ok (.iconst 1, 1) := by decide +kernel
theorem dX1_isLoose_9 : decode cX1_isLoose 9 = .ok (.goto 4, 3) := by decide +kernel
theorem dX1_isLoose_12 : decode cX1_isLoose 12 = .ok (.iconst 0, 1) := by decide +kernel
theorem dX1_isLoose_13 : decode cX1_isLoose 13 = .ok (.ireturn, 1) := by decide +kernel
theorem dX1_wornHeight_0 : decode cX1_wornHeight 0 = .ok (.iload_n 1, 1) := by decide +kernel
theorem dX1_wornHeight_1 : decode cX1_wornHeight 1 = .ok (.aload_n 0, 1) := by decide +kernel
theorem dX1_wornHeight_2 : decode cX1_wornHeight 2 = .ok (.getfield 11, 3) := by decide +kernel
theorem dX1_wornHeight_5 : decode cX1_wornHeight 5 = .ok (.if_icmp .ne 13, 3) := by decide +kernel
theorem dX1_wornHeight_8 : decode cX1_wornHeight 8 = .ok (.iload_n 2, 1) := by decide +kernel
theorem dX1_wornHeight_9 : decode cX1_wornHeight 9 = .ok (.ifCond .le 9, 3) := by decide +kernel
theorem dX1_wornHeight_12 : decode cX1_wornHeight 12 = .ok (.iload_n 2, 1) := by decide +kernel
theorem dX1_wornHeight_13 : decode cX1_wornHeight 13 = .ok (.iconst 1, 1) := by decide +kernel
theorem dX1_wornHeight_14 : decode cX1_wornHeight 14 = .ok (.isub, 1) := by decide +kernel
theorem dX1_wornHeight_15 : decode cX1_wornHeight 15 = .ok (.goto 4, 3) := by decide +kernel
theorem dX1_wornHeight_18 : decode cX1_wornHeight 18 = .ok (.iload_n 2, 1) := by decide +kernel
theorem dX1_wornHeight_19 : decode cX1_wornHeight 19 = .ok (.ireturn, 1) := by decide +kernel
theorem dX1_bentX_0 : decode cX1_bentX 0 = .ok (.aload_n 0, 1) := by decide +kernel
theorem dX1_bentX_1 : decode cX1_bentX 1 = .ok (.getfield 18, 3) := by decide +kernel
theorem dX1_bentX_4 : decode cX1_bentX 4 = .ok (.ifCond .ne 9, 3) := by decide +kernel
theorem dX1_bentX_7 : decode cX1_bentX 7 = .ok (.iload_n 1, 1) := by decide +kernel
theorem dX1_bentX_8 : decode cX1_bentX 8 = .ok (.iconst 1, 1) := by decide +kernel
theorem dX1_bentX_9 : decode cX1_bentX 9 = .ok (.iadd, 1) := by decide +kernel
theorem dX1_bentX_10 : decode cX1_bentX 10 = .ok (.goto 4, 3) := by decide +kernel
theorem dX1_bentX_13 : decode cX1_bentX 13 = .ok (.iload_n 1, 1) := by decide +kernel
theorem dX1_bentX_14 : decode cX1_bentX 14 = .ok (.ireturn, 1) := by decide +kernel
theorem dX1_bentY_0 : decode cX1_bentY 0 = .ok (.aload_n 0, 1) := by decide +kernel
theorem dX1_bentY_1 : decode cX1_bentY 1 = .ok (.getfield 18, 3) := by decide +kernel
theorem dX1_bentY_4 : decode cX1_bentY 4 = .ok (.iconst 1, 1) := by decide +kernel
theorem dX1_bentY_5 : decode cX1_bentY 5 = .ok (.if_icmp .ne 14, 3) := by decide +kernel
theorem dX1_bentY_8 : decode cX1_bentY 8 = .ok (.bipush 9, 2) := by decide +kernel
theorem dX1_bentY_10 : decode cX1_bentY 10 = .ok (.iload_n 1, 1) := by decide +kernel
theorem dX1_bentY_11 : decode cX1_bentY 11 = .ok (.iconst 1, 1) := by decide +kernel
theorem dX1_bentY_12 : decode cX1_bentY 12 = .ok (.iadd, 1) := by decide +kernel
theorem dX1_bentY_13 : decode cX1_bentY 13 = .ok (.invokestatic 21, 3) := by decide +kernel
theorem dX1_bentY_16 : decode cX1_bentY 16 = .ok (.goto 4, 3) := by decide +kernel
theorem dX1_bentY_19 : decode cX1_bentY 19 = .ok (.iload_n 1, 1) := by decide +kernel
theorem dX1_bentY_20 : decode cX1_bentY 20 = .ok (.ireturn, 1) := by decide +kernel
set_option maxRecDepth 20000 in
theorem ggX2_init_X1_init : GoodIn wsX2_init wsX1_init := goodIn_r _ [18, 19, 2, 3, 20, 21, 22, 31, 32, 33] (by decide +kernel) (by decide +kernel)
set_option maxRecDepth 20000 in
theorem gX2_init_X1_init_n11 : GoodIn wsX2_init (wsX1_init) := ggX2_init_X1_init
set_option maxRecDepth 20000 in
theorem ggX2_init_X6_init : GoodIn wsX2_init wsX6_init := goodIn_r _ [25, 26, 2, 3, 27, 28, 29, 30, 41, 42] (by decide +kernel) (by decide +kernel)
set_option maxRecDepth 20000 in
theorem gX2_init_X6_init : GoodIn wsX2_init (wsX6_init) := ggX2_init_X6_init
theorem dX2_init_0 : decode cX2_init 0 = .ok (.aload_n 0, 1) := by decide +kernel
theorem dX2_init_1 : decode cX2_init 1 = .ok (.invokespecial 3, 3) := by decide +kernel
theorem dX2_init_4 : decode cX2_init 4 = .ok (.aload_n 0, 1) := by decide +kernel
theorem dX2_init_5 : decode cX2_init 5 = .ok (.new 9, 3) := by decide +kernel
theorem dX2_init_8 : decode cX2_init 8 = .ok (.dup, 1) := by decide +kernel
theorem dX2_init_9 : decode cX2_init 9 = .ok (.invokespecial 11, 3) := by decide +kernel
theorem dX2_init_12 : decode cX2_init 12 = .ok (.putfield 12, 3) := by decide +kernel
theorem dX2_init_15 : decode cX2_init 15 = .ok (.aload_n 0, 1) := by decide +kernel
theorem dX2_init_16 : decode cX2_init 16 = .ok (.new 18, 3) := by decide +kernel
theorem dX2_init_19 : decode cX2_init 19 = .ok (.dup, 1) := by decide +kernel
theorem dX2_init_20 : decode cX2_init 20 = .ok (.iconst 0, 1) := by decide +kernel
theorem dX2_init_21 : decode cX2_init 21 = .ok (.invokespecial 20, 3) := by decide +kernel
theorem dX2_init_24 : decode cX2_init 24 = .ok (.putfield 23, 3) := by decide +kernel
theorem dX2_init_27 : decode cX2_init 27 = .ok (.aload_n 0, 1) := by decide +kernel
theorem dX2_init_28 : decode cX2_init 28 = .ok (.bipush (-9), 2) := by decide +kernel
theorem dX2_init_30 : decode cX2_init 30 = .ok (.putfield 27, 3) := by decide +kernel
theorem dX2_init_33 : decode cX2_init 33 = .ok (.aload_n 0, 1) := by decide +kernel
theorem dX2_init_34 : decode cX2_init 34 = .ok (.bipush (-9), 2) := by decide +kernel
theorem dX2_init_36 : decode cX2_init 36 = .ok (.putfield 31, 3) := by decide +kernel
theorem dX2_init_39 : decode cX2_init 39 = .ok (.aload_n 0, 1) := by decide +kernel
theorem dX2_init_40 : decode cX2_init 40 = .ok (.aload_n 1, 1) := by decide +kernel
theorem dX2_init_41 : decode cX2_init 41 = .ok (.putfield 34, 3) := by decide +kernel
theorem dX2_init_44 : decode cX2_init 44 = .ok (.aload_n 0, 1) := by decide +kernel
theorem dX2_init_45 : decode cX2_init 45 = .ok (.aload_n 2, 1) := by decide +kernel
theorem dX2_init_46 : decode cX2_init 46 = .ok (.putfield 38, 3) := by decide +kernel
theorem dX2_init_49 : decode cX2_init 49 = .ok (.aload_n 0, 1) := by decide +kernel
theorem dX2_init_50 : decode cX2_init 50 = .ok (.aload_n 3, 1) := by decide +kernel
theorem dX2_init_51 : decode cX2_init 51 = .ok (.putfield 42, 3) := by decide +kernel
theorem dX2_init_54 : decode cX2_init 54 = .ok (.return_, 1) := by decide +kernel
theorem dX2_kind_0 : decode cX2_kind 0 = .ok (.aload_n 0, 1) := by decide +kernel
theorem dX2_kind_1 : decode cX2_kind 1 = .ok (.getfield 27, 3) := by decide +kernel
theorem dX2_kind_4 : decode cX2_kind 4 = .ok (.ireturn, 1) := by decide +kernel
theorem dX2_which_0 : decode cX2_which 0 = .ok (.aload_n 0, 1) := by decide +kernel
theorem dX2_which_1 : decode cX2_which 1 = .ok (.getfield 31, 3) := by decide +kernel
theorem dX2_which_4 : decode cX2_which 4 = .ok (.ireturn, 1) := by decide +kernel
set_option maxRecDepth 20000 in
theorem ggX2_search_X2_fits : GoodIn wsX2_search wsX2_fits := goodIn_r _ [8, 9, 10, 3, 11, 12, 13, 14, 15, 16, 17, 18, 19, 20, 21, 22, 23, 24, 25, 26, 27, 28, 29, 30, 31, 32, 33, 34, 35, 36, 37, 38, 39, 40, 41, 42, 43, 44, 45, 46, 47, 48, 49, 50, 51, 52, 53, 54, 55, 56, 57, 58, 59, 60, 61, 62, 63, 64, 65, 66, 67, 68, 69, 70, 71, 72, 73, 74, 75, 76, 77, 78, 79, 80, 81, 82, 83, 84, 85, 86, 87, 88, 89, 90, 91, 92, 93, 94, 95, 96, 97, 98, 99, 100, 101, 102, 103, 104, 105, 106, 107, 108, 109, 110, 111, 112, 113, 114, 115, 116, 117, 118, 119, 120, 121, 122, 123, 124, 125, 126, 127, 128, 129, 130, 131, 132, 133, 134, 135, 136, 137, 138, 139, 140, 141, 142, 143, 144, 145, 146, 147, 148, 153, 154, 155, 156, 157, 158, 159, 160, 161, 162, 163, 164, 165, 166, 167, 168, 169, 170, 171, 172, 173, 174, 175, 176] (by decide +kernel) (by decide +kernel)
set_option maxRecDepth 20000 in
theorem gX2_search_X2_fits : GoodIn wsX2_search (wsV RX2 46 RX2 yX2_fits wsX2_fits) := goodIn_app (goodIn_of _ (by decide +kernel)) ggX2_search_X2_fits
set_option maxRecDepth 20000 in
theorem ggX2_search_X5_partsOfKind : GoodIn wsX2_search wsX5_partsOfKind := goodIn_r _ [152, 40, 165, 166, 167, 168, 169, 170] (by decide +kernel) (by decide +kernel)
set_option maxRecDepth 20000 in
theorem gX2_search_X5_partsOfKind : GoodIn wsX2_search (wsV RX2 50 RX5 yX5_partsOfKind wsX5_partsOfKind) := goodIn_app (goodIn_of _ (by decide +kernel)) ggX2_search_X5_partsOfKind
theorem dX2_search_0 : decode cX2_search 0 = .ok (.aload_n 0, 1) := by decide +kernel
theorem dX2_search_1 : decode cX2_search 1 = .ok (.iconst 0, 1) := by decide +kernel
theorem dX2_search_2 : decode cX2_search 2 = .ok (.putfield 27, 3) := by decide +kernel
theorem dX2_search_5 : decode cX2_search 5 = .ok (.aload_n 0, 1) := by decide +kernel
theorem dX2_search_6 : decode cX2_search 6 = .ok (.bipush (-9), 2) := by decide +kernel
theorem dX2_search_8 : decode cX2_search 8 = .ok (.putfield 31, 3) := by decide +kernel
theorem dX2_search_11 : decode cX2_search 11 = .ok (.aload_n 0, 1) := by decide +kernel
theorem dX2_search_12 : decode cX2_search 12 = .ok (.aload_n 1, 1) := by decide +kernel
theorem dX2_search_13 : decode cX2_search 13 = .ok (.iconst 0, 1) := by decide +kernel
theorem dX2_search_14 : decode cX2_search 14 = .ok (.iconst 0, 1) := by decide +kernel
theorem dX2_search_15 : decode cX2_search 15 = .ok (.invokevirtual 46, 3) := by decide +kernel
theorem dX2_search_18 : decode cX2_search 18 = .ok (.ifCond .eq 4, 3) := by decide +kernel
theorem dX2_search_21 : decode cX2_search 21 = .ok (.return_, 1) := by decide +kernel
theorem dX2_search_22 : decode cX2_search 22 = .ok (.iconst 1, 1) := by decide +kernel
theorem dX2_search_23 : decode cX2_search 23 = .ok (.istore_n 2, 1) := by decide +kernel
theorem dX2_search_24 : decode cX2_search 24 = .ok (.iload_n 2, 1) := by decide +kernel
theorem dX2_search_25 : decode cX2_search 25 = .ok (.iconst 3, 1) := by decide +kernel
theorem dX2_search_26 : decode cX2_search 26 = .ok (.if_icmp .gt 56, 3) := by decide +kernel
theorem dX2_search_29 : decode cX2_search 29 = .ok (.aload_n 0, 1) := by decide +kernel
theorem dX2_search_30 : decode cX2_search 30 = .ok (.getfield 42, 3) := by decide +kernel
theorem dX2_search_33 : decode cX2_search 33 = .ok (.iload_n 2, 1) := by decide +kernel
theorem dX2_search_34 : decode cX2_search 34 = .ok (.invokevirtual 50, 3) := by decide +kernel
theorem dX2_search_37 : decode cX2_search 37 = .ok (.istore_n 3, 1) := by decide +kernel
theorem dX2_search_38 : decode cX2_search 38 = .ok (.iconst 0, 1) := by decide +kernel
theorem dX2_search_39 : decode cX2_search 39 = .ok (.istore 4, 2) := by decide +kernel
theorem dX2_search_41 : decode cX2_search 41 = .ok (.iload 4, 2) := by decide +kernel
theorem dX2_search_43 : decode cX2_search 43 = .ok (.iload_n 3, 1) := by decide +kernel
theorem dX2_search_44 : decode cX2_search 44 = .ok (.if_icmp .ge 32, 3) := by decide +kernel
theorem dX2_search_47 : decode cX2_search 47 = .ok (.aload_n 0, 1) := by decide +kernel
theorem dX2_search_48 : decode cX2_search 48 = .ok (.aload_n 1, 1) := by decide +kernel
theorem dX2_search_49 : decode cX2_search 49 = .ok (.iload_n 2, 1) := by decide +kernel
theorem dX2_search_50 : decode cX2_search 50 = .ok (.iload 4, 2) := by decide +kernel
theorem dX2_search_52 : decode cX2_search 52 = .ok (.invokevirtual 46, 3) := by decide +kernel
theorem dX2_search_55 : decode cX2_search 55 = .ok (.ifCond .eq 15, 3) := by decide +kernel
theorem dX2_search_58 : decode cX2_search 58 = .ok (.aload_n 0, 1) := by decide +kernel
theorem dX2_search_59 : decode cX2_search 59 = .ok (.iload_n 2, 1) := by decide +kernel
theorem dX2_search_60 : decode cX2_search 60 = .ok (.putfield 27, 3) := by decide +kernel
theorem dX2_search_63 : decode cX2_search 63 = .ok (.aload_n 0, 1) := by decide +kernel
theorem dX2_search_64 : decode cX2_search 64 = .ok (.iload 4, 2) := by decide +kernel
theorem dX2_search_66 : decode cX2_search 66 = .ok (.putfield 31, 3) := by decide +kernel
theorem dX2_search_69 : decode cX2_search 69 = .ok (.return_, 1) := by decide +kernel
theorem dX2_search_70 : decode cX2_search 70 = .ok (.iinc 4 1, 3) := by decide +kernel
theorem dX2_search_73 : decode cX2_search 73 = .ok (.goto (-32), 3) := by decide +kernel
theorem dX2_search_76 : decode cX2_search 76 = .ok (.iinc 2 1, 3) := by decide +kernel
theorem dX2_search_79 : decode cX2_search 79 = .ok (.goto (-55), 3) := by decide +kernel
theorem dX2_search_82 : decode cX2_search 82 = .ok (.aload_n 0, 1) := by decide +kernel
theorem dX2_search_83 : decode cX2_search 83 = .ok (.bipush (-9), 2) := by decide +kernel
theorem dX2_search_85 : decode cX2_search 85 = .ok (.putfield 27, 3) := by decide +kernel
theorem dX2_search_88 : decode cX2_search 88 = .ok (.return_, 1) := by decide +kernel
set_option maxRecDepth 20000 in
theorem ggX2_fits_X1_clear : GoodIn wsX2_fits wsX1_clear := goodIn_r _ [10, 11, 12, 13, 149, 150, 151] (by decide +kernel) (by decide +kernel)
set_option maxRecDepth 20000 in
theorem gX2_fits_X1_clear : GoodIn wsX2_fits (wsV RX2 56 RX1 yX1_clear wsX1_clear) := goodIn_app (goodIn_of _ (by decide +kernel)) ggX2_fits_X1_clear
set_option maxRecDepth 20000 in
theorem ggX2_fits_X1_tell : GoodIn wsX2_fits wsX1_tell := goodIn_r _ [17, 11, 12, 13, 149, 150, 151] (by decide +kernel) (by decide +kernel)
set_option maxRecDepth 20000 in
theorem gX2_fits_X1_tell : GoodIn wsX2_fits (wsV RX2 59 RX1 yX1_tell wsX1_tell) := goodIn_app (goodIn_of _ (by decide +kernel)) ggX2_fits_X1_tell
set_option maxRecDepth 20000 in
theorem ggX2_fits_X6_clear : GoodIn wsX2_fits wsX6_clear := goodIn_r _ [22, 23, 24, 25, 26, 27, 152, 153] (by decide +kernel) (by decide +kernel)
set_option maxRecDepth 20000 in
theorem gX2_fits_X6_clear : GoodIn wsX2_fits (wsV RX2 63 RX6 yX6_clear wsX6_clear) := goodIn_app (goodIn_of _ (by decide +kernel)) ggX2_fits_X6_clear
set_option maxRecDepth 20000 in
theorem ggX2_fits_X5_pegs : GoodIn wsX2_fits wsX5_pegs := goodIn_r _ [32, 33, 154, 155, 156, 157, 158, 159] (by decide +kernel) (by decide +kernel)
set_option maxRecDepth 20000 in
theorem gX2_fits_X5_pegs : GoodIn wsX2_fits (wsV RX2 64 RX5 yX5_pegs wsX5_pegs) := goodIn_app (goodIn_of _ (by decide +kernel)) ggX2_fits_X5_pegs
set_option maxRecDepth 20000 in
theorem ggX2_fits_X1_isLoose : GoodIn wsX2_fits wsX1_isLoose := goodIn_r _ [37, 12, 149, 150, 151] (by decide +kernel) (by decide +kernel)
set_option maxRecDepth 20000 in
theorem gX2_fits_X1_isLoose : GoodIn wsX2_fits (wsV RX2 68 RX1 yX1_isLoose wsX1_isLoose) := goodIn_app (goodIn_of _ (by decide +kernel)) ggX2_fits_X1_isLoose
set_option maxRecDepth 20000 in
theorem ggX2_fits_X0_steps : GoodIn wsX2_fits wsX0_steps := goodIn_r _ [42, 43, 160, 161, 162, 163] (by decide +kernel) (by decide +kernel)
set_option maxRecDepth 20000 in
theorem gX2_fits_X0_steps : GoodIn wsX2_fits (wsV RX2 72 RX0 yX0_steps wsX0_steps) := goodIn_app (goodIn_of _ (by decide +kernel)) ggX2_fits_X0_steps
set_option maxRecDepth 20000 in
theorem ggX2_fits_X3_writeStep : GoodIn wsX2_fits wsX3_writeStep := goodIn_r _ [48, 49, 50, 51, 47, 52, 53, 54, 55, 56, 31, 57, 58, 59, 60, 61, 62, 63, 64, 65, 66, 67, 41, 68, 69, 70, 71, 72, 9, 73, 11, 74, 75, 76, 77, 78, 79, 80, 81, 82, 83, 84, 85, 86, 87, 88, 89, 90, 91, 13, 92, 93, 94, 95, 96, 97, 98, 99, 100, 101, 102, 103, 104, 105, 106, 107, 108, 109, 110, 111, 21, 112, 23, 113, 114, 115, 116, 117, 118, 119, 120, 121, 122, 123, 124, 125, 126, 127, 128, 129, 130, 131, 132, 133, 134, 135, 136, 164, 165, 154, 155, 156, 157, 158, 159, 160, 161, 162, 163, 149, 150, 151, 152, 153] (by decide +kernel) (by decide +kernel)
set_option maxRecDepth 20000 in
theorem gX2_fits_X3_writeStep : GoodIn wsX2_fits (wsV RX2 77 RX3 yX3_writeStep wsX3_writeStep) := goodIn_app (goodIn_of _ (by decide +kernel)) ggX2_fits_X3_writeStep
set_option maxRecDepth 20000 in
theorem ggX2_fits_X6_isWithin : GoodIn wsX2_fits wsX6_isWithin := goodIn_r _ [140, 23, 141, 152, 153] (by decide +kernel) (by decide +kernel)
set_option maxRecDepth 20000 in
theorem gX2_fits_X6_isWithin : GoodIn wsX2_fits (wsV RX2 83 RX6 yX6_isWithin wsX6_isWithin) := goodIn_app (goodIn_of _ (by decide +kernel)) ggX2_fits_X6_isWithin
theorem dX2_fits_0 : decode cX2_fits 0 = .ok (.aload_n 0, 1) := by decide +kernel
theorem dX2_fits_1 : decode cX2_fits 1 = .ok (.getfield 12, 3) := by decide +kernel
theorem dX2_fits_4 : decode cX2_fits 4 = .ok (.invokevirtual 56, 3) := by decide +kernel
theorem dX2_fits_7 : decode cX2_fits 7 = .ok (.aload_n 0, 1) := by decide +kernel
theorem dX2_fits_8 : decode cX2_fits 8 = .ok (.getfield 12, 3) := by decide +kernel
theorem dX2_fits_11 : decode cX2_fits 11 = .ok (.iload_n 2, 1) := by decide +kernel
theorem dX2_fits_12 : decode cX2_fits 12 = .ok (.iload_n 3, 1) := by decide +kernel
theorem dX2_fits_13 : decode cX2_fits 13 = .ok (.invokevirtual 59, 3) := by decide +kernel
theorem dX2_fits_16 : decode cX2_fits 16 = .ok (.aload_n 0, 1) := by decide +kernel
theorem dX2_fits_17 : decode cX2_fits 17 = .ok (.getfield 23, 3) := by decide +kernel
theorem dX2_fits_20 : decode cX2_fits 20 = .ok (.invokevirtual 63, 3) := by decide +kernel
theorem dX2_fits_23 : decode cX2_fits 23 = .ok (.iconst 0, 1) := by decide +kernel
theorem dX2_fits_24 : decode cX2_fits 24 = .ok (.istore 4, 2) := by decide +kernel
theorem dX2_fits_26 : decode cX2_fits 26 = .ok (.iload 4, 2) := by decide +kernel
theorem dX2_fits_28 : decode cX2_fits 28 = .ok (.aload_n 0, 1) := by decide +kernel
theorem dX2_fits_29 : decode cX2_fits 29 = .ok (.getfield 42, 3) := by decide +kernel
theorem dX2_fits_32 : decode cX2_fits 32 = .ok (.invokevirtual 64, 3) := by decide +kernel
theorem dX2_fits_35 : decode cX2_fits 35 = .ok (.if_icmp .ge 77, 3) := by decide +kernel
theorem dX2_fits_38 : decode cX2_fits 38 = .ok (.aload_n 0, 1) := by decide +kernel
theorem dX2_fits_39 : decode cX2_fits 39 = .ok (.getfield 12, 3) := by decide +kernel
theorem dX2_fits_42 : decode cX2_fits 42 = .ok (.iload 4, 2) := by decide +kernel
theorem dX2_fits_44 : decode cX2_fits 44 = .ok (.invokevirtual 68, 3) := by decide +kernel
theorem dX2_fits_47 : decode cX2_fits 47 = .ok (.ifCond .eq 6, 3) := by decide +kernel
theorem dX2_fits_50 : decode cX2_fits 50 = .ok (.goto 56, 3) := by decide +kernel
theorem dX2_fits_53 : decode cX2_fits 53 = .ok (.iconst 0, 1) := by decide +kernel
theorem dX2_fits_54 : decode cX2_fits 54 = .ok (.istore 5, 2) := by decide +kernel
theorem dX2_fits_56 : decode cX2_fits 56 = .ok (.iload 5, 2) := by decide +kernel
theorem dX2_fits_58 : decode cX2_fits 58 = .ok (.aload_n 0, 1) := by decide +kernel
theorem dX2_fits_59 : decode cX2_fits 59 = .ok (.getfield 38, 3) := by decide +kernel
theorem dX2_fits_62 : decode cX2_fits 62 = .ok (.invokevirtual 72, 3) := by decide +kernel
theorem dX2_fits_65 : decode cX2_fits 65 = .ok (.if_icmp .ge 28, 3) := by decide +kernel
theorem dX2_fits_68 : decode cX2_fits 68 = .ok (.aload_n 0, 1) := by decide +kernel
theorem dX2_fits_69 : decode cX2_fits 69 = .ok (.getfield 34, 3) := by decide +kernel
theorem dX2_fits_72 : decode cX2_fits 72 = .ok (.aload_n 0, 1) := by decide +kernel
theorem dX2_fits_73 : decode cX2_fits 73 = .ok (.getfield 12, 3) := by decide +kernel
theorem dX2_fits_76 : decode cX2_fits 76 = .ok (.aload_n 0, 1) := by decide +kernel
theorem dX2_fits_77 : decode cX2_fits 77 = .ok (.getfield 23, 3) := by decide +kernel
theorem dX2_fits_80 : decode cX2_fits 80 = .ok (.iload 4, 2) := by decide +kernel
theorem dX2_fits_82 : decode cX2_fits 82 = .ok (.iload 5, 2) := by decide +kernel
theorem dX2_fits_84 : decode cX2_fits 84 = .ok (.invokevirtual 77, 3) := by decide +kernel
theorem dX2_fits_87 : decode cX2_fits 87 = .ok (.iinc 5 1, 3) := by decide +kernel
theorem dX2_fits_90 : decode cX2_fits 90 = .ok (.goto (-34), 3) := by decide +kernel
theorem dX2_fits_93 : decode cX2_fits 93 = .ok (.aload_n 0, 1) := by decide +kernel
theorem dX2_fits_94 : decode cX2_fits 94 = .ok (.getfield 23, 3) := by decide +kernel
theorem dX2_fits_97 : decode cX2_fits 97 = .ok (.aload_n 1, 1) := by decide +kernel
theorem dX2_fits_98 : decode cX2_fits 98 = .ok (.invokevirtual 83, 3) := by decide +kernel
theorem dX2_fits_101 : decode cX2_fits 101 = .ok (.ifCond .ne 5, 3) := by decide +kernel
theorem dX2_fits_104 : decode cX2_fits 104 = .ok (.iconst 0, 1) := by decide +kernel
theorem dX2_fits_105 : decode cX2_fits 105 = .ok (.ireturn, 1) := by decide +kernel
theorem dX2_fits_106 : decode cX2_fits 106 = .ok (.iinc 4 1, 3) := by decide +kernel
theorem dX2_fits_109 : decode cX2_fits 109 = .ok (.goto (-83), 3) := by decide +kernel
theorem dX2_fits_112 : decode cX2_fits 112 = .ok (.aload_n 1, 1) := by decide +kernel
theorem dX2_fits_113 : decode cX2_fits 113 = .ok (.aload_n 0, 1) := by decide +kernel
theorem dX2_fits_114 : decode cX2_fits 114 = .ok (.getfield 23, 3) := by decide +kernel
theorem dX2_fits_117 : decode cX2_fits 117 = .ok (.invokevirtual 83, 3) := by decide +kernel
theorem dX2_fits_120 : decode cX2_fits 120 = .ok (.ireturn, 1) := by decide +kernel
theorem dX3_init_0 : decode cX3_init 0 = .ok (.aload_n 0, 1) := by decide +kernel
theorem dX3_init_1 : decode cX3_init 1 = .ok (.invokespecial 1, 3) := by decide +kernel
theorem dX3_init_4 : decode cX3_init 4 = .ok (.aload_n 0, 1) := by decide +kernel
theorem dX3_init_5 : decode cX3_init 5 = .ok (.aload_n 1, 1) := by decide +kernel
theorem dX3_init_6 : decode cX3_init 6 = .ok (.putfield 7, 3) := by decide +kernel
theorem dX3_init_9 : decode cX3_init 9 = .ok (.aload_n 0, 1) := by decide +kernel
theorem dX3_init_10 : decode cX3_init 10 = .ok (.aload_n 2, 1) := by decide +kernel
theorem dX3_init_11 : decode cX3_init 11 = .ok (.putfield 13, 3) := by decide +kernel
theorem dX3_init_14 : decode cX3_init 14 = .ok (.return_, 1) := by decide +kernel
set_option maxRecDepth 20000 in
theorem ggX3_writeStep_X3_isDown : GoodIn wsX3_writeStep wsX3_isDown := goodIn_r _ [5, 6, 7, 8, 9, 10, 11, 12, 13, 14, 15, 16, 4, 17, 18, 19, 20, 21, 22, 23, 24, 25, 26, 27, 28, 29, 30, 97, 98, 99, 100, 101, 102, 103, 104, 105, 106, 107, 108, 109, 110, 111] (by decide +kernel) (by decide +kernel)
set_option maxRecDepth 20000 in
theorem gX3_writeStep_X3_isDown : GoodIn wsX3_writeStep (wsV RX3 17 RX3 yX3_isDown wsX3_isDown) := goodIn_app (goodIn_of _ (by decide +kernel)) ggX3_writeStep_X3_isDown
set_option maxRecDepth 20000 in
theorem ggX3_writeStep_X3_xAt : GoodIn wsX3_writeStep wsX3_xAt := goodIn_r _ [34, 6, 35, 36, 37, 10, 38, 39, 13, 14, 15, 16, 4, 17, 18, 19, 20, 21, 22, 23, 24, 25, 26, 27, 28, 29, 30, 40, 41, 42, 43, 44, 45, 46, 47, 48, 49, 97, 98, 99, 100, 101, 102, 103, 104, 105, 106, 107, 108, 109, 110, 111] (by decide +kernel) (by decide +kernel)
set_option maxRecDepth 20000 in
theorem gX3_writeStep_X3_xAt : GoodIn wsX3_writeStep (wsV RX3 21 RX3 yX3_xAt wsX3_xAt) := goodIn_app (goodIn_of _ (by decide +kernel)) ggX3_writeStep_X3_xAt
set_option maxRecDepth 20000 in
theorem ggX3_writeStep_X3_yAt : GoodIn wsX3_writeStep wsX3_yAt := goodIn_r _ [53, 6, 54, 55, 56, 10, 57, 58, 13, 14, 15, 16, 4, 17, 18, 19, 20, 21, 22, 23, 24, 25, 26, 27, 28, 29, 30, 59, 60, 61, 62, 49, 63, 64, 65, 66, 97, 98, 99, 100, 101, 102, 103, 104, 105, 106, 107, 108, 109, 110, 111] (by decide +kernel) (by decide +kernel)
set_option maxRecDepth 20000 in
theorem gX3_writeStep_X3_yAt : GoodIn wsX3_writeStep (wsV RX3 25 RX3 yX3_yAt wsX3_yAt) := goodIn_app (goodIn_of _ (by decide +kernel)) ggX3_writeStep_X3_yAt
set_option maxRecDepth 20000 in
theorem ggX3_writeStep_X6_put : GoodIn wsX3_writeStep wsX6_put := goodIn_r _ [71, 72, 73, 74, 75, 70, 76, 77, 78, 79, 80, 112, 113] (by decide +kernel) (by decide +kernel)
set_option maxRecDepth 20000 in
theorem gX3_writeStep_X6_put : GoodIn wsX3_writeStep (wsV RX3 28 RX6 yX6_put wsX6_put) := goodIn_app (goodIn_of _ (by decide +kernel)) ggX3_writeStep_X6_put
set_option maxRecDepth 20000 in
theorem ggX3_writeStep_X3_drawLine : GoodIn wsX3_writeStep wsX3_drawLine := goodIn_r _ [83, 84, 85, 65, 86, 87, 88, 89, 90, 91, 4, 92, 93, 94, 95, 96, 67, 68, 69, 70, 71, 72, 73, 74, 75, 76, 77, 78, 79, 80, 112, 113] (by decide +kernel) (by decide +kernel)
set_option maxRecDepth 20000 in
theorem gX3_writeStep_X3_drawLine : GoodIn wsX3_writeStep (va_wsS RX3 34 yX3_drawLine wsX3_drawLine) := goodIn_app (goodIn_of _ (by decide +kernel)) ggX3_writeStep_X3_drawLine
theorem dX3_writeStep_0 : decode cX3_writeStep 0 = .ok (.aload_n 0, 1) := by decide +kernel
theorem dX3_writeStep_1 : decode cX3_writeStep 1 = .ok (.aload_n 1, 1) := by decide +kernel
theorem dX3_writeStep_2 : decode cX3_writeStep 2 = .ok (.iload_n 3, 1) := by decide +kernel
theorem dX3_writeStep_3 : decode cX3_writeStep 3 = .ok (.iload 4, 2) := by decide +kernel
theorem dX3_writeStep_5 : decode cX3_writeStep 5 = .ok (.invokevirtual 17, 3) := by decide +kernel
theorem dX3_writeStep_8 : decode cX3_writeStep 8 = .ok (.ifCond .ne 4, 3) := by decide +kernel
theorem dX3_writeStep_11 : decode cX3_writeStep 11 = .ok (.return_, 1) := by decide +kernel
theorem dX3_writeStep_12 : decode cX3_writeStep 12 = .ok (.aload_n 0, 1) := by decide +kernel
theorem dX3_writeStep_13 : decode cX3_writeStep 13 = .ok (.aload_n 1, 1) := by decide +kernel
theorem dX3_writeStep_14 : decode cX3_writeStep 14 = .ok (.iload_n 3, 1) := by decide +kernel
theorem dX3_writeStep_15 : decode cX3_writeStep 15 = .ok (.iload 4, 2) := by decide +kernel
theorem dX3_writeStep_17 : decode cX3_writeStep 17 = .ok (.invokevirtual 21, 3) := by decide +kernel
theorem dX3_writeStep_20 : decode cX3_writeStep 20 = .ok (.istore 5, 2) := by decide +kernel
theorem dX3_writeStep_22 : decode cX3_writeStep 22 = .ok (.aload_n 0, 1) := by decide +kernel
theorem dX3_writeStep_23 : decode cX3_writeStep 23 = .ok (.aload_n 1, 1) := by decide +kernel
theorem dX3_writeStep_24 : decode cX3_writeStep 24 = .ok (.iload_n 3, 1) := by decide +kernel
theorem dX3_writeStep_25 : decode cX3_writeStep 25 = .ok (.iload 4, 2) := by decide +kernel
theorem dX3_writeStep_27 : decode cX3_writeStep 27 = .ok (.invokevirtual 25, 3) := by decide +kernel
theorem dX3_writeStep_30 : decode cX3_writeStep 30 = .ok (.istore 6, 2) := by decide +kernel
theorem dX3_writeStep_32 : decode cX3_writeStep 32 = .ok (.aload_n 2, 1) := by decide +kernel
theorem dX3_writeStep_33 : decode cX3_writeStep 33 = .ok (.iload 5, 2) := by decide +kernel
theorem dX3_writeStep_35 : decode cX3_writeStep 35 = .ok (.iload 6, 2) := by decide +kernel
theorem dX3_writeStep_37 : decode cX3_writeStep 37 = .ok (.iload_n 3, 1) := by decide +kernel
theorem dX3_writeStep_38 : decode cX3_writeStep 38 = .ok (.iload 4, 2) := by decide +kernel
theorem dX3_writeStep_40 : decode cX3_writeStep 40 = .ok (.invokevirtual 28, 3) := by decide +kernel
theorem dX3_writeStep_43 : decode cX3_writeStep 43 = .ok (.iload 4, 2) := by decide +kernel
theorem dX3_writeStep_45 : decode cX3_writeStep 45 = .ok (.ifCond .le 61, 3) := by decide +kernel
theorem dX3_writeStep_48 : decode cX3_writeStep 48 = .ok (.aload_n 0, 1) := by decide +kernel
theorem dX3_writeStep_49 : decode cX3_writeStep 49 = .ok (.aload_n 1, 1) := by decide +kernel
theorem dX3_writeStep_50 : decode cX3_writeStep 50 = .ok (.iload_n 3, 1) := by decide +kernel
theorem dX3_writeStep_51 : decode cX3_writeStep 51 = .ok (.iload 4, 2) := by decide +kernel
theorem dX3_writeStep_53 : decode cX3_writeStep 53 = .ok (.iconst 1, 1) := by decide +kernel
theorem dX3_writeStep_54 : decode cX3_writeStep 54 = .ok (.isub, 1) := by decide +kernel
theorem dX3_writeStep_55 : decode cX3_writeStep 55 = .ok (.invokevirtual 17, 3) := by decide +kernel
theorem dX3_writeStep_58 : decode cX3_writeStep 58 = .ok (.ifCond .eq 48, 3) := by decide +kernel
theorem dX3_writeStep_61 : decode cX3_writeStep 61 = .ok (.aload_n 0, 1) := by decide +kernel
theorem dX3_writeStep_62 : decode cX3_writeStep 62 = .ok (.aload_n 1, 1) := by decide +kernel
theorem dX3_writeStep_63 : decode cX3_writeStep 63 = .ok (.iload_n 3, 1) := by decide +kernel
theorem dX3_writeStep_64 : decode cX3_writeStep 64 = .ok (.iload 4, 2) := by decide +kernel
theorem dX3_writeStep_66 : decode cX3_writeStep 66 = .ok (.iconst 1, 1) := by decide +kernel
theorem dX3_writeStep_67 : decode cX3_writeStep 67 = .ok (.isub, 1) := by decide +kernel
theorem dX3_writeStep_68 : decode cX3_writeStep 68 = .ok (.invokevirtual 21, 3) := by decide +kernel
theorem dX3_writeStep_71 : decode cX3_writeStep 71 = .ok (.istore 7, 2) := by decide +kernel
theorem dX3_writeStep_73 : decode cX3_writeStep 73 = .ok (.aload_n 0, 1) := by decide +kernel
theorem dX3_writeStep_74 : decode cX3_writeStep 74 = .ok (.aload_n 1, 1) := by decide +kernel
theorem dX3_writeStep_75 : decode cX3_writeStep 75 = .ok (.iload_n 3, 1) := by decide +kernel
theorem dX3_writeStep_76 : decode cX3_writeStep 76 = .ok (.iload 4, 2) := by decide +kernel
theorem dX3_writeStep_78 : decode cX3_writeStep 78 = .ok (.iconst 1, 1) := by decide +kernel
theorem dX3_writeStep_79 : decode cX3_writeStep 79 = .ok (.isub, 1) := by decide +kernel
theorem dX3_writeStep_80 : decode cX3_writeStep 80 = .ok (.invokevirtual 25, 3) := by decide +kernel
theorem dX3_writeStep_83 : decode cX3_writeStep 83 = .ok (.istore 8, 2) := by decide +kernel
theorem dX3_writeStep_85 : decode cX3_writeStep 85 = .ok (.aload_n 2, 1) := by decide +kernel
theorem dX3_writeStep_86 : decode cX3_writeStep 86 = .ok (.iload 7, 2) := by decide +kernel
theorem dX3_writeStep_88 : decode cX3_writeStep 88 = .ok (.iload 8, 2) := by decide +kernel
theorem dX3_writeStep_90 : decode cX3_writeStep 90 = .ok (.iload 5, 2) := by decide +kernel
theorem dX3_writeStep_92 : decode cX3_writeStep 92 = .ok (.iload 7, 2) := by decide +kernel
theorem dX3_writeStep_94 : decode cX3_writeStep 94 = .ok (.isub, 1) := by decide +kernel
theorem dX3_writeStep_95 : decode cX3_writeStep 95 = .ok (.iload 6, 2) := by decide +kernel
theorem dX3_writeStep_97 : decode cX3_writeStep 97 = .ok (.iload 8, 2) := by decide +kernel
theorem dX3_writeStep_99 : decode cX3_writeStep 99 = .ok (.isub, 1) := by decide +kernel
theorem dX3_writeStep_100 : decode cX3_writeStep 100 = .ok (.iload_n 3, 1) := by decide +kernel
theorem dX3_writeStep_101 : decode cX3_writeStep 101 = .ok (.iload 4, 2) := by decide +kernel
theorem dX3_writeStep_103 : decode cX3_writeStep 103 = .ok (.invokestatic 34, 3) := by decide +kernel
theorem dX3_writeStep_106 : decode cX3_writeStep 106 = .ok (.return_, 1) := by decide +kernel
set_option maxRecDepth 20000 in
theorem ggX3_isDown_X5_liftOfPeg : GoodIn wsX3_isDown wsX5_liftOfPeg := goodIn_r _ [6, 7, 8, 29, 30, 31, 32, 33, 34] (by decide +kernel) (by decide +kernel)
set_option maxRecDepth 20000 in
theorem gX3_isDown_X5_liftOfPeg : GoodIn wsX3_isDown (wsV RX3 38 RX5 yX5_liftOfPeg wsX5_liftOfPeg) := goodIn_app (goodIn_of _ (by decide +kernel)) ggX3_isDown_X5_liftOfPeg
set_option maxRecDepth 20000 in
theorem ggX3_isDown_X3_heightOf : GoodIn wsX3_isDown wsX3_heightOf := goodIn_r _ [13, 14, 15, 16, 17, 18, 19, 20, 21, 22, 23, 24, 25, 26, 27, 28, 35, 36, 37, 38, 39, 40, 41] (by decide +kernel) (by decide +kernel)
set_option maxRecDepth 20000 in
theorem gX3_isDown_X3_heightOf : GoodIn wsX3_isDown (wsV RX3 44 RX3 yX3_heightOf wsX3_heightOf) := goodIn_app (goodIn_of _ (by decide +kernel)) ggX3_isDown_X3_heightOf
theorem dX3_isDown_0 : decode cX3_isDown 0 = .ok (.aload_n 0, 1) := by decide +kernel
theorem dX3_isDown_1 : decode cX3_isDown 1 = .ok (.aload_n 1, 1) := by decide +kernel
theorem dX3_isDown_2 : decode cX3_isDown 2 = .ok (.aload_n 0, 1) := by decide +kernel
theorem dX3_isDown_3 : decode cX3_isDown 3 = .ok (.getfield 13, 3) := by decide +kernel
theorem dX3_isDown_6 : decode cX3_isDown 6 = .ok (.iload_n 2, 1) := by decide +kernel
theorem dX3_isDown_7 : decode cX3_isDown 7 = .ok (.invokevirtual 38, 3) := by decide +kernel
theorem dX3_isDown_10 : decode cX3_isDown 10 = .ok (.iload_n 3, 1) := by decide +kernel
theorem dX3_isDown_11 : decode cX3_isDown 11 = .ok (.invokevirtual 44, 3) := by decide +kernel
theorem dX3_isDown_14 : decode cX3_isDown 14 = .ok (.ifCond .ne 7, 3) := by decide +kernel
theorem dX3_isDown_17 : decode cX3_isDown 17 = .ok (.iconst 1, 1) := by decide +kernel
theorem dX3_isDown_18 : decode cX3_isDown 18 = .ok (.goto 4, 3) := by decide +kernel
theorem dX3_isDown_21 : decode cX3_isDown 21 = .ok (.iconst 0, 1) := by decide +kernel
theorem dX3_isDown_22 : decode cX3_isDown 22 = .ok (.ireturn, 1) := by decide +kernel
set_option maxRecDepth 20000 in
theorem ggX3_xAt_X5_acrossOfPeg : GoodIn wsX3_xAt wsX5_acrossOfPeg := goodIn_r _ [6, 7, 8, 39, 40, 41, 42, 43, 44] (by decide +kernel) (by decide +kernel)
set_option maxRecDepth 20000 in
theorem gX3_xAt_X5_acrossOfPeg : GoodIn wsX3_xAt (wsV RX3 47 RX5 yX5_acrossOfPeg wsX5_acrossOfPeg) := goodIn_app (goodIn_of _ (by decide +kernel)) ggX3_xAt_X5_acrossOfPeg
set_option maxRecDepth 20000 in
theorem ggX3_xAt_X3_heightOf : GoodIn wsX3_xAt wsX3_heightOf := goodIn_r _ [13, 14, 15, 16, 17, 18, 19, 20, 21, 22, 23, 24, 25, 26, 37, 38, 45, 46, 47, 48, 49, 50, 51] (by decide +kernel) (by decide +kernel)
set_option maxRecDepth 20000 in
theorem gX3_xAt_X3_heightOf : GoodIn wsX3_xAt (wsV RX3 44 RX3 yX3_heightOf wsX3_heightOf) := goodIn_app (goodIn_of _ (by decide +kernel)) ggX3_xAt_X3_heightOf
set_option maxRecDepth 20000 in
theorem ggX3_xAt_X5_space : GoodIn wsX3_xAt wsX5_space := goodIn_r _ [30, 31, 39, 40, 41, 42, 43, 44] (by decide +kernel) (by decide +kernel)
set_option maxRecDepth 20000 in
theorem gX3_xAt_X5_space : GoodIn wsX3_xAt (wsV RX3 50 RX5 yX5_space wsX5_space) := goodIn_app (goodIn_of _ (by decide +kernel)) ggX3_xAt_X5_space
set_option maxRecDepth 20000 in
theorem ggX3_xAt_X1_bentX : GoodIn wsX3_xAt wsX1_bentX := goodIn_r _ [35, 36, 49, 50, 51] (by decide +kernel) (by decide +kernel)
set_option maxRecDepth 20000 in
theorem gX3_xAt_X1_bentX : GoodIn wsX3_xAt (wsV RX3 54 RX1 yX1_bentX wsX1_bentX) := goodIn_app (goodIn_of _ (by decide +kernel)) ggX3_xAt_X1_bentX
theorem dX3_xAt_0 : decode cX3_xAt 0 = .ok (.aload_n 0, 1) := by decide +kernel
theorem dX3_xAt_1 : decode cX3_xAt 1 = .ok (.aload_n 1, 1) := by decide +kernel
theorem dX3_xAt_2 : decode cX3_xAt 2 = .ok (.aload_n 0, 1) := by decide +kernel
theorem dX3_xAt_3 : decode cX3_xAt 3 = .ok (.getfield 13, 3) := by decide +kernel
theorem dX3_xAt_6 : decode cX3_xAt 6 = .ok (.iload_n 2, 1) := by decide +kernel
theorem dX3_xAt_7 : decode cX3_xAt 7 = .ok (.invokevirtual 47, 3) := by decide +kernel
theorem dX3_xAt_10 : decode cX3_xAt 10 = .ok (.iload_n 3, 1) := by decide +kernel
theorem dX3_xAt_11 : decode cX3_xAt 11 = .ok (.invokevirtual 44, 3) := by decide +kernel
theorem dX3_xAt_14 : decode cX3_xAt 14 = .ok (.istore 4, 2) := by decide +kernel
theorem dX3_xAt_16 : decode cX3_xAt 16 = .ok (.aload_n 1, 1) := by decide +kernel
theorem dX3_xAt_17 : decode cX3_xAt 17 = .ok (.iload_n 2, 1) := by decide +kernel
theorem dX3_xAt_18 : decode cX3_xAt 18 = .ok (.aload_n 0, 1) := by decide +kernel
theorem dX3_xAt_19 : decode cX3_xAt 19 = .ok (.getfield 13, 3) := by decide +kernel
theorem dX3_xAt_22 : decode cX3_xAt 22 = .ok (.invokevirtual 50, 3) := by decide +kernel
theorem dX3_xAt_25 : decode cX3_xAt 25 = .ok (.imul, 1) := by decide +kernel
theorem dX3_xAt_26 : decode cX3_xAt 26 = .ok (.iload 4, 2) := by decide +kernel
theorem dX3_xAt_28 : decode cX3_xAt 28 = .ok (.iadd, 1) := by decide +kernel
theorem dX3_xAt_29 : decode cX3_xAt 29 = .ok (.invokevirtual 54, 3) := by decide +kernel
theorem dX3_xAt_32 : decode cX3_xAt 32 = .ok (.ireturn, 1) := by decide +kernel
set_option maxRecDepth 20000 in
theorem ggX3_yAt_X5_upOfPeg : GoodIn wsX3_yAt wsX5_upOfPeg := goodIn_r _ [6, 7, 8, 38, 39, 40, 41, 42, 43] (by decide +kernel) (by decide +kernel)
set_option maxRecDepth 20000 in
theorem gX3_yAt_X5_upOfPeg : GoodIn wsX3_yAt (wsV RX3 59 RX5 yX5_upOfPeg wsX5_upOfPeg) := goodIn_app (goodIn_of _ (by decide +kernel)) ggX3_yAt_X5_upOfPeg
set_option maxRecDepth 20000 in
theorem ggX3_yAt_X3_heightOf : GoodIn wsX3_yAt wsX3_heightOf := goodIn_r _ [13, 14, 15, 16, 17, 18, 19, 20, 21, 22, 23, 24, 25, 26, 36, 37, 44, 45, 46, 47, 48, 49, 50] (by decide +kernel) (by decide +kernel)
set_option maxRecDepth 20000 in
theorem gX3_yAt_X3_heightOf : GoodIn wsX3_yAt (wsV RX3 44 RX3 yX3_heightOf wsX3_heightOf) := goodIn_app (goodIn_of _ (by decide +kernel)) ggX3_yAt_X3_heightOf
set_option maxRecDepth 20000 in
theorem ggX3_yAt_X1_bentY : GoodIn wsX3_yAt wsX1_bentY := goodIn_r _ [30, 31, 32, 33, 34, 35, 48, 49, 50] (by decide +kernel) (by decide +kernel)
set_option maxRecDepth 20000 in
theorem gX3_yAt_X1_bentY : GoodIn wsX3_yAt (wsV RX3 62 RX1 yX1_bentY wsX1_bentY) := goodIn_app (goodIn_of _ (by decide +kernel)) ggX3_yAt_X1_bentY
theorem dX3_yAt_0 : decode cX3_yAt 0 = .ok (.aload_n 1, 1) := by decide +kernel
theorem dX3_yAt_1 : decode cX3_yAt 1 = .ok (.aload_n 0, 1) := by decide +kernel
theorem dX3_yAt_2 : decode cX3_yAt 2 = .ok (.aload_n 1, 1) := by decide +kernel
theorem dX3_yAt_3 : decode cX3_yAt 3 = .ok (.aload_n 0, 1) := by decide +kernel
theorem dX3_yAt_4 : decode cX3_yAt 4 = .ok (.getfield 13, 3) := by decide +kernel
theorem dX3_yAt_7 : decode cX3_yAt 7 = .ok (.iload_n 2, 1) := by decide +kernel
theorem dX3_yAt_8 : decode cX3_yAt 8 = .ok (.invokevirtual 59, 3) := by decide +kernel
theorem dX3_yAt_11 : decode cX3_yAt 11 = .ok (.iload_n 3, 1) := by decide +kernel
theorem dX3_yAt_12 : decode cX3_yAt 12 = .ok (.invokevirtual 44, 3) := by decide +kernel
theorem dX3_yAt_15 : decode cX3_yAt 15 = .ok (.invokevirtual 62, 3) := by decide +kernel
theorem dX3_yAt_18 : decode cX3_yAt 18 = .ok (.ireturn, 1) := by decide +kernel
set_option maxRecDepth 20000 in
theorem ggX3_heightOf_X0_heightAt : GoodIn wsX3_heightOf wsX0_heightAt := goodIn_r _ [6, 7, 16, 17, 18, 19] (by decide +kernel) (by decide +kernel)
set_option maxRecDepth 20000 in
theorem gX3_heightOf_X0_heightAt : GoodIn wsX3_heightOf (wsV RX3 65 RX0 yX0_heightAt wsX0_heightAt) := goodIn_app (goodIn_of _ (by decide +kernel)) ggX3_heightOf_X0_heightAt
set_option maxRecDepth 20000 in
theorem ggX3_heightOf_X1_wornHeight : GoodIn wsX3_heightOf wsX1_wornHeight := goodIn_r _ [12, 13, 20, 21, 22] (by decide +kernel) (by decide +kernel)
set_option maxRecDepth 20000 in
theorem gX3_heightOf_X1_wornHeight : GoodIn wsX3_heightOf (wsV RX3 71 RX1 yX1_wornHeight wsX1_wornHeight) := goodIn_app (goodIn_of _ (by decide +kernel)) ggX3_heightOf_X1_wornHeight
theorem dX3_heightOf_0 : decode cX3_heightOf 0 = .ok (.aload_n 1, 1) := by decide +kernel
theorem dX3_heightOf_1 : decode cX3_heightOf 1 = .ok (.iload_n 2, 1) := by decide +kernel
theorem dX3_heightOf_2 : decode cX3_heightOf 2 = .ok (.aload_n 0, 1) := by decide +kernel
theorem dX3_heightOf_3 : decode cX3_heightOf 3 = .ok (.getfield 7, 3) := by decide +kernel
theorem dX3_heightOf_6 : decode cX3_heightOf 6 = .ok (.iload_n 2, 1) := by decide +kernel
theorem dX3_heightOf_7 : decode cX3_heightOf 7 = .ok (.iload_n 3, 1) := by decide +kernel
theorem dX3_heightOf_8 : decode cX3_heightOf 8 = .ok (.invokevirtual 65, 3) := by decide +kernel
theorem dX3_heightOf_11 : decode cX3_heightOf 11 = .ok (.invokevirtual 71, 3) := by decide +kernel
theorem dX3_heightOf_14 : decode cX3_heightOf 14 = .ok (.ireturn, 1) := by decide +kernel
set_option maxRecDepth 20000 in
theorem ggX3_drawLine_X3_rounded : GoodIn wsX3_drawLine wsX3_rounded := goodIn_r _ [11, 12, 13, 14, 15] (by decide +kernel) (by decide +kernel)
set_option maxRecDepth 20000 in
theorem gX3_drawLine_X3_rounded : GoodIn wsX3_drawLine (va_wsS RX3 82 yX3_rounded wsX3_rounded) := goodIn_app (goodIn_of _ (by decide +kernel)) ggX3_drawLine_X3_rounded
set_option maxRecDepth 20000 in
theorem ggX3_drawLine_X6_put : GoodIn wsX3_drawLine wsX6_put := goodIn_r _ [20, 21, 22, 23, 24, 19, 25, 26, 27, 28, 29, 30, 31] (by decide +kernel) (by decide +kernel)
set_option maxRecDepth 20000 in
theorem gX3_drawLine_X6_put : GoodIn wsX3_drawLine (wsV RX3 28 RX6 yX6_put wsX6_put) := goodIn_app (goodIn_of _ (by decide +kernel)) ggX3_drawLine_X6_put
theorem dX3_drawLine_0 : decode cX3_drawLine 0 = .ok (.iload_n 3, 1) := by decide +kernel
theorem dX3_drawLine_1 : decode cX3_drawLine 1 = .ok (.invokestatic 74, 3) := by decide +kernel
theorem dX3_drawLine_4 : decode cX3_drawLine 4 = .ok (.iload 4, 2) := by decide +kernel
theorem dX3_drawLine_6 : decode cX3_drawLine 6 = .ok (.invokestatic 74, 3) := by decide +kernel
theorem dX3_drawLine_9 : decode cX3_drawLine 9 = .ok (.invokestatic 79, 3) := by decide +kernel
theorem dX3_drawLine_12 : decode cX3_drawLine 12 = .ok (.istore 7, 2) := by decide +kernel
theorem dX3_drawLine_14 : decode cX3_drawLine 14 = .ok (.iconst 1, 1) := by decide +kernel
theorem dX3_drawLine_15 : decode cX3_drawLine 15 = .ok (.istore 8, 2) := by decide +kernel
theorem dX3_drawLine_17 : decode cX3_drawLine 17 = .ok (.iload 8, 2) := by decide +kernel
theorem dX3_drawLine_19 : decode cX3_drawLine 19 = .ok (.iload 7, 2) := by decide +kernel
theorem dX3_drawLine_21 : decode cX3_drawLine 21 = .ok (.if_icmp .ge 40, 3) := by decide +kernel
theorem dX3_drawLine_24 : decode cX3_drawLine 24 = .ok (.aload_n 0, 1) := by decide +kernel
theorem dX3_drawLine_25 : decode cX3_drawLine 25 = .ok (.iload_n 1, 1) := by decide +kernel
theorem dX3_drawLine_26 : decode cX3_drawLine 26 = .ok (.iload 8, 2) := by decide +kernel
theorem dX3_drawLine_28 : decode cX3_drawLine 28 = .ok (.iload_n 3, 1) := by decide +kernel
theorem dX3_drawLine_29 : decode cX3_drawLine 29 = .ok (.imul, 1) := by decide +kernel
theorem dX3_drawLine_30 : decode cX3_drawLine 30 = .ok (.iload 7, 2) := by decide +kernel
theorem dX3_drawLine_32 : decode cX3_drawLine 32 = .ok (.invokestatic 82, 3) := by decide +kernel
theorem dX3_drawLine_35 : decode cX3_drawLine 35 = .ok (.iadd, 1) := by decide +kernel
theorem dX3_drawLine_36 : decode cX3_drawLine 36 = .ok (.iload_n 2, 1) := by decide +kernel
theorem dX3_drawLine_37 : decode cX3_drawLine 37 = .ok (.iload 8, 2) := by decide +kernel
theorem dX3_drawLine_39 : decode cX3_drawLine 39 = .ok (.iload 4, 2) := by decide +kernel
theorem dX3_drawLine_41 : decode cX3_drawLine 41 = .ok (.imul, 1) := by decide +kernel
theorem dX3_drawLine_42 : decode cX3_drawLine 42 = .ok (.iload 7, 2) := by decide +kernel
theorem dX3_drawLine_44 : decode cX3_drawLine 44 = .ok (.invokestatic 82, 3) := by decide +kernel
theorem dX3_drawLine_47 : decode cX3_drawLine 47 = .ok (.iadd, 1) := by decide +kernel
theorem dX3_drawLine_48 : decode cX3_drawLine 48 = .ok (.iload 5, 2) := by decide +kernel
theorem dX3_drawLine_50 : decode cX3_drawLine 50 = .ok (.iload 6, 2) := by decide +kernel
theorem dX3_drawLine_52 : decode cX3_drawLine 52 = .ok (.invokevirtual 28, 3) := by decide +kernel
theorem dX3_drawLine_55 : decode cX3_drawLine 55 = .ok (.iinc 8 1, 3) := by decide +kernel
theorem dX3_drawLine_58 : decode cX3_drawLine 58 = .ok (.goto (-41), 3) := by decide +kernel
theorem dX3_drawLine_61 : decode cX3_drawLine 61 = .ok (.return_, 1) := by decide +kernel
set_option maxRecDepth 20000 in
theorem ggX3_rounded_J9_floorDiv_7cf53 : GoodIn wsX3_rounded wsJ9_floorDiv_7cf53 := goodIn_r _ [4] (by decide +kernel) (by decide +kernel)
set_option maxRecDepth 20000 in
theorem gX3_rounded_J9_floorDiv_7cf53 : GoodIn wsX3_rounded (va_wsS RX3 85 yJ9_floorDiv_7cf53 wsJ9_floorDiv_7cf53) := goodIn_app (goodIn_of _ (by decide +kernel)) ggX3_rounded_J9_floorDiv_7cf53
theorem dX3_rounded_0 : decode cX3_rounded 0 = .ok (.iload_n 1, 1) := by decide +kernel
theorem dX3_rounded_1 : decode cX3_rounded 1 = .ok (.ifCond .le 17, 3) := by decide +kernel
theorem dX3_rounded_4 : decode cX3_rounded 4 = .ok (.iconst 2, 1) := by decide +kernel
theorem dX3_rounded_5 : decode cX3_rounded 5 = .ok (.iload_n 0, 1) := by decide +kernel
theorem dX3_rounded_6 : decode cX3_rounded 6 = .ok (.imul, 1) := by decide +kernel
theorem dX3_rounded_7 : decode cX3_rounded 7 = .ok (.iload_n 1, 1) := by decide +kernel
theorem dX3_rounded_8 : decode cX3_rounded 8 = .ok (.iadd, 1) := by decide +kernel
theorem dX3_rounded_9 : decode cX3_rounded 9 = .ok (.iconst 2, 1) := by decide +kernel
theorem dX3_rounded_10 : decode cX3_rounded 10 = .ok (.iload_n 1, 1) := by decide +kernel
theorem dX3_rounded_11 : decode cX3_rounded 11 = .ok (.imul, 1) := by decide +kernel
theorem dX3_rounded_12 : decode cX3_rounded 12 = .ok (.invokestatic 85, 3) := by decide +kernel
theorem dX3_rounded_15 : decode cX3_rounded 15 = .ok (.goto 4, 3) := by decide +kernel
theorem dX3_rounded_18 : decode cX3_rounded 18 = .ok (.iconst 0, 1) := by decide +kernel
theorem dX3_rounded_19 : decode cX3_rounded 19 = .ok (.ireturn, 1) := by decide +kernel
theorem dX4_init_0 : decode cX4_init 0 = .ok (.aload_n 0, 1) := by decide +kernel
theorem dX4_init_1 : decode cX4_init 1 = .ok (.invokespecial 3, 3) := by decide +kernel
theorem dX4_init_4 : decode cX4_init 4 = .ok (.aload_n 0, 1) := by decide +kernel
theorem dX4_init_5 : decode cX4_init 5 = .ok (.iconst 4, 1) := by decide +kernel
theorem dX4_init_6 : decode cX4_init 6 = .ok (.bipush 10, 2) := by decide +kernel
theorem dX4_init_8 : decode cX4_init 8 = .ok (.multianewarray 11 2, 4) := by decide +kernel
theorem dX4_init_12 : decode cX4_init 12 = .ok (.putfield 13, 3) := by decide +kernel
theorem dX4_init_15 : decode cX4_init 15 = .ok (.aload_n 0, 1) := by decide +kernel
theorem dX4_init_16 : decode cX4_init 16 = .ok (.iconst 4, 1) := by decide +kernel
theorem dX4_init_17 : decode cX4_init 17 = .ok (.newarray .int, 2) := by decide +kernel
theorem dX4_init_19 : decode cX4_init 19 = .ok (.putfield 16, 3) := by decide +kernel
theorem dX4_init_22 : decode cX4_init 22 = .ok (.aload_n 0, 1) := by decide +kernel
theorem dX4_init_23 : decode cX4_init 23 = .ok (.bipush 10, 2) := by decide +kernel
theorem dX4_init_25 : decode cX4_init 25 = .ok (.newarray .int, 2) := by decide +kernel
theorem dX4_init_27 : decode cX4_init 27 = .ok (.putfield 20, 3) := by decide +kernel
theorem dX4_init_30 : decode cX4_init 30 = .ok (.return_, 1) := by decide +kernel
theorem dX4_total_0 : decode cX4_total 0 = .ok (.aload_n 0, 1) := by decide +kernel
theorem dX4_total_1 : decode cX4_total 1 = .ok (.getfield 16, 3) := by decide +kernel
theorem dX4_total_4 : decode cX4_total 4 = .ok (.iload_n 1, 1) := by decide +kernel
theorem dX4_total_5 : decode cX4_total 5 = .ok (.iaload, 1) := by decide +kernel
theorem dX4_total_6 : decode cX4_total 6 = .ok (.ireturn, 1) := by decide +kernel
set_option maxRecDepth 20000 in
theorem ggX4_learn_X4_tally : GoodIn wsX4_learn wsX4_tally := goodIn_r _ [8, 2, 9, 10, 11, 12, 13, 14, 15, 16, 17, 18, 19, 20, 21, 22, 23, 24, 25, 26, 27, 28, 29, 30] (by decide +kernel) (by decide +kernel)
set_option maxRecDepth 20000 in
theorem gX4_learn_X4_tally : GoodIn wsX4_learn (wsV RX4 23 RX4 yX4_tally wsX4_tally) := goodIn_app (goodIn_of _ (by decide +kernel)) ggX4_learn_X4_tally
set_option maxRecDepth 20000 in
theorem ggX4_learn_X0_steps : GoodIn wsX4_learn wsX0_steps := goodIn_r _ [17, 18, 27, 28, 29, 30] (by decide +kernel) (by decide +kernel)
set_option maxRecDepth 20000 in
theorem gX4_learn_X0_steps : GoodIn wsX4_learn (wsV RX4 27 RX0 yX0_steps wsX0_steps) := goodIn_app (goodIn_of _ (by decide +kernel)) ggX4_learn_X0_steps
theorem dX4_learn_0 : decode cX4_learn 0 = .ok (.aload_n 0, 1) := by decide +kernel
theorem dX4_learn_1 : decode cX4_learn 1 = .ok (.aload_n 2, 1) := by decide +kernel
theorem dX4_learn_2 : decode cX4_learn 2 = .ok (.iload_n 3, 1) := by decide +kernel
theorem dX4_learn_3 : decode cX4_learn 3 = .ok (.invokevirtual 23, 3) := by decide +kernel
theorem dX4_learn_6 : decode cX4_learn 6 = .ok (.iconst 0, 1) := by decide +kernel
theorem dX4_learn_7 : decode cX4_learn 7 = .ok (.istore 4, 2) := by decide +kernel
theorem dX4_learn_9 : decode cX4_learn 9 = .ok (.iload 4, 2) := by decide +kernel
theorem dX4_learn_11 : decode cX4_learn 11 = .ok (.bipush 10, 2) := by decide +kernel
theorem dX4_learn_13 : decode cX4_learn 13 = .ok (.if_icmp .ge 28, 3) := by decide +kernel
theorem dX4_learn_16 : decode cX4_learn 16 = .ok (.aload_n 0, 1) := by decide +kernel
theorem dX4_learn_17 : decode cX4_learn 17 = .ok (.getfield 13, 3) := by decide +kernel
theorem dX4_learn_20 : decode cX4_learn 20 = .ok (.iload_n 1, 1) := by decide +kernel
theorem dX4_learn_21 : decode cX4_learn 21 = .ok (.aaload, 1) := by decide +kernel
theorem dX4_learn_22 : decode cX4_learn 22 = .ok (.iload 4, 2) := by decide +kernel
theorem dX4_learn_24 : decode cX4_learn 24 = .ok (.dup2, 1) := by decide +kernel
theorem dX4_learn_25 : decode cX4_learn 25 = .ok (.iaload, 1) := by decide +kernel
theorem dX4_learn_26 : decode cX4_learn 26 = .ok (.aload_n 0, 1) := by decide +kernel
theorem dX4_learn_27 : decode cX4_learn 27 = .ok (.getfield 20, 3) := by decide +kernel
theorem dX4_learn_30 : decode cX4_learn 30 = .ok (.iload 4, 2) := by decide +kernel
theorem dX4_learn_32 : decode cX4_learn 32 = .ok (.iaload, 1) := by decide +kernel
theorem dX4_learn_33 : decode cX4_learn 33 = .ok (.iadd, 1) := by decide +kernel
theorem dX4_learn_34 : decode cX4_learn 34 = .ok (.iastore, 1) := by decide +kernel
theorem dX4_learn_35 : decode cX4_learn 35 = .ok (.iinc 4 1, 3) := by decide +kernel
theorem dX4_learn_38 : decode cX4_learn 38 = .ok (.goto (-29), 3) := by decide +kernel
theorem dX4_learn_41 : decode cX4_learn 41 = .ok (.aload_n 0, 1) := by decide +kernel
theorem dX4_learn_42 : decode cX4_learn 42 = .ok (.getfield 16, 3) := by decide +kernel
theorem dX4_learn_45 : decode cX4_learn 45 = .ok (.iload_n 1, 1) := by decide +kernel
theorem dX4_learn_46 : decode cX4_learn 46 = .ok (.dup2, 1) := by decide +kernel
theorem dX4_learn_47 : decode cX4_learn 47 = .ok (.iaload, 1) := by decide +kernel
theorem dX4_learn_48 : decode cX4_learn 48 = .ok (.aload_n 2, 1) := by decide +kernel
theorem dX4_learn_49 : decode cX4_learn 49 = .ok (.invokevirtual 27, 3) := by decide +kernel
theorem dX4_learn_52 : decode cX4_learn 52 = .ok (.iadd, 1) := by decide +kernel
theorem dX4_learn_53 : decode cX4_learn 53 = .ok (.iastore, 1) := by decide +kernel
theorem dX4_learn_54 : decode cX4_learn 54 = .ok (.return_, 1) := by decide +kernel
set_option maxRecDepth 20000 in
theorem ggX4_likeness_X4_tally : GoodIn wsX4_likeness wsX4_tally := goodIn_r _ [12, 1, 13, 14, 15, 16, 17, 18, 19, 20, 21, 22, 23, 24, 25, 26, 27, 28, 29, 30, 31, 32, 33, 34] (by decide +kernel) (by decide +kernel)
set_option maxRecDepth 20000 in
theorem gX4_likeness_X4_tally : GoodIn wsX4_likeness (wsV RX4 23 RX4 yX4_tally wsX4_tally) := goodIn_app (goodIn_of _ (by decide +kernel)) ggX4_likeness_X4_tally
set_option maxRecDepth 20000 in
theorem ggX4_likeness_X0_steps : GoodIn wsX4_likeness wsX0_steps := goodIn_r _ [21, 22, 31, 32, 33, 34] (by decide +kernel) (by decide +kernel)
set_option maxRecDepth 20000 in
theorem gX4_likeness_X0_steps : GoodIn wsX4_likeness (wsV RX4 27 RX0 yX0_steps wsX0_steps) := goodIn_app (goodIn_of _ (by decide +kernel)) ggX4_likeness_X0_steps
theorem dX4_likeness_0 : decode cX4_likeness 0 = .ok (.aload_n 0, 1) := by decide +kernel
theorem dX4_likeness_1 : decode cX4_likeness 1 = .ok (.aload_n 2, 1) := by decide +kernel
theorem dX4_likeness_2 : decode cX4_likeness 2 = .ok (.iload_n 3, 1) := by decide +kernel
theorem dX4_likeness_3 : decode cX4_likeness 3 = .ok (.invokevirtual 23, 3) := by decide +kernel
theorem dX4_likeness_6 : decode cX4_likeness 6 = .ok (.iconst 0, 1) := by decide +kernel
theorem dX4_likeness_7 : decode cX4_likeness 7 = .ok (.istore 4, 2) := by decide +kernel
theorem dX4_likeness_9 : decode cX4_likeness 9 = .ok (.iconst 0, 1) := by decide +kernel
theorem dX4_likeness_10 : decode cX4_likeness 10 = .ok (.istore 5, 2) := by decide +kernel
theorem dX4_likeness_12 : decode cX4_likeness 12 = .ok (.iload 5, 2) := by decide +kernel
theorem dX4_likeness_14 : decode cX4_likeness 14 = .ok (.bipush 10, 2) := by decide +kernel
theorem dX4_likeness_16 : decode cX4_likeness 16 = .ok (.if_icmp .ge 46, 3) := by decide +kernel
theorem dX4_likeness_19 : decode cX4_likeness 19 = .ok (.iload 4, 2) := by decide +kernel
theorem dX4_likeness_21 : decode cX4_likeness 21 = .ok (.aload_n 0, 1) := by decide +kernel
theorem dX4_likeness_22 : decode cX4_likeness 22 = .ok (.getfield 20, 3) := by decide +kernel
theorem dX4_likeness_25 : decode cX4_likeness 25 = .ok (.iload 5, 2) := by decide +kernel
theorem dX4_likeness_27 : decode cX4_likeness 27 = .ok (.iaload, 1) := by decide +kernel
theorem dX4_likeness_28 : decode cX4_likeness 28 = .ok (.aload_n 0, 1) := by decide +kernel
theorem dX4_likeness_29 : decode cX4_likeness 29 = .ok (.getfield 16, 3) := by decide +kernel
theorem dX4_likeness_32 : decode cX4_likeness 32 = .ok (.iload_n 1, 1) := by decide +kernel
theorem dX4_likeness_33 : decode cX4_likeness 33 = .ok (.iaload, 1) := by decide +kernel
theorem dX4_likeness_34 : decode cX4_likeness 34 = .ok (.imul, 1) := by decide +kernel
theorem dX4_likeness_35 : decode cX4_likeness 35 = .ok (.aload_n 0, 1) := by decide +kernel
theorem dX4_likeness_36 : decode cX4_likeness 36 = .ok (.getfield 13, 3) := by decide +kernel
theorem dX4_likeness_39 : decode cX4_likeness 39 = .ok (.iload_n 1, 1) := by decide +kernel
theorem dX4_likeness_40 : decode cX4_likeness 40 = .ok (.aaload, 1) := by decide +kernel
theorem dX4_likeness_41 : decode cX4_likeness 41 = .ok (.iload 5, 2) := by decide +kernel
theorem dX4_likeness_43 : decode cX4_likeness 43 = .ok (.iaload, 1) := by decide +kernel
theorem dX4_likeness_44 : decode cX4_likeness 44 = .ok (.aload_n 2, 1) := by decide +kernel
theorem dX4_likeness_45 : decode cX4_likeness 45 = .ok (.invokevirtual 27, 3) := by decide +kernel
theorem dX4_likeness_48 : decode cX4_likeness 48 = .ok (.imul, 1) := by decide +kernel
theorem dX4_likeness_49 : decode cX4_likeness 49 = .ok (.isub, 1) := by decide +kernel
theorem dX4_likeness_50 : decode cX4_likeness 50 = .ok (.invokestatic 33, 3) := by decide +kernel
theorem dX4_likeness_53 : decode cX4_likeness 53 = .ok (.iadd, 1) := by decide +kernel
theorem dX4_likeness_54 : decode cX4_likeness 54 = .ok (.istore 4, 2) := by decide +kernel
theorem dX4_likeness_56 : decode cX4_likeness 56 = .ok (.iinc 5 1, 3) := by decide +kernel
theorem dX4_likeness_59 : decode cX4_likeness 59 = .ok (.goto (-47), 3) := by decide +kernel
theorem dX4_likeness_62 : decode cX4_likeness 62 = .ok (.iload 4, 2) := by decide +kernel
theorem dX4_likeness_64 : decode cX4_likeness 64 = .ok (.ireturn, 1) := by decide +kernel
set_option maxRecDepth 20000 in
theorem ggX4_nearest_X4_likeness : GoodIn wsX4_nearest wsX4_likeness := goodIn_r _ [6, 7, 1, 8, 9, 10, 11, 12, 13, 14, 15, 5, 16, 17, 18, 19, 20, 21, 22, 23, 24, 25, 26, 27, 28, 29, 30, 31, 32, 33, 34, 35, 36, 37, 38] (by decide +kernel) (by decide +kernel)
set_option maxRecDepth 20000 in
theorem gX4_nearest_X4_likeness : GoodIn wsX4_nearest (wsV RX4 39 RX4 yX4_likeness wsX4_likeness) := goodIn_app (goodIn_of _ (by decide +kernel)) ggX4_nearest_X4_likeness
theorem dX4_nearest_0 : decode cX4_nearest 0 = .ok (.bipush (-9), 2) := by decide +kernel
theorem dX4_nearest_2 : decode cX4_nearest 2 = .ok (.istore_n 3, 1) := by decide +kernel
theorem dX4_nearest_3 : decode cX4_nearest 3 = .ok (.iconst 0, 1) := by decide +kernel
theorem dX4_nearest_4 : decode cX4_nearest 4 = .ok (.istore 4, 2) := by decide +kernel
theorem dX4_nearest_6 : decode cX4_nearest 6 = .ok (.iconst 1, 1) := by decide +kernel
theorem dX4_nearest_7 : decode cX4_nearest 7 = .ok (.istore 5, 2) := by decide +kernel
theorem dX4_nearest_9 : decode cX4_nearest 9 = .ok (.iconst 0, 1) := by decide +kernel
theorem dX4_nearest_10 : decode cX4_nearest 10 = .ok (.istore 6, 2) := by decide +kernel
theorem dX4_nearest_12 : decode cX4_nearest 12 = .ok (.iload 6, 2) := by decide +kernel
theorem dX4_nearest_14 : decode cX4_nearest 14 = .ok (.iconst 4, 1) := by decide +kernel
theorem dX4_nearest_15 : decode cX4_nearest 15 = .ok (.if_icmp .ge 72, 3) := by decide +kernel
theorem dX4_nearest_18 : decode cX4_nearest 18 = .ok (.aload_n 0, 1) := by decide +kernel
theorem dX4_nearest_19 : decode cX4_nearest 19 = .ok (.getfield 16, 3) := by decide +kernel
theorem dX4_nearest_22 : decode cX4_nearest 22 = .ok (.iload 6, 2) := by decide +kernel
theorem dX4_nearest_24 : decode cX4_nearest 24 = .ok (.iaload, 1) := by decide +kernel
theorem dX4_nearest_25 : decode cX4_nearest 25 = .ok (.ifCond .gt 6, 3) := by decide +kernel
theorem dX4_nearest_28 : decode cX4_nearest 28 = .ok (.goto 53, 3) := by decide +kernel
theorem dX4_nearest_31 : decode cX4_nearest 31 = .ok (.aload_n 0, 1) := by decide +kernel
theorem dX4_nearest_32 : decode cX4_nearest 32 = .ok (.iload 6, 2) := by decide +kernel
theorem dX4_nearest_34 : decode cX4_nearest 34 = .ok (.aload_n 1, 1) := by decide +kernel
theorem dX4_nearest_35 : decode cX4_nearest 35 = .ok (.iload_n 2, 1) := by decide +kernel
theorem dX4_nearest_36 : decode cX4_nearest 36 = .ok (.invokevirtual 39, 3) := by decide +kernel
theorem dX4_nearest_39 : decode cX4_nearest 39 = .ok (.istore 7, 2) := by decide +kernel
theorem dX4_nearest_41 : decode cX4_nearest 41 = .ok (.iload_n 3, 1) := by decide +kernel
theorem dX4_nearest_42 : decode cX4_nearest 42 = .ok (.bipush (-9), 2) := by decide +kernel
theorem dX4_nearest_44 : decode cX4_nearest 44 = .ok (.if_icmp .eq 21, 3) := by decide +kernel
theorem dX4_nearest_47 : decode cX4_nearest 47 = .ok (.iload 7, 2) := by decide +kernel
theorem dX4_nearest_49 : decode cX4_nearest 49 = .ok (.iload 5, 2) := by decide +kernel
theorem dX4_nearest_51 : decode cX4_nearest 51 = .ok (.imul, 1) := by decide +kernel
theorem dX4_nearest_52 : decode cX4_nearest 52 = .ok (.iload 4, 2) := by decide +kernel
theorem dX4_nearest_54 : decode cX4_nearest 54 = .ok (.aload_n 0, 1) := by decide +kernel
theorem dX4_nearest_55 : decode cX4_nearest 55 = .ok (.getfield 16, 3) := by decide +kernel
theorem dX4_nearest_58 : decode cX4_nearest 58 = .ok (.iload 6, 2) := by decide +kernel
theorem dX4_nearest_60 : decode cX4_nearest 60 = .ok (.iaload, 1) := by decide +kernel
theorem dX4_nearest_61 : decode cX4_nearest 61 = .ok (.imul, 1) := by decide +kernel
theorem dX4_nearest_62 : decode cX4_nearest 62 = .ok (.if_icmp .ge 19, 3) := by decide +kernel
theorem dX4_nearest_65 : decode cX4_nearest 65 = .ok (.iload 6, 2) := by decide +kernel
theorem dX4_nearest_67 : decode cX4_nearest 67 = .ok (.istore_n 3, 1) := by decide +kernel
theorem dX4_nearest_68 : decode cX4_nearest 68 = .ok (.iload 7, 2) := by decide +kernel
theorem dX4_nearest_70 : decode cX4_nearest 70 = .ok (.istore 4, 2) := by decide +kernel
theorem dX4_nearest_72 : decode cX4_nearest 72 = .ok (.aload_n 0, 1) := by decide +kernel
theorem dX4_nearest_73 : decode cX4_nearest 73 = .ok (.getfield 16, 3) := by decide +kernel
theorem dX4_nearest_76 : decode cX4_nearest 76 = .ok (.iload 6, 2) := by decide +kernel
theorem dX4_nearest_78 : decode cX4_nearest 78 = .ok (.iaload, 1) := by decide +kernel
theorem dX4_nearest_79 : decode cX4_nearest 79 = .ok (.istore 5, 2) := by decide +kernel
theorem dX4_nearest_81 : decode cX4_nearest 81 = .ok (.iinc 6 1, 3) := by decide +kernel
theorem dX4_nearest_84 : decode cX4_nearest 84 = .ok (.goto (-72), 3) := by decide +kernel
theorem dX4_nearest_87 : decode cX4_nearest 87 = .ok (.iload_n 3, 1) := by decide +kernel
theorem dX4_nearest_88 : decode cX4_nearest 88 = .ok (.ireturn, 1) := by decide +kernel
set_option maxRecDepth 20000 in
theorem ggX4_tally_J7_fill_53178 : GoodIn wsX4_tally wsJ7_fill_53178 := goodIn_r _ [5] (by decide +kernel) (by decide +kernel)
set_option maxRecDepth 20000 in
theorem gX4_tally_J7_fill_53178 : GoodIn wsX4_tally (va_wsS RX4 43 yJ7_fill_53178 wsJ7_fill_53178) := goodIn_app (goodIn_of _ (by decide +kernel)) ggX4_tally_J7_fill_53178
set_option maxRecDepth 20000 in
theorem ggX4_tally_X0_steps : GoodIn wsX4_tally wsX0_steps := goodIn_r _ [10, 11, 20, 21, 22, 23] (by decide +kernel) (by decide +kernel)
set_option maxRecDepth 20000 in
theorem gX4_tally_X0_steps : GoodIn wsX4_tally (wsV RX4 27 RX0 yX0_steps wsX0_steps) := goodIn_app (goodIn_of _ (by decide +kernel)) ggX4_tally_X0_steps
set_option maxRecDepth 20000 in
theorem ggX4_tally_X0_heightAt : GoodIn wsX4_tally wsX0_heightAt := goodIn_r _ [15, 16, 20, 21, 22, 23] (by decide +kernel) (by decide +kernel)
set_option maxRecDepth 20000 in
theorem gX4_tally_X0_heightAt : GoodIn wsX4_tally (wsV RX4 49 RX0 yX0_heightAt wsX0_heightAt) := goodIn_app (goodIn_of _ (by decide +kernel)) ggX4_tally_X0_heightAt
theorem dX4_tally_0 : decode cX4_tally 0 = .ok (.aload_n 0, 1) := by decide +kernel
theorem dX4_tally_1 : decode cX4_tally 1 = .ok (.getfield 20, 3) := by decide +kernel
theorem dX4_tally_4 : decode cX4_tally 4 = .ok (.iconst 0, 1) := by decide +kernel
theorem dX4_tally_5 : decode cX4_tally 5 = .ok (.invokestatic 43, 3) := by decide +kernel
theorem dX4_tally_8 : decode cX4_tally 8 = .ok (.iconst 0, 1) := by decide +kernel
theorem dX4_tally_9 : decode cX4_tally 9 = .ok (.istore_n 3, 1) := by decide +kernel
theorem dX4_tally_10 : decode cX4_tally 10 = .ok (.iload_n 3, 1) := by decide +kernel
theorem dX4_tally_11 : decode cX4_tally 11 = .ok (.aload_n 1, 1) := by decide +kernel
theorem dX4_tally_12 : decode cX4_tally 12 = .ok (.invokevirtual 27, 3) := by decide +kernel
theorem dX4_tally_15 : decode cX4_tally 15 = .ok (.if_icmp .ge 40, 3) := by decide +kernel
theorem dX4_tally_18 : decode cX4_tally 18 = .ok (.aload_n 1, 1) := by decide +kernel
theorem dX4_tally_19 : decode cX4_tally 19 = .ok (.iload_n 2, 1) := by decide +kernel
theorem dX4_tally_20 : decode cX4_tally 20 = .ok (.iload_n 3, 1) := by decide +kernel
theorem dX4_tally_21 : decode cX4_tally 21 = .ok (.invokevirtual 49, 3) := by decide +kernel
theorem dX4_tally_24 : decode cX4_tally 24 = .ok (.istore 4, 2) := by decide +kernel
theorem dX4_tally_26 : decode cX4_tally 26 = .ok (.iload 4, 2) := by decide +kernel
theorem dX4_tally_28 : decode cX4_tally 28 = .ok (.ifCond .lt 21, 3) := by decide +kernel
theorem dX4_tally_31 : decode cX4_tally 31 = .ok (.iload 4, 2) := by decide +kernel
theorem dX4_tally_33 : decode cX4_tally 33 = .ok (.bipush 10, 2) := by decide +kernel
theorem dX4_tally_35 : decode cX4_tally 35 = .ok (.if_icmp .ge 14, 3) := by decide +kernel
theorem dX4_tally_38 : decode cX4_tally 38 = .ok (.aload_n 0, 1) := by decide +kernel
theorem dX4_tally_39 : decode cX4_tally 39 = .ok (.getfield 20, 3) := by decide +kernel
theorem dX4_tally_42 : decode cX4_tally 42 = .ok (.iload 4, 2) := by decide +kernel
theorem dX4_tally_44 : decode cX4_tally 44 = .ok (.dup2, 1) := by decide +kernel
theorem dX4_tally_45 : decode cX4_tally 45 = .ok (.iaload, 1) := by decide +kernel
theorem dX4_tally_46 : decode cX4_tally 46 = .ok (.iconst 1, 1) := by decide +kernel
theorem dX4_tally_47 : decode cX4_tally 47 = .ok (.iadd, 1) := by decide +kernel
theorem dX4_tally_48 : decode cX4_tally 48 = .ok (.iastore, 1) := by decide +kernel
theorem dX4_tally_49 : decode cX4_tally 49 = .ok (.iinc 3 1, 3) := by decide +kernel
theorem dX4_tally_52 : decode cX4_tally 52 = .ok (.goto (-42), 3) := by decide +kernel
theorem dX4_tally_55 : decode cX4_tally 55 = .ok (.return_, 1) := by decide +kernel
theorem dX5_init_0 : decode cX5_init 0 = .ok (.aload_n 0, 1) := by decide +kernel
theorem dX5_init_1 : decode cX5_init 1 = .ok (.invokespecial 3, 3) := by decide +kernel
theorem dX5_init_4 : decode cX5_init 4 = .ok (.aload_n 0, 1) := by decide +kernel
theorem dX5_init_5 : decode cX5_init 5 = .ok (.bipush 10, 2) := by decide +kernel
theorem dX5_init_7 : decode cX5_init 7 = .ok (.newarray .int, 2) := by decide +kernel
theorem dX5_init_9 : decode cX5_init 9 = .ok (.putfield 9, 3) := by decide +kernel
theorem dX5_init_12 : decode cX5_init 12 = .ok (.aload_n 0, 1) := by decide +kernel
theorem dX5_init_13 : decode cX5_init 13 = .ok (.bipush 10, 2) := by decide +kernel
theorem dX5_init_15 : decode cX5_init 15 = .ok (.newarray .int, 2) := by decide +kernel
theorem dX5_init_17 : decode cX5_init 17 = .ok (.putfield 15, 3) := by decide +kernel
theorem dX5_init_20 : decode cX5_init 20 = .ok (.aload_n 0, 1) := by decide +kernel
theorem dX5_init_21 : decode cX5_init 21 = .ok (.bipush 10, 2) := by decide +kernel
theorem dX5_init_23 : decode cX5_init 23 = .ok (.newarray .int, 2) := by decide +kernel
theorem dX5_init_25 : decode cX5_init 25 = .ok (.putfield 18, 3) := by decide +kernel
theorem dX5_init_28 : decode cX5_init 28 = .ok (.aload_n 0, 1) := by decide +kernel
theorem dX5_init_29 : decode cX5_init 29 = .ok (.bipush 12, 2) := by decide +kernel
theorem dX5_init_31 : decode cX5_init 31 = .ok (.newarray .int, 2) := by decide +kernel
theorem dX5_init_33 : decode cX5_init 33 = .ok (.putfield 21, 3) := by decide +kernel
theorem dX5_init_36 : decode cX5_init 36 = .ok (.aload_n 0, 1) := by decide +kernel
theorem dX5_init_37 : decode cX5_init 37 = .ok (.iconst 0, 1) := by decide +kernel
theorem dX5_init_38 : decode cX5_init 38 = .ok (.putfield 24, 3) := by decide +kernel
theorem dX5_init_41 : decode cX5_init 41 = .ok (.aload_n 0, 1) := by decide +kernel
theorem dX5_init_42 : decode cX5_init 42 = .ok (.iconst 5, 1) := by decide +kernel
theorem dX5_init_43 : decode cX5_init 43 = .ok (.putfield 28, 3) := by decide +kernel
theorem dX5_init_46 : decode cX5_init 46 = .ok (.return_, 1) := by decide +kernel
theorem dX5_pegs_0 : decode cX5_pegs 0 = .ok (.aload_n 0, 1) := by decide +kernel
theorem dX5_pegs_1 : decode cX5_pegs 1 = .ok (.getfield 24, 3) := by decide +kernel
theorem dX5_pegs_4 : decode cX5_pegs 4 = .ok (.ireturn, 1) := by decide +kernel
theorem dX5_space_0 : decode cX5_space 0 = .ok (.aload_n 0, 1) := by decide +kernel
theorem dX5_space_1 : decode cX5_space 1 = .ok (.getfield 28, 3) := by decide +kernel
theorem dX5_space_4 : decode cX5_space 4 = .ok (.ireturn, 1) := by decide +kernel
theorem dX5_setSpace_0 : decode cX5_setSpace 0 = .ok (.aload_n 0, 1) := by decide +kernel
theorem dX5_setSpace_1 : decode cX5_setSpace 1 = .ok (.iload_n 1, 1) := by decide +kernel
theorem dX5_setSpace_2 : decode cX5_setSpace 2 = .ok (.putfield 28, 3) := by decide +kernel
theorem dX5_setSpace_5 : decode cX5_setSpace 5 = .ok (.return_, 1) := by decide +kernel
theorem dX5_setCams_0 : decode cX5_setCams 0 = .ok (.aload_n 0, 1) := by decide +kernel
theorem dX5_setCams_1 : decode cX5_setCams 1 = .ok (.getfield 9, 3) := by decide +kernel
theorem dX5_setCams_4 : decode cX5_setCams 4 = .ok (.iload_n 1, 1) := by decide +kernel
theorem dX5_setCams_5 : decode cX5_setCams 5 = .ok (.iload_n 2, 1) := by decide +kernel
theorem dX5_setCams_6 : decode cX5_setCams 6 = .ok (.iastore, 1) := by decide +kernel
theorem dX5_setCams_7 : decode cX5_setCams 7 = .ok (.aload_n 0, 1) := by decide +kernel
theorem dX5_setCams_8 : decode cX5_setCams 8 = .ok (.getfield 15, 3) := by decide +kernel
theorem dX5_setCams_11 : decode cX5_setCams 11 = .ok (.iload_n 1, 1) := by decide +kernel
theorem dX5_setCams_12 : decode cX5_setCams 12 = .ok (.iload_n 3, 1) := by decide +kernel
theorem dX5_setCams_13 : decode cX5_setCams 13 = .ok (.iastore, 1) := by decide +kernel
theorem dX5_setCams_14 : decode cX5_setCams 14 = .ok (.aload_n 0, 1) := by decide +kernel
theorem dX5_setCams_15 : decode cX5_setCams 15 = .ok (.getfield 18, 3) := by decide +kernel
theorem dX5_setCams_18 : decode cX5_setCams 18 = .ok (.iload_n 1, 1) := by decide +kernel
theorem dX5_setCams_19 : decode cX5_setCams 19 = .ok (.iload 4, 2) := by decide +kernel
theorem dX5_setCams_21 : decode cX5_setCams 21 = .ok (.iastore, 1) := by decide +kernel
theorem dX5_setCams_22 : decode cX5_setCams 22 = .ok (.return_, 1) := by decide +kernel
theorem dX5_addPeg_0 : decode cX5_addPeg 0 = .ok (.aload_n 0, 1) := by decide +kernel
theorem dX5_addPeg_1 : decode cX5_addPeg 1 = .ok (.getfield 21, 3) := by decide +kernel
theorem dX5_addPeg_4 : decode cX5_addPeg 4 = .ok (.aload_n 0, 1) := by decide +kernel
theorem dX5_addPeg_5 : decode cX5_addPeg 5 = .ok (.getfield 24, 3) := by decide +kernel
theorem dX5_addPeg_8 : decode cX5_addPeg 8 = .ok (.iload_n 1, 1) := by decide +kernel
theorem dX5_addPeg_9 : decode cX5_addPeg 9 = .ok (.iastore, 1) := by decide +kernel
theorem dX5_addPeg_10 : decode cX5_addPeg 10 = .ok (.aload_n 0, 1) := by decide +kernel
theorem dX5_addPeg_11 : decode cX5_addPeg 11 = .ok (.dup, 1) := by decide +kernel
theorem dX5_addPeg_12 : decode cX5_addPeg 12 = .ok (.getfield 24, 3) := by decide +kernel
theorem dX5_addPeg_15 : decode cX5_addPeg 15 = .ok (.iconst 1, 1) := by decide +kernel
theorem dX5_addPeg_16 : decode cX5_addPeg 16 = .ok (.iadd, 1) := by decide +kernel
theorem dX5_addPeg_17 : decode cX5_addPeg 17 = .ok (.putfield 24, 3) := by decide +kernel
theorem dX5_addPeg_20 : decode cX5_addPeg 20 = .ok (.return_, 1) := by decide +kernel
theorem dX5_dropPeg_0 : decode cX5_dropPeg 0 = .ok (.aload_n 0, 1) := by decide +kernel
theorem dX5_dropPeg_1 : decode cX5_dropPeg 1 = .ok (.dup, 1) := by decide +kernel
theorem dX5_dropPeg_2 : decode cX5_dropPeg 2 = .ok (.getfield 24, 3) := by decide +kernel
theorem dX5_dropPeg_5 : decode cX5_dropPeg 5 = .ok (.iconst 1, 1) := by decide +kernel
theorem dX5_dropPeg_6 : decode cX5_dropPeg 6 = .ok (.isub, 1) := by decide +kernel
theorem dX5_dropPeg_7 : decode cX5_dropPeg 7 = .ok (.putfield 24, 3) := by decide +kernel
theorem dX5_dropPeg_10 : decode cX5_dropPeg 10 = .ok (.return_, 1) := by decide +kernel
theorem dX5_acrossOfPeg_0 : decode cX5_acrossOfPeg 0 = .ok (.aload_n 0, 1) := by decide +kernel
theorem dX5_acrossOfPeg_1 : decode cX5_acrossOfPeg 1 = .ok (.getfield 9, 3) := by decide +kernel
theorem dX5_acrossOfPeg_4 : decode cX5_acrossOfPeg 4 = .ok (.aload_n 0, 1) := by decide +kernel
theorem dX5_acrossOfPeg_5 : decode cX5_acrossOfPeg 5 = .ok (.getfield 21, 3) := by decide +kernel
theorem dX5_acrossOfPeg_8 : decode cX5_acrossOfPeg 8 = .ok (.iload_n 1, 1) := by decide +kernel
theorem dX5_acrossOfPeg_9 : decode cX5_acrossOfPeg 9 = .ok (.iaload, 1) := by decide +kernel
theorem dX5_acrossOfPeg_10 : decode cX5_acrossOfPeg 10 = .ok (.iaload, 1) := by decide +kernel
theorem dX5_acrossOfPeg_11 : decode cX5_acrossOfPeg 11 = .ok (.ireturn, 1) := by decide +kernel
theorem dX5_upOfPeg_0 : decode cX5_upOfPeg 0 = .ok (.aload_n 0, 1) := by decide +kernel
theorem dX5_upOfPeg_1 : decode cX5_upOfPeg 1 = .ok (.getfield 15, 3) := by decide +kernel
theorem dX5_upOfPeg_4 : decode cX5_upOfPeg 4 = .ok (.aload_n 0, 1) := by decide +kernel
theorem dX5_upOfPeg_5 : decode cX5_upOfPeg 5 = .ok (.getfield 21, 3) := by decide +kernel
theorem dX5_upOfPeg_8 : decode cX5_upOfPeg 8 = .ok (.iload_n 1, 1) := by decide +kernel
theorem dX5_upOfPeg_9 : decode cX5_upOfPeg 9 = .ok (.iaload, 1) := by decide +kernel
theorem dX5_upOfPeg_10 : decode cX5_upOfPeg 10 = .ok (.iaload, 1) := by decide +kernel
theorem dX5_upOfPeg_11 : decode cX5_upOfPeg 11 = .ok (.ireturn, 1) := by decide +kernel
theorem dX5_liftOfPeg_0 : decode cX5_liftOfPeg 0 = .ok (.aload_n 0, 1) := by decide +kernel
theorem dX5_liftOfPeg_1 : decode cX5_liftOfPeg 1 = .ok (.getfield 18, 3) := by decide +kernel
theorem dX5_liftOfPeg_4 : decode cX5_liftOfPeg 4 = .ok (.aload_n 0, 1) := by decide +kernel
theorem dX5_liftOfPeg_5 : decode cX5_liftOfPeg 5 = .ok (.getfield 21, 3) := by decide +kernel
theorem dX5_liftOfPeg_8 : decode cX5_liftOfPeg 8 = .ok (.iload_n 1, 1) := by decide +kernel
theorem dX5_liftOfPeg_9 : decode cX5_liftOfPeg 9 = .ok (.iaload, 1) := by decide +kernel
theorem dX5_liftOfPeg_10 : decode cX5_liftOfPeg 10 = .ok (.iaload, 1) := by decide +kernel
theorem dX5_liftOfPeg_11 : decode cX5_liftOfPeg 11 = .ok (.ireturn, 1) := by decide +kernel
set_option maxRecDepth 20000 in
theorem ggX5_hasAllCams_X0_isThere : GoodIn wsX5_hasAllCams wsX0_isThere := goodIn_r _ [8, 9, 16, 17, 18, 19] (by decide +kernel) (by decide +kernel)
set_option maxRecDepth 20000 in
theorem gX5_hasAllCams_X0_isThere : GoodIn wsX5_hasAllCams (wsV RX5 31 RX0 yX0_isThere wsX0_isThere) := goodIn_app (goodIn_of _ (by decide +kernel)) ggX5_hasAllCams_X0_isThere
theorem dX5_hasAllCams_0 : decode cX5_hasAllCams 0 = .ok (.aload_n 2, 1) := by decide +kernel
theorem dX5_hasAllCams_1 : decode cX5_hasAllCams 1 = .ok (.aload_n 0, 1) := by decide +kernel
theorem dX5_hasAllCams_2 : decode cX5_hasAllCams 2 = .ok (.getfield 9, 3) := by decide +kernel
theorem dX5_hasAllCams_5 : decode cX5_hasAllCams 5 = .ok (.iload_n 1, 1) := by decide +kernel
theorem dX5_hasAllCams_6 : decode cX5_hasAllCams 6 = .ok (.iaload, 1) := by decide +kernel
theorem dX5_hasAllCams_7 : decode cX5_hasAllCams 7 = .ok (.invokevirtual 31, 3) := by decide +kernel
theorem dX5_hasAllCams_10 : decode cX5_hasAllCams 10 = .ok (.ifCond .eq 33, 3) := by decide +kernel
theorem dX5_hasAllCams_13 : decode cX5_hasAllCams 13 = .ok (.aload_n 2, 1) := by decide +kernel
theorem dX5_hasAllCams_14 : decode cX5_hasAllCams 14 = .ok (.aload_n 0, 1) := by decide +kernel
theorem dX5_hasAllCams_15 : decode cX5_hasAllCams 15 = .ok (.getfield 15, 3) := by decide +kernel
theorem dX5_hasAllCams_18 : decode cX5_hasAllCams 18 = .ok (.iload_n 1, 1) := by decide +kernel
theorem dX5_hasAllCams_19 : decode cX5_hasAllCams 19 = .ok (.iaload, 1) := by decide +kernel
theorem dX5_hasAllCams_20 : decode cX5_hasAllCams 20 = .ok (.invokevirtual 31, 3) := by decide +kernel
theorem dX5_hasAllCams_23 : decode cX5_hasAllCams 23 = .ok (.ifCond .eq 20, 3) := by decide +kernel
theorem dX5_hasAllCams_26 : decode cX5_hasAllCams 26 = .ok (.aload_n 2, 1) := by decide +kernel
theorem dX5_hasAllCams_27 : decode cX5_hasAllCams 27 = .ok (.aload_n 0, 1) := by decide +kernel
theorem dX5_hasAllCams_28 : decode cX5_hasAllCams 28 = .ok (.getfield 18, 3) := by decide +kernel
theorem dX5_hasAllCams_31 : decode cX5_hasAllCams 31 = .ok (.iload_n 1, 1) := by decide +kernel
theorem dX5_hasAllCams_32 : decode cX5_hasAllCams 32 = .ok (.iaload, 1) := by decide +kernel
theorem dX5_hasAllCams_33 : decode cX5_hasAllCams 33 = .ok (.invokevirtual 31, 3) := by decide +kernel
theorem dX5_hasAllCams_36 : decode cX5_hasAllCams 36 = .ok (.ifCond .eq 7, 3) := by decide +kernel
theorem dX5_hasAllCams_39 : decode cX5_hasAllCams 39 = .ok (.iconst 1, 1) := by decide +kernel
theorem dX5_hasAllCams_40 : decode cX5_hasAllCams 40 = .ok (.goto 4, 3) := by decide +kernel
theorem dX5_hasAllCams_43 : decode cX5_hasAllCams 43 = .ok (.iconst 0, 1) := by decide +kernel
theorem dX5_hasAllCams_44 : decode cX5_hasAllCams 44 = .ok (.ireturn, 1) := by decide +kernel
set_option maxRecDepth 20000 in
theorem ggX5_isWritable_X5_hasAllCams : GoodIn wsX5_isWritable wsX5_hasAllCams := goodIn_r _ [7, 8, 9, 10, 11, 12, 13, 14, 15, 16, 17, 18, 19, 20, 21, 22, 23, 24, 25, 26] (by decide +kernel) (by decide +kernel)
set_option maxRecDepth 20000 in
theorem gX5_isWritable_X5_hasAllCams : GoodIn wsX5_isWritable (wsV RX5 37 RX5 yX5_hasAllCams wsX5_hasAllCams) := goodIn_app (goodIn_of _ (by decide +kernel)) ggX5_isWritable_X5_hasAllCams
theorem dX5_isWritable_0 : decode cX5_isWritable 0 = .ok (.iconst 0, 1) := by decide +kernel
theorem dX5_isWritable_1 : decode cX5_isWritable 1 = .ok (.istore_n 2, 1) := by decide +kernel
theorem dX5_isWritable_2 : decode cX5_isWritable 2 = .ok (.iload_n 2, 1) := by decide +kernel
theorem dX5_isWritable_3 : decode cX5_isWritable 3 = .ok (.aload_n 0, 1) := by decide +kernel
theorem dX5_isWritable_4 : decode cX5_isWritable 4 = .ok (.getfield 24, 3) := by decide +kernel
theorem dX5_isWritable_7 : decode cX5_isWritable 7 = .ok (.if_icmp .ge 25, 3) := by decide +kernel
theorem dX5_isWritable_10 : decode cX5_isWritable 10 = .ok (.aload_n 0, 1) := by decide +kernel
theorem dX5_isWritable_11 : decode cX5_isWritable 11 = .ok (.aload_n 0, 1) := by decide +kernel
theorem dX5_isWritable_12 : decode cX5_isWritable 12 = .ok (.getfield 21, 3) := by decide +kernel
theorem dX5_isWritable_15 : decode cX5_isWritable 15 = .ok (.iload_n 2, 1) := by decide +kernel
theorem dX5_isWritable_16 : decode cX5_isWritable 16 = .ok (.iaload, 1) := by decide +kernel
theorem dX5_isWritable_17 : decode cX5_isWritable 17 = .ok (.aload_n 1, 1) := by decide +kernel
theorem dX5_isWritable_18 : decode cX5_isWritable 18 = .ok (.invokevirtual 37, 3) := by decide +kernel
theorem dX5_isWritable_21 : decode cX5_isWritable 21 = .ok (.ifCond .ne 5, 3) := by decide +kernel
theorem dX5_isWritable_24 : decode cX5_isWritable 24 = .ok (.iconst 0, 1) := by decide +kernel
theorem dX5_isWritable_25 : decode cX5_isWritable 25 = .ok (.ireturn, 1) := by decide +kernel
theorem dX5_isWritable_26 : decode cX5_isWritable 26 = .ok (.iinc 2 1, 3) := by decide +kernel
theorem dX5_isWritable_29 : decode cX5_isWritable 29 = .ok (.goto (-27), 3) := by decide +kernel
theorem dX5_isWritable_32 : decode cX5_isWritable 32 = .ok (.iconst 1, 1) := by decide +kernel
theorem dX5_isWritable_33 : decode cX5_isWritable 33 = .ok (.ireturn, 1) := by decide +kernel
theorem dX5_partsOfKind_0 : decode cX5_partsOfKind 0 = .ok (.iload_n 1, 1) := by decide +kernel
theorem dX5_partsOfKind_1 : decode cX5_partsOfKind 1 = .ok (.tableswitch 37 1 3 #[27, 30, 35], 27) := by decide +kernel
theorem dX5_partsOfKind_28 : decode cX5_partsOfKind 28 = .ok (.bipush 12, 2) := by decide +kernel
theorem dX5_partsOfKind_30 : decode cX5_partsOfKind 30 = .ok (.ireturn, 1) := by decide +kernel
theorem dX5_partsOfKind_31 : decode cX5_partsOfKind 31 = .ok (.aload_n 0, 1) := by decide +kernel
theorem dX5_partsOfKind_32 : decode cX5_partsOfKind 32 = .ok (.getfield 24, 3) := by decide +kernel
theorem dX5_partsOfKind_35 : decode cX5_partsOfKind 35 = .ok (.ireturn, 1) := by decide +kernel
theorem dX5_partsOfKind_36 : decode cX5_partsOfKind 36 = .ok (.iconst 2, 1) := by decide +kernel
theorem dX5_partsOfKind_37 : decode cX5_partsOfKind 37 = .ok (.ireturn, 1) := by decide +kernel
theorem dX5_partsOfKind_38 : decode cX5_partsOfKind 38 = .ok (.iconst 0, 1) := by decide +kernel
theorem dX5_partsOfKind_39 : decode cX5_partsOfKind 39 = .ok (.ireturn, 1) := by decide +kernel
theorem dX6_init_0 : decode cX6_init 0 = .ok (.aload_n 0, 1) := by decide +kernel
theorem dX6_init_1 : decode cX6_init 1 = .ok (.invokespecial 1, 3) := by decide +kernel
theorem dX6_init_4 : decode cX6_init 4 = .ok (.aload_n 0, 1) := by decide +kernel
theorem dX6_init_5 : decode cX6_init 5 = .ok (.bipush 19, 2) := by decide +kernel
theorem dX6_init_7 : decode cX6_init 7 = .ok (.newarray .long, 2) := by decide +kernel
theorem dX6_init_9 : decode cX6_init 9 = .ok (.putfield 9, 3) := by decide +kernel
theorem dX6_init_12 : decode cX6_init 12 = .ok (.aload_n 0, 1) := by decide +kernel
theorem dX6_init_13 : decode cX6_init 13 = .ok (.iload_n 1, 1) := by decide +kernel
theorem dX6_init_14 : decode cX6_init 14 = .ok (.ifCond .eq 9, 3) := by decide +kernel
theorem dX6_init_17 : decode cX6_init 17 = .ok (.sipush 1200, 3) := by decide +kernel
theorem dX6_init_20 : decode cX6_init 20 = .ok (.goto 4, 3) := by decide +kernel
theorem dX6_init_23 : decode cX6_init 23 = .ok (.iconst 0, 1) := by decide +kernel
theorem dX6_init_24 : decode cX6_init 24 = .ok (.newarray .int, 2) := by decide +kernel
theorem dX6_init_26 : decode cX6_init 26 = .ok (.putfield 13, 3) := by decide +kernel
theorem dX6_init_29 : decode cX6_init 29 = .ok (.return_, 1) := by decide +kernel
theorem dX6_hasPlace_0 : decode cX6_hasPlace 0 = .ok (.iload_n 0, 1) := by decide +kernel
theorem dX6_hasPlace_1 : decode cX6_hasPlace 1 = .ok (.ifCond .lt 23, 3) := by decide +kernel
theorem dX6_hasPlace_4 : decode cX6_hasPlace 4 = .ok (.iload_n 0, 1) := by decide +kernel
theorem dX6_hasPlace_5 : decode cX6_hasPlace 5 = .ok (.bipush 120, 2) := by decide +kernel
theorem dX6_hasPlace_7 : decode cX6_hasPlace 7 = .ok (.if_icmp .ge 17, 3) := by decide +kernel
theorem dX6_hasPlace_10 : decode cX6_hasPlace 10 = .ok (.iload_n 1, 1) := by decide +kernel
theorem dX6_hasPlace_11 : decode cX6_hasPlace 11 = .ok (.ifCond .lt 13, 3) := by decide +kernel
theorem dX6_hasPlace_14 : decode cX6_hasPlace 14 = .ok (.iload_n 1, 1) := by decide +kernel
theorem dX6_hasPlace_15 : decode cX6_hasPlace 15 = .ok (.bipush 10, 2) := by decide +kernel
theorem dX6_hasPlace_17 : decode cX6_hasPlace 17 = .ok (.if_icmp .ge 7, 3) := by decide +kernel
theorem dX6_hasPlace_20 : decode cX6_hasPlace 20 = .ok (.iconst 1, 1) := by decide +kernel
theorem dX6_hasPlace_21 : decode cX6_hasPlace 21 = .ok (.goto 4, 3) := by decide +kernel
theorem dX6_hasPlace_24 : decode cX6_hasPlace 24 = .ok (.iconst 0, 1) := by decide +kernel
theorem dX6_hasPlace_25 : decode cX6_hasPlace 25 = .ok (.ireturn, 1) := by decide +kernel
set_option maxRecDepth 20000 in
theorem ggX6_clear_J7_fill_d0a16 : GoodIn wsX6_clear wsJ7_fill_d0a16 := goodIn_r _ [5] (by decide +kernel) (by decide +kernel)
set_option maxRecDepth 20000 in
theorem gX6_clear_J7_fill_d0a16 : GoodIn wsX6_clear (va_wsS RX6 17 yJ7_fill_d0a16 wsJ7_fill_d0a16) := goodIn_app (goodIn_of _ (by decide +kernel)) ggX6_clear_J7_fill_d0a16
theorem dX6_clear_0 : decode cX6_clear 0 = .ok (.aload_n 0, 1) := by decide +kernel
theorem dX6_clear_1 : decode cX6_clear 1 = .ok (.getfield 9, 3) := by decide +kernel
theorem dX6_clear_4 : decode cX6_clear 4 = .ok (.lconst 0, 1) := by decide +kernel
theorem dX6_clear_5 : decode cX6_clear 5 = .ok (.invokestatic 17, 3) := by decide +kernel
theorem dX6_clear_8 : decode cX6_clear 8 = .ok (.return_, 1) := by decide +kernel
theorem dX6_isMarked_0 : decode cX6_isMarked 0 = .ok (.iload_n 2, 1) := by decide +kernel
theorem dX6_isMarked_1 : decode cX6_isMarked 1 = .ok (.bipush 120, 2) := by decide +kernel
theorem dX6_isMarked_3 : decode cX6_isMarked 3 = .ok (.imul, 1) := by decide +kernel
theorem dX6_isMarked_4 : decode cX6_isMarked 4 = .ok (.iload_n 1, 1) := by decide +kernel
theorem dX6_isMarked_5 : decode cX6_isMarked 5 = .ok (.iadd, 1) := by decide +kernel
theorem dX6_isMarked_6 : decode cX6_isMarked 6 = .ok (.istore_n 3, 1) := by decide +kernel
theorem dX6_isMarked_7 : decode cX6_isMarked 7 = .ok (.aload_n 0, 1) := by decide +kernel
theorem dX6_isMarked_8 : decode cX6_isMarked 8 = .ok (.getfield 9, 3) := by decide +kernel
theorem dX6_isMarked_11 : decode cX6_isMarked 11 = .ok (.iload_n 3, 1) := by decide +kernel
theorem dX6_isMarked_12 : decode cX6_isMarked 12 = .ok (.bipush 6, 2) := by decide +kernel
theorem dX6_isMarked_14 : decode cX6_isMarked 14 = .ok (.ishr, 1) := by decide +kernel
theorem dX6_isMarked_15 : decode cX6_isMarked 15 = .ok (.laload, 1) := by decide +kernel
theorem dX6_isMarked_16 : decode cX6_isMarked 16 = .ok (.iload_n 3, 1) := by decide +kernel
theorem dX6_isMarked_17 : decode cX6_isMarked 17 = .ok (.bipush 63, 2) := by decide +kernel
theorem dX6_isMarked_19 : decode cX6_isMarked 19 = .ok (.iand, 1) := by decide +kernel
theorem dX6_isMarked_20 : decode cX6_isMarked 20 = .ok (.lushr, 1) := by decide +kernel
theorem dX6_isMarked_21 : decode cX6_isMarked 21 = .ok (.lconst 1, 1) := by decide +kernel
theorem dX6_isMarked_22 : decode cX6_isMarked 22 = .ok (.land, 1) := by decide +kernel
theorem dX6_isMarked_23 : decode cX6_isMarked 23 = .ok (.lconst 0, 1) := by decide +kernel
theorem dX6_isMarked_24 : decode cX6_isMarked 24 = .ok (.lcmp, 1) := by decide +kernel
theorem dX6_isMarked_25 : decode cX6_isMarked 25 = .ok (.ifCond .eq 7, 3) := by decide +kernel
theorem dX6_isMarked_28 : decode cX6_isMarked 28 = .ok (.iconst 1, 1) := by decide +kernel
theorem dX6_isMarked_29 : decode cX6_isMarked 29 = .ok (.goto 4, 3) := by decide +kernel
theorem dX6_isMarked_32 : decode cX6_isMarked 32 = .ok (.iconst 0, 1) := by decide +kernel
theorem dX6_isMarked_33 : decode cX6_isMarked 33 = .ok (.ireturn, 1) := by decide +kernel
set_option maxRecDepth 20000 in
theorem ggX6_put_X6_hasPlace : GoodIn wsX6_put wsX6_hasPlace := goodIn_r _ [6] (by decide +kernel) (by decide +kernel)
set_option maxRecDepth 20000 in
theorem gX6_put_X6_hasPlace : GoodIn wsX6_put (va_wsS RX6 23 yX6_hasPlace wsX6_hasPlace) := goodIn_app (goodIn_of _ (by decide +kernel)) ggX6_put_X6_hasPlace
set_option maxRecDepth 20000 in
theorem ggX6_put_X6_isMarked : GoodIn wsX6_put wsX6_isMarked := goodIn_r _ [10, 1, 11, 12] (by decide +kernel) (by decide +kernel)
set_option maxRecDepth 20000 in
theorem gX6_put_X6_isMarked : GoodIn wsX6_put (wsV RX6 27 RX6 yX6_isMarked wsX6_isMarked) := goodIn_app (goodIn_of _ (by decide +kernel)) ggX6_put_X6_isMarked
theorem dX6_put_0 : decode cX6_put 0 = .ok (.iload_n 1, 1) := by decide +kernel
theorem dX6_put_1 : decode cX6_put 1 = .ok (.iload_n 2, 1) := by decide +kernel
theorem dX6_put_2 : decode cX6_put 2 = .ok (.invokestatic 23, 3) := by decide +kernel
theorem dX6_put_5 : decode cX6_put 5 = .ok (.ifCond .eq 12, 3) := by decide +kernel
theorem dX6_put_8 : decode cX6_put 8 = .ok (.aload_n 0, 1) := by decide +kernel
theorem dX6_put_9 : decode cX6_put 9 = .ok (.iload_n 1, 1) := by decide +kernel
theorem dX6_put_10 : decode cX6_put 10 = .ok (.iload_n 2, 1) := by decide +kernel
theorem dX6_put_11 : decode cX6_put 11 = .ok (.invokevirtual 27, 3) := by decide +kernel
theorem dX6_put_14 : decode cX6_put 14 = .ok (.ifCond .eq 4, 3) := by decide +kernel
theorem dX6_put_17 : decode cX6_put 17 = .ok (.return_, 1) := by decide +kernel
theorem dX6_put_18 : decode cX6_put 18 = .ok (.iload_n 2, 1) := by decide +kernel
theorem dX6_put_19 : decode cX6_put 19 = .ok (.bipush 120, 2) := by decide +kernel
theorem dX6_put_21 : decode cX6_put 21 = .ok (.imul, 1) := by decide +kernel
theorem dX6_put_22 : decode cX6_put 22 = .ok (.iload_n 1, 1) := by decide +kernel
theorem dX6_put_23 : decode cX6_put 23 = .ok (.iadd, 1) := by decide +kernel
theorem dX6_put_24 : decode cX6_put 24 = .ok (.istore 5, 2) := by decide +kernel
theorem dX6_put_26 : decode cX6_put 26 = .ok (.aload_n 0, 1) := by decide +kernel
theorem dX6_put_27 : decode cX6_put 27 = .ok (.getfield 9, 3) := by decide +kernel
theorem dX6_put_30 : decode cX6_put 30 = .ok (.iload 5, 2) := by decide +kernel
theorem dX6_put_32 : decode cX6_put 32 = .ok (.bipush 6, 2) := by decide +kernel
theorem dX6_put_34 : decode cX6_put 34 = .ok (.ishr, 1) := by decide +kernel
theorem dX6_put_35 : decode cX6_put 35 = .ok (.dup2, 1) := by decide +kernel
theorem dX6_put_36 : decode cX6_put 36 = .ok (.laload, 1) := by decide +kernel
theorem dX6_put_37 : decode cX6_put 37 = .ok (.lconst 1, 1) := by decide +kernel
theorem dX6_put_38 : decode cX6_put 38 = .ok (.iload 5, 2) := by decide +kernel
theorem dX6_put_40 : decode cX6_put 40 = .ok (.bipush 63, 2) := by decide +kernel
theorem dX6_put_42 : decode cX6_put 42 = .ok (.iand, 1) := by decide +kernel
theorem dX6_put_43 : decode cX6_put 43 = .ok (.lshl, 1) := by decide +kernel
theorem dX6_put_44 : decode cX6_put 44 = .ok (.lor, 1) := by decide +kernel
theorem dX6_put_45 : decode cX6_put 45 = .ok (.lastore, 1) := by decide +kernel
theorem dX6_put_46 : decode cX6_put 46 = .ok (.iload 5, 2) := by decide +kernel
theorem dX6_put_48 : decode cX6_put 48 = .ok (.aload_n 0, 1) := by decide +kernel
theorem dX6_put_49 : decode cX6_put 49 = .ok (.getfield 13, 3) := by decide +kernel
theorem dX6_put_52 : decode cX6_put 52 = .ok (.arraylength, 1) := by decide +kernel
theorem dX6_put_53 : decode cX6_put 53 = .ok (.if_icmp .ge 17, 3) := by decide +kernel
theorem dX6_put_56 : decode cX6_put 56 = .ok (.aload_n 0, 1) := by decide +kernel
theorem dX6_put_57 : decode cX6_put 57 = .ok (.getfield 13, 3) := by decide +kernel
theorem dX6_put_60 : decode cX6_put 60 = .ok (.iload 5, 2) := by decide +kernel
theorem dX6_put_62 : decode cX6_put 62 = .ok (.iload_n 3, 1) := by decide +kernel
theorem dX6_put_63 : decode cX6_put 63 = .ok (.bipush 100, 2) := by decide +kernel
theorem dX6_put_65 : decode cX6_put 65 = .ok (.imul, 1) := by decide +kernel
theorem dX6_put_66 : decode cX6_put 66 = .ok (.iload 4, 2) := by decide +kernel
theorem dX6_put_68 : decode cX6_put 68 = .ok (.iadd, 1) := by decide +kernel
theorem dX6_put_69 : decode cX6_put 69 = .ok (.iastore, 1) := by decide +kernel
theorem dX6_put_70 : decode cX6_put 70 = .ok (.return_, 1) := by decide +kernel
theorem dX6_wipe_0 : decode cX6_wipe 0 = .ok (.iload_n 2, 1) := by decide +kernel
theorem dX6_wipe_1 : decode cX6_wipe 1 = .ok (.bipush 120, 2) := by decide +kernel
theorem dX6_wipe_3 : decode cX6_wipe 3 = .ok (.imul, 1) := by decide +kernel
theorem dX6_wipe_4 : decode cX6_wipe 4 = .ok (.iload_n 1, 1) := by decide +kernel
theorem dX6_wipe_5 : decode cX6_wipe 5 = .ok (.iadd, 1) := by decide +kernel
theorem dX6_wipe_6 : decode cX6_wipe 6 = .ok (.istore_n 3, 1) := by decide +kernel
theorem dX6_wipe_7 : decode cX6_wipe 7 = .ok (.aload_n 0, 1) := by decide +kernel
theorem dX6_wipe_8 : decode cX6_wipe 8 = .ok (.getfield 9, 3) := by decide +kernel
theorem dX6_wipe_11 : decode cX6_wipe 11 = .ok (.iload_n 3, 1) := by decide +kernel
theorem dX6_wipe_12 : decode cX6_wipe 12 = .ok (.bipush 6, 2) := by decide +kernel
theorem dX6_wipe_14 : decode cX6_wipe 14 = .ok (.ishr, 1) := by decide +kernel
theorem dX6_wipe_15 : decode cX6_wipe 15 = .ok (.dup2, 1) := by decide +kernel
theorem dX6_wipe_16 : decode cX6_wipe 16 = .ok (.laload, 1) := by decide +kernel
theorem dX6_wipe_17 : decode cX6_wipe 17 = .ok (.lconst 1, 1) := by decide +kernel
theorem dX6_wipe_18 : decode cX6_wipe 18 = .ok (.iload_n 3, 1) := by decide +kernel
theorem dX6_wipe_19 : decode cX6_wipe 19 = .ok (.bipush 63, 2) := by decide +kernel
theorem dX6_wipe_21 : decode cX6_wipe 21 = .ok (.iand, 1) := by decide +kernel
theorem dX6_wipe_22 : decode cX6_wipe 22 = .ok (.lshl, 1) := by decide +kernel
theorem dX6_wipe_23 : decode cX6_wipe 23 = .ok (.ldc2_w 30, 3) := by decide +kernel
theorem dX6_wipe_26 : decode cX6_wipe 26 = .ok (.lxor, 1) := by decide +kernel
theorem dX6_wipe_27 : decode cX6_wipe 27 = .ok (.land, 1) := by decide +kernel
theorem dX6_wipe_28 : decode cX6_wipe 28 = .ok (.lastore, 1) := by decide +kernel
theorem dX6_wipe_29 : decode cX6_wipe 29 = .ok (.return_, 1) := by decide +kernel
set_option maxRecDepth 20000 in
theorem ggX6_pegThatMarked_X6_firstCode : GoodIn wsX6_pegThatMarked wsX6_firstCode := goodIn_r _ [5, 6, 7, 8] (by decide +kernel) (by decide +kernel)
set_option maxRecDepth 20000 in
theorem gX6_pegThatMarked_X6_firstCode : GoodIn wsX6_pegThatMarked (wsV RX6 32 RX6 yX6_firstCode wsX6_firstCode) := goodIn_app (goodIn_of _ (by decide +kernel)) ggX6_pegThatMarked_X6_firstCode
theorem dX6_pegThatMarked_0 : decode cX6_pegThatMarked 0 = .ok (.aload_n 0, 1) := by decide +kernel
theorem dX6_pegThatMarked_1 : decode cX6_pegThatMarked 1 = .ok (.iload_n 1, 1) := by decide +kernel
theorem dX6_pegThatMarked_2 : decode cX6_pegThatMarked 2 = .ok (.iload_n 2, 1) := by decide +kernel
theorem dX6_pegThatMarked_3 : decode cX6_pegThatMarked 3 = .ok (.invokevirtual 32, 3) := by decide +kernel
theorem dX6_pegThatMarked_6 : decode cX6_pegThatMarked 6 = .ok (.bipush 100, 2) := by decide +kernel
theorem dX6_pegThatMarked_8 : decode cX6_pegThatMarked 8 = .ok (.idiv, 1) := by decide +kernel
theorem dX6_pegThatMarked_9 : decode cX6_pegThatMarked 9 = .ok (.ireturn, 1) := by decide +kernel
set_option maxRecDepth 20000 in
theorem ggX6_stepThatMarked_X6_firstCode : GoodIn wsX6_stepThatMarked wsX6_firstCode := goodIn_r _ [5, 6, 7, 8] (by decide +kernel) (by decide +kernel)
set_option maxRecDepth 20000 in
theorem gX6_stepThatMarked_X6_firstCode : GoodIn wsX6_stepThatMarked (wsV RX6 32 RX6 yX6_firstCode wsX6_firstCode) := goodIn_app (goodIn_of _ (by decide +kernel)) ggX6_stepThatMarked_X6_firstCode
theorem dX6_stepThatMarked_0 : decode cX6_stepThatMarked 0 = .ok (.aload_n 0, 1) := by decide +kernel
theorem dX6_stepThatMarked_1 : decode cX6_stepThatMarked 1 = .ok (.iload_n 1, 1) := by decide +kernel
theorem dX6_stepThatMarked_2 : decode cX6_stepThatMarked 2 = .ok (.iload_n 2, 1) := by decide +kernel
theorem dX6_stepThatMarked_3 : decode cX6_stepThatMarked 3 = .ok (.invokevirtual 32, 3) := by decide +kernel
theorem dX6_stepThatMarked_6 : decode cX6_stepThatMarked 6 = .ok (.bipush 100, 2) := by decide +kernel
theorem dX6_stepThatMarked_8 : decode cX6_stepThatMarked 8 = .ok (.irem, 1) := by decide +kernel
theorem dX6_stepThatMarked_9 : decode cX6_stepThatMarked 9 = .ok (.ireturn, 1) := by decide +kernel
theorem dX6_firstCode_0 : decode cX6_firstCode 0 = .ok (.iload_n 2, 1) := by decide +kernel
theorem dX6_firstCode_1 : decode cX6_firstCode 1 = .ok (.bipush 120, 2) := by decide +kernel
theorem dX6_firstCode_3 : decode cX6_firstCode 3 = .ok (.imul, 1) := by decide +kernel
theorem dX6_firstCode_4 : decode cX6_firstCode 4 = .ok (.iload_n 1, 1) := by decide +kernel
theorem dX6_firstCode_5 : decode cX6_firstCode 5 = .ok (.iadd, 1) := by decide +kernel
theorem dX6_firstCode_6 : decode cX6_firstCode 6 = .ok (.istore_n 3, 1) := by decide +kernel
theorem dX6_firstCode_7 : decode cX6_firstCode 7 = .ok (.iload_n 3, 1) := by decide +kernel
theorem dX6_firstCode_8 : decode cX6_firstCode 8 = .ok (.aload_n 0, 1) := by decide +kernel
theorem dX6_firstCode_9 : decode cX6_firstCode 9 = .ok (.getfield 13, 3) := by decide +kernel
theorem dX6_firstCode_12 : decode cX6_firstCode 12 = .ok (.arraylength, 1) := by decide +kernel
theorem dX6_firstCode_13 : decode cX6_firstCode 13 = .ok (.if_icmp .ge 12, 3) := by decide +kernel
theorem dX6_firstCode_16 : decode cX6_firstCode 16 = .ok (.aload_n 0, 1) := by decide +kernel
theorem dX6_firstCode_17 : decode cX6_firstCode 17 = .ok (.getfield 13, 3) := by decide +kernel
theorem dX6_firstCode_20 : decode cX6_firstCode 20 = .ok (.iload_n 3, 1) := by decide +kernel
theorem dX6_firstCode_21 : decode cX6_firstCode 21 = .ok (.iaload, 1) := by decide +kernel
theorem dX6_firstCode_22 : decode cX6_firstCode 22 = .ok (.goto 4, 3) := by decide +kernel
theorem dX6_firstCode_25 : decode cX6_firstCode 25 = .ok (.iconst 0, 1) := by decide +kernel
theorem dX6_firstCode_26 : decode cX6_firstCode 26 = .ok (.ireturn, 1) := by decide +kernel
set_option maxRecDepth 20000 in
theorem ggX6_size_J13_bitCount_95d88 : GoodIn wsX6_size wsJ13_bitCount_95d88 := goodIn_r _ [5, 6, 7, 8] (by decide +kernel) (by decide +kernel)
set_option maxRecDepth 20000 in
theorem gX6_size_J13_bitCount_95d88 : GoodIn wsX6_size (va_wsS RX6 36 yJ13_bitCount_95d88 wsJ13_bitCount_95d88) := goodIn_app (goodIn_of _ (by decide +kernel)) ggX6_size_J13_bitCount_95d88
theorem dX6_size_0 : decode cX6_size 0 = .ok (.iconst 0, 1) := by decide +kernel
theorem dX6_size_1 : decode cX6_size 1 = .ok (.istore_n 1, 1) := by decide +kernel
theorem dX6_size_2 : decode cX6_size 2 = .ok (.iconst 0, 1) := by decide +kernel
theorem dX6_size_3 : decode cX6_size 3 = .ok (.istore_n 2, 1) := by decide +kernel
theorem dX6_size_4 : decode cX6_size 4 = .ok (.iload_n 2, 1) := by decide +kernel
theorem dX6_size_5 : decode cX6_size 5 = .ok (.bipush 19, 2) := by decide +kernel
theorem dX6_size_7 : decode cX6_size 7 = .ok (.if_icmp .ge 21, 3) := by decide +kernel
theorem dX6_size_10 : decode cX6_size 10 = .ok (.iload_n 1, 1) := by decide +kernel
theorem dX6_size_11 : decode cX6_size 11 = .ok (.aload_n 0, 1) := by decide +kernel
theorem dX6_size_12 : decode cX6_size 12 = .ok (.getfield 9, 3) := by decide +kernel
theorem dX6_size_15 : decode cX6_size 15 = .ok (.iload_n 2, 1) := by decide +kernel
theorem dX6_size_16 : decode cX6_size 16 = .ok (.laload, 1) := by decide +kernel
theorem dX6_size_17 : decode cX6_size 17 = .ok (.invokestatic 36, 3) := by decide +kernel
theorem dX6_size_20 : decode cX6_size 20 = .ok (.iadd, 1) := by decide +kernel
theorem dX6_size_21 : decode cX6_size 21 = .ok (.istore_n 1, 1) := by decide +kernel
theorem dX6_size_22 : decode cX6_size 22 = .ok (.iinc 2 1, 3) := by decide +kernel
theorem dX6_size_25 : decode cX6_size 25 = .ok (.goto (-21), 3) := by decide +kernel
theorem dX6_size_28 : decode cX6_size 28 = .ok (.iload_n 1, 1) := by decide +kernel
theorem dX6_size_29 : decode cX6_size 29 = .ok (.ireturn, 1) := by decide +kernel
theorem dX6_isWithin_0 : decode cX6_isWithin 0 = .ok (.iconst 0, 1) := by decide +kernel
theorem dX6_isWithin_1 : decode cX6_isWithin 1 = .ok (.istore_n 2, 1) := by decide +kernel
theorem dX6_isWithin_2 : decode cX6_isWithin 2 = .ok (.iload_n 2, 1) := by decide +kernel
theorem dX6_isWithin_3 : decode cX6_isWithin 3 = .ok (.bipush 19, 2) := by decide +kernel
theorem dX6_isWithin_5 : decode cX6_isWithin 5 = .ok (.if_icmp .ge 33, 3) := by decide +kernel
theorem dX6_isWithin_8 : decode cX6_isWithin 8 = .ok (.aload_n 0, 1) := by decide +kernel
theorem dX6_isWithin_9 : decode cX6_isWithin 9 = .ok (.getfield 9, 3) := by decide +kernel
theorem dX6_isWithin_12 : decode cX6_isWithin 12 = .ok (.iload_n 2, 1) := by decide +kernel
theorem dX6_isWithin_13 : decode cX6_isWithin 13 = .ok (.laload, 1) := by decide +kernel
theorem dX6_isWithin_14 : decode cX6_isWithin 14 = .ok (.aload_n 1, 1) := by decide +kernel
theorem dX6_isWithin_15 : decode cX6_isWithin 15 = .ok (.getfield 9, 3) := by decide +kernel
theorem dX6_isWithin_18 : decode cX6_isWithin 18 = .ok (.iload_n 2, 1) := by decide +kernel
theorem dX6_isWithin_19 : decode cX6_isWithin 19 = .ok (.laload, 1) := by decide +kernel
theorem dX6_isWithin_20 : decode cX6_isWithin 20 = .ok (.ldc2_w 30, 3) := by decide +kernel
theorem dX6_isWithin_23 : decode cX6_isWithin 23 = .ok (.lxor, 1) := by decide +kernel
theorem dX6_isWithin_24 : decode cX6_isWithin 24 = .ok (.land, 1) := by decide +kernel
theorem dX6_isWithin_25 : decode cX6_isWithin 25 = .ok (.lconst 0, 1) := by decide +kernel
theorem dX6_isWithin_26 : decode cX6_isWithin 26 = .ok (.lcmp, 1) := by decide +kernel
theorem dX6_isWithin_27 : decode cX6_isWithin 27 = .ok (.ifCond .eq 5, 3) := by decide +kernel
theorem dX6_isWithin_30 : decode cX6_isWithin 30 = .ok (.iconst 0, 1) := by decide +kernel
theorem dX6_isWithin_31 : decode cX6_isWithin 31 = .ok (.ireturn, 1) := by decide +kernel
theorem dX6_isWithin_32 : decode cX6_isWithin 32 = .ok (.iinc 2 1, 3) := by decide +kernel
theorem dX6_isWithin_35 : decode cX6_isWithin 35 = .ok (.goto (-33), 3) := by decide +kernel
theorem dX6_isWithin_38 : decode cX6_isWithin 38 = .ok (.iconst 1, 1) := by decide +kernel
theorem dX6_isWithin_39 : decode cX6_isWithin 39 = .ok (.ireturn, 1) := by decide +kernel
theorem dX7_init_0 : decode cX7_init 0 = .ok (.aload_n 0, 1) := by decide +kernel
theorem dX7_init_1 : decode cX7_init 1 = .ok (.invokespecial 1, 3) := by decide +kernel
theorem dX7_init_4 : decode cX7_init 4 = .ok (.aload_n 0, 1) := by decide +kernel
theorem dX7_init_5 : decode cX7_init 5 = .ok (.iconst 0, 1) := by decide +kernel
theorem dX7_init_6 : decode cX7_init 6 = .ok (.putfield 7, 3) := by decide +kernel
theorem dX7_init_9 : decode cX7_init 9 = .ok (.aload_n 0, 1) := by decide +kernel
theorem dX7_init_10 : decode cX7_init 10 = .ok (.iconst 2, 1) := by decide +kernel
theorem dX7_init_11 : decode cX7_init 11 = .ok (.putfield 13, 3) := by decide +kernel
theorem dX7_init_14 : decode cX7_init 14 = .ok (.aload_n 0, 1) := by decide +kernel
theorem dX7_init_15 : decode cX7_init 15 = .ok (.iconst 0, 1) := by decide +kernel
theorem dX7_init_16 : decode cX7_init 16 = .ok (.putfield 16, 3) := by decide +kernel
theorem dX7_init_19 : decode cX7_init 19 = .ok (.aload_n 0, 1) := by decide +kernel
theorem dX7_init_20 : decode cX7_init 20 = .ok (.iconst 0, 1) := by decide +kernel
theorem dX7_init_21 : decode cX7_init 21 = .ok (.putfield 19, 3) := by decide +kernel
theorem dX7_init_24 : decode cX7_init 24 = .ok (.aload_n 0, 1) := by decide +kernel
theorem dX7_init_25 : decode cX7_init 25 = .ok (.iconst 0, 1) := by decide +kernel
theorem dX7_init_26 : decode cX7_init 26 = .ok (.putfield 22, 3) := by decide +kernel
theorem dX7_init_29 : decode cX7_init 29 = .ok (.return_, 1) := by decide +kernel
theorem dX7_power_0 : decode cX7_power 0 = .ok (.aload_n 0, 1) := by decide +kernel
theorem dX7_power_1 : decode cX7_power 1 = .ok (.getfield 7, 3) := by decide +kernel
theorem dX7_power_4 : decode cX7_power 4 = .ok (.ireturn, 1) := by decide +kernel
theorem dX7_load_0 : decode cX7_load 0 = .ok (.aload_n 0, 1) := by decide +kernel
theorem dX7_load_1 : decode cX7_load 1 = .ok (.getfield 13, 3) := by decide +kernel
theorem dX7_load_4 : decode cX7_load 4 = .ok (.ireturn, 1) := by decide +kernel
theorem dX7_setLoad_0 : decode cX7_setLoad 0 = .ok (.aload_n 0, 1) := by decide +kernel
theorem dX7_setLoad_1 : decode cX7_setLoad 1 = .ok (.iload_n 1, 1) := by decide +kernel
theorem dX7_setLoad_2 : decode cX7_setLoad 2 = .ok (.putfield 13, 3) := by decide +kernel
theorem dX7_setLoad_5 : decode cX7_setLoad 5 = .ok (.return_, 1) := by decide +kernel
theorem dX7_strain_0 : decode cX7_strain 0 = .ok (.aload_n 0, 1) := by decide +kernel
theorem dX7_strain_1 : decode cX7_strain 1 = .ok (.getfield 16, 3) := by decide +kernel
theorem dX7_strain_4 : decode cX7_strain 4 = .ok (.ireturn, 1) := by decide +kernel
theorem dX7_ticks_0 : decode cX7_ticks 0 = .ok (.aload_n 0, 1) := by decide +kernel
theorem dX7_ticks_1 : decode cX7_ticks 1 = .ok (.getfield 19, 3) := by decide +kernel
theorem dX7_ticks_4 : decode cX7_ticks 4 = .ok (.ireturn, 1) := by decide +kernel
theorem dX7_steps_0 : decode cX7_steps 0 = .ok (.aload_n 0, 1) := by decide +kernel
theorem dX7_steps_1 : decode cX7_steps 1 = .ok (.getfield 22, 3) := by decide +kernel
theorem dX7_steps_4 : decode cX7_steps 4 = .ok (.ireturn, 1) := by decide +kernel
theorem dX7_wear_0 : decode cX7_wear 0 = .ok (.bipush 20, 2) := by decide +kernel
theorem dX7_wear_2 : decode cX7_wear 2 = .ok (.aload_n 0, 1) := by decide +kernel
theorem dX7_wear_3 : decode cX7_wear 3 = .ok (.getfield 22, 3) := by decide +kernel
theorem dX7_wear_6 : decode cX7_wear 6 = .ok (.bipush 100, 2) := by decide +kernel
theorem dX7_wear_8 : decode cX7_wear 8 = .ok (.idiv, 1) := by decide +kernel
theorem dX7_wear_9 : decode cX7_wear 9 = .ok (.invokestatic 25, 3) := by decide +kernel
theorem dX7_wear_12 : decode cX7_wear 12 = .ok (.ireturn, 1) := by decide +kernel
theorem dX7_tighten_0 : decode cX7_tighten 0 = .ok (.aload_n 0, 1) := by decide +kernel
theorem dX7_tighten_1 : decode cX7_tighten 1 = .ok (.dup, 1) := by decide +kernel
theorem dX7_tighten_2 : decode cX7_tighten 2 = .ok (.getfield 7, 3) := by decide +kernel
theorem dX7_tighten_5 : decode cX7_tighten 5 = .ok (.iload_n 1, 1) := by decide +kernel
theorem dX7_tighten_6 : decode cX7_tighten 6 = .ok (.iadd, 1) := by decide +kernel
theorem dX7_tighten_7 : decode cX7_tighten 7 = .ok (.putfield 7, 3) := by decide +kernel
theorem dX7_tighten_10 : decode cX7_tighten 10 = .ok (.aload_n 0, 1) := by decide +kernel
theorem dX7_tighten_11 : decode cX7_tighten 11 = .ok (.getfield 7, 3) := by decide +kernel
end
section
theorem dX7_tighten_14 : decode cX7_tighten 14 = .ok (.sipush 1000, 3) := by decide +kernel
theorem dX7_tighten_17 : decode cX7_tighten 17 = .ok (.if_icmp .le 20, 3) := by decide +kernel
theorem dX7_tighten_20 : decode cX7_tighten 20 = .ok (.aload_n 0, 1) := by decide +kernel
theorem dX7_tighten_21 : decode cX7_tighten 21 = .ok (.sipush 1000, 3) := by decide +kernel
theorem dX7_tighten_24 : decode cX7_tighten 24 = .ok (.putfield 7, 3) := by decide +kernel
theorem dX7_tighten_27 : decode cX7_tighten 27 = .ok (.aload_n 0, 1) := by decide +kernel
theorem dX7_tighten_28 : decode cX7_tighten 28 = .ok (.dup, 1) := by decide +kernel
theorem dX7_tighten_29 : decode cX7_tighten 29 = .ok (.getfield 16, 3) := by decide +kernel
theorem dX7_tighten_32 : decode cX7_tighten 32 = .ok (.iconst 1, 1) := by decide +kernel
theorem dX7_tighten_33 : decode cX7_tighten 33 = .ok (.iadd, 1) := by decide +kernel
theorem dX7_tighten_34 : decode cX7_tighten 34 = .ok (.putfield 16, 3) := by decide +kernel
theorem dX7_tighten_37 : decode cX7_tighten 37 = .ok (.return_, 1) := by decide +kernel
set_option maxRecDepth 20000 in
theorem ggX7_makeStep_X7_wear : GoodIn wsX7_makeStep wsX7_wear := goodIn_r _ [9, 4, 10, 11, 12, 13, 18, 19, 20, 21, 22] (by decide +kernel) (by decide +kernel)
set_option maxRecDepth 20000 in
theorem gX7_makeStep_X7_wear : GoodIn wsX7_makeStep (wsV RX7 31 RX7 yX7_wear wsX7_wear) := goodIn_app (goodIn_of _ (by decide +kernel)) ggX7_makeStep_X7_wear
set_option maxRecDepth 20000 in
theorem ggX7_makeStep_X7_ticksOfStep : GoodIn wsX7_makeStep wsX7_ticksOfStep := goodIn_r _ [17, 2, 18, 19, 20, 21, 22] (by decide +kernel) (by decide +kernel)
set_option maxRecDepth 20000 in
theorem gX7_makeStep_X7_ticksOfStep : GoodIn wsX7_makeStep (wsV RX7 35 RX7 yX7_ticksOfStep wsX7_ticksOfStep) := goodIn_app (goodIn_of _ (by decide +kernel)) ggX7_makeStep_X7_ticksOfStep
theorem dX7_makeStep_0 : decode cX7_makeStep 0 = .ok (.aload_n 0, 1) := by decide +kernel
theorem dX7_makeStep_1 : decode cX7_makeStep 1 = .ok (.getfield 13, 3) := by decide +kernel
theorem dX7_makeStep_4 : decode cX7_makeStep 4 = .ok (.aload_n 0, 1) := by decide +kernel
theorem dX7_makeStep_5 : decode cX7_makeStep 5 = .ok (.invokevirtual 31, 3) := by decide +kernel
theorem dX7_makeStep_8 : decode cX7_makeStep 8 = .ok (.iadd, 1) := by decide +kernel
theorem dX7_makeStep_9 : decode cX7_makeStep 9 = .ok (.istore_n 1, 1) := by decide +kernel
theorem dX7_makeStep_10 : decode cX7_makeStep 10 = .ok (.aload_n 0, 1) := by decide +kernel
theorem dX7_makeStep_11 : decode cX7_makeStep 11 = .ok (.getfield 7, 3) := by decide +kernel
theorem dX7_makeStep_14 : decode cX7_makeStep 14 = .ok (.iload_n 1, 1) := by decide +kernel
theorem dX7_makeStep_15 : decode cX7_makeStep 15 = .ok (.if_icmp .ge 5, 3) := by decide +kernel
theorem dX7_makeStep_18 : decode cX7_makeStep 18 = .ok (.iconst 0, 1) := by decide +kernel
theorem dX7_makeStep_19 : decode cX7_makeStep 19 = .ok (.ireturn, 1) := by decide +kernel
theorem dX7_makeStep_20 : decode cX7_makeStep 20 = .ok (.aload_n 0, 1) := by decide +kernel
theorem dX7_makeStep_21 : decode cX7_makeStep 21 = .ok (.dup, 1) := by decide +kernel
theorem dX7_makeStep_22 : decode cX7_makeStep 22 = .ok (.getfield 19, 3) := by decide +kernel
theorem dX7_makeStep_25 : decode cX7_makeStep 25 = .ok (.aload_n 0, 1) := by decide +kernel
theorem dX7_makeStep_26 : decode cX7_makeStep 26 = .ok (.invokevirtual 35, 3) := by decide +kernel
theorem dX7_makeStep_29 : decode cX7_makeStep 29 = .ok (.iadd, 1) := by decide +kernel
theorem dX7_makeStep_30 : decode cX7_makeStep 30 = .ok (.putfield 19, 3) := by decide +kernel
theorem dX7_makeStep_33 : decode cX7_makeStep 33 = .ok (.aload_n 0, 1) := by decide +kernel
theorem dX7_makeStep_34 : decode cX7_makeStep 34 = .ok (.dup, 1) := by decide +kernel
theorem dX7_makeStep_35 : decode cX7_makeStep 35 = .ok (.getfield 7, 3) := by decide +kernel
theorem dX7_makeStep_38 : decode cX7_makeStep 38 = .ok (.iload_n 1, 1) := by decide +kernel
theorem dX7_makeStep_39 : decode cX7_makeStep 39 = .ok (.isub, 1) := by decide +kernel
theorem dX7_makeStep_40 : decode cX7_makeStep 40 = .ok (.putfield 7, 3) := by decide +kernel
theorem dX7_makeStep_43 : decode cX7_makeStep 43 = .ok (.aload_n 0, 1) := by decide +kernel
theorem dX7_makeStep_44 : decode cX7_makeStep 44 = .ok (.dup, 1) := by decide +kernel
theorem dX7_makeStep_45 : decode cX7_makeStep 45 = .ok (.getfield 22, 3) := by decide +kernel
theorem dX7_makeStep_48 : decode cX7_makeStep 48 = .ok (.iconst 1, 1) := by decide +kernel
theorem dX7_makeStep_49 : decode cX7_makeStep 49 = .ok (.iadd, 1) := by decide +kernel
theorem dX7_makeStep_50 : decode cX7_makeStep 50 = .ok (.putfield 22, 3) := by decide +kernel
theorem dX7_makeStep_53 : decode cX7_makeStep 53 = .ok (.iconst 1, 1) := by decide +kernel
theorem dX7_makeStep_54 : decode cX7_makeStep 54 = .ok (.ireturn, 1) := by decide +kernel
theorem dX7_ticksOfStep_0 : decode cX7_ticksOfStep 0 = .ok (.aload_n 0, 1) := by decide +kernel
theorem dX7_ticksOfStep_1 : decode cX7_ticksOfStep 1 = .ok (.getfield 7, 3) := by decide +kernel
theorem dX7_ticksOfStep_4 : decode cX7_ticksOfStep 4 = .ok (.sipush 500, 3) := by decide +kernel
theorem dX7_ticksOfStep_7 : decode cX7_ticksOfStep 7 = .ok (.if_icmp .lt 5, 3) := by decide +kernel
theorem dX7_ticksOfStep_10 : decode cX7_ticksOfStep 10 = .ok (.iconst 1, 1) := by decide +kernel
theorem dX7_ticksOfStep_11 : decode cX7_ticksOfStep 11 = .ok (.ireturn, 1) := by decide +kernel
theorem dX7_ticksOfStep_12 : decode cX7_ticksOfStep 12 = .ok (.aload_n 0, 1) := by decide +kernel
theorem dX7_ticksOfStep_13 : decode cX7_ticksOfStep 13 = .ok (.getfield 7, 3) := by decide +kernel
theorem dX7_ticksOfStep_16 : decode cX7_ticksOfStep 16 = .ok (.sipush 200, 3) := by decide +kernel
theorem dX7_ticksOfStep_19 : decode cX7_ticksOfStep 19 = .ok (.if_icmp .lt 7, 3) := by decide +kernel
theorem dX7_ticksOfStep_22 : decode cX7_ticksOfStep 22 = .ok (.iconst 2, 1) := by decide +kernel
theorem dX7_ticksOfStep_23 : decode cX7_ticksOfStep 23 = .ok (.goto 4, 3) := by decide +kernel
theorem dX7_ticksOfStep_26 : decode cX7_ticksOfStep 26 = .ok (.iconst 4, 1) := by decide +kernel
theorem dX7_ticksOfStep_27 : decode cX7_ticksOfStep 27 = .ok (.ireturn, 1) := by decide +kernel
set_option maxRecDepth 20000 in
theorem ggX8_init_X0_init : GoodIn wsX8_init wsX0_init := goodIn_r _ [41, 42, 2, 3, 43, 36, 44, 45, 46, 47, 48, 106, 107, 108, 109] (by decide +kernel) (by decide +kernel)
set_option maxRecDepth 20000 in
theorem gX8_init_X0_init_n9 : GoodIn wsX8_init (wsX0_init) := ggX8_init_X0_init
set_option maxRecDepth 20000 in
theorem ggX8_init_X5_init : GoodIn wsX8_init wsX5_init := goodIn_r _ [50, 51, 2, 3, 36, 52, 53, 54, 55, 56, 57, 121, 122, 123, 124, 125, 126] (by decide +kernel) (by decide +kernel)
set_option maxRecDepth 20000 in
theorem gX8_init_X5_init_n18 : GoodIn wsX8_init (wsX5_init) := ggX8_init_X5_init
set_option maxRecDepth 20000 in
theorem ggX8_init_X7_init : GoodIn wsX8_init wsX7_init := goodIn_r _ [59, 60, 2, 3, 61, 62, 63, 64, 65, 127, 128, 129, 130, 131] (by decide +kernel) (by decide +kernel)
set_option maxRecDepth 20000 in
theorem gX8_init_X7_init_n25 : GoodIn wsX8_init (wsX7_init) := ggX8_init_X7_init
set_option maxRecDepth 20000 in
theorem ggX8_init_X6_init : GoodIn wsX8_init wsX6_init := goodIn_r _ [68, 69, 2, 3, 70, 71, 36, 72, 132, 133] (by decide +kernel) (by decide +kernel)
set_option maxRecDepth 20000 in
theorem gX8_init_X6_init : GoodIn wsX8_init (wsX6_init) := ggX8_init_X6_init
set_option maxRecDepth 20000 in
theorem ggX8_init_X1_init : GoodIn wsX8_init wsX1_init := goodIn_r _ [74, 75, 2, 3, 76, 77, 78, 134, 135, 136] (by decide +kernel) (by decide +kernel)
set_option maxRecDepth 20000 in
theorem gX8_init_X1_init_n41 : GoodIn wsX8_init (wsX1_init) := ggX8_init_X1_init
set_option maxRecDepth 20000 in
theorem ggX8_init_X3_init : GoodIn wsX8_init wsX3_init := goodIn_r _ [81, 82, 2, 3, 83, 84, 137, 138] (by decide +kernel) (by decide +kernel)
set_option maxRecDepth 20000 in
theorem gX8_init_X3_init : GoodIn wsX8_init (wsX3_init) := ggX8_init_X3_init
set_option maxRecDepth 20000 in
theorem ggX8_init_X2_init : GoodIn wsX8_init wsX2_init := goodIn_r _ [87, 88, 2, 3, 89, 21, 22, 90, 91, 17, 18, 92, 93, 94, 95, 96, 97, 73, 74, 75, 76, 77, 78, 98, 67, 68, 69, 70, 71, 36, 72, 134, 135, 136, 139, 140, 141, 142, 143, 144, 145, 132, 133] (by decide +kernel) (by decide +kernel)
set_option maxRecDepth 20000 in
theorem gX8_init_X2_init : GoodIn wsX8_init (wsX2_init) := ggX8_init_X2_init
set_option maxRecDepth 20000 in
theorem ggX8_init_X4_init : GoodIn wsX8_init wsX4_init := goodIn_r _ [100, 101, 2, 3, 102, 36, 103, 104, 105, 146, 147, 148] (by decide +kernel) (by decide +kernel)
set_option maxRecDepth 20000 in
theorem gX8_init_X4_init_n66 : GoodIn wsX8_init (wsX4_init) := ggX8_init_X4_init
theorem dX8_init_0 : decode cX8_init 0 = .ok (.aload_n 0, 1) := by decide +kernel
theorem dX8_init_1 : decode cX8_init 1 = .ok (.invokespecial 1, 3) := by decide +kernel
theorem dX8_init_4 : decode cX8_init 4 = .ok (.aload_n 0, 1) := by decide +kernel
theorem dX8_init_5 : decode cX8_init 5 = .ok (.new 7, 3) := by decide +kernel
theorem dX8_init_8 : decode cX8_init 8 = .ok (.dup, 1) := by decide +kernel
theorem dX8_init_9 : decode cX8_init 9 = .ok (.invokespecial 9, 3) := by decide +kernel
theorem dX8_init_12 : decode cX8_init 12 = .ok (.putfield 10, 3) := by decide +kernel
theorem dX8_init_15 : decode cX8_init 15 = .ok (.aload_n 0, 1) := by decide +kernel
theorem dX8_init_16 : decode cX8_init 16 = .ok (.new 16, 3) := by decide +kernel
theorem dX8_init_19 : decode cX8_init 19 = .ok (.dup, 1) := by decide +kernel
theorem dX8_init_20 : decode cX8_init 20 = .ok (.invokespecial 18, 3) := by decide +kernel
theorem dX8_init_23 : decode cX8_init 23 = .ok (.putfield 19, 3) := by decide +kernel
theorem dX8_init_26 : decode cX8_init 26 = .ok (.aload_n 0, 1) := by decide +kernel
theorem dX8_init_27 : decode cX8_init 27 = .ok (.new 23, 3) := by decide +kernel
theorem dX8_init_30 : decode cX8_init 30 = .ok (.dup, 1) := by decide +kernel
theorem dX8_init_31 : decode cX8_init 31 = .ok (.invokespecial 25, 3) := by decide +kernel
theorem dX8_init_34 : decode cX8_init 34 = .ok (.putfield 26, 3) := by decide +kernel
theorem dX8_init_37 : decode cX8_init 37 = .ok (.aload_n 0, 1) := by decide +kernel
theorem dX8_init_38 : decode cX8_init 38 = .ok (.new 30, 3) := by decide +kernel
theorem dX8_init_41 : decode cX8_init 41 = .ok (.dup, 1) := by decide +kernel
theorem dX8_init_42 : decode cX8_init 42 = .ok (.iconst 1, 1) := by decide +kernel
theorem dX8_init_43 : decode cX8_init 43 = .ok (.invokespecial 32, 3) := by decide +kernel
theorem dX8_init_46 : decode cX8_init 46 = .ok (.putfield 35, 3) := by decide +kernel
theorem dX8_init_49 : decode cX8_init 49 = .ok (.aload_n 0, 1) := by decide +kernel
theorem dX8_init_50 : decode cX8_init 50 = .ok (.new 39, 3) := by decide +kernel
theorem dX8_init_53 : decode cX8_init 53 = .ok (.dup, 1) := by decide +kernel
theorem dX8_init_54 : decode cX8_init 54 = .ok (.invokespecial 41, 3) := by decide +kernel
theorem dX8_init_57 : decode cX8_init 57 = .ok (.putfield 42, 3) := by decide +kernel
theorem dX8_init_60 : decode cX8_init 60 = .ok (.aload_n 0, 1) := by decide +kernel
theorem dX8_init_61 : decode cX8_init 61 = .ok (.new 46, 3) := by decide +kernel
theorem dX8_init_64 : decode cX8_init 64 = .ok (.dup, 1) := by decide +kernel
theorem dX8_init_65 : decode cX8_init 65 = .ok (.aload_n 0, 1) := by decide +kernel
theorem dX8_init_66 : decode cX8_init 66 = .ok (.getfield 10, 3) := by decide +kernel
theorem dX8_init_69 : decode cX8_init 69 = .ok (.aload_n 0, 1) := by decide +kernel
theorem dX8_init_70 : decode cX8_init 70 = .ok (.getfield 19, 3) := by decide +kernel
theorem dX8_init_73 : decode cX8_init 73 = .ok (.invokespecial 48, 3) := by decide +kernel
theorem dX8_init_76 : decode cX8_init 76 = .ok (.putfield 51, 3) := by decide +kernel
theorem dX8_init_79 : decode cX8_init 79 = .ok (.aload_n 0, 1) := by decide +kernel
theorem dX8_init_80 : decode cX8_init 80 = .ok (.new 55, 3) := by decide +kernel
theorem dX8_init_83 : decode cX8_init 83 = .ok (.dup, 1) := by decide +kernel
theorem dX8_init_84 : decode cX8_init 84 = .ok (.aload_n 0, 1) := by decide +kernel
theorem dX8_init_85 : decode cX8_init 85 = .ok (.getfield 51, 3) := by decide +kernel
theorem dX8_init_88 : decode cX8_init 88 = .ok (.aload_n 0, 1) := by decide +kernel
theorem dX8_init_89 : decode cX8_init 89 = .ok (.getfield 10, 3) := by decide +kernel
theorem dX8_init_92 : decode cX8_init 92 = .ok (.aload_n 0, 1) := by decide +kernel
theorem dX8_init_93 : decode cX8_init 93 = .ok (.getfield 19, 3) := by decide +kernel
theorem dX8_init_96 : decode cX8_init 96 = .ok (.invokespecial 57, 3) := by decide +kernel
theorem dX8_init_99 : decode cX8_init 99 = .ok (.putfield 60, 3) := by decide +kernel
theorem dX8_init_102 : decode cX8_init 102 = .ok (.aload_n 0, 1) := by decide +kernel
theorem dX8_init_103 : decode cX8_init 103 = .ok (.new 64, 3) := by decide +kernel
theorem dX8_init_106 : decode cX8_init 106 = .ok (.dup, 1) := by decide +kernel
theorem dX8_init_107 : decode cX8_init 107 = .ok (.invokespecial 66, 3) := by decide +kernel
theorem dX8_init_110 : decode cX8_init 110 = .ok (.putfield 67, 3) := by decide +kernel
theorem dX8_init_113 : decode cX8_init 113 = .ok (.aload_n 0, 1) := by decide +kernel
theorem dX8_init_114 : decode cX8_init 114 = .ok (.bipush 7, 2) := by decide +kernel
theorem dX8_init_116 : decode cX8_init 116 = .ok (.newarray .int, 2) := by decide +kernel
theorem dX8_init_118 : decode cX8_init 118 = .ok (.putfield 71, 3) := by decide +kernel
theorem dX8_init_121 : decode cX8_init 121 = .ok (.aload_n 0, 1) := by decide +kernel
theorem dX8_init_122 : decode cX8_init 122 = .ok (.iconst 0, 1) := by decide +kernel
theorem dX8_init_123 : decode cX8_init 123 = .ok (.putfield 75, 3) := by decide +kernel
theorem dX8_init_126 : decode cX8_init 126 = .ok (.aload_n 0, 1) := by decide +kernel
theorem dX8_init_127 : decode cX8_init 127 = .ok (.iconst 0, 1) := by decide +kernel
theorem dX8_init_128 : decode cX8_init 128 = .ok (.putfield 79, 3) := by decide +kernel
theorem dX8_init_131 : decode cX8_init 131 = .ok (.return_, 1) := by decide +kernel
set_option maxRecDepth 20000 in
theorem ggX8_length_X8_refuse : GoodIn wsX8_length wsX8_refuse := goodIn_r _ [7, 8, 30, 31, 32, 33, 34, 35, 36, 37, 38, 39, 40] (by decide +kernel) (by decide +kernel)
set_option maxRecDepth 20000 in
theorem gX8_length_X8_refuse : GoodIn wsX8_length (wsV RX8 82 RX8 yX8_refuse wsX8_refuse) := goodIn_app (goodIn_of _ (by decide +kernel)) ggX8_length_X8_refuse
set_option maxRecDepth 20000 in
theorem ggX8_length_X0_steps : GoodIn wsX8_length wsX0_steps := goodIn_r _ [13, 14, 41, 42, 43, 44] (by decide +kernel) (by decide +kernel)
set_option maxRecDepth 20000 in
theorem gX8_length_X0_steps : GoodIn wsX8_length (wsV RX8 86 RX0 yX0_steps wsX0_steps) := goodIn_app (goodIn_of _ (by decide +kernel)) ggX8_length_X0_steps
set_option maxRecDepth 20000 in
theorem ggX8_length_X0_startAnew : GoodIn wsX8_length wsX0_startAnew := goodIn_r _ [18, 14, 19, 41, 42, 43, 44] (by decide +kernel) (by decide +kernel)
set_option maxRecDepth 20000 in
theorem gX8_length_X0_startAnew : GoodIn wsX8_length (wsV RX8 90 RX0 yX0_startAnew wsX0_startAnew) := goodIn_app (goodIn_of _ (by decide +kernel)) ggX8_length_X0_startAnew
set_option maxRecDepth 20000 in
theorem ggX8_length_X6_clear : GoodIn wsX8_length wsX6_clear := goodIn_r _ [24, 25, 26, 27, 28, 29, 45, 46] (by decide +kernel) (by decide +kernel)
set_option maxRecDepth 20000 in
theorem gX8_length_X6_clear : GoodIn wsX8_length (wsV RX8 94 RX6 yX6_clear wsX6_clear) := goodIn_app (goodIn_of _ (by decide +kernel)) ggX8_length_X6_clear
theorem dX8_length_0 : decode cX8_length 0 = .ok (.iload_n 1, 1) := by decide +kernel
theorem dX8_length_1 : decode cX8_length 1 = .ok (.iconst 2, 1) := by decide +kernel
theorem dX8_length_2 : decode cX8_length 2 = .ok (.if_icmp .ge 10, 3) := by decide +kernel
theorem dX8_length_5 : decode cX8_length 5 = .ok (.aload_n 0, 1) := by decide +kernel
theorem dX8_length_6 : decode cX8_length 6 = .ok (.bipush (-4), 2) := by decide +kernel
theorem dX8_length_8 : decode cX8_length 8 = .ok (.invokevirtual 82, 3) := by decide +kernel
theorem dX8_length_11 : decode cX8_length 11 = .ok (.ireturn, 1) := by decide +kernel
theorem dX8_length_12 : decode cX8_length 12 = .ok (.iload_n 1, 1) := by decide +kernel
theorem dX8_length_13 : decode cX8_length 13 = .ok (.bipush 16, 2) := by decide +kernel
theorem dX8_length_15 : decode cX8_length 15 = .ok (.if_icmp .le 10, 3) := by decide +kernel
theorem dX8_length_18 : decode cX8_length 18 = .ok (.aload_n 0, 1) := by decide +kernel
theorem dX8_length_19 : decode cX8_length 19 = .ok (.bipush (-6), 2) := by decide +kernel
theorem dX8_length_21 : decode cX8_length 21 = .ok (.invokevirtual 82, 3) := by decide +kernel
theorem dX8_length_24 : decode cX8_length 24 = .ok (.ireturn, 1) := by decide +kernel
theorem dX8_length_25 : decode cX8_length 25 = .ok (.aload_n 0, 1) := by decide +kernel
theorem dX8_length_26 : decode cX8_length 26 = .ok (.getfield 10, 3) := by decide +kernel
theorem dX8_length_29 : decode cX8_length 29 = .ok (.invokevirtual 86, 3) := by decide +kernel
theorem dX8_length_32 : decode cX8_length 32 = .ok (.istore_n 2, 1) := by decide +kernel
theorem dX8_length_33 : decode cX8_length 33 = .ok (.aload_n 0, 1) := by decide +kernel
theorem dX8_length_34 : decode cX8_length 34 = .ok (.getfield 10, 3) := by decide +kernel
theorem dX8_length_37 : decode cX8_length 37 = .ok (.iload_n 1, 1) := by decide +kernel
theorem dX8_length_38 : decode cX8_length 38 = .ok (.invokevirtual 90, 3) := by decide +kernel
theorem dX8_length_41 : decode cX8_length 41 = .ok (.aload_n 0, 1) := by decide +kernel
theorem dX8_length_42 : decode cX8_length 42 = .ok (.getfield 35, 3) := by decide +kernel
theorem dX8_length_45 : decode cX8_length 45 = .ok (.invokevirtual 94, 3) := by decide +kernel
theorem dX8_length_48 : decode cX8_length 48 = .ok (.iload_n 2, 1) := by decide +kernel
theorem dX8_length_49 : decode cX8_length 49 = .ok (.ireturn, 1) := by decide +kernel
set_option maxRecDepth 20000 in
theorem ggX8_blank_X8_isCam : GoodIn wsX8_blank wsX8_isCam := goodIn_r _ [5] (by decide +kernel) (by decide +kernel)
set_option maxRecDepth 20000 in
theorem gX8_blank_X8_isCam : GoodIn wsX8_blank (va_wsS RX8 97 yX8_isCam wsX8_isCam) := goodIn_app (goodIn_of _ (by decide +kernel)) ggX8_blank_X8_isCam
set_option maxRecDepth 20000 in
theorem ggX8_blank_X8_refuse : GoodIn wsX8_blank wsX8_refuse := goodIn_r _ [9, 10, 26, 27, 28, 29, 30, 31, 32, 33, 34, 35, 36] (by decide +kernel) (by decide +kernel)
set_option maxRecDepth 20000 in
theorem gX8_blank_X8_refuse : GoodIn wsX8_blank (wsV RX8 82 RX8 yX8_refuse wsX8_refuse) := goodIn_app (goodIn_of _ (by decide +kernel)) ggX8_blank_X8_refuse
set_option maxRecDepth 20000 in
theorem ggX8_blank_X0_isThere : GoodIn wsX8_blank wsX0_isThere := goodIn_r _ [15, 16, 37, 38, 39, 40] (by decide +kernel) (by decide +kernel)
set_option maxRecDepth 20000 in
theorem gX8_blank_X0_isThere : GoodIn wsX8_blank (wsV RX8 101 RX0 yX0_isThere wsX0_isThere) := goodIn_app (goodIn_of _ (by decide +kernel)) ggX8_blank_X0_isThere
set_option maxRecDepth 20000 in
theorem ggX8_blank_X0_makeFlat : GoodIn wsX8_blank wsX0_makeFlat := goodIn_r _ [20, 16, 21, 22, 23, 24, 25, 37, 38, 39, 40] (by decide +kernel) (by decide +kernel)
set_option maxRecDepth 20000 in
theorem gX8_blank_X0_makeFlat : GoodIn wsX8_blank (wsV RX8 104 RX0 yX0_makeFlat wsX0_makeFlat) := goodIn_app (goodIn_of _ (by decide +kernel)) ggX8_blank_X0_makeFlat
theorem dX8_blank_0 : decode cX8_blank 0 = .ok (.iload_n 1, 1) := by decide +kernel
theorem dX8_blank_1 : decode cX8_blank 1 = .ok (.invokestatic 97, 3) := by decide +kernel
theorem dX8_blank_4 : decode cX8_blank 4 = .ok (.ifCond .ne 9, 3) := by decide +kernel
theorem dX8_blank_7 : decode cX8_blank 7 = .ok (.aload_n 0, 1) := by decide +kernel
theorem dX8_blank_8 : decode cX8_blank 8 = .ok (.iconst (-1), 1) := by decide +kernel
theorem dX8_blank_9 : decode cX8_blank 9 = .ok (.invokevirtual 82, 3) := by decide +kernel
theorem dX8_blank_12 : decode cX8_blank 12 = .ok (.ireturn, 1) := by decide +kernel
theorem dX8_blank_13 : decode cX8_blank 13 = .ok (.aload_n 0, 1) := by decide +kernel
theorem dX8_blank_14 : decode cX8_blank 14 = .ok (.getfield 10, 3) := by decide +kernel
theorem dX8_blank_17 : decode cX8_blank 17 = .ok (.iload_n 1, 1) := by decide +kernel
theorem dX8_blank_18 : decode cX8_blank 18 = .ok (.invokevirtual 101, 3) := by decide +kernel
theorem dX8_blank_21 : decode cX8_blank 21 = .ok (.ifCond .eq 7, 3) := by decide +kernel
theorem dX8_blank_24 : decode cX8_blank 24 = .ok (.iconst 0, 1) := by decide +kernel
theorem dX8_blank_25 : decode cX8_blank 25 = .ok (.goto 4, 3) := by decide +kernel
theorem dX8_blank_28 : decode cX8_blank 28 = .ok (.iconst 1, 1) := by decide +kernel
theorem dX8_blank_29 : decode cX8_blank 29 = .ok (.istore_n 2, 1) := by decide +kernel
theorem dX8_blank_30 : decode cX8_blank 30 = .ok (.aload_n 0, 1) := by decide +kernel
theorem dX8_blank_31 : decode cX8_blank 31 = .ok (.getfield 10, 3) := by decide +kernel
theorem dX8_blank_34 : decode cX8_blank 34 = .ok (.iload_n 1, 1) := by decide +kernel
theorem dX8_blank_35 : decode cX8_blank 35 = .ok (.invokevirtual 104, 3) := by decide +kernel
theorem dX8_blank_38 : decode cX8_blank 38 = .ok (.iload_n 2, 1) := by decide +kernel
theorem dX8_blank_39 : decode cX8_blank 39 = .ok (.ireturn, 1) := by decide +kernel
set_option maxRecDepth 20000 in
theorem ggX8_lose_X8_refusalOfCam : GoodIn wsX8_lose wsX8_refusalOfCam := goodIn_r _ [6, 1, 7, 8, 5, 9, 10, 11, 12, 13, 14, 15, 25, 26, 27, 28, 29, 30, 31, 32, 33, 34, 35, 36, 37, 38, 39] (by decide +kernel) (by decide +kernel)
set_option maxRecDepth 20000 in
theorem gX8_lose_X8_refusalOfCam : GoodIn wsX8_lose (wsV RX8 107 RX8 yX8_refusalOfCam wsX8_refusalOfCam) := goodIn_app (goodIn_of _ (by decide +kernel)) ggX8_lose_X8_refusalOfCam
set_option maxRecDepth 20000 in
theorem ggX8_lose_X8_refuse : GoodIn wsX8_lose wsX8_refuse := goodIn_r _ [19, 20, 25, 26, 27, 28, 29, 30, 31, 32, 33, 34, 35] (by decide +kernel) (by decide +kernel)
set_option maxRecDepth 20000 in
theorem gX8_lose_X8_refuse : GoodIn wsX8_lose (wsV RX8 82 RX8 yX8_refuse wsX8_refuse) := goodIn_app (goodIn_of _ (by decide +kernel)) ggX8_lose_X8_refuse
set_option maxRecDepth 20000 in
theorem ggX8_lose_X0_remove : GoodIn wsX8_lose wsX0_remove := goodIn_r _ [24, 15, 36, 37, 38, 39] (by decide +kernel) (by decide +kernel)
set_option maxRecDepth 20000 in
theorem gX8_lose_X0_remove : GoodIn wsX8_lose (wsV RX8 110 RX0 yX0_remove wsX0_remove) := goodIn_app (goodIn_of _ (by decide +kernel)) ggX8_lose_X0_remove
theorem dX8_lose_0 : decode cX8_lose 0 = .ok (.aload_n 0, 1) := by decide +kernel
theorem dX8_lose_1 : decode cX8_lose 1 = .ok (.iload_n 1, 1) := by decide +kernel
theorem dX8_lose_2 : decode cX8_lose 2 = .ok (.invokevirtual 107, 3) := by decide +kernel
theorem dX8_lose_5 : decode cX8_lose 5 = .ok (.istore_n 2, 1) := by decide +kernel
theorem dX8_lose_6 : decode cX8_lose 6 = .ok (.iload_n 2, 1) := by decide +kernel
theorem dX8_lose_7 : decode cX8_lose 7 = .ok (.ifCond .eq 9, 3) := by decide +kernel
theorem dX8_lose_10 : decode cX8_lose 10 = .ok (.aload_n 0, 1) := by decide +kernel
theorem dX8_lose_11 : decode cX8_lose 11 = .ok (.iload_n 2, 1) := by decide +kernel
theorem dX8_lose_12 : decode cX8_lose 12 = .ok (.invokevirtual 82, 3) := by decide +kernel
theorem dX8_lose_15 : decode cX8_lose 15 = .ok (.ireturn, 1) := by decide +kernel
theorem dX8_lose_16 : decode cX8_lose 16 = .ok (.aload_n 0, 1) := by decide +kernel
theorem dX8_lose_17 : decode cX8_lose 17 = .ok (.getfield 10, 3) := by decide +kernel
theorem dX8_lose_20 : decode cX8_lose 20 = .ok (.iload_n 1, 1) := by decide +kernel
theorem dX8_lose_21 : decode cX8_lose 21 = .ok (.invokevirtual 110, 3) := by decide +kernel
theorem dX8_lose_24 : decode cX8_lose 24 = .ok (.iconst 1, 1) := by decide +kernel
theorem dX8_lose_25 : decode cX8_lose 25 = .ok (.ireturn, 1) := by decide +kernel
set_option maxRecDepth 20000 in
theorem ggX8_cutAt_X8_refusalOfStep : GoodIn wsX8_cutAt wsX8_refusalOfStep := goodIn_r _ [6, 1, 7, 8, 9, 5, 10, 11, 12, 13, 14, 15, 16, 17, 18, 19, 20, 21, 22, 23, 24, 39, 40, 41, 42, 43, 44, 45, 46, 47, 48, 49, 50, 51, 52, 53] (by decide +kernel) (by decide +kernel)
set_option maxRecDepth 20000 in
theorem gX8_cutAt_X8_refusalOfStep : GoodIn wsX8_cutAt (wsV RX8 113 RX8 yX8_refusalOfStep wsX8_refusalOfStep) := goodIn_app (goodIn_of _ (by decide +kernel)) ggX8_cutAt_X8_refusalOfStep
set_option maxRecDepth 20000 in
theorem ggX8_cutAt_X8_refuse : GoodIn wsX8_cutAt wsX8_refuse := goodIn_r _ [28, 29, 39, 40, 41, 42, 43, 44, 45, 46, 47, 48, 49] (by decide +kernel) (by decide +kernel)
set_option maxRecDepth 20000 in
theorem gX8_cutAt_X8_refuse : GoodIn wsX8_cutAt (wsV RX8 82 RX8 yX8_refuse wsX8_refuse) := goodIn_app (goodIn_of _ (by decide +kernel)) ggX8_cutAt_X8_refuse
set_option maxRecDepth 20000 in
theorem ggX8_cutAt_X0_heightAt : GoodIn wsX8_cutAt wsX0_heightAt := goodIn_r _ [33, 34, 50, 51, 52, 53] (by decide +kernel) (by decide +kernel)
set_option maxRecDepth 20000 in
theorem gX8_cutAt_X0_heightAt : GoodIn wsX8_cutAt (wsV RX8 117 RX0 yX0_heightAt wsX0_heightAt) := goodIn_app (goodIn_of _ (by decide +kernel)) ggX8_cutAt_X0_heightAt
set_option maxRecDepth 20000 in
theorem ggX8_cutAt_X0_setHeight : GoodIn wsX8_cutAt wsX0_setHeight := goodIn_r _ [38, 34, 50, 51, 52, 53] (by decide +kernel) (by decide +kernel)
set_option maxRecDepth 20000 in
theorem gX8_cutAt_X0_setHeight : GoodIn wsX8_cutAt (wsV RX8 120 RX0 yX0_setHeight wsX0_setHeight) := goodIn_app (goodIn_of _ (by decide +kernel)) ggX8_cutAt_X0_setHeight
theorem dX8_cutAt_0 : decode cX8_cutAt 0 = .ok (.aload_n 0, 1) := by decide +kernel
theorem dX8_cutAt_1 : decode cX8_cutAt 1 = .ok (.iload_n 1, 1) := by decide +kernel
theorem dX8_cutAt_2 : decode cX8_cutAt 2 = .ok (.iload_n 2, 1) := by decide +kernel
theorem dX8_cutAt_3 : decode cX8_cutAt 3 = .ok (.invokevirtual 113, 3) := by decide +kernel
theorem dX8_cutAt_6 : decode cX8_cutAt 6 = .ok (.istore 4, 2) := by decide +kernel
theorem dX8_cutAt_8 : decode cX8_cutAt 8 = .ok (.iload 4, 2) := by decide +kernel
theorem dX8_cutAt_10 : decode cX8_cutAt 10 = .ok (.ifCond .eq 10, 3) := by decide +kernel
theorem dX8_cutAt_13 : decode cX8_cutAt 13 = .ok (.aload_n 0, 1) := by decide +kernel
theorem dX8_cutAt_14 : decode cX8_cutAt 14 = .ok (.iload 4, 2) := by decide +kernel
theorem dX8_cutAt_16 : decode cX8_cutAt 16 = .ok (.invokevirtual 82, 3) := by decide +kernel
theorem dX8_cutAt_19 : decode cX8_cutAt 19 = .ok (.ireturn, 1) := by decide +kernel
theorem dX8_cutAt_20 : decode cX8_cutAt 20 = .ok (.iload_n 3, 1) := by decide +kernel
theorem dX8_cutAt_21 : decode cX8_cutAt 21 = .ok (.ifCond .ge 10, 3) := by decide +kernel
theorem dX8_cutAt_24 : decode cX8_cutAt 24 = .ok (.aload_n 0, 1) := by decide +kernel
theorem dX8_cutAt_25 : decode cX8_cutAt 25 = .ok (.bipush (-4), 2) := by decide +kernel
theorem dX8_cutAt_27 : decode cX8_cutAt 27 = .ok (.invokevirtual 82, 3) := by decide +kernel
theorem dX8_cutAt_30 : decode cX8_cutAt 30 = .ok (.ireturn, 1) := by decide +kernel
theorem dX8_cutAt_31 : decode cX8_cutAt 31 = .ok (.iload_n 3, 1) := by decide +kernel
theorem dX8_cutAt_32 : decode cX8_cutAt 32 = .ok (.bipush 9, 2) := by decide +kernel
theorem dX8_cutAt_34 : decode cX8_cutAt 34 = .ok (.if_icmp .le 10, 3) := by decide +kernel
theorem dX8_cutAt_37 : decode cX8_cutAt 37 = .ok (.aload_n 0, 1) := by decide +kernel
theorem dX8_cutAt_38 : decode cX8_cutAt 38 = .ok (.bipush (-6), 2) := by decide +kernel
theorem dX8_cutAt_40 : decode cX8_cutAt 40 = .ok (.invokevirtual 82, 3) := by decide +kernel
theorem dX8_cutAt_43 : decode cX8_cutAt 43 = .ok (.ireturn, 1) := by decide +kernel
theorem dX8_cutAt_44 : decode cX8_cutAt 44 = .ok (.aload_n 0, 1) := by decide +kernel
theorem dX8_cutAt_45 : decode cX8_cutAt 45 = .ok (.getfield 10, 3) := by decide +kernel
theorem dX8_cutAt_48 : decode cX8_cutAt 48 = .ok (.iload_n 1, 1) := by decide +kernel
theorem dX8_cutAt_49 : decode cX8_cutAt 49 = .ok (.iload_n 2, 1) := by decide +kernel
theorem dX8_cutAt_50 : decode cX8_cutAt 50 = .ok (.invokevirtual 117, 3) := by decide +kernel
theorem dX8_cutAt_53 : decode cX8_cutAt 53 = .ok (.istore 5, 2) := by decide +kernel
theorem dX8_cutAt_55 : decode cX8_cutAt 55 = .ok (.aload_n 0, 1) := by decide +kernel
theorem dX8_cutAt_56 : decode cX8_cutAt 56 = .ok (.getfield 10, 3) := by decide +kernel
theorem dX8_cutAt_59 : decode cX8_cutAt 59 = .ok (.iload_n 1, 1) := by decide +kernel
theorem dX8_cutAt_60 : decode cX8_cutAt 60 = .ok (.iload_n 2, 1) := by decide +kernel
theorem dX8_cutAt_61 : decode cX8_cutAt 61 = .ok (.iload_n 3, 1) := by decide +kernel
theorem dX8_cutAt_62 : decode cX8_cutAt 62 = .ok (.invokevirtual 120, 3) := by decide +kernel
theorem dX8_cutAt_65 : decode cX8_cutAt 65 = .ok (.iload 5, 2) := by decide +kernel
theorem dX8_cutAt_67 : decode cX8_cutAt 67 = .ok (.ireturn, 1) := by decide +kernel
set_option maxRecDepth 20000 in
theorem ggX8_height_X8_refusalOfStep : GoodIn wsX8_height wsX8_refusalOfStep := goodIn_r _ [6, 1, 7, 8, 9, 5, 10, 11, 12, 13, 14, 15, 16, 17, 18, 19, 20, 21, 22, 23, 24, 35, 36, 37, 38, 39, 40, 41, 42, 43, 44, 45, 46, 47, 48, 49] (by decide +kernel) (by decide +kernel)
set_option maxRecDepth 20000 in
theorem gX8_height_X8_refusalOfStep : GoodIn wsX8_height (wsV RX8 113 RX8 yX8_refusalOfStep wsX8_refusalOfStep) := goodIn_app (goodIn_of _ (by decide +kernel)) ggX8_height_X8_refusalOfStep
set_option maxRecDepth 20000 in
theorem ggX8_height_X8_refuse : GoodIn wsX8_height wsX8_refuse := goodIn_r _ [28, 29, 35, 36, 37, 38, 39, 40, 41, 42, 43, 44, 45] (by decide +kernel) (by decide +kernel)
set_option maxRecDepth 20000 in
theorem gX8_height_X8_refuse : GoodIn wsX8_height (wsV RX8 82 RX8 yX8_refuse wsX8_refuse) := goodIn_app (goodIn_of _ (by decide +kernel)) ggX8_height_X8_refuse
set_option maxRecDepth 20000 in
theorem ggX8_height_X0_heightAt : GoodIn wsX8_height wsX0_heightAt := goodIn_r _ [33, 34, 46, 47, 48, 49] (by decide +kernel) (by decide +kernel)
set_option maxRecDepth 20000 in
theorem gX8_height_X0_heightAt : GoodIn wsX8_height (wsV RX8 117 RX0 yX0_heightAt wsX0_heightAt) := goodIn_app (goodIn_of _ (by decide +kernel)) ggX8_height_X0_heightAt
theorem dX8_height_0 : decode cX8_height 0 = .ok (.aload_n 0, 1) := by decide +kernel
theorem dX8_height_1 : decode cX8_height 1 = .ok (.iload_n 1, 1) := by decide +kernel
theorem dX8_height_2 : decode cX8_height 2 = .ok (.iload_n 2, 1) := by decide +kernel
theorem dX8_height_3 : decode cX8_height 3 = .ok (.invokevirtual 113, 3) := by decide +kernel
theorem dX8_height_6 : decode cX8_height 6 = .ok (.istore_n 3, 1) := by decide +kernel
theorem dX8_height_7 : decode cX8_height 7 = .ok (.iload_n 3, 1) := by decide +kernel
theorem dX8_height_8 : decode cX8_height 8 = .ok (.ifCond .eq 9, 3) := by decide +kernel
theorem dX8_height_11 : decode cX8_height 11 = .ok (.aload_n 0, 1) := by decide +kernel
theorem dX8_height_12 : decode cX8_height 12 = .ok (.iload_n 3, 1) := by decide +kernel
theorem dX8_height_13 : decode cX8_height 13 = .ok (.invokevirtual 82, 3) := by decide +kernel
theorem dX8_height_16 : decode cX8_height 16 = .ok (.ireturn, 1) := by decide +kernel
theorem dX8_height_17 : decode cX8_height 17 = .ok (.aload_n 0, 1) := by decide +kernel
theorem dX8_height_18 : decode cX8_height 18 = .ok (.getfield 10, 3) := by decide +kernel
theorem dX8_height_21 : decode cX8_height 21 = .ok (.iload_n 1, 1) := by decide +kernel
theorem dX8_height_22 : decode cX8_height 22 = .ok (.iload_n 2, 1) := by decide +kernel
theorem dX8_height_23 : decode cX8_height 23 = .ok (.invokevirtual 117, 3) := by decide +kernel
theorem dX8_height_26 : decode cX8_height 26 = .ok (.ireturn, 1) := by decide +kernel
set_option maxRecDepth 20000 in
theorem ggX8_copy_X8_isCam : GoodIn wsX8_copy wsX8_isCam := goodIn_r _ [5] (by decide +kernel) (by decide +kernel)
set_option maxRecDepth 20000 in
theorem gX8_copy_X8_isCam : GoodIn wsX8_copy (va_wsS RX8 97 yX8_isCam wsX8_isCam) := goodIn_app (goodIn_of _ (by decide +kernel)) ggX8_copy_X8_isCam
set_option maxRecDepth 20000 in
theorem ggX8_copy_X8_refuse : GoodIn wsX8_copy wsX8_refuse := goodIn_r _ [9, 10, 31, 32, 33, 34, 35, 36, 37, 38, 39, 40, 41] (by decide +kernel) (by decide +kernel)
set_option maxRecDepth 20000 in
theorem gX8_copy_X8_refuse : GoodIn wsX8_copy (wsV RX8 82 RX8 yX8_refuse wsX8_refuse) := goodIn_app (goodIn_of _ (by decide +kernel)) ggX8_copy_X8_refuse
set_option maxRecDepth 20000 in
theorem ggX8_copy_X0_isThere : GoodIn wsX8_copy wsX0_isThere := goodIn_r _ [15, 16, 42, 43, 44, 45] (by decide +kernel) (by decide +kernel)
set_option maxRecDepth 20000 in
theorem gX8_copy_X0_isThere : GoodIn wsX8_copy (wsV RX8 101 RX0 yX0_isThere wsX0_isThere) := goodIn_app (goodIn_of _ (by decide +kernel)) ggX8_copy_X0_isThere
set_option maxRecDepth 20000 in
theorem ggX8_copy_X0_hasSpan : GoodIn wsX8_copy wsX0_hasSpan := goodIn_r _ [20, 21, 42, 43, 44, 45] (by decide +kernel) (by decide +kernel)
set_option maxRecDepth 20000 in
theorem gX8_copy_X0_hasSpan : GoodIn wsX8_copy (wsV RX8 124 RX0 yX0_hasSpan wsX0_hasSpan) := goodIn_app (goodIn_of _ (by decide +kernel)) ggX8_copy_X0_hasSpan
set_option maxRecDepth 20000 in
theorem ggX8_copy_X0_copySpan : GoodIn wsX8_copy wsX0_copySpan := goodIn_r _ [25, 26, 27, 28, 29, 30, 42, 43, 44, 45] (by decide +kernel) (by decide +kernel)
set_option maxRecDepth 20000 in
theorem gX8_copy_X0_copySpan : GoodIn wsX8_copy (wsV RX8 128 RX0 yX0_copySpan wsX0_copySpan) := goodIn_app (goodIn_of _ (by decide +kernel)) ggX8_copy_X0_copySpan
theorem dX8_copy_0 : decode cX8_copy 0 = .ok (.iload_n 1, 1) := by decide +kernel
theorem dX8_copy_1 : decode cX8_copy 1 = .ok (.invokestatic 97, 3) := by decide +kernel
theorem dX8_copy_4 : decode cX8_copy 4 = .ok (.ifCond .eq 10, 3) := by decide +kernel
theorem dX8_copy_7 : decode cX8_copy 7 = .ok (.iload_n 3, 1) := by decide +kernel
theorem dX8_copy_8 : decode cX8_copy 8 = .ok (.invokestatic 97, 3) := by decide +kernel
theorem dX8_copy_11 : decode cX8_copy 11 = .ok (.ifCond .ne 9, 3) := by decide +kernel
theorem dX8_copy_14 : decode cX8_copy 14 = .ok (.aload_n 0, 1) := by decide +kernel
theorem dX8_copy_15 : decode cX8_copy 15 = .ok (.iconst (-1), 1) := by decide +kernel
theorem dX8_copy_16 : decode cX8_copy 16 = .ok (.invokevirtual 82, 3) := by decide +kernel
theorem dX8_copy_19 : decode cX8_copy 19 = .ok (.ireturn, 1) := by decide +kernel
theorem dX8_copy_20 : decode cX8_copy 20 = .ok (.aload_n 0, 1) := by decide +kernel
theorem dX8_copy_21 : decode cX8_copy 21 = .ok (.getfield 10, 3) := by decide +kernel
theorem dX8_copy_24 : decode cX8_copy 24 = .ok (.iload_n 1, 1) := by decide +kernel
theorem dX8_copy_25 : decode cX8_copy 25 = .ok (.invokevirtual 101, 3) := by decide +kernel
theorem dX8_copy_28 : decode cX8_copy 28 = .ok (.ifCond .eq 14, 3) := by decide +kernel
theorem dX8_copy_31 : decode cX8_copy 31 = .ok (.aload_n 0, 1) := by decide +kernel
theorem dX8_copy_32 : decode cX8_copy 32 = .ok (.getfield 10, 3) := by decide +kernel
theorem dX8_copy_35 : decode cX8_copy 35 = .ok (.iload_n 3, 1) := by decide +kernel
theorem dX8_copy_36 : decode cX8_copy 36 = .ok (.invokevirtual 101, 3) := by decide +kernel
theorem dX8_copy_39 : decode cX8_copy 39 = .ok (.ifCond .ne 10, 3) := by decide +kernel
theorem dX8_copy_42 : decode cX8_copy 42 = .ok (.aload_n 0, 1) := by decide +kernel
theorem dX8_copy_43 : decode cX8_copy 43 = .ok (.bipush (-5), 2) := by decide +kernel
theorem dX8_copy_45 : decode cX8_copy 45 = .ok (.invokevirtual 82, 3) := by decide +kernel
theorem dX8_copy_48 : decode cX8_copy 48 = .ok (.ireturn, 1) := by decide +kernel
theorem dX8_copy_49 : decode cX8_copy 49 = .ok (.aload_n 0, 1) := by decide +kernel
theorem dX8_copy_50 : decode cX8_copy 50 = .ok (.getfield 10, 3) := by decide +kernel
theorem dX8_copy_53 : decode cX8_copy 53 = .ok (.iload_n 2, 1) := by decide +kernel
theorem dX8_copy_54 : decode cX8_copy 54 = .ok (.iload 5, 2) := by decide +kernel
theorem dX8_copy_56 : decode cX8_copy 56 = .ok (.invokevirtual 124, 3) := by decide +kernel
theorem dX8_copy_59 : decode cX8_copy 59 = .ok (.ifCond .eq 17, 3) := by decide +kernel
theorem dX8_copy_62 : decode cX8_copy 62 = .ok (.aload_n 0, 1) := by decide +kernel
theorem dX8_copy_63 : decode cX8_copy 63 = .ok (.getfield 10, 3) := by decide +kernel
theorem dX8_copy_66 : decode cX8_copy 66 = .ok (.iload 4, 2) := by decide +kernel
theorem dX8_copy_68 : decode cX8_copy 68 = .ok (.iload 5, 2) := by decide +kernel
theorem dX8_copy_70 : decode cX8_copy 70 = .ok (.invokevirtual 124, 3) := by decide +kernel
theorem dX8_copy_73 : decode cX8_copy 73 = .ok (.ifCond .ne 10, 3) := by decide +kernel
theorem dX8_copy_76 : decode cX8_copy 76 = .ok (.aload_n 0, 1) := by decide +kernel
theorem dX8_copy_77 : decode cX8_copy 77 = .ok (.bipush (-7), 2) := by decide +kernel
theorem dX8_copy_79 : decode cX8_copy 79 = .ok (.invokevirtual 82, 3) := by decide +kernel
theorem dX8_copy_82 : decode cX8_copy 82 = .ok (.ireturn, 1) := by decide +kernel
theorem dX8_copy_83 : decode cX8_copy 83 = .ok (.aload_n 0, 1) := by decide +kernel
theorem dX8_copy_84 : decode cX8_copy 84 = .ok (.getfield 10, 3) := by decide +kernel
theorem dX8_copy_87 : decode cX8_copy 87 = .ok (.iload_n 1, 1) := by decide +kernel
theorem dX8_copy_88 : decode cX8_copy 88 = .ok (.iload_n 2, 1) := by decide +kernel
theorem dX8_copy_89 : decode cX8_copy 89 = .ok (.iload_n 3, 1) := by decide +kernel
theorem dX8_copy_90 : decode cX8_copy 90 = .ok (.iload 4, 2) := by decide +kernel
theorem dX8_copy_92 : decode cX8_copy 92 = .ok (.iload 5, 2) := by decide +kernel
theorem dX8_copy_94 : decode cX8_copy 94 = .ok (.invokevirtual 128, 3) := by decide +kernel
theorem dX8_copy_97 : decode cX8_copy 97 = .ok (.iload 5, 2) := by decide +kernel
theorem dX8_copy_99 : decode cX8_copy 99 = .ok (.ireturn, 1) := by decide +kernel
set_option maxRecDepth 20000 in
theorem ggX8_turn_X8_refusalOfStep : GoodIn wsX8_turn wsX8_refusalOfStep := goodIn_r _ [6, 1, 7, 8, 9, 5, 10, 11, 12, 13, 14, 15, 16, 17, 18, 19, 20, 21, 22, 23, 24, 44, 45, 46, 47, 48, 49, 50, 51, 52, 53, 54, 55, 56, 57, 58] (by decide +kernel) (by decide +kernel)
set_option maxRecDepth 20000 in
theorem gX8_turn_X8_refusalOfStep : GoodIn wsX8_turn (wsV RX8 113 RX8 yX8_refusalOfStep wsX8_refusalOfStep) := goodIn_app (goodIn_of _ (by decide +kernel)) ggX8_turn_X8_refusalOfStep
set_option maxRecDepth 20000 in
theorem ggX8_turn_X8_refuse : GoodIn wsX8_turn wsX8_refuse := goodIn_r _ [28, 29, 44, 45, 46, 47, 48, 49, 50, 51, 52, 53, 54] (by decide +kernel) (by decide +kernel)
set_option maxRecDepth 20000 in
theorem gX8_turn_X8_refuse : GoodIn wsX8_turn (wsV RX8 82 RX8 yX8_refuse wsX8_refuse) := goodIn_app (goodIn_of _ (by decide +kernel)) ggX8_turn_X8_refuse
set_option maxRecDepth 20000 in
theorem ggX8_turn_X0_rotate : GoodIn wsX8_turn wsX0_rotate := goodIn_r _ [33, 34, 35, 24, 36, 37, 38, 39, 40, 41, 42, 17, 43, 55, 56, 57, 58] (by decide +kernel) (by decide +kernel)
set_option maxRecDepth 20000 in
theorem gX8_turn_X0_rotate : GoodIn wsX8_turn (wsV RX8 132 RX0 yX0_rotate wsX0_rotate) := goodIn_app (goodIn_of _ (by decide +kernel)) ggX8_turn_X0_rotate
theorem dX8_turn_0 : decode cX8_turn 0 = .ok (.aload_n 0, 1) := by decide +kernel
theorem dX8_turn_1 : decode cX8_turn 1 = .ok (.iload_n 1, 1) := by decide +kernel
theorem dX8_turn_2 : decode cX8_turn 2 = .ok (.iload_n 2, 1) := by decide +kernel
theorem dX8_turn_3 : decode cX8_turn 3 = .ok (.invokevirtual 113, 3) := by decide +kernel
theorem dX8_turn_6 : decode cX8_turn 6 = .ok (.istore_n 3, 1) := by decide +kernel
theorem dX8_turn_7 : decode cX8_turn 7 = .ok (.iload_n 3, 1) := by decide +kernel
theorem dX8_turn_8 : decode cX8_turn 8 = .ok (.ifCond .eq 9, 3) := by decide +kernel
theorem dX8_turn_11 : decode cX8_turn 11 = .ok (.aload_n 0, 1) := by decide +kernel
theorem dX8_turn_12 : decode cX8_turn 12 = .ok (.iload_n 3, 1) := by decide +kernel
theorem dX8_turn_13 : decode cX8_turn 13 = .ok (.invokevirtual 82, 3) := by decide +kernel
theorem dX8_turn_16 : decode cX8_turn 16 = .ok (.ireturn, 1) := by decide +kernel
theorem dX8_turn_17 : decode cX8_turn 17 = .ok (.aload_n 0, 1) := by decide +kernel
theorem dX8_turn_18 : decode cX8_turn 18 = .ok (.getfield 10, 3) := by decide +kernel
theorem dX8_turn_21 : decode cX8_turn 21 = .ok (.iload_n 1, 1) := by decide +kernel
theorem dX8_turn_22 : decode cX8_turn 22 = .ok (.iload_n 2, 1) := by decide +kernel
theorem dX8_turn_23 : decode cX8_turn 23 = .ok (.invokevirtual 132, 3) := by decide +kernel
theorem dX8_turn_26 : decode cX8_turn 26 = .ok (.iconst 1, 1) := by decide +kernel
theorem dX8_turn_27 : decode cX8_turn 27 = .ok (.ireturn, 1) := by decide +kernel
set_option maxRecDepth 20000 in
theorem ggX8_blanks_X0_blanksBelow : GoodIn wsX8_blanks wsX0_blanksBelow := goodIn_r _ [6, 7, 8, 9, 10, 5, 11, 12, 13, 14, 15, 16, 17, 18, 19, 20, 21, 22, 23, 24, 25, 37, 38, 39, 40] (by decide +kernel) (by decide +kernel)
set_option maxRecDepth 20000 in
theorem gX8_blanks_X0_blanksBelow : GoodIn wsX8_blanks (wsV RX8 136 RX0 yX0_blanksBelow wsX0_blanksBelow) := goodIn_app (goodIn_of _ (by decide +kernel)) ggX8_blanks_X0_blanksBelow
theorem dX8_blanks_0 : decode cX8_blanks 0 = .ok (.aload_n 0, 1) := by decide +kernel
theorem dX8_blanks_1 : decode cX8_blanks 1 = .ok (.getfield 10, 3) := by decide +kernel
theorem dX8_blanks_4 : decode cX8_blanks 4 = .ok (.bipush 12, 2) := by decide +kernel
theorem dX8_blanks_6 : decode cX8_blanks 6 = .ok (.invokevirtual 136, 3) := by decide +kernel
theorem dX8_blanks_9 : decode cX8_blanks 9 = .ok (.ireturn, 1) := by decide +kernel
set_option maxRecDepth 20000 in
theorem ggX8_camOf_X8_refusalOfCam : GoodIn wsX8_camOf wsX8_refusalOfCam := goodIn_r _ [6, 1, 7, 8, 5, 9, 10, 11, 12, 13, 14, 15, 56, 57, 58, 59, 60, 61, 62, 63, 64, 65, 66, 67, 68, 69, 70] (by decide +kernel) (by decide +kernel)
set_option maxRecDepth 20000 in
theorem gX8_camOf_X8_refusalOfCam : GoodIn wsX8_camOf (wsV RX8 107 RX8 yX8_refusalOfCam wsX8_refusalOfCam) := goodIn_app (goodIn_of _ (by decide +kernel)) ggX8_camOf_X8_refusalOfCam
set_option maxRecDepth 20000 in
theorem ggX8_camOf_X8_refuse : GoodIn wsX8_camOf wsX8_refuse := goodIn_r _ [19, 20, 56, 57, 58, 59, 60, 61, 62, 63, 64, 65, 66] (by decide +kernel) (by decide +kernel)
set_option maxRecDepth 20000 in
theorem gX8_camOf_X8_refuse : GoodIn wsX8_camOf (wsV RX8 82 RX8 yX8_refuse wsX8_refuse) := goodIn_app (goodIn_of _ (by decide +kernel)) ggX8_camOf_X8_refuse
set_option maxRecDepth 20000 in
theorem ggX8_camOf_X0_leastAlike : GoodIn wsX8_camOf wsX0_leastAlike := goodIn_r _ [24, 15, 25, 26, 27, 13, 28, 29, 30, 31, 32, 33, 34, 35, 36, 37, 38, 67, 68, 69, 70] (by decide +kernel) (by decide +kernel)
set_option maxRecDepth 20000 in
theorem gX8_camOf_X0_leastAlike : GoodIn wsX8_camOf (wsV RX8 139 RX0 yX0_leastAlike wsX0_leastAlike) := goodIn_app (goodIn_of _ (by decide +kernel)) ggX8_camOf_X0_leastAlike
set_option maxRecDepth 20000 in
theorem ggX8_camOf_X0_blanksBelow : GoodIn wsX8_camOf wsX0_blanksBelow := goodIn_r _ [42, 15, 43, 22, 23, 13, 24, 25, 26, 27, 28, 29, 30, 31, 32, 33, 34, 35, 36, 37, 38, 67, 68, 69, 70] (by decide +kernel) (by decide +kernel)
set_option maxRecDepth 20000 in
theorem gX8_camOf_X0_blanksBelow : GoodIn wsX8_camOf (wsV RX8 136 RX0 yX0_blanksBelow wsX0_blanksBelow) := goodIn_app (goodIn_of _ (by decide +kernel)) ggX8_camOf_X0_blanksBelow
set_option maxRecDepth 20000 in
theorem ggX8_camOf_X0_stepsBetween : GoodIn wsX8_camOf wsX0_stepsBetween := goodIn_r _ [28, 29, 30, 31, 32, 33, 13, 34, 35, 36, 37, 38, 67, 68, 69, 70] (by decide +kernel) (by decide +kernel)
set_option maxRecDepth 20000 in
theorem gX8_camOf_X0_stepsBetween : GoodIn wsX8_camOf (wsV RX8 142 RX0 yX0_stepsBetween wsX0_stepsBetween) := goodIn_app (goodIn_of _ (by decide +kernel)) ggX8_camOf_X0_stepsBetween
set_option maxRecDepth 20000 in
theorem ggX8_camOf_X0_greatestStep : GoodIn wsX8_camOf wsX0_greatestStep := goodIn_r _ [48, 29, 30, 49, 50, 51, 52, 53, 54, 55, 35, 36, 37, 13, 38, 67, 68, 69, 70] (by decide +kernel) (by decide +kernel)
set_option maxRecDepth 20000 in
theorem gX8_camOf_X0_greatestStep : GoodIn wsX8_camOf (wsV RX8 145 RX0 yX0_greatestStep wsX0_greatestStep) := goodIn_app (goodIn_of _ (by decide +kernel)) ggX8_camOf_X0_greatestStep
theorem dX8_camOf_0 : decode cX8_camOf 0 = .ok (.aload_n 0, 1) := by decide +kernel
theorem dX8_camOf_1 : decode cX8_camOf 1 = .ok (.iload_n 1, 1) := by decide +kernel
theorem dX8_camOf_2 : decode cX8_camOf 2 = .ok (.invokevirtual 107, 3) := by decide +kernel
theorem dX8_camOf_5 : decode cX8_camOf 5 = .ok (.istore_n 3, 1) := by decide +kernel
theorem dX8_camOf_6 : decode cX8_camOf 6 = .ok (.iload_n 3, 1) := by decide +kernel
theorem dX8_camOf_7 : decode cX8_camOf 7 = .ok (.ifCond .eq 9, 3) := by decide +kernel
theorem dX8_camOf_10 : decode cX8_camOf 10 = .ok (.aload_n 0, 1) := by decide +kernel
theorem dX8_camOf_11 : decode cX8_camOf 11 = .ok (.iload_n 3, 1) := by decide +kernel
theorem dX8_camOf_12 : decode cX8_camOf 12 = .ok (.invokevirtual 82, 3) := by decide +kernel
theorem dX8_camOf_15 : decode cX8_camOf 15 = .ok (.ireturn, 1) := by decide +kernel
theorem dX8_camOf_16 : decode cX8_camOf 16 = .ok (.iload_n 2, 1) := by decide +kernel
theorem dX8_camOf_17 : decode cX8_camOf 17 = .ok (.tableswitch 69 0 2 #[27, 43, 60], 27) := by decide +kernel
theorem dX8_camOf_44 : decode cX8_camOf 44 = .ok (.aload_n 0, 1) := by decide +kernel
theorem dX8_camOf_45 : decode cX8_camOf 45 = .ok (.getfield 10, 3) := by decide +kernel
theorem dX8_camOf_48 : decode cX8_camOf 48 = .ok (.aload_n 0, 1) := by decide +kernel
theorem dX8_camOf_49 : decode cX8_camOf 49 = .ok (.getfield 10, 3) := by decide +kernel
theorem dX8_camOf_52 : decode cX8_camOf 52 = .ok (.iload_n 1, 1) := by decide +kernel
theorem dX8_camOf_53 : decode cX8_camOf 53 = .ok (.invokevirtual 139, 3) := by decide +kernel
theorem dX8_camOf_56 : decode cX8_camOf 56 = .ok (.invokevirtual 136, 3) := by decide +kernel
theorem dX8_camOf_59 : decode cX8_camOf 59 = .ok (.ireturn, 1) := by decide +kernel
theorem dX8_camOf_60 : decode cX8_camOf 60 = .ok (.aload_n 0, 1) := by decide +kernel
theorem dX8_camOf_61 : decode cX8_camOf 61 = .ok (.getfield 10, 3) := by decide +kernel
theorem dX8_camOf_64 : decode cX8_camOf 64 = .ok (.aload_n 0, 1) := by decide +kernel
theorem dX8_camOf_65 : decode cX8_camOf 65 = .ok (.getfield 10, 3) := by decide +kernel
theorem dX8_camOf_68 : decode cX8_camOf 68 = .ok (.iload_n 1, 1) := by decide +kernel
theorem dX8_camOf_69 : decode cX8_camOf 69 = .ok (.invokevirtual 139, 3) := by decide +kernel
theorem dX8_camOf_72 : decode cX8_camOf 72 = .ok (.iload_n 1, 1) := by decide +kernel
theorem dX8_camOf_73 : decode cX8_camOf 73 = .ok (.invokevirtual 142, 3) := by decide +kernel
theorem dX8_camOf_76 : decode cX8_camOf 76 = .ok (.ireturn, 1) := by decide +kernel
theorem dX8_camOf_77 : decode cX8_camOf 77 = .ok (.aload_n 0, 1) := by decide +kernel
theorem dX8_camOf_78 : decode cX8_camOf 78 = .ok (.getfield 10, 3) := by decide +kernel
theorem dX8_camOf_81 : decode cX8_camOf 81 = .ok (.iload_n 1, 1) := by decide +kernel
theorem dX8_camOf_82 : decode cX8_camOf 82 = .ok (.invokevirtual 145, 3) := by decide +kernel
theorem dX8_camOf_85 : decode cX8_camOf 85 = .ok (.ireturn, 1) := by decide +kernel
theorem dX8_camOf_86 : decode cX8_camOf 86 = .ok (.aload_n 0, 1) := by decide +kernel
theorem dX8_camOf_87 : decode cX8_camOf 87 = .ok (.bipush (-2), 2) := by decide +kernel
theorem dX8_camOf_89 : decode cX8_camOf 89 = .ok (.invokevirtual 82, 3) := by decide +kernel
theorem dX8_camOf_92 : decode cX8_camOf 92 = .ok (.ireturn, 1) := by decide +kernel
set_option maxRecDepth 20000 in
theorem ggX8_letter_X8_isLetter : GoodIn wsX8_letter wsX8_isLetter := goodIn_r _ [5] (by decide +kernel) (by decide +kernel)
set_option maxRecDepth 20000 in
theorem gX8_letter_X8_isLetter : GoodIn wsX8_letter (va_wsS RX8 148 yX8_isLetter wsX8_isLetter) := goodIn_app (goodIn_of _ (by decide +kernel)) ggX8_letter_X8_isLetter
set_option maxRecDepth 20000 in
theorem ggX8_letter_X8_isCam : GoodIn wsX8_letter wsX8_isCam := goodIn_r _ [8] (by decide +kernel) (by decide +kernel)
set_option maxRecDepth 20000 in
theorem gX8_letter_X8_isCam : GoodIn wsX8_letter (va_wsS RX8 97 yX8_isCam wsX8_isCam) := goodIn_app (goodIn_of _ (by decide +kernel)) ggX8_letter_X8_isCam
set_option maxRecDepth 20000 in
theorem ggX8_letter_X8_refuse : GoodIn wsX8_letter wsX8_refuse := goodIn_r _ [12, 13, 22, 23, 24, 25, 26, 27, 28, 29, 30, 31, 32] (by decide +kernel) (by decide +kernel)
set_option maxRecDepth 20000 in
theorem gX8_letter_X8_refuse : GoodIn wsX8_letter (wsV RX8 82 RX8 yX8_refuse wsX8_refuse) := goodIn_app (goodIn_of _ (by decide +kernel)) ggX8_letter_X8_refuse
set_option maxRecDepth 20000 in
theorem ggX8_letter_X5_setCams : GoodIn wsX8_letter wsX5_setCams := goodIn_r _ [18, 19, 20, 21, 33, 34, 35, 36, 37, 38] (by decide +kernel) (by decide +kernel)
set_option maxRecDepth 20000 in
theorem gX8_letter_X5_setCams : GoodIn wsX8_letter (wsV RX8 151 RX5 yX5_setCams wsX5_setCams) := goodIn_app (goodIn_of _ (by decide +kernel)) ggX8_letter_X5_setCams
theorem dX8_letter_0 : decode cX8_letter 0 = .ok (.iload_n 1, 1) := by decide +kernel
theorem dX8_letter_1 : decode cX8_letter 1 = .ok (.invokestatic 148, 3) := by decide +kernel
theorem dX8_letter_4 : decode cX8_letter 4 = .ok (.ifCond .eq 25, 3) := by decide +kernel
theorem dX8_letter_7 : decode cX8_letter 7 = .ok (.iload_n 2, 1) := by decide +kernel
theorem dX8_letter_8 : decode cX8_letter 8 = .ok (.invokestatic 97, 3) := by decide +kernel
theorem dX8_letter_11 : decode cX8_letter 11 = .ok (.ifCond .eq 18, 3) := by decide +kernel
theorem dX8_letter_14 : decode cX8_letter 14 = .ok (.iload_n 3, 1) := by decide +kernel
theorem dX8_letter_15 : decode cX8_letter 15 = .ok (.invokestatic 97, 3) := by decide +kernel
theorem dX8_letter_18 : decode cX8_letter 18 = .ok (.ifCond .eq 11, 3) := by decide +kernel
theorem dX8_letter_21 : decode cX8_letter 21 = .ok (.iload 4, 2) := by decide +kernel
theorem dX8_letter_23 : decode cX8_letter 23 = .ok (.invokestatic 97, 3) := by decide +kernel
theorem dX8_letter_26 : decode cX8_letter 26 = .ok (.ifCond .ne 9, 3) := by decide +kernel
theorem dX8_letter_29 : decode cX8_letter 29 = .ok (.aload_n 0, 1) := by decide +kernel
theorem dX8_letter_30 : decode cX8_letter 30 = .ok (.iconst (-1), 1) := by decide +kernel
theorem dX8_letter_31 : decode cX8_letter 31 = .ok (.invokevirtual 82, 3) := by decide +kernel
theorem dX8_letter_34 : decode cX8_letter 34 = .ok (.ireturn, 1) := by decide +kernel
theorem dX8_letter_35 : decode cX8_letter 35 = .ok (.aload_n 0, 1) := by decide +kernel
theorem dX8_letter_36 : decode cX8_letter 36 = .ok (.getfield 19, 3) := by decide +kernel
theorem dX8_letter_39 : decode cX8_letter 39 = .ok (.iload_n 1, 1) := by decide +kernel
theorem dX8_letter_40 : decode cX8_letter 40 = .ok (.iload_n 2, 1) := by decide +kernel
theorem dX8_letter_41 : decode cX8_letter 41 = .ok (.iload_n 3, 1) := by decide +kernel
theorem dX8_letter_42 : decode cX8_letter 42 = .ok (.iload 4, 2) := by decide +kernel
theorem dX8_letter_44 : decode cX8_letter 44 = .ok (.invokevirtual 151, 3) := by decide +kernel
theorem dX8_letter_47 : decode cX8_letter 47 = .ok (.iconst 1, 1) := by decide +kernel
theorem dX8_letter_48 : decode cX8_letter 48 = .ok (.ireturn, 1) := by decide +kernel
set_option maxRecDepth 20000 in
theorem ggX8_isCut_X8_isLetter : GoodIn wsX8_isCut wsX8_isLetter := goodIn_r _ [6] (by decide +kernel) (by decide +kernel)
set_option maxRecDepth 20000 in
theorem gX8_isCut_X8_isLetter : GoodIn wsX8_isCut (va_wsS RX8 148 yX8_isLetter wsX8_isLetter) := goodIn_app (goodIn_of _ (by decide +kernel)) ggX8_isCut_X8_isLetter
set_option maxRecDepth 20000 in
theorem ggX8_isCut_X8_refuse : GoodIn wsX8_isCut wsX8_refuse := goodIn_r _ [10, 11, 26, 27, 28, 29, 30, 31, 32, 33, 34, 35, 36] (by decide +kernel) (by decide +kernel)
set_option maxRecDepth 20000 in
theorem gX8_isCut_X8_refuse : GoodIn wsX8_isCut (wsV RX8 82 RX8 yX8_refuse wsX8_refuse) := goodIn_app (goodIn_of _ (by decide +kernel)) ggX8_isCut_X8_refuse
set_option maxRecDepth 20000 in
theorem ggX8_isCut_X5_hasAllCams : GoodIn wsX8_isCut wsX5_hasAllCams := goodIn_r _ [16, 17, 18, 19, 20, 21, 22, 23, 24, 25, 37, 38, 39, 40, 41, 42, 43, 44, 45, 46] (by decide +kernel) (by decide +kernel)
set_option maxRecDepth 20000 in
theorem gX8_isCut_X5_hasAllCams : GoodIn wsX8_isCut (wsV RX8 155 RX5 yX5_hasAllCams wsX5_hasAllCams) := goodIn_app (goodIn_of _ (by decide +kernel)) ggX8_isCut_X5_hasAllCams
theorem dX8_isCut_0 : decode cX8_isCut 0 = .ok (.iload_n 1, 1) := by decide +kernel
theorem dX8_isCut_1 : decode cX8_isCut 1 = .ok (.invokestatic 148, 3) := by decide +kernel
theorem dX8_isCut_4 : decode cX8_isCut 4 = .ok (.ifCond .ne 9, 3) := by decide +kernel
theorem dX8_isCut_7 : decode cX8_isCut 7 = .ok (.aload_n 0, 1) := by decide +kernel
theorem dX8_isCut_8 : decode cX8_isCut 8 = .ok (.iconst (-1), 1) := by decide +kernel
theorem dX8_isCut_9 : decode cX8_isCut 9 = .ok (.invokevirtual 82, 3) := by decide +kernel
theorem dX8_isCut_12 : decode cX8_isCut 12 = .ok (.ireturn, 1) := by decide +kernel
theorem dX8_isCut_13 : decode cX8_isCut 13 = .ok (.aload_n 0, 1) := by decide +kernel
theorem dX8_isCut_14 : decode cX8_isCut 14 = .ok (.getfield 19, 3) := by decide +kernel
theorem dX8_isCut_17 : decode cX8_isCut 17 = .ok (.iload_n 1, 1) := by decide +kernel
theorem dX8_isCut_18 : decode cX8_isCut 18 = .ok (.aload_n 0, 1) := by decide +kernel
theorem dX8_isCut_19 : decode cX8_isCut 19 = .ok (.getfield 10, 3) := by decide +kernel
theorem dX8_isCut_22 : decode cX8_isCut 22 = .ok (.invokevirtual 155, 3) := by decide +kernel
theorem dX8_isCut_25 : decode cX8_isCut 25 = .ok (.ifCond .eq 7, 3) := by decide +kernel
theorem dX8_isCut_28 : decode cX8_isCut 28 = .ok (.iconst 1, 1) := by decide +kernel
theorem dX8_isCut_29 : decode cX8_isCut 29 = .ok (.goto 4, 3) := by decide +kernel
theorem dX8_isCut_32 : decode cX8_isCut 32 = .ok (.iconst 0, 1) := by decide +kernel
theorem dX8_isCut_33 : decode cX8_isCut 33 = .ok (.ireturn, 1) := by decide +kernel
set_option maxRecDepth 20000 in
theorem ggX8_peg_X8_isLetter : GoodIn wsX8_peg wsX8_isLetter := goodIn_r _ [5] (by decide +kernel) (by decide +kernel)
set_option maxRecDepth 20000 in
theorem gX8_peg_X8_isLetter : GoodIn wsX8_peg (va_wsS RX8 148 yX8_isLetter wsX8_isLetter) := goodIn_app (goodIn_of _ (by decide +kernel)) ggX8_peg_X8_isLetter
set_option maxRecDepth 20000 in
theorem ggX8_peg_X8_refuse : GoodIn wsX8_peg wsX8_refuse := goodIn_r _ [9, 10, 22, 23, 24, 25, 26, 27, 28, 29, 30, 31, 32] (by decide +kernel) (by decide +kernel)
set_option maxRecDepth 20000 in
theorem gX8_peg_X8_refuse : GoodIn wsX8_peg (wsV RX8 82 RX8 yX8_refuse wsX8_refuse) := goodIn_app (goodIn_of _ (by decide +kernel)) ggX8_peg_X8_refuse
set_option maxRecDepth 20000 in
theorem ggX8_peg_X5_pegs : GoodIn wsX8_peg wsX5_pegs := goodIn_r _ [15, 16, 33, 34, 35, 36, 37, 38] (by decide +kernel) (by decide +kernel)
set_option maxRecDepth 20000 in
theorem gX8_peg_X5_pegs : GoodIn wsX8_peg (wsV RX8 159 RX5 yX5_pegs wsX5_pegs) := goodIn_app (goodIn_of _ (by decide +kernel)) ggX8_peg_X5_pegs
set_option maxRecDepth 20000 in
theorem ggX8_peg_X5_addPeg : GoodIn wsX8_peg wsX5_addPeg := goodIn_r _ [20, 21, 16, 33, 34, 35, 36, 37, 38] (by decide +kernel) (by decide +kernel)
set_option maxRecDepth 20000 in
theorem gX8_peg_X5_addPeg : GoodIn wsX8_peg (wsV RX8 162 RX5 yX5_addPeg wsX5_addPeg) := goodIn_app (goodIn_of _ (by decide +kernel)) ggX8_peg_X5_addPeg
theorem dX8_peg_0 : decode cX8_peg 0 = .ok (.iload_n 1, 1) := by decide +kernel
theorem dX8_peg_1 : decode cX8_peg 1 = .ok (.invokestatic 148, 3) := by decide +kernel
theorem dX8_peg_4 : decode cX8_peg 4 = .ok (.ifCond .ne 9, 3) := by decide +kernel
theorem dX8_peg_7 : decode cX8_peg 7 = .ok (.aload_n 0, 1) := by decide +kernel
theorem dX8_peg_8 : decode cX8_peg 8 = .ok (.iconst (-1), 1) := by decide +kernel
theorem dX8_peg_9 : decode cX8_peg 9 = .ok (.invokevirtual 82, 3) := by decide +kernel
theorem dX8_peg_12 : decode cX8_peg 12 = .ok (.ireturn, 1) := by decide +kernel
theorem dX8_peg_13 : decode cX8_peg 13 = .ok (.aload_n 0, 1) := by decide +kernel
theorem dX8_peg_14 : decode cX8_peg 14 = .ok (.getfield 19, 3) := by decide +kernel
theorem dX8_peg_17 : decode cX8_peg 17 = .ok (.invokevirtual 159, 3) := by decide +kernel
theorem dX8_peg_20 : decode cX8_peg 20 = .ok (.bipush 12, 2) := by decide +kernel
theorem dX8_peg_22 : decode cX8_peg 22 = .ok (.if_icmp .lt 10, 3) := by decide +kernel
theorem dX8_peg_25 : decode cX8_peg 25 = .ok (.aload_n 0, 1) := by decide +kernel
theorem dX8_peg_26 : decode cX8_peg 26 = .ok (.bipush (-6), 2) := by decide +kernel
theorem dX8_peg_28 : decode cX8_peg 28 = .ok (.invokevirtual 82, 3) := by decide +kernel
theorem dX8_peg_31 : decode cX8_peg 31 = .ok (.ireturn, 1) := by decide +kernel
theorem dX8_peg_32 : decode cX8_peg 32 = .ok (.aload_n 0, 1) := by decide +kernel
theorem dX8_peg_33 : decode cX8_peg 33 = .ok (.getfield 19, 3) := by decide +kernel
theorem dX8_peg_36 : decode cX8_peg 36 = .ok (.iload_n 1, 1) := by decide +kernel
theorem dX8_peg_37 : decode cX8_peg 37 = .ok (.invokevirtual 162, 3) := by decide +kernel
theorem dX8_peg_40 : decode cX8_peg 40 = .ok (.aload_n 0, 1) := by decide +kernel
theorem dX8_peg_41 : decode cX8_peg 41 = .ok (.getfield 19, 3) := by decide +kernel
theorem dX8_peg_44 : decode cX8_peg 44 = .ok (.invokevirtual 159, 3) := by decide +kernel
theorem dX8_peg_47 : decode cX8_peg 47 = .ok (.ireturn, 1) := by decide +kernel
set_option maxRecDepth 20000 in
theorem ggX8_unpeg_X5_pegs : GoodIn wsX8_unpeg wsX5_pegs := goodIn_r _ [6, 7, 29, 30, 31, 32, 33, 34] (by decide +kernel) (by decide +kernel)
set_option maxRecDepth 20000 in
theorem gX8_unpeg_X5_pegs : GoodIn wsX8_unpeg (wsV RX8 159 RX5 yX5_pegs wsX5_pegs) := goodIn_app (goodIn_of _ (by decide +kernel)) ggX8_unpeg_X5_pegs
set_option maxRecDepth 20000 in
theorem ggX8_unpeg_X8_refuse : GoodIn wsX8_unpeg wsX8_refuse := goodIn_r _ [12, 13, 18, 19, 20, 21, 22, 23, 24, 25, 26, 27, 28] (by decide +kernel) (by decide +kernel)
set_option maxRecDepth 20000 in
theorem gX8_unpeg_X8_refuse : GoodIn wsX8_unpeg (wsV RX8 82 RX8 yX8_refuse wsX8_refuse) := goodIn_app (goodIn_of _ (by decide +kernel)) ggX8_unpeg_X8_refuse
set_option maxRecDepth 20000 in
theorem ggX8_unpeg_X5_dropPeg : GoodIn wsX8_unpeg wsX5_dropPeg := goodIn_r _ [17, 7, 29, 30, 31, 32, 33, 34] (by decide +kernel) (by decide +kernel)
set_option maxRecDepth 20000 in
theorem gX8_unpeg_X5_dropPeg : GoodIn wsX8_unpeg (wsV RX8 165 RX5 yX5_dropPeg wsX5_dropPeg) := goodIn_app (goodIn_of _ (by decide +kernel)) ggX8_unpeg_X5_dropPeg
theorem dX8_unpeg_0 : decode cX8_unpeg 0 = .ok (.aload_n 0, 1) := by decide +kernel
theorem dX8_unpeg_1 : decode cX8_unpeg 1 = .ok (.getfield 19, 3) := by decide +kernel
theorem dX8_unpeg_4 : decode cX8_unpeg 4 = .ok (.invokevirtual 159, 3) := by decide +kernel
theorem dX8_unpeg_7 : decode cX8_unpeg 7 = .ok (.ifCond .gt 10, 3) := by decide +kernel
theorem dX8_unpeg_10 : decode cX8_unpeg 10 = .ok (.aload_n 0, 1) := by decide +kernel
theorem dX8_unpeg_11 : decode cX8_unpeg 11 = .ok (.bipush (-3), 2) := by decide +kernel
theorem dX8_unpeg_13 : decode cX8_unpeg 13 = .ok (.invokevirtual 82, 3) := by decide +kernel
theorem dX8_unpeg_16 : decode cX8_unpeg 16 = .ok (.ireturn, 1) := by decide +kernel
theorem dX8_unpeg_17 : decode cX8_unpeg 17 = .ok (.aload_n 0, 1) := by decide +kernel
theorem dX8_unpeg_18 : decode cX8_unpeg 18 = .ok (.getfield 19, 3) := by decide +kernel
theorem dX8_unpeg_21 : decode cX8_unpeg 21 = .ok (.invokevirtual 165, 3) := by decide +kernel
theorem dX8_unpeg_24 : decode cX8_unpeg 24 = .ok (.aload_n 0, 1) := by decide +kernel
theorem dX8_unpeg_25 : decode cX8_unpeg 25 = .ok (.getfield 19, 3) := by decide +kernel
theorem dX8_unpeg_28 : decode cX8_unpeg 28 = .ok (.invokevirtual 159, 3) := by decide +kernel
theorem dX8_unpeg_31 : decode cX8_unpeg 31 = .ok (.ireturn, 1) := by decide +kernel
set_option maxRecDepth 20000 in
theorem ggX8_advance_X8_refuse : GoodIn wsX8_advance wsX8_refuse := goodIn_r _ [6, 7, 18, 19, 20, 21, 22, 23, 24, 25, 26, 27, 28] (by decide +kernel) (by decide +kernel)
set_option maxRecDepth 20000 in
theorem gX8_advance_X8_refuse : GoodIn wsX8_advance (wsV RX8 82 RX8 yX8_refuse wsX8_refuse) := goodIn_app (goodIn_of _ (by decide +kernel)) ggX8_advance_X8_refuse
set_option maxRecDepth 20000 in
theorem ggX8_advance_X5_space : GoodIn wsX8_advance wsX5_space := goodIn_r _ [12, 13, 29, 30, 31, 32, 33, 34] (by decide +kernel) (by decide +kernel)
set_option maxRecDepth 20000 in
theorem gX8_advance_X5_space : GoodIn wsX8_advance (wsV RX8 168 RX5 yX5_space wsX5_space) := goodIn_app (goodIn_of _ (by decide +kernel)) ggX8_advance_X5_space
set_option maxRecDepth 20000 in
theorem ggX8_advance_X5_setSpace : GoodIn wsX8_advance wsX5_setSpace := goodIn_r _ [17, 13, 29, 30, 31, 32, 33, 34] (by decide +kernel) (by decide +kernel)
set_option maxRecDepth 20000 in
theorem gX8_advance_X5_setSpace : GoodIn wsX8_advance (wsV RX8 171 RX5 yX5_setSpace wsX5_setSpace) := goodIn_app (goodIn_of _ (by decide +kernel)) ggX8_advance_X5_setSpace
theorem dX8_advance_0 : decode cX8_advance 0 = .ok (.iload_n 1, 1) := by decide +kernel
theorem dX8_advance_1 : decode cX8_advance 1 = .ok (.ifCond .ge 10, 3) := by decide +kernel
theorem dX8_advance_4 : decode cX8_advance 4 = .ok (.aload_n 0, 1) := by decide +kernel
theorem dX8_advance_5 : decode cX8_advance 5 = .ok (.bipush (-4), 2) := by decide +kernel
theorem dX8_advance_7 : decode cX8_advance 7 = .ok (.invokevirtual 82, 3) := by decide +kernel
theorem dX8_advance_10 : decode cX8_advance 10 = .ok (.ireturn, 1) := by decide +kernel
theorem dX8_advance_11 : decode cX8_advance 11 = .ok (.iload_n 1, 1) := by decide +kernel
theorem dX8_advance_12 : decode cX8_advance 12 = .ok (.bipush 9, 2) := by decide +kernel
theorem dX8_advance_14 : decode cX8_advance 14 = .ok (.if_icmp .le 10, 3) := by decide +kernel
theorem dX8_advance_17 : decode cX8_advance 17 = .ok (.aload_n 0, 1) := by decide +kernel
theorem dX8_advance_18 : decode cX8_advance 18 = .ok (.bipush (-6), 2) := by decide +kernel
theorem dX8_advance_20 : decode cX8_advance 20 = .ok (.invokevirtual 82, 3) := by decide +kernel
theorem dX8_advance_23 : decode cX8_advance 23 = .ok (.ireturn, 1) := by decide +kernel
theorem dX8_advance_24 : decode cX8_advance 24 = .ok (.aload_n 0, 1) := by decide +kernel
theorem dX8_advance_25 : decode cX8_advance 25 = .ok (.getfield 19, 3) := by decide +kernel
theorem dX8_advance_28 : decode cX8_advance 28 = .ok (.invokevirtual 168, 3) := by decide +kernel
theorem dX8_advance_31 : decode cX8_advance 31 = .ok (.istore_n 2, 1) := by decide +kernel
theorem dX8_advance_32 : decode cX8_advance 32 = .ok (.aload_n 0, 1) := by decide +kernel
theorem dX8_advance_33 : decode cX8_advance 33 = .ok (.getfield 19, 3) := by decide +kernel
theorem dX8_advance_36 : decode cX8_advance 36 = .ok (.iload_n 1, 1) := by decide +kernel
theorem dX8_advance_37 : decode cX8_advance 37 = .ok (.invokevirtual 171, 3) := by decide +kernel
theorem dX8_advance_40 : decode cX8_advance 40 = .ok (.iload_n 2, 1) := by decide +kernel
theorem dX8_advance_41 : decode cX8_advance 41 = .ok (.ireturn, 1) := by decide +kernel
set_option maxRecDepth 20000 in
theorem ggX8_pull_X8_refuse : GoodIn wsX8_pull wsX8_refuse := goodIn_r _ [6, 7, 18, 19, 20, 21, 22, 23, 24, 25, 26, 27, 28] (by decide +kernel) (by decide +kernel)
set_option maxRecDepth 20000 in
theorem gX8_pull_X8_refuse : GoodIn wsX8_pull (wsV RX8 82 RX8 yX8_refuse wsX8_refuse) := goodIn_app (goodIn_of _ (by decide +kernel)) ggX8_pull_X8_refuse
set_option maxRecDepth 20000 in
theorem ggX8_pull_X7_load : GoodIn wsX8_pull wsX7_load := goodIn_r _ [12, 13, 29, 30, 31, 32, 33] (by decide +kernel) (by decide +kernel)
set_option maxRecDepth 20000 in
theorem gX8_pull_X7_load : GoodIn wsX8_pull (wsV RX8 174 RX7 yX7_load wsX7_load) := goodIn_app (goodIn_of _ (by decide +kernel)) ggX8_pull_X7_load
set_option maxRecDepth 20000 in
theorem ggX8_pull_X7_setLoad : GoodIn wsX8_pull wsX7_setLoad := goodIn_r _ [17, 13, 29, 30, 31, 32, 33] (by decide +kernel) (by decide +kernel)
set_option maxRecDepth 20000 in
theorem gX8_pull_X7_setLoad : GoodIn wsX8_pull (wsV RX8 177 RX7 yX7_setLoad wsX7_setLoad) := goodIn_app (goodIn_of _ (by decide +kernel)) ggX8_pull_X7_setLoad
theorem dX8_pull_0 : decode cX8_pull 0 = .ok (.iload_n 1, 1) := by decide +kernel
theorem dX8_pull_1 : decode cX8_pull 1 = .ok (.iconst 1, 1) := by decide +kernel
theorem dX8_pull_2 : decode cX8_pull 2 = .ok (.if_icmp .ge 10, 3) := by decide +kernel
theorem dX8_pull_5 : decode cX8_pull 5 = .ok (.aload_n 0, 1) := by decide +kernel
theorem dX8_pull_6 : decode cX8_pull 6 = .ok (.bipush (-4), 2) := by decide +kernel
theorem dX8_pull_8 : decode cX8_pull 8 = .ok (.invokevirtual 82, 3) := by decide +kernel
theorem dX8_pull_11 : decode cX8_pull 11 = .ok (.ireturn, 1) := by decide +kernel
theorem dX8_pull_12 : decode cX8_pull 12 = .ok (.iload_n 1, 1) := by decide +kernel
theorem dX8_pull_13 : decode cX8_pull 13 = .ok (.bipush 20, 2) := by decide +kernel
theorem dX8_pull_15 : decode cX8_pull 15 = .ok (.if_icmp .le 10, 3) := by decide +kernel
theorem dX8_pull_18 : decode cX8_pull 18 = .ok (.aload_n 0, 1) := by decide +kernel
theorem dX8_pull_19 : decode cX8_pull 19 = .ok (.bipush (-6), 2) := by decide +kernel
theorem dX8_pull_21 : decode cX8_pull 21 = .ok (.invokevirtual 82, 3) := by decide +kernel
theorem dX8_pull_24 : decode cX8_pull 24 = .ok (.ireturn, 1) := by decide +kernel
theorem dX8_pull_25 : decode cX8_pull 25 = .ok (.aload_n 0, 1) := by decide +kernel
theorem dX8_pull_26 : decode cX8_pull 26 = .ok (.getfield 26, 3) := by decide +kernel
theorem dX8_pull_29 : decode cX8_pull 29 = .ok (.invokevirtual 174, 3) := by decide +kernel
theorem dX8_pull_32 : decode cX8_pull 32 = .ok (.istore_n 2, 1) := by decide +kernel
theorem dX8_pull_33 : decode cX8_pull 33 = .ok (.aload_n 0, 1) := by decide +kernel
theorem dX8_pull_34 : decode cX8_pull 34 = .ok (.getfield 26, 3) := by decide +kernel
theorem dX8_pull_37 : decode cX8_pull 37 = .ok (.iload_n 1, 1) := by decide +kernel
theorem dX8_pull_38 : decode cX8_pull 38 = .ok (.invokevirtual 177, 3) := by decide +kernel
theorem dX8_pull_41 : decode cX8_pull 41 = .ok (.iload_n 2, 1) := by decide +kernel
theorem dX8_pull_42 : decode cX8_pull 42 = .ok (.ireturn, 1) := by decide +kernel
set_option maxRecDepth 20000 in
theorem ggX8_wind_X8_refuse : GoodIn wsX8_wind wsX8_refuse := goodIn_r _ [6, 7, 19, 20, 21, 22, 23, 24, 25, 26, 27, 28, 29] (by decide +kernel) (by decide +kernel)
set_option maxRecDepth 20000 in
theorem gX8_wind_X8_refuse : GoodIn wsX8_wind (wsV RX8 82 RX8 yX8_refuse wsX8_refuse) := goodIn_app (goodIn_of _ (by decide +kernel)) ggX8_wind_X8_refuse
set_option maxRecDepth 20000 in
theorem ggX8_wind_X7_tighten : GoodIn wsX8_wind wsX7_tighten := goodIn_r _ [12, 13, 14, 30, 31, 32, 33, 34] (by decide +kernel) (by decide +kernel)
set_option maxRecDepth 20000 in
theorem gX8_wind_X7_tighten : GoodIn wsX8_wind (wsV RX8 180 RX7 yX7_tighten wsX7_tighten) := goodIn_app (goodIn_of _ (by decide +kernel)) ggX8_wind_X7_tighten
set_option maxRecDepth 20000 in
theorem ggX8_wind_X7_power : GoodIn wsX8_wind wsX7_power := goodIn_r _ [18, 13, 30, 31, 32, 33, 34] (by decide +kernel) (by decide +kernel)
set_option maxRecDepth 20000 in
theorem gX8_wind_X7_power : GoodIn wsX8_wind (wsV RX8 183 RX7 yX7_power wsX7_power) := goodIn_app (goodIn_of _ (by decide +kernel)) ggX8_wind_X7_power
theorem dX8_wind_0 : decode cX8_wind 0 = .ok (.iload_n 1, 1) := by decide +kernel
theorem dX8_wind_1 : decode cX8_wind 1 = .ok (.ifCond .ge 10, 3) := by decide +kernel
theorem dX8_wind_4 : decode cX8_wind 4 = .ok (.aload_n 0, 1) := by decide +kernel
theorem dX8_wind_5 : decode cX8_wind 5 = .ok (.bipush (-4), 2) := by decide +kernel
theorem dX8_wind_7 : decode cX8_wind 7 = .ok (.invokevirtual 82, 3) := by decide +kernel
theorem dX8_wind_10 : decode cX8_wind 10 = .ok (.ireturn, 1) := by decide +kernel
theorem dX8_wind_11 : decode cX8_wind 11 = .ok (.iload_n 1, 1) := by decide +kernel
theorem dX8_wind_12 : decode cX8_wind 12 = .ok (.sipush 5000, 3) := by decide +kernel
theorem dX8_wind_15 : decode cX8_wind 15 = .ok (.if_icmp .le 10, 3) := by decide +kernel
theorem dX8_wind_18 : decode cX8_wind 18 = .ok (.aload_n 0, 1) := by decide +kernel
theorem dX8_wind_19 : decode cX8_wind 19 = .ok (.bipush (-6), 2) := by decide +kernel
theorem dX8_wind_21 : decode cX8_wind 21 = .ok (.invokevirtual 82, 3) := by decide +kernel
theorem dX8_wind_24 : decode cX8_wind 24 = .ok (.ireturn, 1) := by decide +kernel
theorem dX8_wind_25 : decode cX8_wind 25 = .ok (.aload_n 0, 1) := by decide +kernel
theorem dX8_wind_26 : decode cX8_wind 26 = .ok (.getfield 26, 3) := by decide +kernel
theorem dX8_wind_29 : decode cX8_wind 29 = .ok (.iload_n 1, 1) := by decide +kernel
theorem dX8_wind_30 : decode cX8_wind 30 = .ok (.invokevirtual 180, 3) := by decide +kernel
theorem dX8_wind_33 : decode cX8_wind 33 = .ok (.aload_n 0, 1) := by decide +kernel
theorem dX8_wind_34 : decode cX8_wind 34 = .ok (.getfield 26, 3) := by decide +kernel
theorem dX8_wind_37 : decode cX8_wind 37 = .ok (.invokevirtual 183, 3) := by decide +kernel
theorem dX8_wind_40 : decode cX8_wind 40 = .ok (.ireturn, 1) := by decide +kernel
set_option maxRecDepth 20000 in
theorem ggX8_show_X5_isWritable : GoodIn wsX8_show wsX5_isWritable := goodIn_r _ [11, 12, 13, 14, 15, 16, 10, 17, 18, 19, 20, 21, 22, 23, 24, 25, 26, 188, 189, 190, 191, 192, 193, 194, 195, 196, 197] (by decide +kernel) (by decide +kernel)
set_option maxRecDepth 20000 in
theorem gX8_show_X5_isWritable : GoodIn wsX8_show (wsV RX8 186 RX5 yX5_isWritable wsX5_isWritable) := goodIn_app (goodIn_of _ (by decide +kernel)) ggX8_show_X5_isWritable
set_option maxRecDepth 20000 in
theorem ggX8_show_X8_refuse : GoodIn wsX8_show wsX8_refuse := goodIn_r _ [31, 32, 177, 178, 179, 180, 181, 182, 183, 184, 185, 186, 187] (by decide +kernel) (by decide +kernel)
set_option maxRecDepth 20000 in
theorem gX8_show_X8_refuse : GoodIn wsX8_show (wsV RX8 82 RX8 yX8_refuse wsX8_refuse) := goodIn_app (goodIn_of _ (by decide +kernel)) ggX8_show_X8_refuse
set_option maxRecDepth 20000 in
theorem ggX8_show_X7_steps : GoodIn wsX8_show wsX7_steps := goodIn_r _ [37, 38, 198, 199, 200, 201, 202] (by decide +kernel) (by decide +kernel)
set_option maxRecDepth 20000 in
theorem gX8_show_X7_steps : GoodIn wsX8_show (wsV RX8 190 RX7 yX7_steps wsX7_steps) := goodIn_app (goodIn_of _ (by decide +kernel)) ggX8_show_X7_steps
set_option maxRecDepth 20000 in
theorem ggX8_show_X6_clear : GoodIn wsX8_show wsX6_clear := goodIn_r _ [43, 44, 45, 46, 47, 48, 203, 204] (by decide +kernel) (by decide +kernel)
set_option maxRecDepth 20000 in
theorem gX8_show_X6_clear : GoodIn wsX8_show (wsV RX8 94 RX6 yX6_clear wsX6_clear) := goodIn_app (goodIn_of _ (by decide +kernel)) ggX8_show_X6_clear
set_option maxRecDepth 20000 in
theorem ggX8_show_X8_perform : GoodIn wsX8_show wsX8_perform := goodIn_r _ [52, 1, 53, 2, 3, 54, 4, 55, 56, 57, 10, 58, 12, 59, 60, 61, 62, 63, 64, 65, 66, 67, 24, 68, 69, 70, 71, 72, 36, 73, 74, 75, 76, 38, 77, 78, 79, 80, 81, 82, 83, 84, 85, 86, 87, 88, 89, 90, 91, 92, 93, 94, 95, 96, 97, 98, 99, 100, 101, 102, 20, 13, 103, 104, 105, 106, 107, 108, 109, 110, 111, 112, 113, 114, 115, 116, 117, 118, 119, 120, 121, 122, 123, 124, 125, 18, 126, 127, 128, 129, 130, 131, 132, 133, 134, 135, 136, 137, 138, 139, 140, 141, 142, 143, 19, 144, 145, 146, 147, 148, 149, 150, 151, 42, 152, 44, 153, 154, 155, 156, 157, 158, 159, 160, 161, 162, 163, 164, 165, 166, 167, 168, 169, 170, 171, 172, 173, 174, 175, 176, 177, 178, 179, 180, 181, 182, 183, 184, 185, 186, 187, 188, 189, 190, 191, 192, 193, 205, 206, 207, 194, 195, 196, 197, 198, 199, 200, 201, 202, 208, 209, 203, 204] (by decide +kernel) (by decide +kernel)
set_option maxRecDepth 20000 in
theorem gX8_show_X8_perform : GoodIn wsX8_show (wsV RX8 191 RX8 yX8_perform wsX8_perform) := goodIn_app (goodIn_of _ (by decide +kernel)) ggX8_show_X8_perform
theorem dX8_show_0 : decode cX8_show 0 = .ok (.aload_n 0, 1) := by decide +kernel
theorem dX8_show_1 : decode cX8_show 1 = .ok (.getfield 19, 3) := by decide +kernel
theorem dX8_show_4 : decode cX8_show 4 = .ok (.aload_n 0, 1) := by decide +kernel
theorem dX8_show_5 : decode cX8_show 5 = .ok (.getfield 10, 3) := by decide +kernel
theorem dX8_show_8 : decode cX8_show 8 = .ok (.invokevirtual 186, 3) := by decide +kernel
theorem dX8_show_11 : decode cX8_show 11 = .ok (.ifCond .ne 10, 3) := by decide +kernel
theorem dX8_show_14 : decode cX8_show 14 = .ok (.aload_n 0, 1) := by decide +kernel
theorem dX8_show_15 : decode cX8_show 15 = .ok (.bipush (-3), 2) := by decide +kernel
theorem dX8_show_17 : decode cX8_show 17 = .ok (.invokevirtual 82, 3) := by decide +kernel
theorem dX8_show_20 : decode cX8_show 20 = .ok (.ireturn, 1) := by decide +kernel
theorem dX8_show_21 : decode cX8_show 21 = .ok (.aload_n 0, 1) := by decide +kernel
theorem dX8_show_22 : decode cX8_show 22 = .ok (.getfield 26, 3) := by decide +kernel
theorem dX8_show_25 : decode cX8_show 25 = .ok (.invokevirtual 190, 3) := by decide +kernel
theorem dX8_show_28 : decode cX8_show 28 = .ok (.istore_n 1, 1) := by decide +kernel
theorem dX8_show_29 : decode cX8_show 29 = .ok (.aload_n 0, 1) := by decide +kernel
theorem dX8_show_30 : decode cX8_show 30 = .ok (.getfield 35, 3) := by decide +kernel
theorem dX8_show_33 : decode cX8_show 33 = .ok (.invokevirtual 94, 3) := by decide +kernel
theorem dX8_show_36 : decode cX8_show 36 = .ok (.aload_n 0, 1) := by decide +kernel
theorem dX8_show_37 : decode cX8_show 37 = .ok (.dup, 1) := by decide +kernel
theorem dX8_show_38 : decode cX8_show 38 = .ok (.getfield 75, 3) := by decide +kernel
theorem dX8_show_41 : decode cX8_show 41 = .ok (.iconst 1, 1) := by decide +kernel
theorem dX8_show_42 : decode cX8_show 42 = .ok (.iadd, 1) := by decide +kernel
theorem dX8_show_43 : decode cX8_show 43 = .ok (.putfield 75, 3) := by decide +kernel
theorem dX8_show_46 : decode cX8_show 46 = .ok (.aload_n 0, 1) := by decide +kernel
theorem dX8_show_47 : decode cX8_show 47 = .ok (.invokevirtual 191, 3) := by decide +kernel
theorem dX8_show_50 : decode cX8_show 50 = .ok (.ifCond .eq 13, 3) := by decide +kernel
theorem dX8_show_53 : decode cX8_show 53 = .ok (.aload_n 0, 1) := by decide +kernel
theorem dX8_show_54 : decode cX8_show 54 = .ok (.dup, 1) := by decide +kernel
theorem dX8_show_55 : decode cX8_show 55 = .ok (.getfield 79, 3) := by decide +kernel
theorem dX8_show_58 : decode cX8_show 58 = .ok (.iconst 1, 1) := by decide +kernel
theorem dX8_show_59 : decode cX8_show 59 = .ok (.iadd, 1) := by decide +kernel
theorem dX8_show_60 : decode cX8_show 60 = .ok (.putfield 79, 3) := by decide +kernel
theorem dX8_show_63 : decode cX8_show 63 = .ok (.aload_n 0, 1) := by decide +kernel
theorem dX8_show_64 : decode cX8_show 64 = .ok (.getfield 26, 3) := by decide +kernel
theorem dX8_show_67 : decode cX8_show 67 = .ok (.invokevirtual 190, 3) := by decide +kernel
theorem dX8_show_70 : decode cX8_show 70 = .ok (.iload_n 1, 1) := by decide +kernel
theorem dX8_show_71 : decode cX8_show 71 = .ok (.isub, 1) := by decide +kernel
theorem dX8_show_72 : decode cX8_show 72 = .ok (.ireturn, 1) := by decide +kernel
set_option maxRecDepth 20000 in
theorem ggX8_marked_X6_hasPlace : GoodIn wsX8_marked wsX6_hasPlace := goodIn_r _ [5] (by decide +kernel) (by decide +kernel)
set_option maxRecDepth 20000 in
theorem gX8_marked_X6_hasPlace : GoodIn wsX8_marked (va_wsS RX8 195 yX6_hasPlace wsX6_hasPlace) := goodIn_app (goodIn_of _ (by decide +kernel)) ggX8_marked_X6_hasPlace
set_option maxRecDepth 20000 in
theorem ggX8_marked_X8_refuse : GoodIn wsX8_marked wsX8_refuse := goodIn_r _ [10, 11, 17, 18, 19, 20, 21, 22, 23, 24, 25, 26, 27] (by decide +kernel) (by decide +kernel)
set_option maxRecDepth 20000 in
theorem gX8_marked_X8_refuse : GoodIn wsX8_marked (wsV RX8 82 RX8 yX8_refuse wsX8_refuse) := goodIn_app (goodIn_of _ (by decide +kernel)) ggX8_marked_X8_refuse
set_option maxRecDepth 20000 in
theorem ggX8_marked_X6_isMarked : GoodIn wsX8_marked wsX6_isMarked := goodIn_r _ [15, 16, 28, 29] (by decide +kernel) (by decide +kernel)
set_option maxRecDepth 20000 in
theorem gX8_marked_X6_isMarked : GoodIn wsX8_marked (wsV RX8 198 RX6 yX6_isMarked wsX6_isMarked) := goodIn_app (goodIn_of _ (by decide +kernel)) ggX8_marked_X6_isMarked
theorem dX8_marked_0 : decode cX8_marked 0 = .ok (.iload_n 1, 1) := by decide +kernel
theorem dX8_marked_1 : decode cX8_marked 1 = .ok (.iload_n 2, 1) := by decide +kernel
theorem dX8_marked_2 : decode cX8_marked 2 = .ok (.invokestatic 195, 3) := by decide +kernel
theorem dX8_marked_5 : decode cX8_marked 5 = .ok (.ifCond .ne 9, 3) := by decide +kernel
theorem dX8_marked_8 : decode cX8_marked 8 = .ok (.aload_n 0, 1) := by decide +kernel
theorem dX8_marked_9 : decode cX8_marked 9 = .ok (.iconst (-1), 1) := by decide +kernel
theorem dX8_marked_10 : decode cX8_marked 10 = .ok (.invokevirtual 82, 3) := by decide +kernel
theorem dX8_marked_13 : decode cX8_marked 13 = .ok (.ireturn, 1) := by decide +kernel
theorem dX8_marked_14 : decode cX8_marked 14 = .ok (.aload_n 0, 1) := by decide +kernel
theorem dX8_marked_15 : decode cX8_marked 15 = .ok (.getfield 35, 3) := by decide +kernel
theorem dX8_marked_18 : decode cX8_marked 18 = .ok (.iload_n 1, 1) := by decide +kernel
theorem dX8_marked_19 : decode cX8_marked 19 = .ok (.iload_n 2, 1) := by decide +kernel
theorem dX8_marked_20 : decode cX8_marked 20 = .ok (.invokevirtual 198, 3) := by decide +kernel
theorem dX8_marked_23 : decode cX8_marked 23 = .ok (.ifCond .eq 7, 3) := by decide +kernel
theorem dX8_marked_26 : decode cX8_marked 26 = .ok (.iconst 1, 1) := by decide +kernel
theorem dX8_marked_27 : decode cX8_marked 27 = .ok (.goto 4, 3) := by decide +kernel
theorem dX8_marked_30 : decode cX8_marked 30 = .ok (.iconst 0, 1) := by decide +kernel
theorem dX8_marked_31 : decode cX8_marked 31 = .ok (.ireturn, 1) := by decide +kernel
set_option maxRecDepth 20000 in
theorem ggX8_first_X6_hasPlace : GoodIn wsX8_first wsX6_hasPlace := goodIn_r _ [5] (by decide +kernel) (by decide +kernel)
set_option maxRecDepth 20000 in
theorem gX8_first_X6_hasPlace : GoodIn wsX8_first (va_wsS RX8 195 yX6_hasPlace wsX6_hasPlace) := goodIn_app (goodIn_of _ (by decide +kernel)) ggX8_first_X6_hasPlace
set_option maxRecDepth 20000 in
theorem ggX8_first_X8_refuse : GoodIn wsX8_first wsX8_refuse := goodIn_r _ [10, 11, 30, 31, 32, 33, 34, 35, 36, 37, 38, 39, 40] (by decide +kernel) (by decide +kernel)
set_option maxRecDepth 20000 in
theorem gX8_first_X8_refuse : GoodIn wsX8_first (wsV RX8 82 RX8 yX8_refuse wsX8_refuse) := goodIn_app (goodIn_of _ (by decide +kernel)) ggX8_first_X8_refuse
set_option maxRecDepth 20000 in
theorem ggX8_first_X6_isMarked : GoodIn wsX8_first wsX6_isMarked := goodIn_r _ [15, 16, 41, 42] (by decide +kernel) (by decide +kernel)
set_option maxRecDepth 20000 in
theorem gX8_first_X6_isMarked : GoodIn wsX8_first (wsV RX8 198 RX6 yX6_isMarked wsX6_isMarked) := goodIn_app (goodIn_of _ (by decide +kernel)) ggX8_first_X6_isMarked
set_option maxRecDepth 20000 in
theorem ggX8_first_X6_pegThatMarked : GoodIn wsX8_first wsX6_pegThatMarked := goodIn_r _ [20, 21, 22, 23, 4, 24, 25, 41, 42] (by decide +kernel) (by decide +kernel)
set_option maxRecDepth 20000 in
theorem gX8_first_X6_pegThatMarked : GoodIn wsX8_first (wsV RX8 201 RX6 yX6_pegThatMarked wsX6_pegThatMarked) := goodIn_app (goodIn_of _ (by decide +kernel)) ggX8_first_X6_pegThatMarked
set_option maxRecDepth 20000 in
theorem ggX8_first_X6_stepThatMarked : GoodIn wsX8_first wsX6_stepThatMarked := goodIn_r _ [29, 21, 22, 23, 4, 24, 25, 41, 42] (by decide +kernel) (by decide +kernel)
set_option maxRecDepth 20000 in
theorem gX8_first_X6_stepThatMarked : GoodIn wsX8_first (wsV RX8 204 RX6 yX6_stepThatMarked wsX6_stepThatMarked) := goodIn_app (goodIn_of _ (by decide +kernel)) ggX8_first_X6_stepThatMarked
theorem dX8_first_0 : decode cX8_first 0 = .ok (.iload_n 1, 1) := by decide +kernel
theorem dX8_first_1 : decode cX8_first 1 = .ok (.iload_n 2, 1) := by decide +kernel
theorem dX8_first_2 : decode cX8_first 2 = .ok (.invokestatic 195, 3) := by decide +kernel
theorem dX8_first_5 : decode cX8_first 5 = .ok (.ifCond .ne 9, 3) := by decide +kernel
theorem dX8_first_8 : decode cX8_first 8 = .ok (.aload_n 0, 1) := by decide +kernel
theorem dX8_first_9 : decode cX8_first 9 = .ok (.iconst (-1), 1) := by decide +kernel
theorem dX8_first_10 : decode cX8_first 10 = .ok (.invokevirtual 82, 3) := by decide +kernel
theorem dX8_first_13 : decode cX8_first 13 = .ok (.ireturn, 1) := by decide +kernel
theorem dX8_first_14 : decode cX8_first 14 = .ok (.iload_n 3, 1) := by decide +kernel
theorem dX8_first_15 : decode cX8_first 15 = .ok (.ifCond .eq 15, 3) := by decide +kernel
theorem dX8_first_18 : decode cX8_first 18 = .ok (.iload_n 3, 1) := by decide +kernel
theorem dX8_first_19 : decode cX8_first 19 = .ok (.iconst 1, 1) := by decide +kernel
theorem dX8_first_20 : decode cX8_first 20 = .ok (.if_icmp .eq 10, 3) := by decide +kernel
theorem dX8_first_23 : decode cX8_first 23 = .ok (.aload_n 0, 1) := by decide +kernel
theorem dX8_first_24 : decode cX8_first 24 = .ok (.bipush (-2), 2) := by decide +kernel
theorem dX8_first_26 : decode cX8_first 26 = .ok (.invokevirtual 82, 3) := by decide +kernel
theorem dX8_first_29 : decode cX8_first 29 = .ok (.ireturn, 1) := by decide +kernel
theorem dX8_first_30 : decode cX8_first 30 = .ok (.aload_n 0, 1) := by decide +kernel
theorem dX8_first_31 : decode cX8_first 31 = .ok (.getfield 35, 3) := by decide +kernel
theorem dX8_first_34 : decode cX8_first 34 = .ok (.iload_n 1, 1) := by decide +kernel
theorem dX8_first_35 : decode cX8_first 35 = .ok (.iload_n 2, 1) := by decide +kernel
theorem dX8_first_36 : decode cX8_first 36 = .ok (.invokevirtual 198, 3) := by decide +kernel
theorem dX8_first_39 : decode cX8_first 39 = .ok (.ifCond .ne 6, 3) := by decide +kernel
theorem dX8_first_42 : decode cX8_first 42 = .ok (.bipush (-9), 2) := by decide +kernel
theorem dX8_first_44 : decode cX8_first 44 = .ok (.ireturn, 1) := by decide +kernel
theorem dX8_first_45 : decode cX8_first 45 = .ok (.iload_n 3, 1) := by decide +kernel
theorem dX8_first_46 : decode cX8_first 46 = .ok (.ifCond .ne 15, 3) := by decide +kernel
theorem dX8_first_49 : decode cX8_first 49 = .ok (.aload_n 0, 1) := by decide +kernel
theorem dX8_first_50 : decode cX8_first 50 = .ok (.getfield 35, 3) := by decide +kernel
theorem dX8_first_53 : decode cX8_first 53 = .ok (.iload_n 1, 1) := by decide +kernel
theorem dX8_first_54 : decode cX8_first 54 = .ok (.iload_n 2, 1) := by decide +kernel
theorem dX8_first_55 : decode cX8_first 55 = .ok (.invokevirtual 201, 3) := by decide +kernel
theorem dX8_first_58 : decode cX8_first 58 = .ok (.goto 12, 3) := by decide +kernel
theorem dX8_first_61 : decode cX8_first 61 = .ok (.aload_n 0, 1) := by decide +kernel
theorem dX8_first_62 : decode cX8_first 62 = .ok (.getfield 35, 3) := by decide +kernel
theorem dX8_first_65 : decode cX8_first 65 = .ok (.iload_n 1, 1) := by decide +kernel
theorem dX8_first_66 : decode cX8_first 66 = .ok (.iload_n 2, 1) := by decide +kernel
theorem dX8_first_67 : decode cX8_first 67 = .ok (.invokevirtual 204, 3) := by decide +kernel
theorem dX8_first_70 : decode cX8_first 70 = .ok (.ireturn, 1) := by decide +kernel
set_option maxRecDepth 20000 in
theorem ggX8_marks_X6_size : GoodIn wsX8_marks wsX6_size := goodIn_r _ [6, 7, 8, 9, 10, 11, 12, 13, 14, 26, 27] (by decide +kernel) (by decide +kernel)
set_option maxRecDepth 20000 in
theorem gX8_marks_X6_size : GoodIn wsX8_marks (wsV RX8 207 RX6 yX6_size wsX6_size) := goodIn_app (goodIn_of _ (by decide +kernel)) ggX8_marks_X6_size
theorem dX8_marks_0 : decode cX8_marks 0 = .ok (.aload_n 0, 1) := by decide +kernel
theorem dX8_marks_1 : decode cX8_marks 1 = .ok (.getfield 35, 3) := by decide +kernel
theorem dX8_marks_4 : decode cX8_marks 4 = .ok (.invokevirtual 207, 3) := by decide +kernel
theorem dX8_marks_7 : decode cX8_marks 7 = .ok (.ireturn, 1) := by decide +kernel
set_option maxRecDepth 20000 in
theorem ggX8_see_X6_hasPlace : GoodIn wsX8_see wsX6_hasPlace := goodIn_r _ [5] (by decide +kernel) (by decide +kernel)
set_option maxRecDepth 20000 in
theorem gX8_see_X6_hasPlace : GoodIn wsX8_see (va_wsS RX8 195 yX6_hasPlace wsX6_hasPlace) := goodIn_app (goodIn_of _ (by decide +kernel)) ggX8_see_X6_hasPlace
set_option maxRecDepth 20000 in
theorem ggX8_see_X8_refuse : GoodIn wsX8_see wsX8_refuse := goodIn_r _ [10, 11, 29, 30, 31, 32, 33, 34, 35, 36, 37, 38, 39] (by decide +kernel) (by decide +kernel)
set_option maxRecDepth 20000 in
theorem gX8_see_X8_refuse : GoodIn wsX8_see (wsV RX8 82 RX8 yX8_refuse wsX8_refuse) := goodIn_app (goodIn_of _ (by decide +kernel)) ggX8_see_X8_refuse
set_option maxRecDepth 20000 in
theorem ggX8_see_X6_isMarked : GoodIn wsX8_see wsX6_isMarked := goodIn_r _ [15, 16, 40, 41] (by decide +kernel) (by decide +kernel)
set_option maxRecDepth 20000 in
theorem gX8_see_X6_isMarked : GoodIn wsX8_see (wsV RX8 198 RX6 yX6_isMarked wsX6_isMarked) := goodIn_app (goodIn_of _ (by decide +kernel)) ggX8_see_X6_isMarked
set_option maxRecDepth 20000 in
theorem ggX8_see_X6_put : GoodIn wsX8_see wsX6_put := goodIn_r _ [20, 16, 21, 22, 3, 4, 5, 23, 13, 14, 15, 40, 41] (by decide +kernel) (by decide +kernel)
set_option maxRecDepth 20000 in
theorem gX8_see_X6_put : GoodIn wsX8_see (wsV RX8 210 RX6 yX6_put wsX6_put) := goodIn_app (goodIn_of _ (by decide +kernel)) ggX8_see_X6_put
set_option maxRecDepth 20000 in
theorem ggX8_see_X6_wipe : GoodIn wsX8_see wsX6_wipe := goodIn_r _ [27, 16, 28, 40, 41] (by decide +kernel) (by decide +kernel)
set_option maxRecDepth 20000 in
theorem gX8_see_X6_wipe : GoodIn wsX8_see (wsV RX8 213 RX6 yX6_wipe wsX6_wipe) := goodIn_app (goodIn_of _ (by decide +kernel)) ggX8_see_X6_wipe
theorem dX8_see_0 : decode cX8_see 0 = .ok (.iload_n 1, 1) := by decide +kernel
theorem dX8_see_1 : decode cX8_see 1 = .ok (.iload_n 2, 1) := by decide +kernel
theorem dX8_see_2 : decode cX8_see 2 = .ok (.invokestatic 195, 3) := by decide +kernel
theorem dX8_see_5 : decode cX8_see 5 = .ok (.ifCond .ne 9, 3) := by decide +kernel
theorem dX8_see_8 : decode cX8_see 8 = .ok (.aload_n 0, 1) := by decide +kernel
theorem dX8_see_9 : decode cX8_see 9 = .ok (.iconst (-1), 1) := by decide +kernel
theorem dX8_see_10 : decode cX8_see 10 = .ok (.invokevirtual 82, 3) := by decide +kernel
theorem dX8_see_13 : decode cX8_see 13 = .ok (.ireturn, 1) := by decide +kernel
theorem dX8_see_14 : decode cX8_see 14 = .ok (.aload_n 0, 1) := by decide +kernel
theorem dX8_see_15 : decode cX8_see 15 = .ok (.getfield 35, 3) := by decide +kernel
theorem dX8_see_18 : decode cX8_see 18 = .ok (.iload_n 1, 1) := by decide +kernel
theorem dX8_see_19 : decode cX8_see 19 = .ok (.iload_n 2, 1) := by decide +kernel
theorem dX8_see_20 : decode cX8_see 20 = .ok (.invokevirtual 198, 3) := by decide +kernel
theorem dX8_see_23 : decode cX8_see 23 = .ok (.iload_n 3, 1) := by decide +kernel
theorem dX8_see_24 : decode cX8_see 24 = .ok (.if_icmp .ne 5, 3) := by decide +kernel
theorem dX8_see_27 : decode cX8_see 27 = .ok (.iconst 0, 1) := by decide +kernel
theorem dX8_see_28 : decode cX8_see 28 = .ok (.ireturn, 1) := by decide +kernel
theorem dX8_see_29 : decode cX8_see 29 = .ok (.iload_n 3, 1) := by decide +kernel
theorem dX8_see_30 : decode cX8_see 30 = .ok (.ifCond .eq 19, 3) := by decide +kernel
theorem dX8_see_33 : decode cX8_see 33 = .ok (.aload_n 0, 1) := by decide +kernel
theorem dX8_see_34 : decode cX8_see 34 = .ok (.getfield 35, 3) := by decide +kernel
theorem dX8_see_37 : decode cX8_see 37 = .ok (.iload_n 1, 1) := by decide +kernel
theorem dX8_see_38 : decode cX8_see 38 = .ok (.iload_n 2, 1) := by decide +kernel
theorem dX8_see_39 : decode cX8_see 39 = .ok (.bipush 99, 2) := by decide +kernel
theorem dX8_see_41 : decode cX8_see 41 = .ok (.bipush 99, 2) := by decide +kernel
theorem dX8_see_43 : decode cX8_see 43 = .ok (.invokevirtual 210, 3) := by decide +kernel
theorem dX8_see_46 : decode cX8_see 46 = .ok (.goto 12, 3) := by decide +kernel
theorem dX8_see_49 : decode cX8_see 49 = .ok (.aload_n 0, 1) := by decide +kernel
theorem dX8_see_50 : decode cX8_see 50 = .ok (.getfield 35, 3) := by decide +kernel
theorem dX8_see_53 : decode cX8_see 53 = .ok (.iload_n 1, 1) := by decide +kernel
theorem dX8_see_54 : decode cX8_see 54 = .ok (.iload_n 2, 1) := by decide +kernel
theorem dX8_see_55 : decode cX8_see 55 = .ok (.invokevirtual 213, 3) := by decide +kernel
theorem dX8_see_58 : decode cX8_see 58 = .ok (.iconst 1, 1) := by decide +kernel
theorem dX8_see_59 : decode cX8_see 59 = .ok (.ireturn, 1) := by decide +kernel
set_option maxRecDepth 20000 in
theorem ggX8_fault_X8_refuse : GoodIn wsX8_fault wsX8_refuse := goodIn_r _ [7, 8, 23, 24, 25, 26, 27, 28, 29, 30, 31, 32, 33] (by decide +kernel) (by decide +kernel)
set_option maxRecDepth 20000 in
theorem gX8_fault_X8_refuse : GoodIn wsX8_fault (wsV RX8 82 RX8 yX8_refuse wsX8_refuse) := goodIn_app (goodIn_of _ (by decide +kernel)) ggX8_fault_X8_refuse
set_option maxRecDepth 20000 in
theorem ggX8_fault_X5_partsOfKind : GoodIn wsX8_fault wsX5_partsOfKind := goodIn_r _ [13, 14, 34, 35, 36, 37, 38, 39] (by decide +kernel) (by decide +kernel)
set_option maxRecDepth 20000 in
theorem gX8_fault_X5_partsOfKind : GoodIn wsX8_fault (wsV RX8 216 RX5 yX5_partsOfKind wsX5_partsOfKind) := goodIn_app (goodIn_of _ (by decide +kernel)) ggX8_fault_X5_partsOfKind
set_option maxRecDepth 20000 in
theorem ggX8_fault_X1_tell : GoodIn wsX8_fault wsX1_tell := goodIn_r _ [19, 20, 21, 22, 40, 41, 42] (by decide +kernel) (by decide +kernel)
set_option maxRecDepth 20000 in
theorem gX8_fault_X1_tell : GoodIn wsX8_fault (wsV RX8 219 RX1 yX1_tell wsX1_tell) := goodIn_app (goodIn_of _ (by decide +kernel)) ggX8_fault_X1_tell
theorem dX8_fault_0 : decode cX8_fault 0 = .ok (.iload_n 1, 1) := by decide +kernel
theorem dX8_fault_1 : decode cX8_fault 1 = .ok (.iconst 1, 1) := by decide +kernel
theorem dX8_fault_2 : decode cX8_fault 2 = .ok (.if_icmp .lt 8, 3) := by decide +kernel
theorem dX8_fault_5 : decode cX8_fault 5 = .ok (.iload_n 1, 1) := by decide +kernel
theorem dX8_fault_6 : decode cX8_fault 6 = .ok (.iconst 3, 1) := by decide +kernel
theorem dX8_fault_7 : decode cX8_fault 7 = .ok (.if_icmp .le 10, 3) := by decide +kernel
theorem dX8_fault_10 : decode cX8_fault 10 = .ok (.aload_n 0, 1) := by decide +kernel
theorem dX8_fault_11 : decode cX8_fault 11 = .ok (.bipush (-2), 2) := by decide +kernel
theorem dX8_fault_13 : decode cX8_fault 13 = .ok (.invokevirtual 82, 3) := by decide +kernel
theorem dX8_fault_16 : decode cX8_fault 16 = .ok (.ireturn, 1) := by decide +kernel
theorem dX8_fault_17 : decode cX8_fault 17 = .ok (.iload_n 2, 1) := by decide +kernel
theorem dX8_fault_18 : decode cX8_fault 18 = .ok (.ifCond .lt 15, 3) := by decide +kernel
theorem dX8_fault_21 : decode cX8_fault 21 = .ok (.iload_n 2, 1) := by decide +kernel
theorem dX8_fault_22 : decode cX8_fault 22 = .ok (.aload_n 0, 1) := by decide +kernel
theorem dX8_fault_23 : decode cX8_fault 23 = .ok (.getfield 19, 3) := by decide +kernel
theorem dX8_fault_26 : decode cX8_fault 26 = .ok (.iload_n 1, 1) := by decide +kernel
theorem dX8_fault_27 : decode cX8_fault 27 = .ok (.invokevirtual 216, 3) := by decide +kernel
theorem dX8_fault_30 : decode cX8_fault 30 = .ok (.if_icmp .lt 9, 3) := by decide +kernel
theorem dX8_fault_33 : decode cX8_fault 33 = .ok (.aload_n 0, 1) := by decide +kernel
theorem dX8_fault_34 : decode cX8_fault 34 = .ok (.iconst (-1), 1) := by decide +kernel
theorem dX8_fault_35 : decode cX8_fault 35 = .ok (.invokevirtual 82, 3) := by decide +kernel
theorem dX8_fault_38 : decode cX8_fault 38 = .ok (.ireturn, 1) := by decide +kernel
theorem dX8_fault_39 : decode cX8_fault 39 = .ok (.aload_n 0, 1) := by decide +kernel
theorem dX8_fault_40 : decode cX8_fault 40 = .ok (.getfield 42, 3) := by decide +kernel
theorem dX8_fault_43 : decode cX8_fault 43 = .ok (.iload_n 1, 1) := by decide +kernel
theorem dX8_fault_44 : decode cX8_fault 44 = .ok (.iload_n 2, 1) := by decide +kernel
theorem dX8_fault_45 : decode cX8_fault 45 = .ok (.invokevirtual 219, 3) := by decide +kernel
theorem dX8_fault_48 : decode cX8_fault 48 = .ok (.iconst 1, 1) := by decide +kernel
theorem dX8_fault_49 : decode cX8_fault 49 = .ok (.ireturn, 1) := by decide +kernel
set_option maxRecDepth 20000 in
theorem ggX8_mend_X1_size : GoodIn wsX8_mend wsX1_size := goodIn_r _ [6, 7, 8, 9, 25, 26, 27] (by decide +kernel) (by decide +kernel)
set_option maxRecDepth 20000 in
theorem gX8_mend_X1_size : GoodIn wsX8_mend (wsV RX8 222 RX1 yX1_size wsX1_size) := goodIn_app (goodIn_of _ (by decide +kernel)) ggX8_mend_X1_size
set_option maxRecDepth 20000 in
theorem ggX8_mend_X1_clear : GoodIn wsX8_mend wsX1_clear := goodIn_r _ [13, 7, 8, 9, 25, 26, 27] (by decide +kernel) (by decide +kernel)
set_option maxRecDepth 20000 in
theorem gX8_mend_X1_clear : GoodIn wsX8_mend (wsV RX8 223 RX1 yX1_clear wsX1_clear) := goodIn_app (goodIn_of _ (by decide +kernel)) ggX8_mend_X1_clear
theorem dX8_mend_0 : decode cX8_mend 0 = .ok (.aload_n 0, 1) := by decide +kernel
theorem dX8_mend_1 : decode cX8_mend 1 = .ok (.getfield 42, 3) := by decide +kernel
theorem dX8_mend_4 : decode cX8_mend 4 = .ok (.invokevirtual 222, 3) := by decide +kernel
theorem dX8_mend_7 : decode cX8_mend 7 = .ok (.istore_n 1, 1) := by decide +kernel
theorem dX8_mend_8 : decode cX8_mend 8 = .ok (.aload_n 0, 1) := by decide +kernel
theorem dX8_mend_9 : decode cX8_mend 9 = .ok (.getfield 42, 3) := by decide +kernel
theorem dX8_mend_12 : decode cX8_mend 12 = .ok (.invokevirtual 223, 3) := by decide +kernel
theorem dX8_mend_15 : decode cX8_mend 15 = .ok (.iload_n 1, 1) := by decide +kernel
theorem dX8_mend_16 : decode cX8_mend 16 = .ok (.ireturn, 1) := by decide +kernel
set_option maxRecDepth 20000 in
theorem ggX8_explained_X8_refuse : GoodIn wsX8_explained wsX8_refuse := goodIn_r _ [9, 10, 188, 189, 190, 191, 192, 193, 194, 195, 196, 197, 198] (by decide +kernel) (by decide +kernel)
set_option maxRecDepth 20000 in
theorem gX8_explained_X8_refuse : GoodIn wsX8_explained (wsV RX8 82 RX8 yX8_refuse wsX8_refuse) := goodIn_app (goodIn_of _ (by decide +kernel)) ggX8_explained_X8_refuse
set_option maxRecDepth 20000 in
theorem ggX8_explained_X5_isWritable : GoodIn wsX8_explained wsX5_isWritable := goodIn_r _ [15, 16, 17, 18, 19, 20, 14, 21, 22, 23, 24, 25, 26, 27, 28, 29, 30, 199, 200, 201, 202, 203, 204, 205, 206, 207, 208] (by decide +kernel) (by decide +kernel)
set_option maxRecDepth 20000 in
theorem gX8_explained_X5_isWritable : GoodIn wsX8_explained (wsV RX8 186 RX5 yX5_isWritable wsX5_isWritable) := goodIn_app (goodIn_of _ (by decide +kernel)) ggX8_explained_X5_isWritable
set_option maxRecDepth 20000 in
theorem ggX8_explained_X2_search : GoodIn wsX8_explained wsX2_search := goodIn_r _ [35, 36, 37, 38, 39, 40, 41, 34, 42, 43, 44, 45, 46, 47, 48, 49, 50, 51, 52, 53, 54, 55, 56, 57, 58, 59, 60, 61, 62, 63, 64, 65, 66, 67, 68, 69, 70, 71, 14, 72, 16, 73, 74, 75, 76, 77, 78, 79, 28, 80, 81, 82, 83, 84, 85, 86, 87, 88, 89, 90, 91, 92, 93, 94, 95, 24, 17, 96, 97, 98, 99, 100, 101, 102, 103, 104, 105, 106, 107, 108, 109, 110, 111, 112, 113, 114, 115, 116, 117, 22, 118, 119, 120, 121, 122, 123, 124, 125, 126, 127, 128, 129, 130, 131, 132, 133, 134, 23, 135, 136, 137, 138, 139, 140, 141, 142, 143, 144, 145, 146, 147, 148, 149, 150, 151, 152, 153, 154, 155, 156, 157, 158, 159, 160, 161, 162, 163, 164, 165, 166, 167, 168, 169, 170, 171, 172, 173, 174, 175, 176, 177, 178, 179, 209, 210, 211, 212, 213, 214, 215, 216, 217, 218, 219, 220, 199, 200, 201, 202, 203, 204, 205, 206, 207, 208, 221, 222] (by decide +kernel) (by decide +kernel)
set_option maxRecDepth 20000 in
theorem gX8_explained_X2_search : GoodIn wsX8_explained (wsV RX8 224 RX2 yX2_search wsX2_search) := goodIn_app (goodIn_of _ (by decide +kernel)) ggX8_explained_X2_search
set_option maxRecDepth 20000 in
theorem ggX8_explained_X2_kind : GoodIn wsX8_explained wsX2_kind := goodIn_r _ [183, 36, 209, 210, 211, 212, 213, 214, 215] (by decide +kernel) (by decide +kernel)
set_option maxRecDepth 20000 in
theorem gX8_explained_X2_kind : GoodIn wsX8_explained (wsV RX8 228 RX2 yX2_kind wsX2_kind) := goodIn_app (goodIn_of _ (by decide +kernel)) ggX8_explained_X2_kind
set_option maxRecDepth 20000 in
theorem ggX8_explained_X2_which : GoodIn wsX8_explained wsX2_which := goodIn_r _ [187, 37, 209, 210, 211, 212, 213, 214, 215] (by decide +kernel) (by decide +kernel)
set_option maxRecDepth 20000 in
theorem gX8_explained_X2_which : GoodIn wsX8_explained (wsV RX8 231 RX2 yX2_which wsX2_which) := goodIn_app (goodIn_of _ (by decide +kernel)) ggX8_explained_X2_which
theorem dX8_explained_0 : decode cX8_explained 0 = .ok (.iload_n 1, 1) := by decide +kernel
theorem dX8_explained_1 : decode cX8_explained 1 = .ok (.ifCond .eq 15, 3) := by decide +kernel
theorem dX8_explained_4 : decode cX8_explained 4 = .ok (.iload_n 1, 1) := by decide +kernel
theorem dX8_explained_5 : decode cX8_explained 5 = .ok (.iconst 1, 1) := by decide +kernel
theorem dX8_explained_6 : decode cX8_explained 6 = .ok (.if_icmp .eq 10, 3) := by decide +kernel
theorem dX8_explained_9 : decode cX8_explained 9 = .ok (.aload_n 0, 1) := by decide +kernel
theorem dX8_explained_10 : decode cX8_explained 10 = .ok (.bipush (-2), 2) := by decide +kernel
theorem dX8_explained_12 : decode cX8_explained 12 = .ok (.invokevirtual 82, 3) := by decide +kernel
theorem dX8_explained_15 : decode cX8_explained 15 = .ok (.ireturn, 1) := by decide +kernel
theorem dX8_explained_16 : decode cX8_explained 16 = .ok (.aload_n 0, 1) := by decide +kernel
theorem dX8_explained_17 : decode cX8_explained 17 = .ok (.getfield 19, 3) := by decide +kernel
theorem dX8_explained_20 : decode cX8_explained 20 = .ok (.aload_n 0, 1) := by decide +kernel
theorem dX8_explained_21 : decode cX8_explained 21 = .ok (.getfield 10, 3) := by decide +kernel
theorem dX8_explained_24 : decode cX8_explained 24 = .ok (.invokevirtual 186, 3) := by decide +kernel
theorem dX8_explained_27 : decode cX8_explained 27 = .ok (.ifCond .ne 10, 3) := by decide +kernel
theorem dX8_explained_30 : decode cX8_explained 30 = .ok (.aload_n 0, 1) := by decide +kernel
theorem dX8_explained_31 : decode cX8_explained 31 = .ok (.bipush (-3), 2) := by decide +kernel
theorem dX8_explained_33 : decode cX8_explained 33 = .ok (.invokevirtual 82, 3) := by decide +kernel
theorem dX8_explained_36 : decode cX8_explained 36 = .ok (.ireturn, 1) := by decide +kernel
theorem dX8_explained_37 : decode cX8_explained 37 = .ok (.aload_n 0, 1) := by decide +kernel
theorem dX8_explained_38 : decode cX8_explained 38 = .ok (.getfield 60, 3) := by decide +kernel
theorem dX8_explained_41 : decode cX8_explained 41 = .ok (.aload_n 0, 1) := by decide +kernel
theorem dX8_explained_42 : decode cX8_explained 42 = .ok (.getfield 35, 3) := by decide +kernel
theorem dX8_explained_45 : decode cX8_explained 45 = .ok (.invokevirtual 224, 3) := by decide +kernel
theorem dX8_explained_48 : decode cX8_explained 48 = .ok (.iload_n 1, 1) := by decide +kernel
theorem dX8_explained_49 : decode cX8_explained 49 = .ok (.ifCond .ne 13, 3) := by decide +kernel
theorem dX8_explained_52 : decode cX8_explained 52 = .ok (.aload_n 0, 1) := by decide +kernel
theorem dX8_explained_53 : decode cX8_explained 53 = .ok (.getfield 60, 3) := by decide +kernel
theorem dX8_explained_56 : decode cX8_explained 56 = .ok (.invokevirtual 228, 3) := by decide +kernel
theorem dX8_explained_59 : decode cX8_explained 59 = .ok (.goto 10, 3) := by decide +kernel
theorem dX8_explained_62 : decode cX8_explained 62 = .ok (.aload_n 0, 1) := by decide +kernel
theorem dX8_explained_63 : decode cX8_explained 63 = .ok (.getfield 60, 3) := by decide +kernel
theorem dX8_explained_66 : decode cX8_explained 66 = .ok (.invokevirtual 231, 3) := by decide +kernel
theorem dX8_explained_69 : decode cX8_explained 69 = .ok (.ireturn, 1) := by decide +kernel
set_option maxRecDepth 20000 in
theorem ggX8_made_X8_refusalOfMaker : GoodIn wsX8_made wsX8_refusalOfMaker := goodIn_r _ [7, 8, 9, 10, 6, 11, 2, 12, 13, 14, 15, 16, 17, 18, 19, 20, 57, 58, 59, 60, 61, 62, 63, 64, 65, 66, 67, 68, 69, 70, 71] (by decide +kernel) (by decide +kernel)
set_option maxRecDepth 20000 in
theorem gX8_made_X8_refusalOfMaker : GoodIn wsX8_made (wsV RX8 234 RX8 yX8_refusalOfMaker wsX8_refusalOfMaker) := goodIn_app (goodIn_of _ (by decide +kernel)) ggX8_made_X8_refusalOfMaker
set_option maxRecDepth 20000 in
theorem ggX8_made_X8_refuse : GoodIn wsX8_made wsX8_refuse := goodIn_r _ [24, 25, 57, 58, 59, 60, 61, 62, 63, 64, 65, 66, 67] (by decide +kernel) (by decide +kernel)
set_option maxRecDepth 20000 in
theorem gX8_made_X8_refuse : GoodIn wsX8_made (wsV RX8 82 RX8 yX8_refuse wsX8_refuse) := goodIn_app (goodIn_of _ (by decide +kernel)) ggX8_made_X8_refuse
set_option maxRecDepth 20000 in
theorem ggX8_made_X4_total : GoodIn wsX8_made wsX4_total := goodIn_r _ [30, 31, 72, 73, 74] (by decide +kernel) (by decide +kernel)
set_option maxRecDepth 20000 in
theorem gX8_made_X4_total : GoodIn wsX8_made (wsV RX8 237 RX4 yX4_total wsX4_total) := goodIn_app (goodIn_of _ (by decide +kernel)) ggX8_made_X4_total
set_option maxRecDepth 20000 in
theorem ggX8_made_X0_steps : GoodIn wsX8_made wsX0_steps := goodIn_r _ [35, 36, 68, 69, 70, 71] (by decide +kernel) (by decide +kernel)
set_option maxRecDepth 20000 in
theorem gX8_made_X0_steps : GoodIn wsX8_made (wsV RX8 86 RX0 yX0_steps wsX0_steps) := goodIn_app (goodIn_of _ (by decide +kernel)) ggX8_made_X0_steps
set_option maxRecDepth 20000 in
theorem ggX8_made_X4_learn : GoodIn wsX8_made wsX4_learn := goodIn_r _ [40, 41, 42, 31, 43, 44, 45, 29, 46, 47, 48, 49, 50, 51, 33, 34, 18, 35, 36, 52, 53, 54, 55, 56, 72, 73, 74, 68, 69, 70, 71] (by decide +kernel) (by decide +kernel)
set_option maxRecDepth 20000 in
theorem gX8_made_X4_learn : GoodIn wsX8_made (wsV RX8 240 RX4 yX4_learn wsX4_learn) := goodIn_app (goodIn_of _ (by decide +kernel)) ggX8_made_X4_learn
theorem dX8_made_0 : decode cX8_made 0 = .ok (.aload_n 0, 1) := by decide +kernel
theorem dX8_made_1 : decode cX8_made 1 = .ok (.iload_n 1, 1) := by decide +kernel
theorem dX8_made_2 : decode cX8_made 2 = .ok (.iload_n 2, 1) := by decide +kernel
theorem dX8_made_3 : decode cX8_made 3 = .ok (.invokevirtual 234, 3) := by decide +kernel
theorem dX8_made_6 : decode cX8_made 6 = .ok (.istore_n 3, 1) := by decide +kernel
theorem dX8_made_7 : decode cX8_made 7 = .ok (.iload_n 3, 1) := by decide +kernel
theorem dX8_made_8 : decode cX8_made 8 = .ok (.ifCond .eq 9, 3) := by decide +kernel
theorem dX8_made_11 : decode cX8_made 11 = .ok (.aload_n 0, 1) := by decide +kernel
theorem dX8_made_12 : decode cX8_made 12 = .ok (.iload_n 3, 1) := by decide +kernel
theorem dX8_made_13 : decode cX8_made 13 = .ok (.invokevirtual 82, 3) := by decide +kernel
theorem dX8_made_16 : decode cX8_made 16 = .ok (.ireturn, 1) := by decide +kernel
theorem dX8_made_17 : decode cX8_made 17 = .ok (.aload_n 0, 1) := by decide +kernel
theorem dX8_made_18 : decode cX8_made 18 = .ok (.getfield 67, 3) := by decide +kernel
theorem dX8_made_21 : decode cX8_made 21 = .ok (.iload_n 2, 1) := by decide +kernel
theorem dX8_made_22 : decode cX8_made 22 = .ok (.invokevirtual 237, 3) := by decide +kernel
theorem dX8_made_25 : decode cX8_made 25 = .ok (.aload_n 0, 1) := by decide +kernel
theorem dX8_made_26 : decode cX8_made 26 = .ok (.getfield 10, 3) := by decide +kernel
theorem dX8_made_29 : decode cX8_made 29 = .ok (.invokevirtual 86, 3) := by decide +kernel
theorem dX8_made_32 : decode cX8_made 32 = .ok (.iadd, 1) := by decide +kernel
theorem dX8_made_33 : decode cX8_made 33 = .ok (.sipush 1000, 3) := by decide +kernel
theorem dX8_made_36 : decode cX8_made 36 = .ok (.if_icmp .le 10, 3) := by decide +kernel
theorem dX8_made_39 : decode cX8_made 39 = .ok (.aload_n 0, 1) := by decide +kernel
theorem dX8_made_40 : decode cX8_made 40 = .ok (.bipush (-6), 2) := by decide +kernel
theorem dX8_made_42 : decode cX8_made 42 = .ok (.invokevirtual 82, 3) := by decide +kernel
theorem dX8_made_45 : decode cX8_made 45 = .ok (.ireturn, 1) := by decide +kernel
theorem dX8_made_46 : decode cX8_made 46 = .ok (.aload_n 0, 1) := by decide +kernel
theorem dX8_made_47 : decode cX8_made 47 = .ok (.getfield 67, 3) := by decide +kernel
theorem dX8_made_50 : decode cX8_made 50 = .ok (.iload_n 2, 1) := by decide +kernel
theorem dX8_made_51 : decode cX8_made 51 = .ok (.aload_n 0, 1) := by decide +kernel
theorem dX8_made_52 : decode cX8_made 52 = .ok (.getfield 10, 3) := by decide +kernel
theorem dX8_made_55 : decode cX8_made 55 = .ok (.iload_n 1, 1) := by decide +kernel
theorem dX8_made_56 : decode cX8_made 56 = .ok (.invokevirtual 240, 3) := by decide +kernel
theorem dX8_made_59 : decode cX8_made 59 = .ok (.aload_n 0, 1) := by decide +kernel
theorem dX8_made_60 : decode cX8_made 60 = .ok (.getfield 67, 3) := by decide +kernel
theorem dX8_made_63 : decode cX8_made 63 = .ok (.iload_n 2, 1) := by decide +kernel
theorem dX8_made_64 : decode cX8_made 64 = .ok (.invokevirtual 237, 3) := by decide +kernel
theorem dX8_made_67 : decode cX8_made 67 = .ok (.ireturn, 1) := by decide +kernel
set_option maxRecDepth 20000 in
theorem ggX8_like_X8_refusalOfMaker : GoodIn wsX8_like wsX8_refusalOfMaker := goodIn_r _ [7, 8, 9, 10, 6, 11, 2, 12, 13, 14, 15, 16, 17, 18, 19, 20, 60, 61, 62, 63, 64, 65, 66, 67, 68, 69, 70, 71, 72, 73, 74] (by decide +kernel) (by decide +kernel)
set_option maxRecDepth 20000 in
theorem gX8_like_X8_refusalOfMaker : GoodIn wsX8_like (wsV RX8 234 RX8 yX8_refusalOfMaker wsX8_refusalOfMaker) := goodIn_app (goodIn_of _ (by decide +kernel)) ggX8_like_X8_refusalOfMaker
set_option maxRecDepth 20000 in
theorem ggX8_like_X8_refuse : GoodIn wsX8_like wsX8_refuse := goodIn_r _ [24, 25, 60, 61, 62, 63, 64, 65, 66, 67, 68, 69, 70] (by decide +kernel) (by decide +kernel)
set_option maxRecDepth 20000 in
theorem gX8_like_X8_refuse : GoodIn wsX8_like (wsV RX8 82 RX8 yX8_refuse wsX8_refuse) := goodIn_app (goodIn_of _ (by decide +kernel)) ggX8_like_X8_refuse
set_option maxRecDepth 20000 in
theorem ggX8_like_X4_total : GoodIn wsX8_like wsX4_total := goodIn_r _ [30, 31, 75, 76, 77] (by decide +kernel) (by decide +kernel)
set_option maxRecDepth 20000 in
theorem gX8_like_X4_total : GoodIn wsX8_like (wsV RX8 237 RX4 yX4_total wsX4_total) := goodIn_app (goodIn_of _ (by decide +kernel)) ggX8_like_X4_total
set_option maxRecDepth 20000 in
theorem ggX8_like_X4_likeness : GoodIn wsX8_like wsX4_likeness := goodIn_r _ [35, 36, 31, 37, 38, 39, 40, 41, 42, 43, 44, 29, 45, 46, 47, 48, 49, 50, 51, 52, 18, 53, 54, 55, 56, 57, 58, 59, 75, 76, 77, 71, 72, 73, 74] (by decide +kernel) (by decide +kernel)
set_option maxRecDepth 20000 in
theorem gX8_like_X4_likeness : GoodIn wsX8_like (wsV RX8 244 RX4 yX4_likeness wsX4_likeness) := goodIn_app (goodIn_of _ (by decide +kernel)) ggX8_like_X4_likeness
theorem dX8_like_0 : decode cX8_like 0 = .ok (.aload_n 0, 1) := by decide +kernel
theorem dX8_like_1 : decode cX8_like 1 = .ok (.iload_n 1, 1) := by decide +kernel
theorem dX8_like_2 : decode cX8_like 2 = .ok (.iload_n 2, 1) := by decide +kernel
theorem dX8_like_3 : decode cX8_like 3 = .ok (.invokevirtual 234, 3) := by decide +kernel
theorem dX8_like_6 : decode cX8_like 6 = .ok (.istore_n 3, 1) := by decide +kernel
theorem dX8_like_7 : decode cX8_like 7 = .ok (.iload_n 3, 1) := by decide +kernel
theorem dX8_like_8 : decode cX8_like 8 = .ok (.ifCond .eq 9, 3) := by decide +kernel
theorem dX8_like_11 : decode cX8_like 11 = .ok (.aload_n 0, 1) := by decide +kernel
theorem dX8_like_12 : decode cX8_like 12 = .ok (.iload_n 3, 1) := by decide +kernel
theorem dX8_like_13 : decode cX8_like 13 = .ok (.invokevirtual 82, 3) := by decide +kernel
theorem dX8_like_16 : decode cX8_like 16 = .ok (.ireturn, 1) := by decide +kernel
theorem dX8_like_17 : decode cX8_like 17 = .ok (.aload_n 0, 1) := by decide +kernel
theorem dX8_like_18 : decode cX8_like 18 = .ok (.getfield 67, 3) := by decide +kernel
theorem dX8_like_21 : decode cX8_like 21 = .ok (.iload_n 2, 1) := by decide +kernel
theorem dX8_like_22 : decode cX8_like 22 = .ok (.invokevirtual 237, 3) := by decide +kernel
theorem dX8_like_25 : decode cX8_like 25 = .ok (.ifCond .gt 10, 3) := by decide +kernel
theorem dX8_like_28 : decode cX8_like 28 = .ok (.aload_n 0, 1) := by decide +kernel
theorem dX8_like_29 : decode cX8_like 29 = .ok (.bipush (-3), 2) := by decide +kernel
theorem dX8_like_31 : decode cX8_like 31 = .ok (.invokevirtual 82, 3) := by decide +kernel
theorem dX8_like_34 : decode cX8_like 34 = .ok (.ireturn, 1) := by decide +kernel
theorem dX8_like_35 : decode cX8_like 35 = .ok (.aload_n 0, 1) := by decide +kernel
theorem dX8_like_36 : decode cX8_like 36 = .ok (.getfield 67, 3) := by decide +kernel
theorem dX8_like_39 : decode cX8_like 39 = .ok (.iload_n 2, 1) := by decide +kernel
theorem dX8_like_40 : decode cX8_like 40 = .ok (.aload_n 0, 1) := by decide +kernel
theorem dX8_like_41 : decode cX8_like 41 = .ok (.getfield 10, 3) := by decide +kernel
theorem dX8_like_44 : decode cX8_like 44 = .ok (.iload_n 1, 1) := by decide +kernel
theorem dX8_like_45 : decode cX8_like 45 = .ok (.invokevirtual 244, 3) := by decide +kernel
theorem dX8_like_48 : decode cX8_like 48 = .ok (.ireturn, 1) := by decide +kernel
set_option maxRecDepth 20000 in
theorem ggX8_whose_X8_refusalOfCam : GoodIn wsX8_whose wsX8_refusalOfCam := goodIn_r _ [7, 2, 8, 9, 6, 10, 11, 12, 13, 14, 15, 16, 56, 57, 58, 59, 60, 61, 62, 63, 64, 65, 66, 67, 68, 69, 70] (by decide +kernel) (by decide +kernel)
set_option maxRecDepth 20000 in
theorem gX8_whose_X8_refusalOfCam : GoodIn wsX8_whose (wsV RX8 107 RX8 yX8_refusalOfCam wsX8_refusalOfCam) := goodIn_app (goodIn_of _ (by decide +kernel)) ggX8_whose_X8_refusalOfCam
set_option maxRecDepth 20000 in
theorem ggX8_whose_X8_refuse : GoodIn wsX8_whose wsX8_refuse := goodIn_r _ [20, 21, 56, 57, 58, 59, 60, 61, 62, 63, 64, 65, 66] (by decide +kernel) (by decide +kernel)
set_option maxRecDepth 20000 in
theorem gX8_whose_X8_refuse : GoodIn wsX8_whose (wsV RX8 82 RX8 yX8_refuse wsX8_refuse) := goodIn_app (goodIn_of _ (by decide +kernel)) ggX8_whose_X8_refuse
set_option maxRecDepth 20000 in
theorem ggX8_whose_X4_nearest : GoodIn wsX8_whose wsX4_nearest := goodIn_r _ [26, 27, 28, 29, 30, 25, 31, 32, 33, 34, 35, 36, 37, 38, 39, 40, 41, 42, 43, 44, 45, 46, 47, 48, 14, 49, 50, 51, 52, 53, 54, 55, 71, 72, 73, 67, 68, 69, 70] (by decide +kernel) (by decide +kernel)
set_option maxRecDepth 20000 in
theorem gX8_whose_X4_nearest : GoodIn wsX8_whose (wsV RX8 248 RX4 yX4_nearest wsX4_nearest) := goodIn_app (goodIn_of _ (by decide +kernel)) ggX8_whose_X4_nearest
theorem dX8_whose_0 : decode cX8_whose 0 = .ok (.aload_n 0, 1) := by decide +kernel
theorem dX8_whose_1 : decode cX8_whose 1 = .ok (.iload_n 1, 1) := by decide +kernel
theorem dX8_whose_2 : decode cX8_whose 2 = .ok (.invokevirtual 107, 3) := by decide +kernel
theorem dX8_whose_5 : decode cX8_whose 5 = .ok (.istore_n 2, 1) := by decide +kernel
theorem dX8_whose_6 : decode cX8_whose 6 = .ok (.iload_n 2, 1) := by decide +kernel
theorem dX8_whose_7 : decode cX8_whose 7 = .ok (.ifCond .eq 9, 3) := by decide +kernel
theorem dX8_whose_10 : decode cX8_whose 10 = .ok (.aload_n 0, 1) := by decide +kernel
theorem dX8_whose_11 : decode cX8_whose 11 = .ok (.iload_n 2, 1) := by decide +kernel
theorem dX8_whose_12 : decode cX8_whose 12 = .ok (.invokevirtual 82, 3) := by decide +kernel
theorem dX8_whose_15 : decode cX8_whose 15 = .ok (.ireturn, 1) := by decide +kernel
theorem dX8_whose_16 : decode cX8_whose 16 = .ok (.aload_n 0, 1) := by decide +kernel
theorem dX8_whose_17 : decode cX8_whose 17 = .ok (.getfield 67, 3) := by decide +kernel
theorem dX8_whose_20 : decode cX8_whose 20 = .ok (.aload_n 0, 1) := by decide +kernel
theorem dX8_whose_21 : decode cX8_whose 21 = .ok (.getfield 10, 3) := by decide +kernel
theorem dX8_whose_24 : decode cX8_whose 24 = .ok (.iload_n 1, 1) := by decide +kernel
theorem dX8_whose_25 : decode cX8_whose 25 = .ok (.invokevirtual 248, 3) := by decide +kernel
theorem dX8_whose_28 : decode cX8_whose 28 = .ok (.ireturn, 1) := by decide +kernel
set_option maxRecDepth 20000 in
theorem ggX8_count_X0_steps : GoodIn wsX8_count wsX0_steps := goodIn_r _ [11, 12, 78, 79, 80, 81] (by decide +kernel) (by decide +kernel)
set_option maxRecDepth 20000 in
theorem gX8_count_X0_steps : GoodIn wsX8_count (wsV RX8 86 RX0 yX0_steps wsX0_steps) := goodIn_app (goodIn_of _ (by decide +kernel)) ggX8_count_X0_steps
set_option maxRecDepth 20000 in
theorem ggX8_count_X0_size : GoodIn wsX8_count wsX0_size := goodIn_r _ [16, 17, 78, 79, 80, 81] (by decide +kernel) (by decide +kernel)
set_option maxRecDepth 20000 in
theorem gX8_count_X0_size : GoodIn wsX8_count (wsV RX8 252 RX0 yX0_size wsX0_size) := goodIn_app (goodIn_of _ (by decide +kernel)) ggX8_count_X0_size
set_option maxRecDepth 20000 in
theorem ggX8_count_X5_pegs : GoodIn wsX8_count wsX5_pegs := goodIn_r _ [22, 23, 82, 83, 84, 85, 86, 87] (by decide +kernel) (by decide +kernel)
set_option maxRecDepth 20000 in
theorem gX8_count_X5_pegs : GoodIn wsX8_count (wsV RX8 159 RX5 yX5_pegs wsX5_pegs) := goodIn_app (goodIn_of _ (by decide +kernel)) ggX8_count_X5_pegs
set_option maxRecDepth 20000 in
theorem ggX8_count_X7_power : GoodIn wsX8_count wsX7_power := goodIn_r _ [28, 29, 88, 89, 90, 91, 92] (by decide +kernel) (by decide +kernel)
set_option maxRecDepth 20000 in
theorem gX8_count_X7_power : GoodIn wsX8_count (wsV RX8 183 RX7 yX7_power wsX7_power) := goodIn_app (goodIn_of _ (by decide +kernel)) ggX8_count_X7_power
set_option maxRecDepth 20000 in
theorem ggX8_count_X7_wear : GoodIn wsX8_count wsX7_wear := goodIn_r _ [33, 34, 35, 36, 37, 38, 88, 89, 90, 91, 92] (by decide +kernel) (by decide +kernel)
set_option maxRecDepth 20000 in
theorem gX8_count_X7_wear : GoodIn wsX8_count (wsV RX8 253 RX7 yX7_wear wsX7_wear) := goodIn_app (goodIn_of _ (by decide +kernel)) ggX8_count_X7_wear
set_option maxRecDepth 20000 in
theorem ggX8_count_X7_strain : GoodIn wsX8_count wsX7_strain := goodIn_r _ [42, 43, 88, 89, 90, 91, 92] (by decide +kernel) (by decide +kernel)
set_option maxRecDepth 20000 in
theorem gX8_count_X7_strain : GoodIn wsX8_count (wsV RX8 256 RX7 yX7_strain wsX7_strain) := goodIn_app (goodIn_of _ (by decide +kernel)) ggX8_count_X7_strain
set_option maxRecDepth 20000 in
theorem ggX8_count_X7_ticks : GoodIn wsX8_count wsX7_ticks := goodIn_r _ [47, 48, 88, 89, 90, 91, 92] (by decide +kernel) (by decide +kernel)
set_option maxRecDepth 20000 in
theorem gX8_count_X7_ticks : GoodIn wsX8_count (wsV RX8 259 RX7 yX7_ticks wsX7_ticks) := goodIn_app (goodIn_of _ (by decide +kernel)) ggX8_count_X7_ticks
set_option maxRecDepth 20000 in
theorem ggX8_count_X7_steps : GoodIn wsX8_count wsX7_steps := goodIn_r _ [52, 34, 88, 89, 90, 91, 92] (by decide +kernel) (by decide +kernel)
set_option maxRecDepth 20000 in
theorem gX8_count_X7_steps : GoodIn wsX8_count (wsV RX8 190 RX7 yX7_steps wsX7_steps) := goodIn_app (goodIn_of _ (by decide +kernel)) ggX8_count_X7_steps
set_option maxRecDepth 20000 in
theorem ggX8_count_X1_size : GoodIn wsX8_count wsX1_size := goodIn_r _ [57, 58, 59, 60, 93, 94, 95] (by decide +kernel) (by decide +kernel)
set_option maxRecDepth 20000 in
theorem gX8_count_X1_size : GoodIn wsX8_count (wsV RX8 222 RX1 yX1_size wsX1_size) := goodIn_app (goodIn_of _ (by decide +kernel)) ggX8_count_X1_size
set_option maxRecDepth 20000 in
theorem ggX8_count_X8_refusalsTold : GoodIn wsX8_count wsX8_refusalsTold := goodIn_r _ [65, 66, 67, 68, 69, 70, 71, 72, 73, 74, 75, 76, 77] (by decide +kernel) (by decide +kernel)
set_option maxRecDepth 20000 in
theorem gX8_count_X8_refusalsTold : GoodIn wsX8_count (wsV RX8 262 RX8 yX8_refusalsTold wsX8_refusalsTold) := goodIn_app (goodIn_of _ (by decide +kernel)) ggX8_count_X8_refusalsTold
theorem dX8_count_0 : decode cX8_count 0 = .ok (.iload_n 1, 1) := by decide +kernel
theorem dX8_count_1 : decode cX8_count 1 = .ok (.tableswitch 141 0 10 #[59, 67, 75, 83, 91, 99, 107, 115, 123, 128, 133], 59) := by decide +kernel
theorem dX8_count_60 : decode cX8_count 60 = .ok (.aload_n 0, 1) := by decide +kernel
theorem dX8_count_61 : decode cX8_count 61 = .ok (.getfield 10, 3) := by decide +kernel
theorem dX8_count_64 : decode cX8_count 64 = .ok (.invokevirtual 86, 3) := by decide +kernel
theorem dX8_count_67 : decode cX8_count 67 = .ok (.ireturn, 1) := by decide +kernel
theorem dX8_count_68 : decode cX8_count 68 = .ok (.aload_n 0, 1) := by decide +kernel
theorem dX8_count_69 : decode cX8_count 69 = .ok (.getfield 10, 3) := by decide +kernel
theorem dX8_count_72 : decode cX8_count 72 = .ok (.invokevirtual 252, 3) := by decide +kernel
theorem dX8_count_75 : decode cX8_count 75 = .ok (.ireturn, 1) := by decide +kernel
theorem dX8_count_76 : decode cX8_count 76 = .ok (.aload_n 0, 1) := by decide +kernel
theorem dX8_count_77 : decode cX8_count 77 = .ok (.getfield 19, 3) := by decide +kernel
theorem dX8_count_80 : decode cX8_count 80 = .ok (.invokevirtual 159, 3) := by decide +kernel
theorem dX8_count_83 : decode cX8_count 83 = .ok (.ireturn, 1) := by decide +kernel
theorem dX8_count_84 : decode cX8_count 84 = .ok (.aload_n 0, 1) := by decide +kernel
theorem dX8_count_85 : decode cX8_count 85 = .ok (.getfield 26, 3) := by decide +kernel
theorem dX8_count_88 : decode cX8_count 88 = .ok (.invokevirtual 183, 3) := by decide +kernel
theorem dX8_count_91 : decode cX8_count 91 = .ok (.ireturn, 1) := by decide +kernel
theorem dX8_count_92 : decode cX8_count 92 = .ok (.aload_n 0, 1) := by decide +kernel
theorem dX8_count_93 : decode cX8_count 93 = .ok (.getfield 26, 3) := by decide +kernel
theorem dX8_count_96 : decode cX8_count 96 = .ok (.invokevirtual 253, 3) := by decide +kernel
theorem dX8_count_99 : decode cX8_count 99 = .ok (.ireturn, 1) := by decide +kernel
theorem dX8_count_100 : decode cX8_count 100 = .ok (.aload_n 0, 1) := by decide +kernel
theorem dX8_count_101 : decode cX8_count 101 = .ok (.getfield 26, 3) := by decide +kernel
theorem dX8_count_104 : decode cX8_count 104 = .ok (.invokevirtual 256, 3) := by decide +kernel
theorem dX8_count_107 : decode cX8_count 107 = .ok (.ireturn, 1) := by decide +kernel
theorem dX8_count_108 : decode cX8_count 108 = .ok (.aload_n 0, 1) := by decide +kernel
theorem dX8_count_109 : decode cX8_count 109 = .ok (.getfield 26, 3) := by decide +kernel
theorem dX8_count_112 : decode cX8_count 112 = .ok (.invokevirtual 259, 3) := by decide +kernel
theorem dX8_count_115 : decode cX8_count 115 = .ok (.ireturn, 1) := by decide +kernel
theorem dX8_count_116 : decode cX8_count 116 = .ok (.aload_n 0, 1) := by decide +kernel
theorem dX8_count_117 : decode cX8_count 117 = .ok (.getfield 26, 3) := by decide +kernel
theorem dX8_count_120 : decode cX8_count 120 = .ok (.invokevirtual 190, 3) := by decide +kernel
theorem dX8_count_123 : decode cX8_count 123 = .ok (.ireturn, 1) := by decide +kernel
theorem dX8_count_124 : decode cX8_count 124 = .ok (.aload_n 0, 1) := by decide +kernel
theorem dX8_count_125 : decode cX8_count 125 = .ok (.getfield 75, 3) := by decide +kernel
theorem dX8_count_128 : decode cX8_count 128 = .ok (.ireturn, 1) := by decide +kernel
theorem dX8_count_129 : decode cX8_count 129 = .ok (.aload_n 0, 1) := by decide +kernel
theorem dX8_count_130 : decode cX8_count 130 = .ok (.getfield 79, 3) := by decide +kernel
theorem dX8_count_133 : decode cX8_count 133 = .ok (.ireturn, 1) := by decide +kernel
theorem dX8_count_134 : decode cX8_count 134 = .ok (.aload_n 0, 1) := by decide +kernel
theorem dX8_count_135 : decode cX8_count 135 = .ok (.getfield 42, 3) := by decide +kernel
theorem dX8_count_138 : decode cX8_count 138 = .ok (.invokevirtual 222, 3) := by decide +kernel
theorem dX8_count_141 : decode cX8_count 141 = .ok (.ireturn, 1) := by decide +kernel
theorem dX8_count_142 : decode cX8_count 142 = .ok (.aload_n 0, 1) := by decide +kernel
theorem dX8_count_143 : decode cX8_count 143 = .ok (.iload_n 1, 1) := by decide +kernel
theorem dX8_count_144 : decode cX8_count 144 = .ok (.bipush 11, 2) := by decide +kernel
theorem dX8_count_146 : decode cX8_count 146 = .ok (.isub, 1) := by decide +kernel
theorem dX8_count_147 : decode cX8_count 147 = .ok (.invokevirtual 262, 3) := by decide +kernel
theorem dX8_count_150 : decode cX8_count 150 = .ok (.ireturn, 1) := by decide +kernel
theorem dX8_refusalsTold_0 : decode cX8_refusalsTold 0 = .ok (.iload_n 1, 1) := by decide +kernel
theorem dX8_refusalsTold_1 : decode cX8_refusalsTold 1 = .ok (.ifCond .lt 21, 3) := by decide +kernel
theorem dX8_refusalsTold_4 : decode cX8_refusalsTold 4 = .ok (.iload_n 1, 1) := by decide +kernel
theorem dX8_refusalsTold_5 : decode cX8_refusalsTold 5 = .ok (.aload_n 0, 1) := by decide +kernel
theorem dX8_refusalsTold_6 : decode cX8_refusalsTold 6 = .ok (.getfield 71, 3) := by decide +kernel
theorem dX8_refusalsTold_9 : decode cX8_refusalsTold 9 = .ok (.arraylength, 1) := by decide +kernel
theorem dX8_refusalsTold_10 : decode cX8_refusalsTold 10 = .ok (.if_icmp .ge 12, 3) := by decide +kernel
theorem dX8_refusalsTold_13 : decode cX8_refusalsTold 13 = .ok (.aload_n 0, 1) := by decide +kernel
theorem dX8_refusalsTold_14 : decode cX8_refusalsTold 14 = .ok (.getfield 71, 3) := by decide +kernel
theorem dX8_refusalsTold_17 : decode cX8_refusalsTold 17 = .ok (.iload_n 1, 1) := by decide +kernel
theorem dX8_refusalsTold_18 : decode cX8_refusalsTold 18 = .ok (.iaload, 1) := by decide +kernel
theorem dX8_refusalsTold_19 : decode cX8_refusalsTold 19 = .ok (.goto 5, 3) := by decide +kernel
theorem dX8_refusalsTold_22 : decode cX8_refusalsTold 22 = .ok (.bipush (-9), 2) := by decide +kernel
theorem dX8_refusalsTold_24 : decode cX8_refusalsTold 24 = .ok (.ireturn, 1) := by decide +kernel
theorem dX8_refuse_0 : decode cX8_refuse 0 = .ok (.iconst (-1), 1) := by decide +kernel
theorem dX8_refuse_1 : decode cX8_refuse 1 = .ok (.iload_n 1, 1) := by decide +kernel
theorem dX8_refuse_2 : decode cX8_refuse 2 = .ok (.isub, 1) := by decide +kernel
theorem dX8_refuse_3 : decode cX8_refuse 3 = .ok (.istore_n 2, 1) := by decide +kernel
theorem dX8_refuse_4 : decode cX8_refuse 4 = .ok (.iload_n 2, 1) := by decide +kernel
theorem dX8_refuse_5 : decode cX8_refuse 5 = .ok (.ifCond .lt 22, 3) := by decide +kernel
theorem dX8_refuse_8 : decode cX8_refuse 8 = .ok (.iload_n 2, 1) := by decide +kernel
theorem dX8_refuse_9 : decode cX8_refuse 9 = .ok (.aload_n 0, 1) := by decide +kernel
theorem dX8_refuse_10 : decode cX8_refuse 10 = .ok (.getfield 71, 3) := by decide +kernel
theorem dX8_refuse_13 : decode cX8_refuse 13 = .ok (.arraylength, 1) := by decide +kernel
theorem dX8_refuse_14 : decode cX8_refuse 14 = .ok (.if_icmp .ge 13, 3) := by decide +kernel
theorem dX8_refuse_17 : decode cX8_refuse 17 = .ok (.aload_n 0, 1) := by decide +kernel
theorem dX8_refuse_18 : decode cX8_refuse 18 = .ok (.getfield 71, 3) := by decide +kernel
theorem dX8_refuse_21 : decode cX8_refuse 21 = .ok (.iload_n 2, 1) := by decide +kernel
theorem dX8_refuse_22 : decode cX8_refuse 22 = .ok (.dup2, 1) := by decide +kernel
theorem dX8_refuse_23 : decode cX8_refuse 23 = .ok (.iaload, 1) := by decide +kernel
theorem dX8_refuse_24 : decode cX8_refuse 24 = .ok (.iconst 1, 1) := by decide +kernel
theorem dX8_refuse_25 : decode cX8_refuse 25 = .ok (.iadd, 1) := by decide +kernel
theorem dX8_refuse_26 : decode cX8_refuse 26 = .ok (.iastore, 1) := by decide +kernel
theorem dX8_refuse_27 : decode cX8_refuse 27 = .ok (.iload_n 1, 1) := by decide +kernel
theorem dX8_refuse_28 : decode cX8_refuse 28 = .ok (.ireturn, 1) := by decide +kernel
theorem dX8_isCam_0 : decode cX8_isCam 0 = .ok (.iload_n 0, 1) := by decide +kernel
theorem dX8_isCam_1 : decode cX8_isCam 1 = .ok (.ifCond .lt 13, 3) := by decide +kernel
theorem dX8_isCam_4 : decode cX8_isCam 4 = .ok (.iload_n 0, 1) := by decide +kernel
theorem dX8_isCam_5 : decode cX8_isCam 5 = .ok (.bipush 12, 2) := by decide +kernel
theorem dX8_isCam_7 : decode cX8_isCam 7 = .ok (.if_icmp .ge 7, 3) := by decide +kernel
theorem dX8_isCam_10 : decode cX8_isCam 10 = .ok (.iconst 1, 1) := by decide +kernel
theorem dX8_isCam_11 : decode cX8_isCam 11 = .ok (.goto 4, 3) := by decide +kernel
theorem dX8_isCam_14 : decode cX8_isCam 14 = .ok (.iconst 0, 1) := by decide +kernel
theorem dX8_isCam_15 : decode cX8_isCam 15 = .ok (.ireturn, 1) := by decide +kernel
theorem dX8_isLetter_0 : decode cX8_isLetter 0 = .ok (.iload_n 0, 1) := by decide +kernel
theorem dX8_isLetter_1 : decode cX8_isLetter 1 = .ok (.ifCond .lt 13, 3) := by decide +kernel
theorem dX8_isLetter_4 : decode cX8_isLetter 4 = .ok (.iload_n 0, 1) := by decide +kernel
theorem dX8_isLetter_5 : decode cX8_isLetter 5 = .ok (.bipush 10, 2) := by decide +kernel
theorem dX8_isLetter_7 : decode cX8_isLetter 7 = .ok (.if_icmp .ge 7, 3) := by decide +kernel
theorem dX8_isLetter_10 : decode cX8_isLetter 10 = .ok (.iconst 1, 1) := by decide +kernel
theorem dX8_isLetter_11 : decode cX8_isLetter 11 = .ok (.goto 4, 3) := by decide +kernel
theorem dX8_isLetter_14 : decode cX8_isLetter 14 = .ok (.iconst 0, 1) := by decide +kernel
theorem dX8_isLetter_15 : decode cX8_isLetter 15 = .ok (.ireturn, 1) := by decide +kernel
set_option maxRecDepth 20000 in
theorem ggX8_refusalOfCam_X8_isCam : GoodIn wsX8_refusalOfCam wsX8_isCam := goodIn_r _ [5] (by decide +kernel) (by decide +kernel)
set_option maxRecDepth 20000 in
theorem gX8_refusalOfCam_X8_isCam : GoodIn wsX8_refusalOfCam (va_wsS RX8 97 yX8_isCam wsX8_isCam) := goodIn_app (goodIn_of _ (by decide +kernel)) ggX8_refusalOfCam_X8_isCam
set_option maxRecDepth 20000 in
theorem ggX8_refusalOfCam_X0_isThere : GoodIn wsX8_refusalOfCam wsX0_isThere := goodIn_r _ [10, 11, 23, 24, 25, 26] (by decide +kernel) (by decide +kernel)
set_option maxRecDepth 20000 in
theorem gX8_refusalOfCam_X0_isThere : GoodIn wsX8_refusalOfCam (wsV RX8 101 RX0 yX0_isThere wsX0_isThere) := goodIn_app (goodIn_of _ (by decide +kernel)) ggX8_refusalOfCam_X0_isThere
theorem dX8_refusalOfCam_0 : decode cX8_refusalOfCam 0 = .ok (.iload_n 1, 1) := by decide +kernel
theorem dX8_refusalOfCam_1 : decode cX8_refusalOfCam 1 = .ok (.invokestatic 97, 3) := by decide +kernel
theorem dX8_refusalOfCam_4 : decode cX8_refusalOfCam 4 = .ok (.ifCond .ne 5, 3) := by decide +kernel
theorem dX8_refusalOfCam_7 : decode cX8_refusalOfCam 7 = .ok (.iconst (-1), 1) := by decide +kernel
theorem dX8_refusalOfCam_8 : decode cX8_refusalOfCam 8 = .ok (.ireturn, 1) := by decide +kernel
theorem dX8_refusalOfCam_9 : decode cX8_refusalOfCam 9 = .ok (.aload_n 0, 1) := by decide +kernel
theorem dX8_refusalOfCam_10 : decode cX8_refusalOfCam 10 = .ok (.getfield 10, 3) := by decide +kernel
theorem dX8_refusalOfCam_13 : decode cX8_refusalOfCam 13 = .ok (.iload_n 1, 1) := by decide +kernel
theorem dX8_refusalOfCam_14 : decode cX8_refusalOfCam 14 = .ok (.invokevirtual 101, 3) := by decide +kernel
theorem dX8_refusalOfCam_17 : decode cX8_refusalOfCam 17 = .ok (.ifCond .eq 7, 3) := by decide +kernel
theorem dX8_refusalOfCam_20 : decode cX8_refusalOfCam 20 = .ok (.iconst 0, 1) := by decide +kernel
theorem dX8_refusalOfCam_21 : decode cX8_refusalOfCam 21 = .ok (.goto 5, 3) := by decide +kernel
theorem dX8_refusalOfCam_24 : decode cX8_refusalOfCam 24 = .ok (.bipush (-5), 2) := by decide +kernel
theorem dX8_refusalOfCam_26 : decode cX8_refusalOfCam 26 = .ok (.ireturn, 1) := by decide +kernel
set_option maxRecDepth 20000 in
theorem ggX8_refusalOfStep_X8_refusalOfCam : GoodIn wsX8_refusalOfStep wsX8_refusalOfCam := goodIn_r _ [6, 1, 7, 8, 5, 9, 10, 11, 12, 13, 14, 15, 21, 22, 23, 24, 25, 26, 27, 28, 29, 30, 31, 32, 33, 34, 35] (by decide +kernel) (by decide +kernel)
set_option maxRecDepth 20000 in
theorem gX8_refusalOfStep_X8_refusalOfCam : GoodIn wsX8_refusalOfStep (wsV RX8 107 RX8 yX8_refusalOfCam wsX8_refusalOfCam) := goodIn_app (goodIn_of _ (by decide +kernel)) ggX8_refusalOfStep_X8_refusalOfCam
set_option maxRecDepth 20000 in
theorem ggX8_refusalOfStep_X0_steps : GoodIn wsX8_refusalOfStep wsX0_steps := goodIn_r _ [19, 20, 32, 33, 34, 35] (by decide +kernel) (by decide +kernel)
set_option maxRecDepth 20000 in
theorem gX8_refusalOfStep_X0_steps : GoodIn wsX8_refusalOfStep (wsV RX8 86 RX0 yX0_steps wsX0_steps) := goodIn_app (goodIn_of _ (by decide +kernel)) ggX8_refusalOfStep_X0_steps
theorem dX8_refusalOfStep_0 : decode cX8_refusalOfStep 0 = .ok (.aload_n 0, 1) := by decide +kernel
theorem dX8_refusalOfStep_1 : decode cX8_refusalOfStep 1 = .ok (.iload_n 1, 1) := by decide +kernel
theorem dX8_refusalOfStep_2 : decode cX8_refusalOfStep 2 = .ok (.invokevirtual 107, 3) := by decide +kernel
theorem dX8_refusalOfStep_5 : decode cX8_refusalOfStep 5 = .ok (.istore_n 3, 1) := by decide +kernel
theorem dX8_refusalOfStep_6 : decode cX8_refusalOfStep 6 = .ok (.iload_n 3, 1) := by decide +kernel
theorem dX8_refusalOfStep_7 : decode cX8_refusalOfStep 7 = .ok (.ifCond .eq 5, 3) := by decide +kernel
theorem dX8_refusalOfStep_10 : decode cX8_refusalOfStep 10 = .ok (.iload_n 3, 1) := by decide +kernel
theorem dX8_refusalOfStep_11 : decode cX8_refusalOfStep 11 = .ok (.ireturn, 1) := by decide +kernel
theorem dX8_refusalOfStep_12 : decode cX8_refusalOfStep 12 = .ok (.iload_n 2, 1) := by decide +kernel
theorem dX8_refusalOfStep_13 : decode cX8_refusalOfStep 13 = .ok (.ifCond .lt 18, 3) := by decide +kernel
theorem dX8_refusalOfStep_16 : decode cX8_refusalOfStep 16 = .ok (.iload_n 2, 1) := by decide +kernel
theorem dX8_refusalOfStep_17 : decode cX8_refusalOfStep 17 = .ok (.aload_n 0, 1) := by decide +kernel
theorem dX8_refusalOfStep_18 : decode cX8_refusalOfStep 18 = .ok (.getfield 10, 3) := by decide +kernel
theorem dX8_refusalOfStep_21 : decode cX8_refusalOfStep 21 = .ok (.invokevirtual 86, 3) := by decide +kernel
theorem dX8_refusalOfStep_24 : decode cX8_refusalOfStep 24 = .ok (.if_icmp .ge 7, 3) := by decide +kernel
theorem dX8_refusalOfStep_27 : decode cX8_refusalOfStep 27 = .ok (.iconst 0, 1) := by decide +kernel
theorem dX8_refusalOfStep_28 : decode cX8_refusalOfStep 28 = .ok (.goto 5, 3) := by decide +kernel
theorem dX8_refusalOfStep_31 : decode cX8_refusalOfStep 31 = .ok (.bipush (-7), 2) := by decide +kernel
theorem dX8_refusalOfStep_33 : decode cX8_refusalOfStep 33 = .ok (.ireturn, 1) := by decide +kernel
set_option maxRecDepth 20000 in
theorem ggX8_refusalOfMaker_X8_refusalOfCam : GoodIn wsX8_refusalOfMaker wsX8_refusalOfCam := goodIn_r _ [5, 6, 7, 8, 4, 9, 10, 11, 12, 13, 14, 15, 16, 17, 18, 19, 20, 21, 22, 23, 24, 25, 26, 27, 28, 29, 30] (by decide +kernel) (by decide +kernel)
set_option maxRecDepth 20000 in
theorem gX8_refusalOfMaker_X8_refusalOfCam : GoodIn wsX8_refusalOfMaker (wsV RX8 107 RX8 yX8_refusalOfCam wsX8_refusalOfCam) := goodIn_app (goodIn_of _ (by decide +kernel)) ggX8_refusalOfMaker_X8_refusalOfCam
theorem dX8_refusalOfMaker_0 : decode cX8_refusalOfMaker 0 = .ok (.iload_n 2, 1) := by decide +kernel
theorem dX8_refusalOfMaker_1 : decode cX8_refusalOfMaker 1 = .ok (.ifCond .lt 8, 3) := by decide +kernel
theorem dX8_refusalOfMaker_4 : decode cX8_refusalOfMaker 4 = .ok (.iload_n 2, 1) := by decide +kernel
theorem dX8_refusalOfMaker_5 : decode cX8_refusalOfMaker 5 = .ok (.iconst 4, 1) := by decide +kernel
theorem dX8_refusalOfMaker_6 : decode cX8_refusalOfMaker 6 = .ok (.if_icmp .lt 5, 3) := by decide +kernel
theorem dX8_refusalOfMaker_9 : decode cX8_refusalOfMaker 9 = .ok (.iconst (-1), 1) := by decide +kernel
theorem dX8_refusalOfMaker_10 : decode cX8_refusalOfMaker 10 = .ok (.ireturn, 1) := by decide +kernel
theorem dX8_refusalOfMaker_11 : decode cX8_refusalOfMaker 11 = .ok (.aload_n 0, 1) := by decide +kernel
theorem dX8_refusalOfMaker_12 : decode cX8_refusalOfMaker 12 = .ok (.iload_n 1, 1) := by decide +kernel
theorem dX8_refusalOfMaker_13 : decode cX8_refusalOfMaker 13 = .ok (.invokevirtual 107, 3) := by decide +kernel
theorem dX8_refusalOfMaker_16 : decode cX8_refusalOfMaker 16 = .ok (.ireturn, 1) := by decide +kernel
set_option maxRecDepth 20000 in
theorem ggX8_perform_X5_pegs : GoodIn wsX8_perform wsX5_pegs := goodIn_r _ [11, 12, 151, 152, 153, 154, 155, 156] (by decide +kernel) (by decide +kernel)
set_option maxRecDepth 20000 in
theorem gX8_perform_X5_pegs : GoodIn wsX8_perform (wsV RX8 159 RX5 yX5_pegs wsX5_pegs) := goodIn_app (goodIn_of _ (by decide +kernel)) ggX8_perform_X5_pegs
set_option maxRecDepth 20000 in
theorem ggX8_perform_X1_isLoose : GoodIn wsX8_perform wsX1_isLoose := goodIn_r _ [17, 18, 157, 158, 159] (by decide +kernel) (by decide +kernel)
set_option maxRecDepth 20000 in
theorem gX8_perform_X1_isLoose : GoodIn wsX8_perform (wsV RX8 265 RX1 yX1_isLoose wsX1_isLoose) := goodIn_app (goodIn_of _ (by decide +kernel)) ggX8_perform_X1_isLoose
set_option maxRecDepth 20000 in
theorem ggX8_perform_X0_steps : GoodIn wsX8_perform wsX0_steps := goodIn_r _ [23, 24, 160, 161, 162, 163] (by decide +kernel) (by decide +kernel)
set_option maxRecDepth 20000 in
theorem gX8_perform_X0_steps : GoodIn wsX8_perform (wsV RX8 86 RX0 yX0_steps wsX0_steps) := goodIn_app (goodIn_of _ (by decide +kernel)) ggX8_perform_X0_steps
set_option maxRecDepth 20000 in
theorem ggX8_perform_X7_makeStep : GoodIn wsX8_perform wsX7_makeStep := goodIn_r _ [29, 30, 31, 32, 33, 34, 35, 36, 28, 37, 38, 39, 40, 41, 42, 43, 44, 45, 164, 165, 166, 167, 168] (by decide +kernel) (by decide +kernel)
set_option maxRecDepth 20000 in
theorem gX8_perform_X7_makeStep : GoodIn wsX8_perform (wsV RX8 268 RX7 yX7_makeStep wsX7_makeStep) := goodIn_app (goodIn_of _ (by decide +kernel)) ggX8_perform_X7_makeStep
set_option maxRecDepth 20000 in
theorem ggX8_perform_X3_writeStep : GoodIn wsX8_perform wsX3_writeStep := goodIn_r _ [50, 51, 52, 53, 49, 54, 55, 56, 57, 58, 10, 59, 60, 61, 62, 63, 64, 65, 66, 67, 68, 69, 22, 70, 71, 72, 73, 74, 16, 75, 76, 77, 78, 79, 80, 81, 82, 83, 84, 85, 86, 87, 88, 89, 90, 91, 92, 93, 94, 95, 96, 97, 98, 99, 100, 101, 102, 103, 104, 105, 106, 107, 108, 109, 39, 40, 41, 110, 111, 112, 113, 114, 115, 116, 117, 118, 119, 120, 121, 122, 123, 124, 125, 126, 127, 128, 129, 130, 131, 132, 133, 134, 135, 136, 137, 138, 139, 169, 170, 151, 152, 153, 154, 155, 156, 160, 161, 162, 163, 157, 158, 159, 171, 172] (by decide +kernel) (by decide +kernel)
set_option maxRecDepth 20000 in
theorem gX8_perform_X3_writeStep : GoodIn wsX8_perform (wsV RX8 271 RX3 yX3_writeStep wsX3_writeStep) := goodIn_app (goodIn_of _ (by decide +kernel)) ggX8_perform_X3_writeStep
theorem dX8_perform_0 : decode cX8_perform 0 = .ok (.iconst 0, 1) := by decide +kernel
theorem dX8_perform_1 : decode cX8_perform 1 = .ok (.istore_n 1, 1) := by decide +kernel
theorem dX8_perform_2 : decode cX8_perform 2 = .ok (.iload_n 1, 1) := by decide +kernel
theorem dX8_perform_3 : decode cX8_perform 3 = .ok (.aload_n 0, 1) := by decide +kernel
theorem dX8_perform_4 : decode cX8_perform 4 = .ok (.getfield 19, 3) := by decide +kernel
theorem dX8_perform_7 : decode cX8_perform 7 = .ok (.invokevirtual 159, 3) := by decide +kernel
theorem dX8_perform_10 : decode cX8_perform 10 = .ok (.if_icmp .ge 71, 3) := by decide +kernel
theorem dX8_perform_13 : decode cX8_perform 13 = .ok (.aload_n 0, 1) := by decide +kernel
theorem dX8_perform_14 : decode cX8_perform 14 = .ok (.getfield 42, 3) := by decide +kernel
theorem dX8_perform_17 : decode cX8_perform 17 = .ok (.iload_n 1, 1) := by decide +kernel
theorem dX8_perform_18 : decode cX8_perform 18 = .ok (.invokevirtual 265, 3) := by decide +kernel
theorem dX8_perform_21 : decode cX8_perform 21 = .ok (.ifCond .eq 6, 3) := by decide +kernel
theorem dX8_perform_24 : decode cX8_perform 24 = .ok (.goto 51, 3) := by decide +kernel
theorem dX8_perform_27 : decode cX8_perform 27 = .ok (.iconst 0, 1) := by decide +kernel
theorem dX8_perform_28 : decode cX8_perform 28 = .ok (.istore_n 2, 1) := by decide +kernel
theorem dX8_perform_29 : decode cX8_perform 29 = .ok (.iload_n 2, 1) := by decide +kernel
theorem dX8_perform_30 : decode cX8_perform 30 = .ok (.aload_n 0, 1) := by decide +kernel
theorem dX8_perform_31 : decode cX8_perform 31 = .ok (.getfield 10, 3) := by decide +kernel
theorem dX8_perform_34 : decode cX8_perform 34 = .ok (.invokevirtual 86, 3) := by decide +kernel
theorem dX8_perform_37 : decode cX8_perform 37 = .ok (.if_icmp .ge 38, 3) := by decide +kernel
theorem dX8_perform_40 : decode cX8_perform 40 = .ok (.aload_n 0, 1) := by decide +kernel
theorem dX8_perform_41 : decode cX8_perform 41 = .ok (.getfield 26, 3) := by decide +kernel
theorem dX8_perform_44 : decode cX8_perform 44 = .ok (.invokevirtual 268, 3) := by decide +kernel
theorem dX8_perform_47 : decode cX8_perform 47 = .ok (.ifCond .ne 5, 3) := by decide +kernel
theorem dX8_perform_50 : decode cX8_perform 50 = .ok (.iconst 0, 1) := by decide +kernel
theorem dX8_perform_51 : decode cX8_perform 51 = .ok (.ireturn, 1) := by decide +kernel
theorem dX8_perform_52 : decode cX8_perform 52 = .ok (.aload_n 0, 1) := by decide +kernel
theorem dX8_perform_53 : decode cX8_perform 53 = .ok (.getfield 51, 3) := by decide +kernel
theorem dX8_perform_56 : decode cX8_perform 56 = .ok (.aload_n 0, 1) := by decide +kernel
theorem dX8_perform_57 : decode cX8_perform 57 = .ok (.getfield 42, 3) := by decide +kernel
theorem dX8_perform_60 : decode cX8_perform 60 = .ok (.aload_n 0, 1) := by decide +kernel
theorem dX8_perform_61 : decode cX8_perform 61 = .ok (.getfield 35, 3) := by decide +kernel
theorem dX8_perform_64 : decode cX8_perform 64 = .ok (.iload_n 1, 1) := by decide +kernel
theorem dX8_perform_65 : decode cX8_perform 65 = .ok (.iload_n 2, 1) := by decide +kernel
theorem dX8_perform_66 : decode cX8_perform 66 = .ok (.invokevirtual 271, 3) := by decide +kernel
theorem dX8_perform_69 : decode cX8_perform 69 = .ok (.iinc 2 1, 3) := by decide +kernel
theorem dX8_perform_72 : decode cX8_perform 72 = .ok (.goto (-43), 3) := by decide +kernel
theorem dX8_perform_75 : decode cX8_perform 75 = .ok (.iinc 1 1, 3) := by decide +kernel
theorem dX8_perform_78 : decode cX8_perform 78 = .ok (.goto (-76), 3) := by decide +kernel
theorem dX8_perform_81 : decode cX8_perform 81 = .ok (.iconst 1, 1) := by decide +kernel
theorem dX8_perform_82 : decode cX8_perform 82 = .ok (.ireturn, 1) := by decide +kernel
set_option maxRecDepth 20000 in
theorem ggX9_init_X9_clearPaper : GoodIn wsX9_init wsX9_clearPaper := goodIn_r _ [30, 15, 16, 31, 32, 33, 34, 35, 36, 37, 38, 39, 40, 41, 42, 43, 44, 45, 46, 47, 48, 49, 50, 51, 52, 53, 54, 55, 56, 57, 58, 59, 60, 61, 62] (by decide +kernel) (by decide +kernel)
set_option maxRecDepth 20000 in
theorem gX9_init_X9_clearPaper : GoodIn wsX9_init (wsV RX9 72 RX9 yX9_clearPaper wsX9_clearPaper) := goodIn_app (goodIn_of _ (by decide +kernel)) ggX9_init_X9_clearPaper
theorem dX9_init_0 : decode cX9_init 0 = .ok (.aload_n 0, 1) := by decide +kernel
theorem dX9_init_1 : decode cX9_init 1 = .ok (.invokespecial 1, 3) := by decide +kernel
theorem dX9_init_4 : decode cX9_init 4 = .ok (.aload_n 0, 1) := by decide +kernel
theorem dX9_init_5 : decode cX9_init 5 = .ok (.bipush 8, 2) := by decide +kernel
theorem dX9_init_7 : decode cX9_init 7 = .ok (.putfield 7, 3) := by decide +kernel
theorem dX9_init_10 : decode cX9_init 10 = .ok (.aload_n 0, 1) := by decide +kernel
theorem dX9_init_11 : decode cX9_init 11 = .ok (.bipush 12, 2) := by decide +kernel
theorem dX9_init_13 : decode cX9_init 13 = .ok (.newarray .boolean, 2) := by decide +kernel
theorem dX9_init_15 : decode cX9_init 15 = .ok (.putfield 13, 3) := by decide +kernel
theorem dX9_init_18 : decode cX9_init 18 = .ok (.aload_n 0, 1) := by decide +kernel
theorem dX9_init_19 : decode cX9_init 19 = .ok (.sipush 192, 3) := by decide +kernel
theorem dX9_init_22 : decode cX9_init 22 = .ok (.newarray .int, 2) := by decide +kernel
theorem dX9_init_24 : decode cX9_init 24 = .ok (.putfield 17, 3) := by decide +kernel
theorem dX9_init_27 : decode cX9_init 27 = .ok (.aload_n 0, 1) := by decide +kernel
theorem dX9_init_28 : decode cX9_init 28 = .ok (.bipush 10, 2) := by decide +kernel
theorem dX9_init_30 : decode cX9_init 30 = .ok (.newarray .int, 2) := by decide +kernel
theorem dX9_init_32 : decode cX9_init 32 = .ok (.putfield 21, 3) := by decide +kernel
theorem dX9_init_35 : decode cX9_init 35 = .ok (.aload_n 0, 1) := by decide +kernel
theorem dX9_init_36 : decode cX9_init 36 = .ok (.bipush 10, 2) := by decide +kernel
theorem dX9_init_38 : decode cX9_init 38 = .ok (.newarray .int, 2) := by decide +kernel
theorem dX9_init_40 : decode cX9_init 40 = .ok (.putfield 24, 3) := by decide +kernel
theorem dX9_init_43 : decode cX9_init 43 = .ok (.aload_n 0, 1) := by decide +kernel
theorem dX9_init_44 : decode cX9_init 44 = .ok (.bipush 10, 2) := by decide +kernel
theorem dX9_init_46 : decode cX9_init 46 = .ok (.newarray .int, 2) := by decide +kernel
theorem dX9_init_48 : decode cX9_init 48 = .ok (.putfield 27, 3) := by decide +kernel
theorem dX9_init_51 : decode cX9_init 51 = .ok (.aload_n 0, 1) := by decide +kernel
theorem dX9_init_52 : decode cX9_init 52 = .ok (.bipush 12, 2) := by decide +kernel
theorem dX9_init_54 : decode cX9_init 54 = .ok (.newarray .int, 2) := by decide +kernel
theorem dX9_init_56 : decode cX9_init 56 = .ok (.putfield 30, 3) := by decide +kernel
theorem dX9_init_59 : decode cX9_init 59 = .ok (.aload_n 0, 1) := by decide +kernel
theorem dX9_init_60 : decode cX9_init 60 = .ok (.iconst 5, 1) := by decide +kernel
theorem dX9_init_61 : decode cX9_init 61 = .ok (.putfield 33, 3) := by decide +kernel
theorem dX9_init_64 : decode cX9_init 64 = .ok (.aload_n 0, 1) := by decide +kernel
theorem dX9_init_65 : decode cX9_init 65 = .ok (.iconst 2, 1) := by decide +kernel
theorem dX9_init_66 : decode cX9_init 66 = .ok (.putfield 36, 3) := by decide +kernel
theorem dX9_init_69 : decode cX9_init 69 = .ok (.aload_n 0, 1) := by decide +kernel
theorem dX9_init_70 : decode cX9_init 70 = .ok (.sipush 1200, 3) := by decide +kernel
theorem dX9_init_73 : decode cX9_init 73 = .ok (.newarray .int, 2) := by decide +kernel
theorem dX9_init_75 : decode cX9_init 75 = .ok (.putfield 39, 3) := by decide +kernel
theorem dX9_init_78 : decode cX9_init 78 = .ok (.aload_n 0, 1) := by decide +kernel
theorem dX9_init_79 : decode cX9_init 79 = .ok (.sipush 1200, 3) := by decide +kernel
theorem dX9_init_82 : decode cX9_init 82 = .ok (.newarray .int, 2) := by decide +kernel
theorem dX9_init_84 : decode cX9_init 84 = .ok (.putfield 42, 3) := by decide +kernel
theorem dX9_init_87 : decode cX9_init 87 = .ok (.aload_n 0, 1) := by decide +kernel
theorem dX9_init_88 : decode cX9_init 88 = .ok (.iconst 4, 1) := by decide +kernel
theorem dX9_init_89 : decode cX9_init 89 = .ok (.newarray .int, 2) := by decide +kernel
theorem dX9_init_91 : decode cX9_init 91 = .ok (.dup, 1) := by decide +kernel
theorem dX9_init_92 : decode cX9_init 92 = .ok (.iconst 0, 1) := by decide +kernel
theorem dX9_init_93 : decode cX9_init 93 = .ok (.iconst (-1), 1) := by decide +kernel
theorem dX9_init_94 : decode cX9_init 94 = .ok (.iastore, 1) := by decide +kernel
theorem dX9_init_95 : decode cX9_init 95 = .ok (.dup, 1) := by decide +kernel
theorem dX9_init_96 : decode cX9_init 96 = .ok (.iconst 1, 1) := by decide +kernel
theorem dX9_init_97 : decode cX9_init 97 = .ok (.iconst (-1), 1) := by decide +kernel
theorem dX9_init_98 : decode cX9_init 98 = .ok (.iastore, 1) := by decide +kernel
theorem dX9_init_99 : decode cX9_init 99 = .ok (.dup, 1) := by decide +kernel
theorem dX9_init_100 : decode cX9_init 100 = .ok (.iconst 2, 1) := by decide +kernel
theorem dX9_init_101 : decode cX9_init 101 = .ok (.iconst (-1), 1) := by decide +kernel
theorem dX9_init_102 : decode cX9_init 102 = .ok (.iastore, 1) := by decide +kernel
theorem dX9_init_103 : decode cX9_init 103 = .ok (.dup, 1) := by decide +kernel
theorem dX9_init_104 : decode cX9_init 104 = .ok (.iconst 3, 1) := by decide +kernel
theorem dX9_init_105 : decode cX9_init 105 = .ok (.iconst (-1), 1) := by decide +kernel
theorem dX9_init_106 : decode cX9_init 106 = .ok (.iastore, 1) := by decide +kernel
theorem dX9_init_107 : decode cX9_init 107 = .ok (.putfield 45, 3) := by decide +kernel
theorem dX9_init_110 : decode cX9_init 110 = .ok (.aload_n 0, 1) := by decide +kernel
theorem dX9_init_111 : decode cX9_init 111 = .ok (.bipush 40, 2) := by decide +kernel
theorem dX9_init_113 : decode cX9_init 113 = .ok (.newarray .int, 2) := by decide +kernel
theorem dX9_init_115 : decode cX9_init 115 = .ok (.putfield 48, 3) := by decide +kernel
theorem dX9_init_118 : decode cX9_init 118 = .ok (.aload_n 0, 1) := by decide +kernel
theorem dX9_init_119 : decode cX9_init 119 = .ok (.iconst 4, 1) := by decide +kernel
theorem dX9_init_120 : decode cX9_init 120 = .ok (.newarray .int, 2) := by decide +kernel
theorem dX9_init_122 : decode cX9_init 122 = .ok (.putfield 51, 3) := by decide +kernel
theorem dX9_init_125 : decode cX9_init 125 = .ok (.aload_n 0, 1) := by decide +kernel
theorem dX9_init_126 : decode cX9_init 126 = .ok (.bipush 8, 2) := by decide +kernel
theorem dX9_init_128 : decode cX9_init 128 = .ok (.newarray .int, 2) := by decide +kernel
theorem dX9_init_130 : decode cX9_init 130 = .ok (.putfield 54, 3) := by decide +kernel
theorem dX9_init_133 : decode cX9_init 133 = .ok (.aload_n 0, 1) := by decide +kernel
theorem dX9_init_134 : decode cX9_init 134 = .ok (.bipush 16, 2) := by decide +kernel
theorem dX9_init_136 : decode cX9_init 136 = .ok (.newarray .int, 2) := by decide +kernel
theorem dX9_init_138 : decode cX9_init 138 = .ok (.putfield 57, 3) := by decide +kernel
theorem dX9_init_141 : decode cX9_init 141 = .ok (.aload_n 0, 1) := by decide +kernel
theorem dX9_init_142 : decode cX9_init 142 = .ok (.bipush 12, 2) := by decide +kernel
theorem dX9_init_144 : decode cX9_init 144 = .ok (.newarray .int, 2) := by decide +kernel
theorem dX9_init_146 : decode cX9_init 146 = .ok (.putfield 60, 3) := by decide +kernel
theorem dX9_init_149 : decode cX9_init 149 = .ok (.aload_n 0, 1) := by decide +kernel
theorem dX9_init_150 : decode cX9_init 150 = .ok (.bipush 12, 2) := by decide +kernel
theorem dX9_init_152 : decode cX9_init 152 = .ok (.newarray .int, 2) := by decide +kernel
theorem dX9_init_154 : decode cX9_init 154 = .ok (.putfield 63, 3) := by decide +kernel
theorem dX9_init_157 : decode cX9_init 157 = .ok (.aload_n 0, 1) := by decide +kernel
theorem dX9_init_158 : decode cX9_init 158 = .ok (.sipush 1200, 3) := by decide +kernel
theorem dX9_init_161 : decode cX9_init 161 = .ok (.newarray .int, 2) := by decide +kernel
theorem dX9_init_163 : decode cX9_init 163 = .ok (.putfield 66, 3) := by decide +kernel
theorem dX9_init_166 : decode cX9_init 166 = .ok (.aload_n 0, 1) := by decide +kernel
theorem dX9_init_167 : decode cX9_init 167 = .ok (.sipush 1200, 3) := by decide +kernel
theorem dX9_init_170 : decode cX9_init 170 = .ok (.newarray .int, 2) := by decide +kernel
theorem dX9_init_172 : decode cX9_init 172 = .ok (.putfield 69, 3) := by decide +kernel
theorem dX9_init_175 : decode cX9_init 175 = .ok (.aload_n 0, 1) := by decide +kernel
theorem dX9_init_176 : decode cX9_init 176 = .ok (.invokevirtual 72, 3) := by decide +kernel
theorem dX9_init_179 : decode cX9_init 179 = .ok (.return_, 1) := by decide +kernel
theorem dX9_in_0 : decode cX9_in 0 = .ok (.iload_n 0, 1) := by decide +kernel
theorem dX9_in_1 : decode cX9_in 1 = .ok (.iload_n 1, 1) := by decide +kernel
theorem dX9_in_2 : decode cX9_in 2 = .ok (.if_icmp .lt 12, 3) := by decide +kernel
theorem dX9_in_5 : decode cX9_in 5 = .ok (.iload_n 0, 1) := by decide +kernel
theorem dX9_in_6 : decode cX9_in 6 = .ok (.iload_n 2, 1) := by decide +kernel
theorem dX9_in_7 : decode cX9_in 7 = .ok (.if_icmp .gt 7, 3) := by decide +kernel
theorem dX9_in_10 : decode cX9_in 10 = .ok (.iconst 1, 1) := by decide +kernel
theorem dX9_in_11 : decode cX9_in 11 = .ok (.goto 4, 3) := by decide +kernel
theorem dX9_in_14 : decode cX9_in 14 = .ok (.iconst 0, 1) := by decide +kernel
theorem dX9_in_15 : decode cX9_in 15 = .ok (.ireturn, 1) := by decide +kernel
theorem dX9_refuse_0 : decode cX9_refuse 0 = .ok (.aload_n 0, 1) := by decide +kernel
theorem dX9_refuse_1 : decode cX9_refuse 1 = .ok (.getfield 54, 3) := by decide +kernel
theorem dX9_refuse_4 : decode cX9_refuse 4 = .ok (.iload_n 1, 1) := by decide +kernel
theorem dX9_refuse_5 : decode cX9_refuse 5 = .ok (.ineg, 1) := by decide +kernel
theorem dX9_refuse_6 : decode cX9_refuse 6 = .ok (.dup2, 1) := by decide +kernel
theorem dX9_refuse_7 : decode cX9_refuse 7 = .ok (.iaload, 1) := by decide +kernel
theorem dX9_refuse_8 : decode cX9_refuse 8 = .ok (.iconst 1, 1) := by decide +kernel
theorem dX9_refuse_9 : decode cX9_refuse 9 = .ok (.iadd, 1) := by decide +kernel
theorem dX9_refuse_10 : decode cX9_refuse 10 = .ok (.iastore, 1) := by decide +kernel
theorem dX9_refuse_11 : decode cX9_refuse 11 = .ok (.iload_n 1, 1) := by decide +kernel
theorem dX9_refuse_12 : decode cX9_refuse 12 = .ok (.ireturn, 1) := by decide +kernel
theorem dX9_clearPaper_0 : decode cX9_clearPaper 0 = .ok (.iconst 0, 1) := by decide +kernel
theorem dX9_clearPaper_1 : decode cX9_clearPaper 1 = .ok (.istore_n 1, 1) := by decide +kernel
theorem dX9_clearPaper_2 : decode cX9_clearPaper 2 = .ok (.iload_n 1, 1) := by decide +kernel
theorem dX9_clearPaper_3 : decode cX9_clearPaper 3 = .ok (.sipush 1200, 3) := by decide +kernel
theorem dX9_clearPaper_6 : decode cX9_clearPaper 6 = .ok (.if_icmp .ge 23, 3) := by decide +kernel
theorem dX9_clearPaper_9 : decode cX9_clearPaper 9 = .ok (.aload_n 0, 1) := by decide +kernel
theorem dX9_clearPaper_10 : decode cX9_clearPaper 10 = .ok (.getfield 39, 3) := by decide +kernel
theorem dX9_clearPaper_13 : decode cX9_clearPaper 13 = .ok (.iload_n 1, 1) := by decide +kernel
theorem dX9_clearPaper_14 : decode cX9_clearPaper 14 = .ok (.iconst (-1), 1) := by decide +kernel
theorem dX9_clearPaper_15 : decode cX9_clearPaper 15 = .ok (.iastore, 1) := by decide +kernel
theorem dX9_clearPaper_16 : decode cX9_clearPaper 16 = .ok (.aload_n 0, 1) := by decide +kernel
theorem dX9_clearPaper_17 : decode cX9_clearPaper 17 = .ok (.getfield 42, 3) := by decide +kernel
theorem dX9_clearPaper_20 : decode cX9_clearPaper 20 = .ok (.iload_n 1, 1) := by decide +kernel
theorem dX9_clearPaper_21 : decode cX9_clearPaper 21 = .ok (.iconst (-1), 1) := by decide +kernel
theorem dX9_clearPaper_22 : decode cX9_clearPaper 22 = .ok (.iastore, 1) := by decide +kernel
theorem dX9_clearPaper_23 : decode cX9_clearPaper 23 = .ok (.iinc 1 1, 3) := by decide +kernel
theorem dX9_clearPaper_26 : decode cX9_clearPaper 26 = .ok (.goto (-24), 3) := by decide +kernel
theorem dX9_clearPaper_29 : decode cX9_clearPaper 29 = .ok (.return_, 1) := by decide +kernel
set_option maxRecDepth 20000 in
theorem ggX9_isCam_X9_in : GoodIn wsX9_isCam wsX9_in := goodIn_r _ [4] (by decide +kernel) (by decide +kernel)
set_option maxRecDepth 20000 in
theorem gX9_isCam_X9_in : GoodIn wsX9_isCam (va_wsS RX9 75 yX9_in wsX9_in) := goodIn_app (goodIn_of _ (by decide +kernel)) ggX9_isCam_X9_in
theorem dX9_isCam_0 : decode cX9_isCam 0 = .ok (.iload_n 0, 1) := by decide +kernel
theorem dX9_isCam_1 : decode cX9_isCam 1 = .ok (.iconst 0, 1) := by decide +kernel
theorem dX9_isCam_2 : decode cX9_isCam 2 = .ok (.bipush 11, 2) := by decide +kernel
theorem dX9_isCam_4 : decode cX9_isCam 4 = .ok (.invokestatic 75, 3) := by decide +kernel
theorem dX9_isCam_7 : decode cX9_isCam 7 = .ok (.ireturn, 1) := by decide +kernel
set_option maxRecDepth 20000 in
theorem ggX9_length_X9_refuse : GoodIn wsX9_length wsX9_refuse := goodIn_r _ [7, 8, 15, 16, 17, 18, 19, 20, 21, 22, 23, 24, 25, 26, 27, 28, 29, 30, 31, 32, 33, 34, 35, 36, 37, 38, 39, 40, 41, 42, 43, 44, 45, 46] (by decide +kernel) (by decide +kernel)
set_option maxRecDepth 20000 in
theorem gX9_length_X9_refuse : GoodIn wsX9_length (wsV RX9 79 RX9 yX9_refuse wsX9_refuse) := goodIn_app (goodIn_of _ (by decide +kernel)) ggX9_length_X9_refuse
set_option maxRecDepth 20000 in
theorem ggX9_length_X9_clearPaper : GoodIn wsX9_length wsX9_clearPaper := goodIn_r _ [12, 13, 14, 15, 16, 17, 18, 19, 20, 21, 22, 23, 24, 25, 26, 27, 28, 29, 30, 31, 32, 33, 34, 35, 36, 37, 38, 39, 40, 41, 42, 43, 44, 45, 46] (by decide +kernel) (by decide +kernel)
set_option maxRecDepth 20000 in
theorem gX9_length_X9_clearPaper : GoodIn wsX9_length (wsV RX9 72 RX9 yX9_clearPaper wsX9_clearPaper) := goodIn_app (goodIn_of _ (by decide +kernel)) ggX9_length_X9_clearPaper
theorem dX9_length_0 : decode cX9_length 0 = .ok (.iload_n 1, 1) := by decide +kernel
theorem dX9_length_1 : decode cX9_length 1 = .ok (.iconst 2, 1) := by decide +kernel
theorem dX9_length_2 : decode cX9_length 2 = .ok (.if_icmp .ge 10, 3) := by decide +kernel
theorem dX9_length_5 : decode cX9_length 5 = .ok (.aload_n 0, 1) := by decide +kernel
theorem dX9_length_6 : decode cX9_length 6 = .ok (.bipush (-4), 2) := by decide +kernel
theorem dX9_length_8 : decode cX9_length 8 = .ok (.invokevirtual 79, 3) := by decide +kernel
theorem dX9_length_11 : decode cX9_length 11 = .ok (.ireturn, 1) := by decide +kernel
theorem dX9_length_12 : decode cX9_length 12 = .ok (.iload_n 1, 1) := by decide +kernel
theorem dX9_length_13 : decode cX9_length 13 = .ok (.bipush 16, 2) := by decide +kernel
theorem dX9_length_15 : decode cX9_length 15 = .ok (.if_icmp .le 10, 3) := by decide +kernel
theorem dX9_length_18 : decode cX9_length 18 = .ok (.aload_n 0, 1) := by decide +kernel
theorem dX9_length_19 : decode cX9_length 19 = .ok (.bipush (-6), 2) := by decide +kernel
theorem dX9_length_21 : decode cX9_length 21 = .ok (.invokevirtual 79, 3) := by decide +kernel
theorem dX9_length_24 : decode cX9_length 24 = .ok (.ireturn, 1) := by decide +kernel
theorem dX9_length_25 : decode cX9_length 25 = .ok (.aload_n 0, 1) := by decide +kernel
theorem dX9_length_26 : decode cX9_length 26 = .ok (.getfield 7, 3) := by decide +kernel
theorem dX9_length_29 : decode cX9_length 29 = .ok (.istore_n 2, 1) := by decide +kernel
end
section
theorem dX9_length_30 : decode cX9_length 30 = .ok (.aload_n 0, 1) := by decide +kernel
theorem dX9_length_31 : decode cX9_length 31 = .ok (.iload_n 1, 1) := by decide +kernel
theorem dX9_length_32 : decode cX9_length 32 = .ok (.putfield 7, 3) := by decide +kernel
theorem dX9_length_35 : decode cX9_length 35 = .ok (.iconst 0, 1) := by decide +kernel
theorem dX9_length_36 : decode cX9_length 36 = .ok (.istore_n 3, 1) := by decide +kernel
theorem dX9_length_37 : decode cX9_length 37 = .ok (.iload_n 3, 1) := by decide +kernel
theorem dX9_length_38 : decode cX9_length 38 = .ok (.bipush 12, 2) := by decide +kernel
theorem dX9_length_40 : decode cX9_length 40 = .ok (.if_icmp .ge 16, 3) := by decide +kernel
theorem dX9_length_43 : decode cX9_length 43 = .ok (.aload_n 0, 1) := by decide +kernel
theorem dX9_length_44 : decode cX9_length 44 = .ok (.getfield 13, 3) := by decide +kernel
theorem dX9_length_47 : decode cX9_length 47 = .ok (.iload_n 3, 1) := by decide +kernel
theorem dX9_length_48 : decode cX9_length 48 = .ok (.iconst 0, 1) := by decide +kernel
theorem dX9_length_49 : decode cX9_length 49 = .ok (.bastore, 1) := by decide +kernel
theorem dX9_length_50 : decode cX9_length 50 = .ok (.iinc 3 1, 3) := by decide +kernel
theorem dX9_length_53 : decode cX9_length 53 = .ok (.goto (-16), 3) := by decide +kernel
theorem dX9_length_56 : decode cX9_length 56 = .ok (.aload_n 0, 1) := by decide +kernel
theorem dX9_length_57 : decode cX9_length 57 = .ok (.invokevirtual 72, 3) := by decide +kernel
theorem dX9_length_60 : decode cX9_length 60 = .ok (.iload_n 2, 1) := by decide +kernel
theorem dX9_length_61 : decode cX9_length 61 = .ok (.ireturn, 1) := by decide +kernel
set_option maxRecDepth 20000 in
theorem ggX9_blank_X9_isCam : GoodIn wsX9_blank wsX9_isCam := goodIn_r _ [6, 7, 8, 5, 9] (by decide +kernel) (by decide +kernel)
set_option maxRecDepth 20000 in
theorem gX9_blank_X9_isCam : GoodIn wsX9_blank (va_wsS RX9 83 yX9_isCam wsX9_isCam) := goodIn_app (goodIn_of _ (by decide +kernel)) ggX9_blank_X9_isCam
set_option maxRecDepth 20000 in
theorem ggX9_blank_X9_refuse : GoodIn wsX9_blank wsX9_refuse := goodIn_r _ [13, 14, 15, 16, 17, 18, 19, 20, 21, 22, 23, 24, 25, 26, 27, 28, 29, 30, 31, 32, 33, 34, 35, 36, 37, 38, 39, 40, 41, 42, 43, 44, 45, 46] (by decide +kernel) (by decide +kernel)
set_option maxRecDepth 20000 in
theorem gX9_blank_X9_refuse : GoodIn wsX9_blank (wsV RX9 79 RX9 yX9_refuse wsX9_refuse) := goodIn_app (goodIn_of _ (by decide +kernel)) ggX9_blank_X9_refuse
theorem dX9_blank_0 : decode cX9_blank 0 = .ok (.iload_n 1, 1) := by decide +kernel
theorem dX9_blank_1 : decode cX9_blank 1 = .ok (.invokestatic 83, 3) := by decide +kernel
theorem dX9_blank_4 : decode cX9_blank 4 = .ok (.ifCond .ne 9, 3) := by decide +kernel
theorem dX9_blank_7 : decode cX9_blank 7 = .ok (.aload_n 0, 1) := by decide +kernel
theorem dX9_blank_8 : decode cX9_blank 8 = .ok (.iconst (-1), 1) := by decide +kernel
theorem dX9_blank_9 : decode cX9_blank 9 = .ok (.invokevirtual 79, 3) := by decide +kernel
theorem dX9_blank_12 : decode cX9_blank 12 = .ok (.ireturn, 1) := by decide +kernel
theorem dX9_blank_13 : decode cX9_blank 13 = .ok (.aload_n 0, 1) := by decide +kernel
theorem dX9_blank_14 : decode cX9_blank 14 = .ok (.getfield 13, 3) := by decide +kernel
theorem dX9_blank_17 : decode cX9_blank 17 = .ok (.iload_n 1, 1) := by decide +kernel
theorem dX9_blank_18 : decode cX9_blank 18 = .ok (.baload, 1) := by decide +kernel
theorem dX9_blank_19 : decode cX9_blank 19 = .ok (.istore_n 2, 1) := by decide +kernel
theorem dX9_blank_20 : decode cX9_blank 20 = .ok (.aload_n 0, 1) := by decide +kernel
theorem dX9_blank_21 : decode cX9_blank 21 = .ok (.getfield 13, 3) := by decide +kernel
theorem dX9_blank_24 : decode cX9_blank 24 = .ok (.iload_n 1, 1) := by decide +kernel
theorem dX9_blank_25 : decode cX9_blank 25 = .ok (.iconst 1, 1) := by decide +kernel
theorem dX9_blank_26 : decode cX9_blank 26 = .ok (.bastore, 1) := by decide +kernel
theorem dX9_blank_27 : decode cX9_blank 27 = .ok (.iconst 0, 1) := by decide +kernel
theorem dX9_blank_28 : decode cX9_blank 28 = .ok (.istore_n 3, 1) := by decide +kernel
theorem dX9_blank_29 : decode cX9_blank 29 = .ok (.iload_n 3, 1) := by decide +kernel
theorem dX9_blank_30 : decode cX9_blank 30 = .ok (.bipush 16, 2) := by decide +kernel
theorem dX9_blank_32 : decode cX9_blank 32 = .ok (.if_icmp .ge 21, 3) := by decide +kernel
theorem dX9_blank_35 : decode cX9_blank 35 = .ok (.aload_n 0, 1) := by decide +kernel
theorem dX9_blank_36 : decode cX9_blank 36 = .ok (.getfield 17, 3) := by decide +kernel
theorem dX9_blank_39 : decode cX9_blank 39 = .ok (.bipush 16, 2) := by decide +kernel
theorem dX9_blank_41 : decode cX9_blank 41 = .ok (.iload_n 1, 1) := by decide +kernel
theorem dX9_blank_42 : decode cX9_blank 42 = .ok (.imul, 1) := by decide +kernel
theorem dX9_blank_43 : decode cX9_blank 43 = .ok (.iload_n 3, 1) := by decide +kernel
theorem dX9_blank_44 : decode cX9_blank 44 = .ok (.iadd, 1) := by decide +kernel
theorem dX9_blank_45 : decode cX9_blank 45 = .ok (.iconst 0, 1) := by decide +kernel
theorem dX9_blank_46 : decode cX9_blank 46 = .ok (.iastore, 1) := by decide +kernel
theorem dX9_blank_47 : decode cX9_blank 47 = .ok (.iinc 3 1, 3) := by decide +kernel
theorem dX9_blank_50 : decode cX9_blank 50 = .ok (.goto (-21), 3) := by decide +kernel
theorem dX9_blank_53 : decode cX9_blank 53 = .ok (.iload_n 2, 1) := by decide +kernel
theorem dX9_blank_54 : decode cX9_blank 54 = .ok (.ifCond .eq 7, 3) := by decide +kernel
theorem dX9_blank_57 : decode cX9_blank 57 = .ok (.iconst 0, 1) := by decide +kernel
theorem dX9_blank_58 : decode cX9_blank 58 = .ok (.goto 4, 3) := by decide +kernel
theorem dX9_blank_61 : decode cX9_blank 61 = .ok (.iconst 1, 1) := by decide +kernel
theorem dX9_blank_62 : decode cX9_blank 62 = .ok (.ireturn, 1) := by decide +kernel
set_option maxRecDepth 20000 in
theorem ggX9_lacks_X9_isCam : GoodIn wsX9_lacks wsX9_isCam := goodIn_r _ [5, 6, 7, 4, 8] (by decide +kernel) (by decide +kernel)
set_option maxRecDepth 20000 in
theorem gX9_lacks_X9_isCam : GoodIn wsX9_lacks (va_wsS RX9 83 yX9_isCam wsX9_isCam) := goodIn_app (goodIn_of _ (by decide +kernel)) ggX9_lacks_X9_isCam
theorem dX9_lacks_0 : decode cX9_lacks 0 = .ok (.iload_n 1, 1) := by decide +kernel
theorem dX9_lacks_1 : decode cX9_lacks 1 = .ok (.invokestatic 83, 3) := by decide +kernel
theorem dX9_lacks_4 : decode cX9_lacks 4 = .ok (.ifCond .ne 7, 3) := by decide +kernel
theorem dX9_lacks_7 : decode cX9_lacks 7 = .ok (.iconst (-1), 1) := by decide +kernel
theorem dX9_lacks_8 : decode cX9_lacks 8 = .ok (.goto 18, 3) := by decide +kernel
theorem dX9_lacks_11 : decode cX9_lacks 11 = .ok (.aload_n 0, 1) := by decide +kernel
theorem dX9_lacks_12 : decode cX9_lacks 12 = .ok (.getfield 13, 3) := by decide +kernel
theorem dX9_lacks_15 : decode cX9_lacks 15 = .ok (.iload_n 1, 1) := by decide +kernel
theorem dX9_lacks_16 : decode cX9_lacks 16 = .ok (.baload, 1) := by decide +kernel
theorem dX9_lacks_17 : decode cX9_lacks 17 = .ok (.ifCond .eq 7, 3) := by decide +kernel
theorem dX9_lacks_20 : decode cX9_lacks 20 = .ok (.iconst 0, 1) := by decide +kernel
theorem dX9_lacks_21 : decode cX9_lacks 21 = .ok (.goto 5, 3) := by decide +kernel
theorem dX9_lacks_24 : decode cX9_lacks 24 = .ok (.bipush (-5), 2) := by decide +kernel
theorem dX9_lacks_26 : decode cX9_lacks 26 = .ok (.ireturn, 1) := by decide +kernel
set_option maxRecDepth 20000 in
theorem ggX9_lose_X9_lacks : GoodIn wsX9_lose wsX9_lacks := goodIn_r _ [6, 1, 7, 8, 5, 9, 10, 11, 12, 18, 19, 20, 21, 22, 23, 24, 25, 26, 27, 28, 29, 30, 31, 32, 33, 34, 35, 36, 37, 38, 39, 40, 41, 42, 43, 44, 45, 46, 47, 48, 49] (by decide +kernel) (by decide +kernel)
set_option maxRecDepth 20000 in
theorem gX9_lose_X9_lacks : GoodIn wsX9_lose (wsV RX9 87 RX9 yX9_lacks wsX9_lacks) := goodIn_app (goodIn_of _ (by decide +kernel)) ggX9_lose_X9_lacks
set_option maxRecDepth 20000 in
theorem ggX9_lose_X9_refuse : GoodIn wsX9_lose wsX9_refuse := goodIn_r _ [16, 17, 18, 19, 20, 21, 22, 23, 24, 25, 26, 27, 28, 29, 30, 31, 32, 33, 34, 35, 36, 37, 38, 39, 40, 41, 42, 43, 44, 45, 46, 47, 48, 49] (by decide +kernel) (by decide +kernel)
set_option maxRecDepth 20000 in
theorem gX9_lose_X9_refuse : GoodIn wsX9_lose (wsV RX9 79 RX9 yX9_refuse wsX9_refuse) := goodIn_app (goodIn_of _ (by decide +kernel)) ggX9_lose_X9_refuse
theorem dX9_lose_0 : decode cX9_lose 0 = .ok (.aload_n 0, 1) := by decide +kernel
theorem dX9_lose_1 : decode cX9_lose 1 = .ok (.iload_n 1, 1) := by decide +kernel
theorem dX9_lose_2 : decode cX9_lose 2 = .ok (.invokevirtual 87, 3) := by decide +kernel
theorem dX9_lose_5 : decode cX9_lose 5 = .ok (.istore_n 2, 1) := by decide +kernel
theorem dX9_lose_6 : decode cX9_lose 6 = .ok (.iload_n 2, 1) := by decide +kernel
theorem dX9_lose_7 : decode cX9_lose 7 = .ok (.ifCond .ge 9, 3) := by decide +kernel
theorem dX9_lose_10 : decode cX9_lose 10 = .ok (.aload_n 0, 1) := by decide +kernel
theorem dX9_lose_11 : decode cX9_lose 11 = .ok (.iload_n 2, 1) := by decide +kernel
theorem dX9_lose_12 : decode cX9_lose 12 = .ok (.invokevirtual 79, 3) := by decide +kernel
theorem dX9_lose_15 : decode cX9_lose 15 = .ok (.ireturn, 1) := by decide +kernel
theorem dX9_lose_16 : decode cX9_lose 16 = .ok (.aload_n 0, 1) := by decide +kernel
theorem dX9_lose_17 : decode cX9_lose 17 = .ok (.getfield 13, 3) := by decide +kernel
theorem dX9_lose_20 : decode cX9_lose 20 = .ok (.iload_n 1, 1) := by decide +kernel
theorem dX9_lose_21 : decode cX9_lose 21 = .ok (.iconst 0, 1) := by decide +kernel
theorem dX9_lose_22 : decode cX9_lose 22 = .ok (.bastore, 1) := by decide +kernel
theorem dX9_lose_23 : decode cX9_lose 23 = .ok (.iconst 1, 1) := by decide +kernel
theorem dX9_lose_24 : decode cX9_lose 24 = .ok (.ireturn, 1) := by decide +kernel
set_option maxRecDepth 20000 in
theorem ggX9_cutAt_X9_lacks : GoodIn wsX9_cutAt wsX9_lacks := goodIn_r _ [7, 8, 9, 10, 6, 11, 12, 13, 14, 20, 21, 22, 23, 24, 25, 26, 27, 28, 29, 30, 31, 32, 33, 34, 35, 36, 37, 38, 39, 40, 41, 42, 43, 44, 45, 46, 47, 48, 49, 50, 51] (by decide +kernel) (by decide +kernel)
set_option maxRecDepth 20000 in
theorem gX9_cutAt_X9_lacks : GoodIn wsX9_cutAt (wsV RX9 87 RX9 yX9_lacks wsX9_lacks) := goodIn_app (goodIn_of _ (by decide +kernel)) ggX9_cutAt_X9_lacks
set_option maxRecDepth 20000 in
theorem ggX9_cutAt_X9_refuse : GoodIn wsX9_cutAt wsX9_refuse := goodIn_r _ [18, 19, 20, 21, 22, 23, 24, 25, 26, 27, 28, 29, 30, 31, 32, 33, 34, 35, 36, 37, 38, 39, 40, 41, 42, 43, 44, 45, 46, 47, 48, 49, 50, 51] (by decide +kernel) (by decide +kernel)
set_option maxRecDepth 20000 in
theorem gX9_cutAt_X9_refuse : GoodIn wsX9_cutAt (wsV RX9 79 RX9 yX9_refuse wsX9_refuse) := goodIn_app (goodIn_of _ (by decide +kernel)) ggX9_cutAt_X9_refuse
set_option maxRecDepth 20000 in
theorem ggX9_cutAt_X9_in : GoodIn wsX9_cutAt wsX9_in := goodIn_r _ [14] (by decide +kernel) (by decide +kernel)
set_option maxRecDepth 20000 in
theorem gX9_cutAt_X9_in : GoodIn wsX9_cutAt (va_wsS RX9 75 yX9_in wsX9_in) := goodIn_app (goodIn_of _ (by decide +kernel)) ggX9_cutAt_X9_in
theorem dX9_cutAt_0 : decode cX9_cutAt 0 = .ok (.aload_n 0, 1) := by decide +kernel
theorem dX9_cutAt_1 : decode cX9_cutAt 1 = .ok (.iload_n 1, 1) := by decide +kernel
theorem dX9_cutAt_2 : decode cX9_cutAt 2 = .ok (.invokevirtual 87, 3) := by decide +kernel
theorem dX9_cutAt_5 : decode cX9_cutAt 5 = .ok (.istore 4, 2) := by decide +kernel
theorem dX9_cutAt_7 : decode cX9_cutAt 7 = .ok (.iload 4, 2) := by decide +kernel
theorem dX9_cutAt_9 : decode cX9_cutAt 9 = .ok (.ifCond .ge 10, 3) := by decide +kernel
theorem dX9_cutAt_12 : decode cX9_cutAt 12 = .ok (.aload_n 0, 1) := by decide +kernel
theorem dX9_cutAt_13 : decode cX9_cutAt 13 = .ok (.iload 4, 2) := by decide +kernel
theorem dX9_cutAt_15 : decode cX9_cutAt 15 = .ok (.invokevirtual 79, 3) := by decide +kernel
theorem dX9_cutAt_18 : decode cX9_cutAt 18 = .ok (.ireturn, 1) := by decide +kernel
theorem dX9_cutAt_19 : decode cX9_cutAt 19 = .ok (.iload_n 2, 1) := by decide +kernel
theorem dX9_cutAt_20 : decode cX9_cutAt 20 = .ok (.iconst 0, 1) := by decide +kernel
theorem dX9_cutAt_21 : decode cX9_cutAt 21 = .ok (.aload_n 0, 1) := by decide +kernel
theorem dX9_cutAt_22 : decode cX9_cutAt 22 = .ok (.getfield 7, 3) := by decide +kernel
theorem dX9_cutAt_25 : decode cX9_cutAt 25 = .ok (.iconst 1, 1) := by decide +kernel
theorem dX9_cutAt_26 : decode cX9_cutAt 26 = .ok (.isub, 1) := by decide +kernel
theorem dX9_cutAt_27 : decode cX9_cutAt 27 = .ok (.invokestatic 75, 3) := by decide +kernel
theorem dX9_cutAt_30 : decode cX9_cutAt 30 = .ok (.ifCond .ne 10, 3) := by decide +kernel
theorem dX9_cutAt_33 : decode cX9_cutAt 33 = .ok (.aload_n 0, 1) := by decide +kernel
theorem dX9_cutAt_34 : decode cX9_cutAt 34 = .ok (.bipush (-7), 2) := by decide +kernel
theorem dX9_cutAt_36 : decode cX9_cutAt 36 = .ok (.invokevirtual 79, 3) := by decide +kernel
theorem dX9_cutAt_39 : decode cX9_cutAt 39 = .ok (.ireturn, 1) := by decide +kernel
theorem dX9_cutAt_40 : decode cX9_cutAt 40 = .ok (.iload_n 3, 1) := by decide +kernel
theorem dX9_cutAt_41 : decode cX9_cutAt 41 = .ok (.ifCond .ge 10, 3) := by decide +kernel
theorem dX9_cutAt_44 : decode cX9_cutAt 44 = .ok (.aload_n 0, 1) := by decide +kernel
theorem dX9_cutAt_45 : decode cX9_cutAt 45 = .ok (.bipush (-4), 2) := by decide +kernel
theorem dX9_cutAt_47 : decode cX9_cutAt 47 = .ok (.invokevirtual 79, 3) := by decide +kernel
theorem dX9_cutAt_50 : decode cX9_cutAt 50 = .ok (.ireturn, 1) := by decide +kernel
theorem dX9_cutAt_51 : decode cX9_cutAt 51 = .ok (.iload_n 3, 1) := by decide +kernel
theorem dX9_cutAt_52 : decode cX9_cutAt 52 = .ok (.bipush 9, 2) := by decide +kernel
theorem dX9_cutAt_54 : decode cX9_cutAt 54 = .ok (.if_icmp .le 10, 3) := by decide +kernel
theorem dX9_cutAt_57 : decode cX9_cutAt 57 = .ok (.aload_n 0, 1) := by decide +kernel
theorem dX9_cutAt_58 : decode cX9_cutAt 58 = .ok (.bipush (-6), 2) := by decide +kernel
theorem dX9_cutAt_60 : decode cX9_cutAt 60 = .ok (.invokevirtual 79, 3) := by decide +kernel
theorem dX9_cutAt_63 : decode cX9_cutAt 63 = .ok (.ireturn, 1) := by decide +kernel
theorem dX9_cutAt_64 : decode cX9_cutAt 64 = .ok (.aload_n 0, 1) := by decide +kernel
theorem dX9_cutAt_65 : decode cX9_cutAt 65 = .ok (.getfield 17, 3) := by decide +kernel
theorem dX9_cutAt_68 : decode cX9_cutAt 68 = .ok (.bipush 16, 2) := by decide +kernel
theorem dX9_cutAt_70 : decode cX9_cutAt 70 = .ok (.iload_n 1, 1) := by decide +kernel
theorem dX9_cutAt_71 : decode cX9_cutAt 71 = .ok (.imul, 1) := by decide +kernel
theorem dX9_cutAt_72 : decode cX9_cutAt 72 = .ok (.iload_n 2, 1) := by decide +kernel
theorem dX9_cutAt_73 : decode cX9_cutAt 73 = .ok (.iadd, 1) := by decide +kernel
theorem dX9_cutAt_74 : decode cX9_cutAt 74 = .ok (.iaload, 1) := by decide +kernel
theorem dX9_cutAt_75 : decode cX9_cutAt 75 = .ok (.istore 5, 2) := by decide +kernel
theorem dX9_cutAt_77 : decode cX9_cutAt 77 = .ok (.aload_n 0, 1) := by decide +kernel
theorem dX9_cutAt_78 : decode cX9_cutAt 78 = .ok (.getfield 17, 3) := by decide +kernel
theorem dX9_cutAt_81 : decode cX9_cutAt 81 = .ok (.bipush 16, 2) := by decide +kernel
theorem dX9_cutAt_83 : decode cX9_cutAt 83 = .ok (.iload_n 1, 1) := by decide +kernel
theorem dX9_cutAt_84 : decode cX9_cutAt 84 = .ok (.imul, 1) := by decide +kernel
theorem dX9_cutAt_85 : decode cX9_cutAt 85 = .ok (.iload_n 2, 1) := by decide +kernel
theorem dX9_cutAt_86 : decode cX9_cutAt 86 = .ok (.iadd, 1) := by decide +kernel
theorem dX9_cutAt_87 : decode cX9_cutAt 87 = .ok (.iload_n 3, 1) := by decide +kernel
theorem dX9_cutAt_88 : decode cX9_cutAt 88 = .ok (.iastore, 1) := by decide +kernel
theorem dX9_cutAt_89 : decode cX9_cutAt 89 = .ok (.iload 5, 2) := by decide +kernel
theorem dX9_cutAt_91 : decode cX9_cutAt 91 = .ok (.ireturn, 1) := by decide +kernel
set_option maxRecDepth 20000 in
theorem ggX9_height_X9_lacks : GoodIn wsX9_height wsX9_lacks := goodIn_r _ [7, 8, 9, 10, 6, 11, 12, 13, 14, 20, 21, 22, 23, 24, 25, 26, 27, 28, 29, 30, 31, 32, 33, 34, 35, 36, 37, 38, 39, 40, 41, 42, 43, 44, 45, 46, 47, 48, 49, 50, 51] (by decide +kernel) (by decide +kernel)
set_option maxRecDepth 20000 in
theorem gX9_height_X9_lacks : GoodIn wsX9_height (wsV RX9 87 RX9 yX9_lacks wsX9_lacks) := goodIn_app (goodIn_of _ (by decide +kernel)) ggX9_height_X9_lacks
set_option maxRecDepth 20000 in
theorem ggX9_height_X9_refuse : GoodIn wsX9_height wsX9_refuse := goodIn_r _ [18, 19, 20, 21, 22, 23, 24, 25, 26, 27, 28, 29, 30, 31, 32, 33, 34, 35, 36, 37, 38, 39, 40, 41, 42, 43, 44, 45, 46, 47, 48, 49, 50, 51] (by decide +kernel) (by decide +kernel)
set_option maxRecDepth 20000 in
theorem gX9_height_X9_refuse : GoodIn wsX9_height (wsV RX9 79 RX9 yX9_refuse wsX9_refuse) := goodIn_app (goodIn_of _ (by decide +kernel)) ggX9_height_X9_refuse
set_option maxRecDepth 20000 in
theorem ggX9_height_X9_in : GoodIn wsX9_height wsX9_in := goodIn_r _ [14] (by decide +kernel) (by decide +kernel)
set_option maxRecDepth 20000 in
theorem gX9_height_X9_in : GoodIn wsX9_height (va_wsS RX9 75 yX9_in wsX9_in) := goodIn_app (goodIn_of _ (by decide +kernel)) ggX9_height_X9_in
theorem dX9_height_0 : decode cX9_height 0 = .ok (.aload_n 0, 1) := by decide +kernel
theorem dX9_height_1 : decode cX9_height 1 = .ok (.iload_n 1, 1) := by decide +kernel
theorem dX9_height_2 : decode cX9_height 2 = .ok (.invokevirtual 87, 3) := by decide +kernel
theorem dX9_height_5 : decode cX9_height 5 = .ok (.istore_n 3, 1) := by decide +kernel
theorem dX9_height_6 : decode cX9_height 6 = .ok (.iload_n 3, 1) := by decide +kernel
theorem dX9_height_7 : decode cX9_height 7 = .ok (.ifCond .ge 9, 3) := by decide +kernel
theorem dX9_height_10 : decode cX9_height 10 = .ok (.aload_n 0, 1) := by decide +kernel
theorem dX9_height_11 : decode cX9_height 11 = .ok (.iload_n 3, 1) := by decide +kernel
theorem dX9_height_12 : decode cX9_height 12 = .ok (.invokevirtual 79, 3) := by decide +kernel
theorem dX9_height_15 : decode cX9_height 15 = .ok (.ireturn, 1) := by decide +kernel
theorem dX9_height_16 : decode cX9_height 16 = .ok (.iload_n 2, 1) := by decide +kernel
theorem dX9_height_17 : decode cX9_height 17 = .ok (.iconst 0, 1) := by decide +kernel
theorem dX9_height_18 : decode cX9_height 18 = .ok (.aload_n 0, 1) := by decide +kernel
theorem dX9_height_19 : decode cX9_height 19 = .ok (.getfield 7, 3) := by decide +kernel
theorem dX9_height_22 : decode cX9_height 22 = .ok (.iconst 1, 1) := by decide +kernel
theorem dX9_height_23 : decode cX9_height 23 = .ok (.isub, 1) := by decide +kernel
theorem dX9_height_24 : decode cX9_height 24 = .ok (.invokestatic 75, 3) := by decide +kernel
theorem dX9_height_27 : decode cX9_height 27 = .ok (.ifCond .eq 17, 3) := by decide +kernel
theorem dX9_height_30 : decode cX9_height 30 = .ok (.aload_n 0, 1) := by decide +kernel
theorem dX9_height_31 : decode cX9_height 31 = .ok (.getfield 17, 3) := by decide +kernel
theorem dX9_height_34 : decode cX9_height 34 = .ok (.bipush 16, 2) := by decide +kernel
theorem dX9_height_36 : decode cX9_height 36 = .ok (.iload_n 1, 1) := by decide +kernel
theorem dX9_height_37 : decode cX9_height 37 = .ok (.imul, 1) := by decide +kernel
theorem dX9_height_38 : decode cX9_height 38 = .ok (.iload_n 2, 1) := by decide +kernel
theorem dX9_height_39 : decode cX9_height 39 = .ok (.iadd, 1) := by decide +kernel
theorem dX9_height_40 : decode cX9_height 40 = .ok (.iaload, 1) := by decide +kernel
theorem dX9_height_41 : decode cX9_height 41 = .ok (.goto 9, 3) := by decide +kernel
theorem dX9_height_44 : decode cX9_height 44 = .ok (.aload_n 0, 1) := by decide +kernel
theorem dX9_height_45 : decode cX9_height 45 = .ok (.bipush (-7), 2) := by decide +kernel
theorem dX9_height_47 : decode cX9_height 47 = .ok (.invokevirtual 79, 3) := by decide +kernel
theorem dX9_height_50 : decode cX9_height 50 = .ok (.ireturn, 1) := by decide +kernel
set_option maxRecDepth 20000 in
theorem ggX9_copy_X9_isCam : GoodIn wsX9_copy wsX9_isCam := goodIn_r _ [8, 9, 10, 7, 11] (by decide +kernel) (by decide +kernel)
set_option maxRecDepth 20000 in
theorem gX9_copy_X9_isCam : GoodIn wsX9_copy (va_wsS RX9 83 yX9_isCam wsX9_isCam) := goodIn_app (goodIn_of _ (by decide +kernel)) ggX9_copy_X9_isCam
set_option maxRecDepth 20000 in
theorem ggX9_copy_X9_refuse : GoodIn wsX9_copy wsX9_refuse := goodIn_r _ [15, 16, 17, 18, 19, 20, 21, 22, 23, 24, 25, 26, 27, 28, 29, 30, 31, 32, 33, 34, 35, 36, 37, 38, 39, 40, 41, 42, 43, 44, 45, 46, 47, 48] (by decide +kernel) (by decide +kernel)
set_option maxRecDepth 20000 in
theorem gX9_copy_X9_refuse : GoodIn wsX9_copy (wsV RX9 79 RX9 yX9_refuse wsX9_refuse) := goodIn_app (goodIn_of _ (by decide +kernel)) ggX9_copy_X9_refuse
theorem dX9_copy_0 : decode cX9_copy 0 = .ok (.iload_n 1, 1) := by decide +kernel
theorem dX9_copy_1 : decode cX9_copy 1 = .ok (.invokestatic 83, 3) := by decide +kernel
theorem dX9_copy_4 : decode cX9_copy 4 = .ok (.ifCond .eq 10, 3) := by decide +kernel
theorem dX9_copy_7 : decode cX9_copy 7 = .ok (.iload_n 3, 1) := by decide +kernel
theorem dX9_copy_8 : decode cX9_copy 8 = .ok (.invokestatic 83, 3) := by decide +kernel
theorem dX9_copy_11 : decode cX9_copy 11 = .ok (.ifCond .ne 9, 3) := by decide +kernel
theorem dX9_copy_14 : decode cX9_copy 14 = .ok (.aload_n 0, 1) := by decide +kernel
theorem dX9_copy_15 : decode cX9_copy 15 = .ok (.iconst (-1), 1) := by decide +kernel
theorem dX9_copy_16 : decode cX9_copy 16 = .ok (.invokevirtual 79, 3) := by decide +kernel
theorem dX9_copy_19 : decode cX9_copy 19 = .ok (.ireturn, 1) := by decide +kernel
theorem dX9_copy_20 : decode cX9_copy 20 = .ok (.aload_n 0, 1) := by decide +kernel
theorem dX9_copy_21 : decode cX9_copy 21 = .ok (.getfield 13, 3) := by decide +kernel
theorem dX9_copy_24 : decode cX9_copy 24 = .ok (.iload_n 1, 1) := by decide +kernel
theorem dX9_copy_25 : decode cX9_copy 25 = .ok (.baload, 1) := by decide +kernel
theorem dX9_copy_26 : decode cX9_copy 26 = .ok (.ifCond .eq 12, 3) := by decide +kernel
theorem dX9_copy_29 : decode cX9_copy 29 = .ok (.aload_n 0, 1) := by decide +kernel
theorem dX9_copy_30 : decode cX9_copy 30 = .ok (.getfield 13, 3) := by decide +kernel
theorem dX9_copy_33 : decode cX9_copy 33 = .ok (.iload_n 3, 1) := by decide +kernel
theorem dX9_copy_34 : decode cX9_copy 34 = .ok (.baload, 1) := by decide +kernel
theorem dX9_copy_35 : decode cX9_copy 35 = .ok (.ifCond .ne 10, 3) := by decide +kernel
theorem dX9_copy_38 : decode cX9_copy 38 = .ok (.aload_n 0, 1) := by decide +kernel
theorem dX9_copy_39 : decode cX9_copy 39 = .ok (.bipush (-5), 2) := by decide +kernel
theorem dX9_copy_41 : decode cX9_copy 41 = .ok (.invokevirtual 79, 3) := by decide +kernel
theorem dX9_copy_44 : decode cX9_copy 44 = .ok (.ireturn, 1) := by decide +kernel
theorem dX9_copy_45 : decode cX9_copy 45 = .ok (.iload 5, 2) := by decide +kernel
theorem dX9_copy_47 : decode cX9_copy 47 = .ok (.ifCond .lt 44, 3) := by decide +kernel
theorem dX9_copy_50 : decode cX9_copy 50 = .ok (.iload 5, 2) := by decide +kernel
theorem dX9_copy_52 : decode cX9_copy 52 = .ok (.aload_n 0, 1) := by decide +kernel
theorem dX9_copy_53 : decode cX9_copy 53 = .ok (.getfield 7, 3) := by decide +kernel
theorem dX9_copy_56 : decode cX9_copy 56 = .ok (.if_icmp .gt 35, 3) := by decide +kernel
theorem dX9_copy_59 : decode cX9_copy 59 = .ok (.iload_n 2, 1) := by decide +kernel
theorem dX9_copy_60 : decode cX9_copy 60 = .ok (.ifCond .lt 31, 3) := by decide +kernel
theorem dX9_copy_63 : decode cX9_copy 63 = .ok (.iload 4, 2) := by decide +kernel
theorem dX9_copy_65 : decode cX9_copy 65 = .ok (.ifCond .lt 26, 3) := by decide +kernel
theorem dX9_copy_68 : decode cX9_copy 68 = .ok (.iload_n 2, 1) := by decide +kernel
theorem dX9_copy_69 : decode cX9_copy 69 = .ok (.aload_n 0, 1) := by decide +kernel
theorem dX9_copy_70 : decode cX9_copy 70 = .ok (.getfield 7, 3) := by decide +kernel
theorem dX9_copy_73 : decode cX9_copy 73 = .ok (.iload 5, 2) := by decide +kernel
theorem dX9_copy_75 : decode cX9_copy 75 = .ok (.isub, 1) := by decide +kernel
theorem dX9_copy_76 : decode cX9_copy 76 = .ok (.if_icmp .gt 15, 3) := by decide +kernel
theorem dX9_copy_79 : decode cX9_copy 79 = .ok (.iload 4, 2) := by decide +kernel
theorem dX9_copy_81 : decode cX9_copy 81 = .ok (.aload_n 0, 1) := by decide +kernel
theorem dX9_copy_82 : decode cX9_copy 82 = .ok (.getfield 7, 3) := by decide +kernel
theorem dX9_copy_85 : decode cX9_copy 85 = .ok (.iload 5, 2) := by decide +kernel
theorem dX9_copy_87 : decode cX9_copy 87 = .ok (.isub, 1) := by decide +kernel
theorem dX9_copy_88 : decode cX9_copy 88 = .ok (.if_icmp .le 10, 3) := by decide +kernel
theorem dX9_copy_91 : decode cX9_copy 91 = .ok (.aload_n 0, 1) := by decide +kernel
theorem dX9_copy_92 : decode cX9_copy 92 = .ok (.bipush (-7), 2) := by decide +kernel
theorem dX9_copy_94 : decode cX9_copy 94 = .ok (.invokevirtual 79, 3) := by decide +kernel
theorem dX9_copy_97 : decode cX9_copy 97 = .ok (.ireturn, 1) := by decide +kernel
theorem dX9_copy_98 : decode cX9_copy 98 = .ok (.iconst 0, 1) := by decide +kernel
theorem dX9_copy_99 : decode cX9_copy 99 = .ok (.istore 6, 2) := by decide +kernel
theorem dX9_copy_101 : decode cX9_copy 101 = .ok (.iload 6, 2) := by decide +kernel
theorem dX9_copy_103 : decode cX9_copy 103 = .ok (.iload 5, 2) := by decide +kernel
theorem dX9_copy_105 : decode cX9_copy 105 = .ok (.if_icmp .ge 30, 3) := by decide +kernel
theorem dX9_copy_108 : decode cX9_copy 108 = .ok (.aload_n 0, 1) := by decide +kernel
theorem dX9_copy_109 : decode cX9_copy 109 = .ok (.getfield 57, 3) := by decide +kernel
theorem dX9_copy_112 : decode cX9_copy 112 = .ok (.iload 6, 2) := by decide +kernel
theorem dX9_copy_114 : decode cX9_copy 114 = .ok (.aload_n 0, 1) := by decide +kernel
theorem dX9_copy_115 : decode cX9_copy 115 = .ok (.getfield 17, 3) := by decide +kernel
theorem dX9_copy_118 : decode cX9_copy 118 = .ok (.bipush 16, 2) := by decide +kernel
theorem dX9_copy_120 : decode cX9_copy 120 = .ok (.iload_n 1, 1) := by decide +kernel
theorem dX9_copy_121 : decode cX9_copy 121 = .ok (.imul, 1) := by decide +kernel
theorem dX9_copy_122 : decode cX9_copy 122 = .ok (.iload_n 2, 1) := by decide +kernel
theorem dX9_copy_123 : decode cX9_copy 123 = .ok (.iadd, 1) := by decide +kernel
theorem dX9_copy_124 : decode cX9_copy 124 = .ok (.iload 6, 2) := by decide +kernel
theorem dX9_copy_126 : decode cX9_copy 126 = .ok (.iadd, 1) := by decide +kernel
theorem dX9_copy_127 : decode cX9_copy 127 = .ok (.iaload, 1) := by decide +kernel
theorem dX9_copy_128 : decode cX9_copy 128 = .ok (.iastore, 1) := by decide +kernel
theorem dX9_copy_129 : decode cX9_copy 129 = .ok (.iinc 6 1, 3) := by decide +kernel
theorem dX9_copy_132 : decode cX9_copy 132 = .ok (.goto (-31), 3) := by decide +kernel
theorem dX9_copy_135 : decode cX9_copy 135 = .ok (.iconst 0, 1) := by decide +kernel
theorem dX9_copy_136 : decode cX9_copy 136 = .ok (.istore 6, 2) := by decide +kernel
theorem dX9_copy_138 : decode cX9_copy 138 = .ok (.iload 6, 2) := by decide +kernel
theorem dX9_copy_140 : decode cX9_copy 140 = .ok (.iload 5, 2) := by decide +kernel
theorem dX9_copy_142 : decode cX9_copy 142 = .ok (.if_icmp .ge 31, 3) := by decide +kernel
theorem dX9_copy_145 : decode cX9_copy 145 = .ok (.aload_n 0, 1) := by decide +kernel
theorem dX9_copy_146 : decode cX9_copy 146 = .ok (.getfield 17, 3) := by decide +kernel
theorem dX9_copy_149 : decode cX9_copy 149 = .ok (.bipush 16, 2) := by decide +kernel
theorem dX9_copy_151 : decode cX9_copy 151 = .ok (.iload_n 3, 1) := by decide +kernel
theorem dX9_copy_152 : decode cX9_copy 152 = .ok (.imul, 1) := by decide +kernel
theorem dX9_copy_153 : decode cX9_copy 153 = .ok (.iload 4, 2) := by decide +kernel
theorem dX9_copy_155 : decode cX9_copy 155 = .ok (.iadd, 1) := by decide +kernel
theorem dX9_copy_156 : decode cX9_copy 156 = .ok (.iload 6, 2) := by decide +kernel
theorem dX9_copy_158 : decode cX9_copy 158 = .ok (.iadd, 1) := by decide +kernel
theorem dX9_copy_159 : decode cX9_copy 159 = .ok (.aload_n 0, 1) := by decide +kernel
theorem dX9_copy_160 : decode cX9_copy 160 = .ok (.getfield 57, 3) := by decide +kernel
theorem dX9_copy_163 : decode cX9_copy 163 = .ok (.iload 6, 2) := by decide +kernel
theorem dX9_copy_165 : decode cX9_copy 165 = .ok (.iaload, 1) := by decide +kernel
theorem dX9_copy_166 : decode cX9_copy 166 = .ok (.iastore, 1) := by decide +kernel
theorem dX9_copy_167 : decode cX9_copy 167 = .ok (.iinc 6 1, 3) := by decide +kernel
theorem dX9_copy_170 : decode cX9_copy 170 = .ok (.goto (-32), 3) := by decide +kernel
theorem dX9_copy_173 : decode cX9_copy 173 = .ok (.iload 5, 2) := by decide +kernel
theorem dX9_copy_175 : decode cX9_copy 175 = .ok (.ireturn, 1) := by decide +kernel
set_option maxRecDepth 20000 in
theorem ggX9_turn_X9_lacks : GoodIn wsX9_turn wsX9_lacks := goodIn_r _ [8, 9, 10, 11, 7, 12, 13, 14, 15, 21, 22, 23, 24, 25, 26, 27, 28, 29, 30, 31, 32, 33, 34, 35, 36, 37, 38, 39, 40, 41, 42, 43, 44, 45, 46, 47, 48, 49, 50, 51, 52] (by decide +kernel) (by decide +kernel)
set_option maxRecDepth 20000 in
theorem gX9_turn_X9_lacks : GoodIn wsX9_turn (wsV RX9 87 RX9 yX9_lacks wsX9_lacks) := goodIn_app (goodIn_of _ (by decide +kernel)) ggX9_turn_X9_lacks
set_option maxRecDepth 20000 in
theorem ggX9_turn_X9_refuse : GoodIn wsX9_turn wsX9_refuse := goodIn_r _ [19, 20, 21, 22, 23, 24, 25, 26, 27, 28, 29, 30, 31, 32, 33, 34, 35, 36, 37, 38, 39, 40, 41, 42, 43, 44, 45, 46, 47, 48, 49, 50, 51, 52] (by decide +kernel) (by decide +kernel)
set_option maxRecDepth 20000 in
theorem gX9_turn_X9_refuse : GoodIn wsX9_turn (wsV RX9 79 RX9 yX9_refuse wsX9_refuse) := goodIn_app (goodIn_of _ (by decide +kernel)) ggX9_turn_X9_refuse
set_option maxRecDepth 20000 in
theorem ggX9_turn_X9_in : GoodIn wsX9_turn wsX9_in := goodIn_r _ [15] (by decide +kernel) (by decide +kernel)
set_option maxRecDepth 20000 in
theorem gX9_turn_X9_in : GoodIn wsX9_turn (va_wsS RX9 75 yX9_in wsX9_in) := goodIn_app (goodIn_of _ (by decide +kernel)) ggX9_turn_X9_in
theorem dX9_turn_0 : decode cX9_turn 0 = .ok (.aload_n 0, 1) := by decide +kernel
theorem dX9_turn_1 : decode cX9_turn 1 = .ok (.iload_n 1, 1) := by decide +kernel
theorem dX9_turn_2 : decode cX9_turn 2 = .ok (.invokevirtual 87, 3) := by decide +kernel
theorem dX9_turn_5 : decode cX9_turn 5 = .ok (.istore_n 3, 1) := by decide +kernel
theorem dX9_turn_6 : decode cX9_turn 6 = .ok (.iload_n 3, 1) := by decide +kernel
theorem dX9_turn_7 : decode cX9_turn 7 = .ok (.ifCond .ge 9, 3) := by decide +kernel
theorem dX9_turn_10 : decode cX9_turn 10 = .ok (.aload_n 0, 1) := by decide +kernel
theorem dX9_turn_11 : decode cX9_turn 11 = .ok (.iload_n 3, 1) := by decide +kernel
theorem dX9_turn_12 : decode cX9_turn 12 = .ok (.invokevirtual 79, 3) := by decide +kernel
theorem dX9_turn_15 : decode cX9_turn 15 = .ok (.ireturn, 1) := by decide +kernel
theorem dX9_turn_16 : decode cX9_turn 16 = .ok (.iload_n 2, 1) := by decide +kernel
theorem dX9_turn_17 : decode cX9_turn 17 = .ok (.iconst 0, 1) := by decide +kernel
theorem dX9_turn_18 : decode cX9_turn 18 = .ok (.aload_n 0, 1) := by decide +kernel
theorem dX9_turn_19 : decode cX9_turn 19 = .ok (.getfield 7, 3) := by decide +kernel
theorem dX9_turn_22 : decode cX9_turn 22 = .ok (.iconst 1, 1) := by decide +kernel
theorem dX9_turn_23 : decode cX9_turn 23 = .ok (.isub, 1) := by decide +kernel
theorem dX9_turn_24 : decode cX9_turn 24 = .ok (.invokestatic 75, 3) := by decide +kernel
theorem dX9_turn_27 : decode cX9_turn 27 = .ok (.ifCond .ne 10, 3) := by decide +kernel
theorem dX9_turn_30 : decode cX9_turn 30 = .ok (.aload_n 0, 1) := by decide +kernel
theorem dX9_turn_31 : decode cX9_turn 31 = .ok (.bipush (-7), 2) := by decide +kernel
theorem dX9_turn_33 : decode cX9_turn 33 = .ok (.invokevirtual 79, 3) := by decide +kernel
theorem dX9_turn_36 : decode cX9_turn 36 = .ok (.ireturn, 1) := by decide +kernel
theorem dX9_turn_37 : decode cX9_turn 37 = .ok (.iconst 0, 1) := by decide +kernel
theorem dX9_turn_38 : decode cX9_turn 38 = .ok (.istore 4, 2) := by decide +kernel
theorem dX9_turn_40 : decode cX9_turn 40 = .ok (.iload 4, 2) := by decide +kernel
theorem dX9_turn_42 : decode cX9_turn 42 = .ok (.aload_n 0, 1) := by decide +kernel
theorem dX9_turn_43 : decode cX9_turn 43 = .ok (.getfield 7, 3) := by decide +kernel
theorem dX9_turn_46 : decode cX9_turn 46 = .ok (.if_icmp .ge 35, 3) := by decide +kernel
theorem dX9_turn_49 : decode cX9_turn 49 = .ok (.aload_n 0, 1) := by decide +kernel
theorem dX9_turn_50 : decode cX9_turn 50 = .ok (.getfield 57, 3) := by decide +kernel
theorem dX9_turn_53 : decode cX9_turn 53 = .ok (.iload 4, 2) := by decide +kernel
theorem dX9_turn_55 : decode cX9_turn 55 = .ok (.iload_n 2, 1) := by decide +kernel
theorem dX9_turn_56 : decode cX9_turn 56 = .ok (.iadd, 1) := by decide +kernel
theorem dX9_turn_57 : decode cX9_turn 57 = .ok (.aload_n 0, 1) := by decide +kernel
theorem dX9_turn_58 : decode cX9_turn 58 = .ok (.getfield 7, 3) := by decide +kernel
theorem dX9_turn_61 : decode cX9_turn 61 = .ok (.irem, 1) := by decide +kernel
theorem dX9_turn_62 : decode cX9_turn 62 = .ok (.aload_n 0, 1) := by decide +kernel
theorem dX9_turn_63 : decode cX9_turn 63 = .ok (.getfield 17, 3) := by decide +kernel
theorem dX9_turn_66 : decode cX9_turn 66 = .ok (.bipush 16, 2) := by decide +kernel
theorem dX9_turn_68 : decode cX9_turn 68 = .ok (.iload_n 1, 1) := by decide +kernel
theorem dX9_turn_69 : decode cX9_turn 69 = .ok (.imul, 1) := by decide +kernel
theorem dX9_turn_70 : decode cX9_turn 70 = .ok (.iload 4, 2) := by decide +kernel
theorem dX9_turn_72 : decode cX9_turn 72 = .ok (.iadd, 1) := by decide +kernel
theorem dX9_turn_73 : decode cX9_turn 73 = .ok (.iaload, 1) := by decide +kernel
theorem dX9_turn_74 : decode cX9_turn 74 = .ok (.iastore, 1) := by decide +kernel
theorem dX9_turn_75 : decode cX9_turn 75 = .ok (.iinc 4 1, 3) := by decide +kernel
theorem dX9_turn_78 : decode cX9_turn 78 = .ok (.goto (-38), 3) := by decide +kernel
theorem dX9_turn_81 : decode cX9_turn 81 = .ok (.iconst 0, 1) := by decide +kernel
theorem dX9_turn_82 : decode cX9_turn 82 = .ok (.istore 4, 2) := by decide +kernel
theorem dX9_turn_84 : decode cX9_turn 84 = .ok (.iload 4, 2) := by decide +kernel
theorem dX9_turn_86 : decode cX9_turn 86 = .ok (.aload_n 0, 1) := by decide +kernel
theorem dX9_turn_87 : decode cX9_turn 87 = .ok (.getfield 7, 3) := by decide +kernel
theorem dX9_turn_90 : decode cX9_turn 90 = .ok (.if_icmp .ge 28, 3) := by decide +kernel
theorem dX9_turn_93 : decode cX9_turn 93 = .ok (.aload_n 0, 1) := by decide +kernel
theorem dX9_turn_94 : decode cX9_turn 94 = .ok (.getfield 17, 3) := by decide +kernel
theorem dX9_turn_97 : decode cX9_turn 97 = .ok (.bipush 16, 2) := by decide +kernel
theorem dX9_turn_99 : decode cX9_turn 99 = .ok (.iload_n 1, 1) := by decide +kernel
theorem dX9_turn_100 : decode cX9_turn 100 = .ok (.imul, 1) := by decide +kernel
theorem dX9_turn_101 : decode cX9_turn 101 = .ok (.iload 4, 2) := by decide +kernel
theorem dX9_turn_103 : decode cX9_turn 103 = .ok (.iadd, 1) := by decide +kernel
theorem dX9_turn_104 : decode cX9_turn 104 = .ok (.aload_n 0, 1) := by decide +kernel
theorem dX9_turn_105 : decode cX9_turn 105 = .ok (.getfield 57, 3) := by decide +kernel
theorem dX9_turn_108 : decode cX9_turn 108 = .ok (.iload 4, 2) := by decide +kernel
theorem dX9_turn_110 : decode cX9_turn 110 = .ok (.iaload, 1) := by decide +kernel
theorem dX9_turn_111 : decode cX9_turn 111 = .ok (.iastore, 1) := by decide +kernel
theorem dX9_turn_112 : decode cX9_turn 112 = .ok (.iinc 4 1, 3) := by decide +kernel
theorem dX9_turn_115 : decode cX9_turn 115 = .ok (.goto (-31), 3) := by decide +kernel
theorem dX9_turn_118 : decode cX9_turn 118 = .ok (.iconst 1, 1) := by decide +kernel
theorem dX9_turn_119 : decode cX9_turn 119 = .ok (.ireturn, 1) := by decide +kernel
theorem dX9_turnedBy_0 : decode cX9_turnedBy 0 = .ok (.iconst 0, 1) := by decide +kernel
theorem dX9_turnedBy_1 : decode cX9_turnedBy 1 = .ok (.istore_n 3, 1) := by decide +kernel
theorem dX9_turnedBy_2 : decode cX9_turnedBy 2 = .ok (.iload_n 3, 1) := by decide +kernel
theorem dX9_turnedBy_3 : decode cX9_turnedBy 3 = .ok (.aload_n 0, 1) := by decide +kernel
theorem dX9_turnedBy_4 : decode cX9_turnedBy 4 = .ok (.getfield 7, 3) := by decide +kernel
theorem dX9_turnedBy_7 : decode cX9_turnedBy 7 = .ok (.if_icmp .ge 83, 3) := by decide +kernel
theorem dX9_turnedBy_10 : decode cX9_turnedBy 10 = .ok (.iconst 1, 1) := by decide +kernel
theorem dX9_turnedBy_11 : decode cX9_turnedBy 11 = .ok (.istore 4, 2) := by decide +kernel
theorem dX9_turnedBy_13 : decode cX9_turnedBy 13 = .ok (.iconst 0, 1) := by decide +kernel
theorem dX9_turnedBy_14 : decode cX9_turnedBy 14 = .ok (.istore 5, 2) := by decide +kernel
theorem dX9_turnedBy_16 : decode cX9_turnedBy 16 = .ok (.iload 5, 2) := by decide +kernel
theorem dX9_turnedBy_18 : decode cX9_turnedBy 18 = .ok (.aload_n 0, 1) := by decide +kernel
theorem dX9_turnedBy_19 : decode cX9_turnedBy 19 = .ok (.getfield 7, 3) := by decide +kernel
theorem dX9_turnedBy_22 : decode cX9_turnedBy 22 = .ok (.if_icmp .ge 55, 3) := by decide +kernel
theorem dX9_turnedBy_25 : decode cX9_turnedBy 25 = .ok (.iload 4, 2) := by decide +kernel
theorem dX9_turnedBy_27 : decode cX9_turnedBy 27 = .ok (.ifCond .eq 41, 3) := by decide +kernel
theorem dX9_turnedBy_30 : decode cX9_turnedBy 30 = .ok (.aload_n 0, 1) := by decide +kernel
theorem dX9_turnedBy_31 : decode cX9_turnedBy 31 = .ok (.getfield 17, 3) := by decide +kernel
theorem dX9_turnedBy_34 : decode cX9_turnedBy 34 = .ok (.bipush 16, 2) := by decide +kernel
theorem dX9_turnedBy_36 : decode cX9_turnedBy 36 = .ok (.iload_n 2, 1) := by decide +kernel
theorem dX9_turnedBy_37 : decode cX9_turnedBy 37 = .ok (.imul, 1) := by decide +kernel
theorem dX9_turnedBy_38 : decode cX9_turnedBy 38 = .ok (.iload 5, 2) := by decide +kernel
theorem dX9_turnedBy_40 : decode cX9_turnedBy 40 = .ok (.iload_n 3, 1) := by decide +kernel
theorem dX9_turnedBy_41 : decode cX9_turnedBy 41 = .ok (.iadd, 1) := by decide +kernel
theorem dX9_turnedBy_42 : decode cX9_turnedBy 42 = .ok (.aload_n 0, 1) := by decide +kernel
theorem dX9_turnedBy_43 : decode cX9_turnedBy 43 = .ok (.getfield 7, 3) := by decide +kernel
theorem dX9_turnedBy_46 : decode cX9_turnedBy 46 = .ok (.irem, 1) := by decide +kernel
theorem dX9_turnedBy_47 : decode cX9_turnedBy 47 = .ok (.iadd, 1) := by decide +kernel
theorem dX9_turnedBy_48 : decode cX9_turnedBy 48 = .ok (.iaload, 1) := by decide +kernel
theorem dX9_turnedBy_49 : decode cX9_turnedBy 49 = .ok (.aload_n 0, 1) := by decide +kernel
theorem dX9_turnedBy_50 : decode cX9_turnedBy 50 = .ok (.getfield 17, 3) := by decide +kernel
theorem dX9_turnedBy_53 : decode cX9_turnedBy 53 = .ok (.bipush 16, 2) := by decide +kernel
theorem dX9_turnedBy_55 : decode cX9_turnedBy 55 = .ok (.iload_n 1, 1) := by decide +kernel
theorem dX9_turnedBy_56 : decode cX9_turnedBy 56 = .ok (.imul, 1) := by decide +kernel
theorem dX9_turnedBy_57 : decode cX9_turnedBy 57 = .ok (.iload 5, 2) := by decide +kernel
theorem dX9_turnedBy_59 : decode cX9_turnedBy 59 = .ok (.iadd, 1) := by decide +kernel
theorem dX9_turnedBy_60 : decode cX9_turnedBy 60 = .ok (.iaload, 1) := by decide +kernel
theorem dX9_turnedBy_61 : decode cX9_turnedBy 61 = .ok (.if_icmp .ne 7, 3) := by decide +kernel
theorem dX9_turnedBy_64 : decode cX9_turnedBy 64 = .ok (.iconst 1, 1) := by decide +kernel
theorem dX9_turnedBy_65 : decode cX9_turnedBy 65 = .ok (.goto 4, 3) := by decide +kernel
theorem dX9_turnedBy_68 : decode cX9_turnedBy 68 = .ok (.iconst 0, 1) := by decide +kernel
theorem dX9_turnedBy_69 : decode cX9_turnedBy 69 = .ok (.istore 4, 2) := by decide +kernel
theorem dX9_turnedBy_71 : decode cX9_turnedBy 71 = .ok (.iinc 5 1, 3) := by decide +kernel
theorem dX9_turnedBy_74 : decode cX9_turnedBy 74 = .ok (.goto (-58), 3) := by decide +kernel
theorem dX9_turnedBy_77 : decode cX9_turnedBy 77 = .ok (.iload 4, 2) := by decide +kernel
theorem dX9_turnedBy_79 : decode cX9_turnedBy 79 = .ok (.ifCond .eq 5, 3) := by decide +kernel
theorem dX9_turnedBy_82 : decode cX9_turnedBy 82 = .ok (.iload_n 3, 1) := by decide +kernel
theorem dX9_turnedBy_83 : decode cX9_turnedBy 83 = .ok (.ireturn, 1) := by decide +kernel
theorem dX9_turnedBy_84 : decode cX9_turnedBy 84 = .ok (.iinc 3 1, 3) := by decide +kernel
theorem dX9_turnedBy_87 : decode cX9_turnedBy 87 = .ok (.goto (-85), 3) := by decide +kernel
theorem dX9_turnedBy_90 : decode cX9_turnedBy 90 = .ok (.bipush (-9), 2) := by decide +kernel
theorem dX9_turnedBy_92 : decode cX9_turnedBy 92 = .ok (.ireturn, 1) := by decide +kernel
set_option maxRecDepth 20000 in
theorem ggX9_findBlanks_X9_turnedBy : GoodIn wsX9_findBlanks wsX9_turnedBy := goodIn_r _ [8, 9, 10, 11, 12, 13, 14, 15, 16, 17, 18, 19, 20, 21, 22, 23, 24, 25, 26, 27, 28, 29, 30, 31, 32, 33, 34, 35, 36, 37, 38, 39, 40, 41, 42] (by decide +kernel) (by decide +kernel)
set_option maxRecDepth 20000 in
theorem gX9_findBlanks_X9_turnedBy : GoodIn wsX9_findBlanks (wsV RX9 90 RX9 yX9_turnedBy wsX9_turnedBy) := goodIn_app (goodIn_of _ (by decide +kernel)) ggX9_findBlanks_X9_turnedBy
theorem dX9_findBlanks_0 : decode cX9_findBlanks 0 = .ok (.iconst 0, 1) := by decide +kernel
theorem dX9_findBlanks_1 : decode cX9_findBlanks 1 = .ok (.istore_n 1, 1) := by decide +kernel
theorem dX9_findBlanks_2 : decode cX9_findBlanks 2 = .ok (.iconst 0, 1) := by decide +kernel
theorem dX9_findBlanks_3 : decode cX9_findBlanks 3 = .ok (.istore_n 2, 1) := by decide +kernel
theorem dX9_findBlanks_4 : decode cX9_findBlanks 4 = .ok (.iload_n 2, 1) := by decide +kernel
theorem dX9_findBlanks_5 : decode cX9_findBlanks 5 = .ok (.bipush 12, 2) := by decide +kernel
theorem dX9_findBlanks_7 : decode cX9_findBlanks 7 = .ok (.if_icmp .ge 138, 3) := by decide +kernel
theorem dX9_findBlanks_10 : decode cX9_findBlanks 10 = .ok (.aload_n 0, 1) := by decide +kernel
theorem dX9_findBlanks_11 : decode cX9_findBlanks 11 = .ok (.getfield 60, 3) := by decide +kernel
theorem dX9_findBlanks_14 : decode cX9_findBlanks 14 = .ok (.iload_n 2, 1) := by decide +kernel
theorem dX9_findBlanks_15 : decode cX9_findBlanks 15 = .ok (.bipush (-9), 2) := by decide +kernel
theorem dX9_findBlanks_17 : decode cX9_findBlanks 17 = .ok (.iastore, 1) := by decide +kernel
theorem dX9_findBlanks_18 : decode cX9_findBlanks 18 = .ok (.aload_n 0, 1) := by decide +kernel
theorem dX9_findBlanks_19 : decode cX9_findBlanks 19 = .ok (.getfield 63, 3) := by decide +kernel
theorem dX9_findBlanks_22 : decode cX9_findBlanks 22 = .ok (.iload_n 2, 1) := by decide +kernel
theorem dX9_findBlanks_23 : decode cX9_findBlanks 23 = .ok (.bipush (-9), 2) := by decide +kernel
theorem dX9_findBlanks_25 : decode cX9_findBlanks 25 = .ok (.iastore, 1) := by decide +kernel
theorem dX9_findBlanks_26 : decode cX9_findBlanks 26 = .ok (.iconst 0, 1) := by decide +kernel
theorem dX9_findBlanks_27 : decode cX9_findBlanks 27 = .ok (.istore_n 3, 1) := by decide +kernel
theorem dX9_findBlanks_28 : decode cX9_findBlanks 28 = .ok (.iload_n 3, 1) := by decide +kernel
theorem dX9_findBlanks_29 : decode cX9_findBlanks 29 = .ok (.iload_n 2, 1) := by decide +kernel
theorem dX9_findBlanks_30 : decode cX9_findBlanks 30 = .ok (.if_icmp .ge 74, 3) := by decide +kernel
theorem dX9_findBlanks_33 : decode cX9_findBlanks 33 = .ok (.aload_n 0, 1) := by decide +kernel
theorem dX9_findBlanks_34 : decode cX9_findBlanks 34 = .ok (.getfield 13, 3) := by decide +kernel
theorem dX9_findBlanks_37 : decode cX9_findBlanks 37 = .ok (.iload_n 2, 1) := by decide +kernel
theorem dX9_findBlanks_38 : decode cX9_findBlanks 38 = .ok (.baload, 1) := by decide +kernel
theorem dX9_findBlanks_39 : decode cX9_findBlanks 39 = .ok (.ifCond .eq 65, 3) := by decide +kernel
theorem dX9_findBlanks_42 : decode cX9_findBlanks 42 = .ok (.aload_n 0, 1) := by decide +kernel
theorem dX9_findBlanks_43 : decode cX9_findBlanks 43 = .ok (.getfield 60, 3) := by decide +kernel
theorem dX9_findBlanks_46 : decode cX9_findBlanks 46 = .ok (.iload_n 2, 1) := by decide +kernel
theorem dX9_findBlanks_47 : decode cX9_findBlanks 47 = .ok (.iaload, 1) := by decide +kernel
theorem dX9_findBlanks_48 : decode cX9_findBlanks 48 = .ok (.ifCond .ge 56, 3) := by decide +kernel
theorem dX9_findBlanks_51 : decode cX9_findBlanks 51 = .ok (.aload_n 0, 1) := by decide +kernel
theorem dX9_findBlanks_52 : decode cX9_findBlanks 52 = .ok (.getfield 13, 3) := by decide +kernel
theorem dX9_findBlanks_55 : decode cX9_findBlanks 55 = .ok (.iload_n 3, 1) := by decide +kernel
theorem dX9_findBlanks_56 : decode cX9_findBlanks 56 = .ok (.baload, 1) := by decide +kernel
theorem dX9_findBlanks_57 : decode cX9_findBlanks 57 = .ok (.ifCond .eq 41, 3) := by decide +kernel
theorem dX9_findBlanks_60 : decode cX9_findBlanks 60 = .ok (.aload_n 0, 1) := by decide +kernel
theorem dX9_findBlanks_61 : decode cX9_findBlanks 61 = .ok (.getfield 60, 3) := by decide +kernel
theorem dX9_findBlanks_64 : decode cX9_findBlanks 64 = .ok (.iload_n 3, 1) := by decide +kernel
theorem dX9_findBlanks_65 : decode cX9_findBlanks 65 = .ok (.iaload, 1) := by decide +kernel
theorem dX9_findBlanks_66 : decode cX9_findBlanks 66 = .ok (.iload_n 3, 1) := by decide +kernel
theorem dX9_findBlanks_67 : decode cX9_findBlanks 67 = .ok (.if_icmp .ne 31, 3) := by decide +kernel
theorem dX9_findBlanks_70 : decode cX9_findBlanks 70 = .ok (.aload_n 0, 1) := by decide +kernel
theorem dX9_findBlanks_71 : decode cX9_findBlanks 71 = .ok (.iload_n 3, 1) := by decide +kernel
theorem dX9_findBlanks_72 : decode cX9_findBlanks 72 = .ok (.iload_n 2, 1) := by decide +kernel
theorem dX9_findBlanks_73 : decode cX9_findBlanks 73 = .ok (.invokevirtual 90, 3) := by decide +kernel
theorem dX9_findBlanks_76 : decode cX9_findBlanks 76 = .ok (.ifCond .lt 22, 3) := by decide +kernel
theorem dX9_findBlanks_79 : decode cX9_findBlanks 79 = .ok (.aload_n 0, 1) := by decide +kernel
theorem dX9_findBlanks_80 : decode cX9_findBlanks 80 = .ok (.getfield 60, 3) := by decide +kernel
theorem dX9_findBlanks_83 : decode cX9_findBlanks 83 = .ok (.iload_n 2, 1) := by decide +kernel
theorem dX9_findBlanks_84 : decode cX9_findBlanks 84 = .ok (.iload_n 3, 1) := by decide +kernel
theorem dX9_findBlanks_85 : decode cX9_findBlanks 85 = .ok (.iastore, 1) := by decide +kernel
theorem dX9_findBlanks_86 : decode cX9_findBlanks 86 = .ok (.aload_n 0, 1) := by decide +kernel
theorem dX9_findBlanks_87 : decode cX9_findBlanks 87 = .ok (.getfield 63, 3) := by decide +kernel
theorem dX9_findBlanks_90 : decode cX9_findBlanks 90 = .ok (.iload_n 2, 1) := by decide +kernel
theorem dX9_findBlanks_91 : decode cX9_findBlanks 91 = .ok (.aload_n 0, 1) := by decide +kernel
theorem dX9_findBlanks_92 : decode cX9_findBlanks 92 = .ok (.getfield 63, 3) := by decide +kernel
theorem dX9_findBlanks_95 : decode cX9_findBlanks 95 = .ok (.iload_n 3, 1) := by decide +kernel
theorem dX9_findBlanks_96 : decode cX9_findBlanks 96 = .ok (.iaload, 1) := by decide +kernel
theorem dX9_findBlanks_97 : decode cX9_findBlanks 97 = .ok (.iastore, 1) := by decide +kernel
theorem dX9_findBlanks_98 : decode cX9_findBlanks 98 = .ok (.iinc 3 1, 3) := by decide +kernel
theorem dX9_findBlanks_101 : decode cX9_findBlanks 101 = .ok (.goto (-73), 3) := by decide +kernel
theorem dX9_findBlanks_104 : decode cX9_findBlanks 104 = .ok (.aload_n 0, 1) := by decide +kernel
theorem dX9_findBlanks_105 : decode cX9_findBlanks 105 = .ok (.getfield 13, 3) := by decide +kernel
theorem dX9_findBlanks_108 : decode cX9_findBlanks 108 = .ok (.iload_n 2, 1) := by decide +kernel
theorem dX9_findBlanks_109 : decode cX9_findBlanks 109 = .ok (.baload, 1) := by decide +kernel
theorem dX9_findBlanks_110 : decode cX9_findBlanks 110 = .ok (.ifCond .eq 29, 3) := by decide +kernel
theorem dX9_findBlanks_113 : decode cX9_findBlanks 113 = .ok (.aload_n 0, 1) := by decide +kernel
theorem dX9_findBlanks_114 : decode cX9_findBlanks 114 = .ok (.getfield 60, 3) := by decide +kernel
theorem dX9_findBlanks_117 : decode cX9_findBlanks 117 = .ok (.iload_n 2, 1) := by decide +kernel
theorem dX9_findBlanks_118 : decode cX9_findBlanks 118 = .ok (.iaload, 1) := by decide +kernel
theorem dX9_findBlanks_119 : decode cX9_findBlanks 119 = .ok (.ifCond .ge 20, 3) := by decide +kernel
theorem dX9_findBlanks_122 : decode cX9_findBlanks 122 = .ok (.aload_n 0, 1) := by decide +kernel
theorem dX9_findBlanks_123 : decode cX9_findBlanks 123 = .ok (.getfield 60, 3) := by decide +kernel
theorem dX9_findBlanks_126 : decode cX9_findBlanks 126 = .ok (.iload_n 2, 1) := by decide +kernel
theorem dX9_findBlanks_127 : decode cX9_findBlanks 127 = .ok (.iload_n 2, 1) := by decide +kernel
theorem dX9_findBlanks_128 : decode cX9_findBlanks 128 = .ok (.iastore, 1) := by decide +kernel
theorem dX9_findBlanks_129 : decode cX9_findBlanks 129 = .ok (.aload_n 0, 1) := by decide +kernel
theorem dX9_findBlanks_130 : decode cX9_findBlanks 130 = .ok (.getfield 63, 3) := by decide +kernel
theorem dX9_findBlanks_133 : decode cX9_findBlanks 133 = .ok (.iload_n 2, 1) := by decide +kernel
theorem dX9_findBlanks_134 : decode cX9_findBlanks 134 = .ok (.iload_n 1, 1) := by decide +kernel
theorem dX9_findBlanks_135 : decode cX9_findBlanks 135 = .ok (.iastore, 1) := by decide +kernel
theorem dX9_findBlanks_136 : decode cX9_findBlanks 136 = .ok (.iinc 1 1, 3) := by decide +kernel
theorem dX9_findBlanks_139 : decode cX9_findBlanks 139 = .ok (.iinc 2 1, 3) := by decide +kernel
theorem dX9_findBlanks_142 : decode cX9_findBlanks 142 = .ok (.goto (-138), 3) := by decide +kernel
theorem dX9_findBlanks_145 : decode cX9_findBlanks 145 = .ok (.iload_n 1, 1) := by decide +kernel
theorem dX9_findBlanks_146 : decode cX9_findBlanks 146 = .ok (.ireturn, 1) := by decide +kernel
set_option maxRecDepth 20000 in
theorem ggX9_blanks_X9_findBlanks : GoodIn wsX9_blanks wsX9_findBlanks := goodIn_r _ [5, 6, 7, 8, 9, 10, 11, 4, 12, 13, 14, 15, 16, 17, 18, 19, 20, 21, 22, 23, 24, 25, 26, 27, 28, 29, 30, 31, 32, 33, 34, 35, 36, 37, 38, 39, 40, 41, 42, 43, 44, 45, 46] (by decide +kernel) (by decide +kernel)
set_option maxRecDepth 20000 in
theorem gX9_blanks_X9_findBlanks : GoodIn wsX9_blanks (wsV RX9 94 RX9 yX9_findBlanks wsX9_findBlanks) := goodIn_app (goodIn_of _ (by decide +kernel)) ggX9_blanks_X9_findBlanks
theorem dX9_blanks_0 : decode cX9_blanks 0 = .ok (.aload_n 0, 1) := by decide +kernel
theorem dX9_blanks_1 : decode cX9_blanks 1 = .ok (.invokevirtual 94, 3) := by decide +kernel
theorem dX9_blanks_4 : decode cX9_blanks 4 = .ok (.ireturn, 1) := by decide +kernel
theorem dX9_smoothOf_0 : decode cX9_smoothOf 0 = .ok (.iconst 0, 1) := by decide +kernel
theorem dX9_smoothOf_1 : decode cX9_smoothOf 1 = .ok (.istore_n 2, 1) := by decide +kernel
theorem dX9_smoothOf_2 : decode cX9_smoothOf 2 = .ok (.iconst 0, 1) := by decide +kernel
theorem dX9_smoothOf_3 : decode cX9_smoothOf 3 = .ok (.istore_n 3, 1) := by decide +kernel
theorem dX9_smoothOf_4 : decode cX9_smoothOf 4 = .ok (.iload_n 3, 1) := by decide +kernel
theorem dX9_smoothOf_5 : decode cX9_smoothOf 5 = .ok (.aload_n 0, 1) := by decide +kernel
theorem dX9_smoothOf_6 : decode cX9_smoothOf 6 = .ok (.getfield 7, 3) := by decide +kernel
theorem dX9_smoothOf_9 : decode cX9_smoothOf 9 = .ok (.if_icmp .ge 69, 3) := by decide +kernel
theorem dX9_smoothOf_12 : decode cX9_smoothOf 12 = .ok (.aload_n 0, 1) := by decide +kernel
theorem dX9_smoothOf_13 : decode cX9_smoothOf 13 = .ok (.getfield 17, 3) := by decide +kernel
theorem dX9_smoothOf_16 : decode cX9_smoothOf 16 = .ok (.bipush 16, 2) := by decide +kernel
theorem dX9_smoothOf_18 : decode cX9_smoothOf 18 = .ok (.iload_n 1, 1) := by decide +kernel
theorem dX9_smoothOf_19 : decode cX9_smoothOf 19 = .ok (.imul, 1) := by decide +kernel
theorem dX9_smoothOf_20 : decode cX9_smoothOf 20 = .ok (.iload_n 3, 1) := by decide +kernel
theorem dX9_smoothOf_21 : decode cX9_smoothOf 21 = .ok (.iadd, 1) := by decide +kernel
theorem dX9_smoothOf_22 : decode cX9_smoothOf 22 = .ok (.iaload, 1) := by decide +kernel
theorem dX9_smoothOf_23 : decode cX9_smoothOf 23 = .ok (.aload_n 0, 1) := by decide +kernel
theorem dX9_smoothOf_24 : decode cX9_smoothOf 24 = .ok (.getfield 17, 3) := by decide +kernel
theorem dX9_smoothOf_27 : decode cX9_smoothOf 27 = .ok (.bipush 16, 2) := by decide +kernel
theorem dX9_smoothOf_29 : decode cX9_smoothOf 29 = .ok (.iload_n 1, 1) := by decide +kernel
theorem dX9_smoothOf_30 : decode cX9_smoothOf 30 = .ok (.imul, 1) := by decide +kernel
theorem dX9_smoothOf_31 : decode cX9_smoothOf 31 = .ok (.iload_n 3, 1) := by decide +kernel
theorem dX9_smoothOf_32 : decode cX9_smoothOf 32 = .ok (.iconst 1, 1) := by decide +kernel
theorem dX9_smoothOf_33 : decode cX9_smoothOf 33 = .ok (.iadd, 1) := by decide +kernel
theorem dX9_smoothOf_34 : decode cX9_smoothOf 34 = .ok (.aload_n 0, 1) := by decide +kernel
theorem dX9_smoothOf_35 : decode cX9_smoothOf 35 = .ok (.getfield 7, 3) := by decide +kernel
theorem dX9_smoothOf_38 : decode cX9_smoothOf 38 = .ok (.irem, 1) := by decide +kernel
theorem dX9_smoothOf_39 : decode cX9_smoothOf 39 = .ok (.iadd, 1) := by decide +kernel
theorem dX9_smoothOf_40 : decode cX9_smoothOf 40 = .ok (.iaload, 1) := by decide +kernel
theorem dX9_smoothOf_41 : decode cX9_smoothOf 41 = .ok (.isub, 1) := by decide +kernel
theorem dX9_smoothOf_42 : decode cX9_smoothOf 42 = .ok (.istore 4, 2) := by decide +kernel
theorem dX9_smoothOf_44 : decode cX9_smoothOf 44 = .ok (.iload 4, 2) := by decide +kernel
theorem dX9_smoothOf_46 : decode cX9_smoothOf 46 = .ok (.ifCond .ge 9, 3) := by decide +kernel
theorem dX9_smoothOf_49 : decode cX9_smoothOf 49 = .ok (.iload 4, 2) := by decide +kernel
theorem dX9_smoothOf_51 : decode cX9_smoothOf 51 = .ok (.ineg, 1) := by decide +kernel
theorem dX9_smoothOf_52 : decode cX9_smoothOf 52 = .ok (.goto 5, 3) := by decide +kernel
theorem dX9_smoothOf_55 : decode cX9_smoothOf 55 = .ok (.iload 4, 2) := by decide +kernel
theorem dX9_smoothOf_57 : decode cX9_smoothOf 57 = .ok (.istore 4, 2) := by decide +kernel
theorem dX9_smoothOf_59 : decode cX9_smoothOf 59 = .ok (.iload 4, 2) := by decide +kernel
theorem dX9_smoothOf_61 : decode cX9_smoothOf 61 = .ok (.iload_n 2, 1) := by decide +kernel
theorem dX9_smoothOf_62 : decode cX9_smoothOf 62 = .ok (.if_icmp .le 8, 3) := by decide +kernel
theorem dX9_smoothOf_65 : decode cX9_smoothOf 65 = .ok (.iload 4, 2) := by decide +kernel
theorem dX9_smoothOf_67 : decode cX9_smoothOf 67 = .ok (.goto 4, 3) := by decide +kernel
theorem dX9_smoothOf_70 : decode cX9_smoothOf 70 = .ok (.iload_n 2, 1) := by decide +kernel
theorem dX9_smoothOf_71 : decode cX9_smoothOf 71 = .ok (.istore_n 2, 1) := by decide +kernel
theorem dX9_smoothOf_72 : decode cX9_smoothOf 72 = .ok (.iinc 3 1, 3) := by decide +kernel
theorem dX9_smoothOf_75 : decode cX9_smoothOf 75 = .ok (.goto (-71), 3) := by decide +kernel
theorem dX9_smoothOf_78 : decode cX9_smoothOf 78 = .ok (.iload_n 2, 1) := by decide +kernel
theorem dX9_smoothOf_79 : decode cX9_smoothOf 79 = .ok (.ireturn, 1) := by decide +kernel
set_option maxRecDepth 20000 in
theorem ggX9_camOf_X9_lacks : GoodIn wsX9_camOf wsX9_lacks := goodIn_r _ [7, 8, 9, 10, 6, 11, 12, 13, 14, 34, 35, 36, 37, 38, 39, 40, 41, 42, 43, 44, 45, 46, 47, 48, 49, 50, 51, 52, 53, 54, 55, 56, 57, 58, 59, 60, 61, 62, 63, 64, 65] (by decide +kernel) (by decide +kernel)
set_option maxRecDepth 20000 in
theorem gX9_camOf_X9_lacks : GoodIn wsX9_camOf (wsV RX9 87 RX9 yX9_lacks wsX9_lacks) := goodIn_app (goodIn_of _ (by decide +kernel)) ggX9_camOf_X9_lacks
set_option maxRecDepth 20000 in
theorem ggX9_camOf_X9_refuse : GoodIn wsX9_camOf wsX9_refuse := goodIn_r _ [18, 19, 34, 35, 36, 37, 38, 39, 40, 41, 42, 43, 44, 45, 46, 47, 48, 49, 50, 51, 52, 53, 54, 55, 56, 57, 58, 59, 60, 61, 62, 63, 64, 65] (by decide +kernel) (by decide +kernel)
set_option maxRecDepth 20000 in
theorem gX9_camOf_X9_refuse : GoodIn wsX9_camOf (wsV RX9 79 RX9 yX9_refuse wsX9_refuse) := goodIn_app (goodIn_of _ (by decide +kernel)) ggX9_camOf_X9_refuse
set_option maxRecDepth 20000 in
theorem ggX9_camOf_X9_in : GoodIn wsX9_camOf wsX9_in := goodIn_r _ [14] (by decide +kernel) (by decide +kernel)
set_option maxRecDepth 20000 in
theorem gX9_camOf_X9_in : GoodIn wsX9_camOf (va_wsS RX9 75 yX9_in wsX9_in) := goodIn_app (goodIn_of _ (by decide +kernel)) ggX9_camOf_X9_in
set_option maxRecDepth 20000 in
theorem ggX9_camOf_X9_findBlanks : GoodIn wsX9_camOf wsX9_findBlanks := goodIn_r _ [23, 2, 1, 8, 24, 25, 26, 6, 27, 28, 29, 34, 35, 36, 37, 38, 39, 40, 41, 42, 43, 44, 45, 46, 47, 48, 49, 50, 51, 52, 53, 54, 55, 56, 57, 58, 59, 60, 61, 62, 63, 64, 65] (by decide +kernel) (by decide +kernel)
set_option maxRecDepth 20000 in
theorem gX9_camOf_X9_findBlanks : GoodIn wsX9_camOf (wsV RX9 94 RX9 yX9_findBlanks wsX9_findBlanks) := goodIn_app (goodIn_of _ (by decide +kernel)) ggX9_camOf_X9_findBlanks
set_option maxRecDepth 20000 in
theorem ggX9_camOf_X9_turnedBy : GoodIn wsX9_camOf wsX9_turnedBy := goodIn_r _ [27, 28, 29, 34, 35, 36, 37, 38, 39, 40, 41, 42, 43, 44, 45, 46, 47, 48, 49, 50, 51, 52, 53, 54, 55, 56, 57, 58, 59, 60, 61, 62, 63, 64, 65] (by decide +kernel) (by decide +kernel)
set_option maxRecDepth 20000 in
theorem gX9_camOf_X9_turnedBy : GoodIn wsX9_camOf (wsV RX9 90 RX9 yX9_turnedBy wsX9_turnedBy) := goodIn_app (goodIn_of _ (by decide +kernel)) ggX9_camOf_X9_turnedBy
set_option maxRecDepth 20000 in
theorem ggX9_camOf_X9_smoothOf : GoodIn wsX9_camOf wsX9_smoothOf := goodIn_r _ [33, 28, 29, 34, 35, 36, 37, 38, 39, 40, 41, 42, 43, 44, 45, 46, 47, 48, 49, 50, 51, 52, 53, 54, 55, 56, 57, 58, 59, 60, 61, 62, 63, 64, 65] (by decide +kernel) (by decide +kernel)
set_option maxRecDepth 20000 in
theorem gX9_camOf_X9_smoothOf : GoodIn wsX9_camOf (wsV RX9 98 RX9 yX9_smoothOf wsX9_smoothOf) := goodIn_app (goodIn_of _ (by decide +kernel)) ggX9_camOf_X9_smoothOf
theorem dX9_camOf_0 : decode cX9_camOf 0 = .ok (.aload_n 0, 1) := by decide +kernel
theorem dX9_camOf_1 : decode cX9_camOf 1 = .ok (.iload_n 1, 1) := by decide +kernel
theorem dX9_camOf_2 : decode cX9_camOf 2 = .ok (.invokevirtual 87, 3) := by decide +kernel
theorem dX9_camOf_5 : decode cX9_camOf 5 = .ok (.istore_n 3, 1) := by decide +kernel
theorem dX9_camOf_6 : decode cX9_camOf 6 = .ok (.iload_n 3, 1) := by decide +kernel
theorem dX9_camOf_7 : decode cX9_camOf 7 = .ok (.ifCond .ge 9, 3) := by decide +kernel
theorem dX9_camOf_10 : decode cX9_camOf 10 = .ok (.aload_n 0, 1) := by decide +kernel
theorem dX9_camOf_11 : decode cX9_camOf 11 = .ok (.iload_n 3, 1) := by decide +kernel
theorem dX9_camOf_12 : decode cX9_camOf 12 = .ok (.invokevirtual 79, 3) := by decide +kernel
theorem dX9_camOf_15 : decode cX9_camOf 15 = .ok (.ireturn, 1) := by decide +kernel
theorem dX9_camOf_16 : decode cX9_camOf 16 = .ok (.iload_n 2, 1) := by decide +kernel
theorem dX9_camOf_17 : decode cX9_camOf 17 = .ok (.iconst 0, 1) := by decide +kernel
theorem dX9_camOf_18 : decode cX9_camOf 18 = .ok (.iconst 2, 1) := by decide +kernel
theorem dX9_camOf_19 : decode cX9_camOf 19 = .ok (.invokestatic 75, 3) := by decide +kernel
theorem dX9_camOf_22 : decode cX9_camOf 22 = .ok (.ifCond .ne 10, 3) := by decide +kernel
theorem dX9_camOf_25 : decode cX9_camOf 25 = .ok (.aload_n 0, 1) := by decide +kernel
theorem dX9_camOf_26 : decode cX9_camOf 26 = .ok (.bipush (-2), 2) := by decide +kernel
theorem dX9_camOf_28 : decode cX9_camOf 28 = .ok (.invokevirtual 79, 3) := by decide +kernel
theorem dX9_camOf_31 : decode cX9_camOf 31 = .ok (.ireturn, 1) := by decide +kernel
theorem dX9_camOf_32 : decode cX9_camOf 32 = .ok (.aload_n 0, 1) := by decide +kernel
theorem dX9_camOf_33 : decode cX9_camOf 33 = .ok (.invokevirtual 94, 3) := by decide +kernel
theorem dX9_camOf_36 : decode cX9_camOf 36 = .ok (.istore 4, 2) := by decide +kernel
theorem dX9_camOf_38 : decode cX9_camOf 38 = .ok (.iload_n 2, 1) := by decide +kernel
theorem dX9_camOf_39 : decode cX9_camOf 39 = .ok (.ifCond .ne 12, 3) := by decide +kernel
theorem dX9_camOf_42 : decode cX9_camOf 42 = .ok (.aload_n 0, 1) := by decide +kernel
theorem dX9_camOf_43 : decode cX9_camOf 43 = .ok (.getfield 63, 3) := by decide +kernel
theorem dX9_camOf_46 : decode cX9_camOf 46 = .ok (.iload_n 1, 1) := by decide +kernel
theorem dX9_camOf_47 : decode cX9_camOf 47 = .ok (.iaload, 1) := by decide +kernel
theorem dX9_camOf_48 : decode cX9_camOf 48 = .ok (.goto 27, 3) := by decide +kernel
theorem dX9_camOf_51 : decode cX9_camOf 51 = .ok (.iload_n 2, 1) := by decide +kernel
theorem dX9_camOf_52 : decode cX9_camOf 52 = .ok (.iconst 1, 1) := by decide +kernel
theorem dX9_camOf_53 : decode cX9_camOf 53 = .ok (.if_icmp .ne 17, 3) := by decide +kernel
theorem dX9_camOf_56 : decode cX9_camOf 56 = .ok (.aload_n 0, 1) := by decide +kernel
theorem dX9_camOf_57 : decode cX9_camOf 57 = .ok (.aload_n 0, 1) := by decide +kernel
theorem dX9_camOf_58 : decode cX9_camOf 58 = .ok (.getfield 60, 3) := by decide +kernel
theorem dX9_camOf_61 : decode cX9_camOf 61 = .ok (.iload_n 1, 1) := by decide +kernel
theorem dX9_camOf_62 : decode cX9_camOf 62 = .ok (.iaload, 1) := by decide +kernel
theorem dX9_camOf_63 : decode cX9_camOf 63 = .ok (.iload_n 1, 1) := by decide +kernel
theorem dX9_camOf_64 : decode cX9_camOf 64 = .ok (.invokevirtual 90, 3) := by decide +kernel
theorem dX9_camOf_67 : decode cX9_camOf 67 = .ok (.goto 8, 3) := by decide +kernel
theorem dX9_camOf_70 : decode cX9_camOf 70 = .ok (.aload_n 0, 1) := by decide +kernel
theorem dX9_camOf_71 : decode cX9_camOf 71 = .ok (.iload_n 1, 1) := by decide +kernel
theorem dX9_camOf_72 : decode cX9_camOf 72 = .ok (.invokevirtual 98, 3) := by decide +kernel
theorem dX9_camOf_75 : decode cX9_camOf 75 = .ok (.ireturn, 1) := by decide +kernel
set_option maxRecDepth 20000 in
theorem ggX9_letter_X9_in : GoodIn wsX9_letter wsX9_in := goodIn_r _ [7] (by decide +kernel) (by decide +kernel)
set_option maxRecDepth 20000 in
theorem gX9_letter_X9_in : GoodIn wsX9_letter (va_wsS RX9 75 yX9_in wsX9_in) := goodIn_app (goodIn_of _ (by decide +kernel)) ggX9_letter_X9_in
set_option maxRecDepth 20000 in
theorem ggX9_letter_X9_isCam : GoodIn wsX9_letter wsX9_isCam := goodIn_r _ [10, 4, 5, 6, 7] (by decide +kernel) (by decide +kernel)
set_option maxRecDepth 20000 in
theorem gX9_letter_X9_isCam : GoodIn wsX9_letter (va_wsS RX9 83 yX9_isCam wsX9_isCam) := goodIn_app (goodIn_of _ (by decide +kernel)) ggX9_letter_X9_isCam
set_option maxRecDepth 20000 in
theorem ggX9_letter_X9_refuse : GoodIn wsX9_letter wsX9_refuse := goodIn_r _ [14, 15, 16, 17, 18, 19, 20, 21, 22, 23, 24, 25, 26, 27, 28, 29, 30, 31, 32, 33, 34, 35, 36, 37, 38, 39, 40, 41, 42, 43, 44, 45, 46, 47] (by decide +kernel) (by decide +kernel)
set_option maxRecDepth 20000 in
theorem gX9_letter_X9_refuse : GoodIn wsX9_letter (wsV RX9 79 RX9 yX9_refuse wsX9_refuse) := goodIn_app (goodIn_of _ (by decide +kernel)) ggX9_letter_X9_refuse
theorem dX9_letter_0 : decode cX9_letter 0 = .ok (.iload_n 1, 1) := by decide +kernel
theorem dX9_letter_1 : decode cX9_letter 1 = .ok (.iconst 0, 1) := by decide +kernel
theorem dX9_letter_2 : decode cX9_letter 2 = .ok (.bipush 9, 2) := by decide +kernel
theorem dX9_letter_4 : decode cX9_letter 4 = .ok (.invokestatic 75, 3) := by decide +kernel
theorem dX9_letter_7 : decode cX9_letter 7 = .ok (.ifCond .eq 25, 3) := by decide +kernel
theorem dX9_letter_10 : decode cX9_letter 10 = .ok (.iload_n 2, 1) := by decide +kernel
theorem dX9_letter_11 : decode cX9_letter 11 = .ok (.invokestatic 83, 3) := by decide +kernel
theorem dX9_letter_14 : decode cX9_letter 14 = .ok (.ifCond .eq 18, 3) := by decide +kernel
theorem dX9_letter_17 : decode cX9_letter 17 = .ok (.iload_n 3, 1) := by decide +kernel
theorem dX9_letter_18 : decode cX9_letter 18 = .ok (.invokestatic 83, 3) := by decide +kernel
theorem dX9_letter_21 : decode cX9_letter 21 = .ok (.ifCond .eq 11, 3) := by decide +kernel
theorem dX9_letter_24 : decode cX9_letter 24 = .ok (.iload 4, 2) := by decide +kernel
theorem dX9_letter_26 : decode cX9_letter 26 = .ok (.invokestatic 83, 3) := by decide +kernel
theorem dX9_letter_29 : decode cX9_letter 29 = .ok (.ifCond .ne 9, 3) := by decide +kernel
theorem dX9_letter_32 : decode cX9_letter 32 = .ok (.aload_n 0, 1) := by decide +kernel
theorem dX9_letter_33 : decode cX9_letter 33 = .ok (.iconst (-1), 1) := by decide +kernel
theorem dX9_letter_34 : decode cX9_letter 34 = .ok (.invokevirtual 79, 3) := by decide +kernel
theorem dX9_letter_37 : decode cX9_letter 37 = .ok (.ireturn, 1) := by decide +kernel
theorem dX9_letter_38 : decode cX9_letter 38 = .ok (.aload_n 0, 1) := by decide +kernel
theorem dX9_letter_39 : decode cX9_letter 39 = .ok (.getfield 21, 3) := by decide +kernel
theorem dX9_letter_42 : decode cX9_letter 42 = .ok (.iload_n 1, 1) := by decide +kernel
theorem dX9_letter_43 : decode cX9_letter 43 = .ok (.iload_n 2, 1) := by decide +kernel
theorem dX9_letter_44 : decode cX9_letter 44 = .ok (.iastore, 1) := by decide +kernel
theorem dX9_letter_45 : decode cX9_letter 45 = .ok (.aload_n 0, 1) := by decide +kernel
theorem dX9_letter_46 : decode cX9_letter 46 = .ok (.getfield 24, 3) := by decide +kernel
theorem dX9_letter_49 : decode cX9_letter 49 = .ok (.iload_n 1, 1) := by decide +kernel
theorem dX9_letter_50 : decode cX9_letter 50 = .ok (.iload_n 3, 1) := by decide +kernel
theorem dX9_letter_51 : decode cX9_letter 51 = .ok (.iastore, 1) := by decide +kernel
theorem dX9_letter_52 : decode cX9_letter 52 = .ok (.aload_n 0, 1) := by decide +kernel
theorem dX9_letter_53 : decode cX9_letter 53 = .ok (.getfield 27, 3) := by decide +kernel
theorem dX9_letter_56 : decode cX9_letter 56 = .ok (.iload_n 1, 1) := by decide +kernel
theorem dX9_letter_57 : decode cX9_letter 57 = .ok (.iload 4, 2) := by decide +kernel
theorem dX9_letter_59 : decode cX9_letter 59 = .ok (.iastore, 1) := by decide +kernel
theorem dX9_letter_60 : decode cX9_letter 60 = .ok (.iconst 1, 1) := by decide +kernel
theorem dX9_letter_61 : decode cX9_letter 61 = .ok (.ireturn, 1) := by decide +kernel
theorem dX9_isCutLetter_0 : decode cX9_isCutLetter 0 = .ok (.aload_n 0, 1) := by decide +kernel
theorem dX9_isCutLetter_1 : decode cX9_isCutLetter 1 = .ok (.getfield 13, 3) := by decide +kernel
theorem dX9_isCutLetter_4 : decode cX9_isCutLetter 4 = .ok (.aload_n 0, 1) := by decide +kernel
theorem dX9_isCutLetter_5 : decode cX9_isCutLetter 5 = .ok (.getfield 21, 3) := by decide +kernel
theorem dX9_isCutLetter_8 : decode cX9_isCutLetter 8 = .ok (.iload_n 1, 1) := by decide +kernel
theorem dX9_isCutLetter_9 : decode cX9_isCutLetter 9 = .ok (.iaload, 1) := by decide +kernel
theorem dX9_isCutLetter_10 : decode cX9_isCutLetter 10 = .ok (.baload, 1) := by decide +kernel
theorem dX9_isCutLetter_11 : decode cX9_isCutLetter 11 = .ok (.ifCond .eq 35, 3) := by decide +kernel
theorem dX9_isCutLetter_14 : decode cX9_isCutLetter 14 = .ok (.aload_n 0, 1) := by decide +kernel
theorem dX9_isCutLetter_15 : decode cX9_isCutLetter 15 = .ok (.getfield 13, 3) := by decide +kernel
theorem dX9_isCutLetter_18 : decode cX9_isCutLetter 18 = .ok (.aload_n 0, 1) := by decide +kernel
theorem dX9_isCutLetter_19 : decode cX9_isCutLetter 19 = .ok (.getfield 24, 3) := by decide +kernel
theorem dX9_isCutLetter_22 : decode cX9_isCutLetter 22 = .ok (.iload_n 1, 1) := by decide +kernel
theorem dX9_isCutLetter_23 : decode cX9_isCutLetter 23 = .ok (.iaload, 1) := by decide +kernel
theorem dX9_isCutLetter_24 : decode cX9_isCutLetter 24 = .ok (.baload, 1) := by decide +kernel
theorem dX9_isCutLetter_25 : decode cX9_isCutLetter 25 = .ok (.ifCond .eq 21, 3) := by decide +kernel
theorem dX9_isCutLetter_28 : decode cX9_isCutLetter 28 = .ok (.aload_n 0, 1) := by decide +kernel
theorem dX9_isCutLetter_29 : decode cX9_isCutLetter 29 = .ok (.getfield 13, 3) := by decide +kernel
theorem dX9_isCutLetter_32 : decode cX9_isCutLetter 32 = .ok (.aload_n 0, 1) := by decide +kernel
theorem dX9_isCutLetter_33 : decode cX9_isCutLetter 33 = .ok (.getfield 27, 3) := by decide +kernel
theorem dX9_isCutLetter_36 : decode cX9_isCutLetter 36 = .ok (.iload_n 1, 1) := by decide +kernel
theorem dX9_isCutLetter_37 : decode cX9_isCutLetter 37 = .ok (.iaload, 1) := by decide +kernel
theorem dX9_isCutLetter_38 : decode cX9_isCutLetter 38 = .ok (.baload, 1) := by decide +kernel
theorem dX9_isCutLetter_39 : decode cX9_isCutLetter 39 = .ok (.ifCond .eq 7, 3) := by decide +kernel
theorem dX9_isCutLetter_42 : decode cX9_isCutLetter 42 = .ok (.iconst 1, 1) := by decide +kernel
theorem dX9_isCutLetter_43 : decode cX9_isCutLetter 43 = .ok (.goto 4, 3) := by decide +kernel
theorem dX9_isCutLetter_46 : decode cX9_isCutLetter 46 = .ok (.iconst 0, 1) := by decide +kernel
theorem dX9_isCutLetter_47 : decode cX9_isCutLetter 47 = .ok (.ireturn, 1) := by decide +kernel
set_option maxRecDepth 20000 in
theorem ggX9_isCut_X9_in : GoodIn wsX9_isCut wsX9_in := goodIn_r _ [4] (by decide +kernel) (by decide +kernel)
set_option maxRecDepth 20000 in
theorem gX9_isCut_X9_in : GoodIn wsX9_isCut (va_wsS RX9 75 yX9_in wsX9_in) := goodIn_app (goodIn_of _ (by decide +kernel)) ggX9_isCut_X9_in
set_option maxRecDepth 20000 in
theorem ggX9_isCut_X9_isCutLetter : GoodIn wsX9_isCut wsX9_isCutLetter := goodIn_r _ [8, 9, 10, 11, 12, 18, 19, 20, 21, 22, 23, 24, 25, 26, 27, 28, 29, 30, 31, 32, 33, 34, 35, 36, 37, 38, 39, 40, 41, 42, 43, 44, 45, 46, 47, 48, 49] (by decide +kernel) (by decide +kernel)
set_option maxRecDepth 20000 in
theorem gX9_isCut_X9_isCutLetter : GoodIn wsX9_isCut (wsV RX9 101 RX9 yX9_isCutLetter wsX9_isCutLetter) := goodIn_app (goodIn_of _ (by decide +kernel)) ggX9_isCut_X9_isCutLetter
set_option maxRecDepth 20000 in
theorem ggX9_isCut_X9_refuse : GoodIn wsX9_isCut wsX9_refuse := goodIn_r _ [16, 17, 18, 19, 20, 21, 22, 23, 24, 25, 26, 27, 28, 29, 30, 31, 32, 33, 34, 35, 36, 37, 38, 39, 40, 41, 42, 43, 44, 45, 46, 47, 48, 49] (by decide +kernel) (by decide +kernel)
set_option maxRecDepth 20000 in
theorem gX9_isCut_X9_refuse : GoodIn wsX9_isCut (wsV RX9 79 RX9 yX9_refuse wsX9_refuse) := goodIn_app (goodIn_of _ (by decide +kernel)) ggX9_isCut_X9_refuse
theorem dX9_isCut_0 : decode cX9_isCut 0 = .ok (.iload_n 1, 1) := by decide +kernel
theorem dX9_isCut_1 : decode cX9_isCut 1 = .ok (.iconst 0, 1) := by decide +kernel
theorem dX9_isCut_2 : decode cX9_isCut 2 = .ok (.bipush 9, 2) := by decide +kernel
theorem dX9_isCut_4 : decode cX9_isCut 4 = .ok (.invokestatic 75, 3) := by decide +kernel
theorem dX9_isCut_7 : decode cX9_isCut 7 = .ok (.ifCond .eq 19, 3) := by decide +kernel
theorem dX9_isCut_10 : decode cX9_isCut 10 = .ok (.aload_n 0, 1) := by decide +kernel
theorem dX9_isCut_11 : decode cX9_isCut 11 = .ok (.iload_n 1, 1) := by decide +kernel
theorem dX9_isCut_12 : decode cX9_isCut 12 = .ok (.invokevirtual 101, 3) := by decide +kernel
theorem dX9_isCut_15 : decode cX9_isCut 15 = .ok (.ifCond .eq 7, 3) := by decide +kernel
theorem dX9_isCut_18 : decode cX9_isCut 18 = .ok (.iconst 1, 1) := by decide +kernel
theorem dX9_isCut_19 : decode cX9_isCut 19 = .ok (.goto 12, 3) := by decide +kernel
theorem dX9_isCut_22 : decode cX9_isCut 22 = .ok (.iconst 0, 1) := by decide +kernel
theorem dX9_isCut_23 : decode cX9_isCut 23 = .ok (.goto 8, 3) := by decide +kernel
theorem dX9_isCut_26 : decode cX9_isCut 26 = .ok (.aload_n 0, 1) := by decide +kernel
theorem dX9_isCut_27 : decode cX9_isCut 27 = .ok (.iconst (-1), 1) := by decide +kernel
theorem dX9_isCut_28 : decode cX9_isCut 28 = .ok (.invokevirtual 79, 3) := by decide +kernel
theorem dX9_isCut_31 : decode cX9_isCut 31 = .ok (.ireturn, 1) := by decide +kernel
set_option maxRecDepth 20000 in
theorem ggX9_peg_X9_in : GoodIn wsX9_peg wsX9_in := goodIn_r _ [6] (by decide +kernel) (by decide +kernel)
set_option maxRecDepth 20000 in
theorem gX9_peg_X9_in : GoodIn wsX9_peg (va_wsS RX9 75 yX9_in wsX9_in) := goodIn_app (goodIn_of _ (by decide +kernel)) ggX9_peg_X9_in
set_option maxRecDepth 20000 in
theorem ggX9_peg_X9_refuse : GoodIn wsX9_peg wsX9_refuse := goodIn_r _ [10, 11, 12, 13, 14, 15, 16, 17, 18, 19, 20, 21, 22, 23, 24, 25, 26, 27, 28, 29, 30, 31, 32, 33, 34, 35, 36, 37, 38, 39, 40, 41, 42, 43] (by decide +kernel) (by decide +kernel)
set_option maxRecDepth 20000 in
theorem gX9_peg_X9_refuse : GoodIn wsX9_peg (wsV RX9 79 RX9 yX9_refuse wsX9_refuse) := goodIn_app (goodIn_of _ (by decide +kernel)) ggX9_peg_X9_refuse
theorem dX9_peg_0 : decode cX9_peg 0 = .ok (.iload_n 1, 1) := by decide +kernel
theorem dX9_peg_1 : decode cX9_peg 1 = .ok (.iconst 0, 1) := by decide +kernel
theorem dX9_peg_2 : decode cX9_peg 2 = .ok (.bipush 9, 2) := by decide +kernel
theorem dX9_peg_4 : decode cX9_peg 4 = .ok (.invokestatic 75, 3) := by decide +kernel
theorem dX9_peg_7 : decode cX9_peg 7 = .ok (.ifCond .ne 9, 3) := by decide +kernel
theorem dX9_peg_10 : decode cX9_peg 10 = .ok (.aload_n 0, 1) := by decide +kernel
theorem dX9_peg_11 : decode cX9_peg 11 = .ok (.iconst (-1), 1) := by decide +kernel
theorem dX9_peg_12 : decode cX9_peg 12 = .ok (.invokevirtual 79, 3) := by decide +kernel
theorem dX9_peg_15 : decode cX9_peg 15 = .ok (.ireturn, 1) := by decide +kernel
theorem dX9_peg_16 : decode cX9_peg 16 = .ok (.aload_n 0, 1) := by decide +kernel
theorem dX9_peg_17 : decode cX9_peg 17 = .ok (.getfield 104, 3) := by decide +kernel
theorem dX9_peg_20 : decode cX9_peg 20 = .ok (.bipush 12, 2) := by decide +kernel
theorem dX9_peg_22 : decode cX9_peg 22 = .ok (.if_icmp .ne 10, 3) := by decide +kernel
theorem dX9_peg_25 : decode cX9_peg 25 = .ok (.aload_n 0, 1) := by decide +kernel
theorem dX9_peg_26 : decode cX9_peg 26 = .ok (.bipush (-6), 2) := by decide +kernel
theorem dX9_peg_28 : decode cX9_peg 28 = .ok (.invokevirtual 79, 3) := by decide +kernel
theorem dX9_peg_31 : decode cX9_peg 31 = .ok (.ireturn, 1) := by decide +kernel
theorem dX9_peg_32 : decode cX9_peg 32 = .ok (.aload_n 0, 1) := by decide +kernel
theorem dX9_peg_33 : decode cX9_peg 33 = .ok (.getfield 30, 3) := by decide +kernel
theorem dX9_peg_36 : decode cX9_peg 36 = .ok (.aload_n 0, 1) := by decide +kernel
theorem dX9_peg_37 : decode cX9_peg 37 = .ok (.getfield 104, 3) := by decide +kernel
theorem dX9_peg_40 : decode cX9_peg 40 = .ok (.iload_n 1, 1) := by decide +kernel
theorem dX9_peg_41 : decode cX9_peg 41 = .ok (.iastore, 1) := by decide +kernel
theorem dX9_peg_42 : decode cX9_peg 42 = .ok (.aload_n 0, 1) := by decide +kernel
theorem dX9_peg_43 : decode cX9_peg 43 = .ok (.dup, 1) := by decide +kernel
theorem dX9_peg_44 : decode cX9_peg 44 = .ok (.getfield 104, 3) := by decide +kernel
theorem dX9_peg_47 : decode cX9_peg 47 = .ok (.iconst 1, 1) := by decide +kernel
theorem dX9_peg_48 : decode cX9_peg 48 = .ok (.iadd, 1) := by decide +kernel
theorem dX9_peg_49 : decode cX9_peg 49 = .ok (.putfield 104, 3) := by decide +kernel
theorem dX9_peg_52 : decode cX9_peg 52 = .ok (.aload_n 0, 1) := by decide +kernel
theorem dX9_peg_53 : decode cX9_peg 53 = .ok (.getfield 104, 3) := by decide +kernel
theorem dX9_peg_56 : decode cX9_peg 56 = .ok (.ireturn, 1) := by decide +kernel
set_option maxRecDepth 20000 in
theorem ggX9_unpeg_X9_refuse : GoodIn wsX9_unpeg wsX9_refuse := goodIn_r _ [6, 7, 8, 9, 10, 11, 12, 13, 14, 15, 16, 17, 18, 19, 20, 21, 22, 23, 24, 25, 26, 27, 28, 29, 30, 31, 32, 33, 34, 35, 36, 37, 38, 39] (by decide +kernel) (by decide +kernel)
set_option maxRecDepth 20000 in
theorem gX9_unpeg_X9_refuse : GoodIn wsX9_unpeg (wsV RX9 79 RX9 yX9_refuse wsX9_refuse) := goodIn_app (goodIn_of _ (by decide +kernel)) ggX9_unpeg_X9_refuse
theorem dX9_unpeg_0 : decode cX9_unpeg 0 = .ok (.aload_n 0, 1) := by decide +kernel
theorem dX9_unpeg_1 : decode cX9_unpeg 1 = .ok (.getfield 104, 3) := by decide +kernel
theorem dX9_unpeg_4 : decode cX9_unpeg 4 = .ok (.ifCond .ne 10, 3) := by decide +kernel
theorem dX9_unpeg_7 : decode cX9_unpeg 7 = .ok (.aload_n 0, 1) := by decide +kernel
theorem dX9_unpeg_8 : decode cX9_unpeg 8 = .ok (.bipush (-3), 2) := by decide +kernel
theorem dX9_unpeg_10 : decode cX9_unpeg 10 = .ok (.invokevirtual 79, 3) := by decide +kernel
theorem dX9_unpeg_13 : decode cX9_unpeg 13 = .ok (.ireturn, 1) := by decide +kernel
theorem dX9_unpeg_14 : decode cX9_unpeg 14 = .ok (.aload_n 0, 1) := by decide +kernel
theorem dX9_unpeg_15 : decode cX9_unpeg 15 = .ok (.dup, 1) := by decide +kernel
theorem dX9_unpeg_16 : decode cX9_unpeg 16 = .ok (.getfield 104, 3) := by decide +kernel
theorem dX9_unpeg_19 : decode cX9_unpeg 19 = .ok (.iconst 1, 1) := by decide +kernel
theorem dX9_unpeg_20 : decode cX9_unpeg 20 = .ok (.isub, 1) := by decide +kernel
theorem dX9_unpeg_21 : decode cX9_unpeg 21 = .ok (.putfield 104, 3) := by decide +kernel
theorem dX9_unpeg_24 : decode cX9_unpeg 24 = .ok (.aload_n 0, 1) := by decide +kernel
theorem dX9_unpeg_25 : decode cX9_unpeg 25 = .ok (.getfield 104, 3) := by decide +kernel
theorem dX9_unpeg_28 : decode cX9_unpeg 28 = .ok (.ireturn, 1) := by decide +kernel
set_option maxRecDepth 20000 in
theorem ggX9_advance_X9_refuse : GoodIn wsX9_advance wsX9_refuse := goodIn_r _ [6, 7, 8, 9, 10, 11, 12, 13, 14, 15, 16, 17, 18, 19, 20, 21, 22, 23, 24, 25, 26, 27, 28, 29, 30, 31, 32, 33, 34, 35, 36, 37, 38, 39] (by decide +kernel) (by decide +kernel)
set_option maxRecDepth 20000 in
theorem gX9_advance_X9_refuse : GoodIn wsX9_advance (wsV RX9 79 RX9 yX9_refuse wsX9_refuse) := goodIn_app (goodIn_of _ (by decide +kernel)) ggX9_advance_X9_refuse
theorem dX9_advance_0 : decode cX9_advance 0 = .ok (.iload_n 1, 1) := by decide +kernel
theorem dX9_advance_1 : decode cX9_advance 1 = .ok (.ifCond .ge 10, 3) := by decide +kernel
theorem dX9_advance_4 : decode cX9_advance 4 = .ok (.aload_n 0, 1) := by decide +kernel
theorem dX9_advance_5 : decode cX9_advance 5 = .ok (.bipush (-4), 2) := by decide +kernel
theorem dX9_advance_7 : decode cX9_advance 7 = .ok (.invokevirtual 79, 3) := by decide +kernel
theorem dX9_advance_10 : decode cX9_advance 10 = .ok (.ireturn, 1) := by decide +kernel
theorem dX9_advance_11 : decode cX9_advance 11 = .ok (.iload_n 1, 1) := by decide +kernel
theorem dX9_advance_12 : decode cX9_advance 12 = .ok (.bipush 9, 2) := by decide +kernel
theorem dX9_advance_14 : decode cX9_advance 14 = .ok (.if_icmp .le 10, 3) := by decide +kernel
theorem dX9_advance_17 : decode cX9_advance 17 = .ok (.aload_n 0, 1) := by decide +kernel
theorem dX9_advance_18 : decode cX9_advance 18 = .ok (.bipush (-6), 2) := by decide +kernel
theorem dX9_advance_20 : decode cX9_advance 20 = .ok (.invokevirtual 79, 3) := by decide +kernel
theorem dX9_advance_23 : decode cX9_advance 23 = .ok (.ireturn, 1) := by decide +kernel
theorem dX9_advance_24 : decode cX9_advance 24 = .ok (.aload_n 0, 1) := by decide +kernel
theorem dX9_advance_25 : decode cX9_advance 25 = .ok (.getfield 33, 3) := by decide +kernel
theorem dX9_advance_28 : decode cX9_advance 28 = .ok (.istore_n 2, 1) := by decide +kernel
theorem dX9_advance_29 : decode cX9_advance 29 = .ok (.aload_n 0, 1) := by decide +kernel
theorem dX9_advance_30 : decode cX9_advance 30 = .ok (.iload_n 1, 1) := by decide +kernel
theorem dX9_advance_31 : decode cX9_advance 31 = .ok (.putfield 33, 3) := by decide +kernel
theorem dX9_advance_34 : decode cX9_advance 34 = .ok (.iload_n 2, 1) := by decide +kernel
theorem dX9_advance_35 : decode cX9_advance 35 = .ok (.ireturn, 1) := by decide +kernel
set_option maxRecDepth 20000 in
theorem ggX9_pull_X9_refuse : GoodIn wsX9_pull wsX9_refuse := goodIn_r _ [6, 7, 8, 9, 10, 11, 12, 13, 14, 15, 16, 17, 18, 19, 20, 21, 22, 23, 24, 25, 26, 27, 28, 29, 30, 31, 32, 33, 34, 35, 36, 37, 38, 39] (by decide +kernel) (by decide +kernel)
set_option maxRecDepth 20000 in
theorem gX9_pull_X9_refuse : GoodIn wsX9_pull (wsV RX9 79 RX9 yX9_refuse wsX9_refuse) := goodIn_app (goodIn_of _ (by decide +kernel)) ggX9_pull_X9_refuse
theorem dX9_pull_0 : decode cX9_pull 0 = .ok (.iload_n 1, 1) := by decide +kernel
theorem dX9_pull_1 : decode cX9_pull 1 = .ok (.iconst 1, 1) := by decide +kernel
theorem dX9_pull_2 : decode cX9_pull 2 = .ok (.if_icmp .ge 10, 3) := by decide +kernel
theorem dX9_pull_5 : decode cX9_pull 5 = .ok (.aload_n 0, 1) := by decide +kernel
theorem dX9_pull_6 : decode cX9_pull 6 = .ok (.bipush (-4), 2) := by decide +kernel
theorem dX9_pull_8 : decode cX9_pull 8 = .ok (.invokevirtual 79, 3) := by decide +kernel
theorem dX9_pull_11 : decode cX9_pull 11 = .ok (.ireturn, 1) := by decide +kernel
theorem dX9_pull_12 : decode cX9_pull 12 = .ok (.iload_n 1, 1) := by decide +kernel
theorem dX9_pull_13 : decode cX9_pull 13 = .ok (.bipush 20, 2) := by decide +kernel
theorem dX9_pull_15 : decode cX9_pull 15 = .ok (.if_icmp .le 10, 3) := by decide +kernel
theorem dX9_pull_18 : decode cX9_pull 18 = .ok (.aload_n 0, 1) := by decide +kernel
theorem dX9_pull_19 : decode cX9_pull 19 = .ok (.bipush (-6), 2) := by decide +kernel
theorem dX9_pull_21 : decode cX9_pull 21 = .ok (.invokevirtual 79, 3) := by decide +kernel
theorem dX9_pull_24 : decode cX9_pull 24 = .ok (.ireturn, 1) := by decide +kernel
theorem dX9_pull_25 : decode cX9_pull 25 = .ok (.aload_n 0, 1) := by decide +kernel
theorem dX9_pull_26 : decode cX9_pull 26 = .ok (.getfield 36, 3) := by decide +kernel
theorem dX9_pull_29 : decode cX9_pull 29 = .ok (.istore_n 2, 1) := by decide +kernel
theorem dX9_pull_30 : decode cX9_pull 30 = .ok (.aload_n 0, 1) := by decide +kernel
theorem dX9_pull_31 : decode cX9_pull 31 = .ok (.iload_n 1, 1) := by decide +kernel
theorem dX9_pull_32 : decode cX9_pull 32 = .ok (.putfield 36, 3) := by decide +kernel
theorem dX9_pull_35 : decode cX9_pull 35 = .ok (.iload_n 2, 1) := by decide +kernel
theorem dX9_pull_36 : decode cX9_pull 36 = .ok (.ireturn, 1) := by decide +kernel
set_option maxRecDepth 20000 in
theorem ggX9_wind_X9_refuse : GoodIn wsX9_wind wsX9_refuse := goodIn_r _ [7, 8, 9, 10, 11, 12, 13, 14, 15, 16, 17, 18, 19, 20, 21, 22, 23, 24, 25, 26, 27, 28, 29, 30, 31, 32, 33, 34, 35, 36, 37, 38, 39, 40] (by decide +kernel) (by decide +kernel)
set_option maxRecDepth 20000 in
theorem gX9_wind_X9_refuse : GoodIn wsX9_wind (wsV RX9 79 RX9 yX9_refuse wsX9_refuse) := goodIn_app (goodIn_of _ (by decide +kernel)) ggX9_wind_X9_refuse
theorem dX9_wind_0 : decode cX9_wind 0 = .ok (.iload_n 1, 1) := by decide +kernel
theorem dX9_wind_1 : decode cX9_wind 1 = .ok (.ifCond .ge 10, 3) := by decide +kernel
theorem dX9_wind_4 : decode cX9_wind 4 = .ok (.aload_n 0, 1) := by decide +kernel
theorem dX9_wind_5 : decode cX9_wind 5 = .ok (.bipush (-4), 2) := by decide +kernel
theorem dX9_wind_7 : decode cX9_wind 7 = .ok (.invokevirtual 79, 3) := by decide +kernel
theorem dX9_wind_10 : decode cX9_wind 10 = .ok (.ireturn, 1) := by decide +kernel
theorem dX9_wind_11 : decode cX9_wind 11 = .ok (.iload_n 1, 1) := by decide +kernel
theorem dX9_wind_12 : decode cX9_wind 12 = .ok (.sipush 5000, 3) := by decide +kernel
theorem dX9_wind_15 : decode cX9_wind 15 = .ok (.if_icmp .le 10, 3) := by decide +kernel
theorem dX9_wind_18 : decode cX9_wind 18 = .ok (.aload_n 0, 1) := by decide +kernel
theorem dX9_wind_19 : decode cX9_wind 19 = .ok (.bipush (-6), 2) := by decide +kernel
theorem dX9_wind_21 : decode cX9_wind 21 = .ok (.invokevirtual 79, 3) := by decide +kernel
theorem dX9_wind_24 : decode cX9_wind 24 = .ok (.ireturn, 1) := by decide +kernel
theorem dX9_wind_25 : decode cX9_wind 25 = .ok (.aload_n 0, 1) := by decide +kernel
theorem dX9_wind_26 : decode cX9_wind 26 = .ok (.dup, 1) := by decide +kernel
theorem dX9_wind_27 : decode cX9_wind 27 = .ok (.getfield 107, 3) := by decide +kernel
theorem dX9_wind_30 : decode cX9_wind 30 = .ok (.iload_n 1, 1) := by decide +kernel
theorem dX9_wind_31 : decode cX9_wind 31 = .ok (.sipush 1000, 3) := by decide +kernel
theorem dX9_wind_34 : decode cX9_wind 34 = .ok (.aload_n 0, 1) := by decide +kernel
theorem dX9_wind_35 : decode cX9_wind 35 = .ok (.getfield 110, 3) := by decide +kernel
theorem dX9_wind_38 : decode cX9_wind 38 = .ok (.isub, 1) := by decide +kernel
theorem dX9_wind_39 : decode cX9_wind 39 = .ok (.if_icmp .le 7, 3) := by decide +kernel
theorem dX9_wind_42 : decode cX9_wind 42 = .ok (.iconst 1, 1) := by decide +kernel
theorem dX9_wind_43 : decode cX9_wind 43 = .ok (.goto 4, 3) := by decide +kernel
theorem dX9_wind_46 : decode cX9_wind 46 = .ok (.iconst 0, 1) := by decide +kernel
theorem dX9_wind_47 : decode cX9_wind 47 = .ok (.iadd, 1) := by decide +kernel
theorem dX9_wind_48 : decode cX9_wind 48 = .ok (.putfield 107, 3) := by decide +kernel
theorem dX9_wind_51 : decode cX9_wind 51 = .ok (.aload_n 0, 1) := by decide +kernel
theorem dX9_wind_52 : decode cX9_wind 52 = .ok (.iload_n 1, 1) := by decide +kernel
theorem dX9_wind_53 : decode cX9_wind 53 = .ok (.sipush 1000, 3) := by decide +kernel
theorem dX9_wind_56 : decode cX9_wind 56 = .ok (.aload_n 0, 1) := by decide +kernel
theorem dX9_wind_57 : decode cX9_wind 57 = .ok (.getfield 110, 3) := by decide +kernel
theorem dX9_wind_60 : decode cX9_wind 60 = .ok (.isub, 1) := by decide +kernel
theorem dX9_wind_61 : decode cX9_wind 61 = .ok (.if_icmp .le 9, 3) := by decide +kernel
theorem dX9_wind_64 : decode cX9_wind 64 = .ok (.sipush 1000, 3) := by decide +kernel
theorem dX9_wind_67 : decode cX9_wind 67 = .ok (.goto 9, 3) := by decide +kernel
theorem dX9_wind_70 : decode cX9_wind 70 = .ok (.aload_n 0, 1) := by decide +kernel
theorem dX9_wind_71 : decode cX9_wind 71 = .ok (.getfield 110, 3) := by decide +kernel
theorem dX9_wind_74 : decode cX9_wind 74 = .ok (.iload_n 1, 1) := by decide +kernel
theorem dX9_wind_75 : decode cX9_wind 75 = .ok (.iadd, 1) := by decide +kernel
theorem dX9_wind_76 : decode cX9_wind 76 = .ok (.putfield 110, 3) := by decide +kernel
theorem dX9_wind_79 : decode cX9_wind 79 = .ok (.aload_n 0, 1) := by decide +kernel
theorem dX9_wind_80 : decode cX9_wind 80 = .ok (.getfield 110, 3) := by decide +kernel
theorem dX9_wind_83 : decode cX9_wind 83 = .ok (.ireturn, 1) := by decide +kernel
theorem dX9_holdFaults_0 : decode cX9_holdFaults 0 = .ok (.aload_n 0, 1) := by decide +kernel
theorem dX9_holdFaults_1 : decode cX9_holdFaults 1 = .ok (.iload_n 1, 1) := by decide +kernel
theorem dX9_holdFaults_2 : decode cX9_holdFaults 2 = .ok (.putfield 113, 3) := by decide +kernel
theorem dX9_holdFaults_5 : decode cX9_holdFaults 5 = .ok (.aload_n 0, 1) := by decide +kernel
theorem dX9_holdFaults_6 : decode cX9_holdFaults 6 = .ok (.iload_n 2, 1) := by decide +kernel
theorem dX9_holdFaults_7 : decode cX9_holdFaults 7 = .ok (.putfield 116, 3) := by decide +kernel
theorem dX9_holdFaults_10 : decode cX9_holdFaults 10 = .ok (.aload_n 0, 1) := by decide +kernel
theorem dX9_holdFaults_11 : decode cX9_holdFaults 11 = .ok (.iload_n 3, 1) := by decide +kernel
theorem dX9_holdFaults_12 : decode cX9_holdFaults 12 = .ok (.putfield 119, 3) := by decide +kernel
theorem dX9_holdFaults_15 : decode cX9_holdFaults 15 = .ok (.return_, 1) := by decide +kernel
theorem dX9_heightOf_0 : decode cX9_heightOf 0 = .ok (.aload_n 0, 1) := by decide +kernel
theorem dX9_heightOf_1 : decode cX9_heightOf 1 = .ok (.getfield 17, 3) := by decide +kernel
theorem dX9_heightOf_4 : decode cX9_heightOf 4 = .ok (.bipush 16, 2) := by decide +kernel
theorem dX9_heightOf_6 : decode cX9_heightOf 6 = .ok (.iload_n 1, 1) := by decide +kernel
theorem dX9_heightOf_7 : decode cX9_heightOf 7 = .ok (.imul, 1) := by decide +kernel
theorem dX9_heightOf_8 : decode cX9_heightOf 8 = .ok (.iload_n 2, 1) := by decide +kernel
theorem dX9_heightOf_9 : decode cX9_heightOf 9 = .ok (.iadd, 1) := by decide +kernel
theorem dX9_heightOf_10 : decode cX9_heightOf 10 = .ok (.iaload, 1) := by decide +kernel
theorem dX9_heightOf_11 : decode cX9_heightOf 11 = .ok (.istore_n 3, 1) := by decide +kernel
theorem dX9_heightOf_12 : decode cX9_heightOf 12 = .ok (.iload_n 1, 1) := by decide +kernel
theorem dX9_heightOf_13 : decode cX9_heightOf 13 = .ok (.aload_n 0, 1) := by decide +kernel
theorem dX9_heightOf_14 : decode cX9_heightOf 14 = .ok (.getfield 113, 3) := by decide +kernel
theorem dX9_heightOf_17 : decode cX9_heightOf 17 = .ok (.if_icmp .ne 13, 3) := by decide +kernel
theorem dX9_heightOf_20 : decode cX9_heightOf 20 = .ok (.iload_n 3, 1) := by decide +kernel
theorem dX9_heightOf_21 : decode cX9_heightOf 21 = .ok (.ifCond .le 9, 3) := by decide +kernel
theorem dX9_heightOf_24 : decode cX9_heightOf 24 = .ok (.iload_n 3, 1) := by decide +kernel
theorem dX9_heightOf_25 : decode cX9_heightOf 25 = .ok (.iconst 1, 1) := by decide +kernel
theorem dX9_heightOf_26 : decode cX9_heightOf 26 = .ok (.isub, 1) := by decide +kernel
theorem dX9_heightOf_27 : decode cX9_heightOf 27 = .ok (.goto 4, 3) := by decide +kernel
theorem dX9_heightOf_30 : decode cX9_heightOf 30 = .ok (.iload_n 3, 1) := by decide +kernel
theorem dX9_heightOf_31 : decode cX9_heightOf 31 = .ok (.ireturn, 1) := by decide +kernel
set_option maxRecDepth 20000 in
theorem ggX9_xAt_X9_heightOf : GoodIn wsX9_xAt wsX9_heightOf := goodIn_r _ [9, 10, 11, 12, 13, 14, 15, 16, 17, 18, 19, 20, 21, 22, 23, 24, 25, 26, 27, 28, 29, 30, 31, 32, 33, 34, 35, 36, 37, 38, 39, 40, 41, 42, 43] (by decide +kernel) (by decide +kernel)
set_option maxRecDepth 20000 in
theorem gX9_xAt_X9_heightOf : GoodIn wsX9_xAt (wsV RX9 122 RX9 yX9_heightOf wsX9_heightOf) := goodIn_app (goodIn_of _ (by decide +kernel)) ggX9_xAt_X9_heightOf
theorem dX9_xAt_0 : decode cX9_xAt 0 = .ok (.iload_n 1, 1) := by decide +kernel
theorem dX9_xAt_1 : decode cX9_xAt 1 = .ok (.aload_n 0, 1) := by decide +kernel
theorem dX9_xAt_2 : decode cX9_xAt 2 = .ok (.getfield 33, 3) := by decide +kernel
theorem dX9_xAt_5 : decode cX9_xAt 5 = .ok (.imul, 1) := by decide +kernel
theorem dX9_xAt_6 : decode cX9_xAt 6 = .ok (.aload_n 0, 1) := by decide +kernel
theorem dX9_xAt_7 : decode cX9_xAt 7 = .ok (.aload_n 0, 1) := by decide +kernel
theorem dX9_xAt_8 : decode cX9_xAt 8 = .ok (.getfield 21, 3) := by decide +kernel
theorem dX9_xAt_11 : decode cX9_xAt 11 = .ok (.aload_n 0, 1) := by decide +kernel
theorem dX9_xAt_12 : decode cX9_xAt 12 = .ok (.getfield 30, 3) := by decide +kernel
theorem dX9_xAt_15 : decode cX9_xAt 15 = .ok (.iload_n 1, 1) := by decide +kernel
theorem dX9_xAt_16 : decode cX9_xAt 16 = .ok (.iaload, 1) := by decide +kernel
theorem dX9_xAt_17 : decode cX9_xAt 17 = .ok (.iaload, 1) := by decide +kernel
theorem dX9_xAt_18 : decode cX9_xAt 18 = .ok (.iload_n 2, 1) := by decide +kernel
theorem dX9_xAt_19 : decode cX9_xAt 19 = .ok (.invokevirtual 122, 3) := by decide +kernel
theorem dX9_xAt_22 : decode cX9_xAt 22 = .ok (.iadd, 1) := by decide +kernel
theorem dX9_xAt_23 : decode cX9_xAt 23 = .ok (.aload_n 0, 1) := by decide +kernel
theorem dX9_xAt_24 : decode cX9_xAt 24 = .ok (.getfield 119, 3) := by decide +kernel
theorem dX9_xAt_27 : decode cX9_xAt 27 = .ok (.ifCond .ne 7, 3) := by decide +kernel
theorem dX9_xAt_30 : decode cX9_xAt 30 = .ok (.iconst 1, 1) := by decide +kernel
theorem dX9_xAt_31 : decode cX9_xAt 31 = .ok (.goto 4, 3) := by decide +kernel
theorem dX9_xAt_34 : decode cX9_xAt 34 = .ok (.iconst 0, 1) := by decide +kernel
theorem dX9_xAt_35 : decode cX9_xAt 35 = .ok (.iadd, 1) := by decide +kernel
theorem dX9_xAt_36 : decode cX9_xAt 36 = .ok (.ireturn, 1) := by decide +kernel
set_option maxRecDepth 20000 in
theorem ggX9_yAt_X9_heightOf : GoodIn wsX9_yAt wsX9_heightOf := goodIn_r _ [8, 9, 10, 11, 12, 13, 14, 15, 16, 17, 18, 19, 20, 21, 22, 23, 24, 25, 26, 27, 28, 29, 30, 31, 32, 33, 34, 35, 36, 37, 38, 39, 40, 41, 42] (by decide +kernel) (by decide +kernel)
set_option maxRecDepth 20000 in
theorem gX9_yAt_X9_heightOf : GoodIn wsX9_yAt (wsV RX9 122 RX9 yX9_heightOf wsX9_heightOf) := goodIn_app (goodIn_of _ (by decide +kernel)) ggX9_yAt_X9_heightOf
theorem dX9_yAt_0 : decode cX9_yAt 0 = .ok (.aload_n 0, 1) := by decide +kernel
theorem dX9_yAt_1 : decode cX9_yAt 1 = .ok (.aload_n 0, 1) := by decide +kernel
theorem dX9_yAt_2 : decode cX9_yAt 2 = .ok (.getfield 24, 3) := by decide +kernel
theorem dX9_yAt_5 : decode cX9_yAt 5 = .ok (.aload_n 0, 1) := by decide +kernel
theorem dX9_yAt_6 : decode cX9_yAt 6 = .ok (.getfield 30, 3) := by decide +kernel
theorem dX9_yAt_9 : decode cX9_yAt 9 = .ok (.iload_n 1, 1) := by decide +kernel
theorem dX9_yAt_10 : decode cX9_yAt 10 = .ok (.iaload, 1) := by decide +kernel
theorem dX9_yAt_11 : decode cX9_yAt 11 = .ok (.iaload, 1) := by decide +kernel
theorem dX9_yAt_12 : decode cX9_yAt 12 = .ok (.iload_n 2, 1) := by decide +kernel
theorem dX9_yAt_13 : decode cX9_yAt 13 = .ok (.invokevirtual 122, 3) := by decide +kernel
theorem dX9_yAt_16 : decode cX9_yAt 16 = .ok (.aload_n 0, 1) := by decide +kernel
theorem dX9_yAt_17 : decode cX9_yAt 17 = .ok (.getfield 119, 3) := by decide +kernel
theorem dX9_yAt_20 : decode cX9_yAt 20 = .ok (.iconst 1, 1) := by decide +kernel
theorem dX9_yAt_21 : decode cX9_yAt 21 = .ok (.if_icmp .ne 7, 3) := by decide +kernel
theorem dX9_yAt_24 : decode cX9_yAt 24 = .ok (.iconst 1, 1) := by decide +kernel
theorem dX9_yAt_25 : decode cX9_yAt 25 = .ok (.goto 4, 3) := by decide +kernel
theorem dX9_yAt_28 : decode cX9_yAt 28 = .ok (.iconst 0, 1) := by decide +kernel
theorem dX9_yAt_29 : decode cX9_yAt 29 = .ok (.iadd, 1) := by decide +kernel
theorem dX9_yAt_30 : decode cX9_yAt 30 = .ok (.istore_n 3, 1) := by decide +kernel
theorem dX9_yAt_31 : decode cX9_yAt 31 = .ok (.iload_n 3, 1) := by decide +kernel
theorem dX9_yAt_32 : decode cX9_yAt 32 = .ok (.bipush 9, 2) := by decide +kernel
theorem dX9_yAt_34 : decode cX9_yAt 34 = .ok (.if_icmp .le 8, 3) := by decide +kernel
theorem dX9_yAt_37 : decode cX9_yAt 37 = .ok (.bipush 9, 2) := by decide +kernel
theorem dX9_yAt_39 : decode cX9_yAt 39 = .ok (.goto 4, 3) := by decide +kernel
theorem dX9_yAt_42 : decode cX9_yAt 42 = .ok (.iload_n 3, 1) := by decide +kernel
theorem dX9_yAt_43 : decode cX9_yAt 43 = .ok (.ireturn, 1) := by decide +kernel
set_option maxRecDepth 20000 in
theorem ggX9_isDown_X9_heightOf : GoodIn wsX9_isDown wsX9_heightOf := goodIn_r _ [7, 8, 9, 10, 11, 12, 13, 14, 15, 16, 17, 18, 19, 20, 21, 22, 23, 24, 25, 26, 27, 28, 29, 30, 31, 32, 33, 34, 35, 36, 37, 38, 39, 40, 41] (by decide +kernel) (by decide +kernel)
set_option maxRecDepth 20000 in
theorem gX9_isDown_X9_heightOf : GoodIn wsX9_isDown (wsV RX9 122 RX9 yX9_heightOf wsX9_heightOf) := goodIn_app (goodIn_of _ (by decide +kernel)) ggX9_isDown_X9_heightOf
theorem dX9_isDown_0 : decode cX9_isDown 0 = .ok (.aload_n 0, 1) := by decide +kernel
theorem dX9_isDown_1 : decode cX9_isDown 1 = .ok (.aload_n 0, 1) := by decide +kernel
theorem dX9_isDown_2 : decode cX9_isDown 2 = .ok (.getfield 27, 3) := by decide +kernel
theorem dX9_isDown_5 : decode cX9_isDown 5 = .ok (.aload_n 0, 1) := by decide +kernel
theorem dX9_isDown_6 : decode cX9_isDown 6 = .ok (.getfield 30, 3) := by decide +kernel
theorem dX9_isDown_9 : decode cX9_isDown 9 = .ok (.iload_n 1, 1) := by decide +kernel
theorem dX9_isDown_10 : decode cX9_isDown 10 = .ok (.iaload, 1) := by decide +kernel
theorem dX9_isDown_11 : decode cX9_isDown 11 = .ok (.iaload, 1) := by decide +kernel
theorem dX9_isDown_12 : decode cX9_isDown 12 = .ok (.iload_n 2, 1) := by decide +kernel
theorem dX9_isDown_13 : decode cX9_isDown 13 = .ok (.invokevirtual 122, 3) := by decide +kernel
theorem dX9_isDown_16 : decode cX9_isDown 16 = .ok (.ifCond .ne 7, 3) := by decide +kernel
theorem dX9_isDown_19 : decode cX9_isDown 19 = .ok (.iconst 1, 1) := by decide +kernel
theorem dX9_isDown_20 : decode cX9_isDown 20 = .ok (.goto 4, 3) := by decide +kernel
theorem dX9_isDown_23 : decode cX9_isDown 23 = .ok (.iconst 0, 1) := by decide +kernel
theorem dX9_isDown_24 : decode cX9_isDown 24 = .ok (.ireturn, 1) := by decide +kernel
theorem dX9_newMarks_0 : decode cX9_newMarks 0 = .ok (.iconst 0, 1) := by decide +kernel
theorem dX9_newMarks_1 : decode cX9_newMarks 1 = .ok (.istore_n 1, 1) := by decide +kernel
theorem dX9_newMarks_2 : decode cX9_newMarks 2 = .ok (.iload_n 1, 1) := by decide +kernel
theorem dX9_newMarks_3 : decode cX9_newMarks 3 = .ok (.sipush 1200, 3) := by decide +kernel
theorem dX9_newMarks_6 : decode cX9_newMarks 6 = .ok (.if_icmp .ge 23, 3) := by decide +kernel
theorem dX9_newMarks_9 : decode cX9_newMarks 9 = .ok (.aload_n 0, 1) := by decide +kernel
theorem dX9_newMarks_10 : decode cX9_newMarks 10 = .ok (.getfield 66, 3) := by decide +kernel
theorem dX9_newMarks_13 : decode cX9_newMarks 13 = .ok (.iload_n 1, 1) := by decide +kernel
theorem dX9_newMarks_14 : decode cX9_newMarks 14 = .ok (.iconst (-1), 1) := by decide +kernel
theorem dX9_newMarks_15 : decode cX9_newMarks 15 = .ok (.iastore, 1) := by decide +kernel
theorem dX9_newMarks_16 : decode cX9_newMarks 16 = .ok (.aload_n 0, 1) := by decide +kernel
theorem dX9_newMarks_17 : decode cX9_newMarks 17 = .ok (.getfield 69, 3) := by decide +kernel
theorem dX9_newMarks_20 : decode cX9_newMarks 20 = .ok (.iload_n 1, 1) := by decide +kernel
theorem dX9_newMarks_21 : decode cX9_newMarks 21 = .ok (.iconst (-1), 1) := by decide +kernel
theorem dX9_newMarks_22 : decode cX9_newMarks 22 = .ok (.iastore, 1) := by decide +kernel
theorem dX9_newMarks_23 : decode cX9_newMarks 23 = .ok (.iinc 1 1, 3) := by decide +kernel
theorem dX9_newMarks_26 : decode cX9_newMarks 26 = .ok (.goto (-24), 3) := by decide +kernel
theorem dX9_newMarks_29 : decode cX9_newMarks 29 = .ok (.return_, 1) := by decide +kernel
theorem dX9_mark_0 : decode cX9_mark 0 = .ok (.bipush 10, 2) := by decide +kernel
theorem dX9_mark_2 : decode cX9_mark 2 = .ok (.iload_n 1, 1) := by decide +kernel
theorem dX9_mark_3 : decode cX9_mark 3 = .ok (.imul, 1) := by decide +kernel
theorem dX9_mark_4 : decode cX9_mark 4 = .ok (.iload_n 2, 1) := by decide +kernel
theorem dX9_mark_5 : decode cX9_mark 5 = .ok (.iadd, 1) := by decide +kernel
theorem dX9_mark_6 : decode cX9_mark 6 = .ok (.istore 5, 2) := by decide +kernel
theorem dX9_mark_8 : decode cX9_mark 8 = .ok (.aload_n 0, 1) := by decide +kernel
theorem dX9_mark_9 : decode cX9_mark 9 = .ok (.getfield 66, 3) := by decide +kernel
theorem dX9_mark_12 : decode cX9_mark 12 = .ok (.iload 5, 2) := by decide +kernel
theorem dX9_mark_14 : decode cX9_mark 14 = .ok (.iaload, 1) := by decide +kernel
theorem dX9_mark_15 : decode cX9_mark 15 = .ok (.ifCond .ge 20, 3) := by decide +kernel
theorem dX9_mark_18 : decode cX9_mark 18 = .ok (.aload_n 0, 1) := by decide +kernel
theorem dX9_mark_19 : decode cX9_mark 19 = .ok (.getfield 66, 3) := by decide +kernel
theorem dX9_mark_22 : decode cX9_mark 22 = .ok (.iload 5, 2) := by decide +kernel
theorem dX9_mark_24 : decode cX9_mark 24 = .ok (.iload_n 3, 1) := by decide +kernel
theorem dX9_mark_25 : decode cX9_mark 25 = .ok (.iastore, 1) := by decide +kernel
theorem dX9_mark_26 : decode cX9_mark 26 = .ok (.aload_n 0, 1) := by decide +kernel
theorem dX9_mark_27 : decode cX9_mark 27 = .ok (.getfield 69, 3) := by decide +kernel
theorem dX9_mark_30 : decode cX9_mark 30 = .ok (.iload 5, 2) := by decide +kernel
theorem dX9_mark_32 : decode cX9_mark 32 = .ok (.iload 4, 2) := by decide +kernel
theorem dX9_mark_34 : decode cX9_mark 34 = .ok (.iastore, 1) := by decide +kernel
theorem dX9_mark_35 : decode cX9_mark 35 = .ok (.return_, 1) := by decide +kernel
theorem dX9_lower_0 : decode cX9_lower 0 = .ok (.iload_n 0, 1) := by decide +kernel
theorem dX9_lower_1 : decode cX9_lower 1 = .ok (.iload_n 1, 1) := by decide +kernel
theorem dX9_lower_2 : decode cX9_lower 2 = .ok (.idiv, 1) := by decide +kernel
theorem dX9_lower_3 : decode cX9_lower 3 = .ok (.istore_n 2, 1) := by decide +kernel
theorem dX9_lower_4 : decode cX9_lower 4 = .ok (.iload_n 0, 1) := by decide +kernel
theorem dX9_lower_5 : decode cX9_lower 5 = .ok (.iload_n 1, 1) := by decide +kernel
theorem dX9_lower_6 : decode cX9_lower 6 = .ok (.irem, 1) := by decide +kernel
theorem dX9_lower_7 : decode cX9_lower 7 = .ok (.ifCond .ge 9, 3) := by decide +kernel
theorem dX9_lower_10 : decode cX9_lower 10 = .ok (.iload_n 2, 1) := by decide +kernel
theorem dX9_lower_11 : decode cX9_lower 11 = .ok (.iconst 1, 1) := by decide +kernel
theorem dX9_lower_12 : decode cX9_lower 12 = .ok (.isub, 1) := by decide +kernel
theorem dX9_lower_13 : decode cX9_lower 13 = .ok (.goto 4, 3) := by decide +kernel
theorem dX9_lower_16 : decode cX9_lower 16 = .ok (.iload_n 2, 1) := by decide +kernel
theorem dX9_lower_17 : decode cX9_lower 17 = .ok (.ireturn, 1) := by decide +kernel
set_option maxRecDepth 20000 in
theorem ggX9_write_X9_isDown : GoodIn wsX9_write wsX9_isDown := goodIn_r _ [5, 6, 7, 8, 9, 10, 4, 11, 12, 13, 35, 36, 37, 38, 39, 40, 41, 42, 43, 44, 45, 46, 47, 48, 49, 50, 51, 52, 53, 54, 55, 56, 57, 58, 59, 60, 61, 62, 63, 64, 65, 66] (by decide +kernel) (by decide +kernel)
set_option maxRecDepth 20000 in
theorem gX9_write_X9_isDown : GoodIn wsX9_write (wsV RX9 125 RX9 yX9_isDown wsX9_isDown) := goodIn_app (goodIn_of _ (by decide +kernel)) ggX9_write_X9_isDown
set_option maxRecDepth 20000 in
theorem ggX9_write_X9_xAt : GoodIn wsX9_write wsX9_xAt := goodIn_r _ [17, 18, 19, 7, 20, 8, 9, 10, 4, 11, 12, 13, 35, 36, 37, 38, 39, 40, 41, 42, 43, 44, 45, 46, 47, 48, 49, 50, 51, 52, 53, 54, 55, 56, 57, 58, 59, 60, 61, 62, 63, 64, 65, 66] (by decide +kernel) (by decide +kernel)
set_option maxRecDepth 20000 in
theorem gX9_write_X9_xAt : GoodIn wsX9_write (wsV RX9 129 RX9 yX9_xAt wsX9_xAt) := goodIn_app (goodIn_of _ (by decide +kernel)) ggX9_write_X9_xAt
set_option maxRecDepth 20000 in
theorem ggX9_write_X9_yAt : GoodIn wsX9_write wsX9_yAt := goodIn_r _ [24, 25, 7, 20, 8, 9, 10, 4, 11, 12, 13, 35, 36, 37, 38, 39, 40, 41, 42, 43, 44, 45, 46, 47, 48, 49, 50, 51, 52, 53, 54, 55, 56, 57, 58, 59, 60, 61, 62, 63, 64, 65, 66] (by decide +kernel) (by decide +kernel)
set_option maxRecDepth 20000 in
theorem gX9_write_X9_yAt : GoodIn wsX9_write (wsV RX9 132 RX9 yX9_yAt wsX9_yAt) := goodIn_app (goodIn_of _ (by decide +kernel)) ggX9_write_X9_yAt
set_option maxRecDepth 20000 in
theorem ggX9_write_X9_mark : GoodIn wsX9_write wsX9_mark := goodIn_r _ [29, 30, 31, 35, 36, 37, 38, 39, 40, 41, 42, 43, 44, 45, 46, 47, 48, 49, 50, 51, 52, 53, 54, 55, 56, 57, 58, 59, 60, 61, 62, 63, 64, 65, 66] (by decide +kernel) (by decide +kernel)
set_option maxRecDepth 20000 in
theorem gX9_write_X9_mark : GoodIn wsX9_write (wsV RX9 135 RX9 yX9_mark wsX9_mark) := goodIn_app (goodIn_of _ (by decide +kernel)) ggX9_write_X9_mark
set_option maxRecDepth 20000 in
theorem ggX9_write_X9_lower : GoodIn wsX9_write wsX9_lower := goodIn_r _ [34] (by decide +kernel) (by decide +kernel)
set_option maxRecDepth 20000 in
theorem gX9_write_X9_lower : GoodIn wsX9_write (va_wsS RX9 139 yX9_lower wsX9_lower) := goodIn_app (goodIn_of _ (by decide +kernel)) ggX9_write_X9_lower
theorem dX9_write_0 : decode cX9_write 0 = .ok (.aload_n 0, 1) := by decide +kernel
theorem dX9_write_1 : decode cX9_write 1 = .ok (.iload_n 1, 1) := by decide +kernel
theorem dX9_write_2 : decode cX9_write 2 = .ok (.iload_n 2, 1) := by decide +kernel
theorem dX9_write_3 : decode cX9_write 3 = .ok (.invokevirtual 125, 3) := by decide +kernel
theorem dX9_write_6 : decode cX9_write 6 = .ok (.ifCond .ne 4, 3) := by decide +kernel
theorem dX9_write_9 : decode cX9_write 9 = .ok (.return_, 1) := by decide +kernel
theorem dX9_write_10 : decode cX9_write 10 = .ok (.aload_n 0, 1) := by decide +kernel
theorem dX9_write_11 : decode cX9_write 11 = .ok (.iload_n 1, 1) := by decide +kernel
theorem dX9_write_12 : decode cX9_write 12 = .ok (.iload_n 2, 1) := by decide +kernel
theorem dX9_write_13 : decode cX9_write 13 = .ok (.invokevirtual 129, 3) := by decide +kernel
theorem dX9_write_16 : decode cX9_write 16 = .ok (.istore_n 3, 1) := by decide +kernel
theorem dX9_write_17 : decode cX9_write 17 = .ok (.aload_n 0, 1) := by decide +kernel
theorem dX9_write_18 : decode cX9_write 18 = .ok (.iload_n 1, 1) := by decide +kernel
theorem dX9_write_19 : decode cX9_write 19 = .ok (.iload_n 2, 1) := by decide +kernel
theorem dX9_write_20 : decode cX9_write 20 = .ok (.invokevirtual 132, 3) := by decide +kernel
theorem dX9_write_23 : decode cX9_write 23 = .ok (.istore 4, 2) := by decide +kernel
theorem dX9_write_25 : decode cX9_write 25 = .ok (.aload_n 0, 1) := by decide +kernel
theorem dX9_write_26 : decode cX9_write 26 = .ok (.iload_n 3, 1) := by decide +kernel
theorem dX9_write_27 : decode cX9_write 27 = .ok (.iload 4, 2) := by decide +kernel
theorem dX9_write_29 : decode cX9_write 29 = .ok (.iload_n 1, 1) := by decide +kernel
theorem dX9_write_30 : decode cX9_write 30 = .ok (.iload_n 2, 1) := by decide +kernel
theorem dX9_write_31 : decode cX9_write 31 = .ok (.invokevirtual 135, 3) := by decide +kernel
theorem dX9_write_34 : decode cX9_write 34 = .ok (.iload_n 2, 1) := by decide +kernel
theorem dX9_write_35 : decode cX9_write 35 = .ok (.ifCond .le 155, 3) := by decide +kernel
theorem dX9_write_38 : decode cX9_write 38 = .ok (.aload_n 0, 1) := by decide +kernel
theorem dX9_write_39 : decode cX9_write 39 = .ok (.iload_n 1, 1) := by decide +kernel
theorem dX9_write_40 : decode cX9_write 40 = .ok (.iload_n 2, 1) := by decide +kernel
theorem dX9_write_41 : decode cX9_write 41 = .ok (.iconst 1, 1) := by decide +kernel
theorem dX9_write_42 : decode cX9_write 42 = .ok (.isub, 1) := by decide +kernel
theorem dX9_write_43 : decode cX9_write 43 = .ok (.invokevirtual 125, 3) := by decide +kernel
theorem dX9_write_46 : decode cX9_write 46 = .ok (.ifCond .eq 144, 3) := by decide +kernel
theorem dX9_write_49 : decode cX9_write 49 = .ok (.aload_n 0, 1) := by decide +kernel
theorem dX9_write_50 : decode cX9_write 50 = .ok (.iload_n 1, 1) := by decide +kernel
theorem dX9_write_51 : decode cX9_write 51 = .ok (.iload_n 2, 1) := by decide +kernel
theorem dX9_write_52 : decode cX9_write 52 = .ok (.iconst 1, 1) := by decide +kernel
theorem dX9_write_53 : decode cX9_write 53 = .ok (.isub, 1) := by decide +kernel
theorem dX9_write_54 : decode cX9_write 54 = .ok (.invokevirtual 129, 3) := by decide +kernel
theorem dX9_write_57 : decode cX9_write 57 = .ok (.istore 5, 2) := by decide +kernel
theorem dX9_write_59 : decode cX9_write 59 = .ok (.aload_n 0, 1) := by decide +kernel
theorem dX9_write_60 : decode cX9_write 60 = .ok (.iload_n 1, 1) := by decide +kernel
theorem dX9_write_61 : decode cX9_write 61 = .ok (.iload_n 2, 1) := by decide +kernel
theorem dX9_write_62 : decode cX9_write 62 = .ok (.iconst 1, 1) := by decide +kernel
theorem dX9_write_63 : decode cX9_write 63 = .ok (.isub, 1) := by decide +kernel
theorem dX9_write_64 : decode cX9_write 64 = .ok (.invokevirtual 132, 3) := by decide +kernel
theorem dX9_write_67 : decode cX9_write 67 = .ok (.istore 6, 2) := by decide +kernel
theorem dX9_write_69 : decode cX9_write 69 = .ok (.iload_n 3, 1) := by decide +kernel
theorem dX9_write_70 : decode cX9_write 70 = .ok (.iload 5, 2) := by decide +kernel
theorem dX9_write_72 : decode cX9_write 72 = .ok (.isub, 1) := by decide +kernel
theorem dX9_write_73 : decode cX9_write 73 = .ok (.istore 7, 2) := by decide +kernel
theorem dX9_write_75 : decode cX9_write 75 = .ok (.iload 4, 2) := by decide +kernel
theorem dX9_write_77 : decode cX9_write 77 = .ok (.iload 6, 2) := by decide +kernel
theorem dX9_write_79 : decode cX9_write 79 = .ok (.isub, 1) := by decide +kernel
theorem dX9_write_80 : decode cX9_write 80 = .ok (.istore 8, 2) := by decide +kernel
theorem dX9_write_82 : decode cX9_write 82 = .ok (.iload 7, 2) := by decide +kernel
theorem dX9_write_84 : decode cX9_write 84 = .ok (.ifCond .ge 9, 3) := by decide +kernel
theorem dX9_write_87 : decode cX9_write 87 = .ok (.iload 7, 2) := by decide +kernel
theorem dX9_write_89 : decode cX9_write 89 = .ok (.ineg, 1) := by decide +kernel
theorem dX9_write_90 : decode cX9_write 90 = .ok (.goto 5, 3) := by decide +kernel
theorem dX9_write_93 : decode cX9_write 93 = .ok (.iload 7, 2) := by decide +kernel
theorem dX9_write_95 : decode cX9_write 95 = .ok (.istore 9, 2) := by decide +kernel
theorem dX9_write_97 : decode cX9_write 97 = .ok (.iload 8, 2) := by decide +kernel
theorem dX9_write_99 : decode cX9_write 99 = .ok (.ifCond .ge 9, 3) := by decide +kernel
theorem dX9_write_102 : decode cX9_write 102 = .ok (.iload 8, 2) := by decide +kernel
theorem dX9_write_104 : decode cX9_write 104 = .ok (.ineg, 1) := by decide +kernel
theorem dX9_write_105 : decode cX9_write 105 = .ok (.goto 5, 3) := by decide +kernel
theorem dX9_write_108 : decode cX9_write 108 = .ok (.iload 8, 2) := by decide +kernel
theorem dX9_write_110 : decode cX9_write 110 = .ok (.istore 10, 2) := by decide +kernel
theorem dX9_write_112 : decode cX9_write 112 = .ok (.iload 9, 2) := by decide +kernel
theorem dX9_write_114 : decode cX9_write 114 = .ok (.iload 10, 2) := by decide +kernel
theorem dX9_write_116 : decode cX9_write 116 = .ok (.if_icmp .le 8, 3) := by decide +kernel
theorem dX9_write_119 : decode cX9_write 119 = .ok (.iload 9, 2) := by decide +kernel
theorem dX9_write_121 : decode cX9_write 121 = .ok (.goto 5, 3) := by decide +kernel
theorem dX9_write_124 : decode cX9_write 124 = .ok (.iload 10, 2) := by decide +kernel
theorem dX9_write_126 : decode cX9_write 126 = .ok (.istore 11, 2) := by decide +kernel
theorem dX9_write_128 : decode cX9_write 128 = .ok (.iconst 1, 1) := by decide +kernel
theorem dX9_write_129 : decode cX9_write 129 = .ok (.istore 12, 2) := by decide +kernel
theorem dX9_write_131 : decode cX9_write 131 = .ok (.iload 12, 2) := by decide +kernel
theorem dX9_write_133 : decode cX9_write 133 = .ok (.iload 11, 2) := by decide +kernel
theorem dX9_write_135 : decode cX9_write 135 = .ok (.if_icmp .ge 55, 3) := by decide +kernel
theorem dX9_write_138 : decode cX9_write 138 = .ok (.aload_n 0, 1) := by decide +kernel
theorem dX9_write_139 : decode cX9_write 139 = .ok (.iload 5, 2) := by decide +kernel
theorem dX9_write_141 : decode cX9_write 141 = .ok (.iconst 2, 1) := by decide +kernel
theorem dX9_write_142 : decode cX9_write 142 = .ok (.iload 12, 2) := by decide +kernel
theorem dX9_write_144 : decode cX9_write 144 = .ok (.imul, 1) := by decide +kernel
theorem dX9_write_145 : decode cX9_write 145 = .ok (.iload 7, 2) := by decide +kernel
theorem dX9_write_147 : decode cX9_write 147 = .ok (.imul, 1) := by decide +kernel
theorem dX9_write_148 : decode cX9_write 148 = .ok (.iload 11, 2) := by decide +kernel
theorem dX9_write_150 : decode cX9_write 150 = .ok (.iadd, 1) := by decide +kernel
theorem dX9_write_151 : decode cX9_write 151 = .ok (.iconst 2, 1) := by decide +kernel
theorem dX9_write_152 : decode cX9_write 152 = .ok (.iload 11, 2) := by decide +kernel
theorem dX9_write_154 : decode cX9_write 154 = .ok (.imul, 1) := by decide +kernel
theorem dX9_write_155 : decode cX9_write 155 = .ok (.invokestatic 139, 3) := by decide +kernel
theorem dX9_write_158 : decode cX9_write 158 = .ok (.iadd, 1) := by decide +kernel
theorem dX9_write_159 : decode cX9_write 159 = .ok (.iload 6, 2) := by decide +kernel
theorem dX9_write_161 : decode cX9_write 161 = .ok (.iconst 2, 1) := by decide +kernel
theorem dX9_write_162 : decode cX9_write 162 = .ok (.iload 12, 2) := by decide +kernel
theorem dX9_write_164 : decode cX9_write 164 = .ok (.imul, 1) := by decide +kernel
theorem dX9_write_165 : decode cX9_write 165 = .ok (.iload 8, 2) := by decide +kernel
theorem dX9_write_167 : decode cX9_write 167 = .ok (.imul, 1) := by decide +kernel
theorem dX9_write_168 : decode cX9_write 168 = .ok (.iload 11, 2) := by decide +kernel
theorem dX9_write_170 : decode cX9_write 170 = .ok (.iadd, 1) := by decide +kernel
theorem dX9_write_171 : decode cX9_write 171 = .ok (.iconst 2, 1) := by decide +kernel
theorem dX9_write_172 : decode cX9_write 172 = .ok (.iload 11, 2) := by decide +kernel
theorem dX9_write_174 : decode cX9_write 174 = .ok (.imul, 1) := by decide +kernel
theorem dX9_write_175 : decode cX9_write 175 = .ok (.invokestatic 139, 3) := by decide +kernel
theorem dX9_write_178 : decode cX9_write 178 = .ok (.iadd, 1) := by decide +kernel
theorem dX9_write_179 : decode cX9_write 179 = .ok (.iload_n 1, 1) := by decide +kernel
theorem dX9_write_180 : decode cX9_write 180 = .ok (.iload_n 2, 1) := by decide +kernel
theorem dX9_write_181 : decode cX9_write 181 = .ok (.invokevirtual 135, 3) := by decide +kernel
theorem dX9_write_184 : decode cX9_write 184 = .ok (.iinc 12 1, 3) := by decide +kernel
theorem dX9_write_187 : decode cX9_write 187 = .ok (.goto (-56), 3) := by decide +kernel
theorem dX9_write_190 : decode cX9_write 190 = .ok (.return_, 1) := by decide +kernel
set_option maxRecDepth 20000 in
theorem ggX9_areCut_X9_isCutLetter : GoodIn wsX9_areCut wsX9_isCutLetter := goodIn_r _ [7, 8, 9, 10, 11, 12, 13, 14, 15, 16, 17, 18, 19, 20, 21, 22, 23, 24, 25, 26, 27, 28, 29, 30, 31, 32, 33, 34, 35, 36, 37, 38, 39, 40, 41, 42, 43] (by decide +kernel) (by decide +kernel)
set_option maxRecDepth 20000 in
theorem gX9_areCut_X9_isCutLetter : GoodIn wsX9_areCut (wsV RX9 101 RX9 yX9_isCutLetter wsX9_isCutLetter) := goodIn_app (goodIn_of _ (by decide +kernel)) ggX9_areCut_X9_isCutLetter
theorem dX9_areCut_0 : decode cX9_areCut 0 = .ok (.iconst 1, 1) := by decide +kernel
theorem dX9_areCut_1 : decode cX9_areCut 1 = .ok (.istore_n 1, 1) := by decide +kernel
theorem dX9_areCut_2 : decode cX9_areCut 2 = .ok (.iconst 0, 1) := by decide +kernel
theorem dX9_areCut_3 : decode cX9_areCut 3 = .ok (.istore_n 2, 1) := by decide +kernel
theorem dX9_areCut_4 : decode cX9_areCut 4 = .ok (.iload_n 2, 1) := by decide +kernel
theorem dX9_areCut_5 : decode cX9_areCut 5 = .ok (.aload_n 0, 1) := by decide +kernel
theorem dX9_areCut_6 : decode cX9_areCut 6 = .ok (.getfield 104, 3) := by decide +kernel
theorem dX9_areCut_9 : decode cX9_areCut 9 = .ok (.if_icmp .ge 32, 3) := by decide +kernel
theorem dX9_areCut_12 : decode cX9_areCut 12 = .ok (.iload_n 1, 1) := by decide +kernel
theorem dX9_areCut_13 : decode cX9_areCut 13 = .ok (.ifCond .eq 20, 3) := by decide +kernel
theorem dX9_areCut_16 : decode cX9_areCut 16 = .ok (.aload_n 0, 1) := by decide +kernel
theorem dX9_areCut_17 : decode cX9_areCut 17 = .ok (.aload_n 0, 1) := by decide +kernel
theorem dX9_areCut_18 : decode cX9_areCut 18 = .ok (.getfield 30, 3) := by decide +kernel
theorem dX9_areCut_21 : decode cX9_areCut 21 = .ok (.iload_n 2, 1) := by decide +kernel
theorem dX9_areCut_22 : decode cX9_areCut 22 = .ok (.iaload, 1) := by decide +kernel
theorem dX9_areCut_23 : decode cX9_areCut 23 = .ok (.invokevirtual 101, 3) := by decide +kernel
theorem dX9_areCut_26 : decode cX9_areCut 26 = .ok (.ifCond .eq 7, 3) := by decide +kernel
theorem dX9_areCut_29 : decode cX9_areCut 29 = .ok (.iconst 1, 1) := by decide +kernel
theorem dX9_areCut_30 : decode cX9_areCut 30 = .ok (.goto 4, 3) := by decide +kernel
theorem dX9_areCut_33 : decode cX9_areCut 33 = .ok (.iconst 0, 1) := by decide +kernel
theorem dX9_areCut_34 : decode cX9_areCut 34 = .ok (.istore_n 1, 1) := by decide +kernel
theorem dX9_areCut_35 : decode cX9_areCut 35 = .ok (.iinc 2 1, 3) := by decide +kernel
theorem dX9_areCut_38 : decode cX9_areCut 38 = .ok (.goto (-34), 3) := by decide +kernel
theorem dX9_areCut_41 : decode cX9_areCut 41 = .ok (.iload_n 1, 1) := by decide +kernel
theorem dX9_areCut_42 : decode cX9_areCut 42 = .ok (.ireturn, 1) := by decide +kernel
set_option maxRecDepth 20000 in
theorem ggX9_show_X9_areCut : GoodIn wsX9_show wsX9_areCut := goodIn_r _ [20, 3, 21, 22, 23, 24, 19, 25, 26, 27, 28, 29, 74, 75, 76, 77, 78, 79, 80, 81, 82, 83, 84, 85, 86, 87, 88, 89, 90, 91, 92, 93, 94, 95, 96, 97, 98, 99, 100, 101, 102, 103, 104, 105] (by decide +kernel) (by decide +kernel)
set_option maxRecDepth 20000 in
theorem gX9_show_X9_areCut : GoodIn wsX9_show (wsV RX9 142 RX9 yX9_areCut wsX9_areCut) := goodIn_app (goodIn_of _ (by decide +kernel)) ggX9_show_X9_areCut
set_option maxRecDepth 20000 in
theorem ggX9_show_X9_refuse : GoodIn wsX9_show wsX9_refuse := goodIn_r _ [33, 34, 74, 75, 76, 77, 78, 79, 80, 81, 82, 83, 84, 85, 86, 87, 88, 89, 90, 91, 92, 93, 94, 95, 96, 97, 98, 99, 100, 101, 102, 103, 104, 105] (by decide +kernel) (by decide +kernel)
set_option maxRecDepth 20000 in
theorem gX9_show_X9_refuse : GoodIn wsX9_show (wsV RX9 79 RX9 yX9_refuse wsX9_refuse) := goodIn_app (goodIn_of _ (by decide +kernel)) ggX9_show_X9_refuse
set_option maxRecDepth 20000 in
theorem ggX9_show_X9_holdFaults : GoodIn wsX9_show wsX9_holdFaults := goodIn_r _ [38, 39, 5, 40, 74, 75, 76, 77, 78, 79, 80, 81, 82, 83, 84, 85, 86, 87, 88, 89, 90, 91, 92, 93, 94, 95, 96, 97, 98, 99, 100, 101, 102, 103, 104, 105] (by decide +kernel) (by decide +kernel)
set_option maxRecDepth 20000 in
theorem gX9_show_X9_holdFaults : GoodIn wsX9_show (wsV RX9 146 RX9 yX9_holdFaults wsX9_holdFaults) := goodIn_app (goodIn_of _ (by decide +kernel)) ggX9_show_X9_holdFaults
set_option maxRecDepth 20000 in
theorem ggX9_show_X9_newMarks : GoodIn wsX9_show wsX9_newMarks := goodIn_r _ [44, 13, 15, 74, 75, 76, 77, 78, 79, 80, 81, 82, 83, 84, 85, 86, 87, 88, 89, 90, 91, 92, 93, 94, 95, 96, 97, 98, 99, 100, 101, 102, 103, 104, 105] (by decide +kernel) (by decide +kernel)
set_option maxRecDepth 20000 in
theorem gX9_show_X9_newMarks : GoodIn wsX9_show (wsV RX9 150 RX9 yX9_newMarks wsX9_newMarks) := goodIn_app (goodIn_of _ (by decide +kernel)) ggX9_show_X9_newMarks
set_option maxRecDepth 20000 in
theorem ggX9_show_X9_write : GoodIn wsX9_show wsX9_write := goodIn_r _ [48, 49, 50, 51, 19, 52, 29, 21, 53, 54, 55, 56, 57, 39, 58, 59, 60, 61, 62, 27, 40, 63, 64, 65, 66, 28, 67, 68, 69, 70, 13, 15, 71, 72, 73, 74, 75, 76, 77, 78, 79, 80, 81, 82, 83, 84, 85, 86, 87, 88, 89, 90, 91, 92, 93, 94, 95, 96, 97, 98, 99, 100, 101, 102, 103, 104, 105] (by decide +kernel) (by decide +kernel)
set_option maxRecDepth 20000 in
theorem gX9_show_X9_write : GoodIn wsX9_show (wsV RX9 162 RX9 yX9_write wsX9_write) := goodIn_app (goodIn_of _ (by decide +kernel)) ggX9_show_X9_write
theorem dX9_show_0 : decode cX9_show 0 = .ok (.aload_n 0, 1) := by decide +kernel
theorem dX9_show_1 : decode cX9_show 1 = .ok (.invokevirtual 142, 3) := by decide +kernel
theorem dX9_show_4 : decode cX9_show 4 = .ok (.ifCond .ne 10, 3) := by decide +kernel
theorem dX9_show_7 : decode cX9_show 7 = .ok (.aload_n 0, 1) := by decide +kernel
theorem dX9_show_8 : decode cX9_show 8 = .ok (.bipush (-3), 2) := by decide +kernel
theorem dX9_show_10 : decode cX9_show 10 = .ok (.invokevirtual 79, 3) := by decide +kernel
theorem dX9_show_13 : decode cX9_show 13 = .ok (.ireturn, 1) := by decide +kernel
theorem dX9_show_14 : decode cX9_show 14 = .ok (.aload_n 0, 1) := by decide +kernel
theorem dX9_show_15 : decode cX9_show 15 = .ok (.aload_n 0, 1) := by decide +kernel
theorem dX9_show_16 : decode cX9_show 16 = .ok (.getfield 45, 3) := by decide +kernel
theorem dX9_show_19 : decode cX9_show 19 = .ok (.iconst 1, 1) := by decide +kernel
theorem dX9_show_20 : decode cX9_show 20 = .ok (.iaload, 1) := by decide +kernel
theorem dX9_show_21 : decode cX9_show 21 = .ok (.aload_n 0, 1) := by decide +kernel
theorem dX9_show_22 : decode cX9_show 22 = .ok (.getfield 45, 3) := by decide +kernel
theorem dX9_show_25 : decode cX9_show 25 = .ok (.iconst 2, 1) := by decide +kernel
theorem dX9_show_26 : decode cX9_show 26 = .ok (.iaload, 1) := by decide +kernel
theorem dX9_show_27 : decode cX9_show 27 = .ok (.aload_n 0, 1) := by decide +kernel
theorem dX9_show_28 : decode cX9_show 28 = .ok (.getfield 45, 3) := by decide +kernel
theorem dX9_show_31 : decode cX9_show 31 = .ok (.iconst 3, 1) := by decide +kernel
theorem dX9_show_32 : decode cX9_show 32 = .ok (.iaload, 1) := by decide +kernel
theorem dX9_show_33 : decode cX9_show 33 = .ok (.invokevirtual 146, 3) := by decide +kernel
theorem dX9_show_36 : decode cX9_show 36 = .ok (.aload_n 0, 1) := by decide +kernel
theorem dX9_show_37 : decode cX9_show 37 = .ok (.invokevirtual 150, 3) := by decide +kernel
theorem dX9_show_40 : decode cX9_show 40 = .ok (.aload_n 0, 1) := by decide +kernel
theorem dX9_show_41 : decode cX9_show 41 = .ok (.dup, 1) := by decide +kernel
theorem dX9_show_42 : decode cX9_show 42 = .ok (.getfield 153, 3) := by decide +kernel
theorem dX9_show_45 : decode cX9_show 45 = .ok (.iconst 1, 1) := by decide +kernel
theorem dX9_show_46 : decode cX9_show 46 = .ok (.iadd, 1) := by decide +kernel
theorem dX9_show_47 : decode cX9_show 47 = .ok (.putfield 153, 3) := by decide +kernel
theorem dX9_show_50 : decode cX9_show 50 = .ok (.iconst 0, 1) := by decide +kernel
theorem dX9_show_51 : decode cX9_show 51 = .ok (.istore_n 1, 1) := by decide +kernel
theorem dX9_show_52 : decode cX9_show 52 = .ok (.iconst 0, 1) := by decide +kernel
theorem dX9_show_53 : decode cX9_show 53 = .ok (.istore_n 2, 1) := by decide +kernel
theorem dX9_show_54 : decode cX9_show 54 = .ok (.iconst 0, 1) := by decide +kernel
theorem dX9_show_55 : decode cX9_show 55 = .ok (.istore_n 3, 1) := by decide +kernel
theorem dX9_show_56 : decode cX9_show 56 = .ok (.iload_n 3, 1) := by decide +kernel
theorem dX9_show_57 : decode cX9_show 57 = .ok (.aload_n 0, 1) := by decide +kernel
theorem dX9_show_58 : decode cX9_show 58 = .ok (.getfield 104, 3) := by decide +kernel
theorem dX9_show_61 : decode cX9_show 61 = .ok (.if_icmp .ge 169, 3) := by decide +kernel
theorem dX9_show_64 : decode cX9_show 64 = .ok (.iconst 0, 1) := by decide +kernel
theorem dX9_show_65 : decode cX9_show 65 = .ok (.istore 4, 2) := by decide +kernel
theorem dX9_show_67 : decode cX9_show 67 = .ok (.iload 4, 2) := by decide +kernel
theorem dX9_show_69 : decode cX9_show 69 = .ok (.aload_n 0, 1) := by decide +kernel
theorem dX9_show_70 : decode cX9_show 70 = .ok (.getfield 7, 3) := by decide +kernel
theorem dX9_show_73 : decode cX9_show 73 = .ok (.if_icmp .ge 151, 3) := by decide +kernel
theorem dX9_show_76 : decode cX9_show 76 = .ok (.iload_n 3, 1) := by decide +kernel
theorem dX9_show_77 : decode cX9_show 77 = .ok (.aload_n 0, 1) := by decide +kernel
theorem dX9_show_78 : decode cX9_show 78 = .ok (.getfield 116, 3) := by decide +kernel
theorem dX9_show_81 : decode cX9_show 81 = .ok (.if_icmp .eq 143, 3) := by decide +kernel
theorem dX9_show_84 : decode cX9_show 84 = .ok (.iload_n 2, 1) := by decide +kernel
theorem dX9_show_85 : decode cX9_show 85 = .ok (.ifCond .ne 139, 3) := by decide +kernel
theorem dX9_show_88 : decode cX9_show 88 = .ok (.aload_n 0, 1) := by decide +kernel
theorem dX9_show_89 : decode cX9_show 89 = .ok (.getfield 110, 3) := by decide +kernel
theorem dX9_show_92 : decode cX9_show 92 = .ok (.aload_n 0, 1) := by decide +kernel
theorem dX9_show_93 : decode cX9_show 93 = .ok (.getfield 36, 3) := by decide +kernel
theorem dX9_show_96 : decode cX9_show 96 = .ok (.aload_n 0, 1) := by decide +kernel
theorem dX9_show_97 : decode cX9_show 97 = .ok (.getfield 156, 3) := by decide +kernel
theorem dX9_show_100 : decode cX9_show 100 = .ok (.iadd, 1) := by decide +kernel
theorem dX9_show_101 : decode cX9_show 101 = .ok (.if_icmp .ge 8, 3) := by decide +kernel
theorem dX9_show_104 : decode cX9_show 104 = .ok (.iconst 1, 1) := by decide +kernel
theorem dX9_show_105 : decode cX9_show 105 = .ok (.istore_n 2, 1) := by decide +kernel
theorem dX9_show_106 : decode cX9_show 106 = .ok (.goto 112, 3) := by decide +kernel
theorem dX9_show_109 : decode cX9_show 109 = .ok (.aload_n 0, 1) := by decide +kernel
theorem dX9_show_110 : decode cX9_show 110 = .ok (.dup, 1) := by decide +kernel
theorem dX9_show_111 : decode cX9_show 111 = .ok (.getfield 159, 3) := by decide +kernel
theorem dX9_show_114 : decode cX9_show 114 = .ok (.aload_n 0, 1) := by decide +kernel
theorem dX9_show_115 : decode cX9_show 115 = .ok (.getfield 110, 3) := by decide +kernel
theorem dX9_show_118 : decode cX9_show 118 = .ok (.sipush 500, 3) := by decide +kernel
theorem dX9_show_121 : decode cX9_show 121 = .ok (.if_icmp .lt 7, 3) := by decide +kernel
theorem dX9_show_124 : decode cX9_show 124 = .ok (.iconst 1, 1) := by decide +kernel
theorem dX9_show_125 : decode cX9_show 125 = .ok (.goto 18, 3) := by decide +kernel
theorem dX9_show_128 : decode cX9_show 128 = .ok (.aload_n 0, 1) := by decide +kernel
theorem dX9_show_129 : decode cX9_show 129 = .ok (.getfield 110, 3) := by decide +kernel
theorem dX9_show_132 : decode cX9_show 132 = .ok (.sipush 200, 3) := by decide +kernel
theorem dX9_show_135 : decode cX9_show 135 = .ok (.if_icmp .lt 7, 3) := by decide +kernel
theorem dX9_show_138 : decode cX9_show 138 = .ok (.iconst 2, 1) := by decide +kernel
theorem dX9_show_139 : decode cX9_show 139 = .ok (.goto 4, 3) := by decide +kernel
theorem dX9_show_142 : decode cX9_show 142 = .ok (.iconst 4, 1) := by decide +kernel
theorem dX9_show_143 : decode cX9_show 143 = .ok (.iadd, 1) := by decide +kernel
theorem dX9_show_144 : decode cX9_show 144 = .ok (.putfield 159, 3) := by decide +kernel
theorem dX9_show_147 : decode cX9_show 147 = .ok (.aload_n 0, 1) := by decide +kernel
theorem dX9_show_148 : decode cX9_show 148 = .ok (.dup, 1) := by decide +kernel
theorem dX9_show_149 : decode cX9_show 149 = .ok (.getfield 110, 3) := by decide +kernel
theorem dX9_show_152 : decode cX9_show 152 = .ok (.aload_n 0, 1) := by decide +kernel
theorem dX9_show_153 : decode cX9_show 153 = .ok (.getfield 36, 3) := by decide +kernel
theorem dX9_show_156 : decode cX9_show 156 = .ok (.aload_n 0, 1) := by decide +kernel
theorem dX9_show_157 : decode cX9_show 157 = .ok (.getfield 156, 3) := by decide +kernel
theorem dX9_show_160 : decode cX9_show 160 = .ok (.iadd, 1) := by decide +kernel
theorem dX9_show_161 : decode cX9_show 161 = .ok (.isub, 1) := by decide +kernel
theorem dX9_show_162 : decode cX9_show 162 = .ok (.putfield 110, 3) := by decide +kernel
theorem dX9_show_165 : decode cX9_show 165 = .ok (.aload_n 0, 1) := by decide +kernel
theorem dX9_show_166 : decode cX9_show 166 = .ok (.iload_n 3, 1) := by decide +kernel
theorem dX9_show_167 : decode cX9_show 167 = .ok (.iload 4, 2) := by decide +kernel
theorem dX9_show_169 : decode cX9_show 169 = .ok (.invokevirtual 162, 3) := by decide +kernel
theorem dX9_show_172 : decode cX9_show 172 = .ok (.iinc 1 1, 3) := by decide +kernel
theorem dX9_show_175 : decode cX9_show 175 = .ok (.aload_n 0, 1) := by decide +kernel
theorem dX9_show_176 : decode cX9_show 176 = .ok (.dup, 1) := by decide +kernel
theorem dX9_show_177 : decode cX9_show 177 = .ok (.getfield 166, 3) := by decide +kernel
theorem dX9_show_180 : decode cX9_show 180 = .ok (.iconst 1, 1) := by decide +kernel
theorem dX9_show_181 : decode cX9_show 181 = .ok (.iadd, 1) := by decide +kernel
theorem dX9_show_182 : decode cX9_show 182 = .ok (.putfield 166, 3) := by decide +kernel
theorem dX9_show_185 : decode cX9_show 185 = .ok (.aload_n 0, 1) := by decide +kernel
theorem dX9_show_186 : decode cX9_show 186 = .ok (.dup, 1) := by decide +kernel
theorem dX9_show_187 : decode cX9_show 187 = .ok (.getfield 156, 3) := by decide +kernel
theorem dX9_show_190 : decode cX9_show 190 = .ok (.aload_n 0, 1) := by decide +kernel
theorem dX9_show_191 : decode cX9_show 191 = .ok (.getfield 166, 3) := by decide +kernel
theorem dX9_show_194 : decode cX9_show 194 = .ok (.bipush 100, 2) := by decide +kernel
theorem dX9_show_196 : decode cX9_show 196 = .ok (.irem, 1) := by decide +kernel
theorem dX9_show_197 : decode cX9_show 197 = .ok (.ifCond .ne 16, 3) := by decide +kernel
theorem dX9_show_200 : decode cX9_show 200 = .ok (.aload_n 0, 1) := by decide +kernel
theorem dX9_show_201 : decode cX9_show 201 = .ok (.getfield 156, 3) := by decide +kernel
theorem dX9_show_204 : decode cX9_show 204 = .ok (.bipush 20, 2) := by decide +kernel
theorem dX9_show_206 : decode cX9_show 206 = .ok (.if_icmp .ge 7, 3) := by decide +kernel
theorem dX9_show_209 : decode cX9_show 209 = .ok (.iconst 1, 1) := by decide +kernel
theorem dX9_show_210 : decode cX9_show 210 = .ok (.goto 4, 3) := by decide +kernel
theorem dX9_show_213 : decode cX9_show 213 = .ok (.iconst 0, 1) := by decide +kernel
theorem dX9_show_214 : decode cX9_show 214 = .ok (.iadd, 1) := by decide +kernel
theorem dX9_show_215 : decode cX9_show 215 = .ok (.putfield 156, 3) := by decide +kernel
theorem dX9_show_218 : decode cX9_show 218 = .ok (.iinc 4 1, 3) := by decide +kernel
theorem dX9_show_221 : decode cX9_show 221 = .ok (.goto (-154), 3) := by decide +kernel
theorem dX9_show_224 : decode cX9_show 224 = .ok (.iinc 3 1, 3) := by decide +kernel
theorem dX9_show_227 : decode cX9_show 227 = .ok (.goto (-171), 3) := by decide +kernel
theorem dX9_show_230 : decode cX9_show 230 = .ok (.aload_n 0, 1) := by decide +kernel
theorem dX9_show_231 : decode cX9_show 231 = .ok (.dup, 1) := by decide +kernel
theorem dX9_show_232 : decode cX9_show 232 = .ok (.getfield 169, 3) := by decide +kernel
theorem dX9_show_235 : decode cX9_show 235 = .ok (.iload_n 2, 1) := by decide +kernel
theorem dX9_show_236 : decode cX9_show 236 = .ok (.ifCond .eq 7, 3) := by decide +kernel
theorem dX9_show_239 : decode cX9_show 239 = .ok (.iconst 0, 1) := by decide +kernel
theorem dX9_show_240 : decode cX9_show 240 = .ok (.goto 4, 3) := by decide +kernel
theorem dX9_show_243 : decode cX9_show 243 = .ok (.iconst 1, 1) := by decide +kernel
theorem dX9_show_244 : decode cX9_show 244 = .ok (.iadd, 1) := by decide +kernel
theorem dX9_show_245 : decode cX9_show 245 = .ok (.putfield 169, 3) := by decide +kernel
theorem dX9_show_248 : decode cX9_show 248 = .ok (.iconst 0, 1) := by decide +kernel
theorem dX9_show_249 : decode cX9_show 249 = .ok (.istore_n 3, 1) := by decide +kernel
theorem dX9_show_250 : decode cX9_show 250 = .ok (.iload_n 3, 1) := by decide +kernel
theorem dX9_show_251 : decode cX9_show 251 = .ok (.sipush 1200, 3) := by decide +kernel
theorem dX9_show_254 : decode cX9_show 254 = .ok (.if_icmp .ge 33, 3) := by decide +kernel
theorem dX9_show_257 : decode cX9_show 257 = .ok (.aload_n 0, 1) := by decide +kernel
theorem dX9_show_258 : decode cX9_show 258 = .ok (.getfield 39, 3) := by decide +kernel
theorem dX9_show_261 : decode cX9_show 261 = .ok (.iload_n 3, 1) := by decide +kernel
theorem dX9_show_262 : decode cX9_show 262 = .ok (.aload_n 0, 1) := by decide +kernel
theorem dX9_show_263 : decode cX9_show 263 = .ok (.getfield 66, 3) := by decide +kernel
theorem dX9_show_266 : decode cX9_show 266 = .ok (.iload_n 3, 1) := by decide +kernel
theorem dX9_show_267 : decode cX9_show 267 = .ok (.iaload, 1) := by decide +kernel
theorem dX9_show_268 : decode cX9_show 268 = .ok (.iastore, 1) := by decide +kernel
theorem dX9_show_269 : decode cX9_show 269 = .ok (.aload_n 0, 1) := by decide +kernel
theorem dX9_show_270 : decode cX9_show 270 = .ok (.getfield 42, 3) := by decide +kernel
theorem dX9_show_273 : decode cX9_show 273 = .ok (.iload_n 3, 1) := by decide +kernel
theorem dX9_show_274 : decode cX9_show 274 = .ok (.aload_n 0, 1) := by decide +kernel
theorem dX9_show_275 : decode cX9_show 275 = .ok (.getfield 69, 3) := by decide +kernel
theorem dX9_show_278 : decode cX9_show 278 = .ok (.iload_n 3, 1) := by decide +kernel
theorem dX9_show_279 : decode cX9_show 279 = .ok (.iaload, 1) := by decide +kernel
theorem dX9_show_280 : decode cX9_show 280 = .ok (.iastore, 1) := by decide +kernel
theorem dX9_show_281 : decode cX9_show 281 = .ok (.iinc 3 1, 3) := by decide +kernel
theorem dX9_show_284 : decode cX9_show 284 = .ok (.goto (-34), 3) := by decide +kernel
theorem dX9_show_287 : decode cX9_show 287 = .ok (.iload_n 1, 1) := by decide +kernel
theorem dX9_show_288 : decode cX9_show 288 = .ok (.ireturn, 1) := by decide +kernel
set_option maxRecDepth 20000 in
theorem ggX9_isCell_X9_in : GoodIn wsX9_isCell wsX9_in := goodIn_r _ [4] (by decide +kernel) (by decide +kernel)
set_option maxRecDepth 20000 in
theorem gX9_isCell_X9_in : GoodIn wsX9_isCell (va_wsS RX9 75 yX9_in wsX9_in) := goodIn_app (goodIn_of _ (by decide +kernel)) ggX9_isCell_X9_in
theorem dX9_isCell_0 : decode cX9_isCell 0 = .ok (.iload_n 0, 1) := by decide +kernel
theorem dX9_isCell_1 : decode cX9_isCell 1 = .ok (.iconst 0, 1) := by decide +kernel
theorem dX9_isCell_2 : decode cX9_isCell 2 = .ok (.bipush 119, 2) := by decide +kernel
theorem dX9_isCell_4 : decode cX9_isCell 4 = .ok (.invokestatic 75, 3) := by decide +kernel
theorem dX9_isCell_7 : decode cX9_isCell 7 = .ok (.ifCond .eq 17, 3) := by decide +kernel
theorem dX9_isCell_10 : decode cX9_isCell 10 = .ok (.iload_n 1, 1) := by decide +kernel
theorem dX9_isCell_11 : decode cX9_isCell 11 = .ok (.iconst 0, 1) := by decide +kernel
theorem dX9_isCell_12 : decode cX9_isCell 12 = .ok (.bipush 9, 2) := by decide +kernel
theorem dX9_isCell_14 : decode cX9_isCell 14 = .ok (.invokestatic 75, 3) := by decide +kernel
theorem dX9_isCell_17 : decode cX9_isCell 17 = .ok (.ifCond .eq 7, 3) := by decide +kernel
theorem dX9_isCell_20 : decode cX9_isCell 20 = .ok (.iconst 1, 1) := by decide +kernel
theorem dX9_isCell_21 : decode cX9_isCell 21 = .ok (.goto 4, 3) := by decide +kernel
theorem dX9_isCell_24 : decode cX9_isCell 24 = .ok (.iconst 0, 1) := by decide +kernel
theorem dX9_isCell_25 : decode cX9_isCell 25 = .ok (.ireturn, 1) := by decide +kernel
set_option maxRecDepth 20000 in
theorem ggX9_marked_X9_isCell : GoodIn wsX9_marked wsX9_isCell := goodIn_r _ [5, 6, 7, 4, 8] (by decide +kernel) (by decide +kernel)
set_option maxRecDepth 20000 in
theorem gX9_marked_X9_isCell : GoodIn wsX9_marked (va_wsS RX9 172 yX9_isCell wsX9_isCell) := goodIn_app (goodIn_of _ (by decide +kernel)) ggX9_marked_X9_isCell
set_option maxRecDepth 20000 in
theorem ggX9_marked_X9_refuse : GoodIn wsX9_marked wsX9_refuse := goodIn_r _ [12, 13, 14, 15, 16, 17, 18, 19, 20, 21, 22, 23, 24, 25, 26, 27, 28, 29, 30, 31, 32, 33, 34, 35, 36, 37, 38, 39, 40, 41, 42, 43, 44, 45] (by decide +kernel) (by decide +kernel)
set_option maxRecDepth 20000 in
theorem gX9_marked_X9_refuse : GoodIn wsX9_marked (wsV RX9 79 RX9 yX9_refuse wsX9_refuse) := goodIn_app (goodIn_of _ (by decide +kernel)) ggX9_marked_X9_refuse
theorem dX9_marked_0 : decode cX9_marked 0 = .ok (.iload_n 1, 1) := by decide +kernel
theorem dX9_marked_1 : decode cX9_marked 1 = .ok (.iload_n 2, 1) := by decide +kernel
theorem dX9_marked_2 : decode cX9_marked 2 = .ok (.invokestatic 172, 3) := by decide +kernel
theorem dX9_marked_5 : decode cX9_marked 5 = .ok (.ifCond .eq 25, 3) := by decide +kernel
theorem dX9_marked_8 : decode cX9_marked 8 = .ok (.aload_n 0, 1) := by decide +kernel
theorem dX9_marked_9 : decode cX9_marked 9 = .ok (.getfield 39, 3) := by decide +kernel
theorem dX9_marked_12 : decode cX9_marked 12 = .ok (.bipush 10, 2) := by decide +kernel
theorem dX9_marked_14 : decode cX9_marked 14 = .ok (.iload_n 1, 1) := by decide +kernel
theorem dX9_marked_15 : decode cX9_marked 15 = .ok (.imul, 1) := by decide +kernel
theorem dX9_marked_16 : decode cX9_marked 16 = .ok (.iload_n 2, 1) := by decide +kernel
theorem dX9_marked_17 : decode cX9_marked 17 = .ok (.iadd, 1) := by decide +kernel
theorem dX9_marked_18 : decode cX9_marked 18 = .ok (.iaload, 1) := by decide +kernel
theorem dX9_marked_19 : decode cX9_marked 19 = .ok (.ifCond .ge 7, 3) := by decide +kernel
theorem dX9_marked_22 : decode cX9_marked 22 = .ok (.iconst 0, 1) := by decide +kernel
theorem dX9_marked_23 : decode cX9_marked 23 = .ok (.goto 12, 3) := by decide +kernel
theorem dX9_marked_26 : decode cX9_marked 26 = .ok (.iconst 1, 1) := by decide +kernel
theorem dX9_marked_27 : decode cX9_marked 27 = .ok (.goto 8, 3) := by decide +kernel
theorem dX9_marked_30 : decode cX9_marked 30 = .ok (.aload_n 0, 1) := by decide +kernel
theorem dX9_marked_31 : decode cX9_marked 31 = .ok (.iconst (-1), 1) := by decide +kernel
theorem dX9_marked_32 : decode cX9_marked 32 = .ok (.invokevirtual 79, 3) := by decide +kernel
theorem dX9_marked_35 : decode cX9_marked 35 = .ok (.ireturn, 1) := by decide +kernel
set_option maxRecDepth 20000 in
theorem ggX9_first_X9_isCell : GoodIn wsX9_first wsX9_isCell := goodIn_r _ [6, 7, 8, 5, 9] (by decide +kernel) (by decide +kernel)
set_option maxRecDepth 20000 in
theorem gX9_first_X9_isCell : GoodIn wsX9_first (va_wsS RX9 172 yX9_isCell wsX9_isCell) := goodIn_app (goodIn_of _ (by decide +kernel)) ggX9_first_X9_isCell
set_option maxRecDepth 20000 in
theorem ggX9_first_X9_refuse : GoodIn wsX9_first wsX9_refuse := goodIn_r _ [13, 14, 15, 16, 17, 18, 19, 20, 21, 22, 23, 24, 25, 26, 27, 28, 29, 30, 31, 32, 33, 34, 35, 36, 37, 38, 39, 40, 41, 42, 43, 44, 45, 46] (by decide +kernel) (by decide +kernel)
set_option maxRecDepth 20000 in
theorem gX9_first_X9_refuse : GoodIn wsX9_first (wsV RX9 79 RX9 yX9_refuse wsX9_refuse) := goodIn_app (goodIn_of _ (by decide +kernel)) ggX9_first_X9_refuse
set_option maxRecDepth 20000 in
theorem ggX9_first_X9_in : GoodIn wsX9_first wsX9_in := goodIn_r _ [9] (by decide +kernel) (by decide +kernel)
set_option maxRecDepth 20000 in
theorem gX9_first_X9_in : GoodIn wsX9_first (va_wsS RX9 75 yX9_in wsX9_in) := goodIn_app (goodIn_of _ (by decide +kernel)) ggX9_first_X9_in
theorem dX9_first_0 : decode cX9_first 0 = .ok (.iload_n 1, 1) := by decide +kernel
theorem dX9_first_1 : decode cX9_first 1 = .ok (.iload_n 2, 1) := by decide +kernel
theorem dX9_first_2 : decode cX9_first 2 = .ok (.invokestatic 172, 3) := by decide +kernel
theorem dX9_first_5 : decode cX9_first 5 = .ok (.ifCond .ne 9, 3) := by decide +kernel
theorem dX9_first_8 : decode cX9_first 8 = .ok (.aload_n 0, 1) := by decide +kernel
theorem dX9_first_9 : decode cX9_first 9 = .ok (.iconst (-1), 1) := by decide +kernel
theorem dX9_first_10 : decode cX9_first 10 = .ok (.invokevirtual 79, 3) := by decide +kernel
theorem dX9_first_13 : decode cX9_first 13 = .ok (.ireturn, 1) := by decide +kernel
theorem dX9_first_14 : decode cX9_first 14 = .ok (.iload_n 3, 1) := by decide +kernel
theorem dX9_first_15 : decode cX9_first 15 = .ok (.iconst 0, 1) := by decide +kernel
theorem dX9_first_16 : decode cX9_first 16 = .ok (.iconst 1, 1) := by decide +kernel
theorem dX9_first_17 : decode cX9_first 17 = .ok (.invokestatic 75, 3) := by decide +kernel
theorem dX9_first_20 : decode cX9_first 20 = .ok (.ifCond .ne 10, 3) := by decide +kernel
theorem dX9_first_23 : decode cX9_first 23 = .ok (.aload_n 0, 1) := by decide +kernel
theorem dX9_first_24 : decode cX9_first 24 = .ok (.bipush (-2), 2) := by decide +kernel
theorem dX9_first_26 : decode cX9_first 26 = .ok (.invokevirtual 79, 3) := by decide +kernel
theorem dX9_first_29 : decode cX9_first 29 = .ok (.ireturn, 1) := by decide +kernel
theorem dX9_first_30 : decode cX9_first 30 = .ok (.bipush 10, 2) := by decide +kernel
theorem dX9_first_32 : decode cX9_first 32 = .ok (.iload_n 1, 1) := by decide +kernel
theorem dX9_first_33 : decode cX9_first 33 = .ok (.imul, 1) := by decide +kernel
theorem dX9_first_34 : decode cX9_first 34 = .ok (.iload_n 2, 1) := by decide +kernel
end
section
theorem dX9_first_35 : decode cX9_first 35 = .ok (.iadd, 1) := by decide +kernel
theorem dX9_first_36 : decode cX9_first 36 = .ok (.istore 4, 2) := by decide +kernel
theorem dX9_first_38 : decode cX9_first 38 = .ok (.aload_n 0, 1) := by decide +kernel
theorem dX9_first_39 : decode cX9_first 39 = .ok (.getfield 39, 3) := by decide +kernel
theorem dX9_first_42 : decode cX9_first 42 = .ok (.iload 4, 2) := by decide +kernel
theorem dX9_first_44 : decode cX9_first 44 = .ok (.iaload, 1) := by decide +kernel
theorem dX9_first_45 : decode cX9_first 45 = .ok (.ifCond .ge 8, 3) := by decide +kernel
theorem dX9_first_48 : decode cX9_first 48 = .ok (.bipush (-9), 2) := by decide +kernel
theorem dX9_first_50 : decode cX9_first 50 = .ok (.goto 24, 3) := by decide +kernel
theorem dX9_first_53 : decode cX9_first 53 = .ok (.iload_n 3, 1) := by decide +kernel
theorem dX9_first_54 : decode cX9_first 54 = .ok (.ifCond .ne 13, 3) := by decide +kernel
theorem dX9_first_57 : decode cX9_first 57 = .ok (.aload_n 0, 1) := by decide +kernel
theorem dX9_first_58 : decode cX9_first 58 = .ok (.getfield 39, 3) := by decide +kernel
theorem dX9_first_61 : decode cX9_first 61 = .ok (.iload 4, 2) := by decide +kernel
theorem dX9_first_63 : decode cX9_first 63 = .ok (.iaload, 1) := by decide +kernel
theorem dX9_first_64 : decode cX9_first 64 = .ok (.goto 10, 3) := by decide +kernel
theorem dX9_first_67 : decode cX9_first 67 = .ok (.aload_n 0, 1) := by decide +kernel
theorem dX9_first_68 : decode cX9_first 68 = .ok (.getfield 42, 3) := by decide +kernel
theorem dX9_first_71 : decode cX9_first 71 = .ok (.iload 4, 2) := by decide +kernel
theorem dX9_first_73 : decode cX9_first 73 = .ok (.iaload, 1) := by decide +kernel
theorem dX9_first_74 : decode cX9_first 74 = .ok (.ireturn, 1) := by decide +kernel
theorem dX9_marks_0 : decode cX9_marks 0 = .ok (.iconst 0, 1) := by decide +kernel
theorem dX9_marks_1 : decode cX9_marks 1 = .ok (.istore_n 1, 1) := by decide +kernel
theorem dX9_marks_2 : decode cX9_marks 2 = .ok (.iconst 0, 1) := by decide +kernel
theorem dX9_marks_3 : decode cX9_marks 3 = .ok (.istore_n 2, 1) := by decide +kernel
theorem dX9_marks_4 : decode cX9_marks 4 = .ok (.iload_n 2, 1) := by decide +kernel
theorem dX9_marks_5 : decode cX9_marks 5 = .ok (.sipush 1200, 3) := by decide +kernel
theorem dX9_marks_8 : decode cX9_marks 8 = .ok (.if_icmp .ge 26, 3) := by decide +kernel
theorem dX9_marks_11 : decode cX9_marks 11 = .ok (.iload_n 1, 1) := by decide +kernel
theorem dX9_marks_12 : decode cX9_marks 12 = .ok (.aload_n 0, 1) := by decide +kernel
theorem dX9_marks_13 : decode cX9_marks 13 = .ok (.getfield 39, 3) := by decide +kernel
theorem dX9_marks_16 : decode cX9_marks 16 = .ok (.iload_n 2, 1) := by decide +kernel
theorem dX9_marks_17 : decode cX9_marks 17 = .ok (.iaload, 1) := by decide +kernel
theorem dX9_marks_18 : decode cX9_marks 18 = .ok (.ifCond .ge 7, 3) := by decide +kernel
theorem dX9_marks_21 : decode cX9_marks 21 = .ok (.iconst 0, 1) := by decide +kernel
theorem dX9_marks_22 : decode cX9_marks 22 = .ok (.goto 4, 3) := by decide +kernel
theorem dX9_marks_25 : decode cX9_marks 25 = .ok (.iconst 1, 1) := by decide +kernel
theorem dX9_marks_26 : decode cX9_marks 26 = .ok (.iadd, 1) := by decide +kernel
theorem dX9_marks_27 : decode cX9_marks 27 = .ok (.istore_n 1, 1) := by decide +kernel
theorem dX9_marks_28 : decode cX9_marks 28 = .ok (.iinc 2 1, 3) := by decide +kernel
theorem dX9_marks_31 : decode cX9_marks 31 = .ok (.goto (-27), 3) := by decide +kernel
theorem dX9_marks_34 : decode cX9_marks 34 = .ok (.iload_n 1, 1) := by decide +kernel
theorem dX9_marks_35 : decode cX9_marks 35 = .ok (.ireturn, 1) := by decide +kernel
set_option maxRecDepth 20000 in
theorem ggX9_see_X9_isCell : GoodIn wsX9_see wsX9_isCell := goodIn_r _ [6, 7, 8, 5, 9] (by decide +kernel) (by decide +kernel)
set_option maxRecDepth 20000 in
theorem gX9_see_X9_isCell : GoodIn wsX9_see (va_wsS RX9 172 yX9_isCell wsX9_isCell) := goodIn_app (goodIn_of _ (by decide +kernel)) ggX9_see_X9_isCell
set_option maxRecDepth 20000 in
theorem ggX9_see_X9_refuse : GoodIn wsX9_see wsX9_refuse := goodIn_r _ [13, 14, 15, 16, 17, 18, 19, 20, 21, 22, 23, 24, 25, 26, 27, 28, 29, 30, 31, 32, 33, 34, 35, 36, 37, 38, 39, 40, 41, 42, 43, 44, 45, 46] (by decide +kernel) (by decide +kernel)
set_option maxRecDepth 20000 in
theorem gX9_see_X9_refuse : GoodIn wsX9_see (wsV RX9 79 RX9 yX9_refuse wsX9_refuse) := goodIn_app (goodIn_of _ (by decide +kernel)) ggX9_see_X9_refuse
theorem dX9_see_0 : decode cX9_see 0 = .ok (.iload_n 1, 1) := by decide +kernel
theorem dX9_see_1 : decode cX9_see 1 = .ok (.iload_n 2, 1) := by decide +kernel
theorem dX9_see_2 : decode cX9_see 2 = .ok (.invokestatic 172, 3) := by decide +kernel
theorem dX9_see_5 : decode cX9_see 5 = .ok (.ifCond .ne 9, 3) := by decide +kernel
theorem dX9_see_8 : decode cX9_see 8 = .ok (.aload_n 0, 1) := by decide +kernel
theorem dX9_see_9 : decode cX9_see 9 = .ok (.iconst (-1), 1) := by decide +kernel
theorem dX9_see_10 : decode cX9_see 10 = .ok (.invokevirtual 79, 3) := by decide +kernel
theorem dX9_see_13 : decode cX9_see 13 = .ok (.ireturn, 1) := by decide +kernel
theorem dX9_see_14 : decode cX9_see 14 = .ok (.bipush 10, 2) := by decide +kernel
theorem dX9_see_16 : decode cX9_see 16 = .ok (.iload_n 1, 1) := by decide +kernel
theorem dX9_see_17 : decode cX9_see 17 = .ok (.imul, 1) := by decide +kernel
theorem dX9_see_18 : decode cX9_see 18 = .ok (.iload_n 2, 1) := by decide +kernel
theorem dX9_see_19 : decode cX9_see 19 = .ok (.iadd, 1) := by decide +kernel
theorem dX9_see_20 : decode cX9_see 20 = .ok (.istore 4, 2) := by decide +kernel
theorem dX9_see_22 : decode cX9_see 22 = .ok (.aload_n 0, 1) := by decide +kernel
theorem dX9_see_23 : decode cX9_see 23 = .ok (.getfield 39, 3) := by decide +kernel
theorem dX9_see_26 : decode cX9_see 26 = .ok (.iload 4, 2) := by decide +kernel
theorem dX9_see_28 : decode cX9_see 28 = .ok (.iaload, 1) := by decide +kernel
theorem dX9_see_29 : decode cX9_see 29 = .ok (.ifCond .lt 7, 3) := by decide +kernel
theorem dX9_see_32 : decode cX9_see 32 = .ok (.iconst 1, 1) := by decide +kernel
theorem dX9_see_33 : decode cX9_see 33 = .ok (.goto 4, 3) := by decide +kernel
theorem dX9_see_36 : decode cX9_see 36 = .ok (.iconst 0, 1) := by decide +kernel
theorem dX9_see_37 : decode cX9_see 37 = .ok (.istore 5, 2) := by decide +kernel
theorem dX9_see_39 : decode cX9_see 39 = .ok (.iload 5, 2) := by decide +kernel
theorem dX9_see_41 : decode cX9_see 41 = .ok (.iload_n 3, 1) := by decide +kernel
theorem dX9_see_42 : decode cX9_see 42 = .ok (.if_icmp .ne 5, 3) := by decide +kernel
theorem dX9_see_45 : decode cX9_see 45 = .ok (.iconst 0, 1) := by decide +kernel
theorem dX9_see_46 : decode cX9_see 46 = .ok (.ireturn, 1) := by decide +kernel
theorem dX9_see_47 : decode cX9_see 47 = .ok (.aload_n 0, 1) := by decide +kernel
theorem dX9_see_48 : decode cX9_see 48 = .ok (.getfield 39, 3) := by decide +kernel
theorem dX9_see_51 : decode cX9_see 51 = .ok (.iload 4, 2) := by decide +kernel
theorem dX9_see_53 : decode cX9_see 53 = .ok (.iload_n 3, 1) := by decide +kernel
theorem dX9_see_54 : decode cX9_see 54 = .ok (.ifCond .eq 8, 3) := by decide +kernel
theorem dX9_see_57 : decode cX9_see 57 = .ok (.bipush 99, 2) := by decide +kernel
theorem dX9_see_59 : decode cX9_see 59 = .ok (.goto 4, 3) := by decide +kernel
theorem dX9_see_62 : decode cX9_see 62 = .ok (.iconst (-1), 1) := by decide +kernel
theorem dX9_see_63 : decode cX9_see 63 = .ok (.iastore, 1) := by decide +kernel
theorem dX9_see_64 : decode cX9_see 64 = .ok (.aload_n 0, 1) := by decide +kernel
theorem dX9_see_65 : decode cX9_see 65 = .ok (.getfield 42, 3) := by decide +kernel
theorem dX9_see_68 : decode cX9_see 68 = .ok (.iload 4, 2) := by decide +kernel
theorem dX9_see_70 : decode cX9_see 70 = .ok (.iload_n 3, 1) := by decide +kernel
theorem dX9_see_71 : decode cX9_see 71 = .ok (.ifCond .eq 8, 3) := by decide +kernel
theorem dX9_see_74 : decode cX9_see 74 = .ok (.bipush 99, 2) := by decide +kernel
theorem dX9_see_76 : decode cX9_see 76 = .ok (.goto 4, 3) := by decide +kernel
theorem dX9_see_79 : decode cX9_see 79 = .ok (.iconst (-1), 1) := by decide +kernel
theorem dX9_see_80 : decode cX9_see 80 = .ok (.iastore, 1) := by decide +kernel
theorem dX9_see_81 : decode cX9_see 81 = .ok (.iconst 1, 1) := by decide +kernel
theorem dX9_see_82 : decode cX9_see 82 = .ok (.ireturn, 1) := by decide +kernel
set_option maxRecDepth 20000 in
theorem ggX9_fault_X9_in : GoodIn wsX9_fault wsX9_in := goodIn_r _ [6] (by decide +kernel) (by decide +kernel)
set_option maxRecDepth 20000 in
theorem gX9_fault_X9_in : GoodIn wsX9_fault (va_wsS RX9 75 yX9_in wsX9_in) := goodIn_app (goodIn_of _ (by decide +kernel)) ggX9_fault_X9_in
set_option maxRecDepth 20000 in
theorem ggX9_fault_X9_refuse : GoodIn wsX9_fault wsX9_refuse := goodIn_r _ [10, 11, 12, 13, 14, 15, 16, 17, 18, 19, 20, 21, 22, 23, 24, 25, 26, 27, 28, 29, 30, 31, 32, 33, 34, 35, 36, 37, 38, 39, 40, 41, 42, 43] (by decide +kernel) (by decide +kernel)
set_option maxRecDepth 20000 in
theorem gX9_fault_X9_refuse : GoodIn wsX9_fault (wsV RX9 79 RX9 yX9_refuse wsX9_refuse) := goodIn_app (goodIn_of _ (by decide +kernel)) ggX9_fault_X9_refuse
theorem dX9_fault_0 : decode cX9_fault 0 = .ok (.iload_n 1, 1) := by decide +kernel
theorem dX9_fault_1 : decode cX9_fault 1 = .ok (.iconst 1, 1) := by decide +kernel
theorem dX9_fault_2 : decode cX9_fault 2 = .ok (.iconst 3, 1) := by decide +kernel
theorem dX9_fault_3 : decode cX9_fault 3 = .ok (.invokestatic 75, 3) := by decide +kernel
theorem dX9_fault_6 : decode cX9_fault 6 = .ok (.ifCond .ne 10, 3) := by decide +kernel
theorem dX9_fault_9 : decode cX9_fault 9 = .ok (.aload_n 0, 1) := by decide +kernel
theorem dX9_fault_10 : decode cX9_fault 10 = .ok (.bipush (-2), 2) := by decide +kernel
theorem dX9_fault_12 : decode cX9_fault 12 = .ok (.invokevirtual 79, 3) := by decide +kernel
theorem dX9_fault_15 : decode cX9_fault 15 = .ok (.ireturn, 1) := by decide +kernel
theorem dX9_fault_16 : decode cX9_fault 16 = .ok (.iload_n 2, 1) := by decide +kernel
theorem dX9_fault_17 : decode cX9_fault 17 = .ok (.iconst 0, 1) := by decide +kernel
theorem dX9_fault_18 : decode cX9_fault 18 = .ok (.iload_n 1, 1) := by decide +kernel
theorem dX9_fault_19 : decode cX9_fault 19 = .ok (.iconst 1, 1) := by decide +kernel
theorem dX9_fault_20 : decode cX9_fault 20 = .ok (.if_icmp .ne 8, 3) := by decide +kernel
theorem dX9_fault_23 : decode cX9_fault 23 = .ok (.bipush 11, 2) := by decide +kernel
theorem dX9_fault_25 : decode cX9_fault 25 = .ok (.goto 18, 3) := by decide +kernel
theorem dX9_fault_28 : decode cX9_fault 28 = .ok (.iload_n 1, 1) := by decide +kernel
theorem dX9_fault_29 : decode cX9_fault 29 = .ok (.iconst 2, 1) := by decide +kernel
theorem dX9_fault_30 : decode cX9_fault 30 = .ok (.if_icmp .ne 12, 3) := by decide +kernel
theorem dX9_fault_33 : decode cX9_fault 33 = .ok (.aload_n 0, 1) := by decide +kernel
theorem dX9_fault_34 : decode cX9_fault 34 = .ok (.getfield 104, 3) := by decide +kernel
theorem dX9_fault_37 : decode cX9_fault 37 = .ok (.iconst 1, 1) := by decide +kernel
theorem dX9_fault_38 : decode cX9_fault 38 = .ok (.isub, 1) := by decide +kernel
theorem dX9_fault_39 : decode cX9_fault 39 = .ok (.goto 4, 3) := by decide +kernel
theorem dX9_fault_42 : decode cX9_fault 42 = .ok (.iconst 1, 1) := by decide +kernel
theorem dX9_fault_43 : decode cX9_fault 43 = .ok (.invokestatic 75, 3) := by decide +kernel
theorem dX9_fault_46 : decode cX9_fault 46 = .ok (.ifCond .ne 9, 3) := by decide +kernel
theorem dX9_fault_49 : decode cX9_fault 49 = .ok (.aload_n 0, 1) := by decide +kernel
theorem dX9_fault_50 : decode cX9_fault 50 = .ok (.iconst (-1), 1) := by decide +kernel
theorem dX9_fault_51 : decode cX9_fault 51 = .ok (.invokevirtual 79, 3) := by decide +kernel
theorem dX9_fault_54 : decode cX9_fault 54 = .ok (.ireturn, 1) := by decide +kernel
theorem dX9_fault_55 : decode cX9_fault 55 = .ok (.aload_n 0, 1) := by decide +kernel
theorem dX9_fault_56 : decode cX9_fault 56 = .ok (.getfield 45, 3) := by decide +kernel
theorem dX9_fault_59 : decode cX9_fault 59 = .ok (.iload_n 1, 1) := by decide +kernel
theorem dX9_fault_60 : decode cX9_fault 60 = .ok (.iload_n 2, 1) := by decide +kernel
theorem dX9_fault_61 : decode cX9_fault 61 = .ok (.iastore, 1) := by decide +kernel
theorem dX9_fault_62 : decode cX9_fault 62 = .ok (.iconst 1, 1) := by decide +kernel
theorem dX9_fault_63 : decode cX9_fault 63 = .ok (.ireturn, 1) := by decide +kernel
theorem dX9_faultMany_0 : decode cX9_faultMany 0 = .ok (.aload_n 0, 1) := by decide +kernel
theorem dX9_faultMany_1 : decode cX9_faultMany 1 = .ok (.getfield 45, 3) := by decide +kernel
theorem dX9_faultMany_4 : decode cX9_faultMany 4 = .ok (.iconst 1, 1) := by decide +kernel
theorem dX9_faultMany_5 : decode cX9_faultMany 5 = .ok (.iaload, 1) := by decide +kernel
theorem dX9_faultMany_6 : decode cX9_faultMany 6 = .ok (.ifCond .ge 7, 3) := by decide +kernel
theorem dX9_faultMany_9 : decode cX9_faultMany 9 = .ok (.iconst 0, 1) := by decide +kernel
theorem dX9_faultMany_10 : decode cX9_faultMany 10 = .ok (.goto 4, 3) := by decide +kernel
theorem dX9_faultMany_13 : decode cX9_faultMany 13 = .ok (.iconst 1, 1) := by decide +kernel
theorem dX9_faultMany_14 : decode cX9_faultMany 14 = .ok (.aload_n 0, 1) := by decide +kernel
theorem dX9_faultMany_15 : decode cX9_faultMany 15 = .ok (.getfield 45, 3) := by decide +kernel
theorem dX9_faultMany_18 : decode cX9_faultMany 18 = .ok (.iconst 2, 1) := by decide +kernel
theorem dX9_faultMany_19 : decode cX9_faultMany 19 = .ok (.iaload, 1) := by decide +kernel
theorem dX9_faultMany_20 : decode cX9_faultMany 20 = .ok (.ifCond .ge 7, 3) := by decide +kernel
theorem dX9_faultMany_23 : decode cX9_faultMany 23 = .ok (.iconst 0, 1) := by decide +kernel
theorem dX9_faultMany_24 : decode cX9_faultMany 24 = .ok (.goto 4, 3) := by decide +kernel
theorem dX9_faultMany_27 : decode cX9_faultMany 27 = .ok (.iconst 1, 1) := by decide +kernel
theorem dX9_faultMany_28 : decode cX9_faultMany 28 = .ok (.iadd, 1) := by decide +kernel
theorem dX9_faultMany_29 : decode cX9_faultMany 29 = .ok (.aload_n 0, 1) := by decide +kernel
theorem dX9_faultMany_30 : decode cX9_faultMany 30 = .ok (.getfield 45, 3) := by decide +kernel
theorem dX9_faultMany_33 : decode cX9_faultMany 33 = .ok (.iconst 3, 1) := by decide +kernel
theorem dX9_faultMany_34 : decode cX9_faultMany 34 = .ok (.iaload, 1) := by decide +kernel
theorem dX9_faultMany_35 : decode cX9_faultMany 35 = .ok (.ifCond .ge 7, 3) := by decide +kernel
theorem dX9_faultMany_38 : decode cX9_faultMany 38 = .ok (.iconst 0, 1) := by decide +kernel
theorem dX9_faultMany_39 : decode cX9_faultMany 39 = .ok (.goto 4, 3) := by decide +kernel
theorem dX9_faultMany_42 : decode cX9_faultMany 42 = .ok (.iconst 1, 1) := by decide +kernel
theorem dX9_faultMany_43 : decode cX9_faultMany 43 = .ok (.iadd, 1) := by decide +kernel
theorem dX9_faultMany_44 : decode cX9_faultMany 44 = .ok (.ireturn, 1) := by decide +kernel
set_option maxRecDepth 20000 in
theorem ggX9_mend_X9_faultMany : GoodIn wsX9_mend wsX9_faultMany := goodIn_r _ [6, 1, 7, 8, 9, 10, 11, 12, 13, 14, 15, 16, 17, 18, 19, 20, 21, 22, 23, 24, 25, 26, 27, 28, 29, 30, 31, 32, 33, 34, 35, 36, 37, 38] (by decide +kernel) (by decide +kernel)
set_option maxRecDepth 20000 in
theorem gX9_mend_X9_faultMany : GoodIn wsX9_mend (wsV RX9 175 RX9 yX9_faultMany wsX9_faultMany) := goodIn_app (goodIn_of _ (by decide +kernel)) ggX9_mend_X9_faultMany
theorem dX9_mend_0 : decode cX9_mend 0 = .ok (.aload_n 0, 1) := by decide +kernel
theorem dX9_mend_1 : decode cX9_mend 1 = .ok (.invokevirtual 175, 3) := by decide +kernel
theorem dX9_mend_4 : decode cX9_mend 4 = .ok (.istore_n 1, 1) := by decide +kernel
theorem dX9_mend_5 : decode cX9_mend 5 = .ok (.iconst 1, 1) := by decide +kernel
theorem dX9_mend_6 : decode cX9_mend 6 = .ok (.istore_n 2, 1) := by decide +kernel
theorem dX9_mend_7 : decode cX9_mend 7 = .ok (.iload_n 2, 1) := by decide +kernel
theorem dX9_mend_8 : decode cX9_mend 8 = .ok (.iconst 4, 1) := by decide +kernel
theorem dX9_mend_9 : decode cX9_mend 9 = .ok (.if_icmp .ge 16, 3) := by decide +kernel
theorem dX9_mend_12 : decode cX9_mend 12 = .ok (.aload_n 0, 1) := by decide +kernel
theorem dX9_mend_13 : decode cX9_mend 13 = .ok (.getfield 45, 3) := by decide +kernel
theorem dX9_mend_16 : decode cX9_mend 16 = .ok (.iload_n 2, 1) := by decide +kernel
theorem dX9_mend_17 : decode cX9_mend 17 = .ok (.iconst (-1), 1) := by decide +kernel
theorem dX9_mend_18 : decode cX9_mend 18 = .ok (.iastore, 1) := by decide +kernel
theorem dX9_mend_19 : decode cX9_mend 19 = .ok (.iinc 2 1, 3) := by decide +kernel
theorem dX9_mend_22 : decode cX9_mend 22 = .ok (.goto (-15), 3) := by decide +kernel
theorem dX9_mend_25 : decode cX9_mend 25 = .ok (.iload_n 1, 1) := by decide +kernel
theorem dX9_mend_26 : decode cX9_mend 26 = .ok (.ireturn, 1) := by decide +kernel
set_option maxRecDepth 20000 in
theorem ggX9_isWritten_X9_holdFaults : GoodIn wsX9_isWritten wsX9_holdFaults := goodIn_r _ [10, 11, 3, 12, 51, 52, 53, 54, 55, 56, 57, 58, 59, 60, 61, 62, 63, 64, 65, 66, 67, 68, 69, 70, 71, 72, 73, 74, 75, 76, 77, 78, 79, 80, 81, 82] (by decide +kernel) (by decide +kernel)
set_option maxRecDepth 20000 in
theorem gX9_isWritten_X9_holdFaults : GoodIn wsX9_isWritten (wsV RX9 146 RX9 yX9_holdFaults wsX9_holdFaults) := goodIn_app (goodIn_of _ (by decide +kernel)) ggX9_isWritten_X9_holdFaults
set_option maxRecDepth 20000 in
theorem ggX9_isWritten_X9_newMarks : GoodIn wsX9_isWritten wsX9_newMarks := goodIn_r _ [16, 5, 17, 51, 52, 53, 54, 55, 56, 57, 58, 59, 60, 61, 62, 63, 64, 65, 66, 67, 68, 69, 70, 71, 72, 73, 74, 75, 76, 77, 78, 79, 80, 81, 82] (by decide +kernel) (by decide +kernel)
set_option maxRecDepth 20000 in
theorem gX9_isWritten_X9_newMarks : GoodIn wsX9_isWritten (wsV RX9 150 RX9 yX9_newMarks wsX9_newMarks) := goodIn_app (goodIn_of _ (by decide +kernel)) ggX9_isWritten_X9_newMarks
set_option maxRecDepth 20000 in
theorem ggX9_isWritten_X9_write : GoodIn wsX9_isWritten wsX9_write := goodIn_r _ [21, 22, 23, 24, 9, 25, 26, 27, 28, 29, 30, 31, 32, 11, 33, 34, 35, 36, 37, 38, 12, 39, 40, 41, 42, 43, 44, 45, 46, 47, 5, 17, 48, 49, 50, 51, 52, 53, 54, 55, 56, 57, 58, 59, 60, 61, 62, 63, 64, 65, 66, 67, 68, 69, 70, 71, 72, 73, 74, 75, 76, 77, 78, 79, 80, 81, 82] (by decide +kernel) (by decide +kernel)
set_option maxRecDepth 20000 in
theorem gX9_isWritten_X9_write : GoodIn wsX9_isWritten (wsV RX9 162 RX9 yX9_write wsX9_write) := goodIn_app (goodIn_of _ (by decide +kernel)) ggX9_isWritten_X9_write
theorem dX9_isWritten_0 : decode cX9_isWritten 0 = .ok (.aload_n 0, 1) := by decide +kernel
theorem dX9_isWritten_1 : decode cX9_isWritten 1 = .ok (.iload_n 1, 1) := by decide +kernel
theorem dX9_isWritten_2 : decode cX9_isWritten 2 = .ok (.iload_n 2, 1) := by decide +kernel
theorem dX9_isWritten_3 : decode cX9_isWritten 3 = .ok (.iload_n 3, 1) := by decide +kernel
theorem dX9_isWritten_4 : decode cX9_isWritten 4 = .ok (.invokevirtual 146, 3) := by decide +kernel
theorem dX9_isWritten_7 : decode cX9_isWritten 7 = .ok (.aload_n 0, 1) := by decide +kernel
theorem dX9_isWritten_8 : decode cX9_isWritten 8 = .ok (.invokevirtual 150, 3) := by decide +kernel
theorem dX9_isWritten_11 : decode cX9_isWritten 11 = .ok (.iconst 0, 1) := by decide +kernel
theorem dX9_isWritten_12 : decode cX9_isWritten 12 = .ok (.istore 4, 2) := by decide +kernel
theorem dX9_isWritten_14 : decode cX9_isWritten 14 = .ok (.iload 4, 2) := by decide +kernel
theorem dX9_isWritten_16 : decode cX9_isWritten 16 = .ok (.aload_n 0, 1) := by decide +kernel
theorem dX9_isWritten_17 : decode cX9_isWritten 17 = .ok (.getfield 104, 3) := by decide +kernel
theorem dX9_isWritten_20 : decode cX9_isWritten 20 = .ok (.if_icmp .ge 44, 3) := by decide +kernel
theorem dX9_isWritten_23 : decode cX9_isWritten 23 = .ok (.iconst 0, 1) := by decide +kernel
theorem dX9_isWritten_24 : decode cX9_isWritten 24 = .ok (.istore 5, 2) := by decide +kernel
theorem dX9_isWritten_26 : decode cX9_isWritten 26 = .ok (.iload 5, 2) := by decide +kernel
theorem dX9_isWritten_28 : decode cX9_isWritten 28 = .ok (.aload_n 0, 1) := by decide +kernel
theorem dX9_isWritten_29 : decode cX9_isWritten 29 = .ok (.getfield 7, 3) := by decide +kernel
theorem dX9_isWritten_32 : decode cX9_isWritten 32 = .ok (.if_icmp .ge 26, 3) := by decide +kernel
theorem dX9_isWritten_35 : decode cX9_isWritten 35 = .ok (.iload 4, 2) := by decide +kernel
theorem dX9_isWritten_37 : decode cX9_isWritten 37 = .ok (.aload_n 0, 1) := by decide +kernel
theorem dX9_isWritten_38 : decode cX9_isWritten 38 = .ok (.getfield 116, 3) := by decide +kernel
theorem dX9_isWritten_41 : decode cX9_isWritten 41 = .ok (.if_icmp .eq 17, 3) := by decide +kernel
theorem dX9_isWritten_44 : decode cX9_isWritten 44 = .ok (.aload_n 0, 1) := by decide +kernel
theorem dX9_isWritten_45 : decode cX9_isWritten 45 = .ok (.iload 4, 2) := by decide +kernel
theorem dX9_isWritten_47 : decode cX9_isWritten 47 = .ok (.iload 5, 2) := by decide +kernel
theorem dX9_isWritten_49 : decode cX9_isWritten 49 = .ok (.invokevirtual 162, 3) := by decide +kernel
theorem dX9_isWritten_52 : decode cX9_isWritten 52 = .ok (.iinc 5 1, 3) := by decide +kernel
theorem dX9_isWritten_55 : decode cX9_isWritten 55 = .ok (.goto (-29), 3) := by decide +kernel
theorem dX9_isWritten_58 : decode cX9_isWritten 58 = .ok (.iinc 4 1, 3) := by decide +kernel
theorem dX9_isWritten_61 : decode cX9_isWritten 61 = .ok (.goto (-47), 3) := by decide +kernel
theorem dX9_isWritten_64 : decode cX9_isWritten 64 = .ok (.iconst 1, 1) := by decide +kernel
theorem dX9_isWritten_65 : decode cX9_isWritten 65 = .ok (.istore 4, 2) := by decide +kernel
theorem dX9_isWritten_67 : decode cX9_isWritten 67 = .ok (.iconst 0, 1) := by decide +kernel
theorem dX9_isWritten_68 : decode cX9_isWritten 68 = .ok (.istore 5, 2) := by decide +kernel
theorem dX9_isWritten_70 : decode cX9_isWritten 70 = .ok (.iload 5, 2) := by decide +kernel
theorem dX9_isWritten_72 : decode cX9_isWritten 72 = .ok (.sipush 1200, 3) := by decide +kernel
theorem dX9_isWritten_75 : decode cX9_isWritten 75 = .ok (.if_icmp .ge 54, 3) := by decide +kernel
theorem dX9_isWritten_78 : decode cX9_isWritten 78 = .ok (.iload 4, 2) := by decide +kernel
theorem dX9_isWritten_80 : decode cX9_isWritten 80 = .ok (.ifCond .eq 40, 3) := by decide +kernel
theorem dX9_isWritten_83 : decode cX9_isWritten 83 = .ok (.aload_n 0, 1) := by decide +kernel
theorem dX9_isWritten_84 : decode cX9_isWritten 84 = .ok (.getfield 39, 3) := by decide +kernel
theorem dX9_isWritten_87 : decode cX9_isWritten 87 = .ok (.iload 5, 2) := by decide +kernel
theorem dX9_isWritten_89 : decode cX9_isWritten 89 = .ok (.iaload, 1) := by decide +kernel
theorem dX9_isWritten_90 : decode cX9_isWritten 90 = .ok (.ifCond .ge 7, 3) := by decide +kernel
theorem dX9_isWritten_93 : decode cX9_isWritten 93 = .ok (.iconst 1, 1) := by decide +kernel
theorem dX9_isWritten_94 : decode cX9_isWritten 94 = .ok (.goto 4, 3) := by decide +kernel
theorem dX9_isWritten_97 : decode cX9_isWritten 97 = .ok (.iconst 0, 1) := by decide +kernel
theorem dX9_isWritten_98 : decode cX9_isWritten 98 = .ok (.aload_n 0, 1) := by decide +kernel
theorem dX9_isWritten_99 : decode cX9_isWritten 99 = .ok (.getfield 66, 3) := by decide +kernel
theorem dX9_isWritten_102 : decode cX9_isWritten 102 = .ok (.iload 5, 2) := by decide +kernel
theorem dX9_isWritten_104 : decode cX9_isWritten 104 = .ok (.iaload, 1) := by decide +kernel
theorem dX9_isWritten_105 : decode cX9_isWritten 105 = .ok (.ifCond .ge 7, 3) := by decide +kernel
theorem dX9_isWritten_108 : decode cX9_isWritten 108 = .ok (.iconst 1, 1) := by decide +kernel
theorem dX9_isWritten_109 : decode cX9_isWritten 109 = .ok (.goto 4, 3) := by decide +kernel
theorem dX9_isWritten_112 : decode cX9_isWritten 112 = .ok (.iconst 0, 1) := by decide +kernel
theorem dX9_isWritten_113 : decode cX9_isWritten 113 = .ok (.if_icmp .ne 7, 3) := by decide +kernel
theorem dX9_isWritten_116 : decode cX9_isWritten 116 = .ok (.iconst 1, 1) := by decide +kernel
theorem dX9_isWritten_117 : decode cX9_isWritten 117 = .ok (.goto 4, 3) := by decide +kernel
theorem dX9_isWritten_120 : decode cX9_isWritten 120 = .ok (.iconst 0, 1) := by decide +kernel
theorem dX9_isWritten_121 : decode cX9_isWritten 121 = .ok (.istore 4, 2) := by decide +kernel
theorem dX9_isWritten_123 : decode cX9_isWritten 123 = .ok (.iinc 5 1, 3) := by decide +kernel
theorem dX9_isWritten_126 : decode cX9_isWritten 126 = .ok (.goto (-56), 3) := by decide +kernel
theorem dX9_isWritten_129 : decode cX9_isWritten 129 = .ok (.iload 4, 2) := by decide +kernel
theorem dX9_isWritten_131 : decode cX9_isWritten 131 = .ok (.ireturn, 1) := by decide +kernel
set_option maxRecDepth 20000 in
theorem ggX9_findKind_X9_isWritten : GoodIn wsX9_findKind wsX9_isWritten := goodIn_r _ [8, 3, 9, 10, 11, 12, 13, 14, 15, 7, 16, 17, 18, 19, 20, 21, 22, 23, 24, 25, 26, 27, 28, 29, 30, 31, 32, 33, 34, 35, 36, 37, 38, 39, 40, 41, 42, 43, 44, 45, 46, 47, 48, 49, 50, 51, 52, 53, 54, 55, 56, 57, 58, 59, 60, 61, 62, 63, 64, 65, 66, 67, 68, 69, 70, 71, 72, 73, 74, 75, 76, 77, 78, 79, 80, 81, 82, 83, 84, 85, 86, 87, 88] (by decide +kernel) (by decide +kernel)
set_option maxRecDepth 20000 in
theorem gX9_findKind_X9_isWritten : GoodIn wsX9_findKind (wsV RX9 181 RX9 yX9_isWritten wsX9_isWritten) := goodIn_app (goodIn_of _ (by decide +kernel)) ggX9_findKind_X9_isWritten
theorem dX9_findKind_0 : decode cX9_findKind 0 = .ok (.aload_n 0, 1) := by decide +kernel
theorem dX9_findKind_1 : decode cX9_findKind 1 = .ok (.bipush (-9), 2) := by decide +kernel
theorem dX9_findKind_3 : decode cX9_findKind 3 = .ok (.putfield 178, 3) := by decide +kernel
theorem dX9_findKind_6 : decode cX9_findKind 6 = .ok (.aload_n 0, 1) := by decide +kernel
theorem dX9_findKind_7 : decode cX9_findKind 7 = .ok (.iconst (-1), 1) := by decide +kernel
theorem dX9_findKind_8 : decode cX9_findKind 8 = .ok (.iconst (-1), 1) := by decide +kernel
theorem dX9_findKind_9 : decode cX9_findKind 9 = .ok (.iconst (-1), 1) := by decide +kernel
theorem dX9_findKind_10 : decode cX9_findKind 10 = .ok (.invokevirtual 181, 3) := by decide +kernel
theorem dX9_findKind_13 : decode cX9_findKind 13 = .ok (.ifCond .eq 5, 3) := by decide +kernel
theorem dX9_findKind_16 : decode cX9_findKind 16 = .ok (.iconst 0, 1) := by decide +kernel
theorem dX9_findKind_17 : decode cX9_findKind 17 = .ok (.ireturn, 1) := by decide +kernel
theorem dX9_findKind_18 : decode cX9_findKind 18 = .ok (.iconst 0, 1) := by decide +kernel
theorem dX9_findKind_19 : decode cX9_findKind 19 = .ok (.istore_n 1, 1) := by decide +kernel
theorem dX9_findKind_20 : decode cX9_findKind 20 = .ok (.iload_n 1, 1) := by decide +kernel
theorem dX9_findKind_21 : decode cX9_findKind 21 = .ok (.bipush 12, 2) := by decide +kernel
theorem dX9_findKind_23 : decode cX9_findKind 23 = .ok (.if_icmp .ge 35, 3) := by decide +kernel
theorem dX9_findKind_26 : decode cX9_findKind 26 = .ok (.aload_n 0, 1) := by decide +kernel
theorem dX9_findKind_27 : decode cX9_findKind 27 = .ok (.getfield 13, 3) := by decide +kernel
theorem dX9_findKind_30 : decode cX9_findKind 30 = .ok (.iload_n 1, 1) := by decide +kernel
theorem dX9_findKind_31 : decode cX9_findKind 31 = .ok (.baload, 1) := by decide +kernel
theorem dX9_findKind_32 : decode cX9_findKind 32 = .ok (.ifCond .eq 20, 3) := by decide +kernel
theorem dX9_findKind_35 : decode cX9_findKind 35 = .ok (.aload_n 0, 1) := by decide +kernel
theorem dX9_findKind_36 : decode cX9_findKind 36 = .ok (.iload_n 1, 1) := by decide +kernel
theorem dX9_findKind_37 : decode cX9_findKind 37 = .ok (.iconst (-1), 1) := by decide +kernel
theorem dX9_findKind_38 : decode cX9_findKind 38 = .ok (.iconst (-1), 1) := by decide +kernel
theorem dX9_findKind_39 : decode cX9_findKind 39 = .ok (.invokevirtual 181, 3) := by decide +kernel
theorem dX9_findKind_42 : decode cX9_findKind 42 = .ok (.ifCond .eq 10, 3) := by decide +kernel
theorem dX9_findKind_45 : decode cX9_findKind 45 = .ok (.aload_n 0, 1) := by decide +kernel
theorem dX9_findKind_46 : decode cX9_findKind 46 = .ok (.iload_n 1, 1) := by decide +kernel
theorem dX9_findKind_47 : decode cX9_findKind 47 = .ok (.putfield 178, 3) := by decide +kernel
theorem dX9_findKind_50 : decode cX9_findKind 50 = .ok (.iconst 1, 1) := by decide +kernel
theorem dX9_findKind_51 : decode cX9_findKind 51 = .ok (.ireturn, 1) := by decide +kernel
theorem dX9_findKind_52 : decode cX9_findKind 52 = .ok (.iinc 1 1, 3) := by decide +kernel
theorem dX9_findKind_55 : decode cX9_findKind 55 = .ok (.goto (-35), 3) := by decide +kernel
theorem dX9_findKind_58 : decode cX9_findKind 58 = .ok (.iconst 0, 1) := by decide +kernel
theorem dX9_findKind_59 : decode cX9_findKind 59 = .ok (.istore_n 1, 1) := by decide +kernel
theorem dX9_findKind_60 : decode cX9_findKind 60 = .ok (.iload_n 1, 1) := by decide +kernel
theorem dX9_findKind_61 : decode cX9_findKind 61 = .ok (.aload_n 0, 1) := by decide +kernel
theorem dX9_findKind_62 : decode cX9_findKind 62 = .ok (.getfield 104, 3) := by decide +kernel
theorem dX9_findKind_65 : decode cX9_findKind 65 = .ok (.if_icmp .ge 26, 3) := by decide +kernel
theorem dX9_findKind_68 : decode cX9_findKind 68 = .ok (.aload_n 0, 1) := by decide +kernel
theorem dX9_findKind_69 : decode cX9_findKind 69 = .ok (.iconst (-1), 1) := by decide +kernel
theorem dX9_findKind_70 : decode cX9_findKind 70 = .ok (.iload_n 1, 1) := by decide +kernel
theorem dX9_findKind_71 : decode cX9_findKind 71 = .ok (.iconst (-1), 1) := by decide +kernel
theorem dX9_findKind_72 : decode cX9_findKind 72 = .ok (.invokevirtual 181, 3) := by decide +kernel
theorem dX9_findKind_75 : decode cX9_findKind 75 = .ok (.ifCond .eq 10, 3) := by decide +kernel
theorem dX9_findKind_78 : decode cX9_findKind 78 = .ok (.aload_n 0, 1) := by decide +kernel
theorem dX9_findKind_79 : decode cX9_findKind 79 = .ok (.iload_n 1, 1) := by decide +kernel
theorem dX9_findKind_80 : decode cX9_findKind 80 = .ok (.putfield 178, 3) := by decide +kernel
theorem dX9_findKind_83 : decode cX9_findKind 83 = .ok (.iconst 2, 1) := by decide +kernel
theorem dX9_findKind_84 : decode cX9_findKind 84 = .ok (.ireturn, 1) := by decide +kernel
theorem dX9_findKind_85 : decode cX9_findKind 85 = .ok (.iinc 1 1, 3) := by decide +kernel
theorem dX9_findKind_88 : decode cX9_findKind 88 = .ok (.goto (-28), 3) := by decide +kernel
theorem dX9_findKind_91 : decode cX9_findKind 91 = .ok (.iconst 0, 1) := by decide +kernel
theorem dX9_findKind_92 : decode cX9_findKind 92 = .ok (.istore_n 1, 1) := by decide +kernel
theorem dX9_findKind_93 : decode cX9_findKind 93 = .ok (.iload_n 1, 1) := by decide +kernel
theorem dX9_findKind_94 : decode cX9_findKind 94 = .ok (.iconst 2, 1) := by decide +kernel
theorem dX9_findKind_95 : decode cX9_findKind 95 = .ok (.if_icmp .ge 26, 3) := by decide +kernel
theorem dX9_findKind_98 : decode cX9_findKind 98 = .ok (.aload_n 0, 1) := by decide +kernel
theorem dX9_findKind_99 : decode cX9_findKind 99 = .ok (.iconst (-1), 1) := by decide +kernel
theorem dX9_findKind_100 : decode cX9_findKind 100 = .ok (.iconst (-1), 1) := by decide +kernel
theorem dX9_findKind_101 : decode cX9_findKind 101 = .ok (.iload_n 1, 1) := by decide +kernel
theorem dX9_findKind_102 : decode cX9_findKind 102 = .ok (.invokevirtual 181, 3) := by decide +kernel
theorem dX9_findKind_105 : decode cX9_findKind 105 = .ok (.ifCond .eq 10, 3) := by decide +kernel
theorem dX9_findKind_108 : decode cX9_findKind 108 = .ok (.aload_n 0, 1) := by decide +kernel
theorem dX9_findKind_109 : decode cX9_findKind 109 = .ok (.iload_n 1, 1) := by decide +kernel
theorem dX9_findKind_110 : decode cX9_findKind 110 = .ok (.putfield 178, 3) := by decide +kernel
theorem dX9_findKind_113 : decode cX9_findKind 113 = .ok (.iconst 3, 1) := by decide +kernel
theorem dX9_findKind_114 : decode cX9_findKind 114 = .ok (.ireturn, 1) := by decide +kernel
theorem dX9_findKind_115 : decode cX9_findKind 115 = .ok (.iinc 1 1, 3) := by decide +kernel
theorem dX9_findKind_118 : decode cX9_findKind 118 = .ok (.goto (-25), 3) := by decide +kernel
theorem dX9_findKind_121 : decode cX9_findKind 121 = .ok (.bipush (-9), 2) := by decide +kernel
theorem dX9_findKind_123 : decode cX9_findKind 123 = .ok (.ireturn, 1) := by decide +kernel
set_option maxRecDepth 20000 in
theorem ggX9_explained_X9_in : GoodIn wsX9_explained wsX9_in := goodIn_r _ [5] (by decide +kernel) (by decide +kernel)
set_option maxRecDepth 20000 in
theorem gX9_explained_X9_in : GoodIn wsX9_explained (va_wsS RX9 75 yX9_in wsX9_in) := goodIn_app (goodIn_of _ (by decide +kernel)) ggX9_explained_X9_in
set_option maxRecDepth 20000 in
theorem ggX9_explained_X9_refuse : GoodIn wsX9_explained wsX9_refuse := goodIn_r _ [9, 10, 77, 78, 79, 80, 81, 82, 83, 84, 85, 86, 87, 88, 89, 90, 91, 92, 93, 94, 95, 96, 97, 98, 99, 100, 101, 102, 103, 104, 105, 106, 107, 108] (by decide +kernel) (by decide +kernel)
set_option maxRecDepth 20000 in
theorem gX9_explained_X9_refuse : GoodIn wsX9_explained (wsV RX9 79 RX9 yX9_refuse wsX9_refuse) := goodIn_app (goodIn_of _ (by decide +kernel)) ggX9_explained_X9_refuse
set_option maxRecDepth 20000 in
theorem ggX9_explained_X9_areCut : GoodIn wsX9_explained wsX9_areCut := goodIn_r _ [14, 15, 16, 17, 18, 19, 4, 20, 21, 22, 23, 24, 77, 78, 79, 80, 81, 82, 83, 84, 85, 86, 87, 88, 89, 90, 91, 92, 93, 94, 95, 96, 97, 98, 99, 100, 101, 102, 103, 104, 105, 106, 107, 108] (by decide +kernel) (by decide +kernel)
set_option maxRecDepth 20000 in
theorem gX9_explained_X9_areCut : GoodIn wsX9_explained (wsV RX9 142 RX9 yX9_areCut wsX9_areCut) := goodIn_app (goodIn_of _ (by decide +kernel)) ggX9_explained_X9_areCut
set_option maxRecDepth 20000 in
theorem ggX9_explained_X9_findKind : GoodIn wsX9_explained wsX9_findKind := goodIn_r _ [28, 1, 21, 15, 29, 30, 31, 4, 32, 33, 34, 35, 36, 37, 38, 39, 40, 41, 42, 43, 44, 45, 46, 47, 48, 49, 50, 51, 52, 53, 54, 55, 24, 16, 56, 57, 58, 59, 60, 61, 62, 63, 64, 65, 22, 66, 67, 68, 69, 23, 70, 71, 72, 73, 74, 75, 76, 77, 78, 79, 80, 81, 82, 83, 84, 85, 86, 87, 88, 89, 90, 91, 92, 93, 94, 95, 96, 97, 98, 99, 100, 101, 102, 103, 104, 105, 106, 107, 108] (by decide +kernel) (by decide +kernel)
set_option maxRecDepth 20000 in
theorem gX9_explained_X9_findKind : GoodIn wsX9_explained (wsV RX9 184 RX9 yX9_findKind wsX9_findKind) := goodIn_app (goodIn_of _ (by decide +kernel)) ggX9_explained_X9_findKind
theorem dX9_explained_0 : decode cX9_explained 0 = .ok (.iload_n 1, 1) := by decide +kernel
theorem dX9_explained_1 : decode cX9_explained 1 = .ok (.iconst 0, 1) := by decide +kernel
theorem dX9_explained_2 : decode cX9_explained 2 = .ok (.iconst 1, 1) := by decide +kernel
theorem dX9_explained_3 : decode cX9_explained 3 = .ok (.invokestatic 75, 3) := by decide +kernel
theorem dX9_explained_6 : decode cX9_explained 6 = .ok (.ifCond .ne 10, 3) := by decide +kernel
theorem dX9_explained_9 : decode cX9_explained 9 = .ok (.aload_n 0, 1) := by decide +kernel
theorem dX9_explained_10 : decode cX9_explained 10 = .ok (.bipush (-2), 2) := by decide +kernel
theorem dX9_explained_12 : decode cX9_explained 12 = .ok (.invokevirtual 79, 3) := by decide +kernel
theorem dX9_explained_15 : decode cX9_explained 15 = .ok (.ireturn, 1) := by decide +kernel
theorem dX9_explained_16 : decode cX9_explained 16 = .ok (.aload_n 0, 1) := by decide +kernel
theorem dX9_explained_17 : decode cX9_explained 17 = .ok (.invokevirtual 142, 3) := by decide +kernel
theorem dX9_explained_20 : decode cX9_explained 20 = .ok (.ifCond .ne 10, 3) := by decide +kernel
theorem dX9_explained_23 : decode cX9_explained 23 = .ok (.aload_n 0, 1) := by decide +kernel
theorem dX9_explained_24 : decode cX9_explained 24 = .ok (.bipush (-3), 2) := by decide +kernel
theorem dX9_explained_26 : decode cX9_explained 26 = .ok (.invokevirtual 79, 3) := by decide +kernel
theorem dX9_explained_29 : decode cX9_explained 29 = .ok (.ireturn, 1) := by decide +kernel
theorem dX9_explained_30 : decode cX9_explained 30 = .ok (.aload_n 0, 1) := by decide +kernel
theorem dX9_explained_31 : decode cX9_explained 31 = .ok (.invokevirtual 184, 3) := by decide +kernel
theorem dX9_explained_34 : decode cX9_explained 34 = .ok (.istore_n 2, 1) := by decide +kernel
theorem dX9_explained_35 : decode cX9_explained 35 = .ok (.iload_n 1, 1) := by decide +kernel
theorem dX9_explained_36 : decode cX9_explained 36 = .ok (.ifCond .ne 7, 3) := by decide +kernel
theorem dX9_explained_39 : decode cX9_explained 39 = .ok (.iload_n 2, 1) := by decide +kernel
theorem dX9_explained_40 : decode cX9_explained 40 = .ok (.goto 7, 3) := by decide +kernel
theorem dX9_explained_43 : decode cX9_explained 43 = .ok (.aload_n 0, 1) := by decide +kernel
theorem dX9_explained_44 : decode cX9_explained 44 = .ok (.getfield 178, 3) := by decide +kernel
theorem dX9_explained_47 : decode cX9_explained 47 = .ok (.ireturn, 1) := by decide +kernel
theorem dX9_timesIn_0 : decode cX9_timesIn 0 = .ok (.iconst 0, 1) := by decide +kernel
theorem dX9_timesIn_1 : decode cX9_timesIn 1 = .ok (.istore_n 3, 1) := by decide +kernel
theorem dX9_timesIn_2 : decode cX9_timesIn 2 = .ok (.iconst 0, 1) := by decide +kernel
theorem dX9_timesIn_3 : decode cX9_timesIn 3 = .ok (.istore 4, 2) := by decide +kernel
theorem dX9_timesIn_5 : decode cX9_timesIn 5 = .ok (.iload 4, 2) := by decide +kernel
theorem dX9_timesIn_7 : decode cX9_timesIn 7 = .ok (.aload_n 0, 1) := by decide +kernel
theorem dX9_timesIn_8 : decode cX9_timesIn 8 = .ok (.getfield 7, 3) := by decide +kernel
theorem dX9_timesIn_11 : decode cX9_timesIn 11 = .ok (.if_icmp .ge 33, 3) := by decide +kernel
theorem dX9_timesIn_14 : decode cX9_timesIn 14 = .ok (.iload_n 3, 1) := by decide +kernel
theorem dX9_timesIn_15 : decode cX9_timesIn 15 = .ok (.aload_n 0, 1) := by decide +kernel
theorem dX9_timesIn_16 : decode cX9_timesIn 16 = .ok (.getfield 17, 3) := by decide +kernel
theorem dX9_timesIn_19 : decode cX9_timesIn 19 = .ok (.bipush 16, 2) := by decide +kernel
theorem dX9_timesIn_21 : decode cX9_timesIn 21 = .ok (.iload_n 1, 1) := by decide +kernel
theorem dX9_timesIn_22 : decode cX9_timesIn 22 = .ok (.imul, 1) := by decide +kernel
theorem dX9_timesIn_23 : decode cX9_timesIn 23 = .ok (.iload 4, 2) := by decide +kernel
theorem dX9_timesIn_25 : decode cX9_timesIn 25 = .ok (.iadd, 1) := by decide +kernel
theorem dX9_timesIn_26 : decode cX9_timesIn 26 = .ok (.iaload, 1) := by decide +kernel
theorem dX9_timesIn_27 : decode cX9_timesIn 27 = .ok (.iload_n 2, 1) := by decide +kernel
theorem dX9_timesIn_28 : decode cX9_timesIn 28 = .ok (.if_icmp .ne 7, 3) := by decide +kernel
theorem dX9_timesIn_31 : decode cX9_timesIn 31 = .ok (.iconst 1, 1) := by decide +kernel
theorem dX9_timesIn_32 : decode cX9_timesIn 32 = .ok (.goto 4, 3) := by decide +kernel
theorem dX9_timesIn_35 : decode cX9_timesIn 35 = .ok (.iconst 0, 1) := by decide +kernel
theorem dX9_timesIn_36 : decode cX9_timesIn 36 = .ok (.iadd, 1) := by decide +kernel
theorem dX9_timesIn_37 : decode cX9_timesIn 37 = .ok (.istore_n 3, 1) := by decide +kernel
theorem dX9_timesIn_38 : decode cX9_timesIn 38 = .ok (.iinc 4 1, 3) := by decide +kernel
theorem dX9_timesIn_41 : decode cX9_timesIn 41 = .ok (.goto (-36), 3) := by decide +kernel
theorem dX9_timesIn_44 : decode cX9_timesIn 44 = .ok (.iload_n 3, 1) := by decide +kernel
theorem dX9_timesIn_45 : decode cX9_timesIn 45 = .ok (.ireturn, 1) := by decide +kernel
set_option maxRecDepth 20000 in
theorem ggX9_made_X9_isCam : GoodIn wsX9_made wsX9_isCam := goodIn_r _ [8, 9, 10, 7, 11] (by decide +kernel) (by decide +kernel)
set_option maxRecDepth 20000 in
theorem gX9_made_X9_isCam : GoodIn wsX9_made (va_wsS RX9 83 yX9_isCam wsX9_isCam) := goodIn_app (goodIn_of _ (by decide +kernel)) ggX9_made_X9_isCam
set_option maxRecDepth 20000 in
theorem ggX9_made_X9_in : GoodIn wsX9_made wsX9_in := goodIn_r _ [11] (by decide +kernel) (by decide +kernel)
set_option maxRecDepth 20000 in
theorem gX9_made_X9_in : GoodIn wsX9_made (va_wsS RX9 75 yX9_in wsX9_in) := goodIn_app (goodIn_of _ (by decide +kernel)) ggX9_made_X9_in
set_option maxRecDepth 20000 in
theorem ggX9_made_X9_refuse : GoodIn wsX9_made wsX9_refuse := goodIn_r _ [15, 16, 22, 23, 24, 25, 26, 27, 28, 29, 30, 31, 32, 33, 34, 35, 36, 37, 38, 39, 40, 41, 42, 43, 44, 45, 46, 47, 48, 49, 50, 51, 52, 53] (by decide +kernel) (by decide +kernel)
set_option maxRecDepth 20000 in
theorem gX9_made_X9_refuse : GoodIn wsX9_made (wsV RX9 79 RX9 yX9_refuse wsX9_refuse) := goodIn_app (goodIn_of _ (by decide +kernel)) ggX9_made_X9_refuse
set_option maxRecDepth 20000 in
theorem ggX9_made_X9_timesIn : GoodIn wsX9_made wsX9_timesIn := goodIn_r _ [20, 3, 21, 22, 23, 24, 25, 26, 27, 28, 29, 30, 31, 32, 33, 34, 35, 36, 37, 38, 39, 40, 41, 42, 43, 44, 45, 46, 47, 48, 49, 50, 51, 52, 53] (by decide +kernel) (by decide +kernel)
set_option maxRecDepth 20000 in
theorem gX9_made_X9_timesIn : GoodIn wsX9_made (wsV RX9 187 RX9 yX9_timesIn wsX9_timesIn) := goodIn_app (goodIn_of _ (by decide +kernel)) ggX9_made_X9_timesIn
theorem dX9_made_0 : decode cX9_made 0 = .ok (.iload_n 1, 1) := by decide +kernel
theorem dX9_made_1 : decode cX9_made 1 = .ok (.invokestatic 83, 3) := by decide +kernel
theorem dX9_made_4 : decode cX9_made 4 = .ok (.ifCond .eq 12, 3) := by decide +kernel
theorem dX9_made_7 : decode cX9_made 7 = .ok (.iload_n 2, 1) := by decide +kernel
theorem dX9_made_8 : decode cX9_made 8 = .ok (.iconst 0, 1) := by decide +kernel
theorem dX9_made_9 : decode cX9_made 9 = .ok (.iconst 3, 1) := by decide +kernel
theorem dX9_made_10 : decode cX9_made 10 = .ok (.invokestatic 75, 3) := by decide +kernel
theorem dX9_made_13 : decode cX9_made 13 = .ok (.ifCond .ne 9, 3) := by decide +kernel
theorem dX9_made_16 : decode cX9_made 16 = .ok (.aload_n 0, 1) := by decide +kernel
theorem dX9_made_17 : decode cX9_made 17 = .ok (.iconst (-1), 1) := by decide +kernel
theorem dX9_made_18 : decode cX9_made 18 = .ok (.invokevirtual 79, 3) := by decide +kernel
theorem dX9_made_21 : decode cX9_made 21 = .ok (.ireturn, 1) := by decide +kernel
theorem dX9_made_22 : decode cX9_made 22 = .ok (.aload_n 0, 1) := by decide +kernel
theorem dX9_made_23 : decode cX9_made 23 = .ok (.getfield 13, 3) := by decide +kernel
theorem dX9_made_26 : decode cX9_made 26 = .ok (.iload_n 1, 1) := by decide +kernel
theorem dX9_made_27 : decode cX9_made 27 = .ok (.baload, 1) := by decide +kernel
theorem dX9_made_28 : decode cX9_made 28 = .ok (.ifCond .ne 10, 3) := by decide +kernel
theorem dX9_made_31 : decode cX9_made 31 = .ok (.aload_n 0, 1) := by decide +kernel
theorem dX9_made_32 : decode cX9_made 32 = .ok (.bipush (-5), 2) := by decide +kernel
theorem dX9_made_34 : decode cX9_made 34 = .ok (.invokevirtual 79, 3) := by decide +kernel
theorem dX9_made_37 : decode cX9_made 37 = .ok (.ireturn, 1) := by decide +kernel
theorem dX9_made_38 : decode cX9_made 38 = .ok (.aload_n 0, 1) := by decide +kernel
theorem dX9_made_39 : decode cX9_made 39 = .ok (.getfield 51, 3) := by decide +kernel
theorem dX9_made_42 : decode cX9_made 42 = .ok (.iload_n 2, 1) := by decide +kernel
theorem dX9_made_43 : decode cX9_made 43 = .ok (.iaload, 1) := by decide +kernel
theorem dX9_made_44 : decode cX9_made 44 = .ok (.aload_n 0, 1) := by decide +kernel
theorem dX9_made_45 : decode cX9_made 45 = .ok (.getfield 7, 3) := by decide +kernel
theorem dX9_made_48 : decode cX9_made 48 = .ok (.iadd, 1) := by decide +kernel
theorem dX9_made_49 : decode cX9_made 49 = .ok (.sipush 1000, 3) := by decide +kernel
theorem dX9_made_52 : decode cX9_made 52 = .ok (.if_icmp .le 10, 3) := by decide +kernel
theorem dX9_made_55 : decode cX9_made 55 = .ok (.aload_n 0, 1) := by decide +kernel
theorem dX9_made_56 : decode cX9_made 56 = .ok (.bipush (-6), 2) := by decide +kernel
theorem dX9_made_58 : decode cX9_made 58 = .ok (.invokevirtual 79, 3) := by decide +kernel
theorem dX9_made_61 : decode cX9_made 61 = .ok (.ireturn, 1) := by decide +kernel
theorem dX9_made_62 : decode cX9_made 62 = .ok (.iconst 0, 1) := by decide +kernel
theorem dX9_made_63 : decode cX9_made 63 = .ok (.istore_n 3, 1) := by decide +kernel
theorem dX9_made_64 : decode cX9_made 64 = .ok (.iload_n 3, 1) := by decide +kernel
theorem dX9_made_65 : decode cX9_made 65 = .ok (.bipush 10, 2) := by decide +kernel
theorem dX9_made_67 : decode cX9_made 67 = .ok (.if_icmp .ge 29, 3) := by decide +kernel
theorem dX9_made_70 : decode cX9_made 70 = .ok (.aload_n 0, 1) := by decide +kernel
theorem dX9_made_71 : decode cX9_made 71 = .ok (.getfield 48, 3) := by decide +kernel
theorem dX9_made_74 : decode cX9_made 74 = .ok (.bipush 10, 2) := by decide +kernel
theorem dX9_made_76 : decode cX9_made 76 = .ok (.iload_n 2, 1) := by decide +kernel
theorem dX9_made_77 : decode cX9_made 77 = .ok (.imul, 1) := by decide +kernel
theorem dX9_made_78 : decode cX9_made 78 = .ok (.iload_n 3, 1) := by decide +kernel
theorem dX9_made_79 : decode cX9_made 79 = .ok (.iadd, 1) := by decide +kernel
theorem dX9_made_80 : decode cX9_made 80 = .ok (.dup2, 1) := by decide +kernel
theorem dX9_made_81 : decode cX9_made 81 = .ok (.iaload, 1) := by decide +kernel
theorem dX9_made_82 : decode cX9_made 82 = .ok (.aload_n 0, 1) := by decide +kernel
theorem dX9_made_83 : decode cX9_made 83 = .ok (.iload_n 1, 1) := by decide +kernel
theorem dX9_made_84 : decode cX9_made 84 = .ok (.iload_n 3, 1) := by decide +kernel
theorem dX9_made_85 : decode cX9_made 85 = .ok (.invokevirtual 187, 3) := by decide +kernel
theorem dX9_made_88 : decode cX9_made 88 = .ok (.iadd, 1) := by decide +kernel
theorem dX9_made_89 : decode cX9_made 89 = .ok (.iastore, 1) := by decide +kernel
theorem dX9_made_90 : decode cX9_made 90 = .ok (.iinc 3 1, 3) := by decide +kernel
theorem dX9_made_93 : decode cX9_made 93 = .ok (.goto (-29), 3) := by decide +kernel
theorem dX9_made_96 : decode cX9_made 96 = .ok (.aload_n 0, 1) := by decide +kernel
theorem dX9_made_97 : decode cX9_made 97 = .ok (.getfield 51, 3) := by decide +kernel
theorem dX9_made_100 : decode cX9_made 100 = .ok (.iload_n 2, 1) := by decide +kernel
theorem dX9_made_101 : decode cX9_made 101 = .ok (.dup2, 1) := by decide +kernel
theorem dX9_made_102 : decode cX9_made 102 = .ok (.iaload, 1) := by decide +kernel
theorem dX9_made_103 : decode cX9_made 103 = .ok (.aload_n 0, 1) := by decide +kernel
theorem dX9_made_104 : decode cX9_made 104 = .ok (.getfield 7, 3) := by decide +kernel
theorem dX9_made_107 : decode cX9_made 107 = .ok (.iadd, 1) := by decide +kernel
theorem dX9_made_108 : decode cX9_made 108 = .ok (.iastore, 1) := by decide +kernel
theorem dX9_made_109 : decode cX9_made 109 = .ok (.aload_n 0, 1) := by decide +kernel
theorem dX9_made_110 : decode cX9_made 110 = .ok (.getfield 51, 3) := by decide +kernel
theorem dX9_made_113 : decode cX9_made 113 = .ok (.iload_n 2, 1) := by decide +kernel
theorem dX9_made_114 : decode cX9_made 114 = .ok (.iaload, 1) := by decide +kernel
theorem dX9_made_115 : decode cX9_made 115 = .ok (.ireturn, 1) := by decide +kernel
set_option maxRecDepth 20000 in
theorem ggX9_likeness_X9_timesIn : GoodIn wsX9_likeness wsX9_timesIn := goodIn_r _ [8, 3, 9, 10, 11, 12, 13, 14, 15, 16, 17, 18, 19, 20, 21, 22, 23, 24, 25, 26, 27, 28, 29, 30, 31, 32, 33, 34, 35, 36, 37, 38, 39, 40, 41] (by decide +kernel) (by decide +kernel)
set_option maxRecDepth 20000 in
theorem gX9_likeness_X9_timesIn : GoodIn wsX9_likeness (wsV RX9 187 RX9 yX9_timesIn wsX9_timesIn) := goodIn_app (goodIn_of _ (by decide +kernel)) ggX9_likeness_X9_timesIn
theorem dX9_likeness_0 : decode cX9_likeness 0 = .ok (.iconst 0, 1) := by decide +kernel
theorem dX9_likeness_1 : decode cX9_likeness 1 = .ok (.istore_n 3, 1) := by decide +kernel
theorem dX9_likeness_2 : decode cX9_likeness 2 = .ok (.iconst 0, 1) := by decide +kernel
theorem dX9_likeness_3 : decode cX9_likeness 3 = .ok (.istore 4, 2) := by decide +kernel
theorem dX9_likeness_5 : decode cX9_likeness 5 = .ok (.iload 4, 2) := by decide +kernel
theorem dX9_likeness_7 : decode cX9_likeness 7 = .ok (.bipush 10, 2) := by decide +kernel
theorem dX9_likeness_9 : decode cX9_likeness 9 = .ok (.if_icmp .ge 59, 3) := by decide +kernel
theorem dX9_likeness_12 : decode cX9_likeness 12 = .ok (.aload_n 0, 1) := by decide +kernel
theorem dX9_likeness_13 : decode cX9_likeness 13 = .ok (.iload_n 1, 1) := by decide +kernel
theorem dX9_likeness_14 : decode cX9_likeness 14 = .ok (.iload 4, 2) := by decide +kernel
theorem dX9_likeness_16 : decode cX9_likeness 16 = .ok (.invokevirtual 187, 3) := by decide +kernel
theorem dX9_likeness_19 : decode cX9_likeness 19 = .ok (.aload_n 0, 1) := by decide +kernel
theorem dX9_likeness_20 : decode cX9_likeness 20 = .ok (.getfield 51, 3) := by decide +kernel
theorem dX9_likeness_23 : decode cX9_likeness 23 = .ok (.iload_n 2, 1) := by decide +kernel
theorem dX9_likeness_24 : decode cX9_likeness 24 = .ok (.iaload, 1) := by decide +kernel
theorem dX9_likeness_25 : decode cX9_likeness 25 = .ok (.imul, 1) := by decide +kernel
theorem dX9_likeness_26 : decode cX9_likeness 26 = .ok (.aload_n 0, 1) := by decide +kernel
theorem dX9_likeness_27 : decode cX9_likeness 27 = .ok (.getfield 48, 3) := by decide +kernel
theorem dX9_likeness_30 : decode cX9_likeness 30 = .ok (.bipush 10, 2) := by decide +kernel
theorem dX9_likeness_32 : decode cX9_likeness 32 = .ok (.iload_n 2, 1) := by decide +kernel
theorem dX9_likeness_33 : decode cX9_likeness 33 = .ok (.imul, 1) := by decide +kernel
theorem dX9_likeness_34 : decode cX9_likeness 34 = .ok (.iload 4, 2) := by decide +kernel
theorem dX9_likeness_36 : decode cX9_likeness 36 = .ok (.iadd, 1) := by decide +kernel
theorem dX9_likeness_37 : decode cX9_likeness 37 = .ok (.iaload, 1) := by decide +kernel
theorem dX9_likeness_38 : decode cX9_likeness 38 = .ok (.aload_n 0, 1) := by decide +kernel
theorem dX9_likeness_39 : decode cX9_likeness 39 = .ok (.getfield 7, 3) := by decide +kernel
theorem dX9_likeness_42 : decode cX9_likeness 42 = .ok (.imul, 1) := by decide +kernel
theorem dX9_likeness_43 : decode cX9_likeness 43 = .ok (.isub, 1) := by decide +kernel
theorem dX9_likeness_44 : decode cX9_likeness 44 = .ok (.istore 5, 2) := by decide +kernel
theorem dX9_likeness_46 : decode cX9_likeness 46 = .ok (.iload_n 3, 1) := by decide +kernel
theorem dX9_likeness_47 : decode cX9_likeness 47 = .ok (.iload 5, 2) := by decide +kernel
theorem dX9_likeness_49 : decode cX9_likeness 49 = .ok (.ifCond .ge 9, 3) := by decide +kernel
theorem dX9_likeness_52 : decode cX9_likeness 52 = .ok (.iload 5, 2) := by decide +kernel
theorem dX9_likeness_54 : decode cX9_likeness 54 = .ok (.ineg, 1) := by decide +kernel
theorem dX9_likeness_55 : decode cX9_likeness 55 = .ok (.goto 5, 3) := by decide +kernel
theorem dX9_likeness_58 : decode cX9_likeness 58 = .ok (.iload 5, 2) := by decide +kernel
theorem dX9_likeness_60 : decode cX9_likeness 60 = .ok (.iadd, 1) := by decide +kernel
theorem dX9_likeness_61 : decode cX9_likeness 61 = .ok (.istore_n 3, 1) := by decide +kernel
theorem dX9_likeness_62 : decode cX9_likeness 62 = .ok (.iinc 4 1, 3) := by decide +kernel
theorem dX9_likeness_65 : decode cX9_likeness 65 = .ok (.goto (-60), 3) := by decide +kernel
theorem dX9_likeness_68 : decode cX9_likeness 68 = .ok (.iload_n 3, 1) := by decide +kernel
theorem dX9_likeness_69 : decode cX9_likeness 69 = .ok (.ireturn, 1) := by decide +kernel
set_option maxRecDepth 20000 in
theorem ggX9_like_X9_isCam : GoodIn wsX9_like wsX9_isCam := goodIn_r _ [6, 7, 8, 5, 9] (by decide +kernel) (by decide +kernel)
set_option maxRecDepth 20000 in
theorem gX9_like_X9_isCam : GoodIn wsX9_like (va_wsS RX9 83 yX9_isCam wsX9_isCam) := goodIn_app (goodIn_of _ (by decide +kernel)) ggX9_like_X9_isCam
set_option maxRecDepth 20000 in
theorem ggX9_like_X9_in : GoodIn wsX9_like wsX9_in := goodIn_r _ [9] (by decide +kernel) (by decide +kernel)
set_option maxRecDepth 20000 in
theorem gX9_like_X9_in : GoodIn wsX9_like (va_wsS RX9 75 yX9_in wsX9_in) := goodIn_app (goodIn_of _ (by decide +kernel)) ggX9_like_X9_in
set_option maxRecDepth 20000 in
theorem ggX9_like_X9_refuse : GoodIn wsX9_like wsX9_refuse := goodIn_r _ [13, 14, 26, 27, 28, 29, 30, 31, 32, 33, 34, 35, 36, 37, 38, 39, 40, 41, 42, 43, 44, 45, 46, 47, 48, 49, 50, 51, 52, 53, 54, 55, 56, 57] (by decide +kernel) (by decide +kernel)
set_option maxRecDepth 20000 in
theorem gX9_like_X9_refuse : GoodIn wsX9_like (wsV RX9 79 RX9 yX9_refuse wsX9_refuse) := goodIn_app (goodIn_of _ (by decide +kernel)) ggX9_like_X9_refuse
set_option maxRecDepth 20000 in
theorem ggX9_like_X9_likeness : GoodIn wsX9_like wsX9_likeness := goodIn_r _ [18, 2, 19, 20, 21, 22, 23, 5, 24, 25, 26, 27, 28, 29, 30, 31, 32, 33, 34, 35, 36, 37, 38, 39, 40, 41, 42, 43, 44, 45, 46, 47, 48, 49, 50, 51, 52, 53, 54, 55, 56, 57] (by decide +kernel) (by decide +kernel)
set_option maxRecDepth 20000 in
theorem gX9_like_X9_likeness : GoodIn wsX9_like (wsV RX9 190 RX9 yX9_likeness wsX9_likeness) := goodIn_app (goodIn_of _ (by decide +kernel)) ggX9_like_X9_likeness
theorem dX9_like_0 : decode cX9_like 0 = .ok (.iload_n 1, 1) := by decide +kernel
theorem dX9_like_1 : decode cX9_like 1 = .ok (.invokestatic 83, 3) := by decide +kernel
theorem dX9_like_4 : decode cX9_like 4 = .ok (.ifCond .eq 12, 3) := by decide +kernel
theorem dX9_like_7 : decode cX9_like 7 = .ok (.iload_n 2, 1) := by decide +kernel
theorem dX9_like_8 : decode cX9_like 8 = .ok (.iconst 0, 1) := by decide +kernel
theorem dX9_like_9 : decode cX9_like 9 = .ok (.iconst 3, 1) := by decide +kernel
theorem dX9_like_10 : decode cX9_like 10 = .ok (.invokestatic 75, 3) := by decide +kernel
theorem dX9_like_13 : decode cX9_like 13 = .ok (.ifCond .ne 9, 3) := by decide +kernel
theorem dX9_like_16 : decode cX9_like 16 = .ok (.aload_n 0, 1) := by decide +kernel
theorem dX9_like_17 : decode cX9_like 17 = .ok (.iconst (-1), 1) := by decide +kernel
theorem dX9_like_18 : decode cX9_like 18 = .ok (.invokevirtual 79, 3) := by decide +kernel
theorem dX9_like_21 : decode cX9_like 21 = .ok (.ireturn, 1) := by decide +kernel
theorem dX9_like_22 : decode cX9_like 22 = .ok (.aload_n 0, 1) := by decide +kernel
theorem dX9_like_23 : decode cX9_like 23 = .ok (.getfield 13, 3) := by decide +kernel
theorem dX9_like_26 : decode cX9_like 26 = .ok (.iload_n 1, 1) := by decide +kernel
theorem dX9_like_27 : decode cX9_like 27 = .ok (.baload, 1) := by decide +kernel
theorem dX9_like_28 : decode cX9_like 28 = .ok (.ifCond .ne 10, 3) := by decide +kernel
theorem dX9_like_31 : decode cX9_like 31 = .ok (.aload_n 0, 1) := by decide +kernel
theorem dX9_like_32 : decode cX9_like 32 = .ok (.bipush (-5), 2) := by decide +kernel
theorem dX9_like_34 : decode cX9_like 34 = .ok (.invokevirtual 79, 3) := by decide +kernel
theorem dX9_like_37 : decode cX9_like 37 = .ok (.ireturn, 1) := by decide +kernel
theorem dX9_like_38 : decode cX9_like 38 = .ok (.aload_n 0, 1) := by decide +kernel
theorem dX9_like_39 : decode cX9_like 39 = .ok (.getfield 51, 3) := by decide +kernel
theorem dX9_like_42 : decode cX9_like 42 = .ok (.iload_n 2, 1) := by decide +kernel
theorem dX9_like_43 : decode cX9_like 43 = .ok (.iaload, 1) := by decide +kernel
theorem dX9_like_44 : decode cX9_like 44 = .ok (.ifCond .ne 12, 3) := by decide +kernel
theorem dX9_like_47 : decode cX9_like 47 = .ok (.aload_n 0, 1) := by decide +kernel
theorem dX9_like_48 : decode cX9_like 48 = .ok (.bipush (-3), 2) := by decide +kernel
theorem dX9_like_50 : decode cX9_like 50 = .ok (.invokevirtual 79, 3) := by decide +kernel
theorem dX9_like_53 : decode cX9_like 53 = .ok (.goto 9, 3) := by decide +kernel
theorem dX9_like_56 : decode cX9_like 56 = .ok (.aload_n 0, 1) := by decide +kernel
theorem dX9_like_57 : decode cX9_like 57 = .ok (.iload_n 1, 1) := by decide +kernel
theorem dX9_like_58 : decode cX9_like 58 = .ok (.iload_n 2, 1) := by decide +kernel
theorem dX9_like_59 : decode cX9_like 59 = .ok (.invokevirtual 190, 3) := by decide +kernel
theorem dX9_like_62 : decode cX9_like 62 = .ok (.ireturn, 1) := by decide +kernel
set_option maxRecDepth 20000 in
theorem ggX9_whose_X9_lacks : GoodIn wsX9_whose wsX9_lacks := goodIn_r _ [6, 7, 8, 9, 5, 10, 11, 12, 13, 30, 31, 32, 33, 34, 35, 36, 37, 38, 39, 40, 41, 42, 43, 44, 45, 46, 47, 48, 49, 50, 51, 52, 53, 54, 55, 56, 57, 58, 59, 60, 61] (by decide +kernel) (by decide +kernel)
set_option maxRecDepth 20000 in
theorem gX9_whose_X9_lacks : GoodIn wsX9_whose (wsV RX9 87 RX9 yX9_lacks wsX9_lacks) := goodIn_app (goodIn_of _ (by decide +kernel)) ggX9_whose_X9_lacks
set_option maxRecDepth 20000 in
theorem ggX9_whose_X9_refuse : GoodIn wsX9_whose wsX9_refuse := goodIn_r _ [17, 18, 30, 31, 32, 33, 34, 35, 36, 37, 38, 39, 40, 41, 42, 43, 44, 45, 46, 47, 48, 49, 50, 51, 52, 53, 54, 55, 56, 57, 58, 59, 60, 61] (by decide +kernel) (by decide +kernel)
set_option maxRecDepth 20000 in
theorem gX9_whose_X9_refuse : GoodIn wsX9_whose (wsV RX9 79 RX9 yX9_refuse wsX9_refuse) := goodIn_app (goodIn_of _ (by decide +kernel)) ggX9_whose_X9_refuse
set_option maxRecDepth 20000 in
theorem ggX9_whose_X9_likeness : GoodIn wsX9_whose wsX9_likeness := goodIn_r _ [22, 1, 23, 24, 25, 26, 27, 5, 28, 29, 30, 31, 32, 33, 34, 35, 36, 37, 38, 39, 40, 41, 42, 43, 44, 45, 46, 47, 48, 49, 50, 51, 52, 53, 54, 55, 56, 57, 58, 59, 60, 61] (by decide +kernel) (by decide +kernel)
set_option maxRecDepth 20000 in
theorem gX9_whose_X9_likeness : GoodIn wsX9_whose (wsV RX9 190 RX9 yX9_likeness wsX9_likeness) := goodIn_app (goodIn_of _ (by decide +kernel)) ggX9_whose_X9_likeness
theorem dX9_whose_0 : decode cX9_whose 0 = .ok (.aload_n 0, 1) := by decide +kernel
theorem dX9_whose_1 : decode cX9_whose 1 = .ok (.iload_n 1, 1) := by decide +kernel
theorem dX9_whose_2 : decode cX9_whose 2 = .ok (.invokevirtual 87, 3) := by decide +kernel
theorem dX9_whose_5 : decode cX9_whose 5 = .ok (.istore_n 2, 1) := by decide +kernel
theorem dX9_whose_6 : decode cX9_whose 6 = .ok (.iload_n 2, 1) := by decide +kernel
theorem dX9_whose_7 : decode cX9_whose 7 = .ok (.ifCond .ge 9, 3) := by decide +kernel
theorem dX9_whose_10 : decode cX9_whose 10 = .ok (.aload_n 0, 1) := by decide +kernel
theorem dX9_whose_11 : decode cX9_whose 11 = .ok (.iload_n 2, 1) := by decide +kernel
theorem dX9_whose_12 : decode cX9_whose 12 = .ok (.invokevirtual 79, 3) := by decide +kernel
theorem dX9_whose_15 : decode cX9_whose 15 = .ok (.ireturn, 1) := by decide +kernel
theorem dX9_whose_16 : decode cX9_whose 16 = .ok (.bipush (-9), 2) := by decide +kernel
theorem dX9_whose_18 : decode cX9_whose 18 = .ok (.istore_n 3, 1) := by decide +kernel
theorem dX9_whose_19 : decode cX9_whose 19 = .ok (.iconst 0, 1) := by decide +kernel
theorem dX9_whose_20 : decode cX9_whose 20 = .ok (.istore 4, 2) := by decide +kernel
theorem dX9_whose_22 : decode cX9_whose 22 = .ok (.iload 4, 2) := by decide +kernel
theorem dX9_whose_24 : decode cX9_whose 24 = .ok (.iconst 4, 1) := by decide +kernel
theorem dX9_whose_25 : decode cX9_whose 25 = .ok (.if_icmp .ge 62, 3) := by decide +kernel
theorem dX9_whose_28 : decode cX9_whose 28 = .ok (.aload_n 0, 1) := by decide +kernel
theorem dX9_whose_29 : decode cX9_whose 29 = .ok (.getfield 51, 3) := by decide +kernel
theorem dX9_whose_32 : decode cX9_whose 32 = .ok (.iload 4, 2) := by decide +kernel
theorem dX9_whose_34 : decode cX9_whose 34 = .ok (.iaload, 1) := by decide +kernel
theorem dX9_whose_35 : decode cX9_whose 35 = .ok (.ifCond .le 46, 3) := by decide +kernel
theorem dX9_whose_38 : decode cX9_whose 38 = .ok (.iload_n 3, 1) := by decide +kernel
theorem dX9_whose_39 : decode cX9_whose 39 = .ok (.ifCond .lt 39, 3) := by decide +kernel
theorem dX9_whose_42 : decode cX9_whose 42 = .ok (.aload_n 0, 1) := by decide +kernel
theorem dX9_whose_43 : decode cX9_whose 43 = .ok (.iload_n 1, 1) := by decide +kernel
theorem dX9_whose_44 : decode cX9_whose 44 = .ok (.iload 4, 2) := by decide +kernel
theorem dX9_whose_46 : decode cX9_whose 46 = .ok (.invokevirtual 190, 3) := by decide +kernel
theorem dX9_whose_49 : decode cX9_whose 49 = .ok (.i2l, 1) := by decide +kernel
theorem dX9_whose_50 : decode cX9_whose 50 = .ok (.aload_n 0, 1) := by decide +kernel
theorem dX9_whose_51 : decode cX9_whose 51 = .ok (.getfield 51, 3) := by decide +kernel
theorem dX9_whose_54 : decode cX9_whose 54 = .ok (.iload_n 3, 1) := by decide +kernel
theorem dX9_whose_55 : decode cX9_whose 55 = .ok (.iaload, 1) := by decide +kernel
theorem dX9_whose_56 : decode cX9_whose 56 = .ok (.i2l, 1) := by decide +kernel
theorem dX9_whose_57 : decode cX9_whose 57 = .ok (.lmul, 1) := by decide +kernel
theorem dX9_whose_58 : decode cX9_whose 58 = .ok (.aload_n 0, 1) := by decide +kernel
theorem dX9_whose_59 : decode cX9_whose 59 = .ok (.iload_n 1, 1) := by decide +kernel
theorem dX9_whose_60 : decode cX9_whose 60 = .ok (.iload_n 3, 1) := by decide +kernel
theorem dX9_whose_61 : decode cX9_whose 61 = .ok (.invokevirtual 190, 3) := by decide +kernel
theorem dX9_whose_64 : decode cX9_whose 64 = .ok (.i2l, 1) := by decide +kernel
theorem dX9_whose_65 : decode cX9_whose 65 = .ok (.aload_n 0, 1) := by decide +kernel
theorem dX9_whose_66 : decode cX9_whose 66 = .ok (.getfield 51, 3) := by decide +kernel
theorem dX9_whose_69 : decode cX9_whose 69 = .ok (.iload 4, 2) := by decide +kernel
theorem dX9_whose_71 : decode cX9_whose 71 = .ok (.iaload, 1) := by decide +kernel
theorem dX9_whose_72 : decode cX9_whose 72 = .ok (.i2l, 1) := by decide +kernel
theorem dX9_whose_73 : decode cX9_whose 73 = .ok (.lmul, 1) := by decide +kernel
theorem dX9_whose_74 : decode cX9_whose 74 = .ok (.lcmp, 1) := by decide +kernel
theorem dX9_whose_75 : decode cX9_whose 75 = .ok (.ifCond .ge 6, 3) := by decide +kernel
theorem dX9_whose_78 : decode cX9_whose 78 = .ok (.iload 4, 2) := by decide +kernel
theorem dX9_whose_80 : decode cX9_whose 80 = .ok (.istore_n 3, 1) := by decide +kernel
theorem dX9_whose_81 : decode cX9_whose 81 = .ok (.iinc 4 1, 3) := by decide +kernel
theorem dX9_whose_84 : decode cX9_whose 84 = .ok (.goto (-62), 3) := by decide +kernel
theorem dX9_whose_87 : decode cX9_whose 87 = .ok (.iload_n 3, 1) := by decide +kernel
theorem dX9_whose_88 : decode cX9_whose 88 = .ok (.ireturn, 1) := by decide +kernel
set_option maxRecDepth 20000 in
theorem ggX9_count_X9_faultMany : GoodIn wsX9_count wsX9_faultMany := goodIn_r _ [16, 17, 21, 22, 23, 24, 25, 26, 27, 28, 29, 30, 31, 32, 33, 34, 35, 36, 37, 38, 39, 40, 41, 42, 43, 44, 45, 46, 47, 48, 49, 50, 51, 52] (by decide +kernel) (by decide +kernel)
set_option maxRecDepth 20000 in
theorem gX9_count_X9_faultMany : GoodIn wsX9_count (wsV RX9 175 RX9 yX9_faultMany wsX9_faultMany) := goodIn_app (goodIn_of _ (by decide +kernel)) ggX9_count_X9_faultMany
set_option maxRecDepth 20000 in
theorem ggX9_count_X9_in : GoodIn wsX9_count wsX9_in := goodIn_r _ [20] (by decide +kernel) (by decide +kernel)
set_option maxRecDepth 20000 in
theorem gX9_count_X9_in : GoodIn wsX9_count (va_wsS RX9 75 yX9_in wsX9_in) := goodIn_app (goodIn_of _ (by decide +kernel)) ggX9_count_X9_in
theorem dX9_count_0 : decode cX9_count 0 = .ok (.iconst 0, 1) := by decide +kernel
theorem dX9_count_1 : decode cX9_count 1 = .ok (.istore_n 2, 1) := by decide +kernel
theorem dX9_count_2 : decode cX9_count 2 = .ok (.iload_n 1, 1) := by decide +kernel
theorem dX9_count_3 : decode cX9_count 3 = .ok (.tableswitch 140 0 10 #[57, 62, 95, 100, 105, 110, 115, 120, 125, 130, 135], 57) := by decide +kernel
theorem dX9_count_60 : decode cX9_count 60 = .ok (.aload_n 0, 1) := by decide +kernel
theorem dX9_count_61 : decode cX9_count 61 = .ok (.getfield 7, 3) := by decide +kernel
theorem dX9_count_64 : decode cX9_count 64 = .ok (.ireturn, 1) := by decide +kernel
theorem dX9_count_65 : decode cX9_count 65 = .ok (.iconst 0, 1) := by decide +kernel
theorem dX9_count_66 : decode cX9_count 66 = .ok (.istore_n 3, 1) := by decide +kernel
theorem dX9_count_67 : decode cX9_count 67 = .ok (.iload_n 3, 1) := by decide +kernel
theorem dX9_count_68 : decode cX9_count 68 = .ok (.bipush 12, 2) := by decide +kernel
theorem dX9_count_70 : decode cX9_count 70 = .ok (.if_icmp .ge 26, 3) := by decide +kernel
theorem dX9_count_73 : decode cX9_count 73 = .ok (.iload_n 2, 1) := by decide +kernel
theorem dX9_count_74 : decode cX9_count 74 = .ok (.aload_n 0, 1) := by decide +kernel
theorem dX9_count_75 : decode cX9_count 75 = .ok (.getfield 13, 3) := by decide +kernel
theorem dX9_count_78 : decode cX9_count 78 = .ok (.iload_n 3, 1) := by decide +kernel
theorem dX9_count_79 : decode cX9_count 79 = .ok (.baload, 1) := by decide +kernel
theorem dX9_count_80 : decode cX9_count 80 = .ok (.ifCond .eq 7, 3) := by decide +kernel
theorem dX9_count_83 : decode cX9_count 83 = .ok (.iconst 1, 1) := by decide +kernel
theorem dX9_count_84 : decode cX9_count 84 = .ok (.goto 4, 3) := by decide +kernel
theorem dX9_count_87 : decode cX9_count 87 = .ok (.iconst 0, 1) := by decide +kernel
theorem dX9_count_88 : decode cX9_count 88 = .ok (.iadd, 1) := by decide +kernel
theorem dX9_count_89 : decode cX9_count 89 = .ok (.istore_n 2, 1) := by decide +kernel
theorem dX9_count_90 : decode cX9_count 90 = .ok (.iinc 3 1, 3) := by decide +kernel
theorem dX9_count_93 : decode cX9_count 93 = .ok (.goto (-26), 3) := by decide +kernel
theorem dX9_count_96 : decode cX9_count 96 = .ok (.iload_n 2, 1) := by decide +kernel
theorem dX9_count_97 : decode cX9_count 97 = .ok (.ireturn, 1) := by decide +kernel
theorem dX9_count_98 : decode cX9_count 98 = .ok (.aload_n 0, 1) := by decide +kernel
theorem dX9_count_99 : decode cX9_count 99 = .ok (.getfield 104, 3) := by decide +kernel
theorem dX9_count_102 : decode cX9_count 102 = .ok (.ireturn, 1) := by decide +kernel
theorem dX9_count_103 : decode cX9_count 103 = .ok (.aload_n 0, 1) := by decide +kernel
theorem dX9_count_104 : decode cX9_count 104 = .ok (.getfield 110, 3) := by decide +kernel
theorem dX9_count_107 : decode cX9_count 107 = .ok (.ireturn, 1) := by decide +kernel
theorem dX9_count_108 : decode cX9_count 108 = .ok (.aload_n 0, 1) := by decide +kernel
theorem dX9_count_109 : decode cX9_count 109 = .ok (.getfield 156, 3) := by decide +kernel
theorem dX9_count_112 : decode cX9_count 112 = .ok (.ireturn, 1) := by decide +kernel
theorem dX9_count_113 : decode cX9_count 113 = .ok (.aload_n 0, 1) := by decide +kernel
theorem dX9_count_114 : decode cX9_count 114 = .ok (.getfield 107, 3) := by decide +kernel
theorem dX9_count_117 : decode cX9_count 117 = .ok (.ireturn, 1) := by decide +kernel
theorem dX9_count_118 : decode cX9_count 118 = .ok (.aload_n 0, 1) := by decide +kernel
theorem dX9_count_119 : decode cX9_count 119 = .ok (.getfield 159, 3) := by decide +kernel
theorem dX9_count_122 : decode cX9_count 122 = .ok (.ireturn, 1) := by decide +kernel
theorem dX9_count_123 : decode cX9_count 123 = .ok (.aload_n 0, 1) := by decide +kernel
theorem dX9_count_124 : decode cX9_count 124 = .ok (.getfield 166, 3) := by decide +kernel
theorem dX9_count_127 : decode cX9_count 127 = .ok (.ireturn, 1) := by decide +kernel
theorem dX9_count_128 : decode cX9_count 128 = .ok (.aload_n 0, 1) := by decide +kernel
theorem dX9_count_129 : decode cX9_count 129 = .ok (.getfield 153, 3) := by decide +kernel
theorem dX9_count_132 : decode cX9_count 132 = .ok (.ireturn, 1) := by decide +kernel
theorem dX9_count_133 : decode cX9_count 133 = .ok (.aload_n 0, 1) := by decide +kernel
theorem dX9_count_134 : decode cX9_count 134 = .ok (.getfield 169, 3) := by decide +kernel
theorem dX9_count_137 : decode cX9_count 137 = .ok (.ireturn, 1) := by decide +kernel
theorem dX9_count_138 : decode cX9_count 138 = .ok (.aload_n 0, 1) := by decide +kernel
theorem dX9_count_139 : decode cX9_count 139 = .ok (.invokevirtual 175, 3) := by decide +kernel
theorem dX9_count_142 : decode cX9_count 142 = .ok (.ireturn, 1) := by decide +kernel
theorem dX9_count_143 : decode cX9_count 143 = .ok (.iload_n 1, 1) := by decide +kernel
theorem dX9_count_144 : decode cX9_count 144 = .ok (.bipush 11, 2) := by decide +kernel
theorem dX9_count_146 : decode cX9_count 146 = .ok (.bipush 17, 2) := by decide +kernel
theorem dX9_count_148 : decode cX9_count 148 = .ok (.invokestatic 75, 3) := by decide +kernel
theorem dX9_count_151 : decode cX9_count 151 = .ok (.ifCond .eq 15, 3) := by decide +kernel
theorem dX9_count_154 : decode cX9_count 154 = .ok (.aload_n 0, 1) := by decide +kernel
theorem dX9_count_155 : decode cX9_count 155 = .ok (.getfield 54, 3) := by decide +kernel
theorem dX9_count_158 : decode cX9_count 158 = .ok (.iload_n 1, 1) := by decide +kernel
theorem dX9_count_159 : decode cX9_count 159 = .ok (.bipush 10, 2) := by decide +kernel
theorem dX9_count_161 : decode cX9_count 161 = .ok (.isub, 1) := by decide +kernel
theorem dX9_count_162 : decode cX9_count 162 = .ok (.iaload, 1) := by decide +kernel
theorem dX9_count_163 : decode cX9_count 163 = .ok (.goto 5, 3) := by decide +kernel
theorem dX9_count_166 : decode cX9_count 166 = .ok (.bipush (-9), 2) := by decide +kernel
theorem dX9_count_168 : decode cX9_count 168 = .ok (.ireturn, 1) := by decide +kernel
theorem dJ13_bitCount_95d88_0 : decode cJ13_bitCount_95d88 0 = .ok (.lload_n 0, 1) := by decide +kernel
theorem dJ13_bitCount_95d88_1 : decode cJ13_bitCount_95d88 1 = .ok (.lload_n 0, 1) := by decide +kernel
theorem dJ13_bitCount_95d88_2 : decode cJ13_bitCount_95d88 2 = .ok (.iconst 1, 1) := by decide +kernel
theorem dJ13_bitCount_95d88_3 : decode cJ13_bitCount_95d88 3 = .ok (.lushr, 1) := by decide +kernel
theorem dJ13_bitCount_95d88_4 : decode cJ13_bitCount_95d88 4 = .ok (.ldc2_w 314, 3) := by decide +kernel
theorem dJ13_bitCount_95d88_7 : decode cJ13_bitCount_95d88 7 = .ok (.land, 1) := by decide +kernel
theorem dJ13_bitCount_95d88_8 : decode cJ13_bitCount_95d88 8 = .ok (.lsub, 1) := by decide +kernel
theorem dJ13_bitCount_95d88_9 : decode cJ13_bitCount_95d88 9 = .ok (.lstore_n 0, 1) := by decide +kernel
theorem dJ13_bitCount_95d88_10 : decode cJ13_bitCount_95d88 10 = .ok (.lload_n 0, 1) := by decide +kernel
theorem dJ13_bitCount_95d88_11 : decode cJ13_bitCount_95d88 11 = .ok (.ldc2_w 316, 3) := by decide +kernel
theorem dJ13_bitCount_95d88_14 : decode cJ13_bitCount_95d88 14 = .ok (.land, 1) := by decide +kernel
theorem dJ13_bitCount_95d88_15 : decode cJ13_bitCount_95d88 15 = .ok (.lload_n 0, 1) := by decide +kernel
theorem dJ13_bitCount_95d88_16 : decode cJ13_bitCount_95d88 16 = .ok (.iconst 2, 1) := by decide +kernel
theorem dJ13_bitCount_95d88_17 : decode cJ13_bitCount_95d88 17 = .ok (.lushr, 1) := by decide +kernel
theorem dJ13_bitCount_95d88_18 : decode cJ13_bitCount_95d88 18 = .ok (.ldc2_w 316, 3) := by decide +kernel
theorem dJ13_bitCount_95d88_21 : decode cJ13_bitCount_95d88 21 = .ok (.land, 1) := by decide +kernel
theorem dJ13_bitCount_95d88_22 : decode cJ13_bitCount_95d88 22 = .ok (.ladd, 1) := by decide +kernel
theorem dJ13_bitCount_95d88_23 : decode cJ13_bitCount_95d88 23 = .ok (.lstore_n 0, 1) := by decide +kernel
theorem dJ13_bitCount_95d88_24 : decode cJ13_bitCount_95d88 24 = .ok (.lload_n 0, 1) := by decide +kernel
theorem dJ13_bitCount_95d88_25 : decode cJ13_bitCount_95d88 25 = .ok (.lload_n 0, 1) := by decide +kernel
theorem dJ13_bitCount_95d88_26 : decode cJ13_bitCount_95d88 26 = .ok (.iconst 4, 1) := by decide +kernel
theorem dJ13_bitCount_95d88_27 : decode cJ13_bitCount_95d88 27 = .ok (.lushr, 1) := by decide +kernel
theorem dJ13_bitCount_95d88_28 : decode cJ13_bitCount_95d88 28 = .ok (.ladd, 1) := by decide +kernel
theorem dJ13_bitCount_95d88_29 : decode cJ13_bitCount_95d88 29 = .ok (.ldc2_w 318, 3) := by decide +kernel
theorem dJ13_bitCount_95d88_32 : decode cJ13_bitCount_95d88 32 = .ok (.land, 1) := by decide +kernel
theorem dJ13_bitCount_95d88_33 : decode cJ13_bitCount_95d88 33 = .ok (.lstore_n 0, 1) := by decide +kernel
theorem dJ13_bitCount_95d88_34 : decode cJ13_bitCount_95d88 34 = .ok (.lload_n 0, 1) := by decide +kernel
theorem dJ13_bitCount_95d88_35 : decode cJ13_bitCount_95d88 35 = .ok (.lload_n 0, 1) := by decide +kernel
theorem dJ13_bitCount_95d88_36 : decode cJ13_bitCount_95d88 36 = .ok (.bipush 8, 2) := by decide +kernel
theorem dJ13_bitCount_95d88_38 : decode cJ13_bitCount_95d88 38 = .ok (.lushr, 1) := by decide +kernel
theorem dJ13_bitCount_95d88_39 : decode cJ13_bitCount_95d88 39 = .ok (.ladd, 1) := by decide +kernel
theorem dJ13_bitCount_95d88_40 : decode cJ13_bitCount_95d88 40 = .ok (.lstore_n 0, 1) := by decide +kernel
theorem dJ13_bitCount_95d88_41 : decode cJ13_bitCount_95d88 41 = .ok (.lload_n 0, 1) := by decide +kernel
theorem dJ13_bitCount_95d88_42 : decode cJ13_bitCount_95d88 42 = .ok (.lload_n 0, 1) := by decide +kernel
theorem dJ13_bitCount_95d88_43 : decode cJ13_bitCount_95d88 43 = .ok (.bipush 16, 2) := by decide +kernel
theorem dJ13_bitCount_95d88_45 : decode cJ13_bitCount_95d88 45 = .ok (.lushr, 1) := by decide +kernel
theorem dJ13_bitCount_95d88_46 : decode cJ13_bitCount_95d88 46 = .ok (.ladd, 1) := by decide +kernel
theorem dJ13_bitCount_95d88_47 : decode cJ13_bitCount_95d88 47 = .ok (.lstore_n 0, 1) := by decide +kernel
theorem dJ13_bitCount_95d88_48 : decode cJ13_bitCount_95d88 48 = .ok (.lload_n 0, 1) := by decide +kernel
theorem dJ13_bitCount_95d88_49 : decode cJ13_bitCount_95d88 49 = .ok (.lload_n 0, 1) := by decide +kernel
theorem dJ13_bitCount_95d88_50 : decode cJ13_bitCount_95d88 50 = .ok (.bipush 32, 2) := by decide +kernel
theorem dJ13_bitCount_95d88_52 : decode cJ13_bitCount_95d88 52 = .ok (.lushr, 1) := by decide +kernel
theorem dJ13_bitCount_95d88_53 : decode cJ13_bitCount_95d88 53 = .ok (.ladd, 1) := by decide +kernel
theorem dJ13_bitCount_95d88_54 : decode cJ13_bitCount_95d88 54 = .ok (.lstore_n 0, 1) := by decide +kernel
theorem dJ13_bitCount_95d88_55 : decode cJ13_bitCount_95d88 55 = .ok (.lload_n 0, 1) := by decide +kernel
theorem dJ13_bitCount_95d88_56 : decode cJ13_bitCount_95d88 56 = .ok (.l2i, 1) := by decide +kernel
theorem dJ13_bitCount_95d88_57 : decode cJ13_bitCount_95d88 57 = .ok (.bipush 127, 2) := by decide +kernel
theorem dJ13_bitCount_95d88_59 : decode cJ13_bitCount_95d88 59 = .ok (.iand, 1) := by decide +kernel
theorem dJ13_bitCount_95d88_60 : decode cJ13_bitCount_95d88 60 = .ok (.ireturn, 1) := by decide +kernel
theorem dJ9_floorDiv_7cf53_0 : decode cJ9_floorDiv_7cf53 0 = .ok (.iload_n 0, 1) := by decide +kernel
theorem dJ9_floorDiv_7cf53_1 : decode cJ9_floorDiv_7cf53 1 = .ok (.iload_n 1, 1) := by decide +kernel
theorem dJ9_floorDiv_7cf53_2 : decode cJ9_floorDiv_7cf53 2 = .ok (.idiv, 1) := by decide +kernel
theorem dJ9_floorDiv_7cf53_3 : decode cJ9_floorDiv_7cf53 3 = .ok (.istore_n 2, 1) := by decide +kernel
theorem dJ9_floorDiv_7cf53_4 : decode cJ9_floorDiv_7cf53 4 = .ok (.iload_n 0, 1) := by decide +kernel
theorem dJ9_floorDiv_7cf53_5 : decode cJ9_floorDiv_7cf53 5 = .ok (.iload_n 1, 1) := by decide +kernel
theorem dJ9_floorDiv_7cf53_6 : decode cJ9_floorDiv_7cf53 6 = .ok (.ixor, 1) := by decide +kernel
theorem dJ9_floorDiv_7cf53_7 : decode cJ9_floorDiv_7cf53 7 = .ok (.ifCond .ge 14, 3) := by decide +kernel
theorem dJ9_floorDiv_7cf53_10 : decode cJ9_floorDiv_7cf53 10 = .ok (.iload_n 2, 1) := by decide +kernel
theorem dJ9_floorDiv_7cf53_11 : decode cJ9_floorDiv_7cf53 11 = .ok (.iload_n 1, 1) := by decide +kernel
theorem dJ9_floorDiv_7cf53_12 : decode cJ9_floorDiv_7cf53 12 = .ok (.imul, 1) := by decide +kernel
theorem dJ9_floorDiv_7cf53_13 : decode cJ9_floorDiv_7cf53 13 = .ok (.iload_n 0, 1) := by decide +kernel
theorem dJ9_floorDiv_7cf53_14 : decode cJ9_floorDiv_7cf53 14 = .ok (.if_icmp .eq 7, 3) := by decide +kernel
theorem dJ9_floorDiv_7cf53_17 : decode cJ9_floorDiv_7cf53 17 = .ok (.iload_n 2, 1) := by decide +kernel
theorem dJ9_floorDiv_7cf53_18 : decode cJ9_floorDiv_7cf53 18 = .ok (.iconst 1, 1) := by decide +kernel
theorem dJ9_floorDiv_7cf53_19 : decode cJ9_floorDiv_7cf53 19 = .ok (.isub, 1) := by decide +kernel
theorem dJ9_floorDiv_7cf53_20 : decode cJ9_floorDiv_7cf53 20 = .ok (.ireturn, 1) := by decide +kernel
theorem dJ9_floorDiv_7cf53_21 : decode cJ9_floorDiv_7cf53 21 = .ok (.iload_n 2, 1) := by decide +kernel
theorem dJ9_floorDiv_7cf53_22 : decode cJ9_floorDiv_7cf53 22 = .ok (.ireturn, 1) := by decide +kernel
theorem dJ9_abs_0f7a4_0 : decode cJ9_abs_0f7a4 0 = .ok (.iload_n 0, 1) := by decide +kernel
theorem dJ9_abs_0f7a4_1 : decode cJ9_abs_0f7a4 1 = .ok (.ifCond .ge 8, 3) := by decide +kernel
theorem dJ9_abs_0f7a4_4 : decode cJ9_abs_0f7a4 4 = .ok (.iload_n 0, 1) := by decide +kernel
theorem dJ9_abs_0f7a4_5 : decode cJ9_abs_0f7a4 5 = .ok (.ineg, 1) := by decide +kernel
theorem dJ9_abs_0f7a4_6 : decode cJ9_abs_0f7a4 6 = .ok (.goto 4, 3) := by decide +kernel
theorem dJ9_abs_0f7a4_9 : decode cJ9_abs_0f7a4 9 = .ok (.iload_n 0, 1) := by decide +kernel
theorem dJ9_abs_0f7a4_10 : decode cJ9_abs_0f7a4 10 = .ok (.ireturn, 1) := by decide +kernel
theorem dJ9_max_7cf53_0 : decode cJ9_max_7cf53 0 = .ok (.iload_n 0, 1) := by decide +kernel
theorem dJ9_max_7cf53_1 : decode cJ9_max_7cf53 1 = .ok (.iload_n 1, 1) := by decide +kernel
theorem dJ9_max_7cf53_2 : decode cJ9_max_7cf53 2 = .ok (.if_icmp .lt 7, 3) := by decide +kernel
theorem dJ9_max_7cf53_5 : decode cJ9_max_7cf53 5 = .ok (.iload_n 0, 1) := by decide +kernel
theorem dJ9_max_7cf53_6 : decode cJ9_max_7cf53 6 = .ok (.goto 4, 3) := by decide +kernel
theorem dJ9_max_7cf53_9 : decode cJ9_max_7cf53 9 = .ok (.iload_n 1, 1) := by decide +kernel
theorem dJ9_max_7cf53_10 : decode cJ9_max_7cf53 10 = .ok (.ireturn, 1) := by decide +kernel
theorem dJ9_min_7cf53_0 : decode cJ9_min_7cf53 0 = .ok (.iload_n 0, 1) := by decide +kernel
theorem dJ9_min_7cf53_1 : decode cJ9_min_7cf53 1 = .ok (.iload_n 1, 1) := by decide +kernel
theorem dJ9_min_7cf53_2 : decode cJ9_min_7cf53 2 = .ok (.if_icmp .gt 7, 3) := by decide +kernel
theorem dJ9_min_7cf53_5 : decode cJ9_min_7cf53 5 = .ok (.iload_n 0, 1) := by decide +kernel
theorem dJ9_min_7cf53_6 : decode cJ9_min_7cf53 6 = .ok (.goto 4, 3) := by decide +kernel
theorem dJ9_min_7cf53_9 : decode cJ9_min_7cf53 9 = .ok (.iload_n 1, 1) := by decide +kernel
theorem dJ9_min_7cf53_10 : decode cJ9_min_7cf53 10 = .ok (.ireturn, 1) := by decide +kernel
theorem dJ7_fill_d0a16_0 : decode cJ7_fill_d0a16 0 = .ok (.iconst 0, 1) := by decide +kernel
theorem dJ7_fill_d0a16_1 : decode cJ7_fill_d0a16 1 = .ok (.istore_n 3, 1) := by decide +kernel
theorem dJ7_fill_d0a16_2 : decode cJ7_fill_d0a16 2 = .ok (.aload_n 0, 1) := by decide +kernel
theorem dJ7_fill_d0a16_3 : decode cJ7_fill_d0a16 3 = .ok (.arraylength, 1) := by decide +kernel
theorem dJ7_fill_d0a16_4 : decode cJ7_fill_d0a16 4 = .ok (.istore 4, 2) := by decide +kernel
theorem dJ7_fill_d0a16_6 : decode cJ7_fill_d0a16 6 = .ok (.iload_n 3, 1) := by decide +kernel
theorem dJ7_fill_d0a16_7 : decode cJ7_fill_d0a16 7 = .ok (.iload 4, 2) := by decide +kernel
theorem dJ7_fill_d0a16_9 : decode cJ7_fill_d0a16 9 = .ok (.if_icmp .ge 13, 3) := by decide +kernel
theorem dJ7_fill_d0a16_12 : decode cJ7_fill_d0a16 12 = .ok (.aload_n 0, 1) := by decide +kernel
theorem dJ7_fill_d0a16_13 : decode cJ7_fill_d0a16 13 = .ok (.iload_n 3, 1) := by decide +kernel
theorem dJ7_fill_d0a16_14 : decode cJ7_fill_d0a16 14 = .ok (.lload_n 1, 1) := by decide +kernel
theorem dJ7_fill_d0a16_15 : decode cJ7_fill_d0a16 15 = .ok (.lastore, 1) := by decide +kernel
theorem dJ7_fill_d0a16_16 : decode cJ7_fill_d0a16 16 = .ok (.iinc 3 1, 3) := by decide +kernel
theorem dJ7_fill_d0a16_19 : decode cJ7_fill_d0a16 19 = .ok (.goto (-13), 3) := by decide +kernel
theorem dJ7_fill_d0a16_22 : decode cJ7_fill_d0a16 22 = .ok (.return_, 1) := by decide +kernel
theorem dJ7_fill_53178_0 : decode cJ7_fill_53178 0 = .ok (.iconst 0, 1) := by decide +kernel
theorem dJ7_fill_53178_1 : decode cJ7_fill_53178 1 = .ok (.istore_n 2, 1) := by decide +kernel
theorem dJ7_fill_53178_2 : decode cJ7_fill_53178 2 = .ok (.aload_n 0, 1) := by decide +kernel
theorem dJ7_fill_53178_3 : decode cJ7_fill_53178 3 = .ok (.arraylength, 1) := by decide +kernel
theorem dJ7_fill_53178_4 : decode cJ7_fill_53178 4 = .ok (.istore_n 3, 1) := by decide +kernel
theorem dJ7_fill_53178_5 : decode cJ7_fill_53178 5 = .ok (.iload_n 2, 1) := by decide +kernel
theorem dJ7_fill_53178_6 : decode cJ7_fill_53178 6 = .ok (.iload_n 3, 1) := by decide +kernel
theorem dJ7_fill_53178_7 : decode cJ7_fill_53178 7 = .ok (.if_icmp .ge 13, 3) := by decide +kernel
theorem dJ7_fill_53178_10 : decode cJ7_fill_53178 10 = .ok (.aload_n 0, 1) := by decide +kernel
theorem dJ7_fill_53178_11 : decode cJ7_fill_53178 11 = .ok (.iload_n 2, 1) := by decide +kernel
theorem dJ7_fill_53178_12 : decode cJ7_fill_53178 12 = .ok (.iload_n 1, 1) := by decide +kernel
theorem dJ7_fill_53178_13 : decode cJ7_fill_53178 13 = .ok (.iastore, 1) := by decide +kernel
theorem dJ7_fill_53178_14 : decode cJ7_fill_53178 14 = .ok (.iinc 2 1, 3) := by decide +kernel
theorem dJ7_fill_53178_17 : decode cJ7_fill_53178 17 = .ok (.goto (-12), 3) := by decide +kernel
theorem dJ7_fill_53178_20 : decode cJ7_fill_53178 20 = .ok (.return_, 1) := by decide +kernel
abbrev vwCl : List vw_C := [(RX0, TX0, 4), (RX1, TX1, 3), (RX2, TX2, 7), (RX3, TX3, 2), (RX4, TX4, 3), (RX5, TX5, 6), (RX6, TX6, 2), (RX7, TX7, 5), (RX8, TX8, 11), (RX9, TX9, 32)]
end
section
/-! ints as whole numbers, worlds as blocks, calls and ends in one row -/
def iI (z : Int) : Int32 := Int32.ofInt z
def ai (f : Nat → Int) : Nat → Int32 := fun k => iI (f k)
theorem ib_rng (x : Int32) : -2147483648 ≤ x.toInt ∧ x.toInt < 2147483648 := by
  have h1 := Int32.le_toInt x
  have h2 := Int32.toInt_lt x
  omega
theorem ib_bmod {z : Int} (h : -2147483648 ≤ z ∧ z < 2147483648) : z.bmod (2 ^ 32) = z := by
  rw [Int.bmod_eq_of_le (by omega) (by omega)]
theorem iI_toInt {z : Int} (h : -2147483648 ≤ z ∧ z < 2147483648) : (iI z).toInt = z := by
  unfold iI
  rw [Int32.toInt_ofInt, ib_bmod h]
theorem iI_of (x : Int32) : x = iI x.toInt := (Int32.ofInt_toInt x).symm
theorem iI_add (a b : Int) : iI a + iI b = iI (a + b) := (Int32.ofInt_add a b).symm
theorem iI_sub (a b : Int) : iI a - iI b = iI (a - b) := (Int32.ofInt_sub a b).symm
theorem iI_mul (a b : Int) : iI a * iI b = iI (a * b) := (Int32.ofInt_mul a b).symm
theorem iI_neg (a : Int) : -iI a = iI (-a) := (Int32.ofInt_neg a).symm
theorem iI_lt {a b : Int} (ha : -2147483648 ≤ a ∧ a < 2147483648) (hb : -2147483648 ≤ b ∧ b < 2147483648) : iI a < iI b ↔ a < b := by
  rw [Int32.lt_iff_toInt_lt, iI_toInt ha, iI_toInt hb]
theorem iI_le {a b : Int} (ha : -2147483648 ≤ a ∧ a < 2147483648) (hb : -2147483648 ≤ b ∧ b < 2147483648) : iI a ≤ iI b ↔ a ≤ b := by
  rw [Int32.le_iff_toInt_le, iI_toInt ha, iI_toInt hb]
theorem iI_eq {a b : Int} (ha : -2147483648 ≤ a ∧ a < 2147483648) (hb : -2147483648 ≤ b ∧ b < 2147483648) : iI a = iI b ↔ a = b := by
  rw [← Int32.toInt_inj, iI_toInt ha, iI_toInt hb]
theorem iI_0 : iI 0 = 0 := rfl
theorem iI_nI (n : Nat) : nI n = iI (n : Int) := by
  unfold nI iI
  exact Int32.ofInt_eq_ofNat.symm
theorem iI_clamp {z : Int} (h : 0 ≤ z ∧ z < 2147483648) : (iI z).toNatClampNeg = z.toNat := by
  have h1 : (iI z).toNatClampNeg = (iI z).toInt.toNat := rfl
  rw [h1, iI_toInt (by omega)]
theorem iI_in {z : Int} {n : Nat} (h : 0 ≤ z ∧ z < n) (hn : n < 2147483648) : vp_in (iI z) n := by
  rw [vp_in_iff, iI_toInt (by omega)]
  omega
theorem iI_nlt0 {z : Int} (h : 0 ≤ z ∧ z < 2147483648) : ¬ iI z < 0 := by
  rw [← iI_0, iI_lt (by omega) (by omega)]
  omega
theorem iI_tdiv {a b : Int} (ha : 0 ≤ a ∧ a < 2147483648) (hb : 0 < b ∧ b < 2147483648) : iI a / iI b = iI (a / b) := by
  obtain ⟨m, rfl⟩ := Int.eq_ofNat_of_zero_le ha.1
  obtain ⟨n, rfl⟩ := Int.eq_ofNat_of_zero_le (Int.le_of_lt hb.1)
  rw [← iI_nI, ← iI_nI, pk_div (by omega) (by omega) (by omega), iI_nI]
  rfl
theorem iI_tmod {a b : Int} (ha : 0 ≤ a ∧ a < 2147483648) (hb : 0 < b ∧ b < 2147483648) : iI a - iI a / iI b * iI b = iI (a % b) := by
  obtain ⟨m, rfl⟩ := Int.eq_ofNat_of_zero_le ha.1
  obtain ⟨n, rfl⟩ := Int.eq_ofNat_of_zero_le (Int.le_of_lt hb.1)
  rw [← iI_nI, ← iI_nI, pk_rem (by omega) (by omega) (by omega), iI_nI]
  rfl
theorem ai_up (f : Nat → Int) (k : Nat) (v : Int) : upd (ai f) k (iI v) = ai (va_up f k v) := by
  funext j
  by_cases h : j = k
  · subst h
    rw [pk_us]
    show iI v = iI (va_up f j v j)
    rw [va_up_self]
  · rw [pk_un h]
    show iI (f j) = iI (va_up f k v j)
    rw [show va_up f k v j = f j from if_neg h]
theorem ai_cpy (f g : Nat → Int) (sp dp n : Nat) : va_cpy (ai f) (ai g) sp dp n = ai (va_cpy f g sp dp n) := by
  funext j
  show (if dp ≤ j ∧ j < dp + n then iI (f (sp + (j - dp))) else iI (g j)) = iI (if dp ≤ j ∧ j < dp + n then f (sp + (j - dp)) else g j)
  by_cases h : dp ≤ j ∧ j < dp + n
  · rw [if_pos h, if_pos h]
  · rw [if_neg h, if_neg h]
theorem nz {z : Int} (h : z = 0 ∨ z = 1) : narrow .boolean (.int (iI z)) = .int (iI z) := by
  rcases h with rfl | rfl <;> rfl
theorem nz2 {z : Int} (h : z = 0 ∨ z = 1) : vp_nar .boolean (iI z) = iI z := by
  rcases h with rfl | rfl <;> rfl
/-! worlds out of blocks -/
def fl (Bs : List va_W) : va_W := Bs.flatten
theorem P_perm {D : va_G} {cl : List vw_C} {ws ws' : va_W} {H : Heap} (h : ws.Perm ws') (hP : va_P D cl ws H) : va_P D cl ws' H := by
  intro k q hk
  have h1 : q ∈ ws := h.mem_iff.mpr (List.mem_of_getElem? hk)
  obtain ⟨i, hi⟩ := List.getElem?_of_mem h1
  exact hP i q hi
theorem D_pw {A : Nat → Prop} {ws : va_W} : va_D A ws ↔ ws.Pairwise (fun a b => a.1 ≠ b.1) ∧ ∀ q ∈ ws, A q.1 := by
  constructor
  · intro h
    refine ⟨?_, fun q hq => ?_⟩
    · rw [List.pairwise_iff_getElem]
      intro i j hi hj hij e
      have := h.1 i j ws[i] ws[j] (List.getElem?_eq_getElem hi) (List.getElem?_eq_getElem hj) e
      omega
    · obtain ⟨i, hi⟩ := List.getElem?_of_mem hq
      exact h.2 i q hi
  · intro h
    obtain ⟨h1, h2⟩ := h
    refine ⟨fun i j x y hi hj e => ?_, fun k q hk => h2 q (List.mem_of_getElem? hk)⟩
    rw [List.pairwise_iff_getElem] at h1
    obtain ⟨hi', rfl⟩ := List.getElem?_eq_some_iff.mp hi
    obtain ⟨hj', rfl⟩ := List.getElem?_eq_some_iff.mp hj
    rcases Nat.lt_trichotomy i j with h | h | h
    · exact absurd e (h1 i j hi' hj' h)
    · exact h
    · exact absurd e.symm (h1 j i hj' hi' h)
theorem D_perm {A : Nat → Prop} {ws ws' : va_W} (h : ws.Perm ws') (hD : va_D A ws) : va_D A ws' := by
  rw [D_pw] at hD ⊢
  exact ⟨(h.pairwise_iff (fun h e => h e.symm)).mp hD.1, fun q hq => hD.2 q (h.mem_iff.mpr hq)⟩
theorem fl_perm {L L' : List va_W} (h : L.Perm L') : (fl L).Perm (fl L') := by
  unfold fl
  induction h with
  | nil => exact List.Perm.refl _
  | cons x _ ih => rw [List.flatten_cons, List.flatten_cons]; exact ih.append_left x
  | swap x y l =>
    rw [List.flatten_cons, List.flatten_cons, List.flatten_cons, List.flatten_cons, ← List.append_assoc, ← List.append_assoc]
    exact List.perm_append_comm.append_right _
  | trans _ _ a b => exact a.trans b
theorem fl_app (L L' : List va_W) : fl (L ++ L') = fl L ++ fl L' := List.flatten_append
theorem perm_idx {α : Type} {L L' : List α} (is : List Nat) (h : is.isPerm (List.range L.length) = true) (e : is.map (fun i => L[i]?) = L'.map some) : L.Perm L' := by
  have h1 := (List.isPerm_iff.mp h).map (fun i => L[i]?)
  rw [e] at h1
  have h2 : (List.range L.length).map (fun i => L[i]?) = L.map some := by
    apply List.ext_getElem?
    intro i
    rw [List.getElem?_map, List.getElem?_map]
    by_cases hi : i < L.length
    · rw [List.getElem?_range hi, List.getElem?_eq_getElem hi]
      show some L[i]? = some (some L[i])
      rw [List.getElem?_eq_getElem hi]
    · rw [List.getElem?_eq_none (by rw [List.length_range]; omega), List.getElem?_eq_none (by omega)]
      rfl
  rw [h2] at h1
  have h3 := h1.filterMap id
  rw [List.filterMap_map, List.filterMap_map] at h3
  have h4 : ∀ M : List α, M.filterMap (id ∘ some) = M := fun M => by
    induction M with
    | nil => rfl
    | cons a M ih => rw [List.filterMap_cons]; simp only [Function.comp]; rw [← ih]; simp
  rw [h4, h4] at h3
  exact h3.symm
theorem jn {A0 : Nat → Prop} {D : va_G} {cl : List vw_C} {wc wr w1 : va_W} {H H1 : Heap} (hP : va_P D cl (wc ++ wr) H) (hD : va_D A0 (wc ++ wr))
    (hk : ∀ q : Nat, q < H.size → ¬ va_A wc H.size q → H1[q]? = H[q]?) (hF : ∀ q, va_A wc H.size q → A0 q) (hP1 : va_P D cl w1 H1) (hD1 : va_D (va_A wc H.size) w1) : va_P D cl (w1 ++ wr) H1 ∧ va_D A0 (w1 ++ wr) := by
  have hPr : ∀ q ∈ wr, va_at D cl q H := fun q hq => by
    obtain ⟨i, hi⟩ := List.getElem?_of_mem (List.mem_append_right wc hq)
    exact hP i q hi
  rw [D_pw, List.pairwise_append] at hD
  obtain ⟨⟨d1, d2, d3⟩, d4⟩ := hD
  have apart : ∀ q ∈ wr, q.1 < H.size ∧ ¬ va_A wc H.size q.1 := fun q hq => by
    have hl := (hPr q hq).lt
    refine ⟨hl, fun h => ?_⟩
    rcases h with ⟨k2, e, h⟩ | h
    · exact d3 _ (List.mem_of_getElem? h) q hq rfl
    · omega
  rw [D_pw] at hD1
  obtain ⟨e1, e2⟩ := hD1
  refine ⟨va_P.app hP1 (fun k q hk9 => ?_), D_pw.mpr ⟨?_, fun q hq => ?_⟩⟩
  · have hq := List.mem_of_getElem? hk9
    exact (hPr q hq).kept (hk q.1 (apart q hq).1 (apart q hq).2)
  · rw [List.pairwise_append]
    refine ⟨e1, d2, fun x hx y hy e => ?_⟩
    exact (apart y hy).2 (by rw [← e]; exact e2 x hx)
  · rcases List.mem_append.mp hq with h | h
    · exact hF _ (e2 q h)
    · exact d4 q (List.mem_append_right _ h)
/-! contracts -/
abbrev TY (G : Nat → ClassId) : List (ClassId × FieldType) := [(G 0, .int), (G 1, .boolean), (G 2, .long), (G 3, .array .int)]
abbrev PreW (D : va_G) (G : Nat → ClassId) (wc : List va_W) (sz : Nat) (U : State) : Prop := U.heap.size = sz ∧ va_P D vwCl (fl wc) U.heap ∧ va_K D vwCl (TY G) U ∧ va_D (fun _ => True) (fl wc)
abbrev PostW (D : va_G) (G : Nat → ClassId) (A : Nat → Prop) (w1 : List va_W) (t : State) : Prop := va_P D vwCl (fl w1) t.heap ∧ va_K D vwCl (TY G) t ∧ va_D A (fl w1)
def CtI (l : Launch) (y : MethodName) (wy : List Cond) (rm : Room) (D : va_G) (G : Nat → ClassId) (av : List Value) (wc : List va_W) {S : Type} (post : Int32 → S → Prop) (w1 : S → List va_W) : Prop :=
  ∀ sz : Nat, Met l y wy rm (va_Pc av (PreW D G wc sz)) (va_Qi post (fun u t => PostW D G (va_A (fl wc) sz) (w1 u) t) (va_A (fl wc) sz)) 0 0 (va_A (fl wc) sz)
def CtV (l : Launch) (y : MethodName) (wy : List Cond) (rm : Room) (D : va_G) (G : Nat → ClassId) (av : List Value) (wc : List va_W) {S : Type} (post : S → Prop) (w1 : S → List va_W) : Prop :=
  ∀ sz : Nat, Met l y wy rm (va_Pc av (PreW D G wc sz)) (va_Qv post (fun u t => PostW D G (va_A (fl wc) sz) (w1 u) t) (va_A (fl wc) sz)) 0 0 (va_A (fl wc) sz)
section FINS
variable {p : Program} {l : Launch} {e : Env} {R : Room} {s : State} {m : MethodId} {args : Array Value} {below : List Frame} {meth : Method} {c : Code} {H : Heap} {locs : List Loc}
variable {cc : ByteArray} {pc : Nat} {ls : Array Slot} {D : va_G} {A : Nat → Prop} {G : Nat → ClassId}
theorem fin_i {S : Type} {post : Int32 → S → Prop} {w1 : S → List va_W} {v : Int32} (u : S) (hx : p.tables.exec = Jvm.exec) (hb : c.code = cc) (hr : meth.sig.returnType = some .int) (hlocks : meth.locks = false) (hK : va_K D vwCl (TY G) s) (hP : va_P D vwCl (fl (w1 u)) H) (hD : va_D A (fl (w1 u))) (hS : va_S A s.heap H locs) (hdg : decode cc pc = .ok (.ireturn, 1)) (hw : post v u) : W p l e R s m args below meth c H locs 0 0 (MQ below (va_Qi post (fun u t => PostW D G A (w1 u) t) A) args s 0 0 A) (F0 m pc ls [.int v]) :=
  W.iret hx hb hr (fun t ht hW => ⟨⟨v, u, rfl, hw, by rw [ht]; exact hP, va_K.moved hW.alike hK, hD⟩, hS.F ht⟩) hS.2.2 hdg hlocks
theorem fin_z {S : Type} {post : Int32 → S → Prop} {w1 : S → List va_W} {v : Int32} (u : S) (hx : p.tables.exec = Jvm.exec) (hb : c.code = cc) (hr : meth.sig.returnType = some .boolean) (hlocks : meth.locks = false) (hK : va_K D vwCl (TY G) s) (hP : va_P D vwCl (fl (w1 u)) H) (hD : va_D A (fl (w1 u))) (hS : va_S A s.heap H locs) (hdg : decode cc pc = .ok (.ireturn, 1)) (hn : narrow .boolean (.int v) = .int v) (hw : post v u) : W p l e R s m args below meth c H locs 0 0 (MQ below (va_Qi post (fun u t => PostW D G A (w1 u) t) A) args s 0 0 A) (F0 m pc ls [.int v]) :=
  W.zret hx hb hr hn (fun t ht hW => ⟨⟨v, u, rfl, hw, by rw [ht]; exact hP, va_K.moved hW.alike hK, hD⟩, hS.F ht⟩) hS.2.2 hdg hlocks
theorem fin_v {S : Type} {post : S → Prop} {w1 : S → List va_W} (u : S) (hx : p.tables.exec = Jvm.exec) (hb : c.code = cc) (hr : meth.sig.returnType = none) (hlocks : meth.locks = false) (hK : va_K D vwCl (TY G) s) (hP : va_P D vwCl (fl (w1 u)) H) (hD : va_D A (fl (w1 u))) (hS : va_S A s.heap H locs) (hdg : decode cc pc = .ok (.return_, 1)) (hw : post u) : W p l e R s m args below meth c H locs 0 0 (MQ below (va_Qv post (fun u t => PostW D G A (w1 u) t) A) args s 0 0 A) (F0 m pc ls []) :=
  W.vret hx hb hr (fun t ht hW => ⟨⟨u, rfl, hw, by rw [ht]; exact hP, va_K.moved hW.alike hK, hD⟩, hS.F ht⟩) hS.2.2 hdg hlocks
end FINS
/-- what a method's walk must come to, with its end as a row -/
abbrev BodyI (l : Launch) (y : MethodName) (wy : List Cond) (rm : Room) (D : va_G) (G : Nat → ClassId) (av : List Value) (wc : List va_W) {S : Type} (post : Int32 → S → Prop) (w1 : S → List va_W) (cc : ByteArray) (maxL : Nat) (ok : Int32 → Prop) : Prop :=
  ∀ (p : Program) (e : Env) (s : State) (m : MethodId) (args : Array Value) (below : List Frame) (meth : Method) (c : Code) (A : Nat → Prop) (ls : Array Slot) (Q : State → Prop), p.tables.exec = Jvm.exec → c.code = cc → c.maxLocals = maxL → s.vm.findClass y.cls = some m.cls → (∀ w ∈ wy, w.before args s = true) → va_K D vwCl (TY G) s → va_P D vwCl (fl wc) s.heap → va_D A (fl wc) → (∀ q : Nat, s.heap.size ≤ q → A q) → lv_has ls maxL (lv_args 0 av) →
    (∀ (v : Int32) (u : S) (H : Heap) (locs : List Loc) (ls : Array Slot) (pc : Nat), decode cc pc = .ok (.ireturn, 1) → va_P D vwCl (fl (w1 u)) H → va_D A (fl (w1 u)) → va_S A s.heap H locs → ok v → post v u → W p l e rm s m args below meth c H locs 0 0 Q (F0 m pc ls [.int v])) →
    W p l e rm s m args below meth c s.heap [] 0 0 Q (F0 m 0 ls [])
abbrev BodyV (l : Launch) (y : MethodName) (wy : List Cond) (rm : Room) (D : va_G) (G : Nat → ClassId) (av : List Value) (wc : List va_W) {S : Type} (post : S → Prop) (w1 : S → List va_W) (cc : ByteArray) (maxL : Nat) : Prop :=
  ∀ (p : Program) (e : Env) (s : State) (m : MethodId) (args : Array Value) (below : List Frame) (meth : Method) (c : Code) (A : Nat → Prop) (ls : Array Slot) (Q : State → Prop), p.tables.exec = Jvm.exec → c.code = cc → c.maxLocals = maxL → s.vm.findClass y.cls = some m.cls → (∀ w ∈ wy, w.before args s = true) → va_K D vwCl (TY G) s → va_P D vwCl (fl wc) s.heap → va_D A (fl wc) → (∀ q : Nat, s.heap.size ≤ q → A q) → lv_has ls maxL (lv_args 0 av) →
    (∀ (u : S) (H : Heap) (locs : List Loc) (ls : Array Slot) (pc : Nat), decode cc pc = .ok (.return_, 1) → va_P D vwCl (fl (w1 u)) H → va_D A (fl (w1 u)) → va_S A s.heap H locs → post u → W p l e rm s m args below meth c H locs 0 0 Q (F0 m pc ls [])) →
    W p l e rm s m args below meth c s.heap [] 0 0 Q (F0 m 0 ls [])
theorem CtI.ofI {l : Launch} {y : MethodName} {wy ws' : List Cond} {rm : Room} {D : va_G} {G : Nat → ClassId} {av : List Value} {wc : List va_W} {S : Type} {post : Int32 → S → Prop} {w1 : S → List va_W} {cc : ByteArray} {maxL : Nat}
    (hy : plainName y.cls = true) (hw : wy = Cond.code y cc maxL (some .int) :: ws') (hn : (lg_sl av).length ≤ maxL) (body : BodyI l y wy rm D G av wc post w1 cc maxL (fun _ => True)) : CtI l y wy rm D G av wc post w1 := by
  intro sz
  refine Met.ofW (cc := cc) (maxL := maxL) (ret := some .int) hy hw ?_
  intro p e s m args below meth c s₁ B hml hv
  obtain ⟨rfl, hsz, hP, hK, hD0⟩ := hv
  have hl := lv_entry av (n := maxL) hn
  subst hsz
  rw [lg_entry_eq]
  exact body p e s m _ below meth c _ _ _ B.exec B.bytes hml (findClass_of_methodNamed B.named) (atoms_spec (ws := wy) B.pre) hK hP (hD0.self (sz := s.heap.size)) (fun q h => Or.inr h) hl (fun v u H locs ls pc hd p1 d1 s1 _ hw => fin_i u B.exec B.bytes B.returns B.notSynchronized hK p1 d1 s1 hd hw)
theorem CtI.ofZ {l : Launch} {y : MethodName} {wy ws' : List Cond} {rm : Room} {D : va_G} {G : Nat → ClassId} {av : List Value} {wc : List va_W} {S : Type} {post : Int32 → S → Prop} {w1 : S → List va_W} {cc : ByteArray} {maxL : Nat}
    (hy : plainName y.cls = true) (hw : wy = Cond.code y cc maxL (some .boolean) :: ws') (hn : (lg_sl av).length ≤ maxL) (body : BodyI l y wy rm D G av wc post w1 cc maxL (fun v => narrow .boolean (.int v) = .int v)) : CtI l y wy rm D G av wc post w1 := by
  intro sz
  refine Met.ofW (cc := cc) (maxL := maxL) (ret := some .boolean) hy hw ?_
  intro p e s m args below meth c s₁ B hml hv
  obtain ⟨rfl, hsz, hP, hK, hD0⟩ := hv
  have hl := lv_entry av (n := maxL) hn
  subst hsz
  rw [lg_entry_eq]
  exact body p e s m _ below meth c _ _ _ B.exec B.bytes hml (findClass_of_methodNamed B.named) (atoms_spec (ws := wy) B.pre) hK hP (hD0.self (sz := s.heap.size)) (fun q h => Or.inr h) hl (fun v u H locs ls pc hd p1 d1 s1 ok hw => fin_z u B.exec B.bytes B.returns B.notSynchronized hK p1 d1 s1 hd ok hw)
theorem CtV.of {l : Launch} {y : MethodName} {wy ws' : List Cond} {rm : Room} {D : va_G} {G : Nat → ClassId} {av : List Value} {wc : List va_W} {S : Type} {post : S → Prop} {w1 : S → List va_W} {cc : ByteArray} {maxL : Nat}
    (hy : plainName y.cls = true) (hw : wy = Cond.code y cc maxL none :: ws') (hn : (lg_sl av).length ≤ maxL) (body : BodyV l y wy rm D G av wc post w1 cc maxL) : CtV l y wy rm D G av wc post w1 := by
  intro sz
  refine Met.ofW (cc := cc) (maxL := maxL) (ret := none) hy hw ?_
  intro p e s m args below meth c s₁ B hml hv
  obtain ⟨rfl, hsz, hP, hK, hD0⟩ := hv
  have hl := lv_entry av (n := maxL) hn
  subst hsz
  rw [lg_entry_eq]
  exact body p e s m _ below meth c _ _ _ B.exec B.bytes hml (findClass_of_methodNamed B.named) (atoms_spec (ws := wy) B.pre) hK hP (hD0.self (sz := s.heap.size)) (fun q h => Or.inr h) hl (fun u H locs ls pc hd p1 d1 s1 hw => fin_v u B.exec B.bytes B.returns B.notSynchronized hK p1 d1 s1 hd hw)
section BASE
variable {p : Program} {l : Launch} {e : Env} {R : Room} {s : State} {m : MethodId} {args : Array Value} {below : List Frame} {meth : Method} {c : Code} {H : Heap} {locs : List Loc} {cells slots : Nat} {Q : State → Prop}
variable {cc : ByteArray} {pc : Nat} {ls : Array Slot} {rest : List Value} {D : va_G} {A : Nat → Prop} {a : Nat} {ws : va_W} {H0 : Heap} {G : Nat → ClassId}
theorem wi_iconst (hx : p.tables.exec = Jvm.exec) (hb : c.code = cc) {n : Int} (hdg : decode cc pc = .ok (.iconst n, 1)) (k : W p l e R s m args below meth c H locs cells slots Q (F0 m (pc + 1) ls (.int (iI n) :: rest))) : W p l e R s m args below meth c H locs cells slots Q (F0 m pc ls rest) := lv_iconst hx hb hdg rfl k
theorem wi_bipush (hx : p.tables.exec = Jvm.exec) (hb : c.code = cc) {n : Int} (hdg : decode cc pc = .ok (.bipush n, 2)) (hv : (Int8.ofInt n).toInt32 = iI n) (k : W p l e R s m args below meth c H locs cells slots Q (F0 m (pc + 2) ls (.int (iI n) :: rest))) : W p l e R s m args below meth c H locs cells slots Q (F0 m pc ls rest) := lv_bipush hx hb hdg hv k
theorem wi_sipush (hx : p.tables.exec = Jvm.exec) (hb : c.code = cc) {n : Int} (hdg : decode cc pc = .ok (.sipush n, 3)) (hv : (Int16.ofInt n).toInt32 = iI n) (k : W p l e R s m args below meth c H locs cells slots Q (F0 m (pc + 3) ls (.int (iI n) :: rest))) : W p l e R s m args below meth c H locs cells slots Q (F0 m pc ls rest) := lv_sipush hx hb hdg hv k
theorem wi_iadd (hx : p.tables.exec = Jvm.exec) (hb : c.code = cc) {x y : Int} (hdg : decode cc pc = .ok (.iadd, 1)) (k : W p l e R s m args below meth c H locs cells slots Q (F0 m (pc + 1) ls (.int (iI (x + y)) :: rest))) : W p l e R s m args below meth c H locs cells slots Q (F0 m pc ls (.int (iI y) :: .int (iI x) :: rest)) := lv_iadd hx hb hdg (by rw [iI_add]; exact k)
theorem wi_isub (hx : p.tables.exec = Jvm.exec) (hb : c.code = cc) {x y : Int} (hdg : decode cc pc = .ok (.isub, 1)) (k : W p l e R s m args below meth c H locs cells slots Q (F0 m (pc + 1) ls (.int (iI (x - y)) :: rest))) : W p l e R s m args below meth c H locs cells slots Q (F0 m pc ls (.int (iI y) :: .int (iI x) :: rest)) := lv_isub hx hb hdg (by rw [iI_sub]; exact k)
theorem wi_imul (hx : p.tables.exec = Jvm.exec) (hb : c.code = cc) {x y : Int} (hdg : decode cc pc = .ok (.imul, 1)) (k : W p l e R s m args below meth c H locs cells slots Q (F0 m (pc + 1) ls (.int (iI (x * y)) :: rest))) : W p l e R s m args below meth c H locs cells slots Q (F0 m pc ls (.int (iI y) :: .int (iI x) :: rest)) := lv_imul hx hb hdg (by rw [iI_mul]; exact k)
theorem wi_ineg (hx : p.tables.exec = Jvm.exec) (hb : c.code = cc) {x : Int} (hdg : decode cc pc = .ok (.ineg, 1)) (k : W p l e R s m args below meth c H locs cells slots Q (F0 m (pc + 1) ls (.int (iI (-x)) :: rest))) : W p l e R s m args below meth c H locs cells slots Q (F0 m pc ls (.int (iI x) :: rest)) := lv_ineg hx hb hdg (by rw [iI_neg]; exact k)
theorem wi_idiv (hx : p.tables.exec = Jvm.exec) (hb : c.code = cc) {x y : Int} (h1 : 0 ≤ x ∧ x < 2147483648) (h2 : 0 < y ∧ y < 2147483648) (hdg : decode cc pc = .ok (.idiv, 1)) (k : W p l e R s m args below meth c H locs cells slots Q (F0 m (pc + 1) ls (.int (iI (x / y)) :: rest))) : W p l e R s m args below meth c H locs cells slots Q (F0 m pc ls (.int (iI y) :: .int (iI x) :: rest)) := lv_idiv hx hb hdg (by rw [← iI_0, iI_eq (by omega) (by omega)]; omega) (by rw [iI_tdiv h1 h2]; exact k)
theorem wi_irem (hx : p.tables.exec = Jvm.exec) (hb : c.code = cc) {x y : Int} (h1 : 0 ≤ x ∧ x < 2147483648) (h2 : 0 < y ∧ y < 2147483648) (hdg : decode cc pc = .ok (.irem, 1)) (k : W p l e R s m args below meth c H locs cells slots Q (F0 m (pc + 1) ls (.int (iI (x % y)) :: rest))) : W p l e R s m args below meth c H locs cells slots Q (F0 m pc ls (.int (iI y) :: .int (iI x) :: rest)) := lv_irem hx hb hdg (by rw [← iI_0, iI_eq (by omega) (by omega)]; omega) (by rw [iI_tmod h1 h2]; exact k)
theorem wi_icmp_eq (hx : p.tables.exec = Jvm.exec) (hb : c.code = cc) {x y : Int} {off : Int} {tgt : Nat} (h1 : -2147483648 ≤ x ∧ x < 2147483648) (h2 : -2147483648 ≤ y ∧ y < 2147483648) (hdg : decode cc pc = .ok (.if_icmp .eq off, 3)) (ht : (pc : Int) + off = (tgt : Int)) (kt : x = y → W p l e R s m args below meth c H locs cells slots Q (F0 m tgt ls rest)) (kf : x ≠ y → W p l e R s m args below meth c H locs cells slots Q (F0 m (pc + 3) ls rest)) : W p l e R s m args below meth c H locs cells slots Q (F0 m pc ls (.int (iI y) :: .int (iI x) :: rest)) := lv_icmp_eq hx hb hdg ht (fun h => kt (by rw [iI_eq h1 h2] at h; omega)) (fun h => kf (by rw [iI_eq h1 h2] at h; omega))
theorem wi_icmp_ne (hx : p.tables.exec = Jvm.exec) (hb : c.code = cc) {x y : Int} {off : Int} {tgt : Nat} (h1 : -2147483648 ≤ x ∧ x < 2147483648) (h2 : -2147483648 ≤ y ∧ y < 2147483648) (hdg : decode cc pc = .ok (.if_icmp .ne off, 3)) (ht : (pc : Int) + off = (tgt : Int)) (kt : x ≠ y → W p l e R s m args below meth c H locs cells slots Q (F0 m tgt ls rest)) (kf : x = y → W p l e R s m args below meth c H locs cells slots Q (F0 m (pc + 3) ls rest)) : W p l e R s m args below meth c H locs cells slots Q (F0 m pc ls (.int (iI y) :: .int (iI x) :: rest)) := lv_icmp_ne hx hb hdg ht (fun h => kt (by rw [iI_eq h1 h2] at h; omega)) (fun h => kf (by rw [iI_eq h1 h2] at h; omega))
theorem wi_icmp_lt (hx : p.tables.exec = Jvm.exec) (hb : c.code = cc) {x y : Int} {off : Int} {tgt : Nat} (h1 : -2147483648 ≤ x ∧ x < 2147483648) (h2 : -2147483648 ≤ y ∧ y < 2147483648) (hdg : decode cc pc = .ok (.if_icmp .lt off, 3)) (ht : (pc : Int) + off = (tgt : Int)) (kt : x < y → W p l e R s m args below meth c H locs cells slots Q (F0 m tgt ls rest)) (kf : y ≤ x → W p l e R s m args below meth c H locs cells slots Q (F0 m (pc + 3) ls rest)) : W p l e R s m args below meth c H locs cells slots Q (F0 m pc ls (.int (iI y) :: .int (iI x) :: rest)) := lv_icmp_lt hx hb hdg ht (fun h => kt (by rw [iI_lt h1 h2] at h; omega)) (fun h => kf (by rw [iI_lt h1 h2] at h; omega))
theorem wi_icmp_ge (hx : p.tables.exec = Jvm.exec) (hb : c.code = cc) {x y : Int} {off : Int} {tgt : Nat} (h1 : -2147483648 ≤ x ∧ x < 2147483648) (h2 : -2147483648 ≤ y ∧ y < 2147483648) (hdg : decode cc pc = .ok (.if_icmp .ge off, 3)) (ht : (pc : Int) + off = (tgt : Int)) (kt : y ≤ x → W p l e R s m args below meth c H locs cells slots Q (F0 m tgt ls rest)) (kf : x < y → W p l e R s m args below meth c H locs cells slots Q (F0 m (pc + 3) ls rest)) : W p l e R s m args below meth c H locs cells slots Q (F0 m pc ls (.int (iI y) :: .int (iI x) :: rest)) := lv_icmp_ge hx hb hdg ht (fun h => kt (by rw [iI_le h2 h1] at h; omega)) (fun h => kf (by rw [iI_le h2 h1] at h; omega))
theorem wi_icmp_gt (hx : p.tables.exec = Jvm.exec) (hb : c.code = cc) {x y : Int} {off : Int} {tgt : Nat} (h1 : -2147483648 ≤ x ∧ x < 2147483648) (h2 : -2147483648 ≤ y ∧ y < 2147483648) (hdg : decode cc pc = .ok (.if_icmp .gt off, 3)) (ht : (pc : Int) + off = (tgt : Int)) (kt : y < x → W p l e R s m args below meth c H locs cells slots Q (F0 m tgt ls rest)) (kf : x ≤ y → W p l e R s m args below meth c H locs cells slots Q (F0 m (pc + 3) ls rest)) : W p l e R s m args below meth c H locs cells slots Q (F0 m pc ls (.int (iI y) :: .int (iI x) :: rest)) := lv_icmp_gt hx hb hdg ht (fun h => kt (by rw [iI_lt h2 h1] at h; omega)) (fun h => kf (by rw [iI_lt h2 h1] at h; omega))
theorem wi_icmp_le (hx : p.tables.exec = Jvm.exec) (hb : c.code = cc) {x y : Int} {off : Int} {tgt : Nat} (h1 : -2147483648 ≤ x ∧ x < 2147483648) (h2 : -2147483648 ≤ y ∧ y < 2147483648) (hdg : decode cc pc = .ok (.if_icmp .le off, 3)) (ht : (pc : Int) + off = (tgt : Int)) (kt : x ≤ y → W p l e R s m args below meth c H locs cells slots Q (F0 m tgt ls rest)) (kf : y < x → W p l e R s m args below meth c H locs cells slots Q (F0 m (pc + 3) ls rest)) : W p l e R s m args below meth c H locs cells slots Q (F0 m pc ls (.int (iI y) :: .int (iI x) :: rest)) := lv_icmp_le hx hb hdg ht (fun h => kt (by rw [iI_le h1 h2] at h; omega)) (fun h => kf (by rw [iI_le h1 h2] at h; omega))
theorem wi_if_eq (hx : p.tables.exec = Jvm.exec) (hb : c.code = cc) {x : Int} {off : Int} {tgt : Nat} (h1 : -2147483648 ≤ x ∧ x < 2147483648) (hdg : decode cc pc = .ok (.ifCond .eq off, 3)) (ht : (pc : Int) + off = (tgt : Int)) (kt : x = 0 → W p l e R s m args below meth c H locs cells slots Q (F0 m tgt ls rest)) (kf : x ≠ 0 → W p l e R s m args below meth c H locs cells slots Q (F0 m (pc + 3) ls rest)) : W p l e R s m args below meth c H locs cells slots Q (F0 m pc ls (.int (iI x) :: rest)) := lv_if_eq hx hb hdg ht (fun h => kt (by rw [← iI_0, iI_eq h1 (by omega)] at h; omega)) (fun h => kf (by rw [← iI_0, iI_eq h1 (by omega)] at h; omega))
theorem wi_if_ne (hx : p.tables.exec = Jvm.exec) (hb : c.code = cc) {x : Int} {off : Int} {tgt : Nat} (h1 : -2147483648 ≤ x ∧ x < 2147483648) (hdg : decode cc pc = .ok (.ifCond .ne off, 3)) (ht : (pc : Int) + off = (tgt : Int)) (kt : x ≠ 0 → W p l e R s m args below meth c H locs cells slots Q (F0 m tgt ls rest)) (kf : x = 0 → W p l e R s m args below meth c H locs cells slots Q (F0 m (pc + 3) ls rest)) : W p l e R s m args below meth c H locs cells slots Q (F0 m pc ls (.int (iI x) :: rest)) := lv_if_ne hx hb hdg ht (fun h => kt (by rw [← iI_0, iI_eq h1 (by omega)] at h; omega)) (fun h => kf (by rw [← iI_0, iI_eq h1 (by omega)] at h; omega))
theorem wi_if_lt (hx : p.tables.exec = Jvm.exec) (hb : c.code = cc) {x : Int} {off : Int} {tgt : Nat} (h1 : -2147483648 ≤ x ∧ x < 2147483648) (hdg : decode cc pc = .ok (.ifCond .lt off, 3)) (ht : (pc : Int) + off = (tgt : Int)) (kt : x < 0 → W p l e R s m args below meth c H locs cells slots Q (F0 m tgt ls rest)) (kf : 0 ≤ x → W p l e R s m args below meth c H locs cells slots Q (F0 m (pc + 3) ls rest)) : W p l e R s m args below meth c H locs cells slots Q (F0 m pc ls (.int (iI x) :: rest)) := lv_if_lt hx hb hdg ht (fun h => kt (by rw [← iI_0, iI_lt h1 (by omega)] at h; omega)) (fun h => kf (by rw [← iI_0, iI_lt h1 (by omega)] at h; omega))
theorem wi_if_ge (hx : p.tables.exec = Jvm.exec) (hb : c.code = cc) {x : Int} {off : Int} {tgt : Nat} (h1 : -2147483648 ≤ x ∧ x < 2147483648) (hdg : decode cc pc = .ok (.ifCond .ge off, 3)) (ht : (pc : Int) + off = (tgt : Int)) (kt : 0 ≤ x → W p l e R s m args below meth c H locs cells slots Q (F0 m tgt ls rest)) (kf : x < 0 → W p l e R s m args below meth c H locs cells slots Q (F0 m (pc + 3) ls rest)) : W p l e R s m args below meth c H locs cells slots Q (F0 m pc ls (.int (iI x) :: rest)) := lv_if_ge hx hb hdg ht (fun h => kt (by rw [← iI_0, iI_le (by omega) h1] at h; omega)) (fun h => kf (by rw [← iI_0, iI_le (by omega) h1] at h; omega))
theorem wi_if_gt (hx : p.tables.exec = Jvm.exec) (hb : c.code = cc) {x : Int} {off : Int} {tgt : Nat} (h1 : -2147483648 ≤ x ∧ x < 2147483648) (hdg : decode cc pc = .ok (.ifCond .gt off, 3)) (ht : (pc : Int) + off = (tgt : Int)) (kt : 0 < x → W p l e R s m args below meth c H locs cells slots Q (F0 m tgt ls rest)) (kf : x ≤ 0 → W p l e R s m args below meth c H locs cells slots Q (F0 m (pc + 3) ls rest)) : W p l e R s m args below meth c H locs cells slots Q (F0 m pc ls (.int (iI x) :: rest)) := lv_if_gt hx hb hdg ht (fun h => kt (by rw [← iI_0, iI_lt (by omega) h1] at h; omega)) (fun h => kf (by rw [← iI_0, iI_lt (by omega) h1] at h; omega))
theorem wi_if_le (hx : p.tables.exec = Jvm.exec) (hb : c.code = cc) {x : Int} {off : Int} {tgt : Nat} (h1 : -2147483648 ≤ x ∧ x < 2147483648) (hdg : decode cc pc = .ok (.ifCond .le off, 3)) (ht : (pc : Int) + off = (tgt : Int)) (kt : x ≤ 0 → W p l e R s m args below meth c H locs cells slots Q (F0 m tgt ls rest)) (kf : 0 < x → W p l e R s m args below meth c H locs cells slots Q (F0 m (pc + 3) ls rest)) : W p l e R s m args below meth c H locs cells slots Q (F0 m pc ls (.int (iI x) :: rest)) := lv_if_le hx hb hdg ht (fun h => kt (by rw [← iI_0, iI_le h1 (by omega)] at h; omega)) (fun h => kf (by rw [← iI_0, iI_le h1 (by omega)] at h; omega))
theorem wi_iald (hx : p.tables.exec = Jvm.exec) (hb : c.code = cc) (hK : va_K D vwCl (TY G) s) (hP : va_P D vwCl ws H) (q0 : Nat) {n : Nat} {f : Nat → Int} (ha : ws[q0]? = some (a, .inl (G 0, n, .inl (ai f)))) {z : Int} (hz : 0 ≤ z ∧ z < n) (hn : n < 2147483648) (hdg : decode cc pc = .ok (.iaload, 1)) (k : W p l e R s m args below meth c H locs cells slots Q (F0 m (pc + 1) ls (.int (iI (f z.toNat)) :: rest))) : W p l e R s m args below meth c H locs cells slots Q (F0 m pc ls (.int (iI z) :: .ref a :: rest)) :=
  va_iald hx hb hK hP q0 0 ha rfl (iI_in hz hn) hdg (by rw [iI_clamp (by omega)]; exact k)
theorem wi_zald (hx : p.tables.exec = Jvm.exec) (hb : c.code = cc) (hK : va_K D vwCl (TY G) s) (hP : va_P D vwCl ws H) (q0 : Nat) {n : Nat} {f : Nat → Int} (ha : ws[q0]? = some (a, .inl (G 1, n, .inl (ai f)))) {z : Int} (hz : 0 ≤ z ∧ z < n) (hn : n < 2147483648) (hdg : decode cc pc = .ok (.baload, 1)) (k : W p l e R s m args below meth c H locs cells slots Q (F0 m (pc + 1) ls (.int (iI (f z.toNat)) :: rest))) : W p l e R s m args below meth c H locs cells slots Q (F0 m pc ls (.int (iI z) :: .ref a :: rest)) :=
  va_zald hx hb hK hP q0 1 ha rfl (iI_in hz hn) hdg (by rw [iI_clamp (by omega)]; exact k)
theorem wi_lald (hx : p.tables.exec = Jvm.exec) (hb : c.code = cc) (hK : va_K D vwCl (TY G) s) (hP : va_P D vwCl ws H) (q0 : Nat) {n : Nat} {f : Nat → Int64} (ha : ws[q0]? = some (a, .inl (G 2, n, .inr (.inl f)))) {z : Int} (hz : 0 ≤ z ∧ z < n) (hn : n < 2147483648) (hdg : decode cc pc = .ok (.laload, 1)) (k : W p l e R s m args below meth c H locs cells slots Q (F0 m (pc + 1) ls (.long (f z.toNat) :: rest))) : W p l e R s m args below meth c H locs cells slots Q (F0 m pc ls (.int (iI z) :: .ref a :: rest)) :=
  va_lald hx hb hK hP q0 2 ha rfl (iI_in hz hn) hdg (by rw [iI_clamp (by omega)]; exact k)
theorem wi_iast (hx : p.tables.exec = Jvm.exec) (hb : c.code = cc) (hK : va_K D vwCl (TY G) s) (hP : va_P D vwCl ws H) (hD : va_D A ws) (hS : va_S A H0 H locs) (q0 : Nat) {n : Nat} {f : Nat → Int} (ha : ws[q0]? = some (a, .inl (G 0, n, .inl (ai f)))) {z v : Int} (hz : 0 ≤ z ∧ z < n) (hn : n < 2147483648) (ws1 : va_W) (hw : ws.set q0 (a, .inl (G 0, n, .inl (ai (va_up f z.toNat v)))) = ws1) (hdg : decode cc pc = .ok (.iastore, 1))
    (k : ∀ (H1 : Heap) (locs1 : List Loc), va_P D vwCl ws1 H1 → va_D A ws1 → va_S A H0 H1 locs1 → W p l e R s m args below meth c H1 locs1 cells slots Q (F0 m (pc + 1) ls rest)) : W p l e R s m args below meth c H locs cells slots Q (F0 m pc ls (.int (iI v) :: .int (iI z) :: .ref a :: rest)) :=
  va_iast hx hb hK hP hD hS q0 0 ha rfl (iI_in hz hn) hdg (fun H1 locs1 p1 d1 s1 => by
    rw [iI_clamp (by omega), ai_up, hw] at p1 d1
    exact k H1 locs1 p1 d1 s1)
theorem wi_zast (hx : p.tables.exec = Jvm.exec) (hb : c.code = cc) (hK : va_K D vwCl (TY G) s) (hP : va_P D vwCl ws H) (hD : va_D A ws) (hS : va_S A H0 H locs) (q0 : Nat) {n : Nat} {f : Nat → Int} (ha : ws[q0]? = some (a, .inl (G 1, n, .inl (ai f)))) {z v : Int} (hz : 0 ≤ z ∧ z < n) (hn : n < 2147483648) (hv : v = 0 ∨ v = 1) (ws1 : va_W) (hw : ws.set q0 (a, .inl (G 1, n, .inl (ai (va_up f z.toNat v)))) = ws1) (hdg : decode cc pc = .ok (.bastore, 1))
    (k : ∀ (H1 : Heap) (locs1 : List Loc), va_P D vwCl ws1 H1 → va_D A ws1 → va_S A H0 H1 locs1 → W p l e R s m args below meth c H1 locs1 cells slots Q (F0 m (pc + 1) ls rest)) : W p l e R s m args below meth c H locs cells slots Q (F0 m pc ls (.int (iI v) :: .int (iI z) :: .ref a :: rest)) :=
  va_zast hx hb hK hP hD hS q0 1 ha rfl (iI_in hz hn) hdg (fun H1 locs1 p1 d1 s1 => by
    rw [iI_clamp (by omega), nz2 hv, ai_up, hw] at p1 d1
    exact k H1 locs1 p1 d1 s1)
theorem wi_last (hx : p.tables.exec = Jvm.exec) (hb : c.code = cc) (hK : va_K D vwCl (TY G) s) (hP : va_P D vwCl ws H) (hD : va_D A ws) (hS : va_S A H0 H locs) (q0 : Nat) {n : Nat} {f : Nat → Int64} (ha : ws[q0]? = some (a, .inl (G 2, n, .inr (.inl f)))) {z : Int} {v : Int64} (hz : 0 ≤ z ∧ z < n) (hn : n < 2147483648) (ws1 : va_W) (hw : ws.set q0 (a, .inl (G 2, n, .inr (.inl (vp_updL f z.toNat v)))) = ws1) (hdg : decode cc pc = .ok (.lastore, 1))
    (k : ∀ (H1 : Heap) (locs1 : List Loc), va_P D vwCl ws1 H1 → va_D A ws1 → va_S A H0 H1 locs1 → W p l e R s m args below meth c H1 locs1 cells slots Q (F0 m (pc + 1) ls rest)) : W p l e R s m args below meth c H locs cells slots Q (F0 m pc ls (.long v :: .int (iI z) :: .ref a :: rest)) :=
  va_last hx hb hK hP hD hS q0 2 ha rfl (iI_in hz hn) hdg (fun H1 locs1 p1 d1 s1 => by
    rw [iI_clamp (by omega), hw] at p1 d1
    exact k H1 locs1 p1 d1 s1)
theorem wi_alen (hx : p.tables.exec = Jvm.exec) (hb : c.code = cc) (hK : va_K D vwCl (TY G) s) (hP : va_P D vwCl ws H) (q0 t0 : Nat) {n : Nat} {x : vp_A} {cA : ClassId} (ha : ws[q0]? = some (a, .inl (cA, x))) {ty : FieldType} (ht : (TY G)[t0]? = some (cA, ty)) (hn : x.1 = n) (hdg : decode cc pc = .ok (.arraylength, 1)) (k : W p l e R s m args below meth c H locs cells slots Q (F0 m (pc + 1) ls (.int (iI (n : Int)) :: rest))) : W p l e R s m args below meth c H locs cells slots Q (F0 m pc ls (.ref a :: rest)) :=
  va_alen hx hb hK hP q0 t0 ha ht (by rw [hn]; exact iI_nI n) hdg k
/-- rows of a two-dimensional array: the outer one's place gives the row's address -/
theorem wi_aald (hx : p.tables.exec = Jvm.exec) (hb : c.code = cc) (hK : va_K D vwCl (TY G) s) (hP : va_P D vwCl ws H) (q0 : Nat) {n : Nat} {r : Nat → Nat} (ha : ws[q0]? = some (a, .inl (G 3, n, .inr (.inr (.inr (.inr (fun i => if i < n then some (r i) else none))))))) {z : Int} (hz : 0 ≤ z ∧ z < n) (hn : n < 2147483648) (hdg : decode cc pc = .ok (.aaload, 1)) (k : W p l e R s m args below meth c H locs cells slots Q (F0 m (pc + 1) ls (.ref (r z.toNat) :: rest))) : W p l e R s m args below meth c H locs cells slots Q (F0 m pc ls (.int (iI z) :: .ref a :: rest)) := by
  have hin := iI_in hz hn
  have hcl : (iI z).toNatClampNeg = z.toNat := iI_clamp (by omega)
  have hlt : (iI z).toNatClampNeg < n := by rw [hcl]; omega
  refine W.aald (v := va_rf ((fun i => if i < n then some (r i) else none) (iI z).toNatClampNeg)) (ty := .array .int) hx hb (hP q0 _ ha) ((hK.2 3 _ rfl).1 n (fun j => va_rf ((fun i => if i < n then some (r i) else none) j))) rfl (fun q => by cases q) (by show ¬ (iI z < 0 ∨ (arrV _ _ _).slots.size ≤ _); rw [arrV_size]; exact hin) (by show (arrV _ _ _).slots[_]? = _; rw [arrV_read _ _ hlt]) rfl rfl hdg ?_
  show W p l e R s m args below meth c H locs cells slots Q (F0 m (pc + 1) ls (va_rf (if (iI z).toNatClampNeg < n then some (r (iI z).toNatClampNeg) else none) :: rest))
  rw [if_pos hlt, hcl]
  exact k
theorem blindW {av : List Value} {wc : List va_W} {sz : Nat} : FrameBlind (va_Pc av (PreW D G wc sz)) := fun a U g mk q => by
  obtain ⟨q0, q1, qP, qK, qD⟩ := q
  exact ⟨q0, q1, qP, va_K.moved (u := U) (U := U.calling g mk a) (Vm.Alike.refl U.vm) qK, qD⟩
theorem freeW {wc wr : va_W} (hD : va_D A (wc ++ wr)) (hS : va_S A H0 H locs) (hA : ∀ q : Nat, H0.size ≤ q → A q) : ∀ q, va_A wc H.size q → A q := by
  intro q h
  rcases h with ⟨k, e, h⟩ | h
  · have := (D_pw.mp hD).2 (q, e) (List.mem_append_left _ (List.mem_of_getElem? h))
    exact this
  · exact hA q (Nat.le_trans hS.1 h)
variable {y : MethodName} {bytes : ByteArray} {maxL nL n index : Nat} {ret : Option FieldType} {wy Ts : List Cond} {rm : Room} {own C : String} {b : Addr} {As st0 : List Value} {S : Type} {Bs wc wr : List va_W} {w1 Bs1 : S → List va_W}
theorem ca_i {post : Int32 → S → Prop} (hr : ∀ av : Array Value, va_P D vwCl (fl wc) H → va_D (fun _ => True) (fl wc) → va_K D vwCl (TY G) s → va_Run p l e R s m args below meth c H locs cells slots 0 0 (F0 m pc ls st0) rest (va_Qi post (fun u t => PostW D G (va_A (fl wc) H.size) (w1 u) t) (va_A (fl wc) H.size) av) (va_A (fl wc) H.size))
    (hK : va_K D vwCl (TY G) s) (hP : va_P D vwCl (fl Bs) H) (hD : va_D A (fl Bs)) (hS : va_S A H0 H locs) (hA : ∀ q : Nat, H0.size ≤ q → A q) (hp : Bs.Perm (wc ++ wr)) (hp1 : ∀ u, (w1 u ++ wr).Perm (Bs1 u))
    (k : ∀ (r : Int32) (u : S) (H1 : Heap) (locs1 : List Loc), post r u → va_P D vwCl (fl (Bs1 u)) H1 → va_D A (fl (Bs1 u)) → va_S A H0 H1 locs1 → W p l e R s m args below meth c H1 locs1 cells slots Q (F0 m (pc + 3) ls (.int r :: rest))) : W p l e R s m args below meth c H locs cells slots Q (F0 m pc ls st0) := by
  have hP' := P_perm (fl_perm hp) hP
  have hD' := D_perm (fl_perm hp) hD
  rw [fl_app] at hP' hD'
  have hPc : va_P D vwCl (fl wc) H := fun i q hi => by
    obtain ⟨j, hj⟩ := List.getElem?_of_mem (List.mem_append_left (fl wr) (List.mem_of_getElem? hi))
    exact hP' j q hj
  have hDc : va_D (fun _ => True) (fl wc) := D_pw.mpr ⟨(List.pairwise_append.mp (D_pw.mp hD').1).1, fun _ _ => trivial⟩
  have hF := freeW hD' hS hA
  refine va_calli (hr #[] hPc hDc hK) hS (fun q _ h => hF q h) hF (fun r u t H1 locs1 ht hvm hw hB hz1 hk1 hS1 => ?_)
  obtain ⟨hP1, -, hD1⟩ := hB
  rw [ht] at hP1
  obtain ⟨p2, d2⟩ := jn hP' hD' hk1 hF hP1 hD1
  rw [← fl_app] at p2 d2
  exact k r u H1 locs1 hw (P_perm (fl_perm (hp1 u)) p2) (D_perm (fl_perm (hp1 u)) d2) hS1
theorem ca_v {post : S → Prop} (hr : ∀ av : Array Value, va_P D vwCl (fl wc) H → va_D (fun _ => True) (fl wc) → va_K D vwCl (TY G) s → va_Run p l e R s m args below meth c H locs cells slots 0 0 (F0 m pc ls st0) rest (va_Qv post (fun u t => PostW D G (va_A (fl wc) H.size) (w1 u) t) (va_A (fl wc) H.size) av) (va_A (fl wc) H.size))
    (hK : va_K D vwCl (TY G) s) (hP : va_P D vwCl (fl Bs) H) (hD : va_D A (fl Bs)) (hS : va_S A H0 H locs) (hA : ∀ q : Nat, H0.size ≤ q → A q) (hp : Bs.Perm (wc ++ wr)) (hp1 : ∀ u, (w1 u ++ wr).Perm (Bs1 u))
    (k : ∀ (u : S) (H1 : Heap) (locs1 : List Loc), post u → va_P D vwCl (fl (Bs1 u)) H1 → va_D A (fl (Bs1 u)) → va_S A H0 H1 locs1 → W p l e R s m args below meth c H1 locs1 cells slots Q (F0 m (pc + 3) ls rest)) : W p l e R s m args below meth c H locs cells slots Q (F0 m pc ls st0) := by
  have hP' := P_perm (fl_perm hp) hP
  have hD' := D_perm (fl_perm hp) hD
  rw [fl_app] at hP' hD'
  have hPc : va_P D vwCl (fl wc) H := fun i q hi => by
    obtain ⟨j, hj⟩ := List.getElem?_of_mem (List.mem_append_left (fl wr) (List.mem_of_getElem? hi))
    exact hP' j q hj
  have hDc : va_D (fun _ => True) (fl wc) := D_pw.mpr ⟨(List.pairwise_append.mp (D_pw.mp hD').1).1, fun _ _ => trivial⟩
  have hF := freeW hD' hS hA
  refine va_callv (hr #[] hPc hDc hK) hS (fun q _ h => hF q h) hF (fun u t H1 locs1 ht hvm hw hB hz1 hk1 hS1 => ?_)
  obtain ⟨hP1, -, hD1⟩ := hB
  rw [ht] at hP1
  obtain ⟨p2, d2⟩ := jn hP' hD' hk1 hF hP1 hD1
  rw [← fl_app] at p2 d2
  exact k u H1 locs1 hw (P_perm (fl_perm (hp1 u)) p2) (D_perm (fl_perm (hp1 u)) d2) hS1
theorem cV_i {post : Int32 → S → Prop} (hM : CtI l y wy rm D G (.ref b :: As) wc post w1) (hst : st0 = As.reverse ++ .ref b :: rest) (hs : CallFix p m c cc nL s args Ts own) (cw : CallW R s args own C index y bytes maxL ret wy rm 0 0 n) {q0 ci : Nat} {q : vw_C} {fs : List Value} (he : (fl wc)[q0]? = some (b, .inr (ci, fs))) (hc : vwCl[ci]? = some q) (hq : q.1 = C) (hn : As.length = n) (hsize : ls.size = nL) (hW : (rest.map fun v => v.category).sum ≤ 8) (hcs : cells ≤ R.cells ∧ slots ≤ R.slots) (hdg : decode cc pc = .ok (.invokevirtual index, 3))
    (hK : va_K D vwCl (TY G) s) (hP : va_P D vwCl (fl Bs) H) (hD : va_D A (fl Bs)) (hS : va_S A H0 H locs) (hA : ∀ q : Nat, H0.size ≤ q → A q) (hp : Bs.Perm (wc ++ wr)) (hp1 : ∀ u, (w1 u ++ wr).Perm (Bs1 u))
    (k : ∀ (r : Int32) (u : S) (H1 : Heap) (locs1 : List Loc), post r u → va_P D vwCl (fl (Bs1 u)) H1 → va_D A (fl (Bs1 u)) → va_S A H0 H1 locs1 → W p l e R s m args below meth c H1 locs1 cells slots Q (F0 m (pc + 3) ls (.int r :: rest))) : W p l e R s m args below meth c H locs cells slots Q (F0 m pc ls st0) := by
  subst hq
  refine ca_i (fun av hPc hDc hKc => ?_) hK hP hD hS hA hp hp1 k
  exact va_runV (As := As) (rest := rest) hs (hM H.size) cw ⟨blindW, va_recv hKc hPc hc he, fun U hU hW => ⟨rfl, by rw [hU], by rw [hU]; exact hPc, va_K.moved hW.alike hKc, hDc⟩⟩ rfl hn hsize hst (lv_room hW) hdg hcs
theorem cV_v {post : S → Prop} (hM : CtV l y wy rm D G (.ref b :: As) wc post w1) (hst : st0 = As.reverse ++ .ref b :: rest) (hs : CallFix p m c cc nL s args Ts own) (cw : CallW R s args own C index y bytes maxL ret wy rm 0 0 n) {q0 ci : Nat} {q : vw_C} {fs : List Value} (he : (fl wc)[q0]? = some (b, .inr (ci, fs))) (hc : vwCl[ci]? = some q) (hq : q.1 = C) (hn : As.length = n) (hsize : ls.size = nL) (hW : (rest.map fun v => v.category).sum ≤ 8) (hcs : cells ≤ R.cells ∧ slots ≤ R.slots) (hdg : decode cc pc = .ok (.invokevirtual index, 3))
    (hK : va_K D vwCl (TY G) s) (hP : va_P D vwCl (fl Bs) H) (hD : va_D A (fl Bs)) (hS : va_S A H0 H locs) (hA : ∀ q : Nat, H0.size ≤ q → A q) (hp : Bs.Perm (wc ++ wr)) (hp1 : ∀ u, (w1 u ++ wr).Perm (Bs1 u))
    (k : ∀ (u : S) (H1 : Heap) (locs1 : List Loc), post u → va_P D vwCl (fl (Bs1 u)) H1 → va_D A (fl (Bs1 u)) → va_S A H0 H1 locs1 → W p l e R s m args below meth c H1 locs1 cells slots Q (F0 m (pc + 3) ls rest)) : W p l e R s m args below meth c H locs cells slots Q (F0 m pc ls st0) := by
  subst hq
  refine ca_v (fun av hPc hDc hKc => ?_) hK hP hD hS hA hp hp1 k
  exact va_runV (As := As) (rest := rest) hs (hM H.size) cw ⟨blindW, va_recv hKc hPc hc he, fun U hU hW => ⟨rfl, by rw [hU], by rw [hU]; exact hPc, va_K.moved hW.alike hKc, hDc⟩⟩ rfl hn hsize hst (lv_room hW) hdg hcs
theorem cS_i {post : Int32 → S → Prop} (hM : CtI l y wy rm D G As wc post w1) (hst : st0 = As.reverse ++ rest) (hs : CallFix p m c cc nL s args Ts own) (cw : CallB R s args own index y bytes maxL ret wy rm 0 0 n ∧ (Cond.static y).before args s = true) (hn : As.length = n) (hsize : ls.size = nL) (hW : (rest.map fun v => v.category).sum ≤ 8) (hcs : cells ≤ R.cells ∧ slots ≤ R.slots) (hdg : decode cc pc = .ok (.invokestatic index, 3))
    (hK : va_K D vwCl (TY G) s) (hP : va_P D vwCl (fl Bs) H) (hD : va_D A (fl Bs)) (hS : va_S A H0 H locs) (hA : ∀ q : Nat, H0.size ≤ q → A q) (hp : Bs.Perm (wc ++ wr)) (hp1 : ∀ u, (w1 u ++ wr).Perm (Bs1 u))
    (k : ∀ (r : Int32) (u : S) (H1 : Heap) (locs1 : List Loc), post r u → va_P D vwCl (fl (Bs1 u)) H1 → va_D A (fl (Bs1 u)) → va_S A H0 H1 locs1 → W p l e R s m args below meth c H1 locs1 cells slots Q (F0 m (pc + 3) ls (.int r :: rest))) : W p l e R s m args below meth c H locs cells slots Q (F0 m pc ls st0) := by
  refine ca_i (fun av hPc hDc hKc => ?_) hK hP hD hS hA hp hp1 k
  exact va_runS (As := As) (rest := rest) hs (hM H.size) cw ⟨blindW, fun U hU hW => ⟨rfl, by rw [hU], by rw [hU]; exact hPc, va_K.moved hW.alike hKc, hDc⟩⟩ rfl hn hsize hst (lv_room hW) hdg hcs
theorem cS_v {post : S → Prop} (hM : CtV l y wy rm D G As wc post w1) (hst : st0 = As.reverse ++ rest) (hs : CallFix p m c cc nL s args Ts own) (cw : CallB R s args own index y bytes maxL ret wy rm 0 0 n ∧ (Cond.static y).before args s = true) (hn : As.length = n) (hsize : ls.size = nL) (hW : (rest.map fun v => v.category).sum ≤ 8) (hcs : cells ≤ R.cells ∧ slots ≤ R.slots) (hdg : decode cc pc = .ok (.invokestatic index, 3))
    (hK : va_K D vwCl (TY G) s) (hP : va_P D vwCl (fl Bs) H) (hD : va_D A (fl Bs)) (hS : va_S A H0 H locs) (hA : ∀ q : Nat, H0.size ≤ q → A q) (hp : Bs.Perm (wc ++ wr)) (hp1 : ∀ u, (w1 u ++ wr).Perm (Bs1 u))
    (k : ∀ (u : S) (H1 : Heap) (locs1 : List Loc), post u → va_P D vwCl (fl (Bs1 u)) H1 → va_D A (fl (Bs1 u)) → va_S A H0 H1 locs1 → W p l e R s m args below meth c H1 locs1 cells slots Q (F0 m (pc + 3) ls rest)) : W p l e R s m args below meth c H locs cells slots Q (F0 m pc ls st0) := by
  refine ca_v (fun av hPc hDc hKc => ?_) hK hP hD hS hA hp hp1 k
  exact va_runS (As := As) (rest := rest) hs (hM H.size) cw ⟨blindW, fun U hU hW => ⟨rfl, by rw [hU], by rw [hU]; exact hPc, va_K.moved hW.alike hKc, hDc⟩⟩ rfl hn hsize hst (lv_room hW) hdg hcs
end BASE
end
section
/-! a cell of a block of a world; the rows that read and write it -/
theorem fl_at {Bs : List va_W} {i j : Nat} {B : va_W} {x : Nat × va_E} (hi : Bs[i]? = some B) (hj : B[j]? = some x) : ∃ k : Nat, (fl Bs)[k]? = some x ∧ ∀ y, (fl Bs).set k y = fl (Bs.set i (B.set j y)) := by
  induction Bs generalizing i with
  | nil => simp at hi
  | cons C Bs ih =>
    have hlt : j < B.length := (List.getElem?_eq_some_iff.mp hj).1
    cases i with
    | zero =>
      have e : C = B := by simpa using hi
      subst e
      refine ⟨j, ?_, fun y => ?_⟩
      · show (List.flatten (C :: Bs))[j]? = some x
        rw [List.flatten_cons, List.getElem?_append_left hlt]
        exact hj
      · show (List.flatten (C :: Bs)).set j y = List.flatten (C.set j y :: Bs)
        rw [List.flatten_cons, List.flatten_cons, List.set_append_left _ _ hlt]
    | succ i =>
      obtain ⟨k, h1, h2⟩ := ih (i := i) (by simpa using hi)
      refine ⟨C.length + k, ?_, fun y => ?_⟩
      · show (List.flatten (C :: Bs))[C.length + k]? = some x
        rw [List.flatten_cons, List.getElem?_append_right (by omega), Nat.add_sub_cancel_left]
        exact h1
      · show (List.flatten (C :: Bs)).set (C.length + k) y = List.flatten (C :: Bs.set i (B.set j y))
        rw [List.flatten_cons, List.flatten_cons, List.set_append_right _ _ (by omega), Nat.add_sub_cancel_left]
        exact congrArg (fun z => C ++ z) (h2 y)
section GROWS
variable {p : Program} {l : Launch} {e : Env} {R : Room} {s : State} {m : MethodId} {args : Array Value} {below : List Frame} {meth : Method} {c : Code} {H : Heap} {locs : List Loc} {cells slots : Nat} {Q : State → Prop}
variable {cc : ByteArray} {pc : Nat} {ls : Array Slot} {rest : List Value} {D : va_G} {A : Nat → Prop} {a : Nat} {Bs Bs1 : List va_W} {H0 : Heap} {G : Nat → ClassId} {i j : Nat} {B B1 : va_W}
theorem g_get (hx : p.tables.exec = Jvm.exec) (hb : c.code = cc) {own C : String} {T : u_T} {N ci index : Nat} {Ts : List Cond} (hts : ∀ w ∈ Ts, w.before args s = true) (hin : ∀ w ∈ u_ws C T N, w ∈ Ts) (hown : s.vm.findClass own = some m.cls) (hK : va_K D vwCl (TY G) s) (hP : va_P D vwCl (fl Bs) H) (hi : Bs[i]? = some B) {fs : List Value} (hj : B[j]? = some (a, .inr (ci, fs))) (hc : vwCl[ci]? = some (C, T, N)) (k : Nat) (hk : k < N) (hlink : Cond.fieldLink own index (T k).1 (T k).2.1 (T k).2.2.1 ∈ Ts) {v : Value} (hv : fs[k]? = some v) (hdg : decode cc pc = .ok (.getfield index, 3))
    (kk : W p l e R s m args below meth c H locs cells slots Q (F0 m (pc + 3) ls (v :: rest))) : W p l e R s m args below meth c H locs cells slots Q (F0 m pc ls (.ref a :: rest)) := by
  obtain ⟨k1, e1, -⟩ := fl_at hi hj
  exact va_get hx hb hts hin hown hK hP k1 e1 hc k hk (hts _ hlink) (fun _ h => h) hv hdg kk
theorem g_put (hx : p.tables.exec = Jvm.exec) (hb : c.code = cc) {own C : String} {T : u_T} {N ci index : Nat} {Ts : List Cond} (hts : ∀ w ∈ Ts, w.before args s = true) (hin : ∀ w ∈ u_ws C T N, w ∈ Ts) (ty0 : Nat → FieldType) (hty : ∀ k, k < N → parseFieldDescriptor (T k).2.2.1 = some (ty0 k)) (hnm : ∀ a, a < N → ∀ b, b < N → a ≠ b → (T a).2.1 ≠ (T b).2.1) (hown : s.vm.findClass own = some m.cls) (hK : va_K D vwCl (TY G) s) (hP : va_P D vwCl (fl Bs) H) (hD : va_D A (fl Bs)) (hS : va_S A H0 H locs) (hi : Bs[i]? = some B) {fs : List Value} (hj : B[j]? = some (a, .inr (ci, fs))) (hc : vwCl[ci]? = some (C, T, N)) (k : Nat) (hk : k < N) (hlink : Cond.fieldLink own index (T k).1 (T k).2.1 (T k).2.2.1 ∈ Ts) (hfin : (T k).2.2.2 = false) {v : Int32} (hd : parseFieldDescriptor (T k).2.2.1 = some .int) (hl : k < fs.length) (hB : B.set j (a, .inr (ci, fs.set k (.int v))) = B1) (hBs : Bs.set i B1 = Bs1) (hdg : decode cc pc = .ok (.putfield index, 3))
    (kk : ∀ (H1 : Heap) (locs1 : List Loc), va_P D vwCl (fl Bs1) H1 → va_D A (fl Bs1) → va_S A H0 H1 locs1 → W p l e R s m args below meth c H1 locs1 cells slots Q (F0 m (pc + 3) ls rest)) : W p l e R s m args below meth c H locs cells slots Q (F0 m pc ls (.int v :: .ref a :: rest)) := by
  obtain ⟨k1, e1, s1⟩ := fl_at hi hj
  refine va_put hx hb hts hin ty0 hty hnm hown hK hP hD hS k1 e1 hc k hk (hts _ hlink) (fun _ h => h) hfin hd rfl rfl hl hdg (fun H1 locs1 p1 d1 s9 => ?_)
  rw [s1, hB, hBs] at p1 d1
  exact kk H1 locs1 p1 d1 s9
theorem g_iald (hx : p.tables.exec = Jvm.exec) (hb : c.code = cc) (hK : va_K D vwCl (TY G) s) (hP : va_P D vwCl (fl Bs) H) (hi : Bs[i]? = some B) {n : Nat} {f : Nat → Int} (hj : B[j]? = some (a, .inl (G 0, n, .inl (ai f)))) {z : Int} (hz : 0 ≤ z ∧ z < n) (hn : n < 2147483648) (hdg : decode cc pc = .ok (.iaload, 1)) (k : W p l e R s m args below meth c H locs cells slots Q (F0 m (pc + 1) ls (.int (iI (f z.toNat)) :: rest))) : W p l e R s m args below meth c H locs cells slots Q (F0 m pc ls (.int (iI z) :: .ref a :: rest)) := by
  obtain ⟨k1, e1, -⟩ := fl_at hi hj
  exact wi_iald hx hb hK hP k1 e1 hz hn hdg k
theorem g_zald (hx : p.tables.exec = Jvm.exec) (hb : c.code = cc) (hK : va_K D vwCl (TY G) s) (hP : va_P D vwCl (fl Bs) H) (hi : Bs[i]? = some B) {n : Nat} {f : Nat → Int} (hj : B[j]? = some (a, .inl (G 1, n, .inl (ai f)))) {z : Int} (hz : 0 ≤ z ∧ z < n) (hn : n < 2147483648) (hdg : decode cc pc = .ok (.baload, 1)) (k : W p l e R s m args below meth c H locs cells slots Q (F0 m (pc + 1) ls (.int (iI (f z.toNat)) :: rest))) : W p l e R s m args below meth c H locs cells slots Q (F0 m pc ls (.int (iI z) :: .ref a :: rest)) := by
  obtain ⟨k1, e1, -⟩ := fl_at hi hj
  exact wi_zald hx hb hK hP k1 e1 hz hn hdg k
theorem g_lald (hx : p.tables.exec = Jvm.exec) (hb : c.code = cc) (hK : va_K D vwCl (TY G) s) (hP : va_P D vwCl (fl Bs) H) (hi : Bs[i]? = some B) {n : Nat} {f : Nat → Int64} (hj : B[j]? = some (a, .inl (G 2, n, .inr (.inl f)))) {z : Int} (hz : 0 ≤ z ∧ z < n) (hn : n < 2147483648) (hdg : decode cc pc = .ok (.laload, 1)) (k : W p l e R s m args below meth c H locs cells slots Q (F0 m (pc + 1) ls (.long (f z.toNat) :: rest))) : W p l e R s m args below meth c H locs cells slots Q (F0 m pc ls (.int (iI z) :: .ref a :: rest)) := by
  obtain ⟨k1, e1, -⟩ := fl_at hi hj
  exact wi_lald hx hb hK hP k1 e1 hz hn hdg k
theorem g_aald (hx : p.tables.exec = Jvm.exec) (hb : c.code = cc) (hK : va_K D vwCl (TY G) s) (hP : va_P D vwCl (fl Bs) H) (hi : Bs[i]? = some B) {n : Nat} {r : Nat → Nat} (hj : B[j]? = some (a, .inl (G 3, n, .inr (.inr (.inr (.inr (fun i => if i < n then some (r i) else none))))))) {z : Int} (hz : 0 ≤ z ∧ z < n) (hn : n < 2147483648) (hdg : decode cc pc = .ok (.aaload, 1)) (k : W p l e R s m args below meth c H locs cells slots Q (F0 m (pc + 1) ls (.ref (r z.toNat) :: rest))) : W p l e R s m args below meth c H locs cells slots Q (F0 m pc ls (.int (iI z) :: .ref a :: rest)) := by
  obtain ⟨k1, e1, -⟩ := fl_at hi hj
  exact wi_aald hx hb hK hP k1 e1 hz hn hdg k
theorem g_alen (hx : p.tables.exec = Jvm.exec) (hb : c.code = cc) (hK : va_K D vwCl (TY G) s) (hP : va_P D vwCl (fl Bs) H) (t0 : Nat) (hi : Bs[i]? = some B) {n : Nat} {x : vp_A} {cA : ClassId} (hj : B[j]? = some (a, .inl (cA, x))) {ty : FieldType} (ht : (TY G)[t0]? = some (cA, ty)) (hn : x.1 = n) (hdg : decode cc pc = .ok (.arraylength, 1)) (k : W p l e R s m args below meth c H locs cells slots Q (F0 m (pc + 1) ls (.int (iI (n : Int)) :: rest))) : W p l e R s m args below meth c H locs cells slots Q (F0 m pc ls (.ref a :: rest)) := by
  obtain ⟨k1, e1, -⟩ := fl_at hi hj
  exact wi_alen hx hb hK hP k1 t0 e1 ht hn hdg k
theorem g_iast (hx : p.tables.exec = Jvm.exec) (hb : c.code = cc) (hK : va_K D vwCl (TY G) s) (hP : va_P D vwCl (fl Bs) H) (hD : va_D A (fl Bs)) (hS : va_S A H0 H locs) (hi : Bs[i]? = some B) {n : Nat} {f : Nat → Int} (hj : B[j]? = some (a, .inl (G 0, n, .inl (ai f)))) {z v : Int} (hz : 0 ≤ z ∧ z < n) (hn : n < 2147483648) (hB : B.set j (a, .inl (G 0, n, .inl (ai (va_up f z.toNat v)))) = B1) (hBs : Bs.set i B1 = Bs1) (hdg : decode cc pc = .ok (.iastore, 1))
    (k : ∀ (H1 : Heap) (locs1 : List Loc), va_P D vwCl (fl Bs1) H1 → va_D A (fl Bs1) → va_S A H0 H1 locs1 → W p l e R s m args below meth c H1 locs1 cells slots Q (F0 m (pc + 1) ls rest)) : W p l e R s m args below meth c H locs cells slots Q (F0 m pc ls (.int (iI v) :: .int (iI z) :: .ref a :: rest)) := by
  obtain ⟨k1, e1, s1⟩ := fl_at hi hj
  exact wi_iast hx hb hK hP hD hS k1 e1 hz hn (fl Bs1) (by rw [s1, hB, hBs]) hdg k
theorem g_zast (hx : p.tables.exec = Jvm.exec) (hb : c.code = cc) (hK : va_K D vwCl (TY G) s) (hP : va_P D vwCl (fl Bs) H) (hD : va_D A (fl Bs)) (hS : va_S A H0 H locs) (hi : Bs[i]? = some B) {n : Nat} {f : Nat → Int} (hj : B[j]? = some (a, .inl (G 1, n, .inl (ai f)))) {z v : Int} (hz : 0 ≤ z ∧ z < n) (hn : n < 2147483648) (hv : v = 0 ∨ v = 1) (hB : B.set j (a, .inl (G 1, n, .inl (ai (va_up f z.toNat v)))) = B1) (hBs : Bs.set i B1 = Bs1) (hdg : decode cc pc = .ok (.bastore, 1))
    (k : ∀ (H1 : Heap) (locs1 : List Loc), va_P D vwCl (fl Bs1) H1 → va_D A (fl Bs1) → va_S A H0 H1 locs1 → W p l e R s m args below meth c H1 locs1 cells slots Q (F0 m (pc + 1) ls rest)) : W p l e R s m args below meth c H locs cells slots Q (F0 m pc ls (.int (iI v) :: .int (iI z) :: .ref a :: rest)) := by
  obtain ⟨k1, e1, s1⟩ := fl_at hi hj
  exact wi_zast hx hb hK hP hD hS k1 e1 hz hn hv (fl Bs1) (by rw [s1, hB, hBs]) hdg k
theorem g_last (hx : p.tables.exec = Jvm.exec) (hb : c.code = cc) (hK : va_K D vwCl (TY G) s) (hP : va_P D vwCl (fl Bs) H) (hD : va_D A (fl Bs)) (hS : va_S A H0 H locs) (hi : Bs[i]? = some B) {n : Nat} {f : Nat → Int64} (hj : B[j]? = some (a, .inl (G 2, n, .inr (.inl f)))) {z : Int} {v : Int64} (hz : 0 ≤ z ∧ z < n) (hn : n < 2147483648) (hB : B.set j (a, .inl (G 2, n, .inr (.inl (vp_updL f z.toNat v)))) = B1) (hBs : Bs.set i B1 = Bs1) (hdg : decode cc pc = .ok (.lastore, 1))
    (k : ∀ (H1 : Heap) (locs1 : List Loc), va_P D vwCl (fl Bs1) H1 → va_D A (fl Bs1) → va_S A H0 H1 locs1 → W p l e R s m args below meth c H1 locs1 cells slots Q (F0 m (pc + 1) ls rest)) : W p l e R s m args below meth c H locs cells slots Q (F0 m pc ls (.long v :: .int (iI z) :: .ref a :: rest)) := by
  obtain ⟨k1, e1, s1⟩ := fl_at hi hj
  exact wi_last hx hb hK hP hD hS k1 e1 hz hn (fl Bs1) (by rw [s1, hB, hBs]) hdg k
theorem g_mmax (hx : p.tables.exec = Jvm.exec) (hb : c.code = cc) (hml : c.maxLocals = ls.size) {own : String} {index : Nat} {Ts : List Cond} (hts : ∀ w ∈ Ts, w.before args s = true) (hown : s.vm.findClass own = some m.cls) (h1 : Cond.methodLink own index Lib.Math.max.name ∈ Ts) (h2 : Cond.static Lib.Math.max.name ∈ Ts) (h3 : Cond.initialized "java/lang/Math" ∈ Ts) (h4 : Cond.code Lib.Math.max.name Lib.Math.max.code 2 (some .int) ∈ Ts) (hr : 1 ≤ R.frames ∧ (rest.map fun v => v.category).sum + 13 ≤ R.locals ∧ cells ≤ R.cells ∧ slots ≤ R.slots) {x y : Int} (r1 : -2147483648 ≤ x ∧ x < 2147483648) (r2 : -2147483648 ≤ y ∧ y < 2147483648) (hdg : decode cc pc = .ok (.invokestatic index, 3))
    (kk : W p l e R s m args below meth c H locs cells slots Q (F0 m (pc + 3) ls (.int (iI (if x < y then y else x)) :: rest))) : W p l e R s m args below meth c H locs cells slots Q (F0 m pc ls (.int (iI y) :: .int (iI x) :: rest)) :=
  va_mmax hx hb hml hown (hts _ h1) (hts _ h2) (hts _ h3) (hts _ h4) hr.1 hr.2.1 hr.2.2.1 hr.2.2.2 hdg (by
    have e9 : (if iI x < iI y then iI y else iI x) = iI (if x < y then y else x) := by
      by_cases h : x < y
      · rw [if_pos h, if_pos ((iI_lt r1 r2).mpr h)]
      · rw [if_neg h, if_neg (fun q => h ((iI_lt r1 r2).mp q))]
    rw [e9]
    exact kk)
theorem g_mmin (hx : p.tables.exec = Jvm.exec) (hb : c.code = cc) (hml : c.maxLocals = ls.size) {own : String} {index : Nat} {Ts : List Cond} (hts : ∀ w ∈ Ts, w.before args s = true) (hown : s.vm.findClass own = some m.cls) (h1 : Cond.methodLink own index Lib.Math.min.name ∈ Ts) (h2 : Cond.static Lib.Math.min.name ∈ Ts) (h3 : Cond.initialized "java/lang/Math" ∈ Ts) (h4 : Cond.code Lib.Math.min.name Lib.Math.min.code 2 (some .int) ∈ Ts) (hr : 1 ≤ R.frames ∧ (rest.map fun v => v.category).sum + 13 ≤ R.locals ∧ cells ≤ R.cells ∧ slots ≤ R.slots) {x y : Int} (r1 : -2147483648 ≤ x ∧ x < 2147483648) (r2 : -2147483648 ≤ y ∧ y < 2147483648) (hdg : decode cc pc = .ok (.invokestatic index, 3))
    (kk : W p l e R s m args below meth c H locs cells slots Q (F0 m (pc + 3) ls (.int (iI (if y < x then y else x)) :: rest))) : W p l e R s m args below meth c H locs cells slots Q (F0 m pc ls (.int (iI y) :: .int (iI x) :: rest)) :=
  va_mmin hx hb hml hown (hts _ h1) (hts _ h2) (hts _ h3) (hts _ h4) hr.1 hr.2.1 hr.2.2.1 hr.2.2.2 hdg (by
    have e9 : (if iI y < iI x then iI y else iI x) = iI (if y < x then y else x) := by
      by_cases h : y < x
      · rw [if_pos h, if_pos ((iI_lt r2 r1).mpr h)]
      · rw [if_neg h, if_neg (fun q => h ((iI_lt r2 r1).mp q))]
    rw [e9]
    exact kk)
theorem g_mabs (hx : p.tables.exec = Jvm.exec) (hb : c.code = cc) (hml : c.maxLocals = ls.size) {own : String} {index : Nat} {Ts : List Cond} (hts : ∀ w ∈ Ts, w.before args s = true) (hown : s.vm.findClass own = some m.cls) (h1 : Cond.methodLink own index Lib.Math.abs.name ∈ Ts) (h2 : Cond.static Lib.Math.abs.name ∈ Ts) (h3 : Cond.initialized "java/lang/Math" ∈ Ts) (h4 : Cond.code Lib.Math.abs.name Lib.Math.abs.code 1 (some .int) ∈ Ts) (hr : 1 ≤ R.frames ∧ (rest.map fun v => v.category).sum + 13 ≤ R.locals ∧ cells ≤ R.cells ∧ slots ≤ R.slots) {x : Int} (r1 : -2147483648 ≤ x ∧ x < 2147483648) (hdg : decode cc pc = .ok (.invokestatic index, 3))
    (kk : W p l e R s m args below meth c H locs cells slots Q (F0 m (pc + 3) ls (.int (iI (if 0 ≤ x then x else -x)) :: rest))) : W p l e R s m args below meth c H locs cells slots Q (F0 m pc ls (.int (iI x) :: rest)) :=
  va_mabs hx hb hml hown (hts _ h1) (hts _ h2) (hts _ h3) (hts _ h4) hr.1 hr.2.1 hr.2.2.1 hr.2.2.2 hdg (by
    have e9 : (if (0 : Int32) ≤ iI x then iI x else 0 - iI x) = iI (if 0 ≤ x then x else -x) := by
      have r0 : (-2147483648 : Int) ≤ 0 ∧ (0 : Int) < 2147483648 := by omega
      by_cases h : 0 ≤ x
      · rw [if_pos h, ← iI_0, if_pos ((iI_le r0 r1).mpr h)]
      · rw [if_neg h, ← iI_0, if_neg (fun q => h ((iI_le r0 r1).mp q)), iI_sub]
        congr 1
        omega
    rw [e9]
    exact kk)
theorem wi_tableIn (hx : p.tables.exec = Jvm.exec) (hb : c.code = cc) {dflt lo hi : Int} {offs : Array Int} {len : Nat} {x : Int} {off : Int} {tgt : Nat} (hdg : decode cc pc = .ok (.tableswitch dflt lo hi offs, len)) (h0 : -2147483648 ≤ x ∧ x < 2147483648) (h1 : lo ≤ x ∧ x ≤ hi) (ho : offs[(x - lo).toNat]? = some off) (ht : (pc : Int) + off = (tgt : Int)) (k : W p l e R s m args below meth c H locs cells slots Q (F0 m tgt ls rest)) : W p l e R s m args below meth c H locs cells slots Q (F0 m pc ls (.int (iI x) :: rest)) :=
  lv_tableIn hx hb hdg (by rw [iI_toInt h0]; omega) (by rw [iI_toInt h0]; omega) (by rw [iI_toInt h0]; exact ho) ht k
theorem wi_tableOut (hx : p.tables.exec = Jvm.exec) (hb : c.code = cc) {dflt lo hi : Int} {offs : Array Int} {len : Nat} {x : Int} {tgt : Nat} (hdg : decode cc pc = .ok (.tableswitch dflt lo hi offs, len)) (h0 : -2147483648 ≤ x ∧ x < 2147483648) (h1 : x < lo ∨ hi < x) (ht : (pc : Int) + dflt = (tgt : Int)) (k : W p l e R s m args below meth c H locs cells slots Q (F0 m tgt ls rest)) : W p l e R s m args below meth c H locs cells slots Q (F0 m pc ls (.int (iI x) :: rest)) :=
  lv_tableOut hx hb hdg (by rw [iI_toInt h0]; exact h1) ht k
end GROWS
/-! the blocks -/
def rowsW (cI : ClassId) (q : Nat → Nat) (n k : Nat) (R : Nat → Nat → Int) : va_W := (List.range n).map (fun i => (q (4 + i), .inl (cI, k, .inl (ai (R i)))))
theorem rowsW_at {cI : ClassId} {q : Nat → Nat} {n k : Nat} {R : Nat → Nat → Int} {i : Nat} (h : i < n) : (rowsW cI q n k R)[i]? = some (q (4 + i), .inl (cI, k, .inl (ai (R i)))) := by
  unfold rowsW
  rw [List.getElem?_map, List.getElem?_range h]
  rfl
theorem rowsW_set {cI : ClassId} {q : Nat → Nat} {n k : Nat} {R : Nat → Nat → Int} {i : Nat} (f : Nat → Int) (h : i < n) : (rowsW cI q n k R).set i (q (4 + i), .inl (cI, k, .inl (ai f))) = rowsW cI q n k (va_up R i f) := by
  apply List.ext_getElem?
  intro j
  rw [List.getElem?_set]
  by_cases e : i = j
  · subst e
    rw [if_pos rfl, rowsW_at h, va_up_self]
    have : i < (rowsW cI q n k R).length := by unfold rowsW; rw [List.length_map, List.length_range]; exact h
    rw [if_pos this]
  · rw [if_neg e]
    by_cases hj : j < n
    · rw [rowsW_at hj, rowsW_at hj, show va_up R i f j = R j from if_neg (Ne.symm e)]
    · have l1 : (rowsW cI q n k R).length = n := by unfold rowsW; rw [List.length_map, List.length_range]
      have l2 : (rowsW cI q n k (va_up R i f)).length = n := by unfold rowsW; rw [List.length_map, List.length_range]
      rw [List.getElem?_eq_none (by omega), List.getElem?_eq_none (by omega)]
def outW (cB : ClassId) (q : Nat → Nat) (n : Nat) : va_E := .inl (cB, n, .inr (.inr (.inr (.inr (fun i => if i < n then some (q (4 + i)) else none)))))
end
section
def BCams (G : Nat → ClassId) (q : Nat → Nat) (st : Int) (th : Nat → Int) (R : Nat → Nat → Int) (sp : Nat → Int) : va_W := [(q 0, .inr (0, [.ref (q 1), .ref (q 2), .ref (q 3), .int (iI st)])), (q 1, outW (G 3) q 12), (q 2, .inl (G 1, 12, .inl (ai th))), (q 3, .inl (G 0, 16, .inl (ai sp)))] ++ rowsW (G 0) q 12 16 R
theorem BCams_c0 {G : Nat → ClassId} {q : Nat → Nat} {st : Int} {th : Nat → Int} {R : Nat → Nat → Int} {sp : Nat → Int} : (BCams G q st th R sp)[0]? = some (q 0, .inr (0, [.ref (q 1), .ref (q 2), .ref (q 3), .int (iI st)])) := rfl
theorem BCams_c1 {G : Nat → ClassId} {q : Nat → Nat} {st : Int} {th : Nat → Int} {R : Nat → Nat → Int} {sp : Nat → Int} : (BCams G q st th R sp)[1]? = some (q 1, outW (G 3) q 12) := rfl
theorem BCams_c2 {G : Nat → ClassId} {q : Nat → Nat} {st : Int} {th : Nat → Int} {R : Nat → Nat → Int} {sp : Nat → Int} : (BCams G q st th R sp)[2]? = some (q 2, .inl (G 1, 12, .inl (ai th))) := rfl
theorem BCams_c3 {G : Nat → ClassId} {q : Nat → Nat} {st : Int} {th : Nat → Int} {R : Nat → Nat → Int} {sp : Nat → Int} : (BCams G q st th R sp)[3]? = some (q 3, .inl (G 0, 16, .inl (ai sp))) := rfl
theorem BCams_row {G : Nat → ClassId} {q : Nat → Nat} {st : Int} {th : Nat → Int} {R : Nat → Nat → Int} {sp : Nat → Int} {i : Nat} (h : i < 12) : (BCams G q st th R sp)[4 + i]? = some (q (4 + i), .inl (G 0, 16, .inl (ai (R i)))) := (congrArg (fun k => (BCams G q st th R sp)[k]?) (Nat.add_comm 4 i)).trans (rowsW_at h)
theorem BCams_srow {G : Nat → ClassId} {q : Nat → Nat} {st : Int} {th : Nat → Int} {R : Nat → Nat → Int} {sp : Nat → Int} {i : Nat} (f : Nat → Int) (h : i < 12) : (BCams G q st th R sp).set (4 + i) (q (4 + i), .inl (G 0, 16, .inl (ai f))) = BCams G q st th (va_up R i f) sp := (congrArg (fun k => (BCams G q st th R sp).set k (q (4 + i), .inl (G 0, 16, .inl (ai f)))) (Nat.add_comm 4 i)).trans (congrArg (fun z => [(q 0, .inr (0, [.ref (q 1), .ref (q 2), .ref (q 3), .int (iI st)])), (q 1, outW (G 3) q 12), (q 2, .inl (G 1, 12, .inl (ai th))), (q 3, .inl (G 0, 16, .inl (ai sp)))] ++ z) (rowsW_set f h))
def BFlt (q : Nat) (wo : Int) (lo : Int) (be : Int) : va_W := [(q, .inr (1, [.int (iI wo), .int (iI lo), .int (iI be)]))]
theorem BFlt_c0 {q : Nat} {wo : Int} {lo : Int} {be : Int} : (BFlt q wo lo be)[0]? = some (q, .inr (1, [.int (iI wo), .int (iI lo), .int (iI be)])) := rfl
def BGue (q : Nat) (h : Nat) (c : Nat) (m : Nat) (f : Nat) (t : Nat) (kd : Int) (wh : Int) : va_W := [(q, .inr (2, [.ref h, .ref c, .ref m, .ref f, .ref t, .int (iI kd), .int (iI wh)]))]
theorem BGue_c0 {q : Nat} {h : Nat} {c : Nat} {m : Nat} {f : Nat} {t : Nat} {kd : Int} {wh : Int} : (BGue q h c m f t kd wh)[0]? = some (q, .inr (2, [.ref h, .ref c, .ref m, .ref f, .ref t, .int (iI kd), .int (iI wh)])) := rfl
def BHan (q : Nat) (c : Nat) (m : Nat) : va_W := [(q, .inr (3, [.ref c, .ref m]))]
theorem BHan_c0 {q : Nat} {c : Nat} {m : Nat} : (BHan q c m)[0]? = some (q, .inr (3, [.ref c, .ref m])) := rfl
def BMak (G : Nat → ClassId) (q : Nat → Nat) (hb : Nat → Nat → Int) (tt : Nat → Int) (tm : Nat → Int) : va_W := [(q 0, .inr (4, [.ref (q 1), .ref (q 2), .ref (q 3)])), (q 1, outW (G 3) q 4), (q 2, .inl (G 0, 4, .inl (ai tt))), (q 3, .inl (G 0, 10, .inl (ai tm)))] ++ rowsW (G 0) q 4 10 hb
theorem BMak_c0 {G : Nat → ClassId} {q : Nat → Nat} {hb : Nat → Nat → Int} {tt : Nat → Int} {tm : Nat → Int} : (BMak G q hb tt tm)[0]? = some (q 0, .inr (4, [.ref (q 1), .ref (q 2), .ref (q 3)])) := rfl
theorem BMak_c1 {G : Nat → ClassId} {q : Nat → Nat} {hb : Nat → Nat → Int} {tt : Nat → Int} {tm : Nat → Int} : (BMak G q hb tt tm)[1]? = some (q 1, outW (G 3) q 4) := rfl
theorem BMak_c2 {G : Nat → ClassId} {q : Nat → Nat} {hb : Nat → Nat → Int} {tt : Nat → Int} {tm : Nat → Int} : (BMak G q hb tt tm)[2]? = some (q 2, .inl (G 0, 4, .inl (ai tt))) := rfl
theorem BMak_c3 {G : Nat → ClassId} {q : Nat → Nat} {hb : Nat → Nat → Int} {tt : Nat → Int} {tm : Nat → Int} : (BMak G q hb tt tm)[3]? = some (q 3, .inl (G 0, 10, .inl (ai tm))) := rfl
theorem BMak_row {G : Nat → ClassId} {q : Nat → Nat} {hb : Nat → Nat → Int} {tt : Nat → Int} {tm : Nat → Int} {i : Nat} (h : i < 4) : (BMak G q hb tt tm)[4 + i]? = some (q (4 + i), .inl (G 0, 10, .inl (ai (hb i)))) := (congrArg (fun k => (BMak G q hb tt tm)[k]?) (Nat.add_comm 4 i)).trans (rowsW_at h)
theorem BMak_srow {G : Nat → ClassId} {q : Nat → Nat} {hb : Nat → Nat → Int} {tt : Nat → Int} {tm : Nat → Int} {i : Nat} (f : Nat → Int) (h : i < 4) : (BMak G q hb tt tm).set (4 + i) (q (4 + i), .inl (G 0, 10, .inl (ai f))) = BMak G q (va_up hb i f) tt tm := (congrArg (fun k => (BMak G q hb tt tm).set k (q (4 + i), .inl (G 0, 10, .inl (ai f)))) (Nat.add_comm 4 i)).trans (congrArg (fun z => [(q 0, .inr (4, [.ref (q 1), .ref (q 2), .ref (q 3)])), (q 1, outW (G 3) q 4), (q 2, .inl (G 0, 4, .inl (ai tt))), (q 3, .inl (G 0, 10, .inl (ai tm)))] ++ z) (rowsW_set f h))
def BMsg (G : Nat → ClassId) (q : Nat → Nat) (ac : Nat → Int) (up : Nat → Int) (li : Nat → Int) (le : Nat → Int) (pg : Int) (sp : Int) : va_W := [(q 0, .inr (5, [.ref (q 1), .ref (q 2), .ref (q 3), .ref (q 4), .int (iI pg), .int (iI sp)])), (q 1, .inl (G 0, 10, .inl (ai ac))), (q 2, .inl (G 0, 10, .inl (ai up))), (q 3, .inl (G 0, 10, .inl (ai li))), (q 4, .inl (G 0, 12, .inl (ai le)))]
theorem BMsg_c0 {G : Nat → ClassId} {q : Nat → Nat} {ac : Nat → Int} {up : Nat → Int} {li : Nat → Int} {le : Nat → Int} {pg : Int} {sp : Int} : (BMsg G q ac up li le pg sp)[0]? = some (q 0, .inr (5, [.ref (q 1), .ref (q 2), .ref (q 3), .ref (q 4), .int (iI pg), .int (iI sp)])) := rfl
theorem BMsg_c1 {G : Nat → ClassId} {q : Nat → Nat} {ac : Nat → Int} {up : Nat → Int} {li : Nat → Int} {le : Nat → Int} {pg : Int} {sp : Int} : (BMsg G q ac up li le pg sp)[1]? = some (q 1, .inl (G 0, 10, .inl (ai ac))) := rfl
theorem BMsg_c2 {G : Nat → ClassId} {q : Nat → Nat} {ac : Nat → Int} {up : Nat → Int} {li : Nat → Int} {le : Nat → Int} {pg : Int} {sp : Int} : (BMsg G q ac up li le pg sp)[2]? = some (q 2, .inl (G 0, 10, .inl (ai up))) := rfl
theorem BMsg_c3 {G : Nat → ClassId} {q : Nat → Nat} {ac : Nat → Int} {up : Nat → Int} {li : Nat → Int} {le : Nat → Int} {pg : Int} {sp : Int} : (BMsg G q ac up li le pg sp)[3]? = some (q 3, .inl (G 0, 10, .inl (ai li))) := rfl
theorem BMsg_c4 {G : Nat → ClassId} {q : Nat → Nat} {ac : Nat → Int} {up : Nat → Int} {li : Nat → Int} {le : Nat → Int} {pg : Int} {sp : Int} : (BMsg G q ac up li le pg sp)[4]? = some (q 4, .inl (G 0, 12, .inl (ai le))) := rfl
def BPap (G : Nat → ClassId) (q : Nat → Nat) (wd : Nat → Int64) (n : Nat) (fi : Nat → Int) : va_W := [(q 0, .inr (6, [.ref (q 1), .ref (q 2)])), (q 1, .inl (G 2, 19, .inr (.inl wd))), (q 2, .inl (G 0, n, .inl (ai fi)))]
theorem BPap_c0 {G : Nat → ClassId} {q : Nat → Nat} {wd : Nat → Int64} {n : Nat} {fi : Nat → Int} : (BPap G q wd n fi)[0]? = some (q 0, .inr (6, [.ref (q 1), .ref (q 2)])) := rfl
theorem BPap_c1 {G : Nat → ClassId} {q : Nat → Nat} {wd : Nat → Int64} {n : Nat} {fi : Nat → Int} : (BPap G q wd n fi)[1]? = some (q 1, .inl (G 2, 19, .inr (.inl wd))) := rfl
theorem BPap_c2 {G : Nat → ClassId} {q : Nat → Nat} {wd : Nat → Int64} {n : Nat} {fi : Nat → Int} : (BPap G q wd n fi)[2]? = some (q 2, .inl (G 0, n, .inl (ai fi))) := rfl
def BSpr (q : Nat) (pw : Int) (ld : Int) (sn : Int) (tk : Int) (ss : Int) : va_W := [(q, .inr (7, [.int (iI pw), .int (iI ld), .int (iI sn), .int (iI tk), .int (iI ss)]))]
theorem BSpr_c0 {q : Nat} {pw : Int} {ld : Int} {sn : Int} {tk : Int} {ss : Int} : (BSpr q pw ld sn tk ss)[0]? = some (q, .inr (7, [.int (iI pw), .int (iI ld), .int (iI sn), .int (iI tk), .int (iI ss)])) := rfl
def BTop (G : Nat → ClassId) (q : Nat) (r : Nat) (c : Nat) (m : Nat) (s : Nat) (p : Nat) (f : Nat) (h : Nat) (g : Nat) (k : Nat) (rf : Nat → Int) (sh : Int) (dn : Int) : va_W := [(q, .inr (8, [.ref c, .ref m, .ref s, .ref p, .ref f, .ref h, .ref g, .ref k, .ref r, .int (iI sh), .int (iI dn)])), (r, .inl (G 0, 7, .inl (ai rf)))]
theorem BTop_c0 {G : Nat → ClassId} {q : Nat} {r : Nat} {c : Nat} {m : Nat} {s : Nat} {p : Nat} {f : Nat} {h : Nat} {g : Nat} {k : Nat} {rf : Nat → Int} {sh : Int} {dn : Int} : (BTop G q r c m s p f h g k rf sh dn)[0]? = some (q, .inr (8, [.ref c, .ref m, .ref s, .ref p, .ref f, .ref h, .ref g, .ref k, .ref r, .int (iI sh), .int (iI dn)])) := rfl
theorem BTop_c1 {G : Nat → ClassId} {q : Nat} {r : Nat} {c : Nat} {m : Nat} {s : Nat} {p : Nat} {f : Nat} {h : Nat} {g : Nat} {k : Nat} {rf : Nat → Int} {sh : Int} {dn : Int} : (BTop G q r c m s p f h g k rf sh dn)[1]? = some (r, .inl (G 0, 7, .inl (ai rf))) := rfl
def BArI (G : Nat → ClassId) (q : Nat) (n : Nat) (f : Nat → Int) : va_W := [(q, .inl (G 0, n, .inl (ai f)))]
theorem BArI_c0 {G : Nat → ClassId} {q : Nat} {n : Nat} {f : Nat → Int} : (BArI G q n f)[0]? = some (q, .inl (G 0, n, .inl (ai f))) := rfl
def BArJ (G : Nat → ClassId) (q : Nat) (n : Nat) (f : Nat → Int64) : va_W := [(q, .inl (G 2, n, .inr (.inl f)))]
theorem BArJ_c0 {G : Nat → ClassId} {q : Nat} {n : Nat} {f : Nat → Int64} : (BArJ G q n f)[0]? = some (q, .inl (G 2, n, .inr (.inl f))) := rfl
def BMod (G : Nat → ClassId) (q : Nat → Nat) (L : Int) (th : Nat → Int) (cm : Nat → Int) (ac : Nat → Int) (up : Nat → Int) (li : Nat → Int) (pg : Int) (pe : Nat → Int) (ad : Int) (pw : Int) (pl : Int) (we : Int) (sn : Int) (tk : Int) (ss : Int) (sh : Int) (dn : Int) (pp : Nat → Int) (ps : Nat → Int) (fa : Nat → Int) (hb : Nat → Int) (cb : Nat → Int) (rf : Nat → Int) (bt : Nat → Int) (le : Nat → Int) (bo : Nat → Int) (wo : Int) (lo : Int) (be : Int) (mk : Nat → Int) (ms : Nat → Int) (wh : Int) : va_W := [(q 0, .inr (9, [.int (iI L), .ref (q 1), .ref (q 2), .ref (q 3), .ref (q 4), .ref (q 5), .int (iI pg), .ref (q 6), .int (iI ad), .int (iI pw), .int (iI pl), .int (iI we), .int (iI sn), .int (iI tk), .int (iI ss), .int (iI sh), .int (iI dn), .ref (q 7), .ref (q 8), .ref (q 9), .ref (q 10), .ref (q 11), .ref (q 12), .ref (q 13), .ref (q 14), .ref (q 15), .int (iI wo), .int (iI lo), .int (iI be), .ref (q 16), .ref (q 17), .int (iI wh)])), (q 1, .inl (G 1, 12, .inl (ai th))), (q 2, .inl (G 0, 192, .inl (ai cm))), (q 3, .inl (G 0, 10, .inl (ai ac))), (q 4, .inl (G 0, 10, .inl (ai up))), (q 5, .inl (G 0, 10, .inl (ai li))), (q 6, .inl (G 0, 12, .inl (ai pe))), (q 7, .inl (G 0, 1200, .inl (ai pp))), (q 8, .inl (G 0, 1200, .inl (ai ps))), (q 9, .inl (G 0, 4, .inl (ai fa))), (q 10, .inl (G 0, 40, .inl (ai hb))), (q 11, .inl (G 0, 4, .inl (ai cb))), (q 12, .inl (G 0, 8, .inl (ai rf))), (q 13, .inl (G 0, 16, .inl (ai bt))), (q 14, .inl (G 0, 12, .inl (ai le))), (q 15, .inl (G 0, 12, .inl (ai bo))), (q 16, .inl (G 0, 1200, .inl (ai mk))), (q 17, .inl (G 0, 1200, .inl (ai ms)))]
theorem BMod_c0 {G : Nat → ClassId} {q : Nat → Nat} {L : Int} {th : Nat → Int} {cm : Nat → Int} {ac : Nat → Int} {up : Nat → Int} {li : Nat → Int} {pg : Int} {pe : Nat → Int} {ad : Int} {pw : Int} {pl : Int} {we : Int} {sn : Int} {tk : Int} {ss : Int} {sh : Int} {dn : Int} {pp : Nat → Int} {ps : Nat → Int} {fa : Nat → Int} {hb : Nat → Int} {cb : Nat → Int} {rf : Nat → Int} {bt : Nat → Int} {le : Nat → Int} {bo : Nat → Int} {wo : Int} {lo : Int} {be : Int} {mk : Nat → Int} {ms : Nat → Int} {wh : Int} : (BMod G q L th cm ac up li pg pe ad pw pl we sn tk ss sh dn pp ps fa hb cb rf bt le bo wo lo be mk ms wh)[0]? = some (q 0, .inr (9, [.int (iI L), .ref (q 1), .ref (q 2), .ref (q 3), .ref (q 4), .ref (q 5), .int (iI pg), .ref (q 6), .int (iI ad), .int (iI pw), .int (iI pl), .int (iI we), .int (iI sn), .int (iI tk), .int (iI ss), .int (iI sh), .int (iI dn), .ref (q 7), .ref (q 8), .ref (q 9), .ref (q 10), .ref (q 11), .ref (q 12), .ref (q 13), .ref (q 14), .ref (q 15), .int (iI wo), .int (iI lo), .int (iI be), .ref (q 16), .ref (q 17), .int (iI wh)])) := rfl
theorem BMod_c1 {G : Nat → ClassId} {q : Nat → Nat} {L : Int} {th : Nat → Int} {cm : Nat → Int} {ac : Nat → Int} {up : Nat → Int} {li : Nat → Int} {pg : Int} {pe : Nat → Int} {ad : Int} {pw : Int} {pl : Int} {we : Int} {sn : Int} {tk : Int} {ss : Int} {sh : Int} {dn : Int} {pp : Nat → Int} {ps : Nat → Int} {fa : Nat → Int} {hb : Nat → Int} {cb : Nat → Int} {rf : Nat → Int} {bt : Nat → Int} {le : Nat → Int} {bo : Nat → Int} {wo : Int} {lo : Int} {be : Int} {mk : Nat → Int} {ms : Nat → Int} {wh : Int} : (BMod G q L th cm ac up li pg pe ad pw pl we sn tk ss sh dn pp ps fa hb cb rf bt le bo wo lo be mk ms wh)[1]? = some (q 1, .inl (G 1, 12, .inl (ai th))) := rfl
theorem BMod_c2 {G : Nat → ClassId} {q : Nat → Nat} {L : Int} {th : Nat → Int} {cm : Nat → Int} {ac : Nat → Int} {up : Nat → Int} {li : Nat → Int} {pg : Int} {pe : Nat → Int} {ad : Int} {pw : Int} {pl : Int} {we : Int} {sn : Int} {tk : Int} {ss : Int} {sh : Int} {dn : Int} {pp : Nat → Int} {ps : Nat → Int} {fa : Nat → Int} {hb : Nat → Int} {cb : Nat → Int} {rf : Nat → Int} {bt : Nat → Int} {le : Nat → Int} {bo : Nat → Int} {wo : Int} {lo : Int} {be : Int} {mk : Nat → Int} {ms : Nat → Int} {wh : Int} : (BMod G q L th cm ac up li pg pe ad pw pl we sn tk ss sh dn pp ps fa hb cb rf bt le bo wo lo be mk ms wh)[2]? = some (q 2, .inl (G 0, 192, .inl (ai cm))) := rfl
theorem BMod_c3 {G : Nat → ClassId} {q : Nat → Nat} {L : Int} {th : Nat → Int} {cm : Nat → Int} {ac : Nat → Int} {up : Nat → Int} {li : Nat → Int} {pg : Int} {pe : Nat → Int} {ad : Int} {pw : Int} {pl : Int} {we : Int} {sn : Int} {tk : Int} {ss : Int} {sh : Int} {dn : Int} {pp : Nat → Int} {ps : Nat → Int} {fa : Nat → Int} {hb : Nat → Int} {cb : Nat → Int} {rf : Nat → Int} {bt : Nat → Int} {le : Nat → Int} {bo : Nat → Int} {wo : Int} {lo : Int} {be : Int} {mk : Nat → Int} {ms : Nat → Int} {wh : Int} : (BMod G q L th cm ac up li pg pe ad pw pl we sn tk ss sh dn pp ps fa hb cb rf bt le bo wo lo be mk ms wh)[3]? = some (q 3, .inl (G 0, 10, .inl (ai ac))) := rfl
theorem BMod_c4 {G : Nat → ClassId} {q : Nat → Nat} {L : Int} {th : Nat → Int} {cm : Nat → Int} {ac : Nat → Int} {up : Nat → Int} {li : Nat → Int} {pg : Int} {pe : Nat → Int} {ad : Int} {pw : Int} {pl : Int} {we : Int} {sn : Int} {tk : Int} {ss : Int} {sh : Int} {dn : Int} {pp : Nat → Int} {ps : Nat → Int} {fa : Nat → Int} {hb : Nat → Int} {cb : Nat → Int} {rf : Nat → Int} {bt : Nat → Int} {le : Nat → Int} {bo : Nat → Int} {wo : Int} {lo : Int} {be : Int} {mk : Nat → Int} {ms : Nat → Int} {wh : Int} : (BMod G q L th cm ac up li pg pe ad pw pl we sn tk ss sh dn pp ps fa hb cb rf bt le bo wo lo be mk ms wh)[4]? = some (q 4, .inl (G 0, 10, .inl (ai up))) := rfl
theorem BMod_c5 {G : Nat → ClassId} {q : Nat → Nat} {L : Int} {th : Nat → Int} {cm : Nat → Int} {ac : Nat → Int} {up : Nat → Int} {li : Nat → Int} {pg : Int} {pe : Nat → Int} {ad : Int} {pw : Int} {pl : Int} {we : Int} {sn : Int} {tk : Int} {ss : Int} {sh : Int} {dn : Int} {pp : Nat → Int} {ps : Nat → Int} {fa : Nat → Int} {hb : Nat → Int} {cb : Nat → Int} {rf : Nat → Int} {bt : Nat → Int} {le : Nat → Int} {bo : Nat → Int} {wo : Int} {lo : Int} {be : Int} {mk : Nat → Int} {ms : Nat → Int} {wh : Int} : (BMod G q L th cm ac up li pg pe ad pw pl we sn tk ss sh dn pp ps fa hb cb rf bt le bo wo lo be mk ms wh)[5]? = some (q 5, .inl (G 0, 10, .inl (ai li))) := rfl
theorem BMod_c6 {G : Nat → ClassId} {q : Nat → Nat} {L : Int} {th : Nat → Int} {cm : Nat → Int} {ac : Nat → Int} {up : Nat → Int} {li : Nat → Int} {pg : Int} {pe : Nat → Int} {ad : Int} {pw : Int} {pl : Int} {we : Int} {sn : Int} {tk : Int} {ss : Int} {sh : Int} {dn : Int} {pp : Nat → Int} {ps : Nat → Int} {fa : Nat → Int} {hb : Nat → Int} {cb : Nat → Int} {rf : Nat → Int} {bt : Nat → Int} {le : Nat → Int} {bo : Nat → Int} {wo : Int} {lo : Int} {be : Int} {mk : Nat → Int} {ms : Nat → Int} {wh : Int} : (BMod G q L th cm ac up li pg pe ad pw pl we sn tk ss sh dn pp ps fa hb cb rf bt le bo wo lo be mk ms wh)[6]? = some (q 6, .inl (G 0, 12, .inl (ai pe))) := rfl
theorem BMod_c7 {G : Nat → ClassId} {q : Nat → Nat} {L : Int} {th : Nat → Int} {cm : Nat → Int} {ac : Nat → Int} {up : Nat → Int} {li : Nat → Int} {pg : Int} {pe : Nat → Int} {ad : Int} {pw : Int} {pl : Int} {we : Int} {sn : Int} {tk : Int} {ss : Int} {sh : Int} {dn : Int} {pp : Nat → Int} {ps : Nat → Int} {fa : Nat → Int} {hb : Nat → Int} {cb : Nat → Int} {rf : Nat → Int} {bt : Nat → Int} {le : Nat → Int} {bo : Nat → Int} {wo : Int} {lo : Int} {be : Int} {mk : Nat → Int} {ms : Nat → Int} {wh : Int} : (BMod G q L th cm ac up li pg pe ad pw pl we sn tk ss sh dn pp ps fa hb cb rf bt le bo wo lo be mk ms wh)[7]? = some (q 7, .inl (G 0, 1200, .inl (ai pp))) := rfl
theorem BMod_c8 {G : Nat → ClassId} {q : Nat → Nat} {L : Int} {th : Nat → Int} {cm : Nat → Int} {ac : Nat → Int} {up : Nat → Int} {li : Nat → Int} {pg : Int} {pe : Nat → Int} {ad : Int} {pw : Int} {pl : Int} {we : Int} {sn : Int} {tk : Int} {ss : Int} {sh : Int} {dn : Int} {pp : Nat → Int} {ps : Nat → Int} {fa : Nat → Int} {hb : Nat → Int} {cb : Nat → Int} {rf : Nat → Int} {bt : Nat → Int} {le : Nat → Int} {bo : Nat → Int} {wo : Int} {lo : Int} {be : Int} {mk : Nat → Int} {ms : Nat → Int} {wh : Int} : (BMod G q L th cm ac up li pg pe ad pw pl we sn tk ss sh dn pp ps fa hb cb rf bt le bo wo lo be mk ms wh)[8]? = some (q 8, .inl (G 0, 1200, .inl (ai ps))) := rfl
theorem BMod_c9 {G : Nat → ClassId} {q : Nat → Nat} {L : Int} {th : Nat → Int} {cm : Nat → Int} {ac : Nat → Int} {up : Nat → Int} {li : Nat → Int} {pg : Int} {pe : Nat → Int} {ad : Int} {pw : Int} {pl : Int} {we : Int} {sn : Int} {tk : Int} {ss : Int} {sh : Int} {dn : Int} {pp : Nat → Int} {ps : Nat → Int} {fa : Nat → Int} {hb : Nat → Int} {cb : Nat → Int} {rf : Nat → Int} {bt : Nat → Int} {le : Nat → Int} {bo : Nat → Int} {wo : Int} {lo : Int} {be : Int} {mk : Nat → Int} {ms : Nat → Int} {wh : Int} : (BMod G q L th cm ac up li pg pe ad pw pl we sn tk ss sh dn pp ps fa hb cb rf bt le bo wo lo be mk ms wh)[9]? = some (q 9, .inl (G 0, 4, .inl (ai fa))) := rfl
theorem BMod_c10 {G : Nat → ClassId} {q : Nat → Nat} {L : Int} {th : Nat → Int} {cm : Nat → Int} {ac : Nat → Int} {up : Nat → Int} {li : Nat → Int} {pg : Int} {pe : Nat → Int} {ad : Int} {pw : Int} {pl : Int} {we : Int} {sn : Int} {tk : Int} {ss : Int} {sh : Int} {dn : Int} {pp : Nat → Int} {ps : Nat → Int} {fa : Nat → Int} {hb : Nat → Int} {cb : Nat → Int} {rf : Nat → Int} {bt : Nat → Int} {le : Nat → Int} {bo : Nat → Int} {wo : Int} {lo : Int} {be : Int} {mk : Nat → Int} {ms : Nat → Int} {wh : Int} : (BMod G q L th cm ac up li pg pe ad pw pl we sn tk ss sh dn pp ps fa hb cb rf bt le bo wo lo be mk ms wh)[10]? = some (q 10, .inl (G 0, 40, .inl (ai hb))) := rfl
theorem BMod_c11 {G : Nat → ClassId} {q : Nat → Nat} {L : Int} {th : Nat → Int} {cm : Nat → Int} {ac : Nat → Int} {up : Nat → Int} {li : Nat → Int} {pg : Int} {pe : Nat → Int} {ad : Int} {pw : Int} {pl : Int} {we : Int} {sn : Int} {tk : Int} {ss : Int} {sh : Int} {dn : Int} {pp : Nat → Int} {ps : Nat → Int} {fa : Nat → Int} {hb : Nat → Int} {cb : Nat → Int} {rf : Nat → Int} {bt : Nat → Int} {le : Nat → Int} {bo : Nat → Int} {wo : Int} {lo : Int} {be : Int} {mk : Nat → Int} {ms : Nat → Int} {wh : Int} : (BMod G q L th cm ac up li pg pe ad pw pl we sn tk ss sh dn pp ps fa hb cb rf bt le bo wo lo be mk ms wh)[11]? = some (q 11, .inl (G 0, 4, .inl (ai cb))) := rfl
theorem BMod_c12 {G : Nat → ClassId} {q : Nat → Nat} {L : Int} {th : Nat → Int} {cm : Nat → Int} {ac : Nat → Int} {up : Nat → Int} {li : Nat → Int} {pg : Int} {pe : Nat → Int} {ad : Int} {pw : Int} {pl : Int} {we : Int} {sn : Int} {tk : Int} {ss : Int} {sh : Int} {dn : Int} {pp : Nat → Int} {ps : Nat → Int} {fa : Nat → Int} {hb : Nat → Int} {cb : Nat → Int} {rf : Nat → Int} {bt : Nat → Int} {le : Nat → Int} {bo : Nat → Int} {wo : Int} {lo : Int} {be : Int} {mk : Nat → Int} {ms : Nat → Int} {wh : Int} : (BMod G q L th cm ac up li pg pe ad pw pl we sn tk ss sh dn pp ps fa hb cb rf bt le bo wo lo be mk ms wh)[12]? = some (q 12, .inl (G 0, 8, .inl (ai rf))) := rfl
theorem BMod_c13 {G : Nat → ClassId} {q : Nat → Nat} {L : Int} {th : Nat → Int} {cm : Nat → Int} {ac : Nat → Int} {up : Nat → Int} {li : Nat → Int} {pg : Int} {pe : Nat → Int} {ad : Int} {pw : Int} {pl : Int} {we : Int} {sn : Int} {tk : Int} {ss : Int} {sh : Int} {dn : Int} {pp : Nat → Int} {ps : Nat → Int} {fa : Nat → Int} {hb : Nat → Int} {cb : Nat → Int} {rf : Nat → Int} {bt : Nat → Int} {le : Nat → Int} {bo : Nat → Int} {wo : Int} {lo : Int} {be : Int} {mk : Nat → Int} {ms : Nat → Int} {wh : Int} : (BMod G q L th cm ac up li pg pe ad pw pl we sn tk ss sh dn pp ps fa hb cb rf bt le bo wo lo be mk ms wh)[13]? = some (q 13, .inl (G 0, 16, .inl (ai bt))) := rfl
theorem BMod_c14 {G : Nat → ClassId} {q : Nat → Nat} {L : Int} {th : Nat → Int} {cm : Nat → Int} {ac : Nat → Int} {up : Nat → Int} {li : Nat → Int} {pg : Int} {pe : Nat → Int} {ad : Int} {pw : Int} {pl : Int} {we : Int} {sn : Int} {tk : Int} {ss : Int} {sh : Int} {dn : Int} {pp : Nat → Int} {ps : Nat → Int} {fa : Nat → Int} {hb : Nat → Int} {cb : Nat → Int} {rf : Nat → Int} {bt : Nat → Int} {le : Nat → Int} {bo : Nat → Int} {wo : Int} {lo : Int} {be : Int} {mk : Nat → Int} {ms : Nat → Int} {wh : Int} : (BMod G q L th cm ac up li pg pe ad pw pl we sn tk ss sh dn pp ps fa hb cb rf bt le bo wo lo be mk ms wh)[14]? = some (q 14, .inl (G 0, 12, .inl (ai le))) := rfl
theorem BMod_c15 {G : Nat → ClassId} {q : Nat → Nat} {L : Int} {th : Nat → Int} {cm : Nat → Int} {ac : Nat → Int} {up : Nat → Int} {li : Nat → Int} {pg : Int} {pe : Nat → Int} {ad : Int} {pw : Int} {pl : Int} {we : Int} {sn : Int} {tk : Int} {ss : Int} {sh : Int} {dn : Int} {pp : Nat → Int} {ps : Nat → Int} {fa : Nat → Int} {hb : Nat → Int} {cb : Nat → Int} {rf : Nat → Int} {bt : Nat → Int} {le : Nat → Int} {bo : Nat → Int} {wo : Int} {lo : Int} {be : Int} {mk : Nat → Int} {ms : Nat → Int} {wh : Int} : (BMod G q L th cm ac up li pg pe ad pw pl we sn tk ss sh dn pp ps fa hb cb rf bt le bo wo lo be mk ms wh)[15]? = some (q 15, .inl (G 0, 12, .inl (ai bo))) := rfl
theorem BMod_c16 {G : Nat → ClassId} {q : Nat → Nat} {L : Int} {th : Nat → Int} {cm : Nat → Int} {ac : Nat → Int} {up : Nat → Int} {li : Nat → Int} {pg : Int} {pe : Nat → Int} {ad : Int} {pw : Int} {pl : Int} {we : Int} {sn : Int} {tk : Int} {ss : Int} {sh : Int} {dn : Int} {pp : Nat → Int} {ps : Nat → Int} {fa : Nat → Int} {hb : Nat → Int} {cb : Nat → Int} {rf : Nat → Int} {bt : Nat → Int} {le : Nat → Int} {bo : Nat → Int} {wo : Int} {lo : Int} {be : Int} {mk : Nat → Int} {ms : Nat → Int} {wh : Int} : (BMod G q L th cm ac up li pg pe ad pw pl we sn tk ss sh dn pp ps fa hb cb rf bt le bo wo lo be mk ms wh)[16]? = some (q 16, .inl (G 0, 1200, .inl (ai mk))) := rfl
theorem BMod_c17 {G : Nat → ClassId} {q : Nat → Nat} {L : Int} {th : Nat → Int} {cm : Nat → Int} {ac : Nat → Int} {up : Nat → Int} {li : Nat → Int} {pg : Int} {pe : Nat → Int} {ad : Int} {pw : Int} {pl : Int} {we : Int} {sn : Int} {tk : Int} {ss : Int} {sh : Int} {dn : Int} {pp : Nat → Int} {ps : Nat → Int} {fa : Nat → Int} {hb : Nat → Int} {cb : Nat → Int} {rf : Nat → Int} {bt : Nat → Int} {le : Nat → Int} {bo : Nat → Int} {wo : Int} {lo : Int} {be : Int} {mk : Nat → Int} {ms : Nat → Int} {wh : Int} : (BMod G q L th cm ac up li pg pe ad pw pl we sn tk ss sh dn pp ps fa hb cb rf bt le bo wo lo be mk ms wh)[17]? = some (q 17, .inl (G 0, 1200, .inl (ai ms))) := rfl
def cnt (f : Nat → Int) : Nat → Int
  | 0 => 0
  | n + 1 => cnt f n + f n
theorem cnt_s {f : Nat → Int} {i : Int} (h : 0 ≤ i) : cnt f (i + 1).toNat = cnt f i.toNat + f i.toNat := by
  rw [show (i + 1).toNat = i.toNat + 1 by omega]
  rfl
end
section
/-! plain functions that say what the loops do -/
def fw (st x : Int) : Int := if x < st then x else x - st
theorem fw_rng {st x : Int} (h : 0 ≤ x ∧ x < st + st) : 0 ≤ fw st x ∧ fw st x < st := by
  unfold fw
  split <;> omega
theorem fw_mod {st x : Int} (h : 0 ≤ x ∧ x < st + st) : x % st = fw st x := by
  unfold fw
  split
  · exact Int.emod_eq_of_lt h.1 (by assumption)
  · rw [← Int.sub_emod_right]
    exact Int.emod_eq_of_lt (by omega) (by omega)
abbrev tn (st : Int) (f g : Nat → Int) (n : Int) : Prop := ∀ t : Nat, t < st.toNat → g (fw st ((t : Int) + n)).toNat = f t
def fnd (p : Nat → Bool) (d : Int) : Nat → Nat → Int
  | 0, _ => d
  | m + 1, k => if p k = true then (k : Int) else fnd p d m (k + 1)
theorem fnd_hit0 {p : Nat → Bool} {d : Int} {i : Nat} (hp : p i = true) : ∀ (m k : Nat), k ≤ i → i < k + m → (∀ j, k ≤ j → j < i → p j = false) → fnd p d m k = i := by
  intro m
  induction m with
  | zero => intro k h1 h2 _; omega
  | succ m ih =>
    intro k h1 h2 h3
    unfold fnd
    by_cases e : k = i
    · rw [e, if_pos hp]
    · rw [h3 k (Nat.le_refl k) (by omega)]
      simp only [Bool.false_eq_true, if_false]
      exact ih (k + 1) (by omega) (by omega) (fun j a b => h3 j (by omega) b)
theorem fnd_miss0 {p : Nat → Bool} {d : Int} : ∀ (m k : Nat), (∀ j, k ≤ j → j < k + m → p j = false) → fnd p d m k = d := by
  intro m
  induction m with
  | zero => intro k _; rfl
  | succ m ih =>
    intro k h
    unfold fnd
    rw [h k (Nat.le_refl k) (by omega)]
    simp only [Bool.false_eq_true, if_false]
    exact ih (k + 1) (fun j a b => h j (by omega) (by omega))
theorem fnd_hit {p : Nat → Bool} {d : Int} {i N : Nat} (h : ∀ j, j < i → p j = false) (hp : p i = true) (hi : i < N) : fnd p d N 0 = i := fnd_hit0 hp N 0 (by omega) (by omega) (fun j _ b => h j b)
theorem fnd_miss {p : Nat → Bool} {d : Int} {N : Nat} (h : ∀ j, j < N → p j = false) : fnd p d N 0 = d := fnd_miss0 N 0 (fun j _ b => h j (by omega))
theorem fnd_cases (p : Nat → Bool) (d : Int) (N : Nat) : (fnd p d N 0 = d ∧ ∀ j, j < N → p j = false) ∨ ∃ i, i < N ∧ fnd p d N 0 = i ∧ p i = true ∧ ∀ j, j < i → p j = false := by
  by_cases h : ∃ i, i < N ∧ p i = true
  · obtain ⟨i, ⟨h1, h2⟩, h3⟩ := pk_least (fun i => i < N ∧ p i = true) h
    have h4 : ∀ j, j < i → p j = false := fun j hj => by
      cases e : p j with
      | false => rfl
      | true => exact absurd ⟨by omega, e⟩ (h3 j hj)
    exact Or.inr ⟨i, h1, fnd_hit h4 h2 h1, h2, h4⟩
  · have h4 : ∀ j, j < N → p j = false := fun j hj => by
      cases e : p j with
      | false => rfl
      | true => exact absurd ⟨j, hj, e⟩ h
    exact Or.inl ⟨fnd_miss h4, h4⟩
/-- the least number of steps that turns f into g, -9 if none -/
def sb (st : Int) (f g : Nat → Int) : Int := fnd (fun n => decide (tn st f g (n : Int))) (-9) st.toNat 0
theorem sb_rng (st : Int) (f g : Nat → Int) (h : 2 ≤ st ∧ st ≤ 16) : -9 ≤ sb st f g ∧ sb st f g < 16 := by
  unfold sb
  rcases fnd_cases (fun n => decide (tn st f g (n : Int))) (-9) st.toNat with ⟨e, -⟩ | ⟨i, h1, e, -⟩
  · rw [e]; omega
  · rw [e]; omega
def lap (st : Int) (th : Nat → Int) (R : Nat → Nat → Int) (c : Nat) : Nat → Bool := fun o => decide (th o = 1) && decide (0 ≤ sb st (R o) (R c))
/-- the least cam that is one with c -/
def la (st : Int) (th : Nat → Int) (R : Nat → Nat → Int) (c : Nat) : Int := fnd (lap st th R c) (c : Int) c 0
theorem la_rng (st : Int) (th : Nat → Int) (R : Nat → Nat → Int) (c : Nat) : 0 ≤ la st th R c ∧ la st th R c ≤ c := by
  unfold la
  rcases fnd_cases (lap st th R c) (c : Int) c with ⟨e, -⟩ | ⟨i, h1, e, -⟩
  · rw [e]; omega
  · rw [e]; omega
def ctB (p : Nat → Bool) : Nat → Int
  | 0 => 0
  | n + 1 => ctB p n + (if p n = true then 1 else 0)
theorem ctB_s {p : Nat → Bool} {i : Int} (h : 0 ≤ i) : ctB p (i + 1).toNat = ctB p i.toNat + (if p i.toNat = true then 1 else 0) := by
  rw [show (i + 1).toNat = i.toNat + 1 by omega]
  rfl
theorem ctB_rng (p : Nat → Bool) (n : Nat) : 0 ≤ ctB p n ∧ ctB p n ≤ n := by
  induction n with
  | zero => exact ⟨Int.le_refl 0, Int.le_refl 0⟩
  | succ n ih =>
    have e : ctB p (n + 1) = ctB p n + (if p n = true then 1 else 0) := rfl
    rw [e]
    split <;> omega
def bbp (st : Int) (th : Nat → Int) (R : Nat → Nat → Int) : Nat → Bool := fun c => decide (th c = 1) && decide (la st th R c = c)
def bb (st : Int) (th : Nat → Int) (R : Nat → Nat → Int) (n : Nat) : Int := ctB (bbp st th R) n
def gs (st : Int) (f : Nat → Int) : Nat → Int
  | 0 => 0
  | t + 1 => if gs st f t < (if 0 ≤ f (fw st ((t : Int) + 1)).toNat - f t then f (fw st ((t : Int) + 1)).toNat - f t else -(f (fw st ((t : Int) + 1)).toNat - f t)) then (if 0 ≤ f (fw st ((t : Int) + 1)).toNat - f t then f (fw st ((t : Int) + 1)).toNat - f t else -(f (fw st ((t : Int) + 1)).toNat - f t)) else gs st f t
theorem gs_s {st : Int} {f : Nat → Int} {i : Int} (h : 0 ≤ i) : gs st f (i + 1).toNat = if gs st f i.toNat < (if 0 ≤ f (fw st (i + 1)).toNat - f i.toNat then f (fw st (i + 1)).toNat - f i.toNat else -(f (fw st (i + 1)).toNat - f i.toNat)) then (if 0 ≤ f (fw st (i + 1)).toNat - f i.toNat then f (fw st (i + 1)).toNat - f i.toNat else -(f (fw st (i + 1)).toNat - f i.toNat)) else gs st f i.toNat := by
  obtain ⟨t, rfl⟩ := Int.eq_ofNat_of_zero_le h
  rfl
theorem bbp_if (st : Int) (th : Nat → Int) (R : Nat → Nat → Int) (c : Nat) : (if bbp st th R c = true then (1 : Int) else 0) = if th c = 1 ∧ la st th R c = c then 1 else 0 := by
  simp only [bbp, Bool.and_eq_true, decide_eq_true_eq]
theorem gs_rng (st : Int) (f : Nat → Int) (hf : ∀ k, 0 ≤ f k ∧ f k ≤ 9) (t : Nat) : 0 ≤ gs st f t ∧ gs st f t ≤ 9 := by
  induction t with
  | zero =>
    show (0 : Int) ≤ 0 ∧ (0 : Int) ≤ 9
    omega
  | succ t ih =>
    have h1 := hf (fw st ((t : Int) + 1)).toNat
    have h2 := hf t
    unfold gs
    split <;> (try split) <;> omega
def filI (v : Int) (n : Nat) (f : Nat → Int) : Nat → Int := fun k => if k < n then v else f k
def filL (v : Int64) (n : Nat) (f : Nat → Int64) : Nat → Int64 := fun k => if k < n then v else f k
theorem filI_0 (v : Int) (f : Nat → Int) : filI v 0 f = f := by
  funext k
  exact if_neg (by omega)
theorem filL_0 (v : Int64) (f : Nat → Int64) : filL v 0 f = f := by
  funext k
  exact if_neg (by omega)
theorem filI_s (v : Int) (n : Nat) (f : Nat → Int) : va_up (filI v n f) n v = filI v (n + 1) f := by
  funext k
  by_cases h : k = n
  · rw [h, va_up_self]
    exact (if_pos (by omega)).symm
  · rw [va_up_ne _ _ h]
    unfold filI
    by_cases h2 : k < n
    · rw [if_pos h2, if_pos (by omega)]
    · rw [if_neg h2, if_neg (by omega)]
theorem filL_s (v : Int64) (n : Nat) (f : Nat → Int64) : vp_updL (filL v n f) n v = filL v (n + 1) f := by
  funext k
  by_cases h : k = n
  · rw [h, pk_uLs]
    exact (if_pos (by omega)).symm
  · rw [pk_uLn h]
    unfold filL
    by_cases h2 : k < n
    · rw [if_pos h2, if_pos (by omega)]
    · rw [if_neg h2, if_neg (by omega)]
theorem up_id {α : Type} (f : Nat → α) (k : Nat) : va_up f k (f k) = f := by
  funext j
  by_cases h : j = k
  · rw [h, va_up_self]
  · rw [va_up_ne _ _ h]
theorem up_up {α : Type} (f : Nat → α) (k : Nat) (x y : α) : va_up (va_up f k x) k y = va_up f k y := by
  funext j
  by_cases h : j = k
  · rw [h, va_up_self, va_up_self]
  · rw [va_up_ne _ _ h, va_up_ne _ _ h, va_up_ne _ _ h]
/-- a row turned: how far it has come -/
def rotP (st n : Int) (f : Nat → Int) (t : Int) : Nat → Int := fun k => if (k : Int) < st ∧ fw st ((k : Int) + (st - n)) < t then f (fw st ((k : Int) + (st - n))).toNat else f k
def rot (st n : Int) (f : Nat → Int) : Nat → Int := rotP st n f st
theorem rotP_0 (st n : Int) (f : Nat → Int) (hn : 0 ≤ n ∧ n < st) : rotP st n f 0 = f := by
  funext k
  unfold rotP
  by_cases h : (k : Int) < st
  · have := fw_rng (st := st) (x := (k : Int) + (st - n)) (by omega)
    rw [if_neg (by omega)]
  · rw [if_neg (by omega)]
theorem rotP_s (st n : Int) (f : Nat → Int) (t : Int) (hn : 0 ≤ n ∧ n < st) (ht : 0 ≤ t ∧ t < st) : va_up (rotP st n f t) (fw st (t + n)).toNat (f t.toNat) = rotP st n f (t + 1) := by
  have h0 := fw_rng (st := st) (x := t + n) (by omega)
  funext k
  by_cases h : k = (fw st (t + n)).toNat
  · have e : fw st ((k : Int) + (st - n)) = t := by
      rw [h]
      unfold fw
      split <;> split <;> omega
    have hk : (k : Int) < st := by omega
    rw [← h, va_up_self]
    unfold rotP
    rw [e, if_pos ⟨hk, by omega⟩]
  · rw [va_up_ne _ _ h]
    unfold rotP
    by_cases hk : (k : Int) < st
    · have h1 := fw_rng (st := st) (x := (k : Int) + (st - n)) (by omega)
      have ne : fw st ((k : Int) + (st - n)) ≠ t := fun e => h (by
        rw [← e]
        unfold fw
        split <;> split <;> omega)
      by_cases h2 : fw st ((k : Int) + (st - n)) < t
      · rw [if_pos ⟨hk, h2⟩, if_pos ⟨hk, by omega⟩]
      · rw [if_neg (fun q => h2 q.2), if_neg (fun q => by omega)]
    · rw [if_neg (fun q => hk q.1), if_neg (fun q => hk q.1)]
end
section
/-! Arrays.fill, in any world -/
theorem set_at {α : Type} {L : List α} {i : Nat} {x y : α} (h : L[i]? = some x) : (L.set i y)[i]? = some y := by
  rw [List.getElem?_set_self (List.getElem?_eq_some_iff.mp h).1]
theorem set_id {α : Type} {L : List α} {i : Nat} {x : α} (h : L[i]? = some x) : L.set i x = L := by
  obtain ⟨h1, h2⟩ := List.getElem?_eq_some_iff.mp h
  rw [← h2]
  exact List.set_getElem_self h1
abbrev rmJ7_fill_53178 : Room := { frames := 0, cells := 0, slots := 0, locals := 0 }
abbrev rmJ7_fill_d0a16 : Room := { frames := 0, cells := 0, slots := 0, locals := 0 }
set_option maxHeartbeats 4000000 in
theorem kJ7_fill_53178 (l : Launch) (D : va_G) (G : Nat → ClassId) (Bs Bs1 : List va_W) (i j : Nat) (B B1 : va_W) (a n : Nat) (f : Nat → Int) (v : Int) (hn : n < 2147483648) (hi : Bs[i]? = some B) (hj : B[j]? = some (a, .inl (G 0, n, .inl (ai f)))) (hB : B.set j (a, .inl (G 0, n, .inl (ai (filI v n f)))) = B1) (hBs : Bs.set i B1 = Bs1) : CtV l yJ7_fill_53178 wsJ7_fill_53178 rmJ7_fill_53178 D G [.ref a, .int (iI v)] Bs (fun _ : Unit => True) (fun _ => Bs1) := by
  refine CtV.of (cc := cJ7_fill_53178) (maxL := 4) (by decide) rfl (Nat.le_of_ble_eq_true rfl) ?_
  intro p0 e0 s0 m0 args bel met cd A0 ls Q0 hx hb hml hown hts hK hP hD hA hl fin
  have hl : lv_has ls 4 [(0, .ref a), (1, .int (iI v))] := hl
  have hS : va_S A0 s0.heap s0.heap [] := va_S.rf
  have L5 : ∀ (fu : Nat) (k : Int) (H : Heap) (locs : List Loc) (ls : Array Slot), ((n : Int) - k < (fu : Int)) → (0 ≤ k ∧ k ≤ n) → va_P D vwCl (fl (Bs.set i (B.set j (a, .inl (G 0, n, .inl (ai (filI v k.toNat f))))))) H → va_D A0 (fl (Bs.set i (B.set j (a, .inl (G 0, n, .inl (ai (filI v k.toNat f))))))) → va_S A0 s0.heap H locs → lv_has ls 4 [(0, .ref a), (1, .int (iI v)), (2, .int (iI k)), (3, .int (iI (n : Int)))] → W p0 l e0 rmJ7_fill_53178 s0 m0 args bel met cd H locs 0 0 Q0 (F0 m0 5 ls []) := by
    intro fu
    induction fu with
    | zero =>
      intro k H locs ls hfu hk
      exact absurd hfu (by omega)
    | succ fu ih =>
      intro k H locs ls hfu hk hP hD hS hl
      refine lv_iload_n hx hb dJ7_fill_53178_5 rfl (lv_at hl 2 rfl) ?_
      refine lv_iload_n hx hb dJ7_fill_53178_6 rfl (lv_at hl 3 rfl) ?_
      refine wi_icmp_ge (tgt := 20) hx hb (by omega) (by omega) dJ7_fill_53178_7 (by decide) (fun c7 => ?_) (fun c7 => ?_)
      · have e : k.toNat = n := by omega
        rw [e, hB, hBs] at hP hD
        exact fin () H locs ls 20 dJ7_fill_53178_20 hP hD hS trivial
      · refine lv_aload_n hx hb dJ7_fill_53178_10 rfl (lv_at hl 0 rfl) ?_
        refine lv_iload_n hx hb dJ7_fill_53178_11 rfl (lv_at hl 2 rfl) ?_
        refine lv_iload_n hx hb dJ7_fill_53178_12 rfl (lv_at hl 1 rfl) ?_
        refine g_iast hx hb hK hP hD hS (set_at hi) (set_at hj) (by omega) hn (B1 := B.set j (a, .inl (G 0, n, .inl (ai (filI v (k + 1).toNat f))))) (by rw [List.set_set, filI_s, show (k + 1).toNat = k.toNat + 1 by omega]) (Bs1 := Bs.set i (B.set j (a, .inl (G 0, n, .inl (ai (filI v (k + 1).toNat f)))))) (by rw [List.set_set]) dJ7_fill_53178_13 (fun H locs hP hD hS => ?_)
        refine lv_iinc (v := iI (k + 1)) (lv' := [(2, .int (iI (k + 1))), (0, .ref a), (1, .int (iI v)), (3, .int (iI (n : Int)))]) hx hb dJ7_fill_53178_14 hl (k := 2) rfl (iI_add _ _) (by decide) rfl (fun ls hl => ?_)
        refine lv_goto (tgt := 5) hx hb dJ7_fill_53178_17 (by decide) ?_
        exact ih (k + 1) _ _ _ (by omega) (by omega) hP hD hS (lv_sub hl [1, 2, 0, 3] rfl)
  refine wi_iconst hx hb dJ7_fill_53178_0 ?_
  refine lv_istore_n (lv' := [(2, .int (iI 0)), (0, .ref a), (1, .int (iI v))]) hx hb dJ7_fill_53178_1 rfl hl (by decide) rfl (fun ls hl => ?_)
  refine lv_aload_n hx hb dJ7_fill_53178_2 rfl (lv_at hl 1 rfl) ?_
  refine g_alen hx hb hK hP 0 hi hj rfl (n := n) rfl dJ7_fill_53178_3 ?_
  refine lv_istore_n (lv' := [(3, .int (iI (n : Int))), (2, .int (iI 0)), (0, .ref a), (1, .int (iI v))]) hx hb dJ7_fill_53178_4 rfl hl (by decide) rfl (fun ls hl => ?_)
  have e : Bs.set i (B.set j (a, .inl (G 0, n, .inl (ai (filI v (0 : Int).toNat f))))) = Bs := by
    rw [show (0 : Int).toNat = 0 from rfl, filI_0, set_id hj, set_id hi]
  rw [← e] at hP hD
  exact L5 (n + 1) 0 _ _ _ (by omega) (by omega) hP hD hS (lv_sub hl [2, 3, 1, 0] rfl)
set_option maxHeartbeats 4000000 in
theorem kJ7_fill_d0a16 (l : Launch) (D : va_G) (G : Nat → ClassId) (Bs Bs1 : List va_W) (i j : Nat) (B B1 : va_W) (a n : Nat) (f : Nat → Int64) (v : Int64) (hn : n < 2147483648) (hi : Bs[i]? = some B) (hj : B[j]? = some (a, .inl (G 2, n, .inr (.inl f)))) (hB : B.set j (a, .inl (G 2, n, .inr (.inl (filL v n f)))) = B1) (hBs : Bs.set i B1 = Bs1) : CtV l yJ7_fill_d0a16 wsJ7_fill_d0a16 rmJ7_fill_d0a16 D G [.ref a, .long v] Bs (fun _ : Unit => True) (fun _ => Bs1) := by
  refine CtV.of (cc := cJ7_fill_d0a16) (maxL := 5) (by decide) rfl (Nat.le_of_ble_eq_true rfl) ?_
  intro p0 e0 s0 m0 args bel met cd A0 ls Q0 hx hb hml hown hts hK hP hD hA hl fin
  have hl : lv_has ls 5 [(0, .ref a), (1, .long v)] := hl
  have hS : va_S A0 s0.heap s0.heap [] := va_S.rf
  have L6 : ∀ (fu : Nat) (k : Int) (H : Heap) (locs : List Loc) (ls : Array Slot), ((n : Int) - k < (fu : Int)) → (0 ≤ k ∧ k ≤ n) → va_P D vwCl (fl (Bs.set i (B.set j (a, .inl (G 2, n, .inr (.inl (filL v k.toNat f))))))) H → va_D A0 (fl (Bs.set i (B.set j (a, .inl (G 2, n, .inr (.inl (filL v k.toNat f))))))) → va_S A0 s0.heap H locs → lv_has ls 5 [(0, .ref a), (1, .long v), (3, .int (iI k)), (4, .int (iI (n : Int)))] → W p0 l e0 rmJ7_fill_d0a16 s0 m0 args bel met cd H locs 0 0 Q0 (F0 m0 6 ls []) := by
    intro fu
    induction fu with
    | zero =>
      intro k H locs ls hfu hk
      exact absurd hfu (by omega)
    | succ fu ih =>
      intro k H locs ls hfu hk hP hD hS hl
      refine lv_iload_n hx hb dJ7_fill_d0a16_6 rfl (lv_at hl 2 rfl) ?_
      refine lv_iload hx hb dJ7_fill_d0a16_7 (lv_at hl 3 rfl) ?_
      refine wi_icmp_ge (tgt := 22) hx hb (by omega) (by omega) dJ7_fill_d0a16_9 (by decide) (fun c7 => ?_) (fun c7 => ?_)
      · have e : k.toNat = n := by omega
        rw [e, hB, hBs] at hP hD
        exact fin () H locs ls 22 dJ7_fill_d0a16_22 hP hD hS trivial
      · refine lv_aload_n hx hb dJ7_fill_d0a16_12 rfl (lv_at hl 0 rfl) ?_
        refine lv_iload_n hx hb dJ7_fill_d0a16_13 rfl (lv_at hl 2 rfl) ?_
        refine lv_lload_n hx hb dJ7_fill_d0a16_14 rfl (lv_at hl 1 rfl) ?_
        refine g_last hx hb hK hP hD hS (set_at hi) (set_at hj) (by omega) hn (B1 := B.set j (a, .inl (G 2, n, .inr (.inl (filL v (k + 1).toNat f))))) (by rw [List.set_set, filL_s, show (k + 1).toNat = k.toNat + 1 by omega]) (Bs1 := Bs.set i (B.set j (a, .inl (G 2, n, .inr (.inl (filL v (k + 1).toNat f)))))) (by rw [List.set_set]) dJ7_fill_d0a16_15 (fun H locs hP hD hS => ?_)
        refine lv_iinc (v := iI (k + 1)) (lv' := [(3, .int (iI (k + 1))), (0, .ref a), (1, .long v), (4, .int (iI (n : Int)))]) hx hb dJ7_fill_d0a16_16 hl (k := 2) rfl (iI_add _ _) (by decide) rfl (fun ls hl => ?_)
        refine lv_goto (tgt := 6) hx hb dJ7_fill_d0a16_19 (by decide) ?_
        exact ih (k + 1) _ _ _ (by omega) (by omega) hP hD hS (lv_sub hl [1, 2, 0, 3] rfl)
  refine wi_iconst hx hb dJ7_fill_d0a16_0 ?_
  refine lv_istore_n (lv' := [(3, .int (iI 0)), (0, .ref a), (1, .long v)]) hx hb dJ7_fill_d0a16_1 rfl hl (by decide) rfl (fun ls hl => ?_)
  refine lv_aload_n hx hb dJ7_fill_d0a16_2 rfl (lv_at hl 1 rfl) ?_
  refine g_alen hx hb hK hP 2 hi hj rfl (n := n) rfl dJ7_fill_d0a16_3 ?_
  refine lv_istore (lv' := [(4, .int (iI (n : Int))), (3, .int (iI 0)), (0, .ref a), (1, .long v)]) hx hb dJ7_fill_d0a16_4 hl (by decide) rfl (fun ls hl => ?_)
  have e : Bs.set i (B.set j (a, .inl (G 2, n, .inr (.inl (filL v (0 : Int).toNat f))))) = Bs := by
    rw [show (0 : Int).toNat = 0 from rfl, filL_0, set_id hj, set_id hi]
  rw [← e] at hP hD
  exact L6 (n + 1) 0 _ _ _ (by omega) (by omega) hP hD hS (lv_sub hl [2, 3, 1, 0] rfl)
section COPY
variable {p : Program} {l : Launch} {e : Env} {R : Room} {s : State} {m : MethodId} {args : Array Value} {below : List Frame} {meth : Method} {c : Code} {H : Heap} {locs : List Loc} {cells slots : Nat} {Q : State → Prop}
variable {cc : ByteArray} {pc : Nat} {ls : Array Slot} {rest : List Value} {D : va_G} {A : Nat → Prop} {a : Nat} {Bs Bs1 : List va_W} {H0 : Heap} {G : Nat → ClassId} {i j i0 j0 : Nat} {B B1 B0 : va_W}
theorem g_copy (hx : p.tables.exec = Jvm.exec) (hb : c.code = cc) (hml : c.maxLocals = ls.size) {own : String} {index : Nat} {Ts : List Cond} (hts : ∀ w ∈ Ts, w.before args s = true) (hown : s.vm.findClass own = some m.cls) (h1 : Cond.methodLink own index arraycopyName ∈ Ts) (h2 : Cond.native arraycopyName ∈ Ts) (h3 : Cond.static arraycopyName ∈ Ts) (h4 : Cond.initialized "java/lang/System" ∈ Ts) (hK : va_K D vwCl (TY G) s) (hP : va_P D vwCl (fl Bs) H) (hD : va_D A (fl Bs)) (hS : va_S A H0 H locs) (hi0 : Bs[i0]? = some B0) {a0 n0 n1 : Nat} {f g : Nat → Int} (hj0 : B0[j0]? = some (a0, .inl (G 0, n0, .inl (ai f)))) (hi : Bs[i]? = some B) (hj : B[j]? = some (a, .inl (G 0, n1, .inl (ai g)))) {sp dp n : Int} (k1 : 0 ≤ sp ∧ sp < 2147483648) (k2 : 0 ≤ dp ∧ dp < 2147483648) (k3 : 0 ≤ n ∧ n < 2147483648) (k4 : sp + n ≤ n0) (k5 : dp + n ≤ n1) (hB : B.set j (a, .inl (G 0, n1, .inl (ai (va_cpy f g sp.toNat dp.toNat n.toNat)))) = B1) (hBs : Bs.set i B1 = Bs1) (hr : 1 ≤ R.frames ∧ (rest.map fun v => v.category).sum + (nativeFrameWords "java/lang/System" "arraycopy" 5 + 11) ≤ R.locals) (hdg : decode cc pc = .ok (.invokestatic index, 3))
    (k : ∀ (H1 : Heap) (locs1 : List Loc), va_P D vwCl (fl Bs1) H1 → va_D A (fl Bs1) → va_S A H0 H1 locs1 → W p l e R s m args below meth c H1 locs1 cells slots Q (F0 m (pc + 3) ls rest)) : W p l e R s m args below meth c H locs cells slots Q (F0 m pc ls (.int (iI n) :: .int (iI dp) :: .ref a :: .int (iI sp) :: .ref a0 :: rest)) := by
  obtain ⟨q0, e0, -⟩ := fl_at hi0 hj0
  obtain ⟨q1, e1, s1⟩ := fl_at hi hj
  refine va_copyi hx hb hml hown (hts _ h1) (hts _ h2) (hts _ h3) (hts _ h4) hK hP hD hS q0 q1 0 0 e0 e1 rfl rfl rfl (iI_nlt0 k1) (iI_nlt0 k2) (iI_nlt0 k3) (by rw [iI_clamp k1, iI_clamp k3]; omega) (by rw [iI_clamp k2, iI_clamp k3]; omega) (fun _ _ => rfl) hr.1 hr.2 hdg (fun H1 locs1 p1 d1 t1 => ?_)
  rw [iI_clamp k1, iI_clamp k2, iI_clamp k3, ai_cpy, s1, hB, hBs] at p1 d1
  exact k H1 locs1 p1 d1 t1
end COPY
end
section
abbrev rmX0_steps : Room := { frames := 0, cells := 0, slots := 0, locals := 0 }
set_option maxHeartbeats 4000000 in
set_option maxRecDepth 100000 in
theorem kX0_steps (l : Launch) (D : va_G) (G : Nat → ClassId) (q : Nat → Nat) (st : Int) (th : Nat → Int) (R : Nat → Nat → Int) (sp : Nat → Int) : CtI l yX0_steps wsX0_steps rmX0_steps D G [.ref (q 0)] [BCams G q st th R sp] (fun (r : Int32) (_ : Unit) => r = iI st) (fun _ => [BCams G q st th R sp]) := by
  refine CtI.ofI (cc := cX0_steps) (maxL := 1) (by decide) rfl (Nat.le_of_ble_eq_true rfl) ?_
  intro p0 e0 s0 m0 args bel met cd A0 ls Q0 hx hb hml hown hts hK hP hD hA hl fin
  have hl : lv_has ls 1 [(0, .ref (q 0))] := hl
  have hS : va_S A0 s0.heap s0.heap [] := va_S.rf
  have hH : va_P D vwCl (fl [BCams G q st th R sp]) s0.heap := hP
  obtain ⟨H, eH⟩ : ∃ H, H = s0.heap := ⟨_, rfl⟩
  obtain ⟨locs, eL⟩ : ∃ locs : List Loc, locs = [] := ⟨_, rfl⟩
  have hS : va_S A0 s0.heap H locs := by rw [eH, eL]; exact hS
  have hP : va_P D vwCl (fl [BCams G q st th R sp]) H := by rw [eH]; exact hP
  suffices goal : W p0 l e0 rmX0_steps s0 m0 args bel met cd H locs 0 0 Q0 (F0 m0 0 ls []) by rw [eH, eL] at goal; exact goal
  clear eH eL hH
  refine lv_aload_n hx hb dX0_steps_0 rfl (lv_at hl 0 rfl) ?_
  refine g_get (C := RX0) (T := TX0) (N := 4) hx hb hts (fun _ h => List.mem_cons_of_mem _ (List.mem_append_right _ h)) hown hK hP (i := 0) rfl BCams_c0 rfl 3 (by decide) (by decide +kernel) rfl dX0_steps_1 ?_
  exact fin _ () H locs ls 4 dX0_steps_4 hP hD hS (trivial) (rfl)

abbrev rmX0_isThere : Room := { frames := 0, cells := 0, slots := 0, locals := 0 }
set_option maxHeartbeats 4000000 in
set_option maxRecDepth 100000 in
theorem kX0_isThere (l : Launch) (D : va_G) (G : Nat → ClassId) (q : Nat → Nat) (st : Int) (th : Nat → Int) (R : Nat → Nat → Int) (sp : Nat → Int) (c : Int) (hth : th c.toNat = 0 ∨ th c.toNat = 1) (hc : 0 ≤ c ∧ c < 12) : CtI l yX0_isThere wsX0_isThere rmX0_isThere D G [.ref (q 0), .int (iI c)] [BCams G q st th R sp] (fun (r : Int32) (_ : Unit) => r = iI (th c.toNat)) (fun _ => [BCams G q st th R sp]) := by
  refine CtI.ofZ (cc := cX0_isThere) (maxL := 2) (by decide) rfl (Nat.le_of_ble_eq_true rfl) ?_
  intro p0 e0 s0 m0 args bel met cd A0 ls Q0 hx hb hml hown hts hK hP hD hA hl fin
  have hl : lv_has ls 2 [(0, .ref (q 0)), (1, .int (iI c))] := hl
  have hS : va_S A0 s0.heap s0.heap [] := va_S.rf
  have hH : va_P D vwCl (fl [BCams G q st th R sp]) s0.heap := hP
  obtain ⟨H, eH⟩ : ∃ H, H = s0.heap := ⟨_, rfl⟩
  obtain ⟨locs, eL⟩ : ∃ locs : List Loc, locs = [] := ⟨_, rfl⟩
  have hS : va_S A0 s0.heap H locs := by rw [eH, eL]; exact hS
  have hP : va_P D vwCl (fl [BCams G q st th R sp]) H := by rw [eH]; exact hP
  suffices goal : W p0 l e0 rmX0_isThere s0 m0 args bel met cd H locs 0 0 Q0 (F0 m0 0 ls []) by rw [eH, eL] at goal; exact goal
  clear eH eL hH
  refine lv_aload_n hx hb dX0_isThere_0 rfl (lv_at hl 0 rfl) ?_
  refine g_get (C := RX0) (T := TX0) (N := 4) hx hb hts (fun _ h => List.mem_cons_of_mem _ (List.mem_append_right _ h)) hown hK hP (i := 0) rfl BCams_c0 rfl 1 (by decide) (by decide +kernel) rfl dX0_isThere_1 ?_
  refine lv_iload_n hx hb dX0_isThere_4 rfl (lv_at hl 1 rfl) ?_
  refine g_zald hx hb hK hP (i := 0) rfl BCams_c2 (by omega) (by decide) dX0_isThere_5 ?_
  exact fin _ () H locs ls 6 dX0_isThere_6 hP hD hS (nz hth) (rfl)

abbrev rmX0_remove : Room := { frames := 0, cells := 0, slots := 0, locals := 0 }
set_option maxHeartbeats 4000000 in
set_option maxRecDepth 100000 in
theorem kX0_remove (l : Launch) (D : va_G) (G : Nat → ClassId) (q : Nat → Nat) (st : Int) (th : Nat → Int) (R : Nat → Nat → Int) (sp : Nat → Int) (c : Int) (hc : 0 ≤ c ∧ c < 12) : CtV l yX0_remove wsX0_remove rmX0_remove D G [.ref (q 0), .int (iI c)] [BCams G q st th R sp] (fun _ : Unit => True) (fun _ => [BCams G q st (va_up th c.toNat 0) R sp]) := by
  refine CtV.of (cc := cX0_remove) (maxL := 2) (by decide) rfl (Nat.le_of_ble_eq_true rfl) ?_
  intro p0 e0 s0 m0 args bel met cd A0 ls Q0 hx hb hml hown hts hK hP hD hA hl fin
  have hl : lv_has ls 2 [(0, .ref (q 0)), (1, .int (iI c))] := hl
  have hS : va_S A0 s0.heap s0.heap [] := va_S.rf
  have hH : va_P D vwCl (fl [BCams G q st th R sp]) s0.heap := hP
  obtain ⟨H, eH⟩ : ∃ H, H = s0.heap := ⟨_, rfl⟩
  obtain ⟨locs, eL⟩ : ∃ locs : List Loc, locs = [] := ⟨_, rfl⟩
  have hS : va_S A0 s0.heap H locs := by rw [eH, eL]; exact hS
  have hP : va_P D vwCl (fl [BCams G q st th R sp]) H := by rw [eH]; exact hP
  suffices goal : W p0 l e0 rmX0_remove s0 m0 args bel met cd H locs 0 0 Q0 (F0 m0 0 ls []) by rw [eH, eL] at goal; exact goal
  clear eH eL hH
  refine lv_aload_n hx hb dX0_remove_0 rfl (lv_at hl 0 rfl) ?_
  refine g_get (C := RX0) (T := TX0) (N := 4) hx hb hts (fun _ h => List.mem_cons_of_mem _ (List.mem_append_right _ h)) hown hK hP (i := 0) rfl BCams_c0 rfl 1 (by decide) (by decide +kernel) rfl dX0_remove_1 ?_
  refine lv_iload_n hx hb dX0_remove_4 rfl (lv_at hl 1 rfl) ?_
  refine wi_iconst hx hb dX0_remove_5 ?_
  refine g_zast hx hb hK hP hD hS (i := 0) rfl BCams_c2 (by omega) (by decide) (by decide) (B1 := BCams G q st (va_up th c.toNat 0) R sp) rfl (Bs1 := [BCams G q st (va_up th c.toNat 0) R sp]) rfl dX0_remove_6 (fun H locs hP hD hS => ?_)
  exact fin () H locs ls 7 dX0_remove_7 hP hD hS (trivial)

abbrev rmX0_heightAt : Room := { frames := 0, cells := 0, slots := 0, locals := 0 }
set_option maxHeartbeats 4000000 in
set_option maxRecDepth 100000 in
theorem kX0_heightAt (l : Launch) (D : va_G) (G : Nat → ClassId) (q : Nat → Nat) (st : Int) (th : Nat → Int) (R : Nat → Nat → Int) (sp : Nat → Int) (c : Int) (t : Int) (hc : 0 ≤ c ∧ c < 12) (ht : 0 ≤ t ∧ t < 16) : CtI l yX0_heightAt wsX0_heightAt rmX0_heightAt D G [.ref (q 0), .int (iI c), .int (iI t)] [BCams G q st th R sp] (fun (r : Int32) (_ : Unit) => r = iI (R c.toNat t.toNat)) (fun _ => [BCams G q st th R sp]) := by
  refine CtI.ofI (cc := cX0_heightAt) (maxL := 3) (by decide) rfl (Nat.le_of_ble_eq_true rfl) ?_
  intro p0 e0 s0 m0 args bel met cd A0 ls Q0 hx hb hml hown hts hK hP hD hA hl fin
  have hl : lv_has ls 3 [(0, .ref (q 0)), (1, .int (iI c)), (2, .int (iI t))] := hl
  have hS : va_S A0 s0.heap s0.heap [] := va_S.rf
  have hH : va_P D vwCl (fl [BCams G q st th R sp]) s0.heap := hP
  obtain ⟨H, eH⟩ : ∃ H, H = s0.heap := ⟨_, rfl⟩
  obtain ⟨locs, eL⟩ : ∃ locs : List Loc, locs = [] := ⟨_, rfl⟩
  have hS : va_S A0 s0.heap H locs := by rw [eH, eL]; exact hS
  have hP : va_P D vwCl (fl [BCams G q st th R sp]) H := by rw [eH]; exact hP
  suffices goal : W p0 l e0 rmX0_heightAt s0 m0 args bel met cd H locs 0 0 Q0 (F0 m0 0 ls []) by rw [eH, eL] at goal; exact goal
  clear eH eL hH
  refine lv_aload_n hx hb dX0_heightAt_0 rfl (lv_at hl 0 rfl) ?_
  refine g_get (C := RX0) (T := TX0) (N := 4) hx hb hts (fun _ h => List.mem_cons_of_mem _ (List.mem_append_right _ h)) hown hK hP (i := 0) rfl BCams_c0 rfl 0 (by decide) (by decide +kernel) rfl dX0_heightAt_1 ?_
  refine lv_iload_n hx hb dX0_heightAt_4 rfl (lv_at hl 1 rfl) ?_
  refine g_aald (r := fun i => q (4 + i)) hx hb hK hP (i := 0) rfl BCams_c1 (by omega) (by decide) dX0_heightAt_5 ?_
  refine lv_iload_n hx hb dX0_heightAt_6 rfl (lv_at hl 2 rfl) ?_
  refine g_iald hx hb hK hP (i := 0) rfl (BCams_row (by omega)) (by omega) (by decide) dX0_heightAt_7 ?_
  exact fin _ () H locs ls 8 dX0_heightAt_8 hP hD hS (trivial) (rfl)

abbrev rmX0_setHeight : Room := { frames := 0, cells := 0, slots := 0, locals := 0 }
set_option maxHeartbeats 4000000 in
set_option maxRecDepth 100000 in
theorem kX0_setHeight (l : Launch) (D : va_G) (G : Nat → ClassId) (q : Nat → Nat) (st : Int) (th : Nat → Int) (R : Nat → Nat → Int) (sp : Nat → Int) (c : Int) (t : Int) (v : Int) (hc : 0 ≤ c ∧ c < 12) (ht : 0 ≤ t ∧ t < 16) : CtV l yX0_setHeight wsX0_setHeight rmX0_setHeight D G [.ref (q 0), .int (iI c), .int (iI t), .int (iI v)] [BCams G q st th R sp] (fun _ : Unit => True) (fun _ => [BCams G q st th (va_up R c.toNat (va_up (R c.toNat) t.toNat v)) sp]) := by
  refine CtV.of (cc := cX0_setHeight) (maxL := 4) (by decide) rfl (Nat.le_of_ble_eq_true rfl) ?_
  intro p0 e0 s0 m0 args bel met cd A0 ls Q0 hx hb hml hown hts hK hP hD hA hl fin
  have hl : lv_has ls 4 [(0, .ref (q 0)), (1, .int (iI c)), (2, .int (iI t)), (3, .int (iI v))] := hl
  have hS : va_S A0 s0.heap s0.heap [] := va_S.rf
  have hH : va_P D vwCl (fl [BCams G q st th R sp]) s0.heap := hP
  obtain ⟨H, eH⟩ : ∃ H, H = s0.heap := ⟨_, rfl⟩
  obtain ⟨locs, eL⟩ : ∃ locs : List Loc, locs = [] := ⟨_, rfl⟩
  have hS : va_S A0 s0.heap H locs := by rw [eH, eL]; exact hS
  have hP : va_P D vwCl (fl [BCams G q st th R sp]) H := by rw [eH]; exact hP
  suffices goal : W p0 l e0 rmX0_setHeight s0 m0 args bel met cd H locs 0 0 Q0 (F0 m0 0 ls []) by rw [eH, eL] at goal; exact goal
  clear eH eL hH
  refine lv_aload_n hx hb dX0_setHeight_0 rfl (lv_at hl 0 rfl) ?_
  refine g_get (C := RX0) (T := TX0) (N := 4) hx hb hts (fun _ h => List.mem_cons_of_mem _ (List.mem_append_right _ h)) hown hK hP (i := 0) rfl BCams_c0 rfl 0 (by decide) (by decide +kernel) rfl dX0_setHeight_1 ?_
  refine lv_iload_n hx hb dX0_setHeight_4 rfl (lv_at hl 1 rfl) ?_
  refine g_aald (r := fun i => q (4 + i)) hx hb hK hP (i := 0) rfl BCams_c1 (by omega) (by decide) dX0_setHeight_5 ?_
  refine lv_iload_n hx hb dX0_setHeight_6 rfl (lv_at hl 2 rfl) ?_
  refine lv_iload_n hx hb dX0_setHeight_7 rfl (lv_at hl 3 rfl) ?_
  refine g_iast hx hb hK hP hD hS (i := 0) rfl (BCams_row (by omega)) (by omega) (by decide) (B1 := BCams G q st th (va_up R c.toNat (va_up (R c.toNat) t.toNat v)) sp) (BCams_srow _ (by omega)) (Bs1 := [BCams G q st th (va_up R c.toNat (va_up (R c.toNat) t.toNat v)) sp]) rfl dX0_setHeight_8 (fun H locs hP hD hS => ?_)
  exact fin () H locs ls 9 dX0_setHeight_9 hP hD hS (trivial)

abbrev rmX0_further : Room := { frames := 0, cells := 0, slots := 0, locals := 0 }
set_option maxHeartbeats 4000000 in
set_option maxRecDepth 100000 in
theorem kX0_further (l : Launch) (D : va_G) (G : Nat → ClassId) (q : Nat → Nat) (st : Int) (th : Nat → Int) (R : Nat → Nat → Int) (sp : Nat → Int) (a : Int) (n : Int) (hst : 2 ≤ st ∧ st ≤ 16) (ha : 0 ≤ a ∧ a < st) (hn : 0 ≤ n ∧ n < st) : CtI l yX0_further wsX0_further rmX0_further D G [.ref (q 0), .int (iI a), .int (iI n)] [BCams G q st th R sp] (fun (r : Int32) (_ : Unit) => r = iI (fw st (a + n))) (fun _ => [BCams G q st th R sp]) := by
  refine CtI.ofI (cc := cX0_further) (maxL := 4) (by decide) rfl (Nat.le_of_ble_eq_true rfl) ?_
  intro p0 e0 s0 m0 args bel met cd A0 ls Q0 hx hb hml hown hts hK hP hD hA hl fin
  have hl : lv_has ls 4 [(0, .ref (q 0)), (1, .int (iI a)), (2, .int (iI n))] := hl
  have hS : va_S A0 s0.heap s0.heap [] := va_S.rf
  have hH : va_P D vwCl (fl [BCams G q st th R sp]) s0.heap := hP
  obtain ⟨H, eH⟩ : ∃ H, H = s0.heap := ⟨_, rfl⟩
  obtain ⟨locs, eL⟩ : ∃ locs : List Loc, locs = [] := ⟨_, rfl⟩
  have hS : va_S A0 s0.heap H locs := by rw [eH, eL]; exact hS
  have hP : va_P D vwCl (fl [BCams G q st th R sp]) H := by rw [eH]; exact hP
  suffices goal : W p0 l e0 rmX0_further s0 m0 args bel met cd H locs 0 0 Q0 (F0 m0 0 ls []) by rw [eH, eL] at goal; exact goal
  clear eH eL hH
  refine lv_iload_n hx hb dX0_further_0 rfl (lv_at hl 1 rfl) ?_
  refine lv_iload_n hx hb dX0_further_1 rfl (lv_at hl 2 rfl) ?_
  refine wi_iadd hx hb dX0_further_2 ?_
  refine lv_istore_n (lv' := [(3, .int (iI (a + n))), (0, .ref (q 0)), (1, .int (iI a)), (2, .int (iI n))]) hx hb dX0_further_3 rfl hl (by decide) rfl (fun ls hl => ?_)
  refine lv_iload_n hx hb dX0_further_4 rfl (lv_at hl 0 rfl) ?_
  refine lv_aload_n hx hb dX0_further_5 rfl (lv_at hl 1 rfl) ?_
  refine g_get (C := RX0) (T := TX0) (N := 4) hx hb hts (fun _ h => List.mem_cons_of_mem _ (List.mem_append_right _ h)) hown hK hP (i := 0) rfl BCams_c0 rfl 3 (by decide) (by decide +kernel) rfl dX0_further_6 ?_
  refine wi_icmp_ge (tgt := 16) hx hb (by omega) (by omega) dX0_further_9 (by decide) (fun c9 => ?_) (fun c9 => ?_)
  ·
    refine lv_iload_n hx hb dX0_further_16 rfl (lv_at hl 0 rfl) ?_
    refine lv_aload_n hx hb dX0_further_17 rfl (lv_at hl 1 rfl) ?_
    refine g_get (C := RX0) (T := TX0) (N := 4) hx hb hts (fun _ h => List.mem_cons_of_mem _ (List.mem_append_right _ h)) hown hK hP (i := 0) rfl BCams_c0 rfl 3 (by decide) (by decide +kernel) rfl dX0_further_18 ?_
    refine wi_isub hx hb dX0_further_21 ?_
    exact fin _ () H locs ls 22 dX0_further_22 hP hD hS (trivial) (congrArg iI (by unfold fw; split <;> omega))
  ·
    refine lv_iload_n hx hb dX0_further_12 rfl (lv_at hl 0 rfl) ?_
    refine lv_goto (tgt := 22) hx hb dX0_further_13 (by decide) ?_
    exact fin _ () H locs ls 22 dX0_further_22 hP hD hS (trivial) (congrArg iI (by unfold fw; split <;> omega))

abbrev rmX0_hasSpan : Room := { frames := 0, cells := 0, slots := 0, locals := 0 }
set_option maxHeartbeats 4000000 in
set_option maxRecDepth 100000 in
theorem kX0_hasSpan (l : Launch) (D : va_G) (G : Nat → ClassId) (q : Nat → Nat) (st : Int) (th : Nat → Int) (R : Nat → Nat → Int) (sp : Nat → Int) (f : Int) (n : Int) (hst : 2 ≤ st ∧ st ≤ 16) (hf : -2147483648 ≤ f ∧ f < 2147483648) (hn : -2147483648 ≤ n ∧ n < 2147483648) : CtI l yX0_hasSpan wsX0_hasSpan rmX0_hasSpan D G [.ref (q 0), .int (iI f), .int (iI n)] [BCams G q st th R sp] (fun (r : Int32) (_ : Unit) => r = iI (if 0 ≤ n ∧ n ≤ st ∧ 0 ≤ f ∧ f ≤ st - n then 1 else 0)) (fun _ => [BCams G q st th R sp]) := by
  refine CtI.ofZ (cc := cX0_hasSpan) (maxL := 3) (by decide) rfl (Nat.le_of_ble_eq_true rfl) ?_
  intro p0 e0 s0 m0 args bel met cd A0 ls Q0 hx hb hml hown hts hK hP hD hA hl fin
  have hl : lv_has ls 3 [(0, .ref (q 0)), (1, .int (iI f)), (2, .int (iI n))] := hl
  have hS : va_S A0 s0.heap s0.heap [] := va_S.rf
  have hH : va_P D vwCl (fl [BCams G q st th R sp]) s0.heap := hP
  obtain ⟨H, eH⟩ : ∃ H, H = s0.heap := ⟨_, rfl⟩
  obtain ⟨locs, eL⟩ : ∃ locs : List Loc, locs = [] := ⟨_, rfl⟩
  have hS : va_S A0 s0.heap H locs := by rw [eH, eL]; exact hS
  have hP : va_P D vwCl (fl [BCams G q st th R sp]) H := by rw [eH]; exact hP
  suffices goal : W p0 l e0 rmX0_hasSpan s0 m0 args bel met cd H locs 0 0 Q0 (F0 m0 0 ls []) by rw [eH, eL] at goal; exact goal
  clear eH eL hH
  refine lv_iload_n hx hb dX0_hasSpan_0 rfl (lv_at hl 2 rfl) ?_
  refine wi_if_lt (tgt := 30) hx hb (by omega) dX0_hasSpan_1 (by decide) (fun c1 => ?_) (fun c1 => ?_)
  ·
    refine wi_iconst hx hb dX0_hasSpan_30 ?_
    exact fin _ () H locs ls 31 dX0_hasSpan_31 hP hD hS (by decide) (congrArg iI (by first | rfl | (rw [if_pos (by omega)]) | (rw [if_neg (by omega)]) | (split <;> omega)))
  ·
    refine lv_iload_n hx hb dX0_hasSpan_4 rfl (lv_at hl 2 rfl) ?_
    refine lv_aload_n hx hb dX0_hasSpan_5 rfl (lv_at hl 0 rfl) ?_
    refine g_get (C := RX0) (T := TX0) (N := 4) hx hb hts (fun _ h => List.mem_cons_of_mem _ (List.mem_append_right _ h)) hown hK hP (i := 0) rfl BCams_c0 rfl 3 (by decide) (by decide +kernel) rfl dX0_hasSpan_6 ?_
    refine wi_icmp_gt (tgt := 30) hx hb (by omega) (by omega) dX0_hasSpan_9 (by decide) (fun c9 => ?_) (fun c9 => ?_)
    ·
      refine wi_iconst hx hb dX0_hasSpan_30 ?_
      exact fin _ () H locs ls 31 dX0_hasSpan_31 hP hD hS (by decide) (congrArg iI (by first | rfl | (rw [if_pos (by omega)]) | (rw [if_neg (by omega)]) | (split <;> omega)))
    ·
      refine lv_iload_n hx hb dX0_hasSpan_12 rfl (lv_at hl 1 rfl) ?_
      refine wi_if_lt (tgt := 30) hx hb (by omega) dX0_hasSpan_13 (by decide) (fun c13 => ?_) (fun c13 => ?_)
      ·
        refine wi_iconst hx hb dX0_hasSpan_30 ?_
        exact fin _ () H locs ls 31 dX0_hasSpan_31 hP hD hS (by decide) (congrArg iI (by first | rfl | (rw [if_pos (by omega)]) | (rw [if_neg (by omega)]) | (split <;> omega)))
      ·
        refine lv_iload_n hx hb dX0_hasSpan_16 rfl (lv_at hl 1 rfl) ?_
        refine lv_aload_n hx hb dX0_hasSpan_17 rfl (lv_at hl 0 rfl) ?_
        refine g_get (C := RX0) (T := TX0) (N := 4) hx hb hts (fun _ h => List.mem_cons_of_mem _ (List.mem_append_right _ h)) hown hK hP (i := 0) rfl BCams_c0 rfl 3 (by decide) (by decide +kernel) rfl dX0_hasSpan_18 ?_
        refine lv_iload_n hx hb dX0_hasSpan_21 rfl (lv_at hl 2 rfl) ?_
        refine wi_isub hx hb dX0_hasSpan_22 ?_
        refine wi_icmp_gt (tgt := 30) hx hb (by omega) (by omega) dX0_hasSpan_23 (by decide) (fun c23 => ?_) (fun c23 => ?_)
        ·
          refine wi_iconst hx hb dX0_hasSpan_30 ?_
          exact fin _ () H locs ls 31 dX0_hasSpan_31 hP hD hS (by decide) (congrArg iI (by first | rfl | (rw [if_pos (by omega)]) | (rw [if_neg (by omega)]) | (split <;> omega)))
        ·
          refine wi_iconst hx hb dX0_hasSpan_26 ?_
          refine lv_goto (tgt := 31) hx hb dX0_hasSpan_27 (by decide) ?_
          exact fin _ () H locs ls 31 dX0_hasSpan_31 hP hD hS (by decide) (congrArg iI (by first | rfl | (rw [if_pos (by omega)]) | (rw [if_neg (by omega)]) | (split <;> omega)))

abbrev rmX0_size : Room := { frames := 0, cells := 0, slots := 0, locals := 0 }
set_option maxHeartbeats 4000000 in
set_option maxRecDepth 100000 in
theorem kX0_size (l : Launch) (D : va_G) (G : Nat → ClassId) (q : Nat → Nat) (st : Int) (th : Nat → Int) (R : Nat → Nat → Int) (sp : Nat → Int) (hth : ∀ k, th k = 0 ∨ th k = 1) : CtI l yX0_size wsX0_size rmX0_size D G [.ref (q 0)] [BCams G q st th R sp] (fun (r : Int32) (_ : Unit) => r = iI (cnt th 12)) (fun _ => [BCams G q st th R sp]) := by
  refine CtI.ofI (cc := cX0_size) (maxL := 3) (by decide) rfl (Nat.le_of_ble_eq_true rfl) ?_
  intro p0 e0 s0 m0 args bel met cd A0 ls Q0 hx hb hml hown hts hK hP hD hA hl fin
  have hl : lv_has ls 3 [(0, .ref (q 0))] := hl
  have hS : va_S A0 s0.heap s0.heap [] := va_S.rf
  have hH : va_P D vwCl (fl [BCams G q st th R sp]) s0.heap := hP
  obtain ⟨H, eH⟩ : ∃ H, H = s0.heap := ⟨_, rfl⟩
  obtain ⟨locs, eL⟩ : ∃ locs : List Loc, locs = [] := ⟨_, rfl⟩
  have hS : va_S A0 s0.heap H locs := by rw [eH, eL]; exact hS
  have hP : va_P D vwCl (fl [BCams G q st th R sp]) H := by rw [eH]; exact hP
  suffices goal : W p0 l e0 rmX0_size s0 m0 args bel met cd H locs 0 0 Q0 (F0 m0 0 ls []) by rw [eH, eL] at goal; exact goal
  clear eH eL hH
  refine wi_iconst hx hb dX0_size_0 ?_
  refine lv_istore_n (lv' := [(1, .int (iI 0)), (0, .ref (q 0))]) hx hb dX0_size_1 rfl hl (by decide) rfl (fun ls hl => ?_)
  refine wi_iconst hx hb dX0_size_2 ?_
  refine lv_istore_n (lv' := [(2, .int (iI 0)), (1, .int (iI 0)), (0, .ref (q 0))]) hx hb dX0_size_3 rfl hl (by decide) rfl (fun ls hl => ?_)
  have L4 : ∀ (fu : Nat) (n0 : Int) (i : Int) (H : Heap) (locs : List Loc) (ls : Array Slot), (12 - i < (fu : Int)) → (0 ≤ i ∧ i ≤ 12) → (n0 = cnt th i.toNat) → va_P D vwCl (fl [BCams G q st th R sp]) H → va_D A0 (fl [BCams G q st th R sp]) → va_S A0 s0.heap H locs → lv_has ls 3 [(0, .ref (q 0)), (1, .int (iI n0)), (2, .int (iI i))] → W p0 l e0 rmX0_size s0 m0 args bel met cd H locs 0 0 Q0 (F0 m0 4 ls []) := by
    intro fu
    induction fu with
    | zero =>
      intro n0 i H locs ls hfu hi hc
      exact absurd hfu (by omega)
    | succ fu ih =>
      intro n0 i H locs ls hfu hi hc hP hD hS hl
      have ih4 := ih
      clear ih
      refine lv_iload_n hx hb dX0_size_4 rfl (lv_at hl 2 rfl) ?_
      refine wi_bipush hx hb dX0_size_5 (by decide) ?_
      refine wi_icmp_ge (tgt := 28) hx hb (by omega) (by omega) dX0_size_7 (by decide) (fun c7 => ?_) (fun c7 => ?_)
      ·
        refine lv_iload_n hx hb dX0_size_28 rfl (lv_at hl 1 rfl) ?_
        exact fin _ () H locs ls 29 dX0_size_29 hP hD hS (trivial) (congrArg iI (by rw [hc, show i = 12 by omega]; rfl))
      ·
        refine lv_aload_n hx hb dX0_size_10 rfl (lv_at hl 0 rfl) ?_
        refine g_get (C := RX0) (T := TX0) (N := 4) hx hb hts (fun _ h => List.mem_cons_of_mem _ (List.mem_append_right _ h)) hown hK hP (i := 0) rfl BCams_c0 rfl 1 (by decide) (by decide +kernel) rfl dX0_size_11 ?_
        refine lv_iload_n hx hb dX0_size_14 rfl (lv_at hl 2 rfl) ?_
        refine g_zald hx hb hK hP (i := 0) rfl BCams_c2 (by omega) (by decide) dX0_size_15 ?_
        have f1 := hth i.toNat
        refine wi_if_eq (tgt := 22) hx hb (by omega) dX0_size_16 (by decide) (fun c16 => ?_) (fun c16 => ?_)
        ·
          refine lv_iinc (v := iI (i + 1)) (lv' := [(2, .int (iI (i + 1))), (0, .ref (q 0)), (1, .int (iI n0))]) hx hb dX0_size_22 hl (k := 2) rfl (iI_add _ _) (by decide) rfl (fun ls hl => ?_)
          refine lv_goto (tgt := 4) hx hb dX0_size_25 (by decide) ?_
          exact ih4 n0 (i + 1) _ _ _ (by omega) (by omega) (by rw [cnt_s (by omega)]; omega) hP hD hS (lv_sub hl [1, 2, 0] rfl)
        ·
          refine lv_iinc (v := iI (n0 + 1)) (lv' := [(1, .int (iI (n0 + 1))), (0, .ref (q 0)), (2, .int (iI i))]) hx hb dX0_size_19 hl (k := 1) rfl (iI_add _ _) (by decide) rfl (fun ls hl => ?_)
          refine lv_iinc (v := iI (i + 1)) (lv' := [(2, .int (iI (i + 1))), (1, .int (iI (n0 + 1))), (0, .ref (q 0))]) hx hb dX0_size_22 hl (k := 2) rfl (iI_add _ _) (by decide) rfl (fun ls hl => ?_)
          refine lv_goto (tgt := 4) hx hb dX0_size_25 (by decide) ?_
          exact ih4 (n0 + 1) (i + 1) _ _ _ (by omega) (by omega) (by rw [cnt_s (by omega)]; omega) hP hD hS (lv_sub hl [2, 1, 0] rfl)
  exact L4 (((12 - 0) + 1 : Int)).toNat 0 0 _ _ _ (by omega) (by omega) (by rfl) hP hD hS (lv_sub hl [2, 1, 0] rfl)
end
section
abbrev rmX0_startAnew : Room := { frames := 0, cells := 0, slots := 0, locals := 0 }
set_option maxHeartbeats 4000000 in
set_option maxRecDepth 100000 in
theorem kX0_startAnew (l : Launch) (D : va_G) (G : Nat → ClassId) (q : Nat → Nat) (st : Int) (th : Nat → Int) (R : Nat → Nat → Int) (sp : Nat → Int) (v : Int) : CtV l yX0_startAnew wsX0_startAnew rmX0_startAnew D G [.ref (q 0), .int (iI v)] [BCams G q st th R sp] (fun _ : Unit => True) (fun _ => [BCams G q v (filI 0 12 th) R sp]) := by
  refine CtV.of (cc := cX0_startAnew) (maxL := 3) (by decide) rfl (Nat.le_of_ble_eq_true rfl) ?_
  intro p0 e0 s0 m0 args bel met cd A0 ls Q0 hx hb hml hown hts hK hP hD hA hl fin
  have hl : lv_has ls 3 [(0, .ref (q 0)), (1, .int (iI v))] := hl
  have hS : va_S A0 s0.heap s0.heap [] := va_S.rf
  have hH : va_P D vwCl (fl [BCams G q st th R sp]) s0.heap := hP
  obtain ⟨H, eH⟩ : ∃ H, H = s0.heap := ⟨_, rfl⟩
  obtain ⟨locs, eL⟩ : ∃ locs : List Loc, locs = [] := ⟨_, rfl⟩
  have hS : va_S A0 s0.heap H locs := by rw [eH, eL]; exact hS
  have hP : va_P D vwCl (fl [BCams G q st th R sp]) H := by rw [eH]; exact hP
  suffices goal : W p0 l e0 rmX0_startAnew s0 m0 args bel met cd H locs 0 0 Q0 (F0 m0 0 ls []) by rw [eH, eL] at goal; exact goal
  clear eH eL hH
  refine lv_aload_n hx hb dX0_startAnew_0 rfl (lv_at hl 0 rfl) ?_
  refine lv_iload_n hx hb dX0_startAnew_1 rfl (lv_at hl 1 rfl) ?_
  refine g_put (C := RX0) (T := TX0) (N := 4) hx hb hts (fun _ h => List.mem_cons_of_mem _ (List.mem_append_right _ h)) tyX0 tyX0_ok nmX0 hown hK hP hD hS (i := 0) rfl BCams_c0 rfl 3 (by decide) (by decide +kernel) rfl (by decide +kernel) (Nat.le_of_ble_eq_true rfl) (B1 := BCams G q v th R sp) rfl (Bs1 := [BCams G q v th R sp]) rfl dX0_startAnew_2 (fun H locs hP hD hS => ?_)
  refine wi_iconst hx hb dX0_startAnew_5 ?_
  refine lv_istore_n (lv' := [(2, .int (iI 0)), (0, .ref (q 0)), (1, .int (iI v))]) hx hb dX0_startAnew_6 rfl hl (by decide) rfl (fun ls hl => ?_)
  have L7 : ∀ (fu : Nat) (i : Int) (f : Nat → Int) (H : Heap) (locs : List Loc) (ls : Array Slot), (12 - i < (fu : Int)) → (0 ≤ i ∧ i ≤ 12) → (f = filI 0 i.toNat th) → va_P D vwCl (fl [BCams G q v f R sp]) H → va_D A0 (fl [BCams G q v f R sp]) → va_S A0 s0.heap H locs → lv_has ls 3 [(0, .ref (q 0)), (1, .int (iI v)), (2, .int (iI i))] → W p0 l e0 rmX0_startAnew s0 m0 args bel met cd H locs 0 0 Q0 (F0 m0 7 ls []) := by
    intro fu
    induction fu with
    | zero =>
      intro i f H locs ls hfu hi hf
      exact absurd hfu (by omega)
    | succ fu ih =>
      intro i f H locs ls hfu hi hf hP hD hS hl
      have ih7 := ih
      clear ih
      refine lv_iload_n hx hb dX0_startAnew_7 rfl (lv_at hl 2 rfl) ?_
      refine wi_bipush hx hb dX0_startAnew_8 (by decide) ?_
      refine wi_icmp_ge (tgt := 26) hx hb (by omega) (by omega) dX0_startAnew_10 (by decide) (fun c10 => ?_) (fun c10 => ?_)
      ·
        rw [show (f : Nat → Int) = (filI 0 12 th) from by rw [hf, show i = 12 by omega]; rfl] at hP hD
        exact fin () H locs ls 26 dX0_startAnew_26 hP hD hS (trivial)
      ·
        refine lv_aload_n hx hb dX0_startAnew_13 rfl (lv_at hl 0 rfl) ?_
        refine g_get (C := RX0) (T := TX0) (N := 4) hx hb hts (fun _ h => List.mem_cons_of_mem _ (List.mem_append_right _ h)) hown hK hP (i := 0) rfl BCams_c0 rfl 1 (by decide) (by decide +kernel) rfl dX0_startAnew_14 ?_
        refine lv_iload_n hx hb dX0_startAnew_17 rfl (lv_at hl 2 rfl) ?_
        refine wi_iconst hx hb dX0_startAnew_18 ?_
        refine g_zast hx hb hK hP hD hS (i := 0) rfl BCams_c2 (by omega) (by decide) (by decide) (B1 := BCams G q v (va_up f i.toNat 0) R sp) rfl (Bs1 := [BCams G q v (va_up f i.toNat 0) R sp]) rfl dX0_startAnew_19 (fun H locs hP hD hS => ?_)
        refine lv_iinc (v := iI (i + 1)) (lv' := [(2, .int (iI (i + 1))), (0, .ref (q 0)), (1, .int (iI v))]) hx hb dX0_startAnew_20 hl (k := 2) rfl (iI_add _ _) (by decide) rfl (fun ls hl => ?_)
        refine lv_goto (tgt := 7) hx hb dX0_startAnew_23 (by decide) ?_
        exact ih7 (i + 1) (va_up f i.toNat 0) _ _ _ (by omega) (by omega) (by rw [hf, filI_s, show (i + 1).toNat = i.toNat + 1 by omega]) hP hD hS (lv_sub hl [1, 2, 0] rfl)
  exact L7 (((12 - 0) + 1 : Int)).toNat 0 th _ _ _ (by omega) (by omega) ((filI_0 0 th).symm) hP hD hS (lv_sub hl [1, 2, 0] rfl)

abbrev rmX0_makeFlat : Room := { frames := 1, cells := 0, slots := 0, locals := 23 }
set_option maxHeartbeats 4000000 in
set_option maxRecDepth 100000 in
theorem kX0_makeFlat (l : Launch) (D : va_G) (G : Nat → ClassId) (q : Nat → Nat) (st : Int) (th : Nat → Int) (R : Nat → Nat → Int) (sp : Nat → Int) (c : Int) (hc : 0 ≤ c ∧ c < 12) : CtV l yX0_makeFlat wsX0_makeFlat rmX0_makeFlat D G [.ref (q 0), .int (iI c)] [BCams G q st th R sp] (fun _ : Unit => True) (fun _ => [BCams G q st (va_up th c.toNat 1) (va_up R c.toNat (filI 0 16 (R c.toNat))) sp]) := by
  refine CtV.of (cc := cX0_makeFlat) (maxL := 2) (by decide) rfl (Nat.le_of_ble_eq_true rfl) ?_
  intro p0 e0 s0 m0 args bel met cd A0 ls Q0 hx hb hml hown hts hK hP hD hA hl fin
  have hl : lv_has ls 2 [(0, .ref (q 0)), (1, .int (iI c))] := hl
  have hS : va_S A0 s0.heap s0.heap [] := va_S.rf
  have hH : va_P D vwCl (fl [BCams G q st th R sp]) s0.heap := hP
  obtain ⟨H, eH⟩ : ∃ H, H = s0.heap := ⟨_, rfl⟩
  obtain ⟨locs, eL⟩ : ∃ locs : List Loc, locs = [] := ⟨_, rfl⟩
  have hS : va_S A0 s0.heap H locs := by rw [eH, eL]; exact hS
  have hP : va_P D vwCl (fl [BCams G q st th R sp]) H := by rw [eH]; exact hP
  suffices goal : W p0 l e0 rmX0_makeFlat s0 m0 args bel met cd H locs 0 0 Q0 (F0 m0 0 ls []) by rw [eH, eL] at goal; exact goal
  clear eH eL hH
  refine lv_aload_n hx hb dX0_makeFlat_0 rfl (lv_at hl 0 rfl) ?_
  refine g_get (C := RX0) (T := TX0) (N := 4) hx hb hts (fun _ h => List.mem_cons_of_mem _ (List.mem_append_right _ h)) hown hK hP (i := 0) rfl BCams_c0 rfl 1 (by decide) (by decide +kernel) rfl dX0_makeFlat_1 ?_
  refine lv_iload_n hx hb dX0_makeFlat_4 rfl (lv_at hl 1 rfl) ?_
  refine wi_iconst hx hb dX0_makeFlat_5 ?_
  refine g_zast hx hb hK hP hD hS (i := 0) rfl BCams_c2 (by omega) (by decide) (by decide) (B1 := BCams G q st (va_up th c.toNat 1) R sp) rfl (Bs1 := [BCams G q st (va_up th c.toNat 1) R sp]) rfl dX0_makeFlat_6 (fun H locs hP hD hS => ?_)
  refine lv_aload_n hx hb dX0_makeFlat_7 rfl (lv_at hl 0 rfl) ?_
  refine g_get (C := RX0) (T := TX0) (N := 4) hx hb hts (fun _ h => List.mem_cons_of_mem _ (List.mem_append_right _ h)) hown hK hP (i := 0) rfl BCams_c0 rfl 0 (by decide) (by decide +kernel) rfl dX0_makeFlat_8 ?_
  refine lv_iload_n hx hb dX0_makeFlat_11 rfl (lv_at hl 1 rfl) ?_
  refine g_aald (r := fun i => q (4 + i)) hx hb hK hP (i := 0) rfl BCams_c1 (by omega) (by decide) dX0_makeFlat_12 ?_
  refine wi_iconst hx hb dX0_makeFlat_13 ?_
  refine cS_v (wc := [BCams G q st (va_up th c.toNat 1) R sp]) (wr := []) (w1 := fun _ => [BCams G q st (va_up th c.toNat 1) (va_up R c.toNat (filI 0 16 (R c.toNat))) sp]) (Bs1 := fun _ => [BCams G q st (va_up th c.toNat 1) (va_up R c.toNat (filI 0 16 (R c.toNat))) sp]) (As := [.ref (q (4 + c.toNat)), .int (iI 0)]) (rest := []) (kJ7_fill_53178 l D G [BCams G q st (va_up th c.toNat 1) R sp] [BCams G q st (va_up th c.toNat 1) (va_up R c.toNat (filI 0 16 (R c.toNat))) sp] 0 _ (BCams G q st (va_up th c.toNat 1) R sp) (BCams G q st (va_up th c.toNat 1) (va_up R c.toNat (filI 0 16 (R c.toNat))) sp) (q (4 + c.toNat)) 16 (R c.toNat) 0 (by decide) rfl (BCams_row (by omega)) (BCams_srow _ (by omega)) rfl) rfl ⟨hx, hb, hml, hown, hts⟩ (va_cwS 2 hts gX0_makeFlat_J7_fill_53178 rfl rfl rfl (by decide +kernel) ⟨by decide, by decide⟩) rfl hl.1 (Nat.le_of_ble_eq_true rfl) ⟨Nat.le_of_ble_eq_true rfl, Nat.le_of_ble_eq_true rfl⟩ dX0_makeFlat_14 hK hP hD hS hA (perm_idx [0] rfl rfl) (fun _ => (perm_idx [0] rfl rfl)) (fun u H locs _ hP hD hS => ?_)
  exact fin () H locs ls 17 dX0_makeFlat_17 hP hD hS (trivial)

abbrev rmX0_copySpan : Room := { frames := 1, cells := 0, slots := 0, locals := 40 }
set_option maxHeartbeats 4000000 in
set_option maxRecDepth 100000 in
theorem kX0_copySpan (l : Launch) (D : va_G) (G : Nat → ClassId) (q : Nat → Nat) (st : Int) (th : Nat → Int) (R : Nat → Nat → Int) (sp : Nat → Int) (a : Int) (i : Int) (b : Int) (j : Int) (n : Int) (ha : 0 ≤ a ∧ a < 12) (hb_ : 0 ≤ b ∧ b < 12) (hi : 0 ≤ i ∧ 0 ≤ j ∧ 0 ≤ n ∧ i + n ≤ 16 ∧ j + n ≤ 16) : CtV l yX0_copySpan wsX0_copySpan rmX0_copySpan D G [.ref (q 0), .int (iI a), .int (iI i), .int (iI b), .int (iI j), .int (iI n)] [BCams G q st th R sp] (fun _ : Unit => True) (fun _ => [BCams G q st th (va_up R b.toNat (va_cpy (R a.toNat) (R b.toNat) i.toNat j.toNat n.toNat)) sp]) := by
  refine CtV.of (cc := cX0_copySpan) (maxL := 6) (by decide) rfl (Nat.le_of_ble_eq_true rfl) ?_
  intro p0 e0 s0 m0 args bel met cd A0 ls Q0 hx hb hml hown hts hK hP hD hA hl fin
  have hl : lv_has ls 6 [(0, .ref (q 0)), (1, .int (iI a)), (2, .int (iI i)), (3, .int (iI b)), (4, .int (iI j)), (5, .int (iI n))] := hl
  have hS : va_S A0 s0.heap s0.heap [] := va_S.rf
  have hH : va_P D vwCl (fl [BCams G q st th R sp]) s0.heap := hP
  obtain ⟨H, eH⟩ : ∃ H, H = s0.heap := ⟨_, rfl⟩
  obtain ⟨locs, eL⟩ : ∃ locs : List Loc, locs = [] := ⟨_, rfl⟩
  have hS : va_S A0 s0.heap H locs := by rw [eH, eL]; exact hS
  have hP : va_P D vwCl (fl [BCams G q st th R sp]) H := by rw [eH]; exact hP
  suffices goal : W p0 l e0 rmX0_copySpan s0 m0 args bel met cd H locs 0 0 Q0 (F0 m0 0 ls []) by rw [eH, eL] at goal; exact goal
  clear eH eL hH
  refine lv_aload_n hx hb dX0_copySpan_0 rfl (lv_at hl 0 rfl) ?_
  refine g_get (C := RX0) (T := TX0) (N := 4) hx hb hts (fun _ h => List.mem_cons_of_mem _ (List.mem_append_right _ h)) hown hK hP (i := 0) rfl BCams_c0 rfl 0 (by decide) (by decide +kernel) rfl dX0_copySpan_1 ?_
  refine lv_iload_n hx hb dX0_copySpan_4 rfl (lv_at hl 1 rfl) ?_
  refine g_aald (r := fun i => q (4 + i)) hx hb hK hP (i := 0) rfl BCams_c1 (by omega) (by decide) dX0_copySpan_5 ?_
  refine lv_iload_n hx hb dX0_copySpan_6 rfl (lv_at hl 2 rfl) ?_
  refine lv_aload_n hx hb dX0_copySpan_7 rfl (lv_at hl 0 rfl) ?_
  refine g_get (C := RX0) (T := TX0) (N := 4) hx hb hts (fun _ h => List.mem_cons_of_mem _ (List.mem_append_right _ h)) hown hK hP (i := 0) rfl BCams_c0 rfl 0 (by decide) (by decide +kernel) rfl dX0_copySpan_8 ?_
  refine lv_iload_n hx hb dX0_copySpan_11 rfl (lv_at hl 3 rfl) ?_
  refine g_aald (r := fun i => q (4 + i)) hx hb hK hP (i := 0) rfl BCams_c1 (by omega) (by decide) dX0_copySpan_12 ?_
  refine lv_iload hx hb dX0_copySpan_13 (lv_at hl 4 rfl) ?_
  refine lv_iload hx hb dX0_copySpan_15 (lv_at hl 5 rfl) ?_
  refine g_copy hx hb (by rw [hml]; exact hl.1.symm) hts hown (by decide +kernel) (by decide +kernel) (by decide +kernel) (by decide +kernel) hK hP hD hS (i0 := 0) rfl (BCams_row (by omega)) (i := 0) rfl (BCams_row (by omega)) (by omega) (by omega) (by omega) (by omega) (by omega) (B1 := BCams G q st th (va_up R b.toNat (va_cpy (R a.toNat) (R b.toNat) i.toNat j.toNat n.toNat)) sp) (BCams_srow _ (by omega)) (Bs1 := [BCams G q st th (va_up R b.toNat (va_cpy (R a.toNat) (R b.toNat) i.toNat j.toNat n.toNat)) sp]) rfl ⟨Nat.le_of_ble_eq_true rfl, Nat.le_of_ble_eq_true rfl⟩ dX0_copySpan_17 (fun H locs hP hD hS => ?_)
  exact fin () H locs ls 20 dX0_copySpan_20 hP hD hS (trivial)

abbrev rmX0_rotate : Room := { frames := 1, cells := 0, slots := 0, locals := 40 }
set_option maxHeartbeats 4000000 in
set_option maxRecDepth 100000 in
theorem kX0_rotate (l : Launch) (D : va_G) (G : Nat → ClassId) (q : Nat → Nat) (st : Int) (th : Nat → Int) (R : Nat → Nat → Int) (sp : Nat → Int) (c : Int) (n : Int) (hst : 2 ≤ st ∧ st ≤ 16) (hc : 0 ≤ c ∧ c < 12) (hn : 0 ≤ n ∧ n < st) : CtV l yX0_rotate wsX0_rotate rmX0_rotate D G [.ref (q 0), .int (iI c), .int (iI n)] [BCams G q st th R sp] (fun _ : Unit => True) (fun _ => [BCams G q st th (va_up R c.toNat (rot st n (R c.toNat))) (va_cpy (R c.toNat) sp (0 : Int).toNat (0 : Int).toNat st.toNat)]) := by
  refine CtV.of (cc := cX0_rotate) (maxL := 5) (by decide) rfl (Nat.le_of_ble_eq_true rfl) ?_
  intro p0 e0 s0 m0 args bel met cd A0 ls Q0 hx hb hml hown hts hK hP hD hA hl fin
  have hl : lv_has ls 5 [(0, .ref (q 0)), (1, .int (iI c)), (2, .int (iI n))] := hl
  have hS : va_S A0 s0.heap s0.heap [] := va_S.rf
  have hH : va_P D vwCl (fl [BCams G q st th R sp]) s0.heap := hP
  obtain ⟨H, eH⟩ : ∃ H, H = s0.heap := ⟨_, rfl⟩
  obtain ⟨locs, eL⟩ : ∃ locs : List Loc, locs = [] := ⟨_, rfl⟩
  have hS : va_S A0 s0.heap H locs := by rw [eH, eL]; exact hS
  have hP : va_P D vwCl (fl [BCams G q st th R sp]) H := by rw [eH]; exact hP
  suffices goal : W p0 l e0 rmX0_rotate s0 m0 args bel met cd H locs 0 0 Q0 (F0 m0 0 ls []) by rw [eH, eL] at goal; exact goal
  clear eH eL hH
  refine lv_aload_n hx hb dX0_rotate_0 rfl (lv_at hl 0 rfl) ?_
  refine g_get (C := RX0) (T := TX0) (N := 4) hx hb hts (fun _ h => List.mem_cons_of_mem _ (List.mem_append_right _ h)) hown hK hP (i := 0) rfl BCams_c0 rfl 0 (by decide) (by decide +kernel) rfl dX0_rotate_1 ?_
  refine lv_iload_n hx hb dX0_rotate_4 rfl (lv_at hl 1 rfl) ?_
  refine g_aald (r := fun i => q (4 + i)) hx hb hK hP (i := 0) rfl BCams_c1 (by omega) (by decide) dX0_rotate_5 ?_
  refine lv_astore_n (lv' := [(3, .ref (q (4 + c.toNat))), (0, .ref (q 0)), (1, .int (iI c)), (2, .int (iI n))]) hx hb dX0_rotate_6 rfl hl (by decide) rfl (fun ls hl => ?_)
  refine lv_aload_n hx hb dX0_rotate_7 rfl (lv_at hl 0 rfl) ?_
  refine wi_iconst hx hb dX0_rotate_8 ?_
  refine lv_aload_n hx hb dX0_rotate_9 rfl (lv_at hl 1 rfl) ?_
  refine g_get (C := RX0) (T := TX0) (N := 4) hx hb hts (fun _ h => List.mem_cons_of_mem _ (List.mem_append_right _ h)) hown hK hP (i := 0) rfl BCams_c0 rfl 2 (by decide) (by decide +kernel) rfl dX0_rotate_10 ?_
  refine wi_iconst hx hb dX0_rotate_13 ?_
  refine lv_aload_n hx hb dX0_rotate_14 rfl (lv_at hl 1 rfl) ?_
  refine g_get (C := RX0) (T := TX0) (N := 4) hx hb hts (fun _ h => List.mem_cons_of_mem _ (List.mem_append_right _ h)) hown hK hP (i := 0) rfl BCams_c0 rfl 3 (by decide) (by decide +kernel) rfl dX0_rotate_15 ?_
  refine g_copy hx hb (by rw [hml]; exact hl.1.symm) hts hown (by decide +kernel) (by decide +kernel) (by decide +kernel) (by decide +kernel) hK hP hD hS (i0 := 0) rfl (BCams_row (by omega)) (i := 0) rfl BCams_c3 (by omega) (by omega) (by omega) (by omega) (by omega) (B1 := BCams G q st th R (va_cpy (R c.toNat) sp (0 : Int).toNat (0 : Int).toNat st.toNat)) rfl (Bs1 := [BCams G q st th R (va_cpy (R c.toNat) sp (0 : Int).toNat (0 : Int).toNat st.toNat)]) rfl ⟨Nat.le_of_ble_eq_true rfl, Nat.le_of_ble_eq_true rfl⟩ dX0_rotate_18 (fun H locs hP hD hS => ?_)
  refine wi_iconst hx hb dX0_rotate_21 ?_
  refine lv_istore (lv' := [(4, .int (iI 0)), (3, .ref (q (4 + c.toNat))), (0, .ref (q 0)), (1, .int (iI c)), (2, .int (iI n))]) hx hb dX0_rotate_22 hl (by decide) rfl (fun ls hl => ?_)
  have L24 : ∀ (fu : Nat) (t : Int) (R' : Nat → Nat → Int) (H : Heap) (locs : List Loc) (ls : Array Slot), (st - t < (fu : Int)) → (0 ≤ t ∧ t ≤ st) → (R' = va_up R c.toNat (rotP st n (R c.toNat) t)) → va_P D vwCl (fl [BCams G q st th R' (va_cpy (R c.toNat) sp (0 : Int).toNat (0 : Int).toNat st.toNat)]) H → va_D A0 (fl [BCams G q st th R' (va_cpy (R c.toNat) sp (0 : Int).toNat (0 : Int).toNat st.toNat)]) → va_S A0 s0.heap H locs → lv_has ls 5 [(0, .ref (q 0)), (1, .int (iI c)), (2, .int (iI n)), (3, .ref (q (4 + c.toNat))), (4, .int (iI t))] → W p0 l e0 rmX0_rotate s0 m0 args bel met cd H locs 0 0 Q0 (F0 m0 24 ls []) := by
    intro fu
    induction fu with
    | zero =>
      intro t R' H locs ls hfu ht hR
      exact absurd hfu (by omega)
    | succ fu ih =>
      intro t R' H locs ls hfu ht hR hP hD hS hl
      have ih24 := ih
      clear ih
      refine lv_iload hx hb dX0_rotate_24 (lv_at hl 4 rfl) ?_
      refine lv_aload_n hx hb dX0_rotate_26 rfl (lv_at hl 0 rfl) ?_
      refine g_get (C := RX0) (T := TX0) (N := 4) hx hb hts (fun _ h => List.mem_cons_of_mem _ (List.mem_append_right _ h)) hown hK hP (i := 0) rfl BCams_c0 rfl 3 (by decide) (by decide +kernel) rfl dX0_rotate_27 ?_
      refine wi_icmp_ge (tgt := 55) hx hb (by omega) (by omega) dX0_rotate_30 (by decide) (fun c30 => ?_) (fun c30 => ?_)
      ·
        rw [show (R' : Nat → Nat → Int) = (va_up R c.toNat (rot st n (R c.toNat))) from by rw [hR, show t = st by omega]; rfl] at hP hD
        exact fin () H locs ls 55 dX0_rotate_55 hP hD hS (trivial)
      ·
        refine lv_aload_n hx hb dX0_rotate_33 rfl (lv_at hl 3 rfl) ?_
        refine lv_aload_n hx hb dX0_rotate_34 rfl (lv_at hl 0 rfl) ?_
        refine lv_iload hx hb dX0_rotate_35 (lv_at hl 4 rfl) ?_
        refine lv_iload_n hx hb dX0_rotate_37 rfl (lv_at hl 2 rfl) ?_
        refine cV_i (wc := [BCams G q st th R' (va_cpy (R c.toNat) sp (0 : Int).toNat (0 : Int).toNat st.toNat)]) (wr := []) (w1 := fun _ => [BCams G q st th R' (va_cpy (R c.toNat) sp (0 : Int).toNat (0 : Int).toNat st.toNat)]) (Bs1 := fun _ => [BCams G q st th R' (va_cpy (R c.toNat) sp (0 : Int).toNat (0 : Int).toNat st.toNat)]) (As := [.int (iI t), .int (iI n)]) (rest := [.ref (q (4 + c.toNat))]) (kX0_further l D G q st th R' (va_cpy (R c.toNat) sp (0 : Int).toNat (0 : Int).toNat st.toNat) t n (by first | assumption | omega) (by first | assumption | omega) (by first | assumption | omega)) rfl ⟨hx, hb, hml, hown, hts⟩ (cwV 2 hts gX0_rotate_X0_further rfl rfl rfl (by decide +kernel) ⟨by decide, by decide⟩) (q0 := 0) (ci := 0) rfl rfl rfl rfl hl.1 (Nat.le_of_ble_eq_true rfl) ⟨Nat.le_of_ble_eq_true rfl, Nat.le_of_ble_eq_true rfl⟩ dX0_rotate_38 hK hP hD hS hA (perm_idx [0] rfl rfl) (fun _ => perm_idx [0] rfl rfl) (fun r u H locs hw1 hP hD hS => ?_)
        subst hw1
        have hfr := fw_rng (st := st) (x := t + n) (by omega)
        have hcp : va_cpy (R c.toNat) sp (0 : Int).toNat (0 : Int).toNat st.toNat t.toNat = R c.toNat t.toNat := by rw [pk_cpy_in (by omega) (by omega)]; congr 1; omega
        refine lv_aload_n hx hb dX0_rotate_41 rfl (lv_at hl 0 rfl) ?_
        refine g_get (C := RX0) (T := TX0) (N := 4) hx hb hts (fun _ h => List.mem_cons_of_mem _ (List.mem_append_right _ h)) hown hK hP (i := 0) rfl BCams_c0 rfl 2 (by decide) (by decide +kernel) rfl dX0_rotate_42 ?_
        refine lv_iload hx hb dX0_rotate_45 (lv_at hl 4 rfl) ?_
        refine g_iald hx hb hK hP (i := 0) rfl BCams_c3 (by omega) (by decide) dX0_rotate_47 ?_
        refine g_iast hx hb hK hP hD hS (i := 0) rfl (BCams_row (by omega)) (by omega) (by decide) (B1 := BCams G q st th (va_up R' c.toNat (va_up (R' c.toNat) ((fw st (t + n)).toNat) ((va_cpy (R c.toNat) sp (0 : Int).toNat (0 : Int).toNat st.toNat) t.toNat))) (va_cpy (R c.toNat) sp (0 : Int).toNat (0 : Int).toNat st.toNat)) (BCams_srow _ (by omega)) (Bs1 := [BCams G q st th (va_up R' c.toNat (va_up (R' c.toNat) ((fw st (t + n)).toNat) ((va_cpy (R c.toNat) sp (0 : Int).toNat (0 : Int).toNat st.toNat) t.toNat))) (va_cpy (R c.toNat) sp (0 : Int).toNat (0 : Int).toNat st.toNat)]) rfl dX0_rotate_48 (fun H locs hP hD hS => ?_)
        refine lv_iinc (v := iI (t + 1)) (lv' := [(4, .int (iI (t + 1))), (0, .ref (q 0)), (1, .int (iI c)), (2, .int (iI n)), (3, .ref (q (4 + c.toNat)))]) hx hb dX0_rotate_49 hl (k := 4) rfl (iI_add _ _) (by decide) rfl (fun ls hl => ?_)
        refine lv_goto (tgt := 24) hx hb dX0_rotate_52 (by decide) ?_
        exact ih24 (t + 1) (va_up R' c.toNat (va_up (R' c.toNat) ((fw st (t + n)).toNat) ((va_cpy (R c.toNat) sp (0 : Int).toNat (0 : Int).toNat st.toNat) t.toNat))) _ _ _ (by omega) (by omega) (by rw [hR, up_up, va_up_self, hcp, rotP_s _ _ _ _ hn (by omega)]) hP hD hS (lv_sub hl [1, 2, 3, 4, 0] rfl)
  exact L24 (((st - 0) + 1 : Int)).toNat 0 R _ _ _ (by omega) (by omega) (by rw [rotP_0 _ _ _ hn, up_id]) hP hD hS (lv_sub hl [2, 3, 4, 1, 0] rfl)

abbrev rmX0_isTurnedBy : Room := { frames := 1, cells := 0, slots := 0, locals := 23 }
set_option maxHeartbeats 4000000 in
set_option maxRecDepth 100000 in
theorem kX0_isTurnedBy (l : Launch) (D : va_G) (G : Nat → ClassId) (q : Nat → Nat) (st : Int) (th : Nat → Int) (R : Nat → Nat → Int) (sp : Nat → Int) (a : Nat) (b : Nat) (n : Int) (hst : 2 ≤ st ∧ st ≤ 16) (hR : ∀ i j, 0 ≤ R i j ∧ R i j ≤ 9) (ha : a < 12) (hb_ : b < 12) (hn : 0 ≤ n ∧ n < st) : CtI l yX0_isTurnedBy wsX0_isTurnedBy rmX0_isTurnedBy D G [.ref (q 0), .ref (q (4 + a)), .ref (q (4 + b)), .int (iI n)] [BCams G q st th R sp] (fun (r : Int32) (_ : Unit) => r = iI (if tn st (R a) (R b) n then 1 else 0)) (fun _ => [BCams G q st th R sp]) := by
  refine CtI.ofZ (cc := cX0_isTurnedBy) (maxL := 5) (by decide) rfl (Nat.le_of_ble_eq_true rfl) ?_
  intro p0 e0 s0 m0 args bel met cd A0 ls Q0 hx hb hml hown hts hK hP hD hA hl fin
  have hl : lv_has ls 5 [(0, .ref (q 0)), (1, .ref (q (4 + a))), (2, .ref (q (4 + b))), (3, .int (iI n))] := hl
  have hS : va_S A0 s0.heap s0.heap [] := va_S.rf
  have hH : va_P D vwCl (fl [BCams G q st th R sp]) s0.heap := hP
  obtain ⟨H, eH⟩ : ∃ H, H = s0.heap := ⟨_, rfl⟩
  obtain ⟨locs, eL⟩ : ∃ locs : List Loc, locs = [] := ⟨_, rfl⟩
  have hS : va_S A0 s0.heap H locs := by rw [eH, eL]; exact hS
  have hP : va_P D vwCl (fl [BCams G q st th R sp]) H := by rw [eH]; exact hP
  suffices goal : W p0 l e0 rmX0_isTurnedBy s0 m0 args bel met cd H locs 0 0 Q0 (F0 m0 0 ls []) by rw [eH, eL] at goal; exact goal
  clear eH eL hH
  refine wi_iconst hx hb dX0_isTurnedBy_0 ?_
  refine lv_istore (lv' := [(4, .int (iI 0)), (0, .ref (q 0)), (1, .ref (q (4 + a))), (2, .ref (q (4 + b))), (3, .int (iI n))]) hx hb dX0_isTurnedBy_1 hl (by decide) rfl (fun ls hl => ?_)
  have L3 : ∀ (fu : Nat) (i : Int) (H : Heap) (locs : List Loc) (ls : Array Slot), (st - i < (fu : Int)) → (0 ≤ i ∧ i ≤ st) → (∀ t : Nat, t < i.toNat → R b (fw st ((t : Int) + n)).toNat = R a t) → va_P D vwCl (fl [BCams G q st th R sp]) H → va_D A0 (fl [BCams G q st th R sp]) → va_S A0 s0.heap H locs → lv_has ls 5 [(0, .ref (q 0)), (1, .ref (q (4 + a))), (2, .ref (q (4 + b))), (3, .int (iI n)), (4, .int (iI i))] → W p0 l e0 rmX0_isTurnedBy s0 m0 args bel met cd H locs 0 0 Q0 (F0 m0 3 ls []) := by
    intro fu
    induction fu with
    | zero =>
      intro i H locs ls hfu hi ht
      exact absurd hfu (by omega)
    | succ fu ih =>
      intro i H locs ls hfu hi ht hP hD hS hl
      have ih3 := ih
      clear ih
      refine lv_iload hx hb dX0_isTurnedBy_3 (lv_at hl 4 rfl) ?_
      refine lv_aload_n hx hb dX0_isTurnedBy_5 rfl (lv_at hl 0 rfl) ?_
      refine g_get (C := RX0) (T := TX0) (N := 4) hx hb hts (fun _ h => List.mem_cons_of_mem _ (List.mem_append_right _ h)) hown hK hP (i := 0) rfl BCams_c0 rfl 3 (by decide) (by decide +kernel) rfl dX0_isTurnedBy_6 ?_
      refine wi_icmp_ge (tgt := 36) hx hb (by omega) (by omega) dX0_isTurnedBy_9 (by decide) (fun c9 => ?_) (fun c9 => ?_)
      ·
        refine wi_iconst hx hb dX0_isTurnedBy_36 ?_
        exact fin _ () H locs ls 37 dX0_isTurnedBy_37 hP hD hS (by decide) (congrArg iI (by rw [if_pos (fun t h => ht t (by omega))]))
      ·
        refine lv_aload_n hx hb dX0_isTurnedBy_12 rfl (lv_at hl 2 rfl) ?_
        refine lv_aload_n hx hb dX0_isTurnedBy_13 rfl (lv_at hl 0 rfl) ?_
        refine lv_iload hx hb dX0_isTurnedBy_14 (lv_at hl 4 rfl) ?_
        refine lv_iload_n hx hb dX0_isTurnedBy_16 rfl (lv_at hl 3 rfl) ?_
        refine cV_i (wc := [BCams G q st th R sp]) (wr := []) (w1 := fun _ => [BCams G q st th R sp]) (Bs1 := fun _ => [BCams G q st th R sp]) (As := [.int (iI i), .int (iI n)]) (rest := [.ref (q (4 + b))]) (kX0_further l D G q st th R sp i n (by first | assumption | omega) (by first | assumption | omega) (by first | assumption | omega)) rfl ⟨hx, hb, hml, hown, hts⟩ (cwV 2 hts gX0_isTurnedBy_X0_further rfl rfl rfl (by decide +kernel) ⟨by decide, by decide⟩) (q0 := 0) (ci := 0) rfl rfl rfl rfl hl.1 (Nat.le_of_ble_eq_true rfl) ⟨Nat.le_of_ble_eq_true rfl, Nat.le_of_ble_eq_true rfl⟩ dX0_isTurnedBy_17 hK hP hD hS hA (perm_idx [0] rfl rfl) (fun _ => perm_idx [0] rfl rfl) (fun r u H locs hw1 hP hD hS => ?_)
        subst hw1
        have hfr := fw_rng (st := st) (x := i + n) (by omega)
        refine g_iald hx hb hK hP (i := 0) rfl (BCams_row (by omega)) (by omega) (by decide) dX0_isTurnedBy_20 ?_
        have f2 := hR b ((fw st (i + n)).toNat)
        refine lv_aload_n hx hb dX0_isTurnedBy_21 rfl (lv_at hl 1 rfl) ?_
        refine lv_iload hx hb dX0_isTurnedBy_22 (lv_at hl 4 rfl) ?_
        refine g_iald hx hb hK hP (i := 0) rfl (BCams_row (by omega)) (by omega) (by decide) dX0_isTurnedBy_24 ?_
        have f3 := hR a i.toNat
        refine wi_icmp_eq (tgt := 30) hx hb (by omega) (by omega) dX0_isTurnedBy_25 (by decide) (fun c25 => ?_) (fun c25 => ?_)
        ·
          refine lv_iinc (v := iI (i + 1)) (lv' := [(4, .int (iI (i + 1))), (0, .ref (q 0)), (1, .ref (q (4 + a))), (2, .ref (q (4 + b))), (3, .int (iI n))]) hx hb dX0_isTurnedBy_30 hl (k := 4) rfl (iI_add _ _) (by decide) rfl (fun ls hl => ?_)
          refine lv_goto (tgt := 3) hx hb dX0_isTurnedBy_33 (by decide) ?_
          exact ih3 (i + 1) _ _ _ (by omega) (by omega) (fun t h => by
              by_cases e : t = i.toNat
              · rw [e, show ((i.toNat : Nat) : Int) = i by omega]; exact c25
              · exact ht t (by omega)) hP hD hS (lv_sub hl [1, 2, 3, 4, 0] rfl)
        ·
          refine wi_iconst hx hb dX0_isTurnedBy_28 ?_
          exact fin _ () H locs ls 29 dX0_isTurnedBy_29 hP hD hS (by decide) (congrArg iI (by rw [if_neg (fun q => c25 (by have h9 := q i.toNat (by omega); rw [show ((i.toNat : Nat) : Int) = i by omega] at h9; exact h9))]))
  exact L3 (((st - 0) + 1 : Int)).toNat 0 _ _ _ (by omega) (by omega) (fun t h => absurd h (by omega)) hP hD hS (lv_sub hl [1, 2, 3, 4, 0] rfl)

abbrev rmX0_stepsBetween : Room := { frames := 2, cells := 0, slots := 0, locals := 47 }
set_option maxHeartbeats 4000000 in
set_option maxRecDepth 100000 in
theorem kX0_stepsBetween (l : Launch) (D : va_G) (G : Nat → ClassId) (q : Nat → Nat) (st : Int) (th : Nat → Int) (R : Nat → Nat → Int) (sp : Nat → Int) (a : Int) (b : Int) (hst : 2 ≤ st ∧ st ≤ 16) (hR : ∀ i j, 0 ≤ R i j ∧ R i j ≤ 9) (ha : 0 ≤ a ∧ a < 12) (hb_ : 0 ≤ b ∧ b < 12) : CtI l yX0_stepsBetween wsX0_stepsBetween rmX0_stepsBetween D G [.ref (q 0), .int (iI a), .int (iI b)] [BCams G q st th R sp] (fun (r : Int32) (_ : Unit) => r = iI (sb st (R a.toNat) (R b.toNat))) (fun _ => [BCams G q st th R sp]) := by
  refine CtI.ofI (cc := cX0_stepsBetween) (maxL := 4) (by decide) rfl (Nat.le_of_ble_eq_true rfl) ?_
  intro p0 e0 s0 m0 args bel met cd A0 ls Q0 hx hb hml hown hts hK hP hD hA hl fin
  have hl : lv_has ls 4 [(0, .ref (q 0)), (1, .int (iI a)), (2, .int (iI b))] := hl
  have hS : va_S A0 s0.heap s0.heap [] := va_S.rf
  have hH : va_P D vwCl (fl [BCams G q st th R sp]) s0.heap := hP
  obtain ⟨H, eH⟩ : ∃ H, H = s0.heap := ⟨_, rfl⟩
  obtain ⟨locs, eL⟩ : ∃ locs : List Loc, locs = [] := ⟨_, rfl⟩
  have hS : va_S A0 s0.heap H locs := by rw [eH, eL]; exact hS
  have hP : va_P D vwCl (fl [BCams G q st th R sp]) H := by rw [eH]; exact hP
  suffices goal : W p0 l e0 rmX0_stepsBetween s0 m0 args bel met cd H locs 0 0 Q0 (F0 m0 0 ls []) by rw [eH, eL] at goal; exact goal
  clear eH eL hH
  refine wi_iconst hx hb dX0_stepsBetween_0 ?_
  refine lv_istore_n (lv' := [(3, .int (iI 0)), (0, .ref (q 0)), (1, .int (iI a)), (2, .int (iI b))]) hx hb dX0_stepsBetween_1 rfl hl (by decide) rfl (fun ls hl => ?_)
  have L2 : ∀ (fu : Nat) (i : Int) (H : Heap) (locs : List Loc) (ls : Array Slot), (st - i < (fu : Int)) → (0 ≤ i ∧ i ≤ st) → (∀ j : Nat, j < i.toNat → decide (tn st (R a.toNat) (R b.toNat) (j : Int)) = false) → va_P D vwCl (fl [BCams G q st th R sp]) H → va_D A0 (fl [BCams G q st th R sp]) → va_S A0 s0.heap H locs → lv_has ls 4 [(0, .ref (q 0)), (1, .int (iI a)), (2, .int (iI b)), (3, .int (iI i))] → W p0 l e0 rmX0_stepsBetween s0 m0 args bel met cd H locs 0 0 Q0 (F0 m0 2 ls []) := by
    intro fu
    induction fu with
    | zero =>
      intro i H locs ls hfu hi ht
      exact absurd hfu (by omega)
    | succ fu ih =>
      intro i H locs ls hfu hi ht hP hD hS hl
      have ih2 := ih
      clear ih
      refine lv_iload_n hx hb dX0_stepsBetween_2 rfl (lv_at hl 3 rfl) ?_
      refine lv_aload_n hx hb dX0_stepsBetween_3 rfl (lv_at hl 0 rfl) ?_
      refine g_get (C := RX0) (T := TX0) (N := 4) hx hb hts (fun _ h => List.mem_cons_of_mem _ (List.mem_append_right _ h)) hown hK hP (i := 0) rfl BCams_c0 rfl 3 (by decide) (by decide +kernel) rfl dX0_stepsBetween_4 ?_
      refine wi_icmp_ge (tgt := 38) hx hb (by omega) (by omega) dX0_stepsBetween_7 (by decide) (fun c7 => ?_) (fun c7 => ?_)
      ·
        refine wi_bipush hx hb dX0_stepsBetween_38 (by decide) ?_
        exact fin _ () H locs ls 40 dX0_stepsBetween_40 hP hD hS (trivial) (congrArg iI (by unfold sb; rw [fnd_miss (fun j h => ht j (by omega))]))
      ·
        refine lv_aload_n hx hb dX0_stepsBetween_10 rfl (lv_at hl 0 rfl) ?_
        refine lv_aload_n hx hb dX0_stepsBetween_11 rfl (lv_at hl 0 rfl) ?_
        refine g_get (C := RX0) (T := TX0) (N := 4) hx hb hts (fun _ h => List.mem_cons_of_mem _ (List.mem_append_right _ h)) hown hK hP (i := 0) rfl BCams_c0 rfl 0 (by decide) (by decide +kernel) rfl dX0_stepsBetween_12 ?_
        refine lv_iload_n hx hb dX0_stepsBetween_15 rfl (lv_at hl 1 rfl) ?_
        refine g_aald (r := fun i => q (4 + i)) hx hb hK hP (i := 0) rfl BCams_c1 (by omega) (by decide) dX0_stepsBetween_16 ?_
        refine lv_aload_n hx hb dX0_stepsBetween_17 rfl (lv_at hl 0 rfl) ?_
        refine g_get (C := RX0) (T := TX0) (N := 4) hx hb hts (fun _ h => List.mem_cons_of_mem _ (List.mem_append_right _ h)) hown hK hP (i := 0) rfl BCams_c0 rfl 0 (by decide) (by decide +kernel) rfl dX0_stepsBetween_18 ?_
        refine lv_iload_n hx hb dX0_stepsBetween_21 rfl (lv_at hl 2 rfl) ?_
        refine g_aald (r := fun i => q (4 + i)) hx hb hK hP (i := 0) rfl BCams_c1 (by omega) (by decide) dX0_stepsBetween_22 ?_
        refine lv_iload_n hx hb dX0_stepsBetween_23 rfl (lv_at hl 3 rfl) ?_
        refine cV_i (wc := [BCams G q st th R sp]) (wr := []) (w1 := fun _ => [BCams G q st th R sp]) (Bs1 := fun _ => [BCams G q st th R sp]) (As := [.ref (q (4 + a.toNat)), .ref (q (4 + b.toNat)), .int (iI i)]) (rest := []) (kX0_isTurnedBy l D G q st th R sp a.toNat b.toNat i (by first | assumption | omega) (by first | assumption | omega) (by first | assumption | omega) (by first | assumption | omega) (by first | assumption | omega)) rfl ⟨hx, hb, hml, hown, hts⟩ (cwV 3 hts gX0_stepsBetween_X0_isTurnedBy rfl rfl rfl (by decide +kernel) ⟨by decide, by decide⟩) (q0 := 0) (ci := 0) rfl rfl rfl rfl hl.1 (Nat.le_of_ble_eq_true rfl) ⟨Nat.le_of_ble_eq_true rfl, Nat.le_of_ble_eq_true rfl⟩ dX0_stepsBetween_24 hK hP hD hS hA (perm_idx [0] rfl rfl) (fun _ => perm_idx [0] rfl rfl) (fun r u H locs hw1 hP hD hS => ?_)
        subst hw1
        have hr9 : (if tn st (R a.toNat) (R b.toNat) i then (1 : Int) else 0) = 0 ∨ (if tn st (R a.toNat) (R b.toNat) i then (1 : Int) else 0) = 1 := by split <;> omega
        refine wi_if_eq (tgt := 32) hx hb (by omega) dX0_stepsBetween_27 (by decide) (fun c27 => ?_) (fun c27 => ?_)
        ·
          have h27 : ¬ tn st (R a.toNat) (R b.toNat) i := fun q => by rw [if_pos q] at c27; exact absurd c27 (by decide)
          refine lv_iinc (v := iI (i + 1)) (lv' := [(3, .int (iI (i + 1))), (0, .ref (q 0)), (1, .int (iI a)), (2, .int (iI b))]) hx hb dX0_stepsBetween_32 hl (k := 3) rfl (iI_add _ _) (by decide) rfl (fun ls hl => ?_)
          refine lv_goto (tgt := 2) hx hb dX0_stepsBetween_35 (by decide) ?_
          exact ih2 (i + 1) _ _ _ (by omega) (by omega) (fun t h => by
              by_cases e : t = i.toNat
              · rw [e, show ((i.toNat : Nat) : Int) = i by omega]; exact decide_eq_false h27
              · exact ht t (by omega)) hP hD hS (lv_sub hl [1, 2, 3, 0] rfl)
        ·
          have h27 : tn st (R a.toNat) (R b.toNat) i := by
            by_cases q : tn st (R a.toNat) (R b.toNat) i
            · exact q
            · rw [if_neg q] at c27; exact absurd rfl c27
          refine lv_iload_n hx hb dX0_stepsBetween_30 rfl (lv_at hl 3 rfl) ?_
          exact fin _ () H locs ls 31 dX0_stepsBetween_31 hP hD hS (trivial) (congrArg iI (by unfold sb; rw [fnd_hit ht (by rw [show ((i.toNat : Nat) : Int) = i by omega]; exact decide_eq_true h27) (by omega)]; omega))
  exact L2 (((st - 0) + 1 : Int)).toNat 0 _ _ _ (by omega) (by omega) (fun t h => absurd h (by omega)) hP hD hS (lv_sub hl [1, 2, 3, 0] rfl)

abbrev rmX0_leastAlike : Room := { frames := 3, cells := 0, slots := 0, locals := 70 }
set_option maxHeartbeats 4000000 in
set_option maxRecDepth 100000 in
theorem kX0_leastAlike (l : Launch) (D : va_G) (G : Nat → ClassId) (q : Nat → Nat) (st : Int) (th : Nat → Int) (R : Nat → Nat → Int) (sp : Nat → Int) (c : Int) (hst : 2 ≤ st ∧ st ≤ 16) (hth : ∀ k, th k = 0 ∨ th k = 1) (hR : ∀ i j, 0 ≤ R i j ∧ R i j ≤ 9) (hc : 0 ≤ c ∧ c < 12) : CtI l yX0_leastAlike wsX0_leastAlike rmX0_leastAlike D G [.ref (q 0), .int (iI c)] [BCams G q st th R sp] (fun (r : Int32) (_ : Unit) => r = iI (la st th R c.toNat)) (fun _ => [BCams G q st th R sp]) := by
  refine CtI.ofI (cc := cX0_leastAlike) (maxL := 3) (by decide) rfl (Nat.le_of_ble_eq_true rfl) ?_
  intro p0 e0 s0 m0 args bel met cd A0 ls Q0 hx hb hml hown hts hK hP hD hA hl fin
  have hl : lv_has ls 3 [(0, .ref (q 0)), (1, .int (iI c))] := hl
  have hS : va_S A0 s0.heap s0.heap [] := va_S.rf
  have hH : va_P D vwCl (fl [BCams G q st th R sp]) s0.heap := hP
  obtain ⟨H, eH⟩ : ∃ H, H = s0.heap := ⟨_, rfl⟩
  obtain ⟨locs, eL⟩ : ∃ locs : List Loc, locs = [] := ⟨_, rfl⟩
  have hS : va_S A0 s0.heap H locs := by rw [eH, eL]; exact hS
  have hP : va_P D vwCl (fl [BCams G q st th R sp]) H := by rw [eH]; exact hP
  suffices goal : W p0 l e0 rmX0_leastAlike s0 m0 args bel met cd H locs 0 0 Q0 (F0 m0 0 ls []) by rw [eH, eL] at goal; exact goal
  clear eH eL hH
  refine wi_iconst hx hb dX0_leastAlike_0 ?_
  refine lv_istore_n (lv' := [(2, .int (iI 0)), (0, .ref (q 0)), (1, .int (iI c))]) hx hb dX0_leastAlike_1 rfl hl (by decide) rfl (fun ls hl => ?_)
  have L2 : ∀ (fu : Nat) (i : Int) (H : Heap) (locs : List Loc) (ls : Array Slot), (c - i < (fu : Int)) → (0 ≤ i ∧ i ≤ c) → (∀ j : Nat, j < i.toNat → lap st th R c.toNat j = false) → va_P D vwCl (fl [BCams G q st th R sp]) H → va_D A0 (fl [BCams G q st th R sp]) → va_S A0 s0.heap H locs → lv_has ls 3 [(0, .ref (q 0)), (1, .int (iI c)), (2, .int (iI i))] → W p0 l e0 rmX0_leastAlike s0 m0 args bel met cd H locs 0 0 Q0 (F0 m0 2 ls []) := by
    intro fu
    induction fu with
    | zero =>
      intro i H locs ls hfu hi ht
      exact absurd hfu (by omega)
    | succ fu ih =>
      intro i H locs ls hfu hi ht hP hD hS hl
      have ih2 := ih
      clear ih
      refine lv_iload_n hx hb dX0_leastAlike_2 rfl (lv_at hl 2 rfl) ?_
      refine lv_iload_n hx hb dX0_leastAlike_3 rfl (lv_at hl 1 rfl) ?_
      refine wi_icmp_ge (tgt := 33) hx hb (by omega) (by omega) dX0_leastAlike_4 (by decide) (fun c4 => ?_) (fun c4 => ?_)
      ·
        refine lv_iload_n hx hb dX0_leastAlike_33 rfl (lv_at hl 1 rfl) ?_
        exact fin _ () H locs ls 34 dX0_leastAlike_34 hP hD hS (trivial) (congrArg iI (by unfold la; rw [fnd_miss (fun j h => ht j (by omega))]; omega))
      ·
        refine lv_aload_n hx hb dX0_leastAlike_7 rfl (lv_at hl 0 rfl) ?_
        refine g_get (C := RX0) (T := TX0) (N := 4) hx hb hts (fun _ h => List.mem_cons_of_mem _ (List.mem_append_right _ h)) hown hK hP (i := 0) rfl BCams_c0 rfl 1 (by decide) (by decide +kernel) rfl dX0_leastAlike_8 ?_
        refine lv_iload_n hx hb dX0_leastAlike_11 rfl (lv_at hl 2 rfl) ?_
        refine g_zald hx hb hK hP (i := 0) rfl BCams_c2 (by omega) (by decide) dX0_leastAlike_12 ?_
        have f1 := hth i.toNat
        refine wi_if_eq (tgt := 27) hx hb (by omega) dX0_leastAlike_13 (by decide) (fun c13 => ?_) (fun c13 => ?_)
        ·
          have h27 : lap st th R c.toNat i.toNat = false := by
            unfold lap
            first | (rw [decide_eq_false (by omega : ¬ th i.toNat = 1)]; rfl) | (rw [decide_eq_false (by omega : ¬ 0 ≤ sb st (R i.toNat) (R c.toNat)), Bool.and_false])
          refine lv_iinc (v := iI (i + 1)) (lv' := [(2, .int (iI (i + 1))), (0, .ref (q 0)), (1, .int (iI c))]) hx hb dX0_leastAlike_27 hl (k := 2) rfl (iI_add _ _) (by decide) rfl (fun ls hl => ?_)
          refine lv_goto (tgt := 2) hx hb dX0_leastAlike_30 (by decide) ?_
          exact ih2 (i + 1) _ _ _ (by omega) (by omega) (fun t h => by
              by_cases e : t = i.toNat
              · rw [e]; exact h27
              · exact ht t (by omega)) hP hD hS (lv_sub hl [1, 2, 0] rfl)
        ·
          refine lv_aload_n hx hb dX0_leastAlike_16 rfl (lv_at hl 0 rfl) ?_
          refine lv_iload_n hx hb dX0_leastAlike_17 rfl (lv_at hl 2 rfl) ?_
          refine lv_iload_n hx hb dX0_leastAlike_18 rfl (lv_at hl 1 rfl) ?_
          refine cV_i (wc := [BCams G q st th R sp]) (wr := []) (w1 := fun _ => [BCams G q st th R sp]) (Bs1 := fun _ => [BCams G q st th R sp]) (As := [.int (iI i), .int (iI c)]) (rest := []) (kX0_stepsBetween l D G q st th R sp i c (by first | assumption | omega) (by first | assumption | omega) (by first | assumption | omega) (by first | assumption | omega)) rfl ⟨hx, hb, hml, hown, hts⟩ (cwV 2 hts gX0_leastAlike_X0_stepsBetween rfl rfl rfl (by decide +kernel) ⟨by decide, by decide⟩) (q0 := 0) (ci := 0) rfl rfl rfl rfl hl.1 (Nat.le_of_ble_eq_true rfl) ⟨Nat.le_of_ble_eq_true rfl, Nat.le_of_ble_eq_true rfl⟩ dX0_leastAlike_19 hK hP hD hS hA (perm_idx [0] rfl rfl) (fun _ => perm_idx [0] rfl rfl) (fun r u H locs hw2 hP hD hS => ?_)
          subst hw2
          have hsr := sb_rng st (R i.toNat) (R c.toNat) hst
          refine wi_if_lt (tgt := 27) hx hb (by omega) dX0_leastAlike_22 (by decide) (fun c22 => ?_) (fun c22 => ?_)
          ·
            have h27 : lap st th R c.toNat i.toNat = false := by
              unfold lap
              first | (rw [decide_eq_false (by omega : ¬ th i.toNat = 1)]; rfl) | (rw [decide_eq_false (by omega : ¬ 0 ≤ sb st (R i.toNat) (R c.toNat)), Bool.and_false])
            refine lv_iinc (v := iI (i + 1)) (lv' := [(2, .int (iI (i + 1))), (0, .ref (q 0)), (1, .int (iI c))]) hx hb dX0_leastAlike_27 hl (k := 2) rfl (iI_add _ _) (by decide) rfl (fun ls hl => ?_)
            refine lv_goto (tgt := 2) hx hb dX0_leastAlike_30 (by decide) ?_
            exact ih2 (i + 1) _ _ _ (by omega) (by omega) (fun t h => by
              by_cases e : t = i.toNat
              · rw [e]; exact h27
              · exact ht t (by omega)) hP hD hS (lv_sub hl [1, 2, 0] rfl)
          ·
            have h27 : lap st th R c.toNat i.toNat = true := by
              unfold lap; rw [decide_eq_true (by omega : th i.toNat = 1), decide_eq_true c22]; rfl
            refine lv_iload_n hx hb dX0_leastAlike_25 rfl (lv_at hl 2 rfl) ?_
            exact fin _ () H locs ls 26 dX0_leastAlike_26 hP hD hS (trivial) (congrArg iI (by unfold la; rw [fnd_hit ht h27 (by omega)]; omega))
  exact L2 (((c - 0) + 1 : Int)).toNat 0 _ _ _ (by omega) (by omega) (fun t h => absurd h (by omega)) hP hD hS (lv_sub hl [1, 2, 0] rfl)

abbrev rmX0_blanksBelow : Room := { frames := 4, cells := 0, slots := 0, locals := 92 }
set_option maxHeartbeats 4000000 in
set_option maxRecDepth 100000 in
theorem kX0_blanksBelow (l : Launch) (D : va_G) (G : Nat → ClassId) (q : Nat → Nat) (st : Int) (th : Nat → Int) (R : Nat → Nat → Int) (sp : Nat → Int) (n : Int) (hst : 2 ≤ st ∧ st ≤ 16) (hth : ∀ k, th k = 0 ∨ th k = 1) (hR : ∀ i j, 0 ≤ R i j ∧ R i j ≤ 9) (hn : 0 ≤ n ∧ n ≤ 12) : CtI l yX0_blanksBelow wsX0_blanksBelow rmX0_blanksBelow D G [.ref (q 0), .int (iI n)] [BCams G q st th R sp] (fun (r : Int32) (_ : Unit) => r = iI (bb st th R n.toNat)) (fun _ => [BCams G q st th R sp]) := by
  refine CtI.ofI (cc := cX0_blanksBelow) (maxL := 4) (by decide) rfl (Nat.le_of_ble_eq_true rfl) ?_
  intro p0 e0 s0 m0 args bel met cd A0 ls Q0 hx hb hml hown hts hK hP hD hA hl fin
  have hl : lv_has ls 4 [(0, .ref (q 0)), (1, .int (iI n))] := hl
  have hS : va_S A0 s0.heap s0.heap [] := va_S.rf
  have hH : va_P D vwCl (fl [BCams G q st th R sp]) s0.heap := hP
  obtain ⟨H, eH⟩ : ∃ H, H = s0.heap := ⟨_, rfl⟩
  obtain ⟨locs, eL⟩ : ∃ locs : List Loc, locs = [] := ⟨_, rfl⟩
  have hS : va_S A0 s0.heap H locs := by rw [eH, eL]; exact hS
  have hP : va_P D vwCl (fl [BCams G q st th R sp]) H := by rw [eH]; exact hP
  suffices goal : W p0 l e0 rmX0_blanksBelow s0 m0 args bel met cd H locs 0 0 Q0 (F0 m0 0 ls []) by rw [eH, eL] at goal; exact goal
  clear eH eL hH
  refine wi_iconst hx hb dX0_blanksBelow_0 ?_
  refine lv_istore_n (lv' := [(2, .int (iI 0)), (0, .ref (q 0)), (1, .int (iI n))]) hx hb dX0_blanksBelow_1 rfl hl (by decide) rfl (fun ls hl => ?_)
  refine wi_iconst hx hb dX0_blanksBelow_2 ?_
  refine lv_istore_n (lv' := [(3, .int (iI 0)), (2, .int (iI 0)), (0, .ref (q 0)), (1, .int (iI n))]) hx hb dX0_blanksBelow_3 rfl hl (by decide) rfl (fun ls hl => ?_)
  have L4 : ∀ (fu : Nat) (k : Int) (i : Int) (H : Heap) (locs : List Loc) (ls : Array Slot), (n - i < (fu : Int)) → (0 ≤ i ∧ i ≤ n) → (k = ctB (bbp st th R) i.toNat) → va_P D vwCl (fl [BCams G q st th R sp]) H → va_D A0 (fl [BCams G q st th R sp]) → va_S A0 s0.heap H locs → lv_has ls 4 [(0, .ref (q 0)), (1, .int (iI n)), (2, .int (iI k)), (3, .int (iI i))] → W p0 l e0 rmX0_blanksBelow s0 m0 args bel met cd H locs 0 0 Q0 (F0 m0 4 ls []) := by
    intro fu
    induction fu with
    | zero =>
      intro k i H locs ls hfu hi hk
      exact absurd hfu (by omega)
    | succ fu ih =>
      intro k i H locs ls hfu hi hk hP hD hS hl
      have ih4 := ih
      clear ih
      refine lv_iload_n hx hb dX0_blanksBelow_4 rfl (lv_at hl 3 rfl) ?_
      refine lv_iload_n hx hb dX0_blanksBelow_5 rfl (lv_at hl 1 rfl) ?_
      refine wi_icmp_ge (tgt := 36) hx hb (by omega) (by omega) dX0_blanksBelow_6 (by decide) (fun c6 => ?_) (fun c6 => ?_)
      ·
        refine lv_iload_n hx hb dX0_blanksBelow_36 rfl (lv_at hl 2 rfl) ?_
        exact fin _ () H locs ls 37 dX0_blanksBelow_37 hP hD hS (trivial) (congrArg iI (by rw [hk, show i = n by omega]; rfl))
      ·
        refine lv_aload_n hx hb dX0_blanksBelow_9 rfl (lv_at hl 0 rfl) ?_
        refine g_get (C := RX0) (T := TX0) (N := 4) hx hb hts (fun _ h => List.mem_cons_of_mem _ (List.mem_append_right _ h)) hown hK hP (i := 0) rfl BCams_c0 rfl 1 (by decide) (by decide +kernel) rfl dX0_blanksBelow_10 ?_
        refine lv_iload_n hx hb dX0_blanksBelow_13 rfl (lv_at hl 3 rfl) ?_
        refine g_zald hx hb hK hP (i := 0) rfl BCams_c2 (by omega) (by decide) dX0_blanksBelow_14 ?_
        have f1 := hth i.toNat
        refine wi_if_eq (tgt := 30) hx hb (by omega) dX0_blanksBelow_15 (by decide) (fun c15 => ?_) (fun c15 => ?_)
        ·
          refine lv_iinc (v := iI (i + 1)) (lv' := [(3, .int (iI (i + 1))), (0, .ref (q 0)), (1, .int (iI n)), (2, .int (iI k))]) hx hb dX0_blanksBelow_30 hl (k := 3) rfl (iI_add _ _) (by decide) rfl (fun ls hl => ?_)
          refine lv_goto (tgt := 4) hx hb dX0_blanksBelow_33 (by decide) ?_
          exact ih4 k (i + 1) _ _ _ (by omega) (by omega) (by rw [ctB_s (by omega), bbp_if]; split <;> omega) hP hD hS (lv_sub hl [1, 2, 3, 0] rfl)
        ·
          refine lv_aload_n hx hb dX0_blanksBelow_18 rfl (lv_at hl 0 rfl) ?_
          refine lv_iload_n hx hb dX0_blanksBelow_19 rfl (lv_at hl 3 rfl) ?_
          refine cV_i (wc := [BCams G q st th R sp]) (wr := []) (w1 := fun _ => [BCams G q st th R sp]) (Bs1 := fun _ => [BCams G q st th R sp]) (As := [.int (iI i)]) (rest := []) (kX0_leastAlike l D G q st th R sp i (by first | assumption | omega) (by first | assumption | omega) (by first | assumption | omega) (by first | assumption | omega)) rfl ⟨hx, hb, hml, hown, hts⟩ (cwV 1 hts gX0_blanksBelow_X0_leastAlike rfl rfl rfl (by decide +kernel) ⟨by decide, by decide⟩) (q0 := 0) (ci := 0) rfl rfl rfl rfl hl.1 (Nat.le_of_ble_eq_true rfl) ⟨Nat.le_of_ble_eq_true rfl, Nat.le_of_ble_eq_true rfl⟩ dX0_blanksBelow_20 hK hP hD hS hA (perm_idx [0] rfl rfl) (fun _ => perm_idx [0] rfl rfl) (fun r u H locs hw2 hP hD hS => ?_)
          subst hw2
          have hlr := la_rng st th R i.toNat
          refine lv_iload_n hx hb dX0_blanksBelow_23 rfl (lv_at hl 3 rfl) ?_
          refine wi_icmp_ne (tgt := 30) hx hb (by omega) (by omega) dX0_blanksBelow_24 (by decide) (fun c24 => ?_) (fun c24 => ?_)
          ·
            refine lv_iinc (v := iI (i + 1)) (lv' := [(3, .int (iI (i + 1))), (0, .ref (q 0)), (1, .int (iI n)), (2, .int (iI k))]) hx hb dX0_blanksBelow_30 hl (k := 3) rfl (iI_add _ _) (by decide) rfl (fun ls hl => ?_)
            refine lv_goto (tgt := 4) hx hb dX0_blanksBelow_33 (by decide) ?_
            exact ih4 k (i + 1) _ _ _ (by omega) (by omega) (by rw [ctB_s (by omega), bbp_if]; split <;> omega) hP hD hS (lv_sub hl [1, 2, 3, 0] rfl)
          ·
            refine lv_iinc (v := iI (k + 1)) (lv' := [(2, .int (iI (k + 1))), (0, .ref (q 0)), (1, .int (iI n)), (3, .int (iI i))]) hx hb dX0_blanksBelow_27 hl (k := 2) rfl (iI_add _ _) (by decide) rfl (fun ls hl => ?_)
            refine lv_iinc (v := iI (i + 1)) (lv' := [(3, .int (iI (i + 1))), (2, .int (iI (k + 1))), (0, .ref (q 0)), (1, .int (iI n))]) hx hb dX0_blanksBelow_30 hl (k := 3) rfl (iI_add _ _) (by decide) rfl (fun ls hl => ?_)
            refine lv_goto (tgt := 4) hx hb dX0_blanksBelow_33 (by decide) ?_
            exact ih4 (k + 1) (i + 1) _ _ _ (by omega) (by omega) (by rw [ctB_s (by omega), bbp_if]; split <;> omega) hP hD hS (lv_sub hl [2, 3, 1, 0] rfl)
  exact L4 (((n - 0) + 1 : Int)).toNat 0 0 _ _ _ (by omega) (by omega) (by rfl) hP hD hS (lv_sub hl [2, 3, 1, 0] rfl)

abbrev rmX0_greatestStep : Room := { frames := 1, cells := 0, slots := 0, locals := 23 }
set_option maxHeartbeats 4000000 in
set_option maxRecDepth 100000 in
theorem kX0_greatestStep (l : Launch) (D : va_G) (G : Nat → ClassId) (q : Nat → Nat) (st : Int) (th : Nat → Int) (R : Nat → Nat → Int) (sp : Nat → Int) (c : Int) (hst : 2 ≤ st ∧ st ≤ 16) (hR : ∀ i j, 0 ≤ R i j ∧ R i j ≤ 9) (hc : 0 ≤ c ∧ c < 12) : CtI l yX0_greatestStep wsX0_greatestStep rmX0_greatestStep D G [.ref (q 0), .int (iI c)] [BCams G q st th R sp] (fun (r : Int32) (_ : Unit) => r = iI (gs st (R c.toNat) st.toNat)) (fun _ => [BCams G q st th R sp]) := by
  refine CtI.ofI (cc := cX0_greatestStep) (maxL := 5) (by decide) rfl (Nat.le_of_ble_eq_true rfl) ?_
  intro p0 e0 s0 m0 args bel met cd A0 ls Q0 hx hb hml hown hts hK hP hD hA hl fin
  have hl : lv_has ls 5 [(0, .ref (q 0)), (1, .int (iI c))] := hl
  have hS : va_S A0 s0.heap s0.heap [] := va_S.rf
  have hH : va_P D vwCl (fl [BCams G q st th R sp]) s0.heap := hP
  obtain ⟨H, eH⟩ : ∃ H, H = s0.heap := ⟨_, rfl⟩
  obtain ⟨locs, eL⟩ : ∃ locs : List Loc, locs = [] := ⟨_, rfl⟩
  have hS : va_S A0 s0.heap H locs := by rw [eH, eL]; exact hS
  have hP : va_P D vwCl (fl [BCams G q st th R sp]) H := by rw [eH]; exact hP
  suffices goal : W p0 l e0 rmX0_greatestStep s0 m0 args bel met cd H locs 0 0 Q0 (F0 m0 0 ls []) by rw [eH, eL] at goal; exact goal
  clear eH eL hH
  refine wi_iconst hx hb dX0_greatestStep_0 ?_
  refine lv_istore_n (lv' := [(2, .int (iI 0)), (0, .ref (q 0)), (1, .int (iI c))]) hx hb dX0_greatestStep_1 rfl hl (by decide) rfl (fun ls hl => ?_)
  refine wi_iconst hx hb dX0_greatestStep_2 ?_
  refine lv_istore_n (lv' := [(3, .int (iI 0)), (2, .int (iI 0)), (0, .ref (q 0)), (1, .int (iI c))]) hx hb dX0_greatestStep_3 rfl hl (by decide) rfl (fun ls hl => ?_)
  have L4 : ∀ (fu : Nat) (g : Int) (i : Int) (H : Heap) (locs : List Loc) (ls : Array Slot), (st - i < (fu : Int)) → (0 ≤ i ∧ i ≤ st) → (g = gs st (R c.toNat) i.toNat) → va_P D vwCl (fl [BCams G q st th R sp]) H → va_D A0 (fl [BCams G q st th R sp]) → va_S A0 s0.heap H locs → lv_has ls 5 [(0, .ref (q 0)), (1, .int (iI c)), (2, .int (iI g)), (3, .int (iI i))] → W p0 l e0 rmX0_greatestStep s0 m0 args bel met cd H locs 0 0 Q0 (F0 m0 4 ls []) := by
    intro fu
    induction fu with
    | zero =>
      intro g i H locs ls hfu hi hg
      exact absurd hfu (by omega)
    | succ fu ih =>
      intro g i H locs ls hfu hi hg hP hD hS hl
      have ih4 := ih
      clear ih
      refine lv_iload_n hx hb dX0_greatestStep_4 rfl (lv_at hl 3 rfl) ?_
      refine lv_aload_n hx hb dX0_greatestStep_5 rfl (lv_at hl 0 rfl) ?_
      refine g_get (C := RX0) (T := TX0) (N := 4) hx hb hts (fun _ h => List.mem_cons_of_mem _ (List.mem_append_right _ h)) hown hK hP (i := 0) rfl BCams_c0 rfl 3 (by decide) (by decide +kernel) rfl dX0_greatestStep_6 ?_
      refine wi_icmp_ge (tgt := 52) hx hb (by omega) (by omega) dX0_greatestStep_9 (by decide) (fun c9 => ?_) (fun c9 => ?_)
      ·
        refine lv_iload_n hx hb dX0_greatestStep_52 rfl (lv_at hl 2 rfl) ?_
        exact fin _ () H locs ls 53 dX0_greatestStep_53 hP hD hS (trivial) (congrArg iI (by rw [hg, show i = st by omega]))
      ·
        refine lv_aload_n hx hb dX0_greatestStep_12 rfl (lv_at hl 0 rfl) ?_
        refine g_get (C := RX0) (T := TX0) (N := 4) hx hb hts (fun _ h => List.mem_cons_of_mem _ (List.mem_append_right _ h)) hown hK hP (i := 0) rfl BCams_c0 rfl 0 (by decide) (by decide +kernel) rfl dX0_greatestStep_13 ?_
        refine lv_iload_n hx hb dX0_greatestStep_16 rfl (lv_at hl 1 rfl) ?_
        refine g_aald (r := fun i => q (4 + i)) hx hb hK hP (i := 0) rfl BCams_c1 (by omega) (by decide) dX0_greatestStep_17 ?_
        refine lv_aload_n hx hb dX0_greatestStep_18 rfl (lv_at hl 0 rfl) ?_
        refine lv_iload_n hx hb dX0_greatestStep_19 rfl (lv_at hl 3 rfl) ?_
        refine wi_iconst hx hb dX0_greatestStep_20 ?_
        refine cV_i (wc := [BCams G q st th R sp]) (wr := []) (w1 := fun _ => [BCams G q st th R sp]) (Bs1 := fun _ => [BCams G q st th R sp]) (As := [.int (iI i), .int (iI 1)]) (rest := [.ref (q (4 + c.toNat))]) (kX0_further l D G q st th R sp i 1 (by first | assumption | omega) (by first | assumption | omega) (by first | assumption | omega)) rfl ⟨hx, hb, hml, hown, hts⟩ (cwV 2 hts gX0_greatestStep_X0_further rfl rfl rfl (by decide +kernel) ⟨by decide, by decide⟩) (q0 := 0) (ci := 0) rfl rfl rfl rfl hl.1 (Nat.le_of_ble_eq_true rfl) ⟨Nat.le_of_ble_eq_true rfl, Nat.le_of_ble_eq_true rfl⟩ dX0_greatestStep_21 hK hP hD hS hA (perm_idx [0] rfl rfl) (fun _ => perm_idx [0] rfl rfl) (fun r u H locs hw1 hP hD hS => ?_)
        subst hw1
        have hfr := fw_rng (st := st) (x := i + 1) (by omega)
        refine g_iald hx hb hK hP (i := 0) rfl (BCams_row (by omega)) (by omega) (by decide) dX0_greatestStep_24 ?_
        have f2 := hR c.toNat ((fw st (i + 1)).toNat)
        refine lv_aload_n hx hb dX0_greatestStep_25 rfl (lv_at hl 0 rfl) ?_
        refine g_get (C := RX0) (T := TX0) (N := 4) hx hb hts (fun _ h => List.mem_cons_of_mem _ (List.mem_append_right _ h)) hown hK hP (i := 0) rfl BCams_c0 rfl 0 (by decide) (by decide +kernel) rfl dX0_greatestStep_26 ?_
        refine lv_iload_n hx hb dX0_greatestStep_29 rfl (lv_at hl 1 rfl) ?_
        refine g_aald (r := fun i => q (4 + i)) hx hb hK hP (i := 0) rfl BCams_c1 (by omega) (by decide) dX0_greatestStep_30 ?_
        refine lv_iload_n hx hb dX0_greatestStep_31 rfl (lv_at hl 3 rfl) ?_
        refine g_iald hx hb hK hP (i := 0) rfl (BCams_row (by omega)) (by omega) (by decide) dX0_greatestStep_32 ?_
        have f3 := hR c.toNat i.toNat
        refine wi_isub hx hb dX0_greatestStep_33 ?_
        refine lv_istore (lv' := [(4, .int (iI ((R c.toNat ((fw st (i + 1)).toNat)) - (R c.toNat i.toNat)))), (0, .ref (q 0)), (1, .int (iI c)), (2, .int (iI g)), (3, .int (iI i))]) hx hb dX0_greatestStep_34 hl (by decide) rfl (fun ls hl => ?_)
        have hgr := gs_rng st (R c.toNat) (hR c.toNat) i.toNat
        refine lv_iload_n hx hb dX0_greatestStep_36 rfl (lv_at hl 3 rfl) ?_
        refine lv_iload hx hb dX0_greatestStep_37 (lv_at hl 0 rfl) ?_
        refine g_mabs hx hb (by rw [hml]; exact hl.1.symm) hts hown (by decide +kernel) (by decide +kernel) (by decide +kernel) (by decide +kernel) ⟨Nat.le_of_ble_eq_true rfl, Nat.le_of_ble_eq_true rfl, Nat.le_of_ble_eq_true rfl, Nat.le_of_ble_eq_true rfl⟩ (by omega) dX0_greatestStep_39 ?_
        refine g_mmax hx hb (by rw [hml]; exact hl.1.symm) hts hown (by decide +kernel) (by decide +kernel) (by decide +kernel) (by decide +kernel) ⟨Nat.le_of_ble_eq_true rfl, Nat.le_of_ble_eq_true rfl, Nat.le_of_ble_eq_true rfl, Nat.le_of_ble_eq_true rfl⟩ (by omega) (by omega) dX0_greatestStep_42 ?_
        refine lv_istore_n (lv' := [(2, .int (iI (if g < (if 0 ≤ ((R c.toNat ((fw st (i + 1)).toNat)) - (R c.toNat i.toNat)) then ((R c.toNat ((fw st (i + 1)).toNat)) - (R c.toNat i.toNat)) else -((R c.toNat ((fw st (i + 1)).toNat)) - (R c.toNat i.toNat))) then (if 0 ≤ ((R c.toNat ((fw st (i + 1)).toNat)) - (R c.toNat i.toNat)) then ((R c.toNat ((fw st (i + 1)).toNat)) - (R c.toNat i.toNat)) else -((R c.toNat ((fw st (i + 1)).toNat)) - (R c.toNat i.toNat))) else g))), (4, .int (iI ((R c.toNat ((fw st (i + 1)).toNat)) - (R c.toNat i.toNat)))), (0, .ref (q 0)), (1, .int (iI c)), (3, .int (iI i))]) hx hb dX0_greatestStep_45 rfl hl (by decide) rfl (fun ls hl => ?_)
        refine lv_iinc (v := iI (i + 1)) (lv' := [(3, .int (iI (i + 1))), (2, .int (iI (if g < (if 0 ≤ ((R c.toNat ((fw st (i + 1)).toNat)) - (R c.toNat i.toNat)) then ((R c.toNat ((fw st (i + 1)).toNat)) - (R c.toNat i.toNat)) else -((R c.toNat ((fw st (i + 1)).toNat)) - (R c.toNat i.toNat))) then (if 0 ≤ ((R c.toNat ((fw st (i + 1)).toNat)) - (R c.toNat i.toNat)) then ((R c.toNat ((fw st (i + 1)).toNat)) - (R c.toNat i.toNat)) else -((R c.toNat ((fw st (i + 1)).toNat)) - (R c.toNat i.toNat))) else g))), (4, .int (iI ((R c.toNat ((fw st (i + 1)).toNat)) - (R c.toNat i.toNat)))), (0, .ref (q 0)), (1, .int (iI c))]) hx hb dX0_greatestStep_46 hl (k := 4) rfl (iI_add _ _) (by decide) rfl (fun ls hl => ?_)
        refine lv_goto (tgt := 4) hx hb dX0_greatestStep_49 (by decide) ?_
        exact ih4 (if g < (if 0 ≤ ((R c.toNat ((fw st (i + 1)).toNat)) - (R c.toNat i.toNat)) then ((R c.toNat ((fw st (i + 1)).toNat)) - (R c.toNat i.toNat)) else -((R c.toNat ((fw st (i + 1)).toNat)) - (R c.toNat i.toNat))) then (if 0 ≤ ((R c.toNat ((fw st (i + 1)).toNat)) - (R c.toNat i.toNat)) then ((R c.toNat ((fw st (i + 1)).toNat)) - (R c.toNat i.toNat)) else -((R c.toNat ((fw st (i + 1)).toNat)) - (R c.toNat i.toNat))) else g) (i + 1) _ _ _ (by omega) (by omega) (by rw [hg, gs_s (by omega)]) hP hD hS (lv_sub hl [3, 4, 1, 0] rfl)
  exact L4 (((st - 0) + 1 : Int)).toNat 0 0 _ _ _ (by omega) (by omega) (by rfl) hP hD hS (lv_sub hl [2, 3, 1, 0] rfl)
end
