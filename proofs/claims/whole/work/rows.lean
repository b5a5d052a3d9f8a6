section
-- ===== PART A: goes FIRST, ahead of the names: the tables' words, and 'selects' of the private methods out of them =====
/-- a private method of a class that the tables say can be made, by its rows of tables_1 -/
def lw_okq (q : MethodName × Nat) : Prop := (q.1.cls ≠ "java/lang/invoke/MethodHandle" ∧ q.1.cls ≠ "java/lang/invoke/VarHandle") ∧ Cond.instantiable q.1.cls q.2 ∈ tables_1 ∧ Cond.privateMethod q.1 ∈ tables_1 ∧ Cond.instanceMethod q.1 ∈ tables_1
theorem lw_p0 : lw_okq (⟨"LaughsLast$Room", "interpret", "()V"⟩, 9) := ⟨⟨by decide +kernel, by decide +kernel⟩, List.mem_of_getElem? (i := 23) (by decide +kernel), List.mem_of_getElem? (i := 335) (by decide +kernel), List.mem_of_getElem? (i := 336) (by decide +kernel)⟩
theorem lw_p1 : lw_okq (⟨"LaughsLast$Room", "forget", "()V"⟩, 9) := ⟨⟨by decide +kernel, by decide +kernel⟩, List.mem_of_getElem? (i := 23) (by decide +kernel), List.mem_of_getElem? (i := 339) (by decide +kernel), List.mem_of_getElem? (i := 340) (by decide +kernel)⟩
theorem lw_p2 : lw_okq (⟨"LaughsLast$Room", "readParts", "()Z"⟩, 9) := ⟨⟨by decide +kernel, by decide +kernel⟩, List.mem_of_getElem? (i := 23) (by decide +kernel), List.mem_of_getElem? (i := 343) (by decide +kernel), List.mem_of_getElem? (i := 344) (by decide +kernel)⟩
theorem lw_p3 : lw_okq (⟨"LaughsLast$Room", "readPart", "()Z"⟩, 9) := ⟨⟨by decide +kernel, by decide +kernel⟩, List.mem_of_getElem? (i := 23) (by decide +kernel), List.mem_of_getElem? (i := 347) (by decide +kernel), List.mem_of_getElem? (i := 348) (by decide +kernel)⟩
theorem lw_p4 : lw_okq (⟨"LaughsLast$Room", "sign", "()I"⟩, 9) := ⟨⟨by decide +kernel, by decide +kernel⟩, List.mem_of_getElem? (i := 23) (by decide +kernel), List.mem_of_getElem? (i := 351) (by decide +kernel), List.mem_of_getElem? (i := 352) (by decide +kernel)⟩
theorem lw_p5 : lw_okq (⟨"LaughsLast$Room", "readPerson", "()Z"⟩, 9) := ⟨⟨by decide +kernel, by decide +kernel⟩, List.mem_of_getElem? (i := 23) (by decide +kernel), List.mem_of_getElem? (i := 355) (by decide +kernel), List.mem_of_getElem? (i := 356) (by decide +kernel)⟩
theorem lw_p6 : lw_okq (⟨"LaughsLast$Room", "isFigure", "(I)Z"⟩, 9) := ⟨⟨by decide +kernel, by decide +kernel⟩, List.mem_of_getElem? (i := 23) (by decide +kernel), List.mem_of_getElem? (i := 359) (by decide +kernel), List.mem_of_getElem? (i := 360) (by decide +kernel)⟩
theorem lw_p7 : lw_okq (⟨"LaughsLast$Room", "readTale", "()Z"⟩, 9) := ⟨⟨by decide +kernel, by decide +kernel⟩, List.mem_of_getElem? (i := 23) (by decide +kernel), List.mem_of_getElem? (i := 364) (by decide +kernel), List.mem_of_getElem? (i := 365) (by decide +kernel)⟩
theorem lw_p8 : lw_okq (⟨"LaughsLast$Room", "readRule", "(II)Z"⟩, 9) := ⟨⟨by decide +kernel, by decide +kernel⟩, List.mem_of_getElem? (i := 23) (by decide +kernel), List.mem_of_getElem? (i := 368) (by decide +kernel), List.mem_of_getElem? (i := 369) (by decide +kernel)⟩
theorem lw_p9 : lw_okq (⟨"LaughsLast", "isPerson", "(I)Z"⟩, 11) := ⟨⟨by decide +kernel, by decide +kernel⟩, List.mem_of_getElem? (i := 15) (by decide +kernel), List.mem_of_getElem? (i := 388) (by decide +kernel), List.mem_of_getElem? (i := 389) (by decide +kernel)⟩
theorem lw_p10 : lw_okq (⟨"LaughsLast", "isTale", "(I)Z"⟩, 11) := ⟨⟨by decide +kernel, by decide +kernel⟩, List.mem_of_getElem? (i := 15) (by decide +kernel), List.mem_of_getElem? (i := 396) (by decide +kernel), List.mem_of_getElem? (i := 397) (by decide +kernel)⟩
theorem lw_p11 : lw_okq (⟨"LaughsLast$Chances", "begin", "()V"⟩, 7) := ⟨⟨by decide +kernel, by decide +kernel⟩, List.mem_of_getElem? (i := 140) (by decide +kernel), List.mem_of_getElem? (i := 452) (by decide +kernel), List.mem_of_getElem? (i := 453) (by decide +kernel)⟩
theorem lw_p12 : lw_okq (⟨"LaughsLast$Chances", "split", "(I)V"⟩, 7) := ⟨⟨by decide +kernel, by decide +kernel⟩, List.mem_of_getElem? (i := 140) (by decide +kernel), List.mem_of_getElem? (i := 456) (by decide +kernel), List.mem_of_getElem? (i := 457) (by decide +kernel)⟩
theorem lw_p13 : lw_okq (⟨"LaughsLast$Chances", "spread", "(I)V"⟩, 7) := ⟨⟨by decide +kernel, by decide +kernel⟩, List.mem_of_getElem? (i := 140) (by decide +kernel), List.mem_of_getElem? (i := 461) (by decide +kernel), List.mem_of_getElem? (i := 462) (by decide +kernel)⟩
theorem lw_p14 : lw_okq (⟨"LaughsLast$Chances", "passOn", "(IIJ)V"⟩, 7) := ⟨⟨by decide +kernel, by decide +kernel⟩, List.mem_of_getElem? (i := 140) (by decide +kernel), List.mem_of_getElem? (i := 465) (by decide +kernel), List.mem_of_getElem? (i := 466) (by decide +kernel)⟩
theorem lw_p15 : lw_okq (⟨"LaughsLast$Chances", "step", "(II)V"⟩, 7) := ⟨⟨by decide +kernel, by decide +kernel⟩, List.mem_of_getElem? (i := 140) (by decide +kernel), List.mem_of_getElem? (i := 477) (by decide +kernel), List.mem_of_getElem? (i := 478) (by decide +kernel)⟩
def lw_privs_1 : List (MethodName × Nat) := [(⟨"LaughsLast$Room", "interpret", "()V"⟩, 9), (⟨"LaughsLast$Room", "forget", "()V"⟩, 9), (⟨"LaughsLast$Room", "readParts", "()Z"⟩, 9), (⟨"LaughsLast$Room", "readPart", "()Z"⟩, 9), (⟨"LaughsLast$Room", "sign", "()I"⟩, 9), (⟨"LaughsLast$Room", "readPerson", "()Z"⟩, 9), (⟨"LaughsLast$Room", "isFigure", "(I)Z"⟩, 9), (⟨"LaughsLast$Room", "readTale", "()Z"⟩, 9), (⟨"LaughsLast$Room", "readRule", "(II)Z"⟩, 9), (⟨"LaughsLast", "isPerson", "(I)Z"⟩, 11), (⟨"LaughsLast", "isTale", "(I)Z"⟩, 11), (⟨"LaughsLast$Chances", "begin", "()V"⟩, 7), (⟨"LaughsLast$Chances", "split", "(I)V"⟩, 7), (⟨"LaughsLast$Chances", "spread", "(I)V"⟩, 7), (⟨"LaughsLast$Chances", "passOn", "(IIJ)V"⟩, 7), (⟨"LaughsLast$Chances", "step", "(II)V"⟩, 7)]
theorem lw_r1 : ∀ q ∈ lw_privs_1, lw_okq q := List.forall_mem_cons.mpr ⟨lw_p0, List.forall_mem_cons.mpr ⟨lw_p1, List.forall_mem_cons.mpr ⟨lw_p2, List.forall_mem_cons.mpr ⟨lw_p3, List.forall_mem_cons.mpr ⟨lw_p4, List.forall_mem_cons.mpr ⟨lw_p5, List.forall_mem_cons.mpr ⟨lw_p6, List.forall_mem_cons.mpr ⟨lw_p7, List.forall_mem_cons.mpr ⟨lw_p8, List.forall_mem_cons.mpr ⟨lw_p9, List.forall_mem_cons.mpr ⟨lw_p10, List.forall_mem_cons.mpr ⟨lw_p11, List.forall_mem_cons.mpr ⟨lw_p12, List.forall_mem_cons.mpr ⟨lw_p13, List.forall_mem_cons.mpr ⟨lw_p14, List.forall_mem_cons.mpr ⟨lw_p15, fun _ h => absurd h List.not_mem_nil⟩⟩⟩⟩⟩⟩⟩⟩⟩⟩⟩⟩⟩⟩⟩⟩
theorem lw_p16 : lw_okq (⟨"LaughsLast$Chances", "stepOnce", "(II)V"⟩, 7) := ⟨⟨by decide +kernel, by decide +kernel⟩, List.mem_of_getElem? (i := 140) (by decide +kernel), List.mem_of_getElem? (i := 481) (by decide +kernel), List.mem_of_getElem? (i := 482) (by decide +kernel)⟩
theorem lw_p17 : lw_okq (⟨"LaughsLast$Chances", "stepOn", "(II)V"⟩, 7) := ⟨⟨by decide +kernel, by decide +kernel⟩, List.mem_of_getElem? (i := 140) (by decide +kernel), List.mem_of_getElem? (i := 487) (by decide +kernel), List.mem_of_getElem? (i := 488) (by decide +kernel)⟩
theorem lw_p18 : lw_okq (⟨"LaughsLast$Chances", "halve", "(I)V"⟩, 7) := ⟨⟨by decide +kernel, by decide +kernel⟩, List.mem_of_getElem? (i := 140) (by decide +kernel), List.mem_of_getElem? (i := 491) (by decide +kernel), List.mem_of_getElem? (i := 492) (by decide +kernel)⟩
theorem lw_p19 : lw_okq (⟨"LaughsLast$Chances", "finish", "()V"⟩, 7) := ⟨⟨by decide +kernel, by decide +kernel⟩, List.mem_of_getElem? (i := 140) (by decide +kernel), List.mem_of_getElem? (i := 496) (by decide +kernel), List.mem_of_getElem? (i := 497) (by decide +kernel)⟩
theorem lw_p20 : lw_okq (⟨"LaughsLast", "shareOwed", "(II)LLaughsLast$Share;"⟩, 11) := ⟨⟨by decide +kernel, by decide +kernel⟩, List.mem_of_getElem? (i := 15) (by decide +kernel), List.mem_of_getElem? (i := 500) (by decide +kernel), List.mem_of_getElem? (i := 501) (by decide +kernel)⟩
theorem lw_p21 : lw_okq (⟨"LaughsLast", "shareOfDebt", "(I)LLaughsLast$Share;"⟩, 11) := ⟨⟨by decide +kernel, by decide +kernel⟩, List.mem_of_getElem? (i := 15) (by decide +kernel), List.mem_of_getElem? (i := 530) (by decide +kernel), List.mem_of_getElem? (i := 531) (by decide +kernel)⟩
theorem lw_p22 : lw_okq (⟨"LaughsLast", "shareOfCost", "(J)LLaughsLast$Share;"⟩, 11) := ⟨⟨by decide +kernel, by decide +kernel⟩, List.mem_of_getElem? (i := 15) (by decide +kernel), List.mem_of_getElem? (i := 553) (by decide +kernel), List.mem_of_getElem? (i := 554) (by decide +kernel)⟩
theorem lw_p23 : lw_okq (⟨"LaughsLast$Search", "compareWays", "(I)V"⟩, 11) := ⟨⟨by decide +kernel, by decide +kernel⟩, List.mem_of_getElem? (i := 171) (by decide +kernel), List.mem_of_getElem? (i := 566) (by decide +kernel), List.mem_of_getElem? (i := 567) (by decide +kernel)⟩
theorem lw_p24 : lw_okq (⟨"LaughsLast$Search", "compareHolds", "(II)V"⟩, 11) := ⟨⟨by decide +kernel, by decide +kernel⟩, List.mem_of_getElem? (i := 171) (by decide +kernel), List.mem_of_getElem? (i := 575) (by decide +kernel), List.mem_of_getElem? (i := 576) (by decide +kernel)⟩
theorem lw_p25 : lw_okq (⟨"LaughsLast$Search", "roundChanges", "()Z"⟩, 11) := ⟨⟨by decide +kernel, by decide +kernel⟩, List.mem_of_getElem? (i := 171) (by decide +kernel), List.mem_of_getElem? (i := 596) (by decide +kernel), List.mem_of_getElem? (i := 597) (by decide +kernel)⟩
theorem lw_p26 : lw_okq (⟨"LaughsLast", "restTold", "(II)I"⟩, 11) := ⟨⟨by decide +kernel, by decide +kernel⟩, List.mem_of_getElem? (i := 15) (by decide +kernel), List.mem_of_getElem? (i := 602) (by decide +kernel), List.mem_of_getElem? (i := 603) (by decide +kernel)⟩
theorem lw_p27 : lw_okq (⟨"LaughsLast$Search", "setRow", "(I)Z"⟩, 11) := ⟨⟨by decide +kernel, by decide +kernel⟩, List.mem_of_getElem? (i := 171) (by decide +kernel), List.mem_of_getElem? (i := 614) (by decide +kernel), List.mem_of_getElem? (i := 615) (by decide +kernel)⟩
theorem lw_p28 : lw_okq (⟨"LaughsLast", "totalWeight", "()I"⟩, 11) := ⟨⟨by decide +kernel, by decide +kernel⟩, List.mem_of_getElem? (i := 15) (by decide +kernel), List.mem_of_getElem? (i := 663) (by decide +kernel), List.mem_of_getElem? (i := 664) (by decide +kernel)⟩
theorem lw_p29 : lw_okq (⟨"LaughsLast$Lots", "laughing", "(LLaughsLast$Company;I)I"⟩, 1) := ⟨⟨by decide +kernel, by decide +kernel⟩, List.mem_of_getElem? (i := 218) (by decide +kernel), List.mem_of_getElem? (i := 685) (by decide +kernel), List.mem_of_getElem? (i := 686) (by decide +kernel)⟩
theorem lw_p30 : lw_okq (⟨"LaughsLast$Lots", "draw", "(I)I"⟩, 1) := ⟨⟨by decide +kernel, by decide +kernel⟩, List.mem_of_getElem? (i := 218) (by decide +kernel), List.mem_of_getElem? (i := 690) (by decide +kernel), List.mem_of_getElem? (i := 691) (by decide +kernel)⟩
theorem lw_p31 : lw_okq (⟨"LaughsLast$Lots", "takerOf", "(II)I"⟩, 1) := ⟨⟨by decide +kernel, by decide +kernel⟩, List.mem_of_getElem? (i := 218) (by decide +kernel), List.mem_of_getElem? (i := 696) (by decide +kernel), List.mem_of_getElem? (i := 697) (by decide +kernel)⟩
def lw_privs_2 : List (MethodName × Nat) := [(⟨"LaughsLast$Chances", "stepOnce", "(II)V"⟩, 7), (⟨"LaughsLast$Chances", "stepOn", "(II)V"⟩, 7), (⟨"LaughsLast$Chances", "halve", "(I)V"⟩, 7), (⟨"LaughsLast$Chances", "finish", "()V"⟩, 7), (⟨"LaughsLast", "shareOwed", "(II)LLaughsLast$Share;"⟩, 11), (⟨"LaughsLast", "shareOfDebt", "(I)LLaughsLast$Share;"⟩, 11), (⟨"LaughsLast", "shareOfCost", "(J)LLaughsLast$Share;"⟩, 11), (⟨"LaughsLast$Search", "compareWays", "(I)V"⟩, 11), (⟨"LaughsLast$Search", "compareHolds", "(II)V"⟩, 11), (⟨"LaughsLast$Search", "roundChanges", "()Z"⟩, 11), (⟨"LaughsLast", "restTold", "(II)I"⟩, 11), (⟨"LaughsLast$Search", "setRow", "(I)Z"⟩, 11), (⟨"LaughsLast", "totalWeight", "()I"⟩, 11), (⟨"LaughsLast$Lots", "laughing", "(LLaughsLast$Company;I)I"⟩, 1), (⟨"LaughsLast$Lots", "draw", "(I)I"⟩, 1), (⟨"LaughsLast$Lots", "takerOf", "(II)I"⟩, 1)]
theorem lw_r2 : ∀ q ∈ lw_privs_2, lw_okq q := List.forall_mem_cons.mpr ⟨lw_p16, List.forall_mem_cons.mpr ⟨lw_p17, List.forall_mem_cons.mpr ⟨lw_p18, List.forall_mem_cons.mpr ⟨lw_p19, List.forall_mem_cons.mpr ⟨lw_p20, List.forall_mem_cons.mpr ⟨lw_p21, List.forall_mem_cons.mpr ⟨lw_p22, List.forall_mem_cons.mpr ⟨lw_p23, List.forall_mem_cons.mpr ⟨lw_p24, List.forall_mem_cons.mpr ⟨lw_p25, List.forall_mem_cons.mpr ⟨lw_p26, List.forall_mem_cons.mpr ⟨lw_p27, List.forall_mem_cons.mpr ⟨lw_p28, List.forall_mem_cons.mpr ⟨lw_p29, List.forall_mem_cons.mpr ⟨lw_p30, List.forall_mem_cons.mpr ⟨lw_p31, fun _ h => absurd h List.not_mem_nil⟩⟩⟩⟩⟩⟩⟩⟩⟩⟩⟩⟩⟩⟩⟩⟩
theorem lw_p32 : lw_okq (⟨"LaughsLast$Seen", "wasSeen", "(I)Z"⟩, 6) := ⟨⟨by decide +kernel, by decide +kernel⟩, List.mem_of_getElem? (i := 242) (by decide +kernel), List.mem_of_getElem? (i := 753) (by decide +kernel), List.mem_of_getElem? (i := 754) (by decide +kernel)⟩
theorem lw_p33 : lw_okq (⟨"LaughsLast", "digestOfWhoOwes", "(IJ)J"⟩, 11) := ⟨⟨by decide +kernel, by decide +kernel⟩, List.mem_of_getElem? (i := 15) (by decide +kernel), List.mem_of_getElem? (i := 849) (by decide +kernel), List.mem_of_getElem? (i := 850) (by decide +kernel)⟩
theorem lw_p34 : lw_okq (⟨"LaughsLast", "digestOfSearches", "(IJ)J"⟩, 11) := ⟨⟨by decide +kernel, by decide +kernel⟩, List.mem_of_getElem? (i := 15) (by decide +kernel), List.mem_of_getElem? (i := 858) (by decide +kernel), List.mem_of_getElem? (i := 859) (by decide +kernel)⟩
theorem lw_p35 : lw_okq (⟨"LaughsLast", "digestOfStrokes", "(IJ)J"⟩, 11) := ⟨⟨by decide +kernel, by decide +kernel⟩, List.mem_of_getElem? (i := 15) (by decide +kernel), List.mem_of_getElem? (i := 862) (by decide +kernel), List.mem_of_getElem? (i := 863) (by decide +kernel)⟩
theorem lw_p36 : lw_okq (⟨"LaughsLastModel", "met", "(I)I"⟩, 40) := ⟨⟨by decide +kernel, by decide +kernel⟩, List.mem_of_getElem? (i := 870) (by decide +kernel), List.mem_of_getElem? (i := 1010) (by decide +kernel), List.mem_of_getElem? (i := 1011) (by decide +kernel)⟩
theorem lw_p37 : lw_okq (⟨"LaughsLastModel", "lacks", "(III)I"⟩, 40) := ⟨⟨by decide +kernel, by decide +kernel⟩, List.mem_of_getElem? (i := 870) (by decide +kernel), List.mem_of_getElem? (i := 1022) (by decide +kernel), List.mem_of_getElem? (i := 1023) (by decide +kernel)⟩
theorem lw_p38 : lw_okq (⟨"LaughsLastModel", "reads", "()I"⟩, 40) := ⟨⟨by decide +kernel, by decide +kernel⟩, List.mem_of_getElem? (i := 870) (by decide +kernel), List.mem_of_getElem? (i := 1051) (by decide +kernel), List.mem_of_getElem? (i := 1052) (by decide +kernel)⟩
theorem lw_p39 : lw_okq (⟨"LaughsLastModel", "clears", "()V"⟩, 40) := ⟨⟨by decide +kernel, by decide +kernel⟩, List.mem_of_getElem? (i := 870) (by decide +kernel), List.mem_of_getElem? (i := 1055) (by decide +kernel), List.mem_of_getElem? (i := 1056) (by decide +kernel)⟩
theorem lw_p40 : lw_okq (⟨"LaughsLastModel", "readsPart", "()Z"⟩, 40) := ⟨⟨by decide +kernel, by decide +kernel⟩, List.mem_of_getElem? (i := 870) (by decide +kernel), List.mem_of_getElem? (i := 1059) (by decide +kernel), List.mem_of_getElem? (i := 1060) (by decide +kernel)⟩
theorem lw_p41 : lw_okq (⟨"LaughsLastModel", "here", "()I"⟩, 40) := ⟨⟨by decide +kernel, by decide +kernel⟩, List.mem_of_getElem? (i := 870) (by decide +kernel), List.mem_of_getElem? (i := 1063) (by decide +kernel), List.mem_of_getElem? (i := 1064) (by decide +kernel)⟩
theorem lw_p42 : lw_okq (⟨"LaughsLastModel", "readsPerson", "()Z"⟩, 40) := ⟨⟨by decide +kernel, by decide +kernel⟩, List.mem_of_getElem? (i := 870) (by decide +kernel), List.mem_of_getElem? (i := 1067) (by decide +kernel), List.mem_of_getElem? (i := 1068) (by decide +kernel)⟩
theorem lw_p43 : lw_okq (⟨"LaughsLastModel", "figure", "(I)I"⟩, 40) := ⟨⟨by decide +kernel, by decide +kernel⟩, List.mem_of_getElem? (i := 870) (by decide +kernel), List.mem_of_getElem? (i := 1071) (by decide +kernel), List.mem_of_getElem? (i := 1072) (by decide +kernel)⟩
theorem lw_p44 : lw_okq (⟨"LaughsLastModel", "readsTale", "()Z"⟩, 40) := ⟨⟨by decide +kernel, by decide +kernel⟩, List.mem_of_getElem? (i := 870) (by decide +kernel), List.mem_of_getElem? (i := 1075) (by decide +kernel), List.mem_of_getElem? (i := 1076) (by decide +kernel)⟩
theorem lw_p45 : lw_okq (⟨"LaughsLastModel", "readsLaw", "(I)Z"⟩, 40) := ⟨⟨by decide +kernel, by decide +kernel⟩, List.mem_of_getElem? (i := 870) (by decide +kernel), List.mem_of_getElem? (i := 1079) (by decide +kernel), List.mem_of_getElem? (i := 1080) (by decide +kernel)⟩
theorem lw_p46 : lw_okq (⟨"LaughsLastModel", "isPerson", "(I)Z"⟩, 40) := ⟨⟨by decide +kernel, by decide +kernel⟩, List.mem_of_getElem? (i := 870) (by decide +kernel), List.mem_of_getElem? (i := 1087) (by decide +kernel), List.mem_of_getElem? (i := 1088) (by decide +kernel)⟩
theorem lw_p47 : lw_okq (⟨"LaughsLastModel", "lawNow", "(I)I"⟩, 40) := ⟨⟨by decide +kernel, by decide +kernel⟩, List.mem_of_getElem? (i := 870) (by decide +kernel), List.mem_of_getElem? (i := 1099) (by decide +kernel), List.mem_of_getElem? (i := 1100) (by decide +kernel)⟩
def lw_privs_3 : List (MethodName × Nat) := [(⟨"LaughsLast$Seen", "wasSeen", "(I)Z"⟩, 6), (⟨"LaughsLast", "digestOfWhoOwes", "(IJ)J"⟩, 11), (⟨"LaughsLast", "digestOfSearches", "(IJ)J"⟩, 11), (⟨"LaughsLast", "digestOfStrokes", "(IJ)J"⟩, 11), (⟨"LaughsLastModel", "met", "(I)I"⟩, 40), (⟨"LaughsLastModel", "lacks", "(III)I"⟩, 40), (⟨"LaughsLastModel", "reads", "()I"⟩, 40), (⟨"LaughsLastModel", "clears", "()V"⟩, 40), (⟨"LaughsLastModel", "readsPart", "()Z"⟩, 40), (⟨"LaughsLastModel", "here", "()I"⟩, 40), (⟨"LaughsLastModel", "readsPerson", "()Z"⟩, 40), (⟨"LaughsLastModel", "figure", "(I)I"⟩, 40), (⟨"LaughsLastModel", "readsTale", "()Z"⟩, 40), (⟨"LaughsLastModel", "readsLaw", "(I)Z"⟩, 40), (⟨"LaughsLastModel", "isPerson", "(I)Z"⟩, 40), (⟨"LaughsLastModel", "lawNow", "(I)I"⟩, 40)]
theorem lw_r3 : ∀ q ∈ lw_privs_3, lw_okq q := List.forall_mem_cons.mpr ⟨lw_p32, List.forall_mem_cons.mpr ⟨lw_p33, List.forall_mem_cons.mpr ⟨lw_p34, List.forall_mem_cons.mpr ⟨lw_p35, List.forall_mem_cons.mpr ⟨lw_p36, List.forall_mem_cons.mpr ⟨lw_p37, List.forall_mem_cons.mpr ⟨lw_p38, List.forall_mem_cons.mpr ⟨lw_p39, List.forall_mem_cons.mpr ⟨lw_p40, List.forall_mem_cons.mpr ⟨lw_p41, List.forall_mem_cons.mpr ⟨lw_p42, List.forall_mem_cons.mpr ⟨lw_p43, List.forall_mem_cons.mpr ⟨lw_p44, List.forall_mem_cons.mpr ⟨lw_p45, List.forall_mem_cons.mpr ⟨lw_p46, List.forall_mem_cons.mpr ⟨lw_p47, fun _ h => absurd h List.not_mem_nil⟩⟩⟩⟩⟩⟩⟩⟩⟩⟩⟩⟩⟩⟩⟩⟩
theorem lw_p48 : lw_okq (⟨"LaughsLastModel", "quartersOf", "(II)I"⟩, 40) := ⟨⟨by decide +kernel, by decide +kernel⟩, List.mem_of_getElem? (i := 870) (by decide +kernel), List.mem_of_getElem? (i := 1120) (by decide +kernel), List.mem_of_getElem? (i := 1121) (by decide +kernel)⟩
theorem lw_p49 : lw_okq (⟨"LaughsLastModel", "tries", "()V"⟩, 40) := ⟨⟨by decide +kernel, by decide +kernel⟩, List.mem_of_getElem? (i := 870) (by decide +kernel), List.mem_of_getElem? (i := 1124) (by decide +kernel), List.mem_of_getElem? (i := 1125) (by decide +kernel)⟩
theorem lw_p50 : lw_okq (⟨"LaughsLastModel", "quartersNow", "(II)I"⟩, 40) := ⟨⟨by decide +kernel, by decide +kernel⟩, List.mem_of_getElem? (i := 870) (by decide +kernel), List.mem_of_getElem? (i := 1128) (by decide +kernel), List.mem_of_getElem? (i := 1129) (by decide +kernel)⟩
theorem lw_p51 : lw_okq (⟨"LaughsLastModel", "isThere", "(II)Z"⟩, 40) := ⟨⟨by decide +kernel, by decide +kernel⟩, List.mem_of_getElem? (i := 870) (by decide +kernel), List.mem_of_getElem? (i := 1132) (by decide +kernel), List.mem_of_getElem? (i := 1133) (by decide +kernel)⟩
theorem lw_p52 : lw_okq (⟨"LaughsLastModel", "owesOf", "(III)J"⟩, 40) := ⟨⟨by decide +kernel, by decide +kernel⟩, List.mem_of_getElem? (i := 870) (by decide +kernel), List.mem_of_getElem? (i := 1146) (by decide +kernel), List.mem_of_getElem? (i := 1147) (by decide +kernel)⟩
theorem lw_p53 : lw_okq (⟨"LaughsLastModel", "goes", "(I)V"⟩, 40) := ⟨⟨by decide +kernel, by decide +kernel⟩, List.mem_of_getElem? (i := 870) (by decide +kernel), List.mem_of_getElem? (i := 1150) (by decide +kernel), List.mem_of_getElem? (i := 1151) (by decide +kernel)⟩
theorem lw_p54 : lw_okq (⟨"LaughsLastModel", "tells", "(I)V"⟩, 40) := ⟨⟨by decide +kernel, by decide +kernel⟩, List.mem_of_getElem? (i := 870) (by decide +kernel), List.mem_of_getElem? (i := 1154) (by decide +kernel), List.mem_of_getElem? (i := 1155) (by decide +kernel)⟩
theorem lw_p55 : lw_okq (⟨"LaughsLastModel", "laugh", "(IIJ)V"⟩, 40) := ⟨⟨by decide +kernel, by decide +kernel⟩, List.mem_of_getElem? (i := 870) (by decide +kernel), List.mem_of_getElem? (i := 1158) (by decide +kernel), List.mem_of_getElem? (i := 1159) (by decide +kernel)⟩
theorem lw_p56 : lw_okq (⟨"LaughsLastModel", "comes", "(IIJ)V"⟩, 40) := ⟨⟨by decide +kernel, by decide +kernel⟩, List.mem_of_getElem? (i := 870) (by decide +kernel), List.mem_of_getElem? (i := 1166) (by decide +kernel), List.mem_of_getElem? (i := 1167) (by decide +kernel)⟩
theorem lw_p57 : lw_okq (⟨"LaughsLastModel", "partsOf", "(I)J"⟩, 40) := ⟨⟨by decide +kernel, by decide +kernel⟩, List.mem_of_getElem? (i := 870) (by decide +kernel), List.mem_of_getElem? (i := 1170) (by decide +kernel), List.mem_of_getElem? (i := 1171) (by decide +kernel)⟩
theorem lw_p58 : lw_okq (⟨"LaughsLastModel", "amountOf", "(II)J"⟩, 40) := ⟨⟨by decide +kernel, by decide +kernel⟩, List.mem_of_getElem? (i := 870) (by decide +kernel), List.mem_of_getElem? (i := 1189) (by decide +kernel), List.mem_of_getElem? (i := 1190) (by decide +kernel)⟩
theorem lw_p59 : lw_okq (⟨"LaughsLastModel", "amountNow", "(I)J"⟩, 40) := ⟨⟨by decide +kernel, by decide +kernel⟩, List.mem_of_getElem? (i := 870) (by decide +kernel), List.mem_of_getElem? (i := 1193) (by decide +kernel), List.mem_of_getElem? (i := 1194) (by decide +kernel)⟩
theorem lw_p60 : lw_okq (⟨"LaughsLastModel", "all", "()J"⟩, 40) := ⟨⟨by decide +kernel, by decide +kernel⟩, List.mem_of_getElem? (i := 870) (by decide +kernel), List.mem_of_getElem? (i := 1198) (by decide +kernel), List.mem_of_getElem? (i := 1199) (by decide +kernel)⟩
theorem lw_p61 : lw_okq (⟨"LaughsLastModel", "costOf", "(II)J"⟩, 40) := ⟨⟨by decide +kernel, by decide +kernel⟩, List.mem_of_getElem? (i := 870) (by decide +kernel), List.mem_of_getElem? (i := 1206) (by decide +kernel), List.mem_of_getElem? (i := 1207) (by decide +kernel)⟩
theorem lw_p62 : lw_okq (⟨"LaughsLastModel", "costNow", "(I)J"⟩, 40) := ⟨⟨by decide +kernel, by decide +kernel⟩, List.mem_of_getElem? (i := 870) (by decide +kernel), List.mem_of_getElem? (i := 1210) (by decide +kernel), List.mem_of_getElem? (i := 1211) (by decide +kernel)⟩
theorem lw_p63 : lw_okq (⟨"LaughsLastModel", "bestOf", "(II)J"⟩, 40) := ⟨⟨by decide +kernel, by decide +kernel⟩, List.mem_of_getElem? (i := 870) (by decide +kernel), List.mem_of_getElem? (i := 1218) (by decide +kernel), List.mem_of_getElem? (i := 1219) (by decide +kernel)⟩
def lw_privs_4 : List (MethodName × Nat) := [(⟨"LaughsLastModel", "quartersOf", "(II)I"⟩, 40), (⟨"LaughsLastModel", "tries", "()V"⟩, 40), (⟨"LaughsLastModel", "quartersNow", "(II)I"⟩, 40), (⟨"LaughsLastModel", "isThere", "(II)Z"⟩, 40), (⟨"LaughsLastModel", "owesOf", "(III)J"⟩, 40), (⟨"LaughsLastModel", "goes", "(I)V"⟩, 40), (⟨"LaughsLastModel", "tells", "(I)V"⟩, 40), (⟨"LaughsLastModel", "laugh", "(IIJ)V"⟩, 40), (⟨"LaughsLastModel", "comes", "(IIJ)V"⟩, 40), (⟨"LaughsLastModel", "partsOf", "(I)J"⟩, 40), (⟨"LaughsLastModel", "amountOf", "(II)J"⟩, 40), (⟨"LaughsLastModel", "amountNow", "(I)J"⟩, 40), (⟨"LaughsLastModel", "all", "()J"⟩, 40), (⟨"LaughsLastModel", "costOf", "(II)J"⟩, 40), (⟨"LaughsLastModel", "costNow", "(I)J"⟩, 40), (⟨"LaughsLastModel", "bestOf", "(II)J"⟩, 40)]
theorem lw_r4 : ∀ q ∈ lw_privs_4, lw_okq q := List.forall_mem_cons.mpr ⟨lw_p48, List.forall_mem_cons.mpr ⟨lw_p49, List.forall_mem_cons.mpr ⟨lw_p50, List.forall_mem_cons.mpr ⟨lw_p51, List.forall_mem_cons.mpr ⟨lw_p52, List.forall_mem_cons.mpr ⟨lw_p53, List.forall_mem_cons.mpr ⟨lw_p54, List.forall_mem_cons.mpr ⟨lw_p55, List.forall_mem_cons.mpr ⟨lw_p56, List.forall_mem_cons.mpr ⟨lw_p57, List.forall_mem_cons.mpr ⟨lw_p58, List.forall_mem_cons.mpr ⟨lw_p59, List.forall_mem_cons.mpr ⟨lw_p60, List.forall_mem_cons.mpr ⟨lw_p61, List.forall_mem_cons.mpr ⟨lw_p62, List.forall_mem_cons.mpr ⟨lw_p63, fun _ h => absurd h List.not_mem_nil⟩⟩⟩⟩⟩⟩⟩⟩⟩⟩⟩⟩⟩⟩⟩⟩
theorem lw_p64 : lw_okq (⟨"LaughsLastModel", "findBest", "(I)V"⟩, 40) := ⟨⟨by decide +kernel, by decide +kernel⟩, List.mem_of_getElem? (i := 870) (by decide +kernel), List.mem_of_getElem? (i := 1222) (by decide +kernel), List.mem_of_getElem? (i := 1223) (by decide +kernel)⟩
theorem lw_p65 : lw_okq (⟨"LaughsLastModel", "restOf", "(II)I"⟩, 40) := ⟨⟨by decide +kernel, by decide +kernel⟩, List.mem_of_getElem? (i := 870) (by decide +kernel), List.mem_of_getElem? (i := 1231) (by decide +kernel), List.mem_of_getElem? (i := 1232) (by decide +kernel)⟩
theorem lw_p66 : lw_okq (⟨"LaughsLastModel", "rests", "()I"⟩, 40) := ⟨⟨by decide +kernel, by decide +kernel⟩, List.mem_of_getElem? (i := 870) (by decide +kernel), List.mem_of_getElem? (i := 1235) (by decide +kernel), List.mem_of_getElem? (i := 1236) (by decide +kernel)⟩
theorem lw_p67 : lw_okq (⟨"LaughsLastModel", "roundGoes", "()Z"⟩, 40) := ⟨⟨by decide +kernel, by decide +kernel⟩, List.mem_of_getElem? (i := 870) (by decide +kernel), List.mem_of_getElem? (i := 1239) (by decide +kernel), List.mem_of_getElem? (i := 1240) (by decide +kernel)⟩
theorem lw_p68 : lw_okq (⟨"LaughsLastModel", "findOrder", "(I)V"⟩, 40) := ⟨⟨by decide +kernel, by decide +kernel⟩, List.mem_of_getElem? (i := 870) (by decide +kernel), List.mem_of_getElem? (i := 1247) (by decide +kernel), List.mem_of_getElem? (i := 1248) (by decide +kernel)⟩
theorem lw_p69 : lw_okq (⟨"LaughsLastModel", "amongOf", "(I)I"⟩, 40) := ⟨⟨by decide +kernel, by decide +kernel⟩, List.mem_of_getElem? (i := 870) (by decide +kernel), List.mem_of_getElem? (i := 1258) (by decide +kernel), List.mem_of_getElem? (i := 1259) (by decide +kernel)⟩
theorem lw_p70 : lw_okq (⟨"LaughsLastModel", "lawForOf", "(I)I"⟩, 40) := ⟨⟨by decide +kernel, by decide +kernel⟩, List.mem_of_getElem? (i := 870) (by decide +kernel), List.mem_of_getElem? (i := 1275) (by decide +kernel), List.mem_of_getElem? (i := 1276) (by decide +kernel)⟩
theorem lw_p71 : lw_okq (⟨"LaughsLastModel", "edgeOf", "(I)I"⟩, 40) := ⟨⟨by decide +kernel, by decide +kernel⟩, List.mem_of_getElem? (i := 870) (by decide +kernel), List.mem_of_getElem? (i := 1283) (by decide +kernel), List.mem_of_getElem? (i := 1284) (by decide +kernel)⟩
theorem lw_p72 : lw_okq (⟨"LaughsLastModel", "earlyOf", "(II)J"⟩, 40) := ⟨⟨by decide +kernel, by decide +kernel⟩, List.mem_of_getElem? (i := 870) (by decide +kernel), List.mem_of_getElem? (i := 1295) (by decide +kernel), List.mem_of_getElem? (i := 1296) (by decide +kernel)⟩
theorem lw_p73 : lw_okq (⟨"LaughsLastModel", "allWeights", "()I"⟩, 40) := ⟨⟨by decide +kernel, by decide +kernel⟩, List.mem_of_getElem? (i := 870) (by decide +kernel), List.mem_of_getElem? (i := 1299) (by decide +kernel), List.mem_of_getElem? (i := 1300) (by decide +kernel)⟩
theorem lw_p74 : lw_okq (⟨"LaughsLastModel", "twoOf", "(I)J"⟩, 40) := ⟨⟨by decide +kernel, by decide +kernel⟩, List.mem_of_getElem? (i := 870) (by decide +kernel), List.mem_of_getElem? (i := 1307) (by decide +kernel), List.mem_of_getElem? (i := 1308) (by decide +kernel)⟩
theorem lw_p75 : lw_okq (⟨"LaughsLastModel", "evening", "()I"⟩, 40) := ⟨⟨by decide +kernel, by decide +kernel⟩, List.mem_of_getElem? (i := 870) (by decide +kernel), List.mem_of_getElem? (i := 1315) (by decide +kernel), List.mem_of_getElem? (i := 1316) (by decide +kernel)⟩
theorem lw_p76 : lw_okq (⟨"LaughsLastModel", "lot", "(I)I"⟩, 40) := ⟨⟨by decide +kernel, by decide +kernel⟩, List.mem_of_getElem? (i := 870) (by decide +kernel), List.mem_of_getElem? (i := 1319) (by decide +kernel), List.mem_of_getElem? (i := 1320) (by decide +kernel)⟩
theorem lw_p77 : lw_okq (⟨"LaughsLastModel", "eveningsOf", "(III)I"⟩, 40) := ⟨⟨by decide +kernel, by decide +kernel⟩, List.mem_of_getElem? (i := 870) (by decide +kernel), List.mem_of_getElem? (i := 1329) (by decide +kernel), List.mem_of_getElem? (i := 1330) (by decide +kernel)⟩
theorem lw_p78 : lw_okq (⟨"LaughsLastModel", "offOf", "(II)I"⟩, 40) := ⟨⟨by decide +kernel, by decide +kernel⟩, List.mem_of_getElem? (i := 870) (by decide +kernel), List.mem_of_getElem? (i := 1349) (by decide +kernel), List.mem_of_getElem? (i := 1350) (by decide +kernel)⟩
theorem lw_p79 : lw_okq (⟨"LaughsLastModel", "guessOf", "(I)I"⟩, 40) := ⟨⟨by decide +kernel, by decide +kernel⟩, List.mem_of_getElem? (i := 870) (by decide +kernel), List.mem_of_getElem? (i := 1357) (by decide +kernel), List.mem_of_getElem? (i := 1358) (by decide +kernel)⟩
def lw_privs_5 : List (MethodName × Nat) := [(⟨"LaughsLastModel", "findBest", "(I)V"⟩, 40), (⟨"LaughsLastModel", "restOf", "(II)I"⟩, 40), (⟨"LaughsLastModel", "rests", "()I"⟩, 40), (⟨"LaughsLastModel", "roundGoes", "()Z"⟩, 40), (⟨"LaughsLastModel", "findOrder", "(I)V"⟩, 40), (⟨"LaughsLastModel", "amongOf", "(I)I"⟩, 40), (⟨"LaughsLastModel", "lawForOf", "(I)I"⟩, 40), (⟨"LaughsLastModel", "edgeOf", "(I)I"⟩, 40), (⟨"LaughsLastModel", "earlyOf", "(II)J"⟩, 40), (⟨"LaughsLastModel", "allWeights", "()I"⟩, 40), (⟨"LaughsLastModel", "twoOf", "(I)J"⟩, 40), (⟨"LaughsLastModel", "evening", "()I"⟩, 40), (⟨"LaughsLastModel", "lot", "(I)I"⟩, 40), (⟨"LaughsLastModel", "eveningsOf", "(III)I"⟩, 40), (⟨"LaughsLastModel", "offOf", "(II)I"⟩, 40), (⟨"LaughsLastModel", "guessOf", "(I)I"⟩, 40)]
theorem lw_r5 : ∀ q ∈ lw_privs_5, lw_okq q := List.forall_mem_cons.mpr ⟨lw_p64, List.forall_mem_cons.mpr ⟨lw_p65, List.forall_mem_cons.mpr ⟨lw_p66, List.forall_mem_cons.mpr ⟨lw_p67, List.forall_mem_cons.mpr ⟨lw_p68, List.forall_mem_cons.mpr ⟨lw_p69, List.forall_mem_cons.mpr ⟨lw_p70, List.forall_mem_cons.mpr ⟨lw_p71, List.forall_mem_cons.mpr ⟨lw_p72, List.forall_mem_cons.mpr ⟨lw_p73, List.forall_mem_cons.mpr ⟨lw_p74, List.forall_mem_cons.mpr ⟨lw_p75, List.forall_mem_cons.mpr ⟨lw_p76, List.forall_mem_cons.mpr ⟨lw_p77, List.forall_mem_cons.mpr ⟨lw_p78, List.forall_mem_cons.mpr ⟨lw_p79, fun _ h => absurd h List.not_mem_nil⟩⟩⟩⟩⟩⟩⟩⟩⟩⟩⟩⟩⟩⟩⟩⟩
def lw_privs : List (MethodName × Nat) := lw_privs_1 ++ (lw_privs_2 ++ (lw_privs_3 ++ (lw_privs_4 ++ (lw_privs_5))))
def lw_tbl : List Cond := k2_sels lw_privs ++ tables_1
theorem lw_privs_ok : ∀ q ∈ lw_privs, lw_okq q := by
  show ∀ q ∈ lw_privs_1 ++ (lw_privs_2 ++ (lw_privs_3 ++ (lw_privs_4 ++ (lw_privs_5)))), lw_okq q
  exact List.forall_mem_append.mpr ⟨lw_r1, List.forall_mem_append.mpr ⟨lw_r2, List.forall_mem_append.mpr ⟨lw_r3, List.forall_mem_append.mpr ⟨lw_r4, lw_r5⟩⟩⟩⟩
end
section
def RX0 : String := "LaughsLast$Chances"
def TX0 : u_T := fun k => match k with
  | 0 => ("LaughsLast$Chances", "company", "LLaughsLast$Company;", true)
  | 1 => ("LaughsLast$Chances", "sets", "[J", true)
  | 2 => ("LaughsLast$Chances", "passes", "[J", true)
  | 3 => ("LaughsLast$Chances", "owed", "[J", true)
  | 4 => ("LaughsLast$Chances", "before", "[J", true)
  | 5 => ("LaughsLast$Chances", "open", "J", false)
  | _ => ("LaughsLast$Chances", "amounts", "[J", true)
def tyX0 : Nat → FieldType := fun k => match k with
  | 0 => .object "LaughsLast$Company"
  | 1 => .array .long
  | 2 => .array .long
  | 3 => .array .long
  | 4 => .array .long
  | 5 => .long
  | _ => .array .long
abbrev wsX00 : List Cond := u_ws RX0 TX0 7
theorem nmX0 : ∀ a, a < 7 → ∀ b, b < 7 → a ≠ b → (TX0 a).2.1 ≠ (TX0 b).2.1 := by decide +kernel
theorem tyX0_ok : ∀ k, k < 7 → parseFieldDescriptor (TX0 k).2.2.1 = some (tyX0 k) := by decide +kernel
abbrev cX0_init : ByteArray := prog_2_method_1_code
def yX0_init : MethodName := ⟨RX0, "<init>", "(LLaughsLast$Company;)V"⟩
abbrev cX0_owedInParts : ByteArray := prog_2_method_2_code
def yX0_owedInParts : MethodName := ⟨RX0, "owedInParts", "(II)J"⟩
abbrev cX0_owedWhole : ByteArray := prog_2_method_3_code
def yX0_owedWhole : MethodName := ⟨RX0, "owedWhole", "()J"⟩
abbrev cX0_costWhole : ByteArray := prog_2_method_4_code
def yX0_costWhole : MethodName := ⟨RX0, "costWhole", "()J"⟩
abbrev cX0_costOf : ByteArray := prog_2_method_5_code
def yX0_costOf : MethodName := ⟨RX0, "costOf", "(I)J"⟩
abbrev cX0_owedFrom : ByteArray := prog_2_method_6_code
def yX0_owedFrom : MethodName := ⟨RX0, "owedFrom", "(II)J"⟩
abbrev cX0_play : ByteArray := prog_2_method_7_code
def yX0_play : MethodName := ⟨RX0, "play", "()V"⟩
abbrev cX0_weighChoices : ByteArray := prog_2_method_8_code
def yX0_weighChoices : MethodName := ⟨RX0, "weighChoices", "(I)V"⟩
abbrev cX0_replay : ByteArray := prog_2_method_9_code
def yX0_replay : MethodName := ⟨RX0, "replay", "(I)V"⟩
abbrev cX0_split : ByteArray := prog_2_method_10_code
def yX0_split : MethodName := ⟨RX0, "split", "(I)V"⟩
abbrev cX0_spread : ByteArray := prog_2_method_11_code
def yX0_spread : MethodName := ⟨RX0, "spread", "(I)V"⟩
abbrev cX0_passOn : ByteArray := prog_2_method_12_code
def yX0_passOn : MethodName := ⟨RX0, "passOn", "(IIJ)V"⟩
abbrev cX0_begin : ByteArray := prog_2_method_13_code
def yX0_begin : MethodName := ⟨RX0, "begin", "()V"⟩
abbrev cX0_step : ByteArray := prog_2_method_14_code
def yX0_step : MethodName := ⟨RX0, "step", "(II)V"⟩
abbrev cX0_stepOn : ByteArray := prog_2_method_15_code
def yX0_stepOn : MethodName := ⟨RX0, "stepOn", "(II)V"⟩
abbrev cX0_stepOnce : ByteArray := prog_2_method_16_code
def yX0_stepOnce : MethodName := ⟨RX0, "stepOnce", "(II)V"⟩
abbrev cX0_halve : ByteArray := prog_2_method_17_code
def yX0_halve : MethodName := ⟨RX0, "halve", "(I)V"⟩
abbrev cX0_finish : ByteArray := prog_2_method_18_code
def yX0_finish : MethodName := ⟨RX0, "finish", "()V"⟩
def RX1 : String := "LaughsLast$Company"
def TX1 : u_T := fun k => match k with
  | 0 => ("LaughsLast$Company", "room", "LLaughsLast$Room;", true)
  | 1 => ("LaughsLast$Company", "holding", "[I", true)
  | 2 => ("LaughsLast$Company", "leaving", "[I", true)
  | 3 => ("LaughsLast$Company", "people", "I", false)
  | 4 => ("LaughsLast$Company", "tales", "I", false)
  | 5 => ("LaughsLast$Company", "law", "I", false)
  | 6 => ("LaughsLast$Company", "several", "I", false)
  | 7 => ("LaughsLast$Company", "owner", "I", false)
  | 8 => ("LaughsLast$Company", "away", "I", false)
  | 9 => ("LaughsLast$Company", "figures", "[I", true)
  | 10 => ("LaughsLast$Company", "funny", "[I", true)
  | 11 => ("LaughsLast$Company", "holds", "[I", true)
  | _ => ("LaughsLast$Company", "leaves", "[I", true)
def tyX1 : Nat → FieldType := fun k => match k with
  | 0 => .object "LaughsLast$Room"
  | 1 => .array .int
  | 2 => .array .int
  | 3 => .int
  | 4 => .int
  | 5 => .int
  | 6 => .int
  | 7 => .int
  | 8 => .int
  | 9 => .array .int
  | 10 => .array .int
  | 11 => .array .int
  | _ => .array .int
abbrev wsX10 : List Cond := u_ws RX1 TX1 13
theorem nmX1 : ∀ a, a < 13 → ∀ b, b < 13 → a ≠ b → (TX1 a).2.1 ≠ (TX1 b).2.1 := by decide +kernel
theorem tyX1_ok : ∀ k, k < 13 → parseFieldDescriptor (TX1 k).2.2.1 = some (tyX1 k) := by decide +kernel
abbrev cX1_init : ByteArray := prog_3_method_1_code
def yX1_init : MethodName := ⟨RX1, "<init>", "(LLaughsLast$Room;[I[I)V"⟩
abbrev cX1_gather : ByteArray := prog_3_method_2_code
def yX1_gather : MethodName := ⟨RX1, "gather", "()V"⟩
abbrev cX1_seatOneMore : ByteArray := prog_3_method_3_code
def yX1_seatOneMore : MethodName := ⟨RX1, "seatOneMore", "(I)V"⟩
abbrev cX1_isThere : ByteArray := prog_3_method_4_code
def yX1_isThere : MethodName := ⟨RX1, "isThere", "(II)Z"⟩
abbrev cX1_quartersAt : ByteArray := prog_3_method_5_code
def yX1_quartersAt : MethodName := ⟨RX1, "quartersAt", "(II)I"⟩
abbrev cX1_feesOf : ByteArray := prog_3_method_6_code
def yX1_feesOf : MethodName := ⟨RX1, "feesOf", "(I)I"⟩
def RX2 : String := "LaughsLast$Lots"
def TX2 : u_T := fun k => match k with
  | _ => ("LaughsLast$Lots", "seed", "I", false)
def tyX2 : Nat → FieldType := fun k => match k with
  | _ => .int
abbrev wsX20 : List Cond := u_ws RX2 TX2 1
theorem nmX2 : ∀ a, a < 1 → ∀ b, b < 1 → a ≠ b → (TX2 a).2.1 ≠ (TX2 b).2.1 := by decide +kernel
theorem tyX2_ok : ∀ k, k < 1 → parseFieldDescriptor (TX2 k).2.2.1 = some (tyX2 k) := by decide +kernel
abbrev cX2_init : ByteArray := prog_4_method_1_code
def yX2_init : MethodName := ⟨RX2, "<init>", "()V"⟩
abbrev cX2_endOfEvening : ByteArray := prog_4_method_2_code
def yX2_endOfEvening : MethodName := ⟨RX2, "endOfEvening", "(LLaughsLast$Company;)I"⟩
abbrev cX2_laughing : ByteArray := prog_4_method_3_code
def yX2_laughing : MethodName := ⟨RX2, "laughing", "(LLaughsLast$Company;I)I"⟩
abbrev cX2_takerOf : ByteArray := prog_4_method_4_code
def yX2_takerOf : MethodName := ⟨RX2, "takerOf", "(II)I"⟩
abbrev cX2_draw : ByteArray := prog_4_method_5_code
def yX2_draw : MethodName := ⟨RX2, "draw", "(I)I"⟩
def RX3 : String := "LaughsLast$Room"
def TX3 : u_T := fun k => match k with
  | 0 => ("LaughsLast$Room", "text", "[I", true)
  | 1 => ("LaughsLast$Room", "length", "I", false)
  | 2 => ("LaughsLast$Room", "faultAt", "I", false)
  | 3 => ("LaughsLast$Room", "people", "I", false)
  | 4 => ("LaughsLast$Room", "tales", "I", false)
  | 5 => ("LaughsLast$Room", "figures", "[I", true)
  | 6 => ("LaughsLast$Room", "funny", "[I", true)
  | 7 => ("LaughsLast$Room", "rules", "[I", true)
  | _ => ("LaughsLast$Room", "at", "I", false)
def tyX3 : Nat → FieldType := fun k => match k with
  | 0 => .array .int
  | 1 => .int
  | 2 => .int
  | 3 => .int
  | 4 => .int
  | 5 => .array .int
  | 6 => .array .int
  | 7 => .array .int
  | _ => .int
abbrev wsX30 : List Cond := u_ws RX3 TX3 9
theorem nmX3 : ∀ a, a < 9 → ∀ b, b < 9 → a ≠ b → (TX3 a).2.1 ≠ (TX3 b).2.1 := by decide +kernel
theorem tyX3_ok : ∀ k, k < 9 → parseFieldDescriptor (TX3 k).2.2.1 = some (tyX3 k) := by decide +kernel
abbrev cX3_init : ByteArray := prog_5_method_1_code
def yX3_init : MethodName := ⟨RX3, "<init>", "()V"⟩
abbrev cX3_append : ByteArray := prog_5_method_2_code
def yX3_append : MethodName := ⟨RX3, "append", "(I)Z"⟩
abbrev cX3_empty : ByteArray := prog_5_method_3_code
def yX3_empty : MethodName := ⟨RX3, "empty", "()V"⟩
abbrev cX3_funnyTogether : ByteArray := prog_5_method_4_code
def yX3_funnyTogether : MethodName := ⟨RX3, "funnyTogether", "()I"⟩
abbrev cX3_worthTogether : ByteArray := prog_5_method_5_code
def yX3_worthTogether : MethodName := ⟨RX3, "worthTogether", "()I"⟩
abbrev cX3_interpret : ByteArray := prog_5_method_6_code
def yX3_interpret : MethodName := ⟨RX3, "interpret", "()V"⟩
abbrev cX3_forget : ByteArray := prog_5_method_7_code
def yX3_forget : MethodName := ⟨RX3, "forget", "()V"⟩
abbrev cX3_readParts : ByteArray := prog_5_method_8_code
def yX3_readParts : MethodName := ⟨RX3, "readParts", "()Z"⟩
abbrev cX3_readPart : ByteArray := prog_5_method_9_code
def yX3_readPart : MethodName := ⟨RX3, "readPart", "()Z"⟩
abbrev cX3_readPerson : ByteArray := prog_5_method_10_code
def yX3_readPerson : MethodName := ⟨RX3, "readPerson", "()Z"⟩
abbrev cX3_readTale : ByteArray := prog_5_method_11_code
def yX3_readTale : MethodName := ⟨RX3, "readTale", "()Z"⟩
abbrev cX3_readRule : ByteArray := prog_5_method_12_code
def yX3_readRule : MethodName := ⟨RX3, "readRule", "(II)Z"⟩
abbrev cX3_sign : ByteArray := prog_5_method_13_code
def yX3_sign : MethodName := ⟨RX3, "sign", "()I"⟩
abbrev cX3_isFigure : ByteArray := prog_5_method_14_code
def yX3_isFigure : MethodName := ⟨RX3, "isFigure", "(I)Z"⟩
def RX4 : String := "LaughsLast$Search"
def TX4 : u_T := fun k => match k with
  | 0 => ("LaughsLast$Search", "company", "LLaughsLast$Company;", true)
  | 1 => ("LaughsLast$Search", "chances", "LLaughsLast$Chances;", true)
  | 2 => ("LaughsLast$Search", "bestCost", "J", false)
  | 3 => ("LaughsLast$Search", "bestHolds", "I", false)
  | 4 => ("LaughsLast$Search", "bestLeaves", "I", false)
  | 5 => ("LaughsLast$Search", "rounds", "I", false)
  | 6 => ("LaughsLast$Search", "restHolds", "[I", true)
  | 7 => ("LaughsLast$Search", "restLeaves", "[I", true)
  | 8 => ("LaughsLast$Search", "bestRow", "[I", true)
  | 9 => ("LaughsLast$Search", "row", "[I", true)
  | _ => ("LaughsLast$Search", "funnyNow", "[I", true)
def tyX4 : Nat → FieldType := fun k => match k with
  | 0 => .object "LaughsLast$Company"
  | 1 => .object "LaughsLast$Chances"
  | 2 => .long
  | 3 => .int
  | 4 => .int
  | 5 => .int
  | 6 => .array .int
  | 7 => .array .int
  | 8 => .array .int
  | 9 => .array .int
  | _ => .array .int
abbrev wsX40 : List Cond := u_ws RX4 TX4 11
theorem nmX4 : ∀ a, a < 11 → ∀ b, b < 11 → a ≠ b → (TX4 a).2.1 ≠ (TX4 b).2.1 := by decide +kernel
theorem tyX4_ok : ∀ k, k < 11 → parseFieldDescriptor (TX4 k).2.2.1 = some (tyX4 k) := by decide +kernel
abbrev cX4_init : ByteArray := prog_6_method_1_code
def yX4_init : MethodName := ⟨RX4, "<init>", "(LLaughsLast$Company;LLaughsLast$Chances;)V"⟩
abbrev cX4_findBest : ByteArray := prog_6_method_2_code
def yX4_findBest : MethodName := ⟨RX4, "findBest", "(I)V"⟩
abbrev cX4_compareWays : ByteArray := prog_6_method_3_code
def yX4_compareWays : MethodName := ⟨RX4, "compareWays", "(I)V"⟩
abbrev cX4_compareHolds : ByteArray := prog_6_method_4_code
def yX4_compareHolds : MethodName := ⟨RX4, "compareHolds", "(II)V"⟩
abbrev cX4_settle : ByteArray := prog_6_method_5_code
def yX4_settle : MethodName := ⟨RX4, "settle", "()V"⟩
abbrev cX4_roundChanges : ByteArray := prog_6_method_6_code
def yX4_roundChanges : MethodName := ⟨RX4, "roundChanges", "()Z"⟩
abbrev cX4_findOrder : ByteArray := prog_6_method_7_code
def yX4_findOrder : MethodName := ⟨RX4, "findOrder", "(I)V"⟩
abbrev cX4_setRow : ByteArray := prog_6_method_8_code
def yX4_setRow : MethodName := ⟨RX4, "setRow", "(I)Z"⟩
abbrev cX4_bestCompany : ByteArray := prog_6_method_9_code
def yX4_bestCompany : MethodName := ⟨RX4, "bestCompany", "(I)I"⟩
abbrev cX4_bestLaw : ByteArray := prog_6_method_10_code
def yX4_bestLaw : MethodName := ⟨RX4, "bestLaw", "(I)I"⟩
abbrev cX4_leastFunnyToLeave : ByteArray := prog_6_method_11_code
def yX4_leastFunnyToLeave : MethodName := ⟨RX4, "leastFunnyToLeave", "(I)I"⟩
def RX5 : String := "LaughsLast$Seen"
def TX5 : u_T := fun k => match k with
  | 0 => ("LaughsLast$Seen", "size", "I", false)
  | 1 => ("LaughsLast$Seen", "who", "[I", true)
  | 2 => ("LaughsLast$Seen", "funny", "[I", true)
  | 3 => ("LaughsLast$Seen", "mood", "[I", true)
  | 4 => ("LaughsLast$Seen", "held", "[I", true)
  | _ => ("LaughsLast$Seen", "laughed", "[I", true)
def tyX5 : Nat → FieldType := fun k => match k with
  | 0 => .int
  | 1 => .array .int
  | 2 => .array .int
  | 3 => .array .int
  | 4 => .array .int
  | _ => .array .int
abbrev wsX50 : List Cond := u_ws RX5 TX5 6
theorem nmX5 : ∀ a, a < 6 → ∀ b, b < 6 → a ≠ b → (TX5 a).2.1 ≠ (TX5 b).2.1 := by decide +kernel
theorem tyX5_ok : ∀ k, k < 6 → parseFieldDescriptor (TX5 k).2.2.1 = some (tyX5 k) := by decide +kernel
abbrev cX5_init : ByteArray := prog_7_method_1_code
def yX5_init : MethodName := ⟨RX5, "<init>", "()V"⟩
abbrev cX5_add : ByteArray := prog_7_method_2_code
def yX5_add : MethodName := ⟨RX5, "add", "(IIIII)Z"⟩
abbrev cX5_laughedTogether : ByteArray := prog_7_method_3_code
def yX5_laughedTogether : MethodName := ⟨RX5, "laughedTogether", "()I"⟩
abbrev cX5_offBy : ByteArray := prog_7_method_4_code
def yX5_offBy : MethodName := ⟨RX5, "offBy", "(II)I"⟩
abbrev cX5_likeliest : ByteArray := prog_7_method_5_code
def yX5_likeliest : MethodName := ⟨RX5, "likeliest", "(I)I"⟩
abbrev cX5_howMany : ByteArray := prog_7_method_6_code
def yX5_howMany : MethodName := ⟨RX5, "howMany", "(IIZ)I"⟩
abbrev cX5_wasSeen : ByteArray := prog_7_method_7_code
def yX5_wasSeen : MethodName := ⟨RX5, "wasSeen", "(I)Z"⟩
def RX6 : String := "LaughsLast$Share"
def TX6 : u_T := fun k => match k with
  | 0 => ("LaughsLast$Share", "above", "J", false)
  | _ => ("LaughsLast$Share", "below", "J", false)
def tyX6 : Nat → FieldType := fun k => match k with
  | 0 => .long
  | _ => .long
abbrev wsX60 : List Cond := u_ws RX6 TX6 2
theorem nmX6 : ∀ a, a < 2 → ∀ b, b < 2 → a ≠ b → (TX6 a).2.1 ≠ (TX6 b).2.1 := by decide +kernel
theorem tyX6_ok : ∀ k, k < 2 → parseFieldDescriptor (TX6 k).2.2.1 = some (tyX6 k) := by decide +kernel
abbrev cX6_init : ByteArray := prog_8_method_1_code
def yX6_init : MethodName := ⟨RX6, "<init>", "()V"⟩
abbrev cX6_put : ByteArray := prog_8_method_2_code
def yX6_put : MethodName := ⟨RX6, "put", "(JJ)LLaughsLast$Share;"⟩
abbrev cX6_part : ByteArray := prog_8_method_3_code
def yX6_part : MethodName := ⟨RX6, "part", "(I)J"⟩
abbrev cX6_mixedInto : ByteArray := prog_8_method_4_code
def yX6_mixedInto : MethodName := ⟨RX6, "mixedInto", "(J)J"⟩
abbrev cX6_commonDivisor : ByteArray := prog_8_method_5_code
def yX6_commonDivisor : MethodName := ⟨RX6, "commonDivisor", "(JJ)J"⟩
def RX7 : String := "LaughsLast$Sheets"
def TX7 : u_T := fun k => match k with
  | 0 => ("LaughsLast$Sheets", "finding", "I", false)
  | 1 => ("LaughsLast$Sheets", "sizes", "[I", true)
  | 2 => ("LaughsLast$Sheets", "forms", "[I", true)
  | _ => ("LaughsLast$Sheets", "items", "[I", true)
def tyX7 : Nat → FieldType := fun k => match k with
  | 0 => .int
  | 1 => .array .int
  | 2 => .array .int
  | _ => .array .int
abbrev wsX70 : List Cond := u_ws RX7 TX7 4
theorem nmX7 : ∀ a, a < 4 → ∀ b, b < 4 → a ≠ b → (TX7 a).2.1 ≠ (TX7 b).2.1 := by decide +kernel
theorem tyX7_ok : ∀ k, k < 4 → parseFieldDescriptor (TX7 k).2.2.1 = some (tyX7 k) := by decide +kernel
abbrev cX7_init : ByteArray := prog_9_method_1_code
def yX7_init : MethodName := ⟨RX7, "<init>", "()V"⟩
abbrev cX7_find : ByteArray := prog_9_method_2_code
def yX7_find : MethodName := ⟨RX7, "find", "(I)I"⟩
abbrev cX7_isLost : ByteArray := prog_9_method_3_code
def yX7_isLost : MethodName := ⟨RX7, "isLost", "(I)Z"⟩
abbrev cX7_renew : ByteArray := prog_9_method_4_code
def yX7_renew : MethodName := ⟨RX7, "renew", "(III)V"⟩
abbrev cX7_drop : ByteArray := prog_9_method_5_code
def yX7_drop : MethodName := ⟨RX7, "drop", "(I)I"⟩
abbrev cX7_lookUp : ByteArray := prog_9_method_6_code
def yX7_lookUp : MethodName := ⟨RX7, "lookUp", "(III)I"⟩
abbrev cX7_hasItems : ByteArray := prog_9_method_7_code
def yX7_hasItems : MethodName := ⟨RX7, "hasItems", "(III)Z"⟩
abbrev cX7_item : ByteArray := prog_9_method_8_code
def yX7_item : MethodName := ⟨RX7, "item", "(II)I"⟩
abbrev cX7_put : ByteArray := prog_9_method_9_code
def yX7_put : MethodName := ⟨RX7, "put", "(III)V"⟩
abbrev cX7_move : ByteArray := prog_9_method_10_code
def yX7_move : MethodName := ⟨RX7, "move", "(IIIII)V"⟩
abbrev cX7_cut : ByteArray := prog_9_method_11_code
def yX7_cut : MethodName := ⟨RX7, "cut", "(II)I"⟩
def RX8 : String := "LaughsLast"
def TX8 : u_T := fun k => match k with
  | 0 => ("LaughsLast", "room", "LLaughsLast$Room;", true)
  | 1 => ("LaughsLast", "holding", "[I", true)
  | 2 => ("LaughsLast", "leaving", "[I", true)
  | 3 => ("LaughsLast", "weights", "[I", true)
  | 4 => ("LaughsLast", "company", "LLaughsLast$Company;", true)
  | 5 => ("LaughsLast", "chances", "LLaughsLast$Chances;", true)
  | 6 => ("LaughsLast", "search", "LLaughsLast$Search;", true)
  | 7 => ("LaughsLast", "lots", "LLaughsLast$Lots;", true)
  | 8 => ("LaughsLast", "share", "LLaughsLast$Share;", true)
  | 9 => ("LaughsLast", "seen", "LLaughsLast$Seen;", true)
  | _ => ("LaughsLast", "sheets", "LLaughsLast$Sheets;", true)
def tyX8 : Nat → FieldType := fun k => match k with
  | 0 => .object "LaughsLast$Room"
  | 1 => .array .int
  | 2 => .array .int
  | 3 => .array .int
  | 4 => .object "LaughsLast$Company"
  | 5 => .object "LaughsLast$Chances"
  | 6 => .object "LaughsLast$Search"
  | 7 => .object "LaughsLast$Lots"
  | 8 => .object "LaughsLast$Share"
  | 9 => .object "LaughsLast$Seen"
  | _ => .object "LaughsLast$Sheets"
abbrev wsX80 : List Cond := u_ws RX8 TX8 11
theorem nmX8 : ∀ a, a < 11 → ∀ b, b < 11 → a ≠ b → (TX8 a).2.1 ≠ (TX8 b).2.1 := by decide +kernel
theorem tyX8_ok : ∀ k, k < 11 → parseFieldDescriptor (TX8 k).2.2.1 = some (tyX8 k) := by decide +kernel
abbrev cX8_init : ByteArray := prog_1_method_1_code
def yX8_init : MethodName := ⟨RX8, "<init>", "()V"⟩
abbrev cX8_type : ByteArray := prog_1_method_2_code
def yX8_type : MethodName := ⟨RX8, "type", "(I)I"⟩
abbrev cX8_wipe : ByteArray := prog_1_method_3_code
def yX8_wipe : MethodName := ⟨RX8, "wipe", "()I"⟩
abbrev cX8_fault : ByteArray := prog_1_method_4_code
def yX8_fault : MethodName := ⟨RX8, "fault", "()I"⟩
abbrev cX8_person : ByteArray := prog_1_method_5_code
def yX8_person : MethodName := ⟨RX8, "person", "(II)I"⟩
abbrev cX8_tale : ByteArray := prog_1_method_6_code
def yX8_tale : MethodName := ⟨RX8, "tale", "(I)I"⟩
abbrev cX8_law : ByteArray := prog_1_method_7_code
def yX8_law : MethodName := ⟨RX8, "law", "(I)I"⟩
abbrev cX8_holds : ByteArray := prog_1_method_8_code
def yX8_holds : MethodName := ⟨RX8, "holds", "(II)I"⟩
abbrev cX8_leaves : ByteArray := prog_1_method_9_code
def yX8_leaves : MethodName := ⟨RX8, "leaves", "(II)I"⟩
abbrev cX8_quarters : ByteArray := prog_1_method_10_code
def yX8_quarters : MethodName := ⟨RX8, "quarters", "(II)I"⟩
abbrev cX8_owes : ByteArray := prog_1_method_11_code
def yX8_owes : MethodName := ⟨RX8, "owes", "(III)J"⟩
abbrev cX8_amount : ByteArray := prog_1_method_12_code
def yX8_amount : MethodName := ⟨RX8, "amount", "(II)J"⟩
abbrev cX8_cost : ByteArray := prog_1_method_13_code
def yX8_cost : MethodName := ⟨RX8, "cost", "(II)J"⟩
abbrev cX8_best : ByteArray := prog_1_method_14_code
def yX8_best : MethodName := ⟨RX8, "best", "(II)J"⟩
abbrev cX8_rest : ByteArray := prog_1_method_15_code
def yX8_rest : MethodName := ⟨RX8, "rest", "(II)I"⟩
abbrev cX8_order : ByteArray := prog_1_method_16_code
def yX8_order : MethodName := ⟨RX8, "order", "(II)I"⟩
abbrev cX8_among : ByteArray := prog_1_method_17_code
def yX8_among : MethodName := ⟨RX8, "among", "(I)I"⟩
abbrev cX8_hire : ByteArray := prog_1_method_18_code
def yX8_hire : MethodName := ⟨RX8, "hire", "(III)J"⟩
abbrev cX8_other : ByteArray := prog_1_method_19_code
def yX8_other : MethodName := ⟨RX8, "other", "(IIII)J"⟩
abbrev cX8_lawFor : ByteArray := prog_1_method_20_code
def yX8_lawFor : MethodName := ⟨RX8, "lawFor", "(I)I"⟩
abbrev cX8_edge : ByteArray := prog_1_method_21_code
def yX8_edge : MethodName := ⟨RX8, "edge", "(I)I"⟩
abbrev cX8_weight : ByteArray := prog_1_method_22_code
def yX8_weight : MethodName := ⟨RX8, "weight", "(II)I"⟩
abbrev cX8_early : ByteArray := prog_1_method_23_code
def yX8_early : MethodName := ⟨RX8, "early", "(II)J"⟩
abbrev cX8_two : ByteArray := prog_1_method_24_code
def yX8_two : MethodName := ⟨RX8, "two", "(I)J"⟩
abbrev cX8_made : ByteArray := prog_1_method_25_code
def yX8_made : MethodName := ⟨RX8, "made", "(I)I"⟩
abbrev cX8_evenings : ByteArray := prog_1_method_26_code
def yX8_evenings : MethodName := ⟨RX8, "evenings", "(III)I"⟩
abbrev cX8_saw : ByteArray := prog_1_method_27_code
def yX8_saw : MethodName := ⟨RX8, "saw", "(IIIII)I"⟩
abbrev cX8_read : ByteArray := prog_1_method_28_code
def yX8_read : MethodName := ⟨RX8, "read", "(II)I"⟩
abbrev cX8_off : ByteArray := prog_1_method_29_code
def yX8_off : MethodName := ⟨RX8, "off", "(II)I"⟩
abbrev cX8_guess : ByteArray := prog_1_method_30_code
def yX8_guess : MethodName := ⟨RX8, "guess", "(I)I"⟩
abbrev cX8_laughs : ByteArray := prog_1_method_31_code
def yX8_laughs : MethodName := ⟨RX8, "laughs", "(III)I"⟩
abbrev cX8_sheet : ByteArray := prog_1_method_32_code
def yX8_sheet : MethodName := ⟨RX8, "sheet", "(III)I"⟩
abbrev cX8_lose : ByteArray := prog_1_method_33_code
def yX8_lose : MethodName := ⟨RX8, "lose", "(I)I"⟩
abbrev cX8_lay : ByteArray := prog_1_method_34_code
def yX8_lay : MethodName := ⟨RX8, "lay", "(IIII)I"⟩
abbrev cX8_get : ByteArray := prog_1_method_35_code
def yX8_get : MethodName := ⟨RX8, "get", "(III)I"⟩
abbrev cX8_copy : ByteArray := prog_1_method_36_code
def yX8_copy : MethodName := ⟨RX8, "copy", "(IIIII)I"⟩
abbrev cX8_write : ByteArray := prog_1_method_37_code
def yX8_write : MethodName := ⟨RX8, "write", "(II)I"⟩
abbrev cX8_count : ByteArray := prog_1_method_38_code
def yX8_count : MethodName := ⟨RX8, "count", "(I)I"⟩
abbrev cX8_digest : ByteArray := prog_1_method_39_code
def yX8_digest : MethodName := ⟨RX8, "digest", "()J"⟩
abbrev cX8_digestOfWhoOwes : ByteArray := prog_1_method_40_code
def yX8_digestOfWhoOwes : MethodName := ⟨RX8, "digestOfWhoOwes", "(IJ)J"⟩
abbrev cX8_digestOfSearches : ByteArray := prog_1_method_41_code
def yX8_digestOfSearches : MethodName := ⟨RX8, "digestOfSearches", "(IJ)J"⟩
abbrev cX8_digestOfStrokes : ByteArray := prog_1_method_42_code
def yX8_digestOfStrokes : MethodName := ⟨RX8, "digestOfStrokes", "(IJ)J"⟩
abbrev cX8_within : ByteArray := prog_1_method_43_code
def yX8_within : MethodName := ⟨RX8, "within", "(II)Z"⟩
abbrev cX8_isPerson : ByteArray := prog_1_method_44_code
def yX8_isPerson : MethodName := ⟨RX8, "isPerson", "(I)Z"⟩
abbrev cX8_isTale : ByteArray := prog_1_method_45_code
def yX8_isTale : MethodName := ⟨RX8, "isTale", "(I)Z"⟩
abbrev cX8_isPart : ByteArray := prog_1_method_46_code
def yX8_isPart : MethodName := ⟨RX8, "isPart", "(I)Z"⟩
abbrev cX8_isSheet : ByteArray := prog_1_method_47_code
def yX8_isSheet : MethodName := ⟨RX8, "isSheet", "(I)Z"⟩
abbrev cX8_isForm : ByteArray := prog_1_method_48_code
def yX8_isForm : MethodName := ⟨RX8, "isForm", "(I)Z"⟩
abbrev cX8_mayBeSeen : ByteArray := prog_1_method_49_code
def yX8_mayBeSeen : MethodName := ⟨RX8, "mayBeSeen", "(III)Z"⟩
abbrev cX8_asLong : ByteArray := prog_1_method_50_code
def yX8_asLong : MethodName := ⟨RX8, "asLong", "(I)J"⟩
abbrev cX8_hasBit : ByteArray := prog_1_method_51_code
def yX8_hasBit : MethodName := ⟨RX8, "hasBit", "(II)Z"⟩
abbrev cX8_quartersOf : ByteArray := prog_1_method_52_code
def yX8_quartersOf : MethodName := ⟨RX8, "quartersOf", "(IIIZ)I"⟩
abbrev cX8_shareOwed : ByteArray := prog_1_method_53_code
def yX8_shareOwed : MethodName := ⟨RX8, "shareOwed", "(II)LLaughsLast$Share;"⟩
abbrev cX8_shareOfDebt : ByteArray := prog_1_method_54_code
def yX8_shareOfDebt : MethodName := ⟨RX8, "shareOfDebt", "(I)LLaughsLast$Share;"⟩
abbrev cX8_shareOfCost : ByteArray := prog_1_method_55_code
def yX8_shareOfCost : MethodName := ⟨RX8, "shareOfCost", "(J)LLaughsLast$Share;"⟩
abbrev cX8_restTold : ByteArray := prog_1_method_56_code
def yX8_restTold : MethodName := ⟨RX8, "restTold", "(II)I"⟩
abbrev cX8_totalWeight : ByteArray := prog_1_method_57_code
def yX8_totalWeight : MethodName := ⟨RX8, "totalWeight", "()I"⟩
def RX9 : String := "LaughsLastModel"
def TX9 : u_T := fun k => match k with
  | 0 => ("LaughsLastModel", "forms", "[I", true)
  | 1 => ("LaughsLastModel", "sizes", "[I", true)
  | 2 => ("LaughsLastModel", "items", "[I", true)
  | 3 => ("LaughsLastModel", "moved", "[I", true)
  | 4 => ("LaughsLastModel", "latest", "I", false)
  | 5 => ("LaughsLastModel", "text", "[I", true)
  | 6 => ("LaughsLastModel", "typed", "I", false)
  | 7 => ("LaughsLastModel", "at", "I", false)
  | 8 => ("LaughsLastModel", "people", "I", false)
  | 9 => ("LaughsLastModel", "persons", "[I", true)
  | 10 => ("LaughsLastModel", "tales", "I", false)
  | 11 => ("LaughsLastModel", "funny", "[I", true)
  | 12 => ("LaughsLastModel", "laws", "[I", true)
  | 13 => ("LaughsLastModel", "hold", "[I", true)
  | 14 => ("LaughsLastModel", "leave", "[I", true)
  | 15 => ("LaughsLastModel", "nowHold", "[I", true)
  | 16 => ("LaughsLastModel", "nowLeave", "[I", true)
  | 17 => ("LaughsLastModel", "nowTicklish", "[I", true)
  | 18 => ("LaughsLastModel", "nowFunny", "[I", true)
  | 19 => ("LaughsLastModel", "nowLaw", "I", false)
  | 20 => ("LaughsLastModel", "nowSeveral", "I", false)
  | 21 => ("LaughsLastModel", "nowOwner", "I", false)
  | 22 => ("LaughsLastModel", "nowPeople", "I", false)
  | 23 => ("LaughsLastModel", "away", "I", false)
  | 24 => ("LaughsLastModel", "parts", "[J", true)
  | 25 => ("LaughsLastModel", "next", "[J", true)
  | 26 => ("LaughsLastModel", "bestHold", "I", false)
  | 27 => ("LaughsLastModel", "bestLeave", "I", false)
  | 28 => ("LaughsLastModel", "bestCost", "J", false)
  | 29 => ("LaughsLastModel", "row", "[I", true)
  | 30 => ("LaughsLastModel", "bestRow", "[I", true)
  | 31 => ("LaughsLastModel", "weights", "[I", true)
  | 32 => ("LaughsLastModel", "seedNow", "I", false)
  | 33 => ("LaughsLastModel", "sights", "I", false)
  | 34 => ("LaughsLastModel", "sawWho", "[I", true)
  | 35 => ("LaughsLastModel", "sawFunny", "[I", true)
  | 36 => ("LaughsLastModel", "sawMood", "[I", true)
  | 37 => ("LaughsLastModel", "sawHeld", "[Z", true)
  | 38 => ("LaughsLastModel", "sawLaughed", "[I", true)
  | _ => ("LaughsLastModel", "rested", "[I", true)
def tyX9 : Nat → FieldType := fun k => match k with
  | 0 => .array .int
  | 1 => .array .int
  | 2 => .array .int
  | 3 => .array .int
  | 4 => .int
  | 5 => .array .int
  | 6 => .int
  | 7 => .int
  | 8 => .int
  | 9 => .array .int
  | 10 => .int
  | 11 => .array .int
  | 12 => .array .int
  | 13 => .array .int
  | 14 => .array .int
  | 15 => .array .int
  | 16 => .array .int
  | 17 => .array .int
  | 18 => .array .int
  | 19 => .int
  | 20 => .int
  | 21 => .int
  | 22 => .int
  | 23 => .int
  | 24 => .array .long
  | 25 => .array .long
  | 26 => .int
  | 27 => .int
  | 28 => .long
  | 29 => .array .int
  | 30 => .array .int
  | 31 => .array .int
  | 32 => .int
  | 33 => .int
  | 34 => .array .int
  | 35 => .array .int
  | 36 => .array .int
  | 37 => .array .boolean
  | 38 => .array .int
  | _ => .array .int
abbrev wsX90 : List Cond := u_ws RX9 TX9 40
theorem nmX9 : ∀ a, a < 40 → ∀ b, b < 40 → a ≠ b → (TX9 a).2.1 ≠ (TX9 b).2.1 := by decide +kernel
theorem tyX9_ok : ∀ k, k < 40 → parseFieldDescriptor (TX9 k).2.2.1 = some (tyX9 k) := by decide +kernel
abbrev cX9_init : ByteArray := prog_11_method_1_code
def yX9_init : MethodName := ⟨RX9, "<init>", "()V"⟩
abbrev cX9_in : ByteArray := prog_11_method_3_code
def yX9_in : MethodName := ⟨RX9, "in", "(JJJ)Z"⟩
abbrev cX9_no : ByteArray := prog_11_method_4_code
def yX9_no : MethodName := ⟨RX9, "no", "(I)J"⟩
abbrev cX9_isTwo : ByteArray := prog_11_method_5_code
def yX9_isTwo : MethodName := ⟨RX9, "isTwo", "(I)Z"⟩
abbrev cX9_met : ByteArray := prog_11_method_6_code
def yX9_met : MethodName := ⟨RX9, "met", "(I)I"⟩
abbrev cX9_isSheet : ByteArray := prog_11_method_7_code
def yX9_isSheet : MethodName := ⟨RX9, "isSheet", "(I)Z"⟩
abbrev cX9_sheet : ByteArray := prog_11_method_8_code
def yX9_sheet : MethodName := ⟨RX9, "sheet", "(III)I"⟩
abbrev cX9_lose : ByteArray := prog_11_method_9_code
def yX9_lose : MethodName := ⟨RX9, "lose", "(I)I"⟩
abbrev cX9_lacks : ByteArray := prog_11_method_10_code
def yX9_lacks : MethodName := ⟨RX9, "lacks", "(III)I"⟩
abbrev cX9_cut : ByteArray := prog_11_method_11_code
def yX9_cut : MethodName := ⟨RX9, "cut", "(II)I"⟩
abbrev cX9_lay : ByteArray := prog_11_method_12_code
def yX9_lay : MethodName := ⟨RX9, "lay", "(IIII)I"⟩
abbrev cX9_get : ByteArray := prog_11_method_13_code
def yX9_get : MethodName := ⟨RX9, "get", "(III)I"⟩
abbrev cX9_copy : ByteArray := prog_11_method_14_code
def yX9_copy : MethodName := ⟨RX9, "copy", "(IIIII)I"⟩
abbrev cX9_type : ByteArray := prog_11_method_15_code
def yX9_type : MethodName := ⟨RX9, "type", "(I)I"⟩
abbrev cX9_wipe : ByteArray := prog_11_method_16_code
def yX9_wipe : MethodName := ⟨RX9, "wipe", "()I"⟩
abbrev cX9_here : ByteArray := prog_11_method_17_code
def yX9_here : MethodName := ⟨RX9, "here", "()I"⟩
abbrev cX9_clears : ByteArray := prog_11_method_18_code
def yX9_clears : MethodName := ⟨RX9, "clears", "()V"⟩
abbrev cX9_figure : ByteArray := prog_11_method_19_code
def yX9_figure : MethodName := ⟨RX9, "figure", "(I)I"⟩
abbrev cX9_readsPerson : ByteArray := prog_11_method_20_code
def yX9_readsPerson : MethodName := ⟨RX9, "readsPerson", "()Z"⟩
abbrev cX9_readsTale : ByteArray := prog_11_method_21_code
def yX9_readsTale : MethodName := ⟨RX9, "readsTale", "()Z"⟩
abbrev cX9_readsLaw : ByteArray := prog_11_method_22_code
def yX9_readsLaw : MethodName := ⟨RX9, "readsLaw", "(I)Z"⟩
abbrev cX9_readsPart : ByteArray := prog_11_method_23_code
def yX9_readsPart : MethodName := ⟨RX9, "readsPart", "()Z"⟩
abbrev cX9_reads : ByteArray := prog_11_method_24_code
def yX9_reads : MethodName := ⟨RX9, "reads", "()I"⟩
abbrev cX9_fault : ByteArray := prog_11_method_25_code
def yX9_fault : MethodName := ⟨RX9, "fault", "()I"⟩
abbrev cX9_isPerson : ByteArray := prog_11_method_26_code
def yX9_isPerson : MethodName := ⟨RX9, "isPerson", "(I)Z"⟩
abbrev cX9_isAnyone : ByteArray := prog_11_method_27_code
def yX9_isAnyone : MethodName := ⟨RX9, "isAnyone", "(I)Z"⟩
abbrev cX9_person : ByteArray := prog_11_method_28_code
def yX9_person : MethodName := ⟨RX9, "person", "(II)I"⟩
abbrev cX9_tale : ByteArray := prog_11_method_29_code
def yX9_tale : MethodName := ⟨RX9, "tale", "(I)I"⟩
abbrev cX9_lawNow : ByteArray := prog_11_method_30_code
def yX9_lawNow : MethodName := ⟨RX9, "lawNow", "(I)I"⟩
abbrev cX9_law : ByteArray := prog_11_method_31_code
def yX9_law : MethodName := ⟨RX9, "law", "(I)I"⟩
abbrev cX9_holds : ByteArray := prog_11_method_32_code
def yX9_holds : MethodName := ⟨RX9, "holds", "(II)I"⟩
abbrev cX9_leaves : ByteArray := prog_11_method_33_code
def yX9_leaves : MethodName := ⟨RX9, "leaves", "(II)I"⟩
abbrev cX9_tries : ByteArray := prog_11_method_34_code
def yX9_tries : MethodName := ⟨RX9, "tries", "()V"⟩
abbrev cX9_quartersBy : ByteArray := prog_11_method_35_code
def yX9_quartersBy : MethodName := ⟨RX9, "quartersBy", "(IIIZ)I"⟩
abbrev cX9_isThere : ByteArray := prog_11_method_36_code
def yX9_isThere : MethodName := ⟨RX9, "isThere", "(II)Z"⟩
abbrev cX9_quartersNow : ByteArray := prog_11_method_37_code
def yX9_quartersNow : MethodName := ⟨RX9, "quartersNow", "(II)I"⟩
abbrev cX9_quartersOf : ByteArray := prog_11_method_38_code
def yX9_quartersOf : MethodName := ⟨RX9, "quartersOf", "(II)I"⟩
abbrev cX9_quarters : ByteArray := prog_11_method_39_code
def yX9_quarters : MethodName := ⟨RX9, "quarters", "(II)I"⟩
abbrev cX9_ones : ByteArray := prog_11_method_40_code
def yX9_ones : MethodName := ⟨RX9, "ones", "(I)I"⟩
abbrev cX9_comes : ByteArray := prog_11_method_41_code
def yX9_comes : MethodName := ⟨RX9, "comes", "(IIJ)V"⟩
abbrev cX9_laugh : ByteArray := prog_11_method_42_code
def yX9_laugh : MethodName := ⟨RX9, "laugh", "(IIJ)V"⟩
abbrev cX9_tells : ByteArray := prog_11_method_43_code
def yX9_tells : MethodName := ⟨RX9, "tells", "(I)V"⟩
abbrev cX9_goes : ByteArray := prog_11_method_44_code
def yX9_goes : MethodName := ⟨RX9, "goes", "(I)V"⟩
abbrev cX9_whole : ByteArray := prog_11_method_45_code
def yX9_whole : MethodName := ⟨RX9, "whole", "(I)J"⟩
abbrev cX9_partsOf : ByteArray := prog_11_method_46_code
def yX9_partsOf : MethodName := ⟨RX9, "partsOf", "(I)J"⟩
abbrev cX9_amountNow : ByteArray := prog_11_method_47_code
def yX9_amountNow : MethodName := ⟨RX9, "amountNow", "(I)J"⟩
abbrev cX9_all : ByteArray := prog_11_method_48_code
def yX9_all : MethodName := ⟨RX9, "all", "()J"⟩
abbrev cX9_costNow : ByteArray := prog_11_method_49_code
def yX9_costNow : MethodName := ⟨RX9, "costNow", "(I)J"⟩
abbrev cX9_part : ByteArray := prog_11_method_50_code
def yX9_part : MethodName := ⟨RX9, "part", "(JJI)J"⟩
abbrev cX9_owesOf : ByteArray := prog_11_method_51_code
def yX9_owesOf : MethodName := ⟨RX9, "owesOf", "(III)J"⟩
abbrev cX9_owes : ByteArray := prog_11_method_52_code
def yX9_owes : MethodName := ⟨RX9, "owes", "(III)J"⟩
abbrev cX9_amountOf : ByteArray := prog_11_method_53_code
def yX9_amountOf : MethodName := ⟨RX9, "amountOf", "(II)J"⟩
abbrev cX9_amount : ByteArray := prog_11_method_54_code
def yX9_amount : MethodName := ⟨RX9, "amount", "(II)J"⟩
abbrev cX9_costOf : ByteArray := prog_11_method_55_code
def yX9_costOf : MethodName := ⟨RX9, "costOf", "(II)J"⟩
abbrev cX9_cost : ByteArray := prog_11_method_56_code
def yX9_cost : MethodName := ⟨RX9, "cost", "(II)J"⟩
abbrev cX9_findBest : ByteArray := prog_11_method_57_code
def yX9_findBest : MethodName := ⟨RX9, "findBest", "(I)V"⟩
abbrev cX9_bestOf : ByteArray := prog_11_method_58_code
def yX9_bestOf : MethodName := ⟨RX9, "bestOf", "(II)J"⟩
abbrev cX9_best : ByteArray := prog_11_method_59_code
def yX9_best : MethodName := ⟨RX9, "best", "(II)J"⟩
abbrev cX9_roundGoes : ByteArray := prog_11_method_60_code
def yX9_roundGoes : MethodName := ⟨RX9, "roundGoes", "()Z"⟩
abbrev cX9_rests : ByteArray := prog_11_method_61_code
def yX9_rests : MethodName := ⟨RX9, "rests", "()I"⟩
abbrev cX9_restOf : ByteArray := prog_11_method_62_code
def yX9_restOf : MethodName := ⟨RX9, "restOf", "(II)I"⟩
abbrev cX9_rest : ByteArray := prog_11_method_63_code
def yX9_rest : MethodName := ⟨RX9, "rest", "(II)I"⟩
abbrev cX9_power : ByteArray := prog_11_method_64_code
def yX9_power : MethodName := ⟨RX9, "power", "(II)I"⟩
abbrev cX9_findOrder : ByteArray := prog_11_method_65_code
def yX9_findOrder : MethodName := ⟨RX9, "findOrder", "(I)V"⟩
abbrev cX9_order : ByteArray := prog_11_method_66_code
def yX9_order : MethodName := ⟨RX9, "order", "(II)I"⟩
abbrev cX9_amongOf : ByteArray := prog_11_method_67_code
def yX9_amongOf : MethodName := ⟨RX9, "amongOf", "(I)I"⟩
abbrev cX9_among : ByteArray := prog_11_method_68_code
def yX9_among : MethodName := ⟨RX9, "among", "(I)I"⟩
abbrev cX9_hire : ByteArray := prog_11_method_69_code
def yX9_hire : MethodName := ⟨RX9, "hire", "(III)J"⟩
abbrev cX9_other : ByteArray := prog_11_method_70_code
def yX9_other : MethodName := ⟨RX9, "other", "(IIII)J"⟩
abbrev cX9_lawForOf : ByteArray := prog_11_method_71_code
def yX9_lawForOf : MethodName := ⟨RX9, "lawForOf", "(I)I"⟩
abbrev cX9_lawFor : ByteArray := prog_11_method_72_code
def yX9_lawFor : MethodName := ⟨RX9, "lawFor", "(I)I"⟩
abbrev cX9_edgeOf : ByteArray := prog_11_method_73_code
def yX9_edgeOf : MethodName := ⟨RX9, "edgeOf", "(I)I"⟩
abbrev cX9_edge : ByteArray := prog_11_method_74_code
def yX9_edge : MethodName := ⟨RX9, "edge", "(I)I"⟩
abbrev cX9_weight : ByteArray := prog_11_method_75_code
def yX9_weight : MethodName := ⟨RX9, "weight", "(II)I"⟩
abbrev cX9_allWeights : ByteArray := prog_11_method_76_code
def yX9_allWeights : MethodName := ⟨RX9, "allWeights", "()I"⟩
abbrev cX9_earlyOf : ByteArray := prog_11_method_77_code
def yX9_earlyOf : MethodName := ⟨RX9, "earlyOf", "(II)J"⟩
abbrev cX9_early : ByteArray := prog_11_method_78_code
def yX9_early : MethodName := ⟨RX9, "early", "(II)J"⟩
abbrev cX9_twoOf : ByteArray := prog_11_method_79_code
def yX9_twoOf : MethodName := ⟨RX9, "twoOf", "(I)J"⟩
abbrev cX9_two : ByteArray := prog_11_method_80_code
def yX9_two : MethodName := ⟨RX9, "two", "(I)J"⟩
abbrev cX9_lot : ByteArray := prog_11_method_81_code
def yX9_lot : MethodName := ⟨RX9, "lot", "(I)I"⟩
abbrev cX9_evening : ByteArray := prog_11_method_82_code
def yX9_evening : MethodName := ⟨RX9, "evening", "()I"⟩
abbrev cX9_made : ByteArray := prog_11_method_83_code
def yX9_made : MethodName := ⟨RX9, "made", "(I)I"⟩
abbrev cX9_eveningsOf : ByteArray := prog_11_method_84_code
def yX9_eveningsOf : MethodName := ⟨RX9, "eveningsOf", "(III)I"⟩
abbrev cX9_evenings : ByteArray := prog_11_method_85_code
def yX9_evenings : MethodName := ⟨RX9, "evenings", "(III)I"⟩
abbrev cX9_saw : ByteArray := prog_11_method_86_code
def yX9_saw : MethodName := ⟨RX9, "saw", "(IIIII)I"⟩
abbrev cX9_read : ByteArray := prog_11_method_87_code
def yX9_read : MethodName := ⟨RX9, "read", "(II)I"⟩
abbrev cX9_isTicklish : ByteArray := prog_11_method_88_code
def yX9_isTicklish : MethodName := ⟨RX9, "isTicklish", "(I)Z"⟩
abbrev cX9_offOf : ByteArray := prog_11_method_89_code
def yX9_offOf : MethodName := ⟨RX9, "offOf", "(II)I"⟩
abbrev cX9_off : ByteArray := prog_11_method_90_code
def yX9_off : MethodName := ⟨RX9, "off", "(II)I"⟩
abbrev cX9_guessOf : ByteArray := prog_11_method_91_code
def yX9_guessOf : MethodName := ⟨RX9, "guessOf", "(I)I"⟩
abbrev cX9_guess : ByteArray := prog_11_method_92_code
def yX9_guess : MethodName := ⟨RX9, "guess", "(I)I"⟩
abbrev cX9_laughs : ByteArray := prog_11_method_93_code
def yX9_laughs : MethodName := ⟨RX9, "laughs", "(III)I"⟩
abbrev cX9_write : ByteArray := prog_11_method_94_code
def yX9_write : MethodName := ⟨RX9, "write", "(II)I"⟩
abbrev cX9_count : ByteArray := prog_11_method_95_code
def yX9_count : MethodName := ⟨RX9, "count", "(I)I"⟩
abbrev cX9_digest : ByteArray := prog_11_method_96_code
def yX9_digest : MethodName := ⟨RX9, "digest", "()J"⟩
def RJ6 : String := "java/lang/Integer"
def TJ6 : u_T := fun k => match k with
  | _ => ("", "", "", false)
def tyJ6 : Nat → FieldType := fun k => match k with
  | _ => .int
abbrev wsJ60 : List Cond := u_ws RJ6 TJ6 0
theorem nmJ6 : ∀ a, a < 0 → ∀ b, b < 0 → a ≠ b → (TJ6 a).2.1 ≠ (TJ6 b).2.1 := by decide +kernel
theorem tyJ6_ok : ∀ k, k < 0 → parseFieldDescriptor (TJ6 k).2.2.1 = some (tyJ6 k) := by decide +kernel
abbrev cJ6_bitCount_0f7a4 : ByteArray := prog_12_method_49_code
def yJ6_bitCount_0f7a4 : MethodName := ⟨RJ6, "bitCount", "(I)I"⟩
def RJ9 : String := "java/lang/Math"
def TJ9 : u_T := fun k => match k with
  | _ => ("", "", "", false)
def tyJ9 : Nat → FieldType := fun k => match k with
  | _ => .int
abbrev wsJ90 : List Cond := u_ws RJ9 TJ9 0
theorem nmJ9 : ∀ a, a < 0 → ∀ b, b < 0 → a ≠ b → (TJ9 a).2.1 ≠ (TJ9 b).2.1 := by decide +kernel
theorem tyJ9_ok : ∀ k, k < 0 → parseFieldDescriptor (TJ9 k).2.2.1 = some (tyJ9 k) := by decide +kernel
abbrev cJ9_abs_067f4 : ByteArray := prog_13_method_61_code
def yJ9_abs_067f4 : MethodName := ⟨RJ9, "abs", "(J)J"⟩
abbrev cJ9_min_7cf53 : ByteArray := prog_13_method_69_code
def yJ9_min_7cf53 : MethodName := ⟨RJ9, "min", "(II)I"⟩
def RJ10 : String := "java/lang/System"
def TJ10 : u_T := fun k => match k with
  | _ => ("", "", "", false)
def tyJ10 : Nat → FieldType := fun k => match k with
  | _ => .int
abbrev wsJ100 : List Cond := u_ws RJ10 TJ10 0
theorem nmJ10 : ∀ a, a < 0 → ∀ b, b < 0 → a ≠ b → (TJ10 a).2.1 ≠ (TJ10 b).2.1 := by decide +kernel
theorem tyJ10_ok : ∀ k, k < 0 → parseFieldDescriptor (TJ10 k).2.2.1 = some (tyJ10 k) := by decide +kernel
def RL : String := "LaughsLastLaw"
abbrev cL_law : ByteArray := code
def yL_law : MethodName := ⟨RL, "law", "([I)Z"⟩
end
section
theorem dX0_init_0 : decode cX0_init 0 = .ok (.aload_n 0, 1) := by decide +kernel
theorem dX0_init_1 : decode cX0_init 1 = .ok (.invokespecial 3, 3) := by decide +kernel
theorem dX0_init_4 : decode cX0_init 4 = .ok (.aload_n 0, 1) := by decide +kernel
theorem dX0_init_5 : decode cX0_init 5 = .ok (.bipush 16, 2) := by decide +kernel
theorem dX0_init_7 : decode cX0_init 7 = .ok (.newarray .long, 2) := by decide +kernel
theorem dX0_init_9 : decode cX0_init 9 = .ok (.putfield 9, 3) := by decide +kernel
theorem dX0_init_12 : decode cX0_init 12 = .ok (.aload_n 0, 1) := by decide +kernel
theorem dX0_init_13 : decode cX0_init 13 = .ok (.bipush 60, 2) := by decide +kernel
theorem dX0_init_15 : decode cX0_init 15 = .ok (.newarray .long, 2) := by decide +kernel
theorem dX0_init_17 : decode cX0_init 17 = .ok (.putfield 15, 3) := by decide +kernel
theorem dX0_init_20 : decode cX0_init 20 = .ok (.aload_n 0, 1) := by decide +kernel
theorem dX0_init_21 : decode cX0_init 21 = .ok (.bipush 20, 2) := by decide +kernel
theorem dX0_init_23 : decode cX0_init 23 = .ok (.newarray .long, 2) := by decide +kernel
theorem dX0_init_25 : decode cX0_init 25 = .ok (.putfield 18, 3) := by decide +kernel
theorem dX0_init_28 : decode cX0_init 28 = .ok (.aload_n 0, 1) := by decide +kernel
theorem dX0_init_29 : decode cX0_init 29 = .ok (.iconst 4, 1) := by decide +kernel
theorem dX0_init_30 : decode cX0_init 30 = .ok (.newarray .long, 2) := by decide +kernel
theorem dX0_init_32 : decode cX0_init 32 = .ok (.putfield 21, 3) := by decide +kernel
theorem dX0_init_35 : decode cX0_init 35 = .ok (.aload_n 0, 1) := by decide +kernel
theorem dX0_init_36 : decode cX0_init 36 = .ok (.iconst 4, 1) := by decide +kernel
theorem dX0_init_37 : decode cX0_init 37 = .ok (.newarray .long, 2) := by decide +kernel
theorem dX0_init_39 : decode cX0_init 39 = .ok (.putfield 24, 3) := by decide +kernel
theorem dX0_init_42 : decode cX0_init 42 = .ok (.aload_n 0, 1) := by decide +kernel
theorem dX0_init_43 : decode cX0_init 43 = .ok (.aload_n 1, 1) := by decide +kernel
theorem dX0_init_44 : decode cX0_init 44 = .ok (.putfield 27, 3) := by decide +kernel
theorem dX0_init_47 : decode cX0_init 47 = .ok (.return_, 1) := by decide +kernel
theorem dX0_owedInParts_0 : decode cX0_owedInParts 0 = .ok (.aload_n 0, 1) := by decide +kernel
theorem dX0_owedInParts_1 : decode cX0_owedInParts 1 = .ok (.getfield 18, 3) := by decide +kernel
theorem dX0_owedInParts_4 : decode cX0_owedInParts 4 = .ok (.iconst 4, 1) := by decide +kernel
theorem dX0_owedInParts_5 : decode cX0_owedInParts 5 = .ok (.iload_n 2, 1) := by decide +kernel
theorem dX0_owedInParts_6 : decode cX0_owedInParts 6 = .ok (.imul, 1) := by decide +kernel
theorem dX0_owedInParts_7 : decode cX0_owedInParts 7 = .ok (.iload_n 1, 1) := by decide +kernel
theorem dX0_owedInParts_8 : decode cX0_owedInParts 8 = .ok (.iadd, 1) := by decide +kernel
theorem dX0_owedInParts_9 : decode cX0_owedInParts 9 = .ok (.laload, 1) := by decide +kernel
theorem dX0_owedInParts_10 : decode cX0_owedInParts 10 = .ok (.getstatic 31, 3) := by decide +kernel
theorem dX0_owedInParts_13 : decode cX0_owedInParts 13 = .ok (.aload_n 0, 1) := by decide +kernel
theorem dX0_owedInParts_14 : decode cX0_owedInParts 14 = .ok (.getfield 27, 3) := by decide +kernel
theorem dX0_owedInParts_17 : decode cX0_owedInParts 17 = .ok (.getfield 34, 3) := by decide +kernel
theorem dX0_owedInParts_20 : decode cX0_owedInParts 20 = .ok (.iload_n 2, 1) := by decide +kernel
theorem dX0_owedInParts_21 : decode cX0_owedInParts 21 = .ok (.isub, 1) := by decide +kernel
theorem dX0_owedInParts_22 : decode cX0_owedInParts 22 = .ok (.laload, 1) := by decide +kernel
theorem dX0_owedInParts_23 : decode cX0_owedInParts 23 = .ok (.lmul, 1) := by decide +kernel
theorem dX0_owedInParts_24 : decode cX0_owedInParts 24 = .ok (.lreturn, 1) := by decide +kernel
theorem dX0_owedWhole_0 : decode cX0_owedWhole 0 = .ok (.getstatic 31, 3) := by decide +kernel
theorem dX0_owedWhole_3 : decode cX0_owedWhole 3 = .ok (.aload_n 0, 1) := by decide +kernel
theorem dX0_owedWhole_4 : decode cX0_owedWhole 4 = .ok (.getfield 27, 3) := by decide +kernel
theorem dX0_owedWhole_7 : decode cX0_owedWhole 7 = .ok (.getfield 34, 3) := by decide +kernel
theorem dX0_owedWhole_10 : decode cX0_owedWhole 10 = .ok (.laload, 1) := by decide +kernel
theorem dX0_owedWhole_11 : decode cX0_owedWhole 11 = .ok (.lreturn, 1) := by decide +kernel
theorem dX0_costWhole_0 : decode cX0_costWhole 0 = .ok (.getstatic 40, 3) := by decide +kernel
theorem dX0_costWhole_3 : decode cX0_costWhole 3 = .ok (.aload_n 0, 1) := by decide +kernel
theorem dX0_costWhole_4 : decode cX0_costWhole 4 = .ok (.getfield 27, 3) := by decide +kernel
theorem dX0_costWhole_7 : decode cX0_costWhole 7 = .ok (.getfield 34, 3) := by decide +kernel
theorem dX0_costWhole_10 : decode cX0_costWhole 10 = .ok (.laload, 1) := by decide +kernel
theorem dX0_costWhole_11 : decode cX0_costWhole 11 = .ok (.lreturn, 1) := by decide +kernel
theorem dX0_costOf_0 : decode cX0_costOf 0 = .ok (.aload_n 0, 1) := by decide +kernel
theorem dX0_costOf_1 : decode cX0_costOf 1 = .ok (.getfield 27, 3) := by decide +kernel
theorem dX0_costOf_4 : decode cX0_costOf 4 = .ok (.getfield 43, 3) := by decide +kernel
theorem dX0_costOf_7 : decode cX0_costOf 7 = .ok (.iconst 4, 1) := by decide +kernel
theorem dX0_costOf_8 : decode cX0_costOf 8 = .ok (.iload_n 1, 1) := by decide +kernel
theorem dX0_costOf_9 : decode cX0_costOf 9 = .ok (.imul, 1) := by decide +kernel
theorem dX0_costOf_10 : decode cX0_costOf 10 = .ok (.iconst 3, 1) := by decide +kernel
theorem dX0_costOf_11 : decode cX0_costOf 11 = .ok (.iadd, 1) := by decide +kernel
theorem dX0_costOf_12 : decode cX0_costOf 12 = .ok (.iaload, 1) := by decide +kernel
theorem dX0_costOf_13 : decode cX0_costOf 13 = .ok (.i2l, 1) := by decide +kernel
theorem dX0_costOf_14 : decode cX0_costOf 14 = .ok (.aload_n 0, 1) := by decide +kernel
theorem dX0_costOf_15 : decode cX0_costOf 15 = .ok (.getfield 24, 3) := by decide +kernel
theorem dX0_costOf_18 : decode cX0_costOf 18 = .ok (.iload_n 1, 1) := by decide +kernel
theorem dX0_costOf_19 : decode cX0_costOf 19 = .ok (.laload, 1) := by decide +kernel
theorem dX0_costOf_20 : decode cX0_costOf 20 = .ok (.lmul, 1) := by decide +kernel
theorem dX0_costOf_21 : decode cX0_costOf 21 = .ok (.aload_n 0, 1) := by decide +kernel
theorem dX0_costOf_22 : decode cX0_costOf 22 = .ok (.getfield 27, 3) := by decide +kernel
theorem dX0_costOf_25 : decode cX0_costOf 25 = .ok (.iload_n 1, 1) := by decide +kernel
theorem dX0_costOf_26 : decode cX0_costOf 26 = .ok (.invokevirtual 47, 3) := by decide +kernel
theorem dX0_costOf_29 : decode cX0_costOf 29 = .ok (.i2l, 1) := by decide +kernel
theorem dX0_costOf_30 : decode cX0_costOf 30 = .ok (.aload_n 0, 1) := by decide +kernel
theorem dX0_costOf_31 : decode cX0_costOf 31 = .ok (.invokevirtual 51, 3) := by decide +kernel
theorem dX0_costOf_34 : decode cX0_costOf 34 = .ok (.lmul, 1) := by decide +kernel
theorem dX0_costOf_35 : decode cX0_costOf 35 = .ok (.ladd, 1) := by decide +kernel
theorem dX0_costOf_36 : decode cX0_costOf 36 = .ok (.lreturn, 1) := by decide +kernel
theorem dX0_owedFrom_0 : decode cX0_owedFrom 0 = .ok (.aload_n 0, 1) := by decide +kernel
theorem dX0_owedFrom_1 : decode cX0_owedFrom 1 = .ok (.getfield 27, 3) := by decide +kernel
theorem dX0_owedFrom_4 : decode cX0_owedFrom 4 = .ok (.iload_n 1, 1) := by decide +kernel
theorem dX0_owedFrom_5 : decode cX0_owedFrom 5 = .ok (.putfield 55, 3) := by decide +kernel
theorem dX0_owedFrom_8 : decode cX0_owedFrom 8 = .ok (.aload_n 0, 1) := by decide +kernel
theorem dX0_owedFrom_9 : decode cX0_owedFrom 9 = .ok (.invokevirtual 58, 3) := by decide +kernel
theorem dX0_owedFrom_12 : decode cX0_owedFrom 12 = .ok (.aload_n 0, 1) := by decide +kernel
theorem dX0_owedFrom_13 : decode cX0_owedFrom 13 = .ok (.getfield 18, 3) := by decide +kernel
theorem dX0_owedFrom_16 : decode cX0_owedFrom 16 = .ok (.iconst 4, 1) := by decide +kernel
theorem dX0_owedFrom_17 : decode cX0_owedFrom 17 = .ok (.aload_n 0, 1) := by decide +kernel
theorem dX0_owedFrom_18 : decode cX0_owedFrom 18 = .ok (.getfield 27, 3) := by decide +kernel
theorem dX0_owedFrom_21 : decode cX0_owedFrom 21 = .ok (.getfield 34, 3) := by decide +kernel
theorem dX0_owedFrom_24 : decode cX0_owedFrom 24 = .ok (.imul, 1) := by decide +kernel
theorem dX0_owedFrom_25 : decode cX0_owedFrom 25 = .ok (.iload_n 2, 1) := by decide +kernel
theorem dX0_owedFrom_26 : decode cX0_owedFrom 26 = .ok (.iadd, 1) := by decide +kernel
theorem dX0_owedFrom_27 : decode cX0_owedFrom 27 = .ok (.laload, 1) := by decide +kernel
theorem dX0_owedFrom_28 : decode cX0_owedFrom 28 = .ok (.lreturn, 1) := by decide +kernel
theorem dX0_play_0 : decode cX0_play 0 = .ok (.aload_n 0, 1) := by decide +kernel
theorem dX0_play_1 : decode cX0_play 1 = .ok (.invokevirtual 61, 3) := by decide +kernel
theorem dX0_play_4 : decode cX0_play 4 = .ok (.iconst 0, 1) := by decide +kernel
theorem dX0_play_5 : decode cX0_play 5 = .ok (.istore_n 1, 1) := by decide +kernel
theorem dX0_play_6 : decode cX0_play 6 = .ok (.iload_n 1, 1) := by decide +kernel
theorem dX0_play_7 : decode cX0_play 7 = .ok (.aload_n 0, 1) := by decide +kernel
theorem dX0_play_8 : decode cX0_play 8 = .ok (.getfield 27, 3) := by decide +kernel
theorem dX0_play_11 : decode cX0_play 11 = .ok (.getfield 34, 3) := by decide +kernel
theorem dX0_play_14 : decode cX0_play 14 = .ok (.if_icmp .ge 33, 3) := by decide +kernel
theorem dX0_play_17 : decode cX0_play 17 = .ok (.aload_n 0, 1) := by decide +kernel
theorem dX0_play_18 : decode cX0_play 18 = .ok (.iload_n 1, 1) := by decide +kernel
theorem dX0_play_19 : decode cX0_play 19 = .ok (.invokevirtual 64, 3) := by decide +kernel
theorem dX0_play_22 : decode cX0_play 22 = .ok (.aload_n 0, 1) := by decide +kernel
theorem dX0_play_23 : decode cX0_play 23 = .ok (.iconst 3, 1) := by decide +kernel
theorem dX0_play_24 : decode cX0_play 24 = .ok (.iload_n 1, 1) := by decide +kernel
theorem dX0_play_25 : decode cX0_play 25 = .ok (.imul, 1) := by decide +kernel
theorem dX0_play_26 : decode cX0_play 26 = .ok (.iconst 0, 1) := by decide +kernel
theorem dX0_play_27 : decode cX0_play 27 = .ok (.iadd, 1) := by decide +kernel
theorem dX0_play_28 : decode cX0_play 28 = .ok (.invokevirtual 68, 3) := by decide +kernel
theorem dX0_play_31 : decode cX0_play 31 = .ok (.aload_n 0, 1) := by decide +kernel
theorem dX0_play_32 : decode cX0_play 32 = .ok (.iload_n 1, 1) := by decide +kernel
theorem dX0_play_33 : decode cX0_play 33 = .ok (.iconst 3, 1) := by decide +kernel
theorem dX0_play_34 : decode cX0_play 34 = .ok (.iload_n 1, 1) := by decide +kernel
theorem dX0_play_35 : decode cX0_play 35 = .ok (.imul, 1) := by decide +kernel
theorem dX0_play_36 : decode cX0_play 36 = .ok (.iconst 0, 1) := by decide +kernel
theorem dX0_play_37 : decode cX0_play 37 = .ok (.iadd, 1) := by decide +kernel
theorem dX0_play_38 : decode cX0_play 38 = .ok (.invokevirtual 71, 3) := by decide +kernel
theorem dX0_play_41 : decode cX0_play 41 = .ok (.iinc 1 1, 3) := by decide +kernel
theorem dX0_play_44 : decode cX0_play 44 = .ok (.goto (-38), 3) := by decide +kernel
theorem dX0_play_47 : decode cX0_play 47 = .ok (.aload_n 0, 1) := by decide +kernel
theorem dX0_play_48 : decode cX0_play 48 = .ok (.invokevirtual 75, 3) := by decide +kernel
theorem dX0_play_51 : decode cX0_play 51 = .ok (.return_, 1) := by decide +kernel
theorem dX0_weighChoices_0 : decode cX0_weighChoices 0 = .ok (.iconst 0, 1) := by decide +kernel
theorem dX0_weighChoices_1 : decode cX0_weighChoices 1 = .ok (.istore_n 2, 1) := by decide +kernel
theorem dX0_weighChoices_2 : decode cX0_weighChoices 2 = .ok (.iload_n 2, 1) := by decide +kernel
theorem dX0_weighChoices_3 : decode cX0_weighChoices 3 = .ok (.iconst 2, 1) := by decide +kernel
theorem dX0_weighChoices_4 : decode cX0_weighChoices 4 = .ok (.if_icmp .gt 81, 3) := by decide +kernel
theorem dX0_weighChoices_7 : decode cX0_weighChoices 7 = .ok (.aload_n 0, 1) := by decide +kernel
theorem dX0_weighChoices_8 : decode cX0_weighChoices 8 = .ok (.getfield 27, 3) := by decide +kernel
theorem dX0_weighChoices_11 : decode cX0_weighChoices 11 = .ok (.getfield 78, 3) := by decide +kernel
theorem dX0_weighChoices_14 : decode cX0_weighChoices 14 = .ok (.iload_n 1, 1) := by decide +kernel
theorem dX0_weighChoices_15 : decode cX0_weighChoices 15 = .ok (.iload_n 2, 1) := by decide +kernel
theorem dX0_weighChoices_16 : decode cX0_weighChoices 16 = .ok (.iconst 1, 1) := by decide +kernel
theorem dX0_weighChoices_17 : decode cX0_weighChoices 17 = .ok (.if_icmp .ne 8, 3) := by decide +kernel
theorem dX0_weighChoices_20 : decode cX0_weighChoices 20 = .ok (.bipush 15, 2) := by decide +kernel
theorem dX0_weighChoices_22 : decode cX0_weighChoices 22 = .ok (.goto 4, 3) := by decide +kernel
theorem dX0_weighChoices_25 : decode cX0_weighChoices 25 = .ok (.iconst 0, 1) := by decide +kernel
theorem dX0_weighChoices_26 : decode cX0_weighChoices 26 = .ok (.iastore, 1) := by decide +kernel
theorem dX0_weighChoices_27 : decode cX0_weighChoices 27 = .ok (.aload_n 0, 1) := by decide +kernel
theorem dX0_weighChoices_28 : decode cX0_weighChoices 28 = .ok (.getfield 27, 3) := by decide +kernel
theorem dX0_weighChoices_31 : decode cX0_weighChoices 31 = .ok (.getfield 81, 3) := by decide +kernel
theorem dX0_weighChoices_34 : decode cX0_weighChoices 34 = .ok (.iload_n 1, 1) := by decide +kernel
theorem dX0_weighChoices_35 : decode cX0_weighChoices 35 = .ok (.iload_n 2, 1) := by decide +kernel
theorem dX0_weighChoices_36 : decode cX0_weighChoices 36 = .ok (.iconst 2, 1) := by decide +kernel
theorem dX0_weighChoices_37 : decode cX0_weighChoices 37 = .ok (.if_icmp .ne 7, 3) := by decide +kernel
theorem dX0_weighChoices_40 : decode cX0_weighChoices 40 = .ok (.iconst 0, 1) := by decide +kernel
theorem dX0_weighChoices_41 : decode cX0_weighChoices 41 = .ok (.goto 4, 3) := by decide +kernel
theorem dX0_weighChoices_44 : decode cX0_weighChoices 44 = .ok (.iconst 4, 1) := by decide +kernel
theorem dX0_weighChoices_45 : decode cX0_weighChoices 45 = .ok (.iastore, 1) := by decide +kernel
theorem dX0_weighChoices_46 : decode cX0_weighChoices 46 = .ok (.iconst 0, 1) := by decide +kernel
theorem dX0_weighChoices_47 : decode cX0_weighChoices 47 = .ok (.istore_n 3, 1) := by decide +kernel
theorem dX0_weighChoices_48 : decode cX0_weighChoices 48 = .ok (.iload_n 3, 1) := by decide +kernel
theorem dX0_weighChoices_49 : decode cX0_weighChoices 49 = .ok (.aload_n 0, 1) := by decide +kernel
theorem dX0_weighChoices_50 : decode cX0_weighChoices 50 = .ok (.getfield 27, 3) := by decide +kernel
theorem dX0_weighChoices_53 : decode cX0_weighChoices 53 = .ok (.getfield 34, 3) := by decide +kernel
theorem dX0_weighChoices_56 : decode cX0_weighChoices 56 = .ok (.if_icmp .ge 23, 3) := by decide +kernel
theorem dX0_weighChoices_59 : decode cX0_weighChoices 59 = .ok (.aload_n 0, 1) := by decide +kernel
theorem dX0_weighChoices_60 : decode cX0_weighChoices 60 = .ok (.iload_n 3, 1) := by decide +kernel
theorem dX0_weighChoices_61 : decode cX0_weighChoices 61 = .ok (.invokevirtual 64, 3) := by decide +kernel
theorem dX0_weighChoices_64 : decode cX0_weighChoices 64 = .ok (.aload_n 0, 1) := by decide +kernel
theorem dX0_weighChoices_65 : decode cX0_weighChoices 65 = .ok (.iconst 3, 1) := by decide +kernel
theorem dX0_weighChoices_66 : decode cX0_weighChoices 66 = .ok (.iload_n 3, 1) := by decide +kernel
theorem dX0_weighChoices_67 : decode cX0_weighChoices 67 = .ok (.imul, 1) := by decide +kernel
theorem dX0_weighChoices_68 : decode cX0_weighChoices 68 = .ok (.iload_n 2, 1) := by decide +kernel
theorem dX0_weighChoices_69 : decode cX0_weighChoices 69 = .ok (.iadd, 1) := by decide +kernel
theorem dX0_weighChoices_70 : decode cX0_weighChoices 70 = .ok (.invokevirtual 68, 3) := by decide +kernel
theorem dX0_weighChoices_73 : decode cX0_weighChoices 73 = .ok (.iinc 3 1, 3) := by decide +kernel
theorem dX0_weighChoices_76 : decode cX0_weighChoices 76 = .ok (.goto (-28), 3) := by decide +kernel
theorem dX0_weighChoices_79 : decode cX0_weighChoices 79 = .ok (.iinc 2 1, 3) := by decide +kernel
theorem dX0_weighChoices_82 : decode cX0_weighChoices 82 = .ok (.goto (-80), 3) := by decide +kernel
theorem dX0_weighChoices_85 : decode cX0_weighChoices 85 = .ok (.return_, 1) := by decide +kernel
theorem dX0_replay_0 : decode cX0_replay 0 = .ok (.aload_n 0, 1) := by decide +kernel
theorem dX0_replay_1 : decode cX0_replay 1 = .ok (.invokevirtual 61, 3) := by decide +kernel
theorem dX0_replay_4 : decode cX0_replay 4 = .ok (.iconst 0, 1) := by decide +kernel
theorem dX0_replay_5 : decode cX0_replay 5 = .ok (.istore_n 2, 1) := by decide +kernel
theorem dX0_replay_6 : decode cX0_replay 6 = .ok (.iload_n 2, 1) := by decide +kernel
theorem dX0_replay_7 : decode cX0_replay 7 = .ok (.aload_n 0, 1) := by decide +kernel
theorem dX0_replay_8 : decode cX0_replay 8 = .ok (.getfield 27, 3) := by decide +kernel
theorem dX0_replay_11 : decode cX0_replay 11 = .ok (.getfield 34, 3) := by decide +kernel
theorem dX0_replay_14 : decode cX0_replay 14 = .ok (.if_icmp .ge 57, 3) := by decide +kernel
theorem dX0_replay_17 : decode cX0_replay 17 = .ok (.aload_n 0, 1) := by decide +kernel
theorem dX0_replay_18 : decode cX0_replay 18 = .ok (.getfield 27, 3) := by decide +kernel
theorem dX0_replay_21 : decode cX0_replay 21 = .ok (.getfield 78, 3) := by decide +kernel
theorem dX0_replay_24 : decode cX0_replay 24 = .ok (.iload_n 1, 1) := by decide +kernel
theorem dX0_replay_25 : decode cX0_replay 25 = .ok (.iaload, 1) := by decide +kernel
theorem dX0_replay_26 : decode cX0_replay 26 = .ok (.iload_n 2, 1) := by decide +kernel
theorem dX0_replay_27 : decode cX0_replay 27 = .ok (.invokestatic 84, 3) := by decide +kernel
theorem dX0_replay_30 : decode cX0_replay 30 = .ok (.ifCond .eq 7, 3) := by decide +kernel
theorem dX0_replay_33 : decode cX0_replay 33 = .ok (.iconst 1, 1) := by decide +kernel
theorem dX0_replay_34 : decode cX0_replay 34 = .ok (.goto 4, 3) := by decide +kernel
theorem dX0_replay_37 : decode cX0_replay 37 = .ok (.iconst 0, 1) := by decide +kernel
theorem dX0_replay_38 : decode cX0_replay 38 = .ok (.istore_n 3, 1) := by decide +kernel
theorem dX0_replay_39 : decode cX0_replay 39 = .ok (.aload_n 0, 1) := by decide +kernel
theorem dX0_replay_40 : decode cX0_replay 40 = .ok (.iload_n 2, 1) := by decide +kernel
theorem dX0_replay_41 : decode cX0_replay 41 = .ok (.iconst 3, 1) := by decide +kernel
theorem dX0_replay_42 : decode cX0_replay 42 = .ok (.iload_n 2, 1) := by decide +kernel
theorem dX0_replay_43 : decode cX0_replay 43 = .ok (.imul, 1) := by decide +kernel
theorem dX0_replay_44 : decode cX0_replay 44 = .ok (.aload_n 0, 1) := by decide +kernel
theorem dX0_replay_45 : decode cX0_replay 45 = .ok (.getfield 27, 3) := by decide +kernel
theorem dX0_replay_48 : decode cX0_replay 48 = .ok (.iload_n 1, 1) := by decide +kernel
theorem dX0_replay_49 : decode cX0_replay 49 = .ok (.iload_n 2, 1) := by decide +kernel
theorem dX0_replay_50 : decode cX0_replay 50 = .ok (.invokevirtual 88, 3) := by decide +kernel
theorem dX0_replay_53 : decode cX0_replay 53 = .ok (.ifCond .eq 7, 3) := by decide +kernel
theorem dX0_replay_56 : decode cX0_replay 56 = .ok (.iload_n 3, 1) := by decide +kernel
theorem dX0_replay_57 : decode cX0_replay 57 = .ok (.goto 4, 3) := by decide +kernel
theorem dX0_replay_60 : decode cX0_replay 60 = .ok (.iconst 2, 1) := by decide +kernel
theorem dX0_replay_61 : decode cX0_replay 61 = .ok (.iadd, 1) := by decide +kernel
theorem dX0_replay_62 : decode cX0_replay 62 = .ok (.invokevirtual 71, 3) := by decide +kernel
theorem dX0_replay_65 : decode cX0_replay 65 = .ok (.iinc 2 1, 3) := by decide +kernel
theorem dX0_replay_68 : decode cX0_replay 68 = .ok (.goto (-62), 3) := by decide +kernel
theorem dX0_replay_71 : decode cX0_replay 71 = .ok (.aload_n 0, 1) := by decide +kernel
theorem dX0_replay_72 : decode cX0_replay 72 = .ok (.invokevirtual 75, 3) := by decide +kernel
theorem dX0_replay_75 : decode cX0_replay 75 = .ok (.return_, 1) := by decide +kernel
theorem dX0_split_0 : decode cX0_split 0 = .ok (.aload_n 0, 1) := by decide +kernel
theorem dX0_split_1 : decode cX0_split 1 = .ok (.getfield 9, 3) := by decide +kernel
theorem dX0_split_4 : decode cX0_split 4 = .ok (.iconst 0, 1) := by decide +kernel
theorem dX0_split_5 : decode cX0_split 5 = .ok (.iconst 1, 1) := by decide +kernel
theorem dX0_split_6 : decode cX0_split 6 = .ok (.iconst 2, 1) := by decide +kernel
theorem dX0_split_7 : decode cX0_split 7 = .ok (.iconst 4, 1) := by decide +kernel
theorem dX0_split_8 : decode cX0_split 8 = .ok (.aload_n 0, 1) := by decide +kernel
theorem dX0_split_9 : decode cX0_split 9 = .ok (.getfield 27, 3) := by decide +kernel
theorem dX0_split_12 : decode cX0_split 12 = .ok (.getfield 91, 3) := by decide +kernel
theorem dX0_split_15 : decode cX0_split 15 = .ok (.isub, 1) := by decide +kernel
theorem dX0_split_16 : decode cX0_split 16 = .ok (.imul, 1) := by decide +kernel
theorem dX0_split_17 : decode cX0_split 17 = .ok (.ishl, 1) := by decide +kernel
theorem dX0_split_18 : decode cX0_split 18 = .ok (.i2l, 1) := by decide +kernel
theorem dX0_split_19 : decode cX0_split 19 = .ok (.lastore, 1) := by decide +kernel
theorem dX0_split_20 : decode cX0_split 20 = .ok (.iconst 0, 1) := by decide +kernel
theorem dX0_split_21 : decode cX0_split 21 = .ok (.istore_n 2, 1) := by decide +kernel
theorem dX0_split_22 : decode cX0_split 22 = .ok (.iload_n 2, 1) := by decide +kernel
theorem dX0_split_23 : decode cX0_split 23 = .ok (.aload_n 0, 1) := by decide +kernel
theorem dX0_split_24 : decode cX0_split 24 = .ok (.getfield 27, 3) := by decide +kernel
theorem dX0_split_27 : decode cX0_split 27 = .ok (.getfield 91, 3) := by decide +kernel
theorem dX0_split_30 : decode cX0_split 30 = .ok (.if_icmp .ge 74, 3) := by decide +kernel
theorem dX0_split_33 : decode cX0_split 33 = .ok (.aload_n 0, 1) := by decide +kernel
theorem dX0_split_34 : decode cX0_split 34 = .ok (.getfield 27, 3) := by decide +kernel
theorem dX0_split_37 : decode cX0_split 37 = .ok (.iload_n 2, 1) := by decide +kernel
theorem dX0_split_38 : decode cX0_split 38 = .ok (.iload_n 1, 1) := by decide +kernel
theorem dX0_split_39 : decode cX0_split 39 = .ok (.invokevirtual 94, 3) := by decide +kernel
theorem dX0_split_42 : decode cX0_split 42 = .ok (.istore_n 3, 1) := by decide +kernel
theorem dX0_split_43 : decode cX0_split 43 = .ok (.iconst 1, 1) := by decide +kernel
theorem dX0_split_44 : decode cX0_split 44 = .ok (.iload_n 2, 1) := by decide +kernel
theorem dX0_split_45 : decode cX0_split 45 = .ok (.ishl, 1) := by decide +kernel
theorem dX0_split_46 : decode cX0_split 46 = .ok (.istore 4, 2) := by decide +kernel
theorem dX0_split_48 : decode cX0_split 48 = .ok (.iconst 0, 1) := by decide +kernel
theorem dX0_split_49 : decode cX0_split 49 = .ok (.istore 5, 2) := by decide +kernel
theorem dX0_split_51 : decode cX0_split 51 = .ok (.iload 5, 2) := by decide +kernel
theorem dX0_split_53 : decode cX0_split 53 = .ok (.iload 4, 2) := by decide +kernel
theorem dX0_split_55 : decode cX0_split 55 = .ok (.if_icmp .ge 43, 3) := by decide +kernel
theorem dX0_split_58 : decode cX0_split 58 = .ok (.aload_n 0, 1) := by decide +kernel
theorem dX0_split_59 : decode cX0_split 59 = .ok (.getfield 9, 3) := by decide +kernel
theorem dX0_split_62 : decode cX0_split 62 = .ok (.iload 5, 2) := by decide +kernel
theorem dX0_split_64 : decode cX0_split 64 = .ok (.iload 4, 2) := by decide +kernel
theorem dX0_split_66 : decode cX0_split 66 = .ok (.iadd, 1) := by decide +kernel
theorem dX0_split_67 : decode cX0_split 67 = .ok (.aload_n 0, 1) := by decide +kernel
theorem dX0_split_68 : decode cX0_split 68 = .ok (.getfield 9, 3) := by decide +kernel
theorem dX0_split_71 : decode cX0_split 71 = .ok (.iload 5, 2) := by decide +kernel
theorem dX0_split_73 : decode cX0_split 73 = .ok (.laload, 1) := by decide +kernel
theorem dX0_split_74 : decode cX0_split 74 = .ok (.iload_n 3, 1) := by decide +kernel
theorem dX0_split_75 : decode cX0_split 75 = .ok (.i2l, 1) := by decide +kernel
theorem dX0_split_76 : decode cX0_split 76 = .ok (.lmul, 1) := by decide +kernel
theorem dX0_split_77 : decode cX0_split 77 = .ok (.lastore, 1) := by decide +kernel
theorem dX0_split_78 : decode cX0_split 78 = .ok (.aload_n 0, 1) := by decide +kernel
theorem dX0_split_79 : decode cX0_split 79 = .ok (.getfield 9, 3) := by decide +kernel
theorem dX0_split_82 : decode cX0_split 82 = .ok (.iload 5, 2) := by decide +kernel
theorem dX0_split_84 : decode cX0_split 84 = .ok (.dup2, 1) := by decide +kernel
theorem dX0_split_85 : decode cX0_split 85 = .ok (.laload, 1) := by decide +kernel
theorem dX0_split_86 : decode cX0_split 86 = .ok (.iconst 4, 1) := by decide +kernel
theorem dX0_split_87 : decode cX0_split 87 = .ok (.iload_n 3, 1) := by decide +kernel
theorem dX0_split_88 : decode cX0_split 88 = .ok (.isub, 1) := by decide +kernel
theorem dX0_split_89 : decode cX0_split 89 = .ok (.i2l, 1) := by decide +kernel
theorem dX0_split_90 : decode cX0_split 90 = .ok (.lmul, 1) := by decide +kernel
theorem dX0_split_91 : decode cX0_split 91 = .ok (.lastore, 1) := by decide +kernel
theorem dX0_split_92 : decode cX0_split 92 = .ok (.iinc 5 1, 3) := by decide +kernel
theorem dX0_split_95 : decode cX0_split 95 = .ok (.goto (-44), 3) := by decide +kernel
theorem dX0_split_98 : decode cX0_split 98 = .ok (.iinc 2 1, 3) := by decide +kernel
theorem dX0_split_101 : decode cX0_split 101 = .ok (.goto (-79), 3) := by decide +kernel
theorem dX0_split_104 : decode cX0_split 104 = .ok (.return_, 1) := by decide +kernel
theorem dX0_spread_0 : decode cX0_spread 0 = .ok (.iconst 5, 1) := by decide +kernel
theorem dX0_spread_1 : decode cX0_spread 1 = .ok (.iload_n 1, 1) := by decide +kernel
theorem dX0_spread_2 : decode cX0_spread 2 = .ok (.imul, 1) := by decide +kernel
theorem dX0_spread_3 : decode cX0_spread 3 = .ok (.istore_n 2, 1) := by decide +kernel
theorem dX0_spread_4 : decode cX0_spread 4 = .ok (.iconst 0, 1) := by decide +kernel
theorem dX0_spread_5 : decode cX0_spread 5 = .ok (.istore_n 3, 1) := by decide +kernel
theorem dX0_spread_6 : decode cX0_spread 6 = .ok (.iload_n 3, 1) := by decide +kernel
theorem dX0_spread_7 : decode cX0_spread 7 = .ok (.iconst 5, 1) := by decide +kernel
theorem dX0_spread_8 : decode cX0_spread 8 = .ok (.if_icmp .ge 18, 3) := by decide +kernel
theorem dX0_spread_11 : decode cX0_spread 11 = .ok (.aload_n 0, 1) := by decide +kernel
theorem dX0_spread_12 : decode cX0_spread 12 = .ok (.getfield 15, 3) := by decide +kernel
theorem dX0_spread_15 : decode cX0_spread 15 = .ok (.iload_n 2, 1) := by decide +kernel
theorem dX0_spread_16 : decode cX0_spread 16 = .ok (.iload_n 3, 1) := by decide +kernel
theorem dX0_spread_17 : decode cX0_spread 17 = .ok (.iadd, 1) := by decide +kernel
theorem dX0_spread_18 : decode cX0_spread 18 = .ok (.lconst 0, 1) := by decide +kernel
theorem dX0_spread_19 : decode cX0_spread 19 = .ok (.lastore, 1) := by decide +kernel
theorem dX0_spread_20 : decode cX0_spread 20 = .ok (.iinc 3 1, 3) := by decide +kernel
theorem dX0_spread_23 : decode cX0_spread 23 = .ok (.goto (-17), 3) := by decide +kernel
theorem dX0_spread_26 : decode cX0_spread 26 = .ok (.iconst 0, 1) := by decide +kernel
theorem dX0_spread_27 : decode cX0_spread 27 = .ok (.istore_n 3, 1) := by decide +kernel
theorem dX0_spread_28 : decode cX0_spread 28 = .ok (.iload_n 3, 1) := by decide +kernel
theorem dX0_spread_29 : decode cX0_spread 29 = .ok (.iconst 1, 1) := by decide +kernel
theorem dX0_spread_30 : decode cX0_spread 30 = .ok (.aload_n 0, 1) := by decide +kernel
theorem dX0_spread_31 : decode cX0_spread 31 = .ok (.getfield 27, 3) := by decide +kernel
theorem dX0_spread_34 : decode cX0_spread 34 = .ok (.getfield 91, 3) := by decide +kernel
theorem dX0_spread_37 : decode cX0_spread 37 = .ok (.ishl, 1) := by decide +kernel
theorem dX0_spread_38 : decode cX0_spread 38 = .ok (.if_icmp .ge 32, 3) := by decide +kernel
theorem dX0_spread_41 : decode cX0_spread 41 = .ok (.aload_n 0, 1) := by decide +kernel
theorem dX0_spread_42 : decode cX0_spread 42 = .ok (.getfield 9, 3) := by decide +kernel
theorem dX0_spread_45 : decode cX0_spread 45 = .ok (.iload_n 3, 1) := by decide +kernel
theorem dX0_spread_46 : decode cX0_spread 46 = .ok (.laload, 1) := by decide +kernel
theorem dX0_spread_47 : decode cX0_spread 47 = .ok (.lconst 0, 1) := by decide +kernel
theorem dX0_spread_48 : decode cX0_spread 48 = .ok (.lcmp, 1) := by decide +kernel
theorem dX0_spread_49 : decode cX0_spread 49 = .ok (.ifCond .eq 15, 3) := by decide +kernel
theorem dX0_spread_52 : decode cX0_spread 52 = .ok (.aload_n 0, 1) := by decide +kernel
theorem dX0_spread_53 : decode cX0_spread 53 = .ok (.iload_n 2, 1) := by decide +kernel
theorem dX0_spread_54 : decode cX0_spread 54 = .ok (.iload_n 3, 1) := by decide +kernel
theorem dX0_spread_55 : decode cX0_spread 55 = .ok (.aload_n 0, 1) := by decide +kernel
theorem dX0_spread_56 : decode cX0_spread 56 = .ok (.getfield 9, 3) := by decide +kernel
theorem dX0_spread_59 : decode cX0_spread 59 = .ok (.iload_n 3, 1) := by decide +kernel
theorem dX0_spread_60 : decode cX0_spread 60 = .ok (.laload, 1) := by decide +kernel
theorem dX0_spread_61 : decode cX0_spread 61 = .ok (.invokevirtual 98, 3) := by decide +kernel
theorem dX0_spread_64 : decode cX0_spread 64 = .ok (.iinc 3 1, 3) := by decide +kernel
theorem dX0_spread_67 : decode cX0_spread 67 = .ok (.goto (-39), 3) := by decide +kernel
theorem dX0_spread_70 : decode cX0_spread 70 = .ok (.return_, 1) := by decide +kernel
theorem dX0_passOn_0 : decode cX0_passOn 0 = .ok (.iload_n 2, 1) := by decide +kernel
theorem dX0_passOn_1 : decode cX0_passOn 1 = .ok (.invokestatic 102, 3) := by decide +kernel
theorem dX0_passOn_4 : decode cX0_passOn 4 = .ok (.istore 5, 2) := by decide +kernel
theorem dX0_passOn_6 : decode cX0_passOn 6 = .ok (.iload 5, 2) := by decide +kernel
theorem dX0_passOn_8 : decode cX0_passOn 8 = .ok (.ifCond .eq 19, 3) := by decide +kernel
theorem dX0_passOn_11 : decode cX0_passOn 11 = .ok (.iload 5, 2) := by decide +kernel
theorem dX0_passOn_13 : decode cX0_passOn 13 = .ok (.iconst 1, 1) := by decide +kernel
theorem dX0_passOn_14 : decode cX0_passOn 14 = .ok (.if_icmp .le 30, 3) := by decide +kernel
theorem dX0_passOn_17 : decode cX0_passOn 17 = .ok (.aload_n 0, 1) := by decide +kernel
theorem dX0_passOn_18 : decode cX0_passOn 18 = .ok (.getfield 27, 3) := by decide +kernel
theorem dX0_passOn_21 : decode cX0_passOn 21 = .ok (.getfield 107, 3) := by decide +kernel
theorem dX0_passOn_24 : decode cX0_passOn 24 = .ok (.ifCond .ne 20, 3) := by decide +kernel
theorem dX0_passOn_27 : decode cX0_passOn 27 = .ok (.aload_n 0, 1) := by decide +kernel
theorem dX0_passOn_28 : decode cX0_passOn 28 = .ok (.getfield 15, 3) := by decide +kernel
theorem dX0_passOn_31 : decode cX0_passOn 31 = .ok (.iload_n 1, 1) := by decide +kernel
theorem dX0_passOn_32 : decode cX0_passOn 32 = .ok (.iconst 4, 1) := by decide +kernel
theorem dX0_passOn_33 : decode cX0_passOn 33 = .ok (.iadd, 1) := by decide +kernel
theorem dX0_passOn_34 : decode cX0_passOn 34 = .ok (.dup2, 1) := by decide +kernel
theorem dX0_passOn_35 : decode cX0_passOn 35 = .ok (.laload, 1) := by decide +kernel
theorem dX0_passOn_36 : decode cX0_passOn 36 = .ok (.ldc2_w 110, 3) := by decide +kernel
theorem dX0_passOn_39 : decode cX0_passOn 39 = .ok (.lload_n 3, 1) := by decide +kernel
theorem dX0_passOn_40 : decode cX0_passOn 40 = .ok (.lmul, 1) := by decide +kernel
theorem dX0_passOn_41 : decode cX0_passOn 41 = .ok (.ladd, 1) := by decide +kernel
theorem dX0_passOn_42 : decode cX0_passOn 42 = .ok (.lastore, 1) := by decide +kernel
theorem dX0_passOn_43 : decode cX0_passOn 43 = .ok (.return_, 1) := by decide +kernel
theorem dX0_passOn_44 : decode cX0_passOn 44 = .ok (.aload_n 0, 1) := by decide +kernel
theorem dX0_passOn_45 : decode cX0_passOn 45 = .ok (.getfield 27, 3) := by decide +kernel
theorem dX0_passOn_48 : decode cX0_passOn 48 = .ok (.getfield 107, 3) := by decide +kernel
theorem dX0_passOn_51 : decode cX0_passOn 51 = .ok (.iconst 1, 1) := by decide +kernel
theorem dX0_passOn_52 : decode cX0_passOn 52 = .ok (.if_icmp .ne 7, 3) := by decide +kernel
theorem dX0_passOn_55 : decode cX0_passOn 55 = .ok (.iconst 1, 1) := by decide +kernel
theorem dX0_passOn_56 : decode cX0_passOn 56 = .ok (.goto 5, 3) := by decide +kernel
theorem dX0_passOn_59 : decode cX0_passOn 59 = .ok (.iload 5, 2) := by decide +kernel
theorem dX0_passOn_61 : decode cX0_passOn 61 = .ok (.istore 6, 2) := by decide +kernel
theorem dX0_passOn_63 : decode cX0_passOn 63 = .ok (.iload 6, 2) := by decide +kernel
theorem dX0_passOn_65 : decode cX0_passOn 65 = .ok (.istore 7, 2) := by decide +kernel
theorem dX0_passOn_67 : decode cX0_passOn 67 = .ok (.iconst 0, 1) := by decide +kernel
theorem dX0_passOn_68 : decode cX0_passOn 68 = .ok (.istore 8, 2) := by decide +kernel
theorem dX0_passOn_70 : decode cX0_passOn 70 = .ok (.iload 8, 2) := by decide +kernel
theorem dX0_passOn_72 : decode cX0_passOn 72 = .ok (.aload_n 0, 1) := by decide +kernel
theorem dX0_passOn_73 : decode cX0_passOn 73 = .ok (.getfield 27, 3) := by decide +kernel
theorem dX0_passOn_76 : decode cX0_passOn 76 = .ok (.getfield 91, 3) := by decide +kernel
theorem dX0_passOn_79 : decode cX0_passOn 79 = .ok (.if_icmp .ge 46, 3) := by decide +kernel
theorem dX0_passOn_82 : decode cX0_passOn 82 = .ok (.iload 7, 2) := by decide +kernel
theorem dX0_passOn_84 : decode cX0_passOn 84 = .ok (.ifCond .le 41, 3) := by decide +kernel
theorem dX0_passOn_87 : decode cX0_passOn 87 = .ok (.iload_n 2, 1) := by decide +kernel
theorem dX0_passOn_88 : decode cX0_passOn 88 = .ok (.iload 8, 2) := by decide +kernel
theorem dX0_passOn_90 : decode cX0_passOn 90 = .ok (.invokestatic 84, 3) := by decide +kernel
theorem dX0_passOn_93 : decode cX0_passOn 93 = .ok (.ifCond .eq 26, 3) := by decide +kernel
theorem dX0_passOn_96 : decode cX0_passOn 96 = .ok (.aload_n 0, 1) := by decide +kernel
theorem dX0_passOn_97 : decode cX0_passOn 97 = .ok (.getfield 15, 3) := by decide +kernel
theorem dX0_passOn_100 : decode cX0_passOn 100 = .ok (.iload_n 1, 1) := by decide +kernel
theorem dX0_passOn_101 : decode cX0_passOn 101 = .ok (.iload 8, 2) := by decide +kernel
theorem dX0_passOn_103 : decode cX0_passOn 103 = .ok (.iadd, 1) := by decide +kernel
theorem dX0_passOn_104 : decode cX0_passOn 104 = .ok (.dup2, 1) := by decide +kernel
theorem dX0_passOn_105 : decode cX0_passOn 105 = .ok (.laload, 1) := by decide +kernel
theorem dX0_passOn_106 : decode cX0_passOn 106 = .ok (.bipush 12, 2) := by decide +kernel
theorem dX0_passOn_108 : decode cX0_passOn 108 = .ok (.iload 6, 2) := by decide +kernel
theorem dX0_passOn_110 : decode cX0_passOn 110 = .ok (.idiv, 1) := by decide +kernel
theorem dX0_passOn_111 : decode cX0_passOn 111 = .ok (.i2l, 1) := by decide +kernel
theorem dX0_passOn_112 : decode cX0_passOn 112 = .ok (.lload_n 3, 1) := by decide +kernel
theorem dX0_passOn_113 : decode cX0_passOn 113 = .ok (.lmul, 1) := by decide +kernel
theorem dX0_passOn_114 : decode cX0_passOn 114 = .ok (.ladd, 1) := by decide +kernel
theorem dX0_passOn_115 : decode cX0_passOn 115 = .ok (.lastore, 1) := by decide +kernel
theorem dX0_passOn_116 : decode cX0_passOn 116 = .ok (.iinc 7 (-1), 3) := by decide +kernel
theorem dX0_passOn_119 : decode cX0_passOn 119 = .ok (.iinc 8 1, 3) := by decide +kernel
theorem dX0_passOn_122 : decode cX0_passOn 122 = .ok (.goto (-52), 3) := by decide +kernel
theorem dX0_passOn_125 : decode cX0_passOn 125 = .ok (.return_, 1) := by decide +kernel
theorem dX0_begin_0 : decode cX0_begin 0 = .ok (.iconst 0, 1) := by decide +kernel
theorem dX0_begin_1 : decode cX0_begin 1 = .ok (.istore_n 1, 1) := by decide +kernel
theorem dX0_begin_2 : decode cX0_begin 2 = .ok (.iload_n 1, 1) := by decide +kernel
theorem dX0_begin_3 : decode cX0_begin 3 = .ok (.iconst 4, 1) := by decide +kernel
theorem dX0_begin_4 : decode cX0_begin 4 = .ok (.if_icmp .ge 43, 3) := by decide +kernel
theorem dX0_begin_7 : decode cX0_begin 7 = .ok (.aload_n 0, 1) := by decide +kernel
theorem dX0_begin_8 : decode cX0_begin 8 = .ok (.getfield 18, 3) := by decide +kernel
theorem dX0_begin_11 : decode cX0_begin 11 = .ok (.iload_n 1, 1) := by decide +kernel
theorem dX0_begin_12 : decode cX0_begin 12 = .ok (.iload_n 1, 1) := by decide +kernel
theorem dX0_begin_13 : decode cX0_begin 13 = .ok (.aload_n 0, 1) := by decide +kernel
theorem dX0_begin_14 : decode cX0_begin 14 = .ok (.getfield 27, 3) := by decide +kernel
theorem dX0_begin_17 : decode cX0_begin 17 = .ok (.getfield 55, 3) := by decide +kernel
theorem dX0_begin_20 : decode cX0_begin 20 = .ok (.if_icmp .ne 7, 3) := by decide +kernel
theorem dX0_begin_23 : decode cX0_begin 23 = .ok (.lconst 1, 1) := by decide +kernel
theorem dX0_begin_24 : decode cX0_begin 24 = .ok (.goto 4, 3) := by decide +kernel
theorem dX0_begin_27 : decode cX0_begin 27 = .ok (.lconst 0, 1) := by decide +kernel
theorem dX0_begin_28 : decode cX0_begin 28 = .ok (.lastore, 1) := by decide +kernel
theorem dX0_begin_29 : decode cX0_begin 29 = .ok (.aload_n 0, 1) := by decide +kernel
theorem dX0_begin_30 : decode cX0_begin 30 = .ok (.getfield 24, 3) := by decide +kernel
theorem dX0_begin_33 : decode cX0_begin 33 = .ok (.iload_n 1, 1) := by decide +kernel
theorem dX0_begin_34 : decode cX0_begin 34 = .ok (.aload_n 0, 1) := by decide +kernel
theorem dX0_begin_35 : decode cX0_begin 35 = .ok (.getfield 18, 3) := by decide +kernel
theorem dX0_begin_38 : decode cX0_begin 38 = .ok (.iload_n 1, 1) := by decide +kernel
theorem dX0_begin_39 : decode cX0_begin 39 = .ok (.laload, 1) := by decide +kernel
theorem dX0_begin_40 : decode cX0_begin 40 = .ok (.lastore, 1) := by decide +kernel
theorem dX0_begin_41 : decode cX0_begin 41 = .ok (.iinc 1 1, 3) := by decide +kernel
theorem dX0_begin_44 : decode cX0_begin 44 = .ok (.goto (-42), 3) := by decide +kernel
theorem dX0_begin_47 : decode cX0_begin 47 = .ok (.aload_n 0, 1) := by decide +kernel
theorem dX0_begin_48 : decode cX0_begin 48 = .ok (.lconst 1, 1) := by decide +kernel
theorem dX0_begin_49 : decode cX0_begin 49 = .ok (.putfield 112, 3) := by decide +kernel
theorem dX0_begin_52 : decode cX0_begin 52 = .ok (.return_, 1) := by decide +kernel
theorem dX0_step_0 : decode cX0_step 0 = .ok (.iconst 5, 1) := by decide +kernel
theorem dX0_step_1 : decode cX0_step 1 = .ok (.iload_n 2, 1) := by decide +kernel
theorem dX0_step_2 : decode cX0_step 2 = .ok (.imul, 1) := by decide +kernel
theorem dX0_step_3 : decode cX0_step 3 = .ok (.istore_n 3, 1) := by decide +kernel
theorem dX0_step_4 : decode cX0_step 4 = .ok (.aload_n 0, 1) := by decide +kernel
theorem dX0_step_5 : decode cX0_step 5 = .ok (.getfield 27, 3) := by decide +kernel
theorem dX0_step_8 : decode cX0_step 8 = .ok (.getfield 116, 3) := by decide +kernel
theorem dX0_step_11 : decode cX0_step 11 = .ok (.iconst 1, 1) := by decide +kernel
theorem dX0_step_12 : decode cX0_step 12 = .ok (.if_icmp .ne 12, 3) := by decide +kernel
theorem dX0_step_15 : decode cX0_step 15 = .ok (.aload_n 0, 1) := by decide +kernel
theorem dX0_step_16 : decode cX0_step 16 = .ok (.iload_n 1, 1) := by decide +kernel
theorem dX0_step_17 : decode cX0_step 17 = .ok (.iload_n 3, 1) := by decide +kernel
theorem dX0_step_18 : decode cX0_step 18 = .ok (.invokevirtual 119, 3) := by decide +kernel
theorem dX0_step_21 : decode cX0_step 21 = .ok (.goto 9, 3) := by decide +kernel
theorem dX0_step_24 : decode cX0_step 24 = .ok (.aload_n 0, 1) := by decide +kernel
theorem dX0_step_25 : decode cX0_step 25 = .ok (.iload_n 1, 1) := by decide +kernel
theorem dX0_step_26 : decode cX0_step 26 = .ok (.iload_n 3, 1) := by decide +kernel
theorem dX0_step_27 : decode cX0_step 27 = .ok (.invokevirtual 122, 3) := by decide +kernel
theorem dX0_step_30 : decode cX0_step 30 = .ok (.aload_n 0, 1) := by decide +kernel
theorem dX0_step_31 : decode cX0_step 31 = .ok (.getfield 27, 3) := by decide +kernel
theorem dX0_step_34 : decode cX0_step 34 = .ok (.getfield 116, 3) := by decide +kernel
theorem dX0_step_37 : decode cX0_step 37 = .ok (.iconst 2, 1) := by decide +kernel
theorem dX0_step_38 : decode cX0_step 38 = .ok (.if_icmp .ne 8, 3) := by decide +kernel
theorem dX0_step_41 : decode cX0_step 41 = .ok (.aload_n 0, 1) := by decide +kernel
theorem dX0_step_42 : decode cX0_step 42 = .ok (.iload_n 3, 1) := by decide +kernel
theorem dX0_step_43 : decode cX0_step 43 = .ok (.invokevirtual 125, 3) := by decide +kernel
theorem dX0_step_46 : decode cX0_step 46 = .ok (.return_, 1) := by decide +kernel
theorem dX0_stepOn_0 : decode cX0_stepOn 0 = .ok (.iconst 0, 1) := by decide +kernel
theorem dX0_stepOn_1 : decode cX0_stepOn 1 = .ok (.istore_n 3, 1) := by decide +kernel
theorem dX0_stepOn_2 : decode cX0_stepOn 2 = .ok (.iload_n 3, 1) := by decide +kernel
theorem dX0_stepOn_3 : decode cX0_stepOn 3 = .ok (.aload_n 0, 1) := by decide +kernel
theorem dX0_stepOn_4 : decode cX0_stepOn 4 = .ok (.getfield 27, 3) := by decide +kernel
theorem dX0_stepOn_7 : decode cX0_stepOn 7 = .ok (.getfield 91, 3) := by decide +kernel
theorem dX0_stepOn_10 : decode cX0_stepOn 10 = .ok (.if_icmp .ge 55, 3) := by decide +kernel
theorem dX0_stepOn_13 : decode cX0_stepOn 13 = .ok (.aload_n 0, 1) := by decide +kernel
theorem dX0_stepOn_14 : decode cX0_stepOn 14 = .ok (.getfield 18, 3) := by decide +kernel
theorem dX0_stepOn_17 : decode cX0_stepOn 17 = .ok (.iconst 4, 1) := by decide +kernel
theorem dX0_stepOn_18 : decode cX0_stepOn 18 = .ok (.iload_n 1, 1) := by decide +kernel
theorem dX0_stepOn_19 : decode cX0_stepOn 19 = .ok (.iconst 1, 1) := by decide +kernel
theorem dX0_stepOn_20 : decode cX0_stepOn 20 = .ok (.iadd, 1) := by decide +kernel
theorem dX0_stepOn_21 : decode cX0_stepOn 21 = .ok (.imul, 1) := by decide +kernel
theorem dX0_stepOn_22 : decode cX0_stepOn 22 = .ok (.iload_n 3, 1) := by decide +kernel
theorem dX0_stepOn_23 : decode cX0_stepOn 23 = .ok (.iadd, 1) := by decide +kernel
theorem dX0_stepOn_24 : decode cX0_stepOn 24 = .ok (.aload_n 0, 1) := by decide +kernel
theorem dX0_stepOn_25 : decode cX0_stepOn 25 = .ok (.getfield 18, 3) := by decide +kernel
theorem dX0_stepOn_28 : decode cX0_stepOn 28 = .ok (.iconst 4, 1) := by decide +kernel
theorem dX0_stepOn_29 : decode cX0_stepOn 29 = .ok (.iload_n 1, 1) := by decide +kernel
theorem dX0_stepOn_30 : decode cX0_stepOn 30 = .ok (.imul, 1) := by decide +kernel
theorem dX0_stepOn_31 : decode cX0_stepOn 31 = .ok (.iload_n 3, 1) := by decide +kernel
theorem dX0_stepOn_32 : decode cX0_stepOn 32 = .ok (.iadd, 1) := by decide +kernel
theorem dX0_stepOn_33 : decode cX0_stepOn 33 = .ok (.laload, 1) := by decide +kernel
theorem dX0_stepOn_34 : decode cX0_stepOn 34 = .ok (.aload_n 0, 1) := by decide +kernel
theorem dX0_stepOn_35 : decode cX0_stepOn 35 = .ok (.getfield 15, 3) := by decide +kernel
theorem dX0_stepOn_38 : decode cX0_stepOn 38 = .ok (.iload_n 2, 1) := by decide +kernel
theorem dX0_stepOn_39 : decode cX0_stepOn 39 = .ok (.iconst 4, 1) := by decide +kernel
theorem dX0_stepOn_40 : decode cX0_stepOn 40 = .ok (.iadd, 1) := by decide +kernel
theorem dX0_stepOn_41 : decode cX0_stepOn 41 = .ok (.laload, 1) := by decide +kernel
theorem dX0_stepOn_42 : decode cX0_stepOn 42 = .ok (.lmul, 1) := by decide +kernel
theorem dX0_stepOn_43 : decode cX0_stepOn 43 = .ok (.getstatic 31, 3) := by decide +kernel
theorem dX0_stepOn_46 : decode cX0_stepOn 46 = .ok (.iload_n 1, 1) := by decide +kernel
theorem dX0_stepOn_47 : decode cX0_stepOn 47 = .ok (.laload, 1) := by decide +kernel
theorem dX0_stepOn_48 : decode cX0_stepOn 48 = .ok (.aload_n 0, 1) := by decide +kernel
theorem dX0_stepOn_49 : decode cX0_stepOn 49 = .ok (.getfield 15, 3) := by decide +kernel
theorem dX0_stepOn_52 : decode cX0_stepOn 52 = .ok (.iload_n 2, 1) := by decide +kernel
theorem dX0_stepOn_53 : decode cX0_stepOn 53 = .ok (.iload_n 3, 1) := by decide +kernel
theorem dX0_stepOn_54 : decode cX0_stepOn 54 = .ok (.iadd, 1) := by decide +kernel
theorem dX0_stepOn_55 : decode cX0_stepOn 55 = .ok (.laload, 1) := by decide +kernel
theorem dX0_stepOn_56 : decode cX0_stepOn 56 = .ok (.lmul, 1) := by decide +kernel
theorem dX0_stepOn_57 : decode cX0_stepOn 57 = .ok (.ladd, 1) := by decide +kernel
theorem dX0_stepOn_58 : decode cX0_stepOn 58 = .ok (.lastore, 1) := by decide +kernel
theorem dX0_stepOn_59 : decode cX0_stepOn 59 = .ok (.iinc 3 1, 3) := by decide +kernel
theorem dX0_stepOn_62 : decode cX0_stepOn 62 = .ok (.goto (-60), 3) := by decide +kernel
theorem dX0_stepOn_65 : decode cX0_stepOn 65 = .ok (.return_, 1) := by decide +kernel
theorem dX0_stepOnce_0 : decode cX0_stepOnce 0 = .ok (.aload_n 0, 1) := by decide +kernel
theorem dX0_stepOnce_1 : decode cX0_stepOnce 1 = .ok (.getfield 15, 3) := by decide +kernel
theorem dX0_stepOnce_4 : decode cX0_stepOnce 4 = .ok (.iload_n 2, 1) := by decide +kernel
theorem dX0_stepOnce_5 : decode cX0_stepOnce 5 = .ok (.iconst 4, 1) := by decide +kernel
theorem dX0_stepOnce_6 : decode cX0_stepOnce 6 = .ok (.iadd, 1) := by decide +kernel
theorem dX0_stepOnce_7 : decode cX0_stepOnce 7 = .ok (.laload, 1) := by decide +kernel
theorem dX0_stepOnce_8 : decode cX0_stepOnce 8 = .ok (.lstore_n 3, 1) := by decide +kernel
theorem dX0_stepOnce_9 : decode cX0_stepOnce 9 = .ok (.iconst 0, 1) := by decide +kernel
theorem dX0_stepOnce_10 : decode cX0_stepOnce 10 = .ok (.istore 5, 2) := by decide +kernel
theorem dX0_stepOnce_12 : decode cX0_stepOnce 12 = .ok (.iload 5, 2) := by decide +kernel
theorem dX0_stepOnce_14 : decode cX0_stepOnce 14 = .ok (.aload_n 0, 1) := by decide +kernel
theorem dX0_stepOnce_15 : decode cX0_stepOnce 15 = .ok (.getfield 27, 3) := by decide +kernel
theorem dX0_stepOnce_18 : decode cX0_stepOnce 18 = .ok (.getfield 91, 3) := by decide +kernel
theorem dX0_stepOnce_21 : decode cX0_stepOnce 21 = .ok (.if_icmp .ge 87, 3) := by decide +kernel
theorem dX0_stepOnce_24 : decode cX0_stepOnce 24 = .ok (.aload_n 0, 1) := by decide +kernel
theorem dX0_stepOnce_25 : decode cX0_stepOnce 25 = .ok (.getfield 112, 3) := by decide +kernel
theorem dX0_stepOnce_28 : decode cX0_stepOnce 28 = .ok (.aload_n 0, 1) := by decide +kernel
theorem dX0_stepOnce_29 : decode cX0_stepOnce 29 = .ok (.getfield 15, 3) := by decide +kernel
theorem dX0_stepOnce_32 : decode cX0_stepOnce 32 = .ok (.iload_n 2, 1) := by decide +kernel
theorem dX0_stepOnce_33 : decode cX0_stepOnce 33 = .ok (.iload 5, 2) := by decide +kernel
theorem dX0_stepOnce_35 : decode cX0_stepOnce 35 = .ok (.iadd, 1) := by decide +kernel
theorem dX0_stepOnce_36 : decode cX0_stepOnce 36 = .ok (.laload, 1) := by decide +kernel
theorem dX0_stepOnce_37 : decode cX0_stepOnce 37 = .ok (.lmul, 1) := by decide +kernel
theorem dX0_stepOnce_38 : decode cX0_stepOnce 38 = .ok (.lstore 6, 2) := by decide +kernel
theorem dX0_stepOnce_40 : decode cX0_stepOnce 40 = .ok (.iload 5, 2) := by decide +kernel
theorem dX0_stepOnce_42 : decode cX0_stepOnce 42 = .ok (.aload_n 0, 1) := by decide +kernel
theorem dX0_stepOnce_43 : decode cX0_stepOnce 43 = .ok (.getfield 27, 3) := by decide +kernel
theorem dX0_stepOnce_46 : decode cX0_stepOnce 46 = .ok (.getfield 55, 3) := by decide +kernel
theorem dX0_stepOnce_49 : decode cX0_stepOnce 49 = .ok (.if_icmp .ne 20, 3) := by decide +kernel
theorem dX0_stepOnce_52 : decode cX0_stepOnce 52 = .ok (.lload 6, 2) := by decide +kernel
theorem dX0_stepOnce_54 : decode cX0_stepOnce 54 = .ok (.aload_n 0, 1) := by decide +kernel
theorem dX0_stepOnce_55 : decode cX0_stepOnce 55 = .ok (.getfield 112, 3) := by decide +kernel
theorem dX0_stepOnce_58 : decode cX0_stepOnce 58 = .ok (.getstatic 31, 3) := by decide +kernel
theorem dX0_stepOnce_61 : decode cX0_stepOnce 61 = .ok (.iconst 1, 1) := by decide +kernel
theorem dX0_stepOnce_62 : decode cX0_stepOnce 62 = .ok (.laload, 1) := by decide +kernel
theorem dX0_stepOnce_63 : decode cX0_stepOnce 63 = .ok (.lload_n 3, 1) := by decide +kernel
theorem dX0_stepOnce_64 : decode cX0_stepOnce 64 = .ok (.lsub, 1) := by decide +kernel
theorem dX0_stepOnce_65 : decode cX0_stepOnce 65 = .ok (.lmul, 1) := by decide +kernel
theorem dX0_stepOnce_66 : decode cX0_stepOnce 66 = .ok (.lsub, 1) := by decide +kernel
theorem dX0_stepOnce_67 : decode cX0_stepOnce 67 = .ok (.lstore 6, 2) := by decide +kernel
theorem dX0_stepOnce_69 : decode cX0_stepOnce 69 = .ok (.aload_n 0, 1) := by decide +kernel
theorem dX0_stepOnce_70 : decode cX0_stepOnce 70 = .ok (.getfield 18, 3) := by decide +kernel
theorem dX0_stepOnce_73 : decode cX0_stepOnce 73 = .ok (.iconst 4, 1) := by decide +kernel
theorem dX0_stepOnce_74 : decode cX0_stepOnce 74 = .ok (.iload_n 1, 1) := by decide +kernel
theorem dX0_stepOnce_75 : decode cX0_stepOnce 75 = .ok (.iconst 1, 1) := by decide +kernel
theorem dX0_stepOnce_76 : decode cX0_stepOnce 76 = .ok (.iadd, 1) := by decide +kernel
theorem dX0_stepOnce_77 : decode cX0_stepOnce 77 = .ok (.imul, 1) := by decide +kernel
theorem dX0_stepOnce_78 : decode cX0_stepOnce 78 = .ok (.iload 5, 2) := by decide +kernel
theorem dX0_stepOnce_80 : decode cX0_stepOnce 80 = .ok (.iadd, 1) := by decide +kernel
theorem dX0_stepOnce_81 : decode cX0_stepOnce 81 = .ok (.aload_n 0, 1) := by decide +kernel
theorem dX0_stepOnce_82 : decode cX0_stepOnce 82 = .ok (.getfield 18, 3) := by decide +kernel
theorem dX0_stepOnce_85 : decode cX0_stepOnce 85 = .ok (.iconst 4, 1) := by decide +kernel
theorem dX0_stepOnce_86 : decode cX0_stepOnce 86 = .ok (.iload_n 1, 1) := by decide +kernel
theorem dX0_stepOnce_87 : decode cX0_stepOnce 87 = .ok (.imul, 1) := by decide +kernel
theorem dX0_stepOnce_88 : decode cX0_stepOnce 88 = .ok (.iload 5, 2) := by decide +kernel
theorem dX0_stepOnce_90 : decode cX0_stepOnce 90 = .ok (.iadd, 1) := by decide +kernel
theorem dX0_stepOnce_91 : decode cX0_stepOnce 91 = .ok (.laload, 1) := by decide +kernel
theorem dX0_stepOnce_92 : decode cX0_stepOnce 92 = .ok (.getstatic 31, 3) := by decide +kernel
theorem dX0_stepOnce_95 : decode cX0_stepOnce 95 = .ok (.iconst 1, 1) := by decide +kernel
theorem dX0_stepOnce_96 : decode cX0_stepOnce 96 = .ok (.laload, 1) := by decide +kernel
theorem dX0_stepOnce_97 : decode cX0_stepOnce 97 = .ok (.lmul, 1) := by decide +kernel
theorem dX0_stepOnce_98 : decode cX0_stepOnce 98 = .ok (.lload 6, 2) := by decide +kernel
theorem dX0_stepOnce_100 : decode cX0_stepOnce 100 = .ok (.ladd, 1) := by decide +kernel
theorem dX0_stepOnce_101 : decode cX0_stepOnce 101 = .ok (.lastore, 1) := by decide +kernel
theorem dX0_stepOnce_102 : decode cX0_stepOnce 102 = .ok (.iinc 5 1, 3) := by decide +kernel
theorem dX0_stepOnce_105 : decode cX0_stepOnce 105 = .ok (.goto (-93), 3) := by decide +kernel
theorem dX0_stepOnce_108 : decode cX0_stepOnce 108 = .ok (.aload_n 0, 1) := by decide +kernel
theorem dX0_stepOnce_109 : decode cX0_stepOnce 109 = .ok (.dup, 1) := by decide +kernel
theorem dX0_stepOnce_110 : decode cX0_stepOnce 110 = .ok (.getfield 112, 3) := by decide +kernel
theorem dX0_stepOnce_113 : decode cX0_stepOnce 113 = .ok (.lload_n 3, 1) := by decide +kernel
theorem dX0_stepOnce_114 : decode cX0_stepOnce 114 = .ok (.lmul, 1) := by decide +kernel
theorem dX0_stepOnce_115 : decode cX0_stepOnce 115 = .ok (.putfield 112, 3) := by decide +kernel
theorem dX0_stepOnce_118 : decode cX0_stepOnce 118 = .ok (.return_, 1) := by decide +kernel
theorem dX0_halve_0 : decode cX0_halve 0 = .ok (.lconst 0, 1) := by decide +kernel
theorem dX0_halve_1 : decode cX0_halve 1 = .ok (.lstore_n 2, 1) := by decide +kernel
theorem dX0_halve_2 : decode cX0_halve 2 = .ok (.iconst 0, 1) := by decide +kernel
theorem dX0_halve_3 : decode cX0_halve 3 = .ok (.istore 4, 2) := by decide +kernel
theorem dX0_halve_5 : decode cX0_halve 5 = .ok (.iload 4, 2) := by decide +kernel
theorem dX0_halve_7 : decode cX0_halve 7 = .ok (.aload_n 0, 1) := by decide +kernel
theorem dX0_halve_8 : decode cX0_halve 8 = .ok (.getfield 27, 3) := by decide +kernel
theorem dX0_halve_11 : decode cX0_halve 11 = .ok (.getfield 91, 3) := by decide +kernel
theorem dX0_halve_14 : decode cX0_halve 14 = .ok (.if_icmp .ge 33, 3) := by decide +kernel
theorem dX0_halve_17 : decode cX0_halve 17 = .ok (.aload_n 0, 1) := by decide +kernel
theorem dX0_halve_18 : decode cX0_halve 18 = .ok (.getfield 21, 3) := by decide +kernel
theorem dX0_halve_21 : decode cX0_halve 21 = .ok (.iload 4, 2) := by decide +kernel
theorem dX0_halve_23 : decode cX0_halve 23 = .ok (.aload_n 0, 1) := by decide +kernel
theorem dX0_halve_24 : decode cX0_halve 24 = .ok (.getfield 24, 3) := by decide +kernel
theorem dX0_halve_27 : decode cX0_halve 27 = .ok (.iload 4, 2) := by decide +kernel
theorem dX0_halve_29 : decode cX0_halve 29 = .ok (.laload, 1) := by decide +kernel
theorem dX0_halve_30 : decode cX0_halve 30 = .ok (.lastore, 1) := by decide +kernel
theorem dX0_halve_31 : decode cX0_halve 31 = .ok (.lload_n 2, 1) := by decide +kernel
theorem dX0_halve_32 : decode cX0_halve 32 = .ok (.aload_n 0, 1) := by decide +kernel
theorem dX0_halve_33 : decode cX0_halve 33 = .ok (.getfield 24, 3) := by decide +kernel
theorem dX0_halve_36 : decode cX0_halve 36 = .ok (.iload 4, 2) := by decide +kernel
theorem dX0_halve_38 : decode cX0_halve 38 = .ok (.laload, 1) := by decide +kernel
theorem dX0_halve_39 : decode cX0_halve 39 = .ok (.ladd, 1) := by decide +kernel
theorem dX0_halve_40 : decode cX0_halve 40 = .ok (.lstore_n 2, 1) := by decide +kernel
theorem dX0_halve_41 : decode cX0_halve 41 = .ok (.iinc 4 1, 3) := by decide +kernel
theorem dX0_halve_44 : decode cX0_halve 44 = .ok (.goto (-39), 3) := by decide +kernel
theorem dX0_halve_47 : decode cX0_halve 47 = .ok (.iconst 0, 1) := by decide +kernel
theorem dX0_halve_48 : decode cX0_halve 48 = .ok (.istore 4, 2) := by decide +kernel
theorem dX0_halve_50 : decode cX0_halve 50 = .ok (.iload 4, 2) := by decide +kernel
theorem dX0_halve_52 : decode cX0_halve 52 = .ok (.aload_n 0, 1) := by decide +kernel
theorem dX0_halve_53 : decode cX0_halve 53 = .ok (.getfield 27, 3) := by decide +kernel
theorem dX0_halve_56 : decode cX0_halve 56 = .ok (.getfield 91, 3) := by decide +kernel
theorem dX0_halve_59 : decode cX0_halve 59 = .ok (.if_icmp .ge 70, 3) := by decide +kernel
theorem dX0_halve_62 : decode cX0_halve 62 = .ok (.aload_n 0, 1) := by decide +kernel
theorem dX0_halve_63 : decode cX0_halve 63 = .ok (.getfield 15, 3) := by decide +kernel
theorem dX0_halve_66 : decode cX0_halve 66 = .ok (.iload_n 1, 1) := by decide +kernel
theorem dX0_halve_67 : decode cX0_halve 67 = .ok (.iconst 4, 1) := by decide +kernel
theorem dX0_halve_68 : decode cX0_halve 68 = .ok (.iadd, 1) := by decide +kernel
theorem dX0_halve_69 : decode cX0_halve 69 = .ok (.laload, 1) := by decide +kernel
theorem dX0_halve_70 : decode cX0_halve 70 = .ok (.aload_n 0, 1) := by decide +kernel
theorem dX0_halve_71 : decode cX0_halve 71 = .ok (.getfield 15, 3) := by decide +kernel
theorem dX0_halve_74 : decode cX0_halve 74 = .ok (.iload_n 1, 1) := by decide +kernel
theorem dX0_halve_75 : decode cX0_halve 75 = .ok (.iload 4, 2) := by decide +kernel
theorem dX0_halve_77 : decode cX0_halve 77 = .ok (.iadd, 1) := by decide +kernel
theorem dX0_halve_78 : decode cX0_halve 78 = .ok (.laload, 1) := by decide +kernel
theorem dX0_halve_79 : decode cX0_halve 79 = .ok (.ladd, 1) := by decide +kernel
theorem dX0_halve_80 : decode cX0_halve 80 = .ok (.lstore 5, 2) := by decide +kernel
theorem dX0_halve_82 : decode cX0_halve 82 = .ok (.aload_n 0, 1) := by decide +kernel
theorem dX0_halve_83 : decode cX0_halve 83 = .ok (.getfield 24, 3) := by decide +kernel
theorem dX0_halve_86 : decode cX0_halve 86 = .ok (.iload 4, 2) := by decide +kernel
theorem dX0_halve_88 : decode cX0_halve 88 = .ok (.ldc2_w 128, 3) := by decide +kernel
theorem dX0_halve_91 : decode cX0_halve 91 = .ok (.aload_n 0, 1) := by decide +kernel
theorem dX0_halve_92 : decode cX0_halve 92 = .ok (.getfield 21, 3) := by decide +kernel
theorem dX0_halve_95 : decode cX0_halve 95 = .ok (.iload 4, 2) := by decide +kernel
theorem dX0_halve_97 : decode cX0_halve 97 = .ok (.laload, 1) := by decide +kernel
theorem dX0_halve_98 : decode cX0_halve 98 = .ok (.lmul, 1) := by decide +kernel
theorem dX0_halve_99 : decode cX0_halve 99 = .ok (.lload 5, 2) := by decide +kernel
theorem dX0_halve_101 : decode cX0_halve 101 = .ok (.lmul, 1) := by decide +kernel
theorem dX0_halve_102 : decode cX0_halve 102 = .ok (.lload_n 2, 1) := by decide +kernel
theorem dX0_halve_103 : decode cX0_halve 103 = .ok (.aload_n 0, 1) := by decide +kernel
theorem dX0_halve_104 : decode cX0_halve 104 = .ok (.getfield 21, 3) := by decide +kernel
theorem dX0_halve_107 : decode cX0_halve 107 = .ok (.iload 4, 2) := by decide +kernel
theorem dX0_halve_109 : decode cX0_halve 109 = .ok (.laload, 1) := by decide +kernel
theorem dX0_halve_110 : decode cX0_halve 110 = .ok (.lsub, 1) := by decide +kernel
theorem dX0_halve_111 : decode cX0_halve 111 = .ok (.aload_n 0, 1) := by decide +kernel
theorem dX0_halve_112 : decode cX0_halve 112 = .ok (.getfield 15, 3) := by decide +kernel
theorem dX0_halve_115 : decode cX0_halve 115 = .ok (.iload_n 1, 1) := by decide +kernel
theorem dX0_halve_116 : decode cX0_halve 116 = .ok (.iload 4, 2) := by decide +kernel
theorem dX0_halve_118 : decode cX0_halve 118 = .ok (.iadd, 1) := by decide +kernel
theorem dX0_halve_119 : decode cX0_halve 119 = .ok (.laload, 1) := by decide +kernel
theorem dX0_halve_120 : decode cX0_halve 120 = .ok (.lmul, 1) := by decide +kernel
theorem dX0_halve_121 : decode cX0_halve 121 = .ok (.ladd, 1) := by decide +kernel
theorem dX0_halve_122 : decode cX0_halve 122 = .ok (.lastore, 1) := by decide +kernel
theorem dX0_halve_123 : decode cX0_halve 123 = .ok (.iinc 4 1, 3) := by decide +kernel
theorem dX0_halve_126 : decode cX0_halve 126 = .ok (.goto (-76), 3) := by decide +kernel
theorem dX0_halve_129 : decode cX0_halve 129 = .ok (.return_, 1) := by decide +kernel
theorem dX0_finish_0 : decode cX0_finish 0 = .ok (.aload_n 0, 1) := by decide +kernel
theorem dX0_finish_1 : decode cX0_finish 1 = .ok (.getfield 27, 3) := by decide +kernel
theorem dX0_finish_4 : decode cX0_finish 4 = .ok (.getfield 116, 3) := by decide +kernel
theorem dX0_finish_7 : decode cX0_finish 7 = .ok (.iconst 2, 1) := by decide +kernel
theorem dX0_finish_8 : decode cX0_finish 8 = .ok (.if_icmp .ne 4, 3) := by decide +kernel
theorem dX0_finish_11 : decode cX0_finish 11 = .ok (.return_, 1) := by decide +kernel
theorem dX0_finish_12 : decode cX0_finish 12 = .ok (.iconst 0, 1) := by decide +kernel
theorem dX0_finish_13 : decode cX0_finish 13 = .ok (.istore_n 1, 1) := by decide +kernel
theorem dX0_finish_14 : decode cX0_finish 14 = .ok (.iload_n 1, 1) := by decide +kernel
theorem dX0_finish_15 : decode cX0_finish 15 = .ok (.aload_n 0, 1) := by decide +kernel
theorem dX0_finish_16 : decode cX0_finish 16 = .ok (.getfield 27, 3) := by decide +kernel
theorem dX0_finish_19 : decode cX0_finish 19 = .ok (.getfield 91, 3) := by decide +kernel
theorem dX0_finish_22 : decode cX0_finish 22 = .ok (.if_icmp .ge 39, 3) := by decide +kernel
theorem dX0_finish_25 : decode cX0_finish 25 = .ok (.aload_n 0, 1) := by decide +kernel
theorem dX0_finish_26 : decode cX0_finish 26 = .ok (.getfield 24, 3) := by decide +kernel
theorem dX0_finish_29 : decode cX0_finish 29 = .ok (.iload_n 1, 1) := by decide +kernel
theorem dX0_finish_30 : decode cX0_finish 30 = .ok (.aload_n 0, 1) := by decide +kernel
theorem dX0_finish_31 : decode cX0_finish 31 = .ok (.getfield 18, 3) := by decide +kernel
theorem dX0_finish_34 : decode cX0_finish 34 = .ok (.iconst 4, 1) := by decide +kernel
theorem dX0_finish_35 : decode cX0_finish 35 = .ok (.aload_n 0, 1) := by decide +kernel
theorem dX0_finish_36 : decode cX0_finish 36 = .ok (.getfield 27, 3) := by decide +kernel
theorem dX0_finish_39 : decode cX0_finish 39 = .ok (.getfield 34, 3) := by decide +kernel
theorem dX0_finish_42 : decode cX0_finish 42 = .ok (.imul, 1) := by decide +kernel
theorem dX0_finish_43 : decode cX0_finish 43 = .ok (.iload_n 1, 1) := by decide +kernel
theorem dX0_finish_44 : decode cX0_finish 44 = .ok (.iadd, 1) := by decide +kernel
theorem dX0_finish_45 : decode cX0_finish 45 = .ok (.laload, 1) := by decide +kernel
theorem dX0_finish_46 : decode cX0_finish 46 = .ok (.aload_n 0, 1) := by decide +kernel
theorem dX0_finish_47 : decode cX0_finish 47 = .ok (.getfield 27, 3) := by decide +kernel
theorem dX0_finish_50 : decode cX0_finish 50 = .ok (.getfield 34, 3) := by decide +kernel
theorem dX0_finish_53 : decode cX0_finish 53 = .ok (.lshl, 1) := by decide +kernel
theorem dX0_finish_54 : decode cX0_finish 54 = .ok (.lastore, 1) := by decide +kernel
theorem dX0_finish_55 : decode cX0_finish 55 = .ok (.iinc 1 1, 3) := by decide +kernel
theorem dX0_finish_58 : decode cX0_finish 58 = .ok (.goto (-44), 3) := by decide +kernel
theorem dX0_finish_61 : decode cX0_finish 61 = .ok (.return_, 1) := by decide +kernel
theorem dX1_init_0 : decode cX1_init 0 = .ok (.aload_n 0, 1) := by decide +kernel
theorem dX1_init_1 : decode cX1_init 1 = .ok (.invokespecial 3, 3) := by decide +kernel
theorem dX1_init_4 : decode cX1_init 4 = .ok (.aload_n 0, 1) := by decide +kernel
theorem dX1_init_5 : decode cX1_init 5 = .ok (.bipush 16, 2) := by decide +kernel
theorem dX1_init_7 : decode cX1_init 7 = .ok (.newarray .int, 2) := by decide +kernel
theorem dX1_init_9 : decode cX1_init 9 = .ok (.putfield 9, 3) := by decide +kernel
theorem dX1_init_12 : decode cX1_init 12 = .ok (.aload_n 0, 1) := by decide +kernel
theorem dX1_init_13 : decode cX1_init 13 = .ok (.iconst 4, 1) := by decide +kernel
theorem dX1_init_14 : decode cX1_init 14 = .ok (.newarray .int, 2) := by decide +kernel
theorem dX1_init_16 : decode cX1_init 16 = .ok (.putfield 15, 3) := by decide +kernel
theorem dX1_init_19 : decode cX1_init 19 = .ok (.aload_n 0, 1) := by decide +kernel
theorem dX1_init_20 : decode cX1_init 20 = .ok (.iconst 4, 1) := by decide +kernel
theorem dX1_init_21 : decode cX1_init 21 = .ok (.newarray .int, 2) := by decide +kernel
theorem dX1_init_23 : decode cX1_init 23 = .ok (.putfield 18, 3) := by decide +kernel
theorem dX1_init_26 : decode cX1_init 26 = .ok (.aload_n 0, 1) := by decide +kernel
theorem dX1_init_27 : decode cX1_init 27 = .ok (.iconst 4, 1) := by decide +kernel
theorem dX1_init_28 : decode cX1_init 28 = .ok (.newarray .int, 2) := by decide +kernel
theorem dX1_init_30 : decode cX1_init 30 = .ok (.putfield 21, 3) := by decide +kernel
theorem dX1_init_33 : decode cX1_init 33 = .ok (.aload_n 0, 1) := by decide +kernel
theorem dX1_init_34 : decode cX1_init 34 = .ok (.aload_n 1, 1) := by decide +kernel
theorem dX1_init_35 : decode cX1_init 35 = .ok (.putfield 24, 3) := by decide +kernel
theorem dX1_init_38 : decode cX1_init 38 = .ok (.aload_n 0, 1) := by decide +kernel
theorem dX1_init_39 : decode cX1_init 39 = .ok (.aload_n 2, 1) := by decide +kernel
theorem dX1_init_40 : decode cX1_init 40 = .ok (.putfield 28, 3) := by decide +kernel
theorem dX1_init_43 : decode cX1_init 43 = .ok (.aload_n 0, 1) := by decide +kernel
theorem dX1_init_44 : decode cX1_init 44 = .ok (.aload_n 3, 1) := by decide +kernel
theorem dX1_init_45 : decode cX1_init 45 = .ok (.putfield 31, 3) := by decide +kernel
theorem dX1_init_48 : decode cX1_init 48 = .ok (.return_, 1) := by decide +kernel
theorem dX1_gather_0 : decode cX1_gather 0 = .ok (.aload_n 0, 1) := by decide +kernel
theorem dX1_gather_1 : decode cX1_gather 1 = .ok (.aload_n 0, 1) := by decide +kernel
theorem dX1_gather_2 : decode cX1_gather 2 = .ok (.getfield 24, 3) := by decide +kernel
theorem dX1_gather_5 : decode cX1_gather 5 = .ok (.getfield 34, 3) := by decide +kernel
theorem dX1_gather_8 : decode cX1_gather 8 = .ok (.putfield 40, 3) := by decide +kernel
theorem dX1_gather_11 : decode cX1_gather 11 = .ok (.aload_n 0, 1) := by decide +kernel
theorem dX1_gather_12 : decode cX1_gather 12 = .ok (.aload_n 0, 1) := by decide +kernel
theorem dX1_gather_13 : decode cX1_gather 13 = .ok (.getfield 24, 3) := by decide +kernel
theorem dX1_gather_16 : decode cX1_gather 16 = .ok (.getfield 41, 3) := by decide +kernel
theorem dX1_gather_19 : decode cX1_gather 19 = .ok (.putfield 44, 3) := by decide +kernel
theorem dX1_gather_22 : decode cX1_gather 22 = .ok (.aload_n 0, 1) := by decide +kernel
theorem dX1_gather_23 : decode cX1_gather 23 = .ok (.aload_n 0, 1) := by decide +kernel
theorem dX1_gather_24 : decode cX1_gather 24 = .ok (.getfield 24, 3) := by decide +kernel
theorem dX1_gather_27 : decode cX1_gather 27 = .ok (.getfield 45, 3) := by decide +kernel
theorem dX1_gather_30 : decode cX1_gather 30 = .ok (.iconst 0, 1) := by decide +kernel
theorem dX1_gather_31 : decode cX1_gather 31 = .ok (.iaload, 1) := by decide +kernel
theorem dX1_gather_32 : decode cX1_gather 32 = .ok (.putfield 48, 3) := by decide +kernel
theorem dX1_gather_35 : decode cX1_gather 35 = .ok (.aload_n 0, 1) := by decide +kernel
theorem dX1_gather_36 : decode cX1_gather 36 = .ok (.aload_n 0, 1) := by decide +kernel
theorem dX1_gather_37 : decode cX1_gather 37 = .ok (.getfield 24, 3) := by decide +kernel
theorem dX1_gather_40 : decode cX1_gather 40 = .ok (.getfield 45, 3) := by decide +kernel
theorem dX1_gather_43 : decode cX1_gather 43 = .ok (.iconst 1, 1) := by decide +kernel
theorem dX1_gather_44 : decode cX1_gather 44 = .ok (.iaload, 1) := by decide +kernel
theorem dX1_gather_45 : decode cX1_gather 45 = .ok (.putfield 51, 3) := by decide +kernel
theorem dX1_gather_48 : decode cX1_gather 48 = .ok (.aload_n 0, 1) := by decide +kernel
theorem dX1_gather_49 : decode cX1_gather 49 = .ok (.aload_n 0, 1) := by decide +kernel
theorem dX1_gather_50 : decode cX1_gather 50 = .ok (.getfield 24, 3) := by decide +kernel
theorem dX1_gather_53 : decode cX1_gather 53 = .ok (.getfield 45, 3) := by decide +kernel
theorem dX1_gather_56 : decode cX1_gather 56 = .ok (.iconst 2, 1) := by decide +kernel
theorem dX1_gather_57 : decode cX1_gather 57 = .ok (.iaload, 1) := by decide +kernel
theorem dX1_gather_58 : decode cX1_gather 58 = .ok (.putfield 54, 3) := by decide +kernel
theorem dX1_gather_61 : decode cX1_gather 61 = .ok (.aload_n 0, 1) := by decide +kernel
theorem dX1_gather_62 : decode cX1_gather 62 = .ok (.iconst 0, 1) := by decide +kernel
theorem dX1_gather_63 : decode cX1_gather 63 = .ok (.putfield 57, 3) := by decide +kernel
theorem dX1_gather_66 : decode cX1_gather 66 = .ok (.aload_n 0, 1) := by decide +kernel
theorem dX1_gather_67 : decode cX1_gather 67 = .ok (.getfield 24, 3) := by decide +kernel
theorem dX1_gather_70 : decode cX1_gather 70 = .ok (.getfield 60, 3) := by decide +kernel
theorem dX1_gather_73 : decode cX1_gather 73 = .ok (.iconst 0, 1) := by decide +kernel
theorem dX1_gather_74 : decode cX1_gather 74 = .ok (.aload_n 0, 1) := by decide +kernel
theorem dX1_gather_75 : decode cX1_gather 75 = .ok (.getfield 9, 3) := by decide +kernel
theorem dX1_gather_78 : decode cX1_gather 78 = .ok (.iconst 0, 1) := by decide +kernel
theorem dX1_gather_79 : decode cX1_gather 79 = .ok (.bipush 16, 2) := by decide +kernel
theorem dX1_gather_81 : decode cX1_gather 81 = .ok (.invokestatic 61, 3) := by decide +kernel
theorem dX1_gather_84 : decode cX1_gather 84 = .ok (.aload_n 0, 1) := by decide +kernel
theorem dX1_gather_85 : decode cX1_gather 85 = .ok (.getfield 24, 3) := by decide +kernel
theorem dX1_gather_88 : decode cX1_gather 88 = .ok (.getfield 67, 3) := by decide +kernel
theorem dX1_gather_91 : decode cX1_gather 91 = .ok (.iconst 0, 1) := by decide +kernel
theorem dX1_gather_92 : decode cX1_gather 92 = .ok (.aload_n 0, 1) := by decide +kernel
theorem dX1_gather_93 : decode cX1_gather 93 = .ok (.getfield 15, 3) := by decide +kernel
theorem dX1_gather_96 : decode cX1_gather 96 = .ok (.iconst 0, 1) := by decide +kernel
theorem dX1_gather_97 : decode cX1_gather 97 = .ok (.iconst 4, 1) := by decide +kernel
theorem dX1_gather_98 : decode cX1_gather 98 = .ok (.invokestatic 61, 3) := by decide +kernel
theorem dX1_gather_101 : decode cX1_gather 101 = .ok (.aload_n 0, 1) := by decide +kernel
theorem dX1_gather_102 : decode cX1_gather 102 = .ok (.getfield 28, 3) := by decide +kernel
theorem dX1_gather_105 : decode cX1_gather 105 = .ok (.iconst 0, 1) := by decide +kernel
theorem dX1_gather_106 : decode cX1_gather 106 = .ok (.aload_n 0, 1) := by decide +kernel
theorem dX1_gather_107 : decode cX1_gather 107 = .ok (.getfield 18, 3) := by decide +kernel
theorem dX1_gather_110 : decode cX1_gather 110 = .ok (.iconst 0, 1) := by decide +kernel
theorem dX1_gather_111 : decode cX1_gather 111 = .ok (.iconst 4, 1) := by decide +kernel
theorem dX1_gather_112 : decode cX1_gather 112 = .ok (.invokestatic 61, 3) := by decide +kernel
theorem dX1_gather_115 : decode cX1_gather 115 = .ok (.aload_n 0, 1) := by decide +kernel
theorem dX1_gather_116 : decode cX1_gather 116 = .ok (.getfield 31, 3) := by decide +kernel
theorem dX1_gather_119 : decode cX1_gather 119 = .ok (.iconst 0, 1) := by decide +kernel
theorem dX1_gather_120 : decode cX1_gather 120 = .ok (.aload_n 0, 1) := by decide +kernel
theorem dX1_gather_121 : decode cX1_gather 121 = .ok (.getfield 21, 3) := by decide +kernel
theorem dX1_gather_124 : decode cX1_gather 124 = .ok (.iconst 0, 1) := by decide +kernel
theorem dX1_gather_125 : decode cX1_gather 125 = .ok (.iconst 4, 1) := by decide +kernel
theorem dX1_gather_126 : decode cX1_gather 126 = .ok (.invokestatic 61, 3) := by decide +kernel
theorem dX1_gather_129 : decode cX1_gather 129 = .ok (.return_, 1) := by decide +kernel
theorem dX1_seatOneMore_0 : decode cX1_seatOneMore 0 = .ok (.aload_n 0, 1) := by decide +kernel
theorem dX1_seatOneMore_1 : decode cX1_seatOneMore 1 = .ok (.getfield 40, 3) := by decide +kernel
theorem dX1_seatOneMore_4 : decode cX1_seatOneMore 4 = .ok (.iconst 4, 1) := by decide +kernel
theorem dX1_seatOneMore_5 : decode cX1_seatOneMore 5 = .ok (.if_icmp .lt 4, 3) := by decide +kernel
theorem dX1_seatOneMore_8 : decode cX1_seatOneMore 8 = .ok (.return_, 1) := by decide +kernel
theorem dX1_seatOneMore_9 : decode cX1_seatOneMore 9 = .ok (.aload_n 0, 1) := by decide +kernel
theorem dX1_seatOneMore_10 : decode cX1_seatOneMore 10 = .ok (.getfield 9, 3) := by decide +kernel
theorem dX1_seatOneMore_13 : decode cX1_seatOneMore 13 = .ok (.iconst 4, 1) := by decide +kernel
theorem dX1_seatOneMore_14 : decode cX1_seatOneMore 14 = .ok (.aload_n 0, 1) := by decide +kernel
theorem dX1_seatOneMore_15 : decode cX1_seatOneMore 15 = .ok (.getfield 40, 3) := by decide +kernel
theorem dX1_seatOneMore_18 : decode cX1_seatOneMore 18 = .ok (.imul, 1) := by decide +kernel
theorem dX1_seatOneMore_19 : decode cX1_seatOneMore 19 = .ok (.iconst 0, 1) := by decide +kernel
theorem dX1_seatOneMore_20 : decode cX1_seatOneMore 20 = .ok (.iadd, 1) := by decide +kernel
theorem dX1_seatOneMore_21 : decode cX1_seatOneMore 21 = .ok (.iload_n 1, 1) := by decide +kernel
theorem dX1_seatOneMore_22 : decode cX1_seatOneMore 22 = .ok (.iastore, 1) := by decide +kernel
theorem dX1_seatOneMore_23 : decode cX1_seatOneMore 23 = .ok (.aload_n 0, 1) := by decide +kernel
theorem dX1_seatOneMore_24 : decode cX1_seatOneMore 24 = .ok (.getfield 18, 3) := by decide +kernel
theorem dX1_seatOneMore_27 : decode cX1_seatOneMore 27 = .ok (.aload_n 0, 1) := by decide +kernel
theorem dX1_seatOneMore_28 : decode cX1_seatOneMore 28 = .ok (.getfield 40, 3) := by decide +kernel
theorem dX1_seatOneMore_31 : decode cX1_seatOneMore 31 = .ok (.iconst 0, 1) := by decide +kernel
theorem dX1_seatOneMore_32 : decode cX1_seatOneMore 32 = .ok (.iastore, 1) := by decide +kernel
theorem dX1_seatOneMore_33 : decode cX1_seatOneMore 33 = .ok (.aload_n 0, 1) := by decide +kernel
theorem dX1_seatOneMore_34 : decode cX1_seatOneMore 34 = .ok (.getfield 21, 3) := by decide +kernel
theorem dX1_seatOneMore_37 : decode cX1_seatOneMore 37 = .ok (.aload_n 0, 1) := by decide +kernel
theorem dX1_seatOneMore_38 : decode cX1_seatOneMore 38 = .ok (.getfield 40, 3) := by decide +kernel
theorem dX1_seatOneMore_41 : decode cX1_seatOneMore 41 = .ok (.iconst 4, 1) := by decide +kernel
theorem dX1_seatOneMore_42 : decode cX1_seatOneMore 42 = .ok (.iastore, 1) := by decide +kernel
theorem dX1_seatOneMore_43 : decode cX1_seatOneMore 43 = .ok (.aload_n 0, 1) := by decide +kernel
theorem dX1_seatOneMore_44 : decode cX1_seatOneMore 44 = .ok (.dup, 1) := by decide +kernel
theorem dX1_seatOneMore_45 : decode cX1_seatOneMore 45 = .ok (.getfield 40, 3) := by decide +kernel
theorem dX1_seatOneMore_48 : decode cX1_seatOneMore 48 = .ok (.iconst 1, 1) := by decide +kernel
theorem dX1_seatOneMore_49 : decode cX1_seatOneMore 49 = .ok (.iadd, 1) := by decide +kernel
theorem dX1_seatOneMore_50 : decode cX1_seatOneMore 50 = .ok (.putfield 40, 3) := by decide +kernel
theorem dX1_seatOneMore_53 : decode cX1_seatOneMore 53 = .ok (.return_, 1) := by decide +kernel
theorem dX1_isThere_0 : decode cX1_isThere 0 = .ok (.iload_n 2, 1) := by decide +kernel
theorem dX1_isThere_1 : decode cX1_isThere 1 = .ok (.aload_n 0, 1) := by decide +kernel
theorem dX1_isThere_2 : decode cX1_isThere 2 = .ok (.getfield 21, 3) := by decide +kernel
theorem dX1_isThere_5 : decode cX1_isThere 5 = .ok (.iload_n 1, 1) := by decide +kernel
theorem dX1_isThere_6 : decode cX1_isThere 6 = .ok (.iaload, 1) := by decide +kernel
theorem dX1_isThere_7 : decode cX1_isThere 7 = .ok (.if_icmp .ge 18, 3) := by decide +kernel
theorem dX1_isThere_10 : decode cX1_isThere 10 = .ok (.aload_n 0, 1) := by decide +kernel
theorem dX1_isThere_11 : decode cX1_isThere 11 = .ok (.getfield 57, 3) := by decide +kernel
theorem dX1_isThere_14 : decode cX1_isThere 14 = .ok (.iload_n 1, 1) := by decide +kernel
theorem dX1_isThere_15 : decode cX1_isThere 15 = .ok (.ishr, 1) := by decide +kernel
theorem dX1_isThere_16 : decode cX1_isThere 16 = .ok (.iconst 1, 1) := by decide +kernel
theorem dX1_isThere_17 : decode cX1_isThere 17 = .ok (.iand, 1) := by decide +kernel
theorem dX1_isThere_18 : decode cX1_isThere 18 = .ok (.ifCond .ne 7, 3) := by decide +kernel
theorem dX1_isThere_21 : decode cX1_isThere 21 = .ok (.iconst 1, 1) := by decide +kernel
theorem dX1_isThere_22 : decode cX1_isThere 22 = .ok (.goto 4, 3) := by decide +kernel
theorem dX1_isThere_25 : decode cX1_isThere 25 = .ok (.iconst 0, 1) := by decide +kernel
theorem dX1_isThere_26 : decode cX1_isThere 26 = .ok (.ireturn, 1) := by decide +kernel
theorem dX1_quartersAt_0 : decode cX1_quartersAt 0 = .ok (.aload_n 0, 1) := by decide +kernel
theorem dX1_quartersAt_1 : decode cX1_quartersAt 1 = .ok (.iload_n 1, 1) := by decide +kernel
theorem dX1_quartersAt_2 : decode cX1_quartersAt 2 = .ok (.iload_n 2, 1) := by decide +kernel
theorem dX1_quartersAt_3 : decode cX1_quartersAt 3 = .ok (.invokevirtual 68, 3) := by decide +kernel
theorem dX1_quartersAt_6 : decode cX1_quartersAt 6 = .ok (.ifCond .ne 5, 3) := by decide +kernel
theorem dX1_quartersAt_9 : decode cX1_quartersAt 9 = .ok (.iconst 0, 1) := by decide +kernel
theorem dX1_quartersAt_10 : decode cX1_quartersAt 10 = .ok (.ireturn, 1) := by decide +kernel
theorem dX1_quartersAt_11 : decode cX1_quartersAt 11 = .ok (.iload_n 2, 1) := by decide +kernel
theorem dX1_quartersAt_12 : decode cX1_quartersAt 12 = .ok (.ifCond .ne 7, 3) := by decide +kernel
theorem dX1_quartersAt_15 : decode cX1_quartersAt 15 = .ok (.iconst 0, 1) := by decide +kernel
theorem dX1_quartersAt_16 : decode cX1_quartersAt 16 = .ok (.goto 13, 3) := by decide +kernel
theorem dX1_quartersAt_19 : decode cX1_quartersAt 19 = .ok (.aload_n 0, 1) := by decide +kernel
theorem dX1_quartersAt_20 : decode cX1_quartersAt 20 = .ok (.getfield 15, 3) := by decide +kernel
theorem dX1_quartersAt_23 : decode cX1_quartersAt 23 = .ok (.iload_n 2, 1) := by decide +kernel
theorem dX1_quartersAt_24 : decode cX1_quartersAt 24 = .ok (.iconst 1, 1) := by decide +kernel
theorem dX1_quartersAt_25 : decode cX1_quartersAt 25 = .ok (.isub, 1) := by decide +kernel
theorem dX1_quartersAt_26 : decode cX1_quartersAt 26 = .ok (.iaload, 1) := by decide +kernel
theorem dX1_quartersAt_27 : decode cX1_quartersAt 27 = .ok (.iconst 2, 1) := by decide +kernel
theorem dX1_quartersAt_28 : decode cX1_quartersAt 28 = .ok (.idiv, 1) := by decide +kernel
theorem dX1_quartersAt_29 : decode cX1_quartersAt 29 = .ok (.istore_n 3, 1) := by decide +kernel
theorem dX1_quartersAt_30 : decode cX1_quartersAt 30 = .ok (.aload_n 0, 1) := by decide +kernel
theorem dX1_quartersAt_31 : decode cX1_quartersAt 31 = .ok (.getfield 9, 3) := by decide +kernel
theorem dX1_quartersAt_34 : decode cX1_quartersAt 34 = .ok (.iconst 4, 1) := by decide +kernel
theorem dX1_quartersAt_35 : decode cX1_quartersAt 35 = .ok (.iload_n 1, 1) := by decide +kernel
theorem dX1_quartersAt_36 : decode cX1_quartersAt 36 = .ok (.imul, 1) := by decide +kernel
theorem dX1_quartersAt_37 : decode cX1_quartersAt 37 = .ok (.iconst 0, 1) := by decide +kernel
theorem dX1_quartersAt_38 : decode cX1_quartersAt 38 = .ok (.iadd, 1) := by decide +kernel
theorem dX1_quartersAt_39 : decode cX1_quartersAt 39 = .ok (.iaload, 1) := by decide +kernel
theorem dX1_quartersAt_40 : decode cX1_quartersAt 40 = .ok (.aload_n 0, 1) := by decide +kernel
theorem dX1_quartersAt_41 : decode cX1_quartersAt 41 = .ok (.getfield 15, 3) := by decide +kernel
theorem dX1_quartersAt_44 : decode cX1_quartersAt 44 = .ok (.iload_n 2, 1) := by decide +kernel
theorem dX1_quartersAt_45 : decode cX1_quartersAt 45 = .ok (.iaload, 1) := by decide +kernel
theorem dX1_quartersAt_46 : decode cX1_quartersAt 46 = .ok (.iload_n 3, 1) := by decide +kernel
theorem dX1_quartersAt_47 : decode cX1_quartersAt 47 = .ok (.aload_n 0, 1) := by decide +kernel
theorem dX1_quartersAt_48 : decode cX1_quartersAt 48 = .ok (.getfield 18, 3) := by decide +kernel
theorem dX1_quartersAt_51 : decode cX1_quartersAt 51 = .ok (.iload_n 1, 1) := by decide +kernel
theorem dX1_quartersAt_52 : decode cX1_quartersAt 52 = .ok (.iaload, 1) := by decide +kernel
theorem dX1_quartersAt_53 : decode cX1_quartersAt 53 = .ok (.iload_n 2, 1) := by decide +kernel
theorem dX1_quartersAt_54 : decode cX1_quartersAt 54 = .ok (.invokestatic 72, 3) := by decide +kernel
theorem dX1_quartersAt_57 : decode cX1_quartersAt 57 = .ok (.invokestatic 75, 3) := by decide +kernel
theorem dX1_quartersAt_60 : decode cX1_quartersAt 60 = .ok (.ireturn, 1) := by decide +kernel
theorem dX1_feesOf_0 : decode cX1_feesOf 0 = .ok (.aload_n 0, 1) := by decide +kernel
theorem dX1_feesOf_1 : decode cX1_feesOf 1 = .ok (.getfield 21, 3) := by decide +kernel
theorem dX1_feesOf_4 : decode cX1_feesOf 4 = .ok (.iload_n 1, 1) := by decide +kernel
theorem dX1_feesOf_5 : decode cX1_feesOf 5 = .ok (.iaload, 1) := by decide +kernel
theorem dX1_feesOf_6 : decode cX1_feesOf 6 = .ok (.aload_n 0, 1) := by decide +kernel
theorem dX1_feesOf_7 : decode cX1_feesOf 7 = .ok (.getfield 44, 3) := by decide +kernel
theorem dX1_feesOf_10 : decode cX1_feesOf 10 = .ok (.if_icmp .ge 16, 3) := by decide +kernel
theorem dX1_feesOf_13 : decode cX1_feesOf 13 = .ok (.aload_n 0, 1) := by decide +kernel
theorem dX1_feesOf_14 : decode cX1_feesOf 14 = .ok (.getfield 9, 3) := by decide +kernel
theorem dX1_feesOf_17 : decode cX1_feesOf 17 = .ok (.iconst 4, 1) := by decide +kernel
theorem dX1_feesOf_18 : decode cX1_feesOf 18 = .ok (.iload_n 1, 1) := by decide +kernel
theorem dX1_feesOf_19 : decode cX1_feesOf 19 = .ok (.imul, 1) := by decide +kernel
theorem dX1_feesOf_20 : decode cX1_feesOf 20 = .ok (.iconst 2, 1) := by decide +kernel
theorem dX1_feesOf_21 : decode cX1_feesOf 21 = .ok (.iadd, 1) := by decide +kernel
theorem dX1_feesOf_22 : decode cX1_feesOf 22 = .ok (.iaload, 1) := by decide +kernel
theorem dX1_feesOf_23 : decode cX1_feesOf 23 = .ok (.goto 4, 3) := by decide +kernel
theorem dX1_feesOf_26 : decode cX1_feesOf 26 = .ok (.iconst 0, 1) := by decide +kernel
theorem dX1_feesOf_27 : decode cX1_feesOf 27 = .ok (.istore_n 2, 1) := by decide +kernel
theorem dX1_feesOf_28 : decode cX1_feesOf 28 = .ok (.iconst 0, 1) := by decide +kernel
theorem dX1_feesOf_29 : decode cX1_feesOf 29 = .ok (.istore_n 3, 1) := by decide +kernel
theorem dX1_feesOf_30 : decode cX1_feesOf 30 = .ok (.iload_n 3, 1) := by decide +kernel
theorem dX1_feesOf_31 : decode cX1_feesOf 31 = .ok (.aload_n 0, 1) := by decide +kernel
theorem dX1_feesOf_32 : decode cX1_feesOf 32 = .ok (.getfield 44, 3) := by decide +kernel
theorem dX1_feesOf_35 : decode cX1_feesOf 35 = .ok (.if_icmp .ge 44, 3) := by decide +kernel
theorem dX1_feesOf_38 : decode cX1_feesOf 38 = .ok (.aload_n 0, 1) := by decide +kernel
theorem dX1_feesOf_39 : decode cX1_feesOf 39 = .ok (.iload_n 1, 1) := by decide +kernel
theorem dX1_feesOf_40 : decode cX1_feesOf 40 = .ok (.iload_n 3, 1) := by decide +kernel
theorem dX1_feesOf_41 : decode cX1_feesOf 41 = .ok (.invokevirtual 68, 3) := by decide +kernel
theorem dX1_feesOf_44 : decode cX1_feesOf 44 = .ok (.ifCond .eq 29, 3) := by decide +kernel
theorem dX1_feesOf_47 : decode cX1_feesOf 47 = .ok (.aload_n 0, 1) := by decide +kernel
theorem dX1_feesOf_48 : decode cX1_feesOf 48 = .ok (.getfield 18, 3) := by decide +kernel
theorem dX1_feesOf_51 : decode cX1_feesOf 51 = .ok (.iload_n 1, 1) := by decide +kernel
theorem dX1_feesOf_52 : decode cX1_feesOf 52 = .ok (.iaload, 1) := by decide +kernel
theorem dX1_feesOf_53 : decode cX1_feesOf 53 = .ok (.iload_n 3, 1) := by decide +kernel
theorem dX1_feesOf_54 : decode cX1_feesOf 54 = .ok (.invokestatic 72, 3) := by decide +kernel
theorem dX1_feesOf_57 : decode cX1_feesOf 57 = .ok (.ifCond .eq 16, 3) := by decide +kernel
theorem dX1_feesOf_60 : decode cX1_feesOf 60 = .ok (.iload_n 2, 1) := by decide +kernel
theorem dX1_feesOf_61 : decode cX1_feesOf 61 = .ok (.aload_n 0, 1) := by decide +kernel
theorem dX1_feesOf_62 : decode cX1_feesOf 62 = .ok (.getfield 9, 3) := by decide +kernel
theorem dX1_feesOf_65 : decode cX1_feesOf 65 = .ok (.iconst 4, 1) := by decide +kernel
theorem dX1_feesOf_66 : decode cX1_feesOf 66 = .ok (.iload_n 1, 1) := by decide +kernel
theorem dX1_feesOf_67 : decode cX1_feesOf 67 = .ok (.imul, 1) := by decide +kernel
theorem dX1_feesOf_68 : decode cX1_feesOf 68 = .ok (.iconst 1, 1) := by decide +kernel
theorem dX1_feesOf_69 : decode cX1_feesOf 69 = .ok (.iadd, 1) := by decide +kernel
theorem dX1_feesOf_70 : decode cX1_feesOf 70 = .ok (.iaload, 1) := by decide +kernel
theorem dX1_feesOf_71 : decode cX1_feesOf 71 = .ok (.iadd, 1) := by decide +kernel
theorem dX1_feesOf_72 : decode cX1_feesOf 72 = .ok (.istore_n 2, 1) := by decide +kernel
theorem dX1_feesOf_73 : decode cX1_feesOf 73 = .ok (.iinc 3 1, 3) := by decide +kernel
theorem dX1_feesOf_76 : decode cX1_feesOf 76 = .ok (.goto (-46), 3) := by decide +kernel
theorem dX1_feesOf_79 : decode cX1_feesOf 79 = .ok (.iload_n 2, 1) := by decide +kernel
theorem dX1_feesOf_80 : decode cX1_feesOf 80 = .ok (.ireturn, 1) := by decide +kernel
theorem dX2_init_0 : decode cX2_init 0 = .ok (.aload_n 0, 1) := by decide +kernel
theorem dX2_init_1 : decode cX2_init 1 = .ok (.invokespecial 3, 3) := by decide +kernel
theorem dX2_init_4 : decode cX2_init 4 = .ok (.return_, 1) := by decide +kernel
theorem dX2_endOfEvening_0 : decode cX2_endOfEvening 0 = .ok (.aload_n 1, 1) := by decide +kernel
theorem dX2_endOfEvening_1 : decode cX2_endOfEvening 1 = .ok (.getfield 9, 3) := by decide +kernel
theorem dX2_endOfEvening_4 : decode cX2_endOfEvening 4 = .ok (.istore_n 2, 1) := by decide +kernel
theorem dX2_endOfEvening_5 : decode cX2_endOfEvening 5 = .ok (.iconst 0, 1) := by decide +kernel
theorem dX2_endOfEvening_6 : decode cX2_endOfEvening 6 = .ok (.istore_n 3, 1) := by decide +kernel
theorem dX2_endOfEvening_7 : decode cX2_endOfEvening 7 = .ok (.iconst 0, 1) := by decide +kernel
theorem dX2_endOfEvening_8 : decode cX2_endOfEvening 8 = .ok (.istore 4, 2) := by decide +kernel
theorem dX2_endOfEvening_10 : decode cX2_endOfEvening 10 = .ok (.iload 4, 2) := by decide +kernel
theorem dX2_endOfEvening_12 : decode cX2_endOfEvening 12 = .ok (.aload_n 1, 1) := by decide +kernel
theorem dX2_endOfEvening_13 : decode cX2_endOfEvening 13 = .ok (.getfield 15, 3) := by decide +kernel
theorem dX2_endOfEvening_16 : decode cX2_endOfEvening 16 = .ok (.if_icmp .ge 49, 3) := by decide +kernel
theorem dX2_endOfEvening_19 : decode cX2_endOfEvening 19 = .ok (.aload_n 0, 1) := by decide +kernel
theorem dX2_endOfEvening_20 : decode cX2_endOfEvening 20 = .ok (.aload_n 1, 1) := by decide +kernel
theorem dX2_endOfEvening_21 : decode cX2_endOfEvening 21 = .ok (.getfield 18, 3) := by decide +kernel
theorem dX2_endOfEvening_24 : decode cX2_endOfEvening 24 = .ok (.aload_n 0, 1) := by decide +kernel
theorem dX2_endOfEvening_25 : decode cX2_endOfEvening 25 = .ok (.aload_n 1, 1) := by decide +kernel
theorem dX2_endOfEvening_26 : decode cX2_endOfEvening 26 = .ok (.iload 4, 2) := by decide +kernel
theorem dX2_endOfEvening_28 : decode cX2_endOfEvening 28 = .ok (.invokevirtual 21, 3) := by decide +kernel
theorem dX2_endOfEvening_31 : decode cX2_endOfEvening 31 = .ok (.invokevirtual 27, 3) := by decide +kernel
theorem dX2_endOfEvening_34 : decode cX2_endOfEvening 34 = .ok (.istore 5, 2) := by decide +kernel
theorem dX2_endOfEvening_36 : decode cX2_endOfEvening 36 = .ok (.iload 5, 2) := by decide +kernel
theorem dX2_endOfEvening_38 : decode cX2_endOfEvening 38 = .ok (.iconst (-1), 1) := by decide +kernel
theorem dX2_endOfEvening_39 : decode cX2_endOfEvening 39 = .ok (.if_icmp .eq 20, 3) := by decide +kernel
theorem dX2_endOfEvening_42 : decode cX2_endOfEvening 42 = .ok (.iload_n 3, 1) := by decide +kernel
theorem dX2_endOfEvening_43 : decode cX2_endOfEvening 43 = .ok (.ifCond .eq 11, 3) := by decide +kernel
theorem dX2_endOfEvening_46 : decode cX2_endOfEvening 46 = .ok (.aload_n 1, 1) := by decide +kernel
theorem dX2_endOfEvening_47 : decode cX2_endOfEvening 47 = .ok (.getfield 31, 3) := by decide +kernel
theorem dX2_endOfEvening_50 : decode cX2_endOfEvening 50 = .ok (.iconst 1, 1) := by decide +kernel
theorem dX2_endOfEvening_51 : decode cX2_endOfEvening 51 = .ok (.if_icmp .eq 8, 3) := by decide +kernel
theorem dX2_endOfEvening_54 : decode cX2_endOfEvening 54 = .ok (.iload 5, 2) := by decide +kernel
theorem dX2_endOfEvening_56 : decode cX2_endOfEvening 56 = .ok (.istore_n 2, 1) := by decide +kernel
theorem dX2_endOfEvening_57 : decode cX2_endOfEvening 57 = .ok (.iconst 1, 1) := by decide +kernel
theorem dX2_endOfEvening_58 : decode cX2_endOfEvening 58 = .ok (.istore_n 3, 1) := by decide +kernel
theorem dX2_endOfEvening_59 : decode cX2_endOfEvening 59 = .ok (.iinc 4 1, 3) := by decide +kernel
theorem dX2_endOfEvening_62 : decode cX2_endOfEvening 62 = .ok (.goto (-52), 3) := by decide +kernel
theorem dX2_endOfEvening_65 : decode cX2_endOfEvening 65 = .ok (.iload_n 2, 1) := by decide +kernel
theorem dX2_endOfEvening_66 : decode cX2_endOfEvening 66 = .ok (.ireturn, 1) := by decide +kernel
theorem dX2_laughing_0 : decode cX2_laughing 0 = .ok (.iconst 0, 1) := by decide +kernel
theorem dX2_laughing_1 : decode cX2_laughing 1 = .ok (.istore_n 3, 1) := by decide +kernel
theorem dX2_laughing_2 : decode cX2_laughing 2 = .ok (.iconst 0, 1) := by decide +kernel
theorem dX2_laughing_3 : decode cX2_laughing 3 = .ok (.istore 4, 2) := by decide +kernel
theorem dX2_laughing_5 : decode cX2_laughing 5 = .ok (.iload 4, 2) := by decide +kernel
theorem dX2_laughing_7 : decode cX2_laughing 7 = .ok (.aload_n 1, 1) := by decide +kernel
theorem dX2_laughing_8 : decode cX2_laughing 8 = .ok (.getfield 34, 3) := by decide +kernel
theorem dX2_laughing_11 : decode cX2_laughing 11 = .ok (.if_icmp .ge 41, 3) := by decide +kernel
theorem dX2_laughing_14 : decode cX2_laughing 14 = .ok (.aload_n 1, 1) := by decide +kernel
theorem dX2_laughing_15 : decode cX2_laughing 15 = .ok (.iload 4, 2) := by decide +kernel
theorem dX2_laughing_17 : decode cX2_laughing 17 = .ok (.iload_n 2, 1) := by decide +kernel
theorem dX2_laughing_18 : decode cX2_laughing 18 = .ok (.invokevirtual 37, 3) := by decide +kernel
theorem dX2_laughing_21 : decode cX2_laughing 21 = .ok (.ifCond .eq 25, 3) := by decide +kernel
theorem dX2_laughing_24 : decode cX2_laughing 24 = .ok (.aload_n 0, 1) := by decide +kernel
theorem dX2_laughing_25 : decode cX2_laughing 25 = .ok (.iconst 4, 1) := by decide +kernel
theorem dX2_laughing_26 : decode cX2_laughing 26 = .ok (.invokevirtual 41, 3) := by decide +kernel
theorem dX2_laughing_29 : decode cX2_laughing 29 = .ok (.aload_n 1, 1) := by decide +kernel
theorem dX2_laughing_30 : decode cX2_laughing 30 = .ok (.iload 4, 2) := by decide +kernel
theorem dX2_laughing_32 : decode cX2_laughing 32 = .ok (.iload_n 2, 1) := by decide +kernel
theorem dX2_laughing_33 : decode cX2_laughing 33 = .ok (.invokevirtual 45, 3) := by decide +kernel
theorem dX2_laughing_36 : decode cX2_laughing 36 = .ok (.if_icmp .ge 10, 3) := by decide +kernel
theorem dX2_laughing_39 : decode cX2_laughing 39 = .ok (.iload_n 3, 1) := by decide +kernel
theorem dX2_laughing_40 : decode cX2_laughing 40 = .ok (.iconst 1, 1) := by decide +kernel
theorem dX2_laughing_41 : decode cX2_laughing 41 = .ok (.iload 4, 2) := by decide +kernel
theorem dX2_laughing_43 : decode cX2_laughing 43 = .ok (.ishl, 1) := by decide +kernel
theorem dX2_laughing_44 : decode cX2_laughing 44 = .ok (.ior, 1) := by decide +kernel
theorem dX2_laughing_45 : decode cX2_laughing 45 = .ok (.istore_n 3, 1) := by decide +kernel
theorem dX2_laughing_46 : decode cX2_laughing 46 = .ok (.iinc 4 1, 3) := by decide +kernel
theorem dX2_laughing_49 : decode cX2_laughing 49 = .ok (.goto (-44), 3) := by decide +kernel
theorem dX2_laughing_52 : decode cX2_laughing 52 = .ok (.iload_n 3, 1) := by decide +kernel
theorem dX2_laughing_53 : decode cX2_laughing 53 = .ok (.ireturn, 1) := by decide +kernel
theorem dX2_takerOf_0 : decode cX2_takerOf 0 = .ok (.iload_n 2, 1) := by decide +kernel
theorem dX2_takerOf_1 : decode cX2_takerOf 1 = .ok (.invokestatic 48, 3) := by decide +kernel
theorem dX2_takerOf_4 : decode cX2_takerOf 4 = .ok (.istore_n 3, 1) := by decide +kernel
theorem dX2_takerOf_5 : decode cX2_takerOf 5 = .ok (.iload_n 3, 1) := by decide +kernel
theorem dX2_takerOf_6 : decode cX2_takerOf 6 = .ok (.iconst 1, 1) := by decide +kernel
theorem dX2_takerOf_7 : decode cX2_takerOf 7 = .ok (.if_icmp .le 9, 3) := by decide +kernel
theorem dX2_takerOf_10 : decode cX2_takerOf 10 = .ok (.iload_n 1, 1) := by decide +kernel
theorem dX2_takerOf_11 : decode cX2_takerOf 11 = .ok (.ifCond .ne 5, 3) := by decide +kernel
theorem dX2_takerOf_14 : decode cX2_takerOf 14 = .ok (.iconst (-1), 1) := by decide +kernel
theorem dX2_takerOf_15 : decode cX2_takerOf 15 = .ok (.ireturn, 1) := by decide +kernel
theorem dX2_takerOf_16 : decode cX2_takerOf 16 = .ok (.iload_n 3, 1) := by decide +kernel
theorem dX2_takerOf_17 : decode cX2_takerOf 17 = .ok (.iconst 1, 1) := by decide +kernel
theorem dX2_takerOf_18 : decode cX2_takerOf 18 = .ok (.if_icmp .le 16, 3) := by decide +kernel
theorem dX2_takerOf_21 : decode cX2_takerOf 21 = .ok (.iload_n 1, 1) := by decide +kernel
theorem dX2_takerOf_22 : decode cX2_takerOf 22 = .ok (.iconst 2, 1) := by decide +kernel
theorem dX2_takerOf_23 : decode cX2_takerOf 23 = .ok (.if_icmp .ne 11, 3) := by decide +kernel
theorem dX2_takerOf_26 : decode cX2_takerOf 26 = .ok (.aload_n 0, 1) := by decide +kernel
theorem dX2_takerOf_27 : decode cX2_takerOf 27 = .ok (.iload_n 3, 1) := by decide +kernel
theorem dX2_takerOf_28 : decode cX2_takerOf 28 = .ok (.invokevirtual 41, 3) := by decide +kernel
theorem dX2_takerOf_31 : decode cX2_takerOf 31 = .ok (.goto 4, 3) := by decide +kernel
theorem dX2_takerOf_34 : decode cX2_takerOf 34 = .ok (.iconst 0, 1) := by decide +kernel
theorem dX2_takerOf_35 : decode cX2_takerOf 35 = .ok (.istore 4, 2) := by decide +kernel
theorem dX2_takerOf_37 : decode cX2_takerOf 37 = .ok (.iconst 0, 1) := by decide +kernel
theorem dX2_takerOf_38 : decode cX2_takerOf 38 = .ok (.istore 5, 2) := by decide +kernel
theorem dX2_takerOf_40 : decode cX2_takerOf 40 = .ok (.iload 5, 2) := by decide +kernel
theorem dX2_takerOf_42 : decode cX2_takerOf 42 = .ok (.iconst 4, 1) := by decide +kernel
theorem dX2_takerOf_43 : decode cX2_takerOf 43 = .ok (.if_icmp .ge 29, 3) := by decide +kernel
theorem dX2_takerOf_46 : decode cX2_takerOf 46 = .ok (.iload_n 2, 1) := by decide +kernel
theorem dX2_takerOf_47 : decode cX2_takerOf 47 = .ok (.iload 5, 2) := by decide +kernel
theorem dX2_takerOf_49 : decode cX2_takerOf 49 = .ok (.invokestatic 53, 3) := by decide +kernel
theorem dX2_takerOf_52 : decode cX2_takerOf 52 = .ok (.ifCond .eq 14, 3) := by decide +kernel
theorem dX2_takerOf_55 : decode cX2_takerOf 55 = .ok (.iload 4, 2) := by decide +kernel
theorem dX2_takerOf_57 : decode cX2_takerOf 57 = .ok (.ifCond .ne 6, 3) := by decide +kernel
theorem dX2_takerOf_60 : decode cX2_takerOf 60 = .ok (.iload 5, 2) := by decide +kernel
theorem dX2_takerOf_62 : decode cX2_takerOf 62 = .ok (.ireturn, 1) := by decide +kernel
theorem dX2_takerOf_63 : decode cX2_takerOf 63 = .ok (.iinc 4 (-1), 3) := by decide +kernel
theorem dX2_takerOf_66 : decode cX2_takerOf 66 = .ok (.iinc 5 1, 3) := by decide +kernel
theorem dX2_takerOf_69 : decode cX2_takerOf 69 = .ok (.goto (-29), 3) := by decide +kernel
theorem dX2_takerOf_72 : decode cX2_takerOf 72 = .ok (.iconst (-1), 1) := by decide +kernel
theorem dX2_takerOf_73 : decode cX2_takerOf 73 = .ok (.ireturn, 1) := by decide +kernel
theorem dX2_draw_0 : decode cX2_draw 0 = .ok (.aload_n 0, 1) := by decide +kernel
theorem dX2_draw_1 : decode cX2_draw 1 = .ok (.ldc 56, 2) := by decide +kernel
theorem dX2_draw_3 : decode cX2_draw 3 = .ok (.aload_n 0, 1) := by decide +kernel
theorem dX2_draw_4 : decode cX2_draw 4 = .ok (.getfield 57, 3) := by decide +kernel
theorem dX2_draw_7 : decode cX2_draw 7 = .ok (.imul, 1) := by decide +kernel
theorem dX2_draw_8 : decode cX2_draw 8 = .ok (.sipush 12345, 3) := by decide +kernel
theorem dX2_draw_11 : decode cX2_draw 11 = .ok (.iadd, 1) := by decide +kernel
theorem dX2_draw_12 : decode cX2_draw 12 = .ok (.putfield 57, 3) := by decide +kernel
theorem dX2_draw_15 : decode cX2_draw 15 = .ok (.iload_n 1, 1) := by decide +kernel
theorem dX2_draw_16 : decode cX2_draw 16 = .ok (.ifCond .le 15, 3) := by decide +kernel
theorem dX2_draw_19 : decode cX2_draw 19 = .ok (.aload_n 0, 1) := by decide +kernel
theorem dX2_draw_20 : decode cX2_draw 20 = .ok (.getfield 57, 3) := by decide +kernel
theorem dX2_draw_23 : decode cX2_draw 23 = .ok (.bipush 16, 2) := by decide +kernel
theorem dX2_draw_25 : decode cX2_draw 25 = .ok (.iushr, 1) := by decide +kernel
theorem dX2_draw_26 : decode cX2_draw 26 = .ok (.iload_n 1, 1) := by decide +kernel
theorem dX2_draw_27 : decode cX2_draw 27 = .ok (.irem, 1) := by decide +kernel
theorem dX2_draw_28 : decode cX2_draw 28 = .ok (.goto 4, 3) := by decide +kernel
theorem dX2_draw_31 : decode cX2_draw 31 = .ok (.iconst 0, 1) := by decide +kernel
theorem dX2_draw_32 : decode cX2_draw 32 = .ok (.ireturn, 1) := by decide +kernel
theorem dX3_init_0 : decode cX3_init 0 = .ok (.aload_n 0, 1) := by decide +kernel
theorem dX3_init_1 : decode cX3_init 1 = .ok (.invokespecial 3, 3) := by decide +kernel
theorem dX3_init_4 : decode cX3_init 4 = .ok (.aload_n 0, 1) := by decide +kernel
theorem dX3_init_5 : decode cX3_init 5 = .ok (.bipush 60, 2) := by decide +kernel
theorem dX3_init_7 : decode cX3_init 7 = .ok (.newarray .int, 2) := by decide +kernel
theorem dX3_init_9 : decode cX3_init 9 = .ok (.putfield 9, 3) := by decide +kernel
theorem dX3_init_12 : decode cX3_init 12 = .ok (.aload_n 0, 1) := by decide +kernel
theorem dX3_init_13 : decode cX3_init 13 = .ok (.iconst (-1), 1) := by decide +kernel
theorem dX3_init_14 : decode cX3_init 14 = .ok (.putfield 15, 3) := by decide +kernel
theorem dX3_init_17 : decode cX3_init 17 = .ok (.aload_n 0, 1) := by decide +kernel
theorem dX3_init_18 : decode cX3_init 18 = .ok (.bipush 16, 2) := by decide +kernel
theorem dX3_init_20 : decode cX3_init 20 = .ok (.newarray .int, 2) := by decide +kernel
theorem dX3_init_22 : decode cX3_init 22 = .ok (.putfield 19, 3) := by decide +kernel
theorem dX3_init_25 : decode cX3_init 25 = .ok (.aload_n 0, 1) := by decide +kernel
theorem dX3_init_26 : decode cX3_init 26 = .ok (.iconst 4, 1) := by decide +kernel
theorem dX3_init_27 : decode cX3_init 27 = .ok (.newarray .int, 2) := by decide +kernel
theorem dX3_init_29 : decode cX3_init 29 = .ok (.putfield 22, 3) := by decide +kernel
theorem dX3_init_32 : decode cX3_init 32 = .ok (.aload_n 0, 1) := by decide +kernel
theorem dX3_init_33 : decode cX3_init 33 = .ok (.iconst 3, 1) := by decide +kernel
theorem dX3_init_34 : decode cX3_init 34 = .ok (.newarray .int, 2) := by decide +kernel
theorem dX3_init_36 : decode cX3_init 36 = .ok (.putfield 25, 3) := by decide +kernel
theorem dX3_init_39 : decode cX3_init 39 = .ok (.return_, 1) := by decide +kernel
theorem dX3_append_0 : decode cX3_append 0 = .ok (.aload_n 0, 1) := by decide +kernel
theorem dX3_append_1 : decode cX3_append 1 = .ok (.getfield 28, 3) := by decide +kernel
theorem dX3_append_4 : decode cX3_append 4 = .ok (.bipush 60, 2) := by decide +kernel
theorem dX3_append_6 : decode cX3_append 6 = .ok (.if_icmp .lt 5, 3) := by decide +kernel
theorem dX3_append_9 : decode cX3_append 9 = .ok (.iconst 0, 1) := by decide +kernel
theorem dX3_append_10 : decode cX3_append 10 = .ok (.ireturn, 1) := by decide +kernel
theorem dX3_append_11 : decode cX3_append 11 = .ok (.aload_n 0, 1) := by decide +kernel
theorem dX3_append_12 : decode cX3_append 12 = .ok (.getfield 9, 3) := by decide +kernel
theorem dX3_append_15 : decode cX3_append 15 = .ok (.aload_n 0, 1) := by decide +kernel
theorem dX3_append_16 : decode cX3_append 16 = .ok (.getfield 28, 3) := by decide +kernel
theorem dX3_append_19 : decode cX3_append 19 = .ok (.iload_n 1, 1) := by decide +kernel
theorem dX3_append_20 : decode cX3_append 20 = .ok (.iastore, 1) := by decide +kernel
theorem dX3_append_21 : decode cX3_append 21 = .ok (.aload_n 0, 1) := by decide +kernel
theorem dX3_append_22 : decode cX3_append 22 = .ok (.dup, 1) := by decide +kernel
theorem dX3_append_23 : decode cX3_append 23 = .ok (.getfield 28, 3) := by decide +kernel
theorem dX3_append_26 : decode cX3_append 26 = .ok (.iconst 1, 1) := by decide +kernel
theorem dX3_append_27 : decode cX3_append 27 = .ok (.iadd, 1) := by decide +kernel
theorem dX3_append_28 : decode cX3_append 28 = .ok (.putfield 28, 3) := by decide +kernel
theorem dX3_append_31 : decode cX3_append 31 = .ok (.aload_n 0, 1) := by decide +kernel
theorem dX3_append_32 : decode cX3_append 32 = .ok (.invokevirtual 31, 3) := by decide +kernel
theorem dX3_append_35 : decode cX3_append 35 = .ok (.iconst 1, 1) := by decide +kernel
theorem dX3_append_36 : decode cX3_append 36 = .ok (.ireturn, 1) := by decide +kernel
theorem dX3_empty_0 : decode cX3_empty 0 = .ok (.aload_n 0, 1) := by decide +kernel
theorem dX3_empty_1 : decode cX3_empty 1 = .ok (.iconst 0, 1) := by decide +kernel
theorem dX3_empty_2 : decode cX3_empty 2 = .ok (.putfield 28, 3) := by decide +kernel
theorem dX3_empty_5 : decode cX3_empty 5 = .ok (.aload_n 0, 1) := by decide +kernel
theorem dX3_empty_6 : decode cX3_empty 6 = .ok (.invokevirtual 31, 3) := by decide +kernel
theorem dX3_empty_9 : decode cX3_empty 9 = .ok (.return_, 1) := by decide +kernel
theorem dX3_funnyTogether_0 : decode cX3_funnyTogether 0 = .ok (.iconst 0, 1) := by decide +kernel
theorem dX3_funnyTogether_1 : decode cX3_funnyTogether 1 = .ok (.istore_n 1, 1) := by decide +kernel
theorem dX3_funnyTogether_2 : decode cX3_funnyTogether 2 = .ok (.iconst 0, 1) := by decide +kernel
theorem dX3_funnyTogether_3 : decode cX3_funnyTogether 3 = .ok (.istore_n 2, 1) := by decide +kernel
theorem dX3_funnyTogether_4 : decode cX3_funnyTogether 4 = .ok (.iload_n 2, 1) := by decide +kernel
theorem dX3_funnyTogether_5 : decode cX3_funnyTogether 5 = .ok (.aload_n 0, 1) := by decide +kernel
theorem dX3_funnyTogether_6 : decode cX3_funnyTogether 6 = .ok (.getfield 34, 3) := by decide +kernel
theorem dX3_funnyTogether_9 : decode cX3_funnyTogether 9 = .ok (.if_icmp .ge 18, 3) := by decide +kernel
theorem dX3_funnyTogether_12 : decode cX3_funnyTogether 12 = .ok (.iload_n 1, 1) := by decide +kernel
theorem dX3_funnyTogether_13 : decode cX3_funnyTogether 13 = .ok (.aload_n 0, 1) := by decide +kernel
theorem dX3_funnyTogether_14 : decode cX3_funnyTogether 14 = .ok (.getfield 22, 3) := by decide +kernel
theorem dX3_funnyTogether_17 : decode cX3_funnyTogether 17 = .ok (.iload_n 2, 1) := by decide +kernel
theorem dX3_funnyTogether_18 : decode cX3_funnyTogether 18 = .ok (.iaload, 1) := by decide +kernel
theorem dX3_funnyTogether_19 : decode cX3_funnyTogether 19 = .ok (.iadd, 1) := by decide +kernel
theorem dX3_funnyTogether_20 : decode cX3_funnyTogether 20 = .ok (.istore_n 1, 1) := by decide +kernel
theorem dX3_funnyTogether_21 : decode cX3_funnyTogether 21 = .ok (.iinc 2 1, 3) := by decide +kernel
theorem dX3_funnyTogether_24 : decode cX3_funnyTogether 24 = .ok (.goto (-20), 3) := by decide +kernel
theorem dX3_funnyTogether_27 : decode cX3_funnyTogether 27 = .ok (.iload_n 1, 1) := by decide +kernel
theorem dX3_funnyTogether_28 : decode cX3_funnyTogether 28 = .ok (.ireturn, 1) := by decide +kernel
theorem dX3_worthTogether_0 : decode cX3_worthTogether 0 = .ok (.iconst 0, 1) := by decide +kernel
theorem dX3_worthTogether_1 : decode cX3_worthTogether 1 = .ok (.istore_n 1, 1) := by decide +kernel
theorem dX3_worthTogether_2 : decode cX3_worthTogether 2 = .ok (.iconst 0, 1) := by decide +kernel
theorem dX3_worthTogether_3 : decode cX3_worthTogether 3 = .ok (.istore_n 2, 1) := by decide +kernel
theorem dX3_worthTogether_4 : decode cX3_worthTogether 4 = .ok (.iload_n 2, 1) := by decide +kernel
theorem dX3_worthTogether_5 : decode cX3_worthTogether 5 = .ok (.aload_n 0, 1) := by decide +kernel
theorem dX3_worthTogether_6 : decode cX3_worthTogether 6 = .ok (.getfield 37, 3) := by decide +kernel
theorem dX3_worthTogether_9 : decode cX3_worthTogether 9 = .ok (.if_icmp .ge 22, 3) := by decide +kernel
theorem dX3_worthTogether_12 : decode cX3_worthTogether 12 = .ok (.iload_n 1, 1) := by decide +kernel
theorem dX3_worthTogether_13 : decode cX3_worthTogether 13 = .ok (.aload_n 0, 1) := by decide +kernel
theorem dX3_worthTogether_14 : decode cX3_worthTogether 14 = .ok (.getfield 19, 3) := by decide +kernel
theorem dX3_worthTogether_17 : decode cX3_worthTogether 17 = .ok (.iconst 4, 1) := by decide +kernel
theorem dX3_worthTogether_18 : decode cX3_worthTogether 18 = .ok (.iload_n 2, 1) := by decide +kernel
theorem dX3_worthTogether_19 : decode cX3_worthTogether 19 = .ok (.imul, 1) := by decide +kernel
theorem dX3_worthTogether_20 : decode cX3_worthTogether 20 = .ok (.iconst 3, 1) := by decide +kernel
theorem dX3_worthTogether_21 : decode cX3_worthTogether 21 = .ok (.iadd, 1) := by decide +kernel
theorem dX3_worthTogether_22 : decode cX3_worthTogether 22 = .ok (.iaload, 1) := by decide +kernel
theorem dX3_worthTogether_23 : decode cX3_worthTogether 23 = .ok (.iadd, 1) := by decide +kernel
theorem dX3_worthTogether_24 : decode cX3_worthTogether 24 = .ok (.istore_n 1, 1) := by decide +kernel
theorem dX3_worthTogether_25 : decode cX3_worthTogether 25 = .ok (.iinc 2 1, 3) := by decide +kernel
theorem dX3_worthTogether_28 : decode cX3_worthTogether 28 = .ok (.goto (-24), 3) := by decide +kernel
theorem dX3_worthTogether_31 : decode cX3_worthTogether 31 = .ok (.iload_n 1, 1) := by decide +kernel
theorem dX3_worthTogether_32 : decode cX3_worthTogether 32 = .ok (.ireturn, 1) := by decide +kernel
theorem dX3_interpret_0 : decode cX3_interpret 0 = .ok (.aload_n 0, 1) := by decide +kernel
theorem dX3_interpret_1 : decode cX3_interpret 1 = .ok (.invokevirtual 40, 3) := by decide +kernel
theorem dX3_interpret_4 : decode cX3_interpret 4 = .ok (.aload_n 0, 1) := by decide +kernel
theorem dX3_interpret_5 : decode cX3_interpret 5 = .ok (.iconst (-1), 1) := by decide +kernel
theorem dX3_interpret_6 : decode cX3_interpret 6 = .ok (.putfield 15, 3) := by decide +kernel
theorem dX3_interpret_9 : decode cX3_interpret 9 = .ok (.aload_n 0, 1) := by decide +kernel
theorem dX3_interpret_10 : decode cX3_interpret 10 = .ok (.invokevirtual 43, 3) := by decide +kernel
theorem dX3_interpret_13 : decode cX3_interpret 13 = .ok (.ifCond .ne 15, 3) := by decide +kernel
theorem dX3_interpret_16 : decode cX3_interpret 16 = .ok (.aload_n 0, 1) := by decide +kernel
theorem dX3_interpret_17 : decode cX3_interpret 17 = .ok (.aload_n 0, 1) := by decide +kernel
theorem dX3_interpret_18 : decode cX3_interpret 18 = .ok (.getfield 47, 3) := by decide +kernel
theorem dX3_interpret_21 : decode cX3_interpret 21 = .ok (.putfield 15, 3) := by decide +kernel
theorem dX3_interpret_24 : decode cX3_interpret 24 = .ok (.aload_n 0, 1) := by decide +kernel
theorem dX3_interpret_25 : decode cX3_interpret 25 = .ok (.invokevirtual 40, 3) := by decide +kernel
theorem dX3_interpret_28 : decode cX3_interpret 28 = .ok (.aload_n 0, 1) := by decide +kernel
theorem dX3_interpret_29 : decode cX3_interpret 29 = .ok (.getfield 25, 3) := by decide +kernel
theorem dX3_interpret_32 : decode cX3_interpret 32 = .ok (.iconst 2, 1) := by decide +kernel
theorem dX3_interpret_33 : decode cX3_interpret 33 = .ok (.iaload, 1) := by decide +kernel
theorem dX3_interpret_34 : decode cX3_interpret 34 = .ok (.aload_n 0, 1) := by decide +kernel
theorem dX3_interpret_35 : decode cX3_interpret 35 = .ok (.getfield 37, 3) := by decide +kernel
theorem dX3_interpret_38 : decode cX3_interpret 38 = .ok (.if_icmp .lt 10, 3) := by decide +kernel
theorem dX3_interpret_41 : decode cX3_interpret 41 = .ok (.aload_n 0, 1) := by decide +kernel
theorem dX3_interpret_42 : decode cX3_interpret 42 = .ok (.getfield 25, 3) := by decide +kernel
theorem dX3_interpret_45 : decode cX3_interpret 45 = .ok (.iconst 2, 1) := by decide +kernel
theorem dX3_interpret_46 : decode cX3_interpret 46 = .ok (.iconst 0, 1) := by decide +kernel
theorem dX3_interpret_47 : decode cX3_interpret 47 = .ok (.iastore, 1) := by decide +kernel
theorem dX3_interpret_48 : decode cX3_interpret 48 = .ok (.return_, 1) := by decide +kernel
theorem dX3_forget_0 : decode cX3_forget 0 = .ok (.aload_n 0, 1) := by decide +kernel
theorem dX3_forget_1 : decode cX3_forget 1 = .ok (.iconst 0, 1) := by decide +kernel
theorem dX3_forget_2 : decode cX3_forget 2 = .ok (.putfield 37, 3) := by decide +kernel
theorem dX3_forget_5 : decode cX3_forget 5 = .ok (.aload_n 0, 1) := by decide +kernel
theorem dX3_forget_6 : decode cX3_forget 6 = .ok (.iconst 0, 1) := by decide +kernel
theorem dX3_forget_7 : decode cX3_forget 7 = .ok (.putfield 34, 3) := by decide +kernel
theorem dX3_forget_10 : decode cX3_forget 10 = .ok (.aload_n 0, 1) := by decide +kernel
theorem dX3_forget_11 : decode cX3_forget 11 = .ok (.getfield 25, 3) := by decide +kernel
theorem dX3_forget_14 : decode cX3_forget 14 = .ok (.iconst 0, 1) := by decide +kernel
theorem dX3_forget_15 : decode cX3_forget 15 = .ok (.iconst 0, 1) := by decide +kernel
theorem dX3_forget_16 : decode cX3_forget 16 = .ok (.iastore, 1) := by decide +kernel
theorem dX3_forget_17 : decode cX3_forget 17 = .ok (.aload_n 0, 1) := by decide +kernel
theorem dX3_forget_18 : decode cX3_forget 18 = .ok (.getfield 25, 3) := by decide +kernel
theorem dX3_forget_21 : decode cX3_forget 21 = .ok (.iconst 1, 1) := by decide +kernel
theorem dX3_forget_22 : decode cX3_forget 22 = .ok (.iconst 0, 1) := by decide +kernel
theorem dX3_forget_23 : decode cX3_forget 23 = .ok (.iastore, 1) := by decide +kernel
theorem dX3_forget_24 : decode cX3_forget 24 = .ok (.aload_n 0, 1) := by decide +kernel
theorem dX3_forget_25 : decode cX3_forget 25 = .ok (.getfield 25, 3) := by decide +kernel
theorem dX3_forget_28 : decode cX3_forget 28 = .ok (.iconst 2, 1) := by decide +kernel
theorem dX3_forget_29 : decode cX3_forget 29 = .ok (.iconst 0, 1) := by decide +kernel
theorem dX3_forget_30 : decode cX3_forget 30 = .ok (.iastore, 1) := by decide +kernel
theorem dX3_forget_31 : decode cX3_forget 31 = .ok (.return_, 1) := by decide +kernel
theorem dX3_readParts_0 : decode cX3_readParts 0 = .ok (.aload_n 0, 1) := by decide +kernel
theorem dX3_readParts_1 : decode cX3_readParts 1 = .ok (.iconst 0, 1) := by decide +kernel
theorem dX3_readParts_2 : decode cX3_readParts 2 = .ok (.putfield 47, 3) := by decide +kernel
theorem dX3_readParts_5 : decode cX3_readParts 5 = .ok (.aload_n 0, 1) := by decide +kernel
theorem dX3_readParts_6 : decode cX3_readParts 6 = .ok (.getfield 28, 3) := by decide +kernel
theorem dX3_readParts_9 : decode cX3_readParts 9 = .ok (.ifCond .ne 5, 3) := by decide +kernel
theorem dX3_readParts_12 : decode cX3_readParts 12 = .ok (.iconst 1, 1) := by decide +kernel
theorem dX3_readParts_13 : decode cX3_readParts 13 = .ok (.ireturn, 1) := by decide +kernel
theorem dX3_readParts_14 : decode cX3_readParts 14 = .ok (.iconst 0, 1) := by decide +kernel
theorem dX3_readParts_15 : decode cX3_readParts 15 = .ok (.istore_n 1, 1) := by decide +kernel
theorem dX3_readParts_16 : decode cX3_readParts 16 = .ok (.iload_n 1, 1) := by decide +kernel
theorem dX3_readParts_17 : decode cX3_readParts 17 = .ok (.bipush 60, 2) := by decide +kernel
theorem dX3_readParts_19 : decode cX3_readParts 19 = .ok (.if_icmp .ge 52, 3) := by decide +kernel
theorem dX3_readParts_22 : decode cX3_readParts 22 = .ok (.aload_n 0, 1) := by decide +kernel
theorem dX3_readParts_23 : decode cX3_readParts 23 = .ok (.invokevirtual 50, 3) := by decide +kernel
theorem dX3_readParts_26 : decode cX3_readParts 26 = .ok (.ifCond .ne 5, 3) := by decide +kernel
theorem dX3_readParts_29 : decode cX3_readParts 29 = .ok (.iconst 0, 1) := by decide +kernel
theorem dX3_readParts_30 : decode cX3_readParts 30 = .ok (.ireturn, 1) := by decide +kernel
theorem dX3_readParts_31 : decode cX3_readParts 31 = .ok (.aload_n 0, 1) := by decide +kernel
theorem dX3_readParts_32 : decode cX3_readParts 32 = .ok (.getfield 47, 3) := by decide +kernel
theorem dX3_readParts_35 : decode cX3_readParts 35 = .ok (.aload_n 0, 1) := by decide +kernel
theorem dX3_readParts_36 : decode cX3_readParts 36 = .ok (.getfield 28, 3) := by decide +kernel
theorem dX3_readParts_39 : decode cX3_readParts 39 = .ok (.if_icmp .ne 5, 3) := by decide +kernel
theorem dX3_readParts_42 : decode cX3_readParts 42 = .ok (.iconst 1, 1) := by decide +kernel
theorem dX3_readParts_43 : decode cX3_readParts 43 = .ok (.ireturn, 1) := by decide +kernel
theorem dX3_readParts_44 : decode cX3_readParts 44 = .ok (.aload_n 0, 1) := by decide +kernel
theorem dX3_readParts_45 : decode cX3_readParts 45 = .ok (.invokevirtual 53, 3) := by decide +kernel
theorem dX3_readParts_48 : decode cX3_readParts 48 = .ok (.bipush 59, 2) := by decide +kernel
theorem dX3_readParts_50 : decode cX3_readParts 50 = .ok (.if_icmp .eq 5, 3) := by decide +kernel
theorem dX3_readParts_53 : decode cX3_readParts 53 = .ok (.iconst 0, 1) := by decide +kernel
theorem dX3_readParts_54 : decode cX3_readParts 54 = .ok (.ireturn, 1) := by decide +kernel
theorem dX3_readParts_55 : decode cX3_readParts 55 = .ok (.aload_n 0, 1) := by decide +kernel
theorem dX3_readParts_56 : decode cX3_readParts 56 = .ok (.dup, 1) := by decide +kernel
theorem dX3_readParts_57 : decode cX3_readParts 57 = .ok (.getfield 47, 3) := by decide +kernel
theorem dX3_readParts_60 : decode cX3_readParts 60 = .ok (.iconst 1, 1) := by decide +kernel
theorem dX3_readParts_61 : decode cX3_readParts 61 = .ok (.iadd, 1) := by decide +kernel
theorem dX3_readParts_62 : decode cX3_readParts 62 = .ok (.putfield 47, 3) := by decide +kernel
theorem dX3_readParts_65 : decode cX3_readParts 65 = .ok (.iinc 1 1, 3) := by decide +kernel
theorem dX3_readParts_68 : decode cX3_readParts 68 = .ok (.goto (-52), 3) := by decide +kernel
theorem dX3_readParts_71 : decode cX3_readParts 71 = .ok (.iconst 0, 1) := by decide +kernel
theorem dX3_readParts_72 : decode cX3_readParts 72 = .ok (.ireturn, 1) := by decide +kernel
theorem dX3_readPart_0 : decode cX3_readPart 0 = .ok (.aload_n 0, 1) := by decide +kernel
theorem dX3_readPart_1 : decode cX3_readPart 1 = .ok (.invokevirtual 53, 3) := by decide +kernel
theorem dX3_readPart_4 : decode cX3_readPart 4 = .ok (.tableswitch 83 108 116 #[62, 69, 83, 76, 52, 83, 83, 83, 57], 52) := by decide +kernel
theorem dX3_readPart_56 : decode cX3_readPart 56 = .ok (.aload_n 0, 1) := by decide +kernel
theorem dX3_readPart_57 : decode cX3_readPart 57 = .ok (.invokevirtual 57, 3) := by decide +kernel
theorem dX3_readPart_60 : decode cX3_readPart 60 = .ok (.ireturn, 1) := by decide +kernel
theorem dX3_readPart_61 : decode cX3_readPart 61 = .ok (.aload_n 0, 1) := by decide +kernel
theorem dX3_readPart_62 : decode cX3_readPart 62 = .ok (.invokevirtual 60, 3) := by decide +kernel
theorem dX3_readPart_65 : decode cX3_readPart 65 = .ok (.ireturn, 1) := by decide +kernel
theorem dX3_readPart_66 : decode cX3_readPart 66 = .ok (.aload_n 0, 1) := by decide +kernel
theorem dX3_readPart_67 : decode cX3_readPart 67 = .ok (.iconst 0, 1) := by decide +kernel
theorem dX3_readPart_68 : decode cX3_readPart 68 = .ok (.iconst 2, 1) := by decide +kernel
theorem dX3_readPart_69 : decode cX3_readPart 69 = .ok (.invokevirtual 63, 3) := by decide +kernel
theorem dX3_readPart_72 : decode cX3_readPart 72 = .ok (.ireturn, 1) := by decide +kernel
theorem dX3_readPart_73 : decode cX3_readPart 73 = .ok (.aload_n 0, 1) := by decide +kernel
theorem dX3_readPart_74 : decode cX3_readPart 74 = .ok (.iconst 1, 1) := by decide +kernel
theorem dX3_readPart_75 : decode cX3_readPart 75 = .ok (.iconst 2, 1) := by decide +kernel
theorem dX3_readPart_76 : decode cX3_readPart 76 = .ok (.invokevirtual 63, 3) := by decide +kernel
theorem dX3_readPart_79 : decode cX3_readPart 79 = .ok (.ireturn, 1) := by decide +kernel
theorem dX3_readPart_80 : decode cX3_readPart 80 = .ok (.aload_n 0, 1) := by decide +kernel
theorem dX3_readPart_81 : decode cX3_readPart 81 = .ok (.iconst 2, 1) := by decide +kernel
theorem dX3_readPart_82 : decode cX3_readPart 82 = .ok (.iconst 3, 1) := by decide +kernel
theorem dX3_readPart_83 : decode cX3_readPart 83 = .ok (.invokevirtual 63, 3) := by decide +kernel
theorem dX3_readPart_86 : decode cX3_readPart 86 = .ok (.ireturn, 1) := by decide +kernel
theorem dX3_readPart_87 : decode cX3_readPart 87 = .ok (.iconst 0, 1) := by decide +kernel
theorem dX3_readPart_88 : decode cX3_readPart 88 = .ok (.ireturn, 1) := by decide +kernel
theorem dX3_readPerson_0 : decode cX3_readPerson 0 = .ok (.aload_n 0, 1) := by decide +kernel
theorem dX3_readPerson_1 : decode cX3_readPerson 1 = .ok (.getfield 37, 3) := by decide +kernel
theorem dX3_readPerson_4 : decode cX3_readPerson 4 = .ok (.iconst 4, 1) := by decide +kernel
theorem dX3_readPerson_5 : decode cX3_readPerson 5 = .ok (.if_icmp .lt 5, 3) := by decide +kernel
theorem dX3_readPerson_8 : decode cX3_readPerson 8 = .ok (.iconst 0, 1) := by decide +kernel
theorem dX3_readPerson_9 : decode cX3_readPerson 9 = .ok (.ireturn, 1) := by decide +kernel
theorem dX3_readPerson_10 : decode cX3_readPerson 10 = .ok (.aload_n 0, 1) := by decide +kernel
theorem dX3_readPerson_11 : decode cX3_readPerson 11 = .ok (.dup, 1) := by decide +kernel
theorem dX3_readPerson_12 : decode cX3_readPerson 12 = .ok (.getfield 47, 3) := by decide +kernel
theorem dX3_readPerson_15 : decode cX3_readPerson 15 = .ok (.iconst 1, 1) := by decide +kernel
theorem dX3_readPerson_16 : decode cX3_readPerson 16 = .ok (.iadd, 1) := by decide +kernel
theorem dX3_readPerson_17 : decode cX3_readPerson 17 = .ok (.putfield 47, 3) := by decide +kernel
theorem dX3_readPerson_20 : decode cX3_readPerson 20 = .ok (.iconst 0, 1) := by decide +kernel
theorem dX3_readPerson_21 : decode cX3_readPerson 21 = .ok (.istore_n 1, 1) := by decide +kernel
theorem dX3_readPerson_22 : decode cX3_readPerson 22 = .ok (.iload_n 1, 1) := by decide +kernel
theorem dX3_readPerson_23 : decode cX3_readPerson 23 = .ok (.iconst 3, 1) := by decide +kernel
theorem dX3_readPerson_24 : decode cX3_readPerson 24 = .ok (.if_icmp .gt 50, 3) := by decide +kernel
theorem dX3_readPerson_27 : decode cX3_readPerson 27 = .ok (.aload_n 0, 1) := by decide +kernel
theorem dX3_readPerson_28 : decode cX3_readPerson 28 = .ok (.bipush 9, 2) := by decide +kernel
theorem dX3_readPerson_30 : decode cX3_readPerson 30 = .ok (.invokevirtual 67, 3) := by decide +kernel
theorem dX3_readPerson_33 : decode cX3_readPerson 33 = .ok (.ifCond .ne 5, 3) := by decide +kernel
theorem dX3_readPerson_36 : decode cX3_readPerson 36 = .ok (.iconst 0, 1) := by decide +kernel
theorem dX3_readPerson_37 : decode cX3_readPerson 37 = .ok (.ireturn, 1) := by decide +kernel
theorem dX3_readPerson_38 : decode cX3_readPerson 38 = .ok (.aload_n 0, 1) := by decide +kernel
theorem dX3_readPerson_39 : decode cX3_readPerson 39 = .ok (.getfield 19, 3) := by decide +kernel
theorem dX3_readPerson_42 : decode cX3_readPerson 42 = .ok (.iconst 4, 1) := by decide +kernel
theorem dX3_readPerson_43 : decode cX3_readPerson 43 = .ok (.aload_n 0, 1) := by decide +kernel
theorem dX3_readPerson_44 : decode cX3_readPerson 44 = .ok (.getfield 37, 3) := by decide +kernel
theorem dX3_readPerson_47 : decode cX3_readPerson 47 = .ok (.imul, 1) := by decide +kernel
theorem dX3_readPerson_48 : decode cX3_readPerson 48 = .ok (.iload_n 1, 1) := by decide +kernel
theorem dX3_readPerson_49 : decode cX3_readPerson 49 = .ok (.iadd, 1) := by decide +kernel
theorem dX3_readPerson_50 : decode cX3_readPerson 50 = .ok (.aload_n 0, 1) := by decide +kernel
theorem dX3_readPerson_51 : decode cX3_readPerson 51 = .ok (.invokevirtual 53, 3) := by decide +kernel
theorem dX3_readPerson_54 : decode cX3_readPerson 54 = .ok (.bipush 48, 2) := by decide +kernel
theorem dX3_readPerson_56 : decode cX3_readPerson 56 = .ok (.isub, 1) := by decide +kernel
theorem dX3_readPerson_57 : decode cX3_readPerson 57 = .ok (.iastore, 1) := by decide +kernel
theorem dX3_readPerson_58 : decode cX3_readPerson 58 = .ok (.aload_n 0, 1) := by decide +kernel
theorem dX3_readPerson_59 : decode cX3_readPerson 59 = .ok (.dup, 1) := by decide +kernel
theorem dX3_readPerson_60 : decode cX3_readPerson 60 = .ok (.getfield 47, 3) := by decide +kernel
theorem dX3_readPerson_63 : decode cX3_readPerson 63 = .ok (.iconst 1, 1) := by decide +kernel
theorem dX3_readPerson_64 : decode cX3_readPerson 64 = .ok (.iadd, 1) := by decide +kernel
theorem dX3_readPerson_65 : decode cX3_readPerson 65 = .ok (.putfield 47, 3) := by decide +kernel
theorem dX3_readPerson_68 : decode cX3_readPerson 68 = .ok (.iinc 1 1, 3) := by decide +kernel
theorem dX3_readPerson_71 : decode cX3_readPerson 71 = .ok (.goto (-49), 3) := by decide +kernel
theorem dX3_readPerson_74 : decode cX3_readPerson 74 = .ok (.aload_n 0, 1) := by decide +kernel
theorem dX3_readPerson_75 : decode cX3_readPerson 75 = .ok (.dup, 1) := by decide +kernel
theorem dX3_readPerson_76 : decode cX3_readPerson 76 = .ok (.getfield 37, 3) := by decide +kernel
theorem dX3_readPerson_79 : decode cX3_readPerson 79 = .ok (.iconst 1, 1) := by decide +kernel
theorem dX3_readPerson_80 : decode cX3_readPerson 80 = .ok (.iadd, 1) := by decide +kernel
theorem dX3_readPerson_81 : decode cX3_readPerson 81 = .ok (.putfield 37, 3) := by decide +kernel
theorem dX3_readPerson_84 : decode cX3_readPerson 84 = .ok (.iconst 1, 1) := by decide +kernel
theorem dX3_readPerson_85 : decode cX3_readPerson 85 = .ok (.ireturn, 1) := by decide +kernel
theorem dX3_readTale_0 : decode cX3_readTale 0 = .ok (.aload_n 0, 1) := by decide +kernel
theorem dX3_readTale_1 : decode cX3_readTale 1 = .ok (.getfield 34, 3) := by decide +kernel
theorem dX3_readTale_4 : decode cX3_readTale 4 = .ok (.iconst 4, 1) := by decide +kernel
theorem dX3_readTale_5 : decode cX3_readTale 5 = .ok (.if_icmp .lt 5, 3) := by decide +kernel
theorem dX3_readTale_8 : decode cX3_readTale 8 = .ok (.iconst 0, 1) := by decide +kernel
theorem dX3_readTale_9 : decode cX3_readTale 9 = .ok (.ireturn, 1) := by decide +kernel
theorem dX3_readTale_10 : decode cX3_readTale 10 = .ok (.aload_n 0, 1) := by decide +kernel
theorem dX3_readTale_11 : decode cX3_readTale 11 = .ok (.dup, 1) := by decide +kernel
theorem dX3_readTale_12 : decode cX3_readTale 12 = .ok (.getfield 47, 3) := by decide +kernel
theorem dX3_readTale_15 : decode cX3_readTale 15 = .ok (.iconst 1, 1) := by decide +kernel
theorem dX3_readTale_16 : decode cX3_readTale 16 = .ok (.iadd, 1) := by decide +kernel
theorem dX3_readTale_17 : decode cX3_readTale 17 = .ok (.putfield 47, 3) := by decide +kernel
theorem dX3_readTale_20 : decode cX3_readTale 20 = .ok (.aload_n 0, 1) := by decide +kernel
theorem dX3_readTale_21 : decode cX3_readTale 21 = .ok (.bipush 9, 2) := by decide +kernel
theorem dX3_readTale_23 : decode cX3_readTale 23 = .ok (.invokevirtual 67, 3) := by decide +kernel
theorem dX3_readTale_26 : decode cX3_readTale 26 = .ok (.ifCond .ne 5, 3) := by decide +kernel
theorem dX3_readTale_29 : decode cX3_readTale 29 = .ok (.iconst 0, 1) := by decide +kernel
theorem dX3_readTale_30 : decode cX3_readTale 30 = .ok (.ireturn, 1) := by decide +kernel
theorem dX3_readTale_31 : decode cX3_readTale 31 = .ok (.aload_n 0, 1) := by decide +kernel
theorem dX3_readTale_32 : decode cX3_readTale 32 = .ok (.getfield 22, 3) := by decide +kernel
theorem dX3_readTale_35 : decode cX3_readTale 35 = .ok (.aload_n 0, 1) := by decide +kernel
theorem dX3_readTale_36 : decode cX3_readTale 36 = .ok (.getfield 34, 3) := by decide +kernel
theorem dX3_readTale_39 : decode cX3_readTale 39 = .ok (.aload_n 0, 1) := by decide +kernel
theorem dX3_readTale_40 : decode cX3_readTale 40 = .ok (.invokevirtual 53, 3) := by decide +kernel
theorem dX3_readTale_43 : decode cX3_readTale 43 = .ok (.bipush 48, 2) := by decide +kernel
theorem dX3_readTale_45 : decode cX3_readTale 45 = .ok (.isub, 1) := by decide +kernel
theorem dX3_readTale_46 : decode cX3_readTale 46 = .ok (.iastore, 1) := by decide +kernel
theorem dX3_readTale_47 : decode cX3_readTale 47 = .ok (.aload_n 0, 1) := by decide +kernel
theorem dX3_readTale_48 : decode cX3_readTale 48 = .ok (.dup, 1) := by decide +kernel
theorem dX3_readTale_49 : decode cX3_readTale 49 = .ok (.getfield 47, 3) := by decide +kernel
theorem dX3_readTale_52 : decode cX3_readTale 52 = .ok (.iconst 1, 1) := by decide +kernel
theorem dX3_readTale_53 : decode cX3_readTale 53 = .ok (.iadd, 1) := by decide +kernel
theorem dX3_readTale_54 : decode cX3_readTale 54 = .ok (.putfield 47, 3) := by decide +kernel
theorem dX3_readTale_57 : decode cX3_readTale 57 = .ok (.aload_n 0, 1) := by decide +kernel
theorem dX3_readTale_58 : decode cX3_readTale 58 = .ok (.dup, 1) := by decide +kernel
theorem dX3_readTale_59 : decode cX3_readTale 59 = .ok (.getfield 34, 3) := by decide +kernel
theorem dX3_readTale_62 : decode cX3_readTale 62 = .ok (.iconst 1, 1) := by decide +kernel
theorem dX3_readTale_63 : decode cX3_readTale 63 = .ok (.iadd, 1) := by decide +kernel
theorem dX3_readTale_64 : decode cX3_readTale 64 = .ok (.putfield 34, 3) := by decide +kernel
theorem dX3_readTale_67 : decode cX3_readTale 67 = .ok (.iconst 1, 1) := by decide +kernel
theorem dX3_readTale_68 : decode cX3_readTale 68 = .ok (.ireturn, 1) := by decide +kernel
theorem dX3_readRule_0 : decode cX3_readRule 0 = .ok (.aload_n 0, 1) := by decide +kernel
theorem dX3_readRule_1 : decode cX3_readRule 1 = .ok (.dup, 1) := by decide +kernel
theorem dX3_readRule_2 : decode cX3_readRule 2 = .ok (.getfield 47, 3) := by decide +kernel
theorem dX3_readRule_5 : decode cX3_readRule 5 = .ok (.iconst 1, 1) := by decide +kernel
theorem dX3_readRule_6 : decode cX3_readRule 6 = .ok (.iadd, 1) := by decide +kernel
theorem dX3_readRule_7 : decode cX3_readRule 7 = .ok (.putfield 47, 3) := by decide +kernel
theorem dX3_readRule_10 : decode cX3_readRule 10 = .ok (.aload_n 0, 1) := by decide +kernel
theorem dX3_readRule_11 : decode cX3_readRule 11 = .ok (.iload_n 2, 1) := by decide +kernel
theorem dX3_readRule_12 : decode cX3_readRule 12 = .ok (.invokevirtual 67, 3) := by decide +kernel
theorem dX3_readRule_15 : decode cX3_readRule 15 = .ok (.ifCond .ne 5, 3) := by decide +kernel
theorem dX3_readRule_18 : decode cX3_readRule 18 = .ok (.iconst 0, 1) := by decide +kernel
theorem dX3_readRule_19 : decode cX3_readRule 19 = .ok (.ireturn, 1) := by decide +kernel
theorem dX3_readRule_20 : decode cX3_readRule 20 = .ok (.aload_n 0, 1) := by decide +kernel
theorem dX3_readRule_21 : decode cX3_readRule 21 = .ok (.getfield 25, 3) := by decide +kernel
theorem dX3_readRule_24 : decode cX3_readRule 24 = .ok (.iload_n 1, 1) := by decide +kernel
theorem dX3_readRule_25 : decode cX3_readRule 25 = .ok (.aload_n 0, 1) := by decide +kernel
theorem dX3_readRule_26 : decode cX3_readRule 26 = .ok (.invokevirtual 53, 3) := by decide +kernel
theorem dX3_readRule_29 : decode cX3_readRule 29 = .ok (.bipush 48, 2) := by decide +kernel
theorem dX3_readRule_31 : decode cX3_readRule 31 = .ok (.isub, 1) := by decide +kernel
theorem dX3_readRule_32 : decode cX3_readRule 32 = .ok (.iastore, 1) := by decide +kernel
theorem dX3_readRule_33 : decode cX3_readRule 33 = .ok (.aload_n 0, 1) := by decide +kernel
theorem dX3_readRule_34 : decode cX3_readRule 34 = .ok (.dup, 1) := by decide +kernel
theorem dX3_readRule_35 : decode cX3_readRule 35 = .ok (.getfield 47, 3) := by decide +kernel
theorem dX3_readRule_38 : decode cX3_readRule 38 = .ok (.iconst 1, 1) := by decide +kernel
theorem dX3_readRule_39 : decode cX3_readRule 39 = .ok (.iadd, 1) := by decide +kernel
theorem dX3_readRule_40 : decode cX3_readRule 40 = .ok (.putfield 47, 3) := by decide +kernel
theorem dX3_readRule_43 : decode cX3_readRule 43 = .ok (.iconst 1, 1) := by decide +kernel
theorem dX3_readRule_44 : decode cX3_readRule 44 = .ok (.ireturn, 1) := by decide +kernel
theorem dX3_sign_0 : decode cX3_sign 0 = .ok (.aload_n 0, 1) := by decide +kernel
theorem dX3_sign_1 : decode cX3_sign 1 = .ok (.getfield 47, 3) := by decide +kernel
theorem dX3_sign_4 : decode cX3_sign 4 = .ok (.aload_n 0, 1) := by decide +kernel
theorem dX3_sign_5 : decode cX3_sign 5 = .ok (.getfield 28, 3) := by decide +kernel
theorem dX3_sign_8 : decode cX3_sign 8 = .ok (.if_icmp .ge 15, 3) := by decide +kernel
theorem dX3_sign_11 : decode cX3_sign 11 = .ok (.aload_n 0, 1) := by decide +kernel
theorem dX3_sign_12 : decode cX3_sign 12 = .ok (.getfield 9, 3) := by decide +kernel
theorem dX3_sign_15 : decode cX3_sign 15 = .ok (.aload_n 0, 1) := by decide +kernel
theorem dX3_sign_16 : decode cX3_sign 16 = .ok (.getfield 47, 3) := by decide +kernel
theorem dX3_sign_19 : decode cX3_sign 19 = .ok (.iaload, 1) := by decide +kernel
theorem dX3_sign_20 : decode cX3_sign 20 = .ok (.goto 4, 3) := by decide +kernel
theorem dX3_sign_23 : decode cX3_sign 23 = .ok (.iconst (-1), 1) := by decide +kernel
theorem dX3_sign_24 : decode cX3_sign 24 = .ok (.ireturn, 1) := by decide +kernel
theorem dX3_isFigure_0 : decode cX3_isFigure 0 = .ok (.aload_n 0, 1) := by decide +kernel
theorem dX3_isFigure_1 : decode cX3_isFigure 1 = .ok (.invokevirtual 53, 3) := by decide +kernel
theorem dX3_isFigure_4 : decode cX3_isFigure 4 = .ok (.bipush 48, 2) := by decide +kernel
theorem dX3_isFigure_6 : decode cX3_isFigure 6 = .ok (.isub, 1) := by decide +kernel
theorem dX3_isFigure_7 : decode cX3_isFigure 7 = .ok (.iload_n 1, 1) := by decide +kernel
theorem dX3_isFigure_8 : decode cX3_isFigure 8 = .ok (.invokestatic 71, 3) := by decide +kernel
theorem dX3_isFigure_11 : decode cX3_isFigure 11 = .ok (.ireturn, 1) := by decide +kernel
theorem dX4_init_0 : decode cX4_init 0 = .ok (.aload_n 0, 1) := by decide +kernel
theorem dX4_init_1 : decode cX4_init 1 = .ok (.invokespecial 3, 3) := by decide +kernel
theorem dX4_init_4 : decode cX4_init 4 = .ok (.aload_n 0, 1) := by decide +kernel
theorem dX4_init_5 : decode cX4_init 5 = .ok (.iconst 4, 1) := by decide +kernel
theorem dX4_init_6 : decode cX4_init 6 = .ok (.newarray .int, 2) := by decide +kernel
theorem dX4_init_8 : decode cX4_init 8 = .ok (.putfield 9, 3) := by decide +kernel
theorem dX4_init_11 : decode cX4_init 11 = .ok (.aload_n 0, 1) := by decide +kernel
theorem dX4_init_12 : decode cX4_init 12 = .ok (.iconst 4, 1) := by decide +kernel
theorem dX4_init_13 : decode cX4_init 13 = .ok (.newarray .int, 2) := by decide +kernel
theorem dX4_init_15 : decode cX4_init 15 = .ok (.putfield 15, 3) := by decide +kernel
theorem dX4_init_18 : decode cX4_init 18 = .ok (.aload_n 0, 1) := by decide +kernel
theorem dX4_init_19 : decode cX4_init 19 = .ok (.iconst 4, 1) := by decide +kernel
theorem dX4_init_20 : decode cX4_init 20 = .ok (.newarray .int, 2) := by decide +kernel
theorem dX4_init_22 : decode cX4_init 22 = .ok (.putfield 18, 3) := by decide +kernel
theorem dX4_init_25 : decode cX4_init 25 = .ok (.aload_n 0, 1) := by decide +kernel
theorem dX4_init_26 : decode cX4_init 26 = .ok (.iconst 4, 1) := by decide +kernel
theorem dX4_init_27 : decode cX4_init 27 = .ok (.newarray .int, 2) := by decide +kernel
theorem dX4_init_29 : decode cX4_init 29 = .ok (.putfield 21, 3) := by decide +kernel
theorem dX4_init_32 : decode cX4_init 32 = .ok (.aload_n 0, 1) := by decide +kernel
theorem dX4_init_33 : decode cX4_init 33 = .ok (.iconst 4, 1) := by decide +kernel
theorem dX4_init_34 : decode cX4_init 34 = .ok (.newarray .int, 2) := by decide +kernel
theorem dX4_init_36 : decode cX4_init 36 = .ok (.putfield 24, 3) := by decide +kernel
theorem dX4_init_39 : decode cX4_init 39 = .ok (.aload_n 0, 1) := by decide +kernel
theorem dX4_init_40 : decode cX4_init 40 = .ok (.aload_n 1, 1) := by decide +kernel
theorem dX4_init_41 : decode cX4_init 41 = .ok (.putfield 27, 3) := by decide +kernel
theorem dX4_init_44 : decode cX4_init 44 = .ok (.aload_n 0, 1) := by decide +kernel
theorem dX4_init_45 : decode cX4_init 45 = .ok (.aload_n 2, 1) := by decide +kernel
theorem dX4_init_46 : decode cX4_init 46 = .ok (.putfield 31, 3) := by decide +kernel
theorem dX4_init_49 : decode cX4_init 49 = .ok (.return_, 1) := by decide +kernel
theorem dX4_findBest_0 : decode cX4_findBest 0 = .ok (.aload_n 0, 1) := by decide +kernel
theorem dX4_findBest_1 : decode cX4_findBest 1 = .ok (.getfield 27, 3) := by decide +kernel
theorem dX4_findBest_4 : decode cX4_findBest 4 = .ok (.invokevirtual 35, 3) := by decide +kernel
theorem dX4_findBest_7 : decode cX4_findBest 7 = .ok (.aload_n 0, 1) := by decide +kernel
theorem dX4_findBest_8 : decode cX4_findBest 8 = .ok (.iload_n 1, 1) := by decide +kernel
theorem dX4_findBest_9 : decode cX4_findBest 9 = .ok (.invokevirtual 40, 3) := by decide +kernel
theorem dX4_findBest_12 : decode cX4_findBest 12 = .ok (.return_, 1) := by decide +kernel
theorem dX4_compareWays_0 : decode cX4_compareWays 0 = .ok (.aload_n 0, 1) := by decide +kernel
theorem dX4_compareWays_1 : decode cX4_compareWays 1 = .ok (.getfield 27, 3) := by decide +kernel
theorem dX4_compareWays_4 : decode cX4_compareWays 4 = .ok (.getfield 44, 3) := by decide +kernel
theorem dX4_compareWays_7 : decode cX4_compareWays 7 = .ok (.iload_n 1, 1) := by decide +kernel
theorem dX4_compareWays_8 : decode cX4_compareWays 8 = .ok (.iaload, 1) := by decide +kernel
theorem dX4_compareWays_9 : decode cX4_compareWays 9 = .ok (.istore_n 2, 1) := by decide +kernel
theorem dX4_compareWays_10 : decode cX4_compareWays 10 = .ok (.aload_n 0, 1) := by decide +kernel
theorem dX4_compareWays_11 : decode cX4_compareWays 11 = .ok (.getfield 27, 3) := by decide +kernel
theorem dX4_compareWays_14 : decode cX4_compareWays 14 = .ok (.getfield 47, 3) := by decide +kernel
theorem dX4_compareWays_17 : decode cX4_compareWays 17 = .ok (.iload_n 1, 1) := by decide +kernel
theorem dX4_compareWays_18 : decode cX4_compareWays 18 = .ok (.iaload, 1) := by decide +kernel
theorem dX4_compareWays_19 : decode cX4_compareWays 19 = .ok (.istore_n 3, 1) := by decide +kernel
theorem dX4_compareWays_20 : decode cX4_compareWays 20 = .ok (.aload_n 0, 1) := by decide +kernel
theorem dX4_compareWays_21 : decode cX4_compareWays 21 = .ok (.getfield 31, 3) := by decide +kernel
theorem dX4_compareWays_24 : decode cX4_compareWays 24 = .ok (.iload_n 1, 1) := by decide +kernel
theorem dX4_compareWays_25 : decode cX4_compareWays 25 = .ok (.invokevirtual 50, 3) := by decide +kernel
theorem dX4_compareWays_28 : decode cX4_compareWays 28 = .ok (.aload_n 0, 1) := by decide +kernel
theorem dX4_compareWays_29 : decode cX4_compareWays 29 = .ok (.ldc2_w 55, 3) := by decide +kernel
theorem dX4_compareWays_32 : decode cX4_compareWays 32 = .ok (.putfield 57, 3) := by decide +kernel
theorem dX4_compareWays_35 : decode cX4_compareWays 35 = .ok (.aload_n 0, 1) := by decide +kernel
theorem dX4_compareWays_36 : decode cX4_compareWays 36 = .ok (.iload_n 1, 1) := by decide +kernel
theorem dX4_compareWays_37 : decode cX4_compareWays 37 = .ok (.iconst 4, 1) := by decide +kernel
theorem dX4_compareWays_38 : decode cX4_compareWays 38 = .ok (.invokevirtual 61, 3) := by decide +kernel
theorem dX4_compareWays_41 : decode cX4_compareWays 41 = .ok (.aload_n 0, 1) := by decide +kernel
theorem dX4_compareWays_42 : decode cX4_compareWays 42 = .ok (.getfield 27, 3) := by decide +kernel
theorem dX4_compareWays_45 : decode cX4_compareWays 45 = .ok (.getfield 65, 3) := by decide +kernel
theorem dX4_compareWays_48 : decode cX4_compareWays 48 = .ok (.iconst 1, 1) := by decide +kernel
theorem dX4_compareWays_49 : decode cX4_compareWays 49 = .ok (.isub, 1) := by decide +kernel
theorem dX4_compareWays_50 : decode cX4_compareWays 50 = .ok (.istore 4, 2) := by decide +kernel
theorem dX4_compareWays_52 : decode cX4_compareWays 52 = .ok (.iload 4, 2) := by decide +kernel
theorem dX4_compareWays_54 : decode cX4_compareWays 54 = .ok (.ifCond .lt 16, 3) := by decide +kernel
theorem dX4_compareWays_57 : decode cX4_compareWays 57 = .ok (.aload_n 0, 1) := by decide +kernel
theorem dX4_compareWays_58 : decode cX4_compareWays 58 = .ok (.iload_n 1, 1) := by decide +kernel
theorem dX4_compareWays_59 : decode cX4_compareWays 59 = .ok (.iload 4, 2) := by decide +kernel
theorem dX4_compareWays_61 : decode cX4_compareWays 61 = .ok (.invokevirtual 61, 3) := by decide +kernel
theorem dX4_compareWays_64 : decode cX4_compareWays 64 = .ok (.iinc 4 (-1), 3) := by decide +kernel
theorem dX4_compareWays_67 : decode cX4_compareWays 67 = .ok (.goto (-15), 3) := by decide +kernel
theorem dX4_compareWays_70 : decode cX4_compareWays 70 = .ok (.aload_n 0, 1) := by decide +kernel
theorem dX4_compareWays_71 : decode cX4_compareWays 71 = .ok (.getfield 27, 3) := by decide +kernel
theorem dX4_compareWays_74 : decode cX4_compareWays 74 = .ok (.getfield 44, 3) := by decide +kernel
theorem dX4_compareWays_77 : decode cX4_compareWays 77 = .ok (.iload_n 1, 1) := by decide +kernel
theorem dX4_compareWays_78 : decode cX4_compareWays 78 = .ok (.iload_n 2, 1) := by decide +kernel
theorem dX4_compareWays_79 : decode cX4_compareWays 79 = .ok (.iastore, 1) := by decide +kernel
theorem dX4_compareWays_80 : decode cX4_compareWays 80 = .ok (.aload_n 0, 1) := by decide +kernel
theorem dX4_compareWays_81 : decode cX4_compareWays 81 = .ok (.getfield 27, 3) := by decide +kernel
theorem dX4_compareWays_84 : decode cX4_compareWays 84 = .ok (.getfield 47, 3) := by decide +kernel
theorem dX4_compareWays_87 : decode cX4_compareWays 87 = .ok (.iload_n 1, 1) := by decide +kernel
theorem dX4_compareWays_88 : decode cX4_compareWays 88 = .ok (.iload_n 3, 1) := by decide +kernel
theorem dX4_compareWays_89 : decode cX4_compareWays 89 = .ok (.iastore, 1) := by decide +kernel
theorem dX4_compareWays_90 : decode cX4_compareWays 90 = .ok (.return_, 1) := by decide +kernel
theorem dX4_compareHolds_0 : decode cX4_compareHolds 0 = .ok (.iload_n 2, 1) := by decide +kernel
theorem dX4_compareHolds_1 : decode cX4_compareHolds 1 = .ok (.aload_n 0, 1) := by decide +kernel
theorem dX4_compareHolds_2 : decode cX4_compareHolds 2 = .ok (.getfield 27, 3) := by decide +kernel
theorem dX4_compareHolds_5 : decode cX4_compareHolds 5 = .ok (.getfield 65, 3) := by decide +kernel
theorem dX4_compareHolds_8 : decode cX4_compareHolds 8 = .ok (.invokestatic 69, 3) := by decide +kernel
theorem dX4_compareHolds_11 : decode cX4_compareHolds 11 = .ok (.istore_n 3, 1) := by decide +kernel
theorem dX4_compareHolds_12 : decode cX4_compareHolds 12 = .ok (.aload_n 0, 1) := by decide +kernel
theorem dX4_compareHolds_13 : decode cX4_compareHolds 13 = .ok (.getfield 27, 3) := by decide +kernel
theorem dX4_compareHolds_16 : decode cX4_compareHolds 16 = .ok (.getfield 47, 3) := by decide +kernel
theorem dX4_compareHolds_19 : decode cX4_compareHolds 19 = .ok (.iload_n 1, 1) := by decide +kernel
theorem dX4_compareHolds_20 : decode cX4_compareHolds 20 = .ok (.iload_n 2, 1) := by decide +kernel
theorem dX4_compareHolds_21 : decode cX4_compareHolds 21 = .ok (.iastore, 1) := by decide +kernel
theorem dX4_compareHolds_22 : decode cX4_compareHolds 22 = .ok (.iconst 0, 1) := by decide +kernel
theorem dX4_compareHolds_23 : decode cX4_compareHolds 23 = .ok (.istore 4, 2) := by decide +kernel
theorem dX4_compareHolds_25 : decode cX4_compareHolds 25 = .ok (.iload 4, 2) := by decide +kernel
theorem dX4_compareHolds_27 : decode cX4_compareHolds 27 = .ok (.iconst 1, 1) := by decide +kernel
theorem dX4_compareHolds_28 : decode cX4_compareHolds 28 = .ok (.iload_n 3, 1) := by decide +kernel
theorem dX4_compareHolds_29 : decode cX4_compareHolds 29 = .ok (.ishl, 1) := by decide +kernel
theorem dX4_compareHolds_30 : decode cX4_compareHolds 30 = .ok (.if_icmp .ge 65, 3) := by decide +kernel
theorem dX4_compareHolds_33 : decode cX4_compareHolds 33 = .ok (.aload_n 0, 1) := by decide +kernel
theorem dX4_compareHolds_34 : decode cX4_compareHolds 34 = .ok (.getfield 27, 3) := by decide +kernel
theorem dX4_compareHolds_37 : decode cX4_compareHolds 37 = .ok (.getfield 44, 3) := by decide +kernel
theorem dX4_compareHolds_40 : decode cX4_compareHolds 40 = .ok (.iload_n 1, 1) := by decide +kernel
theorem dX4_compareHolds_41 : decode cX4_compareHolds 41 = .ok (.iload 4, 2) := by decide +kernel
theorem dX4_compareHolds_43 : decode cX4_compareHolds 43 = .ok (.iastore, 1) := by decide +kernel
theorem dX4_compareHolds_44 : decode cX4_compareHolds 44 = .ok (.aload_n 0, 1) := by decide +kernel
theorem dX4_compareHolds_45 : decode cX4_compareHolds 45 = .ok (.getfield 31, 3) := by decide +kernel
theorem dX4_compareHolds_48 : decode cX4_compareHolds 48 = .ok (.iload_n 1, 1) := by decide +kernel
theorem dX4_compareHolds_49 : decode cX4_compareHolds 49 = .ok (.invokevirtual 75, 3) := by decide +kernel
theorem dX4_compareHolds_52 : decode cX4_compareHolds 52 = .ok (.aload_n 0, 1) := by decide +kernel
theorem dX4_compareHolds_53 : decode cX4_compareHolds 53 = .ok (.getfield 31, 3) := by decide +kernel
theorem dX4_compareHolds_56 : decode cX4_compareHolds 56 = .ok (.iload_n 1, 1) := by decide +kernel
theorem dX4_compareHolds_57 : decode cX4_compareHolds 57 = .ok (.invokevirtual 78, 3) := by decide +kernel
theorem dX4_compareHolds_60 : decode cX4_compareHolds 60 = .ok (.lstore 5, 2) := by decide +kernel
theorem dX4_compareHolds_62 : decode cX4_compareHolds 62 = .ok (.lload 5, 2) := by decide +kernel
theorem dX4_compareHolds_64 : decode cX4_compareHolds 64 = .ok (.aload_n 0, 1) := by decide +kernel
theorem dX4_compareHolds_65 : decode cX4_compareHolds 65 = .ok (.getfield 57, 3) := by decide +kernel
theorem dX4_compareHolds_68 : decode cX4_compareHolds 68 = .ok (.lcmp, 1) := by decide +kernel
theorem dX4_compareHolds_69 : decode cX4_compareHolds 69 = .ok (.ifCond .ge 20, 3) := by decide +kernel
theorem dX4_compareHolds_72 : decode cX4_compareHolds 72 = .ok (.aload_n 0, 1) := by decide +kernel
theorem dX4_compareHolds_73 : decode cX4_compareHolds 73 = .ok (.lload 5, 2) := by decide +kernel
theorem dX4_compareHolds_75 : decode cX4_compareHolds 75 = .ok (.putfield 57, 3) := by decide +kernel
theorem dX4_compareHolds_78 : decode cX4_compareHolds 78 = .ok (.aload_n 0, 1) := by decide +kernel
theorem dX4_compareHolds_79 : decode cX4_compareHolds 79 = .ok (.iload 4, 2) := by decide +kernel
theorem dX4_compareHolds_81 : decode cX4_compareHolds 81 = .ok (.putfield 82, 3) := by decide +kernel
theorem dX4_compareHolds_84 : decode cX4_compareHolds 84 = .ok (.aload_n 0, 1) := by decide +kernel
theorem dX4_compareHolds_85 : decode cX4_compareHolds 85 = .ok (.iload_n 2, 1) := by decide +kernel
theorem dX4_compareHolds_86 : decode cX4_compareHolds 86 = .ok (.putfield 85, 3) := by decide +kernel
theorem dX4_compareHolds_89 : decode cX4_compareHolds 89 = .ok (.iinc 4 1, 3) := by decide +kernel
theorem dX4_compareHolds_92 : decode cX4_compareHolds 92 = .ok (.goto (-67), 3) := by decide +kernel
theorem dX4_compareHolds_95 : decode cX4_compareHolds 95 = .ok (.return_, 1) := by decide +kernel
theorem dX4_settle_0 : decode cX4_settle 0 = .ok (.aload_n 0, 1) := by decide +kernel
theorem dX4_settle_1 : decode cX4_settle 1 = .ok (.getfield 27, 3) := by decide +kernel
theorem dX4_settle_4 : decode cX4_settle 4 = .ok (.invokevirtual 35, 3) := by decide +kernel
theorem dX4_settle_7 : decode cX4_settle 7 = .ok (.aload_n 0, 1) := by decide +kernel
theorem dX4_settle_8 : decode cX4_settle 8 = .ok (.iconst (-1), 1) := by decide +kernel
theorem dX4_settle_9 : decode cX4_settle 9 = .ok (.putfield 88, 3) := by decide +kernel
theorem dX4_settle_12 : decode cX4_settle 12 = .ok (.iconst 1, 1) := by decide +kernel
theorem dX4_settle_13 : decode cX4_settle 13 = .ok (.istore_n 1, 1) := by decide +kernel
theorem dX4_settle_14 : decode cX4_settle 14 = .ok (.iload_n 1, 1) := by decide +kernel
theorem dX4_settle_15 : decode cX4_settle 15 = .ok (.bipush 20, 2) := by decide +kernel
theorem dX4_settle_17 : decode cX4_settle 17 = .ok (.if_icmp .gt 29, 3) := by decide +kernel
theorem dX4_settle_20 : decode cX4_settle 20 = .ok (.aload_n 0, 1) := by decide +kernel
theorem dX4_settle_21 : decode cX4_settle 21 = .ok (.getfield 88, 3) := by decide +kernel
theorem dX4_settle_24 : decode cX4_settle 24 = .ok (.iconst (-1), 1) := by decide +kernel
theorem dX4_settle_25 : decode cX4_settle 25 = .ok (.if_icmp .ne 21, 3) := by decide +kernel
theorem dX4_settle_28 : decode cX4_settle 28 = .ok (.aload_n 0, 1) := by decide +kernel
theorem dX4_settle_29 : decode cX4_settle 29 = .ok (.invokevirtual 91, 3) := by decide +kernel
theorem dX4_settle_32 : decode cX4_settle 32 = .ok (.ifCond .ne 8, 3) := by decide +kernel
theorem dX4_settle_35 : decode cX4_settle 35 = .ok (.aload_n 0, 1) := by decide +kernel
theorem dX4_settle_36 : decode cX4_settle 36 = .ok (.iload_n 1, 1) := by decide +kernel
theorem dX4_settle_37 : decode cX4_settle 37 = .ok (.putfield 88, 3) := by decide +kernel
theorem dX4_settle_40 : decode cX4_settle 40 = .ok (.iinc 1 1, 3) := by decide +kernel
theorem dX4_settle_43 : decode cX4_settle 43 = .ok (.goto (-29), 3) := by decide +kernel
theorem dX4_settle_46 : decode cX4_settle 46 = .ok (.aload_n 0, 1) := by decide +kernel
theorem dX4_settle_47 : decode cX4_settle 47 = .ok (.getfield 27, 3) := by decide +kernel
theorem dX4_settle_50 : decode cX4_settle 50 = .ok (.getfield 44, 3) := by decide +kernel
theorem dX4_settle_53 : decode cX4_settle 53 = .ok (.iconst 0, 1) := by decide +kernel
theorem dX4_settle_54 : decode cX4_settle 54 = .ok (.aload_n 0, 1) := by decide +kernel
theorem dX4_settle_55 : decode cX4_settle 55 = .ok (.getfield 9, 3) := by decide +kernel
theorem dX4_settle_58 : decode cX4_settle 58 = .ok (.iconst 0, 1) := by decide +kernel
theorem dX4_settle_59 : decode cX4_settle 59 = .ok (.iconst 4, 1) := by decide +kernel
theorem dX4_settle_60 : decode cX4_settle 60 = .ok (.invokestatic 95, 3) := by decide +kernel
theorem dX4_settle_63 : decode cX4_settle 63 = .ok (.aload_n 0, 1) := by decide +kernel
theorem dX4_settle_64 : decode cX4_settle 64 = .ok (.getfield 27, 3) := by decide +kernel
theorem dX4_settle_67 : decode cX4_settle 67 = .ok (.getfield 47, 3) := by decide +kernel
theorem dX4_settle_70 : decode cX4_settle 70 = .ok (.iconst 0, 1) := by decide +kernel
theorem dX4_settle_71 : decode cX4_settle 71 = .ok (.aload_n 0, 1) := by decide +kernel
theorem dX4_settle_72 : decode cX4_settle 72 = .ok (.getfield 15, 3) := by decide +kernel
theorem dX4_settle_75 : decode cX4_settle 75 = .ok (.iconst 0, 1) := by decide +kernel
theorem dX4_settle_76 : decode cX4_settle 76 = .ok (.iconst 4, 1) := by decide +kernel
theorem dX4_settle_77 : decode cX4_settle 77 = .ok (.invokestatic 95, 3) := by decide +kernel
theorem dX4_settle_80 : decode cX4_settle 80 = .ok (.return_, 1) := by decide +kernel
theorem dX4_roundChanges_0 : decode cX4_roundChanges 0 = .ok (.iconst 0, 1) := by decide +kernel
theorem dX4_roundChanges_1 : decode cX4_roundChanges 1 = .ok (.istore_n 1, 1) := by decide +kernel
theorem dX4_roundChanges_2 : decode cX4_roundChanges 2 = .ok (.iconst 0, 1) := by decide +kernel
theorem dX4_roundChanges_3 : decode cX4_roundChanges 3 = .ok (.istore_n 2, 1) := by decide +kernel
theorem dX4_roundChanges_4 : decode cX4_roundChanges 4 = .ok (.iload_n 2, 1) := by decide +kernel
theorem dX4_roundChanges_5 : decode cX4_roundChanges 5 = .ok (.aload_n 0, 1) := by decide +kernel
theorem dX4_roundChanges_6 : decode cX4_roundChanges 6 = .ok (.getfield 27, 3) := by decide +kernel
theorem dX4_roundChanges_9 : decode cX4_roundChanges 9 = .ok (.getfield 101, 3) := by decide +kernel
theorem dX4_roundChanges_12 : decode cX4_roundChanges 12 = .ok (.if_icmp .ge 67, 3) := by decide +kernel
theorem dX4_roundChanges_15 : decode cX4_roundChanges 15 = .ok (.aload_n 0, 1) := by decide +kernel
theorem dX4_roundChanges_16 : decode cX4_roundChanges 16 = .ok (.getfield 31, 3) := by decide +kernel
theorem dX4_roundChanges_19 : decode cX4_roundChanges 19 = .ok (.invokevirtual 104, 3) := by decide +kernel
theorem dX4_roundChanges_22 : decode cX4_roundChanges 22 = .ok (.aload_n 0, 1) := by decide +kernel
theorem dX4_roundChanges_23 : decode cX4_roundChanges 23 = .ok (.getfield 31, 3) := by decide +kernel
theorem dX4_roundChanges_26 : decode cX4_roundChanges 26 = .ok (.iload_n 2, 1) := by decide +kernel
theorem dX4_roundChanges_27 : decode cX4_roundChanges 27 = .ok (.invokevirtual 78, 3) := by decide +kernel
theorem dX4_roundChanges_30 : decode cX4_roundChanges 30 = .ok (.lstore_n 3, 1) := by decide +kernel
theorem dX4_roundChanges_31 : decode cX4_roundChanges 31 = .ok (.aload_n 0, 1) := by decide +kernel
theorem dX4_roundChanges_32 : decode cX4_roundChanges 32 = .ok (.iload_n 2, 1) := by decide +kernel
theorem dX4_roundChanges_33 : decode cX4_roundChanges 33 = .ok (.invokevirtual 40, 3) := by decide +kernel
theorem dX4_roundChanges_36 : decode cX4_roundChanges 36 = .ok (.aload_n 0, 1) := by decide +kernel
theorem dX4_roundChanges_37 : decode cX4_roundChanges 37 = .ok (.getfield 57, 3) := by decide +kernel
theorem dX4_roundChanges_40 : decode cX4_roundChanges 40 = .ok (.lload_n 3, 1) := by decide +kernel
theorem dX4_roundChanges_41 : decode cX4_roundChanges 41 = .ok (.lcmp, 1) := by decide +kernel
theorem dX4_roundChanges_42 : decode cX4_roundChanges 42 = .ok (.ifCond .ge 31, 3) := by decide +kernel
theorem dX4_roundChanges_45 : decode cX4_roundChanges 45 = .ok (.aload_n 0, 1) := by decide +kernel
theorem dX4_roundChanges_46 : decode cX4_roundChanges 46 = .ok (.getfield 27, 3) := by decide +kernel
theorem dX4_roundChanges_49 : decode cX4_roundChanges 49 = .ok (.getfield 44, 3) := by decide +kernel
theorem dX4_roundChanges_52 : decode cX4_roundChanges 52 = .ok (.iload_n 2, 1) := by decide +kernel
theorem dX4_roundChanges_53 : decode cX4_roundChanges 53 = .ok (.aload_n 0, 1) := by decide +kernel
theorem dX4_roundChanges_54 : decode cX4_roundChanges 54 = .ok (.getfield 82, 3) := by decide +kernel
theorem dX4_roundChanges_57 : decode cX4_roundChanges 57 = .ok (.iastore, 1) := by decide +kernel
theorem dX4_roundChanges_58 : decode cX4_roundChanges 58 = .ok (.aload_n 0, 1) := by decide +kernel
theorem dX4_roundChanges_59 : decode cX4_roundChanges 59 = .ok (.getfield 27, 3) := by decide +kernel
theorem dX4_roundChanges_62 : decode cX4_roundChanges 62 = .ok (.getfield 47, 3) := by decide +kernel
theorem dX4_roundChanges_65 : decode cX4_roundChanges 65 = .ok (.iload_n 2, 1) := by decide +kernel
theorem dX4_roundChanges_66 : decode cX4_roundChanges 66 = .ok (.aload_n 0, 1) := by decide +kernel
theorem dX4_roundChanges_67 : decode cX4_roundChanges 67 = .ok (.getfield 85, 3) := by decide +kernel
theorem dX4_roundChanges_70 : decode cX4_roundChanges 70 = .ok (.iastore, 1) := by decide +kernel
theorem dX4_roundChanges_71 : decode cX4_roundChanges 71 = .ok (.iconst 1, 1) := by decide +kernel
theorem dX4_roundChanges_72 : decode cX4_roundChanges 72 = .ok (.istore_n 1, 1) := by decide +kernel
theorem dX4_roundChanges_73 : decode cX4_roundChanges 73 = .ok (.iinc 2 1, 3) := by decide +kernel
theorem dX4_roundChanges_76 : decode cX4_roundChanges 76 = .ok (.goto (-72), 3) := by decide +kernel
theorem dX4_roundChanges_79 : decode cX4_roundChanges 79 = .ok (.iload_n 1, 1) := by decide +kernel
theorem dX4_roundChanges_80 : decode cX4_roundChanges 80 = .ok (.ireturn, 1) := by decide +kernel
theorem dX4_findOrder_0 : decode cX4_findOrder 0 = .ok (.aload_n 0, 1) := by decide +kernel
theorem dX4_findOrder_1 : decode cX4_findOrder 1 = .ok (.getfield 27, 3) := by decide +kernel
theorem dX4_findOrder_4 : decode cX4_findOrder 4 = .ok (.invokevirtual 35, 3) := by decide +kernel
theorem dX4_findOrder_7 : decode cX4_findOrder 7 = .ok (.aload_n 0, 1) := by decide +kernel
theorem dX4_findOrder_8 : decode cX4_findOrder 8 = .ok (.getfield 27, 3) := by decide +kernel
theorem dX4_findOrder_11 : decode cX4_findOrder 11 = .ok (.getfield 107, 3) := by decide +kernel
theorem dX4_findOrder_14 : decode cX4_findOrder 14 = .ok (.iconst 0, 1) := by decide +kernel
theorem dX4_findOrder_15 : decode cX4_findOrder 15 = .ok (.aload_n 0, 1) := by decide +kernel
theorem dX4_findOrder_16 : decode cX4_findOrder 16 = .ok (.getfield 24, 3) := by decide +kernel
theorem dX4_findOrder_19 : decode cX4_findOrder 19 = .ok (.iconst 0, 1) := by decide +kernel
theorem dX4_findOrder_20 : decode cX4_findOrder 20 = .ok (.iconst 4, 1) := by decide +kernel
theorem dX4_findOrder_21 : decode cX4_findOrder 21 = .ok (.invokestatic 95, 3) := by decide +kernel
theorem dX4_findOrder_24 : decode cX4_findOrder 24 = .ok (.ldc2_w 55, 3) := by decide +kernel
theorem dX4_findOrder_27 : decode cX4_findOrder 27 = .ok (.lstore_n 2, 1) := by decide +kernel
theorem dX4_findOrder_28 : decode cX4_findOrder 28 = .ok (.iconst 0, 1) := by decide +kernel
theorem dX4_findOrder_29 : decode cX4_findOrder 29 = .ok (.istore 4, 2) := by decide +kernel
theorem dX4_findOrder_31 : decode cX4_findOrder 31 = .ok (.iload 4, 2) := by decide +kernel
theorem dX4_findOrder_33 : decode cX4_findOrder 33 = .ok (.iconst 1, 1) := by decide +kernel
theorem dX4_findOrder_34 : decode cX4_findOrder 34 = .ok (.iconst 2, 1) := by decide +kernel
theorem dX4_findOrder_35 : decode cX4_findOrder 35 = .ok (.aload_n 0, 1) := by decide +kernel
theorem dX4_findOrder_36 : decode cX4_findOrder 36 = .ok (.getfield 27, 3) := by decide +kernel
theorem dX4_findOrder_39 : decode cX4_findOrder 39 = .ok (.getfield 65, 3) := by decide +kernel
theorem dX4_findOrder_42 : decode cX4_findOrder 42 = .ok (.imul, 1) := by decide +kernel
theorem dX4_findOrder_43 : decode cX4_findOrder 43 = .ok (.ishl, 1) := by decide +kernel
theorem dX4_findOrder_44 : decode cX4_findOrder 44 = .ok (.if_icmp .ge 63, 3) := by decide +kernel
theorem dX4_findOrder_47 : decode cX4_findOrder 47 = .ok (.aload_n 0, 1) := by decide +kernel
theorem dX4_findOrder_48 : decode cX4_findOrder 48 = .ok (.iload 4, 2) := by decide +kernel
theorem dX4_findOrder_50 : decode cX4_findOrder 50 = .ok (.invokevirtual 110, 3) := by decide +kernel
theorem dX4_findOrder_53 : decode cX4_findOrder 53 = .ok (.ifCond .eq 48, 3) := by decide +kernel
theorem dX4_findOrder_56 : decode cX4_findOrder 56 = .ok (.aload_n 0, 1) := by decide +kernel
theorem dX4_findOrder_57 : decode cX4_findOrder 57 = .ok (.getfield 31, 3) := by decide +kernel
theorem dX4_findOrder_60 : decode cX4_findOrder 60 = .ok (.invokevirtual 104, 3) := by decide +kernel
theorem dX4_findOrder_63 : decode cX4_findOrder 63 = .ok (.aload_n 0, 1) := by decide +kernel
theorem dX4_findOrder_64 : decode cX4_findOrder 64 = .ok (.getfield 31, 3) := by decide +kernel
theorem dX4_findOrder_67 : decode cX4_findOrder 67 = .ok (.getfield 114, 3) := by decide +kernel
theorem dX4_findOrder_70 : decode cX4_findOrder 70 = .ok (.iload_n 1, 1) := by decide +kernel
theorem dX4_findOrder_71 : decode cX4_findOrder 71 = .ok (.laload, 1) := by decide +kernel
theorem dX4_findOrder_72 : decode cX4_findOrder 72 = .ok (.lload_n 2, 1) := by decide +kernel
theorem dX4_findOrder_73 : decode cX4_findOrder 73 = .ok (.lcmp, 1) := by decide +kernel
theorem dX4_findOrder_74 : decode cX4_findOrder 74 = .ok (.ifCond .ge 27, 3) := by decide +kernel
theorem dX4_findOrder_77 : decode cX4_findOrder 77 = .ok (.aload_n 0, 1) := by decide +kernel
theorem dX4_findOrder_78 : decode cX4_findOrder 78 = .ok (.getfield 31, 3) := by decide +kernel
theorem dX4_findOrder_81 : decode cX4_findOrder 81 = .ok (.getfield 114, 3) := by decide +kernel
theorem dX4_findOrder_84 : decode cX4_findOrder 84 = .ok (.iload_n 1, 1) := by decide +kernel
theorem dX4_findOrder_85 : decode cX4_findOrder 85 = .ok (.laload, 1) := by decide +kernel
theorem dX4_findOrder_86 : decode cX4_findOrder 86 = .ok (.lstore_n 2, 1) := by decide +kernel
theorem dX4_findOrder_87 : decode cX4_findOrder 87 = .ok (.aload_n 0, 1) := by decide +kernel
theorem dX4_findOrder_88 : decode cX4_findOrder 88 = .ok (.getfield 21, 3) := by decide +kernel
theorem dX4_findOrder_91 : decode cX4_findOrder 91 = .ok (.iconst 0, 1) := by decide +kernel
theorem dX4_findOrder_92 : decode cX4_findOrder 92 = .ok (.aload_n 0, 1) := by decide +kernel
theorem dX4_findOrder_93 : decode cX4_findOrder 93 = .ok (.getfield 18, 3) := by decide +kernel
theorem dX4_findOrder_96 : decode cX4_findOrder 96 = .ok (.iconst 0, 1) := by decide +kernel
theorem dX4_findOrder_97 : decode cX4_findOrder 97 = .ok (.iconst 4, 1) := by decide +kernel
theorem dX4_findOrder_98 : decode cX4_findOrder 98 = .ok (.invokestatic 95, 3) := by decide +kernel
theorem dX4_findOrder_101 : decode cX4_findOrder 101 = .ok (.iinc 4 1, 3) := by decide +kernel
theorem dX4_findOrder_104 : decode cX4_findOrder 104 = .ok (.goto (-73), 3) := by decide +kernel
theorem dX4_findOrder_107 : decode cX4_findOrder 107 = .ok (.return_, 1) := by decide +kernel
theorem dX4_setRow_0 : decode cX4_setRow 0 = .ok (.iconst 0, 1) := by decide +kernel
theorem dX4_setRow_1 : decode cX4_setRow 1 = .ok (.istore_n 2, 1) := by decide +kernel
theorem dX4_setRow_2 : decode cX4_setRow 2 = .ok (.iconst 0, 1) := by decide +kernel
theorem dX4_setRow_3 : decode cX4_setRow 3 = .ok (.istore_n 3, 1) := by decide +kernel
theorem dX4_setRow_4 : decode cX4_setRow 4 = .ok (.iload_n 3, 1) := by decide +kernel
theorem dX4_setRow_5 : decode cX4_setRow 5 = .ok (.aload_n 0, 1) := by decide +kernel
theorem dX4_setRow_6 : decode cX4_setRow 6 = .ok (.getfield 27, 3) := by decide +kernel
theorem dX4_setRow_9 : decode cX4_setRow 9 = .ok (.getfield 65, 3) := by decide +kernel
theorem dX4_setRow_12 : decode cX4_setRow 12 = .ok (.if_icmp .ge 82, 3) := by decide +kernel
theorem dX4_setRow_15 : decode cX4_setRow 15 = .ok (.iload_n 1, 1) := by decide +kernel
theorem dX4_setRow_16 : decode cX4_setRow 16 = .ok (.iconst 2, 1) := by decide +kernel
theorem dX4_setRow_17 : decode cX4_setRow 17 = .ok (.aload_n 0, 1) := by decide +kernel
theorem dX4_setRow_18 : decode cX4_setRow 18 = .ok (.getfield 27, 3) := by decide +kernel
theorem dX4_setRow_21 : decode cX4_setRow 21 = .ok (.getfield 65, 3) := by decide +kernel
theorem dX4_setRow_24 : decode cX4_setRow 24 = .ok (.iconst 1, 1) := by decide +kernel
theorem dX4_setRow_25 : decode cX4_setRow 25 = .ok (.isub, 1) := by decide +kernel
theorem dX4_setRow_26 : decode cX4_setRow 26 = .ok (.iload_n 3, 1) := by decide +kernel
theorem dX4_setRow_27 : decode cX4_setRow 27 = .ok (.isub, 1) := by decide +kernel
theorem dX4_setRow_28 : decode cX4_setRow 28 = .ok (.imul, 1) := by decide +kernel
theorem dX4_setRow_29 : decode cX4_setRow 29 = .ok (.ishr, 1) := by decide +kernel
theorem dX4_setRow_30 : decode cX4_setRow 30 = .ok (.iconst 3, 1) := by decide +kernel
theorem dX4_setRow_31 : decode cX4_setRow 31 = .ok (.iand, 1) := by decide +kernel
theorem dX4_setRow_32 : decode cX4_setRow 32 = .ok (.istore 4, 2) := by decide +kernel
theorem dX4_setRow_34 : decode cX4_setRow 34 = .ok (.iload 4, 2) := by decide +kernel
theorem dX4_setRow_36 : decode cX4_setRow 36 = .ok (.aload_n 0, 1) := by decide +kernel
theorem dX4_setRow_37 : decode cX4_setRow 37 = .ok (.getfield 27, 3) := by decide +kernel
theorem dX4_setRow_40 : decode cX4_setRow 40 = .ok (.getfield 65, 3) := by decide +kernel
theorem dX4_setRow_43 : decode cX4_setRow 43 = .ok (.if_icmp .ge 12, 3) := by decide +kernel
theorem dX4_setRow_46 : decode cX4_setRow 46 = .ok (.iload_n 2, 1) := by decide +kernel
theorem dX4_setRow_47 : decode cX4_setRow 47 = .ok (.iload 4, 2) := by decide +kernel
theorem dX4_setRow_49 : decode cX4_setRow 49 = .ok (.invokestatic 118, 3) := by decide +kernel
theorem dX4_setRow_52 : decode cX4_setRow 52 = .ok (.ifCond .eq 5, 3) := by decide +kernel
theorem dX4_setRow_55 : decode cX4_setRow 55 = .ok (.iconst 0, 1) := by decide +kernel
theorem dX4_setRow_56 : decode cX4_setRow 56 = .ok (.ireturn, 1) := by decide +kernel
theorem dX4_setRow_57 : decode cX4_setRow 57 = .ok (.iload_n 2, 1) := by decide +kernel
theorem dX4_setRow_58 : decode cX4_setRow 58 = .ok (.iconst 1, 1) := by decide +kernel
theorem dX4_setRow_59 : decode cX4_setRow 59 = .ok (.iload 4, 2) := by decide +kernel
theorem dX4_setRow_61 : decode cX4_setRow 61 = .ok (.ishl, 1) := by decide +kernel
theorem dX4_setRow_62 : decode cX4_setRow 62 = .ok (.ior, 1) := by decide +kernel
theorem dX4_setRow_63 : decode cX4_setRow 63 = .ok (.istore_n 2, 1) := by decide +kernel
theorem dX4_setRow_64 : decode cX4_setRow 64 = .ok (.aload_n 0, 1) := by decide +kernel
theorem dX4_setRow_65 : decode cX4_setRow 65 = .ok (.getfield 21, 3) := by decide +kernel
theorem dX4_setRow_68 : decode cX4_setRow 68 = .ok (.iload_n 3, 1) := by decide +kernel
theorem dX4_setRow_69 : decode cX4_setRow 69 = .ok (.iload 4, 2) := by decide +kernel
theorem dX4_setRow_71 : decode cX4_setRow 71 = .ok (.iastore, 1) := by decide +kernel
theorem dX4_setRow_72 : decode cX4_setRow 72 = .ok (.aload_n 0, 1) := by decide +kernel
theorem dX4_setRow_73 : decode cX4_setRow 73 = .ok (.getfield 27, 3) := by decide +kernel
theorem dX4_setRow_76 : decode cX4_setRow 76 = .ok (.getfield 107, 3) := by decide +kernel
theorem dX4_setRow_79 : decode cX4_setRow 79 = .ok (.iload_n 3, 1) := by decide +kernel
theorem dX4_setRow_80 : decode cX4_setRow 80 = .ok (.aload_n 0, 1) := by decide +kernel
theorem dX4_setRow_81 : decode cX4_setRow 81 = .ok (.getfield 24, 3) := by decide +kernel
theorem dX4_setRow_84 : decode cX4_setRow 84 = .ok (.iload 4, 2) := by decide +kernel
theorem dX4_setRow_86 : decode cX4_setRow 86 = .ok (.iaload, 1) := by decide +kernel
theorem dX4_setRow_87 : decode cX4_setRow 87 = .ok (.iastore, 1) := by decide +kernel
theorem dX4_setRow_88 : decode cX4_setRow 88 = .ok (.iinc 3 1, 3) := by decide +kernel
theorem dX4_setRow_91 : decode cX4_setRow 91 = .ok (.goto (-87), 3) := by decide +kernel
theorem dX4_setRow_94 : decode cX4_setRow 94 = .ok (.iconst 1, 1) := by decide +kernel
theorem dX4_setRow_95 : decode cX4_setRow 95 = .ok (.ireturn, 1) := by decide +kernel
theorem dX4_bestCompany_0 : decode cX4_bestCompany 0 = .ok (.aload_n 0, 1) := by decide +kernel
theorem dX4_bestCompany_1 : decode cX4_bestCompany 1 = .ok (.getfield 27, 3) := by decide +kernel
theorem dX4_bestCompany_4 : decode cX4_bestCompany 4 = .ok (.invokevirtual 35, 3) := by decide +kernel
theorem dX4_bestCompany_7 : decode cX4_bestCompany 7 = .ok (.aload_n 0, 1) := by decide +kernel
theorem dX4_bestCompany_8 : decode cX4_bestCompany 8 = .ok (.getfield 27, 3) := by decide +kernel
theorem dX4_bestCompany_11 : decode cX4_bestCompany 11 = .ok (.getfield 101, 3) := by decide +kernel
theorem dX4_bestCompany_14 : decode cX4_bestCompany 14 = .ok (.iconst 2, 1) := by decide +kernel
theorem dX4_bestCompany_15 : decode cX4_bestCompany 15 = .ok (.if_icmp .ge 6, 3) := by decide +kernel
theorem dX4_bestCompany_18 : decode cX4_bestCompany 18 = .ok (.bipush (-3), 2) := by decide +kernel
theorem dX4_bestCompany_20 : decode cX4_bestCompany 20 = .ok (.ireturn, 1) := by decide +kernel
theorem dX4_bestCompany_21 : decode cX4_bestCompany 21 = .ok (.iconst 1, 1) := by decide +kernel
theorem dX4_bestCompany_22 : decode cX4_bestCompany 22 = .ok (.aload_n 0, 1) := by decide +kernel
theorem dX4_bestCompany_23 : decode cX4_bestCompany 23 = .ok (.getfield 27, 3) := by decide +kernel
theorem dX4_bestCompany_26 : decode cX4_bestCompany 26 = .ok (.getfield 101, 3) := by decide +kernel
theorem dX4_bestCompany_29 : decode cX4_bestCompany 29 = .ok (.ishl, 1) := by decide +kernel
theorem dX4_bestCompany_30 : decode cX4_bestCompany 30 = .ok (.iconst 1, 1) := by decide +kernel
theorem dX4_bestCompany_31 : decode cX4_bestCompany 31 = .ok (.isub, 1) := by decide +kernel
theorem dX4_bestCompany_32 : decode cX4_bestCompany 32 = .ok (.iconst 1, 1) := by decide +kernel
theorem dX4_bestCompany_33 : decode cX4_bestCompany 33 = .ok (.iload_n 1, 1) := by decide +kernel
theorem dX4_bestCompany_34 : decode cX4_bestCompany 34 = .ok (.ishl, 1) := by decide +kernel
theorem dX4_bestCompany_35 : decode cX4_bestCompany 35 = .ok (.iconst (-1), 1) := by decide +kernel
theorem dX4_bestCompany_36 : decode cX4_bestCompany 36 = .ok (.ixor, 1) := by decide +kernel
theorem dX4_bestCompany_37 : decode cX4_bestCompany 37 = .ok (.iand, 1) := by decide +kernel
theorem dX4_bestCompany_38 : decode cX4_bestCompany 38 = .ok (.istore_n 2, 1) := by decide +kernel
theorem dX4_bestCompany_39 : decode cX4_bestCompany 39 = .ok (.iconst 1, 1) := by decide +kernel
theorem dX4_bestCompany_40 : decode cX4_bestCompany 40 = .ok (.aload_n 0, 1) := by decide +kernel
theorem dX4_bestCompany_41 : decode cX4_bestCompany 41 = .ok (.getfield 27, 3) := by decide +kernel
theorem dX4_bestCompany_44 : decode cX4_bestCompany 44 = .ok (.getfield 122, 3) := by decide +kernel
theorem dX4_bestCompany_47 : decode cX4_bestCompany 47 = .ok (.ishl, 1) := by decide +kernel
theorem dX4_bestCompany_48 : decode cX4_bestCompany 48 = .ok (.iload_n 2, 1) := by decide +kernel
theorem dX4_bestCompany_49 : decode cX4_bestCompany 49 = .ok (.iand, 1) := by decide +kernel
theorem dX4_bestCompany_50 : decode cX4_bestCompany 50 = .ok (.istore_n 3, 1) := by decide +kernel
theorem dX4_bestCompany_51 : decode cX4_bestCompany 51 = .ok (.iload_n 2, 1) := by decide +kernel
theorem dX4_bestCompany_52 : decode cX4_bestCompany 52 = .ok (.istore 4, 2) := by decide +kernel
theorem dX4_bestCompany_54 : decode cX4_bestCompany 54 = .ok (.ldc2_w 55, 3) := by decide +kernel
theorem dX4_bestCompany_57 : decode cX4_bestCompany 57 = .ok (.lstore 5, 2) := by decide +kernel
theorem dX4_bestCompany_59 : decode cX4_bestCompany 59 = .ok (.iconst 1, 1) := by decide +kernel
theorem dX4_bestCompany_60 : decode cX4_bestCompany 60 = .ok (.istore 7, 2) := by decide +kernel
theorem dX4_bestCompany_62 : decode cX4_bestCompany 62 = .ok (.iload 7, 2) := by decide +kernel
theorem dX4_bestCompany_64 : decode cX4_bestCompany 64 = .ok (.iload_n 2, 1) := by decide +kernel
theorem dX4_bestCompany_65 : decode cX4_bestCompany 65 = .ok (.if_icmp .gt 76, 3) := by decide +kernel
theorem dX4_bestCompany_68 : decode cX4_bestCompany 68 = .ok (.iload 7, 2) := by decide +kernel
theorem dX4_bestCompany_70 : decode cX4_bestCompany 70 = .ok (.iload_n 2, 1) := by decide +kernel
theorem dX4_bestCompany_71 : decode cX4_bestCompany 71 = .ok (.iconst (-1), 1) := by decide +kernel
theorem dX4_bestCompany_72 : decode cX4_bestCompany 72 = .ok (.ixor, 1) := by decide +kernel
theorem dX4_bestCompany_73 : decode cX4_bestCompany 73 = .ok (.iand, 1) := by decide +kernel
theorem dX4_bestCompany_74 : decode cX4_bestCompany 74 = .ok (.ifCond .ne 61, 3) := by decide +kernel
theorem dX4_bestCompany_77 : decode cX4_bestCompany 77 = .ok (.iload 7, 2) := by decide +kernel
theorem dX4_bestCompany_79 : decode cX4_bestCompany 79 = .ok (.iload_n 3, 1) := by decide +kernel
theorem dX4_bestCompany_80 : decode cX4_bestCompany 80 = .ok (.iand, 1) := by decide +kernel
theorem dX4_bestCompany_81 : decode cX4_bestCompany 81 = .ok (.iload_n 3, 1) := by decide +kernel
theorem dX4_bestCompany_82 : decode cX4_bestCompany 82 = .ok (.if_icmp .ne 53, 3) := by decide +kernel
theorem dX4_bestCompany_85 : decode cX4_bestCompany 85 = .ok (.aload_n 0, 1) := by decide +kernel
theorem dX4_bestCompany_86 : decode cX4_bestCompany 86 = .ok (.getfield 27, 3) := by decide +kernel
theorem dX4_bestCompany_89 : decode cX4_bestCompany 89 = .ok (.iload_n 2, 1) := by decide +kernel
theorem dX4_bestCompany_90 : decode cX4_bestCompany 90 = .ok (.iload 7, 2) := by decide +kernel
theorem dX4_bestCompany_92 : decode cX4_bestCompany 92 = .ok (.iconst (-1), 1) := by decide +kernel
theorem dX4_bestCompany_93 : decode cX4_bestCompany 93 = .ok (.ixor, 1) := by decide +kernel
theorem dX4_bestCompany_94 : decode cX4_bestCompany 94 = .ok (.iand, 1) := by decide +kernel
theorem dX4_bestCompany_95 : decode cX4_bestCompany 95 = .ok (.putfield 125, 3) := by decide +kernel
theorem dX4_bestCompany_98 : decode cX4_bestCompany 98 = .ok (.aload_n 0, 1) := by decide +kernel
theorem dX4_bestCompany_99 : decode cX4_bestCompany 99 = .ok (.getfield 31, 3) := by decide +kernel
theorem dX4_bestCompany_102 : decode cX4_bestCompany 102 = .ok (.invokevirtual 104, 3) := by decide +kernel
theorem dX4_bestCompany_105 : decode cX4_bestCompany 105 = .ok (.aload_n 0, 1) := by decide +kernel
theorem dX4_bestCompany_106 : decode cX4_bestCompany 106 = .ok (.getfield 31, 3) := by decide +kernel
theorem dX4_bestCompany_109 : decode cX4_bestCompany 109 = .ok (.getfield 114, 3) := by decide +kernel
theorem dX4_bestCompany_112 : decode cX4_bestCompany 112 = .ok (.iload_n 1, 1) := by decide +kernel
theorem dX4_bestCompany_113 : decode cX4_bestCompany 113 = .ok (.laload, 1) := by decide +kernel
theorem dX4_bestCompany_114 : decode cX4_bestCompany 114 = .ok (.lload 5, 2) := by decide +kernel
theorem dX4_bestCompany_116 : decode cX4_bestCompany 116 = .ok (.lcmp, 1) := by decide +kernel
theorem dX4_bestCompany_117 : decode cX4_bestCompany 117 = .ok (.ifCond .ge 18, 3) := by decide +kernel
theorem dX4_bestCompany_120 : decode cX4_bestCompany 120 = .ok (.aload_n 0, 1) := by decide +kernel
theorem dX4_bestCompany_121 : decode cX4_bestCompany 121 = .ok (.getfield 31, 3) := by decide +kernel
theorem dX4_bestCompany_124 : decode cX4_bestCompany 124 = .ok (.getfield 114, 3) := by decide +kernel
theorem dX4_bestCompany_127 : decode cX4_bestCompany 127 = .ok (.iload_n 1, 1) := by decide +kernel
theorem dX4_bestCompany_128 : decode cX4_bestCompany 128 = .ok (.laload, 1) := by decide +kernel
theorem dX4_bestCompany_129 : decode cX4_bestCompany 129 = .ok (.lstore 5, 2) := by decide +kernel
theorem dX4_bestCompany_131 : decode cX4_bestCompany 131 = .ok (.iload 7, 2) := by decide +kernel
theorem dX4_bestCompany_133 : decode cX4_bestCompany 133 = .ok (.istore 4, 2) := by decide +kernel
theorem dX4_bestCompany_135 : decode cX4_bestCompany 135 = .ok (.iinc 7 1, 3) := by decide +kernel
theorem dX4_bestCompany_138 : decode cX4_bestCompany 138 = .ok (.goto (-76), 3) := by decide +kernel
theorem dX4_bestCompany_141 : decode cX4_bestCompany 141 = .ok (.iload 4, 2) := by decide +kernel
theorem dX4_bestCompany_143 : decode cX4_bestCompany 143 = .ok (.ireturn, 1) := by decide +kernel
theorem dX4_bestLaw_0 : decode cX4_bestLaw 0 = .ok (.aload_n 0, 1) := by decide +kernel
theorem dX4_bestLaw_1 : decode cX4_bestLaw 1 = .ok (.getfield 27, 3) := by decide +kernel
theorem dX4_bestLaw_4 : decode cX4_bestLaw 4 = .ok (.invokevirtual 35, 3) := by decide +kernel
theorem dX4_bestLaw_7 : decode cX4_bestLaw 7 = .ok (.iconst 0, 1) := by decide +kernel
theorem dX4_bestLaw_8 : decode cX4_bestLaw 8 = .ok (.istore_n 2, 1) := by decide +kernel
theorem dX4_bestLaw_9 : decode cX4_bestLaw 9 = .ok (.ldc2_w 55, 3) := by decide +kernel
theorem dX4_bestLaw_12 : decode cX4_bestLaw 12 = .ok (.lstore_n 3, 1) := by decide +kernel
theorem dX4_bestLaw_13 : decode cX4_bestLaw 13 = .ok (.iconst 0, 1) := by decide +kernel
theorem dX4_bestLaw_14 : decode cX4_bestLaw 14 = .ok (.istore 5, 2) := by decide +kernel
theorem dX4_bestLaw_16 : decode cX4_bestLaw 16 = .ok (.iload 5, 2) := by decide +kernel
theorem dX4_bestLaw_18 : decode cX4_bestLaw 18 = .ok (.bipush 9, 2) := by decide +kernel
theorem dX4_bestLaw_20 : decode cX4_bestLaw 20 = .ok (.if_icmp .ge 65, 3) := by decide +kernel
theorem dX4_bestLaw_23 : decode cX4_bestLaw 23 = .ok (.aload_n 0, 1) := by decide +kernel
theorem dX4_bestLaw_24 : decode cX4_bestLaw 24 = .ok (.getfield 27, 3) := by decide +kernel
theorem dX4_bestLaw_27 : decode cX4_bestLaw 27 = .ok (.iload 5, 2) := by decide +kernel
theorem dX4_bestLaw_29 : decode cX4_bestLaw 29 = .ok (.iconst 3, 1) := by decide +kernel
theorem dX4_bestLaw_30 : decode cX4_bestLaw 30 = .ok (.idiv, 1) := by decide +kernel
theorem dX4_bestLaw_31 : decode cX4_bestLaw 31 = .ok (.putfield 128, 3) := by decide +kernel
theorem dX4_bestLaw_34 : decode cX4_bestLaw 34 = .ok (.aload_n 0, 1) := by decide +kernel
theorem dX4_bestLaw_35 : decode cX4_bestLaw 35 = .ok (.getfield 27, 3) := by decide +kernel
theorem dX4_bestLaw_38 : decode cX4_bestLaw 38 = .ok (.iload 5, 2) := by decide +kernel
theorem dX4_bestLaw_40 : decode cX4_bestLaw 40 = .ok (.iconst 3, 1) := by decide +kernel
theorem dX4_bestLaw_41 : decode cX4_bestLaw 41 = .ok (.irem, 1) := by decide +kernel
theorem dX4_bestLaw_42 : decode cX4_bestLaw 42 = .ok (.putfield 131, 3) := by decide +kernel
theorem dX4_bestLaw_45 : decode cX4_bestLaw 45 = .ok (.aload_n 0, 1) := by decide +kernel
theorem dX4_bestLaw_46 : decode cX4_bestLaw 46 = .ok (.getfield 31, 3) := by decide +kernel
theorem dX4_bestLaw_49 : decode cX4_bestLaw 49 = .ok (.invokevirtual 104, 3) := by decide +kernel
theorem dX4_bestLaw_52 : decode cX4_bestLaw 52 = .ok (.aload_n 0, 1) := by decide +kernel
theorem dX4_bestLaw_53 : decode cX4_bestLaw 53 = .ok (.getfield 31, 3) := by decide +kernel
theorem dX4_bestLaw_56 : decode cX4_bestLaw 56 = .ok (.getfield 114, 3) := by decide +kernel
theorem dX4_bestLaw_59 : decode cX4_bestLaw 59 = .ok (.iload_n 1, 1) := by decide +kernel
theorem dX4_bestLaw_60 : decode cX4_bestLaw 60 = .ok (.laload, 1) := by decide +kernel
theorem dX4_bestLaw_61 : decode cX4_bestLaw 61 = .ok (.lload_n 3, 1) := by decide +kernel
theorem dX4_bestLaw_62 : decode cX4_bestLaw 62 = .ok (.lcmp, 1) := by decide +kernel
theorem dX4_bestLaw_63 : decode cX4_bestLaw 63 = .ok (.ifCond .ge 16, 3) := by decide +kernel
theorem dX4_bestLaw_66 : decode cX4_bestLaw 66 = .ok (.aload_n 0, 1) := by decide +kernel
theorem dX4_bestLaw_67 : decode cX4_bestLaw 67 = .ok (.getfield 31, 3) := by decide +kernel
theorem dX4_bestLaw_70 : decode cX4_bestLaw 70 = .ok (.getfield 114, 3) := by decide +kernel
theorem dX4_bestLaw_73 : decode cX4_bestLaw 73 = .ok (.iload_n 1, 1) := by decide +kernel
theorem dX4_bestLaw_74 : decode cX4_bestLaw 74 = .ok (.laload, 1) := by decide +kernel
theorem dX4_bestLaw_75 : decode cX4_bestLaw 75 = .ok (.lstore_n 3, 1) := by decide +kernel
theorem dX4_bestLaw_76 : decode cX4_bestLaw 76 = .ok (.iload 5, 2) := by decide +kernel
theorem dX4_bestLaw_78 : decode cX4_bestLaw 78 = .ok (.istore_n 2, 1) := by decide +kernel
theorem dX4_bestLaw_79 : decode cX4_bestLaw 79 = .ok (.iinc 5 1, 3) := by decide +kernel
theorem dX4_bestLaw_82 : decode cX4_bestLaw 82 = .ok (.goto (-66), 3) := by decide +kernel
theorem dX4_bestLaw_85 : decode cX4_bestLaw 85 = .ok (.iload_n 2, 1) := by decide +kernel
theorem dX4_bestLaw_86 : decode cX4_bestLaw 86 = .ok (.ireturn, 1) := by decide +kernel
theorem dX4_leastFunnyToLeave_0 : decode cX4_leastFunnyToLeave 0 = .ok (.aload_n 0, 1) := by decide +kernel
theorem dX4_leastFunnyToLeave_1 : decode cX4_leastFunnyToLeave 1 = .ok (.getfield 27, 3) := by decide +kernel
theorem dX4_leastFunnyToLeave_4 : decode cX4_leastFunnyToLeave 4 = .ok (.invokevirtual 35, 3) := by decide +kernel
theorem dX4_leastFunnyToLeave_7 : decode cX4_leastFunnyToLeave 7 = .ok (.aload_n 0, 1) := by decide +kernel
theorem dX4_leastFunnyToLeave_8 : decode cX4_leastFunnyToLeave 8 = .ok (.getfield 27, 3) := by decide +kernel
theorem dX4_leastFunnyToLeave_11 : decode cX4_leastFunnyToLeave 11 = .ok (.getfield 65, 3) := by decide +kernel
theorem dX4_leastFunnyToLeave_14 : decode cX4_leastFunnyToLeave 14 = .ok (.iconst 1, 1) := by decide +kernel
theorem dX4_leastFunnyToLeave_15 : decode cX4_leastFunnyToLeave 15 = .ok (.isub, 1) := by decide +kernel
theorem dX4_leastFunnyToLeave_16 : decode cX4_leastFunnyToLeave 16 = .ok (.istore_n 2, 1) := by decide +kernel
theorem dX4_leastFunnyToLeave_17 : decode cX4_leastFunnyToLeave 17 = .ok (.iload_n 2, 1) := by decide +kernel
theorem dX4_leastFunnyToLeave_18 : decode cX4_leastFunnyToLeave 18 = .ok (.ifCond .ge 6, 3) := by decide +kernel
theorem dX4_leastFunnyToLeave_21 : decode cX4_leastFunnyToLeave 21 = .ok (.bipush (-3), 2) := by decide +kernel
theorem dX4_leastFunnyToLeave_23 : decode cX4_leastFunnyToLeave 23 = .ok (.ireturn, 1) := by decide +kernel
theorem dX4_leastFunnyToLeave_24 : decode cX4_leastFunnyToLeave 24 = .ok (.iconst 0, 1) := by decide +kernel
theorem dX4_leastFunnyToLeave_25 : decode cX4_leastFunnyToLeave 25 = .ok (.istore_n 3, 1) := by decide +kernel
theorem dX4_leastFunnyToLeave_26 : decode cX4_leastFunnyToLeave 26 = .ok (.iload_n 3, 1) := by decide +kernel
theorem dX4_leastFunnyToLeave_27 : decode cX4_leastFunnyToLeave 27 = .ok (.bipush 9, 2) := by decide +kernel
theorem dX4_leastFunnyToLeave_29 : decode cX4_leastFunnyToLeave 29 = .ok (.if_icmp .gt 79, 3) := by decide +kernel
theorem dX4_leastFunnyToLeave_32 : decode cX4_leastFunnyToLeave 32 = .ok (.aload_n 0, 1) := by decide +kernel
theorem dX4_leastFunnyToLeave_33 : decode cX4_leastFunnyToLeave 33 = .ok (.getfield 27, 3) := by decide +kernel
theorem dX4_leastFunnyToLeave_36 : decode cX4_leastFunnyToLeave 36 = .ok (.getfield 107, 3) := by decide +kernel
theorem dX4_leastFunnyToLeave_39 : decode cX4_leastFunnyToLeave 39 = .ok (.iload_n 2, 1) := by decide +kernel
theorem dX4_leastFunnyToLeave_40 : decode cX4_leastFunnyToLeave 40 = .ok (.iload_n 3, 1) := by decide +kernel
theorem dX4_leastFunnyToLeave_41 : decode cX4_leastFunnyToLeave 41 = .ok (.iastore, 1) := by decide +kernel
theorem dX4_leastFunnyToLeave_42 : decode cX4_leastFunnyToLeave 42 = .ok (.aload_n 0, 1) := by decide +kernel
theorem dX4_leastFunnyToLeave_43 : decode cX4_leastFunnyToLeave 43 = .ok (.getfield 27, 3) := by decide +kernel
theorem dX4_leastFunnyToLeave_46 : decode cX4_leastFunnyToLeave 46 = .ok (.getfield 47, 3) := by decide +kernel
theorem dX4_leastFunnyToLeave_49 : decode cX4_leastFunnyToLeave 49 = .ok (.iload_n 1, 1) := by decide +kernel
theorem dX4_leastFunnyToLeave_50 : decode cX4_leastFunnyToLeave 50 = .ok (.iload_n 2, 1) := by decide +kernel
theorem dX4_leastFunnyToLeave_51 : decode cX4_leastFunnyToLeave 51 = .ok (.iastore, 1) := by decide +kernel
theorem dX4_leastFunnyToLeave_52 : decode cX4_leastFunnyToLeave 52 = .ok (.aload_n 0, 1) := by decide +kernel
theorem dX4_leastFunnyToLeave_53 : decode cX4_leastFunnyToLeave 53 = .ok (.getfield 31, 3) := by decide +kernel
theorem dX4_leastFunnyToLeave_56 : decode cX4_leastFunnyToLeave 56 = .ok (.invokevirtual 104, 3) := by decide +kernel
theorem dX4_leastFunnyToLeave_59 : decode cX4_leastFunnyToLeave 59 = .ok (.aload_n 0, 1) := by decide +kernel
theorem dX4_leastFunnyToLeave_60 : decode cX4_leastFunnyToLeave 60 = .ok (.getfield 31, 3) := by decide +kernel
theorem dX4_leastFunnyToLeave_63 : decode cX4_leastFunnyToLeave 63 = .ok (.iload_n 1, 1) := by decide +kernel
theorem dX4_leastFunnyToLeave_64 : decode cX4_leastFunnyToLeave 64 = .ok (.invokevirtual 78, 3) := by decide +kernel
theorem dX4_leastFunnyToLeave_67 : decode cX4_leastFunnyToLeave 67 = .ok (.lstore 4, 2) := by decide +kernel
theorem dX4_leastFunnyToLeave_69 : decode cX4_leastFunnyToLeave 69 = .ok (.aload_n 0, 1) := by decide +kernel
theorem dX4_leastFunnyToLeave_70 : decode cX4_leastFunnyToLeave 70 = .ok (.getfield 27, 3) := by decide +kernel
theorem dX4_leastFunnyToLeave_73 : decode cX4_leastFunnyToLeave 73 = .ok (.getfield 47, 3) := by decide +kernel
theorem dX4_leastFunnyToLeave_76 : decode cX4_leastFunnyToLeave 76 = .ok (.iload_n 1, 1) := by decide +kernel
theorem dX4_leastFunnyToLeave_77 : decode cX4_leastFunnyToLeave 77 = .ok (.iconst 4, 1) := by decide +kernel
theorem dX4_leastFunnyToLeave_78 : decode cX4_leastFunnyToLeave 78 = .ok (.iastore, 1) := by decide +kernel
theorem dX4_leastFunnyToLeave_79 : decode cX4_leastFunnyToLeave 79 = .ok (.aload_n 0, 1) := by decide +kernel
theorem dX4_leastFunnyToLeave_80 : decode cX4_leastFunnyToLeave 80 = .ok (.getfield 31, 3) := by decide +kernel
theorem dX4_leastFunnyToLeave_83 : decode cX4_leastFunnyToLeave 83 = .ok (.invokevirtual 104, 3) := by decide +kernel
theorem dX4_leastFunnyToLeave_86 : decode cX4_leastFunnyToLeave 86 = .ok (.lload 4, 2) := by decide +kernel
theorem dX4_leastFunnyToLeave_88 : decode cX4_leastFunnyToLeave 88 = .ok (.aload_n 0, 1) := by decide +kernel
theorem dX4_leastFunnyToLeave_89 : decode cX4_leastFunnyToLeave 89 = .ok (.getfield 31, 3) := by decide +kernel
theorem dX4_leastFunnyToLeave_92 : decode cX4_leastFunnyToLeave 92 = .ok (.iload_n 1, 1) := by decide +kernel
theorem dX4_leastFunnyToLeave_93 : decode cX4_leastFunnyToLeave 93 = .ok (.invokevirtual 78, 3) := by decide +kernel
theorem dX4_leastFunnyToLeave_96 : decode cX4_leastFunnyToLeave 96 = .ok (.lcmp, 1) := by decide +kernel
theorem dX4_leastFunnyToLeave_97 : decode cX4_leastFunnyToLeave 97 = .ok (.ifCond .ge 5, 3) := by decide +kernel
theorem dX4_leastFunnyToLeave_100 : decode cX4_leastFunnyToLeave 100 = .ok (.iload_n 3, 1) := by decide +kernel
theorem dX4_leastFunnyToLeave_101 : decode cX4_leastFunnyToLeave 101 = .ok (.ireturn, 1) := by decide +kernel
theorem dX4_leastFunnyToLeave_102 : decode cX4_leastFunnyToLeave 102 = .ok (.iinc 3 1, 3) := by decide +kernel
theorem dX4_leastFunnyToLeave_105 : decode cX4_leastFunnyToLeave 105 = .ok (.goto (-79), 3) := by decide +kernel
theorem dX4_leastFunnyToLeave_108 : decode cX4_leastFunnyToLeave 108 = .ok (.iconst (-1), 1) := by decide +kernel
theorem dX4_leastFunnyToLeave_109 : decode cX4_leastFunnyToLeave 109 = .ok (.ireturn, 1) := by decide +kernel
theorem dX5_init_0 : decode cX5_init 0 = .ok (.aload_n 0, 1) := by decide +kernel
theorem dX5_init_1 : decode cX5_init 1 = .ok (.invokespecial 3, 3) := by decide +kernel
theorem dX5_init_4 : decode cX5_init 4 = .ok (.aload_n 0, 1) := by decide +kernel
theorem dX5_init_5 : decode cX5_init 5 = .ok (.bipush 60, 2) := by decide +kernel
theorem dX5_init_7 : decode cX5_init 7 = .ok (.newarray .int, 2) := by decide +kernel
theorem dX5_init_9 : decode cX5_init 9 = .ok (.putfield 9, 3) := by decide +kernel
theorem dX5_init_12 : decode cX5_init 12 = .ok (.aload_n 0, 1) := by decide +kernel
theorem dX5_init_13 : decode cX5_init 13 = .ok (.bipush 60, 2) := by decide +kernel
theorem dX5_init_15 : decode cX5_init 15 = .ok (.newarray .int, 2) := by decide +kernel
theorem dX5_init_17 : decode cX5_init 17 = .ok (.putfield 15, 3) := by decide +kernel
theorem dX5_init_20 : decode cX5_init 20 = .ok (.aload_n 0, 1) := by decide +kernel
theorem dX5_init_21 : decode cX5_init 21 = .ok (.bipush 60, 2) := by decide +kernel
theorem dX5_init_23 : decode cX5_init 23 = .ok (.newarray .int, 2) := by decide +kernel
theorem dX5_init_25 : decode cX5_init 25 = .ok (.putfield 18, 3) := by decide +kernel
theorem dX5_init_28 : decode cX5_init 28 = .ok (.aload_n 0, 1) := by decide +kernel
theorem dX5_init_29 : decode cX5_init 29 = .ok (.bipush 60, 2) := by decide +kernel
theorem dX5_init_31 : decode cX5_init 31 = .ok (.newarray .int, 2) := by decide +kernel
theorem dX5_init_33 : decode cX5_init 33 = .ok (.putfield 21, 3) := by decide +kernel
theorem dX5_init_36 : decode cX5_init 36 = .ok (.aload_n 0, 1) := by decide +kernel
theorem dX5_init_37 : decode cX5_init 37 = .ok (.bipush 60, 2) := by decide +kernel
theorem dX5_init_39 : decode cX5_init 39 = .ok (.newarray .int, 2) := by decide +kernel
theorem dX5_init_41 : decode cX5_init 41 = .ok (.putfield 24, 3) := by decide +kernel
theorem dX5_init_44 : decode cX5_init 44 = .ok (.return_, 1) := by decide +kernel
theorem dX5_add_0 : decode cX5_add 0 = .ok (.aload_n 0, 1) := by decide +kernel
theorem dX5_add_1 : decode cX5_add 1 = .ok (.getfield 27, 3) := by decide +kernel
theorem dX5_add_4 : decode cX5_add 4 = .ok (.bipush 60, 2) := by decide +kernel
theorem dX5_add_6 : decode cX5_add 6 = .ok (.if_icmp .lt 5, 3) := by decide +kernel
theorem dX5_add_9 : decode cX5_add 9 = .ok (.iconst 0, 1) := by decide +kernel
theorem dX5_add_10 : decode cX5_add 10 = .ok (.ireturn, 1) := by decide +kernel
theorem dX5_add_11 : decode cX5_add 11 = .ok (.aload_n 0, 1) := by decide +kernel
theorem dX5_add_12 : decode cX5_add 12 = .ok (.getfield 9, 3) := by decide +kernel
theorem dX5_add_15 : decode cX5_add 15 = .ok (.aload_n 0, 1) := by decide +kernel
theorem dX5_add_16 : decode cX5_add 16 = .ok (.getfield 27, 3) := by decide +kernel
theorem dX5_add_19 : decode cX5_add 19 = .ok (.iload_n 1, 1) := by decide +kernel
theorem dX5_add_20 : decode cX5_add 20 = .ok (.iastore, 1) := by decide +kernel
theorem dX5_add_21 : decode cX5_add 21 = .ok (.aload_n 0, 1) := by decide +kernel
theorem dX5_add_22 : decode cX5_add 22 = .ok (.getfield 15, 3) := by decide +kernel
theorem dX5_add_25 : decode cX5_add 25 = .ok (.aload_n 0, 1) := by decide +kernel
theorem dX5_add_26 : decode cX5_add 26 = .ok (.getfield 27, 3) := by decide +kernel
theorem dX5_add_29 : decode cX5_add 29 = .ok (.iload_n 2, 1) := by decide +kernel
theorem dX5_add_30 : decode cX5_add 30 = .ok (.iastore, 1) := by decide +kernel
theorem dX5_add_31 : decode cX5_add 31 = .ok (.aload_n 0, 1) := by decide +kernel
theorem dX5_add_32 : decode cX5_add 32 = .ok (.getfield 18, 3) := by decide +kernel
theorem dX5_add_35 : decode cX5_add 35 = .ok (.aload_n 0, 1) := by decide +kernel
theorem dX5_add_36 : decode cX5_add 36 = .ok (.getfield 27, 3) := by decide +kernel
theorem dX5_add_39 : decode cX5_add 39 = .ok (.iload_n 3, 1) := by decide +kernel
theorem dX5_add_40 : decode cX5_add 40 = .ok (.iastore, 1) := by decide +kernel
theorem dX5_add_41 : decode cX5_add 41 = .ok (.aload_n 0, 1) := by decide +kernel
theorem dX5_add_42 : decode cX5_add 42 = .ok (.getfield 21, 3) := by decide +kernel
theorem dX5_add_45 : decode cX5_add 45 = .ok (.aload_n 0, 1) := by decide +kernel
theorem dX5_add_46 : decode cX5_add 46 = .ok (.getfield 27, 3) := by decide +kernel
theorem dX5_add_49 : decode cX5_add 49 = .ok (.iload 4, 2) := by decide +kernel
theorem dX5_add_51 : decode cX5_add 51 = .ok (.iastore, 1) := by decide +kernel
theorem dX5_add_52 : decode cX5_add 52 = .ok (.aload_n 0, 1) := by decide +kernel
theorem dX5_add_53 : decode cX5_add 53 = .ok (.getfield 24, 3) := by decide +kernel
theorem dX5_add_56 : decode cX5_add 56 = .ok (.aload_n 0, 1) := by decide +kernel
theorem dX5_add_57 : decode cX5_add 57 = .ok (.getfield 27, 3) := by decide +kernel
theorem dX5_add_60 : decode cX5_add 60 = .ok (.iload 5, 2) := by decide +kernel
theorem dX5_add_62 : decode cX5_add 62 = .ok (.iastore, 1) := by decide +kernel
theorem dX5_add_63 : decode cX5_add 63 = .ok (.aload_n 0, 1) := by decide +kernel
theorem dX5_add_64 : decode cX5_add 64 = .ok (.dup, 1) := by decide +kernel
theorem dX5_add_65 : decode cX5_add 65 = .ok (.getfield 27, 3) := by decide +kernel
theorem dX5_add_68 : decode cX5_add 68 = .ok (.iconst 1, 1) := by decide +kernel
theorem dX5_add_69 : decode cX5_add 69 = .ok (.iadd, 1) := by decide +kernel
theorem dX5_add_70 : decode cX5_add 70 = .ok (.putfield 27, 3) := by decide +kernel
theorem dX5_add_73 : decode cX5_add 73 = .ok (.iconst 1, 1) := by decide +kernel
theorem dX5_add_74 : decode cX5_add 74 = .ok (.ireturn, 1) := by decide +kernel
theorem dX5_laughedTogether_0 : decode cX5_laughedTogether 0 = .ok (.iconst 0, 1) := by decide +kernel
theorem dX5_laughedTogether_1 : decode cX5_laughedTogether 1 = .ok (.istore_n 1, 1) := by decide +kernel
theorem dX5_laughedTogether_2 : decode cX5_laughedTogether 2 = .ok (.iconst 0, 1) := by decide +kernel
theorem dX5_laughedTogether_3 : decode cX5_laughedTogether 3 = .ok (.istore_n 2, 1) := by decide +kernel
theorem dX5_laughedTogether_4 : decode cX5_laughedTogether 4 = .ok (.iload_n 2, 1) := by decide +kernel
theorem dX5_laughedTogether_5 : decode cX5_laughedTogether 5 = .ok (.aload_n 0, 1) := by decide +kernel
theorem dX5_laughedTogether_6 : decode cX5_laughedTogether 6 = .ok (.getfield 27, 3) := by decide +kernel
theorem dX5_laughedTogether_9 : decode cX5_laughedTogether 9 = .ok (.if_icmp .ge 18, 3) := by decide +kernel
theorem dX5_laughedTogether_12 : decode cX5_laughedTogether 12 = .ok (.iload_n 1, 1) := by decide +kernel
theorem dX5_laughedTogether_13 : decode cX5_laughedTogether 13 = .ok (.aload_n 0, 1) := by decide +kernel
theorem dX5_laughedTogether_14 : decode cX5_laughedTogether 14 = .ok (.getfield 24, 3) := by decide +kernel
theorem dX5_laughedTogether_17 : decode cX5_laughedTogether 17 = .ok (.iload_n 2, 1) := by decide +kernel
theorem dX5_laughedTogether_18 : decode cX5_laughedTogether 18 = .ok (.iaload, 1) := by decide +kernel
theorem dX5_laughedTogether_19 : decode cX5_laughedTogether 19 = .ok (.iadd, 1) := by decide +kernel
theorem dX5_laughedTogether_20 : decode cX5_laughedTogether 20 = .ok (.istore_n 1, 1) := by decide +kernel
theorem dX5_laughedTogether_21 : decode cX5_laughedTogether 21 = .ok (.iinc 2 1, 3) := by decide +kernel
theorem dX5_laughedTogether_24 : decode cX5_laughedTogether 24 = .ok (.goto (-20), 3) := by decide +kernel
theorem dX5_laughedTogether_27 : decode cX5_laughedTogether 27 = .ok (.iload_n 1, 1) := by decide +kernel
theorem dX5_laughedTogether_28 : decode cX5_laughedTogether 28 = .ok (.ireturn, 1) := by decide +kernel
theorem dX5_offBy_0 : decode cX5_offBy 0 = .ok (.iconst 0, 1) := by decide +kernel
theorem dX5_offBy_1 : decode cX5_offBy 1 = .ok (.istore_n 3, 1) := by decide +kernel
theorem dX5_offBy_2 : decode cX5_offBy 2 = .ok (.iconst 0, 1) := by decide +kernel
theorem dX5_offBy_3 : decode cX5_offBy 3 = .ok (.istore 4, 2) := by decide +kernel
theorem dX5_offBy_5 : decode cX5_offBy 5 = .ok (.iload 4, 2) := by decide +kernel
theorem dX5_offBy_7 : decode cX5_offBy 7 = .ok (.aload_n 0, 1) := by decide +kernel
theorem dX5_offBy_8 : decode cX5_offBy 8 = .ok (.getfield 27, 3) := by decide +kernel
theorem dX5_offBy_11 : decode cX5_offBy 11 = .ok (.if_icmp .ge 78, 3) := by decide +kernel
theorem dX5_offBy_14 : decode cX5_offBy 14 = .ok (.aload_n 0, 1) := by decide +kernel
theorem dX5_offBy_15 : decode cX5_offBy 15 = .ok (.getfield 9, 3) := by decide +kernel
theorem dX5_offBy_18 : decode cX5_offBy 18 = .ok (.iload 4, 2) := by decide +kernel
theorem dX5_offBy_20 : decode cX5_offBy 20 = .ok (.iaload, 1) := by decide +kernel
theorem dX5_offBy_21 : decode cX5_offBy 21 = .ok (.iload_n 1, 1) := by decide +kernel
theorem dX5_offBy_22 : decode cX5_offBy 22 = .ok (.if_icmp .ne 61, 3) := by decide +kernel
theorem dX5_offBy_25 : decode cX5_offBy 25 = .ok (.iload_n 2, 1) := by decide +kernel
theorem dX5_offBy_26 : decode cX5_offBy 26 = .ok (.aload_n 0, 1) := by decide +kernel
theorem dX5_offBy_27 : decode cX5_offBy 27 = .ok (.getfield 15, 3) := by decide +kernel
theorem dX5_offBy_30 : decode cX5_offBy 30 = .ok (.iload 4, 2) := by decide +kernel
theorem dX5_offBy_32 : decode cX5_offBy 32 = .ok (.iaload, 1) := by decide +kernel
theorem dX5_offBy_33 : decode cX5_offBy 33 = .ok (.aload_n 0, 1) := by decide +kernel
theorem dX5_offBy_34 : decode cX5_offBy 34 = .ok (.getfield 18, 3) := by decide +kernel
theorem dX5_offBy_37 : decode cX5_offBy 37 = .ok (.iload 4, 2) := by decide +kernel
theorem dX5_offBy_39 : decode cX5_offBy 39 = .ok (.iaload, 1) := by decide +kernel
theorem dX5_offBy_40 : decode cX5_offBy 40 = .ok (.aload_n 0, 1) := by decide +kernel
theorem dX5_offBy_41 : decode cX5_offBy 41 = .ok (.getfield 21, 3) := by decide +kernel
theorem dX5_offBy_44 : decode cX5_offBy 44 = .ok (.iload 4, 2) := by decide +kernel
theorem dX5_offBy_46 : decode cX5_offBy 46 = .ok (.iaload, 1) := by decide +kernel
theorem dX5_offBy_47 : decode cX5_offBy 47 = .ok (.iconst 1, 1) := by decide +kernel
theorem dX5_offBy_48 : decode cX5_offBy 48 = .ok (.if_icmp .ne 7, 3) := by decide +kernel
theorem dX5_offBy_51 : decode cX5_offBy 51 = .ok (.iconst 1, 1) := by decide +kernel
theorem dX5_offBy_52 : decode cX5_offBy 52 = .ok (.goto 4, 3) := by decide +kernel
theorem dX5_offBy_55 : decode cX5_offBy 55 = .ok (.iconst 0, 1) := by decide +kernel
theorem dX5_offBy_56 : decode cX5_offBy 56 = .ok (.invokestatic 31, 3) := by decide +kernel
theorem dX5_offBy_59 : decode cX5_offBy 59 = .ok (.istore 5, 2) := by decide +kernel
theorem dX5_offBy_61 : decode cX5_offBy 61 = .ok (.iconst 4, 1) := by decide +kernel
theorem dX5_offBy_62 : decode cX5_offBy 62 = .ok (.aload_n 0, 1) := by decide +kernel
theorem dX5_offBy_63 : decode cX5_offBy 63 = .ok (.getfield 24, 3) := by decide +kernel
theorem dX5_offBy_66 : decode cX5_offBy 66 = .ok (.iload 4, 2) := by decide +kernel
theorem dX5_offBy_68 : decode cX5_offBy 68 = .ok (.iaload, 1) := by decide +kernel
theorem dX5_offBy_69 : decode cX5_offBy 69 = .ok (.imul, 1) := by decide +kernel
theorem dX5_offBy_70 : decode cX5_offBy 70 = .ok (.iload 5, 2) := by decide +kernel
theorem dX5_offBy_72 : decode cX5_offBy 72 = .ok (.isub, 1) := by decide +kernel
theorem dX5_offBy_73 : decode cX5_offBy 73 = .ok (.istore 6, 2) := by decide +kernel
theorem dX5_offBy_75 : decode cX5_offBy 75 = .ok (.iload_n 3, 1) := by decide +kernel
theorem dX5_offBy_76 : decode cX5_offBy 76 = .ok (.iload 6, 2) := by decide +kernel
theorem dX5_offBy_78 : decode cX5_offBy 78 = .ok (.iload 6, 2) := by decide +kernel
theorem dX5_offBy_80 : decode cX5_offBy 80 = .ok (.imul, 1) := by decide +kernel
theorem dX5_offBy_81 : decode cX5_offBy 81 = .ok (.iadd, 1) := by decide +kernel
theorem dX5_offBy_82 : decode cX5_offBy 82 = .ok (.istore_n 3, 1) := by decide +kernel
theorem dX5_offBy_83 : decode cX5_offBy 83 = .ok (.iinc 4 1, 3) := by decide +kernel
theorem dX5_offBy_86 : decode cX5_offBy 86 = .ok (.goto (-81), 3) := by decide +kernel
theorem dX5_offBy_89 : decode cX5_offBy 89 = .ok (.iload_n 3, 1) := by decide +kernel
theorem dX5_offBy_90 : decode cX5_offBy 90 = .ok (.ireturn, 1) := by decide +kernel
theorem dX5_likeliest_0 : decode cX5_likeliest 0 = .ok (.aload_n 0, 1) := by decide +kernel
theorem dX5_likeliest_1 : decode cX5_likeliest 1 = .ok (.iload_n 1, 1) := by decide +kernel
theorem dX5_likeliest_2 : decode cX5_likeliest 2 = .ok (.invokevirtual 35, 3) := by decide +kernel
theorem dX5_likeliest_5 : decode cX5_likeliest 5 = .ok (.ifCond .ne 6, 3) := by decide +kernel
theorem dX5_likeliest_8 : decode cX5_likeliest 8 = .ok (.bipush (-3), 2) := by decide +kernel
theorem dX5_likeliest_10 : decode cX5_likeliest 10 = .ok (.ireturn, 1) := by decide +kernel
theorem dX5_likeliest_11 : decode cX5_likeliest 11 = .ok (.iconst 0, 1) := by decide +kernel
theorem dX5_likeliest_12 : decode cX5_likeliest 12 = .ok (.istore_n 2, 1) := by decide +kernel
theorem dX5_likeliest_13 : decode cX5_likeliest 13 = .ok (.ldc 39, 2) := by decide +kernel
theorem dX5_likeliest_15 : decode cX5_likeliest 15 = .ok (.istore_n 3, 1) := by decide +kernel
theorem dX5_likeliest_16 : decode cX5_likeliest 16 = .ok (.iconst 0, 1) := by decide +kernel
theorem dX5_likeliest_17 : decode cX5_likeliest 17 = .ok (.istore 4, 2) := by decide +kernel
theorem dX5_likeliest_19 : decode cX5_likeliest 19 = .ok (.iload 4, 2) := by decide +kernel
theorem dX5_likeliest_21 : decode cX5_likeliest 21 = .ok (.bipush 9, 2) := by decide +kernel
theorem dX5_likeliest_23 : decode cX5_likeliest 23 = .ok (.if_icmp .gt 30, 3) := by decide +kernel
theorem dX5_likeliest_26 : decode cX5_likeliest 26 = .ok (.aload_n 0, 1) := by decide +kernel
theorem dX5_likeliest_27 : decode cX5_likeliest 27 = .ok (.iload_n 1, 1) := by decide +kernel
theorem dX5_likeliest_28 : decode cX5_likeliest 28 = .ok (.iload 4, 2) := by decide +kernel
theorem dX5_likeliest_30 : decode cX5_likeliest 30 = .ok (.invokevirtual 40, 3) := by decide +kernel
theorem dX5_likeliest_33 : decode cX5_likeliest 33 = .ok (.istore 5, 2) := by decide +kernel
theorem dX5_likeliest_35 : decode cX5_likeliest 35 = .ok (.iload 5, 2) := by decide +kernel
theorem dX5_likeliest_37 : decode cX5_likeliest 37 = .ok (.iload_n 3, 1) := by decide +kernel
theorem dX5_likeliest_38 : decode cX5_likeliest 38 = .ok (.if_icmp .ge 9, 3) := by decide +kernel
theorem dX5_likeliest_41 : decode cX5_likeliest 41 = .ok (.iload 5, 2) := by decide +kernel
theorem dX5_likeliest_43 : decode cX5_likeliest 43 = .ok (.istore_n 3, 1) := by decide +kernel
theorem dX5_likeliest_44 : decode cX5_likeliest 44 = .ok (.iload 4, 2) := by decide +kernel
theorem dX5_likeliest_46 : decode cX5_likeliest 46 = .ok (.istore_n 2, 1) := by decide +kernel
theorem dX5_likeliest_47 : decode cX5_likeliest 47 = .ok (.iinc 4 1, 3) := by decide +kernel
theorem dX5_likeliest_50 : decode cX5_likeliest 50 = .ok (.goto (-31), 3) := by decide +kernel
theorem dX5_likeliest_53 : decode cX5_likeliest 53 = .ok (.iload_n 2, 1) := by decide +kernel
theorem dX5_likeliest_54 : decode cX5_likeliest 54 = .ok (.ireturn, 1) := by decide +kernel
theorem dX5_howMany_0 : decode cX5_howMany 0 = .ok (.iconst 0, 1) := by decide +kernel
theorem dX5_howMany_1 : decode cX5_howMany 1 = .ok (.istore 4, 2) := by decide +kernel
theorem dX5_howMany_3 : decode cX5_howMany 3 = .ok (.iconst 0, 1) := by decide +kernel
theorem dX5_howMany_4 : decode cX5_howMany 4 = .ok (.istore 5, 2) := by decide +kernel
theorem dX5_howMany_6 : decode cX5_howMany 6 = .ok (.iload 5, 2) := by decide +kernel
theorem dX5_howMany_8 : decode cX5_howMany 8 = .ok (.aload_n 0, 1) := by decide +kernel
theorem dX5_howMany_9 : decode cX5_howMany 9 = .ok (.getfield 27, 3) := by decide +kernel
theorem dX5_howMany_12 : decode cX5_howMany 12 = .ok (.if_icmp .ge 48, 3) := by decide +kernel
theorem dX5_howMany_15 : decode cX5_howMany 15 = .ok (.aload_n 0, 1) := by decide +kernel
theorem dX5_howMany_16 : decode cX5_howMany 16 = .ok (.getfield 9, 3) := by decide +kernel
theorem dX5_howMany_19 : decode cX5_howMany 19 = .ok (.iload 5, 2) := by decide +kernel
theorem dX5_howMany_21 : decode cX5_howMany 21 = .ok (.iaload, 1) := by decide +kernel
theorem dX5_howMany_22 : decode cX5_howMany 22 = .ok (.iload_n 1, 1) := by decide +kernel
theorem dX5_howMany_23 : decode cX5_howMany 23 = .ok (.if_icmp .ne 31, 3) := by decide +kernel
theorem dX5_howMany_26 : decode cX5_howMany 26 = .ok (.aload_n 0, 1) := by decide +kernel
theorem dX5_howMany_27 : decode cX5_howMany 27 = .ok (.getfield 15, 3) := by decide +kernel
theorem dX5_howMany_30 : decode cX5_howMany 30 = .ok (.iload 5, 2) := by decide +kernel
theorem dX5_howMany_32 : decode cX5_howMany 32 = .ok (.iaload, 1) := by decide +kernel
theorem dX5_howMany_33 : decode cX5_howMany 33 = .ok (.iload_n 2, 1) := by decide +kernel
theorem dX5_howMany_34 : decode cX5_howMany 34 = .ok (.if_icmp .ne 20, 3) := by decide +kernel
theorem dX5_howMany_37 : decode cX5_howMany 37 = .ok (.iload_n 3, 1) := by decide +kernel
theorem dX5_howMany_38 : decode cX5_howMany 38 = .ok (.ifCond .eq 13, 3) := by decide +kernel
theorem dX5_howMany_41 : decode cX5_howMany 41 = .ok (.aload_n 0, 1) := by decide +kernel
theorem dX5_howMany_42 : decode cX5_howMany 42 = .ok (.getfield 24, 3) := by decide +kernel
theorem dX5_howMany_45 : decode cX5_howMany 45 = .ok (.iload 5, 2) := by decide +kernel
theorem dX5_howMany_47 : decode cX5_howMany 47 = .ok (.iaload, 1) := by decide +kernel
theorem dX5_howMany_48 : decode cX5_howMany 48 = .ok (.ifCond .eq 6, 3) := by decide +kernel
theorem dX5_howMany_51 : decode cX5_howMany 51 = .ok (.iinc 4 1, 3) := by decide +kernel
theorem dX5_howMany_54 : decode cX5_howMany 54 = .ok (.iinc 5 1, 3) := by decide +kernel
theorem dX5_howMany_57 : decode cX5_howMany 57 = .ok (.goto (-51), 3) := by decide +kernel
theorem dX5_howMany_60 : decode cX5_howMany 60 = .ok (.iload 4, 2) := by decide +kernel
theorem dX5_howMany_62 : decode cX5_howMany 62 = .ok (.ireturn, 1) := by decide +kernel
theorem dX5_wasSeen_0 : decode cX5_wasSeen 0 = .ok (.iconst 0, 1) := by decide +kernel
theorem dX5_wasSeen_1 : decode cX5_wasSeen 1 = .ok (.istore_n 2, 1) := by decide +kernel
theorem dX5_wasSeen_2 : decode cX5_wasSeen 2 = .ok (.iload_n 2, 1) := by decide +kernel
theorem dX5_wasSeen_3 : decode cX5_wasSeen 3 = .ok (.aload_n 0, 1) := by decide +kernel
theorem dX5_wasSeen_4 : decode cX5_wasSeen 4 = .ok (.getfield 27, 3) := by decide +kernel
theorem dX5_wasSeen_7 : decode cX5_wasSeen 7 = .ok (.if_icmp .ge 21, 3) := by decide +kernel
theorem dX5_wasSeen_10 : decode cX5_wasSeen 10 = .ok (.aload_n 0, 1) := by decide +kernel
theorem dX5_wasSeen_11 : decode cX5_wasSeen 11 = .ok (.getfield 9, 3) := by decide +kernel
theorem dX5_wasSeen_14 : decode cX5_wasSeen 14 = .ok (.iload_n 2, 1) := by decide +kernel
theorem dX5_wasSeen_15 : decode cX5_wasSeen 15 = .ok (.iaload, 1) := by decide +kernel
theorem dX5_wasSeen_16 : decode cX5_wasSeen 16 = .ok (.iload_n 1, 1) := by decide +kernel
theorem dX5_wasSeen_17 : decode cX5_wasSeen 17 = .ok (.if_icmp .ne 5, 3) := by decide +kernel
theorem dX5_wasSeen_20 : decode cX5_wasSeen 20 = .ok (.iconst 1, 1) := by decide +kernel
theorem dX5_wasSeen_21 : decode cX5_wasSeen 21 = .ok (.ireturn, 1) := by decide +kernel
theorem dX5_wasSeen_22 : decode cX5_wasSeen 22 = .ok (.iinc 2 1, 3) := by decide +kernel
theorem dX5_wasSeen_25 : decode cX5_wasSeen 25 = .ok (.goto (-23), 3) := by decide +kernel
theorem dX5_wasSeen_28 : decode cX5_wasSeen 28 = .ok (.iconst 0, 1) := by decide +kernel
theorem dX5_wasSeen_29 : decode cX5_wasSeen 29 = .ok (.ireturn, 1) := by decide +kernel
theorem dX6_init_0 : decode cX6_init 0 = .ok (.aload_n 0, 1) := by decide +kernel
theorem dX6_init_1 : decode cX6_init 1 = .ok (.invokespecial 1, 3) := by decide +kernel
theorem dX6_init_4 : decode cX6_init 4 = .ok (.aload_n 0, 1) := by decide +kernel
theorem dX6_init_5 : decode cX6_init 5 = .ok (.lconst 1, 1) := by decide +kernel
theorem dX6_init_6 : decode cX6_init 6 = .ok (.putfield 7, 3) := by decide +kernel
theorem dX6_init_9 : decode cX6_init 9 = .ok (.return_, 1) := by decide +kernel
theorem dX6_put_0 : decode cX6_put 0 = .ok (.lload_n 1, 1) := by decide +kernel
theorem dX6_put_1 : decode cX6_put 1 = .ok (.invokestatic 13, 3) := by decide +kernel
theorem dX6_put_4 : decode cX6_put 4 = .ok (.lload_n 3, 1) := by decide +kernel
theorem dX6_put_5 : decode cX6_put 5 = .ok (.invokestatic 19, 3) := by decide +kernel
theorem dX6_put_8 : decode cX6_put 8 = .ok (.lstore 5, 2) := by decide +kernel
theorem dX6_put_10 : decode cX6_put 10 = .ok (.aload_n 0, 1) := by decide +kernel
theorem dX6_put_11 : decode cX6_put 11 = .ok (.lload 5, 2) := by decide +kernel
theorem dX6_put_13 : decode cX6_put 13 = .ok (.lconst 0, 1) := by decide +kernel
theorem dX6_put_14 : decode cX6_put 14 = .ok (.lcmp, 1) := by decide +kernel
theorem dX6_put_15 : decode cX6_put 15 = .ok (.ifCond .le 10, 3) := by decide +kernel
theorem dX6_put_18 : decode cX6_put 18 = .ok (.lload_n 1, 1) := by decide +kernel
theorem dX6_put_19 : decode cX6_put 19 = .ok (.lload 5, 2) := by decide +kernel
theorem dX6_put_21 : decode cX6_put 21 = .ok (.ldiv, 1) := by decide +kernel
theorem dX6_put_22 : decode cX6_put 22 = .ok (.goto 4, 3) := by decide +kernel
theorem dX6_put_25 : decode cX6_put 25 = .ok (.lconst 0, 1) := by decide +kernel
theorem dX6_put_26 : decode cX6_put 26 = .ok (.putfield 23, 3) := by decide +kernel
theorem dX6_put_29 : decode cX6_put 29 = .ok (.aload_n 0, 1) := by decide +kernel
theorem dX6_put_30 : decode cX6_put 30 = .ok (.lload 5, 2) := by decide +kernel
theorem dX6_put_32 : decode cX6_put 32 = .ok (.lconst 0, 1) := by decide +kernel
theorem dX6_put_33 : decode cX6_put 33 = .ok (.lcmp, 1) := by decide +kernel
theorem dX6_put_34 : decode cX6_put 34 = .ok (.ifCond .le 10, 3) := by decide +kernel
theorem dX6_put_37 : decode cX6_put 37 = .ok (.lload_n 3, 1) := by decide +kernel
theorem dX6_put_38 : decode cX6_put 38 = .ok (.lload 5, 2) := by decide +kernel
theorem dX6_put_40 : decode cX6_put 40 = .ok (.ldiv, 1) := by decide +kernel
theorem dX6_put_41 : decode cX6_put 41 = .ok (.goto 4, 3) := by decide +kernel
theorem dX6_put_44 : decode cX6_put 44 = .ok (.lconst 1, 1) := by decide +kernel
theorem dX6_put_45 : decode cX6_put 45 = .ok (.putfield 7, 3) := by decide +kernel
theorem dX6_put_48 : decode cX6_put 48 = .ok (.aload_n 0, 1) := by decide +kernel
theorem dX6_put_49 : decode cX6_put 49 = .ok (.areturn, 1) := by decide +kernel
theorem dX6_part_0 : decode cX6_part 0 = .ok (.iload_n 1, 1) := by decide +kernel
theorem dX6_part_1 : decode cX6_part 1 = .ok (.ifCond .ne 10, 3) := by decide +kernel
theorem dX6_part_4 : decode cX6_part 4 = .ok (.aload_n 0, 1) := by decide +kernel
theorem dX6_part_5 : decode cX6_part 5 = .ok (.getfield 23, 3) := by decide +kernel
theorem dX6_part_8 : decode cX6_part 8 = .ok (.goto 7, 3) := by decide +kernel
theorem dX6_part_11 : decode cX6_part 11 = .ok (.aload_n 0, 1) := by decide +kernel
theorem dX6_part_12 : decode cX6_part 12 = .ok (.getfield 7, 3) := by decide +kernel
theorem dX6_part_15 : decode cX6_part 15 = .ok (.lreturn, 1) := by decide +kernel
theorem dX6_mixedInto_0 : decode cX6_mixedInto 0 = .ok (.ldc2_w 26, 3) := by decide +kernel
theorem dX6_mixedInto_3 : decode cX6_mixedInto 3 = .ok (.ldc2_w 26, 3) := by decide +kernel
theorem dX6_mixedInto_6 : decode cX6_mixedInto 6 = .ok (.lload_n 1, 1) := by decide +kernel
theorem dX6_mixedInto_7 : decode cX6_mixedInto 7 = .ok (.lmul, 1) := by decide +kernel
theorem dX6_mixedInto_8 : decode cX6_mixedInto 8 = .ok (.aload_n 0, 1) := by decide +kernel
theorem dX6_mixedInto_9 : decode cX6_mixedInto 9 = .ok (.getfield 23, 3) := by decide +kernel
theorem dX6_mixedInto_12 : decode cX6_mixedInto 12 = .ok (.ladd, 1) := by decide +kernel
theorem dX6_mixedInto_13 : decode cX6_mixedInto 13 = .ok (.lmul, 1) := by decide +kernel
theorem dX6_mixedInto_14 : decode cX6_mixedInto 14 = .ok (.aload_n 0, 1) := by decide +kernel
theorem dX6_mixedInto_15 : decode cX6_mixedInto 15 = .ok (.getfield 7, 3) := by decide +kernel
theorem dX6_mixedInto_18 : decode cX6_mixedInto 18 = .ok (.ladd, 1) := by decide +kernel
theorem dX6_mixedInto_19 : decode cX6_mixedInto 19 = .ok (.lreturn, 1) := by decide +kernel
theorem dX6_commonDivisor_0 : decode cX6_commonDivisor 0 = .ok (.lload_n 0, 1) := by decide +kernel
theorem dX6_commonDivisor_1 : decode cX6_commonDivisor 1 = .ok (.lstore 4, 2) := by decide +kernel
theorem dX6_commonDivisor_3 : decode cX6_commonDivisor 3 = .ok (.lload_n 2, 1) := by decide +kernel
theorem dX6_commonDivisor_4 : decode cX6_commonDivisor 4 = .ok (.lstore 6, 2) := by decide +kernel
theorem dX6_commonDivisor_6 : decode cX6_commonDivisor 6 = .ok (.iconst 0, 1) := by decide +kernel
theorem dX6_commonDivisor_7 : decode cX6_commonDivisor 7 = .ok (.istore 8, 2) := by decide +kernel
theorem dX6_commonDivisor_9 : decode cX6_commonDivisor 9 = .ok (.iload 8, 2) := by decide +kernel
theorem dX6_commonDivisor_11 : decode cX6_commonDivisor 11 = .ok (.sipush 200, 3) := by decide +kernel
theorem dX6_commonDivisor_14 : decode cX6_commonDivisor 14 = .ok (.if_icmp .ge 31, 3) := by decide +kernel
theorem dX6_commonDivisor_17 : decode cX6_commonDivisor 17 = .ok (.lload 6, 2) := by decide +kernel
theorem dX6_commonDivisor_19 : decode cX6_commonDivisor 19 = .ok (.lconst 0, 1) := by decide +kernel
theorem dX6_commonDivisor_20 : decode cX6_commonDivisor 20 = .ok (.lcmp, 1) := by decide +kernel
theorem dX6_commonDivisor_21 : decode cX6_commonDivisor 21 = .ok (.ifCond .eq 24, 3) := by decide +kernel
theorem dX6_commonDivisor_24 : decode cX6_commonDivisor 24 = .ok (.lload 4, 2) := by decide +kernel
theorem dX6_commonDivisor_26 : decode cX6_commonDivisor 26 = .ok (.lload 6, 2) := by decide +kernel
theorem dX6_commonDivisor_28 : decode cX6_commonDivisor 28 = .ok (.lrem, 1) := by decide +kernel
theorem dX6_commonDivisor_29 : decode cX6_commonDivisor 29 = .ok (.lstore 9, 2) := by decide +kernel
theorem dX6_commonDivisor_31 : decode cX6_commonDivisor 31 = .ok (.lload 6, 2) := by decide +kernel
theorem dX6_commonDivisor_33 : decode cX6_commonDivisor 33 = .ok (.lstore 4, 2) := by decide +kernel
theorem dX6_commonDivisor_35 : decode cX6_commonDivisor 35 = .ok (.lload 9, 2) := by decide +kernel
theorem dX6_commonDivisor_37 : decode cX6_commonDivisor 37 = .ok (.lstore 6, 2) := by decide +kernel
theorem dX6_commonDivisor_39 : decode cX6_commonDivisor 39 = .ok (.iinc 8 1, 3) := by decide +kernel
theorem dX6_commonDivisor_42 : decode cX6_commonDivisor 42 = .ok (.goto (-33), 3) := by decide +kernel
theorem dX6_commonDivisor_45 : decode cX6_commonDivisor 45 = .ok (.lload 4, 2) := by decide +kernel
theorem dX6_commonDivisor_47 : decode cX6_commonDivisor 47 = .ok (.lreturn, 1) := by decide +kernel
theorem dX7_init_0 : decode cX7_init 0 = .ok (.aload_n 0, 1) := by decide +kernel
theorem dX7_init_1 : decode cX7_init 1 = .ok (.invokespecial 3, 3) := by decide +kernel
theorem dX7_init_4 : decode cX7_init 4 = .ok (.aload_n 0, 1) := by decide +kernel
theorem dX7_init_5 : decode cX7_init 5 = .ok (.iconst 4, 1) := by decide +kernel
theorem dX7_init_6 : decode cX7_init 6 = .ok (.newarray .int, 2) := by decide +kernel
theorem dX7_init_8 : decode cX7_init 8 = .ok (.dup, 1) := by decide +kernel
theorem dX7_init_9 : decode cX7_init 9 = .ok (.iconst 0, 1) := by decide +kernel
theorem dX7_init_10 : decode cX7_init 10 = .ok (.iconst (-1), 1) := by decide +kernel
theorem dX7_init_11 : decode cX7_init 11 = .ok (.iastore, 1) := by decide +kernel
theorem dX7_init_12 : decode cX7_init 12 = .ok (.dup, 1) := by decide +kernel
theorem dX7_init_13 : decode cX7_init 13 = .ok (.iconst 1, 1) := by decide +kernel
theorem dX7_init_14 : decode cX7_init 14 = .ok (.iconst (-1), 1) := by decide +kernel
theorem dX7_init_15 : decode cX7_init 15 = .ok (.iastore, 1) := by decide +kernel
theorem dX7_init_16 : decode cX7_init 16 = .ok (.dup, 1) := by decide +kernel
theorem dX7_init_17 : decode cX7_init 17 = .ok (.iconst 2, 1) := by decide +kernel
theorem dX7_init_18 : decode cX7_init 18 = .ok (.iconst (-1), 1) := by decide +kernel
theorem dX7_init_19 : decode cX7_init 19 = .ok (.iastore, 1) := by decide +kernel
theorem dX7_init_20 : decode cX7_init 20 = .ok (.dup, 1) := by decide +kernel
theorem dX7_init_21 : decode cX7_init 21 = .ok (.iconst 3, 1) := by decide +kernel
theorem dX7_init_22 : decode cX7_init 22 = .ok (.iconst (-1), 1) := by decide +kernel
theorem dX7_init_23 : decode cX7_init 23 = .ok (.iastore, 1) := by decide +kernel
theorem dX7_init_24 : decode cX7_init 24 = .ok (.putfield 11, 3) := by decide +kernel
theorem dX7_init_27 : decode cX7_init 27 = .ok (.aload_n 0, 1) := by decide +kernel
theorem dX7_init_28 : decode cX7_init 28 = .ok (.iconst 4, 1) := by decide +kernel
theorem dX7_init_29 : decode cX7_init 29 = .ok (.newarray .int, 2) := by decide +kernel
theorem dX7_init_31 : decode cX7_init 31 = .ok (.putfield 15, 3) := by decide +kernel
theorem dX7_init_34 : decode cX7_init 34 = .ok (.aload_n 0, 1) := by decide +kernel
theorem dX7_init_35 : decode cX7_init 35 = .ok (.sipush 240, 3) := by decide +kernel
theorem dX7_init_38 : decode cX7_init 38 = .ok (.newarray .int, 2) := by decide +kernel
theorem dX7_init_40 : decode cX7_init 40 = .ok (.putfield 18, 3) := by decide +kernel
theorem dX7_init_43 : decode cX7_init 43 = .ok (.return_, 1) := by decide +kernel
theorem dX7_find_0 : decode cX7_find 0 = .ok (.aload_n 0, 1) := by decide +kernel
theorem dX7_find_1 : decode cX7_find 1 = .ok (.iload_n 1, 1) := by decide +kernel
theorem dX7_find_2 : decode cX7_find 2 = .ok (.putfield 21, 3) := by decide +kernel
theorem dX7_find_5 : decode cX7_find 5 = .ok (.bipush (-10), 2) := by decide +kernel
theorem dX7_find_7 : decode cX7_find 7 = .ok (.iload_n 1, 1) := by decide +kernel
theorem dX7_find_8 : decode cX7_find 8 = .ok (.isub, 1) := by decide +kernel
theorem dX7_find_9 : decode cX7_find 9 = .ok (.ireturn, 1) := by decide +kernel
theorem dX7_isLost_0 : decode cX7_isLost 0 = .ok (.aload_n 0, 1) := by decide +kernel
theorem dX7_isLost_1 : decode cX7_isLost 1 = .ok (.getfield 11, 3) := by decide +kernel
theorem dX7_isLost_4 : decode cX7_isLost 4 = .ok (.iload_n 1, 1) := by decide +kernel
theorem dX7_isLost_5 : decode cX7_isLost 5 = .ok (.iaload, 1) := by decide +kernel
theorem dX7_isLost_6 : decode cX7_isLost 6 = .ok (.iconst (-1), 1) := by decide +kernel
theorem dX7_isLost_7 : decode cX7_isLost 7 = .ok (.if_icmp .ne 7, 3) := by decide +kernel
theorem dX7_isLost_10 : decode cX7_isLost 10 = .ok (.iconst 1, 1) := by decide +kernel
theorem dX7_isLost_11 : decode cX7_isLost 11 = .ok (.goto 4, 3) := by decide +kernel
theorem dX7_isLost_14 : decode cX7_isLost 14 = .ok (.iconst 0, 1) := by decide +kernel
theorem dX7_isLost_15 : decode cX7_isLost 15 = .ok (.ireturn, 1) := by decide +kernel
theorem dX7_renew_0 : decode cX7_renew 0 = .ok (.aload_n 0, 1) := by decide +kernel
theorem dX7_renew_1 : decode cX7_renew 1 = .ok (.getfield 15, 3) := by decide +kernel
theorem dX7_renew_4 : decode cX7_renew 4 = .ok (.iload_n 1, 1) := by decide +kernel
theorem dX7_renew_5 : decode cX7_renew 5 = .ok (.iload_n 2, 1) := by decide +kernel
theorem dX7_renew_6 : decode cX7_renew 6 = .ok (.iastore, 1) := by decide +kernel
theorem dX7_renew_7 : decode cX7_renew 7 = .ok (.aload_n 0, 1) := by decide +kernel
theorem dX7_renew_8 : decode cX7_renew 8 = .ok (.getfield 11, 3) := by decide +kernel
theorem dX7_renew_11 : decode cX7_renew 11 = .ok (.iload_n 1, 1) := by decide +kernel
theorem dX7_renew_12 : decode cX7_renew 12 = .ok (.iload_n 3, 1) := by decide +kernel
theorem dX7_renew_13 : decode cX7_renew 13 = .ok (.iastore, 1) := by decide +kernel
theorem dX7_renew_14 : decode cX7_renew 14 = .ok (.iconst 0, 1) := by decide +kernel
theorem dX7_renew_15 : decode cX7_renew 15 = .ok (.istore 4, 2) := by decide +kernel
theorem dX7_renew_17 : decode cX7_renew 17 = .ok (.iload 4, 2) := by decide +kernel
theorem dX7_renew_19 : decode cX7_renew 19 = .ok (.bipush 60, 2) := by decide +kernel
theorem dX7_renew_21 : decode cX7_renew 21 = .ok (.if_icmp .ge 22, 3) := by decide +kernel
theorem dX7_renew_24 : decode cX7_renew 24 = .ok (.aload_n 0, 1) := by decide +kernel
theorem dX7_renew_25 : decode cX7_renew 25 = .ok (.getfield 18, 3) := by decide +kernel
theorem dX7_renew_28 : decode cX7_renew 28 = .ok (.bipush 60, 2) := by decide +kernel
theorem dX7_renew_30 : decode cX7_renew 30 = .ok (.iload_n 1, 1) := by decide +kernel
theorem dX7_renew_31 : decode cX7_renew 31 = .ok (.imul, 1) := by decide +kernel
theorem dX7_renew_32 : decode cX7_renew 32 = .ok (.iload 4, 2) := by decide +kernel
theorem dX7_renew_34 : decode cX7_renew 34 = .ok (.iadd, 1) := by decide +kernel
theorem dX7_renew_35 : decode cX7_renew 35 = .ok (.iconst 0, 1) := by decide +kernel
theorem dX7_renew_36 : decode cX7_renew 36 = .ok (.iastore, 1) := by decide +kernel
theorem dX7_renew_37 : decode cX7_renew 37 = .ok (.iinc 4 1, 3) := by decide +kernel
theorem dX7_renew_40 : decode cX7_renew 40 = .ok (.goto (-23), 3) := by decide +kernel
theorem dX7_renew_43 : decode cX7_renew 43 = .ok (.return_, 1) := by decide +kernel
theorem dX7_drop_0 : decode cX7_drop 0 = .ok (.aload_n 0, 1) := by decide +kernel
theorem dX7_drop_1 : decode cX7_drop 1 = .ok (.getfield 11, 3) := by decide +kernel
theorem dX7_drop_4 : decode cX7_drop 4 = .ok (.iload_n 1, 1) := by decide +kernel
theorem dX7_drop_5 : decode cX7_drop 5 = .ok (.iaload, 1) := by decide +kernel
theorem dX7_drop_6 : decode cX7_drop 6 = .ok (.istore_n 2, 1) := by decide +kernel
theorem dX7_drop_7 : decode cX7_drop 7 = .ok (.aload_n 0, 1) := by decide +kernel
theorem dX7_drop_8 : decode cX7_drop 8 = .ok (.getfield 11, 3) := by decide +kernel
theorem dX7_drop_11 : decode cX7_drop 11 = .ok (.iload_n 1, 1) := by decide +kernel
theorem dX7_drop_12 : decode cX7_drop 12 = .ok (.iconst (-1), 1) := by decide +kernel
theorem dX7_drop_13 : decode cX7_drop 13 = .ok (.iastore, 1) := by decide +kernel
theorem dX7_drop_14 : decode cX7_drop 14 = .ok (.iload_n 2, 1) := by decide +kernel
theorem dX7_drop_15 : decode cX7_drop 15 = .ok (.ireturn, 1) := by decide +kernel
theorem dX7_lookUp_0 : decode cX7_lookUp 0 = .ok (.aload_n 0, 1) := by decide +kernel
theorem dX7_lookUp_1 : decode cX7_lookUp 1 = .ok (.iload_n 1, 1) := by decide +kernel
theorem dX7_lookUp_2 : decode cX7_lookUp 2 = .ok (.invokevirtual 25, 3) := by decide +kernel
theorem dX7_lookUp_5 : decode cX7_lookUp 5 = .ok (.ifCond .eq 5, 3) := by decide +kernel
theorem dX7_lookUp_8 : decode cX7_lookUp 8 = .ok (.iconst 1, 1) := by decide +kernel
theorem dX7_lookUp_9 : decode cX7_lookUp 9 = .ok (.ireturn, 1) := by decide +kernel
theorem dX7_lookUp_10 : decode cX7_lookUp 10 = .ok (.aload_n 0, 1) := by decide +kernel
theorem dX7_lookUp_11 : decode cX7_lookUp 11 = .ok (.getfield 15, 3) := by decide +kernel
theorem dX7_lookUp_14 : decode cX7_lookUp 14 = .ok (.iload_n 1, 1) := by decide +kernel
theorem dX7_lookUp_15 : decode cX7_lookUp 15 = .ok (.iaload, 1) := by decide +kernel
theorem dX7_lookUp_16 : decode cX7_lookUp 16 = .ok (.iload_n 2, 1) := by decide +kernel
theorem dX7_lookUp_17 : decode cX7_lookUp 17 = .ok (.if_icmp .eq 5, 3) := by decide +kernel
theorem dX7_lookUp_20 : decode cX7_lookUp 20 = .ok (.iconst 3, 1) := by decide +kernel
theorem dX7_lookUp_21 : decode cX7_lookUp 21 = .ok (.ireturn, 1) := by decide +kernel
theorem dX7_lookUp_22 : decode cX7_lookUp 22 = .ok (.iload_n 3, 1) := by decide +kernel
theorem dX7_lookUp_23 : decode cX7_lookUp 23 = .ok (.ifCond .lt 13, 3) := by decide +kernel
theorem dX7_lookUp_26 : decode cX7_lookUp 26 = .ok (.iload_n 3, 1) := by decide +kernel
theorem dX7_lookUp_27 : decode cX7_lookUp 27 = .ok (.aload_n 0, 1) := by decide +kernel
theorem dX7_lookUp_28 : decode cX7_lookUp 28 = .ok (.getfield 11, 3) := by decide +kernel
theorem dX7_lookUp_31 : decode cX7_lookUp 31 = .ok (.iload_n 1, 1) := by decide +kernel
theorem dX7_lookUp_32 : decode cX7_lookUp 32 = .ok (.iaload, 1) := by decide +kernel
theorem dX7_lookUp_33 : decode cX7_lookUp 33 = .ok (.if_icmp .lt 7, 3) := by decide +kernel
theorem dX7_lookUp_36 : decode cX7_lookUp 36 = .ok (.iconst 2, 1) := by decide +kernel
theorem dX7_lookUp_37 : decode cX7_lookUp 37 = .ok (.goto 4, 3) := by decide +kernel
theorem dX7_lookUp_40 : decode cX7_lookUp 40 = .ok (.iconst 0, 1) := by decide +kernel
theorem dX7_lookUp_41 : decode cX7_lookUp 41 = .ok (.ireturn, 1) := by decide +kernel
theorem dX7_hasItems_0 : decode cX7_hasItems 0 = .ok (.iload_n 2, 1) := by decide +kernel
theorem dX7_hasItems_1 : decode cX7_hasItems 1 = .ok (.ifCond .lt 33, 3) := by decide +kernel
theorem dX7_hasItems_4 : decode cX7_hasItems 4 = .ok (.iload_n 3, 1) := by decide +kernel
theorem dX7_hasItems_5 : decode cX7_hasItems 5 = .ok (.ifCond .lt 29, 3) := by decide +kernel
theorem dX7_hasItems_8 : decode cX7_hasItems 8 = .ok (.iload_n 2, 1) := by decide +kernel
theorem dX7_hasItems_9 : decode cX7_hasItems 9 = .ok (.aload_n 0, 1) := by decide +kernel
theorem dX7_hasItems_10 : decode cX7_hasItems 10 = .ok (.getfield 11, 3) := by decide +kernel
theorem dX7_hasItems_13 : decode cX7_hasItems 13 = .ok (.iload_n 1, 1) := by decide +kernel
theorem dX7_hasItems_14 : decode cX7_hasItems 14 = .ok (.iaload, 1) := by decide +kernel
theorem dX7_hasItems_15 : decode cX7_hasItems 15 = .ok (.if_icmp .gt 19, 3) := by decide +kernel
theorem dX7_hasItems_18 : decode cX7_hasItems 18 = .ok (.iload_n 3, 1) := by decide +kernel
theorem dX7_hasItems_19 : decode cX7_hasItems 19 = .ok (.aload_n 0, 1) := by decide +kernel
theorem dX7_hasItems_20 : decode cX7_hasItems 20 = .ok (.getfield 11, 3) := by decide +kernel
theorem dX7_hasItems_23 : decode cX7_hasItems 23 = .ok (.iload_n 1, 1) := by decide +kernel
theorem dX7_hasItems_24 : decode cX7_hasItems 24 = .ok (.iaload, 1) := by decide +kernel
theorem dX7_hasItems_25 : decode cX7_hasItems 25 = .ok (.iload_n 2, 1) := by decide +kernel
theorem dX7_hasItems_26 : decode cX7_hasItems 26 = .ok (.isub, 1) := by decide +kernel
theorem dX7_hasItems_27 : decode cX7_hasItems 27 = .ok (.if_icmp .gt 7, 3) := by decide +kernel
theorem dX7_hasItems_30 : decode cX7_hasItems 30 = .ok (.iconst 1, 1) := by decide +kernel
theorem dX7_hasItems_31 : decode cX7_hasItems 31 = .ok (.goto 4, 3) := by decide +kernel
theorem dX7_hasItems_34 : decode cX7_hasItems 34 = .ok (.iconst 0, 1) := by decide +kernel
theorem dX7_hasItems_35 : decode cX7_hasItems 35 = .ok (.ireturn, 1) := by decide +kernel
theorem dX7_item_0 : decode cX7_item 0 = .ok (.aload_n 0, 1) := by decide +kernel
theorem dX7_item_1 : decode cX7_item 1 = .ok (.getfield 18, 3) := by decide +kernel
theorem dX7_item_4 : decode cX7_item 4 = .ok (.bipush 60, 2) := by decide +kernel
theorem dX7_item_6 : decode cX7_item 6 = .ok (.iload_n 1, 1) := by decide +kernel
theorem dX7_item_7 : decode cX7_item 7 = .ok (.imul, 1) := by decide +kernel
theorem dX7_item_8 : decode cX7_item 8 = .ok (.iload_n 2, 1) := by decide +kernel
theorem dX7_item_9 : decode cX7_item 9 = .ok (.iadd, 1) := by decide +kernel
theorem dX7_item_10 : decode cX7_item 10 = .ok (.iaload, 1) := by decide +kernel
theorem dX7_item_11 : decode cX7_item 11 = .ok (.ireturn, 1) := by decide +kernel
theorem dX7_put_0 : decode cX7_put 0 = .ok (.aload_n 0, 1) := by decide +kernel
theorem dX7_put_1 : decode cX7_put 1 = .ok (.getfield 18, 3) := by decide +kernel
theorem dX7_put_4 : decode cX7_put 4 = .ok (.bipush 60, 2) := by decide +kernel
theorem dX7_put_6 : decode cX7_put 6 = .ok (.iload_n 1, 1) := by decide +kernel
theorem dX7_put_7 : decode cX7_put 7 = .ok (.imul, 1) := by decide +kernel
theorem dX7_put_8 : decode cX7_put 8 = .ok (.iload_n 2, 1) := by decide +kernel
theorem dX7_put_9 : decode cX7_put 9 = .ok (.iadd, 1) := by decide +kernel
theorem dX7_put_10 : decode cX7_put 10 = .ok (.aload_n 0, 1) := by decide +kernel
theorem dX7_put_11 : decode cX7_put 11 = .ok (.getfield 15, 3) := by decide +kernel
theorem dX7_put_14 : decode cX7_put 14 = .ok (.iload_n 1, 1) := by decide +kernel
theorem dX7_put_15 : decode cX7_put 15 = .ok (.iaload, 1) := by decide +kernel
theorem dX7_put_16 : decode cX7_put 16 = .ok (.iload_n 3, 1) := by decide +kernel
theorem dX7_put_17 : decode cX7_put 17 = .ok (.invokestatic 29, 3) := by decide +kernel
theorem dX7_put_20 : decode cX7_put 20 = .ok (.iastore, 1) := by decide +kernel
theorem dX7_put_21 : decode cX7_put 21 = .ok (.return_, 1) := by decide +kernel
theorem dX7_move_0 : decode cX7_move 0 = .ok (.aload_n 0, 1) := by decide +kernel
theorem dX7_move_1 : decode cX7_move 1 = .ok (.getfield 18, 3) := by decide +kernel
theorem dX7_move_4 : decode cX7_move 4 = .ok (.bipush 60, 2) := by decide +kernel
theorem dX7_move_6 : decode cX7_move 6 = .ok (.iload_n 1, 1) := by decide +kernel
theorem dX7_move_7 : decode cX7_move 7 = .ok (.imul, 1) := by decide +kernel
theorem dX7_move_8 : decode cX7_move 8 = .ok (.iload_n 2, 1) := by decide +kernel
theorem dX7_move_9 : decode cX7_move 9 = .ok (.iadd, 1) := by decide +kernel
theorem dX7_move_10 : decode cX7_move 10 = .ok (.aload_n 0, 1) := by decide +kernel
theorem dX7_move_11 : decode cX7_move 11 = .ok (.getfield 18, 3) := by decide +kernel
theorem dX7_move_14 : decode cX7_move 14 = .ok (.bipush 60, 2) := by decide +kernel
theorem dX7_move_16 : decode cX7_move 16 = .ok (.iload_n 3, 1) := by decide +kernel
theorem dX7_move_17 : decode cX7_move 17 = .ok (.imul, 1) := by decide +kernel
theorem dX7_move_18 : decode cX7_move 18 = .ok (.iload 4, 2) := by decide +kernel
theorem dX7_move_20 : decode cX7_move 20 = .ok (.iadd, 1) := by decide +kernel
theorem dX7_move_21 : decode cX7_move 21 = .ok (.iload 5, 2) := by decide +kernel
theorem dX7_move_23 : decode cX7_move 23 = .ok (.invokestatic 33, 3) := by decide +kernel
theorem dX7_move_26 : decode cX7_move 26 = .ok (.return_, 1) := by decide +kernel
theorem dX7_cut_0 : decode cX7_cut 0 = .ok (.iload_n 0, 1) := by decide +kernel
theorem dX7_cut_1 : decode cX7_cut 1 = .ok (.lookupswitch 33 #[(0, 27), (1, 30)], 27) := by decide +kernel
theorem dX7_cut_28 : decode cX7_cut 28 = .ok (.iload_n 1, 1) := by decide +kernel
theorem dX7_cut_29 : decode cX7_cut 29 = .ok (.i2b, 1) := by decide +kernel
theorem dX7_cut_30 : decode cX7_cut 30 = .ok (.ireturn, 1) := by decide +kernel
theorem dX7_cut_31 : decode cX7_cut 31 = .ok (.iload_n 1, 1) := by decide +kernel
theorem dX7_cut_32 : decode cX7_cut 32 = .ok (.i2s, 1) := by decide +kernel
theorem dX7_cut_33 : decode cX7_cut 33 = .ok (.ireturn, 1) := by decide +kernel
theorem dX7_cut_34 : decode cX7_cut 34 = .ok (.iload_n 1, 1) := by decide +kernel
theorem dX7_cut_35 : decode cX7_cut 35 = .ok (.ireturn, 1) := by decide +kernel
theorem dJ6_bitCount_0f7a4_0 : decode cJ6_bitCount_0f7a4 0 = .ok (.iload_n 0, 1) := by decide +kernel
theorem dJ6_bitCount_0f7a4_1 : decode cJ6_bitCount_0f7a4 1 = .ok (.iload_n 0, 1) := by decide +kernel
theorem dJ6_bitCount_0f7a4_2 : decode cJ6_bitCount_0f7a4 2 = .ok (.iconst 1, 1) := by decide +kernel
theorem dJ6_bitCount_0f7a4_3 : decode cJ6_bitCount_0f7a4 3 = .ok (.iushr, 1) := by decide +kernel
theorem dJ6_bitCount_0f7a4_4 : decode cJ6_bitCount_0f7a4 4 = .ok (.ldc_w 265, 3) := by decide +kernel
theorem dJ6_bitCount_0f7a4_7 : decode cJ6_bitCount_0f7a4 7 = .ok (.iand, 1) := by decide +kernel
theorem dJ6_bitCount_0f7a4_8 : decode cJ6_bitCount_0f7a4 8 = .ok (.isub, 1) := by decide +kernel
theorem dJ6_bitCount_0f7a4_9 : decode cJ6_bitCount_0f7a4 9 = .ok (.istore_n 0, 1) := by decide +kernel
theorem dJ6_bitCount_0f7a4_10 : decode cJ6_bitCount_0f7a4 10 = .ok (.iload_n 0, 1) := by decide +kernel
theorem dJ6_bitCount_0f7a4_11 : decode cJ6_bitCount_0f7a4 11 = .ok (.ldc_w 266, 3) := by decide +kernel
theorem dJ6_bitCount_0f7a4_14 : decode cJ6_bitCount_0f7a4 14 = .ok (.iand, 1) := by decide +kernel
theorem dJ6_bitCount_0f7a4_15 : decode cJ6_bitCount_0f7a4 15 = .ok (.iload_n 0, 1) := by decide +kernel
theorem dJ6_bitCount_0f7a4_16 : decode cJ6_bitCount_0f7a4 16 = .ok (.iconst 2, 1) := by decide +kernel
theorem dJ6_bitCount_0f7a4_17 : decode cJ6_bitCount_0f7a4 17 = .ok (.iushr, 1) := by decide +kernel
theorem dJ6_bitCount_0f7a4_18 : decode cJ6_bitCount_0f7a4 18 = .ok (.ldc_w 266, 3) := by decide +kernel
theorem dJ6_bitCount_0f7a4_21 : decode cJ6_bitCount_0f7a4 21 = .ok (.iand, 1) := by decide +kernel
theorem dJ6_bitCount_0f7a4_22 : decode cJ6_bitCount_0f7a4 22 = .ok (.iadd, 1) := by decide +kernel
theorem dJ6_bitCount_0f7a4_23 : decode cJ6_bitCount_0f7a4 23 = .ok (.istore_n 0, 1) := by decide +kernel
theorem dJ6_bitCount_0f7a4_24 : decode cJ6_bitCount_0f7a4 24 = .ok (.iload_n 0, 1) := by decide +kernel
theorem dJ6_bitCount_0f7a4_25 : decode cJ6_bitCount_0f7a4 25 = .ok (.iload_n 0, 1) := by decide +kernel
theorem dJ6_bitCount_0f7a4_26 : decode cJ6_bitCount_0f7a4 26 = .ok (.iconst 4, 1) := by decide +kernel
theorem dJ6_bitCount_0f7a4_27 : decode cJ6_bitCount_0f7a4 27 = .ok (.iushr, 1) := by decide +kernel
theorem dJ6_bitCount_0f7a4_28 : decode cJ6_bitCount_0f7a4 28 = .ok (.iadd, 1) := by decide +kernel
theorem dJ6_bitCount_0f7a4_29 : decode cJ6_bitCount_0f7a4 29 = .ok (.ldc_w 267, 3) := by decide +kernel
theorem dJ6_bitCount_0f7a4_32 : decode cJ6_bitCount_0f7a4 32 = .ok (.iand, 1) := by decide +kernel
theorem dJ6_bitCount_0f7a4_33 : decode cJ6_bitCount_0f7a4 33 = .ok (.istore_n 0, 1) := by decide +kernel
theorem dJ6_bitCount_0f7a4_34 : decode cJ6_bitCount_0f7a4 34 = .ok (.iload_n 0, 1) := by decide +kernel
theorem dJ6_bitCount_0f7a4_35 : decode cJ6_bitCount_0f7a4 35 = .ok (.iload_n 0, 1) := by decide +kernel
theorem dJ6_bitCount_0f7a4_36 : decode cJ6_bitCount_0f7a4 36 = .ok (.bipush 8, 2) := by decide +kernel
theorem dJ6_bitCount_0f7a4_38 : decode cJ6_bitCount_0f7a4 38 = .ok (.iushr, 1) := by decide +kernel
theorem dJ6_bitCount_0f7a4_39 : decode cJ6_bitCount_0f7a4 39 = .ok (.iadd, 1) := by decide +kernel
theorem dJ6_bitCount_0f7a4_40 : decode cJ6_bitCount_0f7a4 40 = .ok (.istore_n 0, 1) := by decide +kernel
theorem dJ6_bitCount_0f7a4_41 : decode cJ6_bitCount_0f7a4 41 = .ok (.iload_n 0, 1) := by decide +kernel
theorem dJ6_bitCount_0f7a4_42 : decode cJ6_bitCount_0f7a4 42 = .ok (.iload_n 0, 1) := by decide +kernel
theorem dJ6_bitCount_0f7a4_43 : decode cJ6_bitCount_0f7a4 43 = .ok (.bipush 16, 2) := by decide +kernel
theorem dJ6_bitCount_0f7a4_45 : decode cJ6_bitCount_0f7a4 45 = .ok (.iushr, 1) := by decide +kernel
theorem dJ6_bitCount_0f7a4_46 : decode cJ6_bitCount_0f7a4 46 = .ok (.iadd, 1) := by decide +kernel
theorem dJ6_bitCount_0f7a4_47 : decode cJ6_bitCount_0f7a4 47 = .ok (.istore_n 0, 1) := by decide +kernel
theorem dJ6_bitCount_0f7a4_48 : decode cJ6_bitCount_0f7a4 48 = .ok (.iload_n 0, 1) := by decide +kernel
theorem dJ6_bitCount_0f7a4_49 : decode cJ6_bitCount_0f7a4 49 = .ok (.bipush 63, 2) := by decide +kernel
theorem dJ6_bitCount_0f7a4_51 : decode cJ6_bitCount_0f7a4 51 = .ok (.iand, 1) := by decide +kernel
theorem dJ6_bitCount_0f7a4_52 : decode cJ6_bitCount_0f7a4 52 = .ok (.ireturn, 1) := by decide +kernel
theorem dJ9_abs_067f4_0 : decode cJ9_abs_067f4 0 = .ok (.lload_n 0, 1) := by decide +kernel
theorem dJ9_abs_067f4_1 : decode cJ9_abs_067f4 1 = .ok (.lconst 0, 1) := by decide +kernel
theorem dJ9_abs_067f4_2 : decode cJ9_abs_067f4 2 = .ok (.lcmp, 1) := by decide +kernel
theorem dJ9_abs_067f4_3 : decode cJ9_abs_067f4 3 = .ok (.ifCond .ge 8, 3) := by decide +kernel
theorem dJ9_abs_067f4_6 : decode cJ9_abs_067f4 6 = .ok (.lload_n 0, 1) := by decide +kernel
theorem dJ9_abs_067f4_7 : decode cJ9_abs_067f4 7 = .ok (.lneg, 1) := by decide +kernel
theorem dJ9_abs_067f4_8 : decode cJ9_abs_067f4 8 = .ok (.goto 4, 3) := by decide +kernel
theorem dJ9_abs_067f4_11 : decode cJ9_abs_067f4 11 = .ok (.lload_n 0, 1) := by decide +kernel
theorem dJ9_abs_067f4_12 : decode cJ9_abs_067f4 12 = .ok (.lreturn, 1) := by decide +kernel
theorem dJ9_min_7cf53_0 : decode cJ9_min_7cf53 0 = .ok (.iload_n 0, 1) := by decide +kernel
theorem dJ9_min_7cf53_1 : decode cJ9_min_7cf53 1 = .ok (.iload_n 1, 1) := by decide +kernel
theorem dJ9_min_7cf53_2 : decode cJ9_min_7cf53 2 = .ok (.if_icmp .gt 7, 3) := by decide +kernel
theorem dJ9_min_7cf53_5 : decode cJ9_min_7cf53 5 = .ok (.iload_n 0, 1) := by decide +kernel
theorem dJ9_min_7cf53_6 : decode cJ9_min_7cf53 6 = .ok (.goto 4, 3) := by decide +kernel
theorem dJ9_min_7cf53_9 : decode cJ9_min_7cf53 9 = .ok (.iload_n 1, 1) := by decide +kernel
theorem dJ9_min_7cf53_10 : decode cJ9_min_7cf53 10 = .ok (.ireturn, 1) := by decide +kernel
end
section
theorem dX8_init_0 : decode cX8_init 0 = .ok (.aload_n 0, 1) := by decide +kernel
theorem dX8_init_1 : decode cX8_init 1 = .ok (.invokespecial 3, 3) := by decide +kernel
theorem dX8_init_4 : decode cX8_init 4 = .ok (.aload_n 0, 1) := by decide +kernel
theorem dX8_init_5 : decode cX8_init 5 = .ok (.new 9, 3) := by decide +kernel
theorem dX8_init_8 : decode cX8_init 8 = .ok (.dup, 1) := by decide +kernel
theorem dX8_init_9 : decode cX8_init 9 = .ok (.invokespecial 11, 3) := by decide +kernel
theorem dX8_init_12 : decode cX8_init 12 = .ok (.putfield 12, 3) := by decide +kernel
theorem dX8_init_15 : decode cX8_init 15 = .ok (.aload_n 0, 1) := by decide +kernel
theorem dX8_init_16 : decode cX8_init 16 = .ok (.iconst 4, 1) := by decide +kernel
theorem dX8_init_17 : decode cX8_init 17 = .ok (.newarray .int, 2) := by decide +kernel
theorem dX8_init_19 : decode cX8_init 19 = .ok (.putfield 16, 3) := by decide +kernel
theorem dX8_init_22 : decode cX8_init 22 = .ok (.aload_n 0, 1) := by decide +kernel
theorem dX8_init_23 : decode cX8_init 23 = .ok (.iconst 4, 1) := by decide +kernel
theorem dX8_init_24 : decode cX8_init 24 = .ok (.newarray .int, 2) := by decide +kernel
theorem dX8_init_26 : decode cX8_init 26 = .ok (.dup, 1) := by decide +kernel
theorem dX8_init_27 : decode cX8_init 27 = .ok (.iconst 0, 1) := by decide +kernel
theorem dX8_init_28 : decode cX8_init 28 = .ok (.iconst 4, 1) := by decide +kernel
theorem dX8_init_29 : decode cX8_init 29 = .ok (.iastore, 1) := by decide +kernel
theorem dX8_init_30 : decode cX8_init 30 = .ok (.dup, 1) := by decide +kernel
theorem dX8_init_31 : decode cX8_init 31 = .ok (.iconst 1, 1) := by decide +kernel
theorem dX8_init_32 : decode cX8_init 32 = .ok (.iconst 4, 1) := by decide +kernel
theorem dX8_init_33 : decode cX8_init 33 = .ok (.iastore, 1) := by decide +kernel
theorem dX8_init_34 : decode cX8_init 34 = .ok (.dup, 1) := by decide +kernel
theorem dX8_init_35 : decode cX8_init 35 = .ok (.iconst 2, 1) := by decide +kernel
theorem dX8_init_36 : decode cX8_init 36 = .ok (.iconst 4, 1) := by decide +kernel
theorem dX8_init_37 : decode cX8_init 37 = .ok (.iastore, 1) := by decide +kernel
theorem dX8_init_38 : decode cX8_init 38 = .ok (.dup, 1) := by decide +kernel
theorem dX8_init_39 : decode cX8_init 39 = .ok (.iconst 3, 1) := by decide +kernel
theorem dX8_init_40 : decode cX8_init 40 = .ok (.iconst 4, 1) := by decide +kernel
theorem dX8_init_41 : decode cX8_init 41 = .ok (.iastore, 1) := by decide +kernel
theorem dX8_init_42 : decode cX8_init 42 = .ok (.putfield 20, 3) := by decide +kernel
theorem dX8_init_45 : decode cX8_init 45 = .ok (.aload_n 0, 1) := by decide +kernel
theorem dX8_init_46 : decode cX8_init 46 = .ok (.iconst 5, 1) := by decide +kernel
theorem dX8_init_47 : decode cX8_init 47 = .ok (.newarray .int, 2) := by decide +kernel
theorem dX8_init_49 : decode cX8_init 49 = .ok (.putfield 23, 3) := by decide +kernel
theorem dX8_init_52 : decode cX8_init 52 = .ok (.aload_n 0, 1) := by decide +kernel
theorem dX8_init_53 : decode cX8_init 53 = .ok (.new 26, 3) := by decide +kernel
theorem dX8_init_56 : decode cX8_init 56 = .ok (.dup, 1) := by decide +kernel
theorem dX8_init_57 : decode cX8_init 57 = .ok (.aload_n 0, 1) := by decide +kernel
theorem dX8_init_58 : decode cX8_init 58 = .ok (.getfield 12, 3) := by decide +kernel
theorem dX8_init_61 : decode cX8_init 61 = .ok (.aload_n 0, 1) := by decide +kernel
theorem dX8_init_62 : decode cX8_init 62 = .ok (.getfield 16, 3) := by decide +kernel
theorem dX8_init_65 : decode cX8_init 65 = .ok (.aload_n 0, 1) := by decide +kernel
theorem dX8_init_66 : decode cX8_init 66 = .ok (.getfield 20, 3) := by decide +kernel
theorem dX8_init_69 : decode cX8_init 69 = .ok (.invokespecial 28, 3) := by decide +kernel
theorem dX8_init_72 : decode cX8_init 72 = .ok (.putfield 31, 3) := by decide +kernel
theorem dX8_init_75 : decode cX8_init 75 = .ok (.aload_n 0, 1) := by decide +kernel
theorem dX8_init_76 : decode cX8_init 76 = .ok (.new 35, 3) := by decide +kernel
theorem dX8_init_79 : decode cX8_init 79 = .ok (.dup, 1) := by decide +kernel
theorem dX8_init_80 : decode cX8_init 80 = .ok (.aload_n 0, 1) := by decide +kernel
theorem dX8_init_81 : decode cX8_init 81 = .ok (.getfield 31, 3) := by decide +kernel
theorem dX8_init_84 : decode cX8_init 84 = .ok (.invokespecial 37, 3) := by decide +kernel
theorem dX8_init_87 : decode cX8_init 87 = .ok (.putfield 40, 3) := by decide +kernel
theorem dX8_init_90 : decode cX8_init 90 = .ok (.aload_n 0, 1) := by decide +kernel
theorem dX8_init_91 : decode cX8_init 91 = .ok (.new 44, 3) := by decide +kernel
theorem dX8_init_94 : decode cX8_init 94 = .ok (.dup, 1) := by decide +kernel
theorem dX8_init_95 : decode cX8_init 95 = .ok (.aload_n 0, 1) := by decide +kernel
theorem dX8_init_96 : decode cX8_init 96 = .ok (.getfield 31, 3) := by decide +kernel
theorem dX8_init_99 : decode cX8_init 99 = .ok (.aload_n 0, 1) := by decide +kernel
theorem dX8_init_100 : decode cX8_init 100 = .ok (.getfield 40, 3) := by decide +kernel
theorem dX8_init_103 : decode cX8_init 103 = .ok (.invokespecial 46, 3) := by decide +kernel
theorem dX8_init_106 : decode cX8_init 106 = .ok (.putfield 49, 3) := by decide +kernel
theorem dX8_init_109 : decode cX8_init 109 = .ok (.aload_n 0, 1) := by decide +kernel
theorem dX8_init_110 : decode cX8_init 110 = .ok (.new 53, 3) := by decide +kernel
theorem dX8_init_113 : decode cX8_init 113 = .ok (.dup, 1) := by decide +kernel
theorem dX8_init_114 : decode cX8_init 114 = .ok (.invokespecial 55, 3) := by decide +kernel
theorem dX8_init_117 : decode cX8_init 117 = .ok (.putfield 56, 3) := by decide +kernel
theorem dX8_init_120 : decode cX8_init 120 = .ok (.aload_n 0, 1) := by decide +kernel
theorem dX8_init_121 : decode cX8_init 121 = .ok (.new 60, 3) := by decide +kernel
theorem dX8_init_124 : decode cX8_init 124 = .ok (.dup, 1) := by decide +kernel
theorem dX8_init_125 : decode cX8_init 125 = .ok (.invokespecial 62, 3) := by decide +kernel
theorem dX8_init_128 : decode cX8_init 128 = .ok (.putfield 63, 3) := by decide +kernel
theorem dX8_init_131 : decode cX8_init 131 = .ok (.aload_n 0, 1) := by decide +kernel
theorem dX8_init_132 : decode cX8_init 132 = .ok (.new 67, 3) := by decide +kernel
theorem dX8_init_135 : decode cX8_init 135 = .ok (.dup, 1) := by decide +kernel
theorem dX8_init_136 : decode cX8_init 136 = .ok (.invokespecial 69, 3) := by decide +kernel
theorem dX8_init_139 : decode cX8_init 139 = .ok (.putfield 70, 3) := by decide +kernel
theorem dX8_init_142 : decode cX8_init 142 = .ok (.aload_n 0, 1) := by decide +kernel
theorem dX8_init_143 : decode cX8_init 143 = .ok (.new 74, 3) := by decide +kernel
theorem dX8_init_146 : decode cX8_init 146 = .ok (.dup, 1) := by decide +kernel
theorem dX8_init_147 : decode cX8_init 147 = .ok (.invokespecial 76, 3) := by decide +kernel
theorem dX8_init_150 : decode cX8_init 150 = .ok (.putfield 77, 3) := by decide +kernel
theorem dX8_init_153 : decode cX8_init 153 = .ok (.return_, 1) := by decide +kernel
theorem dX8_type_0 : decode cX8_type 0 = .ok (.iload_n 1, 1) := by decide +kernel
theorem dX8_type_1 : decode cX8_type 1 = .ok (.sipush 255, 3) := by decide +kernel
theorem dX8_type_4 : decode cX8_type 4 = .ok (.invokestatic 81, 3) := by decide +kernel
theorem dX8_type_7 : decode cX8_type 7 = .ok (.ifCond .ne 6, 3) := by decide +kernel
theorem dX8_type_10 : decode cX8_type 10 = .ok (.bipush (-2), 2) := by decide +kernel
theorem dX8_type_12 : decode cX8_type 12 = .ok (.ireturn, 1) := by decide +kernel
theorem dX8_type_13 : decode cX8_type 13 = .ok (.aload_n 0, 1) := by decide +kernel
theorem dX8_type_14 : decode cX8_type 14 = .ok (.getfield 12, 3) := by decide +kernel
theorem dX8_type_17 : decode cX8_type 17 = .ok (.iload_n 1, 1) := by decide +kernel
theorem dX8_type_18 : decode cX8_type 18 = .ok (.invokevirtual 85, 3) := by decide +kernel
theorem dX8_type_21 : decode cX8_type 21 = .ok (.ifCond .eq 13, 3) := by decide +kernel
theorem dX8_type_24 : decode cX8_type 24 = .ok (.aload_n 0, 1) := by decide +kernel
theorem dX8_type_25 : decode cX8_type 25 = .ok (.getfield 12, 3) := by decide +kernel
theorem dX8_type_28 : decode cX8_type 28 = .ok (.getfield 89, 3) := by decide +kernel
theorem dX8_type_31 : decode cX8_type 31 = .ok (.goto 5, 3) := by decide +kernel
theorem dX8_type_34 : decode cX8_type 34 = .ok (.bipush (-4), 2) := by decide +kernel
theorem dX8_type_36 : decode cX8_type 36 = .ok (.ireturn, 1) := by decide +kernel
theorem dX8_wipe_0 : decode cX8_wipe 0 = .ok (.aload_n 0, 1) := by decide +kernel
theorem dX8_wipe_1 : decode cX8_wipe 1 = .ok (.getfield 12, 3) := by decide +kernel
theorem dX8_wipe_4 : decode cX8_wipe 4 = .ok (.getfield 89, 3) := by decide +kernel
theorem dX8_wipe_7 : decode cX8_wipe 7 = .ok (.istore_n 1, 1) := by decide +kernel
theorem dX8_wipe_8 : decode cX8_wipe 8 = .ok (.aload_n 0, 1) := by decide +kernel
theorem dX8_wipe_9 : decode cX8_wipe 9 = .ok (.getfield 12, 3) := by decide +kernel
theorem dX8_wipe_12 : decode cX8_wipe 12 = .ok (.invokevirtual 93, 3) := by decide +kernel
theorem dX8_wipe_15 : decode cX8_wipe 15 = .ok (.iload_n 1, 1) := by decide +kernel
theorem dX8_wipe_16 : decode cX8_wipe 16 = .ok (.ireturn, 1) := by decide +kernel
theorem dX8_fault_0 : decode cX8_fault 0 = .ok (.aload_n 0, 1) := by decide +kernel
theorem dX8_fault_1 : decode cX8_fault 1 = .ok (.getfield 12, 3) := by decide +kernel
theorem dX8_fault_4 : decode cX8_fault 4 = .ok (.getfield 96, 3) := by decide +kernel
theorem dX8_fault_7 : decode cX8_fault 7 = .ok (.ireturn, 1) := by decide +kernel
theorem dX8_person_0 : decode cX8_person 0 = .ok (.aload_n 0, 1) := by decide +kernel
theorem dX8_person_1 : decode cX8_person 1 = .ok (.iload_n 1, 1) := by decide +kernel
theorem dX8_person_2 : decode cX8_person 2 = .ok (.invokevirtual 99, 3) := by decide +kernel
theorem dX8_person_5 : decode cX8_person 5 = .ok (.ifCond .eq 11, 3) := by decide +kernel
theorem dX8_person_8 : decode cX8_person 8 = .ok (.iload_n 2, 1) := by decide +kernel
theorem dX8_person_9 : decode cX8_person 9 = .ok (.iconst 3, 1) := by decide +kernel
theorem dX8_person_10 : decode cX8_person 10 = .ok (.invokestatic 81, 3) := by decide +kernel
theorem dX8_person_13 : decode cX8_person 13 = .ok (.ifCond .ne 6, 3) := by decide +kernel
theorem dX8_person_16 : decode cX8_person 16 = .ok (.bipush (-2), 2) := by decide +kernel
theorem dX8_person_18 : decode cX8_person 18 = .ok (.ireturn, 1) := by decide +kernel
theorem dX8_person_19 : decode cX8_person 19 = .ok (.aload_n 0, 1) := by decide +kernel
theorem dX8_person_20 : decode cX8_person 20 = .ok (.getfield 12, 3) := by decide +kernel
theorem dX8_person_23 : decode cX8_person 23 = .ok (.getfield 102, 3) := by decide +kernel
theorem dX8_person_26 : decode cX8_person 26 = .ok (.iconst 4, 1) := by decide +kernel
theorem dX8_person_27 : decode cX8_person 27 = .ok (.iload_n 1, 1) := by decide +kernel
theorem dX8_person_28 : decode cX8_person 28 = .ok (.imul, 1) := by decide +kernel
theorem dX8_person_29 : decode cX8_person 29 = .ok (.iload_n 2, 1) := by decide +kernel
theorem dX8_person_30 : decode cX8_person 30 = .ok (.iadd, 1) := by decide +kernel
theorem dX8_person_31 : decode cX8_person 31 = .ok (.iaload, 1) := by decide +kernel
theorem dX8_person_32 : decode cX8_person 32 = .ok (.ireturn, 1) := by decide +kernel
theorem dX8_tale_0 : decode cX8_tale 0 = .ok (.aload_n 0, 1) := by decide +kernel
theorem dX8_tale_1 : decode cX8_tale 1 = .ok (.iload_n 1, 1) := by decide +kernel
theorem dX8_tale_2 : decode cX8_tale 2 = .ok (.invokevirtual 105, 3) := by decide +kernel
theorem dX8_tale_5 : decode cX8_tale 5 = .ok (.ifCond .eq 15, 3) := by decide +kernel
theorem dX8_tale_8 : decode cX8_tale 8 = .ok (.aload_n 0, 1) := by decide +kernel
theorem dX8_tale_9 : decode cX8_tale 9 = .ok (.getfield 12, 3) := by decide +kernel
theorem dX8_tale_12 : decode cX8_tale 12 = .ok (.getfield 108, 3) := by decide +kernel
theorem dX8_tale_15 : decode cX8_tale 15 = .ok (.iload_n 1, 1) := by decide +kernel
theorem dX8_tale_16 : decode cX8_tale 16 = .ok (.iaload, 1) := by decide +kernel
theorem dX8_tale_17 : decode cX8_tale 17 = .ok (.goto 5, 3) := by decide +kernel
theorem dX8_tale_20 : decode cX8_tale 20 = .ok (.bipush (-2), 2) := by decide +kernel
theorem dX8_tale_22 : decode cX8_tale 22 = .ok (.ireturn, 1) := by decide +kernel
theorem dX8_law_0 : decode cX8_law 0 = .ok (.iload_n 1, 1) := by decide +kernel
theorem dX8_law_1 : decode cX8_law 1 = .ok (.iconst 2, 1) := by decide +kernel
theorem dX8_law_2 : decode cX8_law 2 = .ok (.invokestatic 81, 3) := by decide +kernel
theorem dX8_law_5 : decode cX8_law 5 = .ok (.ifCond .eq 15, 3) := by decide +kernel
theorem dX8_law_8 : decode cX8_law 8 = .ok (.aload_n 0, 1) := by decide +kernel
theorem dX8_law_9 : decode cX8_law 9 = .ok (.getfield 12, 3) := by decide +kernel
theorem dX8_law_12 : decode cX8_law 12 = .ok (.getfield 111, 3) := by decide +kernel
theorem dX8_law_15 : decode cX8_law 15 = .ok (.iload_n 1, 1) := by decide +kernel
theorem dX8_law_16 : decode cX8_law 16 = .ok (.iaload, 1) := by decide +kernel
theorem dX8_law_17 : decode cX8_law 17 = .ok (.goto 5, 3) := by decide +kernel
theorem dX8_law_20 : decode cX8_law 20 = .ok (.bipush (-2), 2) := by decide +kernel
theorem dX8_law_22 : decode cX8_law 22 = .ok (.ireturn, 1) := by decide +kernel
theorem dX8_holds_0 : decode cX8_holds 0 = .ok (.iload_n 1, 1) := by decide +kernel
theorem dX8_holds_1 : decode cX8_holds 1 = .ok (.iconst 3, 1) := by decide +kernel
theorem dX8_holds_2 : decode cX8_holds 2 = .ok (.invokestatic 81, 3) := by decide +kernel
theorem dX8_holds_5 : decode cX8_holds 5 = .ok (.ifCond .eq 12, 3) := by decide +kernel
theorem dX8_holds_8 : decode cX8_holds 8 = .ok (.iload_n 2, 1) := by decide +kernel
theorem dX8_holds_9 : decode cX8_holds 9 = .ok (.bipush 15, 2) := by decide +kernel
theorem dX8_holds_11 : decode cX8_holds 11 = .ok (.invokestatic 81, 3) := by decide +kernel
theorem dX8_holds_14 : decode cX8_holds 14 = .ok (.ifCond .ne 6, 3) := by decide +kernel
theorem dX8_holds_17 : decode cX8_holds 17 = .ok (.bipush (-2), 2) := by decide +kernel
theorem dX8_holds_19 : decode cX8_holds 19 = .ok (.ireturn, 1) := by decide +kernel
theorem dX8_holds_20 : decode cX8_holds 20 = .ok (.aload_n 0, 1) := by decide +kernel
theorem dX8_holds_21 : decode cX8_holds 21 = .ok (.getfield 16, 3) := by decide +kernel
theorem dX8_holds_24 : decode cX8_holds 24 = .ok (.iload_n 1, 1) := by decide +kernel
theorem dX8_holds_25 : decode cX8_holds 25 = .ok (.iaload, 1) := by decide +kernel
theorem dX8_holds_26 : decode cX8_holds 26 = .ok (.istore_n 3, 1) := by decide +kernel
theorem dX8_holds_27 : decode cX8_holds 27 = .ok (.aload_n 0, 1) := by decide +kernel
theorem dX8_holds_28 : decode cX8_holds 28 = .ok (.getfield 16, 3) := by decide +kernel
theorem dX8_holds_31 : decode cX8_holds 31 = .ok (.iload_n 1, 1) := by decide +kernel
theorem dX8_holds_32 : decode cX8_holds 32 = .ok (.iload_n 2, 1) := by decide +kernel
theorem dX8_holds_33 : decode cX8_holds 33 = .ok (.iastore, 1) := by decide +kernel
theorem dX8_holds_34 : decode cX8_holds 34 = .ok (.iload_n 3, 1) := by decide +kernel
theorem dX8_holds_35 : decode cX8_holds 35 = .ok (.ireturn, 1) := by decide +kernel
theorem dX8_leaves_0 : decode cX8_leaves 0 = .ok (.iload_n 1, 1) := by decide +kernel
theorem dX8_leaves_1 : decode cX8_leaves 1 = .ok (.iconst 3, 1) := by decide +kernel
theorem dX8_leaves_2 : decode cX8_leaves 2 = .ok (.invokestatic 81, 3) := by decide +kernel
theorem dX8_leaves_5 : decode cX8_leaves 5 = .ok (.ifCond .eq 11, 3) := by decide +kernel
theorem dX8_leaves_8 : decode cX8_leaves 8 = .ok (.iload_n 2, 1) := by decide +kernel
theorem dX8_leaves_9 : decode cX8_leaves 9 = .ok (.iconst 4, 1) := by decide +kernel
theorem dX8_leaves_10 : decode cX8_leaves 10 = .ok (.invokestatic 81, 3) := by decide +kernel
theorem dX8_leaves_13 : decode cX8_leaves 13 = .ok (.ifCond .ne 6, 3) := by decide +kernel
theorem dX8_leaves_16 : decode cX8_leaves 16 = .ok (.bipush (-2), 2) := by decide +kernel
theorem dX8_leaves_18 : decode cX8_leaves 18 = .ok (.ireturn, 1) := by decide +kernel
theorem dX8_leaves_19 : decode cX8_leaves 19 = .ok (.aload_n 0, 1) := by decide +kernel
theorem dX8_leaves_20 : decode cX8_leaves 20 = .ok (.getfield 20, 3) := by decide +kernel
theorem dX8_leaves_23 : decode cX8_leaves 23 = .ok (.iload_n 1, 1) := by decide +kernel
theorem dX8_leaves_24 : decode cX8_leaves 24 = .ok (.iaload, 1) := by decide +kernel
theorem dX8_leaves_25 : decode cX8_leaves 25 = .ok (.istore_n 3, 1) := by decide +kernel
theorem dX8_leaves_26 : decode cX8_leaves 26 = .ok (.aload_n 0, 1) := by decide +kernel
theorem dX8_leaves_27 : decode cX8_leaves 27 = .ok (.getfield 20, 3) := by decide +kernel
theorem dX8_leaves_30 : decode cX8_leaves 30 = .ok (.iload_n 1, 1) := by decide +kernel
theorem dX8_leaves_31 : decode cX8_leaves 31 = .ok (.iload_n 2, 1) := by decide +kernel
theorem dX8_leaves_32 : decode cX8_leaves 32 = .ok (.iastore, 1) := by decide +kernel
theorem dX8_leaves_33 : decode cX8_leaves 33 = .ok (.iload_n 3, 1) := by decide +kernel
theorem dX8_leaves_34 : decode cX8_leaves 34 = .ok (.ireturn, 1) := by decide +kernel
theorem dX8_quarters_0 : decode cX8_quarters 0 = .ok (.aload_n 0, 1) := by decide +kernel
theorem dX8_quarters_1 : decode cX8_quarters 1 = .ok (.iload_n 1, 1) := by decide +kernel
theorem dX8_quarters_2 : decode cX8_quarters 2 = .ok (.invokevirtual 99, 3) := by decide +kernel
theorem dX8_quarters_5 : decode cX8_quarters 5 = .ok (.ifCond .eq 11, 3) := by decide +kernel
theorem dX8_quarters_8 : decode cX8_quarters 8 = .ok (.aload_n 0, 1) := by decide +kernel
theorem dX8_quarters_9 : decode cX8_quarters 9 = .ok (.iload_n 2, 1) := by decide +kernel
theorem dX8_quarters_10 : decode cX8_quarters 10 = .ok (.invokevirtual 105, 3) := by decide +kernel
theorem dX8_quarters_13 : decode cX8_quarters 13 = .ok (.ifCond .ne 6, 3) := by decide +kernel
theorem dX8_quarters_16 : decode cX8_quarters 16 = .ok (.bipush (-2), 2) := by decide +kernel
theorem dX8_quarters_18 : decode cX8_quarters 18 = .ok (.ireturn, 1) := by decide +kernel
theorem dX8_quarters_19 : decode cX8_quarters 19 = .ok (.aload_n 0, 1) := by decide +kernel
theorem dX8_quarters_20 : decode cX8_quarters 20 = .ok (.getfield 31, 3) := by decide +kernel
theorem dX8_quarters_23 : decode cX8_quarters 23 = .ok (.invokevirtual 114, 3) := by decide +kernel
theorem dX8_quarters_26 : decode cX8_quarters 26 = .ok (.aload_n 0, 1) := by decide +kernel
theorem dX8_quarters_27 : decode cX8_quarters 27 = .ok (.getfield 31, 3) := by decide +kernel
theorem dX8_quarters_30 : decode cX8_quarters 30 = .ok (.iload_n 1, 1) := by decide +kernel
theorem dX8_quarters_31 : decode cX8_quarters 31 = .ok (.iload_n 2, 1) := by decide +kernel
theorem dX8_quarters_32 : decode cX8_quarters 32 = .ok (.invokevirtual 117, 3) := by decide +kernel
theorem dX8_quarters_35 : decode cX8_quarters 35 = .ok (.ireturn, 1) := by decide +kernel
theorem dX8_owes_0 : decode cX8_owes 0 = .ok (.aload_n 0, 1) := by decide +kernel
theorem dX8_owes_1 : decode cX8_owes 1 = .ok (.iload_n 1, 1) := by decide +kernel
theorem dX8_owes_2 : decode cX8_owes 2 = .ok (.invokevirtual 99, 3) := by decide +kernel
theorem dX8_owes_5 : decode cX8_owes 5 = .ok (.ifCond .eq 24, 3) := by decide +kernel
theorem dX8_owes_8 : decode cX8_owes 8 = .ok (.iload_n 2, 1) := by decide +kernel
theorem dX8_owes_9 : decode cX8_owes 9 = .ok (.aload_n 0, 1) := by decide +kernel
theorem dX8_owes_10 : decode cX8_owes 10 = .ok (.getfield 12, 3) := by decide +kernel
theorem dX8_owes_13 : decode cX8_owes 13 = .ok (.getfield 121, 3) := by decide +kernel
theorem dX8_owes_16 : decode cX8_owes 16 = .ok (.invokestatic 81, 3) := by decide +kernel
theorem dX8_owes_19 : decode cX8_owes 19 = .ok (.ifCond .eq 10, 3) := by decide +kernel
theorem dX8_owes_22 : decode cX8_owes 22 = .ok (.iload_n 3, 1) := by decide +kernel
theorem dX8_owes_23 : decode cX8_owes 23 = .ok (.invokestatic 124, 3) := by decide +kernel
theorem dX8_owes_26 : decode cX8_owes 26 = .ok (.ifCond .ne 9, 3) := by decide +kernel
theorem dX8_owes_29 : decode cX8_owes 29 = .ok (.bipush (-2), 2) := by decide +kernel
theorem dX8_owes_31 : decode cX8_owes 31 = .ok (.invokestatic 127, 3) := by decide +kernel
theorem dX8_owes_34 : decode cX8_owes 34 = .ok (.lreturn, 1) := by decide +kernel
theorem dX8_owes_35 : decode cX8_owes 35 = .ok (.aload_n 0, 1) := by decide +kernel
theorem dX8_owes_36 : decode cX8_owes 36 = .ok (.getfield 31, 3) := by decide +kernel
theorem dX8_owes_39 : decode cX8_owes 39 = .ok (.invokevirtual 114, 3) := by decide +kernel
theorem dX8_owes_42 : decode cX8_owes 42 = .ok (.aload_n 0, 1) := by decide +kernel
theorem dX8_owes_43 : decode cX8_owes 43 = .ok (.getfield 40, 3) := by decide +kernel
theorem dX8_owes_46 : decode cX8_owes 46 = .ok (.invokevirtual 131, 3) := by decide +kernel
theorem dX8_owes_49 : decode cX8_owes 49 = .ok (.aload_n 0, 1) := by decide +kernel
theorem dX8_owes_50 : decode cX8_owes 50 = .ok (.iload_n 1, 1) := by decide +kernel
theorem dX8_owes_51 : decode cX8_owes 51 = .ok (.iload_n 2, 1) := by decide +kernel
theorem dX8_owes_52 : decode cX8_owes 52 = .ok (.invokevirtual 134, 3) := by decide +kernel
theorem dX8_owes_55 : decode cX8_owes 55 = .ok (.iload_n 3, 1) := by decide +kernel
theorem dX8_owes_56 : decode cX8_owes 56 = .ok (.invokevirtual 138, 3) := by decide +kernel
theorem dX8_owes_59 : decode cX8_owes 59 = .ok (.lreturn, 1) := by decide +kernel
theorem dX8_amount_0 : decode cX8_amount 0 = .ok (.aload_n 0, 1) := by decide +kernel
theorem dX8_amount_1 : decode cX8_amount 1 = .ok (.iload_n 1, 1) := by decide +kernel
theorem dX8_amount_2 : decode cX8_amount 2 = .ok (.invokevirtual 99, 3) := by decide +kernel
theorem dX8_amount_5 : decode cX8_amount 5 = .ok (.ifCond .eq 10, 3) := by decide +kernel
theorem dX8_amount_8 : decode cX8_amount 8 = .ok (.iload_n 2, 1) := by decide +kernel
theorem dX8_amount_9 : decode cX8_amount 9 = .ok (.invokestatic 124, 3) := by decide +kernel
theorem dX8_amount_12 : decode cX8_amount 12 = .ok (.ifCond .ne 9, 3) := by decide +kernel
theorem dX8_amount_15 : decode cX8_amount 15 = .ok (.bipush (-2), 2) := by decide +kernel
theorem dX8_amount_17 : decode cX8_amount 17 = .ok (.invokestatic 127, 3) := by decide +kernel
theorem dX8_amount_20 : decode cX8_amount 20 = .ok (.lreturn, 1) := by decide +kernel
theorem dX8_amount_21 : decode cX8_amount 21 = .ok (.aload_n 0, 1) := by decide +kernel
theorem dX8_amount_22 : decode cX8_amount 22 = .ok (.getfield 31, 3) := by decide +kernel
theorem dX8_amount_25 : decode cX8_amount 25 = .ok (.invokevirtual 114, 3) := by decide +kernel
theorem dX8_amount_28 : decode cX8_amount 28 = .ok (.aload_n 0, 1) := by decide +kernel
theorem dX8_amount_29 : decode cX8_amount 29 = .ok (.getfield 40, 3) := by decide +kernel
theorem dX8_amount_32 : decode cX8_amount 32 = .ok (.invokevirtual 131, 3) := by decide +kernel
theorem dX8_amount_35 : decode cX8_amount 35 = .ok (.aload_n 0, 1) := by decide +kernel
theorem dX8_amount_36 : decode cX8_amount 36 = .ok (.iload_n 1, 1) := by decide +kernel
theorem dX8_amount_37 : decode cX8_amount 37 = .ok (.invokevirtual 141, 3) := by decide +kernel
theorem dX8_amount_40 : decode cX8_amount 40 = .ok (.iload_n 2, 1) := by decide +kernel
theorem dX8_amount_41 : decode cX8_amount 41 = .ok (.invokevirtual 138, 3) := by decide +kernel
theorem dX8_amount_44 : decode cX8_amount 44 = .ok (.lreturn, 1) := by decide +kernel
theorem dX8_cost_0 : decode cX8_cost 0 = .ok (.aload_n 0, 1) := by decide +kernel
theorem dX8_cost_1 : decode cX8_cost 1 = .ok (.iload_n 1, 1) := by decide +kernel
theorem dX8_cost_2 : decode cX8_cost 2 = .ok (.invokevirtual 99, 3) := by decide +kernel
theorem dX8_cost_5 : decode cX8_cost 5 = .ok (.ifCond .eq 10, 3) := by decide +kernel
theorem dX8_cost_8 : decode cX8_cost 8 = .ok (.iload_n 2, 1) := by decide +kernel
theorem dX8_cost_9 : decode cX8_cost 9 = .ok (.invokestatic 124, 3) := by decide +kernel
theorem dX8_cost_12 : decode cX8_cost 12 = .ok (.ifCond .ne 9, 3) := by decide +kernel
theorem dX8_cost_15 : decode cX8_cost 15 = .ok (.bipush (-2), 2) := by decide +kernel
theorem dX8_cost_17 : decode cX8_cost 17 = .ok (.invokestatic 127, 3) := by decide +kernel
theorem dX8_cost_20 : decode cX8_cost 20 = .ok (.lreturn, 1) := by decide +kernel
theorem dX8_cost_21 : decode cX8_cost 21 = .ok (.aload_n 0, 1) := by decide +kernel
theorem dX8_cost_22 : decode cX8_cost 22 = .ok (.getfield 31, 3) := by decide +kernel
theorem dX8_cost_25 : decode cX8_cost 25 = .ok (.invokevirtual 114, 3) := by decide +kernel
theorem dX8_cost_28 : decode cX8_cost 28 = .ok (.aload_n 0, 1) := by decide +kernel
theorem dX8_cost_29 : decode cX8_cost 29 = .ok (.getfield 40, 3) := by decide +kernel
theorem dX8_cost_32 : decode cX8_cost 32 = .ok (.invokevirtual 131, 3) := by decide +kernel
theorem dX8_cost_35 : decode cX8_cost 35 = .ok (.aload_n 0, 1) := by decide +kernel
theorem dX8_cost_36 : decode cX8_cost 36 = .ok (.aload_n 0, 1) := by decide +kernel
theorem dX8_cost_37 : decode cX8_cost 37 = .ok (.getfield 40, 3) := by decide +kernel
theorem dX8_cost_40 : decode cX8_cost 40 = .ok (.iload_n 1, 1) := by decide +kernel
theorem dX8_cost_41 : decode cX8_cost 41 = .ok (.invokevirtual 145, 3) := by decide +kernel
theorem dX8_cost_44 : decode cX8_cost 44 = .ok (.invokevirtual 148, 3) := by decide +kernel
theorem dX8_cost_47 : decode cX8_cost 47 = .ok (.iload_n 2, 1) := by decide +kernel
theorem dX8_cost_48 : decode cX8_cost 48 = .ok (.invokevirtual 138, 3) := by decide +kernel
theorem dX8_cost_51 : decode cX8_cost 51 = .ok (.lreturn, 1) := by decide +kernel
theorem dX8_best_0 : decode cX8_best 0 = .ok (.aload_n 0, 1) := by decide +kernel
theorem dX8_best_1 : decode cX8_best 1 = .ok (.iload_n 1, 1) := by decide +kernel
theorem dX8_best_2 : decode cX8_best 2 = .ok (.invokevirtual 99, 3) := by decide +kernel
theorem dX8_best_5 : decode cX8_best 5 = .ok (.ifCond .eq 11, 3) := by decide +kernel
theorem dX8_best_8 : decode cX8_best 8 = .ok (.iload_n 2, 1) := by decide +kernel
theorem dX8_best_9 : decode cX8_best 9 = .ok (.iconst 3, 1) := by decide +kernel
theorem dX8_best_10 : decode cX8_best 10 = .ok (.invokestatic 81, 3) := by decide +kernel
theorem dX8_best_13 : decode cX8_best 13 = .ok (.ifCond .ne 9, 3) := by decide +kernel
theorem dX8_best_16 : decode cX8_best 16 = .ok (.bipush (-2), 2) := by decide +kernel
theorem dX8_best_18 : decode cX8_best 18 = .ok (.invokestatic 127, 3) := by decide +kernel
theorem dX8_best_21 : decode cX8_best 21 = .ok (.lreturn, 1) := by decide +kernel
theorem dX8_best_22 : decode cX8_best 22 = .ok (.aload_n 0, 1) := by decide +kernel
theorem dX8_best_23 : decode cX8_best 23 = .ok (.getfield 49, 3) := by decide +kernel
theorem dX8_best_26 : decode cX8_best 26 = .ok (.iload_n 1, 1) := by decide +kernel
theorem dX8_best_27 : decode cX8_best 27 = .ok (.invokevirtual 152, 3) := by decide +kernel
theorem dX8_best_30 : decode cX8_best 30 = .ok (.iload_n 2, 1) := by decide +kernel
theorem dX8_best_31 : decode cX8_best 31 = .ok (.iconst 2, 1) := by decide +kernel
theorem dX8_best_32 : decode cX8_best 32 = .ok (.if_icmp .ne 12, 3) := by decide +kernel
theorem dX8_best_35 : decode cX8_best 35 = .ok (.aload_n 0, 1) := by decide +kernel
theorem dX8_best_36 : decode cX8_best 36 = .ok (.getfield 49, 3) := by decide +kernel
theorem dX8_best_39 : decode cX8_best 39 = .ok (.getfield 156, 3) := by decide +kernel
theorem dX8_best_42 : decode cX8_best 42 = .ok (.i2l, 1) := by decide +kernel
theorem dX8_best_43 : decode cX8_best 43 = .ok (.lreturn, 1) := by decide +kernel
theorem dX8_best_44 : decode cX8_best 44 = .ok (.iload_n 2, 1) := by decide +kernel
theorem dX8_best_45 : decode cX8_best 45 = .ok (.iconst 3, 1) := by decide +kernel
theorem dX8_best_46 : decode cX8_best 46 = .ok (.if_icmp .ne 12, 3) := by decide +kernel
theorem dX8_best_49 : decode cX8_best 49 = .ok (.aload_n 0, 1) := by decide +kernel
theorem dX8_best_50 : decode cX8_best 50 = .ok (.getfield 49, 3) := by decide +kernel
theorem dX8_best_53 : decode cX8_best 53 = .ok (.getfield 159, 3) := by decide +kernel
theorem dX8_best_56 : decode cX8_best 56 = .ok (.i2l, 1) := by decide +kernel
theorem dX8_best_57 : decode cX8_best 57 = .ok (.lreturn, 1) := by decide +kernel
theorem dX8_best_58 : decode cX8_best 58 = .ok (.aload_n 0, 1) := by decide +kernel
theorem dX8_best_59 : decode cX8_best 59 = .ok (.aload_n 0, 1) := by decide +kernel
theorem dX8_best_60 : decode cX8_best 60 = .ok (.getfield 49, 3) := by decide +kernel
theorem dX8_best_63 : decode cX8_best 63 = .ok (.getfield 162, 3) := by decide +kernel
theorem dX8_best_66 : decode cX8_best 66 = .ok (.invokevirtual 148, 3) := by decide +kernel
theorem dX8_best_69 : decode cX8_best 69 = .ok (.iload_n 2, 1) := by decide +kernel
theorem dX8_best_70 : decode cX8_best 70 = .ok (.invokevirtual 138, 3) := by decide +kernel
theorem dX8_best_73 : decode cX8_best 73 = .ok (.lreturn, 1) := by decide +kernel
theorem dX8_rest_0 : decode cX8_rest 0 = .ok (.iload_n 1, 1) := by decide +kernel
theorem dX8_rest_1 : decode cX8_rest 1 = .ok (.iconst (-1), 1) := by decide +kernel
theorem dX8_rest_2 : decode cX8_rest 2 = .ok (.if_icmp .ne 11, 3) := by decide +kernel
theorem dX8_rest_5 : decode cX8_rest 5 = .ok (.iload_n 2, 1) := by decide +kernel
theorem dX8_rest_6 : decode cX8_rest 6 = .ok (.ifCond .ne 7, 3) := by decide +kernel
theorem dX8_rest_9 : decode cX8_rest 9 = .ok (.iconst 1, 1) := by decide +kernel
theorem dX8_rest_10 : decode cX8_rest 10 = .ok (.goto 4, 3) := by decide +kernel
theorem dX8_rest_13 : decode cX8_rest 13 = .ok (.iconst 0, 1) := by decide +kernel
theorem dX8_rest_14 : decode cX8_rest 14 = .ok (.istore_n 3, 1) := by decide +kernel
theorem dX8_rest_15 : decode cX8_rest 15 = .ok (.iload_n 3, 1) := by decide +kernel
theorem dX8_rest_16 : decode cX8_rest 16 = .ok (.ifCond .ne 21, 3) := by decide +kernel
theorem dX8_rest_19 : decode cX8_rest 19 = .ok (.aload_n 0, 1) := by decide +kernel
theorem dX8_rest_20 : decode cX8_rest 20 = .ok (.iload_n 1, 1) := by decide +kernel
theorem dX8_rest_21 : decode cX8_rest 21 = .ok (.invokevirtual 99, 3) := by decide +kernel
theorem dX8_rest_24 : decode cX8_rest 24 = .ok (.ifCond .eq 10, 3) := by decide +kernel
theorem dX8_rest_27 : decode cX8_rest 27 = .ok (.iload_n 2, 1) := by decide +kernel
theorem dX8_rest_28 : decode cX8_rest 28 = .ok (.invokestatic 124, 3) := by decide +kernel
theorem dX8_rest_31 : decode cX8_rest 31 = .ok (.ifCond .ne 6, 3) := by decide +kernel
theorem dX8_rest_34 : decode cX8_rest 34 = .ok (.bipush (-2), 2) := by decide +kernel
theorem dX8_rest_36 : decode cX8_rest 36 = .ok (.ireturn, 1) := by decide +kernel
theorem dX8_rest_37 : decode cX8_rest 37 = .ok (.aload_n 0, 1) := by decide +kernel
theorem dX8_rest_38 : decode cX8_rest 38 = .ok (.getfield 49, 3) := by decide +kernel
theorem dX8_rest_41 : decode cX8_rest 41 = .ok (.invokevirtual 166, 3) := by decide +kernel
theorem dX8_rest_44 : decode cX8_rest 44 = .ok (.aload_n 0, 1) := by decide +kernel
theorem dX8_rest_45 : decode cX8_rest 45 = .ok (.iload_n 1, 1) := by decide +kernel
theorem dX8_rest_46 : decode cX8_rest 46 = .ok (.iload_n 2, 1) := by decide +kernel
theorem dX8_rest_47 : decode cX8_rest 47 = .ok (.invokevirtual 169, 3) := by decide +kernel
theorem dX8_rest_50 : decode cX8_rest 50 = .ok (.ireturn, 1) := by decide +kernel
theorem dX8_order_0 : decode cX8_order 0 = .ok (.aload_n 0, 1) := by decide +kernel
theorem dX8_order_1 : decode cX8_order 1 = .ok (.iload_n 1, 1) := by decide +kernel
theorem dX8_order_2 : decode cX8_order 2 = .ok (.invokevirtual 99, 3) := by decide +kernel
theorem dX8_order_5 : decode cX8_order 5 = .ok (.ifCond .eq 11, 3) := by decide +kernel
theorem dX8_order_8 : decode cX8_order 8 = .ok (.aload_n 0, 1) := by decide +kernel
theorem dX8_order_9 : decode cX8_order 9 = .ok (.iload_n 2, 1) := by decide +kernel
theorem dX8_order_10 : decode cX8_order 10 = .ok (.invokevirtual 105, 3) := by decide +kernel
theorem dX8_order_13 : decode cX8_order 13 = .ok (.ifCond .ne 6, 3) := by decide +kernel
theorem dX8_order_16 : decode cX8_order 16 = .ok (.bipush (-2), 2) := by decide +kernel
theorem dX8_order_18 : decode cX8_order 18 = .ok (.ireturn, 1) := by decide +kernel
theorem dX8_order_19 : decode cX8_order 19 = .ok (.aload_n 0, 1) := by decide +kernel
theorem dX8_order_20 : decode cX8_order 20 = .ok (.getfield 49, 3) := by decide +kernel
theorem dX8_order_23 : decode cX8_order 23 = .ok (.iload_n 1, 1) := by decide +kernel
theorem dX8_order_24 : decode cX8_order 24 = .ok (.invokevirtual 172, 3) := by decide +kernel
theorem dX8_order_27 : decode cX8_order 27 = .ok (.aload_n 0, 1) := by decide +kernel
theorem dX8_order_28 : decode cX8_order 28 = .ok (.getfield 49, 3) := by decide +kernel
theorem dX8_order_31 : decode cX8_order 31 = .ok (.getfield 175, 3) := by decide +kernel
theorem dX8_order_34 : decode cX8_order 34 = .ok (.iload_n 2, 1) := by decide +kernel
theorem dX8_order_35 : decode cX8_order 35 = .ok (.iaload, 1) := by decide +kernel
theorem dX8_order_36 : decode cX8_order 36 = .ok (.ireturn, 1) := by decide +kernel
theorem dX8_among_0 : decode cX8_among 0 = .ok (.aload_n 0, 1) := by decide +kernel
theorem dX8_among_1 : decode cX8_among 1 = .ok (.iload_n 1, 1) := by decide +kernel
theorem dX8_among_2 : decode cX8_among 2 = .ok (.invokevirtual 99, 3) := by decide +kernel
theorem dX8_among_5 : decode cX8_among 5 = .ok (.ifCond .ne 6, 3) := by decide +kernel
theorem dX8_among_8 : decode cX8_among 8 = .ok (.bipush (-2), 2) := by decide +kernel
theorem dX8_among_10 : decode cX8_among 10 = .ok (.ireturn, 1) := by decide +kernel
theorem dX8_among_11 : decode cX8_among 11 = .ok (.aload_n 0, 1) := by decide +kernel
theorem dX8_among_12 : decode cX8_among 12 = .ok (.getfield 49, 3) := by decide +kernel
theorem dX8_among_15 : decode cX8_among 15 = .ok (.iload_n 1, 1) := by decide +kernel
theorem dX8_among_16 : decode cX8_among 16 = .ok (.invokevirtual 178, 3) := by decide +kernel
theorem dX8_among_19 : decode cX8_among 19 = .ok (.ireturn, 1) := by decide +kernel
theorem dX8_hire_0 : decode cX8_hire 0 = .ok (.aload_n 0, 1) := by decide +kernel
theorem dX8_hire_1 : decode cX8_hire 1 = .ok (.iload_n 1, 1) := by decide +kernel
theorem dX8_hire_2 : decode cX8_hire 2 = .ok (.invokevirtual 99, 3) := by decide +kernel
theorem dX8_hire_5 : decode cX8_hire 5 = .ok (.ifCond .eq 19, 3) := by decide +kernel
theorem dX8_hire_8 : decode cX8_hire 8 = .ok (.iload_n 2, 1) := by decide +kernel
theorem dX8_hire_9 : decode cX8_hire 9 = .ok (.bipush 9, 2) := by decide +kernel
theorem dX8_hire_11 : decode cX8_hire 11 = .ok (.invokestatic 81, 3) := by decide +kernel
theorem dX8_hire_14 : decode cX8_hire 14 = .ok (.ifCond .eq 10, 3) := by decide +kernel
theorem dX8_hire_17 : decode cX8_hire 17 = .ok (.iload_n 3, 1) := by decide +kernel
theorem dX8_hire_18 : decode cX8_hire 18 = .ok (.invokestatic 124, 3) := by decide +kernel
theorem dX8_hire_21 : decode cX8_hire 21 = .ok (.ifCond .ne 9, 3) := by decide +kernel
theorem dX8_hire_24 : decode cX8_hire 24 = .ok (.bipush (-2), 2) := by decide +kernel
theorem dX8_hire_26 : decode cX8_hire 26 = .ok (.invokestatic 127, 3) := by decide +kernel
theorem dX8_hire_29 : decode cX8_hire 29 = .ok (.lreturn, 1) := by decide +kernel
theorem dX8_hire_30 : decode cX8_hire 30 = .ok (.aload_n 0, 1) := by decide +kernel
theorem dX8_hire_31 : decode cX8_hire 31 = .ok (.getfield 12, 3) := by decide +kernel
theorem dX8_hire_34 : decode cX8_hire 34 = .ok (.getfield 182, 3) := by decide +kernel
theorem dX8_hire_37 : decode cX8_hire 37 = .ok (.iconst 4, 1) := by decide +kernel
theorem dX8_hire_38 : decode cX8_hire 38 = .ok (.if_icmp .lt 9, 3) := by decide +kernel
theorem dX8_hire_41 : decode cX8_hire 41 = .ok (.bipush (-4), 2) := by decide +kernel
theorem dX8_hire_43 : decode cX8_hire 43 = .ok (.invokestatic 127, 3) := by decide +kernel
theorem dX8_hire_46 : decode cX8_hire 46 = .ok (.lreturn, 1) := by decide +kernel
theorem dX8_hire_47 : decode cX8_hire 47 = .ok (.aload_n 0, 1) := by decide +kernel
theorem dX8_hire_48 : decode cX8_hire 48 = .ok (.getfield 31, 3) := by decide +kernel
theorem dX8_hire_51 : decode cX8_hire 51 = .ok (.invokevirtual 114, 3) := by decide +kernel
theorem dX8_hire_54 : decode cX8_hire 54 = .ok (.aload_n 0, 1) := by decide +kernel
theorem dX8_hire_55 : decode cX8_hire 55 = .ok (.getfield 40, 3) := by decide +kernel
theorem dX8_hire_58 : decode cX8_hire 58 = .ok (.invokevirtual 131, 3) := by decide +kernel
theorem dX8_hire_61 : decode cX8_hire 61 = .ok (.aload_n 0, 1) := by decide +kernel
theorem dX8_hire_62 : decode cX8_hire 62 = .ok (.getfield 40, 3) := by decide +kernel
theorem dX8_hire_65 : decode cX8_hire 65 = .ok (.iload_n 1, 1) := by decide +kernel
theorem dX8_hire_66 : decode cX8_hire 66 = .ok (.invokevirtual 145, 3) := by decide +kernel
theorem dX8_hire_69 : decode cX8_hire 69 = .ok (.lstore 4, 2) := by decide +kernel
theorem dX8_hire_71 : decode cX8_hire 71 = .ok (.aload_n 0, 1) := by decide +kernel
theorem dX8_hire_72 : decode cX8_hire 72 = .ok (.getfield 31, 3) := by decide +kernel
theorem dX8_hire_75 : decode cX8_hire 75 = .ok (.iload_n 2, 1) := by decide +kernel
theorem dX8_hire_76 : decode cX8_hire 76 = .ok (.invokevirtual 185, 3) := by decide +kernel
theorem dX8_hire_79 : decode cX8_hire 79 = .ok (.aload_n 0, 1) := by decide +kernel
theorem dX8_hire_80 : decode cX8_hire 80 = .ok (.getfield 40, 3) := by decide +kernel
theorem dX8_hire_83 : decode cX8_hire 83 = .ok (.invokevirtual 131, 3) := by decide +kernel
theorem dX8_hire_86 : decode cX8_hire 86 = .ok (.aload_n 0, 1) := by decide +kernel
theorem dX8_hire_87 : decode cX8_hire 87 = .ok (.lload 4, 2) := by decide +kernel
theorem dX8_hire_89 : decode cX8_hire 89 = .ok (.aload_n 0, 1) := by decide +kernel
theorem dX8_hire_90 : decode cX8_hire 90 = .ok (.getfield 40, 3) := by decide +kernel
theorem dX8_hire_93 : decode cX8_hire 93 = .ok (.iload_n 1, 1) := by decide +kernel
theorem dX8_hire_94 : decode cX8_hire 94 = .ok (.invokevirtual 145, 3) := by decide +kernel
theorem dX8_hire_97 : decode cX8_hire 97 = .ok (.lsub, 1) := by decide +kernel
theorem dX8_hire_98 : decode cX8_hire 98 = .ok (.invokevirtual 148, 3) := by decide +kernel
theorem dX8_hire_101 : decode cX8_hire 101 = .ok (.iload_n 3, 1) := by decide +kernel
theorem dX8_hire_102 : decode cX8_hire 102 = .ok (.invokevirtual 138, 3) := by decide +kernel
theorem dX8_hire_105 : decode cX8_hire 105 = .ok (.lreturn, 1) := by decide +kernel
theorem dX8_other_0 : decode cX8_other 0 = .ok (.aload_n 0, 1) := by decide +kernel
theorem dX8_other_1 : decode cX8_other 1 = .ok (.iload_n 1, 1) := by decide +kernel
theorem dX8_other_2 : decode cX8_other 2 = .ok (.invokevirtual 99, 3) := by decide +kernel
theorem dX8_other_5 : decode cX8_other 5 = .ok (.ifCond .eq 27, 3) := by decide +kernel
theorem dX8_other_8 : decode cX8_other 8 = .ok (.iload_n 2, 1) := by decide +kernel
theorem dX8_other_9 : decode cX8_other 9 = .ok (.iconst 2, 1) := by decide +kernel
theorem dX8_other_10 : decode cX8_other 10 = .ok (.invokestatic 81, 3) := by decide +kernel
theorem dX8_other_13 : decode cX8_other 13 = .ok (.ifCond .eq 19, 3) := by decide +kernel
theorem dX8_other_16 : decode cX8_other 16 = .ok (.iload_n 3, 1) := by decide +kernel
theorem dX8_other_17 : decode cX8_other 17 = .ok (.iconst 2, 1) := by decide +kernel
theorem dX8_other_18 : decode cX8_other 18 = .ok (.invokestatic 81, 3) := by decide +kernel
theorem dX8_other_21 : decode cX8_other 21 = .ok (.ifCond .eq 11, 3) := by decide +kernel
theorem dX8_other_24 : decode cX8_other 24 = .ok (.iload 4, 2) := by decide +kernel
theorem dX8_other_26 : decode cX8_other 26 = .ok (.invokestatic 124, 3) := by decide +kernel
theorem dX8_other_29 : decode cX8_other 29 = .ok (.ifCond .ne 9, 3) := by decide +kernel
theorem dX8_other_32 : decode cX8_other 32 = .ok (.bipush (-2), 2) := by decide +kernel
theorem dX8_other_34 : decode cX8_other 34 = .ok (.invokestatic 127, 3) := by decide +kernel
theorem dX8_other_37 : decode cX8_other 37 = .ok (.lreturn, 1) := by decide +kernel
theorem dX8_other_38 : decode cX8_other 38 = .ok (.aload_n 0, 1) := by decide +kernel
theorem dX8_other_39 : decode cX8_other 39 = .ok (.getfield 31, 3) := by decide +kernel
theorem dX8_other_42 : decode cX8_other 42 = .ok (.invokevirtual 114, 3) := by decide +kernel
theorem dX8_other_45 : decode cX8_other 45 = .ok (.aload_n 0, 1) := by decide +kernel
theorem dX8_other_46 : decode cX8_other 46 = .ok (.getfield 31, 3) := by decide +kernel
theorem dX8_other_49 : decode cX8_other 49 = .ok (.iload_n 2, 1) := by decide +kernel
theorem dX8_other_50 : decode cX8_other 50 = .ok (.putfield 188, 3) := by decide +kernel
theorem dX8_other_53 : decode cX8_other 53 = .ok (.aload_n 0, 1) := by decide +kernel
theorem dX8_other_54 : decode cX8_other 54 = .ok (.getfield 31, 3) := by decide +kernel
theorem dX8_other_57 : decode cX8_other 57 = .ok (.iload_n 3, 1) := by decide +kernel
theorem dX8_other_58 : decode cX8_other 58 = .ok (.putfield 191, 3) := by decide +kernel
theorem dX8_other_61 : decode cX8_other 61 = .ok (.aload_n 0, 1) := by decide +kernel
theorem dX8_other_62 : decode cX8_other 62 = .ok (.getfield 40, 3) := by decide +kernel
theorem dX8_other_65 : decode cX8_other 65 = .ok (.invokevirtual 131, 3) := by decide +kernel
theorem dX8_other_68 : decode cX8_other 68 = .ok (.aload_n 0, 1) := by decide +kernel
theorem dX8_other_69 : decode cX8_other 69 = .ok (.iload_n 1, 1) := by decide +kernel
theorem dX8_other_70 : decode cX8_other 70 = .ok (.invokevirtual 141, 3) := by decide +kernel
theorem dX8_other_73 : decode cX8_other 73 = .ok (.iload 4, 2) := by decide +kernel
theorem dX8_other_75 : decode cX8_other 75 = .ok (.invokevirtual 138, 3) := by decide +kernel
theorem dX8_other_78 : decode cX8_other 78 = .ok (.lreturn, 1) := by decide +kernel
theorem dX8_lawFor_0 : decode cX8_lawFor 0 = .ok (.aload_n 0, 1) := by decide +kernel
theorem dX8_lawFor_1 : decode cX8_lawFor 1 = .ok (.iload_n 1, 1) := by decide +kernel
theorem dX8_lawFor_2 : decode cX8_lawFor 2 = .ok (.invokevirtual 99, 3) := by decide +kernel
theorem dX8_lawFor_5 : decode cX8_lawFor 5 = .ok (.ifCond .ne 6, 3) := by decide +kernel
theorem dX8_lawFor_8 : decode cX8_lawFor 8 = .ok (.bipush (-2), 2) := by decide +kernel
theorem dX8_lawFor_10 : decode cX8_lawFor 10 = .ok (.ireturn, 1) := by decide +kernel
theorem dX8_lawFor_11 : decode cX8_lawFor 11 = .ok (.aload_n 0, 1) := by decide +kernel
theorem dX8_lawFor_12 : decode cX8_lawFor 12 = .ok (.getfield 49, 3) := by decide +kernel
theorem dX8_lawFor_15 : decode cX8_lawFor 15 = .ok (.iload_n 1, 1) := by decide +kernel
theorem dX8_lawFor_16 : decode cX8_lawFor 16 = .ok (.invokevirtual 194, 3) := by decide +kernel
theorem dX8_lawFor_19 : decode cX8_lawFor 19 = .ok (.ireturn, 1) := by decide +kernel
theorem dX8_edge_0 : decode cX8_edge 0 = .ok (.aload_n 0, 1) := by decide +kernel
theorem dX8_edge_1 : decode cX8_edge 1 = .ok (.iload_n 1, 1) := by decide +kernel
theorem dX8_edge_2 : decode cX8_edge 2 = .ok (.invokevirtual 99, 3) := by decide +kernel
theorem dX8_edge_5 : decode cX8_edge 5 = .ok (.ifCond .ne 6, 3) := by decide +kernel
theorem dX8_edge_8 : decode cX8_edge 8 = .ok (.bipush (-2), 2) := by decide +kernel
theorem dX8_edge_10 : decode cX8_edge 10 = .ok (.ireturn, 1) := by decide +kernel
theorem dX8_edge_11 : decode cX8_edge 11 = .ok (.aload_n 0, 1) := by decide +kernel
theorem dX8_edge_12 : decode cX8_edge 12 = .ok (.getfield 49, 3) := by decide +kernel
theorem dX8_edge_15 : decode cX8_edge 15 = .ok (.iload_n 1, 1) := by decide +kernel
theorem dX8_edge_16 : decode cX8_edge 16 = .ok (.invokevirtual 197, 3) := by decide +kernel
theorem dX8_edge_19 : decode cX8_edge 19 = .ok (.ireturn, 1) := by decide +kernel
theorem dX8_weight_0 : decode cX8_weight 0 = .ok (.iload_n 1, 1) := by decide +kernel
theorem dX8_weight_1 : decode cX8_weight 1 = .ok (.iconst 4, 1) := by decide +kernel
theorem dX8_weight_2 : decode cX8_weight 2 = .ok (.invokestatic 81, 3) := by decide +kernel
theorem dX8_weight_5 : decode cX8_weight 5 = .ok (.ifCond .eq 12, 3) := by decide +kernel
theorem dX8_weight_8 : decode cX8_weight 8 = .ok (.iload_n 2, 1) := by decide +kernel
theorem dX8_weight_9 : decode cX8_weight 9 = .ok (.bipush 9, 2) := by decide +kernel
theorem dX8_weight_11 : decode cX8_weight 11 = .ok (.invokestatic 81, 3) := by decide +kernel
theorem dX8_weight_14 : decode cX8_weight 14 = .ok (.ifCond .ne 6, 3) := by decide +kernel
theorem dX8_weight_17 : decode cX8_weight 17 = .ok (.bipush (-2), 2) := by decide +kernel
theorem dX8_weight_19 : decode cX8_weight 19 = .ok (.ireturn, 1) := by decide +kernel
theorem dX8_weight_20 : decode cX8_weight 20 = .ok (.aload_n 0, 1) := by decide +kernel
theorem dX8_weight_21 : decode cX8_weight 21 = .ok (.getfield 23, 3) := by decide +kernel
theorem dX8_weight_24 : decode cX8_weight 24 = .ok (.iload_n 1, 1) := by decide +kernel
theorem dX8_weight_25 : decode cX8_weight 25 = .ok (.iaload, 1) := by decide +kernel
theorem dX8_weight_26 : decode cX8_weight 26 = .ok (.istore_n 3, 1) := by decide +kernel
theorem dX8_weight_27 : decode cX8_weight 27 = .ok (.aload_n 0, 1) := by decide +kernel
theorem dX8_weight_28 : decode cX8_weight 28 = .ok (.getfield 23, 3) := by decide +kernel
theorem dX8_weight_31 : decode cX8_weight 31 = .ok (.iload_n 1, 1) := by decide +kernel
theorem dX8_weight_32 : decode cX8_weight 32 = .ok (.iload_n 2, 1) := by decide +kernel
theorem dX8_weight_33 : decode cX8_weight 33 = .ok (.iastore, 1) := by decide +kernel
theorem dX8_weight_34 : decode cX8_weight 34 = .ok (.iload_n 3, 1) := by decide +kernel
theorem dX8_weight_35 : decode cX8_weight 35 = .ok (.ireturn, 1) := by decide +kernel
theorem dX8_early_0 : decode cX8_early 0 = .ok (.aload_n 0, 1) := by decide +kernel
theorem dX8_early_1 : decode cX8_early 1 = .ok (.iload_n 1, 1) := by decide +kernel
theorem dX8_early_2 : decode cX8_early 2 = .ok (.invokevirtual 99, 3) := by decide +kernel
theorem dX8_early_5 : decode cX8_early 5 = .ok (.ifCond .eq 10, 3) := by decide +kernel
theorem dX8_early_8 : decode cX8_early 8 = .ok (.iload_n 2, 1) := by decide +kernel
theorem dX8_early_9 : decode cX8_early 9 = .ok (.invokestatic 124, 3) := by decide +kernel
theorem dX8_early_12 : decode cX8_early 12 = .ok (.ifCond .ne 9, 3) := by decide +kernel
theorem dX8_early_15 : decode cX8_early 15 = .ok (.bipush (-2), 2) := by decide +kernel
theorem dX8_early_17 : decode cX8_early 17 = .ok (.invokestatic 127, 3) := by decide +kernel
theorem dX8_early_20 : decode cX8_early 20 = .ok (.lreturn, 1) := by decide +kernel
theorem dX8_early_21 : decode cX8_early 21 = .ok (.aload_n 0, 1) := by decide +kernel
theorem dX8_early_22 : decode cX8_early 22 = .ok (.invokevirtual 200, 3) := by decide +kernel
theorem dX8_early_25 : decode cX8_early 25 = .ok (.istore_n 3, 1) := by decide +kernel
theorem dX8_early_26 : decode cX8_early 26 = .ok (.iload_n 3, 1) := by decide +kernel
theorem dX8_early_27 : decode cX8_early 27 = .ok (.ifCond .ne 9, 3) := by decide +kernel
theorem dX8_early_30 : decode cX8_early 30 = .ok (.bipush (-3), 2) := by decide +kernel
theorem dX8_early_32 : decode cX8_early 32 = .ok (.invokestatic 127, 3) := by decide +kernel
theorem dX8_early_35 : decode cX8_early 35 = .ok (.lreturn, 1) := by decide +kernel
theorem dX8_early_36 : decode cX8_early 36 = .ok (.aload_n 0, 1) := by decide +kernel
theorem dX8_early_37 : decode cX8_early 37 = .ok (.getfield 31, 3) := by decide +kernel
theorem dX8_early_40 : decode cX8_early 40 = .ok (.invokevirtual 114, 3) := by decide +kernel
theorem dX8_early_43 : decode cX8_early 43 = .ok (.aload_n 0, 1) := by decide +kernel
theorem dX8_early_44 : decode cX8_early 44 = .ok (.getfield 40, 3) := by decide +kernel
theorem dX8_early_47 : decode cX8_early 47 = .ok (.invokevirtual 131, 3) := by decide +kernel
theorem dX8_early_50 : decode cX8_early 50 = .ok (.lconst 0, 1) := by decide +kernel
theorem dX8_early_51 : decode cX8_early 51 = .ok (.lstore 4, 2) := by decide +kernel
theorem dX8_early_53 : decode cX8_early 53 = .ok (.iconst 0, 1) := by decide +kernel
theorem dX8_early_54 : decode cX8_early 54 = .ok (.istore 6, 2) := by decide +kernel
theorem dX8_early_56 : decode cX8_early 56 = .ok (.iload 6, 2) := by decide +kernel
theorem dX8_early_58 : decode cX8_early 58 = .ok (.iconst 4, 1) := by decide +kernel
theorem dX8_early_59 : decode cX8_early 59 = .ok (.if_icmp .gt 43, 3) := by decide +kernel
theorem dX8_early_62 : decode cX8_early 62 = .ok (.lload 4, 2) := by decide +kernel
theorem dX8_early_64 : decode cX8_early 64 = .ok (.aload_n 0, 1) := by decide +kernel
theorem dX8_early_65 : decode cX8_early 65 = .ok (.getfield 23, 3) := by decide +kernel
theorem dX8_early_68 : decode cX8_early 68 = .ok (.iload 6, 2) := by decide +kernel
theorem dX8_early_70 : decode cX8_early 70 = .ok (.iaload, 1) := by decide +kernel
theorem dX8_early_71 : decode cX8_early 71 = .ok (.i2l, 1) := by decide +kernel
theorem dX8_early_72 : decode cX8_early 72 = .ok (.aload_n 0, 1) := by decide +kernel
theorem dX8_early_73 : decode cX8_early 73 = .ok (.getfield 40, 3) := by decide +kernel
theorem dX8_early_76 : decode cX8_early 76 = .ok (.iload_n 1, 1) := by decide +kernel
theorem dX8_early_77 : decode cX8_early 77 = .ok (.iload 6, 2) := by decide +kernel
theorem dX8_early_79 : decode cX8_early 79 = .ok (.aload_n 0, 1) := by decide +kernel
theorem dX8_early_80 : decode cX8_early 80 = .ok (.getfield 12, 3) := by decide +kernel
theorem dX8_early_83 : decode cX8_early 83 = .ok (.getfield 121, 3) := by decide +kernel
theorem dX8_early_86 : decode cX8_early 86 = .ok (.invokestatic 204, 3) := by decide +kernel
theorem dX8_early_89 : decode cX8_early 89 = .ok (.invokevirtual 209, 3) := by decide +kernel
theorem dX8_early_92 : decode cX8_early 92 = .ok (.lmul, 1) := by decide +kernel
theorem dX8_early_93 : decode cX8_early 93 = .ok (.ladd, 1) := by decide +kernel
theorem dX8_early_94 : decode cX8_early 94 = .ok (.lstore 4, 2) := by decide +kernel
theorem dX8_early_96 : decode cX8_early 96 = .ok (.iinc 6 1, 3) := by decide +kernel
theorem dX8_early_99 : decode cX8_early 99 = .ok (.goto (-43), 3) := by decide +kernel
theorem dX8_early_102 : decode cX8_early 102 = .ok (.aload_n 0, 1) := by decide +kernel
theorem dX8_early_103 : decode cX8_early 103 = .ok (.getfield 63, 3) := by decide +kernel
theorem dX8_early_106 : decode cX8_early 106 = .ok (.lload 4, 2) := by decide +kernel
theorem dX8_early_108 : decode cX8_early 108 = .ok (.iload_n 3, 1) := by decide +kernel
theorem dX8_early_109 : decode cX8_early 109 = .ok (.i2l, 1) := by decide +kernel
theorem dX8_early_110 : decode cX8_early 110 = .ok (.aload_n 0, 1) := by decide +kernel
theorem dX8_early_111 : decode cX8_early 111 = .ok (.getfield 40, 3) := by decide +kernel
theorem dX8_early_114 : decode cX8_early 114 = .ok (.invokevirtual 213, 3) := by decide +kernel
theorem dX8_early_117 : decode cX8_early 117 = .ok (.lmul, 1) := by decide +kernel
theorem dX8_early_118 : decode cX8_early 118 = .ok (.invokevirtual 217, 3) := by decide +kernel
theorem dX8_early_121 : decode cX8_early 121 = .ok (.iload_n 2, 1) := by decide +kernel
theorem dX8_early_122 : decode cX8_early 122 = .ok (.invokevirtual 138, 3) := by decide +kernel
theorem dX8_early_125 : decode cX8_early 125 = .ok (.lreturn, 1) := by decide +kernel
theorem dX8_two_0 : decode cX8_two 0 = .ok (.iload_n 1, 1) := by decide +kernel
theorem dX8_two_1 : decode cX8_two 1 = .ok (.invokestatic 124, 3) := by decide +kernel
theorem dX8_two_4 : decode cX8_two 4 = .ok (.ifCond .ne 9, 3) := by decide +kernel
theorem dX8_two_7 : decode cX8_two 7 = .ok (.bipush (-2), 2) := by decide +kernel
theorem dX8_two_9 : decode cX8_two 9 = .ok (.invokestatic 127, 3) := by decide +kernel
theorem dX8_two_12 : decode cX8_two 12 = .ok (.lreturn, 1) := by decide +kernel
theorem dX8_two_13 : decode cX8_two 13 = .ok (.aload_n 0, 1) := by decide +kernel
theorem dX8_two_14 : decode cX8_two 14 = .ok (.getfield 12, 3) := by decide +kernel
theorem dX8_two_17 : decode cX8_two 17 = .ok (.getfield 182, 3) := by decide +kernel
theorem dX8_two_20 : decode cX8_two 20 = .ok (.iconst 2, 1) := by decide +kernel
theorem dX8_two_21 : decode cX8_two 21 = .ok (.if_icmp .eq 9, 3) := by decide +kernel
theorem dX8_two_24 : decode cX8_two 24 = .ok (.bipush (-3), 2) := by decide +kernel
theorem dX8_two_26 : decode cX8_two 26 = .ok (.invokestatic 127, 3) := by decide +kernel
theorem dX8_two_29 : decode cX8_two 29 = .ok (.lreturn, 1) := by decide +kernel
theorem dX8_two_30 : decode cX8_two 30 = .ok (.aload_n 0, 1) := by decide +kernel
theorem dX8_two_31 : decode cX8_two 31 = .ok (.getfield 31, 3) := by decide +kernel
theorem dX8_two_34 : decode cX8_two 34 = .ok (.invokevirtual 114, 3) := by decide +kernel
theorem dX8_two_37 : decode cX8_two 37 = .ok (.aload_n 0, 1) := by decide +kernel
theorem dX8_two_38 : decode cX8_two 38 = .ok (.getfield 40, 3) := by decide +kernel
theorem dX8_two_41 : decode cX8_two 41 = .ok (.iconst 0, 1) := by decide +kernel
theorem dX8_two_42 : decode cX8_two 42 = .ok (.iconst 1, 1) := by decide +kernel
theorem dX8_two_43 : decode cX8_two 43 = .ok (.invokevirtual 221, 3) := by decide +kernel
theorem dX8_two_46 : decode cX8_two 46 = .ok (.lstore_n 2, 1) := by decide +kernel
theorem dX8_two_47 : decode cX8_two 47 = .ok (.aload_n 0, 1) := by decide +kernel
theorem dX8_two_48 : decode cX8_two 48 = .ok (.getfield 40, 3) := by decide +kernel
theorem dX8_two_51 : decode cX8_two 51 = .ok (.iconst 1, 1) := by decide +kernel
theorem dX8_two_52 : decode cX8_two 52 = .ok (.iconst 0, 1) := by decide +kernel
theorem dX8_two_53 : decode cX8_two 53 = .ok (.invokevirtual 221, 3) := by decide +kernel
theorem dX8_two_56 : decode cX8_two 56 = .ok (.lstore 4, 2) := by decide +kernel
theorem dX8_two_58 : decode cX8_two 58 = .ok (.lload_n 2, 1) := by decide +kernel
theorem dX8_two_59 : decode cX8_two 59 = .ok (.lload 4, 2) := by decide +kernel
theorem dX8_two_61 : decode cX8_two 61 = .ok (.ladd, 1) := by decide +kernel
theorem dX8_two_62 : decode cX8_two 62 = .ok (.lconst 0, 1) := by decide +kernel
theorem dX8_two_63 : decode cX8_two 63 = .ok (.lcmp, 1) := by decide +kernel
theorem dX8_two_64 : decode cX8_two 64 = .ok (.ifCond .ne 9, 3) := by decide +kernel
theorem dX8_two_67 : decode cX8_two 67 = .ok (.bipush (-3), 2) := by decide +kernel
theorem dX8_two_69 : decode cX8_two 69 = .ok (.invokestatic 127, 3) := by decide +kernel
theorem dX8_two_72 : decode cX8_two 72 = .ok (.lreturn, 1) := by decide +kernel
theorem dX8_two_73 : decode cX8_two 73 = .ok (.aload_n 0, 1) := by decide +kernel
theorem dX8_two_74 : decode cX8_two 74 = .ok (.getfield 63, 3) := by decide +kernel
theorem dX8_two_77 : decode cX8_two 77 = .ok (.lload 4, 2) := by decide +kernel
theorem dX8_two_79 : decode cX8_two 79 = .ok (.lload_n 2, 1) := by decide +kernel
theorem dX8_two_80 : decode cX8_two 80 = .ok (.lload 4, 2) := by decide +kernel
theorem dX8_two_82 : decode cX8_two 82 = .ok (.ladd, 1) := by decide +kernel
theorem dX8_two_83 : decode cX8_two 83 = .ok (.invokevirtual 217, 3) := by decide +kernel
theorem dX8_two_86 : decode cX8_two 86 = .ok (.iload_n 1, 1) := by decide +kernel
theorem dX8_two_87 : decode cX8_two 87 = .ok (.invokevirtual 138, 3) := by decide +kernel
theorem dX8_two_90 : decode cX8_two 90 = .ok (.lreturn, 1) := by decide +kernel
theorem dX8_made_0 : decode cX8_made 0 = .ok (.aload_n 0, 1) := by decide +kernel
theorem dX8_made_1 : decode cX8_made 1 = .ok (.getfield 12, 3) := by decide +kernel
theorem dX8_made_4 : decode cX8_made 4 = .ok (.getfield 182, 3) := by decide +kernel
theorem dX8_made_7 : decode cX8_made 7 = .ok (.ifCond .ne 6, 3) := by decide +kernel
theorem dX8_made_10 : decode cX8_made 10 = .ok (.bipush (-3), 2) := by decide +kernel
theorem dX8_made_12 : decode cX8_made 12 = .ok (.ireturn, 1) := by decide +kernel
theorem dX8_made_13 : decode cX8_made 13 = .ok (.aload_n 0, 1) := by decide +kernel
theorem dX8_made_14 : decode cX8_made 14 = .ok (.getfield 31, 3) := by decide +kernel
theorem dX8_made_17 : decode cX8_made 17 = .ok (.invokevirtual 114, 3) := by decide +kernel
theorem dX8_made_20 : decode cX8_made 20 = .ok (.aload_n 0, 1) := by decide +kernel
theorem dX8_made_21 : decode cX8_made 21 = .ok (.getfield 56, 3) := by decide +kernel
theorem dX8_made_24 : decode cX8_made 24 = .ok (.iload_n 1, 1) := by decide +kernel
theorem dX8_made_25 : decode cX8_made 25 = .ok (.putfield 224, 3) := by decide +kernel
theorem dX8_made_28 : decode cX8_made 28 = .ok (.aload_n 0, 1) := by decide +kernel
theorem dX8_made_29 : decode cX8_made 29 = .ok (.getfield 56, 3) := by decide +kernel
theorem dX8_made_32 : decode cX8_made 32 = .ok (.aload_n 0, 1) := by decide +kernel
theorem dX8_made_33 : decode cX8_made 33 = .ok (.getfield 31, 3) := by decide +kernel
theorem dX8_made_36 : decode cX8_made 36 = .ok (.invokevirtual 227, 3) := by decide +kernel
theorem dX8_made_39 : decode cX8_made 39 = .ok (.ireturn, 1) := by decide +kernel
theorem dX8_evenings_0 : decode cX8_evenings 0 = .ok (.aload_n 0, 1) := by decide +kernel
theorem dX8_evenings_1 : decode cX8_evenings 1 = .ok (.iload_n 3, 1) := by decide +kernel
theorem dX8_evenings_2 : decode cX8_evenings 2 = .ok (.invokevirtual 99, 3) := by decide +kernel
theorem dX8_evenings_5 : decode cX8_evenings 5 = .ok (.ifCond .eq 15, 3) := by decide +kernel
theorem dX8_evenings_8 : decode cX8_evenings 8 = .ok (.iload_n 2, 1) := by decide +kernel
theorem dX8_evenings_9 : decode cX8_evenings 9 = .ok (.iconst 1, 1) := by decide +kernel
theorem dX8_evenings_10 : decode cX8_evenings 10 = .ok (.if_icmp .lt 10, 3) := by decide +kernel
theorem dX8_evenings_13 : decode cX8_evenings 13 = .ok (.iload_n 2, 1) := by decide +kernel
theorem dX8_evenings_14 : decode cX8_evenings 14 = .ok (.sipush 200, 3) := by decide +kernel
theorem dX8_evenings_17 : decode cX8_evenings 17 = .ok (.if_icmp .le 6, 3) := by decide +kernel
theorem dX8_evenings_20 : decode cX8_evenings 20 = .ok (.bipush (-2), 2) := by decide +kernel
theorem dX8_evenings_22 : decode cX8_evenings 22 = .ok (.ireturn, 1) := by decide +kernel
theorem dX8_evenings_23 : decode cX8_evenings 23 = .ok (.aload_n 0, 1) := by decide +kernel
theorem dX8_evenings_24 : decode cX8_evenings 24 = .ok (.getfield 31, 3) := by decide +kernel
theorem dX8_evenings_27 : decode cX8_evenings 27 = .ok (.invokevirtual 114, 3) := by decide +kernel
theorem dX8_evenings_30 : decode cX8_evenings 30 = .ok (.aload_n 0, 1) := by decide +kernel
theorem dX8_evenings_31 : decode cX8_evenings 31 = .ok (.getfield 56, 3) := by decide +kernel
theorem dX8_evenings_34 : decode cX8_evenings 34 = .ok (.iload_n 1, 1) := by decide +kernel
theorem dX8_evenings_35 : decode cX8_evenings 35 = .ok (.putfield 224, 3) := by decide +kernel
theorem dX8_evenings_38 : decode cX8_evenings 38 = .ok (.iconst 0, 1) := by decide +kernel
theorem dX8_evenings_39 : decode cX8_evenings 39 = .ok (.istore 4, 2) := by decide +kernel
theorem dX8_evenings_41 : decode cX8_evenings 41 = .ok (.iconst 0, 1) := by decide +kernel
theorem dX8_evenings_42 : decode cX8_evenings 42 = .ok (.istore 5, 2) := by decide +kernel
theorem dX8_evenings_44 : decode cX8_evenings 44 = .ok (.iload 5, 2) := by decide +kernel
theorem dX8_evenings_46 : decode cX8_evenings 46 = .ok (.iload_n 2, 1) := by decide +kernel
theorem dX8_evenings_47 : decode cX8_evenings 47 = .ok (.if_icmp .ge 27, 3) := by decide +kernel
theorem dX8_evenings_50 : decode cX8_evenings 50 = .ok (.aload_n 0, 1) := by decide +kernel
theorem dX8_evenings_51 : decode cX8_evenings 51 = .ok (.getfield 56, 3) := by decide +kernel
theorem dX8_evenings_54 : decode cX8_evenings 54 = .ok (.aload_n 0, 1) := by decide +kernel
theorem dX8_evenings_55 : decode cX8_evenings 55 = .ok (.getfield 31, 3) := by decide +kernel
theorem dX8_evenings_58 : decode cX8_evenings 58 = .ok (.invokevirtual 227, 3) := by decide +kernel
theorem dX8_evenings_61 : decode cX8_evenings 61 = .ok (.iload_n 3, 1) := by decide +kernel
theorem dX8_evenings_62 : decode cX8_evenings 62 = .ok (.if_icmp .ne 6, 3) := by decide +kernel
theorem dX8_evenings_65 : decode cX8_evenings 65 = .ok (.iinc 4 1, 3) := by decide +kernel
theorem dX8_evenings_68 : decode cX8_evenings 68 = .ok (.iinc 5 1, 3) := by decide +kernel
theorem dX8_evenings_71 : decode cX8_evenings 71 = .ok (.goto (-27), 3) := by decide +kernel
theorem dX8_evenings_74 : decode cX8_evenings 74 = .ok (.iload 4, 2) := by decide +kernel
theorem dX8_evenings_76 : decode cX8_evenings 76 = .ok (.ireturn, 1) := by decide +kernel
theorem dX8_saw_0 : decode cX8_saw 0 = .ok (.iload_n 1, 1) := by decide +kernel
theorem dX8_saw_1 : decode cX8_saw 1 = .ok (.iconst 3, 1) := by decide +kernel
theorem dX8_saw_2 : decode cX8_saw 2 = .ok (.invokestatic 81, 3) := by decide +kernel
theorem dX8_saw_5 : decode cX8_saw 5 = .ok (.ifCond .eq 22, 3) := by decide +kernel
theorem dX8_saw_8 : decode cX8_saw 8 = .ok (.iload_n 2, 1) := by decide +kernel
theorem dX8_saw_9 : decode cX8_saw 9 = .ok (.iload_n 3, 1) := by decide +kernel
theorem dX8_saw_10 : decode cX8_saw 10 = .ok (.iload 5, 2) := by decide +kernel
theorem dX8_saw_12 : decode cX8_saw 12 = .ok (.invokestatic 231, 3) := by decide +kernel
theorem dX8_saw_15 : decode cX8_saw 15 = .ok (.ifCond .eq 12, 3) := by decide +kernel
theorem dX8_saw_18 : decode cX8_saw 18 = .ok (.iload 4, 2) := by decide +kernel
theorem dX8_saw_20 : decode cX8_saw 20 = .ok (.iconst 1, 1) := by decide +kernel
theorem dX8_saw_21 : decode cX8_saw 21 = .ok (.invokestatic 81, 3) := by decide +kernel
theorem dX8_saw_24 : decode cX8_saw 24 = .ok (.ifCond .ne 6, 3) := by decide +kernel
theorem dX8_saw_27 : decode cX8_saw 27 = .ok (.bipush (-2), 2) := by decide +kernel
theorem dX8_saw_29 : decode cX8_saw 29 = .ok (.ireturn, 1) := by decide +kernel
theorem dX8_saw_30 : decode cX8_saw 30 = .ok (.aload_n 0, 1) := by decide +kernel
theorem dX8_saw_31 : decode cX8_saw 31 = .ok (.getfield 70, 3) := by decide +kernel
theorem dX8_saw_34 : decode cX8_saw 34 = .ok (.iload_n 1, 1) := by decide +kernel
theorem dX8_saw_35 : decode cX8_saw 35 = .ok (.iload_n 2, 1) := by decide +kernel
theorem dX8_saw_36 : decode cX8_saw 36 = .ok (.iload_n 3, 1) := by decide +kernel
theorem dX8_saw_37 : decode cX8_saw 37 = .ok (.iload 4, 2) := by decide +kernel
theorem dX8_saw_39 : decode cX8_saw 39 = .ok (.iload 5, 2) := by decide +kernel
theorem dX8_saw_41 : decode cX8_saw 41 = .ok (.invokevirtual 235, 3) := by decide +kernel
theorem dX8_saw_44 : decode cX8_saw 44 = .ok (.ifCond .eq 13, 3) := by decide +kernel
theorem dX8_saw_47 : decode cX8_saw 47 = .ok (.aload_n 0, 1) := by decide +kernel
theorem dX8_saw_48 : decode cX8_saw 48 = .ok (.getfield 70, 3) := by decide +kernel
theorem dX8_saw_51 : decode cX8_saw 51 = .ok (.getfield 239, 3) := by decide +kernel
theorem dX8_saw_54 : decode cX8_saw 54 = .ok (.goto 5, 3) := by decide +kernel
theorem dX8_saw_57 : decode cX8_saw 57 = .ok (.bipush (-4), 2) := by decide +kernel
theorem dX8_saw_59 : decode cX8_saw 59 = .ok (.ireturn, 1) := by decide +kernel
theorem dX8_read_0 : decode cX8_read 0 = .ok (.iload_n 1, 1) := by decide +kernel
theorem dX8_read_1 : decode cX8_read 1 = .ok (.invokestatic 242, 3) := by decide +kernel
theorem dX8_read_4 : decode cX8_read 4 = .ok (.ifCond .eq 11, 3) := by decide +kernel
theorem dX8_read_7 : decode cX8_read 7 = .ok (.iload_n 2, 1) := by decide +kernel
theorem dX8_read_8 : decode cX8_read 8 = .ok (.iconst 3, 1) := by decide +kernel
theorem dX8_read_9 : decode cX8_read 9 = .ok (.invokestatic 81, 3) := by decide +kernel
theorem dX8_read_12 : decode cX8_read 12 = .ok (.ifCond .ne 6, 3) := by decide +kernel
theorem dX8_read_15 : decode cX8_read 15 = .ok (.bipush (-2), 2) := by decide +kernel
theorem dX8_read_17 : decode cX8_read 17 = .ok (.ireturn, 1) := by decide +kernel
theorem dX8_read_18 : decode cX8_read 18 = .ok (.aload_n 0, 1) := by decide +kernel
theorem dX8_read_19 : decode cX8_read 19 = .ok (.getfield 77, 3) := by decide +kernel
theorem dX8_read_22 : decode cX8_read 22 = .ok (.iload_n 1, 1) := by decide +kernel
theorem dX8_read_23 : decode cX8_read 23 = .ok (.invokevirtual 245, 3) := by decide +kernel
theorem dX8_read_26 : decode cX8_read 26 = .ok (.ifCond .eq 12, 3) := by decide +kernel
theorem dX8_read_29 : decode cX8_read 29 = .ok (.aload_n 0, 1) := by decide +kernel
theorem dX8_read_30 : decode cX8_read 30 = .ok (.getfield 77, 3) := by decide +kernel
theorem dX8_read_33 : decode cX8_read 33 = .ok (.iconst 1, 1) := by decide +kernel
theorem dX8_read_34 : decode cX8_read 34 = .ok (.invokevirtual 248, 3) := by decide +kernel
theorem dX8_read_37 : decode cX8_read 37 = .ok (.ireturn, 1) := by decide +kernel
theorem dX8_read_38 : decode cX8_read 38 = .ok (.iconst 0, 1) := by decide +kernel
theorem dX8_read_39 : decode cX8_read 39 = .ok (.istore_n 3, 1) := by decide +kernel
theorem dX8_read_40 : decode cX8_read 40 = .ok (.iconst 0, 1) := by decide +kernel
theorem dX8_read_41 : decode cX8_read 41 = .ok (.istore 4, 2) := by decide +kernel
theorem dX8_read_43 : decode cX8_read 43 = .ok (.iload 4, 2) := by decide +kernel
theorem dX8_read_45 : decode cX8_read 45 = .ok (.iconst 3, 1) := by decide +kernel
theorem dX8_read_46 : decode cX8_read 46 = .ok (.iadd, 1) := by decide +kernel
theorem dX8_read_47 : decode cX8_read 47 = .ok (.aload_n 0, 1) := by decide +kernel
theorem dX8_read_48 : decode cX8_read 48 = .ok (.getfield 77, 3) := by decide +kernel
theorem dX8_read_51 : decode cX8_read 51 = .ok (.getfield 251, 3) := by decide +kernel
theorem dX8_read_54 : decode cX8_read 54 = .ok (.iload_n 1, 1) := by decide +kernel
theorem dX8_read_55 : decode cX8_read 55 = .ok (.iaload, 1) := by decide +kernel
theorem dX8_read_56 : decode cX8_read 56 = .ok (.if_icmp .gt 84, 3) := by decide +kernel
theorem dX8_read_59 : decode cX8_read 59 = .ok (.aload_n 0, 1) := by decide +kernel
theorem dX8_read_60 : decode cX8_read 60 = .ok (.getfield 77, 3) := by decide +kernel
theorem dX8_read_63 : decode cX8_read 63 = .ok (.iload_n 1, 1) := by decide +kernel
theorem dX8_read_64 : decode cX8_read 64 = .ok (.iload 4, 2) := by decide +kernel
theorem dX8_read_66 : decode cX8_read 66 = .ok (.invokevirtual 254, 3) := by decide +kernel
theorem dX8_read_69 : decode cX8_read 69 = .ok (.istore 5, 2) := by decide +kernel
theorem dX8_read_71 : decode cX8_read 71 = .ok (.aload_n 0, 1) := by decide +kernel
theorem dX8_read_72 : decode cX8_read 72 = .ok (.getfield 77, 3) := by decide +kernel
theorem dX8_read_75 : decode cX8_read 75 = .ok (.iload_n 1, 1) := by decide +kernel
theorem dX8_read_76 : decode cX8_read 76 = .ok (.iload 4, 2) := by decide +kernel
theorem dX8_read_78 : decode cX8_read 78 = .ok (.iconst 1, 1) := by decide +kernel
theorem dX8_read_79 : decode cX8_read 79 = .ok (.iadd, 1) := by decide +kernel
theorem dX8_read_80 : decode cX8_read 80 = .ok (.invokevirtual 254, 3) := by decide +kernel
theorem dX8_read_83 : decode cX8_read 83 = .ok (.istore 6, 2) := by decide +kernel
theorem dX8_read_85 : decode cX8_read 85 = .ok (.aload_n 0, 1) := by decide +kernel
theorem dX8_read_86 : decode cX8_read 86 = .ok (.getfield 77, 3) := by decide +kernel
theorem dX8_read_89 : decode cX8_read 89 = .ok (.iload_n 1, 1) := by decide +kernel
theorem dX8_read_90 : decode cX8_read 90 = .ok (.iload 4, 2) := by decide +kernel
theorem dX8_read_92 : decode cX8_read 92 = .ok (.iconst 2, 1) := by decide +kernel
theorem dX8_read_93 : decode cX8_read 93 = .ok (.iadd, 1) := by decide +kernel
theorem dX8_read_94 : decode cX8_read 94 = .ok (.invokevirtual 254, 3) := by decide +kernel
theorem dX8_read_97 : decode cX8_read 97 = .ok (.istore 7, 2) := by decide +kernel
theorem dX8_read_99 : decode cX8_read 99 = .ok (.iload 5, 2) := by decide +kernel
theorem dX8_read_101 : decode cX8_read 101 = .ok (.iload 6, 2) := by decide +kernel
theorem dX8_read_103 : decode cX8_read 103 = .ok (.iload 7, 2) := by decide +kernel
theorem dX8_read_105 : decode cX8_read 105 = .ok (.invokestatic 231, 3) := by decide +kernel
theorem dX8_read_108 : decode cX8_read 108 = .ok (.ifCond .eq 21, 3) := by decide +kernel
theorem dX8_read_111 : decode cX8_read 111 = .ok (.aload_n 0, 1) := by decide +kernel
theorem dX8_read_112 : decode cX8_read 112 = .ok (.getfield 70, 3) := by decide +kernel
theorem dX8_read_115 : decode cX8_read 115 = .ok (.iload_n 2, 1) := by decide +kernel
theorem dX8_read_116 : decode cX8_read 116 = .ok (.iload 5, 2) := by decide +kernel
theorem dX8_read_118 : decode cX8_read 118 = .ok (.iload 6, 2) := by decide +kernel
theorem dX8_read_120 : decode cX8_read 120 = .ok (.iconst 0, 1) := by decide +kernel
theorem dX8_read_121 : decode cX8_read 121 = .ok (.iload 7, 2) := by decide +kernel
theorem dX8_read_123 : decode cX8_read 123 = .ok (.invokevirtual 235, 3) := by decide +kernel
theorem dX8_read_126 : decode cX8_read 126 = .ok (.ifCond .ne 5, 3) := by decide +kernel
theorem dX8_read_129 : decode cX8_read 129 = .ok (.iload_n 3, 1) := by decide +kernel
theorem dX8_read_130 : decode cX8_read 130 = .ok (.ireturn, 1) := by decide +kernel
theorem dX8_read_131 : decode cX8_read 131 = .ok (.iinc 3 1, 3) := by decide +kernel
theorem dX8_read_134 : decode cX8_read 134 = .ok (.iinc 4 3, 3) := by decide +kernel
theorem dX8_read_137 : decode cX8_read 137 = .ok (.goto (-94), 3) := by decide +kernel
theorem dX8_read_140 : decode cX8_read 140 = .ok (.iload_n 3, 1) := by decide +kernel
theorem dX8_read_141 : decode cX8_read 141 = .ok (.ireturn, 1) := by decide +kernel
theorem dX8_off_0 : decode cX8_off 0 = .ok (.iload_n 1, 1) := by decide +kernel
theorem dX8_off_1 : decode cX8_off 1 = .ok (.iconst 3, 1) := by decide +kernel
theorem dX8_off_2 : decode cX8_off 2 = .ok (.invokestatic 81, 3) := by decide +kernel
theorem dX8_off_5 : decode cX8_off 5 = .ok (.ifCond .eq 12, 3) := by decide +kernel
theorem dX8_off_8 : decode cX8_off 8 = .ok (.iload_n 2, 1) := by decide +kernel
theorem dX8_off_9 : decode cX8_off 9 = .ok (.bipush 9, 2) := by decide +kernel
theorem dX8_off_11 : decode cX8_off 11 = .ok (.invokestatic 81, 3) := by decide +kernel
theorem dX8_off_14 : decode cX8_off 14 = .ok (.ifCond .ne 6, 3) := by decide +kernel
theorem dX8_off_17 : decode cX8_off 17 = .ok (.bipush (-2), 2) := by decide +kernel
theorem dX8_off_19 : decode cX8_off 19 = .ok (.ireturn, 1) := by decide +kernel
theorem dX8_off_20 : decode cX8_off 20 = .ok (.aload_n 0, 1) := by decide +kernel
theorem dX8_off_21 : decode cX8_off 21 = .ok (.getfield 70, 3) := by decide +kernel
theorem dX8_off_24 : decode cX8_off 24 = .ok (.iload_n 1, 1) := by decide +kernel
theorem dX8_off_25 : decode cX8_off 25 = .ok (.iload_n 2, 1) := by decide +kernel
theorem dX8_off_26 : decode cX8_off 26 = .ok (.invokevirtual 257, 3) := by decide +kernel
theorem dX8_off_29 : decode cX8_off 29 = .ok (.ireturn, 1) := by decide +kernel
theorem dX8_guess_0 : decode cX8_guess 0 = .ok (.iload_n 1, 1) := by decide +kernel
theorem dX8_guess_1 : decode cX8_guess 1 = .ok (.iconst 3, 1) := by decide +kernel
theorem dX8_guess_2 : decode cX8_guess 2 = .ok (.invokestatic 81, 3) := by decide +kernel
theorem dX8_guess_5 : decode cX8_guess 5 = .ok (.ifCond .ne 6, 3) := by decide +kernel
theorem dX8_guess_8 : decode cX8_guess 8 = .ok (.bipush (-2), 2) := by decide +kernel
theorem dX8_guess_10 : decode cX8_guess 10 = .ok (.ireturn, 1) := by decide +kernel
theorem dX8_guess_11 : decode cX8_guess 11 = .ok (.aload_n 0, 1) := by decide +kernel
theorem dX8_guess_12 : decode cX8_guess 12 = .ok (.getfield 70, 3) := by decide +kernel
theorem dX8_guess_15 : decode cX8_guess 15 = .ok (.iload_n 1, 1) := by decide +kernel
theorem dX8_guess_16 : decode cX8_guess 16 = .ok (.invokevirtual 260, 3) := by decide +kernel
theorem dX8_guess_19 : decode cX8_guess 19 = .ok (.ireturn, 1) := by decide +kernel
theorem dX8_laughs_0 : decode cX8_laughs 0 = .ok (.iload_n 1, 1) := by decide +kernel
theorem dX8_laughs_1 : decode cX8_laughs 1 = .ok (.iconst 3, 1) := by decide +kernel
theorem dX8_laughs_2 : decode cX8_laughs 2 = .ok (.invokestatic 81, 3) := by decide +kernel
theorem dX8_laughs_5 : decode cX8_laughs 5 = .ok (.ifCond .eq 19, 3) := by decide +kernel
theorem dX8_laughs_8 : decode cX8_laughs 8 = .ok (.iload_n 2, 1) := by decide +kernel
theorem dX8_laughs_9 : decode cX8_laughs 9 = .ok (.bipush 9, 2) := by decide +kernel
theorem dX8_laughs_11 : decode cX8_laughs 11 = .ok (.invokestatic 81, 3) := by decide +kernel
theorem dX8_laughs_14 : decode cX8_laughs 14 = .ok (.ifCond .eq 10, 3) := by decide +kernel
theorem dX8_laughs_17 : decode cX8_laughs 17 = .ok (.iload_n 3, 1) := by decide +kernel
theorem dX8_laughs_18 : decode cX8_laughs 18 = .ok (.invokestatic 124, 3) := by decide +kernel
theorem dX8_laughs_21 : decode cX8_laughs 21 = .ok (.ifCond .ne 6, 3) := by decide +kernel
theorem dX8_laughs_24 : decode cX8_laughs 24 = .ok (.bipush (-2), 2) := by decide +kernel
theorem dX8_laughs_26 : decode cX8_laughs 26 = .ok (.ireturn, 1) := by decide +kernel
theorem dX8_laughs_27 : decode cX8_laughs 27 = .ok (.aload_n 0, 1) := by decide +kernel
theorem dX8_laughs_28 : decode cX8_laughs 28 = .ok (.getfield 70, 3) := by decide +kernel
theorem dX8_laughs_31 : decode cX8_laughs 31 = .ok (.iload_n 1, 1) := by decide +kernel
theorem dX8_laughs_32 : decode cX8_laughs 32 = .ok (.iload_n 2, 1) := by decide +kernel
theorem dX8_laughs_33 : decode cX8_laughs 33 = .ok (.iload_n 3, 1) := by decide +kernel
theorem dX8_laughs_34 : decode cX8_laughs 34 = .ok (.iconst 1, 1) := by decide +kernel
theorem dX8_laughs_35 : decode cX8_laughs 35 = .ok (.if_icmp .ne 7, 3) := by decide +kernel
theorem dX8_laughs_38 : decode cX8_laughs 38 = .ok (.iconst 1, 1) := by decide +kernel
theorem dX8_laughs_39 : decode cX8_laughs 39 = .ok (.goto 4, 3) := by decide +kernel
theorem dX8_laughs_42 : decode cX8_laughs 42 = .ok (.iconst 0, 1) := by decide +kernel
theorem dX8_laughs_43 : decode cX8_laughs 43 = .ok (.invokevirtual 263, 3) := by decide +kernel
theorem dX8_laughs_46 : decode cX8_laughs 46 = .ok (.ireturn, 1) := by decide +kernel
theorem dX8_sheet_0 : decode cX8_sheet 0 = .ok (.iload_n 1, 1) := by decide +kernel
theorem dX8_sheet_1 : decode cX8_sheet 1 = .ok (.invokestatic 242, 3) := by decide +kernel
theorem dX8_sheet_4 : decode cX8_sheet 4 = .ok (.ifCond .eq 16, 3) := by decide +kernel
theorem dX8_sheet_7 : decode cX8_sheet 7 = .ok (.iload_n 2, 1) := by decide +kernel
theorem dX8_sheet_8 : decode cX8_sheet 8 = .ok (.invokestatic 267, 3) := by decide +kernel
theorem dX8_sheet_11 : decode cX8_sheet 11 = .ok (.ifCond .eq 9, 3) := by decide +kernel
theorem dX8_sheet_14 : decode cX8_sheet 14 = .ok (.iload_n 3, 1) := by decide +kernel
theorem dX8_sheet_15 : decode cX8_sheet 15 = .ok (.bipush 60, 2) := by decide +kernel
theorem dX8_sheet_17 : decode cX8_sheet 17 = .ok (.if_icmp .le 6, 3) := by decide +kernel
theorem dX8_sheet_20 : decode cX8_sheet 20 = .ok (.bipush (-2), 2) := by decide +kernel
theorem dX8_sheet_22 : decode cX8_sheet 22 = .ok (.ireturn, 1) := by decide +kernel
theorem dX8_sheet_23 : decode cX8_sheet 23 = .ok (.iload_n 3, 1) := by decide +kernel
theorem dX8_sheet_24 : decode cX8_sheet 24 = .ok (.ifCond .ge 12, 3) := by decide +kernel
theorem dX8_sheet_27 : decode cX8_sheet 27 = .ok (.aload_n 0, 1) := by decide +kernel
theorem dX8_sheet_28 : decode cX8_sheet 28 = .ok (.getfield 77, 3) := by decide +kernel
theorem dX8_sheet_31 : decode cX8_sheet 31 = .ok (.iconst 5, 1) := by decide +kernel
theorem dX8_sheet_32 : decode cX8_sheet 32 = .ok (.invokevirtual 248, 3) := by decide +kernel
theorem dX8_sheet_35 : decode cX8_sheet 35 = .ok (.ireturn, 1) := by decide +kernel
theorem dX8_sheet_36 : decode cX8_sheet 36 = .ok (.aload_n 0, 1) := by decide +kernel
theorem dX8_sheet_37 : decode cX8_sheet 37 = .ok (.getfield 77, 3) := by decide +kernel
theorem dX8_sheet_40 : decode cX8_sheet 40 = .ok (.iload_n 1, 1) := by decide +kernel
theorem dX8_sheet_41 : decode cX8_sheet 41 = .ok (.iload_n 2, 1) := by decide +kernel
theorem dX8_sheet_42 : decode cX8_sheet 42 = .ok (.iload_n 3, 1) := by decide +kernel
theorem dX8_sheet_43 : decode cX8_sheet 43 = .ok (.invokevirtual 270, 3) := by decide +kernel
theorem dX8_sheet_46 : decode cX8_sheet 46 = .ok (.iload_n 3, 1) := by decide +kernel
theorem dX8_sheet_47 : decode cX8_sheet 47 = .ok (.ireturn, 1) := by decide +kernel
theorem dX8_lose_0 : decode cX8_lose 0 = .ok (.iload_n 1, 1) := by decide +kernel
theorem dX8_lose_1 : decode cX8_lose 1 = .ok (.invokestatic 242, 3) := by decide +kernel
theorem dX8_lose_4 : decode cX8_lose 4 = .ok (.ifCond .ne 6, 3) := by decide +kernel
theorem dX8_lose_7 : decode cX8_lose 7 = .ok (.bipush (-2), 2) := by decide +kernel
theorem dX8_lose_9 : decode cX8_lose 9 = .ok (.ireturn, 1) := by decide +kernel
theorem dX8_lose_10 : decode cX8_lose 10 = .ok (.aload_n 0, 1) := by decide +kernel
theorem dX8_lose_11 : decode cX8_lose 11 = .ok (.getfield 77, 3) := by decide +kernel
theorem dX8_lose_14 : decode cX8_lose 14 = .ok (.iload_n 1, 1) := by decide +kernel
theorem dX8_lose_15 : decode cX8_lose 15 = .ok (.invokevirtual 245, 3) := by decide +kernel
theorem dX8_lose_18 : decode cX8_lose 18 = .ok (.ifCond .eq 12, 3) := by decide +kernel
theorem dX8_lose_21 : decode cX8_lose 21 = .ok (.aload_n 0, 1) := by decide +kernel
theorem dX8_lose_22 : decode cX8_lose 22 = .ok (.getfield 77, 3) := by decide +kernel
theorem dX8_lose_25 : decode cX8_lose 25 = .ok (.iconst 1, 1) := by decide +kernel
theorem dX8_lose_26 : decode cX8_lose 26 = .ok (.invokevirtual 248, 3) := by decide +kernel
theorem dX8_lose_29 : decode cX8_lose 29 = .ok (.ireturn, 1) := by decide +kernel
theorem dX8_lose_30 : decode cX8_lose 30 = .ok (.aload_n 0, 1) := by decide +kernel
theorem dX8_lose_31 : decode cX8_lose 31 = .ok (.getfield 77, 3) := by decide +kernel
theorem dX8_lose_34 : decode cX8_lose 34 = .ok (.iload_n 1, 1) := by decide +kernel
theorem dX8_lose_35 : decode cX8_lose 35 = .ok (.invokevirtual 274, 3) := by decide +kernel
theorem dX8_lose_38 : decode cX8_lose 38 = .ok (.ireturn, 1) := by decide +kernel
theorem dX8_lay_0 : decode cX8_lay 0 = .ok (.iload_n 1, 1) := by decide +kernel
theorem dX8_lay_1 : decode cX8_lay 1 = .ok (.invokestatic 242, 3) := by decide +kernel
theorem dX8_lay_4 : decode cX8_lay 4 = .ok (.ifCond .eq 10, 3) := by decide +kernel
theorem dX8_lay_7 : decode cX8_lay 7 = .ok (.iload_n 2, 1) := by decide +kernel
theorem dX8_lay_8 : decode cX8_lay 8 = .ok (.invokestatic 267, 3) := by decide +kernel
theorem dX8_lay_11 : decode cX8_lay 11 = .ok (.ifCond .ne 6, 3) := by decide +kernel
theorem dX8_lay_14 : decode cX8_lay 14 = .ok (.bipush (-2), 2) := by decide +kernel
theorem dX8_lay_16 : decode cX8_lay 16 = .ok (.ireturn, 1) := by decide +kernel
theorem dX8_lay_17 : decode cX8_lay 17 = .ok (.aload_n 0, 1) := by decide +kernel
theorem dX8_lay_18 : decode cX8_lay 18 = .ok (.getfield 77, 3) := by decide +kernel
theorem dX8_lay_21 : decode cX8_lay 21 = .ok (.iload_n 1, 1) := by decide +kernel
theorem dX8_lay_22 : decode cX8_lay 22 = .ok (.iload_n 2, 1) := by decide +kernel
theorem dX8_lay_23 : decode cX8_lay 23 = .ok (.iload_n 3, 1) := by decide +kernel
theorem dX8_lay_24 : decode cX8_lay 24 = .ok (.invokevirtual 277, 3) := by decide +kernel
theorem dX8_lay_27 : decode cX8_lay 27 = .ok (.istore 5, 2) := by decide +kernel
theorem dX8_lay_29 : decode cX8_lay 29 = .ok (.iload 5, 2) := by decide +kernel
theorem dX8_lay_31 : decode cX8_lay 31 = .ok (.ifCond .eq 13, 3) := by decide +kernel
theorem dX8_lay_34 : decode cX8_lay 34 = .ok (.aload_n 0, 1) := by decide +kernel
theorem dX8_lay_35 : decode cX8_lay 35 = .ok (.getfield 77, 3) := by decide +kernel
theorem dX8_lay_38 : decode cX8_lay 38 = .ok (.iload 5, 2) := by decide +kernel
theorem dX8_lay_40 : decode cX8_lay 40 = .ok (.invokevirtual 248, 3) := by decide +kernel
theorem dX8_lay_43 : decode cX8_lay 43 = .ok (.ireturn, 1) := by decide +kernel
theorem dX8_lay_44 : decode cX8_lay 44 = .ok (.aload_n 0, 1) := by decide +kernel
theorem dX8_lay_45 : decode cX8_lay 45 = .ok (.getfield 77, 3) := by decide +kernel
theorem dX8_lay_48 : decode cX8_lay 48 = .ok (.iload_n 1, 1) := by decide +kernel
theorem dX8_lay_49 : decode cX8_lay 49 = .ok (.iload_n 3, 1) := by decide +kernel
theorem dX8_lay_50 : decode cX8_lay 50 = .ok (.iload 4, 2) := by decide +kernel
theorem dX8_lay_52 : decode cX8_lay 52 = .ok (.invokevirtual 281, 3) := by decide +kernel
theorem dX8_lay_55 : decode cX8_lay 55 = .ok (.iconst 1, 1) := by decide +kernel
theorem dX8_lay_56 : decode cX8_lay 56 = .ok (.ireturn, 1) := by decide +kernel
theorem dX8_get_0 : decode cX8_get 0 = .ok (.iload_n 1, 1) := by decide +kernel
theorem dX8_get_1 : decode cX8_get 1 = .ok (.invokestatic 242, 3) := by decide +kernel
theorem dX8_get_4 : decode cX8_get 4 = .ok (.ifCond .eq 10, 3) := by decide +kernel
theorem dX8_get_7 : decode cX8_get 7 = .ok (.iload_n 2, 1) := by decide +kernel
theorem dX8_get_8 : decode cX8_get 8 = .ok (.invokestatic 267, 3) := by decide +kernel
theorem dX8_get_11 : decode cX8_get 11 = .ok (.ifCond .ne 7, 3) := by decide +kernel
theorem dX8_get_14 : decode cX8_get 14 = .ok (.ldc_w 283, 3) := by decide +kernel
theorem dX8_get_17 : decode cX8_get 17 = .ok (.ireturn, 1) := by decide +kernel
theorem dX8_get_18 : decode cX8_get 18 = .ok (.aload_n 0, 1) := by decide +kernel
theorem dX8_get_19 : decode cX8_get 19 = .ok (.getfield 77, 3) := by decide +kernel
theorem dX8_get_22 : decode cX8_get 22 = .ok (.iload_n 1, 1) := by decide +kernel
theorem dX8_get_23 : decode cX8_get 23 = .ok (.iload_n 2, 1) := by decide +kernel
theorem dX8_get_24 : decode cX8_get 24 = .ok (.iload_n 3, 1) := by decide +kernel
theorem dX8_get_25 : decode cX8_get 25 = .ok (.invokevirtual 277, 3) := by decide +kernel
theorem dX8_get_28 : decode cX8_get 28 = .ok (.istore 4, 2) := by decide +kernel
theorem dX8_get_30 : decode cX8_get 30 = .ok (.iload 4, 2) := by decide +kernel
theorem dX8_get_32 : decode cX8_get 32 = .ok (.ifCond .eq 17, 3) := by decide +kernel
theorem dX8_get_35 : decode cX8_get 35 = .ok (.aload_n 0, 1) := by decide +kernel
theorem dX8_get_36 : decode cX8_get 36 = .ok (.getfield 77, 3) := by decide +kernel
theorem dX8_get_39 : decode cX8_get 39 = .ok (.iload 4, 2) := by decide +kernel
theorem dX8_get_41 : decode cX8_get 41 = .ok (.invokevirtual 248, 3) := by decide +kernel
theorem dX8_get_44 : decode cX8_get 44 = .ok (.pop, 1) := by decide +kernel
theorem dX8_get_45 : decode cX8_get 45 = .ok (.ldc_w 283, 3) := by decide +kernel
theorem dX8_get_48 : decode cX8_get 48 = .ok (.ireturn, 1) := by decide +kernel
theorem dX8_get_49 : decode cX8_get 49 = .ok (.aload_n 0, 1) := by decide +kernel
theorem dX8_get_50 : decode cX8_get 50 = .ok (.getfield 77, 3) := by decide +kernel
theorem dX8_get_53 : decode cX8_get 53 = .ok (.iload_n 1, 1) := by decide +kernel
theorem dX8_get_54 : decode cX8_get 54 = .ok (.iload_n 3, 1) := by decide +kernel
theorem dX8_get_55 : decode cX8_get 55 = .ok (.invokevirtual 254, 3) := by decide +kernel
theorem dX8_get_58 : decode cX8_get 58 = .ok (.ireturn, 1) := by decide +kernel
theorem dX8_copy_0 : decode cX8_copy 0 = .ok (.iload_n 1, 1) := by decide +kernel
theorem dX8_copy_1 : decode cX8_copy 1 = .ok (.invokestatic 242, 3) := by decide +kernel
theorem dX8_copy_4 : decode cX8_copy 4 = .ok (.ifCond .eq 10, 3) := by decide +kernel
theorem dX8_copy_7 : decode cX8_copy 7 = .ok (.iload_n 3, 1) := by decide +kernel
theorem dX8_copy_8 : decode cX8_copy 8 = .ok (.invokestatic 242, 3) := by decide +kernel
theorem dX8_copy_11 : decode cX8_copy 11 = .ok (.ifCond .ne 6, 3) := by decide +kernel
theorem dX8_copy_14 : decode cX8_copy 14 = .ok (.bipush (-2), 2) := by decide +kernel
theorem dX8_copy_16 : decode cX8_copy 16 = .ok (.ireturn, 1) := by decide +kernel
theorem dX8_copy_17 : decode cX8_copy 17 = .ok (.aload_n 0, 1) := by decide +kernel
theorem dX8_copy_18 : decode cX8_copy 18 = .ok (.getfield 77, 3) := by decide +kernel
theorem dX8_copy_21 : decode cX8_copy 21 = .ok (.iload_n 1, 1) := by decide +kernel
theorem dX8_copy_22 : decode cX8_copy 22 = .ok (.invokevirtual 245, 3) := by decide +kernel
theorem dX8_copy_25 : decode cX8_copy 25 = .ok (.ifCond .ne 14, 3) := by decide +kernel
theorem dX8_copy_28 : decode cX8_copy 28 = .ok (.aload_n 0, 1) := by decide +kernel
theorem dX8_copy_29 : decode cX8_copy 29 = .ok (.getfield 77, 3) := by decide +kernel
theorem dX8_copy_32 : decode cX8_copy 32 = .ok (.iload_n 3, 1) := by decide +kernel
theorem dX8_copy_33 : decode cX8_copy 33 = .ok (.invokevirtual 245, 3) := by decide +kernel
theorem dX8_copy_36 : decode cX8_copy 36 = .ok (.ifCond .eq 12, 3) := by decide +kernel
theorem dX8_copy_39 : decode cX8_copy 39 = .ok (.aload_n 0, 1) := by decide +kernel
theorem dX8_copy_40 : decode cX8_copy 40 = .ok (.getfield 77, 3) := by decide +kernel
theorem dX8_copy_43 : decode cX8_copy 43 = .ok (.iconst 1, 1) := by decide +kernel
theorem dX8_copy_44 : decode cX8_copy 44 = .ok (.invokevirtual 248, 3) := by decide +kernel
theorem dX8_copy_47 : decode cX8_copy 47 = .ok (.ireturn, 1) := by decide +kernel
theorem dX8_copy_48 : decode cX8_copy 48 = .ok (.aload_n 0, 1) := by decide +kernel
theorem dX8_copy_49 : decode cX8_copy 49 = .ok (.getfield 77, 3) := by decide +kernel
theorem dX8_copy_52 : decode cX8_copy 52 = .ok (.getfield 284, 3) := by decide +kernel
theorem dX8_copy_55 : decode cX8_copy 55 = .ok (.iload_n 1, 1) := by decide +kernel
theorem dX8_copy_56 : decode cX8_copy 56 = .ok (.iaload, 1) := by decide +kernel
theorem dX8_copy_57 : decode cX8_copy 57 = .ok (.aload_n 0, 1) := by decide +kernel
theorem dX8_copy_58 : decode cX8_copy 58 = .ok (.getfield 77, 3) := by decide +kernel
theorem dX8_copy_61 : decode cX8_copy 61 = .ok (.getfield 284, 3) := by decide +kernel
theorem dX8_copy_64 : decode cX8_copy 64 = .ok (.iload_n 3, 1) := by decide +kernel
theorem dX8_copy_65 : decode cX8_copy 65 = .ok (.iaload, 1) := by decide +kernel
theorem dX8_copy_66 : decode cX8_copy 66 = .ok (.if_icmp .eq 12, 3) := by decide +kernel
theorem dX8_copy_69 : decode cX8_copy 69 = .ok (.aload_n 0, 1) := by decide +kernel
theorem dX8_copy_70 : decode cX8_copy 70 = .ok (.getfield 77, 3) := by decide +kernel
theorem dX8_copy_73 : decode cX8_copy 73 = .ok (.iconst 4, 1) := by decide +kernel
theorem dX8_copy_74 : decode cX8_copy 74 = .ok (.invokevirtual 248, 3) := by decide +kernel
theorem dX8_copy_77 : decode cX8_copy 77 = .ok (.ireturn, 1) := by decide +kernel
theorem dX8_copy_78 : decode cX8_copy 78 = .ok (.aload_n 0, 1) := by decide +kernel
theorem dX8_copy_79 : decode cX8_copy 79 = .ok (.getfield 77, 3) := by decide +kernel
theorem dX8_copy_82 : decode cX8_copy 82 = .ok (.iload_n 1, 1) := by decide +kernel
theorem dX8_copy_83 : decode cX8_copy 83 = .ok (.iload_n 2, 1) := by decide +kernel
theorem dX8_copy_84 : decode cX8_copy 84 = .ok (.iload 5, 2) := by decide +kernel
theorem dX8_copy_86 : decode cX8_copy 86 = .ok (.invokevirtual 287, 3) := by decide +kernel
theorem dX8_copy_89 : decode cX8_copy 89 = .ok (.ifCond .eq 18, 3) := by decide +kernel
theorem dX8_copy_92 : decode cX8_copy 92 = .ok (.aload_n 0, 1) := by decide +kernel
theorem dX8_copy_93 : decode cX8_copy 93 = .ok (.getfield 77, 3) := by decide +kernel
theorem dX8_copy_96 : decode cX8_copy 96 = .ok (.iload_n 3, 1) := by decide +kernel
theorem dX8_copy_97 : decode cX8_copy 97 = .ok (.iload 4, 2) := by decide +kernel
theorem dX8_copy_99 : decode cX8_copy 99 = .ok (.iload 5, 2) := by decide +kernel
theorem dX8_copy_101 : decode cX8_copy 101 = .ok (.invokevirtual 287, 3) := by decide +kernel
theorem dX8_copy_104 : decode cX8_copy 104 = .ok (.ifCond .ne 12, 3) := by decide +kernel
theorem dX8_copy_107 : decode cX8_copy 107 = .ok (.aload_n 0, 1) := by decide +kernel
theorem dX8_copy_108 : decode cX8_copy 108 = .ok (.getfield 77, 3) := by decide +kernel
theorem dX8_copy_111 : decode cX8_copy 111 = .ok (.iconst 2, 1) := by decide +kernel
theorem dX8_copy_112 : decode cX8_copy 112 = .ok (.invokevirtual 248, 3) := by decide +kernel
theorem dX8_copy_115 : decode cX8_copy 115 = .ok (.ireturn, 1) := by decide +kernel
theorem dX8_copy_116 : decode cX8_copy 116 = .ok (.aload_n 0, 1) := by decide +kernel
theorem dX8_copy_117 : decode cX8_copy 117 = .ok (.getfield 77, 3) := by decide +kernel
theorem dX8_copy_120 : decode cX8_copy 120 = .ok (.iload_n 1, 1) := by decide +kernel
theorem dX8_copy_121 : decode cX8_copy 121 = .ok (.iload_n 2, 1) := by decide +kernel
theorem dX8_copy_122 : decode cX8_copy 122 = .ok (.iload_n 3, 1) := by decide +kernel
theorem dX8_copy_123 : decode cX8_copy 123 = .ok (.iload 4, 2) := by decide +kernel
theorem dX8_copy_125 : decode cX8_copy 125 = .ok (.iload 5, 2) := by decide +kernel
theorem dX8_copy_127 : decode cX8_copy 127 = .ok (.invokevirtual 290, 3) := by decide +kernel
theorem dX8_copy_130 : decode cX8_copy 130 = .ok (.iconst 1, 1) := by decide +kernel
theorem dX8_copy_131 : decode cX8_copy 131 = .ok (.ireturn, 1) := by decide +kernel
theorem dX8_write_0 : decode cX8_write 0 = .ok (.aload_n 0, 1) := by decide +kernel
theorem dX8_write_1 : decode cX8_write 1 = .ok (.iload_n 1, 1) := by decide +kernel
theorem dX8_write_2 : decode cX8_write 2 = .ok (.invokevirtual 99, 3) := by decide +kernel
theorem dX8_write_5 : decode cX8_write 5 = .ok (.ifCond .eq 10, 3) := by decide +kernel
theorem dX8_write_8 : decode cX8_write 8 = .ok (.iload_n 2, 1) := by decide +kernel
theorem dX8_write_9 : decode cX8_write 9 = .ok (.invokestatic 242, 3) := by decide +kernel
theorem dX8_write_12 : decode cX8_write 12 = .ok (.ifCond .ne 6, 3) := by decide +kernel
theorem dX8_write_15 : decode cX8_write 15 = .ok (.bipush (-2), 2) := by decide +kernel
theorem dX8_write_17 : decode cX8_write 17 = .ok (.ireturn, 1) := by decide +kernel
theorem dX8_write_18 : decode cX8_write 18 = .ok (.aload_n 0, 1) := by decide +kernel
theorem dX8_write_19 : decode cX8_write 19 = .ok (.getfield 77, 3) := by decide +kernel
theorem dX8_write_22 : decode cX8_write 22 = .ok (.iload_n 2, 1) := by decide +kernel
theorem dX8_write_23 : decode cX8_write 23 = .ok (.invokevirtual 245, 3) := by decide +kernel
theorem dX8_write_26 : decode cX8_write 26 = .ok (.ifCond .eq 12, 3) := by decide +kernel
theorem dX8_write_29 : decode cX8_write 29 = .ok (.aload_n 0, 1) := by decide +kernel
theorem dX8_write_30 : decode cX8_write 30 = .ok (.getfield 77, 3) := by decide +kernel
theorem dX8_write_33 : decode cX8_write 33 = .ok (.iconst 1, 1) := by decide +kernel
theorem dX8_write_34 : decode cX8_write 34 = .ok (.invokevirtual 248, 3) := by decide +kernel
theorem dX8_write_37 : decode cX8_write 37 = .ok (.ireturn, 1) := by decide +kernel
theorem dX8_write_38 : decode cX8_write 38 = .ok (.aload_n 0, 1) := by decide +kernel
theorem dX8_write_39 : decode cX8_write 39 = .ok (.getfield 31, 3) := by decide +kernel
theorem dX8_write_42 : decode cX8_write 42 = .ok (.invokevirtual 114, 3) := by decide +kernel
theorem dX8_write_45 : decode cX8_write 45 = .ok (.aload_n 0, 1) := by decide +kernel
theorem dX8_write_46 : decode cX8_write 46 = .ok (.getfield 77, 3) := by decide +kernel
theorem dX8_write_49 : decode cX8_write 49 = .ok (.getfield 251, 3) := by decide +kernel
theorem dX8_write_52 : decode cX8_write 52 = .ok (.iload_n 2, 1) := by decide +kernel
theorem dX8_write_53 : decode cX8_write 53 = .ok (.iaload, 1) := by decide +kernel
theorem dX8_write_54 : decode cX8_write 54 = .ok (.aload_n 0, 1) := by decide +kernel
theorem dX8_write_55 : decode cX8_write 55 = .ok (.getfield 12, 3) := by decide +kernel
theorem dX8_write_58 : decode cX8_write 58 = .ok (.getfield 121, 3) := by decide +kernel
theorem dX8_write_61 : decode cX8_write 61 = .ok (.invokestatic 204, 3) := by decide +kernel
theorem dX8_write_64 : decode cX8_write 64 = .ok (.istore_n 3, 1) := by decide +kernel
theorem dX8_write_65 : decode cX8_write 65 = .ok (.iconst 0, 1) := by decide +kernel
theorem dX8_write_66 : decode cX8_write 66 = .ok (.istore 4, 2) := by decide +kernel
theorem dX8_write_68 : decode cX8_write 68 = .ok (.iload 4, 2) := by decide +kernel
theorem dX8_write_70 : decode cX8_write 70 = .ok (.iload_n 3, 1) := by decide +kernel
theorem dX8_write_71 : decode cX8_write 71 = .ok (.if_icmp .ge 29, 3) := by decide +kernel
theorem dX8_write_74 : decode cX8_write 74 = .ok (.aload_n 0, 1) := by decide +kernel
theorem dX8_write_75 : decode cX8_write 75 = .ok (.getfield 77, 3) := by decide +kernel
theorem dX8_write_78 : decode cX8_write 78 = .ok (.iload_n 2, 1) := by decide +kernel
theorem dX8_write_79 : decode cX8_write 79 = .ok (.iload 4, 2) := by decide +kernel
theorem dX8_write_81 : decode cX8_write 81 = .ok (.aload_n 0, 1) := by decide +kernel
theorem dX8_write_82 : decode cX8_write 82 = .ok (.getfield 31, 3) := by decide +kernel
theorem dX8_write_85 : decode cX8_write 85 = .ok (.iload_n 1, 1) := by decide +kernel
theorem dX8_write_86 : decode cX8_write 86 = .ok (.iload 4, 2) := by decide +kernel
theorem dX8_write_88 : decode cX8_write 88 = .ok (.invokevirtual 117, 3) := by decide +kernel
theorem dX8_write_91 : decode cX8_write 91 = .ok (.invokevirtual 281, 3) := by decide +kernel
theorem dX8_write_94 : decode cX8_write 94 = .ok (.iinc 4 1, 3) := by decide +kernel
theorem dX8_write_97 : decode cX8_write 97 = .ok (.goto (-29), 3) := by decide +kernel
theorem dX8_write_100 : decode cX8_write 100 = .ok (.iload_n 3, 1) := by decide +kernel
theorem dX8_write_101 : decode cX8_write 101 = .ok (.ireturn, 1) := by decide +kernel
theorem dX8_count_0 : decode cX8_count 0 = .ok (.iload_n 1, 1) := by decide +kernel
theorem dX8_count_1 : decode cX8_count 1 = .ok (.tableswitch 120 0 8 #[51, 59, 67, 75, 83, 91, 99, 104, 112], 51) := by decide +kernel
theorem dX8_count_52 : decode cX8_count 52 = .ok (.aload_n 0, 1) := by decide +kernel
theorem dX8_count_53 : decode cX8_count 53 = .ok (.getfield 12, 3) := by decide +kernel
theorem dX8_count_56 : decode cX8_count 56 = .ok (.getfield 182, 3) := by decide +kernel
theorem dX8_count_59 : decode cX8_count 59 = .ok (.ireturn, 1) := by decide +kernel
theorem dX8_count_60 : decode cX8_count 60 = .ok (.aload_n 0, 1) := by decide +kernel
theorem dX8_count_61 : decode cX8_count 61 = .ok (.getfield 12, 3) := by decide +kernel
theorem dX8_count_64 : decode cX8_count 64 = .ok (.getfield 121, 3) := by decide +kernel
theorem dX8_count_67 : decode cX8_count 67 = .ok (.ireturn, 1) := by decide +kernel
theorem dX8_count_68 : decode cX8_count 68 = .ok (.aload_n 0, 1) := by decide +kernel
theorem dX8_count_69 : decode cX8_count 69 = .ok (.getfield 12, 3) := by decide +kernel
theorem dX8_count_72 : decode cX8_count 72 = .ok (.getfield 89, 3) := by decide +kernel
theorem dX8_count_75 : decode cX8_count 75 = .ok (.ireturn, 1) := by decide +kernel
theorem dX8_count_76 : decode cX8_count 76 = .ok (.aload_n 0, 1) := by decide +kernel
theorem dX8_count_77 : decode cX8_count 77 = .ok (.getfield 12, 3) := by decide +kernel
theorem dX8_count_80 : decode cX8_count 80 = .ok (.invokevirtual 294, 3) := by decide +kernel
theorem dX8_count_83 : decode cX8_count 83 = .ok (.ireturn, 1) := by decide +kernel
theorem dX8_count_84 : decode cX8_count 84 = .ok (.aload_n 0, 1) := by decide +kernel
theorem dX8_count_85 : decode cX8_count 85 = .ok (.getfield 70, 3) := by decide +kernel
theorem dX8_count_88 : decode cX8_count 88 = .ok (.getfield 239, 3) := by decide +kernel
theorem dX8_count_91 : decode cX8_count 91 = .ok (.ireturn, 1) := by decide +kernel
theorem dX8_count_92 : decode cX8_count 92 = .ok (.aload_n 0, 1) := by decide +kernel
theorem dX8_count_93 : decode cX8_count 93 = .ok (.getfield 70, 3) := by decide +kernel
theorem dX8_count_96 : decode cX8_count 96 = .ok (.invokevirtual 297, 3) := by decide +kernel
theorem dX8_count_99 : decode cX8_count 99 = .ok (.ireturn, 1) := by decide +kernel
theorem dX8_count_100 : decode cX8_count 100 = .ok (.aload_n 0, 1) := by decide +kernel
theorem dX8_count_101 : decode cX8_count 101 = .ok (.invokevirtual 200, 3) := by decide +kernel
theorem dX8_count_104 : decode cX8_count 104 = .ok (.ireturn, 1) := by decide +kernel
theorem dX8_count_105 : decode cX8_count 105 = .ok (.aload_n 0, 1) := by decide +kernel
theorem dX8_count_106 : decode cX8_count 106 = .ok (.getfield 12, 3) := by decide +kernel
theorem dX8_count_109 : decode cX8_count 109 = .ok (.invokevirtual 300, 3) := by decide +kernel
theorem dX8_count_112 : decode cX8_count 112 = .ok (.ireturn, 1) := by decide +kernel
theorem dX8_count_113 : decode cX8_count 113 = .ok (.aload_n 0, 1) := by decide +kernel
theorem dX8_count_114 : decode cX8_count 114 = .ok (.getfield 77, 3) := by decide +kernel
theorem dX8_count_117 : decode cX8_count 117 = .ok (.getfield 303, 3) := by decide +kernel
theorem dX8_count_120 : decode cX8_count 120 = .ok (.ireturn, 1) := by decide +kernel
theorem dX8_count_121 : decode cX8_count 121 = .ok (.bipush (-2), 2) := by decide +kernel
theorem dX8_count_123 : decode cX8_count 123 = .ok (.ireturn, 1) := by decide +kernel
theorem dX8_digest_0 : decode cX8_digest 0 = .ok (.ldc2_w 306, 3) := by decide +kernel
theorem dX8_digest_3 : decode cX8_digest 3 = .ok (.lstore_n 1, 1) := by decide +kernel
theorem dX8_digest_4 : decode cX8_digest 4 = .ok (.iconst 0, 1) := by decide +kernel
theorem dX8_digest_5 : decode cX8_digest 5 = .ok (.istore_n 3, 1) := by decide +kernel
theorem dX8_digest_6 : decode cX8_digest 6 = .ok (.iload_n 3, 1) := by decide +kernel
theorem dX8_digest_7 : decode cX8_digest 7 = .ok (.bipush 7, 2) := by decide +kernel
theorem dX8_digest_9 : decode cX8_digest 9 = .ok (.if_icmp .gt 22, 3) := by decide +kernel
theorem dX8_digest_12 : decode cX8_digest 12 = .ok (.ldc2_w 308, 3) := by decide +kernel
theorem dX8_digest_15 : decode cX8_digest 15 = .ok (.lload_n 1, 1) := by decide +kernel
theorem dX8_digest_16 : decode cX8_digest 16 = .ok (.lmul, 1) := by decide +kernel
theorem dX8_digest_17 : decode cX8_digest 17 = .ok (.aload_n 0, 1) := by decide +kernel
theorem dX8_digest_18 : decode cX8_digest 18 = .ok (.iload_n 3, 1) := by decide +kernel
theorem dX8_digest_19 : decode cX8_digest 19 = .ok (.invokevirtual 310, 3) := by decide +kernel
theorem dX8_digest_22 : decode cX8_digest 22 = .ok (.i2l, 1) := by decide +kernel
theorem dX8_digest_23 : decode cX8_digest 23 = .ok (.ladd, 1) := by decide +kernel
theorem dX8_digest_24 : decode cX8_digest 24 = .ok (.lstore_n 1, 1) := by decide +kernel
theorem dX8_digest_25 : decode cX8_digest 25 = .ok (.iinc 3 1, 3) := by decide +kernel
theorem dX8_digest_28 : decode cX8_digest 28 = .ok (.goto (-22), 3) := by decide +kernel
theorem dX8_digest_31 : decode cX8_digest 31 = .ok (.ldc2_w 308, 3) := by decide +kernel
theorem dX8_digest_34 : decode cX8_digest 34 = .ok (.lload_n 1, 1) := by decide +kernel
theorem dX8_digest_35 : decode cX8_digest 35 = .ok (.lmul, 1) := by decide +kernel
theorem dX8_digest_36 : decode cX8_digest 36 = .ok (.aload_n 0, 1) := by decide +kernel
theorem dX8_digest_37 : decode cX8_digest 37 = .ok (.invokevirtual 313, 3) := by decide +kernel
theorem dX8_digest_40 : decode cX8_digest 40 = .ok (.i2l, 1) := by decide +kernel
theorem dX8_digest_41 : decode cX8_digest 41 = .ok (.ladd, 1) := by decide +kernel
theorem dX8_digest_42 : decode cX8_digest 42 = .ok (.lstore_n 1, 1) := by decide +kernel
theorem dX8_digest_43 : decode cX8_digest 43 = .ok (.iconst 0, 1) := by decide +kernel
theorem dX8_digest_44 : decode cX8_digest 44 = .ok (.istore_n 3, 1) := by decide +kernel
theorem dX8_digest_45 : decode cX8_digest 45 = .ok (.iload_n 3, 1) := by decide +kernel
theorem dX8_digest_46 : decode cX8_digest 46 = .ok (.iconst 2, 1) := by decide +kernel
theorem dX8_digest_47 : decode cX8_digest 47 = .ok (.if_icmp .gt 22, 3) := by decide +kernel
theorem dX8_digest_50 : decode cX8_digest 50 = .ok (.ldc2_w 308, 3) := by decide +kernel
theorem dX8_digest_53 : decode cX8_digest 53 = .ok (.lload_n 1, 1) := by decide +kernel
theorem dX8_digest_54 : decode cX8_digest 54 = .ok (.lmul, 1) := by decide +kernel
theorem dX8_digest_55 : decode cX8_digest 55 = .ok (.aload_n 0, 1) := by decide +kernel
theorem dX8_digest_56 : decode cX8_digest 56 = .ok (.iload_n 3, 1) := by decide +kernel
theorem dX8_digest_57 : decode cX8_digest 57 = .ok (.invokevirtual 316, 3) := by decide +kernel
theorem dX8_digest_60 : decode cX8_digest 60 = .ok (.i2l, 1) := by decide +kernel
theorem dX8_digest_61 : decode cX8_digest 61 = .ok (.ladd, 1) := by decide +kernel
theorem dX8_digest_62 : decode cX8_digest 62 = .ok (.lstore_n 1, 1) := by decide +kernel
theorem dX8_digest_63 : decode cX8_digest 63 = .ok (.iinc 3 1, 3) := by decide +kernel
theorem dX8_digest_66 : decode cX8_digest 66 = .ok (.goto (-21), 3) := by decide +kernel
theorem dX8_digest_69 : decode cX8_digest 69 = .ok (.aload_n 0, 1) := by decide +kernel
theorem dX8_digest_70 : decode cX8_digest 70 = .ok (.getfield 49, 3) := by decide +kernel
theorem dX8_digest_73 : decode cX8_digest 73 = .ok (.invokevirtual 166, 3) := by decide +kernel
theorem dX8_digest_76 : decode cX8_digest 76 = .ok (.iconst 0, 1) := by decide +kernel
theorem dX8_digest_77 : decode cX8_digest 77 = .ok (.istore_n 3, 1) := by decide +kernel
theorem dX8_digest_78 : decode cX8_digest 78 = .ok (.iload_n 3, 1) := by decide +kernel
theorem dX8_digest_79 : decode cX8_digest 79 = .ok (.aload_n 0, 1) := by decide +kernel
theorem dX8_digest_80 : decode cX8_digest 80 = .ok (.getfield 12, 3) := by decide +kernel
theorem dX8_digest_83 : decode cX8_digest 83 = .ok (.getfield 182, 3) := by decide +kernel
theorem dX8_digest_86 : decode cX8_digest 86 = .ok (.if_icmp .ge 30, 3) := by decide +kernel
theorem dX8_digest_89 : decode cX8_digest 89 = .ok (.aload_n 0, 1) := by decide +kernel
theorem dX8_digest_90 : decode cX8_digest 90 = .ok (.iload_n 3, 1) := by decide +kernel
theorem dX8_digest_91 : decode cX8_digest 91 = .ok (.lload_n 1, 1) := by decide +kernel
theorem dX8_digest_92 : decode cX8_digest 92 = .ok (.invokevirtual 318, 3) := by decide +kernel
theorem dX8_digest_95 : decode cX8_digest 95 = .ok (.lstore_n 1, 1) := by decide +kernel
theorem dX8_digest_96 : decode cX8_digest 96 = .ok (.aload_n 0, 1) := by decide +kernel
theorem dX8_digest_97 : decode cX8_digest 97 = .ok (.iload_n 3, 1) := by decide +kernel
theorem dX8_digest_98 : decode cX8_digest 98 = .ok (.lload_n 1, 1) := by decide +kernel
theorem dX8_digest_99 : decode cX8_digest 99 = .ok (.invokevirtual 322, 3) := by decide +kernel
theorem dX8_digest_102 : decode cX8_digest 102 = .ok (.lstore_n 1, 1) := by decide +kernel
theorem dX8_digest_103 : decode cX8_digest 103 = .ok (.aload_n 0, 1) := by decide +kernel
theorem dX8_digest_104 : decode cX8_digest 104 = .ok (.iload_n 3, 1) := by decide +kernel
theorem dX8_digest_105 : decode cX8_digest 105 = .ok (.lload_n 1, 1) := by decide +kernel
theorem dX8_digest_106 : decode cX8_digest 106 = .ok (.invokevirtual 325, 3) := by decide +kernel
theorem dX8_digest_109 : decode cX8_digest 109 = .ok (.lstore_n 1, 1) := by decide +kernel
theorem dX8_digest_110 : decode cX8_digest 110 = .ok (.iinc 3 1, 3) := by decide +kernel
theorem dX8_digest_113 : decode cX8_digest 113 = .ok (.goto (-35), 3) := by decide +kernel
theorem dX8_digest_116 : decode cX8_digest 116 = .ok (.ldc2_w 308, 3) := by decide +kernel
theorem dX8_digest_119 : decode cX8_digest 119 = .ok (.lload_n 1, 1) := by decide +kernel
theorem dX8_digest_120 : decode cX8_digest 120 = .ok (.lmul, 1) := by decide +kernel
theorem dX8_digest_121 : decode cX8_digest 121 = .ok (.aload_n 0, 1) := by decide +kernel
theorem dX8_digest_122 : decode cX8_digest 122 = .ok (.iconst (-1), 1) := by decide +kernel
theorem dX8_digest_123 : decode cX8_digest 123 = .ok (.iconst 0, 1) := by decide +kernel
theorem dX8_digest_124 : decode cX8_digest 124 = .ok (.invokevirtual 169, 3) := by decide +kernel
theorem dX8_digest_127 : decode cX8_digest 127 = .ok (.i2l, 1) := by decide +kernel
theorem dX8_digest_128 : decode cX8_digest 128 = .ok (.ladd, 1) := by decide +kernel
theorem dX8_digest_129 : decode cX8_digest 129 = .ok (.lstore_n 1, 1) := by decide +kernel
theorem dX8_digest_130 : decode cX8_digest 130 = .ok (.ldc2_w 308, 3) := by decide +kernel
theorem dX8_digest_133 : decode cX8_digest 133 = .ok (.lload_n 1, 1) := by decide +kernel
theorem dX8_digest_134 : decode cX8_digest 134 = .ok (.lmul, 1) := by decide +kernel
theorem dX8_digest_135 : decode cX8_digest 135 = .ok (.aload_n 0, 1) := by decide +kernel
theorem dX8_digest_136 : decode cX8_digest 136 = .ok (.iconst 0, 1) := by decide +kernel
theorem dX8_digest_137 : decode cX8_digest 137 = .ok (.invokevirtual 328, 3) := by decide +kernel
theorem dX8_digest_140 : decode cX8_digest 140 = .ok (.ladd, 1) := by decide +kernel
theorem dX8_digest_141 : decode cX8_digest 141 = .ok (.lstore_n 1, 1) := by decide +kernel
theorem dX8_digest_142 : decode cX8_digest 142 = .ok (.ldc2_w 308, 3) := by decide +kernel
theorem dX8_digest_145 : decode cX8_digest 145 = .ok (.lload_n 1, 1) := by decide +kernel
theorem dX8_digest_146 : decode cX8_digest 146 = .ok (.lmul, 1) := by decide +kernel
theorem dX8_digest_147 : decode cX8_digest 147 = .ok (.aload_n 0, 1) := by decide +kernel
theorem dX8_digest_148 : decode cX8_digest 148 = .ok (.iconst 1, 1) := by decide +kernel
theorem dX8_digest_149 : decode cX8_digest 149 = .ok (.invokevirtual 328, 3) := by decide +kernel
theorem dX8_digest_152 : decode cX8_digest 152 = .ok (.ladd, 1) := by decide +kernel
theorem dX8_digest_153 : decode cX8_digest 153 = .ok (.lreturn, 1) := by decide +kernel
theorem dX8_digestOfWhoOwes_0 : decode cX8_digestOfWhoOwes 0 = .ok (.lload_n 2, 1) := by decide +kernel
theorem dX8_digestOfWhoOwes_1 : decode cX8_digestOfWhoOwes 1 = .ok (.lstore 4, 2) := by decide +kernel
theorem dX8_digestOfWhoOwes_3 : decode cX8_digestOfWhoOwes 3 = .ok (.aload_n 0, 1) := by decide +kernel
theorem dX8_digestOfWhoOwes_4 : decode cX8_digestOfWhoOwes 4 = .ok (.getfield 31, 3) := by decide +kernel
theorem dX8_digestOfWhoOwes_7 : decode cX8_digestOfWhoOwes 7 = .ok (.invokevirtual 114, 3) := by decide +kernel
theorem dX8_digestOfWhoOwes_10 : decode cX8_digestOfWhoOwes 10 = .ok (.iconst 0, 1) := by decide +kernel
theorem dX8_digestOfWhoOwes_11 : decode cX8_digestOfWhoOwes 11 = .ok (.istore 6, 2) := by decide +kernel
theorem dX8_digestOfWhoOwes_13 : decode cX8_digestOfWhoOwes 13 = .ok (.iload 6, 2) := by decide +kernel
theorem dX8_digestOfWhoOwes_15 : decode cX8_digestOfWhoOwes 15 = .ok (.aload_n 0, 1) := by decide +kernel
theorem dX8_digestOfWhoOwes_16 : decode cX8_digestOfWhoOwes 16 = .ok (.getfield 12, 3) := by decide +kernel
theorem dX8_digestOfWhoOwes_19 : decode cX8_digestOfWhoOwes 19 = .ok (.getfield 121, 3) := by decide +kernel
theorem dX8_digestOfWhoOwes_22 : decode cX8_digestOfWhoOwes 22 = .ok (.if_icmp .ge 29, 3) := by decide +kernel
theorem dX8_digestOfWhoOwes_25 : decode cX8_digestOfWhoOwes 25 = .ok (.ldc2_w 308, 3) := by decide +kernel
theorem dX8_digestOfWhoOwes_28 : decode cX8_digestOfWhoOwes 28 = .ok (.lload 4, 2) := by decide +kernel
theorem dX8_digestOfWhoOwes_30 : decode cX8_digestOfWhoOwes 30 = .ok (.lmul, 1) := by decide +kernel
theorem dX8_digestOfWhoOwes_31 : decode cX8_digestOfWhoOwes 31 = .ok (.aload_n 0, 1) := by decide +kernel
theorem dX8_digestOfWhoOwes_32 : decode cX8_digestOfWhoOwes 32 = .ok (.getfield 31, 3) := by decide +kernel
theorem dX8_digestOfWhoOwes_35 : decode cX8_digestOfWhoOwes 35 = .ok (.iload_n 1, 1) := by decide +kernel
theorem dX8_digestOfWhoOwes_36 : decode cX8_digestOfWhoOwes 36 = .ok (.iload 6, 2) := by decide +kernel
theorem dX8_digestOfWhoOwes_38 : decode cX8_digestOfWhoOwes 38 = .ok (.invokevirtual 117, 3) := by decide +kernel
theorem dX8_digestOfWhoOwes_41 : decode cX8_digestOfWhoOwes 41 = .ok (.i2l, 1) := by decide +kernel
theorem dX8_digestOfWhoOwes_42 : decode cX8_digestOfWhoOwes 42 = .ok (.ladd, 1) := by decide +kernel
theorem dX8_digestOfWhoOwes_43 : decode cX8_digestOfWhoOwes 43 = .ok (.lstore 4, 2) := by decide +kernel
theorem dX8_digestOfWhoOwes_45 : decode cX8_digestOfWhoOwes 45 = .ok (.iinc 6 1, 3) := by decide +kernel
theorem dX8_digestOfWhoOwes_48 : decode cX8_digestOfWhoOwes 48 = .ok (.goto (-35), 3) := by decide +kernel
theorem dX8_digestOfWhoOwes_51 : decode cX8_digestOfWhoOwes 51 = .ok (.aload_n 0, 1) := by decide +kernel
theorem dX8_digestOfWhoOwes_52 : decode cX8_digestOfWhoOwes 52 = .ok (.getfield 40, 3) := by decide +kernel
theorem dX8_digestOfWhoOwes_55 : decode cX8_digestOfWhoOwes 55 = .ok (.invokevirtual 131, 3) := by decide +kernel
theorem dX8_digestOfWhoOwes_58 : decode cX8_digestOfWhoOwes 58 = .ok (.aload_n 0, 1) := by decide +kernel
theorem dX8_digestOfWhoOwes_59 : decode cX8_digestOfWhoOwes 59 = .ok (.iload_n 1, 1) := by decide +kernel
theorem dX8_digestOfWhoOwes_60 : decode cX8_digestOfWhoOwes 60 = .ok (.aload_n 0, 1) := by decide +kernel
theorem dX8_digestOfWhoOwes_61 : decode cX8_digestOfWhoOwes 61 = .ok (.getfield 12, 3) := by decide +kernel
theorem dX8_digestOfWhoOwes_64 : decode cX8_digestOfWhoOwes 64 = .ok (.getfield 121, 3) := by decide +kernel
theorem dX8_digestOfWhoOwes_67 : decode cX8_digestOfWhoOwes 67 = .ok (.invokevirtual 134, 3) := by decide +kernel
theorem dX8_digestOfWhoOwes_70 : decode cX8_digestOfWhoOwes 70 = .ok (.lload 4, 2) := by decide +kernel
theorem dX8_digestOfWhoOwes_72 : decode cX8_digestOfWhoOwes 72 = .ok (.invokevirtual 331, 3) := by decide +kernel
theorem dX8_digestOfWhoOwes_75 : decode cX8_digestOfWhoOwes 75 = .ok (.lstore 4, 2) := by decide +kernel
theorem dX8_digestOfWhoOwes_77 : decode cX8_digestOfWhoOwes 77 = .ok (.aload_n 0, 1) := by decide +kernel
theorem dX8_digestOfWhoOwes_78 : decode cX8_digestOfWhoOwes 78 = .ok (.iload_n 1, 1) := by decide +kernel
theorem dX8_digestOfWhoOwes_79 : decode cX8_digestOfWhoOwes 79 = .ok (.invokevirtual 141, 3) := by decide +kernel
theorem dX8_digestOfWhoOwes_82 : decode cX8_digestOfWhoOwes 82 = .ok (.lload 4, 2) := by decide +kernel
theorem dX8_digestOfWhoOwes_84 : decode cX8_digestOfWhoOwes 84 = .ok (.invokevirtual 331, 3) := by decide +kernel
theorem dX8_digestOfWhoOwes_87 : decode cX8_digestOfWhoOwes 87 = .ok (.lstore 4, 2) := by decide +kernel
theorem dX8_digestOfWhoOwes_89 : decode cX8_digestOfWhoOwes 89 = .ok (.aload_n 0, 1) := by decide +kernel
theorem dX8_digestOfWhoOwes_90 : decode cX8_digestOfWhoOwes 90 = .ok (.aload_n 0, 1) := by decide +kernel
theorem dX8_digestOfWhoOwes_91 : decode cX8_digestOfWhoOwes 91 = .ok (.getfield 40, 3) := by decide +kernel
theorem dX8_digestOfWhoOwes_94 : decode cX8_digestOfWhoOwes 94 = .ok (.iload_n 1, 1) := by decide +kernel
theorem dX8_digestOfWhoOwes_95 : decode cX8_digestOfWhoOwes 95 = .ok (.invokevirtual 145, 3) := by decide +kernel
theorem dX8_digestOfWhoOwes_98 : decode cX8_digestOfWhoOwes 98 = .ok (.invokevirtual 148, 3) := by decide +kernel
theorem dX8_digestOfWhoOwes_101 : decode cX8_digestOfWhoOwes 101 = .ok (.lload 4, 2) := by decide +kernel
theorem dX8_digestOfWhoOwes_103 : decode cX8_digestOfWhoOwes 103 = .ok (.invokevirtual 331, 3) := by decide +kernel
theorem dX8_digestOfWhoOwes_106 : decode cX8_digestOfWhoOwes 106 = .ok (.lreturn, 1) := by decide +kernel
theorem dX8_digestOfSearches_0 : decode cX8_digestOfSearches 0 = .ok (.aload_n 0, 1) := by decide +kernel
theorem dX8_digestOfSearches_1 : decode cX8_digestOfSearches 1 = .ok (.getfield 49, 3) := by decide +kernel
theorem dX8_digestOfSearches_4 : decode cX8_digestOfSearches 4 = .ok (.iload_n 1, 1) := by decide +kernel
theorem dX8_digestOfSearches_5 : decode cX8_digestOfSearches 5 = .ok (.invokevirtual 152, 3) := by decide +kernel
theorem dX8_digestOfSearches_8 : decode cX8_digestOfSearches 8 = .ok (.ldc2_w 308, 3) := by decide +kernel
theorem dX8_digestOfSearches_11 : decode cX8_digestOfSearches 11 = .ok (.lload_n 2, 1) := by decide +kernel
theorem dX8_digestOfSearches_12 : decode cX8_digestOfSearches 12 = .ok (.lmul, 1) := by decide +kernel
theorem dX8_digestOfSearches_13 : decode cX8_digestOfSearches 13 = .ok (.aload_n 0, 1) := by decide +kernel
theorem dX8_digestOfSearches_14 : decode cX8_digestOfSearches 14 = .ok (.getfield 49, 3) := by decide +kernel
theorem dX8_digestOfSearches_17 : decode cX8_digestOfSearches 17 = .ok (.getfield 156, 3) := by decide +kernel
theorem dX8_digestOfSearches_20 : decode cX8_digestOfSearches 20 = .ok (.i2l, 1) := by decide +kernel
theorem dX8_digestOfSearches_21 : decode cX8_digestOfSearches 21 = .ok (.ladd, 1) := by decide +kernel
theorem dX8_digestOfSearches_22 : decode cX8_digestOfSearches 22 = .ok (.lstore 4, 2) := by decide +kernel
theorem dX8_digestOfSearches_24 : decode cX8_digestOfSearches 24 = .ok (.ldc2_w 308, 3) := by decide +kernel
theorem dX8_digestOfSearches_27 : decode cX8_digestOfSearches 27 = .ok (.lload 4, 2) := by decide +kernel
theorem dX8_digestOfSearches_29 : decode cX8_digestOfSearches 29 = .ok (.lmul, 1) := by decide +kernel
theorem dX8_digestOfSearches_30 : decode cX8_digestOfSearches 30 = .ok (.aload_n 0, 1) := by decide +kernel
theorem dX8_digestOfSearches_31 : decode cX8_digestOfSearches 31 = .ok (.getfield 49, 3) := by decide +kernel
theorem dX8_digestOfSearches_34 : decode cX8_digestOfSearches 34 = .ok (.getfield 159, 3) := by decide +kernel
theorem dX8_digestOfSearches_37 : decode cX8_digestOfSearches 37 = .ok (.i2l, 1) := by decide +kernel
theorem dX8_digestOfSearches_38 : decode cX8_digestOfSearches 38 = .ok (.ladd, 1) := by decide +kernel
theorem dX8_digestOfSearches_39 : decode cX8_digestOfSearches 39 = .ok (.lstore 4, 2) := by decide +kernel
theorem dX8_digestOfSearches_41 : decode cX8_digestOfSearches 41 = .ok (.ldc2_w 308, 3) := by decide +kernel
theorem dX8_digestOfSearches_44 : decode cX8_digestOfSearches 44 = .ok (.lload 4, 2) := by decide +kernel
theorem dX8_digestOfSearches_46 : decode cX8_digestOfSearches 46 = .ok (.lmul, 1) := by decide +kernel
theorem dX8_digestOfSearches_47 : decode cX8_digestOfSearches 47 = .ok (.aload_n 0, 1) := by decide +kernel
theorem dX8_digestOfSearches_48 : decode cX8_digestOfSearches 48 = .ok (.iload_n 1, 1) := by decide +kernel
theorem dX8_digestOfSearches_49 : decode cX8_digestOfSearches 49 = .ok (.iconst 0, 1) := by decide +kernel
theorem dX8_digestOfSearches_50 : decode cX8_digestOfSearches 50 = .ok (.invokevirtual 169, 3) := by decide +kernel
theorem dX8_digestOfSearches_53 : decode cX8_digestOfSearches 53 = .ok (.i2l, 1) := by decide +kernel
theorem dX8_digestOfSearches_54 : decode cX8_digestOfSearches 54 = .ok (.ladd, 1) := by decide +kernel
theorem dX8_digestOfSearches_55 : decode cX8_digestOfSearches 55 = .ok (.lstore 4, 2) := by decide +kernel
theorem dX8_digestOfSearches_57 : decode cX8_digestOfSearches 57 = .ok (.ldc2_w 308, 3) := by decide +kernel
theorem dX8_digestOfSearches_60 : decode cX8_digestOfSearches 60 = .ok (.lload 4, 2) := by decide +kernel
theorem dX8_digestOfSearches_62 : decode cX8_digestOfSearches 62 = .ok (.lmul, 1) := by decide +kernel
theorem dX8_digestOfSearches_63 : decode cX8_digestOfSearches 63 = .ok (.aload_n 0, 1) := by decide +kernel
theorem dX8_digestOfSearches_64 : decode cX8_digestOfSearches 64 = .ok (.iload_n 1, 1) := by decide +kernel
theorem dX8_digestOfSearches_65 : decode cX8_digestOfSearches 65 = .ok (.iconst 1, 1) := by decide +kernel
theorem dX8_digestOfSearches_66 : decode cX8_digestOfSearches 66 = .ok (.invokevirtual 169, 3) := by decide +kernel
theorem dX8_digestOfSearches_69 : decode cX8_digestOfSearches 69 = .ok (.i2l, 1) := by decide +kernel
theorem dX8_digestOfSearches_70 : decode cX8_digestOfSearches 70 = .ok (.ladd, 1) := by decide +kernel
theorem dX8_digestOfSearches_71 : decode cX8_digestOfSearches 71 = .ok (.lstore 4, 2) := by decide +kernel
theorem dX8_digestOfSearches_73 : decode cX8_digestOfSearches 73 = .ok (.aload_n 0, 1) := by decide +kernel
theorem dX8_digestOfSearches_74 : decode cX8_digestOfSearches 74 = .ok (.getfield 49, 3) := by decide +kernel
theorem dX8_digestOfSearches_77 : decode cX8_digestOfSearches 77 = .ok (.iload_n 1, 1) := by decide +kernel
theorem dX8_digestOfSearches_78 : decode cX8_digestOfSearches 78 = .ok (.invokevirtual 172, 3) := by decide +kernel
theorem dX8_digestOfSearches_81 : decode cX8_digestOfSearches 81 = .ok (.iconst 0, 1) := by decide +kernel
theorem dX8_digestOfSearches_82 : decode cX8_digestOfSearches 82 = .ok (.istore 6, 2) := by decide +kernel
theorem dX8_digestOfSearches_84 : decode cX8_digestOfSearches 84 = .ok (.iload 6, 2) := by decide +kernel
theorem dX8_digestOfSearches_86 : decode cX8_digestOfSearches 86 = .ok (.aload_n 0, 1) := by decide +kernel
theorem dX8_digestOfSearches_87 : decode cX8_digestOfSearches 87 = .ok (.getfield 12, 3) := by decide +kernel
theorem dX8_digestOfSearches_90 : decode cX8_digestOfSearches 90 = .ok (.getfield 121, 3) := by decide +kernel
theorem dX8_digestOfSearches_93 : decode cX8_digestOfSearches 93 = .ok (.if_icmp .ge 29, 3) := by decide +kernel
theorem dX8_digestOfSearches_96 : decode cX8_digestOfSearches 96 = .ok (.ldc2_w 308, 3) := by decide +kernel
theorem dX8_digestOfSearches_99 : decode cX8_digestOfSearches 99 = .ok (.lload 4, 2) := by decide +kernel
theorem dX8_digestOfSearches_101 : decode cX8_digestOfSearches 101 = .ok (.lmul, 1) := by decide +kernel
theorem dX8_digestOfSearches_102 : decode cX8_digestOfSearches 102 = .ok (.aload_n 0, 1) := by decide +kernel
theorem dX8_digestOfSearches_103 : decode cX8_digestOfSearches 103 = .ok (.getfield 49, 3) := by decide +kernel
theorem dX8_digestOfSearches_106 : decode cX8_digestOfSearches 106 = .ok (.getfield 175, 3) := by decide +kernel
theorem dX8_digestOfSearches_109 : decode cX8_digestOfSearches 109 = .ok (.iload 6, 2) := by decide +kernel
theorem dX8_digestOfSearches_111 : decode cX8_digestOfSearches 111 = .ok (.iaload, 1) := by decide +kernel
theorem dX8_digestOfSearches_112 : decode cX8_digestOfSearches 112 = .ok (.i2l, 1) := by decide +kernel
theorem dX8_digestOfSearches_113 : decode cX8_digestOfSearches 113 = .ok (.ladd, 1) := by decide +kernel
theorem dX8_digestOfSearches_114 : decode cX8_digestOfSearches 114 = .ok (.lstore 4, 2) := by decide +kernel
theorem dX8_digestOfSearches_116 : decode cX8_digestOfSearches 116 = .ok (.iinc 6 1, 3) := by decide +kernel
theorem dX8_digestOfSearches_119 : decode cX8_digestOfSearches 119 = .ok (.goto (-35), 3) := by decide +kernel
theorem dX8_digestOfSearches_122 : decode cX8_digestOfSearches 122 = .ok (.ldc2_w 308, 3) := by decide +kernel
theorem dX8_digestOfSearches_125 : decode cX8_digestOfSearches 125 = .ok (.lload 4, 2) := by decide +kernel
theorem dX8_digestOfSearches_127 : decode cX8_digestOfSearches 127 = .ok (.lmul, 1) := by decide +kernel
theorem dX8_digestOfSearches_128 : decode cX8_digestOfSearches 128 = .ok (.aload_n 0, 1) := by decide +kernel
theorem dX8_digestOfSearches_129 : decode cX8_digestOfSearches 129 = .ok (.getfield 49, 3) := by decide +kernel
theorem dX8_digestOfSearches_132 : decode cX8_digestOfSearches 132 = .ok (.iload_n 1, 1) := by decide +kernel
theorem dX8_digestOfSearches_133 : decode cX8_digestOfSearches 133 = .ok (.invokevirtual 178, 3) := by decide +kernel
theorem dX8_digestOfSearches_136 : decode cX8_digestOfSearches 136 = .ok (.i2l, 1) := by decide +kernel
theorem dX8_digestOfSearches_137 : decode cX8_digestOfSearches 137 = .ok (.ladd, 1) := by decide +kernel
theorem dX8_digestOfSearches_138 : decode cX8_digestOfSearches 138 = .ok (.lstore 4, 2) := by decide +kernel
theorem dX8_digestOfSearches_140 : decode cX8_digestOfSearches 140 = .ok (.ldc2_w 308, 3) := by decide +kernel
theorem dX8_digestOfSearches_143 : decode cX8_digestOfSearches 143 = .ok (.lload 4, 2) := by decide +kernel
theorem dX8_digestOfSearches_145 : decode cX8_digestOfSearches 145 = .ok (.lmul, 1) := by decide +kernel
theorem dX8_digestOfSearches_146 : decode cX8_digestOfSearches 146 = .ok (.aload_n 0, 1) := by decide +kernel
theorem dX8_digestOfSearches_147 : decode cX8_digestOfSearches 147 = .ok (.getfield 49, 3) := by decide +kernel
theorem dX8_digestOfSearches_150 : decode cX8_digestOfSearches 150 = .ok (.iload_n 1, 1) := by decide +kernel
theorem dX8_digestOfSearches_151 : decode cX8_digestOfSearches 151 = .ok (.invokevirtual 194, 3) := by decide +kernel
theorem dX8_digestOfSearches_154 : decode cX8_digestOfSearches 154 = .ok (.i2l, 1) := by decide +kernel
theorem dX8_digestOfSearches_155 : decode cX8_digestOfSearches 155 = .ok (.ladd, 1) := by decide +kernel
theorem dX8_digestOfSearches_156 : decode cX8_digestOfSearches 156 = .ok (.lstore 4, 2) := by decide +kernel
theorem dX8_digestOfSearches_158 : decode cX8_digestOfSearches 158 = .ok (.ldc2_w 308, 3) := by decide +kernel
theorem dX8_digestOfSearches_161 : decode cX8_digestOfSearches 161 = .ok (.lload 4, 2) := by decide +kernel
theorem dX8_digestOfSearches_163 : decode cX8_digestOfSearches 163 = .ok (.lmul, 1) := by decide +kernel
theorem dX8_digestOfSearches_164 : decode cX8_digestOfSearches 164 = .ok (.aload_n 0, 1) := by decide +kernel
theorem dX8_digestOfSearches_165 : decode cX8_digestOfSearches 165 = .ok (.getfield 49, 3) := by decide +kernel
theorem dX8_digestOfSearches_168 : decode cX8_digestOfSearches 168 = .ok (.iload_n 1, 1) := by decide +kernel
theorem dX8_digestOfSearches_169 : decode cX8_digestOfSearches 169 = .ok (.invokevirtual 197, 3) := by decide +kernel
theorem dX8_digestOfSearches_172 : decode cX8_digestOfSearches 172 = .ok (.i2l, 1) := by decide +kernel
theorem dX8_digestOfSearches_173 : decode cX8_digestOfSearches 173 = .ok (.ladd, 1) := by decide +kernel
theorem dX8_digestOfSearches_174 : decode cX8_digestOfSearches 174 = .ok (.lreturn, 1) := by decide +kernel
theorem dX8_digestOfStrokes_0 : decode cX8_digestOfStrokes 0 = .ok (.ldc2_w 308, 3) := by decide +kernel
theorem dX8_digestOfStrokes_3 : decode cX8_digestOfStrokes 3 = .ok (.lload_n 2, 1) := by decide +kernel
theorem dX8_digestOfStrokes_4 : decode cX8_digestOfStrokes 4 = .ok (.lmul, 1) := by decide +kernel
theorem dX8_digestOfStrokes_5 : decode cX8_digestOfStrokes 5 = .ok (.aload_n 0, 1) := by decide +kernel
theorem dX8_digestOfStrokes_6 : decode cX8_digestOfStrokes 6 = .ok (.iload_n 1, 1) := by decide +kernel
theorem dX8_digestOfStrokes_7 : decode cX8_digestOfStrokes 7 = .ok (.iconst 0, 1) := by decide +kernel
theorem dX8_digestOfStrokes_8 : decode cX8_digestOfStrokes 8 = .ok (.invokevirtual 335, 3) := by decide +kernel
theorem dX8_digestOfStrokes_11 : decode cX8_digestOfStrokes 11 = .ok (.ladd, 1) := by decide +kernel
theorem dX8_digestOfStrokes_12 : decode cX8_digestOfStrokes 12 = .ok (.lstore 4, 2) := by decide +kernel
theorem dX8_digestOfStrokes_14 : decode cX8_digestOfStrokes 14 = .ok (.ldc2_w 308, 3) := by decide +kernel
theorem dX8_digestOfStrokes_17 : decode cX8_digestOfStrokes 17 = .ok (.lload 4, 2) := by decide +kernel
theorem dX8_digestOfStrokes_19 : decode cX8_digestOfStrokes 19 = .ok (.lmul, 1) := by decide +kernel
theorem dX8_digestOfStrokes_20 : decode cX8_digestOfStrokes 20 = .ok (.aload_n 0, 1) := by decide +kernel
theorem dX8_digestOfStrokes_21 : decode cX8_digestOfStrokes 21 = .ok (.iload_n 1, 1) := by decide +kernel
theorem dX8_digestOfStrokes_22 : decode cX8_digestOfStrokes 22 = .ok (.iconst 1, 1) := by decide +kernel
theorem dX8_digestOfStrokes_23 : decode cX8_digestOfStrokes 23 = .ok (.invokevirtual 335, 3) := by decide +kernel
theorem dX8_digestOfStrokes_26 : decode cX8_digestOfStrokes 26 = .ok (.ladd, 1) := by decide +kernel
theorem dX8_digestOfStrokes_27 : decode cX8_digestOfStrokes 27 = .ok (.lstore 4, 2) := by decide +kernel
theorem dX8_digestOfStrokes_29 : decode cX8_digestOfStrokes 29 = .ok (.ldc2_w 308, 3) := by decide +kernel
theorem dX8_digestOfStrokes_32 : decode cX8_digestOfStrokes 32 = .ok (.lload 4, 2) := by decide +kernel
theorem dX8_digestOfStrokes_34 : decode cX8_digestOfStrokes 34 = .ok (.lmul, 1) := by decide +kernel
theorem dX8_digestOfStrokes_35 : decode cX8_digestOfStrokes 35 = .ok (.aload_n 0, 1) := by decide +kernel
theorem dX8_digestOfStrokes_36 : decode cX8_digestOfStrokes 36 = .ok (.bipush 7, 2) := by decide +kernel
theorem dX8_digestOfStrokes_38 : decode cX8_digestOfStrokes 38 = .ok (.bipush 9, 2) := by decide +kernel
theorem dX8_digestOfStrokes_40 : decode cX8_digestOfStrokes 40 = .ok (.iload_n 1, 1) := by decide +kernel
theorem dX8_digestOfStrokes_41 : decode cX8_digestOfStrokes 41 = .ok (.invokevirtual 338, 3) := by decide +kernel
theorem dX8_digestOfStrokes_44 : decode cX8_digestOfStrokes 44 = .ok (.i2l, 1) := by decide +kernel
theorem dX8_digestOfStrokes_45 : decode cX8_digestOfStrokes 45 = .ok (.ladd, 1) := by decide +kernel
theorem dX8_digestOfStrokes_46 : decode cX8_digestOfStrokes 46 = .ok (.lstore 4, 2) := by decide +kernel
theorem dX8_digestOfStrokes_48 : decode cX8_digestOfStrokes 48 = .ok (.ldc2_w 308, 3) := by decide +kernel
theorem dX8_digestOfStrokes_51 : decode cX8_digestOfStrokes 51 = .ok (.lload 4, 2) := by decide +kernel
theorem dX8_digestOfStrokes_53 : decode cX8_digestOfStrokes 53 = .ok (.lmul, 1) := by decide +kernel
theorem dX8_digestOfStrokes_54 : decode cX8_digestOfStrokes 54 = .ok (.aload_n 0, 1) := by decide +kernel
theorem dX8_digestOfStrokes_55 : decode cX8_digestOfStrokes 55 = .ok (.iload_n 1, 1) := by decide +kernel
theorem dX8_digestOfStrokes_56 : decode cX8_digestOfStrokes 56 = .ok (.invokevirtual 341, 3) := by decide +kernel
theorem dX8_digestOfStrokes_59 : decode cX8_digestOfStrokes 59 = .ok (.i2l, 1) := by decide +kernel
theorem dX8_digestOfStrokes_60 : decode cX8_digestOfStrokes 60 = .ok (.ladd, 1) := by decide +kernel
theorem dX8_digestOfStrokes_61 : decode cX8_digestOfStrokes 61 = .ok (.lreturn, 1) := by decide +kernel
theorem dX8_within_0 : decode cX8_within 0 = .ok (.iload_n 0, 1) := by decide +kernel
theorem dX8_within_1 : decode cX8_within 1 = .ok (.ifCond .lt 12, 3) := by decide +kernel
theorem dX8_within_4 : decode cX8_within 4 = .ok (.iload_n 0, 1) := by decide +kernel
theorem dX8_within_5 : decode cX8_within 5 = .ok (.iload_n 1, 1) := by decide +kernel
theorem dX8_within_6 : decode cX8_within 6 = .ok (.if_icmp .gt 7, 3) := by decide +kernel
theorem dX8_within_9 : decode cX8_within 9 = .ok (.iconst 1, 1) := by decide +kernel
theorem dX8_within_10 : decode cX8_within 10 = .ok (.goto 4, 3) := by decide +kernel
theorem dX8_within_13 : decode cX8_within 13 = .ok (.iconst 0, 1) := by decide +kernel
theorem dX8_within_14 : decode cX8_within 14 = .ok (.ireturn, 1) := by decide +kernel
theorem dX8_isPerson_0 : decode cX8_isPerson 0 = .ok (.iload_n 1, 1) := by decide +kernel
theorem dX8_isPerson_1 : decode cX8_isPerson 1 = .ok (.aload_n 0, 1) := by decide +kernel
theorem dX8_isPerson_2 : decode cX8_isPerson 2 = .ok (.getfield 12, 3) := by decide +kernel
theorem dX8_isPerson_5 : decode cX8_isPerson 5 = .ok (.getfield 182, 3) := by decide +kernel
theorem dX8_isPerson_8 : decode cX8_isPerson 8 = .ok (.iconst 1, 1) := by decide +kernel
theorem dX8_isPerson_9 : decode cX8_isPerson 9 = .ok (.isub, 1) := by decide +kernel
theorem dX8_isPerson_10 : decode cX8_isPerson 10 = .ok (.invokestatic 81, 3) := by decide +kernel
theorem dX8_isPerson_13 : decode cX8_isPerson 13 = .ok (.ireturn, 1) := by decide +kernel
theorem dX8_isTale_0 : decode cX8_isTale 0 = .ok (.iload_n 1, 1) := by decide +kernel
theorem dX8_isTale_1 : decode cX8_isTale 1 = .ok (.aload_n 0, 1) := by decide +kernel
theorem dX8_isTale_2 : decode cX8_isTale 2 = .ok (.getfield 12, 3) := by decide +kernel
theorem dX8_isTale_5 : decode cX8_isTale 5 = .ok (.getfield 121, 3) := by decide +kernel
theorem dX8_isTale_8 : decode cX8_isTale 8 = .ok (.iconst 1, 1) := by decide +kernel
theorem dX8_isTale_9 : decode cX8_isTale 9 = .ok (.isub, 1) := by decide +kernel
theorem dX8_isTale_10 : decode cX8_isTale 10 = .ok (.invokestatic 81, 3) := by decide +kernel
theorem dX8_isTale_13 : decode cX8_isTale 13 = .ok (.ireturn, 1) := by decide +kernel
theorem dX8_isPart_0 : decode cX8_isPart 0 = .ok (.iload_n 0, 1) := by decide +kernel
theorem dX8_isPart_1 : decode cX8_isPart 1 = .ok (.iconst 1, 1) := by decide +kernel
theorem dX8_isPart_2 : decode cX8_isPart 2 = .ok (.invokestatic 81, 3) := by decide +kernel
theorem dX8_isPart_5 : decode cX8_isPart 5 = .ok (.ireturn, 1) := by decide +kernel
theorem dX8_isSheet_0 : decode cX8_isSheet 0 = .ok (.iload_n 0, 1) := by decide +kernel
theorem dX8_isSheet_1 : decode cX8_isSheet 1 = .ok (.iconst 3, 1) := by decide +kernel
theorem dX8_isSheet_2 : decode cX8_isSheet 2 = .ok (.invokestatic 81, 3) := by decide +kernel
theorem dX8_isSheet_5 : decode cX8_isSheet 5 = .ok (.ireturn, 1) := by decide +kernel
theorem dX8_isForm_0 : decode cX8_isForm 0 = .ok (.iload_n 0, 1) := by decide +kernel
theorem dX8_isForm_1 : decode cX8_isForm 1 = .ok (.iconst 2, 1) := by decide +kernel
theorem dX8_isForm_2 : decode cX8_isForm 2 = .ok (.invokestatic 81, 3) := by decide +kernel
theorem dX8_isForm_5 : decode cX8_isForm 5 = .ok (.ireturn, 1) := by decide +kernel
theorem dX8_mayBeSeen_0 : decode cX8_mayBeSeen 0 = .ok (.iload_n 0, 1) := by decide +kernel
theorem dX8_mayBeSeen_1 : decode cX8_mayBeSeen 1 = .ok (.bipush 9, 2) := by decide +kernel
theorem dX8_mayBeSeen_3 : decode cX8_mayBeSeen 3 = .ok (.invokestatic 81, 3) := by decide +kernel
theorem dX8_mayBeSeen_6 : decode cX8_mayBeSeen 6 = .ok (.ifCond .eq 23, 3) := by decide +kernel
theorem dX8_mayBeSeen_9 : decode cX8_mayBeSeen 9 = .ok (.iload_n 1, 1) := by decide +kernel
theorem dX8_mayBeSeen_10 : decode cX8_mayBeSeen 10 = .ok (.iconst 4, 1) := by decide +kernel
theorem dX8_mayBeSeen_11 : decode cX8_mayBeSeen 11 = .ok (.invokestatic 81, 3) := by decide +kernel
theorem dX8_mayBeSeen_14 : decode cX8_mayBeSeen 14 = .ok (.ifCond .eq 15, 3) := by decide +kernel
theorem dX8_mayBeSeen_17 : decode cX8_mayBeSeen 17 = .ok (.iload_n 2, 1) := by decide +kernel
theorem dX8_mayBeSeen_18 : decode cX8_mayBeSeen 18 = .ok (.iconst 1, 1) := by decide +kernel
theorem dX8_mayBeSeen_19 : decode cX8_mayBeSeen 19 = .ok (.invokestatic 81, 3) := by decide +kernel
theorem dX8_mayBeSeen_22 : decode cX8_mayBeSeen 22 = .ok (.ifCond .eq 7, 3) := by decide +kernel
theorem dX8_mayBeSeen_25 : decode cX8_mayBeSeen 25 = .ok (.iconst 1, 1) := by decide +kernel
theorem dX8_mayBeSeen_26 : decode cX8_mayBeSeen 26 = .ok (.goto 4, 3) := by decide +kernel
theorem dX8_mayBeSeen_29 : decode cX8_mayBeSeen 29 = .ok (.iconst 0, 1) := by decide +kernel
theorem dX8_mayBeSeen_30 : decode cX8_mayBeSeen 30 = .ok (.ireturn, 1) := by decide +kernel
theorem dX8_asLong_0 : decode cX8_asLong 0 = .ok (.ldc2_w 344, 3) := by decide +kernel
theorem dX8_asLong_3 : decode cX8_asLong 3 = .ok (.iload_n 0, 1) := by decide +kernel
theorem dX8_asLong_4 : decode cX8_asLong 4 = .ok (.i2l, 1) := by decide +kernel
theorem dX8_asLong_5 : decode cX8_asLong 5 = .ok (.lsub, 1) := by decide +kernel
theorem dX8_asLong_6 : decode cX8_asLong 6 = .ok (.lreturn, 1) := by decide +kernel
theorem dX8_hasBit_0 : decode cX8_hasBit 0 = .ok (.iload_n 0, 1) := by decide +kernel
theorem dX8_hasBit_1 : decode cX8_hasBit 1 = .ok (.iload_n 1, 1) := by decide +kernel
theorem dX8_hasBit_2 : decode cX8_hasBit 2 = .ok (.ishr, 1) := by decide +kernel
theorem dX8_hasBit_3 : decode cX8_hasBit 3 = .ok (.iconst 1, 1) := by decide +kernel
theorem dX8_hasBit_4 : decode cX8_hasBit 4 = .ok (.iand, 1) := by decide +kernel
theorem dX8_hasBit_5 : decode cX8_hasBit 5 = .ok (.iconst 1, 1) := by decide +kernel
theorem dX8_hasBit_6 : decode cX8_hasBit 6 = .ok (.if_icmp .ne 7, 3) := by decide +kernel
theorem dX8_hasBit_9 : decode cX8_hasBit 9 = .ok (.iconst 1, 1) := by decide +kernel
theorem dX8_hasBit_10 : decode cX8_hasBit 10 = .ok (.goto 4, 3) := by decide +kernel
theorem dX8_hasBit_13 : decode cX8_hasBit 13 = .ok (.iconst 0, 1) := by decide +kernel
theorem dX8_hasBit_14 : decode cX8_hasBit 14 = .ok (.ireturn, 1) := by decide +kernel
theorem dX8_quartersOf_0 : decode cX8_quartersOf 0 = .ok (.iload_n 0, 1) := by decide +kernel
theorem dX8_quartersOf_1 : decode cX8_quartersOf 1 = .ok (.ifCond .eq 7, 3) := by decide +kernel
theorem dX8_quartersOf_4 : decode cX8_quartersOf 4 = .ok (.iload_n 1, 1) := by decide +kernel
theorem dX8_quartersOf_5 : decode cX8_quartersOf 5 = .ok (.ifCond .ne 5, 3) := by decide +kernel
theorem dX8_quartersOf_8 : decode cX8_quartersOf 8 = .ok (.iconst 0, 1) := by decide +kernel
theorem dX8_quartersOf_9 : decode cX8_quartersOf 9 = .ok (.ireturn, 1) := by decide +kernel
theorem dX8_quartersOf_10 : decode cX8_quartersOf 10 = .ok (.iload_n 0, 1) := by decide +kernel
theorem dX8_quartersOf_11 : decode cX8_quartersOf 11 = .ok (.iload_n 1, 1) := by decide +kernel
theorem dX8_quartersOf_12 : decode cX8_quartersOf 12 = .ok (.imul, 1) := by decide +kernel
theorem dX8_quartersOf_13 : decode cX8_quartersOf 13 = .ok (.iconst 5, 1) := by decide +kernel
theorem dX8_quartersOf_14 : decode cX8_quartersOf 14 = .ok (.iload_n 2, 1) := by decide +kernel
theorem dX8_quartersOf_15 : decode cX8_quartersOf 15 = .ok (.imul, 1) := by decide +kernel
theorem dX8_quartersOf_16 : decode cX8_quartersOf 16 = .ok (.iadd, 1) := by decide +kernel
theorem dX8_quartersOf_17 : decode cX8_quartersOf 17 = .ok (.bipush 20, 2) := by decide +kernel
theorem dX8_quartersOf_19 : decode cX8_quartersOf 19 = .ok (.idiv, 1) := by decide +kernel
theorem dX8_quartersOf_20 : decode cX8_quartersOf 20 = .ok (.istore 4, 2) := by decide +kernel
theorem dX8_quartersOf_22 : decode cX8_quartersOf 22 = .ok (.iload 4, 2) := by decide +kernel
theorem dX8_quartersOf_24 : decode cX8_quartersOf 24 = .ok (.iconst 4, 1) := by decide +kernel
theorem dX8_quartersOf_25 : decode cX8_quartersOf 25 = .ok (.if_icmp .ge 8, 3) := by decide +kernel
theorem dX8_quartersOf_28 : decode cX8_quartersOf 28 = .ok (.iload 4, 2) := by decide +kernel
theorem dX8_quartersOf_30 : decode cX8_quartersOf 30 = .ok (.goto 4, 3) := by decide +kernel
theorem dX8_quartersOf_33 : decode cX8_quartersOf 33 = .ok (.iconst 4, 1) := by decide +kernel
theorem dX8_quartersOf_34 : decode cX8_quartersOf 34 = .ok (.istore 5, 2) := by decide +kernel
theorem dX8_quartersOf_36 : decode cX8_quartersOf 36 = .ok (.iload_n 3, 1) := by decide +kernel
theorem dX8_quartersOf_37 : decode cX8_quartersOf 37 = .ok (.ifCond .ne 6, 3) := by decide +kernel
theorem dX8_quartersOf_40 : decode cX8_quartersOf 40 = .ok (.iload 5, 2) := by decide +kernel
theorem dX8_quartersOf_42 : decode cX8_quartersOf 42 = .ok (.ireturn, 1) := by decide +kernel
theorem dX8_quartersOf_43 : decode cX8_quartersOf 43 = .ok (.iload 5, 2) := by decide +kernel
theorem dX8_quartersOf_45 : decode cX8_quartersOf 45 = .ok (.iconst 2, 1) := by decide +kernel
theorem dX8_quartersOf_46 : decode cX8_quartersOf 46 = .ok (.if_icmp .le 10, 3) := by decide +kernel
theorem dX8_quartersOf_49 : decode cX8_quartersOf 49 = .ok (.iload 5, 2) := by decide +kernel
theorem dX8_quartersOf_51 : decode cX8_quartersOf 51 = .ok (.iconst 2, 1) := by decide +kernel
theorem dX8_quartersOf_52 : decode cX8_quartersOf 52 = .ok (.isub, 1) := by decide +kernel
theorem dX8_quartersOf_53 : decode cX8_quartersOf 53 = .ok (.goto 4, 3) := by decide +kernel
theorem dX8_quartersOf_56 : decode cX8_quartersOf 56 = .ok (.iconst 0, 1) := by decide +kernel
theorem dX8_quartersOf_57 : decode cX8_quartersOf 57 = .ok (.ireturn, 1) := by decide +kernel
theorem dX8_shareOwed_0 : decode cX8_shareOwed 0 = .ok (.aload_n 0, 1) := by decide +kernel
theorem dX8_shareOwed_1 : decode cX8_shareOwed 1 = .ok (.getfield 63, 3) := by decide +kernel
theorem dX8_shareOwed_4 : decode cX8_shareOwed 4 = .ok (.aload_n 0, 1) := by decide +kernel
theorem dX8_shareOwed_5 : decode cX8_shareOwed 5 = .ok (.getfield 40, 3) := by decide +kernel
theorem dX8_shareOwed_8 : decode cX8_shareOwed 8 = .ok (.iload_n 1, 1) := by decide +kernel
theorem dX8_shareOwed_9 : decode cX8_shareOwed 9 = .ok (.iload_n 2, 1) := by decide +kernel
theorem dX8_shareOwed_10 : decode cX8_shareOwed 10 = .ok (.invokevirtual 209, 3) := by decide +kernel
theorem dX8_shareOwed_13 : decode cX8_shareOwed 13 = .ok (.aload_n 0, 1) := by decide +kernel
theorem dX8_shareOwed_14 : decode cX8_shareOwed 14 = .ok (.getfield 40, 3) := by decide +kernel
theorem dX8_shareOwed_17 : decode cX8_shareOwed 17 = .ok (.invokevirtual 213, 3) := by decide +kernel
theorem dX8_shareOwed_20 : decode cX8_shareOwed 20 = .ok (.invokevirtual 217, 3) := by decide +kernel
theorem dX8_shareOwed_23 : decode cX8_shareOwed 23 = .ok (.areturn, 1) := by decide +kernel
theorem dX8_shareOfDebt_0 : decode cX8_shareOfDebt 0 = .ok (.aload_n 0, 1) := by decide +kernel
theorem dX8_shareOfDebt_1 : decode cX8_shareOfDebt 1 = .ok (.getfield 63, 3) := by decide +kernel
theorem dX8_shareOfDebt_4 : decode cX8_shareOfDebt 4 = .ok (.aload_n 0, 1) := by decide +kernel
theorem dX8_shareOfDebt_5 : decode cX8_shareOfDebt 5 = .ok (.getfield 40, 3) := by decide +kernel
theorem dX8_shareOfDebt_8 : decode cX8_shareOfDebt 8 = .ok (.getfield 346, 3) := by decide +kernel
theorem dX8_shareOfDebt_11 : decode cX8_shareOfDebt 11 = .ok (.iload_n 1, 1) := by decide +kernel
theorem dX8_shareOfDebt_12 : decode cX8_shareOfDebt 12 = .ok (.laload, 1) := by decide +kernel
theorem dX8_shareOfDebt_13 : decode cX8_shareOfDebt 13 = .ok (.aload_n 0, 1) := by decide +kernel
theorem dX8_shareOfDebt_14 : decode cX8_shareOfDebt 14 = .ok (.getfield 40, 3) := by decide +kernel
theorem dX8_shareOfDebt_17 : decode cX8_shareOfDebt 17 = .ok (.invokevirtual 350, 3) := by decide +kernel
theorem dX8_shareOfDebt_20 : decode cX8_shareOfDebt 20 = .ok (.invokevirtual 217, 3) := by decide +kernel
theorem dX8_shareOfDebt_23 : decode cX8_shareOfDebt 23 = .ok (.areturn, 1) := by decide +kernel
theorem dX8_shareOfCost_0 : decode cX8_shareOfCost 0 = .ok (.aload_n 0, 1) := by decide +kernel
theorem dX8_shareOfCost_1 : decode cX8_shareOfCost 1 = .ok (.getfield 63, 3) := by decide +kernel
theorem dX8_shareOfCost_4 : decode cX8_shareOfCost 4 = .ok (.lload_n 1, 1) := by decide +kernel
theorem dX8_shareOfCost_5 : decode cX8_shareOfCost 5 = .ok (.aload_n 0, 1) := by decide +kernel
theorem dX8_shareOfCost_6 : decode cX8_shareOfCost 6 = .ok (.getfield 40, 3) := by decide +kernel
theorem dX8_shareOfCost_9 : decode cX8_shareOfCost 9 = .ok (.invokevirtual 350, 3) := by decide +kernel
theorem dX8_shareOfCost_12 : decode cX8_shareOfCost 12 = .ok (.invokevirtual 217, 3) := by decide +kernel
theorem dX8_shareOfCost_15 : decode cX8_shareOfCost 15 = .ok (.areturn, 1) := by decide +kernel
theorem dX8_restTold_0 : decode cX8_restTold 0 = .ok (.iload_n 1, 1) := by decide +kernel
theorem dX8_restTold_1 : decode cX8_restTold 1 = .ok (.iconst (-1), 1) := by decide +kernel
theorem dX8_restTold_2 : decode cX8_restTold 2 = .ok (.if_icmp .ne 11, 3) := by decide +kernel
theorem dX8_restTold_5 : decode cX8_restTold 5 = .ok (.aload_n 0, 1) := by decide +kernel
theorem dX8_restTold_6 : decode cX8_restTold 6 = .ok (.getfield 49, 3) := by decide +kernel
theorem dX8_restTold_9 : decode cX8_restTold 9 = .ok (.getfield 353, 3) := by decide +kernel
theorem dX8_restTold_12 : decode cX8_restTold 12 = .ok (.ireturn, 1) := by decide +kernel
theorem dX8_restTold_13 : decode cX8_restTold 13 = .ok (.iload_n 2, 1) := by decide +kernel
theorem dX8_restTold_14 : decode cX8_restTold 14 = .ok (.ifCond .ne 15, 3) := by decide +kernel
theorem dX8_restTold_17 : decode cX8_restTold 17 = .ok (.aload_n 0, 1) := by decide +kernel
theorem dX8_restTold_18 : decode cX8_restTold 18 = .ok (.getfield 49, 3) := by decide +kernel
theorem dX8_restTold_21 : decode cX8_restTold 21 = .ok (.getfield 356, 3) := by decide +kernel
theorem dX8_restTold_24 : decode cX8_restTold 24 = .ok (.iload_n 1, 1) := by decide +kernel
theorem dX8_restTold_25 : decode cX8_restTold 25 = .ok (.iaload, 1) := by decide +kernel
theorem dX8_restTold_26 : decode cX8_restTold 26 = .ok (.goto 12, 3) := by decide +kernel
theorem dX8_restTold_29 : decode cX8_restTold 29 = .ok (.aload_n 0, 1) := by decide +kernel
theorem dX8_restTold_30 : decode cX8_restTold 30 = .ok (.getfield 49, 3) := by decide +kernel
theorem dX8_restTold_33 : decode cX8_restTold 33 = .ok (.getfield 359, 3) := by decide +kernel
theorem dX8_restTold_36 : decode cX8_restTold 36 = .ok (.iload_n 1, 1) := by decide +kernel
theorem dX8_restTold_37 : decode cX8_restTold 37 = .ok (.iaload, 1) := by decide +kernel
theorem dX8_restTold_38 : decode cX8_restTold 38 = .ok (.ireturn, 1) := by decide +kernel
theorem dX8_totalWeight_0 : decode cX8_totalWeight 0 = .ok (.iconst 0, 1) := by decide +kernel
theorem dX8_totalWeight_1 : decode cX8_totalWeight 1 = .ok (.istore_n 1, 1) := by decide +kernel
theorem dX8_totalWeight_2 : decode cX8_totalWeight 2 = .ok (.aload_n 0, 1) := by decide +kernel
theorem dX8_totalWeight_3 : decode cX8_totalWeight 3 = .ok (.getfield 23, 3) := by decide +kernel
theorem dX8_totalWeight_6 : decode cX8_totalWeight 6 = .ok (.astore_n 2, 1) := by decide +kernel
theorem dX8_totalWeight_7 : decode cX8_totalWeight 7 = .ok (.aload_n 2, 1) := by decide +kernel
theorem dX8_totalWeight_8 : decode cX8_totalWeight 8 = .ok (.arraylength, 1) := by decide +kernel
theorem dX8_totalWeight_9 : decode cX8_totalWeight 9 = .ok (.istore_n 3, 1) := by decide +kernel
theorem dX8_totalWeight_10 : decode cX8_totalWeight 10 = .ok (.iconst 0, 1) := by decide +kernel
theorem dX8_totalWeight_11 : decode cX8_totalWeight 11 = .ok (.istore 4, 2) := by decide +kernel
theorem dX8_totalWeight_13 : decode cX8_totalWeight 13 = .ok (.iload 4, 2) := by decide +kernel
theorem dX8_totalWeight_15 : decode cX8_totalWeight 15 = .ok (.iload_n 3, 1) := by decide +kernel
theorem dX8_totalWeight_16 : decode cX8_totalWeight 16 = .ok (.if_icmp .ge 20, 3) := by decide +kernel
theorem dX8_totalWeight_19 : decode cX8_totalWeight 19 = .ok (.aload_n 2, 1) := by decide +kernel
theorem dX8_totalWeight_20 : decode cX8_totalWeight 20 = .ok (.iload 4, 2) := by decide +kernel
theorem dX8_totalWeight_22 : decode cX8_totalWeight 22 = .ok (.iaload, 1) := by decide +kernel
theorem dX8_totalWeight_23 : decode cX8_totalWeight 23 = .ok (.istore 5, 2) := by decide +kernel
theorem dX8_totalWeight_25 : decode cX8_totalWeight 25 = .ok (.iload_n 1, 1) := by decide +kernel
theorem dX8_totalWeight_26 : decode cX8_totalWeight 26 = .ok (.iload 5, 2) := by decide +kernel
theorem dX8_totalWeight_28 : decode cX8_totalWeight 28 = .ok (.iadd, 1) := by decide +kernel
theorem dX8_totalWeight_29 : decode cX8_totalWeight 29 = .ok (.istore_n 1, 1) := by decide +kernel
theorem dX8_totalWeight_30 : decode cX8_totalWeight 30 = .ok (.iinc 4 1, 3) := by decide +kernel
theorem dX8_totalWeight_33 : decode cX8_totalWeight 33 = .ok (.goto (-20), 3) := by decide +kernel
theorem dX8_totalWeight_36 : decode cX8_totalWeight 36 = .ok (.iload_n 1, 1) := by decide +kernel
theorem dX8_totalWeight_37 : decode cX8_totalWeight 37 = .ok (.ireturn, 1) := by decide +kernel
end
section
theorem dX9_init_0 : decode cX9_init 0 = .ok (.aload_n 0, 1) := by decide +kernel
theorem dX9_init_1 : decode cX9_init 1 = .ok (.invokespecial 1, 3) := by decide +kernel
theorem dX9_init_4 : decode cX9_init 4 = .ok (.aload_n 0, 1) := by decide +kernel
theorem dX9_init_5 : decode cX9_init 5 = .ok (.iconst 4, 1) := by decide +kernel
theorem dX9_init_6 : decode cX9_init 6 = .ok (.newarray .int, 2) := by decide +kernel
theorem dX9_init_8 : decode cX9_init 8 = .ok (.putfield 7, 3) := by decide +kernel
theorem dX9_init_11 : decode cX9_init 11 = .ok (.aload_n 0, 1) := by decide +kernel
theorem dX9_init_12 : decode cX9_init 12 = .ok (.iconst 4, 1) := by decide +kernel
theorem dX9_init_13 : decode cX9_init 13 = .ok (.newarray .int, 2) := by decide +kernel
theorem dX9_init_15 : decode cX9_init 15 = .ok (.putfield 13, 3) := by decide +kernel
theorem dX9_init_18 : decode cX9_init 18 = .ok (.aload_n 0, 1) := by decide +kernel
theorem dX9_init_19 : decode cX9_init 19 = .ok (.sipush 240, 3) := by decide +kernel
theorem dX9_init_22 : decode cX9_init 22 = .ok (.newarray .int, 2) := by decide +kernel
theorem dX9_init_24 : decode cX9_init 24 = .ok (.putfield 16, 3) := by decide +kernel
theorem dX9_init_27 : decode cX9_init 27 = .ok (.aload_n 0, 1) := by decide +kernel
theorem dX9_init_28 : decode cX9_init 28 = .ok (.bipush 60, 2) := by decide +kernel
theorem dX9_init_30 : decode cX9_init 30 = .ok (.newarray .int, 2) := by decide +kernel
theorem dX9_init_32 : decode cX9_init 32 = .ok (.putfield 19, 3) := by decide +kernel
theorem dX9_init_35 : decode cX9_init 35 = .ok (.aload_n 0, 1) := by decide +kernel
theorem dX9_init_36 : decode cX9_init 36 = .ok (.bipush 60, 2) := by decide +kernel
theorem dX9_init_38 : decode cX9_init 38 = .ok (.newarray .int, 2) := by decide +kernel
theorem dX9_init_40 : decode cX9_init 40 = .ok (.putfield 22, 3) := by decide +kernel
theorem dX9_init_43 : decode cX9_init 43 = .ok (.aload_n 0, 1) := by decide +kernel
theorem dX9_init_44 : decode cX9_init 44 = .ok (.bipush 16, 2) := by decide +kernel
theorem dX9_init_46 : decode cX9_init 46 = .ok (.newarray .int, 2) := by decide +kernel
theorem dX9_init_48 : decode cX9_init 48 = .ok (.putfield 25, 3) := by decide +kernel
theorem dX9_init_51 : decode cX9_init 51 = .ok (.aload_n 0, 1) := by decide +kernel
theorem dX9_init_52 : decode cX9_init 52 = .ok (.iconst 4, 1) := by decide +kernel
theorem dX9_init_53 : decode cX9_init 53 = .ok (.newarray .int, 2) := by decide +kernel
theorem dX9_init_55 : decode cX9_init 55 = .ok (.putfield 28, 3) := by decide +kernel
theorem dX9_init_58 : decode cX9_init 58 = .ok (.aload_n 0, 1) := by decide +kernel
theorem dX9_init_59 : decode cX9_init 59 = .ok (.iconst 3, 1) := by decide +kernel
theorem dX9_init_60 : decode cX9_init 60 = .ok (.newarray .int, 2) := by decide +kernel
theorem dX9_init_62 : decode cX9_init 62 = .ok (.putfield 31, 3) := by decide +kernel
theorem dX9_init_65 : decode cX9_init 65 = .ok (.aload_n 0, 1) := by decide +kernel
theorem dX9_init_66 : decode cX9_init 66 = .ok (.iconst 4, 1) := by decide +kernel
theorem dX9_init_67 : decode cX9_init 67 = .ok (.newarray .int, 2) := by decide +kernel
theorem dX9_init_69 : decode cX9_init 69 = .ok (.putfield 34, 3) := by decide +kernel
theorem dX9_init_72 : decode cX9_init 72 = .ok (.aload_n 0, 1) := by decide +kernel
theorem dX9_init_73 : decode cX9_init 73 = .ok (.iconst 4, 1) := by decide +kernel
theorem dX9_init_74 : decode cX9_init 74 = .ok (.newarray .int, 2) := by decide +kernel
theorem dX9_init_76 : decode cX9_init 76 = .ok (.putfield 37, 3) := by decide +kernel
theorem dX9_init_79 : decode cX9_init 79 = .ok (.aload_n 0, 1) := by decide +kernel
theorem dX9_init_80 : decode cX9_init 80 = .ok (.iconst 5, 1) := by decide +kernel
theorem dX9_init_81 : decode cX9_init 81 = .ok (.newarray .int, 2) := by decide +kernel
theorem dX9_init_83 : decode cX9_init 83 = .ok (.putfield 40, 3) := by decide +kernel
theorem dX9_init_86 : decode cX9_init 86 = .ok (.aload_n 0, 1) := by decide +kernel
theorem dX9_init_87 : decode cX9_init 87 = .ok (.iconst 5, 1) := by decide +kernel
theorem dX9_init_88 : decode cX9_init 88 = .ok (.newarray .int, 2) := by decide +kernel
theorem dX9_init_90 : decode cX9_init 90 = .ok (.putfield 43, 3) := by decide +kernel
theorem dX9_init_93 : decode cX9_init 93 = .ok (.aload_n 0, 1) := by decide +kernel
theorem dX9_init_94 : decode cX9_init 94 = .ok (.iconst 5, 1) := by decide +kernel
theorem dX9_init_95 : decode cX9_init 95 = .ok (.newarray .int, 2) := by decide +kernel
theorem dX9_init_97 : decode cX9_init 97 = .ok (.putfield 46, 3) := by decide +kernel
theorem dX9_init_100 : decode cX9_init 100 = .ok (.aload_n 0, 1) := by decide +kernel
theorem dX9_init_101 : decode cX9_init 101 = .ok (.iconst 4, 1) := by decide +kernel
theorem dX9_init_102 : decode cX9_init 102 = .ok (.newarray .int, 2) := by decide +kernel
theorem dX9_init_104 : decode cX9_init 104 = .ok (.putfield 49, 3) := by decide +kernel
theorem dX9_init_107 : decode cX9_init 107 = .ok (.aload_n 0, 1) := by decide +kernel
theorem dX9_init_108 : decode cX9_init 108 = .ok (.bipush 50, 2) := by decide +kernel
theorem dX9_init_110 : decode cX9_init 110 = .ok (.newarray .long, 2) := by decide +kernel
theorem dX9_init_112 : decode cX9_init 112 = .ok (.putfield 52, 3) := by decide +kernel
theorem dX9_init_115 : decode cX9_init 115 = .ok (.aload_n 0, 1) := by decide +kernel
theorem dX9_init_116 : decode cX9_init 116 = .ok (.bipush 50, 2) := by decide +kernel
theorem dX9_init_118 : decode cX9_init 118 = .ok (.newarray .long, 2) := by decide +kernel
theorem dX9_init_120 : decode cX9_init 120 = .ok (.putfield 56, 3) := by decide +kernel
theorem dX9_init_123 : decode cX9_init 123 = .ok (.aload_n 0, 1) := by decide +kernel
theorem dX9_init_124 : decode cX9_init 124 = .ok (.iconst 4, 1) := by decide +kernel
theorem dX9_init_125 : decode cX9_init 125 = .ok (.newarray .int, 2) := by decide +kernel
theorem dX9_init_127 : decode cX9_init 127 = .ok (.putfield 59, 3) := by decide +kernel
theorem dX9_init_130 : decode cX9_init 130 = .ok (.aload_n 0, 1) := by decide +kernel
theorem dX9_init_131 : decode cX9_init 131 = .ok (.iconst 4, 1) := by decide +kernel
theorem dX9_init_132 : decode cX9_init 132 = .ok (.newarray .int, 2) := by decide +kernel
theorem dX9_init_134 : decode cX9_init 134 = .ok (.putfield 62, 3) := by decide +kernel
theorem dX9_init_137 : decode cX9_init 137 = .ok (.aload_n 0, 1) := by decide +kernel
theorem dX9_init_138 : decode cX9_init 138 = .ok (.iconst 5, 1) := by decide +kernel
theorem dX9_init_139 : decode cX9_init 139 = .ok (.newarray .int, 2) := by decide +kernel
theorem dX9_init_141 : decode cX9_init 141 = .ok (.putfield 65, 3) := by decide +kernel
theorem dX9_init_144 : decode cX9_init 144 = .ok (.aload_n 0, 1) := by decide +kernel
theorem dX9_init_145 : decode cX9_init 145 = .ok (.bipush 60, 2) := by decide +kernel
theorem dX9_init_147 : decode cX9_init 147 = .ok (.newarray .int, 2) := by decide +kernel
theorem dX9_init_149 : decode cX9_init 149 = .ok (.putfield 68, 3) := by decide +kernel
theorem dX9_init_152 : decode cX9_init 152 = .ok (.aload_n 0, 1) := by decide +kernel
theorem dX9_init_153 : decode cX9_init 153 = .ok (.bipush 60, 2) := by decide +kernel
theorem dX9_init_155 : decode cX9_init 155 = .ok (.newarray .int, 2) := by decide +kernel
theorem dX9_init_157 : decode cX9_init 157 = .ok (.putfield 71, 3) := by decide +kernel
theorem dX9_init_160 : decode cX9_init 160 = .ok (.aload_n 0, 1) := by decide +kernel
theorem dX9_init_161 : decode cX9_init 161 = .ok (.bipush 60, 2) := by decide +kernel
theorem dX9_init_163 : decode cX9_init 163 = .ok (.newarray .int, 2) := by decide +kernel
theorem dX9_init_165 : decode cX9_init 165 = .ok (.putfield 74, 3) := by decide +kernel
theorem dX9_init_168 : decode cX9_init 168 = .ok (.aload_n 0, 1) := by decide +kernel
theorem dX9_init_169 : decode cX9_init 169 = .ok (.bipush 60, 2) := by decide +kernel
theorem dX9_init_171 : decode cX9_init 171 = .ok (.newarray .boolean, 2) := by decide +kernel
theorem dX9_init_173 : decode cX9_init 173 = .ok (.putfield 77, 3) := by decide +kernel
theorem dX9_init_176 : decode cX9_init 176 = .ok (.aload_n 0, 1) := by decide +kernel
theorem dX9_init_177 : decode cX9_init 177 = .ok (.bipush 60, 2) := by decide +kernel
theorem dX9_init_179 : decode cX9_init 179 = .ok (.newarray .int, 2) := by decide +kernel
theorem dX9_init_181 : decode cX9_init 181 = .ok (.putfield 81, 3) := by decide +kernel
theorem dX9_init_184 : decode cX9_init 184 = .ok (.aload_n 0, 1) := by decide +kernel
theorem dX9_init_185 : decode cX9_init 185 = .ok (.bipush 8, 2) := by decide +kernel
theorem dX9_init_187 : decode cX9_init 187 = .ok (.newarray .int, 2) := by decide +kernel
theorem dX9_init_189 : decode cX9_init 189 = .ok (.putfield 84, 3) := by decide +kernel
theorem dX9_init_192 : decode cX9_init 192 = .ok (.iconst 0, 1) := by decide +kernel
theorem dX9_init_193 : decode cX9_init 193 = .ok (.istore_n 1, 1) := by decide +kernel
theorem dX9_init_194 : decode cX9_init 194 = .ok (.iload_n 1, 1) := by decide +kernel
theorem dX9_init_195 : decode cX9_init 195 = .ok (.iconst 4, 1) := by decide +kernel
theorem dX9_init_196 : decode cX9_init 196 = .ok (.if_icmp .ge 23, 3) := by decide +kernel
theorem dX9_init_199 : decode cX9_init 199 = .ok (.aload_n 0, 1) := by decide +kernel
theorem dX9_init_200 : decode cX9_init 200 = .ok (.getfield 7, 3) := by decide +kernel
theorem dX9_init_203 : decode cX9_init 203 = .ok (.iload_n 1, 1) := by decide +kernel
theorem dX9_init_204 : decode cX9_init 204 = .ok (.iconst (-1), 1) := by decide +kernel
theorem dX9_init_205 : decode cX9_init 205 = .ok (.iastore, 1) := by decide +kernel
theorem dX9_init_206 : decode cX9_init 206 = .ok (.aload_n 0, 1) := by decide +kernel
theorem dX9_init_207 : decode cX9_init 207 = .ok (.getfield 37, 3) := by decide +kernel
theorem dX9_init_210 : decode cX9_init 210 = .ok (.iload_n 1, 1) := by decide +kernel
theorem dX9_init_211 : decode cX9_init 211 = .ok (.iconst 4, 1) := by decide +kernel
theorem dX9_init_212 : decode cX9_init 212 = .ok (.iastore, 1) := by decide +kernel
theorem dX9_init_213 : decode cX9_init 213 = .ok (.iinc 1 1, 3) := by decide +kernel
theorem dX9_init_216 : decode cX9_init 216 = .ok (.goto (-22), 3) := by decide +kernel
theorem dX9_init_219 : decode cX9_init 219 = .ok (.return_, 1) := by decide +kernel
theorem dX9_in_0 : decode cX9_in 0 = .ok (.lload_n 0, 1) := by decide +kernel
theorem dX9_in_1 : decode cX9_in 1 = .ok (.lload_n 2, 1) := by decide +kernel
theorem dX9_in_2 : decode cX9_in 2 = .ok (.lcmp, 1) := by decide +kernel
theorem dX9_in_3 : decode cX9_in 3 = .ok (.ifCond .lt 14, 3) := by decide +kernel
theorem dX9_in_6 : decode cX9_in 6 = .ok (.lload_n 0, 1) := by decide +kernel
theorem dX9_in_7 : decode cX9_in 7 = .ok (.lload 4, 2) := by decide +kernel
theorem dX9_in_9 : decode cX9_in 9 = .ok (.lcmp, 1) := by decide +kernel
theorem dX9_in_10 : decode cX9_in 10 = .ok (.ifCond .gt 7, 3) := by decide +kernel
theorem dX9_in_13 : decode cX9_in 13 = .ok (.iconst 1, 1) := by decide +kernel
theorem dX9_in_14 : decode cX9_in 14 = .ok (.goto 4, 3) := by decide +kernel
theorem dX9_in_17 : decode cX9_in 17 = .ok (.iconst 0, 1) := by decide +kernel
theorem dX9_in_18 : decode cX9_in 18 = .ok (.ireturn, 1) := by decide +kernel
theorem dX9_no_0 : decode cX9_no 0 = .ok (.ldc2_w 87, 3) := by decide +kernel
theorem dX9_no_3 : decode cX9_no 3 = .ok (.iload_n 0, 1) := by decide +kernel
theorem dX9_no_4 : decode cX9_no 4 = .ok (.i2l, 1) := by decide +kernel
theorem dX9_no_5 : decode cX9_no 5 = .ok (.lsub, 1) := by decide +kernel
theorem dX9_no_6 : decode cX9_no 6 = .ok (.lreturn, 1) := by decide +kernel
theorem dX9_isTwo_0 : decode cX9_isTwo 0 = .ok (.iload_n 0, 1) := by decide +kernel
theorem dX9_isTwo_1 : decode cX9_isTwo 1 = .ok (.i2l, 1) := by decide +kernel
theorem dX9_isTwo_2 : decode cX9_isTwo 2 = .ok (.lconst 0, 1) := by decide +kernel
theorem dX9_isTwo_3 : decode cX9_isTwo 3 = .ok (.lconst 1, 1) := by decide +kernel
theorem dX9_isTwo_4 : decode cX9_isTwo 4 = .ok (.invokestatic 89, 3) := by decide +kernel
theorem dX9_isTwo_7 : decode cX9_isTwo 7 = .ok (.ireturn, 1) := by decide +kernel
theorem dX9_met_0 : decode cX9_met 0 = .ok (.aload_n 0, 1) := by decide +kernel
theorem dX9_met_1 : decode cX9_met 1 = .ok (.iload_n 1, 1) := by decide +kernel
theorem dX9_met_2 : decode cX9_met 2 = .ok (.putfield 93, 3) := by decide +kernel
theorem dX9_met_5 : decode cX9_met 5 = .ok (.bipush (-10), 2) := by decide +kernel
theorem dX9_met_7 : decode cX9_met 7 = .ok (.iload_n 1, 1) := by decide +kernel
theorem dX9_met_8 : decode cX9_met 8 = .ok (.isub, 1) := by decide +kernel
theorem dX9_met_9 : decode cX9_met 9 = .ok (.ireturn, 1) := by decide +kernel
theorem dX9_isSheet_0 : decode cX9_isSheet 0 = .ok (.iload_n 0, 1) := by decide +kernel
theorem dX9_isSheet_1 : decode cX9_isSheet 1 = .ok (.i2l, 1) := by decide +kernel
theorem dX9_isSheet_2 : decode cX9_isSheet 2 = .ok (.lconst 0, 1) := by decide +kernel
theorem dX9_isSheet_3 : decode cX9_isSheet 3 = .ok (.ldc2_w 97, 3) := by decide +kernel
theorem dX9_isSheet_6 : decode cX9_isSheet 6 = .ok (.invokestatic 89, 3) := by decide +kernel
theorem dX9_isSheet_9 : decode cX9_isSheet 9 = .ok (.ireturn, 1) := by decide +kernel
theorem dX9_sheet_0 : decode cX9_sheet 0 = .ok (.iload_n 1, 1) := by decide +kernel
theorem dX9_sheet_1 : decode cX9_sheet 1 = .ok (.invokestatic 99, 3) := by decide +kernel
theorem dX9_sheet_4 : decode cX9_sheet 4 = .ok (.ifCond .eq 21, 3) := by decide +kernel
theorem dX9_sheet_7 : decode cX9_sheet 7 = .ok (.iload_n 2, 1) := by decide +kernel
theorem dX9_sheet_8 : decode cX9_sheet 8 = .ok (.i2l, 1) := by decide +kernel
theorem dX9_sheet_9 : decode cX9_sheet 9 = .ok (.lconst 0, 1) := by decide +kernel
theorem dX9_sheet_10 : decode cX9_sheet 10 = .ok (.ldc2_w 103, 3) := by decide +kernel
theorem dX9_sheet_13 : decode cX9_sheet 13 = .ok (.invokestatic 89, 3) := by decide +kernel
theorem dX9_sheet_16 : decode cX9_sheet 16 = .ok (.ifCond .eq 9, 3) := by decide +kernel
theorem dX9_sheet_19 : decode cX9_sheet 19 = .ok (.iload_n 3, 1) := by decide +kernel
theorem dX9_sheet_20 : decode cX9_sheet 20 = .ok (.bipush 60, 2) := by decide +kernel
theorem dX9_sheet_22 : decode cX9_sheet 22 = .ok (.if_icmp .le 6, 3) := by decide +kernel
theorem dX9_sheet_25 : decode cX9_sheet 25 = .ok (.bipush (-2), 2) := by decide +kernel
theorem dX9_sheet_27 : decode cX9_sheet 27 = .ok (.ireturn, 1) := by decide +kernel
theorem dX9_sheet_28 : decode cX9_sheet 28 = .ok (.iload_n 3, 1) := by decide +kernel
theorem dX9_sheet_29 : decode cX9_sheet 29 = .ok (.ifCond .ge 9, 3) := by decide +kernel
theorem dX9_sheet_32 : decode cX9_sheet 32 = .ok (.aload_n 0, 1) := by decide +kernel
theorem dX9_sheet_33 : decode cX9_sheet 33 = .ok (.iconst 5, 1) := by decide +kernel
theorem dX9_sheet_34 : decode cX9_sheet 34 = .ok (.invokevirtual 105, 3) := by decide +kernel
theorem dX9_sheet_37 : decode cX9_sheet 37 = .ok (.ireturn, 1) := by decide +kernel
theorem dX9_sheet_38 : decode cX9_sheet 38 = .ok (.aload_n 0, 1) := by decide +kernel
theorem dX9_sheet_39 : decode cX9_sheet 39 = .ok (.getfield 7, 3) := by decide +kernel
theorem dX9_sheet_42 : decode cX9_sheet 42 = .ok (.iload_n 1, 1) := by decide +kernel
theorem dX9_sheet_43 : decode cX9_sheet 43 = .ok (.iload_n 2, 1) := by decide +kernel
theorem dX9_sheet_44 : decode cX9_sheet 44 = .ok (.iastore, 1) := by decide +kernel
theorem dX9_sheet_45 : decode cX9_sheet 45 = .ok (.aload_n 0, 1) := by decide +kernel
theorem dX9_sheet_46 : decode cX9_sheet 46 = .ok (.getfield 13, 3) := by decide +kernel
theorem dX9_sheet_49 : decode cX9_sheet 49 = .ok (.iload_n 1, 1) := by decide +kernel
theorem dX9_sheet_50 : decode cX9_sheet 50 = .ok (.iload_n 3, 1) := by decide +kernel
theorem dX9_sheet_51 : decode cX9_sheet 51 = .ok (.iastore, 1) := by decide +kernel
theorem dX9_sheet_52 : decode cX9_sheet 52 = .ok (.iconst 0, 1) := by decide +kernel
theorem dX9_sheet_53 : decode cX9_sheet 53 = .ok (.istore 4, 2) := by decide +kernel
theorem dX9_sheet_55 : decode cX9_sheet 55 = .ok (.iload 4, 2) := by decide +kernel
theorem dX9_sheet_57 : decode cX9_sheet 57 = .ok (.iload_n 3, 1) := by decide +kernel
theorem dX9_sheet_58 : decode cX9_sheet 58 = .ok (.if_icmp .ge 22, 3) := by decide +kernel
theorem dX9_sheet_61 : decode cX9_sheet 61 = .ok (.aload_n 0, 1) := by decide +kernel
theorem dX9_sheet_62 : decode cX9_sheet 62 = .ok (.getfield 16, 3) := by decide +kernel
theorem dX9_sheet_65 : decode cX9_sheet 65 = .ok (.bipush 60, 2) := by decide +kernel
theorem dX9_sheet_67 : decode cX9_sheet 67 = .ok (.iload_n 1, 1) := by decide +kernel
theorem dX9_sheet_68 : decode cX9_sheet 68 = .ok (.imul, 1) := by decide +kernel
theorem dX9_sheet_69 : decode cX9_sheet 69 = .ok (.iload 4, 2) := by decide +kernel
theorem dX9_sheet_71 : decode cX9_sheet 71 = .ok (.iadd, 1) := by decide +kernel
theorem dX9_sheet_72 : decode cX9_sheet 72 = .ok (.iconst 0, 1) := by decide +kernel
theorem dX9_sheet_73 : decode cX9_sheet 73 = .ok (.iastore, 1) := by decide +kernel
theorem dX9_sheet_74 : decode cX9_sheet 74 = .ok (.iinc 4 1, 3) := by decide +kernel
theorem dX9_sheet_77 : decode cX9_sheet 77 = .ok (.goto (-22), 3) := by decide +kernel
theorem dX9_sheet_80 : decode cX9_sheet 80 = .ok (.iload_n 3, 1) := by decide +kernel
theorem dX9_sheet_81 : decode cX9_sheet 81 = .ok (.ireturn, 1) := by decide +kernel
theorem dX9_lose_0 : decode cX9_lose 0 = .ok (.iload_n 1, 1) := by decide +kernel
theorem dX9_lose_1 : decode cX9_lose 1 = .ok (.invokestatic 99, 3) := by decide +kernel
theorem dX9_lose_4 : decode cX9_lose 4 = .ok (.ifCond .ne 6, 3) := by decide +kernel
theorem dX9_lose_7 : decode cX9_lose 7 = .ok (.bipush (-2), 2) := by decide +kernel
theorem dX9_lose_9 : decode cX9_lose 9 = .ok (.ireturn, 1) := by decide +kernel
theorem dX9_lose_10 : decode cX9_lose 10 = .ok (.aload_n 0, 1) := by decide +kernel
theorem dX9_lose_11 : decode cX9_lose 11 = .ok (.getfield 7, 3) := by decide +kernel
theorem dX9_lose_14 : decode cX9_lose 14 = .ok (.iload_n 1, 1) := by decide +kernel
theorem dX9_lose_15 : decode cX9_lose 15 = .ok (.iaload, 1) := by decide +kernel
theorem dX9_lose_16 : decode cX9_lose 16 = .ok (.ifCond .ge 9, 3) := by decide +kernel
theorem dX9_lose_19 : decode cX9_lose 19 = .ok (.aload_n 0, 1) := by decide +kernel
theorem dX9_lose_20 : decode cX9_lose 20 = .ok (.iconst 1, 1) := by decide +kernel
theorem dX9_lose_21 : decode cX9_lose 21 = .ok (.invokevirtual 105, 3) := by decide +kernel
theorem dX9_lose_24 : decode cX9_lose 24 = .ok (.ireturn, 1) := by decide +kernel
theorem dX9_lose_25 : decode cX9_lose 25 = .ok (.aload_n 0, 1) := by decide +kernel
theorem dX9_lose_26 : decode cX9_lose 26 = .ok (.getfield 7, 3) := by decide +kernel
theorem dX9_lose_29 : decode cX9_lose 29 = .ok (.iload_n 1, 1) := by decide +kernel
theorem dX9_lose_30 : decode cX9_lose 30 = .ok (.iconst (-1), 1) := by decide +kernel
theorem dX9_lose_31 : decode cX9_lose 31 = .ok (.iastore, 1) := by decide +kernel
theorem dX9_lose_32 : decode cX9_lose 32 = .ok (.aload_n 0, 1) := by decide +kernel
theorem dX9_lose_33 : decode cX9_lose 33 = .ok (.getfield 13, 3) := by decide +kernel
theorem dX9_lose_36 : decode cX9_lose 36 = .ok (.iload_n 1, 1) := by decide +kernel
theorem dX9_lose_37 : decode cX9_lose 37 = .ok (.iaload, 1) := by decide +kernel
theorem dX9_lose_38 : decode cX9_lose 38 = .ok (.ireturn, 1) := by decide +kernel
theorem dX9_lacks_0 : decode cX9_lacks 0 = .ok (.aload_n 0, 1) := by decide +kernel
theorem dX9_lacks_1 : decode cX9_lacks 1 = .ok (.getfield 7, 3) := by decide +kernel
theorem dX9_lacks_4 : decode cX9_lacks 4 = .ok (.iload_n 1, 1) := by decide +kernel
theorem dX9_lacks_5 : decode cX9_lacks 5 = .ok (.iaload, 1) := by decide +kernel
theorem dX9_lacks_6 : decode cX9_lacks 6 = .ok (.ifCond .ge 9, 3) := by decide +kernel
theorem dX9_lacks_9 : decode cX9_lacks 9 = .ok (.aload_n 0, 1) := by decide +kernel
theorem dX9_lacks_10 : decode cX9_lacks 10 = .ok (.iconst 1, 1) := by decide +kernel
theorem dX9_lacks_11 : decode cX9_lacks 11 = .ok (.invokevirtual 105, 3) := by decide +kernel
theorem dX9_lacks_14 : decode cX9_lacks 14 = .ok (.ireturn, 1) := by decide +kernel
theorem dX9_lacks_15 : decode cX9_lacks 15 = .ok (.aload_n 0, 1) := by decide +kernel
theorem dX9_lacks_16 : decode cX9_lacks 16 = .ok (.getfield 7, 3) := by decide +kernel
theorem dX9_lacks_19 : decode cX9_lacks 19 = .ok (.iload_n 1, 1) := by decide +kernel
theorem dX9_lacks_20 : decode cX9_lacks 20 = .ok (.iaload, 1) := by decide +kernel
theorem dX9_lacks_21 : decode cX9_lacks 21 = .ok (.iload_n 2, 1) := by decide +kernel
theorem dX9_lacks_22 : decode cX9_lacks 22 = .ok (.if_icmp .eq 9, 3) := by decide +kernel
theorem dX9_lacks_25 : decode cX9_lacks 25 = .ok (.aload_n 0, 1) := by decide +kernel
theorem dX9_lacks_26 : decode cX9_lacks 26 = .ok (.iconst 3, 1) := by decide +kernel
theorem dX9_lacks_27 : decode cX9_lacks 27 = .ok (.invokevirtual 105, 3) := by decide +kernel
theorem dX9_lacks_30 : decode cX9_lacks 30 = .ok (.ireturn, 1) := by decide +kernel
theorem dX9_lacks_31 : decode cX9_lacks 31 = .ok (.iload_n 3, 1) := by decide +kernel
theorem dX9_lacks_32 : decode cX9_lacks 32 = .ok (.i2l, 1) := by decide +kernel
theorem dX9_lacks_33 : decode cX9_lacks 33 = .ok (.lconst 0, 1) := by decide +kernel
theorem dX9_lacks_34 : decode cX9_lacks 34 = .ok (.aload_n 0, 1) := by decide +kernel
theorem dX9_lacks_35 : decode cX9_lacks 35 = .ok (.getfield 13, 3) := by decide +kernel
theorem dX9_lacks_38 : decode cX9_lacks 38 = .ok (.iload_n 1, 1) := by decide +kernel
theorem dX9_lacks_39 : decode cX9_lacks 39 = .ok (.iaload, 1) := by decide +kernel
theorem dX9_lacks_40 : decode cX9_lacks 40 = .ok (.iconst 1, 1) := by decide +kernel
theorem dX9_lacks_41 : decode cX9_lacks 41 = .ok (.isub, 1) := by decide +kernel
theorem dX9_lacks_42 : decode cX9_lacks 42 = .ok (.i2l, 1) := by decide +kernel
theorem dX9_lacks_43 : decode cX9_lacks 43 = .ok (.invokestatic 89, 3) := by decide +kernel
theorem dX9_lacks_46 : decode cX9_lacks 46 = .ok (.ifCond .eq 7, 3) := by decide +kernel
theorem dX9_lacks_49 : decode cX9_lacks 49 = .ok (.iconst 0, 1) := by decide +kernel
theorem dX9_lacks_50 : decode cX9_lacks 50 = .ok (.goto 8, 3) := by decide +kernel
theorem dX9_lacks_53 : decode cX9_lacks 53 = .ok (.aload_n 0, 1) := by decide +kernel
theorem dX9_lacks_54 : decode cX9_lacks 54 = .ok (.iconst 2, 1) := by decide +kernel
theorem dX9_lacks_55 : decode cX9_lacks 55 = .ok (.invokevirtual 105, 3) := by decide +kernel
theorem dX9_lacks_58 : decode cX9_lacks 58 = .ok (.ireturn, 1) := by decide +kernel
theorem dX9_cut_0 : decode cX9_cut 0 = .ok (.iload_n 0, 1) := by decide +kernel
theorem dX9_cut_1 : decode cX9_cut 1 = .ok (.ifCond .ne 8, 3) := by decide +kernel
theorem dX9_cut_4 : decode cX9_cut 4 = .ok (.iload_n 1, 1) := by decide +kernel
theorem dX9_cut_5 : decode cX9_cut 5 = .ok (.i2b, 1) := by decide +kernel
theorem dX9_cut_6 : decode cX9_cut 6 = .ok (.goto 14, 3) := by decide +kernel
theorem dX9_cut_9 : decode cX9_cut 9 = .ok (.iload_n 0, 1) := by decide +kernel
theorem dX9_cut_10 : decode cX9_cut 10 = .ok (.iconst 1, 1) := by decide +kernel
theorem dX9_cut_11 : decode cX9_cut 11 = .ok (.if_icmp .ne 8, 3) := by decide +kernel
theorem dX9_cut_14 : decode cX9_cut 14 = .ok (.iload_n 1, 1) := by decide +kernel
theorem dX9_cut_15 : decode cX9_cut 15 = .ok (.i2s, 1) := by decide +kernel
theorem dX9_cut_16 : decode cX9_cut 16 = .ok (.goto 4, 3) := by decide +kernel
theorem dX9_cut_19 : decode cX9_cut 19 = .ok (.iload_n 1, 1) := by decide +kernel
theorem dX9_cut_20 : decode cX9_cut 20 = .ok (.ireturn, 1) := by decide +kernel
theorem dX9_lay_0 : decode cX9_lay 0 = .ok (.iload_n 1, 1) := by decide +kernel
theorem dX9_lay_1 : decode cX9_lay 1 = .ok (.invokestatic 99, 3) := by decide +kernel
theorem dX9_lay_4 : decode cX9_lay 4 = .ok (.ifCond .eq 15, 3) := by decide +kernel
theorem dX9_lay_7 : decode cX9_lay 7 = .ok (.iload_n 2, 1) := by decide +kernel
theorem dX9_lay_8 : decode cX9_lay 8 = .ok (.i2l, 1) := by decide +kernel
theorem dX9_lay_9 : decode cX9_lay 9 = .ok (.lconst 0, 1) := by decide +kernel
theorem dX9_lay_10 : decode cX9_lay 10 = .ok (.ldc2_w 103, 3) := by decide +kernel
theorem dX9_lay_13 : decode cX9_lay 13 = .ok (.invokestatic 89, 3) := by decide +kernel
theorem dX9_lay_16 : decode cX9_lay 16 = .ok (.ifCond .ne 6, 3) := by decide +kernel
theorem dX9_lay_19 : decode cX9_lay 19 = .ok (.bipush (-2), 2) := by decide +kernel
theorem dX9_lay_21 : decode cX9_lay 21 = .ok (.ireturn, 1) := by decide +kernel
theorem dX9_lay_22 : decode cX9_lay 22 = .ok (.aload_n 0, 1) := by decide +kernel
theorem dX9_lay_23 : decode cX9_lay 23 = .ok (.iload_n 1, 1) := by decide +kernel
theorem dX9_lay_24 : decode cX9_lay 24 = .ok (.iload_n 2, 1) := by decide +kernel
theorem dX9_lay_25 : decode cX9_lay 25 = .ok (.iload_n 3, 1) := by decide +kernel
theorem dX9_lay_26 : decode cX9_lay 26 = .ok (.invokevirtual 109, 3) := by decide +kernel
theorem dX9_lay_29 : decode cX9_lay 29 = .ok (.istore 5, 2) := by decide +kernel
theorem dX9_lay_31 : decode cX9_lay 31 = .ok (.iload 5, 2) := by decide +kernel
theorem dX9_lay_33 : decode cX9_lay 33 = .ok (.ifCond .eq 6, 3) := by decide +kernel
theorem dX9_lay_36 : decode cX9_lay 36 = .ok (.iload 5, 2) := by decide +kernel
theorem dX9_lay_38 : decode cX9_lay 38 = .ok (.ireturn, 1) := by decide +kernel
theorem dX9_lay_39 : decode cX9_lay 39 = .ok (.aload_n 0, 1) := by decide +kernel
theorem dX9_lay_40 : decode cX9_lay 40 = .ok (.getfield 16, 3) := by decide +kernel
theorem dX9_lay_43 : decode cX9_lay 43 = .ok (.bipush 60, 2) := by decide +kernel
theorem dX9_lay_45 : decode cX9_lay 45 = .ok (.iload_n 1, 1) := by decide +kernel
theorem dX9_lay_46 : decode cX9_lay 46 = .ok (.imul, 1) := by decide +kernel
theorem dX9_lay_47 : decode cX9_lay 47 = .ok (.iload_n 3, 1) := by decide +kernel
theorem dX9_lay_48 : decode cX9_lay 48 = .ok (.iadd, 1) := by decide +kernel
theorem dX9_lay_49 : decode cX9_lay 49 = .ok (.iload_n 2, 1) := by decide +kernel
theorem dX9_lay_50 : decode cX9_lay 50 = .ok (.iload 4, 2) := by decide +kernel
theorem dX9_lay_52 : decode cX9_lay 52 = .ok (.invokestatic 113, 3) := by decide +kernel
theorem dX9_lay_55 : decode cX9_lay 55 = .ok (.iastore, 1) := by decide +kernel
theorem dX9_lay_56 : decode cX9_lay 56 = .ok (.iconst 1, 1) := by decide +kernel
theorem dX9_lay_57 : decode cX9_lay 57 = .ok (.ireturn, 1) := by decide +kernel
theorem dX9_get_0 : decode cX9_get 0 = .ok (.iload_n 1, 1) := by decide +kernel
theorem dX9_get_1 : decode cX9_get 1 = .ok (.invokestatic 99, 3) := by decide +kernel
theorem dX9_get_4 : decode cX9_get 4 = .ok (.ifCond .eq 25, 3) := by decide +kernel
theorem dX9_get_7 : decode cX9_get 7 = .ok (.iload_n 2, 1) := by decide +kernel
theorem dX9_get_8 : decode cX9_get 8 = .ok (.i2l, 1) := by decide +kernel
theorem dX9_get_9 : decode cX9_get 9 = .ok (.lconst 0, 1) := by decide +kernel
theorem dX9_get_10 : decode cX9_get 10 = .ok (.ldc2_w 103, 3) := by decide +kernel
theorem dX9_get_13 : decode cX9_get 13 = .ok (.invokestatic 89, 3) := by decide +kernel
theorem dX9_get_16 : decode cX9_get 16 = .ok (.ifCond .eq 13, 3) := by decide +kernel
theorem dX9_get_19 : decode cX9_get 19 = .ok (.aload_n 0, 1) := by decide +kernel
theorem dX9_get_20 : decode cX9_get 20 = .ok (.iload_n 1, 1) := by decide +kernel
theorem dX9_get_21 : decode cX9_get 21 = .ok (.iload_n 2, 1) := by decide +kernel
theorem dX9_get_22 : decode cX9_get 22 = .ok (.iload_n 3, 1) := by decide +kernel
theorem dX9_get_23 : decode cX9_get 23 = .ok (.invokevirtual 109, 3) := by decide +kernel
theorem dX9_get_26 : decode cX9_get 26 = .ok (.ifCond .eq 6, 3) := by decide +kernel
theorem dX9_get_29 : decode cX9_get 29 = .ok (.ldc 117, 2) := by decide +kernel
theorem dX9_get_31 : decode cX9_get 31 = .ok (.ireturn, 1) := by decide +kernel
theorem dX9_get_32 : decode cX9_get 32 = .ok (.aload_n 0, 1) := by decide +kernel
theorem dX9_get_33 : decode cX9_get 33 = .ok (.getfield 16, 3) := by decide +kernel
theorem dX9_get_36 : decode cX9_get 36 = .ok (.bipush 60, 2) := by decide +kernel
theorem dX9_get_38 : decode cX9_get 38 = .ok (.iload_n 1, 1) := by decide +kernel
theorem dX9_get_39 : decode cX9_get 39 = .ok (.imul, 1) := by decide +kernel
theorem dX9_get_40 : decode cX9_get 40 = .ok (.iload_n 3, 1) := by decide +kernel
theorem dX9_get_41 : decode cX9_get 41 = .ok (.iadd, 1) := by decide +kernel
theorem dX9_get_42 : decode cX9_get 42 = .ok (.iaload, 1) := by decide +kernel
theorem dX9_get_43 : decode cX9_get 43 = .ok (.ireturn, 1) := by decide +kernel
theorem dX9_copy_0 : decode cX9_copy 0 = .ok (.iload_n 1, 1) := by decide +kernel
theorem dX9_copy_1 : decode cX9_copy 1 = .ok (.invokestatic 99, 3) := by decide +kernel
theorem dX9_copy_4 : decode cX9_copy 4 = .ok (.ifCond .eq 10, 3) := by decide +kernel
theorem dX9_copy_7 : decode cX9_copy 7 = .ok (.iload_n 3, 1) := by decide +kernel
theorem dX9_copy_8 : decode cX9_copy 8 = .ok (.invokestatic 99, 3) := by decide +kernel
theorem dX9_copy_11 : decode cX9_copy 11 = .ok (.ifCond .ne 6, 3) := by decide +kernel
theorem dX9_copy_14 : decode cX9_copy 14 = .ok (.bipush (-2), 2) := by decide +kernel
theorem dX9_copy_16 : decode cX9_copy 16 = .ok (.ireturn, 1) := by decide +kernel
theorem dX9_copy_17 : decode cX9_copy 17 = .ok (.aload_n 0, 1) := by decide +kernel
theorem dX9_copy_18 : decode cX9_copy 18 = .ok (.getfield 7, 3) := by decide +kernel
theorem dX9_copy_21 : decode cX9_copy 21 = .ok (.iload_n 1, 1) := by decide +kernel
theorem dX9_copy_22 : decode cX9_copy 22 = .ok (.iaload, 1) := by decide +kernel
theorem dX9_copy_23 : decode cX9_copy 23 = .ok (.ifCond .lt 12, 3) := by decide +kernel
theorem dX9_copy_26 : decode cX9_copy 26 = .ok (.aload_n 0, 1) := by decide +kernel
theorem dX9_copy_27 : decode cX9_copy 27 = .ok (.getfield 7, 3) := by decide +kernel
theorem dX9_copy_30 : decode cX9_copy 30 = .ok (.iload_n 3, 1) := by decide +kernel
theorem dX9_copy_31 : decode cX9_copy 31 = .ok (.iaload, 1) := by decide +kernel
theorem dX9_copy_32 : decode cX9_copy 32 = .ok (.ifCond .ge 9, 3) := by decide +kernel
theorem dX9_copy_35 : decode cX9_copy 35 = .ok (.aload_n 0, 1) := by decide +kernel
theorem dX9_copy_36 : decode cX9_copy 36 = .ok (.iconst 1, 1) := by decide +kernel
theorem dX9_copy_37 : decode cX9_copy 37 = .ok (.invokevirtual 105, 3) := by decide +kernel
theorem dX9_copy_40 : decode cX9_copy 40 = .ok (.ireturn, 1) := by decide +kernel
theorem dX9_copy_41 : decode cX9_copy 41 = .ok (.aload_n 0, 1) := by decide +kernel
theorem dX9_copy_42 : decode cX9_copy 42 = .ok (.getfield 7, 3) := by decide +kernel
theorem dX9_copy_45 : decode cX9_copy 45 = .ok (.iload_n 1, 1) := by decide +kernel
theorem dX9_copy_46 : decode cX9_copy 46 = .ok (.iaload, 1) := by decide +kernel
theorem dX9_copy_47 : decode cX9_copy 47 = .ok (.aload_n 0, 1) := by decide +kernel
theorem dX9_copy_48 : decode cX9_copy 48 = .ok (.getfield 7, 3) := by decide +kernel
theorem dX9_copy_51 : decode cX9_copy 51 = .ok (.iload_n 3, 1) := by decide +kernel
theorem dX9_copy_52 : decode cX9_copy 52 = .ok (.iaload, 1) := by decide +kernel
theorem dX9_copy_53 : decode cX9_copy 53 = .ok (.if_icmp .eq 9, 3) := by decide +kernel
theorem dX9_copy_56 : decode cX9_copy 56 = .ok (.aload_n 0, 1) := by decide +kernel
theorem dX9_copy_57 : decode cX9_copy 57 = .ok (.iconst 4, 1) := by decide +kernel
theorem dX9_copy_58 : decode cX9_copy 58 = .ok (.invokevirtual 105, 3) := by decide +kernel
theorem dX9_copy_61 : decode cX9_copy 61 = .ok (.ireturn, 1) := by decide +kernel
theorem dX9_copy_62 : decode cX9_copy 62 = .ok (.iload_n 2, 1) := by decide +kernel
theorem dX9_copy_63 : decode cX9_copy 63 = .ok (.ifCond .lt 48, 3) := by decide +kernel
theorem dX9_copy_66 : decode cX9_copy 66 = .ok (.iload 4, 2) := by decide +kernel
theorem dX9_copy_68 : decode cX9_copy 68 = .ok (.ifCond .lt 43, 3) := by decide +kernel
theorem dX9_copy_71 : decode cX9_copy 71 = .ok (.iload 5, 2) := by decide +kernel
theorem dX9_copy_73 : decode cX9_copy 73 = .ok (.ifCond .lt 38, 3) := by decide +kernel
theorem dX9_copy_76 : decode cX9_copy 76 = .ok (.iload_n 2, 1) := by decide +kernel
theorem dX9_copy_77 : decode cX9_copy 77 = .ok (.i2l, 1) := by decide +kernel
theorem dX9_copy_78 : decode cX9_copy 78 = .ok (.iload 5, 2) := by decide +kernel
theorem dX9_copy_80 : decode cX9_copy 80 = .ok (.i2l, 1) := by decide +kernel
theorem dX9_copy_81 : decode cX9_copy 81 = .ok (.ladd, 1) := by decide +kernel
theorem dX9_copy_82 : decode cX9_copy 82 = .ok (.aload_n 0, 1) := by decide +kernel
theorem dX9_copy_83 : decode cX9_copy 83 = .ok (.getfield 13, 3) := by decide +kernel
theorem dX9_copy_86 : decode cX9_copy 86 = .ok (.iload_n 1, 1) := by decide +kernel
theorem dX9_copy_87 : decode cX9_copy 87 = .ok (.iaload, 1) := by decide +kernel
theorem dX9_copy_88 : decode cX9_copy 88 = .ok (.i2l, 1) := by decide +kernel
theorem dX9_copy_89 : decode cX9_copy 89 = .ok (.lcmp, 1) := by decide +kernel
theorem dX9_copy_90 : decode cX9_copy 90 = .ok (.ifCond .gt 21, 3) := by decide +kernel
theorem dX9_copy_93 : decode cX9_copy 93 = .ok (.iload 4, 2) := by decide +kernel
theorem dX9_copy_95 : decode cX9_copy 95 = .ok (.i2l, 1) := by decide +kernel
theorem dX9_copy_96 : decode cX9_copy 96 = .ok (.iload 5, 2) := by decide +kernel
theorem dX9_copy_98 : decode cX9_copy 98 = .ok (.i2l, 1) := by decide +kernel
theorem dX9_copy_99 : decode cX9_copy 99 = .ok (.ladd, 1) := by decide +kernel
theorem dX9_copy_100 : decode cX9_copy 100 = .ok (.aload_n 0, 1) := by decide +kernel
theorem dX9_copy_101 : decode cX9_copy 101 = .ok (.getfield 13, 3) := by decide +kernel
theorem dX9_copy_104 : decode cX9_copy 104 = .ok (.iload_n 3, 1) := by decide +kernel
theorem dX9_copy_105 : decode cX9_copy 105 = .ok (.iaload, 1) := by decide +kernel
theorem dX9_copy_106 : decode cX9_copy 106 = .ok (.i2l, 1) := by decide +kernel
theorem dX9_copy_107 : decode cX9_copy 107 = .ok (.lcmp, 1) := by decide +kernel
theorem dX9_copy_108 : decode cX9_copy 108 = .ok (.ifCond .le 9, 3) := by decide +kernel
theorem dX9_copy_111 : decode cX9_copy 111 = .ok (.aload_n 0, 1) := by decide +kernel
theorem dX9_copy_112 : decode cX9_copy 112 = .ok (.iconst 2, 1) := by decide +kernel
theorem dX9_copy_113 : decode cX9_copy 113 = .ok (.invokevirtual 105, 3) := by decide +kernel
theorem dX9_copy_116 : decode cX9_copy 116 = .ok (.ireturn, 1) := by decide +kernel
theorem dX9_copy_117 : decode cX9_copy 117 = .ok (.iconst 0, 1) := by decide +kernel
theorem dX9_copy_118 : decode cX9_copy 118 = .ok (.istore 6, 2) := by decide +kernel
theorem dX9_copy_120 : decode cX9_copy 120 = .ok (.iload 6, 2) := by decide +kernel
theorem dX9_copy_122 : decode cX9_copy 122 = .ok (.iload 5, 2) := by decide +kernel
theorem dX9_copy_124 : decode cX9_copy 124 = .ok (.if_icmp .ge 30, 3) := by decide +kernel
theorem dX9_copy_127 : decode cX9_copy 127 = .ok (.aload_n 0, 1) := by decide +kernel
theorem dX9_copy_128 : decode cX9_copy 128 = .ok (.getfield 19, 3) := by decide +kernel
theorem dX9_copy_131 : decode cX9_copy 131 = .ok (.iload 6, 2) := by decide +kernel
theorem dX9_copy_133 : decode cX9_copy 133 = .ok (.aload_n 0, 1) := by decide +kernel
theorem dX9_copy_134 : decode cX9_copy 134 = .ok (.getfield 16, 3) := by decide +kernel
theorem dX9_copy_137 : decode cX9_copy 137 = .ok (.bipush 60, 2) := by decide +kernel
theorem dX9_copy_139 : decode cX9_copy 139 = .ok (.iload_n 1, 1) := by decide +kernel
theorem dX9_copy_140 : decode cX9_copy 140 = .ok (.imul, 1) := by decide +kernel
theorem dX9_copy_141 : decode cX9_copy 141 = .ok (.iload_n 2, 1) := by decide +kernel
theorem dX9_copy_142 : decode cX9_copy 142 = .ok (.iadd, 1) := by decide +kernel
theorem dX9_copy_143 : decode cX9_copy 143 = .ok (.iload 6, 2) := by decide +kernel
theorem dX9_copy_145 : decode cX9_copy 145 = .ok (.iadd, 1) := by decide +kernel
theorem dX9_copy_146 : decode cX9_copy 146 = .ok (.iaload, 1) := by decide +kernel
theorem dX9_copy_147 : decode cX9_copy 147 = .ok (.iastore, 1) := by decide +kernel
theorem dX9_copy_148 : decode cX9_copy 148 = .ok (.iinc 6 1, 3) := by decide +kernel
theorem dX9_copy_151 : decode cX9_copy 151 = .ok (.goto (-31), 3) := by decide +kernel
theorem dX9_copy_154 : decode cX9_copy 154 = .ok (.iconst 0, 1) := by decide +kernel
theorem dX9_copy_155 : decode cX9_copy 155 = .ok (.istore 6, 2) := by decide +kernel
theorem dX9_copy_157 : decode cX9_copy 157 = .ok (.iload 6, 2) := by decide +kernel
theorem dX9_copy_159 : decode cX9_copy 159 = .ok (.iload 5, 2) := by decide +kernel
theorem dX9_copy_161 : decode cX9_copy 161 = .ok (.if_icmp .ge 31, 3) := by decide +kernel
theorem dX9_copy_164 : decode cX9_copy 164 = .ok (.aload_n 0, 1) := by decide +kernel
theorem dX9_copy_165 : decode cX9_copy 165 = .ok (.getfield 16, 3) := by decide +kernel
theorem dX9_copy_168 : decode cX9_copy 168 = .ok (.bipush 60, 2) := by decide +kernel
theorem dX9_copy_170 : decode cX9_copy 170 = .ok (.iload_n 3, 1) := by decide +kernel
theorem dX9_copy_171 : decode cX9_copy 171 = .ok (.imul, 1) := by decide +kernel
theorem dX9_copy_172 : decode cX9_copy 172 = .ok (.iload 4, 2) := by decide +kernel
theorem dX9_copy_174 : decode cX9_copy 174 = .ok (.iadd, 1) := by decide +kernel
theorem dX9_copy_175 : decode cX9_copy 175 = .ok (.iload 6, 2) := by decide +kernel
theorem dX9_copy_177 : decode cX9_copy 177 = .ok (.iadd, 1) := by decide +kernel
theorem dX9_copy_178 : decode cX9_copy 178 = .ok (.aload_n 0, 1) := by decide +kernel
theorem dX9_copy_179 : decode cX9_copy 179 = .ok (.getfield 19, 3) := by decide +kernel
theorem dX9_copy_182 : decode cX9_copy 182 = .ok (.iload 6, 2) := by decide +kernel
theorem dX9_copy_184 : decode cX9_copy 184 = .ok (.iaload, 1) := by decide +kernel
theorem dX9_copy_185 : decode cX9_copy 185 = .ok (.iastore, 1) := by decide +kernel
theorem dX9_copy_186 : decode cX9_copy 186 = .ok (.iinc 6 1, 3) := by decide +kernel
theorem dX9_copy_189 : decode cX9_copy 189 = .ok (.goto (-32), 3) := by decide +kernel
theorem dX9_copy_192 : decode cX9_copy 192 = .ok (.iconst 1, 1) := by decide +kernel
theorem dX9_copy_193 : decode cX9_copy 193 = .ok (.ireturn, 1) := by decide +kernel
theorem dX9_type_0 : decode cX9_type 0 = .ok (.iload_n 1, 1) := by decide +kernel
theorem dX9_type_1 : decode cX9_type 1 = .ok (.i2l, 1) := by decide +kernel
theorem dX9_type_2 : decode cX9_type 2 = .ok (.lconst 0, 1) := by decide +kernel
theorem dX9_type_3 : decode cX9_type 3 = .ok (.ldc2_w 118, 3) := by decide +kernel
theorem dX9_type_6 : decode cX9_type 6 = .ok (.invokestatic 89, 3) := by decide +kernel
theorem dX9_type_9 : decode cX9_type 9 = .ok (.ifCond .ne 6, 3) := by decide +kernel
theorem dX9_type_12 : decode cX9_type 12 = .ok (.bipush (-2), 2) := by decide +kernel
theorem dX9_type_14 : decode cX9_type 14 = .ok (.ireturn, 1) := by decide +kernel
theorem dX9_type_15 : decode cX9_type 15 = .ok (.aload_n 0, 1) := by decide +kernel
theorem dX9_type_16 : decode cX9_type 16 = .ok (.getfield 120, 3) := by decide +kernel
theorem dX9_type_19 : decode cX9_type 19 = .ok (.bipush 60, 2) := by decide +kernel
theorem dX9_type_21 : decode cX9_type 21 = .ok (.if_icmp .ne 6, 3) := by decide +kernel
theorem dX9_type_24 : decode cX9_type 24 = .ok (.bipush (-4), 2) := by decide +kernel
theorem dX9_type_26 : decode cX9_type 26 = .ok (.ireturn, 1) := by decide +kernel
theorem dX9_type_27 : decode cX9_type 27 = .ok (.aload_n 0, 1) := by decide +kernel
theorem dX9_type_28 : decode cX9_type 28 = .ok (.getfield 22, 3) := by decide +kernel
theorem dX9_type_31 : decode cX9_type 31 = .ok (.aload_n 0, 1) := by decide +kernel
theorem dX9_type_32 : decode cX9_type 32 = .ok (.getfield 120, 3) := by decide +kernel
theorem dX9_type_35 : decode cX9_type 35 = .ok (.iload_n 1, 1) := by decide +kernel
theorem dX9_type_36 : decode cX9_type 36 = .ok (.iastore, 1) := by decide +kernel
theorem dX9_type_37 : decode cX9_type 37 = .ok (.aload_n 0, 1) := by decide +kernel
theorem dX9_type_38 : decode cX9_type 38 = .ok (.dup, 1) := by decide +kernel
theorem dX9_type_39 : decode cX9_type 39 = .ok (.getfield 120, 3) := by decide +kernel
theorem dX9_type_42 : decode cX9_type 42 = .ok (.iconst 1, 1) := by decide +kernel
theorem dX9_type_43 : decode cX9_type 43 = .ok (.iadd, 1) := by decide +kernel
theorem dX9_type_44 : decode cX9_type 44 = .ok (.putfield 120, 3) := by decide +kernel
theorem dX9_type_47 : decode cX9_type 47 = .ok (.aload_n 0, 1) := by decide +kernel
theorem dX9_type_48 : decode cX9_type 48 = .ok (.getfield 120, 3) := by decide +kernel
theorem dX9_type_51 : decode cX9_type 51 = .ok (.ireturn, 1) := by decide +kernel
theorem dX9_wipe_0 : decode cX9_wipe 0 = .ok (.aload_n 0, 1) := by decide +kernel
theorem dX9_wipe_1 : decode cX9_wipe 1 = .ok (.getfield 120, 3) := by decide +kernel
theorem dX9_wipe_4 : decode cX9_wipe 4 = .ok (.istore_n 1, 1) := by decide +kernel
theorem dX9_wipe_5 : decode cX9_wipe 5 = .ok (.aload_n 0, 1) := by decide +kernel
theorem dX9_wipe_6 : decode cX9_wipe 6 = .ok (.iconst 0, 1) := by decide +kernel
theorem dX9_wipe_7 : decode cX9_wipe 7 = .ok (.putfield 120, 3) := by decide +kernel
theorem dX9_wipe_10 : decode cX9_wipe 10 = .ok (.iload_n 1, 1) := by decide +kernel
theorem dX9_wipe_11 : decode cX9_wipe 11 = .ok (.ireturn, 1) := by decide +kernel
theorem dX9_here_0 : decode cX9_here 0 = .ok (.aload_n 0, 1) := by decide +kernel
theorem dX9_here_1 : decode cX9_here 1 = .ok (.getfield 123, 3) := by decide +kernel
theorem dX9_here_4 : decode cX9_here 4 = .ok (.aload_n 0, 1) := by decide +kernel
theorem dX9_here_5 : decode cX9_here 5 = .ok (.getfield 120, 3) := by decide +kernel
theorem dX9_here_8 : decode cX9_here 8 = .ok (.if_icmp .ge 15, 3) := by decide +kernel
theorem dX9_here_11 : decode cX9_here 11 = .ok (.aload_n 0, 1) := by decide +kernel
theorem dX9_here_12 : decode cX9_here 12 = .ok (.getfield 22, 3) := by decide +kernel
theorem dX9_here_15 : decode cX9_here 15 = .ok (.aload_n 0, 1) := by decide +kernel
theorem dX9_here_16 : decode cX9_here 16 = .ok (.getfield 123, 3) := by decide +kernel
theorem dX9_here_19 : decode cX9_here 19 = .ok (.iaload, 1) := by decide +kernel
theorem dX9_here_20 : decode cX9_here 20 = .ok (.goto 4, 3) := by decide +kernel
theorem dX9_here_23 : decode cX9_here 23 = .ok (.iconst (-1), 1) := by decide +kernel
theorem dX9_here_24 : decode cX9_here 24 = .ok (.ireturn, 1) := by decide +kernel
theorem dX9_clears_0 : decode cX9_clears 0 = .ok (.aload_n 0, 1) := by decide +kernel
theorem dX9_clears_1 : decode cX9_clears 1 = .ok (.iconst 0, 1) := by decide +kernel
theorem dX9_clears_2 : decode cX9_clears 2 = .ok (.putfield 126, 3) := by decide +kernel
theorem dX9_clears_5 : decode cX9_clears 5 = .ok (.aload_n 0, 1) := by decide +kernel
theorem dX9_clears_6 : decode cX9_clears 6 = .ok (.iconst 0, 1) := by decide +kernel
theorem dX9_clears_7 : decode cX9_clears 7 = .ok (.putfield 129, 3) := by decide +kernel
theorem dX9_clears_10 : decode cX9_clears 10 = .ok (.iconst 0, 1) := by decide +kernel
theorem dX9_clears_11 : decode cX9_clears 11 = .ok (.istore_n 1, 1) := by decide +kernel
theorem dX9_clears_12 : decode cX9_clears 12 = .ok (.iload_n 1, 1) := by decide +kernel
theorem dX9_clears_13 : decode cX9_clears 13 = .ok (.iconst 3, 1) := by decide +kernel
theorem dX9_clears_14 : decode cX9_clears 14 = .ok (.if_icmp .ge 16, 3) := by decide +kernel
theorem dX9_clears_17 : decode cX9_clears 17 = .ok (.aload_n 0, 1) := by decide +kernel
theorem dX9_clears_18 : decode cX9_clears 18 = .ok (.getfield 31, 3) := by decide +kernel
theorem dX9_clears_21 : decode cX9_clears 21 = .ok (.iload_n 1, 1) := by decide +kernel
theorem dX9_clears_22 : decode cX9_clears 22 = .ok (.iconst 0, 1) := by decide +kernel
theorem dX9_clears_23 : decode cX9_clears 23 = .ok (.iastore, 1) := by decide +kernel
theorem dX9_clears_24 : decode cX9_clears 24 = .ok (.iinc 1 1, 3) := by decide +kernel
theorem dX9_clears_27 : decode cX9_clears 27 = .ok (.goto (-15), 3) := by decide +kernel
theorem dX9_clears_30 : decode cX9_clears 30 = .ok (.return_, 1) := by decide +kernel
theorem dX9_figure_0 : decode cX9_figure 0 = .ok (.aload_n 0, 1) := by decide +kernel
theorem dX9_figure_1 : decode cX9_figure 1 = .ok (.invokevirtual 132, 3) := by decide +kernel
theorem dX9_figure_4 : decode cX9_figure 4 = .ok (.bipush 48, 2) := by decide +kernel
theorem dX9_figure_6 : decode cX9_figure 6 = .ok (.isub, 1) := by decide +kernel
theorem dX9_figure_7 : decode cX9_figure 7 = .ok (.istore_n 2, 1) := by decide +kernel
theorem dX9_figure_8 : decode cX9_figure 8 = .ok (.iload_n 2, 1) := by decide +kernel
theorem dX9_figure_9 : decode cX9_figure 9 = .ok (.i2l, 1) := by decide +kernel
theorem dX9_figure_10 : decode cX9_figure 10 = .ok (.lconst 0, 1) := by decide +kernel
theorem dX9_figure_11 : decode cX9_figure 11 = .ok (.iload_n 1, 1) := by decide +kernel
theorem dX9_figure_12 : decode cX9_figure 12 = .ok (.i2l, 1) := by decide +kernel
theorem dX9_figure_13 : decode cX9_figure 13 = .ok (.invokestatic 89, 3) := by decide +kernel
theorem dX9_figure_16 : decode cX9_figure 16 = .ok (.ifCond .ne 5, 3) := by decide +kernel
theorem dX9_figure_19 : decode cX9_figure 19 = .ok (.iconst (-1), 1) := by decide +kernel
theorem dX9_figure_20 : decode cX9_figure 20 = .ok (.ireturn, 1) := by decide +kernel
theorem dX9_figure_21 : decode cX9_figure 21 = .ok (.aload_n 0, 1) := by decide +kernel
theorem dX9_figure_22 : decode cX9_figure 22 = .ok (.dup, 1) := by decide +kernel
theorem dX9_figure_23 : decode cX9_figure 23 = .ok (.getfield 123, 3) := by decide +kernel
theorem dX9_figure_26 : decode cX9_figure 26 = .ok (.iconst 1, 1) := by decide +kernel
theorem dX9_figure_27 : decode cX9_figure 27 = .ok (.iadd, 1) := by decide +kernel
theorem dX9_figure_28 : decode cX9_figure 28 = .ok (.putfield 123, 3) := by decide +kernel
theorem dX9_figure_31 : decode cX9_figure 31 = .ok (.iload_n 2, 1) := by decide +kernel
theorem dX9_figure_32 : decode cX9_figure 32 = .ok (.ireturn, 1) := by decide +kernel
theorem dX9_readsPerson_0 : decode cX9_readsPerson 0 = .ok (.aload_n 0, 1) := by decide +kernel
theorem dX9_readsPerson_1 : decode cX9_readsPerson 1 = .ok (.getfield 126, 3) := by decide +kernel
theorem dX9_readsPerson_4 : decode cX9_readsPerson 4 = .ok (.iconst 4, 1) := by decide +kernel
theorem dX9_readsPerson_5 : decode cX9_readsPerson 5 = .ok (.if_icmp .ne 5, 3) := by decide +kernel
theorem dX9_readsPerson_8 : decode cX9_readsPerson 8 = .ok (.iconst 0, 1) := by decide +kernel
theorem dX9_readsPerson_9 : decode cX9_readsPerson 9 = .ok (.ireturn, 1) := by decide +kernel
theorem dX9_readsPerson_10 : decode cX9_readsPerson 10 = .ok (.aload_n 0, 1) := by decide +kernel
theorem dX9_readsPerson_11 : decode cX9_readsPerson 11 = .ok (.dup, 1) := by decide +kernel
theorem dX9_readsPerson_12 : decode cX9_readsPerson 12 = .ok (.getfield 123, 3) := by decide +kernel
theorem dX9_readsPerson_15 : decode cX9_readsPerson 15 = .ok (.iconst 1, 1) := by decide +kernel
theorem dX9_readsPerson_16 : decode cX9_readsPerson 16 = .ok (.iadd, 1) := by decide +kernel
theorem dX9_readsPerson_17 : decode cX9_readsPerson 17 = .ok (.putfield 123, 3) := by decide +kernel
theorem dX9_readsPerson_20 : decode cX9_readsPerson 20 = .ok (.iconst 0, 1) := by decide +kernel
theorem dX9_readsPerson_21 : decode cX9_readsPerson 21 = .ok (.istore_n 1, 1) := by decide +kernel
theorem dX9_readsPerson_22 : decode cX9_readsPerson 22 = .ok (.iload_n 1, 1) := by decide +kernel
theorem dX9_readsPerson_23 : decode cX9_readsPerson 23 = .ok (.iconst 4, 1) := by decide +kernel
theorem dX9_readsPerson_24 : decode cX9_readsPerson 24 = .ok (.if_icmp .ge 36, 3) := by decide +kernel
theorem dX9_readsPerson_27 : decode cX9_readsPerson 27 = .ok (.aload_n 0, 1) := by decide +kernel
theorem dX9_readsPerson_28 : decode cX9_readsPerson 28 = .ok (.bipush 9, 2) := by decide +kernel
theorem dX9_readsPerson_30 : decode cX9_readsPerson 30 = .ok (.invokevirtual 136, 3) := by decide +kernel
theorem dX9_readsPerson_33 : decode cX9_readsPerson 33 = .ok (.istore_n 2, 1) := by decide +kernel
theorem dX9_readsPerson_34 : decode cX9_readsPerson 34 = .ok (.iload_n 2, 1) := by decide +kernel
theorem dX9_readsPerson_35 : decode cX9_readsPerson 35 = .ok (.ifCond .ge 5, 3) := by decide +kernel
theorem dX9_readsPerson_38 : decode cX9_readsPerson 38 = .ok (.iconst 0, 1) := by decide +kernel
theorem dX9_readsPerson_39 : decode cX9_readsPerson 39 = .ok (.ireturn, 1) := by decide +kernel
theorem dX9_readsPerson_40 : decode cX9_readsPerson 40 = .ok (.aload_n 0, 1) := by decide +kernel
theorem dX9_readsPerson_41 : decode cX9_readsPerson 41 = .ok (.getfield 25, 3) := by decide +kernel
theorem dX9_readsPerson_44 : decode cX9_readsPerson 44 = .ok (.iconst 4, 1) := by decide +kernel
theorem dX9_readsPerson_45 : decode cX9_readsPerson 45 = .ok (.aload_n 0, 1) := by decide +kernel
theorem dX9_readsPerson_46 : decode cX9_readsPerson 46 = .ok (.getfield 126, 3) := by decide +kernel
theorem dX9_readsPerson_49 : decode cX9_readsPerson 49 = .ok (.imul, 1) := by decide +kernel
theorem dX9_readsPerson_50 : decode cX9_readsPerson 50 = .ok (.iload_n 1, 1) := by decide +kernel
theorem dX9_readsPerson_51 : decode cX9_readsPerson 51 = .ok (.iadd, 1) := by decide +kernel
theorem dX9_readsPerson_52 : decode cX9_readsPerson 52 = .ok (.iload_n 2, 1) := by decide +kernel
theorem dX9_readsPerson_53 : decode cX9_readsPerson 53 = .ok (.iastore, 1) := by decide +kernel
theorem dX9_readsPerson_54 : decode cX9_readsPerson 54 = .ok (.iinc 1 1, 3) := by decide +kernel
theorem dX9_readsPerson_57 : decode cX9_readsPerson 57 = .ok (.goto (-35), 3) := by decide +kernel
theorem dX9_readsPerson_60 : decode cX9_readsPerson 60 = .ok (.aload_n 0, 1) := by decide +kernel
theorem dX9_readsPerson_61 : decode cX9_readsPerson 61 = .ok (.dup, 1) := by decide +kernel
theorem dX9_readsPerson_62 : decode cX9_readsPerson 62 = .ok (.getfield 126, 3) := by decide +kernel
theorem dX9_readsPerson_65 : decode cX9_readsPerson 65 = .ok (.iconst 1, 1) := by decide +kernel
theorem dX9_readsPerson_66 : decode cX9_readsPerson 66 = .ok (.iadd, 1) := by decide +kernel
theorem dX9_readsPerson_67 : decode cX9_readsPerson 67 = .ok (.putfield 126, 3) := by decide +kernel
theorem dX9_readsPerson_70 : decode cX9_readsPerson 70 = .ok (.iconst 1, 1) := by decide +kernel
theorem dX9_readsPerson_71 : decode cX9_readsPerson 71 = .ok (.ireturn, 1) := by decide +kernel
theorem dX9_readsTale_0 : decode cX9_readsTale 0 = .ok (.aload_n 0, 1) := by decide +kernel
theorem dX9_readsTale_1 : decode cX9_readsTale 1 = .ok (.getfield 129, 3) := by decide +kernel
theorem dX9_readsTale_4 : decode cX9_readsTale 4 = .ok (.iconst 4, 1) := by decide +kernel
theorem dX9_readsTale_5 : decode cX9_readsTale 5 = .ok (.if_icmp .ne 5, 3) := by decide +kernel
theorem dX9_readsTale_8 : decode cX9_readsTale 8 = .ok (.iconst 0, 1) := by decide +kernel
theorem dX9_readsTale_9 : decode cX9_readsTale 9 = .ok (.ireturn, 1) := by decide +kernel
theorem dX9_readsTale_10 : decode cX9_readsTale 10 = .ok (.aload_n 0, 1) := by decide +kernel
theorem dX9_readsTale_11 : decode cX9_readsTale 11 = .ok (.dup, 1) := by decide +kernel
theorem dX9_readsTale_12 : decode cX9_readsTale 12 = .ok (.getfield 123, 3) := by decide +kernel
theorem dX9_readsTale_15 : decode cX9_readsTale 15 = .ok (.iconst 1, 1) := by decide +kernel
theorem dX9_readsTale_16 : decode cX9_readsTale 16 = .ok (.iadd, 1) := by decide +kernel
theorem dX9_readsTale_17 : decode cX9_readsTale 17 = .ok (.putfield 123, 3) := by decide +kernel
theorem dX9_readsTale_20 : decode cX9_readsTale 20 = .ok (.aload_n 0, 1) := by decide +kernel
theorem dX9_readsTale_21 : decode cX9_readsTale 21 = .ok (.bipush 9, 2) := by decide +kernel
theorem dX9_readsTale_23 : decode cX9_readsTale 23 = .ok (.invokevirtual 136, 3) := by decide +kernel
theorem dX9_readsTale_26 : decode cX9_readsTale 26 = .ok (.istore_n 1, 1) := by decide +kernel
theorem dX9_readsTale_27 : decode cX9_readsTale 27 = .ok (.iload_n 1, 1) := by decide +kernel
theorem dX9_readsTale_28 : decode cX9_readsTale 28 = .ok (.ifCond .ge 5, 3) := by decide +kernel
theorem dX9_readsTale_31 : decode cX9_readsTale 31 = .ok (.iconst 0, 1) := by decide +kernel
theorem dX9_readsTale_32 : decode cX9_readsTale 32 = .ok (.ireturn, 1) := by decide +kernel
theorem dX9_readsTale_33 : decode cX9_readsTale 33 = .ok (.aload_n 0, 1) := by decide +kernel
theorem dX9_readsTale_34 : decode cX9_readsTale 34 = .ok (.getfield 28, 3) := by decide +kernel
theorem dX9_readsTale_37 : decode cX9_readsTale 37 = .ok (.aload_n 0, 1) := by decide +kernel
theorem dX9_readsTale_38 : decode cX9_readsTale 38 = .ok (.getfield 129, 3) := by decide +kernel
theorem dX9_readsTale_41 : decode cX9_readsTale 41 = .ok (.iload_n 1, 1) := by decide +kernel
theorem dX9_readsTale_42 : decode cX9_readsTale 42 = .ok (.iastore, 1) := by decide +kernel
theorem dX9_readsTale_43 : decode cX9_readsTale 43 = .ok (.aload_n 0, 1) := by decide +kernel
theorem dX9_readsTale_44 : decode cX9_readsTale 44 = .ok (.dup, 1) := by decide +kernel
theorem dX9_readsTale_45 : decode cX9_readsTale 45 = .ok (.getfield 129, 3) := by decide +kernel
theorem dX9_readsTale_48 : decode cX9_readsTale 48 = .ok (.iconst 1, 1) := by decide +kernel
theorem dX9_readsTale_49 : decode cX9_readsTale 49 = .ok (.iadd, 1) := by decide +kernel
theorem dX9_readsTale_50 : decode cX9_readsTale 50 = .ok (.putfield 129, 3) := by decide +kernel
theorem dX9_readsTale_53 : decode cX9_readsTale 53 = .ok (.iconst 1, 1) := by decide +kernel
theorem dX9_readsTale_54 : decode cX9_readsTale 54 = .ok (.ireturn, 1) := by decide +kernel
theorem dX9_readsLaw_0 : decode cX9_readsLaw 0 = .ok (.aload_n 0, 1) := by decide +kernel
theorem dX9_readsLaw_1 : decode cX9_readsLaw 1 = .ok (.dup, 1) := by decide +kernel
theorem dX9_readsLaw_2 : decode cX9_readsLaw 2 = .ok (.getfield 123, 3) := by decide +kernel
theorem dX9_readsLaw_5 : decode cX9_readsLaw 5 = .ok (.iconst 1, 1) := by decide +kernel
theorem dX9_readsLaw_6 : decode cX9_readsLaw 6 = .ok (.iadd, 1) := by decide +kernel
theorem dX9_readsLaw_7 : decode cX9_readsLaw 7 = .ok (.putfield 123, 3) := by decide +kernel
theorem dX9_readsLaw_10 : decode cX9_readsLaw 10 = .ok (.aload_n 0, 1) := by decide +kernel
theorem dX9_readsLaw_11 : decode cX9_readsLaw 11 = .ok (.iload_n 1, 1) := by decide +kernel
theorem dX9_readsLaw_12 : decode cX9_readsLaw 12 = .ok (.iconst 2, 1) := by decide +kernel
theorem dX9_readsLaw_13 : decode cX9_readsLaw 13 = .ok (.if_icmp .ne 7, 3) := by decide +kernel
theorem dX9_readsLaw_16 : decode cX9_readsLaw 16 = .ok (.iconst 3, 1) := by decide +kernel
theorem dX9_readsLaw_17 : decode cX9_readsLaw 17 = .ok (.goto 4, 3) := by decide +kernel
theorem dX9_readsLaw_20 : decode cX9_readsLaw 20 = .ok (.iconst 2, 1) := by decide +kernel
theorem dX9_readsLaw_21 : decode cX9_readsLaw 21 = .ok (.invokevirtual 136, 3) := by decide +kernel
theorem dX9_readsLaw_24 : decode cX9_readsLaw 24 = .ok (.istore_n 2, 1) := by decide +kernel
theorem dX9_readsLaw_25 : decode cX9_readsLaw 25 = .ok (.iload_n 2, 1) := by decide +kernel
theorem dX9_readsLaw_26 : decode cX9_readsLaw 26 = .ok (.ifCond .ge 5, 3) := by decide +kernel
theorem dX9_readsLaw_29 : decode cX9_readsLaw 29 = .ok (.iconst 0, 1) := by decide +kernel
theorem dX9_readsLaw_30 : decode cX9_readsLaw 30 = .ok (.ireturn, 1) := by decide +kernel
theorem dX9_readsLaw_31 : decode cX9_readsLaw 31 = .ok (.aload_n 0, 1) := by decide +kernel
theorem dX9_readsLaw_32 : decode cX9_readsLaw 32 = .ok (.getfield 31, 3) := by decide +kernel
theorem dX9_readsLaw_35 : decode cX9_readsLaw 35 = .ok (.iload_n 1, 1) := by decide +kernel
theorem dX9_readsLaw_36 : decode cX9_readsLaw 36 = .ok (.iload_n 2, 1) := by decide +kernel
theorem dX9_readsLaw_37 : decode cX9_readsLaw 37 = .ok (.iastore, 1) := by decide +kernel
theorem dX9_readsLaw_38 : decode cX9_readsLaw 38 = .ok (.iconst 1, 1) := by decide +kernel
theorem dX9_readsLaw_39 : decode cX9_readsLaw 39 = .ok (.ireturn, 1) := by decide +kernel
theorem dX9_readsPart_0 : decode cX9_readsPart 0 = .ok (.aload_n 0, 1) := by decide +kernel
theorem dX9_readsPart_1 : decode cX9_readsPart 1 = .ok (.invokevirtual 132, 3) := by decide +kernel
theorem dX9_readsPart_4 : decode cX9_readsPart 4 = .ok (.istore_n 1, 1) := by decide +kernel
theorem dX9_readsPart_5 : decode cX9_readsPart 5 = .ok (.iload_n 1, 1) := by decide +kernel
theorem dX9_readsPart_6 : decode cX9_readsPart 6 = .ok (.bipush 112, 2) := by decide +kernel
theorem dX9_readsPart_8 : decode cX9_readsPart 8 = .ok (.if_icmp .ne 8, 3) := by decide +kernel
theorem dX9_readsPart_11 : decode cX9_readsPart 11 = .ok (.aload_n 0, 1) := by decide +kernel
theorem dX9_readsPart_12 : decode cX9_readsPart 12 = .ok (.invokevirtual 139, 3) := by decide +kernel
theorem dX9_readsPart_15 : decode cX9_readsPart 15 = .ok (.ireturn, 1) := by decide +kernel
theorem dX9_readsPart_16 : decode cX9_readsPart 16 = .ok (.iload_n 1, 1) := by decide +kernel
theorem dX9_readsPart_17 : decode cX9_readsPart 17 = .ok (.bipush 116, 2) := by decide +kernel
theorem dX9_readsPart_19 : decode cX9_readsPart 19 = .ok (.if_icmp .ne 8, 3) := by decide +kernel
theorem dX9_readsPart_22 : decode cX9_readsPart 22 = .ok (.aload_n 0, 1) := by decide +kernel
theorem dX9_readsPart_23 : decode cX9_readsPart 23 = .ok (.invokevirtual 143, 3) := by decide +kernel
theorem dX9_readsPart_26 : decode cX9_readsPart 26 = .ok (.ireturn, 1) := by decide +kernel
theorem dX9_readsPart_27 : decode cX9_readsPart 27 = .ok (.iload_n 1, 1) := by decide +kernel
theorem dX9_readsPart_28 : decode cX9_readsPart 28 = .ok (.bipush 108, 2) := by decide +kernel
theorem dX9_readsPart_30 : decode cX9_readsPart 30 = .ok (.if_icmp .eq 15, 3) := by decide +kernel
theorem dX9_readsPart_33 : decode cX9_readsPart 33 = .ok (.iload_n 1, 1) := by decide +kernel
theorem dX9_readsPart_34 : decode cX9_readsPart 34 = .ok (.bipush 109, 2) := by decide +kernel
theorem dX9_readsPart_36 : decode cX9_readsPart 36 = .ok (.if_icmp .eq 9, 3) := by decide +kernel
theorem dX9_readsPart_39 : decode cX9_readsPart 39 = .ok (.iload_n 1, 1) := by decide +kernel
theorem dX9_readsPart_40 : decode cX9_readsPart 40 = .ok (.bipush 111, 2) := by decide +kernel
theorem dX9_readsPart_42 : decode cX9_readsPart 42 = .ok (.if_icmp .ne 35, 3) := by decide +kernel
theorem dX9_readsPart_45 : decode cX9_readsPart 45 = .ok (.aload_n 0, 1) := by decide +kernel
theorem dX9_readsPart_46 : decode cX9_readsPart 46 = .ok (.iload_n 1, 1) := by decide +kernel
theorem dX9_readsPart_47 : decode cX9_readsPart 47 = .ok (.bipush 108, 2) := by decide +kernel
theorem dX9_readsPart_49 : decode cX9_readsPart 49 = .ok (.if_icmp .ne 7, 3) := by decide +kernel
theorem dX9_readsPart_52 : decode cX9_readsPart 52 = .ok (.iconst 0, 1) := by decide +kernel
theorem dX9_readsPart_53 : decode cX9_readsPart 53 = .ok (.goto 14, 3) := by decide +kernel
theorem dX9_readsPart_56 : decode cX9_readsPart 56 = .ok (.iload_n 1, 1) := by decide +kernel
theorem dX9_readsPart_57 : decode cX9_readsPart 57 = .ok (.bipush 109, 2) := by decide +kernel
theorem dX9_readsPart_59 : decode cX9_readsPart 59 = .ok (.if_icmp .ne 7, 3) := by decide +kernel
theorem dX9_readsPart_62 : decode cX9_readsPart 62 = .ok (.iconst 1, 1) := by decide +kernel
theorem dX9_readsPart_63 : decode cX9_readsPart 63 = .ok (.goto 4, 3) := by decide +kernel
theorem dX9_readsPart_66 : decode cX9_readsPart 66 = .ok (.iconst 2, 1) := by decide +kernel
theorem dX9_readsPart_67 : decode cX9_readsPart 67 = .ok (.invokevirtual 146, 3) := by decide +kernel
theorem dX9_readsPart_70 : decode cX9_readsPart 70 = .ok (.ifCond .eq 7, 3) := by decide +kernel
theorem dX9_readsPart_73 : decode cX9_readsPart 73 = .ok (.iconst 1, 1) := by decide +kernel
theorem dX9_readsPart_74 : decode cX9_readsPart 74 = .ok (.goto 4, 3) := by decide +kernel
theorem dX9_readsPart_77 : decode cX9_readsPart 77 = .ok (.iconst 0, 1) := by decide +kernel
theorem dX9_readsPart_78 : decode cX9_readsPart 78 = .ok (.ireturn, 1) := by decide +kernel
theorem dX9_reads_0 : decode cX9_reads 0 = .ok (.aload_n 0, 1) := by decide +kernel
theorem dX9_reads_1 : decode cX9_reads 1 = .ok (.iconst 0, 1) := by decide +kernel
theorem dX9_reads_2 : decode cX9_reads 2 = .ok (.putfield 123, 3) := by decide +kernel
theorem dX9_reads_5 : decode cX9_reads 5 = .ok (.aload_n 0, 1) := by decide +kernel
theorem dX9_reads_6 : decode cX9_reads 6 = .ok (.invokevirtual 149, 3) := by decide +kernel
theorem dX9_reads_9 : decode cX9_reads 9 = .ok (.aload_n 0, 1) := by decide +kernel
theorem dX9_reads_10 : decode cX9_reads 10 = .ok (.getfield 120, 3) := by decide +kernel
theorem dX9_reads_13 : decode cX9_reads 13 = .ok (.ifCond .le 7, 3) := by decide +kernel
theorem dX9_reads_16 : decode cX9_reads 16 = .ok (.iconst 1, 1) := by decide +kernel
theorem dX9_reads_17 : decode cX9_reads 17 = .ok (.goto 4, 3) := by decide +kernel
theorem dX9_reads_20 : decode cX9_reads 20 = .ok (.iconst 0, 1) := by decide +kernel
theorem dX9_reads_21 : decode cX9_reads 21 = .ok (.istore_n 1, 1) := by decide +kernel
theorem dX9_reads_22 : decode cX9_reads 22 = .ok (.iload_n 1, 1) := by decide +kernel
theorem dX9_reads_23 : decode cX9_reads 23 = .ok (.ifCond .eq 79, 3) := by decide +kernel
theorem dX9_reads_26 : decode cX9_reads 26 = .ok (.aload_n 0, 1) := by decide +kernel
theorem dX9_reads_27 : decode cX9_reads 27 = .ok (.invokevirtual 152, 3) := by decide +kernel
theorem dX9_reads_30 : decode cX9_reads 30 = .ok (.ifCond .ne 12, 3) := by decide +kernel
theorem dX9_reads_33 : decode cX9_reads 33 = .ok (.aload_n 0, 1) := by decide +kernel
theorem dX9_reads_34 : decode cX9_reads 34 = .ok (.invokevirtual 149, 3) := by decide +kernel
theorem dX9_reads_37 : decode cX9_reads 37 = .ok (.aload_n 0, 1) := by decide +kernel
theorem dX9_reads_38 : decode cX9_reads 38 = .ok (.getfield 123, 3) := by decide +kernel
theorem dX9_reads_41 : decode cX9_reads 41 = .ok (.ireturn, 1) := by decide +kernel
theorem dX9_reads_42 : decode cX9_reads 42 = .ok (.aload_n 0, 1) := by decide +kernel
theorem dX9_reads_43 : decode cX9_reads 43 = .ok (.getfield 123, 3) := by decide +kernel
theorem dX9_reads_46 : decode cX9_reads 46 = .ok (.aload_n 0, 1) := by decide +kernel
theorem dX9_reads_47 : decode cX9_reads 47 = .ok (.getfield 120, 3) := by decide +kernel
theorem dX9_reads_50 : decode cX9_reads 50 = .ok (.if_icmp .ge 7, 3) := by decide +kernel
theorem dX9_reads_53 : decode cX9_reads 53 = .ok (.iconst 1, 1) := by decide +kernel
theorem dX9_reads_54 : decode cX9_reads 54 = .ok (.goto 4, 3) := by decide +kernel
theorem dX9_reads_57 : decode cX9_reads 57 = .ok (.iconst 0, 1) := by decide +kernel
theorem dX9_reads_58 : decode cX9_reads 58 = .ok (.istore_n 1, 1) := by decide +kernel
theorem dX9_reads_59 : decode cX9_reads 59 = .ok (.iload_n 1, 1) := by decide +kernel
theorem dX9_reads_60 : decode cX9_reads 60 = .ok (.ifCond .eq 21, 3) := by decide +kernel
theorem dX9_reads_63 : decode cX9_reads 63 = .ok (.aload_n 0, 1) := by decide +kernel
theorem dX9_reads_64 : decode cX9_reads 64 = .ok (.invokevirtual 132, 3) := by decide +kernel
theorem dX9_reads_67 : decode cX9_reads 67 = .ok (.bipush 59, 2) := by decide +kernel
theorem dX9_reads_69 : decode cX9_reads 69 = .ok (.if_icmp .eq 12, 3) := by decide +kernel
theorem dX9_reads_72 : decode cX9_reads 72 = .ok (.aload_n 0, 1) := by decide +kernel
theorem dX9_reads_73 : decode cX9_reads 73 = .ok (.invokevirtual 149, 3) := by decide +kernel
theorem dX9_reads_76 : decode cX9_reads 76 = .ok (.aload_n 0, 1) := by decide +kernel
theorem dX9_reads_77 : decode cX9_reads 77 = .ok (.getfield 123, 3) := by decide +kernel
theorem dX9_reads_80 : decode cX9_reads 80 = .ok (.ireturn, 1) := by decide +kernel
theorem dX9_reads_81 : decode cX9_reads 81 = .ok (.aload_n 0, 1) := by decide +kernel
theorem dX9_reads_82 : decode cX9_reads 82 = .ok (.dup, 1) := by decide +kernel
theorem dX9_reads_83 : decode cX9_reads 83 = .ok (.getfield 123, 3) := by decide +kernel
theorem dX9_reads_86 : decode cX9_reads 86 = .ok (.iload_n 1, 1) := by decide +kernel
theorem dX9_reads_87 : decode cX9_reads 87 = .ok (.ifCond .eq 7, 3) := by decide +kernel
theorem dX9_reads_90 : decode cX9_reads 90 = .ok (.iconst 1, 1) := by decide +kernel
theorem dX9_reads_91 : decode cX9_reads 91 = .ok (.goto 4, 3) := by decide +kernel
theorem dX9_reads_94 : decode cX9_reads 94 = .ok (.iconst 0, 1) := by decide +kernel
theorem dX9_reads_95 : decode cX9_reads 95 = .ok (.iadd, 1) := by decide +kernel
theorem dX9_reads_96 : decode cX9_reads 96 = .ok (.putfield 123, 3) := by decide +kernel
theorem dX9_reads_99 : decode cX9_reads 99 = .ok (.goto (-77), 3) := by decide +kernel
theorem dX9_reads_102 : decode cX9_reads 102 = .ok (.iconst (-1), 1) := by decide +kernel
theorem dX9_reads_103 : decode cX9_reads 103 = .ok (.ireturn, 1) := by decide +kernel
theorem dX9_fault_0 : decode cX9_fault 0 = .ok (.aload_n 0, 1) := by decide +kernel
theorem dX9_fault_1 : decode cX9_fault 1 = .ok (.invokevirtual 155, 3) := by decide +kernel
theorem dX9_fault_4 : decode cX9_fault 4 = .ok (.ireturn, 1) := by decide +kernel
theorem dX9_isPerson_0 : decode cX9_isPerson 0 = .ok (.aload_n 0, 1) := by decide +kernel
theorem dX9_isPerson_1 : decode cX9_isPerson 1 = .ok (.invokevirtual 155, 3) := by decide +kernel
theorem dX9_isPerson_4 : decode cX9_isPerson 4 = .ok (.pop, 1) := by decide +kernel
theorem dX9_isPerson_5 : decode cX9_isPerson 5 = .ok (.iload_n 1, 1) := by decide +kernel
theorem dX9_isPerson_6 : decode cX9_isPerson 6 = .ok (.i2l, 1) := by decide +kernel
theorem dX9_isPerson_7 : decode cX9_isPerson 7 = .ok (.lconst 0, 1) := by decide +kernel
theorem dX9_isPerson_8 : decode cX9_isPerson 8 = .ok (.aload_n 0, 1) := by decide +kernel
theorem dX9_isPerson_9 : decode cX9_isPerson 9 = .ok (.getfield 126, 3) := by decide +kernel
theorem dX9_isPerson_12 : decode cX9_isPerson 12 = .ok (.iconst 1, 1) := by decide +kernel
theorem dX9_isPerson_13 : decode cX9_isPerson 13 = .ok (.isub, 1) := by decide +kernel
theorem dX9_isPerson_14 : decode cX9_isPerson 14 = .ok (.i2l, 1) := by decide +kernel
theorem dX9_isPerson_15 : decode cX9_isPerson 15 = .ok (.invokestatic 89, 3) := by decide +kernel
theorem dX9_isPerson_18 : decode cX9_isPerson 18 = .ok (.ireturn, 1) := by decide +kernel
theorem dX9_isAnyone_0 : decode cX9_isAnyone 0 = .ok (.iload_n 0, 1) := by decide +kernel
theorem dX9_isAnyone_1 : decode cX9_isAnyone 1 = .ok (.i2l, 1) := by decide +kernel
theorem dX9_isAnyone_2 : decode cX9_isAnyone 2 = .ok (.lconst 0, 1) := by decide +kernel
theorem dX9_isAnyone_3 : decode cX9_isAnyone 3 = .ok (.ldc2_w 97, 3) := by decide +kernel
theorem dX9_isAnyone_6 : decode cX9_isAnyone 6 = .ok (.invokestatic 89, 3) := by decide +kernel
theorem dX9_isAnyone_9 : decode cX9_isAnyone 9 = .ok (.ireturn, 1) := by decide +kernel
theorem dX9_person_0 : decode cX9_person 0 = .ok (.aload_n 0, 1) := by decide +kernel
theorem dX9_person_1 : decode cX9_person 1 = .ok (.iload_n 1, 1) := by decide +kernel
theorem dX9_person_2 : decode cX9_person 2 = .ok (.invokevirtual 158, 3) := by decide +kernel
theorem dX9_person_5 : decode cX9_person 5 = .ok (.ifCond .eq 28, 3) := by decide +kernel
theorem dX9_person_8 : decode cX9_person 8 = .ok (.iload_n 2, 1) := by decide +kernel
theorem dX9_person_9 : decode cX9_person 9 = .ok (.i2l, 1) := by decide +kernel
theorem dX9_person_10 : decode cX9_person 10 = .ok (.lconst 0, 1) := by decide +kernel
theorem dX9_person_11 : decode cX9_person 11 = .ok (.ldc2_w 97, 3) := by decide +kernel
theorem dX9_person_14 : decode cX9_person 14 = .ok (.invokestatic 89, 3) := by decide +kernel
theorem dX9_person_17 : decode cX9_person 17 = .ok (.ifCond .eq 16, 3) := by decide +kernel
theorem dX9_person_20 : decode cX9_person 20 = .ok (.aload_n 0, 1) := by decide +kernel
theorem dX9_person_21 : decode cX9_person 21 = .ok (.getfield 25, 3) := by decide +kernel
theorem dX9_person_24 : decode cX9_person 24 = .ok (.iconst 4, 1) := by decide +kernel
theorem dX9_person_25 : decode cX9_person 25 = .ok (.iload_n 1, 1) := by decide +kernel
theorem dX9_person_26 : decode cX9_person 26 = .ok (.imul, 1) := by decide +kernel
theorem dX9_person_27 : decode cX9_person 27 = .ok (.iload_n 2, 1) := by decide +kernel
theorem dX9_person_28 : decode cX9_person 28 = .ok (.iadd, 1) := by decide +kernel
theorem dX9_person_29 : decode cX9_person 29 = .ok (.iaload, 1) := by decide +kernel
theorem dX9_person_30 : decode cX9_person 30 = .ok (.goto 5, 3) := by decide +kernel
theorem dX9_person_33 : decode cX9_person 33 = .ok (.bipush (-2), 2) := by decide +kernel
theorem dX9_person_35 : decode cX9_person 35 = .ok (.ireturn, 1) := by decide +kernel
theorem dX9_tale_0 : decode cX9_tale 0 = .ok (.aload_n 0, 1) := by decide +kernel
theorem dX9_tale_1 : decode cX9_tale 1 = .ok (.invokevirtual 155, 3) := by decide +kernel
theorem dX9_tale_4 : decode cX9_tale 4 = .ok (.pop, 1) := by decide +kernel
theorem dX9_tale_5 : decode cX9_tale 5 = .ok (.iload_n 1, 1) := by decide +kernel
theorem dX9_tale_6 : decode cX9_tale 6 = .ok (.i2l, 1) := by decide +kernel
theorem dX9_tale_7 : decode cX9_tale 7 = .ok (.lconst 0, 1) := by decide +kernel
theorem dX9_tale_8 : decode cX9_tale 8 = .ok (.aload_n 0, 1) := by decide +kernel
theorem dX9_tale_9 : decode cX9_tale 9 = .ok (.getfield 129, 3) := by decide +kernel
theorem dX9_tale_12 : decode cX9_tale 12 = .ok (.iconst 1, 1) := by decide +kernel
theorem dX9_tale_13 : decode cX9_tale 13 = .ok (.isub, 1) := by decide +kernel
theorem dX9_tale_14 : decode cX9_tale 14 = .ok (.i2l, 1) := by decide +kernel
theorem dX9_tale_15 : decode cX9_tale 15 = .ok (.invokestatic 89, 3) := by decide +kernel
theorem dX9_tale_18 : decode cX9_tale 18 = .ok (.ifCond .eq 12, 3) := by decide +kernel
theorem dX9_tale_21 : decode cX9_tale 21 = .ok (.aload_n 0, 1) := by decide +kernel
theorem dX9_tale_22 : decode cX9_tale 22 = .ok (.getfield 28, 3) := by decide +kernel
theorem dX9_tale_25 : decode cX9_tale 25 = .ok (.iload_n 1, 1) := by decide +kernel
theorem dX9_tale_26 : decode cX9_tale 26 = .ok (.iaload, 1) := by decide +kernel
theorem dX9_tale_27 : decode cX9_tale 27 = .ok (.goto 5, 3) := by decide +kernel
theorem dX9_tale_30 : decode cX9_tale 30 = .ok (.bipush (-2), 2) := by decide +kernel
theorem dX9_tale_32 : decode cX9_tale 32 = .ok (.ireturn, 1) := by decide +kernel
theorem dX9_lawNow_0 : decode cX9_lawNow 0 = .ok (.aload_n 0, 1) := by decide +kernel
theorem dX9_lawNow_1 : decode cX9_lawNow 1 = .ok (.invokevirtual 155, 3) := by decide +kernel
theorem dX9_lawNow_4 : decode cX9_lawNow 4 = .ok (.pop, 1) := by decide +kernel
theorem dX9_lawNow_5 : decode cX9_lawNow 5 = .ok (.iload_n 1, 1) := by decide +kernel
theorem dX9_lawNow_6 : decode cX9_lawNow 6 = .ok (.iconst 2, 1) := by decide +kernel
theorem dX9_lawNow_7 : decode cX9_lawNow 7 = .ok (.if_icmp .ne 20, 3) := by decide +kernel
theorem dX9_lawNow_10 : decode cX9_lawNow 10 = .ok (.aload_n 0, 1) := by decide +kernel
theorem dX9_lawNow_11 : decode cX9_lawNow 11 = .ok (.getfield 31, 3) := by decide +kernel
theorem dX9_lawNow_14 : decode cX9_lawNow 14 = .ok (.iconst 2, 1) := by decide +kernel
theorem dX9_lawNow_15 : decode cX9_lawNow 15 = .ok (.iaload, 1) := by decide +kernel
theorem dX9_lawNow_16 : decode cX9_lawNow 16 = .ok (.aload_n 0, 1) := by decide +kernel
theorem dX9_lawNow_17 : decode cX9_lawNow 17 = .ok (.getfield 126, 3) := by decide +kernel
theorem dX9_lawNow_20 : decode cX9_lawNow 20 = .ok (.if_icmp .lt 7, 3) := by decide +kernel
theorem dX9_lawNow_23 : decode cX9_lawNow 23 = .ok (.iconst 0, 1) := by decide +kernel
theorem dX9_lawNow_24 : decode cX9_lawNow 24 = .ok (.goto 9, 3) := by decide +kernel
theorem dX9_lawNow_27 : decode cX9_lawNow 27 = .ok (.aload_n 0, 1) := by decide +kernel
theorem dX9_lawNow_28 : decode cX9_lawNow 28 = .ok (.getfield 31, 3) := by decide +kernel
theorem dX9_lawNow_31 : decode cX9_lawNow 31 = .ok (.iload_n 1, 1) := by decide +kernel
theorem dX9_lawNow_32 : decode cX9_lawNow 32 = .ok (.iaload, 1) := by decide +kernel
theorem dX9_lawNow_33 : decode cX9_lawNow 33 = .ok (.ireturn, 1) := by decide +kernel
theorem dX9_law_0 : decode cX9_law 0 = .ok (.iload_n 1, 1) := by decide +kernel
theorem dX9_law_1 : decode cX9_law 1 = .ok (.i2l, 1) := by decide +kernel
theorem dX9_law_2 : decode cX9_law 2 = .ok (.lconst 0, 1) := by decide +kernel
theorem dX9_law_3 : decode cX9_law 3 = .ok (.ldc2_w 103, 3) := by decide +kernel
theorem dX9_law_6 : decode cX9_law 6 = .ok (.invokestatic 89, 3) := by decide +kernel
theorem dX9_law_9 : decode cX9_law 9 = .ok (.ifCond .eq 11, 3) := by decide +kernel
theorem dX9_law_12 : decode cX9_law 12 = .ok (.aload_n 0, 1) := by decide +kernel
theorem dX9_law_13 : decode cX9_law 13 = .ok (.iload_n 1, 1) := by decide +kernel
theorem dX9_law_14 : decode cX9_law 14 = .ok (.invokevirtual 161, 3) := by decide +kernel
theorem dX9_law_17 : decode cX9_law 17 = .ok (.goto 5, 3) := by decide +kernel
theorem dX9_law_20 : decode cX9_law 20 = .ok (.bipush (-2), 2) := by decide +kernel
theorem dX9_law_22 : decode cX9_law 22 = .ok (.ireturn, 1) := by decide +kernel
theorem dX9_holds_0 : decode cX9_holds 0 = .ok (.iload_n 1, 1) := by decide +kernel
theorem dX9_holds_1 : decode cX9_holds 1 = .ok (.invokestatic 164, 3) := by decide +kernel
theorem dX9_holds_4 : decode cX9_holds 4 = .ok (.ifCond .eq 15, 3) := by decide +kernel
theorem dX9_holds_7 : decode cX9_holds 7 = .ok (.iload_n 2, 1) := by decide +kernel
theorem dX9_holds_8 : decode cX9_holds 8 = .ok (.i2l, 1) := by decide +kernel
theorem dX9_holds_9 : decode cX9_holds 9 = .ok (.lconst 0, 1) := by decide +kernel
theorem dX9_holds_10 : decode cX9_holds 10 = .ok (.ldc2_w 167, 3) := by decide +kernel
theorem dX9_holds_13 : decode cX9_holds 13 = .ok (.invokestatic 89, 3) := by decide +kernel
theorem dX9_holds_16 : decode cX9_holds 16 = .ok (.ifCond .ne 6, 3) := by decide +kernel
theorem dX9_holds_19 : decode cX9_holds 19 = .ok (.bipush (-2), 2) := by decide +kernel
theorem dX9_holds_21 : decode cX9_holds 21 = .ok (.ireturn, 1) := by decide +kernel
theorem dX9_holds_22 : decode cX9_holds 22 = .ok (.aload_n 0, 1) := by decide +kernel
theorem dX9_holds_23 : decode cX9_holds 23 = .ok (.getfield 34, 3) := by decide +kernel
theorem dX9_holds_26 : decode cX9_holds 26 = .ok (.iload_n 1, 1) := by decide +kernel
theorem dX9_holds_27 : decode cX9_holds 27 = .ok (.iaload, 1) := by decide +kernel
theorem dX9_holds_28 : decode cX9_holds 28 = .ok (.istore_n 3, 1) := by decide +kernel
theorem dX9_holds_29 : decode cX9_holds 29 = .ok (.aload_n 0, 1) := by decide +kernel
theorem dX9_holds_30 : decode cX9_holds 30 = .ok (.getfield 34, 3) := by decide +kernel
theorem dX9_holds_33 : decode cX9_holds 33 = .ok (.iload_n 1, 1) := by decide +kernel
theorem dX9_holds_34 : decode cX9_holds 34 = .ok (.iload_n 2, 1) := by decide +kernel
theorem dX9_holds_35 : decode cX9_holds 35 = .ok (.iastore, 1) := by decide +kernel
theorem dX9_holds_36 : decode cX9_holds 36 = .ok (.iload_n 3, 1) := by decide +kernel
theorem dX9_holds_37 : decode cX9_holds 37 = .ok (.ireturn, 1) := by decide +kernel
theorem dX9_leaves_0 : decode cX9_leaves 0 = .ok (.iload_n 1, 1) := by decide +kernel
theorem dX9_leaves_1 : decode cX9_leaves 1 = .ok (.invokestatic 164, 3) := by decide +kernel
theorem dX9_leaves_4 : decode cX9_leaves 4 = .ok (.ifCond .eq 15, 3) := by decide +kernel
theorem dX9_leaves_7 : decode cX9_leaves 7 = .ok (.iload_n 2, 1) := by decide +kernel
theorem dX9_leaves_8 : decode cX9_leaves 8 = .ok (.i2l, 1) := by decide +kernel
theorem dX9_leaves_9 : decode cX9_leaves 9 = .ok (.lconst 0, 1) := by decide +kernel
theorem dX9_leaves_10 : decode cX9_leaves 10 = .ok (.ldc2_w 169, 3) := by decide +kernel
theorem dX9_leaves_13 : decode cX9_leaves 13 = .ok (.invokestatic 89, 3) := by decide +kernel
theorem dX9_leaves_16 : decode cX9_leaves 16 = .ok (.ifCond .ne 6, 3) := by decide +kernel
theorem dX9_leaves_19 : decode cX9_leaves 19 = .ok (.bipush (-2), 2) := by decide +kernel
theorem dX9_leaves_21 : decode cX9_leaves 21 = .ok (.ireturn, 1) := by decide +kernel
theorem dX9_leaves_22 : decode cX9_leaves 22 = .ok (.aload_n 0, 1) := by decide +kernel
theorem dX9_leaves_23 : decode cX9_leaves 23 = .ok (.getfield 37, 3) := by decide +kernel
theorem dX9_leaves_26 : decode cX9_leaves 26 = .ok (.iload_n 1, 1) := by decide +kernel
theorem dX9_leaves_27 : decode cX9_leaves 27 = .ok (.iaload, 1) := by decide +kernel
theorem dX9_leaves_28 : decode cX9_leaves 28 = .ok (.istore_n 3, 1) := by decide +kernel
theorem dX9_leaves_29 : decode cX9_leaves 29 = .ok (.aload_n 0, 1) := by decide +kernel
theorem dX9_leaves_30 : decode cX9_leaves 30 = .ok (.getfield 37, 3) := by decide +kernel
theorem dX9_leaves_33 : decode cX9_leaves 33 = .ok (.iload_n 1, 1) := by decide +kernel
theorem dX9_leaves_34 : decode cX9_leaves 34 = .ok (.iload_n 2, 1) := by decide +kernel
theorem dX9_leaves_35 : decode cX9_leaves 35 = .ok (.iastore, 1) := by decide +kernel
theorem dX9_leaves_36 : decode cX9_leaves 36 = .ok (.iload_n 3, 1) := by decide +kernel
theorem dX9_leaves_37 : decode cX9_leaves 37 = .ok (.ireturn, 1) := by decide +kernel
theorem dX9_tries_0 : decode cX9_tries 0 = .ok (.aload_n 0, 1) := by decide +kernel
theorem dX9_tries_1 : decode cX9_tries 1 = .ok (.invokevirtual 155, 3) := by decide +kernel
theorem dX9_tries_4 : decode cX9_tries 4 = .ok (.pop, 1) := by decide +kernel
theorem dX9_tries_5 : decode cX9_tries 5 = .ok (.aload_n 0, 1) := by decide +kernel
theorem dX9_tries_6 : decode cX9_tries 6 = .ok (.aload_n 0, 1) := by decide +kernel
theorem dX9_tries_7 : decode cX9_tries 7 = .ok (.getfield 126, 3) := by decide +kernel
theorem dX9_tries_10 : decode cX9_tries 10 = .ok (.putfield 171, 3) := by decide +kernel
theorem dX9_tries_13 : decode cX9_tries 13 = .ok (.iconst 0, 1) := by decide +kernel
theorem dX9_tries_14 : decode cX9_tries 14 = .ok (.istore_n 1, 1) := by decide +kernel
theorem dX9_tries_15 : decode cX9_tries 15 = .ok (.iload_n 1, 1) := by decide +kernel
theorem dX9_tries_16 : decode cX9_tries 16 = .ok (.iconst 4, 1) := by decide +kernel
theorem dX9_tries_17 : decode cX9_tries 17 = .ok (.if_icmp .ge 83, 3) := by decide +kernel
theorem dX9_tries_20 : decode cX9_tries 20 = .ok (.aload_n 0, 1) := by decide +kernel
theorem dX9_tries_21 : decode cX9_tries 21 = .ok (.getfield 40, 3) := by decide +kernel
theorem dX9_tries_24 : decode cX9_tries 24 = .ok (.iload_n 1, 1) := by decide +kernel
theorem dX9_tries_25 : decode cX9_tries 25 = .ok (.aload_n 0, 1) := by decide +kernel
theorem dX9_tries_26 : decode cX9_tries 26 = .ok (.getfield 34, 3) := by decide +kernel
theorem dX9_tries_29 : decode cX9_tries 29 = .ok (.iload_n 1, 1) := by decide +kernel
theorem dX9_tries_30 : decode cX9_tries 30 = .ok (.iaload, 1) := by decide +kernel
theorem dX9_tries_31 : decode cX9_tries 31 = .ok (.iastore, 1) := by decide +kernel
theorem dX9_tries_32 : decode cX9_tries 32 = .ok (.aload_n 0, 1) := by decide +kernel
theorem dX9_tries_33 : decode cX9_tries 33 = .ok (.getfield 43, 3) := by decide +kernel
theorem dX9_tries_36 : decode cX9_tries 36 = .ok (.iload_n 1, 1) := by decide +kernel
theorem dX9_tries_37 : decode cX9_tries 37 = .ok (.aload_n 0, 1) := by decide +kernel
theorem dX9_tries_38 : decode cX9_tries 38 = .ok (.getfield 37, 3) := by decide +kernel
theorem dX9_tries_41 : decode cX9_tries 41 = .ok (.iload_n 1, 1) := by decide +kernel
theorem dX9_tries_42 : decode cX9_tries 42 = .ok (.iaload, 1) := by decide +kernel
theorem dX9_tries_43 : decode cX9_tries 43 = .ok (.iastore, 1) := by decide +kernel
theorem dX9_tries_44 : decode cX9_tries 44 = .ok (.aload_n 0, 1) := by decide +kernel
theorem dX9_tries_45 : decode cX9_tries 45 = .ok (.getfield 46, 3) := by decide +kernel
theorem dX9_tries_48 : decode cX9_tries 48 = .ok (.iload_n 1, 1) := by decide +kernel
theorem dX9_tries_49 : decode cX9_tries 49 = .ok (.iload_n 1, 1) := by decide +kernel
theorem dX9_tries_50 : decode cX9_tries 50 = .ok (.aload_n 0, 1) := by decide +kernel
theorem dX9_tries_51 : decode cX9_tries 51 = .ok (.getfield 126, 3) := by decide +kernel
theorem dX9_tries_54 : decode cX9_tries 54 = .ok (.if_icmp .ge 14, 3) := by decide +kernel
theorem dX9_tries_57 : decode cX9_tries 57 = .ok (.aload_n 0, 1) := by decide +kernel
theorem dX9_tries_58 : decode cX9_tries 58 = .ok (.getfield 25, 3) := by decide +kernel
theorem dX9_tries_61 : decode cX9_tries 61 = .ok (.iconst 4, 1) := by decide +kernel
theorem dX9_tries_62 : decode cX9_tries 62 = .ok (.iload_n 1, 1) := by decide +kernel
theorem dX9_tries_63 : decode cX9_tries 63 = .ok (.imul, 1) := by decide +kernel
theorem dX9_tries_64 : decode cX9_tries 64 = .ok (.iaload, 1) := by decide +kernel
theorem dX9_tries_65 : decode cX9_tries 65 = .ok (.goto 4, 3) := by decide +kernel
theorem dX9_tries_68 : decode cX9_tries 68 = .ok (.iconst 0, 1) := by decide +kernel
theorem dX9_tries_69 : decode cX9_tries 69 = .ok (.iastore, 1) := by decide +kernel
theorem dX9_tries_70 : decode cX9_tries 70 = .ok (.aload_n 0, 1) := by decide +kernel
theorem dX9_tries_71 : decode cX9_tries 71 = .ok (.getfield 49, 3) := by decide +kernel
theorem dX9_tries_74 : decode cX9_tries 74 = .ok (.iload_n 1, 1) := by decide +kernel
theorem dX9_tries_75 : decode cX9_tries 75 = .ok (.iload_n 1, 1) := by decide +kernel
theorem dX9_tries_76 : decode cX9_tries 76 = .ok (.aload_n 0, 1) := by decide +kernel
theorem dX9_tries_77 : decode cX9_tries 77 = .ok (.getfield 129, 3) := by decide +kernel
theorem dX9_tries_80 : decode cX9_tries 80 = .ok (.if_icmp .ge 12, 3) := by decide +kernel
theorem dX9_tries_83 : decode cX9_tries 83 = .ok (.aload_n 0, 1) := by decide +kernel
theorem dX9_tries_84 : decode cX9_tries 84 = .ok (.getfield 28, 3) := by decide +kernel
theorem dX9_tries_87 : decode cX9_tries 87 = .ok (.iload_n 1, 1) := by decide +kernel
theorem dX9_tries_88 : decode cX9_tries 88 = .ok (.iaload, 1) := by decide +kernel
theorem dX9_tries_89 : decode cX9_tries 89 = .ok (.goto 4, 3) := by decide +kernel
theorem dX9_tries_92 : decode cX9_tries 92 = .ok (.iconst 0, 1) := by decide +kernel
theorem dX9_tries_93 : decode cX9_tries 93 = .ok (.iastore, 1) := by decide +kernel
theorem dX9_tries_94 : decode cX9_tries 94 = .ok (.iinc 1 1, 3) := by decide +kernel
theorem dX9_tries_97 : decode cX9_tries 97 = .ok (.goto (-82), 3) := by decide +kernel
theorem dX9_tries_100 : decode cX9_tries 100 = .ok (.aload_n 0, 1) := by decide +kernel
theorem dX9_tries_101 : decode cX9_tries 101 = .ok (.aload_n 0, 1) := by decide +kernel
theorem dX9_tries_102 : decode cX9_tries 102 = .ok (.iconst 0, 1) := by decide +kernel
theorem dX9_tries_103 : decode cX9_tries 103 = .ok (.invokevirtual 161, 3) := by decide +kernel
theorem dX9_tries_106 : decode cX9_tries 106 = .ok (.putfield 174, 3) := by decide +kernel
theorem dX9_tries_109 : decode cX9_tries 109 = .ok (.aload_n 0, 1) := by decide +kernel
theorem dX9_tries_110 : decode cX9_tries 110 = .ok (.aload_n 0, 1) := by decide +kernel
theorem dX9_tries_111 : decode cX9_tries 111 = .ok (.iconst 1, 1) := by decide +kernel
theorem dX9_tries_112 : decode cX9_tries 112 = .ok (.invokevirtual 161, 3) := by decide +kernel
theorem dX9_tries_115 : decode cX9_tries 115 = .ok (.putfield 177, 3) := by decide +kernel
theorem dX9_tries_118 : decode cX9_tries 118 = .ok (.aload_n 0, 1) := by decide +kernel
theorem dX9_tries_119 : decode cX9_tries 119 = .ok (.aload_n 0, 1) := by decide +kernel
theorem dX9_tries_120 : decode cX9_tries 120 = .ok (.iconst 2, 1) := by decide +kernel
theorem dX9_tries_121 : decode cX9_tries 121 = .ok (.invokevirtual 161, 3) := by decide +kernel
theorem dX9_tries_124 : decode cX9_tries 124 = .ok (.putfield 180, 3) := by decide +kernel
theorem dX9_tries_127 : decode cX9_tries 127 = .ok (.aload_n 0, 1) := by decide +kernel
theorem dX9_tries_128 : decode cX9_tries 128 = .ok (.iconst 0, 1) := by decide +kernel
theorem dX9_tries_129 : decode cX9_tries 129 = .ok (.putfield 183, 3) := by decide +kernel
theorem dX9_tries_132 : decode cX9_tries 132 = .ok (.return_, 1) := by decide +kernel
theorem dX9_quartersBy_0 : decode cX9_quartersBy 0 = .ok (.iload_n 0, 1) := by decide +kernel
theorem dX9_quartersBy_1 : decode cX9_quartersBy 1 = .ok (.ifCond .eq 7, 3) := by decide +kernel
theorem dX9_quartersBy_4 : decode cX9_quartersBy 4 = .ok (.iload_n 1, 1) := by decide +kernel
theorem dX9_quartersBy_5 : decode cX9_quartersBy 5 = .ok (.ifCond .ne 5, 3) := by decide +kernel
theorem dX9_quartersBy_8 : decode cX9_quartersBy 8 = .ok (.iconst 0, 1) := by decide +kernel
theorem dX9_quartersBy_9 : decode cX9_quartersBy 9 = .ok (.ireturn, 1) := by decide +kernel
theorem dX9_quartersBy_10 : decode cX9_quartersBy 10 = .ok (.iload_n 0, 1) := by decide +kernel
theorem dX9_quartersBy_11 : decode cX9_quartersBy 11 = .ok (.iload_n 1, 1) := by decide +kernel
theorem dX9_quartersBy_12 : decode cX9_quartersBy 12 = .ok (.imul, 1) := by decide +kernel
theorem dX9_quartersBy_13 : decode cX9_quartersBy 13 = .ok (.iconst 5, 1) := by decide +kernel
theorem dX9_quartersBy_14 : decode cX9_quartersBy 14 = .ok (.iload_n 2, 1) := by decide +kernel
theorem dX9_quartersBy_15 : decode cX9_quartersBy 15 = .ok (.imul, 1) := by decide +kernel
theorem dX9_quartersBy_16 : decode cX9_quartersBy 16 = .ok (.iadd, 1) := by decide +kernel
theorem dX9_quartersBy_17 : decode cX9_quartersBy 17 = .ok (.bipush 20, 2) := by decide +kernel
theorem dX9_quartersBy_19 : decode cX9_quartersBy 19 = .ok (.idiv, 1) := by decide +kernel
theorem dX9_quartersBy_20 : decode cX9_quartersBy 20 = .ok (.istore 4, 2) := by decide +kernel
theorem dX9_quartersBy_22 : decode cX9_quartersBy 22 = .ok (.iload 4, 2) := by decide +kernel
theorem dX9_quartersBy_24 : decode cX9_quartersBy 24 = .ok (.iconst 4, 1) := by decide +kernel
theorem dX9_quartersBy_25 : decode cX9_quartersBy 25 = .ok (.if_icmp .le 7, 3) := by decide +kernel
theorem dX9_quartersBy_28 : decode cX9_quartersBy 28 = .ok (.iconst 4, 1) := by decide +kernel
theorem dX9_quartersBy_29 : decode cX9_quartersBy 29 = .ok (.goto 5, 3) := by decide +kernel
theorem dX9_quartersBy_32 : decode cX9_quartersBy 32 = .ok (.iload 4, 2) := by decide +kernel
theorem dX9_quartersBy_34 : decode cX9_quartersBy 34 = .ok (.istore 4, 2) := by decide +kernel
theorem dX9_quartersBy_36 : decode cX9_quartersBy 36 = .ok (.iload 4, 2) := by decide +kernel
theorem dX9_quartersBy_38 : decode cX9_quartersBy 38 = .ok (.iload_n 3, 1) := by decide +kernel
theorem dX9_quartersBy_39 : decode cX9_quartersBy 39 = .ok (.ifCond .eq 7, 3) := by decide +kernel
theorem dX9_quartersBy_42 : decode cX9_quartersBy 42 = .ok (.iconst 2, 1) := by decide +kernel
theorem dX9_quartersBy_43 : decode cX9_quartersBy 43 = .ok (.goto 4, 3) := by decide +kernel
theorem dX9_quartersBy_46 : decode cX9_quartersBy 46 = .ok (.iconst 0, 1) := by decide +kernel
theorem dX9_quartersBy_47 : decode cX9_quartersBy 47 = .ok (.isub, 1) := by decide +kernel
theorem dX9_quartersBy_48 : decode cX9_quartersBy 48 = .ok (.istore 4, 2) := by decide +kernel
theorem dX9_quartersBy_50 : decode cX9_quartersBy 50 = .ok (.iload 4, 2) := by decide +kernel
theorem dX9_quartersBy_52 : decode cX9_quartersBy 52 = .ok (.ifCond .ge 7, 3) := by decide +kernel
theorem dX9_quartersBy_55 : decode cX9_quartersBy 55 = .ok (.iconst 0, 1) := by decide +kernel
theorem dX9_quartersBy_56 : decode cX9_quartersBy 56 = .ok (.goto 5, 3) := by decide +kernel
theorem dX9_quartersBy_59 : decode cX9_quartersBy 59 = .ok (.iload 4, 2) := by decide +kernel
theorem dX9_quartersBy_61 : decode cX9_quartersBy 61 = .ok (.ireturn, 1) := by decide +kernel
theorem dX9_isThere_0 : decode cX9_isThere 0 = .ok (.aload_n 0, 1) := by decide +kernel
theorem dX9_isThere_1 : decode cX9_isThere 1 = .ok (.getfield 43, 3) := by decide +kernel
theorem dX9_isThere_4 : decode cX9_isThere 4 = .ok (.iload_n 1, 1) := by decide +kernel
theorem dX9_isThere_5 : decode cX9_isThere 5 = .ok (.iaload, 1) := by decide +kernel
theorem dX9_isThere_6 : decode cX9_isThere 6 = .ok (.iload_n 2, 1) := by decide +kernel
theorem dX9_isThere_7 : decode cX9_isThere 7 = .ok (.if_icmp .le 18, 3) := by decide +kernel
theorem dX9_isThere_10 : decode cX9_isThere 10 = .ok (.aload_n 0, 1) := by decide +kernel
theorem dX9_isThere_11 : decode cX9_isThere 11 = .ok (.getfield 183, 3) := by decide +kernel
theorem dX9_isThere_14 : decode cX9_isThere 14 = .ok (.iload_n 1, 1) := by decide +kernel
theorem dX9_isThere_15 : decode cX9_isThere 15 = .ok (.ishr, 1) := by decide +kernel
theorem dX9_isThere_16 : decode cX9_isThere 16 = .ok (.iconst 1, 1) := by decide +kernel
theorem dX9_isThere_17 : decode cX9_isThere 17 = .ok (.iand, 1) := by decide +kernel
theorem dX9_isThere_18 : decode cX9_isThere 18 = .ok (.ifCond .ne 7, 3) := by decide +kernel
theorem dX9_isThere_21 : decode cX9_isThere 21 = .ok (.iconst 1, 1) := by decide +kernel
theorem dX9_isThere_22 : decode cX9_isThere 22 = .ok (.goto 4, 3) := by decide +kernel
theorem dX9_isThere_25 : decode cX9_isThere 25 = .ok (.iconst 0, 1) := by decide +kernel
theorem dX9_isThere_26 : decode cX9_isThere 26 = .ok (.ireturn, 1) := by decide +kernel
theorem dX9_quartersNow_0 : decode cX9_quartersNow 0 = .ok (.iload_n 2, 1) := by decide +kernel
theorem dX9_quartersNow_1 : decode cX9_quartersNow 1 = .ok (.ifCond .ne 7, 3) := by decide +kernel
theorem dX9_quartersNow_4 : decode cX9_quartersNow 4 = .ok (.iconst 0, 1) := by decide +kernel
theorem dX9_quartersNow_5 : decode cX9_quartersNow 5 = .ok (.goto 13, 3) := by decide +kernel
theorem dX9_quartersNow_8 : decode cX9_quartersNow 8 = .ok (.aload_n 0, 1) := by decide +kernel
theorem dX9_quartersNow_9 : decode cX9_quartersNow 9 = .ok (.getfield 49, 3) := by decide +kernel
theorem dX9_quartersNow_12 : decode cX9_quartersNow 12 = .ok (.iload_n 2, 1) := by decide +kernel
theorem dX9_quartersNow_13 : decode cX9_quartersNow 13 = .ok (.iconst 1, 1) := by decide +kernel
theorem dX9_quartersNow_14 : decode cX9_quartersNow 14 = .ok (.isub, 1) := by decide +kernel
theorem dX9_quartersNow_15 : decode cX9_quartersNow 15 = .ok (.iaload, 1) := by decide +kernel
theorem dX9_quartersNow_16 : decode cX9_quartersNow 16 = .ok (.iconst 2, 1) := by decide +kernel
theorem dX9_quartersNow_17 : decode cX9_quartersNow 17 = .ok (.idiv, 1) := by decide +kernel
theorem dX9_quartersNow_18 : decode cX9_quartersNow 18 = .ok (.istore_n 3, 1) := by decide +kernel
theorem dX9_quartersNow_19 : decode cX9_quartersNow 19 = .ok (.aload_n 0, 1) := by decide +kernel
theorem dX9_quartersNow_20 : decode cX9_quartersNow 20 = .ok (.iload_n 1, 1) := by decide +kernel
theorem dX9_quartersNow_21 : decode cX9_quartersNow 21 = .ok (.iload_n 2, 1) := by decide +kernel
theorem dX9_quartersNow_22 : decode cX9_quartersNow 22 = .ok (.invokevirtual 186, 3) := by decide +kernel
theorem dX9_quartersNow_25 : decode cX9_quartersNow 25 = .ok (.ifCond .eq 41, 3) := by decide +kernel
theorem dX9_quartersNow_28 : decode cX9_quartersNow 28 = .ok (.aload_n 0, 1) := by decide +kernel
theorem dX9_quartersNow_29 : decode cX9_quartersNow 29 = .ok (.getfield 46, 3) := by decide +kernel
theorem dX9_quartersNow_32 : decode cX9_quartersNow 32 = .ok (.iload_n 1, 1) := by decide +kernel
theorem dX9_quartersNow_33 : decode cX9_quartersNow 33 = .ok (.iaload, 1) := by decide +kernel
theorem dX9_quartersNow_34 : decode cX9_quartersNow 34 = .ok (.aload_n 0, 1) := by decide +kernel
theorem dX9_quartersNow_35 : decode cX9_quartersNow 35 = .ok (.getfield 49, 3) := by decide +kernel
theorem dX9_quartersNow_38 : decode cX9_quartersNow 38 = .ok (.iload_n 2, 1) := by decide +kernel
theorem dX9_quartersNow_39 : decode cX9_quartersNow 39 = .ok (.iaload, 1) := by decide +kernel
theorem dX9_quartersNow_40 : decode cX9_quartersNow 40 = .ok (.iload_n 3, 1) := by decide +kernel
theorem dX9_quartersNow_41 : decode cX9_quartersNow 41 = .ok (.aload_n 0, 1) := by decide +kernel
theorem dX9_quartersNow_42 : decode cX9_quartersNow 42 = .ok (.getfield 40, 3) := by decide +kernel
theorem dX9_quartersNow_45 : decode cX9_quartersNow 45 = .ok (.iload_n 1, 1) := by decide +kernel
theorem dX9_quartersNow_46 : decode cX9_quartersNow 46 = .ok (.iaload, 1) := by decide +kernel
theorem dX9_quartersNow_47 : decode cX9_quartersNow 47 = .ok (.iload_n 2, 1) := by decide +kernel
theorem dX9_quartersNow_48 : decode cX9_quartersNow 48 = .ok (.ishr, 1) := by decide +kernel
theorem dX9_quartersNow_49 : decode cX9_quartersNow 49 = .ok (.iconst 1, 1) := by decide +kernel
theorem dX9_quartersNow_50 : decode cX9_quartersNow 50 = .ok (.iand, 1) := by decide +kernel
theorem dX9_quartersNow_51 : decode cX9_quartersNow 51 = .ok (.iconst 1, 1) := by decide +kernel
theorem dX9_quartersNow_52 : decode cX9_quartersNow 52 = .ok (.if_icmp .ne 7, 3) := by decide +kernel
theorem dX9_quartersNow_55 : decode cX9_quartersNow 55 = .ok (.iconst 1, 1) := by decide +kernel
theorem dX9_quartersNow_56 : decode cX9_quartersNow 56 = .ok (.goto 4, 3) := by decide +kernel
theorem dX9_quartersNow_59 : decode cX9_quartersNow 59 = .ok (.iconst 0, 1) := by decide +kernel
theorem dX9_quartersNow_60 : decode cX9_quartersNow 60 = .ok (.invokestatic 190, 3) := by decide +kernel
theorem dX9_quartersNow_63 : decode cX9_quartersNow 63 = .ok (.goto 4, 3) := by decide +kernel
theorem dX9_quartersNow_66 : decode cX9_quartersNow 66 = .ok (.iconst 0, 1) := by decide +kernel
theorem dX9_quartersNow_67 : decode cX9_quartersNow 67 = .ok (.ireturn, 1) := by decide +kernel
theorem dX9_quartersOf_0 : decode cX9_quartersOf 0 = .ok (.aload_n 0, 1) := by decide +kernel
theorem dX9_quartersOf_1 : decode cX9_quartersOf 1 = .ok (.invokevirtual 194, 3) := by decide +kernel
theorem dX9_quartersOf_4 : decode cX9_quartersOf 4 = .ok (.aload_n 0, 1) := by decide +kernel
theorem dX9_quartersOf_5 : decode cX9_quartersOf 5 = .ok (.iload_n 1, 1) := by decide +kernel
theorem dX9_quartersOf_6 : decode cX9_quartersOf 6 = .ok (.iload_n 2, 1) := by decide +kernel
theorem dX9_quartersOf_7 : decode cX9_quartersOf 7 = .ok (.invokevirtual 197, 3) := by decide +kernel
theorem dX9_quartersOf_10 : decode cX9_quartersOf 10 = .ok (.ireturn, 1) := by decide +kernel
theorem dX9_quarters_0 : decode cX9_quarters 0 = .ok (.aload_n 0, 1) := by decide +kernel
theorem dX9_quarters_1 : decode cX9_quarters 1 = .ok (.iload_n 1, 1) := by decide +kernel
theorem dX9_quarters_2 : decode cX9_quarters 2 = .ok (.invokevirtual 158, 3) := by decide +kernel
theorem dX9_quarters_5 : decode cX9_quarters 5 = .ok (.ifCond .eq 28, 3) := by decide +kernel
theorem dX9_quarters_8 : decode cX9_quarters 8 = .ok (.iload_n 2, 1) := by decide +kernel
theorem dX9_quarters_9 : decode cX9_quarters 9 = .ok (.i2l, 1) := by decide +kernel
theorem dX9_quarters_10 : decode cX9_quarters 10 = .ok (.lconst 0, 1) := by decide +kernel
theorem dX9_quarters_11 : decode cX9_quarters 11 = .ok (.aload_n 0, 1) := by decide +kernel
theorem dX9_quarters_12 : decode cX9_quarters 12 = .ok (.getfield 129, 3) := by decide +kernel
theorem dX9_quarters_15 : decode cX9_quarters 15 = .ok (.iconst 1, 1) := by decide +kernel
theorem dX9_quarters_16 : decode cX9_quarters 16 = .ok (.isub, 1) := by decide +kernel
theorem dX9_quarters_17 : decode cX9_quarters 17 = .ok (.i2l, 1) := by decide +kernel
theorem dX9_quarters_18 : decode cX9_quarters 18 = .ok (.invokestatic 89, 3) := by decide +kernel
theorem dX9_quarters_21 : decode cX9_quarters 21 = .ok (.ifCond .eq 12, 3) := by decide +kernel
theorem dX9_quarters_24 : decode cX9_quarters 24 = .ok (.aload_n 0, 1) := by decide +kernel
theorem dX9_quarters_25 : decode cX9_quarters 25 = .ok (.iload_n 1, 1) := by decide +kernel
theorem dX9_quarters_26 : decode cX9_quarters 26 = .ok (.iload_n 2, 1) := by decide +kernel
theorem dX9_quarters_27 : decode cX9_quarters 27 = .ok (.invokevirtual 200, 3) := by decide +kernel
theorem dX9_quarters_30 : decode cX9_quarters 30 = .ok (.goto 5, 3) := by decide +kernel
theorem dX9_quarters_33 : decode cX9_quarters 33 = .ok (.bipush (-2), 2) := by decide +kernel
theorem dX9_quarters_35 : decode cX9_quarters 35 = .ok (.ireturn, 1) := by decide +kernel
theorem dX9_ones_0 : decode cX9_ones 0 = .ok (.iconst 0, 1) := by decide +kernel
theorem dX9_ones_1 : decode cX9_ones 1 = .ok (.istore_n 1, 1) := by decide +kernel
theorem dX9_ones_2 : decode cX9_ones 2 = .ok (.iload_n 0, 1) := by decide +kernel
theorem dX9_ones_3 : decode cX9_ones 3 = .ok (.istore_n 2, 1) := by decide +kernel
theorem dX9_ones_4 : decode cX9_ones 4 = .ok (.iload_n 2, 1) := by decide +kernel
theorem dX9_ones_5 : decode cX9_ones 5 = .ok (.ifCond .eq 15, 3) := by decide +kernel
theorem dX9_ones_8 : decode cX9_ones 8 = .ok (.iinc 1 1, 3) := by decide +kernel
theorem dX9_ones_11 : decode cX9_ones 11 = .ok (.iload_n 2, 1) := by decide +kernel
theorem dX9_ones_12 : decode cX9_ones 12 = .ok (.iload_n 2, 1) := by decide +kernel
theorem dX9_ones_13 : decode cX9_ones 13 = .ok (.iconst 1, 1) := by decide +kernel
theorem dX9_ones_14 : decode cX9_ones 14 = .ok (.isub, 1) := by decide +kernel
theorem dX9_ones_15 : decode cX9_ones 15 = .ok (.iand, 1) := by decide +kernel
theorem dX9_ones_16 : decode cX9_ones 16 = .ok (.istore_n 2, 1) := by decide +kernel
theorem dX9_ones_17 : decode cX9_ones 17 = .ok (.goto (-13), 3) := by decide +kernel
theorem dX9_ones_20 : decode cX9_ones 20 = .ok (.iload_n 1, 1) := by decide +kernel
theorem dX9_ones_21 : decode cX9_ones 21 = .ok (.ireturn, 1) := by decide +kernel
theorem dX9_comes_0 : decode cX9_comes 0 = .ok (.iload_n 1, 1) := by decide +kernel
theorem dX9_comes_1 : decode cX9_comes 1 = .ok (.bipush 10, 2) := by decide +kernel
theorem dX9_comes_3 : decode cX9_comes 3 = .ok (.idiv, 1) := by decide +kernel
theorem dX9_comes_4 : decode cX9_comes 4 = .ok (.istore 5, 2) := by decide +kernel
theorem dX9_comes_6 : decode cX9_comes 6 = .ok (.iload_n 1, 1) := by decide +kernel
theorem dX9_comes_7 : decode cX9_comes 7 = .ok (.iconst 2, 1) := by decide +kernel
theorem dX9_comes_8 : decode cX9_comes 8 = .ok (.idiv, 1) := by decide +kernel
theorem dX9_comes_9 : decode cX9_comes 9 = .ok (.iconst 5, 1) := by decide +kernel
theorem dX9_comes_10 : decode cX9_comes 10 = .ok (.irem, 1) := by decide +kernel
theorem dX9_comes_11 : decode cX9_comes 11 = .ok (.istore 6, 2) := by decide +kernel
theorem dX9_comes_13 : decode cX9_comes 13 = .ok (.iload_n 1, 1) := by decide +kernel
theorem dX9_comes_14 : decode cX9_comes 14 = .ok (.iconst 2, 1) := by decide +kernel
theorem dX9_comes_15 : decode cX9_comes 15 = .ok (.irem, 1) := by decide +kernel
theorem dX9_comes_16 : decode cX9_comes 16 = .ok (.istore 7, 2) := by decide +kernel
theorem dX9_comes_18 : decode cX9_comes 18 = .ok (.aload_n 0, 1) := by decide +kernel
theorem dX9_comes_19 : decode cX9_comes 19 = .ok (.getfield 174, 3) := by decide +kernel
theorem dX9_comes_22 : decode cX9_comes 22 = .ok (.iconst 1, 1) := by decide +kernel
theorem dX9_comes_23 : decode cX9_comes 23 = .ok (.if_icmp .ne 36, 3) := by decide +kernel
theorem dX9_comes_26 : decode cX9_comes 26 = .ok (.aload_n 0, 1) := by decide +kernel
theorem dX9_comes_27 : decode cX9_comes 27 = .ok (.getfield 56, 3) := by decide +kernel
theorem dX9_comes_30 : decode cX9_comes 30 = .ok (.iload 7, 2) := by decide +kernel
theorem dX9_comes_32 : decode cX9_comes 32 = .ok (.iconst 1, 1) := by decide +kernel
theorem dX9_comes_33 : decode cX9_comes 33 = .ok (.if_icmp .ne 7, 3) := by decide +kernel
theorem dX9_comes_36 : decode cX9_comes 36 = .ok (.iload_n 1, 1) := by decide +kernel
theorem dX9_comes_37 : decode cX9_comes 37 = .ok (.goto 14, 3) := by decide +kernel
theorem dX9_comes_40 : decode cX9_comes 40 = .ok (.bipush 10, 2) := by decide +kernel
theorem dX9_comes_42 : decode cX9_comes 42 = .ok (.iload_n 2, 1) := by decide +kernel
theorem dX9_comes_43 : decode cX9_comes 43 = .ok (.imul, 1) := by decide +kernel
theorem dX9_comes_44 : decode cX9_comes 44 = .ok (.iconst 2, 1) := by decide +kernel
theorem dX9_comes_45 : decode cX9_comes 45 = .ok (.iload 6, 2) := by decide +kernel
theorem dX9_comes_47 : decode cX9_comes 47 = .ok (.imul, 1) := by decide +kernel
theorem dX9_comes_48 : decode cX9_comes 48 = .ok (.iadd, 1) := by decide +kernel
theorem dX9_comes_49 : decode cX9_comes 49 = .ok (.iconst 1, 1) := by decide +kernel
theorem dX9_comes_50 : decode cX9_comes 50 = .ok (.iadd, 1) := by decide +kernel
theorem dX9_comes_51 : decode cX9_comes 51 = .ok (.dup2, 1) := by decide +kernel
theorem dX9_comes_52 : decode cX9_comes 52 = .ok (.laload, 1) := by decide +kernel
theorem dX9_comes_53 : decode cX9_comes 53 = .ok (.lload_n 3, 1) := by decide +kernel
theorem dX9_comes_54 : decode cX9_comes 54 = .ok (.ladd, 1) := by decide +kernel
theorem dX9_comes_55 : decode cX9_comes 55 = .ok (.lastore, 1) := by decide +kernel
theorem dX9_comes_56 : decode cX9_comes 56 = .ok (.goto 45, 3) := by decide +kernel
theorem dX9_comes_59 : decode cX9_comes 59 = .ok (.aload_n 0, 1) := by decide +kernel
theorem dX9_comes_60 : decode cX9_comes 60 = .ok (.getfield 174, 3) := by decide +kernel
theorem dX9_comes_63 : decode cX9_comes 63 = .ok (.iconst 2, 1) := by decide +kernel
theorem dX9_comes_64 : decode cX9_comes 64 = .ok (.if_icmp .ne 13, 3) := by decide +kernel
theorem dX9_comes_67 : decode cX9_comes 67 = .ok (.iload_n 2, 1) := by decide +kernel
theorem dX9_comes_68 : decode cX9_comes 68 = .ok (.iload 5, 2) := by decide +kernel
theorem dX9_comes_70 : decode cX9_comes 70 = .ok (.if_icmp .eq 7, 3) := by decide +kernel
theorem dX9_comes_73 : decode cX9_comes 73 = .ok (.iconst 1, 1) := by decide +kernel
theorem dX9_comes_74 : decode cX9_comes 74 = .ok (.goto 4, 3) := by decide +kernel
theorem dX9_comes_77 : decode cX9_comes 77 = .ok (.iconst 0, 1) := by decide +kernel
theorem dX9_comes_78 : decode cX9_comes 78 = .ok (.istore 8, 2) := by decide +kernel
theorem dX9_comes_80 : decode cX9_comes 80 = .ok (.aload_n 0, 1) := by decide +kernel
theorem dX9_comes_81 : decode cX9_comes 81 = .ok (.getfield 56, 3) := by decide +kernel
theorem dX9_comes_84 : decode cX9_comes 84 = .ok (.bipush 10, 2) := by decide +kernel
theorem dX9_comes_86 : decode cX9_comes 86 = .ok (.iload_n 2, 1) := by decide +kernel
theorem dX9_comes_87 : decode cX9_comes 87 = .ok (.imul, 1) := by decide +kernel
theorem dX9_comes_88 : decode cX9_comes 88 = .ok (.iconst 2, 1) := by decide +kernel
theorem dX9_comes_89 : decode cX9_comes 89 = .ok (.iload 6, 2) := by decide +kernel
theorem dX9_comes_91 : decode cX9_comes 91 = .ok (.iload 8, 2) := by decide +kernel
theorem dX9_comes_93 : decode cX9_comes 93 = .ok (.iadd, 1) := by decide +kernel
theorem dX9_comes_94 : decode cX9_comes 94 = .ok (.imul, 1) := by decide +kernel
theorem dX9_comes_95 : decode cX9_comes 95 = .ok (.iadd, 1) := by decide +kernel
theorem dX9_comes_96 : decode cX9_comes 96 = .ok (.dup2, 1) := by decide +kernel
theorem dX9_comes_97 : decode cX9_comes 97 = .ok (.laload, 1) := by decide +kernel
theorem dX9_comes_98 : decode cX9_comes 98 = .ok (.lload_n 3, 1) := by decide +kernel
theorem dX9_comes_99 : decode cX9_comes 99 = .ok (.ladd, 1) := by decide +kernel
theorem dX9_comes_100 : decode cX9_comes 100 = .ok (.lastore, 1) := by decide +kernel
theorem dX9_comes_101 : decode cX9_comes 101 = .ok (.return_, 1) := by decide +kernel
theorem dX9_laugh_0 : decode cX9_laugh 0 = .ok (.iload_n 2, 1) := by decide +kernel
theorem dX9_laugh_1 : decode cX9_laugh 1 = .ok (.invokestatic 203, 3) := by decide +kernel
theorem dX9_laugh_4 : decode cX9_laugh 4 = .ok (.istore 5, 2) := by decide +kernel
theorem dX9_laugh_6 : decode cX9_laugh 6 = .ok (.iload 5, 2) := by decide +kernel
theorem dX9_laugh_8 : decode cX9_laugh 8 = .ok (.ifCond .eq 16, 3) := by decide +kernel
theorem dX9_laugh_11 : decode cX9_laugh 11 = .ok (.iload 5, 2) := by decide +kernel
theorem dX9_laugh_13 : decode cX9_laugh 13 = .ok (.iconst 1, 1) := by decide +kernel
theorem dX9_laugh_14 : decode cX9_laugh 14 = .ok (.if_icmp .le 25, 3) := by decide +kernel
theorem dX9_laugh_17 : decode cX9_laugh 17 = .ok (.aload_n 0, 1) := by decide +kernel
theorem dX9_laugh_18 : decode cX9_laugh 18 = .ok (.getfield 177, 3) := by decide +kernel
theorem dX9_laugh_21 : decode cX9_laugh 21 = .ok (.ifCond .ne 18, 3) := by decide +kernel
theorem dX9_laugh_24 : decode cX9_laugh 24 = .ok (.aload_n 0, 1) := by decide +kernel
theorem dX9_laugh_25 : decode cX9_laugh 25 = .ok (.getfield 56, 3) := by decide +kernel
theorem dX9_laugh_28 : decode cX9_laugh 28 = .ok (.iload_n 1, 1) := by decide +kernel
theorem dX9_laugh_29 : decode cX9_laugh 29 = .ok (.dup2, 1) := by decide +kernel
theorem dX9_laugh_30 : decode cX9_laugh 30 = .ok (.laload, 1) := by decide +kernel
theorem dX9_laugh_31 : decode cX9_laugh 31 = .ok (.ldc2_w 206, 3) := by decide +kernel
theorem dX9_laugh_34 : decode cX9_laugh 34 = .ok (.lload_n 3, 1) := by decide +kernel
theorem dX9_laugh_35 : decode cX9_laugh 35 = .ok (.lmul, 1) := by decide +kernel
theorem dX9_laugh_36 : decode cX9_laugh 36 = .ok (.ladd, 1) := by decide +kernel
theorem dX9_laugh_37 : decode cX9_laugh 37 = .ok (.lastore, 1) := by decide +kernel
theorem dX9_laugh_38 : decode cX9_laugh 38 = .ok (.return_, 1) := by decide +kernel
theorem dX9_laugh_39 : decode cX9_laugh 39 = .ok (.iload 5, 2) := by decide +kernel
theorem dX9_laugh_41 : decode cX9_laugh 41 = .ok (.iconst 1, 1) := by decide +kernel
theorem dX9_laugh_42 : decode cX9_laugh 42 = .ok (.if_icmp .le 15, 3) := by decide +kernel
theorem dX9_laugh_45 : decode cX9_laugh 45 = .ok (.aload_n 0, 1) := by decide +kernel
theorem dX9_laugh_46 : decode cX9_laugh 46 = .ok (.getfield 177, 3) := by decide +kernel
theorem dX9_laugh_49 : decode cX9_laugh 49 = .ok (.iconst 2, 1) := by decide +kernel
theorem dX9_laugh_50 : decode cX9_laugh 50 = .ok (.if_icmp .ne 7, 3) := by decide +kernel
theorem dX9_laugh_53 : decode cX9_laugh 53 = .ok (.iconst 1, 1) := by decide +kernel
theorem dX9_laugh_54 : decode cX9_laugh 54 = .ok (.goto 4, 3) := by decide +kernel
theorem dX9_laugh_57 : decode cX9_laugh 57 = .ok (.iconst 0, 1) := by decide +kernel
theorem dX9_laugh_58 : decode cX9_laugh 58 = .ok (.istore 6, 2) := by decide +kernel
theorem dX9_laugh_60 : decode cX9_laugh 60 = .ok (.iconst 1, 1) := by decide +kernel
theorem dX9_laugh_61 : decode cX9_laugh 61 = .ok (.istore 7, 2) := by decide +kernel
theorem dX9_laugh_63 : decode cX9_laugh 63 = .ok (.iconst 0, 1) := by decide +kernel
theorem dX9_laugh_64 : decode cX9_laugh 64 = .ok (.istore 8, 2) := by decide +kernel
theorem dX9_laugh_66 : decode cX9_laugh 66 = .ok (.iload 8, 2) := by decide +kernel
theorem dX9_laugh_68 : decode cX9_laugh 68 = .ok (.aload_n 0, 1) := by decide +kernel
theorem dX9_laugh_69 : decode cX9_laugh 69 = .ok (.getfield 171, 3) := by decide +kernel
theorem dX9_laugh_72 : decode cX9_laugh 72 = .ok (.if_icmp .ge 61, 3) := by decide +kernel
theorem dX9_laugh_75 : decode cX9_laugh 75 = .ok (.iload_n 2, 1) := by decide +kernel
theorem dX9_laugh_76 : decode cX9_laugh 76 = .ok (.iload 8, 2) := by decide +kernel
theorem dX9_laugh_78 : decode cX9_laugh 78 = .ok (.ishr, 1) := by decide +kernel
theorem dX9_laugh_79 : decode cX9_laugh 79 = .ok (.iconst 1, 1) := by decide +kernel
theorem dX9_laugh_80 : decode cX9_laugh 80 = .ok (.iand, 1) := by decide +kernel
theorem dX9_laugh_81 : decode cX9_laugh 81 = .ok (.iconst 1, 1) := by decide +kernel
theorem dX9_laugh_82 : decode cX9_laugh 82 = .ok (.if_icmp .ne 45, 3) := by decide +kernel
theorem dX9_laugh_85 : decode cX9_laugh 85 = .ok (.iload 6, 2) := by decide +kernel
theorem dX9_laugh_87 : decode cX9_laugh 87 = .ok (.ifCond .ne 8, 3) := by decide +kernel
theorem dX9_laugh_90 : decode cX9_laugh 90 = .ok (.iload 7, 2) := by decide +kernel
theorem dX9_laugh_92 : decode cX9_laugh 92 = .ok (.ifCond .eq 35, 3) := by decide +kernel
theorem dX9_laugh_95 : decode cX9_laugh 95 = .ok (.aload_n 0, 1) := by decide +kernel
theorem dX9_laugh_96 : decode cX9_laugh 96 = .ok (.iload_n 1, 1) := by decide +kernel
theorem dX9_laugh_97 : decode cX9_laugh 97 = .ok (.iload 8, 2) := by decide +kernel
theorem dX9_laugh_99 : decode cX9_laugh 99 = .ok (.iload 6, 2) := by decide +kernel
theorem dX9_laugh_101 : decode cX9_laugh 101 = .ok (.ifCond .eq 15, 3) := by decide +kernel
theorem dX9_laugh_104 : decode cX9_laugh 104 = .ok (.ldc2_w 206, 3) := by decide +kernel
theorem dX9_laugh_107 : decode cX9_laugh 107 = .ok (.iload 5, 2) := by decide +kernel
theorem dX9_laugh_109 : decode cX9_laugh 109 = .ok (.i2l, 1) := by decide +kernel
theorem dX9_laugh_110 : decode cX9_laugh 110 = .ok (.ldiv, 1) := by decide +kernel
theorem dX9_laugh_111 : decode cX9_laugh 111 = .ok (.lload_n 3, 1) := by decide +kernel
theorem dX9_laugh_112 : decode cX9_laugh 112 = .ok (.lmul, 1) := by decide +kernel
theorem dX9_laugh_113 : decode cX9_laugh 113 = .ok (.goto 8, 3) := by decide +kernel
theorem dX9_laugh_116 : decode cX9_laugh 116 = .ok (.ldc2_w 206, 3) := by decide +kernel
theorem dX9_laugh_119 : decode cX9_laugh 119 = .ok (.lload_n 3, 1) := by decide +kernel
theorem dX9_laugh_120 : decode cX9_laugh 120 = .ok (.lmul, 1) := by decide +kernel
theorem dX9_laugh_121 : decode cX9_laugh 121 = .ok (.invokevirtual 208, 3) := by decide +kernel
theorem dX9_laugh_124 : decode cX9_laugh 124 = .ok (.iconst 0, 1) := by decide +kernel
theorem dX9_laugh_125 : decode cX9_laugh 125 = .ok (.istore 7, 2) := by decide +kernel
theorem dX9_laugh_127 : decode cX9_laugh 127 = .ok (.iinc 8 1, 3) := by decide +kernel
theorem dX9_laugh_130 : decode cX9_laugh 130 = .ok (.goto (-64), 3) := by decide +kernel
theorem dX9_laugh_133 : decode cX9_laugh 133 = .ok (.return_, 1) := by decide +kernel
theorem dX9_tells_0 : decode cX9_tells 0 = .ok (.iconst 0, 1) := by decide +kernel
theorem dX9_tells_1 : decode cX9_tells 1 = .ok (.istore_n 2, 1) := by decide +kernel
theorem dX9_tells_2 : decode cX9_tells 2 = .ok (.iload_n 2, 1) := by decide +kernel
theorem dX9_tells_3 : decode cX9_tells 3 = .ok (.bipush 50, 2) := by decide +kernel
theorem dX9_tells_5 : decode cX9_tells 5 = .ok (.if_icmp .ge 16, 3) := by decide +kernel
theorem dX9_tells_8 : decode cX9_tells 8 = .ok (.aload_n 0, 1) := by decide +kernel
theorem dX9_tells_9 : decode cX9_tells 9 = .ok (.getfield 56, 3) := by decide +kernel
theorem dX9_tells_12 : decode cX9_tells 12 = .ok (.iload_n 2, 1) := by decide +kernel
theorem dX9_tells_13 : decode cX9_tells 13 = .ok (.lconst 0, 1) := by decide +kernel
theorem dX9_tells_14 : decode cX9_tells 14 = .ok (.lastore, 1) := by decide +kernel
theorem dX9_tells_15 : decode cX9_tells 15 = .ok (.iinc 2 1, 3) := by decide +kernel
theorem dX9_tells_18 : decode cX9_tells 18 = .ok (.goto (-16), 3) := by decide +kernel
theorem dX9_tells_21 : decode cX9_tells 21 = .ok (.iconst 0, 1) := by decide +kernel
theorem dX9_tells_22 : decode cX9_tells 22 = .ok (.istore_n 2, 1) := by decide +kernel
theorem dX9_tells_23 : decode cX9_tells 23 = .ok (.iload_n 2, 1) := by decide +kernel
theorem dX9_tells_24 : decode cX9_tells 24 = .ok (.iconst 1, 1) := by decide +kernel
theorem dX9_tells_25 : decode cX9_tells 25 = .ok (.aload_n 0, 1) := by decide +kernel
theorem dX9_tells_26 : decode cX9_tells 26 = .ok (.getfield 171, 3) := by decide +kernel
theorem dX9_tells_29 : decode cX9_tells 29 = .ok (.ishl, 1) := by decide +kernel
theorem dX9_tells_30 : decode cX9_tells 30 = .ok (.if_icmp .ge 122, 3) := by decide +kernel
theorem dX9_tells_33 : decode cX9_tells 33 = .ok (.lconst 1, 1) := by decide +kernel
theorem dX9_tells_34 : decode cX9_tells 34 = .ok (.lstore_n 3, 1) := by decide +kernel
theorem dX9_tells_35 : decode cX9_tells 35 = .ok (.iconst 0, 1) := by decide +kernel
theorem dX9_tells_36 : decode cX9_tells 36 = .ok (.istore 5, 2) := by decide +kernel
theorem dX9_tells_38 : decode cX9_tells 38 = .ok (.iload 5, 2) := by decide +kernel
theorem dX9_tells_40 : decode cX9_tells 40 = .ok (.iconst 4, 1) := by decide +kernel
theorem dX9_tells_41 : decode cX9_tells 41 = .ok (.if_icmp .ge 55, 3) := by decide +kernel
theorem dX9_tells_44 : decode cX9_tells 44 = .ok (.iload 5, 2) := by decide +kernel
theorem dX9_tells_46 : decode cX9_tells 46 = .ok (.aload_n 0, 1) := by decide +kernel
theorem dX9_tells_47 : decode cX9_tells 47 = .ok (.getfield 171, 3) := by decide +kernel
theorem dX9_tells_50 : decode cX9_tells 50 = .ok (.if_icmp .ge 13, 3) := by decide +kernel
theorem dX9_tells_53 : decode cX9_tells 53 = .ok (.aload_n 0, 1) := by decide +kernel
theorem dX9_tells_54 : decode cX9_tells 54 = .ok (.iload 5, 2) := by decide +kernel
theorem dX9_tells_56 : decode cX9_tells 56 = .ok (.iload_n 1, 1) := by decide +kernel
theorem dX9_tells_57 : decode cX9_tells 57 = .ok (.invokevirtual 197, 3) := by decide +kernel
theorem dX9_tells_60 : decode cX9_tells 60 = .ok (.goto 4, 3) := by decide +kernel
theorem dX9_tells_63 : decode cX9_tells 63 = .ok (.iconst 0, 1) := by decide +kernel
theorem dX9_tells_64 : decode cX9_tells 64 = .ok (.istore 6, 2) := by decide +kernel
theorem dX9_tells_66 : decode cX9_tells 66 = .ok (.lload_n 3, 1) := by decide +kernel
theorem dX9_tells_67 : decode cX9_tells 67 = .ok (.iload_n 2, 1) := by decide +kernel
theorem dX9_tells_68 : decode cX9_tells 68 = .ok (.iload 5, 2) := by decide +kernel
theorem dX9_tells_70 : decode cX9_tells 70 = .ok (.ishr, 1) := by decide +kernel
theorem dX9_tells_71 : decode cX9_tells 71 = .ok (.iconst 1, 1) := by decide +kernel
theorem dX9_tells_72 : decode cX9_tells 72 = .ok (.iand, 1) := by decide +kernel
theorem dX9_tells_73 : decode cX9_tells 73 = .ok (.iconst 1, 1) := by decide +kernel
theorem dX9_tells_74 : decode cX9_tells 74 = .ok (.if_icmp .ne 9, 3) := by decide +kernel
theorem dX9_tells_77 : decode cX9_tells 77 = .ok (.iload 6, 2) := by decide +kernel
theorem dX9_tells_79 : decode cX9_tells 79 = .ok (.i2l, 1) := by decide +kernel
theorem dX9_tells_80 : decode cX9_tells 80 = .ok (.goto 8, 3) := by decide +kernel
theorem dX9_tells_83 : decode cX9_tells 83 = .ok (.iconst 4, 1) := by decide +kernel
theorem dX9_tells_84 : decode cX9_tells 84 = .ok (.iload 6, 2) := by decide +kernel
theorem dX9_tells_86 : decode cX9_tells 86 = .ok (.isub, 1) := by decide +kernel
theorem dX9_tells_87 : decode cX9_tells 87 = .ok (.i2l, 1) := by decide +kernel
theorem dX9_tells_88 : decode cX9_tells 88 = .ok (.lmul, 1) := by decide +kernel
theorem dX9_tells_89 : decode cX9_tells 89 = .ok (.lstore_n 3, 1) := by decide +kernel
theorem dX9_tells_90 : decode cX9_tells 90 = .ok (.iinc 5 1, 3) := by decide +kernel
theorem dX9_tells_93 : decode cX9_tells 93 = .ok (.goto (-55), 3) := by decide +kernel
theorem dX9_tells_96 : decode cX9_tells 96 = .ok (.iconst 0, 1) := by decide +kernel
theorem dX9_tells_97 : decode cX9_tells 97 = .ok (.istore 5, 2) := by decide +kernel
theorem dX9_tells_99 : decode cX9_tells 99 = .ok (.iload 5, 2) := by decide +kernel
theorem dX9_tells_101 : decode cX9_tells 101 = .ok (.bipush 50, 2) := by decide +kernel
theorem dX9_tells_103 : decode cX9_tells 103 = .ok (.if_icmp .ge 43, 3) := by decide +kernel
theorem dX9_tells_106 : decode cX9_tells 106 = .ok (.lload_n 3, 1) := by decide +kernel
theorem dX9_tells_107 : decode cX9_tells 107 = .ok (.lconst 0, 1) := by decide +kernel
theorem dX9_tells_108 : decode cX9_tells 108 = .ok (.lcmp, 1) := by decide +kernel
theorem dX9_tells_109 : decode cX9_tells 109 = .ok (.ifCond .le 37, 3) := by decide +kernel
theorem dX9_tells_112 : decode cX9_tells 112 = .ok (.aload_n 0, 1) := by decide +kernel
theorem dX9_tells_113 : decode cX9_tells 113 = .ok (.getfield 52, 3) := by decide +kernel
theorem dX9_tells_116 : decode cX9_tells 116 = .ok (.iload 5, 2) := by decide +kernel
theorem dX9_tells_118 : decode cX9_tells 118 = .ok (.laload, 1) := by decide +kernel
theorem dX9_tells_119 : decode cX9_tells 119 = .ok (.lconst 0, 1) := by decide +kernel
theorem dX9_tells_120 : decode cX9_tells 120 = .ok (.lcmp, 1) := by decide +kernel
theorem dX9_tells_121 : decode cX9_tells 121 = .ok (.ifCond .le 19, 3) := by decide +kernel
theorem dX9_tells_124 : decode cX9_tells 124 = .ok (.aload_n 0, 1) := by decide +kernel
theorem dX9_tells_125 : decode cX9_tells 125 = .ok (.iload 5, 2) := by decide +kernel
theorem dX9_tells_127 : decode cX9_tells 127 = .ok (.iload_n 2, 1) := by decide +kernel
theorem dX9_tells_128 : decode cX9_tells 128 = .ok (.aload_n 0, 1) := by decide +kernel
theorem dX9_tells_129 : decode cX9_tells 129 = .ok (.getfield 52, 3) := by decide +kernel
theorem dX9_tells_132 : decode cX9_tells 132 = .ok (.iload 5, 2) := by decide +kernel
theorem dX9_tells_134 : decode cX9_tells 134 = .ok (.laload, 1) := by decide +kernel
theorem dX9_tells_135 : decode cX9_tells 135 = .ok (.lload_n 3, 1) := by decide +kernel
theorem dX9_tells_136 : decode cX9_tells 136 = .ok (.lmul, 1) := by decide +kernel
theorem dX9_tells_137 : decode cX9_tells 137 = .ok (.invokevirtual 212, 3) := by decide +kernel
theorem dX9_tells_140 : decode cX9_tells 140 = .ok (.iinc 5 1, 3) := by decide +kernel
theorem dX9_tells_143 : decode cX9_tells 143 = .ok (.goto (-44), 3) := by decide +kernel
theorem dX9_tells_146 : decode cX9_tells 146 = .ok (.iinc 2 1, 3) := by decide +kernel
theorem dX9_tells_149 : decode cX9_tells 149 = .ok (.goto (-126), 3) := by decide +kernel
theorem dX9_tells_152 : decode cX9_tells 152 = .ok (.iconst 0, 1) := by decide +kernel
theorem dX9_tells_153 : decode cX9_tells 153 = .ok (.istore_n 2, 1) := by decide +kernel
theorem dX9_tells_154 : decode cX9_tells 154 = .ok (.iload_n 2, 1) := by decide +kernel
theorem dX9_tells_155 : decode cX9_tells 155 = .ok (.bipush 50, 2) := by decide +kernel
theorem dX9_tells_157 : decode cX9_tells 157 = .ok (.if_icmp .ge 21, 3) := by decide +kernel
theorem dX9_tells_160 : decode cX9_tells 160 = .ok (.aload_n 0, 1) := by decide +kernel
theorem dX9_tells_161 : decode cX9_tells 161 = .ok (.getfield 52, 3) := by decide +kernel
theorem dX9_tells_164 : decode cX9_tells 164 = .ok (.iload_n 2, 1) := by decide +kernel
theorem dX9_tells_165 : decode cX9_tells 165 = .ok (.aload_n 0, 1) := by decide +kernel
theorem dX9_tells_166 : decode cX9_tells 166 = .ok (.getfield 56, 3) := by decide +kernel
theorem dX9_tells_169 : decode cX9_tells 169 = .ok (.iload_n 2, 1) := by decide +kernel
theorem dX9_tells_170 : decode cX9_tells 170 = .ok (.laload, 1) := by decide +kernel
theorem dX9_tells_171 : decode cX9_tells 171 = .ok (.lastore, 1) := by decide +kernel
theorem dX9_tells_172 : decode cX9_tells 172 = .ok (.iinc 2 1, 3) := by decide +kernel
theorem dX9_tells_175 : decode cX9_tells 175 = .ok (.goto (-21), 3) := by decide +kernel
theorem dX9_tells_178 : decode cX9_tells 178 = .ok (.return_, 1) := by decide +kernel
theorem dX9_goes_0 : decode cX9_goes 0 = .ok (.iconst 0, 1) := by decide +kernel
theorem dX9_goes_1 : decode cX9_goes 1 = .ok (.istore_n 2, 1) := by decide +kernel
theorem dX9_goes_2 : decode cX9_goes 2 = .ok (.iload_n 2, 1) := by decide +kernel
theorem dX9_goes_3 : decode cX9_goes 3 = .ok (.bipush 50, 2) := by decide +kernel
theorem dX9_goes_5 : decode cX9_goes 5 = .ok (.if_icmp .ge 16, 3) := by decide +kernel
theorem dX9_goes_8 : decode cX9_goes 8 = .ok (.aload_n 0, 1) := by decide +kernel
theorem dX9_goes_9 : decode cX9_goes 9 = .ok (.getfield 52, 3) := by decide +kernel
theorem dX9_goes_12 : decode cX9_goes 12 = .ok (.iload_n 2, 1) := by decide +kernel
theorem dX9_goes_13 : decode cX9_goes 13 = .ok (.lconst 0, 1) := by decide +kernel
theorem dX9_goes_14 : decode cX9_goes 14 = .ok (.lastore, 1) := by decide +kernel
theorem dX9_goes_15 : decode cX9_goes 15 = .ok (.iinc 2 1, 3) := by decide +kernel
theorem dX9_goes_18 : decode cX9_goes 18 = .ok (.goto (-16), 3) := by decide +kernel
theorem dX9_goes_21 : decode cX9_goes 21 = .ok (.aload_n 0, 1) := by decide +kernel
theorem dX9_goes_22 : decode cX9_goes 22 = .ok (.getfield 52, 3) := by decide +kernel
theorem dX9_goes_25 : decode cX9_goes 25 = .ok (.bipush 10, 2) := by decide +kernel
theorem dX9_goes_27 : decode cX9_goes 27 = .ok (.aload_n 0, 1) := by decide +kernel
theorem dX9_goes_28 : decode cX9_goes 28 = .ok (.getfield 180, 3) := by decide +kernel
theorem dX9_goes_31 : decode cX9_goes 31 = .ok (.imul, 1) := by decide +kernel
theorem dX9_goes_32 : decode cX9_goes 32 = .ok (.lconst 1, 1) := by decide +kernel
theorem dX9_goes_33 : decode cX9_goes 33 = .ok (.lastore, 1) := by decide +kernel
theorem dX9_goes_34 : decode cX9_goes 34 = .ok (.iconst 0, 1) := by decide +kernel
theorem dX9_goes_35 : decode cX9_goes 35 = .ok (.istore_n 2, 1) := by decide +kernel
theorem dX9_goes_36 : decode cX9_goes 36 = .ok (.iload_n 2, 1) := by decide +kernel
theorem dX9_goes_37 : decode cX9_goes 37 = .ok (.iload_n 1, 1) := by decide +kernel
theorem dX9_goes_38 : decode cX9_goes 38 = .ok (.if_icmp .ge 14, 3) := by decide +kernel
theorem dX9_goes_41 : decode cX9_goes 41 = .ok (.aload_n 0, 1) := by decide +kernel
theorem dX9_goes_42 : decode cX9_goes 42 = .ok (.iload_n 2, 1) := by decide +kernel
theorem dX9_goes_43 : decode cX9_goes 43 = .ok (.invokevirtual 215, 3) := by decide +kernel
theorem dX9_goes_46 : decode cX9_goes 46 = .ok (.iinc 2 1, 3) := by decide +kernel
theorem dX9_goes_49 : decode cX9_goes 49 = .ok (.goto (-13), 3) := by decide +kernel
theorem dX9_goes_52 : decode cX9_goes 52 = .ok (.return_, 1) := by decide +kernel
theorem dX9_whole_0 : decode cX9_whole 0 = .ok (.lconst 1, 1) := by decide +kernel
theorem dX9_whole_1 : decode cX9_whole 1 = .ok (.lstore_n 1, 1) := by decide +kernel
theorem dX9_whole_2 : decode cX9_whole 2 = .ok (.iconst 0, 1) := by decide +kernel
theorem dX9_whole_3 : decode cX9_whole 3 = .ok (.istore_n 3, 1) := by decide +kernel
theorem dX9_whole_4 : decode cX9_whole 4 = .ok (.iload_n 3, 1) := by decide +kernel
theorem dX9_whole_5 : decode cX9_whole 5 = .ok (.iload_n 0, 1) := by decide +kernel
theorem dX9_whole_6 : decode cX9_whole 6 = .ok (.if_icmp .ge 15, 3) := by decide +kernel
theorem dX9_whole_9 : decode cX9_whole 9 = .ok (.lload_n 1, 1) := by decide +kernel
theorem dX9_whole_10 : decode cX9_whole 10 = .ok (.ldc2_w 219, 3) := by decide +kernel
theorem dX9_whole_13 : decode cX9_whole 13 = .ok (.lmul, 1) := by decide +kernel
theorem dX9_whole_14 : decode cX9_whole 14 = .ok (.lstore_n 1, 1) := by decide +kernel
theorem dX9_whole_15 : decode cX9_whole 15 = .ok (.iinc 3 1, 3) := by decide +kernel
theorem dX9_whole_18 : decode cX9_whole 18 = .ok (.goto (-14), 3) := by decide +kernel
theorem dX9_whole_21 : decode cX9_whole 21 = .ok (.lload_n 1, 1) := by decide +kernel
theorem dX9_whole_22 : decode cX9_whole 22 = .ok (.lreturn, 1) := by decide +kernel
theorem dX9_partsOf_0 : decode cX9_partsOf 0 = .ok (.lconst 0, 1) := by decide +kernel
theorem dX9_partsOf_1 : decode cX9_partsOf 1 = .ok (.lstore_n 2, 1) := by decide +kernel
theorem dX9_partsOf_2 : decode cX9_partsOf 2 = .ok (.iconst 0, 1) := by decide +kernel
theorem dX9_partsOf_3 : decode cX9_partsOf 3 = .ok (.istore 4, 2) := by decide +kernel
theorem dX9_partsOf_5 : decode cX9_partsOf 5 = .ok (.iload 4, 2) := by decide +kernel
theorem dX9_partsOf_7 : decode cX9_partsOf 7 = .ok (.bipush 10, 2) := by decide +kernel
theorem dX9_partsOf_9 : decode cX9_partsOf 9 = .ok (.if_icmp .ge 24, 3) := by decide +kernel
theorem dX9_partsOf_12 : decode cX9_partsOf 12 = .ok (.lload_n 2, 1) := by decide +kernel
theorem dX9_partsOf_13 : decode cX9_partsOf 13 = .ok (.aload_n 0, 1) := by decide +kernel
theorem dX9_partsOf_14 : decode cX9_partsOf 14 = .ok (.getfield 52, 3) := by decide +kernel
theorem dX9_partsOf_17 : decode cX9_partsOf 17 = .ok (.bipush 10, 2) := by decide +kernel
theorem dX9_partsOf_19 : decode cX9_partsOf 19 = .ok (.iload_n 1, 1) := by decide +kernel
theorem dX9_partsOf_20 : decode cX9_partsOf 20 = .ok (.imul, 1) := by decide +kernel
theorem dX9_partsOf_21 : decode cX9_partsOf 21 = .ok (.iload 4, 2) := by decide +kernel
theorem dX9_partsOf_23 : decode cX9_partsOf 23 = .ok (.iadd, 1) := by decide +kernel
theorem dX9_partsOf_24 : decode cX9_partsOf 24 = .ok (.laload, 1) := by decide +kernel
theorem dX9_partsOf_25 : decode cX9_partsOf 25 = .ok (.ladd, 1) := by decide +kernel
theorem dX9_partsOf_26 : decode cX9_partsOf 26 = .ok (.lstore_n 2, 1) := by decide +kernel
theorem dX9_partsOf_27 : decode cX9_partsOf 27 = .ok (.iinc 4 1, 3) := by decide +kernel
theorem dX9_partsOf_30 : decode cX9_partsOf 30 = .ok (.goto (-25), 3) := by decide +kernel
theorem dX9_partsOf_33 : decode cX9_partsOf 33 = .ok (.lload_n 2, 1) := by decide +kernel
theorem dX9_partsOf_34 : decode cX9_partsOf 34 = .ok (.lreturn, 1) := by decide +kernel
theorem dX9_amountNow_0 : decode cX9_amountNow 0 = .ok (.aload_n 0, 1) := by decide +kernel
theorem dX9_amountNow_1 : decode cX9_amountNow 1 = .ok (.aload_n 0, 1) := by decide +kernel
theorem dX9_amountNow_2 : decode cX9_amountNow 2 = .ok (.getfield 129, 3) := by decide +kernel
theorem dX9_amountNow_5 : decode cX9_amountNow 5 = .ok (.invokevirtual 221, 3) := by decide +kernel
theorem dX9_amountNow_8 : decode cX9_amountNow 8 = .ok (.lconst 0, 1) := by decide +kernel
theorem dX9_amountNow_9 : decode cX9_amountNow 9 = .ok (.lstore_n 2, 1) := by decide +kernel
theorem dX9_amountNow_10 : decode cX9_amountNow 10 = .ok (.iconst 0, 1) := by decide +kernel
theorem dX9_amountNow_11 : decode cX9_amountNow 11 = .ok (.istore 4, 2) := by decide +kernel
theorem dX9_amountNow_13 : decode cX9_amountNow 13 = .ok (.iload 4, 2) := by decide +kernel
theorem dX9_amountNow_15 : decode cX9_amountNow 15 = .ok (.bipush 10, 2) := by decide +kernel
theorem dX9_amountNow_17 : decode cX9_amountNow 17 = .ok (.if_icmp .ge 33, 3) := by decide +kernel
theorem dX9_amountNow_20 : decode cX9_amountNow 20 = .ok (.lload_n 2, 1) := by decide +kernel
theorem dX9_amountNow_21 : decode cX9_amountNow 21 = .ok (.aload_n 0, 1) := by decide +kernel
theorem dX9_amountNow_22 : decode cX9_amountNow 22 = .ok (.getfield 52, 3) := by decide +kernel
theorem dX9_amountNow_25 : decode cX9_amountNow 25 = .ok (.bipush 10, 2) := by decide +kernel
theorem dX9_amountNow_27 : decode cX9_amountNow 27 = .ok (.iload_n 1, 1) := by decide +kernel
theorem dX9_amountNow_28 : decode cX9_amountNow 28 = .ok (.imul, 1) := by decide +kernel
theorem dX9_amountNow_29 : decode cX9_amountNow 29 = .ok (.iload 4, 2) := by decide +kernel
theorem dX9_amountNow_31 : decode cX9_amountNow 31 = .ok (.iadd, 1) := by decide +kernel
theorem dX9_amountNow_32 : decode cX9_amountNow 32 = .ok (.laload, 1) := by decide +kernel
theorem dX9_amountNow_33 : decode cX9_amountNow 33 = .ok (.ldc2_w 224, 3) := by decide +kernel
theorem dX9_amountNow_36 : decode cX9_amountNow 36 = .ok (.iload 4, 2) := by decide +kernel
theorem dX9_amountNow_38 : decode cX9_amountNow 38 = .ok (.iconst 2, 1) := by decide +kernel
theorem dX9_amountNow_39 : decode cX9_amountNow 39 = .ok (.idiv, 1) := by decide +kernel
theorem dX9_amountNow_40 : decode cX9_amountNow 40 = .ok (.lshr, 1) := by decide +kernel
theorem dX9_amountNow_41 : decode cX9_amountNow 41 = .ok (.lmul, 1) := by decide +kernel
theorem dX9_amountNow_42 : decode cX9_amountNow 42 = .ok (.ladd, 1) := by decide +kernel
theorem dX9_amountNow_43 : decode cX9_amountNow 43 = .ok (.lstore_n 2, 1) := by decide +kernel
theorem dX9_amountNow_44 : decode cX9_amountNow 44 = .ok (.iinc 4 1, 3) := by decide +kernel
theorem dX9_amountNow_47 : decode cX9_amountNow 47 = .ok (.goto (-34), 3) := by decide +kernel
theorem dX9_amountNow_50 : decode cX9_amountNow 50 = .ok (.lload_n 2, 1) := by decide +kernel
theorem dX9_amountNow_51 : decode cX9_amountNow 51 = .ok (.lreturn, 1) := by decide +kernel
theorem dX9_all_0 : decode cX9_all 0 = .ok (.ldc2_w 224, 3) := by decide +kernel
theorem dX9_all_3 : decode cX9_all 3 = .ok (.aload_n 0, 1) := by decide +kernel
theorem dX9_all_4 : decode cX9_all 4 = .ok (.getfield 129, 3) := by decide +kernel
theorem dX9_all_7 : decode cX9_all 7 = .ok (.invokestatic 226, 3) := by decide +kernel
theorem dX9_all_10 : decode cX9_all 10 = .ok (.lmul, 1) := by decide +kernel
theorem dX9_all_11 : decode cX9_all 11 = .ok (.lreturn, 1) := by decide +kernel
theorem dX9_costNow_0 : decode cX9_costNow 0 = .ok (.aload_n 0, 1) := by decide +kernel
theorem dX9_costNow_1 : decode cX9_costNow 1 = .ok (.getfield 43, 3) := by decide +kernel
theorem dX9_costNow_4 : decode cX9_costNow 4 = .ok (.iload_n 1, 1) := by decide +kernel
theorem dX9_costNow_5 : decode cX9_costNow 5 = .ok (.iaload, 1) := by decide +kernel
theorem dX9_costNow_6 : decode cX9_costNow 6 = .ok (.aload_n 0, 1) := by decide +kernel
theorem dX9_costNow_7 : decode cX9_costNow 7 = .ok (.getfield 129, 3) := by decide +kernel
theorem dX9_costNow_10 : decode cX9_costNow 10 = .ok (.if_icmp .ge 16, 3) := by decide +kernel
theorem dX9_costNow_13 : decode cX9_costNow 13 = .ok (.aload_n 0, 1) := by decide +kernel
theorem dX9_costNow_14 : decode cX9_costNow 14 = .ok (.getfield 25, 3) := by decide +kernel
theorem dX9_costNow_17 : decode cX9_costNow 17 = .ok (.iconst 4, 1) := by decide +kernel
theorem dX9_costNow_18 : decode cX9_costNow 18 = .ok (.iload_n 1, 1) := by decide +kernel
theorem dX9_costNow_19 : decode cX9_costNow 19 = .ok (.imul, 1) := by decide +kernel
theorem dX9_costNow_20 : decode cX9_costNow 20 = .ok (.iconst 2, 1) := by decide +kernel
theorem dX9_costNow_21 : decode cX9_costNow 21 = .ok (.iadd, 1) := by decide +kernel
theorem dX9_costNow_22 : decode cX9_costNow 22 = .ok (.iaload, 1) := by decide +kernel
theorem dX9_costNow_23 : decode cX9_costNow 23 = .ok (.goto 4, 3) := by decide +kernel
theorem dX9_costNow_26 : decode cX9_costNow 26 = .ok (.iconst 0, 1) := by decide +kernel
theorem dX9_costNow_27 : decode cX9_costNow 27 = .ok (.istore_n 2, 1) := by decide +kernel
theorem dX9_costNow_28 : decode cX9_costNow 28 = .ok (.iconst 0, 1) := by decide +kernel
theorem dX9_costNow_29 : decode cX9_costNow 29 = .ok (.istore_n 3, 1) := by decide +kernel
theorem dX9_costNow_30 : decode cX9_costNow 30 = .ok (.iload_n 3, 1) := by decide +kernel
theorem dX9_costNow_31 : decode cX9_costNow 31 = .ok (.aload_n 0, 1) := by decide +kernel
theorem dX9_costNow_32 : decode cX9_costNow 32 = .ok (.getfield 129, 3) := by decide +kernel
theorem dX9_costNow_35 : decode cX9_costNow 35 = .ok (.if_icmp .ge 50, 3) := by decide +kernel
theorem dX9_costNow_38 : decode cX9_costNow 38 = .ok (.iload_n 2, 1) := by decide +kernel
theorem dX9_costNow_39 : decode cX9_costNow 39 = .ok (.aload_n 0, 1) := by decide +kernel
theorem dX9_costNow_40 : decode cX9_costNow 40 = .ok (.getfield 40, 3) := by decide +kernel
theorem dX9_costNow_43 : decode cX9_costNow 43 = .ok (.iload_n 1, 1) := by decide +kernel
theorem dX9_costNow_44 : decode cX9_costNow 44 = .ok (.iaload, 1) := by decide +kernel
theorem dX9_costNow_45 : decode cX9_costNow 45 = .ok (.iload_n 3, 1) := by decide +kernel
theorem dX9_costNow_46 : decode cX9_costNow 46 = .ok (.ishr, 1) := by decide +kernel
theorem dX9_costNow_47 : decode cX9_costNow 47 = .ok (.iconst 1, 1) := by decide +kernel
theorem dX9_costNow_48 : decode cX9_costNow 48 = .ok (.iand, 1) := by decide +kernel
theorem dX9_costNow_49 : decode cX9_costNow 49 = .ok (.iconst 1, 1) := by decide +kernel
theorem dX9_costNow_50 : decode cX9_costNow 50 = .ok (.if_icmp .ne 26, 3) := by decide +kernel
theorem dX9_costNow_53 : decode cX9_costNow 53 = .ok (.aload_n 0, 1) := by decide +kernel
theorem dX9_costNow_54 : decode cX9_costNow 54 = .ok (.getfield 43, 3) := by decide +kernel
theorem dX9_costNow_57 : decode cX9_costNow 57 = .ok (.iload_n 1, 1) := by decide +kernel
theorem dX9_costNow_58 : decode cX9_costNow 58 = .ok (.iaload, 1) := by decide +kernel
theorem dX9_costNow_59 : decode cX9_costNow 59 = .ok (.iload_n 3, 1) := by decide +kernel
theorem dX9_costNow_60 : decode cX9_costNow 60 = .ok (.if_icmp .le 16, 3) := by decide +kernel
theorem dX9_costNow_63 : decode cX9_costNow 63 = .ok (.aload_n 0, 1) := by decide +kernel
theorem dX9_costNow_64 : decode cX9_costNow 64 = .ok (.getfield 25, 3) := by decide +kernel
theorem dX9_costNow_67 : decode cX9_costNow 67 = .ok (.iconst 4, 1) := by decide +kernel
theorem dX9_costNow_68 : decode cX9_costNow 68 = .ok (.iload_n 1, 1) := by decide +kernel
theorem dX9_costNow_69 : decode cX9_costNow 69 = .ok (.imul, 1) := by decide +kernel
theorem dX9_costNow_70 : decode cX9_costNow 70 = .ok (.iconst 1, 1) := by decide +kernel
theorem dX9_costNow_71 : decode cX9_costNow 71 = .ok (.iadd, 1) := by decide +kernel
theorem dX9_costNow_72 : decode cX9_costNow 72 = .ok (.iaload, 1) := by decide +kernel
theorem dX9_costNow_73 : decode cX9_costNow 73 = .ok (.goto 4, 3) := by decide +kernel
theorem dX9_costNow_76 : decode cX9_costNow 76 = .ok (.iconst 0, 1) := by decide +kernel
theorem dX9_costNow_77 : decode cX9_costNow 77 = .ok (.iadd, 1) := by decide +kernel
theorem dX9_costNow_78 : decode cX9_costNow 78 = .ok (.istore_n 2, 1) := by decide +kernel
theorem dX9_costNow_79 : decode cX9_costNow 79 = .ok (.iinc 3 1, 3) := by decide +kernel
theorem dX9_costNow_82 : decode cX9_costNow 82 = .ok (.goto (-52), 3) := by decide +kernel
theorem dX9_costNow_85 : decode cX9_costNow 85 = .ok (.aload_n 0, 1) := by decide +kernel
theorem dX9_costNow_86 : decode cX9_costNow 86 = .ok (.getfield 25, 3) := by decide +kernel
theorem dX9_costNow_89 : decode cX9_costNow 89 = .ok (.iconst 4, 1) := by decide +kernel
theorem dX9_costNow_90 : decode cX9_costNow 90 = .ok (.iload_n 1, 1) := by decide +kernel
theorem dX9_costNow_91 : decode cX9_costNow 91 = .ok (.imul, 1) := by decide +kernel
theorem dX9_costNow_92 : decode cX9_costNow 92 = .ok (.iconst 3, 1) := by decide +kernel
theorem dX9_costNow_93 : decode cX9_costNow 93 = .ok (.iadd, 1) := by decide +kernel
theorem dX9_costNow_94 : decode cX9_costNow 94 = .ok (.iaload, 1) := by decide +kernel
theorem dX9_costNow_95 : decode cX9_costNow 95 = .ok (.i2l, 1) := by decide +kernel
theorem dX9_costNow_96 : decode cX9_costNow 96 = .ok (.aload_n 0, 1) := by decide +kernel
theorem dX9_costNow_97 : decode cX9_costNow 97 = .ok (.iload_n 1, 1) := by decide +kernel
theorem dX9_costNow_98 : decode cX9_costNow 98 = .ok (.invokevirtual 230, 3) := by decide +kernel
theorem dX9_costNow_101 : decode cX9_costNow 101 = .ok (.lmul, 1) := by decide +kernel
theorem dX9_costNow_102 : decode cX9_costNow 102 = .ok (.iload_n 2, 1) := by decide +kernel
theorem dX9_costNow_103 : decode cX9_costNow 103 = .ok (.i2l, 1) := by decide +kernel
theorem dX9_costNow_104 : decode cX9_costNow 104 = .ok (.aload_n 0, 1) := by decide +kernel
theorem dX9_costNow_105 : decode cX9_costNow 105 = .ok (.invokevirtual 233, 3) := by decide +kernel
theorem dX9_costNow_108 : decode cX9_costNow 108 = .ok (.lmul, 1) := by decide +kernel
theorem dX9_costNow_109 : decode cX9_costNow 109 = .ok (.ladd, 1) := by decide +kernel
theorem dX9_costNow_110 : decode cX9_costNow 110 = .ok (.lreturn, 1) := by decide +kernel
theorem dX9_part_0 : decode cX9_part 0 = .ok (.lload_n 0, 1) := by decide +kernel
theorem dX9_part_1 : decode cX9_part 1 = .ok (.lconst 0, 1) := by decide +kernel
theorem dX9_part_2 : decode cX9_part 2 = .ok (.lcmp, 1) := by decide +kernel
theorem dX9_part_3 : decode cX9_part 3 = .ok (.ifCond .ge 8, 3) := by decide +kernel
theorem dX9_part_6 : decode cX9_part 6 = .ok (.lload_n 0, 1) := by decide +kernel
theorem dX9_part_7 : decode cX9_part 7 = .ok (.lneg, 1) := by decide +kernel
theorem dX9_part_8 : decode cX9_part 8 = .ok (.goto 4, 3) := by decide +kernel
theorem dX9_part_11 : decode cX9_part 11 = .ok (.lload_n 0, 1) := by decide +kernel
theorem dX9_part_12 : decode cX9_part 12 = .ok (.lstore 5, 2) := by decide +kernel
theorem dX9_part_14 : decode cX9_part 14 = .ok (.lload_n 2, 1) := by decide +kernel
theorem dX9_part_15 : decode cX9_part 15 = .ok (.lstore 7, 2) := by decide +kernel
theorem dX9_part_17 : decode cX9_part 17 = .ok (.lload 7, 2) := by decide +kernel
theorem dX9_part_19 : decode cX9_part 19 = .ok (.lconst 0, 1) := by decide +kernel
theorem dX9_part_20 : decode cX9_part 20 = .ok (.lcmp, 1) := by decide +kernel
theorem dX9_part_21 : decode cX9_part 21 = .ok (.ifCond .eq 21, 3) := by decide +kernel
theorem dX9_part_24 : decode cX9_part 24 = .ok (.lload 5, 2) := by decide +kernel
theorem dX9_part_26 : decode cX9_part 26 = .ok (.lload 7, 2) := by decide +kernel
theorem dX9_part_28 : decode cX9_part 28 = .ok (.lrem, 1) := by decide +kernel
theorem dX9_part_29 : decode cX9_part 29 = .ok (.lstore 9, 2) := by decide +kernel
theorem dX9_part_31 : decode cX9_part 31 = .ok (.lload 7, 2) := by decide +kernel
theorem dX9_part_33 : decode cX9_part 33 = .ok (.lstore 5, 2) := by decide +kernel
theorem dX9_part_35 : decode cX9_part 35 = .ok (.lload 9, 2) := by decide +kernel
theorem dX9_part_37 : decode cX9_part 37 = .ok (.lstore 7, 2) := by decide +kernel
theorem dX9_part_39 : decode cX9_part 39 = .ok (.goto (-22), 3) := by decide +kernel
theorem dX9_part_42 : decode cX9_part 42 = .ok (.iload 4, 2) := by decide +kernel
theorem dX9_part_44 : decode cX9_part 44 = .ok (.ifCond .ne 7, 3) := by decide +kernel
theorem dX9_part_47 : decode cX9_part 47 = .ok (.lload_n 0, 1) := by decide +kernel
theorem dX9_part_48 : decode cX9_part 48 = .ok (.goto 4, 3) := by decide +kernel
theorem dX9_part_51 : decode cX9_part 51 = .ok (.lload_n 2, 1) := by decide +kernel
theorem dX9_part_52 : decode cX9_part 52 = .ok (.lload 5, 2) := by decide +kernel
theorem dX9_part_54 : decode cX9_part 54 = .ok (.ldiv, 1) := by decide +kernel
theorem dX9_part_55 : decode cX9_part 55 = .ok (.lreturn, 1) := by decide +kernel
theorem dX9_owesOf_0 : decode cX9_owesOf 0 = .ok (.aload_n 0, 1) := by decide +kernel
theorem dX9_owesOf_1 : decode cX9_owesOf 1 = .ok (.invokevirtual 194, 3) := by decide +kernel
theorem dX9_owesOf_4 : decode cX9_owesOf 4 = .ok (.aload_n 0, 1) := by decide +kernel
theorem dX9_owesOf_5 : decode cX9_owesOf 5 = .ok (.iload_n 2, 1) := by decide +kernel
theorem dX9_owesOf_6 : decode cX9_owesOf 6 = .ok (.invokevirtual 221, 3) := by decide +kernel
theorem dX9_owesOf_9 : decode cX9_owesOf 9 = .ok (.aload_n 0, 1) := by decide +kernel
theorem dX9_owesOf_10 : decode cX9_owesOf 10 = .ok (.iload_n 1, 1) := by decide +kernel
theorem dX9_owesOf_11 : decode cX9_owesOf 11 = .ok (.invokevirtual 237, 3) := by decide +kernel
theorem dX9_owesOf_14 : decode cX9_owesOf 14 = .ok (.iload_n 2, 1) := by decide +kernel
theorem dX9_owesOf_15 : decode cX9_owesOf 15 = .ok (.invokestatic 226, 3) := by decide +kernel
theorem dX9_owesOf_18 : decode cX9_owesOf 18 = .ok (.iload_n 3, 1) := by decide +kernel
theorem dX9_owesOf_19 : decode cX9_owesOf 19 = .ok (.invokestatic 240, 3) := by decide +kernel
theorem dX9_owesOf_22 : decode cX9_owesOf 22 = .ok (.lreturn, 1) := by decide +kernel
theorem dX9_owes_0 : decode cX9_owes 0 = .ok (.aload_n 0, 1) := by decide +kernel
theorem dX9_owes_1 : decode cX9_owes 1 = .ok (.iload_n 1, 1) := by decide +kernel
theorem dX9_owes_2 : decode cX9_owes 2 = .ok (.invokevirtual 158, 3) := by decide +kernel
theorem dX9_owes_5 : decode cX9_owes 5 = .ok (.ifCond .eq 34, 3) := by decide +kernel
theorem dX9_owes_8 : decode cX9_owes 8 = .ok (.iload_n 2, 1) := by decide +kernel
theorem dX9_owes_9 : decode cX9_owes 9 = .ok (.i2l, 1) := by decide +kernel
theorem dX9_owes_10 : decode cX9_owes 10 = .ok (.lconst 0, 1) := by decide +kernel
theorem dX9_owes_11 : decode cX9_owes 11 = .ok (.aload_n 0, 1) := by decide +kernel
theorem dX9_owes_12 : decode cX9_owes 12 = .ok (.getfield 129, 3) := by decide +kernel
theorem dX9_owes_15 : decode cX9_owes 15 = .ok (.i2l, 1) := by decide +kernel
theorem dX9_owes_16 : decode cX9_owes 16 = .ok (.invokestatic 89, 3) := by decide +kernel
theorem dX9_owes_19 : decode cX9_owes 19 = .ok (.ifCond .eq 20, 3) := by decide +kernel
theorem dX9_owes_22 : decode cX9_owes 22 = .ok (.iload_n 3, 1) := by decide +kernel
theorem dX9_owes_23 : decode cX9_owes 23 = .ok (.invokestatic 244, 3) := by decide +kernel
theorem dX9_owes_26 : decode cX9_owes 26 = .ok (.ifCond .eq 13, 3) := by decide +kernel
theorem dX9_owes_29 : decode cX9_owes 29 = .ok (.aload_n 0, 1) := by decide +kernel
theorem dX9_owes_30 : decode cX9_owes 30 = .ok (.iload_n 1, 1) := by decide +kernel
theorem dX9_owes_31 : decode cX9_owes 31 = .ok (.iload_n 2, 1) := by decide +kernel
theorem dX9_owes_32 : decode cX9_owes 32 = .ok (.iload_n 3, 1) := by decide +kernel
theorem dX9_owes_33 : decode cX9_owes 33 = .ok (.invokevirtual 247, 3) := by decide +kernel
theorem dX9_owes_36 : decode cX9_owes 36 = .ok (.goto 8, 3) := by decide +kernel
theorem dX9_owes_39 : decode cX9_owes 39 = .ok (.bipush (-2), 2) := by decide +kernel
theorem dX9_owes_41 : decode cX9_owes 41 = .ok (.invokestatic 251, 3) := by decide +kernel
theorem dX9_owes_44 : decode cX9_owes 44 = .ok (.lreturn, 1) := by decide +kernel
theorem dX9_amountOf_0 : decode cX9_amountOf 0 = .ok (.aload_n 0, 1) := by decide +kernel
theorem dX9_amountOf_1 : decode cX9_amountOf 1 = .ok (.invokevirtual 194, 3) := by decide +kernel
theorem dX9_amountOf_4 : decode cX9_amountOf 4 = .ok (.aload_n 0, 1) := by decide +kernel
theorem dX9_amountOf_5 : decode cX9_amountOf 5 = .ok (.iload_n 1, 1) := by decide +kernel
theorem dX9_amountOf_6 : decode cX9_amountOf 6 = .ok (.invokevirtual 230, 3) := by decide +kernel
theorem dX9_amountOf_9 : decode cX9_amountOf 9 = .ok (.aload_n 0, 1) := by decide +kernel
theorem dX9_amountOf_10 : decode cX9_amountOf 10 = .ok (.invokevirtual 233, 3) := by decide +kernel
theorem dX9_amountOf_13 : decode cX9_amountOf 13 = .ok (.iload_n 2, 1) := by decide +kernel
theorem dX9_amountOf_14 : decode cX9_amountOf 14 = .ok (.invokestatic 240, 3) := by decide +kernel
theorem dX9_amountOf_17 : decode cX9_amountOf 17 = .ok (.lreturn, 1) := by decide +kernel
theorem dX9_amount_0 : decode cX9_amount 0 = .ok (.aload_n 0, 1) := by decide +kernel
theorem dX9_amount_1 : decode cX9_amount 1 = .ok (.iload_n 1, 1) := by decide +kernel
theorem dX9_amount_2 : decode cX9_amount 2 = .ok (.invokevirtual 158, 3) := by decide +kernel
theorem dX9_amount_5 : decode cX9_amount 5 = .ok (.ifCond .eq 19, 3) := by decide +kernel
theorem dX9_amount_8 : decode cX9_amount 8 = .ok (.iload_n 2, 1) := by decide +kernel
theorem dX9_amount_9 : decode cX9_amount 9 = .ok (.invokestatic 244, 3) := by decide +kernel
theorem dX9_amount_12 : decode cX9_amount 12 = .ok (.ifCond .eq 12, 3) := by decide +kernel
theorem dX9_amount_15 : decode cX9_amount 15 = .ok (.aload_n 0, 1) := by decide +kernel
theorem dX9_amount_16 : decode cX9_amount 16 = .ok (.iload_n 1, 1) := by decide +kernel
theorem dX9_amount_17 : decode cX9_amount 17 = .ok (.iload_n 2, 1) := by decide +kernel
theorem dX9_amount_18 : decode cX9_amount 18 = .ok (.invokevirtual 254, 3) := by decide +kernel
theorem dX9_amount_21 : decode cX9_amount 21 = .ok (.goto 8, 3) := by decide +kernel
theorem dX9_amount_24 : decode cX9_amount 24 = .ok (.bipush (-2), 2) := by decide +kernel
theorem dX9_amount_26 : decode cX9_amount 26 = .ok (.invokestatic 251, 3) := by decide +kernel
theorem dX9_amount_29 : decode cX9_amount 29 = .ok (.lreturn, 1) := by decide +kernel
theorem dX9_costOf_0 : decode cX9_costOf 0 = .ok (.aload_n 0, 1) := by decide +kernel
theorem dX9_costOf_1 : decode cX9_costOf 1 = .ok (.invokevirtual 194, 3) := by decide +kernel
theorem dX9_costOf_4 : decode cX9_costOf 4 = .ok (.aload_n 0, 1) := by decide +kernel
theorem dX9_costOf_5 : decode cX9_costOf 5 = .ok (.iload_n 1, 1) := by decide +kernel
theorem dX9_costOf_6 : decode cX9_costOf 6 = .ok (.invokevirtual 258, 3) := by decide +kernel
theorem dX9_costOf_9 : decode cX9_costOf 9 = .ok (.aload_n 0, 1) := by decide +kernel
theorem dX9_costOf_10 : decode cX9_costOf 10 = .ok (.invokevirtual 233, 3) := by decide +kernel
theorem dX9_costOf_13 : decode cX9_costOf 13 = .ok (.iload_n 2, 1) := by decide +kernel
theorem dX9_costOf_14 : decode cX9_costOf 14 = .ok (.invokestatic 240, 3) := by decide +kernel
theorem dX9_costOf_17 : decode cX9_costOf 17 = .ok (.lreturn, 1) := by decide +kernel
theorem dX9_cost_0 : decode cX9_cost 0 = .ok (.aload_n 0, 1) := by decide +kernel
theorem dX9_cost_1 : decode cX9_cost 1 = .ok (.iload_n 1, 1) := by decide +kernel
theorem dX9_cost_2 : decode cX9_cost 2 = .ok (.invokevirtual 158, 3) := by decide +kernel
theorem dX9_cost_5 : decode cX9_cost 5 = .ok (.ifCond .eq 19, 3) := by decide +kernel
theorem dX9_cost_8 : decode cX9_cost 8 = .ok (.iload_n 2, 1) := by decide +kernel
theorem dX9_cost_9 : decode cX9_cost 9 = .ok (.invokestatic 244, 3) := by decide +kernel
theorem dX9_cost_12 : decode cX9_cost 12 = .ok (.ifCond .eq 12, 3) := by decide +kernel
theorem dX9_cost_15 : decode cX9_cost 15 = .ok (.aload_n 0, 1) := by decide +kernel
theorem dX9_cost_16 : decode cX9_cost 16 = .ok (.iload_n 1, 1) := by decide +kernel
theorem dX9_cost_17 : decode cX9_cost 17 = .ok (.iload_n 2, 1) := by decide +kernel
theorem dX9_cost_18 : decode cX9_cost 18 = .ok (.invokevirtual 261, 3) := by decide +kernel
theorem dX9_cost_21 : decode cX9_cost 21 = .ok (.goto 8, 3) := by decide +kernel
theorem dX9_cost_24 : decode cX9_cost 24 = .ok (.bipush (-2), 2) := by decide +kernel
theorem dX9_cost_26 : decode cX9_cost 26 = .ok (.invokestatic 251, 3) := by decide +kernel
theorem dX9_cost_29 : decode cX9_cost 29 = .ok (.lreturn, 1) := by decide +kernel
theorem dX9_findBest_0 : decode cX9_findBest 0 = .ok (.aload_n 0, 1) := by decide +kernel
theorem dX9_findBest_1 : decode cX9_findBest 1 = .ok (.getfield 40, 3) := by decide +kernel
theorem dX9_findBest_4 : decode cX9_findBest 4 = .ok (.iload_n 1, 1) := by decide +kernel
theorem dX9_findBest_5 : decode cX9_findBest 5 = .ok (.iaload, 1) := by decide +kernel
theorem dX9_findBest_6 : decode cX9_findBest 6 = .ok (.istore_n 2, 1) := by decide +kernel
theorem dX9_findBest_7 : decode cX9_findBest 7 = .ok (.aload_n 0, 1) := by decide +kernel
theorem dX9_findBest_8 : decode cX9_findBest 8 = .ok (.getfield 43, 3) := by decide +kernel
theorem dX9_findBest_11 : decode cX9_findBest 11 = .ok (.iload_n 1, 1) := by decide +kernel
theorem dX9_findBest_12 : decode cX9_findBest 12 = .ok (.iaload, 1) := by decide +kernel
theorem dX9_findBest_13 : decode cX9_findBest 13 = .ok (.istore_n 3, 1) := by decide +kernel
theorem dX9_findBest_14 : decode cX9_findBest 14 = .ok (.aload_n 0, 1) := by decide +kernel
theorem dX9_findBest_15 : decode cX9_findBest 15 = .ok (.ldc2_w 264, 3) := by decide +kernel
theorem dX9_findBest_18 : decode cX9_findBest 18 = .ok (.putfield 266, 3) := by decide +kernel
theorem dX9_findBest_21 : decode cX9_findBest 21 = .ok (.aload_n 0, 1) := by decide +kernel
theorem dX9_findBest_22 : decode cX9_findBest 22 = .ok (.getfield 129, 3) := by decide +kernel
theorem dX9_findBest_25 : decode cX9_findBest 25 = .ok (.istore 4, 2) := by decide +kernel
theorem dX9_findBest_27 : decode cX9_findBest 27 = .ok (.iload 4, 2) := by decide +kernel
theorem dX9_findBest_29 : decode cX9_findBest 29 = .ok (.ifCond .lt 106, 3) := by decide +kernel
theorem dX9_findBest_32 : decode cX9_findBest 32 = .ok (.aload_n 0, 1) := by decide +kernel
theorem dX9_findBest_33 : decode cX9_findBest 33 = .ok (.getfield 43, 3) := by decide +kernel
theorem dX9_findBest_36 : decode cX9_findBest 36 = .ok (.iload_n 1, 1) := by decide +kernel
theorem dX9_findBest_37 : decode cX9_findBest 37 = .ok (.iload 4, 2) := by decide +kernel
theorem dX9_findBest_39 : decode cX9_findBest 39 = .ok (.aload_n 0, 1) := by decide +kernel
theorem dX9_findBest_40 : decode cX9_findBest 40 = .ok (.getfield 129, 3) := by decide +kernel
theorem dX9_findBest_43 : decode cX9_findBest 43 = .ok (.if_icmp .ne 7, 3) := by decide +kernel
theorem dX9_findBest_46 : decode cX9_findBest 46 = .ok (.iconst 4, 1) := by decide +kernel
theorem dX9_findBest_47 : decode cX9_findBest 47 = .ok (.goto 5, 3) := by decide +kernel
theorem dX9_findBest_50 : decode cX9_findBest 50 = .ok (.iload 4, 2) := by decide +kernel
theorem dX9_findBest_52 : decode cX9_findBest 52 = .ok (.iastore, 1) := by decide +kernel
theorem dX9_findBest_53 : decode cX9_findBest 53 = .ok (.iconst 0, 1) := by decide +kernel
theorem dX9_findBest_54 : decode cX9_findBest 54 = .ok (.istore 5, 2) := by decide +kernel
theorem dX9_findBest_56 : decode cX9_findBest 56 = .ok (.iload 5, 2) := by decide +kernel
theorem dX9_findBest_58 : decode cX9_findBest 58 = .ok (.iconst 1, 1) := by decide +kernel
theorem dX9_findBest_59 : decode cX9_findBest 59 = .ok (.aload_n 0, 1) := by decide +kernel
theorem dX9_findBest_60 : decode cX9_findBest 60 = .ok (.getfield 129, 3) := by decide +kernel
theorem dX9_findBest_63 : decode cX9_findBest 63 = .ok (.ishl, 1) := by decide +kernel
theorem dX9_findBest_64 : decode cX9_findBest 64 = .ok (.if_icmp .ge 65, 3) := by decide +kernel
theorem dX9_findBest_67 : decode cX9_findBest 67 = .ok (.aload_n 0, 1) := by decide +kernel
theorem dX9_findBest_68 : decode cX9_findBest 68 = .ok (.getfield 40, 3) := by decide +kernel
theorem dX9_findBest_71 : decode cX9_findBest 71 = .ok (.iload_n 1, 1) := by decide +kernel
theorem dX9_findBest_72 : decode cX9_findBest 72 = .ok (.iload 5, 2) := by decide +kernel
theorem dX9_findBest_74 : decode cX9_findBest 74 = .ok (.iastore, 1) := by decide +kernel
theorem dX9_findBest_75 : decode cX9_findBest 75 = .ok (.aload_n 0, 1) := by decide +kernel
theorem dX9_findBest_76 : decode cX9_findBest 76 = .ok (.iload_n 1, 1) := by decide +kernel
theorem dX9_findBest_77 : decode cX9_findBest 77 = .ok (.invokevirtual 258, 3) := by decide +kernel
theorem dX9_findBest_80 : decode cX9_findBest 80 = .ok (.lstore 6, 2) := by decide +kernel
theorem dX9_findBest_82 : decode cX9_findBest 82 = .ok (.aload_n 0, 1) := by decide +kernel
theorem dX9_findBest_83 : decode cX9_findBest 83 = .ok (.getfield 266, 3) := by decide +kernel
theorem dX9_findBest_86 : decode cX9_findBest 86 = .ok (.lconst 0, 1) := by decide +kernel
theorem dX9_findBest_87 : decode cX9_findBest 87 = .ok (.lcmp, 1) := by decide +kernel
theorem dX9_findBest_88 : decode cX9_findBest 88 = .ok (.ifCond .lt 13, 3) := by decide +kernel
theorem dX9_findBest_91 : decode cX9_findBest 91 = .ok (.lload 6, 2) := by decide +kernel
theorem dX9_findBest_93 : decode cX9_findBest 93 = .ok (.aload_n 0, 1) := by decide +kernel
theorem dX9_findBest_94 : decode cX9_findBest 94 = .ok (.getfield 266, 3) := by decide +kernel
theorem dX9_findBest_97 : decode cX9_findBest 97 = .ok (.lcmp, 1) := by decide +kernel
theorem dX9_findBest_98 : decode cX9_findBest 98 = .ok (.ifCond .ge 25, 3) := by decide +kernel
theorem dX9_findBest_101 : decode cX9_findBest 101 = .ok (.aload_n 0, 1) := by decide +kernel
theorem dX9_findBest_102 : decode cX9_findBest 102 = .ok (.lload 6, 2) := by decide +kernel
theorem dX9_findBest_104 : decode cX9_findBest 104 = .ok (.putfield 266, 3) := by decide +kernel
theorem dX9_findBest_107 : decode cX9_findBest 107 = .ok (.aload_n 0, 1) := by decide +kernel
theorem dX9_findBest_108 : decode cX9_findBest 108 = .ok (.iload 5, 2) := by decide +kernel
theorem dX9_findBest_110 : decode cX9_findBest 110 = .ok (.putfield 270, 3) := by decide +kernel
theorem dX9_findBest_113 : decode cX9_findBest 113 = .ok (.aload_n 0, 1) := by decide +kernel
theorem dX9_findBest_114 : decode cX9_findBest 114 = .ok (.aload_n 0, 1) := by decide +kernel
theorem dX9_findBest_115 : decode cX9_findBest 115 = .ok (.getfield 43, 3) := by decide +kernel
theorem dX9_findBest_118 : decode cX9_findBest 118 = .ok (.iload_n 1, 1) := by decide +kernel
theorem dX9_findBest_119 : decode cX9_findBest 119 = .ok (.iaload, 1) := by decide +kernel
theorem dX9_findBest_120 : decode cX9_findBest 120 = .ok (.putfield 273, 3) := by decide +kernel
theorem dX9_findBest_123 : decode cX9_findBest 123 = .ok (.iinc 5 1, 3) := by decide +kernel
theorem dX9_findBest_126 : decode cX9_findBest 126 = .ok (.goto (-70), 3) := by decide +kernel
theorem dX9_findBest_129 : decode cX9_findBest 129 = .ok (.iinc 4 (-1), 3) := by decide +kernel
theorem dX9_findBest_132 : decode cX9_findBest 132 = .ok (.goto (-105), 3) := by decide +kernel
theorem dX9_findBest_135 : decode cX9_findBest 135 = .ok (.aload_n 0, 1) := by decide +kernel
theorem dX9_findBest_136 : decode cX9_findBest 136 = .ok (.getfield 40, 3) := by decide +kernel
theorem dX9_findBest_139 : decode cX9_findBest 139 = .ok (.iload_n 1, 1) := by decide +kernel
theorem dX9_findBest_140 : decode cX9_findBest 140 = .ok (.iload_n 2, 1) := by decide +kernel
theorem dX9_findBest_141 : decode cX9_findBest 141 = .ok (.iastore, 1) := by decide +kernel
theorem dX9_findBest_142 : decode cX9_findBest 142 = .ok (.aload_n 0, 1) := by decide +kernel
theorem dX9_findBest_143 : decode cX9_findBest 143 = .ok (.getfield 43, 3) := by decide +kernel
theorem dX9_findBest_146 : decode cX9_findBest 146 = .ok (.iload_n 1, 1) := by decide +kernel
theorem dX9_findBest_147 : decode cX9_findBest 147 = .ok (.iload_n 3, 1) := by decide +kernel
theorem dX9_findBest_148 : decode cX9_findBest 148 = .ok (.iastore, 1) := by decide +kernel
theorem dX9_findBest_149 : decode cX9_findBest 149 = .ok (.return_, 1) := by decide +kernel
theorem dX9_bestOf_0 : decode cX9_bestOf 0 = .ok (.aload_n 0, 1) := by decide +kernel
theorem dX9_bestOf_1 : decode cX9_bestOf 1 = .ok (.invokevirtual 194, 3) := by decide +kernel
theorem dX9_bestOf_4 : decode cX9_bestOf 4 = .ok (.aload_n 0, 1) := by decide +kernel
theorem dX9_bestOf_5 : decode cX9_bestOf 5 = .ok (.iload_n 1, 1) := by decide +kernel
theorem dX9_bestOf_6 : decode cX9_bestOf 6 = .ok (.invokevirtual 276, 3) := by decide +kernel
theorem dX9_bestOf_9 : decode cX9_bestOf 9 = .ok (.iload_n 2, 1) := by decide +kernel
theorem dX9_bestOf_10 : decode cX9_bestOf 10 = .ok (.iconst 2, 1) := by decide +kernel
theorem dX9_bestOf_11 : decode cX9_bestOf 11 = .ok (.if_icmp .ne 11, 3) := by decide +kernel
theorem dX9_bestOf_14 : decode cX9_bestOf 14 = .ok (.aload_n 0, 1) := by decide +kernel
theorem dX9_bestOf_15 : decode cX9_bestOf 15 = .ok (.getfield 270, 3) := by decide +kernel
theorem dX9_bestOf_18 : decode cX9_bestOf 18 = .ok (.i2l, 1) := by decide +kernel
theorem dX9_bestOf_19 : decode cX9_bestOf 19 = .ok (.goto 28, 3) := by decide +kernel
theorem dX9_bestOf_22 : decode cX9_bestOf 22 = .ok (.iload_n 2, 1) := by decide +kernel
theorem dX9_bestOf_23 : decode cX9_bestOf 23 = .ok (.iconst 3, 1) := by decide +kernel
theorem dX9_bestOf_24 : decode cX9_bestOf 24 = .ok (.if_icmp .ne 11, 3) := by decide +kernel
theorem dX9_bestOf_27 : decode cX9_bestOf 27 = .ok (.aload_n 0, 1) := by decide +kernel
theorem dX9_bestOf_28 : decode cX9_bestOf 28 = .ok (.getfield 273, 3) := by decide +kernel
theorem dX9_bestOf_31 : decode cX9_bestOf 31 = .ok (.i2l, 1) := by decide +kernel
theorem dX9_bestOf_32 : decode cX9_bestOf 32 = .ok (.goto 15, 3) := by decide +kernel
theorem dX9_bestOf_35 : decode cX9_bestOf 35 = .ok (.aload_n 0, 1) := by decide +kernel
theorem dX9_bestOf_36 : decode cX9_bestOf 36 = .ok (.getfield 266, 3) := by decide +kernel
theorem dX9_bestOf_39 : decode cX9_bestOf 39 = .ok (.aload_n 0, 1) := by decide +kernel
theorem dX9_bestOf_40 : decode cX9_bestOf 40 = .ok (.invokevirtual 233, 3) := by decide +kernel
theorem dX9_bestOf_43 : decode cX9_bestOf 43 = .ok (.iload_n 2, 1) := by decide +kernel
theorem dX9_bestOf_44 : decode cX9_bestOf 44 = .ok (.invokestatic 240, 3) := by decide +kernel
theorem dX9_bestOf_47 : decode cX9_bestOf 47 = .ok (.lreturn, 1) := by decide +kernel
theorem dX9_best_0 : decode cX9_best 0 = .ok (.aload_n 0, 1) := by decide +kernel
theorem dX9_best_1 : decode cX9_best 1 = .ok (.iload_n 1, 1) := by decide +kernel
theorem dX9_best_2 : decode cX9_best 2 = .ok (.invokevirtual 158, 3) := by decide +kernel
theorem dX9_best_5 : decode cX9_best 5 = .ok (.ifCond .eq 24, 3) := by decide +kernel
theorem dX9_best_8 : decode cX9_best 8 = .ok (.iload_n 2, 1) := by decide +kernel
theorem dX9_best_9 : decode cX9_best 9 = .ok (.i2l, 1) := by decide +kernel
theorem dX9_best_10 : decode cX9_best 10 = .ok (.lconst 0, 1) := by decide +kernel
theorem dX9_best_11 : decode cX9_best 11 = .ok (.ldc2_w 97, 3) := by decide +kernel
theorem dX9_best_14 : decode cX9_best 14 = .ok (.invokestatic 89, 3) := by decide +kernel
theorem dX9_best_17 : decode cX9_best 17 = .ok (.ifCond .eq 12, 3) := by decide +kernel
theorem dX9_best_20 : decode cX9_best 20 = .ok (.aload_n 0, 1) := by decide +kernel
theorem dX9_best_21 : decode cX9_best 21 = .ok (.iload_n 1, 1) := by decide +kernel
theorem dX9_best_22 : decode cX9_best 22 = .ok (.iload_n 2, 1) := by decide +kernel
theorem dX9_best_23 : decode cX9_best 23 = .ok (.invokevirtual 279, 3) := by decide +kernel
theorem dX9_best_26 : decode cX9_best 26 = .ok (.goto 8, 3) := by decide +kernel
theorem dX9_best_29 : decode cX9_best 29 = .ok (.bipush (-2), 2) := by decide +kernel
theorem dX9_best_31 : decode cX9_best 31 = .ok (.invokestatic 251, 3) := by decide +kernel
theorem dX9_best_34 : decode cX9_best 34 = .ok (.lreturn, 1) := by decide +kernel
theorem dX9_roundGoes_0 : decode cX9_roundGoes 0 = .ok (.iconst 0, 1) := by decide +kernel
theorem dX9_roundGoes_1 : decode cX9_roundGoes 1 = .ok (.istore_n 1, 1) := by decide +kernel
theorem dX9_roundGoes_2 : decode cX9_roundGoes 2 = .ok (.iconst 0, 1) := by decide +kernel
theorem dX9_roundGoes_3 : decode cX9_roundGoes 3 = .ok (.istore_n 2, 1) := by decide +kernel
theorem dX9_roundGoes_4 : decode cX9_roundGoes 4 = .ok (.iload_n 2, 1) := by decide +kernel
theorem dX9_roundGoes_5 : decode cX9_roundGoes 5 = .ok (.aload_n 0, 1) := by decide +kernel
theorem dX9_roundGoes_6 : decode cX9_roundGoes 6 = .ok (.getfield 126, 3) := by decide +kernel
theorem dX9_roundGoes_9 : decode cX9_roundGoes 9 = .ok (.if_icmp .ge 49, 3) := by decide +kernel
theorem dX9_roundGoes_12 : decode cX9_roundGoes 12 = .ok (.aload_n 0, 1) := by decide +kernel
theorem dX9_roundGoes_13 : decode cX9_roundGoes 13 = .ok (.iload_n 2, 1) := by decide +kernel
theorem dX9_roundGoes_14 : decode cX9_roundGoes 14 = .ok (.invokevirtual 276, 3) := by decide +kernel
theorem dX9_roundGoes_17 : decode cX9_roundGoes 17 = .ok (.aload_n 0, 1) := by decide +kernel
theorem dX9_roundGoes_18 : decode cX9_roundGoes 18 = .ok (.getfield 266, 3) := by decide +kernel
theorem dX9_roundGoes_21 : decode cX9_roundGoes 21 = .ok (.aload_n 0, 1) := by decide +kernel
theorem dX9_roundGoes_22 : decode cX9_roundGoes 22 = .ok (.iload_n 2, 1) := by decide +kernel
theorem dX9_roundGoes_23 : decode cX9_roundGoes 23 = .ok (.invokevirtual 258, 3) := by decide +kernel
theorem dX9_roundGoes_26 : decode cX9_roundGoes 26 = .ok (.lcmp, 1) := by decide +kernel
theorem dX9_roundGoes_27 : decode cX9_roundGoes 27 = .ok (.ifCond .ge 25, 3) := by decide +kernel
theorem dX9_roundGoes_30 : decode cX9_roundGoes 30 = .ok (.aload_n 0, 1) := by decide +kernel
theorem dX9_roundGoes_31 : decode cX9_roundGoes 31 = .ok (.getfield 40, 3) := by decide +kernel
theorem dX9_roundGoes_34 : decode cX9_roundGoes 34 = .ok (.iload_n 2, 1) := by decide +kernel
theorem dX9_roundGoes_35 : decode cX9_roundGoes 35 = .ok (.aload_n 0, 1) := by decide +kernel
theorem dX9_roundGoes_36 : decode cX9_roundGoes 36 = .ok (.getfield 270, 3) := by decide +kernel
theorem dX9_roundGoes_39 : decode cX9_roundGoes 39 = .ok (.iastore, 1) := by decide +kernel
theorem dX9_roundGoes_40 : decode cX9_roundGoes 40 = .ok (.aload_n 0, 1) := by decide +kernel
theorem dX9_roundGoes_41 : decode cX9_roundGoes 41 = .ok (.getfield 43, 3) := by decide +kernel
theorem dX9_roundGoes_44 : decode cX9_roundGoes 44 = .ok (.iload_n 2, 1) := by decide +kernel
theorem dX9_roundGoes_45 : decode cX9_roundGoes 45 = .ok (.aload_n 0, 1) := by decide +kernel
theorem dX9_roundGoes_46 : decode cX9_roundGoes 46 = .ok (.getfield 273, 3) := by decide +kernel
theorem dX9_roundGoes_49 : decode cX9_roundGoes 49 = .ok (.iastore, 1) := by decide +kernel
theorem dX9_roundGoes_50 : decode cX9_roundGoes 50 = .ok (.iconst 1, 1) := by decide +kernel
theorem dX9_roundGoes_51 : decode cX9_roundGoes 51 = .ok (.istore_n 1, 1) := by decide +kernel
theorem dX9_roundGoes_52 : decode cX9_roundGoes 52 = .ok (.iinc 2 1, 3) := by decide +kernel
theorem dX9_roundGoes_55 : decode cX9_roundGoes 55 = .ok (.goto (-51), 3) := by decide +kernel
theorem dX9_roundGoes_58 : decode cX9_roundGoes 58 = .ok (.iload_n 1, 1) := by decide +kernel
theorem dX9_roundGoes_59 : decode cX9_roundGoes 59 = .ok (.ireturn, 1) := by decide +kernel
theorem dX9_rests_0 : decode cX9_rests 0 = .ok (.aload_n 0, 1) := by decide +kernel
theorem dX9_rests_1 : decode cX9_rests 1 = .ok (.invokevirtual 194, 3) := by decide +kernel
theorem dX9_rests_4 : decode cX9_rests 4 = .ok (.iconst 0, 1) := by decide +kernel
theorem dX9_rests_5 : decode cX9_rests 5 = .ok (.istore_n 1, 1) := by decide +kernel
theorem dX9_rests_6 : decode cX9_rests 6 = .ok (.iconst 1, 1) := by decide +kernel
theorem dX9_rests_7 : decode cX9_rests 7 = .ok (.istore_n 2, 1) := by decide +kernel
theorem dX9_rests_8 : decode cX9_rests 8 = .ok (.iload_n 2, 1) := by decide +kernel
theorem dX9_rests_9 : decode cX9_rests 9 = .ok (.ifCond .eq 20, 3) := by decide +kernel
theorem dX9_rests_12 : decode cX9_rests 12 = .ok (.iload_n 1, 1) := by decide +kernel
theorem dX9_rests_13 : decode cX9_rests 13 = .ok (.bipush 20, 2) := by decide +kernel
theorem dX9_rests_15 : decode cX9_rests 15 = .ok (.if_icmp .ge 14, 3) := by decide +kernel
theorem dX9_rests_18 : decode cX9_rests 18 = .ok (.aload_n 0, 1) := by decide +kernel
theorem dX9_rests_19 : decode cX9_rests 19 = .ok (.invokevirtual 282, 3) := by decide +kernel
theorem dX9_rests_22 : decode cX9_rests 22 = .ok (.istore_n 2, 1) := by decide +kernel
theorem dX9_rests_23 : decode cX9_rests 23 = .ok (.iinc 1 1, 3) := by decide +kernel
theorem dX9_rests_26 : decode cX9_rests 26 = .ok (.goto (-18), 3) := by decide +kernel
theorem dX9_rests_29 : decode cX9_rests 29 = .ok (.iload_n 2, 1) := by decide +kernel
theorem dX9_rests_30 : decode cX9_rests 30 = .ok (.ifCond .eq 7, 3) := by decide +kernel
theorem dX9_rests_33 : decode cX9_rests 33 = .ok (.iconst (-1), 1) := by decide +kernel
theorem dX9_rests_34 : decode cX9_rests 34 = .ok (.goto 4, 3) := by decide +kernel
theorem dX9_rests_37 : decode cX9_rests 37 = .ok (.iload_n 1, 1) := by decide +kernel
theorem dX9_rests_38 : decode cX9_rests 38 = .ok (.ireturn, 1) := by decide +kernel
theorem dX9_restOf_0 : decode cX9_restOf 0 = .ok (.aload_n 0, 1) := by decide +kernel
theorem dX9_restOf_1 : decode cX9_restOf 1 = .ok (.invokevirtual 285, 3) := by decide +kernel
theorem dX9_restOf_4 : decode cX9_restOf 4 = .ok (.istore_n 3, 1) := by decide +kernel
theorem dX9_restOf_5 : decode cX9_restOf 5 = .ok (.iload_n 1, 1) := by decide +kernel
theorem dX9_restOf_6 : decode cX9_restOf 6 = .ok (.iconst (-1), 1) := by decide +kernel
theorem dX9_restOf_7 : decode cX9_restOf 7 = .ok (.if_icmp .ne 7, 3) := by decide +kernel
theorem dX9_restOf_10 : decode cX9_restOf 10 = .ok (.iload_n 3, 1) := by decide +kernel
theorem dX9_restOf_11 : decode cX9_restOf 11 = .ok (.goto 22, 3) := by decide +kernel
theorem dX9_restOf_14 : decode cX9_restOf 14 = .ok (.iload_n 2, 1) := by decide +kernel
theorem dX9_restOf_15 : decode cX9_restOf 15 = .ok (.ifCond .ne 12, 3) := by decide +kernel
theorem dX9_restOf_18 : decode cX9_restOf 18 = .ok (.aload_n 0, 1) := by decide +kernel
theorem dX9_restOf_19 : decode cX9_restOf 19 = .ok (.getfield 40, 3) := by decide +kernel
theorem dX9_restOf_22 : decode cX9_restOf 22 = .ok (.iload_n 1, 1) := by decide +kernel
theorem dX9_restOf_23 : decode cX9_restOf 23 = .ok (.iaload, 1) := by decide +kernel
theorem dX9_restOf_24 : decode cX9_restOf 24 = .ok (.goto 9, 3) := by decide +kernel
theorem dX9_restOf_27 : decode cX9_restOf 27 = .ok (.aload_n 0, 1) := by decide +kernel
theorem dX9_restOf_28 : decode cX9_restOf 28 = .ok (.getfield 43, 3) := by decide +kernel
theorem dX9_restOf_31 : decode cX9_restOf 31 = .ok (.iload_n 1, 1) := by decide +kernel
theorem dX9_restOf_32 : decode cX9_restOf 32 = .ok (.iaload, 1) := by decide +kernel
theorem dX9_restOf_33 : decode cX9_restOf 33 = .ok (.ireturn, 1) := by decide +kernel
theorem dX9_rest_0 : decode cX9_rest 0 = .ok (.iload_n 1, 1) := by decide +kernel
theorem dX9_rest_1 : decode cX9_rest 1 = .ok (.iconst (-1), 1) := by decide +kernel
theorem dX9_rest_2 : decode cX9_rest 2 = .ok (.if_icmp .ne 15, 3) := by decide +kernel
theorem dX9_rest_5 : decode cX9_rest 5 = .ok (.iload_n 2, 1) := by decide +kernel
theorem dX9_rest_6 : decode cX9_rest 6 = .ok (.ifCond .ne 7, 3) := by decide +kernel
theorem dX9_rest_9 : decode cX9_rest 9 = .ok (.iconst 1, 1) := by decide +kernel
theorem dX9_rest_10 : decode cX9_rest 10 = .ok (.goto 27, 3) := by decide +kernel
theorem dX9_rest_13 : decode cX9_rest 13 = .ok (.iconst 0, 1) := by decide +kernel
theorem dX9_rest_14 : decode cX9_rest 14 = .ok (.goto 23, 3) := by decide +kernel
theorem dX9_rest_17 : decode cX9_rest 17 = .ok (.aload_n 0, 1) := by decide +kernel
theorem dX9_rest_18 : decode cX9_rest 18 = .ok (.iload_n 1, 1) := by decide +kernel
theorem dX9_rest_19 : decode cX9_rest 19 = .ok (.invokevirtual 158, 3) := by decide +kernel
theorem dX9_rest_22 : decode cX9_rest 22 = .ok (.ifCond .eq 14, 3) := by decide +kernel
theorem dX9_rest_25 : decode cX9_rest 25 = .ok (.iload_n 2, 1) := by decide +kernel
theorem dX9_rest_26 : decode cX9_rest 26 = .ok (.invokestatic 244, 3) := by decide +kernel
theorem dX9_rest_29 : decode cX9_rest 29 = .ok (.ifCond .eq 7, 3) := by decide +kernel
theorem dX9_rest_32 : decode cX9_rest 32 = .ok (.iconst 1, 1) := by decide +kernel
theorem dX9_rest_33 : decode cX9_rest 33 = .ok (.goto 4, 3) := by decide +kernel
theorem dX9_rest_36 : decode cX9_rest 36 = .ok (.iconst 0, 1) := by decide +kernel
theorem dX9_rest_37 : decode cX9_rest 37 = .ok (.istore_n 3, 1) := by decide +kernel
theorem dX9_rest_38 : decode cX9_rest 38 = .ok (.iload_n 3, 1) := by decide +kernel
theorem dX9_rest_39 : decode cX9_rest 39 = .ok (.ifCond .eq 12, 3) := by decide +kernel
theorem dX9_rest_42 : decode cX9_rest 42 = .ok (.aload_n 0, 1) := by decide +kernel
theorem dX9_rest_43 : decode cX9_rest 43 = .ok (.iload_n 1, 1) := by decide +kernel
theorem dX9_rest_44 : decode cX9_rest 44 = .ok (.iload_n 2, 1) := by decide +kernel
theorem dX9_rest_45 : decode cX9_rest 45 = .ok (.invokevirtual 288, 3) := by decide +kernel
theorem dX9_rest_48 : decode cX9_rest 48 = .ok (.goto 5, 3) := by decide +kernel
theorem dX9_rest_51 : decode cX9_rest 51 = .ok (.bipush (-2), 2) := by decide +kernel
theorem dX9_rest_53 : decode cX9_rest 53 = .ok (.ireturn, 1) := by decide +kernel
theorem dX9_power_0 : decode cX9_power 0 = .ok (.iconst 1, 1) := by decide +kernel
theorem dX9_power_1 : decode cX9_power 1 = .ok (.istore_n 2, 1) := by decide +kernel
theorem dX9_power_2 : decode cX9_power 2 = .ok (.iconst 0, 1) := by decide +kernel
theorem dX9_power_3 : decode cX9_power 3 = .ok (.istore_n 3, 1) := by decide +kernel
theorem dX9_power_4 : decode cX9_power 4 = .ok (.iload_n 3, 1) := by decide +kernel
theorem dX9_power_5 : decode cX9_power 5 = .ok (.iload_n 1, 1) := by decide +kernel
theorem dX9_power_6 : decode cX9_power 6 = .ok (.if_icmp .ge 13, 3) := by decide +kernel
theorem dX9_power_9 : decode cX9_power 9 = .ok (.iload_n 2, 1) := by decide +kernel
theorem dX9_power_10 : decode cX9_power 10 = .ok (.iload_n 0, 1) := by decide +kernel
theorem dX9_power_11 : decode cX9_power 11 = .ok (.imul, 1) := by decide +kernel
theorem dX9_power_12 : decode cX9_power 12 = .ok (.istore_n 2, 1) := by decide +kernel
theorem dX9_power_13 : decode cX9_power 13 = .ok (.iinc 3 1, 3) := by decide +kernel
theorem dX9_power_16 : decode cX9_power 16 = .ok (.goto (-12), 3) := by decide +kernel
theorem dX9_power_19 : decode cX9_power 19 = .ok (.iload_n 2, 1) := by decide +kernel
theorem dX9_power_20 : decode cX9_power 20 = .ok (.ireturn, 1) := by decide +kernel
theorem dX9_findOrder_0 : decode cX9_findOrder 0 = .ok (.aload_n 0, 1) := by decide +kernel
theorem dX9_findOrder_1 : decode cX9_findOrder 1 = .ok (.invokevirtual 194, 3) := by decide +kernel
theorem dX9_findOrder_4 : decode cX9_findOrder 4 = .ok (.ldc2_w 264, 3) := by decide +kernel
theorem dX9_findOrder_7 : decode cX9_findOrder 7 = .ok (.lstore_n 2, 1) := by decide +kernel
theorem dX9_findOrder_8 : decode cX9_findOrder 8 = .ok (.iconst 0, 1) := by decide +kernel
theorem dX9_findOrder_9 : decode cX9_findOrder 9 = .ok (.istore 4, 2) := by decide +kernel
theorem dX9_findOrder_11 : decode cX9_findOrder 11 = .ok (.iload 4, 2) := by decide +kernel
theorem dX9_findOrder_13 : decode cX9_findOrder 13 = .ok (.iconst 4, 1) := by decide +kernel
theorem dX9_findOrder_14 : decode cX9_findOrder 14 = .ok (.aload_n 0, 1) := by decide +kernel
theorem dX9_findOrder_15 : decode cX9_findOrder 15 = .ok (.getfield 129, 3) := by decide +kernel
theorem dX9_findOrder_18 : decode cX9_findOrder 18 = .ok (.invokestatic 291, 3) := by decide +kernel
theorem dX9_findOrder_21 : decode cX9_findOrder 21 = .ok (.if_icmp .ge 174, 3) := by decide +kernel
theorem dX9_findOrder_24 : decode cX9_findOrder 24 = .ok (.iconst 0, 1) := by decide +kernel
theorem dX9_findOrder_25 : decode cX9_findOrder 25 = .ok (.istore 5, 2) := by decide +kernel
theorem dX9_findOrder_27 : decode cX9_findOrder 27 = .ok (.iconst 0, 1) := by decide +kernel
theorem dX9_findOrder_28 : decode cX9_findOrder 28 = .ok (.istore 6, 2) := by decide +kernel
theorem dX9_findOrder_30 : decode cX9_findOrder 30 = .ok (.iload 6, 2) := by decide +kernel
theorem dX9_findOrder_32 : decode cX9_findOrder 32 = .ok (.aload_n 0, 1) := by decide +kernel
theorem dX9_findOrder_33 : decode cX9_findOrder 33 = .ok (.getfield 129, 3) := by decide +kernel
theorem dX9_findOrder_36 : decode cX9_findOrder 36 = .ok (.if_icmp .ge 48, 3) := by decide +kernel
theorem dX9_findOrder_39 : decode cX9_findOrder 39 = .ok (.aload_n 0, 1) := by decide +kernel
theorem dX9_findOrder_40 : decode cX9_findOrder 40 = .ok (.getfield 59, 3) := by decide +kernel
theorem dX9_findOrder_43 : decode cX9_findOrder 43 = .ok (.iload 6, 2) := by decide +kernel
theorem dX9_findOrder_45 : decode cX9_findOrder 45 = .ok (.iload 4, 2) := by decide +kernel
theorem dX9_findOrder_47 : decode cX9_findOrder 47 = .ok (.iconst 4, 1) := by decide +kernel
theorem dX9_findOrder_48 : decode cX9_findOrder 48 = .ok (.aload_n 0, 1) := by decide +kernel
theorem dX9_findOrder_49 : decode cX9_findOrder 49 = .ok (.getfield 129, 3) := by decide +kernel
theorem dX9_findOrder_52 : decode cX9_findOrder 52 = .ok (.iconst 1, 1) := by decide +kernel
theorem dX9_findOrder_53 : decode cX9_findOrder 53 = .ok (.isub, 1) := by decide +kernel
theorem dX9_findOrder_54 : decode cX9_findOrder 54 = .ok (.iload 6, 2) := by decide +kernel
theorem dX9_findOrder_56 : decode cX9_findOrder 56 = .ok (.isub, 1) := by decide +kernel
theorem dX9_findOrder_57 : decode cX9_findOrder 57 = .ok (.invokestatic 291, 3) := by decide +kernel
theorem dX9_findOrder_60 : decode cX9_findOrder 60 = .ok (.idiv, 1) := by decide +kernel
theorem dX9_findOrder_61 : decode cX9_findOrder 61 = .ok (.iconst 4, 1) := by decide +kernel
theorem dX9_findOrder_62 : decode cX9_findOrder 62 = .ok (.irem, 1) := by decide +kernel
theorem dX9_findOrder_63 : decode cX9_findOrder 63 = .ok (.iastore, 1) := by decide +kernel
theorem dX9_findOrder_64 : decode cX9_findOrder 64 = .ok (.iload 5, 2) := by decide +kernel
theorem dX9_findOrder_66 : decode cX9_findOrder 66 = .ok (.iconst 1, 1) := by decide +kernel
theorem dX9_findOrder_67 : decode cX9_findOrder 67 = .ok (.aload_n 0, 1) := by decide +kernel
theorem dX9_findOrder_68 : decode cX9_findOrder 68 = .ok (.getfield 59, 3) := by decide +kernel
theorem dX9_findOrder_71 : decode cX9_findOrder 71 = .ok (.iload 6, 2) := by decide +kernel
theorem dX9_findOrder_73 : decode cX9_findOrder 73 = .ok (.iaload, 1) := by decide +kernel
theorem dX9_findOrder_74 : decode cX9_findOrder 74 = .ok (.ishl, 1) := by decide +kernel
theorem dX9_findOrder_75 : decode cX9_findOrder 75 = .ok (.ior, 1) := by decide +kernel
theorem dX9_findOrder_76 : decode cX9_findOrder 76 = .ok (.istore 5, 2) := by decide +kernel
theorem dX9_findOrder_78 : decode cX9_findOrder 78 = .ok (.iinc 6 1, 3) := by decide +kernel
theorem dX9_findOrder_81 : decode cX9_findOrder 81 = .ok (.goto (-51), 3) := by decide +kernel
theorem dX9_findOrder_84 : decode cX9_findOrder 84 = .ok (.iload 5, 2) := by decide +kernel
theorem dX9_findOrder_86 : decode cX9_findOrder 86 = .ok (.iconst 1, 1) := by decide +kernel
theorem dX9_findOrder_87 : decode cX9_findOrder 87 = .ok (.aload_n 0, 1) := by decide +kernel
theorem dX9_findOrder_88 : decode cX9_findOrder 88 = .ok (.getfield 129, 3) := by decide +kernel
theorem dX9_findOrder_91 : decode cX9_findOrder 91 = .ok (.ishl, 1) := by decide +kernel
theorem dX9_findOrder_92 : decode cX9_findOrder 92 = .ok (.iconst 1, 1) := by decide +kernel
theorem dX9_findOrder_93 : decode cX9_findOrder 93 = .ok (.isub, 1) := by decide +kernel
theorem dX9_findOrder_94 : decode cX9_findOrder 94 = .ok (.if_icmp .ne 95, 3) := by decide +kernel
theorem dX9_findOrder_97 : decode cX9_findOrder 97 = .ok (.iconst 0, 1) := by decide +kernel
theorem dX9_findOrder_98 : decode cX9_findOrder 98 = .ok (.istore 6, 2) := by decide +kernel
theorem dX9_findOrder_100 : decode cX9_findOrder 100 = .ok (.iload 6, 2) := by decide +kernel
theorem dX9_findOrder_102 : decode cX9_findOrder 102 = .ok (.aload_n 0, 1) := by decide +kernel
theorem dX9_findOrder_103 : decode cX9_findOrder 103 = .ok (.getfield 129, 3) := by decide +kernel
theorem dX9_findOrder_106 : decode cX9_findOrder 106 = .ok (.if_icmp .ge 28, 3) := by decide +kernel
theorem dX9_findOrder_109 : decode cX9_findOrder 109 = .ok (.aload_n 0, 1) := by decide +kernel
theorem dX9_findOrder_110 : decode cX9_findOrder 110 = .ok (.getfield 49, 3) := by decide +kernel
theorem dX9_findOrder_113 : decode cX9_findOrder 113 = .ok (.iload 6, 2) := by decide +kernel
theorem dX9_findOrder_115 : decode cX9_findOrder 115 = .ok (.aload_n 0, 1) := by decide +kernel
theorem dX9_findOrder_116 : decode cX9_findOrder 116 = .ok (.getfield 28, 3) := by decide +kernel
theorem dX9_findOrder_119 : decode cX9_findOrder 119 = .ok (.aload_n 0, 1) := by decide +kernel
theorem dX9_findOrder_120 : decode cX9_findOrder 120 = .ok (.getfield 59, 3) := by decide +kernel
theorem dX9_findOrder_123 : decode cX9_findOrder 123 = .ok (.iload 6, 2) := by decide +kernel
theorem dX9_findOrder_125 : decode cX9_findOrder 125 = .ok (.iaload, 1) := by decide +kernel
theorem dX9_findOrder_126 : decode cX9_findOrder 126 = .ok (.iaload, 1) := by decide +kernel
theorem dX9_findOrder_127 : decode cX9_findOrder 127 = .ok (.iastore, 1) := by decide +kernel
theorem dX9_findOrder_128 : decode cX9_findOrder 128 = .ok (.iinc 6 1, 3) := by decide +kernel
theorem dX9_findOrder_131 : decode cX9_findOrder 131 = .ok (.goto (-31), 3) := by decide +kernel
theorem dX9_findOrder_134 : decode cX9_findOrder 134 = .ok (.aload_n 0, 1) := by decide +kernel
theorem dX9_findOrder_135 : decode cX9_findOrder 135 = .ok (.iload_n 1, 1) := by decide +kernel
theorem dX9_findOrder_136 : decode cX9_findOrder 136 = .ok (.invokevirtual 230, 3) := by decide +kernel
theorem dX9_findOrder_139 : decode cX9_findOrder 139 = .ok (.lstore 6, 2) := by decide +kernel
theorem dX9_findOrder_141 : decode cX9_findOrder 141 = .ok (.lload_n 2, 1) := by decide +kernel
theorem dX9_findOrder_142 : decode cX9_findOrder 142 = .ok (.lconst 0, 1) := by decide +kernel
theorem dX9_findOrder_143 : decode cX9_findOrder 143 = .ok (.lcmp, 1) := by decide +kernel
theorem dX9_findOrder_144 : decode cX9_findOrder 144 = .ok (.ifCond .lt 10, 3) := by decide +kernel
theorem dX9_findOrder_147 : decode cX9_findOrder 147 = .ok (.lload 6, 2) := by decide +kernel
theorem dX9_findOrder_149 : decode cX9_findOrder 149 = .ok (.lload_n 2, 1) := by decide +kernel
theorem dX9_findOrder_150 : decode cX9_findOrder 150 = .ok (.lcmp, 1) := by decide +kernel
theorem dX9_findOrder_151 : decode cX9_findOrder 151 = .ok (.ifCond .ge 38, 3) := by decide +kernel
theorem dX9_findOrder_154 : decode cX9_findOrder 154 = .ok (.lload 6, 2) := by decide +kernel
theorem dX9_findOrder_156 : decode cX9_findOrder 156 = .ok (.lstore_n 2, 1) := by decide +kernel
theorem dX9_findOrder_157 : decode cX9_findOrder 157 = .ok (.iconst 0, 1) := by decide +kernel
theorem dX9_findOrder_158 : decode cX9_findOrder 158 = .ok (.istore 8, 2) := by decide +kernel
theorem dX9_findOrder_160 : decode cX9_findOrder 160 = .ok (.iload 8, 2) := by decide +kernel
theorem dX9_findOrder_162 : decode cX9_findOrder 162 = .ok (.aload_n 0, 1) := by decide +kernel
theorem dX9_findOrder_163 : decode cX9_findOrder 163 = .ok (.getfield 129, 3) := by decide +kernel
theorem dX9_findOrder_166 : decode cX9_findOrder 166 = .ok (.if_icmp .ge 23, 3) := by decide +kernel
theorem dX9_findOrder_169 : decode cX9_findOrder 169 = .ok (.aload_n 0, 1) := by decide +kernel
theorem dX9_findOrder_170 : decode cX9_findOrder 170 = .ok (.getfield 62, 3) := by decide +kernel
theorem dX9_findOrder_173 : decode cX9_findOrder 173 = .ok (.iload 8, 2) := by decide +kernel
theorem dX9_findOrder_175 : decode cX9_findOrder 175 = .ok (.aload_n 0, 1) := by decide +kernel
theorem dX9_findOrder_176 : decode cX9_findOrder 176 = .ok (.getfield 59, 3) := by decide +kernel
theorem dX9_findOrder_179 : decode cX9_findOrder 179 = .ok (.iload 8, 2) := by decide +kernel
theorem dX9_findOrder_181 : decode cX9_findOrder 181 = .ok (.iaload, 1) := by decide +kernel
theorem dX9_findOrder_182 : decode cX9_findOrder 182 = .ok (.iastore, 1) := by decide +kernel
theorem dX9_findOrder_183 : decode cX9_findOrder 183 = .ok (.iinc 8 1, 3) := by decide +kernel
theorem dX9_findOrder_186 : decode cX9_findOrder 186 = .ok (.goto (-26), 3) := by decide +kernel
theorem dX9_findOrder_189 : decode cX9_findOrder 189 = .ok (.iinc 4 1, 3) := by decide +kernel
theorem dX9_findOrder_192 : decode cX9_findOrder 192 = .ok (.goto (-181), 3) := by decide +kernel
theorem dX9_findOrder_195 : decode cX9_findOrder 195 = .ok (.return_, 1) := by decide +kernel
theorem dX9_order_0 : decode cX9_order 0 = .ok (.aload_n 0, 1) := by decide +kernel
theorem dX9_order_1 : decode cX9_order 1 = .ok (.iload_n 1, 1) := by decide +kernel
theorem dX9_order_2 : decode cX9_order 2 = .ok (.invokevirtual 158, 3) := by decide +kernel
theorem dX9_order_5 : decode cX9_order 5 = .ok (.ifCond .eq 19, 3) := by decide +kernel
theorem dX9_order_8 : decode cX9_order 8 = .ok (.iload_n 2, 1) := by decide +kernel
theorem dX9_order_9 : decode cX9_order 9 = .ok (.i2l, 1) := by decide +kernel
theorem dX9_order_10 : decode cX9_order 10 = .ok (.lconst 0, 1) := by decide +kernel
theorem dX9_order_11 : decode cX9_order 11 = .ok (.aload_n 0, 1) := by decide +kernel
theorem dX9_order_12 : decode cX9_order 12 = .ok (.getfield 129, 3) := by decide +kernel
theorem dX9_order_15 : decode cX9_order 15 = .ok (.iconst 1, 1) := by decide +kernel
theorem dX9_order_16 : decode cX9_order 16 = .ok (.isub, 1) := by decide +kernel
theorem dX9_order_17 : decode cX9_order 17 = .ok (.i2l, 1) := by decide +kernel
theorem dX9_order_18 : decode cX9_order 18 = .ok (.invokestatic 89, 3) := by decide +kernel
theorem dX9_order_21 : decode cX9_order 21 = .ok (.ifCond .ne 6, 3) := by decide +kernel
theorem dX9_order_24 : decode cX9_order 24 = .ok (.bipush (-2), 2) := by decide +kernel
theorem dX9_order_26 : decode cX9_order 26 = .ok (.ireturn, 1) := by decide +kernel
theorem dX9_order_27 : decode cX9_order 27 = .ok (.aload_n 0, 1) := by decide +kernel
theorem dX9_order_28 : decode cX9_order 28 = .ok (.iload_n 1, 1) := by decide +kernel
theorem dX9_order_29 : decode cX9_order 29 = .ok (.invokevirtual 294, 3) := by decide +kernel
theorem dX9_order_32 : decode cX9_order 32 = .ok (.aload_n 0, 1) := by decide +kernel
theorem dX9_order_33 : decode cX9_order 33 = .ok (.getfield 62, 3) := by decide +kernel
theorem dX9_order_36 : decode cX9_order 36 = .ok (.iload_n 2, 1) := by decide +kernel
theorem dX9_order_37 : decode cX9_order 37 = .ok (.iaload, 1) := by decide +kernel
theorem dX9_order_38 : decode cX9_order 38 = .ok (.ireturn, 1) := by decide +kernel
theorem dX9_amongOf_0 : decode cX9_amongOf 0 = .ok (.aload_n 0, 1) := by decide +kernel
theorem dX9_amongOf_1 : decode cX9_amongOf 1 = .ok (.invokevirtual 194, 3) := by decide +kernel
theorem dX9_amongOf_4 : decode cX9_amongOf 4 = .ok (.aload_n 0, 1) := by decide +kernel
theorem dX9_amongOf_5 : decode cX9_amongOf 5 = .ok (.getfield 126, 3) := by decide +kernel
theorem dX9_amongOf_8 : decode cX9_amongOf 8 = .ok (.iconst 1, 1) := by decide +kernel
theorem dX9_amongOf_9 : decode cX9_amongOf 9 = .ok (.if_icmp .ne 6, 3) := by decide +kernel
theorem dX9_amongOf_12 : decode cX9_amongOf 12 = .ok (.bipush (-3), 2) := by decide +kernel
theorem dX9_amongOf_14 : decode cX9_amongOf 14 = .ok (.ireturn, 1) := by decide +kernel
theorem dX9_amongOf_15 : decode cX9_amongOf 15 = .ok (.iconst 1, 1) := by decide +kernel
theorem dX9_amongOf_16 : decode cX9_amongOf 16 = .ok (.aload_n 0, 1) := by decide +kernel
theorem dX9_amongOf_17 : decode cX9_amongOf 17 = .ok (.getfield 126, 3) := by decide +kernel
theorem dX9_amongOf_20 : decode cX9_amongOf 20 = .ok (.ishl, 1) := by decide +kernel
theorem dX9_amongOf_21 : decode cX9_amongOf 21 = .ok (.iconst 1, 1) := by decide +kernel
theorem dX9_amongOf_22 : decode cX9_amongOf 22 = .ok (.isub, 1) := by decide +kernel
theorem dX9_amongOf_23 : decode cX9_amongOf 23 = .ok (.istore_n 2, 1) := by decide +kernel
theorem dX9_amongOf_24 : decode cX9_amongOf 24 = .ok (.iconst (-1), 1) := by decide +kernel
theorem dX9_amongOf_25 : decode cX9_amongOf 25 = .ok (.istore_n 3, 1) := by decide +kernel
theorem dX9_amongOf_26 : decode cX9_amongOf 26 = .ok (.lconst 0, 1) := by decide +kernel
theorem dX9_amongOf_27 : decode cX9_amongOf 27 = .ok (.lstore 4, 2) := by decide +kernel
theorem dX9_amongOf_29 : decode cX9_amongOf 29 = .ok (.iconst 1, 1) := by decide +kernel
theorem dX9_amongOf_30 : decode cX9_amongOf 30 = .ok (.istore 6, 2) := by decide +kernel
theorem dX9_amongOf_32 : decode cX9_amongOf 32 = .ok (.iload 6, 2) := by decide +kernel
theorem dX9_amongOf_34 : decode cX9_amongOf 34 = .ok (.iload_n 2, 1) := by decide +kernel
theorem dX9_amongOf_35 : decode cX9_amongOf 35 = .ok (.if_icmp .gt 94, 3) := by decide +kernel
theorem dX9_amongOf_38 : decode cX9_amongOf 38 = .ok (.iload 6, 2) := by decide +kernel
theorem dX9_amongOf_40 : decode cX9_amongOf 40 = .ok (.iload_n 1, 1) := by decide +kernel
theorem dX9_amongOf_41 : decode cX9_amongOf 41 = .ok (.ishr, 1) := by decide +kernel
theorem dX9_amongOf_42 : decode cX9_amongOf 42 = .ok (.iconst 1, 1) := by decide +kernel
theorem dX9_amongOf_43 : decode cX9_amongOf 43 = .ok (.iand, 1) := by decide +kernel
theorem dX9_amongOf_44 : decode cX9_amongOf 44 = .ok (.ifCond .ne 28, 3) := by decide +kernel
theorem dX9_amongOf_47 : decode cX9_amongOf 47 = .ok (.aload_n 0, 1) := by decide +kernel
theorem dX9_amongOf_48 : decode cX9_amongOf 48 = .ok (.getfield 180, 3) := by decide +kernel
theorem dX9_amongOf_51 : decode cX9_amongOf 51 = .ok (.iload_n 1, 1) := by decide +kernel
theorem dX9_amongOf_52 : decode cX9_amongOf 52 = .ok (.if_icmp .eq 16, 3) := by decide +kernel
theorem dX9_amongOf_55 : decode cX9_amongOf 55 = .ok (.iload 6, 2) := by decide +kernel
theorem dX9_amongOf_57 : decode cX9_amongOf 57 = .ok (.aload_n 0, 1) := by decide +kernel
theorem dX9_amongOf_58 : decode cX9_amongOf 58 = .ok (.getfield 180, 3) := by decide +kernel
theorem dX9_amongOf_61 : decode cX9_amongOf 61 = .ok (.ishr, 1) := by decide +kernel
theorem dX9_amongOf_62 : decode cX9_amongOf 62 = .ok (.iconst 1, 1) := by decide +kernel
theorem dX9_amongOf_63 : decode cX9_amongOf 63 = .ok (.iand, 1) := by decide +kernel
theorem dX9_amongOf_64 : decode cX9_amongOf 64 = .ok (.iconst 1, 1) := by decide +kernel
theorem dX9_amongOf_65 : decode cX9_amongOf 65 = .ok (.if_icmp .ne 7, 3) := by decide +kernel
theorem dX9_amongOf_68 : decode cX9_amongOf 68 = .ok (.iconst 1, 1) := by decide +kernel
theorem dX9_amongOf_69 : decode cX9_amongOf 69 = .ok (.goto 4, 3) := by decide +kernel
theorem dX9_amongOf_72 : decode cX9_amongOf 72 = .ok (.iconst 0, 1) := by decide +kernel
theorem dX9_amongOf_73 : decode cX9_amongOf 73 = .ok (.istore 7, 2) := by decide +kernel
theorem dX9_amongOf_75 : decode cX9_amongOf 75 = .ok (.iload 7, 2) := by decide +kernel
theorem dX9_amongOf_77 : decode cX9_amongOf 77 = .ok (.ifCond .eq 46, 3) := by decide +kernel
theorem dX9_amongOf_80 : decode cX9_amongOf 80 = .ok (.aload_n 0, 1) := by decide +kernel
theorem dX9_amongOf_81 : decode cX9_amongOf 81 = .ok (.iload_n 2, 1) := by decide +kernel
theorem dX9_amongOf_82 : decode cX9_amongOf 82 = .ok (.iload 6, 2) := by decide +kernel
theorem dX9_amongOf_84 : decode cX9_amongOf 84 = .ok (.iconst (-1), 1) := by decide +kernel
theorem dX9_amongOf_85 : decode cX9_amongOf 85 = .ok (.ixor, 1) := by decide +kernel
theorem dX9_amongOf_86 : decode cX9_amongOf 86 = .ok (.iand, 1) := by decide +kernel
theorem dX9_amongOf_87 : decode cX9_amongOf 87 = .ok (.iconst 1, 1) := by decide +kernel
theorem dX9_amongOf_88 : decode cX9_amongOf 88 = .ok (.iload_n 1, 1) := by decide +kernel
theorem dX9_amongOf_89 : decode cX9_amongOf 89 = .ok (.ishl, 1) := by decide +kernel
theorem dX9_amongOf_90 : decode cX9_amongOf 90 = .ok (.iconst (-1), 1) := by decide +kernel
theorem dX9_amongOf_91 : decode cX9_amongOf 91 = .ok (.ixor, 1) := by decide +kernel
theorem dX9_amongOf_92 : decode cX9_amongOf 92 = .ok (.iand, 1) := by decide +kernel
theorem dX9_amongOf_93 : decode cX9_amongOf 93 = .ok (.putfield 183, 3) := by decide +kernel
theorem dX9_amongOf_96 : decode cX9_amongOf 96 = .ok (.aload_n 0, 1) := by decide +kernel
theorem dX9_amongOf_97 : decode cX9_amongOf 97 = .ok (.iload_n 1, 1) := by decide +kernel
theorem dX9_amongOf_98 : decode cX9_amongOf 98 = .ok (.invokevirtual 230, 3) := by decide +kernel
theorem dX9_amongOf_101 : decode cX9_amongOf 101 = .ok (.lstore 8, 2) := by decide +kernel
theorem dX9_amongOf_103 : decode cX9_amongOf 103 = .ok (.iload_n 3, 1) := by decide +kernel
theorem dX9_amongOf_104 : decode cX9_amongOf 104 = .ok (.iconst (-1), 1) := by decide +kernel
theorem dX9_amongOf_105 : decode cX9_amongOf 105 = .ok (.if_icmp .eq 11, 3) := by decide +kernel
theorem dX9_amongOf_108 : decode cX9_amongOf 108 = .ok (.lload 8, 2) := by decide +kernel
theorem dX9_amongOf_110 : decode cX9_amongOf 110 = .ok (.lload 4, 2) := by decide +kernel
theorem dX9_amongOf_112 : decode cX9_amongOf 112 = .ok (.lcmp, 1) := by decide +kernel
theorem dX9_amongOf_113 : decode cX9_amongOf 113 = .ok (.ifCond .ge 10, 3) := by decide +kernel
theorem dX9_amongOf_116 : decode cX9_amongOf 116 = .ok (.iload 6, 2) := by decide +kernel
theorem dX9_amongOf_118 : decode cX9_amongOf 118 = .ok (.istore_n 3, 1) := by decide +kernel
theorem dX9_amongOf_119 : decode cX9_amongOf 119 = .ok (.lload 8, 2) := by decide +kernel
theorem dX9_amongOf_121 : decode cX9_amongOf 121 = .ok (.lstore 4, 2) := by decide +kernel
theorem dX9_amongOf_123 : decode cX9_amongOf 123 = .ok (.iinc 6 1, 3) := by decide +kernel
theorem dX9_amongOf_126 : decode cX9_amongOf 126 = .ok (.goto (-94), 3) := by decide +kernel
theorem dX9_amongOf_129 : decode cX9_amongOf 129 = .ok (.iload_n 3, 1) := by decide +kernel
theorem dX9_amongOf_130 : decode cX9_amongOf 130 = .ok (.ireturn, 1) := by decide +kernel
theorem dX9_among_0 : decode cX9_among 0 = .ok (.aload_n 0, 1) := by decide +kernel
theorem dX9_among_1 : decode cX9_among 1 = .ok (.iload_n 1, 1) := by decide +kernel
theorem dX9_among_2 : decode cX9_among 2 = .ok (.invokevirtual 158, 3) := by decide +kernel
theorem dX9_among_5 : decode cX9_among 5 = .ok (.ifCond .eq 11, 3) := by decide +kernel
theorem dX9_among_8 : decode cX9_among 8 = .ok (.aload_n 0, 1) := by decide +kernel
theorem dX9_among_9 : decode cX9_among 9 = .ok (.iload_n 1, 1) := by decide +kernel
theorem dX9_among_10 : decode cX9_among 10 = .ok (.invokevirtual 297, 3) := by decide +kernel
theorem dX9_among_13 : decode cX9_among 13 = .ok (.goto 5, 3) := by decide +kernel
theorem dX9_among_16 : decode cX9_among 16 = .ok (.bipush (-2), 2) := by decide +kernel
theorem dX9_among_18 : decode cX9_among 18 = .ok (.ireturn, 1) := by decide +kernel
theorem dX9_hire_0 : decode cX9_hire 0 = .ok (.aload_n 0, 1) := by decide +kernel
theorem dX9_hire_1 : decode cX9_hire 1 = .ok (.iload_n 1, 1) := by decide +kernel
theorem dX9_hire_2 : decode cX9_hire 2 = .ok (.invokevirtual 158, 3) := by decide +kernel
theorem dX9_hire_5 : decode cX9_hire 5 = .ok (.ifCond .eq 22, 3) := by decide +kernel
theorem dX9_hire_8 : decode cX9_hire 8 = .ok (.iload_n 2, 1) := by decide +kernel
theorem dX9_hire_9 : decode cX9_hire 9 = .ok (.i2l, 1) := by decide +kernel
theorem dX9_hire_10 : decode cX9_hire 10 = .ok (.lconst 0, 1) := by decide +kernel
theorem dX9_hire_11 : decode cX9_hire 11 = .ok (.ldc2_w 300, 3) := by decide +kernel
theorem dX9_hire_14 : decode cX9_hire 14 = .ok (.invokestatic 89, 3) := by decide +kernel
theorem dX9_hire_17 : decode cX9_hire 17 = .ok (.ifCond .eq 10, 3) := by decide +kernel
theorem dX9_hire_20 : decode cX9_hire 20 = .ok (.iload_n 3, 1) := by decide +kernel
theorem dX9_hire_21 : decode cX9_hire 21 = .ok (.invokestatic 244, 3) := by decide +kernel
theorem dX9_hire_24 : decode cX9_hire 24 = .ok (.ifCond .ne 9, 3) := by decide +kernel
theorem dX9_hire_27 : decode cX9_hire 27 = .ok (.bipush (-2), 2) := by decide +kernel
theorem dX9_hire_29 : decode cX9_hire 29 = .ok (.invokestatic 251, 3) := by decide +kernel
theorem dX9_hire_32 : decode cX9_hire 32 = .ok (.lreturn, 1) := by decide +kernel
theorem dX9_hire_33 : decode cX9_hire 33 = .ok (.aload_n 0, 1) := by decide +kernel
theorem dX9_hire_34 : decode cX9_hire 34 = .ok (.getfield 126, 3) := by decide +kernel
theorem dX9_hire_37 : decode cX9_hire 37 = .ok (.iconst 4, 1) := by decide +kernel
theorem dX9_hire_38 : decode cX9_hire 38 = .ok (.if_icmp .ne 9, 3) := by decide +kernel
theorem dX9_hire_41 : decode cX9_hire 41 = .ok (.bipush (-4), 2) := by decide +kernel
theorem dX9_hire_43 : decode cX9_hire 43 = .ok (.invokestatic 251, 3) := by decide +kernel
theorem dX9_hire_46 : decode cX9_hire 46 = .ok (.lreturn, 1) := by decide +kernel
theorem dX9_hire_47 : decode cX9_hire 47 = .ok (.aload_n 0, 1) := by decide +kernel
theorem dX9_hire_48 : decode cX9_hire 48 = .ok (.invokevirtual 194, 3) := by decide +kernel
theorem dX9_hire_51 : decode cX9_hire 51 = .ok (.aload_n 0, 1) := by decide +kernel
theorem dX9_hire_52 : decode cX9_hire 52 = .ok (.iload_n 1, 1) := by decide +kernel
theorem dX9_hire_53 : decode cX9_hire 53 = .ok (.invokevirtual 258, 3) := by decide +kernel
theorem dX9_hire_56 : decode cX9_hire 56 = .ok (.lstore 4, 2) := by decide +kernel
theorem dX9_hire_58 : decode cX9_hire 58 = .ok (.aload_n 0, 1) := by decide +kernel
theorem dX9_hire_59 : decode cX9_hire 59 = .ok (.getfield 46, 3) := by decide +kernel
theorem dX9_hire_62 : decode cX9_hire 62 = .ok (.aload_n 0, 1) := by decide +kernel
theorem dX9_hire_63 : decode cX9_hire 63 = .ok (.getfield 126, 3) := by decide +kernel
theorem dX9_hire_66 : decode cX9_hire 66 = .ok (.iload_n 2, 1) := by decide +kernel
theorem dX9_hire_67 : decode cX9_hire 67 = .ok (.iastore, 1) := by decide +kernel
theorem dX9_hire_68 : decode cX9_hire 68 = .ok (.aload_n 0, 1) := by decide +kernel
theorem dX9_hire_69 : decode cX9_hire 69 = .ok (.getfield 40, 3) := by decide +kernel
theorem dX9_hire_72 : decode cX9_hire 72 = .ok (.aload_n 0, 1) := by decide +kernel
theorem dX9_hire_73 : decode cX9_hire 73 = .ok (.getfield 126, 3) := by decide +kernel
theorem dX9_hire_76 : decode cX9_hire 76 = .ok (.iconst 0, 1) := by decide +kernel
theorem dX9_hire_77 : decode cX9_hire 77 = .ok (.iastore, 1) := by decide +kernel
theorem dX9_hire_78 : decode cX9_hire 78 = .ok (.aload_n 0, 1) := by decide +kernel
theorem dX9_hire_79 : decode cX9_hire 79 = .ok (.getfield 43, 3) := by decide +kernel
theorem dX9_hire_82 : decode cX9_hire 82 = .ok (.aload_n 0, 1) := by decide +kernel
theorem dX9_hire_83 : decode cX9_hire 83 = .ok (.getfield 126, 3) := by decide +kernel
theorem dX9_hire_86 : decode cX9_hire 86 = .ok (.iconst 4, 1) := by decide +kernel
theorem dX9_hire_87 : decode cX9_hire 87 = .ok (.iastore, 1) := by decide +kernel
theorem dX9_hire_88 : decode cX9_hire 88 = .ok (.aload_n 0, 1) := by decide +kernel
theorem dX9_hire_89 : decode cX9_hire 89 = .ok (.aload_n 0, 1) := by decide +kernel
theorem dX9_hire_90 : decode cX9_hire 90 = .ok (.getfield 126, 3) := by decide +kernel
theorem dX9_hire_93 : decode cX9_hire 93 = .ok (.iconst 1, 1) := by decide +kernel
theorem dX9_hire_94 : decode cX9_hire 94 = .ok (.iadd, 1) := by decide +kernel
theorem dX9_hire_95 : decode cX9_hire 95 = .ok (.putfield 171, 3) := by decide +kernel
theorem dX9_hire_98 : decode cX9_hire 98 = .ok (.lload 4, 2) := by decide +kernel
theorem dX9_hire_100 : decode cX9_hire 100 = .ok (.aload_n 0, 1) := by decide +kernel
theorem dX9_hire_101 : decode cX9_hire 101 = .ok (.iload_n 1, 1) := by decide +kernel
theorem dX9_hire_102 : decode cX9_hire 102 = .ok (.invokevirtual 258, 3) := by decide +kernel
theorem dX9_hire_105 : decode cX9_hire 105 = .ok (.lsub, 1) := by decide +kernel
theorem dX9_hire_106 : decode cX9_hire 106 = .ok (.aload_n 0, 1) := by decide +kernel
theorem dX9_hire_107 : decode cX9_hire 107 = .ok (.invokevirtual 233, 3) := by decide +kernel
theorem dX9_hire_110 : decode cX9_hire 110 = .ok (.iload_n 3, 1) := by decide +kernel
theorem dX9_hire_111 : decode cX9_hire 111 = .ok (.invokestatic 240, 3) := by decide +kernel
theorem dX9_hire_114 : decode cX9_hire 114 = .ok (.lreturn, 1) := by decide +kernel
theorem dX9_other_0 : decode cX9_other 0 = .ok (.aload_n 0, 1) := by decide +kernel
theorem dX9_other_1 : decode cX9_other 1 = .ok (.iload_n 1, 1) := by decide +kernel
theorem dX9_other_2 : decode cX9_other 2 = .ok (.invokevirtual 158, 3) := by decide +kernel
theorem dX9_other_5 : decode cX9_other 5 = .ok (.ifCond .eq 35, 3) := by decide +kernel
theorem dX9_other_8 : decode cX9_other 8 = .ok (.iload_n 2, 1) := by decide +kernel
theorem dX9_other_9 : decode cX9_other 9 = .ok (.i2l, 1) := by decide +kernel
theorem dX9_other_10 : decode cX9_other 10 = .ok (.lconst 0, 1) := by decide +kernel
theorem dX9_other_11 : decode cX9_other 11 = .ok (.ldc2_w 103, 3) := by decide +kernel
theorem dX9_other_14 : decode cX9_other 14 = .ok (.invokestatic 89, 3) := by decide +kernel
theorem dX9_other_17 : decode cX9_other 17 = .ok (.ifCond .eq 23, 3) := by decide +kernel
theorem dX9_other_20 : decode cX9_other 20 = .ok (.iload_n 3, 1) := by decide +kernel
theorem dX9_other_21 : decode cX9_other 21 = .ok (.i2l, 1) := by decide +kernel
theorem dX9_other_22 : decode cX9_other 22 = .ok (.lconst 0, 1) := by decide +kernel
theorem dX9_other_23 : decode cX9_other 23 = .ok (.ldc2_w 103, 3) := by decide +kernel
theorem dX9_other_26 : decode cX9_other 26 = .ok (.invokestatic 89, 3) := by decide +kernel
theorem dX9_other_29 : decode cX9_other 29 = .ok (.ifCond .eq 11, 3) := by decide +kernel
theorem dX9_other_32 : decode cX9_other 32 = .ok (.iload 4, 2) := by decide +kernel
theorem dX9_other_34 : decode cX9_other 34 = .ok (.invokestatic 244, 3) := by decide +kernel
theorem dX9_other_37 : decode cX9_other 37 = .ok (.ifCond .ne 9, 3) := by decide +kernel
theorem dX9_other_40 : decode cX9_other 40 = .ok (.bipush (-2), 2) := by decide +kernel
theorem dX9_other_42 : decode cX9_other 42 = .ok (.invokestatic 251, 3) := by decide +kernel
theorem dX9_other_45 : decode cX9_other 45 = .ok (.lreturn, 1) := by decide +kernel
theorem dX9_other_46 : decode cX9_other 46 = .ok (.aload_n 0, 1) := by decide +kernel
theorem dX9_other_47 : decode cX9_other 47 = .ok (.invokevirtual 194, 3) := by decide +kernel
theorem dX9_other_50 : decode cX9_other 50 = .ok (.aload_n 0, 1) := by decide +kernel
theorem dX9_other_51 : decode cX9_other 51 = .ok (.iload_n 2, 1) := by decide +kernel
theorem dX9_other_52 : decode cX9_other 52 = .ok (.putfield 174, 3) := by decide +kernel
theorem dX9_other_55 : decode cX9_other 55 = .ok (.aload_n 0, 1) := by decide +kernel
theorem dX9_other_56 : decode cX9_other 56 = .ok (.iload_n 3, 1) := by decide +kernel
theorem dX9_other_57 : decode cX9_other 57 = .ok (.putfield 177, 3) := by decide +kernel
theorem dX9_other_60 : decode cX9_other 60 = .ok (.aload_n 0, 1) := by decide +kernel
theorem dX9_other_61 : decode cX9_other 61 = .ok (.iload_n 1, 1) := by decide +kernel
theorem dX9_other_62 : decode cX9_other 62 = .ok (.invokevirtual 230, 3) := by decide +kernel
theorem dX9_other_65 : decode cX9_other 65 = .ok (.aload_n 0, 1) := by decide +kernel
theorem dX9_other_66 : decode cX9_other 66 = .ok (.invokevirtual 233, 3) := by decide +kernel
theorem dX9_other_69 : decode cX9_other 69 = .ok (.iload 4, 2) := by decide +kernel
theorem dX9_other_71 : decode cX9_other 71 = .ok (.invokestatic 240, 3) := by decide +kernel
theorem dX9_other_74 : decode cX9_other 74 = .ok (.lreturn, 1) := by decide +kernel
theorem dX9_lawForOf_0 : decode cX9_lawForOf 0 = .ok (.aload_n 0, 1) := by decide +kernel
theorem dX9_lawForOf_1 : decode cX9_lawForOf 1 = .ok (.invokevirtual 194, 3) := by decide +kernel
theorem dX9_lawForOf_4 : decode cX9_lawForOf 4 = .ok (.iconst (-1), 1) := by decide +kernel
theorem dX9_lawForOf_5 : decode cX9_lawForOf 5 = .ok (.istore_n 2, 1) := by decide +kernel
theorem dX9_lawForOf_6 : decode cX9_lawForOf 6 = .ok (.lconst 0, 1) := by decide +kernel
theorem dX9_lawForOf_7 : decode cX9_lawForOf 7 = .ok (.lstore_n 3, 1) := by decide +kernel
theorem dX9_lawForOf_8 : decode cX9_lawForOf 8 = .ok (.iconst 0, 1) := by decide +kernel
theorem dX9_lawForOf_9 : decode cX9_lawForOf 9 = .ok (.istore 5, 2) := by decide +kernel
theorem dX9_lawForOf_11 : decode cX9_lawForOf 11 = .ok (.iload 5, 2) := by decide +kernel
theorem dX9_lawForOf_13 : decode cX9_lawForOf 13 = .ok (.bipush 9, 2) := by decide +kernel
theorem dX9_lawForOf_15 : decode cX9_lawForOf 15 = .ok (.if_icmp .ge 50, 3) := by decide +kernel
theorem dX9_lawForOf_18 : decode cX9_lawForOf 18 = .ok (.aload_n 0, 1) := by decide +kernel
theorem dX9_lawForOf_19 : decode cX9_lawForOf 19 = .ok (.iload 5, 2) := by decide +kernel
theorem dX9_lawForOf_21 : decode cX9_lawForOf 21 = .ok (.iconst 3, 1) := by decide +kernel
theorem dX9_lawForOf_22 : decode cX9_lawForOf 22 = .ok (.idiv, 1) := by decide +kernel
theorem dX9_lawForOf_23 : decode cX9_lawForOf 23 = .ok (.putfield 174, 3) := by decide +kernel
theorem dX9_lawForOf_26 : decode cX9_lawForOf 26 = .ok (.aload_n 0, 1) := by decide +kernel
theorem dX9_lawForOf_27 : decode cX9_lawForOf 27 = .ok (.iload 5, 2) := by decide +kernel
theorem dX9_lawForOf_29 : decode cX9_lawForOf 29 = .ok (.iconst 3, 1) := by decide +kernel
theorem dX9_lawForOf_30 : decode cX9_lawForOf 30 = .ok (.irem, 1) := by decide +kernel
theorem dX9_lawForOf_31 : decode cX9_lawForOf 31 = .ok (.putfield 177, 3) := by decide +kernel
theorem dX9_lawForOf_34 : decode cX9_lawForOf 34 = .ok (.aload_n 0, 1) := by decide +kernel
theorem dX9_lawForOf_35 : decode cX9_lawForOf 35 = .ok (.iload_n 1, 1) := by decide +kernel
theorem dX9_lawForOf_36 : decode cX9_lawForOf 36 = .ok (.invokevirtual 230, 3) := by decide +kernel
theorem dX9_lawForOf_39 : decode cX9_lawForOf 39 = .ok (.lstore 6, 2) := by decide +kernel
theorem dX9_lawForOf_41 : decode cX9_lawForOf 41 = .ok (.iload_n 2, 1) := by decide +kernel
theorem dX9_lawForOf_42 : decode cX9_lawForOf 42 = .ok (.iconst (-1), 1) := by decide +kernel
theorem dX9_lawForOf_43 : decode cX9_lawForOf 43 = .ok (.if_icmp .eq 10, 3) := by decide +kernel
theorem dX9_lawForOf_46 : decode cX9_lawForOf 46 = .ok (.lload 6, 2) := by decide +kernel
theorem dX9_lawForOf_48 : decode cX9_lawForOf 48 = .ok (.lload_n 3, 1) := by decide +kernel
theorem dX9_lawForOf_49 : decode cX9_lawForOf 49 = .ok (.lcmp, 1) := by decide +kernel
theorem dX9_lawForOf_50 : decode cX9_lawForOf 50 = .ok (.ifCond .ge 9, 3) := by decide +kernel
theorem dX9_lawForOf_53 : decode cX9_lawForOf 53 = .ok (.iload 5, 2) := by decide +kernel
theorem dX9_lawForOf_55 : decode cX9_lawForOf 55 = .ok (.istore_n 2, 1) := by decide +kernel
theorem dX9_lawForOf_56 : decode cX9_lawForOf 56 = .ok (.lload 6, 2) := by decide +kernel
theorem dX9_lawForOf_58 : decode cX9_lawForOf 58 = .ok (.lstore_n 3, 1) := by decide +kernel
theorem dX9_lawForOf_59 : decode cX9_lawForOf 59 = .ok (.iinc 5 1, 3) := by decide +kernel
theorem dX9_lawForOf_62 : decode cX9_lawForOf 62 = .ok (.goto (-51), 3) := by decide +kernel
theorem dX9_lawForOf_65 : decode cX9_lawForOf 65 = .ok (.iload_n 2, 1) := by decide +kernel
theorem dX9_lawForOf_66 : decode cX9_lawForOf 66 = .ok (.ireturn, 1) := by decide +kernel
theorem dX9_lawFor_0 : decode cX9_lawFor 0 = .ok (.aload_n 0, 1) := by decide +kernel
theorem dX9_lawFor_1 : decode cX9_lawFor 1 = .ok (.iload_n 1, 1) := by decide +kernel
theorem dX9_lawFor_2 : decode cX9_lawFor 2 = .ok (.invokevirtual 158, 3) := by decide +kernel
theorem dX9_lawFor_5 : decode cX9_lawFor 5 = .ok (.ifCond .eq 11, 3) := by decide +kernel
theorem dX9_lawFor_8 : decode cX9_lawFor 8 = .ok (.aload_n 0, 1) := by decide +kernel
theorem dX9_lawFor_9 : decode cX9_lawFor 9 = .ok (.iload_n 1, 1) := by decide +kernel
theorem dX9_lawFor_10 : decode cX9_lawFor 10 = .ok (.invokevirtual 302, 3) := by decide +kernel
theorem dX9_lawFor_13 : decode cX9_lawFor 13 = .ok (.goto 5, 3) := by decide +kernel
theorem dX9_lawFor_16 : decode cX9_lawFor 16 = .ok (.bipush (-2), 2) := by decide +kernel
theorem dX9_lawFor_18 : decode cX9_lawFor 18 = .ok (.ireturn, 1) := by decide +kernel
theorem dX9_edgeOf_0 : decode cX9_edgeOf 0 = .ok (.aload_n 0, 1) := by decide +kernel
theorem dX9_edgeOf_1 : decode cX9_edgeOf 1 = .ok (.invokevirtual 194, 3) := by decide +kernel
theorem dX9_edgeOf_4 : decode cX9_edgeOf 4 = .ok (.aload_n 0, 1) := by decide +kernel
theorem dX9_edgeOf_5 : decode cX9_edgeOf 5 = .ok (.getfield 129, 3) := by decide +kernel
theorem dX9_edgeOf_8 : decode cX9_edgeOf 8 = .ok (.ifCond .ne 6, 3) := by decide +kernel
theorem dX9_edgeOf_11 : decode cX9_edgeOf 11 = .ok (.bipush (-3), 2) := by decide +kernel
theorem dX9_edgeOf_13 : decode cX9_edgeOf 13 = .ok (.ireturn, 1) := by decide +kernel
theorem dX9_edgeOf_14 : decode cX9_edgeOf 14 = .ok (.iconst 0, 1) := by decide +kernel
theorem dX9_edgeOf_15 : decode cX9_edgeOf 15 = .ok (.istore_n 2, 1) := by decide +kernel
theorem dX9_edgeOf_16 : decode cX9_edgeOf 16 = .ok (.iload_n 2, 1) := by decide +kernel
theorem dX9_edgeOf_17 : decode cX9_edgeOf 17 = .ok (.bipush 10, 2) := by decide +kernel
theorem dX9_edgeOf_19 : decode cX9_edgeOf 19 = .ok (.if_icmp .ge 58, 3) := by decide +kernel
theorem dX9_edgeOf_22 : decode cX9_edgeOf 22 = .ok (.aload_n 0, 1) := by decide +kernel
theorem dX9_edgeOf_23 : decode cX9_edgeOf 23 = .ok (.getfield 49, 3) := by decide +kernel
theorem dX9_edgeOf_26 : decode cX9_edgeOf 26 = .ok (.aload_n 0, 1) := by decide +kernel
theorem dX9_edgeOf_27 : decode cX9_edgeOf 27 = .ok (.getfield 129, 3) := by decide +kernel
theorem dX9_edgeOf_30 : decode cX9_edgeOf 30 = .ok (.iconst 1, 1) := by decide +kernel
theorem dX9_edgeOf_31 : decode cX9_edgeOf 31 = .ok (.isub, 1) := by decide +kernel
theorem dX9_edgeOf_32 : decode cX9_edgeOf 32 = .ok (.iload_n 2, 1) := by decide +kernel
theorem dX9_edgeOf_33 : decode cX9_edgeOf 33 = .ok (.iastore, 1) := by decide +kernel
theorem dX9_edgeOf_34 : decode cX9_edgeOf 34 = .ok (.aload_n 0, 1) := by decide +kernel
theorem dX9_edgeOf_35 : decode cX9_edgeOf 35 = .ok (.getfield 43, 3) := by decide +kernel
theorem dX9_edgeOf_38 : decode cX9_edgeOf 38 = .ok (.iload_n 1, 1) := by decide +kernel
theorem dX9_edgeOf_39 : decode cX9_edgeOf 39 = .ok (.aload_n 0, 1) := by decide +kernel
theorem dX9_edgeOf_40 : decode cX9_edgeOf 40 = .ok (.getfield 129, 3) := by decide +kernel
theorem dX9_edgeOf_43 : decode cX9_edgeOf 43 = .ok (.iconst 1, 1) := by decide +kernel
theorem dX9_edgeOf_44 : decode cX9_edgeOf 44 = .ok (.isub, 1) := by decide +kernel
theorem dX9_edgeOf_45 : decode cX9_edgeOf 45 = .ok (.iastore, 1) := by decide +kernel
theorem dX9_edgeOf_46 : decode cX9_edgeOf 46 = .ok (.aload_n 0, 1) := by decide +kernel
theorem dX9_edgeOf_47 : decode cX9_edgeOf 47 = .ok (.iload_n 1, 1) := by decide +kernel
theorem dX9_edgeOf_48 : decode cX9_edgeOf 48 = .ok (.invokevirtual 258, 3) := by decide +kernel
theorem dX9_edgeOf_51 : decode cX9_edgeOf 51 = .ok (.lstore_n 3, 1) := by decide +kernel
theorem dX9_edgeOf_52 : decode cX9_edgeOf 52 = .ok (.aload_n 0, 1) := by decide +kernel
theorem dX9_edgeOf_53 : decode cX9_edgeOf 53 = .ok (.getfield 43, 3) := by decide +kernel
theorem dX9_edgeOf_56 : decode cX9_edgeOf 56 = .ok (.iload_n 1, 1) := by decide +kernel
theorem dX9_edgeOf_57 : decode cX9_edgeOf 57 = .ok (.iconst 4, 1) := by decide +kernel
theorem dX9_edgeOf_58 : decode cX9_edgeOf 58 = .ok (.iastore, 1) := by decide +kernel
theorem dX9_edgeOf_59 : decode cX9_edgeOf 59 = .ok (.lload_n 3, 1) := by decide +kernel
theorem dX9_edgeOf_60 : decode cX9_edgeOf 60 = .ok (.aload_n 0, 1) := by decide +kernel
theorem dX9_edgeOf_61 : decode cX9_edgeOf 61 = .ok (.iload_n 1, 1) := by decide +kernel
theorem dX9_edgeOf_62 : decode cX9_edgeOf 62 = .ok (.invokevirtual 258, 3) := by decide +kernel
theorem dX9_edgeOf_65 : decode cX9_edgeOf 65 = .ok (.lcmp, 1) := by decide +kernel
theorem dX9_edgeOf_66 : decode cX9_edgeOf 66 = .ok (.ifCond .ge 5, 3) := by decide +kernel
theorem dX9_edgeOf_69 : decode cX9_edgeOf 69 = .ok (.iload_n 2, 1) := by decide +kernel
theorem dX9_edgeOf_70 : decode cX9_edgeOf 70 = .ok (.ireturn, 1) := by decide +kernel
theorem dX9_edgeOf_71 : decode cX9_edgeOf 71 = .ok (.iinc 2 1, 3) := by decide +kernel
theorem dX9_edgeOf_74 : decode cX9_edgeOf 74 = .ok (.goto (-58), 3) := by decide +kernel
theorem dX9_edgeOf_77 : decode cX9_edgeOf 77 = .ok (.iconst (-1), 1) := by decide +kernel
theorem dX9_edgeOf_78 : decode cX9_edgeOf 78 = .ok (.ireturn, 1) := by decide +kernel
theorem dX9_edge_0 : decode cX9_edge 0 = .ok (.aload_n 0, 1) := by decide +kernel
theorem dX9_edge_1 : decode cX9_edge 1 = .ok (.iload_n 1, 1) := by decide +kernel
theorem dX9_edge_2 : decode cX9_edge 2 = .ok (.invokevirtual 158, 3) := by decide +kernel
theorem dX9_edge_5 : decode cX9_edge 5 = .ok (.ifCond .eq 11, 3) := by decide +kernel
theorem dX9_edge_8 : decode cX9_edge 8 = .ok (.aload_n 0, 1) := by decide +kernel
theorem dX9_edge_9 : decode cX9_edge 9 = .ok (.iload_n 1, 1) := by decide +kernel
theorem dX9_edge_10 : decode cX9_edge 10 = .ok (.invokevirtual 305, 3) := by decide +kernel
theorem dX9_edge_13 : decode cX9_edge 13 = .ok (.goto 5, 3) := by decide +kernel
theorem dX9_edge_16 : decode cX9_edge 16 = .ok (.bipush (-2), 2) := by decide +kernel
theorem dX9_edge_18 : decode cX9_edge 18 = .ok (.ireturn, 1) := by decide +kernel
theorem dX9_weight_0 : decode cX9_weight 0 = .ok (.iload_n 1, 1) := by decide +kernel
theorem dX9_weight_1 : decode cX9_weight 1 = .ok (.i2l, 1) := by decide +kernel
theorem dX9_weight_2 : decode cX9_weight 2 = .ok (.lconst 0, 1) := by decide +kernel
theorem dX9_weight_3 : decode cX9_weight 3 = .ok (.ldc2_w 169, 3) := by decide +kernel
theorem dX9_weight_6 : decode cX9_weight 6 = .ok (.invokestatic 89, 3) := by decide +kernel
theorem dX9_weight_9 : decode cX9_weight 9 = .ok (.ifCond .eq 15, 3) := by decide +kernel
theorem dX9_weight_12 : decode cX9_weight 12 = .ok (.iload_n 2, 1) := by decide +kernel
theorem dX9_weight_13 : decode cX9_weight 13 = .ok (.i2l, 1) := by decide +kernel
theorem dX9_weight_14 : decode cX9_weight 14 = .ok (.lconst 0, 1) := by decide +kernel
theorem dX9_weight_15 : decode cX9_weight 15 = .ok (.ldc2_w 300, 3) := by decide +kernel
theorem dX9_weight_18 : decode cX9_weight 18 = .ok (.invokestatic 89, 3) := by decide +kernel
theorem dX9_weight_21 : decode cX9_weight 21 = .ok (.ifCond .ne 6, 3) := by decide +kernel
theorem dX9_weight_24 : decode cX9_weight 24 = .ok (.bipush (-2), 2) := by decide +kernel
theorem dX9_weight_26 : decode cX9_weight 26 = .ok (.ireturn, 1) := by decide +kernel
theorem dX9_weight_27 : decode cX9_weight 27 = .ok (.aload_n 0, 1) := by decide +kernel
theorem dX9_weight_28 : decode cX9_weight 28 = .ok (.getfield 65, 3) := by decide +kernel
theorem dX9_weight_31 : decode cX9_weight 31 = .ok (.iload_n 1, 1) := by decide +kernel
theorem dX9_weight_32 : decode cX9_weight 32 = .ok (.iaload, 1) := by decide +kernel
theorem dX9_weight_33 : decode cX9_weight 33 = .ok (.istore_n 3, 1) := by decide +kernel
theorem dX9_weight_34 : decode cX9_weight 34 = .ok (.aload_n 0, 1) := by decide +kernel
theorem dX9_weight_35 : decode cX9_weight 35 = .ok (.getfield 65, 3) := by decide +kernel
theorem dX9_weight_38 : decode cX9_weight 38 = .ok (.iload_n 1, 1) := by decide +kernel
theorem dX9_weight_39 : decode cX9_weight 39 = .ok (.iload_n 2, 1) := by decide +kernel
theorem dX9_weight_40 : decode cX9_weight 40 = .ok (.iastore, 1) := by decide +kernel
theorem dX9_weight_41 : decode cX9_weight 41 = .ok (.iload_n 3, 1) := by decide +kernel
theorem dX9_weight_42 : decode cX9_weight 42 = .ok (.ireturn, 1) := by decide +kernel
theorem dX9_allWeights_0 : decode cX9_allWeights 0 = .ok (.iconst 0, 1) := by decide +kernel
theorem dX9_allWeights_1 : decode cX9_allWeights 1 = .ok (.istore_n 1, 1) := by decide +kernel
theorem dX9_allWeights_2 : decode cX9_allWeights 2 = .ok (.iconst 0, 1) := by decide +kernel
theorem dX9_allWeights_3 : decode cX9_allWeights 3 = .ok (.istore_n 2, 1) := by decide +kernel
theorem dX9_allWeights_4 : decode cX9_allWeights 4 = .ok (.iload_n 2, 1) := by decide +kernel
theorem dX9_allWeights_5 : decode cX9_allWeights 5 = .ok (.iconst 5, 1) := by decide +kernel
theorem dX9_allWeights_6 : decode cX9_allWeights 6 = .ok (.if_icmp .ge 18, 3) := by decide +kernel
theorem dX9_allWeights_9 : decode cX9_allWeights 9 = .ok (.iload_n 1, 1) := by decide +kernel
theorem dX9_allWeights_10 : decode cX9_allWeights 10 = .ok (.aload_n 0, 1) := by decide +kernel
theorem dX9_allWeights_11 : decode cX9_allWeights 11 = .ok (.getfield 65, 3) := by decide +kernel
theorem dX9_allWeights_14 : decode cX9_allWeights 14 = .ok (.iload_n 2, 1) := by decide +kernel
theorem dX9_allWeights_15 : decode cX9_allWeights 15 = .ok (.iaload, 1) := by decide +kernel
theorem dX9_allWeights_16 : decode cX9_allWeights 16 = .ok (.iadd, 1) := by decide +kernel
theorem dX9_allWeights_17 : decode cX9_allWeights 17 = .ok (.istore_n 1, 1) := by decide +kernel
theorem dX9_allWeights_18 : decode cX9_allWeights 18 = .ok (.iinc 2 1, 3) := by decide +kernel
theorem dX9_allWeights_21 : decode cX9_allWeights 21 = .ok (.goto (-17), 3) := by decide +kernel
theorem dX9_allWeights_24 : decode cX9_allWeights 24 = .ok (.iload_n 1, 1) := by decide +kernel
theorem dX9_allWeights_25 : decode cX9_allWeights 25 = .ok (.ireturn, 1) := by decide +kernel
theorem dX9_earlyOf_0 : decode cX9_earlyOf 0 = .ok (.aload_n 0, 1) := by decide +kernel
theorem dX9_earlyOf_1 : decode cX9_earlyOf 1 = .ok (.invokevirtual 194, 3) := by decide +kernel
theorem dX9_earlyOf_4 : decode cX9_earlyOf 4 = .ok (.aload_n 0, 1) := by decide +kernel
theorem dX9_earlyOf_5 : decode cX9_earlyOf 5 = .ok (.invokevirtual 308, 3) := by decide +kernel
theorem dX9_earlyOf_8 : decode cX9_earlyOf 8 = .ok (.ifCond .ne 9, 3) := by decide +kernel
theorem dX9_earlyOf_11 : decode cX9_earlyOf 11 = .ok (.bipush (-3), 2) := by decide +kernel
theorem dX9_earlyOf_13 : decode cX9_earlyOf 13 = .ok (.invokestatic 251, 3) := by decide +kernel
theorem dX9_earlyOf_16 : decode cX9_earlyOf 16 = .ok (.lreturn, 1) := by decide +kernel
theorem dX9_earlyOf_17 : decode cX9_earlyOf 17 = .ok (.lconst 0, 1) := by decide +kernel
theorem dX9_earlyOf_18 : decode cX9_earlyOf 18 = .ok (.lstore_n 3, 1) := by decide +kernel
theorem dX9_earlyOf_19 : decode cX9_earlyOf 19 = .ok (.iconst 0, 1) := by decide +kernel
theorem dX9_earlyOf_20 : decode cX9_earlyOf 20 = .ok (.istore 5, 2) := by decide +kernel
theorem dX9_earlyOf_22 : decode cX9_earlyOf 22 = .ok (.iload 5, 2) := by decide +kernel
theorem dX9_earlyOf_24 : decode cX9_earlyOf 24 = .ok (.iconst 5, 1) := by decide +kernel
theorem dX9_earlyOf_25 : decode cX9_earlyOf 25 = .ok (.if_icmp .ge 63, 3) := by decide +kernel
theorem dX9_earlyOf_28 : decode cX9_earlyOf 28 = .ok (.iload 5, 2) := by decide +kernel
theorem dX9_earlyOf_30 : decode cX9_earlyOf 30 = .ok (.aload_n 0, 1) := by decide +kernel
theorem dX9_earlyOf_31 : decode cX9_earlyOf 31 = .ok (.getfield 129, 3) := by decide +kernel
theorem dX9_earlyOf_34 : decode cX9_earlyOf 34 = .ok (.if_icmp .ge 8, 3) := by decide +kernel
theorem dX9_earlyOf_37 : decode cX9_earlyOf 37 = .ok (.iload 5, 2) := by decide +kernel
theorem dX9_earlyOf_39 : decode cX9_earlyOf 39 = .ok (.goto 7, 3) := by decide +kernel
theorem dX9_earlyOf_42 : decode cX9_earlyOf 42 = .ok (.aload_n 0, 1) := by decide +kernel
theorem dX9_earlyOf_43 : decode cX9_earlyOf 43 = .ok (.getfield 129, 3) := by decide +kernel
theorem dX9_earlyOf_46 : decode cX9_earlyOf 46 = .ok (.istore 6, 2) := by decide +kernel
theorem dX9_earlyOf_48 : decode cX9_earlyOf 48 = .ok (.aload_n 0, 1) := by decide +kernel
theorem dX9_earlyOf_49 : decode cX9_earlyOf 49 = .ok (.iload 6, 2) := by decide +kernel
theorem dX9_earlyOf_51 : decode cX9_earlyOf 51 = .ok (.invokevirtual 221, 3) := by decide +kernel
theorem dX9_earlyOf_54 : decode cX9_earlyOf 54 = .ok (.lload_n 3, 1) := by decide +kernel
theorem dX9_earlyOf_55 : decode cX9_earlyOf 55 = .ok (.aload_n 0, 1) := by decide +kernel
theorem dX9_earlyOf_56 : decode cX9_earlyOf 56 = .ok (.getfield 65, 3) := by decide +kernel
theorem dX9_earlyOf_59 : decode cX9_earlyOf 59 = .ok (.iload 5, 2) := by decide +kernel
theorem dX9_earlyOf_61 : decode cX9_earlyOf 61 = .ok (.iaload, 1) := by decide +kernel
theorem dX9_earlyOf_62 : decode cX9_earlyOf 62 = .ok (.i2l, 1) := by decide +kernel
theorem dX9_earlyOf_63 : decode cX9_earlyOf 63 = .ok (.aload_n 0, 1) := by decide +kernel
theorem dX9_earlyOf_64 : decode cX9_earlyOf 64 = .ok (.iload_n 1, 1) := by decide +kernel
theorem dX9_earlyOf_65 : decode cX9_earlyOf 65 = .ok (.invokevirtual 237, 3) := by decide +kernel
theorem dX9_earlyOf_68 : decode cX9_earlyOf 68 = .ok (.lmul, 1) := by decide +kernel
theorem dX9_earlyOf_69 : decode cX9_earlyOf 69 = .ok (.aload_n 0, 1) := by decide +kernel
theorem dX9_earlyOf_70 : decode cX9_earlyOf 70 = .ok (.getfield 129, 3) := by decide +kernel
theorem dX9_earlyOf_73 : decode cX9_earlyOf 73 = .ok (.iload 6, 2) := by decide +kernel
theorem dX9_earlyOf_75 : decode cX9_earlyOf 75 = .ok (.isub, 1) := by decide +kernel
theorem dX9_earlyOf_76 : decode cX9_earlyOf 76 = .ok (.invokestatic 226, 3) := by decide +kernel
theorem dX9_earlyOf_79 : decode cX9_earlyOf 79 = .ok (.lmul, 1) := by decide +kernel
theorem dX9_earlyOf_80 : decode cX9_earlyOf 80 = .ok (.ladd, 1) := by decide +kernel
theorem dX9_earlyOf_81 : decode cX9_earlyOf 81 = .ok (.lstore_n 3, 1) := by decide +kernel
theorem dX9_earlyOf_82 : decode cX9_earlyOf 82 = .ok (.iinc 5 1, 3) := by decide +kernel
theorem dX9_earlyOf_85 : decode cX9_earlyOf 85 = .ok (.goto (-63), 3) := by decide +kernel
theorem dX9_earlyOf_88 : decode cX9_earlyOf 88 = .ok (.lload_n 3, 1) := by decide +kernel
theorem dX9_earlyOf_89 : decode cX9_earlyOf 89 = .ok (.aload_n 0, 1) := by decide +kernel
theorem dX9_earlyOf_90 : decode cX9_earlyOf 90 = .ok (.invokevirtual 308, 3) := by decide +kernel
theorem dX9_earlyOf_93 : decode cX9_earlyOf 93 = .ok (.i2l, 1) := by decide +kernel
theorem dX9_earlyOf_94 : decode cX9_earlyOf 94 = .ok (.aload_n 0, 1) := by decide +kernel
theorem dX9_earlyOf_95 : decode cX9_earlyOf 95 = .ok (.getfield 129, 3) := by decide +kernel
theorem dX9_earlyOf_98 : decode cX9_earlyOf 98 = .ok (.invokestatic 226, 3) := by decide +kernel
theorem dX9_earlyOf_101 : decode cX9_earlyOf 101 = .ok (.lmul, 1) := by decide +kernel
theorem dX9_earlyOf_102 : decode cX9_earlyOf 102 = .ok (.iload_n 2, 1) := by decide +kernel
theorem dX9_earlyOf_103 : decode cX9_earlyOf 103 = .ok (.invokestatic 240, 3) := by decide +kernel
theorem dX9_earlyOf_106 : decode cX9_earlyOf 106 = .ok (.lreturn, 1) := by decide +kernel
theorem dX9_early_0 : decode cX9_early 0 = .ok (.aload_n 0, 1) := by decide +kernel
theorem dX9_early_1 : decode cX9_early 1 = .ok (.iload_n 1, 1) := by decide +kernel
theorem dX9_early_2 : decode cX9_early 2 = .ok (.invokevirtual 158, 3) := by decide +kernel
theorem dX9_early_5 : decode cX9_early 5 = .ok (.ifCond .eq 19, 3) := by decide +kernel
theorem dX9_early_8 : decode cX9_early 8 = .ok (.iload_n 2, 1) := by decide +kernel
theorem dX9_early_9 : decode cX9_early 9 = .ok (.invokestatic 244, 3) := by decide +kernel
theorem dX9_early_12 : decode cX9_early 12 = .ok (.ifCond .eq 12, 3) := by decide +kernel
theorem dX9_early_15 : decode cX9_early 15 = .ok (.aload_n 0, 1) := by decide +kernel
theorem dX9_early_16 : decode cX9_early 16 = .ok (.iload_n 1, 1) := by decide +kernel
theorem dX9_early_17 : decode cX9_early 17 = .ok (.iload_n 2, 1) := by decide +kernel
theorem dX9_early_18 : decode cX9_early 18 = .ok (.invokevirtual 311, 3) := by decide +kernel
theorem dX9_early_21 : decode cX9_early 21 = .ok (.goto 8, 3) := by decide +kernel
theorem dX9_early_24 : decode cX9_early 24 = .ok (.bipush (-2), 2) := by decide +kernel
theorem dX9_early_26 : decode cX9_early 26 = .ok (.invokestatic 251, 3) := by decide +kernel
theorem dX9_early_29 : decode cX9_early 29 = .ok (.lreturn, 1) := by decide +kernel
theorem dX9_twoOf_0 : decode cX9_twoOf 0 = .ok (.aload_n 0, 1) := by decide +kernel
theorem dX9_twoOf_1 : decode cX9_twoOf 1 = .ok (.invokevirtual 194, 3) := by decide +kernel
theorem dX9_twoOf_4 : decode cX9_twoOf 4 = .ok (.aload_n 0, 1) := by decide +kernel
theorem dX9_twoOf_5 : decode cX9_twoOf 5 = .ok (.getfield 126, 3) := by decide +kernel
theorem dX9_twoOf_8 : decode cX9_twoOf 8 = .ok (.iconst 2, 1) := by decide +kernel
theorem dX9_twoOf_9 : decode cX9_twoOf 9 = .ok (.if_icmp .eq 9, 3) := by decide +kernel
theorem dX9_twoOf_12 : decode cX9_twoOf 12 = .ok (.bipush (-3), 2) := by decide +kernel
theorem dX9_twoOf_14 : decode cX9_twoOf 14 = .ok (.invokestatic 251, 3) := by decide +kernel
theorem dX9_twoOf_17 : decode cX9_twoOf 17 = .ok (.lreturn, 1) := by decide +kernel
theorem dX9_twoOf_18 : decode cX9_twoOf 18 = .ok (.aload_n 0, 1) := by decide +kernel
theorem dX9_twoOf_19 : decode cX9_twoOf 19 = .ok (.iconst 0, 1) := by decide +kernel
theorem dX9_twoOf_20 : decode cX9_twoOf 20 = .ok (.putfield 180, 3) := by decide +kernel
theorem dX9_twoOf_23 : decode cX9_twoOf 23 = .ok (.aload_n 0, 1) := by decide +kernel
theorem dX9_twoOf_24 : decode cX9_twoOf 24 = .ok (.aload_n 0, 1) := by decide +kernel
theorem dX9_twoOf_25 : decode cX9_twoOf 25 = .ok (.getfield 129, 3) := by decide +kernel
theorem dX9_twoOf_28 : decode cX9_twoOf 28 = .ok (.invokevirtual 221, 3) := by decide +kernel
theorem dX9_twoOf_31 : decode cX9_twoOf 31 = .ok (.aload_n 0, 1) := by decide +kernel
theorem dX9_twoOf_32 : decode cX9_twoOf 32 = .ok (.getfield 129, 3) := by decide +kernel
theorem dX9_twoOf_35 : decode cX9_twoOf 35 = .ok (.invokestatic 226, 3) := by decide +kernel
theorem dX9_twoOf_38 : decode cX9_twoOf 38 = .ok (.aload_n 0, 1) := by decide +kernel
theorem dX9_twoOf_39 : decode cX9_twoOf 39 = .ok (.iconst 0, 1) := by decide +kernel
theorem dX9_twoOf_40 : decode cX9_twoOf 40 = .ok (.invokevirtual 237, 3) := by decide +kernel
theorem dX9_twoOf_43 : decode cX9_twoOf 43 = .ok (.lsub, 1) := by decide +kernel
theorem dX9_twoOf_44 : decode cX9_twoOf 44 = .ok (.lstore_n 2, 1) := by decide +kernel
theorem dX9_twoOf_45 : decode cX9_twoOf 45 = .ok (.aload_n 0, 1) := by decide +kernel
theorem dX9_twoOf_46 : decode cX9_twoOf 46 = .ok (.iconst 1, 1) := by decide +kernel
theorem dX9_twoOf_47 : decode cX9_twoOf 47 = .ok (.putfield 180, 3) := by decide +kernel
theorem dX9_twoOf_50 : decode cX9_twoOf 50 = .ok (.aload_n 0, 1) := by decide +kernel
theorem dX9_twoOf_51 : decode cX9_twoOf 51 = .ok (.aload_n 0, 1) := by decide +kernel
theorem dX9_twoOf_52 : decode cX9_twoOf 52 = .ok (.getfield 129, 3) := by decide +kernel
theorem dX9_twoOf_55 : decode cX9_twoOf 55 = .ok (.invokevirtual 221, 3) := by decide +kernel
theorem dX9_twoOf_58 : decode cX9_twoOf 58 = .ok (.aload_n 0, 1) := by decide +kernel
theorem dX9_twoOf_59 : decode cX9_twoOf 59 = .ok (.iconst 0, 1) := by decide +kernel
theorem dX9_twoOf_60 : decode cX9_twoOf 60 = .ok (.invokevirtual 237, 3) := by decide +kernel
theorem dX9_twoOf_63 : decode cX9_twoOf 63 = .ok (.lstore 4, 2) := by decide +kernel
theorem dX9_twoOf_65 : decode cX9_twoOf 65 = .ok (.lload_n 2, 1) := by decide +kernel
theorem dX9_twoOf_66 : decode cX9_twoOf 66 = .ok (.lload 4, 2) := by decide +kernel
theorem dX9_twoOf_68 : decode cX9_twoOf 68 = .ok (.ladd, 1) := by decide +kernel
theorem dX9_twoOf_69 : decode cX9_twoOf 69 = .ok (.lconst 0, 1) := by decide +kernel
theorem dX9_twoOf_70 : decode cX9_twoOf 70 = .ok (.lcmp, 1) := by decide +kernel
theorem dX9_twoOf_71 : decode cX9_twoOf 71 = .ok (.ifCond .ne 11, 3) := by decide +kernel
theorem dX9_twoOf_74 : decode cX9_twoOf 74 = .ok (.bipush (-3), 2) := by decide +kernel
theorem dX9_twoOf_76 : decode cX9_twoOf 76 = .ok (.invokestatic 251, 3) := by decide +kernel
theorem dX9_twoOf_79 : decode cX9_twoOf 79 = .ok (.goto 13, 3) := by decide +kernel
theorem dX9_twoOf_82 : decode cX9_twoOf 82 = .ok (.lload 4, 2) := by decide +kernel
theorem dX9_twoOf_84 : decode cX9_twoOf 84 = .ok (.lload_n 2, 1) := by decide +kernel
theorem dX9_twoOf_85 : decode cX9_twoOf 85 = .ok (.lload 4, 2) := by decide +kernel
theorem dX9_twoOf_87 : decode cX9_twoOf 87 = .ok (.ladd, 1) := by decide +kernel
theorem dX9_twoOf_88 : decode cX9_twoOf 88 = .ok (.iload_n 1, 1) := by decide +kernel
theorem dX9_twoOf_89 : decode cX9_twoOf 89 = .ok (.invokestatic 240, 3) := by decide +kernel
theorem dX9_twoOf_92 : decode cX9_twoOf 92 = .ok (.lreturn, 1) := by decide +kernel
theorem dX9_two_0 : decode cX9_two 0 = .ok (.iload_n 1, 1) := by decide +kernel
theorem dX9_two_1 : decode cX9_two 1 = .ok (.invokestatic 244, 3) := by decide +kernel
theorem dX9_two_4 : decode cX9_two 4 = .ok (.ifCond .eq 11, 3) := by decide +kernel
theorem dX9_two_7 : decode cX9_two 7 = .ok (.aload_n 0, 1) := by decide +kernel
theorem dX9_two_8 : decode cX9_two 8 = .ok (.iload_n 1, 1) := by decide +kernel
theorem dX9_two_9 : decode cX9_two 9 = .ok (.invokevirtual 314, 3) := by decide +kernel
theorem dX9_two_12 : decode cX9_two 12 = .ok (.goto 8, 3) := by decide +kernel
theorem dX9_two_15 : decode cX9_two 15 = .ok (.bipush (-2), 2) := by decide +kernel
theorem dX9_two_17 : decode cX9_two 17 = .ok (.invokestatic 251, 3) := by decide +kernel
theorem dX9_two_20 : decode cX9_two 20 = .ok (.lreturn, 1) := by decide +kernel
theorem dX9_lot_0 : decode cX9_lot 0 = .ok (.aload_n 0, 1) := by decide +kernel
theorem dX9_lot_1 : decode cX9_lot 1 = .ok (.ldc_w 317, 3) := by decide +kernel
theorem dX9_lot_4 : decode cX9_lot 4 = .ok (.aload_n 0, 1) := by decide +kernel
theorem dX9_lot_5 : decode cX9_lot 5 = .ok (.getfield 318, 3) := by decide +kernel
theorem dX9_lot_8 : decode cX9_lot 8 = .ok (.imul, 1) := by decide +kernel
theorem dX9_lot_9 : decode cX9_lot 9 = .ok (.sipush 12345, 3) := by decide +kernel
theorem dX9_lot_12 : decode cX9_lot 12 = .ok (.iadd, 1) := by decide +kernel
theorem dX9_lot_13 : decode cX9_lot 13 = .ok (.putfield 318, 3) := by decide +kernel
theorem dX9_lot_16 : decode cX9_lot 16 = .ok (.aload_n 0, 1) := by decide +kernel
theorem dX9_lot_17 : decode cX9_lot 17 = .ok (.getfield 318, 3) := by decide +kernel
theorem dX9_lot_20 : decode cX9_lot 20 = .ok (.bipush 16, 2) := by decide +kernel
theorem dX9_lot_22 : decode cX9_lot 22 = .ok (.iushr, 1) := by decide +kernel
theorem dX9_lot_23 : decode cX9_lot 23 = .ok (.iload_n 1, 1) := by decide +kernel
theorem dX9_lot_24 : decode cX9_lot 24 = .ok (.irem, 1) := by decide +kernel
theorem dX9_lot_25 : decode cX9_lot 25 = .ok (.ireturn, 1) := by decide +kernel
theorem dX9_evening_0 : decode cX9_evening 0 = .ok (.aload_n 0, 1) := by decide +kernel
theorem dX9_evening_1 : decode cX9_evening 1 = .ok (.getfield 180, 3) := by decide +kernel
theorem dX9_evening_4 : decode cX9_evening 4 = .ok (.istore_n 1, 1) := by decide +kernel
theorem dX9_evening_5 : decode cX9_evening 5 = .ok (.iconst 0, 1) := by decide +kernel
theorem dX9_evening_6 : decode cX9_evening 6 = .ok (.istore_n 2, 1) := by decide +kernel
theorem dX9_evening_7 : decode cX9_evening 7 = .ok (.iconst 0, 1) := by decide +kernel
theorem dX9_evening_8 : decode cX9_evening 8 = .ok (.istore_n 3, 1) := by decide +kernel
theorem dX9_evening_9 : decode cX9_evening 9 = .ok (.iload_n 3, 1) := by decide +kernel
theorem dX9_evening_10 : decode cX9_evening 10 = .ok (.aload_n 0, 1) := by decide +kernel
theorem dX9_evening_11 : decode cX9_evening 11 = .ok (.getfield 129, 3) := by decide +kernel
theorem dX9_evening_14 : decode cX9_evening 14 = .ok (.if_icmp .ge 212, 3) := by decide +kernel
theorem dX9_evening_17 : decode cX9_evening 17 = .ok (.iconst 0, 1) := by decide +kernel
theorem dX9_evening_18 : decode cX9_evening 18 = .ok (.istore 4, 2) := by decide +kernel
theorem dX9_evening_20 : decode cX9_evening 20 = .ok (.iconst 0, 1) := by decide +kernel
theorem dX9_evening_21 : decode cX9_evening 21 = .ok (.istore 5, 2) := by decide +kernel
theorem dX9_evening_23 : decode cX9_evening 23 = .ok (.iload 5, 2) := by decide +kernel
theorem dX9_evening_25 : decode cX9_evening 25 = .ok (.aload_n 0, 1) := by decide +kernel
theorem dX9_evening_26 : decode cX9_evening 26 = .ok (.getfield 126, 3) := by decide +kernel
theorem dX9_evening_29 : decode cX9_evening 29 = .ok (.if_icmp .ge 43, 3) := by decide +kernel
theorem dX9_evening_32 : decode cX9_evening 32 = .ok (.aload_n 0, 1) := by decide +kernel
theorem dX9_evening_33 : decode cX9_evening 33 = .ok (.iload 5, 2) := by decide +kernel
theorem dX9_evening_35 : decode cX9_evening 35 = .ok (.iload_n 3, 1) := by decide +kernel
theorem dX9_evening_36 : decode cX9_evening 36 = .ok (.invokevirtual 186, 3) := by decide +kernel
theorem dX9_evening_39 : decode cX9_evening 39 = .ok (.ifCond .eq 27, 3) := by decide +kernel
theorem dX9_evening_42 : decode cX9_evening 42 = .ok (.aload_n 0, 1) := by decide +kernel
theorem dX9_evening_43 : decode cX9_evening 43 = .ok (.iconst 4, 1) := by decide +kernel
theorem dX9_evening_44 : decode cX9_evening 44 = .ok (.invokevirtual 321, 3) := by decide +kernel
theorem dX9_evening_47 : decode cX9_evening 47 = .ok (.aload_n 0, 1) := by decide +kernel
theorem dX9_evening_48 : decode cX9_evening 48 = .ok (.iload 5, 2) := by decide +kernel
theorem dX9_evening_50 : decode cX9_evening 50 = .ok (.iload_n 3, 1) := by decide +kernel
theorem dX9_evening_51 : decode cX9_evening 51 = .ok (.invokevirtual 197, 3) := by decide +kernel
theorem dX9_evening_54 : decode cX9_evening 54 = .ok (.if_icmp .ge 12, 3) := by decide +kernel
theorem dX9_evening_57 : decode cX9_evening 57 = .ok (.iload 4, 2) := by decide +kernel
theorem dX9_evening_59 : decode cX9_evening 59 = .ok (.iconst 1, 1) := by decide +kernel
theorem dX9_evening_60 : decode cX9_evening 60 = .ok (.iload 5, 2) := by decide +kernel
theorem dX9_evening_62 : decode cX9_evening 62 = .ok (.ishl, 1) := by decide +kernel
theorem dX9_evening_63 : decode cX9_evening 63 = .ok (.ior, 1) := by decide +kernel
theorem dX9_evening_64 : decode cX9_evening 64 = .ok (.istore 4, 2) := by decide +kernel
theorem dX9_evening_66 : decode cX9_evening 66 = .ok (.iinc 5 1, 3) := by decide +kernel
theorem dX9_evening_69 : decode cX9_evening 69 = .ok (.goto (-46), 3) := by decide +kernel
theorem dX9_evening_72 : decode cX9_evening 72 = .ok (.iload 4, 2) := by decide +kernel
theorem dX9_evening_74 : decode cX9_evening 74 = .ok (.invokestatic 203, 3) := by decide +kernel
theorem dX9_evening_77 : decode cX9_evening 77 = .ok (.istore 5, 2) := by decide +kernel
theorem dX9_evening_79 : decode cX9_evening 79 = .ok (.iload 5, 2) := by decide +kernel
theorem dX9_evening_81 : decode cX9_evening 81 = .ok (.iconst 1, 1) := by decide +kernel
theorem dX9_evening_82 : decode cX9_evening 82 = .ok (.if_icmp .eq 16, 3) := by decide +kernel
theorem dX9_evening_85 : decode cX9_evening 85 = .ok (.iload 5, 2) := by decide +kernel
theorem dX9_evening_87 : decode cX9_evening 87 = .ok (.iconst 1, 1) := by decide +kernel
theorem dX9_evening_88 : decode cX9_evening 88 = .ok (.if_icmp .le 132, 3) := by decide +kernel
theorem dX9_evening_91 : decode cX9_evening 91 = .ok (.aload_n 0, 1) := by decide +kernel
theorem dX9_evening_92 : decode cX9_evening 92 = .ok (.getfield 177, 3) := by decide +kernel
theorem dX9_evening_95 : decode cX9_evening 95 = .ok (.ifCond .le 125, 3) := by decide +kernel
theorem dX9_evening_98 : decode cX9_evening 98 = .ok (.iload 5, 2) := by decide +kernel
theorem dX9_evening_100 : decode cX9_evening 100 = .ok (.iconst 1, 1) := by decide +kernel
theorem dX9_evening_101 : decode cX9_evening 101 = .ok (.if_icmp .le 20, 3) := by decide +kernel
theorem dX9_evening_104 : decode cX9_evening 104 = .ok (.aload_n 0, 1) := by decide +kernel
theorem dX9_evening_105 : decode cX9_evening 105 = .ok (.getfield 177, 3) := by decide +kernel
theorem dX9_evening_108 : decode cX9_evening 108 = .ok (.iconst 2, 1) := by decide +kernel
theorem dX9_evening_109 : decode cX9_evening 109 = .ok (.if_icmp .ne 12, 3) := by decide +kernel
theorem dX9_evening_112 : decode cX9_evening 112 = .ok (.aload_n 0, 1) := by decide +kernel
theorem dX9_evening_113 : decode cX9_evening 113 = .ok (.iload 5, 2) := by decide +kernel
theorem dX9_evening_115 : decode cX9_evening 115 = .ok (.invokevirtual 321, 3) := by decide +kernel
theorem dX9_evening_118 : decode cX9_evening 118 = .ok (.goto 4, 3) := by decide +kernel
theorem dX9_evening_121 : decode cX9_evening 121 = .ok (.iconst 0, 1) := by decide +kernel
theorem dX9_evening_122 : decode cX9_evening 122 = .ok (.istore 6, 2) := by decide +kernel
theorem dX9_evening_124 : decode cX9_evening 124 = .ok (.iconst (-1), 1) := by decide +kernel
theorem dX9_evening_125 : decode cX9_evening 125 = .ok (.istore 7, 2) := by decide +kernel
theorem dX9_evening_127 : decode cX9_evening 127 = .ok (.aload_n 0, 1) := by decide +kernel
theorem dX9_evening_128 : decode cX9_evening 128 = .ok (.getfield 126, 3) := by decide +kernel
theorem dX9_evening_131 : decode cX9_evening 131 = .ok (.iconst 1, 1) := by decide +kernel
theorem dX9_evening_132 : decode cX9_evening 132 = .ok (.isub, 1) := by decide +kernel
theorem dX9_evening_133 : decode cX9_evening 133 = .ok (.istore 8, 2) := by decide +kernel
theorem dX9_evening_135 : decode cX9_evening 135 = .ok (.iload 8, 2) := by decide +kernel
theorem dX9_evening_137 : decode cX9_evening 137 = .ok (.ifCond .lt 58, 3) := by decide +kernel
theorem dX9_evening_140 : decode cX9_evening 140 = .ok (.iload 4, 2) := by decide +kernel
theorem dX9_evening_142 : decode cX9_evening 142 = .ok (.iload 8, 2) := by decide +kernel
theorem dX9_evening_144 : decode cX9_evening 144 = .ok (.ishr, 1) := by decide +kernel
theorem dX9_evening_145 : decode cX9_evening 145 = .ok (.iconst 1, 1) := by decide +kernel
theorem dX9_evening_146 : decode cX9_evening 146 = .ok (.iand, 1) := by decide +kernel
theorem dX9_evening_147 : decode cX9_evening 147 = .ok (.iconst 1, 1) := by decide +kernel
theorem dX9_evening_148 : decode cX9_evening 148 = .ok (.if_icmp .ne 24, 3) := by decide +kernel
theorem dX9_evening_151 : decode cX9_evening 151 = .ok (.iload 4, 2) := by decide +kernel
theorem dX9_evening_153 : decode cX9_evening 153 = .ok (.iconst 1, 1) := by decide +kernel
theorem dX9_evening_154 : decode cX9_evening 154 = .ok (.iload 8, 2) := by decide +kernel
theorem dX9_evening_156 : decode cX9_evening 156 = .ok (.ishl, 1) := by decide +kernel
theorem dX9_evening_157 : decode cX9_evening 157 = .ok (.iconst 1, 1) := by decide +kernel
theorem dX9_evening_158 : decode cX9_evening 158 = .ok (.isub, 1) := by decide +kernel
theorem dX9_evening_159 : decode cX9_evening 159 = .ok (.iand, 1) := by decide +kernel
theorem dX9_evening_160 : decode cX9_evening 160 = .ok (.invokestatic 203, 3) := by decide +kernel
theorem dX9_evening_163 : decode cX9_evening 163 = .ok (.iload 6, 2) := by decide +kernel
theorem dX9_evening_165 : decode cX9_evening 165 = .ok (.if_icmp .ne 7, 3) := by decide +kernel
theorem dX9_evening_168 : decode cX9_evening 168 = .ok (.iconst 1, 1) := by decide +kernel
theorem dX9_evening_169 : decode cX9_evening 169 = .ok (.goto 4, 3) := by decide +kernel
theorem dX9_evening_172 : decode cX9_evening 172 = .ok (.iconst 0, 1) := by decide +kernel
theorem dX9_evening_173 : decode cX9_evening 173 = .ok (.istore 9, 2) := by decide +kernel
theorem dX9_evening_175 : decode cX9_evening 175 = .ok (.iload 9, 2) := by decide +kernel
theorem dX9_evening_177 : decode cX9_evening 177 = .ok (.ifCond .eq 8, 3) := by decide +kernel
theorem dX9_evening_180 : decode cX9_evening 180 = .ok (.iload 8, 2) := by decide +kernel
theorem dX9_evening_182 : decode cX9_evening 182 = .ok (.goto 5, 3) := by decide +kernel
theorem dX9_evening_185 : decode cX9_evening 185 = .ok (.iload 7, 2) := by decide +kernel
theorem dX9_evening_187 : decode cX9_evening 187 = .ok (.istore 7, 2) := by decide +kernel
theorem dX9_evening_189 : decode cX9_evening 189 = .ok (.iinc 8 (-1), 3) := by decide +kernel
theorem dX9_evening_192 : decode cX9_evening 192 = .ok (.goto (-57), 3) := by decide +kernel
theorem dX9_evening_195 : decode cX9_evening 195 = .ok (.iload_n 2, 1) := by decide +kernel
theorem dX9_evening_196 : decode cX9_evening 196 = .ok (.ifCond .eq 7, 3) := by decide +kernel
theorem dX9_evening_199 : decode cX9_evening 199 = .ok (.iload_n 1, 1) := by decide +kernel
theorem dX9_evening_200 : decode cX9_evening 200 = .ok (.goto 5, 3) := by decide +kernel
theorem dX9_evening_203 : decode cX9_evening 203 = .ok (.iload 7, 2) := by decide +kernel
theorem dX9_evening_205 : decode cX9_evening 205 = .ok (.istore_n 1, 1) := by decide +kernel
theorem dX9_evening_206 : decode cX9_evening 206 = .ok (.aload_n 0, 1) := by decide +kernel
theorem dX9_evening_207 : decode cX9_evening 207 = .ok (.getfield 174, 3) := by decide +kernel
theorem dX9_evening_210 : decode cX9_evening 210 = .ok (.iconst 1, 1) := by decide +kernel
theorem dX9_evening_211 : decode cX9_evening 211 = .ok (.if_icmp .ne 7, 3) := by decide +kernel
theorem dX9_evening_214 : decode cX9_evening 214 = .ok (.iconst 1, 1) := by decide +kernel
theorem dX9_evening_215 : decode cX9_evening 215 = .ok (.goto 4, 3) := by decide +kernel
theorem dX9_evening_218 : decode cX9_evening 218 = .ok (.iconst 0, 1) := by decide +kernel
theorem dX9_evening_219 : decode cX9_evening 219 = .ok (.istore_n 2, 1) := by decide +kernel
theorem dX9_evening_220 : decode cX9_evening 220 = .ok (.iinc 3 1, 3) := by decide +kernel
theorem dX9_evening_223 : decode cX9_evening 223 = .ok (.goto (-214), 3) := by decide +kernel
theorem dX9_evening_226 : decode cX9_evening 226 = .ok (.iload_n 1, 1) := by decide +kernel
theorem dX9_evening_227 : decode cX9_evening 227 = .ok (.ireturn, 1) := by decide +kernel
theorem dX9_made_0 : decode cX9_made 0 = .ok (.aload_n 0, 1) := by decide +kernel
theorem dX9_made_1 : decode cX9_made 1 = .ok (.invokevirtual 194, 3) := by decide +kernel
theorem dX9_made_4 : decode cX9_made 4 = .ok (.aload_n 0, 1) := by decide +kernel
theorem dX9_made_5 : decode cX9_made 5 = .ok (.getfield 126, 3) := by decide +kernel
theorem dX9_made_8 : decode cX9_made 8 = .ok (.ifCond .ne 6, 3) := by decide +kernel
theorem dX9_made_11 : decode cX9_made 11 = .ok (.bipush (-3), 2) := by decide +kernel
theorem dX9_made_13 : decode cX9_made 13 = .ok (.ireturn, 1) := by decide +kernel
theorem dX9_made_14 : decode cX9_made 14 = .ok (.aload_n 0, 1) := by decide +kernel
theorem dX9_made_15 : decode cX9_made 15 = .ok (.iload_n 1, 1) := by decide +kernel
theorem dX9_made_16 : decode cX9_made 16 = .ok (.putfield 318, 3) := by decide +kernel
theorem dX9_made_19 : decode cX9_made 19 = .ok (.aload_n 0, 1) := by decide +kernel
theorem dX9_made_20 : decode cX9_made 20 = .ok (.invokevirtual 324, 3) := by decide +kernel
theorem dX9_made_23 : decode cX9_made 23 = .ok (.ireturn, 1) := by decide +kernel
theorem dX9_eveningsOf_0 : decode cX9_eveningsOf 0 = .ok (.aload_n 0, 1) := by decide +kernel
theorem dX9_eveningsOf_1 : decode cX9_eveningsOf 1 = .ok (.invokevirtual 194, 3) := by decide +kernel
theorem dX9_eveningsOf_4 : decode cX9_eveningsOf 4 = .ok (.aload_n 0, 1) := by decide +kernel
theorem dX9_eveningsOf_5 : decode cX9_eveningsOf 5 = .ok (.iload_n 1, 1) := by decide +kernel
theorem dX9_eveningsOf_6 : decode cX9_eveningsOf 6 = .ok (.putfield 318, 3) := by decide +kernel
theorem dX9_eveningsOf_9 : decode cX9_eveningsOf 9 = .ok (.iconst 0, 1) := by decide +kernel
theorem dX9_eveningsOf_10 : decode cX9_eveningsOf 10 = .ok (.istore 4, 2) := by decide +kernel
theorem dX9_eveningsOf_12 : decode cX9_eveningsOf 12 = .ok (.iconst 0, 1) := by decide +kernel
theorem dX9_eveningsOf_13 : decode cX9_eveningsOf 13 = .ok (.istore 5, 2) := by decide +kernel
theorem dX9_eveningsOf_15 : decode cX9_eveningsOf 15 = .ok (.iload 5, 2) := by decide +kernel
theorem dX9_eveningsOf_17 : decode cX9_eveningsOf 17 = .ok (.iload_n 2, 1) := by decide +kernel
theorem dX9_eveningsOf_18 : decode cX9_eveningsOf 18 = .ok (.if_icmp .ge 27, 3) := by decide +kernel
theorem dX9_eveningsOf_21 : decode cX9_eveningsOf 21 = .ok (.iload 4, 2) := by decide +kernel
theorem dX9_eveningsOf_23 : decode cX9_eveningsOf 23 = .ok (.aload_n 0, 1) := by decide +kernel
theorem dX9_eveningsOf_24 : decode cX9_eveningsOf 24 = .ok (.invokevirtual 324, 3) := by decide +kernel
theorem dX9_eveningsOf_27 : decode cX9_eveningsOf 27 = .ok (.iload_n 3, 1) := by decide +kernel
theorem dX9_eveningsOf_28 : decode cX9_eveningsOf 28 = .ok (.if_icmp .ne 7, 3) := by decide +kernel
theorem dX9_eveningsOf_31 : decode cX9_eveningsOf 31 = .ok (.iconst 1, 1) := by decide +kernel
theorem dX9_eveningsOf_32 : decode cX9_eveningsOf 32 = .ok (.goto 4, 3) := by decide +kernel
theorem dX9_eveningsOf_35 : decode cX9_eveningsOf 35 = .ok (.iconst 0, 1) := by decide +kernel
theorem dX9_eveningsOf_36 : decode cX9_eveningsOf 36 = .ok (.iadd, 1) := by decide +kernel
theorem dX9_eveningsOf_37 : decode cX9_eveningsOf 37 = .ok (.istore 4, 2) := by decide +kernel
theorem dX9_eveningsOf_39 : decode cX9_eveningsOf 39 = .ok (.iinc 5 1, 3) := by decide +kernel
theorem dX9_eveningsOf_42 : decode cX9_eveningsOf 42 = .ok (.goto (-27), 3) := by decide +kernel
theorem dX9_eveningsOf_45 : decode cX9_eveningsOf 45 = .ok (.iload 4, 2) := by decide +kernel
theorem dX9_eveningsOf_47 : decode cX9_eveningsOf 47 = .ok (.ireturn, 1) := by decide +kernel
theorem dX9_evenings_0 : decode cX9_evenings 0 = .ok (.iload_n 2, 1) := by decide +kernel
theorem dX9_evenings_1 : decode cX9_evenings 1 = .ok (.i2l, 1) := by decide +kernel
theorem dX9_evenings_2 : decode cX9_evenings 2 = .ok (.lconst 1, 1) := by decide +kernel
theorem dX9_evenings_3 : decode cX9_evenings 3 = .ok (.ldc2_w 327, 3) := by decide +kernel
theorem dX9_evenings_6 : decode cX9_evenings 6 = .ok (.invokestatic 89, 3) := by decide +kernel
theorem dX9_evenings_9 : decode cX9_evenings 9 = .ok (.ifCond .eq 21, 3) := by decide +kernel
theorem dX9_evenings_12 : decode cX9_evenings 12 = .ok (.aload_n 0, 1) := by decide +kernel
theorem dX9_evenings_13 : decode cX9_evenings 13 = .ok (.iload_n 3, 1) := by decide +kernel
theorem dX9_evenings_14 : decode cX9_evenings 14 = .ok (.invokevirtual 158, 3) := by decide +kernel
theorem dX9_evenings_17 : decode cX9_evenings 17 = .ok (.ifCond .eq 13, 3) := by decide +kernel
theorem dX9_evenings_20 : decode cX9_evenings 20 = .ok (.aload_n 0, 1) := by decide +kernel
theorem dX9_evenings_21 : decode cX9_evenings 21 = .ok (.iload_n 1, 1) := by decide +kernel
theorem dX9_evenings_22 : decode cX9_evenings 22 = .ok (.iload_n 2, 1) := by decide +kernel
theorem dX9_evenings_23 : decode cX9_evenings 23 = .ok (.iload_n 3, 1) := by decide +kernel
theorem dX9_evenings_24 : decode cX9_evenings 24 = .ok (.invokevirtual 329, 3) := by decide +kernel
theorem dX9_evenings_27 : decode cX9_evenings 27 = .ok (.goto 5, 3) := by decide +kernel
theorem dX9_evenings_30 : decode cX9_evenings 30 = .ok (.bipush (-2), 2) := by decide +kernel
theorem dX9_evenings_32 : decode cX9_evenings 32 = .ok (.ireturn, 1) := by decide +kernel
theorem dX9_saw_0 : decode cX9_saw 0 = .ok (.iload_n 1, 1) := by decide +kernel
theorem dX9_saw_1 : decode cX9_saw 1 = .ok (.invokestatic 164, 3) := by decide +kernel
theorem dX9_saw_4 : decode cX9_saw 4 = .ok (.ifCond .eq 43, 3) := by decide +kernel
theorem dX9_saw_7 : decode cX9_saw 7 = .ok (.iload_n 2, 1) := by decide +kernel
theorem dX9_saw_8 : decode cX9_saw 8 = .ok (.i2l, 1) := by decide +kernel
theorem dX9_saw_9 : decode cX9_saw 9 = .ok (.lconst 0, 1) := by decide +kernel
theorem dX9_saw_10 : decode cX9_saw 10 = .ok (.ldc2_w 300, 3) := by decide +kernel
theorem dX9_saw_13 : decode cX9_saw 13 = .ok (.invokestatic 89, 3) := by decide +kernel
theorem dX9_saw_16 : decode cX9_saw 16 = .ok (.ifCond .eq 31, 3) := by decide +kernel
theorem dX9_saw_19 : decode cX9_saw 19 = .ok (.iload_n 3, 1) := by decide +kernel
theorem dX9_saw_20 : decode cX9_saw 20 = .ok (.i2l, 1) := by decide +kernel
theorem dX9_saw_21 : decode cX9_saw 21 = .ok (.lconst 0, 1) := by decide +kernel
theorem dX9_saw_22 : decode cX9_saw 22 = .ok (.ldc2_w 169, 3) := by decide +kernel
theorem dX9_saw_25 : decode cX9_saw 25 = .ok (.invokestatic 89, 3) := by decide +kernel
theorem dX9_saw_28 : decode cX9_saw 28 = .ok (.ifCond .eq 19, 3) := by decide +kernel
theorem dX9_saw_31 : decode cX9_saw 31 = .ok (.iload 4, 2) := by decide +kernel
theorem dX9_saw_33 : decode cX9_saw 33 = .ok (.invokestatic 244, 3) := by decide +kernel
theorem dX9_saw_36 : decode cX9_saw 36 = .ok (.ifCond .eq 11, 3) := by decide +kernel
theorem dX9_saw_39 : decode cX9_saw 39 = .ok (.iload 5, 2) := by decide +kernel
theorem dX9_saw_41 : decode cX9_saw 41 = .ok (.invokestatic 244, 3) := by decide +kernel
theorem dX9_saw_44 : decode cX9_saw 44 = .ok (.ifCond .ne 6, 3) := by decide +kernel
theorem dX9_saw_47 : decode cX9_saw 47 = .ok (.bipush (-2), 2) := by decide +kernel
theorem dX9_saw_49 : decode cX9_saw 49 = .ok (.ireturn, 1) := by decide +kernel
theorem dX9_saw_50 : decode cX9_saw 50 = .ok (.aload_n 0, 1) := by decide +kernel
theorem dX9_saw_51 : decode cX9_saw 51 = .ok (.getfield 332, 3) := by decide +kernel
theorem dX9_saw_54 : decode cX9_saw 54 = .ok (.bipush 60, 2) := by decide +kernel
theorem dX9_saw_56 : decode cX9_saw 56 = .ok (.if_icmp .ne 6, 3) := by decide +kernel
theorem dX9_saw_59 : decode cX9_saw 59 = .ok (.bipush (-4), 2) := by decide +kernel
theorem dX9_saw_61 : decode cX9_saw 61 = .ok (.ireturn, 1) := by decide +kernel
theorem dX9_saw_62 : decode cX9_saw 62 = .ok (.aload_n 0, 1) := by decide +kernel
theorem dX9_saw_63 : decode cX9_saw 63 = .ok (.getfield 68, 3) := by decide +kernel
theorem dX9_saw_66 : decode cX9_saw 66 = .ok (.aload_n 0, 1) := by decide +kernel
theorem dX9_saw_67 : decode cX9_saw 67 = .ok (.getfield 332, 3) := by decide +kernel
theorem dX9_saw_70 : decode cX9_saw 70 = .ok (.iload_n 1, 1) := by decide +kernel
theorem dX9_saw_71 : decode cX9_saw 71 = .ok (.iastore, 1) := by decide +kernel
theorem dX9_saw_72 : decode cX9_saw 72 = .ok (.aload_n 0, 1) := by decide +kernel
theorem dX9_saw_73 : decode cX9_saw 73 = .ok (.getfield 71, 3) := by decide +kernel
theorem dX9_saw_76 : decode cX9_saw 76 = .ok (.aload_n 0, 1) := by decide +kernel
theorem dX9_saw_77 : decode cX9_saw 77 = .ok (.getfield 332, 3) := by decide +kernel
theorem dX9_saw_80 : decode cX9_saw 80 = .ok (.iload_n 2, 1) := by decide +kernel
theorem dX9_saw_81 : decode cX9_saw 81 = .ok (.iastore, 1) := by decide +kernel
theorem dX9_saw_82 : decode cX9_saw 82 = .ok (.aload_n 0, 1) := by decide +kernel
theorem dX9_saw_83 : decode cX9_saw 83 = .ok (.getfield 74, 3) := by decide +kernel
theorem dX9_saw_86 : decode cX9_saw 86 = .ok (.aload_n 0, 1) := by decide +kernel
theorem dX9_saw_87 : decode cX9_saw 87 = .ok (.getfield 332, 3) := by decide +kernel
theorem dX9_saw_90 : decode cX9_saw 90 = .ok (.iload_n 3, 1) := by decide +kernel
theorem dX9_saw_91 : decode cX9_saw 91 = .ok (.iastore, 1) := by decide +kernel
theorem dX9_saw_92 : decode cX9_saw 92 = .ok (.aload_n 0, 1) := by decide +kernel
theorem dX9_saw_93 : decode cX9_saw 93 = .ok (.getfield 77, 3) := by decide +kernel
theorem dX9_saw_96 : decode cX9_saw 96 = .ok (.aload_n 0, 1) := by decide +kernel
theorem dX9_saw_97 : decode cX9_saw 97 = .ok (.getfield 332, 3) := by decide +kernel
theorem dX9_saw_100 : decode cX9_saw 100 = .ok (.iload 4, 2) := by decide +kernel
theorem dX9_saw_102 : decode cX9_saw 102 = .ok (.iconst 1, 1) := by decide +kernel
theorem dX9_saw_103 : decode cX9_saw 103 = .ok (.if_icmp .ne 7, 3) := by decide +kernel
theorem dX9_saw_106 : decode cX9_saw 106 = .ok (.iconst 1, 1) := by decide +kernel
theorem dX9_saw_107 : decode cX9_saw 107 = .ok (.goto 4, 3) := by decide +kernel
theorem dX9_saw_110 : decode cX9_saw 110 = .ok (.iconst 0, 1) := by decide +kernel
theorem dX9_saw_111 : decode cX9_saw 111 = .ok (.bastore, 1) := by decide +kernel
theorem dX9_saw_112 : decode cX9_saw 112 = .ok (.aload_n 0, 1) := by decide +kernel
theorem dX9_saw_113 : decode cX9_saw 113 = .ok (.getfield 81, 3) := by decide +kernel
theorem dX9_saw_116 : decode cX9_saw 116 = .ok (.aload_n 0, 1) := by decide +kernel
theorem dX9_saw_117 : decode cX9_saw 117 = .ok (.getfield 332, 3) := by decide +kernel
theorem dX9_saw_120 : decode cX9_saw 120 = .ok (.iload 5, 2) := by decide +kernel
theorem dX9_saw_122 : decode cX9_saw 122 = .ok (.iastore, 1) := by decide +kernel
theorem dX9_saw_123 : decode cX9_saw 123 = .ok (.aload_n 0, 1) := by decide +kernel
theorem dX9_saw_124 : decode cX9_saw 124 = .ok (.dup, 1) := by decide +kernel
theorem dX9_saw_125 : decode cX9_saw 125 = .ok (.getfield 332, 3) := by decide +kernel
theorem dX9_saw_128 : decode cX9_saw 128 = .ok (.iconst 1, 1) := by decide +kernel
theorem dX9_saw_129 : decode cX9_saw 129 = .ok (.iadd, 1) := by decide +kernel
theorem dX9_saw_130 : decode cX9_saw 130 = .ok (.putfield 332, 3) := by decide +kernel
theorem dX9_saw_133 : decode cX9_saw 133 = .ok (.aload_n 0, 1) := by decide +kernel
theorem dX9_saw_134 : decode cX9_saw 134 = .ok (.getfield 332, 3) := by decide +kernel
theorem dX9_saw_137 : decode cX9_saw 137 = .ok (.ireturn, 1) := by decide +kernel
theorem dX9_read_0 : decode cX9_read 0 = .ok (.iload_n 1, 1) := by decide +kernel
theorem dX9_read_1 : decode cX9_read 1 = .ok (.invokestatic 99, 3) := by decide +kernel
theorem dX9_read_4 : decode cX9_read 4 = .ok (.ifCond .eq 10, 3) := by decide +kernel
theorem dX9_read_7 : decode cX9_read 7 = .ok (.iload_n 2, 1) := by decide +kernel
theorem dX9_read_8 : decode cX9_read 8 = .ok (.invokestatic 164, 3) := by decide +kernel
theorem dX9_read_11 : decode cX9_read 11 = .ok (.ifCond .ne 6, 3) := by decide +kernel
theorem dX9_read_14 : decode cX9_read 14 = .ok (.bipush (-2), 2) := by decide +kernel
theorem dX9_read_16 : decode cX9_read 16 = .ok (.ireturn, 1) := by decide +kernel
theorem dX9_read_17 : decode cX9_read 17 = .ok (.aload_n 0, 1) := by decide +kernel
theorem dX9_read_18 : decode cX9_read 18 = .ok (.getfield 7, 3) := by decide +kernel
theorem dX9_read_21 : decode cX9_read 21 = .ok (.iload_n 1, 1) := by decide +kernel
theorem dX9_read_22 : decode cX9_read 22 = .ok (.iaload, 1) := by decide +kernel
theorem dX9_read_23 : decode cX9_read 23 = .ok (.ifCond .ge 9, 3) := by decide +kernel
theorem dX9_read_26 : decode cX9_read 26 = .ok (.aload_n 0, 1) := by decide +kernel
theorem dX9_read_27 : decode cX9_read 27 = .ok (.iconst 1, 1) := by decide +kernel
theorem dX9_read_28 : decode cX9_read 28 = .ok (.invokevirtual 105, 3) := by decide +kernel
theorem dX9_read_31 : decode cX9_read 31 = .ok (.ireturn, 1) := by decide +kernel
theorem dX9_read_32 : decode cX9_read 32 = .ok (.iconst 0, 1) := by decide +kernel
theorem dX9_read_33 : decode cX9_read 33 = .ok (.istore_n 3, 1) := by decide +kernel
theorem dX9_read_34 : decode cX9_read 34 = .ok (.iconst 1, 1) := by decide +kernel
theorem dX9_read_35 : decode cX9_read 35 = .ok (.istore 4, 2) := by decide +kernel
theorem dX9_read_37 : decode cX9_read 37 = .ok (.iload 4, 2) := by decide +kernel
theorem dX9_read_39 : decode cX9_read 39 = .ok (.ifCond .eq 84, 3) := by decide +kernel
theorem dX9_read_42 : decode cX9_read 42 = .ok (.iconst 3, 1) := by decide +kernel
theorem dX9_read_43 : decode cX9_read 43 = .ok (.iload_n 3, 1) := by decide +kernel
theorem dX9_read_44 : decode cX9_read 44 = .ok (.imul, 1) := by decide +kernel
theorem dX9_read_45 : decode cX9_read 45 = .ok (.iconst 3, 1) := by decide +kernel
theorem dX9_read_46 : decode cX9_read 46 = .ok (.iadd, 1) := by decide +kernel
theorem dX9_read_47 : decode cX9_read 47 = .ok (.aload_n 0, 1) := by decide +kernel
theorem dX9_read_48 : decode cX9_read 48 = .ok (.getfield 13, 3) := by decide +kernel
theorem dX9_read_51 : decode cX9_read 51 = .ok (.iload_n 1, 1) := by decide +kernel
theorem dX9_read_52 : decode cX9_read 52 = .ok (.iaload, 1) := by decide +kernel
theorem dX9_read_53 : decode cX9_read 53 = .ok (.if_icmp .gt 70, 3) := by decide +kernel
theorem dX9_read_56 : decode cX9_read 56 = .ok (.bipush 60, 2) := by decide +kernel
theorem dX9_read_58 : decode cX9_read 58 = .ok (.iload_n 1, 1) := by decide +kernel
theorem dX9_read_59 : decode cX9_read 59 = .ok (.imul, 1) := by decide +kernel
theorem dX9_read_60 : decode cX9_read 60 = .ok (.iconst 3, 1) := by decide +kernel
theorem dX9_read_61 : decode cX9_read 61 = .ok (.iload_n 3, 1) := by decide +kernel
theorem dX9_read_62 : decode cX9_read 62 = .ok (.imul, 1) := by decide +kernel
theorem dX9_read_63 : decode cX9_read 63 = .ok (.iadd, 1) := by decide +kernel
theorem dX9_read_64 : decode cX9_read 64 = .ok (.istore 5, 2) := by decide +kernel
theorem dX9_read_66 : decode cX9_read 66 = .ok (.aload_n 0, 1) := by decide +kernel
theorem dX9_read_67 : decode cX9_read 67 = .ok (.iload_n 2, 1) := by decide +kernel
theorem dX9_read_68 : decode cX9_read 68 = .ok (.aload_n 0, 1) := by decide +kernel
theorem dX9_read_69 : decode cX9_read 69 = .ok (.getfield 16, 3) := by decide +kernel
theorem dX9_read_72 : decode cX9_read 72 = .ok (.iload 5, 2) := by decide +kernel
theorem dX9_read_74 : decode cX9_read 74 = .ok (.iaload, 1) := by decide +kernel
theorem dX9_read_75 : decode cX9_read 75 = .ok (.aload_n 0, 1) := by decide +kernel
theorem dX9_read_76 : decode cX9_read 76 = .ok (.getfield 16, 3) := by decide +kernel
theorem dX9_read_79 : decode cX9_read 79 = .ok (.iload 5, 2) := by decide +kernel
theorem dX9_read_81 : decode cX9_read 81 = .ok (.iconst 1, 1) := by decide +kernel
theorem dX9_read_82 : decode cX9_read 82 = .ok (.iadd, 1) := by decide +kernel
theorem dX9_read_83 : decode cX9_read 83 = .ok (.iaload, 1) := by decide +kernel
theorem dX9_read_84 : decode cX9_read 84 = .ok (.iconst 0, 1) := by decide +kernel
theorem dX9_read_85 : decode cX9_read 85 = .ok (.aload_n 0, 1) := by decide +kernel
theorem dX9_read_86 : decode cX9_read 86 = .ok (.getfield 16, 3) := by decide +kernel
theorem dX9_read_89 : decode cX9_read 89 = .ok (.iload 5, 2) := by decide +kernel
theorem dX9_read_91 : decode cX9_read 91 = .ok (.iconst 2, 1) := by decide +kernel
theorem dX9_read_92 : decode cX9_read 92 = .ok (.iadd, 1) := by decide +kernel
theorem dX9_read_93 : decode cX9_read 93 = .ok (.iaload, 1) := by decide +kernel
theorem dX9_read_94 : decode cX9_read 94 = .ok (.invokevirtual 335, 3) := by decide +kernel
theorem dX9_read_97 : decode cX9_read 97 = .ok (.ifCond .lt 7, 3) := by decide +kernel
theorem dX9_read_100 : decode cX9_read 100 = .ok (.iconst 1, 1) := by decide +kernel
theorem dX9_read_101 : decode cX9_read 101 = .ok (.goto 4, 3) := by decide +kernel
theorem dX9_read_104 : decode cX9_read 104 = .ok (.iconst 0, 1) := by decide +kernel
theorem dX9_read_105 : decode cX9_read 105 = .ok (.istore 4, 2) := by decide +kernel
theorem dX9_read_107 : decode cX9_read 107 = .ok (.iload_n 3, 1) := by decide +kernel
theorem dX9_read_108 : decode cX9_read 108 = .ok (.iload 4, 2) := by decide +kernel
theorem dX9_read_110 : decode cX9_read 110 = .ok (.ifCond .eq 7, 3) := by decide +kernel
theorem dX9_read_113 : decode cX9_read 113 = .ok (.iconst 1, 1) := by decide +kernel
theorem dX9_read_114 : decode cX9_read 114 = .ok (.goto 4, 3) := by decide +kernel
theorem dX9_read_117 : decode cX9_read 117 = .ok (.iconst 0, 1) := by decide +kernel
theorem dX9_read_118 : decode cX9_read 118 = .ok (.iadd, 1) := by decide +kernel
theorem dX9_read_119 : decode cX9_read 119 = .ok (.istore_n 3, 1) := by decide +kernel
theorem dX9_read_120 : decode cX9_read 120 = .ok (.goto (-83), 3) := by decide +kernel
theorem dX9_read_123 : decode cX9_read 123 = .ok (.iload_n 3, 1) := by decide +kernel
theorem dX9_read_124 : decode cX9_read 124 = .ok (.ireturn, 1) := by decide +kernel
theorem dX9_isTicklish_0 : decode cX9_isTicklish 0 = .ok (.iload_n 0, 1) := by decide +kernel
theorem dX9_isTicklish_1 : decode cX9_isTicklish 1 = .ok (.i2l, 1) := by decide +kernel
theorem dX9_isTicklish_2 : decode cX9_isTicklish 2 = .ok (.lconst 0, 1) := by decide +kernel
theorem dX9_isTicklish_3 : decode cX9_isTicklish 3 = .ok (.ldc2_w 300, 3) := by decide +kernel
theorem dX9_isTicklish_6 : decode cX9_isTicklish 6 = .ok (.invokestatic 89, 3) := by decide +kernel
theorem dX9_isTicklish_9 : decode cX9_isTicklish 9 = .ok (.ireturn, 1) := by decide +kernel
theorem dX9_offOf_0 : decode cX9_offOf 0 = .ok (.iconst 0, 1) := by decide +kernel
theorem dX9_offOf_1 : decode cX9_offOf 1 = .ok (.istore_n 3, 1) := by decide +kernel
theorem dX9_offOf_2 : decode cX9_offOf 2 = .ok (.iconst 0, 1) := by decide +kernel
theorem dX9_offOf_3 : decode cX9_offOf 3 = .ok (.istore 4, 2) := by decide +kernel
theorem dX9_offOf_5 : decode cX9_offOf 5 = .ok (.iload 4, 2) := by decide +kernel
theorem dX9_offOf_7 : decode cX9_offOf 7 = .ok (.aload_n 0, 1) := by decide +kernel
theorem dX9_offOf_8 : decode cX9_offOf 8 = .ok (.getfield 332, 3) := by decide +kernel
theorem dX9_offOf_11 : decode cX9_offOf 11 = .ok (.if_icmp .ge 65, 3) := by decide +kernel
theorem dX9_offOf_14 : decode cX9_offOf 14 = .ok (.aload_n 0, 1) := by decide +kernel
theorem dX9_offOf_15 : decode cX9_offOf 15 = .ok (.getfield 68, 3) := by decide +kernel
theorem dX9_offOf_18 : decode cX9_offOf 18 = .ok (.iload 4, 2) := by decide +kernel
theorem dX9_offOf_20 : decode cX9_offOf 20 = .ok (.iaload, 1) := by decide +kernel
theorem dX9_offOf_21 : decode cX9_offOf 21 = .ok (.iload_n 1, 1) := by decide +kernel
theorem dX9_offOf_22 : decode cX9_offOf 22 = .ok (.if_icmp .ne 48, 3) := by decide +kernel
theorem dX9_offOf_25 : decode cX9_offOf 25 = .ok (.iconst 4, 1) := by decide +kernel
theorem dX9_offOf_26 : decode cX9_offOf 26 = .ok (.aload_n 0, 1) := by decide +kernel
theorem dX9_offOf_27 : decode cX9_offOf 27 = .ok (.getfield 81, 3) := by decide +kernel
theorem dX9_offOf_30 : decode cX9_offOf 30 = .ok (.iload 4, 2) := by decide +kernel
theorem dX9_offOf_32 : decode cX9_offOf 32 = .ok (.iaload, 1) := by decide +kernel
theorem dX9_offOf_33 : decode cX9_offOf 33 = .ok (.imul, 1) := by decide +kernel
theorem dX9_offOf_34 : decode cX9_offOf 34 = .ok (.iload_n 2, 1) := by decide +kernel
theorem dX9_offOf_35 : decode cX9_offOf 35 = .ok (.aload_n 0, 1) := by decide +kernel
theorem dX9_offOf_36 : decode cX9_offOf 36 = .ok (.getfield 71, 3) := by decide +kernel
theorem dX9_offOf_39 : decode cX9_offOf 39 = .ok (.iload 4, 2) := by decide +kernel
theorem dX9_offOf_41 : decode cX9_offOf 41 = .ok (.iaload, 1) := by decide +kernel
theorem dX9_offOf_42 : decode cX9_offOf 42 = .ok (.aload_n 0, 1) := by decide +kernel
theorem dX9_offOf_43 : decode cX9_offOf 43 = .ok (.getfield 74, 3) := by decide +kernel
theorem dX9_offOf_46 : decode cX9_offOf 46 = .ok (.iload 4, 2) := by decide +kernel
theorem dX9_offOf_48 : decode cX9_offOf 48 = .ok (.iaload, 1) := by decide +kernel
theorem dX9_offOf_49 : decode cX9_offOf 49 = .ok (.aload_n 0, 1) := by decide +kernel
theorem dX9_offOf_50 : decode cX9_offOf 50 = .ok (.getfield 77, 3) := by decide +kernel
theorem dX9_offOf_53 : decode cX9_offOf 53 = .ok (.iload 4, 2) := by decide +kernel
theorem dX9_offOf_55 : decode cX9_offOf 55 = .ok (.baload, 1) := by decide +kernel
theorem dX9_offOf_56 : decode cX9_offOf 56 = .ok (.invokestatic 190, 3) := by decide +kernel
theorem dX9_offOf_59 : decode cX9_offOf 59 = .ok (.isub, 1) := by decide +kernel
theorem dX9_offOf_60 : decode cX9_offOf 60 = .ok (.istore 5, 2) := by decide +kernel
theorem dX9_offOf_62 : decode cX9_offOf 62 = .ok (.iload_n 3, 1) := by decide +kernel
theorem dX9_offOf_63 : decode cX9_offOf 63 = .ok (.iload 5, 2) := by decide +kernel
theorem dX9_offOf_65 : decode cX9_offOf 65 = .ok (.iload 5, 2) := by decide +kernel
theorem dX9_offOf_67 : decode cX9_offOf 67 = .ok (.imul, 1) := by decide +kernel
theorem dX9_offOf_68 : decode cX9_offOf 68 = .ok (.iadd, 1) := by decide +kernel
theorem dX9_offOf_69 : decode cX9_offOf 69 = .ok (.istore_n 3, 1) := by decide +kernel
theorem dX9_offOf_70 : decode cX9_offOf 70 = .ok (.iinc 4 1, 3) := by decide +kernel
theorem dX9_offOf_73 : decode cX9_offOf 73 = .ok (.goto (-68), 3) := by decide +kernel
theorem dX9_offOf_76 : decode cX9_offOf 76 = .ok (.iload_n 3, 1) := by decide +kernel
theorem dX9_offOf_77 : decode cX9_offOf 77 = .ok (.ireturn, 1) := by decide +kernel
theorem dX9_off_0 : decode cX9_off 0 = .ok (.iload_n 1, 1) := by decide +kernel
theorem dX9_off_1 : decode cX9_off 1 = .ok (.invokestatic 164, 3) := by decide +kernel
theorem dX9_off_4 : decode cX9_off 4 = .ok (.ifCond .eq 19, 3) := by decide +kernel
theorem dX9_off_7 : decode cX9_off 7 = .ok (.iload_n 2, 1) := by decide +kernel
theorem dX9_off_8 : decode cX9_off 8 = .ok (.invokestatic 339, 3) := by decide +kernel
theorem dX9_off_11 : decode cX9_off 11 = .ok (.ifCond .eq 12, 3) := by decide +kernel
theorem dX9_off_14 : decode cX9_off 14 = .ok (.aload_n 0, 1) := by decide +kernel
theorem dX9_off_15 : decode cX9_off 15 = .ok (.iload_n 1, 1) := by decide +kernel
theorem dX9_off_16 : decode cX9_off 16 = .ok (.iload_n 2, 1) := by decide +kernel
theorem dX9_off_17 : decode cX9_off 17 = .ok (.invokevirtual 342, 3) := by decide +kernel
theorem dX9_off_20 : decode cX9_off 20 = .ok (.goto 5, 3) := by decide +kernel
theorem dX9_off_23 : decode cX9_off 23 = .ok (.bipush (-2), 2) := by decide +kernel
theorem dX9_off_25 : decode cX9_off 25 = .ok (.ireturn, 1) := by decide +kernel
theorem dX9_guessOf_0 : decode cX9_guessOf 0 = .ok (.iconst 0, 1) := by decide +kernel
theorem dX9_guessOf_1 : decode cX9_guessOf 1 = .ok (.istore_n 2, 1) := by decide +kernel
theorem dX9_guessOf_2 : decode cX9_guessOf 2 = .ok (.iconst 0, 1) := by decide +kernel
theorem dX9_guessOf_3 : decode cX9_guessOf 3 = .ok (.istore_n 3, 1) := by decide +kernel
theorem dX9_guessOf_4 : decode cX9_guessOf 4 = .ok (.iload_n 3, 1) := by decide +kernel
theorem dX9_guessOf_5 : decode cX9_guessOf 5 = .ok (.aload_n 0, 1) := by decide +kernel
theorem dX9_guessOf_6 : decode cX9_guessOf 6 = .ok (.getfield 332, 3) := by decide +kernel
theorem dX9_guessOf_9 : decode cX9_guessOf 9 = .ok (.if_icmp .ge 29, 3) := by decide +kernel
theorem dX9_guessOf_12 : decode cX9_guessOf 12 = .ok (.iload_n 2, 1) := by decide +kernel
theorem dX9_guessOf_13 : decode cX9_guessOf 13 = .ok (.ifCond .ne 13, 3) := by decide +kernel
theorem dX9_guessOf_16 : decode cX9_guessOf 16 = .ok (.aload_n 0, 1) := by decide +kernel
theorem dX9_guessOf_17 : decode cX9_guessOf 17 = .ok (.getfield 68, 3) := by decide +kernel
theorem dX9_guessOf_20 : decode cX9_guessOf 20 = .ok (.iload_n 3, 1) := by decide +kernel
theorem dX9_guessOf_21 : decode cX9_guessOf 21 = .ok (.iaload, 1) := by decide +kernel
theorem dX9_guessOf_22 : decode cX9_guessOf 22 = .ok (.iload_n 1, 1) := by decide +kernel
theorem dX9_guessOf_23 : decode cX9_guessOf 23 = .ok (.if_icmp .ne 7, 3) := by decide +kernel
theorem dX9_guessOf_26 : decode cX9_guessOf 26 = .ok (.iconst 1, 1) := by decide +kernel
theorem dX9_guessOf_27 : decode cX9_guessOf 27 = .ok (.goto 4, 3) := by decide +kernel
theorem dX9_guessOf_30 : decode cX9_guessOf 30 = .ok (.iconst 0, 1) := by decide +kernel
theorem dX9_guessOf_31 : decode cX9_guessOf 31 = .ok (.istore_n 2, 1) := by decide +kernel
theorem dX9_guessOf_32 : decode cX9_guessOf 32 = .ok (.iinc 3 1, 3) := by decide +kernel
theorem dX9_guessOf_35 : decode cX9_guessOf 35 = .ok (.goto (-31), 3) := by decide +kernel
theorem dX9_guessOf_38 : decode cX9_guessOf 38 = .ok (.iload_n 2, 1) := by decide +kernel
theorem dX9_guessOf_39 : decode cX9_guessOf 39 = .ok (.ifCond .ne 6, 3) := by decide +kernel
theorem dX9_guessOf_42 : decode cX9_guessOf 42 = .ok (.bipush (-3), 2) := by decide +kernel
theorem dX9_guessOf_44 : decode cX9_guessOf 44 = .ok (.ireturn, 1) := by decide +kernel
theorem dX9_guessOf_45 : decode cX9_guessOf 45 = .ok (.iconst 0, 1) := by decide +kernel
theorem dX9_guessOf_46 : decode cX9_guessOf 46 = .ok (.istore_n 3, 1) := by decide +kernel
theorem dX9_guessOf_47 : decode cX9_guessOf 47 = .ok (.iconst 1, 1) := by decide +kernel
theorem dX9_guessOf_48 : decode cX9_guessOf 48 = .ok (.istore 4, 2) := by decide +kernel
theorem dX9_guessOf_50 : decode cX9_guessOf 50 = .ok (.iload 4, 2) := by decide +kernel
theorem dX9_guessOf_52 : decode cX9_guessOf 52 = .ok (.bipush 10, 2) := by decide +kernel
theorem dX9_guessOf_54 : decode cX9_guessOf 54 = .ok (.if_icmp .ge 32, 3) := by decide +kernel
theorem dX9_guessOf_57 : decode cX9_guessOf 57 = .ok (.aload_n 0, 1) := by decide +kernel
theorem dX9_guessOf_58 : decode cX9_guessOf 58 = .ok (.iload_n 1, 1) := by decide +kernel
theorem dX9_guessOf_59 : decode cX9_guessOf 59 = .ok (.iload 4, 2) := by decide +kernel
theorem dX9_guessOf_61 : decode cX9_guessOf 61 = .ok (.invokevirtual 342, 3) := by decide +kernel
theorem dX9_guessOf_64 : decode cX9_guessOf 64 = .ok (.aload_n 0, 1) := by decide +kernel
theorem dX9_guessOf_65 : decode cX9_guessOf 65 = .ok (.iload_n 1, 1) := by decide +kernel
theorem dX9_guessOf_66 : decode cX9_guessOf 66 = .ok (.iload_n 3, 1) := by decide +kernel
theorem dX9_guessOf_67 : decode cX9_guessOf 67 = .ok (.invokevirtual 342, 3) := by decide +kernel
theorem dX9_guessOf_70 : decode cX9_guessOf 70 = .ok (.if_icmp .ge 8, 3) := by decide +kernel
theorem dX9_guessOf_73 : decode cX9_guessOf 73 = .ok (.iload 4, 2) := by decide +kernel
theorem dX9_guessOf_75 : decode cX9_guessOf 75 = .ok (.goto 4, 3) := by decide +kernel
theorem dX9_guessOf_78 : decode cX9_guessOf 78 = .ok (.iload_n 3, 1) := by decide +kernel
theorem dX9_guessOf_79 : decode cX9_guessOf 79 = .ok (.istore_n 3, 1) := by decide +kernel
theorem dX9_guessOf_80 : decode cX9_guessOf 80 = .ok (.iinc 4 1, 3) := by decide +kernel
theorem dX9_guessOf_83 : decode cX9_guessOf 83 = .ok (.goto (-33), 3) := by decide +kernel
theorem dX9_guessOf_86 : decode cX9_guessOf 86 = .ok (.iload_n 3, 1) := by decide +kernel
theorem dX9_guessOf_87 : decode cX9_guessOf 87 = .ok (.ireturn, 1) := by decide +kernel
theorem dX9_guess_0 : decode cX9_guess 0 = .ok (.iload_n 1, 1) := by decide +kernel
theorem dX9_guess_1 : decode cX9_guess 1 = .ok (.invokestatic 164, 3) := by decide +kernel
theorem dX9_guess_4 : decode cX9_guess 4 = .ok (.ifCond .eq 11, 3) := by decide +kernel
theorem dX9_guess_7 : decode cX9_guess 7 = .ok (.aload_n 0, 1) := by decide +kernel
theorem dX9_guess_8 : decode cX9_guess 8 = .ok (.iload_n 1, 1) := by decide +kernel
theorem dX9_guess_9 : decode cX9_guess 9 = .ok (.invokevirtual 345, 3) := by decide +kernel
theorem dX9_guess_12 : decode cX9_guess 12 = .ok (.goto 5, 3) := by decide +kernel
theorem dX9_guess_15 : decode cX9_guess 15 = .ok (.bipush (-2), 2) := by decide +kernel
theorem dX9_guess_17 : decode cX9_guess 17 = .ok (.ireturn, 1) := by decide +kernel
theorem dX9_laughs_0 : decode cX9_laughs 0 = .ok (.iload_n 1, 1) := by decide +kernel
theorem dX9_laughs_1 : decode cX9_laughs 1 = .ok (.invokestatic 164, 3) := by decide +kernel
theorem dX9_laughs_4 : decode cX9_laughs 4 = .ok (.ifCond .eq 22, 3) := by decide +kernel
theorem dX9_laughs_7 : decode cX9_laughs 7 = .ok (.iload_n 2, 1) := by decide +kernel
theorem dX9_laughs_8 : decode cX9_laughs 8 = .ok (.i2l, 1) := by decide +kernel
theorem dX9_laughs_9 : decode cX9_laughs 9 = .ok (.lconst 0, 1) := by decide +kernel
theorem dX9_laughs_10 : decode cX9_laughs 10 = .ok (.ldc2_w 300, 3) := by decide +kernel
theorem dX9_laughs_13 : decode cX9_laughs 13 = .ok (.invokestatic 89, 3) := by decide +kernel
theorem dX9_laughs_16 : decode cX9_laughs 16 = .ok (.ifCond .eq 10, 3) := by decide +kernel
theorem dX9_laughs_19 : decode cX9_laughs 19 = .ok (.iload_n 3, 1) := by decide +kernel
theorem dX9_laughs_20 : decode cX9_laughs 20 = .ok (.invokestatic 244, 3) := by decide +kernel
theorem dX9_laughs_23 : decode cX9_laughs 23 = .ok (.ifCond .ne 6, 3) := by decide +kernel
theorem dX9_laughs_26 : decode cX9_laughs 26 = .ok (.bipush (-2), 2) := by decide +kernel
theorem dX9_laughs_28 : decode cX9_laughs 28 = .ok (.ireturn, 1) := by decide +kernel
theorem dX9_laughs_29 : decode cX9_laughs 29 = .ok (.iconst 0, 1) := by decide +kernel
theorem dX9_laughs_30 : decode cX9_laughs 30 = .ok (.istore 4, 2) := by decide +kernel
theorem dX9_laughs_32 : decode cX9_laughs 32 = .ok (.iconst 0, 1) := by decide +kernel
theorem dX9_laughs_33 : decode cX9_laughs 33 = .ok (.istore 5, 2) := by decide +kernel
theorem dX9_laughs_35 : decode cX9_laughs 35 = .ok (.iload 5, 2) := by decide +kernel
theorem dX9_laughs_37 : decode cX9_laughs 37 = .ok (.aload_n 0, 1) := by decide +kernel
theorem dX9_laughs_38 : decode cX9_laughs 38 = .ok (.getfield 332, 3) := by decide +kernel
theorem dX9_laughs_41 : decode cX9_laughs 41 = .ok (.if_icmp .ge 55, 3) := by decide +kernel
theorem dX9_laughs_44 : decode cX9_laughs 44 = .ok (.iload 4, 2) := by decide +kernel
theorem dX9_laughs_46 : decode cX9_laughs 46 = .ok (.aload_n 0, 1) := by decide +kernel
theorem dX9_laughs_47 : decode cX9_laughs 47 = .ok (.getfield 68, 3) := by decide +kernel
theorem dX9_laughs_50 : decode cX9_laughs 50 = .ok (.iload 5, 2) := by decide +kernel
theorem dX9_laughs_52 : decode cX9_laughs 52 = .ok (.iaload, 1) := by decide +kernel
theorem dX9_laughs_53 : decode cX9_laughs 53 = .ok (.iload_n 1, 1) := by decide +kernel
theorem dX9_laughs_54 : decode cX9_laughs 54 = .ok (.if_icmp .ne 32, 3) := by decide +kernel
theorem dX9_laughs_57 : decode cX9_laughs 57 = .ok (.aload_n 0, 1) := by decide +kernel
theorem dX9_laughs_58 : decode cX9_laughs 58 = .ok (.getfield 71, 3) := by decide +kernel
theorem dX9_laughs_61 : decode cX9_laughs 61 = .ok (.iload 5, 2) := by decide +kernel
theorem dX9_laughs_63 : decode cX9_laughs 63 = .ok (.iaload, 1) := by decide +kernel
theorem dX9_laughs_64 : decode cX9_laughs 64 = .ok (.iload_n 2, 1) := by decide +kernel
theorem dX9_laughs_65 : decode cX9_laughs 65 = .ok (.if_icmp .ne 21, 3) := by decide +kernel
theorem dX9_laughs_68 : decode cX9_laughs 68 = .ok (.iload_n 3, 1) := by decide +kernel
theorem dX9_laughs_69 : decode cX9_laughs 69 = .ok (.ifCond .ne 7, 3) := by decide +kernel
theorem dX9_laughs_72 : decode cX9_laughs 72 = .ok (.iconst 1, 1) := by decide +kernel
theorem dX9_laughs_73 : decode cX9_laughs 73 = .ok (.goto 14, 3) := by decide +kernel
theorem dX9_laughs_76 : decode cX9_laughs 76 = .ok (.aload_n 0, 1) := by decide +kernel
theorem dX9_laughs_77 : decode cX9_laughs 77 = .ok (.getfield 81, 3) := by decide +kernel
theorem dX9_laughs_80 : decode cX9_laughs 80 = .ok (.iload 5, 2) := by decide +kernel
theorem dX9_laughs_82 : decode cX9_laughs 82 = .ok (.iaload, 1) := by decide +kernel
theorem dX9_laughs_83 : decode cX9_laughs 83 = .ok (.goto 4, 3) := by decide +kernel
theorem dX9_laughs_86 : decode cX9_laughs 86 = .ok (.iconst 0, 1) := by decide +kernel
theorem dX9_laughs_87 : decode cX9_laughs 87 = .ok (.iadd, 1) := by decide +kernel
theorem dX9_laughs_88 : decode cX9_laughs 88 = .ok (.istore 4, 2) := by decide +kernel
theorem dX9_laughs_90 : decode cX9_laughs 90 = .ok (.iinc 5 1, 3) := by decide +kernel
theorem dX9_laughs_93 : decode cX9_laughs 93 = .ok (.goto (-58), 3) := by decide +kernel
theorem dX9_laughs_96 : decode cX9_laughs 96 = .ok (.iload 4, 2) := by decide +kernel
theorem dX9_laughs_98 : decode cX9_laughs 98 = .ok (.ireturn, 1) := by decide +kernel
theorem dX9_write_0 : decode cX9_write 0 = .ok (.aload_n 0, 1) := by decide +kernel
theorem dX9_write_1 : decode cX9_write 1 = .ok (.iload_n 1, 1) := by decide +kernel
theorem dX9_write_2 : decode cX9_write 2 = .ok (.invokevirtual 158, 3) := by decide +kernel
theorem dX9_write_5 : decode cX9_write 5 = .ok (.ifCond .eq 10, 3) := by decide +kernel
theorem dX9_write_8 : decode cX9_write 8 = .ok (.iload_n 2, 1) := by decide +kernel
theorem dX9_write_9 : decode cX9_write 9 = .ok (.invokestatic 99, 3) := by decide +kernel
theorem dX9_write_12 : decode cX9_write 12 = .ok (.ifCond .ne 6, 3) := by decide +kernel
theorem dX9_write_15 : decode cX9_write 15 = .ok (.bipush (-2), 2) := by decide +kernel
theorem dX9_write_17 : decode cX9_write 17 = .ok (.ireturn, 1) := by decide +kernel
theorem dX9_write_18 : decode cX9_write 18 = .ok (.aload_n 0, 1) := by decide +kernel
theorem dX9_write_19 : decode cX9_write 19 = .ok (.getfield 7, 3) := by decide +kernel
theorem dX9_write_22 : decode cX9_write 22 = .ok (.iload_n 2, 1) := by decide +kernel
theorem dX9_write_23 : decode cX9_write 23 = .ok (.iaload, 1) := by decide +kernel
theorem dX9_write_24 : decode cX9_write 24 = .ok (.ifCond .ge 9, 3) := by decide +kernel
theorem dX9_write_27 : decode cX9_write 27 = .ok (.aload_n 0, 1) := by decide +kernel
theorem dX9_write_28 : decode cX9_write 28 = .ok (.iconst 1, 1) := by decide +kernel
theorem dX9_write_29 : decode cX9_write 29 = .ok (.invokevirtual 105, 3) := by decide +kernel
theorem dX9_write_32 : decode cX9_write 32 = .ok (.ireturn, 1) := by decide +kernel
theorem dX9_write_33 : decode cX9_write 33 = .ok (.aload_n 0, 1) := by decide +kernel
theorem dX9_write_34 : decode cX9_write 34 = .ok (.invokevirtual 194, 3) := by decide +kernel
theorem dX9_write_37 : decode cX9_write 37 = .ok (.aload_n 0, 1) := by decide +kernel
theorem dX9_write_38 : decode cX9_write 38 = .ok (.getfield 13, 3) := by decide +kernel
theorem dX9_write_41 : decode cX9_write 41 = .ok (.iload_n 2, 1) := by decide +kernel
theorem dX9_write_42 : decode cX9_write 42 = .ok (.iaload, 1) := by decide +kernel
theorem dX9_write_43 : decode cX9_write 43 = .ok (.aload_n 0, 1) := by decide +kernel
theorem dX9_write_44 : decode cX9_write 44 = .ok (.getfield 129, 3) := by decide +kernel
theorem dX9_write_47 : decode cX9_write 47 = .ok (.if_icmp .ge 12, 3) := by decide +kernel
theorem dX9_write_50 : decode cX9_write 50 = .ok (.aload_n 0, 1) := by decide +kernel
theorem dX9_write_51 : decode cX9_write 51 = .ok (.getfield 13, 3) := by decide +kernel
theorem dX9_write_54 : decode cX9_write 54 = .ok (.iload_n 2, 1) := by decide +kernel
theorem dX9_write_55 : decode cX9_write 55 = .ok (.iaload, 1) := by decide +kernel
theorem dX9_write_56 : decode cX9_write 56 = .ok (.goto 7, 3) := by decide +kernel
theorem dX9_write_59 : decode cX9_write 59 = .ok (.aload_n 0, 1) := by decide +kernel
theorem dX9_write_60 : decode cX9_write 60 = .ok (.getfield 129, 3) := by decide +kernel
theorem dX9_write_63 : decode cX9_write 63 = .ok (.istore_n 3, 1) := by decide +kernel
theorem dX9_write_64 : decode cX9_write 64 = .ok (.iconst 0, 1) := by decide +kernel
theorem dX9_write_65 : decode cX9_write 65 = .ok (.istore 4, 2) := by decide +kernel
theorem dX9_write_67 : decode cX9_write 67 = .ok (.iload 4, 2) := by decide +kernel
theorem dX9_write_69 : decode cX9_write 69 = .ok (.iload_n 3, 1) := by decide +kernel
theorem dX9_write_70 : decode cX9_write 70 = .ok (.if_icmp .ge 37, 3) := by decide +kernel
theorem dX9_write_73 : decode cX9_write 73 = .ok (.aload_n 0, 1) := by decide +kernel
theorem dX9_write_74 : decode cX9_write 74 = .ok (.getfield 16, 3) := by decide +kernel
theorem dX9_write_77 : decode cX9_write 77 = .ok (.bipush 60, 2) := by decide +kernel
theorem dX9_write_79 : decode cX9_write 79 = .ok (.iload_n 2, 1) := by decide +kernel
theorem dX9_write_80 : decode cX9_write 80 = .ok (.imul, 1) := by decide +kernel
theorem dX9_write_81 : decode cX9_write 81 = .ok (.iload 4, 2) := by decide +kernel
theorem dX9_write_83 : decode cX9_write 83 = .ok (.iadd, 1) := by decide +kernel
theorem dX9_write_84 : decode cX9_write 84 = .ok (.aload_n 0, 1) := by decide +kernel
theorem dX9_write_85 : decode cX9_write 85 = .ok (.getfield 7, 3) := by decide +kernel
theorem dX9_write_88 : decode cX9_write 88 = .ok (.iload_n 2, 1) := by decide +kernel
theorem dX9_write_89 : decode cX9_write 89 = .ok (.iaload, 1) := by decide +kernel
theorem dX9_write_90 : decode cX9_write 90 = .ok (.aload_n 0, 1) := by decide +kernel
theorem dX9_write_91 : decode cX9_write 91 = .ok (.iload_n 1, 1) := by decide +kernel
theorem dX9_write_92 : decode cX9_write 92 = .ok (.iload 4, 2) := by decide +kernel
theorem dX9_write_94 : decode cX9_write 94 = .ok (.invokevirtual 197, 3) := by decide +kernel
theorem dX9_write_97 : decode cX9_write 97 = .ok (.invokestatic 113, 3) := by decide +kernel
theorem dX9_write_100 : decode cX9_write 100 = .ok (.iastore, 1) := by decide +kernel
theorem dX9_write_101 : decode cX9_write 101 = .ok (.iinc 4 1, 3) := by decide +kernel
theorem dX9_write_104 : decode cX9_write 104 = .ok (.goto (-37), 3) := by decide +kernel
theorem dX9_write_107 : decode cX9_write 107 = .ok (.iload_n 3, 1) := by decide +kernel
theorem dX9_write_108 : decode cX9_write 108 = .ok (.ireturn, 1) := by decide +kernel
theorem dX9_count_0 : decode cX9_count 0 = .ok (.iconst 0, 1) := by decide +kernel
theorem dX9_count_1 : decode cX9_count 1 = .ok (.istore_n 2, 1) := by decide +kernel
theorem dX9_count_2 : decode cX9_count 2 = .ok (.aload_n 0, 1) := by decide +kernel
theorem dX9_count_3 : decode cX9_count 3 = .ok (.invokevirtual 155, 3) := by decide +kernel
theorem dX9_count_6 : decode cX9_count 6 = .ok (.pop, 1) := by decide +kernel
theorem dX9_count_7 : decode cX9_count 7 = .ok (.iload_n 1, 1) := by decide +kernel
theorem dX9_count_8 : decode cX9_count 8 = .ok (.tableswitch 167 0 8 #[52, 57, 62, 67, 94, 99, 126, 131, 162], 52) := by decide +kernel
theorem dX9_count_60 : decode cX9_count 60 = .ok (.aload_n 0, 1) := by decide +kernel
theorem dX9_count_61 : decode cX9_count 61 = .ok (.getfield 126, 3) := by decide +kernel
theorem dX9_count_64 : decode cX9_count 64 = .ok (.ireturn, 1) := by decide +kernel
theorem dX9_count_65 : decode cX9_count 65 = .ok (.aload_n 0, 1) := by decide +kernel
theorem dX9_count_66 : decode cX9_count 66 = .ok (.getfield 129, 3) := by decide +kernel
theorem dX9_count_69 : decode cX9_count 69 = .ok (.ireturn, 1) := by decide +kernel
theorem dX9_count_70 : decode cX9_count 70 = .ok (.aload_n 0, 1) := by decide +kernel
theorem dX9_count_71 : decode cX9_count 71 = .ok (.getfield 120, 3) := by decide +kernel
theorem dX9_count_74 : decode cX9_count 74 = .ok (.ireturn, 1) := by decide +kernel
theorem dX9_count_75 : decode cX9_count 75 = .ok (.iconst 0, 1) := by decide +kernel
theorem dX9_count_76 : decode cX9_count 76 = .ok (.istore_n 3, 1) := by decide +kernel
theorem dX9_count_77 : decode cX9_count 77 = .ok (.iload_n 3, 1) := by decide +kernel
theorem dX9_count_78 : decode cX9_count 78 = .ok (.aload_n 0, 1) := by decide +kernel
theorem dX9_count_79 : decode cX9_count 79 = .ok (.getfield 129, 3) := by decide +kernel
theorem dX9_count_82 : decode cX9_count 82 = .ok (.if_icmp .ge 18, 3) := by decide +kernel
theorem dX9_count_85 : decode cX9_count 85 = .ok (.iload_n 2, 1) := by decide +kernel
theorem dX9_count_86 : decode cX9_count 86 = .ok (.aload_n 0, 1) := by decide +kernel
theorem dX9_count_87 : decode cX9_count 87 = .ok (.getfield 28, 3) := by decide +kernel
theorem dX9_count_90 : decode cX9_count 90 = .ok (.iload_n 3, 1) := by decide +kernel
theorem dX9_count_91 : decode cX9_count 91 = .ok (.iaload, 1) := by decide +kernel
theorem dX9_count_92 : decode cX9_count 92 = .ok (.iadd, 1) := by decide +kernel
theorem dX9_count_93 : decode cX9_count 93 = .ok (.istore_n 2, 1) := by decide +kernel
theorem dX9_count_94 : decode cX9_count 94 = .ok (.iinc 3 1, 3) := by decide +kernel
theorem dX9_count_97 : decode cX9_count 97 = .ok (.goto (-20), 3) := by decide +kernel
theorem dX9_count_100 : decode cX9_count 100 = .ok (.iload_n 2, 1) := by decide +kernel
theorem dX9_count_101 : decode cX9_count 101 = .ok (.ireturn, 1) := by decide +kernel
theorem dX9_count_102 : decode cX9_count 102 = .ok (.aload_n 0, 1) := by decide +kernel
theorem dX9_count_103 : decode cX9_count 103 = .ok (.getfield 332, 3) := by decide +kernel
theorem dX9_count_106 : decode cX9_count 106 = .ok (.ireturn, 1) := by decide +kernel
theorem dX9_count_107 : decode cX9_count 107 = .ok (.iconst 0, 1) := by decide +kernel
theorem dX9_count_108 : decode cX9_count 108 = .ok (.istore_n 3, 1) := by decide +kernel
theorem dX9_count_109 : decode cX9_count 109 = .ok (.iload_n 3, 1) := by decide +kernel
theorem dX9_count_110 : decode cX9_count 110 = .ok (.aload_n 0, 1) := by decide +kernel
theorem dX9_count_111 : decode cX9_count 111 = .ok (.getfield 332, 3) := by decide +kernel
theorem dX9_count_114 : decode cX9_count 114 = .ok (.if_icmp .ge 18, 3) := by decide +kernel
theorem dX9_count_117 : decode cX9_count 117 = .ok (.iload_n 2, 1) := by decide +kernel
theorem dX9_count_118 : decode cX9_count 118 = .ok (.aload_n 0, 1) := by decide +kernel
theorem dX9_count_119 : decode cX9_count 119 = .ok (.getfield 81, 3) := by decide +kernel
theorem dX9_count_122 : decode cX9_count 122 = .ok (.iload_n 3, 1) := by decide +kernel
theorem dX9_count_123 : decode cX9_count 123 = .ok (.iaload, 1) := by decide +kernel
theorem dX9_count_124 : decode cX9_count 124 = .ok (.iadd, 1) := by decide +kernel
theorem dX9_count_125 : decode cX9_count 125 = .ok (.istore_n 2, 1) := by decide +kernel
theorem dX9_count_126 : decode cX9_count 126 = .ok (.iinc 3 1, 3) := by decide +kernel
theorem dX9_count_129 : decode cX9_count 129 = .ok (.goto (-20), 3) := by decide +kernel
theorem dX9_count_132 : decode cX9_count 132 = .ok (.iload_n 2, 1) := by decide +kernel
theorem dX9_count_133 : decode cX9_count 133 = .ok (.ireturn, 1) := by decide +kernel
theorem dX9_count_134 : decode cX9_count 134 = .ok (.aload_n 0, 1) := by decide +kernel
theorem dX9_count_135 : decode cX9_count 135 = .ok (.invokevirtual 308, 3) := by decide +kernel
theorem dX9_count_138 : decode cX9_count 138 = .ok (.ireturn, 1) := by decide +kernel
theorem dX9_count_139 : decode cX9_count 139 = .ok (.iconst 0, 1) := by decide +kernel
theorem dX9_count_140 : decode cX9_count 140 = .ok (.istore_n 3, 1) := by decide +kernel
theorem dX9_count_141 : decode cX9_count 141 = .ok (.iload_n 3, 1) := by decide +kernel
theorem dX9_count_142 : decode cX9_count 142 = .ok (.aload_n 0, 1) := by decide +kernel
theorem dX9_count_143 : decode cX9_count 143 = .ok (.getfield 126, 3) := by decide +kernel
theorem dX9_count_146 : decode cX9_count 146 = .ok (.if_icmp .ge 22, 3) := by decide +kernel
theorem dX9_count_149 : decode cX9_count 149 = .ok (.iload_n 2, 1) := by decide +kernel
theorem dX9_count_150 : decode cX9_count 150 = .ok (.aload_n 0, 1) := by decide +kernel
theorem dX9_count_151 : decode cX9_count 151 = .ok (.getfield 25, 3) := by decide +kernel
theorem dX9_count_154 : decode cX9_count 154 = .ok (.iconst 4, 1) := by decide +kernel
theorem dX9_count_155 : decode cX9_count 155 = .ok (.iload_n 3, 1) := by decide +kernel
theorem dX9_count_156 : decode cX9_count 156 = .ok (.imul, 1) := by decide +kernel
theorem dX9_count_157 : decode cX9_count 157 = .ok (.iconst 3, 1) := by decide +kernel
theorem dX9_count_158 : decode cX9_count 158 = .ok (.iadd, 1) := by decide +kernel
theorem dX9_count_159 : decode cX9_count 159 = .ok (.iaload, 1) := by decide +kernel
theorem dX9_count_160 : decode cX9_count 160 = .ok (.iadd, 1) := by decide +kernel
theorem dX9_count_161 : decode cX9_count 161 = .ok (.istore_n 2, 1) := by decide +kernel
theorem dX9_count_162 : decode cX9_count 162 = .ok (.iinc 3 1, 3) := by decide +kernel
theorem dX9_count_165 : decode cX9_count 165 = .ok (.goto (-24), 3) := by decide +kernel
theorem dX9_count_168 : decode cX9_count 168 = .ok (.iload_n 2, 1) := by decide +kernel
theorem dX9_count_169 : decode cX9_count 169 = .ok (.ireturn, 1) := by decide +kernel
theorem dX9_count_170 : decode cX9_count 170 = .ok (.aload_n 0, 1) := by decide +kernel
theorem dX9_count_171 : decode cX9_count 171 = .ok (.getfield 93, 3) := by decide +kernel
theorem dX9_count_174 : decode cX9_count 174 = .ok (.ireturn, 1) := by decide +kernel
theorem dX9_count_175 : decode cX9_count 175 = .ok (.bipush (-2), 2) := by decide +kernel
theorem dX9_count_177 : decode cX9_count 177 = .ok (.ireturn, 1) := by decide +kernel
theorem dX9_digest_0 : decode cX9_digest 0 = .ok (.ldc2_w 348, 3) := by decide +kernel
theorem dX9_digest_3 : decode cX9_digest 3 = .ok (.lstore_n 1, 1) := by decide +kernel
theorem dX9_digest_4 : decode cX9_digest 4 = .ok (.iconst 0, 1) := by decide +kernel
theorem dX9_digest_5 : decode cX9_digest 5 = .ok (.istore_n 3, 1) := by decide +kernel
theorem dX9_digest_6 : decode cX9_digest 6 = .ok (.iload_n 3, 1) := by decide +kernel
theorem dX9_digest_7 : decode cX9_digest 7 = .ok (.bipush 8, 2) := by decide +kernel
theorem dX9_digest_9 : decode cX9_digest 9 = .ok (.if_icmp .ge 22, 3) := by decide +kernel
theorem dX9_digest_12 : decode cX9_digest 12 = .ok (.ldc2_w 350, 3) := by decide +kernel
theorem dX9_digest_15 : decode cX9_digest 15 = .ok (.lload_n 1, 1) := by decide +kernel
theorem dX9_digest_16 : decode cX9_digest 16 = .ok (.lmul, 1) := by decide +kernel
theorem dX9_digest_17 : decode cX9_digest 17 = .ok (.aload_n 0, 1) := by decide +kernel
theorem dX9_digest_18 : decode cX9_digest 18 = .ok (.iload_n 3, 1) := by decide +kernel
theorem dX9_digest_19 : decode cX9_digest 19 = .ok (.invokevirtual 352, 3) := by decide +kernel
theorem dX9_digest_22 : decode cX9_digest 22 = .ok (.i2l, 1) := by decide +kernel
theorem dX9_digest_23 : decode cX9_digest 23 = .ok (.ladd, 1) := by decide +kernel
theorem dX9_digest_24 : decode cX9_digest 24 = .ok (.lstore_n 1, 1) := by decide +kernel
theorem dX9_digest_25 : decode cX9_digest 25 = .ok (.iinc 3 1, 3) := by decide +kernel
theorem dX9_digest_28 : decode cX9_digest 28 = .ok (.goto (-22), 3) := by decide +kernel
theorem dX9_digest_31 : decode cX9_digest 31 = .ok (.ldc2_w 350, 3) := by decide +kernel
theorem dX9_digest_34 : decode cX9_digest 34 = .ok (.lload_n 1, 1) := by decide +kernel
theorem dX9_digest_35 : decode cX9_digest 35 = .ok (.lmul, 1) := by decide +kernel
theorem dX9_digest_36 : decode cX9_digest 36 = .ok (.aload_n 0, 1) := by decide +kernel
theorem dX9_digest_37 : decode cX9_digest 37 = .ok (.invokevirtual 155, 3) := by decide +kernel
theorem dX9_digest_40 : decode cX9_digest 40 = .ok (.i2l, 1) := by decide +kernel
theorem dX9_digest_41 : decode cX9_digest 41 = .ok (.ladd, 1) := by decide +kernel
theorem dX9_digest_42 : decode cX9_digest 42 = .ok (.lstore_n 1, 1) := by decide +kernel
theorem dX9_digest_43 : decode cX9_digest 43 = .ok (.iconst 0, 1) := by decide +kernel
theorem dX9_digest_44 : decode cX9_digest 44 = .ok (.istore_n 3, 1) := by decide +kernel
theorem dX9_digest_45 : decode cX9_digest 45 = .ok (.iload_n 3, 1) := by decide +kernel
theorem dX9_digest_46 : decode cX9_digest 46 = .ok (.iconst 3, 1) := by decide +kernel
theorem dX9_digest_47 : decode cX9_digest 47 = .ok (.if_icmp .ge 22, 3) := by decide +kernel
theorem dX9_digest_50 : decode cX9_digest 50 = .ok (.ldc2_w 350, 3) := by decide +kernel
theorem dX9_digest_53 : decode cX9_digest 53 = .ok (.lload_n 1, 1) := by decide +kernel
theorem dX9_digest_54 : decode cX9_digest 54 = .ok (.lmul, 1) := by decide +kernel
theorem dX9_digest_55 : decode cX9_digest 55 = .ok (.aload_n 0, 1) := by decide +kernel
theorem dX9_digest_56 : decode cX9_digest 56 = .ok (.iload_n 3, 1) := by decide +kernel
theorem dX9_digest_57 : decode cX9_digest 57 = .ok (.invokevirtual 161, 3) := by decide +kernel
theorem dX9_digest_60 : decode cX9_digest 60 = .ok (.i2l, 1) := by decide +kernel
theorem dX9_digest_61 : decode cX9_digest 61 = .ok (.ladd, 1) := by decide +kernel
theorem dX9_digest_62 : decode cX9_digest 62 = .ok (.lstore_n 1, 1) := by decide +kernel
theorem dX9_digest_63 : decode cX9_digest 63 = .ok (.iinc 3 1, 3) := by decide +kernel
theorem dX9_digest_66 : decode cX9_digest 66 = .ok (.goto (-21), 3) := by decide +kernel
theorem dX9_digest_69 : decode cX9_digest 69 = .ok (.aload_n 0, 1) := by decide +kernel
theorem dX9_digest_70 : decode cX9_digest 70 = .ok (.invokevirtual 285, 3) := by decide +kernel
theorem dX9_digest_73 : decode cX9_digest 73 = .ok (.istore_n 3, 1) := by decide +kernel
theorem dX9_digest_74 : decode cX9_digest 74 = .ok (.iconst 0, 1) := by decide +kernel
theorem dX9_digest_75 : decode cX9_digest 75 = .ok (.istore 4, 2) := by decide +kernel
theorem dX9_digest_77 : decode cX9_digest 77 = .ok (.iload 4, 2) := by decide +kernel
theorem dX9_digest_79 : decode cX9_digest 79 = .ok (.aload_n 0, 1) := by decide +kernel
theorem dX9_digest_80 : decode cX9_digest 80 = .ok (.getfield 126, 3) := by decide +kernel
theorem dX9_digest_83 : decode cX9_digest 83 = .ok (.if_icmp .ge 43, 3) := by decide +kernel
theorem dX9_digest_86 : decode cX9_digest 86 = .ok (.aload_n 0, 1) := by decide +kernel
theorem dX9_digest_87 : decode cX9_digest 87 = .ok (.getfield 84, 3) := by decide +kernel
theorem dX9_digest_90 : decode cX9_digest 90 = .ok (.iconst 2, 1) := by decide +kernel
theorem dX9_digest_91 : decode cX9_digest 91 = .ok (.iload 4, 2) := by decide +kernel
theorem dX9_digest_93 : decode cX9_digest 93 = .ok (.imul, 1) := by decide +kernel
theorem dX9_digest_94 : decode cX9_digest 94 = .ok (.aload_n 0, 1) := by decide +kernel
theorem dX9_digest_95 : decode cX9_digest 95 = .ok (.getfield 40, 3) := by decide +kernel
theorem dX9_digest_98 : decode cX9_digest 98 = .ok (.iload 4, 2) := by decide +kernel
theorem dX9_digest_100 : decode cX9_digest 100 = .ok (.iaload, 1) := by decide +kernel
theorem dX9_digest_101 : decode cX9_digest 101 = .ok (.iastore, 1) := by decide +kernel
theorem dX9_digest_102 : decode cX9_digest 102 = .ok (.aload_n 0, 1) := by decide +kernel
theorem dX9_digest_103 : decode cX9_digest 103 = .ok (.getfield 84, 3) := by decide +kernel
theorem dX9_digest_106 : decode cX9_digest 106 = .ok (.iconst 2, 1) := by decide +kernel
theorem dX9_digest_107 : decode cX9_digest 107 = .ok (.iload 4, 2) := by decide +kernel
theorem dX9_digest_109 : decode cX9_digest 109 = .ok (.imul, 1) := by decide +kernel
theorem dX9_digest_110 : decode cX9_digest 110 = .ok (.iconst 1, 1) := by decide +kernel
theorem dX9_digest_111 : decode cX9_digest 111 = .ok (.iadd, 1) := by decide +kernel
theorem dX9_digest_112 : decode cX9_digest 112 = .ok (.aload_n 0, 1) := by decide +kernel
theorem dX9_digest_113 : decode cX9_digest 113 = .ok (.getfield 43, 3) := by decide +kernel
theorem dX9_digest_116 : decode cX9_digest 116 = .ok (.iload 4, 2) := by decide +kernel
theorem dX9_digest_118 : decode cX9_digest 118 = .ok (.iaload, 1) := by decide +kernel
theorem dX9_digest_119 : decode cX9_digest 119 = .ok (.iastore, 1) := by decide +kernel
theorem dX9_digest_120 : decode cX9_digest 120 = .ok (.iinc 4 1, 3) := by decide +kernel
theorem dX9_digest_123 : decode cX9_digest 123 = .ok (.goto (-46), 3) := by decide +kernel
theorem dX9_digest_126 : decode cX9_digest 126 = .ok (.iconst 0, 1) := by decide +kernel
theorem dX9_digest_127 : decode cX9_digest 127 = .ok (.istore 4, 2) := by decide +kernel
theorem dX9_digest_129 : decode cX9_digest 129 = .ok (.iload 4, 2) := by decide +kernel
theorem dX9_digest_131 : decode cX9_digest 131 = .ok (.aload_n 0, 1) := by decide +kernel
theorem dX9_digest_132 : decode cX9_digest 132 = .ok (.getfield 126, 3) := by decide +kernel
theorem dX9_digest_135 : decode cX9_digest 135 = .ok (.if_icmp .ge 344, 3) := by decide +kernel
theorem dX9_digest_138 : decode cX9_digest 138 = .ok (.iconst 0, 1) := by decide +kernel
theorem dX9_digest_139 : decode cX9_digest 139 = .ok (.istore 5, 2) := by decide +kernel
theorem dX9_digest_141 : decode cX9_digest 141 = .ok (.iload 5, 2) := by decide +kernel
theorem dX9_digest_143 : decode cX9_digest 143 = .ok (.aload_n 0, 1) := by decide +kernel
theorem dX9_digest_144 : decode cX9_digest 144 = .ok (.getfield 129, 3) := by decide +kernel
theorem dX9_digest_147 : decode cX9_digest 147 = .ok (.if_icmp .ge 25, 3) := by decide +kernel
theorem dX9_digest_150 : decode cX9_digest 150 = .ok (.ldc2_w 350, 3) := by decide +kernel
theorem dX9_digest_153 : decode cX9_digest 153 = .ok (.lload_n 1, 1) := by decide +kernel
theorem dX9_digest_154 : decode cX9_digest 154 = .ok (.lmul, 1) := by decide +kernel
theorem dX9_digest_155 : decode cX9_digest 155 = .ok (.aload_n 0, 1) := by decide +kernel
theorem dX9_digest_156 : decode cX9_digest 156 = .ok (.iload 4, 2) := by decide +kernel
theorem dX9_digest_158 : decode cX9_digest 158 = .ok (.iload 5, 2) := by decide +kernel
theorem dX9_digest_160 : decode cX9_digest 160 = .ok (.invokevirtual 200, 3) := by decide +kernel
theorem dX9_digest_163 : decode cX9_digest 163 = .ok (.i2l, 1) := by decide +kernel
theorem dX9_digest_164 : decode cX9_digest 164 = .ok (.ladd, 1) := by decide +kernel
theorem dX9_digest_165 : decode cX9_digest 165 = .ok (.lstore_n 1, 1) := by decide +kernel
theorem dX9_digest_166 : decode cX9_digest 166 = .ok (.iinc 5 1, 3) := by decide +kernel
theorem dX9_digest_169 : decode cX9_digest 169 = .ok (.goto (-28), 3) := by decide +kernel
theorem dX9_digest_172 : decode cX9_digest 172 = .ok (.iconst 0, 1) := by decide +kernel
theorem dX9_digest_173 : decode cX9_digest 173 = .ok (.istore 5, 2) := by decide +kernel
theorem dX9_digest_175 : decode cX9_digest 175 = .ok (.iload 5, 2) := by decide +kernel
theorem dX9_digest_177 : decode cX9_digest 177 = .ok (.iconst 2, 1) := by decide +kernel
theorem dX9_digest_178 : decode cX9_digest 178 = .ok (.if_icmp .ge 28, 3) := by decide +kernel
theorem dX9_digest_181 : decode cX9_digest 181 = .ok (.ldc2_w 350, 3) := by decide +kernel
theorem dX9_digest_184 : decode cX9_digest 184 = .ok (.lload_n 1, 1) := by decide +kernel
theorem dX9_digest_185 : decode cX9_digest 185 = .ok (.lmul, 1) := by decide +kernel
theorem dX9_digest_186 : decode cX9_digest 186 = .ok (.aload_n 0, 1) := by decide +kernel
theorem dX9_digest_187 : decode cX9_digest 187 = .ok (.iload 4, 2) := by decide +kernel
theorem dX9_digest_189 : decode cX9_digest 189 = .ok (.aload_n 0, 1) := by decide +kernel
theorem dX9_digest_190 : decode cX9_digest 190 = .ok (.getfield 129, 3) := by decide +kernel
theorem dX9_digest_193 : decode cX9_digest 193 = .ok (.iload 5, 2) := by decide +kernel
theorem dX9_digest_195 : decode cX9_digest 195 = .ok (.invokevirtual 247, 3) := by decide +kernel
theorem dX9_digest_198 : decode cX9_digest 198 = .ok (.ladd, 1) := by decide +kernel
theorem dX9_digest_199 : decode cX9_digest 199 = .ok (.lstore_n 1, 1) := by decide +kernel
theorem dX9_digest_200 : decode cX9_digest 200 = .ok (.iinc 5 1, 3) := by decide +kernel
theorem dX9_digest_203 : decode cX9_digest 203 = .ok (.goto (-28), 3) := by decide +kernel
theorem dX9_digest_206 : decode cX9_digest 206 = .ok (.iconst 0, 1) := by decide +kernel
theorem dX9_digest_207 : decode cX9_digest 207 = .ok (.istore 5, 2) := by decide +kernel
theorem dX9_digest_209 : decode cX9_digest 209 = .ok (.iload 5, 2) := by decide +kernel
theorem dX9_digest_211 : decode cX9_digest 211 = .ok (.iconst 2, 1) := by decide +kernel
theorem dX9_digest_212 : decode cX9_digest 212 = .ok (.if_icmp .ge 24, 3) := by decide +kernel
theorem dX9_digest_215 : decode cX9_digest 215 = .ok (.ldc2_w 350, 3) := by decide +kernel
theorem dX9_digest_218 : decode cX9_digest 218 = .ok (.lload_n 1, 1) := by decide +kernel
theorem dX9_digest_219 : decode cX9_digest 219 = .ok (.lmul, 1) := by decide +kernel
theorem dX9_digest_220 : decode cX9_digest 220 = .ok (.aload_n 0, 1) := by decide +kernel
theorem dX9_digest_221 : decode cX9_digest 221 = .ok (.iload 4, 2) := by decide +kernel
theorem dX9_digest_223 : decode cX9_digest 223 = .ok (.iload 5, 2) := by decide +kernel
theorem dX9_digest_225 : decode cX9_digest 225 = .ok (.invokevirtual 254, 3) := by decide +kernel
theorem dX9_digest_228 : decode cX9_digest 228 = .ok (.ladd, 1) := by decide +kernel
theorem dX9_digest_229 : decode cX9_digest 229 = .ok (.lstore_n 1, 1) := by decide +kernel
theorem dX9_digest_230 : decode cX9_digest 230 = .ok (.iinc 5 1, 3) := by decide +kernel
theorem dX9_digest_233 : decode cX9_digest 233 = .ok (.goto (-24), 3) := by decide +kernel
theorem dX9_digest_236 : decode cX9_digest 236 = .ok (.iconst 0, 1) := by decide +kernel
theorem dX9_digest_237 : decode cX9_digest 237 = .ok (.istore 5, 2) := by decide +kernel
theorem dX9_digest_239 : decode cX9_digest 239 = .ok (.iload 5, 2) := by decide +kernel
theorem dX9_digest_241 : decode cX9_digest 241 = .ok (.iconst 2, 1) := by decide +kernel
theorem dX9_digest_242 : decode cX9_digest 242 = .ok (.if_icmp .ge 24, 3) := by decide +kernel
theorem dX9_digest_245 : decode cX9_digest 245 = .ok (.ldc2_w 350, 3) := by decide +kernel
theorem dX9_digest_248 : decode cX9_digest 248 = .ok (.lload_n 1, 1) := by decide +kernel
theorem dX9_digest_249 : decode cX9_digest 249 = .ok (.lmul, 1) := by decide +kernel
theorem dX9_digest_250 : decode cX9_digest 250 = .ok (.aload_n 0, 1) := by decide +kernel
theorem dX9_digest_251 : decode cX9_digest 251 = .ok (.iload 4, 2) := by decide +kernel
theorem dX9_digest_253 : decode cX9_digest 253 = .ok (.iload 5, 2) := by decide +kernel
theorem dX9_digest_255 : decode cX9_digest 255 = .ok (.invokevirtual 261, 3) := by decide +kernel
theorem dX9_digest_258 : decode cX9_digest 258 = .ok (.ladd, 1) := by decide +kernel
theorem dX9_digest_259 : decode cX9_digest 259 = .ok (.lstore_n 1, 1) := by decide +kernel
theorem dX9_digest_260 : decode cX9_digest 260 = .ok (.iinc 5 1, 3) := by decide +kernel
theorem dX9_digest_263 : decode cX9_digest 263 = .ok (.goto (-24), 3) := by decide +kernel
theorem dX9_digest_266 : decode cX9_digest 266 = .ok (.ldc2_w 350, 3) := by decide +kernel
theorem dX9_digest_269 : decode cX9_digest 269 = .ok (.lload_n 1, 1) := by decide +kernel
theorem dX9_digest_270 : decode cX9_digest 270 = .ok (.lmul, 1) := by decide +kernel
theorem dX9_digest_271 : decode cX9_digest 271 = .ok (.aload_n 0, 1) := by decide +kernel
theorem dX9_digest_272 : decode cX9_digest 272 = .ok (.iload 4, 2) := by decide +kernel
theorem dX9_digest_274 : decode cX9_digest 274 = .ok (.iconst 2, 1) := by decide +kernel
theorem dX9_digest_275 : decode cX9_digest 275 = .ok (.invokevirtual 279, 3) := by decide +kernel
theorem dX9_digest_278 : decode cX9_digest 278 = .ok (.ladd, 1) := by decide +kernel
theorem dX9_digest_279 : decode cX9_digest 279 = .ok (.lstore_n 1, 1) := by decide +kernel
theorem dX9_digest_280 : decode cX9_digest 280 = .ok (.ldc2_w 350, 3) := by decide +kernel
theorem dX9_digest_283 : decode cX9_digest 283 = .ok (.lload_n 1, 1) := by decide +kernel
theorem dX9_digest_284 : decode cX9_digest 284 = .ok (.lmul, 1) := by decide +kernel
theorem dX9_digest_285 : decode cX9_digest 285 = .ok (.aload_n 0, 1) := by decide +kernel
theorem dX9_digest_286 : decode cX9_digest 286 = .ok (.iload 4, 2) := by decide +kernel
theorem dX9_digest_288 : decode cX9_digest 288 = .ok (.iconst 3, 1) := by decide +kernel
theorem dX9_digest_289 : decode cX9_digest 289 = .ok (.invokevirtual 279, 3) := by decide +kernel
theorem dX9_digest_292 : decode cX9_digest 292 = .ok (.ladd, 1) := by decide +kernel
theorem dX9_digest_293 : decode cX9_digest 293 = .ok (.lstore_n 1, 1) := by decide +kernel
theorem dX9_digest_294 : decode cX9_digest 294 = .ok (.ldc2_w 350, 3) := by decide +kernel
theorem dX9_digest_297 : decode cX9_digest 297 = .ok (.lload_n 1, 1) := by decide +kernel
theorem dX9_digest_298 : decode cX9_digest 298 = .ok (.lmul, 1) := by decide +kernel
theorem dX9_digest_299 : decode cX9_digest 299 = .ok (.aload_n 0, 1) := by decide +kernel
theorem dX9_digest_300 : decode cX9_digest 300 = .ok (.getfield 84, 3) := by decide +kernel
theorem dX9_digest_303 : decode cX9_digest 303 = .ok (.iconst 2, 1) := by decide +kernel
theorem dX9_digest_304 : decode cX9_digest 304 = .ok (.iload 4, 2) := by decide +kernel
theorem dX9_digest_306 : decode cX9_digest 306 = .ok (.imul, 1) := by decide +kernel
theorem dX9_digest_307 : decode cX9_digest 307 = .ok (.iaload, 1) := by decide +kernel
theorem dX9_digest_308 : decode cX9_digest 308 = .ok (.i2l, 1) := by decide +kernel
theorem dX9_digest_309 : decode cX9_digest 309 = .ok (.ladd, 1) := by decide +kernel
theorem dX9_digest_310 : decode cX9_digest 310 = .ok (.lstore_n 1, 1) := by decide +kernel
theorem dX9_digest_311 : decode cX9_digest 311 = .ok (.ldc2_w 350, 3) := by decide +kernel
theorem dX9_digest_314 : decode cX9_digest 314 = .ok (.lload_n 1, 1) := by decide +kernel
theorem dX9_digest_315 : decode cX9_digest 315 = .ok (.lmul, 1) := by decide +kernel
theorem dX9_digest_316 : decode cX9_digest 316 = .ok (.aload_n 0, 1) := by decide +kernel
theorem dX9_digest_317 : decode cX9_digest 317 = .ok (.getfield 84, 3) := by decide +kernel
theorem dX9_digest_320 : decode cX9_digest 320 = .ok (.iconst 2, 1) := by decide +kernel
theorem dX9_digest_321 : decode cX9_digest 321 = .ok (.iload 4, 2) := by decide +kernel
theorem dX9_digest_323 : decode cX9_digest 323 = .ok (.imul, 1) := by decide +kernel
theorem dX9_digest_324 : decode cX9_digest 324 = .ok (.iconst 1, 1) := by decide +kernel
theorem dX9_digest_325 : decode cX9_digest 325 = .ok (.iadd, 1) := by decide +kernel
theorem dX9_digest_326 : decode cX9_digest 326 = .ok (.iaload, 1) := by decide +kernel
theorem dX9_digest_327 : decode cX9_digest 327 = .ok (.i2l, 1) := by decide +kernel
theorem dX9_digest_328 : decode cX9_digest 328 = .ok (.ladd, 1) := by decide +kernel
theorem dX9_digest_329 : decode cX9_digest 329 = .ok (.lstore_n 1, 1) := by decide +kernel
theorem dX9_digest_330 : decode cX9_digest 330 = .ok (.aload_n 0, 1) := by decide +kernel
theorem dX9_digest_331 : decode cX9_digest 331 = .ok (.iload 4, 2) := by decide +kernel
theorem dX9_digest_333 : decode cX9_digest 333 = .ok (.invokevirtual 294, 3) := by decide +kernel
theorem dX9_digest_336 : decode cX9_digest 336 = .ok (.iconst 0, 1) := by decide +kernel
theorem dX9_digest_337 : decode cX9_digest 337 = .ok (.istore 5, 2) := by decide +kernel
theorem dX9_digest_339 : decode cX9_digest 339 = .ok (.iload 5, 2) := by decide +kernel
theorem dX9_digest_341 : decode cX9_digest 341 = .ok (.aload_n 0, 1) := by decide +kernel
theorem dX9_digest_342 : decode cX9_digest 342 = .ok (.getfield 129, 3) := by decide +kernel
theorem dX9_digest_345 : decode cX9_digest 345 = .ok (.if_icmp .ge 24, 3) := by decide +kernel
theorem dX9_digest_348 : decode cX9_digest 348 = .ok (.ldc2_w 350, 3) := by decide +kernel
theorem dX9_digest_351 : decode cX9_digest 351 = .ok (.lload_n 1, 1) := by decide +kernel
theorem dX9_digest_352 : decode cX9_digest 352 = .ok (.lmul, 1) := by decide +kernel
theorem dX9_digest_353 : decode cX9_digest 353 = .ok (.aload_n 0, 1) := by decide +kernel
theorem dX9_digest_354 : decode cX9_digest 354 = .ok (.getfield 62, 3) := by decide +kernel
theorem dX9_digest_357 : decode cX9_digest 357 = .ok (.iload 5, 2) := by decide +kernel
theorem dX9_digest_359 : decode cX9_digest 359 = .ok (.iaload, 1) := by decide +kernel
theorem dX9_digest_360 : decode cX9_digest 360 = .ok (.i2l, 1) := by decide +kernel
theorem dX9_digest_361 : decode cX9_digest 361 = .ok (.ladd, 1) := by decide +kernel
theorem dX9_digest_362 : decode cX9_digest 362 = .ok (.lstore_n 1, 1) := by decide +kernel
theorem dX9_digest_363 : decode cX9_digest 363 = .ok (.iinc 5 1, 3) := by decide +kernel
theorem dX9_digest_366 : decode cX9_digest 366 = .ok (.goto (-27), 3) := by decide +kernel
theorem dX9_digest_369 : decode cX9_digest 369 = .ok (.ldc2_w 350, 3) := by decide +kernel
theorem dX9_digest_372 : decode cX9_digest 372 = .ok (.lload_n 1, 1) := by decide +kernel
theorem dX9_digest_373 : decode cX9_digest 373 = .ok (.lmul, 1) := by decide +kernel
theorem dX9_digest_374 : decode cX9_digest 374 = .ok (.aload_n 0, 1) := by decide +kernel
theorem dX9_digest_375 : decode cX9_digest 375 = .ok (.iload 4, 2) := by decide +kernel
theorem dX9_digest_377 : decode cX9_digest 377 = .ok (.invokevirtual 297, 3) := by decide +kernel
theorem dX9_digest_380 : decode cX9_digest 380 = .ok (.i2l, 1) := by decide +kernel
theorem dX9_digest_381 : decode cX9_digest 381 = .ok (.ladd, 1) := by decide +kernel
theorem dX9_digest_382 : decode cX9_digest 382 = .ok (.lstore_n 1, 1) := by decide +kernel
theorem dX9_digest_383 : decode cX9_digest 383 = .ok (.ldc2_w 350, 3) := by decide +kernel
theorem dX9_digest_386 : decode cX9_digest 386 = .ok (.lload_n 1, 1) := by decide +kernel
theorem dX9_digest_387 : decode cX9_digest 387 = .ok (.lmul, 1) := by decide +kernel
theorem dX9_digest_388 : decode cX9_digest 388 = .ok (.aload_n 0, 1) := by decide +kernel
theorem dX9_digest_389 : decode cX9_digest 389 = .ok (.iload 4, 2) := by decide +kernel
theorem dX9_digest_391 : decode cX9_digest 391 = .ok (.invokevirtual 302, 3) := by decide +kernel
theorem dX9_digest_394 : decode cX9_digest 394 = .ok (.i2l, 1) := by decide +kernel
theorem dX9_digest_395 : decode cX9_digest 395 = .ok (.ladd, 1) := by decide +kernel
theorem dX9_digest_396 : decode cX9_digest 396 = .ok (.lstore_n 1, 1) := by decide +kernel
theorem dX9_digest_397 : decode cX9_digest 397 = .ok (.ldc2_w 350, 3) := by decide +kernel
theorem dX9_digest_400 : decode cX9_digest 400 = .ok (.lload_n 1, 1) := by decide +kernel
theorem dX9_digest_401 : decode cX9_digest 401 = .ok (.lmul, 1) := by decide +kernel
theorem dX9_digest_402 : decode cX9_digest 402 = .ok (.aload_n 0, 1) := by decide +kernel
theorem dX9_digest_403 : decode cX9_digest 403 = .ok (.iload 4, 2) := by decide +kernel
theorem dX9_digest_405 : decode cX9_digest 405 = .ok (.invokevirtual 305, 3) := by decide +kernel
theorem dX9_digest_408 : decode cX9_digest 408 = .ok (.i2l, 1) := by decide +kernel
theorem dX9_digest_409 : decode cX9_digest 409 = .ok (.ladd, 1) := by decide +kernel
theorem dX9_digest_410 : decode cX9_digest 410 = .ok (.lstore_n 1, 1) := by decide +kernel
theorem dX9_digest_411 : decode cX9_digest 411 = .ok (.iconst 0, 1) := by decide +kernel
theorem dX9_digest_412 : decode cX9_digest 412 = .ok (.istore 5, 2) := by decide +kernel
theorem dX9_digest_414 : decode cX9_digest 414 = .ok (.iload 5, 2) := by decide +kernel
theorem dX9_digest_416 : decode cX9_digest 416 = .ok (.iconst 2, 1) := by decide +kernel
theorem dX9_digest_417 : decode cX9_digest 417 = .ok (.if_icmp .ge 24, 3) := by decide +kernel
theorem dX9_digest_420 : decode cX9_digest 420 = .ok (.ldc2_w 350, 3) := by decide +kernel
theorem dX9_digest_423 : decode cX9_digest 423 = .ok (.lload_n 1, 1) := by decide +kernel
theorem dX9_digest_424 : decode cX9_digest 424 = .ok (.lmul, 1) := by decide +kernel
theorem dX9_digest_425 : decode cX9_digest 425 = .ok (.aload_n 0, 1) := by decide +kernel
theorem dX9_digest_426 : decode cX9_digest 426 = .ok (.iload 4, 2) := by decide +kernel
theorem dX9_digest_428 : decode cX9_digest 428 = .ok (.iload 5, 2) := by decide +kernel
theorem dX9_digest_430 : decode cX9_digest 430 = .ok (.invokevirtual 311, 3) := by decide +kernel
theorem dX9_digest_433 : decode cX9_digest 433 = .ok (.ladd, 1) := by decide +kernel
theorem dX9_digest_434 : decode cX9_digest 434 = .ok (.lstore_n 1, 1) := by decide +kernel
theorem dX9_digest_435 : decode cX9_digest 435 = .ok (.iinc 5 1, 3) := by decide +kernel
theorem dX9_digest_438 : decode cX9_digest 438 = .ok (.goto (-24), 3) := by decide +kernel
theorem dX9_digest_441 : decode cX9_digest 441 = .ok (.ldc2_w 350, 3) := by decide +kernel
theorem dX9_digest_444 : decode cX9_digest 444 = .ok (.lload_n 1, 1) := by decide +kernel
theorem dX9_digest_445 : decode cX9_digest 445 = .ok (.lmul, 1) := by decide +kernel
theorem dX9_digest_446 : decode cX9_digest 446 = .ok (.aload_n 0, 1) := by decide +kernel
theorem dX9_digest_447 : decode cX9_digest 447 = .ok (.bipush 7, 2) := by decide +kernel
theorem dX9_digest_449 : decode cX9_digest 449 = .ok (.bipush 9, 2) := by decide +kernel
theorem dX9_digest_451 : decode cX9_digest 451 = .ok (.iload 4, 2) := by decide +kernel
theorem dX9_digest_453 : decode cX9_digest 453 = .ok (.invokevirtual 329, 3) := by decide +kernel
theorem dX9_digest_456 : decode cX9_digest 456 = .ok (.i2l, 1) := by decide +kernel
theorem dX9_digest_457 : decode cX9_digest 457 = .ok (.ladd, 1) := by decide +kernel
theorem dX9_digest_458 : decode cX9_digest 458 = .ok (.lstore_n 1, 1) := by decide +kernel
theorem dX9_digest_459 : decode cX9_digest 459 = .ok (.ldc2_w 350, 3) := by decide +kernel
theorem dX9_digest_462 : decode cX9_digest 462 = .ok (.lload_n 1, 1) := by decide +kernel
theorem dX9_digest_463 : decode cX9_digest 463 = .ok (.lmul, 1) := by decide +kernel
theorem dX9_digest_464 : decode cX9_digest 464 = .ok (.aload_n 0, 1) := by decide +kernel
theorem dX9_digest_465 : decode cX9_digest 465 = .ok (.iload 4, 2) := by decide +kernel
theorem dX9_digest_467 : decode cX9_digest 467 = .ok (.invokevirtual 345, 3) := by decide +kernel
theorem dX9_digest_470 : decode cX9_digest 470 = .ok (.i2l, 1) := by decide +kernel
theorem dX9_digest_471 : decode cX9_digest 471 = .ok (.ladd, 1) := by decide +kernel
theorem dX9_digest_472 : decode cX9_digest 472 = .ok (.lstore_n 1, 1) := by decide +kernel
theorem dX9_digest_473 : decode cX9_digest 473 = .ok (.iinc 4 1, 3) := by decide +kernel
theorem dX9_digest_476 : decode cX9_digest 476 = .ok (.goto (-347), 3) := by decide +kernel
theorem dX9_digest_479 : decode cX9_digest 479 = .ok (.ldc2_w 350, 3) := by decide +kernel
theorem dX9_digest_482 : decode cX9_digest 482 = .ok (.lload_n 1, 1) := by decide +kernel
theorem dX9_digest_483 : decode cX9_digest 483 = .ok (.lmul, 1) := by decide +kernel
theorem dX9_digest_484 : decode cX9_digest 484 = .ok (.iload_n 3, 1) := by decide +kernel
theorem dX9_digest_485 : decode cX9_digest 485 = .ok (.i2l, 1) := by decide +kernel
theorem dX9_digest_486 : decode cX9_digest 486 = .ok (.ladd, 1) := by decide +kernel
theorem dX9_digest_487 : decode cX9_digest 487 = .ok (.lstore_n 1, 1) := by decide +kernel
theorem dX9_digest_488 : decode cX9_digest 488 = .ok (.ldc2_w 350, 3) := by decide +kernel
theorem dX9_digest_491 : decode cX9_digest 491 = .ok (.lload_n 1, 1) := by decide +kernel
theorem dX9_digest_492 : decode cX9_digest 492 = .ok (.lmul, 1) := by decide +kernel
theorem dX9_digest_493 : decode cX9_digest 493 = .ok (.aload_n 0, 1) := by decide +kernel
theorem dX9_digest_494 : decode cX9_digest 494 = .ok (.iconst 0, 1) := by decide +kernel
theorem dX9_digest_495 : decode cX9_digest 495 = .ok (.invokevirtual 314, 3) := by decide +kernel
theorem dX9_digest_498 : decode cX9_digest 498 = .ok (.ladd, 1) := by decide +kernel
theorem dX9_digest_499 : decode cX9_digest 499 = .ok (.lstore_n 1, 1) := by decide +kernel
theorem dX9_digest_500 : decode cX9_digest 500 = .ok (.ldc2_w 350, 3) := by decide +kernel
theorem dX9_digest_503 : decode cX9_digest 503 = .ok (.lload_n 1, 1) := by decide +kernel
theorem dX9_digest_504 : decode cX9_digest 504 = .ok (.lmul, 1) := by decide +kernel
theorem dX9_digest_505 : decode cX9_digest 505 = .ok (.aload_n 0, 1) := by decide +kernel
theorem dX9_digest_506 : decode cX9_digest 506 = .ok (.iconst 1, 1) := by decide +kernel
theorem dX9_digest_507 : decode cX9_digest 507 = .ok (.invokevirtual 314, 3) := by decide +kernel
theorem dX9_digest_510 : decode cX9_digest 510 = .ok (.ladd, 1) := by decide +kernel
theorem dX9_digest_511 : decode cX9_digest 511 = .ok (.lreturn, 1) := by decide +kernel
end
section
theorem dL_law_0 : decode cL_law 0 = .ok (.new 7, 3) := by decide +kernel
theorem dL_law_3 : decode cL_law 3 = .ok (.dup, 1) := by decide +kernel
theorem dL_law_4 : decode cL_law 4 = .ok (.invokespecial 9, 3) := by decide +kernel
theorem dL_law_7 : decode cL_law 7 = .ok (.astore_n 1, 1) := by decide +kernel
theorem dL_law_8 : decode cL_law 8 = .ok (.new 10, 3) := by decide +kernel
theorem dL_law_11 : decode cL_law 11 = .ok (.dup, 1) := by decide +kernel
theorem dL_law_12 : decode cL_law 12 = .ok (.invokespecial 12, 3) := by decide +kernel
theorem dL_law_15 : decode cL_law 15 = .ok (.astore_n 2, 1) := by decide +kernel
theorem dL_law_16 : decode cL_law 16 = .ok (.iconst 0, 1) := by decide +kernel
theorem dL_law_17 : decode cL_law 17 = .ok (.istore_n 3, 1) := by decide +kernel
theorem dL_law_18 : decode cL_law 18 = .ok (.iload_n 3, 1) := by decide +kernel
theorem dL_law_19 : decode cL_law 19 = .ok (.aload_n 0, 1) := by decide +kernel
theorem dL_law_20 : decode cL_law 20 = .ok (.arraylength, 1) := by decide +kernel
theorem dL_law_21 : decode cL_law 21 = .ok (.bipush 6, 2) := by decide +kernel
theorem dL_law_23 : decode cL_law 23 = .ok (.isub, 1) := by decide +kernel
theorem dL_law_24 : decode cL_law 24 = .ok (.if_icmp .gt 1435, 3) := by decide +kernel
theorem dL_law_27 : decode cL_law 27 = .ok (.aload_n 0, 1) := by decide +kernel
theorem dL_law_28 : decode cL_law 28 = .ok (.iload_n 3, 1) := by decide +kernel
theorem dL_law_29 : decode cL_law 29 = .ok (.iaload, 1) := by decide +kernel
theorem dL_law_30 : decode cL_law 30 = .ok (.bipush 63, 2) := by decide +kernel
theorem dL_law_32 : decode cL_law 32 = .ok (.iand, 1) := by decide +kernel
theorem dL_law_33 : decode cL_law 33 = .ok (.tableswitch 1420 0 37 #[167, 190, 203, 216, 249, 272, 295, 328, 361, 394, 438, 472, 506, 540, 573, 606, 629, 673, 727, 750, 773, 806, 840, 864, 887, 930, 993, 1026, 1059, 1082, 1125, 1168, 1191, 1244, 1287, 1350, 1383, 1406], 167) := by decide +kernel
theorem dL_law_200 : decode cL_law 200 = .ok (.aload_n 1, 1) := by decide +kernel
theorem dL_law_201 : decode cL_law 201 = .ok (.aload_n 0, 1) := by decide +kernel
theorem dL_law_202 : decode cL_law 202 = .ok (.iload_n 3, 1) := by decide +kernel
theorem dL_law_203 : decode cL_law 203 = .ok (.iconst 1, 1) := by decide +kernel
theorem dL_law_204 : decode cL_law 204 = .ok (.iadd, 1) := by decide +kernel
theorem dL_law_205 : decode cL_law 205 = .ok (.iaload, 1) := by decide +kernel
theorem dL_law_206 : decode cL_law 206 = .ok (.invokevirtual 13, 3) := by decide +kernel
theorem dL_law_209 : decode cL_law 209 = .ok (.aload_n 2, 1) := by decide +kernel
theorem dL_law_210 : decode cL_law 210 = .ok (.aload_n 0, 1) := by decide +kernel
theorem dL_law_211 : decode cL_law 211 = .ok (.iload_n 3, 1) := by decide +kernel
theorem dL_law_212 : decode cL_law 212 = .ok (.iconst 1, 1) := by decide +kernel
theorem dL_law_213 : decode cL_law 213 = .ok (.iadd, 1) := by decide +kernel
theorem dL_law_214 : decode cL_law 214 = .ok (.iaload, 1) := by decide +kernel
theorem dL_law_215 : decode cL_law 215 = .ok (.invokevirtual 17, 3) := by decide +kernel
theorem dL_law_218 : decode cL_law 218 = .ok (.if_icmp .eq 1235, 3) := by decide +kernel
theorem dL_law_221 : decode cL_law 221 = .ok (.iconst 0, 1) := by decide +kernel
theorem dL_law_222 : decode cL_law 222 = .ok (.ireturn, 1) := by decide +kernel
theorem dL_law_223 : decode cL_law 223 = .ok (.aload_n 1, 1) := by decide +kernel
theorem dL_law_224 : decode cL_law 224 = .ok (.invokevirtual 18, 3) := by decide +kernel
theorem dL_law_227 : decode cL_law 227 = .ok (.aload_n 2, 1) := by decide +kernel
theorem dL_law_228 : decode cL_law 228 = .ok (.invokevirtual 22, 3) := by decide +kernel
theorem dL_law_231 : decode cL_law 231 = .ok (.if_icmp .eq 1222, 3) := by decide +kernel
theorem dL_law_234 : decode cL_law 234 = .ok (.iconst 0, 1) := by decide +kernel
theorem dL_law_235 : decode cL_law 235 = .ok (.ireturn, 1) := by decide +kernel
theorem dL_law_236 : decode cL_law 236 = .ok (.aload_n 1, 1) := by decide +kernel
theorem dL_law_237 : decode cL_law 237 = .ok (.invokevirtual 23, 3) := by decide +kernel
theorem dL_law_240 : decode cL_law 240 = .ok (.aload_n 2, 1) := by decide +kernel
theorem dL_law_241 : decode cL_law 241 = .ok (.invokevirtual 26, 3) := by decide +kernel
theorem dL_law_244 : decode cL_law 244 = .ok (.if_icmp .eq 1209, 3) := by decide +kernel
theorem dL_law_247 : decode cL_law 247 = .ok (.iconst 0, 1) := by decide +kernel
theorem dL_law_248 : decode cL_law 248 = .ok (.ireturn, 1) := by decide +kernel
theorem dL_law_249 : decode cL_law 249 = .ok (.aload_n 1, 1) := by decide +kernel
theorem dL_law_250 : decode cL_law 250 = .ok (.aload_n 0, 1) := by decide +kernel
theorem dL_law_251 : decode cL_law 251 = .ok (.iload_n 3, 1) := by decide +kernel
theorem dL_law_252 : decode cL_law 252 = .ok (.iconst 1, 1) := by decide +kernel
theorem dL_law_253 : decode cL_law 253 = .ok (.iadd, 1) := by decide +kernel
theorem dL_law_254 : decode cL_law 254 = .ok (.iaload, 1) := by decide +kernel
theorem dL_law_255 : decode cL_law 255 = .ok (.aload_n 0, 1) := by decide +kernel
theorem dL_law_256 : decode cL_law 256 = .ok (.iload_n 3, 1) := by decide +kernel
theorem dL_law_257 : decode cL_law 257 = .ok (.iconst 2, 1) := by decide +kernel
theorem dL_law_258 : decode cL_law 258 = .ok (.iadd, 1) := by decide +kernel
theorem dL_law_259 : decode cL_law 259 = .ok (.iaload, 1) := by decide +kernel
theorem dL_law_260 : decode cL_law 260 = .ok (.invokevirtual 27, 3) := by decide +kernel
theorem dL_law_263 : decode cL_law 263 = .ok (.aload_n 2, 1) := by decide +kernel
theorem dL_law_264 : decode cL_law 264 = .ok (.aload_n 0, 1) := by decide +kernel
theorem dL_law_265 : decode cL_law 265 = .ok (.iload_n 3, 1) := by decide +kernel
theorem dL_law_266 : decode cL_law 266 = .ok (.iconst 1, 1) := by decide +kernel
theorem dL_law_267 : decode cL_law 267 = .ok (.iadd, 1) := by decide +kernel
theorem dL_law_268 : decode cL_law 268 = .ok (.iaload, 1) := by decide +kernel
theorem dL_law_269 : decode cL_law 269 = .ok (.aload_n 0, 1) := by decide +kernel
theorem dL_law_270 : decode cL_law 270 = .ok (.iload_n 3, 1) := by decide +kernel
theorem dL_law_271 : decode cL_law 271 = .ok (.iconst 2, 1) := by decide +kernel
theorem dL_law_272 : decode cL_law 272 = .ok (.iadd, 1) := by decide +kernel
theorem dL_law_273 : decode cL_law 273 = .ok (.iaload, 1) := by decide +kernel
theorem dL_law_274 : decode cL_law 274 = .ok (.invokevirtual 31, 3) := by decide +kernel
theorem dL_law_277 : decode cL_law 277 = .ok (.if_icmp .eq 1176, 3) := by decide +kernel
theorem dL_law_280 : decode cL_law 280 = .ok (.iconst 0, 1) := by decide +kernel
theorem dL_law_281 : decode cL_law 281 = .ok (.ireturn, 1) := by decide +kernel
theorem dL_law_282 : decode cL_law 282 = .ok (.aload_n 1, 1) := by decide +kernel
theorem dL_law_283 : decode cL_law 283 = .ok (.aload_n 0, 1) := by decide +kernel
theorem dL_law_284 : decode cL_law 284 = .ok (.iload_n 3, 1) := by decide +kernel
theorem dL_law_285 : decode cL_law 285 = .ok (.iconst 1, 1) := by decide +kernel
theorem dL_law_286 : decode cL_law 286 = .ok (.iadd, 1) := by decide +kernel
theorem dL_law_287 : decode cL_law 287 = .ok (.iaload, 1) := by decide +kernel
theorem dL_law_288 : decode cL_law 288 = .ok (.invokevirtual 32, 3) := by decide +kernel
theorem dL_law_291 : decode cL_law 291 = .ok (.aload_n 2, 1) := by decide +kernel
theorem dL_law_292 : decode cL_law 292 = .ok (.aload_n 0, 1) := by decide +kernel
theorem dL_law_293 : decode cL_law 293 = .ok (.iload_n 3, 1) := by decide +kernel
theorem dL_law_294 : decode cL_law 294 = .ok (.iconst 1, 1) := by decide +kernel
theorem dL_law_295 : decode cL_law 295 = .ok (.iadd, 1) := by decide +kernel
theorem dL_law_296 : decode cL_law 296 = .ok (.iaload, 1) := by decide +kernel
theorem dL_law_297 : decode cL_law 297 = .ok (.invokevirtual 35, 3) := by decide +kernel
theorem dL_law_300 : decode cL_law 300 = .ok (.if_icmp .eq 1153, 3) := by decide +kernel
theorem dL_law_303 : decode cL_law 303 = .ok (.iconst 0, 1) := by decide +kernel
theorem dL_law_304 : decode cL_law 304 = .ok (.ireturn, 1) := by decide +kernel
theorem dL_law_305 : decode cL_law 305 = .ok (.aload_n 1, 1) := by decide +kernel
theorem dL_law_306 : decode cL_law 306 = .ok (.aload_n 0, 1) := by decide +kernel
theorem dL_law_307 : decode cL_law 307 = .ok (.iload_n 3, 1) := by decide +kernel
theorem dL_law_308 : decode cL_law 308 = .ok (.iconst 1, 1) := by decide +kernel
theorem dL_law_309 : decode cL_law 309 = .ok (.iadd, 1) := by decide +kernel
theorem dL_law_310 : decode cL_law 310 = .ok (.iaload, 1) := by decide +kernel
theorem dL_law_311 : decode cL_law 311 = .ok (.invokevirtual 36, 3) := by decide +kernel
theorem dL_law_314 : decode cL_law 314 = .ok (.aload_n 2, 1) := by decide +kernel
theorem dL_law_315 : decode cL_law 315 = .ok (.aload_n 0, 1) := by decide +kernel
theorem dL_law_316 : decode cL_law 316 = .ok (.iload_n 3, 1) := by decide +kernel
theorem dL_law_317 : decode cL_law 317 = .ok (.iconst 1, 1) := by decide +kernel
theorem dL_law_318 : decode cL_law 318 = .ok (.iadd, 1) := by decide +kernel
theorem dL_law_319 : decode cL_law 319 = .ok (.iaload, 1) := by decide +kernel
theorem dL_law_320 : decode cL_law 320 = .ok (.invokevirtual 39, 3) := by decide +kernel
theorem dL_law_323 : decode cL_law 323 = .ok (.if_icmp .eq 1130, 3) := by decide +kernel
theorem dL_law_326 : decode cL_law 326 = .ok (.iconst 0, 1) := by decide +kernel
theorem dL_law_327 : decode cL_law 327 = .ok (.ireturn, 1) := by decide +kernel
theorem dL_law_328 : decode cL_law 328 = .ok (.aload_n 1, 1) := by decide +kernel
theorem dL_law_329 : decode cL_law 329 = .ok (.aload_n 0, 1) := by decide +kernel
theorem dL_law_330 : decode cL_law 330 = .ok (.iload_n 3, 1) := by decide +kernel
theorem dL_law_331 : decode cL_law 331 = .ok (.iconst 1, 1) := by decide +kernel
theorem dL_law_332 : decode cL_law 332 = .ok (.iadd, 1) := by decide +kernel
theorem dL_law_333 : decode cL_law 333 = .ok (.iaload, 1) := by decide +kernel
theorem dL_law_334 : decode cL_law 334 = .ok (.aload_n 0, 1) := by decide +kernel
theorem dL_law_335 : decode cL_law 335 = .ok (.iload_n 3, 1) := by decide +kernel
theorem dL_law_336 : decode cL_law 336 = .ok (.iconst 2, 1) := by decide +kernel
theorem dL_law_337 : decode cL_law 337 = .ok (.iadd, 1) := by decide +kernel
theorem dL_law_338 : decode cL_law 338 = .ok (.iaload, 1) := by decide +kernel
theorem dL_law_339 : decode cL_law 339 = .ok (.invokevirtual 40, 3) := by decide +kernel
theorem dL_law_342 : decode cL_law 342 = .ok (.aload_n 2, 1) := by decide +kernel
theorem dL_law_343 : decode cL_law 343 = .ok (.aload_n 0, 1) := by decide +kernel
theorem dL_law_344 : decode cL_law 344 = .ok (.iload_n 3, 1) := by decide +kernel
theorem dL_law_345 : decode cL_law 345 = .ok (.iconst 1, 1) := by decide +kernel
theorem dL_law_346 : decode cL_law 346 = .ok (.iadd, 1) := by decide +kernel
theorem dL_law_347 : decode cL_law 347 = .ok (.iaload, 1) := by decide +kernel
theorem dL_law_348 : decode cL_law 348 = .ok (.aload_n 0, 1) := by decide +kernel
theorem dL_law_349 : decode cL_law 349 = .ok (.iload_n 3, 1) := by decide +kernel
theorem dL_law_350 : decode cL_law 350 = .ok (.iconst 2, 1) := by decide +kernel
theorem dL_law_351 : decode cL_law 351 = .ok (.iadd, 1) := by decide +kernel
theorem dL_law_352 : decode cL_law 352 = .ok (.iaload, 1) := by decide +kernel
theorem dL_law_353 : decode cL_law 353 = .ok (.invokevirtual 43, 3) := by decide +kernel
theorem dL_law_356 : decode cL_law 356 = .ok (.if_icmp .eq 1097, 3) := by decide +kernel
theorem dL_law_359 : decode cL_law 359 = .ok (.iconst 0, 1) := by decide +kernel
theorem dL_law_360 : decode cL_law 360 = .ok (.ireturn, 1) := by decide +kernel
theorem dL_law_361 : decode cL_law 361 = .ok (.aload_n 1, 1) := by decide +kernel
theorem dL_law_362 : decode cL_law 362 = .ok (.aload_n 0, 1) := by decide +kernel
theorem dL_law_363 : decode cL_law 363 = .ok (.iload_n 3, 1) := by decide +kernel
theorem dL_law_364 : decode cL_law 364 = .ok (.iconst 1, 1) := by decide +kernel
theorem dL_law_365 : decode cL_law 365 = .ok (.iadd, 1) := by decide +kernel
theorem dL_law_366 : decode cL_law 366 = .ok (.iaload, 1) := by decide +kernel
theorem dL_law_367 : decode cL_law 367 = .ok (.aload_n 0, 1) := by decide +kernel
theorem dL_law_368 : decode cL_law 368 = .ok (.iload_n 3, 1) := by decide +kernel
theorem dL_law_369 : decode cL_law 369 = .ok (.iconst 2, 1) := by decide +kernel
theorem dL_law_370 : decode cL_law 370 = .ok (.iadd, 1) := by decide +kernel
theorem dL_law_371 : decode cL_law 371 = .ok (.iaload, 1) := by decide +kernel
theorem dL_law_372 : decode cL_law 372 = .ok (.invokevirtual 44, 3) := by decide +kernel
theorem dL_law_375 : decode cL_law 375 = .ok (.aload_n 2, 1) := by decide +kernel
theorem dL_law_376 : decode cL_law 376 = .ok (.aload_n 0, 1) := by decide +kernel
theorem dL_law_377 : decode cL_law 377 = .ok (.iload_n 3, 1) := by decide +kernel
theorem dL_law_378 : decode cL_law 378 = .ok (.iconst 1, 1) := by decide +kernel
theorem dL_law_379 : decode cL_law 379 = .ok (.iadd, 1) := by decide +kernel
theorem dL_law_380 : decode cL_law 380 = .ok (.iaload, 1) := by decide +kernel
theorem dL_law_381 : decode cL_law 381 = .ok (.aload_n 0, 1) := by decide +kernel
theorem dL_law_382 : decode cL_law 382 = .ok (.iload_n 3, 1) := by decide +kernel
theorem dL_law_383 : decode cL_law 383 = .ok (.iconst 2, 1) := by decide +kernel
theorem dL_law_384 : decode cL_law 384 = .ok (.iadd, 1) := by decide +kernel
theorem dL_law_385 : decode cL_law 385 = .ok (.iaload, 1) := by decide +kernel
theorem dL_law_386 : decode cL_law 386 = .ok (.invokevirtual 47, 3) := by decide +kernel
theorem dL_law_389 : decode cL_law 389 = .ok (.if_icmp .eq 1064, 3) := by decide +kernel
theorem dL_law_392 : decode cL_law 392 = .ok (.iconst 0, 1) := by decide +kernel
theorem dL_law_393 : decode cL_law 393 = .ok (.ireturn, 1) := by decide +kernel
theorem dL_law_394 : decode cL_law 394 = .ok (.aload_n 1, 1) := by decide +kernel
theorem dL_law_395 : decode cL_law 395 = .ok (.aload_n 0, 1) := by decide +kernel
theorem dL_law_396 : decode cL_law 396 = .ok (.iload_n 3, 1) := by decide +kernel
theorem dL_law_397 : decode cL_law 397 = .ok (.iconst 1, 1) := by decide +kernel
theorem dL_law_398 : decode cL_law 398 = .ok (.iadd, 1) := by decide +kernel
theorem dL_law_399 : decode cL_law 399 = .ok (.iaload, 1) := by decide +kernel
theorem dL_law_400 : decode cL_law 400 = .ok (.aload_n 0, 1) := by decide +kernel
theorem dL_law_401 : decode cL_law 401 = .ok (.iload_n 3, 1) := by decide +kernel
theorem dL_law_402 : decode cL_law 402 = .ok (.iconst 2, 1) := by decide +kernel
theorem dL_law_403 : decode cL_law 403 = .ok (.iadd, 1) := by decide +kernel
theorem dL_law_404 : decode cL_law 404 = .ok (.iaload, 1) := by decide +kernel
theorem dL_law_405 : decode cL_law 405 = .ok (.invokevirtual 48, 3) := by decide +kernel
theorem dL_law_408 : decode cL_law 408 = .ok (.aload_n 2, 1) := by decide +kernel
theorem dL_law_409 : decode cL_law 409 = .ok (.aload_n 0, 1) := by decide +kernel
theorem dL_law_410 : decode cL_law 410 = .ok (.iload_n 3, 1) := by decide +kernel
theorem dL_law_411 : decode cL_law 411 = .ok (.iconst 1, 1) := by decide +kernel
theorem dL_law_412 : decode cL_law 412 = .ok (.iadd, 1) := by decide +kernel
theorem dL_law_413 : decode cL_law 413 = .ok (.iaload, 1) := by decide +kernel
theorem dL_law_414 : decode cL_law 414 = .ok (.aload_n 0, 1) := by decide +kernel
theorem dL_law_415 : decode cL_law 415 = .ok (.iload_n 3, 1) := by decide +kernel
theorem dL_law_416 : decode cL_law 416 = .ok (.iconst 2, 1) := by decide +kernel
theorem dL_law_417 : decode cL_law 417 = .ok (.iadd, 1) := by decide +kernel
theorem dL_law_418 : decode cL_law 418 = .ok (.iaload, 1) := by decide +kernel
theorem dL_law_419 : decode cL_law 419 = .ok (.invokevirtual 51, 3) := by decide +kernel
theorem dL_law_422 : decode cL_law 422 = .ok (.if_icmp .eq 1031, 3) := by decide +kernel
theorem dL_law_425 : decode cL_law 425 = .ok (.iconst 0, 1) := by decide +kernel
theorem dL_law_426 : decode cL_law 426 = .ok (.ireturn, 1) := by decide +kernel
theorem dL_law_427 : decode cL_law 427 = .ok (.aload_n 1, 1) := by decide +kernel
theorem dL_law_428 : decode cL_law 428 = .ok (.aload_n 0, 1) := by decide +kernel
theorem dL_law_429 : decode cL_law 429 = .ok (.iload_n 3, 1) := by decide +kernel
theorem dL_law_430 : decode cL_law 430 = .ok (.iconst 1, 1) := by decide +kernel
theorem dL_law_431 : decode cL_law 431 = .ok (.iadd, 1) := by decide +kernel
theorem dL_law_432 : decode cL_law 432 = .ok (.iaload, 1) := by decide +kernel
theorem dL_law_433 : decode cL_law 433 = .ok (.aload_n 0, 1) := by decide +kernel
theorem dL_law_434 : decode cL_law 434 = .ok (.iload_n 3, 1) := by decide +kernel
theorem dL_law_435 : decode cL_law 435 = .ok (.iconst 2, 1) := by decide +kernel
theorem dL_law_436 : decode cL_law 436 = .ok (.iadd, 1) := by decide +kernel
theorem dL_law_437 : decode cL_law 437 = .ok (.iaload, 1) := by decide +kernel
theorem dL_law_438 : decode cL_law 438 = .ok (.aload_n 0, 1) := by decide +kernel
theorem dL_law_439 : decode cL_law 439 = .ok (.iload_n 3, 1) := by decide +kernel
theorem dL_law_440 : decode cL_law 440 = .ok (.iconst 3, 1) := by decide +kernel
theorem dL_law_441 : decode cL_law 441 = .ok (.iadd, 1) := by decide +kernel
theorem dL_law_442 : decode cL_law 442 = .ok (.iaload, 1) := by decide +kernel
theorem dL_law_443 : decode cL_law 443 = .ok (.invokevirtual 52, 3) := by decide +kernel
theorem dL_law_446 : decode cL_law 446 = .ok (.aload_n 2, 1) := by decide +kernel
theorem dL_law_447 : decode cL_law 447 = .ok (.aload_n 0, 1) := by decide +kernel
theorem dL_law_448 : decode cL_law 448 = .ok (.iload_n 3, 1) := by decide +kernel
theorem dL_law_449 : decode cL_law 449 = .ok (.iconst 1, 1) := by decide +kernel
theorem dL_law_450 : decode cL_law 450 = .ok (.iadd, 1) := by decide +kernel
theorem dL_law_451 : decode cL_law 451 = .ok (.iaload, 1) := by decide +kernel
theorem dL_law_452 : decode cL_law 452 = .ok (.aload_n 0, 1) := by decide +kernel
theorem dL_law_453 : decode cL_law 453 = .ok (.iload_n 3, 1) := by decide +kernel
theorem dL_law_454 : decode cL_law 454 = .ok (.iconst 2, 1) := by decide +kernel
theorem dL_law_455 : decode cL_law 455 = .ok (.iadd, 1) := by decide +kernel
theorem dL_law_456 : decode cL_law 456 = .ok (.iaload, 1) := by decide +kernel
theorem dL_law_457 : decode cL_law 457 = .ok (.aload_n 0, 1) := by decide +kernel
theorem dL_law_458 : decode cL_law 458 = .ok (.iload_n 3, 1) := by decide +kernel
theorem dL_law_459 : decode cL_law 459 = .ok (.iconst 3, 1) := by decide +kernel
theorem dL_law_460 : decode cL_law 460 = .ok (.iadd, 1) := by decide +kernel
theorem dL_law_461 : decode cL_law 461 = .ok (.iaload, 1) := by decide +kernel
theorem dL_law_462 : decode cL_law 462 = .ok (.invokevirtual 56, 3) := by decide +kernel
theorem dL_law_465 : decode cL_law 465 = .ok (.lcmp, 1) := by decide +kernel
theorem dL_law_466 : decode cL_law 466 = .ok (.ifCond .eq 987, 3) := by decide +kernel
theorem dL_law_469 : decode cL_law 469 = .ok (.iconst 0, 1) := by decide +kernel
theorem dL_law_470 : decode cL_law 470 = .ok (.ireturn, 1) := by decide +kernel
theorem dL_law_471 : decode cL_law 471 = .ok (.aload_n 1, 1) := by decide +kernel
theorem dL_law_472 : decode cL_law 472 = .ok (.aload_n 0, 1) := by decide +kernel
theorem dL_law_473 : decode cL_law 473 = .ok (.iload_n 3, 1) := by decide +kernel
theorem dL_law_474 : decode cL_law 474 = .ok (.iconst 1, 1) := by decide +kernel
theorem dL_law_475 : decode cL_law 475 = .ok (.iadd, 1) := by decide +kernel
theorem dL_law_476 : decode cL_law 476 = .ok (.iaload, 1) := by decide +kernel
theorem dL_law_477 : decode cL_law 477 = .ok (.aload_n 0, 1) := by decide +kernel
theorem dL_law_478 : decode cL_law 478 = .ok (.iload_n 3, 1) := by decide +kernel
theorem dL_law_479 : decode cL_law 479 = .ok (.iconst 2, 1) := by decide +kernel
theorem dL_law_480 : decode cL_law 480 = .ok (.iadd, 1) := by decide +kernel
theorem dL_law_481 : decode cL_law 481 = .ok (.iaload, 1) := by decide +kernel
theorem dL_law_482 : decode cL_law 482 = .ok (.invokevirtual 57, 3) := by decide +kernel
theorem dL_law_485 : decode cL_law 485 = .ok (.aload_n 2, 1) := by decide +kernel
theorem dL_law_486 : decode cL_law 486 = .ok (.aload_n 0, 1) := by decide +kernel
theorem dL_law_487 : decode cL_law 487 = .ok (.iload_n 3, 1) := by decide +kernel
theorem dL_law_488 : decode cL_law 488 = .ok (.iconst 1, 1) := by decide +kernel
theorem dL_law_489 : decode cL_law 489 = .ok (.iadd, 1) := by decide +kernel
theorem dL_law_490 : decode cL_law 490 = .ok (.iaload, 1) := by decide +kernel
theorem dL_law_491 : decode cL_law 491 = .ok (.aload_n 0, 1) := by decide +kernel
theorem dL_law_492 : decode cL_law 492 = .ok (.iload_n 3, 1) := by decide +kernel
theorem dL_law_493 : decode cL_law 493 = .ok (.iconst 2, 1) := by decide +kernel
theorem dL_law_494 : decode cL_law 494 = .ok (.iadd, 1) := by decide +kernel
theorem dL_law_495 : decode cL_law 495 = .ok (.iaload, 1) := by decide +kernel
theorem dL_law_496 : decode cL_law 496 = .ok (.invokevirtual 61, 3) := by decide +kernel
theorem dL_law_499 : decode cL_law 499 = .ok (.lcmp, 1) := by decide +kernel
theorem dL_law_500 : decode cL_law 500 = .ok (.ifCond .eq 953, 3) := by decide +kernel
theorem dL_law_503 : decode cL_law 503 = .ok (.iconst 0, 1) := by decide +kernel
theorem dL_law_504 : decode cL_law 504 = .ok (.ireturn, 1) := by decide +kernel
theorem dL_law_505 : decode cL_law 505 = .ok (.aload_n 1, 1) := by decide +kernel
theorem dL_law_506 : decode cL_law 506 = .ok (.aload_n 0, 1) := by decide +kernel
theorem dL_law_507 : decode cL_law 507 = .ok (.iload_n 3, 1) := by decide +kernel
theorem dL_law_508 : decode cL_law 508 = .ok (.iconst 1, 1) := by decide +kernel
theorem dL_law_509 : decode cL_law 509 = .ok (.iadd, 1) := by decide +kernel
theorem dL_law_510 : decode cL_law 510 = .ok (.iaload, 1) := by decide +kernel
theorem dL_law_511 : decode cL_law 511 = .ok (.aload_n 0, 1) := by decide +kernel
theorem dL_law_512 : decode cL_law 512 = .ok (.iload_n 3, 1) := by decide +kernel
theorem dL_law_513 : decode cL_law 513 = .ok (.iconst 2, 1) := by decide +kernel
theorem dL_law_514 : decode cL_law 514 = .ok (.iadd, 1) := by decide +kernel
theorem dL_law_515 : decode cL_law 515 = .ok (.iaload, 1) := by decide +kernel
theorem dL_law_516 : decode cL_law 516 = .ok (.invokevirtual 62, 3) := by decide +kernel
theorem dL_law_519 : decode cL_law 519 = .ok (.aload_n 2, 1) := by decide +kernel
theorem dL_law_520 : decode cL_law 520 = .ok (.aload_n 0, 1) := by decide +kernel
theorem dL_law_521 : decode cL_law 521 = .ok (.iload_n 3, 1) := by decide +kernel
theorem dL_law_522 : decode cL_law 522 = .ok (.iconst 1, 1) := by decide +kernel
theorem dL_law_523 : decode cL_law 523 = .ok (.iadd, 1) := by decide +kernel
theorem dL_law_524 : decode cL_law 524 = .ok (.iaload, 1) := by decide +kernel
theorem dL_law_525 : decode cL_law 525 = .ok (.aload_n 0, 1) := by decide +kernel
theorem dL_law_526 : decode cL_law 526 = .ok (.iload_n 3, 1) := by decide +kernel
theorem dL_law_527 : decode cL_law 527 = .ok (.iconst 2, 1) := by decide +kernel
theorem dL_law_528 : decode cL_law 528 = .ok (.iadd, 1) := by decide +kernel
theorem dL_law_529 : decode cL_law 529 = .ok (.iaload, 1) := by decide +kernel
theorem dL_law_530 : decode cL_law 530 = .ok (.invokevirtual 65, 3) := by decide +kernel
theorem dL_law_533 : decode cL_law 533 = .ok (.lcmp, 1) := by decide +kernel
theorem dL_law_534 : decode cL_law 534 = .ok (.ifCond .eq 919, 3) := by decide +kernel
theorem dL_law_537 : decode cL_law 537 = .ok (.iconst 0, 1) := by decide +kernel
theorem dL_law_538 : decode cL_law 538 = .ok (.ireturn, 1) := by decide +kernel
theorem dL_law_539 : decode cL_law 539 = .ok (.aload_n 1, 1) := by decide +kernel
theorem dL_law_540 : decode cL_law 540 = .ok (.aload_n 0, 1) := by decide +kernel
theorem dL_law_541 : decode cL_law 541 = .ok (.iload_n 3, 1) := by decide +kernel
theorem dL_law_542 : decode cL_law 542 = .ok (.iconst 1, 1) := by decide +kernel
theorem dL_law_543 : decode cL_law 543 = .ok (.iadd, 1) := by decide +kernel
theorem dL_law_544 : decode cL_law 544 = .ok (.iaload, 1) := by decide +kernel
theorem dL_law_545 : decode cL_law 545 = .ok (.aload_n 0, 1) := by decide +kernel
theorem dL_law_546 : decode cL_law 546 = .ok (.iload_n 3, 1) := by decide +kernel
theorem dL_law_547 : decode cL_law 547 = .ok (.iconst 2, 1) := by decide +kernel
theorem dL_law_548 : decode cL_law 548 = .ok (.iadd, 1) := by decide +kernel
theorem dL_law_549 : decode cL_law 549 = .ok (.iaload, 1) := by decide +kernel
theorem dL_law_550 : decode cL_law 550 = .ok (.invokevirtual 66, 3) := by decide +kernel
theorem dL_law_553 : decode cL_law 553 = .ok (.aload_n 2, 1) := by decide +kernel
theorem dL_law_554 : decode cL_law 554 = .ok (.aload_n 0, 1) := by decide +kernel
theorem dL_law_555 : decode cL_law 555 = .ok (.iload_n 3, 1) := by decide +kernel
theorem dL_law_556 : decode cL_law 556 = .ok (.iconst 1, 1) := by decide +kernel
theorem dL_law_557 : decode cL_law 557 = .ok (.iadd, 1) := by decide +kernel
theorem dL_law_558 : decode cL_law 558 = .ok (.iaload, 1) := by decide +kernel
theorem dL_law_559 : decode cL_law 559 = .ok (.aload_n 0, 1) := by decide +kernel
theorem dL_law_560 : decode cL_law 560 = .ok (.iload_n 3, 1) := by decide +kernel
theorem dL_law_561 : decode cL_law 561 = .ok (.iconst 2, 1) := by decide +kernel
theorem dL_law_562 : decode cL_law 562 = .ok (.iadd, 1) := by decide +kernel
theorem dL_law_563 : decode cL_law 563 = .ok (.iaload, 1) := by decide +kernel
theorem dL_law_564 : decode cL_law 564 = .ok (.invokevirtual 69, 3) := by decide +kernel
theorem dL_law_567 : decode cL_law 567 = .ok (.lcmp, 1) := by decide +kernel
theorem dL_law_568 : decode cL_law 568 = .ok (.ifCond .eq 885, 3) := by decide +kernel
theorem dL_law_571 : decode cL_law 571 = .ok (.iconst 0, 1) := by decide +kernel
theorem dL_law_572 : decode cL_law 572 = .ok (.ireturn, 1) := by decide +kernel
theorem dL_law_573 : decode cL_law 573 = .ok (.aload_n 1, 1) := by decide +kernel
theorem dL_law_574 : decode cL_law 574 = .ok (.aload_n 0, 1) := by decide +kernel
theorem dL_law_575 : decode cL_law 575 = .ok (.iload_n 3, 1) := by decide +kernel
theorem dL_law_576 : decode cL_law 576 = .ok (.iconst 1, 1) := by decide +kernel
theorem dL_law_577 : decode cL_law 577 = .ok (.iadd, 1) := by decide +kernel
theorem dL_law_578 : decode cL_law 578 = .ok (.iaload, 1) := by decide +kernel
theorem dL_law_579 : decode cL_law 579 = .ok (.aload_n 0, 1) := by decide +kernel
theorem dL_law_580 : decode cL_law 580 = .ok (.iload_n 3, 1) := by decide +kernel
theorem dL_law_581 : decode cL_law 581 = .ok (.iconst 2, 1) := by decide +kernel
theorem dL_law_582 : decode cL_law 582 = .ok (.iadd, 1) := by decide +kernel
theorem dL_law_583 : decode cL_law 583 = .ok (.iaload, 1) := by decide +kernel
theorem dL_law_584 : decode cL_law 584 = .ok (.invokevirtual 70, 3) := by decide +kernel
theorem dL_law_587 : decode cL_law 587 = .ok (.aload_n 2, 1) := by decide +kernel
theorem dL_law_588 : decode cL_law 588 = .ok (.aload_n 0, 1) := by decide +kernel
theorem dL_law_589 : decode cL_law 589 = .ok (.iload_n 3, 1) := by decide +kernel
theorem dL_law_590 : decode cL_law 590 = .ok (.iconst 1, 1) := by decide +kernel
theorem dL_law_591 : decode cL_law 591 = .ok (.iadd, 1) := by decide +kernel
theorem dL_law_592 : decode cL_law 592 = .ok (.iaload, 1) := by decide +kernel
theorem dL_law_593 : decode cL_law 593 = .ok (.aload_n 0, 1) := by decide +kernel
theorem dL_law_594 : decode cL_law 594 = .ok (.iload_n 3, 1) := by decide +kernel
theorem dL_law_595 : decode cL_law 595 = .ok (.iconst 2, 1) := by decide +kernel
theorem dL_law_596 : decode cL_law 596 = .ok (.iadd, 1) := by decide +kernel
theorem dL_law_597 : decode cL_law 597 = .ok (.iaload, 1) := by decide +kernel
theorem dL_law_598 : decode cL_law 598 = .ok (.invokevirtual 73, 3) := by decide +kernel
theorem dL_law_601 : decode cL_law 601 = .ok (.if_icmp .eq 852, 3) := by decide +kernel
theorem dL_law_604 : decode cL_law 604 = .ok (.iconst 0, 1) := by decide +kernel
theorem dL_law_605 : decode cL_law 605 = .ok (.ireturn, 1) := by decide +kernel
theorem dL_law_606 : decode cL_law 606 = .ok (.aload_n 1, 1) := by decide +kernel
theorem dL_law_607 : decode cL_law 607 = .ok (.aload_n 0, 1) := by decide +kernel
theorem dL_law_608 : decode cL_law 608 = .ok (.iload_n 3, 1) := by decide +kernel
theorem dL_law_609 : decode cL_law 609 = .ok (.iconst 1, 1) := by decide +kernel
theorem dL_law_610 : decode cL_law 610 = .ok (.iadd, 1) := by decide +kernel
theorem dL_law_611 : decode cL_law 611 = .ok (.iaload, 1) := by decide +kernel
theorem dL_law_612 : decode cL_law 612 = .ok (.aload_n 0, 1) := by decide +kernel
theorem dL_law_613 : decode cL_law 613 = .ok (.iload_n 3, 1) := by decide +kernel
theorem dL_law_614 : decode cL_law 614 = .ok (.iconst 2, 1) := by decide +kernel
theorem dL_law_615 : decode cL_law 615 = .ok (.iadd, 1) := by decide +kernel
theorem dL_law_616 : decode cL_law 616 = .ok (.iaload, 1) := by decide +kernel
theorem dL_law_617 : decode cL_law 617 = .ok (.invokevirtual 74, 3) := by decide +kernel
theorem dL_law_620 : decode cL_law 620 = .ok (.aload_n 2, 1) := by decide +kernel
theorem dL_law_621 : decode cL_law 621 = .ok (.aload_n 0, 1) := by decide +kernel
theorem dL_law_622 : decode cL_law 622 = .ok (.iload_n 3, 1) := by decide +kernel
theorem dL_law_623 : decode cL_law 623 = .ok (.iconst 1, 1) := by decide +kernel
theorem dL_law_624 : decode cL_law 624 = .ok (.iadd, 1) := by decide +kernel
theorem dL_law_625 : decode cL_law 625 = .ok (.iaload, 1) := by decide +kernel
theorem dL_law_626 : decode cL_law 626 = .ok (.aload_n 0, 1) := by decide +kernel
theorem dL_law_627 : decode cL_law 627 = .ok (.iload_n 3, 1) := by decide +kernel
theorem dL_law_628 : decode cL_law 628 = .ok (.iconst 2, 1) := by decide +kernel
theorem dL_law_629 : decode cL_law 629 = .ok (.iadd, 1) := by decide +kernel
theorem dL_law_630 : decode cL_law 630 = .ok (.iaload, 1) := by decide +kernel
theorem dL_law_631 : decode cL_law 631 = .ok (.invokevirtual 77, 3) := by decide +kernel
theorem dL_law_634 : decode cL_law 634 = .ok (.if_icmp .eq 819, 3) := by decide +kernel
theorem dL_law_637 : decode cL_law 637 = .ok (.iconst 0, 1) := by decide +kernel
theorem dL_law_638 : decode cL_law 638 = .ok (.ireturn, 1) := by decide +kernel
theorem dL_law_639 : decode cL_law 639 = .ok (.aload_n 1, 1) := by decide +kernel
theorem dL_law_640 : decode cL_law 640 = .ok (.aload_n 0, 1) := by decide +kernel
theorem dL_law_641 : decode cL_law 641 = .ok (.iload_n 3, 1) := by decide +kernel
theorem dL_law_642 : decode cL_law 642 = .ok (.iconst 1, 1) := by decide +kernel
theorem dL_law_643 : decode cL_law 643 = .ok (.iadd, 1) := by decide +kernel
theorem dL_law_644 : decode cL_law 644 = .ok (.iaload, 1) := by decide +kernel
theorem dL_law_645 : decode cL_law 645 = .ok (.invokevirtual 78, 3) := by decide +kernel
theorem dL_law_648 : decode cL_law 648 = .ok (.aload_n 2, 1) := by decide +kernel
theorem dL_law_649 : decode cL_law 649 = .ok (.aload_n 0, 1) := by decide +kernel
theorem dL_law_650 : decode cL_law 650 = .ok (.iload_n 3, 1) := by decide +kernel
theorem dL_law_651 : decode cL_law 651 = .ok (.iconst 1, 1) := by decide +kernel
theorem dL_law_652 : decode cL_law 652 = .ok (.iadd, 1) := by decide +kernel
theorem dL_law_653 : decode cL_law 653 = .ok (.iaload, 1) := by decide +kernel
theorem dL_law_654 : decode cL_law 654 = .ok (.invokevirtual 81, 3) := by decide +kernel
theorem dL_law_657 : decode cL_law 657 = .ok (.if_icmp .eq 796, 3) := by decide +kernel
theorem dL_law_660 : decode cL_law 660 = .ok (.iconst 0, 1) := by decide +kernel
theorem dL_law_661 : decode cL_law 661 = .ok (.ireturn, 1) := by decide +kernel
theorem dL_law_662 : decode cL_law 662 = .ok (.aload_n 1, 1) := by decide +kernel
theorem dL_law_663 : decode cL_law 663 = .ok (.aload_n 0, 1) := by decide +kernel
theorem dL_law_664 : decode cL_law 664 = .ok (.iload_n 3, 1) := by decide +kernel
theorem dL_law_665 : decode cL_law 665 = .ok (.iconst 1, 1) := by decide +kernel
theorem dL_law_666 : decode cL_law 666 = .ok (.iadd, 1) := by decide +kernel
theorem dL_law_667 : decode cL_law 667 = .ok (.iaload, 1) := by decide +kernel
theorem dL_law_668 : decode cL_law 668 = .ok (.aload_n 0, 1) := by decide +kernel
theorem dL_law_669 : decode cL_law 669 = .ok (.iload_n 3, 1) := by decide +kernel
theorem dL_law_670 : decode cL_law 670 = .ok (.iconst 2, 1) := by decide +kernel
theorem dL_law_671 : decode cL_law 671 = .ok (.iadd, 1) := by decide +kernel
theorem dL_law_672 : decode cL_law 672 = .ok (.iaload, 1) := by decide +kernel
theorem dL_law_673 : decode cL_law 673 = .ok (.aload_n 0, 1) := by decide +kernel
theorem dL_law_674 : decode cL_law 674 = .ok (.iload_n 3, 1) := by decide +kernel
theorem dL_law_675 : decode cL_law 675 = .ok (.iconst 3, 1) := by decide +kernel
theorem dL_law_676 : decode cL_law 676 = .ok (.iadd, 1) := by decide +kernel
theorem dL_law_677 : decode cL_law 677 = .ok (.iaload, 1) := by decide +kernel
theorem dL_law_678 : decode cL_law 678 = .ok (.invokevirtual 82, 3) := by decide +kernel
theorem dL_law_681 : decode cL_law 681 = .ok (.aload_n 2, 1) := by decide +kernel
theorem dL_law_682 : decode cL_law 682 = .ok (.aload_n 0, 1) := by decide +kernel
theorem dL_law_683 : decode cL_law 683 = .ok (.iload_n 3, 1) := by decide +kernel
theorem dL_law_684 : decode cL_law 684 = .ok (.iconst 1, 1) := by decide +kernel
theorem dL_law_685 : decode cL_law 685 = .ok (.iadd, 1) := by decide +kernel
theorem dL_law_686 : decode cL_law 686 = .ok (.iaload, 1) := by decide +kernel
theorem dL_law_687 : decode cL_law 687 = .ok (.aload_n 0, 1) := by decide +kernel
theorem dL_law_688 : decode cL_law 688 = .ok (.iload_n 3, 1) := by decide +kernel
theorem dL_law_689 : decode cL_law 689 = .ok (.iconst 2, 1) := by decide +kernel
theorem dL_law_690 : decode cL_law 690 = .ok (.iadd, 1) := by decide +kernel
theorem dL_law_691 : decode cL_law 691 = .ok (.iaload, 1) := by decide +kernel
theorem dL_law_692 : decode cL_law 692 = .ok (.aload_n 0, 1) := by decide +kernel
theorem dL_law_693 : decode cL_law 693 = .ok (.iload_n 3, 1) := by decide +kernel
theorem dL_law_694 : decode cL_law 694 = .ok (.iconst 3, 1) := by decide +kernel
theorem dL_law_695 : decode cL_law 695 = .ok (.iadd, 1) := by decide +kernel
theorem dL_law_696 : decode cL_law 696 = .ok (.iaload, 1) := by decide +kernel
theorem dL_law_697 : decode cL_law 697 = .ok (.invokevirtual 85, 3) := by decide +kernel
theorem dL_law_700 : decode cL_law 700 = .ok (.lcmp, 1) := by decide +kernel
theorem dL_law_701 : decode cL_law 701 = .ok (.ifCond .eq 752, 3) := by decide +kernel
theorem dL_law_704 : decode cL_law 704 = .ok (.iconst 0, 1) := by decide +kernel
theorem dL_law_705 : decode cL_law 705 = .ok (.ireturn, 1) := by decide +kernel
theorem dL_law_706 : decode cL_law 706 = .ok (.aload_n 1, 1) := by decide +kernel
theorem dL_law_707 : decode cL_law 707 = .ok (.aload_n 0, 1) := by decide +kernel
theorem dL_law_708 : decode cL_law 708 = .ok (.iload_n 3, 1) := by decide +kernel
theorem dL_law_709 : decode cL_law 709 = .ok (.iconst 1, 1) := by decide +kernel
theorem dL_law_710 : decode cL_law 710 = .ok (.iadd, 1) := by decide +kernel
theorem dL_law_711 : decode cL_law 711 = .ok (.iaload, 1) := by decide +kernel
theorem dL_law_712 : decode cL_law 712 = .ok (.aload_n 0, 1) := by decide +kernel
theorem dL_law_713 : decode cL_law 713 = .ok (.iload_n 3, 1) := by decide +kernel
theorem dL_law_714 : decode cL_law 714 = .ok (.iconst 2, 1) := by decide +kernel
theorem dL_law_715 : decode cL_law 715 = .ok (.iadd, 1) := by decide +kernel
theorem dL_law_716 : decode cL_law 716 = .ok (.iaload, 1) := by decide +kernel
theorem dL_law_717 : decode cL_law 717 = .ok (.aload_n 0, 1) := by decide +kernel
theorem dL_law_718 : decode cL_law 718 = .ok (.iload_n 3, 1) := by decide +kernel
theorem dL_law_719 : decode cL_law 719 = .ok (.iconst 3, 1) := by decide +kernel
theorem dL_law_720 : decode cL_law 720 = .ok (.iadd, 1) := by decide +kernel
theorem dL_law_721 : decode cL_law 721 = .ok (.iaload, 1) := by decide +kernel
theorem dL_law_722 : decode cL_law 722 = .ok (.aload_n 0, 1) := by decide +kernel
theorem dL_law_723 : decode cL_law 723 = .ok (.iload_n 3, 1) := by decide +kernel
theorem dL_law_724 : decode cL_law 724 = .ok (.iconst 4, 1) := by decide +kernel
theorem dL_law_725 : decode cL_law 725 = .ok (.iadd, 1) := by decide +kernel
theorem dL_law_726 : decode cL_law 726 = .ok (.iaload, 1) := by decide +kernel
theorem dL_law_727 : decode cL_law 727 = .ok (.invokevirtual 86, 3) := by decide +kernel
theorem dL_law_730 : decode cL_law 730 = .ok (.aload_n 2, 1) := by decide +kernel
theorem dL_law_731 : decode cL_law 731 = .ok (.aload_n 0, 1) := by decide +kernel
theorem dL_law_732 : decode cL_law 732 = .ok (.iload_n 3, 1) := by decide +kernel
theorem dL_law_733 : decode cL_law 733 = .ok (.iconst 1, 1) := by decide +kernel
theorem dL_law_734 : decode cL_law 734 = .ok (.iadd, 1) := by decide +kernel
theorem dL_law_735 : decode cL_law 735 = .ok (.iaload, 1) := by decide +kernel
theorem dL_law_736 : decode cL_law 736 = .ok (.aload_n 0, 1) := by decide +kernel
theorem dL_law_737 : decode cL_law 737 = .ok (.iload_n 3, 1) := by decide +kernel
theorem dL_law_738 : decode cL_law 738 = .ok (.iconst 2, 1) := by decide +kernel
theorem dL_law_739 : decode cL_law 739 = .ok (.iadd, 1) := by decide +kernel
theorem dL_law_740 : decode cL_law 740 = .ok (.iaload, 1) := by decide +kernel
theorem dL_law_741 : decode cL_law 741 = .ok (.aload_n 0, 1) := by decide +kernel
theorem dL_law_742 : decode cL_law 742 = .ok (.iload_n 3, 1) := by decide +kernel
theorem dL_law_743 : decode cL_law 743 = .ok (.iconst 3, 1) := by decide +kernel
theorem dL_law_744 : decode cL_law 744 = .ok (.iadd, 1) := by decide +kernel
theorem dL_law_745 : decode cL_law 745 = .ok (.iaload, 1) := by decide +kernel
theorem dL_law_746 : decode cL_law 746 = .ok (.aload_n 0, 1) := by decide +kernel
theorem dL_law_747 : decode cL_law 747 = .ok (.iload_n 3, 1) := by decide +kernel
theorem dL_law_748 : decode cL_law 748 = .ok (.iconst 4, 1) := by decide +kernel
theorem dL_law_749 : decode cL_law 749 = .ok (.iadd, 1) := by decide +kernel
theorem dL_law_750 : decode cL_law 750 = .ok (.iaload, 1) := by decide +kernel
theorem dL_law_751 : decode cL_law 751 = .ok (.invokevirtual 90, 3) := by decide +kernel
theorem dL_law_754 : decode cL_law 754 = .ok (.lcmp, 1) := by decide +kernel
theorem dL_law_755 : decode cL_law 755 = .ok (.ifCond .eq 698, 3) := by decide +kernel
theorem dL_law_758 : decode cL_law 758 = .ok (.iconst 0, 1) := by decide +kernel
theorem dL_law_759 : decode cL_law 759 = .ok (.ireturn, 1) := by decide +kernel
theorem dL_law_760 : decode cL_law 760 = .ok (.aload_n 1, 1) := by decide +kernel
theorem dL_law_761 : decode cL_law 761 = .ok (.aload_n 0, 1) := by decide +kernel
theorem dL_law_762 : decode cL_law 762 = .ok (.iload_n 3, 1) := by decide +kernel
theorem dL_law_763 : decode cL_law 763 = .ok (.iconst 1, 1) := by decide +kernel
theorem dL_law_764 : decode cL_law 764 = .ok (.iadd, 1) := by decide +kernel
theorem dL_law_765 : decode cL_law 765 = .ok (.iaload, 1) := by decide +kernel
theorem dL_law_766 : decode cL_law 766 = .ok (.invokevirtual 91, 3) := by decide +kernel
theorem dL_law_769 : decode cL_law 769 = .ok (.aload_n 2, 1) := by decide +kernel
theorem dL_law_770 : decode cL_law 770 = .ok (.aload_n 0, 1) := by decide +kernel
theorem dL_law_771 : decode cL_law 771 = .ok (.iload_n 3, 1) := by decide +kernel
theorem dL_law_772 : decode cL_law 772 = .ok (.iconst 1, 1) := by decide +kernel
theorem dL_law_773 : decode cL_law 773 = .ok (.iadd, 1) := by decide +kernel
theorem dL_law_774 : decode cL_law 774 = .ok (.iaload, 1) := by decide +kernel
theorem dL_law_775 : decode cL_law 775 = .ok (.invokevirtual 94, 3) := by decide +kernel
theorem dL_law_778 : decode cL_law 778 = .ok (.if_icmp .eq 675, 3) := by decide +kernel
theorem dL_law_781 : decode cL_law 781 = .ok (.iconst 0, 1) := by decide +kernel
theorem dL_law_782 : decode cL_law 782 = .ok (.ireturn, 1) := by decide +kernel
theorem dL_law_783 : decode cL_law 783 = .ok (.aload_n 1, 1) := by decide +kernel
theorem dL_law_784 : decode cL_law 784 = .ok (.aload_n 0, 1) := by decide +kernel
theorem dL_law_785 : decode cL_law 785 = .ok (.iload_n 3, 1) := by decide +kernel
theorem dL_law_786 : decode cL_law 786 = .ok (.iconst 1, 1) := by decide +kernel
theorem dL_law_787 : decode cL_law 787 = .ok (.iadd, 1) := by decide +kernel
theorem dL_law_788 : decode cL_law 788 = .ok (.iaload, 1) := by decide +kernel
theorem dL_law_789 : decode cL_law 789 = .ok (.invokevirtual 95, 3) := by decide +kernel
theorem dL_law_792 : decode cL_law 792 = .ok (.aload_n 2, 1) := by decide +kernel
theorem dL_law_793 : decode cL_law 793 = .ok (.aload_n 0, 1) := by decide +kernel
theorem dL_law_794 : decode cL_law 794 = .ok (.iload_n 3, 1) := by decide +kernel
theorem dL_law_795 : decode cL_law 795 = .ok (.iconst 1, 1) := by decide +kernel
theorem dL_law_796 : decode cL_law 796 = .ok (.iadd, 1) := by decide +kernel
theorem dL_law_797 : decode cL_law 797 = .ok (.iaload, 1) := by decide +kernel
theorem dL_law_798 : decode cL_law 798 = .ok (.invokevirtual 98, 3) := by decide +kernel
theorem dL_law_801 : decode cL_law 801 = .ok (.if_icmp .eq 652, 3) := by decide +kernel
theorem dL_law_804 : decode cL_law 804 = .ok (.iconst 0, 1) := by decide +kernel
theorem dL_law_805 : decode cL_law 805 = .ok (.ireturn, 1) := by decide +kernel
theorem dL_law_806 : decode cL_law 806 = .ok (.aload_n 1, 1) := by decide +kernel
theorem dL_law_807 : decode cL_law 807 = .ok (.aload_n 0, 1) := by decide +kernel
theorem dL_law_808 : decode cL_law 808 = .ok (.iload_n 3, 1) := by decide +kernel
theorem dL_law_809 : decode cL_law 809 = .ok (.iconst 1, 1) := by decide +kernel
theorem dL_law_810 : decode cL_law 810 = .ok (.iadd, 1) := by decide +kernel
theorem dL_law_811 : decode cL_law 811 = .ok (.iaload, 1) := by decide +kernel
theorem dL_law_812 : decode cL_law 812 = .ok (.aload_n 0, 1) := by decide +kernel
theorem dL_law_813 : decode cL_law 813 = .ok (.iload_n 3, 1) := by decide +kernel
theorem dL_law_814 : decode cL_law 814 = .ok (.iconst 2, 1) := by decide +kernel
theorem dL_law_815 : decode cL_law 815 = .ok (.iadd, 1) := by decide +kernel
theorem dL_law_816 : decode cL_law 816 = .ok (.iaload, 1) := by decide +kernel
theorem dL_law_817 : decode cL_law 817 = .ok (.invokevirtual 99, 3) := by decide +kernel
theorem dL_law_820 : decode cL_law 820 = .ok (.aload_n 2, 1) := by decide +kernel
theorem dL_law_821 : decode cL_law 821 = .ok (.aload_n 0, 1) := by decide +kernel
theorem dL_law_822 : decode cL_law 822 = .ok (.iload_n 3, 1) := by decide +kernel
theorem dL_law_823 : decode cL_law 823 = .ok (.iconst 1, 1) := by decide +kernel
theorem dL_law_824 : decode cL_law 824 = .ok (.iadd, 1) := by decide +kernel
theorem dL_law_825 : decode cL_law 825 = .ok (.iaload, 1) := by decide +kernel
theorem dL_law_826 : decode cL_law 826 = .ok (.aload_n 0, 1) := by decide +kernel
theorem dL_law_827 : decode cL_law 827 = .ok (.iload_n 3, 1) := by decide +kernel
theorem dL_law_828 : decode cL_law 828 = .ok (.iconst 2, 1) := by decide +kernel
theorem dL_law_829 : decode cL_law 829 = .ok (.iadd, 1) := by decide +kernel
theorem dL_law_830 : decode cL_law 830 = .ok (.iaload, 1) := by decide +kernel
theorem dL_law_831 : decode cL_law 831 = .ok (.invokevirtual 102, 3) := by decide +kernel
theorem dL_law_834 : decode cL_law 834 = .ok (.if_icmp .eq 619, 3) := by decide +kernel
theorem dL_law_837 : decode cL_law 837 = .ok (.iconst 0, 1) := by decide +kernel
theorem dL_law_838 : decode cL_law 838 = .ok (.ireturn, 1) := by decide +kernel
theorem dL_law_839 : decode cL_law 839 = .ok (.aload_n 1, 1) := by decide +kernel
theorem dL_law_840 : decode cL_law 840 = .ok (.aload_n 0, 1) := by decide +kernel
theorem dL_law_841 : decode cL_law 841 = .ok (.iload_n 3, 1) := by decide +kernel
theorem dL_law_842 : decode cL_law 842 = .ok (.iconst 1, 1) := by decide +kernel
theorem dL_law_843 : decode cL_law 843 = .ok (.iadd, 1) := by decide +kernel
theorem dL_law_844 : decode cL_law 844 = .ok (.iaload, 1) := by decide +kernel
theorem dL_law_845 : decode cL_law 845 = .ok (.aload_n 0, 1) := by decide +kernel
theorem dL_law_846 : decode cL_law 846 = .ok (.iload_n 3, 1) := by decide +kernel
theorem dL_law_847 : decode cL_law 847 = .ok (.iconst 2, 1) := by decide +kernel
theorem dL_law_848 : decode cL_law 848 = .ok (.iadd, 1) := by decide +kernel
theorem dL_law_849 : decode cL_law 849 = .ok (.iaload, 1) := by decide +kernel
theorem dL_law_850 : decode cL_law 850 = .ok (.invokevirtual 103, 3) := by decide +kernel
theorem dL_law_853 : decode cL_law 853 = .ok (.aload_n 2, 1) := by decide +kernel
theorem dL_law_854 : decode cL_law 854 = .ok (.aload_n 0, 1) := by decide +kernel
theorem dL_law_855 : decode cL_law 855 = .ok (.iload_n 3, 1) := by decide +kernel
theorem dL_law_856 : decode cL_law 856 = .ok (.iconst 1, 1) := by decide +kernel
theorem dL_law_857 : decode cL_law 857 = .ok (.iadd, 1) := by decide +kernel
theorem dL_law_858 : decode cL_law 858 = .ok (.iaload, 1) := by decide +kernel
theorem dL_law_859 : decode cL_law 859 = .ok (.aload_n 0, 1) := by decide +kernel
theorem dL_law_860 : decode cL_law 860 = .ok (.iload_n 3, 1) := by decide +kernel
theorem dL_law_861 : decode cL_law 861 = .ok (.iconst 2, 1) := by decide +kernel
theorem dL_law_862 : decode cL_law 862 = .ok (.iadd, 1) := by decide +kernel
theorem dL_law_863 : decode cL_law 863 = .ok (.iaload, 1) := by decide +kernel
theorem dL_law_864 : decode cL_law 864 = .ok (.invokevirtual 106, 3) := by decide +kernel
theorem dL_law_867 : decode cL_law 867 = .ok (.lcmp, 1) := by decide +kernel
theorem dL_law_868 : decode cL_law 868 = .ok (.ifCond .eq 585, 3) := by decide +kernel
theorem dL_law_871 : decode cL_law 871 = .ok (.iconst 0, 1) := by decide +kernel
theorem dL_law_872 : decode cL_law 872 = .ok (.ireturn, 1) := by decide +kernel
theorem dL_law_873 : decode cL_law 873 = .ok (.aload_n 1, 1) := by decide +kernel
theorem dL_law_874 : decode cL_law 874 = .ok (.aload_n 0, 1) := by decide +kernel
theorem dL_law_875 : decode cL_law 875 = .ok (.iload_n 3, 1) := by decide +kernel
theorem dL_law_876 : decode cL_law 876 = .ok (.iconst 1, 1) := by decide +kernel
theorem dL_law_877 : decode cL_law 877 = .ok (.iadd, 1) := by decide +kernel
theorem dL_law_878 : decode cL_law 878 = .ok (.iaload, 1) := by decide +kernel
theorem dL_law_879 : decode cL_law 879 = .ok (.invokevirtual 107, 3) := by decide +kernel
theorem dL_law_882 : decode cL_law 882 = .ok (.aload_n 2, 1) := by decide +kernel
theorem dL_law_883 : decode cL_law 883 = .ok (.aload_n 0, 1) := by decide +kernel
theorem dL_law_884 : decode cL_law 884 = .ok (.iload_n 3, 1) := by decide +kernel
theorem dL_law_885 : decode cL_law 885 = .ok (.iconst 1, 1) := by decide +kernel
theorem dL_law_886 : decode cL_law 886 = .ok (.iadd, 1) := by decide +kernel
theorem dL_law_887 : decode cL_law 887 = .ok (.iaload, 1) := by decide +kernel
theorem dL_law_888 : decode cL_law 888 = .ok (.invokevirtual 111, 3) := by decide +kernel
theorem dL_law_891 : decode cL_law 891 = .ok (.lcmp, 1) := by decide +kernel
theorem dL_law_892 : decode cL_law 892 = .ok (.ifCond .eq 561, 3) := by decide +kernel
theorem dL_law_895 : decode cL_law 895 = .ok (.iconst 0, 1) := by decide +kernel
theorem dL_law_896 : decode cL_law 896 = .ok (.ireturn, 1) := by decide +kernel
theorem dL_law_897 : decode cL_law 897 = .ok (.aload_n 1, 1) := by decide +kernel
theorem dL_law_898 : decode cL_law 898 = .ok (.aload_n 0, 1) := by decide +kernel
theorem dL_law_899 : decode cL_law 899 = .ok (.iload_n 3, 1) := by decide +kernel
theorem dL_law_900 : decode cL_law 900 = .ok (.iconst 1, 1) := by decide +kernel
theorem dL_law_901 : decode cL_law 901 = .ok (.iadd, 1) := by decide +kernel
theorem dL_law_902 : decode cL_law 902 = .ok (.iaload, 1) := by decide +kernel
theorem dL_law_903 : decode cL_law 903 = .ok (.invokevirtual 112, 3) := by decide +kernel
theorem dL_law_906 : decode cL_law 906 = .ok (.aload_n 2, 1) := by decide +kernel
theorem dL_law_907 : decode cL_law 907 = .ok (.aload_n 0, 1) := by decide +kernel
theorem dL_law_908 : decode cL_law 908 = .ok (.iload_n 3, 1) := by decide +kernel
theorem dL_law_909 : decode cL_law 909 = .ok (.iconst 1, 1) := by decide +kernel
theorem dL_law_910 : decode cL_law 910 = .ok (.iadd, 1) := by decide +kernel
theorem dL_law_911 : decode cL_law 911 = .ok (.iaload, 1) := by decide +kernel
theorem dL_law_912 : decode cL_law 912 = .ok (.invokevirtual 115, 3) := by decide +kernel
theorem dL_law_915 : decode cL_law 915 = .ok (.if_icmp .eq 538, 3) := by decide +kernel
theorem dL_law_918 : decode cL_law 918 = .ok (.iconst 0, 1) := by decide +kernel
theorem dL_law_919 : decode cL_law 919 = .ok (.ireturn, 1) := by decide +kernel
theorem dL_law_920 : decode cL_law 920 = .ok (.aload_n 1, 1) := by decide +kernel
theorem dL_law_921 : decode cL_law 921 = .ok (.aload_n 0, 1) := by decide +kernel
theorem dL_law_922 : decode cL_law 922 = .ok (.iload_n 3, 1) := by decide +kernel
theorem dL_law_923 : decode cL_law 923 = .ok (.iconst 1, 1) := by decide +kernel
theorem dL_law_924 : decode cL_law 924 = .ok (.iadd, 1) := by decide +kernel
theorem dL_law_925 : decode cL_law 925 = .ok (.iaload, 1) := by decide +kernel
theorem dL_law_926 : decode cL_law 926 = .ok (.aload_n 0, 1) := by decide +kernel
theorem dL_law_927 : decode cL_law 927 = .ok (.iload_n 3, 1) := by decide +kernel
theorem dL_law_928 : decode cL_law 928 = .ok (.iconst 2, 1) := by decide +kernel
theorem dL_law_929 : decode cL_law 929 = .ok (.iadd, 1) := by decide +kernel
theorem dL_law_930 : decode cL_law 930 = .ok (.iaload, 1) := by decide +kernel
theorem dL_law_931 : decode cL_law 931 = .ok (.aload_n 0, 1) := by decide +kernel
theorem dL_law_932 : decode cL_law 932 = .ok (.iload_n 3, 1) := by decide +kernel
theorem dL_law_933 : decode cL_law 933 = .ok (.iconst 3, 1) := by decide +kernel
theorem dL_law_934 : decode cL_law 934 = .ok (.iadd, 1) := by decide +kernel
theorem dL_law_935 : decode cL_law 935 = .ok (.iaload, 1) := by decide +kernel
theorem dL_law_936 : decode cL_law 936 = .ok (.invokevirtual 116, 3) := by decide +kernel
theorem dL_law_939 : decode cL_law 939 = .ok (.aload_n 2, 1) := by decide +kernel
theorem dL_law_940 : decode cL_law 940 = .ok (.aload_n 0, 1) := by decide +kernel
theorem dL_law_941 : decode cL_law 941 = .ok (.iload_n 3, 1) := by decide +kernel
theorem dL_law_942 : decode cL_law 942 = .ok (.iconst 1, 1) := by decide +kernel
theorem dL_law_943 : decode cL_law 943 = .ok (.iadd, 1) := by decide +kernel
theorem dL_law_944 : decode cL_law 944 = .ok (.iaload, 1) := by decide +kernel
theorem dL_law_945 : decode cL_law 945 = .ok (.aload_n 0, 1) := by decide +kernel
theorem dL_law_946 : decode cL_law 946 = .ok (.iload_n 3, 1) := by decide +kernel
theorem dL_law_947 : decode cL_law 947 = .ok (.iconst 2, 1) := by decide +kernel
theorem dL_law_948 : decode cL_law 948 = .ok (.iadd, 1) := by decide +kernel
theorem dL_law_949 : decode cL_law 949 = .ok (.iaload, 1) := by decide +kernel
theorem dL_law_950 : decode cL_law 950 = .ok (.aload_n 0, 1) := by decide +kernel
theorem dL_law_951 : decode cL_law 951 = .ok (.iload_n 3, 1) := by decide +kernel
theorem dL_law_952 : decode cL_law 952 = .ok (.iconst 3, 1) := by decide +kernel
theorem dL_law_953 : decode cL_law 953 = .ok (.iadd, 1) := by decide +kernel
theorem dL_law_954 : decode cL_law 954 = .ok (.iaload, 1) := by decide +kernel
theorem dL_law_955 : decode cL_law 955 = .ok (.invokevirtual 120, 3) := by decide +kernel
theorem dL_law_958 : decode cL_law 958 = .ok (.if_icmp .eq 495, 3) := by decide +kernel
theorem dL_law_961 : decode cL_law 961 = .ok (.iconst 0, 1) := by decide +kernel
theorem dL_law_962 : decode cL_law 962 = .ok (.ireturn, 1) := by decide +kernel
theorem dL_law_963 : decode cL_law 963 = .ok (.aload_n 1, 1) := by decide +kernel
theorem dL_law_964 : decode cL_law 964 = .ok (.aload_n 0, 1) := by decide +kernel
theorem dL_law_965 : decode cL_law 965 = .ok (.iload_n 3, 1) := by decide +kernel
theorem dL_law_966 : decode cL_law 966 = .ok (.iconst 1, 1) := by decide +kernel
theorem dL_law_967 : decode cL_law 967 = .ok (.iadd, 1) := by decide +kernel
theorem dL_law_968 : decode cL_law 968 = .ok (.iaload, 1) := by decide +kernel
theorem dL_law_969 : decode cL_law 969 = .ok (.aload_n 0, 1) := by decide +kernel
theorem dL_law_970 : decode cL_law 970 = .ok (.iload_n 3, 1) := by decide +kernel
theorem dL_law_971 : decode cL_law 971 = .ok (.iconst 2, 1) := by decide +kernel
theorem dL_law_972 : decode cL_law 972 = .ok (.iadd, 1) := by decide +kernel
theorem dL_law_973 : decode cL_law 973 = .ok (.iaload, 1) := by decide +kernel
theorem dL_law_974 : decode cL_law 974 = .ok (.aload_n 0, 1) := by decide +kernel
theorem dL_law_975 : decode cL_law 975 = .ok (.iload_n 3, 1) := by decide +kernel
theorem dL_law_976 : decode cL_law 976 = .ok (.iconst 3, 1) := by decide +kernel
theorem dL_law_977 : decode cL_law 977 = .ok (.iadd, 1) := by decide +kernel
theorem dL_law_978 : decode cL_law 978 = .ok (.iaload, 1) := by decide +kernel
theorem dL_law_979 : decode cL_law 979 = .ok (.aload_n 0, 1) := by decide +kernel
theorem dL_law_980 : decode cL_law 980 = .ok (.iload_n 3, 1) := by decide +kernel
theorem dL_law_981 : decode cL_law 981 = .ok (.iconst 4, 1) := by decide +kernel
theorem dL_law_982 : decode cL_law 982 = .ok (.iadd, 1) := by decide +kernel
theorem dL_law_983 : decode cL_law 983 = .ok (.iaload, 1) := by decide +kernel
theorem dL_law_984 : decode cL_law 984 = .ok (.aload_n 0, 1) := by decide +kernel
theorem dL_law_985 : decode cL_law 985 = .ok (.iload_n 3, 1) := by decide +kernel
theorem dL_law_986 : decode cL_law 986 = .ok (.iconst 5, 1) := by decide +kernel
theorem dL_law_987 : decode cL_law 987 = .ok (.iadd, 1) := by decide +kernel
theorem dL_law_988 : decode cL_law 988 = .ok (.iaload, 1) := by decide +kernel
theorem dL_law_989 : decode cL_law 989 = .ok (.invokevirtual 121, 3) := by decide +kernel
theorem dL_law_992 : decode cL_law 992 = .ok (.aload_n 2, 1) := by decide +kernel
theorem dL_law_993 : decode cL_law 993 = .ok (.aload_n 0, 1) := by decide +kernel
theorem dL_law_994 : decode cL_law 994 = .ok (.iload_n 3, 1) := by decide +kernel
theorem dL_law_995 : decode cL_law 995 = .ok (.iconst 1, 1) := by decide +kernel
theorem dL_law_996 : decode cL_law 996 = .ok (.iadd, 1) := by decide +kernel
theorem dL_law_997 : decode cL_law 997 = .ok (.iaload, 1) := by decide +kernel
theorem dL_law_998 : decode cL_law 998 = .ok (.aload_n 0, 1) := by decide +kernel
theorem dL_law_999 : decode cL_law 999 = .ok (.iload_n 3, 1) := by decide +kernel
theorem dL_law_1000 : decode cL_law 1000 = .ok (.iconst 2, 1) := by decide +kernel
theorem dL_law_1001 : decode cL_law 1001 = .ok (.iadd, 1) := by decide +kernel
theorem dL_law_1002 : decode cL_law 1002 = .ok (.iaload, 1) := by decide +kernel
theorem dL_law_1003 : decode cL_law 1003 = .ok (.aload_n 0, 1) := by decide +kernel
theorem dL_law_1004 : decode cL_law 1004 = .ok (.iload_n 3, 1) := by decide +kernel
theorem dL_law_1005 : decode cL_law 1005 = .ok (.iconst 3, 1) := by decide +kernel
theorem dL_law_1006 : decode cL_law 1006 = .ok (.iadd, 1) := by decide +kernel
theorem dL_law_1007 : decode cL_law 1007 = .ok (.iaload, 1) := by decide +kernel
theorem dL_law_1008 : decode cL_law 1008 = .ok (.aload_n 0, 1) := by decide +kernel
theorem dL_law_1009 : decode cL_law 1009 = .ok (.iload_n 3, 1) := by decide +kernel
theorem dL_law_1010 : decode cL_law 1010 = .ok (.iconst 4, 1) := by decide +kernel
theorem dL_law_1011 : decode cL_law 1011 = .ok (.iadd, 1) := by decide +kernel
theorem dL_law_1012 : decode cL_law 1012 = .ok (.iaload, 1) := by decide +kernel
theorem dL_law_1013 : decode cL_law 1013 = .ok (.aload_n 0, 1) := by decide +kernel
theorem dL_law_1014 : decode cL_law 1014 = .ok (.iload_n 3, 1) := by decide +kernel
theorem dL_law_1015 : decode cL_law 1015 = .ok (.iconst 5, 1) := by decide +kernel
theorem dL_law_1016 : decode cL_law 1016 = .ok (.iadd, 1) := by decide +kernel
theorem dL_law_1017 : decode cL_law 1017 = .ok (.iaload, 1) := by decide +kernel
theorem dL_law_1018 : decode cL_law 1018 = .ok (.invokevirtual 125, 3) := by decide +kernel
theorem dL_law_1021 : decode cL_law 1021 = .ok (.if_icmp .eq 432, 3) := by decide +kernel
theorem dL_law_1024 : decode cL_law 1024 = .ok (.iconst 0, 1) := by decide +kernel
theorem dL_law_1025 : decode cL_law 1025 = .ok (.ireturn, 1) := by decide +kernel
theorem dL_law_1026 : decode cL_law 1026 = .ok (.aload_n 1, 1) := by decide +kernel
theorem dL_law_1027 : decode cL_law 1027 = .ok (.aload_n 0, 1) := by decide +kernel
theorem dL_law_1028 : decode cL_law 1028 = .ok (.iload_n 3, 1) := by decide +kernel
theorem dL_law_1029 : decode cL_law 1029 = .ok (.iconst 1, 1) := by decide +kernel
theorem dL_law_1030 : decode cL_law 1030 = .ok (.iadd, 1) := by decide +kernel
theorem dL_law_1031 : decode cL_law 1031 = .ok (.iaload, 1) := by decide +kernel
theorem dL_law_1032 : decode cL_law 1032 = .ok (.aload_n 0, 1) := by decide +kernel
theorem dL_law_1033 : decode cL_law 1033 = .ok (.iload_n 3, 1) := by decide +kernel
theorem dL_law_1034 : decode cL_law 1034 = .ok (.iconst 2, 1) := by decide +kernel
theorem dL_law_1035 : decode cL_law 1035 = .ok (.iadd, 1) := by decide +kernel
theorem dL_law_1036 : decode cL_law 1036 = .ok (.iaload, 1) := by decide +kernel
theorem dL_law_1037 : decode cL_law 1037 = .ok (.invokevirtual 126, 3) := by decide +kernel
theorem dL_law_1040 : decode cL_law 1040 = .ok (.aload_n 2, 1) := by decide +kernel
theorem dL_law_1041 : decode cL_law 1041 = .ok (.aload_n 0, 1) := by decide +kernel
theorem dL_law_1042 : decode cL_law 1042 = .ok (.iload_n 3, 1) := by decide +kernel
theorem dL_law_1043 : decode cL_law 1043 = .ok (.iconst 1, 1) := by decide +kernel
theorem dL_law_1044 : decode cL_law 1044 = .ok (.iadd, 1) := by decide +kernel
theorem dL_law_1045 : decode cL_law 1045 = .ok (.iaload, 1) := by decide +kernel
theorem dL_law_1046 : decode cL_law 1046 = .ok (.aload_n 0, 1) := by decide +kernel
theorem dL_law_1047 : decode cL_law 1047 = .ok (.iload_n 3, 1) := by decide +kernel
theorem dL_law_1048 : decode cL_law 1048 = .ok (.iconst 2, 1) := by decide +kernel
theorem dL_law_1049 : decode cL_law 1049 = .ok (.iadd, 1) := by decide +kernel
theorem dL_law_1050 : decode cL_law 1050 = .ok (.iaload, 1) := by decide +kernel
theorem dL_law_1051 : decode cL_law 1051 = .ok (.invokevirtual 129, 3) := by decide +kernel
theorem dL_law_1054 : decode cL_law 1054 = .ok (.if_icmp .eq 399, 3) := by decide +kernel
theorem dL_law_1057 : decode cL_law 1057 = .ok (.iconst 0, 1) := by decide +kernel
theorem dL_law_1058 : decode cL_law 1058 = .ok (.ireturn, 1) := by decide +kernel
theorem dL_law_1059 : decode cL_law 1059 = .ok (.aload_n 1, 1) := by decide +kernel
theorem dL_law_1060 : decode cL_law 1060 = .ok (.aload_n 0, 1) := by decide +kernel
theorem dL_law_1061 : decode cL_law 1061 = .ok (.iload_n 3, 1) := by decide +kernel
theorem dL_law_1062 : decode cL_law 1062 = .ok (.iconst 1, 1) := by decide +kernel
theorem dL_law_1063 : decode cL_law 1063 = .ok (.iadd, 1) := by decide +kernel
theorem dL_law_1064 : decode cL_law 1064 = .ok (.iaload, 1) := by decide +kernel
theorem dL_law_1065 : decode cL_law 1065 = .ok (.aload_n 0, 1) := by decide +kernel
theorem dL_law_1066 : decode cL_law 1066 = .ok (.iload_n 3, 1) := by decide +kernel
theorem dL_law_1067 : decode cL_law 1067 = .ok (.iconst 2, 1) := by decide +kernel
theorem dL_law_1068 : decode cL_law 1068 = .ok (.iadd, 1) := by decide +kernel
theorem dL_law_1069 : decode cL_law 1069 = .ok (.iaload, 1) := by decide +kernel
theorem dL_law_1070 : decode cL_law 1070 = .ok (.invokevirtual 130, 3) := by decide +kernel
theorem dL_law_1073 : decode cL_law 1073 = .ok (.aload_n 2, 1) := by decide +kernel
theorem dL_law_1074 : decode cL_law 1074 = .ok (.aload_n 0, 1) := by decide +kernel
theorem dL_law_1075 : decode cL_law 1075 = .ok (.iload_n 3, 1) := by decide +kernel
theorem dL_law_1076 : decode cL_law 1076 = .ok (.iconst 1, 1) := by decide +kernel
theorem dL_law_1077 : decode cL_law 1077 = .ok (.iadd, 1) := by decide +kernel
theorem dL_law_1078 : decode cL_law 1078 = .ok (.iaload, 1) := by decide +kernel
theorem dL_law_1079 : decode cL_law 1079 = .ok (.aload_n 0, 1) := by decide +kernel
theorem dL_law_1080 : decode cL_law 1080 = .ok (.iload_n 3, 1) := by decide +kernel
theorem dL_law_1081 : decode cL_law 1081 = .ok (.iconst 2, 1) := by decide +kernel
theorem dL_law_1082 : decode cL_law 1082 = .ok (.iadd, 1) := by decide +kernel
theorem dL_law_1083 : decode cL_law 1083 = .ok (.iaload, 1) := by decide +kernel
theorem dL_law_1084 : decode cL_law 1084 = .ok (.invokevirtual 133, 3) := by decide +kernel
theorem dL_law_1087 : decode cL_law 1087 = .ok (.if_icmp .eq 366, 3) := by decide +kernel
theorem dL_law_1090 : decode cL_law 1090 = .ok (.iconst 0, 1) := by decide +kernel
theorem dL_law_1091 : decode cL_law 1091 = .ok (.ireturn, 1) := by decide +kernel
theorem dL_law_1092 : decode cL_law 1092 = .ok (.aload_n 1, 1) := by decide +kernel
theorem dL_law_1093 : decode cL_law 1093 = .ok (.aload_n 0, 1) := by decide +kernel
theorem dL_law_1094 : decode cL_law 1094 = .ok (.iload_n 3, 1) := by decide +kernel
theorem dL_law_1095 : decode cL_law 1095 = .ok (.iconst 1, 1) := by decide +kernel
theorem dL_law_1096 : decode cL_law 1096 = .ok (.iadd, 1) := by decide +kernel
theorem dL_law_1097 : decode cL_law 1097 = .ok (.iaload, 1) := by decide +kernel
theorem dL_law_1098 : decode cL_law 1098 = .ok (.invokevirtual 134, 3) := by decide +kernel
theorem dL_law_1101 : decode cL_law 1101 = .ok (.aload_n 2, 1) := by decide +kernel
theorem dL_law_1102 : decode cL_law 1102 = .ok (.aload_n 0, 1) := by decide +kernel
theorem dL_law_1103 : decode cL_law 1103 = .ok (.iload_n 3, 1) := by decide +kernel
theorem dL_law_1104 : decode cL_law 1104 = .ok (.iconst 1, 1) := by decide +kernel
theorem dL_law_1105 : decode cL_law 1105 = .ok (.iadd, 1) := by decide +kernel
theorem dL_law_1106 : decode cL_law 1106 = .ok (.iaload, 1) := by decide +kernel
theorem dL_law_1107 : decode cL_law 1107 = .ok (.invokevirtual 137, 3) := by decide +kernel
theorem dL_law_1110 : decode cL_law 1110 = .ok (.if_icmp .eq 343, 3) := by decide +kernel
theorem dL_law_1113 : decode cL_law 1113 = .ok (.iconst 0, 1) := by decide +kernel
theorem dL_law_1114 : decode cL_law 1114 = .ok (.ireturn, 1) := by decide +kernel
theorem dL_law_1115 : decode cL_law 1115 = .ok (.aload_n 1, 1) := by decide +kernel
theorem dL_law_1116 : decode cL_law 1116 = .ok (.aload_n 0, 1) := by decide +kernel
theorem dL_law_1117 : decode cL_law 1117 = .ok (.iload_n 3, 1) := by decide +kernel
theorem dL_law_1118 : decode cL_law 1118 = .ok (.iconst 1, 1) := by decide +kernel
theorem dL_law_1119 : decode cL_law 1119 = .ok (.iadd, 1) := by decide +kernel
theorem dL_law_1120 : decode cL_law 1120 = .ok (.iaload, 1) := by decide +kernel
theorem dL_law_1121 : decode cL_law 1121 = .ok (.aload_n 0, 1) := by decide +kernel
theorem dL_law_1122 : decode cL_law 1122 = .ok (.iload_n 3, 1) := by decide +kernel
theorem dL_law_1123 : decode cL_law 1123 = .ok (.iconst 2, 1) := by decide +kernel
theorem dL_law_1124 : decode cL_law 1124 = .ok (.iadd, 1) := by decide +kernel
theorem dL_law_1125 : decode cL_law 1125 = .ok (.iaload, 1) := by decide +kernel
theorem dL_law_1126 : decode cL_law 1126 = .ok (.aload_n 0, 1) := by decide +kernel
theorem dL_law_1127 : decode cL_law 1127 = .ok (.iload_n 3, 1) := by decide +kernel
theorem dL_law_1128 : decode cL_law 1128 = .ok (.iconst 3, 1) := by decide +kernel
theorem dL_law_1129 : decode cL_law 1129 = .ok (.iadd, 1) := by decide +kernel
theorem dL_law_1130 : decode cL_law 1130 = .ok (.iaload, 1) := by decide +kernel
theorem dL_law_1131 : decode cL_law 1131 = .ok (.invokevirtual 138, 3) := by decide +kernel
theorem dL_law_1134 : decode cL_law 1134 = .ok (.aload_n 2, 1) := by decide +kernel
theorem dL_law_1135 : decode cL_law 1135 = .ok (.aload_n 0, 1) := by decide +kernel
theorem dL_law_1136 : decode cL_law 1136 = .ok (.iload_n 3, 1) := by decide +kernel
theorem dL_law_1137 : decode cL_law 1137 = .ok (.iconst 1, 1) := by decide +kernel
theorem dL_law_1138 : decode cL_law 1138 = .ok (.iadd, 1) := by decide +kernel
theorem dL_law_1139 : decode cL_law 1139 = .ok (.iaload, 1) := by decide +kernel
theorem dL_law_1140 : decode cL_law 1140 = .ok (.aload_n 0, 1) := by decide +kernel
theorem dL_law_1141 : decode cL_law 1141 = .ok (.iload_n 3, 1) := by decide +kernel
theorem dL_law_1142 : decode cL_law 1142 = .ok (.iconst 2, 1) := by decide +kernel
theorem dL_law_1143 : decode cL_law 1143 = .ok (.iadd, 1) := by decide +kernel
theorem dL_law_1144 : decode cL_law 1144 = .ok (.iaload, 1) := by decide +kernel
theorem dL_law_1145 : decode cL_law 1145 = .ok (.aload_n 0, 1) := by decide +kernel
theorem dL_law_1146 : decode cL_law 1146 = .ok (.iload_n 3, 1) := by decide +kernel
theorem dL_law_1147 : decode cL_law 1147 = .ok (.iconst 3, 1) := by decide +kernel
theorem dL_law_1148 : decode cL_law 1148 = .ok (.iadd, 1) := by decide +kernel
theorem dL_law_1149 : decode cL_law 1149 = .ok (.iaload, 1) := by decide +kernel
theorem dL_law_1150 : decode cL_law 1150 = .ok (.invokevirtual 141, 3) := by decide +kernel
theorem dL_law_1153 : decode cL_law 1153 = .ok (.if_icmp .eq 300, 3) := by decide +kernel
theorem dL_law_1156 : decode cL_law 1156 = .ok (.iconst 0, 1) := by decide +kernel
theorem dL_law_1157 : decode cL_law 1157 = .ok (.ireturn, 1) := by decide +kernel
theorem dL_law_1158 : decode cL_law 1158 = .ok (.aload_n 1, 1) := by decide +kernel
theorem dL_law_1159 : decode cL_law 1159 = .ok (.aload_n 0, 1) := by decide +kernel
theorem dL_law_1160 : decode cL_law 1160 = .ok (.iload_n 3, 1) := by decide +kernel
theorem dL_law_1161 : decode cL_law 1161 = .ok (.iconst 1, 1) := by decide +kernel
theorem dL_law_1162 : decode cL_law 1162 = .ok (.iadd, 1) := by decide +kernel
theorem dL_law_1163 : decode cL_law 1163 = .ok (.iaload, 1) := by decide +kernel
theorem dL_law_1164 : decode cL_law 1164 = .ok (.aload_n 0, 1) := by decide +kernel
theorem dL_law_1165 : decode cL_law 1165 = .ok (.iload_n 3, 1) := by decide +kernel
theorem dL_law_1166 : decode cL_law 1166 = .ok (.iconst 2, 1) := by decide +kernel
theorem dL_law_1167 : decode cL_law 1167 = .ok (.iadd, 1) := by decide +kernel
theorem dL_law_1168 : decode cL_law 1168 = .ok (.iaload, 1) := by decide +kernel
theorem dL_law_1169 : decode cL_law 1169 = .ok (.aload_n 0, 1) := by decide +kernel
theorem dL_law_1170 : decode cL_law 1170 = .ok (.iload_n 3, 1) := by decide +kernel
theorem dL_law_1171 : decode cL_law 1171 = .ok (.iconst 3, 1) := by decide +kernel
theorem dL_law_1172 : decode cL_law 1172 = .ok (.iadd, 1) := by decide +kernel
theorem dL_law_1173 : decode cL_law 1173 = .ok (.iaload, 1) := by decide +kernel
theorem dL_law_1174 : decode cL_law 1174 = .ok (.invokevirtual 142, 3) := by decide +kernel
theorem dL_law_1177 : decode cL_law 1177 = .ok (.aload_n 2, 1) := by decide +kernel
theorem dL_law_1178 : decode cL_law 1178 = .ok (.aload_n 0, 1) := by decide +kernel
theorem dL_law_1179 : decode cL_law 1179 = .ok (.iload_n 3, 1) := by decide +kernel
theorem dL_law_1180 : decode cL_law 1180 = .ok (.iconst 1, 1) := by decide +kernel
theorem dL_law_1181 : decode cL_law 1181 = .ok (.iadd, 1) := by decide +kernel
theorem dL_law_1182 : decode cL_law 1182 = .ok (.iaload, 1) := by decide +kernel
theorem dL_law_1183 : decode cL_law 1183 = .ok (.aload_n 0, 1) := by decide +kernel
theorem dL_law_1184 : decode cL_law 1184 = .ok (.iload_n 3, 1) := by decide +kernel
theorem dL_law_1185 : decode cL_law 1185 = .ok (.iconst 2, 1) := by decide +kernel
theorem dL_law_1186 : decode cL_law 1186 = .ok (.iadd, 1) := by decide +kernel
theorem dL_law_1187 : decode cL_law 1187 = .ok (.iaload, 1) := by decide +kernel
theorem dL_law_1188 : decode cL_law 1188 = .ok (.aload_n 0, 1) := by decide +kernel
theorem dL_law_1189 : decode cL_law 1189 = .ok (.iload_n 3, 1) := by decide +kernel
theorem dL_law_1190 : decode cL_law 1190 = .ok (.iconst 3, 1) := by decide +kernel
theorem dL_law_1191 : decode cL_law 1191 = .ok (.iadd, 1) := by decide +kernel
theorem dL_law_1192 : decode cL_law 1192 = .ok (.iaload, 1) := by decide +kernel
theorem dL_law_1193 : decode cL_law 1193 = .ok (.invokevirtual 145, 3) := by decide +kernel
theorem dL_law_1196 : decode cL_law 1196 = .ok (.if_icmp .eq 257, 3) := by decide +kernel
theorem dL_law_1199 : decode cL_law 1199 = .ok (.iconst 0, 1) := by decide +kernel
theorem dL_law_1200 : decode cL_law 1200 = .ok (.ireturn, 1) := by decide +kernel
theorem dL_law_1201 : decode cL_law 1201 = .ok (.aload_n 1, 1) := by decide +kernel
theorem dL_law_1202 : decode cL_law 1202 = .ok (.aload_n 0, 1) := by decide +kernel
theorem dL_law_1203 : decode cL_law 1203 = .ok (.iload_n 3, 1) := by decide +kernel
theorem dL_law_1204 : decode cL_law 1204 = .ok (.iconst 1, 1) := by decide +kernel
theorem dL_law_1205 : decode cL_law 1205 = .ok (.iadd, 1) := by decide +kernel
theorem dL_law_1206 : decode cL_law 1206 = .ok (.iaload, 1) := by decide +kernel
theorem dL_law_1207 : decode cL_law 1207 = .ok (.invokevirtual 146, 3) := by decide +kernel
theorem dL_law_1210 : decode cL_law 1210 = .ok (.aload_n 2, 1) := by decide +kernel
theorem dL_law_1211 : decode cL_law 1211 = .ok (.aload_n 0, 1) := by decide +kernel
theorem dL_law_1212 : decode cL_law 1212 = .ok (.iload_n 3, 1) := by decide +kernel
theorem dL_law_1213 : decode cL_law 1213 = .ok (.iconst 1, 1) := by decide +kernel
theorem dL_law_1214 : decode cL_law 1214 = .ok (.iadd, 1) := by decide +kernel
theorem dL_law_1215 : decode cL_law 1215 = .ok (.iaload, 1) := by decide +kernel
theorem dL_law_1216 : decode cL_law 1216 = .ok (.invokevirtual 149, 3) := by decide +kernel
theorem dL_law_1219 : decode cL_law 1219 = .ok (.if_icmp .eq 234, 3) := by decide +kernel
theorem dL_law_1222 : decode cL_law 1222 = .ok (.iconst 0, 1) := by decide +kernel
theorem dL_law_1223 : decode cL_law 1223 = .ok (.ireturn, 1) := by decide +kernel
theorem dL_law_1224 : decode cL_law 1224 = .ok (.aload_n 1, 1) := by decide +kernel
theorem dL_law_1225 : decode cL_law 1225 = .ok (.aload_n 0, 1) := by decide +kernel
theorem dL_law_1226 : decode cL_law 1226 = .ok (.iload_n 3, 1) := by decide +kernel
theorem dL_law_1227 : decode cL_law 1227 = .ok (.iconst 1, 1) := by decide +kernel
theorem dL_law_1228 : decode cL_law 1228 = .ok (.iadd, 1) := by decide +kernel
theorem dL_law_1229 : decode cL_law 1229 = .ok (.iaload, 1) := by decide +kernel
theorem dL_law_1230 : decode cL_law 1230 = .ok (.aload_n 0, 1) := by decide +kernel
theorem dL_law_1231 : decode cL_law 1231 = .ok (.iload_n 3, 1) := by decide +kernel
theorem dL_law_1232 : decode cL_law 1232 = .ok (.iconst 2, 1) := by decide +kernel
theorem dL_law_1233 : decode cL_law 1233 = .ok (.iadd, 1) := by decide +kernel
theorem dL_law_1234 : decode cL_law 1234 = .ok (.iaload, 1) := by decide +kernel
theorem dL_law_1235 : decode cL_law 1235 = .ok (.aload_n 0, 1) := by decide +kernel
theorem dL_law_1236 : decode cL_law 1236 = .ok (.iload_n 3, 1) := by decide +kernel
theorem dL_law_1237 : decode cL_law 1237 = .ok (.iconst 3, 1) := by decide +kernel
theorem dL_law_1238 : decode cL_law 1238 = .ok (.iadd, 1) := by decide +kernel
theorem dL_law_1239 : decode cL_law 1239 = .ok (.iaload, 1) := by decide +kernel
theorem dL_law_1240 : decode cL_law 1240 = .ok (.aload_n 0, 1) := by decide +kernel
theorem dL_law_1241 : decode cL_law 1241 = .ok (.iload_n 3, 1) := by decide +kernel
theorem dL_law_1242 : decode cL_law 1242 = .ok (.iconst 4, 1) := by decide +kernel
theorem dL_law_1243 : decode cL_law 1243 = .ok (.iadd, 1) := by decide +kernel
theorem dL_law_1244 : decode cL_law 1244 = .ok (.iaload, 1) := by decide +kernel
theorem dL_law_1245 : decode cL_law 1245 = .ok (.invokevirtual 150, 3) := by decide +kernel
theorem dL_law_1248 : decode cL_law 1248 = .ok (.aload_n 2, 1) := by decide +kernel
theorem dL_law_1249 : decode cL_law 1249 = .ok (.aload_n 0, 1) := by decide +kernel
theorem dL_law_1250 : decode cL_law 1250 = .ok (.iload_n 3, 1) := by decide +kernel
theorem dL_law_1251 : decode cL_law 1251 = .ok (.iconst 1, 1) := by decide +kernel
theorem dL_law_1252 : decode cL_law 1252 = .ok (.iadd, 1) := by decide +kernel
theorem dL_law_1253 : decode cL_law 1253 = .ok (.iaload, 1) := by decide +kernel
theorem dL_law_1254 : decode cL_law 1254 = .ok (.aload_n 0, 1) := by decide +kernel
theorem dL_law_1255 : decode cL_law 1255 = .ok (.iload_n 3, 1) := by decide +kernel
theorem dL_law_1256 : decode cL_law 1256 = .ok (.iconst 2, 1) := by decide +kernel
theorem dL_law_1257 : decode cL_law 1257 = .ok (.iadd, 1) := by decide +kernel
theorem dL_law_1258 : decode cL_law 1258 = .ok (.iaload, 1) := by decide +kernel
theorem dL_law_1259 : decode cL_law 1259 = .ok (.aload_n 0, 1) := by decide +kernel
theorem dL_law_1260 : decode cL_law 1260 = .ok (.iload_n 3, 1) := by decide +kernel
theorem dL_law_1261 : decode cL_law 1261 = .ok (.iconst 3, 1) := by decide +kernel
theorem dL_law_1262 : decode cL_law 1262 = .ok (.iadd, 1) := by decide +kernel
theorem dL_law_1263 : decode cL_law 1263 = .ok (.iaload, 1) := by decide +kernel
theorem dL_law_1264 : decode cL_law 1264 = .ok (.aload_n 0, 1) := by decide +kernel
theorem dL_law_1265 : decode cL_law 1265 = .ok (.iload_n 3, 1) := by decide +kernel
theorem dL_law_1266 : decode cL_law 1266 = .ok (.iconst 4, 1) := by decide +kernel
theorem dL_law_1267 : decode cL_law 1267 = .ok (.iadd, 1) := by decide +kernel
theorem dL_law_1268 : decode cL_law 1268 = .ok (.iaload, 1) := by decide +kernel
theorem dL_law_1269 : decode cL_law 1269 = .ok (.invokevirtual 154, 3) := by decide +kernel
theorem dL_law_1272 : decode cL_law 1272 = .ok (.if_icmp .eq 181, 3) := by decide +kernel
theorem dL_law_1275 : decode cL_law 1275 = .ok (.iconst 0, 1) := by decide +kernel
theorem dL_law_1276 : decode cL_law 1276 = .ok (.ireturn, 1) := by decide +kernel
theorem dL_law_1277 : decode cL_law 1277 = .ok (.aload_n 1, 1) := by decide +kernel
theorem dL_law_1278 : decode cL_law 1278 = .ok (.aload_n 0, 1) := by decide +kernel
theorem dL_law_1279 : decode cL_law 1279 = .ok (.iload_n 3, 1) := by decide +kernel
theorem dL_law_1280 : decode cL_law 1280 = .ok (.iconst 1, 1) := by decide +kernel
theorem dL_law_1281 : decode cL_law 1281 = .ok (.iadd, 1) := by decide +kernel
theorem dL_law_1282 : decode cL_law 1282 = .ok (.iaload, 1) := by decide +kernel
theorem dL_law_1283 : decode cL_law 1283 = .ok (.aload_n 0, 1) := by decide +kernel
theorem dL_law_1284 : decode cL_law 1284 = .ok (.iload_n 3, 1) := by decide +kernel
theorem dL_law_1285 : decode cL_law 1285 = .ok (.iconst 2, 1) := by decide +kernel
theorem dL_law_1286 : decode cL_law 1286 = .ok (.iadd, 1) := by decide +kernel
theorem dL_law_1287 : decode cL_law 1287 = .ok (.iaload, 1) := by decide +kernel
theorem dL_law_1288 : decode cL_law 1288 = .ok (.aload_n 0, 1) := by decide +kernel
theorem dL_law_1289 : decode cL_law 1289 = .ok (.iload_n 3, 1) := by decide +kernel
theorem dL_law_1290 : decode cL_law 1290 = .ok (.iconst 3, 1) := by decide +kernel
theorem dL_law_1291 : decode cL_law 1291 = .ok (.iadd, 1) := by decide +kernel
theorem dL_law_1292 : decode cL_law 1292 = .ok (.iaload, 1) := by decide +kernel
theorem dL_law_1293 : decode cL_law 1293 = .ok (.invokevirtual 155, 3) := by decide +kernel
theorem dL_law_1296 : decode cL_law 1296 = .ok (.aload_n 2, 1) := by decide +kernel
theorem dL_law_1297 : decode cL_law 1297 = .ok (.aload_n 0, 1) := by decide +kernel
theorem dL_law_1298 : decode cL_law 1298 = .ok (.iload_n 3, 1) := by decide +kernel
theorem dL_law_1299 : decode cL_law 1299 = .ok (.iconst 1, 1) := by decide +kernel
theorem dL_law_1300 : decode cL_law 1300 = .ok (.iadd, 1) := by decide +kernel
theorem dL_law_1301 : decode cL_law 1301 = .ok (.iaload, 1) := by decide +kernel
theorem dL_law_1302 : decode cL_law 1302 = .ok (.aload_n 0, 1) := by decide +kernel
theorem dL_law_1303 : decode cL_law 1303 = .ok (.iload_n 3, 1) := by decide +kernel
theorem dL_law_1304 : decode cL_law 1304 = .ok (.iconst 2, 1) := by decide +kernel
theorem dL_law_1305 : decode cL_law 1305 = .ok (.iadd, 1) := by decide +kernel
theorem dL_law_1306 : decode cL_law 1306 = .ok (.iaload, 1) := by decide +kernel
theorem dL_law_1307 : decode cL_law 1307 = .ok (.aload_n 0, 1) := by decide +kernel
theorem dL_law_1308 : decode cL_law 1308 = .ok (.iload_n 3, 1) := by decide +kernel
theorem dL_law_1309 : decode cL_law 1309 = .ok (.iconst 3, 1) := by decide +kernel
theorem dL_law_1310 : decode cL_law 1310 = .ok (.iadd, 1) := by decide +kernel
theorem dL_law_1311 : decode cL_law 1311 = .ok (.iaload, 1) := by decide +kernel
theorem dL_law_1312 : decode cL_law 1312 = .ok (.invokevirtual 158, 3) := by decide +kernel
theorem dL_law_1315 : decode cL_law 1315 = .ok (.if_icmp .eq 138, 3) := by decide +kernel
theorem dL_law_1318 : decode cL_law 1318 = .ok (.iconst 0, 1) := by decide +kernel
theorem dL_law_1319 : decode cL_law 1319 = .ok (.ireturn, 1) := by decide +kernel
theorem dL_law_1320 : decode cL_law 1320 = .ok (.aload_n 1, 1) := by decide +kernel
theorem dL_law_1321 : decode cL_law 1321 = .ok (.aload_n 0, 1) := by decide +kernel
theorem dL_law_1322 : decode cL_law 1322 = .ok (.iload_n 3, 1) := by decide +kernel
theorem dL_law_1323 : decode cL_law 1323 = .ok (.iconst 1, 1) := by decide +kernel
theorem dL_law_1324 : decode cL_law 1324 = .ok (.iadd, 1) := by decide +kernel
theorem dL_law_1325 : decode cL_law 1325 = .ok (.iaload, 1) := by decide +kernel
theorem dL_law_1326 : decode cL_law 1326 = .ok (.aload_n 0, 1) := by decide +kernel
theorem dL_law_1327 : decode cL_law 1327 = .ok (.iload_n 3, 1) := by decide +kernel
theorem dL_law_1328 : decode cL_law 1328 = .ok (.iconst 2, 1) := by decide +kernel
theorem dL_law_1329 : decode cL_law 1329 = .ok (.iadd, 1) := by decide +kernel
theorem dL_law_1330 : decode cL_law 1330 = .ok (.iaload, 1) := by decide +kernel
theorem dL_law_1331 : decode cL_law 1331 = .ok (.aload_n 0, 1) := by decide +kernel
theorem dL_law_1332 : decode cL_law 1332 = .ok (.iload_n 3, 1) := by decide +kernel
theorem dL_law_1333 : decode cL_law 1333 = .ok (.iconst 3, 1) := by decide +kernel
theorem dL_law_1334 : decode cL_law 1334 = .ok (.iadd, 1) := by decide +kernel
theorem dL_law_1335 : decode cL_law 1335 = .ok (.iaload, 1) := by decide +kernel
theorem dL_law_1336 : decode cL_law 1336 = .ok (.aload_n 0, 1) := by decide +kernel
theorem dL_law_1337 : decode cL_law 1337 = .ok (.iload_n 3, 1) := by decide +kernel
theorem dL_law_1338 : decode cL_law 1338 = .ok (.iconst 4, 1) := by decide +kernel
theorem dL_law_1339 : decode cL_law 1339 = .ok (.iadd, 1) := by decide +kernel
theorem dL_law_1340 : decode cL_law 1340 = .ok (.iaload, 1) := by decide +kernel
theorem dL_law_1341 : decode cL_law 1341 = .ok (.aload_n 0, 1) := by decide +kernel
theorem dL_law_1342 : decode cL_law 1342 = .ok (.iload_n 3, 1) := by decide +kernel
theorem dL_law_1343 : decode cL_law 1343 = .ok (.iconst 5, 1) := by decide +kernel
theorem dL_law_1344 : decode cL_law 1344 = .ok (.iadd, 1) := by decide +kernel
theorem dL_law_1345 : decode cL_law 1345 = .ok (.iaload, 1) := by decide +kernel
theorem dL_law_1346 : decode cL_law 1346 = .ok (.invokevirtual 159, 3) := by decide +kernel
theorem dL_law_1349 : decode cL_law 1349 = .ok (.aload_n 2, 1) := by decide +kernel
theorem dL_law_1350 : decode cL_law 1350 = .ok (.aload_n 0, 1) := by decide +kernel
theorem dL_law_1351 : decode cL_law 1351 = .ok (.iload_n 3, 1) := by decide +kernel
theorem dL_law_1352 : decode cL_law 1352 = .ok (.iconst 1, 1) := by decide +kernel
theorem dL_law_1353 : decode cL_law 1353 = .ok (.iadd, 1) := by decide +kernel
theorem dL_law_1354 : decode cL_law 1354 = .ok (.iaload, 1) := by decide +kernel
theorem dL_law_1355 : decode cL_law 1355 = .ok (.aload_n 0, 1) := by decide +kernel
theorem dL_law_1356 : decode cL_law 1356 = .ok (.iload_n 3, 1) := by decide +kernel
theorem dL_law_1357 : decode cL_law 1357 = .ok (.iconst 2, 1) := by decide +kernel
theorem dL_law_1358 : decode cL_law 1358 = .ok (.iadd, 1) := by decide +kernel
theorem dL_law_1359 : decode cL_law 1359 = .ok (.iaload, 1) := by decide +kernel
theorem dL_law_1360 : decode cL_law 1360 = .ok (.aload_n 0, 1) := by decide +kernel
theorem dL_law_1361 : decode cL_law 1361 = .ok (.iload_n 3, 1) := by decide +kernel
theorem dL_law_1362 : decode cL_law 1362 = .ok (.iconst 3, 1) := by decide +kernel
theorem dL_law_1363 : decode cL_law 1363 = .ok (.iadd, 1) := by decide +kernel
theorem dL_law_1364 : decode cL_law 1364 = .ok (.iaload, 1) := by decide +kernel
theorem dL_law_1365 : decode cL_law 1365 = .ok (.aload_n 0, 1) := by decide +kernel
theorem dL_law_1366 : decode cL_law 1366 = .ok (.iload_n 3, 1) := by decide +kernel
theorem dL_law_1367 : decode cL_law 1367 = .ok (.iconst 4, 1) := by decide +kernel
theorem dL_law_1368 : decode cL_law 1368 = .ok (.iadd, 1) := by decide +kernel
theorem dL_law_1369 : decode cL_law 1369 = .ok (.iaload, 1) := by decide +kernel
theorem dL_law_1370 : decode cL_law 1370 = .ok (.aload_n 0, 1) := by decide +kernel
theorem dL_law_1371 : decode cL_law 1371 = .ok (.iload_n 3, 1) := by decide +kernel
theorem dL_law_1372 : decode cL_law 1372 = .ok (.iconst 5, 1) := by decide +kernel
theorem dL_law_1373 : decode cL_law 1373 = .ok (.iadd, 1) := by decide +kernel
theorem dL_law_1374 : decode cL_law 1374 = .ok (.iaload, 1) := by decide +kernel
theorem dL_law_1375 : decode cL_law 1375 = .ok (.invokevirtual 162, 3) := by decide +kernel
theorem dL_law_1378 : decode cL_law 1378 = .ok (.if_icmp .eq 75, 3) := by decide +kernel
theorem dL_law_1381 : decode cL_law 1381 = .ok (.iconst 0, 1) := by decide +kernel
theorem dL_law_1382 : decode cL_law 1382 = .ok (.ireturn, 1) := by decide +kernel
theorem dL_law_1383 : decode cL_law 1383 = .ok (.aload_n 1, 1) := by decide +kernel
theorem dL_law_1384 : decode cL_law 1384 = .ok (.aload_n 0, 1) := by decide +kernel
theorem dL_law_1385 : decode cL_law 1385 = .ok (.iload_n 3, 1) := by decide +kernel
theorem dL_law_1386 : decode cL_law 1386 = .ok (.iconst 1, 1) := by decide +kernel
theorem dL_law_1387 : decode cL_law 1387 = .ok (.iadd, 1) := by decide +kernel
theorem dL_law_1388 : decode cL_law 1388 = .ok (.iaload, 1) := by decide +kernel
theorem dL_law_1389 : decode cL_law 1389 = .ok (.aload_n 0, 1) := by decide +kernel
theorem dL_law_1390 : decode cL_law 1390 = .ok (.iload_n 3, 1) := by decide +kernel
theorem dL_law_1391 : decode cL_law 1391 = .ok (.iconst 2, 1) := by decide +kernel
theorem dL_law_1392 : decode cL_law 1392 = .ok (.iadd, 1) := by decide +kernel
theorem dL_law_1393 : decode cL_law 1393 = .ok (.iaload, 1) := by decide +kernel
theorem dL_law_1394 : decode cL_law 1394 = .ok (.invokevirtual 163, 3) := by decide +kernel
theorem dL_law_1397 : decode cL_law 1397 = .ok (.aload_n 2, 1) := by decide +kernel
theorem dL_law_1398 : decode cL_law 1398 = .ok (.aload_n 0, 1) := by decide +kernel
theorem dL_law_1399 : decode cL_law 1399 = .ok (.iload_n 3, 1) := by decide +kernel
theorem dL_law_1400 : decode cL_law 1400 = .ok (.iconst 1, 1) := by decide +kernel
theorem dL_law_1401 : decode cL_law 1401 = .ok (.iadd, 1) := by decide +kernel
theorem dL_law_1402 : decode cL_law 1402 = .ok (.iaload, 1) := by decide +kernel
theorem dL_law_1403 : decode cL_law 1403 = .ok (.aload_n 0, 1) := by decide +kernel
theorem dL_law_1404 : decode cL_law 1404 = .ok (.iload_n 3, 1) := by decide +kernel
theorem dL_law_1405 : decode cL_law 1405 = .ok (.iconst 2, 1) := by decide +kernel
theorem dL_law_1406 : decode cL_law 1406 = .ok (.iadd, 1) := by decide +kernel
theorem dL_law_1407 : decode cL_law 1407 = .ok (.iaload, 1) := by decide +kernel
theorem dL_law_1408 : decode cL_law 1408 = .ok (.invokevirtual 166, 3) := by decide +kernel
theorem dL_law_1411 : decode cL_law 1411 = .ok (.if_icmp .eq 42, 3) := by decide +kernel
theorem dL_law_1414 : decode cL_law 1414 = .ok (.iconst 0, 1) := by decide +kernel
theorem dL_law_1415 : decode cL_law 1415 = .ok (.ireturn, 1) := by decide +kernel
theorem dL_law_1416 : decode cL_law 1416 = .ok (.aload_n 1, 1) := by decide +kernel
theorem dL_law_1417 : decode cL_law 1417 = .ok (.aload_n 0, 1) := by decide +kernel
theorem dL_law_1418 : decode cL_law 1418 = .ok (.iload_n 3, 1) := by decide +kernel
theorem dL_law_1419 : decode cL_law 1419 = .ok (.iconst 1, 1) := by decide +kernel
theorem dL_law_1420 : decode cL_law 1420 = .ok (.iadd, 1) := by decide +kernel
theorem dL_law_1421 : decode cL_law 1421 = .ok (.iaload, 1) := by decide +kernel
theorem dL_law_1422 : decode cL_law 1422 = .ok (.invokevirtual 167, 3) := by decide +kernel
theorem dL_law_1425 : decode cL_law 1425 = .ok (.aload_n 2, 1) := by decide +kernel
theorem dL_law_1426 : decode cL_law 1426 = .ok (.aload_n 0, 1) := by decide +kernel
theorem dL_law_1427 : decode cL_law 1427 = .ok (.iload_n 3, 1) := by decide +kernel
theorem dL_law_1428 : decode cL_law 1428 = .ok (.iconst 1, 1) := by decide +kernel
theorem dL_law_1429 : decode cL_law 1429 = .ok (.iadd, 1) := by decide +kernel
theorem dL_law_1430 : decode cL_law 1430 = .ok (.iaload, 1) := by decide +kernel
theorem dL_law_1431 : decode cL_law 1431 = .ok (.invokevirtual 170, 3) := by decide +kernel
theorem dL_law_1434 : decode cL_law 1434 = .ok (.if_icmp .eq 19, 3) := by decide +kernel
theorem dL_law_1437 : decode cL_law 1437 = .ok (.iconst 0, 1) := by decide +kernel
theorem dL_law_1438 : decode cL_law 1438 = .ok (.ireturn, 1) := by decide +kernel
theorem dL_law_1439 : decode cL_law 1439 = .ok (.aload_n 1, 1) := by decide +kernel
theorem dL_law_1440 : decode cL_law 1440 = .ok (.invokevirtual 171, 3) := by decide +kernel
theorem dL_law_1443 : decode cL_law 1443 = .ok (.aload_n 2, 1) := by decide +kernel
theorem dL_law_1444 : decode cL_law 1444 = .ok (.invokevirtual 175, 3) := by decide +kernel
theorem dL_law_1447 : decode cL_law 1447 = .ok (.lcmp, 1) := by decide +kernel
theorem dL_law_1448 : decode cL_law 1448 = .ok (.ifCond .eq 5, 3) := by decide +kernel
theorem dL_law_1451 : decode cL_law 1451 = .ok (.iconst 0, 1) := by decide +kernel
theorem dL_law_1452 : decode cL_law 1452 = .ok (.ireturn, 1) := by decide +kernel
theorem dL_law_1453 : decode cL_law 1453 = .ok (.iinc 3 6, 3) := by decide +kernel
theorem dL_law_1456 : decode cL_law 1456 = .ok (.goto (-1438), 3) := by decide +kernel
theorem dL_law_1459 : decode cL_law 1459 = .ok (.iconst 1, 1) := by decide +kernel
theorem dL_law_1460 : decode cL_law 1460 = .ok (.ireturn, 1) := by decide +kernel
end
section
def lay : List (Nat × Nat) := [(3, 8), (3, 3), (3, 1), (3, 0), (3, 4), (3, 2), (3, 6), (3, 5), (3, 7), (3, 9), (0, 4), (0, 4), (0, 5), (0, 60), (0, 16), (0, 4), (0, 3), (0, 16), (0, 4), (0, 4), (0, 4), (1, 16), (1, 60), (1, 20), (1, 4), (1, 4), (0, 4), (0, 4), (0, 4), (0, 4), (0, 4), (0, 60), (0, 60), (0, 60), (0, 60), (0, 60), (0, 4), (0, 4), (0, 240), (0, 4), (0, 4), (0, 240), (0, 60), (0, 60), (0, 16), (0, 4), (0, 3), (0, 4), (0, 4), (0, 5), (0, 5), (0, 5), (0, 4), (1, 50), (1, 50), (0, 4), (0, 4), (0, 5), (0, 60), (0, 60), (0, 60), (2, 60), (0, 60), (0, 8)]
def fl : Nat → List (Nat × Nat) := fun k => match k with
  | 0 => [(2, 2), (2, 21), (2, 22), (2, 23), (2, 24), (1, 111), (2, 25)]
  | 1 => [(2, 1), (2, 10), (2, 11), (0, 105), (0, 106), (0, 107), (0, 108), (0, 109), (0, 110), (2, 17), (2, 18), (2, 19), (2, 20)]
  | 2 => [(0, 116)]
  | 3 => [(2, 13), (0, 100), (0, 101), (0, 102), (0, 103), (2, 14), (2, 15), (2, 16), (0, 104)]
  | 4 => [(2, 2), (2, 3), (1, 112), (0, 113), (0, 114), (0, 115), (2, 26), (2, 27), (2, 28), (2, 29), (2, 30)]
  | 5 => [(0, 119), (2, 31), (2, 32), (2, 33), (2, 34), (2, 35)]
  | 6 => [(1, 117), (1, 118)]
  | 7 => [(0, 120), (2, 36), (2, 37), (2, 38)]
  | 8 => [(2, 1), (2, 10), (2, 11), (2, 12), (2, 2), (2, 3), (2, 4), (2, 5), (2, 6), (2, 7), (2, 8)]
  | _ => [(2, 39), (2, 40), (2, 41), (2, 42), (0, 121), (2, 43), (0, 122), (0, 123), (0, 124), (2, 44), (0, 125), (2, 45), (2, 46), (2, 47), (2, 48), (2, 49), (2, 50), (2, 51), (2, 52), (0, 126), (0, 127), (0, 128), (0, 129), (0, 130), (2, 53), (2, 54), (0, 131), (0, 132), (1, 133), (2, 55), (2, 56), (2, 57), (0, 134), (0, 135), (2, 58), (2, 59), (2, 60), (2, 61), (2, 62), (2, 63)]
def nestW : List Cond := [.methodLinkNest "LaughsLast$Room" 71 ⟨"LaughsLast", "within", "(II)Z"⟩ "LaughsLast", .methodLinkNest "LaughsLast$Company" 72 ⟨"LaughsLast", "hasBit", "(II)Z"⟩ "LaughsLast", .methodLinkNest "LaughsLast$Company" 75 ⟨"LaughsLast", "quartersOf", "(IIIZ)I"⟩ "LaughsLast", .methodLinkNest "LaughsLast$Chances" 84 ⟨"LaughsLast", "hasBit", "(II)Z"⟩ "LaughsLast", .methodLinkNest "LaughsLast$Search" 118 ⟨"LaughsLast", "hasBit", "(II)Z"⟩ "LaughsLast", .methodLinkNest "LaughsLast$Lots" 53 ⟨"LaughsLast", "hasBit", "(II)Z"⟩ "LaughsLast", .methodLinkNest "LaughsLast$Seen" 31 ⟨"LaughsLast", "quartersOf", "(IIIZ)I"⟩ "LaughsLast"]
end
section
/-! ===== the abstract machine: memory by numbers, values as whole numbers ===== -/
abbrev Mem : Type := Nat → Int → Int
abbrev AV : Type := Int ⊕ (Int ⊕ Nat)
abbrev MK : Type := MethodName × ByteArray × Nat × Option FieldType × Room
abbrev Geo : Type := va_G × (Nat → Nat) × (ClassId × ClassId × ClassId)
def cv (ad : Nat → Nat) (v : AV) : Value := match v with
  | .inl z => .int (Int32.ofInt z)
  | .inr (.inl z) => .long (Int64.ofInt z)
  | .inr (.inr k) => .ref (ad k)
def avc (v : AV) : Nat := match v with
  | .inl _ => 1
  | .inr (.inl _) => 2
  | .inr (.inr _) => 1
theorem cv_cat (ad : Nat → Nat) (v : AV) : (cv ad v).category = avc v := by rcases v with z | z | k <;> rfl
abbrev classes : List vw_C := [(RX0, TX0, 7), (RX1, TX1, 13), (RX2, TX2, 1), (RX3, TX3, 9), (RX4, TX4, 11), (RX5, TX5, 6), (RX6, TX6, 2), (RX7, TX7, 4), (RX8, TX8, 11), (RX9, TX9, 40)]
def fvv (ad : Nat → Nat) (μ : Mem) (q : Nat × Nat) : Value := match q.1 with
  | 0 => .int (Int32.ofInt (μ q.2 0))
  | 1 => .long (Int64.ofInt (μ q.2 0))
  | _ => .ref (ad q.2)
def cellOf (G : Geo) (μ : Mem) (k : Nat) (t : Nat × Nat) : va_E := match t.1 with
  | 0 => .inl (G.2.2.1, t.2, .inl (fun j => Int32.ofInt (μ k j)))
  | 1 => .inl (G.2.2.2.1, t.2, .inr (.inl (fun j => Int64.ofInt (μ k j))))
  | 2 => .inl (G.2.2.2.2, t.2, .inl (fun j => Int32.ofInt (μ k j)))
  | _ => .inr (t.2, (fl t.2).map (fvv G.2.1 μ))
def wo (G : Geo) (μ : Mem) : va_W := lay.mapIdx (fun k t => (G.2.1 k, cellOf G μ k t))
theorem wo_at {G : Geo} {μ : Mem} {k : Nat} {t : Nat × Nat} (h : lay[k]? = some t) : (wo G μ)[k]? = some (G.2.1 k, cellOf G μ k t) := by
  unfold wo
  rw [List.getElem?_mapIdx, h]
  rfl
theorem wo_at' {G : Geo} {μ : Mem} {k : Nat} {q : Nat × va_E} (h : (wo G μ)[k]? = some q) : ∃ t, lay[k]? = some t ∧ q = (G.2.1 k, cellOf G μ k t) := by
  unfold wo at h
  rw [List.getElem?_mapIdx] at h
  cases ht : lay[k]? with
  | none => rw [ht] at h; cases h
  | some t => rw [ht] at h; exact ⟨t, rfl, (Option.some.inj h).symm⟩
def zA (G : Geo) : Nat → Prop := fun q => ∃ k, k < 64 ∧ q = G.2.1 k
def tysG (G : Geo) : List (ClassId × FieldType) := [(G.2.2.1, .int), (G.2.2.2.1, .long), (G.2.2.2.2, .boolean)]
def gInj (G : Geo) : Prop := ∀ i j : Nat, i < 64 → j < 64 → G.2.1 i = G.2.1 j → i = j
theorem lay_len : lay.length = 64 := by decide +kernel
theorem lay_lt {k : Nat} {t : Nat × Nat} (h : lay[k]? = some t) : k < 64 := by
  rw [← lay_len]; exact (List.getElem?_eq_some_iff.mp h).1
theorem wo_D {G : Geo} {μ : Mem} (h : gInj G) : va_D (zA G) (wo G μ) := by
  refine ⟨fun i j p q hi hj hpq => ?_, fun k q hk => ?_⟩
  · obtain ⟨t, h1, rfl⟩ := wo_at' hi
    obtain ⟨u, h2, rfl⟩ := wo_at' hj
    exact h i j (lay_lt h1) (lay_lt h2) hpq
  · obtain ⟨t, h1, rfl⟩ := wo_at' hk
    exact ⟨k, lay_lt h1, rfl⟩
/-- the static tables: 3072 and 6144, to the power of 0 to 4 -/
def owI (z : Int) : Int := if z = 0 then 1 else if z = 1 then 3072 else if z = 2 then 9437184 else if z = 3 then 28991029248 else 89060441849856
def coI (z : Int) : Int := if z = 0 then 1 else if z = 1 then 6144 else if z = 2 then 37748736 else if z = 3 then 231928233984 else 1424967069597696
def ZS (G : Geo) (U : State) (H : Heap) : Prop :=
  (va_Z "LaughsLast$Chances" "OWED" "[J" (.ref (G.2.1 64)) (zA G) U H ∧ va_T .long (G.2.1 64) 5 (fun j => .long (Int64.ofInt (owI j))) (zA G) U H) ∧
  (va_Z "LaughsLast$Chances" "COSTS" "[J" (.ref (G.2.1 65)) (zA G) U H ∧ va_T .long (G.2.1 65) 5 (fun j => .long (Int64.ofInt (coI j))) (zA G) U H)
theorem ZS.moved {G : Geo} {u U : State} {H : Heap} (hvm : u.vm.Alike U.vm) (h : ZS G u H) : ZS G U H :=
  ⟨⟨va_Z.moved hvm h.1.1, va_T.moved hvm h.1.2⟩, ⟨va_Z.moved hvm h.2.1, va_T.moved hvm h.2.2⟩⟩
theorem ZS.kept {G : Geo} {U : State} {H H1 : Heap} (h : ZS G U H) (hq : ∀ a : Nat, a < H.size → ¬ zA G a → H1[a]? = H[a]?) : ZS G U H1 :=
  ⟨⟨h.1.1.kept hq, h.1.2.kept hq⟩, ⟨h.2.1.kept hq, h.2.2.kept hq⟩⟩
/-- words of calls between nest mates -/
def NW (U : State) : Prop := ∀ w ∈ nestW, va_Nw w U
def tblG : List Cond := lw_tbl.filter goodWord
theorem tblG_at {w : Cond} (i : Nat) (h : lw_tbl[i]? = some w) (hg : goodWord w = true) : w ∈ tblG := List.mem_filter.mpr ⟨List.mem_of_getElem? h, hg⟩
def wsK (K : MK) : List Cond := Cond.code K.1 K.2.1 K.2.2.1 K.2.2.2.1 :: tblG
theorem wsK_good {K : MK} (h : Cond.code K.1 K.2.1 K.2.2.1 K.2.2.2.1 ∈ tblG) : GoodIn tblG (wsK K) := by
  intro w hw
  rcases List.mem_cons.mp hw with rfl | hw
  · exact ⟨h, good_of_word (List.mem_filter.mp h).2⟩
  · exact ⟨hw, good_of_word (List.mem_filter.mp hw).2⟩
theorem tblG_good {w : Cond} (h : w ∈ tblG) : GoodIn tblG [w] := by
  intro v hv
  rw [List.mem_singleton] at hv
  subst hv
  exact ⟨h, good_of_word (List.mem_filter.mp h).2⟩
/-- the world at a method's start -/
def ZW (G : Geo) (μ : Mem) (U : State) : Prop := va_P G.1 classes (wo G μ) U.heap ∧ va_K G.1 classes (tysG G) U ∧ NW U ∧ ZS G U U.heap ∧ gInj G
def QQ (G : Geo) (post : Option AV → Mem → Prop) : Array Value → State → Outcome → State → Prop := fun _ st oc t => (∃ (r : Option AV) (μ' : Mem), oc = .returned (r.map (cv G.2.1)) ∧ post r μ' ∧ va_P G.1 classes (wo G μ') t.heap) ∧ va_F (zA G) st t
/-- a method's contract -/
def Mc (K : MK) (av : List AV) (μ : Mem) (post : Option AV → Mem → Prop) : Prop := ∀ (l : Launch) (G : Geo), Met l K.1 (wsK K) K.2.2.2.2 (va_Pc (av.map (cv G.2.1)) (fun U => ZW G μ U)) (QQ G post) 0 0 (zA G)
/-- what stays, inside a method -/
def Cx (K : MK) (G : Geo) (p : Program) (s : State) (m : MethodId) (args : Array Value) (meth : Method) (c : Code) : Prop :=
  p.tables.exec = Jvm.exec ∧ c.code = K.2.1 ∧ meth.sig.returnType = K.2.2.2.1 ∧ c.maxLocals = K.2.2.1 ∧ s.vm.findClass K.1.cls = some m.cls ∧ meth.locks = false ∧ (∀ w ∈ tblG, w.before args s = true) ∧ va_K G.1 classes (tysG G) s ∧ NW s ∧ ZS G s s.heap ∧ gInj G
/-- the locals that are known -/
def LH (ad : Nat → Nat) (n : Nat) (ls : Array Slot) (L : List (Option AV)) : Prop := ls.size = n ∧ lv_wf ls ∧ ∀ (i : Nat) (v : AV), L[i]? = some (some v) → ls[i]? = some (.val (cv ad v))
/-- from this point on the method comes to an end that has 'post' -/
def AW (K : MK) (pc : Nat) (L : List (Option AV)) (st : List AV) (μ : Mem) (post : Option AV → Mem → Prop) : Prop :=
  ∀ (G : Geo) (p : Program) (l : Launch) (e : Env) (s : State) (m : MethodId) (args : Array Value) (below : List Frame) (meth : Method) (c : Code), Cx K G p s m args meth c →
  ∀ (H : Heap) (locs : List Loc) (ls : Array Slot), va_P G.1 classes (wo G μ) H → va_S (zA G) s.heap H locs → LH G.2.1 K.2.2.1 ls L →
  W p l e K.2.2.2.2 s m args below meth c H locs 0 0 (MQ below (QQ G post) args s 0 0 (zA G)) (F0 m pc ls (st.map (cv G.2.1)))
def pI (P : Int → Mem → Prop) : Option AV → Mem → Prop := fun r μ => ∃ z, r = some (.inl z) ∧ P z μ
def pL (P : Int → Mem → Prop) : Option AV → Mem → Prop := fun r μ => ∃ z, r = some (.inr (.inl z)) ∧ P z μ
def pR (P : Nat → Mem → Prop) : Option AV → Mem → Prop := fun r μ => ∃ k, r = some (.inr (.inr k)) ∧ P k μ
def pV (P : Mem → Prop) : Option AV → Mem → Prop := fun r μ => r = none ∧ P μ
/-- the locals with which a method begins -/
def L0 : Nat → List AV → List (Option AV)
  | n, [] => List.replicate n none
  | n, v :: vs => match v with
    | .inr (.inl _) => some v :: none :: L0 (n - 2) vs
    | _ => some v :: L0 (n - 1) vs
theorem L0_at (ad : Nat → Nat) : ∀ (vs : List AV) (n i b : Nat) (v : AV), (L0 n vs)[i]? = some (some v) → (b + i, cv ad v) ∈ lv_args b (vs.map (cv ad))
  | [], n, i, b, v, h => by
    simp only [L0, List.getElem?_replicate] at h
    split at h <;> simp at h
  | .inl z :: vs, n, 0, b, v, h => by
    simp only [L0, List.getElem?_cons_zero, Option.some.injEq] at h
    subst h
    exact List.mem_cons_self
  | .inl z :: vs, n, i + 1, b, v, h => by
    simp only [L0, List.getElem?_cons_succ] at h
    have h1 := L0_at ad vs (n - 1) i (b + 1) v h
    rw [show b + (i + 1) = b + 1 + i by omega]
    exact List.mem_cons_of_mem _ h1
  | .inr (.inr z) :: vs, n, 0, b, v, h => by
    simp only [L0, List.getElem?_cons_zero, Option.some.injEq] at h
    subst h
    exact List.mem_cons_self
  | .inr (.inr z) :: vs, n, i + 1, b, v, h => by
    simp only [L0, List.getElem?_cons_succ] at h
    have h1 := L0_at ad vs (n - 1) i (b + 1) v h
    rw [show b + (i + 1) = b + 1 + i by omega]
    exact List.mem_cons_of_mem _ h1
  | .inr (.inl z) :: vs, n, 0, b, v, h => by
    simp only [L0, List.getElem?_cons_zero, Option.some.injEq] at h
    subst h
    exact List.mem_cons_self
  | .inr (.inl z) :: vs, n, 1, b, v, h => by
    simp [L0] at h
  | .inr (.inl z) :: vs, n, i + 2, b, v, h => by
    simp only [L0, List.getElem?_cons_succ] at h
    have h1 := L0_at ad vs (n - 2) i (b + 2) v h
    rw [show b + (i + 2) = b + 2 + i by omega]
    exact List.mem_cons_of_mem _ h1
/-- a contract, by a walk from the method's entry -/
theorem Mc_of {K : MK} {av : List AV} {μ : Mem} {post : Option AV → Mem → Prop} (hy : plainName K.1.cls = true) (hn : ∀ ad : Nat → Nat, (lg_sl (av.map (cv ad))).length ≤ K.2.2.1) (k : AW K 0 (L0 K.2.2.1 av) [] μ post) : Mc K av μ post := by
  intro l G
  refine Met.ofW (cc := K.2.1) (maxL := K.2.2.1) (ret := K.2.2.2.1) hy rfl ?_
  intro p e s m args below meth c s₁ B hml hv
  obtain ⟨rfl, hP, hK, hN, hZ, hI⟩ := hv
  have hts0 := atoms_spec (ws := wsK K) B.pre
  have hown : s.vm.findClass K.1.cls = some m.cls := findClass_of_methodNamed B.named
  rw [lg_entry_eq]
  have hl := lv_entry (av.map (cv G.2.1)) (n := K.2.2.1) (hn G.2.1)
  refine k G p l e s m _ below meth c ⟨B.exec, B.bytes, B.returns, hml, hown, B.notSynchronized, fun w hw => hts0 w (List.mem_cons_of_mem _ hw), hK, hN, hZ, hI⟩ s.heap [] _ hP va_S.rf ⟨hl.1, hl.2.1, fun i v hi => ?_⟩
  have h1 := L0_at G.2.1 av K.2.2.1 i 0 v hi
  rw [Nat.zero_add] at h1
  exact hl.2.2 _ h1
theorem W.st {p : Program} {l : Launch} {e : Env} {R : Room} {s : State} {m : MethodId} {args : Array Value} {below : List Frame} {meth : Method} {c : Code} {H : Heap} {locs : List Loc} {cells slots : Nat} {Q : State → Prop} {pc : Nat} {ls : Array Slot} {a b : List Value} (h : a = b) (k : W p l e R s m args below meth c H locs cells slots Q (F0 m pc ls a)) : W p l e R s m args below meth c H locs cells slots Q (F0 m pc ls b) := h ▸ k
/-- a value known by another name -/
theorem s_valI {K : MK} {pc : Nat} {L : List (Option AV)} {st : List AV} {μ : Mem} {post : Option AV → Mem → Prop} {x y : Int} (h : x = y) (k : AW K pc L (.inl y :: st) μ post) : AW K pc L (.inl x :: st) μ post := h ▸ k
theorem s_valL {K : MK} {pc : Nat} {L : List (Option AV)} {st : List AV} {μ : Mem} {post : Option AV → Mem → Prop} {x y : Int} (h : x = y) (k : AW K pc L (.inr (.inl y) :: st) μ post) : AW K pc L (.inr (.inl x) :: st) μ post := h ▸ k
theorem s_mem {K : MK} {pc : Nat} {L : List (Option AV)} {st : List AV} {μ : Mem} {post : Option AV → Mem → Prop} {ν : Mem} (h : μ = ν) (k : AW K pc L st ν post) : AW K pc L st μ post := h ▸ k
/-- a weaker end -/
theorem AW.mono {K : MK} {pc : Nat} {L : List (Option AV)} {st : List AV} {μ : Mem} {post : Option AV → Mem → Prop} {post' : Option AV → Mem → Prop} (k : AW K pc L st μ post) (h : ∀ r ν, post r ν → post' r ν) : AW K pc L st μ post' := by
  intro G p l e s m args below meth c C H locs ls hP hS hl T hT X
  obtain ⟨t, h1, o, h2, h3, ⟨⟨r, ν, h4, h5, h6⟩, h7⟩, h8⟩ := k G p l e s m args below meth c C H locs ls hP hS hl T hT X
  exact ⟨t, h1, o, h2, h3, ⟨⟨r, ν, h4, h _ _ h5, h6⟩, h7⟩, h8⟩
theorem Mc.mono {K : MK} {av : List AV} {μ : Mem} {post post' : Option AV → Mem → Prop} (h : Mc K av μ post) (hp : ∀ r ν, post r ν → post' r ν) : Mc K av μ post' := by
  intro l G p e h1 h2 h3 s m args below h4 h5 h6 h7
  obtain ⟨k, o, a1, a2, a3, ⟨⟨⟨r, ν, b1, b2, b3⟩, b4⟩, b5⟩⟩ := h l G p e h1 h2 h3 s m args below h4 h5 h6 h7
  exact ⟨k, o, a1, a2, a3, ⟨⟨⟨r, ν, b1, hp _ _ b2, b3⟩, b4⟩, b5⟩⟩

theorem s_iconst_m1 {K : MK} {pc : Nat} {L : List (Option AV)} {st : List AV} {μ : Mem} {post : Option AV → Mem → Prop} (d : decode K.2.1 pc = .ok (.iconst (-1), 1)) (k : AW K (pc + 1) L (.inl (-1) :: st) μ post) : AW K pc L st μ post := by
  intro G p l e s m args below meth c C H locs ls hP hS hl
  exact lv_iconst (v := Int32.ofInt (-1)) C.1 C.2.1 d rfl (k G p l e s m args below meth c C H locs ls hP hS hl)

theorem s_iconst_0 {K : MK} {pc : Nat} {L : List (Option AV)} {st : List AV} {μ : Mem} {post : Option AV → Mem → Prop} (d : decode K.2.1 pc = .ok (.iconst (0), 1)) (k : AW K (pc + 1) L (.inl (0) :: st) μ post) : AW K pc L st μ post := by
  intro G p l e s m args below meth c C H locs ls hP hS hl
  exact lv_iconst (v := Int32.ofInt (0)) C.1 C.2.1 d rfl (k G p l e s m args below meth c C H locs ls hP hS hl)

theorem s_iconst_1 {K : MK} {pc : Nat} {L : List (Option AV)} {st : List AV} {μ : Mem} {post : Option AV → Mem → Prop} (d : decode K.2.1 pc = .ok (.iconst (1), 1)) (k : AW K (pc + 1) L (.inl (1) :: st) μ post) : AW K pc L st μ post := by
  intro G p l e s m args below meth c C H locs ls hP hS hl
  exact lv_iconst (v := Int32.ofInt (1)) C.1 C.2.1 d rfl (k G p l e s m args below meth c C H locs ls hP hS hl)

theorem s_iconst_2 {K : MK} {pc : Nat} {L : List (Option AV)} {st : List AV} {μ : Mem} {post : Option AV → Mem → Prop} (d : decode K.2.1 pc = .ok (.iconst (2), 1)) (k : AW K (pc + 1) L (.inl (2) :: st) μ post) : AW K pc L st μ post := by
  intro G p l e s m args below meth c C H locs ls hP hS hl
  exact lv_iconst (v := Int32.ofInt (2)) C.1 C.2.1 d rfl (k G p l e s m args below meth c C H locs ls hP hS hl)

theorem s_iconst_3 {K : MK} {pc : Nat} {L : List (Option AV)} {st : List AV} {μ : Mem} {post : Option AV → Mem → Prop} (d : decode K.2.1 pc = .ok (.iconst (3), 1)) (k : AW K (pc + 1) L (.inl (3) :: st) μ post) : AW K pc L st μ post := by
  intro G p l e s m args below meth c C H locs ls hP hS hl
  exact lv_iconst (v := Int32.ofInt (3)) C.1 C.2.1 d rfl (k G p l e s m args below meth c C H locs ls hP hS hl)

theorem s_iconst_4 {K : MK} {pc : Nat} {L : List (Option AV)} {st : List AV} {μ : Mem} {post : Option AV → Mem → Prop} (d : decode K.2.1 pc = .ok (.iconst (4), 1)) (k : AW K (pc + 1) L (.inl (4) :: st) μ post) : AW K pc L st μ post := by
  intro G p l e s m args below meth c C H locs ls hP hS hl
  exact lv_iconst (v := Int32.ofInt (4)) C.1 C.2.1 d rfl (k G p l e s m args below meth c C H locs ls hP hS hl)

theorem s_iconst_5 {K : MK} {pc : Nat} {L : List (Option AV)} {st : List AV} {μ : Mem} {post : Option AV → Mem → Prop} (d : decode K.2.1 pc = .ok (.iconst (5), 1)) (k : AW K (pc + 1) L (.inl (5) :: st) μ post) : AW K pc L st μ post := by
  intro G p l e s m args below meth c C H locs ls hP hS hl
  exact lv_iconst (v := Int32.ofInt (5)) C.1 C.2.1 d rfl (k G p l e s m args below meth c C H locs ls hP hS hl)

theorem s_bipush {K : MK} {pc : Nat} {L : List (Option AV)} {st : List AV} {μ : Mem} {post : Option AV → Mem → Prop} {n z : Int} (d : decode K.2.1 pc = .ok (.bipush n, 2)) (hz : (Int8.ofInt n).toInt = z) (k : AW K (pc + 2) L (.inl z :: st) μ post) : AW K pc L st μ post := by
  intro G p l e s m args below meth c C H locs ls hP hS hl
  exact lv_bipush (v := Int32.ofInt z) C.1 C.2.1 d (by rw [← hz]; exact (Int32.ofInt_int8ToInt _).symm) (k G p l e s m args below meth c C H locs ls hP hS hl)

theorem s_sipush {K : MK} {pc : Nat} {L : List (Option AV)} {st : List AV} {μ : Mem} {post : Option AV → Mem → Prop} {n z : Int} (d : decode K.2.1 pc = .ok (.sipush n, 3)) (hz : (Int16.ofInt n).toInt = z) (k : AW K (pc + 3) L (.inl z :: st) μ post) : AW K pc L st μ post := by
  intro G p l e s m args below meth c C H locs ls hP hS hl
  exact lv_sipush (v := Int32.ofInt z) C.1 C.2.1 d (by rw [← hz]; exact (Int32.ofInt_int16ToInt _).symm) (k G p l e s m args below meth c C H locs ls hP hS hl)

theorem s_lconst_0 {K : MK} {pc : Nat} {L : List (Option AV)} {st : List AV} {μ : Mem} {post : Option AV → Mem → Prop} (d : decode K.2.1 pc = .ok (.lconst 0, 1)) (k : AW K (pc + 1) L (.inr (.inl 0) :: st) μ post) : AW K pc L st μ post := by
  intro G p l e s m args below meth c C H locs ls hP hS hl
  exact lv_lconst (v := Int64.ofInt 0) C.1 C.2.1 d rfl (k G p l e s m args below meth c C H locs ls hP hS hl)

theorem s_lconst_1 {K : MK} {pc : Nat} {L : List (Option AV)} {st : List AV} {μ : Mem} {post : Option AV → Mem → Prop} (d : decode K.2.1 pc = .ok (.lconst 1, 1)) (k : AW K (pc + 1) L (.inr (.inl 1) :: st) μ post) : AW K pc L st μ post := by
  intro G p l e s m args below meth c C H locs ls hP hS hl
  exact lv_lconst (v := Int64.ofInt 1) C.1 C.2.1 d rfl (k G p l e s m args below meth c C H locs ls hP hS hl)

theorem s_ldc {K : MK} {pc : Nat} {L : List (Option AV)} {st : List AV} {μ : Mem} {post : Option AV → Mem → Prop} {own : String} {index : Nat} {z : Int} (d : decode K.2.1 pc = .ok (.ldc index, 2)) (ho : K.1.cls = own) (hc : Cond.constant own index (Int32.ofInt z) ∈ tblG) (k : AW K (pc + 2) L (.inl z :: st) μ post) : AW K pc L st μ post := by
  intro G p l e s m args below meth c C H locs ls hP hS hl
  exact lv_ldc (v := Int32.ofInt z) C.1 C.2.1 (ho ▸ C.2.2.2.2.1) (C.2.2.2.2.2.2.1 _ hc) d (k G p l e s m args below meth c C H locs ls hP hS hl)

theorem s_ldc_w {K : MK} {pc : Nat} {L : List (Option AV)} {st : List AV} {μ : Mem} {post : Option AV → Mem → Prop} {own : String} {index : Nat} {z : Int} (d : decode K.2.1 pc = .ok (.ldc_w index, 3)) (ho : K.1.cls = own) (hc : Cond.constant own index (Int32.ofInt z) ∈ tblG) (k : AW K (pc + 3) L (.inl z :: st) μ post) : AW K pc L st μ post := by
  intro G p l e s m args below meth c C H locs ls hP hS hl
  exact lv_ldcw (v := Int32.ofInt z) C.1 C.2.1 (ho ▸ C.2.2.2.2.1) (C.2.2.2.2.2.2.1 _ hc) d (k G p l e s m args below meth c C H locs ls hP hS hl)

theorem s_ldc2_w {K : MK} {pc : Nat} {L : List (Option AV)} {st : List AV} {μ : Mem} {post : Option AV → Mem → Prop} {own : String} {index : Nat} {z : Int} (d : decode K.2.1 pc = .ok (.ldc2_w index, 3)) (ho : K.1.cls = own) (hc : Cond.constantLong own index (Int64.ofInt z) ∈ tblG) (k : AW K (pc + 3) L (.inr (.inl z) :: st) μ post) : AW K pc L st μ post := by
  intro G p l e s m args below meth c C H locs ls hP hS hl
  exact lv_ldc2 (v := Int64.ofInt z) C.1 C.2.1 (ho ▸ C.2.2.2.2.1) (C.2.2.2.2.2.2.1 _ hc) d (k G p l e s m args below meth c C H locs ls hP hS hl)

theorem s_iadd {K : MK} {pc : Nat} {L : List (Option AV)} {st : List AV} {μ : Mem} {post : Option AV → Mem → Prop} {x y : Int} (d : decode K.2.1 pc = .ok (.iadd, 1)) (k : AW K (pc + 1) L (.inl (x + y) :: st) μ post) : AW K pc L (.inl y :: .inl x :: st) μ post := by
  intro G p l e s m args below meth c C H locs ls hP hS hl
  refine lv_iadd C.1 C.2.1 d (W.st (?_) (k G p l e s m args below meth c C H locs ls hP hS hl))
  simp only [List.map_cons, cv]
  rw [Int32.ofInt_add]

theorem s_isub {K : MK} {pc : Nat} {L : List (Option AV)} {st : List AV} {μ : Mem} {post : Option AV → Mem → Prop} {x y : Int} (d : decode K.2.1 pc = .ok (.isub, 1)) (k : AW K (pc + 1) L (.inl (x - y) :: st) μ post) : AW K pc L (.inl y :: .inl x :: st) μ post := by
  intro G p l e s m args below meth c C H locs ls hP hS hl
  refine lv_isub C.1 C.2.1 d (W.st (?_) (k G p l e s m args below meth c C H locs ls hP hS hl))
  simp only [List.map_cons, cv]
  rw [Int32.ofInt_sub]

theorem s_imul {K : MK} {pc : Nat} {L : List (Option AV)} {st : List AV} {μ : Mem} {post : Option AV → Mem → Prop} {x y : Int} (d : decode K.2.1 pc = .ok (.imul, 1)) (k : AW K (pc + 1) L (.inl (x * y) :: st) μ post) : AW K pc L (.inl y :: .inl x :: st) μ post := by
  intro G p l e s m args below meth c C H locs ls hP hS hl
  refine lv_imul C.1 C.2.1 d (W.st (?_) (k G p l e s m args below meth c C H locs ls hP hS hl))
  simp only [List.map_cons, cv]
  rw [Int32.ofInt_mul]

theorem s_ladd {K : MK} {pc : Nat} {L : List (Option AV)} {st : List AV} {μ : Mem} {post : Option AV → Mem → Prop} {x y : Int} (d : decode K.2.1 pc = .ok (.ladd, 1)) (k : AW K (pc + 1) L (.inr (.inl (x + y)) :: st) μ post) : AW K pc L (.inr (.inl y) :: .inr (.inl x) :: st) μ post := by
  intro G p l e s m args below meth c C H locs ls hP hS hl
  refine lv_ladd C.1 C.2.1 d (W.st (?_) (k G p l e s m args below meth c C H locs ls hP hS hl))
  simp only [List.map_cons, cv]
  rw [Int64.ofInt_add]

theorem s_lsub {K : MK} {pc : Nat} {L : List (Option AV)} {st : List AV} {μ : Mem} {post : Option AV → Mem → Prop} {x y : Int} (d : decode K.2.1 pc = .ok (.lsub, 1)) (k : AW K (pc + 1) L (.inr (.inl (x - y)) :: st) μ post) : AW K pc L (.inr (.inl y) :: .inr (.inl x) :: st) μ post := by
  intro G p l e s m args below meth c C H locs ls hP hS hl
  refine lv_lsub C.1 C.2.1 d (W.st (?_) (k G p l e s m args below meth c C H locs ls hP hS hl))
  simp only [List.map_cons, cv]
  rw [Int64.ofInt_sub]

theorem s_lmul {K : MK} {pc : Nat} {L : List (Option AV)} {st : List AV} {μ : Mem} {post : Option AV → Mem → Prop} {x y : Int} (d : decode K.2.1 pc = .ok (.lmul, 1)) (k : AW K (pc + 1) L (.inr (.inl (x * y)) :: st) μ post) : AW K pc L (.inr (.inl y) :: .inr (.inl x) :: st) μ post := by
  intro G p l e s m args below meth c C H locs ls hP hS hl
  refine lv_lmul C.1 C.2.1 d (W.st (?_) (k G p l e s m args below meth c C H locs ls hP hS hl))
  simp only [List.map_cons, cv]
  rw [Int64.ofInt_mul]

theorem i32_toInt {x : Int} (h : -2147483648 ≤ x ∧ x < 2147483648) : (Int32.ofInt x).toInt = x := Int32.toInt_ofInt_of_le (by omega) (by omega)
theorem i64_toInt {x : Int} (h : -9223372036854775808 ≤ x ∧ x < 9223372036854775808) : (Int64.ofInt x).toInt = x := Int64.toInt_ofInt_of_le (by omega) (by omega)
theorem i32_lt {x y : Int} (hx : -2147483648 ≤ x ∧ x < 2147483648) (hy : -2147483648 ≤ y ∧ y < 2147483648) : Int32.ofInt x < Int32.ofInt y ↔ x < y := by
  rw [Int32.lt_iff_toInt_lt, i32_toInt hx, i32_toInt hy]
theorem i32_le {x y : Int} (hx : -2147483648 ≤ x ∧ x < 2147483648) (hy : -2147483648 ≤ y ∧ y < 2147483648) : Int32.ofInt x ≤ Int32.ofInt y ↔ x ≤ y := by
  rw [Int32.le_iff_toInt_le, i32_toInt hx, i32_toInt hy]
theorem i32_eq {x y : Int} (hx : -2147483648 ≤ x ∧ x < 2147483648) (hy : -2147483648 ≤ y ∧ y < 2147483648) : Int32.ofInt x = Int32.ofInt y ↔ x = y := by
  rw [← Int32.toInt_inj, i32_toInt hx, i32_toInt hy]
theorem i64_lt {x y : Int} (hx : -9223372036854775808 ≤ x ∧ x < 9223372036854775808) (hy : -9223372036854775808 ≤ y ∧ y < 9223372036854775808) : Int64.ofInt x < Int64.ofInt y ↔ x < y := by
  rw [Int64.lt_iff_toInt_lt, i64_toInt hx, i64_toInt hy]
theorem i64_eq {x y : Int} (hx : -9223372036854775808 ≤ x ∧ x < 9223372036854775808) (hy : -9223372036854775808 ≤ y ∧ y < 9223372036854775808) : Int64.ofInt x = Int64.ofInt y ↔ x = y := by
  rw [← Int64.toInt_inj, i64_toInt hx, i64_toInt hy]
theorem i32_zero : Int32.ofInt 0 = 0 := rfl
theorem i32_clamp {x : Int} (h0 : 0 ≤ x) (h : x < 2147483648) : (Int32.ofInt x).toNatClampNeg = x.toNat := by
  rw [← Int32.toNat_toInt, i32_toInt ⟨by omega, h⟩]
theorem i32_in {x : Int} {n : Nat} (h0 : 0 ≤ x) (h : x < n) (hn : n < 2147483648) : vp_in (Int32.ofInt x) n := by
  rw [vp_in_iff, i32_toInt ⟨by omega, by omega⟩]
  exact ⟨h0, h⟩
theorem tdiv_in {x y B : Int} (hx : -B ≤ x ∧ x < B) (hy : 0 < y) : -B ≤ x.tdiv y ∧ x.tdiv y < B := by
  have h1 : (x.tdiv y).natAbs ≤ x.natAbs := by rw [Int.natAbs_tdiv]; exact Nat.div_le_self _ _
  by_cases h : 0 ≤ x
  · have h2 := Int.tdiv_nonneg h (Int.le_of_lt hy)
    omega
  · have h2 := Int.tdiv_nonneg (a := -x) (b := y) (by omega) (Int.le_of_lt hy)
    rw [Int.neg_tdiv] at h2
    omega
theorem i32_tdiv {x y : Int} (hx : -2147483648 ≤ x ∧ x < 2147483648) (hy : 0 < y ∧ y < 2147483648) : Int32.ofInt x / Int32.ofInt y = Int32.ofInt (x.tdiv y) := by
  rw [← Int32.toInt_inj, Int32.toInt_div_of_ne_right _ _ (by
    intro h
    have h1 := congrArg Int32.toInt h
    rw [i32_toInt ⟨by omega, hy.2⟩] at h1
    have h2 : (-1 : Int32).toInt = -1 := by decide
    omega), i32_toInt hx, i32_toInt ⟨by omega, hy.2⟩, i32_toInt]
  exact tdiv_in hx hy.1
theorem i64_tdiv {x y : Int} (hx : -9223372036854775808 ≤ x ∧ x < 9223372036854775808) (hy : 0 < y ∧ y < 9223372036854775808) : Int64.ofInt x / Int64.ofInt y = Int64.ofInt (x.tdiv y) := by
  rw [← Int64.toInt_inj, Int64.toInt_div_of_ne_right _ _ (by
    intro h
    have h1 := congrArg Int64.toInt h
    rw [i64_toInt ⟨by omega, hy.2⟩] at h1
    have h2 : (-1 : Int64).toInt = -1 := by decide
    omega), i64_toInt hx, i64_toInt ⟨by omega, hy.2⟩, i64_toInt]
  exact tdiv_in hx hy.1
theorem tmod_eq (x y : Int) : x - x.tdiv y * y = x.tmod y := by
  have := Int.tmod_def x y
  rw [this, Int.mul_comm]

theorem s_idiv {K : MK} {pc : Nat} {L : List (Option AV)} {st : List AV} {μ : Mem} {post : Option AV → Mem → Prop} {x y : Int} (d : decode K.2.1 pc = .ok (.idiv, 1)) (hx : -2147483648 ≤ x ∧ x < 2147483648) (hy : 0 < y ∧ y < 2147483648) (k : AW K (pc + 1) L (.inl (x.tdiv y) :: st) μ post) : AW K pc L (.inl y :: .inl x :: st) μ post := by
  intro G p l e s m args below meth c C H locs ls hP hS hl
  refine lv_idiv C.1 C.2.1 d (by rw [← i32_zero, i32_eq ⟨by omega, by omega⟩ ⟨by omega, by omega⟩]; omega) (W.st (?_) (k G p l e s m args below meth c C H locs ls hP hS hl))
  simp only [List.map_cons, cv]
  rw [i32_tdiv hx hy]

theorem s_ldiv {K : MK} {pc : Nat} {L : List (Option AV)} {st : List AV} {μ : Mem} {post : Option AV → Mem → Prop} {x y : Int} (d : decode K.2.1 pc = .ok (.ldiv, 1)) (hx : -9223372036854775808 ≤ x ∧ x < 9223372036854775808) (hy : 0 < y ∧ y < 9223372036854775808) (k : AW K (pc + 1) L (.inr (.inl (x.tdiv y)) :: st) μ post) : AW K pc L (.inr (.inl y) :: .inr (.inl x) :: st) μ post := by
  intro G p l e s m args below meth c C H locs ls hP hS hl
  refine lv_ldiv C.1 C.2.1 d (by rw [show (0 : Int64) = Int64.ofInt 0 from rfl, i64_eq ⟨by omega, by omega⟩ ⟨by omega, by omega⟩]; omega) (W.st (?_) (k G p l e s m args below meth c C H locs ls hP hS hl))
  simp only [List.map_cons, cv]
  rw [i64_tdiv hx hy]

theorem s_irem {K : MK} {pc : Nat} {L : List (Option AV)} {st : List AV} {μ : Mem} {post : Option AV → Mem → Prop} {x y : Int} (d : decode K.2.1 pc = .ok (.irem, 1)) (hx : -2147483648 ≤ x ∧ x < 2147483648) (hy : 0 < y ∧ y < 2147483648) (k : AW K (pc + 1) L (.inl (x.tmod y) :: st) μ post) : AW K pc L (.inl y :: .inl x :: st) μ post := by
  intro G p l e s m args below meth c C H locs ls hP hS hl
  refine lv_irem C.1 C.2.1 d (by rw [← i32_zero, i32_eq ⟨by omega, by omega⟩ ⟨by omega, by omega⟩]; omega) (W.st (?_) (k G p l e s m args below meth c C H locs ls hP hS hl))
  simp only [List.map_cons, cv]
  rw [← tmod_eq, Int32.ofInt_sub, Int32.ofInt_mul, i32_tdiv hx hy]

theorem s_lrem {K : MK} {pc : Nat} {L : List (Option AV)} {st : List AV} {μ : Mem} {post : Option AV → Mem → Prop} {x y : Int} (d : decode K.2.1 pc = .ok (.lrem, 1)) (hx : -9223372036854775808 ≤ x ∧ x < 9223372036854775808) (hy : 0 < y ∧ y < 9223372036854775808) (k : AW K (pc + 1) L (.inr (.inl (x.tmod y)) :: st) μ post) : AW K pc L (.inr (.inl y) :: .inr (.inl x) :: st) μ post := by
  intro G p l e s m args below meth c C H locs ls hP hS hl
  refine lv_lrem C.1 C.2.1 d (by rw [show (0 : Int64) = Int64.ofInt 0 from rfl, i64_eq ⟨by omega, by omega⟩ ⟨by omega, by omega⟩]; omega) (W.st (?_) (k G p l e s m args below meth c C H locs ls hP hS hl))
  simp only [List.map_cons, cv]
  rw [← tmod_eq, Int64.ofInt_sub, Int64.ofInt_mul, i64_tdiv hx hy]

theorem s_lneg {K : MK} {pc : Nat} {L : List (Option AV)} {st : List AV} {μ : Mem} {post : Option AV → Mem → Prop} {x : Int} (d : decode K.2.1 pc = .ok (.lneg, 1)) (k : AW K (pc + 1) L (.inr (.inl (-x)) :: st) μ post) : AW K pc L (.inr (.inl x) :: st) μ post := by
  intro G p l e s m args below meth c C H locs ls hP hS hl
  refine lv_lneg C.1 C.2.1 d (W.st (?_) (k G p l e s m args below meth c C H locs ls hP hS hl))
  simp only [List.map_cons, cv]
  rw [Int64.ofInt_neg]

theorem s_i2l {K : MK} {pc : Nat} {L : List (Option AV)} {st : List AV} {μ : Mem} {post : Option AV → Mem → Prop} {x : Int} (d : decode K.2.1 pc = .ok (.i2l, 1)) (hx : -2147483648 ≤ x ∧ x < 2147483648) (k : AW K (pc + 1) L (.inr (.inl x) :: st) μ post) : AW K pc L (.inl x :: st) μ post := by
  intro G p l e s m args below meth c C H locs ls hP hS hl
  exact lv_i2l (v := Int64.ofInt x) C.1 C.2.1 d (by rw [← Int64.ofInt_int32ToInt, i32_toInt hx]) (k G p l e s m args below meth c C H locs ls hP hS hl)

theorem s_i2b {K : MK} {pc : Nat} {L : List (Option AV)} {st : List AV} {μ : Mem} {post : Option AV → Mem → Prop} {x : Int} (d : decode K.2.1 pc = .ok (.i2b, 1)) (k : AW K (pc + 1) L (.inl ((Int32.ofInt x).toInt8.toInt) :: st) μ post) : AW K pc L (.inl x :: st) μ post := by
  intro G p l e s m args below meth c C H locs ls hP hS hl
  exact lv_i2b (v := Int32.ofInt ((Int32.ofInt x).toInt8.toInt)) C.1 C.2.1 d (Int32.ofInt_int8ToInt _).symm (k G p l e s m args below meth c C H locs ls hP hS hl)

theorem s_i2s {K : MK} {pc : Nat} {L : List (Option AV)} {st : List AV} {μ : Mem} {post : Option AV → Mem → Prop} {x : Int} (d : decode K.2.1 pc = .ok (.i2s, 1)) (k : AW K (pc + 1) L (.inl ((Int32.ofInt x).toInt16.toInt) :: st) μ post) : AW K pc L (.inl x :: st) μ post := by
  intro G p l e s m args below meth c C H locs ls hP hS hl
  exact lv_i2s (v := Int32.ofInt ((Int32.ofInt x).toInt16.toInt)) C.1 C.2.1 d (Int32.ofInt_int16ToInt _).symm (k G p l e s m args below meth c C H locs ls hP hS hl)

def andI (x y : Int) : Int := (Int32.ofInt x &&& Int32.ofInt y).toInt
def orI (x y : Int) : Int := (Int32.ofInt x ||| Int32.ofInt y).toInt
def xorI (x y : Int) : Int := (Int32.ofInt x ^^^ Int32.ofInt y).toInt
def shlI (x y : Int) : Int := (Int32.ofInt x <<< (Int32.ofInt y &&& 31)).toInt
def shrI (x y : Int) : Int := (Int32.ofInt x >>> (Int32.ofInt y &&& 31)).toInt
def ushrI (x y : Int) : Int := ((Int32.ofInt x).toUInt32 >>> ((Int32.ofInt y).toUInt32 &&& Int32.toUInt32 31)).toInt32.toInt
def shlL (x y : Int) : Int := (Int64.ofInt x <<< ((Int32.ofInt y).toInt64 &&& 63)).toInt
def shrL (x y : Int) : Int := (Int64.ofInt x >>> ((Int32.ofInt y).toInt64 &&& 63)).toInt

theorem s_iand {K : MK} {pc : Nat} {L : List (Option AV)} {st : List AV} {μ : Mem} {post : Option AV → Mem → Prop} {x y : Int} (d : decode K.2.1 pc = .ok (.iand, 1)) (k : AW K (pc + 1) L (.inl (andI x y) :: st) μ post) : AW K pc L (.inl y :: .inl x :: st) μ post := by
  intro G p l e s m args below meth c C H locs ls hP hS hl
  refine lv_iand C.1 C.2.1 d (W.st (?_) (k G p l e s m args below meth c C H locs ls hP hS hl))
  simp only [List.map_cons, cv, andI, Int32.ofInt_toInt]

theorem s_ior {K : MK} {pc : Nat} {L : List (Option AV)} {st : List AV} {μ : Mem} {post : Option AV → Mem → Prop} {x y : Int} (d : decode K.2.1 pc = .ok (.ior, 1)) (k : AW K (pc + 1) L (.inl (orI x y) :: st) μ post) : AW K pc L (.inl y :: .inl x :: st) μ post := by
  intro G p l e s m args below meth c C H locs ls hP hS hl
  refine lv_ior C.1 C.2.1 d (W.st (?_) (k G p l e s m args below meth c C H locs ls hP hS hl))
  simp only [List.map_cons, cv, orI, Int32.ofInt_toInt]

theorem s_ixor {K : MK} {pc : Nat} {L : List (Option AV)} {st : List AV} {μ : Mem} {post : Option AV → Mem → Prop} {x y : Int} (d : decode K.2.1 pc = .ok (.ixor, 1)) (k : AW K (pc + 1) L (.inl (xorI x y) :: st) μ post) : AW K pc L (.inl y :: .inl x :: st) μ post := by
  intro G p l e s m args below meth c C H locs ls hP hS hl
  refine lv_ixor C.1 C.2.1 d (W.st (?_) (k G p l e s m args below meth c C H locs ls hP hS hl))
  simp only [List.map_cons, cv, xorI, Int32.ofInt_toInt]

theorem s_ishl {K : MK} {pc : Nat} {L : List (Option AV)} {st : List AV} {μ : Mem} {post : Option AV → Mem → Prop} {x y : Int} (d : decode K.2.1 pc = .ok (.ishl, 1)) (k : AW K (pc + 1) L (.inl (shlI x y) :: st) μ post) : AW K pc L (.inl y :: .inl x :: st) μ post := by
  intro G p l e s m args below meth c C H locs ls hP hS hl
  refine lv_ishl C.1 C.2.1 d (W.st (?_) (k G p l e s m args below meth c C H locs ls hP hS hl))
  simp only [List.map_cons, cv, shlI, Int32.ofInt_toInt]

theorem s_ishr {K : MK} {pc : Nat} {L : List (Option AV)} {st : List AV} {μ : Mem} {post : Option AV → Mem → Prop} {x y : Int} (d : decode K.2.1 pc = .ok (.ishr, 1)) (k : AW K (pc + 1) L (.inl (shrI x y) :: st) μ post) : AW K pc L (.inl y :: .inl x :: st) μ post := by
  intro G p l e s m args below meth c C H locs ls hP hS hl
  refine lv_ishr C.1 C.2.1 d (W.st (?_) (k G p l e s m args below meth c C H locs ls hP hS hl))
  simp only [List.map_cons, cv, shrI, Int32.ofInt_toInt]

theorem s_iushr {K : MK} {pc : Nat} {L : List (Option AV)} {st : List AV} {μ : Mem} {post : Option AV → Mem → Prop} {x y : Int} (d : decode K.2.1 pc = .ok (.iushr, 1)) (k : AW K (pc + 1) L (.inl (ushrI x y) :: st) μ post) : AW K pc L (.inl y :: .inl x :: st) μ post := by
  intro G p l e s m args below meth c C H locs ls hP hS hl
  exact lv_iushr (v := Int32.ofInt (ushrI x y)) C.1 C.2.1 d (by rw [ushrI, Int32.ofInt_toInt]) (k G p l e s m args below meth c C H locs ls hP hS hl)

theorem s_lshl {K : MK} {pc : Nat} {L : List (Option AV)} {st : List AV} {μ : Mem} {post : Option AV → Mem → Prop} {x y : Int} (d : decode K.2.1 pc = .ok (.lshl, 1)) (k : AW K (pc + 1) L (.inr (.inl (shlL x y)) :: st) μ post) : AW K pc L (.inl y :: .inr (.inl x) :: st) μ post := by
  intro G p l e s m args below meth c C H locs ls hP hS hl
  exact lv_lshl (v := Int64.ofInt (shlL x y)) C.1 C.2.1 d (by rw [shlL, Int64.ofInt_toInt]) (k G p l e s m args below meth c C H locs ls hP hS hl)

theorem s_lshr {K : MK} {pc : Nat} {L : List (Option AV)} {st : List AV} {μ : Mem} {post : Option AV → Mem → Prop} {x y : Int} (d : decode K.2.1 pc = .ok (.lshr, 1)) (k : AW K (pc + 1) L (.inr (.inl (shrL x y)) :: st) μ post) : AW K pc L (.inl y :: .inr (.inl x) :: st) μ post := by
  intro G p l e s m args below meth c C H locs ls hP hS hl
  exact lv_lshr (v := Int64.ofInt (shrL x y)) C.1 C.2.1 d (by rw [shrL, Int64.ofInt_toInt]) (k G p l e s m args below meth c C H locs ls hP hS hl)

theorem s_dup {K : MK} {pc : Nat} {L : List (Option AV)} {st : List AV} {μ : Mem} {post : Option AV → Mem → Prop} {v : AV} (d : decode K.2.1 pc = .ok (.dup, 1)) (hv : avc v = 1) (k : AW K (pc + 1) L (v :: v :: st) μ post) : AW K pc L (v :: st) μ post := by
  intro G p l e s m args below meth c C H locs ls hP hS hl
  exact lv_dup C.1 C.2.1 d (by rw [cv_cat, hv]) (k G p l e s m args below meth c C H locs ls hP hS hl)

theorem s_dup2 {K : MK} {pc : Nat} {L : List (Option AV)} {st : List AV} {μ : Mem} {post : Option AV → Mem → Prop} {v w : AV} (d : decode K.2.1 pc = .ok (.dup2, 1)) (hv : avc v = 1) (hw : avc w = 1) (k : AW K (pc + 1) L (v :: w :: v :: w :: st) μ post) : AW K pc L (v :: w :: st) μ post := by
  intro G p l e s m args below meth c C H locs ls hP hS hl
  exact lv_dup2_11 C.1 C.2.1 d (by rw [cv_cat, hv]) (by rw [cv_cat, hw]) (k G p l e s m args below meth c C H locs ls hP hS hl)

theorem s_pop {K : MK} {pc : Nat} {L : List (Option AV)} {st : List AV} {μ : Mem} {post : Option AV → Mem → Prop} {v : AV} (d : decode K.2.1 pc = .ok (.pop, 1)) (hv : avc v = 1) (k : AW K (pc + 1) L st μ post) : AW K pc L (v :: st) μ post := by
  intro G p l e s m args below meth c C H locs ls hP hS hl
  exact lv_pop C.1 C.2.1 d (by rw [cv_cat, hv]) (k G p l e s m args below meth c C H locs ls hP hS hl)

theorem s_icmp_eq {K : MK} {pc : Nat} {L : List (Option AV)} {st : List AV} {μ : Mem} {post : Option AV → Mem → Prop} {x y : Int} {off : Int} (tgt : Nat) (d : decode K.2.1 pc = .ok (.if_icmp .eq off, 3)) (ht : (pc : Int) + off = (tgt : Int)) (hx : -2147483648 ≤ x ∧ x < 2147483648) (hy : -2147483648 ≤ y ∧ y < 2147483648) (k1 : x = y → AW K tgt L st μ post) (k2 : x ≠ y → AW K (pc + 3) L st μ post) : AW K pc L (.inl y :: .inl x :: st) μ post := by
  intro G p l e s m args below meth c C H locs ls hP hS hl
  have eqv := i32_eq hx hy
  refine lv_icmp_eq C.1 C.2.1 d ht (fun h => k1 ?_ G p l e s m args below meth c C H locs ls hP hS hl) (fun h => k2 ?_ G p l e s m args below meth c C H locs ls hP hS hl)
  · first | exact eqv.mp h | exact fun q => h (eqv.mpr q)
  · first | exact Int.not_lt.mp (fun q => h (eqv.mpr q)) | exact Int.not_le.mp (fun q => h (eqv.mpr q)) | exact fun q => h (eqv.mpr q) | exact eqv.mp h

theorem s_if_eq {K : MK} {pc : Nat} {L : List (Option AV)} {st : List AV} {μ : Mem} {post : Option AV → Mem → Prop} {x : Int} {off : Int} (tgt : Nat) (d : decode K.2.1 pc = .ok (.ifCond .eq off, 3)) (ht : (pc : Int) + off = (tgt : Int)) (hx : -2147483648 ≤ x ∧ x < 2147483648) (k1 : x = 0 → AW K tgt L st μ post) (k2 : x ≠ 0 → AW K (pc + 3) L st μ post) : AW K pc L (.inl x :: st) μ post := by
  intro G p l e s m args below meth c C H locs ls hP hS hl
  have hy : -2147483648 ≤ (0 : Int) ∧ (0 : Int) < 2147483648 := by omega
  have eqv := i32_eq hx hy
  rw [i32_zero] at eqv
  refine lv_if_eq C.1 C.2.1 d ht (fun h => k1 ?_ G p l e s m args below meth c C H locs ls hP hS hl) (fun h => k2 ?_ G p l e s m args below meth c C H locs ls hP hS hl)
  · first | exact eqv.mp h | exact fun q => h (eqv.mpr q)
  · first | exact Int.not_lt.mp (fun q => h (eqv.mpr q)) | exact Int.not_le.mp (fun q => h (eqv.mpr q)) | exact fun q => h (eqv.mpr q) | exact eqv.mp h

theorem s_icmp_ne {K : MK} {pc : Nat} {L : List (Option AV)} {st : List AV} {μ : Mem} {post : Option AV → Mem → Prop} {x y : Int} {off : Int} (tgt : Nat) (d : decode K.2.1 pc = .ok (.if_icmp .ne off, 3)) (ht : (pc : Int) + off = (tgt : Int)) (hx : -2147483648 ≤ x ∧ x < 2147483648) (hy : -2147483648 ≤ y ∧ y < 2147483648) (k1 : x ≠ y → AW K tgt L st μ post) (k2 : x = y → AW K (pc + 3) L st μ post) : AW K pc L (.inl y :: .inl x :: st) μ post := by
  intro G p l e s m args below meth c C H locs ls hP hS hl
  have eqv := i32_eq hx hy
  refine lv_icmp_ne C.1 C.2.1 d ht (fun h => k1 ?_ G p l e s m args below meth c C H locs ls hP hS hl) (fun h => k2 ?_ G p l e s m args below meth c C H locs ls hP hS hl)
  · first | exact eqv.mp h | exact fun q => h (eqv.mpr q)
  · first | exact Int.not_lt.mp (fun q => h (eqv.mpr q)) | exact Int.not_le.mp (fun q => h (eqv.mpr q)) | exact fun q => h (eqv.mpr q) | exact eqv.mp h

theorem s_if_ne {K : MK} {pc : Nat} {L : List (Option AV)} {st : List AV} {μ : Mem} {post : Option AV → Mem → Prop} {x : Int} {off : Int} (tgt : Nat) (d : decode K.2.1 pc = .ok (.ifCond .ne off, 3)) (ht : (pc : Int) + off = (tgt : Int)) (hx : -2147483648 ≤ x ∧ x < 2147483648) (k1 : x ≠ 0 → AW K tgt L st μ post) (k2 : x = 0 → AW K (pc + 3) L st μ post) : AW K pc L (.inl x :: st) μ post := by
  intro G p l e s m args below meth c C H locs ls hP hS hl
  have hy : -2147483648 ≤ (0 : Int) ∧ (0 : Int) < 2147483648 := by omega
  have eqv := i32_eq hx hy
  rw [i32_zero] at eqv
  refine lv_if_ne C.1 C.2.1 d ht (fun h => k1 ?_ G p l e s m args below meth c C H locs ls hP hS hl) (fun h => k2 ?_ G p l e s m args below meth c C H locs ls hP hS hl)
  · first | exact eqv.mp h | exact fun q => h (eqv.mpr q)
  · first | exact Int.not_lt.mp (fun q => h (eqv.mpr q)) | exact Int.not_le.mp (fun q => h (eqv.mpr q)) | exact fun q => h (eqv.mpr q) | exact eqv.mp h

theorem s_icmp_lt {K : MK} {pc : Nat} {L : List (Option AV)} {st : List AV} {μ : Mem} {post : Option AV → Mem → Prop} {x y : Int} {off : Int} (tgt : Nat) (d : decode K.2.1 pc = .ok (.if_icmp .lt off, 3)) (ht : (pc : Int) + off = (tgt : Int)) (hx : -2147483648 ≤ x ∧ x < 2147483648) (hy : -2147483648 ≤ y ∧ y < 2147483648) (k1 : x < y → AW K tgt L st μ post) (k2 : y ≤ x → AW K (pc + 3) L st μ post) : AW K pc L (.inl y :: .inl x :: st) μ post := by
  intro G p l e s m args below meth c C H locs ls hP hS hl
  have eqv := i32_lt hx hy
  refine lv_icmp_lt C.1 C.2.1 d ht (fun h => k1 ?_ G p l e s m args below meth c C H locs ls hP hS hl) (fun h => k2 ?_ G p l e s m args below meth c C H locs ls hP hS hl)
  · first | exact eqv.mp h | exact fun q => h (eqv.mpr q)
  · first | exact Int.not_lt.mp (fun q => h (eqv.mpr q)) | exact Int.not_le.mp (fun q => h (eqv.mpr q)) | exact fun q => h (eqv.mpr q) | exact eqv.mp h

theorem s_if_lt {K : MK} {pc : Nat} {L : List (Option AV)} {st : List AV} {μ : Mem} {post : Option AV → Mem → Prop} {x : Int} {off : Int} (tgt : Nat) (d : decode K.2.1 pc = .ok (.ifCond .lt off, 3)) (ht : (pc : Int) + off = (tgt : Int)) (hx : -2147483648 ≤ x ∧ x < 2147483648) (k1 : x < 0 → AW K tgt L st μ post) (k2 : 0 ≤ x → AW K (pc + 3) L st μ post) : AW K pc L (.inl x :: st) μ post := by
  intro G p l e s m args below meth c C H locs ls hP hS hl
  have hy : -2147483648 ≤ (0 : Int) ∧ (0 : Int) < 2147483648 := by omega
  have eqv := i32_lt hx hy
  rw [i32_zero] at eqv
  refine lv_if_lt C.1 C.2.1 d ht (fun h => k1 ?_ G p l e s m args below meth c C H locs ls hP hS hl) (fun h => k2 ?_ G p l e s m args below meth c C H locs ls hP hS hl)
  · first | exact eqv.mp h | exact fun q => h (eqv.mpr q)
  · first | exact Int.not_lt.mp (fun q => h (eqv.mpr q)) | exact Int.not_le.mp (fun q => h (eqv.mpr q)) | exact fun q => h (eqv.mpr q) | exact eqv.mp h

theorem s_icmp_ge {K : MK} {pc : Nat} {L : List (Option AV)} {st : List AV} {μ : Mem} {post : Option AV → Mem → Prop} {x y : Int} {off : Int} (tgt : Nat) (d : decode K.2.1 pc = .ok (.if_icmp .ge off, 3)) (ht : (pc : Int) + off = (tgt : Int)) (hx : -2147483648 ≤ x ∧ x < 2147483648) (hy : -2147483648 ≤ y ∧ y < 2147483648) (k1 : y ≤ x → AW K tgt L st μ post) (k2 : x < y → AW K (pc + 3) L st μ post) : AW K pc L (.inl y :: .inl x :: st) μ post := by
  intro G p l e s m args below meth c C H locs ls hP hS hl
  have eqv := i32_le hy hx
  refine lv_icmp_ge C.1 C.2.1 d ht (fun h => k1 ?_ G p l e s m args below meth c C H locs ls hP hS hl) (fun h => k2 ?_ G p l e s m args below meth c C H locs ls hP hS hl)
  · first | exact eqv.mp h | exact fun q => h (eqv.mpr q)
  · first | exact Int.not_lt.mp (fun q => h (eqv.mpr q)) | exact Int.not_le.mp (fun q => h (eqv.mpr q)) | exact fun q => h (eqv.mpr q) | exact eqv.mp h

theorem s_if_ge {K : MK} {pc : Nat} {L : List (Option AV)} {st : List AV} {μ : Mem} {post : Option AV → Mem → Prop} {x : Int} {off : Int} (tgt : Nat) (d : decode K.2.1 pc = .ok (.ifCond .ge off, 3)) (ht : (pc : Int) + off = (tgt : Int)) (hx : -2147483648 ≤ x ∧ x < 2147483648) (k1 : 0 ≤ x → AW K tgt L st μ post) (k2 : x < 0 → AW K (pc + 3) L st μ post) : AW K pc L (.inl x :: st) μ post := by
  intro G p l e s m args below meth c C H locs ls hP hS hl
  have hy : -2147483648 ≤ (0 : Int) ∧ (0 : Int) < 2147483648 := by omega
  have eqv := i32_le hy hx
  rw [i32_zero] at eqv
  refine lv_if_ge C.1 C.2.1 d ht (fun h => k1 ?_ G p l e s m args below meth c C H locs ls hP hS hl) (fun h => k2 ?_ G p l e s m args below meth c C H locs ls hP hS hl)
  · first | exact eqv.mp h | exact fun q => h (eqv.mpr q)
  · first | exact Int.not_lt.mp (fun q => h (eqv.mpr q)) | exact Int.not_le.mp (fun q => h (eqv.mpr q)) | exact fun q => h (eqv.mpr q) | exact eqv.mp h

theorem s_icmp_gt {K : MK} {pc : Nat} {L : List (Option AV)} {st : List AV} {μ : Mem} {post : Option AV → Mem → Prop} {x y : Int} {off : Int} (tgt : Nat) (d : decode K.2.1 pc = .ok (.if_icmp .gt off, 3)) (ht : (pc : Int) + off = (tgt : Int)) (hx : -2147483648 ≤ x ∧ x < 2147483648) (hy : -2147483648 ≤ y ∧ y < 2147483648) (k1 : y < x → AW K tgt L st μ post) (k2 : x ≤ y → AW K (pc + 3) L st μ post) : AW K pc L (.inl y :: .inl x :: st) μ post := by
  intro G p l e s m args below meth c C H locs ls hP hS hl
  have eqv := i32_lt hy hx
  refine lv_icmp_gt C.1 C.2.1 d ht (fun h => k1 ?_ G p l e s m args below meth c C H locs ls hP hS hl) (fun h => k2 ?_ G p l e s m args below meth c C H locs ls hP hS hl)
  · first | exact eqv.mp h | exact fun q => h (eqv.mpr q)
  · first | exact Int.not_lt.mp (fun q => h (eqv.mpr q)) | exact Int.not_le.mp (fun q => h (eqv.mpr q)) | exact fun q => h (eqv.mpr q) | exact eqv.mp h

theorem s_if_gt {K : MK} {pc : Nat} {L : List (Option AV)} {st : List AV} {μ : Mem} {post : Option AV → Mem → Prop} {x : Int} {off : Int} (tgt : Nat) (d : decode K.2.1 pc = .ok (.ifCond .gt off, 3)) (ht : (pc : Int) + off = (tgt : Int)) (hx : -2147483648 ≤ x ∧ x < 2147483648) (k1 : 0 < x → AW K tgt L st μ post) (k2 : x ≤ 0 → AW K (pc + 3) L st μ post) : AW K pc L (.inl x :: st) μ post := by
  intro G p l e s m args below meth c C H locs ls hP hS hl
  have hy : -2147483648 ≤ (0 : Int) ∧ (0 : Int) < 2147483648 := by omega
  have eqv := i32_lt hy hx
  rw [i32_zero] at eqv
  refine lv_if_gt C.1 C.2.1 d ht (fun h => k1 ?_ G p l e s m args below meth c C H locs ls hP hS hl) (fun h => k2 ?_ G p l e s m args below meth c C H locs ls hP hS hl)
  · first | exact eqv.mp h | exact fun q => h (eqv.mpr q)
  · first | exact Int.not_lt.mp (fun q => h (eqv.mpr q)) | exact Int.not_le.mp (fun q => h (eqv.mpr q)) | exact fun q => h (eqv.mpr q) | exact eqv.mp h

theorem s_icmp_le {K : MK} {pc : Nat} {L : List (Option AV)} {st : List AV} {μ : Mem} {post : Option AV → Mem → Prop} {x y : Int} {off : Int} (tgt : Nat) (d : decode K.2.1 pc = .ok (.if_icmp .le off, 3)) (ht : (pc : Int) + off = (tgt : Int)) (hx : -2147483648 ≤ x ∧ x < 2147483648) (hy : -2147483648 ≤ y ∧ y < 2147483648) (k1 : x ≤ y → AW K tgt L st μ post) (k2 : y < x → AW K (pc + 3) L st μ post) : AW K pc L (.inl y :: .inl x :: st) μ post := by
  intro G p l e s m args below meth c C H locs ls hP hS hl
  have eqv := i32_le hx hy
  refine lv_icmp_le C.1 C.2.1 d ht (fun h => k1 ?_ G p l e s m args below meth c C H locs ls hP hS hl) (fun h => k2 ?_ G p l e s m args below meth c C H locs ls hP hS hl)
  · first | exact eqv.mp h | exact fun q => h (eqv.mpr q)
  · first | exact Int.not_lt.mp (fun q => h (eqv.mpr q)) | exact Int.not_le.mp (fun q => h (eqv.mpr q)) | exact fun q => h (eqv.mpr q) | exact eqv.mp h

theorem s_if_le {K : MK} {pc : Nat} {L : List (Option AV)} {st : List AV} {μ : Mem} {post : Option AV → Mem → Prop} {x : Int} {off : Int} (tgt : Nat) (d : decode K.2.1 pc = .ok (.ifCond .le off, 3)) (ht : (pc : Int) + off = (tgt : Int)) (hx : -2147483648 ≤ x ∧ x < 2147483648) (k1 : x ≤ 0 → AW K tgt L st μ post) (k2 : 0 < x → AW K (pc + 3) L st μ post) : AW K pc L (.inl x :: st) μ post := by
  intro G p l e s m args below meth c C H locs ls hP hS hl
  have hy : -2147483648 ≤ (0 : Int) ∧ (0 : Int) < 2147483648 := by omega
  have eqv := i32_le hx hy
  rw [i32_zero] at eqv
  refine lv_if_le C.1 C.2.1 d ht (fun h => k1 ?_ G p l e s m args below meth c C H locs ls hP hS hl) (fun h => k2 ?_ G p l e s m args below meth c C H locs ls hP hS hl)
  · first | exact eqv.mp h | exact fun q => h (eqv.mpr q)
  · first | exact Int.not_lt.mp (fun q => h (eqv.mpr q)) | exact Int.not_le.mp (fun q => h (eqv.mpr q)) | exact fun q => h (eqv.mpr q) | exact eqv.mp h

theorem s_goto {K : MK} {pc : Nat} {L : List (Option AV)} {st : List AV} {μ : Mem} {post : Option AV → Mem → Prop} {off : Int} (tgt : Nat) (d : decode K.2.1 pc = .ok (.goto off, 3)) (ht : (pc : Int) + off = (tgt : Int)) (k : AW K tgt L st μ post) : AW K pc L st μ post := by
  intro G p l e s m args below meth c C H locs ls hP hS hl
  exact lv_goto C.1 C.2.1 d ht (k G p l e s m args below meth c C H locs ls hP hS hl)

def cmpI (x y : Int) : Int := if y < x then 1 else if x = y then 0 else -1
theorem s_lcmp {K : MK} {pc : Nat} {L : List (Option AV)} {st : List AV} {μ : Mem} {post : Option AV → Mem → Prop} {x y : Int} (d : decode K.2.1 pc = .ok (.lcmp, 1)) (hx : -9223372036854775808 ≤ x ∧ x < 9223372036854775808) (hy : -9223372036854775808 ≤ y ∧ y < 9223372036854775808) (k : AW K (pc + 1) L (.inl (cmpI x y) :: st) μ post) : AW K pc L (.inr (.inl y) :: .inr (.inl x) :: st) μ post := by
  intro G p l e s m args below meth c C H locs ls hP hS hl
  refine W.lcmp C.1 C.2.1 d (W.st (?_) (k G p l e s m args below meth c C H locs ls hP hS hl))
  simp only [List.map_cons, cv, cmpI, lg_cmp, i64_lt hy hx, i64_eq hx hy]
  congr 1
  split
  · rfl
  · split <;> rfl

theorem s_tableOut {K : MK} {pc : Nat} {L : List (Option AV)} {st : List AV} {μ : Mem} {post : Option AV → Mem → Prop} {x dflt lo hi : Int} {offs : Array Int} {len : Nat} (tgt : Nat) (d : decode K.2.1 pc = .ok (.tableswitch dflt lo hi offs, len)) (hx : -2147483648 ≤ x ∧ x < 2147483648) (h : x < lo ∨ hi < x) (ht : (pc : Int) + dflt = (tgt : Int)) (k : AW K tgt L st μ post) : AW K pc L (.inl x :: st) μ post := by
  intro G p l e s m args below meth c C H locs ls hP hS hl
  exact lv_tableOut C.1 C.2.1 d (by rw [i32_toInt hx]; exact h) ht (k G p l e s m args below meth c C H locs ls hP hS hl)

theorem s_tableIn {K : MK} {pc : Nat} {L : List (Option AV)} {st : List AV} {μ : Mem} {post : Option AV → Mem → Prop} {x dflt lo hi off : Int} {offs : Array Int} {len : Nat} (tgt : Nat) (d : decode K.2.1 pc = .ok (.tableswitch dflt lo hi offs, len)) (hx : -2147483648 ≤ x ∧ x < 2147483648) (h1 : lo ≤ x) (h2 : x ≤ hi) (ho : offs[(x - lo).toNat]? = some off) (ht : (pc : Int) + off = (tgt : Int)) (k : AW K tgt L st μ post) : AW K pc L (.inl x :: st) μ post := by
  intro G p l e s m args below meth c C H locs ls hP hS hl
  exact lv_tableIn C.1 C.2.1 d (by rw [i32_toInt hx]; omega) (by rw [i32_toInt hx]; omega) (by rw [i32_toInt hx]; exact ho) ht (k G p l e s m args below meth c C H locs ls hP hS hl)

theorem s_lookup {K : MK} {pc : Nat} {L : List (Option AV)} {st : List AV} {μ : Mem} {post : Option AV → Mem → Prop} {x dflt off : Int} {ps : Array (Int × Int)} {len : Nat} (tgt : Nat) (d : decode K.2.1 pc = .ok (.lookupswitch dflt ps, len)) (hx : -2147483648 ≤ x ∧ x < 2147483648) (hp : (ps.toList.zip (ps.toList.drop 1)).all (fun (a, next) => a.1 < next.1) = true) (ho : Op.lookupswitch.offset ps.toList dflt x = off) (ht : (pc : Int) + off = (tgt : Int)) (k : AW K tgt L st μ post) : AW K pc L (.inl x :: st) μ post := by
  intro G p l e s m args below meth c C H locs ls hP hS hl
  exact lv_lookup C.1 C.2.1 d hp (by rw [i32_toInt hx]; exact ho) ht (k G p l e s m args below meth c C H locs ls hP hS hl)
end
section
theorem pairs_of {ad : Nat → Nat} {n : Nat} {ls : Array Slot} {L : List (Option AV)} (h : LH ad n ls L) : ∃ l : List (Nat × Value), lv_has ls n l ∧ ∀ (i : Nat) (v : AV), L[i]? = some (some v) → (i, cv ad v) ∈ l := by
  refine ⟨(List.range L.length).filterMap (fun i => (L[i]?.join).map (fun v => (i, cv ad v))), ⟨h.1, h.2.1, fun q hq => ?_⟩, fun i v hi => ?_⟩
  · obtain ⟨i, -, hi⟩ := List.mem_filterMap.mp hq
    cases hL : L[i]? with
    | none => simp [hL] at hi
    | some o =>
      cases o with
      | none => simp [hL] at hi
      | some v =>
        simp only [hL, Option.join_some, Option.map_some, Option.some.injEq] at hi
        subst hi
        exact h.2.2 i v hL
  · refine List.mem_filterMap.mpr ⟨i, List.mem_range.mpr (List.getElem?_eq_some_iff.mp hi).1, ?_⟩
    simp [hi]
def nolong (v : Option AV) : Bool := match v with
  | some (.inr (.inl _)) => false
  | _ => true
/-- the locals behind a store of one word at i -/
theorem LH.set1 {ad : Nat → Nat} {n : Nat} {ls' : Array Slot} {L : List (Option AV)} {i : Nat} {v : AV} {l : List (Nat × Value)} (hp : ∀ (i : Nat) (v : AV), L[i]? = some (some v) → (i, cv ad v) ∈ l)
    (h' : lv_has ls' n ((i, cv ad v) :: l.filter (fun q => !(q.1 == i) && !(q.1 + 1 == i && q.2.category == 2)))) (hn : ∀ j, j + 1 = i → nolong (L[j]?.join) = true) : LH ad n ls' (L.set i (some v)) := by
  refine ⟨h'.1, h'.2.1, fun j w hj => ?_⟩
  by_cases hji : j = i
  · subst hji
    rw [List.getElem?_set_self'] at hj
    cases hL : L[j]? with
    | none => simp [hL] at hj
    | some o =>
      simp [hL] at hj
      subst hj
      exact h'.2.2 _ List.mem_cons_self
  · rw [List.getElem?_set_ne (Ne.symm hji)] at hj
    refine h'.2.2 _ (List.mem_cons_of_mem _ (List.mem_filter.mpr ⟨hp j w hj, ?_⟩))
    have h2 : ¬ (j + 1 = i ∧ (cv ad w).category = 2) := by
      rintro ⟨a, b⟩
      have h3 := hn j a
      rw [hj, cv_cat] at *
      rcases w with z | z | z <;> simp [nolong, avc] at h3 b
    simp only [Bool.and_eq_true, Bool.not_eq_true', beq_eq_false_iff_ne, Bool.and_eq_false_iff, ne_eq]
    refine ⟨hji, ?_⟩
    by_cases ha : j + 1 = i
    · exact Or.inr (fun b => h2 ⟨ha, b⟩)
    · exact Or.inl ha
/-- .. of two words -/
theorem LH.set2 {ad : Nat → Nat} {n : Nat} {ls' : Array Slot} {L : List (Option AV)} {i : Nat} {v : AV} {l : List (Nat × Value)} (hp : ∀ (i : Nat) (v : AV), L[i]? = some (some v) → (i, cv ad v) ∈ l)
    (h' : lv_has ls' n ((i, cv ad v) :: l.filter (fun q => !(q.1 == i) && (!(q.1 == i + 1) && !(q.1 + 1 == i && q.2.category == 2))))) (hn : ∀ j, j + 1 = i → nolong (L[j]?.join) = true) : LH ad n ls' ((L.set i (some v)).set (i + 1) none) := by
  refine ⟨h'.1, h'.2.1, fun j w hj => ?_⟩
  by_cases hj1 : j = i + 1
  · subst hj1
    rw [List.getElem?_set_self'] at hj
    cases hL : (L.set i (some v))[i + 1]? with
    | none => simp [hL] at hj
    | some o => simp [hL] at hj
  rw [List.getElem?_set_ne (Ne.symm hj1)] at hj
  by_cases hji : j = i
  · subst hji
    rw [List.getElem?_set_self'] at hj
    cases hL : L[j]? with
    | none => simp [hL] at hj
    | some o =>
      simp [hL] at hj
      subst hj
      exact h'.2.2 _ List.mem_cons_self
  · rw [List.getElem?_set_ne (Ne.symm hji)] at hj
    refine h'.2.2 _ (List.mem_cons_of_mem _ (List.mem_filter.mpr ⟨hp j w hj, ?_⟩))
    have h2 : ¬ (j + 1 = i ∧ (cv ad w).category = 2) := by
      rintro ⟨a, b⟩
      have h3 := hn j a
      rw [hj, cv_cat] at *
      rcases w with z | z | z <;> simp [nolong, avc] at h3 b
    simp only [Bool.and_eq_true, Bool.not_eq_true', beq_eq_false_iff_ne, Bool.and_eq_false_iff, ne_eq]
    refine ⟨hji, hj1, ?_⟩
    by_cases ha : j + 1 = i
    · exact Or.inr (fun b => h2 ⟨ha, b⟩)
    · exact Or.inl ha

theorem g_iload_n {K : MK} {pc : Nat} {L : List (Option AV)} {st : List AV} {μ : Mem} {post : Option AV → Mem → Prop} {i : Fin 4} {z : Int} (d : decode K.2.1 pc = .ok (.iload_n i, 1)) (hL : L[(i : Nat)]? = some (some (.inl z))) (k : AW K (pc + 1) L (.inl z :: st) μ post) : AW K pc L st μ post := by
  intro G p l e s m args below meth c C H locs ls hP hS hl
  exact lv_iload_n C.1 C.2.1 d rfl (hl.2.2 _ _ hL) (k G p l e s m args below meth c C H locs ls hP hS hl)

theorem g_istore_n {K : MK} {pc : Nat} {L : List (Option AV)} {st : List AV} {μ : Mem} {post : Option AV → Mem → Prop} {i : Fin 4} {z : Int} (d : decode K.2.1 pc = .ok (.istore_n i, 1)) (hi : (i : Nat) < K.2.2.1) (hn : ∀ j, j + 1 = (i : Nat) → nolong (L[j]?.join) = true) (k : AW K (pc + 1) (L.set i (some (.inl z))) st μ post) : AW K pc L (.inl z :: st) μ post := by
  intro G p l e s m args below meth c C H locs ls hP hS hl
  obtain ⟨l0, h1, h2⟩ := pairs_of hl
  exact lv_istore_n C.1 C.2.1 d rfl h1 hi rfl (fun ls' h' => k G p l e s m args below meth c C H locs ls' hP hS (LH.set1 h2 h' hn))

theorem g_iload {K : MK} {pc : Nat} {L : List (Option AV)} {st : List AV} {μ : Mem} {post : Option AV → Mem → Prop} {i : Nat} {z : Int} (d : decode K.2.1 pc = .ok (.iload i, 2)) (hL : L[i]? = some (some (.inl z))) (k : AW K (pc + 2) L (.inl z :: st) μ post) : AW K pc L st μ post := by
  intro G p l e s m args below meth c C H locs ls hP hS hl
  exact lv_iload C.1 C.2.1 d (hl.2.2 _ _ hL) (k G p l e s m args below meth c C H locs ls hP hS hl)

theorem g_istore {K : MK} {pc : Nat} {L : List (Option AV)} {st : List AV} {μ : Mem} {post : Option AV → Mem → Prop} {i : Nat} {z : Int} (d : decode K.2.1 pc = .ok (.istore i, 2)) (hi : i < K.2.2.1) (hn : ∀ j, j + 1 = i → nolong (L[j]?.join) = true) (k : AW K (pc + 2) (L.set i (some (.inl z))) st μ post) : AW K pc L (.inl z :: st) μ post := by
  intro G p l e s m args below meth c C H locs ls hP hS hl
  obtain ⟨l0, h1, h2⟩ := pairs_of hl
  exact lv_istore C.1 C.2.1 d h1 hi rfl (fun ls' h' => k G p l e s m args below meth c C H locs ls' hP hS (LH.set1 (v := .inl z) h2 h' hn))

theorem g_lload_n {K : MK} {pc : Nat} {L : List (Option AV)} {st : List AV} {μ : Mem} {post : Option AV → Mem → Prop} {i : Fin 4} {z : Int} (d : decode K.2.1 pc = .ok (.lload_n i, 1)) (hL : L[(i : Nat)]? = some (some (.inr (.inl z)))) (k : AW K (pc + 1) L (.inr (.inl z) :: st) μ post) : AW K pc L st μ post := by
  intro G p l e s m args below meth c C H locs ls hP hS hl
  exact lv_lload_n C.1 C.2.1 d rfl (hl.2.2 _ _ hL) (k G p l e s m args below meth c C H locs ls hP hS hl)

theorem g_lstore_n {K : MK} {pc : Nat} {L : List (Option AV)} {st : List AV} {μ : Mem} {post : Option AV → Mem → Prop} {i : Fin 4} {z : Int} (d : decode K.2.1 pc = .ok (.lstore_n i, 1)) (hi : (i : Nat) + 1 < K.2.2.1) (hn : ∀ j, j + 1 = (i : Nat) → nolong (L[j]?.join) = true) (k : AW K (pc + 1) ((L.set i (some (.inr (.inl z)))).set ((i : Nat) + 1) none) st μ post) : AW K pc L (.inr (.inl z) :: st) μ post := by
  intro G p l e s m args below meth c C H locs ls hP hS hl
  obtain ⟨l0, h1, h2⟩ := pairs_of hl
  exact lv_lstore_n C.1 C.2.1 d rfl h1 hi rfl (fun ls' h' => k G p l e s m args below meth c C H locs ls' hP hS (LH.set2 h2 h' hn))

theorem g_lload {K : MK} {pc : Nat} {L : List (Option AV)} {st : List AV} {μ : Mem} {post : Option AV → Mem → Prop} {i : Nat} {z : Int} (d : decode K.2.1 pc = .ok (.lload i, 2)) (hL : L[i]? = some (some (.inr (.inl z)))) (k : AW K (pc + 2) L (.inr (.inl z) :: st) μ post) : AW K pc L st μ post := by
  intro G p l e s m args below meth c C H locs ls hP hS hl
  exact lv_lload C.1 C.2.1 d (hl.2.2 _ _ hL) (k G p l e s m args below meth c C H locs ls hP hS hl)

theorem g_lstore {K : MK} {pc : Nat} {L : List (Option AV)} {st : List AV} {μ : Mem} {post : Option AV → Mem → Prop} {i : Nat} {z : Int} (d : decode K.2.1 pc = .ok (.lstore i, 2)) (hi : i + 1 < K.2.2.1) (hn : ∀ j, j + 1 = i → nolong (L[j]?.join) = true) (k : AW K (pc + 2) ((L.set i (some (.inr (.inl z)))).set (i + 1) none) st μ post) : AW K pc L (.inr (.inl z) :: st) μ post := by
  intro G p l e s m args below meth c C H locs ls hP hS hl
  obtain ⟨l0, h1, h2⟩ := pairs_of hl
  exact lv_lstore C.1 C.2.1 d h1 hi rfl (fun ls' h' => k G p l e s m args below meth c C H locs ls' hP hS (LH.set2 (v := .inr (.inl z)) h2 h' hn))

theorem g_aload_n {K : MK} {pc : Nat} {L : List (Option AV)} {st : List AV} {μ : Mem} {post : Option AV → Mem → Prop} {i : Fin 4} {z : Nat} (d : decode K.2.1 pc = .ok (.aload_n i, 1)) (hL : L[(i : Nat)]? = some (some (.inr (.inr z)))) (k : AW K (pc + 1) L (.inr (.inr z) :: st) μ post) : AW K pc L st μ post := by
  intro G p l e s m args below meth c C H locs ls hP hS hl
  exact lv_aload_n C.1 C.2.1 d rfl (hl.2.2 _ _ hL) (k G p l e s m args below meth c C H locs ls hP hS hl)

theorem g_astore_n {K : MK} {pc : Nat} {L : List (Option AV)} {st : List AV} {μ : Mem} {post : Option AV → Mem → Prop} {i : Fin 4} {z : Nat} (d : decode K.2.1 pc = .ok (.astore_n i, 1)) (hi : (i : Nat) < K.2.2.1) (hn : ∀ j, j + 1 = (i : Nat) → nolong (L[j]?.join) = true) (k : AW K (pc + 1) (L.set i (some (.inr (.inr z)))) st μ post) : AW K pc L (.inr (.inr z) :: st) μ post := by
  intro G p l e s m args below meth c C H locs ls hP hS hl
  obtain ⟨l0, h1, h2⟩ := pairs_of hl
  exact lv_astore_n C.1 C.2.1 d rfl h1 hi rfl (fun ls' h' => k G p l e s m args below meth c C H locs ls' hP hS (LH.set1 (v := .inr (.inr z)) h2 h' hn))

theorem g_aload {K : MK} {pc : Nat} {L : List (Option AV)} {st : List AV} {μ : Mem} {post : Option AV → Mem → Prop} {i : Nat} {z : Nat} (d : decode K.2.1 pc = .ok (.aload i, 2)) (hL : L[i]? = some (some (.inr (.inr z)))) (k : AW K (pc + 2) L (.inr (.inr z) :: st) μ post) : AW K pc L st μ post := by
  intro G p l e s m args below meth c C H locs ls hP hS hl
  exact lv_aload C.1 C.2.1 d (hl.2.2 _ _ hL) (k G p l e s m args below meth c C H locs ls hP hS hl)

theorem g_iinc {K : MK} {pc : Nat} {L : List (Option AV)} {st : List AV} {μ : Mem} {post : Option AV → Mem → Prop} {i : Nat} {n z : Int} (d : decode K.2.1 pc = .ok (.iinc i n, 3)) (hL : L[i]? = some (some (.inl z))) (hi : i < K.2.2.1) (hn : ∀ j, j + 1 = i → nolong (L[j]?.join) = true) (k : AW K (pc + 3) (L.set i (some (.inl (z + n)))) st μ post) : AW K pc L st μ post := by
  intro G p l e s m args below meth c C H locs ls hP hS hl
  obtain ⟨l0, h1, h2⟩ := pairs_of hl
  obtain ⟨j, hj⟩ := List.getElem?_of_mem (h2 _ _ hL)
  exact lv_iinc (v := Int32.ofInt (z + n)) C.1 C.2.1 d h1 hj (Int32.ofInt_add _ _).symm hi rfl (fun ls' h' => k G p l e s m args below meth c C H locs ls' hP hS (LH.set1 (v := .inl (z + n)) h2 h' hn))
/-- fewer locals are known -/
def LE : List (Option AV) → List (Option AV) → Prop
  | _, [] => True
  | a :: s, b :: t => (b = none ∨ a = b) ∧ LE s t
  | [], b :: t => b = none ∧ LE [] t
theorem LE.at : ∀ {L L' : List (Option AV)}, LE L L' → ∀ (i : Nat) (v : AV), L'[i]? = some (some v) → L[i]? = some (some v)
  | _, [], _, i, v, h => by simp at h
  | [], b :: t, hh, 0, v, h => by
    have h1 : b = none ∧ LE [] t := hh
    rw [List.getElem?_cons_zero, h1.1] at h
    cases h
  | [], b :: t, hh, i + 1, v, h => by
    have h1 : b = none ∧ LE [] t := hh
    rw [List.getElem?_cons_succ] at h
    have := LE.at (L := []) (L' := t) h1.2 i v h
    simp at this
  | a :: s, b :: t, hh, 0, v, h => by
    have h1 : (b = none ∨ a = b) ∧ LE s t := hh
    rw [List.getElem?_cons_zero] at h ⊢
    rcases h1.1 with q | q
    · rw [q] at h; cases h
    · rw [q]; exact h
  | a :: s, b :: t, hh, i + 1, v, h => by
    have h1 : (b = none ∨ a = b) ∧ LE s t := hh
    rw [List.getElem?_cons_succ] at h ⊢
    exact LE.at h1.2 i v h
theorem s_le {K : MK} {pc : Nat} {L : List (Option AV)} {st : List AV} {μ : Mem} {post : Option AV → Mem → Prop} {L' : List (Option AV)} (h : LE L L') (k : AW K pc L' st μ post) : AW K pc L st μ post := by
  intro G p l e s m args below meth c C H locs ls hP hS hl
  exact k G p l e s m args below meth c C H locs ls hP hS ⟨hl.1, hl.2.1, fun i v hi => hl.2.2 i v (h.at i v hi)⟩

theorem s_iload_0 {K : MK} {pc : Nat} {st : List AV} {μ : Mem} {post : Option AV → Mem → Prop} {tl : List (Option AV)} {z : Int} (d : decode K.2.1 pc = .ok (.iload_n 0, 1)) (k : AW K (pc + 1) (some (.inl z) :: tl) (.inl z :: st) μ post) : AW K pc (some (.inl z) :: tl) st μ post := g_iload_n (i := 0) d rfl k

theorem s_istore_0 {K : MK} {pc : Nat} {st : List AV} {μ : Mem} {post : Option AV → Mem → Prop} {b : Option AV} {tl : List (Option AV)} {z : Int} (d : decode K.2.1 pc = .ok (.istore_n 0, 1)) (hi : 0 < K.2.2.1) (k : AW K (pc + 1) (some (.inl z) :: tl) st μ post) : AW K pc (b :: tl) (.inl z :: st) μ post := g_istore_n (i := 0) d hi (fun j hj => by omega) k

theorem s_iinc_0 {K : MK} {pc : Nat} {st : List AV} {μ : Mem} {post : Option AV → Mem → Prop} {tl : List (Option AV)} {n z : Int} (d : decode K.2.1 pc = .ok (.iinc 0 n, 3)) (hi : 0 < K.2.2.1) (k : AW K (pc + 3) (some (.inl (z + n)) :: tl) st μ post) : AW K pc (some (.inl z) :: tl) st μ post := g_iinc (i := 0) d rfl hi (fun j hj => by omega) k

theorem s_iload_1 {K : MK} {pc : Nat} {st : List AV} {μ : Mem} {post : Option AV → Mem → Prop} {a0 : Option AV} {tl : List (Option AV)} {z : Int} (d : decode K.2.1 pc = .ok (.iload_n 1, 1)) (k : AW K (pc + 1) (a0 :: some (.inl z) :: tl) (.inl z :: st) μ post) : AW K pc (a0 :: some (.inl z) :: tl) st μ post := g_iload_n (i := 1) d rfl k

theorem s_istore_1 {K : MK} {pc : Nat} {st : List AV} {μ : Mem} {post : Option AV → Mem → Prop} {a0 : Option AV} {b : Option AV} {tl : List (Option AV)} {z : Int} (d : decode K.2.1 pc = .ok (.istore_n 1, 1)) (hi : 1 < K.2.2.1) (hn : nolong a0 = true) (k : AW K (pc + 1) (a0 :: some (.inl z) :: tl) st μ post) : AW K pc (a0 :: b :: tl) (.inl z :: st) μ post := g_istore_n (i := 1) d hi (fun j hj => by cases (show j = 0 by omega); exact hn) k

theorem s_iinc_1 {K : MK} {pc : Nat} {st : List AV} {μ : Mem} {post : Option AV → Mem → Prop} {a0 : Option AV} {tl : List (Option AV)} {n z : Int} (d : decode K.2.1 pc = .ok (.iinc 1 n, 3)) (hi : 1 < K.2.2.1) (hn : nolong a0 = true) (k : AW K (pc + 3) (a0 :: some (.inl (z + n)) :: tl) st μ post) : AW K pc (a0 :: some (.inl z) :: tl) st μ post := g_iinc (i := 1) d rfl hi (fun j hj => by cases (show j = 0 by omega); exact hn) k

theorem s_iload_2 {K : MK} {pc : Nat} {st : List AV} {μ : Mem} {post : Option AV → Mem → Prop} {a0 a1 : Option AV} {tl : List (Option AV)} {z : Int} (d : decode K.2.1 pc = .ok (.iload_n 2, 1)) (k : AW K (pc + 1) (a0 :: a1 :: some (.inl z) :: tl) (.inl z :: st) μ post) : AW K pc (a0 :: a1 :: some (.inl z) :: tl) st μ post := g_iload_n (i := 2) d rfl k

theorem s_istore_2 {K : MK} {pc : Nat} {st : List AV} {μ : Mem} {post : Option AV → Mem → Prop} {a0 a1 : Option AV} {b : Option AV} {tl : List (Option AV)} {z : Int} (d : decode K.2.1 pc = .ok (.istore_n 2, 1)) (hi : 2 < K.2.2.1) (hn : nolong a1 = true) (k : AW K (pc + 1) (a0 :: a1 :: some (.inl z) :: tl) st μ post) : AW K pc (a0 :: a1 :: b :: tl) (.inl z :: st) μ post := g_istore_n (i := 2) d hi (fun j hj => by cases (show j = 1 by omega); exact hn) k

theorem s_iinc_2 {K : MK} {pc : Nat} {st : List AV} {μ : Mem} {post : Option AV → Mem → Prop} {a0 a1 : Option AV} {tl : List (Option AV)} {n z : Int} (d : decode K.2.1 pc = .ok (.iinc 2 n, 3)) (hi : 2 < K.2.2.1) (hn : nolong a1 = true) (k : AW K (pc + 3) (a0 :: a1 :: some (.inl (z + n)) :: tl) st μ post) : AW K pc (a0 :: a1 :: some (.inl z) :: tl) st μ post := g_iinc (i := 2) d rfl hi (fun j hj => by cases (show j = 1 by omega); exact hn) k

theorem s_iload_3 {K : MK} {pc : Nat} {st : List AV} {μ : Mem} {post : Option AV → Mem → Prop} {a0 a1 a2 : Option AV} {tl : List (Option AV)} {z : Int} (d : decode K.2.1 pc = .ok (.iload_n 3, 1)) (k : AW K (pc + 1) (a0 :: a1 :: a2 :: some (.inl z) :: tl) (.inl z :: st) μ post) : AW K pc (a0 :: a1 :: a2 :: some (.inl z) :: tl) st μ post := g_iload_n (i := 3) d rfl k

theorem s_istore_3 {K : MK} {pc : Nat} {st : List AV} {μ : Mem} {post : Option AV → Mem → Prop} {a0 a1 a2 : Option AV} {b : Option AV} {tl : List (Option AV)} {z : Int} (d : decode K.2.1 pc = .ok (.istore_n 3, 1)) (hi : 3 < K.2.2.1) (hn : nolong a2 = true) (k : AW K (pc + 1) (a0 :: a1 :: a2 :: some (.inl z) :: tl) st μ post) : AW K pc (a0 :: a1 :: a2 :: b :: tl) (.inl z :: st) μ post := g_istore_n (i := 3) d hi (fun j hj => by cases (show j = 2 by omega); exact hn) k

theorem s_iinc_3 {K : MK} {pc : Nat} {st : List AV} {μ : Mem} {post : Option AV → Mem → Prop} {a0 a1 a2 : Option AV} {tl : List (Option AV)} {n z : Int} (d : decode K.2.1 pc = .ok (.iinc 3 n, 3)) (hi : 3 < K.2.2.1) (hn : nolong a2 = true) (k : AW K (pc + 3) (a0 :: a1 :: a2 :: some (.inl (z + n)) :: tl) st μ post) : AW K pc (a0 :: a1 :: a2 :: some (.inl z) :: tl) st μ post := g_iinc (i := 3) d rfl hi (fun j hj => by cases (show j = 2 by omega); exact hn) k

theorem s_iload_4 {K : MK} {pc : Nat} {st : List AV} {μ : Mem} {post : Option AV → Mem → Prop} {a0 a1 a2 a3 : Option AV} {tl : List (Option AV)} {z : Int} (d : decode K.2.1 pc = .ok (.iload 4, 2)) (k : AW K (pc + 2) (a0 :: a1 :: a2 :: a3 :: some (.inl z) :: tl) (.inl z :: st) μ post) : AW K pc (a0 :: a1 :: a2 :: a3 :: some (.inl z) :: tl) st μ post := g_iload (i := 4) d rfl k

theorem s_istore_4 {K : MK} {pc : Nat} {st : List AV} {μ : Mem} {post : Option AV → Mem → Prop} {a0 a1 a2 a3 : Option AV} {b : Option AV} {tl : List (Option AV)} {z : Int} (d : decode K.2.1 pc = .ok (.istore 4, 2)) (hi : 4 < K.2.2.1) (hn : nolong a3 = true) (k : AW K (pc + 2) (a0 :: a1 :: a2 :: a3 :: some (.inl z) :: tl) st μ post) : AW K pc (a0 :: a1 :: a2 :: a3 :: b :: tl) (.inl z :: st) μ post := g_istore (i := 4) d hi (fun j hj => by cases (show j = 3 by omega); exact hn) k

theorem s_iinc_4 {K : MK} {pc : Nat} {st : List AV} {μ : Mem} {post : Option AV → Mem → Prop} {a0 a1 a2 a3 : Option AV} {tl : List (Option AV)} {n z : Int} (d : decode K.2.1 pc = .ok (.iinc 4 n, 3)) (hi : 4 < K.2.2.1) (hn : nolong a3 = true) (k : AW K (pc + 3) (a0 :: a1 :: a2 :: a3 :: some (.inl (z + n)) :: tl) st μ post) : AW K pc (a0 :: a1 :: a2 :: a3 :: some (.inl z) :: tl) st μ post := g_iinc (i := 4) d rfl hi (fun j hj => by cases (show j = 3 by omega); exact hn) k

theorem s_iload_5 {K : MK} {pc : Nat} {st : List AV} {μ : Mem} {post : Option AV → Mem → Prop} {a0 a1 a2 a3 a4 : Option AV} {tl : List (Option AV)} {z : Int} (d : decode K.2.1 pc = .ok (.iload 5, 2)) (k : AW K (pc + 2) (a0 :: a1 :: a2 :: a3 :: a4 :: some (.inl z) :: tl) (.inl z :: st) μ post) : AW K pc (a0 :: a1 :: a2 :: a3 :: a4 :: some (.inl z) :: tl) st μ post := g_iload (i := 5) d rfl k

theorem s_istore_5 {K : MK} {pc : Nat} {st : List AV} {μ : Mem} {post : Option AV → Mem → Prop} {a0 a1 a2 a3 a4 : Option AV} {b : Option AV} {tl : List (Option AV)} {z : Int} (d : decode K.2.1 pc = .ok (.istore 5, 2)) (hi : 5 < K.2.2.1) (hn : nolong a4 = true) (k : AW K (pc + 2) (a0 :: a1 :: a2 :: a3 :: a4 :: some (.inl z) :: tl) st μ post) : AW K pc (a0 :: a1 :: a2 :: a3 :: a4 :: b :: tl) (.inl z :: st) μ post := g_istore (i := 5) d hi (fun j hj => by cases (show j = 4 by omega); exact hn) k

theorem s_iinc_5 {K : MK} {pc : Nat} {st : List AV} {μ : Mem} {post : Option AV → Mem → Prop} {a0 a1 a2 a3 a4 : Option AV} {tl : List (Option AV)} {n z : Int} (d : decode K.2.1 pc = .ok (.iinc 5 n, 3)) (hi : 5 < K.2.2.1) (hn : nolong a4 = true) (k : AW K (pc + 3) (a0 :: a1 :: a2 :: a3 :: a4 :: some (.inl (z + n)) :: tl) st μ post) : AW K pc (a0 :: a1 :: a2 :: a3 :: a4 :: some (.inl z) :: tl) st μ post := g_iinc (i := 5) d rfl hi (fun j hj => by cases (show j = 4 by omega); exact hn) k

theorem s_iload_6 {K : MK} {pc : Nat} {st : List AV} {μ : Mem} {post : Option AV → Mem → Prop} {a0 a1 a2 a3 a4 a5 : Option AV} {tl : List (Option AV)} {z : Int} (d : decode K.2.1 pc = .ok (.iload 6, 2)) (k : AW K (pc + 2) (a0 :: a1 :: a2 :: a3 :: a4 :: a5 :: some (.inl z) :: tl) (.inl z :: st) μ post) : AW K pc (a0 :: a1 :: a2 :: a3 :: a4 :: a5 :: some (.inl z) :: tl) st μ post := g_iload (i := 6) d rfl k

theorem s_istore_6 {K : MK} {pc : Nat} {st : List AV} {μ : Mem} {post : Option AV → Mem → Prop} {a0 a1 a2 a3 a4 a5 : Option AV} {b : Option AV} {tl : List (Option AV)} {z : Int} (d : decode K.2.1 pc = .ok (.istore 6, 2)) (hi : 6 < K.2.2.1) (hn : nolong a5 = true) (k : AW K (pc + 2) (a0 :: a1 :: a2 :: a3 :: a4 :: a5 :: some (.inl z) :: tl) st μ post) : AW K pc (a0 :: a1 :: a2 :: a3 :: a4 :: a5 :: b :: tl) (.inl z :: st) μ post := g_istore (i := 6) d hi (fun j hj => by cases (show j = 5 by omega); exact hn) k

theorem s_iinc_6 {K : MK} {pc : Nat} {st : List AV} {μ : Mem} {post : Option AV → Mem → Prop} {a0 a1 a2 a3 a4 a5 : Option AV} {tl : List (Option AV)} {n z : Int} (d : decode K.2.1 pc = .ok (.iinc 6 n, 3)) (hi : 6 < K.2.2.1) (hn : nolong a5 = true) (k : AW K (pc + 3) (a0 :: a1 :: a2 :: a3 :: a4 :: a5 :: some (.inl (z + n)) :: tl) st μ post) : AW K pc (a0 :: a1 :: a2 :: a3 :: a4 :: a5 :: some (.inl z) :: tl) st μ post := g_iinc (i := 6) d rfl hi (fun j hj => by cases (show j = 5 by omega); exact hn) k

theorem s_iload_7 {K : MK} {pc : Nat} {st : List AV} {μ : Mem} {post : Option AV → Mem → Prop} {a0 a1 a2 a3 a4 a5 a6 : Option AV} {tl : List (Option AV)} {z : Int} (d : decode K.2.1 pc = .ok (.iload 7, 2)) (k : AW K (pc + 2) (a0 :: a1 :: a2 :: a3 :: a4 :: a5 :: a6 :: some (.inl z) :: tl) (.inl z :: st) μ post) : AW K pc (a0 :: a1 :: a2 :: a3 :: a4 :: a5 :: a6 :: some (.inl z) :: tl) st μ post := g_iload (i := 7) d rfl k

theorem s_istore_7 {K : MK} {pc : Nat} {st : List AV} {μ : Mem} {post : Option AV → Mem → Prop} {a0 a1 a2 a3 a4 a5 a6 : Option AV} {b : Option AV} {tl : List (Option AV)} {z : Int} (d : decode K.2.1 pc = .ok (.istore 7, 2)) (hi : 7 < K.2.2.1) (hn : nolong a6 = true) (k : AW K (pc + 2) (a0 :: a1 :: a2 :: a3 :: a4 :: a5 :: a6 :: some (.inl z) :: tl) st μ post) : AW K pc (a0 :: a1 :: a2 :: a3 :: a4 :: a5 :: a6 :: b :: tl) (.inl z :: st) μ post := g_istore (i := 7) d hi (fun j hj => by cases (show j = 6 by omega); exact hn) k

theorem s_iinc_7 {K : MK} {pc : Nat} {st : List AV} {μ : Mem} {post : Option AV → Mem → Prop} {a0 a1 a2 a3 a4 a5 a6 : Option AV} {tl : List (Option AV)} {n z : Int} (d : decode K.2.1 pc = .ok (.iinc 7 n, 3)) (hi : 7 < K.2.2.1) (hn : nolong a6 = true) (k : AW K (pc + 3) (a0 :: a1 :: a2 :: a3 :: a4 :: a5 :: a6 :: some (.inl (z + n)) :: tl) st μ post) : AW K pc (a0 :: a1 :: a2 :: a3 :: a4 :: a5 :: a6 :: some (.inl z) :: tl) st μ post := g_iinc (i := 7) d rfl hi (fun j hj => by cases (show j = 6 by omega); exact hn) k

theorem s_iload_8 {K : MK} {pc : Nat} {st : List AV} {μ : Mem} {post : Option AV → Mem → Prop} {a0 a1 a2 a3 a4 a5 a6 a7 : Option AV} {tl : List (Option AV)} {z : Int} (d : decode K.2.1 pc = .ok (.iload 8, 2)) (k : AW K (pc + 2) (a0 :: a1 :: a2 :: a3 :: a4 :: a5 :: a6 :: a7 :: some (.inl z) :: tl) (.inl z :: st) μ post) : AW K pc (a0 :: a1 :: a2 :: a3 :: a4 :: a5 :: a6 :: a7 :: some (.inl z) :: tl) st μ post := g_iload (i := 8) d rfl k

theorem s_istore_8 {K : MK} {pc : Nat} {st : List AV} {μ : Mem} {post : Option AV → Mem → Prop} {a0 a1 a2 a3 a4 a5 a6 a7 : Option AV} {b : Option AV} {tl : List (Option AV)} {z : Int} (d : decode K.2.1 pc = .ok (.istore 8, 2)) (hi : 8 < K.2.2.1) (hn : nolong a7 = true) (k : AW K (pc + 2) (a0 :: a1 :: a2 :: a3 :: a4 :: a5 :: a6 :: a7 :: some (.inl z) :: tl) st μ post) : AW K pc (a0 :: a1 :: a2 :: a3 :: a4 :: a5 :: a6 :: a7 :: b :: tl) (.inl z :: st) μ post := g_istore (i := 8) d hi (fun j hj => by cases (show j = 7 by omega); exact hn) k

theorem s_iinc_8 {K : MK} {pc : Nat} {st : List AV} {μ : Mem} {post : Option AV → Mem → Prop} {a0 a1 a2 a3 a4 a5 a6 a7 : Option AV} {tl : List (Option AV)} {n z : Int} (d : decode K.2.1 pc = .ok (.iinc 8 n, 3)) (hi : 8 < K.2.2.1) (hn : nolong a7 = true) (k : AW K (pc + 3) (a0 :: a1 :: a2 :: a3 :: a4 :: a5 :: a6 :: a7 :: some (.inl (z + n)) :: tl) st μ post) : AW K pc (a0 :: a1 :: a2 :: a3 :: a4 :: a5 :: a6 :: a7 :: some (.inl z) :: tl) st μ post := g_iinc (i := 8) d rfl hi (fun j hj => by cases (show j = 7 by omega); exact hn) k

theorem s_iload_9 {K : MK} {pc : Nat} {st : List AV} {μ : Mem} {post : Option AV → Mem → Prop} {a0 a1 a2 a3 a4 a5 a6 a7 a8 : Option AV} {tl : List (Option AV)} {z : Int} (d : decode K.2.1 pc = .ok (.iload 9, 2)) (k : AW K (pc + 2) (a0 :: a1 :: a2 :: a3 :: a4 :: a5 :: a6 :: a7 :: a8 :: some (.inl z) :: tl) (.inl z :: st) μ post) : AW K pc (a0 :: a1 :: a2 :: a3 :: a4 :: a5 :: a6 :: a7 :: a8 :: some (.inl z) :: tl) st μ post := g_iload (i := 9) d rfl k

theorem s_istore_9 {K : MK} {pc : Nat} {st : List AV} {μ : Mem} {post : Option AV → Mem → Prop} {a0 a1 a2 a3 a4 a5 a6 a7 a8 : Option AV} {b : Option AV} {tl : List (Option AV)} {z : Int} (d : decode K.2.1 pc = .ok (.istore 9, 2)) (hi : 9 < K.2.2.1) (hn : nolong a8 = true) (k : AW K (pc + 2) (a0 :: a1 :: a2 :: a3 :: a4 :: a5 :: a6 :: a7 :: a8 :: some (.inl z) :: tl) st μ post) : AW K pc (a0 :: a1 :: a2 :: a3 :: a4 :: a5 :: a6 :: a7 :: a8 :: b :: tl) (.inl z :: st) μ post := g_istore (i := 9) d hi (fun j hj => by cases (show j = 8 by omega); exact hn) k

theorem s_iinc_9 {K : MK} {pc : Nat} {st : List AV} {μ : Mem} {post : Option AV → Mem → Prop} {a0 a1 a2 a3 a4 a5 a6 a7 a8 : Option AV} {tl : List (Option AV)} {n z : Int} (d : decode K.2.1 pc = .ok (.iinc 9 n, 3)) (hi : 9 < K.2.2.1) (hn : nolong a8 = true) (k : AW K (pc + 3) (a0 :: a1 :: a2 :: a3 :: a4 :: a5 :: a6 :: a7 :: a8 :: some (.inl (z + n)) :: tl) st μ post) : AW K pc (a0 :: a1 :: a2 :: a3 :: a4 :: a5 :: a6 :: a7 :: a8 :: some (.inl z) :: tl) st μ post := g_iinc (i := 9) d rfl hi (fun j hj => by cases (show j = 8 by omega); exact hn) k

theorem s_iload_10 {K : MK} {pc : Nat} {st : List AV} {μ : Mem} {post : Option AV → Mem → Prop} {a0 a1 a2 a3 a4 a5 a6 a7 a8 a9 : Option AV} {tl : List (Option AV)} {z : Int} (d : decode K.2.1 pc = .ok (.iload 10, 2)) (k : AW K (pc + 2) (a0 :: a1 :: a2 :: a3 :: a4 :: a5 :: a6 :: a7 :: a8 :: a9 :: some (.inl z) :: tl) (.inl z :: st) μ post) : AW K pc (a0 :: a1 :: a2 :: a3 :: a4 :: a5 :: a6 :: a7 :: a8 :: a9 :: some (.inl z) :: tl) st μ post := g_iload (i := 10) d rfl k

theorem s_istore_10 {K : MK} {pc : Nat} {st : List AV} {μ : Mem} {post : Option AV → Mem → Prop} {a0 a1 a2 a3 a4 a5 a6 a7 a8 a9 : Option AV} {b : Option AV} {tl : List (Option AV)} {z : Int} (d : decode K.2.1 pc = .ok (.istore 10, 2)) (hi : 10 < K.2.2.1) (hn : nolong a9 = true) (k : AW K (pc + 2) (a0 :: a1 :: a2 :: a3 :: a4 :: a5 :: a6 :: a7 :: a8 :: a9 :: some (.inl z) :: tl) st μ post) : AW K pc (a0 :: a1 :: a2 :: a3 :: a4 :: a5 :: a6 :: a7 :: a8 :: a9 :: b :: tl) (.inl z :: st) μ post := g_istore (i := 10) d hi (fun j hj => by cases (show j = 9 by omega); exact hn) k

theorem s_iinc_10 {K : MK} {pc : Nat} {st : List AV} {μ : Mem} {post : Option AV → Mem → Prop} {a0 a1 a2 a3 a4 a5 a6 a7 a8 a9 : Option AV} {tl : List (Option AV)} {n z : Int} (d : decode K.2.1 pc = .ok (.iinc 10 n, 3)) (hi : 10 < K.2.2.1) (hn : nolong a9 = true) (k : AW K (pc + 3) (a0 :: a1 :: a2 :: a3 :: a4 :: a5 :: a6 :: a7 :: a8 :: a9 :: some (.inl (z + n)) :: tl) st μ post) : AW K pc (a0 :: a1 :: a2 :: a3 :: a4 :: a5 :: a6 :: a7 :: a8 :: a9 :: some (.inl z) :: tl) st μ post := g_iinc (i := 10) d rfl hi (fun j hj => by cases (show j = 9 by omega); exact hn) k

theorem s_iload_11 {K : MK} {pc : Nat} {st : List AV} {μ : Mem} {post : Option AV → Mem → Prop} {a0 a1 a2 a3 a4 a5 a6 a7 a8 a9 a10 : Option AV} {tl : List (Option AV)} {z : Int} (d : decode K.2.1 pc = .ok (.iload 11, 2)) (k : AW K (pc + 2) (a0 :: a1 :: a2 :: a3 :: a4 :: a5 :: a6 :: a7 :: a8 :: a9 :: a10 :: some (.inl z) :: tl) (.inl z :: st) μ post) : AW K pc (a0 :: a1 :: a2 :: a3 :: a4 :: a5 :: a6 :: a7 :: a8 :: a9 :: a10 :: some (.inl z) :: tl) st μ post := g_iload (i := 11) d rfl k

theorem s_istore_11 {K : MK} {pc : Nat} {st : List AV} {μ : Mem} {post : Option AV → Mem → Prop} {a0 a1 a2 a3 a4 a5 a6 a7 a8 a9 a10 : Option AV} {b : Option AV} {tl : List (Option AV)} {z : Int} (d : decode K.2.1 pc = .ok (.istore 11, 2)) (hi : 11 < K.2.2.1) (hn : nolong a10 = true) (k : AW K (pc + 2) (a0 :: a1 :: a2 :: a3 :: a4 :: a5 :: a6 :: a7 :: a8 :: a9 :: a10 :: some (.inl z) :: tl) st μ post) : AW K pc (a0 :: a1 :: a2 :: a3 :: a4 :: a5 :: a6 :: a7 :: a8 :: a9 :: a10 :: b :: tl) (.inl z :: st) μ post := g_istore (i := 11) d hi (fun j hj => by cases (show j = 10 by omega); exact hn) k

theorem s_iinc_11 {K : MK} {pc : Nat} {st : List AV} {μ : Mem} {post : Option AV → Mem → Prop} {a0 a1 a2 a3 a4 a5 a6 a7 a8 a9 a10 : Option AV} {tl : List (Option AV)} {n z : Int} (d : decode K.2.1 pc = .ok (.iinc 11 n, 3)) (hi : 11 < K.2.2.1) (hn : nolong a10 = true) (k : AW K (pc + 3) (a0 :: a1 :: a2 :: a3 :: a4 :: a5 :: a6 :: a7 :: a8 :: a9 :: a10 :: some (.inl (z + n)) :: tl) st μ post) : AW K pc (a0 :: a1 :: a2 :: a3 :: a4 :: a5 :: a6 :: a7 :: a8 :: a9 :: a10 :: some (.inl z) :: tl) st μ post := g_iinc (i := 11) d rfl hi (fun j hj => by cases (show j = 10 by omega); exact hn) k

theorem s_iload_12 {K : MK} {pc : Nat} {st : List AV} {μ : Mem} {post : Option AV → Mem → Prop} {a0 a1 a2 a3 a4 a5 a6 a7 a8 a9 a10 a11 : Option AV} {tl : List (Option AV)} {z : Int} (d : decode K.2.1 pc = .ok (.iload 12, 2)) (k : AW K (pc + 2) (a0 :: a1 :: a2 :: a3 :: a4 :: a5 :: a6 :: a7 :: a8 :: a9 :: a10 :: a11 :: some (.inl z) :: tl) (.inl z :: st) μ post) : AW K pc (a0 :: a1 :: a2 :: a3 :: a4 :: a5 :: a6 :: a7 :: a8 :: a9 :: a10 :: a11 :: some (.inl z) :: tl) st μ post := g_iload (i := 12) d rfl k

theorem s_istore_12 {K : MK} {pc : Nat} {st : List AV} {μ : Mem} {post : Option AV → Mem → Prop} {a0 a1 a2 a3 a4 a5 a6 a7 a8 a9 a10 a11 : Option AV} {b : Option AV} {tl : List (Option AV)} {z : Int} (d : decode K.2.1 pc = .ok (.istore 12, 2)) (hi : 12 < K.2.2.1) (hn : nolong a11 = true) (k : AW K (pc + 2) (a0 :: a1 :: a2 :: a3 :: a4 :: a5 :: a6 :: a7 :: a8 :: a9 :: a10 :: a11 :: some (.inl z) :: tl) st μ post) : AW K pc (a0 :: a1 :: a2 :: a3 :: a4 :: a5 :: a6 :: a7 :: a8 :: a9 :: a10 :: a11 :: b :: tl) (.inl z :: st) μ post := g_istore (i := 12) d hi (fun j hj => by cases (show j = 11 by omega); exact hn) k

theorem s_iinc_12 {K : MK} {pc : Nat} {st : List AV} {μ : Mem} {post : Option AV → Mem → Prop} {a0 a1 a2 a3 a4 a5 a6 a7 a8 a9 a10 a11 : Option AV} {tl : List (Option AV)} {n z : Int} (d : decode K.2.1 pc = .ok (.iinc 12 n, 3)) (hi : 12 < K.2.2.1) (hn : nolong a11 = true) (k : AW K (pc + 3) (a0 :: a1 :: a2 :: a3 :: a4 :: a5 :: a6 :: a7 :: a8 :: a9 :: a10 :: a11 :: some (.inl (z + n)) :: tl) st μ post) : AW K pc (a0 :: a1 :: a2 :: a3 :: a4 :: a5 :: a6 :: a7 :: a8 :: a9 :: a10 :: a11 :: some (.inl z) :: tl) st μ post := g_iinc (i := 12) d rfl hi (fun j hj => by cases (show j = 11 by omega); exact hn) k

theorem s_iload_13 {K : MK} {pc : Nat} {st : List AV} {μ : Mem} {post : Option AV → Mem → Prop} {a0 a1 a2 a3 a4 a5 a6 a7 a8 a9 a10 a11 a12 : Option AV} {tl : List (Option AV)} {z : Int} (d : decode K.2.1 pc = .ok (.iload 13, 2)) (k : AW K (pc + 2) (a0 :: a1 :: a2 :: a3 :: a4 :: a5 :: a6 :: a7 :: a8 :: a9 :: a10 :: a11 :: a12 :: some (.inl z) :: tl) (.inl z :: st) μ post) : AW K pc (a0 :: a1 :: a2 :: a3 :: a4 :: a5 :: a6 :: a7 :: a8 :: a9 :: a10 :: a11 :: a12 :: some (.inl z) :: tl) st μ post := g_iload (i := 13) d rfl k

theorem s_istore_13 {K : MK} {pc : Nat} {st : List AV} {μ : Mem} {post : Option AV → Mem → Prop} {a0 a1 a2 a3 a4 a5 a6 a7 a8 a9 a10 a11 a12 : Option AV} {b : Option AV} {tl : List (Option AV)} {z : Int} (d : decode K.2.1 pc = .ok (.istore 13, 2)) (hi : 13 < K.2.2.1) (hn : nolong a12 = true) (k : AW K (pc + 2) (a0 :: a1 :: a2 :: a3 :: a4 :: a5 :: a6 :: a7 :: a8 :: a9 :: a10 :: a11 :: a12 :: some (.inl z) :: tl) st μ post) : AW K pc (a0 :: a1 :: a2 :: a3 :: a4 :: a5 :: a6 :: a7 :: a8 :: a9 :: a10 :: a11 :: a12 :: b :: tl) (.inl z :: st) μ post := g_istore (i := 13) d hi (fun j hj => by cases (show j = 12 by omega); exact hn) k

theorem s_iinc_13 {K : MK} {pc : Nat} {st : List AV} {μ : Mem} {post : Option AV → Mem → Prop} {a0 a1 a2 a3 a4 a5 a6 a7 a8 a9 a10 a11 a12 : Option AV} {tl : List (Option AV)} {n z : Int} (d : decode K.2.1 pc = .ok (.iinc 13 n, 3)) (hi : 13 < K.2.2.1) (hn : nolong a12 = true) (k : AW K (pc + 3) (a0 :: a1 :: a2 :: a3 :: a4 :: a5 :: a6 :: a7 :: a8 :: a9 :: a10 :: a11 :: a12 :: some (.inl (z + n)) :: tl) st μ post) : AW K pc (a0 :: a1 :: a2 :: a3 :: a4 :: a5 :: a6 :: a7 :: a8 :: a9 :: a10 :: a11 :: a12 :: some (.inl z) :: tl) st μ post := g_iinc (i := 13) d rfl hi (fun j hj => by cases (show j = 12 by omega); exact hn) k

theorem s_iload_14 {K : MK} {pc : Nat} {st : List AV} {μ : Mem} {post : Option AV → Mem → Prop} {a0 a1 a2 a3 a4 a5 a6 a7 a8 a9 a10 a11 a12 a13 : Option AV} {tl : List (Option AV)} {z : Int} (d : decode K.2.1 pc = .ok (.iload 14, 2)) (k : AW K (pc + 2) (a0 :: a1 :: a2 :: a3 :: a4 :: a5 :: a6 :: a7 :: a8 :: a9 :: a10 :: a11 :: a12 :: a13 :: some (.inl z) :: tl) (.inl z :: st) μ post) : AW K pc (a0 :: a1 :: a2 :: a3 :: a4 :: a5 :: a6 :: a7 :: a8 :: a9 :: a10 :: a11 :: a12 :: a13 :: some (.inl z) :: tl) st μ post := g_iload (i := 14) d rfl k

theorem s_istore_14 {K : MK} {pc : Nat} {st : List AV} {μ : Mem} {post : Option AV → Mem → Prop} {a0 a1 a2 a3 a4 a5 a6 a7 a8 a9 a10 a11 a12 a13 : Option AV} {b : Option AV} {tl : List (Option AV)} {z : Int} (d : decode K.2.1 pc = .ok (.istore 14, 2)) (hi : 14 < K.2.2.1) (hn : nolong a13 = true) (k : AW K (pc + 2) (a0 :: a1 :: a2 :: a3 :: a4 :: a5 :: a6 :: a7 :: a8 :: a9 :: a10 :: a11 :: a12 :: a13 :: some (.inl z) :: tl) st μ post) : AW K pc (a0 :: a1 :: a2 :: a3 :: a4 :: a5 :: a6 :: a7 :: a8 :: a9 :: a10 :: a11 :: a12 :: a13 :: b :: tl) (.inl z :: st) μ post := g_istore (i := 14) d hi (fun j hj => by cases (show j = 13 by omega); exact hn) k

theorem s_iinc_14 {K : MK} {pc : Nat} {st : List AV} {μ : Mem} {post : Option AV → Mem → Prop} {a0 a1 a2 a3 a4 a5 a6 a7 a8 a9 a10 a11 a12 a13 : Option AV} {tl : List (Option AV)} {n z : Int} (d : decode K.2.1 pc = .ok (.iinc 14 n, 3)) (hi : 14 < K.2.2.1) (hn : nolong a13 = true) (k : AW K (pc + 3) (a0 :: a1 :: a2 :: a3 :: a4 :: a5 :: a6 :: a7 :: a8 :: a9 :: a10 :: a11 :: a12 :: a13 :: some (.inl (z + n)) :: tl) st μ post) : AW K pc (a0 :: a1 :: a2 :: a3 :: a4 :: a5 :: a6 :: a7 :: a8 :: a9 :: a10 :: a11 :: a12 :: a13 :: some (.inl z) :: tl) st μ post := g_iinc (i := 14) d rfl hi (fun j hj => by cases (show j = 13 by omega); exact hn) k

theorem s_lload_0 {K : MK} {pc : Nat} {st : List AV} {μ : Mem} {post : Option AV → Mem → Prop} {tl : List (Option AV)} {z : Int} (d : decode K.2.1 pc = .ok (.lload_n 0, 1)) (k : AW K (pc + 1) (some (.inr (.inl z)) :: tl) (.inr (.inl z) :: st) μ post) : AW K pc (some (.inr (.inl z)) :: tl) st μ post := g_lload_n (i := 0) d rfl k

theorem s_lstore_0 {K : MK} {pc : Nat} {st : List AV} {μ : Mem} {post : Option AV → Mem → Prop} {b b1 : Option AV} {tl : List (Option AV)} {z : Int} (d : decode K.2.1 pc = .ok (.lstore_n 0, 1)) (hi : 1 < K.2.2.1) (k : AW K (pc + 1) (some (.inr (.inl z)) :: none :: tl) st μ post) : AW K pc (b :: b1 :: tl) (.inr (.inl z) :: st) μ post := g_lstore_n (i := 0) d hi (fun j hj => by omega) k

theorem s_lload_1 {K : MK} {pc : Nat} {st : List AV} {μ : Mem} {post : Option AV → Mem → Prop} {a0 : Option AV} {tl : List (Option AV)} {z : Int} (d : decode K.2.1 pc = .ok (.lload_n 1, 1)) (k : AW K (pc + 1) (a0 :: some (.inr (.inl z)) :: tl) (.inr (.inl z) :: st) μ post) : AW K pc (a0 :: some (.inr (.inl z)) :: tl) st μ post := g_lload_n (i := 1) d rfl k

theorem s_lstore_1 {K : MK} {pc : Nat} {st : List AV} {μ : Mem} {post : Option AV → Mem → Prop} {a0 : Option AV} {b b1 : Option AV} {tl : List (Option AV)} {z : Int} (d : decode K.2.1 pc = .ok (.lstore_n 1, 1)) (hi : 2 < K.2.2.1) (hn : nolong a0 = true) (k : AW K (pc + 1) (a0 :: some (.inr (.inl z)) :: none :: tl) st μ post) : AW K pc (a0 :: b :: b1 :: tl) (.inr (.inl z) :: st) μ post := g_lstore_n (i := 1) d hi (fun j hj => by cases (show j = 0 by omega); exact hn) k

theorem s_lload_2 {K : MK} {pc : Nat} {st : List AV} {μ : Mem} {post : Option AV → Mem → Prop} {a0 a1 : Option AV} {tl : List (Option AV)} {z : Int} (d : decode K.2.1 pc = .ok (.lload_n 2, 1)) (k : AW K (pc + 1) (a0 :: a1 :: some (.inr (.inl z)) :: tl) (.inr (.inl z) :: st) μ post) : AW K pc (a0 :: a1 :: some (.inr (.inl z)) :: tl) st μ post := g_lload_n (i := 2) d rfl k

theorem s_lstore_2 {K : MK} {pc : Nat} {st : List AV} {μ : Mem} {post : Option AV → Mem → Prop} {a0 a1 : Option AV} {b b1 : Option AV} {tl : List (Option AV)} {z : Int} (d : decode K.2.1 pc = .ok (.lstore_n 2, 1)) (hi : 3 < K.2.2.1) (hn : nolong a1 = true) (k : AW K (pc + 1) (a0 :: a1 :: some (.inr (.inl z)) :: none :: tl) st μ post) : AW K pc (a0 :: a1 :: b :: b1 :: tl) (.inr (.inl z) :: st) μ post := g_lstore_n (i := 2) d hi (fun j hj => by cases (show j = 1 by omega); exact hn) k

theorem s_lload_3 {K : MK} {pc : Nat} {st : List AV} {μ : Mem} {post : Option AV → Mem → Prop} {a0 a1 a2 : Option AV} {tl : List (Option AV)} {z : Int} (d : decode K.2.1 pc = .ok (.lload_n 3, 1)) (k : AW K (pc + 1) (a0 :: a1 :: a2 :: some (.inr (.inl z)) :: tl) (.inr (.inl z) :: st) μ post) : AW K pc (a0 :: a1 :: a2 :: some (.inr (.inl z)) :: tl) st μ post := g_lload_n (i := 3) d rfl k

theorem s_lstore_3 {K : MK} {pc : Nat} {st : List AV} {μ : Mem} {post : Option AV → Mem → Prop} {a0 a1 a2 : Option AV} {b b1 : Option AV} {tl : List (Option AV)} {z : Int} (d : decode K.2.1 pc = .ok (.lstore_n 3, 1)) (hi : 4 < K.2.2.1) (hn : nolong a2 = true) (k : AW K (pc + 1) (a0 :: a1 :: a2 :: some (.inr (.inl z)) :: none :: tl) st μ post) : AW K pc (a0 :: a1 :: a2 :: b :: b1 :: tl) (.inr (.inl z) :: st) μ post := g_lstore_n (i := 3) d hi (fun j hj => by cases (show j = 2 by omega); exact hn) k

theorem s_lload_4 {K : MK} {pc : Nat} {st : List AV} {μ : Mem} {post : Option AV → Mem → Prop} {a0 a1 a2 a3 : Option AV} {tl : List (Option AV)} {z : Int} (d : decode K.2.1 pc = .ok (.lload 4, 2)) (k : AW K (pc + 2) (a0 :: a1 :: a2 :: a3 :: some (.inr (.inl z)) :: tl) (.inr (.inl z) :: st) μ post) : AW K pc (a0 :: a1 :: a2 :: a3 :: some (.inr (.inl z)) :: tl) st μ post := g_lload (i := 4) d rfl k

theorem s_lstore_4 {K : MK} {pc : Nat} {st : List AV} {μ : Mem} {post : Option AV → Mem → Prop} {a0 a1 a2 a3 : Option AV} {b b1 : Option AV} {tl : List (Option AV)} {z : Int} (d : decode K.2.1 pc = .ok (.lstore 4, 2)) (hi : 5 < K.2.2.1) (hn : nolong a3 = true) (k : AW K (pc + 2) (a0 :: a1 :: a2 :: a3 :: some (.inr (.inl z)) :: none :: tl) st μ post) : AW K pc (a0 :: a1 :: a2 :: a3 :: b :: b1 :: tl) (.inr (.inl z) :: st) μ post := g_lstore (i := 4) d hi (fun j hj => by cases (show j = 3 by omega); exact hn) k

theorem s_lload_5 {K : MK} {pc : Nat} {st : List AV} {μ : Mem} {post : Option AV → Mem → Prop} {a0 a1 a2 a3 a4 : Option AV} {tl : List (Option AV)} {z : Int} (d : decode K.2.1 pc = .ok (.lload 5, 2)) (k : AW K (pc + 2) (a0 :: a1 :: a2 :: a3 :: a4 :: some (.inr (.inl z)) :: tl) (.inr (.inl z) :: st) μ post) : AW K pc (a0 :: a1 :: a2 :: a3 :: a4 :: some (.inr (.inl z)) :: tl) st μ post := g_lload (i := 5) d rfl k

theorem s_lstore_5 {K : MK} {pc : Nat} {st : List AV} {μ : Mem} {post : Option AV → Mem → Prop} {a0 a1 a2 a3 a4 : Option AV} {b b1 : Option AV} {tl : List (Option AV)} {z : Int} (d : decode K.2.1 pc = .ok (.lstore 5, 2)) (hi : 6 < K.2.2.1) (hn : nolong a4 = true) (k : AW K (pc + 2) (a0 :: a1 :: a2 :: a3 :: a4 :: some (.inr (.inl z)) :: none :: tl) st μ post) : AW K pc (a0 :: a1 :: a2 :: a3 :: a4 :: b :: b1 :: tl) (.inr (.inl z) :: st) μ post := g_lstore (i := 5) d hi (fun j hj => by cases (show j = 4 by omega); exact hn) k

theorem s_lload_6 {K : MK} {pc : Nat} {st : List AV} {μ : Mem} {post : Option AV → Mem → Prop} {a0 a1 a2 a3 a4 a5 : Option AV} {tl : List (Option AV)} {z : Int} (d : decode K.2.1 pc = .ok (.lload 6, 2)) (k : AW K (pc + 2) (a0 :: a1 :: a2 :: a3 :: a4 :: a5 :: some (.inr (.inl z)) :: tl) (.inr (.inl z) :: st) μ post) : AW K pc (a0 :: a1 :: a2 :: a3 :: a4 :: a5 :: some (.inr (.inl z)) :: tl) st μ post := g_lload (i := 6) d rfl k

theorem s_lstore_6 {K : MK} {pc : Nat} {st : List AV} {μ : Mem} {post : Option AV → Mem → Prop} {a0 a1 a2 a3 a4 a5 : Option AV} {b b1 : Option AV} {tl : List (Option AV)} {z : Int} (d : decode K.2.1 pc = .ok (.lstore 6, 2)) (hi : 7 < K.2.2.1) (hn : nolong a5 = true) (k : AW K (pc + 2) (a0 :: a1 :: a2 :: a3 :: a4 :: a5 :: some (.inr (.inl z)) :: none :: tl) st μ post) : AW K pc (a0 :: a1 :: a2 :: a3 :: a4 :: a5 :: b :: b1 :: tl) (.inr (.inl z) :: st) μ post := g_lstore (i := 6) d hi (fun j hj => by cases (show j = 5 by omega); exact hn) k

theorem s_lload_7 {K : MK} {pc : Nat} {st : List AV} {μ : Mem} {post : Option AV → Mem → Prop} {a0 a1 a2 a3 a4 a5 a6 : Option AV} {tl : List (Option AV)} {z : Int} (d : decode K.2.1 pc = .ok (.lload 7, 2)) (k : AW K (pc + 2) (a0 :: a1 :: a2 :: a3 :: a4 :: a5 :: a6 :: some (.inr (.inl z)) :: tl) (.inr (.inl z) :: st) μ post) : AW K pc (a0 :: a1 :: a2 :: a3 :: a4 :: a5 :: a6 :: some (.inr (.inl z)) :: tl) st μ post := g_lload (i := 7) d rfl k

theorem s_lstore_7 {K : MK} {pc : Nat} {st : List AV} {μ : Mem} {post : Option AV → Mem → Prop} {a0 a1 a2 a3 a4 a5 a6 : Option AV} {b b1 : Option AV} {tl : List (Option AV)} {z : Int} (d : decode K.2.1 pc = .ok (.lstore 7, 2)) (hi : 8 < K.2.2.1) (hn : nolong a6 = true) (k : AW K (pc + 2) (a0 :: a1 :: a2 :: a3 :: a4 :: a5 :: a6 :: some (.inr (.inl z)) :: none :: tl) st μ post) : AW K pc (a0 :: a1 :: a2 :: a3 :: a4 :: a5 :: a6 :: b :: b1 :: tl) (.inr (.inl z) :: st) μ post := g_lstore (i := 7) d hi (fun j hj => by cases (show j = 6 by omega); exact hn) k

theorem s_lload_8 {K : MK} {pc : Nat} {st : List AV} {μ : Mem} {post : Option AV → Mem → Prop} {a0 a1 a2 a3 a4 a5 a6 a7 : Option AV} {tl : List (Option AV)} {z : Int} (d : decode K.2.1 pc = .ok (.lload 8, 2)) (k : AW K (pc + 2) (a0 :: a1 :: a2 :: a3 :: a4 :: a5 :: a6 :: a7 :: some (.inr (.inl z)) :: tl) (.inr (.inl z) :: st) μ post) : AW K pc (a0 :: a1 :: a2 :: a3 :: a4 :: a5 :: a6 :: a7 :: some (.inr (.inl z)) :: tl) st μ post := g_lload (i := 8) d rfl k

theorem s_lstore_8 {K : MK} {pc : Nat} {st : List AV} {μ : Mem} {post : Option AV → Mem → Prop} {a0 a1 a2 a3 a4 a5 a6 a7 : Option AV} {b b1 : Option AV} {tl : List (Option AV)} {z : Int} (d : decode K.2.1 pc = .ok (.lstore 8, 2)) (hi : 9 < K.2.2.1) (hn : nolong a7 = true) (k : AW K (pc + 2) (a0 :: a1 :: a2 :: a3 :: a4 :: a5 :: a6 :: a7 :: some (.inr (.inl z)) :: none :: tl) st μ post) : AW K pc (a0 :: a1 :: a2 :: a3 :: a4 :: a5 :: a6 :: a7 :: b :: b1 :: tl) (.inr (.inl z) :: st) μ post := g_lstore (i := 8) d hi (fun j hj => by cases (show j = 7 by omega); exact hn) k

theorem s_lload_9 {K : MK} {pc : Nat} {st : List AV} {μ : Mem} {post : Option AV → Mem → Prop} {a0 a1 a2 a3 a4 a5 a6 a7 a8 : Option AV} {tl : List (Option AV)} {z : Int} (d : decode K.2.1 pc = .ok (.lload 9, 2)) (k : AW K (pc + 2) (a0 :: a1 :: a2 :: a3 :: a4 :: a5 :: a6 :: a7 :: a8 :: some (.inr (.inl z)) :: tl) (.inr (.inl z) :: st) μ post) : AW K pc (a0 :: a1 :: a2 :: a3 :: a4 :: a5 :: a6 :: a7 :: a8 :: some (.inr (.inl z)) :: tl) st μ post := g_lload (i := 9) d rfl k

theorem s_lstore_9 {K : MK} {pc : Nat} {st : List AV} {μ : Mem} {post : Option AV → Mem → Prop} {a0 a1 a2 a3 a4 a5 a6 a7 a8 : Option AV} {b b1 : Option AV} {tl : List (Option AV)} {z : Int} (d : decode K.2.1 pc = .ok (.lstore 9, 2)) (hi : 10 < K.2.2.1) (hn : nolong a8 = true) (k : AW K (pc + 2) (a0 :: a1 :: a2 :: a3 :: a4 :: a5 :: a6 :: a7 :: a8 :: some (.inr (.inl z)) :: none :: tl) st μ post) : AW K pc (a0 :: a1 :: a2 :: a3 :: a4 :: a5 :: a6 :: a7 :: a8 :: b :: b1 :: tl) (.inr (.inl z) :: st) μ post := g_lstore (i := 9) d hi (fun j hj => by cases (show j = 8 by omega); exact hn) k

theorem s_lload_10 {K : MK} {pc : Nat} {st : List AV} {μ : Mem} {post : Option AV → Mem → Prop} {a0 a1 a2 a3 a4 a5 a6 a7 a8 a9 : Option AV} {tl : List (Option AV)} {z : Int} (d : decode K.2.1 pc = .ok (.lload 10, 2)) (k : AW K (pc + 2) (a0 :: a1 :: a2 :: a3 :: a4 :: a5 :: a6 :: a7 :: a8 :: a9 :: some (.inr (.inl z)) :: tl) (.inr (.inl z) :: st) μ post) : AW K pc (a0 :: a1 :: a2 :: a3 :: a4 :: a5 :: a6 :: a7 :: a8 :: a9 :: some (.inr (.inl z)) :: tl) st μ post := g_lload (i := 10) d rfl k

theorem s_lstore_10 {K : MK} {pc : Nat} {st : List AV} {μ : Mem} {post : Option AV → Mem → Prop} {a0 a1 a2 a3 a4 a5 a6 a7 a8 a9 : Option AV} {b b1 : Option AV} {tl : List (Option AV)} {z : Int} (d : decode K.2.1 pc = .ok (.lstore 10, 2)) (hi : 11 < K.2.2.1) (hn : nolong a9 = true) (k : AW K (pc + 2) (a0 :: a1 :: a2 :: a3 :: a4 :: a5 :: a6 :: a7 :: a8 :: a9 :: some (.inr (.inl z)) :: none :: tl) st μ post) : AW K pc (a0 :: a1 :: a2 :: a3 :: a4 :: a5 :: a6 :: a7 :: a8 :: a9 :: b :: b1 :: tl) (.inr (.inl z) :: st) μ post := g_lstore (i := 10) d hi (fun j hj => by cases (show j = 9 by omega); exact hn) k

theorem s_lload_11 {K : MK} {pc : Nat} {st : List AV} {μ : Mem} {post : Option AV → Mem → Prop} {a0 a1 a2 a3 a4 a5 a6 a7 a8 a9 a10 : Option AV} {tl : List (Option AV)} {z : Int} (d : decode K.2.1 pc = .ok (.lload 11, 2)) (k : AW K (pc + 2) (a0 :: a1 :: a2 :: a3 :: a4 :: a5 :: a6 :: a7 :: a8 :: a9 :: a10 :: some (.inr (.inl z)) :: tl) (.inr (.inl z) :: st) μ post) : AW K pc (a0 :: a1 :: a2 :: a3 :: a4 :: a5 :: a6 :: a7 :: a8 :: a9 :: a10 :: some (.inr (.inl z)) :: tl) st μ post := g_lload (i := 11) d rfl k

theorem s_lstore_11 {K : MK} {pc : Nat} {st : List AV} {μ : Mem} {post : Option AV → Mem → Prop} {a0 a1 a2 a3 a4 a5 a6 a7 a8 a9 a10 : Option AV} {b b1 : Option AV} {tl : List (Option AV)} {z : Int} (d : decode K.2.1 pc = .ok (.lstore 11, 2)) (hi : 12 < K.2.2.1) (hn : nolong a10 = true) (k : AW K (pc + 2) (a0 :: a1 :: a2 :: a3 :: a4 :: a5 :: a6 :: a7 :: a8 :: a9 :: a10 :: some (.inr (.inl z)) :: none :: tl) st μ post) : AW K pc (a0 :: a1 :: a2 :: a3 :: a4 :: a5 :: a6 :: a7 :: a8 :: a9 :: a10 :: b :: b1 :: tl) (.inr (.inl z) :: st) μ post := g_lstore (i := 11) d hi (fun j hj => by cases (show j = 10 by omega); exact hn) k

theorem s_lload_12 {K : MK} {pc : Nat} {st : List AV} {μ : Mem} {post : Option AV → Mem → Prop} {a0 a1 a2 a3 a4 a5 a6 a7 a8 a9 a10 a11 : Option AV} {tl : List (Option AV)} {z : Int} (d : decode K.2.1 pc = .ok (.lload 12, 2)) (k : AW K (pc + 2) (a0 :: a1 :: a2 :: a3 :: a4 :: a5 :: a6 :: a7 :: a8 :: a9 :: a10 :: a11 :: some (.inr (.inl z)) :: tl) (.inr (.inl z) :: st) μ post) : AW K pc (a0 :: a1 :: a2 :: a3 :: a4 :: a5 :: a6 :: a7 :: a8 :: a9 :: a10 :: a11 :: some (.inr (.inl z)) :: tl) st μ post := g_lload (i := 12) d rfl k

theorem s_lstore_12 {K : MK} {pc : Nat} {st : List AV} {μ : Mem} {post : Option AV → Mem → Prop} {a0 a1 a2 a3 a4 a5 a6 a7 a8 a9 a10 a11 : Option AV} {b b1 : Option AV} {tl : List (Option AV)} {z : Int} (d : decode K.2.1 pc = .ok (.lstore 12, 2)) (hi : 13 < K.2.2.1) (hn : nolong a11 = true) (k : AW K (pc + 2) (a0 :: a1 :: a2 :: a3 :: a4 :: a5 :: a6 :: a7 :: a8 :: a9 :: a10 :: a11 :: some (.inr (.inl z)) :: none :: tl) st μ post) : AW K pc (a0 :: a1 :: a2 :: a3 :: a4 :: a5 :: a6 :: a7 :: a8 :: a9 :: a10 :: a11 :: b :: b1 :: tl) (.inr (.inl z) :: st) μ post := g_lstore (i := 12) d hi (fun j hj => by cases (show j = 11 by omega); exact hn) k

theorem s_lload_13 {K : MK} {pc : Nat} {st : List AV} {μ : Mem} {post : Option AV → Mem → Prop} {a0 a1 a2 a3 a4 a5 a6 a7 a8 a9 a10 a11 a12 : Option AV} {tl : List (Option AV)} {z : Int} (d : decode K.2.1 pc = .ok (.lload 13, 2)) (k : AW K (pc + 2) (a0 :: a1 :: a2 :: a3 :: a4 :: a5 :: a6 :: a7 :: a8 :: a9 :: a10 :: a11 :: a12 :: some (.inr (.inl z)) :: tl) (.inr (.inl z) :: st) μ post) : AW K pc (a0 :: a1 :: a2 :: a3 :: a4 :: a5 :: a6 :: a7 :: a8 :: a9 :: a10 :: a11 :: a12 :: some (.inr (.inl z)) :: tl) st μ post := g_lload (i := 13) d rfl k

theorem s_lstore_13 {K : MK} {pc : Nat} {st : List AV} {μ : Mem} {post : Option AV → Mem → Prop} {a0 a1 a2 a3 a4 a5 a6 a7 a8 a9 a10 a11 a12 : Option AV} {b b1 : Option AV} {tl : List (Option AV)} {z : Int} (d : decode K.2.1 pc = .ok (.lstore 13, 2)) (hi : 14 < K.2.2.1) (hn : nolong a12 = true) (k : AW K (pc + 2) (a0 :: a1 :: a2 :: a3 :: a4 :: a5 :: a6 :: a7 :: a8 :: a9 :: a10 :: a11 :: a12 :: some (.inr (.inl z)) :: none :: tl) st μ post) : AW K pc (a0 :: a1 :: a2 :: a3 :: a4 :: a5 :: a6 :: a7 :: a8 :: a9 :: a10 :: a11 :: a12 :: b :: b1 :: tl) (.inr (.inl z) :: st) μ post := g_lstore (i := 13) d hi (fun j hj => by cases (show j = 12 by omega); exact hn) k

theorem s_lload_14 {K : MK} {pc : Nat} {st : List AV} {μ : Mem} {post : Option AV → Mem → Prop} {a0 a1 a2 a3 a4 a5 a6 a7 a8 a9 a10 a11 a12 a13 : Option AV} {tl : List (Option AV)} {z : Int} (d : decode K.2.1 pc = .ok (.lload 14, 2)) (k : AW K (pc + 2) (a0 :: a1 :: a2 :: a3 :: a4 :: a5 :: a6 :: a7 :: a8 :: a9 :: a10 :: a11 :: a12 :: a13 :: some (.inr (.inl z)) :: tl) (.inr (.inl z) :: st) μ post) : AW K pc (a0 :: a1 :: a2 :: a3 :: a4 :: a5 :: a6 :: a7 :: a8 :: a9 :: a10 :: a11 :: a12 :: a13 :: some (.inr (.inl z)) :: tl) st μ post := g_lload (i := 14) d rfl k

theorem s_lstore_14 {K : MK} {pc : Nat} {st : List AV} {μ : Mem} {post : Option AV → Mem → Prop} {a0 a1 a2 a3 a4 a5 a6 a7 a8 a9 a10 a11 a12 a13 : Option AV} {b b1 : Option AV} {tl : List (Option AV)} {z : Int} (d : decode K.2.1 pc = .ok (.lstore 14, 2)) (hi : 15 < K.2.2.1) (hn : nolong a13 = true) (k : AW K (pc + 2) (a0 :: a1 :: a2 :: a3 :: a4 :: a5 :: a6 :: a7 :: a8 :: a9 :: a10 :: a11 :: a12 :: a13 :: some (.inr (.inl z)) :: none :: tl) st μ post) : AW K pc (a0 :: a1 :: a2 :: a3 :: a4 :: a5 :: a6 :: a7 :: a8 :: a9 :: a10 :: a11 :: a12 :: a13 :: b :: b1 :: tl) (.inr (.inl z) :: st) μ post := g_lstore (i := 14) d hi (fun j hj => by cases (show j = 13 by omega); exact hn) k

theorem s_aload_0 {K : MK} {pc : Nat} {st : List AV} {μ : Mem} {post : Option AV → Mem → Prop} {tl : List (Option AV)} {z : Nat} (d : decode K.2.1 pc = .ok (.aload_n 0, 1)) (k : AW K (pc + 1) (some (.inr (.inr z)) :: tl) (.inr (.inr z) :: st) μ post) : AW K pc (some (.inr (.inr z)) :: tl) st μ post := g_aload_n (i := 0) d rfl k

theorem s_astore_0 {K : MK} {pc : Nat} {st : List AV} {μ : Mem} {post : Option AV → Mem → Prop} {b : Option AV} {tl : List (Option AV)} {z : Nat} (d : decode K.2.1 pc = .ok (.astore_n 0, 1)) (hi : 0 < K.2.2.1) (k : AW K (pc + 1) (some (.inr (.inr z)) :: tl) st μ post) : AW K pc (b :: tl) (.inr (.inr z) :: st) μ post := g_astore_n (i := 0) d hi (fun j hj => by omega) k

theorem s_aload_1 {K : MK} {pc : Nat} {st : List AV} {μ : Mem} {post : Option AV → Mem → Prop} {a0 : Option AV} {tl : List (Option AV)} {z : Nat} (d : decode K.2.1 pc = .ok (.aload_n 1, 1)) (k : AW K (pc + 1) (a0 :: some (.inr (.inr z)) :: tl) (.inr (.inr z) :: st) μ post) : AW K pc (a0 :: some (.inr (.inr z)) :: tl) st μ post := g_aload_n (i := 1) d rfl k

theorem s_astore_1 {K : MK} {pc : Nat} {st : List AV} {μ : Mem} {post : Option AV → Mem → Prop} {a0 : Option AV} {b : Option AV} {tl : List (Option AV)} {z : Nat} (d : decode K.2.1 pc = .ok (.astore_n 1, 1)) (hi : 1 < K.2.2.1) (hn : nolong a0 = true) (k : AW K (pc + 1) (a0 :: some (.inr (.inr z)) :: tl) st μ post) : AW K pc (a0 :: b :: tl) (.inr (.inr z) :: st) μ post := g_astore_n (i := 1) d hi (fun j hj => by cases (show j = 0 by omega); exact hn) k

theorem s_aload_2 {K : MK} {pc : Nat} {st : List AV} {μ : Mem} {post : Option AV → Mem → Prop} {a0 a1 : Option AV} {tl : List (Option AV)} {z : Nat} (d : decode K.2.1 pc = .ok (.aload_n 2, 1)) (k : AW K (pc + 1) (a0 :: a1 :: some (.inr (.inr z)) :: tl) (.inr (.inr z) :: st) μ post) : AW K pc (a0 :: a1 :: some (.inr (.inr z)) :: tl) st μ post := g_aload_n (i := 2) d rfl k

theorem s_astore_2 {K : MK} {pc : Nat} {st : List AV} {μ : Mem} {post : Option AV → Mem → Prop} {a0 a1 : Option AV} {b : Option AV} {tl : List (Option AV)} {z : Nat} (d : decode K.2.1 pc = .ok (.astore_n 2, 1)) (hi : 2 < K.2.2.1) (hn : nolong a1 = true) (k : AW K (pc + 1) (a0 :: a1 :: some (.inr (.inr z)) :: tl) st μ post) : AW K pc (a0 :: a1 :: b :: tl) (.inr (.inr z) :: st) μ post := g_astore_n (i := 2) d hi (fun j hj => by cases (show j = 1 by omega); exact hn) k

theorem s_aload_3 {K : MK} {pc : Nat} {st : List AV} {μ : Mem} {post : Option AV → Mem → Prop} {a0 a1 a2 : Option AV} {tl : List (Option AV)} {z : Nat} (d : decode K.2.1 pc = .ok (.aload_n 3, 1)) (k : AW K (pc + 1) (a0 :: a1 :: a2 :: some (.inr (.inr z)) :: tl) (.inr (.inr z) :: st) μ post) : AW K pc (a0 :: a1 :: a2 :: some (.inr (.inr z)) :: tl) st μ post := g_aload_n (i := 3) d rfl k

theorem s_astore_3 {K : MK} {pc : Nat} {st : List AV} {μ : Mem} {post : Option AV → Mem → Prop} {a0 a1 a2 : Option AV} {b : Option AV} {tl : List (Option AV)} {z : Nat} (d : decode K.2.1 pc = .ok (.astore_n 3, 1)) (hi : 3 < K.2.2.1) (hn : nolong a2 = true) (k : AW K (pc + 1) (a0 :: a1 :: a2 :: some (.inr (.inr z)) :: tl) st μ post) : AW K pc (a0 :: a1 :: a2 :: b :: tl) (.inr (.inr z) :: st) μ post := g_astore_n (i := 3) d hi (fun j hj => by cases (show j = 2 by omega); exact hn) k

theorem s_aload_4 {K : MK} {pc : Nat} {st : List AV} {μ : Mem} {post : Option AV → Mem → Prop} {a0 a1 a2 a3 : Option AV} {tl : List (Option AV)} {z : Nat} (d : decode K.2.1 pc = .ok (.aload 4, 2)) (k : AW K (pc + 2) (a0 :: a1 :: a2 :: a3 :: some (.inr (.inr z)) :: tl) (.inr (.inr z) :: st) μ post) : AW K pc (a0 :: a1 :: a2 :: a3 :: some (.inr (.inr z)) :: tl) st μ post := g_aload (i := 4) d rfl k

theorem s_aload_5 {K : MK} {pc : Nat} {st : List AV} {μ : Mem} {post : Option AV → Mem → Prop} {a0 a1 a2 a3 a4 : Option AV} {tl : List (Option AV)} {z : Nat} (d : decode K.2.1 pc = .ok (.aload 5, 2)) (k : AW K (pc + 2) (a0 :: a1 :: a2 :: a3 :: a4 :: some (.inr (.inr z)) :: tl) (.inr (.inr z) :: st) μ post) : AW K pc (a0 :: a1 :: a2 :: a3 :: a4 :: some (.inr (.inr z)) :: tl) st μ post := g_aload (i := 5) d rfl k

theorem s_aload_6 {K : MK} {pc : Nat} {st : List AV} {μ : Mem} {post : Option AV → Mem → Prop} {a0 a1 a2 a3 a4 a5 : Option AV} {tl : List (Option AV)} {z : Nat} (d : decode K.2.1 pc = .ok (.aload 6, 2)) (k : AW K (pc + 2) (a0 :: a1 :: a2 :: a3 :: a4 :: a5 :: some (.inr (.inr z)) :: tl) (.inr (.inr z) :: st) μ post) : AW K pc (a0 :: a1 :: a2 :: a3 :: a4 :: a5 :: some (.inr (.inr z)) :: tl) st μ post := g_aload (i := 6) d rfl k

theorem s_aload_7 {K : MK} {pc : Nat} {st : List AV} {μ : Mem} {post : Option AV → Mem → Prop} {a0 a1 a2 a3 a4 a5 a6 : Option AV} {tl : List (Option AV)} {z : Nat} (d : decode K.2.1 pc = .ok (.aload 7, 2)) (k : AW K (pc + 2) (a0 :: a1 :: a2 :: a3 :: a4 :: a5 :: a6 :: some (.inr (.inr z)) :: tl) (.inr (.inr z) :: st) μ post) : AW K pc (a0 :: a1 :: a2 :: a3 :: a4 :: a5 :: a6 :: some (.inr (.inr z)) :: tl) st μ post := g_aload (i := 7) d rfl k

theorem s_aload_8 {K : MK} {pc : Nat} {st : List AV} {μ : Mem} {post : Option AV → Mem → Prop} {a0 a1 a2 a3 a4 a5 a6 a7 : Option AV} {tl : List (Option AV)} {z : Nat} (d : decode K.2.1 pc = .ok (.aload 8, 2)) (k : AW K (pc + 2) (a0 :: a1 :: a2 :: a3 :: a4 :: a5 :: a6 :: a7 :: some (.inr (.inr z)) :: tl) (.inr (.inr z) :: st) μ post) : AW K pc (a0 :: a1 :: a2 :: a3 :: a4 :: a5 :: a6 :: a7 :: some (.inr (.inr z)) :: tl) st μ post := g_aload (i := 8) d rfl k

theorem s_aload_9 {K : MK} {pc : Nat} {st : List AV} {μ : Mem} {post : Option AV → Mem → Prop} {a0 a1 a2 a3 a4 a5 a6 a7 a8 : Option AV} {tl : List (Option AV)} {z : Nat} (d : decode K.2.1 pc = .ok (.aload 9, 2)) (k : AW K (pc + 2) (a0 :: a1 :: a2 :: a3 :: a4 :: a5 :: a6 :: a7 :: a8 :: some (.inr (.inr z)) :: tl) (.inr (.inr z) :: st) μ post) : AW K pc (a0 :: a1 :: a2 :: a3 :: a4 :: a5 :: a6 :: a7 :: a8 :: some (.inr (.inr z)) :: tl) st μ post := g_aload (i := 9) d rfl k

theorem s_aload_10 {K : MK} {pc : Nat} {st : List AV} {μ : Mem} {post : Option AV → Mem → Prop} {a0 a1 a2 a3 a4 a5 a6 a7 a8 a9 : Option AV} {tl : List (Option AV)} {z : Nat} (d : decode K.2.1 pc = .ok (.aload 10, 2)) (k : AW K (pc + 2) (a0 :: a1 :: a2 :: a3 :: a4 :: a5 :: a6 :: a7 :: a8 :: a9 :: some (.inr (.inr z)) :: tl) (.inr (.inr z) :: st) μ post) : AW K pc (a0 :: a1 :: a2 :: a3 :: a4 :: a5 :: a6 :: a7 :: a8 :: a9 :: some (.inr (.inr z)) :: tl) st μ post := g_aload (i := 10) d rfl k

theorem s_aload_11 {K : MK} {pc : Nat} {st : List AV} {μ : Mem} {post : Option AV → Mem → Prop} {a0 a1 a2 a3 a4 a5 a6 a7 a8 a9 a10 : Option AV} {tl : List (Option AV)} {z : Nat} (d : decode K.2.1 pc = .ok (.aload 11, 2)) (k : AW K (pc + 2) (a0 :: a1 :: a2 :: a3 :: a4 :: a5 :: a6 :: a7 :: a8 :: a9 :: a10 :: some (.inr (.inr z)) :: tl) (.inr (.inr z) :: st) μ post) : AW K pc (a0 :: a1 :: a2 :: a3 :: a4 :: a5 :: a6 :: a7 :: a8 :: a9 :: a10 :: some (.inr (.inr z)) :: tl) st μ post := g_aload (i := 11) d rfl k

theorem s_aload_12 {K : MK} {pc : Nat} {st : List AV} {μ : Mem} {post : Option AV → Mem → Prop} {a0 a1 a2 a3 a4 a5 a6 a7 a8 a9 a10 a11 : Option AV} {tl : List (Option AV)} {z : Nat} (d : decode K.2.1 pc = .ok (.aload 12, 2)) (k : AW K (pc + 2) (a0 :: a1 :: a2 :: a3 :: a4 :: a5 :: a6 :: a7 :: a8 :: a9 :: a10 :: a11 :: some (.inr (.inr z)) :: tl) (.inr (.inr z) :: st) μ post) : AW K pc (a0 :: a1 :: a2 :: a3 :: a4 :: a5 :: a6 :: a7 :: a8 :: a9 :: a10 :: a11 :: some (.inr (.inr z)) :: tl) st μ post := g_aload (i := 12) d rfl k

theorem s_aload_13 {K : MK} {pc : Nat} {st : List AV} {μ : Mem} {post : Option AV → Mem → Prop} {a0 a1 a2 a3 a4 a5 a6 a7 a8 a9 a10 a11 a12 : Option AV} {tl : List (Option AV)} {z : Nat} (d : decode K.2.1 pc = .ok (.aload 13, 2)) (k : AW K (pc + 2) (a0 :: a1 :: a2 :: a3 :: a4 :: a5 :: a6 :: a7 :: a8 :: a9 :: a10 :: a11 :: a12 :: some (.inr (.inr z)) :: tl) (.inr (.inr z) :: st) μ post) : AW K pc (a0 :: a1 :: a2 :: a3 :: a4 :: a5 :: a6 :: a7 :: a8 :: a9 :: a10 :: a11 :: a12 :: some (.inr (.inr z)) :: tl) st μ post := g_aload (i := 13) d rfl k

theorem s_aload_14 {K : MK} {pc : Nat} {st : List AV} {μ : Mem} {post : Option AV → Mem → Prop} {a0 a1 a2 a3 a4 a5 a6 a7 a8 a9 a10 a11 a12 a13 : Option AV} {tl : List (Option AV)} {z : Nat} (d : decode K.2.1 pc = .ok (.aload 14, 2)) (k : AW K (pc + 2) (a0 :: a1 :: a2 :: a3 :: a4 :: a5 :: a6 :: a7 :: a8 :: a9 :: a10 :: a11 :: a12 :: a13 :: some (.inr (.inr z)) :: tl) (.inr (.inr z) :: st) μ post) : AW K pc (a0 :: a1 :: a2 :: a3 :: a4 :: a5 :: a6 :: a7 :: a8 :: a9 :: a10 :: a11 :: a12 :: a13 :: some (.inr (.inr z)) :: tl) st μ post := g_aload (i := 14) d rfl k
end
section
theorem nest_form : ∀ w ∈ nestW, ∃ (a : String) (i : Nat) (x : MethodName) (h : String), w = .methodLinkNest a i x h := by
  intro w hw
  simp only [nestW, List.mem_cons, List.not_mem_nil, or_false] at hw
  rcases hw with rfl | rfl | rfl | rfl | rfl | rfl | rfl <;> exact ⟨_, _, _, _, rfl⟩
theorem nest_tab : ∀ w ∈ nestW, w.onTables = true := by
  intro w hw
  obtain ⟨a, i, x, h, rfl⟩ := nest_form w hw
  rfl

theorem min_w : Cond.static Lib.Math.min.name ∈ tblG ∧ Cond.initialized "java/lang/Math" ∈ tblG ∧ Cond.code Lib.Math.min.name Lib.Math.min.code 2 (some .int) ∈ tblG := ⟨tblG_at 659 (by decide +kernel) rfl, tblG_at 93 (by decide +kernel) rfl, tblG_at 660 (by decide +kernel) rfl⟩

theorem abs_w : Cond.static Lib.MathLoose.abs_long.x ∈ tblG ∧ Cond.initialized "java/lang/Math" ∈ tblG ∧ Cond.code Lib.MathLoose.abs_long.x Lib.MathLoose.abs_long.code 2 (some .long) ∈ tblG := ⟨tblG_at 596 (by decide +kernel) rfl, tblG_at 93 (by decide +kernel) rfl, tblG_at 597 (by decide +kernel) rfl⟩

theorem copy_w : Cond.native arraycopyName ∈ tblG ∧ Cond.static arraycopyName ∈ tblG ∧ Cond.initialized "java/lang/System" ∈ tblG := ⟨tblG_at 501 (by decide +kernel) rfl, tblG_at 500 (by decide +kernel) rfl, tblG_at 91 (by decide +kernel) rfl⟩
def wr (μ : Mem) (c : Nat) (k z : Int) : Mem := fun c' k' => if c' = c ∧ k' = k then z else μ c' k'
def wa (μ : Mem) (c : Nat) (f : Int → Int) : Mem := fun c' => if c' = c then f else μ c'
/-- the cells of F out of ν, the others out of μ -/
def mg (F : List Nat) (ν μ : Mem) : Mem := fun c => if c ∈ F then ν c else μ c
theorem wr_same {μ : Mem} {c : Nat} {k z : Int} : wr μ c k z c k = z := by simp [wr]
theorem wr_nc {μ : Mem} {c c' : Nat} {k z : Int} (h : c' ≠ c) : wr μ c k z c' = μ c' := by funext k'; simp [wr, h]
theorem wr_c {μ : Mem} {c : Nat} {k k' z : Int} : wr μ c k z c k' = if k' = k then z else μ c k' := by simp [wr]
theorem wr_f {μ : Mem} {c : Nat} {k z : Int} : wr μ c k z c = fun k' => if k' = k then z else μ c k' := by funext k'; simp [wr]
theorem wa_c {μ : Mem} {c : Nat} {f : Int → Int} : wa μ c f c = f := by simp [wa]
theorem wa_nc {μ : Mem} {c c' : Nat} {f : Int → Int} (h : c' ≠ c) : wa μ c f c' = μ c' := by simp [wa, h]
theorem mg_in {F : List Nat} {ν μ : Mem} {c : Nat} (h : c ∈ F) : mg F ν μ c = ν c := by simp [mg, h]
theorem mg_out {F : List Nat} {ν μ : Mem} {c : Nat} (h : c ∉ F) : mg F ν μ c = μ c := by simp [mg, h]
theorem mg_of {F : List Nat} {ν μ : Mem} (h : ∀ c, c ∉ F → ν c = μ c) : ν = mg F ν μ := by
  funext c
  by_cases hc : c ∈ F
  · rw [mg_in hc]
  · rw [mg_out hc, h c hc]
def mentions (id k : Nat) (t : Nat × Nat) : Bool := if t.1 < 3 then id == k else (fl t.2).any (fun q => decide (q.1 < 2) && q.2 == id)
def indp (id b : Nat) : Bool := lay.zipIdx.all (fun q => q.2 == b || !mentions id q.2 q.1)
def sole (id ci k : Nat) : Bool := (fl ci).zipIdx.all (fun q => q.2 == k || !(decide (q.1.1 < 2) && q.1.2 == id))
theorem fvv_other {ad : Nat → Nat} {μ : Mem} {id : Nat} {j z : Int} {q : Nat × Nat} (h : (decide (q.1 < 2) && q.2 == id) = false) : fvv ad (wr μ id j z) q = fvv ad μ q := by
  obtain ⟨a, b⟩ := q
  match a, h with
  | 0, h =>
    have : b ≠ id := by simpa using h
    simp [fvv, wr_nc this]
  | 1, h =>
    have : b ≠ id := by simpa using h
    simp [fvv, wr_nc this]
  | a + 2, h => rfl
theorem cell_other {G : Geo} {μ : Mem} {id k : Nat} {j z : Int} {t : Nat × Nat} (h : mentions id k t = false) : cellOf G (wr μ id j z) k t = cellOf G μ k t := by
  obtain ⟨a, b⟩ := t
  match a, h with
  | 0, h =>
    have : k ≠ id := fun q => by subst q; simp [mentions] at h
    simp [cellOf, wr_nc this]
  | 1, h =>
    have : k ≠ id := fun q => by subst q; simp [mentions] at h
    simp [cellOf, wr_nc this]
  | 2, h =>
    have : k ≠ id := fun q => by subst q; simp [mentions] at h
    simp [cellOf, wr_nc this]
  | a + 3, h =>
    simp only [cellOf]
    congr 2
    refine List.map_congr_left fun q hq => fvv_other ?_
    have h0 : ¬ (a + 3 < 3) := by omega
    have h1 : (fl b).any (fun q => decide (q.1 < 2) && q.2 == id) = false := by simpa only [mentions, if_neg h0] using h
    have h2 := List.any_eq_false.mp h1 q hq
    simpa using h2
theorem indp_at {id b k : Nat} {t : Nat × Nat} (h : indp id b = true) (hk : lay[k]? = some t) (hb : k ≠ b) : mentions id k t = false := by
  have h1 := List.all_eq_true.mp h (t, k) (List.mk_mem_zipIdx_iff_getElem?.mpr hk)
  simpa [hb] using h1
/-- the world behind one write -/
theorem wo_wr {G : Geo} {μ : Mem} {id b : Nat} {j z : Int} {t : Nat × Nat} {e : va_E} (hb : lay[b]? = some t) (hi : indp id b = true) (he : e = cellOf G (wr μ id j z) b t) : (wo G μ).set b (G.2.1 b, e) = wo G (wr μ id j z) := by
  subst he
  apply List.ext_getElem?
  intro k
  by_cases hkb : k = b
  · subst hkb
    rw [wo_at hb, List.getElem?_set_self']
    rw [wo_at hb]; rfl
  · rw [List.getElem?_set_ne (Ne.symm hkb)]
    unfold wo
    rw [List.getElem?_mapIdx, List.getElem?_mapIdx]
    cases ht : lay[k]? with
    | none => rfl
    | some u =>
      simp only [Option.map_some]
      rw [cell_other (indp_at hi ht hkb)]
theorem wo_obj {G : Geo} {μ : Mem} {b ci : Nat} (hb : lay[b]? = some (3, ci)) : (wo G μ)[b]? = some (G.2.1 b, .inr (ci, (fl ci).map (fvv G.2.1 μ))) := by
  rw [wo_at hb]
  rfl
def vof (μ : Mem) (q : Nat × Nat) : AV := match q.1 with
  | 0 => .inl (μ q.2 0)
  | 1 => .inr (.inl (μ q.2 0))
  | _ => .inr (.inr q.2)
theorem cv_vof {ad : Nat → Nat} {μ : Mem} {q : Nat × Nat} : cv ad (vof μ q) = fvv ad μ q := by
  obtain ⟨a, b⟩ := q
  match a with
  | 0 => rfl
  | 1 => rfl
  | a + 2 => rfl
theorem z_get {K : MK} {pc : Nat} {L : List (Option AV)} {st : List AV} {μ : Mem} {post : Option AV → Mem → Prop} {own C : String} {T : u_T} {N ci idx k b : Nat} {q : Nat × Nat} (d : decode K.2.1 pc = .ok (.getfield idx, 3)) (ho : K.1.cls = own) (hin : ∀ w ∈ u_ws C T N, w ∈ tblG) (hlink : Cond.fieldLink own idx C (T k).2.1 (T k).2.2.1 ∈ tblG) (hb : lay[b]? = some (3, ci)) (hc : classes[ci]? = some (C, T, N)) (hk : k < N) (hC : (T k).1 = C) (hq : (fl ci)[k]? = some q) (kk : AW K (pc + 3) L (vof μ q :: st) μ post) : AW K pc L (.inr (.inr b) :: st) μ post := by
  intro G p l e s m args below meth c C H locs ls hP hS hl
  have hts := C.2.2.2.2.2.2.1
  have he := wo_obj (G := G) (μ := μ) hb
  refine va_get (D := G.1) (cl := classes) (v := fvv G.2.1 μ q) C.1 C.2.1 hts hin (ho ▸ C.2.2.2.2.1) C.2.2.2.2.2.2.2.1 hP b he hc k hk (hts _ hlink) (fun x hx => by rw [hC] at hx; exact hx) (by rw [List.getElem?_map, hq]; rfl) d (W.st ?_ (kk G p l e s m args below meth c C H locs ls hP hS hl))
  simp only [List.map_cons, cv_vof]
theorem z_put {K : MK} {pc : Nat} {L : List (Option AV)} {st : List AV} {μ : Mem} {post : Option AV → Mem → Prop} {own C : String} {T : u_T} {N ci idx k b id tg : Nat} {v : AV} {z : Int} (ty0 : Nat → FieldType) {ty : FieldType} (d : decode K.2.1 pc = .ok (.putfield idx, 3)) (ho : K.1.cls = own) (hin : ∀ w ∈ u_ws C T N, w ∈ tblG) (hty : ∀ k, k < N → parseFieldDescriptor (T k).2.2.1 = some (ty0 k)) (hnm : ∀ a, a < N → ∀ b, b < N → a ≠ b → (T a).2.1 ≠ (T b).2.1) (hlink : Cond.fieldLink own idx C (T k).2.1 (T k).2.2.1 ∈ tblG) (hb : lay[b]? = some (3, ci)) (hc : classes[ci]? = some (C, T, N)) (hk : k < N) (hC : (T k).1 = C) (hfin : (T k).2.2.2 = false) (hd : parseFieldDescriptor (T k).2.2.1 = some ty) (hq : (fl ci)[k]? = some (tg, id)) (hv : ∀ ad, cv ad v = fvv ad (wr μ id 0 z) (tg, id)) (hn : ∀ ad, narrow ty (cv ad v) = cv ad v) (hfit : ∀ ad, fits ty (cv ad v) = true) (hi : indp id b = true) (hs : sole id ci k = true)
    (kk : AW K (pc + 3) L st (wr μ id 0 z) post) : AW K pc L (v :: .inr (.inr b) :: st) μ post := by
  intro G p l e s m args below meth c C H locs ls hP hS hl
  have hts := C.2.2.2.2.2.2.1
  have he := wo_obj (G := G) (μ := μ) hb
  refine va_put (D := G.1) (cl := classes) (v := cv G.2.1 v) C.1 C.2.1 hts hin ty0 hty hnm (ho ▸ C.2.2.2.2.1) C.2.2.2.2.2.2.2.1 hP (wo_D C.2.2.2.2.2.2.2.2.2.2) hS b he hc k hk (hts _ hlink) (fun x hx => by rw [hC] at hx; exact hx) hfin hd (hn _) (hfit _) (by rw [List.length_map]; exact (List.getElem?_eq_some_iff.mp hq).1) d (fun H1 locs1 hP1 _ hS1 => ?_)
  refine kk G p l e s m args below meth c C H1 locs1 ls ?_ hS1 hl
  rw [← wo_wr (e := .inr (ci, ((fl ci).map (fvv G.2.1 μ)).set k (cv G.2.1 v))) hb hi ?_]
  · exact hP1
  · show _ = Sum.inr (ci, (fl ci).map (fvv G.2.1 (wr μ id 0 z)))
    refine congrArg (fun x => (Sum.inr (ci, x) : va_E)) ?_
    apply List.ext_getElem?
    intro j
    by_cases hjk : j = k
    · subst hjk
      rw [List.getElem?_set_self', List.getElem?_map, List.getElem?_map, hq]
      simp [hv]
    · rw [List.getElem?_set_ne (Ne.symm hjk), List.getElem?_map, List.getElem?_map]
      cases hj : (fl ci)[j]? with
      | none => rfl
      | some u =>
        have h1 := List.all_eq_true.mp hs (u, j) (List.mk_mem_zipIdx_iff_getElem?.mpr hj)
        simp only [Option.map_some]
        rw [fvv_other (by
          cases hw : (decide (u.1 < 2) && u.2 == id) with
          | false => rfl
          | true =>
            dsimp only at h1
            rw [hw] at h1
            simp [hjk] at h1)]
theorem clamp_cast {i : Int} (h0 : 0 ≤ i) (h : i < 2147483648) : (((Int32.ofInt i).toNatClampNeg : Nat) : Int) = i := by
  rw [i32_clamp h0 h]; omega
theorem lay_small {b tg n : Nat} (h : lay[b]? = some (tg, n)) : n < 2147483648 := by
  have h1 : lay.all (fun q => decide (q.2 < 2147483648)) = true := by decide +kernel
  simpa using List.all_eq_true.mp h1 _ (List.mem_of_getElem? h)

theorem z_iaload {K : MK} {pc : Nat} {L : List (Option AV)} {st : List AV} {μ : Mem} {post : Option AV → Mem → Prop} {b n : Nat} {i : Int} (d : decode K.2.1 pc = .ok (.iaload, 1)) (hb : lay[b]? = some (0, n)) (h0 : 0 ≤ i) (h1 : i < n) (kk : AW K (pc + 1) L (.inl (μ b i) :: st) μ post) : AW K pc L (.inl i :: .inr (.inr b) :: st) μ post := by
  intro G p l e s m args below meth c C H locs ls hP hS hl
  have hn := lay_small hb
  refine va_iald (D := G.1) (cl := classes) C.1 C.2.1 C.2.2.2.2.2.2.2.1 hP b 0 (wo_at hb) rfl (i32_in h0 h1 hn) d (W.st ?_ (kk G p l e s m args below meth c C H locs ls hP hS hl))
  simp only [List.map_cons, cv, clamp_cast h0 (by omega : i < 2147483648)]

theorem z_laload {K : MK} {pc : Nat} {L : List (Option AV)} {st : List AV} {μ : Mem} {post : Option AV → Mem → Prop} {b n : Nat} {i : Int} (d : decode K.2.1 pc = .ok (.laload, 1)) (hb : lay[b]? = some (1, n)) (h0 : 0 ≤ i) (h1 : i < n) (kk : AW K (pc + 1) L (.inr (.inl (μ b i)) :: st) μ post) : AW K pc L (.inl i :: .inr (.inr b) :: st) μ post := by
  intro G p l e s m args below meth c C H locs ls hP hS hl
  have hn := lay_small hb
  refine va_lald (D := G.1) (cl := classes) C.1 C.2.1 C.2.2.2.2.2.2.2.1 hP b 1 (wo_at hb) rfl (i32_in h0 h1 hn) d (W.st ?_ (kk G p l e s m args below meth c C H locs ls hP hS hl))
  simp only [List.map_cons, cv, clamp_cast h0 (by omega : i < 2147483648)]

theorem z_zaload {K : MK} {pc : Nat} {L : List (Option AV)} {st : List AV} {μ : Mem} {post : Option AV → Mem → Prop} {b n : Nat} {i : Int} (d : decode K.2.1 pc = .ok (.baload, 1)) (hb : lay[b]? = some (2, n)) (h0 : 0 ≤ i) (h1 : i < n) (kk : AW K (pc + 1) L (.inl (μ b i) :: st) μ post) : AW K pc L (.inl i :: .inr (.inr b) :: st) μ post := by
  intro G p l e s m args below meth c C H locs ls hP hS hl
  have hn := lay_small hb
  refine va_zald (D := G.1) (cl := classes) C.1 C.2.1 C.2.2.2.2.2.2.2.1 hP b 2 (wo_at hb) rfl (i32_in h0 h1 hn) d (W.st ?_ (kk G p l e s m args below meth c C H locs ls hP hS hl))
  simp only [List.map_cons, cv, clamp_cast h0 (by omega : i < 2147483648)]

theorem z_iastore {K : MK} {pc : Nat} {L : List (Option AV)} {st : List AV} {μ : Mem} {post : Option AV → Mem → Prop} {b n : Nat} {i z : Int} (d : decode K.2.1 pc = .ok (.iastore, 1)) (hb : lay[b]? = some (0, n)) (hi : indp b b = true) (h0 : 0 ≤ i) (h1 : i < n) (kk : AW K (pc + 1) L st (wr μ b i z) post) : AW K pc L (.inl z :: .inl i :: .inr (.inr b) :: st) μ post := by
  intro G p l e s m args below meth c C H locs ls hP hS hl
  have hn := lay_small hb
  refine va_iast (D := G.1) (cl := classes) C.1 C.2.1 C.2.2.2.2.2.2.2.1 hP (wo_D C.2.2.2.2.2.2.2.2.2.2) hS b 0 (wo_at hb) rfl (i32_in h0 h1 hn) d (fun H1 locs1 hP1 _ hS1 => ?_)
  refine kk G p l e s m args below meth c C H1 locs1 ls ?_ hS1 hl
  rw [← wo_wr hb hi rfl]
  have hE : ∀ j : Nat, wr μ b i z b j = if j = (Int32.ofInt i).toNatClampNeg then z else μ b j := by
    intro j
    rw [wr_c]
    have hc := clamp_cast h0 (by omega : i < 2147483648)
    by_cases hj : j = (Int32.ofInt i).toNatClampNeg
    · rw [if_pos hj, if_pos (by rw [hj]; exact hc)]
    · rw [if_neg hj, if_neg (fun q => hj (by omega))]
  have hF : cellOf G (wr μ b i z) b (0, n) = .inl (G.2.2.1, n, Sum.inl (fun j => Int32.ofInt (wr μ b i z b j))) := rfl
  rw [hF]
  rw [show (fun j : Nat => Int32.ofInt (wr μ b i z b j)) = upd (fun j : Nat => Int32.ofInt (μ b j)) (Int32.ofInt i).toNatClampNeg (Int32.ofInt z) from funext fun j => by rw [hE]; unfold upd; split <;> rfl]
  exact hP1

theorem z_lastore {K : MK} {pc : Nat} {L : List (Option AV)} {st : List AV} {μ : Mem} {post : Option AV → Mem → Prop} {b n : Nat} {i z : Int} (d : decode K.2.1 pc = .ok (.lastore, 1)) (hb : lay[b]? = some (1, n)) (hi : indp b b = true) (h0 : 0 ≤ i) (h1 : i < n) (kk : AW K (pc + 1) L st (wr μ b i z) post) : AW K pc L (.inr (.inl z) :: .inl i :: .inr (.inr b) :: st) μ post := by
  intro G p l e s m args below meth c C H locs ls hP hS hl
  have hn := lay_small hb
  refine va_last (D := G.1) (cl := classes) C.1 C.2.1 C.2.2.2.2.2.2.2.1 hP (wo_D C.2.2.2.2.2.2.2.2.2.2) hS b 1 (wo_at hb) rfl (i32_in h0 h1 hn) d (fun H1 locs1 hP1 _ hS1 => ?_)
  refine kk G p l e s m args below meth c C H1 locs1 ls ?_ hS1 hl
  rw [← wo_wr hb hi rfl]
  have hE : ∀ j : Nat, wr μ b i z b j = if j = (Int32.ofInt i).toNatClampNeg then z else μ b j := by
    intro j
    rw [wr_c]
    have hc := clamp_cast h0 (by omega : i < 2147483648)
    by_cases hj : j = (Int32.ofInt i).toNatClampNeg
    · rw [if_pos hj, if_pos (by rw [hj]; exact hc)]
    · rw [if_neg hj, if_neg (fun q => hj (by omega))]
  have hF : cellOf G (wr μ b i z) b (1, n) = .inl (G.2.2.2.1, n, Sum.inr (Sum.inl (fun j => Int64.ofInt (wr μ b i z b j)))) := rfl
  rw [hF]
  rw [show (fun j : Nat => Int64.ofInt (wr μ b i z b j)) = vp_updL (fun j : Nat => Int64.ofInt (μ b j)) (Int32.ofInt i).toNatClampNeg (Int64.ofInt z) from funext fun j => by rw [hE]; unfold vp_updL; split <;> rfl]
  exact hP1

theorem z_zastore {K : MK} {pc : Nat} {L : List (Option AV)} {st : List AV} {μ : Mem} {post : Option AV → Mem → Prop} {b n : Nat} {i z : Int} (d : decode K.2.1 pc = .ok (.bastore, 1)) (hb : lay[b]? = some (2, n)) (hi : indp b b = true) (h0 : 0 ≤ i) (h1 : i < n) (hz : z = 0 ∨ z = 1) (kk : AW K (pc + 1) L st (wr μ b i z) post) : AW K pc L (.inl z :: .inl i :: .inr (.inr b) :: st) μ post := by
  intro G p l e s m args below meth c C H locs ls hP hS hl
  have hn := lay_small hb
  refine va_zast (D := G.1) (cl := classes) C.1 C.2.1 C.2.2.2.2.2.2.2.1 hP (wo_D C.2.2.2.2.2.2.2.2.2.2) hS b 2 (wo_at hb) rfl (i32_in h0 h1 hn) d (fun H1 locs1 hP1 _ hS1 => ?_)
  refine kk G p l e s m args below meth c C H1 locs1 ls ?_ hS1 hl
  rw [← wo_wr hb hi rfl]
  have hE : ∀ j : Nat, wr μ b i z b j = if j = (Int32.ofInt i).toNatClampNeg then z else μ b j := by
    intro j
    rw [wr_c]
    have hc := clamp_cast h0 (by omega : i < 2147483648)
    by_cases hj : j = (Int32.ofInt i).toNatClampNeg
    · rw [if_pos hj, if_pos (by rw [hj]; exact hc)]
    · rw [if_neg hj, if_neg (fun q => hj (by omega))]
  have hF : cellOf G (wr μ b i z) b (2, n) = .inl (G.2.2.2.2, n, Sum.inl (fun j => Int32.ofInt (wr μ b i z b j))) := rfl
  rw [hF]
  rw [show (fun j : Nat => Int32.ofInt (wr μ b i z b j)) = upd (fun j : Nat => Int32.ofInt (μ b j)) (Int32.ofInt i).toNatClampNeg (vp_nar .boolean (Int32.ofInt z)) from funext fun j => by rw [hE, show vp_nar .boolean (Int32.ofInt z) = Int32.ofInt z from (by rcases hz with rfl | rfl <;> decide)]; unfold upd; split <;> rfl]
  exact hP1

theorem z_alen0 {K : MK} {pc : Nat} {L : List (Option AV)} {st : List AV} {μ : Mem} {post : Option AV → Mem → Prop} {b n : Nat} (d : decode K.2.1 pc = .ok (.arraylength, 1)) (hb : lay[b]? = some (0, n)) (kk : AW K (pc + 1) L (.inl n :: st) μ post) : AW K pc L (.inr (.inr b) :: st) μ post := by
  intro G p l e s m args below meth c C H locs ls hP hS hl
  exact va_alen (D := G.1) (cl := classes) (v := Int32.ofInt n) C.1 C.2.1 C.2.2.2.2.2.2.2.1 hP b 0 (wo_at hb) rfl (Int32.ofInt_eq_ofNat.symm) d (kk G p l e s m args below meth c C H locs ls hP hS hl)

theorem z_alen1 {K : MK} {pc : Nat} {L : List (Option AV)} {st : List AV} {μ : Mem} {post : Option AV → Mem → Prop} {b n : Nat} (d : decode K.2.1 pc = .ok (.arraylength, 1)) (hb : lay[b]? = some (1, n)) (kk : AW K (pc + 1) L (.inl n :: st) μ post) : AW K pc L (.inr (.inr b) :: st) μ post := by
  intro G p l e s m args below meth c C H locs ls hP hS hl
  exact va_alen (D := G.1) (cl := classes) (v := Int32.ofInt n) C.1 C.2.1 C.2.2.2.2.2.2.2.1 hP b 1 (wo_at hb) rfl (Int32.ofInt_eq_ofNat.symm) d (kk G p l e s m args below meth c C H locs ls hP hS hl)

theorem z_getOWED {K : MK} {pc : Nat} {L : List (Option AV)} {st : List AV} {μ : Mem} {post : Option AV → Mem → Prop} {own : String} {idx : Nat} (d : decode K.2.1 pc = .ok (.getstatic idx, 3)) (ho : K.1.cls = own) (hlink : Cond.fieldLink own idx "LaughsLast$Chances" "OWED" "[J" ∈ tblG) (kk : AW K (pc + 3) L (.inr (.inr 64) :: st) μ post) : AW K pc L st μ post := by
  intro G p l e s m args below meth c C H locs ls hP hS hl
  exact va_gets C.1 C.2.1 (C.2.2.2.2.2.2.2.2.2.1).1.1 hS (ho ▸ C.2.2.2.2.1) (C.2.2.2.2.2.2.1 _ hlink) (fun _ h => h) d (kk G p l e s m args below meth c C H locs ls hP hS hl)
theorem z_laOWED {K : MK} {pc : Nat} {L : List (Option AV)} {st : List AV} {μ : Mem} {post : Option AV → Mem → Prop} {i : Int} (d : decode K.2.1 pc = .ok (.laload, 1)) (h0 : 0 ≤ i) (h1 : i < 5) (kk : AW K (pc + 1) L (.inr (.inl (owI i)) :: st) μ post) : AW K pc L (.inl i :: .inr (.inr 64) :: st) μ post := by
  intro G p l e s m args below meth c C H locs ls hP hS hl
  refine va_tl C.1 C.2.1 (C.2.2.2.2.2.2.2.2.2.1).1.2 hS (v := .long (Int64.ofInt (owI i))) (i32_in h0 (n := 5) h1 (by decide)) ?_ d (kk G p l e s m args below meth c C H locs ls hP hS hl)
  simp only [clamp_cast h0 (by omega : i < 2147483648)]

theorem z_getCOSTS {K : MK} {pc : Nat} {L : List (Option AV)} {st : List AV} {μ : Mem} {post : Option AV → Mem → Prop} {own : String} {idx : Nat} (d : decode K.2.1 pc = .ok (.getstatic idx, 3)) (ho : K.1.cls = own) (hlink : Cond.fieldLink own idx "LaughsLast$Chances" "COSTS" "[J" ∈ tblG) (kk : AW K (pc + 3) L (.inr (.inr 65) :: st) μ post) : AW K pc L st μ post := by
  intro G p l e s m args below meth c C H locs ls hP hS hl
  exact va_gets C.1 C.2.1 (C.2.2.2.2.2.2.2.2.2.1).2.1 hS (ho ▸ C.2.2.2.2.1) (C.2.2.2.2.2.2.1 _ hlink) (fun _ h => h) d (kk G p l e s m args below meth c C H locs ls hP hS hl)
theorem z_laCOSTS {K : MK} {pc : Nat} {L : List (Option AV)} {st : List AV} {μ : Mem} {post : Option AV → Mem → Prop} {i : Int} (d : decode K.2.1 pc = .ok (.laload, 1)) (h0 : 0 ≤ i) (h1 : i < 5) (kk : AW K (pc + 1) L (.inr (.inl (coI i)) :: st) μ post) : AW K pc L (.inl i :: .inr (.inr 65) :: st) μ post := by
  intro G p l e s m args below meth c C H locs ls hP hS hl
  refine va_tl C.1 C.2.1 (C.2.2.2.2.2.2.2.2.2.1).2.2 hS (v := .long (Int64.ofInt (coI i))) (i32_in h0 (n := 5) h1 (by decide)) ?_ d (kk G p l e s m args below meth c C H locs ls hP hS hl)
  simp only [clamp_cast h0 (by omega : i < 2147483648)]

theorem s_ireturn {K : MK} {pc : Nat} {L : List (Option AV)} {μ : Mem} {P : Int → Mem → Prop} {z : Int} (d : decode K.2.1 pc = .ok (.ireturn, 1)) (hr : K.2.2.2.1 = some .int) (h : P z μ) : AW K pc L [.inl z] μ (pI P) := by
  intro G p l e s m args below meth c C H locs ls hP hS hl
  exact W.iret (v := Int32.ofInt z) C.1 C.2.1 (C.2.2.1.trans hr) (fun t ht hW => ⟨⟨some (.inl z), μ, rfl, ⟨z, rfl, h⟩, by rw [ht]; exact hP⟩, hS.F ht⟩) hS.2.2 d C.2.2.2.2.2.1
theorem s_zreturn {K : MK} {pc : Nat} {L : List (Option AV)} {μ : Mem} {P : Int → Mem → Prop} {z : Int} (d : decode K.2.1 pc = .ok (.ireturn, 1)) (hr : K.2.2.2.1 = some .boolean) (hz : z = 0 ∨ z = 1) (h : P z μ) : AW K pc L [.inl z] μ (pI P) := by
  intro G p l e s m args below meth c C H locs ls hP hS hl
  exact W.zret (v := Int32.ofInt z) C.1 C.2.1 (C.2.2.1.trans hr) (by rcases hz with rfl | rfl <;> decide) (fun t ht hW => ⟨⟨some (.inl z), μ, rfl, ⟨z, rfl, h⟩, by rw [ht]; exact hP⟩, hS.F ht⟩) hS.2.2 d C.2.2.2.2.2.1
theorem s_lreturn {K : MK} {pc : Nat} {L : List (Option AV)} {μ : Mem} {P : Int → Mem → Prop} {z : Int} (d : decode K.2.1 pc = .ok (.lreturn, 1)) (hr : K.2.2.2.1 = some .long) (h : P z μ) : AW K pc L [.inr (.inl z)] μ (pL P) := by
  intro G p l e s m args below meth c C H locs ls hP hS hl
  exact W.lret (v := Int64.ofInt z) C.1 C.2.1 (C.2.2.1.trans hr) (fun t ht hW => ⟨⟨some (.inr (.inl z)), μ, rfl, ⟨z, rfl, h⟩, by rw [ht]; exact hP⟩, hS.F ht⟩) hS.2.2 d C.2.2.2.2.2.1
theorem s_areturn {K : MK} {pc : Nat} {L : List (Option AV)} {μ : Mem} {P : Nat → Mem → Prop} {z : Nat} {n : String} (d : decode K.2.1 pc = .ok (.areturn, 1)) (hr : K.2.2.2.1 = some (.object n)) (h : P z μ) : AW K pc L [.inr (.inr z)] μ (pR P) := by
  intro G p l e s m args below meth c C H locs ls hP hS hl
  exact W.aret (v := .ref (G.2.1 z)) C.1 C.2.1 (C.2.2.1.trans hr) (Or.inl ⟨n, rfl⟩) (Or.inr ⟨_, rfl⟩) (fun t ht hW => ⟨⟨some (.inr (.inr z)), μ, rfl, ⟨z, rfl, h⟩, by rw [ht]; exact hP⟩, hS.F ht⟩) hS.2.2 d C.2.2.2.2.2.1
theorem s_return {K : MK} {pc : Nat} {L : List (Option AV)} {μ : Mem} {P : Mem → Prop} (d : decode K.2.1 pc = .ok (.return_, 1)) (hr : K.2.2.2.1 = none) (h : P μ) : AW K pc L [] μ (pV P) := by
  intro G p l e s m args below meth c C H locs ls hP hS hl
  exact W.vret C.1 C.2.1 (C.2.2.1.trans hr) (fun t ht hW => ⟨⟨none, μ, rfl, ⟨rfl, h⟩, by rw [ht]; exact hP⟩, hS.F ht⟩) hS.2.2 d C.2.2.2.2.2.1

/-- what every call of a method takes from the tables: its code, that its class is there, how many arguments -/
def OKm (K : MK) (n : Nat) : Prop := Cond.code K.1 K.2.1 K.2.2.1 K.2.2.2.1 ∈ tblG ∧ Cond.initialized K.1.cls ∈ tblG ∧ (K.1.cls ≠ "java/lang/invoke/MethodHandle" ∧ K.1.cls ≠ "java/lang/invoke/VarHandle" ∧ (parseMethodDescriptor K.1.desc).map (fun d => d.parameters.length) = some n) ∧ K.2.2.2.2.cells = 0 ∧ K.2.2.2.2.slots = 0
def OKv (K : MK) (n : Nat) : Prop := OKm K n ∧ Cond.instanceMethod K.1 ∈ tblG ∧ Cond.selects K.1.cls K.1 K.1 ∈ tblG ∧ ∃ (ci : Nat) (T : u_T) (N b : Nat), classes[ci]? = some (K.1.cls, T, N) ∧ lay[b]? = some (3, ci)
def OKs (K : MK) (n : Nat) : Prop := OKm K n ∧ Cond.static K.1 ∈ tblG
def roomy (K Ky : MK) : Prop := Ky.2.2.2.2.frames + 1 ≤ K.2.2.2.2.frames ∧ 8 + (Ky.2.2.1 + 11) + Ky.2.2.2.2.locals ≤ K.2.2.2.2.locals
def rcons (r : Option AV) (st : List AV) : List AV := match r with
  | none => st
  | some v => v :: st
/-- behind a call -/
theorem call_back {K : MK} {pc : Nat} {L : List (Option AV)} {st : List AV} {post : Option AV → Mem → Prop} {postY : Option AV → Mem → Prop} {G : Geo} {p : Program} {l : Launch} {e : Env} {s : State} {m : MethodId} {args : Array Value} {below : List Frame} {meth : Method} {c : Code} (C : Cx K G p s m args meth c) {H : Heap} {locs : List Loc} {ls : Array Slot} (hS : va_S (zA G) s.heap H locs) (hl : LH G.2.1 K.2.2.1 ls L) {st0 : List Value} {a : Array Value}
    (hr : va_Run p l e K.2.2.2.2 s m args below meth c H locs 0 0 0 0 (F0 m pc ls st0) (st.map (cv G.2.1)) (QQ G postY a) (zA G)) (k : ∀ r ν, postY r ν → AW K (pc + 3) L (rcons r st) ν post) :
    W p l e K.2.2.2.2 s m args below meth c H locs 0 0 (MQ below (QQ G post) args s 0 0 (zA G)) (F0 m pc ls st0) := by
  intro T hT X
  obtain ⟨v, st₀, t, T', Lx, h0, X', hLx, e1, e2, ⟨⟨r, ν, hv, hp, hPn⟩, hz, hk⟩, go⟩ := hr T hT X
  cases hv
  rw [h0] at hz hk
  have hS1 : va_S (zA G) s.heap T'.heap (locs ++ Lx) := ⟨Nat.le_trans hS.1 (by rw [e1]; exact hz), fun q h1 h2 => by rw [e1, hk q (Nat.lt_of_lt_of_le h1 hS.1) h2]; exact hS.2.1 q h1 h2, fun q hq => by
      rcases List.mem_append.mp hq with h | h
      · exact hS.2.2 q h
      · exact hLx q h⟩
  obtain ⟨t2, a1, b1⟩ := k r ν hp G p l e s m args below meth c C T'.heap (locs ++ Lx) ls (by rw [e1]; exact hPn) hS1 hl T' rfl X'
  refine ⟨t2, go t2 ?_, b1⟩
  cases r with
  | none => exact a1
  | some v => exact a1
theorem pre_call {K : MK} {G : Geo} {μ : Mem} {p : Program} {s : State} {m : MethodId} {args : Array Value} {meth : Method} {c : Code} (C : Cx K G p s m args meth c) {H : Heap} {locs : List Loc} (hP : va_P G.1 classes (wo G μ) H) (hS : va_S (zA G) s.heap H locs) {U : State} (hU : U.heap = H) (hW : s.WarmedH U.vm) : ZW G μ U := by
  obtain ⟨-, -, -, -, -, -, -, hK, hN, hZ, hI⟩ := C
  refine ⟨by rw [hU]; exact hP, hK.moved hW.alike, fun w hw => ?_, ?_, hI⟩
  · have h1 := hN w hw
    obtain ⟨a, i, x, h, rfl⟩ := nest_form w hw
    exact va_Nw.warmM hW h1
  · rw [hU]
    exact (hZ.moved hW.alike).kept hS.2.1
theorem blind_call {G : Geo} {μ : Mem} {av : List Value} : FrameBlind (va_Pc av (fun U => ZW G μ U)) := by
  intro a U g mk h
  obtain ⟨h1, h2, h3, h4, h5, h6⟩ := h
  exact ⟨h1, h2, va_K.moved (u := U) (U := U.calling g mk a) (Vm.Alike.refl U.vm) h3, fun w hw => va_Nw.same (u := U) (nest_tab w hw) rfl (h4 w hw), h5.moved (Vm.Alike.refl U.vm), h6⟩
theorem sum_cat {ad : Nat → Nat} {st : List AV} : ((st.map (cv ad)).map fun v => v.category).sum = (st.map avc).sum := by
  rw [List.map_map]
  congr 1
  exact List.map_congr_left fun v _ => cv_cat ad v
theorem z_callV {K : MK} {pc : Nat} {L : List (Option AV)} {st : List AV} {μ : Mem} {post : Option AV → Mem → Prop} {Ky : MK} {own : String} {idx b : Nat} {As : List AV} {postY : Option AV → Mem → Prop} (d : decode K.2.1 pc = .ok (.invokevirtual idx, 3)) (ho : K.1.cls = own) (hln : Cond.methodLink own idx Ky.1 ∈ tblG) (hok : OKv Ky As.length) (hcl : ∃ (ci : Nat) (T : u_T) (N : Nat), classes[ci]? = some (Ky.1.cls, T, N) ∧ lay[b]? = some (3, ci)) (hro : roomy K Ky) (hst : (st.map avc).sum ≤ 8)
    (hM : Mc Ky (.inr (.inr b) :: As) μ postY) (k : ∀ r ν, postY r ν → AW K (pc + 3) L (rcons r st) ν post) : AW K pc L (As.reverse ++ .inr (.inr b) :: st) μ post := by
  intro G p l e s m args below meth c C H locs ls hP hS hl
  obtain ⟨⟨h1, h2, h3, h4, h5⟩, h6, h7, -⟩ := hok
  obtain ⟨ci, T, N, hc, hb⟩ := hcl
  have hts := C.2.2.2.2.2.2.1
  have he := wo_obj (G := G) (μ := μ) hb
  have hcw : CallW K.2.2.2.2 s args own Ky.1.cls idx Ky.1 Ky.2.1 Ky.2.2.1 Ky.2.2.2.1 (wsK Ky) Ky.2.2.2.2 0 0 As.length := ⟨callB_of As.length hts (wsK_good h1) rfl h4 h5 (hts _ h2) (hts _ hln) h3 hro, hts _ h6, hts _ h7⟩
  refine call_back C hS hl (va_runV (As := As.map (cv G.2.1)) (b := G.2.1 b) ⟨C.1, C.2.1, C.2.2.2.1, ho ▸ C.2.2.2.2.1, hts⟩ (hM l G) hcw ⟨blind_call, va_recv C.2.2.2.2.2.2.2.1 hP hc he, fun U hU hW => ⟨rfl, pre_call C hP hS hU hW⟩⟩ rfl (by rw [List.length_map]) hl.1 ?_ (lv_room (by rw [sum_cat]; exact hst)) d ⟨Nat.zero_le _, Nat.zero_le _⟩) k
  simp only [List.map_append, List.map_reverse, List.map_cons, cv]
theorem z_callS {K : MK} {pc : Nat} {L : List (Option AV)} {st : List AV} {μ : Mem} {post : Option AV → Mem → Prop} {Ky : MK} {own : String} {idx : Nat} {As : List AV} {postY : Option AV → Mem → Prop} (d : decode K.2.1 pc = .ok (.invokestatic idx, 3)) (ho : K.1.cls = own) (hln : Cond.methodLink own idx Ky.1 ∈ tblG) (hok : OKs Ky As.length) (hro : roomy K Ky) (hst : (st.map avc).sum ≤ 8)
    (hM : Mc Ky As μ postY) (k : ∀ r ν, postY r ν → AW K (pc + 3) L (rcons r st) ν post) : AW K pc L (As.reverse ++ st) μ post := by
  intro G p l e s m args below meth c C H locs ls hP hS hl
  obtain ⟨⟨h1, h2, h3, h4, h5⟩, h6⟩ := hok
  have hts := C.2.2.2.2.2.2.1
  refine call_back C hS hl (va_runS (As := As.map (cv G.2.1)) (n := As.length) (index := idx) ⟨C.1, C.2.1, C.2.2.2.1, ho ▸ C.2.2.2.2.1, hts⟩ (hM l G) ⟨callB_of As.length hts (wsK_good h1) rfl h4 h5 (hts _ h2) (hts _ hln) h3 hro, hts _ h6⟩ ⟨blind_call, fun U hU hW => ⟨rfl, pre_call C hP hS hU hW⟩⟩ rfl (by rw [List.length_map]) hl.1 ?_ (lv_room (by rw [sum_cat]; exact hst)) d ⟨Nat.zero_le _, Nat.zero_le _⟩) k
  simp only [List.map_append, List.map_reverse]
theorem z_callSN {K : MK} {pc : Nat} {L : List (Option AV)} {st : List AV} {μ : Mem} {post : Option AV → Mem → Prop} {Ky : MK} {own host : String} {idx : Nat} {As : List AV} {postY : Option AV → Mem → Prop} (d : decode K.2.1 pc = .ok (.invokestatic idx, 3)) (ho : K.1.cls = own) (hln : Cond.methodLinkNest own idx Ky.1 host ∈ nestW) (hok : OKs Ky As.length) (hro : roomy K Ky) (hst : (st.map avc).sum ≤ 8)
    (hM : Mc Ky As μ postY) (k : ∀ r ν, postY r ν → AW K (pc + 3) L (rcons r st) ν post) : AW K pc L (As.reverse ++ st) μ post := by
  intro G p l e s m args below meth c C H locs ls hP hS hl
  obtain ⟨⟨h1, h2, h3, h4, h5⟩, h6⟩ := hok
  have hts := C.2.2.2.2.2.2.1
  refine call_back C hS hl (va_runSN (As := As.map (cv G.2.1)) (n := As.length) (index := idx) ⟨C.1, C.2.1, C.2.2.2.1, ho ▸ C.2.2.2.2.1, hts⟩ (hM l G) ⟨va_cnB As.length hts (wsK_good h1) rfl h4 h5 (C.2.2.2.2.2.2.2.2.1 _ hln) (hts _ h2) h3 hro, hts _ h6, trivial⟩ ⟨blind_call, fun U hU hW => ⟨rfl, pre_call C hP hS hU hW⟩⟩ rfl (by rw [List.length_map]) hl.1 ?_ (lv_room (by rw [sum_cat]; exact hst)) d ⟨Nat.zero_le _, Nat.zero_le _⟩) k
  simp only [List.map_append, List.map_reverse]

theorem z_min {K : MK} {pc : Nat} {L : List (Option AV)} {st : List AV} {μ : Mem} {post : Option AV → Mem → Prop} {own : String} {idx : Nat} {x y : Int} (d : decode K.2.1 pc = .ok (.invokestatic idx, 3)) (ho : K.1.cls = own) (hln : Cond.methodLink own idx Lib.Math.min.name ∈ tblG) (hrf : 1 ≤ K.2.2.2.2.frames) (hrl : (st.map avc).sum + 13 ≤ K.2.2.2.2.locals) (hx : -2147483648 ≤ x ∧ x < 2147483648) (hy : -2147483648 ≤ y ∧ y < 2147483648) (k : AW K (pc + 3) L (.inl (min x y) :: st) μ post) : AW K pc L (.inl y :: .inl x :: st) μ post := by
  intro G p l e s m args below meth c C H locs ls hP hS hl
  have hts := C.2.2.2.2.2.2.1
  refine va_mmin C.1 C.2.1 (C.2.2.2.1.trans hl.1.symm) (ho ▸ C.2.2.2.2.1) (hts _ hln) (hts _ min_w.1) (hts _ min_w.2.1) (hts _ min_w.2.2) hrf (by rw [sum_cat]; exact hrl) (Nat.zero_le _) (Nat.zero_le _) d (W.st ?_ (k G p l e s m args below meth c C H locs ls hP hS hl))
  simp only [List.map_cons, cv, i32_lt hy hx]
  congr 2
  by_cases h : y < x
  · rw [if_pos h, Int.min_eq_right (by omega)]
  · rw [if_neg h, Int.min_eq_left (by omega)]
theorem z_absL {K : MK} {pc : Nat} {L : List (Option AV)} {st : List AV} {μ : Mem} {post : Option AV → Mem → Prop} {own : String} {idx : Nat} {x : Int} (d : decode K.2.1 pc = .ok (.invokestatic idx, 3)) (ho : K.1.cls = own) (hln : Cond.methodLink own idx Lib.MathLoose.abs_long.x ∈ tblG) (hrf : 1 ≤ K.2.2.2.2.frames) (hrl : (st.map avc).sum + 13 ≤ K.2.2.2.2.locals) (hx : -9223372036854775808 ≤ x ∧ x < 9223372036854775808) (k : AW K (pc + 3) L (.inr (.inl (x.natAbs : Int)) :: st) μ post) : AW K pc L (.inr (.inl x) :: st) μ post := by
  intro G p l e s m args below meth c C H locs ls hP hS hl
  have hts := C.2.2.2.2.2.2.1
  refine va_mabs_long C.1 C.2.1 (C.2.2.2.1.trans hl.1.symm) (ho ▸ C.2.2.2.2.1) (hts _ hln) (hts _ abs_w.1) (hts _ abs_w.2.1) (hts _ abs_w.2.2) hrf (by rw [sum_cat]; exact hrl) (Nat.zero_le _) (Nat.zero_le _) d (W.st ?_ (k G p l e s m args below meth c C H locs ls hP hS hl))
  simp only [List.map_cons, cv]
  congr 2
  have h0 := i64_lt (x := 0) (y := x) (by omega) hx
  rw [show Int64.ofInt 0 = 0 from rfl] at h0
  by_cases h : 0 < x
  · rw [if_pos (h0.mpr h), show ((x.natAbs : Int)) = x by omega]
  · rw [if_neg (fun q => h (h0.mp q)), show ((x.natAbs : Int)) = -x by omega, Int64.ofInt_neg]
def cpy (f g : Int → Int) (sp dp n : Int) : Int → Int := fun k => if dp ≤ k ∧ k < dp + n then f (sp + (k - dp)) else g k
theorem cell_otherA {G : Geo} {μ : Mem} {id k : Nat} {f : Int → Int} {t : Nat × Nat} (h : mentions id k t = false) : cellOf G (wa μ id f) k t = cellOf G μ k t := by
  obtain ⟨a, b⟩ := t
  match a, h with
  | 0, h =>
    have : k ≠ id := fun q => by subst q; simp [mentions] at h
    simp [cellOf, wa_nc this]
  | 1, h =>
    have : k ≠ id := fun q => by subst q; simp [mentions] at h
    simp [cellOf, wa_nc this]
  | 2, h =>
    have : k ≠ id := fun q => by subst q; simp [mentions] at h
    simp [cellOf, wa_nc this]
  | a + 3, h =>
    simp only [cellOf]
    congr 2
    refine List.map_congr_left fun q hq => ?_
    have h0 : ¬ (a + 3 < 3) := by omega
    have h1 : (fl b).any (fun q => decide (q.1 < 2) && q.2 == id) = false := by simpa only [mentions, if_neg h0] using h
    have h2 := List.any_eq_false.mp h1 q hq
    obtain ⟨a, b⟩ := q
    match a, h2 with
    | 0, h2 =>
      have : b ≠ id := by simpa using h2
      simp [fvv, wa_nc this]
    | 1, h2 =>
      have : b ≠ id := by simpa using h2
      simp [fvv, wa_nc this]
    | a + 2, h2 => rfl
theorem wo_wa {G : Geo} {μ : Mem} {id b : Nat} {f : Int → Int} {t : Nat × Nat} {e : va_E} (hb : lay[b]? = some t) (hi : indp id b = true) (he : e = cellOf G (wa μ id f) b t) : (wo G μ).set b (G.2.1 b, e) = wo G (wa μ id f) := by
  subst he
  apply List.ext_getElem?
  intro k
  by_cases hkb : k = b
  · subst hkb
    rw [wo_at hb, List.getElem?_set_self']
    rw [wo_at hb]; rfl
  · rw [List.getElem?_set_ne (Ne.symm hkb)]
    unfold wo
    rw [List.getElem?_mapIdx, List.getElem?_mapIdx]
    cases ht : lay[k]? with
    | none => rfl
    | some u =>
      simp only [Option.map_some]
      rw [cell_otherA (indp_at hi ht hkb)]
theorem z_copy {K : MK} {pc : Nat} {L : List (Option AV)} {st : List AV} {μ : Mem} {post : Option AV → Mem → Prop} {own : String} {idx b0 b1 n0 n1 : Nat} {sp dp n : Int} (d : decode K.2.1 pc = .ok (.invokestatic idx, 3)) (ho : K.1.cls = own) (hln : Cond.methodLink own idx arraycopyName ∈ tblG) (hb0 : lay[b0]? = some (0, n0)) (hb1 : lay[b1]? = some (0, n1)) (hi : indp b1 b1 = true) (hrf : 1 ≤ K.2.2.2.2.frames) (hrl : (st.map avc).sum + 18 ≤ K.2.2.2.2.locals) (h1 : 0 ≤ sp) (h2 : 0 ≤ dp) (h3 : 0 ≤ n) (h4 : sp + n ≤ n0) (h5 : dp + n ≤ n1) (k : AW K (pc + 3) L st (wa μ b1 (cpy (μ b0) (μ b1) sp dp n)) post) : AW K pc L (.inl n :: .inl dp :: .inr (.inr b1) :: .inl sp :: .inr (.inr b0) :: st) μ post := by
  intro G p l e s m args below meth c C H locs ls hP hS hl
  have hts := C.2.2.2.2.2.2.1
  have hn0 := lay_small hb0
  have hn1 := lay_small hb1
  have nn : ∀ z : Int, 0 ≤ z → z < 2147483648 → ¬ Int32.ofInt z < 0 := by
    intro z a b
    rw [← i32_zero, i32_lt ⟨by omega, b⟩ ⟨by omega, by omega⟩]
    omega
  refine va_copyi (D := G.1) (cl := classes) C.1 C.2.1 (C.2.2.2.1.trans hl.1.symm) (ho ▸ C.2.2.2.2.1) (hts _ hln) (hts _ copy_w.1) (hts _ copy_w.2.1) (hts _ copy_w.2.2) C.2.2.2.2.2.2.2.1 hP (wo_D C.2.2.2.2.2.2.2.2.2.2) hS b0 b1 0 0 (wo_at hb0) (wo_at hb1) rfl rfl rfl (nn _ h1 (by omega)) (nn _ h2 (by omega)) (nn _ h3 (by omega)) ?_ ?_ (fun _ _ => rfl) hrf (by rw [sum_cat]; exact hrl) d (fun H1 locs1 hP1 _ hS1 => ?_)
  · rw [i32_clamp h1 (by omega), i32_clamp h3 (by omega)]; omega
  · rw [i32_clamp h2 (by omega), i32_clamp h3 (by omega)]; omega
  · refine k G p l e s m args below meth c C H1 locs1 ls ?_ hS1 hl
    rw [← wo_wa hb1 hi rfl]
    have hF : cellOf G (wa μ b1 (cpy (μ b0) (μ b1) sp dp n)) b1 (0, n1) = .inl (G.2.2.1, n1, Sum.inl (fun j => Int32.ofInt (wa μ b1 (cpy (μ b0) (μ b1) sp dp n) b1 j))) := rfl
    rw [hF, wa_c]
    rw [show (fun j : Nat => Int32.ofInt (cpy (μ b0) (μ b1) sp dp n j)) = va_cpy (fun j : Nat => Int32.ofInt (μ b0 j)) (fun j : Nat => Int32.ofInt (μ b1 j)) (Int32.ofInt sp).toNatClampNeg (Int32.ofInt dp).toNatClampNeg (Int32.ofInt n).toNatClampNeg from funext fun j => by
      rw [i32_clamp h1 (by omega), i32_clamp h2 (by omega), i32_clamp h3 (by omega)]
      unfold va_cpy cpy
      by_cases hj : dp.toNat ≤ j ∧ j < dp.toNat + n.toNat
      · rw [if_pos hj, if_pos (by omega)]
        congr 2
        omega
      · rw [if_neg hj, if_neg (by omega)]]
    exact hP1
end
