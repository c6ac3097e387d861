section
-- ===== PART A: goes FIRST, ahead of the names: the tables' words, and 'selects' of the private methods out of them =====
/-- a private method of a class that the tables say can be made, by its rows of tables_1 -/
def lw_okq (q : MethodName × Nat) : Prop := (q.1.cls ≠ "java/lang/invoke/MethodHandle" ∧ q.1.cls ≠ "java/lang/invoke/VarHandle") ∧ Cond.instantiable q.1.cls q.2 ∈ tables_1 ∧ Cond.privateMethod q.1 ∈ tables_1 ∧ Cond.instanceMethod q.1 ∈ tables_1
theorem lw_p0 : lw_okq (⟨"PoleLogs", "sumOf", "([II)I"⟩, 18) := ⟨⟨by decide +kernel, by decide +kernel⟩, List.mem_of_getElem? (i := 18) (by decide +kernel), List.mem_of_getElem? (i := 321) (by decide +kernel), List.mem_of_getElem? (i := 322) (by decide +kernel)⟩
theorem lw_p1 : lw_okq (⟨"PoleLogs", "addRow", "(III)LPoleLogs$Row;"⟩, 18) := ⟨⟨by decide +kernel, by decide +kernel⟩, List.mem_of_getElem? (i := 18) (by decide +kernel), List.mem_of_getElem? (i := 340) (by decide +kernel), List.mem_of_getElem? (i := 341) (by decide +kernel)⟩
theorem lw_p2 : lw_okq (⟨"PoleLogs", "addHeight", "(IIIII)I"⟩, 18) := ⟨⟨by decide +kernel, by decide +kernel⟩, List.mem_of_getElem? (i := 18) (by decide +kernel), List.mem_of_getElem? (i := 402) (by decide +kernel), List.mem_of_getElem? (i := 403) (by decide +kernel)⟩
theorem lw_p3 : lw_okq (⟨"PoleLogs", "isRow", "(I)Z"⟩, 18) := ⟨⟨by decide +kernel, by decide +kernel⟩, List.mem_of_getElem? (i := 18) (by decide +kernel), List.mem_of_getElem? (i := 433) (by decide +kernel), List.mem_of_getElem? (i := 434) (by decide +kernel)⟩
theorem lw_p4 : lw_okq (⟨"PoleLogs$Way", "marchOf", "(I)LPoleLogs$Row;"⟩, 5) := ⟨⟨by decide +kernel, by decide +kernel⟩, List.mem_of_getElem? (i := 123) (by decide +kernel), List.mem_of_getElem? (i := 446) (by decide +kernel), List.mem_of_getElem? (i := 447) (by decide +kernel)⟩
theorem lw_p5 : lw_okq (⟨"PoleLogs", "agrees", "(LPoleLogs$Row;II)Z"⟩, 18) := ⟨⟨by decide +kernel, by decide +kernel⟩, List.mem_of_getElem? (i := 18) (by decide +kernel), List.mem_of_getElem? (i := 468) (by decide +kernel), List.mem_of_getElem? (i := 469) (by decide +kernel)⟩
theorem lw_p6 : lw_okq (⟨"PoleLogs", "pictureAgrees", "(LPoleLogs$Row;I)Z"⟩, 18) := ⟨⟨by decide +kernel, by decide +kernel⟩, List.mem_of_getElem? (i := 18) (by decide +kernel), List.mem_of_getElem? (i := 500) (by decide +kernel), List.mem_of_getElem? (i := 501) (by decide +kernel)⟩
theorem lw_p7 : lw_okq (⟨"PoleLogs", "heightAgrees", "(LPoleLogs$Row;I)Z"⟩, 18) := ⟨⟨by decide +kernel, by decide +kernel⟩, List.mem_of_getElem? (i := 18) (by decide +kernel), List.mem_of_getElem? (i := 504) (by decide +kernel), List.mem_of_getElem? (i := 505) (by decide +kernel)⟩
theorem lw_p8 : lw_okq (⟨"PoleLogs", "quarrelBy", "(II)I"⟩, 18) := ⟨⟨by decide +kernel, by decide +kernel⟩, List.mem_of_getElem? (i := 18) (by decide +kernel), List.mem_of_getElem? (i := 540) (by decide +kernel), List.mem_of_getElem? (i := 541) (by decide +kernel)⟩
theorem lw_p9 : lw_okq (⟨"PoleLogs", "driftNeededX", "(LPoleLogs$Log;)I"⟩, 18) := ⟨⟨by decide +kernel, by decide +kernel⟩, List.mem_of_getElem? (i := 18) (by decide +kernel), List.mem_of_getElem? (i := 570) (by decide +kernel), List.mem_of_getElem? (i := 571) (by decide +kernel)⟩
theorem lw_p10 : lw_okq (⟨"PoleLogs", "driftNeededY", "(LPoleLogs$Log;)I"⟩, 18) := ⟨⟨by decide +kernel, by decide +kernel⟩, List.mem_of_getElem? (i := 18) (by decide +kernel), List.mem_of_getElem? (i := 577) (by decide +kernel), List.mem_of_getElem? (i := 578) (by decide +kernel)⟩
theorem lw_p11 : lw_okq (⟨"PoleLogs", "falseRows", "(III)I"⟩, 18) := ⟨⟨by decide +kernel, by decide +kernel⟩, List.mem_of_getElem? (i := 18) (by decide +kernel), List.mem_of_getElem? (i := 592) (by decide +kernel), List.mem_of_getElem? (i := 593) (by decide +kernel)⟩
theorem lw_p12 : lw_okq (⟨"PoleLogs", "agreesInStory", "(LPoleLogs$Row;II)Z"⟩, 18) := ⟨⟨by decide +kernel, by decide +kernel⟩, List.mem_of_getElem? (i := 18) (by decide +kernel), List.mem_of_getElem? (i := 597) (by decide +kernel), List.mem_of_getElem? (i := 598) (by decide +kernel)⟩
theorem lw_p13 : lw_okq (⟨"PoleLogs", "storyX", "(ILPoleLogs$Log;I)I"⟩, 18) := ⟨⟨by decide +kernel, by decide +kernel⟩, List.mem_of_getElem? (i := 18) (by decide +kernel), List.mem_of_getElem? (i := 601) (by decide +kernel), List.mem_of_getElem? (i := 602) (by decide +kernel)⟩
theorem lw_p14 : lw_okq (⟨"PoleLogs", "storyY", "(ILPoleLogs$Log;II)I"⟩, 18) := ⟨⟨by decide +kernel, by decide +kernel⟩, List.mem_of_getElem? (i := 18) (by decide +kernel), List.mem_of_getElem? (i := 605) (by decide +kernel), List.mem_of_getElem? (i := 606) (by decide +kernel)⟩
theorem lw_p15 : lw_okq (⟨"PoleLogs", "showingMisprint", "(I)I"⟩, 18) := ⟨⟨by decide +kernel, by decide +kernel⟩, List.mem_of_getElem? (i := 18) (by decide +kernel), List.mem_of_getElem? (i := 622) (by decide +kernel), List.mem_of_getElem? (i := 623) (by decide +kernel)⟩
def lw_privs_1 : List (MethodName × Nat) := [(⟨"PoleLogs", "sumOf", "([II)I"⟩, 18), (⟨"PoleLogs", "addRow", "(III)LPoleLogs$Row;"⟩, 18), (⟨"PoleLogs", "addHeight", "(IIIII)I"⟩, 18), (⟨"PoleLogs", "isRow", "(I)Z"⟩, 18), (⟨"PoleLogs$Way", "marchOf", "(I)LPoleLogs$Row;"⟩, 5), (⟨"PoleLogs", "agrees", "(LPoleLogs$Row;II)Z"⟩, 18), (⟨"PoleLogs", "pictureAgrees", "(LPoleLogs$Row;I)Z"⟩, 18), (⟨"PoleLogs", "heightAgrees", "(LPoleLogs$Row;I)Z"⟩, 18), (⟨"PoleLogs", "quarrelBy", "(II)I"⟩, 18), (⟨"PoleLogs", "driftNeededX", "(LPoleLogs$Log;)I"⟩, 18), (⟨"PoleLogs", "driftNeededY", "(LPoleLogs$Log;)I"⟩, 18), (⟨"PoleLogs", "falseRows", "(III)I"⟩, 18), (⟨"PoleLogs", "agreesInStory", "(LPoleLogs$Row;II)Z"⟩, 18), (⟨"PoleLogs", "storyX", "(ILPoleLogs$Log;I)I"⟩, 18), (⟨"PoleLogs", "storyY", "(ILPoleLogs$Log;II)I"⟩, 18), (⟨"PoleLogs", "showingMisprint", "(I)I"⟩, 18)]
theorem lw_r1 : ∀ q ∈ lw_privs_1, lw_okq q := List.forall_mem_cons.mpr ⟨lw_p0, List.forall_mem_cons.mpr ⟨lw_p1, List.forall_mem_cons.mpr ⟨lw_p2, List.forall_mem_cons.mpr ⟨lw_p3, List.forall_mem_cons.mpr ⟨lw_p4, List.forall_mem_cons.mpr ⟨lw_p5, List.forall_mem_cons.mpr ⟨lw_p6, List.forall_mem_cons.mpr ⟨lw_p7, List.forall_mem_cons.mpr ⟨lw_p8, List.forall_mem_cons.mpr ⟨lw_p9, List.forall_mem_cons.mpr ⟨lw_p10, List.forall_mem_cons.mpr ⟨lw_p11, List.forall_mem_cons.mpr ⟨lw_p12, List.forall_mem_cons.mpr ⟨lw_p13, List.forall_mem_cons.mpr ⟨lw_p14, List.forall_mem_cons.mpr ⟨lw_p15, fun _ h => absurd h List.not_mem_nil⟩⟩⟩⟩⟩⟩⟩⟩⟩⟩⟩⟩⟩⟩⟩⟩
theorem lw_p16 : lw_okq (⟨"PoleLogs", "madeAtHome", "(II)I"⟩, 18) := ⟨⟨by decide +kernel, by decide +kernel⟩, List.mem_of_getElem? (i := 18) (by decide +kernel), List.mem_of_getElem? (i := 635) (by decide +kernel), List.mem_of_getElem? (i := 636) (by decide +kernel)⟩
theorem lw_p17 : lw_okq (⟨"PoleLogs$Reader", "readAll", "([II)Z"⟩, 5) := ⟨⟨by decide +kernel, by decide +kernel⟩, List.mem_of_getElem? (i := 149) (by decide +kernel), List.mem_of_getElem? (i := 655) (by decide +kernel), List.mem_of_getElem? (i := 656) (by decide +kernel)⟩
theorem lw_p18 : lw_okq (⟨"PoleLogs$Reader", "either", "(I)Z"⟩, 5) := ⟨⟨by decide +kernel, by decide +kernel⟩, List.mem_of_getElem? (i := 149) (by decide +kernel), List.mem_of_getElem? (i := 660) (by decide +kernel), List.mem_of_getElem? (i := 661) (by decide +kernel)⟩
theorem lw_p19 : lw_okq (⟨"PoleLogs$Reader", "both", "(I)Z"⟩, 5) := ⟨⟨by decide +kernel, by decide +kernel⟩, List.mem_of_getElem? (i := 149) (by decide +kernel), List.mem_of_getElem? (i := 664) (by decide +kernel), List.mem_of_getElem? (i := 665) (by decide +kernel)⟩
theorem lw_p20 : lw_okq (⟨"PoleLogs$Reader", "one", "(I)Z"⟩, 5) := ⟨⟨by decide +kernel, by decide +kernel⟩, List.mem_of_getElem? (i := 149) (by decide +kernel), List.mem_of_getElem? (i := 668) (by decide +kernel), List.mem_of_getElem? (i := 669) (by decide +kernel)⟩
theorem lw_p21 : lw_okq (⟨"PoleLogs$Reader", "coming", "()I"⟩, 5) := ⟨⟨by decide +kernel, by decide +kernel⟩, List.mem_of_getElem? (i := 149) (by decide +kernel), List.mem_of_getElem? (i := 672) (by decide +kernel), List.mem_of_getElem? (i := 673) (by decide +kernel)⟩
theorem lw_p22 : lw_okq (⟨"PoleLogs$Reader", "test", "()Z"⟩, 5) := ⟨⟨by decide +kernel, by decide +kernel⟩, List.mem_of_getElem? (i := 149) (by decide +kernel), List.mem_of_getElem? (i := 676) (by decide +kernel), List.mem_of_getElem? (i := 677) (by decide +kernel)⟩
theorem lw_p23 : lw_okq (⟨"PoleLogs$Reader", "number", "()I"⟩, 5) := ⟨⟨by decide +kernel, by decide +kernel⟩, List.mem_of_getElem? (i := 149) (by decide +kernel), List.mem_of_getElem? (i := 683) (by decide +kernel), List.mem_of_getElem? (i := 684) (by decide +kernel)⟩
theorem lw_p24 : lw_okq (⟨"PoleLogs", "lawIn", "(II)LPoleLogs$Law;"⟩, 18) := ⟨⟨by decide +kernel, by decide +kernel⟩, List.mem_of_getElem? (i := 18) (by decide +kernel), List.mem_of_getElem? (i := 726) (by decide +kernel), List.mem_of_getElem? (i := 727) (by decide +kernel)⟩
theorem lw_p25 : lw_okq (⟨"PoleLogs", "tally", "(II[I)V"⟩, 18) := ⟨⟨by decide +kernel, by decide +kernel⟩, List.mem_of_getElem? (i := 18) (by decide +kernel), List.mem_of_getElem? (i := 730) (by decide +kernel), List.mem_of_getElem? (i := 731) (by decide +kernel)⟩
theorem lw_p26 : lw_okq (⟨"PoleLogs$Looks", "leftBehind", "(II)I"⟩, 3) := ⟨⟨by decide +kernel, by decide +kernel⟩, List.mem_of_getElem? (i := 174) (by decide +kernel), List.mem_of_getElem? (i := 750) (by decide +kernel), List.mem_of_getElem? (i := 751) (by decide +kernel)⟩
theorem lw_p27 : lw_okq (⟨"PoleLogs$Acts", "from", "(IILPoleLogs$Row;II)I"⟩, 2) := ⟨⟨by decide +kernel, by decide +kernel⟩, List.mem_of_getElem? (i := 198) (by decide +kernel), List.mem_of_getElem? (i := 788) (by decide +kernel), List.mem_of_getElem? (i := 789) (by decide +kernel)⟩
theorem lw_p28 : lw_okq (⟨"PoleLogs$Acts", "run", "(IILPoleLogs$Row;II)I"⟩, 2) := ⟨⟨by decide +kernel, by decide +kernel⟩, List.mem_of_getElem? (i := 198) (by decide +kernel), List.mem_of_getElem? (i := 796) (by decide +kernel), List.mem_of_getElem? (i := 797) (by decide +kernel)⟩
theorem lw_p29 : lw_okq (⟨"PoleLogsModel", "in", "(III)Z"⟩, 59) := ⟨⟨by decide +kernel, by decide +kernel⟩, List.mem_of_getElem? (i := 858) (by decide +kernel), List.mem_of_getElem? (i := 856) (by decide +kernel), List.mem_of_getElem? (i := 857) (by decide +kernel)⟩
theorem lw_p30 : lw_okq (⟨"PoleLogsModel", "isDay", "(I)Z"⟩, 59) := ⟨⟨by decide +kernel, by decide +kernel⟩, List.mem_of_getElem? (i := 858) (by decide +kernel), List.mem_of_getElem? (i := 873) (by decide +kernel), List.mem_of_getElem? (i := 874) (by decide +kernel)⟩
theorem lw_p31 : lw_okq (⟨"PoleLogsModel", "isLog", "(I)Z"⟩, 59) := ⟨⟨by decide +kernel, by decide +kernel⟩, List.mem_of_getElem? (i := 858) (by decide +kernel), List.mem_of_getElem? (i := 885) (by decide +kernel), List.mem_of_getElem? (i := 886) (by decide +kernel)⟩
def lw_privs_2 : List (MethodName × Nat) := [(⟨"PoleLogs", "madeAtHome", "(II)I"⟩, 18), (⟨"PoleLogs$Reader", "readAll", "([II)Z"⟩, 5), (⟨"PoleLogs$Reader", "either", "(I)Z"⟩, 5), (⟨"PoleLogs$Reader", "both", "(I)Z"⟩, 5), (⟨"PoleLogs$Reader", "one", "(I)Z"⟩, 5), (⟨"PoleLogs$Reader", "coming", "()I"⟩, 5), (⟨"PoleLogs$Reader", "test", "()Z"⟩, 5), (⟨"PoleLogs$Reader", "number", "()I"⟩, 5), (⟨"PoleLogs", "lawIn", "(II)LPoleLogs$Law;"⟩, 18), (⟨"PoleLogs", "tally", "(II[I)V"⟩, 18), (⟨"PoleLogs$Looks", "leftBehind", "(II)I"⟩, 3), (⟨"PoleLogs$Acts", "from", "(IILPoleLogs$Row;II)I"⟩, 2), (⟨"PoleLogs$Acts", "run", "(IILPoleLogs$Row;II)I"⟩, 2), (⟨"PoleLogsModel", "in", "(III)Z"⟩, 59), (⟨"PoleLogsModel", "isDay", "(I)Z"⟩, 59), (⟨"PoleLogsModel", "isLog", "(I)Z"⟩, 59)]
theorem lw_r2 : ∀ q ∈ lw_privs_2, lw_okq q := List.forall_mem_cons.mpr ⟨lw_p16, List.forall_mem_cons.mpr ⟨lw_p17, List.forall_mem_cons.mpr ⟨lw_p18, List.forall_mem_cons.mpr ⟨lw_p19, List.forall_mem_cons.mpr ⟨lw_p20, List.forall_mem_cons.mpr ⟨lw_p21, List.forall_mem_cons.mpr ⟨lw_p22, List.forall_mem_cons.mpr ⟨lw_p23, List.forall_mem_cons.mpr ⟨lw_p24, List.forall_mem_cons.mpr ⟨lw_p25, List.forall_mem_cons.mpr ⟨lw_p26, List.forall_mem_cons.mpr ⟨lw_p27, List.forall_mem_cons.mpr ⟨lw_p28, List.forall_mem_cons.mpr ⟨lw_p29, List.forall_mem_cons.mpr ⟨lw_p30, List.forall_mem_cons.mpr ⟨lw_p31, fun _ h => absurd h List.not_mem_nil⟩⟩⟩⟩⟩⟩⟩⟩⟩⟩⟩⟩⟩⟩⟩⟩
theorem lw_p32 : lw_okq (⟨"PoleLogsModel", "isPlace", "(II)Z"⟩, 59) := ⟨⟨by decide +kernel, by decide +kernel⟩, List.mem_of_getElem? (i := 858) (by decide +kernel), List.mem_of_getElem? (i := 893) (by decide +kernel), List.mem_of_getElem? (i := 894) (by decide +kernel)⟩
theorem lw_p33 : lw_okq (⟨"PoleLogsModel", "marchOf", "(III)I"⟩, 59) := ⟨⟨by decide +kernel, by decide +kernel⟩, List.mem_of_getElem? (i := 858) (by decide +kernel), List.mem_of_getElem? (i := 905) (by decide +kernel), List.mem_of_getElem? (i := 906) (by decide +kernel)⟩
theorem lw_p34 : lw_okq (⟨"PoleLogsModel", "add", "(IIIIIII)I"⟩, 59) := ⟨⟨by decide +kernel, by decide +kernel⟩, List.mem_of_getElem? (i := 858) (by decide +kernel), List.mem_of_getElem? (i := 910) (by decide +kernel), List.mem_of_getElem? (i := 911) (by decide +kernel)⟩
theorem lw_p35 : lw_okq (⟨"PoleLogsModel", "isTape", "(I)Z"⟩, 59) := ⟨⟨by decide +kernel, by decide +kernel⟩, List.mem_of_getElem? (i := 858) (by decide +kernel), List.mem_of_getElem? (i := 934) (by decide +kernel), List.mem_of_getElem? (i := 935) (by decide +kernel)⟩
theorem lw_p36 : lw_okq (⟨"PoleLogsModel", "isRow", "(I)Z"⟩, 59) := ⟨⟨by decide +kernel, by decide +kernel⟩, List.mem_of_getElem? (i := 858) (by decide +kernel), List.mem_of_getElem? (i := 942) (by decide +kernel), List.mem_of_getElem? (i := 943) (by decide +kernel)⟩
theorem lw_p37 : lw_okq (⟨"PoleLogsModel", "isYear", "(I)Z"⟩, 59) := ⟨⟨by decide +kernel, by decide +kernel⟩, List.mem_of_getElem? (i := 858) (by decide +kernel), List.mem_of_getElem? (i := 950) (by decide +kernel), List.mem_of_getElem? (i := 951) (by decide +kernel)⟩
theorem lw_p38 : lw_okq (⟨"PoleLogsModel", "findWay", "(II)V"⟩, 59) := ⟨⟨by decide +kernel, by decide +kernel⟩, List.mem_of_getElem? (i := 858) (by decide +kernel), List.mem_of_getElem? (i := 954) (by decide +kernel), List.mem_of_getElem? (i := 955) (by decide +kernel)⟩
theorem lw_p39 : lw_okq (⟨"PoleLogsModel", "keep", "(I)I"⟩, 59) := ⟨⟨by decide +kernel, by decide +kernel⟩, List.mem_of_getElem? (i := 858) (by decide +kernel), List.mem_of_getElem? (i := 958) (by decide +kernel), List.mem_of_getElem? (i := 959) (by decide +kernel)⟩
theorem lw_p40 : lw_okq (⟨"PoleLogsModel", "cellOf", "(II)I"⟩, 59) := ⟨⟨by decide +kernel, by decide +kernel⟩, List.mem_of_getElem? (i := 858) (by decide +kernel), List.mem_of_getElem? (i := 962) (by decide +kernel), List.mem_of_getElem? (i := 963) (by decide +kernel)⟩
theorem lw_p41 : lw_okq (⟨"PoleLogsModel", "canGo", "(II)I"⟩, 59) := ⟨⟨by decide +kernel, by decide +kernel⟩, List.mem_of_getElem? (i := 858) (by decide +kernel), List.mem_of_getElem? (i := 970) (by decide +kernel), List.mem_of_getElem? (i := 971) (by decide +kernel)⟩
theorem lw_p42 : lw_okq (⟨"PoleLogsModel", "beyondBy", "(I)I"⟩, 59) := ⟨⟨by decide +kernel, by decide +kernel⟩, List.mem_of_getElem? (i := 858) (by decide +kernel), List.mem_of_getElem? (i := 978) (by decide +kernel), List.mem_of_getElem? (i := 979) (by decide +kernel)⟩
theorem lw_p43 : lw_okq (⟨"PoleLogsModel", "latitudeOf", "(II)I"⟩, 59) := ⟨⟨by decide +kernel, by decide +kernel⟩, List.mem_of_getElem? (i := 858) (by decide +kernel), List.mem_of_getElem? (i := 986) (by decide +kernel), List.mem_of_getElem? (i := 987) (by decide +kernel)⟩
theorem lw_p44 : lw_okq (⟨"PoleLogsModel", "abs", "(I)I"⟩, 59) := ⟨⟨by decide +kernel, by decide +kernel⟩, List.mem_of_getElem? (i := 858) (by decide +kernel), List.mem_of_getElem? (i := 990) (by decide +kernel), List.mem_of_getElem? (i := 991) (by decide +kernel)⟩
theorem lw_p45 : lw_okq (⟨"PoleLogsModel", "isFit", "(IIII)Z"⟩, 59) := ⟨⟨by decide +kernel, by decide +kernel⟩, List.mem_of_getElem? (i := 858) (by decide +kernel), List.mem_of_getElem? (i := 998) (by decide +kernel), List.mem_of_getElem? (i := 999) (by decide +kernel)⟩
theorem lw_p46 : lw_okq (⟨"PoleLogsModel", "isHeight", "(I)Z"⟩, 59) := ⟨⟨by decide +kernel, by decide +kernel⟩, List.mem_of_getElem? (i := 858) (by decide +kernel), List.mem_of_getElem? (i := 1002) (by decide +kernel), List.mem_of_getElem? (i := 1003) (by decide +kernel)⟩
theorem lw_p47 : lw_okq (⟨"PoleLogsModel", "middle", "(I)I"⟩, 59) := ⟨⟨by decide +kernel, by decide +kernel⟩, List.mem_of_getElem? (i := 858) (by decide +kernel), List.mem_of_getElem? (i := 1006) (by decide +kernel), List.mem_of_getElem? (i := 1007) (by decide +kernel)⟩
def lw_privs_3 : List (MethodName × Nat) := [(⟨"PoleLogsModel", "isPlace", "(II)Z"⟩, 59), (⟨"PoleLogsModel", "marchOf", "(III)I"⟩, 59), (⟨"PoleLogsModel", "add", "(IIIIIII)I"⟩, 59), (⟨"PoleLogsModel", "isTape", "(I)Z"⟩, 59), (⟨"PoleLogsModel", "isRow", "(I)Z"⟩, 59), (⟨"PoleLogsModel", "isYear", "(I)Z"⟩, 59), (⟨"PoleLogsModel", "findWay", "(II)V"⟩, 59), (⟨"PoleLogsModel", "keep", "(I)I"⟩, 59), (⟨"PoleLogsModel", "cellOf", "(II)I"⟩, 59), (⟨"PoleLogsModel", "canGo", "(II)I"⟩, 59), (⟨"PoleLogsModel", "beyondBy", "(I)I"⟩, 59), (⟨"PoleLogsModel", "latitudeOf", "(II)I"⟩, 59), (⟨"PoleLogsModel", "abs", "(I)I"⟩, 59), (⟨"PoleLogsModel", "isFit", "(IIII)Z"⟩, 59), (⟨"PoleLogsModel", "isHeight", "(I)Z"⟩, 59), (⟨"PoleLogsModel", "middle", "(I)I"⟩, 59)]
theorem lw_r3 : ∀ q ∈ lw_privs_3, lw_okq q := List.forall_mem_cons.mpr ⟨lw_p32, List.forall_mem_cons.mpr ⟨lw_p33, List.forall_mem_cons.mpr ⟨lw_p34, List.forall_mem_cons.mpr ⟨lw_p35, List.forall_mem_cons.mpr ⟨lw_p36, List.forall_mem_cons.mpr ⟨lw_p37, List.forall_mem_cons.mpr ⟨lw_p38, List.forall_mem_cons.mpr ⟨lw_p39, List.forall_mem_cons.mpr ⟨lw_p40, List.forall_mem_cons.mpr ⟨lw_p41, List.forall_mem_cons.mpr ⟨lw_p42, List.forall_mem_cons.mpr ⟨lw_p43, List.forall_mem_cons.mpr ⟨lw_p44, List.forall_mem_cons.mpr ⟨lw_p45, List.forall_mem_cons.mpr ⟨lw_p46, List.forall_mem_cons.mpr ⟨lw_p47, fun _ h => absurd h List.not_mem_nil⟩⟩⟩⟩⟩⟩⟩⟩⟩⟩⟩⟩⟩⟩⟩⟩
theorem lw_p48 : lw_okq (⟨"PoleLogsModel", "quarrelOf", "(II)I"⟩, 59) := ⟨⟨by decide +kernel, by decide +kernel⟩, List.mem_of_getElem? (i := 858) (by decide +kernel), List.mem_of_getElem? (i := 1014) (by decide +kernel), List.mem_of_getElem? (i := 1015) (by decide +kernel)⟩
theorem lw_p49 : lw_okq (⟨"PoleLogsModel", "findNeeds", "(I)V"⟩, 59) := ⟨⟨by decide +kernel, by decide +kernel⟩, List.mem_of_getElem? (i := 858) (by decide +kernel), List.mem_of_getElem? (i := 1026) (by decide +kernel), List.mem_of_getElem? (i := 1027) (by decide +kernel)⟩
theorem lw_p50 : lw_okq (⟨"PoleLogsModel", "down", "(II)I"⟩, 59) := ⟨⟨by decide +kernel, by decide +kernel⟩, List.mem_of_getElem? (i := 858) (by decide +kernel), List.mem_of_getElem? (i := 1030) (by decide +kernel), List.mem_of_getElem? (i := 1031) (by decide +kernel)⟩
theorem lw_p51 : lw_okq (⟨"PoleLogsModel", "falsesOf", "(IIII)I"⟩, 59) := ⟨⟨by decide +kernel, by decide +kernel⟩, List.mem_of_getElem? (i := 858) (by decide +kernel), List.mem_of_getElem? (i := 1042) (by decide +kernel), List.mem_of_getElem? (i := 1043) (by decide +kernel)⟩
theorem lw_p52 : lw_okq (⟨"PoleLogsModel", "tellStory", "(IIII)V"⟩, 59) := ⟨⟨by decide +kernel, by decide +kernel⟩, List.mem_of_getElem? (i := 858) (by decide +kernel), List.mem_of_getElem? (i := 1046) (by decide +kernel), List.mem_of_getElem? (i := 1047) (by decide +kernel)⟩
theorem lw_p53 : lw_okq (⟨"PoleLogsModel", "madeOf", "(III)I"⟩, 59) := ⟨⟨by decide +kernel, by decide +kernel⟩, List.mem_of_getElem? (i := 858) (by decide +kernel), List.mem_of_getElem? (i := 1246) (by decide +kernel), List.mem_of_getElem? (i := 1247) (by decide +kernel)⟩
theorem lw_p54 : lw_okq (⟨"PoleLogsModel", "goes", "(I)Z"⟩, 59) := ⟨⟨by decide +kernel, by decide +kernel⟩, List.mem_of_getElem? (i := 858) (by decide +kernel), List.mem_of_getElem? (i := 1258) (by decide +kernel), List.mem_of_getElem? (i := 1259) (by decide +kernel)⟩
theorem lw_p55 : lw_okq (⟨"PoleLogsModel", "byteAt", "()I"⟩, 59) := ⟨⟨by decide +kernel, by decide +kernel⟩, List.mem_of_getElem? (i := 858) (by decide +kernel), List.mem_of_getElem? (i := 1262) (by decide +kernel), List.mem_of_getElem? (i := 1263) (by decide +kernel)⟩
theorem lw_p56 : lw_okq (⟨"PoleLogsModel", "takesTest", "()Z"⟩, 59) := ⟨⟨by decide +kernel, by decide +kernel⟩, List.mem_of_getElem? (i := 858) (by decide +kernel), List.mem_of_getElem? (i := 1266) (by decide +kernel), List.mem_of_getElem? (i := 1267) (by decide +kernel)⟩
theorem lw_p57 : lw_okq (⟨"PoleLogsModel", "factOf", "(I)I"⟩, 59) := ⟨⟨by decide +kernel, by decide +kernel⟩, List.mem_of_getElem? (i := 858) (by decide +kernel), List.mem_of_getElem? (i := 1270) (by decide +kernel), List.mem_of_getElem? (i := 1271) (by decide +kernel)⟩
theorem lw_p58 : lw_okq (⟨"PoleLogsModel", "isDigit", "()Z"⟩, 59) := ⟨⟨by decide +kernel, by decide +kernel⟩, List.mem_of_getElem? (i := 858) (by decide +kernel), List.mem_of_getElem? (i := 1274) (by decide +kernel), List.mem_of_getElem? (i := 1275) (by decide +kernel)⟩
theorem lw_p59 : lw_okq (⟨"PoleLogsModel", "push", "(Z)V"⟩, 59) := ⟨⟨by decide +kernel, by decide +kernel⟩, List.mem_of_getElem? (i := 858) (by decide +kernel), List.mem_of_getElem? (i := 1278) (by decide +kernel), List.mem_of_getElem? (i := 1279) (by decide +kernel)⟩
theorem lw_p60 : lw_okq (⟨"PoleLogsModel", "settle", "(I)V"⟩, 59) := ⟨⟨by decide +kernel, by decide +kernel⟩, List.mem_of_getElem? (i := 858) (by decide +kernel), List.mem_of_getElem? (i := 1282) (by decide +kernel), List.mem_of_getElem? (i := 1283) (by decide +kernel)⟩
theorem lw_p61 : lw_okq (⟨"PoleLogsModel", "findFacts", "(II)V"⟩, 59) := ⟨⟨by decide +kernel, by decide +kernel⟩, List.mem_of_getElem? (i := 858) (by decide +kernel), List.mem_of_getElem? (i := 1290) (by decide +kernel), List.mem_of_getElem? (i := 1291) (by decide +kernel)⟩
theorem lw_p62 : lw_okq (⟨"PoleLogsModel", "fitting", "(III)I"⟩, 59) := ⟨⟨by decide +kernel, by decide +kernel⟩, List.mem_of_getElem? (i := 858) (by decide +kernel), List.mem_of_getElem? (i := 1294) (by decide +kernel), List.mem_of_getElem? (i := 1295) (by decide +kernel)⟩
theorem lw_p63 : lw_okq (⟨"PoleLogsModel", "isSet", "(I)Z"⟩, 59) := ⟨⟨by decide +kernel, by decide +kernel⟩, List.mem_of_getElem? (i := 858) (by decide +kernel), List.mem_of_getElem? (i := 1306) (by decide +kernel), List.mem_of_getElem? (i := 1307) (by decide +kernel)⟩
def lw_privs_4 : List (MethodName × Nat) := [(⟨"PoleLogsModel", "quarrelOf", "(II)I"⟩, 59), (⟨"PoleLogsModel", "findNeeds", "(I)V"⟩, 59), (⟨"PoleLogsModel", "down", "(II)I"⟩, 59), (⟨"PoleLogsModel", "falsesOf", "(IIII)I"⟩, 59), (⟨"PoleLogsModel", "tellStory", "(IIII)V"⟩, 59), (⟨"PoleLogsModel", "madeOf", "(III)I"⟩, 59), (⟨"PoleLogsModel", "goes", "(I)Z"⟩, 59), (⟨"PoleLogsModel", "byteAt", "()I"⟩, 59), (⟨"PoleLogsModel", "takesTest", "()Z"⟩, 59), (⟨"PoleLogsModel", "factOf", "(I)I"⟩, 59), (⟨"PoleLogsModel", "isDigit", "()Z"⟩, 59), (⟨"PoleLogsModel", "push", "(Z)V"⟩, 59), (⟨"PoleLogsModel", "settle", "(I)V"⟩, 59), (⟨"PoleLogsModel", "findFacts", "(II)V"⟩, 59), (⟨"PoleLogsModel", "fitting", "(III)I"⟩, 59), (⟨"PoleLogsModel", "isSet", "(I)Z"⟩, 59)]
theorem lw_r4 : ∀ q ∈ lw_privs_4, lw_okq q := List.forall_mem_cons.mpr ⟨lw_p48, List.forall_mem_cons.mpr ⟨lw_p49, List.forall_mem_cons.mpr ⟨lw_p50, List.forall_mem_cons.mpr ⟨lw_p51, List.forall_mem_cons.mpr ⟨lw_p52, List.forall_mem_cons.mpr ⟨lw_p53, List.forall_mem_cons.mpr ⟨lw_p54, List.forall_mem_cons.mpr ⟨lw_p55, List.forall_mem_cons.mpr ⟨lw_p56, List.forall_mem_cons.mpr ⟨lw_p57, List.forall_mem_cons.mpr ⟨lw_p58, List.forall_mem_cons.mpr ⟨lw_p59, List.forall_mem_cons.mpr ⟨lw_p60, List.forall_mem_cons.mpr ⟨lw_p61, List.forall_mem_cons.mpr ⟨lw_p62, List.forall_mem_cons.mpr ⟨lw_p63, fun _ h => absurd h List.not_mem_nil⟩⟩⟩⟩⟩⟩⟩⟩⟩⟩⟩⟩⟩⟩⟩⟩
theorem lw_p64 : lw_okq (⟨"PoleLogsModel", "worthOf", "(II)I"⟩, 59) := ⟨⟨by decide +kernel, by decide +kernel⟩, List.mem_of_getElem? (i := 858) (by decide +kernel), List.mem_of_getElem? (i := 1310) (by decide +kernel), List.mem_of_getElem? (i := 1311) (by decide +kernel)⟩
theorem lw_p65 : lw_okq (⟨"PoleLogsModel", "partBy", "(III)I"⟩, 59) := ⟨⟨by decide +kernel, by decide +kernel⟩, List.mem_of_getElem? (i := 858) (by decide +kernel), List.mem_of_getElem? (i := 1314) (by decide +kernel), List.mem_of_getElem? (i := 1315) (by decide +kernel)⟩
theorem lw_p66 : lw_okq (⟨"PoleLogsModel", "ones", "(I)I"⟩, 59) := ⟨⟨by decide +kernel, by decide +kernel⟩, List.mem_of_getElem? (i := 858) (by decide +kernel), List.mem_of_getElem? (i := 1318) (by decide +kernel), List.mem_of_getElem? (i := 1319) (by decide +kernel)⟩
theorem lw_p67 : lw_okq (⟨"PoleLogsModel", "fitsOf", "(II)I"⟩, 59) := ⟨⟨by decide +kernel, by decide +kernel⟩, List.mem_of_getElem? (i := 858) (by decide +kernel), List.mem_of_getElem? (i := 1334) (by decide +kernel), List.mem_of_getElem? (i := 1335) (by decide +kernel)⟩
theorem lw_p68 : lw_okq (⟨"PoleLogsModel", "heightFits", "(II)I"⟩, 59) := ⟨⟨by decide +kernel, by decide +kernel⟩, List.mem_of_getElem? (i := 858) (by decide +kernel), List.mem_of_getElem? (i := 1338) (by decide +kernel), List.mem_of_getElem? (i := 1339) (by decide +kernel)⟩
theorem lw_p69 : lw_okq (⟨"PoleLogsModel", "body", "(I)V"⟩, 59) := ⟨⟨by decide +kernel, by decide +kernel⟩, List.mem_of_getElem? (i := 858) (by decide +kernel), List.mem_of_getElem? (i := 1342) (by decide +kernel), List.mem_of_getElem? (i := 1343) (by decide +kernel)⟩
theorem lw_p70 : lw_okq (⟨"PoleLogsModel", "plainFits", "(II)I"⟩, 59) := ⟨⟨by decide +kernel, by decide +kernel⟩, List.mem_of_getElem? (i := 858) (by decide +kernel), List.mem_of_getElem? (i := 1346) (by decide +kernel), List.mem_of_getElem? (i := 1347) (by decide +kernel)⟩
theorem lw_p71 : lw_okq (⟨"PoleLogsModel", "hangsOf", "(II)I"⟩, 59) := ⟨⟨by decide +kernel, by decide +kernel⟩, List.mem_of_getElem? (i := 858) (by decide +kernel), List.mem_of_getElem? (i := 1350) (by decide +kernel), List.mem_of_getElem? (i := 1351) (by decide +kernel)⟩
theorem lw_p72 : lw_okq (⟨"PoleLogsModel", "plainHangs", "(II)I"⟩, 59) := ⟨⟨by decide +kernel, by decide +kernel⟩, List.mem_of_getElem? (i := 858) (by decide +kernel), List.mem_of_getElem? (i := 1354) (by decide +kernel), List.mem_of_getElem? (i := 1355) (by decide +kernel)⟩
theorem lw_p73 : lw_okq (⟨"PoleLogsModel", "showsOf", "(II)I"⟩, 59) := ⟨⟨by decide +kernel, by decide +kernel⟩, List.mem_of_getElem? (i := 858) (by decide +kernel), List.mem_of_getElem? (i := 1358) (by decide +kernel), List.mem_of_getElem? (i := 1359) (by decide +kernel)⟩
theorem lw_p74 : lw_okq (⟨"PoleLogsModel", "heightShows", "(II)I"⟩, 59) := ⟨⟨by decide +kernel, by decide +kernel⟩, List.mem_of_getElem? (i := 858) (by decide +kernel), List.mem_of_getElem? (i := 1362) (by decide +kernel), List.mem_of_getElem? (i := 1363) (by decide +kernel)⟩
theorem lw_p75 : lw_okq (⟨"PoleLogsModel", "plainShows", "(II)I"⟩, 59) := ⟨⟨by decide +kernel, by decide +kernel⟩, List.mem_of_getElem? (i := 858) (by decide +kernel), List.mem_of_getElem? (i := 1366) (by decide +kernel), List.mem_of_getElem? (i := 1367) (by decide +kernel)⟩
def lw_privs_5 : List (MethodName × Nat) := [(⟨"PoleLogsModel", "worthOf", "(II)I"⟩, 59), (⟨"PoleLogsModel", "partBy", "(III)I"⟩, 59), (⟨"PoleLogsModel", "ones", "(I)I"⟩, 59), (⟨"PoleLogsModel", "fitsOf", "(II)I"⟩, 59), (⟨"PoleLogsModel", "heightFits", "(II)I"⟩, 59), (⟨"PoleLogsModel", "body", "(I)V"⟩, 59), (⟨"PoleLogsModel", "plainFits", "(II)I"⟩, 59), (⟨"PoleLogsModel", "hangsOf", "(II)I"⟩, 59), (⟨"PoleLogsModel", "plainHangs", "(II)I"⟩, 59), (⟨"PoleLogsModel", "showsOf", "(II)I"⟩, 59), (⟨"PoleLogsModel", "heightShows", "(II)I"⟩, 59), (⟨"PoleLogsModel", "plainShows", "(II)I"⟩, 59)]
theorem lw_r5 : ∀ q ∈ lw_privs_5, lw_okq q := List.forall_mem_cons.mpr ⟨lw_p64, List.forall_mem_cons.mpr ⟨lw_p65, List.forall_mem_cons.mpr ⟨lw_p66, List.forall_mem_cons.mpr ⟨lw_p67, List.forall_mem_cons.mpr ⟨lw_p68, List.forall_mem_cons.mpr ⟨lw_p69, List.forall_mem_cons.mpr ⟨lw_p70, List.forall_mem_cons.mpr ⟨lw_p71, List.forall_mem_cons.mpr ⟨lw_p72, List.forall_mem_cons.mpr ⟨lw_p73, List.forall_mem_cons.mpr ⟨lw_p74, List.forall_mem_cons.mpr ⟨lw_p75, fun _ h => absurd h List.not_mem_nil⟩⟩⟩⟩⟩⟩⟩⟩⟩⟩⟩⟩
def lw_privs : List (MethodName × Nat) := lw_privs_1 ++ (lw_privs_2 ++ (lw_privs_3 ++ (lw_privs_4 ++ (lw_privs_5))))
def lw_tbl : List Cond := k2_sels lw_privs ++ tables_1
theorem lw_privs_ok : ∀ q ∈ lw_privs, lw_okq q := by
  show ∀ q ∈ lw_privs_1 ++ (lw_privs_2 ++ (lw_privs_3 ++ (lw_privs_4 ++ (lw_privs_5)))), lw_okq q
  exact List.forall_mem_append.mpr ⟨lw_r1, List.forall_mem_append.mpr ⟨lw_r2, List.forall_mem_append.mpr ⟨lw_r3, List.forall_mem_append.mpr ⟨lw_r4, lw_r5⟩⟩⟩⟩
end
section
def RX0 : String := "PoleLogs$Acts"
def TX0 : u_T := fun k => match k with
  | 0 => ("PoleLogs$Acts", "kept", "[I", true)
  | _ => ("PoleLogs$Acts", "ran", "I", false)
def tyX0 : Nat → FieldType := fun k => match k with
  | 0 => .array .int
  | _ => .int
theorem nmX0 : ∀ a, a < 2 → ∀ b, b < 2 → a ≠ b → (TX0 a).2.1 ≠ (TX0 b).2.1 := by decide +kernel
theorem tyX0_ok : ∀ k, k < 2 → parseFieldDescriptor (TX0 k).2.2.1 = some (tyX0 k) := by decide +kernel
abbrev cX0_init : ByteArray := prog_2_method_1_code
def yX0_init : MethodName := ⟨RX0, "<init>", "()V"⟩
abbrev cX0_perform : ByteArray := prog_2_method_2_code
def yX0_perform : MethodName := ⟨RX0, "perform", "(LPoleLogs$Row;II)I"⟩
abbrev cX0_from : ByteArray := prog_2_method_3_code
def yX0_from : MethodName := ⟨RX0, "from", "(IILPoleLogs$Row;II)I"⟩
abbrev cX0_run : ByteArray := prog_2_method_4_code
def yX0_run : MethodName := ⟨RX0, "run", "(IILPoleLogs$Row;II)I"⟩
def RX1 : String := "PoleLogs$Almanac"
def TX1 : u_T := fun k => match k with
  | 0 => ("PoleLogs$Almanac", "suns", "[I", true)
  | _ => ("PoleLogs$Almanac", "misprints", "[I", true)
def tyX1 : Nat → FieldType := fun k => match k with
  | 0 => .array .int
  | _ => .array .int
theorem nmX1 : ∀ a, a < 2 → ∀ b, b < 2 → a ≠ b → (TX1 a).2.1 ≠ (TX1 b).2.1 := by decide +kernel
theorem tyX1_ok : ∀ k, k < 2 → parseFieldDescriptor (TX1 k).2.2.1 = some (tyX1 k) := by decide +kernel
abbrev cX1_init : ByteArray := prog_3_method_1_code
def yX1_init : MethodName := ⟨RX1, "<init>", "()V"⟩
abbrev cX1_misprintCount : ByteArray := prog_3_method_2_code
def yX1_misprintCount : MethodName := ⟨RX1, "misprintCount", "()I"⟩
abbrev cX1_showsSun : ByteArray := prog_3_method_3_code
def yX1_showsSun : MethodName := ⟨RX1, "showsSun", "(LPoleLogs$Row;I)Z"⟩
abbrev cX1_showsMisprint : ByteArray := prog_3_method_4_code
def yX1_showsMisprint : MethodName := ⟨RX1, "showsMisprint", "(LPoleLogs$Row;I)Z"⟩
def RX2 : String := "PoleLogs$Ice"
def TX2 : u_T := fun k => match k with
  | 0 => ("PoleLogs$Ice", "driftX", "[I", true)
  | 1 => ("PoleLogs$Ice", "driftY", "[I", true)
  | 2 => ("PoleLogs$Ice", "ridge", "[I", true)
  | _ => ("PoleLogs$Ice", "turn", "[I", true)
def tyX2 : Nat → FieldType := fun k => match k with
  | 0 => .array .int
  | 1 => .array .int
  | 2 => .array .int
  | _ => .array .int
theorem nmX2 : ∀ a, a < 4 → ∀ b, b < 4 → a ≠ b → (TX2 a).2.1 ≠ (TX2 b).2.1 := by decide +kernel
theorem tyX2_ok : ∀ k, k < 4 → parseFieldDescriptor (TX2 k).2.2.1 = some (tyX2 k) := by decide +kernel
abbrev cX2_init : ByteArray := prog_4_method_1_code
def yX2_init : MethodName := ⟨RX2, "<init>", "()V"⟩
def RX3 : String := "PoleLogs$Law"
def TX3 : u_T := fun k => match k with
  | 0 => ("PoleLogs$Law", "committee", "I", true)
  | 1 => ("PoleLogs$Law", "year", "I", true)
  | _ => ("PoleLogs$Law", "text", "[I", true)
def tyX3 : Nat → FieldType := fun k => match k with
  | 0 => .int
  | 1 => .int
  | _ => .array .int
theorem nmX3 : ∀ a, a < 3 → ∀ b, b < 3 → a ≠ b → (TX3 a).2.1 ≠ (TX3 b).2.1 := by decide +kernel
theorem tyX3_ok : ∀ k, k < 3 → parseFieldDescriptor (TX3 k).2.2.1 = some (tyX3 k) := by decide +kernel
abbrev cX3_init : ByteArray := prog_5_method_1_code
def yX3_init : MethodName := ⟨RX3, "<init>", "(II[I)V"⟩
def RX4 : String := "PoleLogs$Log"
def TX4 : u_T := fun k => match k with
  | 0 => ("PoleLogs$Log", "strength", "I", false)
  | 1 => ("PoleLogs$Log", "skill", "I", false)
  | 2 => ("PoleLogs$Log", "dogs", "I", false)
  | 3 => ("PoleLogs$Log", "load", "I", false)
  | 4 => ("PoleLogs$Log", "startX", "I", false)
  | 5 => ("PoleLogs$Log", "startY", "I", false)
  | 6 => ("PoleLogs$Log", "claimX", "I", false)
  | 7 => ("PoleLogs$Log", "claimY", "I", false)
  | 8 => ("PoleLogs$Log", "claimDay", "I", false)
  | _ => ("PoleLogs$Log", "marches", "[LPoleLogs$Row;", true)
def tyX4 : Nat → FieldType := fun k => match k with
  | 0 => .int
  | 1 => .int
  | 2 => .int
  | 3 => .int
  | 4 => .int
  | 5 => .int
  | 6 => .int
  | 7 => .int
  | 8 => .int
  | _ => .array (.object "PoleLogs$Row")
theorem nmX4 : ∀ a, a < 10 → ∀ b, b < 10 → a ≠ b → (TX4 a).2.1 ≠ (TX4 b).2.1 := by decide +kernel
theorem tyX4_ok : ∀ k, k < 10 → parseFieldDescriptor (TX4 k).2.2.1 = some (tyX4 k) := by decide +kernel
abbrev cX4_init : ByteArray := prog_6_method_1_code
def yX4_init : MethodName := ⟨RX4, "<init>", "()V"⟩
abbrev cX4_hasClaim : ByteArray := prog_6_method_2_code
def yX4_hasClaim : MethodName := ⟨RX4, "hasClaim", "()Z"⟩
abbrev cX4_claimLatitude : ByteArray := prog_6_method_3_code
def yX4_claimLatitude : MethodName := ⟨RX4, "claimLatitude", "()I"⟩
abbrev cX4_milesOver : ByteArray := prog_6_method_4_code
def yX4_milesOver : MethodName := ⟨RX4, "milesOver", "(I)I"⟩
def RX5 : String := "PoleLogs$Looks"
def TX5 : u_T := fun k => match k with
  | 0 => ("PoleLogs$Looks", "parts", "[I", true)
  | 1 => ("PoleLogs$Looks", "left", "[I", true)
  | _ => ("PoleLogs$Looks", "size", "I", false)
def tyX5 : Nat → FieldType := fun k => match k with
  | 0 => .array .int
  | 1 => .array .int
  | _ => .int
theorem nmX5 : ∀ a, a < 3 → ∀ b, b < 3 → a ≠ b → (TX5 a).2.1 ≠ (TX5 b).2.1 := by decide +kernel
theorem tyX5_ok : ∀ k, k < 3 → parseFieldDescriptor (TX5 k).2.2.1 = some (tyX5 k) := by decide +kernel
abbrev cX5_init : ByteArray := prog_7_method_1_code
def yX5_init : MethodName := ⟨RX5, "<init>", "()V"⟩
abbrev cX5_add : ByteArray := prog_7_method_2_code
def yX5_add : MethodName := ⟨RX5, "add", "(I)I"⟩
abbrev cX5_leftBehind : ByteArray := prog_7_method_3_code
def yX5_leftBehind : MethodName := ⟨RX5, "leftBehind", "(II)I"⟩
abbrev cX5_greatestPart : ByteArray := prog_7_method_4_code
def yX5_greatestPart : MethodName := ⟨RX5, "greatestPart", "(II)I"⟩
abbrev cX5_best : ByteArray := prog_7_method_5_code
def yX5_best : MethodName := ⟨RX5, "best", "(I)I"⟩
def RX6 : String := "PoleLogs$Reader"
def TX6 : u_T := fun k => match k with
  | 0 => ("PoleLogs$Reader", "values", "[I", true)
  | 1 => ("PoleLogs$Reader", "text", "[I", false)
  | 2 => ("PoleLogs$Reader", "length", "I", false)
  | 3 => ("PoleLogs$Reader", "at", "I", false)
  | _ => ("PoleLogs$Reader", "faulty", "Z", false)
def tyX6 : Nat → FieldType := fun k => match k with
  | 0 => .array .int
  | 1 => .array .int
  | 2 => .int
  | 3 => .int
  | _ => .boolean
theorem nmX6 : ∀ a, a < 5 → ∀ b, b < 5 → a ≠ b → (TX6 a).2.1 ≠ (TX6 b).2.1 := by decide +kernel
theorem tyX6_ok : ∀ k, k < 5 → parseFieldDescriptor (TX6 k).2.2.1 = some (tyX6 k) := by decide +kernel
abbrev cX6_init : ByteArray := prog_8_method_1_code
def yX6_init : MethodName := ⟨RX6, "<init>", "()V"⟩
abbrev cX6_faultOf : ByteArray := prog_8_method_2_code
def yX6_faultOf : MethodName := ⟨RX6, "faultOf", "([II)I"⟩
abbrev cX6_holds : ByteArray := prog_8_method_3_code
def yX6_holds : MethodName := ⟨RX6, "holds", "([I)Z"⟩
abbrev cX6_readAll : ByteArray := prog_8_method_4_code
def yX6_readAll : MethodName := ⟨RX6, "readAll", "([II)Z"⟩
abbrev cX6_coming : ByteArray := prog_8_method_5_code
def yX6_coming : MethodName := ⟨RX6, "coming", "()I"⟩
abbrev cX6_either : ByteArray := prog_8_method_6_code
def yX6_either : MethodName := ⟨RX6, "either", "(I)Z"⟩
abbrev cX6_both : ByteArray := prog_8_method_7_code
def yX6_both : MethodName := ⟨RX6, "both", "(I)Z"⟩
abbrev cX6_one : ByteArray := prog_8_method_8_code
def yX6_one : MethodName := ⟨RX6, "one", "(I)Z"⟩
abbrev cX6_test : ByteArray := prog_8_method_9_code
def yX6_test : MethodName := ⟨RX6, "test", "()Z"⟩
abbrev cX6_number : ByteArray := prog_8_method_10_code
def yX6_number : MethodName := ⟨RX6, "number", "()I"⟩
abbrev cX6_letterAt : ByteArray := prog_8_method_11_code
def yX6_letterAt : MethodName := ⟨RX6, "letterAt", "(I)I"⟩
def RX7 : String := "PoleLogs$Row"
def TX7 : u_T := fun k => match k with
  | 0 => ("PoleLogs$Row", "number", "I", true)
  | 1 => ("PoleLogs$Row", "log", "I", true)
  | 2 => ("PoleLogs$Row", "day", "I", true)
  | 3 => ("PoleLogs$Row", "kind", "I", true)
  | 4 => ("PoleLogs$Row", "year", "I", true)
  | 5 => ("PoleLogs$Row", "first", "I", false)
  | 6 => ("PoleLogs$Row", "second", "I", false)
  | 7 => ("PoleLogs$Row", "third", "I", false)
  | _ => ("PoleLogs$Row", "fourth", "I", false)
def tyX7 : Nat → FieldType := fun k => match k with
  | 0 => .int
  | 1 => .int
  | 2 => .int
  | 3 => .int
  | 4 => .int
  | 5 => .int
  | 6 => .int
  | 7 => .int
  | _ => .int
theorem nmX7 : ∀ a, a < 9 → ∀ b, b < 9 → a ≠ b → (TX7 a).2.1 ≠ (TX7 b).2.1 := by decide +kernel
theorem tyX7_ok : ∀ k, k < 9 → parseFieldDescriptor (TX7 k).2.2.1 = some (tyX7 k) := by decide +kernel
abbrev cX7_init : ByteArray := prog_9_method_1_code
def yX7_init : MethodName := ⟨RX7, "<init>", "(IIIII)V"⟩
abbrev cX7_isOf : ByteArray := prog_9_method_2_code
def yX7_isOf : MethodName := ⟨RX7, "isOf", "(II)Z"⟩
abbrev cX7_isHeightOf : ByteArray := prog_9_method_3_code
def yX7_isHeightOf : MethodName := ⟨RX7, "isHeightOf", "(II)Z"⟩
abbrev cX7_quarrelsWith : ByteArray := prog_9_method_4_code
def yX7_quarrelsWith : MethodName := ⟨RX7, "quarrelsWith", "(LPoleLogs$Row;)Z"⟩
abbrev cX7_miles : ByteArray := prog_9_method_5_code
def yX7_miles : MethodName := ⟨RX7, "miles", "()I"⟩
def RX8 : String := "PoleLogs$Tape"
def TX8 : u_T := fun k => match k with
  | 0 => ("PoleLogs$Tape", "sort", "I", false)
  | 1 => ("PoleLogs$Tape", "size", "I", false)
  | _ => ("PoleLogs$Tape", "items", "[I", true)
def tyX8 : Nat → FieldType := fun k => match k with
  | 0 => .int
  | 1 => .int
  | _ => .array .int
theorem nmX8 : ∀ a, a < 3 → ∀ b, b < 3 → a ≠ b → (TX8 a).2.1 ≠ (TX8 b).2.1 := by decide +kernel
theorem tyX8_ok : ∀ k, k < 3 → parseFieldDescriptor (TX8 k).2.2.1 = some (tyX8 k) := by decide +kernel
abbrev cX8_init : ByteArray := prog_10_method_1_code
def yX8_init : MethodName := ⟨RX8, "<init>", "()V"⟩
abbrev cX8_become : ByteArray := prog_10_method_2_code
def yX8_become : MethodName := ⟨RX8, "become", "(II)V"⟩
abbrev cX8_has : ByteArray := prog_10_method_3_code
def yX8_has : MethodName := ⟨RX8, "has", "(I)Z"⟩
abbrev cX8_spans : ByteArray := prog_10_method_4_code
def yX8_spans : MethodName := ⟨RX8, "spans", "(II)Z"⟩
abbrev cX8_asItem : ByteArray := prog_10_method_5_code
def yX8_asItem : MethodName := ⟨RX8, "asItem", "(I)I"⟩
def RX9 : String := "PoleLogs$Way"
def TX9 : u_T := fun k => match k with
  | 0 => ("PoleLogs$Way", "ground", "LPoleLogs$Ice;", true)
  | 1 => ("PoleLogs$Way", "log", "LPoleLogs$Log;", false)
  | 2 => ("PoleLogs$Way", "year", "I", false)
  | 3 => ("PoleLogs$Way", "xs", "[I", true)
  | _ => ("PoleLogs$Way", "ys", "[I", true)
def tyX9 : Nat → FieldType := fun k => match k with
  | 0 => .object "PoleLogs$Ice"
  | 1 => .object "PoleLogs$Log"
  | 2 => .int
  | 3 => .array .int
  | _ => .array .int
theorem nmX9 : ∀ a, a < 5 → ∀ b, b < 5 → a ≠ b → (TX9 a).2.1 ≠ (TX9 b).2.1 := by decide +kernel
theorem tyX9_ok : ∀ k, k < 5 → parseFieldDescriptor (TX9 k).2.2.1 = some (tyX9 k) := by decide +kernel
abbrev cX9_init : ByteArray := prog_11_method_1_code
def yX9_init : MethodName := ⟨RX9, "<init>", "(LPoleLogs$Ice;LPoleLogs$Log;)V"⟩
abbrev cX9_walk : ByteArray := prog_11_method_2_code
def yX9_walk : MethodName := ⟨RX9, "walk", "(LPoleLogs$Log;II)V"⟩
abbrev cX9_marchOf : ByteArray := prog_11_method_3_code
def yX9_marchOf : MethodName := ⟨RX9, "marchOf", "(I)LPoleLogs$Row;"⟩
abbrev cX9_xBehind : ByteArray := prog_11_method_4_code
def yX9_xBehind : MethodName := ⟨RX9, "xBehind", "(I)I"⟩
abbrev cX9_yBehind : ByteArray := prog_11_method_5_code
def yX9_yBehind : MethodName := ⟨RX9, "yBehind", "(I)I"⟩
abbrev cX9_cellBehind : ByteArray := prog_11_method_6_code
def yX9_cellBehind : MethodName := ⟨RX9, "cellBehind", "(I)I"⟩
abbrev cX9_bearing : ByteArray := prog_11_method_7_code
def yX9_bearing : MethodName := ⟨RX9, "bearing", "(I)I"⟩
abbrev cX9_reach : ByteArray := prog_11_method_8_code
def yX9_reach : MethodName := ⟨RX9, "reach", "(I)I"⟩
abbrev cX9_excess : ByteArray := prog_11_method_9_code
def yX9_excess : MethodName := ⟨RX9, "excess", "(I)I"⟩
def RX10 : String := "PoleLogs"
def TX10 : u_T := fun k => match k with
  | 0 => ("PoleLogs", "ground", "LPoleLogs$Ice;", true)
  | 1 => ("PoleLogs", "almanac", "LPoleLogs$Almanac;", true)
  | 2 => ("PoleLogs", "logs", "[LPoleLogs$Log;", true)
  | 3 => ("PoleLogs", "way", "LPoleLogs$Way;", true)
  | 4 => ("PoleLogs", "rows", "[LPoleLogs$Row;", true)
  | 5 => ("PoleLogs", "strengths", "[I", true)
  | 6 => ("PoleLogs", "skills", "[I", true)
  | 7 => ("PoleLogs", "laws", "[LPoleLogs$Law;", true)
  | 8 => ("PoleLogs", "reader", "LPoleLogs$Reader;", true)
  | 9 => ("PoleLogs", "text", "[I", true)
  | 10 => ("PoleLogs", "looks", "LPoleLogs$Looks;", true)
  | 11 => ("PoleLogs", "acts", "LPoleLogs$Acts;", true)
  | 12 => ("PoleLogs", "tapes", "[LPoleLogs$Tape;", true)
  | 13 => ("PoleLogs", "now", "I", false)
  | 14 => ("PoleLogs", "menCount", "I", false)
  | 15 => ("PoleLogs", "rowCount", "I", false)
  | 16 => ("PoleLogs", "lawCount", "I", false)
  | _ => ("PoleLogs", "textLength", "I", false)
def tyX10 : Nat → FieldType := fun k => match k with
  | 0 => .object "PoleLogs$Ice"
  | 1 => .object "PoleLogs$Almanac"
  | 2 => .array (.object "PoleLogs$Log")
  | 3 => .object "PoleLogs$Way"
  | 4 => .array (.object "PoleLogs$Row")
  | 5 => .array .int
  | 6 => .array .int
  | 7 => .array (.object "PoleLogs$Law")
  | 8 => .object "PoleLogs$Reader"
  | 9 => .array .int
  | 10 => .object "PoleLogs$Looks"
  | 11 => .object "PoleLogs$Acts"
  | 12 => .array (.object "PoleLogs$Tape")
  | 13 => .int
  | 14 => .int
  | 15 => .int
  | 16 => .int
  | _ => .int
theorem nmX10 : ∀ a, a < 18 → ∀ b, b < 18 → a ≠ b → (TX10 a).2.1 ≠ (TX10 b).2.1 := by decide +kernel
theorem tyX10_ok : ∀ k, k < 18 → parseFieldDescriptor (TX10 k).2.2.1 = some (tyX10 k) := by decide +kernel
abbrev cX10_init : ByteArray := prog_1_method_1_code
def yX10_init : MethodName := ⟨RX10, "<init>", "()V"⟩
abbrev cX10_pass : ByteArray := prog_1_method_2_code
def yX10_pass : MethodName := ⟨RX10, "pass", "(I)I"⟩
abbrev cX10_drift : ByteArray := prog_1_method_3_code
def yX10_drift : MethodName := ⟨RX10, "drift", "(III)I"⟩
abbrev cX10_ice : ByteArray := prog_1_method_4_code
def yX10_ice : MethodName := ⟨RX10, "ice", "(III)I"⟩
abbrev cX10_sun : ByteArray := prog_1_method_5_code
def yX10_sun : MethodName := ⟨RX10, "sun", "(II)I"⟩
abbrev cX10_man : ByteArray := prog_1_method_6_code
def yX10_man : MethodName := ⟨RX10, "man", "(II)I"⟩
abbrev cX10_party : ByteArray := prog_1_method_7_code
def yX10_party : MethodName := ⟨RX10, "party", "(IIII)I"⟩
abbrev cX10_start : ByteArray := prog_1_method_8_code
def yX10_start : MethodName := ⟨RX10, "start", "(III)I"⟩
abbrev cX10_claim : ByteArray := prog_1_method_9_code
def yX10_claim : MethodName := ⟨RX10, "claim", "(IIII)I"⟩
abbrev cX10_march : ByteArray := prog_1_method_10_code
def yX10_march : MethodName := ⟨RX10, "march", "(IIIII)I"⟩
abbrev cX10_height : ByteArray := prog_1_method_11_code
def yX10_height : MethodName := ⟨RX10, "height", "(IIIIZ)I"⟩
abbrev cX10_compass : ByteArray := prog_1_method_12_code
def yX10_compass : MethodName := ⟨RX10, "compass", "(III)I"⟩
abbrev cX10_picture : ByteArray := prog_1_method_13_code
def yX10_picture : MethodName := ⟨RX10, "picture", "(IIIII)I"⟩
abbrev cX10_word : ByteArray := prog_1_method_14_code
def yX10_word : MethodName := ⟨RX10, "word", "(IIIIII)I"⟩
abbrev cX10_torn : ByteArray := prog_1_method_15_code
def yX10_torn : MethodName := ⟨RX10, "torn", "(IIIIII)I"⟩
abbrev cX10_of : ByteArray := prog_1_method_16_code
def yX10_of : MethodName := ⟨RX10, "of", "(II)I"⟩
abbrev cX10_fits : ByteArray := prog_1_method_17_code
def yX10_fits : MethodName := ⟨RX10, "fits", "(III)I"⟩
abbrev cX10_place : ByteArray := prog_1_method_18_code
def yX10_place : MethodName := ⟨RX10, "place", "(III)I"⟩
abbrev cX10_can : ByteArray := prog_1_method_19_code
def yX10_can : MethodName := ⟨RX10, "can", "(II)I"⟩
abbrev cX10_beyond : ByteArray := prog_1_method_20_code
def yX10_beyond : MethodName := ⟨RX10, "beyond", "(II)I"⟩
abbrev cX10_latitude : ByteArray := prog_1_method_21_code
def yX10_latitude : MethodName := ⟨RX10, "latitude", "(II)I"⟩
abbrev cX10_quarrel : ByteArray := prog_1_method_22_code
def yX10_quarrel : MethodName := ⟨RX10, "quarrel", "(I)I"⟩
abbrev cX10_home : ByteArray := prog_1_method_23_code
def yX10_home : MethodName := ⟨RX10, "home", "(I)I"⟩
abbrev cX10_needs : ByteArray := prog_1_method_24_code
def yX10_needs : MethodName := ⟨RX10, "needs", "(II)I"⟩
abbrev cX10_held : ByteArray := prog_1_method_25_code
def yX10_held : MethodName := ⟨RX10, "held", "(III)I"⟩
abbrev cX10_falses : ByteArray := prog_1_method_26_code
def yX10_falses : MethodName := ⟨RX10, "falses", "(IIII)I"⟩
abbrev cX10_least : ByteArray := prog_1_method_27_code
def yX10_least : MethodName := ⟨RX10, "least", "(III)I"⟩
abbrev cX10_misprint : ByteArray := prog_1_method_28_code
def yX10_misprint : MethodName := ⟨RX10, "misprint", "(II)I"⟩
abbrev cX10_made : ByteArray := prog_1_method_29_code
def yX10_made : MethodName := ⟨RX10, "made", "(II)I"⟩
abbrev cX10_feed : ByteArray := prog_1_method_30_code
def yX10_feed : MethodName := ⟨RX10, "feed", "(II)I"⟩
abbrev cX10_law : ByteArray := prog_1_method_31_code
def yX10_law : MethodName := ⟨RX10, "law", "(II)I"⟩
abbrev cX10_says : ByteArray := prog_1_method_32_code
def yX10_says : MethodName := ⟨RX10, "says", "(III)I"⟩
abbrev cX10_look : ByteArray := prog_1_method_33_code
def yX10_look : MethodName := ⟨RX10, "look", "(I)I"⟩
abbrev cX10_worth : ByteArray := prog_1_method_34_code
def yX10_worth : MethodName := ⟨RX10, "worth", "(II)I"⟩
abbrev cX10_next : ByteArray := prog_1_method_35_code
def yX10_next : MethodName := ⟨RX10, "next", "(I)I"⟩
abbrev cX10_worst : ByteArray := prog_1_method_36_code
def yX10_worst : MethodName := ⟨RX10, "worst", "(II)I"⟩
abbrev cX10_act : ByteArray := prog_1_method_37_code
def yX10_act : MethodName := ⟨RX10, "act", "(III)I"⟩
abbrev cX10_trace : ByteArray := prog_1_method_38_code
def yX10_trace : MethodName := ⟨RX10, "trace", "(I)I"⟩
abbrev cX10_taken : ByteArray := prog_1_method_39_code
def yX10_taken : MethodName := ⟨RX10, "taken", "(II)I"⟩
abbrev cX10_count : ByteArray := prog_1_method_40_code
def yX10_count : MethodName := ⟨RX10, "count", "(I)I"⟩
abbrev cX10_tape : ByteArray := prog_1_method_41_code
def yX10_tape : MethodName := ⟨RX10, "tape", "(III)I"⟩
abbrev cX10_item : ByteArray := prog_1_method_42_code
def yX10_item : MethodName := ⟨RX10, "item", "(III)I"⟩
abbrev cX10_read : ByteArray := prog_1_method_43_code
def yX10_read : MethodName := ⟨RX10, "read", "(II)I"⟩
abbrev cX10_shift : ByteArray := prog_1_method_44_code
def yX10_shift : MethodName := ⟨RX10, "shift", "(IIIII)I"⟩
abbrev cX10_within : ByteArray := prog_1_method_45_code
def yX10_within : MethodName := ⟨RX10, "within", "(III)Z"⟩
abbrev cX10_isLog : ByteArray := prog_1_method_46_code
def yX10_isLog : MethodName := ⟨RX10, "isLog", "(I)Z"⟩
abbrev cX10_isDay : ByteArray := prog_1_method_47_code
def yX10_isDay : MethodName := ⟨RX10, "isDay", "(I)Z"⟩
abbrev cX10_isYear : ByteArray := prog_1_method_48_code
def yX10_isYear : MethodName := ⟨RX10, "isYear", "(I)Z"⟩
abbrev cX10_isPlace : ByteArray := prog_1_method_49_code
def yX10_isPlace : MethodName := ⟨RX10, "isPlace", "(II)Z"⟩
abbrev cX10_isHeight : ByteArray := prog_1_method_50_code
def yX10_isHeight : MethodName := ⟨RX10, "isHeight", "(I)Z"⟩
abbrev cX10_isNearness : ByteArray := prog_1_method_51_code
def yX10_isNearness : MethodName := ⟨RX10, "isNearness", "(I)Z"⟩
abbrev cX10_isSet : ByteArray := prog_1_method_52_code
def yX10_isSet : MethodName := ⟨RX10, "isSet", "(I)Z"⟩
abbrev cX10_isTape : ByteArray := prog_1_method_53_code
def yX10_isTape : MethodName := ⟨RX10, "isTape", "(I)Z"⟩
abbrev cX10_isRow : ByteArray := prog_1_method_54_code
def yX10_isRow : MethodName := ⟨RX10, "isRow", "(I)Z"⟩
abbrev cX10_isUnder : ByteArray := prog_1_method_55_code
def yX10_isUnder : MethodName := ⟨RX10, "isUnder", "(II)Z"⟩
abbrev cX10_clamped : ByteArray := prog_1_method_56_code
def yX10_clamped : MethodName := ⟨RX10, "clamped", "(I)I"⟩
abbrev cX10_cellOf : ByteArray := prog_1_method_57_code
def yX10_cellOf : MethodName := ⟨RX10, "cellOf", "(II)I"⟩
abbrev cX10_latitudeOf : ByteArray := prog_1_method_58_code
def yX10_latitudeOf : MethodName := ⟨RX10, "latitudeOf", "(II)I"⟩
abbrev cX10_addRow : ByteArray := prog_1_method_59_code
def yX10_addRow : MethodName := ⟨RX10, "addRow", "(III)LPoleLogs$Row;"⟩
abbrev cX10_addHeight : ByteArray := prog_1_method_60_code
def yX10_addHeight : MethodName := ⟨RX10, "addHeight", "(IIIII)I"⟩
abbrev cX10_sumOf : ByteArray := prog_1_method_61_code
def yX10_sumOf : MethodName := ⟨RX10, "sumOf", "([II)I"⟩
abbrev cX10_agrees : ByteArray := prog_1_method_62_code
def yX10_agrees : MethodName := ⟨RX10, "agrees", "(LPoleLogs$Row;II)Z"⟩
abbrev cX10_heightAgrees : ByteArray := prog_1_method_63_code
def yX10_heightAgrees : MethodName := ⟨RX10, "heightAgrees", "(LPoleLogs$Row;I)Z"⟩
abbrev cX10_pictureAgrees : ByteArray := prog_1_method_64_code
def yX10_pictureAgrees : MethodName := ⟨RX10, "pictureAgrees", "(LPoleLogs$Row;I)Z"⟩
abbrev cX10_driftNeededX : ByteArray := prog_1_method_65_code
def yX10_driftNeededX : MethodName := ⟨RX10, "driftNeededX", "(LPoleLogs$Log;)I"⟩
abbrev cX10_driftNeededY : ByteArray := prog_1_method_66_code
def yX10_driftNeededY : MethodName := ⟨RX10, "driftNeededY", "(LPoleLogs$Log;)I"⟩
abbrev cX10_quarrelBy : ByteArray := prog_1_method_67_code
def yX10_quarrelBy : MethodName := ⟨RX10, "quarrelBy", "(II)I"⟩
abbrev cX10_storyX : ByteArray := prog_1_method_68_code
def yX10_storyX : MethodName := ⟨RX10, "storyX", "(ILPoleLogs$Log;I)I"⟩
abbrev cX10_storyY : ByteArray := prog_1_method_69_code
def yX10_storyY : MethodName := ⟨RX10, "storyY", "(ILPoleLogs$Log;II)I"⟩
abbrev cX10_agreesInStory : ByteArray := prog_1_method_70_code
def yX10_agreesInStory : MethodName := ⟨RX10, "agreesInStory", "(LPoleLogs$Row;II)Z"⟩
abbrev cX10_falseRows : ByteArray := prog_1_method_71_code
def yX10_falseRows : MethodName := ⟨RX10, "falseRows", "(III)I"⟩
abbrev cX10_showingMisprint : ByteArray := prog_1_method_72_code
def yX10_showingMisprint : MethodName := ⟨RX10, "showingMisprint", "(I)I"⟩
abbrev cX10_madeAtHome : ByteArray := prog_1_method_73_code
def yX10_madeAtHome : MethodName := ⟨RX10, "madeAtHome", "(II)I"⟩
abbrev cX10_lawIn : ByteArray := prog_1_method_74_code
def yX10_lawIn : MethodName := ⟨RX10, "lawIn", "(II)LPoleLogs$Law;"⟩
abbrev cX10_tally : ByteArray := prog_1_method_75_code
def yX10_tally : MethodName := ⟨RX10, "tally", "(II[I)V"⟩
abbrev cX10_letterOf : ByteArray := prog_1_method_76_code
def yX10_letterOf : MethodName := ⟨RX10, "letterOf", "(I)I"⟩
def RX11 : String := "PoleLogsModel"
def TX11 : u_T := fun k => match k with
  | 0 => ("PoleLogsModel", "now", "I", false)
  | 1 => ("PoleLogsModel", "men", "I", false)
  | 2 => ("PoleLogsModel", "thousandth", "[I", true)
  | 3 => ("PoleLogsModel", "driftX", "[I", true)
  | 4 => ("PoleLogsModel", "driftY", "[I", true)
  | 5 => ("PoleLogsModel", "ridge", "[I", true)
  | 6 => ("PoleLogsModel", "turn", "[I", true)
  | 7 => ("PoleLogsModel", "sun", "[I", true)
  | 8 => ("PoleLogsModel", "strength", "[I", true)
  | 9 => ("PoleLogsModel", "skill", "[I", true)
  | 10 => ("PoleLogsModel", "partyOf", "[I", true)
  | 11 => ("PoleLogsModel", "dogsOf", "[I", true)
  | 12 => ("PoleLogsModel", "loadOf", "[I", true)
  | 13 => ("PoleLogsModel", "startX", "[I", true)
  | 14 => ("PoleLogsModel", "startY", "[I", true)
  | 15 => ("PoleLogsModel", "claimX", "[I", true)
  | 16 => ("PoleLogsModel", "claimY", "[I", true)
  | 17 => ("PoleLogsModel", "claimDay", "[I", true)
  | 18 => ("PoleLogsModel", "rows", "I", false)
  | 19 => ("PoleLogsModel", "kind", "[I", true)
  | 20 => ("PoleLogsModel", "log", "[I", true)
  | 21 => ("PoleLogsModel", "day", "[I", true)
  | 22 => ("PoleLogsModel", "year", "[I", true)
  | 23 => ("PoleLogsModel", "first", "[I", true)
  | 24 => ("PoleLogsModel", "second", "[I", true)
  | 25 => ("PoleLogsModel", "third", "[I", true)
  | 26 => ("PoleLogsModel", "fourth", "[I", true)
  | 27 => ("PoleLogsModel", "wayX", "[I", true)
  | 28 => ("PoleLogsModel", "wayY", "[I", true)
  | 29 => ("PoleLogsModel", "needX", "I", false)
  | 30 => ("PoleLogsModel", "needY", "I", false)
  | 31 => ("PoleLogsModel", "storyX", "I", false)
  | 32 => ("PoleLogsModel", "storyY", "I", false)
  | 33 => ("PoleLogsModel", "printed", "[I", true)
  | 34 => ("PoleLogsModel", "misprints", "I", false)
  | 35 => ("PoleLogsModel", "laws", "I", false)
  | 36 => ("PoleLogsModel", "fed", "I", false)
  | 37 => ("PoleLogsModel", "lawOf", "[I", true)
  | 38 => ("PoleLogsModel", "lawYear", "[I", true)
  | 39 => ("PoleLogsModel", "text", "[I", true)
  | 40 => ("PoleLogsModel", "size", "[I", true)
  | 41 => ("PoleLogsModel", "facts", "[I", true)
  | 42 => ("PoleLogsModel", "base", "I", false)
  | 43 => ("PoleLogsModel", "many", "I", false)
  | 44 => ("PoleLogsModel", "at", "I", false)
  | 45 => ("PoleLogsModel", "waits", "[I", true)
  | 46 => ("PoleLogsModel", "pile", "[Z", true)
  | 47 => ("PoleLogsModel", "waiting", "I", false)
  | 48 => ("PoleLogsModel", "piled", "I", false)
  | 49 => ("PoleLogsModel", "open", "I", false)
  | 50 => ("PoleLogsModel", "looks", "I", false)
  | 51 => ("PoleLogsModel", "answers", "[I", true)
  | 52 => ("PoleLogsModel", "worstOf", "[I", true)
  | 53 => ("PoleLogsModel", "ran", "I", false)
  | 54 => ("PoleLogsModel", "bodies", "[I", true)
  | 55 => ("PoleLogsModel", "sort", "[I", true)
  | 56 => ("PoleLogsModel", "length", "[I", true)
  | 57 => ("PoleLogsModel", "item", "[I", true)
  | _ => ("PoleLogsModel", "aside", "[I", true)
def tyX11 : Nat → FieldType := fun k => match k with
  | 0 => .int
  | 1 => .int
  | 2 => .array .int
  | 3 => .array .int
  | 4 => .array .int
  | 5 => .array .int
  | 6 => .array .int
  | 7 => .array .int
  | 8 => .array .int
  | 9 => .array .int
  | 10 => .array .int
  | 11 => .array .int
  | 12 => .array .int
  | 13 => .array .int
  | 14 => .array .int
  | 15 => .array .int
  | 16 => .array .int
  | 17 => .array .int
  | 18 => .int
  | 19 => .array .int
  | 20 => .array .int
  | 21 => .array .int
  | 22 => .array .int
  | 23 => .array .int
  | 24 => .array .int
  | 25 => .array .int
  | 26 => .array .int
  | 27 => .array .int
  | 28 => .array .int
  | 29 => .int
  | 30 => .int
  | 31 => .int
  | 32 => .int
  | 33 => .array .int
  | 34 => .int
  | 35 => .int
  | 36 => .int
  | 37 => .array .int
  | 38 => .array .int
  | 39 => .array .int
  | 40 => .array .int
  | 41 => .array .int
  | 42 => .int
  | 43 => .int
  | 44 => .int
  | 45 => .array .int
  | 46 => .array .boolean
  | 47 => .int
  | 48 => .int
  | 49 => .int
  | 50 => .int
  | 51 => .array .int
  | 52 => .array .int
  | 53 => .int
  | 54 => .array .int
  | 55 => .array .int
  | 56 => .array .int
  | 57 => .array .int
  | _ => .array .int
theorem nmX11 : ∀ a, a < 59 → ∀ b, b < 59 → a ≠ b → (TX11 a).2.1 ≠ (TX11 b).2.1 := by decide +kernel
theorem tyX11_ok : ∀ k, k < 59 → parseFieldDescriptor (TX11 k).2.2.1 = some (tyX11 k) := by decide +kernel
abbrev cX11_in : ByteArray := prog_13_method_1_code
def yX11_in : MethodName := ⟨RX11, "in", "(III)Z"⟩
abbrev cX11_abs : ByteArray := prog_13_method_2_code
def yX11_abs : MethodName := ⟨RX11, "abs", "(I)I"⟩
abbrev cX11_keep : ByteArray := prog_13_method_3_code
def yX11_keep : MethodName := ⟨RX11, "keep", "(I)I"⟩
abbrev cX11_isLog : ByteArray := prog_13_method_4_code
def yX11_isLog : MethodName := ⟨RX11, "isLog", "(I)Z"⟩
abbrev cX11_isDay : ByteArray := prog_13_method_5_code
def yX11_isDay : MethodName := ⟨RX11, "isDay", "(I)Z"⟩
abbrev cX11_isYear : ByteArray := prog_13_method_6_code
def yX11_isYear : MethodName := ⟨RX11, "isYear", "(I)Z"⟩
abbrev cX11_isPlace : ByteArray := prog_13_method_7_code
def yX11_isPlace : MethodName := ⟨RX11, "isPlace", "(II)Z"⟩
abbrev cX11_cellOf : ByteArray := prog_13_method_8_code
def yX11_cellOf : MethodName := ⟨RX11, "cellOf", "(II)I"⟩
abbrev cX11_pass : ByteArray := prog_13_method_9_code
def yX11_pass : MethodName := ⟨RX11, "pass", "(I)I"⟩
abbrev cX11_drift : ByteArray := prog_13_method_10_code
def yX11_drift : MethodName := ⟨RX11, "drift", "(III)I"⟩
abbrev cX11_ice : ByteArray := prog_13_method_11_code
def yX11_ice : MethodName := ⟨RX11, "ice", "(III)I"⟩
abbrev cX11_sun : ByteArray := prog_13_method_12_code
def yX11_sun : MethodName := ⟨RX11, "sun", "(II)I"⟩
abbrev cX11_man : ByteArray := prog_13_method_13_code
def yX11_man : MethodName := ⟨RX11, "man", "(II)I"⟩
abbrev cX11_party : ByteArray := prog_13_method_14_code
def yX11_party : MethodName := ⟨RX11, "party", "(IIII)I"⟩
abbrev cX11_start : ByteArray := prog_13_method_15_code
def yX11_start : MethodName := ⟨RX11, "start", "(III)I"⟩
abbrev cX11_claim : ByteArray := prog_13_method_16_code
def yX11_claim : MethodName := ⟨RX11, "claim", "(IIII)I"⟩
abbrev cX11_isRow : ByteArray := prog_13_method_17_code
def yX11_isRow : MethodName := ⟨RX11, "isRow", "(I)Z"⟩
abbrev cX11_add : ByteArray := prog_13_method_18_code
def yX11_add : MethodName := ⟨RX11, "add", "(IIIIIII)I"⟩
abbrev cX11_marchOf : ByteArray := prog_13_method_19_code
def yX11_marchOf : MethodName := ⟨RX11, "marchOf", "(III)I"⟩
abbrev cX11_march : ByteArray := prog_13_method_20_code
def yX11_march : MethodName := ⟨RX11, "march", "(IIIII)I"⟩
abbrev cX11_height : ByteArray := prog_13_method_21_code
def yX11_height : MethodName := ⟨RX11, "height", "(IIIIZ)I"⟩
abbrev cX11_compass : ByteArray := prog_13_method_22_code
def yX11_compass : MethodName := ⟨RX11, "compass", "(III)I"⟩
abbrev cX11_picture : ByteArray := prog_13_method_23_code
def yX11_picture : MethodName := ⟨RX11, "picture", "(IIIII)I"⟩
abbrev cX11_word : ByteArray := prog_13_method_24_code
def yX11_word : MethodName := ⟨RX11, "word", "(IIIIII)I"⟩
abbrev cX11_torn : ByteArray := prog_13_method_25_code
def yX11_torn : MethodName := ⟨RX11, "torn", "(IIIIII)I"⟩
abbrev cX11_of : ByteArray := prog_13_method_26_code
def yX11_of : MethodName := ⟨RX11, "of", "(II)I"⟩
abbrev cX11_findWay : ByteArray := prog_13_method_27_code
def yX11_findWay : MethodName := ⟨RX11, "findWay", "(II)V"⟩
abbrev cX11_place : ByteArray := prog_13_method_28_code
def yX11_place : MethodName := ⟨RX11, "place", "(III)I"⟩
abbrev cX11_canGo : ByteArray := prog_13_method_29_code
def yX11_canGo : MethodName := ⟨RX11, "canGo", "(II)I"⟩
abbrev cX11_can : ByteArray := prog_13_method_30_code
def yX11_can : MethodName := ⟨RX11, "can", "(II)I"⟩
abbrev cX11_beyondBy : ByteArray := prog_13_method_31_code
def yX11_beyondBy : MethodName := ⟨RX11, "beyondBy", "(I)I"⟩
abbrev cX11_beyond : ByteArray := prog_13_method_32_code
def yX11_beyond : MethodName := ⟨RX11, "beyond", "(II)I"⟩
abbrev cX11_latitudeOf : ByteArray := prog_13_method_33_code
def yX11_latitudeOf : MethodName := ⟨RX11, "latitudeOf", "(II)I"⟩
abbrev cX11_latitude : ByteArray := prog_13_method_34_code
def yX11_latitude : MethodName := ⟨RX11, "latitude", "(II)I"⟩
abbrev cX11_isHeight : ByteArray := prog_13_method_35_code
def yX11_isHeight : MethodName := ⟨RX11, "isHeight", "(I)Z"⟩
abbrev cX11_middle : ByteArray := prog_13_method_36_code
def yX11_middle : MethodName := ⟨RX11, "middle", "(I)I"⟩
abbrev cX11_isFit : ByteArray := prog_13_method_37_code
def yX11_isFit : MethodName := ⟨RX11, "isFit", "(IIII)Z"⟩
abbrev cX11_fits : ByteArray := prog_13_method_38_code
def yX11_fits : MethodName := ⟨RX11, "fits", "(III)I"⟩
abbrev cX11_quarrelOf : ByteArray := prog_13_method_39_code
def yX11_quarrelOf : MethodName := ⟨RX11, "quarrelOf", "(II)I"⟩
abbrev cX11_quarrel : ByteArray := prog_13_method_40_code
def yX11_quarrel : MethodName := ⟨RX11, "quarrel", "(I)I"⟩
abbrev cX11_home : ByteArray := prog_13_method_41_code
def yX11_home : MethodName := ⟨RX11, "home", "(I)I"⟩
abbrev cX11_down : ByteArray := prog_13_method_42_code
def yX11_down : MethodName := ⟨RX11, "down", "(II)I"⟩
abbrev cX11_findNeeds : ByteArray := prog_13_method_43_code
def yX11_findNeeds : MethodName := ⟨RX11, "findNeeds", "(I)V"⟩
abbrev cX11_needs : ByteArray := prog_13_method_44_code
def yX11_needs : MethodName := ⟨RX11, "needs", "(II)I"⟩
abbrev cX11_held : ByteArray := prog_13_method_45_code
def yX11_held : MethodName := ⟨RX11, "held", "(III)I"⟩
abbrev cX11_tellStory : ByteArray := prog_13_method_46_code
def yX11_tellStory : MethodName := ⟨RX11, "tellStory", "(IIII)V"⟩
abbrev cX11_falsesOf : ByteArray := prog_13_method_47_code
def yX11_falsesOf : MethodName := ⟨RX11, "falsesOf", "(IIII)I"⟩
abbrev cX11_falses : ByteArray := prog_13_method_48_code
def yX11_falses : MethodName := ⟨RX11, "falses", "(IIII)I"⟩
abbrev cX11_least : ByteArray := prog_13_method_49_code
def yX11_least : MethodName := ⟨RX11, "least", "(III)I"⟩
abbrev cX11_init : ByteArray := prog_13_method_50_code
def yX11_init : MethodName := ⟨RX11, "<init>", "()V"⟩
abbrev cX11_misprint : ByteArray := prog_13_method_51_code
def yX11_misprint : MethodName := ⟨RX11, "misprint", "(II)I"⟩
abbrev cX11_madeOf : ByteArray := prog_13_method_52_code
def yX11_madeOf : MethodName := ⟨RX11, "madeOf", "(III)I"⟩
abbrev cX11_made : ByteArray := prog_13_method_53_code
def yX11_made : MethodName := ⟨RX11, "made", "(II)I"⟩
abbrev cX11_feed : ByteArray := prog_13_method_54_code
def yX11_feed : MethodName := ⟨RX11, "feed", "(II)I"⟩
abbrev cX11_byteAt : ByteArray := prog_13_method_55_code
def yX11_byteAt : MethodName := ⟨RX11, "byteAt", "()I"⟩
abbrev cX11_isDigit : ByteArray := prog_13_method_56_code
def yX11_isDigit : MethodName := ⟨RX11, "isDigit", "()Z"⟩
abbrev cX11_push : ByteArray := prog_13_method_57_code
def yX11_push : MethodName := ⟨RX11, "push", "(Z)V"⟩
abbrev cX11_settle : ByteArray := prog_13_method_58_code
def yX11_settle : MethodName := ⟨RX11, "settle", "(I)V"⟩
abbrev cX11_factOf : ByteArray := prog_13_method_59_code
def yX11_factOf : MethodName := ⟨RX11, "factOf", "(I)I"⟩
abbrev cX11_takesTest : ByteArray := prog_13_method_60_code
def yX11_takesTest : MethodName := ⟨RX11, "takesTest", "()Z"⟩
abbrev cX11_goes : ByteArray := prog_13_method_61_code
def yX11_goes : MethodName := ⟨RX11, "goes", "(I)Z"⟩
abbrev cX11_law : ByteArray := prog_13_method_62_code
def yX11_law : MethodName := ⟨RX11, "law", "(II)I"⟩
abbrev cX11_fitting : ByteArray := prog_13_method_63_code
def yX11_fitting : MethodName := ⟨RX11, "fitting", "(III)I"⟩
abbrev cX11_findFacts : ByteArray := prog_13_method_64_code
def yX11_findFacts : MethodName := ⟨RX11, "findFacts", "(II)V"⟩
abbrev cX11_says : ByteArray := prog_13_method_65_code
def yX11_says : MethodName := ⟨RX11, "says", "(III)I"⟩
abbrev cX11_look : ByteArray := prog_13_method_66_code
def yX11_look : MethodName := ⟨RX11, "look", "(I)I"⟩
abbrev cX11_partBy : ByteArray := prog_13_method_67_code
def yX11_partBy : MethodName := ⟨RX11, "partBy", "(III)I"⟩
abbrev cX11_ones : ByteArray := prog_13_method_68_code
def yX11_ones : MethodName := ⟨RX11, "ones", "(I)I"⟩
abbrev cX11_worthOf : ByteArray := prog_13_method_69_code
def yX11_worthOf : MethodName := ⟨RX11, "worthOf", "(II)I"⟩
abbrev cX11_isSet : ByteArray := prog_13_method_70_code
def yX11_isSet : MethodName := ⟨RX11, "isSet", "(I)Z"⟩
abbrev cX11_worth : ByteArray := prog_13_method_71_code
def yX11_worth : MethodName := ⟨RX11, "worth", "(II)I"⟩
abbrev cX11_next : ByteArray := prog_13_method_72_code
def yX11_next : MethodName := ⟨RX11, "next", "(I)I"⟩
abbrev cX11_worst : ByteArray := prog_13_method_73_code
def yX11_worst : MethodName := ⟨RX11, "worst", "(II)I"⟩
abbrev cX11_body : ByteArray := prog_13_method_74_code
def yX11_body : MethodName := ⟨RX11, "body", "(I)V"⟩
abbrev cX11_plainFits : ByteArray := prog_13_method_75_code
def yX11_plainFits : MethodName := ⟨RX11, "plainFits", "(II)I"⟩
abbrev cX11_heightFits : ByteArray := prog_13_method_76_code
def yX11_heightFits : MethodName := ⟨RX11, "heightFits", "(II)I"⟩
abbrev cX11_fitsOf : ByteArray := prog_13_method_77_code
def yX11_fitsOf : MethodName := ⟨RX11, "fitsOf", "(II)I"⟩
abbrev cX11_plainHangs : ByteArray := prog_13_method_78_code
def yX11_plainHangs : MethodName := ⟨RX11, "plainHangs", "(II)I"⟩
abbrev cX11_hangsOf : ByteArray := prog_13_method_79_code
def yX11_hangsOf : MethodName := ⟨RX11, "hangsOf", "(II)I"⟩
abbrev cX11_plainShows : ByteArray := prog_13_method_80_code
def yX11_plainShows : MethodName := ⟨RX11, "plainShows", "(II)I"⟩
abbrev cX11_heightShows : ByteArray := prog_13_method_81_code
def yX11_heightShows : MethodName := ⟨RX11, "heightShows", "(II)I"⟩
abbrev cX11_showsOf : ByteArray := prog_13_method_82_code
def yX11_showsOf : MethodName := ⟨RX11, "showsOf", "(II)I"⟩
abbrev cX11_act : ByteArray := prog_13_method_83_code
def yX11_act : MethodName := ⟨RX11, "act", "(III)I"⟩
abbrev cX11_trace : ByteArray := prog_13_method_84_code
def yX11_trace : MethodName := ⟨RX11, "trace", "(I)I"⟩
abbrev cX11_taken : ByteArray := prog_13_method_85_code
def yX11_taken : MethodName := ⟨RX11, "taken", "(II)I"⟩
abbrev cX11_count : ByteArray := prog_13_method_86_code
def yX11_count : MethodName := ⟨RX11, "count", "(I)I"⟩
abbrev cX11_isTape : ByteArray := prog_13_method_87_code
def yX11_isTape : MethodName := ⟨RX11, "isTape", "(I)Z"⟩
abbrev cX11_tape : ByteArray := prog_13_method_88_code
def yX11_tape : MethodName := ⟨RX11, "tape", "(III)I"⟩
abbrev cX11_item : ByteArray := prog_13_method_89_code
def yX11_item : MethodName := ⟨RX11, "item", "(III)I"⟩
abbrev cX11_read : ByteArray := prog_13_method_90_code
def yX11_read : MethodName := ⟨RX11, "read", "(II)I"⟩
abbrev cX11_shift : ByteArray := prog_13_method_91_code
def yX11_shift : MethodName := ⟨RX11, "shift", "(IIIII)I"⟩
def RJx8e188 : String := "java/lang/Cloneable"
def RJ6 : String := "java/lang/Integer"
abbrev cJ6_compare_7cf53 : ByteArray := prog_15_method_40_code
def yJ6_compare_7cf53 : MethodName := ⟨RJ6, "compare", "(II)I"⟩
abbrev cJ6_bitCount_0f7a4 : ByteArray := prog_15_method_49_code
def yJ6_bitCount_0f7a4 : MethodName := ⟨RJ6, "bitCount", "(I)I"⟩
def RJ9 : String := "java/lang/Math"
abbrev cJ9_floorDiv_7cf53 : ByteArray := prog_16_method_47_code
def yJ9_floorDiv_7cf53 : MethodName := ⟨RJ9, "floorDiv", "(II)I"⟩
abbrev cJ9_abs_0f7a4 : ByteArray := prog_16_method_59_code
def yJ9_abs_0f7a4 : MethodName := ⟨RJ9, "abs", "(I)I"⟩
abbrev cJ9_max_7cf53 : ByteArray := prog_16_method_65_code
def yJ9_max_7cf53 : MethodName := ⟨RJ9, "max", "(II)I"⟩
abbrev cJ9_min_7cf53 : ByteArray := prog_16_method_69_code
def yJ9_min_7cf53 : MethodName := ⟨RJ9, "min", "(II)I"⟩
def RJ10 : String := "java/lang/System"
def RJ7 : String := "java/util/Arrays"
abbrev cJ7_fill_53178 : ByteArray := prog_18_method_103_code
def yJ7_fill_53178 : MethodName := ⟨RJ7, "fill", "([II)V"⟩
abbrev cJ7_copyOf_59c91 : ByteArray := prog_18_method_123_code
def yJ7_copyOf_59c91 : MethodName := ⟨RJ7, "copyOf", "([II)[I"⟩
def RL : String := "PoleLogsLaw"
abbrev cL_law : ByteArray := code
def yL_law : MethodName := ⟨RL, "law", "([I)Z"⟩
abbrev vwCl : List vw_C := [(RX0, TX0, 2), (RX1, TX1, 2), (RX2, TX2, 4), (RX3, TX3, 3), (RX4, TX4, 10), (RX5, TX5, 3), (RX6, TX6, 5), (RX7, TX7, 9), (RX8, TX8, 3), (RX9, TX9, 5), (RX10, TX10, 18), (RX11, TX11, 59)]
end
section
/-! THE PURE MACHINE: cells by keys, runs of blocks, calls by numbers. What it answers, the machine does (part 05). -/
/-- ints (tag, length, contents); references (tag, length, contents); an object (class, fields): references are keys -/
abbrev PE : Type := (Nat × Nat × (Nat → Int32)) ⊕ ((Nat × Nat × (Nat → Option Nat)) ⊕ (Nat × List Value))
/-- the cells, how many of each kind were made, the keys as they were made, the slots made -/
abbrev PH : Type := (Nat → Option PE) × (Nat → Nat) × List Nat × Nat
abbrev PL : Type := List (Option Value)
abbrev PR : Type := Option (Option Value × PH)
/-- an instruction: pc, length, kind, a, b, x, v, ts -/
abbrev PI : Type := Nat × Nat × Nat × Nat × Nat × Nat × Int32 × List Nat
/-- arrays that nobody writes, by key (30000 on): tag, length, contents -/
abbrev RO : Type := Nat → Option (Nat × Nat × (Nat → Int32))
def ph_put (h : PH) (k : Nat) (e : PE) : PH := (va_up h.1 k (some e), h.2)
def ph_add (h : PH) (k kind n : Nat) (e : PE) : PH := (va_up h.1 k (some e), va_up h.2.1 kind (h.2.1 kind + 1), h.2.2.1 ++ [k], h.2.2.2 + n)
def gI (h : PH) (k ci j : Nat) (K : Int32 → PR) : PR := match h.1 k with
  | some (.inr (.inr (c, fs))) => if c = ci then (match fs[j]? with | some (.int x) => K x | _ => none) else none
  | _ => none
def gR (h : PH) (k ci j : Nat) (N : PR) (K : Nat → PR) : PR := match h.1 k with
  | some (.inr (.inr (c, fs))) => if c = ci then (match fs[j]? with | some (.ref q) => K q | some .null => N | _ => none) else none
  | _ => none
def pF (h : PH) (k ci j : Nat) (v : Value) (K : PH → PR) : PR := match h.1 k with
  | some (.inr (.inr (c, fs))) => if c = ci ∧ j < fs.length then K (ph_put h k (.inr (.inr (c, fs.set j v)))) else none
  | _ => none
def arr (ro : RO) (h : PH) (k : Nat) : Option (Nat × Nat × (Nat → Int32)) := if 30000 ≤ k then ro k else match h.1 k with
  | some (.inl x) => some x
  | _ => none
def aI (ro : RO) (h : PH) (k tg : Nat) (i : Int32) (K : Int32 → PR) : PR := match arr ro h k with
  | some (t, n, f) => if t = tg ∧ ¬ (i < 0 ∨ n ≤ i.toNatClampNeg) then K (f i.toNatClampNeg) else none
  | none => none
def aR (h : PH) (k : Nat) (i : Int32) (N : PR) (K : Nat → PR) : PR := match h.1 k with
  | some (.inr (.inl (_, n, g))) => if ¬ (i < 0 ∨ n ≤ i.toNatClampNeg) then (match g i.toNatClampNeg with | none => N | some q => K q) else none
  | _ => none
def aL (ro : RO) (h : PH) (k : Nat) (K : Int32 → PR) : PR := match arr ro h k with
  | some (_, n, _) => K (Int32.ofNat n)
  | none => none
def sI (h : PH) (k tg : Nat) (i v : Int32) (K : PH → PR) : PR := match h.1 k with
  | some (.inl (t, n, f)) => if t = tg ∧ ¬ (i < 0 ∨ n ≤ i.toNatClampNeg) then K (ph_put h k (.inl (t, n, upd f i.toNatClampNeg v))) else none
  | _ => none
def sR (h : PH) (k : Nat) (i : Int32) (q : Nat) (K : PH → PR) : PR := match h.1 k, h.1 q with
  | some (.inr (.inl (t, n, g))), some (.inr (.inr (c, _))) => if t = 10 + c ∧ ¬ (i < 0 ∨ n ≤ i.toNatClampNeg) then K (ph_put h k (.inr (.inl (t, n, va_up g i.toNatClampNeg (some q))))) else none
  | _, _ => none
def nO (h : PH) (ci N : Nat) (fs : List Value) (K : Nat → PH → PR) : PR :=
  if (h.1 (1000 * ci + h.2.1 ci)).isNone ∧ 1000 * ci + h.2.1 ci < 20000 then K (1000 * ci + h.2.1 ci) (ph_add h (1000 * ci + h.2.1 ci) ci N (.inr (.inr (ci, fs)))) else none
def nA (h : PH) (tg : Nat) (n : Int32) (f : Nat → Int32) (K : Nat → PH → PR) : PR :=
  if (h.1 (20000 + h.2.1 20)).isNone ∧ 20000 + h.2.1 20 < 30000 ∧ ¬ n < 0 ∧ n.toNatClampNeg ≤ 100000 then K (20000 + h.2.1 20) (ph_add h (20000 + h.2.1 20) 20 n.toNatClampNeg (.inl (tg, n.toNatClampNeg, f))) else none
def nQ (h : PH) (tg : Nat) (n : Int32) (K : Nat → PH → PR) : PR :=
  if (h.1 (20000 + h.2.1 20)).isNone ∧ 20000 + h.2.1 20 < 30000 ∧ ¬ n < 0 ∧ n.toNatClampNeg ≤ 100000 then K (20000 + h.2.1 20) (ph_add h (20000 + h.2.1 20) 20 n.toNatClampNeg (.inr (.inl (tg, n.toNatClampNeg, fun _ => none)))) else none
/-- System.arraycopy of ints -/
def cpA (h : PH) (k : Nat) (sp : Int32) (q : Nat) (dp n : Int32) (K : PH → PR) : PR := match h.1 k, h.1 q with
  | some (.inl (t0, n0, f)), some (.inl (t1, n1, g)) => if t0 = 0 ∧ t1 = 0 ∧ ¬ sp < 0 ∧ ¬ dp < 0 ∧ ¬ n < 0 ∧ sp.toNatClampNeg + n.toNatClampNeg ≤ n0 ∧ dp.toNatClampNeg + n.toNatClampNeg ≤ n1 then K (ph_put h q (.inl (t1, n1, va_cpy f g sp.toNatClampNeg dp.toNatClampNeg n.toNatClampNeg))) else none
  | _, _ => none
/-- clone of an array of ints -/
def clA (h : PH) (k : Nat) (K : Nat → PH → PR) : PR := match h.1 k with
  | some (.inl (t, n, f)) => if t = 0 ∧ (h.1 (20000 + h.2.1 20)).isNone ∧ 20000 + h.2.1 20 < 30000 then K (20000 + h.2.1 20) (ph_add h (20000 + h.2.1 20) 20 n (.inl (t, n, f))) else none
  | _ => none
def isA (h : PH) (k : Nat) : Bool := match h.1 k with
  | some (.inl (t, _, _)) => t == 0
  | _ => false
def isO (h : PH) (v : Option Value) (ci : Nat) : Bool := match v with
  | some (.ref k) => (match h.1 k with | some (.inr (.inr (c, _))) => c == ci | _ => false)
  | _ => false
def cI (r : PR) (K : Int32 → PH → PR) : PR := match r with
  | some (some (.int x), h) => K x h
  | _ => none
def cV (r : PR) (K : PH → PR) : PR := match r with
  | some (none, h) => K h
  | _ => none
def cR (r : PR) (N : PH → PR) (K : Nat → PH → PR) : PR := match r with
  | some (some (.ref k), h) => K k h
  | some (some .null, h) => N h
  | _ => none
def bop (a : Nat) (x y : Int32) : Int32 := match a with
  | 0 => x + y
  | 1 => x - y
  | 2 => x * y
  | 3 => x &&& y
  | 4 => x ||| y
  | 5 => x ^^^ y
  | 6 => x <<< (y &&& 31)
  | 7 => x >>> (y &&& 31)
  | _ => (x.toUInt32 >>> (y.toUInt32 &&& Int32.toUInt32 31)).toInt32
def uop (a : Nat) (x : Int32) : Int32 := match a with
  | 0 => -x
  | 1 => x.toInt8.toInt32
  | _ => x.toInt16.toInt32
/-- a comparison: 0 = , 1 ≠ , 2 < , 3 ≥ , 4 > , 5 ≤ -/
def cnd (a : Nat) (x y : Int32) (T F : PR) : PR := match a with
  | 0 => if x = y then T else F
  | 1 => if x = y then F else T
  | 2 => if x < y then T else F
  | 3 => if x < y then F else T
  | 4 => if y < x then T else F
  | _ => if y < x then F else T
def swt (F : Nat → PR) (b : Nat) (y : Int32) : List Nat → Int32 → PR
  | [], _ => F b
  | t :: ts, v => if y = v then F t else swt F b y ts (v + 1)
def swl (F : Nat → PR) (b : Nat) (y : Int32) : List Nat → PR
  | k :: t :: ts => if y = Int32.ofNat k then F t else swl F b y ts
  | _ => F b
/-- the fields of a class, as they are at first -/
def clN : Nat → Nat := fun ci => (vwCl.getD ci ("", TX0, 0)).2.2
def clT : Nat → Nat → FieldType
  | 0 => tyX0 | 1 => tyX1 | 2 => tyX2 | 3 => tyX3 | 4 => tyX4 | 5 => tyX5 | 6 => tyX6 | 7 => tyX7 | 8 => tyX8 | 9 => tyX9 | 10 => tyX10 | _ => tyX11
def dfl (ci : Nat) : List Value := (List.range (clN ci)).map (fun j => defaultValue (clT ci j))
def step (ro : RO) (J : Nat → PL → List Value → PH → PR) (C : Nat → List Value → PH → PR) (i : PI) (lv : PL) (st : List Value) (h : PH) (K : PL → List Value → PH → PR) : PR :=
  match i with
  | (_, _, op, a, b, x, v, ts) => match op with
    | 0 => K lv (.int v :: st) h
    | 1 => (match lv[a]? with | some (some (.int y)) => K lv (.int y :: st) h | _ => none)
    | 2 => (match lv[a]? with | some (some (.ref q)) => K lv (.ref q :: st) h | some (some .null) => K lv (.null :: st) h | _ => none)
    | 3 => (match st with | .int y :: st => K (lv.set a (some (.int y))) st h | _ => none)
    | 4 => (match st with | .ref q :: st => K (lv.set a (some (.ref q))) st h | .null :: st => K (lv.set a (some .null)) st h | _ => none)
    | 5 => (match lv[a]? with | some (some (.int y)) => K (lv.set a (some (.int (y + v)))) st h | _ => none)
    | 6 => (match st with | .int y :: .int z :: st => K lv (.int (bop a z y) :: st) h | _ => none)
    | 7 => (match st with | .int y :: .int z :: st => if y = 0 then none else K lv (.int (z / y) :: st) h | _ => none)
    | 8 => (match st with | .int y :: .int z :: st => if y = 0 then none else K lv (.int (z - z / y * y) :: st) h | _ => none)
    | 9 => (match st with | .int z :: st => K lv (.int (uop a z) :: st) h | _ => none)
    | 10 => (match st with | .int z :: st => cnd a z 0 (J b lv st h) (K lv st h) | _ => none)
    | 11 => (match st with | .int y :: .int z :: st => cnd a z y (J b lv st h) (K lv st h) | _ => none)
    | 12 => (match st with | .ref _ :: st => K lv st h | .null :: st => J b lv st h | _ => none)
    | 13 => (match st with | .ref _ :: st => J b lv st h | .null :: st => K lv st h | _ => none)
    | 14 => J b lv st h
    | 15 => (match st with | .int y :: st => swt (fun t => J t lv st h) b y ts v | _ => none)
    | 16 => (match st with | .int y :: st => swl (fun t => J t lv st h) b y ts | _ => none)
    | 17 => (match st with | .ref k :: st => gI h k a b (fun y => K lv (.int y :: st) h) | _ => none)
    | 18 => (match st with | .ref k :: st => gR h k a b (K lv (.null :: st) h) (fun q => K lv (.ref q :: st) h) | _ => none)
    | 19 => (match st with | .int y :: .ref k :: st => pF h k a b (.int y) (fun h => K lv st h) | _ => none)
    | 20 => (match st with | .int y :: .ref k :: st => if y = 0 ∨ y = 1 then pF h k a b (.int y) (fun h => K lv st h) else none | _ => none)
    | 21 => (match st with | .ref q :: .ref k :: st => pF h k a b (.ref q) (fun h => K lv st h) | _ => none)
    | 22 => (match st with | .int y :: .ref k :: st => aI ro h k a y (fun z => K lv (.int z :: st) h) | _ => none)
    | 23 => (match st with | .int y :: .ref k :: st => aR h k y (K lv (.null :: st) h) (fun q => K lv (.ref q :: st) h) | _ => none)
    | 24 => (match st with | .int z :: .int y :: .ref k :: st => sI h k 0 y z (fun h => K lv st h) | _ => none)
    | 25 => (match st with | .int z :: .int y :: .ref k :: st => sI h k 1 y (vp_nar .boolean z) (fun h => K lv st h) | _ => none)
    | 26 => (match st with | .ref q :: .int y :: .ref k :: st => sR h k y q (fun h => K lv st h) | _ => none)
    | 27 => (match st with | .ref k :: st => aL ro h k (fun z => K lv (.int z :: st) h) | _ => none)
    | 28 => K lv (.ref (30000 + a) :: st) h
    | 29 => nO h a (clN a) (dfl a) (fun k h => K lv (.ref k :: st) h)
    | 30 => (match st with | .int y :: st => nA h a y (fun _ => 0) (fun k h => K lv (.ref k :: st) h) | _ => none)
    | 31 => (match st with | .int y :: st => nQ h a y (fun k h => K lv (.ref k :: st) h) | _ => none)
    | 32 => (match st with | y :: st => if y.category = 1 then K lv (y :: y :: st) h else none | _ => none)
    | 33 => (match st with | y :: z :: st => if y.category = 1 ∧ z.category = 1 then K lv (y :: z :: y :: z :: st) h else none | _ => none)
    | 34 => (match st with | y :: st => if y.category = 1 then K lv st h else none | _ => none)
    | 35 => if b ≤ st.length ∧ st.length ≤ b + 4 ∧ (x = 0 ∨ isO h ((st.take b).reverse)[0]? (x - 1)) then cI (C a (st.take b).reverse h) (fun y h => K lv (.int y :: st.drop b) h) else none
    | 36 => if b ≤ st.length ∧ st.length ≤ b + 4 ∧ (x = 0 ∨ isO h ((st.take b).reverse)[0]? (x - 1)) then cV (C a (st.take b).reverse h) (fun h => K lv (st.drop b) h) else none
    | 37 => if b ≤ st.length ∧ st.length ≤ b + 4 ∧ (x = 0 ∨ isO h ((st.take b).reverse)[0]? (x - 1)) then cR (C a (st.take b).reverse h) (fun h => K lv (.null :: st.drop b) h) (fun q h => K lv (.ref q :: st.drop b) h) else none
    | 38 => (match st with | [] => some (none, h) | _ => none)
    | 39 => (match st with | [.int y] => some (some (.int y), h) | _ => none)
    | 40 => (match st with | [.int y] => if y = 0 ∨ y = 1 then some (some (.int y), h) else none | _ => none)
    | 41 => (match st with | [.ref q] => some (some (.ref q), h) | [.null] => some (some .null, h) | _ => none)
    | 42 => K lv (.null :: st) h
    | 43 => (match st with | .ref _ :: st => if st.length ≤ 4 then K lv st h else none | _ => none)
    | 44 => (match st with | .int n :: .int dp :: .ref q :: .int sp :: .ref k :: st => if st.length ≤ 4 then cpA h k sp q dp n (fun h => K lv st h) else none | _ => none)
    | 45 => J b lv st h
    | 46 => (match st with | .ref k :: st => if st.length ≤ 4 then clA h k (fun q h => K lv (.ref q :: st) h) else none | _ => none)
    | 47 => (match st with | .ref k :: st => if isA h k then K lv (.ref k :: st) h else none | _ => none)
    | _ => none
def run (ro : RO) (J : Nat → PL → List Value → PH → PR) (C : Nat → List Value → PH → PR) : List PI → PL → List Value → PH → PR
  | [], _, _, _ => none
  | i :: is, lv, st, h => step ro J C i lv st h (run ro J C is)
def pget : List (Nat × List PI) → Nat → List PI
  | [], _ => []
  | (k, b) :: r, t => if k = t then b else pget r t
def EXn (ro : RO) (B : List (Nat × List PI)) (C : Nat → List Value → PH → PR) : Nat → Nat → PL → List Value → PH → PR
  | 0 => fun _ _ _ _ => none
  | n + 1 => fun t lv st h => run ro (EXn ro B C n) C (pget B t) lv st h
def entry (nL : Nat) (as : List Value) : PL := as.map some ++ List.replicate (nL - as.length) none
/-- a call at most d deep; F: how many blocks a method may run through -/
def CALL (ro : RO) (P : Nat → List (Nat × List PI)) (mL : Nat → Nat) (F : Nat) : Nat → Nat → List Value → PH → PR
  | 0 => fun _ _ _ => none
  | d + 1 => fun M as h => if as.length ≤ mL M ∧ as.all (fun v => v.category == 1) = true then EXn ro (P M) (CALL ro P mL F d) F 0 (entry (mL M) as) [] h else none
/-! what is made stays made -/
def PLe (h h' : PH) : Prop := h.2.2.1 <+: h'.2.2.1 ∧ h.2.2.2 ≤ h'.2.2.2
theorem PLe.rf (h : PH) : PLe h h := ⟨List.prefix_refl _, Nat.le_refl _⟩
theorem PLe.tr {a b c : PH} (h1 : PLe a b) (h2 : PLe b c) : PLe a c := ⟨h1.1.trans h2.1, Nat.le_trans h1.2 h2.2⟩
theorem PLe.put (h : PH) (k : Nat) (e : PE) : PLe h (ph_put h k e) := PLe.rf h
theorem PLe.add (h : PH) (k kind n : Nat) (e : PE) : PLe h (ph_add h k kind n e) := ⟨List.prefix_append _ _, Nat.le_add_right _ _⟩
end
section
/-! what an answer of a piece of the pure machine says -/
section PINV
variable {ro : RO} {h : PH} {r : Option Value × PH}
theorem gI_inv {k ci j : Nat} {K : Int32 → PR} (e : gI h k ci j K = some r) : ∃ fs x, h.1 k = some (.inr (.inr (ci, fs))) ∧ fs[j]? = some (.int x) ∧ K x = some r := by
  unfold gI at e
  split at e
  · rename_i c fs hk
    split at e
    · rename_i hc
      subst hc
      split at e
      · rename_i x hx
        exact ⟨fs, x, hk, hx, e⟩
      · cases e
    · cases e
  · cases e
theorem gR_inv {k ci j : Nat} {N : PR} {K : Nat → PR} (e : gR h k ci j N K = some r) : ∃ fs, h.1 k = some (.inr (.inr (ci, fs))) ∧ ((∃ q, fs[j]? = some (.ref q) ∧ K q = some r) ∨ (fs[j]? = some .null ∧ N = some r)) := by
  unfold gR at e
  split at e
  · rename_i c fs hk
    split at e
    · rename_i hc
      subst hc
      split at e
      · rename_i q hx
        exact ⟨fs, hk, Or.inl ⟨q, hx, e⟩⟩
      · rename_i hx
        exact ⟨fs, hk, Or.inr ⟨hx, e⟩⟩
      · cases e
    · cases e
  · cases e
theorem pF_inv {k ci j : Nat} {v : Value} {K : PH → PR} (e : pF h k ci j v K = some r) : ∃ fs, h.1 k = some (.inr (.inr (ci, fs))) ∧ j < fs.length ∧ K (ph_put h k (.inr (.inr (ci, fs.set j v)))) = some r := by
  unfold pF at e
  split at e
  · rename_i c fs hk
    split at e
    · rename_i hc
      obtain ⟨rfl, hj⟩ := hc
      exact ⟨fs, hk, hj, e⟩
    · cases e
  · cases e
theorem aI_inv {k tg : Nat} {i : Int32} {K : Int32 → PR} (e : aI ro h k tg i K = some r) : ∃ n f, arr ro h k = some (tg, n, f) ∧ vp_in i n ∧ K (f i.toNatClampNeg) = some r := by
  unfold aI at e
  split at e
  · rename_i t n f hk
    split at e
    · rename_i hc
      obtain ⟨rfl, hj⟩ := hc
      exact ⟨n, f, hk, hj, e⟩
    · cases e
  · cases e
theorem aR_inv {k : Nat} {i : Int32} {N : PR} {K : Nat → PR} (e : aR h k i N K = some r) : ∃ t n g, h.1 k = some (.inr (.inl (t, n, g))) ∧ vp_in i n ∧ ((∃ q, g i.toNatClampNeg = some q ∧ K q = some r) ∨ (g i.toNatClampNeg = none ∧ N = some r)) := by
  unfold aR at e
  split at e
  · rename_i t n g hk
    split at e
    · rename_i hc
      split at e
      · rename_i hq
        exact ⟨t, n, g, hk, hc, Or.inr ⟨hq, e⟩⟩
      · rename_i q hq
        exact ⟨t, n, g, hk, hc, Or.inl ⟨q, hq, e⟩⟩
    · cases e
  · cases e
theorem aL_inv {k : Nat} {K : Int32 → PR} (e : aL ro h k K = some r) : ∃ t n f, arr ro h k = some (t, n, f) ∧ K (Int32.ofNat n) = some r := by
  unfold aL at e
  split at e
  · rename_i t n f hk
    exact ⟨t, n, f, hk, e⟩
  · cases e
theorem sI_inv {k tg : Nat} {i v : Int32} {K : PH → PR} (e : sI h k tg i v K = some r) : ∃ n f, h.1 k = some (.inl (tg, n, f)) ∧ vp_in i n ∧ K (ph_put h k (.inl (tg, n, upd f i.toNatClampNeg v))) = some r := by
  unfold sI at e
  split at e
  · rename_i t n f hk
    split at e
    · rename_i hc
      obtain ⟨rfl, hj⟩ := hc
      exact ⟨n, f, hk, hj, e⟩
    · cases e
  · cases e
theorem sR_inv {k q : Nat} {i : Int32} {K : PH → PR} (e : sR h k i q K = some r) : ∃ n g c fs, h.1 k = some (.inr (.inl (10 + c, n, g))) ∧ h.1 q = some (.inr (.inr (c, fs))) ∧ vp_in i n ∧ K (ph_put h k (.inr (.inl (10 + c, n, va_up g i.toNatClampNeg (some q))))) = some r := by
  unfold sR at e
  split at e
  · rename_i t n g c fs hk hq
    split at e
    · rename_i hc
      obtain ⟨rfl, hj⟩ := hc
      exact ⟨n, g, c, fs, hk, hq, hj, e⟩
    · cases e
  · cases e
theorem nO_inv {ci N : Nat} {fs : List Value} {K : Nat → PH → PR} (e : nO h ci N fs K = some r) : h.1 (1000 * ci + h.2.1 ci) = none ∧ 1000 * ci + h.2.1 ci < 30000 ∧ K (1000 * ci + h.2.1 ci) (ph_add h (1000 * ci + h.2.1 ci) ci N (.inr (.inr (ci, fs)))) = some r := by
  unfold nO at e
  split at e
  · rename_i hc
    exact ⟨by simpa using hc.1, by omega, e⟩
  · cases e
theorem nA_inv {tg : Nat} {n : Int32} {f : Nat → Int32} {K : Nat → PH → PR} (e : nA h tg n f K = some r) : h.1 (20000 + h.2.1 20) = none ∧ 20000 + h.2.1 20 < 30000 ∧ ¬ n < 0 ∧ n.toNatClampNeg ≤ 100000 ∧ K (20000 + h.2.1 20) (ph_add h (20000 + h.2.1 20) 20 n.toNatClampNeg (.inl (tg, n.toNatClampNeg, f))) = some r := by
  unfold nA at e
  split at e
  · rename_i hc
    exact ⟨by simpa using hc.1, hc.2.1, hc.2.2.1, hc.2.2.2, e⟩
  · cases e
theorem nQ_inv {tg : Nat} {n : Int32} {K : Nat → PH → PR} (e : nQ h tg n K = some r) : h.1 (20000 + h.2.1 20) = none ∧ 20000 + h.2.1 20 < 30000 ∧ ¬ n < 0 ∧ n.toNatClampNeg ≤ 100000 ∧ K (20000 + h.2.1 20) (ph_add h (20000 + h.2.1 20) 20 n.toNatClampNeg (.inr (.inl (tg, n.toNatClampNeg, fun _ => none)))) = some r := by
  unfold nQ at e
  split at e
  · rename_i hc
    exact ⟨by simpa using hc.1, hc.2.1, hc.2.2.1, hc.2.2.2, e⟩
  · cases e
theorem cpA_inv {k q : Nat} {sp dp n : Int32} {K : PH → PR} (e : cpA h k sp q dp n K = some r) : ∃ n0 f n1 g, h.1 k = some (.inl (0, n0, f)) ∧ h.1 q = some (.inl (0, n1, g)) ∧ ¬ sp < 0 ∧ ¬ dp < 0 ∧ ¬ n < 0 ∧ sp.toNatClampNeg + n.toNatClampNeg ≤ n0 ∧ dp.toNatClampNeg + n.toNatClampNeg ≤ n1 ∧ K (ph_put h q (.inl (0, n1, va_cpy f g sp.toNatClampNeg dp.toNatClampNeg n.toNatClampNeg))) = some r := by
  unfold cpA at e
  split at e
  · rename_i t0 n0 f t1 n1 g hk hq
    split at e
    · rename_i hc
      obtain ⟨rfl, rfl, h1, h2, h3, h4, h5⟩ := hc
      exact ⟨n0, f, n1, g, hk, hq, h1, h2, h3, h4, h5, e⟩
    · cases e
  · cases e
theorem clA_inv {k : Nat} {K : Nat → PH → PR} (e : clA h k K = some r) : ∃ n f, h.1 k = some (.inl (0, n, f)) ∧ h.1 (20000 + h.2.1 20) = none ∧ 20000 + h.2.1 20 < 30000 ∧ K (20000 + h.2.1 20) (ph_add h (20000 + h.2.1 20) 20 n (.inl (0, n, f))) = some r := by
  unfold clA at e
  split at e
  · rename_i t n f hk
    split at e
    · rename_i hc
      obtain ⟨rfl, h1, h2⟩ := hc
      exact ⟨n, f, hk, by simpa using h1, h2, e⟩
    · cases e
  · cases e
theorem isA_inv {k : Nat} (e : isA h k = true) : ∃ n f, h.1 k = some (.inl (0, n, f)) := by
  unfold isA at e
  split at e
  · rename_i t n f hk
    have : t = 0 := by simpa using e
    subst this
    exact ⟨n, f, hk⟩
  · cases e
theorem isO_inv {v : Option Value} {ci : Nat} (e : isO h v ci = true) : ∃ k fs, v = some (.ref k) ∧ h.1 k = some (.inr (.inr (ci, fs))) := by
  unfold isO at e
  split at e
  · rename_i k
    split at e
    · rename_i c fs hk
      have : c = ci := by simpa using e
      subst this
      exact ⟨k, fs, rfl, hk⟩
    · cases e
  · cases e
theorem cI_inv {q : PR} {K : Int32 → PH → PR} (e : cI q K = some r) : ∃ x h1, q = some (some (.int x), h1) ∧ K x h1 = some r := by
  unfold cI at e
  split at e
  · exact ⟨_, _, rfl, e⟩
  · cases e
theorem cV_inv {q : PR} {K : PH → PR} (e : cV q K = some r) : ∃ h1, q = some (none, h1) ∧ K h1 = some r := by
  unfold cV at e
  split at e
  · exact ⟨_, rfl, e⟩
  · cases e
theorem cR_inv {q : PR} {N : PH → PR} {K : Nat → PH → PR} (e : cR q N K = some r) : (∃ k h1, q = some (some (.ref k), h1) ∧ K k h1 = some r) ∨ ∃ h1, q = some (some .null, h1) ∧ N h1 = some r := by
  unfold cR at e
  split at e
  · exact Or.inl ⟨_, _, rfl, e⟩
  · exact Or.inr ⟨_, rfl, e⟩
  · cases e
theorem cnd_or {a : Nat} {x y : Int32} {T F : PR} (e : cnd a x y T F = some r) : T = some r ∨ F = some r := by
  unfold cnd at e
  split at e <;> split at e <;> first | exact Or.inl e | exact Or.inr e
theorem swt_or {F : Nat → PR} {b : Nat} {y : Int32} : ∀ {ts : List Nat} {v : Int32}, swt F b y ts v = some r → ∃ t, F t = some r
  | [], v, e => ⟨b, e⟩
  | t :: ts, v, e => by
    unfold swt at e
    split at e
    · exact ⟨t, e⟩
    · exact swt_or e
theorem swl_or {F : Nat → PR} {b : Nat} {y : Int32} : ∀ {ts : List Nat}, swl F b y ts = some r → ∃ t, F t = some r
  | [], e => ⟨b, e⟩
  | [_], e => ⟨b, e⟩
  | k :: t :: ts, e => by
    unfold swl at e
    split at e
    · exact ⟨t, e⟩
    · exact swl_or e
end PINV
theorem step_mono {ro : RO} {J : Nat → PL → List Value → PH → PR} {C : Nat → List Value → PH → PR} {lv : PL} {st : List Value} {h : PH} {K : PL → List Value → PH → PR} {r : Option Value} {h' : PH}
    (hJ : ∀ t lv st h1, J t lv st h1 = some (r, h') → PLe h1 h') (hC : ∀ M as h1 v h2, C M as h1 = some (v, h2) → PLe h1 h2) (hK : ∀ lv st h1, K lv st h1 = some (r, h') → PLe h1 h') :
    ∀ (i : PI), step ro J C i lv st h K = some (r, h') → PLe h h'
  | (_, _, 0, _, _, _, _, _), e => hK _ _ _ e
  | (_, _, 1, a, _, _, _, _), e => by
    simp only [step] at e
    split at e
    · exact hK _ _ _ e
    · cases e
  | (_, _, 2, a, _, _, _, _), e => by
    simp only [step] at e
    split at e
    · exact hK _ _ _ e
    · exact hK _ _ _ e
    · cases e
  | (_, _, 3, a, _, _, _, _), e => by
    simp only [step] at e
    split at e
    · exact hK _ _ _ e
    · cases e
  | (_, _, 4, a, _, _, _, _), e => by
    simp only [step] at e
    split at e
    · exact hK _ _ _ e
    · exact hK _ _ _ e
    · cases e
  | (_, _, 5, a, _, _, _, _), e => by
    simp only [step] at e
    split at e
    · exact hK _ _ _ e
    · cases e
  | (_, _, 6, a, _, _, _, _), e => by
    simp only [step] at e
    split at e
    · exact hK _ _ _ e
    · cases e
  | (_, _, 7, a, _, _, _, _), e => by
    simp only [step] at e
    split at e
    · split at e
      · cases e
      · exact hK _ _ _ e
    · cases e
  | (_, _, 8, a, _, _, _, _), e => by
    simp only [step] at e
    split at e
    · split at e
      · cases e
      · exact hK _ _ _ e
    · cases e
  | (_, _, 9, a, _, _, _, _), e => by
    simp only [step] at e
    split at e
    · exact hK _ _ _ e
    · cases e
  | (_, _, 10, a, _, _, _, _), e => by
    simp only [step] at e
    split at e
    · rcases cnd_or e with e | e
      · exact hJ _ _ _ _ e
      · exact hK _ _ _ e
    · cases e
  | (_, _, 11, a, _, _, _, _), e => by
    simp only [step] at e
    split at e
    · rcases cnd_or e with e | e
      · exact hJ _ _ _ _ e
      · exact hK _ _ _ e
    · cases e
  | (_, _, 12, a, _, _, _, _), e => by
    simp only [step] at e
    split at e
    · exact hK _ _ _ e
    · exact hJ _ _ _ _ e
    · cases e
  | (_, _, 13, a, _, _, _, _), e => by
    simp only [step] at e
    split at e
    · exact hJ _ _ _ _ e
    · exact hK _ _ _ e
    · cases e
  | (_, _, 14, _, _, _, _, _), e => hJ _ _ _ _ e
  | (_, _, 15, a, _, _, _, _), e => by
    simp only [step] at e
    split at e
    · obtain ⟨t, e⟩ := swt_or e
      exact hJ _ _ _ _ e
    · cases e
  | (_, _, 16, a, _, _, _, _), e => by
    simp only [step] at e
    split at e
    · obtain ⟨t, e⟩ := swl_or e
      exact hJ _ _ _ _ e
    · cases e
  | (_, _, 17, a, _, _, _, _), e => by
    simp only [step] at e
    split at e
    · obtain ⟨_, _, _, _, e⟩ := gI_inv e
      exact hK _ _ _ e
    · cases e
  | (_, _, 18, a, _, _, _, _), e => by
    simp only [step] at e
    split at e
    · obtain ⟨_, _, ⟨_, _, e⟩ | ⟨_, e⟩⟩ := gR_inv e
      · exact hK _ _ _ e
      · exact hK _ _ _ e
    · cases e
  | (_, _, 19, a, _, _, _, _), e => by
    simp only [step] at e
    split at e
    · obtain ⟨_, _, _, e⟩ := pF_inv e
      exact (PLe.put _ _ _).tr (hK _ _ _ e)
    · cases e
  | (_, _, 20, a, _, _, _, _), e => by
    simp only [step] at e
    split at e
    · split at e
      · obtain ⟨_, _, _, e⟩ := pF_inv e
        exact (PLe.put _ _ _).tr (hK _ _ _ e)
      · cases e
    · cases e
  | (_, _, 21, a, _, _, _, _), e => by
    simp only [step] at e
    split at e
    · obtain ⟨_, _, _, e⟩ := pF_inv e
      exact (PLe.put _ _ _).tr (hK _ _ _ e)
    · cases e
  | (_, _, 22, a, _, _, _, _), e => by
    simp only [step] at e
    split at e
    · obtain ⟨_, _, _, _, e⟩ := aI_inv e
      exact hK _ _ _ e
    · cases e
  | (_, _, 23, a, _, _, _, _), e => by
    simp only [step] at e
    split at e
    · obtain ⟨_, _, _, _, _, ⟨_, _, e⟩ | ⟨_, e⟩⟩ := aR_inv e
      · exact hK _ _ _ e
      · exact hK _ _ _ e
    · cases e
  | (_, _, 24, a, _, _, _, _), e => by
    simp only [step] at e
    split at e
    · obtain ⟨_, _, _, _, e⟩ := sI_inv e
      exact (PLe.put _ _ _).tr (hK _ _ _ e)
    · cases e
  | (_, _, 25, a, _, _, _, _), e => by
    simp only [step] at e
    split at e
    · obtain ⟨_, _, _, _, e⟩ := sI_inv e
      exact (PLe.put _ _ _).tr (hK _ _ _ e)
    · cases e
  | (_, _, 26, a, _, _, _, _), e => by
    simp only [step] at e
    split at e
    · obtain ⟨_, _, _, _, _, _, _, e⟩ := sR_inv e
      exact (PLe.put _ _ _).tr (hK _ _ _ e)
    · cases e
  | (_, _, 27, a, _, _, _, _), e => by
    simp only [step] at e
    split at e
    · obtain ⟨_, _, _, _, e⟩ := aL_inv e
      exact hK _ _ _ e
    · cases e
  | (_, _, 28, _, _, _, _, _), e => hK _ _ _ e
  | (_, _, 29, a, _, _, _, _), e => by
    simp only [step] at e
    exact (PLe.add _ _ _ _ _).tr (hK _ _ _ (nO_inv e).2.2)
  | (_, _, 30, a, _, _, _, _), e => by
    simp only [step] at e
    split at e
    · exact (PLe.add _ _ _ _ _).tr (hK _ _ _ (nA_inv e).2.2.2.2)
    · cases e
  | (_, _, 31, a, _, _, _, _), e => by
    simp only [step] at e
    split at e
    · exact (PLe.add _ _ _ _ _).tr (hK _ _ _ (nQ_inv e).2.2.2.2)
    · cases e
  | (_, _, 32, a, _, _, _, _), e => by
    simp only [step] at e
    split at e
    · split at e
      · exact hK _ _ _ e
      · cases e
    · cases e
  | (_, _, 33, a, _, _, _, _), e => by
    simp only [step] at e
    split at e
    · split at e
      · exact hK _ _ _ e
      · cases e
    · cases e
  | (_, _, 34, a, _, _, _, _), e => by
    simp only [step] at e
    split at e
    · split at e
      · exact hK _ _ _ e
      · cases e
    · cases e
  | (_, _, 35, a, _, _, _, _), e => by
    simp only [step] at e
    split at e
    · obtain ⟨_, _, e1, e⟩ := cI_inv e
      exact (hC _ _ _ _ _ e1).tr (hK _ _ _ e)
    · cases e
  | (_, _, 36, a, _, _, _, _), e => by
    simp only [step] at e
    split at e
    · obtain ⟨_, e1, e⟩ := cV_inv e
      exact (hC _ _ _ _ _ e1).tr (hK _ _ _ e)
    · cases e
  | (_, _, 37, a, _, _, _, _), e => by
    simp only [step] at e
    split at e
    · rcases cR_inv e with ⟨_, _, e1, e⟩ | ⟨_, e1, e⟩
      · exact (hC _ _ _ _ _ e1).tr (hK _ _ _ e)
      · exact (hC _ _ _ _ _ e1).tr (hK _ _ _ e)
    · cases e
  | (_, _, 38, a, _, _, _, _), e => by
    simp only [step] at e
    split at e
    · cases e; exact PLe.rf _
    · cases e
  | (_, _, 39, a, _, _, _, _), e => by
    simp only [step] at e
    split at e
    · cases e; exact PLe.rf _
    · cases e
  | (_, _, 40, a, _, _, _, _), e => by
    simp only [step] at e
    split at e
    · split at e
      · cases e; exact PLe.rf _
      · cases e
    · cases e
  | (_, _, 41, a, _, _, _, _), e => by
    simp only [step] at e
    split at e
    · cases e; exact PLe.rf _
    · cases e; exact PLe.rf _
    · cases e
  | (_, _, 42, _, _, _, _, _), e => hK _ _ _ e
  | (_, _, 43, a, _, _, _, _), e => by
    simp only [step] at e
    split at e
    · split at e
      · exact hK _ _ _ e
      · cases e
    · cases e
  | (_, _, 44, a, _, _, _, _), e => by
    simp only [step] at e
    split at e
    · split at e
      · obtain ⟨_, _, _, _, _, _, _, _, _, _, _, e⟩ := cpA_inv e
        exact (PLe.put _ _ _).tr (hK _ _ _ e)
      · cases e
    · cases e
  | (_, _, 45, _, _, _, _, _), e => hJ _ _ _ _ e
  | (_, _, 46, a, _, _, _, _), e => by
    simp only [step] at e
    split at e
    · split at e
      · obtain ⟨_, _, _, _, _, e⟩ := clA_inv e
        exact (PLe.add _ _ _ _ _).tr (hK _ _ _ e)
      · cases e
    · cases e
  | (_, _, 47, a, _, _, _, _), e => by
    simp only [step] at e
    split at e
    · split at e
      · exact hK _ _ _ e
      · cases e
    · cases e
  | (_, _, n + 48, a, _, _, _, _), e => by
    simp only [step] at e
    cases e
theorem run_mono {ro : RO} {J : Nat → PL → List Value → PH → PR} {C : Nat → List Value → PH → PR} {r : Option Value} {h' : PH}
    (hJ : ∀ t lv st h1, J t lv st h1 = some (r, h') → PLe h1 h') (hC : ∀ M as h1 v h2, C M as h1 = some (v, h2) → PLe h1 h2) :
    ∀ (is : List PI) (lv : PL) (st : List Value) (h : PH), run ro J C is lv st h = some (r, h') → PLe h h'
  | [], _, _, _, e => by cases e
  | i :: is, lv, st, h, e => step_mono hJ hC (run_mono hJ hC is) i e
theorem EXn_mono {ro : RO} {B : List (Nat × List PI)} {C : Nat → List Value → PH → PR} {r : Option Value} {h' : PH} (hC : ∀ M as h1 v h2, C M as h1 = some (v, h2) → PLe h1 h2) :
    ∀ (n t : Nat) (lv : PL) (st : List Value) (h : PH), EXn ro B C n t lv st h = some (r, h') → PLe h h'
  | 0, _, _, _, _, e => by cases e
  | n + 1, t, lv, st, h, e => run_mono (EXn_mono hC n) hC (pget B t) lv st h e
theorem CALL_mono {ro : RO} {P : Nat → List (Nat × List PI)} {mL : Nat → Nat} {F : Nat} :
    ∀ (d M : Nat) (as : List Value) (h : PH) (r : Option Value) (h' : PH), CALL ro P mL F d M as h = some (r, h') → PLe h h'
  | 0, _, _, _, _, _, e => by cases e
  | d + 1, M, as, h, r, h', e => by
    unfold CALL at e
    split at e
    · exact EXn_mono (CALL_mono d) F 0 _ _ _ e
    · cases e
end
section
/-! THE WORLD: what heap of the machine the pure cells stand for -/
def q_tr (ad : Nat → Nat) : Value → Value
  | .ref k => .ref (ad k)
  | v => v
theorem q_tr_cat (ad : Nat → Nat) (v : Value) : (q_tr ad v).category = v.category := by cases v <;> rfl
def q_trE (dA : Nat → ClassId) (ad : Nat → Nat) : PE → va_E
  | .inl (t, n, f) => .inl (dA t, n, .inl f)
  | .inr (.inl (t, n, g)) => .inl (dA t, n, .inr (.inr (.inr (.inr (fun i => (g i).map ad)))))
  | .inr (.inr (c, fs)) => .inr (c, fs.map (q_tr ad))
def q_WL (dA : Nat → ClassId) (ad : Nat → Nat) (h : PH) : va_W := h.2.2.1.map (fun k => (ad k, q_trE dA ad ((h.1 k).getD (.inr (.inr (0, []))))))
def tgT (t : Nat) : FieldType := match t with
  | 0 => .int
  | 1 => .boolean
  | 2 => .char
  | t => .object (vwCl.getD (t - 10) ("", TX0, 0)).1
def tgs : List Nat := [0, 1, 2, 13, 14, 17, 18]
def q_ok : PE → Prop
  | .inl (t, _, _) => t = 0 ∨ t = 1 ∨ t = 2
  | .inr (.inl (t, _, _)) => t = 13 ∨ t = 14 ∨ t = 17 ∨ t = 18
  | .inr (.inr (c, _)) => c < 12
abbrev q_A (base : Nat) : Nat → Prop := fun q => base ≤ q
/-- the heap holds the pure cells, each at its address -/
def q_Rep (D : va_G) (dA : Nat → ClassId) (base : Nat) (ad : Nat → Nat) (h : PH) (H : Heap) : Prop :=
  H.size = base + h.2.2.1.length ∧ h.2.2.1.Nodup ∧ (∀ k, (h.1 k).isSome = true ↔ k ∈ h.2.2.1) ∧ (∀ k ∈ h.2.2.1, k < 30000) ∧ (∀ k e, h.1 k = some e → q_ok e) ∧
  va_P D vwCl (q_WL dA ad h) H ∧ va_D (q_A base) (q_WL dA ad h)
theorem q_WL_at {dA : Nat → ClassId} {ad : Nat → Nat} {h : PH} {k i : Nat} {e : PE} (hi : h.2.2.1[i]? = some k) (he : h.1 k = some e) : (q_WL dA ad h)[i]? = some (ad k, q_trE dA ad e) := by
  simp [q_WL, hi, he]
theorem q_Rep.idx {D : va_G} {dA : Nat → ClassId} {base : Nat} {ad : Nat → Nat} {h : PH} {H : Heap} (hR : q_Rep D dA base ad h H) {k : Nat} {e : PE} (he : h.1 k = some e) : ∃ i : Nat, h.2.2.1[i]? = some k ∧ (q_WL dA ad h)[i]? = some (ad k, q_trE dA ad e) := by
  have hm : k ∈ h.2.2.1 := (hR.2.2.1 k).mp (by rw [he]; rfl)
  obtain ⟨i, hi⟩ := List.getElem?_of_mem hm
  exact ⟨i, hi, q_WL_at hi he⟩
theorem q_WL_put {dA : Nat → ClassId} {ad : Nat → Nat} {h : PH} {k i : Nat} {e : PE} (hn : h.2.2.1.Nodup) (hi : h.2.2.1[i]? = some k) : (q_WL dA ad h).set i (ad k, q_trE dA ad e) = q_WL dA ad (ph_put h k e) := by
  have hil : i < h.2.2.1.length := (List.getElem?_eq_some_iff.mp hi).1
  apply List.ext_getElem?
  intro j
  by_cases hj : j = i
  · subst hj
    rw [List.getElem?_set_self (by simpa [q_WL] using hil)]
    exact (q_WL_at (h := ph_put h k e) hi (by simp [ph_put, va_up])).symm
  · rw [List.getElem?_set_ne (Ne.symm hj)]
    show (h.2.2.1.map _)[j]? = ((ph_put h k e).2.2.1.map _)[j]?
    rw [List.getElem?_map, List.getElem?_map]
    show Option.map _ h.2.2.1[j]? = Option.map _ h.2.2.1[j]?
    cases hq : h.2.2.1[j]? with
    | none => rfl
    | some q =>
      have hne : q ≠ k := by
        intro e2
        subst e2
        obtain ⟨hjl, e1⟩ := List.getElem?_eq_some_iff.mp hq
        obtain ⟨hil', e3⟩ := List.getElem?_eq_some_iff.mp hi
        exact hj ((List.getElem_inj hn).mp (e1.trans e3.symm))
      simp [ph_put, va_up, hne]
/-- a cell is written -/
theorem q_Rep.put {D : va_G} {dA : Nat → ClassId} {base : Nat} {ad : Nat → Nat} {h : PH} {H H1 : Heap} {k i : Nat} {e0 e : PE} (hR : q_Rep D dA base ad h H) (he : h.1 k = some e0) (hi : h.2.2.1[i]? = some k) (ho : q_ok e) (hz : H1.size = H.size)
    (hP : va_P D vwCl ((q_WL dA ad h).set i (ad k, q_trE dA ad e)) H1) (hD : va_D (q_A base) ((q_WL dA ad h).set i (ad k, q_trE dA ad e))) : q_Rep D dA base ad (ph_put h k e) H1 := by
  obtain ⟨h1, h2, h3, h4, h5, -, -⟩ := hR
  rw [q_WL_put h2 hi] at hP hD
  refine ⟨hz.trans h1, h2, fun q => ?_, h4, fun q x hx => ?_, hP, hD⟩
  · by_cases hq : q = k
    · subst hq
      simp only [ph_put, va_up, if_pos]
      exact ⟨fun _ => (h3 q).mp (by rw [he]; rfl), fun _ => rfl⟩
    · have := h3 q
      simpa [ph_put, va_up, hq] using this
  · by_cases hq : q = k
    · subst hq
      simp [ph_put, va_up] at hx
      subst hx
      exact ho
    · simp [ph_put, va_up, hq] at hx
      exact h5 q x hx
/-- a cell is made -/
theorem q_Rep.add {D : va_G} {dA : Nat → ClassId} {base : Nat} {ad : Nat → Nat} {h : PH} {H H1 : Heap} {k kind n : Nat} {e : PE} (hR : q_Rep D dA base ad h H) (hk : h.1 k = none) (hlt : k < 30000) (ho : q_ok e) (hz : H1.size = H.size + 1) (ha : ad k = H.size)
    (hold : ∀ q, q < H.size → H1[q]? = H[q]?) (hat : va_at D vwCl (ad k, q_trE dA ad e) H1) : q_Rep D dA base ad (ph_add h k kind n e) H1 := by
  obtain ⟨h1, h2, h3, h4, h5, hP, hD⟩ := hR
  have hnm : k ∉ h.2.2.1 := fun hm => by
    have := (h3 k).mpr hm
    rw [hk] at this
    cases this
  have eWL : q_WL dA ad (ph_add h k kind n e) = q_WL dA ad h ++ [(ad k, q_trE dA ad e)] := by
    show (h.2.2.1 ++ [k]).map _ = _
    rw [List.map_append]
    congr 1
    · apply List.map_congr_left
      intro q hq
      have hne : q ≠ k := fun e2 => hnm (e2 ▸ hq)
      simp [ph_add, va_up, hne]
    · simp [ph_add, va_up]
  refine ⟨?_, ?_, fun q => ?_, fun q hq => ?_, fun q x hx => ?_, ?_, ?_⟩
  · rw [hz, h1]
    simp [ph_add]
    omega
  · show (h.2.2.1 ++ [k]).Nodup
    rw [List.nodup_append]
    refine ⟨h2, by simp, fun a ha2 b hb => ?_⟩
    rw [List.mem_singleton.mp hb]
    exact fun e2 => hnm (e2 ▸ ha2)
  · show (va_up h.1 k (some e) q).isSome = true ↔ q ∈ h.2.2.1 ++ [k]
    by_cases hq : q = k
    · subst hq
      simp [va_up]
    · have := h3 q
      simpa [va_up, hq] using this
  · rcases List.mem_append.mp (show q ∈ h.2.2.1 ++ [k] from hq) with hq | hq
    · exact h4 q hq
    · rw [List.mem_singleton.mp hq]; exact hlt
  · by_cases hq : q = k
    · subst hq
      simp [ph_add, va_up] at hx
      subst hx
      exact ho
    · simp [ph_add, va_up, hq] at hx
      exact h5 q x hx
  · rw [eWL]
    refine (hP.kept (fun j x hx => hold x.1 ((hP j x hx).lt))).app (fun j x hx => ?_)
    have hj : j < 1 := (List.getElem?_eq_some_iff.mp hx).1
    rw [show j = 0 by omega] at hx
    cases hx
    exact hat
  · rw [eWL]
    exact hD.push hP ha (by rw [ha, h1]; exact Nat.le_add_right _ _)
/-- one cell of it, as a world of its own -/
theorem q_Rep.one {D : va_G} {dA : Nat → ClassId} {base : Nat} {ad : Nat → Nat} {h : PH} {H : Heap} (hR : q_Rep D dA base ad h H) {k : Nat} {e : PE} (he : h.1 k = some e) : va_P D vwCl [(ad k, q_trE dA ad e)] H := by
  obtain ⟨i, -, hw⟩ := hR.idx he
  intro j x hx
  have hj : j < 1 := (List.getElem?_eq_some_iff.mp hx).1
  rw [show j = 0 by omega] at hx
  cases hx
  exact hR.2.2.2.2.2.1 i _ hw
/-! the locals -/
def q_LV (ad : Nat → Nat) (ls : Array Slot) (nL : Nat) (lv : PL) : Prop := ls.size = nL ∧ lv_wf ls ∧ lv.length = nL ∧ ∀ (i : Nat) (v : Value), lv[i]? = some (some v) → v.category = 1 ∧ ls[i]? = some (Slot.val (q_tr ad v))
def q_ll (ad : Nat → Nat) (lv : PL) : List (Nat × Value) := (List.range lv.length).filterMap (fun i => match lv[i]? with | some (some v) => some (i, q_tr ad v) | _ => none)
theorem q_ll_in {ad : Nat → Nat} {lv : PL} {q : Nat × Value} : q ∈ q_ll ad lv ↔ ∃ v : Value, lv[q.1]? = some (some v) ∧ q.2 = q_tr ad v := by
  unfold q_ll
  rw [List.mem_filterMap]
  constructor
  · rintro ⟨i, hi, hq⟩
    split at hq
    · rename_i v hv
      cases hq
      exact ⟨v, hv, rfl⟩
    · cases hq
  · rintro ⟨v, hv, e⟩
    refine ⟨q.1, List.mem_range.mpr (List.getElem?_eq_some_iff.mp hv).1, ?_⟩
    rw [hv]
    simp [← e]
theorem q_LV.has {ad : Nat → Nat} {ls : Array Slot} {nL : Nat} {lv : PL} (h : q_LV ad ls nL lv) : lv_has ls nL (q_ll ad lv) := by
  refine ⟨h.1, h.2.1, fun q hq => ?_⟩
  obtain ⟨v, hv, e⟩ := q_ll_in.mp hq
  rw [e]
  exact (h.2.2.2 _ _ hv).2
theorem q_LV.stored {ad : Nat → Nat} {ls ls' : Array Slot} {nL : Nat} {lv : PL} {i : Nat} {v : Value} (h : q_LV ad ls nL lv) (hi : i < nL) (hc : v.category = 1)
    (h' : lv_has ls' nL ((i, q_tr ad v) :: (q_ll ad lv).filter (fun q => !(q.1 == i) && !(q.1 + 1 == i && q.2.category == 2)))) : q_LV ad ls' nL (lv.set i (some v)) := by
  refine ⟨h'.1, h'.2.1, by rw [List.length_set]; exact h.2.2.1, fun j w hj => ?_⟩
  by_cases hji : j = i
  · subst hji
    rw [List.getElem?_set_self (by rw [h.2.2.1]; exact hi)] at hj
    cases hj
    exact ⟨hc, h'.2.2 (j, q_tr ad v) List.mem_cons_self⟩
  · rw [List.getElem?_set_ne (Ne.symm hji)] at hj
    have hw := h.2.2.2 j w hj
    refine ⟨hw.1, h'.2.2 (j, q_tr ad w) (List.mem_cons_of_mem _ (List.mem_filter.mpr ⟨q_ll_in.mpr ⟨w, hj, rfl⟩, ?_⟩))⟩
    have : (q_tr ad w).category = 1 := by rw [q_tr_cat]; exact hw.1
    simp [hji, this]
theorem q_LV_entry {ad : Nat → Nat} {nL : Nat} {as : List Value} (hc : ∀ v ∈ as, v.category = 1) (hl : as.length ≤ nL) :
    q_LV ad ((lg_sl (as.map (q_tr ad)) ++ List.replicate (nL - (lg_sl (as.map (q_tr ad))).length) Slot.unset).toArray) nL (entry nL as) := by
  have hcat : ∀ v ∈ as.map (q_tr ad), v.category = 1 := by
    intro v hv
    obtain ⟨w, hw, rfl⟩ := List.mem_map.mp hv
    rw [q_tr_cat]
    exact hc w hw
  have hsl : ∀ (l : List Value), (∀ v ∈ l, v.category = 1) → lg_sl l = l.map Slot.val := by
    intro l
    induction l with
    | nil => intro _; rfl
    | cons a l ih =>
      intro hl
      have ha : ¬ a.category = 2 := by have := hl a List.mem_cons_self; omega
      have ih' := ih (fun v hv => hl v (List.mem_cons_of_mem _ hv))
      unfold lg_sl at ih' ⊢
      rw [List.flatMap_cons, ih', if_neg ha]
      rfl
  rw [hsl _ hcat]
  have hlen : ((as.map (q_tr ad)).map Slot.val).length = as.length := by simp
  have hE := lv_entry (as.map (q_tr ad)) (n := nL) (by rw [hsl _ hcat, hlen]; exact hl)
  rw [hsl _ hcat] at hE
  refine ⟨hE.1, hE.2.1, by simp [entry]; omega, fun i v hi => ?_⟩
  unfold entry at hi
  have hia : i < as.length := by
    rcases Nat.lt_or_ge i as.length with q | q
    · exact q
    · rw [List.getElem?_append_right (by simpa using q)] at hi
      rw [List.getElem?_replicate] at hi
      split at hi <;> simp at hi
  rw [List.getElem?_append_left (by simpa using hia), List.getElem?_map, List.getElem?_eq_getElem hia] at hi
  cases hi
  refine ⟨hc _ (List.getElem_mem _), ?_⟩
  rw [List.getElem?_toArray, List.getElem?_append_left (by simpa using hia)]
  simp [hia]
/-! what stays as it is during a method: the tables, the static arrays -/
def statL : List (String × String) := [("EAST", "[I"), ("ABOVE", "[I"), ("BODIES", "[I"), ("LETTERS", "[C")]
def xok : Cond → Bool
  | .fieldLinkNest .. => true
  | .methodLinkNest .. => true
  | .castable .. => true
  | .arrayOver (.object _) => true
  | _ => false
theorem xok_moved {w : Cond} (hx : xok w = true) {s U : State} (hW : s.WarmedH U.vm) (h : va_Nw w s) : va_Nw w U := by
  unfold xok at hx
  split at hx
  · exact va_Nw.warmF hW h
  · exact va_Nw.warmM hW h
  · exact va_Nw.warmC hW h
  · exact va_AO.moved hW.alike h
  · cases hx
theorem xok_same {w : Cond} (hx : xok w = true) {s U : State} (hW : s.vm = U.vm) (h : va_Nw w s) : va_Nw w U := by
  unfold xok at hx
  split at hx
  · exact va_Nw.same rfl hW h
  · exact va_Nw.same rfl hW h
  · exact va_Nw.same rfl hW h
  · exact va_AO.moved (by rw [hW]; exact Vm.Alike.refl _) h
  · cases hx
def q_FX (D : va_G) (dA : Nat → ClassId) (base : Nat) (sa : Nat → Nat) (ro : RO) (tbl : List Cond) (s : State) : Prop :=
  (∀ (c : Nat) (q : vw_C), vwCl[c]? = some q → u_Kn s q.1 q.2.1 q.2.2 (D.1 c) (D.2 c)) ∧ (∀ t ∈ tgs, ArrOfT s (dA t) (tgT t) ∧ va_RA s (dA t) (tgT t)) ∧
  (∀ (i : Nat) (z : String × String), statL[i]? = some z → va_Z "PoleLogs" z.1 z.2 (.ref (sa (30000 + i))) (q_A base) s s.heap) ∧
  (∀ (k t n : Nat) (f : Nat → Int32), ro k = some (t, n, f) → (t = 0 ∨ t = 2) ∧ va_T (tgT t) (sa k) n (fun j => .int (f j)) (q_A base) s s.heap) ∧
  (∀ w ∈ tbl, xok w = true → va_Nw w s)
theorem q_FX.K {D : va_G} {dA : Nat → ClassId} {base : Nat} {sa : Nat → Nat} {ro : RO} {tbl : List Cond} {s : State} (h : q_FX D dA base sa ro tbl s) {t : Nat} (ht : t ∈ tgs) : va_K D vwCl [(dA t, tgT t)] s := by
  refine ⟨h.1, fun k q hk => ?_⟩
  have hj : k < 1 := (List.getElem?_eq_some_iff.mp hk).1
  rw [show k = 0 by omega] at hk
  cases hk
  exact h.2.1 t ht
theorem q_FX.same {D : va_G} {dA : Nat → ClassId} {base : Nat} {sa : Nat → Nat} {ro : RO} {tbl : List Cond} {s U : State} (h : q_FX D dA base sa ro tbl s) (hv : s.vm = U.vm) (hh : s.heap = U.heap) : q_FX D dA base sa ro tbl U := by
  have hA : s.vm.Alike U.vm := by rw [hv]; exact Vm.Alike.refl _
  exact ⟨fun c q hq => u_Kn_moved hA (h.1 c q hq), fun t ht => ⟨arrOfT_moved hA (h.2.1 t ht).1, (h.2.1 t ht).2.moved hA⟩, fun i z hz => by rw [← hh]; exact (h.2.2.1 i z hz).moved hA,
    fun k t n f hk => ⟨(h.2.2.2.1 k t n f hk).1, by rw [← hh]; exact (h.2.2.2.1 k t n f hk).2.moved hA⟩, fun w hw hx => xok_same hx hv (h.2.2.2.2 w hw hx)⟩
theorem q_FX.moved {D : va_G} {dA : Nat → ClassId} {base : Nat} {sa : Nat → Nat} {ro : RO} {tbl : List Cond} {s U : State} {H : Heap} {locs : List Loc} (h : q_FX D dA base sa ro tbl s) (hW : s.WarmedH U.vm) (hS : va_S (q_A base) s.heap H locs) (hh : U.heap = H) : q_FX D dA base sa ro tbl U := by
  have hA : s.vm.Alike U.vm := hW.alike
  have hq : ∀ a : Nat, a < s.heap.size → ¬ q_A base a → U.heap[a]? = s.heap[a]? := fun a h1 h2 => by rw [hh]; exact hS.2.1 a h1 h2
  exact ⟨fun c q hq => u_Kn_moved hA (h.1 c q hq), fun t ht => ⟨arrOfT_moved hA (h.2.1 t ht).1, (h.2.1 t ht).2.moved hA⟩, fun i z hz => ((h.2.2.1 i z hz).moved hA).kept hq,
    fun k t n f hk => ⟨(h.2.2.2.1 k t n f hk).1, ((h.2.2.2.1 k t n f hk).2.moved hA).kept hq⟩, fun w hw hx => xok_moved hx hW (h.2.2.2.2 w hw hx)⟩
end
section
/-! ONE INSTRUCTION OF THE PURE MACHINE is one of the machine -/
def q_WZ (p : Program) (l : Launch) (e : Env) (R : Room) (s : State) (m : MethodId) (args : Array Value) (below : List Frame) (meth : Method) (c : Code) (Q : State → Prop) (D : va_G) (dA : Nat → ClassId) (base : Nat) (ad : Nat → Nat) (nL : Nat) (h0 h : PH) (lv : PL) (pc : Nat) (st : List Value) : Prop :=
  ∀ (H : Heap) (locs : List Loc) (ls : Array Slot), q_Rep D dA base ad h H → va_S (q_A base) s.heap H locs → q_LV ad ls nL lv → PLe h0 h → W p l e R s m args below meth c H locs (h.2.2.1.length - h0.2.2.1.length) (h.2.2.2 - h0.2.2.2) Q (F0 m pc ls (st.map (q_tr ad)))
theorem q_cats (ad : Nat → Nat) : ∀ (st : List Value) (n : Nat), st.length ≤ n → ((st.map (q_tr ad)).map fun v => v.category).sum ≤ 2 * n
  | [], n, _ => by simp
  | v :: st, n, h => by
    have h1 := q_cats ad st (n - 1) (by simp at h; omega)
    have h2 : (q_tr ad v).category ≤ 2 := by rcases lv_cat (q_tr ad v) with q | q <;> omega
    simp only [List.map_cons, List.sum_cons]
    simp only [List.length_cons] at h
    omega
section WZ1
variable {p : Program} {l : Launch} {e : Env} {R : Room} {s : State} {m : MethodId} {args : Array Value} {below : List Frame} {meth : Method} {c : Code} {Q : State → Prop} {D : va_G} {dA : Nat → ClassId} {base : Nat} {ad : Nat → Nat} {nL : Nat} {h0 h : PH} {lv : PL} {pc : Nat} {st : List Value} {cc : ByteArray}
theorem wz_iconst (hx : p.tables.exec = Jvm.exec) (hb : c.code = cc) {n : Int} {v : Int32} (hd : decode cc pc = .ok (.iconst n, 1)) (hv : Int32.ofInt n = v) (k : q_WZ p l e R s m args below meth c Q D dA base ad nL h0 h lv (pc + 1) (.int v :: st)) : q_WZ p l e R s m args below meth c Q D dA base ad nL h0 h lv pc st := fun H locs ls a1 a2 a3 a4 => lv_iconst hx hb hd hv (k H locs ls a1 a2 a3 a4)
theorem wz_bipush (hx : p.tables.exec = Jvm.exec) (hb : c.code = cc) {n : Int} {v : Int32} (hd : decode cc pc = .ok (.bipush n, 2)) (hv : (Int8.ofInt n).toInt32 = v) (k : q_WZ p l e R s m args below meth c Q D dA base ad nL h0 h lv (pc + 2) (.int v :: st)) : q_WZ p l e R s m args below meth c Q D dA base ad nL h0 h lv pc st := fun H locs ls a1 a2 a3 a4 => lv_bipush hx hb hd hv (k H locs ls a1 a2 a3 a4)
theorem wz_sipush (hx : p.tables.exec = Jvm.exec) (hb : c.code = cc) {n : Int} {v : Int32} (hd : decode cc pc = .ok (.sipush n, 3)) (hv : (Int16.ofInt n).toInt32 = v) (k : q_WZ p l e R s m args below meth c Q D dA base ad nL h0 h lv (pc + 3) (.int v :: st)) : q_WZ p l e R s m args below meth c Q D dA base ad nL h0 h lv pc st := fun H locs ls a1 a2 a3 a4 => lv_sipush hx hb hd hv (k H locs ls a1 a2 a3 a4)
theorem wz_ldc (hx : p.tables.exec = Jvm.exec) (hb : c.code = cc) {own : String} {x : Nat} {v : Int32} (hown : s.vm.findClass own = some m.cls) (hw : (Jvm.Cond.constant own x v).before args s = true) (hd : decode cc pc = .ok (.ldc x, 2)) (k : q_WZ p l e R s m args below meth c Q D dA base ad nL h0 h lv (pc + 2) (.int v :: st)) : q_WZ p l e R s m args below meth c Q D dA base ad nL h0 h lv pc st := fun H locs ls a1 a2 a3 a4 => lv_ldc hx hb hown hw hd (k H locs ls a1 a2 a3 a4)
theorem wz_ldcw (hx : p.tables.exec = Jvm.exec) (hb : c.code = cc) {own : String} {x : Nat} {v : Int32} (hown : s.vm.findClass own = some m.cls) (hw : (Jvm.Cond.constant own x v).before args s = true) (hd : decode cc pc = .ok (.ldc_w x, 3)) (k : q_WZ p l e R s m args below meth c Q D dA base ad nL h0 h lv (pc + 3) (.int v :: st)) : q_WZ p l e R s m args below meth c Q D dA base ad nL h0 h lv pc st := fun H locs ls a1 a2 a3 a4 => lv_ldcw hx hb hown hw hd (k H locs ls a1 a2 a3 a4)
theorem wz_iload_n (hx : p.tables.exec = Jvm.exec) (hb : c.code = cc) {q : Fin 4} {a : Nat} {y : Int32} (hd : decode cc pc = .ok (.iload_n q, 1)) (hq : (q : Nat) = a) (hl : lv[a]? = some (some (.int y))) (k : q_WZ p l e R s m args below meth c Q D dA base ad nL h0 h lv (pc + 1) (.int y :: st)) : q_WZ p l e R s m args below meth c Q D dA base ad nL h0 h lv pc st := fun H locs ls a1 a2 a3 a4 => lv_iload_n hx hb hd hq (a3.2.2.2 _ _ hl).2 (k H locs ls a1 a2 a3 a4)
theorem wz_iload (hx : p.tables.exec = Jvm.exec) (hb : c.code = cc) {a : Nat} {y : Int32} (hd : decode cc pc = .ok (.iload a, 2)) (hl : lv[a]? = some (some (.int y))) (k : q_WZ p l e R s m args below meth c Q D dA base ad nL h0 h lv (pc + 2) (.int y :: st)) : q_WZ p l e R s m args below meth c Q D dA base ad nL h0 h lv pc st := fun H locs ls a1 a2 a3 a4 => lv_iload hx hb hd (a3.2.2.2 _ _ hl).2 (k H locs ls a1 a2 a3 a4)
theorem wz_aload_n (hx : p.tables.exec = Jvm.exec) (hb : c.code = cc) {q : Fin 4} {a : Nat} {y : Nat} (hd : decode cc pc = .ok (.aload_n q, 1)) (hq : (q : Nat) = a) (hl : lv[a]? = some (some (.ref y))) (k : q_WZ p l e R s m args below meth c Q D dA base ad nL h0 h lv (pc + 1) (.ref y :: st)) : q_WZ p l e R s m args below meth c Q D dA base ad nL h0 h lv pc st := fun H locs ls a1 a2 a3 a4 => lv_aload_n hx hb hd hq (a3.2.2.2 _ _ hl).2 (k H locs ls a1 a2 a3 a4)
theorem wz_aload (hx : p.tables.exec = Jvm.exec) (hb : c.code = cc) {a : Nat} {y : Nat} (hd : decode cc pc = .ok (.aload a, 2)) (hl : lv[a]? = some (some (.ref y))) (k : q_WZ p l e R s m args below meth c Q D dA base ad nL h0 h lv (pc + 2) (.ref y :: st)) : q_WZ p l e R s m args below meth c Q D dA base ad nL h0 h lv pc st := fun H locs ls a1 a2 a3 a4 => lv_aload hx hb hd (a3.2.2.2 _ _ hl).2 (k H locs ls a1 a2 a3 a4)
theorem wz_aload_nN (hx : p.tables.exec = Jvm.exec) (hb : c.code = cc) {q : Fin 4} {a : Nat} (hd : decode cc pc = .ok (.aload_n q, 1)) (hq : (q : Nat) = a) (hl : lv[a]? = some (some .null)) (k : q_WZ p l e R s m args below meth c Q D dA base ad nL h0 h lv (pc + 1) (.null :: st)) : q_WZ p l e R s m args below meth c Q D dA base ad nL h0 h lv pc st := fun H locs ls a1 a2 a3 a4 => lv_aload_nN hx hb hd hq (a3.2.2.2 _ _ hl).2 (k H locs ls a1 a2 a3 a4)
theorem wz_aloadN (hx : p.tables.exec = Jvm.exec) (hb : c.code = cc) {a : Nat} (hd : decode cc pc = .ok (.aload a, 2)) (hl : lv[a]? = some (some .null)) (k : q_WZ p l e R s m args below meth c Q D dA base ad nL h0 h lv (pc + 2) (.null :: st)) : q_WZ p l e R s m args below meth c Q D dA base ad nL h0 h lv pc st := fun H locs ls a1 a2 a3 a4 => lv_aloadN hx hb hd (a3.2.2.2 _ _ hl).2 (k H locs ls a1 a2 a3 a4)
theorem wz_istore_n (hx : p.tables.exec = Jvm.exec) (hb : c.code = cc) {q : Fin 4} {a : Nat} {y : Int32} (hd : decode cc pc = .ok (.istore_n q, 1)) (hq : (q : Nat) = a) (hn : a < nL) (k : q_WZ p l e R s m args below meth c Q D dA base ad nL h0 h (lv.set a (some (.int y))) (pc + 1) st) : q_WZ p l e R s m args below meth c Q D dA base ad nL h0 h lv pc (.int y :: st) := fun H locs ls a1 a2 a3 a4 => lv_istore_n hx hb hd hq a3.has hn rfl (fun ls' hl => k H locs ls' a1 a2 (a3.stored (v := .int y) hn rfl hl) a4)
theorem wz_istore (hx : p.tables.exec = Jvm.exec) (hb : c.code = cc) {a : Nat} {y : Int32} (hd : decode cc pc = .ok (.istore a, 2)) (hn : a < nL) (k : q_WZ p l e R s m args below meth c Q D dA base ad nL h0 h (lv.set a (some (.int y))) (pc + 2) st) : q_WZ p l e R s m args below meth c Q D dA base ad nL h0 h lv pc (.int y :: st) := fun H locs ls a1 a2 a3 a4 => lv_istore hx hb hd a3.has hn rfl (fun ls' hl => k H locs ls' a1 a2 (a3.stored (v := .int y) hn rfl hl) a4)
theorem wz_astore_n (hx : p.tables.exec = Jvm.exec) (hb : c.code = cc) {q : Fin 4} {a : Nat} {y : Nat} (hd : decode cc pc = .ok (.astore_n q, 1)) (hq : (q : Nat) = a) (hn : a < nL) (k : q_WZ p l e R s m args below meth c Q D dA base ad nL h0 h (lv.set a (some (.ref y))) (pc + 1) st) : q_WZ p l e R s m args below meth c Q D dA base ad nL h0 h lv pc (.ref y :: st) := fun H locs ls a1 a2 a3 a4 => lv_astore_n hx hb hd hq a3.has hn rfl (fun ls' hl => k H locs ls' a1 a2 (a3.stored (v := .ref y) hn rfl hl) a4)
theorem wz_astore (hx : p.tables.exec = Jvm.exec) (hb : c.code = cc) {a : Nat} {y : Nat} (hd : decode cc pc = .ok (.astore a, 2)) (hn : a < nL) (k : q_WZ p l e R s m args below meth c Q D dA base ad nL h0 h (lv.set a (some (.ref y))) (pc + 2) st) : q_WZ p l e R s m args below meth c Q D dA base ad nL h0 h lv pc (.ref y :: st) := fun H locs ls a1 a2 a3 a4 => lv_astore hx hb hd a3.has hn rfl (fun ls' hl => k H locs ls' a1 a2 (a3.stored (v := .ref y) hn rfl hl) a4)
theorem wz_astore_nN (hx : p.tables.exec = Jvm.exec) (hb : c.code = cc) {q : Fin 4} {a : Nat} (hd : decode cc pc = .ok (.astore_n q, 1)) (hq : (q : Nat) = a) (hn : a < nL) (k : q_WZ p l e R s m args below meth c Q D dA base ad nL h0 h (lv.set a (some .null)) (pc + 1) st) : q_WZ p l e R s m args below meth c Q D dA base ad nL h0 h lv pc (.null :: st) := fun H locs ls a1 a2 a3 a4 => lv_astore_nN hx hb hd hq a3.has hn rfl (fun ls' hl => k H locs ls' a1 a2 (a3.stored (v := .null) hn rfl hl) a4)
theorem wz_astoreN (hx : p.tables.exec = Jvm.exec) (hb : c.code = cc) {a : Nat} (hd : decode cc pc = .ok (.astore a, 2)) (hn : a < nL) (k : q_WZ p l e R s m args below meth c Q D dA base ad nL h0 h (lv.set a (some .null)) (pc + 2) st) : q_WZ p l e R s m args below meth c Q D dA base ad nL h0 h lv pc (.null :: st) := fun H locs ls a1 a2 a3 a4 => lv_astoreN hx hb hd a3.has hn rfl (fun ls' hl => k H locs ls' a1 a2 (a3.stored (v := .null) hn rfl hl) a4)
theorem wz_iinc (hx : p.tables.exec = Jvm.exec) (hb : c.code = cc) {a : Nat} {n : Int} {y v : Int32} (hd : decode cc pc = .ok (.iinc a n, 3)) (hv : Int32.ofInt n = v) (hl : lv[a]? = some (some (.int y))) (hn : a < nL) (k : q_WZ p l e R s m args below meth c Q D dA base ad nL h0 h (lv.set a (some (.int (y + v)))) (pc + 3) st) : q_WZ p l e R s m args below meth c Q D dA base ad nL h0 h lv pc st := by
  intro H locs ls a1 a2 a3 a4
  have hm : (a, Value.int y) ∈ q_ll ad lv := q_ll_in.mpr ⟨.int y, hl, rfl⟩
  obtain ⟨j, hj⟩ := List.getElem?_of_mem hm
  exact lv_iinc hx hb hd a3.has hj (by rw [hv]) hn rfl (fun ls' hl => k H locs ls' a1 a2 (a3.stored (v := .int (y + v)) hn rfl hl) a4)
theorem wz_bop (hx : p.tables.exec = Jvm.exec) (hb : c.code = cc) {a : Nat} {y z : Int32} {ins : Instr} (hd : decode cc pc = .ok (ins, 1)) (hi : ins = match a with | 0 => .iadd | 1 => .isub | 2 => .imul | 3 => .iand | 4 => .ior | 5 => .ixor | 6 => .ishl | 7 => .ishr | _ => .iushr) (k : q_WZ p l e R s m args below meth c Q D dA base ad nL h0 h lv (pc + 1) (.int (bop a z y) :: st)) : q_WZ p l e R s m args below meth c Q D dA base ad nL h0 h lv pc (.int y :: .int z :: st) := by
  intro H locs ls a1 a2 a3 a4
  have k := k H locs ls a1 a2 a3 a4
  subst hi
  match a, hd, k with
  | 0, hd, k => exact lv_iadd hx hb hd k
  | 1, hd, k => exact lv_isub hx hb hd k
  | 2, hd, k => exact lv_imul hx hb hd k
  | 3, hd, k => exact lv_iand hx hb hd k
  | 4, hd, k => exact lv_ior hx hb hd k
  | 5, hd, k => exact lv_ixor hx hb hd k
  | 6, hd, k => exact lv_ishl hx hb hd k
  | 7, hd, k => exact lv_ishr hx hb hd k
  | _ + 8, hd, k => exact lv_iushr hx hb hd rfl k
theorem wz_idiv (hx : p.tables.exec = Jvm.exec) (hb : c.code = cc) {y z : Int32} (hd : decode cc pc = .ok (.idiv, 1)) (hy : ¬ y = 0) (k : q_WZ p l e R s m args below meth c Q D dA base ad nL h0 h lv (pc + 1) (.int (z / y) :: st)) : q_WZ p l e R s m args below meth c Q D dA base ad nL h0 h lv pc (.int y :: .int z :: st) := fun H locs ls a1 a2 a3 a4 => lv_idiv hx hb hd hy (k H locs ls a1 a2 a3 a4)
theorem wz_irem (hx : p.tables.exec = Jvm.exec) (hb : c.code = cc) {y z : Int32} (hd : decode cc pc = .ok (.irem, 1)) (hy : ¬ y = 0) (k : q_WZ p l e R s m args below meth c Q D dA base ad nL h0 h lv (pc + 1) (.int (z - z / y * y) :: st)) : q_WZ p l e R s m args below meth c Q D dA base ad nL h0 h lv pc (.int y :: .int z :: st) := fun H locs ls a1 a2 a3 a4 => lv_irem hx hb hd hy (k H locs ls a1 a2 a3 a4)
theorem wz_uop (hx : p.tables.exec = Jvm.exec) (hb : c.code = cc) {a : Nat} {z : Int32} {ins : Instr} (hd : decode cc pc = .ok (ins, 1)) (hi : ins = match a with | 0 => .ineg | 1 => .i2b | _ => .i2s) (k : q_WZ p l e R s m args below meth c Q D dA base ad nL h0 h lv (pc + 1) (.int (uop a z) :: st)) : q_WZ p l e R s m args below meth c Q D dA base ad nL h0 h lv pc (.int z :: st) := by
  intro H locs ls a1 a2 a3 a4
  have k := k H locs ls a1 a2 a3 a4
  subst hi
  match a, hd, k with
  | 0, hd, k => exact lv_ineg hx hb hd k
  | 1, hd, k => exact lv_i2b hx hb hd rfl k
  | _ + 2, hd, k => exact lv_i2s hx hb hd rfl k
theorem wz_if (hx : p.tables.exec = Jvm.exec) (hb : c.code = cc) {a b : Nat} {z : Int32} {off : Int} {q : Jvm.ClassFile.Cond} {T F : PR} {r : Option Value × PH} (hd : decode cc pc = .ok (.ifCond q off, 3)) (hi : q = match a with | 0 => .eq | 1 => .ne | 2 => .lt | 3 => .ge | 4 => .gt | _ => .le) (ho : (pc : Int) + off = (b : Int)) (hs : cnd a z 0 T F = some r) (kt : T = some r → q_WZ p l e R s m args below meth c Q D dA base ad nL h0 h lv b st) (kf : F = some r → q_WZ p l e R s m args below meth c Q D dA base ad nL h0 h lv (pc + 3) st) : q_WZ p l e R s m args below meth c Q D dA base ad nL h0 h lv pc (.int z :: st) := by
  intro H locs ls a1 a2 a3 a4
  subst hi
  match a, hd, hs with
  | 0, hd, hs => exact lv_if_eq hx hb hd ho (fun w => kt (by simpa [cnd, w] using hs) H locs ls a1 a2 a3 a4) (fun w => kf (by simpa [cnd, w] using hs) H locs ls a1 a2 a3 a4)
  | 1, hd, hs => exact lv_if_ne hx hb hd ho (fun w => kt (by simpa [cnd, w] using hs) H locs ls a1 a2 a3 a4) (fun w => kf (by simpa [cnd, w] using hs) H locs ls a1 a2 a3 a4)
  | 2, hd, hs => exact lv_if_lt hx hb hd ho (fun w => kt (by simpa [cnd, w] using hs) H locs ls a1 a2 a3 a4) (fun w => kf (by simpa [cnd, w] using hs) H locs ls a1 a2 a3 a4)
  | 3, hd, hs => exact lv_if_ge hx hb hd ho (fun w => kt (by rw [cnd, if_neg (Int32.not_lt.mpr w)] at hs; exact hs) H locs ls a1 a2 a3 a4) (fun w => kf (by rw [cnd, if_pos (Int32.not_le.mp w)] at hs; exact hs) H locs ls a1 a2 a3 a4)
  | 4, hd, hs => exact lv_if_gt hx hb hd ho (fun w => kt (by rw [cnd, if_pos w] at hs; exact hs) H locs ls a1 a2 a3 a4) (fun w => kf (by rw [cnd, if_neg w] at hs; exact hs) H locs ls a1 a2 a3 a4)
  | _ + 5, hd, hs =>
    have hs : (if 0 < z then F else T) = some r := hs
    exact lv_if_le hx hb hd ho (fun w => kt (by rw [if_neg (Int32.not_lt.mpr w)] at hs; exact hs) H locs ls a1 a2 a3 a4) (fun w => kf (by rw [if_pos (Int32.not_le.mp w)] at hs; exact hs) H locs ls a1 a2 a3 a4)
theorem wz_icmp (hx : p.tables.exec = Jvm.exec) (hb : c.code = cc) {a b : Nat} {y z : Int32} {off : Int} {q : Jvm.ClassFile.Cond} {T F : PR} {r : Option Value × PH} (hd : decode cc pc = .ok (.if_icmp q off, 3)) (hi : q = match a with | 0 => .eq | 1 => .ne | 2 => .lt | 3 => .ge | 4 => .gt | _ => .le) (ho : (pc : Int) + off = (b : Int)) (hs : cnd a z y T F = some r) (kt : T = some r → q_WZ p l e R s m args below meth c Q D dA base ad nL h0 h lv b st) (kf : F = some r → q_WZ p l e R s m args below meth c Q D dA base ad nL h0 h lv (pc + 3) st) : q_WZ p l e R s m args below meth c Q D dA base ad nL h0 h lv pc (.int y :: .int z :: st) := by
  intro H locs ls a1 a2 a3 a4
  subst hi
  match a, hd, hs with
  | 0, hd, hs => exact lv_icmp_eq hx hb hd ho (fun w => kt (by simpa [cnd, w] using hs) H locs ls a1 a2 a3 a4) (fun w => kf (by simpa [cnd, w] using hs) H locs ls a1 a2 a3 a4)
  | 1, hd, hs => exact lv_icmp_ne hx hb hd ho (fun w => kt (by simpa [cnd, w] using hs) H locs ls a1 a2 a3 a4) (fun w => kf (by simpa [cnd, w] using hs) H locs ls a1 a2 a3 a4)
  | 2, hd, hs => exact lv_icmp_lt hx hb hd ho (fun w => kt (by simpa [cnd, w] using hs) H locs ls a1 a2 a3 a4) (fun w => kf (by simpa [cnd, w] using hs) H locs ls a1 a2 a3 a4)
  | 3, hd, hs => exact lv_icmp_ge hx hb hd ho (fun w => kt (by rw [cnd, if_neg (Int32.not_lt.mpr w)] at hs; exact hs) H locs ls a1 a2 a3 a4) (fun w => kf (by rw [cnd, if_pos (Int32.not_le.mp w)] at hs; exact hs) H locs ls a1 a2 a3 a4)
  | 4, hd, hs => exact lv_icmp_gt hx hb hd ho (fun w => kt (by rw [cnd, if_pos w] at hs; exact hs) H locs ls a1 a2 a3 a4) (fun w => kf (by rw [cnd, if_neg w] at hs; exact hs) H locs ls a1 a2 a3 a4)
  | _ + 5, hd, hs =>
    have hs : (if y < z then F else T) = some r := hs
    exact lv_icmp_le hx hb hd ho (fun w => kt (by rw [if_neg (Int32.not_lt.mpr w)] at hs; exact hs) H locs ls a1 a2 a3 a4) (fun w => kf (by rw [if_pos (Int32.not_le.mp w)] at hs; exact hs) H locs ls a1 a2 a3 a4)
theorem wz_ifnull (hx : p.tables.exec = Jvm.exec) (hb : c.code = cc) {y : Nat} {off : Int} (hd : decode cc pc = .ok (.ifnull off, 3)) (k : q_WZ p l e R s m args below meth c Q D dA base ad nL h0 h lv (pc + 3) st) : q_WZ p l e R s m args below meth c Q D dA base ad nL h0 h lv pc (.ref y :: st) := fun H locs ls a1 a2 a3 a4 => lv_ifnull hx hb hd (k H locs ls a1 a2 a3 a4)
theorem wz_ifnullN (hx : p.tables.exec = Jvm.exec) (hb : c.code = cc) {b : Nat} {off : Int} (hd : decode cc pc = .ok (.ifnull off, 3)) (ho : (pc : Int) + off = (b : Int)) (k : q_WZ p l e R s m args below meth c Q D dA base ad nL h0 h lv b st) : q_WZ p l e R s m args below meth c Q D dA base ad nL h0 h lv pc (.null :: st) := fun H locs ls a1 a2 a3 a4 => lv_ifnullN hx hb hd ho (k H locs ls a1 a2 a3 a4)
theorem wz_ifnonnull (hx : p.tables.exec = Jvm.exec) (hb : c.code = cc) {y b : Nat} {off : Int} (hd : decode cc pc = .ok (.ifnonnull off, 3)) (ho : (pc : Int) + off = (b : Int)) (k : q_WZ p l e R s m args below meth c Q D dA base ad nL h0 h lv b st) : q_WZ p l e R s m args below meth c Q D dA base ad nL h0 h lv pc (.ref y :: st) := fun H locs ls a1 a2 a3 a4 => lv_ifnonnull hx hb hd ho (k H locs ls a1 a2 a3 a4)
theorem wz_ifnonnullN (hx : p.tables.exec = Jvm.exec) (hb : c.code = cc) {off : Int} (hd : decode cc pc = .ok (.ifnonnull off, 3)) (k : q_WZ p l e R s m args below meth c Q D dA base ad nL h0 h lv (pc + 3) st) : q_WZ p l e R s m args below meth c Q D dA base ad nL h0 h lv pc (.null :: st) := fun H locs ls a1 a2 a3 a4 => lv_ifnonnullN hx hb hd (k H locs ls a1 a2 a3 a4)
theorem wz_goto (hx : p.tables.exec = Jvm.exec) (hb : c.code = cc) {b : Nat} {off : Int} (hd : decode cc pc = .ok (.goto off, 3)) (ho : (pc : Int) + off = (b : Int)) (k : q_WZ p l e R s m args below meth c Q D dA base ad nL h0 h lv b st) : q_WZ p l e R s m args below meth c Q D dA base ad nL h0 h lv pc st := fun H locs ls a1 a2 a3 a4 => lv_goto hx hb hd ho (k H locs ls a1 a2 a3 a4)
theorem wz_dup (hx : p.tables.exec = Jvm.exec) (hb : c.code = cc) {y : Value} (hd : decode cc pc = .ok (.dup, 1)) (hy : y.category = 1) (k : q_WZ p l e R s m args below meth c Q D dA base ad nL h0 h lv (pc + 1) (y :: y :: st)) : q_WZ p l e R s m args below meth c Q D dA base ad nL h0 h lv pc (y :: st) := fun H locs ls a1 a2 a3 a4 => lv_dup hx hb hd ((q_tr_cat ad y).trans hy) (k H locs ls a1 a2 a3 a4)
theorem wz_dup2 (hx : p.tables.exec = Jvm.exec) (hb : c.code = cc) {y z : Value} (hd : decode cc pc = .ok (.dup2, 1)) (hy : y.category = 1) (hz : z.category = 1) (k : q_WZ p l e R s m args below meth c Q D dA base ad nL h0 h lv (pc + 1) (y :: z :: y :: z :: st)) : q_WZ p l e R s m args below meth c Q D dA base ad nL h0 h lv pc (y :: z :: st) := fun H locs ls a1 a2 a3 a4 => lv_dup2_11 hx hb hd ((q_tr_cat ad y).trans hy) ((q_tr_cat ad z).trans hz) (k H locs ls a1 a2 a3 a4)
theorem wz_pop (hx : p.tables.exec = Jvm.exec) (hb : c.code = cc) {y : Value} (hd : decode cc pc = .ok (.pop, 1)) (hy : y.category = 1) (k : q_WZ p l e R s m args below meth c Q D dA base ad nL h0 h lv (pc + 1) st) : q_WZ p l e R s m args below meth c Q D dA base ad nL h0 h lv pc (y :: st) := fun H locs ls a1 a2 a3 a4 => lv_pop hx hb hd ((q_tr_cat ad y).trans hy) (k H locs ls a1 a2 a3 a4)
theorem wz_null (hx : p.tables.exec = Jvm.exec) (hb : c.code = cc) (hd : decode cc pc = .ok (.aconst_null, 1)) (k : q_WZ p l e R s m args below meth c Q D dA base ad nL h0 h lv (pc + 1) (.null :: st)) : q_WZ p l e R s m args below meth c Q D dA base ad nL h0 h lv pc st := fun H locs ls a1 a2 a3 a4 => lv_null hx hb hd (k H locs ls a1 a2 a3 a4)
theorem swt_inv {F : Nat → PR} {b : Nat} {y : Int32} {r : Option Value × PH} : ∀ {ts : List Nat} {v : Int32}, v.toInt + ts.length < 2 ^ 31 → swt F b y ts v = some r → (∃ (j t : Nat), ts[j]? = some t ∧ y.toInt = v.toInt + j ∧ F t = some r) ∨ ((y.toInt < v.toInt ∨ v.toInt + ts.length - 1 < y.toInt) ∧ F b = some r)
  | [], v, _, hs => Or.inr ⟨by simp; omega, hs⟩
  | t :: ts, v, hb, hs => by
    simp only [List.length_cons] at hb
    unfold swt at hs
    split at hs
    · rename_i hy
      exact Or.inl ⟨0, t, rfl, by rw [hy]; simp, hs⟩
    · rename_i hy
      have h1 : (v + 1).toInt = v.toInt + 1 := by
        rw [Int32.toInt_add]
        have hlo := Int32.le_toInt v
        have : (1 : Int32).toInt = 1 := by decide
        rw [this]
        apply Int.bmod_eq_of_le <;> omega
      rcases swt_inv (ts := ts) (v := v + 1) (by rw [h1]; omega) hs with ⟨j, t', g1, g2, g3⟩ | ⟨g1, g2⟩
      · exact Or.inl ⟨j + 1, t', by simpa using g1, by rw [g2, h1]; omega, g3⟩
      · refine Or.inr ⟨?_, g2⟩
        have hne : y.toInt ≠ v.toInt := fun q => hy (Int32.toInt_inj.mp q)
        rw [h1] at g1
        simp only [List.length_cons]
        omega
theorem wz_table (hx : p.tables.exec = Jvm.exec) (hb : c.code = cc) {b len : Nat} {y v : Int32} {ts : List Nat} {dflt lo hi : Int} {offs : Array Int} {F : Nat → PR} {r : Option Value × PH} (hd : decode cc pc = .ok (.tableswitch dflt lo hi offs, len)) (hlo : lo = v.toInt) (hhi : hi = v.toInt + ts.length - 1) (hof : offs = (ts.map fun t : Nat => (t : Int) - (pc : Int)).toArray) (hdf : dflt = (b : Int) - (pc : Int)) (hbd : v.toInt + ts.length < 2 ^ 31)
    (hs : swt F b y ts v = some r) (k : ∀ t, F t = some r → q_WZ p l e R s m args below meth c Q D dA base ad nL h0 h lv t st) : q_WZ p l e R s m args below meth c Q D dA base ad nL h0 h lv pc (.int y :: st) := by
  intro H locs ls a1 a2 a3 a4
  subst hlo hhi hof hdf
  rcases swt_inv hbd hs with ⟨j, t, g1, g2, g3⟩ | ⟨g1, g2⟩
  · have hj := (List.getElem?_eq_some_iff.mp g1).1
    refine lv_tableIn (tgt := t) (off := (t : Int) - (pc : Int)) hx hb hd (by omega) (by omega) ?_ (by omega) (k t g3 H locs ls a1 a2 a3 a4)
    rw [show (y.toInt - v.toInt).toNat = j by omega]
    simp [g1]
  · exact lv_tableOut (tgt := b) hx hb hd g1 (by omega) (k b g2 H locs ls a1 a2 a3 a4)
def q_prs (pc : Nat) : List Nat → List (Int × Int)
  | a :: t :: ts => ((a : Int), (t : Int) - (pc : Int)) :: q_prs pc ts
  | _ => []
theorem swl_inv {F : Nat → PR} {b pc : Nat} {y : Int32} {r : Option Value × PH} : ∀ {ts : List Nat}, (∀ q ∈ q_prs pc ts, q.1 < 2 ^ 31) → swl F b y ts = some r → ∃ t : Nat, Op.lookupswitch.offset (q_prs pc ts) ((b : Int) - (pc : Int)) y.toInt = (t : Int) - (pc : Int) ∧ F t = some r
  | [], _, hs => ⟨b, rfl, hs⟩
  | [_], _, hs => ⟨b, rfl, hs⟩
  | a :: t :: ts, hb, hs => by
    unfold swl at hs
    have ha : (a : Int) < 2 ^ 31 := hb ((a : Int), (t : Int) - (pc : Int)) List.mem_cons_self
    have hk : (Int32.ofNat a).toInt = (a : Int) := nI_toInt (n := a) (by omega)
    split at hs
    · rename_i hy
      refine ⟨t, ?_, hs⟩
      show Op.lookupswitch.offset (((a : Int), (t : Int) - (pc : Int)) :: q_prs pc ts) _ _ = _
      rw [Op.lookupswitch.offset_cons, if_pos]
      rw [hy, hk]
    · rename_i hy
      obtain ⟨t', g1, g2⟩ := swl_inv (ts := ts) (fun q hq => hb q (List.mem_cons_of_mem _ hq)) hs
      exact ⟨t', by rw [← g1]; exact lv_osw hy hk, g2⟩
theorem wz_lookup (hx : p.tables.exec = Jvm.exec) (hb : c.code = cc) {b len : Nat} {y : Int32} {ts : List Nat} {dflt : Int} {ps : Array (Int × Int)} {F : Nat → PR} {r : Option Value × PH} (hd : decode cc pc = .ok (.lookupswitch dflt ps, len)) (hps : ps = (q_prs pc ts).toArray) (hdf : dflt = (b : Int) - (pc : Int)) (hbd : ∀ q ∈ q_prs pc ts, q.1 < 2 ^ 31)
    (hso : (ps.toList.zip (ps.toList.drop 1)).all (fun (a, next) => a.1 < next.1) = true) (hs : swl F b y ts = some r) (k : ∀ t, F t = some r → q_WZ p l e R s m args below meth c Q D dA base ad nL h0 h lv t st) : q_WZ p l e R s m args below meth c Q D dA base ad nL h0 h lv pc (.int y :: st) := by
  intro H locs ls a1 a2 a3 a4
  subst hps hdf
  obtain ⟨t, g1, g2⟩ := swl_inv (pc := pc) hbd hs
  exact lv_lookup (tgt := t) hx hb hd hso g1 (by omega) (k t g2 H locs ls a1 a2 a3 a4)
end WZ1
end
section
/-! the heap's instructions -/
theorem q_trd (ad : Nat → Nat) (ty : FieldType) : q_tr ad (defaultValue ty) = defaultValue ty := by cases ty <;> rfl
theorem q_FX.K0 {D : va_G} {dA : Nat → ClassId} {base : Nat} {sa : Nat → Nat} {ro : RO} {tbl : List Cond} {s : State} (h : q_FX D dA base sa ro tbl s) : va_K D vwCl [] s := ⟨h.1, fun k q hk => by simp at hk⟩
section WZ2
variable {p : Program} {l : Launch} {e : Env} {R : Room} {s : State} {m : MethodId} {args : Array Value} {below : List Frame} {meth : Method} {c : Code} {Q : State → Prop} {D : va_G} {dA : Nat → ClassId} {base : Nat} {ad : Nat → Nat} {nL : Nat} {h0 h : PH} {lv : PL} {pc : Nat} {st : List Value} {cc : ByteArray} {sa : Nat → Nat} {ro : RO} {tbl : List Cond} {own : String}
theorem wz_get (hx : p.tables.exec = Jvm.exec) (hb : c.code = cc) (hF : q_FX D dA base sa ro tbl s) (hown : s.vm.findClass own = some m.cls) {ci j x k : Nat} {C : String} {T : u_T} {N : Nat} {fs : List Value} {v : Value} (hc : vwCl[ci]? = some (C, T, N)) (hU : ∀ w ∈ u_ws C T N, w.before args s = true) (hj : j < N) (hl : (Cond.fieldLink own x (T j).1 (T j).2.1 (T j).2.2.1).before args s = true)
    (hk : h.1 k = some (.inr (.inr (ci, fs)))) (hv : fs[j]? = some v) (hd : decode cc pc = .ok (.getfield x, 3)) (kk : q_WZ p l e R s m args below meth c Q D dA base ad nL h0 h lv (pc + 3) (v :: st)) : q_WZ p l e R s m args below meth c Q D dA base ad nL h0 h lv pc (.ref k :: st) := fun H locs ls a1 a2 a3 a4 =>
  va_get hx hb hU (fun _ w => w) hown hF.K0 (a1.one hk) 0 rfl hc j hj hl (fun _ w => w) (v := q_tr ad v) (by rw [List.getElem?_map, hv]; rfl) hd (kk H locs ls a1 a2 a3 a4)
theorem wz_put (hx : p.tables.exec = Jvm.exec) (hb : c.code = cc) (hF : q_FX D dA base sa ro tbl s) (hown : s.vm.findClass own = some m.cls) {ci j x k : Nat} {C : String} {T : u_T} {N : Nat} {fs : List Value} {v : Value} (hc : vwCl[ci]? = some (C, T, N)) (hU : ∀ w ∈ u_ws C T N, w.before args s = true) (hty : ∀ k, k < N → parseFieldDescriptor (T k).2.2.1 = some (clT ci k)) (hnm : ∀ a, a < N → ∀ b, b < N → a ≠ b → (T a).2.1 ≠ (T b).2.1) (hj : j < N) (hl : (Cond.fieldLink own x (T j).1 (T j).2.1 (T j).2.2.1).before args s = true)
    (hfin : (T j).2.2.2 = false ∨ ((T j).2.2.2 = true ∧ meth.name = "<init>" ∧ (T j).1 = own)) (hn : narrow (clT ci j) (q_tr ad v) = q_tr ad v) (hfit : fits (clT ci j) (q_tr ad v) = true) (hlt : ci < 12)
    (hk : h.1 k = some (.inr (.inr (ci, fs)))) (hjl : j < fs.length) (hd : decode cc pc = .ok (.putfield x, 3)) (kk : q_WZ p l e R s m args below meth c Q D dA base ad nL h0 (ph_put h k (.inr (.inr (ci, fs.set j v)))) lv (pc + 3) st) : q_WZ p l e R s m args below meth c Q D dA base ad nL h0 h lv pc (v :: .ref k :: st) := by
  intro H locs ls a1 a2 a3 a4
  obtain ⟨i, hi, hw⟩ := a1.idx hk
  have hP := a1.2.2.2.2.2.1
  have hD := a1.2.2.2.2.2.2
  have hap := va_apart (own := own) hU (fun _ w => w) (clT ci) hty hnm hF.K0 hc
  obtain ⟨r, h1, cell, q1, q2, q3, q4⟩ := hP i _ hw
  have hr : r = (C, T, N) := Option.some.inj (h1.symm.trans hc)
  subst hr
  obtain ⟨hS, hfc, kC, hkC, hkind⟩ := hF.1 ci _ hc
  obtain ⟨cf, kf, fi, f, hi2, hsl⟩ := hS j hj
  have hlay := hU _ (u_in_lay hj)
  have hst := (u_facts hfc hkC (u_lays hU (fun _ w => w) hj) hi2).1
  have fin : ∀ H1 : Heap, H1[ad k]? = some (cell.setSlot f.slot (q_tr ad v)) → H1.size = H.size → (∀ q, q ≠ ad k → H1[q]? = H[q]?) → W p l e R s m args below meth c H1 (locs ++ [⟨ad k, f.slot⟩]) (h.2.2.1.length - h0.2.2.1.length) (h.2.2.2 - h0.2.2.2) Q (F0 m (pc + 3) ls (st.map (q_tr ad))) := by
    intro H1 e1 e2 e3
    rw [hsl] at e1 ⊢
    have hat : va_at D vwCl (ad k, q_trE dA ad (.inr (.inr (ci, fs.set j v)))) H1 := by
      refine ⟨_, hc, t_OB.to (V := updV (vp_V (fs.map (q_tr ad))) j (q_tr ad v)) ⟨_, e1, q2, q3, t_set q4 hap hj (q_tr ad v)⟩ (fun y _ => ?_)⟩
      rw [vp_updV_set (by simpa using hjl), List.map_set]
    exact kk H1 _ ls (a1.put (e := .inr (.inr (ci, fs.set j v))) hk hi hlt e2 (hP.set hD hw hat e3) (hD.set hw)) (a2.put e2 e3 (hD.2 i _ hw)) a3 a4
  rcases hfin with hfin | ⟨hfin, hin2, hdecl⟩
  · unfold u_lay at hlay
    rw [if_neg (by rw [hfin]; decide)] at hlay
    have h6 := u_store hfc hkC hkind hlay hi2 (hty j hj) hn hfit
    exact W.putK hx hb (f := f) ⟨hown, hl, ⟨_, _, _, hi2⟩, hst⟩ (by rw [q2]; exact h6) q1 q3 (by rw [hsl]; exact k2_hasslot (q4 j hj)) rfl rfl hd fin
  · unfold u_lay at hlay
    rw [if_pos hfin] at hlay
    have hcf : m.cls = cf := by
      obtain ⟨_, _, c', _, _, _, -, -, hf', -, -, -, hown2, -⟩ := Cond.laysFinal_spec hlay
      have e1 : c' = cf := by have := hi2.symm.trans hf'; simp at this; exact this.1.symm
      rw [hdecl] at hown2
      rw [← e1]; exact Option.some.inj (hown.symm.trans hown2)
    have h6 := u_fits hfc hkC hkind (Or.inr hlay) hi2 (hty j hj) hn hfit
    exact W.putFinK hx hb hown hl hi2 hst hcf hin2 (by rw [q2]; exact h6) q1 q3 (by rw [hsl]; exact k2_hasslot (q4 j hj)) rfl rfl hd fin
theorem arr_lo {k : Nat} {z : Nat × Nat × (Nat → Int32)} (ha : arr ro h k = some z) (hk : ¬ 30000 ≤ k) : h.1 k = some (.inl z) := by
  unfold arr at ha
  rw [if_neg hk] at ha
  split at ha
  · rename_i z' hz
    cases ha
    exact hz
  · cases ha
theorem arr_hi {k : Nat} {z : Nat × Nat × (Nat → Int32)} (ha : arr ro h k = some z) (hk : 30000 ≤ k) : ro k = some z := by
  unfold arr at ha
  rw [if_pos hk] at ha
  exact ha
theorem wz_aI (hx : p.tables.exec = Jvm.exec) (hb : c.code = cc) (hF : q_FX D dA base sa ro tbl s) (hsa : ∀ k, 30000 ≤ k → ad k = sa k) {a k n : Nat} {f : Nat → Int32} {y : Int32} {ins : Instr} (ha : arr ro h k = some (a, n, f)) (hin : vp_in y n) (hd : decode cc pc = .ok (ins, 1)) (hi : ins = match a with | 0 => .iaload | 1 => .baload | _ => .caload) (kk : q_WZ p l e R s m args below meth c Q D dA base ad nL h0 h lv (pc + 1) (.int (f y.toNatClampNeg) :: st)) : q_WZ p l e R s m args below meth c Q D dA base ad nL h0 h lv pc (.int y :: .ref k :: st) := by
  intro H locs ls a1 a2 a3 a4
  have kk := kk H locs ls a1 a2 a3 a4
  by_cases hk : 30000 ≤ k
  · obtain ⟨ht, hT⟩ := hF.2.2.2.1 k a n f (arr_hi ha hk)
    rw [← hsa k hk] at hT
    rcases ht with rfl | rfl
    · subst hi
      exact va_ti hx hb hT a2 hin rfl hd kk
    · subst hi
      exact va_tc hx hb hT a2 hin rfl hd kk
  · have hk2 := arr_lo ha hk
    have hok : a = 0 ∨ a = 1 ∨ a = 2 := a1.2.2.2.2.1 k _ hk2
    rcases hok with rfl | rfl | rfl
    · subst hi
      exact va_iald hx hb (hF.K (t := 0) (by decide)) (a1.one hk2) 0 0 rfl rfl hin hd kk
    · subst hi
      exact va_zald hx hb (hF.K (t := 1) (by decide)) (a1.one hk2) 0 0 rfl rfl hin hd kk
    · subst hi
      exact va_cald hx hb (hF.K (t := 2) (by decide)) (a1.one hk2) 0 0 rfl rfl hin hd kk
theorem wz_aL (hx : p.tables.exec = Jvm.exec) (hb : c.code = cc) (hF : q_FX D dA base sa ro tbl s) (hsa : ∀ k, 30000 ≤ k → ad k = sa k) {t k n : Nat} {f : Nat → Int32} (ha : arr ro h k = some (t, n, f)) (hd : decode cc pc = .ok (.arraylength, 1)) (kk : q_WZ p l e R s m args below meth c Q D dA base ad nL h0 h lv (pc + 1) (.int (Int32.ofNat n) :: st)) : q_WZ p l e R s m args below meth c Q D dA base ad nL h0 h lv pc (.ref k :: st) := by
  intro H locs ls a1 a2 a3 a4
  have kk := kk H locs ls a1 a2 a3 a4
  by_cases hk : 30000 ≤ k
  · obtain ⟨ht, hT⟩ := hF.2.2.2.1 k t n f (arr_hi ha hk)
    rw [← hsa k hk] at hT
    obtain ⟨cell, g1, g2, g3, g4, g5, g6, g7⟩ := hT
    exact W.alen (n := Int32.ofNat n) hx hb (by rw [a2.2.1 _ (Array.getElem?_eq_some_iff.mp g1).1 g7]; exact g1) g2 g5 rfl rfl hd kk
  · have hk2 := arr_lo ha hk
    have hok : t = 0 ∨ t = 1 ∨ t = 2 := a1.2.2.2.2.1 k _ hk2
    have htg : t ∈ tgs := by rcases hok with rfl | rfl | rfl <;> decide
    exact va_alen hx hb (hF.K htg) (a1.one hk2) 0 0 rfl rfl rfl hd kk
theorem tgT_obj {t : Nat} (h : t = 13 ∨ t = 14 ∨ t = 17 ∨ t = 18) : t ∈ tgs ∧ ∃ C : String, tgT t = .object C := by
  rcases h with rfl | rfl | rfl | rfl <;> exact ⟨by decide, _, rfl⟩
theorem wz_aR (hx : p.tables.exec = Jvm.exec) (hb : c.code = cc) (hF : q_FX D dA base sa ro tbl s) {t k n : Nat} {g : Nat → Option Nat} {y : Int32} (hk : h.1 k = some (.inr (.inl (t, n, g)))) (hin : vp_in y n) (hd : decode cc pc = .ok (.aaload, 1))
    (kn : g y.toNatClampNeg = none → q_WZ p l e R s m args below meth c Q D dA base ad nL h0 h lv (pc + 1) (.null :: st)) (ks : ∀ q, g y.toNatClampNeg = some q → q_WZ p l e R s m args below meth c Q D dA base ad nL h0 h lv (pc + 1) (.ref q :: st)) : q_WZ p l e R s m args below meth c Q D dA base ad nL h0 h lv pc (.int y :: .ref k :: st) := by
  intro H locs ls a1 a2 a3 a4
  obtain ⟨htg, C, hC⟩ := tgT_obj (a1.2.2.2.2.1 k _ hk)
  have hK := hF.K htg
  refine va_aldq hx hb hK (a1.one hk) 0 0 (C := C) rfl (by rw [hC]; rfl) hin hd ?_
  cases hq : g y.toNatClampNeg with
  | none => exact kn hq H locs ls a1 a2 a3 a4
  | some q => exact ks q hq H locs ls a1 a2 a3 a4
theorem wz_sI (hx : p.tables.exec = Jvm.exec) (hb : c.code = cc) (hF : q_FX D dA base sa ro tbl s) {k n : Nat} {f : Nat → Int32} {y z : Int32} (hk : h.1 k = some (.inl (0, n, f))) (hin : vp_in y n) (hd : decode cc pc = .ok (.iastore, 1)) (kk : q_WZ p l e R s m args below meth c Q D dA base ad nL h0 (ph_put h k (.inl (0, n, upd f y.toNatClampNeg z))) lv (pc + 1) st) : q_WZ p l e R s m args below meth c Q D dA base ad nL h0 h lv pc (.int z :: .int y :: .ref k :: st) := by
  intro H locs ls a1 a2 a3 a4
  obtain ⟨i, hi, hw⟩ := a1.idx hk
  have hP := a1.2.2.2.2.2.1
  have hD := a1.2.2.2.2.2.2
  have hK := hF.K (t := 0) (by decide)
  refine W.iast hx hb (hP i _ hw) ((hK.2 0 _ rfl).1 n (fun j => .int (f j))) (fun q => by cases q) (by show ¬ (y < 0 ∨ (arrV _ _ _).slots.size ≤ _); rw [arrV_size]; exact hin) rfl rfl hd fun H1 e1 z1 oq => ?_
  refine kk H1 _ ls (a1.put (e := .inl (0, n, upd f y.toNatClampNeg z)) hk hi (Or.inl rfl) z1 (hP.set hD hw ?_ oq) (hD.set hw)) (a2.put z1 oq (hD.2 i _ hw)) a3 a4
  show H1[ad k]? = some (vp_cell _ _)
  rw [e1]
  rw [vp_cell_i, vp_cell_i, arrV_store]
  congr 2
  funext q
  by_cases hq : q = y.toNatClampNeg
  · subst hq
    simp [updV, upd]
  · simp [updV, upd, hq]
theorem wz_sZ (hx : p.tables.exec = Jvm.exec) (hb : c.code = cc) (hF : q_FX D dA base sa ro tbl s) {k n : Nat} {f : Nat → Int32} {y z : Int32} (hk : h.1 k = some (.inl (1, n, f))) (hin : vp_in y n) (hd : decode cc pc = .ok (.bastore, 1)) (kk : q_WZ p l e R s m args below meth c Q D dA base ad nL h0 (ph_put h k (.inl (1, n, upd f y.toNatClampNeg (vp_nar .boolean z)))) lv (pc + 1) st) : q_WZ p l e R s m args below meth c Q D dA base ad nL h0 h lv pc (.int z :: .int y :: .ref k :: st) := by
  intro H locs ls a1 a2 a3 a4
  obtain ⟨i, hi, hw⟩ := a1.idx hk
  have hP := a1.2.2.2.2.2.1
  have hD := a1.2.2.2.2.2.2
  have hK := hF.K (t := 1) (by decide)
  refine W.zast hx hb (hP i _ hw) ((hK.2 0 _ rfl).1 n (fun j => .int (f j))) (fun q => by cases q) (by show ¬ (y < 0 ∨ (arrV _ _ _).slots.size ≤ _); rw [arrV_size]; exact hin) rfl rfl hd fun H1 e1 z1 oq => ?_
  refine kk H1 _ ls (a1.put (e := .inl (1, n, upd f y.toNatClampNeg (vp_nar .boolean z))) hk hi (Or.inr (Or.inl rfl)) z1 (hP.set hD hw ?_ oq) (hD.set hw)) (a2.put z1 oq (hD.2 i _ hw)) a3 a4
  show H1[ad k]? = some (vp_cell _ _)
  rw [e1]
  rw [vp_cell_i, vp_cell_i, arrV_store]
  congr 2
  funext q
  by_cases hq : q = y.toNatClampNeg
  · subst hq
    simp [updV, upd, vp_nar]
    try rfl
  · simp [updV, upd, hq]
theorem tgT_cls {cl : Nat} {r : vw_C} (h : 10 + cl = 13 ∨ 10 + cl = 14 ∨ 10 + cl = 17 ∨ 10 + cl = 18) (hc : vwCl[cl]? = some r) : tgT (10 + cl) = .object r.1 := by
  rcases h with h | h | h | h
  · obtain rfl : cl = 3 := by omega
    cases hc; rfl
  · obtain rfl : cl = 4 := by omega
    cases hc; rfl
  · obtain rfl : cl = 7 := by omega
    cases hc; rfl
  · obtain rfl : cl = 8 := by omega
    cases hc; rfl
theorem wz_sR (hx : p.tables.exec = Jvm.exec) (hb : c.code = cc) (hF : q_FX D dA base sa ro tbl s) {k n cl q : Nat} {g : Nat → Option Nat} {fs : List Value} {y : Int32} (hk : h.1 k = some (.inr (.inl (10 + cl, n, g)))) (hq : h.1 q = some (.inr (.inr (cl, fs)))) (hin : vp_in y n) (hd : decode cc pc = .ok (.aastore, 1)) (kk : q_WZ p l e R s m args below meth c Q D dA base ad nL h0 (ph_put h k (.inr (.inl (10 + cl, n, va_up g y.toNatClampNeg (some q))))) lv (pc + 1) st) : q_WZ p l e R s m args below meth c Q D dA base ad nL h0 h lv pc (.ref q :: .int y :: .ref k :: st) := by
  intro H locs ls a1 a2 a3 a4
  obtain ⟨i, hi, hw⟩ := a1.idx hk
  obtain ⟨iq, hiq, hwq⟩ := a1.idx hq
  have hP := a1.2.2.2.2.2.1
  have hD := a1.2.2.2.2.2.2
  have hok : 10 + cl = 13 ∨ 10 + cl = 14 ∨ 10 + cl = 17 ∨ 10 + cl = 18 := a1.2.2.2.2.1 k _ hk
  have htg := (tgT_obj hok).1
  have hK := hF.K htg
  have hlt : y.toNatClampNeg < n := Nat.not_le.mp fun w => hin (Or.inr w)
  have h9 : ¬ y < 0 := fun w => hin (Or.inl w)
  obtain ⟨r, hr', cellV, g1, g2, g3, -⟩ := hP iq _ hwq
  have hC := tgT_cls hok hr'
  have hcls := (hF.1 cl r hr').2
  have hRA := (hF.2.1 _ htg).2
  rw [hC] at hRA
  obtain ⟨kA, comp, k1, k2, k3, -⟩ := hRA
  have hcomp : comp = D.1 cl := Option.some.inj (k3.symm.trans hcls.1)
  subst hcomp
  obtain ⟨kC, hkC, -⟩ := id hcls.2
  refine W.aast hx hb (hP i _ hw) (fun q h => by cases h) (fun h => by cases h) k1 k2 rfl hkC ⟨h9, by show _ < (arrV _ _ _).slots.size; rw [arrV_size]; exact hlt⟩ g1 (fun q h => by rw [g3] at h; cases h) (by rw [g2]; exact hkC) (by rw [g2]; exact va_assign hcls) rfl rfl hd fun H1 e1 z1 oq => ?_
  refine kk H1 _ ls (a1.put (e := .inr (.inl (10 + cl, n, va_up g y.toNatClampNeg (some q)))) hk hi hok z1 (hP.set hD hw ?_ oq) (hD.set hw)) (a2.put z1 oq (hD.2 i _ hw)) a3 a4
  show H1[ad k]? = some (vp_cell _ _)
  rw [e1]
  rw [vp_cell_q, vp_cell_q, arrV_store]
  congr 2
  funext z
  by_cases hz : z = y.toNatClampNeg
  · subst hz
    simp [updV, va_up, va_rf]
  · simp [updV, va_up, hz]
theorem wz_stat (hx : p.tables.exec = Jvm.exec) (hb : c.code = cc) (hF : q_FX D dA base sa ro tbl s) (hown : s.vm.findClass own = some m.cls) (hsa : ∀ k, 30000 ≤ k → ad k = sa k) {i x : Nat} {z : String × String} (hz : statL[i]? = some z) (hl : (Cond.fieldLink own x "PoleLogs" z.1 z.2).before args s = true ∨ (Cond.fieldLinkNest own x "PoleLogs" z.1 z.2 "PoleLogs").before args s = true) (hd : decode cc pc = .ok (.getstatic x, 3)) (kk : q_WZ p l e R s m args below meth c Q D dA base ad nL h0 h lv (pc + 3) (.ref (30000 + i) :: st)) : q_WZ p l e R s m args below meth c Q D dA base ad nL h0 h lv pc st := by
  intro H locs ls a1 a2 a3 a4
  have kk : W p l e R s m args below meth c H locs (h.2.2.1.length - h0.2.2.1.length) (h.2.2.2 - h0.2.2.2) Q (F0 m (pc + 3) ls (.ref (ad (30000 + i)) :: st.map (q_tr ad))) := kk H locs ls a1 a2 a3 a4
  rw [hsa (30000 + i) (by omega)] at kk
  rcases hl with hl | hl
  · exact va_gets hx hb (hF.2.2.1 i z hz) a2 hown hl (fun _ w => w) hd kk
  · exact va_getsN hx hb (hF.2.2.1 i z hz) a2 hown hl (fun _ w => w) hd kk
theorem wz_new (hx : p.tables.exec = Jvm.exec) (hb : c.code = cc) (hF : q_FX D dA base sa ro tbl s) (hown : s.vm.findClass own = some m.cls) {ci x k : Nat} {C : String} {T : u_T} {N : Nat} (hc : vwCl[ci]? = some (C, T, N)) (hU : ∀ w ∈ u_ws C T N, w.before args s = true) (hty : ∀ k, k < N → parseFieldDescriptor (T k).2.2.1 = some (clT ci k)) (hlt : ci < 12)
    (hcl : (Cond.classLink own x C).before args s = true) (hinst : (Cond.instantiable C N).before args s = true) (hini : (Cond.initialized C).before args s = true) (hk : h.1 k = none) (hk3 : k < 30000) (ha : ad k = base + h.2.2.1.length)
    (hcells : h.2.2.1.length - h0.2.2.1.length + 1 ≤ R.cells) (hslots : h.2.2.2 - h0.2.2.2 + N ≤ R.slots) (hd : decode cc pc = .ok (.new x, 3)) (kk : q_WZ p l e R s m args below meth c Q D dA base ad nL h0 (ph_add h k ci N (.inr (.inr (ci, dfl ci)))) lv (pc + 3) (.ref k :: st)) : q_WZ p l e R s m args below meth c Q D dA base ad nL h0 h lv pc st := by
  intro H locs ls a1 a2 a3 a4
  have hKn := hF.1 ci _ hc
  have hak : ad k = H.size := by rw [ha, a1.1]
  refine W.newcK hx hb hown hcl hinst hini rfl hd hcells hslots hKn.2.1 rfl fun H1 kC hkC e1 z1 o1 => ?_
  have hN : N = clN ci := by simp [clN, List.getD_eq_getElem?_getD, hc]
  have hat : va_at D vwCl (ad k, q_trE dA ad (.inr (.inr (ci, dfl ci)))) H1 := by
    refine ⟨_, hc, ?_⟩
    show t_OB (ad k) _ _ _ _ _
    rw [hak]
    refine (u_born (clT ci) hU (fun _ w => w) hKn hkC e1 hty).to (fun y hy => ?_)
    have hy : y < clN ci := by rw [← hN]; exact hy
    simp [vp_V, dfl, List.getD_eq_getElem?_getD, List.getElem?_range hy, q_trd]
  have hle : h0.2.2.1.length ≤ h.2.2.1.length := a4.1.length_le
  have hle2 := a4.2
  have kk := kk H1 locs ls (a1.add (n := N) hk hk3 hlt z1 hak o1 hat) ⟨Nat.le_trans a2.1 (by omega), fun y g1 g2 => (o1 y (Nat.lt_of_lt_of_le g1 a2.1)).trans (a2.2.1 y g1 g2), a2.2.2⟩ a3 (a4.tr (PLe.add _ _ _ _ _))
  have e1 : (ph_add h k ci N (.inr (.inr (ci, dfl ci)))).2.2.1.length - h0.2.2.1.length = h.2.2.1.length - h0.2.2.1.length + 1 := by simp [ph_add]; omega
  have e2 : (ph_add h k ci N (.inr (.inr (ci, dfl ci)))).2.2.2 - h0.2.2.2 = h.2.2.2 - h0.2.2.2 + N := by simp [ph_add]; omega
  rw [e1, e2] at kk
  have kk : W p l e R s m args below meth c H1 locs (h.2.2.1.length - h0.2.2.1.length + 1) (h.2.2.2 - h0.2.2.2 + N) Q (F0 m (pc + 3) ls (.ref (ad k) :: st.map (q_tr ad))) := kk
  rw [hak] at kk
  exact kk
theorem wz_newa (hx : p.tables.exec = Jvm.exec) (hb : c.code = cc) (hF : q_FX D dA base sa ro tbl s) {t k : Nat} {n : Int32} {at_ : ArrayType} (hat0 : (t = 0 ∧ at_ = .int) ∨ (t = 1 ∧ at_ = .boolean)) (harr : (Cond.arrayClass (newarray.typeOf at_)).before args s = true) (hn : ¬ n < 0) (hn2 : n.toNatClampNeg ≤ 100000) (hk : h.1 k = none) (hk3 : k < 30000) (ha : ad k = base + h.2.2.1.length)
    (hcells : h.2.2.1.length - h0.2.2.1.length + 1 ≤ R.cells) (hslots : h.2.2.2 - h0.2.2.2 + n.toNatClampNeg ≤ R.slots) (hd : decode cc pc = .ok (.newarray at_, 2)) (kk : q_WZ p l e R s m args below meth c Q D dA base ad nL h0 (ph_add h k 20 n.toNatClampNeg (.inl (t, n.toNatClampNeg, fun _ => 0))) lv (pc + 2) (.ref k :: st)) : q_WZ p l e R s m args below meth c Q D dA base ad nL h0 h lv pc (.int n :: st) := by
  intro H locs ls a1 a2 a3 a4
  have hak : ad k = H.size := by rw [ha, a1.1]
  refine va_newaK hx hb harr rfl hd rfl hn rfl (by rcases hat0 with ⟨-, rfl⟩ | ⟨-, rfl⟩ <;> simp [newarray.typeOf, componentBytes] <;> omega) hcells hslots rfl fun H1 cA e1 z1 o1 hAr hNm => ?_
  have hat : va_at D vwCl (ad k, q_trE dA ad (.inl (t, n.toNatClampNeg, fun _ => 0))) H1 := by
    rw [hak]
    rcases hat0 with ⟨rfl, rfl⟩ | ⟨rfl, rfl⟩
    · have hc0 : cA = dA 0 := Option.some.inj (hNm.symm.trans (hF.2.1 0 (by decide)).2)
      subst hc0
      exact e1
    · have hc0 : cA = dA 1 := Option.some.inj (hNm.symm.trans (hF.2.1 1 (by decide)).2)
      subst hc0
      exact e1
  have hok : q_ok (.inl (t, n.toNatClampNeg, fun _ => 0)) := by rcases hat0 with ⟨rfl, rfl⟩ | ⟨rfl, rfl⟩; exact Or.inl rfl; exact Or.inr (Or.inl rfl)
  have hle : h0.2.2.1.length ≤ h.2.2.1.length := a4.1.length_le
  have hle2 := a4.2
  have kk := kk H1 locs ls (a1.add (n := n.toNatClampNeg) hk hk3 hok z1 hak o1 hat) ⟨Nat.le_trans a2.1 (by omega), fun y g1 g2 => (o1 y (Nat.lt_of_lt_of_le g1 a2.1)).trans (a2.2.1 y g1 g2), a2.2.2⟩ a3 (a4.tr (PLe.add _ _ _ _ _))
  have e2 : (ph_add h k 20 n.toNatClampNeg (.inl (t, n.toNatClampNeg, fun _ => 0))).2.2.1.length - h0.2.2.1.length = h.2.2.1.length - h0.2.2.1.length + 1 := by simp [ph_add]; omega
  have e3 : (ph_add h k 20 n.toNatClampNeg (.inl (t, n.toNatClampNeg, fun _ => 0))).2.2.2 - h0.2.2.2 = h.2.2.2 - h0.2.2.2 + n.toNatClampNeg := by simp [ph_add]; omega
  rw [e2, e3] at kk
  have kk : W p l e R s m args below meth c H1 locs (h.2.2.1.length - h0.2.2.1.length + 1) (h.2.2.2 - h0.2.2.2 + n.toNatClampNeg) Q (F0 m (pc + 2) ls (.ref (ad k) :: st.map (q_tr ad))) := kk
  rw [hak] at kk
  exact kk
theorem wz_newq (hx : p.tables.exec = Jvm.exec) (hb : c.code = cc) (hF : q_FX D dA base sa ro tbl s) (hown : s.vm.findClass own = some m.cls) {t k x : Nat} {n : Int32} {C : String} (hok : t = 13 ∨ t = 14 ∨ t = 17 ∨ t = 18) (hC : tgT t = .object C) (hcl : (Cond.classLink own x C).before args s = true) (hov : va_AO C s) (hn : ¬ n < 0) (hn2 : n.toNatClampNeg ≤ 100000) (hk : h.1 k = none) (hk3 : k < 30000) (ha : ad k = base + h.2.2.1.length)
    (hcells : h.2.2.1.length - h0.2.2.1.length + 1 ≤ R.cells) (hslots : h.2.2.2 - h0.2.2.2 + n.toNatClampNeg ≤ R.slots) (hd : decode cc pc = .ok (.anewarray x, 3)) (kk : q_WZ p l e R s m args below meth c Q D dA base ad nL h0 (ph_add h k 20 n.toNatClampNeg (.inr (.inl (t, n.toNatClampNeg, fun _ => none)))) lv (pc + 3) (.ref k :: st)) : q_WZ p l e R s m args below meth c Q D dA base ad nL h0 h lv pc (.int n :: st) := by
  intro H locs ls a1 a2 a3 a4
  have hak : ad k = H.size := by rw [ha, a1.1]
  have hRA := (hF.2.1 t (tgT_obj hok).1).2
  rw [hC] at hRA
  obtain ⟨kA', comp', f1', f2', f3', f4'⟩ := hRA
  refine W.anew hx hb hown hcl (va_AO.use hov) rfl hd rfl hn (by omega) hcells hslots fun cA kA comp f1 f2 f3 f4 => ?_
  have hcA : cA = dA t := Option.some.inj (f1.symm.trans f4')
  subst hcA
  generalize hH1 : H.push ({ cls := dA t, slots := Array.replicate n.toNatClampNeg .null, vm := .none } : Cell) = H1
  have z1 : H1.size = H.size + 1 := by rw [← hH1, Array.size_push]
  have e1 : H1[H.size]? = some (arrV (dA t) n.toNatClampNeg (fun _ => .null)) := by rw [← hH1, Array.getElem?_push_size, ← arrV_new]
  have o1 : ∀ q : Nat, q < H.size → H1[q]? = H[q]? := fun q hq => by rw [← hH1, Array.getElem?_push, if_neg (Nat.ne_of_lt hq)]
  have hat : va_at D vwCl (ad k, q_trE dA ad (.inr (.inl (t, n.toNatClampNeg, fun _ => none)))) H1 := by
    rw [hak]
    exact e1
  have hle : h0.2.2.1.length ≤ h.2.2.1.length := a4.1.length_le
  have hle2 := a4.2
  have kk := kk H1 locs ls (a1.add (n := n.toNatClampNeg) hk hk3 hok z1 hak o1 hat) ⟨Nat.le_trans a2.1 (by omega), fun y g1 g2 => (o1 y (Nat.lt_of_lt_of_le g1 a2.1)).trans (a2.2.1 y g1 g2), a2.2.2⟩ a3 (a4.tr (PLe.add _ _ _ _ _))
  have e2 : (ph_add h k 20 n.toNatClampNeg (.inr (.inl (t, n.toNatClampNeg, fun _ => none)))).2.2.1.length - h0.2.2.1.length = h.2.2.1.length - h0.2.2.1.length + 1 := by simp [ph_add]; omega
  have e3 : (ph_add h k 20 n.toNatClampNeg (.inr (.inl (t, n.toNatClampNeg, fun _ => none)))).2.2.2 - h0.2.2.2 = h.2.2.2 - h0.2.2.2 + n.toNatClampNeg := by simp [ph_add]; omega
  rw [e2, e3] at kk
  have kk : W p l e R s m args below meth c H1 locs (h.2.2.1.length - h0.2.2.1.length + 1) (h.2.2.2 - h0.2.2.2 + n.toNatClampNeg) Q (F0 m (pc + 3) ls (.ref (ad k) :: st.map (q_tr ad))) := kk
  rw [hak] at kk
  exact kk
theorem wz_objInit (hx : p.tables.exec = Jvm.exec) (hb : c.code = cc) (hml : c.maxLocals = nL) (hown : s.vm.findClass own = some m.cls) {x k : Nat} (hl : (Cond.methodLink own x Lib.objectInit).before args s = true) (hin : (Cond.instanceMethod Lib.objectInit).before args s = true) (hco : (Cond.code Lib.objectInit ⟨#[0xb1]⟩ 1 none).before args s = true) (hst : st.length ≤ 4) (hR : 1 ≤ R.frames ∧ 60 ≤ R.locals) (hd : decode cc pc = .ok (.invokespecial x, 3)) (kk : q_WZ p l e R s m args below meth c Q D dA base ad nL h0 h lv (pc + 3) st) : q_WZ p l e R s m args below meth c Q D dA base ad nL h0 h lv pc (.ref k :: st) := fun H locs ls a1 a2 a3 a4 =>
  W.objInit hx hb hown hl hin hco rfl (by rw [hml]; exact a3.1) rfl hd hR.1 (by have := q_cats ad st 4 hst; show 2 * 0 + _ + 12 ≤ _; omega) (kk H locs ls a1 a2 a3 a4)
theorem wz_castA (hx : p.tables.exec = Jvm.exec) (hb : c.code = cc) (hF : q_FX D dA base sa ro tbl s) (hown : s.vm.findClass own = some m.cls) {x k n : Nat} {f : Nat → Int32} (hl : (Cond.classLink own x "[I").before args s = true) (hk : h.1 k = some (.inl (0, n, f))) (hd : decode cc pc = .ok (.checkcast x, 3)) (kk : q_WZ p l e R s m args below meth c Q D dA base ad nL h0 h lv (pc + 3) (.ref k :: st)) : q_WZ p l e R s m args below meth c Q D dA base ad nL h0 h lv pc (.ref k :: st) := fun H locs ls a1 a2 a3 a4 =>
  va_castA hx hb hown hl (a1.one hk) 0 rfl (hF.2.1 0 (by decide)).2 hd (kk H locs ls a1 a2 a3 a4)
end WZ2
end
section
/-! arraycopy, clone, calls, returns -/
def q_room (d mc ms : Nat) : Room := { frames := d, cells := mc, slots := ms, locals := 60 * d }
def q_ws (mY : Nat → MethodName) (mC : Nat → ByteArray) (mL : Nat → Nat) (mT : Nat → Option FieldType) (tbl : List Cond) (M : Nat) : List Cond := .code (mY M) (mC M) (mL M) (mT M) :: tbl.filter goodWord
/-- a call of method M, at most d deep, does what the pure machine says -/
def q_Met (l : Launch) (D : va_G) (dA : Nat → ClassId) (base : Nat) (sa : Nat → Nat) (ro : RO) (mY : Nat → MethodName) (mC : Nat → ByteArray) (mL : Nat → Nat) (mT : Nat → Option FieldType) (tbl : List Cond) (d M : Nat) (as : List Value) (h : PH) (r : Option Value) (h' : PH) : Prop :=
  ∀ ad : Nat → Nat, (∀ (i k : Nat), h'.2.2.1[i]? = some k → ad k = base + i) → (∀ k, 30000 ≤ k → ad k = sa k) →
    Met l (mY M) (q_ws mY mC mL mT tbl M) (q_room d (h'.2.2.1.length - h.2.2.1.length) (h'.2.2.2 - h.2.2.2)) (va_Pc (as.map (q_tr ad)) (fun U => q_Rep D dA base ad h U.heap ∧ q_FX D dA base sa ro tbl U))
      (fun _ st o t => o = .returned (r.map (q_tr ad)) ∧ q_Rep D dA base ad h' t.heap ∧ va_F (q_A base) st t) (h'.2.2.1.length - h.2.2.1.length) (h'.2.2.2 - h.2.2.2) (q_A base)
section WZ3
variable {p : Program} {l : Launch} {e : Env} {R : Room} {s : State} {m : MethodId} {args : Array Value} {below : List Frame} {meth : Method} {c : Code} {Q : State → Prop} {D : va_G} {dA : Nat → ClassId} {base : Nat} {ad : Nat → Nat} {nL : Nat} {h0 h : PH} {lv : PL} {pc : Nat} {st : List Value} {cc : ByteArray} {sa : Nat → Nat} {ro : RO} {tbl : List Cond} {own : String}
theorem wz_copy (hx : p.tables.exec = Jvm.exec) (hb : c.code = cc) (hml : c.maxLocals = nL) (hF : q_FX D dA base sa ro tbl s) (hown : s.vm.findClass own = some m.cls) {x k q n0 n1 : Nat} {f g : Nat → Int32} {sp dp n : Int32} (hl : (Cond.methodLink own x arraycopyName).before args s = true) (hnat : (Cond.native arraycopyName).before args s = true) (hstat : (Cond.static arraycopyName).before args s = true) (hini : (Cond.initialized "java/lang/System").before args s = true)
    (hk : h.1 k = some (.inl (0, n0, f))) (hq : h.1 q = some (.inl (0, n1, g))) (h1 : ¬ sp < 0) (h2 : ¬ dp < 0) (h3 : ¬ n < 0) (h4 : sp.toNatClampNeg + n.toNatClampNeg ≤ n0) (h5 : dp.toNatClampNeg + n.toNatClampNeg ≤ n1) (hst : st.length ≤ 4) (hR : 1 ≤ R.frames ∧ 60 ≤ R.locals) (hd : decode cc pc = .ok (.invokestatic x, 3))
    (kk : q_WZ p l e R s m args below meth c Q D dA base ad nL h0 (ph_put h q (.inl (0, n1, va_cpy f g sp.toNatClampNeg dp.toNatClampNeg n.toNatClampNeg))) lv (pc + 3) st) : q_WZ p l e R s m args below meth c Q D dA base ad nL h0 h lv pc (.int n :: .int dp :: .ref q :: .int sp :: .ref k :: st) := by
  have nn : ∀ z : Int32, ¬ z < 0 → z.toInt = (z.toNatClampNeg : Int) := by
    intro z hz
    have hz0 : (0 : Int) ≤ z.toInt := by
      have := Int32.not_lt.mp hz
      simpa using Int32.le_iff_toInt_le.mp this
    show z.toInt = ((z.toInt.toNat : Nat) : Int)
    omega
  intro H locs ls a1 a2 a3 a4 T hT X
  obtain ⟨i0, hi0, hw0⟩ := a1.idx hk
  obtain ⟨i1, hi1, hw1⟩ := a1.idx hq
  have hP := a1.2.2.2.2.2.1
  have hD := a1.2.2.2.2.2.2
  have hK := hF.K (t := 0) (by decide)
  have hc0 : H[ad k]? = some (vp_cell (dA 0) (n0, .inl f)) := hP i0 _ hw0
  have hc1 : H[ad q]? = some (vp_cell (dA 0) (n1, .inl g)) := hP i1 _ hw1
  obtain ⟨-, k0, hk0, cm0, hkk0⟩ := (hK.2 0 _ rfl).1 n0 (fun j => .int (f j))
  have hlo : ((st.map (q_tr ad)).map fun v => v.category).sum ≤ 8 := q_cats ad st 4 hst
  obtain ⟨vm', X', step⟩ := X.arraycopy hx hown hl hnat hstat hini (src := ad k) (dst := ad q) (cs := vp_cell (dA 0) (n0, .inl f)) (cd := vp_cell (dA 0) (n1, .inl g)) (srcPos := sp) (destPos := dp) (n := n) (by rw [hT]; exact hc0) (by rw [hT]; exact hc1)
    (fun _ h => by cases h) (fun _ h => by cases h) (fun h => by cases h) (fun h => by cases h) hk0 hk0 hkk0 hkk0 (by simp [refKind, tgT]) h1 h2 h3
    (by rw [nn sp h1, nn n h3]; show ¬ _ > ((arrV (dA 0) n0 (fun j => .int (f j))).slots.size : Int); rw [arrV_size]; omega)
    (by rw [nn dp h2, nn n h3]; show ¬ _ > ((arrV (dA 0) n1 (fun j => .int (g j))).slots.size : Int); rw [arrV_size]; omega)
    (fun vm₁ _ i hi => by
      have e : (vp_cell (dA 0) (n0, .inl f)).slots.getD (sp.toNatClampNeg + i) .null = .int (f (sp.toNatClampNeg + i)) := by
        show (arrV (dA 0) n0 (fun j => .int (f j))).slots.getD _ _ = _
        rw [Array.getD_eq_getD_getElem?, arrV_read _ _ (by omega)]
        rfl
      refine ⟨?_, ?_⟩
      · rw [e]
        rfl
      · rw [e]
        exact trivial)
    (g := F0 m pc ls (.int n :: .int dp :: .ref (ad q) :: .int sp :: .ref (ad k) :: st.map (q_tr ad))) rfl (by rw [hml]; exact a3.1) (rest := st.map (q_tr ad)) rfl (by rw [hb]; exact hd) hR.1 (by
      have hw : nativeFrameWords "java/lang/System" "arraycopy" 5 + 11 ≤ 50 := by decide
      show 2 * 0 + _ + _ ≤ _
      omega)
  have e1 : copied (vp_cell (dA 0) (n0, .inl f)) (vp_cell (dA 0) (n1, .inl g)) sp dp n = vp_cell (dA 0) (n1, .inl (va_cpy f g sp.toNatClampNeg dp.toNatClampNeg n.toNatClampNeg)) := va_copied (fun z => .int z) (dA 0) (dA 0) f g h4
  rw [e1] at X' step
  have hlt : ad q < H.size := (Array.getElem?_eq_some_iff.mp hc1).1
  have hheap : ((T.setVm vm').setCell (ad q) (vp_cell (dA 0) (n1, .inl (va_cpy f g sp.toNatClampNeg dp.toNatClampNeg n.toNatClampNeg)))).heap = H.setIfInBounds (ad q) (vp_cell (dA 0) (n1, .inl (va_cpy f g sp.toNatClampNeg dp.toNatClampNeg n.toNatClampNeg))) := by rw [← hT]; rfl
  have oq : ∀ y : Nat, y ≠ ad q → (H.setIfInBounds (ad q) (vp_cell (dA 0) (n1, .inl (va_cpy f g sp.toNatClampNeg dp.toNatClampNeg n.toNatClampNeg))))[y]? = H[y]? := fun y hy => by simp [Array.getElem?_setIfInBounds, Ne.symm hy]
  have zq : (H.setIfInBounds (ad q) (vp_cell (dA 0) (n1, .inl (va_cpy f g sp.toNatClampNeg dp.toNatClampNeg n.toNatClampNeg)))).size = H.size := by simp
  obtain ⟨t, b1, b2⟩ := kk _ _ ls (a1.put (e := .inl (0, n1, va_cpy f g sp.toNatClampNeg dp.toNatClampNeg n.toNatClampNeg)) hq hi1 (Or.inl rfl) zq (hP.set hD hw1 (show (H.setIfInBounds (ad q) _)[ad q]? = some _ by simp [Array.getElem?_setIfInBounds, hlt]) oq) (hD.set hw1))
    ⟨by rw [zq]; exact a2.1, fun y g1 g2 => by
      rw [oq y (fun e => g2 (by rw [e]; exact hD.2 i1 _ hw1))]
      exact a2.2.1 y g1 g2, fun y hy => by
      rcases List.mem_append.mp hy with h | h
      · exact a2.2.2 y h
      · obtain ⟨z, -, hz⟩ := List.mem_map.mp h
        rw [← hz]
        exact hD.2 i1 _ hw1⟩ a3 a4 _ hheap X'
  exact ⟨t, step t b1, b2⟩
theorem wz_clone (hx : p.tables.exec = Jvm.exec) (hb : c.code = cc) (hml : c.maxLocals = nL) (hF : q_FX D dA base sa ro tbl s) (hown : s.vm.findClass own = some m.cls) {x k q n : Nat} {f : Nat → Int32}
    (hlink : (Cond.methodLink own x ⟨"[I", "clone", "()Ljava/lang/Object;"⟩).before args s = true) (hsame : (Cond.sameMethod "[I" "java/lang/Object" "clone" "()Ljava/lang/Object;").before args s = true)
    (hnat : (Cond.native ⟨"java/lang/Object", "clone", "()Ljava/lang/Object;"⟩).before args s = true) (hinst : (Cond.instanceMethod ⟨"java/lang/Object", "clone", "()Ljava/lang/Object;"⟩).before args s = true)
    (hsel : (Cond.selects "[I" ⟨"[I", "clone", "()Ljava/lang/Object;"⟩ ⟨"java/lang/Object", "clone", "()Ljava/lang/Object;"⟩).before args s = true) (hcl : va_Nw (.castable "[I" "java/lang/Cloneable") s)
    (hk : h.1 k = some (.inl (0, n, f))) (hq : h.1 q = none) (hq3 : q < 30000) (ha : ad q = base + h.2.2.1.length) (hst : st.length ≤ 4) (hR : 1 ≤ R.frames ∧ 60 ≤ R.locals) (hcells : h.2.2.1.length - h0.2.2.1.length + 1 ≤ R.cells) (hslots : h.2.2.2 - h0.2.2.2 + n ≤ R.slots) (hd : decode cc pc = .ok (.invokevirtual x, 3))
    (kk : q_WZ p l e R s m args below meth c Q D dA base ad nL h0 (ph_add h q 20 n (.inl (0, n, f))) lv (pc + 3) (.ref q :: st)) : q_WZ p l e R s m args below meth c Q D dA base ad nL h0 h lv pc (.ref k :: st) := by
  intro H locs ls a1 a2 a3 a4 T hT X
  have hak : ad q = H.size := by rw [ha, a1.1]
  have hK := hF.K (t := 0) (by decide)
  have hnm : s.vm.findClass "[I" = some (dA 0) := (hF.2.1 0 (by decide)).2
  have hsz : (vp_cell (dA 0) (n, .inl f)).slots.size = n := arrV_size _ _ _
  obtain ⟨c0, t0', f1, f2, f3⟩ := Cond.castable_spec (va_Nw.use (A := args) rfl hcl)
  cases hnm.symm.trans f1
  have hcellT : T.heap[ad k]? = some (vp_cell (dA 0) (n, .inl f)) := by rw [hT]; exact a1.one hk 0 _ rfl
  obtain ⟨-, kA, hkA, comp, hkind⟩ := State.isArrayOf_alike X.warmed.alike ((hK.2 0 _ rfl).1 0 (fun _ => .null))
  obtain ⟨-, kS, hkS, compS, hkindS⟩ := (hK.2 0 _ rfl).1 0 (fun _ => .null)
  have hlo : ((st.map (q_tr ad)).map fun v => v.category).sum ≤ 8 := q_cats ad st 4 hst
  obtain ⟨vm', X', stp⟩ := X.cloneArray hx hown hlink hsame hnat hinst hsel (a := ad k) (cell := vp_cell (dA 0) (n, .inl f)) hcellT (fun k h => by cases h) (fun h => by cases h) hnm f2 f3
    (fun i v hv => by
      have hk' : T.vm.classes[dA 0]? = some kA := hkA
      have hv' : fits .int v = true := by
        have hv : (arrV (dA 0) n (fun j => .int (f j))).slots[i]? = some v := hv
        have hi : i < n := by
          have := (Array.getElem?_eq_some_iff.mp hv).1
          rwa [arrV_size] at this
        rw [arrV_read _ _ hi] at hv
        cases hv
        rfl
      have hc9 : (vp_cell (dA 0) (n, .inl f)).cls = dA 0 := rfl
      simpa [State.fitsSlot, State.slotType?, hk', hkind, hc9, tgT] using hv')
    (g := F0 m pc ls (.ref (ad k) :: st.map (q_tr ad))) rfl (by rw [hml]; exact a3.1) rfl (by rw [hb]; exact hd) hR.1 (by show 2 * 0 + _ + 14 ≤ _; omega) hcells (by rw [hsz]; exact hslots) (hloader := Vm.clonesLoader_of_array hkS hkindS)
  have hcellE : ({ cls := (vp_cell (dA 0) (n, .inl f)).cls, slots := (vp_cell (dA 0) (n, .inl f)).slots } : Cell) = vp_cell (dA 0) (n, .inl f) := rfl
  rw [hcellE, hsz] at X'
  generalize hH1 : H.push (vp_cell (dA 0) (n, .inl f)) = H1
  have z1 : H1.size = H.size + 1 := by rw [← hH1, Array.size_push]
  have e1 : H1[H.size]? = some (vp_cell (dA 0) (n, .inl f)) := by rw [← hH1, Array.getElem?_push_size]
  have o1 : ∀ y : Nat, y < H.size → H1[y]? = H[y]? := fun y hy => by rw [← hH1, Array.getElem?_push, if_neg (Nat.ne_of_lt hy)]
  have hat : va_at D vwCl (ad q, q_trE dA ad (.inl (0, n, f))) H1 := by
    rw [hak]
    exact e1
  have hle : h0.2.2.1.length ≤ h.2.2.1.length := a4.1.length_le
  have hle2 := a4.2
  have kk := kk H1 locs ls (a1.add (n := n) hq hq3 (Or.inl rfl) z1 hak o1 hat) ⟨Nat.le_trans a2.1 (by omega), fun y g1 g2 => (o1 y (Nat.lt_of_lt_of_le g1 a2.1)).trans (a2.2.1 y g1 g2), a2.2.2⟩ a3 (a4.tr (PLe.add _ _ _ _ _))
  have e2 : (ph_add h q 20 n (.inl (0, n, f))).2.2.1.length - h0.2.2.1.length = h.2.2.1.length - h0.2.2.1.length + 1 := by simp [ph_add]; omega
  have e3 : (ph_add h q 20 n (.inl (0, n, f))).2.2.2 - h0.2.2.2 = h.2.2.2 - h0.2.2.2 + n := by simp [ph_add]; omega
  rw [e2, e3] at kk
  have kk : W p l e R s m args below meth c H1 locs (h.2.2.1.length - h0.2.2.1.length + 1) (h.2.2.2 - h0.2.2.2 + n) Q (F0 m (pc + 3) ls (.ref (ad q) :: st.map (q_tr ad))) := kk
  rw [hak] at kk
  obtain ⟨t, b1, b2⟩ := kk ((T.setVm vm').pushCell (vp_cell (dA 0) (n, .inl f))) (by rw [← hH1, ← hT]; rfl) X'
  refine ⟨t, stp t ?_, b2⟩
  rw [hcellE, hT]
  exact b1
/-- behind a call -/
theorem wz_back {rv : Option Value} {h1 h2 : PH} {H : Heap} {locs : List Loc} {ls : Array Slot} {cells slots mc ms : Nat} {st0 rest : List Value}
    (hr : va_Run p l e R s m args below meth c H locs cells slots mc ms (F0 m pc ls st0) rest (fun st o t => o = .returned (rv.map (q_tr ad)) ∧ q_Rep D dA base ad h2 t.heap ∧ va_F (q_A base) st t) (q_A base)) (hS : va_S (q_A base) s.heap H locs)
    (kk : ∀ (H1 : Heap) (locs1 : List Loc), q_Rep D dA base ad h2 H1 → va_S (q_A base) s.heap H1 locs1 → W p l e R s m args below meth c H1 locs1 (cells + mc) (slots + ms) Q (F0 m (pc + 3) ls ((rv.map (q_tr ad)).toList ++ rest))) : W p l e R s m args below meth c H locs cells slots Q (F0 m pc ls st0) := by
  intro T hT X
  obtain ⟨v, st₀, t, T', L, g0, X', hL, e1, e2, ⟨hv, hp, hz, hk⟩, stp⟩ := hr T hT X
  cases hv
  rw [g0] at hz hk
  obtain ⟨t2, a1, b1⟩ := kk T'.heap (locs ++ L) (by rw [e1]; exact hp)
    ⟨Nat.le_trans hS.1 (by rw [e1]; exact hz), fun q g1 g2 => by rw [e1, hk q (Nat.lt_of_lt_of_le g1 hS.1) g2]; exact hS.2.1 q g1 g2, fun q hq => by
      rcases List.mem_append.mp hq with h | h
      · exact hS.2.2 q h
      · exact hL q h⟩ T' rfl X'
  exact ⟨t2, stp t2 a1, b1⟩
variable {mY : Nat → MethodName} {mC : Nat → ByteArray} {mL : Nat → Nat} {mT : Nat → Option FieldType}
/-- what every call of method M needs of the tables -/
theorem wz_pre {as : List Value} {H : Heap} {locs : List Loc} (hF : q_FX D dA base sa ro tbl s) (a1 : q_Rep D dA base ad h H) (a2 : va_S (q_A base) s.heap H locs) : PreS s H (va_Pc (as.map (q_tr ad)) (fun U => q_Rep D dA base ad h U.heap ∧ q_FX D dA base sa ro tbl U)) (as.map (q_tr ad)) :=
  ⟨fun a U g mk q => ⟨q.1, q.2.1, q.2.2.same rfl rfl⟩, fun U hU hW => ⟨rfl, by rw [hU]; exact a1, hF.moved hW a2 hU⟩⟩
theorem q_good (hts : ∀ w ∈ tbl, goodWord w = true → w.before args s = true) {M : Nat} (hco : Cond.code (mY M) (mC M) (mL M) (mT M) ∈ tbl) : ∀ w ∈ q_ws mY mC mL mT tbl M, ∀ (a' : Array Value) (U : State), s.WarmedH U.vm → w.before a' U = true := by
  intro w hw a' U hW
  rcases List.mem_cons.mp hw with rfl | hw
  · exact word_at hW (Or.inl rfl) (hts _ hco rfl)
  · obtain ⟨g1, g2⟩ := List.mem_filter.mp hw
    exact word_at hW (good_of_word g2) (hts w g1 g2)
theorem wz_call (hx : p.tables.exec = Jvm.exec) (hb : c.code = cc) (hml : c.maxLocals = nL) (hF : q_FX D dA base sa ro tbl s) (hown : s.vm.findClass own = some m.cls) (hts : ∀ w ∈ tbl, goodWord w = true → w.before args s = true) {d M x b : Nat} {rv : Option Value} {h' h2 : PH} {as lv2 : List Value} (hsplit : st = as.reverse ++ lv2) (hM : q_Met l D dA base sa ro mY mC mL mT tbl d M as h rv h2) (hpl : PLe h h2) (hle : PLe h2 h') (had : ∀ (i k : Nat), h'.2.2.1[i]? = some k → ad k = base + i) (hsa : ∀ k, 30000 ≤ k → ad k = sa k)
    (hco : Cond.code (mY M) (mC M) (mL M) (mT M) ∈ tbl) (hini : (Cond.initialized (mY M).cls).before args s = true) (hy : (mY M).cls ≠ "java/lang/invoke/MethodHandle" ∧ (mY M).cls ≠ "java/lang/invoke/VarHandle") (hmL : mL M ≤ 41) (hl2 : lv2.length ≤ 4) (hR : d + 1 ≤ R.frames ∧ 60 * (d + 1) ≤ R.locals ∧ h'.2.2.1.length - h0.2.2.1.length ≤ R.cells ∧ h'.2.2.2 - h0.2.2.2 ≤ R.slots)
    (hkind : (∃ (kq ci : Nat) (fs asr : List Value), as = .ref kq :: asr ∧ (parseMethodDescriptor (mY M).desc).map (fun d => d.parameters.length) = some asr.length ∧ h.1 kq = some (.inr (.inr (ci, fs))) ∧ (∃ q : vw_C, vwCl[ci]? = some q ∧ q.1 = (mY M).cls) ∧ (Cond.methodLink own x (mY M)).before args s = true ∧ (Cond.instanceMethod (mY M)).before args s = true ∧ (Cond.selects (mY M).cls (mY M) (mY M)).before args s = true ∧ decode cc pc = .ok (.invokevirtual x, 3)) ∨
      ((parseMethodDescriptor (mY M).desc).map (fun d => d.parameters.length) = some as.length ∧ ((Cond.methodLink own x (mY M)).before args s = true ∨ ∃ host, va_Nw (.methodLinkNest own x (mY M) host) s) ∧ (Cond.static (mY M)).before args s = true ∧ decode cc pc = .ok (.invokestatic x, 3)) ∨
      (∃ (kq : Nat) (asr : List Value), as = .ref kq :: asr ∧ (parseMethodDescriptor (mY M).desc).map (fun d => d.parameters.length) = some asr.length ∧ ((Cond.methodLink own x (mY M)).before args s = true ∨ ∃ host, va_Nw (.methodLinkNest own x (mY M) host) s) ∧ (Cond.instanceMethod (mY M)).before args s = true ∧ (mY M).name = "<init>" ∧ mT M = none ∧ decode cc pc = .ok (.invokespecial x, 3)))
    (kk : q_WZ p l e R s m args below meth c Q D dA base ad nL h0 h2 lv (pc + 3) (rv.toList ++ lv2)) : q_WZ p l e R s m args below meth c Q D dA base ad nL h0 h lv pc st := by
  intro H locs ls a1 a2 a3 a4
  subst hsplit
  have hM := hM ad (fun i k hi => had i k (by
    obtain ⟨suf, hs⟩ := hle.1
    rw [← hs, List.getElem?_append_left (List.getElem?_eq_some_iff.mp hi).1]
    exact hi)) hsa
  have l1 : h0.2.2.1.length ≤ h.2.2.1.length := a4.1.length_le
  have l2 : h.2.2.1.length ≤ h2.2.2.1.length := hpl.1.length_le
  have l3 : h2.2.2.1.length ≤ h'.2.2.1.length := hle.1.length_le
  have u1 := a4.2
  have u2 := hpl.2
  have u3 := hle.2
  have hfix : CallFix p m c cc nL s args ([] : List Cond) own := ⟨hx, hb, hml, hown, fun w hw => by simp at hw⟩
  have hcode : (Cond.code (mY M) (mC M) (mL M) (mT M)).before args s = true := hts _ hco rfl
  have hcw : Cond.code (mY M) (mC M) (mL M) (mT M) ∈ q_ws mY mC mL mT tbl M := List.mem_cons_self
  have hgood := q_good (mY := mY) (mC := mC) (mL := mL) (mT := mT) hts hco
  have hrm : (q_room d (h2.2.2.1.length - h.2.2.1.length) (h2.2.2.2 - h.2.2.2)).frames + 1 ≤ R.frames ∧ 8 + (mL M + 11) + (q_room d (h2.2.2.1.length - h.2.2.1.length) (h2.2.2.2 - h.2.2.2)).locals ≤ R.locals := by
    refine ⟨hR.1, ?_⟩
    show 8 + (mL M + 11) + 60 * d ≤ R.locals
    omega
  have hroom : 2 * (F0 m pc ls ((as.reverse ++ lv2).map (q_tr ad))).monitorRoom + ((lv2.map (q_tr ad)).map fun v => v.category).sum ≤ 8 := lv_room (q_cats ad lv2 4 hl2)
  have hf : h.2.2.1.length - h0.2.2.1.length + (h2.2.2.1.length - h.2.2.1.length) ≤ R.cells ∧ h.2.2.2 - h0.2.2.2 + (h2.2.2.2 - h.2.2.2) ≤ R.slots := ⟨by omega, by omega⟩
  have hbl : FrameBlind (va_Pc (as.map (q_tr ad)) (fun U => q_Rep D dA base ad h U.heap ∧ q_FX D dA base sa ro tbl U)) := fun a U g mk q => ⟨q.1, q.2.1, q.2.2.same rfl rfl⟩
  have hpre : ∀ U : State, U.heap = H → s.WarmedH U.vm → va_Pc (as.map (q_tr ad)) (fun U => q_Rep D dA base ad h U.heap ∧ q_FX D dA base sa ro tbl U) (as.map (q_tr ad)).toArray U := fun U hU hW => ⟨rfl, by rw [hU]; exact a1, hF.moved hW a2 hU⟩
  have back : va_Run p l e R s m args below meth c H locs (h.2.2.1.length - h0.2.2.1.length) (h.2.2.2 - h0.2.2.2) (h2.2.2.1.length - h.2.2.1.length) (h2.2.2.2 - h.2.2.2) (F0 m pc ls ((as.reverse ++ lv2).map (q_tr ad))) (lv2.map (q_tr ad)) (fun st o t => o = .returned (rv.map (q_tr ad)) ∧ q_Rep D dA base ad h2 t.heap ∧ va_F (q_A base) st t) (q_A base) → W p l e R s m args below meth c H locs (h.2.2.1.length - h0.2.2.1.length) (h.2.2.2 - h0.2.2.2) Q (F0 m pc ls ((as.reverse ++ lv2).map (q_tr ad))) := by
    intro hr
    refine wz_back (h1 := h) hr a2 (fun H1 locs1 b1 b2 => ?_)
    have k2 := kk H1 locs1 ls b1 b2 a3 (a4.tr hpl)
    have e1 : h2.2.2.1.length - h0.2.2.1.length = h.2.2.1.length - h0.2.2.1.length + (h2.2.2.1.length - h.2.2.1.length) := by omega
    have e2 : h2.2.2.2 - h0.2.2.2 = h.2.2.2 - h0.2.2.2 + (h2.2.2.2 - h.2.2.2) := by omega
    rw [e1, e2] at k2
    have e3 : (rv.toList ++ lv2).map (q_tr ad) = (rv.map (q_tr ad)).toList ++ lv2.map (q_tr ad) := by cases rv <;> simp
    rw [e3] at k2
    exact k2
  apply back
  rcases hkind with ⟨kq, ci, fs, asr, rfl, hd1, hkq, ⟨q, hq1, hq2⟩, hl, hin, hse, hd⟩ | ⟨hd1, hl, hstt, hd⟩ | ⟨kq, asr, rfl, hd1, hl, hin, hnm, hnone, hd⟩
  · have hlen : ∀ sig, parseMethodDescriptor (mY M).desc = some sig → asr.length = sig.parameters.length := fun sig hsig => by
      rw [hsig] at hd1
      exact (Option.some.inj hd1).symm
    refine va_runV (As := asr.map (q_tr ad)) (b := ad kq) (rest := lv2.map (q_tr ad)) (n := asr.length) (C := (mY M).cls) hfix hM ⟨⟨rfl, rfl, hrm.1, hrm.2, hgood, hcw, hcode, hini, hy, hlen, hl⟩, hin, hse⟩ ⟨hbl, ?_, hpre⟩ rfl (by simp) a3.1 (by simp [q_tr]) hroom hd hf
    rw [← hq2]
    exact va_recv hF.K0 (a1.one hkq) hq1 (q0 := 0) rfl
  · have hlen : ∀ sig, parseMethodDescriptor (mY M).desc = some sig → as.length = sig.parameters.length := fun sig hsig => by
      rw [hsig] at hd1
      exact (Option.some.inj hd1).symm
    rcases hl with hl | ⟨host, hl⟩
    · exact va_runS (As := as.map (q_tr ad)) (rest := lv2.map (q_tr ad)) (n := as.length) hfix hM ⟨⟨rfl, rfl, hrm.1, hrm.2, hgood, hcw, hcode, hini, hy, hlen, hl⟩, hstt⟩ ⟨hbl, hpre⟩ rfl (by simp) a3.1 (by simp) hroom hd hf
    · exact va_runSN (As := as.map (q_tr ad)) (rest := lv2.map (q_tr ad)) (n := as.length) (host := host) hfix hM ⟨⟨⟨rfl, rfl, hrm.1, hrm.2, hgood, hcw⟩, hcode, hini, hy, hlen, va_Nw.use rfl hl⟩, hstt, trivial⟩ ⟨hbl, hpre⟩ rfl (by simp) a3.1 (by simp) hroom hd hf
  · have hlen : ∀ sig, parseMethodDescriptor (mY M).desc = some sig → asr.length = sig.parameters.length := fun sig hsig => by
      rw [hsig] at hd1
      exact (Option.some.inj hd1).symm
    rw [hnone] at hcw hcode
    rcases hl with hl | ⟨host, hl⟩
    · exact va_runI (As := asr.map (q_tr ad)) (b := ad kq) (rest := lv2.map (q_tr ad)) (n := asr.length) hfix hM ⟨⟨rfl, rfl, hrm.1, hrm.2, hgood, hcw, hcode, hini, hy, hlen, hl⟩, hnm, hin⟩ ⟨hbl, hpre⟩ rfl (by simp) a3.1 (by simp [q_tr]) hroom hd hf
    · exact va_runIN (As := asr.map (q_tr ad)) (b := ad kq) (rest := lv2.map (q_tr ad)) (n := asr.length) (host := host) hfix hM ⟨⟨⟨rfl, rfl, hrm.1, hrm.2, hgood, hcw⟩, hcode, hini, hy, hlen, va_Nw.use rfl hl⟩, hnm, hin⟩ ⟨hbl, hpre⟩ rfl (by simp) a3.1 (by simp [q_tr]) hroom hd hf
end WZ3
end
section
/-! THE CHECK of a block against the machine's bytes and tables, and what a checked program does -/
section CHK
variable (mY : Nat → MethodName) (mC : Nat → ByteArray) (mL : Nat → Nat) (mT : Nat → Option FieldType) (tbl : List Cond) (nM : Nat)
def c_dc (M pc : Nat) (ins : Instr) (len : Nat) : Bool := decide (decode (mC M) pc = .ok (ins, len))
def c_tk (n : Nat) (w : Cond) : Bool := decide (tbl[n]? = some w) && goodWord w
def c_tx (n : Nat) (w : Cond) : Bool := decide (tbl[n]? = some w) && xok w
def c_f4 (a : Nat) : Fin 4 := Fin.ofNat 4 a
def c_cls (a : Nat) : String := (vwCl.getD a ("", TX0, 0)).1
def c_fld (a b : Nat) : String × String × String × Bool := (vwCl.getD a ("", TX0, 0)).2.1 b
def c_ref (ty : FieldType) : Bool := match ty with
  | .object _ => true
  | .array _ => true
  | _ => false
def c_put (M pc len a b x : Nat) (ts : List Nat) : Bool :=
  len == 3 && c_dc mC M pc (.putfield x) 3 && decide (a < 12) && decide (b < clN a) && c_tk tbl (ts.getD 0 0) (.fieldLink (mY M).cls x (c_fld a b).1 (c_fld a b).2.1 (c_fld a b).2.2.1) && ((c_fld a b).2.2.2 == false || ((c_fld a b).2.2.2 == true && (mY M).name == "<init>" && (c_fld a b).1 == (mY M).cls))
def c_inv (M pc len a b x : Nat) (v : Int32) (ts : List Nat) : Bool :=
  len == 3 && decide (a < nM) && decide (mL a ≤ 41) && (mY a).cls != "java/lang/invoke/MethodHandle" && (mY a).cls != "java/lang/invoke/VarHandle" && c_tk tbl (ts.getD 1 0) (.initialized (mY a).cls) &&
  ((decide (v = 0) && c_dc mC M pc (.invokevirtual (ts.getD 0 0)) 3 && decide (1 ≤ b) && decide (1 ≤ x) && decide (x - 1 < 12) && c_cls (x - 1) == (mY a).cls && decide ((parseMethodDescriptor (mY a).desc).map (fun d => d.parameters.length) = some (b - 1)) && c_tk tbl (ts.getD 2 0) (.methodLink (mY M).cls (ts.getD 0 0) (mY a)) && c_tk tbl (ts.getD 3 0) (.instanceMethod (mY a)) && c_tk tbl (ts.getD 4 0) (.selects (mY a).cls (mY a) (mY a))) ||
   (decide (v = 1) && c_dc mC M pc (.invokestatic (ts.getD 0 0)) 3 && decide ((parseMethodDescriptor (mY a).desc).map (fun d => d.parameters.length) = some b) && (c_tk tbl (ts.getD 2 0) (.methodLink (mY M).cls (ts.getD 0 0) (mY a)) || c_tx tbl (ts.getD 2 0) (.methodLinkNest (mY M).cls (ts.getD 0 0) (mY a) "PoleLogs")) && c_tk tbl (ts.getD 3 0) (.static (mY a))) ||
   (decide (v = 2) && c_dc mC M pc (.invokespecial (ts.getD 0 0)) 3 && decide (1 ≤ b) && decide (1 ≤ x) && decide ((parseMethodDescriptor (mY a).desc).map (fun d => d.parameters.length) = some (b - 1)) && (c_tk tbl (ts.getD 2 0) (.methodLink (mY M).cls (ts.getD 0 0) (mY a)) || c_tx tbl (ts.getD 2 0) (.methodLinkNest (mY M).cls (ts.getD 0 0) (mY a) "PoleLogs")) && c_tk tbl (ts.getD 3 0) (.instanceMethod (mY a)) && (mY a).name == "<init>" && decide (mT a = none)))
def chk (M : Nat) (i : PI) : Bool := match i with
  | (pc, len, op, a, b, x, v, ts) => match op with
    | 0 => (len == 1 && c_dc mC M pc (.iconst v.toInt) 1 && decide (Int32.ofInt v.toInt = v)) || (len == 2 && c_dc mC M pc (.bipush v.toInt) 2 && decide ((Int8.ofInt v.toInt).toInt32 = v)) || (len == 3 && c_dc mC M pc (.sipush v.toInt) 3 && decide ((Int16.ofInt v.toInt).toInt32 = v)) ||
        (len == 2 && c_dc mC M pc (.ldc x) 2 && c_tk tbl b (.constant (mY M).cls x v)) || (len == 3 && c_dc mC M pc (.ldc_w x) 3 && c_tk tbl b (.constant (mY M).cls x v))
    | 1 => (len == 1 && decide (a < 4) && c_dc mC M pc (.iload_n (c_f4 a)) 1) || (len == 2 && c_dc mC M pc (.iload a) 2)
    | 2 => (len == 1 && decide (a < 4) && c_dc mC M pc (.aload_n (c_f4 a)) 1) || (len == 2 && c_dc mC M pc (.aload a) 2)
    | 3 => decide (a < mL M) && ((len == 1 && decide (a < 4) && c_dc mC M pc (.istore_n (c_f4 a)) 1) || (len == 2 && c_dc mC M pc (.istore a) 2))
    | 4 => decide (a < mL M) && ((len == 1 && decide (a < 4) && c_dc mC M pc (.astore_n (c_f4 a)) 1) || (len == 2 && c_dc mC M pc (.astore a) 2))
    | 5 => decide (a < mL M) && len == 3 && c_dc mC M pc (.iinc a v.toInt) 3 && decide (Int32.ofInt v.toInt = v)
    | 6 => len == 1 && c_dc mC M pc (match a with | 0 => .iadd | 1 => .isub | 2 => .imul | 3 => .iand | 4 => .ior | 5 => .ixor | 6 => .ishl | 7 => .ishr | _ => .iushr) 1
    | 7 => len == 1 && c_dc mC M pc .idiv 1
    | 8 => len == 1 && c_dc mC M pc .irem 1
    | 9 => len == 1 && c_dc mC M pc (match a with | 0 => .ineg | 1 => .i2b | _ => .i2s) 1
    | 10 => len == 3 && c_dc mC M pc (.ifCond (match a with | 0 => .eq | 1 => .ne | 2 => .lt | 3 => .ge | 4 => .gt | _ => .le) ((b : Int) - (pc : Int))) 3
    | 11 => len == 3 && c_dc mC M pc (.if_icmp (match a with | 0 => .eq | 1 => .ne | 2 => .lt | 3 => .ge | 4 => .gt | _ => .le) ((b : Int) - (pc : Int))) 3
    | 12 => len == 3 && c_dc mC M pc (.ifnull ((b : Int) - (pc : Int))) 3
    | 13 => len == 3 && c_dc mC M pc (.ifnonnull ((b : Int) - (pc : Int))) 3
    | 14 => c_dc mC M pc (.goto ((b : Int) - (pc : Int))) 3
    | 15 => c_dc mC M pc (.tableswitch ((b : Int) - (pc : Int)) v.toInt (v.toInt + ts.length - 1) (ts.map fun t : Nat => (t : Int) - (pc : Int)).toArray) len && decide (v.toInt + ts.length < 2 ^ 31)
    | 16 => c_dc mC M pc (.lookupswitch ((b : Int) - (pc : Int)) (q_prs pc ts).toArray) len && (q_prs pc ts).all (fun q => decide (q.1 < 2 ^ 31)) && ((q_prs pc ts).toArray.toList.zip ((q_prs pc ts).toArray.toList.drop 1)).all (fun (a, next) => a.1 < next.1)
    | 17 => len == 3 && c_dc mC M pc (.getfield x) 3 && decide (a < 12) && decide (b < clN a) && c_tk tbl (ts.getD 0 0) (.fieldLink (mY M).cls x (c_fld a b).1 (c_fld a b).2.1 (c_fld a b).2.2.1)
    | 18 => len == 3 && c_dc mC M pc (.getfield x) 3 && decide (a < 12) && decide (b < clN a) && c_tk tbl (ts.getD 0 0) (.fieldLink (mY M).cls x (c_fld a b).1 (c_fld a b).2.1 (c_fld a b).2.2.1)
    | 19 => c_put mY mC tbl M pc len a b x ts && decide (clT a b = .int)
    | 20 => c_put mY mC tbl M pc len a b x ts && decide (clT a b = .boolean)
    | 21 => c_put mY mC tbl M pc len a b x ts && c_ref (clT a b)
    | 22 => len == 1 && c_dc mC M pc (match a with | 0 => .iaload | 1 => .baload | _ => .caload) 1
    | 23 => len == 1 && c_dc mC M pc .aaload 1
    | 24 => len == 1 && c_dc mC M pc .iastore 1
    | 25 => len == 1 && c_dc mC M pc .bastore 1
    | 26 => len == 1 && c_dc mC M pc .aastore 1
    | 27 => len == 1 && c_dc mC M pc .arraylength 1
    | 28 => len == 3 && decide (a < 4) && c_dc mC M pc (.getstatic x) 3 && (c_tk tbl (ts.getD 0 0) (.fieldLink (mY M).cls x "PoleLogs" (statL.getD a ("", "")).1 (statL.getD a ("", "")).2) || c_tx tbl (ts.getD 0 0) (.fieldLinkNest (mY M).cls x "PoleLogs" (statL.getD a ("", "")).1 (statL.getD a ("", "")).2 "PoleLogs"))
    | 29 => len == 3 && c_dc mC M pc (.new x) 3 && decide (a < 12) && c_tk tbl (ts.getD 0 0) (.classLink (mY M).cls x (c_cls a)) && c_tk tbl (ts.getD 1 0) (.instantiable (c_cls a) (clN a)) && c_tk tbl (ts.getD 2 0) (.initialized (c_cls a))
    | 30 => len == 2 && ((a == 0 && c_dc mC M pc (.newarray .int) 2 && c_tk tbl (ts.getD 0 0) (.arrayClass .int)) || (a == 1 && c_dc mC M pc (.newarray .boolean) 2 && c_tk tbl (ts.getD 0 0) (.arrayClass .boolean)))
    | 31 => len == 3 && (a == 13 || a == 14 || a == 17 || a == 18) && c_dc mC M pc (.anewarray x) 3 && c_tk tbl (ts.getD 0 0) (.classLink (mY M).cls x (c_cls (a - 10))) && c_tx tbl (ts.getD 1 0) (.arrayOver (.object (c_cls (a - 10))))
    | 32 => len == 1 && c_dc mC M pc .dup 1
    | 33 => len == 1 && c_dc mC M pc .dup2 1
    | 34 => len == 1 && c_dc mC M pc .pop 1
    | 35 => c_inv mY mC mL mT tbl nM M pc len a b x v ts
    | 36 => c_inv mY mC mL mT tbl nM M pc len a b x v ts
    | 37 => c_inv mY mC mL mT tbl nM M pc len a b x v ts
    | 38 => c_dc mC M pc .return_ 1 && decide (mT M = none)
    | 39 => c_dc mC M pc .ireturn 1 && decide (mT M = some .int)
    | 40 => c_dc mC M pc .ireturn 1 && decide (mT M = some .boolean)
    | 41 => c_dc mC M pc .areturn 1 && (match mT M with | some ty => c_ref ty | none => false)
    | 42 => len == 1 && c_dc mC M pc .aconst_null 1
    | 43 => len == 3 && c_dc mC M pc (.invokespecial x) 3 && c_tk tbl (ts.getD 0 0) (.methodLink (mY M).cls x Lib.objectInit) && c_tk tbl (ts.getD 1 0) (.instanceMethod Lib.objectInit) && c_tk tbl (ts.getD 2 0) (.code Lib.objectInit ⟨#[0xb1]⟩ 1 none)
    | 44 => len == 3 && c_dc mC M pc (.invokestatic x) 3 && c_tk tbl (ts.getD 0 0) (.methodLink (mY M).cls x arraycopyName) && c_tk tbl (ts.getD 1 0) (.native arraycopyName) && c_tk tbl (ts.getD 2 0) (.static arraycopyName) && c_tk tbl (ts.getD 3 0) (.initialized "java/lang/System")
    | 45 => b == pc
    | 46 => len == 3 && c_dc mC M pc (.invokevirtual x) 3 && c_tk tbl (ts.getD 0 0) (.methodLink (mY M).cls x ⟨"[I", "clone", "()Ljava/lang/Object;"⟩) && c_tk tbl (ts.getD 1 0) (.sameMethod "[I" "java/lang/Object" "clone" "()Ljava/lang/Object;") && c_tk tbl (ts.getD 2 0) (.native ⟨"java/lang/Object", "clone", "()Ljava/lang/Object;"⟩) && c_tk tbl (ts.getD 3 0) (.instanceMethod ⟨"java/lang/Object", "clone", "()Ljava/lang/Object;"⟩) && c_tk tbl (ts.getD 4 0) (.selects "[I" ⟨"[I", "clone", "()Ljava/lang/Object;"⟩ ⟨"java/lang/Object", "clone", "()Ljava/lang/Object;"⟩) && c_tx tbl (ts.getD 5 0) (.castable "[I" "java/lang/Cloneable")
    | 47 => len == 3 && c_dc mC M pc (.checkcast x) 3 && c_tk tbl (ts.getD 0 0) (.classLink (mY M).cls x "[I")
    | _ => false
def chkL (M : Nat) : Nat → List PI → Bool
  | _, [] => true
  | pc, i :: is => i.1 == pc && chk mY mC mL mT tbl nM M i && chkL M (pc + i.2.1) is
/-- the program's tables are as they are said to be -/
def q_tabs : Prop := (∀ M, M < nM → Cond.code (mY M) (mC M) (mL M) (mT M) ∈ tbl) ∧ (∀ (ci : Nat) (q : vw_C), vwCl[ci]? = some q → ∀ w ∈ u_ws q.1 q.2.1 q.2.2, w ∈ tbl ∧ goodWord w = true)
end CHK
theorem c_dc_t {mC : Nat → ByteArray} {M pc : Nat} {ins : Instr} {len : Nat} (h : c_dc mC M pc ins len = true) : decode (mC M) pc = .ok (ins, len) := of_decide_eq_true h
theorem c_tk_t {tbl : List Cond} {n : Nat} {w : Cond} (h : c_tk tbl n w = true) {args : Array Value} {s : State} (hts : ∀ w ∈ tbl, goodWord w = true → w.before args s = true) : w.before args s = true := by
  simp only [c_tk, Bool.and_eq_true, decide_eq_true_eq] at h
  exact hts w (List.mem_of_getElem? h.1) h.2
theorem c_tx_t {tbl : List Cond} {n : Nat} {w : Cond} (h : c_tx tbl n w = true) {D : va_G} {dA : Nat → ClassId} {base : Nat} {sa : Nat → Nat} {ro : RO} {s : State} (hF : q_FX D dA base sa ro tbl s) : va_Nw w s := by
  simp only [c_tx, Bool.and_eq_true, decide_eq_true_eq] at h
  exact hF.2.2.2.2 w (List.mem_of_getElem? h.1) h.2
theorem c_f4_v {a : Nat} (h : a < 4) : ((c_f4 a : Fin 4) : Nat) = a := by
  show a % 4 = a
  omega
theorem c_vw {a : Nat} (h : a < 12) : vwCl[a]? = some (c_cls a, (vwCl.getD a ("", TX0, 0)).2.1, clN a) := by
  have hl : a < vwCl.length := h
  simp [c_cls, clN, List.getD_eq_getElem?_getD, List.getElem?_eq_getElem hl]
theorem c_tyok : ∀ a, a < 12 → ∀ k, k < clN a → parseFieldDescriptor (c_fld a k).2.2.1 = some (clT a k)
  | 0, _ => tyX0_ok | 1, _ => tyX1_ok | 2, _ => tyX2_ok | 3, _ => tyX3_ok | 4, _ => tyX4_ok | 5, _ => tyX5_ok | 6, _ => tyX6_ok | 7, _ => tyX7_ok | 8, _ => tyX8_ok | 9, _ => tyX9_ok | 10, _ => tyX10_ok | 11, _ => tyX11_ok
  | n + 12, h => absurd h (by omega)
theorem c_nmok : ∀ a, a < 12 → ∀ x, x < clN a → ∀ y, y < clN a → x ≠ y → (c_fld a x).2.1 ≠ (c_fld a y).2.1
  | 0, _ => nmX0 | 1, _ => nmX1 | 2, _ => nmX2 | 3, _ => nmX3 | 4, _ => nmX4 | 5, _ => nmX5 | 6, _ => nmX6 | 7, _ => nmX7 | 8, _ => nmX8 | 9, _ => nmX9 | 10, _ => nmX10 | 11, _ => nmX11
  | n + 12, h => absurd h (by omega)
theorem c_ref_n {ty : FieldType} (h : c_ref ty = true) (k : Nat) : narrow ty (.ref k) = .ref k ∧ fits ty (.ref k) = true := by
  cases ty <;> first | exact ⟨rfl, rfl⟩ | cases h
theorem c_bool_n {y : Int32} (h : y = 0 ∨ y = 1) : narrow .boolean (.int y) = .int y ∧ fits .boolean (.int y) = true := by
  rcases h with rfl | rfl <;> exact ⟨by decide +kernel, by decide +kernel⟩
end
section
/-! ONE STEP of a checked program, and its runs -/
section STEPS
variable {p : Program} {l : Launch} {e : Env} {R : Room} {s : State} {m : MethodId} {args : Array Value} {below : List Frame} {meth : Method} {c : Code} {Q : State → Prop} {D : va_G} {dA : Nat → ClassId} {base : Nat} {ad : Nat → Nat} {h0 : PH} {sa : Nat → Nat} {ro : RO} {tbl : List Cond} {nM : Nat}
variable {mY : Nat → MethodName} {mC : Nat → ByteArray} {mL : Nat → Nat} {mT : Nat → Option FieldType}
/-- what a method's body may take as given -/
def q_CX (p : Program) (l : Launch) (R : Room) (s : State) (m : MethodId) (args : Array Value) (meth : Method) (c : Code) (D : va_G) (dA : Nat → ClassId) (base : Nat) (ad : Nat → Nat) (h0 : PH) (sa : Nat → Nat) (ro : RO) (tbl : List Cond) (nM : Nat) (mY : Nat → MethodName) (mC : Nat → ByteArray) (mL : Nat → Nat) (mT : Nat → Option FieldType) (C : Nat → List Value → PH → PR) (d M : Nat) (h' : PH) : Prop :=
  p.tables.exec = Jvm.exec ∧ c.code = mC M ∧ c.maxLocals = mL M ∧ s.vm.findClass (mY M).cls = some m.cls ∧ (∀ w ∈ tbl, goodWord w = true → w.before args s = true) ∧ q_FX D dA base sa ro tbl s ∧ ((mY M).name = "<init>" → meth.name = "<init>") ∧ q_tabs mY mC mL mT tbl nM ∧
  (∀ k, 30000 ≤ k → ad k = sa k) ∧ (∀ (i k : Nat), h'.2.2.1[i]? = some k → ad k = base + i) ∧ (d + 1 ≤ R.frames ∧ 60 * (d + 1) ≤ R.locals ∧ h'.2.2.1.length - h0.2.2.1.length ≤ R.cells ∧ h'.2.2.2 - h0.2.2.2 ≤ R.slots) ∧
  (∀ M' as h1 r1 h2, C M' as h1 = some (r1, h2) → q_Met l D dA base sa ro mY mC mL mT tbl d M' as h1 r1 h2) ∧ (∀ M' as h1 r1 h2, C M' as h1 = some (r1, h2) → PLe h1 h2)
/-- how a method ends -/
def q_RT (mC : Nat → ByteArray) (mT : Nat → Option FieldType) (M pc : Nat) (r : Option Value) : Prop :=
  (decode (mC M) pc = .ok (.return_, 1) ∧ r = none ∧ mT M = none) ∨ (decode (mC M) pc = .ok (.ireturn, 1) ∧ ∃ y : Int32, r = some (.int y) ∧ (mT M = some .int ∨ (mT M = some .boolean ∧ (y = 0 ∨ y = 1)))) ∨
  (decode (mC M) pc = .ok (.areturn, 1) ∧ ∃ v : Value, r = some v ∧ (v = .null ∨ ∃ q, v = .ref q) ∧ ∃ ty, mT M = some ty ∧ c_ref ty = true)
theorem q_new {C : Nat → List Value → PH → PR} {d M : Nat} {h h' : PH} {k kind n : Nat} {x : PE} (CX : q_CX p l R s m args meth c D dA base ad h0 sa ro tbl nM mY mC mL mT C d M h') (hle : PLe (ph_add h k kind n x) h') (h1 : PLe h0 h) : ad k = base + h.2.2.1.length ∧ h.2.2.1.length - h0.2.2.1.length + 1 ≤ R.cells ∧ h.2.2.2 - h0.2.2.2 + n ≤ R.slots := by
  obtain ⟨-, -, -, -, -, -, -, -, -, had, ⟨-, -, hc, hs⟩, -, -⟩ := CX
  have l1 : h0.2.2.1.length ≤ h.2.2.1.length := h1.1.length_le
  have l2 : h.2.2.1.length + 1 ≤ h'.2.2.1.length := by
    have := hle.1.length_le
    simpa [ph_add] using this
  have u1 := h1.2
  have u2 : h.2.2.2 + n ≤ h'.2.2.2 := hle.2
  refine ⟨had _ _ ?_, by omega, by omega⟩
  obtain ⟨suf, hsf⟩ := hle.1
  rw [← hsf]
  show ((h.2.2.1 ++ [k]) ++ suf)[h.2.2.1.length]? = some k
  simp
theorem wz_later {h : PH} {lv : PL} {pc nL : Nat} {st : List Value} (f : PLe h0 h → q_WZ p l e R s m args below meth c Q D dA base ad nL h0 h lv pc st) : q_WZ p l e R s m args below meth c Q D dA base ad nL h0 h lv pc st := fun H locs ls a1 a2 a3 a4 => f a4 H locs ls a1 a2 a3 a4
theorem call_sound {C : Nat → List Value → PH → PR} {d M : Nat} {h h' h2 : PH} {r1 : Option Value} {lv : PL} {st : List Value} {pc len a b x : Nat} {v : Int32} {ts : List Nat} (CX : q_CX p l R s m args meth c D dA base ad h0 sa ro tbl nM mY mC mL mT C d M h')
    (hst : b ≤ st.length ∧ st.length ≤ b + 4 ∧ (x = 0 ∨ isO h ((st.take b).reverse)[0]? (x - 1) = true)) (hc : c_inv mY mC mL mT tbl nM M pc len a b x v ts = true) (e1 : C a (st.take b).reverse h = some (r1, h2)) (hle : PLe h2 h') (kk : q_WZ p l e R s m args below meth c Q D dA base ad (mL M) h0 h2 lv (pc + len) (r1.toList ++ st.drop b)) : q_WZ p l e R s m args below meth c Q D dA base ad (mL M) h0 h lv pc st := by
  obtain ⟨hx, hb, hml, hown, hts, hF, hini, htab, hsa, had, hR, hC, hCm⟩ := CX
  simp only [c_inv, Bool.and_eq_true, Bool.or_eq_true, decide_eq_true_eq, beq_iff_eq, bne_iff_ne] at hc
  obtain ⟨⟨⟨⟨⟨⟨rfl, ha⟩, hmL⟩, hy1⟩, hy2⟩, hin⟩, hk⟩ := hc
  have hlen : (st.take b).reverse.length = b := by simp; omega
  have hspl : st = ((st.take b).reverse).reverse ++ st.drop b := by simp
  refine wz_call (x := ts.getD 0 0) hx hb hml hF hown hts (b := b) hspl (hC _ _ _ _ _ e1) (hCm _ _ _ _ _ e1) hle had hsa (htab.1 a ha) (c_tk_t hin hts) ⟨hy1, hy2⟩ hmL (by simp; omega) hR ?_ kk
  rcases hk with (⟨⟨⟨⟨⟨⟨⟨⟨⟨-, hd⟩, hb1⟩, hx1⟩, hx2⟩, hcl⟩, hpd⟩, hl⟩, hi⟩, hsel⟩ | ⟨⟨⟨⟨-, hd⟩, hpd⟩, hl⟩, hstt⟩) | ⟨⟨⟨⟨⟨⟨⟨⟨-, hd⟩, hb1⟩, hx1⟩, hpd⟩, hl⟩, hi⟩, hnm⟩, hnone⟩
  · left
    rcases hst.2.2 with g | g
    · omega
    · obtain ⟨kq, fs, g1, g2⟩ := isO_inv g
      cases has : (st.take b).reverse with
      | nil => rw [has] at g1; cases g1
      | cons w asr =>
        rw [has] at g1 hlen
        cases g1
        exact ⟨kq, x - 1, fs, asr, rfl, by rw [hpd]; simp at hlen; congr 1; omega, g2, ⟨_, c_vw hx2, hcl⟩, c_tk_t hl hts, c_tk_t hi hts, c_tk_t hsel hts, c_dc_t hd⟩
  · right; left
    refine ⟨by rw [hpd, hlen], ?_, c_tk_t hstt hts, c_dc_t hd⟩
    rcases hl with hl | hl
    · exact Or.inl (c_tk_t hl hts)
    · exact Or.inr ⟨_, c_tx_t hl hF⟩
  · right; right
    have hobj : ∃ (kq : Nat) (asr : List Value), (st.take b).reverse = .ref kq :: asr := by
      rcases hst.2.2 with g | g
      · omega
      · obtain ⟨kq, fs, g1, g2⟩ := isO_inv g
        cases has : (st.take b).reverse with
        | nil => rw [has] at g1; cases g1
        | cons w asr =>
          rw [has] at g1
          cases g1
          exact ⟨kq, asr, rfl⟩
    obtain ⟨kq, asr, has⟩ := hobj
    refine ⟨kq, asr, has, ?_, ?_, c_tk_t hi hts, hnm, hnone, c_dc_t hd⟩
    · rw [hpd]
      rw [has] at hlen
      simp at hlen
      congr 1
      omega
    · rcases hl with hl | hl
      · exact Or.inl (c_tk_t hl hts)
      · exact Or.inr ⟨_, c_tx_t hl hF⟩
set_option maxHeartbeats 4000000 in
theorem step_sound {C : Nat → List Value → PH → PR} {J : Nat → PL → List Value → PH → PR} {K : PL → List Value → PH → PR} {d M : Nat} {h h' : PH} {r : Option Value} {lv : PL} {st : List Value} (CX : q_CX p l R s m args meth c D dA base ad h0 sa ro tbl nM mY mC mL mT C d M h')
    (hQ : ∀ (pc : Nat) (lv : PL), q_RT mC mT M pc r → q_WZ p l e R s m args below meth c Q D dA base ad (mL M) h0 h' lv pc r.toList) (hJ : ∀ t lv st h1, J t lv st h1 = some (r, h') → q_WZ p l e R s m args below meth c Q D dA base ad (mL M) h0 h1 lv t st) (hKm : ∀ lv st h1, K lv st h1 = some (r, h') → PLe h1 h') :
    ∀ (i : PI), chk mY mC mL mT tbl nM M i = true → (∀ lv st h1, K lv st h1 = some (r, h') → q_WZ p l e R s m args below meth c Q D dA base ad (mL M) h0 h1 lv (i.1 + i.2.1) st) → step ro J C i lv st h K = some (r, h') → q_WZ p l e R s m args below meth c Q D dA base ad (mL M) h0 h lv i.1 st := by
  obtain ⟨hx, hb, hml, hown, hts, hF, hini, htab, hsa, had, hR, hC, hCm⟩ := id CX
  rintro ⟨pc, len, op, a, b, x, v, ts⟩
  match op with
  | 0 =>
    intro hc hK hs
    simp only [chk, Bool.and_eq_true, Bool.or_eq_true, decide_eq_true_eq, beq_iff_eq] at hc
    have hs : K lv (.int v :: st) h = some (r, h') := hs
    have hK := hK _ _ _ hs
    rcases hc with (((⟨⟨rfl, hd⟩, hv⟩ | ⟨⟨rfl, hd⟩, hv⟩) | ⟨⟨rfl, hd⟩, hv⟩) | ⟨⟨rfl, hd⟩, hv⟩) | ⟨⟨rfl, hd⟩, hv⟩
    · exact wz_iconst hx hb (c_dc_t hd) hv hK
    · exact wz_bipush hx hb (c_dc_t hd) hv hK
    · exact wz_sipush hx hb (c_dc_t hd) hv hK
    · exact wz_ldc hx hb hown (c_tk_t hv hts) (c_dc_t hd) hK
    · exact wz_ldcw hx hb hown (c_tk_t hv hts) (c_dc_t hd) hK
  | 1 =>
    intro hc hK hs
    simp only [chk, Bool.and_eq_true, Bool.or_eq_true, decide_eq_true_eq, beq_iff_eq] at hc
    simp only [step] at hs
    split at hs
    · rename_i y hl
      have hK := hK _ _ _ hs
      rcases hc with ⟨⟨rfl, ha⟩, hd⟩ | ⟨rfl, hd⟩
      · exact wz_iload_n hx hb (c_dc_t hd) (c_f4_v ha) hl hK
      · exact wz_iload hx hb (c_dc_t hd) hl hK
    · cases hs
  | 2 =>
    intro hc hK hs
    simp only [chk, Bool.and_eq_true, Bool.or_eq_true, decide_eq_true_eq, beq_iff_eq] at hc
    simp only [step] at hs
    split at hs
    · rename_i y hl
      have hK := hK _ _ _ hs
      rcases hc with ⟨⟨rfl, ha⟩, hd⟩ | ⟨rfl, hd⟩
      · exact wz_aload_n hx hb (c_dc_t hd) (c_f4_v ha) hl hK
      · exact wz_aload hx hb (c_dc_t hd) hl hK
    · rename_i hl
      have hK := hK _ _ _ hs
      rcases hc with ⟨⟨rfl, ha⟩, hd⟩ | ⟨rfl, hd⟩
      · exact wz_aload_nN hx hb (c_dc_t hd) (c_f4_v ha) hl hK
      · exact wz_aloadN hx hb (c_dc_t hd) hl hK
    · cases hs
  | 3 =>
    intro hc hK hs
    simp only [chk, Bool.and_eq_true, Bool.or_eq_true, decide_eq_true_eq, beq_iff_eq] at hc
    simp only [step] at hs
    split at hs
    · have hK := hK _ _ _ hs
      obtain ⟨hn, ⟨⟨rfl, ha⟩, hd⟩ | ⟨rfl, hd⟩⟩ := hc
      · exact wz_istore_n hx hb (c_dc_t hd) (c_f4_v ha) hn hK
      · exact wz_istore hx hb (c_dc_t hd) hn hK
    · cases hs
  | 4 =>
    intro hc hK hs
    simp only [chk, Bool.and_eq_true, Bool.or_eq_true, decide_eq_true_eq, beq_iff_eq] at hc
    simp only [step] at hs
    split at hs
    · have hK := hK _ _ _ hs
      obtain ⟨hn, ⟨⟨rfl, ha⟩, hd⟩ | ⟨rfl, hd⟩⟩ := hc
      · exact wz_astore_n hx hb (c_dc_t hd) (c_f4_v ha) hn hK
      · exact wz_astore hx hb (c_dc_t hd) hn hK
    · have hK := hK _ _ _ hs
      obtain ⟨hn, ⟨⟨rfl, ha⟩, hd⟩ | ⟨rfl, hd⟩⟩ := hc
      · exact wz_astore_nN hx hb (c_dc_t hd) (c_f4_v ha) hn hK
      · exact wz_astoreN hx hb (c_dc_t hd) hn hK
    · cases hs
  | 5 =>
    intro hc hK hs
    simp only [chk, Bool.and_eq_true, Bool.or_eq_true, decide_eq_true_eq, beq_iff_eq] at hc
    simp only [step] at hs
    split at hs
    · rename_i y hl
      have hK := hK _ _ _ hs
      obtain ⟨⟨⟨hn, rfl⟩, hd⟩, hv⟩ := hc
      exact wz_iinc hx hb (c_dc_t hd) hv hl hn hK
    · cases hs
  | 6 =>
    intro hc hK hs
    simp only [chk, Bool.and_eq_true, Bool.or_eq_true, decide_eq_true_eq, beq_iff_eq] at hc
    simp only [step] at hs
    split at hs
    · have hK := hK _ _ _ hs
      obtain ⟨rfl, hd⟩ := hc
      exact wz_bop hx hb (c_dc_t hd) rfl hK
    · cases hs
  | 7 =>
    intro hc hK hs
    simp only [chk, Bool.and_eq_true, Bool.or_eq_true, decide_eq_true_eq, beq_iff_eq] at hc
    simp only [step] at hs
    split at hs
    · split at hs
      · cases hs
      · rename_i hy
        have hK := hK _ _ _ hs
        obtain ⟨rfl, hd⟩ := hc
        exact wz_idiv hx hb (c_dc_t hd) hy hK
    · cases hs
  | 8 =>
    intro hc hK hs
    simp only [chk, Bool.and_eq_true, Bool.or_eq_true, decide_eq_true_eq, beq_iff_eq] at hc
    simp only [step] at hs
    split at hs
    · split at hs
      · cases hs
      · rename_i hy
        have hK := hK _ _ _ hs
        obtain ⟨rfl, hd⟩ := hc
        exact wz_irem hx hb (c_dc_t hd) hy hK
    · cases hs
  | 9 =>
    intro hc hK hs
    simp only [chk, Bool.and_eq_true, Bool.or_eq_true, decide_eq_true_eq, beq_iff_eq] at hc
    simp only [step] at hs
    split at hs
    · have hK := hK _ _ _ hs
      obtain ⟨rfl, hd⟩ := hc
      exact wz_uop hx hb (c_dc_t hd) rfl hK
    · cases hs
  | 10 =>
    intro hc hK hs
    simp only [chk, Bool.and_eq_true, Bool.or_eq_true, decide_eq_true_eq, beq_iff_eq] at hc
    simp only [step] at hs
    split at hs
    · obtain ⟨rfl, hd⟩ := hc
      exact wz_if hx hb (c_dc_t hd) rfl (by omega) hs (fun w => hJ _ _ _ _ w) (fun w => hK _ _ _ w)
    · cases hs
  | 11 =>
    intro hc hK hs
    simp only [chk, Bool.and_eq_true, Bool.or_eq_true, decide_eq_true_eq, beq_iff_eq] at hc
    simp only [step] at hs
    split at hs
    · obtain ⟨rfl, hd⟩ := hc
      exact wz_icmp hx hb (c_dc_t hd) rfl (by omega) hs (fun w => hJ _ _ _ _ w) (fun w => hK _ _ _ w)
    · cases hs
  | 12 =>
    intro hc hK hs
    simp only [chk, Bool.and_eq_true, Bool.or_eq_true, decide_eq_true_eq, beq_iff_eq] at hc
    simp only [step] at hs
    split at hs
    · obtain ⟨rfl, hd⟩ := hc
      exact wz_ifnull hx hb (c_dc_t hd) (hK _ _ _ hs)
    · obtain ⟨rfl, hd⟩ := hc
      exact wz_ifnullN hx hb (c_dc_t hd) (by omega) (hJ _ _ _ _ hs)
    · cases hs
  | 13 =>
    intro hc hK hs
    simp only [chk, Bool.and_eq_true, Bool.or_eq_true, decide_eq_true_eq, beq_iff_eq] at hc
    simp only [step] at hs
    split at hs
    · obtain ⟨rfl, hd⟩ := hc
      exact wz_ifnonnull hx hb (c_dc_t hd) (by omega) (hJ _ _ _ _ hs)
    · obtain ⟨rfl, hd⟩ := hc
      exact wz_ifnonnullN hx hb (c_dc_t hd) (hK _ _ _ hs)
    · cases hs
  | 14 =>
    intro hc hK hs
    simp only [chk, Bool.and_eq_true, Bool.or_eq_true, decide_eq_true_eq, beq_iff_eq] at hc
    exact wz_goto hx hb (c_dc_t hc) (by omega) (hJ _ _ _ _ hs)
  | 15 =>
    intro hc hK hs
    simp only [chk, Bool.and_eq_true, Bool.or_eq_true, decide_eq_true_eq, beq_iff_eq] at hc
    simp only [step] at hs
    split at hs
    · exact wz_table hx hb (c_dc_t hc.1) rfl rfl rfl rfl hc.2 hs (fun t w => hJ _ _ _ _ w)
    · cases hs
  | 16 =>
    intro hc hK hs
    simp only [chk, Bool.and_eq_true] at hc
    simp only [step] at hs
    split at hs
    · exact wz_lookup hx hb (c_dc_t hc.1.1) rfl rfl (fun q hq => of_decide_eq_true (List.all_eq_true.mp hc.1.2 q hq)) hc.2 hs (fun t w => hJ _ _ _ _ w)
    · cases hs
  | 17 =>
    intro hc hK hs
    simp only [chk, Bool.and_eq_true, Bool.or_eq_true, decide_eq_true_eq, beq_iff_eq] at hc
    simp only [step] at hs
    split at hs
    · obtain ⟨fs, y, g1, g2, g3⟩ := gI_inv hs
      obtain ⟨⟨⟨⟨rfl, hd⟩, ha⟩, hbn⟩, hl⟩ := hc
      have hvw := c_vw ha
      exact wz_get hx hb hF hown hvw (fun w hw => hts w (htab.2 a _ hvw w hw).1 (htab.2 a _ hvw w hw).2) hbn (c_tk_t hl hts) g1 g2 (c_dc_t hd) (hK _ _ _ g3)
    · cases hs
  | 18 =>
    intro hc hK hs
    simp only [chk, Bool.and_eq_true, Bool.or_eq_true, decide_eq_true_eq, beq_iff_eq] at hc
    simp only [step] at hs
    split at hs
    · obtain ⟨fs, g1, g2⟩ := gR_inv hs
      obtain ⟨⟨⟨⟨rfl, hd⟩, ha⟩, hbn⟩, hl⟩ := hc
      have hvw := c_vw ha
      rcases g2 with ⟨q, g2, g3⟩ | ⟨g2, g3⟩
      · exact wz_get hx hb hF hown hvw (fun w hw => hts w (htab.2 a _ hvw w hw).1 (htab.2 a _ hvw w hw).2) hbn (c_tk_t hl hts) g1 g2 (c_dc_t hd) (hK _ _ _ g3)
      · exact wz_get hx hb hF hown hvw (fun w hw => hts w (htab.2 a _ hvw w hw).1 (htab.2 a _ hvw w hw).2) hbn (c_tk_t hl hts) g1 g2 (c_dc_t hd) (hK _ _ _ g3)
    · cases hs
  | 19 =>
    intro hc hK hs
    simp only [chk, Bool.and_eq_true, Bool.or_eq_true, decide_eq_true_eq, beq_iff_eq, c_put] at hc
    simp only [step] at hs
    split at hs
    · obtain ⟨fs, g1, g2, g3⟩ := pF_inv hs
      obtain ⟨⟨⟨⟨⟨⟨rfl, hd⟩, ha⟩, hbn⟩, hl⟩, hfin⟩, hty⟩ := hc
      have hvw := c_vw ha
      have hfin : (c_fld a b).2.2.2 = false ∨ ((c_fld a b).2.2.2 = true ∧ meth.name = "<init>" ∧ (c_fld a b).1 = (mY M).cls) := by
        rcases hfin with g | ⟨⟨g, g2⟩, g3⟩
        · exact Or.inl g
        · exact Or.inr ⟨g, hini g2, g3⟩
      exact wz_put hx hb hF hown hvw (fun w hw => hts w (htab.2 a _ hvw w hw).1 (htab.2 a _ hvw w hw).2) (c_tyok a ha) (c_nmok a ha) hbn (c_tk_t hl hts) hfin (by rw [hty]; rfl) (by rw [hty]; rfl) ha g1 g2 (c_dc_t hd) (hK _ _ _ g3)
    · cases hs
  | 20 =>
    intro hc hK hs
    simp only [chk, Bool.and_eq_true, Bool.or_eq_true, decide_eq_true_eq, beq_iff_eq, c_put] at hc
    simp only [step] at hs
    split at hs
    · split at hs
      · rename_i hy01
        obtain ⟨fs, g1, g2, g3⟩ := pF_inv hs
        obtain ⟨⟨⟨⟨⟨⟨rfl, hd⟩, ha⟩, hbn⟩, hl⟩, hfin⟩, hty⟩ := hc
        have hvw := c_vw ha
        have hfin : (c_fld a b).2.2.2 = false ∨ ((c_fld a b).2.2.2 = true ∧ meth.name = "<init>" ∧ (c_fld a b).1 = (mY M).cls) := by
          rcases hfin with g | ⟨⟨g, g2⟩, g3⟩
          · exact Or.inl g
          · exact Or.inr ⟨g, hini g2, g3⟩
        exact wz_put hx hb hF hown hvw (fun w hw => hts w (htab.2 a _ hvw w hw).1 (htab.2 a _ hvw w hw).2) (c_tyok a ha) (c_nmok a ha) hbn (c_tk_t hl hts) hfin (by rw [hty]; exact (c_bool_n hy01).1) (by rw [hty]; exact (c_bool_n hy01).2) ha g1 g2 (c_dc_t hd) (hK _ _ _ g3)
      · cases hs
    · cases hs
  | 21 =>
    intro hc hK hs
    simp only [chk, Bool.and_eq_true, Bool.or_eq_true, decide_eq_true_eq, beq_iff_eq, c_put] at hc
    simp only [step] at hs
    split at hs
    · obtain ⟨fs, g1, g2, g3⟩ := pF_inv hs
      obtain ⟨⟨⟨⟨⟨⟨rfl, hd⟩, ha⟩, hbn⟩, hl⟩, hfin⟩, hty⟩ := hc
      have hvw := c_vw ha
      have hfin : (c_fld a b).2.2.2 = false ∨ ((c_fld a b).2.2.2 = true ∧ meth.name = "<init>" ∧ (c_fld a b).1 = (mY M).cls) := by
        rcases hfin with g | ⟨⟨g, g2⟩, g3⟩
        · exact Or.inl g
        · exact Or.inr ⟨g, hini g2, g3⟩
      exact wz_put hx hb hF hown hvw (fun w hw => hts w (htab.2 a _ hvw w hw).1 (htab.2 a _ hvw w hw).2) (c_tyok a ha) (c_nmok a ha) hbn (c_tk_t hl hts) hfin (c_ref_n hty _).1 (c_ref_n hty _).2 ha g1 g2 (c_dc_t hd) (hK _ _ _ g3)
    · cases hs
  | 22 =>
    intro hc hK hs
    simp only [chk, Bool.and_eq_true, Bool.or_eq_true, decide_eq_true_eq, beq_iff_eq] at hc
    simp only [step] at hs
    split at hs
    · obtain ⟨n, f, g1, g2, g3⟩ := aI_inv hs
      obtain ⟨rfl, hd⟩ := hc
      exact wz_aI hx hb hF hsa g1 g2 (c_dc_t hd) (by rcases a with _ | _ | a <;> rfl) (hK _ _ _ g3)
    · cases hs
  | 23 =>
    intro hc hK hs
    simp only [chk, Bool.and_eq_true, Bool.or_eq_true, decide_eq_true_eq, beq_iff_eq] at hc
    simp only [step] at hs
    split at hs
    · obtain ⟨t, n, g, g1, g2, g3⟩ := aR_inv hs
      obtain ⟨rfl, hd⟩ := hc
      refine wz_aR hx hb hF g1 g2 (c_dc_t hd) (fun w => ?_) (fun q w => ?_)
      · rcases g3 with ⟨q', g3, g4⟩ | ⟨g3, g4⟩
        · rw [g3] at w; cases w
        · exact hK _ _ _ g4
      · rcases g3 with ⟨q', g3, g4⟩ | ⟨g3, g4⟩
        · rw [g3] at w; cases w; exact hK _ _ _ g4
        · rw [g3] at w; cases w
    · cases hs
  | 24 =>
    intro hc hK hs
    simp only [chk, Bool.and_eq_true, Bool.or_eq_true, decide_eq_true_eq, beq_iff_eq] at hc
    simp only [step] at hs
    split at hs
    · obtain ⟨n, f, g1, g2, g3⟩ := sI_inv hs
      obtain ⟨rfl, hd⟩ := hc
      exact wz_sI hx hb hF g1 g2 (c_dc_t hd) (hK _ _ _ g3)
    · cases hs
  | 25 =>
    intro hc hK hs
    simp only [chk, Bool.and_eq_true, Bool.or_eq_true, decide_eq_true_eq, beq_iff_eq] at hc
    simp only [step] at hs
    split at hs
    · obtain ⟨n, f, g1, g2, g3⟩ := sI_inv hs
      obtain ⟨rfl, hd⟩ := hc
      exact wz_sZ hx hb hF g1 g2 (c_dc_t hd) (hK _ _ _ g3)
    · cases hs
  | 26 =>
    intro hc hK hs
    simp only [chk, Bool.and_eq_true, Bool.or_eq_true, decide_eq_true_eq, beq_iff_eq] at hc
    simp only [step] at hs
    split at hs
    · obtain ⟨n, g, cl, fs, g1, g2, g3, g4⟩ := sR_inv hs
      obtain ⟨rfl, hd⟩ := hc
      exact wz_sR hx hb hF g1 g2 g3 (c_dc_t hd) (hK _ _ _ g4)
    · cases hs
  | 27 =>
    intro hc hK hs
    simp only [chk, Bool.and_eq_true, Bool.or_eq_true, decide_eq_true_eq, beq_iff_eq] at hc
    simp only [step] at hs
    split at hs
    · obtain ⟨t, n, f, g1, g2⟩ := aL_inv hs
      obtain ⟨rfl, hd⟩ := hc
      exact wz_aL hx hb hF hsa g1 (c_dc_t hd) (hK _ _ _ g2)
    · cases hs
  | 28 =>
    intro hc hK hs
    simp only [chk, Bool.and_eq_true, Bool.or_eq_true, decide_eq_true_eq, beq_iff_eq] at hc
    obtain ⟨⟨⟨rfl, ha⟩, hd⟩, hl⟩ := hc
    have hz : statL[a]? = some (statL.getD a ("", "")) := by
      have hl : a < statL.length := ha
      simp [List.getD_eq_getElem?_getD, List.getElem?_eq_getElem hl]
    refine wz_stat hx hb hF hown hsa hz ?_ (c_dc_t hd) (hK _ _ _ hs)
    rcases hl with hl | hl
    · exact Or.inl (c_tk_t hl hts)
    · exact Or.inr (va_Nw.use rfl (c_tx_t hl hF))
  | 29 =>
    intro hc hK hs
    simp only [chk, Bool.and_eq_true, Bool.or_eq_true, decide_eq_true_eq, beq_iff_eq] at hc
    simp only [step] at hs
    obtain ⟨⟨⟨⟨⟨rfl, hd⟩, ha⟩, hl1⟩, hl2⟩, hl3⟩ := hc
    obtain ⟨g1, g2, g3⟩ := nO_inv hs
    have hvw := c_vw ha
    refine wz_later (fun hle => ?_)
    obtain ⟨q1, q2, q3⟩ := q_new CX (hKm _ _ _ g3) hle
    exact wz_new hx hb hF hown hvw (fun w hw => hts w (htab.2 a _ hvw w hw).1 (htab.2 a _ hvw w hw).2) (c_tyok a ha) ha (c_tk_t hl1 hts) (c_tk_t hl2 hts) (c_tk_t hl3 hts) g1 g2 q1 q2 q3 (c_dc_t hd) (hK _ _ _ g3)
  | 30 =>
    intro hc hK hs
    simp only [chk, Bool.and_eq_true, Bool.or_eq_true, decide_eq_true_eq, beq_iff_eq] at hc
    simp only [step] at hs
    split at hs
    · obtain ⟨g1, g2, g3, g4, g5⟩ := nA_inv hs
      refine wz_later (fun hle => ?_)
      obtain ⟨q1, q2, q3⟩ := q_new CX (hKm _ _ _ g5) hle
      obtain ⟨rfl, ⟨⟨rfl, hd⟩, hl⟩ | ⟨⟨rfl, hd⟩, hl⟩⟩ := hc
      · exact wz_newa hx hb hF (Or.inl ⟨rfl, rfl⟩) (c_tk_t hl hts) g3 g4 g1 g2 q1 q2 q3 (c_dc_t hd) (hK _ _ _ g5)
      · exact wz_newa hx hb hF (Or.inr ⟨rfl, rfl⟩) (c_tk_t hl hts) g3 g4 g1 g2 q1 q2 q3 (c_dc_t hd) (hK _ _ _ g5)
    · cases hs
  | 31 =>
    intro hc hK hs
    simp only [chk, Bool.and_eq_true, Bool.or_eq_true, decide_eq_true_eq, beq_iff_eq] at hc
    simp only [step] at hs
    split at hs
    · obtain ⟨g1, g2, g3, g4, g5⟩ := nQ_inv hs
      refine wz_later (fun hle => ?_)
      obtain ⟨q1, q2, q3⟩ := q_new CX (hKm _ _ _ g5) hle
      obtain ⟨⟨⟨⟨rfl, hok⟩, hd⟩, hl⟩, hl2⟩ := hc
      have hok : a = 13 ∨ a = 14 ∨ a = 17 ∨ a = 18 := by omega
      have hC9 : tgT a = .object (c_cls (a - 10)) := by rcases hok with rfl | rfl | rfl | rfl <;> rfl
      exact wz_newq hx hb hF hown hok hC9 (c_tk_t hl hts) (c_tx_t hl2 hF) g3 g4 g1 g2 q1 q2 q3 (c_dc_t hd) (hK _ _ _ g5)
    · cases hs
  | 32 =>
    intro hc hK hs
    simp only [chk, Bool.and_eq_true, Bool.or_eq_true, decide_eq_true_eq, beq_iff_eq] at hc
    simp only [step] at hs
    split at hs
    · split at hs
      · rename_i hy
        obtain ⟨rfl, hd⟩ := hc
        exact wz_dup hx hb (c_dc_t hd) hy (hK _ _ _ hs)
      · cases hs
    · cases hs
  | 33 =>
    intro hc hK hs
    simp only [chk, Bool.and_eq_true, Bool.or_eq_true, decide_eq_true_eq, beq_iff_eq] at hc
    simp only [step] at hs
    split at hs
    · split at hs
      · rename_i hy
        obtain ⟨rfl, hd⟩ := hc
        exact wz_dup2 hx hb (c_dc_t hd) hy.1 hy.2 (hK _ _ _ hs)
      · cases hs
    · cases hs
  | 34 =>
    intro hc hK hs
    simp only [chk, Bool.and_eq_true, Bool.or_eq_true, decide_eq_true_eq, beq_iff_eq] at hc
    simp only [step] at hs
    split at hs
    · split at hs
      · rename_i hy
        obtain ⟨rfl, hd⟩ := hc
        exact wz_pop hx hb (c_dc_t hd) hy (hK _ _ _ hs)
      · cases hs
    · cases hs
  | 35 =>
    intro hc hK hs
    simp only [step] at hs
    split at hs
    · rename_i hst
      obtain ⟨y, h2, e1, e2⟩ := cI_inv hs
      exact call_sound CX hst hc e1 (hKm _ _ _ e2) (hK _ _ _ e2)
    · cases hs
  | 36 =>
    intro hc hK hs
    simp only [step] at hs
    split at hs
    · rename_i hst
      obtain ⟨h2, e1, e2⟩ := cV_inv hs
      exact call_sound CX hst hc e1 (hKm _ _ _ e2) (hK _ _ _ e2)
    · cases hs
  | 37 =>
    intro hc hK hs
    simp only [step] at hs
    split at hs
    · rename_i hst
      rcases cR_inv hs with ⟨q, h2, e1, e2⟩ | ⟨h2, e1, e2⟩
      · exact call_sound CX hst hc e1 (hKm _ _ _ e2) (hK _ _ _ e2)
      · exact call_sound CX hst hc e1 (hKm _ _ _ e2) (hK _ _ _ e2)
    · cases hs
  | 38 =>
    intro hc hK hs
    simp only [chk, Bool.and_eq_true, Bool.or_eq_true, decide_eq_true_eq, beq_iff_eq] at hc
    simp only [step] at hs
    split at hs
    · cases hs
      exact hQ _ _ (Or.inl ⟨c_dc_t hc.1, rfl, hc.2⟩)
    · cases hs
  | 39 =>
    intro hc hK hs
    simp only [chk, Bool.and_eq_true, Bool.or_eq_true, decide_eq_true_eq, beq_iff_eq] at hc
    simp only [step] at hs
    split at hs
    · cases hs
      exact hQ _ _ (Or.inr (Or.inl ⟨c_dc_t hc.1, _, rfl, Or.inl hc.2⟩))
    · cases hs
  | 40 =>
    intro hc hK hs
    simp only [chk, Bool.and_eq_true, Bool.or_eq_true, decide_eq_true_eq, beq_iff_eq] at hc
    simp only [step] at hs
    split at hs
    · split at hs
      · rename_i hy
        cases hs
        exact hQ _ _ (Or.inr (Or.inl ⟨c_dc_t hc.1, _, rfl, Or.inr ⟨hc.2, hy⟩⟩))
      · cases hs
    · cases hs
  | 41 =>
    intro hc hK hs
    have hc : (c_dc mC M pc .areturn 1 && (match mT M with | some ty => c_ref ty | none => false)) = true := hc
    rw [Bool.and_eq_true] at hc
    obtain ⟨hd, ht⟩ := hc
    have ht : ∃ ty, mT M = some ty ∧ c_ref ty = true := by
      split at ht
      · rename_i ty hty
        exact ⟨ty, hty, ht⟩
      · cases ht
    simp only [step] at hs
    split at hs
    · cases hs
      exact hQ _ _ (Or.inr (Or.inr ⟨c_dc_t hd, _, rfl, Or.inr ⟨_, rfl⟩, ht⟩))
    · cases hs
      exact hQ _ _ (Or.inr (Or.inr ⟨c_dc_t hd, _, rfl, Or.inl rfl, ht⟩))
    · cases hs
  | 42 =>
    intro hc hK hs
    simp only [chk, Bool.and_eq_true, Bool.or_eq_true, decide_eq_true_eq, beq_iff_eq] at hc
    obtain ⟨rfl, hd⟩ := hc
    exact wz_null hx hb (c_dc_t hd) (hK _ _ _ hs)
  | 43 =>
    intro hc hK hs
    simp only [chk, Bool.and_eq_true, Bool.or_eq_true, decide_eq_true_eq, beq_iff_eq] at hc
    simp only [step] at hs
    split at hs
    · split at hs
      · rename_i hst
        obtain ⟨⟨⟨⟨rfl, hd⟩, hl1⟩, hl2⟩, hl3⟩ := hc
        exact wz_objInit hx hb hml hown (c_tk_t hl1 hts) (c_tk_t hl2 hts) (c_tk_t hl3 hts) hst ⟨by omega, by omega⟩ (c_dc_t hd) (hK _ _ _ hs)
      · cases hs
    · cases hs
  | 44 =>
    intro hc hK hs
    simp only [chk, Bool.and_eq_true, Bool.or_eq_true, decide_eq_true_eq, beq_iff_eq] at hc
    simp only [step] at hs
    split at hs
    · split at hs
      · rename_i hst
        obtain ⟨n0, f, n1, g, g1, g2, g3, g4, g5, g6, g7, g8⟩ := cpA_inv hs
        obtain ⟨⟨⟨⟨⟨rfl, hd⟩, hl1⟩, hl2⟩, hl3⟩, hl4⟩ := hc
        exact wz_copy hx hb hml hF hown (c_tk_t hl1 hts) (c_tk_t hl2 hts) (c_tk_t hl3 hts) (c_tk_t hl4 hts) g1 g2 g3 g4 g5 g6 g7 hst ⟨by omega, by omega⟩ (c_dc_t hd) (hK _ _ _ g8)
      · cases hs
    · cases hs
  | 45 =>
    intro hc hK hs
    simp only [chk, Bool.and_eq_true, Bool.or_eq_true, decide_eq_true_eq, beq_iff_eq] at hc
    subst hc
    exact hJ _ _ _ _ hs
  | 46 =>
    intro hc hK hs
    simp only [chk, Bool.and_eq_true, Bool.or_eq_true, decide_eq_true_eq, beq_iff_eq] at hc
    simp only [step] at hs
    split at hs
    · split at hs
      · rename_i hst
        obtain ⟨n, f, g1, g2, g3, g4⟩ := clA_inv hs
        obtain ⟨⟨⟨⟨⟨⟨⟨rfl, hd⟩, hl1⟩, hl2⟩, hl3⟩, hl4⟩, hl5⟩, hl6⟩ := hc
        refine wz_later (fun hle => ?_)
        obtain ⟨q1, q2, q3⟩ := q_new CX (hKm _ _ _ g4) hle
        exact wz_clone hx hb hml hF hown (c_tk_t hl1 hts) (c_tk_t hl2 hts) (c_tk_t hl3 hts) (c_tk_t hl4 hts) (c_tk_t hl5 hts) (c_tx_t hl6 hF) g1 g2 g3 q1 hst ⟨by omega, by omega⟩ q2 q3 (c_dc_t hd) (hK _ _ _ g4)
      · cases hs
    · cases hs
  | 47 =>
    intro hc hK hs
    simp only [chk, Bool.and_eq_true, Bool.or_eq_true, decide_eq_true_eq, beq_iff_eq] at hc
    simp only [step] at hs
    split at hs
    · split at hs
      · rename_i hst
        obtain ⟨n, f, g1⟩ := isA_inv hst
        obtain ⟨⟨rfl, hd⟩, hl⟩ := hc
        exact wz_castA hx hb hF hown (c_tk_t hl hts) g1 (c_dc_t hd) (hK _ _ _ hs)
      · cases hs
    · cases hs
  | n + 48 =>
    intro hc hK hs
    simp only [step] at hs
    cases hs
theorem run_sound {C : Nat → List Value → PH → PR} {J : Nat → PL → List Value → PH → PR} {d M : Nat} {h' : PH} {r : Option Value} (CX : q_CX p l R s m args meth c D dA base ad h0 sa ro tbl nM mY mC mL mT C d M h')
    (hQ : ∀ (pc : Nat) (lv : PL), q_RT mC mT M pc r → q_WZ p l e R s m args below meth c Q D dA base ad (mL M) h0 h' lv pc r.toList) (hJ : ∀ t lv st h1, J t lv st h1 = some (r, h') → q_WZ p l e R s m args below meth c Q D dA base ad (mL M) h0 h1 lv t st) (hJm : ∀ t lv st h1, J t lv st h1 = some (r, h') → PLe h1 h') :
    ∀ (is : List PI) (pc : Nat) (lv : PL) (st : List Value) (h : PH), chkL mY mC mL mT tbl nM M pc is = true → run ro J C is lv st h = some (r, h') → q_WZ p l e R s m args below meth c Q D dA base ad (mL M) h0 h lv pc st
  | [], _, _, _, _, _, hs => by cases hs
  | i :: is, pc, lv, st, h, hc, hs => by
    simp only [chkL, Bool.and_eq_true, beq_iff_eq] at hc
    obtain ⟨⟨rfl, hc1⟩, hc2⟩ := hc
    exact step_sound CX hQ hJ (run_mono hJm CX.2.2.2.2.2.2.2.2.2.2.2.2 is) i hc1 (fun lv st h1 w => run_sound CX hQ hJ hJm is _ lv st h1 hc2 w) hs
theorem pget_ok {f : Nat → List PI → Bool} : ∀ {B : List (Nat × List PI)}, B.all (fun q => f q.1 q.2) = true → (∀ t, f t [] = true) → ∀ t, f t (pget B t) = true
  | [], _, h0, t => h0 t
  | (k, b) :: r, h, h0, t => by
    simp only [List.all_cons, Bool.and_eq_true] at h
    unfold pget
    split
    · rename_i e
      subst e
      exact h.1
    · exact pget_ok h.2 h0 t
theorem EXn_sound {C : Nat → List Value → PH → PR} {B : List (Nat × List PI)} {d M : Nat} {h' : PH} {r : Option Value} (CX : q_CX p l R s m args meth c D dA base ad h0 sa ro tbl nM mY mC mL mT C d M h')
    (hQ : ∀ (pc : Nat) (lv : PL), q_RT mC mT M pc r → q_WZ p l e R s m args below meth c Q D dA base ad (mL M) h0 h' lv pc r.toList) (hB : B.all (fun q => chkL mY mC mL mT tbl nM M q.1 q.2) = true) :
    ∀ (n t : Nat) (lv : PL) (st : List Value) (h : PH), EXn ro B C n t lv st h = some (r, h') → q_WZ p l e R s m args below meth c Q D dA base ad (mL M) h0 h lv t st
  | 0, _, _, _, _, hs => by cases hs
  | n + 1, t, lv, st, h, hs => run_sound CX hQ (EXn_sound CX hQ hB n) (EXn_mono CX.2.2.2.2.2.2.2.2.2.2.2.2 n) (pget B t) t lv st h (pget_ok hB (fun _ => rfl) t) hs
end STEPS
end
