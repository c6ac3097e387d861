section
-- ===== PART A: goes FIRST, ahead of the names: the tables' words, and 'selects' of the private methods out of them =====
/-- a private method of a class that the tables say can be made, by its rows of tables_1 -/
def lw_okq (q : MethodName × Nat) : Prop := (q.1.cls ≠ "java/lang/invoke/MethodHandle" ∧ q.1.cls ≠ "java/lang/invoke/VarHandle") ∧ Cond.instantiable q.1.cls q.2 ∈ tables_1 ∧ Cond.privateMethod q.1 ∈ tables_1 ∧ Cond.instanceMethod q.1 ∈ tables_1
theorem lw_p0 : lw_okq (⟨"PoleLogs", "sumOf", "([II)I"⟩, 18) := ⟨⟨by decide +kernel, by decide +kernel⟩, List.mem_of_getElem? (i := 18) (by decide +kernel), List.mem_of_getElem? (i := 321) (by decide +kernel), List.mem_of_getElem? (i := 322) (by decide +kernel)⟩
theorem lw_p1 : lw_okq (⟨"PoleLogs", "addRow", "(III)LPoleLogs$Row;"⟩, 18) := ⟨⟨by decide +kernel, by decide +kernel⟩, List.mem_of_getElem? (i := 18) (by decide +kernel), List.mem_of_getElem? (i := 340) (by decide +kernel), List.mem_of_getElem? (i := 341) (by decide +kernel)⟩
theorem lw_p2 : lw_okq (⟨"PoleLogs", "addHeight", "(IIIII)I"⟩, 18) := ⟨⟨by decide +kernel, by decide +kernel⟩, List.mem_of_getElem? (i := 18) (by decide +kernel), List.mem_of_getElem? (i := 402) (by decide +kernel), List.mem_of_getElem? (i := 403) (by decide +kernel)⟩
theorem lw_p3 : lw_okq (⟨"PoleLogs", "isRow", "(I)Z"⟩, 18) := ⟨⟨by decide +kernel, by decide +kernel⟩, List.mem_of_getElem? (i := 18) (by decide +kernel), List.mem_of_getElem? (i := 433) (by decide +kernel), List.mem_of_getElem? (i := 434) (by decide +kernel)⟩
theorem lw_p4 : lw_okq (⟨"PoleLogs$Way", "marchOf", "(I)LPoleLogs$Row;"⟩, 5) := ⟨⟨by decide +kernel, by decide +kernel⟩, List.mem_of_getElem? (i := 123) (by decide +kernel), List.mem_of_getElem? (i := 446) (by decide +kernel), List.mem_of_getElem? (i := 447) (by decide +kernel)⟩
theorem lw_p5 : lw_okq (⟨"PoleLogs", "agrees", "(LPoleLogs$Row;II)Z"⟩, 18) := ⟨⟨by decide +kernel, by decide +kernel⟩, List.mem_of_getElem? (i := 18) (by decide +kernel), List.mem_of_getElem? (i := 468) (by decide +kernel), List.mem_of_getElem? (i := 469) (by decide +kernel)⟩
theorem lw_p6 : lw_okq (⟨"PoleLogs", "pictureAgrees", "(LPoleLogs$Row;I)Z"⟩, 18) := ⟨⟨by decide +kernel, by decide +kernel⟩, List.mem_of_getElem? (i := 18) (by decide +kernel), List.mem_of_getElem? (i := 500) (by decide +kernel), List.mem_of_getElem? (i := 501) (by decide +kernel)⟩
theorem lw_p7 : lw_okq (⟨"PoleLogs", "heightAgrees", "(LPoleLogs$Row;I)Z"⟩, 18) := ⟨⟨by decide +kernel, by decide +kernel⟩, List.mem_of_getElem? (i := 18) (by decide +kernel), List.mem_of_getElem? (i := 504) (by decide +kernel), List.mem_of_getElem? (i := 505) (by decide +kernel)⟩
theorem lw_p8 : lw_okq (⟨"PoleLogs", "quarrelBy", "(II)I"⟩, 18) := ⟨⟨by decide +kernel, by decide +kernel⟩, List.mem_of_getElem? (i := 18) (by decide +kernel), List.mem_of_getElem? (i := 540) (by decide +kernel), List.mem_of_getElem? (i := 541) (by decide +kernel)⟩
theorem lw_p9 : lw_okq (⟨"PoleLogs", "driftNeededX", "(LPoleLogs$Log;)I"⟩, 18) := ⟨⟨by decide +kernel, by decide +kernel⟩, List.mem_of_getElem? (i := 18) (by decide +kernel), List.mem_of_getElem? (i := 570) (by decide +kernel), List.mem_of_getElem? (i := 571) (by decide +kernel)⟩
theorem lw_p10 : lw_okq (⟨"PoleLogs", "driftNeededY", "(LPoleLogs$Log;)I"⟩, 18) := ⟨⟨by decide +kernel, by decide +kernel⟩, List.mem_of_getElem? (i := 18) (by decide +kernel), List.mem_of_getElem? (i := 577) (by decide +kernel), List.mem_of_getElem? (i := 578) (by decide +kernel)⟩
theorem lw_p11 : lw_okq (⟨"PoleLogs", "falseRows", "(III)I"⟩, 18) := ⟨⟨by decide +kernel, by decide +kernel⟩, List.mem_of_getElem? (i := 18) (by decide +kernel), List.mem_of_getElem? (i := 592) (by decide +kernel), List.mem_of_getElem? (i := 593) (by decide +kernel)⟩
theorem lw_p12 : lw_okq (⟨"PoleLogs", "agreesInStory", "(LPoleLogs$Row;II)Z"⟩, 18) := ⟨⟨by decide +kernel, by decide +kernel⟩, List.mem_of_getElem? (i := 18) (by decide +kernel), List.mem_of_getElem? (i := 597) (by decide +kernel), List.mem_of_getElem? (i := 598) (by decide +kernel)⟩
theorem lw_p13 : lw_okq (⟨"PoleLogs", "storyX", "(ILPoleLogs$Log;I)I"⟩, 18) := ⟨⟨by decide +kernel, by decide +kernel⟩, List.mem_of_getElem? (i := 18) (by decide +kernel), List.mem_of_getElem? (i := 601) (by decide +kernel), List.mem_of_getElem? (i := 602) (by decide +kernel)⟩
theorem lw_p14 : lw_okq (⟨"PoleLogs", "storyY", "(ILPoleLogs$Log;II)I"⟩, 18) := ⟨⟨by decide +kernel, by decide +kernel⟩, List.mem_of_getElem? (i := 18) (by decide +kernel), List.mem_of_getElem? (i := 605) (by decide +kernel), List.mem_of_getElem? (i := 606) (by decide +kernel)⟩
theorem lw_p15 : lw_okq (⟨"PoleLogs", "showingMisprint", "(I)I"⟩, 18) := ⟨⟨by decide +kernel, by decide +kernel⟩, List.mem_of_getElem? (i := 18) (by decide +kernel), List.mem_of_getElem? (i := 622) (by decide +kernel), List.mem_of_getElem? (i := 623) (by decide +kernel)⟩
def lw_privs_1 : List (MethodName × Nat) := [(⟨"PoleLogs", "sumOf", "([II)I"⟩, 18), (⟨"PoleLogs", "addRow", "(III)LPoleLogs$Row;"⟩, 18), (⟨"PoleLogs", "addHeight", "(IIIII)I"⟩, 18), (⟨"PoleLogs", "isRow", "(I)Z"⟩, 18), (⟨"PoleLogs$Way", "marchOf", "(I)LPoleLogs$Row;"⟩, 5), (⟨"PoleLogs", "agrees", "(LPoleLogs$Row;II)Z"⟩, 18), (⟨"PoleLogs", "pictureAgrees", "(LPoleLogs$Row;I)Z"⟩, 18), (⟨"PoleLogs", "heightAgrees", "(LPoleLogs$Row;I)Z"⟩, 18), (⟨"PoleLogs", "quarrelBy", "(II)I"⟩, 18), (⟨"PoleLogs", "driftNeededX", "(LPoleLogs$Log;)I"⟩, 18), (⟨"PoleLogs", "driftNeededY", "(LPoleLogs$Log;)I"⟩, 18), (⟨"PoleLogs", "falseRows", "(III)I"⟩, 18), (⟨"PoleLogs", "agreesInStory", "(LPoleLogs$Row;II)Z"⟩, 18), (⟨"PoleLogs", "storyX", "(ILPoleLogs$Log;I)I"⟩, 18), (⟨"PoleLogs", "storyY", "(ILPoleLogs$Log;II)I"⟩, 18), (⟨"PoleLogs", "showingMisprint", "(I)I"⟩, 18)]
theorem lw_r1 : ∀ q ∈ lw_privs_1, lw_okq q := List.forall_mem_cons.mpr ⟨lw_p0, List.forall_mem_cons.mpr ⟨lw_p1, List.forall_mem_cons.mpr ⟨lw_p2, List.forall_mem_cons.mpr ⟨lw_p3, List.forall_mem_cons.mpr ⟨lw_p4, List.forall_mem_cons.mpr ⟨lw_p5, List.forall_mem_cons.mpr ⟨lw_p6, List.forall_mem_cons.mpr ⟨lw_p7, List.forall_mem_cons.mpr ⟨lw_p8, List.forall_mem_cons.mpr ⟨lw_p9, List.forall_mem_cons.mpr ⟨lw_p10, List.forall_mem_cons.mpr ⟨lw_p11, List.forall_mem_cons.mpr ⟨lw_p12, List.forall_mem_cons.mpr ⟨lw_p13, List.forall_mem_cons.mpr ⟨lw_p14, List.forall_mem_cons.mpr ⟨lw_p15, fun _ h => absurd h List.not_mem_nil⟩⟩⟩⟩⟩⟩⟩⟩⟩⟩⟩⟩⟩⟩⟩⟩
theorem lw_p16 : lw_okq (⟨"PoleLogs", "madeAtHome", "(II)I"⟩, 18) := ⟨⟨by decide +kernel, by decide +kernel⟩, List.mem_of_getElem? (i := 18) (by decide +kernel), List.mem_of_getElem? (i := 635) (by decide +kernel), List.mem_of_getElem? (i := 636) (by decide +kernel)⟩
theorem lw_p17 : lw_okq (⟨"PoleLogs$Reader", "readAll", "([II)Z"⟩, 5) := ⟨⟨by decide +kernel, by decide +kernel⟩, List.mem_of_getElem? (i := 149) (by decide +kernel), List.mem_of_getElem? (i := 655) (by decide +kernel), List.mem_of_getElem? (i := 656) (by decide +kernel)⟩
theorem lw_p18 : lw_okq (⟨"PoleLogs$Reader", "either", "(I)Z"⟩, 5) := ⟨⟨by decide +kernel, by decide +kernel⟩, List.mem_of_getElem? (i := 149) (by decide +kernel), List.mem_of_getElem? (i := 660) (by decide +kernel), List.mem_of_getElem? (i := 661) (by decide +kernel)⟩
theorem lw_p19 : lw_okq (⟨"PoleLogs$Reader", "both", "(I)Z"⟩, 5) := ⟨⟨by decide +kernel, by decide +kernel⟩, List.mem_of_getElem? (i := 149) (by decide +kernel), List.mem_of_getElem? (i := 664) (by decide +kernel), List.mem_of_getElem? (i := 665) (by decide +kernel)⟩
theorem lw_p20 : lw_okq (⟨"PoleLogs$Reader", "one", "(I)Z"⟩, 5) := ⟨⟨by decide +kernel, by decide +kernel⟩, List.mem_of_getElem? (i := 149) (by decide +kernel), List.mem_of_getElem? (i := 668) (by decide +kernel), List.mem_of_getElem? (i := 669) (by decide +kernel)⟩
theorem lw_p21 : lw_okq (⟨"PoleLogs$Reader", "coming", "()I"⟩, 5) := ⟨⟨by decide +kernel, by decide +kernel⟩, List.mem_of_getElem? (i := 149) (by decide +kernel), List.mem_of_getElem? (i := 672) (by decide +kernel), List.mem_of_getElem? (i := 673) (by decide +kernel)⟩
theorem lw_p22 : lw_okq (⟨"PoleLogs$Reader", "test", "()Z"⟩, 5) := ⟨⟨by decide +kernel, by decide +kernel⟩, List.mem_of_getElem? (i := 149) (by decide +kernel), List.mem_of_getElem? (i := 676) (by decide +kernel), List.mem_of_getElem? (i := 677) (by decide +kernel)⟩
theorem lw_p23 : lw_okq (⟨"PoleLogs$Reader", "number", "()I"⟩, 5) := ⟨⟨by decide +kernel, by decide +kernel⟩, List.mem_of_getElem? (i := 149) (by decide +kernel), List.mem_of_getElem? (i := 683) (by decide +kernel), List.mem_of_getElem? (i := 684) (by decide +kernel)⟩
theorem lw_p24 : lw_okq (⟨"PoleLogs", "lawIn", "(II)LPoleLogs$Law;"⟩, 18) := ⟨⟨by decide +kernel, by decide +kernel⟩, List.mem_of_getElem? (i := 18) (by decide +kernel), List.mem_of_getElem? (i := 726) (by decide +kernel), List.mem_of_getElem? (i := 727) (by decide +kernel)⟩
theorem lw_p25 : lw_okq (⟨"PoleLogs", "tally", "(II[I)V"⟩, 18) := ⟨⟨by decide +kernel, by decide +kernel⟩, List.mem_of_getElem? (i := 18) (by decide +kernel), List.mem_of_getElem? (i := 730) (by decide +kernel), List.mem_of_getElem? (i := 731) (by decide +kernel)⟩
theorem lw_p26 : lw_okq (⟨"PoleLogs$Looks", "leftBehind", "(II)I"⟩, 3) := ⟨⟨by decide +kernel, by decide +kernel⟩, List.mem_of_getElem? (i := 174) (by decide +kernel), List.mem_of_getElem? (i := 750) (by decide +kernel), List.mem_of_getElem? (i := 751) (by decide +kernel)⟩
theorem lw_p27 : lw_okq (⟨"PoleLogs$Acts", "from", "(IILPoleLogs$Row;II)I"⟩, 2) := ⟨⟨by decide +kernel, by decide +kernel⟩, List.mem_of_getElem? (i := 198) (by decide +kernel), List.mem_of_getElem? (i := 788) (by decide +kernel), List.mem_of_getElem? (i := 789) (by decide +kernel)⟩
theorem lw_p28 : lw_okq (⟨"PoleLogs$Acts", "run", "(IILPoleLogs$Row;II)I"⟩, 2) := ⟨⟨by decide +kernel, by decide +kernel⟩, List.mem_of_getElem? (i := 198) (by decide +kernel), List.mem_of_getElem? (i := 796) (by decide +kernel), List.mem_of_getElem? (i := 797) (by decide +kernel)⟩
theorem lw_p29 : lw_okq (⟨"PoleLogsModel", "in", "(III)Z"⟩, 59) := ⟨⟨by decide +kernel, by decide +kernel⟩, List.mem_of_getElem? (i := 858) (by decide +kernel), List.mem_of_getElem? (i := 856) (by decide +kernel), List.mem_of_getElem? (i := 857) (by decide +kernel)⟩
theorem lw_p30 : lw_okq (⟨"PoleLogsModel", "isDay", "(I)Z"⟩, 59) := ⟨⟨by decide +kernel, by decide +kernel⟩, List.mem_of_getElem? (i := 858) (by decide +kernel), List.mem_of_getElem? (i := 873) (by decide +kernel), List.mem_of_getElem? (i := 874) (by decide +kernel)⟩
theorem lw_p31 : lw_okq (⟨"PoleLogsModel", "isLog", "(I)Z"⟩, 59) := ⟨⟨by decide +kernel, by decide +kernel⟩, List.mem_of_getElem? (i := 858) (by decide +kernel), List.mem_of_getElem? (i := 885) (by decide +kernel), List.mem_of_getElem? (i := 886) (by decide +kernel)⟩
def lw_privs_2 : List (MethodName × Nat) := [(⟨"PoleLogs", "madeAtHome", "(II)I"⟩, 18), (⟨"PoleLogs$Reader", "readAll", "([II)Z"⟩, 5), (⟨"PoleLogs$Reader", "either", "(I)Z"⟩, 5), (⟨"PoleLogs$Reader", "both", "(I)Z"⟩, 5), (⟨"PoleLogs$Reader", "one", "(I)Z"⟩, 5), (⟨"PoleLogs$Reader", "coming", "()I"⟩, 5), (⟨"PoleLogs$Reader", "test", "()Z"⟩, 5), (⟨"PoleLogs$Reader", "number", "()I"⟩, 5), (⟨"PoleLogs", "lawIn", "(II)LPoleLogs$Law;"⟩, 18), (⟨"PoleLogs", "tally", "(II[I)V"⟩, 18), (⟨"PoleLogs$Looks", "leftBehind", "(II)I"⟩, 3), (⟨"PoleLogs$Acts", "from", "(IILPoleLogs$Row;II)I"⟩, 2), (⟨"PoleLogs$Acts", "run", "(IILPoleLogs$Row;II)I"⟩, 2), (⟨"PoleLogsModel", "in", "(III)Z"⟩, 59), (⟨"PoleLogsModel", "isDay", "(I)Z"⟩, 59), (⟨"PoleLogsModel", "isLog", "(I)Z"⟩, 59)]
theorem lw_r2 : ∀ q ∈ lw_privs_2, lw_okq q := List.forall_mem_cons.mpr ⟨lw_p16, List.forall_mem_cons.mpr ⟨lw_p17, List.forall_mem_cons.mpr ⟨lw_p18, List.forall_mem_cons.mpr ⟨lw_p19, List.forall_mem_cons.mpr ⟨lw_p20, List.forall_mem_cons.mpr ⟨lw_p21, List.forall_mem_cons.mpr ⟨lw_p22, List.forall_mem_cons.mpr ⟨lw_p23, List.forall_mem_cons.mpr ⟨lw_p24, List.forall_mem_cons.mpr ⟨lw_p25, List.forall_mem_cons.mpr ⟨lw_p26, List.forall_mem_cons.mpr ⟨lw_p27, List.forall_mem_cons.mpr ⟨lw_p28, List.forall_mem_cons.mpr ⟨lw_p29, List.forall_mem_cons.mpr ⟨lw_p30, List.forall_mem_cons.mpr ⟨lw_p31, fun _ h => absurd h List.not_mem_nil⟩⟩⟩⟩⟩⟩⟩⟩⟩⟩⟩⟩⟩⟩⟩⟩
theorem lw_p32 : lw_okq (⟨"PoleLogsModel", "isPlace", "(II)Z"⟩, 59) := ⟨⟨by decide +kernel, by decide +kernel⟩, List.mem_of_getElem? (i := 858) (by decide +kernel), List.mem_of_getElem? (i := 893) (by decide +kernel), List.mem_of_getElem? (i := 894) (by decide +kernel)⟩
theorem lw_p33 : lw_okq (⟨"PoleLogsModel", "marchOf", "(III)I"⟩, 59) := ⟨⟨by decide +kernel, by decide +kernel⟩, List.mem_of_getElem? (i := 858) (by decide +kernel), List.mem_of_getElem? (i := 905) (by decide +kernel), List.mem_of_getElem? (i := 906) (by decide +kernel)⟩
theorem lw_p34 : lw_okq (⟨"PoleLogsModel", "add", "(IIIIIII)I"⟩, 59) := ⟨⟨by decide +kernel, by decide +kernel⟩, List.mem_of_getElem? (i := 858) (by decide +kernel), List.mem_of_getElem? (i := 910) (by decide +kernel), List.mem_of_getElem? (i := 911) (by decide +kernel)⟩
theorem lw_p35 : lw_okq (⟨"PoleLogsModel", "isTape", "(I)Z"⟩, 59) := ⟨⟨by decide +kernel, by decide +kernel⟩, List.mem_of_getElem? (i := 858) (by decide +kernel), List.mem_of_getElem? (i := 934) (by decide +kernel), List.mem_of_getElem? (i := 935) (by decide +kernel)⟩
theorem lw_p36 : lw_okq (⟨"PoleLogsModel", "isRow", "(I)Z"⟩, 59) := ⟨⟨by decide +kernel, by decide +kernel⟩, List.mem_of_getElem? (i := 858) (by decide +kernel), List.mem_of_getElem? (i := 942) (by decide +kernel), List.mem_of_getElem? (i := 943) (by decide +kernel)⟩
theorem lw_p37 : lw_okq (⟨"PoleLogsModel", "isYear", "(I)Z"⟩, 59) := ⟨⟨by decide +kernel, by decide +kernel⟩, List.mem_of_getElem? (i := 858) (by decide +kernel), List.mem_of_getElem? (i := 950) (by decide +kernel), List.mem_of_getElem? (i := 951) (by decide +kernel)⟩
theorem lw_p38 : lw_okq (⟨"PoleLogsModel", "findWay", "(II)V"⟩, 59) := ⟨⟨by decide +kernel, by decide +kernel⟩, List.mem_of_getElem? (i := 858) (by decide +kernel), List.mem_of_getElem? (i := 954) (by decide +kernel), List.mem_of_getElem? (i := 955) (by decide +kernel)⟩
theorem lw_p39 : lw_okq (⟨"PoleLogsModel", "keep", "(I)I"⟩, 59) := ⟨⟨by decide +kernel, by decide +kernel⟩, List.mem_of_getElem? (i := 858) (by decide +kernel), List.mem_of_getElem? (i := 958) (by decide +kernel), List.mem_of_getElem? (i := 959) (by decide +kernel)⟩
theorem lw_p40 : lw_okq (⟨"PoleLogsModel", "cellOf", "(II)I"⟩, 59) := ⟨⟨by decide +kernel, by decide +kernel⟩, List.mem_of_getElem? (i := 858) (by decide +kernel), List.mem_of_getElem? (i := 962) (by decide +kernel), List.mem_of_getElem? (i := 963) (by decide +kernel)⟩
theorem lw_p41 : lw_okq (⟨"PoleLogsModel", "canGo", "(II)I"⟩, 59) := ⟨⟨by decide +kernel, by decide +kernel⟩, List.mem_of_getElem? (i := 858) (by decide +kernel), List.mem_of_getElem? (i := 970) (by decide +kernel), List.mem_of_getElem? (i := 971) (by decide +kernel)⟩
theorem lw_p42 : lw_okq (⟨"PoleLogsModel", "beyondBy", "(I)I"⟩, 59) := ⟨⟨by decide +kernel, by decide +kernel⟩, List.mem_of_getElem? (i := 858) (by decide +kernel), List.mem_of_getElem? (i := 978) (by decide +kernel), List.mem_of_getElem? (i := 979) (by decide +kernel)⟩
theorem lw_p43 : lw_okq (⟨"PoleLogsModel", "latitudeOf", "(II)I"⟩, 59) := ⟨⟨by decide +kernel, by decide +kernel⟩, List.mem_of_getElem? (i := 858) (by decide +kernel), List.mem_of_getElem? (i := 986) (by decide +kernel), List.mem_of_getElem? (i := 987) (by decide +kernel)⟩
theorem lw_p44 : lw_okq (⟨"PoleLogsModel", "abs", "(I)I"⟩, 59) := ⟨⟨by decide +kernel, by decide +kernel⟩, List.mem_of_getElem? (i := 858) (by decide +kernel), List.mem_of_getElem? (i := 990) (by decide +kernel), List.mem_of_getElem? (i := 991) (by decide +kernel)⟩
theorem lw_p45 : lw_okq (⟨"PoleLogsModel", "isFit", "(IIII)Z"⟩, 59) := ⟨⟨by decide +kernel, by decide +kernel⟩, List.mem_of_getElem? (i := 858) (by decide +kernel), List.mem_of_getElem? (i := 998) (by decide +kernel), List.mem_of_getElem? (i := 999) (by decide +kernel)⟩
theorem lw_p46 : lw_okq (⟨"PoleLogsModel", "isHeight", "(I)Z"⟩, 59) := ⟨⟨by decide +kernel, by decide +kernel⟩, List.mem_of_getElem? (i := 858) (by decide +kernel), List.mem_of_getElem? (i := 1002) (by decide +kernel), List.mem_of_getElem? (i := 1003) (by decide +kernel)⟩
theorem lw_p47 : lw_okq (⟨"PoleLogsModel", "middle", "(I)I"⟩, 59) := ⟨⟨by decide +kernel, by decide +kernel⟩, List.mem_of_getElem? (i := 858) (by decide +kernel), List.mem_of_getElem? (i := 1006) (by decide +kernel), List.mem_of_getElem? (i := 1007) (by decide +kernel)⟩
def lw_privs_3 : List (MethodName × Nat) := [(⟨"PoleLogsModel", "isPlace", "(II)Z"⟩, 59), (⟨"PoleLogsModel", "marchOf", "(III)I"⟩, 59), (⟨"PoleLogsModel", "add", "(IIIIIII)I"⟩, 59), (⟨"PoleLogsModel", "isTape", "(I)Z"⟩, 59), (⟨"PoleLogsModel", "isRow", "(I)Z"⟩, 59), (⟨"PoleLogsModel", "isYear", "(I)Z"⟩, 59), (⟨"PoleLogsModel", "findWay", "(II)V"⟩, 59), (⟨"PoleLogsModel", "keep", "(I)I"⟩, 59), (⟨"PoleLogsModel", "cellOf", "(II)I"⟩, 59), (⟨"PoleLogsModel", "canGo", "(II)I"⟩, 59), (⟨"PoleLogsModel", "beyondBy", "(I)I"⟩, 59), (⟨"PoleLogsModel", "latitudeOf", "(II)I"⟩, 59), (⟨"PoleLogsModel", "abs", "(I)I"⟩, 59), (⟨"PoleLogsModel", "isFit", "(IIII)Z"⟩, 59), (⟨"PoleLogsModel", "isHeight", "(I)Z"⟩, 59), (⟨"PoleLogsModel", "middle", "(I)I"⟩, 59)]
theorem lw_r3 : ∀ q ∈ lw_privs_3, lw_okq q := List.forall_mem_cons.mpr ⟨lw_p32, List.forall_mem_cons.mpr ⟨lw_p33, List.forall_mem_cons.mpr ⟨lw_p34, List.forall_mem_cons.mpr ⟨lw_p35, List.forall_mem_cons.mpr ⟨lw_p36, List.forall_mem_cons.mpr ⟨lw_p37, List.forall_mem_cons.mpr ⟨lw_p38, List.forall_mem_cons.mpr ⟨lw_p39, List.forall_mem_cons.mpr ⟨lw_p40, List.forall_mem_cons.mpr ⟨lw_p41, List.forall_mem_cons.mpr ⟨lw_p42, List.forall_mem_cons.mpr ⟨lw_p43, List.forall_mem_cons.mpr ⟨lw_p44, List.forall_mem_cons.mpr ⟨lw_p45, List.forall_mem_cons.mpr ⟨lw_p46, List.forall_mem_cons.mpr ⟨lw_p47, fun _ h => absurd h List.not_mem_nil⟩⟩⟩⟩⟩⟩⟩⟩⟩⟩⟩⟩⟩⟩⟩⟩
theorem lw_p48 : lw_okq (⟨"PoleLogsModel", "quarrelOf", "(II)I"⟩, 59) := ⟨⟨by decide +kernel, by decide +kernel⟩, List.mem_of_getElem? (i := 858) (by decide +kernel), List.mem_of_getElem? (i := 1014) (by decide +kernel), List.mem_of_getElem? (i := 1015) (by decide +kernel)⟩
theorem lw_p49 : lw_okq (⟨"PoleLogsModel", "findNeeds", "(I)V"⟩, 59) := ⟨⟨by decide +kernel, by decide +kernel⟩, List.mem_of_getElem? (i := 858) (by decide +kernel), List.mem_of_getElem? (i := 1026) (by decide +kernel), List.mem_of_getElem? (i := 1027) (by decide +kernel)⟩
theorem lw_p50 : lw_okq (⟨"PoleLogsModel", "down", "(II)I"⟩, 59) := ⟨⟨by decide +kernel, by decide +kernel⟩, List.mem_of_getElem? (i := 858) (by decide +kernel), List.mem_of_getElem? (i := 1030) (by decide +kernel), List.mem_of_getElem? (i := 1031) (by decide +kernel)⟩
theorem lw_p51 : lw_okq (⟨"PoleLogsModel", "falsesOf", "(IIII)I"⟩, 59) := ⟨⟨by decide +kernel, by decide +kernel⟩, List.mem_of_getElem? (i := 858) (by decide +kernel), List.mem_of_getElem? (i := 1042) (by decide +kernel), List.mem_of_getElem? (i := 1043) (by decide +kernel)⟩
theorem lw_p52 : lw_okq (⟨"PoleLogsModel", "tellStory", "(IIII)V"⟩, 59) := ⟨⟨by decide +kernel, by decide +kernel⟩, List.mem_of_getElem? (i := 858) (by decide +kernel), List.mem_of_getElem? (i := 1046) (by decide +kernel), List.mem_of_getElem? (i := 1047) (by decide +kernel)⟩
theorem lw_p53 : lw_okq (⟨"PoleLogsModel", "madeOf", "(III)I"⟩, 59) := ⟨⟨by decide +kernel, by decide +kernel⟩, List.mem_of_getElem? (i := 858) (by decide +kernel), List.mem_of_getElem? (i := 1246) (by decide +kernel), List.mem_of_getElem? (i := 1247) (by decide +kernel)⟩
theorem lw_p54 : lw_okq (⟨"PoleLogsModel", "goes", "(I)Z"⟩, 59) := ⟨⟨by decide +kernel, by decide +kernel⟩, List.mem_of_getElem? (i := 858) (by decide +kernel), List.mem_of_getElem? (i := 1258) (by decide +kernel), List.mem_of_getElem? (i := 1259) (by decide +kernel)⟩
theorem lw_p55 : lw_okq (⟨"PoleLogsModel", "byteAt", "()I"⟩, 59) := ⟨⟨by decide +kernel, by decide +kernel⟩, List.mem_of_getElem? (i := 858) (by decide +kernel), List.mem_of_getElem? (i := 1262) (by decide +kernel), List.mem_of_getElem? (i := 1263) (by decide +kernel)⟩
theorem lw_p56 : lw_okq (⟨"PoleLogsModel", "takesTest", "()Z"⟩, 59) := ⟨⟨by decide +kernel, by decide +kernel⟩, List.mem_of_getElem? (i := 858) (by decide +kernel), List.mem_of_getElem? (i := 1266) (by decide +kernel), List.mem_of_getElem? (i := 1267) (by decide +kernel)⟩
theorem lw_p57 : lw_okq (⟨"PoleLogsModel", "factOf", "(I)I"⟩, 59) := ⟨⟨by decide +kernel, by decide +kernel⟩, List.mem_of_getElem? (i := 858) (by decide +kernel), List.mem_of_getElem? (i := 1270) (by decide +kernel), List.mem_of_getElem? (i := 1271) (by decide +kernel)⟩
theorem lw_p58 : lw_okq (⟨"PoleLogsModel", "isDigit", "()Z"⟩, 59) := ⟨⟨by decide +kernel, by decide +kernel⟩, List.mem_of_getElem? (i := 858) (by decide +kernel), List.mem_of_getElem? (i := 1274) (by decide +kernel), List.mem_of_getElem? (i := 1275) (by decide +kernel)⟩
theorem lw_p59 : lw_okq (⟨"PoleLogsModel", "push", "(Z)V"⟩, 59) := ⟨⟨by decide +kernel, by decide +kernel⟩, List.mem_of_getElem? (i := 858) (by decide +kernel), List.mem_of_getElem? (i := 1278) (by decide +kernel), List.mem_of_getElem? (i := 1279) (by decide +kernel)⟩
theorem lw_p60 : lw_okq (⟨"PoleLogsModel", "settle", "(I)V"⟩, 59) := ⟨⟨by decide +kernel, by decide +kernel⟩, List.mem_of_getElem? (i := 858) (by decide +kernel), List.mem_of_getElem? (i := 1282) (by decide +kernel), List.mem_of_getElem? (i := 1283) (by decide +kernel)⟩
theorem lw_p61 : lw_okq (⟨"PoleLogsModel", "findFacts", "(II)V"⟩, 59) := ⟨⟨by decide +kernel, by decide +kernel⟩, List.mem_of_getElem? (i := 858) (by decide +kernel), List.mem_of_getElem? (i := 1290) (by decide +kernel), List.mem_of_getElem? (i := 1291) (by decide +kernel)⟩
theorem lw_p62 : lw_okq (⟨"PoleLogsModel", "fitting", "(III)I"⟩, 59) := ⟨⟨by decide +kernel, by decide +kernel⟩, List.mem_of_getElem? (i := 858) (by decide +kernel), List.mem_of_getElem? (i := 1294) (by decide +kernel), List.mem_of_getElem? (i := 1295) (by decide +kernel)⟩
theorem lw_p63 : lw_okq (⟨"PoleLogsModel", "isSet", "(I)Z"⟩, 59) := ⟨⟨by decide +kernel, by decide +kernel⟩, List.mem_of_getElem? (i := 858) (by decide +kernel), List.mem_of_getElem? (i := 1306) (by decide +kernel), List.mem_of_getElem? (i := 1307) (by decide +kernel)⟩
def lw_privs_4 : List (MethodName × Nat) := [(⟨"PoleLogsModel", "quarrelOf", "(II)I"⟩, 59), (⟨"PoleLogsModel", "findNeeds", "(I)V"⟩, 59), (⟨"PoleLogsModel", "down", "(II)I"⟩, 59), (⟨"PoleLogsModel", "falsesOf", "(IIII)I"⟩, 59), (⟨"PoleLogsModel", "tellStory", "(IIII)V"⟩, 59), (⟨"PoleLogsModel", "madeOf", "(III)I"⟩, 59), (⟨"PoleLogsModel", "goes", "(I)Z"⟩, 59), (⟨"PoleLogsModel", "byteAt", "()I"⟩, 59), (⟨"PoleLogsModel", "takesTest", "()Z"⟩, 59), (⟨"PoleLogsModel", "factOf", "(I)I"⟩, 59), (⟨"PoleLogsModel", "isDigit", "()Z"⟩, 59), (⟨"PoleLogsModel", "push", "(Z)V"⟩, 59), (⟨"PoleLogsModel", "settle", "(I)V"⟩, 59), (⟨"PoleLogsModel", "findFacts", "(II)V"⟩, 59), (⟨"PoleLogsModel", "fitting", "(III)I"⟩, 59), (⟨"PoleLogsModel", "isSet", "(I)Z"⟩, 59)]
theorem lw_r4 : ∀ q ∈ lw_privs_4, lw_okq q := List.forall_mem_cons.mpr ⟨lw_p48, List.forall_mem_cons.mpr ⟨lw_p49, List.forall_mem_cons.mpr ⟨lw_p50, List.forall_mem_cons.mpr ⟨lw_p51, List.forall_mem_cons.mpr ⟨lw_p52, List.forall_mem_cons.mpr ⟨lw_p53, List.forall_mem_cons.mpr ⟨lw_p54, List.forall_mem_cons.mpr ⟨lw_p55, List.forall_mem_cons.mpr ⟨lw_p56, List.forall_mem_cons.mpr ⟨lw_p57, List.forall_mem_cons.mpr ⟨lw_p58, List.forall_mem_cons.mpr ⟨lw_p59, List.forall_mem_cons.mpr ⟨lw_p60, List.forall_mem_cons.mpr ⟨lw_p61, List.forall_mem_cons.mpr ⟨lw_p62, List.forall_mem_cons.mpr ⟨lw_p63, fun _ h => absurd h List.not_mem_nil⟩⟩⟩⟩⟩⟩⟩⟩⟩⟩⟩⟩⟩⟩⟩⟩
theorem lw_p64 : lw_okq (⟨"PoleLogsModel", "worthOf", "(II)I"⟩, 59) := ⟨⟨by decide +kernel, by decide +kernel⟩, List.mem_of_getElem? (i := 858) (by decide +kernel), List.mem_of_getElem? (i := 1310) (by decide +kernel), List.mem_of_getElem? (i := 1311) (by decide +kernel)⟩
theorem lw_p65 : lw_okq (⟨"PoleLogsModel", "partBy", "(III)I"⟩, 59) := ⟨⟨by decide +kernel, by decide +kernel⟩, List.mem_of_getElem? (i := 858) (by decide +kernel), List.mem_of_getElem? (i := 1314) (by decide +kernel), List.mem_of_getElem? (i := 1315) (by decide +kernel)⟩
theorem lw_p66 : lw_okq (⟨"PoleLogsModel", "ones", "(I)I"⟩, 59) := ⟨⟨by decide +kernel, by decide +kernel⟩, List.mem_of_getElem? (i := 858) (by decide +kernel), List.mem_of_getElem? (i := 1318) (by decide +kernel), List.mem_of_getElem? (i := 1319) (by decide +kernel)⟩
theorem lw_p67 : lw_okq (⟨"PoleLogsModel", "fitsOf", "(II)I"⟩, 59) := ⟨⟨by decide +kernel, by decide +kernel⟩, List.mem_of_getElem? (i := 858) (by decide +kernel), List.mem_of_getElem? (i := 1334) (by decide +kernel), List.mem_of_getElem? (i := 1335) (by decide +kernel)⟩
theorem lw_p68 : lw_okq (⟨"PoleLogsModel", "heightFits", "(II)I"⟩, 59) := ⟨⟨by decide +kernel, by decide +kernel⟩, List.mem_of_getElem? (i := 858) (by decide +kernel), List.mem_of_getElem? (i := 1338) (by decide +kernel), List.mem_of_getElem? (i := 1339) (by decide +kernel)⟩
theorem lw_p69 : lw_okq (⟨"PoleLogsModel", "body", "(I)V"⟩, 59) := ⟨⟨by decide +kernel, by decide +kernel⟩, List.mem_of_getElem? (i := 858) (by decide +kernel), List.mem_of_getElem? (i := 1342) (by decide +kernel), List.mem_of_getElem? (i := 1343) (by decide +kernel)⟩
theorem lw_p70 : lw_okq (⟨"PoleLogsModel", "plainFits", "(II)I"⟩, 59) := ⟨⟨by decide +kernel, by decide +kernel⟩, List.mem_of_getElem? (i := 858) (by decide +kernel), List.mem_of_getElem? (i := 1346) (by decide +kernel), List.mem_of_getElem? (i := 1347) (by decide +kernel)⟩
theorem lw_p71 : lw_okq (⟨"PoleLogsModel", "hangsOf", "(II)I"⟩, 59) := ⟨⟨by decide +kernel, by decide +kernel⟩, List.mem_of_getElem? (i := 858) (by decide +kernel), List.mem_of_getElem? (i := 1350) (by decide +kernel), List.mem_of_getElem? (i := 1351) (by decide +kernel)⟩
theorem lw_p72 : lw_okq (⟨"PoleLogsModel", "plainHangs", "(II)I"⟩, 59) := ⟨⟨by decide +kernel, by decide +kernel⟩, List.mem_of_getElem? (i := 858) (by decide +kernel), List.mem_of_getElem? (i := 1354) (by decide +kernel), List.mem_of_getElem? (i := 1355) (by decide +kernel)⟩
theorem lw_p73 : lw_okq (⟨"PoleLogsModel", "showsOf", "(II)I"⟩, 59) := ⟨⟨by decide +kernel, by decide +kernel⟩, List.mem_of_getElem? (i := 858) (by decide +kernel), List.mem_of_getElem? (i := 1358) (by decide +kernel), List.mem_of_getElem? (i := 1359) (by decide +kernel)⟩
theorem lw_p74 : lw_okq (⟨"PoleLogsModel", "heightShows", "(II)I"⟩, 59) := ⟨⟨by decide +kernel, by decide +kernel⟩, List.mem_of_getElem? (i := 858) (by decide +kernel), List.mem_of_getElem? (i := 1362) (by decide +kernel), List.mem_of_getElem? (i := 1363) (by decide +kernel)⟩
theorem lw_p75 : lw_okq (⟨"PoleLogsModel", "plainShows", "(II)I"⟩, 59) := ⟨⟨by decide +kernel, by decide +kernel⟩, List.mem_of_getElem? (i := 858) (by decide +kernel), List.mem_of_getElem? (i := 1366) (by decide +kernel), List.mem_of_getElem? (i := 1367) (by decide +kernel)⟩
def lw_privs_5 : List (MethodName × Nat) := [(⟨"PoleLogsModel", "worthOf", "(II)I"⟩, 59), (⟨"PoleLogsModel", "partBy", "(III)I"⟩, 59), (⟨"PoleLogsModel", "ones", "(I)I"⟩, 59), (⟨"PoleLogsModel", "fitsOf", "(II)I"⟩, 59), (⟨"PoleLogsModel", "heightFits", "(II)I"⟩, 59), (⟨"PoleLogsModel", "body", "(I)V"⟩, 59), (⟨"PoleLogsModel", "plainFits", "(II)I"⟩, 59), (⟨"PoleLogsModel", "hangsOf", "(II)I"⟩, 59), (⟨"PoleLogsModel", "plainHangs", "(II)I"⟩, 59), (⟨"PoleLogsModel", "showsOf", "(II)I"⟩, 59), (⟨"PoleLogsModel", "heightShows", "(II)I"⟩, 59), (⟨"PoleLogsModel", "plainShows", "(II)I"⟩, 59)]
theorem lw_r5 : ∀ q ∈ lw_privs_5, lw_okq q := List.forall_mem_cons.mpr ⟨lw_p64, List.forall_mem_cons.mpr ⟨lw_p65, List.forall_mem_cons.mpr ⟨lw_p66, List.forall_mem_cons.mpr ⟨lw_p67, List.forall_mem_cons.mpr ⟨lw_p68, List.forall_mem_cons.mpr ⟨lw_p69, List.forall_mem_cons.mpr ⟨lw_p70, List.forall_mem_cons.mpr ⟨lw_p71, List.forall_mem_cons.mpr ⟨lw_p72, List.forall_mem_cons.mpr ⟨lw_p73, List.forall_mem_cons.mpr ⟨lw_p74, List.forall_mem_cons.mpr ⟨lw_p75, fun _ h => absurd h List.not_mem_nil⟩⟩⟩⟩⟩⟩⟩⟩⟩⟩⟩⟩
def lw_privs : List (MethodName × Nat) := lw_privs_1 ++ (lw_privs_2 ++ (lw_privs_3 ++ (lw_privs_4 ++ (lw_privs_5))))
def lw_tbl : List Cond := k2_sels lw_privs ++ tables_1
theorem lw_privs_ok : ∀ q ∈ lw_privs, lw_okq q := by
  show ∀ q ∈ lw_privs_1 ++ (lw_privs_2 ++ (lw_privs_3 ++ (lw_privs_4 ++ (lw_privs_5)))), lw_okq q
  exact List.forall_mem_append.mpr ⟨lw_r1, List.forall_mem_append.mpr ⟨lw_r2, List.forall_mem_append.mpr ⟨lw_r3, List.forall_mem_append.mpr ⟨lw_r4, lw_r5⟩⟩⟩⟩
end
section
def RX0 : String := "PoleLogs$Acts"
def TX0 : u_T := fun k => match k with
  | 0 => ("PoleLogs$Acts", "kept", "[I", true)
  | _ => ("PoleLogs$Acts", "ran", "I", false)
def tyX0 : Nat → FieldType := fun k => match k with
  | 0 => .array .int
  | _ => .int
theorem nmX0 : ∀ a, a < 2 → ∀ b, b < 2 → a ≠ b → (TX0 a).2.1 ≠ (TX0 b).2.1 := by decide +kernel
theorem tyX0_ok : ∀ k, k < 2 → parseFieldDescriptor (TX0 k).2.2.1 = some (tyX0 k) := by decide +kernel
abbrev cX0_init : ByteArray := prog_2_method_1_code
def yX0_init : MethodName := ⟨RX0, "<init>", "()V"⟩
abbrev cX0_perform : ByteArray := prog_2_method_2_code
def yX0_perform : MethodName := ⟨RX0, "perform", "(LPoleLogs$Row;II)I"⟩
abbrev cX0_from : ByteArray := prog_2_method_3_code
def yX0_from : MethodName := ⟨RX0, "from", "(IILPoleLogs$Row;II)I"⟩
abbrev cX0_run : ByteArray := prog_2_method_4_code
def yX0_run : MethodName := ⟨RX0, "run", "(IILPoleLogs$Row;II)I"⟩
def RX1 : String := "PoleLogs$Almanac"
def TX1 : u_T := fun k => match k with
  | 0 => ("PoleLogs$Almanac", "suns", "[I", true)
  | _ => ("PoleLogs$Almanac", "misprints", "[I", true)
def tyX1 : Nat → FieldType := fun k => match k with
  | 0 => .array .int
  | _ => .array .int
theorem nmX1 : ∀ a, a < 2 → ∀ b, b < 2 → a ≠ b → (TX1 a).2.1 ≠ (TX1 b).2.1 := by decide +kernel
theorem tyX1_ok : ∀ k, k < 2 → parseFieldDescriptor (TX1 k).2.2.1 = some (tyX1 k) := by decide +kernel
abbrev cX1_init : ByteArray := prog_3_method_1_code
def yX1_init : MethodName := ⟨RX1, "<init>", "()V"⟩
abbrev cX1_misprintCount : ByteArray := prog_3_method_2_code
def yX1_misprintCount : MethodName := ⟨RX1, "misprintCount", "()I"⟩
abbrev cX1_showsSun : ByteArray := prog_3_method_3_code
def yX1_showsSun : MethodName := ⟨RX1, "showsSun", "(LPoleLogs$Row;I)Z"⟩
abbrev cX1_showsMisprint : ByteArray := prog_3_method_4_code
def yX1_showsMisprint : MethodName := ⟨RX1, "showsMisprint", "(LPoleLogs$Row;I)Z"⟩
def RX2 : String := "PoleLogs$Ice"
def TX2 : u_T := fun k => match k with
  | 0 => ("PoleLogs$Ice", "driftX", "[I", true)
  | 1 => ("PoleLogs$Ice", "driftY", "[I", true)
  | 2 => ("PoleLogs$Ice", "ridge", "[I", true)
  | _ => ("PoleLogs$Ice", "turn", "[I", true)
def tyX2 : Nat → FieldType := fun k => match k with
  | 0 => .array .int
  | 1 => .array .int
  | 2 => .array .int
  | _ => .array .int
theorem nmX2 : ∀ a, a < 4 → ∀ b, b < 4 → a ≠ b → (TX2 a).2.1 ≠ (TX2 b).2.1 := by decide +kernel
theorem tyX2_ok : ∀ k, k < 4 → parseFieldDescriptor (TX2 k).2.2.1 = some (tyX2 k) := by decide +kernel
abbrev cX2_init : ByteArray := prog_4_method_1_code
def yX2_init : MethodName := ⟨RX2, "<init>", "()V"⟩
def RX3 : String := "PoleLogs$Law"
def TX3 : u_T := fun k => match k with
  | 0 => ("PoleLogs$Law", "committee", "I", true)
  | 1 => ("PoleLogs$Law", "year", "I", true)
  | _ => ("PoleLogs$Law", "text", "[I", true)
def tyX3 : Nat → FieldType := fun k => match k with
  | 0 => .int
  | 1 => .int
  | _ => .array .int
theorem nmX3 : ∀ a, a < 3 → ∀ b, b < 3 → a ≠ b → (TX3 a).2.1 ≠ (TX3 b).2.1 := by decide +kernel
theorem tyX3_ok : ∀ k, k < 3 → parseFieldDescriptor (TX3 k).2.2.1 = some (tyX3 k) := by decide +kernel
abbrev cX3_init : ByteArray := prog_5_method_1_code
def yX3_init : MethodName := ⟨RX3, "<init>", "(II[I)V"⟩
def RX4 : String := "PoleLogs$Log"
def TX4 : u_T := fun k => match k with
  | 0 => ("PoleLogs$Log", "strength", "I", false)
  | 1 => ("PoleLogs$Log", "skill", "I", false)
  | 2 => ("PoleLogs$Log", "dogs", "I", false)
  | 3 => ("PoleLogs$Log", "load", "I", false)
  | 4 => ("PoleLogs$Log", "startX", "I", false)
  | 5 => ("PoleLogs$Log", "startY", "I", false)
  | 6 => ("PoleLogs$Log", "claimX", "I", false)
  | 7 => ("PoleLogs$Log", "claimY", "I", false)
  | 8 => ("PoleLogs$Log", "claimDay", "I", false)
  | _ => ("PoleLogs$Log", "marches", "[LPoleLogs$Row;", true)
def tyX4 : Nat → FieldType := fun k => match k with
  | 0 => .int
  | 1 => .int
  | 2 => .int
  | 3 => .int
  | 4 => .int
  | 5 => .int
  | 6 => .int
  | 7 => .int
  | 8 => .int
  | _ => .array (.object "PoleLogs$Row")
theorem nmX4 : ∀ a, a < 10 → ∀ b, b < 10 → a ≠ b → (TX4 a).2.1 ≠ (TX4 b).2.1 := by decide +kernel
theorem tyX4_ok : ∀ k, k < 10 → parseFieldDescriptor (TX4 k).2.2.1 = some (tyX4 k) := by decide +kernel
abbrev cX4_init : ByteArray := prog_6_method_1_code
def yX4_init : MethodName := ⟨RX4, "<init>", "()V"⟩
abbrev cX4_hasClaim : ByteArray := prog_6_method_2_code
def yX4_hasClaim : MethodName := ⟨RX4, "hasClaim", "()Z"⟩
abbrev cX4_claimLatitude : ByteArray := prog_6_method_3_code
def yX4_claimLatitude : MethodName := ⟨RX4, "claimLatitude", "()I"⟩
abbrev cX4_milesOver : ByteArray := prog_6_method_4_code
def yX4_milesOver : MethodName := ⟨RX4, "milesOver", "(I)I"⟩
def RX5 : String := "PoleLogs$Looks"
def TX5 : u_T := fun k => match k with
  | 0 => ("PoleLogs$Looks", "parts", "[I", true)
  | 1 => ("PoleLogs$Looks", "left", "[I", true)
  | _ => ("PoleLogs$Looks", "size", "I", false)
def tyX5 : Nat → FieldType := fun k => match k with
  | 0 => .array .int
  | 1 => .array .int
  | _ => .int
theorem nmX5 : ∀ a, a < 3 → ∀ b, b < 3 → a ≠ b → (TX5 a).2.1 ≠ (TX5 b).2.1 := by decide +kernel
theorem tyX5_ok : ∀ k, k < 3 → parseFieldDescriptor (TX5 k).2.2.1 = some (tyX5 k) := by decide +kernel
abbrev cX5_init : ByteArray := prog_7_method_1_code
def yX5_init : MethodName := ⟨RX5, "<init>", "()V"⟩
abbrev cX5_add : ByteArray := prog_7_method_2_code
def yX5_add : MethodName := ⟨RX5, "add", "(I)I"⟩
abbrev cX5_leftBehind : ByteArray := prog_7_method_3_code
def yX5_leftBehind : MethodName := ⟨RX5, "leftBehind", "(II)I"⟩
abbrev cX5_greatestPart : ByteArray := prog_7_method_4_code
def yX5_greatestPart : MethodName := ⟨RX5, "greatestPart", "(II)I"⟩
abbrev cX5_best : ByteArray := prog_7_method_5_code
def yX5_best : MethodName := ⟨RX5, "best", "(I)I"⟩
def RX6 : String := "PoleLogs$Reader"
def TX6 : u_T := fun k => match k with
  | 0 => ("PoleLogs$Reader", "values", "[I", true)
  | 1 => ("PoleLogs$Reader", "text", "[I", false)
  | 2 => ("PoleLogs$Reader", "length", "I", false)
  | 3 => ("PoleLogs$Reader", "at", "I", false)
  | _ => ("PoleLogs$Reader", "faulty", "Z", false)
def tyX6 : Nat → FieldType := fun k => match k with
  | 0 => .array .int
  | 1 => .array .int
  | 2 => .int
  | 3 => .int
  | _ => .boolean
theorem nmX6 : ∀ a, a < 5 → ∀ b, b < 5 → a ≠ b → (TX6 a).2.1 ≠ (TX6 b).2.1 := by decide +kernel
theorem tyX6_ok : ∀ k, k < 5 → parseFieldDescriptor (TX6 k).2.2.1 = some (tyX6 k) := by decide +kernel
abbrev cX6_init : ByteArray := prog_8_method_1_code
def yX6_init : MethodName := ⟨RX6, "<init>", "()V"⟩
abbrev cX6_faultOf : ByteArray := prog_8_method_2_code
def yX6_faultOf : MethodName := ⟨RX6, "faultOf", "([II)I"⟩
abbrev cX6_holds : ByteArray := prog_8_method_3_code
def yX6_holds : MethodName := ⟨RX6, "holds", "([I)Z"⟩
abbrev cX6_readAll : ByteArray := prog_8_method_4_code
def yX6_readAll : MethodName := ⟨RX6, "readAll", "([II)Z"⟩
abbrev cX6_coming : ByteArray := prog_8_method_5_code
def yX6_coming : MethodName := ⟨RX6, "coming", "()I"⟩
abbrev cX6_either : ByteArray := prog_8_method_6_code
def yX6_either : MethodName := ⟨RX6, "either", "(I)Z"⟩
abbrev cX6_both : ByteArray := prog_8_method_7_code
def yX6_both : MethodName := ⟨RX6, "both", "(I)Z"⟩
abbrev cX6_one : ByteArray := prog_8_method_8_code
def yX6_one : MethodName := ⟨RX6, "one", "(I)Z"⟩
abbrev cX6_test : ByteArray := prog_8_method_9_code
def yX6_test : MethodName := ⟨RX6, "test", "()Z"⟩
abbrev cX6_number : ByteArray := prog_8_method_10_code
def yX6_number : MethodName := ⟨RX6, "number", "()I"⟩
abbrev cX6_letterAt : ByteArray := prog_8_method_11_code
def yX6_letterAt : MethodName := ⟨RX6, "letterAt", "(I)I"⟩
def RX7 : String := "PoleLogs$Row"
def TX7 : u_T := fun k => match k with
  | 0 => ("PoleLogs$Row", "number", "I", true)
  | 1 => ("PoleLogs$Row", "log", "I", true)
  | 2 => ("PoleLogs$Row", "day", "I", true)
  | 3 => ("PoleLogs$Row", "kind", "I", true)
  | 4 => ("PoleLogs$Row", "year", "I", true)
  | 5 => ("PoleLogs$Row", "first", "I", false)
  | 6 => ("PoleLogs$Row", "second", "I", false)
  | 7 => ("PoleLogs$Row", "third", "I", false)
  | _ => ("PoleLogs$Row", "fourth", "I", false)
def tyX7 : Nat → FieldType := fun k => match k with
  | 0 => .int
  | 1 => .int
  | 2 => .int
  | 3 => .int
  | 4 => .int
  | 5 => .int
  | 6 => .int
  | 7 => .int
  | _ => .int
theorem nmX7 : ∀ a, a < 9 → ∀ b, b < 9 → a ≠ b → (TX7 a).2.1 ≠ (TX7 b).2.1 := by decide +kernel
theorem tyX7_ok : ∀ k, k < 9 → parseFieldDescriptor (TX7 k).2.2.1 = some (tyX7 k) := by decide +kernel
abbrev cX7_init : ByteArray := prog_9_method_1_code
def yX7_init : MethodName := ⟨RX7, "<init>", "(IIIII)V"⟩
abbrev cX7_isOf : ByteArray := prog_9_method_2_code
def yX7_isOf : MethodName := ⟨RX7, "isOf", "(II)Z"⟩
abbrev cX7_isHeightOf : ByteArray := prog_9_method_3_code
def yX7_isHeightOf : MethodName := ⟨RX7, "isHeightOf", "(II)Z"⟩
abbrev cX7_quarrelsWith : ByteArray := prog_9_method_4_code
def yX7_quarrelsWith : MethodName := ⟨RX7, "quarrelsWith", "(LPoleLogs$Row;)Z"⟩
abbrev cX7_miles : ByteArray := prog_9_method_5_code
def yX7_miles : MethodName := ⟨RX7, "miles", "()I"⟩
def RX8 : String := "PoleLogs$Tape"
def TX8 : u_T := fun k => match k with
  | 0 => ("PoleLogs$Tape", "sort", "I", false)
  | 1 => ("PoleLogs$Tape", "size", "I", false)
  | _ => ("PoleLogs$Tape", "items", "[I", true)
def tyX8 : Nat → FieldType := fun k => match k with
  | 0 => .int
  | 1 => .int
  | _ => .array .int
theorem nmX8 : ∀ a, a < 3 → ∀ b, b < 3 → a ≠ b → (TX8 a).2.1 ≠ (TX8 b).2.1 := by decide +kernel
theorem tyX8_ok : ∀ k, k < 3 → parseFieldDescriptor (TX8 k).2.2.1 = some (tyX8 k) := by decide +kernel
abbrev cX8_init : ByteArray := prog_10_method_1_code
def yX8_init : MethodName := ⟨RX8, "<init>", "()V"⟩
abbrev cX8_become : ByteArray := prog_10_method_2_code
def yX8_become : MethodName := ⟨RX8, "become", "(II)V"⟩
abbrev cX8_has : ByteArray := prog_10_method_3_code
def yX8_has : MethodName := ⟨RX8, "has", "(I)Z"⟩
abbrev cX8_spans : ByteArray := prog_10_method_4_code
def yX8_spans : MethodName := ⟨RX8, "spans", "(II)Z"⟩
abbrev cX8_asItem : ByteArray := prog_10_method_5_code
def yX8_asItem : MethodName := ⟨RX8, "asItem", "(I)I"⟩
def RX9 : String := "PoleLogs$Way"
def TX9 : u_T := fun k => match k with
  | 0 => ("PoleLogs$Way", "ground", "LPoleLogs$Ice;", true)
  | 1 => ("PoleLogs$Way", "log", "LPoleLogs$Log;", false)
  | 2 => ("PoleLogs$Way", "year", "I", false)
  | 3 => ("PoleLogs$Way", "xs", "[I", true)
  | _ => ("PoleLogs$Way", "ys", "[I", true)
def tyX9 : Nat → FieldType := fun k => match k with
  | 0 => .object "PoleLogs$Ice"
  | 1 => .object "PoleLogs$Log"
  | 2 => .int
  | 3 => .array .int
  | _ => .array .int
theorem nmX9 : ∀ a, a < 5 → ∀ b, b < 5 → a ≠ b → (TX9 a).2.1 ≠ (TX9 b).2.1 := by decide +kernel
theorem tyX9_ok : ∀ k, k < 5 → parseFieldDescriptor (TX9 k).2.2.1 = some (tyX9 k) := by decide +kernel
abbrev cX9_init : ByteArray := prog_11_method_1_code
def yX9_init : MethodName := ⟨RX9, "<init>", "(LPoleLogs$Ice;LPoleLogs$Log;)V"⟩
abbrev cX9_walk : ByteArray := prog_11_method_2_code
def yX9_walk : MethodName := ⟨RX9, "walk", "(LPoleLogs$Log;II)V"⟩
abbrev cX9_marchOf : ByteArray := prog_11_method_3_code
def yX9_marchOf : MethodName := ⟨RX9, "marchOf", "(I)LPoleLogs$Row;"⟩
abbrev cX9_xBehind : ByteArray := prog_11_method_4_code
def yX9_xBehind : MethodName := ⟨RX9, "xBehind", "(I)I"⟩
abbrev cX9_yBehind : ByteArray := prog_11_method_5_code
def yX9_yBehind : MethodName := ⟨RX9, "yBehind", "(I)I"⟩
abbrev cX9_cellBehind : ByteArray := prog_11_method_6_code
def yX9_cellBehind : MethodName := ⟨RX9, "cellBehind", "(I)I"⟩
abbrev cX9_bearing : ByteArray := prog_11_method_7_code
def yX9_bearing : MethodName := ⟨RX9, "bearing", "(I)I"⟩
abbrev cX9_reach : ByteArray := prog_11_method_8_code
def yX9_reach : MethodName := ⟨RX9, "reach", "(I)I"⟩
abbrev cX9_excess : ByteArray := prog_11_method_9_code
def yX9_excess : MethodName := ⟨RX9, "excess", "(I)I"⟩
def RX10 : String := "PoleLogs"
def TX10 : u_T := fun k => match k with
  | 0 => ("PoleLogs", "ground", "LPoleLogs$Ice;", true)
  | 1 => ("PoleLogs", "almanac", "LPoleLogs$Almanac;", true)
  | 2 => ("PoleLogs", "logs", "[LPoleLogs$Log;", true)
  | 3 => ("PoleLogs", "way", "LPoleLogs$Way;", true)
  | 4 => ("PoleLogs", "rows", "[LPoleLogs$Row;", true)
  | 5 => ("PoleLogs", "strengths", "[I", true)
  | 6 => ("PoleLogs", "skills", "[I", true)
  | 7 => ("PoleLogs", "laws", "[LPoleLogs$Law;", true)
  | 8 => ("PoleLogs", "reader", "LPoleLogs$Reader;", true)
  | 9 => ("PoleLogs", "text", "[I", true)
  | 10 => ("PoleLogs", "looks", "LPoleLogs$Looks;", true)
  | 11 => ("PoleLogs", "acts", "LPoleLogs$Acts;", true)
  | 12 => ("PoleLogs", "tapes", "[LPoleLogs$Tape;", true)
  | 13 => ("PoleLogs", "now", "I", false)
  | 14 => ("PoleLogs", "menCount", "I", false)
  | 15 => ("PoleLogs", "rowCount", "I", false)
  | 16 => ("PoleLogs", "lawCount", "I", false)
  | _ => ("PoleLogs", "textLength", "I", false)
def tyX10 : Nat → FieldType := fun k => match k with
  | 0 => .object "PoleLogs$Ice"
  | 1 => .object "PoleLogs$Almanac"
  | 2 => .array (.object "PoleLogs$Log")
  | 3 => .object "PoleLogs$Way"
  | 4 => .array (.object "PoleLogs$Row")
  | 5 => .array .int
  | 6 => .array .int
  | 7 => .array (.object "PoleLogs$Law")
  | 8 => .object "PoleLogs$Reader"
  | 9 => .array .int
  | 10 => .object "PoleLogs$Looks"
  | 11 => .object "PoleLogs$Acts"
  | 12 => .array (.object "PoleLogs$Tape")
  | 13 => .int
  | 14 => .int
  | 15 => .int
  | 16 => .int
  | _ => .int
theorem nmX10 : ∀ a, a < 18 → ∀ b, b < 18 → a ≠ b → (TX10 a).2.1 ≠ (TX10 b).2.1 := by decide +kernel
theorem tyX10_ok : ∀ k, k < 18 → parseFieldDescriptor (TX10 k).2.2.1 = some (tyX10 k) := by decide +kernel
abbrev cX10_init : ByteArray := prog_1_method_1_code
def yX10_init : MethodName := ⟨RX10, "<init>", "()V"⟩
abbrev cX10_pass : ByteArray := prog_1_method_2_code
def yX10_pass : MethodName := ⟨RX10, "pass", "(I)I"⟩
abbrev cX10_drift : ByteArray := prog_1_method_3_code
def yX10_drift : MethodName := ⟨RX10, "drift", "(III)I"⟩
abbrev cX10_ice : ByteArray := prog_1_method_4_code
def yX10_ice : MethodName := ⟨RX10, "ice", "(III)I"⟩
abbrev cX10_sun : ByteArray := prog_1_method_5_code
def yX10_sun : MethodName := ⟨RX10, "sun", "(II)I"⟩
abbrev cX10_man : ByteArray := prog_1_method_6_code
def yX10_man : MethodName := ⟨RX10, "man", "(II)I"⟩
abbrev cX10_party : ByteArray := prog_1_method_7_code
def yX10_party : MethodName := ⟨RX10, "party", "(IIII)I"⟩
abbrev cX10_start : ByteArray := prog_1_method_8_code
def yX10_start : MethodName := ⟨RX10, "start", "(III)I"⟩
abbrev cX10_claim : ByteArray := prog_1_method_9_code
def yX10_claim : MethodName := ⟨RX10, "claim", "(IIII)I"⟩
abbrev cX10_march : ByteArray := prog_1_method_10_code
def yX10_march : MethodName := ⟨RX10, "march", "(IIIII)I"⟩
abbrev cX10_height : ByteArray := prog_1_method_11_code
def yX10_height : MethodName := ⟨RX10, "height", "(IIIIZ)I"⟩
abbrev cX10_compass : ByteArray := prog_1_method_12_code
def yX10_compass : MethodName := ⟨RX10, "compass", "(III)I"⟩
abbrev cX10_picture : ByteArray := prog_1_method_13_code
def yX10_picture : MethodName := ⟨RX10, "picture", "(IIIII)I"⟩
abbrev cX10_word : ByteArray := prog_1_method_14_code
def yX10_word : MethodName := ⟨RX10, "word", "(IIIIII)I"⟩
abbrev cX10_torn : ByteArray := prog_1_method_15_code
def yX10_torn : MethodName := ⟨RX10, "torn", "(IIIIII)I"⟩
abbrev cX10_of : ByteArray := prog_1_method_16_code
def yX10_of : MethodName := ⟨RX10, "of", "(II)I"⟩
abbrev cX10_fits : ByteArray := prog_1_method_17_code
def yX10_fits : MethodName := ⟨RX10, "fits", "(III)I"⟩
abbrev cX10_place : ByteArray := prog_1_method_18_code
def yX10_place : MethodName := ⟨RX10, "place", "(III)I"⟩
abbrev cX10_can : ByteArray := prog_1_method_19_code
def yX10_can : MethodName := ⟨RX10, "can", "(II)I"⟩
abbrev cX10_beyond : ByteArray := prog_1_method_20_code
def yX10_beyond : MethodName := ⟨RX10, "beyond", "(II)I"⟩
abbrev cX10_latitude : ByteArray := prog_1_method_21_code
def yX10_latitude : MethodName := ⟨RX10, "latitude", "(II)I"⟩
abbrev cX10_quarrel : ByteArray := prog_1_method_22_code
def yX10_quarrel : MethodName := ⟨RX10, "quarrel", "(I)I"⟩
abbrev cX10_home : ByteArray := prog_1_method_23_code
def yX10_home : MethodName := ⟨RX10, "home", "(I)I"⟩
abbrev cX10_needs : ByteArray := prog_1_method_24_code
def yX10_needs : MethodName := ⟨RX10, "needs", "(II)I"⟩
abbrev cX10_held : ByteArray := prog_1_method_25_code
def yX10_held : MethodName := ⟨RX10, "held", "(III)I"⟩
abbrev cX10_falses : ByteArray := prog_1_method_26_code
def yX10_falses : MethodName := ⟨RX10, "falses", "(IIII)I"⟩
abbrev cX10_least : ByteArray := prog_1_method_27_code
def yX10_least : MethodName := ⟨RX10, "least", "(III)I"⟩
abbrev cX10_misprint : ByteArray := prog_1_method_28_code
def yX10_misprint : MethodName := ⟨RX10, "misprint", "(II)I"⟩
abbrev cX10_made : ByteArray := prog_1_method_29_code
def yX10_made : MethodName := ⟨RX10, "made", "(II)I"⟩
abbrev cX10_feed : ByteArray := prog_1_method_30_code
def yX10_feed : MethodName := ⟨RX10, "feed", "(II)I"⟩
abbrev cX10_law : ByteArray := prog_1_method_31_code
def yX10_law : MethodName := ⟨RX10, "law", "(II)I"⟩
abbrev cX10_says : ByteArray := prog_1_method_32_code
def yX10_says : MethodName := ⟨RX10, "says", "(III)I"⟩
abbrev cX10_look : ByteArray := prog_1_method_33_code
def yX10_look : MethodName := ⟨RX10, "look", "(I)I"⟩
abbrev cX10_worth : ByteArray := prog_1_method_34_code
def yX10_worth : MethodName := ⟨RX10, "worth", "(II)I"⟩
abbrev cX10_next : ByteArray := prog_1_method_35_code
def yX10_next : MethodName := ⟨RX10, "next", "(I)I"⟩
abbrev cX10_worst : ByteArray := prog_1_method_36_code
def yX10_worst : MethodName := ⟨RX10, "worst", "(II)I"⟩
abbrev cX10_act : ByteArray := prog_1_method_37_code
def yX10_act : MethodName := ⟨RX10, "act", "(III)I"⟩
abbrev cX10_trace : ByteArray := prog_1_method_38_code
def yX10_trace : MethodName := ⟨RX10, "trace", "(I)I"⟩
abbrev cX10_taken : ByteArray := prog_1_method_39_code
def yX10_taken : MethodName := ⟨RX10, "taken", "(II)I"⟩
abbrev cX10_count : ByteArray := prog_1_method_40_code
def yX10_count : MethodName := ⟨RX10, "count", "(I)I"⟩
abbrev cX10_tape : ByteArray := prog_1_method_41_code
def yX10_tape : MethodName := ⟨RX10, "tape", "(III)I"⟩
abbrev cX10_item : ByteArray := prog_1_method_42_code
def yX10_item : MethodName := ⟨RX10, "item", "(III)I"⟩
abbrev cX10_read : ByteArray := prog_1_method_43_code
def yX10_read : MethodName := ⟨RX10, "read", "(II)I"⟩
abbrev cX10_shift : ByteArray := prog_1_method_44_code
def yX10_shift : MethodName := ⟨RX10, "shift", "(IIIII)I"⟩
abbrev cX10_within : ByteArray := prog_1_method_45_code
def yX10_within : MethodName := ⟨RX10, "within", "(III)Z"⟩
abbrev cX10_isLog : ByteArray := prog_1_method_46_code
def yX10_isLog : MethodName := ⟨RX10, "isLog", "(I)Z"⟩
abbrev cX10_isDay : ByteArray := prog_1_method_47_code
def yX10_isDay : MethodName := ⟨RX10, "isDay", "(I)Z"⟩
abbrev cX10_isYear : ByteArray := prog_1_method_48_code
def yX10_isYear : MethodName := ⟨RX10, "isYear", "(I)Z"⟩
abbrev cX10_isPlace : ByteArray := prog_1_method_49_code
def yX10_isPlace : MethodName := ⟨RX10, "isPlace", "(II)Z"⟩
abbrev cX10_isHeight : ByteArray := prog_1_method_50_code
def yX10_isHeight : MethodName := ⟨RX10, "isHeight", "(I)Z"⟩
abbrev cX10_isNearness : ByteArray := prog_1_method_51_code
def yX10_isNearness : MethodName := ⟨RX10, "isNearness", "(I)Z"⟩
abbrev cX10_isSet : ByteArray := prog_1_method_52_code
def yX10_isSet : MethodName := ⟨RX10, "isSet", "(I)Z"⟩
abbrev cX10_isTape : ByteArray := prog_1_method_53_code
def yX10_isTape : MethodName := ⟨RX10, "isTape", "(I)Z"⟩
abbrev cX10_isRow : ByteArray := prog_1_method_54_code
def yX10_isRow : MethodName := ⟨RX10, "isRow", "(I)Z"⟩
abbrev cX10_isUnder : ByteArray := prog_1_method_55_code
def yX10_isUnder : MethodName := ⟨RX10, "isUnder", "(II)Z"⟩
abbrev cX10_clamped : ByteArray := prog_1_method_56_code
def yX10_clamped : MethodName := ⟨RX10, "clamped", "(I)I"⟩
abbrev cX10_cellOf : ByteArray := prog_1_method_57_code
def yX10_cellOf : MethodName := ⟨RX10, "cellOf", "(II)I"⟩
abbrev cX10_latitudeOf : ByteArray := prog_1_method_58_code
def yX10_latitudeOf : MethodName := ⟨RX10, "latitudeOf", "(II)I"⟩
abbrev cX10_addRow : ByteArray := prog_1_method_59_code
def yX10_addRow : MethodName := ⟨RX10, "addRow", "(III)LPoleLogs$Row;"⟩
abbrev cX10_addHeight : ByteArray := prog_1_method_60_code
def yX10_addHeight : MethodName := ⟨RX10, "addHeight", "(IIIII)I"⟩
abbrev cX10_sumOf : ByteArray := prog_1_method_61_code
def yX10_sumOf : MethodName := ⟨RX10, "sumOf", "([II)I"⟩
abbrev cX10_agrees : ByteArray := prog_1_method_62_code
def yX10_agrees : MethodName := ⟨RX10, "agrees", "(LPoleLogs$Row;II)Z"⟩
abbrev cX10_heightAgrees : ByteArray := prog_1_method_63_code
def yX10_heightAgrees : MethodName := ⟨RX10, "heightAgrees", "(LPoleLogs$Row;I)Z"⟩
abbrev cX10_pictureAgrees : ByteArray := prog_1_method_64_code
def yX10_pictureAgrees : MethodName := ⟨RX10, "pictureAgrees", "(LPoleLogs$Row;I)Z"⟩
abbrev cX10_driftNeededX : ByteArray := prog_1_method_65_code
def yX10_driftNeededX : MethodName := ⟨RX10, "driftNeededX", "(LPoleLogs$Log;)I"⟩
abbrev cX10_driftNeededY : ByteArray := prog_1_method_66_code
def yX10_driftNeededY : MethodName := ⟨RX10, "driftNeededY", "(LPoleLogs$Log;)I"⟩
abbrev cX10_quarrelBy : ByteArray := prog_1_method_67_code
def yX10_quarrelBy : MethodName := ⟨RX10, "quarrelBy", "(II)I"⟩
abbrev cX10_storyX : ByteArray := prog_1_method_68_code
def yX10_storyX : MethodName := ⟨RX10, "storyX", "(ILPoleLogs$Log;I)I"⟩
abbrev cX10_storyY : ByteArray := prog_1_method_69_code
def yX10_storyY : MethodName := ⟨RX10, "storyY", "(ILPoleLogs$Log;II)I"⟩
abbrev cX10_agreesInStory : ByteArray := prog_1_method_70_code
def yX10_agreesInStory : MethodName := ⟨RX10, "agreesInStory", "(LPoleLogs$Row;II)Z"⟩
abbrev cX10_falseRows : ByteArray := prog_1_method_71_code
def yX10_falseRows : MethodName := ⟨RX10, "falseRows", "(III)I"⟩
abbrev cX10_showingMisprint : ByteArray := prog_1_method_72_code
def yX10_showingMisprint : MethodName := ⟨RX10, "showingMisprint", "(I)I"⟩
abbrev cX10_madeAtHome : ByteArray := prog_1_method_73_code
def yX10_madeAtHome : MethodName := ⟨RX10, "madeAtHome", "(II)I"⟩
abbrev cX10_lawIn : ByteArray := prog_1_method_74_code
def yX10_lawIn : MethodName := ⟨RX10, "lawIn", "(II)LPoleLogs$Law;"⟩
abbrev cX10_tally : ByteArray := prog_1_method_75_code
def yX10_tally : MethodName := ⟨RX10, "tally", "(II[I)V"⟩
abbrev cX10_letterOf : ByteArray := prog_1_method_76_code
def yX10_letterOf : MethodName := ⟨RX10, "letterOf", "(I)I"⟩
def RX11 : String := "PoleLogsModel"
def TX11 : u_T := fun k => match k with
  | 0 => ("PoleLogsModel", "now", "I", false)
  | 1 => ("PoleLogsModel", "men", "I", false)
  | 2 => ("PoleLogsModel", "thousandth", "[I", true)
  | 3 => ("PoleLogsModel", "driftX", "[I", true)
  | 4 => ("PoleLogsModel", "driftY", "[I", true)
  | 5 => ("PoleLogsModel", "ridge", "[I", true)
  | 6 => ("PoleLogsModel", "turn", "[I", true)
  | 7 => ("PoleLogsModel", "sun", "[I", true)
  | 8 => ("PoleLogsModel", "strength", "[I", true)
  | 9 => ("PoleLogsModel", "skill", "[I", true)
  | 10 => ("PoleLogsModel", "partyOf", "[I", true)
  | 11 => ("PoleLogsModel", "dogsOf", "[I", true)
  | 12 => ("PoleLogsModel", "loadOf", "[I", true)
  | 13 => ("PoleLogsModel", "startX", "[I", true)
  | 14 => ("PoleLogsModel", "startY", "[I", true)
  | 15 => ("PoleLogsModel", "claimX", "[I", true)
  | 16 => ("PoleLogsModel", "claimY", "[I", true)
  | 17 => ("PoleLogsModel", "claimDay", "[I", true)
  | 18 => ("PoleLogsModel", "rows", "I", false)
  | 19 => ("PoleLogsModel", "kind", "[I", true)
  | 20 => ("PoleLogsModel", "log", "[I", true)
  | 21 => ("PoleLogsModel", "day", "[I", true)
  | 22 => ("PoleLogsModel", "year", "[I", true)
  | 23 => ("PoleLogsModel", "first", "[I", true)
  | 24 => ("PoleLogsModel", "second", "[I", true)
  | 25 => ("PoleLogsModel", "third", "[I", true)
  | 26 => ("PoleLogsModel", "fourth", "[I", true)
  | 27 => ("PoleLogsModel", "wayX", "[I", true)
  | 28 => ("PoleLogsModel", "wayY", "[I", true)
  | 29 => ("PoleLogsModel", "needX", "I", false)
  | 30 => ("PoleLogsModel", "needY", "I", false)
  | 31 => ("PoleLogsModel", "storyX", "I", false)
  | 32 => ("PoleLogsModel", "storyY", "I", false)
  | 33 => ("PoleLogsModel", "printed", "[I", true)
  | 34 => ("PoleLogsModel", "misprints", "I", false)
  | 35 => ("PoleLogsModel", "laws", "I", false)
  | 36 => ("PoleLogsModel", "fed", "I", false)
  | 37 => ("PoleLogsModel", "lawOf", "[I", true)
  | 38 => ("PoleLogsModel", "lawYear", "[I", true)
  | 39 => ("PoleLogsModel", "text", "[I", true)
  | 40 => ("PoleLogsModel", "size", "[I", true)
  | 41 => ("PoleLogsModel", "facts", "[I", true)
  | 42 => ("PoleLogsModel", "base", "I", false)
  | 43 => ("PoleLogsModel", "many", "I", false)
  | 44 => ("PoleLogsModel", "at", "I", false)
  | 45 => ("PoleLogsModel", "waits", "[I", true)
  | 46 => ("PoleLogsModel", "pile", "[Z", true)
  | 47 => ("PoleLogsModel", "waiting", "I", false)
  | 48 => ("PoleLogsModel", "piled", "I", false)
  | 49 => ("PoleLogsModel", "open", "I", false)
  | 50 => ("PoleLogsModel", "looks", "I", false)
  | 51 => ("PoleLogsModel", "answers", "[I", true)
  | 52 => ("PoleLogsModel", "worstOf", "[I", true)
  | 53 => ("PoleLogsModel", "ran", "I", false)
  | 54 => ("PoleLogsModel", "bodies", "[I", true)
  | 55 => ("PoleLogsModel", "sort", "[I", true)
  | 56 => ("PoleLogsModel", "length", "[I", true)
  | 57 => ("PoleLogsModel", "item", "[I", true)
  | _ => ("PoleLogsModel", "aside", "[I", true)
def tyX11 : Nat → FieldType := fun k => match k with
  | 0 => .int
  | 1 => .int
  | 2 => .array .int
  | 3 => .array .int
  | 4 => .array .int
  | 5 => .array .int
  | 6 => .array .int
  | 7 => .array .int
  | 8 => .array .int
  | 9 => .array .int
  | 10 => .array .int
  | 11 => .array .int
  | 12 => .array .int
  | 13 => .array .int
  | 14 => .array .int
  | 15 => .array .int
  | 16 => .array .int
  | 17 => .array .int
  | 18 => .int
  | 19 => .array .int
  | 20 => .array .int
  | 21 => .array .int
  | 22 => .array .int
  | 23 => .array .int
  | 24 => .array .int
  | 25 => .array .int
  | 26 => .array .int
  | 27 => .array .int
  | 28 => .array .int
  | 29 => .int
  | 30 => .int
  | 31 => .int
  | 32 => .int
  | 33 => .array .int
  | 34 => .int
  | 35 => .int
  | 36 => .int
  | 37 => .array .int
  | 38 => .array .int
  | 39 => .array .int
  | 40 => .array .int
  | 41 => .array .int
  | 42 => .int
  | 43 => .int
  | 44 => .int
  | 45 => .array .int
  | 46 => .array .boolean
  | 47 => .int
  | 48 => .int
  | 49 => .int
  | 50 => .int
  | 51 => .array .int
  | 52 => .array .int
  | 53 => .int
  | 54 => .array .int
  | 55 => .array .int
  | 56 => .array .int
  | 57 => .array .int
  | _ => .array .int
theorem nmX11 : ∀ a, a < 59 → ∀ b, b < 59 → a ≠ b → (TX11 a).2.1 ≠ (TX11 b).2.1 := by decide +kernel
theorem tyX11_ok : ∀ k, k < 59 → parseFieldDescriptor (TX11 k).2.2.1 = some (tyX11 k) := by decide +kernel
abbrev cX11_in : ByteArray := prog_13_method_1_code
def yX11_in : MethodName := ⟨RX11, "in", "(III)Z"⟩
abbrev cX11_abs : ByteArray := prog_13_method_2_code
def yX11_abs : MethodName := ⟨RX11, "abs", "(I)I"⟩
abbrev cX11_keep : ByteArray := prog_13_method_3_code
def yX11_keep : MethodName := ⟨RX11, "keep", "(I)I"⟩
abbrev cX11_isLog : ByteArray := prog_13_method_4_code
def yX11_isLog : MethodName := ⟨RX11, "isLog", "(I)Z"⟩
abbrev cX11_isDay : ByteArray := prog_13_method_5_code
def yX11_isDay : MethodName := ⟨RX11, "isDay", "(I)Z"⟩
abbrev cX11_isYear : ByteArray := prog_13_method_6_code
def yX11_isYear : MethodName := ⟨RX11, "isYear", "(I)Z"⟩
abbrev cX11_isPlace : ByteArray := prog_13_method_7_code
def yX11_isPlace : MethodName := ⟨RX11, "isPlace", "(II)Z"⟩
abbrev cX11_cellOf : ByteArray := prog_13_method_8_code
def yX11_cellOf : MethodName := ⟨RX11, "cellOf", "(II)I"⟩
abbrev cX11_pass : ByteArray := prog_13_method_9_code
def yX11_pass : MethodName := ⟨RX11, "pass", "(I)I"⟩
abbrev cX11_drift : ByteArray := prog_13_method_10_code
def yX11_drift : MethodName := ⟨RX11, "drift", "(III)I"⟩
abbrev cX11_ice : ByteArray := prog_13_method_11_code
def yX11_ice : MethodName := ⟨RX11, "ice", "(III)I"⟩
abbrev cX11_sun : ByteArray := prog_13_method_12_code
def yX11_sun : MethodName := ⟨RX11, "sun", "(II)I"⟩
abbrev cX11_man : ByteArray := prog_13_method_13_code
def yX11_man : MethodName := ⟨RX11, "man", "(II)I"⟩
abbrev cX11_party : ByteArray := prog_13_method_14_code
def yX11_party : MethodName := ⟨RX11, "party", "(IIII)I"⟩
abbrev cX11_start : ByteArray := prog_13_method_15_code
def yX11_start : MethodName := ⟨RX11, "start", "(III)I"⟩
abbrev cX11_claim : ByteArray := prog_13_method_16_code
def yX11_claim : MethodName := ⟨RX11, "claim", "(IIII)I"⟩
abbrev cX11_isRow : ByteArray := prog_13_method_17_code
def yX11_isRow : MethodName := ⟨RX11, "isRow", "(I)Z"⟩
abbrev cX11_add : ByteArray := prog_13_method_18_code
def yX11_add : MethodName := ⟨RX11, "add", "(IIIIIII)I"⟩
abbrev cX11_marchOf : ByteArray := prog_13_method_19_code
def yX11_marchOf : MethodName := ⟨RX11, "marchOf", "(III)I"⟩
abbrev cX11_march : ByteArray := prog_13_method_20_code
def yX11_march : MethodName := ⟨RX11, "march", "(IIIII)I"⟩
abbrev cX11_height : ByteArray := prog_13_method_21_code
def yX11_height : MethodName := ⟨RX11, "height", "(IIIIZ)I"⟩
abbrev cX11_compass : ByteArray := prog_13_method_22_code
def yX11_compass : MethodName := ⟨RX11, "compass", "(III)I"⟩
abbrev cX11_picture : ByteArray := prog_13_method_23_code
def yX11_picture : MethodName := ⟨RX11, "picture", "(IIIII)I"⟩
abbrev cX11_word : ByteArray := prog_13_method_24_code
def yX11_word : MethodName := ⟨RX11, "word", "(IIIIII)I"⟩
abbrev cX11_torn : ByteArray := prog_13_method_25_code
def yX11_torn : MethodName := ⟨RX11, "torn", "(IIIIII)I"⟩
abbrev cX11_of : ByteArray := prog_13_method_26_code
def yX11_of : MethodName := ⟨RX11, "of", "(II)I"⟩
abbrev cX11_findWay : ByteArray := prog_13_method_27_code
def yX11_findWay : MethodName := ⟨RX11, "findWay", "(II)V"⟩
abbrev cX11_place : ByteArray := prog_13_method_28_code
def yX11_place : MethodName := ⟨RX11, "place", "(III)I"⟩
abbrev cX11_canGo : ByteArray := prog_13_method_29_code
def yX11_canGo : MethodName := ⟨RX11, "canGo", "(II)I"⟩
abbrev cX11_can : ByteArray := prog_13_method_30_code
def yX11_can : MethodName := ⟨RX11, "can", "(II)I"⟩
abbrev cX11_beyondBy : ByteArray := prog_13_method_31_code
def yX11_beyondBy : MethodName := ⟨RX11, "beyondBy", "(I)I"⟩
abbrev cX11_beyond : ByteArray := prog_13_method_32_code
def yX11_beyond : MethodName := ⟨RX11, "beyond", "(II)I"⟩
abbrev cX11_latitudeOf : ByteArray := prog_13_method_33_code
def yX11_latitudeOf : MethodName := ⟨RX11, "latitudeOf", "(II)I"⟩
abbrev cX11_latitude : ByteArray := prog_13_method_34_code
def yX11_latitude : MethodName := ⟨RX11, "latitude", "(II)I"⟩
abbrev cX11_isHeight : ByteArray := prog_13_method_35_code
def yX11_isHeight : MethodName := ⟨RX11, "isHeight", "(I)Z"⟩
abbrev cX11_middle : ByteArray := prog_13_method_36_code
def yX11_middle : MethodName := ⟨RX11, "middle", "(I)I"⟩
abbrev cX11_isFit : ByteArray := prog_13_method_37_code
def yX11_isFit : MethodName := ⟨RX11, "isFit", "(IIII)Z"⟩
abbrev cX11_fits : ByteArray := prog_13_method_38_code
def yX11_fits : MethodName := ⟨RX11, "fits", "(III)I"⟩
abbrev cX11_quarrelOf : ByteArray := prog_13_method_39_code
def yX11_quarrelOf : MethodName := ⟨RX11, "quarrelOf", "(II)I"⟩
abbrev cX11_quarrel : ByteArray := prog_13_method_40_code
def yX11_quarrel : MethodName := ⟨RX11, "quarrel", "(I)I"⟩
abbrev cX11_home : ByteArray := prog_13_method_41_code
def yX11_home : MethodName := ⟨RX11, "home", "(I)I"⟩
abbrev cX11_down : ByteArray := prog_13_method_42_code
def yX11_down : MethodName := ⟨RX11, "down", "(II)I"⟩
abbrev cX11_findNeeds : ByteArray := prog_13_method_43_code
def yX11_findNeeds : MethodName := ⟨RX11, "findNeeds", "(I)V"⟩
abbrev cX11_needs : ByteArray := prog_13_method_44_code
def yX11_needs : MethodName := ⟨RX11, "needs", "(II)I"⟩
abbrev cX11_held : ByteArray := prog_13_method_45_code
def yX11_held : MethodName := ⟨RX11, "held", "(III)I"⟩
abbrev cX11_tellStory : ByteArray := prog_13_method_46_code
def yX11_tellStory : MethodName := ⟨RX11, "tellStory", "(IIII)V"⟩
abbrev cX11_falsesOf : ByteArray := prog_13_method_47_code
def yX11_falsesOf : MethodName := ⟨RX11, "falsesOf", "(IIII)I"⟩
abbrev cX11_falses : ByteArray := prog_13_method_48_code
def yX11_falses : MethodName := ⟨RX11, "falses", "(IIII)I"⟩
abbrev cX11_least : ByteArray := prog_13_method_49_code
def yX11_least : MethodName := ⟨RX11, "least", "(III)I"⟩
abbrev cX11_init : ByteArray := prog_13_method_50_code
def yX11_init : MethodName := ⟨RX11, "<init>", "()V"⟩
abbrev cX11_misprint : ByteArray := prog_13_method_51_code
def yX11_misprint : MethodName := ⟨RX11, "misprint", "(II)I"⟩
abbrev cX11_madeOf : ByteArray := prog_13_method_52_code
def yX11_madeOf : MethodName := ⟨RX11, "madeOf", "(III)I"⟩
abbrev cX11_made : ByteArray := prog_13_method_53_code
def yX11_made : MethodName := ⟨RX11, "made", "(II)I"⟩
abbrev cX11_feed : ByteArray := prog_13_method_54_code
def yX11_feed : MethodName := ⟨RX11, "feed", "(II)I"⟩
abbrev cX11_byteAt : ByteArray := prog_13_method_55_code
def yX11_byteAt : MethodName := ⟨RX11, "byteAt", "()I"⟩
abbrev cX11_isDigit : ByteArray := prog_13_method_56_code
def yX11_isDigit : MethodName := ⟨RX11, "isDigit", "()Z"⟩
abbrev cX11_push : ByteArray := prog_13_method_57_code
def yX11_push : MethodName := ⟨RX11, "push", "(Z)V"⟩
abbrev cX11_settle : ByteArray := prog_13_method_58_code
def yX11_settle : MethodName := ⟨RX11, "settle", "(I)V"⟩
abbrev cX11_factOf : ByteArray := prog_13_method_59_code
def yX11_factOf : MethodName := ⟨RX11, "factOf", "(I)I"⟩
abbrev cX11_takesTest : ByteArray := prog_13_method_60_code
def yX11_takesTest : MethodName := ⟨RX11, "takesTest", "()Z"⟩
abbrev cX11_goes : ByteArray := prog_13_method_61_code
def yX11_goes : MethodName := ⟨RX11, "goes", "(I)Z"⟩
abbrev cX11_law : ByteArray := prog_13_method_62_code
def yX11_law : MethodName := ⟨RX11, "law", "(II)I"⟩
abbrev cX11_fitting : ByteArray := prog_13_method_63_code
def yX11_fitting : MethodName := ⟨RX11, "fitting", "(III)I"⟩
abbrev cX11_findFacts : ByteArray := prog_13_method_64_code
def yX11_findFacts : MethodName := ⟨RX11, "findFacts", "(II)V"⟩
abbrev cX11_says : ByteArray := prog_13_method_65_code
def yX11_says : MethodName := ⟨RX11, "says", "(III)I"⟩
abbrev cX11_look : ByteArray := prog_13_method_66_code
def yX11_look : MethodName := ⟨RX11, "look", "(I)I"⟩
abbrev cX11_partBy : ByteArray := prog_13_method_67_code
def yX11_partBy : MethodName := ⟨RX11, "partBy", "(III)I"⟩
abbrev cX11_ones : ByteArray := prog_13_method_68_code
def yX11_ones : MethodName := ⟨RX11, "ones", "(I)I"⟩
abbrev cX11_worthOf : ByteArray := prog_13_method_69_code
def yX11_worthOf : MethodName := ⟨RX11, "worthOf", "(II)I"⟩
abbrev cX11_isSet : ByteArray := prog_13_method_70_code
def yX11_isSet : MethodName := ⟨RX11, "isSet", "(I)Z"⟩
abbrev cX11_worth : ByteArray := prog_13_method_71_code
def yX11_worth : MethodName := ⟨RX11, "worth", "(II)I"⟩
abbrev cX11_next : ByteArray := prog_13_method_72_code
def yX11_next : MethodName := ⟨RX11, "next", "(I)I"⟩
abbrev cX11_worst : ByteArray := prog_13_method_73_code
def yX11_worst : MethodName := ⟨RX11, "worst", "(II)I"⟩
abbrev cX11_body : ByteArray := prog_13_method_74_code
def yX11_body : MethodName := ⟨RX11, "body", "(I)V"⟩
abbrev cX11_plainFits : ByteArray := prog_13_method_75_code
def yX11_plainFits : MethodName := ⟨RX11, "plainFits", "(II)I"⟩
abbrev cX11_heightFits : ByteArray := prog_13_method_76_code
def yX11_heightFits : MethodName := ⟨RX11, "heightFits", "(II)I"⟩
abbrev cX11_fitsOf : ByteArray := prog_13_method_77_code
def yX11_fitsOf : MethodName := ⟨RX11, "fitsOf", "(II)I"⟩
abbrev cX11_plainHangs : ByteArray := prog_13_method_78_code
def yX11_plainHangs : MethodName := ⟨RX11, "plainHangs", "(II)I"⟩
abbrev cX11_hangsOf : ByteArray := prog_13_method_79_code
def yX11_hangsOf : MethodName := ⟨RX11, "hangsOf", "(II)I"⟩
abbrev cX11_plainShows : ByteArray := prog_13_method_80_code
def yX11_plainShows : MethodName := ⟨RX11, "plainShows", "(II)I"⟩
abbrev cX11_heightShows : ByteArray := prog_13_method_81_code
def yX11_heightShows : MethodName := ⟨RX11, "heightShows", "(II)I"⟩
abbrev cX11_showsOf : ByteArray := prog_13_method_82_code
def yX11_showsOf : MethodName := ⟨RX11, "showsOf", "(II)I"⟩
abbrev cX11_act : ByteArray := prog_13_method_83_code
def yX11_act : MethodName := ⟨RX11, "act", "(III)I"⟩
abbrev cX11_trace : ByteArray := prog_13_method_84_code
def yX11_trace : MethodName := ⟨RX11, "trace", "(I)I"⟩
abbrev cX11_taken : ByteArray := prog_13_method_85_code
def yX11_taken : MethodName := ⟨RX11, "taken", "(II)I"⟩
abbrev cX11_count : ByteArray := prog_13_method_86_code
def yX11_count : MethodName := ⟨RX11, "count", "(I)I"⟩
abbrev cX11_isTape : ByteArray := prog_13_method_87_code
def yX11_isTape : MethodName := ⟨RX11, "isTape", "(I)Z"⟩
abbrev cX11_tape : ByteArray := prog_13_method_88_code
def yX11_tape : MethodName := ⟨RX11, "tape", "(III)I"⟩
abbrev cX11_item : ByteArray := prog_13_method_89_code
def yX11_item : MethodName := ⟨RX11, "item", "(III)I"⟩
abbrev cX11_read : ByteArray := prog_13_method_90_code
def yX11_read : MethodName := ⟨RX11, "read", "(II)I"⟩
abbrev cX11_shift : ByteArray := prog_13_method_91_code
def yX11_shift : MethodName := ⟨RX11, "shift", "(IIIII)I"⟩
def RJx8e188 : String := "java/lang/Cloneable"
def RJ6 : String := "java/lang/Integer"
abbrev cJ6_compare_7cf53 : ByteArray := prog_15_method_40_code
def yJ6_compare_7cf53 : MethodName := ⟨RJ6, "compare", "(II)I"⟩
abbrev cJ6_bitCount_0f7a4 : ByteArray := prog_15_method_49_code
def yJ6_bitCount_0f7a4 : MethodName := ⟨RJ6, "bitCount", "(I)I"⟩
def RJ9 : String := "java/lang/Math"
abbrev cJ9_floorDiv_7cf53 : ByteArray := prog_16_method_47_code
def yJ9_floorDiv_7cf53 : MethodName := ⟨RJ9, "floorDiv", "(II)I"⟩
abbrev cJ9_abs_0f7a4 : ByteArray := prog_16_method_59_code
def yJ9_abs_0f7a4 : MethodName := ⟨RJ9, "abs", "(I)I"⟩
abbrev cJ9_max_7cf53 : ByteArray := prog_16_method_65_code
def yJ9_max_7cf53 : MethodName := ⟨RJ9, "max", "(II)I"⟩
abbrev cJ9_min_7cf53 : ByteArray := prog_16_method_69_code
def yJ9_min_7cf53 : MethodName := ⟨RJ9, "min", "(II)I"⟩
def RJ10 : String := "java/lang/System"
def RJ7 : String := "java/util/Arrays"
abbrev cJ7_fill_53178 : ByteArray := prog_18_method_103_code
def yJ7_fill_53178 : MethodName := ⟨RJ7, "fill", "([II)V"⟩
abbrev cJ7_copyOf_59c91 : ByteArray := prog_18_method_123_code
def yJ7_copyOf_59c91 : MethodName := ⟨RJ7, "copyOf", "([II)[I"⟩
def RL : String := "PoleLogsLaw"
abbrev cL_law : ByteArray := code
def yL_law : MethodName := ⟨RL, "law", "([I)Z"⟩
abbrev vwCl : List vw_C := [(RX0, TX0, 2), (RX1, TX1, 2), (RX2, TX2, 4), (RX3, TX3, 3), (RX4, TX4, 10), (RX5, TX5, 3), (RX6, TX6, 5), (RX7, TX7, 9), (RX8, TX8, 3), (RX9, TX9, 5), (RX10, TX10, 18), (RX11, TX11, 59)]
end
section
/-! THE PURE MACHINE: cells by keys, runs of blocks, calls by numbers. What it answers, the machine does (part 05). -/
/-- ints (tag, length, contents); references (tag, length, contents); an object (class, fields): references are keys -/
abbrev PE : Type := (Nat × Nat × (Nat → Int32)) ⊕ ((Nat × Nat × (Nat → Option Nat)) ⊕ (Nat × List Value))
/-- the cells, how many of each kind were made, the keys as they were made, the slots made -/
abbrev PH : Type := (Nat → Option PE) × (Nat → Nat) × List Nat × Nat
abbrev PL : Type := List (Option Value)
abbrev PR : Type := Option (Option Value × PH)
/-- an instruction: pc, length, kind, a, b, x, v, ts -/
abbrev PI : Type := Nat × Nat × Nat × Nat × Nat × Nat × Int32 × List Nat
/-- arrays that nobody writes, by key (30000 on): tag, length, contents -/
abbrev RO : Type := Nat → Option (Nat × Nat × (Nat → Int32))
def ph_put (h : PH) (k : Nat) (e : PE) : PH := (va_up h.1 k (some e), h.2)
def ph_add (h : PH) (k kind n : Nat) (e : PE) : PH := (va_up h.1 k (some e), va_up h.2.1 kind (h.2.1 kind + 1), h.2.2.1 ++ [k], h.2.2.2 + n)
def gI (h : PH) (k ci j : Nat) (K : Int32 → PR) : PR := match h.1 k with
  | some (.inr (.inr (c, fs))) => if c = ci then (match fs[j]? with | some (.int x) => K x | _ => none) else none
  | _ => none
def gR (h : PH) (k ci j : Nat) (N : PR) (K : Nat → PR) : PR := match h.1 k with
  | some (.inr (.inr (c, fs))) => if c = ci then (match fs[j]? with | some (.ref q) => K q | some .null => N | _ => none) else none
  | _ => none
def pF (h : PH) (k ci j : Nat) (v : Value) (K : PH → PR) : PR := match h.1 k with
  | some (.inr (.inr (c, fs))) => if c = ci ∧ j < fs.length then K (ph_put h k (.inr (.inr (c, fs.set j v)))) else none
  | _ => none
def arr (ro : RO) (h : PH) (k : Nat) : Option (Nat × Nat × (Nat → Int32)) := if 30000 ≤ k then ro k else match h.1 k with
  | some (.inl x) => some x
  | _ => none
def aI (ro : RO) (h : PH) (k tg : Nat) (i : Int32) (K : Int32 → PR) : PR := match arr ro h k with
  | some (t, n, f) => if t = tg ∧ ¬ (i < 0 ∨ n ≤ i.toNatClampNeg) then K (f i.toNatClampNeg) else none
  | none => none
def aR (h : PH) (k : Nat) (i : Int32) (N : PR) (K : Nat → PR) : PR := match h.1 k with
  | some (.inr (.inl (_, n, g))) => if ¬ (i < 0 ∨ n ≤ i.toNatClampNeg) then (match g i.toNatClampNeg with | none => N | some q => K q) else none
  | _ => none
def aL (ro : RO) (h : PH) (k : Nat) (K : Int32 → PR) : PR := match arr ro h k with
  | some (_, n, _) => K (Int32.ofNat n)
  | none => none
def sI (h : PH) (k tg : Nat) (i v : Int32) (K : PH → PR) : PR := match h.1 k with
  | some (.inl (t, n, f)) => if t = tg ∧ ¬ (i < 0 ∨ n ≤ i.toNatClampNeg) then K (ph_put h k (.inl (t, n, upd f i.toNatClampNeg v))) else none
  | _ => none
def sR (h : PH) (k : Nat) (i : Int32) (q : Nat) (K : PH → PR) : PR := match h.1 k, h.1 q with
  | some (.inr (.inl (t, n, g))), some (.inr (.inr (c, _))) => if t = 10 + c ∧ ¬ (i < 0 ∨ n ≤ i.toNatClampNeg) then K (ph_put h k (.inr (.inl (t, n, va_up g i.toNatClampNeg (some q))))) else none
  | _, _ => none
def nO (h : PH) (ci N : Nat) (fs : List Value) (K : Nat → PH → PR) : PR :=
  if (h.1 (1000 * ci + h.2.1 ci)).isNone ∧ 1000 * ci + h.2.1 ci < 20000 then K (1000 * ci + h.2.1 ci) (ph_add h (1000 * ci + h.2.1 ci) ci N (.inr (.inr (ci, fs)))) else none
def nA (h : PH) (tg : Nat) (n : Int32) (f : Nat → Int32) (K : Nat → PH → PR) : PR :=
  if (h.1 (20000 + h.2.1 20)).isNone ∧ 20000 + h.2.1 20 < 30000 ∧ ¬ n < 0 ∧ n.toNatClampNeg ≤ 100000 then K (20000 + h.2.1 20) (ph_add h (20000 + h.2.1 20) 20 n.toNatClampNeg (.inl (tg, n.toNatClampNeg, f))) else none
def nQ (h : PH) (tg : Nat) (n : Int32) (K : Nat → PH → PR) : PR :=
  if (h.1 (20000 + h.2.1 20)).isNone ∧ 20000 + h.2.1 20 < 30000 ∧ ¬ n < 0 ∧ n.toNatClampNeg ≤ 100000 then K (20000 + h.2.1 20) (ph_add h (20000 + h.2.1 20) 20 n.toNatClampNeg (.inr (.inl (tg, n.toNatClampNeg, fun _ => none)))) else none
/-- System.arraycopy of ints -/
def cpA (h : PH) (k : Nat) (sp : Int32) (q : Nat) (dp n : Int32) (K : PH → PR) : PR := match h.1 k, h.1 q with
  | some (.inl (t0, n0, f)), some (.inl (t1, n1, g)) => if t0 = 0 ∧ t1 = 0 ∧ ¬ sp < 0 ∧ ¬ dp < 0 ∧ ¬ n < 0 ∧ sp.toNatClampNeg + n.toNatClampNeg ≤ n0 ∧ dp.toNatClampNeg + n.toNatClampNeg ≤ n1 then K (ph_put h q (.inl (t1, n1, va_cpy f g sp.toNatClampNeg dp.toNatClampNeg n.toNatClampNeg))) else none
  | _, _ => none
/-- clone of an array of ints -/
def clA (h : PH) (k : Nat) (K : Nat → PH → PR) : PR := match h.1 k with
  | some (.inl (t, n, f)) => if t = 0 ∧ (h.1 (20000 + h.2.1 20)).isNone ∧ 20000 + h.2.1 20 < 30000 then K (20000 + h.2.1 20) (ph_add h (20000 + h.2.1 20) 20 n (.inl (t, n, f))) else none
  | _ => none
def isA (h : PH) (k : Nat) : Bool := match h.1 k with
  | some (.inl (t, _, _)) => t == 0
  | _ => false
def isO (h : PH) (v : Option Value) (ci : Nat) : Bool := match v with
  | some (.ref k) => (match h.1 k with | some (.inr (.inr (c, _))) => c == ci | _ => false)
  | _ => false
def vO (h : PH) (v : Option Value) (ci : Nat) (K : PR) : PR := if isO h v ci = true then K else none
def ivk (st : List Value) (b x : Nat) (h : PH) (K : PR) : PR := if b ≤ st.length ∧ st.length ≤ b + 4 then (if x = 0 then K else vO h ((st.take b).reverse)[0]? (x - 1) K) else none
def cI (r : PR) (K : Int32 → PH → PR) : PR := match r with
  | some (some (.int x), h) => K x h
  | _ => none
def cV (r : PR) (K : PH → PR) : PR := match r with
  | some (none, h) => K h
  | _ => none
def cR (r : PR) (N : PH → PR) (K : Nat → PH → PR) : PR := match r with
  | some (some (.ref k), h) => K k h
  | some (some .null, h) => N h
  | _ => none
def bop (a : Nat) (x y : Int32) : Int32 := match a with
  | 0 => x + y
  | 1 => x - y
  | 2 => x * y
  | 3 => x &&& y
  | 4 => x ||| y
  | 5 => x ^^^ y
  | 6 => x <<< (y &&& 31)
  | 7 => x >>> (y &&& 31)
  | _ => (x.toUInt32 >>> (y.toUInt32 &&& Int32.toUInt32 31)).toInt32
def uop (a : Nat) (x : Int32) : Int32 := match a with
  | 0 => -x
  | 1 => x.toInt8.toInt32
  | _ => x.toInt16.toInt32
/-- a comparison: 0 = , 1 ≠ , 2 < , 3 ≥ , 4 > , 5 ≤ -/
def cnd (a : Nat) (x y : Int32) (T F : PR) : PR := match a with
  | 0 => if x = y then T else F
  | 1 => if x = y then F else T
  | 2 => if x < y then T else F
  | 3 => if x < y then F else T
  | 4 => if y < x then T else F
  | _ => if y < x then F else T
def swt (F : Nat → PR) (b : Nat) (y : Int32) : List Nat → Int32 → PR
  | [], _ => F b
  | t :: ts, v => if y = v then F t else swt F b y ts (v + 1)
def swl (F : Nat → PR) (b : Nat) (y : Int32) : List Nat → PR
  | k :: t :: ts => if y = Int32.ofNat k then F t else swl F b y ts
  | _ => F b
/-- the fields of a class, as they are at first -/
def clN : Nat → Nat := fun ci => (vwCl.getD ci ("", TX0, 0)).2.2
def clT : Nat → Nat → FieldType
  | 0 => tyX0 | 1 => tyX1 | 2 => tyX2 | 3 => tyX3 | 4 => tyX4 | 5 => tyX5 | 6 => tyX6 | 7 => tyX7 | 8 => tyX8 | 9 => tyX9 | 10 => tyX10 | _ => tyX11
def dfl (ci : Nat) : List Value := (List.range (clN ci)).map (fun j => defaultValue (clT ci j))
def step (ro : RO) (J : Nat → PL → List Value → PH → PR) (C : Nat → List Value → PH → PR) (i : PI) (lv : PL) (st : List Value) (h : PH) (K : PL → List Value → PH → PR) : PR :=
  match i with
  | (_, _, op, a, b, x, v, ts) => match op with
    | 0 => K lv (.int v :: st) h
    | 1 => (match lv[a]? with | some (some (.int y)) => K lv (.int y :: st) h | _ => none)
    | 2 => (match lv[a]? with | some (some (.ref q)) => K lv (.ref q :: st) h | some (some .null) => K lv (.null :: st) h | _ => none)
    | 3 => (match st with | .int y :: st => K (lv.set a (some (.int y))) st h | _ => none)
    | 4 => (match st with | .ref q :: st => K (lv.set a (some (.ref q))) st h | .null :: st => K (lv.set a (some .null)) st h | _ => none)
    | 5 => (match lv[a]? with | some (some (.int y)) => K (lv.set a (some (.int (y + v)))) st h | _ => none)
    | 6 => (match st with | .int y :: .int z :: st => K lv (.int (bop a z y) :: st) h | _ => none)
    | 7 => (match st with | .int y :: .int z :: st => if y = 0 then none else K lv (.int (z / y) :: st) h | _ => none)
    | 8 => (match st with | .int y :: .int z :: st => if y = 0 then none else K lv (.int (z - z / y * y) :: st) h | _ => none)
    | 9 => (match st with | .int z :: st => K lv (.int (uop a z) :: st) h | _ => none)
    | 10 => (match st with | .int z :: st => cnd a z 0 (J b lv st h) (K lv st h) | _ => none)
    | 11 => (match st with | .int y :: .int z :: st => cnd a z y (J b lv st h) (K lv st h) | _ => none)
    | 12 => (match st with | .ref _ :: st => K lv st h | .null :: st => J b lv st h | _ => none)
    | 13 => (match st with | .ref _ :: st => J b lv st h | .null :: st => K lv st h | _ => none)
    | 14 => J b lv st h
    | 15 => (match st with | .int y :: st => swt (fun t => J t lv st h) b y ts v | _ => none)
    | 16 => (match st with | .int y :: st => swl (fun t => J t lv st h) b y ts | _ => none)
    | 17 => (match st with | .ref k :: st => gI h k a b (fun y => K lv (.int y :: st) h) | _ => none)
    | 18 => (match st with | .ref k :: st => gR h k a b (K lv (.null :: st) h) (fun q => K lv (.ref q :: st) h) | _ => none)
    | 19 => (match st with | .int y :: .ref k :: st => pF h k a b (.int y) (fun h => K lv st h) | _ => none)
    | 20 => (match st with | .int y :: .ref k :: st => if y = 0 ∨ y = 1 then pF h k a b (.int y) (fun h => K lv st h) else none | _ => none)
    | 21 => (match st with | .ref q :: .ref k :: st => pF h k a b (.ref q) (fun h => K lv st h) | _ => none)
    | 22 => (match st with | .int y :: .ref k :: st => aI ro h k a y (fun z => K lv (.int z :: st) h) | _ => none)
    | 23 => (match st with | .int y :: .ref k :: st => aR h k y (K lv (.null :: st) h) (fun q => K lv (.ref q :: st) h) | _ => none)
    | 24 => (match st with | .int z :: .int y :: .ref k :: st => sI h k 0 y z (fun h => K lv st h) | _ => none)
    | 25 => (match st with | .int z :: .int y :: .ref k :: st => sI h k 1 y (vp_nar .boolean z) (fun h => K lv st h) | _ => none)
    | 26 => (match st with | .ref q :: .int y :: .ref k :: st => sR h k y q (fun h => K lv st h) | _ => none)
    | 27 => (match st with | .ref k :: st => aL ro h k (fun z => K lv (.int z :: st) h) | _ => none)
    | 28 => K lv (.ref (30000 + a) :: st) h
    | 29 => nO h a (clN a) (dfl a) (fun k h => K lv (.ref k :: st) h)
    | 30 => (match st with | .int y :: st => nA h a y (fun _ => 0) (fun k h => K lv (.ref k :: st) h) | _ => none)
    | 31 => (match st with | .int y :: st => nQ h a y (fun k h => K lv (.ref k :: st) h) | _ => none)
    | 32 => (match st with | y :: st => if y.category = 1 then K lv (y :: y :: st) h else none | _ => none)
    | 33 => (match st with | y :: z :: st => if y.category = 1 ∧ z.category = 1 then K lv (y :: z :: y :: z :: st) h else none | _ => none)
    | 34 => (match st with | y :: st => if y.category = 1 then K lv st h else none | _ => none)
    | 35 => ivk st b x h (cI (C a (st.take b).reverse h) (fun y h => K lv (.int y :: st.drop b) h))
    | 36 => ivk st b x h (cV (C a (st.take b).reverse h) (fun h => K lv (st.drop b) h))
    | 37 => ivk st b x h (cR (C a (st.take b).reverse h) (fun h => K lv (.null :: st.drop b) h) (fun q h => K lv (.ref q :: st.drop b) h))
    | 38 => (match st with | [] => some (none, h) | _ => none)
    | 39 => (match st with | [.int y] => some (some (.int y), h) | _ => none)
    | 40 => (match st with | [.int y] => if y = 0 ∨ y = 1 then some (some (.int y), h) else none | _ => none)
    | 41 => (match st with | [.ref q] => some (some (.ref q), h) | [.null] => some (some .null, h) | _ => none)
    | 42 => K lv (.null :: st) h
    | 43 => (match st with | .ref _ :: st => if st.length ≤ 4 then K lv st h else none | _ => none)
    | 44 => (match st with | .int n :: .int dp :: .ref q :: .int sp :: .ref k :: st => if st.length ≤ 4 then cpA h k sp q dp n (fun h => K lv st h) else none | _ => none)
    | 45 => J b lv st h
    | 46 => (match st with | .ref k :: st => if st.length ≤ 4 then clA h k (fun q h => K lv (.ref q :: st) h) else none | _ => none)
    | 47 => (match st with | .ref k :: st => if isA h k then K lv (.ref k :: st) h else none | _ => none)
    | _ => none
def run (ro : RO) (J : Nat → PL → List Value → PH → PR) (C : Nat → List Value → PH → PR) : List PI → PL → List Value → PH → PR
  | [], _, _, _ => none
  | i :: is, lv, st, h => step ro J C i lv st h (run ro J C is)
def pget : List (Nat × List PI) → Nat → List PI
  | [], _ => []
  | (k, b) :: r, t => if k = t then b else pget r t
def EXn (ro : RO) (B : List (Nat × List PI)) (C : Nat → List Value → PH → PR) : Nat → Nat → PL → List Value → PH → PR
  | 0 => fun _ _ _ _ => none
  | n + 1 => fun t lv st h => run ro (EXn ro B C n) C (pget B t) lv st h
def entry (nL : Nat) (as : List Value) : PL := as.map some ++ List.replicate (nL - as.length) none
/-- a call at most d deep; F: how many blocks a method may run through -/
def CALL (ro : RO) (P : Nat → List (Nat × List PI)) (mL : Nat → Nat) (F : Nat) : Nat → Nat → List Value → PH → PR
  | 0 => fun _ _ _ => none
  | d + 1 => fun M as h => if as.length ≤ mL M ∧ as.all (fun v => v.category == 1) = true then EXn ro (P M) (CALL ro P mL F d) F 0 (entry (mL M) as) [] h else none
/-! what is made stays made -/
def PLe (h h' : PH) : Prop := h.2.2.1 <+: h'.2.2.1 ∧ h.2.2.2 ≤ h'.2.2.2
theorem PLe.rf (h : PH) : PLe h h := ⟨List.prefix_refl _, Nat.le_refl _⟩
theorem PLe.tr {a b c : PH} (h1 : PLe a b) (h2 : PLe b c) : PLe a c := ⟨h1.1.trans h2.1, Nat.le_trans h1.2 h2.2⟩
theorem PLe.put (h : PH) (k : Nat) (e : PE) : PLe h (ph_put h k e) := PLe.rf h
theorem PLe.add (h : PH) (k kind n : Nat) (e : PE) : PLe h (ph_add h k kind n e) := ⟨List.prefix_append _ _, Nat.le_add_right _ _⟩
end
section
/-! what an answer of a piece of the pure machine says -/
section PINV
variable {ro : RO} {h : PH} {r : Option Value × PH}
theorem gI_inv {k ci j : Nat} {K : Int32 → PR} (e : gI h k ci j K = some r) : ∃ fs x, h.1 k = some (.inr (.inr (ci, fs))) ∧ fs[j]? = some (.int x) ∧ K x = some r := by
  unfold gI at e
  split at e
  · rename_i c fs hk
    split at e
    · rename_i hc
      subst hc
      split at e
      · rename_i x hx
        exact ⟨fs, x, hk, hx, e⟩
      · cases e
    · cases e
  · cases e
theorem gR_inv {k ci j : Nat} {N : PR} {K : Nat → PR} (e : gR h k ci j N K = some r) : ∃ fs, h.1 k = some (.inr (.inr (ci, fs))) ∧ ((∃ q, fs[j]? = some (.ref q) ∧ K q = some r) ∨ (fs[j]? = some .null ∧ N = some r)) := by
  unfold gR at e
  split at e
  · rename_i c fs hk
    split at e
    · rename_i hc
      subst hc
      split at e
      · rename_i q hx
        exact ⟨fs, hk, Or.inl ⟨q, hx, e⟩⟩
      · rename_i hx
        exact ⟨fs, hk, Or.inr ⟨hx, e⟩⟩
      · cases e
    · cases e
  · cases e
theorem pF_inv {k ci j : Nat} {v : Value} {K : PH → PR} (e : pF h k ci j v K = some r) : ∃ fs, h.1 k = some (.inr (.inr (ci, fs))) ∧ j < fs.length ∧ K (ph_put h k (.inr (.inr (ci, fs.set j v)))) = some r := by
  unfold pF at e
  split at e
  · rename_i c fs hk
    split at e
    · rename_i hc
      obtain ⟨rfl, hj⟩ := hc
      exact ⟨fs, hk, hj, e⟩
    · cases e
  · cases e
theorem aI_inv {k tg : Nat} {i : Int32} {K : Int32 → PR} (e : aI ro h k tg i K = some r) : ∃ n f, arr ro h k = some (tg, n, f) ∧ vp_in i n ∧ K (f i.toNatClampNeg) = some r := by
  unfold aI at e
  split at e
  · rename_i t n f hk
    split at e
    · rename_i hc
      obtain ⟨rfl, hj⟩ := hc
      exact ⟨n, f, hk, hj, e⟩
    · cases e
  · cases e
theorem aR_inv {k : Nat} {i : Int32} {N : PR} {K : Nat → PR} (e : aR h k i N K = some r) : ∃ t n g, h.1 k = some (.inr (.inl (t, n, g))) ∧ vp_in i n ∧ ((∃ q, g i.toNatClampNeg = some q ∧ K q = some r) ∨ (g i.toNatClampNeg = none ∧ N = some r)) := by
  unfold aR at e
  split at e
  · rename_i t n g hk
    split at e
    · rename_i hc
      split at e
      · rename_i hq
        exact ⟨t, n, g, hk, hc, Or.inr ⟨hq, e⟩⟩
      · rename_i q hq
        exact ⟨t, n, g, hk, hc, Or.inl ⟨q, hq, e⟩⟩
    · cases e
  · cases e
theorem aL_inv {k : Nat} {K : Int32 → PR} (e : aL ro h k K = some r) : ∃ t n f, arr ro h k = some (t, n, f) ∧ K (Int32.ofNat n) = some r := by
  unfold aL at e
  split at e
  · rename_i t n f hk
    exact ⟨t, n, f, hk, e⟩
  · cases e
theorem sI_inv {k tg : Nat} {i v : Int32} {K : PH → PR} (e : sI h k tg i v K = some r) : ∃ n f, h.1 k = some (.inl (tg, n, f)) ∧ vp_in i n ∧ K (ph_put h k (.inl (tg, n, upd f i.toNatClampNeg v))) = some r := by
  unfold sI at e
  split at e
  · rename_i t n f hk
    split at e
    · rename_i hc
      obtain ⟨rfl, hj⟩ := hc
      exact ⟨n, f, hk, hj, e⟩
    · cases e
  · cases e
theorem sR_inv {k q : Nat} {i : Int32} {K : PH → PR} (e : sR h k i q K = some r) : ∃ n g c fs, h.1 k = some (.inr (.inl (10 + c, n, g))) ∧ h.1 q = some (.inr (.inr (c, fs))) ∧ vp_in i n ∧ K (ph_put h k (.inr (.inl (10 + c, n, va_up g i.toNatClampNeg (some q))))) = some r := by
  unfold sR at e
  split at e
  · rename_i t n g c fs hk hq
    split at e
    · rename_i hc
      obtain ⟨rfl, hj⟩ := hc
      exact ⟨n, g, c, fs, hk, hq, hj, e⟩
    · cases e
  · cases e
theorem nO_inv {ci N : Nat} {fs : List Value} {K : Nat → PH → PR} (e : nO h ci N fs K = some r) : h.1 (1000 * ci + h.2.1 ci) = none ∧ 1000 * ci + h.2.1 ci < 30000 ∧ K (1000 * ci + h.2.1 ci) (ph_add h (1000 * ci + h.2.1 ci) ci N (.inr (.inr (ci, fs)))) = some r := by
  unfold nO at e
  split at e
  · rename_i hc
    exact ⟨by simpa using hc.1, by omega, e⟩
  · cases e
theorem nA_inv {tg : Nat} {n : Int32} {f : Nat → Int32} {K : Nat → PH → PR} (e : nA h tg n f K = some r) : h.1 (20000 + h.2.1 20) = none ∧ 20000 + h.2.1 20 < 30000 ∧ ¬ n < 0 ∧ n.toNatClampNeg ≤ 100000 ∧ K (20000 + h.2.1 20) (ph_add h (20000 + h.2.1 20) 20 n.toNatClampNeg (.inl (tg, n.toNatClampNeg, f))) = some r := by
  unfold nA at e
  split at e
  · rename_i hc
    exact ⟨by simpa using hc.1, hc.2.1, hc.2.2.1, hc.2.2.2, e⟩
  · cases e
theorem nQ_inv {tg : Nat} {n : Int32} {K : Nat → PH → PR} (e : nQ h tg n K = some r) : h.1 (20000 + h.2.1 20) = none ∧ 20000 + h.2.1 20 < 30000 ∧ ¬ n < 0 ∧ n.toNatClampNeg ≤ 100000 ∧ K (20000 + h.2.1 20) (ph_add h (20000 + h.2.1 20) 20 n.toNatClampNeg (.inr (.inl (tg, n.toNatClampNeg, fun _ => none)))) = some r := by
  unfold nQ at e
  split at e
  · rename_i hc
    exact ⟨by simpa using hc.1, hc.2.1, hc.2.2.1, hc.2.2.2, e⟩
  · cases e
theorem cpA_inv {k q : Nat} {sp dp n : Int32} {K : PH → PR} (e : cpA h k sp q dp n K = some r) : ∃ n0 f n1 g, h.1 k = some (.inl (0, n0, f)) ∧ h.1 q = some (.inl (0, n1, g)) ∧ ¬ sp < 0 ∧ ¬ dp < 0 ∧ ¬ n < 0 ∧ sp.toNatClampNeg + n.toNatClampNeg ≤ n0 ∧ dp.toNatClampNeg + n.toNatClampNeg ≤ n1 ∧ K (ph_put h q (.inl (0, n1, va_cpy f g sp.toNatClampNeg dp.toNatClampNeg n.toNatClampNeg))) = some r := by
  unfold cpA at e
  split at e
  · rename_i t0 n0 f t1 n1 g hk hq
    split at e
    · rename_i hc
      obtain ⟨rfl, rfl, h1, h2, h3, h4, h5⟩ := hc
      exact ⟨n0, f, n1, g, hk, hq, h1, h2, h3, h4, h5, e⟩
    · cases e
  · cases e
theorem clA_inv {k : Nat} {K : Nat → PH → PR} (e : clA h k K = some r) : ∃ n f, h.1 k = some (.inl (0, n, f)) ∧ h.1 (20000 + h.2.1 20) = none ∧ 20000 + h.2.1 20 < 30000 ∧ K (20000 + h.2.1 20) (ph_add h (20000 + h.2.1 20) 20 n (.inl (0, n, f))) = some r := by
  unfold clA at e
  split at e
  · rename_i t n f hk
    split at e
    · rename_i hc
      obtain ⟨rfl, h1, h2⟩ := hc
      exact ⟨n, f, hk, by simpa using h1, h2, e⟩
    · cases e
  · cases e
theorem isA_inv {k : Nat} (e : isA h k = true) : ∃ n f, h.1 k = some (.inl (0, n, f)) := by
  unfold isA at e
  split at e
  · rename_i t n f hk
    have : t = 0 := by simpa using e
    subst this
    exact ⟨n, f, hk⟩
  · cases e
theorem isO_inv {v : Option Value} {ci : Nat} (e : isO h v ci = true) : ∃ k fs, v = some (.ref k) ∧ h.1 k = some (.inr (.inr (ci, fs))) := by
  unfold isO at e
  split at e
  · rename_i k
    split at e
    · rename_i c fs hk
      have : c = ci := by simpa using e
      subst this
      exact ⟨k, fs, rfl, hk⟩
    · cases e
  · cases e
theorem ivk_inv {st : List Value} {b x : Nat} {K : PR} (e : ivk st b x h K = some r) : (b ≤ st.length ∧ st.length ≤ b + 4 ∧ (x = 0 ∨ isO h ((st.take b).reverse)[0]? (x - 1) = true)) ∧ K = some r := by
  unfold ivk at e
  split at e
  · rename_i h1
    split at e
    · rename_i h2
      exact ⟨⟨h1.1, h1.2, Or.inl h2⟩, e⟩
    · unfold vO at e
      split at e
      · rename_i h3
        exact ⟨⟨h1.1, h1.2, Or.inr h3⟩, e⟩
      · cases e
  · cases e
theorem cI_inv {q : PR} {K : Int32 → PH → PR} (e : cI q K = some r) : ∃ x h1, q = some (some (.int x), h1) ∧ K x h1 = some r := by
  unfold cI at e
  split at e
  · exact ⟨_, _, rfl, e⟩
  · cases e
theorem cV_inv {q : PR} {K : PH → PR} (e : cV q K = some r) : ∃ h1, q = some (none, h1) ∧ K h1 = some r := by
  unfold cV at e
  split at e
  · exact ⟨_, rfl, e⟩
  · cases e
theorem cR_inv {q : PR} {N : PH → PR} {K : Nat → PH → PR} (e : cR q N K = some r) : (∃ k h1, q = some (some (.ref k), h1) ∧ K k h1 = some r) ∨ ∃ h1, q = some (some .null, h1) ∧ N h1 = some r := by
  unfold cR at e
  split at e
  · exact Or.inl ⟨_, _, rfl, e⟩
  · exact Or.inr ⟨_, rfl, e⟩
  · cases e
theorem cnd_or {a : Nat} {x y : Int32} {T F : PR} (e : cnd a x y T F = some r) : T = some r ∨ F = some r := by
  unfold cnd at e
  split at e <;> split at e <;> first | exact Or.inl e | exact Or.inr e
theorem swt_or {F : Nat → PR} {b : Nat} {y : Int32} : ∀ {ts : List Nat} {v : Int32}, swt F b y ts v = some r → ∃ t, F t = some r
  | [], v, e => ⟨b, e⟩
  | t :: ts, v, e => by
    unfold swt at e
    split at e
    · exact ⟨t, e⟩
    · exact swt_or e
theorem swl_or {F : Nat → PR} {b : Nat} {y : Int32} : ∀ {ts : List Nat}, swl F b y ts = some r → ∃ t, F t = some r
  | [], e => ⟨b, e⟩
  | [_], e => ⟨b, e⟩
  | k :: t :: ts, e => by
    unfold swl at e
    split at e
    · exact ⟨t, e⟩
    · exact swl_or e
end PINV
theorem step_mono {ro : RO} {J : Nat → PL → List Value → PH → PR} {C : Nat → List Value → PH → PR} {lv : PL} {st : List Value} {h : PH} {K : PL → List Value → PH → PR} {r : Option Value} {h' : PH}
    (hJ : ∀ t lv st h1, J t lv st h1 = some (r, h') → PLe h1 h') (hC : ∀ M as h1 v h2, C M as h1 = some (v, h2) → PLe h1 h2) (hK : ∀ lv st h1, K lv st h1 = some (r, h') → PLe h1 h') :
    ∀ (i : PI), step ro J C i lv st h K = some (r, h') → PLe h h'
  | (_, _, 0, _, _, _, _, _), e => hK _ _ _ e
  | (_, _, 1, a, _, _, _, _), e => by
    simp only [step] at e
    split at e
    · exact hK _ _ _ e
    · cases e
  | (_, _, 2, a, _, _, _, _), e => by
    simp only [step] at e
    split at e
    · exact hK _ _ _ e
    · exact hK _ _ _ e
    · cases e
  | (_, _, 3, a, _, _, _, _), e => by
    simp only [step] at e
    split at e
    · exact hK _ _ _ e
    · cases e
  | (_, _, 4, a, _, _, _, _), e => by
    simp only [step] at e
    split at e
    · exact hK _ _ _ e
    · exact hK _ _ _ e
    · cases e
  | (_, _, 5, a, _, _, _, _), e => by
    simp only [step] at e
    split at e
    · exact hK _ _ _ e
    · cases e
  | (_, _, 6, a, _, _, _, _), e => by
    simp only [step] at e
    split at e
    · exact hK _ _ _ e
    · cases e
  | (_, _, 7, a, _, _, _, _), e => by
    simp only [step] at e
    split at e
    · split at e
      · cases e
      · exact hK _ _ _ e
    · cases e
  | (_, _, 8, a, _, _, _, _), e => by
    simp only [step] at e
    split at e
    · split at e
      · cases e
      · exact hK _ _ _ e
    · cases e
  | (_, _, 9, a, _, _, _, _), e => by
    simp only [step] at e
    split at e
    · exact hK _ _ _ e
    · cases e
  | (_, _, 10, a, _, _, _, _), e => by
    simp only [step] at e
    split at e
    · rcases cnd_or e with e | e
      · exact hJ _ _ _ _ e
      · exact hK _ _ _ e
    · cases e
  | (_, _, 11, a, _, _, _, _), e => by
    simp only [step] at e
    split at e
    · rcases cnd_or e with e | e
      · exact hJ _ _ _ _ e
      · exact hK _ _ _ e
    · cases e
  | (_, _, 12, a, _, _, _, _), e => by
    simp only [step] at e
    split at e
    · exact hK _ _ _ e
    · exact hJ _ _ _ _ e
    · cases e
  | (_, _, 13, a, _, _, _, _), e => by
    simp only [step] at e
    split at e
    · exact hJ _ _ _ _ e
    · exact hK _ _ _ e
    · cases e
  | (_, _, 14, _, _, _, _, _), e => hJ _ _ _ _ e
  | (_, _, 15, a, _, _, _, _), e => by
    simp only [step] at e
    split at e
    · obtain ⟨t, e⟩ := swt_or e
      exact hJ _ _ _ _ e
    · cases e
  | (_, _, 16, a, _, _, _, _), e => by
    simp only [step] at e
    split at e
    · obtain ⟨t, e⟩ := swl_or e
      exact hJ _ _ _ _ e
    · cases e
  | (_, _, 17, a, _, _, _, _), e => by
    simp only [step] at e
    split at e
    · obtain ⟨_, _, _, _, e⟩ := gI_inv e
      exact hK _ _ _ e
    · cases e
  | (_, _, 18, a, _, _, _, _), e => by
    simp only [step] at e
    split at e
    · obtain ⟨_, _, ⟨_, _, e⟩ | ⟨_, e⟩⟩ := gR_inv e
      · exact hK _ _ _ e
      · exact hK _ _ _ e
    · cases e
  | (_, _, 19, a, _, _, _, _), e => by
    simp only [step] at e
    split at e
    · obtain ⟨_, _, _, e⟩ := pF_inv e
      exact (PLe.put _ _ _).tr (hK _ _ _ e)
    · cases e
  | (_, _, 20, a, _, _, _, _), e => by
    simp only [step] at e
    split at e
    · split at e
      · obtain ⟨_, _, _, e⟩ := pF_inv e
        exact (PLe.put _ _ _).tr (hK _ _ _ e)
      · cases e
    · cases e
  | (_, _, 21, a, _, _, _, _), e => by
    simp only [step] at e
    split at e
    · obtain ⟨_, _, _, e⟩ := pF_inv e
      exact (PLe.put _ _ _).tr (hK _ _ _ e)
    · cases e
  | (_, _, 22, a, _, _, _, _), e => by
    simp only [step] at e
    split at e
    · obtain ⟨_, _, _, _, e⟩ := aI_inv e
      exact hK _ _ _ e
    · cases e
  | (_, _, 23, a, _, _, _, _), e => by
    simp only [step] at e
    split at e
    · obtain ⟨_, _, _, _, _, ⟨_, _, e⟩ | ⟨_, e⟩⟩ := aR_inv e
      · exact hK _ _ _ e
      · exact hK _ _ _ e
    · cases e
  | (_, _, 24, a, _, _, _, _), e => by
    simp only [step] at e
    split at e
    · obtain ⟨_, _, _, _, e⟩ := sI_inv e
      exact (PLe.put _ _ _).tr (hK _ _ _ e)
    · cases e
  | (_, _, 25, a, _, _, _, _), e => by
    simp only [step] at e
    split at e
    · obtain ⟨_, _, _, _, e⟩ := sI_inv e
      exact (PLe.put _ _ _).tr (hK _ _ _ e)
    · cases e
  | (_, _, 26, a, _, _, _, _), e => by
    simp only [step] at e
    split at e
    · obtain ⟨_, _, _, _, _, _, _, e⟩ := sR_inv e
      exact (PLe.put _ _ _).tr (hK _ _ _ e)
    · cases e
  | (_, _, 27, a, _, _, _, _), e => by
    simp only [step] at e
    split at e
    · obtain ⟨_, _, _, _, e⟩ := aL_inv e
      exact hK _ _ _ e
    · cases e
  | (_, _, 28, _, _, _, _, _), e => hK _ _ _ e
  | (_, _, 29, a, _, _, _, _), e => by
    simp only [step] at e
    exact (PLe.add _ _ _ _ _).tr (hK _ _ _ (nO_inv e).2.2)
  | (_, _, 30, a, _, _, _, _), e => by
    simp only [step] at e
    split at e
    · exact (PLe.add _ _ _ _ _).tr (hK _ _ _ (nA_inv e).2.2.2.2)
    · cases e
  | (_, _, 31, a, _, _, _, _), e => by
    simp only [step] at e
    split at e
    · exact (PLe.add _ _ _ _ _).tr (hK _ _ _ (nQ_inv e).2.2.2.2)
    · cases e
  | (_, _, 32, a, _, _, _, _), e => by
    simp only [step] at e
    split at e
    · split at e
      · exact hK _ _ _ e
      · cases e
    · cases e
  | (_, _, 33, a, _, _, _, _), e => by
    simp only [step] at e
    split at e
    · split at e
      · exact hK _ _ _ e
      · cases e
    · cases e
  | (_, _, 34, a, _, _, _, _), e => by
    simp only [step] at e
    split at e
    · split at e
      · exact hK _ _ _ e
      · cases e
    · cases e
  | (_, _, 35, a, _, _, _, _), e => by
    simp only [step] at e
    obtain ⟨-, e⟩ := ivk_inv e
    obtain ⟨_, _, e1, e⟩ := cI_inv e
    exact (hC _ _ _ _ _ e1).tr (hK _ _ _ e)
  | (_, _, 36, a, _, _, _, _), e => by
    simp only [step] at e
    obtain ⟨-, e⟩ := ivk_inv e
    obtain ⟨_, e1, e⟩ := cV_inv e
    exact (hC _ _ _ _ _ e1).tr (hK _ _ _ e)
  | (_, _, 37, a, _, _, _, _), e => by
    simp only [step] at e
    obtain ⟨-, e⟩ := ivk_inv e
    rcases cR_inv e with ⟨_, _, e1, e⟩ | ⟨_, e1, e⟩
    · exact (hC _ _ _ _ _ e1).tr (hK _ _ _ e)
    · exact (hC _ _ _ _ _ e1).tr (hK _ _ _ e)
  | (_, _, 38, a, _, _, _, _), e => by
    simp only [step] at e
    split at e
    · cases e; exact PLe.rf _
    · cases e
  | (_, _, 39, a, _, _, _, _), e => by
    simp only [step] at e
    split at e
    · cases e; exact PLe.rf _
    · cases e
  | (_, _, 40, a, _, _, _, _), e => by
    simp only [step] at e
    split at e
    · split at e
      · cases e; exact PLe.rf _
      · cases e
    · cases e
  | (_, _, 41, a, _, _, _, _), e => by
    simp only [step] at e
    split at e
    · cases e; exact PLe.rf _
    · cases e; exact PLe.rf _
    · cases e
  | (_, _, 42, _, _, _, _, _), e => hK _ _ _ e
  | (_, _, 43, a, _, _, _, _), e => by
    simp only [step] at e
    split at e
    · split at e
      · exact hK _ _ _ e
      · cases e
    · cases e
  | (_, _, 44, a, _, _, _, _), e => by
    simp only [step] at e
    split at e
    · split at e
      · obtain ⟨_, _, _, _, _, _, _, _, _, _, _, e⟩ := cpA_inv e
        exact (PLe.put _ _ _).tr (hK _ _ _ e)
      · cases e
    · cases e
  | (_, _, 45, _, _, _, _, _), e => hJ _ _ _ _ e
  | (_, _, 46, a, _, _, _, _), e => by
    simp only [step] at e
    split at e
    · split at e
      · obtain ⟨_, _, _, _, _, e⟩ := clA_inv e
        exact (PLe.add _ _ _ _ _).tr (hK _ _ _ e)
      · cases e
    · cases e
  | (_, _, 47, a, _, _, _, _), e => by
    simp only [step] at e
    split at e
    · split at e
      · exact hK _ _ _ e
      · cases e
    · cases e
  | (_, _, n + 48, a, _, _, _, _), e => by
    simp only [step] at e
    cases e
theorem run_mono {ro : RO} {J : Nat → PL → List Value → PH → PR} {C : Nat → List Value → PH → PR} {r : Option Value} {h' : PH}
    (hJ : ∀ t lv st h1, J t lv st h1 = some (r, h') → PLe h1 h') (hC : ∀ M as h1 v h2, C M as h1 = some (v, h2) → PLe h1 h2) :
    ∀ (is : List PI) (lv : PL) (st : List Value) (h : PH), run ro J C is lv st h = some (r, h') → PLe h h'
  | [], _, _, _, e => by cases e
  | i :: is, lv, st, h, e => step_mono hJ hC (run_mono hJ hC is) i e
theorem EXn_mono {ro : RO} {B : List (Nat × List PI)} {C : Nat → List Value → PH → PR} {r : Option Value} {h' : PH} (hC : ∀ M as h1 v h2, C M as h1 = some (v, h2) → PLe h1 h2) :
    ∀ (n t : Nat) (lv : PL) (st : List Value) (h : PH), EXn ro B C n t lv st h = some (r, h') → PLe h h'
  | 0, _, _, _, _, e => by cases e
  | n + 1, t, lv, st, h, e => run_mono (EXn_mono hC n) hC (pget B t) lv st h e
theorem CALL_mono {ro : RO} {P : Nat → List (Nat × List PI)} {mL : Nat → Nat} {F : Nat} :
    ∀ (d M : Nat) (as : List Value) (h : PH) (r : Option Value) (h' : PH), CALL ro P mL F d M as h = some (r, h') → PLe h h'
  | 0, _, _, _, _, _, e => by cases e
  | d + 1, M, as, h, r, h', e => by
    unfold CALL at e
    split at e
    · exact EXn_mono (CALL_mono d) F 0 _ _ _ e
    · cases e
end
section
/-! THE WORLD: what heap of the machine the pure cells stand for -/
def q_tr (ad : Nat → Nat) : Value → Value
  | .ref k => .ref (ad k)
  | v => v
theorem q_tr_cat (ad : Nat → Nat) (v : Value) : (q_tr ad v).category = v.category := by cases v <;> rfl
def q_trE (dA : Nat → ClassId) (ad : Nat → Nat) : PE → va_E
  | .inl (t, n, f) => .inl (dA t, n, .inl f)
  | .inr (.inl (t, n, g)) => .inl (dA t, n, .inr (.inr (.inr (.inr (fun i => (g i).map ad)))))
  | .inr (.inr (c, fs)) => .inr (c, fs.map (q_tr ad))
def q_WL (dA : Nat → ClassId) (ad : Nat → Nat) (h : PH) : va_W := h.2.2.1.map (fun k => (ad k, q_trE dA ad ((h.1 k).getD (.inr (.inr (0, []))))))
def tgT (t : Nat) : FieldType := match t with
  | 0 => .int
  | 1 => .boolean
  | 2 => .char
  | t => .object (vwCl.getD (t - 10) ("", TX0, 0)).1
def tgs : List Nat := [0, 1, 2, 13, 14, 17, 18]
def q_ok : PE → Prop
  | .inl (t, _, _) => t = 0 ∨ t = 1 ∨ t = 2
  | .inr (.inl (t, _, _)) => t = 13 ∨ t = 14 ∨ t = 17 ∨ t = 18
  | .inr (.inr (c, _)) => c < 12
abbrev q_A (base : Nat) : Nat → Prop := fun q => base ≤ q
/-- the heap holds the pure cells, each at its address -/
def q_Rep (D : va_G) (dA : Nat → ClassId) (base : Nat) (ad : Nat → Nat) (h : PH) (H : Heap) : Prop :=
  H.size = base + h.2.2.1.length ∧ h.2.2.1.Nodup ∧ (∀ k, (h.1 k).isSome = true ↔ k ∈ h.2.2.1) ∧ (∀ k ∈ h.2.2.1, k < 30000) ∧ (∀ k e, h.1 k = some e → q_ok e) ∧
  va_P D vwCl (q_WL dA ad h) H ∧ va_D (q_A base) (q_WL dA ad h)
theorem q_WL_at {dA : Nat → ClassId} {ad : Nat → Nat} {h : PH} {k i : Nat} {e : PE} (hi : h.2.2.1[i]? = some k) (he : h.1 k = some e) : (q_WL dA ad h)[i]? = some (ad k, q_trE dA ad e) := by
  simp [q_WL, hi, he]
theorem q_Rep.idx {D : va_G} {dA : Nat → ClassId} {base : Nat} {ad : Nat → Nat} {h : PH} {H : Heap} (hR : q_Rep D dA base ad h H) {k : Nat} {e : PE} (he : h.1 k = some e) : ∃ i : Nat, h.2.2.1[i]? = some k ∧ (q_WL dA ad h)[i]? = some (ad k, q_trE dA ad e) := by
  have hm : k ∈ h.2.2.1 := (hR.2.2.1 k).mp (by rw [he]; rfl)
  obtain ⟨i, hi⟩ := List.getElem?_of_mem hm
  exact ⟨i, hi, q_WL_at hi he⟩
theorem q_WL_put {dA : Nat → ClassId} {ad : Nat → Nat} {h : PH} {k i : Nat} {e : PE} (hn : h.2.2.1.Nodup) (hi : h.2.2.1[i]? = some k) : (q_WL dA ad h).set i (ad k, q_trE dA ad e) = q_WL dA ad (ph_put h k e) := by
  have hil : i < h.2.2.1.length := (List.getElem?_eq_some_iff.mp hi).1
  apply List.ext_getElem?
  intro j
  by_cases hj : j = i
  · subst hj
    rw [List.getElem?_set_self (by simpa [q_WL] using hil)]
    exact (q_WL_at (h := ph_put h k e) hi (by simp [ph_put, va_up])).symm
  · rw [List.getElem?_set_ne (Ne.symm hj)]
    show (h.2.2.1.map _)[j]? = ((ph_put h k e).2.2.1.map _)[j]?
    rw [List.getElem?_map, List.getElem?_map]
    show Option.map _ h.2.2.1[j]? = Option.map _ h.2.2.1[j]?
    cases hq : h.2.2.1[j]? with
    | none => rfl
    | some q =>
      have hne : q ≠ k := by
        intro e2
        subst e2
        obtain ⟨hjl, e1⟩ := List.getElem?_eq_some_iff.mp hq
        obtain ⟨hil', e3⟩ := List.getElem?_eq_some_iff.mp hi
        exact hj ((List.getElem_inj hn).mp (e1.trans e3.symm))
      simp [ph_put, va_up, hne]
/-- a cell is written -/
theorem q_Rep.put {D : va_G} {dA : Nat → ClassId} {base : Nat} {ad : Nat → Nat} {h : PH} {H H1 : Heap} {k i : Nat} {e0 e : PE} (hR : q_Rep D dA base ad h H) (he : h.1 k = some e0) (hi : h.2.2.1[i]? = some k) (ho : q_ok e) (hz : H1.size = H.size)
    (hP : va_P D vwCl ((q_WL dA ad h).set i (ad k, q_trE dA ad e)) H1) (hD : va_D (q_A base) ((q_WL dA ad h).set i (ad k, q_trE dA ad e))) : q_Rep D dA base ad (ph_put h k e) H1 := by
  obtain ⟨h1, h2, h3, h4, h5, -, -⟩ := hR
  rw [q_WL_put h2 hi] at hP hD
  refine ⟨hz.trans h1, h2, fun q => ?_, h4, fun q x hx => ?_, hP, hD⟩
  · by_cases hq : q = k
    · subst hq
      simp only [ph_put, va_up, if_pos]
      exact ⟨fun _ => (h3 q).mp (by rw [he]; rfl), fun _ => rfl⟩
    · have := h3 q
      simpa [ph_put, va_up, hq] using this
  · by_cases hq : q = k
    · subst hq
      simp [ph_put, va_up] at hx
      subst hx
      exact ho
    · simp [ph_put, va_up, hq] at hx
      exact h5 q x hx
/-- a cell is made -/
theorem q_Rep.add {D : va_G} {dA : Nat → ClassId} {base : Nat} {ad : Nat → Nat} {h : PH} {H H1 : Heap} {k kind n : Nat} {e : PE} (hR : q_Rep D dA base ad h H) (hk : h.1 k = none) (hlt : k < 30000) (ho : q_ok e) (hz : H1.size = H.size + 1) (ha : ad k = H.size)
    (hold : ∀ q, q < H.size → H1[q]? = H[q]?) (hat : va_at D vwCl (ad k, q_trE dA ad e) H1) : q_Rep D dA base ad (ph_add h k kind n e) H1 := by
  obtain ⟨h1, h2, h3, h4, h5, hP, hD⟩ := hR
  have hnm : k ∉ h.2.2.1 := fun hm => by
    have := (h3 k).mpr hm
    rw [hk] at this
    cases this
  have eWL : q_WL dA ad (ph_add h k kind n e) = q_WL dA ad h ++ [(ad k, q_trE dA ad e)] := by
    show (h.2.2.1 ++ [k]).map _ = _
    rw [List.map_append]
    congr 1
    · apply List.map_congr_left
      intro q hq
      have hne : q ≠ k := fun e2 => hnm (e2 ▸ hq)
      simp [ph_add, va_up, hne]
    · simp [ph_add, va_up]
  refine ⟨?_, ?_, fun q => ?_, fun q hq => ?_, fun q x hx => ?_, ?_, ?_⟩
  · rw [hz, h1]
    simp [ph_add]
    omega
  · show (h.2.2.1 ++ [k]).Nodup
    rw [List.nodup_append]
    refine ⟨h2, by simp, fun a ha2 b hb => ?_⟩
    rw [List.mem_singleton.mp hb]
    exact fun e2 => hnm (e2 ▸ ha2)
  · show (va_up h.1 k (some e) q).isSome = true ↔ q ∈ h.2.2.1 ++ [k]
    by_cases hq : q = k
    · subst hq
      simp [va_up]
    · have := h3 q
      simpa [va_up, hq] using this
  · rcases List.mem_append.mp (show q ∈ h.2.2.1 ++ [k] from hq) with hq | hq
    · exact h4 q hq
    · rw [List.mem_singleton.mp hq]; exact hlt
  · by_cases hq : q = k
    · subst hq
      simp [ph_add, va_up] at hx
      subst hx
      exact ho
    · simp [ph_add, va_up, hq] at hx
      exact h5 q x hx
  · rw [eWL]
    refine (hP.kept (fun j x hx => hold x.1 ((hP j x hx).lt))).app (fun j x hx => ?_)
    have hj : j < 1 := (List.getElem?_eq_some_iff.mp hx).1
    rw [show j = 0 by omega] at hx
    cases hx
    exact hat
  · rw [eWL]
    exact hD.push hP ha (by rw [ha, h1]; exact Nat.le_add_right _ _)
/-- one cell of it, as a world of its own -/
theorem q_Rep.one {D : va_G} {dA : Nat → ClassId} {base : Nat} {ad : Nat → Nat} {h : PH} {H : Heap} (hR : q_Rep D dA base ad h H) {k : Nat} {e : PE} (he : h.1 k = some e) : va_P D vwCl [(ad k, q_trE dA ad e)] H := by
  obtain ⟨i, -, hw⟩ := hR.idx he
  intro j x hx
  have hj : j < 1 := (List.getElem?_eq_some_iff.mp hx).1
  rw [show j = 0 by omega] at hx
  cases hx
  exact hR.2.2.2.2.2.1 i _ hw
/-! the locals -/
def q_LV (ad : Nat → Nat) (ls : Array Slot) (nL : Nat) (lv : PL) : Prop := ls.size = nL ∧ lv_wf ls ∧ lv.length = nL ∧ ∀ (i : Nat) (v : Value), lv[i]? = some (some v) → v.category = 1 ∧ ls[i]? = some (Slot.val (q_tr ad v))
def q_ll (ad : Nat → Nat) (lv : PL) : List (Nat × Value) := (List.range lv.length).filterMap (fun i => match lv[i]? with | some (some v) => some (i, q_tr ad v) | _ => none)
theorem q_ll_in {ad : Nat → Nat} {lv : PL} {q : Nat × Value} : q ∈ q_ll ad lv ↔ ∃ v : Value, lv[q.1]? = some (some v) ∧ q.2 = q_tr ad v := by
  unfold q_ll
  rw [List.mem_filterMap]
  constructor
  · rintro ⟨i, hi, hq⟩
    split at hq
    · rename_i v hv
      cases hq
      exact ⟨v, hv, rfl⟩
    · cases hq
  · rintro ⟨v, hv, e⟩
    refine ⟨q.1, List.mem_range.mpr (List.getElem?_eq_some_iff.mp hv).1, ?_⟩
    rw [hv]
    simp [← e]
theorem q_LV.has {ad : Nat → Nat} {ls : Array Slot} {nL : Nat} {lv : PL} (h : q_LV ad ls nL lv) : lv_has ls nL (q_ll ad lv) := by
  refine ⟨h.1, h.2.1, fun q hq => ?_⟩
  obtain ⟨v, hv, e⟩ := q_ll_in.mp hq
  rw [e]
  exact (h.2.2.2 _ _ hv).2
theorem q_LV.stored {ad : Nat → Nat} {ls ls' : Array Slot} {nL : Nat} {lv : PL} {i : Nat} {v : Value} (h : q_LV ad ls nL lv) (hi : i < nL) (hc : v.category = 1)
    (h' : lv_has ls' nL ((i, q_tr ad v) :: (q_ll ad lv).filter (fun q => !(q.1 == i) && !(q.1 + 1 == i && q.2.category == 2)))) : q_LV ad ls' nL (lv.set i (some v)) := by
  refine ⟨h'.1, h'.2.1, by rw [List.length_set]; exact h.2.2.1, fun j w hj => ?_⟩
  by_cases hji : j = i
  · subst hji
    rw [List.getElem?_set_self (by rw [h.2.2.1]; exact hi)] at hj
    cases hj
    exact ⟨hc, h'.2.2 (j, q_tr ad v) List.mem_cons_self⟩
  · rw [List.getElem?_set_ne (Ne.symm hji)] at hj
    have hw := h.2.2.2 j w hj
    refine ⟨hw.1, h'.2.2 (j, q_tr ad w) (List.mem_cons_of_mem _ (List.mem_filter.mpr ⟨q_ll_in.mpr ⟨w, hj, rfl⟩, ?_⟩))⟩
    have : (q_tr ad w).category = 1 := by rw [q_tr_cat]; exact hw.1
    simp [hji, this]
theorem q_LV_entry {ad : Nat → Nat} {nL : Nat} {as : List Value} (hc : ∀ v ∈ as, v.category = 1) (hl : as.length ≤ nL) :
    q_LV ad ((lg_sl (as.map (q_tr ad)) ++ List.replicate (nL - (lg_sl (as.map (q_tr ad))).length) Slot.unset).toArray) nL (entry nL as) := by
  have hcat : ∀ v ∈ as.map (q_tr ad), v.category = 1 := by
    intro v hv
    obtain ⟨w, hw, rfl⟩ := List.mem_map.mp hv
    rw [q_tr_cat]
    exact hc w hw
  have hsl : ∀ (l : List Value), (∀ v ∈ l, v.category = 1) → lg_sl l = l.map Slot.val := by
    intro l
    induction l with
    | nil => intro _; rfl
    | cons a l ih =>
      intro hl
      have ha : ¬ a.category = 2 := by have := hl a List.mem_cons_self; omega
      have ih' := ih (fun v hv => hl v (List.mem_cons_of_mem _ hv))
      unfold lg_sl at ih' ⊢
      rw [List.flatMap_cons, ih', if_neg ha]
      rfl
  rw [hsl _ hcat]
  have hlen : ((as.map (q_tr ad)).map Slot.val).length = as.length := by simp
  have hE := lv_entry (as.map (q_tr ad)) (n := nL) (by rw [hsl _ hcat, hlen]; exact hl)
  rw [hsl _ hcat] at hE
  refine ⟨hE.1, hE.2.1, by simp [entry]; omega, fun i v hi => ?_⟩
  unfold entry at hi
  have hia : i < as.length := by
    rcases Nat.lt_or_ge i as.length with q | q
    · exact q
    · rw [List.getElem?_append_right (by simpa using q)] at hi
      rw [List.getElem?_replicate] at hi
      split at hi <;> simp at hi
  rw [List.getElem?_append_left (by simpa using hia), List.getElem?_map, List.getElem?_eq_getElem hia] at hi
  cases hi
  refine ⟨hc _ (List.getElem_mem _), ?_⟩
  rw [List.getElem?_toArray, List.getElem?_append_left (by simpa using hia)]
  simp [hia]
/-! what stays as it is during a method: the tables, the static arrays -/
def statL : List (String × String) := [("EAST", "[I"), ("ABOVE", "[I"), ("BODIES", "[I"), ("LETTERS", "[C")]
def xok : Cond → Bool
  | .fieldLinkNest .. => true
  | .methodLinkNest .. => true
  | .castable .. => true
  | .arrayOver (.object _) => true
  | _ => false
theorem xok_moved {w : Cond} (hx : xok w = true) {s U : State} (hW : s.WarmedH U.vm) (h : va_Nw w s) : va_Nw w U := by
  unfold xok at hx
  split at hx
  · exact va_Nw.warmF hW h
  · exact va_Nw.warmM hW h
  · exact va_Nw.warmC hW h
  · exact va_AO.moved hW.alike h
  · cases hx
theorem xok_same {w : Cond} (hx : xok w = true) {s U : State} (hW : s.vm = U.vm) (h : va_Nw w s) : va_Nw w U := by
  unfold xok at hx
  split at hx
  · exact va_Nw.same rfl hW h
  · exact va_Nw.same rfl hW h
  · exact va_Nw.same rfl hW h
  · exact va_AO.moved (by rw [hW]; exact Vm.Alike.refl _) h
  · cases hx
def q_FX (D : va_G) (dA : Nat → ClassId) (base : Nat) (sa : Nat → Nat) (ro : RO) (tbl : List Cond) (s : State) : Prop :=
  (∀ (c : Nat) (q : vw_C), vwCl[c]? = some q → u_Kn s q.1 q.2.1 q.2.2 (D.1 c) (D.2 c)) ∧ (∀ t ∈ tgs, ArrOfT s (dA t) (tgT t) ∧ va_RA s (dA t) (tgT t)) ∧
  (∀ (i : Nat) (z : String × String), statL[i]? = some z → va_Z "PoleLogs" z.1 z.2 (.ref (sa (30000 + i))) (q_A base) s s.heap) ∧
  (∀ (k t n : Nat) (f : Nat → Int32), ro k = some (t, n, f) → (t = 0 ∨ t = 2) ∧ va_T (tgT t) (sa k) n (fun j => .int (f j)) (q_A base) s s.heap) ∧
  (∀ w ∈ tbl, xok w = true → va_Nw w s)
theorem q_FX.K {D : va_G} {dA : Nat → ClassId} {base : Nat} {sa : Nat → Nat} {ro : RO} {tbl : List Cond} {s : State} (h : q_FX D dA base sa ro tbl s) {t : Nat} (ht : t ∈ tgs) : va_K D vwCl [(dA t, tgT t)] s := by
  refine ⟨h.1, fun k q hk => ?_⟩
  have hj : k < 1 := (List.getElem?_eq_some_iff.mp hk).1
  rw [show k = 0 by omega] at hk
  cases hk
  exact h.2.1 t ht
theorem q_FX.same {D : va_G} {dA : Nat → ClassId} {base : Nat} {sa : Nat → Nat} {ro : RO} {tbl : List Cond} {s U : State} (h : q_FX D dA base sa ro tbl s) (hv : s.vm = U.vm) (hh : s.heap = U.heap) : q_FX D dA base sa ro tbl U := by
  have hA : s.vm.Alike U.vm := by rw [hv]; exact Vm.Alike.refl _
  exact ⟨fun c q hq => u_Kn_moved hA (h.1 c q hq), fun t ht => ⟨arrOfT_moved hA (h.2.1 t ht).1, (h.2.1 t ht).2.moved hA⟩, fun i z hz => by rw [← hh]; exact (h.2.2.1 i z hz).moved hA,
    fun k t n f hk => ⟨(h.2.2.2.1 k t n f hk).1, by rw [← hh]; exact (h.2.2.2.1 k t n f hk).2.moved hA⟩, fun w hw hx => xok_same hx hv (h.2.2.2.2 w hw hx)⟩
theorem q_FX.moved {D : va_G} {dA : Nat → ClassId} {base : Nat} {sa : Nat → Nat} {ro : RO} {tbl : List Cond} {s U : State} {H : Heap} {locs : List Loc} (h : q_FX D dA base sa ro tbl s) (hW : s.WarmedH U.vm) (hS : va_S (q_A base) s.heap H locs) (hh : U.heap = H) : q_FX D dA base sa ro tbl U := by
  have hA : s.vm.Alike U.vm := hW.alike
  have hq : ∀ a : Nat, a < s.heap.size → ¬ q_A base a → U.heap[a]? = s.heap[a]? := fun a h1 h2 => by rw [hh]; exact hS.2.1 a h1 h2
  exact ⟨fun c q hq => u_Kn_moved hA (h.1 c q hq), fun t ht => ⟨arrOfT_moved hA (h.2.1 t ht).1, (h.2.1 t ht).2.moved hA⟩, fun i z hz => ((h.2.2.1 i z hz).moved hA).kept hq,
    fun k t n f hk => ⟨(h.2.2.2.1 k t n f hk).1, ((h.2.2.2.1 k t n f hk).2.moved hA).kept hq⟩, fun w hw hx => xok_moved hx hW (h.2.2.2.2 w hw hx)⟩
end
section
/-! ONE INSTRUCTION OF THE PURE MACHINE is one of the machine -/
def q_WZ (p : Program) (l : Launch) (e : Env) (R : Room) (s : State) (m : MethodId) (args : Array Value) (below : List Frame) (meth : Method) (c : Code) (Q : State → Prop) (D : va_G) (dA : Nat → ClassId) (base : Nat) (ad : Nat → Nat) (nL : Nat) (h0 h : PH) (lv : PL) (pc : Nat) (st : List Value) : Prop :=
  ∀ (H : Heap) (locs : List Loc) (ls : Array Slot), q_Rep D dA base ad h H → va_S (q_A base) s.heap H locs → q_LV ad ls nL lv → PLe h0 h → W p l e R s m args below meth c H locs (h.2.2.1.length - h0.2.2.1.length) (h.2.2.2 - h0.2.2.2) Q (F0 m pc ls (st.map (q_tr ad)))
theorem q_cats (ad : Nat → Nat) : ∀ (st : List Value) (n : Nat), st.length ≤ n → ((st.map (q_tr ad)).map fun v => v.category).sum ≤ 2 * n
  | [], n, _ => by simp
  | v :: st, n, h => by
    have h1 := q_cats ad st (n - 1) (by simp at h; omega)
    have h2 : (q_tr ad v).category ≤ 2 := by rcases lv_cat (q_tr ad v) with q | q <;> omega
    simp only [List.map_cons, List.sum_cons]
    simp only [List.length_cons] at h
    omega
section WZ1
variable {p : Program} {l : Launch} {e : Env} {R : Room} {s : State} {m : MethodId} {args : Array Value} {below : List Frame} {meth : Method} {c : Code} {Q : State → Prop} {D : va_G} {dA : Nat → ClassId} {base : Nat} {ad : Nat → Nat} {nL : Nat} {h0 h : PH} {lv : PL} {pc : Nat} {st : List Value} {cc : ByteArray}
theorem wz_iconst (hx : p.tables.exec = Jvm.exec) (hb : c.code = cc) {n : Int} {v : Int32} (hd : decode cc pc = .ok (.iconst n, 1)) (hv : Int32.ofInt n = v) (k : q_WZ p l e R s m args below meth c Q D dA base ad nL h0 h lv (pc + 1) (.int v :: st)) : q_WZ p l e R s m args below meth c Q D dA base ad nL h0 h lv pc st := fun H locs ls a1 a2 a3 a4 => lv_iconst hx hb hd hv (k H locs ls a1 a2 a3 a4)
theorem wz_bipush (hx : p.tables.exec = Jvm.exec) (hb : c.code = cc) {n : Int} {v : Int32} (hd : decode cc pc = .ok (.bipush n, 2)) (hv : (Int8.ofInt n).toInt32 = v) (k : q_WZ p l e R s m args below meth c Q D dA base ad nL h0 h lv (pc + 2) (.int v :: st)) : q_WZ p l e R s m args below meth c Q D dA base ad nL h0 h lv pc st := fun H locs ls a1 a2 a3 a4 => lv_bipush hx hb hd hv (k H locs ls a1 a2 a3 a4)
theorem wz_sipush (hx : p.tables.exec = Jvm.exec) (hb : c.code = cc) {n : Int} {v : Int32} (hd : decode cc pc = .ok (.sipush n, 3)) (hv : (Int16.ofInt n).toInt32 = v) (k : q_WZ p l e R s m args below meth c Q D dA base ad nL h0 h lv (pc + 3) (.int v :: st)) : q_WZ p l e R s m args below meth c Q D dA base ad nL h0 h lv pc st := fun H locs ls a1 a2 a3 a4 => lv_sipush hx hb hd hv (k H locs ls a1 a2 a3 a4)
theorem wz_ldc (hx : p.tables.exec = Jvm.exec) (hb : c.code = cc) {own : String} {x : Nat} {v : Int32} (hown : s.vm.findClass own = some m.cls) (hw : (Jvm.Cond.constant own x v).before args s = true) (hd : decode cc pc = .ok (.ldc x, 2)) (k : q_WZ p l e R s m args below meth c Q D dA base ad nL h0 h lv (pc + 2) (.int v :: st)) : q_WZ p l e R s m args below meth c Q D dA base ad nL h0 h lv pc st := fun H locs ls a1 a2 a3 a4 => lv_ldc hx hb hown hw hd (k H locs ls a1 a2 a3 a4)
theorem wz_ldcw (hx : p.tables.exec = Jvm.exec) (hb : c.code = cc) {own : String} {x : Nat} {v : Int32} (hown : s.vm.findClass own = some m.cls) (hw : (Jvm.Cond.constant own x v).before args s = true) (hd : decode cc pc = .ok (.ldc_w x, 3)) (k : q_WZ p l e R s m args below meth c Q D dA base ad nL h0 h lv (pc + 3) (.int v :: st)) : q_WZ p l e R s m args below meth c Q D dA base ad nL h0 h lv pc st := fun H locs ls a1 a2 a3 a4 => lv_ldcw hx hb hown hw hd (k H locs ls a1 a2 a3 a4)
theorem wz_iload_n (hx : p.tables.exec = Jvm.exec) (hb : c.code = cc) {q : Fin 4} {a : Nat} {y : Int32} (hd : decode cc pc = .ok (.iload_n q, 1)) (hq : (q : Nat) = a) (hl : lv[a]? = some (some (.int y))) (k : q_WZ p l e R s m args below meth c Q D dA base ad nL h0 h lv (pc + 1) (.int y :: st)) : q_WZ p l e R s m args below meth c Q D dA base ad nL h0 h lv pc st := fun H locs ls a1 a2 a3 a4 => lv_iload_n hx hb hd hq (a3.2.2.2 _ _ hl).2 (k H locs ls a1 a2 a3 a4)
theorem wz_iload (hx : p.tables.exec = Jvm.exec) (hb : c.code = cc) {a : Nat} {y : Int32} (hd : decode cc pc = .ok (.iload a, 2)) (hl : lv[a]? = some (some (.int y))) (k : q_WZ p l e R s m args below meth c Q D dA base ad nL h0 h lv (pc + 2) (.int y :: st)) : q_WZ p l e R s m args below meth c Q D dA base ad nL h0 h lv pc st := fun H locs ls a1 a2 a3 a4 => lv_iload hx hb hd (a3.2.2.2 _ _ hl).2 (k H locs ls a1 a2 a3 a4)
theorem wz_aload_n (hx : p.tables.exec = Jvm.exec) (hb : c.code = cc) {q : Fin 4} {a : Nat} {y : Nat} (hd : decode cc pc = .ok (.aload_n q, 1)) (hq : (q : Nat) = a) (hl : lv[a]? = some (some (.ref y))) (k : q_WZ p l e R s m args below meth c Q D dA base ad nL h0 h lv (pc + 1) (.ref y :: st)) : q_WZ p l e R s m args below meth c Q D dA base ad nL h0 h lv pc st := fun H locs ls a1 a2 a3 a4 => lv_aload_n hx hb hd hq (a3.2.2.2 _ _ hl).2 (k H locs ls a1 a2 a3 a4)
theorem wz_aload (hx : p.tables.exec = Jvm.exec) (hb : c.code = cc) {a : Nat} {y : Nat} (hd : decode cc pc = .ok (.aload a, 2)) (hl : lv[a]? = some (some (.ref y))) (k : q_WZ p l e R s m args below meth c Q D dA base ad nL h0 h lv (pc + 2) (.ref y :: st)) : q_WZ p l e R s m args below meth c Q D dA base ad nL h0 h lv pc st := fun H locs ls a1 a2 a3 a4 => lv_aload hx hb hd (a3.2.2.2 _ _ hl).2 (k H locs ls a1 a2 a3 a4)
theorem wz_aload_nN (hx : p.tables.exec = Jvm.exec) (hb : c.code = cc) {q : Fin 4} {a : Nat} (hd : decode cc pc = .ok (.aload_n q, 1)) (hq : (q : Nat) = a) (hl : lv[a]? = some (some .null)) (k : q_WZ p l e R s m args below meth c Q D dA base ad nL h0 h lv (pc + 1) (.null :: st)) : q_WZ p l e R s m args below meth c Q D dA base ad nL h0 h lv pc st := fun H locs ls a1 a2 a3 a4 => lv_aload_nN hx hb hd hq (a3.2.2.2 _ _ hl).2 (k H locs ls a1 a2 a3 a4)
theorem wz_aloadN (hx : p.tables.exec = Jvm.exec) (hb : c.code = cc) {a : Nat} (hd : decode cc pc = .ok (.aload a, 2)) (hl : lv[a]? = some (some .null)) (k : q_WZ p l e R s m args below meth c Q D dA base ad nL h0 h lv (pc + 2) (.null :: st)) : q_WZ p l e R s m args below meth c Q D dA base ad nL h0 h lv pc st := fun H locs ls a1 a2 a3 a4 => lv_aloadN hx hb hd (a3.2.2.2 _ _ hl).2 (k H locs ls a1 a2 a3 a4)
theorem wz_istore_n (hx : p.tables.exec = Jvm.exec) (hb : c.code = cc) {q : Fin 4} {a : Nat} {y : Int32} (hd : decode cc pc = .ok (.istore_n q, 1)) (hq : (q : Nat) = a) (hn : a < nL) (k : q_WZ p l e R s m args below meth c Q D dA base ad nL h0 h (lv.set a (some (.int y))) (pc + 1) st) : q_WZ p l e R s m args below meth c Q D dA base ad nL h0 h lv pc (.int y :: st) := fun H locs ls a1 a2 a3 a4 => lv_istore_n hx hb hd hq a3.has hn rfl (fun ls' hl => k H locs ls' a1 a2 (a3.stored (v := .int y) hn rfl hl) a4)
theorem wz_istore (hx : p.tables.exec = Jvm.exec) (hb : c.code = cc) {a : Nat} {y : Int32} (hd : decode cc pc = .ok (.istore a, 2)) (hn : a < nL) (k : q_WZ p l e R s m args below meth c Q D dA base ad nL h0 h (lv.set a (some (.int y))) (pc + 2) st) : q_WZ p l e R s m args below meth c Q D dA base ad nL h0 h lv pc (.int y :: st) := fun H locs ls a1 a2 a3 a4 => lv_istore hx hb hd a3.has hn rfl (fun ls' hl => k H locs ls' a1 a2 (a3.stored (v := .int y) hn rfl hl) a4)
theorem wz_astore_n (hx : p.tables.exec = Jvm.exec) (hb : c.code = cc) {q : Fin 4} {a : Nat} {y : Nat} (hd : decode cc pc = .ok (.astore_n q, 1)) (hq : (q : Nat) = a) (hn : a < nL) (k : q_WZ p l e R s m args below meth c Q D dA base ad nL h0 h (lv.set a (some (.ref y))) (pc + 1) st) : q_WZ p l e R s m args below meth c Q D dA base ad nL h0 h lv pc (.ref y :: st) := fun H locs ls a1 a2 a3 a4 => lv_astore_n hx hb hd hq a3.has hn rfl (fun ls' hl => k H locs ls' a1 a2 (a3.stored (v := .ref y) hn rfl hl) a4)
theorem wz_astore (hx : p.tables.exec = Jvm.exec) (hb : c.code = cc) {a : Nat} {y : Nat} (hd : decode cc pc = .ok (.astore a, 2)) (hn : a < nL) (k : q_WZ p l e R s m args below meth c Q D dA base ad nL h0 h (lv.set a (some (.ref y))) (pc + 2) st) : q_WZ p l e R s m args below meth c Q D dA base ad nL h0 h lv pc (.ref y :: st) := fun H locs ls a1 a2 a3 a4 => lv_astore hx hb hd a3.has hn rfl (fun ls' hl => k H locs ls' a1 a2 (a3.stored (v := .ref y) hn rfl hl) a4)
theorem wz_astore_nN (hx : p.tables.exec = Jvm.exec) (hb : c.code = cc) {q : Fin 4} {a : Nat} (hd : decode cc pc = .ok (.astore_n q, 1)) (hq : (q : Nat) = a) (hn : a < nL) (k : q_WZ p l e R s m args below meth c Q D dA base ad nL h0 h (lv.set a (some .null)) (pc + 1) st) : q_WZ p l e R s m args below meth c Q D dA base ad nL h0 h lv pc (.null :: st) := fun H locs ls a1 a2 a3 a4 => lv_astore_nN hx hb hd hq a3.has hn rfl (fun ls' hl => k H locs ls' a1 a2 (a3.stored (v := .null) hn rfl hl) a4)
theorem wz_astoreN (hx : p.tables.exec = Jvm.exec) (hb : c.code = cc) {a : Nat} (hd : decode cc pc = .ok (.astore a, 2)) (hn : a < nL) (k : q_WZ p l e R s m args below meth c Q D dA base ad nL h0 h (lv.set a (some .null)) (pc + 2) st) : q_WZ p l e R s m args below meth c Q D dA base ad nL h0 h lv pc (.null :: st) := fun H locs ls a1 a2 a3 a4 => lv_astoreN hx hb hd a3.has hn rfl (fun ls' hl => k H locs ls' a1 a2 (a3.stored (v := .null) hn rfl hl) a4)
theorem wz_iinc (hx : p.tables.exec = Jvm.exec) (hb : c.code = cc) {a : Nat} {n : Int} {y v : Int32} (hd : decode cc pc = .ok (.iinc a n, 3)) (hv : Int32.ofInt n = v) (hl : lv[a]? = some (some (.int y))) (hn : a < nL) (k : q_WZ p l e R s m args below meth c Q D dA base ad nL h0 h (lv.set a (some (.int (y + v)))) (pc + 3) st) : q_WZ p l e R s m args below meth c Q D dA base ad nL h0 h lv pc st := by
  intro H locs ls a1 a2 a3 a4
  have hm : (a, Value.int y) ∈ q_ll ad lv := q_ll_in.mpr ⟨.int y, hl, rfl⟩
  obtain ⟨j, hj⟩ := List.getElem?_of_mem hm
  exact lv_iinc hx hb hd a3.has hj (by rw [hv]) hn rfl (fun ls' hl => k H locs ls' a1 a2 (a3.stored (v := .int (y + v)) hn rfl hl) a4)
theorem wz_bop (hx : p.tables.exec = Jvm.exec) (hb : c.code = cc) {a : Nat} {y z : Int32} {ins : Instr} (hd : decode cc pc = .ok (ins, 1)) (hi : ins = match a with | 0 => .iadd | 1 => .isub | 2 => .imul | 3 => .iand | 4 => .ior | 5 => .ixor | 6 => .ishl | 7 => .ishr | _ => .iushr) (k : q_WZ p l e R s m args below meth c Q D dA base ad nL h0 h lv (pc + 1) (.int (bop a z y) :: st)) : q_WZ p l e R s m args below meth c Q D dA base ad nL h0 h lv pc (.int y :: .int z :: st) := by
  intro H locs ls a1 a2 a3 a4
  have k := k H locs ls a1 a2 a3 a4
  subst hi
  match a, hd, k with
  | 0, hd, k => exact lv_iadd hx hb hd k
  | 1, hd, k => exact lv_isub hx hb hd k
  | 2, hd, k => exact lv_imul hx hb hd k
  | 3, hd, k => exact lv_iand hx hb hd k
  | 4, hd, k => exact lv_ior hx hb hd k
  | 5, hd, k => exact lv_ixor hx hb hd k
  | 6, hd, k => exact lv_ishl hx hb hd k
  | 7, hd, k => exact lv_ishr hx hb hd k
  | _ + 8, hd, k => exact lv_iushr hx hb hd rfl k
theorem wz_idiv (hx : p.tables.exec = Jvm.exec) (hb : c.code = cc) {y z : Int32} (hd : decode cc pc = .ok (.idiv, 1)) (hy : ¬ y = 0) (k : q_WZ p l e R s m args below meth c Q D dA base ad nL h0 h lv (pc + 1) (.int (z / y) :: st)) : q_WZ p l e R s m args below meth c Q D dA base ad nL h0 h lv pc (.int y :: .int z :: st) := fun H locs ls a1 a2 a3 a4 => lv_idiv hx hb hd hy (k H locs ls a1 a2 a3 a4)
theorem wz_irem (hx : p.tables.exec = Jvm.exec) (hb : c.code = cc) {y z : Int32} (hd : decode cc pc = .ok (.irem, 1)) (hy : ¬ y = 0) (k : q_WZ p l e R s m args below meth c Q D dA base ad nL h0 h lv (pc + 1) (.int (z - z / y * y) :: st)) : q_WZ p l e R s m args below meth c Q D dA base ad nL h0 h lv pc (.int y :: .int z :: st) := fun H locs ls a1 a2 a3 a4 => lv_irem hx hb hd hy (k H locs ls a1 a2 a3 a4)
theorem wz_uop (hx : p.tables.exec = Jvm.exec) (hb : c.code = cc) {a : Nat} {z : Int32} {ins : Instr} (hd : decode cc pc = .ok (ins, 1)) (hi : ins = match a with | 0 => .ineg | 1 => .i2b | _ => .i2s) (k : q_WZ p l e R s m args below meth c Q D dA base ad nL h0 h lv (pc + 1) (.int (uop a z) :: st)) : q_WZ p l e R s m args below meth c Q D dA base ad nL h0 h lv pc (.int z :: st) := by
  intro H locs ls a1 a2 a3 a4
  have k := k H locs ls a1 a2 a3 a4
  subst hi
  match a, hd, k with
  | 0, hd, k => exact lv_ineg hx hb hd k
  | 1, hd, k => exact lv_i2b hx hb hd rfl k
  | _ + 2, hd, k => exact lv_i2s hx hb hd rfl k
theorem wz_if (hx : p.tables.exec = Jvm.exec) (hb : c.code = cc) {a b : Nat} {z : Int32} {off : Int} {q : Jvm.ClassFile.Cond} {T F : PR} {r : Option Value × PH} (hd : decode cc pc = .ok (.ifCond q off, 3)) (hi : q = match a with | 0 => .eq | 1 => .ne | 2 => .lt | 3 => .ge | 4 => .gt | _ => .le) (ho : (pc : Int) + off = (b : Int)) (hs : cnd a z 0 T F = some r) (kt : T = some r → q_WZ p l e R s m args below meth c Q D dA base ad nL h0 h lv b st) (kf : F = some r → q_WZ p l e R s m args below meth c Q D dA base ad nL h0 h lv (pc + 3) st) : q_WZ p l e R s m args below meth c Q D dA base ad nL h0 h lv pc (.int z :: st) := by
  intro H locs ls a1 a2 a3 a4
  subst hi
  match a, hd, hs with
  | 0, hd, hs => exact lv_if_eq hx hb hd ho (fun w => kt (by simpa [cnd, w] using hs) H locs ls a1 a2 a3 a4) (fun w => kf (by simpa [cnd, w] using hs) H locs ls a1 a2 a3 a4)
  | 1, hd, hs => exact lv_if_ne hx hb hd ho (fun w => kt (by simpa [cnd, w] using hs) H locs ls a1 a2 a3 a4) (fun w => kf (by simpa [cnd, w] using hs) H locs ls a1 a2 a3 a4)
  | 2, hd, hs => exact lv_if_lt hx hb hd ho (fun w => kt (by simpa [cnd, w] using hs) H locs ls a1 a2 a3 a4) (fun w => kf (by simpa [cnd, w] using hs) H locs ls a1 a2 a3 a4)
  | 3, hd, hs => exact lv_if_ge hx hb hd ho (fun w => kt (by rw [cnd, if_neg (Int32.not_lt.mpr w)] at hs; exact hs) H locs ls a1 a2 a3 a4) (fun w => kf (by rw [cnd, if_pos (Int32.not_le.mp w)] at hs; exact hs) H locs ls a1 a2 a3 a4)
  | 4, hd, hs => exact lv_if_gt hx hb hd ho (fun w => kt (by rw [cnd, if_pos w] at hs; exact hs) H locs ls a1 a2 a3 a4) (fun w => kf (by rw [cnd, if_neg w] at hs; exact hs) H locs ls a1 a2 a3 a4)
  | _ + 5, hd, hs =>
    have hs : (if 0 < z then F else T) = some r := hs
    exact lv_if_le hx hb hd ho (fun w => kt (by rw [if_neg (Int32.not_lt.mpr w)] at hs; exact hs) H locs ls a1 a2 a3 a4) (fun w => kf (by rw [if_pos (Int32.not_le.mp w)] at hs; exact hs) H locs ls a1 a2 a3 a4)
theorem wz_icmp (hx : p.tables.exec = Jvm.exec) (hb : c.code = cc) {a b : Nat} {y z : Int32} {off : Int} {q : Jvm.ClassFile.Cond} {T F : PR} {r : Option Value × PH} (hd : decode cc pc = .ok (.if_icmp q off, 3)) (hi : q = match a with | 0 => .eq | 1 => .ne | 2 => .lt | 3 => .ge | 4 => .gt | _ => .le) (ho : (pc : Int) + off = (b : Int)) (hs : cnd a z y T F = some r) (kt : T = some r → q_WZ p l e R s m args below meth c Q D dA base ad nL h0 h lv b st) (kf : F = some r → q_WZ p l e R s m args below meth c Q D dA base ad nL h0 h lv (pc + 3) st) : q_WZ p l e R s m args below meth c Q D dA base ad nL h0 h lv pc (.int y :: .int z :: st) := by
  intro H locs ls a1 a2 a3 a4
  subst hi
  match a, hd, hs with
  | 0, hd, hs => exact lv_icmp_eq hx hb hd ho (fun w => kt (by simpa [cnd, w] using hs) H locs ls a1 a2 a3 a4) (fun w => kf (by simpa [cnd, w] using hs) H locs ls a1 a2 a3 a4)
  | 1, hd, hs => exact lv_icmp_ne hx hb hd ho (fun w => kt (by simpa [cnd, w] using hs) H locs ls a1 a2 a3 a4) (fun w => kf (by simpa [cnd, w] using hs) H locs ls a1 a2 a3 a4)
  | 2, hd, hs => exact lv_icmp_lt hx hb hd ho (fun w => kt (by simpa [cnd, w] using hs) H locs ls a1 a2 a3 a4) (fun w => kf (by simpa [cnd, w] using hs) H locs ls a1 a2 a3 a4)
  | 3, hd, hs => exact lv_icmp_ge hx hb hd ho (fun w => kt (by rw [cnd, if_neg (Int32.not_lt.mpr w)] at hs; exact hs) H locs ls a1 a2 a3 a4) (fun w => kf (by rw [cnd, if_pos (Int32.not_le.mp w)] at hs; exact hs) H locs ls a1 a2 a3 a4)
  | 4, hd, hs => exact lv_icmp_gt hx hb hd ho (fun w => kt (by rw [cnd, if_pos w] at hs; exact hs) H locs ls a1 a2 a3 a4) (fun w => kf (by rw [cnd, if_neg w] at hs; exact hs) H locs ls a1 a2 a3 a4)
  | _ + 5, hd, hs =>
    have hs : (if y < z then F else T) = some r := hs
    exact lv_icmp_le hx hb hd ho (fun w => kt (by rw [if_neg (Int32.not_lt.mpr w)] at hs; exact hs) H locs ls a1 a2 a3 a4) (fun w => kf (by rw [if_pos (Int32.not_le.mp w)] at hs; exact hs) H locs ls a1 a2 a3 a4)
theorem wz_ifnull (hx : p.tables.exec = Jvm.exec) (hb : c.code = cc) {y : Nat} {off : Int} (hd : decode cc pc = .ok (.ifnull off, 3)) (k : q_WZ p l e R s m args below meth c Q D dA base ad nL h0 h lv (pc + 3) st) : q_WZ p l e R s m args below meth c Q D dA base ad nL h0 h lv pc (.ref y :: st) := fun H locs ls a1 a2 a3 a4 => lv_ifnull hx hb hd (k H locs ls a1 a2 a3 a4)
theorem wz_ifnullN (hx : p.tables.exec = Jvm.exec) (hb : c.code = cc) {b : Nat} {off : Int} (hd : decode cc pc = .ok (.ifnull off, 3)) (ho : (pc : Int) + off = (b : Int)) (k : q_WZ p l e R s m args below meth c Q D dA base ad nL h0 h lv b st) : q_WZ p l e R s m args below meth c Q D dA base ad nL h0 h lv pc (.null :: st) := fun H locs ls a1 a2 a3 a4 => lv_ifnullN hx hb hd ho (k H locs ls a1 a2 a3 a4)
theorem wz_ifnonnull (hx : p.tables.exec = Jvm.exec) (hb : c.code = cc) {y b : Nat} {off : Int} (hd : decode cc pc = .ok (.ifnonnull off, 3)) (ho : (pc : Int) + off = (b : Int)) (k : q_WZ p l e R s m args below meth c Q D dA base ad nL h0 h lv b st) : q_WZ p l e R s m args below meth c Q D dA base ad nL h0 h lv pc (.ref y :: st) := fun H locs ls a1 a2 a3 a4 => lv_ifnonnull hx hb hd ho (k H locs ls a1 a2 a3 a4)
theorem wz_ifnonnullN (hx : p.tables.exec = Jvm.exec) (hb : c.code = cc) {off : Int} (hd : decode cc pc = .ok (.ifnonnull off, 3)) (k : q_WZ p l e R s m args below meth c Q D dA base ad nL h0 h lv (pc + 3) st) : q_WZ p l e R s m args below meth c Q D dA base ad nL h0 h lv pc (.null :: st) := fun H locs ls a1 a2 a3 a4 => lv_ifnonnullN hx hb hd (k H locs ls a1 a2 a3 a4)
theorem wz_goto (hx : p.tables.exec = Jvm.exec) (hb : c.code = cc) {b : Nat} {off : Int} (hd : decode cc pc = .ok (.goto off, 3)) (ho : (pc : Int) + off = (b : Int)) (k : q_WZ p l e R s m args below meth c Q D dA base ad nL h0 h lv b st) : q_WZ p l e R s m args below meth c Q D dA base ad nL h0 h lv pc st := fun H locs ls a1 a2 a3 a4 => lv_goto hx hb hd ho (k H locs ls a1 a2 a3 a4)
theorem wz_dup (hx : p.tables.exec = Jvm.exec) (hb : c.code = cc) {y : Value} (hd : decode cc pc = .ok (.dup, 1)) (hy : y.category = 1) (k : q_WZ p l e R s m args below meth c Q D dA base ad nL h0 h lv (pc + 1) (y :: y :: st)) : q_WZ p l e R s m args below meth c Q D dA base ad nL h0 h lv pc (y :: st) := fun H locs ls a1 a2 a3 a4 => lv_dup hx hb hd ((q_tr_cat ad y).trans hy) (k H locs ls a1 a2 a3 a4)
theorem wz_dup2 (hx : p.tables.exec = Jvm.exec) (hb : c.code = cc) {y z : Value} (hd : decode cc pc = .ok (.dup2, 1)) (hy : y.category = 1) (hz : z.category = 1) (k : q_WZ p l e R s m args below meth c Q D dA base ad nL h0 h lv (pc + 1) (y :: z :: y :: z :: st)) : q_WZ p l e R s m args below meth c Q D dA base ad nL h0 h lv pc (y :: z :: st) := fun H locs ls a1 a2 a3 a4 => lv_dup2_11 hx hb hd ((q_tr_cat ad y).trans hy) ((q_tr_cat ad z).trans hz) (k H locs ls a1 a2 a3 a4)
theorem wz_pop (hx : p.tables.exec = Jvm.exec) (hb : c.code = cc) {y : Value} (hd : decode cc pc = .ok (.pop, 1)) (hy : y.category = 1) (k : q_WZ p l e R s m args below meth c Q D dA base ad nL h0 h lv (pc + 1) st) : q_WZ p l e R s m args below meth c Q D dA base ad nL h0 h lv pc (y :: st) := fun H locs ls a1 a2 a3 a4 => lv_pop hx hb hd ((q_tr_cat ad y).trans hy) (k H locs ls a1 a2 a3 a4)
theorem wz_null (hx : p.tables.exec = Jvm.exec) (hb : c.code = cc) (hd : decode cc pc = .ok (.aconst_null, 1)) (k : q_WZ p l e R s m args below meth c Q D dA base ad nL h0 h lv (pc + 1) (.null :: st)) : q_WZ p l e R s m args below meth c Q D dA base ad nL h0 h lv pc st := fun H locs ls a1 a2 a3 a4 => lv_null hx hb hd (k H locs ls a1 a2 a3 a4)
theorem swt_inv {F : Nat → PR} {b : Nat} {y : Int32} {r : Option Value × PH} : ∀ {ts : List Nat} {v : Int32}, v.toInt + ts.length < 2 ^ 31 → swt F b y ts v = some r → (∃ (j t : Nat), ts[j]? = some t ∧ y.toInt = v.toInt + j ∧ F t = some r) ∨ ((y.toInt < v.toInt ∨ v.toInt + ts.length - 1 < y.toInt) ∧ F b = some r)
  | [], v, _, hs => Or.inr ⟨by simp; omega, hs⟩
  | t :: ts, v, hb, hs => by
    simp only [List.length_cons] at hb
    unfold swt at hs
    split at hs
    · rename_i hy
      exact Or.inl ⟨0, t, rfl, by rw [hy]; simp, hs⟩
    · rename_i hy
      have h1 : (v + 1).toInt = v.toInt + 1 := by
        rw [Int32.toInt_add]
        have hlo := Int32.le_toInt v
        have : (1 : Int32).toInt = 1 := by decide
        rw [this]
        apply Int.bmod_eq_of_le <;> omega
      rcases swt_inv (ts := ts) (v := v + 1) (by rw [h1]; omega) hs with ⟨j, t', g1, g2, g3⟩ | ⟨g1, g2⟩
      · exact Or.inl ⟨j + 1, t', by simpa using g1, by rw [g2, h1]; omega, g3⟩
      · refine Or.inr ⟨?_, g2⟩
        have hne : y.toInt ≠ v.toInt := fun q => hy (Int32.toInt_inj.mp q)
        rw [h1] at g1
        simp only [List.length_cons]
        omega
theorem wz_table (hx : p.tables.exec = Jvm.exec) (hb : c.code = cc) {b len : Nat} {y v : Int32} {ts : List Nat} {dflt lo hi : Int} {offs : Array Int} {F : Nat → PR} {r : Option Value × PH} (hd : decode cc pc = .ok (.tableswitch dflt lo hi offs, len)) (hlo : lo = v.toInt) (hhi : hi = v.toInt + ts.length - 1) (hof : offs = (ts.map fun t : Nat => (t : Int) - (pc : Int)).toArray) (hdf : dflt = (b : Int) - (pc : Int)) (hbd : v.toInt + ts.length < 2 ^ 31)
    (hs : swt F b y ts v = some r) (k : ∀ t, F t = some r → q_WZ p l e R s m args below meth c Q D dA base ad nL h0 h lv t st) : q_WZ p l e R s m args below meth c Q D dA base ad nL h0 h lv pc (.int y :: st) := by
  intro H locs ls a1 a2 a3 a4
  subst hlo hhi hof hdf
  rcases swt_inv hbd hs with ⟨j, t, g1, g2, g3⟩ | ⟨g1, g2⟩
  · have hj := (List.getElem?_eq_some_iff.mp g1).1
    refine lv_tableIn (tgt := t) (off := (t : Int) - (pc : Int)) hx hb hd (by omega) (by omega) ?_ (by omega) (k t g3 H locs ls a1 a2 a3 a4)
    rw [show (y.toInt - v.toInt).toNat = j by omega]
    simp [g1]
  · exact lv_tableOut (tgt := b) hx hb hd g1 (by omega) (k b g2 H locs ls a1 a2 a3 a4)
def q_prs (pc : Nat) : List Nat → List (Int × Int)
  | a :: t :: ts => ((a : Int), (t : Int) - (pc : Int)) :: q_prs pc ts
  | _ => []
theorem swl_inv {F : Nat → PR} {b pc : Nat} {y : Int32} {r : Option Value × PH} : ∀ {ts : List Nat}, (∀ q ∈ q_prs pc ts, q.1 < 2 ^ 31) → swl F b y ts = some r → ∃ t : Nat, Op.lookupswitch.offset (q_prs pc ts) ((b : Int) - (pc : Int)) y.toInt = (t : Int) - (pc : Int) ∧ F t = some r
  | [], _, hs => ⟨b, rfl, hs⟩
  | [_], _, hs => ⟨b, rfl, hs⟩
  | a :: t :: ts, hb, hs => by
    unfold swl at hs
    have ha : (a : Int) < 2 ^ 31 := hb ((a : Int), (t : Int) - (pc : Int)) List.mem_cons_self
    have hk : (Int32.ofNat a).toInt = (a : Int) := nI_toInt (n := a) (by omega)
    split at hs
    · rename_i hy
      refine ⟨t, ?_, hs⟩
      show Op.lookupswitch.offset (((a : Int), (t : Int) - (pc : Int)) :: q_prs pc ts) _ _ = _
      rw [Op.lookupswitch.offset_cons, if_pos]
      rw [hy, hk]
    · rename_i hy
      obtain ⟨t', g1, g2⟩ := swl_inv (ts := ts) (fun q hq => hb q (List.mem_cons_of_mem _ hq)) hs
      exact ⟨t', by rw [← g1]; exact lv_osw hy hk, g2⟩
theorem wz_lookup (hx : p.tables.exec = Jvm.exec) (hb : c.code = cc) {b len : Nat} {y : Int32} {ts : List Nat} {dflt : Int} {ps : Array (Int × Int)} {F : Nat → PR} {r : Option Value × PH} (hd : decode cc pc = .ok (.lookupswitch dflt ps, len)) (hps : ps = (q_prs pc ts).toArray) (hdf : dflt = (b : Int) - (pc : Int)) (hbd : ∀ q ∈ q_prs pc ts, q.1 < 2 ^ 31)
    (hso : (ps.toList.zip (ps.toList.drop 1)).all (fun (a, next) => a.1 < next.1) = true) (hs : swl F b y ts = some r) (k : ∀ t, F t = some r → q_WZ p l e R s m args below meth c Q D dA base ad nL h0 h lv t st) : q_WZ p l e R s m args below meth c Q D dA base ad nL h0 h lv pc (.int y :: st) := by
  intro H locs ls a1 a2 a3 a4
  subst hps hdf
  obtain ⟨t, g1, g2⟩ := swl_inv (pc := pc) hbd hs
  exact lv_lookup (tgt := t) hx hb hd hso g1 (by omega) (k t g2 H locs ls a1 a2 a3 a4)
end WZ1
end
section
/-! the heap's instructions -/
theorem q_trd (ad : Nat → Nat) (ty : FieldType) : q_tr ad (defaultValue ty) = defaultValue ty := by cases ty <;> rfl
theorem q_FX.K0 {D : va_G} {dA : Nat → ClassId} {base : Nat} {sa : Nat → Nat} {ro : RO} {tbl : List Cond} {s : State} (h : q_FX D dA base sa ro tbl s) : va_K D vwCl [] s := ⟨h.1, fun k q hk => by simp at hk⟩
section WZ2
variable {p : Program} {l : Launch} {e : Env} {R : Room} {s : State} {m : MethodId} {args : Array Value} {below : List Frame} {meth : Method} {c : Code} {Q : State → Prop} {D : va_G} {dA : Nat → ClassId} {base : Nat} {ad : Nat → Nat} {nL : Nat} {h0 h : PH} {lv : PL} {pc : Nat} {st : List Value} {cc : ByteArray} {sa : Nat → Nat} {ro : RO} {tbl : List Cond} {own : String}
theorem wz_get (hx : p.tables.exec = Jvm.exec) (hb : c.code = cc) (hF : q_FX D dA base sa ro tbl s) (hown : s.vm.findClass own = some m.cls) {ci j x k : Nat} {C : String} {T : u_T} {N : Nat} {fs : List Value} {v : Value} (hc : vwCl[ci]? = some (C, T, N)) (hU : ∀ w ∈ u_ws C T N, w.before args s = true) (hj : j < N) (hl : (Cond.fieldLink own x (T j).1 (T j).2.1 (T j).2.2.1).before args s = true)
    (hk : h.1 k = some (.inr (.inr (ci, fs)))) (hv : fs[j]? = some v) (hd : decode cc pc = .ok (.getfield x, 3)) (kk : q_WZ p l e R s m args below meth c Q D dA base ad nL h0 h lv (pc + 3) (v :: st)) : q_WZ p l e R s m args below meth c Q D dA base ad nL h0 h lv pc (.ref k :: st) := fun H locs ls a1 a2 a3 a4 =>
  va_get hx hb hU (fun _ w => w) hown hF.K0 (a1.one hk) 0 rfl hc j hj hl (fun _ w => w) (v := q_tr ad v) (by rw [List.getElem?_map, hv]; rfl) hd (kk H locs ls a1 a2 a3 a4)
theorem wz_put (hx : p.tables.exec = Jvm.exec) (hb : c.code = cc) (hF : q_FX D dA base sa ro tbl s) (hown : s.vm.findClass own = some m.cls) {ci j x k : Nat} {C : String} {T : u_T} {N : Nat} {fs : List Value} {v : Value} (hc : vwCl[ci]? = some (C, T, N)) (hU : ∀ w ∈ u_ws C T N, w.before args s = true) (hty : ∀ k, k < N → parseFieldDescriptor (T k).2.2.1 = some (clT ci k)) (hnm : ∀ a, a < N → ∀ b, b < N → a ≠ b → (T a).2.1 ≠ (T b).2.1) (hj : j < N) (hl : (Cond.fieldLink own x (T j).1 (T j).2.1 (T j).2.2.1).before args s = true)
    (hfin : (T j).2.2.2 = false ∨ ((T j).2.2.2 = true ∧ meth.name = "<init>" ∧ (T j).1 = own)) (hn : narrow (clT ci j) (q_tr ad v) = q_tr ad v) (hfit : fits (clT ci j) (q_tr ad v) = true) (hlt : ci < 12)
    (hk : h.1 k = some (.inr (.inr (ci, fs)))) (hjl : j < fs.length) (hd : decode cc pc = .ok (.putfield x, 3)) (kk : q_WZ p l e R s m args below meth c Q D dA base ad nL h0 (ph_put h k (.inr (.inr (ci, fs.set j v)))) lv (pc + 3) st) : q_WZ p l e R s m args below meth c Q D dA base ad nL h0 h lv pc (v :: .ref k :: st) := by
  intro H locs ls a1 a2 a3 a4
  obtain ⟨i, hi, hw⟩ := a1.idx hk
  have hP := a1.2.2.2.2.2.1
  have hD := a1.2.2.2.2.2.2
  have hap := va_apart (own := own) hU (fun _ w => w) (clT ci) hty hnm hF.K0 hc
  obtain ⟨r, h1, cell, q1, q2, q3, q4⟩ := hP i _ hw
  have hr : r = (C, T, N) := Option.some.inj (h1.symm.trans hc)
  subst hr
  obtain ⟨hS, hfc, kC, hkC, hkind⟩ := hF.1 ci _ hc
  obtain ⟨cf, kf, fi, f, hi2, hsl⟩ := hS j hj
  have hlay := hU _ (u_in_lay hj)
  have hst := (u_facts hfc hkC (u_lays hU (fun _ w => w) hj) hi2).1
  have fin : ∀ H1 : Heap, H1[ad k]? = some (cell.setSlot f.slot (q_tr ad v)) → H1.size = H.size → (∀ q, q ≠ ad k → H1[q]? = H[q]?) → W p l e R s m args below meth c H1 (locs ++ [⟨ad k, f.slot⟩]) (h.2.2.1.length - h0.2.2.1.length) (h.2.2.2 - h0.2.2.2) Q (F0 m (pc + 3) ls (st.map (q_tr ad))) := by
    intro H1 e1 e2 e3
    rw [hsl] at e1 ⊢
    have hat : va_at D vwCl (ad k, q_trE dA ad (.inr (.inr (ci, fs.set j v)))) H1 := by
      refine ⟨_, hc, t_OB.to (V := updV (vp_V (fs.map (q_tr ad))) j (q_tr ad v)) ⟨_, e1, q2, q3, t_set q4 hap hj (q_tr ad v)⟩ (fun y _ => ?_)⟩
      rw [vp_updV_set (by simpa using hjl), List.map_set]
    exact kk H1 _ ls (a1.put (e := .inr (.inr (ci, fs.set j v))) hk hi hlt e2 (hP.set hD hw hat e3) (hD.set hw)) (a2.put e2 e3 (hD.2 i _ hw)) a3 a4
  rcases hfin with hfin | ⟨hfin, hin2, hdecl⟩
  · unfold u_lay at hlay
    rw [if_neg (by rw [hfin]; decide)] at hlay
    have h6 := u_store hfc hkC hkind hlay hi2 (hty j hj) hn hfit
    exact W.putK hx hb (f := f) ⟨hown, hl, ⟨_, _, _, hi2⟩, hst⟩ (by rw [q2]; exact h6) q1 q3 (by rw [hsl]; exact k2_hasslot (q4 j hj)) rfl rfl hd fin
  · unfold u_lay at hlay
    rw [if_pos hfin] at hlay
    have hcf : m.cls = cf := by
      obtain ⟨_, _, c', _, _, _, -, -, hf', -, -, -, hown2, -⟩ := Cond.laysFinal_spec hlay
      have e1 : c' = cf := by have := hi2.symm.trans hf'; simp at this; exact this.1.symm
      rw [hdecl] at hown2
      rw [← e1]; exact Option.some.inj (hown.symm.trans hown2)
    have h6 := u_fits hfc hkC hkind (Or.inr hlay) hi2 (hty j hj) hn hfit
    exact W.putFinK hx hb hown hl hi2 hst hcf hin2 (by rw [q2]; exact h6) q1 q3 (by rw [hsl]; exact k2_hasslot (q4 j hj)) rfl rfl hd fin
theorem arr_lo {k : Nat} {z : Nat × Nat × (Nat → Int32)} (ha : arr ro h k = some z) (hk : ¬ 30000 ≤ k) : h.1 k = some (.inl z) := by
  unfold arr at ha
  rw [if_neg hk] at ha
  split at ha
  · rename_i z' hz
    cases ha
    exact hz
  · cases ha
theorem arr_hi {k : Nat} {z : Nat × Nat × (Nat → Int32)} (ha : arr ro h k = some z) (hk : 30000 ≤ k) : ro k = some z := by
  unfold arr at ha
  rw [if_pos hk] at ha
  exact ha
theorem wz_aI (hx : p.tables.exec = Jvm.exec) (hb : c.code = cc) (hF : q_FX D dA base sa ro tbl s) (hsa : ∀ k, 30000 ≤ k → ad k = sa k) {a k n : Nat} {f : Nat → Int32} {y : Int32} {ins : Instr} (ha : arr ro h k = some (a, n, f)) (hin : vp_in y n) (hd : decode cc pc = .ok (ins, 1)) (hi : ins = match a with | 0 => .iaload | 1 => .baload | _ => .caload) (kk : q_WZ p l e R s m args below meth c Q D dA base ad nL h0 h lv (pc + 1) (.int (f y.toNatClampNeg) :: st)) : q_WZ p l e R s m args below meth c Q D dA base ad nL h0 h lv pc (.int y :: .ref k :: st) := by
  intro H locs ls a1 a2 a3 a4
  have kk := kk H locs ls a1 a2 a3 a4
  by_cases hk : 30000 ≤ k
  · obtain ⟨ht, hT⟩ := hF.2.2.2.1 k a n f (arr_hi ha hk)
    rw [← hsa k hk] at hT
    rcases ht with rfl | rfl
    · subst hi
      exact va_ti hx hb hT a2 hin rfl hd kk
    · subst hi
      exact va_tc hx hb hT a2 hin rfl hd kk
  · have hk2 := arr_lo ha hk
    have hok : a = 0 ∨ a = 1 ∨ a = 2 := a1.2.2.2.2.1 k _ hk2
    rcases hok with rfl | rfl | rfl
    · subst hi
      exact va_iald hx hb (hF.K (t := 0) (by decide)) (a1.one hk2) 0 0 rfl rfl hin hd kk
    · subst hi
      exact va_zald hx hb (hF.K (t := 1) (by decide)) (a1.one hk2) 0 0 rfl rfl hin hd kk
    · subst hi
      exact va_cald hx hb (hF.K (t := 2) (by decide)) (a1.one hk2) 0 0 rfl rfl hin hd kk
theorem wz_aL (hx : p.tables.exec = Jvm.exec) (hb : c.code = cc) (hF : q_FX D dA base sa ro tbl s) (hsa : ∀ k, 30000 ≤ k → ad k = sa k) {t k n : Nat} {f : Nat → Int32} (ha : arr ro h k = some (t, n, f)) (hd : decode cc pc = .ok (.arraylength, 1)) (kk : q_WZ p l e R s m args below meth c Q D dA base ad nL h0 h lv (pc + 1) (.int (Int32.ofNat n) :: st)) : q_WZ p l e R s m args below meth c Q D dA base ad nL h0 h lv pc (.ref k :: st) := by
  intro H locs ls a1 a2 a3 a4
  have kk := kk H locs ls a1 a2 a3 a4
  by_cases hk : 30000 ≤ k
  · obtain ⟨ht, hT⟩ := hF.2.2.2.1 k t n f (arr_hi ha hk)
    rw [← hsa k hk] at hT
    obtain ⟨cell, g1, g2, g3, g4, g5, g6, g7⟩ := hT
    exact W.alen (n := Int32.ofNat n) hx hb (by rw [a2.2.1 _ (Array.getElem?_eq_some_iff.mp g1).1 g7]; exact g1) g2 g5 rfl rfl hd kk
  · have hk2 := arr_lo ha hk
    have hok : t = 0 ∨ t = 1 ∨ t = 2 := a1.2.2.2.2.1 k _ hk2
    have htg : t ∈ tgs := by rcases hok with rfl | rfl | rfl <;> decide
    exact va_alen hx hb (hF.K htg) (a1.one hk2) 0 0 rfl rfl rfl hd kk
theorem tgT_obj {t : Nat} (h : t = 13 ∨ t = 14 ∨ t = 17 ∨ t = 18) : t ∈ tgs ∧ ∃ C : String, tgT t = .object C := by
  rcases h with rfl | rfl | rfl | rfl <;> exact ⟨by decide, _, rfl⟩
theorem wz_aR (hx : p.tables.exec = Jvm.exec) (hb : c.code = cc) (hF : q_FX D dA base sa ro tbl s) {t k n : Nat} {g : Nat → Option Nat} {y : Int32} (hk : h.1 k = some (.inr (.inl (t, n, g)))) (hin : vp_in y n) (hd : decode cc pc = .ok (.aaload, 1))
    (kn : g y.toNatClampNeg = none → q_WZ p l e R s m args below meth c Q D dA base ad nL h0 h lv (pc + 1) (.null :: st)) (ks : ∀ q, g y.toNatClampNeg = some q → q_WZ p l e R s m args below meth c Q D dA base ad nL h0 h lv (pc + 1) (.ref q :: st)) : q_WZ p l e R s m args below meth c Q D dA base ad nL h0 h lv pc (.int y :: .ref k :: st) := by
  intro H locs ls a1 a2 a3 a4
  obtain ⟨htg, C, hC⟩ := tgT_obj (a1.2.2.2.2.1 k _ hk)
  have hK := hF.K htg
  refine va_aldq hx hb hK (a1.one hk) 0 0 (C := C) rfl (by rw [hC]; rfl) hin hd ?_
  cases hq : g y.toNatClampNeg with
  | none => exact kn hq H locs ls a1 a2 a3 a4
  | some q => exact ks q hq H locs ls a1 a2 a3 a4
theorem wz_sI (hx : p.tables.exec = Jvm.exec) (hb : c.code = cc) (hF : q_FX D dA base sa ro tbl s) {k n : Nat} {f : Nat → Int32} {y z : Int32} (hk : h.1 k = some (.inl (0, n, f))) (hin : vp_in y n) (hd : decode cc pc = .ok (.iastore, 1)) (kk : q_WZ p l e R s m args below meth c Q D dA base ad nL h0 (ph_put h k (.inl (0, n, upd f y.toNatClampNeg z))) lv (pc + 1) st) : q_WZ p l e R s m args below meth c Q D dA base ad nL h0 h lv pc (.int z :: .int y :: .ref k :: st) := by
  intro H locs ls a1 a2 a3 a4
  obtain ⟨i, hi, hw⟩ := a1.idx hk
  have hP := a1.2.2.2.2.2.1
  have hD := a1.2.2.2.2.2.2
  have hK := hF.K (t := 0) (by decide)
  refine W.iast hx hb (hP i _ hw) ((hK.2 0 _ rfl).1 n (fun j => .int (f j))) (fun q => by cases q) (by show ¬ (y < 0 ∨ (arrV _ _ _).slots.size ≤ _); rw [arrV_size]; exact hin) rfl rfl hd fun H1 e1 z1 oq => ?_
  refine kk H1 _ ls (a1.put (e := .inl (0, n, upd f y.toNatClampNeg z)) hk hi (Or.inl rfl) z1 (hP.set hD hw ?_ oq) (hD.set hw)) (a2.put z1 oq (hD.2 i _ hw)) a3 a4
  show H1[ad k]? = some (vp_cell _ _)
  rw [e1]
  rw [vp_cell_i, vp_cell_i, arrV_store]
  congr 2
  funext q
  by_cases hq : q = y.toNatClampNeg
  · subst hq
    simp [updV, upd]
  · simp [updV, upd, hq]
theorem wz_sZ (hx : p.tables.exec = Jvm.exec) (hb : c.code = cc) (hF : q_FX D dA base sa ro tbl s) {k n : Nat} {f : Nat → Int32} {y z : Int32} (hk : h.1 k = some (.inl (1, n, f))) (hin : vp_in y n) (hd : decode cc pc = .ok (.bastore, 1)) (kk : q_WZ p l e R s m args below meth c Q D dA base ad nL h0 (ph_put h k (.inl (1, n, upd f y.toNatClampNeg (vp_nar .boolean z)))) lv (pc + 1) st) : q_WZ p l e R s m args below meth c Q D dA base ad nL h0 h lv pc (.int z :: .int y :: .ref k :: st) := by
  intro H locs ls a1 a2 a3 a4
  obtain ⟨i, hi, hw⟩ := a1.idx hk
  have hP := a1.2.2.2.2.2.1
  have hD := a1.2.2.2.2.2.2
  have hK := hF.K (t := 1) (by decide)
  refine W.zast hx hb (hP i _ hw) ((hK.2 0 _ rfl).1 n (fun j => .int (f j))) (fun q => by cases q) (by show ¬ (y < 0 ∨ (arrV _ _ _).slots.size ≤ _); rw [arrV_size]; exact hin) rfl rfl hd fun H1 e1 z1 oq => ?_
  refine kk H1 _ ls (a1.put (e := .inl (1, n, upd f y.toNatClampNeg (vp_nar .boolean z))) hk hi (Or.inr (Or.inl rfl)) z1 (hP.set hD hw ?_ oq) (hD.set hw)) (a2.put z1 oq (hD.2 i _ hw)) a3 a4
  show H1[ad k]? = some (vp_cell _ _)
  rw [e1]
  rw [vp_cell_i, vp_cell_i, arrV_store]
  congr 2
  funext q
  by_cases hq : q = y.toNatClampNeg
  · subst hq
    simp [updV, upd, vp_nar]
    try rfl
  · simp [updV, upd, hq]
theorem tgT_cls {cl : Nat} {r : vw_C} (h : 10 + cl = 13 ∨ 10 + cl = 14 ∨ 10 + cl = 17 ∨ 10 + cl = 18) (hc : vwCl[cl]? = some r) : tgT (10 + cl) = .object r.1 := by
  rcases h with h | h | h | h
  · obtain rfl : cl = 3 := by omega
    cases hc; rfl
  · obtain rfl : cl = 4 := by omega
    cases hc; rfl
  · obtain rfl : cl = 7 := by omega
    cases hc; rfl
  · obtain rfl : cl = 8 := by omega
    cases hc; rfl
theorem wz_sR (hx : p.tables.exec = Jvm.exec) (hb : c.code = cc) (hF : q_FX D dA base sa ro tbl s) {k n cl q : Nat} {g : Nat → Option Nat} {fs : List Value} {y : Int32} (hk : h.1 k = some (.inr (.inl (10 + cl, n, g)))) (hq : h.1 q = some (.inr (.inr (cl, fs)))) (hin : vp_in y n) (hd : decode cc pc = .ok (.aastore, 1)) (kk : q_WZ p l e R s m args below meth c Q D dA base ad nL h0 (ph_put h k (.inr (.inl (10 + cl, n, va_up g y.toNatClampNeg (some q))))) lv (pc + 1) st) : q_WZ p l e R s m args below meth c Q D dA base ad nL h0 h lv pc (.ref q :: .int y :: .ref k :: st) := by
  intro H locs ls a1 a2 a3 a4
  obtain ⟨i, hi, hw⟩ := a1.idx hk
  obtain ⟨iq, hiq, hwq⟩ := a1.idx hq
  have hP := a1.2.2.2.2.2.1
  have hD := a1.2.2.2.2.2.2
  have hok : 10 + cl = 13 ∨ 10 + cl = 14 ∨ 10 + cl = 17 ∨ 10 + cl = 18 := a1.2.2.2.2.1 k _ hk
  have htg := (tgT_obj hok).1
  have hK := hF.K htg
  have hlt : y.toNatClampNeg < n := Nat.not_le.mp fun w => hin (Or.inr w)
  have h9 : ¬ y < 0 := fun w => hin (Or.inl w)
  obtain ⟨r, hr', cellV, g1, g2, g3, -⟩ := hP iq _ hwq
  have hC := tgT_cls hok hr'
  have hcls := (hF.1 cl r hr').2
  have hRA := (hF.2.1 _ htg).2
  rw [hC] at hRA
  obtain ⟨kA, comp, k1, k2, k3, -⟩ := hRA
  have hcomp : comp = D.1 cl := Option.some.inj (k3.symm.trans hcls.1)
  subst hcomp
  obtain ⟨kC, hkC, -⟩ := id hcls.2
  refine W.aast hx hb (hP i _ hw) (fun q h => by cases h) (fun h => by cases h) k1 k2 rfl hkC ⟨h9, by show _ < (arrV _ _ _).slots.size; rw [arrV_size]; exact hlt⟩ g1 (fun q h => by rw [g3] at h; cases h) (by rw [g2]; exact hkC) (by rw [g2]; exact va_assign hcls) rfl rfl hd fun H1 e1 z1 oq => ?_
  refine kk H1 _ ls (a1.put (e := .inr (.inl (10 + cl, n, va_up g y.toNatClampNeg (some q)))) hk hi hok z1 (hP.set hD hw ?_ oq) (hD.set hw)) (a2.put z1 oq (hD.2 i _ hw)) a3 a4
  show H1[ad k]? = some (vp_cell _ _)
  rw [e1]
  rw [vp_cell_q, vp_cell_q, arrV_store]
  congr 2
  funext z
  by_cases hz : z = y.toNatClampNeg
  · subst hz
    simp [updV, va_up, va_rf]
  · simp [updV, va_up, hz]
theorem wz_stat (hx : p.tables.exec = Jvm.exec) (hb : c.code = cc) (hF : q_FX D dA base sa ro tbl s) (hown : s.vm.findClass own = some m.cls) (hsa : ∀ k, 30000 ≤ k → ad k = sa k) {i x : Nat} {z : String × String} (hz : statL[i]? = some z) (hl : (Cond.fieldLink own x "PoleLogs" z.1 z.2).before args s = true ∨ (Cond.fieldLinkNest own x "PoleLogs" z.1 z.2 "PoleLogs").before args s = true) (hd : decode cc pc = .ok (.getstatic x, 3)) (kk : q_WZ p l e R s m args below meth c Q D dA base ad nL h0 h lv (pc + 3) (.ref (30000 + i) :: st)) : q_WZ p l e R s m args below meth c Q D dA base ad nL h0 h lv pc st := by
  intro H locs ls a1 a2 a3 a4
  have kk : W p l e R s m args below meth c H locs (h.2.2.1.length - h0.2.2.1.length) (h.2.2.2 - h0.2.2.2) Q (F0 m (pc + 3) ls (.ref (ad (30000 + i)) :: st.map (q_tr ad))) := kk H locs ls a1 a2 a3 a4
  rw [hsa (30000 + i) (by omega)] at kk
  rcases hl with hl | hl
  · exact va_gets hx hb (hF.2.2.1 i z hz) a2 hown hl (fun _ w => w) hd kk
  · exact va_getsN hx hb (hF.2.2.1 i z hz) a2 hown hl (fun _ w => w) hd kk
theorem wz_new (hx : p.tables.exec = Jvm.exec) (hb : c.code = cc) (hF : q_FX D dA base sa ro tbl s) (hown : s.vm.findClass own = some m.cls) {ci x k : Nat} {C : String} {T : u_T} {N : Nat} (hc : vwCl[ci]? = some (C, T, N)) (hU : ∀ w ∈ u_ws C T N, w.before args s = true) (hty : ∀ k, k < N → parseFieldDescriptor (T k).2.2.1 = some (clT ci k)) (hlt : ci < 12)
    (hcl : (Cond.classLink own x C).before args s = true) (hinst : (Cond.instantiable C N).before args s = true) (hini : (Cond.initialized C).before args s = true) (hk : h.1 k = none) (hk3 : k < 30000) (ha : ad k = base + h.2.2.1.length)
    (hcells : h.2.2.1.length - h0.2.2.1.length + 1 ≤ R.cells) (hslots : h.2.2.2 - h0.2.2.2 + N ≤ R.slots) (hd : decode cc pc = .ok (.new x, 3)) (kk : q_WZ p l e R s m args below meth c Q D dA base ad nL h0 (ph_add h k ci N (.inr (.inr (ci, dfl ci)))) lv (pc + 3) (.ref k :: st)) : q_WZ p l e R s m args below meth c Q D dA base ad nL h0 h lv pc st := by
  intro H locs ls a1 a2 a3 a4
  have hKn := hF.1 ci _ hc
  have hak : ad k = H.size := by rw [ha, a1.1]
  refine W.newcK hx hb hown hcl hinst hini rfl hd hcells hslots hKn.2.1 rfl fun H1 kC hkC e1 z1 o1 => ?_
  have hN : N = clN ci := by simp [clN, List.getD_eq_getElem?_getD, hc]
  have hat : va_at D vwCl (ad k, q_trE dA ad (.inr (.inr (ci, dfl ci)))) H1 := by
    refine ⟨_, hc, ?_⟩
    show t_OB (ad k) _ _ _ _ _
    rw [hak]
    refine (u_born (clT ci) hU (fun _ w => w) hKn hkC e1 hty).to (fun y hy => ?_)
    have hy : y < clN ci := by rw [← hN]; exact hy
    simp [vp_V, dfl, List.getD_eq_getElem?_getD, List.getElem?_range hy, q_trd]
  have hle : h0.2.2.1.length ≤ h.2.2.1.length := a4.1.length_le
  have hle2 := a4.2
  have kk := kk H1 locs ls (a1.add (n := N) hk hk3 hlt z1 hak o1 hat) ⟨Nat.le_trans a2.1 (by omega), fun y g1 g2 => (o1 y (Nat.lt_of_lt_of_le g1 a2.1)).trans (a2.2.1 y g1 g2), a2.2.2⟩ a3 (a4.tr (PLe.add _ _ _ _ _))
  have e1 : (ph_add h k ci N (.inr (.inr (ci, dfl ci)))).2.2.1.length - h0.2.2.1.length = h.2.2.1.length - h0.2.2.1.length + 1 := by simp [ph_add]; omega
  have e2 : (ph_add h k ci N (.inr (.inr (ci, dfl ci)))).2.2.2 - h0.2.2.2 = h.2.2.2 - h0.2.2.2 + N := by simp [ph_add]; omega
  rw [e1, e2] at kk
  have kk : W p l e R s m args below meth c H1 locs (h.2.2.1.length - h0.2.2.1.length + 1) (h.2.2.2 - h0.2.2.2 + N) Q (F0 m (pc + 3) ls (.ref (ad k) :: st.map (q_tr ad))) := kk
  rw [hak] at kk
  exact kk
theorem wz_newa (hx : p.tables.exec = Jvm.exec) (hb : c.code = cc) (hF : q_FX D dA base sa ro tbl s) {t k : Nat} {n : Int32} {at_ : ArrayType} (hat0 : (t = 0 ∧ at_ = .int) ∨ (t = 1 ∧ at_ = .boolean)) (harr : (Cond.arrayClass (newarray.typeOf at_)).before args s = true) (hn : ¬ n < 0) (hn2 : n.toNatClampNeg ≤ 100000) (hk : h.1 k = none) (hk3 : k < 30000) (ha : ad k = base + h.2.2.1.length)
    (hcells : h.2.2.1.length - h0.2.2.1.length + 1 ≤ R.cells) (hslots : h.2.2.2 - h0.2.2.2 + n.toNatClampNeg ≤ R.slots) (hd : decode cc pc = .ok (.newarray at_, 2)) (kk : q_WZ p l e R s m args below meth c Q D dA base ad nL h0 (ph_add h k 20 n.toNatClampNeg (.inl (t, n.toNatClampNeg, fun _ => 0))) lv (pc + 2) (.ref k :: st)) : q_WZ p l e R s m args below meth c Q D dA base ad nL h0 h lv pc (.int n :: st) := by
  intro H locs ls a1 a2 a3 a4
  have hak : ad k = H.size := by rw [ha, a1.1]
  refine va_newaK hx hb harr rfl hd rfl hn rfl (by rcases hat0 with ⟨-, rfl⟩ | ⟨-, rfl⟩ <;> simp [newarray.typeOf, componentBytes] <;> omega) hcells hslots rfl fun H1 cA e1 z1 o1 hAr hNm => ?_
  have hat : va_at D vwCl (ad k, q_trE dA ad (.inl (t, n.toNatClampNeg, fun _ => 0))) H1 := by
    rw [hak]
    rcases hat0 with ⟨rfl, rfl⟩ | ⟨rfl, rfl⟩
    · have hc0 : cA = dA 0 := Option.some.inj (hNm.symm.trans (hF.2.1 0 (by decide)).2)
      subst hc0
      exact e1
    · have hc0 : cA = dA 1 := Option.some.inj (hNm.symm.trans (hF.2.1 1 (by decide)).2)
      subst hc0
      exact e1
  have hok : q_ok (.inl (t, n.toNatClampNeg, fun _ => 0)) := by rcases hat0 with ⟨rfl, rfl⟩ | ⟨rfl, rfl⟩; exact Or.inl rfl; exact Or.inr (Or.inl rfl)
  have hle : h0.2.2.1.length ≤ h.2.2.1.length := a4.1.length_le
  have hle2 := a4.2
  have kk := kk H1 locs ls (a1.add (n := n.toNatClampNeg) hk hk3 hok z1 hak o1 hat) ⟨Nat.le_trans a2.1 (by omega), fun y g1 g2 => (o1 y (Nat.lt_of_lt_of_le g1 a2.1)).trans (a2.2.1 y g1 g2), a2.2.2⟩ a3 (a4.tr (PLe.add _ _ _ _ _))
  have e2 : (ph_add h k 20 n.toNatClampNeg (.inl (t, n.toNatClampNeg, fun _ => 0))).2.2.1.length - h0.2.2.1.length = h.2.2.1.length - h0.2.2.1.length + 1 := by simp [ph_add]; omega
  have e3 : (ph_add h k 20 n.toNatClampNeg (.inl (t, n.toNatClampNeg, fun _ => 0))).2.2.2 - h0.2.2.2 = h.2.2.2 - h0.2.2.2 + n.toNatClampNeg := by simp [ph_add]; omega
  rw [e2, e3] at kk
  have kk : W p l e R s m args below meth c H1 locs (h.2.2.1.length - h0.2.2.1.length + 1) (h.2.2.2 - h0.2.2.2 + n.toNatClampNeg) Q (F0 m (pc + 2) ls (.ref (ad k) :: st.map (q_tr ad))) := kk
  rw [hak] at kk
  exact kk
theorem wz_newq (hx : p.tables.exec = Jvm.exec) (hb : c.code = cc) (hF : q_FX D dA base sa ro tbl s) (hown : s.vm.findClass own = some m.cls) {t k x : Nat} {n : Int32} {C : String} (hok : t = 13 ∨ t = 14 ∨ t = 17 ∨ t = 18) (hC : tgT t = .object C) (hcl : (Cond.classLink own x C).before args s = true) (hov : va_AO C s) (hn : ¬ n < 0) (hn2 : n.toNatClampNeg ≤ 100000) (hk : h.1 k = none) (hk3 : k < 30000) (ha : ad k = base + h.2.2.1.length)
    (hcells : h.2.2.1.length - h0.2.2.1.length + 1 ≤ R.cells) (hslots : h.2.2.2 - h0.2.2.2 + n.toNatClampNeg ≤ R.slots) (hd : decode cc pc = .ok (.anewarray x, 3)) (kk : q_WZ p l e R s m args below meth c Q D dA base ad nL h0 (ph_add h k 20 n.toNatClampNeg (.inr (.inl (t, n.toNatClampNeg, fun _ => none)))) lv (pc + 3) (.ref k :: st)) : q_WZ p l e R s m args below meth c Q D dA base ad nL h0 h lv pc (.int n :: st) := by
  intro H locs ls a1 a2 a3 a4
  have hak : ad k = H.size := by rw [ha, a1.1]
  have hRA := (hF.2.1 t (tgT_obj hok).1).2
  rw [hC] at hRA
  obtain ⟨kA', comp', f1', f2', f3', f4'⟩ := hRA
  refine W.anew hx hb hown hcl (va_AO.use hov) rfl hd rfl hn (by omega) hcells hslots fun cA kA comp f1 f2 f3 f4 => ?_
  have hcA : cA = dA t := Option.some.inj (f1.symm.trans f4')
  subst hcA
  generalize hH1 : H.push ({ cls := dA t, slots := Array.replicate n.toNatClampNeg .null, vm := .none } : Cell) = H1
  have z1 : H1.size = H.size + 1 := by rw [← hH1, Array.size_push]
  have e1 : H1[H.size]? = some (arrV (dA t) n.toNatClampNeg (fun _ => .null)) := by rw [← hH1, Array.getElem?_push_size, ← arrV_new]
  have o1 : ∀ q : Nat, q < H.size → H1[q]? = H[q]? := fun q hq => by rw [← hH1, Array.getElem?_push, if_neg (Nat.ne_of_lt hq)]
  have hat : va_at D vwCl (ad k, q_trE dA ad (.inr (.inl (t, n.toNatClampNeg, fun _ => none)))) H1 := by
    rw [hak]
    exact e1
  have hle : h0.2.2.1.length ≤ h.2.2.1.length := a4.1.length_le
  have hle2 := a4.2
  have kk := kk H1 locs ls (a1.add (n := n.toNatClampNeg) hk hk3 hok z1 hak o1 hat) ⟨Nat.le_trans a2.1 (by omega), fun y g1 g2 => (o1 y (Nat.lt_of_lt_of_le g1 a2.1)).trans (a2.2.1 y g1 g2), a2.2.2⟩ a3 (a4.tr (PLe.add _ _ _ _ _))
  have e2 : (ph_add h k 20 n.toNatClampNeg (.inr (.inl (t, n.toNatClampNeg, fun _ => none)))).2.2.1.length - h0.2.2.1.length = h.2.2.1.length - h0.2.2.1.length + 1 := by simp [ph_add]; omega
  have e3 : (ph_add h k 20 n.toNatClampNeg (.inr (.inl (t, n.toNatClampNeg, fun _ => none)))).2.2.2 - h0.2.2.2 = h.2.2.2 - h0.2.2.2 + n.toNatClampNeg := by simp [ph_add]; omega
  rw [e2, e3] at kk
  have kk : W p l e R s m args below meth c H1 locs (h.2.2.1.length - h0.2.2.1.length + 1) (h.2.2.2 - h0.2.2.2 + n.toNatClampNeg) Q (F0 m (pc + 3) ls (.ref (ad k) :: st.map (q_tr ad))) := kk
  rw [hak] at kk
  exact kk
theorem wz_objInit (hx : p.tables.exec = Jvm.exec) (hb : c.code = cc) (hml : c.maxLocals = nL) (hown : s.vm.findClass own = some m.cls) {x k : Nat} (hl : (Cond.methodLink own x Lib.objectInit).before args s = true) (hin : (Cond.instanceMethod Lib.objectInit).before args s = true) (hco : (Cond.code Lib.objectInit ⟨#[0xb1]⟩ 1 none).before args s = true) (hst : st.length ≤ 4) (hR : 1 ≤ R.frames ∧ 60 ≤ R.locals) (hd : decode cc pc = .ok (.invokespecial x, 3)) (kk : q_WZ p l e R s m args below meth c Q D dA base ad nL h0 h lv (pc + 3) st) : q_WZ p l e R s m args below meth c Q D dA base ad nL h0 h lv pc (.ref k :: st) := fun H locs ls a1 a2 a3 a4 =>
  W.objInit hx hb hown hl hin hco rfl (by rw [hml]; exact a3.1) rfl hd hR.1 (by have := q_cats ad st 4 hst; show 2 * 0 + _ + 12 ≤ _; omega) (kk H locs ls a1 a2 a3 a4)
theorem wz_castA (hx : p.tables.exec = Jvm.exec) (hb : c.code = cc) (hF : q_FX D dA base sa ro tbl s) (hown : s.vm.findClass own = some m.cls) {x k n : Nat} {f : Nat → Int32} (hl : (Cond.classLink own x "[I").before args s = true) (hk : h.1 k = some (.inl (0, n, f))) (hd : decode cc pc = .ok (.checkcast x, 3)) (kk : q_WZ p l e R s m args below meth c Q D dA base ad nL h0 h lv (pc + 3) (.ref k :: st)) : q_WZ p l e R s m args below meth c Q D dA base ad nL h0 h lv pc (.ref k :: st) := fun H locs ls a1 a2 a3 a4 =>
  va_castA hx hb hown hl (a1.one hk) 0 rfl (hF.2.1 0 (by decide)).2 hd (kk H locs ls a1 a2 a3 a4)
end WZ2
end
section
/-! arraycopy, clone, calls, returns -/
def q_room (d mc ms : Nat) : Room := { frames := d, cells := mc, slots := ms, locals := 60 * d }
def q_ws (mY : Nat → MethodName) (mC : Nat → ByteArray) (mL : Nat → Nat) (mT : Nat → Option FieldType) (tbl : List Cond) (M : Nat) : List Cond := .code (mY M) (mC M) (mL M) (mT M) :: tbl.filter goodWord
/-- a call of method M, at most d deep, does what the pure machine says -/
def q_Met (l : Launch) (D : va_G) (dA : Nat → ClassId) (base : Nat) (sa : Nat → Nat) (ro : RO) (mY : Nat → MethodName) (mC : Nat → ByteArray) (mL : Nat → Nat) (mT : Nat → Option FieldType) (tbl : List Cond) (d M : Nat) (as : List Value) (h : PH) (r : Option Value) (h' : PH) : Prop :=
  ∀ ad : Nat → Nat, (∀ (i k : Nat), h'.2.2.1[i]? = some k → ad k = base + i) → (∀ k, 30000 ≤ k → ad k = sa k) →
    Met l (mY M) (q_ws mY mC mL mT tbl M) (q_room d (h'.2.2.1.length - h.2.2.1.length) (h'.2.2.2 - h.2.2.2)) (va_Pc (as.map (q_tr ad)) (fun U => q_Rep D dA base ad h U.heap ∧ q_FX D dA base sa ro tbl U))
      (fun _ st o t => o = .returned (r.map (q_tr ad)) ∧ q_Rep D dA base ad h' t.heap ∧ va_F (q_A base) st t) (h'.2.2.1.length - h.2.2.1.length) (h'.2.2.2 - h.2.2.2) (q_A base)
section WZ3
variable {p : Program} {l : Launch} {e : Env} {R : Room} {s : State} {m : MethodId} {args : Array Value} {below : List Frame} {meth : Method} {c : Code} {Q : State → Prop} {D : va_G} {dA : Nat → ClassId} {base : Nat} {ad : Nat → Nat} {nL : Nat} {h0 h : PH} {lv : PL} {pc : Nat} {st : List Value} {cc : ByteArray} {sa : Nat → Nat} {ro : RO} {tbl : List Cond} {own : String}
theorem wz_copy (hx : p.tables.exec = Jvm.exec) (hb : c.code = cc) (hml : c.maxLocals = nL) (hF : q_FX D dA base sa ro tbl s) (hown : s.vm.findClass own = some m.cls) {x k q n0 n1 : Nat} {f g : Nat → Int32} {sp dp n : Int32} (hl : (Cond.methodLink own x arraycopyName).before args s = true) (hnat : (Cond.native arraycopyName).before args s = true) (hstat : (Cond.static arraycopyName).before args s = true) (hini : (Cond.initialized "java/lang/System").before args s = true)
    (hk : h.1 k = some (.inl (0, n0, f))) (hq : h.1 q = some (.inl (0, n1, g))) (h1 : ¬ sp < 0) (h2 : ¬ dp < 0) (h3 : ¬ n < 0) (h4 : sp.toNatClampNeg + n.toNatClampNeg ≤ n0) (h5 : dp.toNatClampNeg + n.toNatClampNeg ≤ n1) (hst : st.length ≤ 4) (hR : 1 ≤ R.frames ∧ 60 ≤ R.locals) (hd : decode cc pc = .ok (.invokestatic x, 3))
    (kk : q_WZ p l e R s m args below meth c Q D dA base ad nL h0 (ph_put h q (.inl (0, n1, va_cpy f g sp.toNatClampNeg dp.toNatClampNeg n.toNatClampNeg))) lv (pc + 3) st) : q_WZ p l e R s m args below meth c Q D dA base ad nL h0 h lv pc (.int n :: .int dp :: .ref q :: .int sp :: .ref k :: st) := by
  have nn : ∀ z : Int32, ¬ z < 0 → z.toInt = (z.toNatClampNeg : Int) := by
    intro z hz
    have hz0 : (0 : Int) ≤ z.toInt := by
      have := Int32.not_lt.mp hz
      simpa using Int32.le_iff_toInt_le.mp this
    show z.toInt = ((z.toInt.toNat : Nat) : Int)
    omega
  intro H locs ls a1 a2 a3 a4 T hT X
  obtain ⟨i0, hi0, hw0⟩ := a1.idx hk
  obtain ⟨i1, hi1, hw1⟩ := a1.idx hq
  have hP := a1.2.2.2.2.2.1
  have hD := a1.2.2.2.2.2.2
  have hK := hF.K (t := 0) (by decide)
  have hc0 : H[ad k]? = some (vp_cell (dA 0) (n0, .inl f)) := hP i0 _ hw0
  have hc1 : H[ad q]? = some (vp_cell (dA 0) (n1, .inl g)) := hP i1 _ hw1
  obtain ⟨-, k0, hk0, cm0, hkk0⟩ := (hK.2 0 _ rfl).1 n0 (fun j => .int (f j))
  have hlo : ((st.map (q_tr ad)).map fun v => v.category).sum ≤ 8 := q_cats ad st 4 hst
  obtain ⟨vm', X', step⟩ := X.arraycopy hx hown hl hnat hstat hini (src := ad k) (dst := ad q) (cs := vp_cell (dA 0) (n0, .inl f)) (cd := vp_cell (dA 0) (n1, .inl g)) (srcPos := sp) (destPos := dp) (n := n) (by rw [hT]; exact hc0) (by rw [hT]; exact hc1)
    (fun _ h => by cases h) (fun _ h => by cases h) (fun h => by cases h) (fun h => by cases h) hk0 hk0 hkk0 hkk0 (by simp [refKind, tgT]) h1 h2 h3
    (by rw [nn sp h1, nn n h3]; show ¬ _ > ((arrV (dA 0) n0 (fun j => .int (f j))).slots.size : Int); rw [arrV_size]; omega)
    (by rw [nn dp h2, nn n h3]; show ¬ _ > ((arrV (dA 0) n1 (fun j => .int (g j))).slots.size : Int); rw [arrV_size]; omega)
    (fun vm₁ _ i hi => by
      have e : (vp_cell (dA 0) (n0, .inl f)).slots.getD (sp.toNatClampNeg + i) .null = .int (f (sp.toNatClampNeg + i)) := by
        show (arrV (dA 0) n0 (fun j => .int (f j))).slots.getD _ _ = _
        rw [Array.getD_eq_getD_getElem?, arrV_read _ _ (by omega)]
        rfl
      refine ⟨?_, ?_⟩
      · rw [e]
        rfl
      · rw [e]
        exact trivial)
    (g := F0 m pc ls (.int n :: .int dp :: .ref (ad q) :: .int sp :: .ref (ad k) :: st.map (q_tr ad))) rfl (by rw [hml]; exact a3.1) (rest := st.map (q_tr ad)) rfl (by rw [hb]; exact hd) hR.1 (by
      have hw : nativeFrameWords "java/lang/System" "arraycopy" 5 + 11 ≤ 50 := by decide
      show 2 * 0 + _ + _ ≤ _
      omega)
  have e1 : copied (vp_cell (dA 0) (n0, .inl f)) (vp_cell (dA 0) (n1, .inl g)) sp dp n = vp_cell (dA 0) (n1, .inl (va_cpy f g sp.toNatClampNeg dp.toNatClampNeg n.toNatClampNeg)) := va_copied (fun z => .int z) (dA 0) (dA 0) f g h4
  rw [e1] at X' step
  have hlt : ad q < H.size := (Array.getElem?_eq_some_iff.mp hc1).1
  have hheap : ((T.setVm vm').setCell (ad q) (vp_cell (dA 0) (n1, .inl (va_cpy f g sp.toNatClampNeg dp.toNatClampNeg n.toNatClampNeg)))).heap = H.setIfInBounds (ad q) (vp_cell (dA 0) (n1, .inl (va_cpy f g sp.toNatClampNeg dp.toNatClampNeg n.toNatClampNeg))) := by rw [← hT]; rfl
  have oq : ∀ y : Nat, y ≠ ad q → (H.setIfInBounds (ad q) (vp_cell (dA 0) (n1, .inl (va_cpy f g sp.toNatClampNeg dp.toNatClampNeg n.toNatClampNeg))))[y]? = H[y]? := fun y hy => by simp [Array.getElem?_setIfInBounds, Ne.symm hy]
  have zq : (H.setIfInBounds (ad q) (vp_cell (dA 0) (n1, .inl (va_cpy f g sp.toNatClampNeg dp.toNatClampNeg n.toNatClampNeg)))).size = H.size := by simp
  obtain ⟨t, b1, b2⟩ := kk _ _ ls (a1.put (e := .inl (0, n1, va_cpy f g sp.toNatClampNeg dp.toNatClampNeg n.toNatClampNeg)) hq hi1 (Or.inl rfl) zq (hP.set hD hw1 (show (H.setIfInBounds (ad q) _)[ad q]? = some _ by simp [Array.getElem?_setIfInBounds, hlt]) oq) (hD.set hw1))
    ⟨by rw [zq]; exact a2.1, fun y g1 g2 => by
      rw [oq y (fun e => g2 (by rw [e]; exact hD.2 i1 _ hw1))]
      exact a2.2.1 y g1 g2, fun y hy => by
      rcases List.mem_append.mp hy with h | h
      · exact a2.2.2 y h
      · obtain ⟨z, -, hz⟩ := List.mem_map.mp h
        rw [← hz]
        exact hD.2 i1 _ hw1⟩ a3 a4 _ hheap X'
  exact ⟨t, step t b1, b2⟩
theorem wz_clone (hx : p.tables.exec = Jvm.exec) (hb : c.code = cc) (hml : c.maxLocals = nL) (hF : q_FX D dA base sa ro tbl s) (hown : s.vm.findClass own = some m.cls) {x k q n : Nat} {f : Nat → Int32}
    (hlink : (Cond.methodLink own x ⟨"[I", "clone", "()Ljava/lang/Object;"⟩).before args s = true) (hsame : (Cond.sameMethod "[I" "java/lang/Object" "clone" "()Ljava/lang/Object;").before args s = true)
    (hnat : (Cond.native ⟨"java/lang/Object", "clone", "()Ljava/lang/Object;"⟩).before args s = true) (hinst : (Cond.instanceMethod ⟨"java/lang/Object", "clone", "()Ljava/lang/Object;"⟩).before args s = true)
    (hsel : (Cond.selects "[I" ⟨"[I", "clone", "()Ljava/lang/Object;"⟩ ⟨"java/lang/Object", "clone", "()Ljava/lang/Object;"⟩).before args s = true) (hcl : va_Nw (.castable "[I" "java/lang/Cloneable") s)
    (hk : h.1 k = some (.inl (0, n, f))) (hq : h.1 q = none) (hq3 : q < 30000) (ha : ad q = base + h.2.2.1.length) (hst : st.length ≤ 4) (hR : 1 ≤ R.frames ∧ 60 ≤ R.locals) (hcells : h.2.2.1.length - h0.2.2.1.length + 1 ≤ R.cells) (hslots : h.2.2.2 - h0.2.2.2 + n ≤ R.slots) (hd : decode cc pc = .ok (.invokevirtual x, 3))
    (kk : q_WZ p l e R s m args below meth c Q D dA base ad nL h0 (ph_add h q 20 n (.inl (0, n, f))) lv (pc + 3) (.ref q :: st)) : q_WZ p l e R s m args below meth c Q D dA base ad nL h0 h lv pc (.ref k :: st) := by
  intro H locs ls a1 a2 a3 a4 T hT X
  have hak : ad q = H.size := by rw [ha, a1.1]
  have hK := hF.K (t := 0) (by decide)
  have hnm : s.vm.findClass "[I" = some (dA 0) := (hF.2.1 0 (by decide)).2
  have hsz : (vp_cell (dA 0) (n, .inl f)).slots.size = n := arrV_size _ _ _
  obtain ⟨c0, t0', f1, f2, f3⟩ := Cond.castable_spec (va_Nw.use (A := args) rfl hcl)
  cases hnm.symm.trans f1
  have hcellT : T.heap[ad k]? = some (vp_cell (dA 0) (n, .inl f)) := by rw [hT]; exact a1.one hk 0 _ rfl
  obtain ⟨-, kA, hkA, comp, hkind⟩ := State.isArrayOf_alike X.warmed.alike ((hK.2 0 _ rfl).1 0 (fun _ => .null))
  obtain ⟨-, kS, hkS, compS, hkindS⟩ := (hK.2 0 _ rfl).1 0 (fun _ => .null)
  have hlo : ((st.map (q_tr ad)).map fun v => v.category).sum ≤ 8 := q_cats ad st 4 hst
  obtain ⟨vm', X', stp⟩ := X.cloneArray hx hown hlink hsame hnat hinst hsel (a := ad k) (cell := vp_cell (dA 0) (n, .inl f)) hcellT (fun k h => by cases h) (fun h => by cases h) hnm f2 f3
    (fun i v hv => by
      have hk' : T.vm.classes[dA 0]? = some kA := hkA
      have hv' : fits .int v = true := by
        have hv : (arrV (dA 0) n (fun j => .int (f j))).slots[i]? = some v := hv
        have hi : i < n := by
          have := (Array.getElem?_eq_some_iff.mp hv).1
          rwa [arrV_size] at this
        rw [arrV_read _ _ hi] at hv
        cases hv
        rfl
      have hc9 : (vp_cell (dA 0) (n, .inl f)).cls = dA 0 := rfl
      simpa [State.fitsSlot, State.slotType?, hk', hkind, hc9, tgT] using hv')
    (g := F0 m pc ls (.ref (ad k) :: st.map (q_tr ad))) rfl (by rw [hml]; exact a3.1) rfl (by rw [hb]; exact hd) hR.1 (by show 2 * 0 + _ + 14 ≤ _; omega) hcells (by rw [hsz]; exact hslots) (hloader := Vm.clonesLoader_of_array hkS hkindS)
  have hcellE : ({ cls := (vp_cell (dA 0) (n, .inl f)).cls, slots := (vp_cell (dA 0) (n, .inl f)).slots } : Cell) = vp_cell (dA 0) (n, .inl f) := rfl
  rw [hcellE, hsz] at X'
  generalize hH1 : H.push (vp_cell (dA 0) (n, .inl f)) = H1
  have z1 : H1.size = H.size + 1 := by rw [← hH1, Array.size_push]
  have e1 : H1[H.size]? = some (vp_cell (dA 0) (n, .inl f)) := by rw [← hH1, Array.getElem?_push_size]
  have o1 : ∀ y : Nat, y < H.size → H1[y]? = H[y]? := fun y hy => by rw [← hH1, Array.getElem?_push, if_neg (Nat.ne_of_lt hy)]
  have hat : va_at D vwCl (ad q, q_trE dA ad (.inl (0, n, f))) H1 := by
    rw [hak]
    exact e1
  have hle : h0.2.2.1.length ≤ h.2.2.1.length := a4.1.length_le
  have hle2 := a4.2
  have kk := kk H1 locs ls (a1.add (n := n) hq hq3 (Or.inl rfl) z1 hak o1 hat) ⟨Nat.le_trans a2.1 (by omega), fun y g1 g2 => (o1 y (Nat.lt_of_lt_of_le g1 a2.1)).trans (a2.2.1 y g1 g2), a2.2.2⟩ a3 (a4.tr (PLe.add _ _ _ _ _))
  have e2 : (ph_add h q 20 n (.inl (0, n, f))).2.2.1.length - h0.2.2.1.length = h.2.2.1.length - h0.2.2.1.length + 1 := by simp [ph_add]; omega
  have e3 : (ph_add h q 20 n (.inl (0, n, f))).2.2.2 - h0.2.2.2 = h.2.2.2 - h0.2.2.2 + n := by simp [ph_add]; omega
  rw [e2, e3] at kk
  have kk : W p l e R s m args below meth c H1 locs (h.2.2.1.length - h0.2.2.1.length + 1) (h.2.2.2 - h0.2.2.2 + n) Q (F0 m (pc + 3) ls (.ref (ad q) :: st.map (q_tr ad))) := kk
  rw [hak] at kk
  obtain ⟨t, b1, b2⟩ := kk ((T.setVm vm').pushCell (vp_cell (dA 0) (n, .inl f))) (by rw [← hH1, ← hT]; rfl) X'
  refine ⟨t, stp t ?_, b2⟩
  rw [hcellE, hT]
  exact b1
/-- behind a call -/
theorem wz_back {rv : Option Value} {h1 h2 : PH} {H : Heap} {locs : List Loc} {ls : Array Slot} {cells slots mc ms : Nat} {st0 rest : List Value}
    (hr : va_Run p l e R s m args below meth c H locs cells slots mc ms (F0 m pc ls st0) rest (fun st o t => o = .returned (rv.map (q_tr ad)) ∧ q_Rep D dA base ad h2 t.heap ∧ va_F (q_A base) st t) (q_A base)) (hS : va_S (q_A base) s.heap H locs)
    (kk : ∀ (H1 : Heap) (locs1 : List Loc), q_Rep D dA base ad h2 H1 → va_S (q_A base) s.heap H1 locs1 → W p l e R s m args below meth c H1 locs1 (cells + mc) (slots + ms) Q (F0 m (pc + 3) ls ((rv.map (q_tr ad)).toList ++ rest))) : W p l e R s m args below meth c H locs cells slots Q (F0 m pc ls st0) := by
  intro T hT X
  obtain ⟨v, st₀, t, T', L, g0, X', hL, e1, e2, ⟨hv, hp, hz, hk⟩, stp⟩ := hr T hT X
  cases hv
  rw [g0] at hz hk
  obtain ⟨t2, a1, b1⟩ := kk T'.heap (locs ++ L) (by rw [e1]; exact hp)
    ⟨Nat.le_trans hS.1 (by rw [e1]; exact hz), fun q g1 g2 => by rw [e1, hk q (Nat.lt_of_lt_of_le g1 hS.1) g2]; exact hS.2.1 q g1 g2, fun q hq => by
      rcases List.mem_append.mp hq with h | h
      · exact hS.2.2 q h
      · exact hL q h⟩ T' rfl X'
  exact ⟨t2, stp t2 a1, b1⟩
variable {mY : Nat → MethodName} {mC : Nat → ByteArray} {mL : Nat → Nat} {mT : Nat → Option FieldType}
/-- what every call of method M needs of the tables -/
theorem wz_pre {as : List Value} {H : Heap} {locs : List Loc} (hF : q_FX D dA base sa ro tbl s) (a1 : q_Rep D dA base ad h H) (a2 : va_S (q_A base) s.heap H locs) : PreS s H (va_Pc (as.map (q_tr ad)) (fun U => q_Rep D dA base ad h U.heap ∧ q_FX D dA base sa ro tbl U)) (as.map (q_tr ad)) :=
  ⟨fun a U g mk q => ⟨q.1, q.2.1, q.2.2.same rfl rfl⟩, fun U hU hW => ⟨rfl, by rw [hU]; exact a1, hF.moved hW a2 hU⟩⟩
theorem q_good (hts : ∀ w ∈ tbl, goodWord w = true → w.before args s = true) {M : Nat} (hco : Cond.code (mY M) (mC M) (mL M) (mT M) ∈ tbl) : ∀ w ∈ q_ws mY mC mL mT tbl M, ∀ (a' : Array Value) (U : State), s.WarmedH U.vm → w.before a' U = true := by
  intro w hw a' U hW
  rcases List.mem_cons.mp hw with rfl | hw
  · exact word_at hW (Or.inl rfl) (hts _ hco rfl)
  · obtain ⟨g1, g2⟩ := List.mem_filter.mp hw
    exact word_at hW (good_of_word g2) (hts w g1 g2)
theorem wz_call (hx : p.tables.exec = Jvm.exec) (hb : c.code = cc) (hml : c.maxLocals = nL) (hF : q_FX D dA base sa ro tbl s) (hown : s.vm.findClass own = some m.cls) (hts : ∀ w ∈ tbl, goodWord w = true → w.before args s = true) {d M x b : Nat} {rv : Option Value} {h' h2 : PH} {as lv2 : List Value} (hsplit : st = as.reverse ++ lv2) (hM : q_Met l D dA base sa ro mY mC mL mT tbl d M as h rv h2) (hpl : PLe h h2) (hle : PLe h2 h') (had : ∀ (i k : Nat), h'.2.2.1[i]? = some k → ad k = base + i) (hsa : ∀ k, 30000 ≤ k → ad k = sa k)
    (hco : Cond.code (mY M) (mC M) (mL M) (mT M) ∈ tbl) (hini : (Cond.initialized (mY M).cls).before args s = true) (hy : (mY M).cls ≠ "java/lang/invoke/MethodHandle" ∧ (mY M).cls ≠ "java/lang/invoke/VarHandle") (hmL : mL M ≤ 41) (hl2 : lv2.length ≤ 4) (hR : d + 1 ≤ R.frames ∧ 60 * (d + 1) ≤ R.locals ∧ h'.2.2.1.length - h0.2.2.1.length ≤ R.cells ∧ h'.2.2.2 - h0.2.2.2 ≤ R.slots)
    (hkind : (∃ (kq ci : Nat) (fs asr : List Value), as = .ref kq :: asr ∧ (parseMethodDescriptor (mY M).desc).map (fun d => d.parameters.length) = some asr.length ∧ h.1 kq = some (.inr (.inr (ci, fs))) ∧ (∃ q : vw_C, vwCl[ci]? = some q ∧ q.1 = (mY M).cls) ∧ (Cond.methodLink own x (mY M)).before args s = true ∧ (Cond.instanceMethod (mY M)).before args s = true ∧ (Cond.selects (mY M).cls (mY M) (mY M)).before args s = true ∧ decode cc pc = .ok (.invokevirtual x, 3)) ∨
      ((parseMethodDescriptor (mY M).desc).map (fun d => d.parameters.length) = some as.length ∧ ((Cond.methodLink own x (mY M)).before args s = true ∨ ∃ host, va_Nw (.methodLinkNest own x (mY M) host) s) ∧ (Cond.static (mY M)).before args s = true ∧ decode cc pc = .ok (.invokestatic x, 3)) ∨
      (∃ (kq : Nat) (asr : List Value), as = .ref kq :: asr ∧ (parseMethodDescriptor (mY M).desc).map (fun d => d.parameters.length) = some asr.length ∧ ((Cond.methodLink own x (mY M)).before args s = true ∨ ∃ host, va_Nw (.methodLinkNest own x (mY M) host) s) ∧ (Cond.instanceMethod (mY M)).before args s = true ∧ (mY M).name = "<init>" ∧ mT M = none ∧ decode cc pc = .ok (.invokespecial x, 3)))
    (kk : q_WZ p l e R s m args below meth c Q D dA base ad nL h0 h2 lv (pc + 3) (rv.toList ++ lv2)) : q_WZ p l e R s m args below meth c Q D dA base ad nL h0 h lv pc st := by
  intro H locs ls a1 a2 a3 a4
  subst hsplit
  have hM := hM ad (fun i k hi => had i k (by
    obtain ⟨suf, hs⟩ := hle.1
    rw [← hs, List.getElem?_append_left (List.getElem?_eq_some_iff.mp hi).1]
    exact hi)) hsa
  have l1 : h0.2.2.1.length ≤ h.2.2.1.length := a4.1.length_le
  have l2 : h.2.2.1.length ≤ h2.2.2.1.length := hpl.1.length_le
  have l3 : h2.2.2.1.length ≤ h'.2.2.1.length := hle.1.length_le
  have u1 := a4.2
  have u2 := hpl.2
  have u3 := hle.2
  have hfix : CallFix p m c cc nL s args ([] : List Cond) own := ⟨hx, hb, hml, hown, fun w hw => by simp at hw⟩
  have hcode : (Cond.code (mY M) (mC M) (mL M) (mT M)).before args s = true := hts _ hco rfl
  have hcw : Cond.code (mY M) (mC M) (mL M) (mT M) ∈ q_ws mY mC mL mT tbl M := List.mem_cons_self
  have hgood := q_good (mY := mY) (mC := mC) (mL := mL) (mT := mT) hts hco
  have hrm : (q_room d (h2.2.2.1.length - h.2.2.1.length) (h2.2.2.2 - h.2.2.2)).frames + 1 ≤ R.frames ∧ 8 + (mL M + 11) + (q_room d (h2.2.2.1.length - h.2.2.1.length) (h2.2.2.2 - h.2.2.2)).locals ≤ R.locals := by
    refine ⟨hR.1, ?_⟩
    show 8 + (mL M + 11) + 60 * d ≤ R.locals
    omega
  have hroom : 2 * (F0 m pc ls ((as.reverse ++ lv2).map (q_tr ad))).monitorRoom + ((lv2.map (q_tr ad)).map fun v => v.category).sum ≤ 8 := lv_room (q_cats ad lv2 4 hl2)
  have hf : h.2.2.1.length - h0.2.2.1.length + (h2.2.2.1.length - h.2.2.1.length) ≤ R.cells ∧ h.2.2.2 - h0.2.2.2 + (h2.2.2.2 - h.2.2.2) ≤ R.slots := ⟨by omega, by omega⟩
  have hbl : FrameBlind (va_Pc (as.map (q_tr ad)) (fun U => q_Rep D dA base ad h U.heap ∧ q_FX D dA base sa ro tbl U)) := fun a U g mk q => ⟨q.1, q.2.1, q.2.2.same rfl rfl⟩
  have hpre : ∀ U : State, U.heap = H → s.WarmedH U.vm → va_Pc (as.map (q_tr ad)) (fun U => q_Rep D dA base ad h U.heap ∧ q_FX D dA base sa ro tbl U) (as.map (q_tr ad)).toArray U := fun U hU hW => ⟨rfl, by rw [hU]; exact a1, hF.moved hW a2 hU⟩
  have back : va_Run p l e R s m args below meth c H locs (h.2.2.1.length - h0.2.2.1.length) (h.2.2.2 - h0.2.2.2) (h2.2.2.1.length - h.2.2.1.length) (h2.2.2.2 - h.2.2.2) (F0 m pc ls ((as.reverse ++ lv2).map (q_tr ad))) (lv2.map (q_tr ad)) (fun st o t => o = .returned (rv.map (q_tr ad)) ∧ q_Rep D dA base ad h2 t.heap ∧ va_F (q_A base) st t) (q_A base) → W p l e R s m args below meth c H locs (h.2.2.1.length - h0.2.2.1.length) (h.2.2.2 - h0.2.2.2) Q (F0 m pc ls ((as.reverse ++ lv2).map (q_tr ad))) := by
    intro hr
    refine wz_back (h1 := h) hr a2 (fun H1 locs1 b1 b2 => ?_)
    have k2 := kk H1 locs1 ls b1 b2 a3 (a4.tr hpl)
    have e1 : h2.2.2.1.length - h0.2.2.1.length = h.2.2.1.length - h0.2.2.1.length + (h2.2.2.1.length - h.2.2.1.length) := by omega
    have e2 : h2.2.2.2 - h0.2.2.2 = h.2.2.2 - h0.2.2.2 + (h2.2.2.2 - h.2.2.2) := by omega
    rw [e1, e2] at k2
    have e3 : (rv.toList ++ lv2).map (q_tr ad) = (rv.map (q_tr ad)).toList ++ lv2.map (q_tr ad) := by cases rv <;> simp
    rw [e3] at k2
    exact k2
  apply back
  rcases hkind with ⟨kq, ci, fs, asr, rfl, hd1, hkq, ⟨q, hq1, hq2⟩, hl, hin, hse, hd⟩ | ⟨hd1, hl, hstt, hd⟩ | ⟨kq, asr, rfl, hd1, hl, hin, hnm, hnone, hd⟩
  · have hlen : ∀ sig, parseMethodDescriptor (mY M).desc = some sig → asr.length = sig.parameters.length := fun sig hsig => by
      rw [hsig] at hd1
      exact (Option.some.inj hd1).symm
    refine va_runV (As := asr.map (q_tr ad)) (b := ad kq) (rest := lv2.map (q_tr ad)) (n := asr.length) (C := (mY M).cls) hfix hM ⟨⟨rfl, rfl, hrm.1, hrm.2, hgood, hcw, hcode, hini, hy, hlen, hl⟩, hin, hse⟩ ⟨hbl, ?_, hpre⟩ rfl (by simp) a3.1 (by simp [q_tr]) hroom hd hf
    rw [← hq2]
    exact va_recv hF.K0 (a1.one hkq) hq1 (q0 := 0) rfl
  · have hlen : ∀ sig, parseMethodDescriptor (mY M).desc = some sig → as.length = sig.parameters.length := fun sig hsig => by
      rw [hsig] at hd1
      exact (Option.some.inj hd1).symm
    rcases hl with hl | ⟨host, hl⟩
    · exact va_runS (As := as.map (q_tr ad)) (rest := lv2.map (q_tr ad)) (n := as.length) hfix hM ⟨⟨rfl, rfl, hrm.1, hrm.2, hgood, hcw, hcode, hini, hy, hlen, hl⟩, hstt⟩ ⟨hbl, hpre⟩ rfl (by simp) a3.1 (by simp) hroom hd hf
    · exact va_runSN (As := as.map (q_tr ad)) (rest := lv2.map (q_tr ad)) (n := as.length) (host := host) hfix hM ⟨⟨⟨rfl, rfl, hrm.1, hrm.2, hgood, hcw⟩, hcode, hini, hy, hlen, va_Nw.use rfl hl⟩, hstt, trivial⟩ ⟨hbl, hpre⟩ rfl (by simp) a3.1 (by simp) hroom hd hf
  · have hlen : ∀ sig, parseMethodDescriptor (mY M).desc = some sig → asr.length = sig.parameters.length := fun sig hsig => by
      rw [hsig] at hd1
      exact (Option.some.inj hd1).symm
    rw [hnone] at hcw hcode
    rcases hl with hl | ⟨host, hl⟩
    · exact va_runI (As := asr.map (q_tr ad)) (b := ad kq) (rest := lv2.map (q_tr ad)) (n := asr.length) hfix hM ⟨⟨rfl, rfl, hrm.1, hrm.2, hgood, hcw, hcode, hini, hy, hlen, hl⟩, hnm, hin⟩ ⟨hbl, hpre⟩ rfl (by simp) a3.1 (by simp [q_tr]) hroom hd hf
    · exact va_runIN (As := asr.map (q_tr ad)) (b := ad kq) (rest := lv2.map (q_tr ad)) (n := asr.length) (host := host) hfix hM ⟨⟨⟨rfl, rfl, hrm.1, hrm.2, hgood, hcw⟩, hcode, hini, hy, hlen, va_Nw.use rfl hl⟩, hnm, hin⟩ ⟨hbl, hpre⟩ rfl (by simp) a3.1 (by simp [q_tr]) hroom hd hf
end WZ3
end
section
/-! THE CHECK of a block against the machine's bytes and tables, and what a checked program does -/
section CHK
variable (mY : Nat → MethodName) (mC : Nat → ByteArray) (mL : Nat → Nat) (mT : Nat → Option FieldType) (tbl : List Cond) (nM : Nat)
def c_dc (M pc : Nat) (ins : Instr) (len : Nat) : Bool := decide (decode (mC M) pc = .ok (ins, len))
def c_tk (n : Nat) (w : Cond) : Bool := decide (tbl[n]? = some w) && goodWord w
def c_tx (n : Nat) (w : Cond) : Bool := decide (tbl[n]? = some w) && xok w
def c_f4 (a : Nat) : Fin 4 := Fin.ofNat 4 a
def c_cls (a : Nat) : String := (vwCl.getD a ("", TX0, 0)).1
def c_fld (a b : Nat) : String × String × String × Bool := (vwCl.getD a ("", TX0, 0)).2.1 b
def c_ref (ty : FieldType) : Bool := match ty with
  | .object _ => true
  | .array _ => true
  | _ => false
def c_put (M pc len a b x : Nat) (ts : List Nat) : Bool :=
  len == 3 && c_dc mC M pc (.putfield x) 3 && decide (a < 12) && decide (b < clN a) && c_tk tbl (ts.getD 0 0) (.fieldLink (mY M).cls x (c_fld a b).1 (c_fld a b).2.1 (c_fld a b).2.2.1) && ((c_fld a b).2.2.2 == false || ((c_fld a b).2.2.2 == true && (mY M).name == "<init>" && (c_fld a b).1 == (mY M).cls))
def c_inv (M pc len a b x : Nat) (v : Int32) (ts : List Nat) : Bool :=
  len == 3 && decide (a < nM) && decide (mL a ≤ 41) && (mY a).cls != "java/lang/invoke/MethodHandle" && (mY a).cls != "java/lang/invoke/VarHandle" && c_tk tbl (ts.getD 1 0) (.initialized (mY a).cls) &&
  ((decide (v = 0) && c_dc mC M pc (.invokevirtual (ts.getD 0 0)) 3 && decide (1 ≤ b) && decide (1 ≤ x) && decide (x - 1 < 12) && c_cls (x - 1) == (mY a).cls && decide ((parseMethodDescriptor (mY a).desc).map (fun d => d.parameters.length) = some (b - 1)) && c_tk tbl (ts.getD 2 0) (.methodLink (mY M).cls (ts.getD 0 0) (mY a)) && c_tk tbl (ts.getD 3 0) (.instanceMethod (mY a)) && c_tk tbl (ts.getD 4 0) (.selects (mY a).cls (mY a) (mY a))) ||
   (decide (v = 1) && c_dc mC M pc (.invokestatic (ts.getD 0 0)) 3 && decide ((parseMethodDescriptor (mY a).desc).map (fun d => d.parameters.length) = some b) && (c_tk tbl (ts.getD 2 0) (.methodLink (mY M).cls (ts.getD 0 0) (mY a)) || c_tx tbl (ts.getD 2 0) (.methodLinkNest (mY M).cls (ts.getD 0 0) (mY a) "PoleLogs")) && c_tk tbl (ts.getD 3 0) (.static (mY a))) ||
   (decide (v = 2) && c_dc mC M pc (.invokespecial (ts.getD 0 0)) 3 && decide (1 ≤ b) && decide (1 ≤ x) && decide ((parseMethodDescriptor (mY a).desc).map (fun d => d.parameters.length) = some (b - 1)) && (c_tk tbl (ts.getD 2 0) (.methodLink (mY M).cls (ts.getD 0 0) (mY a)) || c_tx tbl (ts.getD 2 0) (.methodLinkNest (mY M).cls (ts.getD 0 0) (mY a) "PoleLogs")) && c_tk tbl (ts.getD 3 0) (.instanceMethod (mY a)) && (mY a).name == "<init>" && decide (mT a = none)))
def chk (M : Nat) (i : PI) : Bool := match i with
  | (pc, len, op, a, b, x, v, ts) => match op with
    | 0 => (len == 1 && c_dc mC M pc (.iconst v.toInt) 1 && decide (Int32.ofInt v.toInt = v)) || (len == 2 && c_dc mC M pc (.bipush v.toInt) 2 && decide ((Int8.ofInt v.toInt).toInt32 = v)) || (len == 3 && c_dc mC M pc (.sipush v.toInt) 3 && decide ((Int16.ofInt v.toInt).toInt32 = v)) ||
        (len == 2 && c_dc mC M pc (.ldc x) 2 && c_tk tbl b (.constant (mY M).cls x v)) || (len == 3 && c_dc mC M pc (.ldc_w x) 3 && c_tk tbl b (.constant (mY M).cls x v))
    | 1 => (len == 1 && decide (a < 4) && c_dc mC M pc (.iload_n (c_f4 a)) 1) || (len == 2 && c_dc mC M pc (.iload a) 2)
    | 2 => (len == 1 && decide (a < 4) && c_dc mC M pc (.aload_n (c_f4 a)) 1) || (len == 2 && c_dc mC M pc (.aload a) 2)
    | 3 => decide (a < mL M) && ((len == 1 && decide (a < 4) && c_dc mC M pc (.istore_n (c_f4 a)) 1) || (len == 2 && c_dc mC M pc (.istore a) 2))
    | 4 => decide (a < mL M) && ((len == 1 && decide (a < 4) && c_dc mC M pc (.astore_n (c_f4 a)) 1) || (len == 2 && c_dc mC M pc (.astore a) 2))
    | 5 => decide (a < mL M) && len == 3 && c_dc mC M pc (.iinc a v.toInt) 3 && decide (Int32.ofInt v.toInt = v)
    | 6 => len == 1 && c_dc mC M pc (match a with | 0 => .iadd | 1 => .isub | 2 => .imul | 3 => .iand | 4 => .ior | 5 => .ixor | 6 => .ishl | 7 => .ishr | _ => .iushr) 1
    | 7 => len == 1 && c_dc mC M pc .idiv 1
    | 8 => len == 1 && c_dc mC M pc .irem 1
    | 9 => len == 1 && c_dc mC M pc (match a with | 0 => .ineg | 1 => .i2b | _ => .i2s) 1
    | 10 => len == 3 && c_dc mC M pc (.ifCond (match a with | 0 => .eq | 1 => .ne | 2 => .lt | 3 => .ge | 4 => .gt | _ => .le) ((b : Int) - (pc : Int))) 3
    | 11 => len == 3 && c_dc mC M pc (.if_icmp (match a with | 0 => .eq | 1 => .ne | 2 => .lt | 3 => .ge | 4 => .gt | _ => .le) ((b : Int) - (pc : Int))) 3
    | 12 => len == 3 && c_dc mC M pc (.ifnull ((b : Int) - (pc : Int))) 3
    | 13 => len == 3 && c_dc mC M pc (.ifnonnull ((b : Int) - (pc : Int))) 3
    | 14 => c_dc mC M pc (.goto ((b : Int) - (pc : Int))) 3
    | 15 => c_dc mC M pc (.tableswitch ((b : Int) - (pc : Int)) v.toInt (v.toInt + ts.length - 1) (ts.map fun t : Nat => (t : Int) - (pc : Int)).toArray) len && decide (v.toInt + ts.length < 2 ^ 31)
    | 16 => c_dc mC M pc (.lookupswitch ((b : Int) - (pc : Int)) (q_prs pc ts).toArray) len && (q_prs pc ts).all (fun q => decide (q.1 < 2 ^ 31)) && ((q_prs pc ts).toArray.toList.zip ((q_prs pc ts).toArray.toList.drop 1)).all (fun (a, next) => a.1 < next.1)
    | 17 => len == 3 && c_dc mC M pc (.getfield x) 3 && decide (a < 12) && decide (b < clN a) && c_tk tbl (ts.getD 0 0) (.fieldLink (mY M).cls x (c_fld a b).1 (c_fld a b).2.1 (c_fld a b).2.2.1)
    | 18 => len == 3 && c_dc mC M pc (.getfield x) 3 && decide (a < 12) && decide (b < clN a) && c_tk tbl (ts.getD 0 0) (.fieldLink (mY M).cls x (c_fld a b).1 (c_fld a b).2.1 (c_fld a b).2.2.1)
    | 19 => c_put mY mC tbl M pc len a b x ts && decide (clT a b = .int)
    | 20 => c_put mY mC tbl M pc len a b x ts && decide (clT a b = .boolean)
    | 21 => c_put mY mC tbl M pc len a b x ts && c_ref (clT a b)
    | 22 => len == 1 && c_dc mC M pc (match a with | 0 => .iaload | 1 => .baload | _ => .caload) 1
    | 23 => len == 1 && c_dc mC M pc .aaload 1
    | 24 => len == 1 && c_dc mC M pc .iastore 1
    | 25 => len == 1 && c_dc mC M pc .bastore 1
    | 26 => len == 1 && c_dc mC M pc .aastore 1
    | 27 => len == 1 && c_dc mC M pc .arraylength 1
    | 28 => len == 3 && decide (a < 4) && c_dc mC M pc (.getstatic x) 3 && (c_tk tbl (ts.getD 0 0) (.fieldLink (mY M).cls x "PoleLogs" (statL.getD a ("", "")).1 (statL.getD a ("", "")).2) || c_tx tbl (ts.getD 0 0) (.fieldLinkNest (mY M).cls x "PoleLogs" (statL.getD a ("", "")).1 (statL.getD a ("", "")).2 "PoleLogs"))
    | 29 => len == 3 && c_dc mC M pc (.new x) 3 && decide (a < 12) && c_tk tbl (ts.getD 0 0) (.classLink (mY M).cls x (c_cls a)) && c_tk tbl (ts.getD 1 0) (.instantiable (c_cls a) (clN a)) && c_tk tbl (ts.getD 2 0) (.initialized (c_cls a))
    | 30 => len == 2 && ((a == 0 && c_dc mC M pc (.newarray .int) 2 && c_tk tbl (ts.getD 0 0) (.arrayClass .int)) || (a == 1 && c_dc mC M pc (.newarray .boolean) 2 && c_tk tbl (ts.getD 0 0) (.arrayClass .boolean)))
    | 31 => len == 3 && (a == 13 || a == 14 || a == 17 || a == 18) && c_dc mC M pc (.anewarray x) 3 && c_tk tbl (ts.getD 0 0) (.classLink (mY M).cls x (c_cls (a - 10))) && c_tx tbl (ts.getD 1 0) (.arrayOver (.object (c_cls (a - 10))))
    | 32 => len == 1 && c_dc mC M pc .dup 1
    | 33 => len == 1 && c_dc mC M pc .dup2 1
    | 34 => len == 1 && c_dc mC M pc .pop 1
    | 35 => c_inv mY mC mL mT tbl nM M pc len a b x v ts
    | 36 => c_inv mY mC mL mT tbl nM M pc len a b x v ts
    | 37 => c_inv mY mC mL mT tbl nM M pc len a b x v ts
    | 38 => c_dc mC M pc .return_ 1 && decide (mT M = none)
    | 39 => c_dc mC M pc .ireturn 1 && decide (mT M = some .int)
    | 40 => c_dc mC M pc .ireturn 1 && decide (mT M = some .boolean)
    | 41 => c_dc mC M pc .areturn 1 && (match mT M with | some ty => c_ref ty | none => false)
    | 42 => len == 1 && c_dc mC M pc .aconst_null 1
    | 43 => len == 3 && c_dc mC M pc (.invokespecial x) 3 && c_tk tbl (ts.getD 0 0) (.methodLink (mY M).cls x Lib.objectInit) && c_tk tbl (ts.getD 1 0) (.instanceMethod Lib.objectInit) && c_tk tbl (ts.getD 2 0) (.code Lib.objectInit ⟨#[0xb1]⟩ 1 none)
    | 44 => len == 3 && c_dc mC M pc (.invokestatic x) 3 && c_tk tbl (ts.getD 0 0) (.methodLink (mY M).cls x arraycopyName) && c_tk tbl (ts.getD 1 0) (.native arraycopyName) && c_tk tbl (ts.getD 2 0) (.static arraycopyName) && c_tk tbl (ts.getD 3 0) (.initialized "java/lang/System")
    | 45 => b == pc
    | 46 => len == 3 && c_dc mC M pc (.invokevirtual x) 3 && c_tk tbl (ts.getD 0 0) (.methodLink (mY M).cls x ⟨"[I", "clone", "()Ljava/lang/Object;"⟩) && c_tk tbl (ts.getD 1 0) (.sameMethod "[I" "java/lang/Object" "clone" "()Ljava/lang/Object;") && c_tk tbl (ts.getD 2 0) (.native ⟨"java/lang/Object", "clone", "()Ljava/lang/Object;"⟩) && c_tk tbl (ts.getD 3 0) (.instanceMethod ⟨"java/lang/Object", "clone", "()Ljava/lang/Object;"⟩) && c_tk tbl (ts.getD 4 0) (.selects "[I" ⟨"[I", "clone", "()Ljava/lang/Object;"⟩ ⟨"java/lang/Object", "clone", "()Ljava/lang/Object;"⟩) && c_tx tbl (ts.getD 5 0) (.castable "[I" "java/lang/Cloneable")
    | 47 => len == 3 && c_dc mC M pc (.checkcast x) 3 && c_tk tbl (ts.getD 0 0) (.classLink (mY M).cls x "[I")
    | _ => false
def chkL (M : Nat) : Nat → List PI → Bool
  | _, [] => true
  | pc, i :: is => i.1 == pc && chk mY mC mL mT tbl nM M i && chkL M (pc + i.2.1) is
/-- the program's tables are as they are said to be -/
def q_tabs : Prop := (∀ M, M < nM → Cond.code (mY M) (mC M) (mL M) (mT M) ∈ tbl) ∧ (∀ (ci : Nat) (q : vw_C), vwCl[ci]? = some q → ∀ w ∈ u_ws q.1 q.2.1 q.2.2, w ∈ tbl ∧ goodWord w = true)
end CHK
theorem c_dc_t {mC : Nat → ByteArray} {M pc : Nat} {ins : Instr} {len : Nat} (h : c_dc mC M pc ins len = true) : decode (mC M) pc = .ok (ins, len) := of_decide_eq_true h
theorem c_tk_t {tbl : List Cond} {n : Nat} {w : Cond} (h : c_tk tbl n w = true) {args : Array Value} {s : State} (hts : ∀ w ∈ tbl, goodWord w = true → w.before args s = true) : w.before args s = true := by
  simp only [c_tk, Bool.and_eq_true, decide_eq_true_eq] at h
  exact hts w (List.mem_of_getElem? h.1) h.2
theorem c_tx_t {tbl : List Cond} {n : Nat} {w : Cond} (h : c_tx tbl n w = true) {D : va_G} {dA : Nat → ClassId} {base : Nat} {sa : Nat → Nat} {ro : RO} {s : State} (hF : q_FX D dA base sa ro tbl s) : va_Nw w s := by
  simp only [c_tx, Bool.and_eq_true, decide_eq_true_eq] at h
  exact hF.2.2.2.2 w (List.mem_of_getElem? h.1) h.2
theorem c_f4_v {a : Nat} (h : a < 4) : ((c_f4 a : Fin 4) : Nat) = a := by
  show a % 4 = a
  omega
theorem c_vw {a : Nat} (h : a < 12) : vwCl[a]? = some (c_cls a, (vwCl.getD a ("", TX0, 0)).2.1, clN a) := by
  have hl : a < vwCl.length := h
  simp [c_cls, clN, List.getD_eq_getElem?_getD, List.getElem?_eq_getElem hl]
theorem c_tyok : ∀ a, a < 12 → ∀ k, k < clN a → parseFieldDescriptor (c_fld a k).2.2.1 = some (clT a k)
  | 0, _ => tyX0_ok | 1, _ => tyX1_ok | 2, _ => tyX2_ok | 3, _ => tyX3_ok | 4, _ => tyX4_ok | 5, _ => tyX5_ok | 6, _ => tyX6_ok | 7, _ => tyX7_ok | 8, _ => tyX8_ok | 9, _ => tyX9_ok | 10, _ => tyX10_ok | 11, _ => tyX11_ok
  | n + 12, h => absurd h (by omega)
theorem c_nmok : ∀ a, a < 12 → ∀ x, x < clN a → ∀ y, y < clN a → x ≠ y → (c_fld a x).2.1 ≠ (c_fld a y).2.1
  | 0, _ => nmX0 | 1, _ => nmX1 | 2, _ => nmX2 | 3, _ => nmX3 | 4, _ => nmX4 | 5, _ => nmX5 | 6, _ => nmX6 | 7, _ => nmX7 | 8, _ => nmX8 | 9, _ => nmX9 | 10, _ => nmX10 | 11, _ => nmX11
  | n + 12, h => absurd h (by omega)
theorem c_ref_n {ty : FieldType} (h : c_ref ty = true) (k : Nat) : narrow ty (.ref k) = .ref k ∧ fits ty (.ref k) = true := by
  cases ty <;> first | exact ⟨rfl, rfl⟩ | cases h
theorem c_bool_n {y : Int32} (h : y = 0 ∨ y = 1) : narrow .boolean (.int y) = .int y ∧ fits .boolean (.int y) = true := by
  rcases h with rfl | rfl <;> exact ⟨by decide +kernel, by decide +kernel⟩
end
section
/-! ONE STEP of a checked program, and its runs -/
section STEPS
variable {p : Program} {l : Launch} {e : Env} {R : Room} {s : State} {m : MethodId} {args : Array Value} {below : List Frame} {meth : Method} {c : Code} {Q : State → Prop} {D : va_G} {dA : Nat → ClassId} {base : Nat} {ad : Nat → Nat} {h0 : PH} {sa : Nat → Nat} {ro : RO} {tbl : List Cond} {nM : Nat}
variable {mY : Nat → MethodName} {mC : Nat → ByteArray} {mL : Nat → Nat} {mT : Nat → Option FieldType}
/-- what a method's body may take as given -/
def q_CX (p : Program) (l : Launch) (R : Room) (s : State) (m : MethodId) (args : Array Value) (meth : Method) (c : Code) (D : va_G) (dA : Nat → ClassId) (base : Nat) (ad : Nat → Nat) (h0 : PH) (sa : Nat → Nat) (ro : RO) (tbl : List Cond) (nM : Nat) (mY : Nat → MethodName) (mC : Nat → ByteArray) (mL : Nat → Nat) (mT : Nat → Option FieldType) (C : Nat → List Value → PH → PR) (d M : Nat) (h' : PH) : Prop :=
  p.tables.exec = Jvm.exec ∧ c.code = mC M ∧ c.maxLocals = mL M ∧ s.vm.findClass (mY M).cls = some m.cls ∧ (∀ w ∈ tbl, goodWord w = true → w.before args s = true) ∧ q_FX D dA base sa ro tbl s ∧ ((mY M).name = "<init>" → meth.name = "<init>") ∧ q_tabs mY mC mL mT tbl nM ∧
  (∀ k, 30000 ≤ k → ad k = sa k) ∧ (∀ (i k : Nat), h'.2.2.1[i]? = some k → ad k = base + i) ∧ (d + 1 ≤ R.frames ∧ 60 * (d + 1) ≤ R.locals ∧ h'.2.2.1.length - h0.2.2.1.length ≤ R.cells ∧ h'.2.2.2 - h0.2.2.2 ≤ R.slots) ∧
  (∀ M' as h1 r1 h2, C M' as h1 = some (r1, h2) → q_Met l D dA base sa ro mY mC mL mT tbl d M' as h1 r1 h2) ∧ (∀ M' as h1 r1 h2, C M' as h1 = some (r1, h2) → PLe h1 h2)
/-- how a method ends -/
def q_RT (mC : Nat → ByteArray) (mT : Nat → Option FieldType) (M pc : Nat) (r : Option Value) : Prop :=
  (decode (mC M) pc = .ok (.return_, 1) ∧ r = none ∧ mT M = none) ∨ (decode (mC M) pc = .ok (.ireturn, 1) ∧ ∃ y : Int32, r = some (.int y) ∧ (mT M = some .int ∨ (mT M = some .boolean ∧ (y = 0 ∨ y = 1)))) ∨
  (decode (mC M) pc = .ok (.areturn, 1) ∧ ∃ v : Value, r = some v ∧ (v = .null ∨ ∃ q, v = .ref q) ∧ ∃ ty, mT M = some ty ∧ c_ref ty = true)
theorem q_new {C : Nat → List Value → PH → PR} {d M : Nat} {h h' : PH} {k kind n : Nat} {x : PE} (CX : q_CX p l R s m args meth c D dA base ad h0 sa ro tbl nM mY mC mL mT C d M h') (hle : PLe (ph_add h k kind n x) h') (h1 : PLe h0 h) : ad k = base + h.2.2.1.length ∧ h.2.2.1.length - h0.2.2.1.length + 1 ≤ R.cells ∧ h.2.2.2 - h0.2.2.2 + n ≤ R.slots := by
  obtain ⟨-, -, -, -, -, -, -, -, -, had, ⟨-, -, hc, hs⟩, -, -⟩ := CX
  have l1 : h0.2.2.1.length ≤ h.2.2.1.length := h1.1.length_le
  have l2 : h.2.2.1.length + 1 ≤ h'.2.2.1.length := by
    have := hle.1.length_le
    simpa [ph_add] using this
  have u1 := h1.2
  have u2 : h.2.2.2 + n ≤ h'.2.2.2 := hle.2
  refine ⟨had _ _ ?_, by omega, by omega⟩
  obtain ⟨suf, hsf⟩ := hle.1
  rw [← hsf]
  show ((h.2.2.1 ++ [k]) ++ suf)[h.2.2.1.length]? = some k
  simp
theorem wz_later {h : PH} {lv : PL} {pc nL : Nat} {st : List Value} (f : PLe h0 h → q_WZ p l e R s m args below meth c Q D dA base ad nL h0 h lv pc st) : q_WZ p l e R s m args below meth c Q D dA base ad nL h0 h lv pc st := fun H locs ls a1 a2 a3 a4 => f a4 H locs ls a1 a2 a3 a4
theorem call_sound {C : Nat → List Value → PH → PR} {d M : Nat} {h h' h2 : PH} {r1 : Option Value} {lv : PL} {st : List Value} {pc len a b x : Nat} {v : Int32} {ts : List Nat} (CX : q_CX p l R s m args meth c D dA base ad h0 sa ro tbl nM mY mC mL mT C d M h')
    (hst : b ≤ st.length ∧ st.length ≤ b + 4 ∧ (x = 0 ∨ isO h ((st.take b).reverse)[0]? (x - 1) = true)) (hc : c_inv mY mC mL mT tbl nM M pc len a b x v ts = true) (e1 : C a (st.take b).reverse h = some (r1, h2)) (hle : PLe h2 h') (kk : q_WZ p l e R s m args below meth c Q D dA base ad (mL M) h0 h2 lv (pc + len) (r1.toList ++ st.drop b)) : q_WZ p l e R s m args below meth c Q D dA base ad (mL M) h0 h lv pc st := by
  obtain ⟨hx, hb, hml, hown, hts, hF, hini, htab, hsa, had, hR, hC, hCm⟩ := CX
  simp only [c_inv, Bool.and_eq_true, Bool.or_eq_true, decide_eq_true_eq, beq_iff_eq, bne_iff_ne] at hc
  obtain ⟨⟨⟨⟨⟨⟨rfl, ha⟩, hmL⟩, hy1⟩, hy2⟩, hin⟩, hk⟩ := hc
  have hlen : (st.take b).reverse.length = b := by simp; omega
  have hspl : st = ((st.take b).reverse).reverse ++ st.drop b := by simp
  refine wz_call (x := ts.getD 0 0) hx hb hml hF hown hts (b := b) hspl (hC _ _ _ _ _ e1) (hCm _ _ _ _ _ e1) hle had hsa (htab.1 a ha) (c_tk_t hin hts) ⟨hy1, hy2⟩ hmL (by simp; omega) hR ?_ kk
  rcases hk with (⟨⟨⟨⟨⟨⟨⟨⟨⟨-, hd⟩, hb1⟩, hx1⟩, hx2⟩, hcl⟩, hpd⟩, hl⟩, hi⟩, hsel⟩ | ⟨⟨⟨⟨-, hd⟩, hpd⟩, hl⟩, hstt⟩) | ⟨⟨⟨⟨⟨⟨⟨⟨-, hd⟩, hb1⟩, hx1⟩, hpd⟩, hl⟩, hi⟩, hnm⟩, hnone⟩
  · left
    rcases hst.2.2 with g | g
    · omega
    · obtain ⟨kq, fs, g1, g2⟩ := isO_inv g
      cases has : (st.take b).reverse with
      | nil => rw [has] at g1; cases g1
      | cons w asr =>
        rw [has] at g1 hlen
        cases g1
        exact ⟨kq, x - 1, fs, asr, rfl, by rw [hpd]; simp at hlen; congr 1; omega, g2, ⟨_, c_vw hx2, hcl⟩, c_tk_t hl hts, c_tk_t hi hts, c_tk_t hsel hts, c_dc_t hd⟩
  · right; left
    refine ⟨by rw [hpd, hlen], ?_, c_tk_t hstt hts, c_dc_t hd⟩
    rcases hl with hl | hl
    · exact Or.inl (c_tk_t hl hts)
    · exact Or.inr ⟨_, c_tx_t hl hF⟩
  · right; right
    have hobj : ∃ (kq : Nat) (asr : List Value), (st.take b).reverse = .ref kq :: asr := by
      rcases hst.2.2 with g | g
      · omega
      · obtain ⟨kq, fs, g1, g2⟩ := isO_inv g
        cases has : (st.take b).reverse with
        | nil => rw [has] at g1; cases g1
        | cons w asr =>
          rw [has] at g1
          cases g1
          exact ⟨kq, asr, rfl⟩
    obtain ⟨kq, asr, has⟩ := hobj
    refine ⟨kq, asr, has, ?_, ?_, c_tk_t hi hts, hnm, hnone, c_dc_t hd⟩
    · rw [hpd]
      rw [has] at hlen
      simp at hlen
      congr 1
      omega
    · rcases hl with hl | hl
      · exact Or.inl (c_tk_t hl hts)
      · exact Or.inr ⟨_, c_tx_t hl hF⟩
set_option maxHeartbeats 4000000 in
theorem step_sound {C : Nat → List Value → PH → PR} {J : Nat → PL → List Value → PH → PR} {K : PL → List Value → PH → PR} {d M : Nat} {h h' : PH} {r : Option Value} {lv : PL} {st : List Value} (CX : q_CX p l R s m args meth c D dA base ad h0 sa ro tbl nM mY mC mL mT C d M h')
    (hQ : ∀ (pc : Nat) (lv : PL), q_RT mC mT M pc r → q_WZ p l e R s m args below meth c Q D dA base ad (mL M) h0 h' lv pc r.toList) (hJ : ∀ t lv st h1, J t lv st h1 = some (r, h') → q_WZ p l e R s m args below meth c Q D dA base ad (mL M) h0 h1 lv t st) (hKm : ∀ lv st h1, K lv st h1 = some (r, h') → PLe h1 h') :
    ∀ (i : PI), chk mY mC mL mT tbl nM M i = true → (∀ lv st h1, K lv st h1 = some (r, h') → q_WZ p l e R s m args below meth c Q D dA base ad (mL M) h0 h1 lv (i.1 + i.2.1) st) → step ro J C i lv st h K = some (r, h') → q_WZ p l e R s m args below meth c Q D dA base ad (mL M) h0 h lv i.1 st := by
  obtain ⟨hx, hb, hml, hown, hts, hF, hini, htab, hsa, had, hR, hC, hCm⟩ := id CX
  rintro ⟨pc, len, op, a, b, x, v, ts⟩
  match op with
  | 0 =>
    intro hc hK hs
    simp only [chk, Bool.and_eq_true, Bool.or_eq_true, decide_eq_true_eq, beq_iff_eq] at hc
    have hs : K lv (.int v :: st) h = some (r, h') := hs
    have hK := hK _ _ _ hs
    rcases hc with (((⟨⟨rfl, hd⟩, hv⟩ | ⟨⟨rfl, hd⟩, hv⟩) | ⟨⟨rfl, hd⟩, hv⟩) | ⟨⟨rfl, hd⟩, hv⟩) | ⟨⟨rfl, hd⟩, hv⟩
    · exact wz_iconst hx hb (c_dc_t hd) hv hK
    · exact wz_bipush hx hb (c_dc_t hd) hv hK
    · exact wz_sipush hx hb (c_dc_t hd) hv hK
    · exact wz_ldc hx hb hown (c_tk_t hv hts) (c_dc_t hd) hK
    · exact wz_ldcw hx hb hown (c_tk_t hv hts) (c_dc_t hd) hK
  | 1 =>
    intro hc hK hs
    simp only [chk, Bool.and_eq_true, Bool.or_eq_true, decide_eq_true_eq, beq_iff_eq] at hc
    simp only [step] at hs
    split at hs
    · rename_i y hl
      have hK := hK _ _ _ hs
      rcases hc with ⟨⟨rfl, ha⟩, hd⟩ | ⟨rfl, hd⟩
      · exact wz_iload_n hx hb (c_dc_t hd) (c_f4_v ha) hl hK
      · exact wz_iload hx hb (c_dc_t hd) hl hK
    · cases hs
  | 2 =>
    intro hc hK hs
    simp only [chk, Bool.and_eq_true, Bool.or_eq_true, decide_eq_true_eq, beq_iff_eq] at hc
    simp only [step] at hs
    split at hs
    · rename_i y hl
      have hK := hK _ _ _ hs
      rcases hc with ⟨⟨rfl, ha⟩, hd⟩ | ⟨rfl, hd⟩
      · exact wz_aload_n hx hb (c_dc_t hd) (c_f4_v ha) hl hK
      · exact wz_aload hx hb (c_dc_t hd) hl hK
    · rename_i hl
      have hK := hK _ _ _ hs
      rcases hc with ⟨⟨rfl, ha⟩, hd⟩ | ⟨rfl, hd⟩
      · exact wz_aload_nN hx hb (c_dc_t hd) (c_f4_v ha) hl hK
      · exact wz_aloadN hx hb (c_dc_t hd) hl hK
    · cases hs
  | 3 =>
    intro hc hK hs
    simp only [chk, Bool.and_eq_true, Bool.or_eq_true, decide_eq_true_eq, beq_iff_eq] at hc
    simp only [step] at hs
    split at hs
    · have hK := hK _ _ _ hs
      obtain ⟨hn, ⟨⟨rfl, ha⟩, hd⟩ | ⟨rfl, hd⟩⟩ := hc
      · exact wz_istore_n hx hb (c_dc_t hd) (c_f4_v ha) hn hK
      · exact wz_istore hx hb (c_dc_t hd) hn hK
    · cases hs
  | 4 =>
    intro hc hK hs
    simp only [chk, Bool.and_eq_true, Bool.or_eq_true, decide_eq_true_eq, beq_iff_eq] at hc
    simp only [step] at hs
    split at hs
    · have hK := hK _ _ _ hs
      obtain ⟨hn, ⟨⟨rfl, ha⟩, hd⟩ | ⟨rfl, hd⟩⟩ := hc
      · exact wz_astore_n hx hb (c_dc_t hd) (c_f4_v ha) hn hK
      · exact wz_astore hx hb (c_dc_t hd) hn hK
    · have hK := hK _ _ _ hs
      obtain ⟨hn, ⟨⟨rfl, ha⟩, hd⟩ | ⟨rfl, hd⟩⟩ := hc
      · exact wz_astore_nN hx hb (c_dc_t hd) (c_f4_v ha) hn hK
      · exact wz_astoreN hx hb (c_dc_t hd) hn hK
    · cases hs
  | 5 =>
    intro hc hK hs
    simp only [chk, Bool.and_eq_true, Bool.or_eq_true, decide_eq_true_eq, beq_iff_eq] at hc
    simp only [step] at hs
    split at hs
    · rename_i y hl
      have hK := hK _ _ _ hs
      obtain ⟨⟨⟨hn, rfl⟩, hd⟩, hv⟩ := hc
      exact wz_iinc hx hb (c_dc_t hd) hv hl hn hK
    · cases hs
  | 6 =>
    intro hc hK hs
    simp only [chk, Bool.and_eq_true, Bool.or_eq_true, decide_eq_true_eq, beq_iff_eq] at hc
    simp only [step] at hs
    split at hs
    · have hK := hK _ _ _ hs
      obtain ⟨rfl, hd⟩ := hc
      exact wz_bop hx hb (c_dc_t hd) rfl hK
    · cases hs
  | 7 =>
    intro hc hK hs
    simp only [chk, Bool.and_eq_true, Bool.or_eq_true, decide_eq_true_eq, beq_iff_eq] at hc
    simp only [step] at hs
    split at hs
    · split at hs
      · cases hs
      · rename_i hy
        have hK := hK _ _ _ hs
        obtain ⟨rfl, hd⟩ := hc
        exact wz_idiv hx hb (c_dc_t hd) hy hK
    · cases hs
  | 8 =>
    intro hc hK hs
    simp only [chk, Bool.and_eq_true, Bool.or_eq_true, decide_eq_true_eq, beq_iff_eq] at hc
    simp only [step] at hs
    split at hs
    · split at hs
      · cases hs
      · rename_i hy
        have hK := hK _ _ _ hs
        obtain ⟨rfl, hd⟩ := hc
        exact wz_irem hx hb (c_dc_t hd) hy hK
    · cases hs
  | 9 =>
    intro hc hK hs
    simp only [chk, Bool.and_eq_true, Bool.or_eq_true, decide_eq_true_eq, beq_iff_eq] at hc
    simp only [step] at hs
    split at hs
    · have hK := hK _ _ _ hs
      obtain ⟨rfl, hd⟩ := hc
      exact wz_uop hx hb (c_dc_t hd) rfl hK
    · cases hs
  | 10 =>
    intro hc hK hs
    simp only [chk, Bool.and_eq_true, Bool.or_eq_true, decide_eq_true_eq, beq_iff_eq] at hc
    simp only [step] at hs
    split at hs
    · obtain ⟨rfl, hd⟩ := hc
      exact wz_if hx hb (c_dc_t hd) rfl (by omega) hs (fun w => hJ _ _ _ _ w) (fun w => hK _ _ _ w)
    · cases hs
  | 11 =>
    intro hc hK hs
    simp only [chk, Bool.and_eq_true, Bool.or_eq_true, decide_eq_true_eq, beq_iff_eq] at hc
    simp only [step] at hs
    split at hs
    · obtain ⟨rfl, hd⟩ := hc
      exact wz_icmp hx hb (c_dc_t hd) rfl (by omega) hs (fun w => hJ _ _ _ _ w) (fun w => hK _ _ _ w)
    · cases hs
  | 12 =>
    intro hc hK hs
    simp only [chk, Bool.and_eq_true, Bool.or_eq_true, decide_eq_true_eq, beq_iff_eq] at hc
    simp only [step] at hs
    split at hs
    · obtain ⟨rfl, hd⟩ := hc
      exact wz_ifnull hx hb (c_dc_t hd) (hK _ _ _ hs)
    · obtain ⟨rfl, hd⟩ := hc
      exact wz_ifnullN hx hb (c_dc_t hd) (by omega) (hJ _ _ _ _ hs)
    · cases hs
  | 13 =>
    intro hc hK hs
    simp only [chk, Bool.and_eq_true, Bool.or_eq_true, decide_eq_true_eq, beq_iff_eq] at hc
    simp only [step] at hs
    split at hs
    · obtain ⟨rfl, hd⟩ := hc
      exact wz_ifnonnull hx hb (c_dc_t hd) (by omega) (hJ _ _ _ _ hs)
    · obtain ⟨rfl, hd⟩ := hc
      exact wz_ifnonnullN hx hb (c_dc_t hd) (hK _ _ _ hs)
    · cases hs
  | 14 =>
    intro hc hK hs
    simp only [chk, Bool.and_eq_true, Bool.or_eq_true, decide_eq_true_eq, beq_iff_eq] at hc
    exact wz_goto hx hb (c_dc_t hc) (by omega) (hJ _ _ _ _ hs)
  | 15 =>
    intro hc hK hs
    simp only [chk, Bool.and_eq_true, Bool.or_eq_true, decide_eq_true_eq, beq_iff_eq] at hc
    simp only [step] at hs
    split at hs
    · exact wz_table hx hb (c_dc_t hc.1) rfl rfl rfl rfl hc.2 hs (fun t w => hJ _ _ _ _ w)
    · cases hs
  | 16 =>
    intro hc hK hs
    simp only [chk, Bool.and_eq_true] at hc
    simp only [step] at hs
    split at hs
    · exact wz_lookup hx hb (c_dc_t hc.1.1) rfl rfl (fun q hq => of_decide_eq_true (List.all_eq_true.mp hc.1.2 q hq)) hc.2 hs (fun t w => hJ _ _ _ _ w)
    · cases hs
  | 17 =>
    intro hc hK hs
    simp only [chk, Bool.and_eq_true, Bool.or_eq_true, decide_eq_true_eq, beq_iff_eq] at hc
    simp only [step] at hs
    split at hs
    · obtain ⟨fs, y, g1, g2, g3⟩ := gI_inv hs
      obtain ⟨⟨⟨⟨rfl, hd⟩, ha⟩, hbn⟩, hl⟩ := hc
      have hvw := c_vw ha
      exact wz_get hx hb hF hown hvw (fun w hw => hts w (htab.2 a _ hvw w hw).1 (htab.2 a _ hvw w hw).2) hbn (c_tk_t hl hts) g1 g2 (c_dc_t hd) (hK _ _ _ g3)
    · cases hs
  | 18 =>
    intro hc hK hs
    simp only [chk, Bool.and_eq_true, Bool.or_eq_true, decide_eq_true_eq, beq_iff_eq] at hc
    simp only [step] at hs
    split at hs
    · obtain ⟨fs, g1, g2⟩ := gR_inv hs
      obtain ⟨⟨⟨⟨rfl, hd⟩, ha⟩, hbn⟩, hl⟩ := hc
      have hvw := c_vw ha
      rcases g2 with ⟨q, g2, g3⟩ | ⟨g2, g3⟩
      · exact wz_get hx hb hF hown hvw (fun w hw => hts w (htab.2 a _ hvw w hw).1 (htab.2 a _ hvw w hw).2) hbn (c_tk_t hl hts) g1 g2 (c_dc_t hd) (hK _ _ _ g3)
      · exact wz_get hx hb hF hown hvw (fun w hw => hts w (htab.2 a _ hvw w hw).1 (htab.2 a _ hvw w hw).2) hbn (c_tk_t hl hts) g1 g2 (c_dc_t hd) (hK _ _ _ g3)
    · cases hs
  | 19 =>
    intro hc hK hs
    simp only [chk, Bool.and_eq_true, Bool.or_eq_true, decide_eq_true_eq, beq_iff_eq, c_put] at hc
    simp only [step] at hs
    split at hs
    · obtain ⟨fs, g1, g2, g3⟩ := pF_inv hs
      obtain ⟨⟨⟨⟨⟨⟨rfl, hd⟩, ha⟩, hbn⟩, hl⟩, hfin⟩, hty⟩ := hc
      have hvw := c_vw ha
      have hfin : (c_fld a b).2.2.2 = false ∨ ((c_fld a b).2.2.2 = true ∧ meth.name = "<init>" ∧ (c_fld a b).1 = (mY M).cls) := by
        rcases hfin with g | ⟨⟨g, g2⟩, g3⟩
        · exact Or.inl g
        · exact Or.inr ⟨g, hini g2, g3⟩
      exact wz_put hx hb hF hown hvw (fun w hw => hts w (htab.2 a _ hvw w hw).1 (htab.2 a _ hvw w hw).2) (c_tyok a ha) (c_nmok a ha) hbn (c_tk_t hl hts) hfin (by rw [hty]; rfl) (by rw [hty]; rfl) ha g1 g2 (c_dc_t hd) (hK _ _ _ g3)
    · cases hs
  | 20 =>
    intro hc hK hs
    simp only [chk, Bool.and_eq_true, Bool.or_eq_true, decide_eq_true_eq, beq_iff_eq, c_put] at hc
    simp only [step] at hs
    split at hs
    · split at hs
      · rename_i hy01
        obtain ⟨fs, g1, g2, g3⟩ := pF_inv hs
        obtain ⟨⟨⟨⟨⟨⟨rfl, hd⟩, ha⟩, hbn⟩, hl⟩, hfin⟩, hty⟩ := hc
        have hvw := c_vw ha
        have hfin : (c_fld a b).2.2.2 = false ∨ ((c_fld a b).2.2.2 = true ∧ meth.name = "<init>" ∧ (c_fld a b).1 = (mY M).cls) := by
          rcases hfin with g | ⟨⟨g, g2⟩, g3⟩
          · exact Or.inl g
          · exact Or.inr ⟨g, hini g2, g3⟩
        exact wz_put hx hb hF hown hvw (fun w hw => hts w (htab.2 a _ hvw w hw).1 (htab.2 a _ hvw w hw).2) (c_tyok a ha) (c_nmok a ha) hbn (c_tk_t hl hts) hfin (by rw [hty]; exact (c_bool_n hy01).1) (by rw [hty]; exact (c_bool_n hy01).2) ha g1 g2 (c_dc_t hd) (hK _ _ _ g3)
      · cases hs
    · cases hs
  | 21 =>
    intro hc hK hs
    simp only [chk, Bool.and_eq_true, Bool.or_eq_true, decide_eq_true_eq, beq_iff_eq, c_put] at hc
    simp only [step] at hs
    split at hs
    · obtain ⟨fs, g1, g2, g3⟩ := pF_inv hs
      obtain ⟨⟨⟨⟨⟨⟨rfl, hd⟩, ha⟩, hbn⟩, hl⟩, hfin⟩, hty⟩ := hc
      have hvw := c_vw ha
      have hfin : (c_fld a b).2.2.2 = false ∨ ((c_fld a b).2.2.2 = true ∧ meth.name = "<init>" ∧ (c_fld a b).1 = (mY M).cls) := by
        rcases hfin with g | ⟨⟨g, g2⟩, g3⟩
        · exact Or.inl g
        · exact Or.inr ⟨g, hini g2, g3⟩
      exact wz_put hx hb hF hown hvw (fun w hw => hts w (htab.2 a _ hvw w hw).1 (htab.2 a _ hvw w hw).2) (c_tyok a ha) (c_nmok a ha) hbn (c_tk_t hl hts) hfin (c_ref_n hty _).1 (c_ref_n hty _).2 ha g1 g2 (c_dc_t hd) (hK _ _ _ g3)
    · cases hs
  | 22 =>
    intro hc hK hs
    simp only [chk, Bool.and_eq_true, Bool.or_eq_true, decide_eq_true_eq, beq_iff_eq] at hc
    simp only [step] at hs
    split at hs
    · obtain ⟨n, f, g1, g2, g3⟩ := aI_inv hs
      obtain ⟨rfl, hd⟩ := hc
      exact wz_aI hx hb hF hsa g1 g2 (c_dc_t hd) (by rcases a with _ | _ | a <;> rfl) (hK _ _ _ g3)
    · cases hs
  | 23 =>
    intro hc hK hs
    simp only [chk, Bool.and_eq_true, Bool.or_eq_true, decide_eq_true_eq, beq_iff_eq] at hc
    simp only [step] at hs
    split at hs
    · obtain ⟨t, n, g, g1, g2, g3⟩ := aR_inv hs
      obtain ⟨rfl, hd⟩ := hc
      refine wz_aR hx hb hF g1 g2 (c_dc_t hd) (fun w => ?_) (fun q w => ?_)
      · rcases g3 with ⟨q', g3, g4⟩ | ⟨g3, g4⟩
        · rw [g3] at w; cases w
        · exact hK _ _ _ g4
      · rcases g3 with ⟨q', g3, g4⟩ | ⟨g3, g4⟩
        · rw [g3] at w; cases w; exact hK _ _ _ g4
        · rw [g3] at w; cases w
    · cases hs
  | 24 =>
    intro hc hK hs
    simp only [chk, Bool.and_eq_true, Bool.or_eq_true, decide_eq_true_eq, beq_iff_eq] at hc
    simp only [step] at hs
    split at hs
    · obtain ⟨n, f, g1, g2, g3⟩ := sI_inv hs
      obtain ⟨rfl, hd⟩ := hc
      exact wz_sI hx hb hF g1 g2 (c_dc_t hd) (hK _ _ _ g3)
    · cases hs
  | 25 =>
    intro hc hK hs
    simp only [chk, Bool.and_eq_true, Bool.or_eq_true, decide_eq_true_eq, beq_iff_eq] at hc
    simp only [step] at hs
    split at hs
    · obtain ⟨n, f, g1, g2, g3⟩ := sI_inv hs
      obtain ⟨rfl, hd⟩ := hc
      exact wz_sZ hx hb hF g1 g2 (c_dc_t hd) (hK _ _ _ g3)
    · cases hs
  | 26 =>
    intro hc hK hs
    simp only [chk, Bool.and_eq_true, Bool.or_eq_true, decide_eq_true_eq, beq_iff_eq] at hc
    simp only [step] at hs
    split at hs
    · obtain ⟨n, g, cl, fs, g1, g2, g3, g4⟩ := sR_inv hs
      obtain ⟨rfl, hd⟩ := hc
      exact wz_sR hx hb hF g1 g2 g3 (c_dc_t hd) (hK _ _ _ g4)
    · cases hs
  | 27 =>
    intro hc hK hs
    simp only [chk, Bool.and_eq_true, Bool.or_eq_true, decide_eq_true_eq, beq_iff_eq] at hc
    simp only [step] at hs
    split at hs
    · obtain ⟨t, n, f, g1, g2⟩ := aL_inv hs
      obtain ⟨rfl, hd⟩ := hc
      exact wz_aL hx hb hF hsa g1 (c_dc_t hd) (hK _ _ _ g2)
    · cases hs
  | 28 =>
    intro hc hK hs
    simp only [chk, Bool.and_eq_true, Bool.or_eq_true, decide_eq_true_eq, beq_iff_eq] at hc
    obtain ⟨⟨⟨rfl, ha⟩, hd⟩, hl⟩ := hc
    have hz : statL[a]? = some (statL.getD a ("", "")) := by
      have hl : a < statL.length := ha
      simp [List.getD_eq_getElem?_getD, List.getElem?_eq_getElem hl]
    refine wz_stat hx hb hF hown hsa hz ?_ (c_dc_t hd) (hK _ _ _ hs)
    rcases hl with hl | hl
    · exact Or.inl (c_tk_t hl hts)
    · exact Or.inr (va_Nw.use rfl (c_tx_t hl hF))
  | 29 =>
    intro hc hK hs
    simp only [chk, Bool.and_eq_true, Bool.or_eq_true, decide_eq_true_eq, beq_iff_eq] at hc
    simp only [step] at hs
    obtain ⟨⟨⟨⟨⟨rfl, hd⟩, ha⟩, hl1⟩, hl2⟩, hl3⟩ := hc
    obtain ⟨g1, g2, g3⟩ := nO_inv hs
    have hvw := c_vw ha
    refine wz_later (fun hle => ?_)
    obtain ⟨q1, q2, q3⟩ := q_new CX (hKm _ _ _ g3) hle
    exact wz_new hx hb hF hown hvw (fun w hw => hts w (htab.2 a _ hvw w hw).1 (htab.2 a _ hvw w hw).2) (c_tyok a ha) ha (c_tk_t hl1 hts) (c_tk_t hl2 hts) (c_tk_t hl3 hts) g1 g2 q1 q2 q3 (c_dc_t hd) (hK _ _ _ g3)
  | 30 =>
    intro hc hK hs
    simp only [chk, Bool.and_eq_true, Bool.or_eq_true, decide_eq_true_eq, beq_iff_eq] at hc
    simp only [step] at hs
    split at hs
    · obtain ⟨g1, g2, g3, g4, g5⟩ := nA_inv hs
      refine wz_later (fun hle => ?_)
      obtain ⟨q1, q2, q3⟩ := q_new CX (hKm _ _ _ g5) hle
      obtain ⟨rfl, ⟨⟨rfl, hd⟩, hl⟩ | ⟨⟨rfl, hd⟩, hl⟩⟩ := hc
      · exact wz_newa hx hb hF (Or.inl ⟨rfl, rfl⟩) (c_tk_t hl hts) g3 g4 g1 g2 q1 q2 q3 (c_dc_t hd) (hK _ _ _ g5)
      · exact wz_newa hx hb hF (Or.inr ⟨rfl, rfl⟩) (c_tk_t hl hts) g3 g4 g1 g2 q1 q2 q3 (c_dc_t hd) (hK _ _ _ g5)
    · cases hs
  | 31 =>
    intro hc hK hs
    simp only [chk, Bool.and_eq_true, Bool.or_eq_true, decide_eq_true_eq, beq_iff_eq] at hc
    simp only [step] at hs
    split at hs
    · obtain ⟨g1, g2, g3, g4, g5⟩ := nQ_inv hs
      refine wz_later (fun hle => ?_)
      obtain ⟨q1, q2, q3⟩ := q_new CX (hKm _ _ _ g5) hle
      obtain ⟨⟨⟨⟨rfl, hok⟩, hd⟩, hl⟩, hl2⟩ := hc
      have hok : a = 13 ∨ a = 14 ∨ a = 17 ∨ a = 18 := by omega
      have hC9 : tgT a = .object (c_cls (a - 10)) := by rcases hok with rfl | rfl | rfl | rfl <;> rfl
      exact wz_newq hx hb hF hown hok hC9 (c_tk_t hl hts) (c_tx_t hl2 hF) g3 g4 g1 g2 q1 q2 q3 (c_dc_t hd) (hK _ _ _ g5)
    · cases hs
  | 32 =>
    intro hc hK hs
    simp only [chk, Bool.and_eq_true, Bool.or_eq_true, decide_eq_true_eq, beq_iff_eq] at hc
    simp only [step] at hs
    split at hs
    · split at hs
      · rename_i hy
        obtain ⟨rfl, hd⟩ := hc
        exact wz_dup hx hb (c_dc_t hd) hy (hK _ _ _ hs)
      · cases hs
    · cases hs
  | 33 =>
    intro hc hK hs
    simp only [chk, Bool.and_eq_true, Bool.or_eq_true, decide_eq_true_eq, beq_iff_eq] at hc
    simp only [step] at hs
    split at hs
    · split at hs
      · rename_i hy
        obtain ⟨rfl, hd⟩ := hc
        exact wz_dup2 hx hb (c_dc_t hd) hy.1 hy.2 (hK _ _ _ hs)
      · cases hs
    · cases hs
  | 34 =>
    intro hc hK hs
    simp only [chk, Bool.and_eq_true, Bool.or_eq_true, decide_eq_true_eq, beq_iff_eq] at hc
    simp only [step] at hs
    split at hs
    · split at hs
      · rename_i hy
        obtain ⟨rfl, hd⟩ := hc
        exact wz_pop hx hb (c_dc_t hd) hy (hK _ _ _ hs)
      · cases hs
    · cases hs
  | 35 =>
    intro hc hK hs
    simp only [step] at hs
    obtain ⟨hst, hs⟩ := ivk_inv hs
    obtain ⟨y, h2, e1, e2⟩ := cI_inv hs
    exact call_sound CX hst hc e1 (hKm _ _ _ e2) (hK _ _ _ e2)
  | 36 =>
    intro hc hK hs
    simp only [step] at hs
    obtain ⟨hst, hs⟩ := ivk_inv hs
    obtain ⟨h2, e1, e2⟩ := cV_inv hs
    exact call_sound CX hst hc e1 (hKm _ _ _ e2) (hK _ _ _ e2)
  | 37 =>
    intro hc hK hs
    simp only [step] at hs
    obtain ⟨hst, hs⟩ := ivk_inv hs
    rcases cR_inv hs with ⟨q, h2, e1, e2⟩ | ⟨h2, e1, e2⟩
    · exact call_sound CX hst hc e1 (hKm _ _ _ e2) (hK _ _ _ e2)
    · exact call_sound CX hst hc e1 (hKm _ _ _ e2) (hK _ _ _ e2)
  | 38 =>
    intro hc hK hs
    simp only [chk, Bool.and_eq_true, Bool.or_eq_true, decide_eq_true_eq, beq_iff_eq] at hc
    simp only [step] at hs
    split at hs
    · cases hs
      exact hQ _ _ (Or.inl ⟨c_dc_t hc.1, rfl, hc.2⟩)
    · cases hs
  | 39 =>
    intro hc hK hs
    simp only [chk, Bool.and_eq_true, Bool.or_eq_true, decide_eq_true_eq, beq_iff_eq] at hc
    simp only [step] at hs
    split at hs
    · cases hs
      exact hQ _ _ (Or.inr (Or.inl ⟨c_dc_t hc.1, _, rfl, Or.inl hc.2⟩))
    · cases hs
  | 40 =>
    intro hc hK hs
    simp only [chk, Bool.and_eq_true, Bool.or_eq_true, decide_eq_true_eq, beq_iff_eq] at hc
    simp only [step] at hs
    split at hs
    · split at hs
      · rename_i hy
        cases hs
        exact hQ _ _ (Or.inr (Or.inl ⟨c_dc_t hc.1, _, rfl, Or.inr ⟨hc.2, hy⟩⟩))
      · cases hs
    · cases hs
  | 41 =>
    intro hc hK hs
    have hc : (c_dc mC M pc .areturn 1 && (match mT M with | some ty => c_ref ty | none => false)) = true := hc
    rw [Bool.and_eq_true] at hc
    obtain ⟨hd, ht⟩ := hc
    have ht : ∃ ty, mT M = some ty ∧ c_ref ty = true := by
      split at ht
      · rename_i ty hty
        exact ⟨ty, hty, ht⟩
      · cases ht
    simp only [step] at hs
    split at hs
    · cases hs
      exact hQ _ _ (Or.inr (Or.inr ⟨c_dc_t hd, _, rfl, Or.inr ⟨_, rfl⟩, ht⟩))
    · cases hs
      exact hQ _ _ (Or.inr (Or.inr ⟨c_dc_t hd, _, rfl, Or.inl rfl, ht⟩))
    · cases hs
  | 42 =>
    intro hc hK hs
    simp only [chk, Bool.and_eq_true, Bool.or_eq_true, decide_eq_true_eq, beq_iff_eq] at hc
    obtain ⟨rfl, hd⟩ := hc
    exact wz_null hx hb (c_dc_t hd) (hK _ _ _ hs)
  | 43 =>
    intro hc hK hs
    simp only [chk, Bool.and_eq_true, Bool.or_eq_true, decide_eq_true_eq, beq_iff_eq] at hc
    simp only [step] at hs
    split at hs
    · split at hs
      · rename_i hst
        obtain ⟨⟨⟨⟨rfl, hd⟩, hl1⟩, hl2⟩, hl3⟩ := hc
        exact wz_objInit hx hb hml hown (c_tk_t hl1 hts) (c_tk_t hl2 hts) (c_tk_t hl3 hts) hst ⟨by omega, by omega⟩ (c_dc_t hd) (hK _ _ _ hs)
      · cases hs
    · cases hs
  | 44 =>
    intro hc hK hs
    simp only [chk, Bool.and_eq_true, Bool.or_eq_true, decide_eq_true_eq, beq_iff_eq] at hc
    simp only [step] at hs
    split at hs
    · split at hs
      · rename_i hst
        obtain ⟨n0, f, n1, g, g1, g2, g3, g4, g5, g6, g7, g8⟩ := cpA_inv hs
        obtain ⟨⟨⟨⟨⟨rfl, hd⟩, hl1⟩, hl2⟩, hl3⟩, hl4⟩ := hc
        exact wz_copy hx hb hml hF hown (c_tk_t hl1 hts) (c_tk_t hl2 hts) (c_tk_t hl3 hts) (c_tk_t hl4 hts) g1 g2 g3 g4 g5 g6 g7 hst ⟨by omega, by omega⟩ (c_dc_t hd) (hK _ _ _ g8)
      · cases hs
    · cases hs
  | 45 =>
    intro hc hK hs
    simp only [chk, Bool.and_eq_true, Bool.or_eq_true, decide_eq_true_eq, beq_iff_eq] at hc
    subst hc
    exact hJ _ _ _ _ hs
  | 46 =>
    intro hc hK hs
    simp only [chk, Bool.and_eq_true, Bool.or_eq_true, decide_eq_true_eq, beq_iff_eq] at hc
    simp only [step] at hs
    split at hs
    · split at hs
      · rename_i hst
        obtain ⟨n, f, g1, g2, g3, g4⟩ := clA_inv hs
        obtain ⟨⟨⟨⟨⟨⟨⟨rfl, hd⟩, hl1⟩, hl2⟩, hl3⟩, hl4⟩, hl5⟩, hl6⟩ := hc
        refine wz_later (fun hle => ?_)
        obtain ⟨q1, q2, q3⟩ := q_new CX (hKm _ _ _ g4) hle
        exact wz_clone hx hb hml hF hown (c_tk_t hl1 hts) (c_tk_t hl2 hts) (c_tk_t hl3 hts) (c_tk_t hl4 hts) (c_tk_t hl5 hts) (c_tx_t hl6 hF) g1 g2 g3 q1 hst ⟨by omega, by omega⟩ q2 q3 (c_dc_t hd) (hK _ _ _ g4)
      · cases hs
    · cases hs
  | 47 =>
    intro hc hK hs
    simp only [chk, Bool.and_eq_true, Bool.or_eq_true, decide_eq_true_eq, beq_iff_eq] at hc
    simp only [step] at hs
    split at hs
    · split at hs
      · rename_i hst
        obtain ⟨n, f, g1⟩ := isA_inv hst
        obtain ⟨⟨rfl, hd⟩, hl⟩ := hc
        exact wz_castA hx hb hF hown (c_tk_t hl hts) g1 (c_dc_t hd) (hK _ _ _ hs)
      · cases hs
    · cases hs
  | n + 48 =>
    intro hc hK hs
    simp only [step] at hs
    cases hs
theorem run_sound {C : Nat → List Value → PH → PR} {J : Nat → PL → List Value → PH → PR} {d M : Nat} {h' : PH} {r : Option Value} (CX : q_CX p l R s m args meth c D dA base ad h0 sa ro tbl nM mY mC mL mT C d M h')
    (hQ : ∀ (pc : Nat) (lv : PL), q_RT mC mT M pc r → q_WZ p l e R s m args below meth c Q D dA base ad (mL M) h0 h' lv pc r.toList) (hJ : ∀ t lv st h1, J t lv st h1 = some (r, h') → q_WZ p l e R s m args below meth c Q D dA base ad (mL M) h0 h1 lv t st) (hJm : ∀ t lv st h1, J t lv st h1 = some (r, h') → PLe h1 h') :
    ∀ (is : List PI) (pc : Nat) (lv : PL) (st : List Value) (h : PH), chkL mY mC mL mT tbl nM M pc is = true → run ro J C is lv st h = some (r, h') → q_WZ p l e R s m args below meth c Q D dA base ad (mL M) h0 h lv pc st
  | [], _, _, _, _, _, hs => by cases hs
  | i :: is, pc, lv, st, h, hc, hs => by
    simp only [chkL, Bool.and_eq_true, beq_iff_eq] at hc
    obtain ⟨⟨rfl, hc1⟩, hc2⟩ := hc
    exact step_sound CX hQ hJ (run_mono hJm CX.2.2.2.2.2.2.2.2.2.2.2.2 is) i hc1 (fun lv st h1 w => run_sound CX hQ hJ hJm is _ lv st h1 hc2 w) hs
theorem pget_ok {f : Nat → List PI → Bool} : ∀ {B : List (Nat × List PI)}, B.all (fun q => f q.1 q.2) = true → (∀ t, f t [] = true) → ∀ t, f t (pget B t) = true
  | [], _, h0, t => h0 t
  | (k, b) :: r, h, h0, t => by
    simp only [List.all_cons, Bool.and_eq_true] at h
    unfold pget
    split
    · rename_i e
      subst e
      exact h.1
    · exact pget_ok h.2 h0 t
theorem EXn_sound {C : Nat → List Value → PH → PR} {B : List (Nat × List PI)} {d M : Nat} {h' : PH} {r : Option Value} (CX : q_CX p l R s m args meth c D dA base ad h0 sa ro tbl nM mY mC mL mT C d M h')
    (hQ : ∀ (pc : Nat) (lv : PL), q_RT mC mT M pc r → q_WZ p l e R s m args below meth c Q D dA base ad (mL M) h0 h' lv pc r.toList) (hB : B.all (fun q => chkL mY mC mL mT tbl nM M q.1 q.2) = true) :
    ∀ (n t : Nat) (lv : PL) (st : List Value) (h : PH), EXn ro B C n t lv st h = some (r, h') → q_WZ p l e R s m args below meth c Q D dA base ad (mL M) h0 h lv t st
  | 0, _, _, _, _, hs => by cases hs
  | n + 1, t, lv, st, h, hs => run_sound CX hQ (EXn_sound CX hQ hB n) (EXn_mono CX.2.2.2.2.2.2.2.2.2.2.2.2 n) (pget B t) t lv st h (pget_ok hB (fun _ => rfl) t) hs
end STEPS
end
section
/-! A CALL of a checked program meets the pure machine's answer -/
theorem CALL_sound {l : Launch} {D : va_G} {dA : Nat → ClassId} {base : Nat} {sa : Nat → Nat} {ro : RO} {tbl : List Cond} {nM : Nat} {mY : Nat → MethodName} {mC : Nat → ByteArray} {mL : Nat → Nat} {mT : Nat → Option FieldType} {P : Nat → List (Nat × List PI)} {F : Nat}
    (htab : q_tabs mY mC mL mT tbl nM) (hpl : ∀ M, M < nM → plainName (mY M).cls = true) (hP : ∀ M, M < nM → (P M).all (fun q => chkL mY mC mL mT tbl nM M q.1 q.2) = true) (hP0 : ∀ M, nM ≤ M → P M = []) :
    ∀ (d M : Nat) (as : List Value) (h : PH) (r : Option Value) (h' : PH), CALL ro P mL F d M as h = some (r, h') → q_Met l D dA base sa ro mY mC mL mT tbl d M as h r h'
  | 0, _, _, _, _, _, hs => by cases hs
  | d + 1, M, as, h, r, h', hs => by
    unfold CALL at hs
    split at hs
    · rename_i has
      have hM : M < nM := by
        rcases Nat.lt_or_ge M nM with q | q
        · exact q
        · rw [hP0 M q] at hs
          cases F with
          | zero => cases hs
          | succ n => cases hs
      have hcat : ∀ v ∈ as, v.category = 1 := fun v hv => by simpa using List.all_eq_true.mp has.2 v hv
      intro ad had hsa
      refine Met.ofW (cc := mC M) (maxL := mL M) (ret := mT M) (hpl M hM) rfl ?_
      intro p e s m args below meth c s₁ B hml hv
      obtain ⟨rfl, hR, hF⟩ := hv
      have hx := B.exec
      have hb := B.bytes
      have hr := B.returns
      have hts0 := atoms_spec (ws := q_ws mY mC mL mT tbl M) B.pre
      have hts : ∀ w ∈ tbl, goodWord w = true → w.before (as.map (q_tr ad)).toArray s = true := fun w hw hg => hts0 w (List.mem_cons_of_mem _ (List.mem_filter.mpr ⟨hw, hg⟩))
      have hown : s.vm.findClass (mY M).cls = some m.cls := findClass_of_methodNamed B.named
      have hlocks := B.notSynchronized
      have hname : meth.name = (mY M).name := (name_of_methodNamed B.named B.method).1
      have CX : q_CX p l (headSpec (q_ws mY mC mL mT tbl M) (q_room (d + 1) (h'.2.2.1.length - h.2.2.1.length) (h'.2.2.2 - h.2.2.2))).room s m (as.map (q_tr ad)).toArray meth c D dA base ad h sa ro tbl nM mY mC mL mT (CALL ro P mL F d) d M h' :=
        ⟨hx, hb, hml, hown, hts, hF, fun g => hname.trans g, htab, hsa, had, ⟨Nat.le_refl _, Nat.le_refl _, Nat.le_refl _, Nat.le_refl _⟩, CALL_sound htab hpl hP hP0 d, CALL_mono d⟩
      have hQ : ∀ (pc : Nat) (lv : PL), q_RT mC mT M pc r → q_WZ p l e (headSpec (q_ws mY mC mL mT tbl M) (q_room (d + 1) (h'.2.2.1.length - h.2.2.1.length) (h'.2.2.2 - h.2.2.2))).room s m (as.map (q_tr ad)).toArray below meth c (MQ below (fun _ st o t => o = .returned (r.map (q_tr ad)) ∧ q_Rep D dA base ad h' t.heap ∧ va_F (q_A base) st t) (as.map (q_tr ad)).toArray s (h'.2.2.1.length - h.2.2.1.length) (h'.2.2.2 - h.2.2.2) (q_A base)) D dA base ad (mL M) h h' lv pc r.toList := by
        intro pc lv hrt H locs ls a1 a2 a3 a4
        rcases hrt with ⟨hd, rfl, hT⟩ | ⟨hd, y, rfl, hT⟩ | ⟨hd, v, rfl, hv, ty, hT, hty⟩
        · exact W.vret hx hb (hr.trans hT) (fun t ht hW => ⟨rfl, by rw [ht]; exact a1, a2.F ht⟩) a2.2.2 hd
        · rcases hT with hT | ⟨hT, hy⟩
          · exact W.iret hx hb (hr.trans hT) (fun t ht hW => ⟨rfl, by rw [ht]; exact a1, a2.F ht⟩) a2.2.2 hd
          · exact W.zret hx hb (hr.trans hT) (c_bool_n hy).1 (fun t ht hW => ⟨rfl, by rw [ht]; exact a1, a2.F ht⟩) a2.2.2 hd
        · have hrt : (∃ n, ty = .object n) ∨ ∃ t, ty = .array t := by
            cases ty <;> first | exact Or.inl ⟨_, rfl⟩ | exact Or.inr ⟨_, rfl⟩ | cases hty
          have hv2 : q_tr ad v = .null ∨ ∃ a, q_tr ad v = .ref a := by
            rcases hv with rfl | ⟨q, rfl⟩
            · exact Or.inl rfl
            · exact Or.inr ⟨_, rfl⟩
          exact W.aret hx hb (hr.trans hT) hrt hv2 (fun t ht hW => ⟨rfl, by rw [ht]; exact a1, a2.F ht⟩) a2.2.2 hd
      rw [lg_entry_eq]
      have K := EXn_sound CX hQ (hP M hM) F 0 (entry (mL M) as) [] h hs s.heap [] _ hR va_S.rf (q_LV_entry (ad := ad) hcat has.1) (PLe.rf h)
      rw [Nat.sub_self, Nat.sub_self] at K
      exact K
    · cases hs
end
section
/-! THE PROGRAM, as data of the pure machine: printed by a program of mine (wip/whole/gen_prog.py) out of the claim. Method numbers: 0 X0_init; 1 X0_perform; 2 X0_from; 3 X0_run; 4 X1_init; 5 X1_misprintCount; 6 X1_showsSun; 7 X1_showsMisprint; 8 X2_init; 9 X3_init; 10 X4_init; 11 X4_hasClaim; 12 X4_claimLatitude; 13 X4_milesOver; 14 X5_init; 15 X5_add; 16 X5_leftBehind; 17 X5_greatestPart; 18 X5_best; 19 X6_init; 20 X6_faultOf; 21 X6_holds; 22 X6_readAll; 23 X6_coming; 24 X6_either; 25 X6_both; 26 X6_one; 27 X6_test; 28 X6_number; 29 X6_letterAt; 30 X7_init; 31 X7_isOf; 32 X7_isHeightOf; 33 X7_quarrelsWith; 34 X7_miles; 35 X8_init; 36 X8_become; 37 X8_has; 38 X8_spans; 39 X8_asItem; 40 X9_init; 41 X9_walk; 42 X9_marchOf; 43 X9_xBehind; 44 X9_yBehind; 45 X9_cellBehind; 46 X9_bearing; 47 X9_reach; 48 X9_excess; 49 X10_init; 50 X10_pass; 51 X10_drift; 52 X10_ice; 53 X10_sun; 54 X10_man; 55 X10_party; 56 X10_start; 57 X10_claim; 58 X10_march; 59 X10_height; 60 X10_compass; 61 X10_picture; 62 X10_word; 63 X10_torn; 64 X10_of; 65 X10_fits; 66 X10_place; 67 X10_can; 68 X10_beyond; 69 X10_latitude; 70 X10_quarrel; 71 X10_home; 72 X10_needs; 73 X10_held; 74 X10_falses; 75 X10_least; 76 X10_misprint; 77 X10_made; 78 X10_feed; 79 X10_law; 80 X10_says; 81 X10_look; 82 X10_worth; 83 X10_next; 84 X10_worst; 85 X10_act; 86 X10_trace; 87 X10_taken; 88 X10_count; 89 X10_tape; 90 X10_item; 91 X10_read; 92 X10_shift; 93 X10_within; 94 X10_isLog; 95 X10_isDay; 96 X10_isYear; 97 X10_isPlace; 98 X10_isHeight; 99 X10_isNearness; 100 X10_isSet; 101 X10_isTape; 102 X10_isRow; 103 X10_isUnder; 104 X10_clamped; 105 X10_cellOf; 106 X10_latitudeOf; 107 X10_addRow; 108 X10_addHeight; 109 X10_sumOf; 110 X10_agrees; 111 X10_heightAgrees; 112 X10_pictureAgrees; 113 X10_driftNeededX; 114 X10_driftNeededY; 115 X10_quarrelBy; 116 X10_storyX; 117 X10_storyY; 118 X10_agreesInStory; 119 X10_falseRows; 120 X10_showingMisprint; 121 X10_madeAtHome; 122 X10_lawIn; 123 X10_tally; 124 X10_letterOf; 125 X11_in; 126 X11_abs; 127 X11_keep; 128 X11_isLog; 129 X11_isDay; 130 X11_isYear; 131 X11_isPlace; 132 X11_cellOf; 133 X11_pass; 134 X11_drift; 135 X11_ice; 136 X11_sun; 137 X11_man; 138 X11_party; 139 X11_start; 140 X11_claim; 141 X11_isRow; 142 X11_add; 143 X11_marchOf; 144 X11_march; 145 X11_height; 146 X11_compass; 147 X11_picture; 148 X11_word; 149 X11_torn; 150 X11_of; 151 X11_findWay; 152 X11_place; 153 X11_canGo; 154 X11_can; 155 X11_beyondBy; 156 X11_beyond; 157 X11_latitudeOf; 158 X11_latitude; 159 X11_isHeight; 160 X11_middle; 161 X11_isFit; 162 X11_fits; 163 X11_quarrelOf; 164 X11_quarrel; 165 X11_home; 166 X11_down; 167 X11_findNeeds; 168 X11_needs; 169 X11_held; 170 X11_tellStory; 171 X11_falsesOf; 172 X11_falses; 173 X11_least; 174 X11_init; 175 X11_misprint; 176 X11_madeOf; 177 X11_made; 178 X11_feed; 179 X11_byteAt; 180 X11_isDigit; 181 X11_push; 182 X11_settle; 183 X11_factOf; 184 X11_takesTest; 185 X11_goes; 186 X11_law; 187 X11_fitting; 188 X11_findFacts; 189 X11_says; 190 X11_look; 191 X11_partBy; 192 X11_ones; 193 X11_worthOf; 194 X11_isSet; 195 X11_worth; 196 X11_next; 197 X11_worst; 198 X11_body; 199 X11_plainFits; 200 X11_heightFits; 201 X11_fitsOf; 202 X11_plainHangs; 203 X11_hangsOf; 204 X11_plainShows; 205 X11_heightShows; 206 X11_showsOf; 207 X11_act; 208 X11_trace; 209 X11_taken; 210 X11_count; 211 X11_isTape; 212 X11_tape; 213 X11_item; 214 X11_read; 215 X11_shift; 216 J6_compare_7cf53; 217 J6_bitCount_0f7a4; 218 J9_floorDiv_7cf53; 219 J9_abs_0f7a4; 220 J9_max_7cf53; 221 J9_min_7cf53; 222 J7_fill_53178; 223 J7_copyOf_59c91; 224 L_law -/
def p0_0 : List PI := [(0, 1, 2, 0, 0, 0, 0, []), (1, 3, 43, 0, 0, 3, 0, [278, 99, 100]), (4, 1, 2, 0, 0, 0, 0, []), (5, 2, 0, 0, 0, 0, 20, []), (7, 2, 30, 0, 0, 0, 0, [127]), (9, 3, 21, 0, 0, 9, 0, [279]), (12, 1, 38, 0, 0, 0, 0, [])]
def p0 : List (Nat × List PI) := [(0, p0_0)]
def p1_0 : List PI := [(0, 1, 2, 0, 0, 0, 0, []), (1, 1, 0, 0, 0, 0, 0, []), (2, 3, 19, 0, 1, 15, 0, [281]), (5, 1, 2, 0, 0, 0, 0, []), (6, 1, 2, 1, 0, 0, 0, []), (7, 3, 17, 7, 3, 19, 0, [435]), (10, 1, 1, 2, 0, 0, 0, []), (11, 1, 2, 1, 0, 0, 0, []), (12, 1, 1, 3, 0, 0, 0, []), (13, 1, 0, 0, 0, 0, 0, []), (14, 3, 35, 2, 6, 1, 0, [24, 86, 863, 865, 27]), (17, 1, 39, 0, 0, 0, 0, [])]
def p1 : List (Nat × List PI) := [(0, p1_0)]
def p2_0 : List PI := [(0, 1, 1, 1, 0, 0, 0, []), (1, 2, 3, 6, 0, 0, 0, []), (3, 1, 0, 0, 0, 0, 0, []), (4, 2, 3, 7, 0, 0, 0, []), (6, 0, 45, 0, 6, 0, 0, [])]
def p2_6 : List PI := [(6, 2, 1, 6, 0, 0, 0, []), (8, 3, 10, 2, 67, 0, 0, []), (11, 2, 1, 7, 0, 0, 0, []), (13, 2, 0, 0, 0, 0, 7, []), (15, 3, 11, 3, 67, 0, 0, []), (18, 3, 28, 2, 0, 28, 0, [867]), (21, 1, 0, 0, 0, 0, 3, []), (22, 2, 1, 6, 0, 0, 0, []), (24, 1, 6, 2, 0, 0, 0, []), (25, 1, 1, 2, 0, 0, 0, []), (26, 1, 6, 0, 0, 0, 0, []), (27, 1, 22, 0, 0, 0, 0, []), (28, 2, 3, 8, 0, 0, 0, []), (30, 2, 1, 8, 0, 0, 0, []), (32, 3, 10, 0, 53, 0, 0, []), (35, 1, 2, 0, 0, 0, 0, []), (36, 2, 1, 8, 0, 0, 0, []), (38, 3, 28, 1, 0, 31, 0, [869]), (41, 2, 1, 6, 0, 0, 0, []), (43, 1, 22, 0, 0, 0, 0, []), (44, 1, 2, 3, 0, 0, 0, []), (45, 2, 1, 4, 0, 0, 0, []), (47, 2, 1, 5, 0, 0, 0, []), (49, 3, 35, 3, 6, 1, 0, [34, 86, 871, 873, 28]), (52, 1, 39, 0, 0, 0, 0, [])]
def p2_53 : List PI := [(53, 3, 28, 1, 0, 31, 0, [869]), (56, 2, 1, 6, 0, 0, 0, []), (58, 1, 22, 0, 0, 0, 0, []), (59, 2, 3, 6, 0, 0, 0, []), (61, 3, 5, 7, 0, 0, 1, []), (64, 3, 14, 0, 6, 0, 0, [])]
def p2_67 : List PI := [(67, 1, 0, 0, 0, 0, 0, []), (68, 1, 39, 0, 0, 0, 0, [])]
def p2 : List (Nat × List PI) := [(0, p2_0), (6, p2_6), (53, p2_53), (67, p2_67)]
def p3_0 : List PI := [(0, 2, 1, 5, 0, 0, 0, []), (2, 2, 0, 0, 0, 0, 10, []), (4, 3, 11, 5, 9, 0, 0, []), (7, 1, 0, 0, 0, 0, 0, []), (8, 1, 39, 0, 0, 0, 0, [])]
def p3_9 : List PI := [(9, 1, 2, 0, 0, 0, 0, []), (10, 3, 17, 0, 1, 15, 0, [281]), (13, 2, 0, 0, 0, 0, 20, []), (15, 3, 11, 3, 28, 0, 0, []), (18, 1, 2, 0, 0, 0, 0, []), (19, 3, 18, 0, 0, 9, 0, [279]), (22, 1, 2, 0, 0, 0, 0, []), (23, 3, 17, 0, 1, 15, 0, [281]), (26, 1, 1, 1, 0, 0, 0, []), (27, 1, 24, 0, 0, 0, 0, []), (28, 0, 45, 0, 28, 0, 0, [])]
def p3_28 : List PI := [(28, 1, 2, 0, 0, 0, 0, []), (29, 1, 32, 0, 0, 0, 0, []), (30, 3, 17, 0, 1, 15, 0, [281]), (33, 1, 0, 0, 0, 0, 1, []), (34, 1, 6, 0, 0, 0, 0, []), (35, 3, 19, 0, 1, 15, 0, [281]), (38, 2, 1, 5, 0, 0, 0, []), (40, 1, 0, 0, 0, 0, 1, []), (41, 1, 6, 0, 0, 0, 0, []), (42, 2, 3, 6, 0, 0, 0, []), (44, 1, 1, 1, 0, 0, 0, []), (45, 99, 16, 0, 329, 0, 0, [10, 144, 11, 152, 12, 172, 20, 192, 30, 206, 31, 221, 40, 247, 50, 262, 60, 275, 70, 289, 71, 315])]
def p3_144 : List PI := [(144, 2, 1, 4, 0, 0, 0, []), (146, 1, 2, 3, 0, 0, 0, []), (147, 3, 17, 7, 5, 37, 0, [442]), (150, 1, 6, 0, 0, 0, 0, []), (151, 1, 39, 0, 0, 0, 0, [])]
def p3_152 : List PI := [(152, 1, 2, 0, 0, 0, 0, []), (153, 1, 2, 3, 0, 0, 0, []), (154, 3, 17, 7, 3, 19, 0, [435]), (157, 1, 0, 0, 0, 0, 0, []), (158, 1, 2, 3, 0, 0, 0, []), (159, 2, 1, 4, 0, 0, 0, []), (161, 2, 1, 6, 0, 0, 0, []), (163, 3, 35, 2, 6, 1, 0, [24, 86, 863, 865, 27]), (166, 1, 2, 3, 0, 0, 0, []), (167, 3, 17, 7, 2, 40, 0, [432]), (170, 1, 6, 1, 0, 0, 0, []), (171, 1, 39, 0, 0, 0, 0, [])]
def p3_172 : List PI := [(172, 1, 2, 0, 0, 0, 0, []), (173, 1, 2, 3, 0, 0, 0, []), (174, 3, 17, 7, 3, 19, 0, [435]), (177, 1, 0, 0, 0, 0, 1, []), (178, 1, 2, 3, 0, 0, 0, []), (179, 2, 1, 4, 0, 0, 0, []), (181, 2, 1, 6, 0, 0, 0, []), (183, 3, 35, 2, 6, 1, 0, [24, 86, 863, 865, 27]), (186, 1, 2, 3, 0, 0, 0, []), (187, 3, 17, 7, 0, 43, 0, [426]), (190, 1, 6, 5, 0, 0, 0, []), (191, 1, 39, 0, 0, 0, 0, [])]
def p3_192 : List PI := [(192, 1, 2, 0, 0, 0, 0, []), (193, 1, 1, 2, 0, 0, 0, []), (194, 1, 0, 0, 0, 0, 1, []), (195, 1, 2, 3, 0, 0, 0, []), (196, 2, 1, 4, 0, 0, 0, []), (198, 1, 0, 0, 0, 0, 2, []), (199, 1, 6, 2, 0, 0, 0, []), (200, 2, 1, 6, 0, 0, 0, []), (202, 3, 35, 2, 6, 1, 0, [24, 86, 863, 865, 27]), (205, 1, 39, 0, 0, 0, 0, [])]
def p3_206 : List PI := [(206, 1, 2, 0, 0, 0, 0, []), (207, 1, 1, 2, 0, 0, 0, []), (208, 1, 0, 0, 0, 0, 0, []), (209, 1, 2, 3, 0, 0, 0, []), (210, 2, 1, 4, 0, 0, 0, []), (212, 2, 1, 6, 0, 0, 0, []), (214, 3, 35, 2, 6, 1, 0, [24, 86, 863, 865, 27]), (217, 2, 0, 0, 0, 0, 90, []), (219, 1, 6, 1, 0, 0, 0, []), (220, 1, 39, 0, 0, 0, 0, [])]
def p3_221 : List PI := [(221, 1, 2, 0, 0, 0, 0, []), (222, 1, 1, 2, 0, 0, 0, []), (223, 1, 0, 0, 0, 0, 2, []), (224, 1, 2, 3, 0, 0, 0, []), (225, 2, 1, 4, 0, 0, 0, []), (227, 2, 1, 6, 0, 0, 0, []), (229, 3, 35, 2, 6, 1, 0, [24, 86, 863, 865, 27]), (232, 1, 2, 0, 0, 0, 0, []), (233, 1, 2, 3, 0, 0, 0, []), (234, 3, 17, 7, 3, 19, 0, [435]), (237, 1, 0, 0, 0, 0, 1, []), (238, 1, 2, 3, 0, 0, 0, []), (239, 1, 0, 0, 0, 0, 1, []), (240, 2, 1, 6, 0, 0, 0, []), (242, 3, 35, 2, 6, 1, 0, [24, 86, 863, 865, 27]), (245, 1, 6, 0, 0, 0, 0, []), (246, 1, 39, 0, 0, 0, 0, [])]
def p3_247 : List PI := [(247, 1, 2, 0, 0, 0, 0, []), (248, 1, 1, 2, 0, 0, 0, []), (249, 1, 0, 0, 0, 0, 0, []), (250, 1, 2, 3, 0, 0, 0, []), (251, 2, 1, 4, 0, 0, 0, []), (253, 2, 0, 0, 0, 0, 15, []), (255, 1, 6, 3, 0, 0, 0, []), (256, 2, 1, 6, 0, 0, 0, []), (258, 3, 35, 2, 6, 1, 0, [24, 86, 863, 865, 27]), (261, 1, 39, 0, 0, 0, 0, [])]
def p3_262 : List PI := [(262, 1, 2, 0, 0, 0, 0, []), (263, 1, 1, 2, 0, 0, 0, []), (264, 1, 0, 0, 0, 0, 2, []), (265, 1, 2, 3, 0, 0, 0, []), (266, 2, 1, 4, 0, 0, 0, []), (268, 2, 1, 6, 0, 0, 0, []), (270, 3, 35, 2, 6, 1, 0, [24, 86, 863, 865, 27]), (273, 1, 9, 0, 0, 0, 0, []), (274, 1, 39, 0, 0, 0, 0, [])]
def p3_275 : List PI := [(275, 1, 2, 0, 0, 0, 0, []), (276, 1, 1, 2, 0, 0, 0, []), (277, 1, 0, 0, 0, 0, 1, []), (278, 1, 2, 3, 0, 0, 0, []), (279, 2, 1, 4, 0, 0, 0, []), (281, 2, 1, 6, 0, 0, 0, []), (283, 3, 35, 2, 6, 1, 0, [24, 86, 863, 865, 27]), (286, 1, 0, 0, 0, 0, 3, []), (287, 1, 6, 2, 0, 0, 0, []), (288, 1, 39, 0, 0, 0, 0, [])]
def p3_289 : List PI := [(289, 1, 2, 0, 0, 0, 0, []), (290, 1, 1, 2, 0, 0, 0, []), (291, 1, 0, 0, 0, 0, 0, []), (292, 1, 2, 3, 0, 0, 0, []), (293, 2, 1, 4, 0, 0, 0, []), (295, 2, 1, 6, 0, 0, 0, []), (297, 3, 35, 2, 6, 1, 0, [24, 86, 863, 865, 27]), (300, 1, 2, 0, 0, 0, 0, []), (301, 1, 1, 2, 0, 0, 0, []), (302, 1, 0, 0, 0, 0, 0, []), (303, 1, 2, 3, 0, 0, 0, []), (304, 2, 1, 4, 0, 0, 0, []), (306, 1, 0, 0, 0, 0, 1, []), (307, 1, 6, 0, 0, 0, 0, []), (308, 2, 1, 6, 0, 0, 0, []), (310, 3, 35, 2, 6, 1, 0, [24, 86, 863, 865, 27]), (313, 1, 6, 0, 0, 0, 0, []), (314, 1, 39, 0, 0, 0, 0, [])]
def p3_315 : List PI := [(315, 1, 2, 0, 0, 0, 0, []), (316, 1, 1, 2, 0, 0, 0, []), (317, 1, 0, 0, 0, 0, 2, []), (318, 1, 2, 3, 0, 0, 0, []), (319, 2, 1, 4, 0, 0, 0, []), (321, 1, 0, 0, 0, 0, 1, []), (322, 1, 6, 1, 0, 0, 0, []), (323, 2, 1, 6, 0, 0, 0, []), (325, 3, 35, 2, 6, 1, 0, [24, 86, 863, 865, 27]), (328, 1, 39, 0, 0, 0, 0, [])]
def p3_329 : List PI := [(329, 1, 0, 0, 0, 0, 0, []), (330, 1, 39, 0, 0, 0, 0, [])]
def p3 : List (Nat × List PI) := [(0, p3_0), (9, p3_9), (28, p3_28), (144, p3_144), (152, p3_152), (172, p3_172), (192, p3_192), (206, p3_206), (221, p3_221), (247, p3_247), (262, p3_262), (275, p3_275), (289, p3_289), (315, p3_315), (329, p3_329)]
def p4_0 : List PI := [(0, 1, 2, 0, 0, 0, 0, []), (1, 3, 43, 0, 0, 3, 0, [133, 99, 100]), (4, 1, 2, 0, 0, 0, 0, []), (5, 3, 0, 0, 0, 0, 200, []), (8, 2, 30, 0, 0, 0, 0, [127]), (10, 3, 21, 1, 0, 9, 0, [137]), (13, 1, 2, 0, 0, 0, 0, []), (14, 3, 0, 0, 0, 0, 200, []), (17, 2, 30, 0, 0, 0, 0, [127]), (19, 3, 21, 1, 1, 15, 0, [139]), (22, 1, 2, 0, 0, 0, 0, []), (23, 3, 18, 1, 1, 15, 0, [139]), (26, 1, 0, 0, 0, 0, -1, []), (27, 3, 36, 222, 2, 0, 1, [18, 80, 134, 135]), (30, 1, 38, 0, 0, 0, 0, [])]
def p4 : List (Nat × List PI) := [(0, p4_0)]
def p5_0 : List PI := [(0, 1, 0, 0, 0, 0, 0, []), (1, 1, 3, 1, 0, 0, 0, []), (2, 1, 0, 0, 0, 0, 0, []), (3, 1, 3, 2, 0, 0, 0, []), (4, 0, 45, 0, 4, 0, 0, [])]
def p5_4 : List PI := [(4, 1, 1, 2, 0, 0, 0, []), (5, 3, 0, 0, 0, 0, 200, []), (8, 3, 11, 3, 29, 0, 0, []), (11, 1, 2, 0, 0, 0, 0, []), (12, 3, 18, 1, 1, 15, 0, [139]), (15, 1, 1, 2, 0, 0, 0, []), (16, 1, 22, 0, 0, 0, 0, []), (17, 3, 10, 2, 23, 0, 0, []), (20, 3, 5, 1, 0, 0, 1, []), (23, 0, 45, 0, 23, 0, 0, [])]
def p5_23 : List PI := [(23, 3, 5, 2, 0, 0, 1, []), (26, 3, 14, 0, 4, 0, 0, [])]
def p5_29 : List PI := [(29, 1, 1, 1, 0, 0, 0, []), (30, 1, 39, 0, 0, 0, 0, [])]
def p5 : List (Nat × List PI) := [(0, p5_0), (4, p5_4), (23, p5_23), (29, p5_29)]
def p6_0 : List PI := [(0, 1, 2, 1, 0, 0, 0, []), (1, 3, 17, 7, 5, 24, 0, [441]), (4, 3, 0, 0, 0, 0, 5400, []), (7, 1, 1, 2, 0, 0, 0, []), (8, 1, 6, 1, 0, 0, 0, []), (9, 1, 2, 0, 0, 0, 0, []), (10, 3, 18, 1, 0, 9, 0, [137]), (13, 1, 2, 1, 0, 0, 0, []), (14, 3, 17, 7, 2, 30, 0, [431]), (17, 1, 22, 0, 0, 0, 0, []), (18, 1, 6, 0, 0, 0, 0, []), (19, 3, 11, 1, 26, 0, 0, []), (22, 1, 0, 0, 0, 0, 1, []), (23, 3, 14, 0, 27, 0, 0, [])]
def p6_26 : List PI := [(26, 1, 0, 0, 0, 0, 0, []), (27, 0, 45, 0, 27, 0, 0, [])]
def p6_27 : List PI := [(27, 1, 40, 0, 0, 0, 0, [])]
def p6 : List (Nat × List PI) := [(0, p6_0), (26, p6_26), (27, p6_27)]
def p7_0 : List PI := [(0, 1, 2, 0, 0, 0, 0, []), (1, 3, 18, 1, 1, 15, 0, [139]), (4, 1, 2, 1, 0, 0, 0, []), (5, 3, 17, 7, 2, 30, 0, [431]), (8, 1, 22, 0, 0, 0, 0, []), (9, 1, 3, 3, 0, 0, 0, []), (10, 1, 1, 3, 0, 0, 0, []), (11, 3, 10, 2, 32, 0, 0, []), (14, 1, 2, 1, 0, 0, 0, []), (15, 3, 17, 7, 5, 24, 0, [441]), (18, 3, 0, 0, 0, 0, 5400, []), (21, 1, 1, 2, 0, 0, 0, []), (22, 1, 6, 1, 0, 0, 0, []), (23, 1, 1, 3, 0, 0, 0, []), (24, 1, 6, 0, 0, 0, 0, []), (25, 3, 11, 1, 32, 0, 0, []), (28, 1, 0, 0, 0, 0, 1, []), (29, 3, 14, 0, 33, 0, 0, [])]
def p7_32 : List PI := [(32, 1, 0, 0, 0, 0, 0, []), (33, 0, 45, 0, 33, 0, 0, [])]
def p7_33 : List PI := [(33, 1, 40, 0, 0, 0, 0, [])]
def p7 : List (Nat × List PI) := [(0, p7_0), (32, p7_32), (33, p7_33)]
def p8_0 : List PI := [(0, 1, 2, 0, 0, 0, 0, []), (1, 3, 43, 0, 0, 3, 0, [106, 99, 100]), (4, 1, 2, 0, 0, 0, 0, []), (5, 2, 0, 0, 0, 0, 64, []), (7, 2, 30, 0, 0, 0, 0, [127]), (9, 3, 21, 2, 0, 9, 0, [107]), (12, 1, 2, 0, 0, 0, 0, []), (13, 2, 0, 0, 0, 0, 64, []), (15, 2, 30, 0, 0, 0, 0, [127]), (17, 3, 21, 2, 1, 15, 0, [110]), (20, 1, 2, 0, 0, 0, 0, []), (21, 2, 0, 0, 0, 0, 64, []), (23, 2, 30, 0, 0, 0, 0, [127]), (25, 3, 21, 2, 2, 18, 0, [113]), (28, 1, 2, 0, 0, 0, 0, []), (29, 2, 0, 0, 0, 0, 64, []), (31, 2, 30, 0, 0, 0, 0, [127]), (33, 3, 21, 2, 3, 21, 0, [116]), (36, 1, 38, 0, 0, 0, 0, [])]
def p8 : List (Nat × List PI) := [(0, p8_0)]
def p9_0 : List PI := [(0, 1, 2, 0, 0, 0, 0, []), (1, 3, 43, 0, 0, 1, 0, [783, 99, 100]), (4, 1, 2, 0, 0, 0, 0, []), (5, 1, 1, 1, 0, 0, 0, []), (6, 3, 19, 3, 0, 7, 0, [784]), (9, 1, 2, 0, 0, 0, 0, []), (10, 1, 1, 2, 0, 0, 0, []), (11, 3, 19, 3, 1, 13, 0, [786]), (14, 1, 2, 0, 0, 0, 0, []), (15, 1, 2, 3, 0, 0, 0, []), (16, 3, 21, 3, 2, 16, 0, [788]), (19, 1, 38, 0, 0, 0, 0, [])]
def p9 : List (Nat × List PI) := [(0, p9_0)]
def p10_0 : List PI := [(0, 1, 2, 0, 0, 0, 0, []), (1, 3, 43, 0, 0, 3, 0, [152, 99, 100]), (4, 1, 2, 0, 0, 0, 0, []), (5, 1, 0, 0, 0, 0, 0, []), (6, 3, 19, 4, 4, 9, 0, [162]), (9, 1, 2, 0, 0, 0, 0, []), (10, 3, 0, 0, 0, 0, -300, []), (13, 3, 19, 4, 5, 15, 0, [165]), (16, 1, 2, 0, 0, 0, 0, []), (17, 1, 0, 0, 0, 0, -1, []), (18, 3, 19, 4, 8, 18, 0, [172]), (21, 1, 2, 0, 0, 0, 0, []), (22, 3, 0, 0, 0, 0, 200, []), (25, 3, 31, 17, 0, 21, 0, [153, 154]), (28, 3, 21, 4, 9, 23, 0, [174]), (31, 1, 38, 0, 0, 0, 0, [])]
def p10 : List (Nat × List PI) := [(0, p10_0)]
def p11_0 : List PI := [(0, 1, 2, 0, 0, 0, 0, []), (1, 3, 17, 4, 8, 18, 0, [172]), (4, 3, 10, 2, 11, 0, 0, []), (7, 1, 0, 0, 0, 0, 1, []), (8, 3, 14, 0, 12, 0, 0, [])]
def p11_11 : List PI := [(11, 1, 0, 0, 0, 0, 0, []), (12, 0, 45, 0, 12, 0, 0, [])]
def p11_12 : List PI := [(12, 1, 40, 0, 0, 0, 0, [])]
def p11 : List (Nat × List PI) := [(0, p11_0), (11, p11_11), (12, p11_12)]
def p12_0 : List PI := [(0, 1, 2, 0, 0, 0, 0, []), (1, 3, 17, 4, 6, 27, 0, [168]), (4, 1, 2, 0, 0, 0, 0, []), (5, 3, 17, 4, 7, 30, 0, [170]), (8, 3, 35, 106, 2, 0, 1, [33, 77, 705, 570]), (11, 1, 39, 0, 0, 0, 0, [])]
def p12 : List (Nat × List PI) := [(0, p12_0)]
def p13_0 : List PI := [(0, 1, 0, 0, 0, 0, 0, []), (1, 1, 0, 0, 0, 0, 3, []), (2, 1, 2, 0, 0, 0, 0, []), (3, 3, 17, 4, 0, 37, 0, [155]), (6, 1, 6, 2, 0, 0, 0, []), (7, 1, 0, 0, 0, 0, 2, []), (8, 1, 2, 0, 0, 0, 0, []), (9, 3, 17, 4, 2, 40, 0, [158]), (12, 1, 6, 2, 0, 0, 0, []), (13, 1, 6, 0, 0, 0, 0, []), (14, 1, 2, 0, 0, 0, 0, []), (15, 3, 17, 4, 3, 43, 0, [160]), (18, 2, 0, 0, 0, 0, 100, []), (20, 1, 7, 0, 0, 0, 0, []), (21, 1, 6, 1, 0, 0, 0, []), (22, 1, 0, 0, 0, 0, 4, []), (23, 1, 1, 1, 0, 0, 0, []), (24, 1, 6, 2, 0, 0, 0, []), (25, 1, 6, 1, 0, 0, 0, []), (26, 3, 35, 220, 2, 0, 1, [46, 90, 563, 538]), (29, 1, 39, 0, 0, 0, 0, [])]
def p13 : List (Nat × List PI) := [(0, p13_0)]
def p14_0 : List PI := [(0, 1, 2, 0, 0, 0, 0, []), (1, 3, 43, 0, 0, 3, 0, [254, 99, 100]), (4, 1, 2, 0, 0, 0, 0, []), (5, 2, 0, 0, 0, 0, 32, []), (7, 2, 30, 0, 0, 0, 0, [127]), (9, 3, 21, 5, 0, 9, 0, [261]), (12, 1, 2, 0, 0, 0, 0, []), (13, 3, 0, 0, 0, 0, 320, []), (16, 2, 30, 0, 0, 0, 0, [127]), (18, 3, 21, 5, 1, 15, 0, [262]), (21, 1, 0, 0, 0, 0, 0, []), (22, 1, 3, 1, 0, 0, 0, []), (23, 0, 45, 0, 23, 0, 0, [])]
def p14_23 : List PI := [(23, 1, 1, 1, 0, 0, 0, []), (24, 1, 2, 0, 0, 0, 0, []), (25, 3, 18, 5, 1, 15, 0, [262]), (28, 1, 27, 0, 0, 0, 0, []), (29, 3, 11, 3, 51, 0, 0, []), (32, 1, 2, 0, 0, 0, 0, []), (33, 3, 18, 5, 1, 15, 0, [262]), (36, 1, 1, 1, 0, 0, 0, []), (37, 1, 1, 1, 0, 0, 0, []), (38, 2, 0, 0, 0, 0, 64, []), (40, 1, 8, 0, 0, 0, 0, []), (41, 3, 35, 217, 1, 0, 1, [18, 85, 255, 256]), (44, 1, 24, 0, 0, 0, 0, []), (45, 3, 5, 1, 0, 0, 1, []), (48, 3, 14, 0, 23, 0, 0, [])]
def p14_51 : List PI := [(51, 1, 38, 0, 0, 0, 0, [])]
def p14 : List (Nat × List PI) := [(0, p14_0), (23, p14_23), (51, p14_51)]
def p15_0 : List PI := [(0, 1, 2, 0, 0, 0, 0, []), (1, 3, 17, 5, 2, 24, 0, [264]), (4, 1, 3, 2, 0, 0, 0, []), (5, 1, 2, 0, 0, 0, 0, []), (6, 1, 32, 0, 0, 0, 0, []), (7, 3, 17, 5, 2, 24, 0, [264]), (10, 1, 0, 0, 0, 0, 1, []), (11, 1, 6, 0, 0, 0, 0, []), (12, 3, 19, 5, 2, 24, 0, [264]), (15, 1, 0, 0, 0, 0, 0, []), (16, 1, 3, 3, 0, 0, 0, []), (17, 0, 45, 0, 17, 0, 0, [])]
def p15_17 : List PI := [(17, 1, 1, 3, 0, 0, 0, []), (18, 2, 0, 0, 0, 0, 6, []), (20, 3, 11, 3, 51, 0, 0, []), (23, 1, 2, 0, 0, 0, 0, []), (24, 3, 18, 5, 0, 9, 0, [261]), (27, 1, 0, 0, 0, 0, 4, []), (28, 1, 1, 2, 0, 0, 0, []), (29, 1, 6, 2, 0, 0, 0, []), (30, 1, 1, 1, 0, 0, 0, []), (31, 1, 0, 0, 0, 0, 2, []), (32, 1, 1, 3, 0, 0, 0, []), (33, 1, 6, 2, 0, 0, 0, []), (34, 1, 6, 7, 0, 0, 0, []), (35, 1, 0, 0, 0, 0, 3, []), (36, 1, 6, 3, 0, 0, 0, []), (37, 1, 6, 0, 0, 0, 0, []), (38, 1, 33, 0, 0, 0, 0, []), (39, 1, 22, 0, 0, 0, 0, []), (40, 1, 0, 0, 0, 0, 1, []), (41, 1, 1, 3, 0, 0, 0, []), (42, 1, 6, 6, 0, 0, 0, []), (43, 1, 6, 4, 0, 0, 0, []), (44, 1, 24, 0, 0, 0, 0, []), (45, 3, 5, 3, 0, 0, 1, []), (48, 3, 14, 0, 17, 0, 0, [])]
def p15_51 : List PI := [(51, 2, 0, 0, 0, 0, 64, []), (53, 1, 3, 3, 0, 0, 0, []), (54, 0, 45, 0, 54, 0, 0, [])]
def p15_54 : List PI := [(54, 1, 1, 3, 0, 0, 0, []), (55, 1, 2, 0, 0, 0, 0, []), (56, 3, 18, 5, 1, 15, 0, [262]), (59, 1, 27, 0, 0, 0, 0, []), (60, 3, 11, 3, 87, 0, 0, []), (63, 1, 2, 0, 0, 0, 0, []), (64, 3, 18, 5, 1, 15, 0, [262]), (67, 1, 1, 3, 0, 0, 0, []), (68, 1, 2, 0, 0, 0, 0, []), (69, 1, 1, 3, 0, 0, 0, []), (70, 2, 0, 0, 0, 0, 64, []), (72, 1, 8, 0, 0, 0, 0, []), (73, 1, 1, 3, 0, 0, 0, []), (74, 2, 0, 0, 0, 0, 64, []), (76, 1, 7, 0, 0, 0, 0, []), (77, 3, 35, 16, 3, 6, 0, [28, 84, 825, 827, 26]), (80, 1, 24, 0, 0, 0, 0, []), (81, 3, 5, 3, 0, 0, 1, []), (84, 3, 14, 0, 54, 0, 0, [])]
def p15_87 : List PI := [(87, 1, 1, 2, 0, 0, 0, []), (88, 1, 39, 0, 0, 0, 0, [])]
def p15 : List (Nat × List PI) := [(0, p15_0), (17, p15_17), (51, p15_51), (54, p15_54), (87, p15_87)]
def p16_0 : List PI := [(0, 2, 0, 0, 0, 0, 6, []), (2, 1, 3, 3, 0, 0, 0, []), (3, 1, 0, 0, 0, 0, 0, []), (4, 2, 3, 4, 0, 0, 0, []), (6, 0, 45, 0, 6, 0, 0, [])]
def p16_6 : List PI := [(6, 2, 1, 4, 0, 0, 0, []), (8, 1, 2, 0, 0, 0, 0, []), (9, 3, 17, 5, 2, 24, 0, [264]), (12, 3, 11, 3, 79, 0, 0, []), (15, 1, 0, 0, 0, 0, 0, []), (16, 2, 3, 5, 0, 0, 0, []), (18, 1, 0, 0, 0, 0, 0, []), (19, 2, 3, 6, 0, 0, 0, []), (21, 0, 45, 0, 21, 0, 0, [])]
def p16_21 : List PI := [(21, 2, 1, 6, 0, 0, 0, []), (23, 1, 0, 0, 0, 0, 4, []), (24, 3, 11, 3, 66, 0, 0, []), (27, 2, 1, 5, 0, 0, 0, []), (29, 1, 2, 0, 0, 0, 0, []), (30, 3, 18, 5, 1, 15, 0, [262]), (33, 2, 0, 0, 0, 0, 64, []), (35, 1, 1, 2, 0, 0, 0, []), (36, 1, 0, 0, 0, 0, 1, []), (37, 1, 6, 1, 0, 0, 0, []), (38, 1, 6, 2, 0, 0, 0, []), (39, 1, 1, 1, 0, 0, 0, []), (40, 1, 2, 0, 0, 0, 0, []), (41, 3, 18, 5, 0, 9, 0, [261]), (44, 1, 0, 0, 0, 0, 4, []), (45, 2, 1, 4, 0, 0, 0, []), (47, 1, 6, 2, 0, 0, 0, []), (48, 2, 1, 6, 0, 0, 0, []), (50, 1, 6, 0, 0, 0, 0, []), (51, 1, 22, 0, 0, 0, 0, []), (52, 1, 6, 3, 0, 0, 0, []), (53, 1, 6, 0, 0, 0, 0, []), (54, 1, 22, 0, 0, 0, 0, []), (55, 3, 35, 220, 2, 0, 1, [32, 90, 829, 538]), (58, 2, 3, 5, 0, 0, 0, []), (60, 3, 5, 6, 0, 0, 1, []), (63, 3, 14, 0, 21, 0, 0, [])]
def p16_66 : List PI := [(66, 1, 1, 3, 0, 0, 0, []), (67, 2, 1, 5, 0, 0, 0, []), (69, 3, 35, 221, 2, 0, 1, [37, 90, 830, 535]), (72, 1, 3, 3, 0, 0, 0, []), (73, 3, 5, 4, 0, 0, 1, []), (76, 3, 14, 0, 6, 0, 0, [])]
def p16_79 : List PI := [(79, 1, 1, 3, 0, 0, 0, []), (80, 1, 39, 0, 0, 0, 0, [])]
def p16 : List (Nat × List PI) := [(0, p16_0), (6, p16_6), (21, p16_21), (66, p16_66), (79, p16_79)]
def p17_0 : List PI := [(0, 1, 0, 0, 0, 0, 0, []), (1, 1, 3, 3, 0, 0, 0, []), (2, 1, 0, 0, 0, 0, 0, []), (3, 2, 3, 4, 0, 0, 0, []), (5, 0, 45, 0, 5, 0, 0, [])]
def p17_5 : List PI := [(5, 2, 1, 4, 0, 0, 0, []), (7, 1, 0, 0, 0, 0, 4, []), (8, 3, 11, 3, 38, 0, 0, []), (11, 1, 1, 3, 0, 0, 0, []), (12, 1, 1, 2, 0, 0, 0, []), (13, 1, 2, 0, 0, 0, 0, []), (14, 3, 18, 5, 0, 9, 0, [261]), (17, 1, 0, 0, 0, 0, 4, []), (18, 1, 1, 1, 0, 0, 0, []), (19, 1, 6, 2, 0, 0, 0, []), (20, 2, 1, 4, 0, 0, 0, []), (22, 1, 6, 0, 0, 0, 0, []), (23, 1, 22, 0, 0, 0, 0, []), (24, 1, 6, 3, 0, 0, 0, []), (25, 3, 35, 217, 1, 0, 1, [18, 85, 255, 256]), (28, 3, 35, 220, 2, 0, 1, [32, 90, 829, 538]), (31, 1, 3, 3, 0, 0, 0, []), (32, 3, 5, 4, 0, 0, 1, []), (35, 3, 14, 0, 5, 0, 0, [])]
def p17_38 : List PI := [(38, 1, 1, 3, 0, 0, 0, []), (39, 1, 39, 0, 0, 0, 0, [])]
def p17 : List (Nat × List PI) := [(0, p17_0), (5, p17_5), (38, p17_38)]
def p18_0 : List PI := [(0, 1, 0, 0, 0, 0, 0, []), (1, 1, 3, 2, 0, 0, 0, []), (2, 1, 2, 0, 0, 0, 0, []), (3, 1, 0, 0, 0, 0, 0, []), (4, 1, 1, 1, 0, 0, 0, []), (5, 3, 35, 17, 3, 6, 0, [40, 84, 850, 839, 840]), (8, 1, 3, 3, 0, 0, 0, []), (9, 1, 0, 0, 0, 0, 1, []), (10, 2, 3, 4, 0, 0, 0, []), (12, 0, 45, 0, 12, 0, 0, [])]
def p18_12 : List PI := [(12, 2, 1, 4, 0, 0, 0, []), (14, 1, 2, 0, 0, 0, 0, []), (15, 3, 17, 5, 2, 24, 0, [264]), (18, 3, 11, 3, 48, 0, 0, []), (21, 1, 2, 0, 0, 0, 0, []), (22, 2, 1, 4, 0, 0, 0, []), (24, 1, 1, 1, 0, 0, 0, []), (25, 3, 35, 17, 3, 6, 0, [40, 84, 850, 839, 840]), (28, 2, 3, 5, 0, 0, 0, []), (30, 2, 1, 5, 0, 0, 0, []), (32, 1, 1, 3, 0, 0, 0, []), (33, 3, 11, 3, 42, 0, 0, []), (36, 2, 1, 5, 0, 0, 0, []), (38, 1, 3, 3, 0, 0, 0, []), (39, 2, 1, 4, 0, 0, 0, []), (41, 1, 3, 2, 0, 0, 0, []), (42, 0, 45, 0, 42, 0, 0, [])]
def p18_42 : List PI := [(42, 3, 5, 4, 0, 0, 1, []), (45, 3, 14, 0, 12, 0, 0, [])]
def p18_48 : List PI := [(48, 1, 1, 2, 0, 0, 0, []), (49, 1, 39, 0, 0, 0, 0, [])]
def p18 : List (Nat × List PI) := [(0, p18_0), (12, p18_12), (42, p18_42), (48, p18_48)]
def p19_0 : List PI := [(0, 1, 2, 0, 0, 0, 0, []), (1, 3, 43, 0, 0, 3, 0, [229, 99, 100]), (4, 1, 2, 0, 0, 0, 0, []), (5, 3, 28, 3, 0, 9, 0, [230]), (8, 1, 27, 0, 0, 0, 0, []), (9, 2, 30, 0, 0, 0, 0, [127]), (11, 3, 21, 6, 0, 13, 0, [232]), (14, 1, 2, 0, 0, 0, 0, []), (15, 1, 0, 0, 0, 0, 0, []), (16, 2, 30, 0, 0, 0, 0, [127]), (18, 3, 21, 6, 1, 19, 0, [234]), (21, 1, 38, 0, 0, 0, 0, [])]
def p19 : List (Nat × List PI) := [(0, p19_0)]
def p20_0 : List PI := [(0, 1, 2, 0, 0, 0, 0, []), (1, 1, 2, 1, 0, 0, 0, []), (2, 1, 1, 2, 0, 0, 0, []), (3, 3, 35, 22, 3, 7, 0, [22, 83, 730, 732, 17]), (6, 1, 34, 0, 0, 0, 0, []), (7, 1, 2, 0, 0, 0, 0, []), (8, 3, 17, 6, 4, 26, 0, [237]), (11, 3, 10, 0, 21, 0, 0, []), (14, 1, 2, 0, 0, 0, 0, []), (15, 3, 17, 6, 3, 30, 0, [236]), (18, 3, 14, 0, 22, 0, 0, [])]
def p20_21 : List PI := [(21, 1, 0, 0, 0, 0, -1, []), (22, 0, 45, 0, 22, 0, 0, [])]
def p20_22 : List PI := [(22, 1, 39, 0, 0, 0, 0, [])]
def p20 : List (Nat × List PI) := [(0, p20_0), (21, p20_21), (22, p20_22)]
def p21_0 : List PI := [(0, 1, 2, 0, 0, 0, 0, []), (1, 1, 2, 1, 0, 0, 0, []), (2, 1, 2, 1, 0, 0, 0, []), (3, 1, 27, 0, 0, 0, 0, []), (4, 3, 35, 22, 3, 7, 0, [22, 83, 730, 732, 17]), (7, 3, 10, 0, 21, 0, 0, []), (10, 1, 2, 0, 0, 0, 0, []), (11, 3, 17, 6, 4, 26, 0, [237]), (14, 3, 10, 1, 21, 0, 0, []), (17, 1, 0, 0, 0, 0, 1, []), (18, 3, 14, 0, 22, 0, 0, [])]
def p21_21 : List PI := [(21, 1, 0, 0, 0, 0, 0, []), (22, 0, 45, 0, 22, 0, 0, [])]
def p21_22 : List PI := [(22, 1, 40, 0, 0, 0, 0, [])]
def p21 : List (Nat × List PI) := [(0, p21_0), (21, p21_21), (22, p21_22)]
def p22_0 : List PI := [(0, 1, 2, 0, 0, 0, 0, []), (1, 1, 2, 1, 0, 0, 0, []), (2, 3, 21, 6, 1, 19, 0, [234]), (5, 1, 2, 0, 0, 0, 0, []), (6, 1, 1, 2, 0, 0, 0, []), (7, 1, 2, 1, 0, 0, 0, []), (8, 1, 27, 0, 0, 0, 0, []), (9, 3, 35, 221, 2, 0, 1, [34, 90, 734, 535]), (12, 3, 19, 6, 2, 40, 0, [235]), (15, 1, 2, 0, 0, 0, 0, []), (16, 1, 0, 0, 0, 0, 0, []), (17, 3, 19, 6, 3, 30, 0, [236]), (20, 1, 2, 0, 0, 0, 0, []), (21, 1, 0, 0, 0, 0, 0, []), (22, 3, 20, 6, 4, 26, 0, [237]), (25, 1, 2, 0, 0, 0, 0, []), (26, 1, 0, 0, 0, 0, 0, []), (27, 3, 35, 24, 2, 7, 0, [43, 83, 735, 737, 18]), (30, 1, 3, 3, 0, 0, 0, []), (31, 1, 2, 0, 0, 0, 0, []), (32, 3, 17, 6, 3, 30, 0, [236]), (35, 1, 2, 0, 0, 0, 0, []), (36, 3, 17, 6, 2, 40, 0, [235]), (39, 3, 11, 3, 47, 0, 0, []), (42, 1, 2, 0, 0, 0, 0, []), (43, 1, 0, 0, 0, 0, 1, []), (44, 3, 20, 6, 4, 26, 0, [237]), (47, 0, 45, 0, 47, 0, 0, [])]
def p22_47 : List PI := [(47, 1, 1, 3, 0, 0, 0, []), (48, 1, 40, 0, 0, 0, 0, [])]
def p22 : List (Nat × List PI) := [(0, p22_0), (47, p22_47)]
def p23_0 : List PI := [(0, 1, 2, 0, 0, 0, 0, []), (1, 3, 17, 6, 4, 26, 0, [237]), (4, 3, 10, 1, 18, 0, 0, []), (7, 1, 2, 0, 0, 0, 0, []), (8, 3, 17, 6, 3, 30, 0, [236]), (11, 1, 2, 0, 0, 0, 0, []), (12, 3, 17, 6, 2, 40, 0, [235]), (15, 3, 11, 2, 22, 0, 0, []), (18, 0, 45, 0, 18, 0, 0, [])]
def p23_18 : List PI := [(18, 1, 0, 0, 0, 0, -1, []), (19, 3, 14, 0, 31, 0, 0, [])]
def p23_22 : List PI := [(22, 1, 2, 0, 0, 0, 0, []), (23, 3, 18, 6, 1, 19, 0, [234]), (26, 1, 2, 0, 0, 0, 0, []), (27, 3, 17, 6, 3, 30, 0, [236]), (30, 1, 22, 0, 0, 0, 0, []), (31, 0, 45, 0, 31, 0, 0, [])]
def p23_31 : List PI := [(31, 1, 39, 0, 0, 0, 0, [])]
def p23 : List (Nat × List PI) := [(0, p23_0), (18, p23_18), (22, p23_22), (31, p23_31)]
def p24_0 : List PI := [(0, 1, 2, 0, 0, 0, 0, []), (1, 1, 1, 1, 0, 0, 0, []), (2, 3, 35, 25, 2, 7, 0, [47, 83, 739, 741, 19]), (5, 1, 3, 2, 0, 0, 0, []), (6, 1, 0, 0, 0, 0, 0, []), (7, 1, 3, 3, 0, 0, 0, []), (8, 0, 45, 0, 8, 0, 0, [])]
def p24_8 : List PI := [(8, 1, 1, 3, 0, 0, 0, []), (9, 2, 0, 0, 0, 0, 80, []), (11, 3, 11, 3, 57, 0, 0, []), (14, 1, 2, 0, 0, 0, 0, []), (15, 3, 35, 23, 1, 7, 0, [50, 83, 747, 749, 21]), (18, 2, 0, 0, 0, 0, 124, []), (20, 3, 11, 1, 57, 0, 0, []), (23, 1, 2, 0, 0, 0, 0, []), (24, 1, 32, 0, 0, 0, 0, []), (25, 3, 17, 6, 3, 30, 0, [236]), (28, 1, 0, 0, 0, 0, 1, []), (29, 1, 6, 0, 0, 0, 0, []), (30, 3, 19, 6, 3, 30, 0, [236]), (33, 1, 2, 0, 0, 0, 0, []), (34, 1, 1, 1, 0, 0, 0, []), (35, 3, 35, 25, 2, 7, 0, [47, 83, 739, 741, 19]), (38, 3, 10, 1, 45, 0, 0, []), (41, 1, 1, 2, 0, 0, 0, []), (42, 3, 10, 0, 49, 0, 0, []), (45, 0, 45, 0, 45, 0, 0, [])]
def p24_45 : List PI := [(45, 1, 0, 0, 0, 0, 1, []), (46, 3, 14, 0, 50, 0, 0, [])]
def p24_49 : List PI := [(49, 1, 0, 0, 0, 0, 0, []), (50, 0, 45, 0, 50, 0, 0, [])]
def p24_50 : List PI := [(50, 1, 3, 2, 0, 0, 0, []), (51, 3, 5, 3, 0, 0, 1, []), (54, 3, 14, 0, 8, 0, 0, [])]
def p24_57 : List PI := [(57, 1, 1, 2, 0, 0, 0, []), (58, 1, 40, 0, 0, 0, 0, [])]
def p24 : List (Nat × List PI) := [(0, p24_0), (8, p24_8), (45, p24_45), (49, p24_49), (50, p24_50), (57, p24_57)]
def p25_0 : List PI := [(0, 1, 2, 0, 0, 0, 0, []), (1, 1, 1, 1, 0, 0, 0, []), (2, 3, 35, 26, 2, 7, 0, [54, 83, 743, 745, 20]), (5, 1, 3, 2, 0, 0, 0, []), (6, 1, 0, 0, 0, 0, 0, []), (7, 1, 3, 3, 0, 0, 0, []), (8, 0, 45, 0, 8, 0, 0, [])]
def p25_8 : List PI := [(8, 1, 1, 3, 0, 0, 0, []), (9, 2, 0, 0, 0, 0, 80, []), (11, 3, 11, 3, 57, 0, 0, []), (14, 1, 2, 0, 0, 0, 0, []), (15, 3, 35, 23, 1, 7, 0, [50, 83, 747, 749, 21]), (18, 2, 0, 0, 0, 0, 38, []), (20, 3, 11, 1, 57, 0, 0, []), (23, 1, 2, 0, 0, 0, 0, []), (24, 1, 32, 0, 0, 0, 0, []), (25, 3, 17, 6, 3, 30, 0, [236]), (28, 1, 0, 0, 0, 0, 1, []), (29, 1, 6, 0, 0, 0, 0, []), (30, 3, 19, 6, 3, 30, 0, [236]), (33, 1, 2, 0, 0, 0, 0, []), (34, 1, 1, 1, 0, 0, 0, []), (35, 3, 35, 26, 2, 7, 0, [54, 83, 743, 745, 20]), (38, 3, 10, 0, 49, 0, 0, []), (41, 1, 1, 2, 0, 0, 0, []), (42, 3, 10, 0, 49, 0, 0, []), (45, 1, 0, 0, 0, 0, 1, []), (46, 3, 14, 0, 50, 0, 0, [])]
def p25_49 : List PI := [(49, 1, 0, 0, 0, 0, 0, []), (50, 0, 45, 0, 50, 0, 0, [])]
def p25_50 : List PI := [(50, 1, 3, 2, 0, 0, 0, []), (51, 3, 5, 3, 0, 0, 1, []), (54, 3, 14, 0, 8, 0, 0, [])]
def p25_57 : List PI := [(57, 1, 1, 2, 0, 0, 0, []), (58, 1, 40, 0, 0, 0, 0, [])]
def p25 : List (Nat × List PI) := [(0, p25_0), (8, p25_8), (49, p25_49), (50, p25_50), (57, p25_57)]
def p26_0 : List PI := [(0, 1, 2, 0, 0, 0, 0, []), (1, 3, 35, 23, 1, 7, 0, [50, 83, 747, 749, 21]), (4, 1, 3, 2, 0, 0, 0, []), (5, 1, 1, 2, 0, 0, 0, []), (6, 2, 0, 0, 0, 0, 33, []), (8, 3, 11, 0, 22, 0, 0, []), (11, 1, 1, 2, 0, 0, 0, []), (12, 2, 0, 0, 0, 0, 40, []), (14, 3, 11, 0, 22, 0, 0, []), (17, 1, 2, 0, 0, 0, 0, []), (18, 3, 35, 27, 1, 7, 0, [57, 83, 751, 753, 22]), (21, 1, 40, 0, 0, 0, 0, [])]
def p26_22 : List PI := [(22, 1, 1, 1, 0, 0, 0, []), (23, 1, 0, 0, 0, 0, 4, []), (24, 3, 11, 2, 34, 0, 0, []), (27, 1, 2, 0, 0, 0, 0, []), (28, 1, 0, 0, 0, 0, 1, []), (29, 3, 20, 6, 4, 26, 0, [237]), (32, 1, 0, 0, 0, 0, 0, []), (33, 1, 40, 0, 0, 0, 0, [])]
def p26_34 : List PI := [(34, 1, 2, 0, 0, 0, 0, []), (35, 1, 32, 0, 0, 0, 0, []), (36, 3, 17, 6, 3, 30, 0, [236]), (39, 1, 0, 0, 0, 0, 1, []), (40, 1, 6, 0, 0, 0, 0, []), (41, 3, 19, 6, 3, 30, 0, [236]), (44, 1, 1, 2, 0, 0, 0, []), (45, 2, 0, 0, 0, 0, 33, []), (47, 3, 11, 1, 66, 0, 0, []), (50, 1, 2, 0, 0, 0, 0, []), (51, 1, 1, 1, 0, 0, 0, []), (52, 1, 0, 0, 0, 0, 1, []), (53, 1, 6, 0, 0, 0, 0, []), (54, 3, 35, 26, 2, 7, 0, [54, 83, 743, 745, 20]), (57, 3, 10, 1, 64, 0, 0, []), (60, 1, 0, 0, 0, 0, 1, []), (61, 3, 14, 0, 65, 0, 0, [])]
def p26_64 : List PI := [(64, 1, 0, 0, 0, 0, 0, []), (65, 0, 45, 0, 65, 0, 0, [])]
def p26_65 : List PI := [(65, 1, 40, 0, 0, 0, 0, [])]
def p26_66 : List PI := [(66, 1, 2, 0, 0, 0, 0, []), (67, 1, 1, 1, 0, 0, 0, []), (68, 1, 0, 0, 0, 0, 1, []), (69, 1, 6, 0, 0, 0, 0, []), (70, 3, 35, 24, 2, 7, 0, [43, 83, 735, 737, 18]), (73, 1, 3, 3, 0, 0, 0, []), (74, 1, 2, 0, 0, 0, 0, []), (75, 3, 35, 23, 1, 7, 0, [50, 83, 747, 749, 21]), (78, 2, 0, 0, 0, 0, 41, []), (80, 3, 11, 1, 96, 0, 0, []), (83, 1, 2, 0, 0, 0, 0, []), (84, 1, 32, 0, 0, 0, 0, []), (85, 3, 17, 6, 3, 30, 0, [236]), (88, 1, 0, 0, 0, 0, 1, []), (89, 1, 6, 0, 0, 0, 0, []), (90, 3, 19, 6, 3, 30, 0, [236]), (93, 3, 14, 0, 101, 0, 0, [])]
def p26_96 : List PI := [(96, 1, 2, 0, 0, 0, 0, []), (97, 1, 0, 0, 0, 0, 1, []), (98, 3, 20, 6, 4, 26, 0, [237]), (101, 0, 45, 0, 101, 0, 0, [])]
def p26_101 : List PI := [(101, 1, 1, 3, 0, 0, 0, []), (102, 1, 40, 0, 0, 0, 0, [])]
def p26 : List (Nat × List PI) := [(0, p26_0), (22, p26_22), (34, p26_34), (64, p26_64), (65, p26_65), (66, p26_66), (96, p26_96), (101, p26_101)]
def p27_0 : List PI := [(0, 1, 2, 0, 0, 0, 0, []), (1, 3, 35, 23, 1, 7, 0, [50, 83, 747, 749, 21]), (4, 3, 35, 29, 1, 0, 1, [61, 83, 755, 756]), (7, 1, 3, 1, 0, 0, 0, []), (8, 1, 1, 1, 0, 0, 0, []), (9, 3, 10, 3, 19, 0, 0, []), (12, 1, 2, 0, 0, 0, 0, []), (13, 1, 0, 0, 0, 0, 1, []), (14, 3, 20, 6, 4, 26, 0, [237]), (17, 1, 0, 0, 0, 0, 0, []), (18, 1, 40, 0, 0, 0, 0, [])]
def p27_19 : List PI := [(19, 1, 2, 0, 0, 0, 0, []), (20, 1, 32, 0, 0, 0, 0, []), (21, 3, 17, 6, 3, 30, 0, [236]), (24, 1, 0, 0, 0, 0, 1, []), (25, 1, 6, 0, 0, 0, 0, []), (26, 3, 19, 6, 3, 30, 0, [236]), (29, 1, 2, 0, 0, 0, 0, []), (30, 3, 35, 23, 1, 7, 0, [50, 83, 747, 749, 21]), (33, 1, 3, 2, 0, 0, 0, []), (34, 1, 1, 2, 0, 0, 0, []), (35, 2, 0, 0, 0, 0, 60, []), (37, 3, 11, 0, 59, 0, 0, []), (40, 1, 1, 2, 0, 0, 0, []), (41, 2, 0, 0, 0, 0, 61, []), (43, 3, 11, 0, 59, 0, 0, []), (46, 1, 1, 2, 0, 0, 0, []), (47, 2, 0, 0, 0, 0, 62, []), (49, 3, 11, 0, 59, 0, 0, []), (52, 1, 2, 0, 0, 0, 0, []), (53, 1, 0, 0, 0, 0, 1, []), (54, 3, 20, 6, 4, 26, 0, [237]), (57, 1, 0, 0, 0, 0, 0, []), (58, 1, 40, 0, 0, 0, 0, [])]
def p27_59 : List PI := [(59, 1, 2, 0, 0, 0, 0, []), (60, 1, 32, 0, 0, 0, 0, []), (61, 3, 17, 6, 3, 30, 0, [236]), (64, 1, 0, 0, 0, 0, 1, []), (65, 1, 6, 0, 0, 0, 0, []), (66, 3, 19, 6, 3, 30, 0, [236]), (69, 1, 2, 0, 0, 0, 0, []), (70, 3, 18, 6, 0, 13, 0, [232]), (73, 1, 1, 1, 0, 0, 0, []), (74, 1, 22, 0, 0, 0, 0, []), (75, 1, 2, 0, 0, 0, 0, []), (76, 3, 35, 28, 1, 7, 0, [65, 83, 758, 760, 23]), (79, 3, 35, 216, 2, 0, 1, [68, 85, 762, 763]), (82, 1, 3, 3, 0, 0, 0, []), (83, 1, 1, 2, 0, 0, 0, []), (84, 2, 0, 0, 0, 0, 60, []), (86, 3, 11, 1, 101, 0, 0, []), (89, 1, 1, 3, 0, 0, 0, []), (90, 3, 10, 3, 97, 0, 0, []), (93, 1, 0, 0, 0, 0, 1, []), (94, 3, 14, 0, 128, 0, 0, [])]
def p27_97 : List PI := [(97, 1, 0, 0, 0, 0, 0, []), (98, 3, 14, 0, 128, 0, 0, [])]
def p27_101 : List PI := [(101, 1, 1, 2, 0, 0, 0, []), (102, 2, 0, 0, 0, 0, 62, []), (104, 3, 11, 1, 119, 0, 0, []), (107, 1, 1, 3, 0, 0, 0, []), (108, 3, 10, 5, 115, 0, 0, []), (111, 1, 0, 0, 0, 0, 1, []), (112, 3, 14, 0, 128, 0, 0, [])]
def p27_115 : List PI := [(115, 1, 0, 0, 0, 0, 0, []), (116, 3, 14, 0, 128, 0, 0, [])]
def p27_119 : List PI := [(119, 1, 1, 3, 0, 0, 0, []), (120, 3, 10, 1, 127, 0, 0, []), (123, 1, 0, 0, 0, 0, 1, []), (124, 3, 14, 0, 128, 0, 0, [])]
def p27_127 : List PI := [(127, 1, 0, 0, 0, 0, 0, []), (128, 0, 45, 0, 128, 0, 0, [])]
def p27_128 : List PI := [(128, 1, 40, 0, 0, 0, 0, [])]
def p27 : List (Nat × List PI) := [(0, p27_0), (19, p27_19), (59, p27_59), (97, p27_97), (101, p27_101), (115, p27_115), (119, p27_119), (127, p27_127), (128, p27_128)]
def p28_0 : List PI := [(0, 1, 0, 0, 0, 0, 0, []), (1, 1, 3, 1, 0, 0, 0, []), (2, 1, 0, 0, 0, 0, 0, []), (3, 1, 3, 2, 0, 0, 0, []), (4, 0, 45, 0, 4, 0, 0, [])]
def p28_4 : List PI := [(4, 1, 1, 1, 0, 0, 0, []), (5, 1, 0, 0, 0, 0, 3, []), (6, 3, 11, 3, 56, 0, 0, []), (9, 1, 2, 0, 0, 0, 0, []), (10, 3, 35, 23, 1, 7, 0, [50, 83, 747, 749, 21]), (13, 2, 0, 0, 0, 0, 48, []), (15, 3, 11, 2, 56, 0, 0, []), (18, 1, 2, 0, 0, 0, 0, []), (19, 3, 35, 23, 1, 7, 0, [50, 83, 747, 749, 21]), (22, 2, 0, 0, 0, 0, 57, []), (24, 3, 11, 4, 56, 0, 0, []), (27, 2, 0, 0, 0, 0, 10, []), (29, 1, 1, 2, 0, 0, 0, []), (30, 1, 6, 2, 0, 0, 0, []), (31, 1, 2, 0, 0, 0, 0, []), (32, 3, 35, 23, 1, 7, 0, [50, 83, 747, 749, 21]), (35, 1, 6, 0, 0, 0, 0, []), (36, 2, 0, 0, 0, 0, 48, []), (38, 1, 6, 1, 0, 0, 0, []), (39, 1, 3, 2, 0, 0, 0, []), (40, 3, 5, 1, 0, 0, 1, []), (43, 1, 2, 0, 0, 0, 0, []), (44, 1, 32, 0, 0, 0, 0, []), (45, 3, 17, 6, 3, 30, 0, [236]), (48, 1, 0, 0, 0, 0, 1, []), (49, 1, 6, 0, 0, 0, 0, []), (50, 3, 19, 6, 3, 30, 0, [236]), (53, 3, 14, 0, 4, 0, 0, [])]
def p28_56 : List PI := [(56, 1, 1, 1, 0, 0, 0, []), (57, 3, 10, 1, 65, 0, 0, []), (60, 1, 2, 0, 0, 0, 0, []), (61, 1, 0, 0, 0, 0, 1, []), (62, 3, 20, 6, 4, 26, 0, [237]), (65, 0, 45, 0, 65, 0, 0, [])]
def p28_65 : List PI := [(65, 1, 1, 2, 0, 0, 0, []), (66, 1, 39, 0, 0, 0, 0, [])]
def p28 : List (Nat × List PI) := [(0, p28_0), (4, p28_4), (56, p28_56), (65, p28_65)]
def p29_0 : List PI := [(0, 1, 0, 0, 0, 0, 0, []), (1, 1, 3, 1, 0, 0, 0, []), (2, 0, 45, 0, 2, 0, 0, [])]
def p29_2 : List PI := [(2, 1, 1, 1, 0, 0, 0, []), (3, 3, 28, 3, 0, 9, 0, [230]), (6, 1, 27, 0, 0, 0, 0, []), (7, 3, 11, 3, 27, 0, 0, []), (10, 3, 28, 3, 0, 9, 0, [230]), (13, 1, 1, 1, 0, 0, 0, []), (14, 1, 22, 2, 0, 0, 0, []), (15, 1, 1, 0, 0, 0, 0, []), (16, 3, 11, 1, 21, 0, 0, []), (19, 1, 1, 1, 0, 0, 0, []), (20, 1, 39, 0, 0, 0, 0, [])]
def p29_21 : List PI := [(21, 3, 5, 1, 0, 0, 1, []), (24, 3, 14, 0, 2, 0, 0, [])]
def p29_27 : List PI := [(27, 1, 0, 0, 0, 0, -1, []), (28, 1, 39, 0, 0, 0, 0, [])]
def p29 : List (Nat × List PI) := [(0, p29_0), (2, p29_2), (21, p29_21), (27, p29_27)]
def p30_0 : List PI := [(0, 1, 2, 0, 0, 0, 0, []), (1, 3, 43, 0, 0, 3, 0, [423, 99, 100]), (4, 1, 2, 0, 0, 0, 0, []), (5, 2, 0, 0, 424, 9, -1000000000, []), (7, 3, 19, 7, 5, 10, 0, [440]), (10, 1, 2, 0, 0, 0, 0, []), (11, 2, 0, 0, 424, 9, -1000000000, []), (13, 3, 19, 7, 6, 16, 0, [444]), (16, 1, 2, 0, 0, 0, 0, []), (17, 2, 0, 0, 424, 9, -1000000000, []), (19, 3, 19, 7, 7, 19, 0, [446]), (22, 1, 2, 0, 0, 0, 0, []), (23, 2, 0, 0, 424, 9, -1000000000, []), (25, 3, 19, 7, 8, 22, 0, [449]), (28, 1, 2, 0, 0, 0, 0, []), (29, 1, 1, 1, 0, 0, 0, []), (30, 3, 19, 7, 0, 25, 0, [425]), (33, 1, 2, 0, 0, 0, 0, []), (34, 1, 1, 2, 0, 0, 0, []), (35, 3, 19, 7, 1, 28, 0, [428]), (38, 1, 2, 0, 0, 0, 0, []), (39, 1, 1, 3, 0, 0, 0, []), (40, 3, 19, 7, 2, 31, 0, [430]), (43, 1, 2, 0, 0, 0, 0, []), (44, 2, 1, 4, 0, 0, 0, []), (46, 3, 19, 7, 3, 34, 0, [434]), (49, 1, 2, 0, 0, 0, 0, []), (50, 2, 1, 5, 0, 0, 0, []), (52, 3, 19, 7, 4, 37, 0, [437]), (55, 1, 38, 0, 0, 0, 0, [])]
def p30 : List (Nat × List PI) := [(0, p30_0)]
def p31_0 : List PI := [(0, 1, 2, 0, 0, 0, 0, []), (1, 3, 17, 7, 1, 28, 0, [428]), (4, 1, 1, 1, 0, 0, 0, []), (5, 3, 11, 1, 20, 0, 0, []), (8, 1, 2, 0, 0, 0, 0, []), (9, 3, 17, 7, 4, 37, 0, [437]), (12, 1, 1, 2, 0, 0, 0, []), (13, 3, 11, 4, 20, 0, 0, []), (16, 1, 0, 0, 0, 0, 1, []), (17, 3, 14, 0, 21, 0, 0, [])]
def p31_20 : List PI := [(20, 1, 0, 0, 0, 0, 0, []), (21, 0, 45, 0, 21, 0, 0, [])]
def p31_21 : List PI := [(21, 1, 40, 0, 0, 0, 0, [])]
def p31 : List (Nat × List PI) := [(0, p31_0), (20, p31_20), (21, p31_21)]
def p32_0 : List PI := [(0, 1, 2, 0, 0, 0, 0, []), (1, 3, 17, 7, 3, 34, 0, [434]), (4, 1, 0, 0, 0, 0, 2, []), (5, 3, 11, 0, 17, 0, 0, []), (8, 1, 2, 0, 0, 0, 0, []), (9, 3, 17, 7, 3, 34, 0, [434]), (12, 2, 0, 0, 0, 0, 6, []), (14, 3, 11, 1, 30, 0, 0, []), (17, 0, 45, 0, 17, 0, 0, [])]
def p32_17 : List PI := [(17, 1, 2, 0, 0, 0, 0, []), (18, 1, 1, 1, 0, 0, 0, []), (19, 1, 1, 2, 0, 0, 0, []), (20, 3, 35, 31, 3, 8, 0, [40, 89, 623, 624, 625]), (23, 3, 10, 0, 30, 0, 0, []), (26, 1, 0, 0, 0, 0, 1, []), (27, 3, 14, 0, 31, 0, 0, [])]
def p32_30 : List PI := [(30, 1, 0, 0, 0, 0, 0, []), (31, 0, 45, 0, 31, 0, 0, [])]
def p32_31 : List PI := [(31, 1, 40, 0, 0, 0, 0, [])]
def p32 : List (Nat × List PI) := [(0, p32_0), (17, p32_17), (30, p32_30), (31, p32_31)]
def p33_0 : List PI := [(0, 1, 2, 0, 0, 0, 0, []), (1, 3, 17, 7, 2, 31, 0, [430]), (4, 1, 2, 1, 0, 0, 0, []), (5, 3, 17, 7, 2, 31, 0, [430]), (8, 3, 11, 1, 39, 0, 0, []), (11, 1, 2, 0, 0, 0, 0, []), (12, 3, 17, 7, 5, 10, 0, [440]), (15, 1, 2, 1, 0, 0, 0, []), (16, 3, 17, 7, 5, 10, 0, [440]), (19, 1, 6, 1, 0, 0, 0, []), (20, 3, 35, 219, 1, 0, 1, [44, 90, 631, 573]), (23, 1, 2, 0, 0, 0, 0, []), (24, 3, 17, 7, 6, 16, 0, [444]), (27, 1, 2, 1, 0, 0, 0, []), (28, 3, 17, 7, 6, 16, 0, [444]), (31, 1, 6, 0, 0, 0, 0, []), (32, 3, 11, 5, 39, 0, 0, []), (35, 1, 0, 0, 0, 0, 1, []), (36, 3, 14, 0, 40, 0, 0, [])]
def p33_39 : List PI := [(39, 1, 0, 0, 0, 0, 0, []), (40, 0, 45, 0, 40, 0, 0, [])]
def p33_40 : List PI := [(40, 1, 40, 0, 0, 0, 0, [])]
def p33 : List (Nat × List PI) := [(0, p33_0), (39, p33_39), (40, p33_40)]
def p34_0 : List PI := [(0, 1, 2, 0, 0, 0, 0, []), (1, 3, 17, 7, 5, 10, 0, [440]), (4, 1, 2, 0, 0, 0, 0, []), (5, 3, 17, 7, 6, 16, 0, [444]), (8, 1, 6, 2, 0, 0, 0, []), (9, 2, 0, 0, 0, 0, 10, []), (11, 1, 7, 0, 0, 0, 0, []), (12, 1, 39, 0, 0, 0, 0, [])]
def p34 : List (Nat × List PI) := [(0, p34_0)]
def p35_0 : List PI := [(0, 1, 2, 0, 0, 0, 0, []), (1, 3, 43, 0, 0, 3, 0, [294, 99, 100]), (4, 1, 2, 0, 0, 0, 0, []), (5, 1, 0, 0, 0, 0, -1, []), (6, 3, 19, 8, 0, 9, 0, [295]), (9, 1, 2, 0, 0, 0, 0, []), (10, 2, 0, 0, 0, 0, 60, []), (12, 2, 30, 0, 0, 0, 0, [127]), (14, 3, 21, 8, 2, 15, 0, [299]), (17, 1, 38, 0, 0, 0, 0, [])]
def p35 : List (Nat × List PI) := [(0, p35_0)]
def p36_0 : List PI := [(0, 1, 2, 0, 0, 0, 0, []), (1, 1, 1, 1, 0, 0, 0, []), (2, 3, 19, 8, 0, 9, 0, [295]), (5, 1, 2, 0, 0, 0, 0, []), (6, 1, 1, 2, 0, 0, 0, []), (7, 3, 19, 8, 1, 19, 0, [297]), (10, 1, 2, 0, 0, 0, 0, []), (11, 3, 18, 8, 2, 15, 0, [299]), (14, 1, 0, 0, 0, 0, 0, []), (15, 3, 36, 222, 2, 0, 1, [22, 80, 903, 135]), (18, 1, 38, 0, 0, 0, 0, [])]
def p36 : List (Nat × List PI) := [(0, p36_0)]
def p37_0 : List PI := [(0, 1, 1, 1, 0, 0, 0, []), (1, 3, 10, 2, 16, 0, 0, []), (4, 1, 1, 1, 0, 0, 0, []), (5, 1, 2, 0, 0, 0, 0, []), (6, 3, 17, 8, 1, 19, 0, [297]), (9, 3, 11, 3, 16, 0, 0, []), (12, 1, 0, 0, 0, 0, 1, []), (13, 3, 14, 0, 17, 0, 0, [])]
def p37_16 : List PI := [(16, 1, 0, 0, 0, 0, 0, []), (17, 0, 45, 0, 17, 0, 0, [])]
def p37_17 : List PI := [(17, 1, 40, 0, 0, 0, 0, [])]
def p37 : List (Nat × List PI) := [(0, p37_0), (16, p37_16), (17, p37_17)]
def p38_0 : List PI := [(0, 1, 1, 2, 0, 0, 0, []), (1, 3, 10, 2, 30, 0, 0, []), (4, 1, 1, 2, 0, 0, 0, []), (5, 1, 2, 0, 0, 0, 0, []), (6, 3, 17, 8, 1, 19, 0, [297]), (9, 3, 11, 4, 30, 0, 0, []), (12, 1, 1, 1, 0, 0, 0, []), (13, 3, 10, 2, 30, 0, 0, []), (16, 1, 1, 1, 0, 0, 0, []), (17, 1, 2, 0, 0, 0, 0, []), (18, 3, 17, 8, 1, 19, 0, [297]), (21, 1, 1, 2, 0, 0, 0, []), (22, 1, 6, 1, 0, 0, 0, []), (23, 3, 11, 4, 30, 0, 0, []), (26, 1, 0, 0, 0, 0, 1, []), (27, 3, 14, 0, 31, 0, 0, [])]
def p38_30 : List PI := [(30, 1, 0, 0, 0, 0, 0, []), (31, 0, 45, 0, 31, 0, 0, [])]
def p38_31 : List PI := [(31, 1, 40, 0, 0, 0, 0, [])]
def p38 : List (Nat × List PI) := [(0, p38_0), (30, p38_30), (31, p38_31)]
def p39_0 : List PI := [(0, 1, 2, 0, 0, 0, 0, []), (1, 3, 17, 8, 0, 9, 0, [295]), (4, 36, 15, 0, 56, 0, 0, [40, 43, 56, 56, 46])]
def p39_40 : List PI := [(40, 1, 1, 1, 0, 0, 0, []), (41, 1, 9, 1, 0, 0, 0, []), (42, 1, 39, 0, 0, 0, 0, [])]
def p39_43 : List PI := [(43, 1, 1, 1, 0, 0, 0, []), (44, 1, 9, 2, 0, 0, 0, []), (45, 1, 39, 0, 0, 0, 0, [])]
def p39_46 : List PI := [(46, 1, 1, 1, 0, 0, 0, []), (47, 3, 10, 0, 54, 0, 0, []), (50, 1, 0, 0, 0, 0, 1, []), (51, 3, 14, 0, 55, 0, 0, [])]
def p39_54 : List PI := [(54, 1, 0, 0, 0, 0, 0, []), (55, 0, 45, 0, 55, 0, 0, [])]
def p39_55 : List PI := [(55, 1, 39, 0, 0, 0, 0, [])]
def p39_56 : List PI := [(56, 1, 1, 1, 0, 0, 0, []), (57, 1, 39, 0, 0, 0, 0, [])]
def p39 : List (Nat × List PI) := [(0, p39_0), (40, p39_40), (43, p39_43), (46, p39_46), (54, p39_54), (55, p39_55), (56, p39_56)]
def p40_0 : List PI := [(0, 1, 2, 0, 0, 0, 0, []), (1, 3, 43, 0, 0, 3, 0, [203, 99, 100]), (4, 1, 2, 0, 0, 0, 0, []), (5, 3, 0, 0, 0, 0, 201, []), (8, 2, 30, 0, 0, 0, 0, [127]), (10, 3, 21, 9, 3, 9, 0, [208]), (13, 1, 2, 0, 0, 0, 0, []), (14, 3, 0, 0, 0, 0, 201, []), (17, 2, 30, 0, 0, 0, 0, [127]), (19, 3, 21, 9, 4, 15, 0, [209]), (22, 1, 2, 0, 0, 0, 0, []), (23, 1, 2, 1, 0, 0, 0, []), (24, 3, 21, 9, 0, 18, 0, [204]), (27, 1, 2, 0, 0, 0, 0, []), (28, 1, 2, 2, 0, 0, 0, []), (29, 3, 21, 9, 1, 22, 0, [205]), (32, 1, 38, 0, 0, 0, 0, [])]
def p40 : List (Nat × List PI) := [(0, p40_0)]
def p41_0 : List PI := [(0, 1, 2, 0, 0, 0, 0, []), (1, 1, 2, 1, 0, 0, 0, []), (2, 3, 21, 9, 1, 22, 0, [205]), (5, 1, 2, 0, 0, 0, 0, []), (6, 1, 1, 2, 0, 0, 0, []), (7, 3, 19, 9, 2, 26, 0, [206]), (10, 1, 2, 0, 0, 0, 0, []), (11, 3, 18, 9, 1, 22, 0, [205]), (14, 3, 17, 4, 4, 30, 0, [163]), (17, 2, 3, 4, 0, 0, 0, []), (19, 1, 2, 0, 0, 0, 0, []), (20, 3, 18, 9, 1, 22, 0, [205]), (23, 3, 17, 4, 5, 35, 0, [166]), (26, 2, 3, 5, 0, 0, 0, []), (28, 1, 2, 0, 0, 0, 0, []), (29, 3, 18, 9, 3, 9, 0, [208]), (32, 1, 0, 0, 0, 0, 0, []), (33, 2, 1, 4, 0, 0, 0, []), (35, 1, 24, 0, 0, 0, 0, []), (36, 1, 2, 0, 0, 0, 0, []), (37, 3, 18, 9, 4, 15, 0, [209]), (40, 1, 0, 0, 0, 0, 0, []), (41, 2, 1, 5, 0, 0, 0, []), (43, 1, 24, 0, 0, 0, 0, []), (44, 1, 0, 0, 0, 0, 0, []), (45, 2, 3, 6, 0, 0, 0, []), (47, 0, 45, 0, 47, 0, 0, [])]
def p41_47 : List PI := [(47, 2, 1, 6, 0, 0, 0, []), (49, 1, 1, 3, 0, 0, 0, []), (50, 3, 11, 4, 209, 0, 0, []), (53, 2, 1, 6, 0, 0, 0, []), (55, 3, 0, 0, 0, 0, 200, []), (58, 3, 11, 3, 209, 0, 0, []), (61, 1, 2, 0, 0, 0, 0, []), (62, 2, 1, 6, 0, 0, 0, []), (64, 3, 37, 42, 2, 10, 0, [38, 82, 521, 523, 4]), (67, 2, 4, 7, 0, 0, 0, []), (69, 2, 2, 7, 0, 0, 0, []), (71, 3, 12, 0, 136, 0, 0, []), (74, 2, 1, 4, 0, 0, 0, []), (76, 2, 2, 7, 0, 0, 0, []), (78, 3, 35, 34, 1, 8, 0, [42, 89, 525, 526, 527]), (81, 3, 28, 0, 0, 48, 0, [529]), (84, 2, 2, 7, 0, 0, 0, []), (86, 3, 17, 7, 7, 51, 0, [447]), (89, 2, 0, 0, 0, 0, 15, []), (91, 1, 6, 3, 0, 0, 0, []), (92, 1, 22, 0, 0, 0, 0, []), (93, 1, 6, 2, 0, 0, 0, []), (94, 3, 0, 0, 0, 0, 1000, []), (97, 1, 7, 0, 0, 0, 0, []), (98, 1, 6, 0, 0, 0, 0, []), (99, 3, 35, 104, 1, 0, 1, [54, 77, 531, 532]), (102, 2, 3, 4, 0, 0, 0, []), (104, 2, 1, 5, 0, 0, 0, []), (106, 2, 2, 7, 0, 0, 0, []), (108, 3, 35, 34, 1, 8, 0, [42, 89, 525, 526, 527]), (111, 3, 28, 0, 0, 48, 0, [529]), (114, 2, 2, 7, 0, 0, 0, []), (116, 3, 17, 7, 7, 51, 0, [447]), (119, 1, 0, 0, 0, 0, 4, []), (120, 1, 6, 0, 0, 0, 0, []), (121, 2, 0, 0, 0, 0, 15, []), (123, 1, 6, 3, 0, 0, 0, []), (124, 1, 22, 0, 0, 0, 0, []), (125, 1, 6, 2, 0, 0, 0, []), (126, 3, 0, 0, 0, 0, 1000, []), (129, 1, 7, 0, 0, 0, 0, []), (130, 1, 6, 0, 0, 0, 0, []), (131, 3, 35, 104, 1, 0, 1, [54, 77, 531, 532]), (134, 2, 3, 5, 0, 0, 0, []), (136, 0, 45, 0, 136, 0, 0, [])]
def p41_136 : List PI := [(136, 2, 1, 4, 0, 0, 0, []), (138, 2, 1, 5, 0, 0, 0, []), (140, 3, 35, 105, 2, 0, 1, [58, 77, 540, 541]), (143, 2, 3, 8, 0, 0, 0, []), (145, 2, 1, 4, 0, 0, 0, []), (147, 1, 2, 0, 0, 0, 0, []), (148, 3, 18, 9, 0, 18, 0, [204]), (151, 3, 18, 2, 0, 62, 0, [108]), (154, 2, 1, 8, 0, 0, 0, []), (156, 1, 22, 0, 0, 0, 0, []), (157, 1, 6, 0, 0, 0, 0, []), (158, 3, 35, 104, 1, 0, 1, [54, 77, 531, 532]), (161, 2, 3, 4, 0, 0, 0, []), (163, 2, 1, 5, 0, 0, 0, []), (165, 1, 2, 0, 0, 0, 0, []), (166, 3, 18, 9, 0, 18, 0, [204]), (169, 3, 18, 2, 1, 67, 0, [111]), (172, 2, 1, 8, 0, 0, 0, []), (174, 1, 22, 0, 0, 0, 0, []), (175, 1, 6, 0, 0, 0, 0, []), (176, 3, 35, 104, 1, 0, 1, [54, 77, 531, 532]), (179, 2, 3, 5, 0, 0, 0, []), (181, 1, 2, 0, 0, 0, 0, []), (182, 3, 18, 9, 3, 9, 0, [208]), (185, 2, 1, 6, 0, 0, 0, []), (187, 1, 0, 0, 0, 0, 1, []), (188, 1, 6, 0, 0, 0, 0, []), (189, 2, 1, 4, 0, 0, 0, []), (191, 1, 24, 0, 0, 0, 0, []), (192, 1, 2, 0, 0, 0, 0, []), (193, 3, 18, 9, 4, 15, 0, [209]), (196, 2, 1, 6, 0, 0, 0, []), (198, 1, 0, 0, 0, 0, 1, []), (199, 1, 6, 0, 0, 0, 0, []), (200, 2, 1, 5, 0, 0, 0, []), (202, 1, 24, 0, 0, 0, 0, []), (203, 3, 5, 6, 0, 0, 1, []), (206, 3, 14, 0, 47, 0, 0, [])]
def p41_209 : List PI := [(209, 1, 38, 0, 0, 0, 0, [])]
def p41 : List (Nat × List PI) := [(0, p41_0), (47, p41_47), (136, p41_136), (209, p41_209)]
def p42_0 : List PI := [(0, 1, 2, 0, 0, 0, 0, []), (1, 3, 18, 9, 1, 22, 0, [205]), (4, 3, 18, 4, 9, 70, 0, [175]), (7, 1, 1, 1, 0, 0, 0, []), (8, 1, 23, 0, 0, 0, 0, []), (9, 1, 4, 2, 0, 0, 0, []), (10, 1, 2, 2, 0, 0, 0, []), (11, 3, 12, 0, 29, 0, 0, []), (14, 1, 2, 2, 0, 0, 0, []), (15, 3, 17, 7, 4, 74, 0, [438]), (18, 1, 2, 0, 0, 0, 0, []), (19, 3, 17, 9, 2, 26, 0, [206]), (22, 3, 11, 4, 29, 0, 0, []), (25, 1, 2, 2, 0, 0, 0, []), (26, 3, 14, 0, 30, 0, 0, [])]
def p42_29 : List PI := [(29, 1, 42, 0, 0, 0, 0, []), (30, 0, 45, 0, 30, 0, 0, [])]
def p42_30 : List PI := [(30, 1, 41, 0, 0, 0, 0, [])]
def p42 : List (Nat × List PI) := [(0, p42_0), (29, p42_29), (30, p42_30)]
def p43_0 : List PI := [(0, 1, 2, 0, 0, 0, 0, []), (1, 3, 18, 9, 3, 9, 0, [208]), (4, 1, 1, 1, 0, 0, 0, []), (5, 1, 0, 0, 0, 0, 1, []), (6, 1, 6, 0, 0, 0, 0, []), (7, 1, 22, 0, 0, 0, 0, []), (8, 1, 39, 0, 0, 0, 0, [])]
def p43 : List (Nat × List PI) := [(0, p43_0)]
def p44_0 : List PI := [(0, 1, 2, 0, 0, 0, 0, []), (1, 3, 18, 9, 4, 15, 0, [209]), (4, 1, 1, 1, 0, 0, 0, []), (5, 1, 0, 0, 0, 0, 1, []), (6, 1, 6, 0, 0, 0, 0, []), (7, 1, 22, 0, 0, 0, 0, []), (8, 1, 39, 0, 0, 0, 0, [])]
def p44 : List (Nat × List PI) := [(0, p44_0)]
def p45_0 : List PI := [(0, 1, 2, 0, 0, 0, 0, []), (1, 3, 18, 9, 3, 9, 0, [208]), (4, 1, 1, 1, 0, 0, 0, []), (5, 1, 0, 0, 0, 0, 1, []), (6, 1, 6, 0, 0, 0, 0, []), (7, 1, 22, 0, 0, 0, 0, []), (8, 1, 2, 0, 0, 0, 0, []), (9, 3, 18, 9, 4, 15, 0, [209]), (12, 1, 1, 1, 0, 0, 0, []), (13, 1, 0, 0, 0, 0, 1, []), (14, 1, 6, 0, 0, 0, 0, []), (15, 1, 22, 0, 0, 0, 0, []), (16, 3, 35, 105, 2, 0, 1, [58, 77, 540, 541]), (19, 1, 39, 0, 0, 0, 0, [])]
def p45 : List (Nat × List PI) := [(0, p45_0)]
def p46_0 : List PI := [(0, 1, 2, 0, 0, 0, 0, []), (1, 1, 1, 1, 0, 0, 0, []), (2, 3, 37, 42, 2, 10, 0, [38, 82, 521, 523, 4]), (5, 1, 4, 2, 0, 0, 0, []), (6, 1, 2, 2, 0, 0, 0, []), (7, 3, 13, 0, 14, 0, 0, []), (10, 1, 0, 0, 0, 0, 0, []), (11, 3, 14, 0, 18, 0, 0, [])]
def p46_14 : List PI := [(14, 1, 2, 2, 0, 0, 0, []), (15, 3, 17, 7, 7, 51, 0, [447]), (18, 0, 45, 0, 18, 0, 0, [])]
def p46_18 : List PI := [(18, 1, 39, 0, 0, 0, 0, [])]
def p46 : List (Nat × List PI) := [(0, p46_0), (14, p46_14), (18, p46_18)]
def p47_0 : List PI := [(0, 1, 2, 0, 0, 0, 0, []), (1, 3, 18, 9, 1, 22, 0, [205]), (4, 1, 2, 0, 0, 0, 0, []), (5, 3, 18, 9, 0, 18, 0, [204]), (8, 3, 18, 2, 2, 75, 0, [115]), (11, 1, 2, 0, 0, 0, 0, []), (12, 1, 1, 1, 0, 0, 0, []), (13, 1, 0, 0, 0, 0, 1, []), (14, 1, 6, 1, 0, 0, 0, []), (15, 3, 35, 45, 2, 10, 0, [78, 82, 555, 556, 557]), (18, 1, 22, 0, 0, 0, 0, []), (19, 3, 35, 13, 2, 5, 0, [81, 81, 559, 560, 561]), (22, 1, 39, 0, 0, 0, 0, [])]
def p47 : List (Nat × List PI) := [(0, p47_0)]
def p48_0 : List PI := [(0, 1, 2, 0, 0, 0, 0, []), (1, 1, 1, 1, 0, 0, 0, []), (2, 3, 37, 42, 2, 10, 0, [38, 82, 521, 523, 4]), (5, 1, 4, 2, 0, 0, 0, []), (6, 1, 2, 2, 0, 0, 0, []), (7, 3, 13, 0, 14, 0, 0, []), (10, 1, 0, 0, 0, 0, 0, []), (11, 3, 14, 0, 24, 0, 0, [])]
def p48_14 : List PI := [(14, 1, 2, 2, 0, 0, 0, []), (15, 3, 35, 34, 1, 8, 0, [42, 89, 525, 526, 527]), (18, 1, 2, 0, 0, 0, 0, []), (19, 1, 1, 1, 0, 0, 0, []), (20, 3, 35, 47, 2, 10, 0, [84, 82, 551, 552, 553]), (23, 1, 6, 1, 0, 0, 0, []), (24, 0, 45, 0, 24, 0, 0, [])]
def p48_24 : List PI := [(24, 1, 39, 0, 0, 0, 0, [])]
def p48 : List (Nat × List PI) := [(0, p48_0), (14, p48_14), (24, p48_24)]
def p49_0 : List PI := [(0, 1, 2, 0, 0, 0, 0, []), (1, 3, 43, 0, 0, 3, 0, [98, 99, 100]), (4, 1, 2, 0, 0, 0, 0, []), (5, 3, 29, 2, 0, 9, 0, [101, 102, 78]), (8, 1, 32, 0, 0, 0, 0, []), (9, 3, 36, 8, 1, 3, 2, [11, 78, 103, 104]), (12, 3, 21, 10, 0, 12, 0, [308]), (15, 1, 2, 0, 0, 0, 0, []), (16, 3, 29, 1, 0, 16, 0, [128, 129, 79]), (19, 1, 32, 0, 0, 0, 0, []), (20, 3, 36, 4, 1, 2, 2, [18, 79, 130, 131]), (23, 3, 21, 10, 1, 19, 0, [309]), (26, 1, 2, 0, 0, 0, 0, []), (27, 1, 0, 0, 0, 0, 2, []), (28, 3, 31, 14, 0, 23, 0, [146, 147]), (31, 3, 21, 10, 2, 25, 0, [310]), (34, 1, 0, 0, 0, 0, 0, []), (35, 1, 3, 1, 0, 0, 0, []), (36, 0, 45, 0, 36, 0, 0, [])]
def p49_36 : List PI := [(36, 1, 1, 1, 0, 0, 0, []), (37, 1, 0, 0, 0, 0, 2, []), (38, 3, 11, 3, 60, 0, 0, []), (41, 1, 2, 0, 0, 0, 0, []), (42, 3, 18, 10, 2, 25, 0, [310]), (45, 1, 1, 1, 0, 0, 0, []), (46, 3, 29, 4, 0, 23, 0, [146, 148, 81]), (49, 1, 32, 0, 0, 0, 0, []), (50, 3, 36, 10, 1, 5, 2, [29, 81, 149, 150]), (53, 1, 26, 0, 0, 0, 0, []), (54, 3, 5, 1, 0, 0, 1, []), (57, 3, 14, 0, 36, 0, 0, [])]
def p49_60 : List PI := [(60, 1, 2, 0, 0, 0, 0, []), (61, 3, 29, 9, 0, 30, 0, [198, 199, 82]), (64, 1, 32, 0, 0, 0, 0, []), (65, 1, 2, 0, 0, 0, 0, []), (66, 3, 18, 10, 0, 12, 0, [308]), (69, 1, 2, 0, 0, 0, 0, []), (70, 3, 18, 10, 2, 25, 0, [310]), (73, 1, 0, 0, 0, 0, 0, []), (74, 1, 23, 0, 0, 0, 0, []), (75, 3, 36, 40, 3, 10, 2, [32, 82, 200, 201]), (78, 3, 21, 10, 3, 35, 0, [311]), (81, 1, 2, 0, 0, 0, 0, []), (82, 2, 0, 0, 0, 0, 120, []), (84, 3, 31, 17, 0, 39, 0, [221, 154]), (87, 3, 21, 10, 4, 41, 0, [312]), (90, 1, 2, 0, 0, 0, 0, []), (91, 2, 0, 0, 0, 0, 12, []), (93, 2, 30, 0, 0, 0, 0, [127]), (95, 3, 21, 10, 5, 45, 0, [313]), (98, 1, 2, 0, 0, 0, 0, []), (99, 2, 0, 0, 0, 0, 12, []), (101, 2, 30, 0, 0, 0, 0, [127]), (103, 3, 21, 10, 6, 49, 0, [314]), (106, 1, 2, 0, 0, 0, 0, []), (107, 2, 0, 0, 0, 0, 12, []), (109, 3, 31, 13, 0, 52, 0, [222, 223]), (112, 3, 21, 10, 7, 54, 0, [315]), (115, 1, 2, 0, 0, 0, 0, []), (116, 3, 29, 6, 0, 58, 0, [224, 225, 83]), (119, 1, 32, 0, 0, 0, 0, []), (120, 3, 36, 19, 1, 7, 2, [60, 83, 226, 227]), (123, 3, 21, 10, 8, 61, 0, [316]), (126, 1, 2, 0, 0, 0, 0, []), (127, 2, 0, 0, 0, 0, 80, []), (129, 2, 30, 0, 0, 0, 0, [127]), (131, 3, 21, 10, 9, 65, 0, [317]), (134, 1, 2, 0, 0, 0, 0, []), (135, 3, 29, 5, 0, 68, 0, [249, 250, 84]), (138, 1, 32, 0, 0, 0, 0, []), (139, 3, 36, 14, 1, 6, 2, [70, 84, 251, 252]), (142, 3, 21, 10, 10, 71, 0, [318]), (145, 1, 2, 0, 0, 0, 0, []), (146, 3, 29, 0, 0, 75, 0, [273, 274, 86]), (149, 1, 32, 0, 0, 0, 0, []), (150, 3, 36, 0, 1, 1, 2, [77, 86, 275, 276]), (153, 3, 21, 10, 11, 78, 0, [319]), (156, 1, 2, 0, 0, 0, 0, []), (157, 2, 0, 0, 0, 0, 6, []), (159, 3, 31, 18, 0, 82, 0, [288, 289]), (162, 3, 21, 10, 12, 84, 0, [320]), (165, 1, 0, 0, 0, 0, 0, []), (166, 1, 3, 1, 0, 0, 0, []), (167, 0, 45, 0, 167, 0, 0, [])]
def p49_167 : List PI := [(167, 1, 1, 1, 0, 0, 0, []), (168, 2, 0, 0, 0, 0, 6, []), (170, 3, 11, 3, 192, 0, 0, []), (173, 1, 2, 0, 0, 0, 0, []), (174, 3, 18, 10, 12, 84, 0, [320]), (177, 1, 1, 1, 0, 0, 0, []), (178, 3, 29, 8, 0, 82, 0, [288, 290, 87]), (181, 1, 32, 0, 0, 0, 0, []), (182, 3, 36, 35, 1, 9, 2, [88, 87, 291, 292]), (185, 1, 26, 0, 0, 0, 0, []), (186, 3, 5, 1, 0, 0, 1, []), (189, 3, 14, 0, 167, 0, 0, [])]
def p49_192 : List PI := [(192, 1, 38, 0, 0, 0, 0, [])]
def p49 : List (Nat × List PI) := [(0, p49_0), (36, p49_36), (60, p49_60), (167, p49_167), (192, p49_192)]
def p50_0 : List PI := [(0, 1, 1, 1, 0, 0, 0, []), (1, 1, 0, 0, 0, 0, 1, []), (2, 2, 0, 0, 0, 0, 20, []), (4, 3, 35, 93, 3, 0, 1, [89, 77, 367, 368]), (7, 3, 10, 0, 21, 0, 0, []), (10, 1, 2, 0, 0, 0, 0, []), (11, 3, 17, 10, 13, 93, 0, [321]), (14, 1, 1, 1, 0, 0, 0, []), (15, 1, 6, 0, 0, 0, 0, []), (16, 2, 0, 0, 0, 0, 99, []), (18, 3, 11, 5, 24, 0, 0, []), (21, 0, 45, 0, 21, 0, 0, [])]
def p50_21 : List PI := [(21, 2, 0, 0, 0, 0, -2, []), (23, 1, 39, 0, 0, 0, 0, [])]
def p50_24 : List PI := [(24, 1, 2, 0, 0, 0, 0, []), (25, 1, 32, 0, 0, 0, 0, []), (26, 3, 17, 10, 13, 93, 0, [321]), (29, 1, 1, 1, 0, 0, 0, []), (30, 1, 6, 0, 0, 0, 0, []), (31, 3, 19, 10, 13, 93, 0, [321]), (34, 1, 2, 0, 0, 0, 0, []), (35, 3, 17, 10, 13, 93, 0, [321]), (38, 1, 39, 0, 0, 0, 0, [])]
def p50 : List (Nat × List PI) := [(0, p50_0), (21, p50_21), (24, p50_24)]
def p51_0 : List PI := [(0, 1, 1, 1, 0, 0, 0, []), (1, 1, 0, 0, 0, 0, 0, []), (2, 2, 0, 0, 0, 0, 63, []), (4, 3, 35, 93, 3, 0, 1, [89, 77, 367, 368]), (7, 3, 10, 1, 12, 0, 0, []), (10, 1, 0, 0, 0, 0, -1, []), (11, 1, 39, 0, 0, 0, 0, [])]
def p51_12 : List PI := [(12, 1, 1, 2, 0, 0, 0, []), (13, 2, 0, 0, 0, 0, -30, []), (15, 2, 0, 0, 0, 0, 30, []), (17, 3, 35, 93, 3, 0, 1, [89, 77, 367, 368]), (20, 3, 10, 0, 34, 0, 0, []), (23, 1, 1, 3, 0, 0, 0, []), (24, 2, 0, 0, 0, 0, -30, []), (26, 2, 0, 0, 0, 0, 30, []), (28, 3, 35, 93, 3, 0, 1, [89, 77, 367, 368]), (31, 3, 10, 1, 37, 0, 0, []), (34, 0, 45, 0, 34, 0, 0, [])]
def p51_34 : List PI := [(34, 2, 0, 0, 0, 0, -2, []), (36, 1, 39, 0, 0, 0, 0, [])]
def p51_37 : List PI := [(37, 1, 2, 0, 0, 0, 0, []), (38, 3, 18, 10, 0, 12, 0, [308]), (41, 3, 18, 2, 0, 97, 0, [109]), (44, 1, 1, 1, 0, 0, 0, []), (45, 1, 1, 2, 0, 0, 0, []), (46, 1, 24, 0, 0, 0, 0, []), (47, 1, 2, 0, 0, 0, 0, []), (48, 3, 18, 10, 0, 12, 0, [308]), (51, 3, 18, 2, 1, 100, 0, [112]), (54, 1, 1, 1, 0, 0, 0, []), (55, 1, 1, 3, 0, 0, 0, []), (56, 1, 24, 0, 0, 0, 0, []), (57, 1, 0, 0, 0, 0, 1, []), (58, 1, 39, 0, 0, 0, 0, [])]
def p51 : List (Nat × List PI) := [(0, p51_0), (12, p51_12), (34, p51_34), (37, p51_37)]
def p52_0 : List PI := [(0, 1, 1, 1, 0, 0, 0, []), (1, 1, 0, 0, 0, 0, 0, []), (2, 2, 0, 0, 0, 0, 63, []), (4, 3, 35, 93, 3, 0, 1, [89, 77, 367, 368]), (7, 3, 10, 0, 19, 0, 0, []), (10, 1, 1, 2, 0, 0, 0, []), (11, 1, 0, 0, 0, 0, 0, []), (12, 1, 0, 0, 0, 0, 1, []), (13, 3, 35, 93, 3, 0, 1, [89, 77, 367, 368]), (16, 3, 10, 1, 21, 0, 0, []), (19, 0, 45, 0, 19, 0, 0, [])]
def p52_19 : List PI := [(19, 1, 0, 0, 0, 0, -1, []), (20, 1, 39, 0, 0, 0, 0, [])]
def p52_21 : List PI := [(21, 1, 1, 2, 0, 0, 0, []), (22, 3, 10, 1, 50, 0, 0, []), (25, 1, 1, 3, 0, 0, 0, []), (26, 1, 0, 0, 0, 0, 0, []), (27, 2, 0, 0, 0, 0, 9, []), (29, 3, 35, 93, 3, 0, 1, [89, 77, 367, 368]), (32, 3, 10, 1, 38, 0, 0, []), (35, 2, 0, 0, 0, 0, -2, []), (37, 1, 39, 0, 0, 0, 0, [])]
def p52_38 : List PI := [(38, 1, 2, 0, 0, 0, 0, []), (39, 3, 18, 10, 0, 12, 0, [308]), (42, 3, 18, 2, 2, 103, 0, [114]), (45, 1, 1, 1, 0, 0, 0, []), (46, 1, 1, 3, 0, 0, 0, []), (47, 1, 24, 0, 0, 0, 0, []), (48, 1, 0, 0, 0, 0, 1, []), (49, 1, 39, 0, 0, 0, 0, [])]
def p52_50 : List PI := [(50, 1, 1, 3, 0, 0, 0, []), (51, 2, 0, 0, 0, 0, -7, []), (53, 2, 0, 0, 0, 0, 8, []), (55, 3, 35, 93, 3, 0, 1, [89, 77, 367, 368]), (58, 3, 10, 1, 64, 0, 0, []), (61, 2, 0, 0, 0, 0, -2, []), (63, 1, 39, 0, 0, 0, 0, [])]
def p52_64 : List PI := [(64, 1, 2, 0, 0, 0, 0, []), (65, 3, 18, 10, 0, 12, 0, [308]), (68, 3, 18, 2, 3, 106, 0, [117]), (71, 1, 1, 1, 0, 0, 0, []), (72, 1, 1, 3, 0, 0, 0, []), (73, 1, 24, 0, 0, 0, 0, []), (74, 1, 0, 0, 0, 0, 1, []), (75, 1, 39, 0, 0, 0, 0, [])]
def p52 : List (Nat × List PI) := [(0, p52_0), (19, p52_19), (21, p52_21), (38, p52_38), (50, p52_50), (64, p52_64)]
def p53_0 : List PI := [(0, 1, 1, 1, 0, 0, 0, []), (1, 3, 35, 95, 1, 0, 1, [109, 77, 382, 383]), (4, 3, 10, 1, 9, 0, 0, []), (7, 1, 0, 0, 0, 0, -1, []), (8, 1, 39, 0, 0, 0, 0, [])]
def p53_9 : List PI := [(9, 1, 1, 2, 0, 0, 0, []), (10, 1, 0, 0, 0, 0, 0, []), (11, 3, 0, 0, 0, 0, 1500, []), (14, 3, 35, 93, 3, 0, 1, [89, 77, 367, 368]), (17, 3, 10, 1, 23, 0, 0, []), (20, 2, 0, 0, 0, 0, -2, []), (22, 1, 39, 0, 0, 0, 0, [])]
def p53_23 : List PI := [(23, 1, 2, 0, 0, 0, 0, []), (24, 3, 18, 10, 1, 19, 0, [309]), (27, 3, 18, 1, 0, 113, 0, [138]), (30, 1, 1, 1, 0, 0, 0, []), (31, 1, 22, 0, 0, 0, 0, []), (32, 1, 3, 3, 0, 0, 0, []), (33, 1, 2, 0, 0, 0, 0, []), (34, 3, 18, 10, 1, 19, 0, [309]), (37, 3, 18, 1, 0, 113, 0, [138]), (40, 1, 1, 1, 0, 0, 0, []), (41, 1, 1, 2, 0, 0, 0, []), (42, 1, 24, 0, 0, 0, 0, []), (43, 1, 1, 3, 0, 0, 0, []), (44, 1, 39, 0, 0, 0, 0, [])]
def p53 : List (Nat × List PI) := [(0, p53_0), (9, p53_9), (23, p53_23)]
def p54_0 : List PI := [(0, 1, 1, 1, 0, 0, 0, []), (1, 1, 0, 0, 0, 0, 1, []), (2, 2, 0, 0, 0, 0, 20, []), (4, 3, 35, 93, 3, 0, 1, [89, 77, 367, 368]), (7, 3, 10, 0, 20, 0, 0, []), (10, 1, 1, 2, 0, 0, 0, []), (11, 1, 0, 0, 0, 0, 0, []), (12, 2, 0, 0, 0, 0, 9, []), (14, 3, 35, 93, 3, 0, 1, [89, 77, 367, 368]), (17, 3, 10, 1, 23, 0, 0, []), (20, 0, 45, 0, 20, 0, 0, [])]
def p54_20 : List PI := [(20, 2, 0, 0, 0, 0, -2, []), (22, 1, 39, 0, 0, 0, 0, [])]
def p54_23 : List PI := [(23, 1, 2, 0, 0, 0, 0, []), (24, 3, 17, 10, 14, 116, 0, [322]), (27, 2, 0, 0, 0, 0, 12, []), (29, 3, 11, 2, 35, 0, 0, []), (32, 2, 0, 0, 0, 0, -4, []), (34, 1, 39, 0, 0, 0, 0, [])]
def p54_35 : List PI := [(35, 1, 2, 0, 0, 0, 0, []), (36, 3, 18, 10, 5, 45, 0, [313]), (39, 1, 2, 0, 0, 0, 0, []), (40, 3, 17, 10, 14, 116, 0, [322]), (43, 1, 1, 1, 0, 0, 0, []), (44, 1, 24, 0, 0, 0, 0, []), (45, 1, 2, 0, 0, 0, 0, []), (46, 3, 18, 10, 6, 49, 0, [314]), (49, 1, 2, 0, 0, 0, 0, []), (50, 3, 17, 10, 14, 116, 0, [322]), (53, 1, 1, 2, 0, 0, 0, []), (54, 1, 24, 0, 0, 0, 0, []), (55, 1, 2, 0, 0, 0, 0, []), (56, 1, 32, 0, 0, 0, 0, []), (57, 3, 17, 10, 14, 116, 0, [322]), (60, 1, 0, 0, 0, 0, 1, []), (61, 1, 6, 0, 0, 0, 0, []), (62, 3, 19, 10, 14, 116, 0, [322]), (65, 1, 2, 0, 0, 0, 0, []), (66, 3, 17, 10, 14, 116, 0, [322]), (69, 1, 0, 0, 0, 0, 1, []), (70, 1, 6, 1, 0, 0, 0, []), (71, 1, 39, 0, 0, 0, 0, [])]
def p54 : List (Nat × List PI) := [(0, p54_0), (20, p54_20), (23, p54_23), (35, p54_35)]
def p55_0 : List PI := [(0, 1, 1, 1, 0, 0, 0, []), (1, 3, 35, 94, 1, 0, 1, [119, 77, 393, 394]), (4, 3, 10, 1, 9, 0, 0, []), (7, 1, 0, 0, 0, 0, -1, []), (8, 1, 39, 0, 0, 0, 0, [])]
def p55_9 : List PI := [(9, 1, 1, 2, 0, 0, 0, []), (10, 1, 0, 0, 0, 0, 0, []), (11, 1, 0, 0, 0, 0, 1, []), (12, 1, 2, 0, 0, 0, 0, []), (13, 3, 17, 10, 14, 116, 0, [322]), (16, 1, 6, 6, 0, 0, 0, []), (17, 1, 0, 0, 0, 0, 1, []), (18, 1, 6, 1, 0, 0, 0, []), (19, 3, 35, 93, 3, 0, 1, [89, 77, 367, 368]), (22, 3, 10, 0, 47, 0, 0, []), (25, 1, 1, 3, 0, 0, 0, []), (26, 1, 0, 0, 0, 0, 0, []), (27, 2, 0, 0, 0, 0, 99, []), (29, 3, 35, 93, 3, 0, 1, [89, 77, 367, 368]), (32, 3, 10, 0, 47, 0, 0, []), (35, 2, 1, 4, 0, 0, 0, []), (37, 1, 0, 0, 0, 0, 0, []), (38, 3, 0, 0, 0, 0, 9999, []), (41, 3, 35, 93, 3, 0, 1, [89, 77, 367, 368]), (44, 3, 10, 1, 50, 0, 0, []), (47, 0, 45, 0, 47, 0, 0, [])]
def p55_47 : List PI := [(47, 2, 0, 0, 0, 0, -2, []), (49, 1, 39, 0, 0, 0, 0, [])]
def p55_50 : List PI := [(50, 1, 2, 0, 0, 0, 0, []), (51, 3, 18, 10, 2, 25, 0, [310]), (54, 1, 1, 1, 0, 0, 0, []), (55, 1, 23, 0, 0, 0, 0, []), (56, 2, 4, 5, 0, 0, 0, []), (58, 2, 2, 5, 0, 0, 0, []), (60, 1, 2, 0, 0, 0, 0, []), (61, 1, 2, 0, 0, 0, 0, []), (62, 3, 18, 10, 5, 45, 0, [313]), (65, 1, 1, 2, 0, 0, 0, []), (66, 3, 35, 109, 3, 11, 0, [122, 77, 396, 398, 0]), (69, 3, 19, 4, 0, 126, 0, [156]), (72, 2, 2, 5, 0, 0, 0, []), (74, 1, 2, 0, 0, 0, 0, []), (75, 1, 2, 0, 0, 0, 0, []), (76, 3, 18, 10, 6, 49, 0, [314]), (79, 1, 1, 2, 0, 0, 0, []), (80, 3, 35, 109, 3, 11, 0, [122, 77, 396, 398, 0]), (83, 3, 19, 4, 1, 129, 0, [157]), (86, 2, 2, 5, 0, 0, 0, []), (88, 1, 1, 3, 0, 0, 0, []), (89, 3, 19, 4, 2, 132, 0, [159]), (92, 2, 2, 5, 0, 0, 0, []), (94, 2, 1, 4, 0, 0, 0, []), (96, 3, 19, 4, 3, 135, 0, [161]), (99, 1, 0, 0, 0, 0, 1, []), (100, 1, 39, 0, 0, 0, 0, [])]
def p55 : List (Nat × List PI) := [(0, p55_0), (9, p55_9), (47, p55_47), (50, p55_50)]
def p56_0 : List PI := [(0, 1, 1, 1, 0, 0, 0, []), (1, 3, 35, 94, 1, 0, 1, [119, 77, 393, 394]), (4, 3, 10, 1, 9, 0, 0, []), (7, 1, 0, 0, 0, 0, -1, []), (8, 1, 39, 0, 0, 0, 0, [])]
def p56_9 : List PI := [(9, 1, 1, 2, 0, 0, 0, []), (10, 1, 1, 3, 0, 0, 0, []), (11, 3, 35, 97, 2, 0, 1, [138, 77, 404, 405]), (14, 3, 10, 1, 20, 0, 0, []), (17, 2, 0, 0, 0, 0, -2, []), (19, 1, 39, 0, 0, 0, 0, [])]
def p56_20 : List PI := [(20, 1, 2, 0, 0, 0, 0, []), (21, 3, 18, 10, 2, 25, 0, [310]), (24, 1, 1, 1, 0, 0, 0, []), (25, 1, 23, 0, 0, 0, 0, []), (26, 1, 1, 2, 0, 0, 0, []), (27, 3, 19, 4, 4, 142, 0, [164]), (30, 1, 2, 0, 0, 0, 0, []), (31, 3, 18, 10, 2, 25, 0, [310]), (34, 1, 1, 1, 0, 0, 0, []), (35, 1, 23, 0, 0, 0, 0, []), (36, 1, 1, 3, 0, 0, 0, []), (37, 3, 19, 4, 5, 145, 0, [167]), (40, 1, 0, 0, 0, 0, 1, []), (41, 1, 39, 0, 0, 0, 0, [])]
def p56 : List (Nat × List PI) := [(0, p56_0), (9, p56_9), (20, p56_20)]
def p57_0 : List PI := [(0, 1, 1, 1, 0, 0, 0, []), (1, 3, 35, 94, 1, 0, 1, [119, 77, 393, 394]), (4, 3, 10, 1, 9, 0, 0, []), (7, 1, 0, 0, 0, 0, -1, []), (8, 1, 39, 0, 0, 0, 0, [])]
def p57_9 : List PI := [(9, 2, 1, 4, 0, 0, 0, []), (11, 1, 0, 0, 0, 0, -1, []), (12, 3, 0, 0, 0, 0, 199, []), (15, 3, 35, 93, 3, 0, 1, [89, 77, 367, 368]), (18, 3, 10, 1, 24, 0, 0, []), (21, 2, 0, 0, 0, 0, -2, []), (23, 1, 39, 0, 0, 0, 0, [])]
def p57_24 : List PI := [(24, 2, 1, 4, 0, 0, 0, []), (26, 3, 10, 2, 40, 0, 0, []), (29, 1, 1, 2, 0, 0, 0, []), (30, 1, 1, 3, 0, 0, 0, []), (31, 3, 35, 97, 2, 0, 1, [138, 77, 404, 405]), (34, 3, 10, 1, 40, 0, 0, []), (37, 2, 0, 0, 0, 0, -2, []), (39, 1, 39, 0, 0, 0, 0, [])]
def p57_40 : List PI := [(40, 1, 2, 0, 0, 0, 0, []), (41, 3, 18, 10, 2, 25, 0, [310]), (44, 1, 1, 1, 0, 0, 0, []), (45, 1, 23, 0, 0, 0, 0, []), (46, 2, 4, 5, 0, 0, 0, []), (48, 2, 2, 5, 0, 0, 0, []), (50, 2, 1, 4, 0, 0, 0, []), (52, 3, 19, 4, 8, 148, 0, [173]), (55, 2, 1, 4, 0, 0, 0, []), (57, 3, 10, 2, 72, 0, 0, []), (60, 2, 2, 5, 0, 0, 0, []), (62, 1, 1, 2, 0, 0, 0, []), (63, 3, 19, 4, 6, 151, 0, [169]), (66, 2, 2, 5, 0, 0, 0, []), (68, 1, 1, 3, 0, 0, 0, []), (69, 3, 19, 4, 7, 154, 0, [171]), (72, 0, 45, 0, 72, 0, 0, [])]
def p57_72 : List PI := [(72, 1, 0, 0, 0, 0, 1, []), (73, 1, 39, 0, 0, 0, 0, [])]
def p57 : List (Nat × List PI) := [(0, p57_0), (9, p57_9), (24, p57_24), (40, p57_40), (72, p57_72)]
def p58_0 : List PI := [(0, 1, 1, 1, 0, 0, 0, []), (1, 3, 35, 94, 1, 0, 1, [119, 77, 393, 394]), (4, 3, 10, 0, 14, 0, 0, []), (7, 1, 1, 2, 0, 0, 0, []), (8, 3, 35, 95, 1, 0, 1, [109, 77, 382, 383]), (11, 3, 10, 1, 16, 0, 0, []), (14, 0, 45, 0, 14, 0, 0, [])]
def p58_14 : List PI := [(14, 1, 0, 0, 0, 0, -1, []), (15, 1, 39, 0, 0, 0, 0, [])]
def p58_16 : List PI := [(16, 1, 1, 3, 0, 0, 0, []), (17, 1, 0, 0, 0, 0, 0, []), (18, 2, 0, 0, 0, 0, 24, []), (20, 3, 35, 93, 3, 0, 1, [89, 77, 367, 368]), (23, 3, 10, 0, 48, 0, 0, []), (26, 2, 1, 4, 0, 0, 0, []), (28, 1, 0, 0, 0, 0, 0, []), (29, 2, 0, 0, 0, 0, 60, []), (31, 3, 35, 93, 3, 0, 1, [89, 77, 367, 368]), (34, 3, 10, 0, 48, 0, 0, []), (37, 2, 1, 5, 0, 0, 0, []), (39, 1, 0, 0, 0, 0, 0, []), (40, 2, 0, 0, 0, 0, 15, []), (42, 3, 35, 93, 3, 0, 1, [89, 77, 367, 368]), (45, 3, 10, 1, 51, 0, 0, []), (48, 0, 45, 0, 48, 0, 0, [])]
def p58_48 : List PI := [(48, 2, 0, 0, 0, 0, -2, []), (50, 1, 39, 0, 0, 0, 0, [])]
def p58_51 : List PI := [(51, 1, 2, 0, 0, 0, 0, []), (52, 3, 18, 10, 2, 25, 0, [310]), (55, 1, 1, 1, 0, 0, 0, []), (56, 1, 23, 0, 0, 0, 0, []), (57, 3, 18, 4, 9, 157, 0, [176]), (60, 1, 1, 2, 0, 0, 0, []), (61, 1, 23, 0, 0, 0, 0, []), (62, 3, 12, 0, 68, 0, 0, []), (65, 2, 0, 0, 0, 0, -3, []), (67, 1, 39, 0, 0, 0, 0, [])]
def p58_68 : List PI := [(68, 1, 2, 0, 0, 0, 0, []), (69, 3, 17, 10, 15, 160, 0, [323]), (72, 2, 0, 0, 0, 0, 120, []), (74, 3, 11, 2, 80, 0, 0, []), (77, 2, 0, 0, 0, 0, -4, []), (79, 1, 39, 0, 0, 0, 0, [])]
def p58_80 : List PI := [(80, 1, 2, 0, 0, 0, 0, []), (81, 1, 1, 1, 0, 0, 0, []), (82, 1, 1, 2, 0, 0, 0, []), (83, 1, 0, 0, 0, 0, 1, []), (84, 3, 37, 107, 4, 11, 0, [163, 77, 415, 417, 1]), (87, 2, 4, 6, 0, 0, 0, []), (89, 2, 2, 6, 0, 0, 0, []), (91, 1, 1, 3, 0, 0, 0, []), (92, 3, 19, 7, 5, 167, 0, [443]), (95, 2, 2, 6, 0, 0, 0, []), (97, 2, 1, 4, 0, 0, 0, []), (99, 3, 19, 7, 6, 170, 0, [445]), (102, 2, 2, 6, 0, 0, 0, []), (104, 2, 1, 5, 0, 0, 0, []), (106, 3, 19, 7, 7, 173, 0, [448]), (109, 1, 2, 0, 0, 0, 0, []), (110, 3, 18, 10, 2, 25, 0, [310]), (113, 1, 1, 1, 0, 0, 0, []), (114, 1, 23, 0, 0, 0, 0, []), (115, 3, 18, 4, 9, 157, 0, [176]), (118, 1, 1, 2, 0, 0, 0, []), (119, 2, 2, 6, 0, 0, 0, []), (121, 1, 26, 0, 0, 0, 0, []), (122, 2, 2, 6, 0, 0, 0, []), (124, 3, 17, 7, 0, 176, 0, [427]), (127, 1, 39, 0, 0, 0, 0, [])]
def p58 : List (Nat × List PI) := [(0, p58_0), (14, p58_14), (16, p58_16), (48, p58_48), (51, p58_51), (68, p58_68), (80, p58_80)]
def p59_0 : List PI := [(0, 1, 1, 1, 0, 0, 0, []), (1, 3, 35, 94, 1, 0, 1, [119, 77, 393, 394]), (4, 3, 10, 0, 14, 0, 0, []), (7, 1, 1, 2, 0, 0, 0, []), (8, 3, 35, 95, 1, 0, 1, [109, 77, 382, 383]), (11, 3, 10, 1, 16, 0, 0, []), (14, 0, 45, 0, 14, 0, 0, [])]
def p59_14 : List PI := [(14, 1, 0, 0, 0, 0, -1, []), (15, 1, 39, 0, 0, 0, 0, [])]
def p59_16 : List PI := [(16, 1, 1, 3, 0, 0, 0, []), (17, 3, 35, 98, 1, 0, 1, [179, 77, 474, 475]), (20, 3, 10, 0, 34, 0, 0, []), (23, 2, 1, 4, 0, 0, 0, []), (25, 1, 0, 0, 0, 0, 0, []), (26, 2, 0, 0, 0, 0, 60, []), (28, 3, 35, 93, 3, 0, 1, [89, 77, 367, 368]), (31, 3, 10, 1, 37, 0, 0, []), (34, 0, 45, 0, 34, 0, 0, [])]
def p59_34 : List PI := [(34, 2, 0, 0, 0, 0, -2, []), (36, 1, 39, 0, 0, 0, 0, [])]
def p59_37 : List PI := [(37, 1, 2, 0, 0, 0, 0, []), (38, 3, 17, 10, 15, 160, 0, [323]), (41, 2, 0, 0, 0, 0, 120, []), (43, 3, 11, 2, 49, 0, 0, []), (46, 2, 0, 0, 0, 0, -4, []), (48, 1, 39, 0, 0, 0, 0, [])]
def p59_49 : List PI := [(49, 1, 2, 0, 0, 0, 0, []), (50, 1, 1, 1, 0, 0, 0, []), (51, 1, 1, 2, 0, 0, 0, []), (52, 2, 1, 5, 0, 0, 0, []), (54, 3, 10, 0, 62, 0, 0, []), (57, 2, 0, 0, 0, 0, 6, []), (59, 3, 14, 0, 63, 0, 0, [])]
def p59_62 : List PI := [(62, 1, 0, 0, 0, 0, 2, []), (63, 0, 45, 0, 63, 0, 0, [])]
def p59_63 : List PI := [(63, 1, 1, 3, 0, 0, 0, []), (64, 2, 1, 4, 0, 0, 0, []), (66, 3, 35, 108, 6, 11, 0, [182, 77, 477, 479, 2]), (69, 1, 39, 0, 0, 0, 0, [])]
def p59 : List (Nat × List PI) := [(0, p59_0), (14, p59_14), (16, p59_16), (34, p59_34), (37, p59_37), (49, p59_49), (62, p59_62), (63, p59_63)]
def p60_0 : List PI := [(0, 1, 1, 1, 0, 0, 0, []), (1, 3, 35, 94, 1, 0, 1, [119, 77, 393, 394]), (4, 3, 10, 0, 14, 0, 0, []), (7, 1, 1, 2, 0, 0, 0, []), (8, 3, 35, 95, 1, 0, 1, [109, 77, 382, 383]), (11, 3, 10, 1, 16, 0, 0, []), (14, 0, 45, 0, 14, 0, 0, [])]
def p60_14 : List PI := [(14, 1, 0, 0, 0, 0, -1, []), (15, 1, 39, 0, 0, 0, 0, [])]
def p60_16 : List PI := [(16, 1, 1, 3, 0, 0, 0, []), (17, 1, 0, 0, 0, 0, 0, []), (18, 2, 0, 0, 0, 0, 15, []), (20, 3, 35, 93, 3, 0, 1, [89, 77, 367, 368]), (23, 3, 10, 1, 29, 0, 0, []), (26, 2, 0, 0, 0, 0, -2, []), (28, 1, 39, 0, 0, 0, 0, [])]
def p60_29 : List PI := [(29, 1, 2, 0, 0, 0, 0, []), (30, 3, 17, 10, 15, 160, 0, [323]), (33, 2, 0, 0, 0, 0, 120, []), (35, 3, 11, 2, 41, 0, 0, []), (38, 2, 0, 0, 0, 0, -4, []), (40, 1, 39, 0, 0, 0, 0, [])]
def p60_41 : List PI := [(41, 1, 2, 0, 0, 0, 0, []), (42, 1, 1, 1, 0, 0, 0, []), (43, 1, 1, 2, 0, 0, 0, []), (44, 1, 0, 0, 0, 0, 3, []), (45, 3, 37, 107, 4, 11, 0, [163, 77, 415, 417, 1]), (48, 2, 4, 4, 0, 0, 0, []), (50, 2, 2, 4, 0, 0, 0, []), (52, 1, 1, 3, 0, 0, 0, []), (53, 3, 19, 7, 5, 167, 0, [443]), (56, 2, 2, 4, 0, 0, 0, []), (58, 3, 17, 7, 0, 176, 0, [427]), (61, 1, 39, 0, 0, 0, 0, [])]
def p60 : List (Nat × List PI) := [(0, p60_0), (14, p60_14), (16, p60_16), (29, p60_29), (41, p60_41)]
def p61_0 : List PI := [(0, 1, 1, 1, 0, 0, 0, []), (1, 3, 35, 94, 1, 0, 1, [119, 77, 393, 394]), (4, 3, 10, 0, 14, 0, 0, []), (7, 1, 1, 2, 0, 0, 0, []), (8, 3, 35, 95, 1, 0, 1, [109, 77, 382, 383]), (11, 3, 10, 1, 16, 0, 0, []), (14, 0, 45, 0, 14, 0, 0, [])]
def p61_14 : List PI := [(14, 1, 0, 0, 0, 0, -1, []), (15, 1, 39, 0, 0, 0, 0, [])]
def p61_16 : List PI := [(16, 1, 1, 3, 0, 0, 0, []), (17, 1, 0, 0, 0, 0, 1, []), (18, 3, 0, 0, 0, 0, 999, []), (21, 3, 35, 93, 3, 0, 1, [89, 77, 367, 368]), (24, 3, 10, 0, 50, 0, 0, []), (27, 2, 1, 4, 0, 0, 0, []), (29, 1, 0, 0, 0, 0, 1, []), (30, 3, 0, 0, 0, 0, 999, []), (33, 3, 35, 93, 3, 0, 1, [89, 77, 367, 368]), (36, 3, 10, 0, 50, 0, 0, []), (39, 2, 1, 5, 0, 0, 0, []), (41, 1, 0, 0, 0, 0, 0, []), (42, 2, 0, 0, 0, 0, 9, []), (44, 3, 35, 93, 3, 0, 1, [89, 77, 367, 368]), (47, 3, 10, 1, 53, 0, 0, []), (50, 0, 45, 0, 50, 0, 0, [])]
def p61_50 : List PI := [(50, 2, 0, 0, 0, 0, -2, []), (52, 1, 39, 0, 0, 0, 0, [])]
def p61_53 : List PI := [(53, 1, 2, 0, 0, 0, 0, []), (54, 3, 17, 10, 15, 160, 0, [323]), (57, 2, 0, 0, 0, 0, 120, []), (59, 3, 11, 2, 65, 0, 0, []), (62, 2, 0, 0, 0, 0, -4, []), (64, 1, 39, 0, 0, 0, 0, [])]
def p61_65 : List PI := [(65, 1, 2, 0, 0, 0, 0, []), (66, 1, 1, 1, 0, 0, 0, []), (67, 1, 1, 2, 0, 0, 0, []), (68, 1, 0, 0, 0, 0, 4, []), (69, 3, 37, 107, 4, 11, 0, [163, 77, 415, 417, 1]), (72, 2, 4, 6, 0, 0, 0, []), (74, 2, 2, 6, 0, 0, 0, []), (76, 1, 1, 3, 0, 0, 0, []), (77, 3, 19, 7, 5, 167, 0, [443]), (80, 2, 2, 6, 0, 0, 0, []), (82, 2, 1, 4, 0, 0, 0, []), (84, 3, 19, 7, 6, 170, 0, [445]), (87, 2, 2, 6, 0, 0, 0, []), (89, 2, 1, 5, 0, 0, 0, []), (91, 3, 19, 7, 7, 173, 0, [448]), (94, 2, 2, 6, 0, 0, 0, []), (96, 3, 17, 7, 0, 176, 0, [427]), (99, 1, 39, 0, 0, 0, 0, [])]
def p61 : List (Nat × List PI) := [(0, p61_0), (14, p61_14), (16, p61_16), (50, p61_50), (53, p61_53), (65, p61_65)]
def p62_0 : List PI := [(0, 1, 1, 1, 0, 0, 0, []), (1, 3, 35, 94, 1, 0, 1, [119, 77, 393, 394]), (4, 3, 10, 0, 28, 0, 0, []), (7, 1, 1, 2, 0, 0, 0, []), (8, 3, 35, 95, 1, 0, 1, [109, 77, 382, 383]), (11, 3, 10, 0, 28, 0, 0, []), (14, 1, 1, 3, 0, 0, 0, []), (15, 1, 0, 0, 0, 0, 0, []), (16, 1, 2, 0, 0, 0, 0, []), (17, 3, 17, 10, 14, 116, 0, [322]), (20, 1, 0, 0, 0, 0, 1, []), (21, 1, 6, 1, 0, 0, 0, []), (22, 3, 35, 93, 3, 0, 1, [89, 77, 367, 368]), (25, 3, 10, 1, 30, 0, 0, []), (28, 0, 45, 0, 28, 0, 0, [])]
def p62_28 : List PI := [(28, 1, 0, 0, 0, 0, -1, []), (29, 1, 39, 0, 0, 0, 0, [])]
def p62_30 : List PI := [(30, 2, 1, 4, 0, 0, 0, []), (32, 2, 1, 5, 0, 0, 0, []), (34, 3, 35, 97, 2, 0, 1, [138, 77, 404, 405]), (37, 3, 10, 0, 52, 0, 0, []), (40, 2, 1, 6, 0, 0, 0, []), (42, 1, 0, 0, 0, 0, 0, []), (43, 3, 0, 0, 0, 0, 200, []), (46, 3, 35, 93, 3, 0, 1, [89, 77, 367, 368]), (49, 3, 10, 1, 55, 0, 0, []), (52, 0, 45, 0, 52, 0, 0, [])]
def p62_52 : List PI := [(52, 2, 0, 0, 0, 0, -2, []), (54, 1, 39, 0, 0, 0, 0, [])]
def p62_55 : List PI := [(55, 1, 2, 0, 0, 0, 0, []), (56, 3, 17, 10, 15, 160, 0, [323]), (59, 2, 0, 0, 0, 0, 120, []), (61, 3, 11, 2, 67, 0, 0, []), (64, 2, 0, 0, 0, 0, -4, []), (66, 1, 39, 0, 0, 0, 0, [])]
def p62_67 : List PI := [(67, 1, 2, 0, 0, 0, 0, []), (68, 1, 1, 1, 0, 0, 0, []), (69, 1, 1, 2, 0, 0, 0, []), (70, 1, 0, 0, 0, 0, 5, []), (71, 3, 37, 107, 4, 11, 0, [163, 77, 415, 417, 1]), (74, 2, 4, 7, 0, 0, 0, []), (76, 2, 2, 7, 0, 0, 0, []), (78, 1, 1, 3, 0, 0, 0, []), (79, 3, 19, 7, 5, 167, 0, [443]), (82, 2, 2, 7, 0, 0, 0, []), (84, 2, 1, 4, 0, 0, 0, []), (86, 3, 19, 7, 6, 170, 0, [445]), (89, 2, 2, 7, 0, 0, 0, []), (91, 2, 1, 5, 0, 0, 0, []), (93, 3, 19, 7, 7, 173, 0, [448]), (96, 2, 2, 7, 0, 0, 0, []), (98, 2, 1, 6, 0, 0, 0, []), (100, 3, 19, 7, 8, 186, 0, [450]), (103, 2, 2, 7, 0, 0, 0, []), (105, 3, 17, 7, 0, 176, 0, [427]), (108, 1, 39, 0, 0, 0, 0, [])]
def p62 : List (Nat × List PI) := [(0, p62_0), (28, p62_28), (30, p62_30), (52, p62_52), (55, p62_55), (67, p62_67)]
def p63_0 : List PI := [(0, 1, 1, 1, 0, 0, 0, []), (1, 3, 35, 94, 1, 0, 1, [119, 77, 393, 394]), (4, 3, 10, 0, 21, 0, 0, []), (7, 1, 1, 2, 0, 0, 0, []), (8, 3, 35, 95, 1, 0, 1, [109, 77, 382, 383]), (11, 3, 10, 0, 21, 0, 0, []), (14, 1, 1, 3, 0, 0, 0, []), (15, 3, 35, 101, 1, 0, 1, [189, 77, 497, 498]), (18, 3, 10, 1, 23, 0, 0, []), (21, 0, 45, 0, 21, 0, 0, [])]
def p63_21 : List PI := [(21, 1, 0, 0, 0, 0, -1, []), (22, 1, 39, 0, 0, 0, 0, [])]
def p63_23 : List PI := [(23, 2, 1, 5, 0, 0, 0, []), (25, 1, 0, 0, 0, 0, 1, []), (26, 2, 0, 0, 0, 0, 40, []), (28, 3, 35, 93, 3, 0, 1, [89, 77, 367, 368]), (31, 3, 10, 0, 45, 0, 0, []), (34, 2, 1, 6, 0, 0, 0, []), (36, 1, 0, 0, 0, 0, 0, []), (37, 2, 0, 0, 0, 0, 60, []), (39, 3, 35, 93, 3, 0, 1, [89, 77, 367, 368]), (42, 3, 10, 1, 48, 0, 0, []), (45, 0, 45, 0, 45, 0, 0, [])]
def p63_45 : List PI := [(45, 2, 0, 0, 0, 0, -2, []), (47, 1, 39, 0, 0, 0, 0, [])]
def p63_48 : List PI := [(48, 1, 2, 0, 0, 0, 0, []), (49, 3, 18, 10, 12, 84, 0, [320]), (52, 1, 1, 3, 0, 0, 0, []), (53, 1, 23, 0, 0, 0, 0, []), (54, 2, 4, 7, 0, 0, 0, []), (56, 2, 2, 7, 0, 0, 0, []), (58, 3, 17, 8, 0, 192, 0, [296]), (61, 1, 0, 0, 0, 0, -1, []), (62, 3, 11, 1, 67, 0, 0, []), (65, 1, 0, 0, 0, 0, 0, []), (66, 1, 39, 0, 0, 0, 0, [])]
def p63_67 : List PI := [(67, 2, 2, 7, 0, 0, 0, []), (69, 3, 17, 8, 0, 192, 0, [296]), (72, 1, 0, 0, 0, 0, 1, []), (73, 3, 11, 0, 79, 0, 0, []), (76, 2, 0, 0, 0, 0, -12, []), (78, 1, 39, 0, 0, 0, 0, [])]
def p63_79 : List PI := [(79, 1, 0, 0, 0, 0, 0, []), (80, 2, 3, 8, 0, 0, 0, []), (82, 1, 0, 0, 0, 0, 0, []), (83, 2, 3, 9, 0, 0, 0, []), (85, 0, 45, 0, 85, 0, 0, [])]
def p63_85 : List PI := [(85, 2, 1, 9, 0, 0, 0, []), (87, 2, 1, 5, 0, 0, 0, []), (89, 3, 11, 3, 181, 0, 0, []), (92, 2, 2, 7, 0, 0, 0, []), (94, 2, 1, 4, 0, 0, 0, []), (96, 2, 1, 9, 0, 0, 0, []), (98, 1, 6, 0, 0, 0, 0, []), (99, 3, 35, 37, 2, 9, 0, [195, 87, 500, 501, 502]), (102, 3, 10, 0, 181, 0, 0, []), (105, 1, 1, 2, 0, 0, 0, []), (106, 2, 1, 9, 0, 0, 0, []), (108, 1, 6, 0, 0, 0, 0, []), (109, 3, 35, 95, 1, 0, 1, [109, 77, 382, 383]), (112, 3, 10, 0, 181, 0, 0, []), (115, 2, 2, 7, 0, 0, 0, []), (117, 3, 18, 8, 2, 198, 0, [300]), (120, 2, 1, 4, 0, 0, 0, []), (122, 2, 1, 9, 0, 0, 0, []), (124, 1, 6, 0, 0, 0, 0, []), (125, 1, 22, 0, 0, 0, 0, []), (126, 2, 3, 10, 0, 0, 0, []), (128, 2, 1, 10, 0, 0, 0, []), (130, 1, 0, 0, 0, 0, -1, []), (131, 3, 11, 1, 137, 0, 0, []), (134, 3, 14, 0, 175, 0, 0, [])]
def p63_137 : List PI := [(137, 2, 1, 10, 0, 0, 0, []), (139, 3, 35, 98, 1, 0, 1, [179, 77, 474, 475]), (142, 3, 10, 0, 181, 0, 0, []), (145, 1, 2, 0, 0, 0, 0, []), (146, 3, 17, 10, 15, 160, 0, [323]), (149, 2, 0, 0, 0, 0, 120, []), (151, 3, 11, 2, 157, 0, 0, []), (154, 3, 14, 0, 181, 0, 0, [])]
def p63_157 : List PI := [(157, 1, 2, 0, 0, 0, 0, []), (158, 1, 1, 1, 0, 0, 0, []), (159, 1, 1, 2, 0, 0, 0, []), (160, 2, 1, 9, 0, 0, 0, []), (162, 1, 6, 0, 0, 0, 0, []), (163, 1, 0, 0, 0, 0, 2, []), (164, 2, 1, 10, 0, 0, 0, []), (166, 2, 1, 6, 0, 0, 0, []), (168, 3, 35, 108, 6, 11, 0, [182, 77, 477, 479, 2]), (171, 1, 34, 0, 0, 0, 0, []), (172, 3, 5, 8, 0, 0, 1, []), (175, 0, 45, 0, 175, 0, 0, [])]
def p63_175 : List PI := [(175, 3, 5, 9, 0, 0, 1, []), (178, 3, 14, 0, 85, 0, 0, [])]
def p63_181 : List PI := [(181, 2, 1, 8, 0, 0, 0, []), (183, 1, 39, 0, 0, 0, 0, [])]
def p63 : List (Nat × List PI) := [(0, p63_0), (21, p63_21), (23, p63_23), (45, p63_45), (48, p63_48), (67, p63_67), (79, p63_79), (85, p63_85), (137, p63_137), (157, p63_157), (175, p63_175), (181, p63_181)]
def p64_0 : List PI := [(0, 1, 2, 0, 0, 0, 0, []), (1, 1, 1, 1, 0, 0, 0, []), (2, 3, 35, 102, 2, 11, 0, [201, 77, 508, 510, 3]), (5, 3, 10, 1, 11, 0, 0, []), (8, 2, 0, 0, 512, 204, -1000000000, []), (10, 1, 39, 0, 0, 0, 0, [])]
def p64_11 : List PI := [(11, 1, 2, 0, 0, 0, 0, []), (12, 3, 18, 10, 4, 41, 0, [312]), (15, 1, 1, 1, 0, 0, 0, []), (16, 1, 23, 0, 0, 0, 0, []), (17, 1, 4, 3, 0, 0, 0, []), (18, 1, 1, 2, 0, 0, 0, []), (19, 45, 15, 0, 104, 0, 0, [64, 69, 74, 79, 84, 89, 94, 99])]
def p64_64 : List PI := [(64, 1, 2, 3, 0, 0, 0, []), (65, 3, 17, 7, 3, 205, 0, [436]), (68, 1, 39, 0, 0, 0, 0, [])]
def p64_69 : List PI := [(69, 1, 2, 3, 0, 0, 0, []), (70, 3, 17, 7, 1, 208, 0, [429]), (73, 1, 39, 0, 0, 0, 0, [])]
def p64_74 : List PI := [(74, 1, 2, 3, 0, 0, 0, []), (75, 3, 17, 7, 2, 211, 0, [433]), (78, 1, 39, 0, 0, 0, 0, [])]
def p64_79 : List PI := [(79, 1, 2, 3, 0, 0, 0, []), (80, 3, 17, 7, 4, 214, 0, [439]), (83, 1, 39, 0, 0, 0, 0, [])]
def p64_84 : List PI := [(84, 1, 2, 3, 0, 0, 0, []), (85, 3, 17, 7, 5, 167, 0, [443]), (88, 1, 39, 0, 0, 0, 0, [])]
def p64_89 : List PI := [(89, 1, 2, 3, 0, 0, 0, []), (90, 3, 17, 7, 6, 170, 0, [445]), (93, 1, 39, 0, 0, 0, 0, [])]
def p64_94 : List PI := [(94, 1, 2, 3, 0, 0, 0, []), (95, 3, 17, 7, 7, 173, 0, [448]), (98, 1, 39, 0, 0, 0, 0, [])]
def p64_99 : List PI := [(99, 1, 2, 3, 0, 0, 0, []), (100, 3, 17, 7, 8, 186, 0, [450]), (103, 1, 39, 0, 0, 0, 0, [])]
def p64_104 : List PI := [(104, 2, 0, 0, 512, 204, -1000000000, []), (106, 1, 39, 0, 0, 0, 0, [])]
def p64 : List (Nat × List PI) := [(0, p64_0), (11, p64_11), (64, p64_64), (69, p64_69), (74, p64_74), (79, p64_79), (84, p64_84), (89, p64_89), (94, p64_94), (99, p64_99), (104, p64_104)]
def p65_0 : List PI := [(0, 1, 2, 0, 0, 0, 0, []), (1, 1, 1, 1, 0, 0, 0, []), (2, 3, 35, 102, 2, 11, 0, [201, 77, 508, 510, 3]), (5, 3, 10, 1, 10, 0, 0, []), (8, 1, 0, 0, 0, 0, -1, []), (9, 1, 39, 0, 0, 0, 0, [])]
def p65_10 : List PI := [(10, 1, 1, 2, 0, 0, 0, []), (11, 1, 1, 3, 0, 0, 0, []), (12, 3, 35, 97, 2, 0, 1, [138, 77, 404, 405]), (15, 3, 10, 1, 21, 0, 0, []), (18, 2, 0, 0, 0, 0, -2, []), (20, 1, 39, 0, 0, 0, 0, [])]
def p65_21 : List PI := [(21, 1, 2, 0, 0, 0, 0, []), (22, 3, 18, 10, 4, 41, 0, [312]), (25, 1, 1, 1, 0, 0, 0, []), (26, 1, 23, 0, 0, 0, 0, []), (27, 2, 4, 4, 0, 0, 0, []), (29, 1, 2, 0, 0, 0, 0, []), (30, 3, 18, 10, 3, 35, 0, [311]), (33, 1, 2, 0, 0, 0, 0, []), (34, 3, 18, 10, 2, 25, 0, [310]), (37, 2, 2, 4, 0, 0, 0, []), (39, 3, 17, 7, 1, 208, 0, [429]), (42, 1, 23, 0, 0, 0, 0, []), (43, 2, 0, 0, 0, 0, 99, []), (45, 2, 2, 4, 0, 0, 0, []), (47, 3, 17, 7, 2, 211, 0, [433]), (50, 3, 36, 41, 4, 10, 0, [217, 82, 517, 518, 519]), (53, 1, 2, 0, 0, 0, 0, []), (54, 2, 2, 4, 0, 0, 0, []), (56, 1, 1, 2, 0, 0, 0, []), (57, 1, 1, 3, 0, 0, 0, []), (58, 3, 35, 110, 4, 11, 0, [221, 77, 543, 545, 5]), (61, 3, 10, 0, 68, 0, 0, []), (64, 1, 0, 0, 0, 0, 1, []), (65, 3, 14, 0, 69, 0, 0, [])]
def p65_68 : List PI := [(68, 1, 0, 0, 0, 0, 0, []), (69, 0, 45, 0, 69, 0, 0, [])]
def p65_69 : List PI := [(69, 1, 39, 0, 0, 0, 0, [])]
def p65 : List (Nat × List PI) := [(0, p65_0), (10, p65_10), (21, p65_21), (68, p65_68), (69, p65_69)]
def p66_0 : List PI := [(0, 1, 1, 1, 0, 0, 0, []), (1, 3, 35, 94, 1, 0, 1, [119, 77, 393, 394]), (4, 3, 10, 0, 25, 0, 0, []), (7, 1, 1, 2, 0, 0, 0, []), (8, 1, 0, 0, 0, 0, -1, []), (9, 3, 0, 0, 0, 0, 199, []), (12, 3, 35, 93, 3, 0, 1, [89, 77, 367, 368]), (15, 3, 10, 0, 25, 0, 0, []), (18, 1, 1, 3, 0, 0, 0, []), (19, 3, 35, 96, 1, 0, 1, [225, 77, 587, 588]), (22, 3, 10, 1, 27, 0, 0, []), (25, 0, 45, 0, 25, 0, 0, [])]
def p66_25 : List PI := [(25, 1, 0, 0, 0, 0, -1, []), (26, 1, 39, 0, 0, 0, 0, [])]
def p66_27 : List PI := [(27, 1, 2, 0, 0, 0, 0, []), (28, 3, 18, 10, 3, 35, 0, [311]), (31, 1, 2, 0, 0, 0, 0, []), (32, 3, 18, 10, 2, 25, 0, [310]), (35, 1, 1, 1, 0, 0, 0, []), (36, 1, 23, 0, 0, 0, 0, []), (37, 1, 1, 3, 0, 0, 0, []), (38, 1, 1, 2, 0, 0, 0, []), (39, 3, 36, 41, 4, 10, 0, [217, 82, 517, 518, 519]), (42, 3, 0, 0, 0, 0, 1000, []), (45, 1, 2, 0, 0, 0, 0, []), (46, 3, 18, 10, 3, 35, 0, [311]), (49, 1, 1, 2, 0, 0, 0, []), (50, 3, 35, 43, 2, 10, 0, [228, 82, 590, 591, 592]), (53, 3, 0, 0, 0, 0, -400, []), (56, 1, 6, 1, 0, 0, 0, []), (57, 1, 6, 2, 0, 0, 0, []), (58, 1, 2, 0, 0, 0, 0, []), (59, 3, 18, 10, 3, 35, 0, [311]), (62, 1, 1, 2, 0, 0, 0, []), (63, 3, 35, 44, 2, 10, 0, [232, 82, 594, 595, 596]), (66, 1, 6, 0, 0, 0, 0, []), (67, 3, 0, 0, 0, 0, -400, []), (70, 1, 6, 1, 0, 0, 0, []), (71, 1, 39, 0, 0, 0, 0, [])]
def p66 : List (Nat × List PI) := [(0, p66_0), (25, p66_25), (27, p66_27)]
def p67_0 : List PI := [(0, 1, 1, 1, 0, 0, 0, []), (1, 3, 35, 94, 1, 0, 1, [119, 77, 393, 394]), (4, 3, 10, 0, 14, 0, 0, []), (7, 1, 1, 2, 0, 0, 0, []), (8, 3, 35, 95, 1, 0, 1, [109, 77, 382, 383]), (11, 3, 10, 1, 16, 0, 0, []), (14, 0, 45, 0, 14, 0, 0, [])]
def p67_14 : List PI := [(14, 1, 0, 0, 0, 0, -1, []), (15, 1, 39, 0, 0, 0, 0, [])]
def p67_16 : List PI := [(16, 1, 2, 0, 0, 0, 0, []), (17, 3, 18, 10, 3, 35, 0, [311]), (20, 1, 2, 0, 0, 0, 0, []), (21, 3, 18, 10, 2, 25, 0, [310]), (24, 1, 1, 1, 0, 0, 0, []), (25, 1, 23, 0, 0, 0, 0, []), (26, 2, 0, 0, 0, 0, 99, []), (28, 1, 1, 2, 0, 0, 0, []), (29, 3, 36, 41, 4, 10, 0, [217, 82, 517, 518, 519]), (32, 1, 2, 0, 0, 0, 0, []), (33, 3, 18, 10, 3, 35, 0, [311]), (36, 1, 1, 2, 0, 0, 0, []), (37, 3, 35, 47, 2, 10, 0, [235, 82, 602, 552, 553]), (40, 1, 39, 0, 0, 0, 0, [])]
def p67 : List (Nat × List PI) := [(0, p67_0), (14, p67_14), (16, p67_16)]
def p68_0 : List PI := [(0, 1, 1, 1, 0, 0, 0, []), (1, 3, 35, 94, 1, 0, 1, [119, 77, 393, 394]), (4, 3, 10, 0, 16, 0, 0, []), (7, 1, 1, 2, 0, 0, 0, []), (8, 1, 0, 0, 0, 0, 0, []), (9, 1, 0, 0, 0, 0, 1, []), (10, 3, 35, 93, 3, 0, 1, [89, 77, 367, 368]), (13, 3, 10, 1, 18, 0, 0, []), (16, 0, 45, 0, 16, 0, 0, [])]
def p68_16 : List PI := [(16, 1, 0, 0, 0, 0, -1, []), (17, 1, 39, 0, 0, 0, 0, [])]
def p68_18 : List PI := [(18, 1, 2, 0, 0, 0, 0, []), (19, 3, 18, 10, 3, 35, 0, [311]), (22, 1, 2, 0, 0, 0, 0, []), (23, 3, 18, 10, 2, 25, 0, [310]), (26, 1, 1, 1, 0, 0, 0, []), (27, 1, 23, 0, 0, 0, 0, []), (28, 2, 0, 0, 0, 0, 99, []), (30, 3, 0, 0, 0, 0, 199, []), (33, 3, 36, 41, 4, 10, 0, [217, 82, 517, 518, 519]), (36, 1, 0, 0, 0, 0, 0, []), (37, 1, 3, 3, 0, 0, 0, []), (38, 1, 0, 0, 0, 0, 0, []), (39, 2, 3, 4, 0, 0, 0, []), (41, 2, 0, 0, 0, 0, -5, []), (43, 2, 3, 5, 0, 0, 0, []), (45, 1, 0, 0, 0, 0, 0, []), (46, 2, 3, 6, 0, 0, 0, []), (48, 0, 45, 0, 48, 0, 0, [])]
def p68_48 : List PI := [(48, 2, 1, 6, 0, 0, 0, []), (50, 3, 0, 0, 0, 0, 200, []), (53, 3, 11, 3, 96, 0, 0, []), (56, 1, 2, 0, 0, 0, 0, []), (57, 3, 18, 10, 3, 35, 0, [311]), (60, 2, 1, 6, 0, 0, 0, []), (62, 3, 35, 48, 2, 10, 0, [238, 82, 547, 548, 549]), (65, 2, 3, 7, 0, 0, 0, []), (67, 2, 1, 7, 0, 0, 0, []), (69, 3, 10, 5, 75, 0, 0, []), (72, 3, 5, 3, 0, 0, 1, []), (75, 0, 45, 0, 75, 0, 0, [])]
def p68_75 : List PI := [(75, 2, 1, 7, 0, 0, 0, []), (77, 2, 1, 4, 0, 0, 0, []), (79, 3, 11, 5, 90, 0, 0, []), (82, 2, 1, 7, 0, 0, 0, []), (84, 2, 3, 4, 0, 0, 0, []), (86, 2, 1, 6, 0, 0, 0, []), (88, 2, 3, 5, 0, 0, 0, []), (90, 0, 45, 0, 90, 0, 0, [])]
def p68_90 : List PI := [(90, 3, 5, 6, 0, 0, 1, []), (93, 3, 14, 0, 48, 0, 0, [])]
def p68_96 : List PI := [(96, 1, 1, 2, 0, 0, 0, []), (97, 3, 10, 1, 104, 0, 0, []), (100, 1, 1, 3, 0, 0, 0, []), (101, 3, 14, 0, 106, 0, 0, [])]
def p68_104 : List PI := [(104, 2, 1, 5, 0, 0, 0, []), (106, 0, 45, 0, 106, 0, 0, [])]
def p68_106 : List PI := [(106, 1, 39, 0, 0, 0, 0, [])]
def p68 : List (Nat × List PI) := [(0, p68_0), (16, p68_16), (18, p68_18), (48, p68_48), (75, p68_75), (90, p68_90), (96, p68_96), (104, p68_104), (106, p68_106)]
def p69_0 : List PI := [(0, 1, 1, 1, 0, 0, 0, []), (1, 1, 1, 2, 0, 0, 0, []), (2, 3, 35, 97, 2, 0, 1, [138, 77, 404, 405]), (5, 3, 10, 0, 16, 0, 0, []), (8, 1, 1, 1, 0, 0, 0, []), (9, 1, 1, 2, 0, 0, 0, []), (10, 3, 35, 106, 2, 0, 1, [241, 77, 569, 570]), (13, 3, 14, 0, 18, 0, 0, [])]
def p69_16 : List PI := [(16, 2, 0, 0, 0, 0, -2, []), (18, 0, 45, 0, 18, 0, 0, [])]
def p69_18 : List PI := [(18, 1, 39, 0, 0, 0, 0, [])]
def p69 : List (Nat × List PI) := [(0, p69_0), (16, p69_16), (18, p69_18)]
def p70_0 : List PI := [(0, 1, 1, 1, 0, 0, 0, []), (1, 3, 35, 94, 1, 0, 1, [119, 77, 393, 394]), (4, 3, 10, 0, 17, 0, 0, []), (7, 1, 2, 0, 0, 0, 0, []), (8, 1, 1, 1, 0, 0, 0, []), (9, 2, 0, 0, 0, 0, 99, []), (11, 3, 35, 115, 3, 11, 0, [245, 77, 615, 617, 8]), (14, 3, 14, 0, 18, 0, 0, [])]
def p70_17 : List PI := [(17, 1, 0, 0, 0, 0, -1, []), (18, 0, 45, 0, 18, 0, 0, [])]
def p70_18 : List PI := [(18, 1, 39, 0, 0, 0, 0, [])]
def p70 : List (Nat × List PI) := [(0, p70_0), (17, p70_17), (18, p70_18)]
def p71_0 : List PI := [(0, 1, 1, 1, 0, 0, 0, []), (1, 3, 35, 94, 1, 0, 1, [119, 77, 393, 394]), (4, 3, 10, 1, 9, 0, 0, []), (7, 1, 0, 0, 0, 0, -1, []), (8, 1, 39, 0, 0, 0, 0, [])]
def p71_9 : List PI := [(9, 1, 2, 0, 0, 0, 0, []), (10, 3, 18, 10, 3, 35, 0, [311]), (13, 1, 2, 0, 0, 0, 0, []), (14, 3, 18, 10, 2, 25, 0, [310]), (17, 1, 1, 1, 0, 0, 0, []), (18, 1, 23, 0, 0, 0, 0, []), (19, 2, 0, 0, 0, 0, 99, []), (21, 3, 0, 0, 0, 0, 199, []), (24, 3, 36, 41, 4, 10, 0, [217, 82, 517, 518, 519]), (27, 1, 0, 0, 0, 0, 0, []), (28, 1, 3, 2, 0, 0, 0, []), (29, 1, 0, 0, 0, 0, 0, []), (30, 1, 3, 3, 0, 0, 0, []), (31, 0, 45, 0, 31, 0, 0, [])]
def p71_31 : List PI := [(31, 1, 1, 3, 0, 0, 0, []), (32, 1, 2, 0, 0, 0, 0, []), (33, 3, 17, 10, 15, 160, 0, [323]), (36, 3, 11, 3, 117, 0, 0, []), (39, 1, 2, 0, 0, 0, 0, []), (40, 3, 18, 10, 4, 41, 0, [312]), (43, 1, 1, 3, 0, 0, 0, []), (44, 1, 23, 0, 0, 0, 0, []), (45, 2, 4, 4, 0, 0, 0, []), (47, 2, 2, 4, 0, 0, 0, []), (49, 3, 17, 7, 1, 208, 0, [429]), (52, 1, 1, 1, 0, 0, 0, []), (53, 3, 11, 1, 111, 0, 0, []), (56, 2, 2, 4, 0, 0, 0, []), (58, 3, 17, 7, 3, 205, 0, [436]), (61, 1, 0, 0, 0, 0, 3, []), (62, 3, 11, 1, 111, 0, 0, []), (65, 2, 2, 4, 0, 0, 0, []), (67, 3, 17, 7, 5, 167, 0, [443]), (70, 1, 2, 0, 0, 0, 0, []), (71, 3, 18, 10, 3, 35, 0, [311]), (74, 2, 2, 4, 0, 0, 0, []), (76, 3, 17, 7, 2, 211, 0, [433]), (79, 3, 35, 46, 2, 10, 0, [248, 82, 564, 565, 566]), (82, 3, 11, 1, 111, 0, 0, []), (85, 1, 2, 0, 0, 0, 0, []), (86, 3, 18, 10, 0, 12, 0, [308]), (89, 3, 18, 2, 3, 106, 0, [117]), (92, 1, 2, 0, 0, 0, 0, []), (93, 3, 18, 10, 3, 35, 0, [311]), (96, 2, 2, 4, 0, 0, 0, []), (98, 3, 17, 7, 2, 211, 0, [433]), (101, 3, 35, 45, 2, 10, 0, [251, 82, 636, 556, 557]), (104, 1, 22, 0, 0, 0, 0, []), (105, 3, 10, 0, 111, 0, 0, []), (108, 3, 5, 2, 0, 0, 1, []), (111, 0, 45, 0, 111, 0, 0, [])]
def p71_111 : List PI := [(111, 3, 5, 3, 0, 0, 1, []), (114, 3, 14, 0, 31, 0, 0, [])]
def p71_117 : List PI := [(117, 1, 1, 2, 0, 0, 0, []), (118, 1, 39, 0, 0, 0, 0, [])]
def p71 : List (Nat × List PI) := [(0, p71_0), (9, p71_9), (31, p71_31), (111, p71_111), (117, p71_117)]
def p72_0 : List PI := [(0, 1, 1, 1, 0, 0, 0, []), (1, 3, 35, 94, 1, 0, 1, [119, 77, 393, 394]), (4, 3, 10, 0, 28, 0, 0, []), (7, 1, 1, 2, 0, 0, 0, []), (8, 1, 0, 0, 0, 0, 0, []), (9, 1, 0, 0, 0, 0, 1, []), (10, 3, 35, 93, 3, 0, 1, [89, 77, 367, 368]), (13, 3, 10, 0, 28, 0, 0, []), (16, 1, 2, 0, 0, 0, 0, []), (17, 3, 18, 10, 2, 25, 0, [310]), (20, 1, 1, 1, 0, 0, 0, []), (21, 1, 23, 0, 0, 0, 0, []), (22, 3, 35, 11, 1, 5, 0, [254, 81, 641, 642, 643]), (25, 3, 10, 1, 31, 0, 0, []), (28, 0, 45, 0, 28, 0, 0, [])]
def p72_28 : List PI := [(28, 2, 0, 0, 512, 204, -1000000000, []), (30, 1, 39, 0, 0, 0, 0, [])]
def p72_31 : List PI := [(31, 1, 2, 0, 0, 0, 0, []), (32, 3, 18, 10, 3, 35, 0, [311]), (35, 1, 2, 0, 0, 0, 0, []), (36, 3, 18, 10, 2, 25, 0, [310]), (39, 1, 1, 1, 0, 0, 0, []), (40, 1, 23, 0, 0, 0, 0, []), (41, 2, 0, 0, 0, 0, 99, []), (43, 1, 2, 0, 0, 0, 0, []), (44, 3, 18, 10, 2, 25, 0, [310]), (47, 1, 1, 1, 0, 0, 0, []), (48, 1, 23, 0, 0, 0, 0, []), (49, 3, 17, 4, 8, 148, 0, [173]), (52, 3, 36, 41, 4, 10, 0, [217, 82, 517, 518, 519]), (55, 1, 1, 2, 0, 0, 0, []), (56, 3, 10, 1, 72, 0, 0, []), (59, 1, 2, 0, 0, 0, 0, []), (60, 1, 2, 0, 0, 0, 0, []), (61, 3, 18, 10, 2, 25, 0, [310]), (64, 1, 1, 1, 0, 0, 0, []), (65, 1, 23, 0, 0, 0, 0, []), (66, 3, 35, 113, 2, 11, 0, [258, 77, 645, 647, 9]), (69, 3, 14, 0, 82, 0, 0, [])]
def p72_72 : List PI := [(72, 1, 2, 0, 0, 0, 0, []), (73, 1, 2, 0, 0, 0, 0, []), (74, 3, 18, 10, 2, 25, 0, [310]), (77, 1, 1, 1, 0, 0, 0, []), (78, 1, 23, 0, 0, 0, 0, []), (79, 3, 35, 114, 2, 11, 0, [262, 77, 652, 654, 10]), (82, 0, 45, 0, 82, 0, 0, [])]
def p72_82 : List PI := [(82, 1, 39, 0, 0, 0, 0, [])]
def p72 : List (Nat × List PI) := [(0, p72_0), (28, p72_28), (31, p72_31), (72, p72_72), (82, p72_82)]
def p73_0 : List PI := [(0, 1, 1, 1, 0, 0, 0, []), (1, 3, 35, 94, 1, 0, 1, [119, 77, 393, 394]), (4, 3, 10, 0, 14, 0, 0, []), (7, 1, 1, 2, 0, 0, 0, []), (8, 3, 35, 101, 1, 0, 1, [189, 77, 497, 498]), (11, 3, 10, 1, 16, 0, 0, []), (14, 0, 45, 0, 14, 0, 0, [])]
def p73_14 : List PI := [(14, 1, 0, 0, 0, 0, -1, []), (15, 1, 39, 0, 0, 0, 0, [])]
def p73_16 : List PI := [(16, 1, 1, 3, 0, 0, 0, []), (17, 1, 0, 0, 0, 0, 1, []), (18, 2, 0, 0, 0, 0, 10, []), (20, 3, 35, 93, 3, 0, 1, [89, 77, 367, 368]), (23, 3, 10, 1, 29, 0, 0, []), (26, 2, 0, 0, 0, 0, -2, []), (28, 1, 39, 0, 0, 0, 0, [])]
def p73_29 : List PI := [(29, 1, 2, 0, 0, 0, 0, []), (30, 3, 18, 10, 2, 25, 0, [310]), (33, 1, 1, 1, 0, 0, 0, []), (34, 1, 23, 0, 0, 0, 0, []), (35, 3, 35, 11, 1, 5, 0, [254, 81, 641, 642, 643]), (38, 3, 10, 1, 44, 0, 0, []), (41, 2, 0, 0, 0, 0, -3, []), (43, 1, 39, 0, 0, 0, 0, [])]
def p73_44 : List PI := [(44, 1, 2, 0, 0, 0, 0, []), (45, 3, 18, 10, 12, 84, 0, [320]), (48, 1, 1, 2, 0, 0, 0, []), (49, 1, 23, 0, 0, 0, 0, []), (50, 2, 4, 4, 0, 0, 0, []), (52, 2, 2, 4, 0, 0, 0, []), (54, 3, 17, 8, 0, 192, 0, [296]), (57, 1, 0, 0, 0, 0, -1, []), (58, 3, 11, 1, 64, 0, 0, []), (61, 2, 0, 0, 0, 0, -11, []), (63, 1, 39, 0, 0, 0, 0, [])]
def p73_64 : List PI := [(64, 2, 2, 4, 0, 0, 0, []), (66, 3, 17, 8, 0, 192, 0, [296]), (69, 3, 10, 0, 75, 0, 0, []), (72, 2, 0, 0, 0, 0, -12, []), (74, 1, 39, 0, 0, 0, 0, [])]
def p73_75 : List PI := [(75, 2, 2, 4, 0, 0, 0, []), (77, 3, 17, 8, 1, 265, 0, [298]), (80, 1, 0, 0, 0, 0, 2, []), (81, 1, 1, 3, 0, 0, 0, []), (82, 1, 6, 2, 0, 0, 0, []), (83, 3, 11, 3, 89, 0, 0, []), (86, 2, 0, 0, 0, 0, -13, []), (88, 1, 39, 0, 0, 0, 0, [])]
def p73_89 : List PI := [(89, 1, 2, 0, 0, 0, 0, []), (90, 3, 18, 10, 3, 35, 0, [311]), (93, 1, 2, 0, 0, 0, 0, []), (94, 3, 18, 10, 2, 25, 0, [310]), (97, 1, 1, 1, 0, 0, 0, []), (98, 1, 23, 0, 0, 0, 0, []), (99, 2, 0, 0, 0, 0, 99, []), (101, 1, 2, 0, 0, 0, 0, []), (102, 3, 18, 10, 2, 25, 0, [310]), (105, 1, 1, 1, 0, 0, 0, []), (106, 1, 23, 0, 0, 0, 0, []), (107, 3, 17, 4, 8, 148, 0, [173]), (110, 3, 36, 41, 4, 10, 0, [217, 82, 517, 518, 519]), (113, 1, 2, 0, 0, 0, 0, []), (114, 1, 2, 0, 0, 0, 0, []), (115, 3, 18, 10, 2, 25, 0, [310]), (118, 1, 1, 1, 0, 0, 0, []), (119, 1, 23, 0, 0, 0, 0, []), (120, 3, 35, 113, 2, 11, 0, [258, 77, 645, 647, 9]), (123, 2, 3, 5, 0, 0, 0, []), (125, 1, 2, 0, 0, 0, 0, []), (126, 1, 2, 0, 0, 0, 0, []), (127, 3, 18, 10, 2, 25, 0, [310]), (130, 1, 1, 1, 0, 0, 0, []), (131, 1, 23, 0, 0, 0, 0, []), (132, 3, 35, 114, 2, 11, 0, [262, 77, 652, 654, 10]), (135, 2, 3, 6, 0, 0, 0, []), (137, 1, 0, 0, 0, 0, 0, []), (138, 2, 3, 7, 0, 0, 0, []), (140, 0, 45, 0, 140, 0, 0, [])]
def p73_140 : List PI := [(140, 2, 1, 7, 0, 0, 0, []), (142, 1, 1, 3, 0, 0, 0, []), (143, 3, 11, 3, 197, 0, 0, []), (146, 2, 2, 4, 0, 0, 0, []), (148, 3, 18, 8, 2, 198, 0, [300]), (151, 1, 0, 0, 0, 0, 2, []), (152, 2, 1, 7, 0, 0, 0, []), (154, 1, 6, 2, 0, 0, 0, []), (155, 1, 22, 0, 0, 0, 0, []), (156, 2, 1, 5, 0, 0, 0, []), (158, 1, 6, 1, 0, 0, 0, []), (159, 3, 35, 219, 1, 0, 1, [268, 90, 572, 573]), (162, 1, 0, 0, 0, 0, 1, []), (163, 3, 11, 4, 191, 0, 0, []), (166, 2, 2, 4, 0, 0, 0, []), (168, 3, 18, 8, 2, 198, 0, [300]), (171, 1, 0, 0, 0, 0, 2, []), (172, 2, 1, 7, 0, 0, 0, []), (174, 1, 6, 2, 0, 0, 0, []), (175, 1, 0, 0, 0, 0, 1, []), (176, 1, 6, 0, 0, 0, 0, []), (177, 1, 22, 0, 0, 0, 0, []), (178, 2, 1, 6, 0, 0, 0, []), (180, 1, 6, 1, 0, 0, 0, []), (181, 3, 35, 219, 1, 0, 1, [268, 90, 572, 573]), (184, 1, 0, 0, 0, 0, 1, []), (185, 3, 11, 4, 191, 0, 0, []), (188, 2, 1, 7, 0, 0, 0, []), (190, 1, 39, 0, 0, 0, 0, [])]
def p73_191 : List PI := [(191, 3, 5, 7, 0, 0, 1, []), (194, 3, 14, 0, 140, 0, 0, [])]
def p73_197 : List PI := [(197, 2, 0, 0, 0, 0, -5, []), (199, 1, 39, 0, 0, 0, 0, [])]
def p73 : List (Nat × List PI) := [(0, p73_0), (14, p73_14), (16, p73_16), (29, p73_29), (44, p73_44), (64, p73_64), (75, p73_75), (89, p73_89), (140, p73_140), (191, p73_191), (197, p73_197)]
def p74_0 : List PI := [(0, 1, 1, 1, 0, 0, 0, []), (1, 3, 35, 94, 1, 0, 1, [119, 77, 393, 394]), (4, 3, 10, 0, 24, 0, 0, []), (7, 1, 1, 2, 0, 0, 0, []), (8, 1, 0, 0, 0, 0, 0, []), (9, 1, 0, 0, 0, 0, 2, []), (10, 3, 35, 93, 3, 0, 1, [89, 77, 367, 368]), (13, 3, 10, 0, 24, 0, 0, []), (16, 2, 1, 4, 0, 0, 0, []), (18, 3, 35, 96, 1, 0, 1, [225, 77, 587, 588]), (21, 3, 10, 1, 26, 0, 0, []), (24, 0, 45, 0, 24, 0, 0, [])]
def p74_24 : List PI := [(24, 1, 0, 0, 0, 0, -1, []), (25, 1, 39, 0, 0, 0, 0, [])]
def p74_26 : List PI := [(26, 1, 1, 3, 0, 0, 0, []), (27, 3, 35, 99, 1, 0, 1, [273, 77, 664, 665]), (30, 3, 10, 1, 36, 0, 0, []), (33, 2, 0, 0, 0, 0, -2, []), (35, 1, 39, 0, 0, 0, 0, [])]
def p74_36 : List PI := [(36, 1, 1, 2, 0, 0, 0, []), (37, 1, 0, 0, 0, 0, 2, []), (38, 3, 11, 0, 56, 0, 0, []), (41, 1, 2, 0, 0, 0, 0, []), (42, 3, 18, 10, 2, 25, 0, [310]), (45, 1, 1, 1, 0, 0, 0, []), (46, 1, 23, 0, 0, 0, 0, []), (47, 3, 35, 11, 1, 5, 0, [254, 81, 641, 642, 643]), (50, 3, 10, 1, 56, 0, 0, []), (53, 2, 0, 0, 0, 0, -3, []), (55, 1, 39, 0, 0, 0, 0, [])]
def p74_56 : List PI := [(56, 1, 2, 0, 0, 0, 0, []), (57, 3, 18, 10, 3, 35, 0, [311]), (60, 1, 2, 0, 0, 0, 0, []), (61, 3, 18, 10, 2, 25, 0, [310]), (64, 1, 1, 1, 0, 0, 0, []), (65, 1, 23, 0, 0, 0, 0, []), (66, 2, 1, 4, 0, 0, 0, []), (68, 3, 0, 0, 0, 0, 199, []), (71, 3, 36, 41, 4, 10, 0, [217, 82, 517, 518, 519]), (74, 1, 2, 0, 0, 0, 0, []), (75, 1, 1, 1, 0, 0, 0, []), (76, 1, 1, 2, 0, 0, 0, []), (77, 1, 1, 3, 0, 0, 0, []), (78, 3, 35, 119, 4, 11, 0, [276, 77, 667, 669, 11]), (81, 1, 39, 0, 0, 0, 0, [])]
def p74 : List (Nat × List PI) := [(0, p74_0), (24, p74_24), (26, p74_26), (36, p74_36), (56, p74_56)]
def p75_0 : List PI := [(0, 1, 1, 1, 0, 0, 0, []), (1, 3, 35, 94, 1, 0, 1, [119, 77, 393, 394]), (4, 3, 10, 0, 14, 0, 0, []), (7, 1, 1, 3, 0, 0, 0, []), (8, 3, 35, 96, 1, 0, 1, [225, 77, 587, 588]), (11, 3, 10, 1, 16, 0, 0, []), (14, 0, 45, 0, 14, 0, 0, [])]
def p75_14 : List PI := [(14, 1, 0, 0, 0, 0, -1, []), (15, 1, 39, 0, 0, 0, 0, [])]
def p75_16 : List PI := [(16, 1, 1, 2, 0, 0, 0, []), (17, 3, 35, 99, 1, 0, 1, [273, 77, 664, 665]), (20, 3, 10, 1, 26, 0, 0, []), (23, 2, 0, 0, 0, 0, -2, []), (25, 1, 39, 0, 0, 0, 0, [])]
def p75_26 : List PI := [(26, 1, 2, 0, 0, 0, 0, []), (27, 3, 18, 10, 2, 25, 0, [310]), (30, 1, 1, 1, 0, 0, 0, []), (31, 1, 23, 0, 0, 0, 0, []), (32, 3, 35, 11, 1, 5, 0, [254, 81, 641, 642, 643]), (35, 3, 10, 1, 41, 0, 0, []), (38, 2, 0, 0, 0, 0, -3, []), (40, 1, 39, 0, 0, 0, 0, [])]
def p75_41 : List PI := [(41, 1, 2, 0, 0, 0, 0, []), (42, 3, 18, 10, 3, 35, 0, [311]), (45, 1, 2, 0, 0, 0, 0, []), (46, 3, 18, 10, 2, 25, 0, [310]), (49, 1, 1, 1, 0, 0, 0, []), (50, 1, 23, 0, 0, 0, 0, []), (51, 1, 1, 3, 0, 0, 0, []), (52, 3, 0, 0, 0, 0, 199, []), (55, 3, 36, 41, 4, 10, 0, [217, 82, 517, 518, 519]), (58, 1, 0, 0, 0, 0, 0, []), (59, 2, 3, 4, 0, 0, 0, []), (61, 1, 2, 0, 0, 0, 0, []), (62, 1, 1, 1, 0, 0, 0, []), (63, 1, 0, 0, 0, 0, 0, []), (64, 1, 1, 2, 0, 0, 0, []), (65, 3, 35, 119, 4, 11, 0, [276, 77, 667, 669, 11]), (68, 2, 3, 5, 0, 0, 0, []), (70, 1, 0, 0, 0, 0, 1, []), (71, 2, 3, 6, 0, 0, 0, []), (73, 0, 45, 0, 73, 0, 0, [])]
def p75_73 : List PI := [(73, 2, 1, 6, 0, 0, 0, []), (75, 1, 0, 0, 0, 0, 3, []), (76, 3, 11, 3, 110, 0, 0, []), (79, 1, 2, 0, 0, 0, 0, []), (80, 1, 1, 1, 0, 0, 0, []), (81, 2, 1, 6, 0, 0, 0, []), (83, 1, 1, 2, 0, 0, 0, []), (84, 3, 35, 119, 4, 11, 0, [276, 77, 667, 669, 11]), (87, 2, 3, 7, 0, 0, 0, []), (89, 2, 1, 7, 0, 0, 0, []), (91, 2, 1, 5, 0, 0, 0, []), (93, 3, 11, 3, 104, 0, 0, []), (96, 2, 1, 7, 0, 0, 0, []), (98, 2, 3, 5, 0, 0, 0, []), (100, 2, 1, 6, 0, 0, 0, []), (102, 2, 3, 4, 0, 0, 0, []), (104, 0, 45, 0, 104, 0, 0, [])]
def p75_104 : List PI := [(104, 3, 5, 6, 0, 0, 1, []), (107, 3, 14, 0, 73, 0, 0, [])]
def p75_110 : List PI := [(110, 2, 1, 4, 0, 0, 0, []), (112, 1, 39, 0, 0, 0, 0, [])]
def p75 : List (Nat × List PI) := [(0, p75_0), (14, p75_14), (16, p75_16), (26, p75_26), (41, p75_41), (73, p75_73), (104, p75_104), (110, p75_110)]
def p76_0 : List PI := [(0, 1, 1, 1, 0, 0, 0, []), (1, 3, 35, 95, 1, 0, 1, [109, 77, 382, 383]), (4, 3, 10, 1, 9, 0, 0, []), (7, 1, 0, 0, 0, 0, -1, []), (8, 1, 39, 0, 0, 0, 0, [])]
def p76_9 : List PI := [(9, 1, 1, 2, 0, 0, 0, []), (10, 1, 0, 0, 0, 0, -1, []), (11, 3, 0, 0, 0, 0, 1500, []), (14, 3, 35, 93, 3, 0, 1, [89, 77, 367, 368]), (17, 3, 10, 1, 23, 0, 0, []), (20, 2, 0, 0, 0, 0, -2, []), (22, 1, 39, 0, 0, 0, 0, [])]
def p76_23 : List PI := [(23, 1, 2, 0, 0, 0, 0, []), (24, 3, 18, 10, 1, 19, 0, [309]), (27, 3, 18, 1, 1, 280, 0, [140]), (30, 1, 1, 1, 0, 0, 0, []), (31, 1, 22, 0, 0, 0, 0, []), (32, 1, 3, 3, 0, 0, 0, []), (33, 1, 2, 0, 0, 0, 0, []), (34, 3, 18, 10, 1, 19, 0, [309]), (37, 3, 18, 1, 1, 280, 0, [140]), (40, 1, 1, 1, 0, 0, 0, []), (41, 1, 1, 2, 0, 0, 0, []), (42, 1, 24, 0, 0, 0, 0, []), (43, 1, 1, 3, 0, 0, 0, []), (44, 1, 39, 0, 0, 0, 0, [])]
def p76 : List (Nat × List PI) := [(0, p76_0), (9, p76_9), (23, p76_23)]
def p77_0 : List PI := [(0, 1, 1, 1, 0, 0, 0, []), (1, 3, 35, 94, 1, 0, 1, [119, 77, 393, 394]), (4, 3, 10, 0, 16, 0, 0, []), (7, 1, 1, 2, 0, 0, 0, []), (8, 1, 0, 0, 0, 0, 0, []), (9, 1, 0, 0, 0, 0, 1, []), (10, 3, 35, 93, 3, 0, 1, [89, 77, 367, 368]), (13, 3, 10, 1, 18, 0, 0, []), (16, 0, 45, 0, 16, 0, 0, [])]
def p77_16 : List PI := [(16, 1, 0, 0, 0, 0, -1, []), (17, 1, 39, 0, 0, 0, 0, [])]
def p77_18 : List PI := [(18, 1, 2, 0, 0, 0, 0, []), (19, 3, 18, 10, 2, 25, 0, [310]), (22, 1, 1, 1, 0, 0, 0, []), (23, 1, 23, 0, 0, 0, 0, []), (24, 3, 35, 11, 1, 5, 0, [254, 81, 641, 642, 643]), (27, 3, 10, 1, 33, 0, 0, []), (30, 2, 0, 0, 0, 0, -3, []), (32, 1, 39, 0, 0, 0, 0, [])]
def p77_33 : List PI := [(33, 1, 1, 2, 0, 0, 0, []), (34, 3, 10, 1, 45, 0, 0, []), (37, 1, 2, 0, 0, 0, 0, []), (38, 1, 1, 1, 0, 0, 0, []), (39, 3, 35, 120, 2, 11, 0, [283, 77, 697, 699, 15]), (42, 3, 14, 0, 52, 0, 0, [])]
def p77_45 : List PI := [(45, 1, 2, 0, 0, 0, 0, []), (46, 1, 1, 1, 0, 0, 0, []), (47, 2, 0, 0, 0, 0, 99, []), (49, 3, 35, 121, 3, 11, 0, [286, 77, 710, 712, 16]), (52, 0, 45, 0, 52, 0, 0, [])]
def p77_52 : List PI := [(52, 1, 39, 0, 0, 0, 0, [])]
def p77 : List (Nat × List PI) := [(0, p77_0), (16, p77_16), (18, p77_18), (33, p77_33), (45, p77_45), (52, p77_52)]
def p78_0 : List PI := [(0, 1, 1, 2, 0, 0, 0, []), (1, 1, 0, 0, 0, 0, 0, []), (2, 1, 0, 0, 0, 0, 4, []), (3, 3, 35, 93, 3, 0, 1, [89, 77, 367, 368]), (6, 3, 10, 1, 12, 0, 0, []), (9, 2, 0, 0, 0, 0, -2, []), (11, 1, 39, 0, 0, 0, 0, [])]
def p78_12 : List PI := [(12, 1, 2, 0, 0, 0, 0, []), (13, 3, 17, 10, 17, 289, 0, [325]), (16, 1, 1, 2, 0, 0, 0, []), (17, 1, 6, 0, 0, 0, 0, []), (18, 2, 0, 0, 0, 0, 80, []), (20, 3, 11, 5, 26, 0, 0, []), (23, 2, 0, 0, 0, 0, -4, []), (25, 1, 39, 0, 0, 0, 0, [])]
def p78_26 : List PI := [(26, 1, 1, 2, 0, 0, 0, []), (27, 1, 0, 0, 0, 0, 1, []), (28, 1, 6, 1, 0, 0, 0, []), (29, 1, 3, 3, 0, 0, 0, []), (30, 0, 45, 0, 30, 0, 0, [])]
def p78_30 : List PI := [(30, 1, 1, 3, 0, 0, 0, []), (31, 3, 10, 2, 69, 0, 0, []), (34, 1, 2, 0, 0, 0, 0, []), (35, 3, 18, 10, 9, 65, 0, [317]), (38, 1, 2, 0, 0, 0, 0, []), (39, 3, 17, 10, 17, 289, 0, [325]), (42, 1, 1, 1, 0, 0, 0, []), (43, 2, 0, 0, 0, 0, 8, []), (45, 1, 1, 3, 0, 0, 0, []), (46, 1, 6, 2, 0, 0, 0, []), (47, 1, 6, 7, 0, 0, 0, []), (48, 3, 0, 0, 0, 0, 255, []), (51, 1, 6, 3, 0, 0, 0, []), (52, 1, 24, 0, 0, 0, 0, []), (53, 1, 2, 0, 0, 0, 0, []), (54, 1, 32, 0, 0, 0, 0, []), (55, 3, 17, 10, 17, 289, 0, [325]), (58, 1, 0, 0, 0, 0, 1, []), (59, 1, 6, 0, 0, 0, 0, []), (60, 3, 19, 10, 17, 289, 0, [325]), (63, 3, 5, 3, 0, 0, -1, []), (66, 3, 14, 0, 30, 0, 0, [])]
def p78_69 : List PI := [(69, 1, 2, 0, 0, 0, 0, []), (70, 3, 17, 10, 17, 289, 0, [325]), (73, 1, 39, 0, 0, 0, 0, [])]
def p78 : List (Nat × List PI) := [(0, p78_0), (12, p78_12), (26, p78_26), (30, p78_30), (69, p78_69)]
def p79_0 : List PI := [(0, 1, 1, 1, 0, 0, 0, []), (1, 1, 0, 0, 0, 0, 0, []), (2, 1, 0, 0, 0, 0, 5, []), (3, 3, 35, 93, 3, 0, 1, [89, 77, 367, 368]), (6, 3, 10, 1, 11, 0, 0, []), (9, 1, 0, 0, 0, 0, -1, []), (10, 1, 39, 0, 0, 0, 0, [])]
def p79_11 : List PI := [(11, 1, 1, 2, 0, 0, 0, []), (12, 3, 35, 96, 1, 0, 1, [225, 77, 587, 588]), (15, 3, 10, 1, 21, 0, 0, []), (18, 2, 0, 0, 0, 0, -2, []), (20, 1, 39, 0, 0, 0, 0, [])]
def p79_21 : List PI := [(21, 1, 2, 0, 0, 0, 0, []), (22, 3, 17, 10, 16, 292, 0, [324]), (25, 2, 0, 0, 0, 0, 12, []), (27, 3, 11, 2, 33, 0, 0, []), (30, 2, 0, 0, 0, 0, -4, []), (32, 1, 39, 0, 0, 0, 0, [])]
def p79_33 : List PI := [(33, 1, 2, 0, 0, 0, 0, []), (34, 3, 17, 10, 17, 289, 0, [325]), (37, 1, 3, 3, 0, 0, 0, []), (38, 1, 2, 0, 0, 0, 0, []), (39, 1, 0, 0, 0, 0, 0, []), (40, 3, 19, 10, 17, 289, 0, [325]), (43, 1, 2, 0, 0, 0, 0, []), (44, 3, 18, 10, 8, 61, 0, [316]), (47, 1, 2, 0, 0, 0, 0, []), (48, 3, 18, 10, 9, 65, 0, [317]), (51, 1, 1, 3, 0, 0, 0, []), (52, 3, 35, 20, 3, 7, 0, [295, 83, 726, 727, 728]), (55, 2, 3, 4, 0, 0, 0, []), (57, 2, 1, 4, 0, 0, 0, []), (59, 3, 10, 2, 68, 0, 0, []), (62, 2, 0, 0, 0, 0, -10, []), (64, 2, 1, 4, 0, 0, 0, []), (66, 1, 6, 1, 0, 0, 0, []), (67, 1, 39, 0, 0, 0, 0, [])]
def p79_68 : List PI := [(68, 1, 2, 0, 0, 0, 0, []), (69, 3, 18, 10, 7, 54, 0, [315]), (72, 1, 2, 0, 0, 0, 0, []), (73, 3, 17, 10, 16, 292, 0, [324]), (76, 3, 29, 3, 0, 52, 0, [222, 765, 91]), (79, 1, 32, 0, 0, 0, 0, []), (80, 1, 1, 1, 0, 0, 0, []), (81, 1, 1, 2, 0, 0, 0, []), (82, 1, 2, 0, 0, 0, 0, []), (83, 3, 18, 10, 9, 65, 0, [317]), (86, 1, 1, 3, 0, 0, 0, []), (87, 3, 37, 223, 2, 0, 1, [298, 80, 766, 767]), (90, 3, 36, 9, 4, 4, 2, [304, 91, 780, 781]), (93, 1, 26, 0, 0, 0, 0, []), (94, 1, 2, 0, 0, 0, 0, []), (95, 1, 32, 0, 0, 0, 0, []), (96, 3, 17, 10, 16, 292, 0, [324]), (99, 1, 0, 0, 0, 0, 1, []), (100, 1, 6, 0, 0, 0, 0, []), (101, 3, 19, 10, 16, 292, 0, [324]), (104, 1, 2, 0, 0, 0, 0, []), (105, 3, 17, 10, 16, 292, 0, [324]), (108, 1, 0, 0, 0, 0, 1, []), (109, 1, 6, 1, 0, 0, 0, []), (110, 1, 39, 0, 0, 0, 0, [])]
def p79 : List (Nat × List PI) := [(0, p79_0), (11, p79_11), (21, p79_21), (33, p79_33), (68, p79_68)]
def p80_0 : List PI := [(0, 1, 1, 1, 0, 0, 0, []), (1, 1, 0, 0, 0, 0, 0, []), (2, 1, 0, 0, 0, 0, 5, []), (3, 3, 35, 93, 3, 0, 1, [89, 77, 367, 368]), (6, 3, 10, 0, 23, 0, 0, []), (9, 1, 1, 2, 0, 0, 0, []), (10, 3, 35, 94, 1, 0, 1, [119, 77, 393, 394]), (13, 3, 10, 0, 23, 0, 0, []), (16, 1, 1, 3, 0, 0, 0, []), (17, 3, 35, 96, 1, 0, 1, [225, 77, 587, 588]), (20, 3, 10, 1, 25, 0, 0, []), (23, 0, 45, 0, 23, 0, 0, [])]
def p80_23 : List PI := [(23, 1, 0, 0, 0, 0, -1, []), (24, 1, 39, 0, 0, 0, 0, [])]
def p80_25 : List PI := [(25, 1, 2, 0, 0, 0, 0, []), (26, 1, 1, 1, 0, 0, 0, []), (27, 1, 1, 3, 0, 0, 0, []), (28, 3, 37, 122, 3, 11, 0, [307, 77, 801, 803, 24]), (31, 2, 4, 4, 0, 0, 0, []), (33, 2, 2, 4, 0, 0, 0, []), (35, 3, 12, 0, 50, 0, 0, []), (38, 1, 2, 0, 0, 0, 0, []), (39, 3, 18, 10, 2, 25, 0, [310]), (42, 1, 1, 2, 0, 0, 0, []), (43, 1, 23, 0, 0, 0, 0, []), (44, 3, 35, 11, 1, 5, 0, [254, 81, 641, 642, 643]), (47, 3, 10, 1, 53, 0, 0, []), (50, 0, 45, 0, 50, 0, 0, [])]
def p80_50 : List PI := [(50, 2, 0, 0, 0, 0, -5, []), (52, 1, 39, 0, 0, 0, 0, [])]
def p80_53 : List PI := [(53, 1, 2, 0, 0, 0, 0, []), (54, 3, 18, 10, 3, 35, 0, [311]), (57, 1, 2, 0, 0, 0, 0, []), (58, 3, 18, 10, 2, 25, 0, [310]), (61, 1, 1, 2, 0, 0, 0, []), (62, 1, 23, 0, 0, 0, 0, []), (63, 1, 1, 3, 0, 0, 0, []), (64, 3, 0, 0, 0, 0, 199, []), (67, 3, 36, 41, 4, 10, 0, [217, 82, 517, 518, 519]), (70, 1, 2, 0, 0, 0, 0, []), (71, 1, 1, 2, 0, 0, 0, []), (72, 1, 1, 3, 0, 0, 0, []), (73, 1, 2, 0, 0, 0, 0, []), (74, 3, 18, 10, 8, 61, 0, [316]), (77, 3, 18, 6, 0, 311, 0, [233]), (80, 3, 36, 123, 4, 11, 0, [314, 77, 805, 807, 25]), (83, 1, 2, 0, 0, 0, 0, []), (84, 3, 18, 10, 8, 61, 0, [316]), (87, 2, 2, 4, 0, 0, 0, []), (89, 3, 18, 3, 2, 317, 0, [789]), (92, 3, 35, 21, 2, 7, 0, [318, 83, 813, 814, 815]), (95, 3, 10, 0, 102, 0, 0, []), (98, 1, 0, 0, 0, 0, 1, []), (99, 3, 14, 0, 103, 0, 0, [])]
def p80_102 : List PI := [(102, 1, 0, 0, 0, 0, 0, []), (103, 0, 45, 0, 103, 0, 0, [])]
def p80_103 : List PI := [(103, 1, 39, 0, 0, 0, 0, [])]
def p80 : List (Nat × List PI) := [(0, p80_0), (23, p80_23), (25, p80_25), (50, p80_50), (53, p80_53), (102, p80_102), (103, p80_103)]
def p81_0 : List PI := [(0, 1, 1, 1, 0, 0, 0, []), (1, 1, 0, 0, 0, 0, 0, []), (2, 3, 0, 0, 0, 0, 4095, []), (5, 3, 35, 93, 3, 0, 1, [89, 77, 367, 368]), (8, 3, 10, 1, 14, 0, 0, []), (11, 2, 0, 0, 0, 0, -2, []), (13, 1, 39, 0, 0, 0, 0, [])]
def p81_14 : List PI := [(14, 1, 2, 0, 0, 0, 0, []), (15, 3, 18, 10, 10, 71, 0, [318]), (18, 3, 17, 5, 2, 322, 0, [265]), (21, 2, 0, 0, 0, 0, 8, []), (23, 3, 11, 2, 31, 0, 0, []), (26, 2, 0, 0, 0, 0, -4, []), (28, 3, 14, 0, 39, 0, 0, [])]
def p81_31 : List PI := [(31, 1, 2, 0, 0, 0, 0, []), (32, 3, 18, 10, 10, 71, 0, [318]), (35, 1, 1, 1, 0, 0, 0, []), (36, 3, 35, 15, 2, 6, 0, [323, 84, 821, 822, 823]), (39, 0, 45, 0, 39, 0, 0, [])]
def p81_39 : List PI := [(39, 1, 39, 0, 0, 0, 0, [])]
def p81 : List (Nat × List PI) := [(0, p81_0), (14, p81_14), (31, p81_31), (39, p81_39)]
def p82_0 : List PI := [(0, 1, 1, 1, 0, 0, 0, []), (1, 1, 0, 0, 0, 0, 0, []), (2, 1, 2, 0, 0, 0, 0, []), (3, 3, 18, 10, 10, 71, 0, [318]), (6, 3, 17, 5, 2, 322, 0, [265]), (9, 1, 0, 0, 0, 0, 1, []), (10, 1, 6, 1, 0, 0, 0, []), (11, 3, 35, 93, 3, 0, 1, [89, 77, 367, 368]), (14, 3, 10, 1, 19, 0, 0, []), (17, 1, 0, 0, 0, 0, -1, []), (18, 1, 39, 0, 0, 0, 0, [])]
def p82_19 : List PI := [(19, 1, 1, 2, 0, 0, 0, []), (20, 3, 35, 100, 1, 0, 1, [326, 77, 835, 836]), (23, 3, 10, 0, 38, 0, 0, []), (26, 1, 2, 0, 0, 0, 0, []), (27, 3, 18, 10, 10, 71, 0, [318]), (30, 1, 1, 1, 0, 0, 0, []), (31, 1, 1, 2, 0, 0, 0, []), (32, 3, 35, 17, 3, 6, 0, [329, 84, 838, 839, 840]), (35, 3, 14, 0, 40, 0, 0, [])]
def p82_38 : List PI := [(38, 2, 0, 0, 0, 0, -2, []), (40, 0, 45, 0, 40, 0, 0, [])]
def p82_40 : List PI := [(40, 1, 39, 0, 0, 0, 0, [])]
def p82 : List (Nat × List PI) := [(0, p82_0), (19, p82_19), (38, p82_38), (40, p82_40)]
def p83_0 : List PI := [(0, 1, 1, 1, 0, 0, 0, []), (1, 3, 35, 100, 1, 0, 1, [326, 77, 835, 836]), (4, 3, 10, 1, 10, 0, 0, []), (7, 2, 0, 0, 0, 0, -2, []), (9, 1, 39, 0, 0, 0, 0, [])]
def p83_10 : List PI := [(10, 1, 2, 0, 0, 0, 0, []), (11, 3, 18, 10, 10, 71, 0, [318]), (14, 3, 17, 5, 2, 322, 0, [265]), (17, 3, 10, 1, 25, 0, 0, []), (20, 2, 0, 0, 0, 0, -3, []), (22, 3, 14, 0, 33, 0, 0, [])]
def p83_25 : List PI := [(25, 1, 2, 0, 0, 0, 0, []), (26, 3, 18, 10, 10, 71, 0, [318]), (29, 1, 1, 1, 0, 0, 0, []), (30, 3, 35, 18, 2, 6, 0, [332, 84, 846, 847, 848]), (33, 0, 45, 0, 33, 0, 0, [])]
def p83_33 : List PI := [(33, 1, 39, 0, 0, 0, 0, [])]
def p83 : List (Nat × List PI) := [(0, p83_0), (10, p83_10), (25, p83_25), (33, p83_33)]
def p84_0 : List PI := [(0, 1, 1, 1, 0, 0, 0, []), (1, 3, 35, 100, 1, 0, 1, [326, 77, 835, 836]), (4, 3, 10, 0, 16, 0, 0, []), (7, 1, 1, 2, 0, 0, 0, []), (8, 1, 0, 0, 0, 0, 0, []), (9, 1, 0, 0, 0, 0, 4, []), (10, 3, 35, 93, 3, 0, 1, [89, 77, 367, 368]), (13, 3, 10, 1, 19, 0, 0, []), (16, 0, 45, 0, 16, 0, 0, [])]
def p84_16 : List PI := [(16, 2, 0, 0, 0, 0, -2, []), (18, 1, 39, 0, 0, 0, 0, [])]
def p84_19 : List PI := [(19, 1, 2, 0, 0, 0, 0, []), (20, 3, 18, 10, 10, 71, 0, [318]), (23, 3, 18, 5, 1, 335, 0, [263]), (26, 1, 1, 2, 0, 0, 0, []), (27, 2, 0, 0, 0, 0, 64, []), (29, 1, 6, 2, 0, 0, 0, []), (30, 1, 1, 1, 0, 0, 0, []), (31, 1, 6, 0, 0, 0, 0, []), (32, 1, 22, 0, 0, 0, 0, []), (33, 1, 39, 0, 0, 0, 0, [])]
def p84 : List (Nat × List PI) := [(0, p84_0), (16, p84_16), (19, p84_19)]
def p85_0 : List PI := [(0, 1, 2, 0, 0, 0, 0, []), (1, 3, 18, 10, 11, 78, 0, [319]), (4, 1, 0, 0, 0, 0, 0, []), (5, 3, 19, 0, 1, 338, 0, [282]), (8, 1, 2, 0, 0, 0, 0, []), (9, 1, 1, 1, 0, 0, 0, []), (10, 3, 35, 102, 2, 11, 0, [201, 77, 508, 510, 3]), (13, 3, 10, 0, 25, 0, 0, []), (16, 1, 1, 2, 0, 0, 0, []), (17, 1, 0, 0, 0, 0, 0, []), (18, 1, 0, 0, 0, 0, 2, []), (19, 3, 35, 93, 3, 0, 1, [89, 77, 367, 368]), (22, 3, 10, 1, 27, 0, 0, []), (25, 0, 45, 0, 25, 0, 0, [])]
def p85_25 : List PI := [(25, 1, 0, 0, 0, 0, 0, []), (26, 1, 39, 0, 0, 0, 0, [])]
def p85_27 : List PI := [(27, 1, 2, 0, 0, 0, 0, []), (28, 3, 18, 10, 11, 78, 0, [319]), (31, 1, 2, 0, 0, 0, 0, []), (32, 3, 18, 10, 4, 41, 0, [312]), (35, 1, 1, 1, 0, 0, 0, []), (36, 1, 23, 0, 0, 0, 0, []), (37, 1, 1, 2, 0, 0, 0, []), (38, 1, 1, 3, 0, 0, 0, []), (39, 3, 35, 1, 4, 1, 0, [341, 86, 859, 860, 861]), (42, 1, 39, 0, 0, 0, 0, [])]
def p85 : List (Nat × List PI) := [(0, p85_0), (25, p85_25), (27, p85_27)]
def p86_0 : List PI := [(0, 1, 1, 1, 0, 0, 0, []), (1, 1, 0, 0, 0, 0, 0, []), (2, 1, 2, 0, 0, 0, 0, []), (3, 3, 18, 10, 11, 78, 0, [319]), (6, 3, 17, 0, 1, 338, 0, [282]), (9, 2, 0, 0, 0, 0, 20, []), (11, 3, 35, 221, 2, 0, 1, [345, 90, 534, 535]), (14, 1, 0, 0, 0, 0, 1, []), (15, 1, 6, 1, 0, 0, 0, []), (16, 3, 35, 93, 3, 0, 1, [89, 77, 367, 368]), (19, 3, 10, 0, 34, 0, 0, []), (22, 1, 2, 0, 0, 0, 0, []), (23, 3, 18, 10, 11, 78, 0, [319]), (26, 3, 18, 0, 0, 348, 0, [280]), (29, 1, 1, 1, 0, 0, 0, []), (30, 1, 22, 0, 0, 0, 0, []), (31, 3, 14, 0, 35, 0, 0, [])]
def p86_34 : List PI := [(34, 1, 0, 0, 0, 0, -1, []), (35, 0, 45, 0, 35, 0, 0, [])]
def p86_35 : List PI := [(35, 1, 39, 0, 0, 0, 0, [])]
def p86 : List (Nat × List PI) := [(0, p86_0), (34, p86_34), (35, p86_35)]
def p87_0 : List PI := [(0, 1, 1, 2, 0, 0, 0, []), (1, 1, 0, 0, 0, 0, 0, []), (2, 2, 0, 0, 0, 0, 6, []), (4, 3, 35, 93, 3, 0, 1, [89, 77, 367, 368]), (7, 3, 10, 1, 13, 0, 0, []), (10, 2, 0, 0, 0, 0, -2, []), (12, 1, 39, 0, 0, 0, 0, [])]
def p87_13 : List PI := [(13, 1, 2, 0, 0, 0, 0, []), (14, 1, 1, 1, 0, 0, 0, []), (15, 3, 35, 102, 2, 11, 0, [201, 77, 508, 510, 3]), (18, 3, 10, 1, 24, 0, 0, []), (21, 2, 0, 0, 0, 0, -11, []), (23, 1, 39, 0, 0, 0, 0, [])]
def p87_24 : List PI := [(24, 1, 2, 0, 0, 0, 0, []), (25, 3, 18, 10, 4, 41, 0, [312]), (28, 1, 1, 1, 0, 0, 0, []), (29, 1, 23, 0, 0, 0, 0, []), (30, 3, 17, 7, 3, 205, 0, [436]), (33, 1, 3, 3, 0, 0, 0, []), (34, 1, 1, 3, 0, 0, 0, []), (35, 1, 1, 2, 0, 0, 0, []), (36, 3, 35, 103, 2, 0, 1, [351, 77, 883, 884]), (39, 3, 10, 0, 46, 0, 0, []), (42, 1, 1, 3, 0, 0, 0, []), (43, 3, 14, 0, 48, 0, 0, [])]
def p87_46 : List PI := [(46, 2, 0, 0, 0, 0, -12, []), (48, 0, 45, 0, 48, 0, 0, [])]
def p87_48 : List PI := [(48, 1, 39, 0, 0, 0, 0, [])]
def p87 : List (Nat × List PI) := [(0, p87_0), (13, p87_13), (24, p87_24), (46, p87_46), (48, p87_48)]
def p88_0 : List PI := [(0, 1, 1, 1, 0, 0, 0, []), (1, 47, 15, 0, 97, 0, 0, [48, 53, 58, 63, 68, 73, 81, 89])]
def p88_48 : List PI := [(48, 1, 2, 0, 0, 0, 0, []), (49, 3, 17, 10, 13, 93, 0, [321]), (52, 1, 39, 0, 0, 0, 0, [])]
def p88_53 : List PI := [(53, 1, 2, 0, 0, 0, 0, []), (54, 3, 17, 10, 14, 116, 0, [322]), (57, 1, 39, 0, 0, 0, 0, [])]
def p88_58 : List PI := [(58, 1, 2, 0, 0, 0, 0, []), (59, 3, 17, 10, 15, 160, 0, [323]), (62, 1, 39, 0, 0, 0, 0, [])]
def p88_63 : List PI := [(63, 1, 2, 0, 0, 0, 0, []), (64, 3, 17, 10, 16, 292, 0, [324]), (67, 1, 39, 0, 0, 0, 0, [])]
def p88_68 : List PI := [(68, 1, 2, 0, 0, 0, 0, []), (69, 3, 17, 10, 17, 289, 0, [325]), (72, 1, 39, 0, 0, 0, 0, [])]
def p88_73 : List PI := [(73, 1, 2, 0, 0, 0, 0, []), (74, 3, 18, 10, 10, 71, 0, [318]), (77, 3, 17, 5, 2, 322, 0, [265]), (80, 1, 39, 0, 0, 0, 0, [])]
def p88_81 : List PI := [(81, 1, 2, 0, 0, 0, 0, []), (82, 3, 18, 10, 1, 19, 0, [309]), (85, 3, 35, 5, 1, 2, 0, [354, 79, 891, 892, 893]), (88, 1, 39, 0, 0, 0, 0, [])]
def p88_89 : List PI := [(89, 1, 2, 0, 0, 0, 0, []), (90, 3, 18, 10, 11, 78, 0, [319]), (93, 3, 17, 0, 1, 338, 0, [282]), (96, 1, 39, 0, 0, 0, 0, [])]
def p88_97 : List PI := [(97, 2, 0, 0, 0, 0, -2, []), (99, 1, 39, 0, 0, 0, 0, [])]
def p88 : List (Nat × List PI) := [(0, p88_0), (48, p88_48), (53, p88_53), (58, p88_58), (63, p88_63), (68, p88_68), (73, p88_73), (81, p88_81), (89, p88_89), (97, p88_97)]
def p89_0 : List PI := [(0, 1, 1, 1, 0, 0, 0, []), (1, 3, 35, 101, 1, 0, 1, [189, 77, 497, 498]), (4, 3, 10, 1, 9, 0, 0, []), (7, 1, 0, 0, 0, 0, -1, []), (8, 1, 39, 0, 0, 0, 0, [])]
def p89_9 : List PI := [(9, 1, 1, 2, 0, 0, 0, []), (10, 1, 0, 0, 0, 0, -1, []), (11, 3, 11, 1, 27, 0, 0, []), (14, 1, 2, 0, 0, 0, 0, []), (15, 3, 18, 10, 12, 84, 0, [320]), (18, 1, 1, 1, 0, 0, 0, []), (19, 1, 23, 0, 0, 0, 0, []), (20, 1, 0, 0, 0, 0, -1, []), (21, 1, 0, 0, 0, 0, 0, []), (22, 3, 36, 36, 3, 9, 0, [358, 87, 899, 900, 901]), (25, 1, 0, 0, 0, 0, 1, []), (26, 1, 39, 0, 0, 0, 0, [])]
def p89_27 : List PI := [(27, 1, 1, 2, 0, 0, 0, []), (28, 1, 0, 0, 0, 0, 0, []), (29, 1, 0, 0, 0, 0, 4, []), (30, 3, 35, 93, 3, 0, 1, [89, 77, 367, 368]), (33, 3, 10, 0, 42, 0, 0, []), (36, 1, 1, 3, 0, 0, 0, []), (37, 2, 0, 0, 0, 0, 60, []), (39, 3, 11, 5, 45, 0, 0, []), (42, 0, 45, 0, 42, 0, 0, [])]
def p89_42 : List PI := [(42, 2, 0, 0, 0, 0, -2, []), (44, 1, 39, 0, 0, 0, 0, [])]
def p89_45 : List PI := [(45, 1, 1, 3, 0, 0, 0, []), (46, 3, 10, 3, 52, 0, 0, []), (49, 2, 0, 0, 0, 0, -14, []), (51, 1, 39, 0, 0, 0, 0, [])]
def p89_52 : List PI := [(52, 1, 2, 0, 0, 0, 0, []), (53, 3, 18, 10, 12, 84, 0, [320]), (56, 1, 1, 1, 0, 0, 0, []), (57, 1, 23, 0, 0, 0, 0, []), (58, 1, 1, 2, 0, 0, 0, []), (59, 1, 1, 3, 0, 0, 0, []), (60, 3, 36, 36, 3, 9, 0, [358, 87, 899, 900, 901]), (63, 1, 0, 0, 0, 0, 1, []), (64, 1, 39, 0, 0, 0, 0, [])]
def p89 : List (Nat × List PI) := [(0, p89_0), (9, p89_9), (27, p89_27), (42, p89_42), (45, p89_45), (52, p89_52)]
def p90_0 : List PI := [(0, 1, 1, 1, 0, 0, 0, []), (1, 3, 35, 101, 1, 0, 1, [189, 77, 497, 498]), (4, 3, 10, 1, 9, 0, 0, []), (7, 1, 0, 0, 0, 0, -1, []), (8, 1, 39, 0, 0, 0, 0, [])]
def p90_9 : List PI := [(9, 1, 2, 0, 0, 0, 0, []), (10, 3, 18, 10, 12, 84, 0, [320]), (13, 1, 1, 1, 0, 0, 0, []), (14, 1, 23, 0, 0, 0, 0, []), (15, 2, 4, 4, 0, 0, 0, []), (17, 2, 2, 4, 0, 0, 0, []), (19, 3, 17, 8, 0, 192, 0, [296]), (22, 1, 0, 0, 0, 0, -1, []), (23, 3, 11, 1, 29, 0, 0, []), (26, 2, 0, 0, 0, 0, -11, []), (28, 1, 39, 0, 0, 0, 0, [])]
def p90_29 : List PI := [(29, 2, 2, 4, 0, 0, 0, []), (31, 1, 1, 2, 0, 0, 0, []), (32, 3, 35, 37, 2, 9, 0, [195, 87, 500, 501, 502]), (35, 3, 10, 1, 41, 0, 0, []), (38, 2, 0, 0, 0, 0, -13, []), (40, 1, 39, 0, 0, 0, 0, [])]
def p90_41 : List PI := [(41, 2, 2, 4, 0, 0, 0, []), (43, 3, 17, 8, 0, 192, 0, [296]), (46, 1, 0, 0, 0, 0, 3, []), (47, 3, 11, 1, 66, 0, 0, []), (50, 1, 1, 3, 0, 0, 0, []), (51, 3, 0, 0, 908, 362, -8000000, []), (54, 3, 0, 0, 909, 363, 8000000, []), (57, 3, 35, 93, 3, 0, 1, [89, 77, 367, 368]), (60, 3, 10, 1, 66, 0, 0, []), (63, 2, 0, 0, 0, 0, -2, []), (65, 1, 39, 0, 0, 0, 0, [])]
def p90_66 : List PI := [(66, 2, 2, 4, 0, 0, 0, []), (68, 3, 18, 8, 2, 198, 0, [300]), (71, 1, 1, 2, 0, 0, 0, []), (72, 2, 2, 4, 0, 0, 0, []), (74, 1, 1, 3, 0, 0, 0, []), (75, 3, 35, 39, 2, 9, 0, [364, 87, 910, 911, 912]), (78, 1, 24, 0, 0, 0, 0, []), (79, 1, 0, 0, 0, 0, 1, []), (80, 1, 39, 0, 0, 0, 0, [])]
def p90 : List (Nat × List PI) := [(0, p90_0), (9, p90_9), (29, p90_29), (41, p90_41), (66, p90_66)]
def p91_0 : List PI := [(0, 1, 1, 1, 0, 0, 0, []), (1, 3, 35, 101, 1, 0, 1, [189, 77, 497, 498]), (4, 3, 10, 0, 20, 0, 0, []), (7, 1, 2, 0, 0, 0, 0, []), (8, 3, 18, 10, 12, 84, 0, [320]), (11, 1, 1, 1, 0, 0, 0, []), (12, 1, 23, 0, 0, 0, 0, []), (13, 1, 1, 2, 0, 0, 0, []), (14, 3, 35, 37, 2, 9, 0, [195, 87, 500, 501, 502]), (17, 3, 10, 1, 23, 0, 0, []), (20, 0, 45, 0, 20, 0, 0, [])]
def p91_20 : List PI := [(20, 2, 0, 0, 512, 204, -1000000000, []), (22, 1, 39, 0, 0, 0, 0, [])]
def p91_23 : List PI := [(23, 1, 2, 0, 0, 0, 0, []), (24, 3, 18, 10, 12, 84, 0, [320]), (27, 1, 1, 1, 0, 0, 0, []), (28, 1, 23, 0, 0, 0, 0, []), (29, 3, 18, 8, 2, 198, 0, [300]), (32, 1, 1, 2, 0, 0, 0, []), (33, 1, 22, 0, 0, 0, 0, []), (34, 1, 39, 0, 0, 0, 0, [])]
def p91 : List (Nat × List PI) := [(0, p91_0), (20, p91_20), (23, p91_23)]
def p92_0 : List PI := [(0, 1, 1, 1, 0, 0, 0, []), (1, 3, 35, 101, 1, 0, 1, [189, 77, 497, 498]), (4, 3, 10, 0, 14, 0, 0, []), (7, 1, 1, 3, 0, 0, 0, []), (8, 3, 35, 101, 1, 0, 1, [189, 77, 497, 498]), (11, 3, 10, 1, 16, 0, 0, []), (14, 0, 45, 0, 14, 0, 0, [])]
def p92_14 : List PI := [(14, 1, 0, 0, 0, 0, -1, []), (15, 1, 39, 0, 0, 0, 0, [])]
def p92_16 : List PI := [(16, 1, 2, 0, 0, 0, 0, []), (17, 3, 18, 10, 12, 84, 0, [320]), (20, 1, 1, 1, 0, 0, 0, []), (21, 1, 23, 0, 0, 0, 0, []), (22, 2, 4, 6, 0, 0, 0, []), (24, 1, 2, 0, 0, 0, 0, []), (25, 3, 18, 10, 12, 84, 0, [320]), (28, 1, 1, 3, 0, 0, 0, []), (29, 1, 23, 0, 0, 0, 0, []), (30, 2, 4, 7, 0, 0, 0, []), (32, 2, 2, 6, 0, 0, 0, []), (34, 3, 17, 8, 0, 192, 0, [296]), (37, 1, 0, 0, 0, 0, -1, []), (38, 3, 11, 0, 50, 0, 0, []), (41, 2, 2, 7, 0, 0, 0, []), (43, 3, 17, 8, 0, 192, 0, [296]), (46, 1, 0, 0, 0, 0, -1, []), (47, 3, 11, 1, 53, 0, 0, []), (50, 0, 45, 0, 50, 0, 0, [])]
def p92_50 : List PI := [(50, 2, 0, 0, 0, 0, -11, []), (52, 1, 39, 0, 0, 0, 0, [])]
def p92_53 : List PI := [(53, 2, 2, 6, 0, 0, 0, []), (55, 3, 17, 8, 0, 192, 0, [296]), (58, 2, 2, 7, 0, 0, 0, []), (60, 3, 17, 8, 0, 192, 0, [296]), (63, 3, 11, 0, 69, 0, 0, []), (66, 2, 0, 0, 0, 0, -12, []), (68, 1, 39, 0, 0, 0, 0, [])]
def p92_69 : List PI := [(69, 2, 2, 6, 0, 0, 0, []), (71, 1, 1, 2, 0, 0, 0, []), (72, 2, 1, 5, 0, 0, 0, []), (74, 3, 35, 38, 3, 9, 0, [367, 87, 922, 923, 924]), (77, 3, 10, 0, 92, 0, 0, []), (80, 2, 2, 7, 0, 0, 0, []), (82, 2, 1, 4, 0, 0, 0, []), (84, 2, 1, 5, 0, 0, 0, []), (86, 3, 35, 38, 3, 9, 0, [367, 87, 922, 923, 924]), (89, 3, 10, 1, 95, 0, 0, []), (92, 0, 45, 0, 92, 0, 0, [])]
def p92_92 : List PI := [(92, 2, 0, 0, 0, 0, -13, []), (94, 1, 39, 0, 0, 0, 0, [])]
def p92_95 : List PI := [(95, 2, 2, 6, 0, 0, 0, []), (97, 3, 18, 8, 2, 198, 0, [300]), (100, 1, 1, 2, 0, 0, 0, []), (101, 2, 2, 7, 0, 0, 0, []), (103, 3, 18, 8, 2, 198, 0, [300]), (106, 2, 1, 4, 0, 0, 0, []), (108, 2, 1, 5, 0, 0, 0, []), (110, 3, 44, 0, 0, 370, 0, [926, 779, 778, 92]), (113, 2, 1, 5, 0, 0, 0, []), (115, 1, 39, 0, 0, 0, 0, [])]
def p92 : List (Nat × List PI) := [(0, p92_0), (14, p92_14), (16, p92_16), (50, p92_50), (53, p92_53), (69, p92_69), (92, p92_92), (95, p92_95)]
def p93_0 : List PI := [(0, 1, 1, 0, 0, 0, 0, []), (1, 1, 1, 1, 0, 0, 0, []), (2, 3, 11, 2, 14, 0, 0, []), (5, 1, 1, 0, 0, 0, 0, []), (6, 1, 1, 2, 0, 0, 0, []), (7, 3, 11, 4, 14, 0, 0, []), (10, 1, 0, 0, 0, 0, 1, []), (11, 3, 14, 0, 15, 0, 0, [])]
def p93_14 : List PI := [(14, 1, 0, 0, 0, 0, 0, []), (15, 0, 45, 0, 15, 0, 0, [])]
def p93_15 : List PI := [(15, 1, 40, 0, 0, 0, 0, [])]
def p93 : List (Nat × List PI) := [(0, p93_0), (14, p93_14), (15, p93_15)]
def p94_0 : List PI := [(0, 1, 1, 0, 0, 0, 0, []), (1, 1, 0, 0, 0, 0, 0, []), (2, 1, 0, 0, 0, 0, 1, []), (3, 3, 35, 93, 3, 0, 1, [89, 77, 367, 368]), (6, 1, 40, 0, 0, 0, 0, [])]
def p94 : List (Nat × List PI) := [(0, p94_0)]
def p95_0 : List PI := [(0, 1, 1, 0, 0, 0, 0, []), (1, 1, 0, 0, 0, 0, 0, []), (2, 3, 0, 0, 0, 0, 199, []), (5, 3, 35, 93, 3, 0, 1, [89, 77, 367, 368]), (8, 1, 40, 0, 0, 0, 0, [])]
def p95 : List (Nat × List PI) := [(0, p95_0)]
def p96_0 : List PI := [(0, 1, 1, 0, 0, 0, 0, []), (1, 1, 0, 0, 0, 0, 0, []), (2, 2, 0, 0, 0, 0, 99, []), (4, 3, 35, 93, 3, 0, 1, [89, 77, 367, 368]), (7, 1, 40, 0, 0, 0, 0, [])]
def p96 : List (Nat × List PI) := [(0, p96_0)]
def p97_0 : List PI := [(0, 1, 1, 0, 0, 0, 0, []), (1, 3, 0, 0, 0, 0, -400, []), (4, 3, 0, 0, 0, 0, 399, []), (7, 3, 35, 93, 3, 0, 1, [89, 77, 367, 368]), (10, 3, 10, 0, 30, 0, 0, []), (13, 1, 1, 1, 0, 0, 0, []), (14, 3, 0, 0, 0, 0, -400, []), (17, 3, 0, 0, 0, 0, 399, []), (20, 3, 35, 93, 3, 0, 1, [89, 77, 367, 368]), (23, 3, 10, 0, 30, 0, 0, []), (26, 1, 0, 0, 0, 0, 1, []), (27, 3, 14, 0, 31, 0, 0, [])]
def p97_30 : List PI := [(30, 1, 0, 0, 0, 0, 0, []), (31, 0, 45, 0, 31, 0, 0, [])]
def p97_31 : List PI := [(31, 1, 40, 0, 0, 0, 0, [])]
def p97 : List (Nat × List PI) := [(0, p97_0), (30, p97_30), (31, p97_31)]
def p98_0 : List PI := [(0, 1, 1, 0, 0, 0, 0, []), (1, 1, 0, 0, 0, 0, 0, []), (2, 3, 0, 0, 0, 0, 5400, []), (5, 3, 35, 93, 3, 0, 1, [89, 77, 367, 368]), (8, 1, 40, 0, 0, 0, 0, [])]
def p98 : List (Nat × List PI) := [(0, p98_0)]
def p99_0 : List PI := [(0, 1, 1, 0, 0, 0, 0, []), (1, 1, 0, 0, 0, 0, 0, []), (2, 2, 0, 0, 0, 0, 99, []), (4, 3, 35, 93, 3, 0, 1, [89, 77, 367, 368]), (7, 1, 40, 0, 0, 0, 0, [])]
def p99 : List (Nat × List PI) := [(0, p99_0)]
def p100_0 : List PI := [(0, 1, 1, 0, 0, 0, 0, []), (1, 1, 0, 0, 0, 0, 1, []), (2, 2, 0, 0, 0, 0, 63, []), (4, 3, 35, 93, 3, 0, 1, [89, 77, 367, 368]), (7, 1, 40, 0, 0, 0, 0, [])]
def p100 : List (Nat × List PI) := [(0, p100_0)]
def p101_0 : List PI := [(0, 1, 1, 0, 0, 0, 0, []), (1, 1, 0, 0, 0, 0, 0, []), (2, 1, 0, 0, 0, 0, 5, []), (3, 3, 35, 93, 3, 0, 1, [89, 77, 367, 368]), (6, 1, 40, 0, 0, 0, 0, [])]
def p101 : List (Nat × List PI) := [(0, p101_0)]
def p102_0 : List PI := [(0, 1, 1, 1, 0, 0, 0, []), (1, 1, 0, 0, 0, 0, 0, []), (2, 1, 2, 0, 0, 0, 0, []), (3, 3, 17, 10, 15, 160, 0, [323]), (6, 1, 0, 0, 0, 0, 1, []), (7, 1, 6, 1, 0, 0, 0, []), (8, 3, 35, 93, 3, 0, 1, [89, 77, 367, 368]), (11, 1, 40, 0, 0, 0, 0, [])]
def p102 : List (Nat × List PI) := [(0, p102_0)]
def p103_0 : List PI := [(0, 1, 1, 0, 0, 0, 0, []), (1, 1, 3, 2, 0, 0, 0, []), (2, 1, 0, 0, 0, 0, 0, []), (3, 1, 3, 3, 0, 0, 0, []), (4, 0, 45, 0, 4, 0, 0, [])]
def p103_4 : List PI := [(4, 1, 1, 2, 0, 0, 0, []), (5, 3, 10, 2, 33, 0, 0, []), (8, 1, 1, 3, 0, 0, 0, []), (9, 2, 0, 0, 0, 0, 7, []), (11, 3, 11, 3, 33, 0, 0, []), (14, 1, 1, 2, 0, 0, 0, []), (15, 1, 1, 1, 0, 0, 0, []), (16, 3, 11, 1, 21, 0, 0, []), (19, 1, 0, 0, 0, 0, 1, []), (20, 1, 40, 0, 0, 0, 0, [])]
def p103_21 : List PI := [(21, 3, 28, 1, 0, 376, 0, [886]), (24, 1, 1, 2, 0, 0, 0, []), (25, 1, 22, 0, 0, 0, 0, []), (26, 1, 3, 2, 0, 0, 0, []), (27, 3, 5, 3, 0, 0, 1, []), (30, 3, 14, 0, 4, 0, 0, [])]
def p103_33 : List PI := [(33, 1, 0, 0, 0, 0, 0, []), (34, 1, 40, 0, 0, 0, 0, [])]
def p103 : List (Nat × List PI) := [(0, p103_0), (4, p103_4), (21, p103_21), (33, p103_33)]
def p104_0 : List PI := [(0, 3, 0, 0, 0, 0, -400, []), (3, 3, 0, 0, 0, 0, 399, []), (6, 1, 1, 0, 0, 0, 0, []), (7, 3, 35, 221, 2, 0, 1, [345, 90, 534, 535]), (10, 3, 35, 220, 2, 0, 1, [379, 90, 537, 538]), (13, 1, 39, 0, 0, 0, 0, [])]
def p104 : List (Nat × List PI) := [(0, p104_0)]
def p105_0 : List PI := [(0, 2, 0, 0, 0, 0, 8, []), (2, 1, 1, 1, 0, 0, 0, []), (3, 3, 0, 0, 0, 0, -400, []), (6, 1, 6, 1, 0, 0, 0, []), (7, 2, 0, 0, 0, 0, 100, []), (9, 1, 7, 0, 0, 0, 0, []), (10, 1, 6, 2, 0, 0, 0, []), (11, 1, 1, 0, 0, 0, 0, []), (12, 3, 0, 0, 0, 0, -400, []), (15, 1, 6, 1, 0, 0, 0, []), (16, 2, 0, 0, 0, 0, 100, []), (18, 1, 7, 0, 0, 0, 0, []), (19, 1, 6, 0, 0, 0, 0, []), (20, 1, 39, 0, 0, 0, 0, [])]
def p105 : List (Nat × List PI) := [(0, p105_0)]
def p106_0 : List PI := [(0, 1, 1, 0, 0, 0, 0, []), (1, 3, 35, 219, 1, 0, 1, [268, 90, 572, 573]), (4, 1, 3, 2, 0, 0, 0, []), (5, 1, 1, 1, 0, 0, 0, []), (6, 3, 35, 219, 1, 0, 1, [268, 90, 572, 573]), (9, 1, 3, 3, 0, 0, 0, []), (10, 3, 0, 0, 0, 0, 5400, []), (13, 1, 1, 2, 0, 0, 0, []), (14, 1, 1, 3, 0, 0, 0, []), (15, 3, 35, 220, 2, 0, 1, [379, 90, 537, 538]), (18, 1, 6, 1, 0, 0, 0, []), (19, 1, 1, 2, 0, 0, 0, []), (20, 1, 1, 3, 0, 0, 0, []), (21, 3, 35, 221, 2, 0, 1, [345, 90, 534, 535]), (24, 1, 0, 0, 0, 0, 2, []), (25, 1, 7, 0, 0, 0, 0, []), (26, 1, 6, 1, 0, 0, 0, []), (27, 1, 39, 0, 0, 0, 0, [])]
def p106 : List (Nat × List PI) := [(0, p106_0)]
def p107_0 : List PI := [(0, 3, 29, 7, 0, 39, 0, [221, 419, 89]), (3, 1, 32, 0, 0, 0, 0, []), (4, 1, 2, 0, 0, 0, 0, []), (5, 3, 17, 10, 15, 160, 0, [323]), (8, 1, 1, 1, 0, 0, 0, []), (9, 1, 1, 2, 0, 0, 0, []), (10, 1, 1, 3, 0, 0, 0, []), (11, 1, 2, 0, 0, 0, 0, []), (12, 3, 17, 10, 13, 93, 0, [321]), (15, 3, 36, 30, 6, 8, 2, [382, 89, 420, 421]), (18, 2, 4, 4, 0, 0, 0, []), (20, 1, 2, 0, 0, 0, 0, []), (21, 3, 18, 10, 4, 41, 0, [312]), (24, 1, 2, 0, 0, 0, 0, []), (25, 3, 17, 10, 15, 160, 0, [323]), (28, 2, 2, 4, 0, 0, 0, []), (30, 1, 26, 0, 0, 0, 0, []), (31, 1, 2, 0, 0, 0, 0, []), (32, 1, 32, 0, 0, 0, 0, []), (33, 3, 17, 10, 15, 160, 0, [323]), (36, 1, 0, 0, 0, 0, 1, []), (37, 1, 6, 0, 0, 0, 0, []), (38, 3, 19, 10, 15, 160, 0, [323]), (41, 2, 2, 4, 0, 0, 0, []), (43, 1, 41, 0, 0, 0, 0, [])]
def p107 : List (Nat × List PI) := [(0, p107_0)]
def p108_0 : List PI := [(0, 1, 2, 0, 0, 0, 0, []), (1, 1, 1, 1, 0, 0, 0, []), (2, 1, 1, 2, 0, 0, 0, []), (3, 1, 1, 3, 0, 0, 0, []), (4, 3, 37, 107, 4, 11, 0, [163, 77, 415, 417, 1]), (7, 2, 4, 6, 0, 0, 0, []), (9, 2, 2, 6, 0, 0, 0, []), (11, 2, 1, 4, 0, 0, 0, []), (13, 3, 19, 7, 5, 167, 0, [443]), (16, 2, 2, 6, 0, 0, 0, []), (18, 2, 1, 5, 0, 0, 0, []), (20, 3, 19, 7, 6, 170, 0, [445]), (23, 2, 2, 6, 0, 0, 0, []), (25, 3, 17, 7, 0, 176, 0, [427]), (28, 1, 39, 0, 0, 0, 0, [])]
def p108 : List (Nat × List PI) := [(0, p108_0)]
def p109_0 : List PI := [(0, 1, 0, 0, 0, 0, 0, []), (1, 1, 3, 3, 0, 0, 0, []), (2, 1, 0, 0, 0, 0, 0, []), (3, 2, 3, 4, 0, 0, 0, []), (5, 0, 45, 0, 5, 0, 0, [])]
def p109_5 : List PI := [(5, 2, 1, 4, 0, 0, 0, []), (7, 1, 2, 0, 0, 0, 0, []), (8, 3, 17, 10, 14, 116, 0, [322]), (11, 3, 11, 3, 36, 0, 0, []), (14, 1, 1, 2, 0, 0, 0, []), (15, 2, 1, 4, 0, 0, 0, []), (17, 1, 6, 7, 0, 0, 0, []), (18, 1, 0, 0, 0, 0, 1, []), (19, 1, 6, 3, 0, 0, 0, []), (20, 3, 10, 0, 30, 0, 0, []), (23, 1, 1, 3, 0, 0, 0, []), (24, 1, 2, 1, 0, 0, 0, []), (25, 2, 1, 4, 0, 0, 0, []), (27, 1, 22, 0, 0, 0, 0, []), (28, 1, 6, 0, 0, 0, 0, []), (29, 1, 3, 3, 0, 0, 0, []), (30, 0, 45, 0, 30, 0, 0, [])]
def p109_30 : List PI := [(30, 3, 5, 4, 0, 0, 1, []), (33, 3, 14, 0, 5, 0, 0, [])]
def p109_36 : List PI := [(36, 1, 1, 3, 0, 0, 0, []), (37, 1, 39, 0, 0, 0, 0, [])]
def p109 : List (Nat × List PI) := [(0, p109_0), (5, p109_5), (30, p109_30), (36, p109_36)]
def p110_0 : List PI := [(0, 1, 2, 1, 0, 0, 0, []), (1, 3, 17, 7, 3, 205, 0, [436]), (4, 36, 15, 0, 150, 0, 1, [40, 150, 60, 101, 112])]
def p110_40 : List PI := [(40, 1, 2, 0, 0, 0, 0, []), (41, 3, 18, 10, 3, 35, 0, [311]), (44, 1, 2, 1, 0, 0, 0, []), (45, 3, 17, 7, 2, 211, 0, [433]), (48, 3, 35, 48, 2, 10, 0, [238, 82, 547, 548, 549]), (51, 3, 10, 4, 58, 0, 0, []), (54, 1, 0, 0, 0, 0, 1, []), (55, 3, 14, 0, 59, 0, 0, [])]
def p110_58 : List PI := [(58, 1, 0, 0, 0, 0, 0, []), (59, 0, 45, 0, 59, 0, 0, [])]
def p110_59 : List PI := [(59, 1, 40, 0, 0, 0, 0, [])]
def p110_60 : List PI := [(60, 1, 2, 1, 0, 0, 0, []), (61, 3, 17, 7, 5, 167, 0, [443]), (64, 1, 2, 0, 0, 0, 0, []), (65, 3, 18, 10, 3, 35, 0, [311]), (68, 1, 2, 1, 0, 0, 0, []), (69, 3, 17, 7, 2, 211, 0, [433]), (72, 3, 35, 46, 2, 10, 0, [248, 82, 564, 565, 566]), (75, 1, 2, 0, 0, 0, 0, []), (76, 3, 18, 10, 0, 12, 0, [308]), (79, 3, 18, 2, 3, 106, 0, [117]), (82, 1, 1, 2, 0, 0, 0, []), (83, 1, 1, 3, 0, 0, 0, []), (84, 3, 35, 105, 2, 0, 1, [385, 77, 568, 541]), (87, 1, 22, 0, 0, 0, 0, []), (88, 1, 6, 0, 0, 0, 0, []), (89, 2, 0, 0, 0, 0, 15, []), (91, 1, 6, 3, 0, 0, 0, []), (92, 3, 11, 1, 99, 0, 0, []), (95, 1, 0, 0, 0, 0, 1, []), (96, 3, 14, 0, 100, 0, 0, [])]
def p110_99 : List PI := [(99, 1, 0, 0, 0, 0, 0, []), (100, 0, 45, 0, 100, 0, 0, [])]
def p110_100 : List PI := [(100, 1, 40, 0, 0, 0, 0, [])]
def p110_101 : List PI := [(101, 1, 2, 0, 0, 0, 0, []), (102, 1, 2, 1, 0, 0, 0, []), (103, 1, 1, 2, 0, 0, 0, []), (104, 1, 1, 3, 0, 0, 0, []), (105, 3, 35, 106, 2, 0, 1, [241, 77, 569, 570]), (108, 3, 35, 112, 3, 11, 0, [388, 77, 575, 577, 6]), (111, 1, 40, 0, 0, 0, 0, [])]
def p110_112 : List PI := [(112, 1, 1, 2, 0, 0, 0, []), (113, 1, 2, 1, 0, 0, 0, []), (114, 3, 17, 7, 6, 170, 0, [445]), (117, 1, 6, 1, 0, 0, 0, []), (118, 3, 35, 219, 1, 0, 1, [268, 90, 572, 573]), (121, 1, 2, 1, 0, 0, 0, []), (122, 3, 17, 7, 8, 186, 0, [450]), (125, 3, 11, 4, 148, 0, 0, []), (128, 1, 1, 3, 0, 0, 0, []), (129, 1, 2, 1, 0, 0, 0, []), (130, 3, 17, 7, 7, 173, 0, [448]), (133, 1, 6, 1, 0, 0, 0, []), (134, 3, 35, 219, 1, 0, 1, [268, 90, 572, 573]), (137, 1, 2, 1, 0, 0, 0, []), (138, 3, 17, 7, 8, 186, 0, [450]), (141, 3, 11, 4, 148, 0, 0, []), (144, 1, 0, 0, 0, 0, 1, []), (145, 3, 14, 0, 149, 0, 0, [])]
def p110_148 : List PI := [(148, 1, 0, 0, 0, 0, 0, []), (149, 0, 45, 0, 149, 0, 0, [])]
def p110_149 : List PI := [(149, 1, 40, 0, 0, 0, 0, [])]
def p110_150 : List PI := [(150, 1, 2, 0, 0, 0, 0, []), (151, 1, 2, 1, 0, 0, 0, []), (152, 1, 1, 2, 0, 0, 0, []), (153, 1, 1, 3, 0, 0, 0, []), (154, 3, 35, 106, 2, 0, 1, [241, 77, 569, 570]), (157, 3, 35, 111, 3, 11, 0, [392, 77, 579, 581, 7]), (160, 1, 40, 0, 0, 0, 0, [])]
def p110 : List (Nat × List PI) := [(0, p110_0), (40, p110_40), (58, p110_58), (59, p110_59), (60, p110_60), (99, p110_99), (100, p110_100), (101, p110_101), (112, p110_112), (148, p110_148), (149, p110_149), (150, p110_150)]
def p111_0 : List PI := [(0, 3, 0, 0, 0, 0, 5400, []), (3, 1, 2, 1, 0, 0, 0, []), (4, 3, 17, 7, 5, 167, 0, [443]), (7, 1, 6, 1, 0, 0, 0, []), (8, 1, 2, 0, 0, 0, 0, []), (9, 3, 18, 10, 1, 19, 0, [309]), (12, 3, 18, 1, 0, 113, 0, [138]), (15, 1, 2, 1, 0, 0, 0, []), (16, 3, 17, 7, 2, 211, 0, [433]), (19, 1, 22, 0, 0, 0, 0, []), (20, 1, 6, 0, 0, 0, 0, []), (21, 1, 3, 3, 0, 0, 0, []), (22, 1, 1, 2, 0, 0, 0, []), (23, 1, 1, 3, 0, 0, 0, []), (24, 1, 6, 1, 0, 0, 0, []), (25, 3, 35, 219, 1, 0, 1, [268, 90, 572, 573]), (28, 1, 2, 1, 0, 0, 0, []), (29, 3, 17, 7, 6, 170, 0, [445]), (32, 3, 11, 4, 39, 0, 0, []), (35, 1, 0, 0, 0, 0, 1, []), (36, 3, 14, 0, 40, 0, 0, [])]
def p111_39 : List PI := [(39, 1, 0, 0, 0, 0, 0, []), (40, 0, 45, 0, 40, 0, 0, [])]
def p111_40 : List PI := [(40, 1, 40, 0, 0, 0, 0, [])]
def p111 : List (Nat × List PI) := [(0, p111_0), (39, p111_39), (40, p111_40)]
def p112_0 : List PI := [(0, 1, 2, 1, 0, 0, 0, []), (1, 3, 17, 7, 6, 170, 0, [445]), (4, 3, 10, 4, 9, 0, 0, []), (7, 1, 0, 0, 0, 0, 0, []), (8, 1, 40, 0, 0, 0, 0, [])]
def p112_9 : List PI := [(9, 2, 0, 0, 0, 0, 100, []), (11, 1, 2, 1, 0, 0, 0, []), (12, 3, 17, 7, 5, 167, 0, [443]), (15, 1, 6, 2, 0, 0, 0, []), (16, 1, 2, 1, 0, 0, 0, []), (17, 3, 17, 7, 6, 170, 0, [445]), (20, 1, 7, 0, 0, 0, 0, []), (21, 1, 3, 3, 0, 0, 0, []), (22, 1, 2, 0, 0, 0, 0, []), (23, 3, 18, 10, 1, 19, 0, [309]), (26, 3, 18, 1, 0, 113, 0, [138]), (29, 1, 2, 1, 0, 0, 0, []), (30, 3, 17, 7, 2, 211, 0, [433]), (33, 1, 22, 0, 0, 0, 0, []), (34, 3, 0, 0, 0, 0, 5400, []), (37, 1, 6, 0, 0, 0, 0, []), (38, 1, 1, 2, 0, 0, 0, []), (39, 1, 6, 1, 0, 0, 0, []), (40, 2, 0, 0, 0, 0, 54, []), (42, 1, 7, 0, 0, 0, 0, []), (43, 2, 3, 4, 0, 0, 0, []), (45, 2, 1, 4, 0, 0, 0, []), (47, 1, 1, 3, 0, 0, 0, []), (48, 1, 6, 1, 0, 0, 0, []), (49, 3, 35, 219, 1, 0, 1, [268, 90, 572, 573]), (52, 1, 2, 1, 0, 0, 0, []), (53, 3, 17, 7, 7, 173, 0, [448]), (56, 3, 11, 4, 63, 0, 0, []), (59, 1, 0, 0, 0, 0, 1, []), (60, 3, 14, 0, 64, 0, 0, [])]
def p112_63 : List PI := [(63, 1, 0, 0, 0, 0, 0, []), (64, 0, 45, 0, 64, 0, 0, [])]
def p112_64 : List PI := [(64, 1, 40, 0, 0, 0, 0, [])]
def p112 : List (Nat × List PI) := [(0, p112_0), (9, p112_9), (63, p112_63), (64, p112_64)]
def p113_0 : List PI := [(0, 1, 2, 1, 0, 0, 0, []), (1, 3, 17, 4, 6, 151, 0, [169]), (4, 1, 2, 0, 0, 0, 0, []), (5, 3, 18, 10, 3, 35, 0, [311]), (8, 1, 2, 1, 0, 0, 0, []), (9, 3, 17, 4, 8, 148, 0, [173]), (12, 3, 35, 43, 2, 10, 0, [228, 82, 590, 591, 592]), (15, 1, 6, 1, 0, 0, 0, []), (16, 1, 2, 1, 0, 0, 0, []), (17, 3, 17, 4, 8, 148, 0, [173]), (20, 1, 0, 0, 0, 0, 1, []), (21, 1, 6, 0, 0, 0, 0, []), (22, 3, 35, 218, 2, 0, 1, [395, 90, 649, 650]), (25, 1, 39, 0, 0, 0, 0, [])]
def p113 : List (Nat × List PI) := [(0, p113_0)]
def p114_0 : List PI := [(0, 1, 2, 1, 0, 0, 0, []), (1, 3, 17, 4, 7, 154, 0, [171]), (4, 1, 2, 0, 0, 0, 0, []), (5, 3, 18, 10, 3, 35, 0, [311]), (8, 1, 2, 1, 0, 0, 0, []), (9, 3, 17, 4, 8, 148, 0, [173]), (12, 3, 35, 44, 2, 10, 0, [232, 82, 594, 595, 596]), (15, 1, 6, 1, 0, 0, 0, []), (16, 1, 2, 1, 0, 0, 0, []), (17, 3, 17, 4, 8, 148, 0, [173]), (20, 1, 0, 0, 0, 0, 1, []), (21, 1, 6, 0, 0, 0, 0, []), (22, 3, 35, 218, 2, 0, 1, [395, 90, 649, 650]), (25, 1, 39, 0, 0, 0, 0, [])]
def p114 : List (Nat × List PI) := [(0, p114_0)]
def p115_0 : List PI := [(0, 1, 0, 0, 0, 0, 0, []), (1, 1, 3, 3, 0, 0, 0, []), (2, 0, 45, 0, 2, 0, 0, [])]
def p115_2 : List PI := [(2, 1, 1, 3, 0, 0, 0, []), (3, 1, 2, 0, 0, 0, 0, []), (4, 3, 17, 10, 15, 160, 0, [323]), (7, 3, 11, 3, 96, 0, 0, []), (10, 1, 2, 0, 0, 0, 0, []), (11, 3, 18, 10, 4, 41, 0, [312]), (14, 1, 1, 3, 0, 0, 0, []), (15, 1, 23, 0, 0, 0, 0, []), (16, 1, 1, 1, 0, 0, 0, []), (17, 1, 1, 2, 0, 0, 0, []), (18, 3, 35, 32, 3, 8, 0, [398, 89, 619, 620, 621]), (21, 3, 10, 1, 27, 0, 0, []), (24, 3, 14, 0, 90, 0, 0, [])]
def p115_27 : List PI := [(27, 1, 1, 3, 0, 0, 0, []), (28, 1, 0, 0, 0, 0, 1, []), (29, 1, 6, 0, 0, 0, 0, []), (30, 2, 3, 4, 0, 0, 0, []), (32, 0, 45, 0, 32, 0, 0, [])]
def p115_32 : List PI := [(32, 2, 1, 4, 0, 0, 0, []), (34, 1, 2, 0, 0, 0, 0, []), (35, 3, 17, 10, 15, 160, 0, [323]), (38, 3, 11, 3, 90, 0, 0, []), (41, 1, 2, 0, 0, 0, 0, []), (42, 3, 18, 10, 4, 41, 0, [312]), (45, 2, 1, 4, 0, 0, 0, []), (47, 1, 23, 0, 0, 0, 0, []), (48, 1, 1, 1, 0, 0, 0, []), (49, 1, 1, 2, 0, 0, 0, []), (50, 3, 35, 32, 3, 8, 0, [398, 89, 619, 620, 621]), (53, 3, 10, 0, 84, 0, 0, []), (56, 1, 2, 0, 0, 0, 0, []), (57, 3, 18, 10, 4, 41, 0, [312]), (60, 1, 1, 3, 0, 0, 0, []), (61, 1, 23, 0, 0, 0, 0, []), (62, 1, 2, 0, 0, 0, 0, []), (63, 3, 18, 10, 4, 41, 0, [312]), (66, 2, 1, 4, 0, 0, 0, []), (68, 1, 23, 0, 0, 0, 0, []), (69, 3, 35, 33, 2, 8, 0, [401, 89, 627, 628, 629]), (72, 3, 10, 0, 84, 0, 0, []), (75, 3, 0, 0, 0, 0, 1000, []), (78, 1, 1, 3, 0, 0, 0, []), (79, 1, 6, 2, 0, 0, 0, []), (80, 2, 1, 4, 0, 0, 0, []), (82, 1, 6, 0, 0, 0, 0, []), (83, 1, 39, 0, 0, 0, 0, [])]
def p115_84 : List PI := [(84, 3, 5, 4, 0, 0, 1, []), (87, 3, 14, 0, 32, 0, 0, [])]
def p115_90 : List PI := [(90, 3, 5, 3, 0, 0, 1, []), (93, 3, 14, 0, 2, 0, 0, [])]
def p115_96 : List PI := [(96, 2, 0, 0, 0, 0, -5, []), (98, 1, 39, 0, 0, 0, 0, [])]
def p115 : List (Nat × List PI) := [(0, p115_0), (2, p115_2), (27, p115_27), (32, p115_32), (84, p115_84), (90, p115_90), (96, p115_96)]
def p116_0 : List PI := [(0, 1, 1, 1, 0, 0, 0, []), (1, 1, 0, 0, 0, 0, 2, []), (2, 3, 11, 1, 10, 0, 0, []), (5, 1, 2, 2, 0, 0, 0, []), (6, 3, 17, 4, 4, 142, 0, [164]), (9, 1, 39, 0, 0, 0, 0, [])]
def p116_10 : List PI := [(10, 1, 1, 1, 0, 0, 0, []), (11, 3, 10, 1, 29, 0, 0, []), (14, 1, 1, 3, 0, 0, 0, []), (15, 1, 2, 2, 0, 0, 0, []), (16, 3, 17, 4, 8, 148, 0, [173]), (19, 3, 11, 1, 29, 0, 0, []), (22, 1, 2, 2, 0, 0, 0, []), (23, 3, 17, 4, 6, 151, 0, [169]), (26, 3, 14, 0, 37, 0, 0, [])]
def p116_29 : List PI := [(29, 1, 2, 0, 0, 0, 0, []), (30, 3, 18, 10, 3, 35, 0, [311]), (33, 1, 1, 3, 0, 0, 0, []), (34, 3, 35, 43, 2, 10, 0, [228, 82, 590, 591, 592]), (37, 0, 45, 0, 37, 0, 0, [])]
def p116_37 : List PI := [(37, 1, 39, 0, 0, 0, 0, [])]
def p116 : List (Nat × List PI) := [(0, p116_0), (10, p116_10), (29, p116_29), (37, p116_37)]
def p117_0 : List PI := [(0, 1, 1, 1, 0, 0, 0, []), (1, 1, 0, 0, 0, 0, 2, []), (2, 3, 11, 1, 10, 0, 0, []), (5, 1, 2, 2, 0, 0, 0, []), (6, 3, 17, 4, 5, 145, 0, [167]), (9, 1, 39, 0, 0, 0, 0, [])]
def p117_10 : List PI := [(10, 1, 1, 1, 0, 0, 0, []), (11, 3, 10, 1, 27, 0, 0, []), (14, 1, 1, 3, 0, 0, 0, []), (15, 1, 2, 2, 0, 0, 0, []), (16, 3, 17, 4, 8, 148, 0, [173]), (19, 3, 11, 1, 27, 0, 0, []), (22, 1, 2, 2, 0, 0, 0, []), (23, 3, 17, 4, 7, 154, 0, [171]), (26, 1, 39, 0, 0, 0, 0, [])]
def p117_27 : List PI := [(27, 1, 2, 0, 0, 0, 0, []), (28, 3, 18, 10, 3, 35, 0, [311]), (31, 1, 1, 3, 0, 0, 0, []), (32, 3, 35, 44, 2, 10, 0, [232, 82, 594, 595, 596]), (35, 2, 3, 5, 0, 0, 0, []), (37, 1, 1, 1, 0, 0, 0, []), (38, 1, 0, 0, 0, 0, 1, []), (39, 3, 11, 1, 61, 0, 0, []), (42, 1, 1, 3, 0, 0, 0, []), (43, 1, 2, 2, 0, 0, 0, []), (44, 3, 17, 4, 8, 148, 0, [173]), (47, 3, 11, 2, 61, 0, 0, []), (50, 2, 1, 5, 0, 0, 0, []), (52, 2, 1, 4, 0, 0, 0, []), (54, 1, 6, 1, 0, 0, 0, []), (55, 3, 35, 104, 1, 0, 1, [405, 77, 684, 532]), (58, 3, 14, 0, 63, 0, 0, [])]
def p117_61 : List PI := [(61, 2, 1, 5, 0, 0, 0, []), (63, 0, 45, 0, 63, 0, 0, [])]
def p117_63 : List PI := [(63, 1, 39, 0, 0, 0, 0, [])]
def p117 : List (Nat × List PI) := [(0, p117_0), (10, p117_10), (27, p117_27), (61, p117_61), (63, p117_63)]
def p118_0 : List PI := [(0, 1, 2, 0, 0, 0, 0, []), (1, 3, 18, 10, 2, 25, 0, [310]), (4, 1, 2, 1, 0, 0, 0, []), (5, 3, 17, 7, 1, 208, 0, [429]), (8, 1, 23, 0, 0, 0, 0, []), (9, 2, 4, 4, 0, 0, 0, []), (11, 1, 2, 0, 0, 0, 0, []), (12, 1, 2, 1, 0, 0, 0, []), (13, 1, 2, 0, 0, 0, 0, []), (14, 1, 1, 2, 0, 0, 0, []), (15, 2, 2, 4, 0, 0, 0, []), (17, 1, 2, 1, 0, 0, 0, []), (18, 3, 17, 7, 2, 211, 0, [433]), (21, 3, 35, 116, 4, 11, 0, [408, 77, 676, 678, 13]), (24, 1, 2, 0, 0, 0, 0, []), (25, 1, 1, 2, 0, 0, 0, []), (26, 2, 2, 4, 0, 0, 0, []), (28, 1, 2, 1, 0, 0, 0, []), (29, 3, 17, 7, 2, 211, 0, [433]), (32, 1, 1, 3, 0, 0, 0, []), (33, 3, 35, 117, 5, 11, 0, [412, 77, 680, 682, 14]), (36, 3, 35, 110, 4, 11, 0, [221, 77, 543, 545, 5]), (39, 1, 40, 0, 0, 0, 0, [])]
def p118 : List (Nat × List PI) := [(0, p118_0)]
def p119_0 : List PI := [(0, 1, 0, 0, 0, 0, 0, []), (1, 2, 3, 4, 0, 0, 0, []), (3, 1, 0, 0, 0, 0, 0, []), (4, 2, 3, 5, 0, 0, 0, []), (6, 0, 45, 0, 6, 0, 0, [])]
def p119_6 : List PI := [(6, 2, 1, 5, 0, 0, 0, []), (8, 1, 2, 0, 0, 0, 0, []), (9, 3, 17, 10, 15, 160, 0, [323]), (12, 3, 11, 3, 61, 0, 0, []), (15, 1, 2, 0, 0, 0, 0, []), (16, 3, 18, 10, 4, 41, 0, [312]), (19, 2, 1, 5, 0, 0, 0, []), (21, 1, 23, 0, 0, 0, 0, []), (22, 1, 1, 1, 0, 0, 0, []), (23, 1, 2, 0, 0, 0, 0, []), (24, 3, 18, 10, 3, 35, 0, [311]), (27, 3, 17, 9, 2, 416, 0, [207]), (30, 3, 35, 31, 3, 8, 0, [417, 89, 671, 624, 625]), (33, 3, 10, 0, 55, 0, 0, []), (36, 1, 2, 0, 0, 0, 0, []), (37, 1, 2, 0, 0, 0, 0, []), (38, 3, 18, 10, 4, 41, 0, [312]), (41, 2, 1, 5, 0, 0, 0, []), (43, 1, 23, 0, 0, 0, 0, []), (44, 1, 1, 2, 0, 0, 0, []), (45, 1, 1, 3, 0, 0, 0, []), (46, 3, 35, 118, 4, 11, 0, [420, 77, 672, 674, 12]), (49, 3, 10, 1, 55, 0, 0, []), (52, 3, 5, 4, 0, 0, 1, []), (55, 0, 45, 0, 55, 0, 0, [])]
def p119_55 : List PI := [(55, 3, 5, 5, 0, 0, 1, []), (58, 3, 14, 0, 6, 0, 0, [])]
def p119_61 : List PI := [(61, 2, 1, 4, 0, 0, 0, []), (63, 1, 39, 0, 0, 0, 0, [])]
def p119 : List (Nat × List PI) := [(0, p119_0), (6, p119_6), (55, p119_55), (61, p119_61)]
def p120_0 : List PI := [(0, 1, 2, 0, 0, 0, 0, []), (1, 3, 18, 10, 2, 25, 0, [310]), (4, 1, 1, 1, 0, 0, 0, []), (5, 1, 23, 0, 0, 0, 0, []), (6, 3, 35, 12, 1, 5, 0, [423, 81, 701, 702, 703]), (9, 1, 3, 2, 0, 0, 0, []), (10, 1, 0, 0, 0, 0, 0, []), (11, 1, 3, 3, 0, 0, 0, []), (12, 1, 0, 0, 0, 0, 0, []), (13, 2, 3, 4, 0, 0, 0, []), (15, 0, 45, 0, 15, 0, 0, [])]
def p120_15 : List PI := [(15, 2, 1, 4, 0, 0, 0, []), (17, 1, 2, 0, 0, 0, 0, []), (18, 3, 17, 10, 15, 160, 0, [323]), (21, 3, 11, 3, 67, 0, 0, []), (24, 1, 2, 0, 0, 0, 0, []), (25, 3, 18, 10, 4, 41, 0, [312]), (28, 2, 1, 4, 0, 0, 0, []), (30, 1, 23, 0, 0, 0, 0, []), (31, 1, 1, 1, 0, 0, 0, []), (32, 2, 0, 0, 0, 0, 99, []), (34, 3, 35, 32, 3, 8, 0, [398, 89, 619, 620, 621]), (37, 3, 10, 0, 61, 0, 0, []), (40, 1, 2, 0, 0, 0, 0, []), (41, 3, 18, 10, 1, 19, 0, [309]), (44, 1, 2, 0, 0, 0, 0, []), (45, 3, 18, 10, 4, 41, 0, [312]), (48, 2, 1, 4, 0, 0, 0, []), (50, 1, 23, 0, 0, 0, 0, []), (51, 1, 1, 2, 0, 0, 0, []), (52, 3, 35, 7, 3, 2, 0, [426, 79, 706, 707, 708]), (55, 3, 10, 0, 61, 0, 0, []), (58, 3, 5, 3, 0, 0, 1, []), (61, 0, 45, 0, 61, 0, 0, [])]
def p120_61 : List PI := [(61, 3, 5, 4, 0, 0, 1, []), (64, 3, 14, 0, 15, 0, 0, [])]
def p120_67 : List PI := [(67, 1, 1, 3, 0, 0, 0, []), (68, 1, 39, 0, 0, 0, 0, [])]
def p120 : List (Nat × List PI) := [(0, p120_0), (15, p120_15), (61, p120_61), (67, p120_67)]
def p121_0 : List PI := [(0, 1, 2, 0, 0, 0, 0, []), (1, 3, 18, 10, 2, 25, 0, [310]), (4, 1, 1, 1, 0, 0, 0, []), (5, 1, 23, 0, 0, 0, 0, []), (6, 3, 35, 12, 1, 5, 0, [423, 81, 701, 702, 703]), (9, 1, 3, 3, 0, 0, 0, []), (10, 1, 0, 0, 0, 0, 0, []), (11, 2, 3, 4, 0, 0, 0, []), (13, 1, 0, 0, 0, 0, 0, []), (14, 2, 3, 5, 0, 0, 0, []), (16, 0, 45, 0, 16, 0, 0, [])]
def p121_16 : List PI := [(16, 2, 1, 5, 0, 0, 0, []), (18, 1, 2, 0, 0, 0, 0, []), (19, 3, 17, 10, 15, 160, 0, [323]), (22, 3, 11, 3, 85, 0, 0, []), (25, 1, 2, 0, 0, 0, 0, []), (26, 3, 18, 10, 4, 41, 0, [312]), (29, 2, 1, 5, 0, 0, 0, []), (31, 1, 23, 0, 0, 0, 0, []), (32, 1, 1, 1, 0, 0, 0, []), (33, 1, 1, 2, 0, 0, 0, []), (34, 3, 35, 32, 3, 8, 0, [398, 89, 619, 620, 621]), (37, 3, 10, 0, 79, 0, 0, []), (40, 1, 2, 0, 0, 0, 0, []), (41, 3, 18, 10, 1, 19, 0, [309]), (44, 1, 2, 0, 0, 0, 0, []), (45, 3, 18, 10, 4, 41, 0, [312]), (48, 2, 1, 5, 0, 0, 0, []), (50, 1, 23, 0, 0, 0, 0, []), (51, 1, 1, 3, 0, 0, 0, []), (52, 3, 35, 7, 3, 2, 0, [426, 79, 706, 707, 708]), (55, 3, 10, 1, 76, 0, 0, []), (58, 1, 2, 0, 0, 0, 0, []), (59, 3, 18, 10, 1, 19, 0, [309]), (62, 1, 2, 0, 0, 0, 0, []), (63, 3, 18, 10, 4, 41, 0, [312]), (66, 2, 1, 5, 0, 0, 0, []), (68, 1, 23, 0, 0, 0, 0, []), (69, 1, 1, 3, 0, 0, 0, []), (70, 3, 35, 6, 3, 2, 0, [429, 79, 714, 715, 716]), (73, 3, 10, 0, 79, 0, 0, []), (76, 0, 45, 0, 76, 0, 0, [])]
def p121_76 : List PI := [(76, 3, 5, 4, 0, 0, 1, []), (79, 0, 45, 0, 79, 0, 0, [])]
def p121_79 : List PI := [(79, 3, 5, 5, 0, 0, 1, []), (82, 3, 14, 0, 16, 0, 0, [])]
def p121_85 : List PI := [(85, 2, 1, 4, 0, 0, 0, []), (87, 1, 39, 0, 0, 0, 0, [])]
def p121 : List (Nat × List PI) := [(0, p121_0), (16, p121_16), (76, p121_76), (79, p121_79), (85, p121_85)]
def p122_0 : List PI := [(0, 1, 42, 0, 0, 0, 0, []), (1, 1, 4, 3, 0, 0, 0, []), (2, 1, 0, 0, 0, 0, 0, []), (3, 2, 3, 4, 0, 0, 0, []), (5, 0, 45, 0, 5, 0, 0, [])]
def p122_5 : List PI := [(5, 2, 1, 4, 0, 0, 0, []), (7, 1, 2, 0, 0, 0, 0, []), (8, 3, 17, 10, 16, 292, 0, [324]), (11, 3, 11, 3, 66, 0, 0, []), (14, 1, 2, 0, 0, 0, 0, []), (15, 3, 18, 10, 7, 54, 0, [315]), (18, 2, 1, 4, 0, 0, 0, []), (20, 1, 23, 0, 0, 0, 0, []), (21, 2, 4, 5, 0, 0, 0, []), (23, 2, 2, 5, 0, 0, 0, []), (25, 3, 17, 3, 0, 432, 0, [785]), (28, 1, 1, 1, 0, 0, 0, []), (29, 3, 11, 1, 60, 0, 0, []), (32, 2, 2, 5, 0, 0, 0, []), (34, 3, 17, 3, 1, 435, 0, [787]), (37, 1, 1, 2, 0, 0, 0, []), (38, 3, 11, 4, 60, 0, 0, []), (41, 1, 2, 3, 0, 0, 0, []), (42, 3, 12, 0, 57, 0, 0, []), (45, 2, 2, 5, 0, 0, 0, []), (47, 3, 17, 3, 1, 435, 0, [787]), (50, 1, 2, 3, 0, 0, 0, []), (51, 3, 17, 3, 1, 435, 0, [787]), (54, 3, 11, 2, 60, 0, 0, []), (57, 0, 45, 0, 57, 0, 0, [])]
def p122_57 : List PI := [(57, 2, 2, 5, 0, 0, 0, []), (59, 1, 4, 3, 0, 0, 0, []), (60, 0, 45, 0, 60, 0, 0, [])]
def p122_60 : List PI := [(60, 3, 5, 4, 0, 0, 1, []), (63, 3, 14, 0, 5, 0, 0, [])]
def p122_66 : List PI := [(66, 1, 2, 3, 0, 0, 0, []), (67, 1, 41, 0, 0, 0, 0, [])]
def p122 : List (Nat × List PI) := [(0, p122_0), (5, p122_5), (57, p122_57), (60, p122_60), (66, p122_66)]
def p123_0 : List PI := [(0, 1, 2, 3, 0, 0, 0, []), (1, 1, 0, 0, 0, 0, 0, []), (2, 3, 36, 222, 2, 0, 1, [436, 80, 809, 135]), (5, 1, 0, 0, 0, 0, 0, []), (6, 2, 3, 4, 0, 0, 0, []), (8, 0, 45, 0, 8, 0, 0, [])]
def p123_8 : List PI := [(8, 2, 1, 4, 0, 0, 0, []), (10, 1, 2, 0, 0, 0, 0, []), (11, 3, 17, 10, 15, 160, 0, [323]), (14, 3, 11, 3, 101, 0, 0, []), (17, 1, 2, 0, 0, 0, 0, []), (18, 3, 18, 10, 4, 41, 0, [312]), (21, 2, 1, 4, 0, 0, 0, []), (23, 1, 23, 0, 0, 0, 0, []), (24, 2, 4, 5, 0, 0, 0, []), (26, 2, 2, 5, 0, 0, 0, []), (28, 1, 1, 1, 0, 0, 0, []), (29, 1, 1, 2, 0, 0, 0, []), (30, 3, 35, 31, 3, 8, 0, [417, 89, 671, 624, 625]), (33, 3, 10, 0, 95, 0, 0, []), (36, 1, 2, 0, 0, 0, 0, []), (37, 2, 2, 5, 0, 0, 0, []), (39, 1, 0, 0, 0, 0, 0, []), (40, 1, 0, 0, 0, 0, 0, []), (41, 3, 35, 118, 4, 11, 0, [420, 77, 672, 674, 12]), (44, 2, 3, 6, 0, 0, 0, []), (46, 2, 2, 5, 0, 0, 0, []), (48, 3, 17, 7, 3, 205, 0, [436]), (51, 3, 35, 124, 1, 0, 1, [440, 77, 810, 811]), (54, 2, 3, 7, 0, 0, 0, []), (56, 2, 1, 6, 0, 0, 0, []), (58, 2, 2, 5, 0, 0, 0, []), (60, 3, 17, 7, 3, 205, 0, [436]), (63, 1, 0, 0, 0, 0, 1, []), (64, 3, 11, 1, 71, 0, 0, []), (67, 1, 0, 0, 0, 0, 1, []), (68, 3, 14, 0, 72, 0, 0, [])]
def p123_71 : List PI := [(71, 1, 0, 0, 0, 0, 0, []), (72, 0, 45, 0, 72, 0, 0, [])]
def p123_72 : List PI := [(72, 3, 11, 0, 83, 0, 0, []), (75, 1, 2, 3, 0, 0, 0, []), (76, 2, 1, 7, 0, 0, 0, []), (78, 1, 33, 0, 0, 0, 0, []), (79, 1, 22, 0, 0, 0, 0, []), (80, 1, 0, 0, 0, 0, 1, []), (81, 1, 6, 0, 0, 0, 0, []), (82, 1, 24, 0, 0, 0, 0, []), (83, 0, 45, 0, 83, 0, 0, [])]
def p123_83 : List PI := [(83, 2, 1, 6, 0, 0, 0, []), (85, 3, 10, 1, 95, 0, 0, []), (88, 1, 2, 3, 0, 0, 0, []), (89, 1, 0, 0, 0, 0, 5, []), (90, 1, 33, 0, 0, 0, 0, []), (91, 1, 22, 0, 0, 0, 0, []), (92, 1, 0, 0, 0, 0, 1, []), (93, 1, 6, 0, 0, 0, 0, []), (94, 1, 24, 0, 0, 0, 0, []), (95, 0, 45, 0, 95, 0, 0, [])]
def p123_95 : List PI := [(95, 3, 5, 4, 0, 0, 1, []), (98, 3, 14, 0, 8, 0, 0, [])]
def p123_101 : List PI := [(101, 1, 2, 3, 0, 0, 0, []), (102, 2, 0, 0, 0, 0, 6, []), (104, 1, 2, 0, 0, 0, 0, []), (105, 1, 1, 1, 0, 0, 0, []), (106, 1, 1, 2, 0, 0, 0, []), (107, 3, 35, 121, 3, 11, 0, [286, 77, 710, 712, 16]), (110, 1, 24, 0, 0, 0, 0, []), (111, 1, 2, 3, 0, 0, 0, []), (112, 2, 0, 0, 0, 0, 7, []), (114, 1, 2, 0, 0, 0, 0, []), (115, 3, 18, 10, 2, 25, 0, [310]), (118, 1, 1, 1, 0, 0, 0, []), (119, 1, 23, 0, 0, 0, 0, []), (120, 3, 17, 4, 1, 129, 0, [157]), (123, 1, 24, 0, 0, 0, 0, []), (124, 1, 2, 3, 0, 0, 0, []), (125, 2, 0, 0, 0, 0, 8, []), (127, 1, 2, 0, 0, 0, 0, []), (128, 1, 1, 1, 0, 0, 0, []), (129, 1, 1, 2, 0, 0, 0, []), (130, 3, 35, 115, 3, 11, 0, [245, 77, 615, 617, 8]), (133, 3, 10, 2, 140, 0, 0, []), (136, 1, 0, 0, 0, 0, 1, []), (137, 3, 14, 0, 141, 0, 0, [])]
def p123_140 : List PI := [(140, 1, 0, 0, 0, 0, 0, []), (141, 0, 45, 0, 141, 0, 0, [])]
def p123_141 : List PI := [(141, 1, 24, 0, 0, 0, 0, []), (142, 1, 38, 0, 0, 0, 0, [])]
def p123 : List (Nat × List PI) := [(0, p123_0), (8, p123_8), (71, p123_71), (72, p123_72), (83, p123_83), (95, p123_95), (101, p123_101), (140, p123_140), (141, p123_141)]
def p124_0 : List PI := [(0, 1, 1, 0, 0, 0, 0, []), (1, 35, 15, 0, 44, 0, 1, [36, 44, 38, 40, 42])]
def p124_36 : List PI := [(36, 1, 0, 0, 0, 0, 4, []), (37, 1, 39, 0, 0, 0, 0, [])]
def p124_38 : List PI := [(38, 1, 0, 0, 0, 0, 1, []), (39, 1, 39, 0, 0, 0, 0, [])]
def p124_40 : List PI := [(40, 1, 0, 0, 0, 0, 2, []), (41, 1, 39, 0, 0, 0, 0, [])]
def p124_42 : List PI := [(42, 1, 0, 0, 0, 0, 3, []), (43, 1, 39, 0, 0, 0, 0, [])]
def p124_44 : List PI := [(44, 1, 0, 0, 0, 0, 0, []), (45, 1, 39, 0, 0, 0, 0, [])]
def p124 : List (Nat × List PI) := [(0, p124_0), (36, p124_36), (38, p124_38), (40, p124_40), (42, p124_42), (44, p124_44)]
def p125_0 : List PI := [(0, 1, 1, 1, 0, 0, 0, []), (1, 1, 1, 2, 0, 0, 0, []), (2, 3, 11, 2, 14, 0, 0, []), (5, 1, 1, 1, 0, 0, 0, []), (6, 1, 1, 3, 0, 0, 0, []), (7, 3, 11, 4, 14, 0, 0, []), (10, 1, 0, 0, 0, 0, 1, []), (11, 3, 14, 0, 15, 0, 0, [])]
def p125_14 : List PI := [(14, 1, 0, 0, 0, 0, 0, []), (15, 0, 45, 0, 15, 0, 0, [])]
def p125_15 : List PI := [(15, 1, 40, 0, 0, 0, 0, [])]
def p125 : List (Nat × List PI) := [(0, p125_0), (14, p125_14), (15, p125_15)]
def p126_0 : List PI := [(0, 1, 1, 1, 0, 0, 0, []), (1, 3, 10, 3, 9, 0, 0, []), (4, 1, 1, 1, 0, 0, 0, []), (5, 1, 9, 0, 0, 0, 0, []), (6, 3, 14, 0, 10, 0, 0, [])]
def p126_9 : List PI := [(9, 1, 1, 1, 0, 0, 0, []), (10, 0, 45, 0, 10, 0, 0, [])]
def p126_10 : List PI := [(10, 1, 39, 0, 0, 0, 0, [])]
def p126 : List (Nat × List PI) := [(0, p126_0), (9, p126_9), (10, p126_10)]
def p127_0 : List PI := [(0, 1, 1, 1, 0, 0, 0, []), (1, 3, 0, 0, 0, 0, -400, []), (4, 3, 11, 3, 13, 0, 0, []), (7, 3, 0, 0, 0, 0, -400, []), (10, 3, 14, 0, 27, 0, 0, [])]
def p127_13 : List PI := [(13, 1, 1, 1, 0, 0, 0, []), (14, 3, 0, 0, 0, 0, 399, []), (17, 3, 11, 5, 26, 0, 0, []), (20, 3, 0, 0, 0, 0, 399, []), (23, 3, 14, 0, 27, 0, 0, [])]
def p127_26 : List PI := [(26, 1, 1, 1, 0, 0, 0, []), (27, 0, 45, 0, 27, 0, 0, [])]
def p127_27 : List PI := [(27, 1, 39, 0, 0, 0, 0, [])]
def p127 : List (Nat × List PI) := [(0, p127_0), (13, p127_13), (26, p127_26), (27, p127_27)]
def p128_0 : List PI := [(0, 1, 2, 0, 0, 0, 0, []), (1, 1, 1, 1, 0, 0, 0, []), (2, 1, 0, 0, 0, 0, 0, []), (3, 1, 0, 0, 0, 0, 1, []), (4, 3, 35, 125, 4, 12, 0, [1, 88, 931, 933, 29]), (7, 1, 40, 0, 0, 0, 0, [])]
def p128 : List (Nat × List PI) := [(0, p128_0)]
def p129_0 : List PI := [(0, 1, 2, 0, 0, 0, 0, []), (1, 1, 1, 1, 0, 0, 0, []), (2, 1, 0, 0, 0, 0, 0, []), (3, 3, 0, 0, 0, 0, 199, []), (6, 3, 35, 125, 4, 12, 0, [1, 88, 931, 933, 29]), (9, 1, 40, 0, 0, 0, 0, [])]
def p129 : List (Nat × List PI) := [(0, p129_0)]
def p130_0 : List PI := [(0, 1, 2, 0, 0, 0, 0, []), (1, 1, 1, 1, 0, 0, 0, []), (2, 1, 0, 0, 0, 0, 0, []), (3, 2, 0, 0, 0, 0, 99, []), (5, 3, 35, 125, 4, 12, 0, [1, 88, 931, 933, 29]), (8, 1, 40, 0, 0, 0, 0, [])]
def p130 : List (Nat × List PI) := [(0, p130_0)]
def p131_0 : List PI := [(0, 1, 2, 0, 0, 0, 0, []), (1, 1, 1, 1, 0, 0, 0, []), (2, 3, 0, 0, 0, 0, -400, []), (5, 3, 0, 0, 0, 0, 399, []), (8, 3, 35, 125, 4, 12, 0, [1, 88, 931, 933, 29]), (11, 3, 10, 0, 32, 0, 0, []), (14, 1, 2, 0, 0, 0, 0, []), (15, 1, 1, 2, 0, 0, 0, []), (16, 3, 0, 0, 0, 0, -400, []), (19, 3, 0, 0, 0, 0, 399, []), (22, 3, 35, 125, 4, 12, 0, [1, 88, 931, 933, 29]), (25, 3, 10, 0, 32, 0, 0, []), (28, 1, 0, 0, 0, 0, 1, []), (29, 3, 14, 0, 33, 0, 0, [])]
def p131_32 : List PI := [(32, 1, 0, 0, 0, 0, 0, []), (33, 0, 45, 0, 33, 0, 0, [])]
def p131_33 : List PI := [(33, 1, 40, 0, 0, 0, 0, [])]
def p131 : List (Nat × List PI) := [(0, p131_0), (32, p131_32), (33, p131_33)]
def p132_0 : List PI := [(0, 2, 0, 0, 0, 0, 8, []), (2, 1, 1, 2, 0, 0, 0, []), (3, 3, 0, 0, 0, 0, 400, []), (6, 1, 6, 0, 0, 0, 0, []), (7, 2, 0, 0, 0, 0, 100, []), (9, 1, 7, 0, 0, 0, 0, []), (10, 1, 6, 2, 0, 0, 0, []), (11, 1, 1, 1, 0, 0, 0, []), (12, 3, 0, 0, 0, 0, 400, []), (15, 1, 6, 0, 0, 0, 0, []), (16, 2, 0, 0, 0, 0, 100, []), (18, 1, 7, 0, 0, 0, 0, []), (19, 1, 6, 0, 0, 0, 0, []), (20, 1, 39, 0, 0, 0, 0, [])]
def p132 : List (Nat × List PI) := [(0, p132_0)]
def p133_0 : List PI := [(0, 1, 2, 0, 0, 0, 0, []), (1, 1, 1, 1, 0, 0, 0, []), (2, 1, 0, 0, 0, 0, 1, []), (3, 2, 0, 0, 0, 0, 20, []), (5, 3, 35, 125, 4, 12, 0, [1, 88, 931, 933, 29]), (8, 3, 10, 0, 22, 0, 0, []), (11, 1, 2, 0, 0, 0, 0, []), (12, 3, 17, 11, 0, 7, 0, [1134]), (15, 1, 1, 1, 0, 0, 0, []), (16, 1, 6, 0, 0, 0, 0, []), (17, 2, 0, 0, 0, 0, 99, []), (19, 3, 11, 5, 25, 0, 0, []), (22, 0, 45, 0, 22, 0, 0, [])]
def p133_22 : List PI := [(22, 2, 0, 0, 0, 0, -2, []), (24, 1, 39, 0, 0, 0, 0, [])]
def p133_25 : List PI := [(25, 1, 2, 0, 0, 0, 0, []), (26, 1, 32, 0, 0, 0, 0, []), (27, 3, 17, 11, 0, 7, 0, [1134]), (30, 1, 1, 1, 0, 0, 0, []), (31, 1, 6, 0, 0, 0, 0, []), (32, 3, 19, 11, 0, 7, 0, [1134]), (35, 1, 2, 0, 0, 0, 0, []), (36, 3, 17, 11, 0, 7, 0, [1134]), (39, 1, 39, 0, 0, 0, 0, [])]
def p133 : List (Nat × List PI) := [(0, p133_0), (22, p133_22), (25, p133_25)]
def p134_0 : List PI := [(0, 1, 2, 0, 0, 0, 0, []), (1, 1, 1, 1, 0, 0, 0, []), (2, 1, 0, 0, 0, 0, 0, []), (3, 2, 0, 0, 0, 0, 63, []), (5, 3, 35, 125, 4, 12, 0, [1, 88, 931, 933, 29]), (8, 3, 10, 1, 13, 0, 0, []), (11, 1, 0, 0, 0, 0, -1, []), (12, 1, 39, 0, 0, 0, 0, [])]
def p134_13 : List PI := [(13, 1, 2, 0, 0, 0, 0, []), (14, 1, 1, 2, 0, 0, 0, []), (15, 2, 0, 0, 0, 0, -30, []), (17, 2, 0, 0, 0, 0, 30, []), (19, 3, 35, 125, 4, 12, 0, [1, 88, 931, 933, 29]), (22, 3, 10, 0, 37, 0, 0, []), (25, 1, 2, 0, 0, 0, 0, []), (26, 1, 1, 3, 0, 0, 0, []), (27, 2, 0, 0, 0, 0, -30, []), (29, 2, 0, 0, 0, 0, 30, []), (31, 3, 35, 125, 4, 12, 0, [1, 88, 931, 933, 29]), (34, 3, 10, 1, 40, 0, 0, []), (37, 0, 45, 0, 37, 0, 0, [])]
def p134_37 : List PI := [(37, 2, 0, 0, 0, 0, -2, []), (39, 1, 39, 0, 0, 0, 0, [])]
def p134_40 : List PI := [(40, 1, 2, 0, 0, 0, 0, []), (41, 3, 18, 11, 3, 11, 0, [1137]), (44, 1, 1, 1, 0, 0, 0, []), (45, 1, 1, 2, 0, 0, 0, []), (46, 1, 24, 0, 0, 0, 0, []), (47, 1, 2, 0, 0, 0, 0, []), (48, 3, 18, 11, 4, 15, 0, [1138]), (51, 1, 1, 1, 0, 0, 0, []), (52, 1, 1, 3, 0, 0, 0, []), (53, 1, 24, 0, 0, 0, 0, []), (54, 1, 0, 0, 0, 0, 1, []), (55, 1, 39, 0, 0, 0, 0, [])]
def p134 : List (Nat × List PI) := [(0, p134_0), (13, p134_13), (37, p134_37), (40, p134_40)]
def p135_0 : List PI := [(0, 1, 2, 0, 0, 0, 0, []), (1, 1, 1, 1, 0, 0, 0, []), (2, 1, 0, 0, 0, 0, 0, []), (3, 2, 0, 0, 0, 0, 63, []), (5, 3, 35, 125, 4, 12, 0, [1, 88, 931, 933, 29]), (8, 3, 10, 0, 21, 0, 0, []), (11, 1, 2, 0, 0, 0, 0, []), (12, 1, 1, 2, 0, 0, 0, []), (13, 1, 0, 0, 0, 0, 0, []), (14, 1, 0, 0, 0, 0, 1, []), (15, 3, 35, 125, 4, 12, 0, [1, 88, 931, 933, 29]), (18, 3, 10, 1, 23, 0, 0, []), (21, 0, 45, 0, 21, 0, 0, [])]
def p135_21 : List PI := [(21, 1, 0, 0, 0, 0, -1, []), (22, 1, 39, 0, 0, 0, 0, [])]
def p135_23 : List PI := [(23, 1, 1, 2, 0, 0, 0, []), (24, 3, 10, 1, 41, 0, 0, []), (27, 1, 2, 0, 0, 0, 0, []), (28, 1, 1, 3, 0, 0, 0, []), (29, 1, 0, 0, 0, 0, 0, []), (30, 2, 0, 0, 0, 0, 9, []), (32, 3, 35, 125, 4, 12, 0, [1, 88, 931, 933, 29]), (35, 3, 10, 1, 56, 0, 0, []), (38, 3, 14, 0, 53, 0, 0, [])]
def p135_41 : List PI := [(41, 1, 2, 0, 0, 0, 0, []), (42, 1, 1, 3, 0, 0, 0, []), (43, 2, 0, 0, 0, 0, -7, []), (45, 2, 0, 0, 0, 0, 8, []), (47, 3, 35, 125, 4, 12, 0, [1, 88, 931, 933, 29]), (50, 3, 10, 1, 56, 0, 0, []), (53, 0, 45, 0, 53, 0, 0, [])]
def p135_53 : List PI := [(53, 2, 0, 0, 0, 0, -2, []), (55, 1, 39, 0, 0, 0, 0, [])]
def p135_56 : List PI := [(56, 1, 1, 2, 0, 0, 0, []), (57, 3, 10, 1, 70, 0, 0, []), (60, 1, 2, 0, 0, 0, 0, []), (61, 3, 18, 11, 5, 18, 0, [1139]), (64, 1, 1, 1, 0, 0, 0, []), (65, 1, 1, 3, 0, 0, 0, []), (66, 1, 24, 0, 0, 0, 0, []), (67, 3, 14, 0, 77, 0, 0, [])]
def p135_70 : List PI := [(70, 1, 2, 0, 0, 0, 0, []), (71, 3, 18, 11, 6, 21, 0, [1140]), (74, 1, 1, 1, 0, 0, 0, []), (75, 1, 1, 3, 0, 0, 0, []), (76, 1, 24, 0, 0, 0, 0, []), (77, 0, 45, 0, 77, 0, 0, [])]
def p135_77 : List PI := [(77, 1, 0, 0, 0, 0, 1, []), (78, 1, 39, 0, 0, 0, 0, [])]
def p135 : List (Nat × List PI) := [(0, p135_0), (21, p135_21), (23, p135_23), (41, p135_41), (53, p135_53), (56, p135_56), (70, p135_70), (77, p135_77)]
def p136_0 : List PI := [(0, 1, 2, 0, 0, 0, 0, []), (1, 1, 1, 1, 0, 0, 0, []), (2, 3, 35, 129, 2, 12, 0, [24, 88, 948, 950, 30]), (5, 3, 10, 1, 10, 0, 0, []), (8, 1, 0, 0, 0, 0, -1, []), (9, 1, 39, 0, 0, 0, 0, [])]
def p136_10 : List PI := [(10, 1, 2, 0, 0, 0, 0, []), (11, 1, 1, 2, 0, 0, 0, []), (12, 1, 0, 0, 0, 0, 0, []), (13, 3, 0, 0, 0, 0, 1500, []), (16, 3, 35, 125, 4, 12, 0, [1, 88, 931, 933, 29]), (19, 3, 10, 1, 25, 0, 0, []), (22, 2, 0, 0, 0, 0, -2, []), (24, 1, 39, 0, 0, 0, 0, [])]
def p136_25 : List PI := [(25, 1, 2, 0, 0, 0, 0, []), (26, 3, 18, 11, 7, 28, 0, [1141]), (29, 1, 1, 1, 0, 0, 0, []), (30, 1, 22, 0, 0, 0, 0, []), (31, 1, 3, 3, 0, 0, 0, []), (32, 1, 2, 0, 0, 0, 0, []), (33, 3, 18, 11, 7, 28, 0, [1141]), (36, 1, 1, 1, 0, 0, 0, []), (37, 1, 1, 2, 0, 0, 0, []), (38, 1, 24, 0, 0, 0, 0, []), (39, 1, 1, 3, 0, 0, 0, []), (40, 1, 39, 0, 0, 0, 0, [])]
def p136 : List (Nat × List PI) := [(0, p136_0), (10, p136_10), (25, p136_25)]
def p137_0 : List PI := [(0, 1, 2, 0, 0, 0, 0, []), (1, 1, 1, 1, 0, 0, 0, []), (2, 1, 0, 0, 0, 0, 1, []), (3, 2, 0, 0, 0, 0, 20, []), (5, 3, 35, 125, 4, 12, 0, [1, 88, 931, 933, 29]), (8, 3, 10, 0, 22, 0, 0, []), (11, 1, 2, 0, 0, 0, 0, []), (12, 1, 1, 2, 0, 0, 0, []), (13, 1, 0, 0, 0, 0, 0, []), (14, 2, 0, 0, 0, 0, 9, []), (16, 3, 35, 125, 4, 12, 0, [1, 88, 931, 933, 29]), (19, 3, 10, 1, 25, 0, 0, []), (22, 0, 45, 0, 22, 0, 0, [])]
def p137_22 : List PI := [(22, 2, 0, 0, 0, 0, -2, []), (24, 1, 39, 0, 0, 0, 0, [])]
def p137_25 : List PI := [(25, 1, 2, 0, 0, 0, 0, []), (26, 3, 17, 11, 1, 31, 0, [1135]), (29, 2, 0, 0, 0, 0, 12, []), (31, 3, 11, 1, 37, 0, 0, []), (34, 2, 0, 0, 0, 0, -4, []), (36, 1, 39, 0, 0, 0, 0, [])]
def p137_37 : List PI := [(37, 1, 2, 0, 0, 0, 0, []), (38, 3, 18, 11, 8, 34, 0, [1142]), (41, 1, 2, 0, 0, 0, 0, []), (42, 3, 17, 11, 1, 31, 0, [1135]), (45, 1, 1, 1, 0, 0, 0, []), (46, 1, 24, 0, 0, 0, 0, []), (47, 1, 2, 0, 0, 0, 0, []), (48, 3, 18, 11, 9, 37, 0, [1143]), (51, 1, 2, 0, 0, 0, 0, []), (52, 3, 17, 11, 1, 31, 0, [1135]), (55, 1, 1, 2, 0, 0, 0, []), (56, 1, 24, 0, 0, 0, 0, []), (57, 1, 2, 0, 0, 0, 0, []), (58, 1, 32, 0, 0, 0, 0, []), (59, 3, 17, 11, 1, 31, 0, [1135]), (62, 1, 0, 0, 0, 0, 1, []), (63, 1, 6, 0, 0, 0, 0, []), (64, 3, 19, 11, 1, 31, 0, [1135]), (67, 1, 2, 0, 0, 0, 0, []), (68, 3, 17, 11, 1, 31, 0, [1135]), (71, 1, 0, 0, 0, 0, 1, []), (72, 1, 6, 1, 0, 0, 0, []), (73, 1, 39, 0, 0, 0, 0, [])]
def p137 : List (Nat × List PI) := [(0, p137_0), (22, p137_22), (25, p137_25), (37, p137_37)]
def p138_0 : List PI := [(0, 1, 2, 0, 0, 0, 0, []), (1, 1, 1, 1, 0, 0, 0, []), (2, 3, 35, 128, 2, 12, 0, [40, 88, 960, 962, 31]), (5, 3, 10, 1, 10, 0, 0, []), (8, 1, 0, 0, 0, 0, -1, []), (9, 1, 39, 0, 0, 0, 0, [])]
def p138_10 : List PI := [(10, 1, 2, 0, 0, 0, 0, []), (11, 1, 1, 2, 0, 0, 0, []), (12, 1, 0, 0, 0, 0, 0, []), (13, 1, 0, 0, 0, 0, 1, []), (14, 1, 2, 0, 0, 0, 0, []), (15, 3, 17, 11, 1, 31, 0, [1135]), (18, 1, 6, 6, 0, 0, 0, []), (19, 1, 0, 0, 0, 0, 1, []), (20, 1, 6, 1, 0, 0, 0, []), (21, 3, 35, 125, 4, 12, 0, [1, 88, 931, 933, 29]), (24, 3, 10, 0, 51, 0, 0, []), (27, 1, 2, 0, 0, 0, 0, []), (28, 1, 1, 3, 0, 0, 0, []), (29, 1, 0, 0, 0, 0, 0, []), (30, 2, 0, 0, 0, 0, 99, []), (32, 3, 35, 125, 4, 12, 0, [1, 88, 931, 933, 29]), (35, 3, 10, 0, 51, 0, 0, []), (38, 1, 2, 0, 0, 0, 0, []), (39, 2, 1, 4, 0, 0, 0, []), (41, 1, 0, 0, 0, 0, 0, []), (42, 3, 0, 0, 0, 0, 9999, []), (45, 3, 35, 125, 4, 12, 0, [1, 88, 931, 933, 29]), (48, 3, 10, 1, 54, 0, 0, []), (51, 0, 45, 0, 51, 0, 0, [])]
def p138_51 : List PI := [(51, 2, 0, 0, 0, 0, -2, []), (53, 1, 39, 0, 0, 0, 0, [])]
def p138_54 : List PI := [(54, 1, 2, 0, 0, 0, 0, []), (55, 3, 18, 11, 10, 43, 0, [1144]), (58, 1, 1, 1, 0, 0, 0, []), (59, 1, 1, 2, 0, 0, 0, []), (60, 1, 24, 0, 0, 0, 0, []), (61, 1, 2, 0, 0, 0, 0, []), (62, 3, 18, 11, 11, 46, 0, [1145]), (65, 1, 1, 1, 0, 0, 0, []), (66, 1, 1, 3, 0, 0, 0, []), (67, 1, 24, 0, 0, 0, 0, []), (68, 1, 2, 0, 0, 0, 0, []), (69, 3, 18, 11, 12, 49, 0, [1146]), (72, 1, 1, 1, 0, 0, 0, []), (73, 2, 1, 4, 0, 0, 0, []), (75, 1, 24, 0, 0, 0, 0, []), (76, 1, 0, 0, 0, 0, 1, []), (77, 1, 39, 0, 0, 0, 0, [])]
def p138 : List (Nat × List PI) := [(0, p138_0), (10, p138_10), (51, p138_51), (54, p138_54)]
def p139_0 : List PI := [(0, 1, 2, 0, 0, 0, 0, []), (1, 1, 1, 1, 0, 0, 0, []), (2, 3, 35, 128, 2, 12, 0, [40, 88, 960, 962, 31]), (5, 3, 10, 1, 10, 0, 0, []), (8, 1, 0, 0, 0, 0, -1, []), (9, 1, 39, 0, 0, 0, 0, [])]
def p139_10 : List PI := [(10, 1, 2, 0, 0, 0, 0, []), (11, 1, 1, 2, 0, 0, 0, []), (12, 1, 1, 3, 0, 0, 0, []), (13, 3, 35, 131, 3, 12, 0, [52, 88, 968, 970, 32]), (16, 3, 10, 1, 22, 0, 0, []), (19, 2, 0, 0, 0, 0, -2, []), (21, 1, 39, 0, 0, 0, 0, [])]
def p139_22 : List PI := [(22, 1, 2, 0, 0, 0, 0, []), (23, 3, 18, 11, 13, 56, 0, [1147]), (26, 1, 1, 1, 0, 0, 0, []), (27, 1, 1, 2, 0, 0, 0, []), (28, 1, 24, 0, 0, 0, 0, []), (29, 1, 2, 0, 0, 0, 0, []), (30, 3, 18, 11, 14, 59, 0, [1148]), (33, 1, 1, 1, 0, 0, 0, []), (34, 1, 1, 3, 0, 0, 0, []), (35, 1, 24, 0, 0, 0, 0, []), (36, 1, 0, 0, 0, 0, 1, []), (37, 1, 39, 0, 0, 0, 0, [])]
def p139 : List (Nat × List PI) := [(0, p139_0), (10, p139_10), (22, p139_22)]
def p140_0 : List PI := [(0, 1, 2, 0, 0, 0, 0, []), (1, 1, 1, 1, 0, 0, 0, []), (2, 3, 35, 128, 2, 12, 0, [40, 88, 960, 962, 31]), (5, 3, 10, 1, 10, 0, 0, []), (8, 1, 0, 0, 0, 0, -1, []), (9, 1, 39, 0, 0, 0, 0, [])]
def p140_10 : List PI := [(10, 1, 2, 0, 0, 0, 0, []), (11, 2, 1, 4, 0, 0, 0, []), (13, 1, 0, 0, 0, 0, -1, []), (14, 3, 0, 0, 0, 0, 199, []), (17, 3, 35, 125, 4, 12, 0, [1, 88, 931, 933, 29]), (20, 3, 10, 0, 37, 0, 0, []), (23, 2, 1, 4, 0, 0, 0, []), (25, 3, 10, 2, 40, 0, 0, []), (28, 1, 2, 0, 0, 0, 0, []), (29, 1, 1, 2, 0, 0, 0, []), (30, 1, 1, 3, 0, 0, 0, []), (31, 3, 35, 131, 3, 12, 0, [52, 88, 968, 970, 32]), (34, 3, 10, 1, 40, 0, 0, []), (37, 0, 45, 0, 37, 0, 0, [])]
def p140_37 : List PI := [(37, 2, 0, 0, 0, 0, -2, []), (39, 1, 39, 0, 0, 0, 0, [])]
def p140_40 : List PI := [(40, 1, 2, 0, 0, 0, 0, []), (41, 3, 18, 11, 17, 62, 0, [1151]), (44, 1, 1, 1, 0, 0, 0, []), (45, 2, 1, 4, 0, 0, 0, []), (47, 1, 24, 0, 0, 0, 0, []), (48, 1, 2, 0, 0, 0, 0, []), (49, 3, 18, 11, 15, 65, 0, [1149]), (52, 1, 1, 1, 0, 0, 0, []), (53, 1, 1, 2, 0, 0, 0, []), (54, 1, 24, 0, 0, 0, 0, []), (55, 1, 2, 0, 0, 0, 0, []), (56, 3, 18, 11, 16, 68, 0, [1150]), (59, 1, 1, 1, 0, 0, 0, []), (60, 1, 1, 3, 0, 0, 0, []), (61, 1, 24, 0, 0, 0, 0, []), (62, 1, 0, 0, 0, 0, 1, []), (63, 1, 39, 0, 0, 0, 0, [])]
def p140 : List (Nat × List PI) := [(0, p140_0), (10, p140_10), (37, p140_37), (40, p140_40)]
def p141_0 : List PI := [(0, 1, 2, 0, 0, 0, 0, []), (1, 1, 1, 1, 0, 0, 0, []), (2, 1, 0, 0, 0, 0, 0, []), (3, 1, 2, 0, 0, 0, 0, []), (4, 3, 17, 11, 18, 71, 0, [1152]), (7, 1, 0, 0, 0, 0, 1, []), (8, 1, 6, 1, 0, 0, 0, []), (9, 3, 35, 125, 4, 12, 0, [1, 88, 931, 933, 29]), (12, 1, 40, 0, 0, 0, 0, [])]
def p141 : List (Nat × List PI) := [(0, p141_0)]
def p142_0 : List PI := [(0, 1, 2, 0, 0, 0, 0, []), (1, 3, 17, 11, 18, 71, 0, [1152]), (4, 2, 0, 0, 0, 0, 120, []), (6, 3, 11, 1, 12, 0, 0, []), (9, 2, 0, 0, 0, 0, -4, []), (11, 1, 39, 0, 0, 0, 0, [])]
def p142_12 : List PI := [(12, 1, 2, 0, 0, 0, 0, []), (13, 3, 18, 11, 19, 74, 0, [1153]), (16, 1, 2, 0, 0, 0, 0, []), (17, 3, 17, 11, 18, 71, 0, [1152]), (20, 1, 1, 1, 0, 0, 0, []), (21, 1, 24, 0, 0, 0, 0, []), (22, 1, 2, 0, 0, 0, 0, []), (23, 3, 18, 11, 20, 77, 0, [1154]), (26, 1, 2, 0, 0, 0, 0, []), (27, 3, 17, 11, 18, 71, 0, [1152]), (30, 1, 1, 2, 0, 0, 0, []), (31, 1, 24, 0, 0, 0, 0, []), (32, 1, 2, 0, 0, 0, 0, []), (33, 3, 18, 11, 21, 80, 0, [1155]), (36, 1, 2, 0, 0, 0, 0, []), (37, 3, 17, 11, 18, 71, 0, [1152]), (40, 1, 1, 3, 0, 0, 0, []), (41, 1, 24, 0, 0, 0, 0, []), (42, 1, 2, 0, 0, 0, 0, []), (43, 3, 18, 11, 22, 83, 0, [1156]), (46, 1, 2, 0, 0, 0, 0, []), (47, 3, 17, 11, 18, 71, 0, [1152]), (50, 1, 2, 0, 0, 0, 0, []), (51, 3, 17, 11, 0, 7, 0, [1134]), (54, 1, 24, 0, 0, 0, 0, []), (55, 1, 2, 0, 0, 0, 0, []), (56, 3, 18, 11, 23, 86, 0, [1157]), (59, 1, 2, 0, 0, 0, 0, []), (60, 3, 17, 11, 18, 71, 0, [1152]), (63, 2, 1, 4, 0, 0, 0, []), (65, 1, 24, 0, 0, 0, 0, []), (66, 1, 2, 0, 0, 0, 0, []), (67, 3, 18, 11, 24, 89, 0, [1158]), (70, 1, 2, 0, 0, 0, 0, []), (71, 3, 17, 11, 18, 71, 0, [1152]), (74, 2, 1, 5, 0, 0, 0, []), (76, 1, 24, 0, 0, 0, 0, []), (77, 1, 2, 0, 0, 0, 0, []), (78, 3, 18, 11, 25, 92, 0, [1159]), (81, 1, 2, 0, 0, 0, 0, []), (82, 3, 17, 11, 18, 71, 0, [1152]), (85, 2, 1, 6, 0, 0, 0, []), (87, 1, 24, 0, 0, 0, 0, []), (88, 1, 2, 0, 0, 0, 0, []), (89, 3, 18, 11, 26, 95, 0, [1160]), (92, 1, 2, 0, 0, 0, 0, []), (93, 3, 17, 11, 18, 71, 0, [1152]), (96, 2, 1, 7, 0, 0, 0, []), (98, 1, 24, 0, 0, 0, 0, []), (99, 1, 2, 0, 0, 0, 0, []), (100, 1, 32, 0, 0, 0, 0, []), (101, 3, 17, 11, 18, 71, 0, [1152]), (104, 1, 0, 0, 0, 0, 1, []), (105, 1, 6, 0, 0, 0, 0, []), (106, 3, 19, 11, 18, 71, 0, [1152]), (109, 1, 2, 0, 0, 0, 0, []), (110, 3, 17, 11, 18, 71, 0, [1152]), (113, 1, 0, 0, 0, 0, 1, []), (114, 1, 6, 1, 0, 0, 0, []), (115, 1, 39, 0, 0, 0, 0, [])]
def p142 : List (Nat × List PI) := [(0, p142_0), (12, p142_12)]
def p143_0 : List PI := [(0, 1, 0, 0, 0, 0, 0, []), (1, 2, 3, 4, 0, 0, 0, []), (3, 0, 45, 0, 3, 0, 0, [])]
def p143_3 : List PI := [(3, 2, 1, 4, 0, 0, 0, []), (5, 1, 2, 0, 0, 0, 0, []), (6, 3, 17, 11, 18, 71, 0, [1152]), (9, 3, 11, 3, 65, 0, 0, []), (12, 1, 2, 0, 0, 0, 0, []), (13, 3, 18, 11, 19, 74, 0, [1153]), (16, 2, 1, 4, 0, 0, 0, []), (18, 1, 22, 0, 0, 0, 0, []), (19, 1, 0, 0, 0, 0, 1, []), (20, 3, 11, 1, 59, 0, 0, []), (23, 1, 2, 0, 0, 0, 0, []), (24, 3, 18, 11, 20, 77, 0, [1154]), (27, 2, 1, 4, 0, 0, 0, []), (29, 1, 22, 0, 0, 0, 0, []), (30, 1, 1, 1, 0, 0, 0, []), (31, 3, 11, 1, 59, 0, 0, []), (34, 1, 2, 0, 0, 0, 0, []), (35, 3, 18, 11, 21, 80, 0, [1155]), (38, 2, 1, 4, 0, 0, 0, []), (40, 1, 22, 0, 0, 0, 0, []), (41, 1, 1, 2, 0, 0, 0, []), (42, 3, 11, 1, 59, 0, 0, []), (45, 1, 2, 0, 0, 0, 0, []), (46, 3, 18, 11, 22, 83, 0, [1156]), (49, 2, 1, 4, 0, 0, 0, []), (51, 1, 22, 0, 0, 0, 0, []), (52, 1, 1, 3, 0, 0, 0, []), (53, 3, 11, 4, 59, 0, 0, []), (56, 2, 1, 4, 0, 0, 0, []), (58, 1, 39, 0, 0, 0, 0, [])]
def p143_59 : List PI := [(59, 3, 5, 4, 0, 0, 1, []), (62, 3, 14, 0, 3, 0, 0, [])]
def p143_65 : List PI := [(65, 1, 0, 0, 0, 0, -1, []), (66, 1, 39, 0, 0, 0, 0, [])]
def p143 : List (Nat × List PI) := [(0, p143_0), (3, p143_3), (59, p143_59), (65, p143_65)]
def p144_0 : List PI := [(0, 1, 2, 0, 0, 0, 0, []), (1, 1, 1, 1, 0, 0, 0, []), (2, 3, 35, 128, 2, 12, 0, [40, 88, 960, 962, 31]), (5, 3, 10, 0, 16, 0, 0, []), (8, 1, 2, 0, 0, 0, 0, []), (9, 1, 1, 2, 0, 0, 0, []), (10, 3, 35, 129, 2, 12, 0, [24, 88, 948, 950, 30]), (13, 3, 10, 1, 18, 0, 0, []), (16, 0, 45, 0, 16, 0, 0, [])]
def p144_16 : List PI := [(16, 1, 0, 0, 0, 0, -1, []), (17, 1, 39, 0, 0, 0, 0, [])]
def p144_18 : List PI := [(18, 1, 2, 0, 0, 0, 0, []), (19, 1, 1, 3, 0, 0, 0, []), (20, 1, 0, 0, 0, 0, 0, []), (21, 2, 0, 0, 0, 0, 24, []), (23, 3, 35, 125, 4, 12, 0, [1, 88, 931, 933, 29]), (26, 3, 10, 0, 53, 0, 0, []), (29, 1, 2, 0, 0, 0, 0, []), (30, 2, 1, 4, 0, 0, 0, []), (32, 1, 0, 0, 0, 0, 0, []), (33, 2, 0, 0, 0, 0, 60, []), (35, 3, 35, 125, 4, 12, 0, [1, 88, 931, 933, 29]), (38, 3, 10, 0, 53, 0, 0, []), (41, 1, 2, 0, 0, 0, 0, []), (42, 2, 1, 5, 0, 0, 0, []), (44, 1, 0, 0, 0, 0, 0, []), (45, 2, 0, 0, 0, 0, 15, []), (47, 3, 35, 125, 4, 12, 0, [1, 88, 931, 933, 29]), (50, 3, 10, 1, 56, 0, 0, []), (53, 0, 45, 0, 53, 0, 0, [])]
def p144_53 : List PI := [(53, 2, 0, 0, 0, 0, -2, []), (55, 1, 39, 0, 0, 0, 0, [])]
def p144_56 : List PI := [(56, 1, 2, 0, 0, 0, 0, []), (57, 1, 1, 1, 0, 0, 0, []), (58, 1, 1, 2, 0, 0, 0, []), (59, 2, 0, 0, 0, 0, 99, []), (61, 3, 35, 143, 4, 12, 0, [98, 88, 980, 982, 33]), (64, 3, 10, 2, 72, 0, 0, []), (67, 2, 0, 0, 0, 0, -3, []), (69, 3, 14, 0, 86, 0, 0, [])]
def p144_72 : List PI := [(72, 1, 2, 0, 0, 0, 0, []), (73, 1, 0, 0, 0, 0, 1, []), (74, 1, 1, 1, 0, 0, 0, []), (75, 1, 1, 2, 0, 0, 0, []), (76, 1, 1, 3, 0, 0, 0, []), (77, 2, 1, 4, 0, 0, 0, []), (79, 2, 1, 5, 0, 0, 0, []), (81, 2, 0, 0, 984, 102, -1000000000, []), (83, 3, 35, 142, 8, 12, 0, [103, 88, 985, 987, 34]), (86, 0, 45, 0, 86, 0, 0, [])]
def p144_86 : List PI := [(86, 1, 39, 0, 0, 0, 0, [])]
def p144 : List (Nat × List PI) := [(0, p144_0), (16, p144_16), (18, p144_18), (53, p144_53), (56, p144_56), (72, p144_72), (86, p144_86)]
def p145_0 : List PI := [(0, 1, 2, 0, 0, 0, 0, []), (1, 1, 1, 1, 0, 0, 0, []), (2, 3, 35, 128, 2, 12, 0, [40, 88, 960, 962, 31]), (5, 3, 10, 0, 16, 0, 0, []), (8, 1, 2, 0, 0, 0, 0, []), (9, 1, 1, 2, 0, 0, 0, []), (10, 3, 35, 129, 2, 12, 0, [24, 88, 948, 950, 30]), (13, 3, 10, 1, 18, 0, 0, []), (16, 0, 45, 0, 16, 0, 0, [])]
def p145_16 : List PI := [(16, 1, 0, 0, 0, 0, -1, []), (17, 1, 39, 0, 0, 0, 0, [])]
def p145_18 : List PI := [(18, 1, 2, 0, 0, 0, 0, []), (19, 1, 1, 3, 0, 0, 0, []), (20, 1, 0, 0, 0, 0, 0, []), (21, 3, 0, 0, 0, 0, 5400, []), (24, 3, 35, 125, 4, 12, 0, [1, 88, 931, 933, 29]), (27, 3, 10, 0, 42, 0, 0, []), (30, 1, 2, 0, 0, 0, 0, []), (31, 2, 1, 4, 0, 0, 0, []), (33, 1, 0, 0, 0, 0, 0, []), (34, 2, 0, 0, 0, 0, 60, []), (36, 3, 35, 125, 4, 12, 0, [1, 88, 931, 933, 29]), (39, 3, 10, 1, 45, 0, 0, []), (42, 0, 45, 0, 42, 0, 0, [])]
def p145_42 : List PI := [(42, 2, 0, 0, 0, 0, -2, []), (44, 1, 39, 0, 0, 0, 0, [])]
def p145_45 : List PI := [(45, 1, 2, 0, 0, 0, 0, []), (46, 2, 1, 5, 0, 0, 0, []), (48, 3, 10, 0, 56, 0, 0, []), (51, 2, 0, 0, 0, 0, 6, []), (53, 3, 14, 0, 57, 0, 0, [])]
def p145_56 : List PI := [(56, 1, 0, 0, 0, 0, 2, []), (57, 0, 45, 0, 57, 0, 0, [])]
def p145_57 : List PI := [(57, 1, 1, 1, 0, 0, 0, []), (58, 1, 1, 2, 0, 0, 0, []), (59, 1, 1, 3, 0, 0, 0, []), (60, 2, 1, 4, 0, 0, 0, []), (62, 2, 0, 0, 984, 102, -1000000000, []), (64, 2, 0, 0, 984, 102, -1000000000, []), (66, 3, 35, 142, 8, 12, 0, [103, 88, 985, 987, 34]), (69, 1, 39, 0, 0, 0, 0, [])]
def p145 : List (Nat × List PI) := [(0, p145_0), (16, p145_16), (18, p145_18), (42, p145_42), (45, p145_45), (56, p145_56), (57, p145_57)]
def p146_0 : List PI := [(0, 1, 2, 0, 0, 0, 0, []), (1, 1, 1, 1, 0, 0, 0, []), (2, 3, 35, 128, 2, 12, 0, [40, 88, 960, 962, 31]), (5, 3, 10, 0, 16, 0, 0, []), (8, 1, 2, 0, 0, 0, 0, []), (9, 1, 1, 2, 0, 0, 0, []), (10, 3, 35, 129, 2, 12, 0, [24, 88, 948, 950, 30]), (13, 3, 10, 1, 18, 0, 0, []), (16, 0, 45, 0, 16, 0, 0, [])]
def p146_16 : List PI := [(16, 1, 0, 0, 0, 0, -1, []), (17, 1, 39, 0, 0, 0, 0, [])]
def p146_18 : List PI := [(18, 1, 2, 0, 0, 0, 0, []), (19, 1, 1, 3, 0, 0, 0, []), (20, 1, 0, 0, 0, 0, 0, []), (21, 2, 0, 0, 0, 0, 15, []), (23, 3, 35, 125, 4, 12, 0, [1, 88, 931, 933, 29]), (26, 3, 10, 0, 46, 0, 0, []), (29, 1, 2, 0, 0, 0, 0, []), (30, 1, 0, 0, 0, 0, 3, []), (31, 1, 1, 1, 0, 0, 0, []), (32, 1, 1, 2, 0, 0, 0, []), (33, 1, 1, 3, 0, 0, 0, []), (34, 2, 0, 0, 984, 102, -1000000000, []), (36, 2, 0, 0, 984, 102, -1000000000, []), (38, 2, 0, 0, 984, 102, -1000000000, []), (40, 3, 35, 142, 8, 12, 0, [103, 88, 985, 987, 34]), (43, 3, 14, 0, 48, 0, 0, [])]
def p146_46 : List PI := [(46, 2, 0, 0, 0, 0, -2, []), (48, 0, 45, 0, 48, 0, 0, [])]
def p146_48 : List PI := [(48, 1, 39, 0, 0, 0, 0, [])]
def p146 : List (Nat × List PI) := [(0, p146_0), (16, p146_16), (18, p146_18), (46, p146_46), (48, p146_48)]
def p147_0 : List PI := [(0, 1, 2, 0, 0, 0, 0, []), (1, 1, 1, 1, 0, 0, 0, []), (2, 3, 35, 128, 2, 12, 0, [40, 88, 960, 962, 31]), (5, 3, 10, 0, 16, 0, 0, []), (8, 1, 2, 0, 0, 0, 0, []), (9, 1, 1, 2, 0, 0, 0, []), (10, 3, 35, 129, 2, 12, 0, [24, 88, 948, 950, 30]), (13, 3, 10, 1, 18, 0, 0, []), (16, 0, 45, 0, 16, 0, 0, [])]
def p147_16 : List PI := [(16, 1, 0, 0, 0, 0, -1, []), (17, 1, 39, 0, 0, 0, 0, [])]
def p147_18 : List PI := [(18, 1, 2, 0, 0, 0, 0, []), (19, 1, 1, 3, 0, 0, 0, []), (20, 1, 0, 0, 0, 0, 1, []), (21, 3, 0, 0, 0, 0, 999, []), (24, 3, 35, 125, 4, 12, 0, [1, 88, 931, 933, 29]), (27, 3, 10, 0, 55, 0, 0, []), (30, 1, 2, 0, 0, 0, 0, []), (31, 2, 1, 4, 0, 0, 0, []), (33, 1, 0, 0, 0, 0, 1, []), (34, 3, 0, 0, 0, 0, 999, []), (37, 3, 35, 125, 4, 12, 0, [1, 88, 931, 933, 29]), (40, 3, 10, 0, 55, 0, 0, []), (43, 1, 2, 0, 0, 0, 0, []), (44, 2, 1, 5, 0, 0, 0, []), (46, 1, 0, 0, 0, 0, 0, []), (47, 2, 0, 0, 0, 0, 9, []), (49, 3, 35, 125, 4, 12, 0, [1, 88, 931, 933, 29]), (52, 3, 10, 1, 58, 0, 0, []), (55, 0, 45, 0, 55, 0, 0, [])]
def p147_55 : List PI := [(55, 2, 0, 0, 0, 0, -2, []), (57, 1, 39, 0, 0, 0, 0, [])]
def p147_58 : List PI := [(58, 1, 2, 0, 0, 0, 0, []), (59, 1, 0, 0, 0, 0, 4, []), (60, 1, 1, 1, 0, 0, 0, []), (61, 1, 1, 2, 0, 0, 0, []), (62, 1, 1, 3, 0, 0, 0, []), (63, 2, 1, 4, 0, 0, 0, []), (65, 2, 1, 5, 0, 0, 0, []), (67, 2, 0, 0, 984, 102, -1000000000, []), (69, 3, 35, 142, 8, 12, 0, [103, 88, 985, 987, 34]), (72, 1, 39, 0, 0, 0, 0, [])]
def p147 : List (Nat × List PI) := [(0, p147_0), (16, p147_16), (18, p147_18), (55, p147_55), (58, p147_58)]
def p148_0 : List PI := [(0, 1, 2, 0, 0, 0, 0, []), (1, 1, 1, 1, 0, 0, 0, []), (2, 3, 35, 128, 2, 12, 0, [40, 88, 960, 962, 31]), (5, 3, 10, 0, 31, 0, 0, []), (8, 1, 2, 0, 0, 0, 0, []), (9, 1, 1, 2, 0, 0, 0, []), (10, 3, 35, 129, 2, 12, 0, [24, 88, 948, 950, 30]), (13, 3, 10, 0, 31, 0, 0, []), (16, 1, 2, 0, 0, 0, 0, []), (17, 1, 1, 3, 0, 0, 0, []), (18, 1, 0, 0, 0, 0, 0, []), (19, 1, 2, 0, 0, 0, 0, []), (20, 3, 17, 11, 1, 31, 0, [1135]), (23, 1, 0, 0, 0, 0, 1, []), (24, 1, 6, 1, 0, 0, 0, []), (25, 3, 35, 125, 4, 12, 0, [1, 88, 931, 933, 29]), (28, 3, 10, 1, 33, 0, 0, []), (31, 0, 45, 0, 31, 0, 0, [])]
def p148_31 : List PI := [(31, 1, 0, 0, 0, 0, -1, []), (32, 1, 39, 0, 0, 0, 0, [])]
def p148_33 : List PI := [(33, 1, 2, 0, 0, 0, 0, []), (34, 2, 1, 4, 0, 0, 0, []), (36, 2, 1, 5, 0, 0, 0, []), (38, 3, 35, 131, 3, 12, 0, [52, 88, 968, 970, 32]), (41, 3, 10, 0, 57, 0, 0, []), (44, 1, 2, 0, 0, 0, 0, []), (45, 2, 1, 6, 0, 0, 0, []), (47, 1, 0, 0, 0, 0, 0, []), (48, 3, 0, 0, 0, 0, 200, []), (51, 3, 35, 125, 4, 12, 0, [1, 88, 931, 933, 29]), (54, 3, 10, 1, 60, 0, 0, []), (57, 0, 45, 0, 57, 0, 0, [])]
def p148_57 : List PI := [(57, 2, 0, 0, 0, 0, -2, []), (59, 1, 39, 0, 0, 0, 0, [])]
def p148_60 : List PI := [(60, 1, 2, 0, 0, 0, 0, []), (61, 1, 0, 0, 0, 0, 5, []), (62, 1, 1, 1, 0, 0, 0, []), (63, 1, 1, 2, 0, 0, 0, []), (64, 1, 1, 3, 0, 0, 0, []), (65, 2, 1, 4, 0, 0, 0, []), (67, 2, 1, 5, 0, 0, 0, []), (69, 2, 1, 6, 0, 0, 0, []), (71, 3, 35, 142, 8, 12, 0, [103, 88, 985, 987, 34]), (74, 1, 39, 0, 0, 0, 0, [])]
def p148 : List (Nat × List PI) := [(0, p148_0), (31, p148_31), (33, p148_33), (57, p148_57), (60, p148_60)]
def p149_0 : List PI := [(0, 1, 2, 0, 0, 0, 0, []), (1, 1, 1, 1, 0, 0, 0, []), (2, 3, 35, 128, 2, 12, 0, [40, 88, 960, 962, 31]), (5, 3, 10, 0, 24, 0, 0, []), (8, 1, 2, 0, 0, 0, 0, []), (9, 1, 1, 2, 0, 0, 0, []), (10, 3, 35, 129, 2, 12, 0, [24, 88, 948, 950, 30]), (13, 3, 10, 0, 24, 0, 0, []), (16, 1, 2, 0, 0, 0, 0, []), (17, 1, 1, 3, 0, 0, 0, []), (18, 3, 35, 211, 2, 12, 0, [107, 88, 1009, 1011, 35]), (21, 3, 10, 1, 26, 0, 0, []), (24, 0, 45, 0, 24, 0, 0, [])]
def p149_24 : List PI := [(24, 1, 0, 0, 0, 0, -1, []), (25, 1, 39, 0, 0, 0, 0, [])]
def p149_26 : List PI := [(26, 1, 2, 0, 0, 0, 0, []), (27, 2, 1, 5, 0, 0, 0, []), (29, 1, 0, 0, 0, 0, 1, []), (30, 2, 0, 0, 0, 0, 40, []), (32, 3, 35, 125, 4, 12, 0, [1, 88, 931, 933, 29]), (35, 3, 10, 0, 50, 0, 0, []), (38, 1, 2, 0, 0, 0, 0, []), (39, 2, 1, 6, 0, 0, 0, []), (41, 1, 0, 0, 0, 0, 0, []), (42, 2, 0, 0, 0, 0, 60, []), (44, 3, 35, 125, 4, 12, 0, [1, 88, 931, 933, 29]), (47, 3, 10, 1, 53, 0, 0, []), (50, 0, 45, 0, 50, 0, 0, [])]
def p149_50 : List PI := [(50, 2, 0, 0, 0, 0, -2, []), (52, 1, 39, 0, 0, 0, 0, [])]
def p149_53 : List PI := [(53, 1, 2, 0, 0, 0, 0, []), (54, 3, 18, 11, 55, 110, 0, [1189]), (57, 1, 1, 3, 0, 0, 0, []), (58, 1, 22, 0, 0, 0, 0, []), (59, 3, 10, 2, 75, 0, 0, []), (62, 1, 2, 0, 0, 0, 0, []), (63, 3, 18, 11, 55, 110, 0, [1189]), (66, 1, 1, 3, 0, 0, 0, []), (67, 1, 22, 0, 0, 0, 0, []), (68, 1, 0, 0, 0, 0, 1, []), (69, 3, 11, 0, 75, 0, 0, []), (72, 2, 0, 0, 0, 0, -12, []), (74, 1, 39, 0, 0, 0, 0, [])]
def p149_75 : List PI := [(75, 1, 0, 0, 0, 0, 0, []), (76, 2, 3, 7, 0, 0, 0, []), (78, 1, 0, 0, 0, 0, 0, []), (79, 2, 3, 8, 0, 0, 0, []), (81, 0, 45, 0, 81, 0, 0, [])]
def p149_81 : List PI := [(81, 2, 1, 8, 0, 0, 0, []), (83, 2, 1, 5, 0, 0, 0, []), (85, 3, 11, 3, 201, 0, 0, []), (88, 1, 2, 0, 0, 0, 0, []), (89, 3, 18, 11, 55, 110, 0, [1189]), (92, 1, 1, 3, 0, 0, 0, []), (93, 1, 22, 0, 0, 0, 0, []), (94, 3, 10, 2, 126, 0, 0, []), (97, 2, 1, 4, 0, 0, 0, []), (99, 3, 10, 2, 126, 0, 0, []), (102, 2, 1, 4, 0, 0, 0, []), (104, 1, 2, 0, 0, 0, 0, []), (105, 3, 18, 11, 56, 113, 0, [1190]), (108, 1, 1, 3, 0, 0, 0, []), (109, 1, 22, 0, 0, 0, 0, []), (110, 2, 1, 8, 0, 0, 0, []), (112, 1, 6, 1, 0, 0, 0, []), (113, 3, 11, 3, 126, 0, 0, []), (116, 1, 1, 2, 0, 0, 0, []), (117, 2, 1, 8, 0, 0, 0, []), (119, 1, 6, 0, 0, 0, 0, []), (120, 3, 0, 0, 0, 0, 200, []), (123, 3, 11, 2, 129, 0, 0, []), (126, 0, 45, 0, 126, 0, 0, [])]
def p149_126 : List PI := [(126, 2, 1, 7, 0, 0, 0, []), (128, 1, 39, 0, 0, 0, 0, [])]
def p149_129 : List PI := [(129, 1, 2, 0, 0, 0, 0, []), (130, 3, 18, 11, 57, 116, 0, [1191]), (133, 2, 0, 0, 0, 0, 60, []), (135, 1, 1, 3, 0, 0, 0, []), (136, 1, 6, 2, 0, 0, 0, []), (137, 2, 1, 4, 0, 0, 0, []), (139, 1, 6, 0, 0, 0, 0, []), (140, 2, 1, 8, 0, 0, 0, []), (142, 1, 6, 0, 0, 0, 0, []), (143, 1, 22, 0, 0, 0, 0, []), (144, 2, 3, 9, 0, 0, 0, []), (146, 2, 1, 9, 0, 0, 0, []), (148, 1, 0, 0, 0, 0, -1, []), (149, 3, 11, 1, 155, 0, 0, []), (152, 3, 14, 0, 195, 0, 0, [])]
def p149_155 : List PI := [(155, 1, 2, 0, 0, 0, 0, []), (156, 2, 1, 9, 0, 0, 0, []), (158, 1, 0, 0, 0, 0, 0, []), (159, 3, 0, 0, 0, 0, 5400, []), (162, 3, 35, 125, 4, 12, 0, [1, 88, 931, 933, 29]), (165, 3, 10, 0, 189, 0, 0, []), (168, 1, 2, 0, 0, 0, 0, []), (169, 1, 0, 0, 0, 0, 2, []), (170, 1, 1, 1, 0, 0, 0, []), (171, 1, 1, 2, 0, 0, 0, []), (172, 2, 1, 8, 0, 0, 0, []), (174, 1, 6, 0, 0, 0, 0, []), (175, 2, 1, 9, 0, 0, 0, []), (177, 2, 1, 6, 0, 0, 0, []), (179, 2, 0, 0, 984, 102, -1000000000, []), (181, 2, 0, 0, 984, 102, -1000000000, []), (183, 3, 35, 142, 8, 12, 0, [103, 88, 985, 987, 34]), (186, 3, 10, 3, 192, 0, 0, []), (189, 0, 45, 0, 189, 0, 0, [])]
def p149_189 : List PI := [(189, 2, 1, 7, 0, 0, 0, []), (191, 1, 39, 0, 0, 0, 0, [])]
def p149_192 : List PI := [(192, 3, 5, 7, 0, 0, 1, []), (195, 0, 45, 0, 195, 0, 0, [])]
def p149_195 : List PI := [(195, 3, 5, 8, 0, 0, 1, []), (198, 3, 14, 0, 81, 0, 0, [])]
def p149_201 : List PI := [(201, 2, 1, 7, 0, 0, 0, []), (203, 1, 39, 0, 0, 0, 0, [])]
def p149 : List (Nat × List PI) := [(0, p149_0), (24, p149_24), (26, p149_26), (50, p149_50), (53, p149_53), (75, p149_75), (81, p149_81), (126, p149_126), (129, p149_129), (155, p149_155), (189, p149_189), (192, p149_192), (195, p149_195), (201, p149_201)]
def p150_0 : List PI := [(0, 1, 2, 0, 0, 0, 0, []), (1, 1, 1, 1, 0, 0, 0, []), (2, 3, 35, 141, 2, 12, 0, [119, 88, 1017, 1019, 36]), (5, 3, 10, 1, 11, 0, 0, []), (8, 2, 0, 0, 984, 102, -1000000000, []), (10, 1, 39, 0, 0, 0, 0, [])]
def p150_11 : List PI := [(11, 1, 1, 2, 0, 0, 0, []), (12, 48, 15, 0, 116, 0, 0, [60, 67, 74, 81, 88, 95, 102, 109])]
def p150_60 : List PI := [(60, 1, 2, 0, 0, 0, 0, []), (61, 3, 18, 11, 19, 74, 0, [1153]), (64, 1, 1, 1, 0, 0, 0, []), (65, 1, 22, 0, 0, 0, 0, []), (66, 1, 39, 0, 0, 0, 0, [])]
def p150_67 : List PI := [(67, 1, 2, 0, 0, 0, 0, []), (68, 3, 18, 11, 20, 77, 0, [1154]), (71, 1, 1, 1, 0, 0, 0, []), (72, 1, 22, 0, 0, 0, 0, []), (73, 1, 39, 0, 0, 0, 0, [])]
def p150_74 : List PI := [(74, 1, 2, 0, 0, 0, 0, []), (75, 3, 18, 11, 21, 80, 0, [1155]), (78, 1, 1, 1, 0, 0, 0, []), (79, 1, 22, 0, 0, 0, 0, []), (80, 1, 39, 0, 0, 0, 0, [])]
def p150_81 : List PI := [(81, 1, 2, 0, 0, 0, 0, []), (82, 3, 18, 11, 22, 83, 0, [1156]), (85, 1, 1, 1, 0, 0, 0, []), (86, 1, 22, 0, 0, 0, 0, []), (87, 1, 39, 0, 0, 0, 0, [])]
def p150_88 : List PI := [(88, 1, 2, 0, 0, 0, 0, []), (89, 3, 18, 11, 23, 86, 0, [1157]), (92, 1, 1, 1, 0, 0, 0, []), (93, 1, 22, 0, 0, 0, 0, []), (94, 1, 39, 0, 0, 0, 0, [])]
def p150_95 : List PI := [(95, 1, 2, 0, 0, 0, 0, []), (96, 3, 18, 11, 24, 89, 0, [1158]), (99, 1, 1, 1, 0, 0, 0, []), (100, 1, 22, 0, 0, 0, 0, []), (101, 1, 39, 0, 0, 0, 0, [])]
def p150_102 : List PI := [(102, 1, 2, 0, 0, 0, 0, []), (103, 3, 18, 11, 25, 92, 0, [1159]), (106, 1, 1, 1, 0, 0, 0, []), (107, 1, 22, 0, 0, 0, 0, []), (108, 1, 39, 0, 0, 0, 0, [])]
def p150_109 : List PI := [(109, 1, 2, 0, 0, 0, 0, []), (110, 3, 18, 11, 26, 95, 0, [1160]), (113, 1, 1, 1, 0, 0, 0, []), (114, 1, 22, 0, 0, 0, 0, []), (115, 1, 39, 0, 0, 0, 0, [])]
def p150_116 : List PI := [(116, 2, 0, 0, 984, 102, -1000000000, []), (118, 1, 39, 0, 0, 0, 0, [])]
def p150 : List (Nat × List PI) := [(0, p150_0), (11, p150_11), (60, p150_60), (67, p150_67), (74, p150_74), (81, p150_81), (88, p150_88), (95, p150_95), (102, p150_102), (109, p150_109), (116, p150_116)]
def p151_0 : List PI := [(0, 1, 2, 0, 0, 0, 0, []), (1, 3, 18, 11, 13, 56, 0, [1147]), (4, 1, 1, 1, 0, 0, 0, []), (5, 1, 22, 0, 0, 0, 0, []), (6, 1, 3, 3, 0, 0, 0, []), (7, 1, 2, 0, 0, 0, 0, []), (8, 3, 18, 11, 14, 59, 0, [1148]), (11, 1, 1, 1, 0, 0, 0, []), (12, 1, 22, 0, 0, 0, 0, []), (13, 2, 3, 4, 0, 0, 0, []), (15, 1, 2, 0, 0, 0, 0, []), (16, 3, 18, 11, 27, 122, 0, [1161]), (19, 1, 0, 0, 0, 0, 0, []), (20, 1, 1, 3, 0, 0, 0, []), (21, 1, 24, 0, 0, 0, 0, []), (22, 1, 2, 0, 0, 0, 0, []), (23, 3, 18, 11, 28, 125, 0, [1162]), (26, 1, 0, 0, 0, 0, 0, []), (27, 2, 1, 4, 0, 0, 0, []), (29, 1, 24, 0, 0, 0, 0, []), (30, 1, 0, 0, 0, 0, 0, []), (31, 2, 3, 5, 0, 0, 0, []), (33, 0, 45, 0, 33, 0, 0, [])]
def p151_33 : List PI := [(33, 2, 1, 5, 0, 0, 0, []), (35, 3, 0, 0, 0, 0, 200, []), (38, 3, 11, 3, 201, 0, 0, []), (41, 1, 2, 0, 0, 0, 0, []), (42, 1, 1, 1, 0, 0, 0, []), (43, 2, 1, 5, 0, 0, 0, []), (45, 1, 1, 2, 0, 0, 0, []), (46, 3, 35, 143, 4, 12, 0, [98, 88, 980, 982, 33]), (49, 2, 3, 6, 0, 0, 0, []), (51, 2, 1, 6, 0, 0, 0, []), (53, 3, 10, 2, 135, 0, 0, []), (56, 1, 2, 0, 0, 0, 0, []), (57, 3, 18, 11, 23, 86, 0, [1157]), (60, 2, 1, 6, 0, 0, 0, []), (62, 1, 22, 0, 0, 0, 0, []), (63, 1, 2, 0, 0, 0, 0, []), (64, 3, 18, 11, 24, 89, 0, [1158]), (67, 2, 1, 6, 0, 0, 0, []), (69, 1, 22, 0, 0, 0, 0, []), (70, 1, 6, 2, 0, 0, 0, []), (71, 2, 0, 0, 0, 0, 10, []), (73, 1, 7, 0, 0, 0, 0, []), (74, 2, 3, 7, 0, 0, 0, []), (76, 1, 2, 0, 0, 0, 0, []), (77, 1, 1, 3, 0, 0, 0, []), (78, 2, 1, 7, 0, 0, 0, []), (80, 1, 2, 0, 0, 0, 0, []), (81, 3, 18, 11, 2, 128, 0, [1136]), (84, 1, 2, 0, 0, 0, 0, []), (85, 3, 18, 11, 25, 92, 0, [1159]), (88, 2, 1, 6, 0, 0, 0, []), (90, 1, 22, 0, 0, 0, 0, []), (91, 1, 22, 0, 0, 0, 0, []), (92, 1, 6, 2, 0, 0, 0, []), (93, 3, 0, 0, 0, 0, 1000, []), (96, 1, 7, 0, 0, 0, 0, []), (97, 1, 6, 0, 0, 0, 0, []), (98, 3, 35, 127, 2, 12, 0, [131, 88, 1033, 1035, 39]), (101, 1, 3, 3, 0, 0, 0, []), (102, 1, 2, 0, 0, 0, 0, []), (103, 2, 1, 4, 0, 0, 0, []), (105, 2, 1, 7, 0, 0, 0, []), (107, 1, 2, 0, 0, 0, 0, []), (108, 3, 18, 11, 2, 128, 0, [1136]), (111, 1, 2, 0, 0, 0, 0, []), (112, 3, 18, 11, 25, 92, 0, [1159]), (115, 2, 1, 6, 0, 0, 0, []), (117, 1, 22, 0, 0, 0, 0, []), (118, 1, 0, 0, 0, 0, 4, []), (119, 1, 6, 0, 0, 0, 0, []), (120, 2, 0, 0, 0, 0, 16, []), (122, 1, 8, 0, 0, 0, 0, []), (123, 1, 22, 0, 0, 0, 0, []), (124, 1, 6, 2, 0, 0, 0, []), (125, 3, 0, 0, 0, 0, 1000, []), (128, 1, 7, 0, 0, 0, 0, []), (129, 1, 6, 0, 0, 0, 0, []), (130, 3, 35, 127, 2, 12, 0, [131, 88, 1033, 1035, 39]), (133, 2, 3, 4, 0, 0, 0, []), (135, 0, 45, 0, 135, 0, 0, [])]
def p151_135 : List PI := [(135, 1, 2, 0, 0, 0, 0, []), (136, 1, 1, 3, 0, 0, 0, []), (137, 2, 1, 4, 0, 0, 0, []), (139, 3, 35, 132, 3, 12, 0, [135, 88, 1037, 1039, 40]), (142, 2, 3, 7, 0, 0, 0, []), (144, 1, 2, 0, 0, 0, 0, []), (145, 1, 1, 3, 0, 0, 0, []), (146, 1, 2, 0, 0, 0, 0, []), (147, 3, 18, 11, 3, 11, 0, [1137]), (150, 2, 1, 7, 0, 0, 0, []), (152, 1, 22, 0, 0, 0, 0, []), (153, 1, 6, 0, 0, 0, 0, []), (154, 3, 35, 127, 2, 12, 0, [131, 88, 1033, 1035, 39]), (157, 1, 3, 3, 0, 0, 0, []), (158, 1, 2, 0, 0, 0, 0, []), (159, 2, 1, 4, 0, 0, 0, []), (161, 1, 2, 0, 0, 0, 0, []), (162, 3, 18, 11, 4, 15, 0, [1138]), (165, 2, 1, 7, 0, 0, 0, []), (167, 1, 22, 0, 0, 0, 0, []), (168, 1, 6, 0, 0, 0, 0, []), (169, 3, 35, 127, 2, 12, 0, [131, 88, 1033, 1035, 39]), (172, 2, 3, 4, 0, 0, 0, []), (174, 1, 2, 0, 0, 0, 0, []), (175, 3, 18, 11, 27, 122, 0, [1161]), (178, 2, 1, 5, 0, 0, 0, []), (180, 1, 0, 0, 0, 0, 1, []), (181, 1, 6, 0, 0, 0, 0, []), (182, 1, 1, 3, 0, 0, 0, []), (183, 1, 24, 0, 0, 0, 0, []), (184, 1, 2, 0, 0, 0, 0, []), (185, 3, 18, 11, 28, 125, 0, [1162]), (188, 2, 1, 5, 0, 0, 0, []), (190, 1, 0, 0, 0, 0, 1, []), (191, 1, 6, 0, 0, 0, 0, []), (192, 2, 1, 4, 0, 0, 0, []), (194, 1, 24, 0, 0, 0, 0, []), (195, 3, 5, 5, 0, 0, 1, []), (198, 3, 14, 0, 33, 0, 0, [])]
def p151_201 : List PI := [(201, 1, 38, 0, 0, 0, 0, [])]
def p151 : List (Nat × List PI) := [(0, p151_0), (33, p151_33), (135, p151_135), (201, p151_201)]
def p152_0 : List PI := [(0, 1, 2, 0, 0, 0, 0, []), (1, 1, 1, 1, 0, 0, 0, []), (2, 3, 35, 128, 2, 12, 0, [40, 88, 960, 962, 31]), (5, 3, 10, 0, 28, 0, 0, []), (8, 1, 2, 0, 0, 0, 0, []), (9, 1, 1, 2, 0, 0, 0, []), (10, 1, 0, 0, 0, 0, -1, []), (11, 3, 0, 0, 0, 0, 199, []), (14, 3, 35, 125, 4, 12, 0, [1, 88, 931, 933, 29]), (17, 3, 10, 0, 28, 0, 0, []), (20, 1, 2, 0, 0, 0, 0, []), (21, 1, 1, 3, 0, 0, 0, []), (22, 3, 35, 130, 2, 12, 0, [139, 88, 1025, 1027, 37]), (25, 3, 10, 1, 30, 0, 0, []), (28, 0, 45, 0, 28, 0, 0, [])]
def p152_28 : List PI := [(28, 1, 0, 0, 0, 0, -1, []), (29, 1, 39, 0, 0, 0, 0, [])]
def p152_30 : List PI := [(30, 1, 2, 0, 0, 0, 0, []), (31, 1, 1, 1, 0, 0, 0, []), (32, 1, 1, 3, 0, 0, 0, []), (33, 3, 36, 151, 3, 12, 0, [142, 88, 1029, 1031, 38]), (36, 3, 0, 0, 0, 0, 1000, []), (39, 1, 2, 0, 0, 0, 0, []), (40, 3, 18, 11, 27, 122, 0, [1161]), (43, 1, 1, 2, 0, 0, 0, []), (44, 1, 0, 0, 0, 0, 1, []), (45, 1, 6, 0, 0, 0, 0, []), (46, 1, 22, 0, 0, 0, 0, []), (47, 3, 0, 0, 0, 0, 400, []), (50, 1, 6, 0, 0, 0, 0, []), (51, 1, 6, 2, 0, 0, 0, []), (52, 1, 2, 0, 0, 0, 0, []), (53, 3, 18, 11, 28, 125, 0, [1162]), (56, 1, 1, 2, 0, 0, 0, []), (57, 1, 0, 0, 0, 0, 1, []), (58, 1, 6, 0, 0, 0, 0, []), (59, 1, 22, 0, 0, 0, 0, []), (60, 1, 6, 0, 0, 0, 0, []), (61, 3, 0, 0, 0, 0, 400, []), (64, 1, 6, 0, 0, 0, 0, []), (65, 1, 39, 0, 0, 0, 0, [])]
def p152 : List (Nat × List PI) := [(0, p152_0), (28, p152_28), (30, p152_30)]
def p153_0 : List PI := [(0, 1, 0, 0, 0, 0, 0, []), (1, 1, 3, 3, 0, 0, 0, []), (2, 1, 0, 0, 0, 0, 0, []), (3, 2, 3, 4, 0, 0, 0, []), (5, 0, 45, 0, 5, 0, 0, [])]
def p153_5 : List PI := [(5, 2, 1, 4, 0, 0, 0, []), (7, 1, 2, 0, 0, 0, 0, []), (8, 3, 17, 11, 1, 31, 0, [1135]), (11, 3, 11, 3, 49, 0, 0, []), (14, 1, 1, 3, 0, 0, 0, []), (15, 1, 2, 0, 0, 0, 0, []), (16, 3, 18, 11, 10, 43, 0, [1144]), (19, 1, 1, 1, 0, 0, 0, []), (20, 1, 22, 0, 0, 0, 0, []), (21, 2, 1, 4, 0, 0, 0, []), (23, 1, 6, 7, 0, 0, 0, []), (24, 1, 0, 0, 0, 0, 1, []), (25, 1, 6, 3, 0, 0, 0, []), (26, 1, 0, 0, 0, 0, 1, []), (27, 3, 11, 1, 40, 0, 0, []), (30, 1, 2, 0, 0, 0, 0, []), (31, 3, 18, 11, 8, 34, 0, [1142]), (34, 2, 1, 4, 0, 0, 0, []), (36, 1, 22, 0, 0, 0, 0, []), (37, 3, 14, 0, 41, 0, 0, [])]
def p153_40 : List PI := [(40, 1, 0, 0, 0, 0, 0, []), (41, 0, 45, 0, 41, 0, 0, [])]
def p153_41 : List PI := [(41, 1, 6, 0, 0, 0, 0, []), (42, 1, 3, 3, 0, 0, 0, []), (43, 3, 5, 4, 0, 0, 1, []), (46, 3, 14, 0, 5, 0, 0, [])]
def p153_49 : List PI := [(49, 1, 0, 0, 0, 0, 3, []), (50, 1, 1, 3, 0, 0, 0, []), (51, 1, 6, 2, 0, 0, 0, []), (52, 1, 0, 0, 0, 0, 2, []), (53, 1, 2, 0, 0, 0, 0, []), (54, 3, 18, 11, 11, 46, 0, [1145]), (57, 1, 1, 1, 0, 0, 0, []), (58, 1, 22, 0, 0, 0, 0, []), (59, 1, 6, 2, 0, 0, 0, []), (60, 1, 6, 0, 0, 0, 0, []), (61, 1, 2, 0, 0, 0, 0, []), (62, 3, 18, 11, 12, 49, 0, [1146]), (65, 1, 1, 1, 0, 0, 0, []), (66, 1, 22, 0, 0, 0, 0, []), (67, 2, 0, 0, 0, 0, 100, []), (69, 1, 7, 0, 0, 0, 0, []), (70, 1, 6, 1, 0, 0, 0, []), (71, 1, 0, 0, 0, 0, 4, []), (72, 1, 2, 0, 0, 0, 0, []), (73, 3, 18, 11, 5, 18, 0, [1139]), (76, 1, 2, 0, 0, 0, 0, []), (77, 1, 2, 0, 0, 0, 0, []), (78, 3, 18, 11, 27, 122, 0, [1161]), (81, 1, 1, 2, 0, 0, 0, []), (82, 1, 22, 0, 0, 0, 0, []), (83, 1, 2, 0, 0, 0, 0, []), (84, 3, 18, 11, 28, 125, 0, [1162]), (87, 1, 1, 2, 0, 0, 0, []), (88, 1, 22, 0, 0, 0, 0, []), (89, 3, 35, 132, 3, 12, 0, [135, 88, 1037, 1039, 40]), (92, 1, 22, 0, 0, 0, 0, []), (93, 1, 6, 2, 0, 0, 0, []), (94, 1, 6, 1, 0, 0, 0, []), (95, 2, 3, 4, 0, 0, 0, []), (97, 2, 1, 4, 0, 0, 0, []), (99, 3, 10, 3, 106, 0, 0, []), (102, 1, 0, 0, 0, 0, 0, []), (103, 3, 14, 0, 108, 0, 0, [])]
def p153_106 : List PI := [(106, 2, 1, 4, 0, 0, 0, []), (108, 0, 45, 0, 108, 0, 0, [])]
def p153_108 : List PI := [(108, 1, 39, 0, 0, 0, 0, [])]
def p153 : List (Nat × List PI) := [(0, p153_0), (5, p153_5), (40, p153_40), (41, p153_41), (49, p153_49), (106, p153_106), (108, p153_108)]
def p154_0 : List PI := [(0, 1, 2, 0, 0, 0, 0, []), (1, 1, 1, 1, 0, 0, 0, []), (2, 3, 35, 128, 2, 12, 0, [40, 88, 960, 962, 31]), (5, 3, 10, 0, 16, 0, 0, []), (8, 1, 2, 0, 0, 0, 0, []), (9, 1, 1, 2, 0, 0, 0, []), (10, 3, 35, 129, 2, 12, 0, [24, 88, 948, 950, 30]), (13, 3, 10, 1, 18, 0, 0, []), (16, 0, 45, 0, 16, 0, 0, [])]
def p154_16 : List PI := [(16, 1, 0, 0, 0, 0, -1, []), (17, 1, 39, 0, 0, 0, 0, [])]
def p154_18 : List PI := [(18, 1, 2, 0, 0, 0, 0, []), (19, 1, 1, 1, 0, 0, 0, []), (20, 2, 0, 0, 0, 0, 99, []), (22, 3, 36, 151, 3, 12, 0, [142, 88, 1029, 1031, 38]), (25, 1, 2, 0, 0, 0, 0, []), (26, 1, 1, 1, 0, 0, 0, []), (27, 1, 1, 2, 0, 0, 0, []), (28, 3, 35, 153, 3, 12, 0, [146, 88, 1045, 1047, 41]), (31, 1, 39, 0, 0, 0, 0, [])]
def p154 : List (Nat × List PI) := [(0, p154_0), (16, p154_16), (18, p154_18)]
def p155_0 : List PI := [(0, 1, 2, 0, 0, 0, 0, []), (1, 3, 18, 11, 23, 86, 0, [1157]), (4, 1, 1, 1, 0, 0, 0, []), (5, 1, 22, 0, 0, 0, 0, []), (6, 1, 2, 0, 0, 0, 0, []), (7, 3, 18, 11, 24, 89, 0, [1158]), (10, 1, 1, 1, 0, 0, 0, []), (11, 1, 22, 0, 0, 0, 0, []), (12, 1, 6, 2, 0, 0, 0, []), (13, 2, 0, 0, 0, 0, 10, []), (15, 1, 7, 0, 0, 0, 0, []), (16, 1, 2, 0, 0, 0, 0, []), (17, 1, 2, 0, 0, 0, 0, []), (18, 3, 18, 11, 20, 77, 0, [1154]), (21, 1, 1, 1, 0, 0, 0, []), (22, 1, 22, 0, 0, 0, 0, []), (23, 1, 2, 0, 0, 0, 0, []), (24, 3, 18, 11, 21, 80, 0, [1155]), (27, 1, 1, 1, 0, 0, 0, []), (28, 1, 22, 0, 0, 0, 0, []), (29, 3, 35, 153, 3, 12, 0, [146, 88, 1045, 1047, 41]), (32, 1, 6, 1, 0, 0, 0, []), (33, 1, 39, 0, 0, 0, 0, [])]
def p155 : List (Nat × List PI) := [(0, p155_0)]
def p156_0 : List PI := [(0, 1, 2, 0, 0, 0, 0, []), (1, 1, 1, 1, 0, 0, 0, []), (2, 3, 35, 128, 2, 12, 0, [40, 88, 960, 962, 31]), (5, 3, 10, 0, 18, 0, 0, []), (8, 1, 2, 0, 0, 0, 0, []), (9, 1, 1, 2, 0, 0, 0, []), (10, 1, 0, 0, 0, 0, 0, []), (11, 1, 0, 0, 0, 0, 1, []), (12, 3, 35, 125, 4, 12, 0, [1, 88, 931, 933, 29]), (15, 3, 10, 1, 20, 0, 0, []), (18, 0, 45, 0, 18, 0, 0, [])]
def p156_18 : List PI := [(18, 1, 0, 0, 0, 0, -1, []), (19, 1, 39, 0, 0, 0, 0, [])]
def p156_20 : List PI := [(20, 1, 2, 0, 0, 0, 0, []), (21, 1, 1, 1, 0, 0, 0, []), (22, 2, 0, 0, 0, 0, 99, []), (24, 3, 36, 151, 3, 12, 0, [142, 88, 1029, 1031, 38]), (27, 1, 0, 0, 0, 0, 0, []), (28, 1, 3, 3, 0, 0, 0, []), (29, 1, 0, 0, 0, 0, 0, []), (30, 2, 3, 4, 0, 0, 0, []), (32, 2, 0, 0, 0, 0, -5, []), (34, 2, 3, 5, 0, 0, 0, []), (36, 1, 0, 0, 0, 0, 0, []), (37, 2, 3, 6, 0, 0, 0, []), (39, 0, 45, 0, 39, 0, 0, [])]
def p156_39 : List PI := [(39, 2, 1, 6, 0, 0, 0, []), (41, 3, 0, 0, 0, 0, 200, []), (44, 3, 11, 3, 107, 0, 0, []), (47, 1, 2, 0, 0, 0, 0, []), (48, 1, 1, 1, 0, 0, 0, []), (49, 2, 1, 6, 0, 0, 0, []), (51, 2, 0, 0, 0, 0, 99, []), (53, 3, 35, 143, 4, 12, 0, [98, 88, 980, 982, 33]), (56, 2, 3, 7, 0, 0, 0, []), (58, 2, 1, 7, 0, 0, 0, []), (60, 3, 10, 2, 101, 0, 0, []), (63, 1, 2, 0, 0, 0, 0, []), (64, 2, 1, 7, 0, 0, 0, []), (66, 3, 35, 155, 2, 12, 0, [149, 88, 1053, 1055, 42]), (69, 3, 10, 4, 75, 0, 0, []), (72, 3, 14, 0, 101, 0, 0, [])]
def p156_75 : List PI := [(75, 3, 5, 3, 0, 0, 1, []), (78, 1, 2, 0, 0, 0, 0, []), (79, 2, 1, 7, 0, 0, 0, []), (81, 3, 35, 155, 2, 12, 0, [149, 88, 1053, 1055, 42]), (84, 2, 1, 4, 0, 0, 0, []), (86, 3, 11, 5, 101, 0, 0, []), (89, 1, 2, 0, 0, 0, 0, []), (90, 2, 1, 7, 0, 0, 0, []), (92, 3, 35, 155, 2, 12, 0, [149, 88, 1053, 1055, 42]), (95, 2, 3, 4, 0, 0, 0, []), (97, 2, 1, 6, 0, 0, 0, []), (99, 2, 3, 5, 0, 0, 0, []), (101, 0, 45, 0, 101, 0, 0, [])]
def p156_101 : List PI := [(101, 3, 5, 6, 0, 0, 1, []), (104, 3, 14, 0, 39, 0, 0, [])]
def p156_107 : List PI := [(107, 1, 1, 2, 0, 0, 0, []), (108, 3, 10, 1, 115, 0, 0, []), (111, 1, 1, 3, 0, 0, 0, []), (112, 3, 14, 0, 117, 0, 0, [])]
def p156_115 : List PI := [(115, 2, 1, 5, 0, 0, 0, []), (117, 0, 45, 0, 117, 0, 0, [])]
def p156_117 : List PI := [(117, 1, 39, 0, 0, 0, 0, [])]
def p156 : List (Nat × List PI) := [(0, p156_0), (18, p156_18), (20, p156_20), (39, p156_39), (75, p156_75), (101, p156_101), (107, p156_107), (115, p156_115), (117, p156_117)]
def p157_0 : List PI := [(0, 1, 2, 0, 0, 0, 0, []), (1, 1, 1, 1, 0, 0, 0, []), (2, 3, 35, 126, 2, 12, 0, [152, 88, 1065, 1067, 44]), (5, 1, 3, 3, 0, 0, 0, []), (6, 1, 2, 0, 0, 0, 0, []), (7, 1, 1, 2, 0, 0, 0, []), (8, 3, 35, 126, 2, 12, 0, [152, 88, 1065, 1067, 44]), (11, 2, 3, 4, 0, 0, 0, []), (13, 3, 0, 0, 0, 0, 5400, []), (16, 1, 1, 3, 0, 0, 0, []), (17, 2, 1, 4, 0, 0, 0, []), (19, 3, 11, 5, 31, 0, 0, []), (22, 1, 1, 3, 0, 0, 0, []), (23, 2, 1, 4, 0, 0, 0, []), (25, 1, 0, 0, 0, 0, 2, []), (26, 1, 7, 0, 0, 0, 0, []), (27, 1, 6, 0, 0, 0, 0, []), (28, 3, 14, 0, 37, 0, 0, [])]
def p157_31 : List PI := [(31, 2, 1, 4, 0, 0, 0, []), (33, 1, 1, 3, 0, 0, 0, []), (34, 1, 0, 0, 0, 0, 2, []), (35, 1, 7, 0, 0, 0, 0, []), (36, 1, 6, 0, 0, 0, 0, []), (37, 0, 45, 0, 37, 0, 0, [])]
def p157_37 : List PI := [(37, 1, 6, 1, 0, 0, 0, []), (38, 1, 39, 0, 0, 0, 0, [])]
def p157 : List (Nat × List PI) := [(0, p157_0), (31, p157_31), (37, p157_37)]
def p158_0 : List PI := [(0, 1, 2, 0, 0, 0, 0, []), (1, 1, 1, 1, 0, 0, 0, []), (2, 1, 1, 2, 0, 0, 0, []), (3, 3, 35, 131, 3, 12, 0, [52, 88, 968, 970, 32]), (6, 3, 10, 0, 18, 0, 0, []), (9, 1, 2, 0, 0, 0, 0, []), (10, 1, 1, 1, 0, 0, 0, []), (11, 1, 1, 2, 0, 0, 0, []), (12, 3, 35, 157, 3, 12, 0, [155, 88, 1061, 1063, 43]), (15, 3, 14, 0, 20, 0, 0, [])]
def p158_18 : List PI := [(18, 2, 0, 0, 0, 0, -2, []), (20, 0, 45, 0, 20, 0, 0, [])]
def p158_20 : List PI := [(20, 1, 39, 0, 0, 0, 0, [])]
def p158 : List (Nat × List PI) := [(0, p158_0), (18, p158_18), (20, p158_20)]
def p159_0 : List PI := [(0, 1, 2, 0, 0, 0, 0, []), (1, 3, 18, 11, 19, 74, 0, [1153]), (4, 1, 1, 1, 0, 0, 0, []), (5, 1, 22, 0, 0, 0, 0, []), (6, 1, 0, 0, 0, 0, 2, []), (7, 3, 11, 0, 21, 0, 0, []), (10, 1, 2, 0, 0, 0, 0, []), (11, 3, 18, 11, 19, 74, 0, [1153]), (14, 1, 1, 1, 0, 0, 0, []), (15, 1, 22, 0, 0, 0, 0, []), (16, 2, 0, 0, 0, 0, 6, []), (18, 3, 11, 1, 25, 0, 0, []), (21, 0, 45, 0, 21, 0, 0, [])]
def p159_21 : List PI := [(21, 1, 0, 0, 0, 0, 1, []), (22, 3, 14, 0, 26, 0, 0, [])]
def p159_25 : List PI := [(25, 1, 0, 0, 0, 0, 0, []), (26, 0, 45, 0, 26, 0, 0, [])]
def p159_26 : List PI := [(26, 1, 40, 0, 0, 0, 0, [])]
def p159 : List (Nat × List PI) := [(0, p159_0), (21, p159_21), (25, p159_25), (26, p159_26)]
def p160_0 : List PI := [(0, 3, 0, 0, 0, 0, 5400, []), (3, 1, 2, 0, 0, 0, 0, []), (4, 3, 18, 11, 23, 86, 0, [1157]), (7, 1, 1, 1, 0, 0, 0, []), (8, 1, 22, 0, 0, 0, 0, []), (9, 1, 6, 1, 0, 0, 0, []), (10, 1, 2, 0, 0, 0, 0, []), (11, 3, 18, 11, 7, 28, 0, [1141]), (14, 1, 2, 0, 0, 0, 0, []), (15, 3, 18, 11, 21, 80, 0, [1155]), (18, 1, 1, 1, 0, 0, 0, []), (19, 1, 22, 0, 0, 0, 0, []), (20, 1, 22, 0, 0, 0, 0, []), (21, 1, 6, 0, 0, 0, 0, []), (22, 1, 39, 0, 0, 0, 0, [])]
def p160 : List (Nat × List PI) := [(0, p160_0)]
def p161_0 : List PI := [(0, 1, 2, 0, 0, 0, 0, []), (1, 1, 1, 2, 0, 0, 0, []), (2, 1, 1, 3, 0, 0, 0, []), (3, 3, 35, 157, 3, 12, 0, [155, 88, 1061, 1063, 43]), (6, 2, 3, 5, 0, 0, 0, []), (8, 1, 2, 0, 0, 0, 0, []), (9, 1, 1, 1, 0, 0, 0, []), (10, 3, 35, 159, 2, 12, 0, [158, 88, 1077, 1079, 46]), (13, 3, 10, 0, 43, 0, 0, []), (16, 1, 2, 0, 0, 0, 0, []), (17, 2, 1, 5, 0, 0, 0, []), (19, 1, 2, 0, 0, 0, 0, []), (20, 1, 1, 1, 0, 0, 0, []), (21, 3, 35, 160, 2, 12, 0, [161, 88, 1081, 1083, 47]), (24, 1, 6, 1, 0, 0, 0, []), (25, 3, 35, 126, 2, 12, 0, [152, 88, 1065, 1067, 44]), (28, 1, 2, 0, 0, 0, 0, []), (29, 3, 18, 11, 24, 89, 0, [1158]), (32, 1, 1, 1, 0, 0, 0, []), (33, 1, 22, 0, 0, 0, 0, []), (34, 3, 11, 4, 41, 0, 0, []), (37, 1, 0, 0, 0, 0, 1, []), (38, 3, 14, 0, 42, 0, 0, [])]
def p161_41 : List PI := [(41, 1, 0, 0, 0, 0, 0, []), (42, 0, 45, 0, 42, 0, 0, [])]
def p161_42 : List PI := [(42, 1, 40, 0, 0, 0, 0, [])]
def p161_43 : List PI := [(43, 1, 2, 0, 0, 0, 0, []), (44, 3, 18, 11, 19, 74, 0, [1153]), (47, 1, 1, 1, 0, 0, 0, []), (48, 1, 22, 0, 0, 0, 0, []), (49, 1, 0, 0, 0, 0, 3, []), (50, 3, 11, 1, 122, 0, 0, []), (53, 1, 2, 0, 0, 0, 0, []), (54, 1, 2, 0, 0, 0, 0, []), (55, 3, 18, 11, 20, 77, 0, [1154]), (58, 1, 1, 1, 0, 0, 0, []), (59, 1, 22, 0, 0, 0, 0, []), (60, 1, 2, 0, 0, 0, 0, []), (61, 3, 18, 11, 21, 80, 0, [1155]), (64, 1, 1, 1, 0, 0, 0, []), (65, 1, 22, 0, 0, 0, 0, []), (66, 2, 1, 4, 0, 0, 0, []), (68, 3, 35, 143, 4, 12, 0, [98, 88, 980, 982, 33]), (71, 2, 3, 6, 0, 0, 0, []), (73, 2, 1, 6, 0, 0, 0, []), (75, 3, 10, 3, 82, 0, 0, []), (78, 1, 0, 0, 0, 0, 0, []), (79, 3, 14, 0, 89, 0, 0, [])]
def p161_82 : List PI := [(82, 1, 2, 0, 0, 0, 0, []), (83, 3, 18, 11, 25, 92, 0, [1159]), (86, 2, 1, 6, 0, 0, 0, []), (88, 1, 22, 0, 0, 0, 0, []), (89, 0, 45, 0, 89, 0, 0, [])]
def p161_89 : List PI := [(89, 1, 2, 0, 0, 0, 0, []), (90, 3, 18, 11, 6, 21, 0, [1140]), (93, 1, 2, 0, 0, 0, 0, []), (94, 1, 1, 2, 0, 0, 0, []), (95, 1, 1, 3, 0, 0, 0, []), (96, 3, 35, 132, 3, 12, 0, [135, 88, 1037, 1039, 40]), (99, 1, 22, 0, 0, 0, 0, []), (100, 1, 6, 0, 0, 0, 0, []), (101, 2, 0, 0, 0, 0, 16, []), (103, 1, 6, 0, 0, 0, 0, []), (104, 2, 0, 0, 0, 0, 16, []), (106, 1, 8, 0, 0, 0, 0, []), (107, 1, 2, 0, 0, 0, 0, []), (108, 3, 18, 11, 23, 86, 0, [1157]), (111, 1, 1, 1, 0, 0, 0, []), (112, 1, 22, 0, 0, 0, 0, []), (113, 3, 11, 1, 120, 0, 0, []), (116, 1, 0, 0, 0, 0, 1, []), (117, 3, 14, 0, 121, 0, 0, [])]
def p161_120 : List PI := [(120, 1, 0, 0, 0, 0, 0, []), (121, 0, 45, 0, 121, 0, 0, [])]
def p161_121 : List PI := [(121, 1, 40, 0, 0, 0, 0, [])]
def p161_122 : List PI := [(122, 1, 2, 0, 0, 0, 0, []), (123, 3, 18, 11, 19, 74, 0, [1153]), (126, 1, 1, 1, 0, 0, 0, []), (127, 1, 22, 0, 0, 0, 0, []), (128, 1, 0, 0, 0, 0, 4, []), (129, 3, 11, 1, 189, 0, 0, []), (132, 1, 2, 0, 0, 0, 0, []), (133, 1, 2, 0, 0, 0, 0, []), (134, 3, 18, 11, 7, 28, 0, [1141]), (137, 1, 2, 0, 0, 0, 0, []), (138, 3, 18, 11, 21, 80, 0, [1155]), (141, 1, 1, 1, 0, 0, 0, []), (142, 1, 22, 0, 0, 0, 0, []), (143, 1, 22, 0, 0, 0, 0, []), (144, 3, 0, 0, 0, 0, 5400, []), (147, 1, 6, 0, 0, 0, 0, []), (148, 2, 1, 5, 0, 0, 0, []), (150, 1, 6, 1, 0, 0, 0, []), (151, 2, 0, 0, 0, 0, 54, []), (153, 1, 7, 0, 0, 0, 0, []), (154, 2, 0, 0, 0, 0, 100, []), (156, 1, 2, 0, 0, 0, 0, []), (157, 3, 18, 11, 23, 86, 0, [1157]), (160, 1, 1, 1, 0, 0, 0, []), (161, 1, 22, 0, 0, 0, 0, []), (162, 1, 6, 2, 0, 0, 0, []), (163, 1, 2, 0, 0, 0, 0, []), (164, 3, 18, 11, 24, 89, 0, [1158]), (167, 1, 1, 1, 0, 0, 0, []), (168, 1, 22, 0, 0, 0, 0, []), (169, 1, 7, 0, 0, 0, 0, []), (170, 1, 6, 1, 0, 0, 0, []), (171, 3, 35, 126, 2, 12, 0, [152, 88, 1065, 1067, 44]), (174, 1, 2, 0, 0, 0, 0, []), (175, 3, 18, 11, 25, 92, 0, [1159]), (178, 1, 1, 1, 0, 0, 0, []), (179, 1, 22, 0, 0, 0, 0, []), (180, 3, 11, 4, 187, 0, 0, []), (183, 1, 0, 0, 0, 0, 1, []), (184, 3, 14, 0, 188, 0, 0, [])]
def p161_187 : List PI := [(187, 1, 0, 0, 0, 0, 0, []), (188, 0, 45, 0, 188, 0, 0, [])]
def p161_188 : List PI := [(188, 1, 40, 0, 0, 0, 0, [])]
def p161_189 : List PI := [(189, 1, 2, 0, 0, 0, 0, []), (190, 3, 18, 11, 19, 74, 0, [1153]), (193, 1, 1, 1, 0, 0, 0, []), (194, 1, 22, 0, 0, 0, 0, []), (195, 1, 0, 0, 0, 0, 5, []), (196, 3, 11, 1, 247, 0, 0, []), (199, 1, 2, 0, 0, 0, 0, []), (200, 1, 1, 2, 0, 0, 0, []), (201, 1, 2, 0, 0, 0, 0, []), (202, 3, 18, 11, 24, 89, 0, [1158]), (205, 1, 1, 1, 0, 0, 0, []), (206, 1, 22, 0, 0, 0, 0, []), (207, 1, 6, 1, 0, 0, 0, []), (208, 3, 35, 126, 2, 12, 0, [152, 88, 1065, 1067, 44]), (211, 1, 2, 0, 0, 0, 0, []), (212, 3, 18, 11, 26, 95, 0, [1160]), (215, 1, 1, 1, 0, 0, 0, []), (216, 1, 22, 0, 0, 0, 0, []), (217, 3, 11, 4, 245, 0, 0, []), (220, 1, 2, 0, 0, 0, 0, []), (221, 1, 1, 3, 0, 0, 0, []), (222, 1, 2, 0, 0, 0, 0, []), (223, 3, 18, 11, 25, 92, 0, [1159]), (226, 1, 1, 1, 0, 0, 0, []), (227, 1, 22, 0, 0, 0, 0, []), (228, 1, 6, 1, 0, 0, 0, []), (229, 3, 35, 126, 2, 12, 0, [152, 88, 1065, 1067, 44]), (232, 1, 2, 0, 0, 0, 0, []), (233, 3, 18, 11, 26, 95, 0, [1160]), (236, 1, 1, 1, 0, 0, 0, []), (237, 1, 22, 0, 0, 0, 0, []), (238, 3, 11, 4, 245, 0, 0, []), (241, 1, 0, 0, 0, 0, 1, []), (242, 3, 14, 0, 246, 0, 0, [])]
def p161_245 : List PI := [(245, 1, 0, 0, 0, 0, 0, []), (246, 0, 45, 0, 246, 0, 0, [])]
def p161_246 : List PI := [(246, 1, 40, 0, 0, 0, 0, [])]
def p161_247 : List PI := [(247, 1, 2, 0, 0, 0, 0, []), (248, 1, 1, 1, 0, 0, 0, []), (249, 3, 35, 155, 2, 12, 0, [149, 88, 1053, 1055, 42]), (252, 3, 10, 4, 259, 0, 0, []), (255, 1, 0, 0, 0, 0, 1, []), (256, 3, 14, 0, 260, 0, 0, [])]
def p161_259 : List PI := [(259, 1, 0, 0, 0, 0, 0, []), (260, 0, 45, 0, 260, 0, 0, [])]
def p161_260 : List PI := [(260, 1, 40, 0, 0, 0, 0, [])]
def p161 : List (Nat × List PI) := [(0, p161_0), (41, p161_41), (42, p161_42), (43, p161_43), (82, p161_82), (89, p161_89), (120, p161_120), (121, p161_121), (122, p161_122), (187, p161_187), (188, p161_188), (189, p161_189), (245, p161_245), (246, p161_246), (247, p161_247), (259, p161_259), (260, p161_260)]
def p162_0 : List PI := [(0, 1, 2, 0, 0, 0, 0, []), (1, 1, 1, 1, 0, 0, 0, []), (2, 3, 35, 141, 2, 12, 0, [119, 88, 1017, 1019, 36]), (5, 3, 10, 1, 10, 0, 0, []), (8, 1, 0, 0, 0, 0, -1, []), (9, 1, 39, 0, 0, 0, 0, [])]
def p162_10 : List PI := [(10, 1, 2, 0, 0, 0, 0, []), (11, 1, 1, 2, 0, 0, 0, []), (12, 1, 1, 3, 0, 0, 0, []), (13, 3, 35, 131, 3, 12, 0, [52, 88, 968, 970, 32]), (16, 3, 10, 1, 22, 0, 0, []), (19, 2, 0, 0, 0, 0, -2, []), (21, 1, 39, 0, 0, 0, 0, [])]
def p162_22 : List PI := [(22, 1, 2, 0, 0, 0, 0, []), (23, 1, 2, 0, 0, 0, 0, []), (24, 3, 18, 11, 20, 77, 0, [1154]), (27, 1, 1, 1, 0, 0, 0, []), (28, 1, 22, 0, 0, 0, 0, []), (29, 2, 0, 0, 0, 0, 99, []), (31, 3, 36, 151, 3, 12, 0, [142, 88, 1029, 1031, 38]), (34, 1, 2, 0, 0, 0, 0, []), (35, 1, 1, 1, 0, 0, 0, []), (36, 1, 1, 2, 0, 0, 0, []), (37, 1, 1, 3, 0, 0, 0, []), (38, 2, 0, 0, 0, 0, 99, []), (40, 3, 35, 161, 5, 12, 0, [164, 88, 1073, 1075, 45]), (43, 3, 10, 0, 50, 0, 0, []), (46, 1, 0, 0, 0, 0, 1, []), (47, 3, 14, 0, 51, 0, 0, [])]
def p162_50 : List PI := [(50, 1, 0, 0, 0, 0, 0, []), (51, 0, 45, 0, 51, 0, 0, [])]
def p162_51 : List PI := [(51, 1, 39, 0, 0, 0, 0, [])]
def p162 : List (Nat × List PI) := [(0, p162_0), (10, p162_10), (22, p162_22), (50, p162_50), (51, p162_51)]
def p163_0 : List PI := [(0, 1, 0, 0, 0, 0, 0, []), (1, 1, 3, 3, 0, 0, 0, []), (2, 0, 45, 0, 2, 0, 0, [])]
def p163_2 : List PI := [(2, 1, 1, 3, 0, 0, 0, []), (3, 1, 2, 0, 0, 0, 0, []), (4, 3, 17, 11, 18, 71, 0, [1152]), (7, 3, 11, 3, 146, 0, 0, []), (10, 1, 1, 3, 0, 0, 0, []), (11, 1, 0, 0, 0, 0, 1, []), (12, 1, 6, 0, 0, 0, 0, []), (13, 2, 3, 4, 0, 0, 0, []), (15, 0, 45, 0, 15, 0, 0, [])]
def p163_15 : List PI := [(15, 2, 1, 4, 0, 0, 0, []), (17, 1, 2, 0, 0, 0, 0, []), (18, 3, 17, 11, 18, 71, 0, [1152]), (21, 3, 11, 3, 140, 0, 0, []), (24, 1, 2, 0, 0, 0, 0, []), (25, 3, 18, 11, 20, 77, 0, [1154]), (28, 1, 1, 3, 0, 0, 0, []), (29, 1, 22, 0, 0, 0, 0, []), (30, 1, 1, 1, 0, 0, 0, []), (31, 3, 11, 1, 134, 0, 0, []), (34, 1, 2, 0, 0, 0, 0, []), (35, 3, 18, 11, 20, 77, 0, [1154]), (38, 2, 1, 4, 0, 0, 0, []), (40, 1, 22, 0, 0, 0, 0, []), (41, 1, 1, 1, 0, 0, 0, []), (42, 3, 11, 1, 134, 0, 0, []), (45, 1, 2, 0, 0, 0, 0, []), (46, 1, 1, 3, 0, 0, 0, []), (47, 3, 35, 159, 2, 12, 0, [158, 88, 1077, 1079, 46]), (50, 3, 10, 0, 134, 0, 0, []), (53, 1, 2, 0, 0, 0, 0, []), (54, 2, 1, 4, 0, 0, 0, []), (56, 3, 35, 159, 2, 12, 0, [158, 88, 1077, 1079, 46]), (59, 3, 10, 0, 134, 0, 0, []), (62, 1, 2, 0, 0, 0, 0, []), (63, 3, 18, 11, 21, 80, 0, [1155]), (66, 1, 1, 3, 0, 0, 0, []), (67, 1, 22, 0, 0, 0, 0, []), (68, 1, 2, 0, 0, 0, 0, []), (69, 3, 18, 11, 21, 80, 0, [1155]), (72, 2, 1, 4, 0, 0, 0, []), (74, 1, 22, 0, 0, 0, 0, []), (75, 3, 11, 1, 134, 0, 0, []), (78, 1, 2, 0, 0, 0, 0, []), (79, 3, 18, 11, 22, 83, 0, [1156]), (82, 2, 1, 4, 0, 0, 0, []), (84, 1, 22, 0, 0, 0, 0, []), (85, 1, 1, 2, 0, 0, 0, []), (86, 3, 11, 5, 92, 0, 0, []), (89, 3, 14, 0, 134, 0, 0, [])]
def p163_92 : List PI := [(92, 1, 2, 0, 0, 0, 0, []), (93, 1, 2, 0, 0, 0, 0, []), (94, 1, 1, 3, 0, 0, 0, []), (95, 3, 35, 160, 2, 12, 0, [161, 88, 1081, 1083, 47]), (98, 1, 2, 0, 0, 0, 0, []), (99, 2, 1, 4, 0, 0, 0, []), (101, 3, 35, 160, 2, 12, 0, [161, 88, 1081, 1083, 47]), (104, 1, 6, 1, 0, 0, 0, []), (105, 3, 35, 126, 2, 12, 0, [152, 88, 1065, 1067, 44]), (108, 1, 2, 0, 0, 0, 0, []), (109, 3, 18, 11, 24, 89, 0, [1158]), (112, 1, 1, 3, 0, 0, 0, []), (113, 1, 22, 0, 0, 0, 0, []), (114, 1, 2, 0, 0, 0, 0, []), (115, 3, 18, 11, 24, 89, 0, [1158]), (118, 2, 1, 4, 0, 0, 0, []), (120, 1, 22, 0, 0, 0, 0, []), (121, 1, 6, 0, 0, 0, 0, []), (122, 3, 11, 5, 134, 0, 0, []), (125, 3, 0, 0, 0, 0, 1000, []), (128, 1, 1, 3, 0, 0, 0, []), (129, 1, 6, 2, 0, 0, 0, []), (130, 2, 1, 4, 0, 0, 0, []), (132, 1, 6, 0, 0, 0, 0, []), (133, 1, 39, 0, 0, 0, 0, [])]
def p163_134 : List PI := [(134, 3, 5, 4, 0, 0, 1, []), (137, 3, 14, 0, 15, 0, 0, [])]
def p163_140 : List PI := [(140, 3, 5, 3, 0, 0, 1, []), (143, 3, 14, 0, 2, 0, 0, [])]
def p163_146 : List PI := [(146, 2, 0, 0, 0, 0, -5, []), (148, 1, 39, 0, 0, 0, 0, [])]
def p163 : List (Nat × List PI) := [(0, p163_0), (2, p163_2), (15, p163_15), (92, p163_92), (134, p163_134), (140, p163_140), (146, p163_146)]
def p164_0 : List PI := [(0, 1, 2, 0, 0, 0, 0, []), (1, 1, 1, 1, 0, 0, 0, []), (2, 3, 35, 128, 2, 12, 0, [40, 88, 960, 962, 31]), (5, 3, 10, 0, 18, 0, 0, []), (8, 1, 2, 0, 0, 0, 0, []), (9, 1, 1, 1, 0, 0, 0, []), (10, 2, 0, 0, 0, 0, 99, []), (12, 3, 35, 163, 3, 12, 0, [168, 88, 1089, 1091, 48]), (15, 3, 14, 0, 19, 0, 0, [])]
def p164_18 : List PI := [(18, 1, 0, 0, 0, 0, -1, []), (19, 0, 45, 0, 19, 0, 0, [])]
def p164_19 : List PI := [(19, 1, 39, 0, 0, 0, 0, [])]
def p164 : List (Nat × List PI) := [(0, p164_0), (18, p164_18), (19, p164_19)]
def p165_0 : List PI := [(0, 1, 2, 0, 0, 0, 0, []), (1, 1, 1, 1, 0, 0, 0, []), (2, 3, 35, 128, 2, 12, 0, [40, 88, 960, 962, 31]), (5, 3, 10, 1, 10, 0, 0, []), (8, 1, 0, 0, 0, 0, -1, []), (9, 1, 39, 0, 0, 0, 0, [])]
def p165_10 : List PI := [(10, 1, 2, 0, 0, 0, 0, []), (11, 1, 1, 1, 0, 0, 0, []), (12, 2, 0, 0, 0, 0, 99, []), (14, 3, 36, 151, 3, 12, 0, [142, 88, 1029, 1031, 38]), (17, 1, 0, 0, 0, 0, 0, []), (18, 1, 3, 2, 0, 0, 0, []), (19, 1, 0, 0, 0, 0, 0, []), (20, 1, 3, 3, 0, 0, 0, []), (21, 0, 45, 0, 21, 0, 0, [])]
def p165_21 : List PI := [(21, 1, 1, 3, 0, 0, 0, []), (22, 1, 2, 0, 0, 0, 0, []), (23, 3, 17, 11, 18, 71, 0, [1152]), (26, 3, 11, 3, 144, 0, 0, []), (29, 1, 2, 0, 0, 0, 0, []), (30, 3, 18, 11, 19, 74, 0, [1153]), (33, 1, 1, 3, 0, 0, 0, []), (34, 1, 22, 0, 0, 0, 0, []), (35, 1, 0, 0, 0, 0, 3, []), (36, 3, 11, 1, 138, 0, 0, []), (39, 1, 2, 0, 0, 0, 0, []), (40, 3, 18, 11, 20, 77, 0, [1154]), (43, 1, 1, 3, 0, 0, 0, []), (44, 1, 22, 0, 0, 0, 0, []), (45, 1, 1, 1, 0, 0, 0, []), (46, 3, 11, 0, 52, 0, 0, []), (49, 3, 14, 0, 138, 0, 0, [])]
def p165_52 : List PI := [(52, 1, 2, 0, 0, 0, 0, []), (53, 1, 1, 1, 0, 0, 0, []), (54, 1, 2, 0, 0, 0, 0, []), (55, 3, 18, 11, 21, 80, 0, [1155]), (58, 1, 1, 3, 0, 0, 0, []), (59, 1, 22, 0, 0, 0, 0, []), (60, 2, 0, 0, 0, 0, 99, []), (62, 3, 35, 143, 4, 12, 0, [98, 88, 980, 982, 33]), (65, 2, 3, 4, 0, 0, 0, []), (67, 1, 1, 2, 0, 0, 0, []), (68, 1, 2, 0, 0, 0, 0, []), (69, 3, 18, 11, 23, 86, 0, [1157]), (72, 1, 1, 3, 0, 0, 0, []), (73, 1, 22, 0, 0, 0, 0, []), (74, 2, 1, 4, 0, 0, 0, []), (76, 3, 10, 3, 83, 0, 0, []), (79, 1, 0, 0, 0, 0, 0, []), (80, 3, 14, 0, 90, 0, 0, [])]
def p165_83 : List PI := [(83, 1, 2, 0, 0, 0, 0, []), (84, 3, 18, 11, 25, 92, 0, [1159]), (87, 2, 1, 4, 0, 0, 0, []), (89, 1, 22, 0, 0, 0, 0, []), (90, 0, 45, 0, 90, 0, 0, [])]
def p165_90 : List PI := [(90, 3, 11, 1, 135, 0, 0, []), (93, 1, 2, 0, 0, 0, 0, []), (94, 3, 18, 11, 6, 21, 0, [1140]), (97, 1, 2, 0, 0, 0, 0, []), (98, 1, 2, 0, 0, 0, 0, []), (99, 3, 18, 11, 27, 122, 0, [1161]), (102, 1, 2, 0, 0, 0, 0, []), (103, 3, 18, 11, 21, 80, 0, [1155]), (106, 1, 1, 3, 0, 0, 0, []), (107, 1, 22, 0, 0, 0, 0, []), (108, 1, 0, 0, 0, 0, 1, []), (109, 1, 6, 0, 0, 0, 0, []), (110, 1, 22, 0, 0, 0, 0, []), (111, 1, 2, 0, 0, 0, 0, []), (112, 3, 18, 11, 28, 125, 0, [1162]), (115, 1, 2, 0, 0, 0, 0, []), (116, 3, 18, 11, 21, 80, 0, [1155]), (119, 1, 1, 3, 0, 0, 0, []), (120, 1, 22, 0, 0, 0, 0, []), (121, 1, 0, 0, 0, 0, 1, []), (122, 1, 6, 0, 0, 0, 0, []), (123, 1, 22, 0, 0, 0, 0, []), (124, 3, 35, 132, 3, 12, 0, [135, 88, 1037, 1039, 40]), (127, 1, 22, 0, 0, 0, 0, []), (128, 3, 10, 0, 135, 0, 0, []), (131, 1, 0, 0, 0, 0, 1, []), (132, 3, 14, 0, 136, 0, 0, [])]
def p165_135 : List PI := [(135, 1, 0, 0, 0, 0, 0, []), (136, 0, 45, 0, 136, 0, 0, [])]
def p165_136 : List PI := [(136, 1, 6, 0, 0, 0, 0, []), (137, 1, 3, 2, 0, 0, 0, []), (138, 0, 45, 0, 138, 0, 0, [])]
def p165_138 : List PI := [(138, 3, 5, 3, 0, 0, 1, []), (141, 3, 14, 0, 21, 0, 0, [])]
def p165_144 : List PI := [(144, 1, 1, 2, 0, 0, 0, []), (145, 1, 39, 0, 0, 0, 0, [])]
def p165 : List (Nat × List PI) := [(0, p165_0), (10, p165_10), (21, p165_21), (52, p165_52), (83, p165_83), (90, p165_90), (135, p165_135), (136, p165_136), (138, p165_138), (144, p165_144)]
def p166_0 : List PI := [(0, 1, 1, 1, 0, 0, 0, []), (1, 1, 1, 2, 0, 0, 0, []), (2, 1, 7, 0, 0, 0, 0, []), (3, 1, 3, 3, 0, 0, 0, []), (4, 1, 1, 3, 0, 0, 0, []), (5, 1, 1, 2, 0, 0, 0, []), (6, 1, 6, 2, 0, 0, 0, []), (7, 1, 1, 1, 0, 0, 0, []), (8, 3, 11, 5, 17, 0, 0, []), (11, 1, 1, 3, 0, 0, 0, []), (12, 1, 0, 0, 0, 0, 1, []), (13, 1, 6, 1, 0, 0, 0, []), (14, 3, 14, 0, 18, 0, 0, [])]
def p166_17 : List PI := [(17, 1, 1, 3, 0, 0, 0, []), (18, 0, 45, 0, 18, 0, 0, [])]
def p166_18 : List PI := [(18, 1, 39, 0, 0, 0, 0, [])]
def p166 : List (Nat × List PI) := [(0, p166_0), (17, p166_17), (18, p166_18)]
def p167_0 : List PI := [(0, 1, 2, 0, 0, 0, 0, []), (1, 1, 1, 1, 0, 0, 0, []), (2, 2, 0, 0, 0, 0, 99, []), (4, 3, 36, 151, 3, 12, 0, [142, 88, 1029, 1031, 38]), (7, 1, 2, 0, 0, 0, 0, []), (8, 3, 18, 11, 17, 62, 0, [1151]), (11, 1, 1, 1, 0, 0, 0, []), (12, 1, 22, 0, 0, 0, 0, []), (13, 1, 3, 2, 0, 0, 0, []), (14, 1, 2, 0, 0, 0, 0, []), (15, 1, 2, 0, 0, 0, 0, []), (16, 1, 2, 0, 0, 0, 0, []), (17, 3, 18, 11, 15, 65, 0, [1149]), (20, 1, 1, 1, 0, 0, 0, []), (21, 1, 22, 0, 0, 0, 0, []), (22, 1, 2, 0, 0, 0, 0, []), (23, 3, 18, 11, 27, 122, 0, [1161]), (26, 1, 1, 2, 0, 0, 0, []), (27, 1, 0, 0, 0, 0, 1, []), (28, 1, 6, 0, 0, 0, 0, []), (29, 1, 22, 0, 0, 0, 0, []), (30, 1, 6, 1, 0, 0, 0, []), (31, 1, 1, 2, 0, 0, 0, []), (32, 1, 0, 0, 0, 0, 1, []), (33, 1, 6, 0, 0, 0, 0, []), (34, 3, 35, 166, 3, 12, 0, [171, 88, 1105, 1107, 50]), (37, 3, 19, 11, 29, 174, 0, [1163]), (40, 1, 2, 0, 0, 0, 0, []), (41, 1, 2, 0, 0, 0, 0, []), (42, 1, 2, 0, 0, 0, 0, []), (43, 3, 18, 11, 16, 68, 0, [1150]), (46, 1, 1, 1, 0, 0, 0, []), (47, 1, 22, 0, 0, 0, 0, []), (48, 1, 2, 0, 0, 0, 0, []), (49, 3, 18, 11, 28, 125, 0, [1162]), (52, 1, 1, 2, 0, 0, 0, []), (53, 1, 0, 0, 0, 0, 1, []), (54, 1, 6, 0, 0, 0, 0, []), (55, 1, 22, 0, 0, 0, 0, []), (56, 1, 6, 1, 0, 0, 0, []), (57, 1, 1, 2, 0, 0, 0, []), (58, 1, 0, 0, 0, 0, 1, []), (59, 1, 6, 0, 0, 0, 0, []), (60, 3, 35, 166, 3, 12, 0, [171, 88, 1105, 1107, 50]), (63, 3, 19, 11, 30, 177, 0, [1164]), (66, 1, 38, 0, 0, 0, 0, [])]
def p167 : List (Nat × List PI) := [(0, p167_0)]
def p168_0 : List PI := [(0, 1, 2, 0, 0, 0, 0, []), (1, 1, 1, 1, 0, 0, 0, []), (2, 3, 35, 128, 2, 12, 0, [40, 88, 960, 962, 31]), (5, 3, 10, 0, 27, 0, 0, []), (8, 1, 2, 0, 0, 0, 0, []), (9, 1, 1, 2, 0, 0, 0, []), (10, 1, 0, 0, 0, 0, 0, []), (11, 1, 0, 0, 0, 0, 1, []), (12, 3, 35, 125, 4, 12, 0, [1, 88, 931, 933, 29]), (15, 3, 10, 0, 27, 0, 0, []), (18, 1, 2, 0, 0, 0, 0, []), (19, 3, 18, 11, 17, 62, 0, [1151]), (22, 1, 1, 1, 0, 0, 0, []), (23, 1, 22, 0, 0, 0, 0, []), (24, 3, 10, 3, 30, 0, 0, []), (27, 0, 45, 0, 27, 0, 0, [])]
def p168_27 : List PI := [(27, 2, 0, 0, 984, 102, -1000000000, []), (29, 1, 39, 0, 0, 0, 0, [])]
def p168_30 : List PI := [(30, 1, 2, 0, 0, 0, 0, []), (31, 1, 1, 1, 0, 0, 0, []), (32, 3, 36, 167, 2, 12, 0, [180, 88, 1101, 1103, 49]), (35, 1, 1, 2, 0, 0, 0, []), (36, 3, 10, 1, 46, 0, 0, []), (39, 1, 2, 0, 0, 0, 0, []), (40, 3, 17, 11, 29, 174, 0, [1163]), (43, 3, 14, 0, 50, 0, 0, [])]
def p168_46 : List PI := [(46, 1, 2, 0, 0, 0, 0, []), (47, 3, 17, 11, 30, 177, 0, [1164]), (50, 0, 45, 0, 50, 0, 0, [])]
def p168_50 : List PI := [(50, 1, 39, 0, 0, 0, 0, [])]
def p168 : List (Nat × List PI) := [(0, p168_0), (27, p168_27), (30, p168_30), (46, p168_46), (50, p168_50)]
def p169_0 : List PI := [(0, 1, 2, 0, 0, 0, 0, []), (1, 1, 1, 1, 0, 0, 0, []), (2, 3, 35, 128, 2, 12, 0, [40, 88, 960, 962, 31]), (5, 3, 10, 0, 16, 0, 0, []), (8, 1, 2, 0, 0, 0, 0, []), (9, 1, 1, 2, 0, 0, 0, []), (10, 3, 35, 211, 2, 12, 0, [107, 88, 1009, 1011, 35]), (13, 3, 10, 1, 18, 0, 0, []), (16, 0, 45, 0, 16, 0, 0, [])]
def p169_16 : List PI := [(16, 1, 0, 0, 0, 0, -1, []), (17, 1, 39, 0, 0, 0, 0, [])]
def p169_18 : List PI := [(18, 1, 2, 0, 0, 0, 0, []), (19, 1, 1, 3, 0, 0, 0, []), (20, 1, 0, 0, 0, 0, 1, []), (21, 2, 0, 0, 0, 0, 10, []), (23, 3, 35, 125, 4, 12, 0, [1, 88, 931, 933, 29]), (26, 3, 10, 1, 32, 0, 0, []), (29, 2, 0, 0, 0, 0, -2, []), (31, 1, 39, 0, 0, 0, 0, [])]
def p169_32 : List PI := [(32, 1, 2, 0, 0, 0, 0, []), (33, 3, 18, 11, 17, 62, 0, [1151]), (36, 1, 1, 1, 0, 0, 0, []), (37, 1, 22, 0, 0, 0, 0, []), (38, 3, 10, 3, 44, 0, 0, []), (41, 2, 0, 0, 0, 0, -3, []), (43, 1, 39, 0, 0, 0, 0, [])]
def p169_44 : List PI := [(44, 1, 2, 0, 0, 0, 0, []), (45, 3, 18, 11, 55, 110, 0, [1189]), (48, 1, 1, 2, 0, 0, 0, []), (49, 1, 22, 0, 0, 0, 0, []), (50, 3, 10, 3, 56, 0, 0, []), (53, 2, 0, 0, 0, 0, -11, []), (55, 1, 39, 0, 0, 0, 0, [])]
def p169_56 : List PI := [(56, 1, 2, 0, 0, 0, 0, []), (57, 3, 18, 11, 55, 110, 0, [1189]), (60, 1, 1, 2, 0, 0, 0, []), (61, 1, 22, 0, 0, 0, 0, []), (62, 3, 10, 0, 68, 0, 0, []), (65, 2, 0, 0, 0, 0, -12, []), (67, 1, 39, 0, 0, 0, 0, [])]
def p169_68 : List PI := [(68, 1, 2, 0, 0, 0, 0, []), (69, 3, 18, 11, 56, 113, 0, [1190]), (72, 1, 1, 2, 0, 0, 0, []), (73, 1, 22, 0, 0, 0, 0, []), (74, 1, 0, 0, 0, 0, 2, []), (75, 1, 1, 3, 0, 0, 0, []), (76, 1, 6, 2, 0, 0, 0, []), (77, 3, 11, 3, 83, 0, 0, []), (80, 2, 0, 0, 0, 0, -13, []), (82, 1, 39, 0, 0, 0, 0, [])]
def p169_83 : List PI := [(83, 1, 2, 0, 0, 0, 0, []), (84, 1, 1, 1, 0, 0, 0, []), (85, 3, 36, 167, 2, 12, 0, [180, 88, 1101, 1103, 49]), (88, 1, 0, 0, 0, 0, 0, []), (89, 2, 3, 4, 0, 0, 0, []), (91, 0, 45, 0, 91, 0, 0, [])]
def p169_91 : List PI := [(91, 2, 1, 4, 0, 0, 0, []), (93, 1, 1, 3, 0, 0, 0, []), (94, 3, 11, 3, 162, 0, 0, []), (97, 1, 2, 0, 0, 0, 0, []), (98, 1, 2, 0, 0, 0, 0, []), (99, 3, 18, 11, 57, 116, 0, [1191]), (102, 2, 0, 0, 0, 0, 60, []), (104, 1, 1, 2, 0, 0, 0, []), (105, 1, 6, 2, 0, 0, 0, []), (106, 1, 0, 0, 0, 0, 2, []), (107, 2, 1, 4, 0, 0, 0, []), (109, 1, 6, 2, 0, 0, 0, []), (110, 1, 6, 0, 0, 0, 0, []), (111, 1, 22, 0, 0, 0, 0, []), (112, 1, 2, 0, 0, 0, 0, []), (113, 3, 17, 11, 29, 174, 0, [1163]), (116, 1, 6, 1, 0, 0, 0, []), (117, 3, 35, 126, 2, 12, 0, [152, 88, 1065, 1067, 44]), (120, 1, 0, 0, 0, 0, 1, []), (121, 3, 11, 4, 156, 0, 0, []), (124, 1, 2, 0, 0, 0, 0, []), (125, 1, 2, 0, 0, 0, 0, []), (126, 3, 18, 11, 57, 116, 0, [1191]), (129, 2, 0, 0, 0, 0, 60, []), (131, 1, 1, 2, 0, 0, 0, []), (132, 1, 6, 2, 0, 0, 0, []), (133, 1, 0, 0, 0, 0, 2, []), (134, 2, 1, 4, 0, 0, 0, []), (136, 1, 6, 2, 0, 0, 0, []), (137, 1, 6, 0, 0, 0, 0, []), (138, 1, 0, 0, 0, 0, 1, []), (139, 1, 6, 0, 0, 0, 0, []), (140, 1, 22, 0, 0, 0, 0, []), (141, 1, 2, 0, 0, 0, 0, []), (142, 3, 17, 11, 30, 177, 0, [1164]), (145, 1, 6, 1, 0, 0, 0, []), (146, 3, 35, 126, 2, 12, 0, [152, 88, 1065, 1067, 44]), (149, 1, 0, 0, 0, 0, 1, []), (150, 3, 11, 4, 156, 0, 0, []), (153, 2, 1, 4, 0, 0, 0, []), (155, 1, 39, 0, 0, 0, 0, [])]
def p169_156 : List PI := [(156, 3, 5, 4, 0, 0, 1, []), (159, 3, 14, 0, 91, 0, 0, [])]
def p169_162 : List PI := [(162, 2, 0, 0, 0, 0, -5, []), (164, 1, 39, 0, 0, 0, 0, [])]
def p169 : List (Nat × List PI) := [(0, p169_0), (16, p169_16), (18, p169_18), (32, p169_32), (44, p169_44), (56, p169_56), (68, p169_68), (83, p169_83), (91, p169_91), (156, p169_156), (162, p169_162)]
def p170_0 : List PI := [(0, 1, 2, 0, 0, 0, 0, []), (1, 1, 1, 2, 0, 0, 0, []), (2, 1, 0, 0, 0, 0, 2, []), (3, 3, 11, 1, 15, 0, 0, []), (6, 1, 2, 0, 0, 0, 0, []), (7, 3, 18, 11, 13, 56, 0, [1147]), (10, 1, 1, 1, 0, 0, 0, []), (11, 1, 22, 0, 0, 0, 0, []), (12, 3, 14, 0, 24, 0, 0, [])]
def p170_15 : List PI := [(15, 1, 2, 0, 0, 0, 0, []), (16, 3, 18, 11, 27, 122, 0, [1161]), (19, 2, 1, 4, 0, 0, 0, []), (21, 1, 0, 0, 0, 0, 1, []), (22, 1, 6, 0, 0, 0, 0, []), (23, 1, 22, 0, 0, 0, 0, []), (24, 0, 45, 0, 24, 0, 0, [])]
def p170_24 : List PI := [(24, 3, 19, 11, 31, 184, 0, [1165]), (27, 1, 2, 0, 0, 0, 0, []), (28, 1, 1, 2, 0, 0, 0, []), (29, 1, 0, 0, 0, 0, 2, []), (30, 3, 11, 1, 42, 0, 0, []), (33, 1, 2, 0, 0, 0, 0, []), (34, 3, 18, 11, 14, 59, 0, [1148]), (37, 1, 1, 1, 0, 0, 0, []), (38, 1, 22, 0, 0, 0, 0, []), (39, 3, 14, 0, 51, 0, 0, [])]
def p170_42 : List PI := [(42, 1, 2, 0, 0, 0, 0, []), (43, 3, 18, 11, 28, 125, 0, [1162]), (46, 2, 1, 4, 0, 0, 0, []), (48, 1, 0, 0, 0, 0, 1, []), (49, 1, 6, 0, 0, 0, 0, []), (50, 1, 22, 0, 0, 0, 0, []), (51, 0, 45, 0, 51, 0, 0, [])]
def p170_51 : List PI := [(51, 3, 19, 11, 32, 187, 0, [1166]), (54, 1, 1, 2, 0, 0, 0, []), (55, 3, 10, 1, 89, 0, 0, []), (58, 2, 1, 4, 0, 0, 0, []), (60, 1, 2, 0, 0, 0, 0, []), (61, 3, 18, 11, 17, 62, 0, [1151]), (64, 1, 1, 1, 0, 0, 0, []), (65, 1, 22, 0, 0, 0, 0, []), (66, 3, 11, 1, 89, 0, 0, []), (69, 1, 2, 0, 0, 0, 0, []), (70, 1, 2, 0, 0, 0, 0, []), (71, 3, 18, 11, 15, 65, 0, [1149]), (74, 1, 1, 1, 0, 0, 0, []), (75, 1, 22, 0, 0, 0, 0, []), (76, 3, 19, 11, 31, 184, 0, [1165]), (79, 1, 2, 0, 0, 0, 0, []), (80, 1, 2, 0, 0, 0, 0, []), (81, 3, 18, 11, 16, 68, 0, [1150]), (84, 1, 1, 1, 0, 0, 0, []), (85, 1, 22, 0, 0, 0, 0, []), (86, 3, 19, 11, 32, 187, 0, [1166]), (89, 0, 45, 0, 89, 0, 0, [])]
def p170_89 : List PI := [(89, 1, 1, 2, 0, 0, 0, []), (90, 1, 0, 0, 0, 0, 1, []), (91, 3, 11, 1, 119, 0, 0, []), (94, 2, 1, 4, 0, 0, 0, []), (96, 1, 2, 0, 0, 0, 0, []), (97, 3, 18, 11, 17, 62, 0, [1151]), (100, 1, 1, 1, 0, 0, 0, []), (101, 1, 22, 0, 0, 0, 0, []), (102, 3, 11, 2, 119, 0, 0, []), (105, 1, 2, 0, 0, 0, 0, []), (106, 1, 2, 0, 0, 0, 0, []), (107, 1, 2, 0, 0, 0, 0, []), (108, 3, 17, 11, 32, 187, 0, [1166]), (111, 1, 1, 3, 0, 0, 0, []), (112, 1, 6, 1, 0, 0, 0, []), (113, 3, 35, 127, 2, 12, 0, [131, 88, 1033, 1035, 39]), (116, 3, 19, 11, 32, 187, 0, [1166]), (119, 0, 45, 0, 119, 0, 0, [])]
def p170_119 : List PI := [(119, 1, 38, 0, 0, 0, 0, [])]
def p170 : List (Nat × List PI) := [(0, p170_0), (15, p170_15), (24, p170_24), (42, p170_42), (51, p170_51), (89, p170_89), (119, p170_119)]
def p171_0 : List PI := [(0, 1, 2, 0, 0, 0, 0, []), (1, 1, 1, 1, 0, 0, 0, []), (2, 2, 1, 4, 0, 0, 0, []), (4, 3, 36, 151, 3, 12, 0, [142, 88, 1029, 1031, 38]), (7, 1, 0, 0, 0, 0, 0, []), (8, 2, 3, 5, 0, 0, 0, []), (10, 1, 0, 0, 0, 0, 0, []), (11, 2, 3, 6, 0, 0, 0, []), (13, 0, 45, 0, 13, 0, 0, [])]
def p171_13 : List PI := [(13, 2, 1, 6, 0, 0, 0, []), (15, 1, 2, 0, 0, 0, 0, []), (16, 3, 17, 11, 18, 71, 0, [1152]), (19, 3, 11, 3, 97, 0, 0, []), (22, 1, 2, 0, 0, 0, 0, []), (23, 3, 18, 11, 20, 77, 0, [1154]), (26, 2, 1, 6, 0, 0, 0, []), (28, 1, 22, 0, 0, 0, 0, []), (29, 1, 1, 1, 0, 0, 0, []), (30, 3, 11, 1, 91, 0, 0, []), (33, 1, 2, 0, 0, 0, 0, []), (34, 3, 18, 11, 22, 83, 0, [1156]), (37, 2, 1, 6, 0, 0, 0, []), (39, 1, 22, 0, 0, 0, 0, []), (40, 2, 1, 4, 0, 0, 0, []), (42, 3, 11, 5, 48, 0, 0, []), (45, 3, 14, 0, 91, 0, 0, [])]
def p171_48 : List PI := [(48, 1, 2, 0, 0, 0, 0, []), (49, 1, 1, 1, 0, 0, 0, []), (50, 1, 1, 2, 0, 0, 0, []), (51, 1, 1, 3, 0, 0, 0, []), (52, 1, 2, 0, 0, 0, 0, []), (53, 3, 18, 11, 21, 80, 0, [1155]), (56, 2, 1, 6, 0, 0, 0, []), (58, 1, 22, 0, 0, 0, 0, []), (59, 3, 36, 170, 5, 12, 0, [190, 88, 1121, 1123, 52]), (62, 2, 1, 5, 0, 0, 0, []), (64, 1, 2, 0, 0, 0, 0, []), (65, 2, 1, 6, 0, 0, 0, []), (67, 1, 2, 0, 0, 0, 0, []), (68, 3, 17, 11, 31, 184, 0, [1165]), (71, 1, 2, 0, 0, 0, 0, []), (72, 3, 17, 11, 32, 187, 0, [1166]), (75, 2, 1, 4, 0, 0, 0, []), (77, 3, 35, 161, 5, 12, 0, [164, 88, 1073, 1075, 45]), (80, 3, 10, 0, 87, 0, 0, []), (83, 1, 0, 0, 0, 0, 0, []), (84, 3, 14, 0, 88, 0, 0, [])]
def p171_87 : List PI := [(87, 1, 0, 0, 0, 0, 1, []), (88, 0, 45, 0, 88, 0, 0, [])]
def p171_88 : List PI := [(88, 1, 6, 0, 0, 0, 0, []), (89, 2, 3, 5, 0, 0, 0, []), (91, 0, 45, 0, 91, 0, 0, [])]
def p171_91 : List PI := [(91, 3, 5, 6, 0, 0, 1, []), (94, 3, 14, 0, 13, 0, 0, [])]
def p171_97 : List PI := [(97, 2, 1, 5, 0, 0, 0, []), (99, 1, 39, 0, 0, 0, 0, [])]
def p171 : List (Nat × List PI) := [(0, p171_0), (13, p171_13), (48, p171_48), (87, p171_87), (88, p171_88), (91, p171_91), (97, p171_97)]
def p172_0 : List PI := [(0, 1, 2, 0, 0, 0, 0, []), (1, 1, 1, 1, 0, 0, 0, []), (2, 3, 35, 128, 2, 12, 0, [40, 88, 960, 962, 31]), (5, 3, 10, 0, 27, 0, 0, []), (8, 1, 2, 0, 0, 0, 0, []), (9, 1, 1, 2, 0, 0, 0, []), (10, 1, 0, 0, 0, 0, 0, []), (11, 1, 0, 0, 0, 0, 2, []), (12, 3, 35, 125, 4, 12, 0, [1, 88, 931, 933, 29]), (15, 3, 10, 0, 27, 0, 0, []), (18, 1, 2, 0, 0, 0, 0, []), (19, 2, 1, 4, 0, 0, 0, []), (21, 3, 35, 130, 2, 12, 0, [139, 88, 1025, 1027, 37]), (24, 3, 10, 1, 29, 0, 0, []), (27, 0, 45, 0, 27, 0, 0, [])]
def p172_27 : List PI := [(27, 1, 0, 0, 0, 0, -1, []), (28, 1, 39, 0, 0, 0, 0, [])]
def p172_29 : List PI := [(29, 1, 2, 0, 0, 0, 0, []), (30, 1, 1, 3, 0, 0, 0, []), (31, 1, 0, 0, 0, 0, 0, []), (32, 2, 0, 0, 0, 0, 99, []), (34, 3, 35, 125, 4, 12, 0, [1, 88, 931, 933, 29]), (37, 3, 10, 1, 43, 0, 0, []), (40, 2, 0, 0, 0, 0, -2, []), (42, 1, 39, 0, 0, 0, 0, [])]
def p172_43 : List PI := [(43, 1, 1, 2, 0, 0, 0, []), (44, 1, 0, 0, 0, 0, 2, []), (45, 3, 11, 3, 62, 0, 0, []), (48, 1, 2, 0, 0, 0, 0, []), (49, 3, 18, 11, 17, 62, 0, [1151]), (52, 1, 1, 1, 0, 0, 0, []), (53, 1, 22, 0, 0, 0, 0, []), (54, 3, 10, 3, 62, 0, 0, []), (57, 2, 0, 0, 0, 0, -3, []), (59, 3, 14, 0, 71, 0, 0, [])]
def p172_62 : List PI := [(62, 1, 2, 0, 0, 0, 0, []), (63, 1, 1, 1, 0, 0, 0, []), (64, 1, 1, 2, 0, 0, 0, []), (65, 1, 1, 3, 0, 0, 0, []), (66, 2, 1, 4, 0, 0, 0, []), (68, 3, 35, 171, 5, 12, 0, [194, 88, 1117, 1119, 51]), (71, 0, 45, 0, 71, 0, 0, [])]
def p172_71 : List PI := [(71, 1, 39, 0, 0, 0, 0, [])]
def p172 : List (Nat × List PI) := [(0, p172_0), (27, p172_27), (29, p172_29), (43, p172_43), (62, p172_62), (71, p172_71)]
def p173_0 : List PI := [(0, 1, 2, 0, 0, 0, 0, []), (1, 1, 1, 1, 0, 0, 0, []), (2, 3, 35, 128, 2, 12, 0, [40, 88, 960, 962, 31]), (5, 3, 10, 0, 16, 0, 0, []), (8, 1, 2, 0, 0, 0, 0, []), (9, 1, 1, 3, 0, 0, 0, []), (10, 3, 35, 130, 2, 12, 0, [139, 88, 1025, 1027, 37]), (13, 3, 10, 1, 18, 0, 0, []), (16, 0, 45, 0, 16, 0, 0, [])]
def p173_16 : List PI := [(16, 1, 0, 0, 0, 0, -1, []), (17, 1, 39, 0, 0, 0, 0, [])]
def p173_18 : List PI := [(18, 1, 2, 0, 0, 0, 0, []), (19, 1, 1, 2, 0, 0, 0, []), (20, 1, 0, 0, 0, 0, 0, []), (21, 2, 0, 0, 0, 0, 99, []), (23, 3, 35, 125, 4, 12, 0, [1, 88, 931, 933, 29]), (26, 3, 10, 1, 32, 0, 0, []), (29, 2, 0, 0, 0, 0, -2, []), (31, 1, 39, 0, 0, 0, 0, [])]
def p173_32 : List PI := [(32, 1, 2, 0, 0, 0, 0, []), (33, 3, 18, 11, 17, 62, 0, [1151]), (36, 1, 1, 1, 0, 0, 0, []), (37, 1, 22, 0, 0, 0, 0, []), (38, 3, 10, 3, 44, 0, 0, []), (41, 2, 0, 0, 0, 0, -3, []), (43, 1, 39, 0, 0, 0, 0, [])]
def p173_44 : List PI := [(44, 1, 0, 0, 0, 0, 0, []), (45, 2, 3, 4, 0, 0, 0, []), (47, 1, 0, 0, 0, 0, 1, []), (48, 2, 3, 5, 0, 0, 0, []), (50, 0, 45, 0, 50, 0, 0, [])]
def p173_50 : List PI := [(50, 2, 1, 5, 0, 0, 0, []), (52, 1, 0, 0, 0, 0, 3, []), (53, 3, 11, 3, 87, 0, 0, []), (56, 1, 2, 0, 0, 0, 0, []), (57, 1, 1, 1, 0, 0, 0, []), (58, 2, 1, 5, 0, 0, 0, []), (60, 1, 1, 2, 0, 0, 0, []), (61, 1, 1, 3, 0, 0, 0, []), (62, 3, 35, 171, 5, 12, 0, [194, 88, 1117, 1119, 51]), (65, 1, 2, 0, 0, 0, 0, []), (66, 1, 1, 1, 0, 0, 0, []), (67, 2, 1, 4, 0, 0, 0, []), (69, 1, 1, 2, 0, 0, 0, []), (70, 1, 1, 3, 0, 0, 0, []), (71, 3, 35, 171, 5, 12, 0, [194, 88, 1117, 1119, 51]), (74, 3, 11, 3, 81, 0, 0, []), (77, 2, 1, 5, 0, 0, 0, []), (79, 2, 3, 4, 0, 0, 0, []), (81, 0, 45, 0, 81, 0, 0, [])]
def p173_81 : List PI := [(81, 3, 5, 5, 0, 0, 1, []), (84, 3, 14, 0, 50, 0, 0, [])]
def p173_87 : List PI := [(87, 2, 1, 4, 0, 0, 0, []), (89, 1, 39, 0, 0, 0, 0, [])]
def p173 : List (Nat × List PI) := [(0, p173_0), (16, p173_16), (18, p173_18), (32, p173_32), (44, p173_44), (50, p173_50), (81, p173_81), (87, p173_87)]
def p174_0 : List PI := [(0, 1, 2, 0, 0, 0, 0, []), (1, 3, 43, 0, 0, 198, 0, [1133, 99, 100]), (4, 1, 2, 0, 0, 0, 0, []), (5, 1, 0, 0, 0, 0, 0, []), (6, 3, 19, 11, 0, 7, 0, [1134]), (9, 1, 2, 0, 0, 0, 0, []), (10, 1, 0, 0, 0, 0, 0, []), (11, 3, 19, 11, 1, 31, 0, [1135]), (14, 1, 2, 0, 0, 0, 0, []), (15, 2, 0, 0, 0, 0, 16, []), (17, 2, 30, 0, 0, 0, 0, [127]), (19, 1, 32, 0, 0, 0, 0, []), (20, 1, 0, 0, 0, 0, 0, []), (21, 1, 0, 0, 0, 0, 0, []), (22, 1, 24, 0, 0, 0, 0, []), (23, 1, 32, 0, 0, 0, 0, []), (24, 1, 0, 0, 0, 0, 1, []), (25, 3, 0, 0, 0, 0, 383, []), (28, 1, 24, 0, 0, 0, 0, []), (29, 1, 32, 0, 0, 0, 0, []), (30, 1, 0, 0, 0, 0, 2, []), (31, 3, 0, 0, 0, 0, 707, []), (34, 1, 24, 0, 0, 0, 0, []), (35, 1, 32, 0, 0, 0, 0, []), (36, 1, 0, 0, 0, 0, 3, []), (37, 3, 0, 0, 0, 0, 924, []), (40, 1, 24, 0, 0, 0, 0, []), (41, 1, 32, 0, 0, 0, 0, []), (42, 1, 0, 0, 0, 0, 4, []), (43, 3, 0, 0, 0, 0, 1000, []), (46, 1, 24, 0, 0, 0, 0, []), (47, 1, 32, 0, 0, 0, 0, []), (48, 1, 0, 0, 0, 0, 5, []), (49, 3, 0, 0, 0, 0, 924, []), (52, 1, 24, 0, 0, 0, 0, []), (53, 1, 32, 0, 0, 0, 0, []), (54, 2, 0, 0, 0, 0, 6, []), (56, 3, 0, 0, 0, 0, 707, []), (59, 1, 24, 0, 0, 0, 0, []), (60, 1, 32, 0, 0, 0, 0, []), (61, 2, 0, 0, 0, 0, 7, []), (63, 3, 0, 0, 0, 0, 383, []), (66, 1, 24, 0, 0, 0, 0, []), (67, 1, 32, 0, 0, 0, 0, []), (68, 2, 0, 0, 0, 0, 8, []), (70, 1, 0, 0, 0, 0, 0, []), (71, 1, 24, 0, 0, 0, 0, []), (72, 1, 32, 0, 0, 0, 0, []), (73, 2, 0, 0, 0, 0, 9, []), (75, 3, 0, 0, 0, 0, -383, []), (78, 1, 24, 0, 0, 0, 0, []), (79, 1, 32, 0, 0, 0, 0, []), (80, 2, 0, 0, 0, 0, 10, []), (82, 3, 0, 0, 0, 0, -707, []), (85, 1, 24, 0, 0, 0, 0, []), (86, 1, 32, 0, 0, 0, 0, []), (87, 2, 0, 0, 0, 0, 11, []), (89, 3, 0, 0, 0, 0, -924, []), (92, 1, 24, 0, 0, 0, 0, []), (93, 1, 32, 0, 0, 0, 0, []), (94, 2, 0, 0, 0, 0, 12, []), (96, 3, 0, 0, 0, 0, -1000, []), (99, 1, 24, 0, 0, 0, 0, []), (100, 1, 32, 0, 0, 0, 0, []), (101, 2, 0, 0, 0, 0, 13, []), (103, 3, 0, 0, 0, 0, -924, []), (106, 1, 24, 0, 0, 0, 0, []), (107, 1, 32, 0, 0, 0, 0, []), (108, 2, 0, 0, 0, 0, 14, []), (110, 3, 0, 0, 0, 0, -707, []), (113, 1, 24, 0, 0, 0, 0, []), (114, 1, 32, 0, 0, 0, 0, []), (115, 2, 0, 0, 0, 0, 15, []), (117, 3, 0, 0, 0, 0, -383, []), (120, 1, 24, 0, 0, 0, 0, []), (121, 3, 21, 11, 2, 128, 0, [1136]), (124, 1, 2, 0, 0, 0, 0, []), (125, 2, 0, 0, 0, 0, 64, []), (127, 2, 30, 0, 0, 0, 0, [127]), (129, 3, 21, 11, 3, 11, 0, [1137]), (132, 1, 2, 0, 0, 0, 0, []), (133, 2, 0, 0, 0, 0, 64, []), (135, 2, 30, 0, 0, 0, 0, [127]), (137, 3, 21, 11, 4, 15, 0, [1138]), (140, 1, 2, 0, 0, 0, 0, []), (141, 2, 0, 0, 0, 0, 64, []), (143, 2, 30, 0, 0, 0, 0, [127]), (145, 3, 21, 11, 5, 18, 0, [1139]), (148, 1, 2, 0, 0, 0, 0, []), (149, 2, 0, 0, 0, 0, 64, []), (151, 2, 30, 0, 0, 0, 0, [127]), (153, 3, 21, 11, 6, 21, 0, [1140]), (156, 1, 2, 0, 0, 0, 0, []), (157, 3, 0, 0, 0, 0, 200, []), (160, 2, 30, 0, 0, 0, 0, [127]), (162, 3, 21, 11, 7, 28, 0, [1141]), (165, 1, 2, 0, 0, 0, 0, []), (166, 2, 0, 0, 0, 0, 12, []), (168, 2, 30, 0, 0, 0, 0, [127]), (170, 3, 21, 11, 8, 34, 0, [1142]), (173, 1, 2, 0, 0, 0, 0, []), (174, 2, 0, 0, 0, 0, 12, []), (176, 2, 30, 0, 0, 0, 0, [127]), (178, 3, 21, 11, 9, 37, 0, [1143]), (181, 1, 2, 0, 0, 0, 0, []), (182, 1, 0, 0, 0, 0, 2, []), (183, 2, 30, 0, 0, 0, 0, [127]), (185, 3, 21, 11, 10, 43, 0, [1144]), (188, 1, 2, 0, 0, 0, 0, []), (189, 1, 0, 0, 0, 0, 2, []), (190, 2, 30, 0, 0, 0, 0, [127]), (192, 3, 21, 11, 11, 46, 0, [1145]), (195, 1, 2, 0, 0, 0, 0, []), (196, 1, 0, 0, 0, 0, 2, []), (197, 2, 30, 0, 0, 0, 0, [127]), (199, 3, 21, 11, 12, 49, 0, [1146]), (202, 1, 2, 0, 0, 0, 0, []), (203, 1, 0, 0, 0, 0, 2, []), (204, 2, 30, 0, 0, 0, 0, [127]), (206, 1, 32, 0, 0, 0, 0, []), (207, 1, 0, 0, 0, 0, 0, []), (208, 1, 0, 0, 0, 0, 0, []), (209, 1, 24, 0, 0, 0, 0, []), (210, 1, 32, 0, 0, 0, 0, []), (211, 1, 0, 0, 0, 0, 1, []), (212, 1, 0, 0, 0, 0, 0, []), (213, 1, 24, 0, 0, 0, 0, []), (214, 3, 21, 11, 13, 56, 0, [1147]), (217, 1, 2, 0, 0, 0, 0, []), (218, 1, 0, 0, 0, 0, 2, []), (219, 2, 30, 0, 0, 0, 0, [127]), (221, 1, 32, 0, 0, 0, 0, []), (222, 1, 0, 0, 0, 0, 0, []), (223, 3, 0, 0, 0, 0, -300, []), (226, 1, 24, 0, 0, 0, 0, []), (227, 1, 32, 0, 0, 0, 0, []), (228, 1, 0, 0, 0, 0, 1, []), (229, 3, 0, 0, 0, 0, -300, []), (232, 1, 24, 0, 0, 0, 0, []), (233, 3, 21, 11, 14, 59, 0, [1148]), (236, 1, 2, 0, 0, 0, 0, []), (237, 1, 0, 0, 0, 0, 2, []), (238, 2, 30, 0, 0, 0, 0, [127]), (240, 3, 21, 11, 15, 65, 0, [1149]), (243, 1, 2, 0, 0, 0, 0, []), (244, 1, 0, 0, 0, 0, 2, []), (245, 2, 30, 0, 0, 0, 0, [127]), (247, 3, 21, 11, 16, 68, 0, [1150]), (250, 1, 2, 0, 0, 0, 0, []), (251, 1, 0, 0, 0, 0, 2, []), (252, 2, 30, 0, 0, 0, 0, [127]), (254, 1, 32, 0, 0, 0, 0, []), (255, 1, 0, 0, 0, 0, 0, []), (256, 1, 0, 0, 0, 0, -1, []), (257, 1, 24, 0, 0, 0, 0, []), (258, 1, 32, 0, 0, 0, 0, []), (259, 1, 0, 0, 0, 0, 1, []), (260, 1, 0, 0, 0, 0, -1, []), (261, 1, 24, 0, 0, 0, 0, []), (262, 3, 21, 11, 17, 62, 0, [1151]), (265, 1, 2, 0, 0, 0, 0, []), (266, 1, 0, 0, 0, 0, 0, []), (267, 3, 19, 11, 18, 71, 0, [1152]), (270, 1, 2, 0, 0, 0, 0, []), (271, 2, 0, 0, 0, 0, 120, []), (273, 2, 30, 0, 0, 0, 0, [127]), (275, 3, 21, 11, 19, 74, 0, [1153]), (278, 1, 2, 0, 0, 0, 0, []), (279, 2, 0, 0, 0, 0, 120, []), (281, 2, 30, 0, 0, 0, 0, [127]), (283, 3, 21, 11, 20, 77, 0, [1154]), (286, 1, 2, 0, 0, 0, 0, []), (287, 2, 0, 0, 0, 0, 120, []), (289, 2, 30, 0, 0, 0, 0, [127]), (291, 3, 21, 11, 21, 80, 0, [1155]), (294, 1, 2, 0, 0, 0, 0, []), (295, 2, 0, 0, 0, 0, 120, []), (297, 2, 30, 0, 0, 0, 0, [127]), (299, 3, 21, 11, 22, 83, 0, [1156]), (302, 1, 2, 0, 0, 0, 0, []), (303, 2, 0, 0, 0, 0, 120, []), (305, 2, 30, 0, 0, 0, 0, [127]), (307, 3, 21, 11, 23, 86, 0, [1157]), (310, 1, 2, 0, 0, 0, 0, []), (311, 2, 0, 0, 0, 0, 120, []), (313, 2, 30, 0, 0, 0, 0, [127]), (315, 3, 21, 11, 24, 89, 0, [1158]), (318, 1, 2, 0, 0, 0, 0, []), (319, 2, 0, 0, 0, 0, 120, []), (321, 2, 30, 0, 0, 0, 0, [127]), (323, 3, 21, 11, 25, 92, 0, [1159]), (326, 1, 2, 0, 0, 0, 0, []), (327, 2, 0, 0, 0, 0, 120, []), (329, 2, 30, 0, 0, 0, 0, [127]), (331, 3, 21, 11, 26, 95, 0, [1160]), (334, 1, 2, 0, 0, 0, 0, []), (335, 3, 0, 0, 0, 0, 201, []), (338, 2, 30, 0, 0, 0, 0, [127]), (340, 3, 21, 11, 27, 122, 0, [1161]), (343, 1, 2, 0, 0, 0, 0, []), (344, 3, 0, 0, 0, 0, 201, []), (347, 2, 30, 0, 0, 0, 0, [127]), (349, 3, 21, 11, 28, 125, 0, [1162]), (352, 1, 2, 0, 0, 0, 0, []), (353, 1, 0, 0, 0, 0, 0, []), (354, 3, 19, 11, 29, 174, 0, [1163]), (357, 1, 2, 0, 0, 0, 0, []), (358, 1, 0, 0, 0, 0, 0, []), (359, 3, 19, 11, 30, 177, 0, [1164]), (362, 1, 2, 0, 0, 0, 0, []), (363, 1, 0, 0, 0, 0, 0, []), (364, 3, 19, 11, 31, 184, 0, [1165]), (367, 1, 2, 0, 0, 0, 0, []), (368, 1, 0, 0, 0, 0, 0, []), (369, 3, 19, 11, 32, 187, 0, [1166]), (372, 1, 2, 0, 0, 0, 0, []), (373, 3, 0, 0, 0, 0, 200, []), (376, 2, 30, 0, 0, 0, 0, [127]), (378, 3, 21, 11, 33, 204, 0, [1167]), (381, 1, 2, 0, 0, 0, 0, []), (382, 1, 0, 0, 0, 0, 0, []), (383, 3, 19, 11, 34, 207, 0, [1168]), (386, 1, 2, 0, 0, 0, 0, []), (387, 1, 0, 0, 0, 0, 0, []), (388, 3, 19, 11, 35, 210, 0, [1169]), (391, 1, 2, 0, 0, 0, 0, []), (392, 1, 0, 0, 0, 0, 0, []), (393, 3, 19, 11, 36, 213, 0, [1170]), (396, 1, 2, 0, 0, 0, 0, []), (397, 2, 0, 0, 0, 0, 12, []), (399, 2, 30, 0, 0, 0, 0, [127]), (401, 3, 21, 11, 37, 216, 0, [1171]), (404, 1, 2, 0, 0, 0, 0, []), (405, 2, 0, 0, 0, 0, 12, []), (407, 2, 30, 0, 0, 0, 0, [127]), (409, 3, 21, 11, 38, 219, 0, [1172]), (412, 1, 2, 0, 0, 0, 0, []), (413, 3, 0, 0, 0, 0, 1040, []), (416, 2, 30, 0, 0, 0, 0, [127]), (418, 3, 21, 11, 39, 222, 0, [1173]), (421, 1, 2, 0, 0, 0, 0, []), (422, 2, 0, 0, 0, 0, 13, []), (424, 2, 30, 0, 0, 0, 0, [127]), (426, 3, 21, 11, 40, 225, 0, [1174]), (429, 1, 2, 0, 0, 0, 0, []), (430, 2, 0, 0, 0, 0, 9, []), (432, 2, 30, 0, 0, 0, 0, [127]), (434, 3, 21, 11, 41, 228, 0, [1175]), (437, 1, 2, 0, 0, 0, 0, []), (438, 1, 0, 0, 0, 0, 0, []), (439, 3, 19, 11, 42, 231, 0, [1176]), (442, 1, 2, 0, 0, 0, 0, []), (443, 1, 0, 0, 0, 0, 0, []), (444, 3, 19, 11, 43, 234, 0, [1177]), (447, 1, 2, 0, 0, 0, 0, []), (448, 1, 0, 0, 0, 0, 0, []), (449, 3, 19, 11, 44, 237, 0, [1178]), (452, 1, 2, 0, 0, 0, 0, []), (453, 2, 0, 0, 0, 0, 81, []), (455, 2, 30, 0, 0, 0, 0, [127]), (457, 3, 21, 11, 45, 240, 0, [1179]), (460, 1, 2, 0, 0, 0, 0, []), (461, 2, 0, 0, 0, 0, 81, []), (463, 2, 30, 1, 0, 0, 0, [1312]), (465, 3, 21, 11, 46, 243, 0, [1180]), (468, 1, 2, 0, 0, 0, 0, []), (469, 1, 0, 0, 0, 0, 0, []), (470, 3, 19, 11, 47, 247, 0, [1181]), (473, 1, 2, 0, 0, 0, 0, []), (474, 1, 0, 0, 0, 0, 0, []), (475, 3, 19, 11, 48, 250, 0, [1182]), (478, 1, 2, 0, 0, 0, 0, []), (479, 1, 0, 0, 0, 0, 0, []), (480, 3, 19, 11, 49, 253, 0, [1183]), (483, 1, 2, 0, 0, 0, 0, []), (484, 1, 0, 0, 0, 0, 0, []), (485, 3, 19, 11, 50, 256, 0, [1184]), (488, 1, 2, 0, 0, 0, 0, []), (489, 2, 0, 0, 0, 0, 8, []), (491, 2, 30, 0, 0, 0, 0, [127]), (493, 3, 21, 11, 51, 259, 0, [1185]), (496, 1, 2, 0, 0, 0, 0, []), (497, 3, 0, 0, 0, 0, 320, []), (500, 2, 30, 0, 0, 0, 0, [127]), (502, 3, 21, 11, 52, 262, 0, [1186]), (505, 1, 2, 0, 0, 0, 0, []), (506, 1, 0, 0, 0, 0, 0, []), (507, 3, 19, 11, 53, 265, 0, [1187]), (510, 1, 2, 0, 0, 0, 0, []), (511, 2, 0, 0, 0, 0, 20, []), (513, 2, 30, 0, 0, 0, 0, [127]), (515, 3, 21, 11, 54, 268, 0, [1188]), (518, 1, 2, 0, 0, 0, 0, []), (519, 2, 0, 0, 0, 0, 6, []), (521, 2, 30, 0, 0, 0, 0, [127]), (523, 1, 32, 0, 0, 0, 0, []), (524, 1, 0, 0, 0, 0, 0, []), (525, 1, 0, 0, 0, 0, -1, []), (526, 1, 24, 0, 0, 0, 0, []), (527, 1, 32, 0, 0, 0, 0, []), (528, 1, 0, 0, 0, 0, 1, []), (529, 1, 0, 0, 0, 0, -1, []), (530, 1, 24, 0, 0, 0, 0, []), (531, 1, 32, 0, 0, 0, 0, []), (532, 1, 0, 0, 0, 0, 2, []), (533, 1, 0, 0, 0, 0, -1, []), (534, 1, 24, 0, 0, 0, 0, []), (535, 1, 32, 0, 0, 0, 0, []), (536, 1, 0, 0, 0, 0, 3, []), (537, 1, 0, 0, 0, 0, -1, []), (538, 1, 24, 0, 0, 0, 0, []), (539, 1, 32, 0, 0, 0, 0, []), (540, 1, 0, 0, 0, 0, 4, []), (541, 1, 0, 0, 0, 0, -1, []), (542, 1, 24, 0, 0, 0, 0, []), (543, 1, 32, 0, 0, 0, 0, []), (544, 1, 0, 0, 0, 0, 5, []), (545, 1, 0, 0, 0, 0, -1, []), (546, 1, 24, 0, 0, 0, 0, []), (547, 3, 21, 11, 55, 110, 0, [1189]), (550, 1, 2, 0, 0, 0, 0, []), (551, 2, 0, 0, 0, 0, 6, []), (553, 2, 30, 0, 0, 0, 0, [127]), (555, 3, 21, 11, 56, 113, 0, [1190]), (558, 1, 2, 0, 0, 0, 0, []), (559, 3, 0, 0, 0, 0, 360, []), (562, 2, 30, 0, 0, 0, 0, [127]), (564, 3, 21, 11, 57, 116, 0, [1191]), (567, 1, 2, 0, 0, 0, 0, []), (568, 2, 0, 0, 0, 0, 60, []), (570, 2, 30, 0, 0, 0, 0, [127]), (572, 3, 21, 11, 58, 271, 0, [1192]), (575, 1, 0, 0, 0, 0, 0, []), (576, 1, 3, 1, 0, 0, 0, []), (577, 0, 45, 0, 577, 0, 0, [])]
def p174_577 : List PI := [(577, 1, 1, 1, 0, 0, 0, []), (578, 3, 0, 0, 0, 0, 200, []), (581, 3, 11, 3, 597, 0, 0, []), (584, 1, 2, 0, 0, 0, 0, []), (585, 3, 18, 11, 33, 204, 0, [1167]), (588, 1, 1, 1, 0, 0, 0, []), (589, 1, 0, 0, 0, 0, -1, []), (590, 1, 24, 0, 0, 0, 0, []), (591, 3, 5, 1, 0, 0, 1, []), (594, 3, 14, 0, 577, 0, 0, [])]
def p174_597 : List PI := [(597, 1, 38, 0, 0, 0, 0, [])]
def p174 : List (Nat × List PI) := [(0, p174_0), (577, p174_577), (597, p174_597)]
def p175_0 : List PI := [(0, 1, 2, 0, 0, 0, 0, []), (1, 1, 1, 1, 0, 0, 0, []), (2, 3, 35, 129, 2, 12, 0, [24, 88, 948, 950, 30]), (5, 3, 10, 1, 10, 0, 0, []), (8, 1, 0, 0, 0, 0, -1, []), (9, 1, 39, 0, 0, 0, 0, [])]
def p175_10 : List PI := [(10, 1, 2, 0, 0, 0, 0, []), (11, 1, 1, 2, 0, 0, 0, []), (12, 1, 0, 0, 0, 0, -1, []), (13, 3, 0, 0, 0, 0, 1500, []), (16, 3, 35, 125, 4, 12, 0, [1, 88, 931, 933, 29]), (19, 3, 10, 1, 25, 0, 0, []), (22, 2, 0, 0, 0, 0, -2, []), (24, 1, 39, 0, 0, 0, 0, [])]
def p175_25 : List PI := [(25, 1, 2, 0, 0, 0, 0, []), (26, 3, 18, 11, 33, 204, 0, [1167]), (29, 1, 1, 1, 0, 0, 0, []), (30, 1, 22, 0, 0, 0, 0, []), (31, 1, 3, 3, 0, 0, 0, []), (32, 1, 2, 0, 0, 0, 0, []), (33, 3, 18, 11, 33, 204, 0, [1167]), (36, 1, 1, 1, 0, 0, 0, []), (37, 1, 1, 2, 0, 0, 0, []), (38, 1, 24, 0, 0, 0, 0, []), (39, 1, 2, 0, 0, 0, 0, []), (40, 1, 32, 0, 0, 0, 0, []), (41, 3, 17, 11, 34, 207, 0, [1168]), (44, 1, 1, 2, 0, 0, 0, []), (45, 3, 10, 3, 52, 0, 0, []), (48, 1, 0, 0, 0, 0, 0, []), (49, 3, 14, 0, 53, 0, 0, [])]
def p175_52 : List PI := [(52, 1, 0, 0, 0, 0, 1, []), (53, 0, 45, 0, 53, 0, 0, [])]
def p175_53 : List PI := [(53, 1, 1, 3, 0, 0, 0, []), (54, 3, 10, 3, 61, 0, 0, []), (57, 1, 0, 0, 0, 0, 0, []), (58, 3, 14, 0, 62, 0, 0, [])]
def p175_61 : List PI := [(61, 1, 0, 0, 0, 0, 1, []), (62, 0, 45, 0, 62, 0, 0, [])]
def p175_62 : List PI := [(62, 1, 6, 1, 0, 0, 0, []), (63, 1, 6, 0, 0, 0, 0, []), (64, 3, 19, 11, 34, 207, 0, [1168]), (67, 1, 1, 3, 0, 0, 0, []), (68, 1, 39, 0, 0, 0, 0, [])]
def p175 : List (Nat × List PI) := [(0, p175_0), (10, p175_10), (25, p175_25), (52, p175_52), (53, p175_53), (61, p175_61), (62, p175_62)]
def p176_0 : List PI := [(0, 3, 0, 0, 0, 0, 5400, []), (3, 1, 2, 0, 0, 0, 0, []), (4, 1, 2, 0, 0, 0, 0, []), (5, 3, 18, 11, 15, 65, 0, [1149]), (8, 1, 1, 1, 0, 0, 0, []), (9, 1, 22, 0, 0, 0, 0, []), (10, 1, 2, 0, 0, 0, 0, []), (11, 3, 18, 11, 16, 68, 0, [1150]), (14, 1, 1, 1, 0, 0, 0, []), (15, 1, 22, 0, 0, 0, 0, []), (16, 3, 35, 157, 3, 12, 0, [155, 88, 1061, 1063, 43]), (19, 1, 6, 1, 0, 0, 0, []), (20, 2, 3, 4, 0, 0, 0, []), (22, 1, 0, 0, 0, 0, 0, []), (23, 2, 3, 5, 0, 0, 0, []), (25, 1, 0, 0, 0, 0, 0, []), (26, 2, 3, 6, 0, 0, 0, []), (28, 0, 45, 0, 28, 0, 0, [])]
def p176_28 : List PI := [(28, 2, 1, 6, 0, 0, 0, []), (30, 1, 2, 0, 0, 0, 0, []), (31, 3, 17, 11, 18, 71, 0, [1152]), (34, 3, 11, 3, 169, 0, 0, []), (37, 1, 2, 0, 0, 0, 0, []), (38, 3, 18, 11, 20, 77, 0, [1154]), (41, 2, 1, 6, 0, 0, 0, []), (43, 1, 22, 0, 0, 0, 0, []), (44, 1, 1, 1, 0, 0, 0, []), (45, 3, 11, 1, 163, 0, 0, []), (48, 1, 2, 0, 0, 0, 0, []), (49, 2, 1, 6, 0, 0, 0, []), (51, 3, 35, 159, 2, 12, 0, [158, 88, 1077, 1079, 46]), (54, 3, 10, 0, 163, 0, 0, []), (57, 1, 2, 0, 0, 0, 0, []), (58, 3, 18, 11, 22, 83, 0, [1156]), (61, 2, 1, 6, 0, 0, 0, []), (63, 1, 22, 0, 0, 0, 0, []), (64, 1, 1, 3, 0, 0, 0, []), (65, 3, 11, 5, 71, 0, 0, []), (68, 3, 14, 0, 163, 0, 0, [])]
def p176_71 : List PI := [(71, 1, 2, 0, 0, 0, 0, []), (72, 3, 18, 11, 33, 204, 0, [1167]), (75, 1, 2, 0, 0, 0, 0, []), (76, 3, 18, 11, 21, 80, 0, [1155]), (79, 2, 1, 6, 0, 0, 0, []), (81, 1, 22, 0, 0, 0, 0, []), (82, 1, 22, 0, 0, 0, 0, []), (83, 3, 10, 2, 115, 0, 0, []), (86, 1, 2, 0, 0, 0, 0, []), (87, 3, 18, 11, 23, 86, 0, [1157]), (90, 2, 1, 6, 0, 0, 0, []), (92, 1, 22, 0, 0, 0, 0, []), (93, 2, 1, 4, 0, 0, 0, []), (95, 1, 2, 0, 0, 0, 0, []), (96, 3, 18, 11, 33, 204, 0, [1167]), (99, 1, 2, 0, 0, 0, 0, []), (100, 3, 18, 11, 21, 80, 0, [1155]), (103, 2, 1, 6, 0, 0, 0, []), (105, 1, 22, 0, 0, 0, 0, []), (106, 1, 22, 0, 0, 0, 0, []), (107, 1, 6, 0, 0, 0, 0, []), (108, 3, 11, 1, 115, 0, 0, []), (111, 1, 0, 0, 0, 0, 1, []), (112, 3, 14, 0, 116, 0, 0, [])]
def p176_115 : List PI := [(115, 1, 0, 0, 0, 0, 0, []), (116, 0, 45, 0, 116, 0, 0, [])]
def p176_116 : List PI := [(116, 2, 3, 7, 0, 0, 0, []), (118, 2, 1, 5, 0, 0, 0, []), (120, 2, 1, 7, 0, 0, 0, []), (122, 3, 10, 1, 155, 0, 0, []), (125, 1, 1, 2, 0, 0, 0, []), (126, 1, 0, 0, 0, 0, 1, []), (127, 3, 11, 1, 159, 0, 0, []), (130, 1, 2, 0, 0, 0, 0, []), (131, 3, 18, 11, 23, 86, 0, [1157]), (134, 2, 1, 6, 0, 0, 0, []), (136, 1, 22, 0, 0, 0, 0, []), (137, 2, 1, 4, 0, 0, 0, []), (139, 1, 2, 0, 0, 0, 0, []), (140, 3, 18, 11, 7, 28, 0, [1141]), (143, 1, 2, 0, 0, 0, 0, []), (144, 3, 18, 11, 21, 80, 0, [1155]), (147, 2, 1, 6, 0, 0, 0, []), (149, 1, 22, 0, 0, 0, 0, []), (150, 1, 22, 0, 0, 0, 0, []), (151, 1, 6, 0, 0, 0, 0, []), (152, 3, 11, 1, 159, 0, 0, []), (155, 0, 45, 0, 155, 0, 0, [])]
def p176_155 : List PI := [(155, 1, 0, 0, 0, 0, 1, []), (156, 3, 14, 0, 160, 0, 0, [])]
def p176_159 : List PI := [(159, 1, 0, 0, 0, 0, 0, []), (160, 0, 45, 0, 160, 0, 0, [])]
def p176_160 : List PI := [(160, 1, 6, 0, 0, 0, 0, []), (161, 2, 3, 5, 0, 0, 0, []), (163, 0, 45, 0, 163, 0, 0, [])]
def p176_163 : List PI := [(163, 3, 5, 6, 0, 0, 1, []), (166, 3, 14, 0, 28, 0, 0, [])]
def p176_169 : List PI := [(169, 2, 1, 5, 0, 0, 0, []), (171, 1, 39, 0, 0, 0, 0, [])]
def p176 : List (Nat × List PI) := [(0, p176_0), (28, p176_28), (71, p176_71), (115, p176_115), (116, p176_116), (155, p176_155), (159, p176_159), (160, p176_160), (163, p176_163), (169, p176_169)]
def p177_0 : List PI := [(0, 1, 2, 0, 0, 0, 0, []), (1, 1, 1, 1, 0, 0, 0, []), (2, 3, 35, 128, 2, 12, 0, [40, 88, 960, 962, 31]), (5, 3, 10, 0, 18, 0, 0, []), (8, 1, 2, 0, 0, 0, 0, []), (9, 1, 1, 2, 0, 0, 0, []), (10, 1, 0, 0, 0, 0, 0, []), (11, 1, 0, 0, 0, 0, 1, []), (12, 3, 35, 125, 4, 12, 0, [1, 88, 931, 933, 29]), (15, 3, 10, 1, 20, 0, 0, []), (18, 0, 45, 0, 18, 0, 0, [])]
def p177_18 : List PI := [(18, 1, 0, 0, 0, 0, -1, []), (19, 1, 39, 0, 0, 0, 0, [])]
def p177_20 : List PI := [(20, 1, 2, 0, 0, 0, 0, []), (21, 3, 18, 11, 17, 62, 0, [1151]), (24, 1, 1, 1, 0, 0, 0, []), (25, 1, 22, 0, 0, 0, 0, []), (26, 3, 10, 3, 34, 0, 0, []), (29, 2, 0, 0, 0, 0, -3, []), (31, 3, 14, 0, 42, 0, 0, [])]
def p177_34 : List PI := [(34, 1, 2, 0, 0, 0, 0, []), (35, 1, 1, 1, 0, 0, 0, []), (36, 1, 1, 2, 0, 0, 0, []), (37, 2, 0, 0, 0, 0, 99, []), (39, 3, 35, 176, 4, 12, 0, [274, 88, 1321, 1323, 53]), (42, 0, 45, 0, 42, 0, 0, [])]
def p177_42 : List PI := [(42, 1, 39, 0, 0, 0, 0, [])]
def p177 : List (Nat × List PI) := [(0, p177_0), (18, p177_18), (20, p177_20), (34, p177_34), (42, p177_42)]
def p178_0 : List PI := [(0, 1, 2, 0, 0, 0, 0, []), (1, 1, 1, 2, 0, 0, 0, []), (2, 1, 0, 0, 0, 0, 0, []), (3, 1, 0, 0, 0, 0, 4, []), (4, 3, 35, 125, 4, 12, 0, [1, 88, 931, 933, 29]), (7, 3, 10, 1, 13, 0, 0, []), (10, 2, 0, 0, 0, 0, -2, []), (12, 1, 39, 0, 0, 0, 0, [])]
def p178_13 : List PI := [(13, 1, 2, 0, 0, 0, 0, []), (14, 3, 17, 11, 36, 213, 0, [1170]), (17, 1, 1, 2, 0, 0, 0, []), (18, 1, 6, 0, 0, 0, 0, []), (19, 2, 0, 0, 0, 0, 80, []), (21, 3, 11, 5, 27, 0, 0, []), (24, 2, 0, 0, 0, 0, -4, []), (26, 1, 39, 0, 0, 0, 0, [])]
def p178_27 : List PI := [(27, 1, 1, 2, 0, 0, 0, []), (28, 1, 0, 0, 0, 0, 1, []), (29, 1, 6, 1, 0, 0, 0, []), (30, 1, 3, 3, 0, 0, 0, []), (31, 0, 45, 0, 31, 0, 0, [])]
def p178_31 : List PI := [(31, 1, 1, 3, 0, 0, 0, []), (32, 3, 10, 2, 71, 0, 0, []), (35, 1, 2, 0, 0, 0, 0, []), (36, 3, 18, 11, 39, 222, 0, [1173]), (39, 3, 0, 0, 0, 0, 960, []), (42, 1, 2, 0, 0, 0, 0, []), (43, 3, 17, 11, 36, 213, 0, [1170]), (46, 1, 6, 0, 0, 0, 0, []), (47, 1, 1, 1, 0, 0, 0, []), (48, 2, 0, 0, 0, 0, 8, []), (50, 1, 1, 3, 0, 0, 0, []), (51, 1, 6, 2, 0, 0, 0, []), (52, 1, 6, 7, 0, 0, 0, []), (53, 1, 9, 1, 0, 0, 0, []), (54, 1, 24, 0, 0, 0, 0, []), (55, 1, 2, 0, 0, 0, 0, []), (56, 1, 32, 0, 0, 0, 0, []), (57, 3, 17, 11, 36, 213, 0, [1170]), (60, 1, 0, 0, 0, 0, 1, []), (61, 1, 6, 0, 0, 0, 0, []), (62, 3, 19, 11, 36, 213, 0, [1170]), (65, 3, 5, 3, 0, 0, -1, []), (68, 3, 14, 0, 31, 0, 0, [])]
def p178_71 : List PI := [(71, 1, 2, 0, 0, 0, 0, []), (72, 3, 17, 11, 36, 213, 0, [1170]), (75, 1, 39, 0, 0, 0, 0, [])]
def p178 : List (Nat × List PI) := [(0, p178_0), (13, p178_13), (27, p178_27), (31, p178_31), (71, p178_71)]
def p179_0 : List PI := [(0, 1, 2, 0, 0, 0, 0, []), (1, 3, 17, 11, 44, 237, 0, [1178]), (4, 1, 2, 0, 0, 0, 0, []), (5, 3, 17, 11, 43, 234, 0, [1177]), (8, 3, 11, 3, 28, 0, 0, []), (11, 1, 2, 0, 0, 0, 0, []), (12, 3, 18, 11, 39, 222, 0, [1173]), (15, 1, 2, 0, 0, 0, 0, []), (16, 3, 17, 11, 42, 231, 0, [1176]), (19, 1, 2, 0, 0, 0, 0, []), (20, 3, 17, 11, 44, 237, 0, [1178]), (23, 1, 6, 0, 0, 0, 0, []), (24, 1, 22, 0, 0, 0, 0, []), (25, 3, 14, 0, 29, 0, 0, [])]
def p179_28 : List PI := [(28, 1, 0, 0, 0, 0, -1, []), (29, 0, 45, 0, 29, 0, 0, [])]
def p179_29 : List PI := [(29, 1, 39, 0, 0, 0, 0, [])]
def p179 : List (Nat × List PI) := [(0, p179_0), (28, p179_28), (29, p179_29)]
def p180_0 : List PI := [(0, 1, 2, 0, 0, 0, 0, []), (1, 1, 2, 0, 0, 0, 0, []), (2, 3, 35, 179, 1, 12, 0, [277, 88, 1337, 1339, 55]), (5, 2, 0, 0, 0, 0, 48, []), (7, 2, 0, 0, 0, 0, 57, []), (9, 3, 35, 125, 4, 12, 0, [1, 88, 931, 933, 29]), (12, 1, 40, 0, 0, 0, 0, [])]
def p180 : List (Nat × List PI) := [(0, p180_0)]
def p181_0 : List PI := [(0, 1, 1, 1, 0, 0, 0, []), (1, 1, 3, 2, 0, 0, 0, []), (2, 0, 45, 0, 2, 0, 0, [])]
def p181_2 : List PI := [(2, 1, 2, 0, 0, 0, 0, []), (3, 3, 17, 11, 47, 247, 0, [1181]), (6, 3, 10, 5, 58, 0, 0, []), (9, 1, 2, 0, 0, 0, 0, []), (10, 3, 18, 11, 45, 240, 0, [1179]), (13, 1, 2, 0, 0, 0, 0, []), (14, 3, 17, 11, 47, 247, 0, [1181]), (17, 1, 0, 0, 0, 0, 1, []), (18, 1, 6, 1, 0, 0, 0, []), (19, 1, 22, 0, 0, 0, 0, []), (20, 2, 0, 0, 0, 0, 33, []), (22, 3, 11, 1, 58, 0, 0, []), (25, 1, 1, 2, 0, 0, 0, []), (26, 3, 10, 1, 33, 0, 0, []), (29, 1, 0, 0, 0, 0, 1, []), (30, 3, 14, 0, 34, 0, 0, [])]
def p181_33 : List PI := [(33, 1, 0, 0, 0, 0, 0, []), (34, 0, 45, 0, 34, 0, 0, [])]
def p181_34 : List PI := [(34, 1, 3, 2, 0, 0, 0, []), (35, 1, 2, 0, 0, 0, 0, []), (36, 1, 32, 0, 0, 0, 0, []), (37, 3, 17, 11, 47, 247, 0, [1181]), (40, 1, 0, 0, 0, 0, 1, []), (41, 1, 6, 1, 0, 0, 0, []), (42, 3, 19, 11, 47, 247, 0, [1181]), (45, 1, 2, 0, 0, 0, 0, []), (46, 1, 32, 0, 0, 0, 0, []), (47, 3, 17, 11, 49, 253, 0, [1183]), (50, 1, 0, 0, 0, 0, 1, []), (51, 1, 6, 1, 0, 0, 0, []), (52, 3, 19, 11, 49, 253, 0, [1183]), (55, 3, 14, 0, 2, 0, 0, [])]
def p181_58 : List PI := [(58, 1, 2, 0, 0, 0, 0, []), (59, 3, 18, 11, 46, 243, 0, [1180]), (62, 1, 2, 0, 0, 0, 0, []), (63, 3, 17, 11, 48, 250, 0, [1182]), (66, 1, 1, 2, 0, 0, 0, []), (67, 1, 25, 0, 0, 0, 0, []), (68, 1, 2, 0, 0, 0, 0, []), (69, 1, 32, 0, 0, 0, 0, []), (70, 3, 17, 11, 48, 250, 0, [1182]), (73, 1, 0, 0, 0, 0, 1, []), (74, 1, 6, 0, 0, 0, 0, []), (75, 3, 19, 11, 48, 250, 0, [1182]), (78, 1, 38, 0, 0, 0, 0, [])]
def p181 : List (Nat × List PI) := [(0, p181_0), (2, p181_2), (33, p181_33), (34, p181_34), (58, p181_58)]
def p182_0 : List PI := [(0, 1, 2, 0, 0, 0, 0, []), (1, 3, 17, 11, 47, 247, 0, [1181]), (4, 3, 10, 5, 158, 0, 0, []), (7, 1, 2, 0, 0, 0, 0, []), (8, 3, 18, 11, 45, 240, 0, [1179]), (11, 1, 2, 0, 0, 0, 0, []), (12, 3, 17, 11, 47, 247, 0, [1181]), (15, 1, 0, 0, 0, 0, 1, []), (16, 1, 6, 1, 0, 0, 0, []), (17, 1, 22, 0, 0, 0, 0, []), (18, 2, 0, 0, 0, 0, 38, []), (20, 3, 11, 0, 45, 0, 0, []), (23, 1, 2, 0, 0, 0, 0, []), (24, 3, 18, 11, 45, 240, 0, [1179]), (27, 1, 2, 0, 0, 0, 0, []), (28, 3, 17, 11, 47, 247, 0, [1181]), (31, 1, 0, 0, 0, 0, 1, []), (32, 1, 6, 1, 0, 0, 0, []), (33, 1, 22, 0, 0, 0, 0, []), (34, 2, 0, 0, 0, 0, 124, []), (36, 3, 11, 1, 158, 0, 0, []), (39, 1, 1, 1, 0, 0, 0, []), (40, 2, 0, 0, 0, 0, 38, []), (42, 3, 11, 0, 158, 0, 0, []), (45, 0, 45, 0, 45, 0, 0, [])]
def p182_45 : List PI := [(45, 1, 2, 0, 0, 0, 0, []), (46, 1, 32, 0, 0, 0, 0, []), (47, 3, 17, 11, 47, 247, 0, [1181]), (50, 1, 0, 0, 0, 0, 1, []), (51, 1, 6, 1, 0, 0, 0, []), (52, 3, 19, 11, 47, 247, 0, [1181]), (55, 1, 2, 0, 0, 0, 0, []), (56, 1, 32, 0, 0, 0, 0, []), (57, 3, 17, 11, 48, 250, 0, [1182]), (60, 1, 0, 0, 0, 0, 1, []), (61, 1, 6, 1, 0, 0, 0, []), (62, 3, 19, 11, 48, 250, 0, [1182]), (65, 1, 2, 0, 0, 0, 0, []), (66, 3, 18, 11, 46, 243, 0, [1180]), (69, 1, 2, 0, 0, 0, 0, []), (70, 3, 17, 11, 48, 250, 0, [1182]), (73, 1, 0, 0, 0, 0, 1, []), (74, 1, 6, 1, 0, 0, 0, []), (75, 1, 2, 0, 0, 0, 0, []), (76, 3, 18, 11, 45, 240, 0, [1179]), (79, 1, 2, 0, 0, 0, 0, []), (80, 3, 17, 11, 47, 247, 0, [1181]), (83, 1, 22, 0, 0, 0, 0, []), (84, 2, 0, 0, 0, 0, 38, []), (86, 3, 11, 1, 123, 0, 0, []), (89, 1, 2, 0, 0, 0, 0, []), (90, 3, 18, 11, 46, 243, 0, [1180]), (93, 1, 2, 0, 0, 0, 0, []), (94, 3, 17, 11, 48, 250, 0, [1182]), (97, 1, 0, 0, 0, 0, 1, []), (98, 1, 6, 1, 0, 0, 0, []), (99, 1, 22, 1, 0, 0, 0, []), (100, 3, 10, 0, 119, 0, 0, []), (103, 1, 2, 0, 0, 0, 0, []), (104, 3, 18, 11, 46, 243, 0, [1180]), (107, 1, 2, 0, 0, 0, 0, []), (108, 3, 17, 11, 48, 250, 0, [1182]), (111, 1, 22, 1, 0, 0, 0, []), (112, 3, 10, 0, 119, 0, 0, []), (115, 1, 0, 0, 0, 0, 1, []), (116, 3, 14, 0, 154, 0, 0, [])]
def p182_119 : List PI := [(119, 1, 0, 0, 0, 0, 0, []), (120, 3, 14, 0, 154, 0, 0, [])]
def p182_123 : List PI := [(123, 1, 2, 0, 0, 0, 0, []), (124, 3, 18, 11, 46, 243, 0, [1180]), (127, 1, 2, 0, 0, 0, 0, []), (128, 3, 17, 11, 48, 250, 0, [1182]), (131, 1, 0, 0, 0, 0, 1, []), (132, 1, 6, 1, 0, 0, 0, []), (133, 1, 22, 1, 0, 0, 0, []), (134, 3, 10, 1, 149, 0, 0, []), (137, 1, 2, 0, 0, 0, 0, []), (138, 3, 18, 11, 46, 243, 0, [1180]), (141, 1, 2, 0, 0, 0, 0, []), (142, 3, 17, 11, 48, 250, 0, [1182]), (145, 1, 22, 1, 0, 0, 0, []), (146, 3, 10, 0, 153, 0, 0, []), (149, 0, 45, 0, 149, 0, 0, [])]
def p182_149 : List PI := [(149, 1, 0, 0, 0, 0, 1, []), (150, 3, 14, 0, 154, 0, 0, [])]
def p182_153 : List PI := [(153, 1, 0, 0, 0, 0, 0, []), (154, 0, 45, 0, 154, 0, 0, [])]
def p182_154 : List PI := [(154, 1, 25, 0, 0, 0, 0, []), (155, 3, 14, 0, 0, 0, 0, [])]
def p182_158 : List PI := [(158, 1, 38, 0, 0, 0, 0, [])]
def p182 : List (Nat × List PI) := [(0, p182_0), (45, p182_45), (119, p182_119), (123, p182_123), (149, p182_149), (153, p182_153), (154, p182_154), (158, p182_158)]
def p183_0 : List PI := [(0, 1, 1, 1, 0, 0, 0, []), (1, 99, 15, 0, 121, 0, 99, [102, 121, 121, 110, 121, 100, 121, 121, 112, 121, 108, 121, 121, 104, 118, 121, 115, 121, 121, 121, 106])]
def p183_100 : List PI := [(100, 1, 0, 0, 0, 0, 0, []), (101, 1, 39, 0, 0, 0, 0, [])]
def p183_102 : List PI := [(102, 1, 0, 0, 0, 0, 1, []), (103, 1, 39, 0, 0, 0, 0, [])]
def p183_104 : List PI := [(104, 1, 0, 0, 0, 0, 2, []), (105, 1, 39, 0, 0, 0, 0, [])]
def p183_106 : List PI := [(106, 1, 0, 0, 0, 0, 3, []), (107, 1, 39, 0, 0, 0, 0, [])]
def p183_108 : List PI := [(108, 1, 0, 0, 0, 0, 4, []), (109, 1, 39, 0, 0, 0, 0, [])]
def p183_110 : List PI := [(110, 1, 0, 0, 0, 0, 5, []), (111, 1, 39, 0, 0, 0, 0, [])]
def p183_112 : List PI := [(112, 2, 0, 0, 0, 0, 6, []), (114, 1, 39, 0, 0, 0, 0, [])]
def p183_115 : List PI := [(115, 2, 0, 0, 0, 0, 7, []), (117, 1, 39, 0, 0, 0, 0, [])]
def p183_118 : List PI := [(118, 2, 0, 0, 0, 0, 8, []), (120, 1, 39, 0, 0, 0, 0, [])]
def p183_121 : List PI := [(121, 1, 0, 0, 0, 0, -1, []), (122, 1, 39, 0, 0, 0, 0, [])]
def p183 : List (Nat × List PI) := [(0, p183_0), (100, p183_100), (102, p183_102), (104, p183_104), (106, p183_106), (108, p183_108), (110, p183_110), (112, p183_112), (115, p183_115), (118, p183_118), (121, p183_121)]
def p184_0 : List PI := [(0, 1, 2, 0, 0, 0, 0, []), (1, 1, 2, 0, 0, 0, 0, []), (2, 3, 35, 179, 1, 12, 0, [277, 88, 1337, 1339, 55]), (5, 3, 35, 183, 2, 12, 0, [281, 88, 1345, 1347, 57]), (8, 1, 3, 1, 0, 0, 0, []), (9, 1, 1, 1, 0, 0, 0, []), (10, 3, 10, 3, 15, 0, 0, []), (13, 1, 0, 0, 0, 0, 0, []), (14, 1, 40, 0, 0, 0, 0, [])]
def p184_15 : List PI := [(15, 1, 2, 0, 0, 0, 0, []), (16, 1, 32, 0, 0, 0, 0, []), (17, 3, 17, 11, 44, 237, 0, [1178]), (20, 1, 0, 0, 0, 0, 1, []), (21, 1, 6, 0, 0, 0, 0, []), (22, 3, 19, 11, 44, 237, 0, [1178]), (25, 1, 2, 0, 0, 0, 0, []), (26, 3, 35, 179, 1, 12, 0, [277, 88, 1337, 1339, 55]), (29, 1, 3, 2, 0, 0, 0, []), (30, 1, 2, 0, 0, 0, 0, []), (31, 1, 1, 2, 0, 0, 0, []), (32, 2, 0, 0, 0, 0, 60, []), (34, 2, 0, 0, 0, 0, 62, []), (36, 3, 35, 125, 4, 12, 0, [1, 88, 931, 933, 29]), (39, 3, 10, 1, 44, 0, 0, []), (42, 1, 0, 0, 0, 0, 0, []), (43, 1, 40, 0, 0, 0, 0, [])]
def p184_44 : List PI := [(44, 1, 2, 0, 0, 0, 0, []), (45, 1, 32, 0, 0, 0, 0, []), (46, 3, 17, 11, 44, 237, 0, [1178]), (49, 1, 0, 0, 0, 0, 1, []), (50, 1, 6, 0, 0, 0, 0, []), (51, 3, 19, 11, 44, 237, 0, [1178]), (54, 1, 2, 0, 0, 0, 0, []), (55, 3, 35, 180, 1, 12, 0, [284, 88, 1349, 1351, 58]), (58, 3, 10, 1, 63, 0, 0, []), (61, 1, 0, 0, 0, 0, 0, []), (62, 1, 40, 0, 0, 0, 0, [])]
def p184_63 : List PI := [(63, 1, 0, 0, 0, 0, 0, []), (64, 1, 3, 3, 0, 0, 0, []), (65, 1, 0, 0, 0, 0, 0, []), (66, 2, 3, 4, 0, 0, 0, []), (68, 0, 45, 0, 68, 0, 0, [])]
def p184_68 : List PI := [(68, 2, 1, 4, 0, 0, 0, []), (70, 1, 0, 0, 0, 0, 3, []), (71, 3, 11, 3, 110, 0, 0, []), (74, 1, 2, 0, 0, 0, 0, []), (75, 3, 35, 180, 1, 12, 0, [284, 88, 1349, 1351, 58]), (78, 3, 10, 0, 110, 0, 0, []), (81, 2, 0, 0, 0, 0, 10, []), (83, 1, 1, 3, 0, 0, 0, []), (84, 1, 6, 2, 0, 0, 0, []), (85, 1, 2, 0, 0, 0, 0, []), (86, 3, 35, 179, 1, 12, 0, [277, 88, 1337, 1339, 55]), (89, 1, 6, 0, 0, 0, 0, []), (90, 2, 0, 0, 0, 0, 48, []), (92, 1, 6, 1, 0, 0, 0, []), (93, 1, 3, 3, 0, 0, 0, []), (94, 1, 2, 0, 0, 0, 0, []), (95, 1, 32, 0, 0, 0, 0, []), (96, 3, 17, 11, 44, 237, 0, [1178]), (99, 1, 0, 0, 0, 0, 1, []), (100, 1, 6, 0, 0, 0, 0, []), (101, 3, 19, 11, 44, 237, 0, [1178]), (104, 3, 5, 4, 0, 0, 1, []), (107, 3, 14, 0, 68, 0, 0, [])]
def p184_110 : List PI := [(110, 1, 2, 0, 0, 0, 0, []), (111, 1, 1, 2, 0, 0, 0, []), (112, 2, 0, 0, 0, 0, 60, []), (114, 3, 11, 1, 135, 0, 0, []), (117, 1, 2, 0, 0, 0, 0, []), (118, 3, 18, 11, 41, 228, 0, [1175]), (121, 1, 1, 1, 0, 0, 0, []), (122, 1, 22, 0, 0, 0, 0, []), (123, 1, 1, 3, 0, 0, 0, []), (124, 3, 11, 3, 131, 0, 0, []), (127, 1, 0, 0, 0, 0, 1, []), (128, 3, 14, 0, 174, 0, 0, [])]
def p184_131 : List PI := [(131, 1, 0, 0, 0, 0, 0, []), (132, 3, 14, 0, 174, 0, 0, [])]
def p184_135 : List PI := [(135, 1, 1, 2, 0, 0, 0, []), (136, 2, 0, 0, 0, 0, 61, []), (138, 3, 11, 1, 159, 0, 0, []), (141, 1, 2, 0, 0, 0, 0, []), (142, 3, 18, 11, 41, 228, 0, [1175]), (145, 1, 1, 1, 0, 0, 0, []), (146, 1, 22, 0, 0, 0, 0, []), (147, 1, 1, 3, 0, 0, 0, []), (148, 3, 11, 1, 155, 0, 0, []), (151, 1, 0, 0, 0, 0, 1, []), (152, 3, 14, 0, 174, 0, 0, [])]
def p184_155 : List PI := [(155, 1, 0, 0, 0, 0, 0, []), (156, 3, 14, 0, 174, 0, 0, [])]
def p184_159 : List PI := [(159, 1, 2, 0, 0, 0, 0, []), (160, 3, 18, 11, 41, 228, 0, [1175]), (163, 1, 1, 1, 0, 0, 0, []), (164, 1, 22, 0, 0, 0, 0, []), (165, 1, 1, 3, 0, 0, 0, []), (166, 3, 11, 5, 173, 0, 0, []), (169, 1, 0, 0, 0, 0, 1, []), (170, 3, 14, 0, 174, 0, 0, [])]
def p184_173 : List PI := [(173, 1, 0, 0, 0, 0, 0, []), (174, 0, 45, 0, 174, 0, 0, [])]
def p184_174 : List PI := [(174, 3, 36, 181, 2, 12, 0, [288, 88, 1353, 1355, 59]), (177, 1, 0, 0, 0, 0, 1, []), (178, 1, 40, 0, 0, 0, 0, [])]
def p184 : List (Nat × List PI) := [(0, p184_0), (15, p184_15), (44, p184_44), (63, p184_63), (68, p184_68), (110, p184_110), (131, p184_131), (135, p184_135), (155, p184_155), (159, p184_159), (173, p184_173), (174, p184_174)]
def p185_0 : List PI := [(0, 1, 2, 0, 0, 0, 0, []), (1, 2, 0, 0, 0, 0, 80, []), (3, 1, 1, 1, 0, 0, 0, []), (4, 1, 6, 2, 0, 0, 0, []), (5, 3, 19, 11, 42, 231, 0, [1176]), (8, 1, 2, 0, 0, 0, 0, []), (9, 1, 2, 0, 0, 0, 0, []), (10, 3, 18, 11, 40, 225, 0, [1174]), (13, 1, 1, 1, 0, 0, 0, []), (14, 1, 22, 0, 0, 0, 0, []), (15, 3, 19, 11, 43, 234, 0, [1177]), (18, 1, 2, 0, 0, 0, 0, []), (19, 1, 0, 0, 0, 0, 0, []), (20, 3, 19, 11, 44, 237, 0, [1178]), (23, 1, 2, 0, 0, 0, 0, []), (24, 1, 0, 0, 0, 0, 0, []), (25, 3, 19, 11, 47, 247, 0, [1181]), (28, 1, 2, 0, 0, 0, 0, []), (29, 1, 0, 0, 0, 0, 0, []), (30, 3, 19, 11, 48, 250, 0, [1182]), (33, 1, 2, 0, 0, 0, 0, []), (34, 1, 0, 0, 0, 0, 0, []), (35, 3, 19, 11, 49, 253, 0, [1183]), (38, 1, 0, 0, 0, 0, 1, []), (39, 1, 3, 2, 0, 0, 0, []), (40, 0, 45, 0, 40, 0, 0, [])]
def p185_40 : List PI := [(40, 1, 2, 0, 0, 0, 0, []), (41, 3, 17, 11, 44, 237, 0, [1178]), (44, 1, 2, 0, 0, 0, 0, []), (45, 3, 17, 11, 43, 234, 0, [1177]), (48, 3, 11, 3, 268, 0, 0, []), (51, 1, 2, 0, 0, 0, 0, []), (52, 3, 35, 179, 1, 12, 0, [277, 88, 1337, 1339, 55]), (55, 1, 3, 3, 0, 0, 0, []), (56, 1, 1, 2, 0, 0, 0, []), (57, 3, 10, 0, 139, 0, 0, []), (60, 1, 1, 3, 0, 0, 0, []), (61, 2, 0, 0, 0, 0, 33, []), (63, 3, 11, 0, 72, 0, 0, []), (66, 1, 1, 3, 0, 0, 0, []), (67, 2, 0, 0, 0, 0, 40, []), (69, 3, 11, 1, 125, 0, 0, []), (72, 0, 45, 0, 72, 0, 0, [])]
def p185_72 : List PI := [(72, 1, 2, 0, 0, 0, 0, []), (73, 3, 17, 11, 49, 253, 0, [1183]), (76, 1, 0, 0, 0, 0, 4, []), (77, 3, 11, 1, 82, 0, 0, []), (80, 1, 0, 0, 0, 0, 0, []), (81, 1, 40, 0, 0, 0, 0, [])]
def p185_82 : List PI := [(82, 1, 2, 0, 0, 0, 0, []), (83, 1, 32, 0, 0, 0, 0, []), (84, 3, 17, 11, 49, 253, 0, [1183]), (87, 1, 0, 0, 0, 0, 1, []), (88, 1, 6, 0, 0, 0, 0, []), (89, 3, 19, 11, 49, 253, 0, [1183]), (92, 1, 2, 0, 0, 0, 0, []), (93, 3, 18, 11, 45, 240, 0, [1179]), (96, 1, 2, 0, 0, 0, 0, []), (97, 3, 17, 11, 47, 247, 0, [1181]), (100, 1, 1, 3, 0, 0, 0, []), (101, 1, 24, 0, 0, 0, 0, []), (102, 1, 2, 0, 0, 0, 0, []), (103, 1, 32, 0, 0, 0, 0, []), (104, 3, 17, 11, 47, 247, 0, [1181]), (107, 1, 0, 0, 0, 0, 1, []), (108, 1, 6, 0, 0, 0, 0, []), (109, 3, 19, 11, 47, 247, 0, [1181]), (112, 1, 2, 0, 0, 0, 0, []), (113, 1, 32, 0, 0, 0, 0, []), (114, 3, 17, 11, 44, 237, 0, [1178]), (117, 1, 0, 0, 0, 0, 1, []), (118, 1, 6, 0, 0, 0, 0, []), (119, 3, 19, 11, 44, 237, 0, [1178]), (122, 3, 14, 0, 40, 0, 0, [])]
def p185_125 : List PI := [(125, 1, 2, 0, 0, 0, 0, []), (126, 3, 35, 184, 1, 12, 0, [292, 88, 1341, 1343, 56]), (129, 3, 10, 0, 137, 0, 0, []), (132, 1, 0, 0, 0, 0, 0, []), (133, 1, 3, 2, 0, 0, 0, []), (134, 3, 14, 0, 40, 0, 0, [])]
def p185_137 : List PI := [(137, 1, 0, 0, 0, 0, 0, []), (138, 1, 40, 0, 0, 0, 0, [])]
def p185_139 : List PI := [(139, 1, 1, 3, 0, 0, 0, []), (140, 2, 0, 0, 0, 0, 38, []), (142, 3, 11, 0, 151, 0, 0, []), (145, 1, 1, 3, 0, 0, 0, []), (146, 2, 0, 0, 0, 0, 124, []), (148, 3, 11, 1, 191, 0, 0, []), (151, 0, 45, 0, 151, 0, 0, [])]
def p185_151 : List PI := [(151, 1, 2, 0, 0, 0, 0, []), (152, 1, 1, 3, 0, 0, 0, []), (153, 3, 36, 182, 2, 12, 0, [295, 88, 1357, 1359, 60]), (156, 1, 2, 0, 0, 0, 0, []), (157, 3, 18, 11, 45, 240, 0, [1179]), (160, 1, 2, 0, 0, 0, 0, []), (161, 3, 17, 11, 47, 247, 0, [1181]), (164, 1, 1, 3, 0, 0, 0, []), (165, 1, 24, 0, 0, 0, 0, []), (166, 1, 2, 0, 0, 0, 0, []), (167, 1, 32, 0, 0, 0, 0, []), (168, 3, 17, 11, 47, 247, 0, [1181]), (171, 1, 0, 0, 0, 0, 1, []), (172, 1, 6, 0, 0, 0, 0, []), (173, 3, 19, 11, 47, 247, 0, [1181]), (176, 1, 0, 0, 0, 0, 1, []), (177, 1, 3, 2, 0, 0, 0, []), (178, 1, 2, 0, 0, 0, 0, []), (179, 1, 32, 0, 0, 0, 0, []), (180, 3, 17, 11, 44, 237, 0, [1178]), (183, 1, 0, 0, 0, 0, 1, []), (184, 1, 6, 0, 0, 0, 0, []), (185, 3, 19, 11, 44, 237, 0, [1178]), (188, 3, 14, 0, 40, 0, 0, [])]
def p185_191 : List PI := [(191, 1, 2, 0, 0, 0, 0, []), (192, 2, 0, 0, 0, 0, 124, []), (194, 3, 36, 182, 2, 12, 0, [295, 88, 1357, 1359, 60]), (197, 1, 1, 3, 0, 0, 0, []), (198, 2, 0, 0, 0, 0, 41, []), (200, 3, 11, 1, 210, 0, 0, []), (203, 1, 2, 0, 0, 0, 0, []), (204, 3, 17, 11, 47, 247, 0, [1181]), (207, 3, 10, 1, 212, 0, 0, []), (210, 0, 45, 0, 210, 0, 0, [])]
def p185_210 : List PI := [(210, 1, 0, 0, 0, 0, 0, []), (211, 1, 40, 0, 0, 0, 0, [])]
def p185_212 : List PI := [(212, 1, 2, 0, 0, 0, 0, []), (213, 1, 32, 0, 0, 0, 0, []), (214, 3, 17, 11, 47, 247, 0, [1181]), (217, 1, 0, 0, 0, 0, 1, []), (218, 1, 6, 1, 0, 0, 0, []), (219, 3, 19, 11, 47, 247, 0, [1181]), (222, 1, 2, 0, 0, 0, 0, []), (223, 1, 32, 0, 0, 0, 0, []), (224, 3, 17, 11, 49, 253, 0, [1183]), (227, 1, 0, 0, 0, 0, 1, []), (228, 1, 6, 1, 0, 0, 0, []), (229, 3, 19, 11, 49, 253, 0, [1183]), (232, 1, 2, 0, 0, 0, 0, []), (233, 1, 32, 0, 0, 0, 0, []), (234, 3, 17, 11, 48, 250, 0, [1182]), (237, 1, 0, 0, 0, 0, 1, []), (238, 1, 6, 1, 0, 0, 0, []), (239, 3, 19, 11, 48, 250, 0, [1182]), (242, 1, 2, 0, 0, 0, 0, []), (243, 1, 32, 0, 0, 0, 0, []), (244, 3, 17, 11, 44, 237, 0, [1178]), (247, 1, 0, 0, 0, 0, 1, []), (248, 1, 6, 0, 0, 0, 0, []), (249, 3, 19, 11, 44, 237, 0, [1178]), (252, 1, 2, 0, 0, 0, 0, []), (253, 1, 2, 0, 0, 0, 0, []), (254, 3, 18, 11, 46, 243, 0, [1180]), (257, 1, 2, 0, 0, 0, 0, []), (258, 3, 17, 11, 48, 250, 0, [1182]), (261, 1, 22, 1, 0, 0, 0, []), (262, 3, 36, 181, 2, 12, 0, [288, 88, 1353, 1355, 59]), (265, 3, 14, 0, 40, 0, 0, [])]
def p185_268 : List PI := [(268, 1, 1, 2, 0, 0, 0, []), (269, 3, 10, 0, 274, 0, 0, []), (272, 1, 0, 0, 0, 0, 0, []), (273, 1, 40, 0, 0, 0, 0, [])]
def p185_274 : List PI := [(274, 1, 2, 0, 0, 0, 0, []), (275, 2, 0, 0, 0, 0, 124, []), (277, 3, 36, 182, 2, 12, 0, [295, 88, 1357, 1359, 60]), (280, 1, 2, 0, 0, 0, 0, []), (281, 3, 17, 11, 47, 247, 0, [1181]), (284, 3, 10, 1, 291, 0, 0, []), (287, 1, 0, 0, 0, 0, 1, []), (288, 3, 14, 0, 292, 0, 0, [])]
def p185_291 : List PI := [(291, 1, 0, 0, 0, 0, 0, []), (292, 0, 45, 0, 292, 0, 0, [])]
def p185_292 : List PI := [(292, 1, 40, 0, 0, 0, 0, [])]
def p185 : List (Nat × List PI) := [(0, p185_0), (40, p185_40), (72, p185_72), (82, p185_82), (125, p185_125), (137, p185_137), (139, p185_139), (151, p185_151), (191, p185_191), (210, p185_210), (212, p185_212), (268, p185_268), (274, p185_274), (291, p185_291), (292, p185_292)]
def p186_0 : List PI := [(0, 1, 2, 0, 0, 0, 0, []), (1, 1, 1, 1, 0, 0, 0, []), (2, 1, 0, 0, 0, 0, 0, []), (3, 1, 0, 0, 0, 0, 5, []), (4, 3, 35, 125, 4, 12, 0, [1, 88, 931, 933, 29]), (7, 3, 10, 1, 12, 0, 0, []), (10, 1, 0, 0, 0, 0, -1, []), (11, 1, 39, 0, 0, 0, 0, [])]
def p186_12 : List PI := [(12, 1, 2, 0, 0, 0, 0, []), (13, 1, 1, 2, 0, 0, 0, []), (14, 3, 35, 130, 2, 12, 0, [139, 88, 1025, 1027, 37]), (17, 3, 10, 1, 23, 0, 0, []), (20, 2, 0, 0, 0, 0, -2, []), (22, 1, 39, 0, 0, 0, 0, [])]
def p186_23 : List PI := [(23, 1, 2, 0, 0, 0, 0, []), (24, 3, 17, 11, 35, 210, 0, [1169]), (27, 2, 0, 0, 0, 0, 12, []), (29, 3, 11, 1, 35, 0, 0, []), (32, 2, 0, 0, 0, 0, -4, []), (34, 1, 39, 0, 0, 0, 0, [])]
def p186_35 : List PI := [(35, 1, 2, 0, 0, 0, 0, []), (36, 3, 18, 11, 40, 225, 0, [1174]), (39, 2, 0, 0, 0, 0, 12, []), (41, 1, 2, 0, 0, 0, 0, []), (42, 3, 17, 11, 36, 213, 0, [1170]), (45, 1, 24, 0, 0, 0, 0, []), (46, 1, 2, 0, 0, 0, 0, []), (47, 1, 0, 0, 0, 0, 0, []), (48, 3, 19, 11, 36, 213, 0, [1170]), (51, 1, 2, 0, 0, 0, 0, []), (52, 2, 0, 0, 0, 0, 12, []), (54, 3, 35, 185, 2, 12, 0, [298, 88, 1333, 1335, 54]), (57, 3, 10, 1, 68, 0, 0, []), (60, 2, 0, 0, 0, 0, -10, []), (62, 1, 2, 0, 0, 0, 0, []), (63, 3, 17, 11, 44, 237, 0, [1178]), (66, 1, 6, 1, 0, 0, 0, []), (67, 1, 39, 0, 0, 0, 0, [])]
def p186_68 : List PI := [(68, 1, 2, 0, 0, 0, 0, []), (69, 3, 18, 11, 40, 225, 0, [1174]), (72, 1, 2, 0, 0, 0, 0, []), (73, 3, 17, 11, 35, 210, 0, [1169]), (76, 1, 2, 0, 0, 0, 0, []), (77, 3, 18, 11, 40, 225, 0, [1174]), (80, 2, 0, 0, 0, 0, 12, []), (82, 1, 22, 0, 0, 0, 0, []), (83, 1, 24, 0, 0, 0, 0, []), (84, 1, 0, 0, 0, 0, 0, []), (85, 1, 3, 3, 0, 0, 0, []), (86, 0, 45, 0, 86, 0, 0, [])]
def p186_86 : List PI := [(86, 1, 1, 3, 0, 0, 0, []), (87, 1, 2, 0, 0, 0, 0, []), (88, 3, 18, 11, 40, 225, 0, [1174]), (91, 2, 0, 0, 0, 0, 12, []), (93, 1, 22, 0, 0, 0, 0, []), (94, 3, 11, 3, 127, 0, 0, []), (97, 1, 2, 0, 0, 0, 0, []), (98, 3, 18, 11, 39, 222, 0, [1173]), (101, 2, 0, 0, 0, 0, 80, []), (103, 1, 2, 0, 0, 0, 0, []), (104, 3, 17, 11, 35, 210, 0, [1169]), (107, 1, 6, 2, 0, 0, 0, []), (108, 1, 1, 3, 0, 0, 0, []), (109, 1, 6, 0, 0, 0, 0, []), (110, 1, 2, 0, 0, 0, 0, []), (111, 3, 18, 11, 39, 222, 0, [1173]), (114, 3, 0, 0, 0, 0, 960, []), (117, 1, 1, 3, 0, 0, 0, []), (118, 1, 6, 0, 0, 0, 0, []), (119, 1, 22, 0, 0, 0, 0, []), (120, 1, 24, 0, 0, 0, 0, []), (121, 3, 5, 3, 0, 0, 1, []), (124, 3, 14, 0, 86, 0, 0, [])]
def p186_127 : List PI := [(127, 1, 2, 0, 0, 0, 0, []), (128, 3, 18, 11, 37, 216, 0, [1171]), (131, 1, 2, 0, 0, 0, 0, []), (132, 3, 17, 11, 35, 210, 0, [1169]), (135, 1, 1, 1, 0, 0, 0, []), (136, 1, 24, 0, 0, 0, 0, []), (137, 1, 2, 0, 0, 0, 0, []), (138, 3, 18, 11, 38, 219, 0, [1172]), (141, 1, 2, 0, 0, 0, 0, []), (142, 3, 17, 11, 35, 210, 0, [1169]), (145, 1, 1, 2, 0, 0, 0, []), (146, 1, 24, 0, 0, 0, 0, []), (147, 1, 2, 0, 0, 0, 0, []), (148, 1, 32, 0, 0, 0, 0, []), (149, 3, 17, 11, 35, 210, 0, [1169]), (152, 1, 0, 0, 0, 0, 1, []), (153, 1, 6, 0, 0, 0, 0, []), (154, 3, 19, 11, 35, 210, 0, [1169]), (157, 1, 2, 0, 0, 0, 0, []), (158, 3, 17, 11, 35, 210, 0, [1169]), (161, 1, 0, 0, 0, 0, 1, []), (162, 1, 6, 1, 0, 0, 0, []), (163, 1, 39, 0, 0, 0, 0, [])]
def p186 : List (Nat × List PI) := [(0, p186_0), (12, p186_12), (23, p186_23), (35, p186_35), (68, p186_68), (86, p186_86), (127, p186_127)]
def p187_0 : List PI := [(0, 1, 0, 0, 0, 0, 0, []), (1, 2, 3, 4, 0, 0, 0, []), (3, 1, 0, 0, 0, 0, 0, []), (4, 2, 3, 5, 0, 0, 0, []), (6, 0, 45, 0, 6, 0, 0, [])]
def p187_6 : List PI := [(6, 2, 1, 5, 0, 0, 0, []), (8, 1, 2, 0, 0, 0, 0, []), (9, 3, 17, 11, 18, 71, 0, [1152]), (12, 3, 11, 3, 116, 0, 0, []), (15, 1, 2, 0, 0, 0, 0, []), (16, 3, 18, 11, 20, 77, 0, [1154]), (19, 2, 1, 5, 0, 0, 0, []), (21, 1, 22, 0, 0, 0, 0, []), (22, 1, 1, 1, 0, 0, 0, []), (23, 3, 11, 1, 110, 0, 0, []), (26, 1, 2, 0, 0, 0, 0, []), (27, 3, 18, 11, 22, 83, 0, [1156]), (30, 2, 1, 5, 0, 0, 0, []), (32, 1, 22, 0, 0, 0, 0, []), (33, 1, 1, 3, 0, 0, 0, []), (34, 3, 11, 4, 110, 0, 0, []), (37, 1, 1, 2, 0, 0, 0, []), (38, 1, 0, 0, 0, 0, 2, []), (39, 3, 11, 1, 54, 0, 0, []), (42, 1, 2, 0, 0, 0, 0, []), (43, 2, 1, 5, 0, 0, 0, []), (45, 3, 35, 159, 2, 12, 0, [158, 88, 1077, 1079, 46]), (48, 3, 10, 1, 68, 0, 0, []), (51, 3, 14, 0, 110, 0, 0, [])]
def p187_54 : List PI := [(54, 1, 2, 0, 0, 0, 0, []), (55, 3, 18, 11, 19, 74, 0, [1153]), (58, 2, 1, 5, 0, 0, 0, []), (60, 1, 22, 0, 0, 0, 0, []), (61, 1, 1, 2, 0, 0, 0, []), (62, 3, 11, 0, 68, 0, 0, []), (65, 3, 14, 0, 110, 0, 0, [])]
def p187_68 : List PI := [(68, 1, 2, 0, 0, 0, 0, []), (69, 1, 1, 1, 0, 0, 0, []), (70, 1, 0, 0, 0, 0, 0, []), (71, 1, 0, 0, 0, 0, 0, []), (72, 1, 2, 0, 0, 0, 0, []), (73, 3, 18, 11, 21, 80, 0, [1155]), (76, 2, 1, 5, 0, 0, 0, []), (78, 1, 22, 0, 0, 0, 0, []), (79, 3, 36, 170, 5, 12, 0, [190, 88, 1121, 1123, 52]), (82, 2, 1, 4, 0, 0, 0, []), (84, 1, 2, 0, 0, 0, 0, []), (85, 2, 1, 5, 0, 0, 0, []), (87, 1, 2, 0, 0, 0, 0, []), (88, 3, 17, 11, 31, 184, 0, [1165]), (91, 1, 2, 0, 0, 0, 0, []), (92, 3, 17, 11, 32, 187, 0, [1166]), (95, 1, 1, 3, 0, 0, 0, []), (96, 3, 35, 161, 5, 12, 0, [164, 88, 1073, 1075, 45]), (99, 3, 10, 0, 106, 0, 0, []), (102, 1, 0, 0, 0, 0, 1, []), (103, 3, 14, 0, 107, 0, 0, [])]
def p187_106 : List PI := [(106, 1, 0, 0, 0, 0, 0, []), (107, 0, 45, 0, 107, 0, 0, [])]
def p187_107 : List PI := [(107, 1, 6, 0, 0, 0, 0, []), (108, 2, 3, 4, 0, 0, 0, []), (110, 0, 45, 0, 110, 0, 0, [])]
def p187_110 : List PI := [(110, 3, 5, 5, 0, 0, 1, []), (113, 3, 14, 0, 6, 0, 0, [])]
def p187_116 : List PI := [(116, 2, 1, 4, 0, 0, 0, []), (118, 1, 39, 0, 0, 0, 0, [])]
def p187 : List (Nat × List PI) := [(0, p187_0), (6, p187_6), (54, p187_54), (68, p187_68), (106, p187_106), (107, p187_107), (110, p187_110), (116, p187_116)]
def p188_0 : List PI := [(0, 1, 2, 0, 0, 0, 0, []), (1, 3, 18, 11, 41, 228, 0, [1175]), (4, 1, 0, 0, 0, 0, 5, []), (5, 1, 2, 0, 0, 0, 0, []), (6, 1, 1, 1, 0, 0, 0, []), (7, 1, 0, 0, 0, 0, 0, []), (8, 1, 0, 0, 0, 0, 0, []), (9, 1, 1, 2, 0, 0, 0, []), (10, 3, 35, 171, 5, 12, 0, [194, 88, 1117, 1119, 51]), (13, 1, 24, 0, 0, 0, 0, []), (14, 1, 2, 0, 0, 0, 0, []), (15, 3, 18, 11, 41, 228, 0, [1175]), (18, 1, 0, 0, 0, 0, 0, []), (19, 1, 2, 0, 0, 0, 0, []), (20, 1, 1, 1, 0, 0, 0, []), (21, 1, 0, 0, 0, 0, 2, []), (22, 1, 1, 2, 0, 0, 0, []), (23, 3, 35, 187, 4, 12, 0, [301, 88, 1369, 1371, 62]), (26, 1, 24, 0, 0, 0, 0, []), (27, 1, 2, 0, 0, 0, 0, []), (28, 3, 18, 11, 41, 228, 0, [1175]), (31, 1, 0, 0, 0, 0, 1, []), (32, 1, 2, 0, 0, 0, 0, []), (33, 1, 1, 1, 0, 0, 0, []), (34, 1, 0, 0, 0, 0, 3, []), (35, 1, 1, 2, 0, 0, 0, []), (36, 3, 35, 187, 4, 12, 0, [301, 88, 1369, 1371, 62]), (39, 1, 24, 0, 0, 0, 0, []), (40, 1, 2, 0, 0, 0, 0, []), (41, 3, 18, 11, 41, 228, 0, [1175]), (44, 1, 0, 0, 0, 0, 2, []), (45, 1, 2, 0, 0, 0, 0, []), (46, 1, 1, 1, 0, 0, 0, []), (47, 1, 0, 0, 0, 0, 4, []), (48, 1, 1, 2, 0, 0, 0, []), (49, 3, 35, 187, 4, 12, 0, [301, 88, 1369, 1371, 62]), (52, 1, 24, 0, 0, 0, 0, []), (53, 1, 2, 0, 0, 0, 0, []), (54, 3, 18, 11, 41, 228, 0, [1175]), (57, 1, 0, 0, 0, 0, 3, []), (58, 1, 2, 0, 0, 0, 0, []), (59, 1, 1, 1, 0, 0, 0, []), (60, 1, 0, 0, 0, 0, 5, []), (61, 1, 1, 2, 0, 0, 0, []), (62, 3, 35, 187, 4, 12, 0, [301, 88, 1369, 1371, 62]), (65, 1, 24, 0, 0, 0, 0, []), (66, 1, 2, 0, 0, 0, 0, []), (67, 3, 18, 11, 41, 228, 0, [1175]), (70, 1, 0, 0, 0, 0, 4, []), (71, 1, 0, 0, 0, 0, 0, []), (72, 1, 24, 0, 0, 0, 0, []), (73, 1, 0, 0, 0, 0, 0, []), (74, 1, 3, 3, 0, 0, 0, []), (75, 0, 45, 0, 75, 0, 0, [])]
def p188_75 : List PI := [(75, 1, 1, 3, 0, 0, 0, []), (76, 1, 2, 0, 0, 0, 0, []), (77, 3, 17, 11, 18, 71, 0, [1152]), (80, 3, 11, 3, 141, 0, 0, []), (83, 1, 2, 0, 0, 0, 0, []), (84, 3, 18, 11, 41, 228, 0, [1175]), (87, 1, 0, 0, 0, 0, 4, []), (88, 1, 33, 0, 0, 0, 0, []), (89, 1, 22, 0, 0, 0, 0, []), (90, 1, 2, 0, 0, 0, 0, []), (91, 3, 18, 11, 20, 77, 0, [1154]), (94, 1, 1, 3, 0, 0, 0, []), (95, 1, 22, 0, 0, 0, 0, []), (96, 1, 1, 1, 0, 0, 0, []), (97, 3, 11, 1, 132, 0, 0, []), (100, 1, 2, 0, 0, 0, 0, []), (101, 3, 18, 11, 19, 74, 0, [1153]), (104, 1, 1, 3, 0, 0, 0, []), (105, 1, 22, 0, 0, 0, 0, []), (106, 1, 0, 0, 0, 0, 1, []), (107, 3, 11, 1, 132, 0, 0, []), (110, 1, 2, 0, 0, 0, 0, []), (111, 3, 18, 11, 22, 83, 0, [1156]), (114, 1, 1, 3, 0, 0, 0, []), (115, 1, 22, 0, 0, 0, 0, []), (116, 1, 1, 2, 0, 0, 0, []), (117, 3, 11, 4, 132, 0, 0, []), (120, 1, 2, 0, 0, 0, 0, []), (121, 1, 1, 3, 0, 0, 0, []), (122, 3, 35, 155, 2, 12, 0, [149, 88, 1053, 1055, 42]), (125, 3, 10, 5, 132, 0, 0, []), (128, 1, 0, 0, 0, 0, 1, []), (129, 3, 14, 0, 133, 0, 0, [])]
def p188_132 : List PI := [(132, 1, 0, 0, 0, 0, 0, []), (133, 0, 45, 0, 133, 0, 0, [])]
def p188_133 : List PI := [(133, 1, 6, 0, 0, 0, 0, []), (134, 1, 24, 0, 0, 0, 0, []), (135, 3, 5, 3, 0, 0, 1, []), (138, 3, 14, 0, 75, 0, 0, [])]
def p188_141 : List PI := [(141, 1, 2, 0, 0, 0, 0, []), (142, 3, 18, 11, 41, 228, 0, [1175]), (145, 2, 0, 0, 0, 0, 6, []), (147, 1, 2, 0, 0, 0, 0, []), (148, 1, 1, 1, 0, 0, 0, []), (149, 1, 0, 0, 0, 0, 1, []), (150, 1, 1, 2, 0, 0, 0, []), (151, 3, 35, 176, 4, 12, 0, [274, 88, 1321, 1323, 53]), (154, 1, 24, 0, 0, 0, 0, []), (155, 1, 2, 0, 0, 0, 0, []), (156, 3, 18, 11, 41, 228, 0, [1175]), (159, 2, 0, 0, 0, 0, 7, []), (161, 1, 0, 0, 0, 0, 0, []), (162, 1, 24, 0, 0, 0, 0, []), (163, 1, 0, 0, 0, 0, 0, []), (164, 1, 3, 3, 0, 0, 0, []), (165, 0, 45, 0, 165, 0, 0, [])]
def p188_165 : List PI := [(165, 1, 1, 3, 0, 0, 0, []), (166, 1, 2, 0, 0, 0, 0, []), (167, 3, 17, 11, 1, 31, 0, [1135]), (170, 3, 11, 3, 213, 0, 0, []), (173, 1, 2, 0, 0, 0, 0, []), (174, 3, 18, 11, 41, 228, 0, [1175]), (177, 2, 0, 0, 0, 0, 7, []), (179, 1, 33, 0, 0, 0, 0, []), (180, 1, 22, 0, 0, 0, 0, []), (181, 1, 2, 0, 0, 0, 0, []), (182, 3, 18, 11, 10, 43, 0, [1144]), (185, 1, 1, 1, 0, 0, 0, []), (186, 1, 22, 0, 0, 0, 0, []), (187, 1, 1, 3, 0, 0, 0, []), (188, 1, 6, 7, 0, 0, 0, []), (189, 1, 0, 0, 0, 0, 1, []), (190, 1, 6, 3, 0, 0, 0, []), (191, 1, 0, 0, 0, 0, 1, []), (192, 3, 11, 1, 204, 0, 0, []), (195, 1, 2, 0, 0, 0, 0, []), (196, 3, 18, 11, 9, 37, 0, [1143]), (199, 1, 1, 3, 0, 0, 0, []), (200, 1, 22, 0, 0, 0, 0, []), (201, 3, 14, 0, 205, 0, 0, [])]
def p188_204 : List PI := [(204, 1, 0, 0, 0, 0, 0, []), (205, 0, 45, 0, 205, 0, 0, [])]
def p188_205 : List PI := [(205, 1, 6, 0, 0, 0, 0, []), (206, 1, 24, 0, 0, 0, 0, []), (207, 3, 5, 3, 0, 0, 1, []), (210, 3, 14, 0, 165, 0, 0, [])]
def p188_213 : List PI := [(213, 1, 2, 0, 0, 0, 0, []), (214, 3, 18, 11, 41, 228, 0, [1175]), (217, 2, 0, 0, 0, 0, 8, []), (219, 1, 2, 0, 0, 0, 0, []), (220, 1, 1, 1, 0, 0, 0, []), (221, 1, 1, 2, 0, 0, 0, []), (222, 3, 35, 163, 3, 12, 0, [168, 88, 1089, 1091, 48]), (225, 3, 10, 2, 232, 0, 0, []), (228, 1, 0, 0, 0, 0, 1, []), (229, 3, 14, 0, 233, 0, 0, [])]
def p188_232 : List PI := [(232, 1, 0, 0, 0, 0, 0, []), (233, 0, 45, 0, 233, 0, 0, [])]
def p188_233 : List PI := [(233, 1, 24, 0, 0, 0, 0, []), (234, 1, 38, 0, 0, 0, 0, [])]
def p188 : List (Nat × List PI) := [(0, p188_0), (75, p188_75), (132, p188_132), (133, p188_133), (141, p188_141), (165, p188_165), (204, p188_204), (205, p188_205), (213, p188_213), (232, p188_232), (233, p188_233)]
def p189_0 : List PI := [(0, 1, 2, 0, 0, 0, 0, []), (1, 1, 1, 1, 0, 0, 0, []), (2, 1, 0, 0, 0, 0, 0, []), (3, 1, 0, 0, 0, 0, 5, []), (4, 3, 35, 125, 4, 12, 0, [1, 88, 931, 933, 29]), (7, 3, 10, 0, 26, 0, 0, []), (10, 1, 2, 0, 0, 0, 0, []), (11, 1, 1, 2, 0, 0, 0, []), (12, 3, 35, 128, 2, 12, 0, [40, 88, 960, 962, 31]), (15, 3, 10, 0, 26, 0, 0, []), (18, 1, 2, 0, 0, 0, 0, []), (19, 1, 1, 3, 0, 0, 0, []), (20, 3, 35, 130, 2, 12, 0, [139, 88, 1025, 1027, 37]), (23, 3, 10, 1, 28, 0, 0, []), (26, 0, 45, 0, 26, 0, 0, [])]
def p189_26 : List PI := [(26, 1, 0, 0, 0, 0, -1, []), (27, 1, 39, 0, 0, 0, 0, [])]
def p189_28 : List PI := [(28, 1, 0, 0, 0, 0, -1, []), (29, 2, 3, 4, 0, 0, 0, []), (31, 1, 0, 0, 0, 0, 0, []), (32, 2, 3, 5, 0, 0, 0, []), (34, 0, 45, 0, 34, 0, 0, [])]
def p189_34 : List PI := [(34, 2, 1, 5, 0, 0, 0, []), (36, 1, 2, 0, 0, 0, 0, []), (37, 3, 17, 11, 35, 210, 0, [1169]), (40, 3, 11, 3, 97, 0, 0, []), (43, 1, 2, 0, 0, 0, 0, []), (44, 3, 18, 11, 37, 216, 0, [1171]), (47, 2, 1, 5, 0, 0, 0, []), (49, 1, 22, 0, 0, 0, 0, []), (50, 1, 1, 1, 0, 0, 0, []), (51, 3, 11, 1, 91, 0, 0, []), (54, 1, 2, 0, 0, 0, 0, []), (55, 3, 18, 11, 38, 219, 0, [1172]), (58, 2, 1, 5, 0, 0, 0, []), (60, 1, 22, 0, 0, 0, 0, []), (61, 1, 1, 3, 0, 0, 0, []), (62, 3, 11, 4, 91, 0, 0, []), (65, 2, 1, 4, 0, 0, 0, []), (67, 3, 10, 2, 87, 0, 0, []), (70, 1, 2, 0, 0, 0, 0, []), (71, 3, 18, 11, 38, 219, 0, [1172]), (74, 2, 1, 5, 0, 0, 0, []), (76, 1, 22, 0, 0, 0, 0, []), (77, 1, 2, 0, 0, 0, 0, []), (78, 3, 18, 11, 38, 219, 0, [1172]), (81, 2, 1, 4, 0, 0, 0, []), (83, 1, 22, 0, 0, 0, 0, []), (84, 3, 11, 2, 91, 0, 0, []), (87, 0, 45, 0, 87, 0, 0, [])]
def p189_87 : List PI := [(87, 2, 1, 5, 0, 0, 0, []), (89, 2, 3, 4, 0, 0, 0, []), (91, 0, 45, 0, 91, 0, 0, [])]
def p189_91 : List PI := [(91, 3, 5, 5, 0, 0, 1, []), (94, 3, 14, 0, 34, 0, 0, [])]
def p189_97 : List PI := [(97, 2, 1, 4, 0, 0, 0, []), (99, 3, 10, 2, 111, 0, 0, []), (102, 1, 2, 0, 0, 0, 0, []), (103, 3, 18, 11, 17, 62, 0, [1151]), (106, 1, 1, 2, 0, 0, 0, []), (107, 1, 22, 0, 0, 0, 0, []), (108, 3, 10, 3, 114, 0, 0, []), (111, 0, 45, 0, 111, 0, 0, [])]
def p189_111 : List PI := [(111, 2, 0, 0, 0, 0, -5, []), (113, 1, 39, 0, 0, 0, 0, [])]
def p189_114 : List PI := [(114, 1, 2, 0, 0, 0, 0, []), (115, 1, 1, 2, 0, 0, 0, []), (116, 1, 1, 3, 0, 0, 0, []), (117, 3, 36, 188, 3, 12, 0, [304, 88, 1365, 1367, 61]), (120, 1, 2, 0, 0, 0, 0, []), (121, 2, 1, 4, 0, 0, 0, []), (123, 3, 35, 185, 2, 12, 0, [298, 88, 1333, 1335, 54]), (126, 3, 10, 0, 142, 0, 0, []), (129, 1, 2, 0, 0, 0, 0, []), (130, 3, 18, 11, 46, 243, 0, [1180]), (133, 1, 0, 0, 0, 0, 0, []), (134, 1, 22, 1, 0, 0, 0, []), (135, 3, 10, 0, 142, 0, 0, []), (138, 1, 0, 0, 0, 0, 1, []), (139, 3, 14, 0, 143, 0, 0, [])]
def p189_142 : List PI := [(142, 1, 0, 0, 0, 0, 0, []), (143, 0, 45, 0, 143, 0, 0, [])]
def p189_143 : List PI := [(143, 1, 39, 0, 0, 0, 0, [])]
def p189 : List (Nat × List PI) := [(0, p189_0), (26, p189_26), (28, p189_28), (34, p189_34), (87, p189_87), (91, p189_91), (97, p189_97), (111, p189_111), (114, p189_114), (142, p189_142), (143, p189_143)]
def p190_0 : List PI := [(0, 1, 2, 0, 0, 0, 0, []), (1, 1, 1, 1, 0, 0, 0, []), (2, 1, 0, 0, 0, 0, 0, []), (3, 3, 0, 0, 0, 0, 4095, []), (6, 3, 35, 125, 4, 12, 0, [1, 88, 931, 933, 29]), (9, 3, 10, 1, 15, 0, 0, []), (12, 2, 0, 0, 0, 0, -2, []), (14, 1, 39, 0, 0, 0, 0, [])]
def p190_15 : List PI := [(15, 1, 2, 0, 0, 0, 0, []), (16, 3, 17, 11, 50, 256, 0, [1184]), (19, 2, 0, 0, 0, 0, 8, []), (21, 3, 11, 1, 27, 0, 0, []), (24, 2, 0, 0, 0, 0, -4, []), (26, 1, 39, 0, 0, 0, 0, [])]
def p190_27 : List PI := [(27, 1, 2, 0, 0, 0, 0, []), (28, 3, 18, 11, 51, 259, 0, [1185]), (31, 1, 2, 0, 0, 0, 0, []), (32, 3, 17, 11, 50, 256, 0, [1184]), (35, 1, 1, 1, 0, 0, 0, []), (36, 1, 24, 0, 0, 0, 0, []), (37, 1, 2, 0, 0, 0, 0, []), (38, 1, 32, 0, 0, 0, 0, []), (39, 3, 17, 11, 50, 256, 0, [1184]), (42, 1, 0, 0, 0, 0, 1, []), (43, 1, 6, 0, 0, 0, 0, []), (44, 3, 19, 11, 50, 256, 0, [1184]), (47, 1, 2, 0, 0, 0, 0, []), (48, 3, 17, 11, 50, 256, 0, [1184]), (51, 1, 0, 0, 0, 0, 1, []), (52, 1, 6, 1, 0, 0, 0, []), (53, 1, 39, 0, 0, 0, 0, [])]
def p190 : List (Nat × List PI) := [(0, p190_0), (15, p190_15), (27, p190_27)]
def p191_0 : List PI := [(0, 1, 0, 0, 0, 0, 0, []), (1, 2, 3, 4, 0, 0, 0, []), (3, 1, 0, 0, 0, 0, 0, []), (4, 2, 3, 5, 0, 0, 0, []), (6, 0, 45, 0, 6, 0, 0, [])]
def p191_6 : List PI := [(6, 2, 1, 5, 0, 0, 0, []), (8, 2, 0, 0, 0, 0, 6, []), (10, 3, 11, 3, 55, 0, 0, []), (13, 1, 1, 2, 0, 0, 0, []), (14, 2, 1, 5, 0, 0, 0, []), (16, 1, 6, 7, 0, 0, 0, []), (17, 1, 0, 0, 0, 0, 1, []), (18, 1, 6, 3, 0, 0, 0, []), (19, 1, 0, 0, 0, 0, 1, []), (20, 3, 11, 1, 49, 0, 0, []), (23, 1, 2, 0, 0, 0, 0, []), (24, 3, 18, 11, 51, 259, 0, [1185]), (27, 1, 1, 1, 0, 0, 0, []), (28, 1, 22, 0, 0, 0, 0, []), (29, 1, 0, 0, 0, 0, 2, []), (30, 2, 1, 5, 0, 0, 0, []), (32, 1, 6, 2, 0, 0, 0, []), (33, 1, 6, 7, 0, 0, 0, []), (34, 1, 0, 0, 0, 0, 3, []), (35, 1, 6, 3, 0, 0, 0, []), (36, 1, 1, 3, 0, 0, 0, []), (37, 3, 11, 1, 49, 0, 0, []), (40, 2, 1, 4, 0, 0, 0, []), (42, 1, 0, 0, 0, 0, 1, []), (43, 2, 1, 5, 0, 0, 0, []), (45, 1, 6, 6, 0, 0, 0, []), (46, 1, 6, 4, 0, 0, 0, []), (47, 2, 3, 4, 0, 0, 0, []), (49, 0, 45, 0, 49, 0, 0, [])]
def p191_49 : List PI := [(49, 3, 5, 5, 0, 0, 1, []), (52, 3, 14, 0, 6, 0, 0, [])]
def p191_55 : List PI := [(55, 2, 1, 4, 0, 0, 0, []), (57, 1, 39, 0, 0, 0, 0, [])]
def p191 : List (Nat × List PI) := [(0, p191_0), (6, p191_6), (49, p191_49), (55, p191_55)]
def p192_0 : List PI := [(0, 1, 0, 0, 0, 0, 0, []), (1, 1, 3, 2, 0, 0, 0, []), (2, 1, 1, 1, 0, 0, 0, []), (3, 1, 3, 3, 0, 0, 0, []), (4, 0, 45, 0, 4, 0, 0, [])]
def p192_4 : List PI := [(4, 1, 1, 3, 0, 0, 0, []), (5, 3, 10, 0, 20, 0, 0, []), (8, 3, 5, 2, 0, 0, 1, []), (11, 1, 1, 3, 0, 0, 0, []), (12, 1, 1, 3, 0, 0, 0, []), (13, 1, 0, 0, 0, 0, 1, []), (14, 1, 6, 1, 0, 0, 0, []), (15, 1, 6, 3, 0, 0, 0, []), (16, 1, 3, 3, 0, 0, 0, []), (17, 3, 14, 0, 4, 0, 0, [])]
def p192_20 : List PI := [(20, 1, 1, 2, 0, 0, 0, []), (21, 1, 39, 0, 0, 0, 0, [])]
def p192 : List (Nat × List PI) := [(0, p192_0), (4, p192_4), (20, p192_20)]
def p193_0 : List PI := [(0, 1, 0, 0, 0, 0, 0, []), (1, 1, 3, 3, 0, 0, 0, []), (2, 1, 0, 0, 0, 0, 0, []), (3, 2, 3, 4, 0, 0, 0, []), (5, 0, 45, 0, 5, 0, 0, [])]
def p193_5 : List PI := [(5, 2, 1, 4, 0, 0, 0, []), (7, 1, 0, 0, 0, 0, 4, []), (8, 3, 11, 3, 50, 0, 0, []), (11, 1, 2, 0, 0, 0, 0, []), (12, 1, 2, 0, 0, 0, 0, []), (13, 1, 1, 1, 0, 0, 0, []), (14, 1, 1, 2, 0, 0, 0, []), (15, 2, 1, 4, 0, 0, 0, []), (17, 3, 35, 191, 4, 12, 0, [307, 88, 1389, 1391, 65]), (20, 3, 35, 192, 2, 12, 0, [310, 88, 1393, 1395, 66]), (23, 1, 1, 3, 0, 0, 0, []), (24, 3, 11, 5, 42, 0, 0, []), (27, 1, 2, 0, 0, 0, 0, []), (28, 1, 2, 0, 0, 0, 0, []), (29, 1, 1, 1, 0, 0, 0, []), (30, 1, 1, 2, 0, 0, 0, []), (31, 2, 1, 4, 0, 0, 0, []), (33, 3, 35, 191, 4, 12, 0, [307, 88, 1389, 1391, 65]), (36, 3, 35, 192, 2, 12, 0, [310, 88, 1393, 1395, 66]), (39, 3, 14, 0, 43, 0, 0, [])]
def p193_42 : List PI := [(42, 1, 1, 3, 0, 0, 0, []), (43, 0, 45, 0, 43, 0, 0, [])]
def p193_43 : List PI := [(43, 1, 3, 3, 0, 0, 0, []), (44, 3, 5, 4, 0, 0, 1, []), (47, 3, 14, 0, 5, 0, 0, [])]
def p193_50 : List PI := [(50, 1, 1, 3, 0, 0, 0, []), (51, 1, 39, 0, 0, 0, 0, [])]
def p193 : List (Nat × List PI) := [(0, p193_0), (5, p193_5), (42, p193_42), (43, p193_43), (50, p193_50)]
def p194_0 : List PI := [(0, 1, 2, 0, 0, 0, 0, []), (1, 1, 1, 1, 0, 0, 0, []), (2, 1, 0, 0, 0, 0, 1, []), (3, 2, 0, 0, 0, 0, 63, []), (5, 3, 35, 125, 4, 12, 0, [1, 88, 931, 933, 29]), (8, 1, 40, 0, 0, 0, 0, [])]
def p194 : List (Nat × List PI) := [(0, p194_0)]
def p195_0 : List PI := [(0, 1, 2, 0, 0, 0, 0, []), (1, 1, 1, 1, 0, 0, 0, []), (2, 1, 0, 0, 0, 0, 0, []), (3, 1, 2, 0, 0, 0, 0, []), (4, 3, 17, 11, 50, 256, 0, [1184]), (7, 1, 0, 0, 0, 0, 1, []), (8, 1, 6, 1, 0, 0, 0, []), (9, 3, 35, 125, 4, 12, 0, [1, 88, 931, 933, 29]), (12, 3, 10, 1, 19, 0, 0, []), (15, 1, 0, 0, 0, 0, -1, []), (16, 3, 14, 0, 38, 0, 0, [])]
def p195_19 : List PI := [(19, 1, 2, 0, 0, 0, 0, []), (20, 1, 1, 2, 0, 0, 0, []), (21, 3, 35, 194, 2, 12, 0, [313, 88, 1381, 1383, 63]), (24, 3, 10, 0, 36, 0, 0, []), (27, 1, 2, 0, 0, 0, 0, []), (28, 1, 1, 1, 0, 0, 0, []), (29, 1, 1, 2, 0, 0, 0, []), (30, 3, 35, 193, 3, 12, 0, [316, 88, 1385, 1387, 64]), (33, 3, 14, 0, 38, 0, 0, [])]
def p195_36 : List PI := [(36, 2, 0, 0, 0, 0, -2, []), (38, 0, 45, 0, 38, 0, 0, [])]
def p195_38 : List PI := [(38, 1, 39, 0, 0, 0, 0, [])]
def p195 : List (Nat × List PI) := [(0, p195_0), (19, p195_19), (36, p195_36), (38, p195_38)]
def p196_0 : List PI := [(0, 1, 2, 0, 0, 0, 0, []), (1, 1, 1, 1, 0, 0, 0, []), (2, 3, 35, 194, 2, 12, 0, [313, 88, 1381, 1383, 63]), (5, 3, 10, 1, 11, 0, 0, []), (8, 2, 0, 0, 0, 0, -2, []), (10, 1, 39, 0, 0, 0, 0, [])]
def p196_11 : List PI := [(11, 1, 2, 0, 0, 0, 0, []), (12, 3, 17, 11, 50, 256, 0, [1184]), (15, 3, 10, 1, 21, 0, 0, []), (18, 2, 0, 0, 0, 0, -3, []), (20, 1, 39, 0, 0, 0, 0, [])]
def p196_21 : List PI := [(21, 1, 0, 0, 0, 0, 0, []), (22, 1, 3, 2, 0, 0, 0, []), (23, 1, 0, 0, 0, 0, 1, []), (24, 1, 3, 3, 0, 0, 0, []), (25, 0, 45, 0, 25, 0, 0, [])]
def p196_25 : List PI := [(25, 1, 1, 3, 0, 0, 0, []), (26, 1, 2, 0, 0, 0, 0, []), (27, 3, 17, 11, 50, 256, 0, [1184]), (30, 3, 11, 3, 56, 0, 0, []), (33, 1, 2, 0, 0, 0, 0, []), (34, 1, 1, 3, 0, 0, 0, []), (35, 1, 1, 1, 0, 0, 0, []), (36, 3, 35, 193, 3, 12, 0, [316, 88, 1385, 1387, 64]), (39, 1, 2, 0, 0, 0, 0, []), (40, 1, 1, 2, 0, 0, 0, []), (41, 1, 1, 1, 0, 0, 0, []), (42, 3, 35, 193, 3, 12, 0, [316, 88, 1385, 1387, 64]), (45, 3, 11, 3, 50, 0, 0, []), (48, 1, 1, 3, 0, 0, 0, []), (49, 1, 3, 2, 0, 0, 0, []), (50, 0, 45, 0, 50, 0, 0, [])]
def p196_50 : List PI := [(50, 3, 5, 3, 0, 0, 1, []), (53, 3, 14, 0, 25, 0, 0, [])]
def p196_56 : List PI := [(56, 1, 1, 2, 0, 0, 0, []), (57, 1, 39, 0, 0, 0, 0, [])]
def p196 : List (Nat × List PI) := [(0, p196_0), (11, p196_11), (21, p196_21), (25, p196_25), (50, p196_50), (56, p196_56)]
def p197_0 : List PI := [(0, 1, 2, 0, 0, 0, 0, []), (1, 1, 1, 1, 0, 0, 0, []), (2, 3, 35, 194, 2, 12, 0, [313, 88, 1381, 1383, 63]), (5, 3, 10, 0, 18, 0, 0, []), (8, 1, 2, 0, 0, 0, 0, []), (9, 1, 1, 2, 0, 0, 0, []), (10, 1, 0, 0, 0, 0, 0, []), (11, 1, 0, 0, 0, 0, 4, []), (12, 3, 35, 125, 4, 12, 0, [1, 88, 931, 933, 29]), (15, 3, 10, 1, 21, 0, 0, []), (18, 0, 45, 0, 18, 0, 0, [])]
def p197_18 : List PI := [(18, 2, 0, 0, 0, 0, -2, []), (20, 1, 39, 0, 0, 0, 0, [])]
def p197_21 : List PI := [(21, 1, 0, 0, 0, 0, 0, []), (22, 1, 3, 3, 0, 0, 0, []), (23, 0, 45, 0, 23, 0, 0, [])]
def p197_23 : List PI := [(23, 1, 1, 3, 0, 0, 0, []), (24, 2, 0, 0, 0, 0, 64, []), (26, 3, 11, 3, 46, 0, 0, []), (29, 1, 2, 0, 0, 0, 0, []), (30, 3, 18, 11, 52, 262, 0, [1186]), (33, 1, 1, 3, 0, 0, 0, []), (34, 1, 2, 0, 0, 0, 0, []), (35, 1, 1, 3, 0, 0, 0, []), (36, 3, 35, 192, 2, 12, 0, [310, 88, 1393, 1395, 66]), (39, 1, 24, 0, 0, 0, 0, []), (40, 3, 5, 3, 0, 0, 1, []), (43, 3, 14, 0, 23, 0, 0, [])]
def p197_46 : List PI := [(46, 1, 0, 0, 0, 0, 1, []), (47, 1, 3, 3, 0, 0, 0, []), (48, 0, 45, 0, 48, 0, 0, [])]
def p197_48 : List PI := [(48, 1, 1, 3, 0, 0, 0, []), (49, 1, 1, 2, 0, 0, 0, []), (50, 3, 11, 4, 197, 0, 0, []), (53, 1, 0, 0, 0, 0, 0, []), (54, 2, 3, 4, 0, 0, 0, []), (56, 0, 45, 0, 56, 0, 0, [])]
def p197_56 : List PI := [(56, 2, 1, 4, 0, 0, 0, []), (58, 2, 0, 0, 0, 0, 64, []), (60, 3, 11, 3, 191, 0, 0, []), (63, 1, 2, 0, 0, 0, 0, []), (64, 3, 18, 11, 52, 262, 0, [1186]), (67, 2, 0, 0, 0, 0, 64, []), (69, 1, 1, 3, 0, 0, 0, []), (70, 1, 0, 0, 0, 0, 1, []), (71, 1, 6, 1, 0, 0, 0, []), (72, 1, 6, 2, 0, 0, 0, []), (73, 2, 1, 4, 0, 0, 0, []), (75, 1, 6, 0, 0, 0, 0, []), (76, 1, 22, 0, 0, 0, 0, []), (77, 2, 3, 5, 0, 0, 0, []), (79, 1, 0, 0, 0, 0, 0, []), (80, 2, 3, 6, 0, 0, 0, []), (82, 0, 45, 0, 82, 0, 0, [])]
def p197_82 : List PI := [(82, 2, 1, 6, 0, 0, 0, []), (84, 1, 2, 0, 0, 0, 0, []), (85, 3, 17, 11, 50, 256, 0, [1184]), (88, 3, 11, 3, 171, 0, 0, []), (91, 1, 0, 0, 0, 0, 0, []), (92, 2, 3, 7, 0, 0, 0, []), (94, 1, 0, 0, 0, 0, 0, []), (95, 2, 3, 8, 0, 0, 0, []), (97, 0, 45, 0, 97, 0, 0, [])]
def p197_97 : List PI := [(97, 2, 1, 8, 0, 0, 0, []), (99, 1, 0, 0, 0, 0, 4, []), (100, 3, 11, 3, 149, 0, 0, []), (103, 1, 2, 0, 0, 0, 0, []), (104, 3, 18, 11, 52, 262, 0, [1186]), (107, 2, 0, 0, 0, 0, 64, []), (109, 1, 1, 3, 0, 0, 0, []), (110, 1, 0, 0, 0, 0, 1, []), (111, 1, 6, 1, 0, 0, 0, []), (112, 1, 6, 2, 0, 0, 0, []), (113, 1, 2, 0, 0, 0, 0, []), (114, 2, 1, 6, 0, 0, 0, []), (116, 2, 1, 4, 0, 0, 0, []), (118, 2, 1, 8, 0, 0, 0, []), (120, 3, 35, 191, 4, 12, 0, [307, 88, 1389, 1391, 65]), (123, 1, 6, 0, 0, 0, 0, []), (124, 1, 22, 0, 0, 0, 0, []), (125, 2, 3, 9, 0, 0, 0, []), (127, 2, 1, 9, 0, 0, 0, []), (129, 2, 1, 7, 0, 0, 0, []), (131, 3, 11, 5, 139, 0, 0, []), (134, 2, 1, 9, 0, 0, 0, []), (136, 3, 14, 0, 141, 0, 0, [])]
def p197_139 : List PI := [(139, 2, 1, 7, 0, 0, 0, []), (141, 0, 45, 0, 141, 0, 0, [])]
def p197_141 : List PI := [(141, 2, 3, 7, 0, 0, 0, []), (143, 3, 5, 8, 0, 0, 1, []), (146, 3, 14, 0, 97, 0, 0, [])]
def p197_149 : List PI := [(149, 2, 1, 7, 0, 0, 0, []), (151, 2, 1, 5, 0, 0, 0, []), (153, 3, 11, 3, 161, 0, 0, []), (156, 2, 1, 7, 0, 0, 0, []), (158, 3, 14, 0, 163, 0, 0, [])]
def p197_161 : List PI := [(161, 2, 1, 5, 0, 0, 0, []), (163, 0, 45, 0, 163, 0, 0, [])]
def p197_163 : List PI := [(163, 2, 3, 5, 0, 0, 0, []), (165, 3, 5, 6, 0, 0, 1, []), (168, 3, 14, 0, 82, 0, 0, [])]
def p197_171 : List PI := [(171, 1, 2, 0, 0, 0, 0, []), (172, 3, 18, 11, 52, 262, 0, [1186]), (175, 2, 0, 0, 0, 0, 64, []), (177, 1, 1, 3, 0, 0, 0, []), (178, 1, 6, 2, 0, 0, 0, []), (179, 2, 1, 4, 0, 0, 0, []), (181, 1, 6, 0, 0, 0, 0, []), (182, 2, 1, 5, 0, 0, 0, []), (184, 1, 24, 0, 0, 0, 0, []), (185, 3, 5, 4, 0, 0, 1, []), (188, 3, 14, 0, 56, 0, 0, [])]
def p197_191 : List PI := [(191, 3, 5, 3, 0, 0, 1, []), (194, 3, 14, 0, 48, 0, 0, [])]
def p197_197 : List PI := [(197, 1, 2, 0, 0, 0, 0, []), (198, 3, 18, 11, 52, 262, 0, [1186]), (201, 2, 0, 0, 0, 0, 64, []), (203, 1, 1, 2, 0, 0, 0, []), (204, 1, 6, 2, 0, 0, 0, []), (205, 1, 1, 1, 0, 0, 0, []), (206, 1, 6, 0, 0, 0, 0, []), (207, 1, 22, 0, 0, 0, 0, []), (208, 1, 39, 0, 0, 0, 0, [])]
def p197 : List (Nat × List PI) := [(0, p197_0), (18, p197_18), (21, p197_21), (23, p197_23), (46, p197_46), (48, p197_48), (56, p197_56), (82, p197_82), (97, p197_97), (139, p197_139), (141, p197_141), (149, p197_149), (161, p197_161), (163, p197_163), (171, p197_171), (191, p197_191), (197, p197_197)]
def p198_0 : List PI := [(0, 1, 2, 0, 0, 0, 0, []), (1, 3, 17, 11, 53, 265, 0, [1187]), (4, 2, 0, 0, 0, 0, 20, []), (6, 3, 11, 3, 19, 0, 0, []), (9, 1, 2, 0, 0, 0, 0, []), (10, 3, 18, 11, 54, 268, 0, [1188]), (13, 1, 2, 0, 0, 0, 0, []), (14, 3, 17, 11, 53, 265, 0, [1187]), (17, 1, 1, 1, 0, 0, 0, []), (18, 1, 24, 0, 0, 0, 0, []), (19, 0, 45, 0, 19, 0, 0, [])]
def p198_19 : List PI := [(19, 1, 2, 0, 0, 0, 0, []), (20, 1, 32, 0, 0, 0, 0, []), (21, 3, 17, 11, 53, 265, 0, [1187]), (24, 1, 0, 0, 0, 0, 1, []), (25, 1, 6, 0, 0, 0, 0, []), (26, 3, 19, 11, 53, 265, 0, [1187]), (29, 1, 38, 0, 0, 0, 0, [])]
def p198 : List (Nat × List PI) := [(0, p198_0), (19, p198_19)]
def p199_0 : List PI := [(0, 1, 2, 0, 0, 0, 0, []), (1, 2, 0, 0, 0, 0, 10, []), (3, 3, 36, 198, 2, 12, 0, [319, 88, 1417, 1419, 69]), (6, 1, 1, 2, 0, 0, 0, []), (7, 1, 2, 0, 0, 0, 0, []), (8, 3, 18, 11, 23, 86, 0, [1157]), (11, 1, 1, 1, 0, 0, 0, []), (12, 1, 22, 0, 0, 0, 0, []), (13, 1, 6, 0, 0, 0, 0, []), (14, 1, 39, 0, 0, 0, 0, [])]
def p199 : List (Nat × List PI) := [(0, p199_0)]
def p200_0 : List PI := [(0, 1, 2, 0, 0, 0, 0, []), (1, 2, 0, 0, 0, 0, 30, []), (3, 3, 36, 198, 2, 12, 0, [319, 88, 1417, 1419, 69]), (6, 1, 2, 0, 0, 0, 0, []), (7, 1, 1, 1, 0, 0, 0, []), (8, 1, 1, 2, 0, 0, 0, []), (9, 3, 35, 199, 3, 12, 0, [322, 88, 1421, 1423, 70]), (12, 2, 0, 0, 0, 0, 90, []), (14, 1, 6, 1, 0, 0, 0, []), (15, 1, 39, 0, 0, 0, 0, [])]
def p200 : List (Nat × List PI) := [(0, p200_0)]
def p201_0 : List PI := [(0, 1, 2, 0, 0, 0, 0, []), (1, 3, 18, 11, 19, 74, 0, [1153]), (4, 1, 1, 1, 0, 0, 0, []), (5, 1, 22, 0, 0, 0, 0, []), (6, 1, 0, 0, 0, 0, 2, []), (7, 3, 11, 1, 17, 0, 0, []), (10, 1, 2, 0, 0, 0, 0, []), (11, 1, 1, 1, 0, 0, 0, []), (12, 1, 1, 2, 0, 0, 0, []), (13, 3, 35, 200, 3, 12, 0, [325, 88, 1413, 1415, 68]), (16, 1, 39, 0, 0, 0, 0, [])]
def p201_17 : List PI := [(17, 1, 2, 0, 0, 0, 0, []), (18, 3, 18, 11, 19, 74, 0, [1153]), (21, 1, 1, 1, 0, 0, 0, []), (22, 1, 22, 0, 0, 0, 0, []), (23, 1, 0, 0, 0, 0, 3, []), (24, 3, 11, 1, 43, 0, 0, []), (27, 1, 2, 0, 0, 0, 0, []), (28, 2, 0, 0, 0, 0, 40, []), (30, 3, 36, 198, 2, 12, 0, [319, 88, 1417, 1419, 69]), (33, 1, 2, 0, 0, 0, 0, []), (34, 1, 1, 1, 0, 0, 0, []), (35, 1, 1, 2, 0, 0, 0, []), (36, 2, 0, 0, 0, 0, 15, []), (38, 1, 6, 3, 0, 0, 0, []), (39, 3, 35, 199, 3, 12, 0, [322, 88, 1421, 1423, 70]), (42, 1, 39, 0, 0, 0, 0, [])]
def p201_43 : List PI := [(43, 1, 2, 0, 0, 0, 0, []), (44, 3, 18, 11, 19, 74, 0, [1153]), (47, 1, 1, 1, 0, 0, 0, []), (48, 1, 22, 0, 0, 0, 0, []), (49, 2, 0, 0, 0, 0, 6, []), (51, 3, 11, 1, 78, 0, 0, []), (54, 1, 2, 0, 0, 0, 0, []), (55, 2, 0, 0, 0, 0, 70, []), (57, 3, 36, 198, 2, 12, 0, [319, 88, 1417, 1419, 69]), (60, 1, 2, 0, 0, 0, 0, []), (61, 1, 1, 1, 0, 0, 0, []), (62, 1, 1, 2, 0, 0, 0, []), (63, 3, 35, 200, 3, 12, 0, [325, 88, 1413, 1415, 68]), (66, 1, 3, 3, 0, 0, 0, []), (67, 1, 1, 3, 0, 0, 0, []), (68, 1, 2, 0, 0, 0, 0, []), (69, 1, 1, 1, 0, 0, 0, []), (70, 1, 1, 2, 0, 0, 0, []), (71, 1, 0, 0, 0, 0, 1, []), (72, 1, 6, 0, 0, 0, 0, []), (73, 3, 35, 200, 3, 12, 0, [325, 88, 1413, 1415, 68]), (76, 1, 6, 0, 0, 0, 0, []), (77, 1, 39, 0, 0, 0, 0, [])]
def p201_78 : List PI := [(78, 1, 2, 0, 0, 0, 0, []), (79, 1, 1, 1, 0, 0, 0, []), (80, 1, 1, 2, 0, 0, 0, []), (81, 3, 35, 199, 3, 12, 0, [322, 88, 1421, 1423, 70]), (84, 1, 39, 0, 0, 0, 0, [])]
def p201 : List (Nat × List PI) := [(0, p201_0), (17, p201_17), (43, p201_43), (78, p201_78)]
def p202_0 : List PI := [(0, 1, 2, 0, 0, 0, 0, []), (1, 2, 0, 0, 0, 0, 11, []), (3, 3, 36, 198, 2, 12, 0, [319, 88, 1417, 1419, 69]), (6, 1, 2, 0, 0, 0, 0, []), (7, 1, 1, 1, 0, 0, 0, []), (8, 1, 1, 2, 0, 0, 0, []), (9, 3, 35, 201, 3, 12, 0, [328, 88, 1409, 1411, 67]), (12, 1, 2, 0, 0, 0, 0, []), (13, 3, 18, 11, 21, 80, 0, [1155]), (16, 1, 1, 1, 0, 0, 0, []), (17, 1, 22, 0, 0, 0, 0, []), (18, 1, 6, 1, 0, 0, 0, []), (19, 1, 39, 0, 0, 0, 0, [])]
def p202 : List (Nat × List PI) := [(0, p202_0)]
def p203_0 : List PI := [(0, 1, 2, 0, 0, 0, 0, []), (1, 3, 18, 11, 19, 74, 0, [1153]), (4, 1, 1, 1, 0, 0, 0, []), (5, 1, 22, 0, 0, 0, 0, []), (6, 1, 0, 0, 0, 0, 1, []), (7, 3, 11, 1, 25, 0, 0, []), (10, 1, 2, 0, 0, 0, 0, []), (11, 2, 0, 0, 0, 0, 20, []), (13, 3, 36, 198, 2, 12, 0, [319, 88, 1417, 1419, 69]), (16, 1, 2, 0, 0, 0, 0, []), (17, 1, 1, 1, 0, 0, 0, []), (18, 1, 1, 2, 0, 0, 0, []), (19, 1, 0, 0, 0, 0, 2, []), (20, 1, 6, 2, 0, 0, 0, []), (21, 3, 35, 202, 3, 12, 0, [331, 88, 1429, 1431, 72]), (24, 1, 39, 0, 0, 0, 0, [])]
def p203_25 : List PI := [(25, 1, 2, 0, 0, 0, 0, []), (26, 3, 18, 11, 19, 74, 0, [1153]), (29, 1, 1, 1, 0, 0, 0, []), (30, 1, 22, 0, 0, 0, 0, []), (31, 1, 0, 0, 0, 0, 5, []), (32, 3, 11, 1, 50, 0, 0, []), (35, 1, 2, 0, 0, 0, 0, []), (36, 2, 0, 0, 0, 0, 60, []), (38, 3, 36, 198, 2, 12, 0, [319, 88, 1417, 1419, 69]), (41, 1, 2, 0, 0, 0, 0, []), (42, 1, 1, 1, 0, 0, 0, []), (43, 1, 1, 2, 0, 0, 0, []), (44, 3, 35, 202, 3, 12, 0, [331, 88, 1429, 1431, 72]), (47, 1, 0, 0, 0, 0, 3, []), (48, 1, 6, 2, 0, 0, 0, []), (49, 1, 39, 0, 0, 0, 0, [])]
def p203_50 : List PI := [(50, 1, 2, 0, 0, 0, 0, []), (51, 1, 1, 1, 0, 0, 0, []), (52, 1, 1, 2, 0, 0, 0, []), (53, 3, 35, 202, 3, 12, 0, [331, 88, 1429, 1431, 72]), (56, 1, 39, 0, 0, 0, 0, [])]
def p203 : List (Nat × List PI) := [(0, p203_0), (25, p203_25), (50, p203_50)]
def p204_0 : List PI := [(0, 1, 2, 0, 0, 0, 0, []), (1, 2, 0, 0, 0, 0, 12, []), (3, 3, 36, 198, 2, 12, 0, [319, 88, 1417, 1419, 69]), (6, 1, 2, 0, 0, 0, 0, []), (7, 1, 1, 1, 0, 0, 0, []), (8, 1, 1, 2, 0, 0, 0, []), (9, 3, 35, 203, 3, 12, 0, [334, 88, 1425, 1427, 71]), (12, 1, 1, 1, 0, 0, 0, []), (13, 1, 6, 5, 0, 0, 0, []), (14, 1, 39, 0, 0, 0, 0, [])]
def p204 : List (Nat × List PI) := [(0, p204_0)]
def p205_0 : List PI := [(0, 1, 2, 0, 0, 0, 0, []), (1, 2, 0, 0, 0, 0, 31, []), (3, 3, 36, 198, 2, 12, 0, [319, 88, 1417, 1419, 69]), (6, 1, 2, 0, 0, 0, 0, []), (7, 1, 1, 1, 0, 0, 0, []), (8, 1, 1, 2, 0, 0, 0, []), (9, 3, 35, 204, 3, 12, 0, [337, 88, 1441, 1443, 75]), (12, 1, 3, 3, 0, 0, 0, []), (13, 1, 1, 3, 0, 0, 0, []), (14, 1, 2, 0, 0, 0, 0, []), (15, 1, 1, 1, 0, 0, 0, []), (16, 1, 0, 0, 0, 0, 1, []), (17, 3, 35, 203, 3, 12, 0, [334, 88, 1425, 1427, 71]), (20, 1, 6, 0, 0, 0, 0, []), (21, 1, 39, 0, 0, 0, 0, [])]
def p205 : List (Nat × List PI) := [(0, p205_0)]
def p206_0 : List PI := [(0, 1, 2, 0, 0, 0, 0, []), (1, 3, 18, 11, 19, 74, 0, [1153]), (4, 1, 1, 1, 0, 0, 0, []), (5, 1, 22, 0, 0, 0, 0, []), (6, 1, 0, 0, 0, 0, 2, []), (7, 3, 11, 1, 17, 0, 0, []), (10, 1, 2, 0, 0, 0, 0, []), (11, 1, 1, 1, 0, 0, 0, []), (12, 1, 1, 2, 0, 0, 0, []), (13, 3, 35, 205, 3, 12, 0, [340, 88, 1437, 1439, 74]), (16, 1, 39, 0, 0, 0, 0, [])]
def p206_17 : List PI := [(17, 1, 2, 0, 0, 0, 0, []), (18, 3, 18, 11, 19, 74, 0, [1153]), (21, 1, 1, 1, 0, 0, 0, []), (22, 1, 22, 0, 0, 0, 0, []), (23, 1, 0, 0, 0, 0, 4, []), (24, 3, 11, 1, 41, 0, 0, []), (27, 1, 2, 0, 0, 0, 0, []), (28, 2, 0, 0, 0, 0, 50, []), (30, 3, 36, 198, 2, 12, 0, [319, 88, 1417, 1419, 69]), (33, 1, 2, 0, 0, 0, 0, []), (34, 1, 1, 1, 0, 0, 0, []), (35, 1, 1, 2, 0, 0, 0, []), (36, 3, 35, 204, 3, 12, 0, [337, 88, 1441, 1443, 75]), (39, 1, 9, 0, 0, 0, 0, []), (40, 1, 39, 0, 0, 0, 0, [])]
def p206_41 : List PI := [(41, 1, 2, 0, 0, 0, 0, []), (42, 3, 18, 11, 19, 74, 0, [1153]), (45, 1, 1, 1, 0, 0, 0, []), (46, 1, 22, 0, 0, 0, 0, []), (47, 2, 0, 0, 0, 0, 6, []), (49, 3, 11, 1, 67, 0, 0, []), (52, 1, 2, 0, 0, 0, 0, []), (53, 2, 0, 0, 0, 0, 71, []), (55, 3, 36, 198, 2, 12, 0, [319, 88, 1417, 1419, 69]), (58, 1, 2, 0, 0, 0, 0, []), (59, 1, 1, 1, 0, 0, 0, []), (60, 1, 1, 2, 0, 0, 0, []), (61, 1, 0, 0, 0, 0, 1, []), (62, 1, 6, 1, 0, 0, 0, []), (63, 3, 35, 205, 3, 12, 0, [340, 88, 1437, 1439, 74]), (66, 1, 39, 0, 0, 0, 0, [])]
def p206_67 : List PI := [(67, 1, 2, 0, 0, 0, 0, []), (68, 1, 1, 1, 0, 0, 0, []), (69, 1, 1, 2, 0, 0, 0, []), (70, 3, 35, 204, 3, 12, 0, [337, 88, 1441, 1443, 75]), (73, 1, 39, 0, 0, 0, 0, [])]
def p206 : List (Nat × List PI) := [(0, p206_0), (17, p206_17), (41, p206_41), (67, p206_67)]
def p207_0 : List PI := [(0, 1, 2, 0, 0, 0, 0, []), (1, 1, 0, 0, 0, 0, 0, []), (2, 3, 19, 11, 53, 265, 0, [1187]), (5, 1, 2, 0, 0, 0, 0, []), (6, 1, 1, 1, 0, 0, 0, []), (7, 3, 35, 141, 2, 12, 0, [119, 88, 1017, 1019, 36]), (10, 3, 10, 0, 23, 0, 0, []), (13, 1, 2, 0, 0, 0, 0, []), (14, 1, 1, 2, 0, 0, 0, []), (15, 1, 0, 0, 0, 0, 0, []), (16, 1, 0, 0, 0, 0, 2, []), (17, 3, 35, 125, 4, 12, 0, [1, 88, 931, 933, 29]), (20, 3, 10, 1, 25, 0, 0, []), (23, 0, 45, 0, 23, 0, 0, [])]
def p207_23 : List PI := [(23, 1, 0, 0, 0, 0, 0, []), (24, 1, 39, 0, 0, 0, 0, [])]
def p207_25 : List PI := [(25, 1, 1, 2, 0, 0, 0, []), (26, 3, 10, 1, 38, 0, 0, []), (29, 1, 2, 0, 0, 0, 0, []), (30, 1, 1, 1, 0, 0, 0, []), (31, 1, 1, 3, 0, 0, 0, []), (32, 3, 35, 201, 3, 12, 0, [328, 88, 1409, 1411, 67]), (35, 3, 14, 0, 58, 0, 0, [])]
def p207_38 : List PI := [(38, 1, 1, 2, 0, 0, 0, []), (39, 1, 0, 0, 0, 0, 1, []), (40, 3, 11, 1, 52, 0, 0, []), (43, 1, 2, 0, 0, 0, 0, []), (44, 1, 1, 1, 0, 0, 0, []), (45, 1, 1, 3, 0, 0, 0, []), (46, 3, 35, 203, 3, 12, 0, [334, 88, 1425, 1427, 71]), (49, 3, 14, 0, 58, 0, 0, [])]
def p207_52 : List PI := [(52, 1, 2, 0, 0, 0, 0, []), (53, 1, 1, 1, 0, 0, 0, []), (54, 1, 1, 3, 0, 0, 0, []), (55, 3, 35, 206, 3, 12, 0, [343, 88, 1433, 1435, 73]), (58, 0, 45, 0, 58, 0, 0, [])]
def p207_58 : List PI := [(58, 1, 39, 0, 0, 0, 0, [])]
def p207 : List (Nat × List PI) := [(0, p207_0), (23, p207_23), (25, p207_25), (38, p207_38), (52, p207_52), (58, p207_58)]
def p208_0 : List PI := [(0, 1, 2, 0, 0, 0, 0, []), (1, 1, 1, 1, 0, 0, 0, []), (2, 1, 0, 0, 0, 0, 0, []), (3, 2, 0, 0, 0, 0, 19, []), (5, 3, 35, 125, 4, 12, 0, [1, 88, 931, 933, 29]), (8, 3, 10, 0, 28, 0, 0, []), (11, 1, 1, 1, 0, 0, 0, []), (12, 1, 2, 0, 0, 0, 0, []), (13, 3, 17, 11, 53, 265, 0, [1187]), (16, 3, 11, 3, 28, 0, 0, []), (19, 1, 2, 0, 0, 0, 0, []), (20, 3, 18, 11, 54, 268, 0, [1188]), (23, 1, 1, 1, 0, 0, 0, []), (24, 1, 22, 0, 0, 0, 0, []), (25, 3, 14, 0, 29, 0, 0, [])]
def p208_28 : List PI := [(28, 1, 0, 0, 0, 0, -1, []), (29, 0, 45, 0, 29, 0, 0, [])]
def p208_29 : List PI := [(29, 1, 39, 0, 0, 0, 0, [])]
def p208 : List (Nat × List PI) := [(0, p208_0), (28, p208_28), (29, p208_29)]
def p209_0 : List PI := [(0, 1, 2, 0, 0, 0, 0, []), (1, 1, 1, 2, 0, 0, 0, []), (2, 1, 0, 0, 0, 0, 0, []), (3, 2, 0, 0, 0, 0, 6, []), (5, 3, 35, 125, 4, 12, 0, [1, 88, 931, 933, 29]), (8, 3, 10, 1, 14, 0, 0, []), (11, 2, 0, 0, 0, 0, -2, []), (13, 1, 39, 0, 0, 0, 0, [])]
def p209_14 : List PI := [(14, 1, 2, 0, 0, 0, 0, []), (15, 1, 1, 1, 0, 0, 0, []), (16, 3, 35, 141, 2, 12, 0, [119, 88, 1017, 1019, 36]), (19, 3, 10, 1, 25, 0, 0, []), (22, 2, 0, 0, 0, 0, -11, []), (24, 1, 39, 0, 0, 0, 0, [])]
def p209_25 : List PI := [(25, 1, 1, 2, 0, 0, 0, []), (26, 3, 10, 0, 55, 0, 0, []), (29, 1, 2, 0, 0, 0, 0, []), (30, 3, 18, 11, 19, 74, 0, [1153]), (33, 1, 1, 1, 0, 0, 0, []), (34, 1, 22, 0, 0, 0, 0, []), (35, 1, 1, 2, 0, 0, 0, []), (36, 3, 11, 0, 55, 0, 0, []), (39, 1, 1, 2, 0, 0, 0, []), (40, 1, 0, 0, 0, 0, 2, []), (41, 3, 11, 1, 64, 0, 0, []), (44, 1, 2, 0, 0, 0, 0, []), (45, 3, 18, 11, 19, 74, 0, [1153]), (48, 1, 1, 1, 0, 0, 0, []), (49, 1, 22, 0, 0, 0, 0, []), (50, 2, 0, 0, 0, 0, 6, []), (52, 3, 11, 1, 64, 0, 0, []), (55, 0, 45, 0, 55, 0, 0, [])]
def p209_55 : List PI := [(55, 1, 2, 0, 0, 0, 0, []), (56, 3, 18, 11, 19, 74, 0, [1153]), (59, 1, 1, 1, 0, 0, 0, []), (60, 1, 22, 0, 0, 0, 0, []), (61, 3, 14, 0, 66, 0, 0, [])]
def p209_64 : List PI := [(64, 2, 0, 0, 0, 0, -12, []), (66, 0, 45, 0, 66, 0, 0, [])]
def p209_66 : List PI := [(66, 1, 39, 0, 0, 0, 0, [])]
def p209 : List (Nat × List PI) := [(0, p209_0), (14, p209_14), (25, p209_25), (55, p209_55), (64, p209_64), (66, p209_66)]
def p210_0 : List PI := [(0, 1, 1, 1, 0, 0, 0, []), (1, 47, 15, 0, 88, 0, 0, [48, 53, 58, 63, 68, 73, 78, 83])]
def p210_48 : List PI := [(48, 1, 2, 0, 0, 0, 0, []), (49, 3, 17, 11, 0, 7, 0, [1134]), (52, 1, 39, 0, 0, 0, 0, [])]
def p210_53 : List PI := [(53, 1, 2, 0, 0, 0, 0, []), (54, 3, 17, 11, 1, 31, 0, [1135]), (57, 1, 39, 0, 0, 0, 0, [])]
def p210_58 : List PI := [(58, 1, 2, 0, 0, 0, 0, []), (59, 3, 17, 11, 18, 71, 0, [1152]), (62, 1, 39, 0, 0, 0, 0, [])]
def p210_63 : List PI := [(63, 1, 2, 0, 0, 0, 0, []), (64, 3, 17, 11, 35, 210, 0, [1169]), (67, 1, 39, 0, 0, 0, 0, [])]
def p210_68 : List PI := [(68, 1, 2, 0, 0, 0, 0, []), (69, 3, 17, 11, 36, 213, 0, [1170]), (72, 1, 39, 0, 0, 0, 0, [])]
def p210_73 : List PI := [(73, 1, 2, 0, 0, 0, 0, []), (74, 3, 17, 11, 50, 256, 0, [1184]), (77, 1, 39, 0, 0, 0, 0, [])]
def p210_78 : List PI := [(78, 1, 2, 0, 0, 0, 0, []), (79, 3, 17, 11, 34, 207, 0, [1168]), (82, 1, 39, 0, 0, 0, 0, [])]
def p210_83 : List PI := [(83, 1, 2, 0, 0, 0, 0, []), (84, 3, 17, 11, 53, 265, 0, [1187]), (87, 1, 39, 0, 0, 0, 0, [])]
def p210_88 : List PI := [(88, 2, 0, 0, 0, 0, -2, []), (90, 1, 39, 0, 0, 0, 0, [])]
def p210 : List (Nat × List PI) := [(0, p210_0), (48, p210_48), (53, p210_53), (58, p210_58), (63, p210_63), (68, p210_68), (73, p210_73), (78, p210_78), (83, p210_83), (88, p210_88)]
def p211_0 : List PI := [(0, 1, 2, 0, 0, 0, 0, []), (1, 1, 1, 1, 0, 0, 0, []), (2, 1, 0, 0, 0, 0, 0, []), (3, 1, 0, 0, 0, 0, 5, []), (4, 3, 35, 125, 4, 12, 0, [1, 88, 931, 933, 29]), (7, 1, 40, 0, 0, 0, 0, [])]
def p211 : List (Nat × List PI) := [(0, p211_0)]
def p212_0 : List PI := [(0, 1, 2, 0, 0, 0, 0, []), (1, 1, 1, 1, 0, 0, 0, []), (2, 3, 35, 211, 2, 12, 0, [107, 88, 1009, 1011, 35]), (5, 3, 10, 1, 10, 0, 0, []), (8, 1, 0, 0, 0, 0, -1, []), (9, 1, 39, 0, 0, 0, 0, [])]
def p212_10 : List PI := [(10, 1, 2, 0, 0, 0, 0, []), (11, 1, 1, 2, 0, 0, 0, []), (12, 1, 0, 0, 0, 0, -1, []), (13, 1, 0, 0, 0, 0, 4, []), (14, 3, 35, 125, 4, 12, 0, [1, 88, 931, 933, 29]), (17, 3, 10, 0, 30, 0, 0, []), (20, 1, 1, 2, 0, 0, 0, []), (21, 3, 10, 2, 33, 0, 0, []), (24, 1, 1, 3, 0, 0, 0, []), (25, 2, 0, 0, 0, 0, 60, []), (27, 3, 11, 5, 33, 0, 0, []), (30, 0, 45, 0, 30, 0, 0, [])]
def p212_30 : List PI := [(30, 2, 0, 0, 0, 0, -2, []), (32, 1, 39, 0, 0, 0, 0, [])]
def p212_33 : List PI := [(33, 1, 1, 2, 0, 0, 0, []), (34, 3, 10, 2, 44, 0, 0, []), (37, 1, 1, 3, 0, 0, 0, []), (38, 3, 10, 3, 44, 0, 0, []), (41, 2, 0, 0, 0, 0, -14, []), (43, 1, 39, 0, 0, 0, 0, [])]
def p212_44 : List PI := [(44, 1, 2, 0, 0, 0, 0, []), (45, 3, 18, 11, 55, 110, 0, [1189]), (48, 1, 1, 1, 0, 0, 0, []), (49, 1, 1, 2, 0, 0, 0, []), (50, 1, 24, 0, 0, 0, 0, []), (51, 1, 2, 0, 0, 0, 0, []), (52, 3, 18, 11, 56, 113, 0, [1190]), (55, 1, 1, 1, 0, 0, 0, []), (56, 1, 1, 2, 0, 0, 0, []), (57, 3, 10, 3, 64, 0, 0, []), (60, 1, 0, 0, 0, 0, 0, []), (61, 3, 14, 0, 65, 0, 0, [])]
def p212_64 : List PI := [(64, 1, 1, 3, 0, 0, 0, []), (65, 0, 45, 0, 65, 0, 0, [])]
def p212_65 : List PI := [(65, 1, 24, 0, 0, 0, 0, []), (66, 1, 0, 0, 0, 0, 0, []), (67, 2, 3, 4, 0, 0, 0, []), (69, 0, 45, 0, 69, 0, 0, [])]
def p212_69 : List PI := [(69, 2, 1, 4, 0, 0, 0, []), (71, 2, 0, 0, 0, 0, 60, []), (73, 3, 11, 3, 95, 0, 0, []), (76, 1, 2, 0, 0, 0, 0, []), (77, 3, 18, 11, 57, 116, 0, [1191]), (80, 2, 0, 0, 0, 0, 60, []), (82, 1, 1, 1, 0, 0, 0, []), (83, 1, 6, 2, 0, 0, 0, []), (84, 2, 1, 4, 0, 0, 0, []), (86, 1, 6, 0, 0, 0, 0, []), (87, 1, 0, 0, 0, 0, 0, []), (88, 1, 24, 0, 0, 0, 0, []), (89, 3, 5, 4, 0, 0, 1, []), (92, 3, 14, 0, 69, 0, 0, [])]
def p212_95 : List PI := [(95, 1, 0, 0, 0, 0, 1, []), (96, 1, 39, 0, 0, 0, 0, [])]
def p212 : List (Nat × List PI) := [(0, p212_0), (10, p212_10), (30, p212_30), (33, p212_33), (44, p212_44), (64, p212_64), (65, p212_65), (69, p212_69), (95, p212_95)]
def p213_0 : List PI := [(0, 1, 2, 0, 0, 0, 0, []), (1, 1, 1, 1, 0, 0, 0, []), (2, 3, 35, 211, 2, 12, 0, [107, 88, 1009, 1011, 35]), (5, 3, 10, 1, 10, 0, 0, []), (8, 1, 0, 0, 0, 0, -1, []), (9, 1, 39, 0, 0, 0, 0, [])]
def p213_10 : List PI := [(10, 1, 2, 0, 0, 0, 0, []), (11, 3, 18, 11, 55, 110, 0, [1189]), (14, 1, 1, 1, 0, 0, 0, []), (15, 1, 22, 0, 0, 0, 0, []), (16, 3, 10, 3, 22, 0, 0, []), (19, 2, 0, 0, 0, 0, -11, []), (21, 1, 39, 0, 0, 0, 0, [])]
def p213_22 : List PI := [(22, 1, 2, 0, 0, 0, 0, []), (23, 1, 1, 2, 0, 0, 0, []), (24, 1, 0, 0, 0, 0, 0, []), (25, 1, 2, 0, 0, 0, 0, []), (26, 3, 18, 11, 56, 113, 0, [1190]), (29, 1, 1, 1, 0, 0, 0, []), (30, 1, 22, 0, 0, 0, 0, []), (31, 1, 0, 0, 0, 0, 1, []), (32, 1, 6, 1, 0, 0, 0, []), (33, 3, 35, 125, 4, 12, 0, [1, 88, 931, 933, 29]), (36, 3, 10, 1, 42, 0, 0, []), (39, 2, 0, 0, 0, 0, -13, []), (41, 1, 39, 0, 0, 0, 0, [])]
def p213_42 : List PI := [(42, 1, 2, 0, 0, 0, 0, []), (43, 3, 18, 11, 55, 110, 0, [1189]), (46, 1, 1, 1, 0, 0, 0, []), (47, 1, 22, 0, 0, 0, 0, []), (48, 1, 0, 0, 0, 0, 3, []), (49, 3, 11, 1, 69, 0, 0, []), (52, 1, 2, 0, 0, 0, 0, []), (53, 1, 1, 3, 0, 0, 0, []), (54, 3, 0, 0, 1465, 346, -8000000, []), (57, 3, 0, 0, 1466, 347, 8000000, []), (60, 3, 35, 125, 4, 12, 0, [1, 88, 931, 933, 29]), (63, 3, 10, 1, 69, 0, 0, []), (66, 2, 0, 0, 0, 0, -2, []), (68, 1, 39, 0, 0, 0, 0, [])]
def p213_69 : List PI := [(69, 1, 2, 0, 0, 0, 0, []), (70, 3, 18, 11, 57, 116, 0, [1191]), (73, 2, 0, 0, 0, 0, 60, []), (75, 1, 1, 1, 0, 0, 0, []), (76, 1, 6, 2, 0, 0, 0, []), (77, 1, 1, 2, 0, 0, 0, []), (78, 1, 6, 0, 0, 0, 0, []), (79, 1, 2, 0, 0, 0, 0, []), (80, 3, 18, 11, 55, 110, 0, [1189]), (83, 1, 1, 1, 0, 0, 0, []), (84, 1, 22, 0, 0, 0, 0, []), (85, 3, 10, 1, 93, 0, 0, []), (88, 1, 1, 3, 0, 0, 0, []), (89, 1, 9, 1, 0, 0, 0, []), (90, 3, 14, 0, 131, 0, 0, [])]
def p213_93 : List PI := [(93, 1, 2, 0, 0, 0, 0, []), (94, 3, 18, 11, 55, 110, 0, [1189]), (97, 1, 1, 1, 0, 0, 0, []), (98, 1, 22, 0, 0, 0, 0, []), (99, 1, 0, 0, 0, 0, 1, []), (100, 3, 11, 1, 108, 0, 0, []), (103, 1, 1, 3, 0, 0, 0, []), (104, 1, 9, 2, 0, 0, 0, []), (105, 3, 14, 0, 131, 0, 0, [])]
def p213_108 : List PI := [(108, 1, 2, 0, 0, 0, 0, []), (109, 3, 18, 11, 55, 110, 0, [1189]), (112, 1, 1, 1, 0, 0, 0, []), (113, 1, 22, 0, 0, 0, 0, []), (114, 1, 0, 0, 0, 0, 4, []), (115, 3, 11, 1, 130, 0, 0, []), (118, 1, 1, 3, 0, 0, 0, []), (119, 3, 10, 0, 126, 0, 0, []), (122, 1, 0, 0, 0, 0, 1, []), (123, 3, 14, 0, 131, 0, 0, [])]
def p213_126 : List PI := [(126, 1, 0, 0, 0, 0, 0, []), (127, 3, 14, 0, 131, 0, 0, [])]
def p213_130 : List PI := [(130, 1, 1, 3, 0, 0, 0, []), (131, 0, 45, 0, 131, 0, 0, [])]
def p213_131 : List PI := [(131, 1, 24, 0, 0, 0, 0, []), (132, 1, 0, 0, 0, 0, 1, []), (133, 1, 39, 0, 0, 0, 0, [])]
def p213 : List (Nat × List PI) := [(0, p213_0), (10, p213_10), (22, p213_22), (42, p213_42), (69, p213_69), (93, p213_93), (108, p213_108), (126, p213_126), (130, p213_130), (131, p213_131)]
def p214_0 : List PI := [(0, 1, 2, 0, 0, 0, 0, []), (1, 1, 1, 1, 0, 0, 0, []), (2, 3, 35, 211, 2, 12, 0, [107, 88, 1009, 1011, 35]), (5, 3, 10, 0, 34, 0, 0, []), (8, 1, 2, 0, 0, 0, 0, []), (9, 3, 18, 11, 55, 110, 0, [1189]), (12, 1, 1, 1, 0, 0, 0, []), (13, 1, 22, 0, 0, 0, 0, []), (14, 3, 10, 2, 34, 0, 0, []), (17, 1, 2, 0, 0, 0, 0, []), (18, 1, 1, 2, 0, 0, 0, []), (19, 1, 0, 0, 0, 0, 0, []), (20, 1, 2, 0, 0, 0, 0, []), (21, 3, 18, 11, 56, 113, 0, [1190]), (24, 1, 1, 1, 0, 0, 0, []), (25, 1, 22, 0, 0, 0, 0, []), (26, 1, 0, 0, 0, 0, 1, []), (27, 1, 6, 1, 0, 0, 0, []), (28, 3, 35, 125, 4, 12, 0, [1, 88, 931, 933, 29]), (31, 3, 10, 1, 39, 0, 0, []), (34, 0, 45, 0, 34, 0, 0, [])]
def p214_34 : List PI := [(34, 2, 0, 0, 984, 102, -1000000000, []), (36, 3, 14, 0, 50, 0, 0, [])]
def p214_39 : List PI := [(39, 1, 2, 0, 0, 0, 0, []), (40, 3, 18, 11, 57, 116, 0, [1191]), (43, 2, 0, 0, 0, 0, 60, []), (45, 1, 1, 1, 0, 0, 0, []), (46, 1, 6, 2, 0, 0, 0, []), (47, 1, 1, 2, 0, 0, 0, []), (48, 1, 6, 0, 0, 0, 0, []), (49, 1, 22, 0, 0, 0, 0, []), (50, 0, 45, 0, 50, 0, 0, [])]
def p214_50 : List PI := [(50, 1, 39, 0, 0, 0, 0, [])]
def p214 : List (Nat × List PI) := [(0, p214_0), (34, p214_34), (39, p214_39), (50, p214_50)]
def p215_0 : List PI := [(0, 1, 2, 0, 0, 0, 0, []), (1, 1, 1, 1, 0, 0, 0, []), (2, 3, 35, 211, 2, 12, 0, [107, 88, 1009, 1011, 35]), (5, 3, 10, 0, 16, 0, 0, []), (8, 1, 2, 0, 0, 0, 0, []), (9, 1, 1, 3, 0, 0, 0, []), (10, 3, 35, 211, 2, 12, 0, [107, 88, 1009, 1011, 35]), (13, 3, 10, 1, 18, 0, 0, []), (16, 0, 45, 0, 16, 0, 0, [])]
def p215_16 : List PI := [(16, 1, 0, 0, 0, 0, -1, []), (17, 1, 39, 0, 0, 0, 0, [])]
def p215_18 : List PI := [(18, 1, 2, 0, 0, 0, 0, []), (19, 3, 18, 11, 55, 110, 0, [1189]), (22, 1, 1, 1, 0, 0, 0, []), (23, 1, 22, 0, 0, 0, 0, []), (24, 3, 10, 2, 36, 0, 0, []), (27, 1, 2, 0, 0, 0, 0, []), (28, 3, 18, 11, 55, 110, 0, [1189]), (31, 1, 1, 3, 0, 0, 0, []), (32, 1, 22, 0, 0, 0, 0, []), (33, 3, 10, 3, 39, 0, 0, []), (36, 0, 45, 0, 36, 0, 0, [])]
def p215_36 : List PI := [(36, 2, 0, 0, 0, 0, -11, []), (38, 1, 39, 0, 0, 0, 0, [])]
def p215_39 : List PI := [(39, 1, 2, 0, 0, 0, 0, []), (40, 3, 18, 11, 55, 110, 0, [1189]), (43, 1, 1, 1, 0, 0, 0, []), (44, 1, 22, 0, 0, 0, 0, []), (45, 1, 2, 0, 0, 0, 0, []), (46, 3, 18, 11, 55, 110, 0, [1189]), (49, 1, 1, 3, 0, 0, 0, []), (50, 1, 22, 0, 0, 0, 0, []), (51, 3, 11, 0, 57, 0, 0, []), (54, 2, 0, 0, 0, 0, -12, []), (56, 1, 39, 0, 0, 0, 0, [])]
def p215_57 : List PI := [(57, 2, 1, 5, 0, 0, 0, []), (59, 3, 10, 2, 98, 0, 0, []), (62, 1, 1, 2, 0, 0, 0, []), (63, 3, 10, 2, 98, 0, 0, []), (66, 2, 1, 4, 0, 0, 0, []), (68, 3, 10, 2, 98, 0, 0, []), (71, 1, 1, 2, 0, 0, 0, []), (72, 1, 2, 0, 0, 0, 0, []), (73, 3, 18, 11, 56, 113, 0, [1190]), (76, 1, 1, 1, 0, 0, 0, []), (77, 1, 22, 0, 0, 0, 0, []), (78, 2, 1, 5, 0, 0, 0, []), (80, 1, 6, 1, 0, 0, 0, []), (81, 3, 11, 4, 98, 0, 0, []), (84, 2, 1, 4, 0, 0, 0, []), (86, 1, 2, 0, 0, 0, 0, []), (87, 3, 18, 11, 56, 113, 0, [1190]), (90, 1, 1, 3, 0, 0, 0, []), (91, 1, 22, 0, 0, 0, 0, []), (92, 2, 1, 5, 0, 0, 0, []), (94, 1, 6, 1, 0, 0, 0, []), (95, 3, 11, 5, 101, 0, 0, []), (98, 0, 45, 0, 98, 0, 0, [])]
def p215_98 : List PI := [(98, 2, 0, 0, 0, 0, -13, []), (100, 1, 39, 0, 0, 0, 0, [])]
def p215_101 : List PI := [(101, 1, 0, 0, 0, 0, 0, []), (102, 2, 3, 6, 0, 0, 0, []), (104, 0, 45, 0, 104, 0, 0, [])]
def p215_104 : List PI := [(104, 2, 1, 6, 0, 0, 0, []), (106, 2, 1, 5, 0, 0, 0, []), (108, 3, 11, 3, 138, 0, 0, []), (111, 1, 2, 0, 0, 0, 0, []), (112, 3, 18, 11, 58, 271, 0, [1192]), (115, 2, 1, 6, 0, 0, 0, []), (117, 1, 2, 0, 0, 0, 0, []), (118, 3, 18, 11, 57, 116, 0, [1191]), (121, 2, 0, 0, 0, 0, 60, []), (123, 1, 1, 1, 0, 0, 0, []), (124, 1, 6, 2, 0, 0, 0, []), (125, 1, 1, 2, 0, 0, 0, []), (126, 1, 6, 0, 0, 0, 0, []), (127, 2, 1, 6, 0, 0, 0, []), (129, 1, 6, 0, 0, 0, 0, []), (130, 1, 22, 0, 0, 0, 0, []), (131, 1, 24, 0, 0, 0, 0, []), (132, 3, 5, 6, 0, 0, 1, []), (135, 3, 14, 0, 104, 0, 0, [])]
def p215_138 : List PI := [(138, 1, 0, 0, 0, 0, 0, []), (139, 2, 3, 6, 0, 0, 0, []), (141, 0, 45, 0, 141, 0, 0, [])]
def p215_141 : List PI := [(141, 2, 1, 6, 0, 0, 0, []), (143, 2, 1, 5, 0, 0, 0, []), (145, 3, 11, 3, 176, 0, 0, []), (148, 1, 2, 0, 0, 0, 0, []), (149, 3, 18, 11, 57, 116, 0, [1191]), (152, 2, 0, 0, 0, 0, 60, []), (154, 1, 1, 3, 0, 0, 0, []), (155, 1, 6, 2, 0, 0, 0, []), (156, 2, 1, 4, 0, 0, 0, []), (158, 1, 6, 0, 0, 0, 0, []), (159, 2, 1, 6, 0, 0, 0, []), (161, 1, 6, 0, 0, 0, 0, []), (162, 1, 2, 0, 0, 0, 0, []), (163, 3, 18, 11, 58, 271, 0, [1192]), (166, 2, 1, 6, 0, 0, 0, []), (168, 1, 22, 0, 0, 0, 0, []), (169, 1, 24, 0, 0, 0, 0, []), (170, 3, 5, 6, 0, 0, 1, []), (173, 3, 14, 0, 141, 0, 0, [])]
def p215_176 : List PI := [(176, 2, 1, 5, 0, 0, 0, []), (178, 1, 39, 0, 0, 0, 0, [])]
def p215 : List (Nat × List PI) := [(0, p215_0), (16, p215_16), (18, p215_18), (36, p215_36), (39, p215_39), (57, p215_57), (98, p215_98), (101, p215_101), (104, p215_104), (138, p215_138), (141, p215_141), (176, p215_176)]
def p216_0 : List PI := [(0, 1, 1, 0, 0, 0, 0, []), (1, 1, 1, 1, 0, 0, 0, []), (2, 3, 11, 3, 9, 0, 0, []), (5, 1, 0, 0, 0, 0, -1, []), (6, 3, 14, 0, 19, 0, 0, [])]
def p216_9 : List PI := [(9, 1, 1, 0, 0, 0, 0, []), (10, 1, 1, 1, 0, 0, 0, []), (11, 3, 11, 1, 18, 0, 0, []), (14, 1, 0, 0, 0, 0, 0, []), (15, 3, 14, 0, 19, 0, 0, [])]
def p216_18 : List PI := [(18, 1, 0, 0, 0, 0, 1, []), (19, 0, 45, 0, 19, 0, 0, [])]
def p216_19 : List PI := [(19, 1, 39, 0, 0, 0, 0, [])]
def p216 : List (Nat × List PI) := [(0, p216_0), (9, p216_9), (18, p216_18), (19, p216_19)]
def p217_0 : List PI := [(0, 1, 1, 0, 0, 0, 0, []), (1, 1, 1, 0, 0, 0, 0, []), (2, 1, 0, 0, 0, 0, 1, []), (3, 1, 6, 8, 0, 0, 0, []), (4, 3, 0, 0, 258, 265, 1431655765, []), (7, 1, 6, 3, 0, 0, 0, []), (8, 1, 6, 1, 0, 0, 0, []), (9, 1, 3, 0, 0, 0, 0, []), (10, 1, 1, 0, 0, 0, 0, []), (11, 3, 0, 0, 259, 266, 858993459, []), (14, 1, 6, 3, 0, 0, 0, []), (15, 1, 1, 0, 0, 0, 0, []), (16, 1, 0, 0, 0, 0, 2, []), (17, 1, 6, 8, 0, 0, 0, []), (18, 3, 0, 0, 259, 266, 858993459, []), (21, 1, 6, 3, 0, 0, 0, []), (22, 1, 6, 0, 0, 0, 0, []), (23, 1, 3, 0, 0, 0, 0, []), (24, 1, 1, 0, 0, 0, 0, []), (25, 1, 1, 0, 0, 0, 0, []), (26, 1, 0, 0, 0, 0, 4, []), (27, 1, 6, 8, 0, 0, 0, []), (28, 1, 6, 0, 0, 0, 0, []), (29, 3, 0, 0, 260, 267, 252645135, []), (32, 1, 6, 3, 0, 0, 0, []), (33, 1, 3, 0, 0, 0, 0, []), (34, 1, 1, 0, 0, 0, 0, []), (35, 1, 1, 0, 0, 0, 0, []), (36, 2, 0, 0, 0, 0, 8, []), (38, 1, 6, 8, 0, 0, 0, []), (39, 1, 6, 0, 0, 0, 0, []), (40, 1, 3, 0, 0, 0, 0, []), (41, 1, 1, 0, 0, 0, 0, []), (42, 1, 1, 0, 0, 0, 0, []), (43, 2, 0, 0, 0, 0, 16, []), (45, 1, 6, 8, 0, 0, 0, []), (46, 1, 6, 0, 0, 0, 0, []), (47, 1, 3, 0, 0, 0, 0, []), (48, 1, 1, 0, 0, 0, 0, []), (49, 2, 0, 0, 0, 0, 63, []), (51, 1, 6, 3, 0, 0, 0, []), (52, 1, 39, 0, 0, 0, 0, [])]
def p217 : List (Nat × List PI) := [(0, p217_0)]
def p218_0 : List PI := [(0, 1, 1, 0, 0, 0, 0, []), (1, 1, 1, 1, 0, 0, 0, []), (2, 1, 7, 0, 0, 0, 0, []), (3, 1, 3, 2, 0, 0, 0, []), (4, 1, 1, 0, 0, 0, 0, []), (5, 1, 1, 1, 0, 0, 0, []), (6, 1, 6, 5, 0, 0, 0, []), (7, 3, 10, 3, 21, 0, 0, []), (10, 1, 1, 2, 0, 0, 0, []), (11, 1, 1, 1, 0, 0, 0, []), (12, 1, 6, 2, 0, 0, 0, []), (13, 1, 1, 0, 0, 0, 0, []), (14, 3, 11, 0, 21, 0, 0, []), (17, 1, 1, 2, 0, 0, 0, []), (18, 1, 0, 0, 0, 0, 1, []), (19, 1, 6, 1, 0, 0, 0, []), (20, 1, 39, 0, 0, 0, 0, [])]
def p218_21 : List PI := [(21, 1, 1, 2, 0, 0, 0, []), (22, 1, 39, 0, 0, 0, 0, [])]
def p218 : List (Nat × List PI) := [(0, p218_0), (21, p218_21)]
def p219_0 : List PI := [(0, 1, 1, 0, 0, 0, 0, []), (1, 3, 10, 3, 9, 0, 0, []), (4, 1, 1, 0, 0, 0, 0, []), (5, 1, 9, 0, 0, 0, 0, []), (6, 3, 14, 0, 10, 0, 0, [])]
def p219_9 : List PI := [(9, 1, 1, 0, 0, 0, 0, []), (10, 0, 45, 0, 10, 0, 0, [])]
def p219_10 : List PI := [(10, 1, 39, 0, 0, 0, 0, [])]
def p219 : List (Nat × List PI) := [(0, p219_0), (9, p219_9), (10, p219_10)]
def p220_0 : List PI := [(0, 1, 1, 0, 0, 0, 0, []), (1, 1, 1, 1, 0, 0, 0, []), (2, 3, 11, 2, 9, 0, 0, []), (5, 1, 1, 0, 0, 0, 0, []), (6, 3, 14, 0, 10, 0, 0, [])]
def p220_9 : List PI := [(9, 1, 1, 1, 0, 0, 0, []), (10, 0, 45, 0, 10, 0, 0, [])]
def p220_10 : List PI := [(10, 1, 39, 0, 0, 0, 0, [])]
def p220 : List (Nat × List PI) := [(0, p220_0), (9, p220_9), (10, p220_10)]
def p221_0 : List PI := [(0, 1, 1, 0, 0, 0, 0, []), (1, 1, 1, 1, 0, 0, 0, []), (2, 3, 11, 4, 9, 0, 0, []), (5, 1, 1, 0, 0, 0, 0, []), (6, 3, 14, 0, 10, 0, 0, [])]
def p221_9 : List PI := [(9, 1, 1, 1, 0, 0, 0, []), (10, 0, 45, 0, 10, 0, 0, [])]
def p221_10 : List PI := [(10, 1, 39, 0, 0, 0, 0, [])]
def p221 : List (Nat × List PI) := [(0, p221_0), (9, p221_9), (10, p221_10)]
def p222_0 : List PI := [(0, 1, 0, 0, 0, 0, 0, []), (1, 1, 3, 2, 0, 0, 0, []), (2, 1, 2, 0, 0, 0, 0, []), (3, 1, 27, 0, 0, 0, 0, []), (4, 1, 3, 3, 0, 0, 0, []), (5, 0, 45, 0, 5, 0, 0, [])]
def p222_5 : List PI := [(5, 1, 1, 2, 0, 0, 0, []), (6, 1, 1, 3, 0, 0, 0, []), (7, 3, 11, 3, 20, 0, 0, []), (10, 1, 2, 0, 0, 0, 0, []), (11, 1, 1, 2, 0, 0, 0, []), (12, 1, 1, 1, 0, 0, 0, []), (13, 1, 24, 0, 0, 0, 0, []), (14, 3, 5, 2, 0, 0, 1, []), (17, 3, 14, 0, 5, 0, 0, [])]
def p222_20 : List PI := [(20, 1, 38, 0, 0, 0, 0, [])]
def p222 : List (Nat × List PI) := [(0, p222_0), (5, p222_5), (20, p222_20)]
def p223_0 : List PI := [(0, 1, 1, 1, 0, 0, 0, []), (1, 1, 2, 0, 0, 0, 0, []), (2, 1, 27, 0, 0, 0, 0, []), (3, 3, 11, 1, 14, 0, 0, []), (6, 1, 2, 0, 0, 0, 0, []), (7, 3, 46, 0, 0, 316, 0, [769, 770, 771, 772, 773, 774]), (10, 3, 47, 0, 0, 317, 0, [775]), (13, 1, 41, 0, 0, 0, 0, [])]
def p223_14 : List PI := [(14, 1, 1, 1, 0, 0, 0, []), (15, 2, 30, 0, 0, 0, 0, [127]), (17, 1, 4, 2, 0, 0, 0, []), (18, 1, 2, 0, 0, 0, 0, []), (19, 1, 0, 0, 0, 0, 0, []), (20, 1, 2, 2, 0, 0, 0, []), (21, 1, 0, 0, 0, 0, 0, []), (22, 1, 2, 0, 0, 0, 0, []), (23, 1, 27, 0, 0, 0, 0, []), (24, 1, 1, 1, 0, 0, 0, []), (25, 3, 35, 221, 2, 0, 1, [304, 90, 776, 535]), (28, 3, 44, 0, 0, 150, 0, [777, 779, 778, 92]), (31, 1, 2, 2, 0, 0, 0, []), (32, 1, 41, 0, 0, 0, 0, [])]
def p223 : List (Nat × List PI) := [(0, p223_0), (14, p223_14)]
def p224_0 : List PI := [(0, 3, 29, 10, 0, 7, 0, [93, 94, 77]), (3, 1, 32, 0, 0, 0, 0, []), (4, 3, 36, 49, 1, 11, 2, [9, 77, 95, 96]), (7, 1, 4, 1, 0, 0, 0, []), (8, 3, 29, 11, 0, 10, 0, [1129, 934, 88]), (11, 1, 32, 0, 0, 0, 0, []), (12, 3, 36, 174, 1, 12, 2, [12, 88, 1130, 1131]), (15, 1, 4, 2, 0, 0, 0, []), (16, 1, 0, 0, 0, 0, 0, []), (17, 1, 3, 3, 0, 0, 0, []), (18, 0, 45, 0, 18, 0, 0, [])]
def p224_18 : List PI := [(18, 1, 1, 3, 0, 0, 0, []), (19, 1, 2, 0, 0, 0, 0, []), (20, 1, 27, 0, 0, 0, 0, []), (21, 2, 0, 0, 0, 0, 7, []), (23, 1, 6, 1, 0, 0, 0, []), (24, 3, 11, 4, 1975, 0, 0, []), (27, 1, 2, 0, 0, 0, 0, []), (28, 1, 1, 3, 0, 0, 0, []), (29, 1, 22, 0, 0, 0, 0, []), (30, 2, 0, 0, 0, 0, 63, []), (32, 1, 6, 3, 0, 0, 0, []), (33, 187, 15, 0, 1969, 0, 0, [220, 243, 286, 329, 362, 395, 448, 491, 544, 607, 686, 729, 792, 867, 942, 975, 1018, 1061, 1094, 1127, 1160, 1183, 1206, 1239, 1282, 1335, 1378, 1411, 1444, 1477, 1510, 1553, 1576, 1609, 1632, 1665, 1708, 1731, 1764, 1787, 1830, 1873, 1906])]
def p224_220 : List PI := [(220, 1, 2, 1, 0, 0, 0, []), (221, 1, 2, 0, 0, 0, 0, []), (222, 1, 1, 3, 0, 0, 0, []), (223, 1, 0, 0, 0, 0, 1, []), (224, 1, 6, 0, 0, 0, 0, []), (225, 1, 22, 0, 0, 0, 0, []), (226, 3, 35, 50, 2, 11, 0, [13, 77, 363, 364, 365]), (229, 1, 2, 2, 0, 0, 0, []), (230, 1, 2, 0, 0, 0, 0, []), (231, 1, 1, 3, 0, 0, 0, []), (232, 1, 0, 0, 0, 0, 1, []), (233, 1, 6, 0, 0, 0, 0, []), (234, 1, 22, 0, 0, 0, 0, []), (235, 3, 35, 133, 2, 12, 0, [17, 88, 927, 928, 929]), (238, 3, 11, 0, 1969, 0, 0, []), (241, 1, 0, 0, 0, 0, 0, []), (242, 1, 40, 0, 0, 0, 0, [])]
def p224_243 : List PI := [(243, 1, 2, 1, 0, 0, 0, []), (244, 1, 2, 0, 0, 0, 0, []), (245, 1, 1, 3, 0, 0, 0, []), (246, 1, 0, 0, 0, 0, 1, []), (247, 1, 6, 0, 0, 0, 0, []), (248, 1, 22, 0, 0, 0, 0, []), (249, 1, 2, 0, 0, 0, 0, []), (250, 1, 1, 3, 0, 0, 0, []), (251, 1, 0, 0, 0, 0, 2, []), (252, 1, 6, 0, 0, 0, 0, []), (253, 1, 22, 0, 0, 0, 0, []), (254, 1, 2, 0, 0, 0, 0, []), (255, 1, 1, 3, 0, 0, 0, []), (256, 1, 0, 0, 0, 0, 3, []), (257, 1, 6, 0, 0, 0, 0, []), (258, 1, 22, 0, 0, 0, 0, []), (259, 3, 35, 51, 4, 11, 0, [18, 77, 370, 371, 372]), (262, 1, 2, 2, 0, 0, 0, []), (263, 1, 2, 0, 0, 0, 0, []), (264, 1, 1, 3, 0, 0, 0, []), (265, 1, 0, 0, 0, 0, 1, []), (266, 1, 6, 0, 0, 0, 0, []), (267, 1, 22, 0, 0, 0, 0, []), (268, 1, 2, 0, 0, 0, 0, []), (269, 1, 1, 3, 0, 0, 0, []), (270, 1, 0, 0, 0, 0, 2, []), (271, 1, 6, 0, 0, 0, 0, []), (272, 1, 22, 0, 0, 0, 0, []), (273, 1, 2, 0, 0, 0, 0, []), (274, 1, 1, 3, 0, 0, 0, []), (275, 1, 0, 0, 0, 0, 3, []), (276, 1, 6, 0, 0, 0, 0, []), (277, 1, 22, 0, 0, 0, 0, []), (278, 3, 35, 134, 4, 12, 0, [22, 88, 936, 937, 938]), (281, 3, 11, 0, 1969, 0, 0, []), (284, 1, 0, 0, 0, 0, 0, []), (285, 1, 40, 0, 0, 0, 0, [])]
def p224_286 : List PI := [(286, 1, 2, 1, 0, 0, 0, []), (287, 1, 2, 0, 0, 0, 0, []), (288, 1, 1, 3, 0, 0, 0, []), (289, 1, 0, 0, 0, 0, 1, []), (290, 1, 6, 0, 0, 0, 0, []), (291, 1, 22, 0, 0, 0, 0, []), (292, 1, 2, 0, 0, 0, 0, []), (293, 1, 1, 3, 0, 0, 0, []), (294, 1, 0, 0, 0, 0, 2, []), (295, 1, 6, 0, 0, 0, 0, []), (296, 1, 22, 0, 0, 0, 0, []), (297, 1, 2, 0, 0, 0, 0, []), (298, 1, 1, 3, 0, 0, 0, []), (299, 1, 0, 0, 0, 0, 3, []), (300, 1, 6, 0, 0, 0, 0, []), (301, 1, 22, 0, 0, 0, 0, []), (302, 3, 35, 52, 4, 11, 0, [23, 77, 374, 375, 376]), (305, 1, 2, 2, 0, 0, 0, []), (306, 1, 2, 0, 0, 0, 0, []), (307, 1, 1, 3, 0, 0, 0, []), (308, 1, 0, 0, 0, 0, 1, []), (309, 1, 6, 0, 0, 0, 0, []), (310, 1, 22, 0, 0, 0, 0, []), (311, 1, 2, 0, 0, 0, 0, []), (312, 1, 1, 3, 0, 0, 0, []), (313, 1, 0, 0, 0, 0, 2, []), (314, 1, 6, 0, 0, 0, 0, []), (315, 1, 22, 0, 0, 0, 0, []), (316, 1, 2, 0, 0, 0, 0, []), (317, 1, 1, 3, 0, 0, 0, []), (318, 1, 0, 0, 0, 0, 3, []), (319, 1, 6, 0, 0, 0, 0, []), (320, 1, 22, 0, 0, 0, 0, []), (321, 3, 35, 135, 4, 12, 0, [26, 88, 940, 941, 942]), (324, 3, 11, 0, 1969, 0, 0, []), (327, 1, 0, 0, 0, 0, 0, []), (328, 1, 40, 0, 0, 0, 0, [])]
def p224_329 : List PI := [(329, 1, 2, 1, 0, 0, 0, []), (330, 1, 2, 0, 0, 0, 0, []), (331, 1, 1, 3, 0, 0, 0, []), (332, 1, 0, 0, 0, 0, 1, []), (333, 1, 6, 0, 0, 0, 0, []), (334, 1, 22, 0, 0, 0, 0, []), (335, 1, 2, 0, 0, 0, 0, []), (336, 1, 1, 3, 0, 0, 0, []), (337, 1, 0, 0, 0, 0, 2, []), (338, 1, 6, 0, 0, 0, 0, []), (339, 1, 22, 0, 0, 0, 0, []), (340, 3, 35, 53, 3, 11, 0, [27, 77, 378, 379, 380]), (343, 1, 2, 2, 0, 0, 0, []), (344, 1, 2, 0, 0, 0, 0, []), (345, 1, 1, 3, 0, 0, 0, []), (346, 1, 0, 0, 0, 0, 1, []), (347, 1, 6, 0, 0, 0, 0, []), (348, 1, 22, 0, 0, 0, 0, []), (349, 1, 2, 0, 0, 0, 0, []), (350, 1, 1, 3, 0, 0, 0, []), (351, 1, 0, 0, 0, 0, 2, []), (352, 1, 6, 0, 0, 0, 0, []), (353, 1, 22, 0, 0, 0, 0, []), (354, 3, 35, 136, 3, 12, 0, [31, 88, 944, 945, 946]), (357, 3, 11, 0, 1969, 0, 0, []), (360, 1, 0, 0, 0, 0, 0, []), (361, 1, 40, 0, 0, 0, 0, [])]
def p224_362 : List PI := [(362, 1, 2, 1, 0, 0, 0, []), (363, 1, 2, 0, 0, 0, 0, []), (364, 1, 1, 3, 0, 0, 0, []), (365, 1, 0, 0, 0, 0, 1, []), (366, 1, 6, 0, 0, 0, 0, []), (367, 1, 22, 0, 0, 0, 0, []), (368, 1, 2, 0, 0, 0, 0, []), (369, 1, 1, 3, 0, 0, 0, []), (370, 1, 0, 0, 0, 0, 2, []), (371, 1, 6, 0, 0, 0, 0, []), (372, 1, 22, 0, 0, 0, 0, []), (373, 3, 35, 54, 3, 11, 0, [32, 77, 385, 386, 387]), (376, 1, 2, 2, 0, 0, 0, []), (377, 1, 2, 0, 0, 0, 0, []), (378, 1, 1, 3, 0, 0, 0, []), (379, 1, 0, 0, 0, 0, 1, []), (380, 1, 6, 0, 0, 0, 0, []), (381, 1, 22, 0, 0, 0, 0, []), (382, 1, 2, 0, 0, 0, 0, []), (383, 1, 1, 3, 0, 0, 0, []), (384, 1, 0, 0, 0, 0, 2, []), (385, 1, 6, 0, 0, 0, 0, []), (386, 1, 22, 0, 0, 0, 0, []), (387, 3, 35, 137, 3, 12, 0, [35, 88, 952, 953, 954]), (390, 3, 11, 0, 1969, 0, 0, []), (393, 1, 0, 0, 0, 0, 0, []), (394, 1, 40, 0, 0, 0, 0, [])]
def p224_395 : List PI := [(395, 1, 2, 1, 0, 0, 0, []), (396, 1, 2, 0, 0, 0, 0, []), (397, 1, 1, 3, 0, 0, 0, []), (398, 1, 0, 0, 0, 0, 1, []), (399, 1, 6, 0, 0, 0, 0, []), (400, 1, 22, 0, 0, 0, 0, []), (401, 1, 2, 0, 0, 0, 0, []), (402, 1, 1, 3, 0, 0, 0, []), (403, 1, 0, 0, 0, 0, 2, []), (404, 1, 6, 0, 0, 0, 0, []), (405, 1, 22, 0, 0, 0, 0, []), (406, 1, 2, 0, 0, 0, 0, []), (407, 1, 1, 3, 0, 0, 0, []), (408, 1, 0, 0, 0, 0, 3, []), (409, 1, 6, 0, 0, 0, 0, []), (410, 1, 22, 0, 0, 0, 0, []), (411, 1, 2, 0, 0, 0, 0, []), (412, 1, 1, 3, 0, 0, 0, []), (413, 1, 0, 0, 0, 0, 4, []), (414, 1, 6, 0, 0, 0, 0, []), (415, 1, 22, 0, 0, 0, 0, []), (416, 3, 35, 55, 5, 11, 0, [36, 77, 389, 390, 391]), (419, 1, 2, 2, 0, 0, 0, []), (420, 1, 2, 0, 0, 0, 0, []), (421, 1, 1, 3, 0, 0, 0, []), (422, 1, 0, 0, 0, 0, 1, []), (423, 1, 6, 0, 0, 0, 0, []), (424, 1, 22, 0, 0, 0, 0, []), (425, 1, 2, 0, 0, 0, 0, []), (426, 1, 1, 3, 0, 0, 0, []), (427, 1, 0, 0, 0, 0, 2, []), (428, 1, 6, 0, 0, 0, 0, []), (429, 1, 22, 0, 0, 0, 0, []), (430, 1, 2, 0, 0, 0, 0, []), (431, 1, 1, 3, 0, 0, 0, []), (432, 1, 0, 0, 0, 0, 3, []), (433, 1, 6, 0, 0, 0, 0, []), (434, 1, 22, 0, 0, 0, 0, []), (435, 1, 2, 0, 0, 0, 0, []), (436, 1, 1, 3, 0, 0, 0, []), (437, 1, 0, 0, 0, 0, 4, []), (438, 1, 6, 0, 0, 0, 0, []), (439, 1, 22, 0, 0, 0, 0, []), (440, 3, 35, 138, 5, 12, 0, [40, 88, 956, 957, 958]), (443, 3, 11, 0, 1969, 0, 0, []), (446, 1, 0, 0, 0, 0, 0, []), (447, 1, 40, 0, 0, 0, 0, [])]
def p224_448 : List PI := [(448, 1, 2, 1, 0, 0, 0, []), (449, 1, 2, 0, 0, 0, 0, []), (450, 1, 1, 3, 0, 0, 0, []), (451, 1, 0, 0, 0, 0, 1, []), (452, 1, 6, 0, 0, 0, 0, []), (453, 1, 22, 0, 0, 0, 0, []), (454, 1, 2, 0, 0, 0, 0, []), (455, 1, 1, 3, 0, 0, 0, []), (456, 1, 0, 0, 0, 0, 2, []), (457, 1, 6, 0, 0, 0, 0, []), (458, 1, 22, 0, 0, 0, 0, []), (459, 1, 2, 0, 0, 0, 0, []), (460, 1, 1, 3, 0, 0, 0, []), (461, 1, 0, 0, 0, 0, 3, []), (462, 1, 6, 0, 0, 0, 0, []), (463, 1, 22, 0, 0, 0, 0, []), (464, 3, 35, 56, 4, 11, 0, [41, 77, 400, 401, 402]), (467, 1, 2, 2, 0, 0, 0, []), (468, 1, 2, 0, 0, 0, 0, []), (469, 1, 1, 3, 0, 0, 0, []), (470, 1, 0, 0, 0, 0, 1, []), (471, 1, 6, 0, 0, 0, 0, []), (472, 1, 22, 0, 0, 0, 0, []), (473, 1, 2, 0, 0, 0, 0, []), (474, 1, 1, 3, 0, 0, 0, []), (475, 1, 0, 0, 0, 0, 2, []), (476, 1, 6, 0, 0, 0, 0, []), (477, 1, 22, 0, 0, 0, 0, []), (478, 1, 2, 0, 0, 0, 0, []), (479, 1, 1, 3, 0, 0, 0, []), (480, 1, 0, 0, 0, 0, 3, []), (481, 1, 6, 0, 0, 0, 0, []), (482, 1, 22, 0, 0, 0, 0, []), (483, 3, 35, 139, 4, 12, 0, [44, 88, 964, 965, 966]), (486, 3, 11, 0, 1969, 0, 0, []), (489, 1, 0, 0, 0, 0, 0, []), (490, 1, 40, 0, 0, 0, 0, [])]
def p224_491 : List PI := [(491, 1, 2, 1, 0, 0, 0, []), (492, 1, 2, 0, 0, 0, 0, []), (493, 1, 1, 3, 0, 0, 0, []), (494, 1, 0, 0, 0, 0, 1, []), (495, 1, 6, 0, 0, 0, 0, []), (496, 1, 22, 0, 0, 0, 0, []), (497, 1, 2, 0, 0, 0, 0, []), (498, 1, 1, 3, 0, 0, 0, []), (499, 1, 0, 0, 0, 0, 2, []), (500, 1, 6, 0, 0, 0, 0, []), (501, 1, 22, 0, 0, 0, 0, []), (502, 1, 2, 0, 0, 0, 0, []), (503, 1, 1, 3, 0, 0, 0, []), (504, 1, 0, 0, 0, 0, 3, []), (505, 1, 6, 0, 0, 0, 0, []), (506, 1, 22, 0, 0, 0, 0, []), (507, 1, 2, 0, 0, 0, 0, []), (508, 1, 1, 3, 0, 0, 0, []), (509, 1, 0, 0, 0, 0, 4, []), (510, 1, 6, 0, 0, 0, 0, []), (511, 1, 22, 0, 0, 0, 0, []), (512, 3, 35, 57, 5, 11, 0, [45, 77, 407, 408, 409]), (515, 1, 2, 2, 0, 0, 0, []), (516, 1, 2, 0, 0, 0, 0, []), (517, 1, 1, 3, 0, 0, 0, []), (518, 1, 0, 0, 0, 0, 1, []), (519, 1, 6, 0, 0, 0, 0, []), (520, 1, 22, 0, 0, 0, 0, []), (521, 1, 2, 0, 0, 0, 0, []), (522, 1, 1, 3, 0, 0, 0, []), (523, 1, 0, 0, 0, 0, 2, []), (524, 1, 6, 0, 0, 0, 0, []), (525, 1, 22, 0, 0, 0, 0, []), (526, 1, 2, 0, 0, 0, 0, []), (527, 1, 1, 3, 0, 0, 0, []), (528, 1, 0, 0, 0, 0, 3, []), (529, 1, 6, 0, 0, 0, 0, []), (530, 1, 22, 0, 0, 0, 0, []), (531, 1, 2, 0, 0, 0, 0, []), (532, 1, 1, 3, 0, 0, 0, []), (533, 1, 0, 0, 0, 0, 4, []), (534, 1, 6, 0, 0, 0, 0, []), (535, 1, 22, 0, 0, 0, 0, []), (536, 3, 35, 140, 5, 12, 0, [48, 88, 972, 973, 974]), (539, 3, 11, 0, 1969, 0, 0, []), (542, 1, 0, 0, 0, 0, 0, []), (543, 1, 40, 0, 0, 0, 0, [])]
def p224_544 : List PI := [(544, 1, 2, 1, 0, 0, 0, []), (545, 1, 2, 0, 0, 0, 0, []), (546, 1, 1, 3, 0, 0, 0, []), (547, 1, 0, 0, 0, 0, 1, []), (548, 1, 6, 0, 0, 0, 0, []), (549, 1, 22, 0, 0, 0, 0, []), (550, 1, 2, 0, 0, 0, 0, []), (551, 1, 1, 3, 0, 0, 0, []), (552, 1, 0, 0, 0, 0, 2, []), (553, 1, 6, 0, 0, 0, 0, []), (554, 1, 22, 0, 0, 0, 0, []), (555, 1, 2, 0, 0, 0, 0, []), (556, 1, 1, 3, 0, 0, 0, []), (557, 1, 0, 0, 0, 0, 3, []), (558, 1, 6, 0, 0, 0, 0, []), (559, 1, 22, 0, 0, 0, 0, []), (560, 1, 2, 0, 0, 0, 0, []), (561, 1, 1, 3, 0, 0, 0, []), (562, 1, 0, 0, 0, 0, 4, []), (563, 1, 6, 0, 0, 0, 0, []), (564, 1, 22, 0, 0, 0, 0, []), (565, 1, 2, 0, 0, 0, 0, []), (566, 1, 1, 3, 0, 0, 0, []), (567, 1, 0, 0, 0, 0, 5, []), (568, 1, 6, 0, 0, 0, 0, []), (569, 1, 22, 0, 0, 0, 0, []), (570, 3, 35, 58, 6, 11, 0, [49, 77, 411, 412, 413]), (573, 1, 2, 2, 0, 0, 0, []), (574, 1, 2, 0, 0, 0, 0, []), (575, 1, 1, 3, 0, 0, 0, []), (576, 1, 0, 0, 0, 0, 1, []), (577, 1, 6, 0, 0, 0, 0, []), (578, 1, 22, 0, 0, 0, 0, []), (579, 1, 2, 0, 0, 0, 0, []), (580, 1, 1, 3, 0, 0, 0, []), (581, 1, 0, 0, 0, 0, 2, []), (582, 1, 6, 0, 0, 0, 0, []), (583, 1, 22, 0, 0, 0, 0, []), (584, 1, 2, 0, 0, 0, 0, []), (585, 1, 1, 3, 0, 0, 0, []), (586, 1, 0, 0, 0, 0, 3, []), (587, 1, 6, 0, 0, 0, 0, []), (588, 1, 22, 0, 0, 0, 0, []), (589, 1, 2, 0, 0, 0, 0, []), (590, 1, 1, 3, 0, 0, 0, []), (591, 1, 0, 0, 0, 0, 4, []), (592, 1, 6, 0, 0, 0, 0, []), (593, 1, 22, 0, 0, 0, 0, []), (594, 1, 2, 0, 0, 0, 0, []), (595, 1, 1, 3, 0, 0, 0, []), (596, 1, 0, 0, 0, 0, 5, []), (597, 1, 6, 0, 0, 0, 0, []), (598, 1, 22, 0, 0, 0, 0, []), (599, 3, 35, 144, 6, 12, 0, [53, 88, 976, 977, 978]), (602, 3, 11, 0, 1969, 0, 0, []), (605, 1, 0, 0, 0, 0, 0, []), (606, 1, 40, 0, 0, 0, 0, [])]
def p224_607 : List PI := [(607, 1, 2, 1, 0, 0, 0, []), (608, 1, 2, 0, 0, 0, 0, []), (609, 1, 1, 3, 0, 0, 0, []), (610, 1, 0, 0, 0, 0, 1, []), (611, 1, 6, 0, 0, 0, 0, []), (612, 1, 22, 0, 0, 0, 0, []), (613, 1, 2, 0, 0, 0, 0, []), (614, 1, 1, 3, 0, 0, 0, []), (615, 1, 0, 0, 0, 0, 2, []), (616, 1, 6, 0, 0, 0, 0, []), (617, 1, 22, 0, 0, 0, 0, []), (618, 1, 2, 0, 0, 0, 0, []), (619, 1, 1, 3, 0, 0, 0, []), (620, 1, 0, 0, 0, 0, 3, []), (621, 1, 6, 0, 0, 0, 0, []), (622, 1, 22, 0, 0, 0, 0, []), (623, 1, 2, 0, 0, 0, 0, []), (624, 1, 1, 3, 0, 0, 0, []), (625, 1, 0, 0, 0, 0, 4, []), (626, 1, 6, 0, 0, 0, 0, []), (627, 1, 22, 0, 0, 0, 0, []), (628, 1, 2, 0, 0, 0, 0, []), (629, 1, 1, 3, 0, 0, 0, []), (630, 1, 0, 0, 0, 0, 5, []), (631, 1, 6, 0, 0, 0, 0, []), (632, 1, 22, 0, 0, 0, 0, []), (633, 3, 10, 0, 640, 0, 0, []), (636, 1, 0, 0, 0, 0, 1, []), (637, 3, 14, 0, 641, 0, 0, [])]
def p224_640 : List PI := [(640, 1, 0, 0, 0, 0, 0, []), (641, 0, 45, 0, 641, 0, 0, [])]
def p224_641 : List PI := [(641, 3, 35, 59, 6, 11, 0, [54, 77, 470, 471, 472]), (644, 1, 2, 2, 0, 0, 0, []), (645, 1, 2, 0, 0, 0, 0, []), (646, 1, 1, 3, 0, 0, 0, []), (647, 1, 0, 0, 0, 0, 1, []), (648, 1, 6, 0, 0, 0, 0, []), (649, 1, 22, 0, 0, 0, 0, []), (650, 1, 2, 0, 0, 0, 0, []), (651, 1, 1, 3, 0, 0, 0, []), (652, 1, 0, 0, 0, 0, 2, []), (653, 1, 6, 0, 0, 0, 0, []), (654, 1, 22, 0, 0, 0, 0, []), (655, 1, 2, 0, 0, 0, 0, []), (656, 1, 1, 3, 0, 0, 0, []), (657, 1, 0, 0, 0, 0, 3, []), (658, 1, 6, 0, 0, 0, 0, []), (659, 1, 22, 0, 0, 0, 0, []), (660, 1, 2, 0, 0, 0, 0, []), (661, 1, 1, 3, 0, 0, 0, []), (662, 1, 0, 0, 0, 0, 4, []), (663, 1, 6, 0, 0, 0, 0, []), (664, 1, 22, 0, 0, 0, 0, []), (665, 1, 2, 0, 0, 0, 0, []), (666, 1, 1, 3, 0, 0, 0, []), (667, 1, 0, 0, 0, 0, 5, []), (668, 1, 6, 0, 0, 0, 0, []), (669, 1, 22, 0, 0, 0, 0, []), (670, 3, 10, 0, 677, 0, 0, []), (673, 1, 0, 0, 0, 0, 1, []), (674, 3, 14, 0, 678, 0, 0, [])]
def p224_677 : List PI := [(677, 1, 0, 0, 0, 0, 0, []), (678, 0, 45, 0, 678, 0, 0, [])]
def p224_678 : List PI := [(678, 3, 35, 145, 6, 12, 0, [58, 88, 989, 990, 991]), (681, 3, 11, 0, 1969, 0, 0, []), (684, 1, 0, 0, 0, 0, 0, []), (685, 1, 40, 0, 0, 0, 0, [])]
def p224_686 : List PI := [(686, 1, 2, 1, 0, 0, 0, []), (687, 1, 2, 0, 0, 0, 0, []), (688, 1, 1, 3, 0, 0, 0, []), (689, 1, 0, 0, 0, 0, 1, []), (690, 1, 6, 0, 0, 0, 0, []), (691, 1, 22, 0, 0, 0, 0, []), (692, 1, 2, 0, 0, 0, 0, []), (693, 1, 1, 3, 0, 0, 0, []), (694, 1, 0, 0, 0, 0, 2, []), (695, 1, 6, 0, 0, 0, 0, []), (696, 1, 22, 0, 0, 0, 0, []), (697, 1, 2, 0, 0, 0, 0, []), (698, 1, 1, 3, 0, 0, 0, []), (699, 1, 0, 0, 0, 0, 3, []), (700, 1, 6, 0, 0, 0, 0, []), (701, 1, 22, 0, 0, 0, 0, []), (702, 3, 35, 60, 4, 11, 0, [59, 77, 481, 482, 483]), (705, 1, 2, 2, 0, 0, 0, []), (706, 1, 2, 0, 0, 0, 0, []), (707, 1, 1, 3, 0, 0, 0, []), (708, 1, 0, 0, 0, 0, 1, []), (709, 1, 6, 0, 0, 0, 0, []), (710, 1, 22, 0, 0, 0, 0, []), (711, 1, 2, 0, 0, 0, 0, []), (712, 1, 1, 3, 0, 0, 0, []), (713, 1, 0, 0, 0, 0, 2, []), (714, 1, 6, 0, 0, 0, 0, []), (715, 1, 22, 0, 0, 0, 0, []), (716, 1, 2, 0, 0, 0, 0, []), (717, 1, 1, 3, 0, 0, 0, []), (718, 1, 0, 0, 0, 0, 3, []), (719, 1, 6, 0, 0, 0, 0, []), (720, 1, 22, 0, 0, 0, 0, []), (721, 3, 35, 146, 4, 12, 0, [62, 88, 993, 994, 995]), (724, 3, 11, 0, 1969, 0, 0, []), (727, 1, 0, 0, 0, 0, 0, []), (728, 1, 40, 0, 0, 0, 0, [])]
def p224_729 : List PI := [(729, 1, 2, 1, 0, 0, 0, []), (730, 1, 2, 0, 0, 0, 0, []), (731, 1, 1, 3, 0, 0, 0, []), (732, 1, 0, 0, 0, 0, 1, []), (733, 1, 6, 0, 0, 0, 0, []), (734, 1, 22, 0, 0, 0, 0, []), (735, 1, 2, 0, 0, 0, 0, []), (736, 1, 1, 3, 0, 0, 0, []), (737, 1, 0, 0, 0, 0, 2, []), (738, 1, 6, 0, 0, 0, 0, []), (739, 1, 22, 0, 0, 0, 0, []), (740, 1, 2, 0, 0, 0, 0, []), (741, 1, 1, 3, 0, 0, 0, []), (742, 1, 0, 0, 0, 0, 3, []), (743, 1, 6, 0, 0, 0, 0, []), (744, 1, 22, 0, 0, 0, 0, []), (745, 1, 2, 0, 0, 0, 0, []), (746, 1, 1, 3, 0, 0, 0, []), (747, 1, 0, 0, 0, 0, 4, []), (748, 1, 6, 0, 0, 0, 0, []), (749, 1, 22, 0, 0, 0, 0, []), (750, 1, 2, 0, 0, 0, 0, []), (751, 1, 1, 3, 0, 0, 0, []), (752, 1, 0, 0, 0, 0, 5, []), (753, 1, 6, 0, 0, 0, 0, []), (754, 1, 22, 0, 0, 0, 0, []), (755, 3, 35, 61, 6, 11, 0, [63, 77, 485, 486, 487]), (758, 1, 2, 2, 0, 0, 0, []), (759, 1, 2, 0, 0, 0, 0, []), (760, 1, 1, 3, 0, 0, 0, []), (761, 1, 0, 0, 0, 0, 1, []), (762, 1, 6, 0, 0, 0, 0, []), (763, 1, 22, 0, 0, 0, 0, []), (764, 1, 2, 0, 0, 0, 0, []), (765, 1, 1, 3, 0, 0, 0, []), (766, 1, 0, 0, 0, 0, 2, []), (767, 1, 6, 0, 0, 0, 0, []), (768, 1, 22, 0, 0, 0, 0, []), (769, 1, 2, 0, 0, 0, 0, []), (770, 1, 1, 3, 0, 0, 0, []), (771, 1, 0, 0, 0, 0, 3, []), (772, 1, 6, 0, 0, 0, 0, []), (773, 1, 22, 0, 0, 0, 0, []), (774, 1, 2, 0, 0, 0, 0, []), (775, 1, 1, 3, 0, 0, 0, []), (776, 1, 0, 0, 0, 0, 4, []), (777, 1, 6, 0, 0, 0, 0, []), (778, 1, 22, 0, 0, 0, 0, []), (779, 1, 2, 0, 0, 0, 0, []), (780, 1, 1, 3, 0, 0, 0, []), (781, 1, 0, 0, 0, 0, 5, []), (782, 1, 6, 0, 0, 0, 0, []), (783, 1, 22, 0, 0, 0, 0, []), (784, 3, 35, 147, 6, 12, 0, [66, 88, 997, 998, 999]), (787, 3, 11, 0, 1969, 0, 0, []), (790, 1, 0, 0, 0, 0, 0, []), (791, 1, 40, 0, 0, 0, 0, [])]
def p224_792 : List PI := [(792, 1, 2, 1, 0, 0, 0, []), (793, 1, 2, 0, 0, 0, 0, []), (794, 1, 1, 3, 0, 0, 0, []), (795, 1, 0, 0, 0, 0, 1, []), (796, 1, 6, 0, 0, 0, 0, []), (797, 1, 22, 0, 0, 0, 0, []), (798, 1, 2, 0, 0, 0, 0, []), (799, 1, 1, 3, 0, 0, 0, []), (800, 1, 0, 0, 0, 0, 2, []), (801, 1, 6, 0, 0, 0, 0, []), (802, 1, 22, 0, 0, 0, 0, []), (803, 1, 2, 0, 0, 0, 0, []), (804, 1, 1, 3, 0, 0, 0, []), (805, 1, 0, 0, 0, 0, 3, []), (806, 1, 6, 0, 0, 0, 0, []), (807, 1, 22, 0, 0, 0, 0, []), (808, 1, 2, 0, 0, 0, 0, []), (809, 1, 1, 3, 0, 0, 0, []), (810, 1, 0, 0, 0, 0, 4, []), (811, 1, 6, 0, 0, 0, 0, []), (812, 1, 22, 0, 0, 0, 0, []), (813, 1, 2, 0, 0, 0, 0, []), (814, 1, 1, 3, 0, 0, 0, []), (815, 1, 0, 0, 0, 0, 5, []), (816, 1, 6, 0, 0, 0, 0, []), (817, 1, 22, 0, 0, 0, 0, []), (818, 1, 2, 0, 0, 0, 0, []), (819, 1, 1, 3, 0, 0, 0, []), (820, 2, 0, 0, 0, 0, 6, []), (822, 1, 6, 0, 0, 0, 0, []), (823, 1, 22, 0, 0, 0, 0, []), (824, 3, 35, 62, 7, 11, 0, [67, 77, 489, 490, 491]), (827, 1, 2, 2, 0, 0, 0, []), (828, 1, 2, 0, 0, 0, 0, []), (829, 1, 1, 3, 0, 0, 0, []), (830, 1, 0, 0, 0, 0, 1, []), (831, 1, 6, 0, 0, 0, 0, []), (832, 1, 22, 0, 0, 0, 0, []), (833, 1, 2, 0, 0, 0, 0, []), (834, 1, 1, 3, 0, 0, 0, []), (835, 1, 0, 0, 0, 0, 2, []), (836, 1, 6, 0, 0, 0, 0, []), (837, 1, 22, 0, 0, 0, 0, []), (838, 1, 2, 0, 0, 0, 0, []), (839, 1, 1, 3, 0, 0, 0, []), (840, 1, 0, 0, 0, 0, 3, []), (841, 1, 6, 0, 0, 0, 0, []), (842, 1, 22, 0, 0, 0, 0, []), (843, 1, 2, 0, 0, 0, 0, []), (844, 1, 1, 3, 0, 0, 0, []), (845, 1, 0, 0, 0, 0, 4, []), (846, 1, 6, 0, 0, 0, 0, []), (847, 1, 22, 0, 0, 0, 0, []), (848, 1, 2, 0, 0, 0, 0, []), (849, 1, 1, 3, 0, 0, 0, []), (850, 1, 0, 0, 0, 0, 5, []), (851, 1, 6, 0, 0, 0, 0, []), (852, 1, 22, 0, 0, 0, 0, []), (853, 1, 2, 0, 0, 0, 0, []), (854, 1, 1, 3, 0, 0, 0, []), (855, 2, 0, 0, 0, 0, 6, []), (857, 1, 6, 0, 0, 0, 0, []), (858, 1, 22, 0, 0, 0, 0, []), (859, 3, 35, 148, 7, 12, 0, [71, 88, 1001, 1002, 1003]), (862, 3, 11, 0, 1969, 0, 0, []), (865, 1, 0, 0, 0, 0, 0, []), (866, 1, 40, 0, 0, 0, 0, [])]
def p224_867 : List PI := [(867, 1, 2, 1, 0, 0, 0, []), (868, 1, 2, 0, 0, 0, 0, []), (869, 1, 1, 3, 0, 0, 0, []), (870, 1, 0, 0, 0, 0, 1, []), (871, 1, 6, 0, 0, 0, 0, []), (872, 1, 22, 0, 0, 0, 0, []), (873, 1, 2, 0, 0, 0, 0, []), (874, 1, 1, 3, 0, 0, 0, []), (875, 1, 0, 0, 0, 0, 2, []), (876, 1, 6, 0, 0, 0, 0, []), (877, 1, 22, 0, 0, 0, 0, []), (878, 1, 2, 0, 0, 0, 0, []), (879, 1, 1, 3, 0, 0, 0, []), (880, 1, 0, 0, 0, 0, 3, []), (881, 1, 6, 0, 0, 0, 0, []), (882, 1, 22, 0, 0, 0, 0, []), (883, 1, 2, 0, 0, 0, 0, []), (884, 1, 1, 3, 0, 0, 0, []), (885, 1, 0, 0, 0, 0, 4, []), (886, 1, 6, 0, 0, 0, 0, []), (887, 1, 22, 0, 0, 0, 0, []), (888, 1, 2, 0, 0, 0, 0, []), (889, 1, 1, 3, 0, 0, 0, []), (890, 1, 0, 0, 0, 0, 5, []), (891, 1, 6, 0, 0, 0, 0, []), (892, 1, 22, 0, 0, 0, 0, []), (893, 1, 2, 0, 0, 0, 0, []), (894, 1, 1, 3, 0, 0, 0, []), (895, 2, 0, 0, 0, 0, 6, []), (897, 1, 6, 0, 0, 0, 0, []), (898, 1, 22, 0, 0, 0, 0, []), (899, 3, 35, 63, 7, 11, 0, [72, 77, 493, 494, 495]), (902, 1, 2, 2, 0, 0, 0, []), (903, 1, 2, 0, 0, 0, 0, []), (904, 1, 1, 3, 0, 0, 0, []), (905, 1, 0, 0, 0, 0, 1, []), (906, 1, 6, 0, 0, 0, 0, []), (907, 1, 22, 0, 0, 0, 0, []), (908, 1, 2, 0, 0, 0, 0, []), (909, 1, 1, 3, 0, 0, 0, []), (910, 1, 0, 0, 0, 0, 2, []), (911, 1, 6, 0, 0, 0, 0, []), (912, 1, 22, 0, 0, 0, 0, []), (913, 1, 2, 0, 0, 0, 0, []), (914, 1, 1, 3, 0, 0, 0, []), (915, 1, 0, 0, 0, 0, 3, []), (916, 1, 6, 0, 0, 0, 0, []), (917, 1, 22, 0, 0, 0, 0, []), (918, 1, 2, 0, 0, 0, 0, []), (919, 1, 1, 3, 0, 0, 0, []), (920, 1, 0, 0, 0, 0, 4, []), (921, 1, 6, 0, 0, 0, 0, []), (922, 1, 22, 0, 0, 0, 0, []), (923, 1, 2, 0, 0, 0, 0, []), (924, 1, 1, 3, 0, 0, 0, []), (925, 1, 0, 0, 0, 0, 5, []), (926, 1, 6, 0, 0, 0, 0, []), (927, 1, 22, 0, 0, 0, 0, []), (928, 1, 2, 0, 0, 0, 0, []), (929, 1, 1, 3, 0, 0, 0, []), (930, 2, 0, 0, 0, 0, 6, []), (932, 1, 6, 0, 0, 0, 0, []), (933, 1, 22, 0, 0, 0, 0, []), (934, 3, 35, 149, 7, 12, 0, [75, 88, 1005, 1006, 1007]), (937, 3, 11, 0, 1969, 0, 0, []), (940, 1, 0, 0, 0, 0, 0, []), (941, 1, 40, 0, 0, 0, 0, [])]
def p224_942 : List PI := [(942, 1, 2, 1, 0, 0, 0, []), (943, 1, 2, 0, 0, 0, 0, []), (944, 1, 1, 3, 0, 0, 0, []), (945, 1, 0, 0, 0, 0, 1, []), (946, 1, 6, 0, 0, 0, 0, []), (947, 1, 22, 0, 0, 0, 0, []), (948, 1, 2, 0, 0, 0, 0, []), (949, 1, 1, 3, 0, 0, 0, []), (950, 1, 0, 0, 0, 0, 2, []), (951, 1, 6, 0, 0, 0, 0, []), (952, 1, 22, 0, 0, 0, 0, []), (953, 3, 35, 64, 3, 11, 0, [76, 77, 504, 505, 506]), (956, 1, 2, 2, 0, 0, 0, []), (957, 1, 2, 0, 0, 0, 0, []), (958, 1, 1, 3, 0, 0, 0, []), (959, 1, 0, 0, 0, 0, 1, []), (960, 1, 6, 0, 0, 0, 0, []), (961, 1, 22, 0, 0, 0, 0, []), (962, 1, 2, 0, 0, 0, 0, []), (963, 1, 1, 3, 0, 0, 0, []), (964, 1, 0, 0, 0, 0, 2, []), (965, 1, 6, 0, 0, 0, 0, []), (966, 1, 22, 0, 0, 0, 0, []), (967, 3, 35, 150, 3, 12, 0, [79, 88, 1013, 1014, 1015]), (970, 3, 11, 0, 1969, 0, 0, []), (973, 1, 0, 0, 0, 0, 0, []), (974, 1, 40, 0, 0, 0, 0, [])]
def p224_975 : List PI := [(975, 1, 2, 1, 0, 0, 0, []), (976, 1, 2, 0, 0, 0, 0, []), (977, 1, 1, 3, 0, 0, 0, []), (978, 1, 0, 0, 0, 0, 1, []), (979, 1, 6, 0, 0, 0, 0, []), (980, 1, 22, 0, 0, 0, 0, []), (981, 1, 2, 0, 0, 0, 0, []), (982, 1, 1, 3, 0, 0, 0, []), (983, 1, 0, 0, 0, 0, 2, []), (984, 1, 6, 0, 0, 0, 0, []), (985, 1, 22, 0, 0, 0, 0, []), (986, 1, 2, 0, 0, 0, 0, []), (987, 1, 1, 3, 0, 0, 0, []), (988, 1, 0, 0, 0, 0, 3, []), (989, 1, 6, 0, 0, 0, 0, []), (990, 1, 22, 0, 0, 0, 0, []), (991, 3, 35, 65, 4, 11, 0, [80, 77, 513, 514, 515]), (994, 1, 2, 2, 0, 0, 0, []), (995, 1, 2, 0, 0, 0, 0, []), (996, 1, 1, 3, 0, 0, 0, []), (997, 1, 0, 0, 0, 0, 1, []), (998, 1, 6, 0, 0, 0, 0, []), (999, 1, 22, 0, 0, 0, 0, []), (1000, 1, 2, 0, 0, 0, 0, []), (1001, 1, 1, 3, 0, 0, 0, []), (1002, 1, 0, 0, 0, 0, 2, []), (1003, 1, 6, 0, 0, 0, 0, []), (1004, 1, 22, 0, 0, 0, 0, []), (1005, 1, 2, 0, 0, 0, 0, []), (1006, 1, 1, 3, 0, 0, 0, []), (1007, 1, 0, 0, 0, 0, 3, []), (1008, 1, 6, 0, 0, 0, 0, []), (1009, 1, 22, 0, 0, 0, 0, []), (1010, 3, 35, 162, 4, 12, 0, [83, 88, 1069, 1070, 1071]), (1013, 3, 11, 0, 1969, 0, 0, []), (1016, 1, 0, 0, 0, 0, 0, []), (1017, 1, 40, 0, 0, 0, 0, [])]
def p224_1018 : List PI := [(1018, 1, 2, 1, 0, 0, 0, []), (1019, 1, 2, 0, 0, 0, 0, []), (1020, 1, 1, 3, 0, 0, 0, []), (1021, 1, 0, 0, 0, 0, 1, []), (1022, 1, 6, 0, 0, 0, 0, []), (1023, 1, 22, 0, 0, 0, 0, []), (1024, 1, 2, 0, 0, 0, 0, []), (1025, 1, 1, 3, 0, 0, 0, []), (1026, 1, 0, 0, 0, 0, 2, []), (1027, 1, 6, 0, 0, 0, 0, []), (1028, 1, 22, 0, 0, 0, 0, []), (1029, 1, 2, 0, 0, 0, 0, []), (1030, 1, 1, 3, 0, 0, 0, []), (1031, 1, 0, 0, 0, 0, 3, []), (1032, 1, 6, 0, 0, 0, 0, []), (1033, 1, 22, 0, 0, 0, 0, []), (1034, 3, 35, 66, 4, 11, 0, [84, 77, 583, 584, 585]), (1037, 1, 2, 2, 0, 0, 0, []), (1038, 1, 2, 0, 0, 0, 0, []), (1039, 1, 1, 3, 0, 0, 0, []), (1040, 1, 0, 0, 0, 0, 1, []), (1041, 1, 6, 0, 0, 0, 0, []), (1042, 1, 22, 0, 0, 0, 0, []), (1043, 1, 2, 0, 0, 0, 0, []), (1044, 1, 1, 3, 0, 0, 0, []), (1045, 1, 0, 0, 0, 0, 2, []), (1046, 1, 6, 0, 0, 0, 0, []), (1047, 1, 22, 0, 0, 0, 0, []), (1048, 1, 2, 0, 0, 0, 0, []), (1049, 1, 1, 3, 0, 0, 0, []), (1050, 1, 0, 0, 0, 0, 3, []), (1051, 1, 6, 0, 0, 0, 0, []), (1052, 1, 22, 0, 0, 0, 0, []), (1053, 3, 35, 152, 4, 12, 0, [87, 88, 1021, 1022, 1023]), (1056, 3, 11, 0, 1969, 0, 0, []), (1059, 1, 0, 0, 0, 0, 0, []), (1060, 1, 40, 0, 0, 0, 0, [])]
def p224_1061 : List PI := [(1061, 1, 2, 1, 0, 0, 0, []), (1062, 1, 2, 0, 0, 0, 0, []), (1063, 1, 1, 3, 0, 0, 0, []), (1064, 1, 0, 0, 0, 0, 1, []), (1065, 1, 6, 0, 0, 0, 0, []), (1066, 1, 22, 0, 0, 0, 0, []), (1067, 1, 2, 0, 0, 0, 0, []), (1068, 1, 1, 3, 0, 0, 0, []), (1069, 1, 0, 0, 0, 0, 2, []), (1070, 1, 6, 0, 0, 0, 0, []), (1071, 1, 22, 0, 0, 0, 0, []), (1072, 3, 35, 67, 3, 11, 0, [88, 77, 598, 599, 600]), (1075, 1, 2, 2, 0, 0, 0, []), (1076, 1, 2, 0, 0, 0, 0, []), (1077, 1, 1, 3, 0, 0, 0, []), (1078, 1, 0, 0, 0, 0, 1, []), (1079, 1, 6, 0, 0, 0, 0, []), (1080, 1, 22, 0, 0, 0, 0, []), (1081, 1, 2, 0, 0, 0, 0, []), (1082, 1, 1, 3, 0, 0, 0, []), (1083, 1, 0, 0, 0, 0, 2, []), (1084, 1, 6, 0, 0, 0, 0, []), (1085, 1, 22, 0, 0, 0, 0, []), (1086, 3, 35, 154, 3, 12, 0, [91, 88, 1041, 1042, 1043]), (1089, 3, 11, 0, 1969, 0, 0, []), (1092, 1, 0, 0, 0, 0, 0, []), (1093, 1, 40, 0, 0, 0, 0, [])]
def p224_1094 : List PI := [(1094, 1, 2, 1, 0, 0, 0, []), (1095, 1, 2, 0, 0, 0, 0, []), (1096, 1, 1, 3, 0, 0, 0, []), (1097, 1, 0, 0, 0, 0, 1, []), (1098, 1, 6, 0, 0, 0, 0, []), (1099, 1, 22, 0, 0, 0, 0, []), (1100, 1, 2, 0, 0, 0, 0, []), (1101, 1, 1, 3, 0, 0, 0, []), (1102, 1, 0, 0, 0, 0, 2, []), (1103, 1, 6, 0, 0, 0, 0, []), (1104, 1, 22, 0, 0, 0, 0, []), (1105, 3, 35, 68, 3, 11, 0, [92, 77, 603, 604, 605]), (1108, 1, 2, 2, 0, 0, 0, []), (1109, 1, 2, 0, 0, 0, 0, []), (1110, 1, 1, 3, 0, 0, 0, []), (1111, 1, 0, 0, 0, 0, 1, []), (1112, 1, 6, 0, 0, 0, 0, []), (1113, 1, 22, 0, 0, 0, 0, []), (1114, 1, 2, 0, 0, 0, 0, []), (1115, 1, 1, 3, 0, 0, 0, []), (1116, 1, 0, 0, 0, 0, 2, []), (1117, 1, 6, 0, 0, 0, 0, []), (1118, 1, 22, 0, 0, 0, 0, []), (1119, 3, 35, 156, 3, 12, 0, [95, 88, 1049, 1050, 1051]), (1122, 3, 11, 0, 1969, 0, 0, []), (1125, 1, 0, 0, 0, 0, 0, []), (1126, 1, 40, 0, 0, 0, 0, [])]
def p224_1127 : List PI := [(1127, 1, 2, 1, 0, 0, 0, []), (1128, 1, 2, 0, 0, 0, 0, []), (1129, 1, 1, 3, 0, 0, 0, []), (1130, 1, 0, 0, 0, 0, 1, []), (1131, 1, 6, 0, 0, 0, 0, []), (1132, 1, 22, 0, 0, 0, 0, []), (1133, 1, 2, 0, 0, 0, 0, []), (1134, 1, 1, 3, 0, 0, 0, []), (1135, 1, 0, 0, 0, 0, 2, []), (1136, 1, 6, 0, 0, 0, 0, []), (1137, 1, 22, 0, 0, 0, 0, []), (1138, 3, 35, 69, 3, 11, 0, [96, 77, 607, 608, 609]), (1141, 1, 2, 2, 0, 0, 0, []), (1142, 1, 2, 0, 0, 0, 0, []), (1143, 1, 1, 3, 0, 0, 0, []), (1144, 1, 0, 0, 0, 0, 1, []), (1145, 1, 6, 0, 0, 0, 0, []), (1146, 1, 22, 0, 0, 0, 0, []), (1147, 1, 2, 0, 0, 0, 0, []), (1148, 1, 1, 3, 0, 0, 0, []), (1149, 1, 0, 0, 0, 0, 2, []), (1150, 1, 6, 0, 0, 0, 0, []), (1151, 1, 22, 0, 0, 0, 0, []), (1152, 3, 35, 158, 3, 12, 0, [99, 88, 1057, 1058, 1059]), (1155, 3, 11, 0, 1969, 0, 0, []), (1158, 1, 0, 0, 0, 0, 0, []), (1159, 1, 40, 0, 0, 0, 0, [])]
def p224_1160 : List PI := [(1160, 1, 2, 1, 0, 0, 0, []), (1161, 1, 2, 0, 0, 0, 0, []), (1162, 1, 1, 3, 0, 0, 0, []), (1163, 1, 0, 0, 0, 0, 1, []), (1164, 1, 6, 0, 0, 0, 0, []), (1165, 1, 22, 0, 0, 0, 0, []), (1166, 3, 35, 70, 2, 11, 0, [100, 77, 611, 612, 613]), (1169, 1, 2, 2, 0, 0, 0, []), (1170, 1, 2, 0, 0, 0, 0, []), (1171, 1, 1, 3, 0, 0, 0, []), (1172, 1, 0, 0, 0, 0, 1, []), (1173, 1, 6, 0, 0, 0, 0, []), (1174, 1, 22, 0, 0, 0, 0, []), (1175, 3, 35, 164, 2, 12, 0, [103, 88, 1085, 1086, 1087]), (1178, 3, 11, 0, 1969, 0, 0, []), (1181, 1, 0, 0, 0, 0, 0, []), (1182, 1, 40, 0, 0, 0, 0, [])]
def p224_1183 : List PI := [(1183, 1, 2, 1, 0, 0, 0, []), (1184, 1, 2, 0, 0, 0, 0, []), (1185, 1, 1, 3, 0, 0, 0, []), (1186, 1, 0, 0, 0, 0, 1, []), (1187, 1, 6, 0, 0, 0, 0, []), (1188, 1, 22, 0, 0, 0, 0, []), (1189, 3, 35, 71, 2, 11, 0, [104, 77, 632, 633, 634]), (1192, 1, 2, 2, 0, 0, 0, []), (1193, 1, 2, 0, 0, 0, 0, []), (1194, 1, 1, 3, 0, 0, 0, []), (1195, 1, 0, 0, 0, 0, 1, []), (1196, 1, 6, 0, 0, 0, 0, []), (1197, 1, 22, 0, 0, 0, 0, []), (1198, 3, 35, 165, 2, 12, 0, [107, 88, 1093, 1094, 1095]), (1201, 3, 11, 0, 1969, 0, 0, []), (1204, 1, 0, 0, 0, 0, 0, []), (1205, 1, 40, 0, 0, 0, 0, [])]
def p224_1206 : List PI := [(1206, 1, 2, 1, 0, 0, 0, []), (1207, 1, 2, 0, 0, 0, 0, []), (1208, 1, 1, 3, 0, 0, 0, []), (1209, 1, 0, 0, 0, 0, 1, []), (1210, 1, 6, 0, 0, 0, 0, []), (1211, 1, 22, 0, 0, 0, 0, []), (1212, 1, 2, 0, 0, 0, 0, []), (1213, 1, 1, 3, 0, 0, 0, []), (1214, 1, 0, 0, 0, 0, 2, []), (1215, 1, 6, 0, 0, 0, 0, []), (1216, 1, 22, 0, 0, 0, 0, []), (1217, 3, 35, 72, 3, 11, 0, [108, 77, 637, 638, 639]), (1220, 1, 2, 2, 0, 0, 0, []), (1221, 1, 2, 0, 0, 0, 0, []), (1222, 1, 1, 3, 0, 0, 0, []), (1223, 1, 0, 0, 0, 0, 1, []), (1224, 1, 6, 0, 0, 0, 0, []), (1225, 1, 22, 0, 0, 0, 0, []), (1226, 1, 2, 0, 0, 0, 0, []), (1227, 1, 1, 3, 0, 0, 0, []), (1228, 1, 0, 0, 0, 0, 2, []), (1229, 1, 6, 0, 0, 0, 0, []), (1230, 1, 22, 0, 0, 0, 0, []), (1231, 3, 35, 168, 3, 12, 0, [111, 88, 1097, 1098, 1099]), (1234, 3, 11, 0, 1969, 0, 0, []), (1237, 1, 0, 0, 0, 0, 0, []), (1238, 1, 40, 0, 0, 0, 0, [])]
def p224_1239 : List PI := [(1239, 1, 2, 1, 0, 0, 0, []), (1240, 1, 2, 0, 0, 0, 0, []), (1241, 1, 1, 3, 0, 0, 0, []), (1242, 1, 0, 0, 0, 0, 1, []), (1243, 1, 6, 0, 0, 0, 0, []), (1244, 1, 22, 0, 0, 0, 0, []), (1245, 1, 2, 0, 0, 0, 0, []), (1246, 1, 1, 3, 0, 0, 0, []), (1247, 1, 0, 0, 0, 0, 2, []), (1248, 1, 6, 0, 0, 0, 0, []), (1249, 1, 22, 0, 0, 0, 0, []), (1250, 1, 2, 0, 0, 0, 0, []), (1251, 1, 1, 3, 0, 0, 0, []), (1252, 1, 0, 0, 0, 0, 3, []), (1253, 1, 6, 0, 0, 0, 0, []), (1254, 1, 22, 0, 0, 0, 0, []), (1255, 3, 35, 73, 4, 11, 0, [112, 77, 656, 657, 658]), (1258, 1, 2, 2, 0, 0, 0, []), (1259, 1, 2, 0, 0, 0, 0, []), (1260, 1, 1, 3, 0, 0, 0, []), (1261, 1, 0, 0, 0, 0, 1, []), (1262, 1, 6, 0, 0, 0, 0, []), (1263, 1, 22, 0, 0, 0, 0, []), (1264, 1, 2, 0, 0, 0, 0, []), (1265, 1, 1, 3, 0, 0, 0, []), (1266, 1, 0, 0, 0, 0, 2, []), (1267, 1, 6, 0, 0, 0, 0, []), (1268, 1, 22, 0, 0, 0, 0, []), (1269, 1, 2, 0, 0, 0, 0, []), (1270, 1, 1, 3, 0, 0, 0, []), (1271, 1, 0, 0, 0, 0, 3, []), (1272, 1, 6, 0, 0, 0, 0, []), (1273, 1, 22, 0, 0, 0, 0, []), (1274, 3, 35, 169, 4, 12, 0, [115, 88, 1109, 1110, 1111]), (1277, 3, 11, 0, 1969, 0, 0, []), (1280, 1, 0, 0, 0, 0, 0, []), (1281, 1, 40, 0, 0, 0, 0, [])]
def p224_1282 : List PI := [(1282, 1, 2, 1, 0, 0, 0, []), (1283, 1, 2, 0, 0, 0, 0, []), (1284, 1, 1, 3, 0, 0, 0, []), (1285, 1, 0, 0, 0, 0, 1, []), (1286, 1, 6, 0, 0, 0, 0, []), (1287, 1, 22, 0, 0, 0, 0, []), (1288, 1, 2, 0, 0, 0, 0, []), (1289, 1, 1, 3, 0, 0, 0, []), (1290, 1, 0, 0, 0, 0, 2, []), (1291, 1, 6, 0, 0, 0, 0, []), (1292, 1, 22, 0, 0, 0, 0, []), (1293, 1, 2, 0, 0, 0, 0, []), (1294, 1, 1, 3, 0, 0, 0, []), (1295, 1, 0, 0, 0, 0, 3, []), (1296, 1, 6, 0, 0, 0, 0, []), (1297, 1, 22, 0, 0, 0, 0, []), (1298, 1, 2, 0, 0, 0, 0, []), (1299, 1, 1, 3, 0, 0, 0, []), (1300, 1, 0, 0, 0, 0, 4, []), (1301, 1, 6, 0, 0, 0, 0, []), (1302, 1, 22, 0, 0, 0, 0, []), (1303, 3, 35, 74, 5, 11, 0, [116, 77, 660, 661, 662]), (1306, 1, 2, 2, 0, 0, 0, []), (1307, 1, 2, 0, 0, 0, 0, []), (1308, 1, 1, 3, 0, 0, 0, []), (1309, 1, 0, 0, 0, 0, 1, []), (1310, 1, 6, 0, 0, 0, 0, []), (1311, 1, 22, 0, 0, 0, 0, []), (1312, 1, 2, 0, 0, 0, 0, []), (1313, 1, 1, 3, 0, 0, 0, []), (1314, 1, 0, 0, 0, 0, 2, []), (1315, 1, 6, 0, 0, 0, 0, []), (1316, 1, 22, 0, 0, 0, 0, []), (1317, 1, 2, 0, 0, 0, 0, []), (1318, 1, 1, 3, 0, 0, 0, []), (1319, 1, 0, 0, 0, 0, 3, []), (1320, 1, 6, 0, 0, 0, 0, []), (1321, 1, 22, 0, 0, 0, 0, []), (1322, 1, 2, 0, 0, 0, 0, []), (1323, 1, 1, 3, 0, 0, 0, []), (1324, 1, 0, 0, 0, 0, 4, []), (1325, 1, 6, 0, 0, 0, 0, []), (1326, 1, 22, 0, 0, 0, 0, []), (1327, 3, 35, 172, 5, 12, 0, [119, 88, 1113, 1114, 1115]), (1330, 3, 11, 0, 1969, 0, 0, []), (1333, 1, 0, 0, 0, 0, 0, []), (1334, 1, 40, 0, 0, 0, 0, [])]
def p224_1335 : List PI := [(1335, 1, 2, 1, 0, 0, 0, []), (1336, 1, 2, 0, 0, 0, 0, []), (1337, 1, 1, 3, 0, 0, 0, []), (1338, 1, 0, 0, 0, 0, 1, []), (1339, 1, 6, 0, 0, 0, 0, []), (1340, 1, 22, 0, 0, 0, 0, []), (1341, 1, 2, 0, 0, 0, 0, []), (1342, 1, 1, 3, 0, 0, 0, []), (1343, 1, 0, 0, 0, 0, 2, []), (1344, 1, 6, 0, 0, 0, 0, []), (1345, 1, 22, 0, 0, 0, 0, []), (1346, 1, 2, 0, 0, 0, 0, []), (1347, 1, 1, 3, 0, 0, 0, []), (1348, 1, 0, 0, 0, 0, 3, []), (1349, 1, 6, 0, 0, 0, 0, []), (1350, 1, 22, 0, 0, 0, 0, []), (1351, 3, 35, 75, 4, 11, 0, [120, 77, 685, 686, 687]), (1354, 1, 2, 2, 0, 0, 0, []), (1355, 1, 2, 0, 0, 0, 0, []), (1356, 1, 1, 3, 0, 0, 0, []), (1357, 1, 0, 0, 0, 0, 1, []), (1358, 1, 6, 0, 0, 0, 0, []), (1359, 1, 22, 0, 0, 0, 0, []), (1360, 1, 2, 0, 0, 0, 0, []), (1361, 1, 1, 3, 0, 0, 0, []), (1362, 1, 0, 0, 0, 0, 2, []), (1363, 1, 6, 0, 0, 0, 0, []), (1364, 1, 22, 0, 0, 0, 0, []), (1365, 1, 2, 0, 0, 0, 0, []), (1366, 1, 1, 3, 0, 0, 0, []), (1367, 1, 0, 0, 0, 0, 3, []), (1368, 1, 6, 0, 0, 0, 0, []), (1369, 1, 22, 0, 0, 0, 0, []), (1370, 3, 35, 173, 4, 12, 0, [123, 88, 1125, 1126, 1127]), (1373, 3, 11, 0, 1969, 0, 0, []), (1376, 1, 0, 0, 0, 0, 0, []), (1377, 1, 40, 0, 0, 0, 0, [])]
def p224_1378 : List PI := [(1378, 1, 2, 1, 0, 0, 0, []), (1379, 1, 2, 0, 0, 0, 0, []), (1380, 1, 1, 3, 0, 0, 0, []), (1381, 1, 0, 0, 0, 0, 1, []), (1382, 1, 6, 0, 0, 0, 0, []), (1383, 1, 22, 0, 0, 0, 0, []), (1384, 1, 2, 0, 0, 0, 0, []), (1385, 1, 1, 3, 0, 0, 0, []), (1386, 1, 0, 0, 0, 0, 2, []), (1387, 1, 6, 0, 0, 0, 0, []), (1388, 1, 22, 0, 0, 0, 0, []), (1389, 3, 35, 76, 3, 11, 0, [124, 77, 689, 690, 691]), (1392, 1, 2, 2, 0, 0, 0, []), (1393, 1, 2, 0, 0, 0, 0, []), (1394, 1, 1, 3, 0, 0, 0, []), (1395, 1, 0, 0, 0, 0, 1, []), (1396, 1, 6, 0, 0, 0, 0, []), (1397, 1, 22, 0, 0, 0, 0, []), (1398, 1, 2, 0, 0, 0, 0, []), (1399, 1, 1, 3, 0, 0, 0, []), (1400, 1, 0, 0, 0, 0, 2, []), (1401, 1, 6, 0, 0, 0, 0, []), (1402, 1, 22, 0, 0, 0, 0, []), (1403, 3, 35, 175, 3, 12, 0, [127, 88, 1313, 1314, 1315]), (1406, 3, 11, 0, 1969, 0, 0, []), (1409, 1, 0, 0, 0, 0, 0, []), (1410, 1, 40, 0, 0, 0, 0, [])]
def p224_1411 : List PI := [(1411, 1, 2, 1, 0, 0, 0, []), (1412, 1, 2, 0, 0, 0, 0, []), (1413, 1, 1, 3, 0, 0, 0, []), (1414, 1, 0, 0, 0, 0, 1, []), (1415, 1, 6, 0, 0, 0, 0, []), (1416, 1, 22, 0, 0, 0, 0, []), (1417, 1, 2, 0, 0, 0, 0, []), (1418, 1, 1, 3, 0, 0, 0, []), (1419, 1, 0, 0, 0, 0, 2, []), (1420, 1, 6, 0, 0, 0, 0, []), (1421, 1, 22, 0, 0, 0, 0, []), (1422, 3, 35, 77, 3, 11, 0, [128, 77, 693, 694, 695]), (1425, 1, 2, 2, 0, 0, 0, []), (1426, 1, 2, 0, 0, 0, 0, []), (1427, 1, 1, 3, 0, 0, 0, []), (1428, 1, 0, 0, 0, 0, 1, []), (1429, 1, 6, 0, 0, 0, 0, []), (1430, 1, 22, 0, 0, 0, 0, []), (1431, 1, 2, 0, 0, 0, 0, []), (1432, 1, 1, 3, 0, 0, 0, []), (1433, 1, 0, 0, 0, 0, 2, []), (1434, 1, 6, 0, 0, 0, 0, []), (1435, 1, 22, 0, 0, 0, 0, []), (1436, 3, 35, 177, 3, 12, 0, [131, 88, 1317, 1318, 1319]), (1439, 3, 11, 0, 1969, 0, 0, []), (1442, 1, 0, 0, 0, 0, 0, []), (1443, 1, 40, 0, 0, 0, 0, [])]
def p224_1444 : List PI := [(1444, 1, 2, 1, 0, 0, 0, []), (1445, 1, 2, 0, 0, 0, 0, []), (1446, 1, 1, 3, 0, 0, 0, []), (1447, 1, 0, 0, 0, 0, 1, []), (1448, 1, 6, 0, 0, 0, 0, []), (1449, 1, 22, 0, 0, 0, 0, []), (1450, 1, 2, 0, 0, 0, 0, []), (1451, 1, 1, 3, 0, 0, 0, []), (1452, 1, 0, 0, 0, 0, 2, []), (1453, 1, 6, 0, 0, 0, 0, []), (1454, 1, 22, 0, 0, 0, 0, []), (1455, 3, 35, 78, 3, 11, 0, [132, 77, 718, 719, 720]), (1458, 1, 2, 2, 0, 0, 0, []), (1459, 1, 2, 0, 0, 0, 0, []), (1460, 1, 1, 3, 0, 0, 0, []), (1461, 1, 0, 0, 0, 0, 1, []), (1462, 1, 6, 0, 0, 0, 0, []), (1463, 1, 22, 0, 0, 0, 0, []), (1464, 1, 2, 0, 0, 0, 0, []), (1465, 1, 1, 3, 0, 0, 0, []), (1466, 1, 0, 0, 0, 0, 2, []), (1467, 1, 6, 0, 0, 0, 0, []), (1468, 1, 22, 0, 0, 0, 0, []), (1469, 3, 35, 178, 3, 12, 0, [135, 88, 1325, 1326, 1327]), (1472, 3, 11, 0, 1969, 0, 0, []), (1475, 1, 0, 0, 0, 0, 0, []), (1476, 1, 40, 0, 0, 0, 0, [])]
def p224_1477 : List PI := [(1477, 1, 2, 1, 0, 0, 0, []), (1478, 1, 2, 0, 0, 0, 0, []), (1479, 1, 1, 3, 0, 0, 0, []), (1480, 1, 0, 0, 0, 0, 1, []), (1481, 1, 6, 0, 0, 0, 0, []), (1482, 1, 22, 0, 0, 0, 0, []), (1483, 1, 2, 0, 0, 0, 0, []), (1484, 1, 1, 3, 0, 0, 0, []), (1485, 1, 0, 0, 0, 0, 2, []), (1486, 1, 6, 0, 0, 0, 0, []), (1487, 1, 22, 0, 0, 0, 0, []), (1488, 3, 35, 79, 3, 11, 0, [136, 77, 722, 723, 724]), (1491, 1, 2, 2, 0, 0, 0, []), (1492, 1, 2, 0, 0, 0, 0, []), (1493, 1, 1, 3, 0, 0, 0, []), (1494, 1, 0, 0, 0, 0, 1, []), (1495, 1, 6, 0, 0, 0, 0, []), (1496, 1, 22, 0, 0, 0, 0, []), (1497, 1, 2, 0, 0, 0, 0, []), (1498, 1, 1, 3, 0, 0, 0, []), (1499, 1, 0, 0, 0, 0, 2, []), (1500, 1, 6, 0, 0, 0, 0, []), (1501, 1, 22, 0, 0, 0, 0, []), (1502, 3, 35, 186, 3, 12, 0, [139, 88, 1329, 1330, 1331]), (1505, 3, 11, 0, 1969, 0, 0, []), (1508, 1, 0, 0, 0, 0, 0, []), (1509, 1, 40, 0, 0, 0, 0, [])]
def p224_1510 : List PI := [(1510, 1, 2, 1, 0, 0, 0, []), (1511, 1, 2, 0, 0, 0, 0, []), (1512, 1, 1, 3, 0, 0, 0, []), (1513, 1, 0, 0, 0, 0, 1, []), (1514, 1, 6, 0, 0, 0, 0, []), (1515, 1, 22, 0, 0, 0, 0, []), (1516, 1, 2, 0, 0, 0, 0, []), (1517, 1, 1, 3, 0, 0, 0, []), (1518, 1, 0, 0, 0, 0, 2, []), (1519, 1, 6, 0, 0, 0, 0, []), (1520, 1, 22, 0, 0, 0, 0, []), (1521, 1, 2, 0, 0, 0, 0, []), (1522, 1, 1, 3, 0, 0, 0, []), (1523, 1, 0, 0, 0, 0, 3, []), (1524, 1, 6, 0, 0, 0, 0, []), (1525, 1, 22, 0, 0, 0, 0, []), (1526, 3, 35, 80, 4, 11, 0, [140, 77, 797, 798, 799]), (1529, 1, 2, 2, 0, 0, 0, []), (1530, 1, 2, 0, 0, 0, 0, []), (1531, 1, 1, 3, 0, 0, 0, []), (1532, 1, 0, 0, 0, 0, 1, []), (1533, 1, 6, 0, 0, 0, 0, []), (1534, 1, 22, 0, 0, 0, 0, []), (1535, 1, 2, 0, 0, 0, 0, []), (1536, 1, 1, 3, 0, 0, 0, []), (1537, 1, 0, 0, 0, 0, 2, []), (1538, 1, 6, 0, 0, 0, 0, []), (1539, 1, 22, 0, 0, 0, 0, []), (1540, 1, 2, 0, 0, 0, 0, []), (1541, 1, 1, 3, 0, 0, 0, []), (1542, 1, 0, 0, 0, 0, 3, []), (1543, 1, 6, 0, 0, 0, 0, []), (1544, 1, 22, 0, 0, 0, 0, []), (1545, 3, 35, 189, 4, 12, 0, [143, 88, 1361, 1362, 1363]), (1548, 3, 11, 0, 1969, 0, 0, []), (1551, 1, 0, 0, 0, 0, 0, []), (1552, 1, 40, 0, 0, 0, 0, [])]
def p224_1553 : List PI := [(1553, 1, 2, 1, 0, 0, 0, []), (1554, 1, 2, 0, 0, 0, 0, []), (1555, 1, 1, 3, 0, 0, 0, []), (1556, 1, 0, 0, 0, 0, 1, []), (1557, 1, 6, 0, 0, 0, 0, []), (1558, 1, 22, 0, 0, 0, 0, []), (1559, 3, 35, 81, 2, 11, 0, [144, 77, 817, 818, 819]), (1562, 1, 2, 2, 0, 0, 0, []), (1563, 1, 2, 0, 0, 0, 0, []), (1564, 1, 1, 3, 0, 0, 0, []), (1565, 1, 0, 0, 0, 0, 1, []), (1566, 1, 6, 0, 0, 0, 0, []), (1567, 1, 22, 0, 0, 0, 0, []), (1568, 3, 35, 190, 2, 12, 0, [147, 88, 1373, 1374, 1375]), (1571, 3, 11, 0, 1969, 0, 0, []), (1574, 1, 0, 0, 0, 0, 0, []), (1575, 1, 40, 0, 0, 0, 0, [])]
def p224_1576 : List PI := [(1576, 1, 2, 1, 0, 0, 0, []), (1577, 1, 2, 0, 0, 0, 0, []), (1578, 1, 1, 3, 0, 0, 0, []), (1579, 1, 0, 0, 0, 0, 1, []), (1580, 1, 6, 0, 0, 0, 0, []), (1581, 1, 22, 0, 0, 0, 0, []), (1582, 1, 2, 0, 0, 0, 0, []), (1583, 1, 1, 3, 0, 0, 0, []), (1584, 1, 0, 0, 0, 0, 2, []), (1585, 1, 6, 0, 0, 0, 0, []), (1586, 1, 22, 0, 0, 0, 0, []), (1587, 3, 35, 82, 3, 11, 0, [148, 77, 831, 832, 833]), (1590, 1, 2, 2, 0, 0, 0, []), (1591, 1, 2, 0, 0, 0, 0, []), (1592, 1, 1, 3, 0, 0, 0, []), (1593, 1, 0, 0, 0, 0, 1, []), (1594, 1, 6, 0, 0, 0, 0, []), (1595, 1, 22, 0, 0, 0, 0, []), (1596, 1, 2, 0, 0, 0, 0, []), (1597, 1, 1, 3, 0, 0, 0, []), (1598, 1, 0, 0, 0, 0, 2, []), (1599, 1, 6, 0, 0, 0, 0, []), (1600, 1, 22, 0, 0, 0, 0, []), (1601, 3, 35, 195, 3, 12, 0, [151, 88, 1377, 1378, 1379]), (1604, 3, 11, 0, 1969, 0, 0, []), (1607, 1, 0, 0, 0, 0, 0, []), (1608, 1, 40, 0, 0, 0, 0, [])]
def p224_1609 : List PI := [(1609, 1, 2, 1, 0, 0, 0, []), (1610, 1, 2, 0, 0, 0, 0, []), (1611, 1, 1, 3, 0, 0, 0, []), (1612, 1, 0, 0, 0, 0, 1, []), (1613, 1, 6, 0, 0, 0, 0, []), (1614, 1, 22, 0, 0, 0, 0, []), (1615, 3, 35, 83, 2, 11, 0, [152, 77, 842, 843, 844]), (1618, 1, 2, 2, 0, 0, 0, []), (1619, 1, 2, 0, 0, 0, 0, []), (1620, 1, 1, 3, 0, 0, 0, []), (1621, 1, 0, 0, 0, 0, 1, []), (1622, 1, 6, 0, 0, 0, 0, []), (1623, 1, 22, 0, 0, 0, 0, []), (1624, 3, 35, 196, 2, 12, 0, [155, 88, 1397, 1398, 1399]), (1627, 3, 11, 0, 1969, 0, 0, []), (1630, 1, 0, 0, 0, 0, 0, []), (1631, 1, 40, 0, 0, 0, 0, [])]
def p224_1632 : List PI := [(1632, 1, 2, 1, 0, 0, 0, []), (1633, 1, 2, 0, 0, 0, 0, []), (1634, 1, 1, 3, 0, 0, 0, []), (1635, 1, 0, 0, 0, 0, 1, []), (1636, 1, 6, 0, 0, 0, 0, []), (1637, 1, 22, 0, 0, 0, 0, []), (1638, 1, 2, 0, 0, 0, 0, []), (1639, 1, 1, 3, 0, 0, 0, []), (1640, 1, 0, 0, 0, 0, 2, []), (1641, 1, 6, 0, 0, 0, 0, []), (1642, 1, 22, 0, 0, 0, 0, []), (1643, 3, 35, 84, 3, 11, 0, [156, 77, 851, 852, 853]), (1646, 1, 2, 2, 0, 0, 0, []), (1647, 1, 2, 0, 0, 0, 0, []), (1648, 1, 1, 3, 0, 0, 0, []), (1649, 1, 0, 0, 0, 0, 1, []), (1650, 1, 6, 0, 0, 0, 0, []), (1651, 1, 22, 0, 0, 0, 0, []), (1652, 1, 2, 0, 0, 0, 0, []), (1653, 1, 1, 3, 0, 0, 0, []), (1654, 1, 0, 0, 0, 0, 2, []), (1655, 1, 6, 0, 0, 0, 0, []), (1656, 1, 22, 0, 0, 0, 0, []), (1657, 3, 35, 197, 3, 12, 0, [159, 88, 1401, 1402, 1403]), (1660, 3, 11, 0, 1969, 0, 0, []), (1663, 1, 0, 0, 0, 0, 0, []), (1664, 1, 40, 0, 0, 0, 0, [])]
def p224_1665 : List PI := [(1665, 1, 2, 1, 0, 0, 0, []), (1666, 1, 2, 0, 0, 0, 0, []), (1667, 1, 1, 3, 0, 0, 0, []), (1668, 1, 0, 0, 0, 0, 1, []), (1669, 1, 6, 0, 0, 0, 0, []), (1670, 1, 22, 0, 0, 0, 0, []), (1671, 1, 2, 0, 0, 0, 0, []), (1672, 1, 1, 3, 0, 0, 0, []), (1673, 1, 0, 0, 0, 0, 2, []), (1674, 1, 6, 0, 0, 0, 0, []), (1675, 1, 22, 0, 0, 0, 0, []), (1676, 1, 2, 0, 0, 0, 0, []), (1677, 1, 1, 3, 0, 0, 0, []), (1678, 1, 0, 0, 0, 0, 3, []), (1679, 1, 6, 0, 0, 0, 0, []), (1680, 1, 22, 0, 0, 0, 0, []), (1681, 3, 35, 85, 4, 11, 0, [160, 77, 855, 856, 857]), (1684, 1, 2, 2, 0, 0, 0, []), (1685, 1, 2, 0, 0, 0, 0, []), (1686, 1, 1, 3, 0, 0, 0, []), (1687, 1, 0, 0, 0, 0, 1, []), (1688, 1, 6, 0, 0, 0, 0, []), (1689, 1, 22, 0, 0, 0, 0, []), (1690, 1, 2, 0, 0, 0, 0, []), (1691, 1, 1, 3, 0, 0, 0, []), (1692, 1, 0, 0, 0, 0, 2, []), (1693, 1, 6, 0, 0, 0, 0, []), (1694, 1, 22, 0, 0, 0, 0, []), (1695, 1, 2, 0, 0, 0, 0, []), (1696, 1, 1, 3, 0, 0, 0, []), (1697, 1, 0, 0, 0, 0, 3, []), (1698, 1, 6, 0, 0, 0, 0, []), (1699, 1, 22, 0, 0, 0, 0, []), (1700, 3, 35, 207, 4, 12, 0, [163, 88, 1405, 1406, 1407]), (1703, 3, 11, 0, 1969, 0, 0, []), (1706, 1, 0, 0, 0, 0, 0, []), (1707, 1, 40, 0, 0, 0, 0, [])]
def p224_1708 : List PI := [(1708, 1, 2, 1, 0, 0, 0, []), (1709, 1, 2, 0, 0, 0, 0, []), (1710, 1, 1, 3, 0, 0, 0, []), (1711, 1, 0, 0, 0, 0, 1, []), (1712, 1, 6, 0, 0, 0, 0, []), (1713, 1, 22, 0, 0, 0, 0, []), (1714, 3, 35, 86, 2, 11, 0, [164, 77, 875, 876, 877]), (1717, 1, 2, 2, 0, 0, 0, []), (1718, 1, 2, 0, 0, 0, 0, []), (1719, 1, 1, 3, 0, 0, 0, []), (1720, 1, 0, 0, 0, 0, 1, []), (1721, 1, 6, 0, 0, 0, 0, []), (1722, 1, 22, 0, 0, 0, 0, []), (1723, 3, 35, 208, 2, 12, 0, [167, 88, 1445, 1446, 1447]), (1726, 3, 11, 0, 1969, 0, 0, []), (1729, 1, 0, 0, 0, 0, 0, []), (1730, 1, 40, 0, 0, 0, 0, [])]
def p224_1731 : List PI := [(1731, 1, 2, 1, 0, 0, 0, []), (1732, 1, 2, 0, 0, 0, 0, []), (1733, 1, 1, 3, 0, 0, 0, []), (1734, 1, 0, 0, 0, 0, 1, []), (1735, 1, 6, 0, 0, 0, 0, []), (1736, 1, 22, 0, 0, 0, 0, []), (1737, 1, 2, 0, 0, 0, 0, []), (1738, 1, 1, 3, 0, 0, 0, []), (1739, 1, 0, 0, 0, 0, 2, []), (1740, 1, 6, 0, 0, 0, 0, []), (1741, 1, 22, 0, 0, 0, 0, []), (1742, 3, 35, 87, 3, 11, 0, [168, 77, 879, 880, 881]), (1745, 1, 2, 2, 0, 0, 0, []), (1746, 1, 2, 0, 0, 0, 0, []), (1747, 1, 1, 3, 0, 0, 0, []), (1748, 1, 0, 0, 0, 0, 1, []), (1749, 1, 6, 0, 0, 0, 0, []), (1750, 1, 22, 0, 0, 0, 0, []), (1751, 1, 2, 0, 0, 0, 0, []), (1752, 1, 1, 3, 0, 0, 0, []), (1753, 1, 0, 0, 0, 0, 2, []), (1754, 1, 6, 0, 0, 0, 0, []), (1755, 1, 22, 0, 0, 0, 0, []), (1756, 3, 35, 209, 3, 12, 0, [171, 88, 1449, 1450, 1451]), (1759, 3, 11, 0, 1969, 0, 0, []), (1762, 1, 0, 0, 0, 0, 0, []), (1763, 1, 40, 0, 0, 0, 0, [])]
def p224_1764 : List PI := [(1764, 1, 2, 1, 0, 0, 0, []), (1765, 1, 2, 0, 0, 0, 0, []), (1766, 1, 1, 3, 0, 0, 0, []), (1767, 1, 0, 0, 0, 0, 1, []), (1768, 1, 6, 0, 0, 0, 0, []), (1769, 1, 22, 0, 0, 0, 0, []), (1770, 3, 35, 88, 2, 11, 0, [172, 77, 887, 888, 889]), (1773, 1, 2, 2, 0, 0, 0, []), (1774, 1, 2, 0, 0, 0, 0, []), (1775, 1, 1, 3, 0, 0, 0, []), (1776, 1, 0, 0, 0, 0, 1, []), (1777, 1, 6, 0, 0, 0, 0, []), (1778, 1, 22, 0, 0, 0, 0, []), (1779, 3, 35, 210, 2, 12, 0, [175, 88, 1453, 1454, 1455]), (1782, 3, 11, 0, 1969, 0, 0, []), (1785, 1, 0, 0, 0, 0, 0, []), (1786, 1, 40, 0, 0, 0, 0, [])]
def p224_1787 : List PI := [(1787, 1, 2, 1, 0, 0, 0, []), (1788, 1, 2, 0, 0, 0, 0, []), (1789, 1, 1, 3, 0, 0, 0, []), (1790, 1, 0, 0, 0, 0, 1, []), (1791, 1, 6, 0, 0, 0, 0, []), (1792, 1, 22, 0, 0, 0, 0, []), (1793, 1, 2, 0, 0, 0, 0, []), (1794, 1, 1, 3, 0, 0, 0, []), (1795, 1, 0, 0, 0, 0, 2, []), (1796, 1, 6, 0, 0, 0, 0, []), (1797, 1, 22, 0, 0, 0, 0, []), (1798, 1, 2, 0, 0, 0, 0, []), (1799, 1, 1, 3, 0, 0, 0, []), (1800, 1, 0, 0, 0, 0, 3, []), (1801, 1, 6, 0, 0, 0, 0, []), (1802, 1, 22, 0, 0, 0, 0, []), (1803, 3, 35, 89, 4, 11, 0, [176, 77, 895, 896, 897]), (1806, 1, 2, 2, 0, 0, 0, []), (1807, 1, 2, 0, 0, 0, 0, []), (1808, 1, 1, 3, 0, 0, 0, []), (1809, 1, 0, 0, 0, 0, 1, []), (1810, 1, 6, 0, 0, 0, 0, []), (1811, 1, 22, 0, 0, 0, 0, []), (1812, 1, 2, 0, 0, 0, 0, []), (1813, 1, 1, 3, 0, 0, 0, []), (1814, 1, 0, 0, 0, 0, 2, []), (1815, 1, 6, 0, 0, 0, 0, []), (1816, 1, 22, 0, 0, 0, 0, []), (1817, 1, 2, 0, 0, 0, 0, []), (1818, 1, 1, 3, 0, 0, 0, []), (1819, 1, 0, 0, 0, 0, 3, []), (1820, 1, 6, 0, 0, 0, 0, []), (1821, 1, 22, 0, 0, 0, 0, []), (1822, 3, 35, 212, 4, 12, 0, [179, 88, 1457, 1458, 1459]), (1825, 3, 11, 0, 1969, 0, 0, []), (1828, 1, 0, 0, 0, 0, 0, []), (1829, 1, 40, 0, 0, 0, 0, [])]
def p224_1830 : List PI := [(1830, 1, 2, 1, 0, 0, 0, []), (1831, 1, 2, 0, 0, 0, 0, []), (1832, 1, 1, 3, 0, 0, 0, []), (1833, 1, 0, 0, 0, 0, 1, []), (1834, 1, 6, 0, 0, 0, 0, []), (1835, 1, 22, 0, 0, 0, 0, []), (1836, 1, 2, 0, 0, 0, 0, []), (1837, 1, 1, 3, 0, 0, 0, []), (1838, 1, 0, 0, 0, 0, 2, []), (1839, 1, 6, 0, 0, 0, 0, []), (1840, 1, 22, 0, 0, 0, 0, []), (1841, 1, 2, 0, 0, 0, 0, []), (1842, 1, 1, 3, 0, 0, 0, []), (1843, 1, 0, 0, 0, 0, 3, []), (1844, 1, 6, 0, 0, 0, 0, []), (1845, 1, 22, 0, 0, 0, 0, []), (1846, 3, 35, 90, 4, 11, 0, [180, 77, 904, 905, 906]), (1849, 1, 2, 2, 0, 0, 0, []), (1850, 1, 2, 0, 0, 0, 0, []), (1851, 1, 1, 3, 0, 0, 0, []), (1852, 1, 0, 0, 0, 0, 1, []), (1853, 1, 6, 0, 0, 0, 0, []), (1854, 1, 22, 0, 0, 0, 0, []), (1855, 1, 2, 0, 0, 0, 0, []), (1856, 1, 1, 3, 0, 0, 0, []), (1857, 1, 0, 0, 0, 0, 2, []), (1858, 1, 6, 0, 0, 0, 0, []), (1859, 1, 22, 0, 0, 0, 0, []), (1860, 1, 2, 0, 0, 0, 0, []), (1861, 1, 1, 3, 0, 0, 0, []), (1862, 1, 0, 0, 0, 0, 3, []), (1863, 1, 6, 0, 0, 0, 0, []), (1864, 1, 22, 0, 0, 0, 0, []), (1865, 3, 35, 213, 4, 12, 0, [183, 88, 1461, 1462, 1463]), (1868, 3, 11, 0, 1969, 0, 0, []), (1871, 1, 0, 0, 0, 0, 0, []), (1872, 1, 40, 0, 0, 0, 0, [])]
def p224_1873 : List PI := [(1873, 1, 2, 1, 0, 0, 0, []), (1874, 1, 2, 0, 0, 0, 0, []), (1875, 1, 1, 3, 0, 0, 0, []), (1876, 1, 0, 0, 0, 0, 1, []), (1877, 1, 6, 0, 0, 0, 0, []), (1878, 1, 22, 0, 0, 0, 0, []), (1879, 1, 2, 0, 0, 0, 0, []), (1880, 1, 1, 3, 0, 0, 0, []), (1881, 1, 0, 0, 0, 0, 2, []), (1882, 1, 6, 0, 0, 0, 0, []), (1883, 1, 22, 0, 0, 0, 0, []), (1884, 3, 35, 91, 3, 11, 0, [184, 77, 914, 915, 916]), (1887, 1, 2, 2, 0, 0, 0, []), (1888, 1, 2, 0, 0, 0, 0, []), (1889, 1, 1, 3, 0, 0, 0, []), (1890, 1, 0, 0, 0, 0, 1, []), (1891, 1, 6, 0, 0, 0, 0, []), (1892, 1, 22, 0, 0, 0, 0, []), (1893, 1, 2, 0, 0, 0, 0, []), (1894, 1, 1, 3, 0, 0, 0, []), (1895, 1, 0, 0, 0, 0, 2, []), (1896, 1, 6, 0, 0, 0, 0, []), (1897, 1, 22, 0, 0, 0, 0, []), (1898, 3, 35, 214, 3, 12, 0, [187, 88, 1467, 1468, 1469]), (1901, 3, 11, 0, 1969, 0, 0, []), (1904, 1, 0, 0, 0, 0, 0, []), (1905, 1, 40, 0, 0, 0, 0, [])]
def p224_1906 : List PI := [(1906, 1, 2, 1, 0, 0, 0, []), (1907, 1, 2, 0, 0, 0, 0, []), (1908, 1, 1, 3, 0, 0, 0, []), (1909, 1, 0, 0, 0, 0, 1, []), (1910, 1, 6, 0, 0, 0, 0, []), (1911, 1, 22, 0, 0, 0, 0, []), (1912, 1, 2, 0, 0, 0, 0, []), (1913, 1, 1, 3, 0, 0, 0, []), (1914, 1, 0, 0, 0, 0, 2, []), (1915, 1, 6, 0, 0, 0, 0, []), (1916, 1, 22, 0, 0, 0, 0, []), (1917, 1, 2, 0, 0, 0, 0, []), (1918, 1, 1, 3, 0, 0, 0, []), (1919, 1, 0, 0, 0, 0, 3, []), (1920, 1, 6, 0, 0, 0, 0, []), (1921, 1, 22, 0, 0, 0, 0, []), (1922, 1, 2, 0, 0, 0, 0, []), (1923, 1, 1, 3, 0, 0, 0, []), (1924, 1, 0, 0, 0, 0, 4, []), (1925, 1, 6, 0, 0, 0, 0, []), (1926, 1, 22, 0, 0, 0, 0, []), (1927, 1, 2, 0, 0, 0, 0, []), (1928, 1, 1, 3, 0, 0, 0, []), (1929, 1, 0, 0, 0, 0, 5, []), (1930, 1, 6, 0, 0, 0, 0, []), (1931, 1, 22, 0, 0, 0, 0, []), (1932, 3, 35, 92, 6, 11, 0, [188, 77, 918, 919, 920]), (1935, 1, 2, 2, 0, 0, 0, []), (1936, 1, 2, 0, 0, 0, 0, []), (1937, 1, 1, 3, 0, 0, 0, []), (1938, 1, 0, 0, 0, 0, 1, []), (1939, 1, 6, 0, 0, 0, 0, []), (1940, 1, 22, 0, 0, 0, 0, []), (1941, 1, 2, 0, 0, 0, 0, []), (1942, 1, 1, 3, 0, 0, 0, []), (1943, 1, 0, 0, 0, 0, 2, []), (1944, 1, 6, 0, 0, 0, 0, []), (1945, 1, 22, 0, 0, 0, 0, []), (1946, 1, 2, 0, 0, 0, 0, []), (1947, 1, 1, 3, 0, 0, 0, []), (1948, 1, 0, 0, 0, 0, 3, []), (1949, 1, 6, 0, 0, 0, 0, []), (1950, 1, 22, 0, 0, 0, 0, []), (1951, 1, 2, 0, 0, 0, 0, []), (1952, 1, 1, 3, 0, 0, 0, []), (1953, 1, 0, 0, 0, 0, 4, []), (1954, 1, 6, 0, 0, 0, 0, []), (1955, 1, 22, 0, 0, 0, 0, []), (1956, 1, 2, 0, 0, 0, 0, []), (1957, 1, 1, 3, 0, 0, 0, []), (1958, 1, 0, 0, 0, 0, 5, []), (1959, 1, 6, 0, 0, 0, 0, []), (1960, 1, 22, 0, 0, 0, 0, []), (1961, 3, 35, 215, 6, 12, 0, [191, 88, 1471, 1472, 1473]), (1964, 3, 11, 0, 1969, 0, 0, []), (1967, 1, 0, 0, 0, 0, 0, []), (1968, 1, 40, 0, 0, 0, 0, [])]
def p224_1969 : List PI := [(1969, 3, 5, 3, 0, 0, 7, []), (1972, 3, 14, 0, 18, 0, 0, [])]
def p224_1975 : List PI := [(1975, 1, 0, 0, 0, 0, 1, []), (1976, 1, 40, 0, 0, 0, 0, [])]
def p224 : List (Nat × List PI) := [(0, p224_0), (18, p224_18), (220, p224_220), (243, p224_243), (286, p224_286), (329, p224_329), (362, p224_362), (395, p224_395), (448, p224_448), (491, p224_491), (544, p224_544), (607, p224_607), (640, p224_640), (641, p224_641), (677, p224_677), (678, p224_678), (686, p224_686), (729, p224_729), (792, p224_792), (867, p224_867), (942, p224_942), (975, p224_975), (1018, p224_1018), (1061, p224_1061), (1094, p224_1094), (1127, p224_1127), (1160, p224_1160), (1183, p224_1183), (1206, p224_1206), (1239, p224_1239), (1282, p224_1282), (1335, p224_1335), (1378, p224_1378), (1411, p224_1411), (1444, p224_1444), (1477, p224_1477), (1510, p224_1510), (1553, p224_1553), (1576, p224_1576), (1609, p224_1609), (1632, p224_1632), (1665, p224_1665), (1708, p224_1708), (1731, p224_1731), (1764, p224_1764), (1787, p224_1787), (1830, p224_1830), (1873, p224_1873), (1906, p224_1906), (1969, p224_1969), (1975, p224_1975)]
def mY (k : Nat) : MethodName := if k < 225 then (if k < 112 then (if k < 56 then (if k < 28 then (if k < 14 then (if k < 7 then (if k < 3 then (if k < 1 then yX0_init else (if k < 2 then yX0_perform else yX0_from)) else (if k < 5 then (if k < 4 then yX0_run else yX1_init) else (if k < 6 then yX1_misprintCount else yX1_showsSun))) else (if k < 10 then (if k < 8 then yX1_showsMisprint else (if k < 9 then yX2_init else yX3_init)) else (if k < 12 then (if k < 11 then yX4_init else yX4_hasClaim) else (if k < 13 then yX4_claimLatitude else yX4_milesOver)))) else (if k < 21 then (if k < 17 then (if k < 15 then yX5_init else (if k < 16 then yX5_add else yX5_leftBehind)) else (if k < 19 then (if k < 18 then yX5_greatestPart else yX5_best) else (if k < 20 then yX6_init else yX6_faultOf))) else (if k < 24 then (if k < 22 then yX6_holds else (if k < 23 then yX6_readAll else yX6_coming)) else (if k < 26 then (if k < 25 then yX6_either else yX6_both) else (if k < 27 then yX6_one else yX6_test))))) else (if k < 42 then (if k < 35 then (if k < 31 then (if k < 29 then yX6_number else (if k < 30 then yX6_letterAt else yX7_init)) else (if k < 33 then (if k < 32 then yX7_isOf else yX7_isHeightOf) else (if k < 34 then yX7_quarrelsWith else yX7_miles))) else (if k < 38 then (if k < 36 then yX8_init else (if k < 37 then yX8_become else yX8_has)) else (if k < 40 then (if k < 39 then yX8_spans else yX8_asItem) else (if k < 41 then yX9_init else yX9_walk)))) else (if k < 49 then (if k < 45 then (if k < 43 then yX9_marchOf else (if k < 44 then yX9_xBehind else yX9_yBehind)) else (if k < 47 then (if k < 46 then yX9_cellBehind else yX9_bearing) else (if k < 48 then yX9_reach else yX9_excess))) else (if k < 52 then (if k < 50 then yX10_init else (if k < 51 then yX10_pass else yX10_drift)) else (if k < 54 then (if k < 53 then yX10_ice else yX10_sun) else (if k < 55 then yX10_man else yX10_party)))))) else (if k < 84 then (if k < 70 then (if k < 63 then (if k < 59 then (if k < 57 then yX10_start else (if k < 58 then yX10_claim else yX10_march)) else (if k < 61 then (if k < 60 then yX10_height else yX10_compass) else (if k < 62 then yX10_picture else yX10_word))) else (if k < 66 then (if k < 64 then yX10_torn else (if k < 65 then yX10_of else yX10_fits)) else (if k < 68 then (if k < 67 then yX10_place else yX10_can) else (if k < 69 then yX10_beyond else yX10_latitude)))) else (if k < 77 then (if k < 73 then (if k < 71 then yX10_quarrel else (if k < 72 then yX10_home else yX10_needs)) else (if k < 75 then (if k < 74 then yX10_held else yX10_falses) else (if k < 76 then yX10_least else yX10_misprint))) else (if k < 80 then (if k < 78 then yX10_made else (if k < 79 then yX10_feed else yX10_law)) else (if k < 82 then (if k < 81 then yX10_says else yX10_look) else (if k < 83 then yX10_worth else yX10_next))))) else (if k < 98 then (if k < 91 then (if k < 87 then (if k < 85 then yX10_worst else (if k < 86 then yX10_act else yX10_trace)) else (if k < 89 then (if k < 88 then yX10_taken else yX10_count) else (if k < 90 then yX10_tape else yX10_item))) else (if k < 94 then (if k < 92 then yX10_read else (if k < 93 then yX10_shift else yX10_within)) else (if k < 96 then (if k < 95 then yX10_isLog else yX10_isDay) else (if k < 97 then yX10_isYear else yX10_isPlace)))) else (if k < 105 then (if k < 101 then (if k < 99 then yX10_isHeight else (if k < 100 then yX10_isNearness else yX10_isSet)) else (if k < 103 then (if k < 102 then yX10_isTape else yX10_isRow) else (if k < 104 then yX10_isUnder else yX10_clamped))) else (if k < 108 then (if k < 106 then yX10_cellOf else (if k < 107 then yX10_latitudeOf else yX10_addRow)) else (if k < 110 then (if k < 109 then yX10_addHeight else yX10_sumOf) else (if k < 111 then yX10_agrees else yX10_heightAgrees))))))) else (if k < 168 then (if k < 140 then (if k < 126 then (if k < 119 then (if k < 115 then (if k < 113 then yX10_pictureAgrees else (if k < 114 then yX10_driftNeededX else yX10_driftNeededY)) else (if k < 117 then (if k < 116 then yX10_quarrelBy else yX10_storyX) else (if k < 118 then yX10_storyY else yX10_agreesInStory))) else (if k < 122 then (if k < 120 then yX10_falseRows else (if k < 121 then yX10_showingMisprint else yX10_madeAtHome)) else (if k < 124 then (if k < 123 then yX10_lawIn else yX10_tally) else (if k < 125 then yX10_letterOf else yX11_in)))) else (if k < 133 then (if k < 129 then (if k < 127 then yX11_abs else (if k < 128 then yX11_keep else yX11_isLog)) else (if k < 131 then (if k < 130 then yX11_isDay else yX11_isYear) else (if k < 132 then yX11_isPlace else yX11_cellOf))) else (if k < 136 then (if k < 134 then yX11_pass else (if k < 135 then yX11_drift else yX11_ice)) else (if k < 138 then (if k < 137 then yX11_sun else yX11_man) else (if k < 139 then yX11_party else yX11_start))))) else (if k < 154 then (if k < 147 then (if k < 143 then (if k < 141 then yX11_claim else (if k < 142 then yX11_isRow else yX11_add)) else (if k < 145 then (if k < 144 then yX11_marchOf else yX11_march) else (if k < 146 then yX11_height else yX11_compass))) else (if k < 150 then (if k < 148 then yX11_picture else (if k < 149 then yX11_word else yX11_torn)) else (if k < 152 then (if k < 151 then yX11_of else yX11_findWay) else (if k < 153 then yX11_place else yX11_canGo)))) else (if k < 161 then (if k < 157 then (if k < 155 then yX11_can else (if k < 156 then yX11_beyondBy else yX11_beyond)) else (if k < 159 then (if k < 158 then yX11_latitudeOf else yX11_latitude) else (if k < 160 then yX11_isHeight else yX11_middle))) else (if k < 164 then (if k < 162 then yX11_isFit else (if k < 163 then yX11_fits else yX11_quarrelOf)) else (if k < 166 then (if k < 165 then yX11_quarrel else yX11_home) else (if k < 167 then yX11_down else yX11_findNeeds)))))) else (if k < 196 then (if k < 182 then (if k < 175 then (if k < 171 then (if k < 169 then yX11_needs else (if k < 170 then yX11_held else yX11_tellStory)) else (if k < 173 then (if k < 172 then yX11_falsesOf else yX11_falses) else (if k < 174 then yX11_least else yX11_init))) else (if k < 178 then (if k < 176 then yX11_misprint else (if k < 177 then yX11_madeOf else yX11_made)) else (if k < 180 then (if k < 179 then yX11_feed else yX11_byteAt) else (if k < 181 then yX11_isDigit else yX11_push)))) else (if k < 189 then (if k < 185 then (if k < 183 then yX11_settle else (if k < 184 then yX11_factOf else yX11_takesTest)) else (if k < 187 then (if k < 186 then yX11_goes else yX11_law) else (if k < 188 then yX11_fitting else yX11_findFacts))) else (if k < 192 then (if k < 190 then yX11_says else (if k < 191 then yX11_look else yX11_partBy)) else (if k < 194 then (if k < 193 then yX11_ones else yX11_worthOf) else (if k < 195 then yX11_isSet else yX11_worth))))) else (if k < 210 then (if k < 203 then (if k < 199 then (if k < 197 then yX11_next else (if k < 198 then yX11_worst else yX11_body)) else (if k < 201 then (if k < 200 then yX11_plainFits else yX11_heightFits) else (if k < 202 then yX11_fitsOf else yX11_plainHangs))) else (if k < 206 then (if k < 204 then yX11_hangsOf else (if k < 205 then yX11_plainShows else yX11_heightShows)) else (if k < 208 then (if k < 207 then yX11_showsOf else yX11_act) else (if k < 209 then yX11_trace else yX11_taken)))) else (if k < 217 then (if k < 213 then (if k < 211 then yX11_count else (if k < 212 then yX11_isTape else yX11_tape)) else (if k < 215 then (if k < 214 then yX11_item else yX11_read) else (if k < 216 then yX11_shift else yJ6_compare_7cf53))) else (if k < 221 then (if k < 219 then (if k < 218 then yJ6_bitCount_0f7a4 else yJ9_floorDiv_7cf53) else (if k < 220 then yJ9_abs_0f7a4 else yJ9_max_7cf53)) else (if k < 223 then (if k < 222 then yJ9_min_7cf53 else yJ7_fill_53178) else (if k < 224 then yJ7_copyOf_59c91 else yL_law)))))))) else yL_law
def mC (k : Nat) : ByteArray := if k < 225 then (if k < 112 then (if k < 56 then (if k < 28 then (if k < 14 then (if k < 7 then (if k < 3 then (if k < 1 then cX0_init else (if k < 2 then cX0_perform else cX0_from)) else (if k < 5 then (if k < 4 then cX0_run else cX1_init) else (if k < 6 then cX1_misprintCount else cX1_showsSun))) else (if k < 10 then (if k < 8 then cX1_showsMisprint else (if k < 9 then cX2_init else cX3_init)) else (if k < 12 then (if k < 11 then cX4_init else cX4_hasClaim) else (if k < 13 then cX4_claimLatitude else cX4_milesOver)))) else (if k < 21 then (if k < 17 then (if k < 15 then cX5_init else (if k < 16 then cX5_add else cX5_leftBehind)) else (if k < 19 then (if k < 18 then cX5_greatestPart else cX5_best) else (if k < 20 then cX6_init else cX6_faultOf))) else (if k < 24 then (if k < 22 then cX6_holds else (if k < 23 then cX6_readAll else cX6_coming)) else (if k < 26 then (if k < 25 then cX6_either else cX6_both) else (if k < 27 then cX6_one else cX6_test))))) else (if k < 42 then (if k < 35 then (if k < 31 then (if k < 29 then cX6_number else (if k < 30 then cX6_letterAt else cX7_init)) else (if k < 33 then (if k < 32 then cX7_isOf else cX7_isHeightOf) else (if k < 34 then cX7_quarrelsWith else cX7_miles))) else (if k < 38 then (if k < 36 then cX8_init else (if k < 37 then cX8_become else cX8_has)) else (if k < 40 then (if k < 39 then cX8_spans else cX8_asItem) else (if k < 41 then cX9_init else cX9_walk)))) else (if k < 49 then (if k < 45 then (if k < 43 then cX9_marchOf else (if k < 44 then cX9_xBehind else cX9_yBehind)) else (if k < 47 then (if k < 46 then cX9_cellBehind else cX9_bearing) else (if k < 48 then cX9_reach else cX9_excess))) else (if k < 52 then (if k < 50 then cX10_init else (if k < 51 then cX10_pass else cX10_drift)) else (if k < 54 then (if k < 53 then cX10_ice else cX10_sun) else (if k < 55 then cX10_man else cX10_party)))))) else (if k < 84 then (if k < 70 then (if k < 63 then (if k < 59 then (if k < 57 then cX10_start else (if k < 58 then cX10_claim else cX10_march)) else (if k < 61 then (if k < 60 then cX10_height else cX10_compass) else (if k < 62 then cX10_picture else cX10_word))) else (if k < 66 then (if k < 64 then cX10_torn else (if k < 65 then cX10_of else cX10_fits)) else (if k < 68 then (if k < 67 then cX10_place else cX10_can) else (if k < 69 then cX10_beyond else cX10_latitude)))) else (if k < 77 then (if k < 73 then (if k < 71 then cX10_quarrel else (if k < 72 then cX10_home else cX10_needs)) else (if k < 75 then (if k < 74 then cX10_held else cX10_falses) else (if k < 76 then cX10_least else cX10_misprint))) else (if k < 80 then (if k < 78 then cX10_made else (if k < 79 then cX10_feed else cX10_law)) else (if k < 82 then (if k < 81 then cX10_says else cX10_look) else (if k < 83 then cX10_worth else cX10_next))))) else (if k < 98 then (if k < 91 then (if k < 87 then (if k < 85 then cX10_worst else (if k < 86 then cX10_act else cX10_trace)) else (if k < 89 then (if k < 88 then cX10_taken else cX10_count) else (if k < 90 then cX10_tape else cX10_item))) else (if k < 94 then (if k < 92 then cX10_read else (if k < 93 then cX10_shift else cX10_within)) else (if k < 96 then (if k < 95 then cX10_isLog else cX10_isDay) else (if k < 97 then cX10_isYear else cX10_isPlace)))) else (if k < 105 then (if k < 101 then (if k < 99 then cX10_isHeight else (if k < 100 then cX10_isNearness else cX10_isSet)) else (if k < 103 then (if k < 102 then cX10_isTape else cX10_isRow) else (if k < 104 then cX10_isUnder else cX10_clamped))) else (if k < 108 then (if k < 106 then cX10_cellOf else (if k < 107 then cX10_latitudeOf else cX10_addRow)) else (if k < 110 then (if k < 109 then cX10_addHeight else cX10_sumOf) else (if k < 111 then cX10_agrees else cX10_heightAgrees))))))) else (if k < 168 then (if k < 140 then (if k < 126 then (if k < 119 then (if k < 115 then (if k < 113 then cX10_pictureAgrees else (if k < 114 then cX10_driftNeededX else cX10_driftNeededY)) else (if k < 117 then (if k < 116 then cX10_quarrelBy else cX10_storyX) else (if k < 118 then cX10_storyY else cX10_agreesInStory))) else (if k < 122 then (if k < 120 then cX10_falseRows else (if k < 121 then cX10_showingMisprint else cX10_madeAtHome)) else (if k < 124 then (if k < 123 then cX10_lawIn else cX10_tally) else (if k < 125 then cX10_letterOf else cX11_in)))) else (if k < 133 then (if k < 129 then (if k < 127 then cX11_abs else (if k < 128 then cX11_keep else cX11_isLog)) else (if k < 131 then (if k < 130 then cX11_isDay else cX11_isYear) else (if k < 132 then cX11_isPlace else cX11_cellOf))) else (if k < 136 then (if k < 134 then cX11_pass else (if k < 135 then cX11_drift else cX11_ice)) else (if k < 138 then (if k < 137 then cX11_sun else cX11_man) else (if k < 139 then cX11_party else cX11_start))))) else (if k < 154 then (if k < 147 then (if k < 143 then (if k < 141 then cX11_claim else (if k < 142 then cX11_isRow else cX11_add)) else (if k < 145 then (if k < 144 then cX11_marchOf else cX11_march) else (if k < 146 then cX11_height else cX11_compass))) else (if k < 150 then (if k < 148 then cX11_picture else (if k < 149 then cX11_word else cX11_torn)) else (if k < 152 then (if k < 151 then cX11_of else cX11_findWay) else (if k < 153 then cX11_place else cX11_canGo)))) else (if k < 161 then (if k < 157 then (if k < 155 then cX11_can else (if k < 156 then cX11_beyondBy else cX11_beyond)) else (if k < 159 then (if k < 158 then cX11_latitudeOf else cX11_latitude) else (if k < 160 then cX11_isHeight else cX11_middle))) else (if k < 164 then (if k < 162 then cX11_isFit else (if k < 163 then cX11_fits else cX11_quarrelOf)) else (if k < 166 then (if k < 165 then cX11_quarrel else cX11_home) else (if k < 167 then cX11_down else cX11_findNeeds)))))) else (if k < 196 then (if k < 182 then (if k < 175 then (if k < 171 then (if k < 169 then cX11_needs else (if k < 170 then cX11_held else cX11_tellStory)) else (if k < 173 then (if k < 172 then cX11_falsesOf else cX11_falses) else (if k < 174 then cX11_least else cX11_init))) else (if k < 178 then (if k < 176 then cX11_misprint else (if k < 177 then cX11_madeOf else cX11_made)) else (if k < 180 then (if k < 179 then cX11_feed else cX11_byteAt) else (if k < 181 then cX11_isDigit else cX11_push)))) else (if k < 189 then (if k < 185 then (if k < 183 then cX11_settle else (if k < 184 then cX11_factOf else cX11_takesTest)) else (if k < 187 then (if k < 186 then cX11_goes else cX11_law) else (if k < 188 then cX11_fitting else cX11_findFacts))) else (if k < 192 then (if k < 190 then cX11_says else (if k < 191 then cX11_look else cX11_partBy)) else (if k < 194 then (if k < 193 then cX11_ones else cX11_worthOf) else (if k < 195 then cX11_isSet else cX11_worth))))) else (if k < 210 then (if k < 203 then (if k < 199 then (if k < 197 then cX11_next else (if k < 198 then cX11_worst else cX11_body)) else (if k < 201 then (if k < 200 then cX11_plainFits else cX11_heightFits) else (if k < 202 then cX11_fitsOf else cX11_plainHangs))) else (if k < 206 then (if k < 204 then cX11_hangsOf else (if k < 205 then cX11_plainShows else cX11_heightShows)) else (if k < 208 then (if k < 207 then cX11_showsOf else cX11_act) else (if k < 209 then cX11_trace else cX11_taken)))) else (if k < 217 then (if k < 213 then (if k < 211 then cX11_count else (if k < 212 then cX11_isTape else cX11_tape)) else (if k < 215 then (if k < 214 then cX11_item else cX11_read) else (if k < 216 then cX11_shift else cJ6_compare_7cf53))) else (if k < 221 then (if k < 219 then (if k < 218 then cJ6_bitCount_0f7a4 else cJ9_floorDiv_7cf53) else (if k < 220 then cJ9_abs_0f7a4 else cJ9_max_7cf53)) else (if k < 223 then (if k < 222 then cJ9_min_7cf53 else cJ7_fill_53178) else (if k < 224 then cJ7_copyOf_59c91 else cL_law)))))))) else cL_law
def mL (k : Nat) : Nat := if k < 225 then (if k < 112 then (if k < 56 then (if k < 28 then (if k < 14 then (if k < 7 then (if k < 3 then (if k < 1 then 1 else (if k < 2 then 4 else 9)) else (if k < 5 then (if k < 4 then 7 else 1) else (if k < 6 then 3 else 3))) else (if k < 10 then (if k < 8 then 4 else (if k < 9 then 1 else 4)) else (if k < 12 then (if k < 11 then 1 else 1) else (if k < 13 then 1 else 2)))) else (if k < 21 then (if k < 17 then (if k < 15 then 2 else (if k < 16 then 4 else 7)) else (if k < 19 then (if k < 18 then 5 else 6) else (if k < 20 then 1 else 3))) else (if k < 24 then (if k < 22 then 2 else (if k < 23 then 4 else 1)) else (if k < 26 then (if k < 25 then 4 else 4) else (if k < 27 then 4 else 4))))) else (if k < 42 then (if k < 35 then (if k < 31 then (if k < 29 then 3 else (if k < 30 then 2 else 6)) else (if k < 33 then (if k < 32 then 3 else 3) else (if k < 34 then 2 else 1))) else (if k < 38 then (if k < 36 then 1 else (if k < 37 then 3 else 2)) else (if k < 40 then (if k < 39 then 3 else 2) else (if k < 41 then 3 else 9)))) else (if k < 49 then (if k < 45 then (if k < 43 then 3 else (if k < 44 then 2 else 2)) else (if k < 47 then (if k < 46 then 2 else 3) else (if k < 48 then 2 else 3))) else (if k < 52 then (if k < 50 then 2 else (if k < 51 then 2 else 4)) else (if k < 54 then (if k < 53 then 4 else 4) else (if k < 55 then 3 else 6)))))) else (if k < 84 then (if k < 70 then (if k < 63 then (if k < 59 then (if k < 57 then 4 else (if k < 58 then 6 else 7)) else (if k < 61 then (if k < 60 then 6 else 5) else (if k < 62 then 7 else 8))) else (if k < 66 then (if k < 64 then 11 else (if k < 65 then 4 else 5)) else (if k < 68 then (if k < 67 then 4 else 3) else (if k < 69 then 8 else 3)))) else (if k < 77 then (if k < 73 then (if k < 71 then 2 else (if k < 72 then 5 else 3)) else (if k < 75 then (if k < 74 then 8 else 5) else (if k < 76 then 8 else 4))) else (if k < 80 then (if k < 78 then 3 else (if k < 79 then 4 else 5)) else (if k < 82 then (if k < 81 then 5 else 2) else (if k < 83 then 3 else 2))))) else (if k < 98 then (if k < 91 then (if k < 87 then (if k < 85 then 3 else (if k < 86 then 4 else 2)) else (if k < 89 then (if k < 88 then 4 else 2) else (if k < 90 then 4 else 5))) else (if k < 94 then (if k < 92 then 3 else (if k < 93 then 8 else 3)) else (if k < 96 then (if k < 95 then 1 else 1) else (if k < 97 then 1 else 2)))) else (if k < 105 then (if k < 101 then (if k < 99 then 1 else (if k < 100 then 1 else 1)) else (if k < 103 then (if k < 102 then 1 else 2) else (if k < 104 then 4 else 1))) else (if k < 108 then (if k < 106 then 2 else (if k < 107 then 4 else 5)) else (if k < 110 then (if k < 109 then 7 else 5) else (if k < 111 then 4 else 4))))))) else (if k < 168 then (if k < 140 then (if k < 126 then (if k < 119 then (if k < 115 then (if k < 113 then 5 else (if k < 114 then 2 else 2)) else (if k < 117 then (if k < 116 then 5 else 4) else (if k < 118 then 6 else 5))) else (if k < 122 then (if k < 120 then 6 else (if k < 121 then 5 else 6)) else (if k < 124 then (if k < 123 then 6 else 8) else (if k < 125 then 1 else 4)))) else (if k < 133 then (if k < 129 then (if k < 127 then 2 else (if k < 128 then 2 else 2)) else (if k < 131 then (if k < 130 then 2 else 2) else (if k < 132 then 3 else 3))) else (if k < 136 then (if k < 134 then 2 else (if k < 135 then 4 else 4)) else (if k < 138 then (if k < 137 then 4 else 3) else (if k < 139 then 5 else 4))))) else (if k < 154 then (if k < 147 then (if k < 143 then (if k < 141 then 5 else (if k < 142 then 2 else 8)) else (if k < 145 then (if k < 144 then 5 else 6) else (if k < 146 then 6 else 4))) else (if k < 150 then (if k < 148 then 6 else (if k < 149 then 7 else 10)) else (if k < 152 then (if k < 151 then 3 else 8) else (if k < 153 then 4 else 5)))) else (if k < 161 then (if k < 157 then (if k < 155 then 3 else (if k < 156 then 2 else 8)) else (if k < 159 then (if k < 158 then 5 else 3) else (if k < 160 then 2 else 2))) else (if k < 164 then (if k < 162 then 7 else (if k < 163 then 4 else 5)) else (if k < 166 then (if k < 165 then 2 else 5) else (if k < 167 then 4 else 3)))))) else (if k < 196 then (if k < 182 then (if k < 175 then (if k < 171 then (if k < 169 then 3 else (if k < 170 then 5 else 5)) else (if k < 173 then (if k < 172 then 7 else 5) else (if k < 174 then 6 else 2))) else (if k < 178 then (if k < 176 then 4 else (if k < 177 then 8 else 3)) else (if k < 180 then (if k < 179 then 4 else 1) else (if k < 181 then 1 else 3)))) else (if k < 189 then (if k < 185 then (if k < 183 then 2 else (if k < 184 then 2 else 5)) else (if k < 187 then (if k < 186 then 4 else 4) else (if k < 188 then 6 else 4))) else (if k < 192 then (if k < 190 then 6 else (if k < 191 then 2 else 6)) else (if k < 194 then (if k < 193 then 4 else 5) else (if k < 195 then 2 else 3))))) else (if k < 210 then (if k < 203 then (if k < 199 then (if k < 197 then 4 else (if k < 198 then 10 else 2)) else (if k < 201 then (if k < 200 then 3 else 3) else (if k < 202 then 4 else 3))) else (if k < 206 then (if k < 204 then 3 else (if k < 205 then 3 else 4)) else (if k < 208 then (if k < 207 then 3 else 4) else (if k < 209 then 2 else 3)))) else (if k < 217 then (if k < 213 then (if k < 211 then 2 else (if k < 212 then 2 else 5)) else (if k < 215 then (if k < 214 then 4 else 3) else (if k < 216 then 7 else 2))) else (if k < 221 then (if k < 219 then (if k < 218 then 1 else 3) else (if k < 220 then 1 else 2)) else (if k < 223 then (if k < 222 then 2 else 4) else (if k < 224 then 3 else 4)))))))) else 0
def mT (k : Nat) : Option FieldType := if k < 225 then (if k < 112 then (if k < 56 then (if k < 28 then (if k < 14 then (if k < 7 then (if k < 3 then (if k < 1 then (none) else (if k < 2 then (some .int) else (some .int))) else (if k < 5 then (if k < 4 then (some .int) else (none)) else (if k < 6 then (some .int) else (some .boolean)))) else (if k < 10 then (if k < 8 then (some .boolean) else (if k < 9 then (none) else (none))) else (if k < 12 then (if k < 11 then (none) else (some .boolean)) else (if k < 13 then (some .int) else (some .int))))) else (if k < 21 then (if k < 17 then (if k < 15 then (none) else (if k < 16 then (some .int) else (some .int))) else (if k < 19 then (if k < 18 then (some .int) else (some .int)) else (if k < 20 then (none) else (some .int)))) else (if k < 24 then (if k < 22 then (some .boolean) else (if k < 23 then (some .boolean) else (some .int))) else (if k < 26 then (if k < 25 then (some .boolean) else (some .boolean)) else (if k < 27 then (some .boolean) else (some .boolean)))))) else (if k < 42 then (if k < 35 then (if k < 31 then (if k < 29 then (some .int) else (if k < 30 then (some .int) else (none))) else (if k < 33 then (if k < 32 then (some .boolean) else (some .boolean)) else (if k < 34 then (some .boolean) else (some .int)))) else (if k < 38 then (if k < 36 then (none) else (if k < 37 then (none) else (some .boolean))) else (if k < 40 then (if k < 39 then (some .boolean) else (some .int)) else (if k < 41 then (none) else (none))))) else (if k < 49 then (if k < 45 then (if k < 43 then (some (.object "PoleLogs$Row")) else (if k < 44 then (some .int) else (some .int))) else (if k < 47 then (if k < 46 then (some .int) else (some .int)) else (if k < 48 then (some .int) else (some .int)))) else (if k < 52 then (if k < 50 then (none) else (if k < 51 then (some .int) else (some .int))) else (if k < 54 then (if k < 53 then (some .int) else (some .int)) else (if k < 55 then (some .int) else (some .int))))))) else (if k < 84 then (if k < 70 then (if k < 63 then (if k < 59 then (if k < 57 then (some .int) else (if k < 58 then (some .int) else (some .int))) else (if k < 61 then (if k < 60 then (some .int) else (some .int)) else (if k < 62 then (some .int) else (some .int)))) else (if k < 66 then (if k < 64 then (some .int) else (if k < 65 then (some .int) else (some .int))) else (if k < 68 then (if k < 67 then (some .int) else (some .int)) else (if k < 69 then (some .int) else (some .int))))) else (if k < 77 then (if k < 73 then (if k < 71 then (some .int) else (if k < 72 then (some .int) else (some .int))) else (if k < 75 then (if k < 74 then (some .int) else (some .int)) else (if k < 76 then (some .int) else (some .int)))) else (if k < 80 then (if k < 78 then (some .int) else (if k < 79 then (some .int) else (some .int))) else (if k < 82 then (if k < 81 then (some .int) else (some .int)) else (if k < 83 then (some .int) else (some .int)))))) else (if k < 98 then (if k < 91 then (if k < 87 then (if k < 85 then (some .int) else (if k < 86 then (some .int) else (some .int))) else (if k < 89 then (if k < 88 then (some .int) else (some .int)) else (if k < 90 then (some .int) else (some .int)))) else (if k < 94 then (if k < 92 then (some .int) else (if k < 93 then (some .int) else (some .boolean))) else (if k < 96 then (if k < 95 then (some .boolean) else (some .boolean)) else (if k < 97 then (some .boolean) else (some .boolean))))) else (if k < 105 then (if k < 101 then (if k < 99 then (some .boolean) else (if k < 100 then (some .boolean) else (some .boolean))) else (if k < 103 then (if k < 102 then (some .boolean) else (some .boolean)) else (if k < 104 then (some .boolean) else (some .int)))) else (if k < 108 then (if k < 106 then (some .int) else (if k < 107 then (some .int) else (some (.object "PoleLogs$Row")))) else (if k < 110 then (if k < 109 then (some .int) else (some .int)) else (if k < 111 then (some .boolean) else (some .boolean)))))))) else (if k < 168 then (if k < 140 then (if k < 126 then (if k < 119 then (if k < 115 then (if k < 113 then (some .boolean) else (if k < 114 then (some .int) else (some .int))) else (if k < 117 then (if k < 116 then (some .int) else (some .int)) else (if k < 118 then (some .int) else (some .boolean)))) else (if k < 122 then (if k < 120 then (some .int) else (if k < 121 then (some .int) else (some .int))) else (if k < 124 then (if k < 123 then (some (.object "PoleLogs$Law")) else (none)) else (if k < 125 then (some .int) else (some .boolean))))) else (if k < 133 then (if k < 129 then (if k < 127 then (some .int) else (if k < 128 then (some .int) else (some .boolean))) else (if k < 131 then (if k < 130 then (some .boolean) else (some .boolean)) else (if k < 132 then (some .boolean) else (some .int)))) else (if k < 136 then (if k < 134 then (some .int) else (if k < 135 then (some .int) else (some .int))) else (if k < 138 then (if k < 137 then (some .int) else (some .int)) else (if k < 139 then (some .int) else (some .int)))))) else (if k < 154 then (if k < 147 then (if k < 143 then (if k < 141 then (some .int) else (if k < 142 then (some .boolean) else (some .int))) else (if k < 145 then (if k < 144 then (some .int) else (some .int)) else (if k < 146 then (some .int) else (some .int)))) else (if k < 150 then (if k < 148 then (some .int) else (if k < 149 then (some .int) else (some .int))) else (if k < 152 then (if k < 151 then (some .int) else (none)) else (if k < 153 then (some .int) else (some .int))))) else (if k < 161 then (if k < 157 then (if k < 155 then (some .int) else (if k < 156 then (some .int) else (some .int))) else (if k < 159 then (if k < 158 then (some .int) else (some .int)) else (if k < 160 then (some .boolean) else (some .int)))) else (if k < 164 then (if k < 162 then (some .boolean) else (if k < 163 then (some .int) else (some .int))) else (if k < 166 then (if k < 165 then (some .int) else (some .int)) else (if k < 167 then (some .int) else (none))))))) else (if k < 196 then (if k < 182 then (if k < 175 then (if k < 171 then (if k < 169 then (some .int) else (if k < 170 then (some .int) else (none))) else (if k < 173 then (if k < 172 then (some .int) else (some .int)) else (if k < 174 then (some .int) else (none)))) else (if k < 178 then (if k < 176 then (some .int) else (if k < 177 then (some .int) else (some .int))) else (if k < 180 then (if k < 179 then (some .int) else (some .int)) else (if k < 181 then (some .boolean) else (none))))) else (if k < 189 then (if k < 185 then (if k < 183 then (none) else (if k < 184 then (some .int) else (some .boolean))) else (if k < 187 then (if k < 186 then (some .boolean) else (some .int)) else (if k < 188 then (some .int) else (none)))) else (if k < 192 then (if k < 190 then (some .int) else (if k < 191 then (some .int) else (some .int))) else (if k < 194 then (if k < 193 then (some .int) else (some .int)) else (if k < 195 then (some .boolean) else (some .int)))))) else (if k < 210 then (if k < 203 then (if k < 199 then (if k < 197 then (some .int) else (if k < 198 then (some .int) else (none))) else (if k < 201 then (if k < 200 then (some .int) else (some .int)) else (if k < 202 then (some .int) else (some .int)))) else (if k < 206 then (if k < 204 then (some .int) else (if k < 205 then (some .int) else (some .int))) else (if k < 208 then (if k < 207 then (some .int) else (some .int)) else (if k < 209 then (some .int) else (some .int))))) else (if k < 217 then (if k < 213 then (if k < 211 then (some .int) else (if k < 212 then (some .boolean) else (some .int))) else (if k < 215 then (if k < 214 then (some .int) else (some .int)) else (if k < 216 then (some .int) else (some .int)))) else (if k < 221 then (if k < 219 then (if k < 218 then (some .int) else (some .int)) else (if k < 220 then (some .int) else (some .int))) else (if k < 223 then (if k < 222 then (some .int) else (none)) else (if k < 224 then (some (.array .int)) else (some .boolean))))))))) else none
def mP (k : Nat) : List (Nat × List PI) := if k < 224 then (if k < 112 then (if k < 56 then (if k < 28 then (if k < 14 then (if k < 7 then (if k < 3 then (if k < 1 then p0 else (if k < 2 then p1 else p2)) else (if k < 5 then (if k < 4 then p3 else p4) else (if k < 6 then p5 else p6))) else (if k < 10 then (if k < 8 then p7 else (if k < 9 then p8 else p9)) else (if k < 12 then (if k < 11 then p10 else p11) else (if k < 13 then p12 else p13)))) else (if k < 21 then (if k < 17 then (if k < 15 then p14 else (if k < 16 then p15 else p16)) else (if k < 19 then (if k < 18 then p17 else p18) else (if k < 20 then p19 else p20))) else (if k < 24 then (if k < 22 then p21 else (if k < 23 then p22 else p23)) else (if k < 26 then (if k < 25 then p24 else p25) else (if k < 27 then p26 else p27))))) else (if k < 42 then (if k < 35 then (if k < 31 then (if k < 29 then p28 else (if k < 30 then p29 else p30)) else (if k < 33 then (if k < 32 then p31 else p32) else (if k < 34 then p33 else p34))) else (if k < 38 then (if k < 36 then p35 else (if k < 37 then p36 else p37)) else (if k < 40 then (if k < 39 then p38 else p39) else (if k < 41 then p40 else p41)))) else (if k < 49 then (if k < 45 then (if k < 43 then p42 else (if k < 44 then p43 else p44)) else (if k < 47 then (if k < 46 then p45 else p46) else (if k < 48 then p47 else p48))) else (if k < 52 then (if k < 50 then p49 else (if k < 51 then p50 else p51)) else (if k < 54 then (if k < 53 then p52 else p53) else (if k < 55 then p54 else p55)))))) else (if k < 84 then (if k < 70 then (if k < 63 then (if k < 59 then (if k < 57 then p56 else (if k < 58 then p57 else p58)) else (if k < 61 then (if k < 60 then p59 else p60) else (if k < 62 then p61 else p62))) else (if k < 66 then (if k < 64 then p63 else (if k < 65 then p64 else p65)) else (if k < 68 then (if k < 67 then p66 else p67) else (if k < 69 then p68 else p69)))) else (if k < 77 then (if k < 73 then (if k < 71 then p70 else (if k < 72 then p71 else p72)) else (if k < 75 then (if k < 74 then p73 else p74) else (if k < 76 then p75 else p76))) else (if k < 80 then (if k < 78 then p77 else (if k < 79 then p78 else p79)) else (if k < 82 then (if k < 81 then p80 else p81) else (if k < 83 then p82 else p83))))) else (if k < 98 then (if k < 91 then (if k < 87 then (if k < 85 then p84 else (if k < 86 then p85 else p86)) else (if k < 89 then (if k < 88 then p87 else p88) else (if k < 90 then p89 else p90))) else (if k < 94 then (if k < 92 then p91 else (if k < 93 then p92 else p93)) else (if k < 96 then (if k < 95 then p94 else p95) else (if k < 97 then p96 else p97)))) else (if k < 105 then (if k < 101 then (if k < 99 then p98 else (if k < 100 then p99 else p100)) else (if k < 103 then (if k < 102 then p101 else p102) else (if k < 104 then p103 else p104))) else (if k < 108 then (if k < 106 then p105 else (if k < 107 then p106 else p107)) else (if k < 110 then (if k < 109 then p108 else p109) else (if k < 111 then p110 else p111))))))) else (if k < 168 then (if k < 140 then (if k < 126 then (if k < 119 then (if k < 115 then (if k < 113 then p112 else (if k < 114 then p113 else p114)) else (if k < 117 then (if k < 116 then p115 else p116) else (if k < 118 then p117 else p118))) else (if k < 122 then (if k < 120 then p119 else (if k < 121 then p120 else p121)) else (if k < 124 then (if k < 123 then p122 else p123) else (if k < 125 then p124 else p125)))) else (if k < 133 then (if k < 129 then (if k < 127 then p126 else (if k < 128 then p127 else p128)) else (if k < 131 then (if k < 130 then p129 else p130) else (if k < 132 then p131 else p132))) else (if k < 136 then (if k < 134 then p133 else (if k < 135 then p134 else p135)) else (if k < 138 then (if k < 137 then p136 else p137) else (if k < 139 then p138 else p139))))) else (if k < 154 then (if k < 147 then (if k < 143 then (if k < 141 then p140 else (if k < 142 then p141 else p142)) else (if k < 145 then (if k < 144 then p143 else p144) else (if k < 146 then p145 else p146))) else (if k < 150 then (if k < 148 then p147 else (if k < 149 then p148 else p149)) else (if k < 152 then (if k < 151 then p150 else p151) else (if k < 153 then p152 else p153)))) else (if k < 161 then (if k < 157 then (if k < 155 then p154 else (if k < 156 then p155 else p156)) else (if k < 159 then (if k < 158 then p157 else p158) else (if k < 160 then p159 else p160))) else (if k < 164 then (if k < 162 then p161 else (if k < 163 then p162 else p163)) else (if k < 166 then (if k < 165 then p164 else p165) else (if k < 167 then p166 else p167)))))) else (if k < 196 then (if k < 182 then (if k < 175 then (if k < 171 then (if k < 169 then p168 else (if k < 170 then p169 else p170)) else (if k < 173 then (if k < 172 then p171 else p172) else (if k < 174 then p173 else p174))) else (if k < 178 then (if k < 176 then p175 else (if k < 177 then p176 else p177)) else (if k < 180 then (if k < 179 then p178 else p179) else (if k < 181 then p180 else p181)))) else (if k < 189 then (if k < 185 then (if k < 183 then p182 else (if k < 184 then p183 else p184)) else (if k < 187 then (if k < 186 then p185 else p186) else (if k < 188 then p187 else p188))) else (if k < 192 then (if k < 190 then p189 else (if k < 191 then p190 else p191)) else (if k < 194 then (if k < 193 then p192 else p193) else (if k < 195 then p194 else p195))))) else (if k < 210 then (if k < 203 then (if k < 199 then (if k < 197 then p196 else (if k < 198 then p197 else p198)) else (if k < 201 then (if k < 200 then p199 else p200) else (if k < 202 then p201 else p202))) else (if k < 206 then (if k < 204 then p203 else (if k < 205 then p204 else p205)) else (if k < 208 then (if k < 207 then p206 else p207) else (if k < 209 then p208 else p209)))) else (if k < 217 then (if k < 213 then (if k < 211 then p210 else (if k < 212 then p211 else p212)) else (if k < 215 then (if k < 214 then p213 else p214) else (if k < 216 then p215 else p216))) else (if k < 220 then (if k < 218 then p217 else (if k < 219 then p218 else p219)) else (if k < 222 then (if k < 221 then p220 else p221) else (if k < 223 then p222 else p223)))))))) else []
def nM : Nat := 224
end
section
/-! the checks of part 09 hold of the program -/
theorem k0 : p0.all (fun q => chkL mY mC mL mT lw_tbl nM 0 q.1 q.2) = true := by decide +kernel
theorem k1 : p1.all (fun q => chkL mY mC mL mT lw_tbl nM 1 q.1 q.2) = true := by decide +kernel
theorem k2 : p2.all (fun q => chkL mY mC mL mT lw_tbl nM 2 q.1 q.2) = true := by decide +kernel
theorem k3 : p3.all (fun q => chkL mY mC mL mT lw_tbl nM 3 q.1 q.2) = true := by decide +kernel
theorem k4 : p4.all (fun q => chkL mY mC mL mT lw_tbl nM 4 q.1 q.2) = true := by decide +kernel
theorem k5 : p5.all (fun q => chkL mY mC mL mT lw_tbl nM 5 q.1 q.2) = true := by decide +kernel
theorem k6 : p6.all (fun q => chkL mY mC mL mT lw_tbl nM 6 q.1 q.2) = true := by decide +kernel
theorem k7 : p7.all (fun q => chkL mY mC mL mT lw_tbl nM 7 q.1 q.2) = true := by decide +kernel
theorem k8 : p8.all (fun q => chkL mY mC mL mT lw_tbl nM 8 q.1 q.2) = true := by decide +kernel
theorem k9 : p9.all (fun q => chkL mY mC mL mT lw_tbl nM 9 q.1 q.2) = true := by decide +kernel
theorem k10 : p10.all (fun q => chkL mY mC mL mT lw_tbl nM 10 q.1 q.2) = true := by decide +kernel
theorem k11 : p11.all (fun q => chkL mY mC mL mT lw_tbl nM 11 q.1 q.2) = true := by decide +kernel
theorem k12 : p12.all (fun q => chkL mY mC mL mT lw_tbl nM 12 q.1 q.2) = true := by decide +kernel
theorem k13 : p13.all (fun q => chkL mY mC mL mT lw_tbl nM 13 q.1 q.2) = true := by decide +kernel
theorem k14 : p14.all (fun q => chkL mY mC mL mT lw_tbl nM 14 q.1 q.2) = true := by decide +kernel
theorem k15 : p15.all (fun q => chkL mY mC mL mT lw_tbl nM 15 q.1 q.2) = true := by decide +kernel
theorem k16 : p16.all (fun q => chkL mY mC mL mT lw_tbl nM 16 q.1 q.2) = true := by decide +kernel
theorem k17 : p17.all (fun q => chkL mY mC mL mT lw_tbl nM 17 q.1 q.2) = true := by decide +kernel
theorem k18 : p18.all (fun q => chkL mY mC mL mT lw_tbl nM 18 q.1 q.2) = true := by decide +kernel
theorem k19 : p19.all (fun q => chkL mY mC mL mT lw_tbl nM 19 q.1 q.2) = true := by decide +kernel
theorem k20 : p20.all (fun q => chkL mY mC mL mT lw_tbl nM 20 q.1 q.2) = true := by decide +kernel
theorem k21 : p21.all (fun q => chkL mY mC mL mT lw_tbl nM 21 q.1 q.2) = true := by decide +kernel
theorem k22 : p22.all (fun q => chkL mY mC mL mT lw_tbl nM 22 q.1 q.2) = true := by decide +kernel
theorem k23 : p23.all (fun q => chkL mY mC mL mT lw_tbl nM 23 q.1 q.2) = true := by decide +kernel
theorem k24 : p24.all (fun q => chkL mY mC mL mT lw_tbl nM 24 q.1 q.2) = true := by decide +kernel
theorem k25 : p25.all (fun q => chkL mY mC mL mT lw_tbl nM 25 q.1 q.2) = true := by decide +kernel
theorem k26 : p26.all (fun q => chkL mY mC mL mT lw_tbl nM 26 q.1 q.2) = true := by decide +kernel
theorem k27 : p27.all (fun q => chkL mY mC mL mT lw_tbl nM 27 q.1 q.2) = true := by decide +kernel
theorem k28 : p28.all (fun q => chkL mY mC mL mT lw_tbl nM 28 q.1 q.2) = true := by decide +kernel
theorem k29 : p29.all (fun q => chkL mY mC mL mT lw_tbl nM 29 q.1 q.2) = true := by decide +kernel
theorem k30 : p30.all (fun q => chkL mY mC mL mT lw_tbl nM 30 q.1 q.2) = true := by decide +kernel
theorem k31 : p31.all (fun q => chkL mY mC mL mT lw_tbl nM 31 q.1 q.2) = true := by decide +kernel
theorem k32 : p32.all (fun q => chkL mY mC mL mT lw_tbl nM 32 q.1 q.2) = true := by decide +kernel
theorem k33 : p33.all (fun q => chkL mY mC mL mT lw_tbl nM 33 q.1 q.2) = true := by decide +kernel
theorem k34 : p34.all (fun q => chkL mY mC mL mT lw_tbl nM 34 q.1 q.2) = true := by decide +kernel
theorem k35 : p35.all (fun q => chkL mY mC mL mT lw_tbl nM 35 q.1 q.2) = true := by decide +kernel
theorem k36 : p36.all (fun q => chkL mY mC mL mT lw_tbl nM 36 q.1 q.2) = true := by decide +kernel
theorem k37 : p37.all (fun q => chkL mY mC mL mT lw_tbl nM 37 q.1 q.2) = true := by decide +kernel
theorem k38 : p38.all (fun q => chkL mY mC mL mT lw_tbl nM 38 q.1 q.2) = true := by decide +kernel
theorem k39 : p39.all (fun q => chkL mY mC mL mT lw_tbl nM 39 q.1 q.2) = true := by decide +kernel
theorem k40 : p40.all (fun q => chkL mY mC mL mT lw_tbl nM 40 q.1 q.2) = true := by decide +kernel
theorem k41 : p41.all (fun q => chkL mY mC mL mT lw_tbl nM 41 q.1 q.2) = true := by decide +kernel
theorem k42 : p42.all (fun q => chkL mY mC mL mT lw_tbl nM 42 q.1 q.2) = true := by decide +kernel
theorem k43 : p43.all (fun q => chkL mY mC mL mT lw_tbl nM 43 q.1 q.2) = true := by decide +kernel
theorem k44 : p44.all (fun q => chkL mY mC mL mT lw_tbl nM 44 q.1 q.2) = true := by decide +kernel
theorem k45 : p45.all (fun q => chkL mY mC mL mT lw_tbl nM 45 q.1 q.2) = true := by decide +kernel
theorem k46 : p46.all (fun q => chkL mY mC mL mT lw_tbl nM 46 q.1 q.2) = true := by decide +kernel
theorem k47 : p47.all (fun q => chkL mY mC mL mT lw_tbl nM 47 q.1 q.2) = true := by decide +kernel
theorem k48 : p48.all (fun q => chkL mY mC mL mT lw_tbl nM 48 q.1 q.2) = true := by decide +kernel
theorem k49 : p49.all (fun q => chkL mY mC mL mT lw_tbl nM 49 q.1 q.2) = true := by decide +kernel
theorem k50 : p50.all (fun q => chkL mY mC mL mT lw_tbl nM 50 q.1 q.2) = true := by decide +kernel
theorem k51 : p51.all (fun q => chkL mY mC mL mT lw_tbl nM 51 q.1 q.2) = true := by decide +kernel
theorem k52 : p52.all (fun q => chkL mY mC mL mT lw_tbl nM 52 q.1 q.2) = true := by decide +kernel
theorem k53 : p53.all (fun q => chkL mY mC mL mT lw_tbl nM 53 q.1 q.2) = true := by decide +kernel
theorem k54 : p54.all (fun q => chkL mY mC mL mT lw_tbl nM 54 q.1 q.2) = true := by decide +kernel
theorem k55 : p55.all (fun q => chkL mY mC mL mT lw_tbl nM 55 q.1 q.2) = true := by decide +kernel
theorem k56 : p56.all (fun q => chkL mY mC mL mT lw_tbl nM 56 q.1 q.2) = true := by decide +kernel
theorem k57 : p57.all (fun q => chkL mY mC mL mT lw_tbl nM 57 q.1 q.2) = true := by decide +kernel
theorem k58 : p58.all (fun q => chkL mY mC mL mT lw_tbl nM 58 q.1 q.2) = true := by decide +kernel
end
section
/-! the checks of part 09 hold of the program -/
theorem k59 : p59.all (fun q => chkL mY mC mL mT lw_tbl nM 59 q.1 q.2) = true := by decide +kernel
theorem k60 : p60.all (fun q => chkL mY mC mL mT lw_tbl nM 60 q.1 q.2) = true := by decide +kernel
theorem k61 : p61.all (fun q => chkL mY mC mL mT lw_tbl nM 61 q.1 q.2) = true := by decide +kernel
theorem k62 : p62.all (fun q => chkL mY mC mL mT lw_tbl nM 62 q.1 q.2) = true := by decide +kernel
theorem k63 : p63.all (fun q => chkL mY mC mL mT lw_tbl nM 63 q.1 q.2) = true := by decide +kernel
theorem k64 : p64.all (fun q => chkL mY mC mL mT lw_tbl nM 64 q.1 q.2) = true := by decide +kernel
theorem k65 : p65.all (fun q => chkL mY mC mL mT lw_tbl nM 65 q.1 q.2) = true := by decide +kernel
theorem k66 : p66.all (fun q => chkL mY mC mL mT lw_tbl nM 66 q.1 q.2) = true := by decide +kernel
theorem k67 : p67.all (fun q => chkL mY mC mL mT lw_tbl nM 67 q.1 q.2) = true := by decide +kernel
theorem k68 : p68.all (fun q => chkL mY mC mL mT lw_tbl nM 68 q.1 q.2) = true := by decide +kernel
theorem k69 : p69.all (fun q => chkL mY mC mL mT lw_tbl nM 69 q.1 q.2) = true := by decide +kernel
theorem k70 : p70.all (fun q => chkL mY mC mL mT lw_tbl nM 70 q.1 q.2) = true := by decide +kernel
theorem k71 : p71.all (fun q => chkL mY mC mL mT lw_tbl nM 71 q.1 q.2) = true := by decide +kernel
theorem k72 : p72.all (fun q => chkL mY mC mL mT lw_tbl nM 72 q.1 q.2) = true := by decide +kernel
theorem k73 : p73.all (fun q => chkL mY mC mL mT lw_tbl nM 73 q.1 q.2) = true := by decide +kernel
theorem k74 : p74.all (fun q => chkL mY mC mL mT lw_tbl nM 74 q.1 q.2) = true := by decide +kernel
theorem k75 : p75.all (fun q => chkL mY mC mL mT lw_tbl nM 75 q.1 q.2) = true := by decide +kernel
theorem k76 : p76.all (fun q => chkL mY mC mL mT lw_tbl nM 76 q.1 q.2) = true := by decide +kernel
theorem k77 : p77.all (fun q => chkL mY mC mL mT lw_tbl nM 77 q.1 q.2) = true := by decide +kernel
theorem k78 : p78.all (fun q => chkL mY mC mL mT lw_tbl nM 78 q.1 q.2) = true := by decide +kernel
theorem k79 : p79.all (fun q => chkL mY mC mL mT lw_tbl nM 79 q.1 q.2) = true := by decide +kernel
theorem k80 : p80.all (fun q => chkL mY mC mL mT lw_tbl nM 80 q.1 q.2) = true := by decide +kernel
theorem k81 : p81.all (fun q => chkL mY mC mL mT lw_tbl nM 81 q.1 q.2) = true := by decide +kernel
theorem k82 : p82.all (fun q => chkL mY mC mL mT lw_tbl nM 82 q.1 q.2) = true := by decide +kernel
theorem k83 : p83.all (fun q => chkL mY mC mL mT lw_tbl nM 83 q.1 q.2) = true := by decide +kernel
theorem k84 : p84.all (fun q => chkL mY mC mL mT lw_tbl nM 84 q.1 q.2) = true := by decide +kernel
theorem k85 : p85.all (fun q => chkL mY mC mL mT lw_tbl nM 85 q.1 q.2) = true := by decide +kernel
theorem k86 : p86.all (fun q => chkL mY mC mL mT lw_tbl nM 86 q.1 q.2) = true := by decide +kernel
theorem k87 : p87.all (fun q => chkL mY mC mL mT lw_tbl nM 87 q.1 q.2) = true := by decide +kernel
theorem k88 : p88.all (fun q => chkL mY mC mL mT lw_tbl nM 88 q.1 q.2) = true := by decide +kernel
theorem k89 : p89.all (fun q => chkL mY mC mL mT lw_tbl nM 89 q.1 q.2) = true := by decide +kernel
theorem k90 : p90.all (fun q => chkL mY mC mL mT lw_tbl nM 90 q.1 q.2) = true := by decide +kernel
theorem k91 : p91.all (fun q => chkL mY mC mL mT lw_tbl nM 91 q.1 q.2) = true := by decide +kernel
theorem k92 : p92.all (fun q => chkL mY mC mL mT lw_tbl nM 92 q.1 q.2) = true := by decide +kernel
theorem k93 : p93.all (fun q => chkL mY mC mL mT lw_tbl nM 93 q.1 q.2) = true := by decide +kernel
theorem k94 : p94.all (fun q => chkL mY mC mL mT lw_tbl nM 94 q.1 q.2) = true := by decide +kernel
theorem k95 : p95.all (fun q => chkL mY mC mL mT lw_tbl nM 95 q.1 q.2) = true := by decide +kernel
theorem k96 : p96.all (fun q => chkL mY mC mL mT lw_tbl nM 96 q.1 q.2) = true := by decide +kernel
theorem k97 : p97.all (fun q => chkL mY mC mL mT lw_tbl nM 97 q.1 q.2) = true := by decide +kernel
theorem k98 : p98.all (fun q => chkL mY mC mL mT lw_tbl nM 98 q.1 q.2) = true := by decide +kernel
theorem k99 : p99.all (fun q => chkL mY mC mL mT lw_tbl nM 99 q.1 q.2) = true := by decide +kernel
theorem k100 : p100.all (fun q => chkL mY mC mL mT lw_tbl nM 100 q.1 q.2) = true := by decide +kernel
theorem k101 : p101.all (fun q => chkL mY mC mL mT lw_tbl nM 101 q.1 q.2) = true := by decide +kernel
theorem k102 : p102.all (fun q => chkL mY mC mL mT lw_tbl nM 102 q.1 q.2) = true := by decide +kernel
theorem k103 : p103.all (fun q => chkL mY mC mL mT lw_tbl nM 103 q.1 q.2) = true := by decide +kernel
theorem k104 : p104.all (fun q => chkL mY mC mL mT lw_tbl nM 104 q.1 q.2) = true := by decide +kernel
theorem k105 : p105.all (fun q => chkL mY mC mL mT lw_tbl nM 105 q.1 q.2) = true := by decide +kernel
theorem k106 : p106.all (fun q => chkL mY mC mL mT lw_tbl nM 106 q.1 q.2) = true := by decide +kernel
theorem k107 : p107.all (fun q => chkL mY mC mL mT lw_tbl nM 107 q.1 q.2) = true := by decide +kernel
theorem k108 : p108.all (fun q => chkL mY mC mL mT lw_tbl nM 108 q.1 q.2) = true := by decide +kernel
theorem k109 : p109.all (fun q => chkL mY mC mL mT lw_tbl nM 109 q.1 q.2) = true := by decide +kernel
theorem k110 : p110.all (fun q => chkL mY mC mL mT lw_tbl nM 110 q.1 q.2) = true := by decide +kernel
theorem k111 : p111.all (fun q => chkL mY mC mL mT lw_tbl nM 111 q.1 q.2) = true := by decide +kernel
theorem k112 : p112.all (fun q => chkL mY mC mL mT lw_tbl nM 112 q.1 q.2) = true := by decide +kernel
end
section
/-! the checks of part 09 hold of the program -/
theorem k113 : p113.all (fun q => chkL mY mC mL mT lw_tbl nM 113 q.1 q.2) = true := by decide +kernel
theorem k114 : p114.all (fun q => chkL mY mC mL mT lw_tbl nM 114 q.1 q.2) = true := by decide +kernel
theorem k115 : p115.all (fun q => chkL mY mC mL mT lw_tbl nM 115 q.1 q.2) = true := by decide +kernel
theorem k116 : p116.all (fun q => chkL mY mC mL mT lw_tbl nM 116 q.1 q.2) = true := by decide +kernel
theorem k117 : p117.all (fun q => chkL mY mC mL mT lw_tbl nM 117 q.1 q.2) = true := by decide +kernel
theorem k118 : p118.all (fun q => chkL mY mC mL mT lw_tbl nM 118 q.1 q.2) = true := by decide +kernel
theorem k119 : p119.all (fun q => chkL mY mC mL mT lw_tbl nM 119 q.1 q.2) = true := by decide +kernel
theorem k120 : p120.all (fun q => chkL mY mC mL mT lw_tbl nM 120 q.1 q.2) = true := by decide +kernel
theorem k121 : p121.all (fun q => chkL mY mC mL mT lw_tbl nM 121 q.1 q.2) = true := by decide +kernel
theorem k122 : p122.all (fun q => chkL mY mC mL mT lw_tbl nM 122 q.1 q.2) = true := by decide +kernel
theorem k123 : p123.all (fun q => chkL mY mC mL mT lw_tbl nM 123 q.1 q.2) = true := by decide +kernel
theorem k124 : p124.all (fun q => chkL mY mC mL mT lw_tbl nM 124 q.1 q.2) = true := by decide +kernel
theorem k125 : p125.all (fun q => chkL mY mC mL mT lw_tbl nM 125 q.1 q.2) = true := by decide +kernel
theorem k126 : p126.all (fun q => chkL mY mC mL mT lw_tbl nM 126 q.1 q.2) = true := by decide +kernel
theorem k127 : p127.all (fun q => chkL mY mC mL mT lw_tbl nM 127 q.1 q.2) = true := by decide +kernel
theorem k128 : p128.all (fun q => chkL mY mC mL mT lw_tbl nM 128 q.1 q.2) = true := by decide +kernel
theorem k129 : p129.all (fun q => chkL mY mC mL mT lw_tbl nM 129 q.1 q.2) = true := by decide +kernel
theorem k130 : p130.all (fun q => chkL mY mC mL mT lw_tbl nM 130 q.1 q.2) = true := by decide +kernel
theorem k131 : p131.all (fun q => chkL mY mC mL mT lw_tbl nM 131 q.1 q.2) = true := by decide +kernel
theorem k132 : p132.all (fun q => chkL mY mC mL mT lw_tbl nM 132 q.1 q.2) = true := by decide +kernel
theorem k133 : p133.all (fun q => chkL mY mC mL mT lw_tbl nM 133 q.1 q.2) = true := by decide +kernel
theorem k134 : p134.all (fun q => chkL mY mC mL mT lw_tbl nM 134 q.1 q.2) = true := by decide +kernel
theorem k135 : p135.all (fun q => chkL mY mC mL mT lw_tbl nM 135 q.1 q.2) = true := by decide +kernel
theorem k136 : p136.all (fun q => chkL mY mC mL mT lw_tbl nM 136 q.1 q.2) = true := by decide +kernel
theorem k137 : p137.all (fun q => chkL mY mC mL mT lw_tbl nM 137 q.1 q.2) = true := by decide +kernel
theorem k138 : p138.all (fun q => chkL mY mC mL mT lw_tbl nM 138 q.1 q.2) = true := by decide +kernel
theorem k139 : p139.all (fun q => chkL mY mC mL mT lw_tbl nM 139 q.1 q.2) = true := by decide +kernel
theorem k140 : p140.all (fun q => chkL mY mC mL mT lw_tbl nM 140 q.1 q.2) = true := by decide +kernel
theorem k141 : p141.all (fun q => chkL mY mC mL mT lw_tbl nM 141 q.1 q.2) = true := by decide +kernel
theorem k142 : p142.all (fun q => chkL mY mC mL mT lw_tbl nM 142 q.1 q.2) = true := by decide +kernel
theorem k143 : p143.all (fun q => chkL mY mC mL mT lw_tbl nM 143 q.1 q.2) = true := by decide +kernel
theorem k144 : p144.all (fun q => chkL mY mC mL mT lw_tbl nM 144 q.1 q.2) = true := by decide +kernel
theorem k145 : p145.all (fun q => chkL mY mC mL mT lw_tbl nM 145 q.1 q.2) = true := by decide +kernel
theorem k146 : p146.all (fun q => chkL mY mC mL mT lw_tbl nM 146 q.1 q.2) = true := by decide +kernel
theorem k147 : p147.all (fun q => chkL mY mC mL mT lw_tbl nM 147 q.1 q.2) = true := by decide +kernel
theorem k148 : p148.all (fun q => chkL mY mC mL mT lw_tbl nM 148 q.1 q.2) = true := by decide +kernel
theorem k149 : p149.all (fun q => chkL mY mC mL mT lw_tbl nM 149 q.1 q.2) = true := by decide +kernel
theorem k150 : p150.all (fun q => chkL mY mC mL mT lw_tbl nM 150 q.1 q.2) = true := by decide +kernel
theorem k151 : p151.all (fun q => chkL mY mC mL mT lw_tbl nM 151 q.1 q.2) = true := by decide +kernel
theorem k152 : p152.all (fun q => chkL mY mC mL mT lw_tbl nM 152 q.1 q.2) = true := by decide +kernel
theorem k153 : p153.all (fun q => chkL mY mC mL mT lw_tbl nM 153 q.1 q.2) = true := by decide +kernel
theorem k154 : p154.all (fun q => chkL mY mC mL mT lw_tbl nM 154 q.1 q.2) = true := by decide +kernel
theorem k155 : p155.all (fun q => chkL mY mC mL mT lw_tbl nM 155 q.1 q.2) = true := by decide +kernel
theorem k156 : p156.all (fun q => chkL mY mC mL mT lw_tbl nM 156 q.1 q.2) = true := by decide +kernel
theorem k157 : p157.all (fun q => chkL mY mC mL mT lw_tbl nM 157 q.1 q.2) = true := by decide +kernel
theorem k158 : p158.all (fun q => chkL mY mC mL mT lw_tbl nM 158 q.1 q.2) = true := by decide +kernel
theorem k159 : p159.all (fun q => chkL mY mC mL mT lw_tbl nM 159 q.1 q.2) = true := by decide +kernel
theorem k160 : p160.all (fun q => chkL mY mC mL mT lw_tbl nM 160 q.1 q.2) = true := by decide +kernel
end
section
/-! the checks of part 09 hold of the program -/
theorem k161 : p161.all (fun q => chkL mY mC mL mT lw_tbl nM 161 q.1 q.2) = true := by decide +kernel
theorem k162 : p162.all (fun q => chkL mY mC mL mT lw_tbl nM 162 q.1 q.2) = true := by decide +kernel
theorem k163 : p163.all (fun q => chkL mY mC mL mT lw_tbl nM 163 q.1 q.2) = true := by decide +kernel
theorem k164 : p164.all (fun q => chkL mY mC mL mT lw_tbl nM 164 q.1 q.2) = true := by decide +kernel
theorem k165 : p165.all (fun q => chkL mY mC mL mT lw_tbl nM 165 q.1 q.2) = true := by decide +kernel
theorem k166 : p166.all (fun q => chkL mY mC mL mT lw_tbl nM 166 q.1 q.2) = true := by decide +kernel
theorem k167 : p167.all (fun q => chkL mY mC mL mT lw_tbl nM 167 q.1 q.2) = true := by decide +kernel
theorem k168 : p168.all (fun q => chkL mY mC mL mT lw_tbl nM 168 q.1 q.2) = true := by decide +kernel
theorem k169 : p169.all (fun q => chkL mY mC mL mT lw_tbl nM 169 q.1 q.2) = true := by decide +kernel
theorem k170 : p170.all (fun q => chkL mY mC mL mT lw_tbl nM 170 q.1 q.2) = true := by decide +kernel
theorem k171 : p171.all (fun q => chkL mY mC mL mT lw_tbl nM 171 q.1 q.2) = true := by decide +kernel
theorem k172 : p172.all (fun q => chkL mY mC mL mT lw_tbl nM 172 q.1 q.2) = true := by decide +kernel
theorem k173 : p173.all (fun q => chkL mY mC mL mT lw_tbl nM 173 q.1 q.2) = true := by decide +kernel
theorem k174 : p174.all (fun q => chkL mY mC mL mT lw_tbl nM 174 q.1 q.2) = true := by decide +kernel
theorem k175 : p175.all (fun q => chkL mY mC mL mT lw_tbl nM 175 q.1 q.2) = true := by decide +kernel
theorem k176 : p176.all (fun q => chkL mY mC mL mT lw_tbl nM 176 q.1 q.2) = true := by decide +kernel
theorem k177 : p177.all (fun q => chkL mY mC mL mT lw_tbl nM 177 q.1 q.2) = true := by decide +kernel
theorem k178 : p178.all (fun q => chkL mY mC mL mT lw_tbl nM 178 q.1 q.2) = true := by decide +kernel
theorem k179 : p179.all (fun q => chkL mY mC mL mT lw_tbl nM 179 q.1 q.2) = true := by decide +kernel
theorem k180 : p180.all (fun q => chkL mY mC mL mT lw_tbl nM 180 q.1 q.2) = true := by decide +kernel
theorem k181 : p181.all (fun q => chkL mY mC mL mT lw_tbl nM 181 q.1 q.2) = true := by decide +kernel
theorem k182 : p182.all (fun q => chkL mY mC mL mT lw_tbl nM 182 q.1 q.2) = true := by decide +kernel
theorem k183 : p183.all (fun q => chkL mY mC mL mT lw_tbl nM 183 q.1 q.2) = true := by decide +kernel
theorem k184 : p184.all (fun q => chkL mY mC mL mT lw_tbl nM 184 q.1 q.2) = true := by decide +kernel
theorem k185 : p185.all (fun q => chkL mY mC mL mT lw_tbl nM 185 q.1 q.2) = true := by decide +kernel
end
section
/-! the checks of part 09 hold of the program -/
theorem k186 : p186.all (fun q => chkL mY mC mL mT lw_tbl nM 186 q.1 q.2) = true := by decide +kernel
theorem k187 : p187.all (fun q => chkL mY mC mL mT lw_tbl nM 187 q.1 q.2) = true := by decide +kernel
theorem k188 : p188.all (fun q => chkL mY mC mL mT lw_tbl nM 188 q.1 q.2) = true := by decide +kernel
theorem k189 : p189.all (fun q => chkL mY mC mL mT lw_tbl nM 189 q.1 q.2) = true := by decide +kernel
theorem k190 : p190.all (fun q => chkL mY mC mL mT lw_tbl nM 190 q.1 q.2) = true := by decide +kernel
theorem k191 : p191.all (fun q => chkL mY mC mL mT lw_tbl nM 191 q.1 q.2) = true := by decide +kernel
theorem k192 : p192.all (fun q => chkL mY mC mL mT lw_tbl nM 192 q.1 q.2) = true := by decide +kernel
theorem k193 : p193.all (fun q => chkL mY mC mL mT lw_tbl nM 193 q.1 q.2) = true := by decide +kernel
theorem k194 : p194.all (fun q => chkL mY mC mL mT lw_tbl nM 194 q.1 q.2) = true := by decide +kernel
theorem k195 : p195.all (fun q => chkL mY mC mL mT lw_tbl nM 195 q.1 q.2) = true := by decide +kernel
theorem k196 : p196.all (fun q => chkL mY mC mL mT lw_tbl nM 196 q.1 q.2) = true := by decide +kernel
theorem k197 : p197.all (fun q => chkL mY mC mL mT lw_tbl nM 197 q.1 q.2) = true := by decide +kernel
theorem k198 : p198.all (fun q => chkL mY mC mL mT lw_tbl nM 198 q.1 q.2) = true := by decide +kernel
theorem k199 : p199.all (fun q => chkL mY mC mL mT lw_tbl nM 199 q.1 q.2) = true := by decide +kernel
theorem k200 : p200.all (fun q => chkL mY mC mL mT lw_tbl nM 200 q.1 q.2) = true := by decide +kernel
theorem k201 : p201.all (fun q => chkL mY mC mL mT lw_tbl nM 201 q.1 q.2) = true := by decide +kernel
theorem k202 : p202.all (fun q => chkL mY mC mL mT lw_tbl nM 202 q.1 q.2) = true := by decide +kernel
theorem k203 : p203.all (fun q => chkL mY mC mL mT lw_tbl nM 203 q.1 q.2) = true := by decide +kernel
theorem k204 : p204.all (fun q => chkL mY mC mL mT lw_tbl nM 204 q.1 q.2) = true := by decide +kernel
theorem k205 : p205.all (fun q => chkL mY mC mL mT lw_tbl nM 205 q.1 q.2) = true := by decide +kernel
theorem k206 : p206.all (fun q => chkL mY mC mL mT lw_tbl nM 206 q.1 q.2) = true := by decide +kernel
theorem k207 : p207.all (fun q => chkL mY mC mL mT lw_tbl nM 207 q.1 q.2) = true := by decide +kernel
theorem k208 : p208.all (fun q => chkL mY mC mL mT lw_tbl nM 208 q.1 q.2) = true := by decide +kernel
theorem k209 : p209.all (fun q => chkL mY mC mL mT lw_tbl nM 209 q.1 q.2) = true := by decide +kernel
theorem k210 : p210.all (fun q => chkL mY mC mL mT lw_tbl nM 210 q.1 q.2) = true := by decide +kernel
theorem k211 : p211.all (fun q => chkL mY mC mL mT lw_tbl nM 211 q.1 q.2) = true := by decide +kernel
theorem k212 : p212.all (fun q => chkL mY mC mL mT lw_tbl nM 212 q.1 q.2) = true := by decide +kernel
theorem k213 : p213.all (fun q => chkL mY mC mL mT lw_tbl nM 213 q.1 q.2) = true := by decide +kernel
theorem k214 : p214.all (fun q => chkL mY mC mL mT lw_tbl nM 214 q.1 q.2) = true := by decide +kernel
theorem k215 : p215.all (fun q => chkL mY mC mL mT lw_tbl nM 215 q.1 q.2) = true := by decide +kernel
theorem k216 : p216.all (fun q => chkL mY mC mL mT lw_tbl nM 216 q.1 q.2) = true := by decide +kernel
theorem k217 : p217.all (fun q => chkL mY mC mL mT lw_tbl nM 217 q.1 q.2) = true := by decide +kernel
theorem k218 : p218.all (fun q => chkL mY mC mL mT lw_tbl nM 218 q.1 q.2) = true := by decide +kernel
theorem k219 : p219.all (fun q => chkL mY mC mL mT lw_tbl nM 219 q.1 q.2) = true := by decide +kernel
theorem k220 : p220.all (fun q => chkL mY mC mL mT lw_tbl nM 220 q.1 q.2) = true := by decide +kernel
theorem k221 : p221.all (fun q => chkL mY mC mL mT lw_tbl nM 221 q.1 q.2) = true := by decide +kernel
theorem k222 : p222.all (fun q => chkL mY mC mL mT lw_tbl nM 222 q.1 q.2) = true := by decide +kernel
theorem k223 : p223.all (fun q => chkL mY mC mL mT lw_tbl nM 223 q.1 q.2) = true := by decide +kernel
end
section
/-! the checks of part 09 hold of the program -/
theorem kL_0 : chkL mY mC mL mT lw_tbl nM 224 0 p224_0 = true := by decide +kernel
theorem kL_18 : chkL mY mC mL mT lw_tbl nM 224 18 p224_18 = true := by decide +kernel
theorem kL_220 : chkL mY mC mL mT lw_tbl nM 224 220 p224_220 = true := by decide +kernel
theorem kL_243 : chkL mY mC mL mT lw_tbl nM 224 243 p224_243 = true := by decide +kernel
theorem kL_286 : chkL mY mC mL mT lw_tbl nM 224 286 p224_286 = true := by decide +kernel
theorem kL_329 : chkL mY mC mL mT lw_tbl nM 224 329 p224_329 = true := by decide +kernel
theorem kL_362 : chkL mY mC mL mT lw_tbl nM 224 362 p224_362 = true := by decide +kernel
theorem kL_395 : chkL mY mC mL mT lw_tbl nM 224 395 p224_395 = true := by decide +kernel
theorem kL_448 : chkL mY mC mL mT lw_tbl nM 224 448 p224_448 = true := by decide +kernel
theorem kL_491 : chkL mY mC mL mT lw_tbl nM 224 491 p224_491 = true := by decide +kernel
theorem kL_544 : chkL mY mC mL mT lw_tbl nM 224 544 p224_544 = true := by decide +kernel
theorem kL_607 : chkL mY mC mL mT lw_tbl nM 224 607 p224_607 = true := by decide +kernel
theorem kL_640 : chkL mY mC mL mT lw_tbl nM 224 640 p224_640 = true := by decide +kernel
theorem kL_641 : chkL mY mC mL mT lw_tbl nM 224 641 p224_641 = true := by decide +kernel
theorem kL_677 : chkL mY mC mL mT lw_tbl nM 224 677 p224_677 = true := by decide +kernel
theorem kL_678 : chkL mY mC mL mT lw_tbl nM 224 678 p224_678 = true := by decide +kernel
theorem kL_686 : chkL mY mC mL mT lw_tbl nM 224 686 p224_686 = true := by decide +kernel
end
section
/-! the checks of part 09 hold of the program -/
theorem kL_729 : chkL mY mC mL mT lw_tbl nM 224 729 p224_729 = true := by decide +kernel
theorem kL_792 : chkL mY mC mL mT lw_tbl nM 224 792 p224_792 = true := by decide +kernel
theorem kL_867 : chkL mY mC mL mT lw_tbl nM 224 867 p224_867 = true := by decide +kernel
theorem kL_942 : chkL mY mC mL mT lw_tbl nM 224 942 p224_942 = true := by decide +kernel
theorem kL_975 : chkL mY mC mL mT lw_tbl nM 224 975 p224_975 = true := by decide +kernel
theorem kL_1018 : chkL mY mC mL mT lw_tbl nM 224 1018 p224_1018 = true := by decide +kernel
theorem kL_1061 : chkL mY mC mL mT lw_tbl nM 224 1061 p224_1061 = true := by decide +kernel
theorem kL_1094 : chkL mY mC mL mT lw_tbl nM 224 1094 p224_1094 = true := by decide +kernel
theorem kL_1127 : chkL mY mC mL mT lw_tbl nM 224 1127 p224_1127 = true := by decide +kernel
theorem kL_1160 : chkL mY mC mL mT lw_tbl nM 224 1160 p224_1160 = true := by decide +kernel
theorem kL_1183 : chkL mY mC mL mT lw_tbl nM 224 1183 p224_1183 = true := by decide +kernel
theorem kL_1206 : chkL mY mC mL mT lw_tbl nM 224 1206 p224_1206 = true := by decide +kernel
theorem kL_1239 : chkL mY mC mL mT lw_tbl nM 224 1239 p224_1239 = true := by decide +kernel
theorem kL_1282 : chkL mY mC mL mT lw_tbl nM 224 1282 p224_1282 = true := by decide +kernel
theorem kL_1335 : chkL mY mC mL mT lw_tbl nM 224 1335 p224_1335 = true := by decide +kernel
theorem kL_1378 : chkL mY mC mL mT lw_tbl nM 224 1378 p224_1378 = true := by decide +kernel
theorem kL_1411 : chkL mY mC mL mT lw_tbl nM 224 1411 p224_1411 = true := by decide +kernel
end
section
/-! the checks of part 09 hold of the program -/
theorem kL_1444 : chkL mY mC mL mT lw_tbl nM 224 1444 p224_1444 = true := by decide +kernel
theorem kL_1477 : chkL mY mC mL mT lw_tbl nM 224 1477 p224_1477 = true := by decide +kernel
theorem kL_1510 : chkL mY mC mL mT lw_tbl nM 224 1510 p224_1510 = true := by decide +kernel
theorem kL_1553 : chkL mY mC mL mT lw_tbl nM 224 1553 p224_1553 = true := by decide +kernel
theorem kL_1576 : chkL mY mC mL mT lw_tbl nM 224 1576 p224_1576 = true := by decide +kernel
theorem kL_1609 : chkL mY mC mL mT lw_tbl nM 224 1609 p224_1609 = true := by decide +kernel
theorem kL_1632 : chkL mY mC mL mT lw_tbl nM 224 1632 p224_1632 = true := by decide +kernel
theorem kL_1665 : chkL mY mC mL mT lw_tbl nM 224 1665 p224_1665 = true := by decide +kernel
theorem kL_1708 : chkL mY mC mL mT lw_tbl nM 224 1708 p224_1708 = true := by decide +kernel
theorem kL_1731 : chkL mY mC mL mT lw_tbl nM 224 1731 p224_1731 = true := by decide +kernel
theorem kL_1764 : chkL mY mC mL mT lw_tbl nM 224 1764 p224_1764 = true := by decide +kernel
theorem kL_1787 : chkL mY mC mL mT lw_tbl nM 224 1787 p224_1787 = true := by decide +kernel
theorem kL_1830 : chkL mY mC mL mT lw_tbl nM 224 1830 p224_1830 = true := by decide +kernel
theorem kL_1873 : chkL mY mC mL mT lw_tbl nM 224 1873 p224_1873 = true := by decide +kernel
theorem kL_1906 : chkL mY mC mL mT lw_tbl nM 224 1906 p224_1906 = true := by decide +kernel
theorem kL_1969 : chkL mY mC mL mT lw_tbl nM 224 1969 p224_1969 = true := by decide +kernel
theorem kL_1975 : chkL mY mC mL mT lw_tbl nM 224 1975 p224_1975 = true := by decide +kernel
theorem kLaw : p224.all (fun q => chkL mY mC mL mT lw_tbl nM 224 q.1 q.2) = true := by
  simp only [p224, List.all_cons, List.all_nil, Bool.and_true, kL_0, kL_18, kL_220, kL_243, kL_286, kL_329, kL_362, kL_395, kL_448, kL_491, kL_544, kL_607, kL_640, kL_641, kL_677, kL_678, kL_686, kL_729, kL_792, kL_867, kL_942, kL_975, kL_1018, kL_1061, kL_1094, kL_1127, kL_1160, kL_1183, kL_1206, kL_1239, kL_1282, kL_1335, kL_1378, kL_1411, kL_1444, kL_1477, kL_1510, kL_1553, kL_1576, kL_1609, kL_1632, kL_1665, kL_1708, kL_1731, kL_1764, kL_1787, kL_1830, kL_1873, kL_1906, kL_1969, kL_1975]
end
