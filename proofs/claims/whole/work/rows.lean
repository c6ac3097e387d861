section
-- ===== PART A: goes FIRST, ahead of the names: the tables' words, and 'selects' of the private methods out of them =====
/-- a private method of a class that the tables say can be made, by its rows of tables_1 -/
def lw_okq (q : MethodName × Nat) : Prop := (q.1.cls ≠ "java/lang/invoke/MethodHandle" ∧ q.1.cls ≠ "java/lang/invoke/VarHandle") ∧ Cond.instantiable q.1.cls q.2 ∈ tables_1 ∧ Cond.privateMethod q.1 ∈ tables_1 ∧ Cond.instanceMethod q.1 ∈ tables_1
theorem lw_p0 : lw_okq (⟨"PoleLogs", "sumOf", "([II)I"⟩, 18) := ⟨⟨by decide +kernel, by decide +kernel⟩, List.mem_of_getElem? (i := 18) (by decide +kernel), List.mem_of_getElem? (i := 321) (by decide +kernel), List.mem_of_getElem? (i := 322) (by decide +kernel)⟩
theorem lw_p1 : lw_okq (⟨"PoleLogs", "addRow", "(III)LPoleLogs$Row;"⟩, 18) := ⟨⟨by decide +kernel, by decide +kernel⟩, List.mem_of_getElem? (i := 18) (by decide +kernel), List.mem_of_getElem? (i := 340) (by decide +kernel), List.mem_of_getElem? (i := 341) (by decide +kernel)⟩
theorem lw_p2 : lw_okq (⟨"PoleLogs", "addHeight", "(IIIII)I"⟩, 18) := ⟨⟨by decide +kernel, by decide +kernel⟩, List.mem_of_getElem? (i := 18) (by decide +kernel), List.mem_of_getElem? (i := 402) (by decide +kernel), List.mem_of_getElem? (i := 403) (by decide +kernel)⟩
theorem lw_p3 : lw_okq (⟨"PoleLogs", "isRow", "(I)Z"⟩, 18) := ⟨⟨by decide +kernel, by decide +kernel⟩, List.mem_of_getElem? (i := 18) (by decide +kernel), List.mem_of_getElem? (i := 433) (by decide +kernel), List.mem_of_getElem? (i := 434) (by decide +kernel)⟩
theorem lw_p4 : lw_okq (⟨"PoleLogs$Way", "marchOf", "(I)LPoleLogs$Row;"⟩, 5) := ⟨⟨by decide +kernel, by decide +kernel⟩, List.mem_of_getElem? (i := 123) (by decide +kernel), List.mem_of_getElem? (i := 446) (by decide +kernel), List.mem_of_getElem? (i := 447) (by decide +kernel)⟩
theorem lw_p5 : lw_okq (⟨"PoleLogs", "agrees", "(LPoleLogs$Row;II)Z"⟩, 18) := ⟨⟨by decide +kernel, by decide +kernel⟩, List.mem_of_getElem? (i := 18) (by decide +kernel), List.mem_of_getElem? (i := 468) (by decide +kernel), List.mem_of_getElem? (i := 469) (by decide +kernel)⟩
theorem lw_p6 : lw_okq (⟨"PoleLogs", "pictureAgrees", "(LPoleLogs$Row;I)Z"⟩, 18) := ⟨⟨by decide +kernel, by decide +kernel⟩, List.mem_of_getElem? (i := 18) (by decide +kernel), List.mem_of_getElem? (i := 500) (by decide +kernel), List.mem_of_getElem? (i := 501) (by decide +kernel)⟩
theorem lw_p7 : lw_okq (⟨"PoleLogs", "heightAgrees", "(LPoleLogs$Row;I)Z"⟩, 18) := ⟨⟨by decide +kernel, by decide +kernel⟩, List.mem_of_getElem? (i := 18) (by decide +kernel), List.mem_of_getElem? (i := 504) (by decide +kernel), List.mem_of_getElem? (i := 505) (by decide +kernel)⟩
theorem lw_p8 : lw_okq (⟨"PoleLogs", "quarrelBy", "(II)I"⟩, 18) := ⟨⟨by decide +kernel, by decide +kernel⟩, List.mem_of_getElem? (i := 18) (by decide +kernel), List.mem_of_getElem? (i := 540) (by decide +kernel), List.mem_of_getElem? (i := 541) (by decide +kernel)⟩
theorem lw_p9 : lw_okq (⟨"PoleLogs", "driftNeededX", "(LPoleLogs$Log;)I"⟩, 18) := ⟨⟨by decide +kernel, by decide +kernel⟩, List.mem_of_getElem? (i := 18) (by decide +kernel), List.mem_of_getElem? (i := 570) (by decide +kernel), List.mem_of_getElem? (i := 571) (by decide +kernel)⟩
theorem lw_p10 : lw_okq (⟨"PoleLogs", "driftNeededY", "(LPoleLogs$Log;)I"⟩, 18) := ⟨⟨by decide +kernel, by decide +kernel⟩, List.mem_of_getElem? (i := 18) (by decide +kernel), List.mem_of_getElem? (i := 577) (by decide +kernel), List.mem_of_getElem? (i := 578) (by decide +kernel)⟩
theorem lw_p11 : lw_okq (⟨"PoleLogs", "falseRows", "(III)I"⟩, 18) := ⟨⟨by decide +kernel, by decide +kernel⟩, List.mem_of_getElem? (i := 18) (by decide +kernel), List.mem_of_getElem? (i := 592) (by decide +kernel), List.mem_of_getElem? (i := 593) (by decide +kernel)⟩
theorem lw_p12 : lw_okq (⟨"PoleLogs", "agreesInStory", "(LPoleLogs$Row;II)Z"⟩, 18) := ⟨⟨by decide +kernel, by decide +kernel⟩, List.mem_of_getElem? (i := 18) (by decide +kernel), List.mem_of_getElem? (i := 597) (by decide +kernel), List.mem_of_getElem? (i := 598) (by decide +kernel)⟩
theorem lw_p13 : lw_okq (⟨"PoleLogs", "storyX", "(ILPoleLogs$Log;I)I"⟩, 18) := ⟨⟨by decide +kernel, by decide +kernel⟩, List.mem_of_getElem? (i := 18) (by decide +kernel), List.mem_of_getElem? (i := 601) (by decide +kernel), List.mem_of_getElem? (i := 602) (by decide +kernel)⟩
theorem lw_p14 : lw_okq (⟨"PoleLogs", "storyY", "(ILPoleLogs$Log;II)I"⟩, 18) := ⟨⟨by decide +kernel, by decide +kernel⟩, List.mem_of_getElem? (i := 18) (by decide +kernel), List.mem_of_getElem? (i := 605) (by decide +kernel), List.mem_of_getElem? (i := 606) (by decide +kernel)⟩
theorem lw_p15 : lw_okq (⟨"PoleLogs", "showingMisprint", "(I)I"⟩, 18) := ⟨⟨by decide +kernel, by decide +kernel⟩, List.mem_of_getElem? (i := 18) (by decide +kernel), List.mem_of_getElem? (i := 622) (by decide +kernel), List.mem_of_getElem? (i := 623) (by decide +kernel)⟩
def lw_privs_1 : List (MethodName × Nat) := [(⟨"PoleLogs", "sumOf", "([II)I"⟩, 18), (⟨"PoleLogs", "addRow", "(III)LPoleLogs$Row;"⟩, 18), (⟨"PoleLogs", "addHeight", "(IIIII)I"⟩, 18), (⟨"PoleLogs", "isRow", "(I)Z"⟩, 18), (⟨"PoleLogs$Way", "marchOf", "(I)LPoleLogs$Row;"⟩, 5), (⟨"PoleLogs", "agrees", "(LPoleLogs$Row;II)Z"⟩, 18), (⟨"PoleLogs", "pictureAgrees", "(LPoleLogs$Row;I)Z"⟩, 18), (⟨"PoleLogs", "heightAgrees", "(LPoleLogs$Row;I)Z"⟩, 18), (⟨"PoleLogs", "quarrelBy", "(II)I"⟩, 18), (⟨"PoleLogs", "driftNeededX", "(LPoleLogs$Log;)I"⟩, 18), (⟨"PoleLogs", "driftNeededY", "(LPoleLogs$Log;)I"⟩, 18), (⟨"PoleLogs", "falseRows", "(III)I"⟩, 18), (⟨"PoleLogs", "agreesInStory", "(LPoleLogs$Row;II)Z"⟩, 18), (⟨"PoleLogs", "storyX", "(ILPoleLogs$Log;I)I"⟩, 18), (⟨"PoleLogs", "storyY", "(ILPoleLogs$Log;II)I"⟩, 18), (⟨"PoleLogs", "showingMisprint", "(I)I"⟩, 18)]
theorem lw_r1 : ∀ q ∈ lw_privs_1, lw_okq q := List.forall_mem_cons.mpr ⟨lw_p0, List.forall_mem_cons.mpr ⟨lw_p1, List.forall_mem_cons.mpr ⟨lw_p2, List.forall_mem_cons.mpr ⟨lw_p3, List.forall_mem_cons.mpr ⟨lw_p4, List.forall_mem_cons.mpr ⟨lw_p5, List.forall_mem_cons.mpr ⟨lw_p6, List.forall_mem_cons.mpr ⟨lw_p7, List.forall_mem_cons.mpr ⟨lw_p8, List.forall_mem_cons.mpr ⟨lw_p9, List.forall_mem_cons.mpr ⟨lw_p10, List.forall_mem_cons.mpr ⟨lw_p11, List.forall_mem_cons.mpr ⟨lw_p12, List.forall_mem_cons.mpr ⟨lw_p13, List.forall_mem_cons.mpr ⟨lw_p14, List.forall_mem_cons.mpr ⟨lw_p15, fun _ h => absurd h List.not_mem_nil⟩⟩⟩⟩⟩⟩⟩⟩⟩⟩⟩⟩⟩⟩⟩⟩
theorem lw_p16 : lw_okq (⟨"PoleLogs", "madeAtHome", "(II)I"⟩, 18) := ⟨⟨by decide +kernel, by decide +kernel⟩, List.mem_of_getElem? (i := 18) (by decide +kernel), List.mem_of_getElem? (i := 635) (by decide +kernel), List.mem_of_getElem? (i := 636) (by decide +kernel)⟩
theorem lw_p17 : lw_okq (⟨"PoleLogs$Reader", "readAll", "([II)Z"⟩, 5) := ⟨⟨by decide +kernel, by decide +kernel⟩, List.mem_of_getElem? (i := 149) (by decide +kernel), List.mem_of_getElem? (i := 655) (by decide +kernel), List.mem_of_getElem? (i := 656) (by decide +kernel)⟩
theorem lw_p18 : lw_okq (⟨"PoleLogs$Reader", "either", "(I)Z"⟩, 5) := ⟨⟨by decide +kernel, by decide +kernel⟩, List.mem_of_getElem? (i := 149) (by decide +kernel), List.mem_of_getElem? (i := 660) (by decide +kernel), List.mem_of_getElem? (i := 661) (by decide +kernel)⟩
theorem lw_p19 : lw_okq (⟨"PoleLogs$Reader", "both", "(I)Z"⟩, 5) := ⟨⟨by decide +kernel, by decide +kernel⟩, List.mem_of_getElem? (i := 149) (by decide +kernel), List.mem_of_getElem? (i := 664) (by decide +kernel), List.mem_of_getElem? (i := 665) (by decide +kernel)⟩
theorem lw_p20 : lw_okq (⟨"PoleLogs$Reader", "one", "(I)Z"⟩, 5) := ⟨⟨by decide +kernel, by decide +kernel⟩, List.mem_of_getElem? (i := 149) (by decide +kernel), List.mem_of_getElem? (i := 668) (by decide +kernel), List.mem_of_getElem? (i := 669) (by decide +kernel)⟩
theorem lw_p21 : lw_okq (⟨"PoleLogs$Reader", "coming", "()I"⟩, 5) := ⟨⟨by decide +kernel, by decide +kernel⟩, List.mem_of_getElem? (i := 149) (by decide +kernel), List.mem_of_getElem? (i := 672) (by decide +kernel), List.mem_of_getElem? (i := 673) (by decide +kernel)⟩
theorem lw_p22 : lw_okq (⟨"PoleLogs$Reader", "test", "()Z"⟩, 5) := ⟨⟨by decide +kernel, by decide +kernel⟩, List.mem_of_getElem? (i := 149) (by decide +kernel), List.mem_of_getElem? (i := 676) (by decide +kernel), List.mem_of_getElem? (i := 677) (by decide +kernel)⟩
theorem lw_p23 : lw_okq (⟨"PoleLogs$Reader", "number", "()I"⟩, 5) := ⟨⟨by decide +kernel, by decide +kernel⟩, List.mem_of_getElem? (i := 149) (by decide +kernel), List.mem_of_getElem? (i := 683) (by decide +kernel), List.mem_of_getElem? (i := 684) (by decide +kernel)⟩
theorem lw_p24 : lw_okq (⟨"PoleLogs", "lawIn", "(II)LPoleLogs$Law;"⟩, 18) := ⟨⟨by decide +kernel, by decide +kernel⟩, List.mem_of_getElem? (i := 18) (by decide +kernel), List.mem_of_getElem? (i := 726) (by decide +kernel), List.mem_of_getElem? (i := 727) (by decide +kernel)⟩
theorem lw_p25 : lw_okq (⟨"PoleLogs", "tally", "(II[I)V"⟩, 18) := ⟨⟨by decide +kernel, by decide +kernel⟩, List.mem_of_getElem? (i := 18) (by decide +kernel), List.mem_of_getElem? (i := 730) (by decide +kernel), List.mem_of_getElem? (i := 731) (by decide +kernel)⟩
theorem lw_p26 : lw_okq (⟨"PoleLogs$Looks", "leftBehind", "(II)I"⟩, 3) := ⟨⟨by decide +kernel, by decide +kernel⟩, List.mem_of_getElem? (i := 174) (by decide +kernel), List.mem_of_getElem? (i := 750) (by decide +kernel), List.mem_of_getElem? (i := 751) (by decide +kernel)⟩
theorem lw_p27 : lw_okq (⟨"PoleLogs$Acts", "from", "(IILPoleLogs$Row;II)I"⟩, 2) := ⟨⟨by decide +kernel, by decide +kernel⟩, List.mem_of_getElem? (i := 198) (by decide +kernel), List.mem_of_getElem? (i := 788) (by decide +kernel), List.mem_of_getElem? (i := 789) (by decide +kernel)⟩
theorem lw_p28 : lw_okq (⟨"PoleLogs$Acts", "run", "(IILPoleLogs$Row;II)I"⟩, 2) := ⟨⟨by decide +kernel, by decide +kernel⟩, List.mem_of_getElem? (i := 198) (by decide +kernel), List.mem_of_getElem? (i := 796) (by decide +kernel), List.mem_of_getElem? (i := 797) (by decide +kernel)⟩
theorem lw_p29 : lw_okq (⟨"PoleLogsModel", "in", "(III)Z"⟩, 59) := ⟨⟨by decide +kernel, by decide +kernel⟩, List.mem_of_getElem? (i := 858) (by decide +kernel), List.mem_of_getElem? (i := 856) (by decide +kernel), List.mem_of_getElem? (i := 857) (by decide +kernel)⟩
theorem lw_p30 : lw_okq (⟨"PoleLogsModel", "isDay", "(I)Z"⟩, 59) := ⟨⟨by decide +kernel, by decide +kernel⟩, List.mem_of_getElem? (i := 858) (by decide +kernel), List.mem_of_getElem? (i := 873) (by decide +kernel), List.mem_of_getElem? (i := 874) (by decide +kernel)⟩
theorem lw_p31 : lw_okq (⟨"PoleLogsModel", "isLog", "(I)Z"⟩, 59) := ⟨⟨by decide +kernel, by decide +kernel⟩, List.mem_of_getElem? (i := 858) (by decide +kernel), List.mem_of_getElem? (i := 885) (by decide +kernel), List.mem_of_getElem? (i := 886) (by decide +kernel)⟩
def lw_privs_2 : List (MethodName × Nat) := [(⟨"PoleLogs", "madeAtHome", "(II)I"⟩, 18), (⟨"PoleLogs$Reader", "readAll", "([II)Z"⟩, 5), (⟨"PoleLogs$Reader", "either", "(I)Z"⟩, 5), (⟨"PoleLogs$Reader", "both", "(I)Z"⟩, 5), (⟨"PoleLogs$Reader", "one", "(I)Z"⟩, 5), (⟨"PoleLogs$Reader", "coming", "()I"⟩, 5), (⟨"PoleLogs$Reader", "test", "()Z"⟩, 5), (⟨"PoleLogs$Reader", "number", "()I"⟩, 5), (⟨"PoleLogs", "lawIn", "(II)LPoleLogs$Law;"⟩, 18), (⟨"PoleLogs", "tally", "(II[I)V"⟩, 18), (⟨"PoleLogs$Looks", "leftBehind", "(II)I"⟩, 3), (⟨"PoleLogs$Acts", "from", "(IILPoleLogs$Row;II)I"⟩, 2), (⟨"PoleLogs$Acts", "run", "(IILPoleLogs$Row;II)I"⟩, 2), (⟨"PoleLogsModel", "in", "(III)Z"⟩, 59), (⟨"PoleLogsModel", "isDay", "(I)Z"⟩, 59), (⟨"PoleLogsModel", "isLog", "(I)Z"⟩, 59)]
theorem lw_r2 : ∀ q ∈ lw_privs_2, lw_okq q := List.forall_mem_cons.mpr ⟨lw_p16, List.forall_mem_cons.mpr ⟨lw_p17, List.forall_mem_cons.mpr ⟨lw_p18, List.forall_mem_cons.mpr ⟨lw_p19, List.forall_mem_cons.mpr ⟨lw_p20, List.forall_mem_cons.mpr ⟨lw_p21, List.forall_mem_cons.mpr ⟨lw_p22, List.forall_mem_cons.mpr ⟨lw_p23, List.forall_mem_cons.mpr ⟨lw_p24, List.forall_mem_cons.mpr ⟨lw_p25, List.forall_mem_cons.mpr ⟨lw_p26, List.forall_mem_cons.mpr ⟨lw_p27, List.forall_mem_cons.mpr ⟨lw_p28, List.forall_mem_cons.mpr ⟨lw_p29, List.forall_mem_cons.mpr ⟨lw_p30, List.forall_mem_cons.mpr ⟨lw_p31, fun _ h => absurd h List.not_mem_nil⟩⟩⟩⟩⟩⟩⟩⟩⟩⟩⟩⟩⟩⟩⟩⟩
theorem lw_p32 : lw_okq (⟨"PoleLogsModel", "isPlace", "(II)Z"⟩, 59) := ⟨⟨by decide +kernel, by decide +kernel⟩, List.mem_of_getElem? (i := 858) (by decide +kernel), List.mem_of_getElem? (i := 893) (by decide +kernel), List.mem_of_getElem? (i := 894) (by decide +kernel)⟩
theorem lw_p33 : lw_okq (⟨"PoleLogsModel", "marchOf", "(III)I"⟩, 59) := ⟨⟨by decide +kernel, by decide +kernel⟩, List.mem_of_getElem? (i := 858) (by decide +kernel), List.mem_of_getElem? (i := 905) (by decide +kernel), List.mem_of_getElem? (i := 906) (by decide +kernel)⟩
theorem lw_p34 : lw_okq (⟨"PoleLogsModel", "add", "(IIIIIII)I"⟩, 59) := ⟨⟨by decide +kernel, by decide +kernel⟩, List.mem_of_getElem? (i := 858) (by decide +kernel), List.mem_of_getElem? (i := 910) (by decide +kernel), List.mem_of_getElem? (i := 911) (by decide +kernel)⟩
theorem lw_p35 : lw_okq (⟨"PoleLogsModel", "isTape", "(I)Z"⟩, 59) := ⟨⟨by decide +kernel, by decide +kernel⟩, List.mem_of_getElem? (i := 858) (by decide +kernel), List.mem_of_getElem? (i := 934) (by decide +kernel), List.mem_of_getElem? (i := 935) (by decide +kernel)⟩
theorem lw_p36 : lw_okq (⟨"PoleLogsModel", "isRow", "(I)Z"⟩, 59) := ⟨⟨by decide +kernel, by decide +kernel⟩, List.mem_of_getElem? (i := 858) (by decide +kernel), List.mem_of_getElem? (i := 942) (by decide +kernel), List.mem_of_getElem? (i := 943) (by decide +kernel)⟩
theorem lw_p37 : lw_okq (⟨"PoleLogsModel", "isYear", "(I)Z"⟩, 59) := ⟨⟨by decide +kernel, by decide +kernel⟩, List.mem_of_getElem? (i := 858) (by decide +kernel), List.mem_of_getElem? (i := 950) (by decide +kernel), List.mem_of_getElem? (i := 951) (by decide +kernel)⟩
theorem lw_p38 : lw_okq (⟨"PoleLogsModel", "findWay", "(II)V"⟩, 59) := ⟨⟨by decide +kernel, by decide +kernel⟩, List.mem_of_getElem? (i := 858) (by decide +kernel), List.mem_of_getElem? (i := 954) (by decide +kernel), List.mem_of_getElem? (i := 955) (by decide +kernel)⟩
theorem lw_p39 : lw_okq (⟨"PoleLogsModel", "keep", "(I)I"⟩, 59) := ⟨⟨by decide +kernel, by decide +kernel⟩, List.mem_of_getElem? (i := 858) (by decide +kernel), List.mem_of_getElem? (i := 958) (by decide +kernel), List.mem_of_getElem? (i := 959) (by decide +kernel)⟩
theorem lw_p40 : lw_okq (⟨"PoleLogsModel", "cellOf", "(II)I"⟩, 59) := ⟨⟨by decide +kernel, by decide +kernel⟩, List.mem_of_getElem? (i := 858) (by decide +kernel), List.mem_of_getElem? (i := 962) (by decide +kernel), List.mem_of_getElem? (i := 963) (by decide +kernel)⟩
theorem lw_p41 : lw_okq (⟨"PoleLogsModel", "canGo", "(II)I"⟩, 59) := ⟨⟨by decide +kernel, by decide +kernel⟩, List.mem_of_getElem? (i := 858) (by decide +kernel), List.mem_of_getElem? (i := 970) (by decide +kernel), List.mem_of_getElem? (i := 971) (by decide +kernel)⟩
theorem lw_p42 : lw_okq (⟨"PoleLogsModel", "beyondBy", "(I)I"⟩, 59) := ⟨⟨by decide +kernel, by decide +kernel⟩, List.mem_of_getElem? (i := 858) (by decide +kernel), List.mem_of_getElem? (i := 978) (by decide +kernel), List.mem_of_getElem? (i := 979) (by decide +kernel)⟩
theorem lw_p43 : lw_okq (⟨"PoleLogsModel", "latitudeOf", "(II)I"⟩, 59) := ⟨⟨by decide +kernel, by decide +kernel⟩, List.mem_of_getElem? (i := 858) (by decide +kernel), List.mem_of_getElem? (i := 986) (by decide +kernel), List.mem_of_getElem? (i := 987) (by decide +kernel)⟩
theorem lw_p44 : lw_okq (⟨"PoleLogsModel", "abs", "(I)I"⟩, 59) := ⟨⟨by decide +kernel, by decide +kernel⟩, List.mem_of_getElem? (i := 858) (by decide +kernel), List.mem_of_getElem? (i := 990) (by decide +kernel), List.mem_of_getElem? (i := 991) (by decide +kernel)⟩
theorem lw_p45 : lw_okq (⟨"PoleLogsModel", "isFit", "(IIII)Z"⟩, 59) := ⟨⟨by decide +kernel, by decide +kernel⟩, List.mem_of_getElem? (i := 858) (by decide +kernel), List.mem_of_getElem? (i := 998) (by decide +kernel), List.mem_of_getElem? (i := 999) (by decide +kernel)⟩
theorem lw_p46 : lw_okq (⟨"PoleLogsModel", "isHeight", "(I)Z"⟩, 59) := ⟨⟨by decide +kernel, by decide +kernel⟩, List.mem_of_getElem? (i := 858) (by decide +kernel), List.mem_of_getElem? (i := 1002) (by decide +kernel), List.mem_of_getElem? (i := 1003) (by decide +kernel)⟩
theorem lw_p47 : lw_okq (⟨"PoleLogsModel", "middle", "(I)I"⟩, 59) := ⟨⟨by decide +kernel, by decide +kernel⟩, List.mem_of_getElem? (i := 858) (by decide +kernel), List.mem_of_getElem? (i := 1006) (by decide +kernel), List.mem_of_getElem? (i := 1007) (by decide +kernel)⟩
def lw_privs_3 : List (MethodName × Nat) := [(⟨"PoleLogsModel", "isPlace", "(II)Z"⟩, 59), (⟨"PoleLogsModel", "marchOf", "(III)I"⟩, 59), (⟨"PoleLogsModel", "add", "(IIIIIII)I"⟩, 59), (⟨"PoleLogsModel", "isTape", "(I)Z"⟩, 59), (⟨"PoleLogsModel", "isRow", "(I)Z"⟩, 59), (⟨"PoleLogsModel", "isYear", "(I)Z"⟩, 59), (⟨"PoleLogsModel", "findWay", "(II)V"⟩, 59), (⟨"PoleLogsModel", "keep", "(I)I"⟩, 59), (⟨"PoleLogsModel", "cellOf", "(II)I"⟩, 59), (⟨"PoleLogsModel", "canGo", "(II)I"⟩, 59), (⟨"PoleLogsModel", "beyondBy", "(I)I"⟩, 59), (⟨"PoleLogsModel", "latitudeOf", "(II)I"⟩, 59), (⟨"PoleLogsModel", "abs", "(I)I"⟩, 59), (⟨"PoleLogsModel", "isFit", "(IIII)Z"⟩, 59), (⟨"PoleLogsModel", "isHeight", "(I)Z"⟩, 59), (⟨"PoleLogsModel", "middle", "(I)I"⟩, 59)]
theorem lw_r3 : ∀ q ∈ lw_privs_3, lw_okq q := List.forall_mem_cons.mpr ⟨lw_p32, List.forall_mem_cons.mpr ⟨lw_p33, List.forall_mem_cons.mpr ⟨lw_p34, List.forall_mem_cons.mpr ⟨lw_p35, List.forall_mem_cons.mpr ⟨lw_p36, List.forall_mem_cons.mpr ⟨lw_p37, List.forall_mem_cons.mpr ⟨lw_p38, List.forall_mem_cons.mpr ⟨lw_p39, List.forall_mem_cons.mpr ⟨lw_p40, List.forall_mem_cons.mpr ⟨lw_p41, List.forall_mem_cons.mpr ⟨lw_p42, List.forall_mem_cons.mpr ⟨lw_p43, List.forall_mem_cons.mpr ⟨lw_p44, List.forall_mem_cons.mpr ⟨lw_p45, List.forall_mem_cons.mpr ⟨lw_p46, List.forall_mem_cons.mpr ⟨lw_p47, fun _ h => absurd h List.not_mem_nil⟩⟩⟩⟩⟩⟩⟩⟩⟩⟩⟩⟩⟩⟩⟩⟩
theorem lw_p48 : lw_okq (⟨"PoleLogsModel", "quarrelOf", "(II)I"⟩, 59) := ⟨⟨by decide +kernel, by decide +kernel⟩, List.mem_of_getElem? (i := 858) (by decide +kernel), List.mem_of_getElem? (i := 1014) (by decide +kernel), List.mem_of_getElem? (i := 1015) (by decide +kernel)⟩
theorem lw_p49 : lw_okq (⟨"PoleLogsModel", "findNeeds", "(I)V"⟩, 59) := ⟨⟨by decide +kernel, by decide +kernel⟩, List.mem_of_getElem? (i := 858) (by decide +kernel), List.mem_of_getElem? (i := 1026) (by decide +kernel), List.mem_of_getElem? (i := 1027) (by decide +kernel)⟩
theorem lw_p50 : lw_okq (⟨"PoleLogsModel", "down", "(II)I"⟩, 59) := ⟨⟨by decide +kernel, by decide +kernel⟩, List.mem_of_getElem? (i := 858) (by decide +kernel), List.mem_of_getElem? (i := 1030) (by decide +kernel), List.mem_of_getElem? (i := 1031) (by decide +kernel)⟩
theorem lw_p51 : lw_okq (⟨"PoleLogsModel", "falsesOf", "(IIII)I"⟩, 59) := ⟨⟨by decide +kernel, by decide +kernel⟩, List.mem_of_getElem? (i := 858) (by decide +kernel), List.mem_of_getElem? (i := 1042) (by decide +kernel), List.mem_of_getElem? (i := 1043) (by decide +kernel)⟩
theorem lw_p52 : lw_okq (⟨"PoleLogsModel", "tellStory", "(IIII)V"⟩, 59) := ⟨⟨by decide +kernel, by decide +kernel⟩, List.mem_of_getElem? (i := 858) (by decide +kernel), List.mem_of_getElem? (i := 1046) (by decide +kernel), List.mem_of_getElem? (i := 1047) (by decide +kernel)⟩
theorem lw_p53 : lw_okq (⟨"PoleLogsModel", "madeOf", "(III)I"⟩, 59) := ⟨⟨by decide +kernel, by decide +kernel⟩, List.mem_of_getElem? (i := 858) (by decide +kernel), List.mem_of_getElem? (i := 1246) (by decide +kernel), List.mem_of_getElem? (i := 1247) (by decide +kernel)⟩
theorem lw_p54 : lw_okq (⟨"PoleLogsModel", "goes", "(I)Z"⟩, 59) := ⟨⟨by decide +kernel, by decide +kernel⟩, List.mem_of_getElem? (i := 858) (by decide +kernel), List.mem_of_getElem? (i := 1258) (by decide +kernel), List.mem_of_getElem? (i := 1259) (by decide +kernel)⟩
theorem lw_p55 : lw_okq (⟨"PoleLogsModel", "byteAt", "()I"⟩, 59) := ⟨⟨by decide +kernel, by decide +kernel⟩, List.mem_of_getElem? (i := 858) (by decide +kernel), List.mem_of_getElem? (i := 1262) (by decide +kernel), List.mem_of_getElem? (i := 1263) (by decide +kernel)⟩
theorem lw_p56 : lw_okq (⟨"PoleLogsModel", "takesTest", "()Z"⟩, 59) := ⟨⟨by decide +kernel, by decide +kernel⟩, List.mem_of_getElem? (i := 858) (by decide +kernel), List.mem_of_getElem? (i := 1266) (by decide +kernel), List.mem_of_getElem? (i := 1267) (by decide +kernel)⟩
theorem lw_p57 : lw_okq (⟨"PoleLogsModel", "factOf", "(I)I"⟩, 59) := ⟨⟨by decide +kernel, by decide +kernel⟩, List.mem_of_getElem? (i := 858) (by decide +kernel), List.mem_of_getElem? (i := 1270) (by decide +kernel), List.mem_of_getElem? (i := 1271) (by decide +kernel)⟩
theorem lw_p58 : lw_okq (⟨"PoleLogsModel", "isDigit", "()Z"⟩, 59) := ⟨⟨by decide +kernel, by decide +kernel⟩, List.mem_of_getElem? (i := 858) (by decide +kernel), List.mem_of_getElem? (i := 1274) (by decide +kernel), List.mem_of_getElem? (i := 1275) (by decide +kernel)⟩
theorem lw_p59 : lw_okq (⟨"PoleLogsModel", "push", "(Z)V"⟩, 59) := ⟨⟨by decide +kernel, by decide +kernel⟩, List.mem_of_getElem? (i := 858) (by decide +kernel), List.mem_of_getElem? (i := 1278) (by decide +kernel), List.mem_of_getElem? (i := 1279) (by decide +kernel)⟩
theorem lw_p60 : lw_okq (⟨"PoleLogsModel", "settle", "(I)V"⟩, 59) := ⟨⟨by decide +kernel, by decide +kernel⟩, List.mem_of_getElem? (i := 858) (by decide +kernel), List.mem_of_getElem? (i := 1282) (by decide +kernel), List.mem_of_getElem? (i := 1283) (by decide +kernel)⟩
theorem lw_p61 : lw_okq (⟨"PoleLogsModel", "findFacts", "(II)V"⟩, 59) := ⟨⟨by decide +kernel, by decide +kernel⟩, List.mem_of_getElem? (i := 858) (by decide +kernel), List.mem_of_getElem? (i := 1290) (by decide +kernel), List.mem_of_getElem? (i := 1291) (by decide +kernel)⟩
theorem lw_p62 : lw_okq (⟨"PoleLogsModel", "fitting", "(III)I"⟩, 59) := ⟨⟨by decide +kernel, by decide +kernel⟩, List.mem_of_getElem? (i := 858) (by decide +kernel), List.mem_of_getElem? (i := 1294) (by decide +kernel), List.mem_of_getElem? (i := 1295) (by decide +kernel)⟩
theorem lw_p63 : lw_okq (⟨"PoleLogsModel", "isSet", "(I)Z"⟩, 59) := ⟨⟨by decide +kernel, by decide +kernel⟩, List.mem_of_getElem? (i := 858) (by decide +kernel), List.mem_of_getElem? (i := 1306) (by decide +kernel), List.mem_of_getElem? (i := 1307) (by decide +kernel)⟩
def lw_privs_4 : List (MethodName × Nat) := [(⟨"PoleLogsModel", "quarrelOf", "(II)I"⟩, 59), (⟨"PoleLogsModel", "findNeeds", "(I)V"⟩, 59), (⟨"PoleLogsModel", "down", "(II)I"⟩, 59), (⟨"PoleLogsModel", "falsesOf", "(IIII)I"⟩, 59), (⟨"PoleLogsModel", "tellStory", "(IIII)V"⟩, 59), (⟨"PoleLogsModel", "madeOf", "(III)I"⟩, 59), (⟨"PoleLogsModel", "goes", "(I)Z"⟩, 59), (⟨"PoleLogsModel", "byteAt", "()I"⟩, 59), (⟨"PoleLogsModel", "takesTest", "()Z"⟩, 59), (⟨"PoleLogsModel", "factOf", "(I)I"⟩, 59), (⟨"PoleLogsModel", "isDigit", "()Z"⟩, 59), (⟨"PoleLogsModel", "push", "(Z)V"⟩, 59), (⟨"PoleLogsModel", "settle", "(I)V"⟩, 59), (⟨"PoleLogsModel", "findFacts", "(II)V"⟩, 59), (⟨"PoleLogsModel", "fitting", "(III)I"⟩, 59), (⟨"PoleLogsModel", "isSet", "(I)Z"⟩, 59)]
theorem lw_r4 : ∀ q ∈ lw_privs_4, lw_okq q := List.forall_mem_cons.mpr ⟨lw_p48, List.forall_mem_cons.mpr ⟨lw_p49, List.forall_mem_cons.mpr ⟨lw_p50, List.forall_mem_cons.mpr ⟨lw_p51, List.forall_mem_cons.mpr ⟨lw_p52, List.forall_mem_cons.mpr ⟨lw_p53, List.forall_mem_cons.mpr ⟨lw_p54, List.forall_mem_cons.mpr ⟨lw_p55, List.forall_mem_cons.mpr ⟨lw_p56, List.forall_mem_cons.mpr ⟨lw_p57, List.forall_mem_cons.mpr ⟨lw_p58, List.forall_mem_cons.mpr ⟨lw_p59, List.forall_mem_cons.mpr ⟨lw_p60, List.forall_mem_cons.mpr ⟨lw_p61, List.forall_mem_cons.mpr ⟨lw_p62, List.forall_mem_cons.mpr ⟨lw_p63, fun _ h => absurd h List.not_mem_nil⟩⟩⟩⟩⟩⟩⟩⟩⟩⟩⟩⟩⟩⟩⟩⟩
theorem lw_p64 : lw_okq (⟨"PoleLogsModel", "worthOf", "(II)I"⟩, 59) := ⟨⟨by decide +kernel, by decide +kernel⟩, List.mem_of_getElem? (i := 858) (by decide +kernel), List.mem_of_getElem? (i := 1310) (by decide +kernel), List.mem_of_getElem? (i := 1311) (by decide +kernel)⟩
theorem lw_p65 : lw_okq (⟨"PoleLogsModel", "partBy", "(III)I"⟩, 59) := ⟨⟨by decide +kernel, by decide +kernel⟩, List.mem_of_getElem? (i := 858) (by decide +kernel), List.mem_of_getElem? (i := 1314) (by decide +kernel), List.mem_of_getElem? (i := 1315) (by decide +kernel)⟩
theorem lw_p66 : lw_okq (⟨"PoleLogsModel", "ones", "(I)I"⟩, 59) := ⟨⟨by decide +kernel, by decide +kernel⟩, List.mem_of_getElem? (i := 858) (by decide +kernel), List.mem_of_getElem? (i := 1318) (by decide +kernel), List.mem_of_getElem? (i := 1319) (by decide +kernel)⟩
theorem lw_p67 : lw_okq (⟨"PoleLogsModel", "fitsOf", "(II)I"⟩, 59) := ⟨⟨by decide +kernel, by decide +kernel⟩, List.mem_of_getElem? (i := 858) (by decide +kernel), List.mem_of_getElem? (i := 1334) (by decide +kernel), List.mem_of_getElem? (i := 1335) (by decide +kernel)⟩
theorem lw_p68 : lw_okq (⟨"PoleLogsModel", "heightFits", "(II)I"⟩, 59) := ⟨⟨by decide +kernel, by decide +kernel⟩, List.mem_of_getElem? (i := 858) (by decide +kernel), List.mem_of_getElem? (i := 1338) (by decide +kernel), List.mem_of_getElem? (i := 1339) (by decide +kernel)⟩
theorem lw_p69 : lw_okq (⟨"PoleLogsModel", "body", "(I)V"⟩, 59) := ⟨⟨by decide +kernel, by decide +kernel⟩, List.mem_of_getElem? (i := 858) (by decide +kernel), List.mem_of_getElem? (i := 1342) (by decide +kernel), List.mem_of_getElem? (i := 1343) (by decide +kernel)⟩
theorem lw_p70 : lw_okq (⟨"PoleLogsModel", "plainFits", "(II)I"⟩, 59) := ⟨⟨by decide +kernel, by decide +kernel⟩, List.mem_of_getElem? (i := 858) (by decide +kernel), List.mem_of_getElem? (i := 1346) (by decide +kernel), List.mem_of_getElem? (i := 1347) (by decide +kernel)⟩
theorem lw_p71 : lw_okq (⟨"PoleLogsModel", "hangsOf", "(II)I"⟩, 59) := ⟨⟨by decide +kernel, by decide +kernel⟩, List.mem_of_getElem? (i := 858) (by decide +kernel), List.mem_of_getElem? (i := 1350) (by decide +kernel), List.mem_of_getElem? (i := 1351) (by decide +kernel)⟩
theorem lw_p72 : lw_okq (⟨"PoleLogsModel", "plainHangs", "(II)I"⟩, 59) := ⟨⟨by decide +kernel, by decide +kernel⟩, List.mem_of_getElem? (i := 858) (by decide +kernel), List.mem_of_getElem? (i := 1354) (by decide +kernel), List.mem_of_getElem? (i := 1355) (by decide +kernel)⟩
theorem lw_p73 : lw_okq (⟨"PoleLogsModel", "showsOf", "(II)I"⟩, 59) := ⟨⟨by decide +kernel, by decide +kernel⟩, List.mem_of_getElem? (i := 858) (by decide +kernel), List.mem_of_getElem? (i := 1358) (by decide +kernel), List.mem_of_getElem? (i := 1359) (by decide +kernel)⟩
theorem lw_p74 : lw_okq (⟨"PoleLogsModel", "heightShows", "(II)I"⟩, 59) := ⟨⟨by decide +kernel, by decide +kernel⟩, List.mem_of_getElem? (i := 858) (by decide +kernel), List.mem_of_getElem? (i := 1362) (by decide +kernel), List.mem_of_getElem? (i := 1363) (by decide +kernel)⟩
theorem lw_p75 : lw_okq (⟨"PoleLogsModel", "plainShows", "(II)I"⟩, 59) := ⟨⟨by decide +kernel, by decide +kernel⟩, List.mem_of_getElem? (i := 858) (by decide +kernel), List.mem_of_getElem? (i := 1366) (by decide +kernel), List.mem_of_getElem? (i := 1367) (by decide +kernel)⟩
def lw_privs_5 : List (MethodName × Nat) := [(⟨"PoleLogsModel", "worthOf", "(II)I"⟩, 59), (⟨"PoleLogsModel", "partBy", "(III)I"⟩, 59), (⟨"PoleLogsModel", "ones", "(I)I"⟩, 59), (⟨"PoleLogsModel", "fitsOf", "(II)I"⟩, 59), (⟨"PoleLogsModel", "heightFits", "(II)I"⟩, 59), (⟨"PoleLogsModel", "body", "(I)V"⟩, 59), (⟨"PoleLogsModel", "plainFits", "(II)I"⟩, 59), (⟨"PoleLogsModel", "hangsOf", "(II)I"⟩, 59), (⟨"PoleLogsModel", "plainHangs", "(II)I"⟩, 59), (⟨"PoleLogsModel", "showsOf", "(II)I"⟩, 59), (⟨"PoleLogsModel", "heightShows", "(II)I"⟩, 59), (⟨"PoleLogsModel", "plainShows", "(II)I"⟩, 59)]
theorem lw_r5 : ∀ q ∈ lw_privs_5, lw_okq q := List.forall_mem_cons.mpr ⟨lw_p64, List.forall_mem_cons.mpr ⟨lw_p65, List.forall_mem_cons.mpr ⟨lw_p66, List.forall_mem_cons.mpr ⟨lw_p67, List.forall_mem_cons.mpr ⟨lw_p68, List.forall_mem_cons.mpr ⟨lw_p69, List.forall_mem_cons.mpr ⟨lw_p70, List.forall_mem_cons.mpr ⟨lw_p71, List.forall_mem_cons.mpr ⟨lw_p72, List.forall_mem_cons.mpr ⟨lw_p73, List.forall_mem_cons.mpr ⟨lw_p74, List.forall_mem_cons.mpr ⟨lw_p75, fun _ h => absurd h List.not_mem_nil⟩⟩⟩⟩⟩⟩⟩⟩⟩⟩⟩⟩
def lw_privs : List (MethodName × Nat) := lw_privs_1 ++ (lw_privs_2 ++ (lw_privs_3 ++ (lw_privs_4 ++ (lw_privs_5))))
def lw_tbl : List Cond := k2_sels lw_privs ++ tables_1
theorem lw_privs_ok : ∀ q ∈ lw_privs, lw_okq q := by
  show ∀ q ∈ lw_privs_1 ++ (lw_privs_2 ++ (lw_privs_3 ++ (lw_privs_4 ++ (lw_privs_5)))), lw_okq q
  exact List.forall_mem_append.mpr ⟨lw_r1, List.forall_mem_append.mpr ⟨lw_r2, List.forall_mem_append.mpr ⟨lw_r3, List.forall_mem_append.mpr ⟨lw_r4, lw_r5⟩⟩⟩⟩
end
section
def RX0 : String := "PoleLogs$Acts"
def TX0 : u_T := fun k => match k with
  | 0 => ("PoleLogs$Acts", "kept", "[I", true)
  | _ => ("PoleLogs$Acts", "ran", "I", false)
def tyX0 : Nat → FieldType := fun k => match k with
  | 0 => .array .int
  | _ => .int
theorem nmX0 : ∀ a, a < 2 → ∀ b, b < 2 → a ≠ b → (TX0 a).2.1 ≠ (TX0 b).2.1 := by decide +kernel
theorem tyX0_ok : ∀ k, k < 2 → parseFieldDescriptor (TX0 k).2.2.1 = some (tyX0 k) := by decide +kernel
abbrev cX0_init : ByteArray := prog_2_method_1_code
def yX0_init : MethodName := ⟨RX0, "<init>", "()V"⟩
abbrev cX0_perform : ByteArray := prog_2_method_2_code
def yX0_perform : MethodName := ⟨RX0, "perform", "(LPoleLogs$Row;II)I"⟩
abbrev cX0_from : ByteArray := prog_2_method_3_code
def yX0_from : MethodName := ⟨RX0, "from", "(IILPoleLogs$Row;II)I"⟩
abbrev cX0_run : ByteArray := prog_2_method_4_code
def yX0_run : MethodName := ⟨RX0, "run", "(IILPoleLogs$Row;II)I"⟩
def RX1 : String := "PoleLogs$Almanac"
def TX1 : u_T := fun k => match k with
  | 0 => ("PoleLogs$Almanac", "suns", "[I", true)
  | _ => ("PoleLogs$Almanac", "misprints", "[I", true)
def tyX1 : Nat → FieldType := fun k => match k with
  | 0 => .array .int
  | _ => .array .int
theorem nmX1 : ∀ a, a < 2 → ∀ b, b < 2 → a ≠ b → (TX1 a).2.1 ≠ (TX1 b).2.1 := by decide +kernel
theorem tyX1_ok : ∀ k, k < 2 → parseFieldDescriptor (TX1 k).2.2.1 = some (tyX1 k) := by decide +kernel
abbrev cX1_init : ByteArray := prog_3_method_1_code
def yX1_init : MethodName := ⟨RX1, "<init>", "()V"⟩
abbrev cX1_misprintCount : ByteArray := prog_3_method_2_code
def yX1_misprintCount : MethodName := ⟨RX1, "misprintCount", "()I"⟩
abbrev cX1_showsSun : ByteArray := prog_3_method_3_code
def yX1_showsSun : MethodName := ⟨RX1, "showsSun", "(LPoleLogs$Row;I)Z"⟩
abbrev cX1_showsMisprint : ByteArray := prog_3_method_4_code
def yX1_showsMisprint : MethodName := ⟨RX1, "showsMisprint", "(LPoleLogs$Row;I)Z"⟩
def RX2 : String := "PoleLogs$Ice"
def TX2 : u_T := fun k => match k with
  | 0 => ("PoleLogs$Ice", "driftX", "[I", true)
  | 1 => ("PoleLogs$Ice", "driftY", "[I", true)
  | 2 => ("PoleLogs$Ice", "ridge", "[I", true)
  | _ => ("PoleLogs$Ice", "turn", "[I", true)
def tyX2 : Nat → FieldType := fun k => match k with
  | 0 => .array .int
  | 1 => .array .int
  | 2 => .array .int
  | _ => .array .int
theorem nmX2 : ∀ a, a < 4 → ∀ b, b < 4 → a ≠ b → (TX2 a).2.1 ≠ (TX2 b).2.1 := by decide +kernel
theorem tyX2_ok : ∀ k, k < 4 → parseFieldDescriptor (TX2 k).2.2.1 = some (tyX2 k) := by decide +kernel
abbrev cX2_init : ByteArray := prog_4_method_1_code
def yX2_init : MethodName := ⟨RX2, "<init>", "()V"⟩
def RX3 : String := "PoleLogs$Law"
def TX3 : u_T := fun k => match k with
  | 0 => ("PoleLogs$Law", "committee", "I", true)
  | 1 => ("PoleLogs$Law", "year", "I", true)
  | _ => ("PoleLogs$Law", "text", "[I", true)
def tyX3 : Nat → FieldType := fun k => match k with
  | 0 => .int
  | 1 => .int
  | _ => .array .int
theorem nmX3 : ∀ a, a < 3 → ∀ b, b < 3 → a ≠ b → (TX3 a).2.1 ≠ (TX3 b).2.1 := by decide +kernel
theorem tyX3_ok : ∀ k, k < 3 → parseFieldDescriptor (TX3 k).2.2.1 = some (tyX3 k) := by decide +kernel
abbrev cX3_init : ByteArray := prog_5_method_1_code
def yX3_init : MethodName := ⟨RX3, "<init>", "(II[I)V"⟩
def RX4 : String := "PoleLogs$Log"
def TX4 : u_T := fun k => match k with
  | 0 => ("PoleLogs$Log", "strength", "I", false)
  | 1 => ("PoleLogs$Log", "skill", "I", false)
  | 2 => ("PoleLogs$Log", "dogs", "I", false)
  | 3 => ("PoleLogs$Log", "load", "I", false)
  | 4 => ("PoleLogs$Log", "startX", "I", false)
  | 5 => ("PoleLogs$Log", "startY", "I", false)
  | 6 => ("PoleLogs$Log", "claimX", "I", false)
  | 7 => ("PoleLogs$Log", "claimY", "I", false)
  | 8 => ("PoleLogs$Log", "claimDay", "I", false)
  | _ => ("PoleLogs$Log", "marches", "[LPoleLogs$Row;", true)
def tyX4 : Nat → FieldType := fun k => match k with
  | 0 => .int
  | 1 => .int
  | 2 => .int
  | 3 => .int
  | 4 => .int
  | 5 => .int
  | 6 => .int
  | 7 => .int
  | 8 => .int
  | _ => .array (.object "PoleLogs$Row")
theorem nmX4 : ∀ a, a < 10 → ∀ b, b < 10 → a ≠ b → (TX4 a).2.1 ≠ (TX4 b).2.1 := by decide +kernel
theorem tyX4_ok : ∀ k, k < 10 → parseFieldDescriptor (TX4 k).2.2.1 = some (tyX4 k) := by decide +kernel
abbrev cX4_init : ByteArray := prog_6_method_1_code
def yX4_init : MethodName := ⟨RX4, "<init>", "()V"⟩
abbrev cX4_hasClaim : ByteArray := prog_6_method_2_code
def yX4_hasClaim : MethodName := ⟨RX4, "hasClaim", "()Z"⟩
abbrev cX4_claimLatitude : ByteArray := prog_6_method_3_code
def yX4_claimLatitude : MethodName := ⟨RX4, "claimLatitude", "()I"⟩
abbrev cX4_milesOver : ByteArray := prog_6_method_4_code
def yX4_milesOver : MethodName := ⟨RX4, "milesOver", "(I)I"⟩
def RX5 : String := "PoleLogs$Looks"
def TX5 : u_T := fun k => match k with
  | 0 => ("PoleLogs$Looks", "parts", "[I", true)
  | 1 => ("PoleLogs$Looks", "left", "[I", true)
  | _ => ("PoleLogs$Looks", "size", "I", false)
def tyX5 : Nat → FieldType := fun k => match k with
  | 0 => .array .int
  | 1 => .array .int
  | _ => .int
theorem nmX5 : ∀ a, a < 3 → ∀ b, b < 3 → a ≠ b → (TX5 a).2.1 ≠ (TX5 b).2.1 := by decide +kernel
theorem tyX5_ok : ∀ k, k < 3 → parseFieldDescriptor (TX5 k).2.2.1 = some (tyX5 k) := by decide +kernel
abbrev cX5_init : ByteArray := prog_7_method_1_code
def yX5_init : MethodName := ⟨RX5, "<init>", "()V"⟩
abbrev cX5_add : ByteArray := prog_7_method_2_code
def yX5_add : MethodName := ⟨RX5, "add", "(I)I"⟩
abbrev cX5_leftBehind : ByteArray := prog_7_method_3_code
def yX5_leftBehind : MethodName := ⟨RX5, "leftBehind", "(II)I"⟩
abbrev cX5_greatestPart : ByteArray := prog_7_method_4_code
def yX5_greatestPart : MethodName := ⟨RX5, "greatestPart", "(II)I"⟩
abbrev cX5_best : ByteArray := prog_7_method_5_code
def yX5_best : MethodName := ⟨RX5, "best", "(I)I"⟩
def RX6 : String := "PoleLogs$Reader"
def TX6 : u_T := fun k => match k with
  | 0 => ("PoleLogs$Reader", "values", "[I", true)
  | 1 => ("PoleLogs$Reader", "text", "[I", false)
  | 2 => ("PoleLogs$Reader", "length", "I", false)
  | 3 => ("PoleLogs$Reader", "at", "I", false)
  | _ => ("PoleLogs$Reader", "faulty", "Z", false)
def tyX6 : Nat → FieldType := fun k => match k with
  | 0 => .array .int
  | 1 => .array .int
  | 2 => .int
  | 3 => .int
  | _ => .boolean
theorem nmX6 : ∀ a, a < 5 → ∀ b, b < 5 → a ≠ b → (TX6 a).2.1 ≠ (TX6 b).2.1 := by decide +kernel
theorem tyX6_ok : ∀ k, k < 5 → parseFieldDescriptor (TX6 k).2.2.1 = some (tyX6 k) := by decide +kernel
abbrev cX6_init : ByteArray := prog_8_method_1_code
def yX6_init : MethodName := ⟨RX6, "<init>", "()V"⟩
abbrev cX6_faultOf : ByteArray := prog_8_method_2_code
def yX6_faultOf : MethodName := ⟨RX6, "faultOf", "([II)I"⟩
abbrev cX6_holds : ByteArray := prog_8_method_3_code
def yX6_holds : MethodName := ⟨RX6, "holds", "([I)Z"⟩
abbrev cX6_readAll : ByteArray := prog_8_method_4_code
def yX6_readAll : MethodName := ⟨RX6, "readAll", "([II)Z"⟩
abbrev cX6_coming : ByteArray := prog_8_method_5_code
def yX6_coming : MethodName := ⟨RX6, "coming", "()I"⟩
abbrev cX6_either : ByteArray := prog_8_method_6_code
def yX6_either : MethodName := ⟨RX6, "either", "(I)Z"⟩
abbrev cX6_both : ByteArray := prog_8_method_7_code
def yX6_both : MethodName := ⟨RX6, "both", "(I)Z"⟩
abbrev cX6_one : ByteArray := prog_8_method_8_code
def yX6_one : MethodName := ⟨RX6, "one", "(I)Z"⟩
abbrev cX6_test : ByteArray := prog_8_method_9_code
def yX6_test : MethodName := ⟨RX6, "test", "()Z"⟩
abbrev cX6_number : ByteArray := prog_8_method_10_code
def yX6_number : MethodName := ⟨RX6, "number", "()I"⟩
abbrev cX6_letterAt : ByteArray := prog_8_method_11_code
def yX6_letterAt : MethodName := ⟨RX6, "letterAt", "(I)I"⟩
def RX7 : String := "PoleLogs$Row"
def TX7 : u_T := fun k => match k with
  | 0 => ("PoleLogs$Row", "number", "I", true)
  | 1 => ("PoleLogs$Row", "log", "I", true)
  | 2 => ("PoleLogs$Row", "day", "I", true)
  | 3 => ("PoleLogs$Row", "kind", "I", true)
  | 4 => ("PoleLogs$Row", "year", "I", true)
  | 5 => ("PoleLogs$Row", "first", "I", false)
  | 6 => ("PoleLogs$Row", "second", "I", false)
  | 7 => ("PoleLogs$Row", "third", "I", false)
  | _ => ("PoleLogs$Row", "fourth", "I", false)
def tyX7 : Nat → FieldType := fun k => match k with
  | 0 => .int
  | 1 => .int
  | 2 => .int
  | 3 => .int
  | 4 => .int
  | 5 => .int
  | 6 => .int
  | 7 => .int
  | _ => .int
theorem nmX7 : ∀ a, a < 9 → ∀ b, b < 9 → a ≠ b → (TX7 a).2.1 ≠ (TX7 b).2.1 := by decide +kernel
theorem tyX7_ok : ∀ k, k < 9 → parseFieldDescriptor (TX7 k).2.2.1 = some (tyX7 k) := by decide +kernel
abbrev cX7_init : ByteArray := prog_9_method_1_code
def yX7_init : MethodName := ⟨RX7, "<init>", "(IIIII)V"⟩
abbrev cX7_isOf : ByteArray := prog_9_method_2_code
def yX7_isOf : MethodName := ⟨RX7, "isOf", "(II)Z"⟩
abbrev cX7_isHeightOf : ByteArray := prog_9_method_3_code
def yX7_isHeightOf : MethodName := ⟨RX7, "isHeightOf", "(II)Z"⟩
abbrev cX7_quarrelsWith : ByteArray := prog_9_method_4_code
def yX7_quarrelsWith : MethodName := ⟨RX7, "quarrelsWith", "(LPoleLogs$Row;)Z"⟩
abbrev cX7_miles : ByteArray := prog_9_method_5_code
def yX7_miles : MethodName := ⟨RX7, "miles", "()I"⟩
def RX8 : String := "PoleLogs$Tape"
def TX8 : u_T := fun k => match k with
  | 0 => ("PoleLogs$Tape", "sort", "I", false)
  | 1 => ("PoleLogs$Tape", "size", "I", false)
  | _ => ("PoleLogs$Tape", "items", "[I", true)
def tyX8 : Nat → FieldType := fun k => match k with
  | 0 => .int
  | 1 => .int
  | _ => .array .int
theorem nmX8 : ∀ a, a < 3 → ∀ b, b < 3 → a ≠ b → (TX8 a).2.1 ≠ (TX8 b).2.1 := by decide +kernel
theorem tyX8_ok : ∀ k, k < 3 → parseFieldDescriptor (TX8 k).2.2.1 = some (tyX8 k) := by decide +kernel
abbrev cX8_init : ByteArray := prog_10_method_1_code
def yX8_init : MethodName := ⟨RX8, "<init>", "()V"⟩
abbrev cX8_become : ByteArray := prog_10_method_2_code
def yX8_become : MethodName := ⟨RX8, "become", "(II)V"⟩
abbrev cX8_has : ByteArray := prog_10_method_3_code
def yX8_has : MethodName := ⟨RX8, "has", "(I)Z"⟩
abbrev cX8_spans : ByteArray := prog_10_method_4_code
def yX8_spans : MethodName := ⟨RX8, "spans", "(II)Z"⟩
abbrev cX8_asItem : ByteArray := prog_10_method_5_code
def yX8_asItem : MethodName := ⟨RX8, "asItem", "(I)I"⟩
def RX9 : String := "PoleLogs$Way"
def TX9 : u_T := fun k => match k with
  | 0 => ("PoleLogs$Way", "ground", "LPoleLogs$Ice;", true)
  | 1 => ("PoleLogs$Way", "log", "LPoleLogs$Log;", false)
  | 2 => ("PoleLogs$Way", "year", "I", false)
  | 3 => ("PoleLogs$Way", "xs", "[I", true)
  | _ => ("PoleLogs$Way", "ys", "[I", true)
def tyX9 : Nat → FieldType := fun k => match k with
  | 0 => .object "PoleLogs$Ice"
  | 1 => .object "PoleLogs$Log"
  | 2 => .int
  | 3 => .array .int
  | _ => .array .int
theorem nmX9 : ∀ a, a < 5 → ∀ b, b < 5 → a ≠ b → (TX9 a).2.1 ≠ (TX9 b).2.1 := by decide +kernel
theorem tyX9_ok : ∀ k, k < 5 → parseFieldDescriptor (TX9 k).2.2.1 = some (tyX9 k) := by decide +kernel
abbrev cX9_init : ByteArray := prog_11_method_1_code
def yX9_init : MethodName := ⟨RX9, "<init>", "(LPoleLogs$Ice;LPoleLogs$Log;)V"⟩
abbrev cX9_walk : ByteArray := prog_11_method_2_code
def yX9_walk : MethodName := ⟨RX9, "walk", "(LPoleLogs$Log;II)V"⟩
abbrev cX9_marchOf : ByteArray := prog_11_method_3_code
def yX9_marchOf : MethodName := ⟨RX9, "marchOf", "(I)LPoleLogs$Row;"⟩
abbrev cX9_xBehind : ByteArray := prog_11_method_4_code
def yX9_xBehind : MethodName := ⟨RX9, "xBehind", "(I)I"⟩
abbrev cX9_yBehind : ByteArray := prog_11_method_5_code
def yX9_yBehind : MethodName := ⟨RX9, "yBehind", "(I)I"⟩
abbrev cX9_cellBehind : ByteArray := prog_11_method_6_code
def yX9_cellBehind : MethodName := ⟨RX9, "cellBehind", "(I)I"⟩
abbrev cX9_bearing : ByteArray := prog_11_method_7_code
def yX9_bearing : MethodName := ⟨RX9, "bearing", "(I)I"⟩
abbrev cX9_reach : ByteArray := prog_11_method_8_code
def yX9_reach : MethodName := ⟨RX9, "reach", "(I)I"⟩
abbrev cX9_excess : ByteArray := prog_11_method_9_code
def yX9_excess : MethodName := ⟨RX9, "excess", "(I)I"⟩
def RX10 : String := "PoleLogs"
def TX10 : u_T := fun k => match k with
  | 0 => ("PoleLogs", "ground", "LPoleLogs$Ice;", true)
  | 1 => ("PoleLogs", "almanac", "LPoleLogs$Almanac;", true)
  | 2 => ("PoleLogs", "logs", "[LPoleLogs$Log;", true)
  | 3 => ("PoleLogs", "way", "LPoleLogs$Way;", true)
  | 4 => ("PoleLogs", "rows", "[LPoleLogs$Row;", true)
  | 5 => ("PoleLogs", "strengths", "[I", true)
  | 6 => ("PoleLogs", "skills", "[I", true)
  | 7 => ("PoleLogs", "laws", "[LPoleLogs$Law;", true)
  | 8 => ("PoleLogs", "reader", "LPoleLogs$Reader;", true)
  | 9 => ("PoleLogs", "text", "[I", true)
  | 10 => ("PoleLogs", "looks", "LPoleLogs$Looks;", true)
  | 11 => ("PoleLogs", "acts", "LPoleLogs$Acts;", true)
  | 12 => ("PoleLogs", "tapes", "[LPoleLogs$Tape;", true)
  | 13 => ("PoleLogs", "now", "I", false)
  | 14 => ("PoleLogs", "menCount", "I", false)
  | 15 => ("PoleLogs", "rowCount", "I", false)
  | 16 => ("PoleLogs", "lawCount", "I", false)
  | _ => ("PoleLogs", "textLength", "I", false)
def tyX10 : Nat → FieldType := fun k => match k with
  | 0 => .object "PoleLogs$Ice"
  | 1 => .object "PoleLogs$Almanac"
  | 2 => .array (.object "PoleLogs$Log")
  | 3 => .object "PoleLogs$Way"
  | 4 => .array (.object "PoleLogs$Row")
  | 5 => .array .int
  | 6 => .array .int
  | 7 => .array (.object "PoleLogs$Law")
  | 8 => .object "PoleLogs$Reader"
  | 9 => .array .int
  | 10 => .object "PoleLogs$Looks"
  | 11 => .object "PoleLogs$Acts"
  | 12 => .array (.object "PoleLogs$Tape")
  | 13 => .int
  | 14 => .int
  | 15 => .int
  | 16 => .int
  | _ => .int
theorem nmX10 : ∀ a, a < 18 → ∀ b, b < 18 → a ≠ b → (TX10 a).2.1 ≠ (TX10 b).2.1 := by decide +kernel
theorem tyX10_ok : ∀ k, k < 18 → parseFieldDescriptor (TX10 k).2.2.1 = some (tyX10 k) := by decide +kernel
abbrev cX10_init : ByteArray := prog_1_method_1_code
def yX10_init : MethodName := ⟨RX10, "<init>", "()V"⟩
abbrev cX10_pass : ByteArray := prog_1_method_2_code
def yX10_pass : MethodName := ⟨RX10, "pass", "(I)I"⟩
abbrev cX10_drift : ByteArray := prog_1_method_3_code
def yX10_drift : MethodName := ⟨RX10, "drift", "(III)I"⟩
abbrev cX10_ice : ByteArray := prog_1_method_4_code
def yX10_ice : MethodName := ⟨RX10, "ice", "(III)I"⟩
abbrev cX10_sun : ByteArray := prog_1_method_5_code
def yX10_sun : MethodName := ⟨RX10, "sun", "(II)I"⟩
abbrev cX10_man : ByteArray := prog_1_method_6_code
def yX10_man : MethodName := ⟨RX10, "man", "(II)I"⟩
abbrev cX10_party : ByteArray := prog_1_method_7_code
def yX10_party : MethodName := ⟨RX10, "party", "(IIII)I"⟩
abbrev cX10_start : ByteArray := prog_1_method_8_code
def yX10_start : MethodName := ⟨RX10, "start", "(III)I"⟩
abbrev cX10_claim : ByteArray := prog_1_method_9_code
def yX10_claim : MethodName := ⟨RX10, "claim", "(IIII)I"⟩
abbrev cX10_march : ByteArray := prog_1_method_10_code
def yX10_march : MethodName := ⟨RX10, "march", "(IIIII)I"⟩
abbrev cX10_height : ByteArray := prog_1_method_11_code
def yX10_height : MethodName := ⟨RX10, "height", "(IIIIZ)I"⟩
abbrev cX10_compass : ByteArray := prog_1_method_12_code
def yX10_compass : MethodName := ⟨RX10, "compass", "(III)I"⟩
abbrev cX10_picture : ByteArray := prog_1_method_13_code
def yX10_picture : MethodName := ⟨RX10, "picture", "(IIIII)I"⟩
abbrev cX10_word : ByteArray := prog_1_method_14_code
def yX10_word : MethodName := ⟨RX10, "word", "(IIIIII)I"⟩
abbrev cX10_torn : ByteArray := prog_1_method_15_code
def yX10_torn : MethodName := ⟨RX10, "torn", "(IIIIII)I"⟩
abbrev cX10_of : ByteArray := prog_1_method_16_code
def yX10_of : MethodName := ⟨RX10, "of", "(II)I"⟩
abbrev cX10_fits : ByteArray := prog_1_method_17_code
def yX10_fits : MethodName := ⟨RX10, "fits", "(III)I"⟩
abbrev cX10_place : ByteArray := prog_1_method_18_code
def yX10_place : MethodName := ⟨RX10, "place", "(III)I"⟩
abbrev cX10_can : ByteArray := prog_1_method_19_code
def yX10_can : MethodName := ⟨RX10, "can", "(II)I"⟩
abbrev cX10_beyond : ByteArray := prog_1_method_20_code
def yX10_beyond : MethodName := ⟨RX10, "beyond", "(II)I"⟩
abbrev cX10_latitude : ByteArray := prog_1_method_21_code
def yX10_latitude : MethodName := ⟨RX10, "latitude", "(II)I"⟩
abbrev cX10_quarrel : ByteArray := prog_1_method_22_code
def yX10_quarrel : MethodName := ⟨RX10, "quarrel", "(I)I"⟩
abbrev cX10_home : ByteArray := prog_1_method_23_code
def yX10_home : MethodName := ⟨RX10, "home", "(I)I"⟩
abbrev cX10_needs : ByteArray := prog_1_method_24_code
def yX10_needs : MethodName := ⟨RX10, "needs", "(II)I"⟩
abbrev cX10_held : ByteArray := prog_1_method_25_code
def yX10_held : MethodName := ⟨RX10, "held", "(III)I"⟩
abbrev cX10_falses : ByteArray := prog_1_method_26_code
def yX10_falses : MethodName := ⟨RX10, "falses", "(IIII)I"⟩
abbrev cX10_least : ByteArray := prog_1_method_27_code
def yX10_least : MethodName := ⟨RX10, "least", "(III)I"⟩
abbrev cX10_misprint : ByteArray := prog_1_method_28_code
def yX10_misprint : MethodName := ⟨RX10, "misprint", "(II)I"⟩
abbrev cX10_made : ByteArray := prog_1_method_29_code
def yX10_made : MethodName := ⟨RX10, "made", "(II)I"⟩
abbrev cX10_feed : ByteArray := prog_1_method_30_code
def yX10_feed : MethodName := ⟨RX10, "feed", "(II)I"⟩
abbrev cX10_law : ByteArray := prog_1_method_31_code
def yX10_law : MethodName := ⟨RX10, "law", "(II)I"⟩
abbrev cX10_says : ByteArray := prog_1_method_32_code
def yX10_says : MethodName := ⟨RX10, "says", "(III)I"⟩
abbrev cX10_look : ByteArray := prog_1_method_33_code
def yX10_look : MethodName := ⟨RX10, "look", "(I)I"⟩
abbrev cX10_worth : ByteArray := prog_1_method_34_code
def yX10_worth : MethodName := ⟨RX10, "worth", "(II)I"⟩
abbrev cX10_next : ByteArray := prog_1_method_35_code
def yX10_next : MethodName := ⟨RX10, "next", "(I)I"⟩
abbrev cX10_worst : ByteArray := prog_1_method_36_code
def yX10_worst : MethodName := ⟨RX10, "worst", "(II)I"⟩
abbrev cX10_act : ByteArray := prog_1_method_37_code
def yX10_act : MethodName := ⟨RX10, "act", "(III)I"⟩
abbrev cX10_trace : ByteArray := prog_1_method_38_code
def yX10_trace : MethodName := ⟨RX10, "trace", "(I)I"⟩
abbrev cX10_taken : ByteArray := prog_1_method_39_code
def yX10_taken : MethodName := ⟨RX10, "taken", "(II)I"⟩
abbrev cX10_count : ByteArray := prog_1_method_40_code
def yX10_count : MethodName := ⟨RX10, "count", "(I)I"⟩
abbrev cX10_tape : ByteArray := prog_1_method_41_code
def yX10_tape : MethodName := ⟨RX10, "tape", "(III)I"⟩
abbrev cX10_item : ByteArray := prog_1_method_42_code
def yX10_item : MethodName := ⟨RX10, "item", "(III)I"⟩
abbrev cX10_read : ByteArray := prog_1_method_43_code
def yX10_read : MethodName := ⟨RX10, "read", "(II)I"⟩
abbrev cX10_shift : ByteArray := prog_1_method_44_code
def yX10_shift : MethodName := ⟨RX10, "shift", "(IIIII)I"⟩
abbrev cX10_within : ByteArray := prog_1_method_45_code
def yX10_within : MethodName := ⟨RX10, "within", "(III)Z"⟩
abbrev cX10_isLog : ByteArray := prog_1_method_46_code
def yX10_isLog : MethodName := ⟨RX10, "isLog", "(I)Z"⟩
abbrev cX10_isDay : ByteArray := prog_1_method_47_code
def yX10_isDay : MethodName := ⟨RX10, "isDay", "(I)Z"⟩
abbrev cX10_isYear : ByteArray := prog_1_method_48_code
def yX10_isYear : MethodName := ⟨RX10, "isYear", "(I)Z"⟩
abbrev cX10_isPlace : ByteArray := prog_1_method_49_code
def yX10_isPlace : MethodName := ⟨RX10, "isPlace", "(II)Z"⟩
abbrev cX10_isHeight : ByteArray := prog_1_method_50_code
def yX10_isHeight : MethodName := ⟨RX10, "isHeight", "(I)Z"⟩
abbrev cX10_isNearness : ByteArray := prog_1_method_51_code
def yX10_isNearness : MethodName := ⟨RX10, "isNearness", "(I)Z"⟩
abbrev cX10_isSet : ByteArray := prog_1_method_52_code
def yX10_isSet : MethodName := ⟨RX10, "isSet", "(I)Z"⟩
abbrev cX10_isTape : ByteArray := prog_1_method_53_code
def yX10_isTape : MethodName := ⟨RX10, "isTape", "(I)Z"⟩
abbrev cX10_isRow : ByteArray := prog_1_method_54_code
def yX10_isRow : MethodName := ⟨RX10, "isRow", "(I)Z"⟩
abbrev cX10_isUnder : ByteArray := prog_1_method_55_code
def yX10_isUnder : MethodName := ⟨RX10, "isUnder", "(II)Z"⟩
abbrev cX10_clamped : ByteArray := prog_1_method_56_code
def yX10_clamped : MethodName := ⟨RX10, "clamped", "(I)I"⟩
abbrev cX10_cellOf : ByteArray := prog_1_method_57_code
def yX10_cellOf : MethodName := ⟨RX10, "cellOf", "(II)I"⟩
abbrev cX10_latitudeOf : ByteArray := prog_1_method_58_code
def yX10_latitudeOf : MethodName := ⟨RX10, "latitudeOf", "(II)I"⟩
abbrev cX10_addRow : ByteArray := prog_1_method_59_code
def yX10_addRow : MethodName := ⟨RX10, "addRow", "(III)LPoleLogs$Row;"⟩
abbrev cX10_addHeight : ByteArray := prog_1_method_60_code
def yX10_addHeight : MethodName := ⟨RX10, "addHeight", "(IIIII)I"⟩
abbrev cX10_sumOf : ByteArray := prog_1_method_61_code
def yX10_sumOf : MethodName := ⟨RX10, "sumOf", "([II)I"⟩
abbrev cX10_agrees : ByteArray := prog_1_method_62_code
def yX10_agrees : MethodName := ⟨RX10, "agrees", "(LPoleLogs$Row;II)Z"⟩
abbrev cX10_heightAgrees : ByteArray := prog_1_method_63_code
def yX10_heightAgrees : MethodName := ⟨RX10, "heightAgrees", "(LPoleLogs$Row;I)Z"⟩
abbrev cX10_pictureAgrees : ByteArray := prog_1_method_64_code
def yX10_pictureAgrees : MethodName := ⟨RX10, "pictureAgrees", "(LPoleLogs$Row;I)Z"⟩
abbrev cX10_driftNeededX : ByteArray := prog_1_method_65_code
def yX10_driftNeededX : MethodName := ⟨RX10, "driftNeededX", "(LPoleLogs$Log;)I"⟩
abbrev cX10_driftNeededY : ByteArray := prog_1_method_66_code
def yX10_driftNeededY : MethodName := ⟨RX10, "driftNeededY", "(LPoleLogs$Log;)I"⟩
abbrev cX10_quarrelBy : ByteArray := prog_1_method_67_code
def yX10_quarrelBy : MethodName := ⟨RX10, "quarrelBy", "(II)I"⟩
abbrev cX10_storyX : ByteArray := prog_1_method_68_code
def yX10_storyX : MethodName := ⟨RX10, "storyX", "(ILPoleLogs$Log;I)I"⟩
abbrev cX10_storyY : ByteArray := prog_1_method_69_code
def yX10_storyY : MethodName := ⟨RX10, "storyY", "(ILPoleLogs$Log;II)I"⟩
abbrev cX10_agreesInStory : ByteArray := prog_1_method_70_code
def yX10_agreesInStory : MethodName := ⟨RX10, "agreesInStory", "(LPoleLogs$Row;II)Z"⟩
abbrev cX10_falseRows : ByteArray := prog_1_method_71_code
def yX10_falseRows : MethodName := ⟨RX10, "falseRows", "(III)I"⟩
abbrev cX10_showingMisprint : ByteArray := prog_1_method_72_code
def yX10_showingMisprint : MethodName := ⟨RX10, "showingMisprint", "(I)I"⟩
abbrev cX10_madeAtHome : ByteArray := prog_1_method_73_code
def yX10_madeAtHome : MethodName := ⟨RX10, "madeAtHome", "(II)I"⟩
abbrev cX10_lawIn : ByteArray := prog_1_method_74_code
def yX10_lawIn : MethodName := ⟨RX10, "lawIn", "(II)LPoleLogs$Law;"⟩
abbrev cX10_tally : ByteArray := prog_1_method_75_code
def yX10_tally : MethodName := ⟨RX10, "tally", "(II[I)V"⟩
abbrev cX10_letterOf : ByteArray := prog_1_method_76_code
def yX10_letterOf : MethodName := ⟨RX10, "letterOf", "(I)I"⟩
def RX11 : String := "PoleLogsModel"
def TX11 : u_T := fun k => match k with
  | 0 => ("PoleLogsModel", "now", "I", false)
  | 1 => ("PoleLogsModel", "men", "I", false)
  | 2 => ("PoleLogsModel", "thousandth", "[I", true)
  | 3 => ("PoleLogsModel", "driftX", "[I", true)
  | 4 => ("PoleLogsModel", "driftY", "[I", true)
  | 5 => ("PoleLogsModel", "ridge", "[I", true)
  | 6 => ("PoleLogsModel", "turn", "[I", true)
  | 7 => ("PoleLogsModel", "sun", "[I", true)
  | 8 => ("PoleLogsModel", "strength", "[I", true)
  | 9 => ("PoleLogsModel", "skill", "[I", true)
  | 10 => ("PoleLogsModel", "partyOf", "[I", true)
  | 11 => ("PoleLogsModel", "dogsOf", "[I", true)
  | 12 => ("PoleLogsModel", "loadOf", "[I", true)
  | 13 => ("PoleLogsModel", "startX", "[I", true)
  | 14 => ("PoleLogsModel", "startY", "[I", true)
  | 15 => ("PoleLogsModel", "claimX", "[I", true)
  | 16 => ("PoleLogsModel", "claimY", "[I", true)
  | 17 => ("PoleLogsModel", "claimDay", "[I", true)
  | 18 => ("PoleLogsModel", "rows", "I", false)
  | 19 => ("PoleLogsModel", "kind", "[I", true)
  | 20 => ("PoleLogsModel", "log", "[I", true)
  | 21 => ("PoleLogsModel", "day", "[I", true)
  | 22 => ("PoleLogsModel", "year", "[I", true)
  | 23 => ("PoleLogsModel", "first", "[I", true)
  | 24 => ("PoleLogsModel", "second", "[I", true)
  | 25 => ("PoleLogsModel", "third", "[I", true)
  | 26 => ("PoleLogsModel", "fourth", "[I", true)
  | 27 => ("PoleLogsModel", "wayX", "[I", true)
  | 28 => ("PoleLogsModel", "wayY", "[I", true)
  | 29 => ("PoleLogsModel", "needX", "I", false)
  | 30 => ("PoleLogsModel", "needY", "I", false)
  | 31 => ("PoleLogsModel", "storyX", "I", false)
  | 32 => ("PoleLogsModel", "storyY", "I", false)
  | 33 => ("PoleLogsModel", "printed", "[I", true)
  | 34 => ("PoleLogsModel", "misprints", "I", false)
  | 35 => ("PoleLogsModel", "laws", "I", false)
  | 36 => ("PoleLogsModel", "fed", "I", false)
  | 37 => ("PoleLogsModel", "lawOf", "[I", true)
  | 38 => ("PoleLogsModel", "lawYear", "[I", true)
  | 39 => ("PoleLogsModel", "text", "[I", true)
  | 40 => ("PoleLogsModel", "size", "[I", true)
  | 41 => ("PoleLogsModel", "facts", "[I", true)
  | 42 => ("PoleLogsModel", "base", "I", false)
  | 43 => ("PoleLogsModel", "many", "I", false)
  | 44 => ("PoleLogsModel", "at", "I", false)
  | 45 => ("PoleLogsModel", "waits", "[I", true)
  | 46 => ("PoleLogsModel", "pile", "[Z", true)
  | 47 => ("PoleLogsModel", "waiting", "I", false)
  | 48 => ("PoleLogsModel", "piled", "I", false)
  | 49 => ("PoleLogsModel", "open", "I", false)
  | 50 => ("PoleLogsModel", "looks", "I", false)
  | 51 => ("PoleLogsModel", "answers", "[I", true)
  | 52 => ("PoleLogsModel", "worstOf", "[I", true)
  | 53 => ("PoleLogsModel", "ran", "I", false)
  | 54 => ("PoleLogsModel", "bodies", "[I", true)
  | 55 => ("PoleLogsModel", "sort", "[I", true)
  | 56 => ("PoleLogsModel", "length", "[I", true)
  | 57 => ("PoleLogsModel", "item", "[I", true)
  | _ => ("PoleLogsModel", "aside", "[I", true)
def tyX11 : Nat → FieldType := fun k => match k with
  | 0 => .int
  | 1 => .int
  | 2 => .array .int
  | 3 => .array .int
  | 4 => .array .int
  | 5 => .array .int
  | 6 => .array .int
  | 7 => .array .int
  | 8 => .array .int
  | 9 => .array .int
  | 10 => .array .int
  | 11 => .array .int
  | 12 => .array .int
  | 13 => .array .int
  | 14 => .array .int
  | 15 => .array .int
  | 16 => .array .int
  | 17 => .array .int
  | 18 => .int
  | 19 => .array .int
  | 20 => .array .int
  | 21 => .array .int
  | 22 => .array .int
  | 23 => .array .int
  | 24 => .array .int
  | 25 => .array .int
  | 26 => .array .int
  | 27 => .array .int
  | 28 => .array .int
  | 29 => .int
  | 30 => .int
  | 31 => .int
  | 32 => .int
  | 33 => .array .int
  | 34 => .int
  | 35 => .int
  | 36 => .int
  | 37 => .array .int
  | 38 => .array .int
  | 39 => .array .int
  | 40 => .array .int
  | 41 => .array .int
  | 42 => .int
  | 43 => .int
  | 44 => .int
  | 45 => .array .int
  | 46 => .array .boolean
  | 47 => .int
  | 48 => .int
  | 49 => .int
  | 50 => .int
  | 51 => .array .int
  | 52 => .array .int
  | 53 => .int
  | 54 => .array .int
  | 55 => .array .int
  | 56 => .array .int
  | 57 => .array .int
  | _ => .array .int
theorem nmX11 : ∀ a, a < 59 → ∀ b, b < 59 → a ≠ b → (TX11 a).2.1 ≠ (TX11 b).2.1 := by decide +kernel
theorem tyX11_ok : ∀ k, k < 59 → parseFieldDescriptor (TX11 k).2.2.1 = some (tyX11 k) := by decide +kernel
abbrev cX11_in : ByteArray := prog_13_method_1_code
def yX11_in : MethodName := ⟨RX11, "in", "(III)Z"⟩
abbrev cX11_abs : ByteArray := prog_13_method_2_code
def yX11_abs : MethodName := ⟨RX11, "abs", "(I)I"⟩
abbrev cX11_keep : ByteArray := prog_13_method_3_code
def yX11_keep : MethodName := ⟨RX11, "keep", "(I)I"⟩
abbrev cX11_isLog : ByteArray := prog_13_method_4_code
def yX11_isLog : MethodName := ⟨RX11, "isLog", "(I)Z"⟩
abbrev cX11_isDay : ByteArray := prog_13_method_5_code
def yX11_isDay : MethodName := ⟨RX11, "isDay", "(I)Z"⟩
abbrev cX11_isYear : ByteArray := prog_13_method_6_code
def yX11_isYear : MethodName := ⟨RX11, "isYear", "(I)Z"⟩
abbrev cX11_isPlace : ByteArray := prog_13_method_7_code
def yX11_isPlace : MethodName := ⟨RX11, "isPlace", "(II)Z"⟩
abbrev cX11_cellOf : ByteArray := prog_13_method_8_code
def yX11_cellOf : MethodName := ⟨RX11, "cellOf", "(II)I"⟩
abbrev cX11_pass : ByteArray := prog_13_method_9_code
def yX11_pass : MethodName := ⟨RX11, "pass", "(I)I"⟩
abbrev cX11_drift : ByteArray := prog_13_method_10_code
def yX11_drift : MethodName := ⟨RX11, "drift", "(III)I"⟩
abbrev cX11_ice : ByteArray := prog_13_method_11_code
def yX11_ice : MethodName := ⟨RX11, "ice", "(III)I"⟩
abbrev cX11_sun : ByteArray := prog_13_method_12_code
def yX11_sun : MethodName := ⟨RX11, "sun", "(II)I"⟩
abbrev cX11_man : ByteArray := prog_13_method_13_code
def yX11_man : MethodName := ⟨RX11, "man", "(II)I"⟩
abbrev cX11_party : ByteArray := prog_13_method_14_code
def yX11_party : MethodName := ⟨RX11, "party", "(IIII)I"⟩
abbrev cX11_start : ByteArray := prog_13_method_15_code
def yX11_start : MethodName := ⟨RX11, "start", "(III)I"⟩
abbrev cX11_claim : ByteArray := prog_13_method_16_code
def yX11_claim : MethodName := ⟨RX11, "claim", "(IIII)I"⟩
abbrev cX11_isRow : ByteArray := prog_13_method_17_code
def yX11_isRow : MethodName := ⟨RX11, "isRow", "(I)Z"⟩
abbrev cX11_add : ByteArray := prog_13_method_18_code
def yX11_add : MethodName := ⟨RX11, "add", "(IIIIIII)I"⟩
abbrev cX11_marchOf : ByteArray := prog_13_method_19_code
def yX11_marchOf : MethodName := ⟨RX11, "marchOf", "(III)I"⟩
abbrev cX11_march : ByteArray := prog_13_method_20_code
def yX11_march : MethodName := ⟨RX11, "march", "(IIIII)I"⟩
abbrev cX11_height : ByteArray := prog_13_method_21_code
def yX11_height : MethodName := ⟨RX11, "height", "(IIIIZ)I"⟩
abbrev cX11_compass : ByteArray := prog_13_method_22_code
def yX11_compass : MethodName := ⟨RX11, "compass", "(III)I"⟩
abbrev cX11_picture : ByteArray := prog_13_method_23_code
def yX11_picture : MethodName := ⟨RX11, "picture", "(IIIII)I"⟩
abbrev cX11_word : ByteArray := prog_13_method_24_code
def yX11_word : MethodName := ⟨RX11, "word", "(IIIIII)I"⟩
abbrev cX11_torn : ByteArray := prog_13_method_25_code
def yX11_torn : MethodName := ⟨RX11, "torn", "(IIIIII)I"⟩
abbrev cX11_of : ByteArray := prog_13_method_26_code
def yX11_of : MethodName := ⟨RX11, "of", "(II)I"⟩
abbrev cX11_findWay : ByteArray := prog_13_method_27_code
def yX11_findWay : MethodName := ⟨RX11, "findWay", "(II)V"⟩
abbrev cX11_place : ByteArray := prog_13_method_28_code
def yX11_place : MethodName := ⟨RX11, "place", "(III)I"⟩
abbrev cX11_canGo : ByteArray := prog_13_method_29_code
def yX11_canGo : MethodName := ⟨RX11, "canGo", "(II)I"⟩
abbrev cX11_can : ByteArray := prog_13_method_30_code
def yX11_can : MethodName := ⟨RX11, "can", "(II)I"⟩
abbrev cX11_beyondBy : ByteArray := prog_13_method_31_code
def yX11_beyondBy : MethodName := ⟨RX11, "beyondBy", "(I)I"⟩
abbrev cX11_beyond : ByteArray := prog_13_method_32_code
def yX11_beyond : MethodName := ⟨RX11, "beyond", "(II)I"⟩
abbrev cX11_latitudeOf : ByteArray := prog_13_method_33_code
def yX11_latitudeOf : MethodName := ⟨RX11, "latitudeOf", "(II)I"⟩
abbrev cX11_latitude : ByteArray := prog_13_method_34_code
def yX11_latitude : MethodName := ⟨RX11, "latitude", "(II)I"⟩
abbrev cX11_isHeight : ByteArray := prog_13_method_35_code
def yX11_isHeight : MethodName := ⟨RX11, "isHeight", "(I)Z"⟩
abbrev cX11_middle : ByteArray := prog_13_method_36_code
def yX11_middle : MethodName := ⟨RX11, "middle", "(I)I"⟩
abbrev cX11_isFit : ByteArray := prog_13_method_37_code
def yX11_isFit : MethodName := ⟨RX11, "isFit", "(IIII)Z"⟩
abbrev cX11_fits : ByteArray := prog_13_method_38_code
def yX11_fits : MethodName := ⟨RX11, "fits", "(III)I"⟩
abbrev cX11_quarrelOf : ByteArray := prog_13_method_39_code
def yX11_quarrelOf : MethodName := ⟨RX11, "quarrelOf", "(II)I"⟩
abbrev cX11_quarrel : ByteArray := prog_13_method_40_code
def yX11_quarrel : MethodName := ⟨RX11, "quarrel", "(I)I"⟩
abbrev cX11_home : ByteArray := prog_13_method_41_code
def yX11_home : MethodName := ⟨RX11, "home", "(I)I"⟩
abbrev cX11_down : ByteArray := prog_13_method_42_code
def yX11_down : MethodName := ⟨RX11, "down", "(II)I"⟩
abbrev cX11_findNeeds : ByteArray := prog_13_method_43_code
def yX11_findNeeds : MethodName := ⟨RX11, "findNeeds", "(I)V"⟩
abbrev cX11_needs : ByteArray := prog_13_method_44_code
def yX11_needs : MethodName := ⟨RX11, "needs", "(II)I"⟩
abbrev cX11_held : ByteArray := prog_13_method_45_code
def yX11_held : MethodName := ⟨RX11, "held", "(III)I"⟩
abbrev cX11_tellStory : ByteArray := prog_13_method_46_code
def yX11_tellStory : MethodName := ⟨RX11, "tellStory", "(IIII)V"⟩
abbrev cX11_falsesOf : ByteArray := prog_13_method_47_code
def yX11_falsesOf : MethodName := ⟨RX11, "falsesOf", "(IIII)I"⟩
abbrev cX11_falses : ByteArray := prog_13_method_48_code
def yX11_falses : MethodName := ⟨RX11, "falses", "(IIII)I"⟩
abbrev cX11_least : ByteArray := prog_13_method_49_code
def yX11_least : MethodName := ⟨RX11, "least", "(III)I"⟩
abbrev cX11_init : ByteArray := prog_13_method_50_code
def yX11_init : MethodName := ⟨RX11, "<init>", "()V"⟩
abbrev cX11_misprint : ByteArray := prog_13_method_51_code
def yX11_misprint : MethodName := ⟨RX11, "misprint", "(II)I"⟩
abbrev cX11_madeOf : ByteArray := prog_13_method_52_code
def yX11_madeOf : MethodName := ⟨RX11, "madeOf", "(III)I"⟩
abbrev cX11_made : ByteArray := prog_13_method_53_code
def yX11_made : MethodName := ⟨RX11, "made", "(II)I"⟩
abbrev cX11_feed : ByteArray := prog_13_method_54_code
def yX11_feed : MethodName := ⟨RX11, "feed", "(II)I"⟩
abbrev cX11_byteAt : ByteArray := prog_13_method_55_code
def yX11_byteAt : MethodName := ⟨RX11, "byteAt", "()I"⟩
abbrev cX11_isDigit : ByteArray := prog_13_method_56_code
def yX11_isDigit : MethodName := ⟨RX11, "isDigit", "()Z"⟩
abbrev cX11_push : ByteArray := prog_13_method_57_code
def yX11_push : MethodName := ⟨RX11, "push", "(Z)V"⟩
abbrev cX11_settle : ByteArray := prog_13_method_58_code
def yX11_settle : MethodName := ⟨RX11, "settle", "(I)V"⟩
abbrev cX11_factOf : ByteArray := prog_13_method_59_code
def yX11_factOf : MethodName := ⟨RX11, "factOf", "(I)I"⟩
abbrev cX11_takesTest : ByteArray := prog_13_method_60_code
def yX11_takesTest : MethodName := ⟨RX11, "takesTest", "()Z"⟩
abbrev cX11_goes : ByteArray := prog_13_method_61_code
def yX11_goes : MethodName := ⟨RX11, "goes", "(I)Z"⟩
abbrev cX11_law : ByteArray := prog_13_method_62_code
def yX11_law : MethodName := ⟨RX11, "law", "(II)I"⟩
abbrev cX11_fitting : ByteArray := prog_13_method_63_code
def yX11_fitting : MethodName := ⟨RX11, "fitting", "(III)I"⟩
abbrev cX11_findFacts : ByteArray := prog_13_method_64_code
def yX11_findFacts : MethodName := ⟨RX11, "findFacts", "(II)V"⟩
abbrev cX11_says : ByteArray := prog_13_method_65_code
def yX11_says : MethodName := ⟨RX11, "says", "(III)I"⟩
abbrev cX11_look : ByteArray := prog_13_method_66_code
def yX11_look : MethodName := ⟨RX11, "look", "(I)I"⟩
abbrev cX11_partBy : ByteArray := prog_13_method_67_code
def yX11_partBy : MethodName := ⟨RX11, "partBy", "(III)I"⟩
abbrev cX11_ones : ByteArray := prog_13_method_68_code
def yX11_ones : MethodName := ⟨RX11, "ones", "(I)I"⟩
abbrev cX11_worthOf : ByteArray := prog_13_method_69_code
def yX11_worthOf : MethodName := ⟨RX11, "worthOf", "(II)I"⟩
abbrev cX11_isSet : ByteArray := prog_13_method_70_code
def yX11_isSet : MethodName := ⟨RX11, "isSet", "(I)Z"⟩
abbrev cX11_worth : ByteArray := prog_13_method_71_code
def yX11_worth : MethodName := ⟨RX11, "worth", "(II)I"⟩
abbrev cX11_next : ByteArray := prog_13_method_72_code
def yX11_next : MethodName := ⟨RX11, "next", "(I)I"⟩
abbrev cX11_worst : ByteArray := prog_13_method_73_code
def yX11_worst : MethodName := ⟨RX11, "worst", "(II)I"⟩
abbrev cX11_body : ByteArray := prog_13_method_74_code
def yX11_body : MethodName := ⟨RX11, "body", "(I)V"⟩
abbrev cX11_plainFits : ByteArray := prog_13_method_75_code
def yX11_plainFits : MethodName := ⟨RX11, "plainFits", "(II)I"⟩
abbrev cX11_heightFits : ByteArray := prog_13_method_76_code
def yX11_heightFits : MethodName := ⟨RX11, "heightFits", "(II)I"⟩
abbrev cX11_fitsOf : ByteArray := prog_13_method_77_code
def yX11_fitsOf : MethodName := ⟨RX11, "fitsOf", "(II)I"⟩
abbrev cX11_plainHangs : ByteArray := prog_13_method_78_code
def yX11_plainHangs : MethodName := ⟨RX11, "plainHangs", "(II)I"⟩
abbrev cX11_hangsOf : ByteArray := prog_13_method_79_code
def yX11_hangsOf : MethodName := ⟨RX11, "hangsOf", "(II)I"⟩
abbrev cX11_plainShows : ByteArray := prog_13_method_80_code
def yX11_plainShows : MethodName := ⟨RX11, "plainShows", "(II)I"⟩
abbrev cX11_heightShows : ByteArray := prog_13_method_81_code
def yX11_heightShows : MethodName := ⟨RX11, "heightShows", "(II)I"⟩
abbrev cX11_showsOf : ByteArray := prog_13_method_82_code
def yX11_showsOf : MethodName := ⟨RX11, "showsOf", "(II)I"⟩
abbrev cX11_act : ByteArray := prog_13_method_83_code
def yX11_act : MethodName := ⟨RX11, "act", "(III)I"⟩
abbrev cX11_trace : ByteArray := prog_13_method_84_code
def yX11_trace : MethodName := ⟨RX11, "trace", "(I)I"⟩
abbrev cX11_taken : ByteArray := prog_13_method_85_code
def yX11_taken : MethodName := ⟨RX11, "taken", "(II)I"⟩
abbrev cX11_count : ByteArray := prog_13_method_86_code
def yX11_count : MethodName := ⟨RX11, "count", "(I)I"⟩
abbrev cX11_isTape : ByteArray := prog_13_method_87_code
def yX11_isTape : MethodName := ⟨RX11, "isTape", "(I)Z"⟩
abbrev cX11_tape : ByteArray := prog_13_method_88_code
def yX11_tape : MethodName := ⟨RX11, "tape", "(III)I"⟩
abbrev cX11_item : ByteArray := prog_13_method_89_code
def yX11_item : MethodName := ⟨RX11, "item", "(III)I"⟩
abbrev cX11_read : ByteArray := prog_13_method_90_code
def yX11_read : MethodName := ⟨RX11, "read", "(II)I"⟩
abbrev cX11_shift : ByteArray := prog_13_method_91_code
def yX11_shift : MethodName := ⟨RX11, "shift", "(IIIII)I"⟩
def RJx8e188 : String := "java/lang/Cloneable"
def RJ6 : String := "java/lang/Integer"
abbrev cJ6_compare_7cf53 : ByteArray := prog_15_method_40_code
def yJ6_compare_7cf53 : MethodName := ⟨RJ6, "compare", "(II)I"⟩
abbrev cJ6_bitCount_0f7a4 : ByteArray := prog_15_method_49_code
def yJ6_bitCount_0f7a4 : MethodName := ⟨RJ6, "bitCount", "(I)I"⟩
def RJ9 : String := "java/lang/Math"
abbrev cJ9_floorDiv_7cf53 : ByteArray := prog_16_method_47_code
def yJ9_floorDiv_7cf53 : MethodName := ⟨RJ9, "floorDiv", "(II)I"⟩
abbrev cJ9_abs_0f7a4 : ByteArray := prog_16_method_59_code
def yJ9_abs_0f7a4 : MethodName := ⟨RJ9, "abs", "(I)I"⟩
abbrev cJ9_max_7cf53 : ByteArray := prog_16_method_65_code
def yJ9_max_7cf53 : MethodName := ⟨RJ9, "max", "(II)I"⟩
abbrev cJ9_min_7cf53 : ByteArray := prog_16_method_69_code
def yJ9_min_7cf53 : MethodName := ⟨RJ9, "min", "(II)I"⟩
def RJ10 : String := "java/lang/System"
def RJ7 : String := "java/util/Arrays"
abbrev cJ7_fill_53178 : ByteArray := prog_18_method_103_code
def yJ7_fill_53178 : MethodName := ⟨RJ7, "fill", "([II)V"⟩
abbrev cJ7_copyOf_59c91 : ByteArray := prog_18_method_123_code
def yJ7_copyOf_59c91 : MethodName := ⟨RJ7, "copyOf", "([II)[I"⟩
def RL : String := "PoleLogsLaw"
abbrev cL_law : ByteArray := code
def yL_law : MethodName := ⟨RL, "law", "([I)Z"⟩
abbrev vwCl : List vw_C := [(RX0, TX0, 2), (RX1, TX1, 2), (RX2, TX2, 4), (RX3, TX3, 3), (RX4, TX4, 10), (RX5, TX5, 3), (RX6, TX6, 5), (RX7, TX7, 9), (RX8, TX8, 3), (RX9, TX9, 5), (RX10, TX10, 18), (RX11, TX11, 59)]
end
section
/-! THE PURE MACHINE: cells by keys, runs of blocks, calls by numbers. What it answers, the machine does (part 05). -/
/-- ints (tag, length, contents); references (tag, length, contents); an object (class, fields): references are keys -/
abbrev PE : Type := (Nat × Nat × (Nat → Int32)) ⊕ ((Nat × Nat × (Nat → Option Nat)) ⊕ (Nat × List Value))
/-- the cells, how many of each kind were made, the keys as they were made, the slots made -/
abbrev PH : Type := (Nat → Option PE) × (Nat → Nat) × List Nat × Nat
abbrev PL : Type := List (Option Value)
abbrev PR : Type := Option (Option Value × PH)
/-- an instruction: pc, length, kind, a, b, x, v, ts -/
abbrev PI : Type := Nat × Nat × Nat × Nat × Nat × Nat × Int32 × List Nat
/-- arrays that nobody writes, by key (30000 on): tag, length, contents -/
abbrev RO : Type := Nat → Option (Nat × Nat × (Nat → Int32))
def ph_put (h : PH) (k : Nat) (e : PE) : PH := (va_up h.1 k (some e), h.2)
def ph_add (h : PH) (k kind n : Nat) (e : PE) : PH := (va_up h.1 k (some e), va_up h.2.1 kind (h.2.1 kind + 1), h.2.2.1 ++ [k], h.2.2.2 + n)
def gI (h : PH) (k ci j : Nat) (K : Int32 → PR) : PR := match h.1 k with
  | some (.inr (.inr (c, fs))) => if c = ci then (match fs[j]? with | some (.int x) => K x | _ => none) else none
  | _ => none
def gR (h : PH) (k ci j : Nat) (N : PR) (K : Nat → PR) : PR := match h.1 k with
  | some (.inr (.inr (c, fs))) => if c = ci then (match fs[j]? with | some (.ref q) => K q | some .null => N | _ => none) else none
  | _ => none
def pF (h : PH) (k ci j : Nat) (v : Value) (K : PH → PR) : PR := match h.1 k with
  | some (.inr (.inr (c, fs))) => if c = ci ∧ j < fs.length then K (ph_put h k (.inr (.inr (c, fs.set j v)))) else none
  | _ => none
def arr (ro : RO) (h : PH) (k : Nat) : Option (Nat × Nat × (Nat → Int32)) := if 30000 ≤ k then ro k else match h.1 k with
  | some (.inl x) => some x
  | _ => none
def aI (ro : RO) (h : PH) (k tg : Nat) (i : Int32) (K : Int32 → PR) : PR := match arr ro h k with
  | some (t, n, f) => if t = tg ∧ ¬ (i < 0 ∨ n ≤ i.toNatClampNeg) then K (f i.toNatClampNeg) else none
  | none => none
def aR (h : PH) (k : Nat) (i : Int32) (N : PR) (K : Nat → PR) : PR := match h.1 k with
  | some (.inr (.inl (_, n, g))) => if ¬ (i < 0 ∨ n ≤ i.toNatClampNeg) then (match g i.toNatClampNeg with | none => N | some q => K q) else none
  | _ => none
def aL (ro : RO) (h : PH) (k : Nat) (K : Int32 → PR) : PR := match arr ro h k with
  | some (_, n, _) => K (Int32.ofNat n)
  | none => none
def sI (h : PH) (k tg : Nat) (i v : Int32) (K : PH → PR) : PR := match h.1 k with
  | some (.inl (t, n, f)) => if t = tg ∧ ¬ (i < 0 ∨ n ≤ i.toNatClampNeg) then K (ph_put h k (.inl (t, n, upd f i.toNatClampNeg v))) else none
  | _ => none
def sR (h : PH) (k : Nat) (i : Int32) (q : Nat) (K : PH → PR) : PR := match h.1 k, h.1 q with
  | some (.inr (.inl (t, n, g))), some (.inr (.inr (c, _))) => if t = 10 + c ∧ ¬ (i < 0 ∨ n ≤ i.toNatClampNeg) then K (ph_put h k (.inr (.inl (t, n, va_up g i.toNatClampNeg (some q))))) else none
  | _, _ => none
def nO (h : PH) (ci N : Nat) (fs : List Value) (K : Nat → PH → PR) : PR :=
  if (h.1 (1000 * ci + h.2.1 ci)).isNone ∧ 1000 * ci + h.2.1 ci < 20000 then K (1000 * ci + h.2.1 ci) (ph_add h (1000 * ci + h.2.1 ci) ci N (.inr (.inr (ci, fs)))) else none
def nA (h : PH) (tg : Nat) (n : Int32) (f : Nat → Int32) (K : Nat → PH → PR) : PR :=
  if (h.1 (20000 + h.2.1 20)).isNone ∧ 20000 + h.2.1 20 < 30000 ∧ ¬ n < 0 ∧ n.toNatClampNeg ≤ 100000 then K (20000 + h.2.1 20) (ph_add h (20000 + h.2.1 20) 20 n.toNatClampNeg (.inl (tg, n.toNatClampNeg, f))) else none
def nQ (h : PH) (tg : Nat) (n : Int32) (K : Nat → PH → PR) : PR :=
  if (h.1 (20000 + h.2.1 20)).isNone ∧ 20000 + h.2.1 20 < 30000 ∧ ¬ n < 0 ∧ n.toNatClampNeg ≤ 100000 then K (20000 + h.2.1 20) (ph_add h (20000 + h.2.1 20) 20 n.toNatClampNeg (.inr (.inl (tg, n.toNatClampNeg, fun _ => none)))) else none
/-- System.arraycopy of ints -/
def cpA (h : PH) (k : Nat) (sp : Int32) (q : Nat) (dp n : Int32) (K : PH → PR) : PR := match h.1 k, h.1 q with
  | some (.inl (t0, n0, f)), some (.inl (t1, n1, g)) => if t0 = 0 ∧ t1 = 0 ∧ ¬ sp < 0 ∧ ¬ dp < 0 ∧ ¬ n < 0 ∧ sp.toNatClampNeg + n.toNatClampNeg ≤ n0 ∧ dp.toNatClampNeg + n.toNatClampNeg ≤ n1 then K (ph_put h q (.inl (t1, n1, va_cpy f g sp.toNatClampNeg dp.toNatClampNeg n.toNatClampNeg))) else none
  | _, _ => none
/-- clone of an array of ints -/
def clA (h : PH) (k : Nat) (K : Nat → PH → PR) : PR := match h.1 k with
  | some (.inl (t, n, f)) => if t = 0 ∧ (h.1 (20000 + h.2.1 20)).isNone ∧ 20000 + h.2.1 20 < 30000 then K (20000 + h.2.1 20) (ph_add h (20000 + h.2.1 20) 20 n (.inl (t, n, f))) else none
  | _ => none
def isA (h : PH) (k : Nat) : Bool := match h.1 k with
  | some (.inl (t, _, _)) => t == 0
  | _ => false
def isO (h : PH) (v : Option Value) (ci : Nat) : Bool := match v with
  | some (.ref k) => (match h.1 k with | some (.inr (.inr (c, _))) => c == ci | _ => false)
  | _ => false
def cI (r : PR) (K : Int32 → PH → PR) : PR := match r with
  | some (some (.int x), h) => K x h
  | _ => none
def cV (r : PR) (K : PH → PR) : PR := match r with
  | some (none, h) => K h
  | _ => none
def cR (r : PR) (N : PH → PR) (K : Nat → PH → PR) : PR := match r with
  | some (some (.ref k), h) => K k h
  | some (some .null, h) => N h
  | _ => none
def bop (a : Nat) (x y : Int32) : Int32 := match a with
  | 0 => x + y
  | 1 => x - y
  | 2 => x * y
  | 3 => x &&& y
  | 4 => x ||| y
  | 5 => x ^^^ y
  | 6 => x <<< (y &&& 31)
  | 7 => x >>> (y &&& 31)
  | _ => (x.toUInt32 >>> (y.toUInt32 &&& Int32.toUInt32 31)).toInt32
def uop (a : Nat) (x : Int32) : Int32 := match a with
  | 0 => -x
  | 1 => x.toInt8.toInt32
  | _ => x.toInt16.toInt32
/-- a comparison: 0 = , 1 ≠ , 2 < , 3 ≥ , 4 > , 5 ≤ -/
def cnd (a : Nat) (x y : Int32) (T F : PR) : PR := match a with
  | 0 => if x = y then T else F
  | 1 => if x = y then F else T
  | 2 => if x < y then T else F
  | 3 => if x < y then F else T
  | 4 => if y < x then T else F
  | _ => if y < x then F else T
def swt (F : Nat → PR) (b : Nat) (y : Int32) : List Nat → Int32 → PR
  | [], _ => F b
  | t :: ts, v => if y = v then F t else swt F b y ts (v + 1)
def swl (F : Nat → PR) (b : Nat) (y : Int32) : List Nat → PR
  | k :: t :: ts => if y = Int32.ofNat k then F t else swl F b y ts
  | _ => F b
/-- the fields of a class, as they are at first -/
def clN : Nat → Nat := fun ci => (vwCl.getD ci ("", TX0, 0)).2.2
def clT : Nat → Nat → FieldType
  | 0 => tyX0 | 1 => tyX1 | 2 => tyX2 | 3 => tyX3 | 4 => tyX4 | 5 => tyX5 | 6 => tyX6 | 7 => tyX7 | 8 => tyX8 | 9 => tyX9 | 10 => tyX10 | _ => tyX11
def dfl (ci : Nat) : List Value := (List.range (clN ci)).map (fun j => defaultValue (clT ci j))
def step (ro : RO) (J : Nat → PL → List Value → PH → PR) (C : Nat → List Value → PH → PR) (i : PI) (lv : PL) (st : List Value) (h : PH) (K : PL → List Value → PH → PR) : PR :=
  match i with
  | (_, _, op, a, b, x, v, ts) => match op with
    | 0 => K lv (.int v :: st) h
    | 1 => (match lv[a]? with | some (some (.int y)) => K lv (.int y :: st) h | _ => none)
    | 2 => (match lv[a]? with | some (some (.ref q)) => K lv (.ref q :: st) h | some (some .null) => K lv (.null :: st) h | _ => none)
    | 3 => (match st with | .int y :: st => K (lv.set a (some (.int y))) st h | _ => none)
    | 4 => (match st with | .ref q :: st => K (lv.set a (some (.ref q))) st h | .null :: st => K (lv.set a (some .null)) st h | _ => none)
    | 5 => (match lv[a]? with | some (some (.int y)) => K (lv.set a (some (.int (y + v)))) st h | _ => none)
    | 6 => (match st with | .int y :: .int z :: st => K lv (.int (bop a z y) :: st) h | _ => none)
    | 7 => (match st with | .int y :: .int z :: st => if y = 0 then none else K lv (.int (z / y) :: st) h | _ => none)
    | 8 => (match st with | .int y :: .int z :: st => if y = 0 then none else K lv (.int (z - z / y * y) :: st) h | _ => none)
    | 9 => (match st with | .int z :: st => K lv (.int (uop a z) :: st) h | _ => none)
    | 10 => (match st with | .int z :: st => cnd a z 0 (J b lv st h) (K lv st h) | _ => none)
    | 11 => (match st with | .int y :: .int z :: st => cnd a z y (J b lv st h) (K lv st h) | _ => none)
    | 12 => (match st with | .ref _ :: st => K lv st h | .null :: st => J b lv st h | _ => none)
    | 13 => (match st with | .ref _ :: st => J b lv st h | .null :: st => K lv st h | _ => none)
    | 14 => J b lv st h
    | 15 => (match st with | .int y :: st => swt (fun t => J t lv st h) b y ts v | _ => none)
    | 16 => (match st with | .int y :: st => swl (fun t => J t lv st h) b y ts | _ => none)
    | 17 => (match st with | .ref k :: st => gI h k a b (fun y => K lv (.int y :: st) h) | _ => none)
    | 18 => (match st with | .ref k :: st => gR h k a b (K lv (.null :: st) h) (fun q => K lv (.ref q :: st) h) | _ => none)
    | 19 => (match st with | .int y :: .ref k :: st => pF h k a b (.int y) (fun h => K lv st h) | _ => none)
    | 20 => (match st with | .int y :: .ref k :: st => if y = 0 ∨ y = 1 then pF h k a b (.int y) (fun h => K lv st h) else none | _ => none)
    | 21 => (match st with | .ref q :: .ref k :: st => pF h k a b (.ref q) (fun h => K lv st h) | _ => none)
    | 22 => (match st with | .int y :: .ref k :: st => aI ro h k a y (fun z => K lv (.int z :: st) h) | _ => none)
    | 23 => (match st with | .int y :: .ref k :: st => aR h k y (K lv (.null :: st) h) (fun q => K lv (.ref q :: st) h) | _ => none)
    | 24 => (match st with | .int z :: .int y :: .ref k :: st => sI h k 0 y z (fun h => K lv st h) | _ => none)
    | 25 => (match st with | .int z :: .int y :: .ref k :: st => sI h k 1 y (vp_nar .boolean z) (fun h => K lv st h) | _ => none)
    | 26 => (match st with | .ref q :: .int y :: .ref k :: st => sR h k y q (fun h => K lv st h) | _ => none)
    | 27 => (match st with | .ref k :: st => aL ro h k (fun z => K lv (.int z :: st) h) | _ => none)
    | 28 => K lv (.ref (30000 + a) :: st) h
    | 29 => nO h a (clN a) (dfl a) (fun k h => K lv (.ref k :: st) h)
    | 30 => (match st with | .int y :: st => nA h a y (fun _ => 0) (fun k h => K lv (.ref k :: st) h) | _ => none)
    | 31 => (match st with | .int y :: st => nQ h a y (fun k h => K lv (.ref k :: st) h) | _ => none)
    | 32 => (match st with | y :: st => if y.category = 1 then K lv (y :: y :: st) h else none | _ => none)
    | 33 => (match st with | y :: z :: st => if y.category = 1 ∧ z.category = 1 then K lv (y :: z :: y :: z :: st) h else none | _ => none)
    | 34 => (match st with | y :: st => if y.category = 1 then K lv st h else none | _ => none)
    | 35 => if b ≤ st.length ∧ st.length ≤ b + 4 ∧ (x = 0 ∨ isO h ((st.take b).reverse)[0]? (x - 1)) then cI (C a (st.take b).reverse h) (fun y h => K lv (.int y :: st.drop b) h) else none
    | 36 => if b ≤ st.length ∧ st.length ≤ b + 4 ∧ (x = 0 ∨ isO h ((st.take b).reverse)[0]? (x - 1)) then cV (C a (st.take b).reverse h) (fun h => K lv (st.drop b) h) else none
    | 37 => if b ≤ st.length ∧ st.length ≤ b + 4 ∧ (x = 0 ∨ isO h ((st.take b).reverse)[0]? (x - 1)) then cR (C a (st.take b).reverse h) (fun h => K lv (.null :: st.drop b) h) (fun q h => K lv (.ref q :: st.drop b) h) else none
    | 38 => (match st with | [] => some (none, h) | _ => none)
    | 39 => (match st with | [.int y] => some (some (.int y), h) | _ => none)
    | 40 => (match st with | [.int y] => if y = 0 ∨ y = 1 then some (some (.int y), h) else none | _ => none)
    | 41 => (match st with | [.ref q] => some (some (.ref q), h) | [.null] => some (some .null, h) | _ => none)
    | 42 => K lv (.null :: st) h
    | 43 => (match st with | .ref _ :: st => if st.length ≤ 4 then K lv st h else none | _ => none)
    | 44 => (match st with | .int n :: .int dp :: .ref q :: .int sp :: .ref k :: st => if st.length ≤ 4 then cpA h k sp q dp n (fun h => K lv st h) else none | _ => none)
    | 45 => J b lv st h
    | 46 => (match st with | .ref k :: st => if st.length ≤ 4 then clA h k (fun q h => K lv (.ref q :: st) h) else none | _ => none)
    | 47 => (match st with | .ref k :: st => if isA h k then K lv (.ref k :: st) h else none | _ => none)
    | _ => none
def run (ro : RO) (J : Nat → PL → List Value → PH → PR) (C : Nat → List Value → PH → PR) : List PI → PL → List Value → PH → PR
  | [], _, _, _ => none
  | i :: is, lv, st, h => step ro J C i lv st h (run ro J C is)
def pget : List (Nat × List PI) → Nat → List PI
  | [], _ => []
  | (k, b) :: r, t => if k = t then b else pget r t
def EXn (ro : RO) (B : List (Nat × List PI)) (C : Nat → List Value → PH → PR) : Nat → Nat → PL → List Value → PH → PR
  | 0 => fun _ _ _ _ => none
  | n + 1 => fun t lv st h => run ro (EXn ro B C n) C (pget B t) lv st h
def entry (nL : Nat) (as : List Value) : PL := as.map some ++ List.replicate (nL - as.length) none
/-- a call at most d deep; F: how many blocks a method may run through -/
def CALL (ro : RO) (P : Nat → List (Nat × List PI)) (mL : Nat → Nat) (F : Nat) : Nat → Nat → List Value → PH → PR
  | 0 => fun _ _ _ => none
  | d + 1 => fun M as h => if as.length ≤ mL M then EXn ro (P M) (CALL ro P mL F d) F 0 (entry (mL M) as) [] h else none
/-! what is made stays made -/
def PLe (h h' : PH) : Prop := h.2.2.1 <+: h'.2.2.1 ∧ h.2.2.2 ≤ h'.2.2.2
theorem PLe.rf (h : PH) : PLe h h := ⟨List.prefix_refl _, Nat.le_refl _⟩
theorem PLe.tr {a b c : PH} (h1 : PLe a b) (h2 : PLe b c) : PLe a c := ⟨h1.1.trans h2.1, Nat.le_trans h1.2 h2.2⟩
theorem PLe.put (h : PH) (k : Nat) (e : PE) : PLe h (ph_put h k e) := PLe.rf h
theorem PLe.add (h : PH) (k kind n : Nat) (e : PE) : PLe h (ph_add h k kind n e) := ⟨List.prefix_append _ _, Nat.le_add_right _ _⟩
end
section
/-! what an answer of a piece of the pure machine says -/
section PINV
variable {ro : RO} {h : PH} {r : Option Value × PH}
theorem gI_inv {k ci j : Nat} {K : Int32 → PR} (e : gI h k ci j K = some r) : ∃ fs x, h.1 k = some (.inr (.inr (ci, fs))) ∧ fs[j]? = some (.int x) ∧ K x = some r := by
  unfold gI at e
  split at e
  · rename_i c fs hk
    split at e
    · rename_i hc
      subst hc
      split at e
      · rename_i x hx
        exact ⟨fs, x, hk, hx, e⟩
      · cases e
    · cases e
  · cases e
theorem gR_inv {k ci j : Nat} {N : PR} {K : Nat → PR} (e : gR h k ci j N K = some r) : ∃ fs, h.1 k = some (.inr (.inr (ci, fs))) ∧ ((∃ q, fs[j]? = some (.ref q) ∧ K q = some r) ∨ (fs[j]? = some .null ∧ N = some r)) := by
  unfold gR at e
  split at e
  · rename_i c fs hk
    split at e
    · rename_i hc
      subst hc
      split at e
      · rename_i q hx
        exact ⟨fs, hk, Or.inl ⟨q, hx, e⟩⟩
      · rename_i hx
        exact ⟨fs, hk, Or.inr ⟨hx, e⟩⟩
      · cases e
    · cases e
  · cases e
theorem pF_inv {k ci j : Nat} {v : Value} {K : PH → PR} (e : pF h k ci j v K = some r) : ∃ fs, h.1 k = some (.inr (.inr (ci, fs))) ∧ j < fs.length ∧ K (ph_put h k (.inr (.inr (ci, fs.set j v)))) = some r := by
  unfold pF at e
  split at e
  · rename_i c fs hk
    split at e
    · rename_i hc
      obtain ⟨rfl, hj⟩ := hc
      exact ⟨fs, hk, hj, e⟩
    · cases e
  · cases e
theorem aI_inv {k tg : Nat} {i : Int32} {K : Int32 → PR} (e : aI ro h k tg i K = some r) : ∃ n f, arr ro h k = some (tg, n, f) ∧ vp_in i n ∧ K (f i.toNatClampNeg) = some r := by
  unfold aI at e
  split at e
  · rename_i t n f hk
    split at e
    · rename_i hc
      obtain ⟨rfl, hj⟩ := hc
      exact ⟨n, f, hk, hj, e⟩
    · cases e
  · cases e
theorem aR_inv {k : Nat} {i : Int32} {N : PR} {K : Nat → PR} (e : aR h k i N K = some r) : ∃ t n g, h.1 k = some (.inr (.inl (t, n, g))) ∧ vp_in i n ∧ ((∃ q, g i.toNatClampNeg = some q ∧ K q = some r) ∨ (g i.toNatClampNeg = none ∧ N = some r)) := by
  unfold aR at e
  split at e
  · rename_i t n g hk
    split at e
    · rename_i hc
      split at e
      · rename_i hq
        exact ⟨t, n, g, hk, hc, Or.inr ⟨hq, e⟩⟩
      · rename_i q hq
        exact ⟨t, n, g, hk, hc, Or.inl ⟨q, hq, e⟩⟩
    · cases e
  · cases e
theorem aL_inv {k : Nat} {K : Int32 → PR} (e : aL ro h k K = some r) : ∃ t n f, arr ro h k = some (t, n, f) ∧ K (Int32.ofNat n) = some r := by
  unfold aL at e
  split at e
  · rename_i t n f hk
    exact ⟨t, n, f, hk, e⟩
  · cases e
theorem sI_inv {k tg : Nat} {i v : Int32} {K : PH → PR} (e : sI h k tg i v K = some r) : ∃ n f, h.1 k = some (.inl (tg, n, f)) ∧ vp_in i n ∧ K (ph_put h k (.inl (tg, n, upd f i.toNatClampNeg v))) = some r := by
  unfold sI at e
  split at e
  · rename_i t n f hk
    split at e
    · rename_i hc
      obtain ⟨rfl, hj⟩ := hc
      exact ⟨n, f, hk, hj, e⟩
    · cases e
  · cases e
theorem sR_inv {k q : Nat} {i : Int32} {K : PH → PR} (e : sR h k i q K = some r) : ∃ n g c fs, h.1 k = some (.inr (.inl (10 + c, n, g))) ∧ h.1 q = some (.inr (.inr (c, fs))) ∧ vp_in i n ∧ K (ph_put h k (.inr (.inl (10 + c, n, va_up g i.toNatClampNeg (some q))))) = some r := by
  unfold sR at e
  split at e
  · rename_i t n g c fs hk hq
    split at e
    · rename_i hc
      obtain ⟨rfl, hj⟩ := hc
      exact ⟨n, g, c, fs, hk, hq, hj, e⟩
    · cases e
  · cases e
theorem nO_inv {ci N : Nat} {fs : List Value} {K : Nat → PH → PR} (e : nO h ci N fs K = some r) : h.1 (1000 * ci + h.2.1 ci) = none ∧ 1000 * ci + h.2.1 ci < 30000 ∧ K (1000 * ci + h.2.1 ci) (ph_add h (1000 * ci + h.2.1 ci) ci N (.inr (.inr (ci, fs)))) = some r := by
  unfold nO at e
  split at e
  · rename_i hc
    exact ⟨by simpa using hc.1, by omega, e⟩
  · cases e
theorem nA_inv {tg : Nat} {n : Int32} {f : Nat → Int32} {K : Nat → PH → PR} (e : nA h tg n f K = some r) : h.1 (20000 + h.2.1 20) = none ∧ 20000 + h.2.1 20 < 30000 ∧ ¬ n < 0 ∧ n.toNatClampNeg ≤ 100000 ∧ K (20000 + h.2.1 20) (ph_add h (20000 + h.2.1 20) 20 n.toNatClampNeg (.inl (tg, n.toNatClampNeg, f))) = some r := by
  unfold nA at e
  split at e
  · rename_i hc
    exact ⟨by simpa using hc.1, hc.2.1, hc.2.2.1, hc.2.2.2, e⟩
  · cases e
theorem nQ_inv {tg : Nat} {n : Int32} {K : Nat → PH → PR} (e : nQ h tg n K = some r) : h.1 (20000 + h.2.1 20) = none ∧ 20000 + h.2.1 20 < 30000 ∧ ¬ n < 0 ∧ n.toNatClampNeg ≤ 100000 ∧ K (20000 + h.2.1 20) (ph_add h (20000 + h.2.1 20) 20 n.toNatClampNeg (.inr (.inl (tg, n.toNatClampNeg, fun _ => none)))) = some r := by
  unfold nQ at e
  split at e
  · rename_i hc
    exact ⟨by simpa using hc.1, hc.2.1, hc.2.2.1, hc.2.2.2, e⟩
  · cases e
theorem cpA_inv {k q : Nat} {sp dp n : Int32} {K : PH → PR} (e : cpA h k sp q dp n K = some r) : ∃ n0 f n1 g, h.1 k = some (.inl (0, n0, f)) ∧ h.1 q = some (.inl (0, n1, g)) ∧ ¬ sp < 0 ∧ ¬ dp < 0 ∧ ¬ n < 0 ∧ sp.toNatClampNeg + n.toNatClampNeg ≤ n0 ∧ dp.toNatClampNeg + n.toNatClampNeg ≤ n1 ∧ K (ph_put h q (.inl (0, n1, va_cpy f g sp.toNatClampNeg dp.toNatClampNeg n.toNatClampNeg))) = some r := by
  unfold cpA at e
  split at e
  · rename_i t0 n0 f t1 n1 g hk hq
    split at e
    · rename_i hc
      obtain ⟨rfl, rfl, h1, h2, h3, h4, h5⟩ := hc
      exact ⟨n0, f, n1, g, hk, hq, h1, h2, h3, h4, h5, e⟩
    · cases e
  · cases e
theorem clA_inv {k : Nat} {K : Nat → PH → PR} (e : clA h k K = some r) : ∃ n f, h.1 k = some (.inl (0, n, f)) ∧ h.1 (20000 + h.2.1 20) = none ∧ 20000 + h.2.1 20 < 30000 ∧ K (20000 + h.2.1 20) (ph_add h (20000 + h.2.1 20) 20 n (.inl (0, n, f))) = some r := by
  unfold clA at e
  split at e
  · rename_i t n f hk
    split at e
    · rename_i hc
      obtain ⟨rfl, h1, h2⟩ := hc
      exact ⟨n, f, hk, by simpa using h1, h2, e⟩
    · cases e
  · cases e
theorem isA_inv {k : Nat} (e : isA h k = true) : ∃ n f, h.1 k = some (.inl (0, n, f)) := by
  unfold isA at e
  split at e
  · rename_i t n f hk
    have : t = 0 := by simpa using e
    subst this
    exact ⟨n, f, hk⟩
  · cases e
theorem isO_inv {v : Option Value} {ci : Nat} (e : isO h v ci = true) : ∃ k fs, v = some (.ref k) ∧ h.1 k = some (.inr (.inr (ci, fs))) := by
  unfold isO at e
  split at e
  · rename_i k
    split at e
    · rename_i c fs hk
      have : c = ci := by simpa using e
      subst this
      exact ⟨k, fs, rfl, hk⟩
    · cases e
  · cases e
theorem cI_inv {q : PR} {K : Int32 → PH → PR} (e : cI q K = some r) : ∃ x h1, q = some (some (.int x), h1) ∧ K x h1 = some r := by
  unfold cI at e
  split at e
  · exact ⟨_, _, rfl, e⟩
  · cases e
theorem cV_inv {q : PR} {K : PH → PR} (e : cV q K = some r) : ∃ h1, q = some (none, h1) ∧ K h1 = some r := by
  unfold cV at e
  split at e
  · exact ⟨_, rfl, e⟩
  · cases e
theorem cR_inv {q : PR} {N : PH → PR} {K : Nat → PH → PR} (e : cR q N K = some r) : (∃ k h1, q = some (some (.ref k), h1) ∧ K k h1 = some r) ∨ ∃ h1, q = some (some .null, h1) ∧ N h1 = some r := by
  unfold cR at e
  split at e
  · exact Or.inl ⟨_, _, rfl, e⟩
  · exact Or.inr ⟨_, rfl, e⟩
  · cases e
theorem cnd_or {a : Nat} {x y : Int32} {T F : PR} (e : cnd a x y T F = some r) : T = some r ∨ F = some r := by
  unfold cnd at e
  split at e <;> split at e <;> first | exact Or.inl e | exact Or.inr e
theorem swt_or {F : Nat → PR} {b : Nat} {y : Int32} : ∀ {ts : List Nat} {v : Int32}, swt F b y ts v = some r → ∃ t, F t = some r
  | [], v, e => ⟨b, e⟩
  | t :: ts, v, e => by
    unfold swt at e
    split at e
    · exact ⟨t, e⟩
    · exact swt_or e
theorem swl_or {F : Nat → PR} {b : Nat} {y : Int32} : ∀ {ts : List Nat}, swl F b y ts = some r → ∃ t, F t = some r
  | [], e => ⟨b, e⟩
  | [_], e => ⟨b, e⟩
  | k :: t :: ts, e => by
    unfold swl at e
    split at e
    · exact ⟨t, e⟩
    · exact swl_or e
end PINV
theorem step_mono {ro : RO} {J : Nat → PL → List Value → PH → PR} {C : Nat → List Value → PH → PR} {lv : PL} {st : List Value} {h : PH} {K : PL → List Value → PH → PR} {r : Option Value} {h' : PH}
    (hJ : ∀ t lv st h1, J t lv st h1 = some (r, h') → PLe h1 h') (hC : ∀ M as h1 v h2, C M as h1 = some (v, h2) → PLe h1 h2) (hK : ∀ lv st h1, K lv st h1 = some (r, h') → PLe h1 h') :
    ∀ (i : PI), step ro J C i lv st h K = some (r, h') → PLe h h'
  | (_, _, 0, _, _, _, _, _), e => hK _ _ _ e
  | (_, _, 1, a, _, _, _, _), e => by
    simp only [step] at e
    split at e
    · exact hK _ _ _ e
    · cases e
  | (_, _, 2, a, _, _, _, _), e => by
    simp only [step] at e
    split at e
    · exact hK _ _ _ e
    · exact hK _ _ _ e
    · cases e
  | (_, _, 3, a, _, _, _, _), e => by
    simp only [step] at e
    split at e
    · exact hK _ _ _ e
    · cases e
  | (_, _, 4, a, _, _, _, _), e => by
    simp only [step] at e
    split at e
    · exact hK _ _ _ e
    · exact hK _ _ _ e
    · cases e
  | (_, _, 5, a, _, _, _, _), e => by
    simp only [step] at e
    split at e
    · exact hK _ _ _ e
    · cases e
  | (_, _, 6, a, _, _, _, _), e => by
    simp only [step] at e
    split at e
    · exact hK _ _ _ e
    · cases e
  | (_, _, 7, a, _, _, _, _), e => by
    simp only [step] at e
    split at e
    · split at e
      · cases e
      · exact hK _ _ _ e
    · cases e
  | (_, _, 8, a, _, _, _, _), e => by
    simp only [step] at e
    split at e
    · split at e
      · cases e
      · exact hK _ _ _ e
    · cases e
  | (_, _, 9, a, _, _, _, _), e => by
    simp only [step] at e
    split at e
    · exact hK _ _ _ e
    · cases e
  | (_, _, 10, a, _, _, _, _), e => by
    simp only [step] at e
    split at e
    · rcases cnd_or e with e | e
      · exact hJ _ _ _ _ e
      · exact hK _ _ _ e
    · cases e
  | (_, _, 11, a, _, _, _, _), e => by
    simp only [step] at e
    split at e
    · rcases cnd_or e with e | e
      · exact hJ _ _ _ _ e
      · exact hK _ _ _ e
    · cases e
  | (_, _, 12, a, _, _, _, _), e => by
    simp only [step] at e
    split at e
    · exact hK _ _ _ e
    · exact hJ _ _ _ _ e
    · cases e
  | (_, _, 13, a, _, _, _, _), e => by
    simp only [step] at e
    split at e
    · exact hJ _ _ _ _ e
    · exact hK _ _ _ e
    · cases e
  | (_, _, 14, _, _, _, _, _), e => hJ _ _ _ _ e
  | (_, _, 15, a, _, _, _, _), e => by
    simp only [step] at e
    split at e
    · obtain ⟨t, e⟩ := swt_or e
      exact hJ _ _ _ _ e
    · cases e
  | (_, _, 16, a, _, _, _, _), e => by
    simp only [step] at e
    split at e
    · obtain ⟨t, e⟩ := swl_or e
      exact hJ _ _ _ _ e
    · cases e
  | (_, _, 17, a, _, _, _, _), e => by
    simp only [step] at e
    split at e
    · obtain ⟨_, _, _, _, e⟩ := gI_inv e
      exact hK _ _ _ e
    · cases e
  | (_, _, 18, a, _, _, _, _), e => by
    simp only [step] at e
    split at e
    · obtain ⟨_, _, ⟨_, _, e⟩ | ⟨_, e⟩⟩ := gR_inv e
      · exact hK _ _ _ e
      · exact hK _ _ _ e
    · cases e
  | (_, _, 19, a, _, _, _, _), e => by
    simp only [step] at e
    split at e
    · obtain ⟨_, _, _, e⟩ := pF_inv e
      exact (PLe.put _ _ _).tr (hK _ _ _ e)
    · cases e
  | (_, _, 20, a, _, _, _, _), e => by
    simp only [step] at e
    split at e
    · split at e
      · obtain ⟨_, _, _, e⟩ := pF_inv e
        exact (PLe.put _ _ _).tr (hK _ _ _ e)
      · cases e
    · cases e
  | (_, _, 21, a, _, _, _, _), e => by
    simp only [step] at e
    split at e
    · obtain ⟨_, _, _, e⟩ := pF_inv e
      exact (PLe.put _ _ _).tr (hK _ _ _ e)
    · cases e
  | (_, _, 22, a, _, _, _, _), e => by
    simp only [step] at e
    split at e
    · obtain ⟨_, _, _, _, e⟩ := aI_inv e
      exact hK _ _ _ e
    · cases e
  | (_, _, 23, a, _, _, _, _), e => by
    simp only [step] at e
    split at e
    · obtain ⟨_, _, _, _, _, ⟨_, _, e⟩ | ⟨_, e⟩⟩ := aR_inv e
      · exact hK _ _ _ e
      · exact hK _ _ _ e
    · cases e
  | (_, _, 24, a, _, _, _, _), e => by
    simp only [step] at e
    split at e
    · obtain ⟨_, _, _, _, e⟩ := sI_inv e
      exact (PLe.put _ _ _).tr (hK _ _ _ e)
    · cases e
  | (_, _, 25, a, _, _, _, _), e => by
    simp only [step] at e
    split at e
    · obtain ⟨_, _, _, _, e⟩ := sI_inv e
      exact (PLe.put _ _ _).tr (hK _ _ _ e)
    · cases e
  | (_, _, 26, a, _, _, _, _), e => by
    simp only [step] at e
    split at e
    · obtain ⟨_, _, _, _, _, _, _, e⟩ := sR_inv e
      exact (PLe.put _ _ _).tr (hK _ _ _ e)
    · cases e
  | (_, _, 27, a, _, _, _, _), e => by
    simp only [step] at e
    split at e
    · obtain ⟨_, _, _, _, e⟩ := aL_inv e
      exact hK _ _ _ e
    · cases e
  | (_, _, 28, _, _, _, _, _), e => hK _ _ _ e
  | (_, _, 29, a, _, _, _, _), e => by
    simp only [step] at e
    exact (PLe.add _ _ _ _ _).tr (hK _ _ _ (nO_inv e).2.2)
  | (_, _, 30, a, _, _, _, _), e => by
    simp only [step] at e
    split at e
    · exact (PLe.add _ _ _ _ _).tr (hK _ _ _ (nA_inv e).2.2.2.2)
    · cases e
  | (_, _, 31, a, _, _, _, _), e => by
    simp only [step] at e
    split at e
    · exact (PLe.add _ _ _ _ _).tr (hK _ _ _ (nQ_inv e).2.2.2.2)
    · cases e
  | (_, _, 32, a, _, _, _, _), e => by
    simp only [step] at e
    split at e
    · split at e
      · exact hK _ _ _ e
      · cases e
    · cases e
  | (_, _, 33, a, _, _, _, _), e => by
    simp only [step] at e
    split at e
    · split at e
      · exact hK _ _ _ e
      · cases e
    · cases e
  | (_, _, 34, a, _, _, _, _), e => by
    simp only [step] at e
    split at e
    · split at e
      · exact hK _ _ _ e
      · cases e
    · cases e
  | (_, _, 35, a, _, _, _, _), e => by
    simp only [step] at e
    split at e
    · obtain ⟨_, _, e1, e⟩ := cI_inv e
      exact (hC _ _ _ _ _ e1).tr (hK _ _ _ e)
    · cases e
  | (_, _, 36, a, _, _, _, _), e => by
    simp only [step] at e
    split at e
    · obtain ⟨_, e1, e⟩ := cV_inv e
      exact (hC _ _ _ _ _ e1).tr (hK _ _ _ e)
    · cases e
  | (_, _, 37, a, _, _, _, _), e => by
    simp only [step] at e
    split at e
    · rcases cR_inv e with ⟨_, _, e1, e⟩ | ⟨_, e1, e⟩
      · exact (hC _ _ _ _ _ e1).tr (hK _ _ _ e)
      · exact (hC _ _ _ _ _ e1).tr (hK _ _ _ e)
    · cases e
  | (_, _, 38, a, _, _, _, _), e => by
    simp only [step] at e
    split at e
    · cases e; exact PLe.rf _
    · cases e
  | (_, _, 39, a, _, _, _, _), e => by
    simp only [step] at e
    split at e
    · cases e; exact PLe.rf _
    · cases e
  | (_, _, 40, a, _, _, _, _), e => by
    simp only [step] at e
    split at e
    · split at e
      · cases e; exact PLe.rf _
      · cases e
    · cases e
  | (_, _, 41, a, _, _, _, _), e => by
    simp only [step] at e
    split at e
    · cases e; exact PLe.rf _
    · cases e; exact PLe.rf _
    · cases e
  | (_, _, 42, _, _, _, _, _), e => hK _ _ _ e
  | (_, _, 43, a, _, _, _, _), e => by
    simp only [step] at e
    split at e
    · split at e
      · exact hK _ _ _ e
      · cases e
    · cases e
  | (_, _, 44, a, _, _, _, _), e => by
    simp only [step] at e
    split at e
    · split at e
      · obtain ⟨_, _, _, _, _, _, _, _, _, _, _, e⟩ := cpA_inv e
        exact (PLe.put _ _ _).tr (hK _ _ _ e)
      · cases e
    · cases e
  | (_, _, 45, _, _, _, _, _), e => hJ _ _ _ _ e
  | (_, _, 46, a, _, _, _, _), e => by
    simp only [step] at e
    split at e
    · split at e
      · obtain ⟨_, _, _, _, _, e⟩ := clA_inv e
        exact (PLe.add _ _ _ _ _).tr (hK _ _ _ e)
      · cases e
    · cases e
  | (_, _, 47, a, _, _, _, _), e => by
    simp only [step] at e
    split at e
    · split at e
      · exact hK _ _ _ e
      · cases e
    · cases e
  | (_, _, n + 48, a, _, _, _, _), e => by
    simp only [step] at e
    cases e
theorem run_mono {ro : RO} {J : Nat → PL → List Value → PH → PR} {C : Nat → List Value → PH → PR} {r : Option Value} {h' : PH}
    (hJ : ∀ t lv st h1, J t lv st h1 = some (r, h') → PLe h1 h') (hC : ∀ M as h1 v h2, C M as h1 = some (v, h2) → PLe h1 h2) :
    ∀ (is : List PI) (lv : PL) (st : List Value) (h : PH), run ro J C is lv st h = some (r, h') → PLe h h'
  | [], _, _, _, e => by cases e
  | i :: is, lv, st, h, e => step_mono hJ hC (run_mono hJ hC is) i e
theorem EXn_mono {ro : RO} {B : List (Nat × List PI)} {C : Nat → List Value → PH → PR} {r : Option Value} {h' : PH} (hC : ∀ M as h1 v h2, C M as h1 = some (v, h2) → PLe h1 h2) :
    ∀ (n t : Nat) (lv : PL) (st : List Value) (h : PH), EXn ro B C n t lv st h = some (r, h') → PLe h h'
  | 0, _, _, _, _, e => by cases e
  | n + 1, t, lv, st, h, e => run_mono (EXn_mono hC n) hC (pget B t) lv st h e
theorem CALL_mono {ro : RO} {P : Nat → List (Nat × List PI)} {mL : Nat → Nat} {F : Nat} :
    ∀ (d M : Nat) (as : List Value) (h : PH) (r : Option Value) (h' : PH), CALL ro P mL F d M as h = some (r, h') → PLe h h'
  | 0, _, _, _, _, _, e => by cases e
  | d + 1, M, as, h, r, h', e => by
    unfold CALL at e
    split at e
    · exact EXn_mono (CALL_mono d) F 0 _ _ _ e
    · cases e
end
