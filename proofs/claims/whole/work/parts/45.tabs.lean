/-! THE TABLES hold what the program leans on -/
theorem inT1 {w : Cond} (h : w ∈ tables_1_1) : w ∈ lw_tbl := List.mem_append_right _ (show w ∈ tables_1 by unfold tables_1; simp only [List.mem_append]; simp only [h, true_or, or_true])
theorem inT2 {w : Cond} (h : w ∈ tables_1_2) : w ∈ lw_tbl := List.mem_append_right _ (show w ∈ tables_1 by unfold tables_1; simp only [List.mem_append]; simp only [h, true_or, or_true])
theorem inT3 {w : Cond} (h : w ∈ tables_1_3) : w ∈ lw_tbl := List.mem_append_right _ (show w ∈ tables_1 by unfold tables_1; simp only [List.mem_append]; simp only [h, true_or, or_true])
theorem inT4 {w : Cond} (h : w ∈ tables_1_4) : w ∈ lw_tbl := List.mem_append_right _ (show w ∈ tables_1 by unfold tables_1; simp only [List.mem_append]; simp only [h, true_or, or_true])
theorem inT5 {w : Cond} (h : w ∈ tables_1_5) : w ∈ lw_tbl := List.mem_append_right _ (show w ∈ tables_1 by unfold tables_1; simp only [List.mem_append]; simp only [h, true_or, or_true])
theorem inT6 {w : Cond} (h : w ∈ tables_1_6) : w ∈ lw_tbl := List.mem_append_right _ (show w ∈ tables_1 by unfold tables_1; simp only [List.mem_append]; simp only [h, true_or, or_true])
def PLq (M : Nat) : Prop := Cond.code (mY M) (mC M) (mL M) (mT M) ∈ lw_tbl ∧ plainFor (mY M) = true
theorem PLqs {a : Nat} (h : ∀ M, M < a → PLq M) (k : PLq a) : ∀ M, M < a + 1 → PLq M := fun M hM => by
  rcases Nat.lt_or_ge M a with g | g
  · exact h M g
  · rw [show M = a by omega]; exact k
theorem pn0 : plainName "PoleLogs" = true := by decide +kernel
theorem pn1 : plainName "PoleLogs$Acts" = true := by decide +kernel
theorem pn2 : plainName "PoleLogs$Almanac" = true := by decide +kernel
theorem pn3 : plainName "PoleLogs$Ice" = true := by decide +kernel
theorem pn4 : plainName "PoleLogs$Law" = true := by decide +kernel
theorem pn5 : plainName "PoleLogs$Log" = true := by decide +kernel
theorem pn6 : plainName "PoleLogs$Looks" = true := by decide +kernel
theorem pn7 : plainName "PoleLogs$Reader" = true := by decide +kernel
theorem pn8 : plainName "PoleLogs$Row" = true := by decide +kernel
theorem pn9 : plainName "PoleLogs$Tape" = true := by decide +kernel
theorem pn10 : plainName "PoleLogs$Way" = true := by decide +kernel
theorem pn11 : plainName "PoleLogsModel" = true := by decide +kernel
theorem pn12 : plainName "java/lang/Integer" = true := by decide +kernel
theorem pn14 : plainName "java/util/Arrays" = true := by decide +kernel
theorem pf218 : plainFor yJ9_floorDiv_7cf53 = true := by decide +kernel
theorem pf219 : plainFor yJ9_abs_0f7a4 = true := by decide +kernel
theorem pf220 : plainFor yJ9_max_7cf53 = true := by decide +kernel
theorem pf221 : plainFor yJ9_min_7cf53 = true := by decide +kernel
theorem pl0 : ∀ M, M < 0 → PLq M := fun M h => absurd h (Nat.not_lt_zero M)
set_option maxRecDepth 20000 in
theorem pl1 : ∀ M, M < 1 → PLq M := PLqs pl0 ⟨inT1 (List.mem_of_getElem? (i := 201) rfl), plainFor_of_name pn1⟩
set_option maxRecDepth 20000 in
theorem pl2 : ∀ M, M < 2 → PLq M := PLqs pl1 ⟨inT4 (List.mem_of_getElem? (i := 66) rfl), plainFor_of_name pn1⟩
set_option maxRecDepth 20000 in
theorem pl3 : ∀ M, M < 3 → PLq M := PLqs pl2 ⟨inT4 (List.mem_of_getElem? (i := 70) rfl), plainFor_of_name pn1⟩
set_option maxRecDepth 20000 in
theorem pl4 : ∀ M, M < 4 → PLq M := PLqs pl3 ⟨inT4 (List.mem_of_getElem? (i := 78) rfl), plainFor_of_name pn1⟩
set_option maxRecDepth 20000 in
theorem pl5 : ∀ M, M < 5 → PLq M := PLqs pl4 ⟨inT1 (List.mem_of_getElem? (i := 56) rfl), plainFor_of_name pn2⟩
set_option maxRecDepth 20000 in
theorem pl6 : ∀ M, M < 6 → PLq M := PLqs pl5 ⟨inT4 (List.mem_of_getElem? (i := 98) rfl), plainFor_of_name pn2⟩
set_option maxRecDepth 20000 in
theorem pl7 : ∀ M, M < 7 → PLq M := PLqs pl6 ⟨inT3 (List.mem_of_getElem? (i := 161) rfl), plainFor_of_name pn2⟩
set_option maxRecDepth 20000 in
theorem pl8 : ∀ M, M < 8 → PLq M := PLqs pl7 ⟨inT3 (List.mem_of_getElem? (i := 153) rfl), plainFor_of_name pn2⟩
set_option maxRecDepth 20000 in
theorem pl9 : ∀ M, M < 9 → PLq M := PLqs pl8 ⟨inT1 (List.mem_of_getElem? (i := 29) rfl), plainFor_of_name pn3⟩
set_option maxRecDepth 20000 in
theorem pl10 : ∀ M, M < 10 → PLq M := PLqs pl9 ⟨inT3 (List.mem_of_getElem? (i := 226) rfl), plainFor_of_name pn4⟩
set_option maxRecDepth 20000 in
theorem pl11 : ∀ M, M < 11 → PLq M := PLqs pl10 ⟨inT1 (List.mem_of_getElem? (i := 75) rfl), plainFor_of_name pn5⟩
set_option maxRecDepth 20000 in
theorem pl12 : ∀ M, M < 12 → PLq M := PLqs pl11 ⟨inT3 (List.mem_of_getElem? (i := 88) rfl), plainFor_of_name pn5⟩
set_option maxRecDepth 20000 in
theorem pl13 : ∀ M, M < 13 → PLq M := PLqs pl12 ⟨inT3 (List.mem_of_getElem? (i := 148) rfl), plainFor_of_name pn5⟩
set_option maxRecDepth 20000 in
theorem pl14 : ∀ M, M < 14 → PLq M := PLqs pl13 ⟨inT3 (List.mem_of_getElem? (i := 6) rfl), plainFor_of_name pn5⟩
set_option maxRecDepth 20000 in
theorem pl15 : ∀ M, M < 15 → PLq M := PLqs pl14 ⟨inT1 (List.mem_of_getElem? (i := 177) rfl), plainFor_of_name pn6⟩
set_option maxRecDepth 20000 in
theorem pl16 : ∀ M, M < 16 → PLq M := PLqs pl15 ⟨inT4 (List.mem_of_getElem? (i := 28) rfl), plainFor_of_name pn6⟩
set_option maxRecDepth 20000 in
theorem pl17 : ∀ M, M < 17 → PLq M := PLqs pl16 ⟨inT4 (List.mem_of_getElem? (i := 32) rfl), plainFor_of_name pn6⟩
set_option maxRecDepth 20000 in
theorem pl18 : ∀ M, M < 18 → PLq M := PLqs pl17 ⟨inT4 (List.mem_of_getElem? (i := 45) rfl), plainFor_of_name pn6⟩
set_option maxRecDepth 20000 in
theorem pl19 : ∀ M, M < 19 → PLq M := PLqs pl18 ⟨inT4 (List.mem_of_getElem? (i := 53) rfl), plainFor_of_name pn6⟩
set_option maxRecDepth 20000 in
theorem pl20 : ∀ M, M < 20 → PLq M := PLqs pl19 ⟨inT1 (List.mem_of_getElem? (i := 152) rfl), plainFor_of_name pn7⟩
set_option maxRecDepth 20000 in
theorem pl21 : ∀ M, M < 21 → PLq M := PLqs pl20 ⟨inT3 (List.mem_of_getElem? (i := 173) rfl), plainFor_of_name pn7⟩
set_option maxRecDepth 20000 in
theorem pl22 : ∀ M, M < 22 → PLq M := PLqs pl21 ⟨inT4 (List.mem_of_getElem? (i := 20) rfl), plainFor_of_name pn7⟩
set_option maxRecDepth 20000 in
theorem pl23 : ∀ M, M < 23 → PLq M := PLqs pl22 ⟨inT3 (List.mem_of_getElem? (i := 177) rfl), plainFor_of_name pn7⟩
set_option maxRecDepth 20000 in
theorem pl24 : ∀ M, M < 24 → PLq M := PLqs pl23 ⟨inT3 (List.mem_of_getElem? (i := 194) rfl), plainFor_of_name pn7⟩
set_option maxRecDepth 20000 in
theorem pl25 : ∀ M, M < 25 → PLq M := PLqs pl24 ⟨inT3 (List.mem_of_getElem? (i := 182) rfl), plainFor_of_name pn7⟩
set_option maxRecDepth 20000 in
theorem pl26 : ∀ M, M < 26 → PLq M := PLqs pl25 ⟨inT3 (List.mem_of_getElem? (i := 186) rfl), plainFor_of_name pn7⟩
set_option maxRecDepth 20000 in
theorem pl27 : ∀ M, M < 27 → PLq M := PLqs pl26 ⟨inT3 (List.mem_of_getElem? (i := 190) rfl), plainFor_of_name pn7⟩
set_option maxRecDepth 20000 in
theorem pl28 : ∀ M, M < 28 → PLq M := PLqs pl27 ⟨inT3 (List.mem_of_getElem? (i := 198) rfl), plainFor_of_name pn7⟩
set_option maxRecDepth 20000 in
theorem pl29 : ∀ M, M < 29 → PLq M := PLqs pl28 ⟨inT3 (List.mem_of_getElem? (i := 205) rfl), plainFor_of_name pn7⟩
set_option maxRecDepth 20000 in
theorem pl30 : ∀ M, M < 30 → PLq M := PLqs pl29 ⟨inT3 (List.mem_of_getElem? (i := 201) rfl), plainFor_of_name pn7⟩
set_option maxRecDepth 20000 in
theorem pl31 : ∀ M, M < 31 → PLq M := PLqs pl30 ⟨inT2 (List.mem_of_getElem? (i := 106) rfl), plainFor_of_name pn8⟩
set_option maxRecDepth 20000 in
theorem pl32 : ∀ M, M < 32 → PLq M := PLqs pl31 ⟨inT3 (List.mem_of_getElem? (i := 70) rfl), plainFor_of_name pn8⟩
set_option maxRecDepth 20000 in
theorem pl33 : ∀ M, M < 33 → PLq M := PLqs pl32 ⟨inT3 (List.mem_of_getElem? (i := 66) rfl), plainFor_of_name pn8⟩
set_option maxRecDepth 20000 in
theorem pl34 : ∀ M, M < 34 → PLq M := PLqs pl33 ⟨inT3 (List.mem_of_getElem? (i := 74) rfl), plainFor_of_name pn8⟩
set_option maxRecDepth 20000 in
theorem pl35 : ∀ M, M < 35 → PLq M := PLqs pl34 ⟨inT2 (List.mem_of_getElem? (i := 212) rfl), plainFor_of_name pn8⟩
set_option maxRecDepth 20000 in
theorem pl36 : ∀ M, M < 36 → PLq M := PLqs pl35 ⟨inT1 (List.mem_of_getElem? (i := 217) rfl), plainFor_of_name pn9⟩
set_option maxRecDepth 20000 in
theorem pl37 : ∀ M, M < 37 → PLq M := PLqs pl36 ⟨inT4 (List.mem_of_getElem? (i := 106) rfl), plainFor_of_name pn9⟩
set_option maxRecDepth 20000 in
theorem pl38 : ∀ M, M < 38 → PLq M := PLqs pl37 ⟨inT2 (List.mem_of_getElem? (i := 187) rfl), plainFor_of_name pn9⟩
set_option maxRecDepth 20000 in
theorem pl39 : ∀ M, M < 39 → PLq M := PLqs pl38 ⟨inT4 (List.mem_of_getElem? (i := 129) rfl), plainFor_of_name pn9⟩
set_option maxRecDepth 20000 in
theorem pl40 : ∀ M, M < 40 → PLq M := PLqs pl39 ⟨inT4 (List.mem_of_getElem? (i := 117) rfl), plainFor_of_name pn9⟩
set_option maxRecDepth 20000 in
theorem pl41 : ∀ M, M < 41 → PLq M := PLqs pl40 ⟨inT1 (List.mem_of_getElem? (i := 126) rfl), plainFor_of_name pn10⟩
set_option maxRecDepth 20000 in
theorem pl42 : ∀ M, M < 42 → PLq M := PLqs pl41 ⟨inT2 (List.mem_of_getElem? (i := 204) rfl), plainFor_of_name pn10⟩
set_option maxRecDepth 20000 in
theorem pl43 : ∀ M, M < 43 → PLq M := PLqs pl42 ⟨inT2 (List.mem_of_getElem? (i := 208) rfl), plainFor_of_name pn10⟩
set_option maxRecDepth 20000 in
theorem pl44 : ∀ M, M < 44 → PLq M := PLqs pl43 ⟨inT3 (List.mem_of_getElem? (i := 37) rfl), plainFor_of_name pn10⟩
set_option maxRecDepth 20000 in
theorem pl45 : ∀ M, M < 45 → PLq M := PLqs pl44 ⟨inT3 (List.mem_of_getElem? (i := 41) rfl), plainFor_of_name pn10⟩
set_option maxRecDepth 20000 in
theorem pl46 : ∀ M, M < 46 → PLq M := PLqs pl45 ⟨inT3 (List.mem_of_getElem? (i := 2) rfl), plainFor_of_name pn10⟩
set_option maxRecDepth 20000 in
theorem pl47 : ∀ M, M < 47 → PLq M := PLqs pl46 ⟨inT3 (List.mem_of_getElem? (i := 11) rfl), plainFor_of_name pn10⟩
set_option maxRecDepth 20000 in
theorem pl48 : ∀ M, M < 48 → PLq M := PLqs pl47 ⟨inT2 (List.mem_of_getElem? (i := 238) rfl), plainFor_of_name pn10⟩
set_option maxRecDepth 20000 in
theorem pl49 : ∀ M, M < 49 → PLq M := PLqs pl48 ⟨inT2 (List.mem_of_getElem? (i := 234) rfl), plainFor_of_name pn10⟩
set_option maxRecDepth 20000 in
theorem pl50 : ∀ M, M < 50 → PLq M := PLqs pl49 ⟨inT1 (List.mem_of_getElem? (i := 21) rfl), plainFor_of_name pn0⟩
set_option maxRecDepth 20000 in
theorem pl51 : ∀ M, M < 51 → PLq M := PLqs pl50 ⟨inT2 (List.mem_of_getElem? (i := 50) rfl), plainFor_of_name pn0⟩
set_option maxRecDepth 20000 in
theorem pl52 : ∀ M, M < 52 → PLq M := PLqs pl51 ⟨inT2 (List.mem_of_getElem? (i := 57) rfl), plainFor_of_name pn0⟩
set_option maxRecDepth 20000 in
theorem pl53 : ∀ M, M < 53 → PLq M := PLqs pl52 ⟨inT2 (List.mem_of_getElem? (i := 61) rfl), plainFor_of_name pn0⟩
set_option maxRecDepth 20000 in
theorem pl54 : ∀ M, M < 54 → PLq M := PLqs pl53 ⟨inT2 (List.mem_of_getElem? (i := 65) rfl), plainFor_of_name pn0⟩
set_option maxRecDepth 20000 in
theorem pl55 : ∀ M, M < 55 → PLq M := PLqs pl54 ⟨inT2 (List.mem_of_getElem? (i := 72) rfl), plainFor_of_name pn0⟩
set_option maxRecDepth 20000 in
theorem pl56 : ∀ M, M < 56 → PLq M := PLqs pl55 ⟨inT2 (List.mem_of_getElem? (i := 76) rfl), plainFor_of_name pn0⟩
set_option maxRecDepth 20000 in
theorem pl57 : ∀ M, M < 57 → PLq M := PLqs pl56 ⟨inT2 (List.mem_of_getElem? (i := 87) rfl), plainFor_of_name pn0⟩
set_option maxRecDepth 20000 in
theorem pl58 : ∀ M, M < 58 → PLq M := PLqs pl57 ⟨inT2 (List.mem_of_getElem? (i := 94) rfl), plainFor_of_name pn0⟩
set_option maxRecDepth 20000 in
theorem pl59 : ∀ M, M < 59 → PLq M := PLqs pl58 ⟨inT2 (List.mem_of_getElem? (i := 98) rfl), plainFor_of_name pn0⟩
set_option maxRecDepth 20000 in
theorem pl60 : ∀ M, M < 60 → PLq M := PLqs pl59 ⟨inT2 (List.mem_of_getElem? (i := 157) rfl), plainFor_of_name pn0⟩
set_option maxRecDepth 20000 in
theorem pl61 : ∀ M, M < 61 → PLq M := PLqs pl60 ⟨inT2 (List.mem_of_getElem? (i := 168) rfl), plainFor_of_name pn0⟩
set_option maxRecDepth 20000 in
theorem pl62 : ∀ M, M < 62 → PLq M := PLqs pl61 ⟨inT2 (List.mem_of_getElem? (i := 172) rfl), plainFor_of_name pn0⟩
set_option maxRecDepth 20000 in
theorem pl63 : ∀ M, M < 63 → PLq M := PLqs pl62 ⟨inT2 (List.mem_of_getElem? (i := 176) rfl), plainFor_of_name pn0⟩
set_option maxRecDepth 20000 in
theorem pl64 : ∀ M, M < 64 → PLq M := PLqs pl63 ⟨inT2 (List.mem_of_getElem? (i := 180) rfl), plainFor_of_name pn0⟩
set_option maxRecDepth 20000 in
theorem pl65 : ∀ M, M < 65 → PLq M := PLqs pl64 ⟨inT2 (List.mem_of_getElem? (i := 191) rfl), plainFor_of_name pn0⟩
set_option maxRecDepth 20000 in
theorem pl66 : ∀ M, M < 66 → PLq M := PLqs pl65 ⟨inT2 (List.mem_of_getElem? (i := 200) rfl), plainFor_of_name pn0⟩
set_option maxRecDepth 20000 in
theorem pl67 : ∀ M, M < 67 → PLq M := PLqs pl66 ⟨inT3 (List.mem_of_getElem? (i := 30) rfl), plainFor_of_name pn0⟩
set_option maxRecDepth 20000 in
theorem pl68 : ∀ M, M < 68 → PLq M := PLqs pl67 ⟨inT3 (List.mem_of_getElem? (i := 45) rfl), plainFor_of_name pn0⟩
set_option maxRecDepth 20000 in
theorem pl69 : ∀ M, M < 69 → PLq M := PLqs pl68 ⟨inT3 (List.mem_of_getElem? (i := 50) rfl), plainFor_of_name pn0⟩
set_option maxRecDepth 20000 in
theorem pl70 : ∀ M, M < 70 → PLq M := PLqs pl69 ⟨inT3 (List.mem_of_getElem? (i := 54) rfl), plainFor_of_name pn0⟩
set_option maxRecDepth 20000 in
theorem pl71 : ∀ M, M < 71 → PLq M := PLqs pl70 ⟨inT3 (List.mem_of_getElem? (i := 58) rfl), plainFor_of_name pn0⟩
set_option maxRecDepth 20000 in
theorem pl72 : ∀ M, M < 72 → PLq M := PLqs pl71 ⟨inT3 (List.mem_of_getElem? (i := 79) rfl), plainFor_of_name pn0⟩
set_option maxRecDepth 20000 in
theorem pl73 : ∀ M, M < 73 → PLq M := PLqs pl72 ⟨inT3 (List.mem_of_getElem? (i := 84) rfl), plainFor_of_name pn0⟩
set_option maxRecDepth 20000 in
theorem pl74 : ∀ M, M < 74 → PLq M := PLqs pl73 ⟨inT3 (List.mem_of_getElem? (i := 103) rfl), plainFor_of_name pn0⟩
set_option maxRecDepth 20000 in
theorem pl75 : ∀ M, M < 75 → PLq M := PLqs pl74 ⟨inT3 (List.mem_of_getElem? (i := 107) rfl), plainFor_of_name pn0⟩
set_option maxRecDepth 20000 in
theorem pl76 : ∀ M, M < 76 → PLq M := PLqs pl75 ⟨inT3 (List.mem_of_getElem? (i := 132) rfl), plainFor_of_name pn0⟩
set_option maxRecDepth 20000 in
theorem pl77 : ∀ M, M < 77 → PLq M := PLqs pl76 ⟨inT3 (List.mem_of_getElem? (i := 136) rfl), plainFor_of_name pn0⟩
set_option maxRecDepth 20000 in
theorem pl78 : ∀ M, M < 78 → PLq M := PLqs pl77 ⟨inT3 (List.mem_of_getElem? (i := 140) rfl), plainFor_of_name pn0⟩
set_option maxRecDepth 20000 in
theorem pl79 : ∀ M, M < 79 → PLq M := PLqs pl78 ⟨inT3 (List.mem_of_getElem? (i := 165) rfl), plainFor_of_name pn0⟩
set_option maxRecDepth 20000 in
theorem pl80 : ∀ M, M < 80 → PLq M := PLqs pl79 ⟨inT3 (List.mem_of_getElem? (i := 169) rfl), plainFor_of_name pn0⟩
set_option maxRecDepth 20000 in
theorem pl81 : ∀ M, M < 81 → PLq M := PLqs pl80 ⟨inT4 (List.mem_of_getElem? (i := 4) rfl), plainFor_of_name pn0⟩
set_option maxRecDepth 20000 in
theorem pl82 : ∀ M, M < 82 → PLq M := PLqs pl81 ⟨inT4 (List.mem_of_getElem? (i := 24) rfl), plainFor_of_name pn0⟩
set_option maxRecDepth 20000 in
theorem pl83 : ∀ M, M < 83 → PLq M := PLqs pl82 ⟨inT4 (List.mem_of_getElem? (i := 38) rfl), plainFor_of_name pn0⟩
set_option maxRecDepth 20000 in
theorem pl84 : ∀ M, M < 84 → PLq M := PLqs pl83 ⟨inT4 (List.mem_of_getElem? (i := 49) rfl), plainFor_of_name pn0⟩
set_option maxRecDepth 20000 in
theorem pl85 : ∀ M, M < 85 → PLq M := PLqs pl84 ⟨inT4 (List.mem_of_getElem? (i := 58) rfl), plainFor_of_name pn0⟩
set_option maxRecDepth 20000 in
theorem pl86 : ∀ M, M < 86 → PLq M := PLqs pl85 ⟨inT4 (List.mem_of_getElem? (i := 62) rfl), plainFor_of_name pn0⟩
set_option maxRecDepth 20000 in
theorem pl87 : ∀ M, M < 87 → PLq M := PLqs pl86 ⟨inT4 (List.mem_of_getElem? (i := 82) rfl), plainFor_of_name pn0⟩
set_option maxRecDepth 20000 in
theorem pl88 : ∀ M, M < 88 → PLq M := PLqs pl87 ⟨inT4 (List.mem_of_getElem? (i := 86) rfl), plainFor_of_name pn0⟩
set_option maxRecDepth 20000 in
theorem pl89 : ∀ M, M < 89 → PLq M := PLqs pl88 ⟨inT4 (List.mem_of_getElem? (i := 94) rfl), plainFor_of_name pn0⟩
set_option maxRecDepth 20000 in
theorem pl90 : ∀ M, M < 90 → PLq M := PLqs pl89 ⟨inT4 (List.mem_of_getElem? (i := 102) rfl), plainFor_of_name pn0⟩
set_option maxRecDepth 20000 in
theorem pl91 : ∀ M, M < 91 → PLq M := PLqs pl90 ⟨inT4 (List.mem_of_getElem? (i := 111) rfl), plainFor_of_name pn0⟩
set_option maxRecDepth 20000 in
theorem pl92 : ∀ M, M < 92 → PLq M := PLqs pl91 ⟨inT4 (List.mem_of_getElem? (i := 121) rfl), plainFor_of_name pn0⟩
set_option maxRecDepth 20000 in
theorem pl93 : ∀ M, M < 93 → PLq M := PLqs pl92 ⟨inT4 (List.mem_of_getElem? (i := 125) rfl), plainFor_of_name pn0⟩
set_option maxRecDepth 20000 in
theorem pl94 : ∀ M, M < 94 → PLq M := PLqs pl93 ⟨inT2 (List.mem_of_getElem? (i := 53) rfl), plainFor_of_name pn0⟩
set_option maxRecDepth 20000 in
theorem pl95 : ∀ M, M < 95 → PLq M := PLqs pl94 ⟨inT2 (List.mem_of_getElem? (i := 79) rfl), plainFor_of_name pn0⟩
set_option maxRecDepth 20000 in
theorem pl96 : ∀ M, M < 96 → PLq M := PLqs pl95 ⟨inT2 (List.mem_of_getElem? (i := 68) rfl), plainFor_of_name pn0⟩
set_option maxRecDepth 20000 in
theorem pl97 : ∀ M, M < 97 → PLq M := PLqs pl96 ⟨inT3 (List.mem_of_getElem? (i := 33) rfl), plainFor_of_name pn0⟩
set_option maxRecDepth 20000 in
theorem pl98 : ∀ M, M < 98 → PLq M := PLqs pl97 ⟨inT2 (List.mem_of_getElem? (i := 90) rfl), plainFor_of_name pn0⟩
set_option maxRecDepth 20000 in
theorem pl99 : ∀ M, M < 99 → PLq M := PLqs pl98 ⟨inT2 (List.mem_of_getElem? (i := 160) rfl), plainFor_of_name pn0⟩
set_option maxRecDepth 20000 in
theorem pl100 : ∀ M, M < 100 → PLq M := PLqs pl99 ⟨inT3 (List.mem_of_getElem? (i := 110) rfl), plainFor_of_name pn0⟩
set_option maxRecDepth 20000 in
theorem pl101 : ∀ M, M < 101 → PLq M := PLqs pl100 ⟨inT4 (List.mem_of_getElem? (i := 41) rfl), plainFor_of_name pn0⟩
set_option maxRecDepth 20000 in
theorem pl102 : ∀ M, M < 102 → PLq M := PLqs pl101 ⟨inT2 (List.mem_of_getElem? (i := 183) rfl), plainFor_of_name pn0⟩
set_option maxRecDepth 20000 in
theorem pl103 : ∀ M, M < 103 → PLq M := PLqs pl102 ⟨inT2 (List.mem_of_getElem? (i := 195) rfl), plainFor_of_name pn0⟩
set_option maxRecDepth 20000 in
theorem pl104 : ∀ M, M < 104 → PLq M := PLqs pl103 ⟨inT4 (List.mem_of_getElem? (i := 89) rfl), plainFor_of_name pn0⟩
set_option maxRecDepth 20000 in
theorem pl105 : ∀ M, M < 105 → PLq M := PLqs pl104 ⟨inT2 (List.mem_of_getElem? (i := 217) rfl), plainFor_of_name pn0⟩
set_option maxRecDepth 20000 in
theorem pl106 : ∀ M, M < 106 → PLq M := PLqs pl105 ⟨inT2 (List.mem_of_getElem? (i := 226) rfl), plainFor_of_name pn0⟩
set_option maxRecDepth 20000 in
theorem pl107 : ∀ M, M < 107 → PLq M := PLqs pl106 ⟨inT3 (List.mem_of_getElem? (i := 15) rfl), plainFor_of_name pn0⟩
set_option maxRecDepth 20000 in
theorem pl108 : ∀ M, M < 108 → PLq M := PLqs pl107 ⟨inT2 (List.mem_of_getElem? (i := 102) rfl), plainFor_of_name pn0⟩
set_option maxRecDepth 20000 in
theorem pl109 : ∀ M, M < 109 → PLq M := PLqs pl108 ⟨inT2 (List.mem_of_getElem? (i := 164) rfl), plainFor_of_name pn0⟩
set_option maxRecDepth 20000 in
theorem pl110 : ∀ M, M < 110 → PLq M := PLqs pl109 ⟨inT2 (List.mem_of_getElem? (i := 83) rfl), plainFor_of_name pn0⟩
set_option maxRecDepth 20000 in
theorem pl111 : ∀ M, M < 111 → PLq M := PLqs pl110 ⟨inT2 (List.mem_of_getElem? (i := 230) rfl), plainFor_of_name pn0⟩
set_option maxRecDepth 20000 in
theorem pl112 : ∀ M, M < 112 → PLq M := PLqs pl111 ⟨inT3 (List.mem_of_getElem? (i := 26) rfl), plainFor_of_name pn0⟩
set_option maxRecDepth 20000 in
theorem pl113 : ∀ M, M < 113 → PLq M := PLqs pl112 ⟨inT3 (List.mem_of_getElem? (i := 22) rfl), plainFor_of_name pn0⟩
set_option maxRecDepth 20000 in
theorem pl114 : ∀ M, M < 114 → PLq M := PLqs pl113 ⟨inT3 (List.mem_of_getElem? (i := 92) rfl), plainFor_of_name pn0⟩
set_option maxRecDepth 20000 in
theorem pl115 : ∀ M, M < 115 → PLq M := PLqs pl114 ⟨inT3 (List.mem_of_getElem? (i := 99) rfl), plainFor_of_name pn0⟩
set_option maxRecDepth 20000 in
theorem pl116 : ∀ M, M < 116 → PLq M := PLqs pl115 ⟨inT3 (List.mem_of_getElem? (i := 62) rfl), plainFor_of_name pn0⟩
set_option maxRecDepth 20000 in
theorem pl117 : ∀ M, M < 117 → PLq M := PLqs pl116 ⟨inT3 (List.mem_of_getElem? (i := 123) rfl), plainFor_of_name pn0⟩
set_option maxRecDepth 20000 in
theorem pl118 : ∀ M, M < 118 → PLq M := PLqs pl117 ⟨inT3 (List.mem_of_getElem? (i := 127) rfl), plainFor_of_name pn0⟩
set_option maxRecDepth 20000 in
theorem pl119 : ∀ M, M < 119 → PLq M := PLqs pl118 ⟨inT3 (List.mem_of_getElem? (i := 119) rfl), plainFor_of_name pn0⟩
set_option maxRecDepth 20000 in
theorem pl120 : ∀ M, M < 120 → PLq M := PLqs pl119 ⟨inT3 (List.mem_of_getElem? (i := 114) rfl), plainFor_of_name pn0⟩
set_option maxRecDepth 20000 in
theorem pl121 : ∀ M, M < 121 → PLq M := PLqs pl120 ⟨inT3 (List.mem_of_getElem? (i := 144) rfl), plainFor_of_name pn0⟩
set_option maxRecDepth 20000 in
theorem pl122 : ∀ M, M < 122 → PLq M := PLqs pl121 ⟨inT3 (List.mem_of_getElem? (i := 157) rfl), plainFor_of_name pn0⟩
set_option maxRecDepth 20000 in
theorem pl123 : ∀ M, M < 123 → PLq M := PLqs pl122 ⟨inT4 (List.mem_of_getElem? (i := 8) rfl), plainFor_of_name pn0⟩
set_option maxRecDepth 20000 in
theorem pl124 : ∀ M, M < 124 → PLq M := PLqs pl123 ⟨inT4 (List.mem_of_getElem? (i := 12) rfl), plainFor_of_name pn0⟩
set_option maxRecDepth 20000 in
theorem pl125 : ∀ M, M < 125 → PLq M := PLqs pl124 ⟨inT4 (List.mem_of_getElem? (i := 16) rfl), plainFor_of_name pn0⟩
set_option maxRecDepth 20000 in
theorem pl126 : ∀ M, M < 126 → PLq M := PLqs pl125 ⟨inT4 (List.mem_of_getElem? (i := 139) rfl), plainFor_of_name pn11⟩
set_option maxRecDepth 20000 in
theorem pl127 : ∀ M, M < 127 → PLq M := PLqs pl126 ⟨inT5 (List.mem_of_getElem? (i := 32) rfl), plainFor_of_name pn11⟩
set_option maxRecDepth 20000 in
theorem pl128 : ∀ M, M < 128 → PLq M := PLqs pl127 ⟨inT5 (List.mem_of_getElem? (i := 0) rfl), plainFor_of_name pn11⟩
set_option maxRecDepth 20000 in
theorem pl129 : ∀ M, M < 129 → PLq M := PLqs pl128 ⟨inT4 (List.mem_of_getElem? (i := 167) rfl), plainFor_of_name pn11⟩
set_option maxRecDepth 20000 in
theorem pl130 : ∀ M, M < 130 → PLq M := PLqs pl129 ⟨inT4 (List.mem_of_getElem? (i := 155) rfl), plainFor_of_name pn11⟩
set_option maxRecDepth 20000 in
theorem pl131 : ∀ M, M < 131 → PLq M := PLqs pl130 ⟨inT4 (List.mem_of_getElem? (i := 232) rfl), plainFor_of_name pn11⟩
set_option maxRecDepth 20000 in
theorem pl132 : ∀ M, M < 132 → PLq M := PLqs pl131 ⟨inT4 (List.mem_of_getElem? (i := 175) rfl), plainFor_of_name pn11⟩
set_option maxRecDepth 20000 in
theorem pl133 : ∀ M, M < 133 → PLq M := PLqs pl132 ⟨inT5 (List.mem_of_getElem? (i := 4) rfl), plainFor_of_name pn11⟩
set_option maxRecDepth 20000 in
theorem pl134 : ∀ M, M < 134 → PLq M := PLqs pl133 ⟨inT4 (List.mem_of_getElem? (i := 134) rfl), plainFor_of_name pn11⟩
set_option maxRecDepth 20000 in
theorem pl135 : ∀ M, M < 135 → PLq M := PLqs pl134 ⟨inT4 (List.mem_of_getElem? (i := 143) rfl), plainFor_of_name pn11⟩
set_option maxRecDepth 20000 in
theorem pl136 : ∀ M, M < 136 → PLq M := PLqs pl135 ⟨inT4 (List.mem_of_getElem? (i := 147) rfl), plainFor_of_name pn11⟩
set_option maxRecDepth 20000 in
theorem pl137 : ∀ M, M < 137 → PLq M := PLqs pl136 ⟨inT4 (List.mem_of_getElem? (i := 151) rfl), plainFor_of_name pn11⟩
set_option maxRecDepth 20000 in
theorem pl138 : ∀ M, M < 138 → PLq M := PLqs pl137 ⟨inT4 (List.mem_of_getElem? (i := 159) rfl), plainFor_of_name pn11⟩
set_option maxRecDepth 20000 in
theorem pl139 : ∀ M, M < 139 → PLq M := PLqs pl138 ⟨inT4 (List.mem_of_getElem? (i := 163) rfl), plainFor_of_name pn11⟩
set_option maxRecDepth 20000 in
theorem pl140 : ∀ M, M < 140 → PLq M := PLqs pl139 ⟨inT4 (List.mem_of_getElem? (i := 171) rfl), plainFor_of_name pn11⟩
set_option maxRecDepth 20000 in
theorem pl141 : ∀ M, M < 141 → PLq M := PLqs pl140 ⟨inT4 (List.mem_of_getElem? (i := 179) rfl), plainFor_of_name pn11⟩
set_option maxRecDepth 20000 in
theorem pl142 : ∀ M, M < 142 → PLq M := PLqs pl141 ⟨inT4 (List.mem_of_getElem? (i := 224) rfl), plainFor_of_name pn11⟩
set_option maxRecDepth 20000 in
theorem pl143 : ∀ M, M < 143 → PLq M := PLqs pl142 ⟨inT4 (List.mem_of_getElem? (i := 192) rfl), plainFor_of_name pn11⟩
set_option maxRecDepth 20000 in
theorem pl144 : ∀ M, M < 144 → PLq M := PLqs pl143 ⟨inT4 (List.mem_of_getElem? (i := 187) rfl), plainFor_of_name pn11⟩
set_option maxRecDepth 20000 in
theorem pl145 : ∀ M, M < 145 → PLq M := PLqs pl144 ⟨inT4 (List.mem_of_getElem? (i := 183) rfl), plainFor_of_name pn11⟩
set_option maxRecDepth 20000 in
theorem pl146 : ∀ M, M < 146 → PLq M := PLqs pl145 ⟨inT4 (List.mem_of_getElem? (i := 196) rfl), plainFor_of_name pn11⟩
set_option maxRecDepth 20000 in
theorem pl147 : ∀ M, M < 147 → PLq M := PLqs pl146 ⟨inT4 (List.mem_of_getElem? (i := 200) rfl), plainFor_of_name pn11⟩
set_option maxRecDepth 20000 in
theorem pl148 : ∀ M, M < 148 → PLq M := PLqs pl147 ⟨inT4 (List.mem_of_getElem? (i := 204) rfl), plainFor_of_name pn11⟩
set_option maxRecDepth 20000 in
theorem pl149 : ∀ M, M < 149 → PLq M := PLqs pl148 ⟨inT4 (List.mem_of_getElem? (i := 208) rfl), plainFor_of_name pn11⟩
set_option maxRecDepth 20000 in
theorem pl150 : ∀ M, M < 150 → PLq M := PLqs pl149 ⟨inT4 (List.mem_of_getElem? (i := 212) rfl), plainFor_of_name pn11⟩
set_option maxRecDepth 20000 in
theorem pl151 : ∀ M, M < 151 → PLq M := PLqs pl150 ⟨inT4 (List.mem_of_getElem? (i := 220) rfl), plainFor_of_name pn11⟩
set_option maxRecDepth 20000 in
theorem pl152 : ∀ M, M < 152 → PLq M := PLqs pl151 ⟨inT4 (List.mem_of_getElem? (i := 236) rfl), plainFor_of_name pn11⟩
set_option maxRecDepth 20000 in
theorem pl153 : ∀ M, M < 153 → PLq M := PLqs pl152 ⟨inT4 (List.mem_of_getElem? (i := 228) rfl), plainFor_of_name pn11⟩
set_option maxRecDepth 20000 in
theorem pl154 : ∀ M, M < 154 → PLq M := PLqs pl153 ⟨inT5 (List.mem_of_getElem? (i := 12) rfl), plainFor_of_name pn11⟩
set_option maxRecDepth 20000 in
theorem pl155 : ∀ M, M < 155 → PLq M := PLqs pl154 ⟨inT5 (List.mem_of_getElem? (i := 8) rfl), plainFor_of_name pn11⟩
set_option maxRecDepth 20000 in
theorem pl156 : ∀ M, M < 156 → PLq M := PLqs pl155 ⟨inT5 (List.mem_of_getElem? (i := 20) rfl), plainFor_of_name pn11⟩
set_option maxRecDepth 20000 in
theorem pl157 : ∀ M, M < 157 → PLq M := PLqs pl156 ⟨inT5 (List.mem_of_getElem? (i := 16) rfl), plainFor_of_name pn11⟩
set_option maxRecDepth 20000 in
theorem pl158 : ∀ M, M < 158 → PLq M := PLqs pl157 ⟨inT5 (List.mem_of_getElem? (i := 28) rfl), plainFor_of_name pn11⟩
set_option maxRecDepth 20000 in
theorem pl159 : ∀ M, M < 159 → PLq M := PLqs pl158 ⟨inT5 (List.mem_of_getElem? (i := 24) rfl), plainFor_of_name pn11⟩
set_option maxRecDepth 20000 in
theorem pl160 : ∀ M, M < 160 → PLq M := PLqs pl159 ⟨inT5 (List.mem_of_getElem? (i := 44) rfl), plainFor_of_name pn11⟩
set_option maxRecDepth 20000 in
theorem pl161 : ∀ M, M < 161 → PLq M := PLqs pl160 ⟨inT5 (List.mem_of_getElem? (i := 48) rfl), plainFor_of_name pn11⟩
set_option maxRecDepth 20000 in
theorem pl162 : ∀ M, M < 162 → PLq M := PLqs pl161 ⟨inT5 (List.mem_of_getElem? (i := 40) rfl), plainFor_of_name pn11⟩
set_option maxRecDepth 20000 in
theorem pl163 : ∀ M, M < 163 → PLq M := PLqs pl162 ⟨inT5 (List.mem_of_getElem? (i := 36) rfl), plainFor_of_name pn11⟩
set_option maxRecDepth 20000 in
theorem pl164 : ∀ M, M < 164 → PLq M := PLqs pl163 ⟨inT5 (List.mem_of_getElem? (i := 56) rfl), plainFor_of_name pn11⟩
set_option maxRecDepth 20000 in
theorem pl165 : ∀ M, M < 165 → PLq M := PLqs pl164 ⟨inT5 (List.mem_of_getElem? (i := 52) rfl), plainFor_of_name pn11⟩
set_option maxRecDepth 20000 in
theorem pl166 : ∀ M, M < 166 → PLq M := PLqs pl165 ⟨inT5 (List.mem_of_getElem? (i := 60) rfl), plainFor_of_name pn11⟩
set_option maxRecDepth 20000 in
theorem pl167 : ∀ M, M < 167 → PLq M := PLqs pl166 ⟨inT5 (List.mem_of_getElem? (i := 72) rfl), plainFor_of_name pn11⟩
set_option maxRecDepth 20000 in
theorem pl168 : ∀ M, M < 168 → PLq M := PLqs pl167 ⟨inT5 (List.mem_of_getElem? (i := 68) rfl), plainFor_of_name pn11⟩
set_option maxRecDepth 20000 in
theorem pl169 : ∀ M, M < 169 → PLq M := PLqs pl168 ⟨inT5 (List.mem_of_getElem? (i := 64) rfl), plainFor_of_name pn11⟩
set_option maxRecDepth 20000 in
theorem pl170 : ∀ M, M < 170 → PLq M := PLqs pl169 ⟨inT5 (List.mem_of_getElem? (i := 76) rfl), plainFor_of_name pn11⟩
set_option maxRecDepth 20000 in
theorem pl171 : ∀ M, M < 171 → PLq M := PLqs pl170 ⟨inT5 (List.mem_of_getElem? (i := 88) rfl), plainFor_of_name pn11⟩
set_option maxRecDepth 20000 in
theorem pl172 : ∀ M, M < 172 → PLq M := PLqs pl171 ⟨inT5 (List.mem_of_getElem? (i := 84) rfl), plainFor_of_name pn11⟩
set_option maxRecDepth 20000 in
theorem pl173 : ∀ M, M < 173 → PLq M := PLqs pl172 ⟨inT5 (List.mem_of_getElem? (i := 80) rfl), plainFor_of_name pn11⟩
set_option maxRecDepth 20000 in
theorem pl174 : ∀ M, M < 174 → PLq M := PLqs pl173 ⟨inT5 (List.mem_of_getElem? (i := 92) rfl), plainFor_of_name pn11⟩
set_option maxRecDepth 20000 in
theorem pl175 : ∀ M, M < 175 → PLq M := PLqs pl174 ⟨inT5 (List.mem_of_getElem? (i := 96) rfl), plainFor_of_name pn11⟩
set_option maxRecDepth 20000 in
theorem pl176 : ∀ M, M < 176 → PLq M := PLqs pl175 ⟨inT6 (List.mem_of_getElem? (i := 40) rfl), plainFor_of_name pn11⟩
set_option maxRecDepth 20000 in
theorem pl177 : ∀ M, M < 177 → PLq M := PLqs pl176 ⟨inT6 (List.mem_of_getElem? (i := 48) rfl), plainFor_of_name pn11⟩
set_option maxRecDepth 20000 in
theorem pl178 : ∀ M, M < 178 → PLq M := PLqs pl177 ⟨inT6 (List.mem_of_getElem? (i := 44) rfl), plainFor_of_name pn11⟩
set_option maxRecDepth 20000 in
theorem pl179 : ∀ M, M < 179 → PLq M := PLqs pl178 ⟨inT6 (List.mem_of_getElem? (i := 52) rfl), plainFor_of_name pn11⟩
set_option maxRecDepth 20000 in
theorem pl180 : ∀ M, M < 180 → PLq M := PLqs pl179 ⟨inT6 (List.mem_of_getElem? (i := 64) rfl), plainFor_of_name pn11⟩
set_option maxRecDepth 20000 in
theorem pl181 : ∀ M, M < 181 → PLq M := PLqs pl180 ⟨inT6 (List.mem_of_getElem? (i := 76) rfl), plainFor_of_name pn11⟩
set_option maxRecDepth 20000 in
theorem pl182 : ∀ M, M < 182 → PLq M := PLqs pl181 ⟨inT6 (List.mem_of_getElem? (i := 80) rfl), plainFor_of_name pn11⟩
set_option maxRecDepth 20000 in
theorem pl183 : ∀ M, M < 183 → PLq M := PLqs pl182 ⟨inT6 (List.mem_of_getElem? (i := 84) rfl), plainFor_of_name pn11⟩
set_option maxRecDepth 20000 in
theorem pl184 : ∀ M, M < 184 → PLq M := PLqs pl183 ⟨inT6 (List.mem_of_getElem? (i := 72) rfl), plainFor_of_name pn11⟩
set_option maxRecDepth 20000 in
theorem pl185 : ∀ M, M < 185 → PLq M := PLqs pl184 ⟨inT6 (List.mem_of_getElem? (i := 68) rfl), plainFor_of_name pn11⟩
set_option maxRecDepth 20000 in
theorem pl186 : ∀ M, M < 186 → PLq M := PLqs pl185 ⟨inT6 (List.mem_of_getElem? (i := 60) rfl), plainFor_of_name pn11⟩
set_option maxRecDepth 20000 in
theorem pl187 : ∀ M, M < 187 → PLq M := PLqs pl186 ⟨inT6 (List.mem_of_getElem? (i := 56) rfl), plainFor_of_name pn11⟩
set_option maxRecDepth 20000 in
theorem pl188 : ∀ M, M < 188 → PLq M := PLqs pl187 ⟨inT6 (List.mem_of_getElem? (i := 96) rfl), plainFor_of_name pn11⟩
set_option maxRecDepth 20000 in
theorem pl189 : ∀ M, M < 189 → PLq M := PLqs pl188 ⟨inT6 (List.mem_of_getElem? (i := 92) rfl), plainFor_of_name pn11⟩
set_option maxRecDepth 20000 in
theorem pl190 : ∀ M, M < 190 → PLq M := PLqs pl189 ⟨inT6 (List.mem_of_getElem? (i := 88) rfl), plainFor_of_name pn11⟩
set_option maxRecDepth 20000 in
theorem pl191 : ∀ M, M < 191 → PLq M := PLqs pl190 ⟨inT6 (List.mem_of_getElem? (i := 100) rfl), plainFor_of_name pn11⟩
set_option maxRecDepth 20000 in
theorem pl192 : ∀ M, M < 192 → PLq M := PLqs pl191 ⟨inT6 (List.mem_of_getElem? (i := 116) rfl), plainFor_of_name pn11⟩
set_option maxRecDepth 20000 in
theorem pl193 : ∀ M, M < 193 → PLq M := PLqs pl192 ⟨inT6 (List.mem_of_getElem? (i := 120) rfl), plainFor_of_name pn11⟩
set_option maxRecDepth 20000 in
theorem pl194 : ∀ M, M < 194 → PLq M := PLqs pl193 ⟨inT6 (List.mem_of_getElem? (i := 112) rfl), plainFor_of_name pn11⟩
set_option maxRecDepth 20000 in
theorem pl195 : ∀ M, M < 195 → PLq M := PLqs pl194 ⟨inT6 (List.mem_of_getElem? (i := 108) rfl), plainFor_of_name pn11⟩
set_option maxRecDepth 20000 in
theorem pl196 : ∀ M, M < 196 → PLq M := PLqs pl195 ⟨inT6 (List.mem_of_getElem? (i := 104) rfl), plainFor_of_name pn11⟩
set_option maxRecDepth 20000 in
theorem pl197 : ∀ M, M < 197 → PLq M := PLqs pl196 ⟨inT6 (List.mem_of_getElem? (i := 124) rfl), plainFor_of_name pn11⟩
set_option maxRecDepth 20000 in
theorem pl198 : ∀ M, M < 198 → PLq M := PLqs pl197 ⟨inT6 (List.mem_of_getElem? (i := 128) rfl), plainFor_of_name pn11⟩
set_option maxRecDepth 20000 in
theorem pl199 : ∀ M, M < 199 → PLq M := PLqs pl198 ⟨inT6 (List.mem_of_getElem? (i := 144) rfl), plainFor_of_name pn11⟩
set_option maxRecDepth 20000 in
theorem pl200 : ∀ M, M < 200 → PLq M := PLqs pl199 ⟨inT6 (List.mem_of_getElem? (i := 148) rfl), plainFor_of_name pn11⟩
set_option maxRecDepth 20000 in
theorem pl201 : ∀ M, M < 201 → PLq M := PLqs pl200 ⟨inT6 (List.mem_of_getElem? (i := 140) rfl), plainFor_of_name pn11⟩
set_option maxRecDepth 20000 in
theorem pl202 : ∀ M, M < 202 → PLq M := PLqs pl201 ⟨inT6 (List.mem_of_getElem? (i := 136) rfl), plainFor_of_name pn11⟩
set_option maxRecDepth 20000 in
theorem pl203 : ∀ M, M < 203 → PLq M := PLqs pl202 ⟨inT6 (List.mem_of_getElem? (i := 156) rfl), plainFor_of_name pn11⟩
set_option maxRecDepth 20000 in
theorem pl204 : ∀ M, M < 204 → PLq M := PLqs pl203 ⟨inT6 (List.mem_of_getElem? (i := 152) rfl), plainFor_of_name pn11⟩
set_option maxRecDepth 20000 in
theorem pl205 : ∀ M, M < 205 → PLq M := PLqs pl204 ⟨inT6 (List.mem_of_getElem? (i := 168) rfl), plainFor_of_name pn11⟩
set_option maxRecDepth 20000 in
theorem pl206 : ∀ M, M < 206 → PLq M := PLqs pl205 ⟨inT6 (List.mem_of_getElem? (i := 164) rfl), plainFor_of_name pn11⟩
set_option maxRecDepth 20000 in
theorem pl207 : ∀ M, M < 207 → PLq M := PLqs pl206 ⟨inT6 (List.mem_of_getElem? (i := 160) rfl), plainFor_of_name pn11⟩
set_option maxRecDepth 20000 in
theorem pl208 : ∀ M, M < 208 → PLq M := PLqs pl207 ⟨inT6 (List.mem_of_getElem? (i := 132) rfl), plainFor_of_name pn11⟩
set_option maxRecDepth 20000 in
theorem pl209 : ∀ M, M < 209 → PLq M := PLqs pl208 ⟨inT6 (List.mem_of_getElem? (i := 172) rfl), plainFor_of_name pn11⟩
set_option maxRecDepth 20000 in
theorem pl210 : ∀ M, M < 210 → PLq M := PLqs pl209 ⟨inT6 (List.mem_of_getElem? (i := 176) rfl), plainFor_of_name pn11⟩
set_option maxRecDepth 20000 in
theorem pl211 : ∀ M, M < 211 → PLq M := PLqs pl210 ⟨inT6 (List.mem_of_getElem? (i := 180) rfl), plainFor_of_name pn11⟩
set_option maxRecDepth 20000 in
theorem pl212 : ∀ M, M < 212 → PLq M := PLqs pl211 ⟨inT4 (List.mem_of_getElem? (i := 216) rfl), plainFor_of_name pn11⟩
set_option maxRecDepth 20000 in
theorem pl213 : ∀ M, M < 213 → PLq M := PLqs pl212 ⟨inT6 (List.mem_of_getElem? (i := 184) rfl), plainFor_of_name pn11⟩
set_option maxRecDepth 20000 in
theorem pl214 : ∀ M, M < 214 → PLq M := PLqs pl213 ⟨inT6 (List.mem_of_getElem? (i := 188) rfl), plainFor_of_name pn11⟩
set_option maxRecDepth 20000 in
theorem pl215 : ∀ M, M < 215 → PLq M := PLqs pl214 ⟨inT6 (List.mem_of_getElem? (i := 194) rfl), plainFor_of_name pn11⟩
set_option maxRecDepth 20000 in
theorem pl216 : ∀ M, M < 216 → PLq M := PLqs pl215 ⟨inT6 (List.mem_of_getElem? (i := 198) rfl), plainFor_of_name pn11⟩
set_option maxRecDepth 20000 in
theorem pl217 : ∀ M, M < 217 → PLq M := PLqs pl216 ⟨inT3 (List.mem_of_getElem? (i := 208) rfl), plainFor_of_name pn12⟩
set_option maxRecDepth 20000 in
theorem pl218 : ∀ M, M < 218 → PLq M := PLqs pl217 ⟨inT1 (List.mem_of_getElem? (i := 181) rfl), plainFor_of_name pn12⟩
set_option maxRecDepth 20000 in
theorem pl219 : ∀ M, M < 219 → PLq M := PLqs pl218 ⟨inT3 (List.mem_of_getElem? (i := 95) rfl), pf218⟩
set_option maxRecDepth 20000 in
theorem pl220 : ∀ M, M < 220 → PLq M := PLqs pl219 ⟨inT3 (List.mem_of_getElem? (i := 18) rfl), pf219⟩
set_option maxRecDepth 20000 in
theorem pl221 : ∀ M, M < 221 → PLq M := PLqs pl220 ⟨inT2 (List.mem_of_getElem? (i := 223) rfl), pf220⟩
set_option maxRecDepth 20000 in
theorem pl222 : ∀ M, M < 222 → PLq M := PLqs pl221 ⟨inT2 (List.mem_of_getElem? (i := 220) rfl), pf221⟩
set_option maxRecDepth 20000 in
theorem pl223 : ∀ M, M < 223 → PLq M := PLqs pl222 ⟨inT1 (List.mem_of_getElem? (i := 60) rfl), plainFor_of_name pn14⟩
set_option maxRecDepth 20000 in
theorem pl224 : ∀ M, M < 224 → PLq M := PLqs pl223 ⟨inT3 (List.mem_of_getElem? (i := 212) rfl), plainFor_of_name pn14⟩
theorem tC_in (M : Nat) (h : M < nM) : Cond.code (mY M) (mC M) (mL M) (mT M) ∈ lw_tbl := (pl224 M h).1
theorem tC_pl (M : Nat) (h : M < nM) : plainFor (mY M) = true := (pl224 M h).2
theorem tF_of {C : String} {T : u_T} {N : Nat} (ix : List Nat) (h : (List.range N).all (fun k => decide (lw_tbl[ix.getD k 0]? = some (u_lay C T k)) && goodWord (u_lay C T k)) = true) : ∀ w ∈ u_ws C T N, w ∈ lw_tbl ∧ goodWord w = true := fun w hw => by
  obtain ⟨k, hk, rfl⟩ := List.mem_map.mp hw
  have := List.all_eq_true.mp h k hk
  simp only [Bool.and_eq_true, decide_eq_true_eq] at this
  exact ⟨List.mem_of_getElem? this.1, this.2⟩
theorem tF0 : ∀ w ∈ u_ws RX0 TX0 2, w ∈ lw_tbl ∧ goodWord w = true := tF_of [283, 285] (by decide +kernel)
theorem tF1 : ∀ w ∈ u_ws RX1 TX1 2, w ∈ lw_tbl ∧ goodWord w = true := tF_of [141, 143] (by decide +kernel)
theorem tF2 : ∀ w ∈ u_ws RX2 TX2 4, w ∈ lw_tbl ∧ goodWord w = true := tF_of [118, 120, 122, 124] (by decide +kernel)
theorem tF3 : ∀ w ∈ u_ws RX3 TX3 3, w ∈ lw_tbl ∧ goodWord w = true := tF_of [790, 792, 794] (by decide +kernel)
theorem tF4 : ∀ w ∈ u_ws RX4 TX4 10, w ∈ lw_tbl ∧ goodWord w = true := tF_of [177, 179, 181, 183, 185, 187, 189, 191, 193, 195] (by decide +kernel)
theorem tF5 : ∀ w ∈ u_ws RX5 TX5 3, w ∈ lw_tbl ∧ goodWord w = true := tF_of [266, 268, 270] (by decide +kernel)
theorem tF6 : ∀ w ∈ u_ws RX6 TX6 5, w ∈ lw_tbl ∧ goodWord w = true := tF_of [238, 240, 242, 244, 246] (by decide +kernel)
theorem tF7 : ∀ w ∈ u_ws RX7 TX7 9, w ∈ lw_tbl ∧ goodWord w = true := tF_of [451, 453, 455, 457, 459, 461, 463, 465, 467] (by decide +kernel)
theorem tF8 : ∀ w ∈ u_ws RX8 TX8 3, w ∈ lw_tbl ∧ goodWord w = true := tF_of [301, 303, 305] (by decide +kernel)
theorem tF9 : ∀ w ∈ u_ws RX9 TX9 5, w ∈ lw_tbl ∧ goodWord w = true := tF_of [210, 212, 214, 216, 218] (by decide +kernel)
theorem tF10 : ∀ w ∈ u_ws RX10 TX10 18, w ∈ lw_tbl ∧ goodWord w = true := tF_of [326, 328, 330, 332, 334, 336, 338, 340, 342, 344, 346, 348, 350, 352, 354, 356, 358, 360] (by decide +kernel)
theorem tF11 : ∀ w ∈ u_ws RX11 TX11 59, w ∈ lw_tbl ∧ goodWord w = true := tF_of [1193, 1195, 1197, 1199, 1201, 1203, 1205, 1207, 1209, 1211, 1213, 1215, 1217, 1219, 1221, 1223, 1225, 1227, 1229, 1231, 1233, 1235, 1237, 1239, 1241, 1243, 1245, 1247, 1249, 1251, 1253, 1255, 1257, 1259, 1261, 1263, 1265, 1267, 1269, 1271, 1273, 1275, 1277, 1279, 1281, 1283, 1285, 1287, 1289, 1291, 1293, 1295, 1297, 1299, 1301, 1303, 1305, 1307, 1309] (by decide +kernel)
theorem tabs : q_tabs mY mC mL mT lw_tbl nM := ⟨tC_in, fun ci q hq => by
  match ci, hq with
  | 0, hq => cases hq; exact tF0
  | 1, hq => cases hq; exact tF1
  | 2, hq => cases hq; exact tF2
  | 3, hq => cases hq; exact tF3
  | 4, hq => cases hq; exact tF4
  | 5, hq => cases hq; exact tF5
  | 6, hq => cases hq; exact tF6
  | 7, hq => cases hq; exact tF7
  | 8, hq => cases hq; exact tF8
  | 9, hq => cases hq; exact tF9
  | 10, hq => cases hq; exact tF10
  | 11, hq => cases hq; exact tF11
  | n + 12, hq => exact absurd hq (by simp [vwCl])⟩
def PQ (M : Nat) : Prop := (mP M).all (fun q => chkL mY mC mL mT lw_tbl nM M q.1 q.2) = true
theorem PQs {a : Nat} (h : ∀ M, M < a → PQ M) (k : PQ a) : ∀ M, M < a + 1 → PQ M := fun M hM => by
  rcases Nat.lt_or_ge M a with g | g
  · exact h M g
  · rw [show M = a by omega]; exact k
theorem PQ_of {M : Nat} {q : List (Nat × List PI)} (e : mP M = q) (k : q.all (fun z => chkL mY mC mL mT lw_tbl nM M z.1 z.2) = true) : PQ M := by
  unfold PQ; rw [e]; exact k
theorem pq0 : ∀ M, M < 0 → PQ M := fun M h => absurd h (Nat.not_lt_zero M)
theorem pq1 : ∀ M, M < 1 → PQ M := PQs pq0 (PQ_of (q := p0) rfl k0)
theorem pq2 : ∀ M, M < 2 → PQ M := PQs pq1 (PQ_of (q := p1) rfl k1)
theorem pq3 : ∀ M, M < 3 → PQ M := PQs pq2 (PQ_of (q := p2) rfl k2)
theorem pq4 : ∀ M, M < 4 → PQ M := PQs pq3 (PQ_of (q := p3) rfl k3)
theorem pq5 : ∀ M, M < 5 → PQ M := PQs pq4 (PQ_of (q := p4) rfl k4)
theorem pq6 : ∀ M, M < 6 → PQ M := PQs pq5 (PQ_of (q := p5) rfl k5)
theorem pq7 : ∀ M, M < 7 → PQ M := PQs pq6 (PQ_of (q := p6) rfl k6)
theorem pq8 : ∀ M, M < 8 → PQ M := PQs pq7 (PQ_of (q := p7) rfl k7)
theorem pq9 : ∀ M, M < 9 → PQ M := PQs pq8 (PQ_of (q := p8) rfl k8)
theorem pq10 : ∀ M, M < 10 → PQ M := PQs pq9 (PQ_of (q := p9) rfl k9)
theorem pq11 : ∀ M, M < 11 → PQ M := PQs pq10 (PQ_of (q := p10) rfl k10)
theorem pq12 : ∀ M, M < 12 → PQ M := PQs pq11 (PQ_of (q := p11) rfl k11)
theorem pq13 : ∀ M, M < 13 → PQ M := PQs pq12 (PQ_of (q := p12) rfl k12)
theorem pq14 : ∀ M, M < 14 → PQ M := PQs pq13 (PQ_of (q := p13) rfl k13)
theorem pq15 : ∀ M, M < 15 → PQ M := PQs pq14 (PQ_of (q := p14) rfl k14)
theorem pq16 : ∀ M, M < 16 → PQ M := PQs pq15 (PQ_of (q := p15) rfl k15)
theorem pq17 : ∀ M, M < 17 → PQ M := PQs pq16 (PQ_of (q := p16) rfl k16)
theorem pq18 : ∀ M, M < 18 → PQ M := PQs pq17 (PQ_of (q := p17) rfl k17)
theorem pq19 : ∀ M, M < 19 → PQ M := PQs pq18 (PQ_of (q := p18) rfl k18)
theorem pq20 : ∀ M, M < 20 → PQ M := PQs pq19 (PQ_of (q := p19) rfl k19)
theorem pq21 : ∀ M, M < 21 → PQ M := PQs pq20 (PQ_of (q := p20) rfl k20)
theorem pq22 : ∀ M, M < 22 → PQ M := PQs pq21 (PQ_of (q := p21) rfl k21)
theorem pq23 : ∀ M, M < 23 → PQ M := PQs pq22 (PQ_of (q := p22) rfl k22)
theorem pq24 : ∀ M, M < 24 → PQ M := PQs pq23 (PQ_of (q := p23) rfl k23)
theorem pq25 : ∀ M, M < 25 → PQ M := PQs pq24 (PQ_of (q := p24) rfl k24)
theorem pq26 : ∀ M, M < 26 → PQ M := PQs pq25 (PQ_of (q := p25) rfl k25)
theorem pq27 : ∀ M, M < 27 → PQ M := PQs pq26 (PQ_of (q := p26) rfl k26)
theorem pq28 : ∀ M, M < 28 → PQ M := PQs pq27 (PQ_of (q := p27) rfl k27)
theorem pq29 : ∀ M, M < 29 → PQ M := PQs pq28 (PQ_of (q := p28) rfl k28)
theorem pq30 : ∀ M, M < 30 → PQ M := PQs pq29 (PQ_of (q := p29) rfl k29)
theorem pq31 : ∀ M, M < 31 → PQ M := PQs pq30 (PQ_of (q := p30) rfl k30)
theorem pq32 : ∀ M, M < 32 → PQ M := PQs pq31 (PQ_of (q := p31) rfl k31)
theorem pq33 : ∀ M, M < 33 → PQ M := PQs pq32 (PQ_of (q := p32) rfl k32)
theorem pq34 : ∀ M, M < 34 → PQ M := PQs pq33 (PQ_of (q := p33) rfl k33)
theorem pq35 : ∀ M, M < 35 → PQ M := PQs pq34 (PQ_of (q := p34) rfl k34)
theorem pq36 : ∀ M, M < 36 → PQ M := PQs pq35 (PQ_of (q := p35) rfl k35)
theorem pq37 : ∀ M, M < 37 → PQ M := PQs pq36 (PQ_of (q := p36) rfl k36)
theorem pq38 : ∀ M, M < 38 → PQ M := PQs pq37 (PQ_of (q := p37) rfl k37)
theorem pq39 : ∀ M, M < 39 → PQ M := PQs pq38 (PQ_of (q := p38) rfl k38)
theorem pq40 : ∀ M, M < 40 → PQ M := PQs pq39 (PQ_of (q := p39) rfl k39)
theorem pq41 : ∀ M, M < 41 → PQ M := PQs pq40 (PQ_of (q := p40) rfl k40)
theorem pq42 : ∀ M, M < 42 → PQ M := PQs pq41 (PQ_of (q := p41) rfl k41)
theorem pq43 : ∀ M, M < 43 → PQ M := PQs pq42 (PQ_of (q := p42) rfl k42)
theorem pq44 : ∀ M, M < 44 → PQ M := PQs pq43 (PQ_of (q := p43) rfl k43)
theorem pq45 : ∀ M, M < 45 → PQ M := PQs pq44 (PQ_of (q := p44) rfl k44)
theorem pq46 : ∀ M, M < 46 → PQ M := PQs pq45 (PQ_of (q := p45) rfl k45)
theorem pq47 : ∀ M, M < 47 → PQ M := PQs pq46 (PQ_of (q := p46) rfl k46)
theorem pq48 : ∀ M, M < 48 → PQ M := PQs pq47 (PQ_of (q := p47) rfl k47)
theorem pq49 : ∀ M, M < 49 → PQ M := PQs pq48 (PQ_of (q := p48) rfl k48)
theorem pq50 : ∀ M, M < 50 → PQ M := PQs pq49 (PQ_of (q := p49) rfl k49)
theorem pq51 : ∀ M, M < 51 → PQ M := PQs pq50 (PQ_of (q := p50) rfl k50)
theorem pq52 : ∀ M, M < 52 → PQ M := PQs pq51 (PQ_of (q := p51) rfl k51)
theorem pq53 : ∀ M, M < 53 → PQ M := PQs pq52 (PQ_of (q := p52) rfl k52)
theorem pq54 : ∀ M, M < 54 → PQ M := PQs pq53 (PQ_of (q := p53) rfl k53)
theorem pq55 : ∀ M, M < 55 → PQ M := PQs pq54 (PQ_of (q := p54) rfl k54)
theorem pq56 : ∀ M, M < 56 → PQ M := PQs pq55 (PQ_of (q := p55) rfl k55)
theorem pq57 : ∀ M, M < 57 → PQ M := PQs pq56 (PQ_of (q := p56) rfl k56)
theorem pq58 : ∀ M, M < 58 → PQ M := PQs pq57 (PQ_of (q := p57) rfl k57)
theorem pq59 : ∀ M, M < 59 → PQ M := PQs pq58 (PQ_of (q := p58) rfl k58)
theorem pq60 : ∀ M, M < 60 → PQ M := PQs pq59 (PQ_of (q := p59) rfl k59)
theorem pq61 : ∀ M, M < 61 → PQ M := PQs pq60 (PQ_of (q := p60) rfl k60)
theorem pq62 : ∀ M, M < 62 → PQ M := PQs pq61 (PQ_of (q := p61) rfl k61)
theorem pq63 : ∀ M, M < 63 → PQ M := PQs pq62 (PQ_of (q := p62) rfl k62)
theorem pq64 : ∀ M, M < 64 → PQ M := PQs pq63 (PQ_of (q := p63) rfl k63)
theorem pq65 : ∀ M, M < 65 → PQ M := PQs pq64 (PQ_of (q := p64) rfl k64)
theorem pq66 : ∀ M, M < 66 → PQ M := PQs pq65 (PQ_of (q := p65) rfl k65)
theorem pq67 : ∀ M, M < 67 → PQ M := PQs pq66 (PQ_of (q := p66) rfl k66)
theorem pq68 : ∀ M, M < 68 → PQ M := PQs pq67 (PQ_of (q := p67) rfl k67)
theorem pq69 : ∀ M, M < 69 → PQ M := PQs pq68 (PQ_of (q := p68) rfl k68)
theorem pq70 : ∀ M, M < 70 → PQ M := PQs pq69 (PQ_of (q := p69) rfl k69)
theorem pq71 : ∀ M, M < 71 → PQ M := PQs pq70 (PQ_of (q := p70) rfl k70)
theorem pq72 : ∀ M, M < 72 → PQ M := PQs pq71 (PQ_of (q := p71) rfl k71)
theorem pq73 : ∀ M, M < 73 → PQ M := PQs pq72 (PQ_of (q := p72) rfl k72)
theorem pq74 : ∀ M, M < 74 → PQ M := PQs pq73 (PQ_of (q := p73) rfl k73)
theorem pq75 : ∀ M, M < 75 → PQ M := PQs pq74 (PQ_of (q := p74) rfl k74)
theorem pq76 : ∀ M, M < 76 → PQ M := PQs pq75 (PQ_of (q := p75) rfl k75)
theorem pq77 : ∀ M, M < 77 → PQ M := PQs pq76 (PQ_of (q := p76) rfl k76)
theorem pq78 : ∀ M, M < 78 → PQ M := PQs pq77 (PQ_of (q := p77) rfl k77)
theorem pq79 : ∀ M, M < 79 → PQ M := PQs pq78 (PQ_of (q := p78) rfl k78)
theorem pq80 : ∀ M, M < 80 → PQ M := PQs pq79 (PQ_of (q := p79) rfl k79)
theorem pq81 : ∀ M, M < 81 → PQ M := PQs pq80 (PQ_of (q := p80) rfl k80)
theorem pq82 : ∀ M, M < 82 → PQ M := PQs pq81 (PQ_of (q := p81) rfl k81)
theorem pq83 : ∀ M, M < 83 → PQ M := PQs pq82 (PQ_of (q := p82) rfl k82)
theorem pq84 : ∀ M, M < 84 → PQ M := PQs pq83 (PQ_of (q := p83) rfl k83)
theorem pq85 : ∀ M, M < 85 → PQ M := PQs pq84 (PQ_of (q := p84) rfl k84)
theorem pq86 : ∀ M, M < 86 → PQ M := PQs pq85 (PQ_of (q := p85) rfl k85)
theorem pq87 : ∀ M, M < 87 → PQ M := PQs pq86 (PQ_of (q := p86) rfl k86)
theorem pq88 : ∀ M, M < 88 → PQ M := PQs pq87 (PQ_of (q := p87) rfl k87)
theorem pq89 : ∀ M, M < 89 → PQ M := PQs pq88 (PQ_of (q := p88) rfl k88)
theorem pq90 : ∀ M, M < 90 → PQ M := PQs pq89 (PQ_of (q := p89) rfl k89)
theorem pq91 : ∀ M, M < 91 → PQ M := PQs pq90 (PQ_of (q := p90) rfl k90)
theorem pq92 : ∀ M, M < 92 → PQ M := PQs pq91 (PQ_of (q := p91) rfl k91)
theorem pq93 : ∀ M, M < 93 → PQ M := PQs pq92 (PQ_of (q := p92) rfl k92)
theorem pq94 : ∀ M, M < 94 → PQ M := PQs pq93 (PQ_of (q := p93) rfl k93)
theorem pq95 : ∀ M, M < 95 → PQ M := PQs pq94 (PQ_of (q := p94) rfl k94)
theorem pq96 : ∀ M, M < 96 → PQ M := PQs pq95 (PQ_of (q := p95) rfl k95)
theorem pq97 : ∀ M, M < 97 → PQ M := PQs pq96 (PQ_of (q := p96) rfl k96)
theorem pq98 : ∀ M, M < 98 → PQ M := PQs pq97 (PQ_of (q := p97) rfl k97)
theorem pq99 : ∀ M, M < 99 → PQ M := PQs pq98 (PQ_of (q := p98) rfl k98)
theorem pq100 : ∀ M, M < 100 → PQ M := PQs pq99 (PQ_of (q := p99) rfl k99)
theorem pq101 : ∀ M, M < 101 → PQ M := PQs pq100 (PQ_of (q := p100) rfl k100)
theorem pq102 : ∀ M, M < 102 → PQ M := PQs pq101 (PQ_of (q := p101) rfl k101)
theorem pq103 : ∀ M, M < 103 → PQ M := PQs pq102 (PQ_of (q := p102) rfl k102)
theorem pq104 : ∀ M, M < 104 → PQ M := PQs pq103 (PQ_of (q := p103) rfl k103)
theorem pq105 : ∀ M, M < 105 → PQ M := PQs pq104 (PQ_of (q := p104) rfl k104)
theorem pq106 : ∀ M, M < 106 → PQ M := PQs pq105 (PQ_of (q := p105) rfl k105)
theorem pq107 : ∀ M, M < 107 → PQ M := PQs pq106 (PQ_of (q := p106) rfl k106)
theorem pq108 : ∀ M, M < 108 → PQ M := PQs pq107 (PQ_of (q := p107) rfl k107)
theorem pq109 : ∀ M, M < 109 → PQ M := PQs pq108 (PQ_of (q := p108) rfl k108)
theorem pq110 : ∀ M, M < 110 → PQ M := PQs pq109 (PQ_of (q := p109) rfl k109)
theorem pq111 : ∀ M, M < 111 → PQ M := PQs pq110 (PQ_of (q := p110) rfl k110)
theorem pq112 : ∀ M, M < 112 → PQ M := PQs pq111 (PQ_of (q := p111) rfl k111)
theorem pq113 : ∀ M, M < 113 → PQ M := PQs pq112 (PQ_of (q := p112) rfl k112)
theorem pq114 : ∀ M, M < 114 → PQ M := PQs pq113 (PQ_of (q := p113) rfl k113)
theorem pq115 : ∀ M, M < 115 → PQ M := PQs pq114 (PQ_of (q := p114) rfl k114)
theorem pq116 : ∀ M, M < 116 → PQ M := PQs pq115 (PQ_of (q := p115) rfl k115)
theorem pq117 : ∀ M, M < 117 → PQ M := PQs pq116 (PQ_of (q := p116) rfl k116)
theorem pq118 : ∀ M, M < 118 → PQ M := PQs pq117 (PQ_of (q := p117) rfl k117)
theorem pq119 : ∀ M, M < 119 → PQ M := PQs pq118 (PQ_of (q := p118) rfl k118)
theorem pq120 : ∀ M, M < 120 → PQ M := PQs pq119 (PQ_of (q := p119) rfl k119)
theorem pq121 : ∀ M, M < 121 → PQ M := PQs pq120 (PQ_of (q := p120) rfl k120)
theorem pq122 : ∀ M, M < 122 → PQ M := PQs pq121 (PQ_of (q := p121) rfl k121)
theorem pq123 : ∀ M, M < 123 → PQ M := PQs pq122 (PQ_of (q := p122) rfl k122)
theorem pq124 : ∀ M, M < 124 → PQ M := PQs pq123 (PQ_of (q := p123) rfl k123)
theorem pq125 : ∀ M, M < 125 → PQ M := PQs pq124 (PQ_of (q := p124) rfl k124)
theorem pq126 : ∀ M, M < 126 → PQ M := PQs pq125 (PQ_of (q := p125) rfl k125)
theorem pq127 : ∀ M, M < 127 → PQ M := PQs pq126 (PQ_of (q := p126) rfl k126)
theorem pq128 : ∀ M, M < 128 → PQ M := PQs pq127 (PQ_of (q := p127) rfl k127)
theorem pq129 : ∀ M, M < 129 → PQ M := PQs pq128 (PQ_of (q := p128) rfl k128)
theorem pq130 : ∀ M, M < 130 → PQ M := PQs pq129 (PQ_of (q := p129) rfl k129)
theorem pq131 : ∀ M, M < 131 → PQ M := PQs pq130 (PQ_of (q := p130) rfl k130)
theorem pq132 : ∀ M, M < 132 → PQ M := PQs pq131 (PQ_of (q := p131) rfl k131)
theorem pq133 : ∀ M, M < 133 → PQ M := PQs pq132 (PQ_of (q := p132) rfl k132)
theorem pq134 : ∀ M, M < 134 → PQ M := PQs pq133 (PQ_of (q := p133) rfl k133)
theorem pq135 : ∀ M, M < 135 → PQ M := PQs pq134 (PQ_of (q := p134) rfl k134)
theorem pq136 : ∀ M, M < 136 → PQ M := PQs pq135 (PQ_of (q := p135) rfl k135)
theorem pq137 : ∀ M, M < 137 → PQ M := PQs pq136 (PQ_of (q := p136) rfl k136)
theorem pq138 : ∀ M, M < 138 → PQ M := PQs pq137 (PQ_of (q := p137) rfl k137)
theorem pq139 : ∀ M, M < 139 → PQ M := PQs pq138 (PQ_of (q := p138) rfl k138)
theorem pq140 : ∀ M, M < 140 → PQ M := PQs pq139 (PQ_of (q := p139) rfl k139)
theorem pq141 : ∀ M, M < 141 → PQ M := PQs pq140 (PQ_of (q := p140) rfl k140)
theorem pq142 : ∀ M, M < 142 → PQ M := PQs pq141 (PQ_of (q := p141) rfl k141)
theorem pq143 : ∀ M, M < 143 → PQ M := PQs pq142 (PQ_of (q := p142) rfl k142)
theorem pq144 : ∀ M, M < 144 → PQ M := PQs pq143 (PQ_of (q := p143) rfl k143)
theorem pq145 : ∀ M, M < 145 → PQ M := PQs pq144 (PQ_of (q := p144) rfl k144)
theorem pq146 : ∀ M, M < 146 → PQ M := PQs pq145 (PQ_of (q := p145) rfl k145)
theorem pq147 : ∀ M, M < 147 → PQ M := PQs pq146 (PQ_of (q := p146) rfl k146)
theorem pq148 : ∀ M, M < 148 → PQ M := PQs pq147 (PQ_of (q := p147) rfl k147)
theorem pq149 : ∀ M, M < 149 → PQ M := PQs pq148 (PQ_of (q := p148) rfl k148)
theorem pq150 : ∀ M, M < 150 → PQ M := PQs pq149 (PQ_of (q := p149) rfl k149)
theorem pq151 : ∀ M, M < 151 → PQ M := PQs pq150 (PQ_of (q := p150) rfl k150)
theorem pq152 : ∀ M, M < 152 → PQ M := PQs pq151 (PQ_of (q := p151) rfl k151)
theorem pq153 : ∀ M, M < 153 → PQ M := PQs pq152 (PQ_of (q := p152) rfl k152)
theorem pq154 : ∀ M, M < 154 → PQ M := PQs pq153 (PQ_of (q := p153) rfl k153)
theorem pq155 : ∀ M, M < 155 → PQ M := PQs pq154 (PQ_of (q := p154) rfl k154)
theorem pq156 : ∀ M, M < 156 → PQ M := PQs pq155 (PQ_of (q := p155) rfl k155)
theorem pq157 : ∀ M, M < 157 → PQ M := PQs pq156 (PQ_of (q := p156) rfl k156)
theorem pq158 : ∀ M, M < 158 → PQ M := PQs pq157 (PQ_of (q := p157) rfl k157)
theorem pq159 : ∀ M, M < 159 → PQ M := PQs pq158 (PQ_of (q := p158) rfl k158)
theorem pq160 : ∀ M, M < 160 → PQ M := PQs pq159 (PQ_of (q := p159) rfl k159)
theorem pq161 : ∀ M, M < 161 → PQ M := PQs pq160 (PQ_of (q := p160) rfl k160)
theorem pq162 : ∀ M, M < 162 → PQ M := PQs pq161 (PQ_of (q := p161) rfl k161)
theorem pq163 : ∀ M, M < 163 → PQ M := PQs pq162 (PQ_of (q := p162) rfl k162)
theorem pq164 : ∀ M, M < 164 → PQ M := PQs pq163 (PQ_of (q := p163) rfl k163)
theorem pq165 : ∀ M, M < 165 → PQ M := PQs pq164 (PQ_of (q := p164) rfl k164)
theorem pq166 : ∀ M, M < 166 → PQ M := PQs pq165 (PQ_of (q := p165) rfl k165)
theorem pq167 : ∀ M, M < 167 → PQ M := PQs pq166 (PQ_of (q := p166) rfl k166)
theorem pq168 : ∀ M, M < 168 → PQ M := PQs pq167 (PQ_of (q := p167) rfl k167)
theorem pq169 : ∀ M, M < 169 → PQ M := PQs pq168 (PQ_of (q := p168) rfl k168)
theorem pq170 : ∀ M, M < 170 → PQ M := PQs pq169 (PQ_of (q := p169) rfl k169)
theorem pq171 : ∀ M, M < 171 → PQ M := PQs pq170 (PQ_of (q := p170) rfl k170)
theorem pq172 : ∀ M, M < 172 → PQ M := PQs pq171 (PQ_of (q := p171) rfl k171)
theorem pq173 : ∀ M, M < 173 → PQ M := PQs pq172 (PQ_of (q := p172) rfl k172)
theorem pq174 : ∀ M, M < 174 → PQ M := PQs pq173 (PQ_of (q := p173) rfl k173)
theorem pq175 : ∀ M, M < 175 → PQ M := PQs pq174 (PQ_of (q := p174) rfl k174)
theorem pq176 : ∀ M, M < 176 → PQ M := PQs pq175 (PQ_of (q := p175) rfl k175)
theorem pq177 : ∀ M, M < 177 → PQ M := PQs pq176 (PQ_of (q := p176) rfl k176)
theorem pq178 : ∀ M, M < 178 → PQ M := PQs pq177 (PQ_of (q := p177) rfl k177)
theorem pq179 : ∀ M, M < 179 → PQ M := PQs pq178 (PQ_of (q := p178) rfl k178)
theorem pq180 : ∀ M, M < 180 → PQ M := PQs pq179 (PQ_of (q := p179) rfl k179)
theorem pq181 : ∀ M, M < 181 → PQ M := PQs pq180 (PQ_of (q := p180) rfl k180)
theorem pq182 : ∀ M, M < 182 → PQ M := PQs pq181 (PQ_of (q := p181) rfl k181)
theorem pq183 : ∀ M, M < 183 → PQ M := PQs pq182 (PQ_of (q := p182) rfl k182)
theorem pq184 : ∀ M, M < 184 → PQ M := PQs pq183 (PQ_of (q := p183) rfl k183)
theorem pq185 : ∀ M, M < 185 → PQ M := PQs pq184 (PQ_of (q := p184) rfl k184)
theorem pq186 : ∀ M, M < 186 → PQ M := PQs pq185 (PQ_of (q := p185) rfl k185)
theorem pq187 : ∀ M, M < 187 → PQ M := PQs pq186 (PQ_of (q := p186) rfl k186)
theorem pq188 : ∀ M, M < 188 → PQ M := PQs pq187 (PQ_of (q := p187) rfl k187)
theorem pq189 : ∀ M, M < 189 → PQ M := PQs pq188 (PQ_of (q := p188) rfl k188)
theorem pq190 : ∀ M, M < 190 → PQ M := PQs pq189 (PQ_of (q := p189) rfl k189)
theorem pq191 : ∀ M, M < 191 → PQ M := PQs pq190 (PQ_of (q := p190) rfl k190)
theorem pq192 : ∀ M, M < 192 → PQ M := PQs pq191 (PQ_of (q := p191) rfl k191)
theorem pq193 : ∀ M, M < 193 → PQ M := PQs pq192 (PQ_of (q := p192) rfl k192)
theorem pq194 : ∀ M, M < 194 → PQ M := PQs pq193 (PQ_of (q := p193) rfl k193)
theorem pq195 : ∀ M, M < 195 → PQ M := PQs pq194 (PQ_of (q := p194) rfl k194)
theorem pq196 : ∀ M, M < 196 → PQ M := PQs pq195 (PQ_of (q := p195) rfl k195)
theorem pq197 : ∀ M, M < 197 → PQ M := PQs pq196 (PQ_of (q := p196) rfl k196)
theorem pq198 : ∀ M, M < 198 → PQ M := PQs pq197 (PQ_of (q := p197) rfl k197)
theorem pq199 : ∀ M, M < 199 → PQ M := PQs pq198 (PQ_of (q := p198) rfl k198)
theorem pq200 : ∀ M, M < 200 → PQ M := PQs pq199 (PQ_of (q := p199) rfl k199)
theorem pq201 : ∀ M, M < 201 → PQ M := PQs pq200 (PQ_of (q := p200) rfl k200)
theorem pq202 : ∀ M, M < 202 → PQ M := PQs pq201 (PQ_of (q := p201) rfl k201)
theorem pq203 : ∀ M, M < 203 → PQ M := PQs pq202 (PQ_of (q := p202) rfl k202)
theorem pq204 : ∀ M, M < 204 → PQ M := PQs pq203 (PQ_of (q := p203) rfl k203)
theorem pq205 : ∀ M, M < 205 → PQ M := PQs pq204 (PQ_of (q := p204) rfl k204)
theorem pq206 : ∀ M, M < 206 → PQ M := PQs pq205 (PQ_of (q := p205) rfl k205)
theorem pq207 : ∀ M, M < 207 → PQ M := PQs pq206 (PQ_of (q := p206) rfl k206)
theorem pq208 : ∀ M, M < 208 → PQ M := PQs pq207 (PQ_of (q := p207) rfl k207)
theorem pq209 : ∀ M, M < 209 → PQ M := PQs pq208 (PQ_of (q := p208) rfl k208)
theorem pq210 : ∀ M, M < 210 → PQ M := PQs pq209 (PQ_of (q := p209) rfl k209)
theorem pq211 : ∀ M, M < 211 → PQ M := PQs pq210 (PQ_of (q := p210) rfl k210)
theorem pq212 : ∀ M, M < 212 → PQ M := PQs pq211 (PQ_of (q := p211) rfl k211)
theorem pq213 : ∀ M, M < 213 → PQ M := PQs pq212 (PQ_of (q := p212) rfl k212)
theorem pq214 : ∀ M, M < 214 → PQ M := PQs pq213 (PQ_of (q := p213) rfl k213)
theorem pq215 : ∀ M, M < 215 → PQ M := PQs pq214 (PQ_of (q := p214) rfl k214)
theorem pq216 : ∀ M, M < 216 → PQ M := PQs pq215 (PQ_of (q := p215) rfl k215)
theorem pq217 : ∀ M, M < 217 → PQ M := PQs pq216 (PQ_of (q := p216) rfl k216)
theorem pq218 : ∀ M, M < 218 → PQ M := PQs pq217 (PQ_of (q := p217) rfl k217)
theorem pq219 : ∀ M, M < 219 → PQ M := PQs pq218 (PQ_of (q := p218) rfl k218)
theorem pq220 : ∀ M, M < 220 → PQ M := PQs pq219 (PQ_of (q := p219) rfl k219)
theorem pq221 : ∀ M, M < 221 → PQ M := PQs pq220 (PQ_of (q := p220) rfl k220)
theorem pq222 : ∀ M, M < 222 → PQ M := PQs pq221 (PQ_of (q := p221) rfl k221)
theorem pq223 : ∀ M, M < 223 → PQ M := PQs pq222 (PQ_of (q := p222) rfl k222)
theorem pq224 : ∀ M, M < 224 → PQ M := PQs pq223 (PQ_of (q := p223) rfl k223)
theorem hPm : ∀ M, M < nM → (mP M).all (fun q => chkL mY mC mL mT lw_tbl nM M q.1 q.2) = true := pq224
theorem hPm0 : ∀ M, nM ≤ M → mP M = [] := fun M h => if_neg (Nat.not_lt.mpr h)
