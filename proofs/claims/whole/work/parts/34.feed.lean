/-! FEED; a LAW is made -/
theorem upr_id {M : Mat} {c i : Nat} : upr M c i (M c i) = M := by
  funext x y
  by_cases h1 : x = c
  · subst h1
    by_cases h2 : y = i
    · subst h2
      rw [upr_a]
    · rw [upr_n h2]
  · rw [upr_c h1]
def byC (a : Int32) (k : Nat) : Int32 := (a >>> ((8 * nI k) &&& 31)) &&& 255
def byM (a : Int32) (k : Nat) : Int32 := (a >>> ((8 * nI k) &&& 31)).toInt8.toInt32
def cT (a : Int32) : (Nat → Int32) → Nat → Nat → Nat → Int32
  | f, _, 0 => f
  | f, m, r + 1 => cT a (upd f m (byC a r)) (m + 1) r
def rT (a : Int32) : (Nat → Int32) → Nat → Nat → Nat → Int32
  | g, _, 0 => g
  | g, m, r + 1 => rT a (upd g (960 + m) (byM a r)) (m + 1) r
theorem by_t (a : Int32) (k : Nat) : Bt (byC a k) (byM a k) := by
  refine ⟨(a >>> ((8 * nI k) &&& 31)).toBitVec.toNat % 256, Nat.mod_lt _ (by decide), ?_, ?_⟩
  · exact pk_and _ 8 (by decide)
  · unfold byM
    generalize a >>> ((8 * nI k) &&& 31) = x
    refine congrArg Int8.toInt32 ?_
    rw [← Int8.toBitVec_inj, Int32.toBitVec_toInt8, Int32.toBitVec_toInt8, BitVec.signExtend_eq_setWidth_of_le _ (by decide), BitVec.signExtend_eq_setWidth_of_le _ (by decide)]
    apply BitVec.eq_of_toNat_eq
    rw [BitVec.toNat_setWidth, BitVec.toNat_setWidth, pk_tn (Nat.lt_trans (Nat.mod_lt _ (by decide)) (by decide))]
    exact (Nat.mod_mod _ _).symm
theorem cr_b {a : Int32} : ∀ (r m : Nat) (f g : Nat → Int32), (∀ j, j < m → Bt (f j) (g (960 + j))) → ∀ j, j < m + r → Bt (cT a f m r j) (rT a g m r (960 + j))
  | 0, m, f, g, h, j, hj => h j hj
  | r + 1, m, f, g, h, j, hj => by
    refine cr_b r (m + 1) (upd f m (byC a r)) (upd g (960 + m) (byM a r)) (fun q hq => ?_) j (by omega)
    by_cases hqm : q = m
    · subst hqm
      rw [pk_us, pk_us]
      exact by_t a r
    · rw [pk_un hqm, pk_un (by omega)]
      exact h q (by omega)
theorem rT_lo {a : Int32} : ∀ (r m : Nat) (g : Nat → Int32) (q : Nat), q < 960 → rT a g m r q = g q
  | 0, m, g, q, hq => rfl
  | r + 1, m, g, q, hq => by
    show rT a (upd g (960 + m) (byM a r)) (m + 1) r q = g q
    rw [rT_lo r (m + 1) _ q hq, pk_un (by omega)]
theorem law_t {L T : Nat → Nat → Int32} {c y t t' z z' : Nat → Int32} {tl : Nat → Nat} {r : Nat → Option Nat} {n : Nat} (hn : n ≤ 12) (h : I_law L T c y t z tl r n) (ht : ∀ q, q < 960 → t' q = t q) (hz : ∀ i, i < n → z' i = z i) : I_law L T c y t' z' tl r n := by
  intro i hi
  obtain ⟨h1, h2, h3, h4, h5, h6⟩ := h i hi
  refine ⟨h1, h2, h3, (hz i hi).trans h4, h5, fun j hj => ?_⟩
  rw [ht _ (by omega)]
  exact h6 j hj
section FEED
variable {A G : Mat} {e : Ev} {L : Nat} {xs : Nat → Int32} {N d : Nat}
theorem w78 {C : Nat → List Value → PH → PR} {a : Int32} {q2 : Option Value} : ∀ (r m : Nat) (f : Nat → Int32), m + r ≤ 80 → EXn (roL L xs) p78 C (2 * (r + 1)) 30 [some (.ref 10000), some (.int a), q2, some (.int (nI r - 1))] [] (HH (upr A 20017 0 f) (up3 G 10 0 17 (nI m)) e) = some (some (.int (nI (m + r))), HH (upr A 20017 0 (cT a f m r)) (up3 G 10 0 17 (nI (m + r))) e)
  | 0, m, f, hm => by
    refine EXs_le (S := [30]) (n := 0) 2 30 _ _ _ ?_
    rw [l78_30, if_pos (show nI 0 - 1 < 0 by decide), gf10000_17, up3_s]
    rfl
  | r + 1, m, f, hm => by
    refine EXs_le (S := [30]) (n := 2 * (r + 1)) 2 30 _ _ _ ?_
    have ih := w78 (C := C) (a := a) (q2 := q2) r (m + 1) (upd f m (byC a r)) (by omega)
    rw [show m + 1 + r = m + (r + 1) by omega] at ih
    rw [l78_30, nI_pred, if_neg (nI_pos (by omega)), rf10000_9, gf10000_17, up3_s, sa20017, ib_n (show m < 80 by omega) (by decide), nI_clamp (by omega), up3_upr, gf10000_17, up3_s, nI_1 m, pf10000_17, up3_up3, ← Int32.sub_eq_add_neg (nI r) 1]
    exact ih
theorem w178 {C : Nat → List Value → PH → PR} {a : Int32} {q2 : Option Value} : ∀ (r m : Nat) (f : Nat → Int32), m + r ≤ 80 → EXn (roL L xs) p178 C (2 * (r + 1)) 31 [some (.ref 11000), some (.int a), q2, some (.int (nI r - 1))] [] (HH (upr A 20057 0 f) (up3 G 11 0 36 (nI m)) e) = some (some (.int (nI (m + r))), HH (upr A 20057 0 (rT a f m r)) (up3 G 11 0 36 (nI (m + r))) e)
  | 0, m, f, hm => by
    refine EXs_le (S := [31]) (n := 0) 2 31 _ _ _ ?_
    rw [l178_31, if_pos (show nI 0 - 1 < 0 by decide), gf11000_36, up3_s]
    rfl
  | r + 1, m, f, hm => by
    refine EXs_le (S := [31]) (n := 2 * (r + 1)) 2 31 _ _ _ ?_
    have ih := w178 (C := C) (a := a) (q2 := q2) r (m + 1) (upd f (960 + m) (byM a r)) (by omega)
    rw [show m + 1 + r = m + (r + 1) by omega] at ih
    rw [l178_31, nI_pred, if_neg (nI_pos (by omega)), rf11000_39, gf11000_36, up3_s, show (960 : Int32) + nI m = nI (960 + m) from nI_add 960 m, sa20057, ib_n (show 960 + m < 1040 by omega) (by decide), nI_clamp (by omega), up3_upr, gf11000_36, up3_s, nI_1 m, pf11000_36, up3_up3, ← Int32.sub_eq_add_neg (nI r) 1]
    exact ih
theorem I_txt' (I : Inv A G e) : I_txt (A 20017 0) (A 20057 0) (G 10 0 17) (G 11 0 36) := I.2.2.1
theorem o_feed (I : Inv A G e) (x y : Int32) : Op L xs N (d + 40) 78 178 [.int x, .int y] A G e := by
  have I0 := I
  unfold Op
  by_cases g1 : (0 ≤ y ∧ y ≤ 4)
  · obtain ⟨r, hr, rfl⟩ := g_n (x := y) 5 (by decide) g1
    obtain ⟨m, hm, h1, h2, h3⟩ := I_txt' I
    by_cases c : 80 < m + r
    · have c' : (80 : Int32) < nI (m + r) := nI_lt (a := 80) c (by omega)
      refine ⟨-4, HH A G e, m78 0 (by omega) ?_, -4, HH A G e, m178 0 (by omega) ?_, rfl, IH_i I0⟩
      · rw [x78]
        simp only [↓vo0, ↓rf0_0, ↓gf0_1, ↓vo1000, ↓rf1000_0, ↓rf1000_1, ↓vo2000, ↓rf2000_0, ↓rf2000_1, ↓rf2000_2, ↓rf2000_3, ↓vo5000, ↓rf5000_0, ↓rf5000_1, ↓gf5000_2, ↓vo6000, ↓rf6000_0, ↓rf6000_1, ↓gf6000_2, ↓gf6000_3, ↓gf6000_4, ↓vo9000, ↓rf9000_0, ↓rf9000_1, ↓gf9000_2, ↓rf9000_3, ↓rf9000_4, ↓vo10000, ↓rf10000_0, ↓rf10000_1, ↓rf10000_2, ↓rf10000_3, ↓rf10000_4, ↓rf10000_5, ↓rf10000_6, ↓rf10000_7, ↓rf10000_8, ↓rf10000_9, ↓rf10000_10, ↓rf10000_11, ↓rf10000_12, ↓gf10000_13, ↓gf10000_14, ↓gf10000_15, ↓gf10000_16, ↓gf10000_17, ↓vo11000, ↓gf11000_0, ↓gf11000_1, ↓rf11000_2, ↓rf11000_3, ↓rf11000_4, ↓rf11000_5, ↓rf11000_6, ↓rf11000_7, ↓rf11000_8, ↓rf11000_9, ↓rf11000_10, ↓rf11000_11, ↓rf11000_12, ↓rf11000_13, ↓rf11000_14, ↓rf11000_15, ↓rf11000_16, ↓rf11000_17, ↓gf11000_18, ↓rf11000_19, ↓rf11000_20, ↓rf11000_21, ↓rf11000_22, ↓rf11000_23, ↓rf11000_24, ↓rf11000_25, ↓rf11000_26, ↓rf11000_27, ↓rf11000_28, ↓gf11000_29, ↓gf11000_30, ↓gf11000_31, ↓gf11000_32, ↓rf11000_33, ↓gf11000_34, ↓gf11000_35, ↓gf11000_36, ↓rf11000_37, ↓rf11000_38, ↓rf11000_39, ↓rf11000_40, ↓rf11000_41, ↓gf11000_42, ↓gf11000_43, ↓gf11000_44, ↓rf11000_45, ↓rf11000_46, ↓gf11000_47, ↓gf11000_48, ↓gf11000_49, ↓gf11000_50, ↓rf11000_51, ↓rf11000_52, ↓gf11000_53, ↓rf11000_54, ↓rf11000_55, ↓rf11000_56, ↓rf11000_57, ↓rf11000_58, ↓vo4000, ↓gf4000_0, ↓gf4000_1, ↓gf4000_2, ↓gf4000_3, ↓gf4000_4, ↓gf4000_5, ↓gf4000_6, ↓gf4000_7, ↓gf4000_8, ↓rf4000_9, ↓vo4001, ↓gf4001_0, ↓gf4001_1, ↓gf4001_2, ↓gf4001_3, ↓gf4001_4, ↓gf4001_5, ↓gf4001_6, ↓gf4001_7, ↓gf4001_8, ↓rf4001_9, ↓ga20000, ↓ga20001, ↓ga20002, ↓ga20003, ↓ga20004, ↓ga20005, ↓ga20009, ↓ga20010, ↓ga20012, ↓ga20013, ↓ga20015, ↓ga20016, ↓ga20017, ↓ga20018, ↓ga20019, ↓ga20020, ↓ga20022, ↓ga20023, ↓ga20024, ↓ga20025, ↓ga20026, ↓ga20027, ↓ga20028, ↓ga20029, ↓ga20030, ↓ga20031, ↓ga20032, ↓ga20033, ↓ga20034, ↓ga20035, ↓ga20036, ↓ga20037, ↓ga20038, ↓ga20039, ↓ga20040, ↓ga20041, ↓ga20042, ↓ga20043, ↓ga20044, ↓ga20045, ↓ga20046, ↓ga20047, ↓ga20048, ↓ga20049, ↓ga20050, ↓ga20051, ↓ga20052, ↓ga20053, ↓ga20054, ↓ga20055, ↓ga20056, ↓ga20057, ↓ga20058, ↓ga20059, ↓ga20060, ↓ga20061, ↓ga20062, ↓ga20063, ↓ga20064, ↓ga20065, ↓ga20066, ↓ga20067, ↓ga20068, ↓pf0_1, ↓pf5000_2, ↓pf6000_2, ↓pf6000_3, ↓pf6000_4, ↓pf9000_2, ↓pf10000_13, ↓pf10000_14, ↓pf10000_15, ↓pf10000_16, ↓pf10000_17, ↓pf11000_0, ↓pf11000_1, ↓pf11000_18, ↓pf11000_29, ↓pf11000_30, ↓pf11000_31, ↓pf11000_32, ↓pf11000_34, ↓pf11000_35, ↓pf11000_36, ↓pf11000_42, ↓pf11000_43, ↓pf11000_44, ↓pf11000_47, ↓pf11000_48, ↓pf11000_49, ↓pf11000_50, ↓pf11000_53, ↓pf4000_0, ↓pf4000_1, ↓pf4000_2, ↓pf4000_3, ↓pf4000_4, ↓pf4000_5, ↓pf4000_6, ↓pf4000_7, ↓pf4000_8, ↓pf4001_0, ↓pf4001_1, ↓pf4001_2, ↓pf4001_3, ↓pf4001_4, ↓pf4001_5, ↓pf4001_6, ↓pf4001_7, ↓pf4001_8, ↓sa20000, ↓sa20001, ↓sa20002, ↓sa20003, ↓sa20004, ↓sa20005, ↓sa20009, ↓sa20010, ↓sa20012, ↓sa20013, ↓sa20015, ↓sa20016, ↓sa20017, ↓sa20018, ↓sa20019, ↓sa20020, ↓sa20022, ↓sa20023, ↓sa20024, ↓sa20025, ↓sa20026, ↓sa20027, ↓sa20028, ↓sa20029, ↓sa20030, ↓sa20031, ↓sa20032, ↓sa20033, ↓sa20034, ↓sa20035, ↓sa20036, ↓sa20037, ↓sa20038, ↓sa20039, ↓sa20040, ↓sa20041, ↓sa20042, ↓sa20043, ↓sa20044, ↓sa20045, ↓sa20046, ↓sa20047, ↓sa20048, ↓sa20049, ↓sa20050, ↓sa20051, ↓sa20052, ↓sa20053, ↓sa20054, ↓sa20055, ↓sa20056, ↓sa20057, ↓sa20058, ↓sa20059, ↓sa20060, ↓sa20061, ↓sa20062, ↓sa20063, ↓sa20064, ↓sa20065, ↓sa20066, ↓sa20067, ↓sa20068, ↓s93, ↓s94, ↓s95, ↓s96, ↓s97, ↓s98, ↓s99, ↓s100, ↓s101, ↓s104, ↓s105, ↓s106, ↓s125, ↓s126, ↓s127, ↓s219, ↓s220, ↓s221, ↓h128, ↓h129, ↓h130, ↓h131, ↓s132, ↓h157, ↓h194, ↓h211, ↓cI_s, ↓cV_s, ↓cR_s, ↓cR_n, ↓reduceIte, ↓bI_01, ↓ro0, ↓ro1, ↓ro2, ↓ro3, ↓rol3, up3_s, up3_c, ne_eq, Nat.reduceEqDiff, Wp_s, bI_z, not_true_eq_false, not_false_eq_true, and_self, and_true, true_and, and_false, false_and, if_true, if_false, Classical.not_not, g1, h1, nI_add, c']
      · rw [x178]
        simp only [↓vo0, ↓rf0_0, ↓gf0_1, ↓vo1000, ↓rf1000_0, ↓rf1000_1, ↓vo2000, ↓rf2000_0, ↓rf2000_1, ↓rf2000_2, ↓rf2000_3, ↓vo5000, ↓rf5000_0, ↓rf5000_1, ↓gf5000_2, ↓vo6000, ↓rf6000_0, ↓rf6000_1, ↓gf6000_2, ↓gf6000_3, ↓gf6000_4, ↓vo9000, ↓rf9000_0, ↓rf9000_1, ↓gf9000_2, ↓rf9000_3, ↓rf9000_4, ↓vo10000, ↓rf10000_0, ↓rf10000_1, ↓rf10000_2, ↓rf10000_3, ↓rf10000_4, ↓rf10000_5, ↓rf10000_6, ↓rf10000_7, ↓rf10000_8, ↓rf10000_9, ↓rf10000_10, ↓rf10000_11, ↓rf10000_12, ↓gf10000_13, ↓gf10000_14, ↓gf10000_15, ↓gf10000_16, ↓gf10000_17, ↓vo11000, ↓gf11000_0, ↓gf11000_1, ↓rf11000_2, ↓rf11000_3, ↓rf11000_4, ↓rf11000_5, ↓rf11000_6, ↓rf11000_7, ↓rf11000_8, ↓rf11000_9, ↓rf11000_10, ↓rf11000_11, ↓rf11000_12, ↓rf11000_13, ↓rf11000_14, ↓rf11000_15, ↓rf11000_16, ↓rf11000_17, ↓gf11000_18, ↓rf11000_19, ↓rf11000_20, ↓rf11000_21, ↓rf11000_22, ↓rf11000_23, ↓rf11000_24, ↓rf11000_25, ↓rf11000_26, ↓rf11000_27, ↓rf11000_28, ↓gf11000_29, ↓gf11000_30, ↓gf11000_31, ↓gf11000_32, ↓rf11000_33, ↓gf11000_34, ↓gf11000_35, ↓gf11000_36, ↓rf11000_37, ↓rf11000_38, ↓rf11000_39, ↓rf11000_40, ↓rf11000_41, ↓gf11000_42, ↓gf11000_43, ↓gf11000_44, ↓rf11000_45, ↓rf11000_46, ↓gf11000_47, ↓gf11000_48, ↓gf11000_49, ↓gf11000_50, ↓rf11000_51, ↓rf11000_52, ↓gf11000_53, ↓rf11000_54, ↓rf11000_55, ↓rf11000_56, ↓rf11000_57, ↓rf11000_58, ↓vo4000, ↓gf4000_0, ↓gf4000_1, ↓gf4000_2, ↓gf4000_3, ↓gf4000_4, ↓gf4000_5, ↓gf4000_6, ↓gf4000_7, ↓gf4000_8, ↓rf4000_9, ↓vo4001, ↓gf4001_0, ↓gf4001_1, ↓gf4001_2, ↓gf4001_3, ↓gf4001_4, ↓gf4001_5, ↓gf4001_6, ↓gf4001_7, ↓gf4001_8, ↓rf4001_9, ↓ga20000, ↓ga20001, ↓ga20002, ↓ga20003, ↓ga20004, ↓ga20005, ↓ga20009, ↓ga20010, ↓ga20012, ↓ga20013, ↓ga20015, ↓ga20016, ↓ga20017, ↓ga20018, ↓ga20019, ↓ga20020, ↓ga20022, ↓ga20023, ↓ga20024, ↓ga20025, ↓ga20026, ↓ga20027, ↓ga20028, ↓ga20029, ↓ga20030, ↓ga20031, ↓ga20032, ↓ga20033, ↓ga20034, ↓ga20035, ↓ga20036, ↓ga20037, ↓ga20038, ↓ga20039, ↓ga20040, ↓ga20041, ↓ga20042, ↓ga20043, ↓ga20044, ↓ga20045, ↓ga20046, ↓ga20047, ↓ga20048, ↓ga20049, ↓ga20050, ↓ga20051, ↓ga20052, ↓ga20053, ↓ga20054, ↓ga20055, ↓ga20056, ↓ga20057, ↓ga20058, ↓ga20059, ↓ga20060, ↓ga20061, ↓ga20062, ↓ga20063, ↓ga20064, ↓ga20065, ↓ga20066, ↓ga20067, ↓ga20068, ↓pf0_1, ↓pf5000_2, ↓pf6000_2, ↓pf6000_3, ↓pf6000_4, ↓pf9000_2, ↓pf10000_13, ↓pf10000_14, ↓pf10000_15, ↓pf10000_16, ↓pf10000_17, ↓pf11000_0, ↓pf11000_1, ↓pf11000_18, ↓pf11000_29, ↓pf11000_30, ↓pf11000_31, ↓pf11000_32, ↓pf11000_34, ↓pf11000_35, ↓pf11000_36, ↓pf11000_42, ↓pf11000_43, ↓pf11000_44, ↓pf11000_47, ↓pf11000_48, ↓pf11000_49, ↓pf11000_50, ↓pf11000_53, ↓pf4000_0, ↓pf4000_1, ↓pf4000_2, ↓pf4000_3, ↓pf4000_4, ↓pf4000_5, ↓pf4000_6, ↓pf4000_7, ↓pf4000_8, ↓pf4001_0, ↓pf4001_1, ↓pf4001_2, ↓pf4001_3, ↓pf4001_4, ↓pf4001_5, ↓pf4001_6, ↓pf4001_7, ↓pf4001_8, ↓sa20000, ↓sa20001, ↓sa20002, ↓sa20003, ↓sa20004, ↓sa20005, ↓sa20009, ↓sa20010, ↓sa20012, ↓sa20013, ↓sa20015, ↓sa20016, ↓sa20017, ↓sa20018, ↓sa20019, ↓sa20020, ↓sa20022, ↓sa20023, ↓sa20024, ↓sa20025, ↓sa20026, ↓sa20027, ↓sa20028, ↓sa20029, ↓sa20030, ↓sa20031, ↓sa20032, ↓sa20033, ↓sa20034, ↓sa20035, ↓sa20036, ↓sa20037, ↓sa20038, ↓sa20039, ↓sa20040, ↓sa20041, ↓sa20042, ↓sa20043, ↓sa20044, ↓sa20045, ↓sa20046, ↓sa20047, ↓sa20048, ↓sa20049, ↓sa20050, ↓sa20051, ↓sa20052, ↓sa20053, ↓sa20054, ↓sa20055, ↓sa20056, ↓sa20057, ↓sa20058, ↓sa20059, ↓sa20060, ↓sa20061, ↓sa20062, ↓sa20063, ↓sa20064, ↓sa20065, ↓sa20066, ↓sa20067, ↓sa20068, ↓s93, ↓s94, ↓s95, ↓s96, ↓s97, ↓s98, ↓s99, ↓s100, ↓s101, ↓s104, ↓s105, ↓s106, ↓s125, ↓s126, ↓s127, ↓s219, ↓s220, ↓s221, ↓h128, ↓h129, ↓h130, ↓h131, ↓s132, ↓h157, ↓h194, ↓h211, ↓cI_s, ↓cV_s, ↓cR_s, ↓cR_n, ↓reduceIte, ↓bI_01, ↓ro0, ↓ro1, ↓ro2, ↓ro3, ↓rol3, up3_s, up3_c, ne_eq, Nat.reduceEqDiff, Wp_s, bI_z, not_true_eq_false, not_false_eq_true, and_self, and_true, true_and, and_false, false_and, if_true, if_false, Classical.not_not, g1, h2, nI_add, c']
    · have c' : ¬ (80 : Int32) < nI (m + r) := nI_nlt (b := m + r) (a := 80) (by omega) (by decide)
      have w1 := w78 (A := A) (G := G) (e := e) (L := L) (xs := xs) (C := CALL (roL L xs) mP mL (N + 5050) (d + 39)) (a := x) (q2 := some (.int (nI r))) r m (A 20017 0) (by omega)
      rw [upr_id, ← h1, up3_id] at w1
      have w2 := w178 (A := upr A 20017 0 (cT x (A 20017 0) m r)) (G := up3 G 10 0 17 (nI (m + r))) (e := e) (L := L) (xs := xs) (C := CALL (roL L xs) mP mL (N + 5050) (d + 39)) (a := x) (q2 := some (.int (nI r))) r m (A 20057 0) (by omega)
      rw [show up3 (up3 G 10 0 17 (nI (m + r))) 11 0 36 (nI m) = up3 G 10 0 17 (nI (m + r)) by rw [← h2]; exact up3_id] at w2
      rw [show upr (upr A 20017 0 (cT x (A 20017 0) m r)) 20057 0 (A 20057 0) = upr A 20017 0 (cT x (A 20017 0) m r) from upr_id] at w2
      refine ⟨nI (m + r), _, m78 (2 * (r + 1)) (by omega) (r := (some (.int (nI (m + r))), HH (upr A 20017 0 (cT x (A 20017 0) m r)) (up3 G 10 0 17 (nI (m + r))) e)) ?_, nI (m + r), _, m178 (2 * (r + 1)) (by omega) (r := (some (.int (nI (m + r))), HH (upr (upr A 20017 0 (cT x (A 20017 0) m r)) 20057 0 (rT x (A 20057 0) m r)) (up3 (up3 G 10 0 17 (nI (m + r))) 11 0 36 (nI (m + r))) e)) ?_, rfl, ?_⟩
      · rw [x78]
        simp only [↓vo0, ↓rf0_0, ↓gf0_1, ↓vo1000, ↓rf1000_0, ↓rf1000_1, ↓vo2000, ↓rf2000_0, ↓rf2000_1, ↓rf2000_2, ↓rf2000_3, ↓vo5000, ↓rf5000_0, ↓rf5000_1, ↓gf5000_2, ↓vo6000, ↓rf6000_0, ↓rf6000_1, ↓gf6000_2, ↓gf6000_3, ↓gf6000_4, ↓vo9000, ↓rf9000_0, ↓rf9000_1, ↓gf9000_2, ↓rf9000_3, ↓rf9000_4, ↓vo10000, ↓rf10000_0, ↓rf10000_1, ↓rf10000_2, ↓rf10000_3, ↓rf10000_4, ↓rf10000_5, ↓rf10000_6, ↓rf10000_7, ↓rf10000_8, ↓rf10000_9, ↓rf10000_10, ↓rf10000_11, ↓rf10000_12, ↓gf10000_13, ↓gf10000_14, ↓gf10000_15, ↓gf10000_16, ↓gf10000_17, ↓vo11000, ↓gf11000_0, ↓gf11000_1, ↓rf11000_2, ↓rf11000_3, ↓rf11000_4, ↓rf11000_5, ↓rf11000_6, ↓rf11000_7, ↓rf11000_8, ↓rf11000_9, ↓rf11000_10, ↓rf11000_11, ↓rf11000_12, ↓rf11000_13, ↓rf11000_14, ↓rf11000_15, ↓rf11000_16, ↓rf11000_17, ↓gf11000_18, ↓rf11000_19, ↓rf11000_20, ↓rf11000_21, ↓rf11000_22, ↓rf11000_23, ↓rf11000_24, ↓rf11000_25, ↓rf11000_26, ↓rf11000_27, ↓rf11000_28, ↓gf11000_29, ↓gf11000_30, ↓gf11000_31, ↓gf11000_32, ↓rf11000_33, ↓gf11000_34, ↓gf11000_35, ↓gf11000_36, ↓rf11000_37, ↓rf11000_38, ↓rf11000_39, ↓rf11000_40, ↓rf11000_41, ↓gf11000_42, ↓gf11000_43, ↓gf11000_44, ↓rf11000_45, ↓rf11000_46, ↓gf11000_47, ↓gf11000_48, ↓gf11000_49, ↓gf11000_50, ↓rf11000_51, ↓rf11000_52, ↓gf11000_53, ↓rf11000_54, ↓rf11000_55, ↓rf11000_56, ↓rf11000_57, ↓rf11000_58, ↓vo4000, ↓gf4000_0, ↓gf4000_1, ↓gf4000_2, ↓gf4000_3, ↓gf4000_4, ↓gf4000_5, ↓gf4000_6, ↓gf4000_7, ↓gf4000_8, ↓rf4000_9, ↓vo4001, ↓gf4001_0, ↓gf4001_1, ↓gf4001_2, ↓gf4001_3, ↓gf4001_4, ↓gf4001_5, ↓gf4001_6, ↓gf4001_7, ↓gf4001_8, ↓rf4001_9, ↓ga20000, ↓ga20001, ↓ga20002, ↓ga20003, ↓ga20004, ↓ga20005, ↓ga20009, ↓ga20010, ↓ga20012, ↓ga20013, ↓ga20015, ↓ga20016, ↓ga20017, ↓ga20018, ↓ga20019, ↓ga20020, ↓ga20022, ↓ga20023, ↓ga20024, ↓ga20025, ↓ga20026, ↓ga20027, ↓ga20028, ↓ga20029, ↓ga20030, ↓ga20031, ↓ga20032, ↓ga20033, ↓ga20034, ↓ga20035, ↓ga20036, ↓ga20037, ↓ga20038, ↓ga20039, ↓ga20040, ↓ga20041, ↓ga20042, ↓ga20043, ↓ga20044, ↓ga20045, ↓ga20046, ↓ga20047, ↓ga20048, ↓ga20049, ↓ga20050, ↓ga20051, ↓ga20052, ↓ga20053, ↓ga20054, ↓ga20055, ↓ga20056, ↓ga20057, ↓ga20058, ↓ga20059, ↓ga20060, ↓ga20061, ↓ga20062, ↓ga20063, ↓ga20064, ↓ga20065, ↓ga20066, ↓ga20067, ↓ga20068, ↓pf0_1, ↓pf5000_2, ↓pf6000_2, ↓pf6000_3, ↓pf6000_4, ↓pf9000_2, ↓pf10000_13, ↓pf10000_14, ↓pf10000_15, ↓pf10000_16, ↓pf10000_17, ↓pf11000_0, ↓pf11000_1, ↓pf11000_18, ↓pf11000_29, ↓pf11000_30, ↓pf11000_31, ↓pf11000_32, ↓pf11000_34, ↓pf11000_35, ↓pf11000_36, ↓pf11000_42, ↓pf11000_43, ↓pf11000_44, ↓pf11000_47, ↓pf11000_48, ↓pf11000_49, ↓pf11000_50, ↓pf11000_53, ↓pf4000_0, ↓pf4000_1, ↓pf4000_2, ↓pf4000_3, ↓pf4000_4, ↓pf4000_5, ↓pf4000_6, ↓pf4000_7, ↓pf4000_8, ↓pf4001_0, ↓pf4001_1, ↓pf4001_2, ↓pf4001_3, ↓pf4001_4, ↓pf4001_5, ↓pf4001_6, ↓pf4001_7, ↓pf4001_8, ↓sa20000, ↓sa20001, ↓sa20002, ↓sa20003, ↓sa20004, ↓sa20005, ↓sa20009, ↓sa20010, ↓sa20012, ↓sa20013, ↓sa20015, ↓sa20016, ↓sa20017, ↓sa20018, ↓sa20019, ↓sa20020, ↓sa20022, ↓sa20023, ↓sa20024, ↓sa20025, ↓sa20026, ↓sa20027, ↓sa20028, ↓sa20029, ↓sa20030, ↓sa20031, ↓sa20032, ↓sa20033, ↓sa20034, ↓sa20035, ↓sa20036, ↓sa20037, ↓sa20038, ↓sa20039, ↓sa20040, ↓sa20041, ↓sa20042, ↓sa20043, ↓sa20044, ↓sa20045, ↓sa20046, ↓sa20047, ↓sa20048, ↓sa20049, ↓sa20050, ↓sa20051, ↓sa20052, ↓sa20053, ↓sa20054, ↓sa20055, ↓sa20056, ↓sa20057, ↓sa20058, ↓sa20059, ↓sa20060, ↓sa20061, ↓sa20062, ↓sa20063, ↓sa20064, ↓sa20065, ↓sa20066, ↓sa20067, ↓sa20068, ↓s93, ↓s94, ↓s95, ↓s96, ↓s97, ↓s98, ↓s99, ↓s100, ↓s101, ↓s104, ↓s105, ↓s106, ↓s125, ↓s126, ↓s127, ↓s219, ↓s220, ↓s221, ↓h128, ↓h129, ↓h130, ↓h131, ↓s132, ↓h157, ↓h194, ↓h211, ↓cI_s, ↓cV_s, ↓cR_s, ↓cR_n, ↓reduceIte, ↓bI_01, ↓ro0, ↓ro1, ↓ro2, ↓ro3, ↓rol3, up3_s, up3_c, ne_eq, Nat.reduceEqDiff, Wp_s, bI_z, not_true_eq_false, not_false_eq_true, and_self, and_true, true_and, and_false, false_and, if_true, if_false, Classical.not_not, g1, h1, nI_add, c']
        exact w1
      · rw [x178]
        simp only [↓vo0, ↓rf0_0, ↓gf0_1, ↓vo1000, ↓rf1000_0, ↓rf1000_1, ↓vo2000, ↓rf2000_0, ↓rf2000_1, ↓rf2000_2, ↓rf2000_3, ↓vo5000, ↓rf5000_0, ↓rf5000_1, ↓gf5000_2, ↓vo6000, ↓rf6000_0, ↓rf6000_1, ↓gf6000_2, ↓gf6000_3, ↓gf6000_4, ↓vo9000, ↓rf9000_0, ↓rf9000_1, ↓gf9000_2, ↓rf9000_3, ↓rf9000_4, ↓vo10000, ↓rf10000_0, ↓rf10000_1, ↓rf10000_2, ↓rf10000_3, ↓rf10000_4, ↓rf10000_5, ↓rf10000_6, ↓rf10000_7, ↓rf10000_8, ↓rf10000_9, ↓rf10000_10, ↓rf10000_11, ↓rf10000_12, ↓gf10000_13, ↓gf10000_14, ↓gf10000_15, ↓gf10000_16, ↓gf10000_17, ↓vo11000, ↓gf11000_0, ↓gf11000_1, ↓rf11000_2, ↓rf11000_3, ↓rf11000_4, ↓rf11000_5, ↓rf11000_6, ↓rf11000_7, ↓rf11000_8, ↓rf11000_9, ↓rf11000_10, ↓rf11000_11, ↓rf11000_12, ↓rf11000_13, ↓rf11000_14, ↓rf11000_15, ↓rf11000_16, ↓rf11000_17, ↓gf11000_18, ↓rf11000_19, ↓rf11000_20, ↓rf11000_21, ↓rf11000_22, ↓rf11000_23, ↓rf11000_24, ↓rf11000_25, ↓rf11000_26, ↓rf11000_27, ↓rf11000_28, ↓gf11000_29, ↓gf11000_30, ↓gf11000_31, ↓gf11000_32, ↓rf11000_33, ↓gf11000_34, ↓gf11000_35, ↓gf11000_36, ↓rf11000_37, ↓rf11000_38, ↓rf11000_39, ↓rf11000_40, ↓rf11000_41, ↓gf11000_42, ↓gf11000_43, ↓gf11000_44, ↓rf11000_45, ↓rf11000_46, ↓gf11000_47, ↓gf11000_48, ↓gf11000_49, ↓gf11000_50, ↓rf11000_51, ↓rf11000_52, ↓gf11000_53, ↓rf11000_54, ↓rf11000_55, ↓rf11000_56, ↓rf11000_57, ↓rf11000_58, ↓vo4000, ↓gf4000_0, ↓gf4000_1, ↓gf4000_2, ↓gf4000_3, ↓gf4000_4, ↓gf4000_5, ↓gf4000_6, ↓gf4000_7, ↓gf4000_8, ↓rf4000_9, ↓vo4001, ↓gf4001_0, ↓gf4001_1, ↓gf4001_2, ↓gf4001_3, ↓gf4001_4, ↓gf4001_5, ↓gf4001_6, ↓gf4001_7, ↓gf4001_8, ↓rf4001_9, ↓ga20000, ↓ga20001, ↓ga20002, ↓ga20003, ↓ga20004, ↓ga20005, ↓ga20009, ↓ga20010, ↓ga20012, ↓ga20013, ↓ga20015, ↓ga20016, ↓ga20017, ↓ga20018, ↓ga20019, ↓ga20020, ↓ga20022, ↓ga20023, ↓ga20024, ↓ga20025, ↓ga20026, ↓ga20027, ↓ga20028, ↓ga20029, ↓ga20030, ↓ga20031, ↓ga20032, ↓ga20033, ↓ga20034, ↓ga20035, ↓ga20036, ↓ga20037, ↓ga20038, ↓ga20039, ↓ga20040, ↓ga20041, ↓ga20042, ↓ga20043, ↓ga20044, ↓ga20045, ↓ga20046, ↓ga20047, ↓ga20048, ↓ga20049, ↓ga20050, ↓ga20051, ↓ga20052, ↓ga20053, ↓ga20054, ↓ga20055, ↓ga20056, ↓ga20057, ↓ga20058, ↓ga20059, ↓ga20060, ↓ga20061, ↓ga20062, ↓ga20063, ↓ga20064, ↓ga20065, ↓ga20066, ↓ga20067, ↓ga20068, ↓pf0_1, ↓pf5000_2, ↓pf6000_2, ↓pf6000_3, ↓pf6000_4, ↓pf9000_2, ↓pf10000_13, ↓pf10000_14, ↓pf10000_15, ↓pf10000_16, ↓pf10000_17, ↓pf11000_0, ↓pf11000_1, ↓pf11000_18, ↓pf11000_29, ↓pf11000_30, ↓pf11000_31, ↓pf11000_32, ↓pf11000_34, ↓pf11000_35, ↓pf11000_36, ↓pf11000_42, ↓pf11000_43, ↓pf11000_44, ↓pf11000_47, ↓pf11000_48, ↓pf11000_49, ↓pf11000_50, ↓pf11000_53, ↓pf4000_0, ↓pf4000_1, ↓pf4000_2, ↓pf4000_3, ↓pf4000_4, ↓pf4000_5, ↓pf4000_6, ↓pf4000_7, ↓pf4000_8, ↓pf4001_0, ↓pf4001_1, ↓pf4001_2, ↓pf4001_3, ↓pf4001_4, ↓pf4001_5, ↓pf4001_6, ↓pf4001_7, ↓pf4001_8, ↓sa20000, ↓sa20001, ↓sa20002, ↓sa20003, ↓sa20004, ↓sa20005, ↓sa20009, ↓sa20010, ↓sa20012, ↓sa20013, ↓sa20015, ↓sa20016, ↓sa20017, ↓sa20018, ↓sa20019, ↓sa20020, ↓sa20022, ↓sa20023, ↓sa20024, ↓sa20025, ↓sa20026, ↓sa20027, ↓sa20028, ↓sa20029, ↓sa20030, ↓sa20031, ↓sa20032, ↓sa20033, ↓sa20034, ↓sa20035, ↓sa20036, ↓sa20037, ↓sa20038, ↓sa20039, ↓sa20040, ↓sa20041, ↓sa20042, ↓sa20043, ↓sa20044, ↓sa20045, ↓sa20046, ↓sa20047, ↓sa20048, ↓sa20049, ↓sa20050, ↓sa20051, ↓sa20052, ↓sa20053, ↓sa20054, ↓sa20055, ↓sa20056, ↓sa20057, ↓sa20058, ↓sa20059, ↓sa20060, ↓sa20061, ↓sa20062, ↓sa20063, ↓sa20064, ↓sa20065, ↓sa20066, ↓sa20067, ↓sa20068, ↓s93, ↓s94, ↓s95, ↓s96, ↓s97, ↓s98, ↓s99, ↓s100, ↓s101, ↓s104, ↓s105, ↓s106, ↓s125, ↓s126, ↓s127, ↓s219, ↓s220, ↓s221, ↓h128, ↓h129, ↓h130, ↓h131, ↓s132, ↓h157, ↓h194, ↓h211, ↓cI_s, ↓cV_s, ↓cR_s, ↓cR_n, ↓reduceIte, ↓bI_01, ↓ro0, ↓ro1, ↓ro2, ↓ro3, ↓rol3, up3_s, up3_c, ne_eq, Nat.reduceEqDiff, Wp_s, bI_z, not_true_eq_false, not_false_eq_true, and_self, and_true, true_and, and_false, false_and, if_true, if_false, Classical.not_not, g1, h2, nI_add, c']
        exact w2
      · have k := cr_b (a := x) r m (A 20017 0) (A 20057 0) h3
        have nl := (I0.2.2.2.2.2.2.2.2.2.2.2.2.2.2.2.2.2.2.2.1).2.2
        obtain ⟨i1, i2, i3, i4, i5, i6, i7, i8, i9, i10, i11, i12, i13, i14, i15, i16, i17, i18, i19, i20, i21, i22, i23, i24, i25⟩ := I
        have J21 := law_t nl i21 (t' := rT x (A 20057 0) m r) (fun q hq => rT_lo r m _ q hq) (fun _ _ => rfl)
        exact IH_i ⟨i1, i2, ⟨m + r, by omega, rfl, rfl, k⟩, i4, i5, i6, i7, i8, i9, i10, i11, i12, i13, i14, i15, i16, i17, i18, i19, i20, J21, i22, i23, i24, i25⟩
  · refine ⟨-2, HH A G e, m78 0 (by omega) ?_, -2, HH A G e, m178 0 (by omega) ?_, rfl, IH_i I0⟩
    · rw [x78]
      simp only [↓vo0, ↓rf0_0, ↓gf0_1, ↓vo1000, ↓rf1000_0, ↓rf1000_1, ↓vo2000, ↓rf2000_0, ↓rf2000_1, ↓rf2000_2, ↓rf2000_3, ↓vo5000, ↓rf5000_0, ↓rf5000_1, ↓gf5000_2, ↓vo6000, ↓rf6000_0, ↓rf6000_1, ↓gf6000_2, ↓gf6000_3, ↓gf6000_4, ↓vo9000, ↓rf9000_0, ↓rf9000_1, ↓gf9000_2, ↓rf9000_3, ↓rf9000_4, ↓vo10000, ↓rf10000_0, ↓rf10000_1, ↓rf10000_2, ↓rf10000_3, ↓rf10000_4, ↓rf10000_5, ↓rf10000_6, ↓rf10000_7, ↓rf10000_8, ↓rf10000_9, ↓rf10000_10, ↓rf10000_11, ↓rf10000_12, ↓gf10000_13, ↓gf10000_14, ↓gf10000_15, ↓gf10000_16, ↓gf10000_17, ↓vo11000, ↓gf11000_0, ↓gf11000_1, ↓rf11000_2, ↓rf11000_3, ↓rf11000_4, ↓rf11000_5, ↓rf11000_6, ↓rf11000_7, ↓rf11000_8, ↓rf11000_9, ↓rf11000_10, ↓rf11000_11, ↓rf11000_12, ↓rf11000_13, ↓rf11000_14, ↓rf11000_15, ↓rf11000_16, ↓rf11000_17, ↓gf11000_18, ↓rf11000_19, ↓rf11000_20, ↓rf11000_21, ↓rf11000_22, ↓rf11000_23, ↓rf11000_24, ↓rf11000_25, ↓rf11000_26, ↓rf11000_27, ↓rf11000_28, ↓gf11000_29, ↓gf11000_30, ↓gf11000_31, ↓gf11000_32, ↓rf11000_33, ↓gf11000_34, ↓gf11000_35, ↓gf11000_36, ↓rf11000_37, ↓rf11000_38, ↓rf11000_39, ↓rf11000_40, ↓rf11000_41, ↓gf11000_42, ↓gf11000_43, ↓gf11000_44, ↓rf11000_45, ↓rf11000_46, ↓gf11000_47, ↓gf11000_48, ↓gf11000_49, ↓gf11000_50, ↓rf11000_51, ↓rf11000_52, ↓gf11000_53, ↓rf11000_54, ↓rf11000_55, ↓rf11000_56, ↓rf11000_57, ↓rf11000_58, ↓vo4000, ↓gf4000_0, ↓gf4000_1, ↓gf4000_2, ↓gf4000_3, ↓gf4000_4, ↓gf4000_5, ↓gf4000_6, ↓gf4000_7, ↓gf4000_8, ↓rf4000_9, ↓vo4001, ↓gf4001_0, ↓gf4001_1, ↓gf4001_2, ↓gf4001_3, ↓gf4001_4, ↓gf4001_5, ↓gf4001_6, ↓gf4001_7, ↓gf4001_8, ↓rf4001_9, ↓ga20000, ↓ga20001, ↓ga20002, ↓ga20003, ↓ga20004, ↓ga20005, ↓ga20009, ↓ga20010, ↓ga20012, ↓ga20013, ↓ga20015, ↓ga20016, ↓ga20017, ↓ga20018, ↓ga20019, ↓ga20020, ↓ga20022, ↓ga20023, ↓ga20024, ↓ga20025, ↓ga20026, ↓ga20027, ↓ga20028, ↓ga20029, ↓ga20030, ↓ga20031, ↓ga20032, ↓ga20033, ↓ga20034, ↓ga20035, ↓ga20036, ↓ga20037, ↓ga20038, ↓ga20039, ↓ga20040, ↓ga20041, ↓ga20042, ↓ga20043, ↓ga20044, ↓ga20045, ↓ga20046, ↓ga20047, ↓ga20048, ↓ga20049, ↓ga20050, ↓ga20051, ↓ga20052, ↓ga20053, ↓ga20054, ↓ga20055, ↓ga20056, ↓ga20057, ↓ga20058, ↓ga20059, ↓ga20060, ↓ga20061, ↓ga20062, ↓ga20063, ↓ga20064, ↓ga20065, ↓ga20066, ↓ga20067, ↓ga20068, ↓pf0_1, ↓pf5000_2, ↓pf6000_2, ↓pf6000_3, ↓pf6000_4, ↓pf9000_2, ↓pf10000_13, ↓pf10000_14, ↓pf10000_15, ↓pf10000_16, ↓pf10000_17, ↓pf11000_0, ↓pf11000_1, ↓pf11000_18, ↓pf11000_29, ↓pf11000_30, ↓pf11000_31, ↓pf11000_32, ↓pf11000_34, ↓pf11000_35, ↓pf11000_36, ↓pf11000_42, ↓pf11000_43, ↓pf11000_44, ↓pf11000_47, ↓pf11000_48, ↓pf11000_49, ↓pf11000_50, ↓pf11000_53, ↓pf4000_0, ↓pf4000_1, ↓pf4000_2, ↓pf4000_3, ↓pf4000_4, ↓pf4000_5, ↓pf4000_6, ↓pf4000_7, ↓pf4000_8, ↓pf4001_0, ↓pf4001_1, ↓pf4001_2, ↓pf4001_3, ↓pf4001_4, ↓pf4001_5, ↓pf4001_6, ↓pf4001_7, ↓pf4001_8, ↓sa20000, ↓sa20001, ↓sa20002, ↓sa20003, ↓sa20004, ↓sa20005, ↓sa20009, ↓sa20010, ↓sa20012, ↓sa20013, ↓sa20015, ↓sa20016, ↓sa20017, ↓sa20018, ↓sa20019, ↓sa20020, ↓sa20022, ↓sa20023, ↓sa20024, ↓sa20025, ↓sa20026, ↓sa20027, ↓sa20028, ↓sa20029, ↓sa20030, ↓sa20031, ↓sa20032, ↓sa20033, ↓sa20034, ↓sa20035, ↓sa20036, ↓sa20037, ↓sa20038, ↓sa20039, ↓sa20040, ↓sa20041, ↓sa20042, ↓sa20043, ↓sa20044, ↓sa20045, ↓sa20046, ↓sa20047, ↓sa20048, ↓sa20049, ↓sa20050, ↓sa20051, ↓sa20052, ↓sa20053, ↓sa20054, ↓sa20055, ↓sa20056, ↓sa20057, ↓sa20058, ↓sa20059, ↓sa20060, ↓sa20061, ↓sa20062, ↓sa20063, ↓sa20064, ↓sa20065, ↓sa20066, ↓sa20067, ↓sa20068, ↓s93, ↓s94, ↓s95, ↓s96, ↓s97, ↓s98, ↓s99, ↓s100, ↓s101, ↓s104, ↓s105, ↓s106, ↓s125, ↓s126, ↓s127, ↓s219, ↓s220, ↓s221, ↓h128, ↓h129, ↓h130, ↓h131, ↓s132, ↓h157, ↓h194, ↓h211, ↓cI_s, ↓cV_s, ↓cR_s, ↓cR_n, ↓reduceIte, ↓bI_01, ↓ro0, ↓ro1, ↓ro2, ↓ro3, ↓rol3, up3_s, up3_c, ne_eq, Nat.reduceEqDiff, Wp_s, bI_z, not_true_eq_false, not_false_eq_true, and_self, and_true, true_and, and_false, false_and, if_true, if_false, Classical.not_not, g1]
    · rw [x178]
      simp only [↓vo0, ↓rf0_0, ↓gf0_1, ↓vo1000, ↓rf1000_0, ↓rf1000_1, ↓vo2000, ↓rf2000_0, ↓rf2000_1, ↓rf2000_2, ↓rf2000_3, ↓vo5000, ↓rf5000_0, ↓rf5000_1, ↓gf5000_2, ↓vo6000, ↓rf6000_0, ↓rf6000_1, ↓gf6000_2, ↓gf6000_3, ↓gf6000_4, ↓vo9000, ↓rf9000_0, ↓rf9000_1, ↓gf9000_2, ↓rf9000_3, ↓rf9000_4, ↓vo10000, ↓rf10000_0, ↓rf10000_1, ↓rf10000_2, ↓rf10000_3, ↓rf10000_4, ↓rf10000_5, ↓rf10000_6, ↓rf10000_7, ↓rf10000_8, ↓rf10000_9, ↓rf10000_10, ↓rf10000_11, ↓rf10000_12, ↓gf10000_13, ↓gf10000_14, ↓gf10000_15, ↓gf10000_16, ↓gf10000_17, ↓vo11000, ↓gf11000_0, ↓gf11000_1, ↓rf11000_2, ↓rf11000_3, ↓rf11000_4, ↓rf11000_5, ↓rf11000_6, ↓rf11000_7, ↓rf11000_8, ↓rf11000_9, ↓rf11000_10, ↓rf11000_11, ↓rf11000_12, ↓rf11000_13, ↓rf11000_14, ↓rf11000_15, ↓rf11000_16, ↓rf11000_17, ↓gf11000_18, ↓rf11000_19, ↓rf11000_20, ↓rf11000_21, ↓rf11000_22, ↓rf11000_23, ↓rf11000_24, ↓rf11000_25, ↓rf11000_26, ↓rf11000_27, ↓rf11000_28, ↓gf11000_29, ↓gf11000_30, ↓gf11000_31, ↓gf11000_32, ↓rf11000_33, ↓gf11000_34, ↓gf11000_35, ↓gf11000_36, ↓rf11000_37, ↓rf11000_38, ↓rf11000_39, ↓rf11000_40, ↓rf11000_41, ↓gf11000_42, ↓gf11000_43, ↓gf11000_44, ↓rf11000_45, ↓rf11000_46, ↓gf11000_47, ↓gf11000_48, ↓gf11000_49, ↓gf11000_50, ↓rf11000_51, ↓rf11000_52, ↓gf11000_53, ↓rf11000_54, ↓rf11000_55, ↓rf11000_56, ↓rf11000_57, ↓rf11000_58, ↓vo4000, ↓gf4000_0, ↓gf4000_1, ↓gf4000_2, ↓gf4000_3, ↓gf4000_4, ↓gf4000_5, ↓gf4000_6, ↓gf4000_7, ↓gf4000_8, ↓rf4000_9, ↓vo4001, ↓gf4001_0, ↓gf4001_1, ↓gf4001_2, ↓gf4001_3, ↓gf4001_4, ↓gf4001_5, ↓gf4001_6, ↓gf4001_7, ↓gf4001_8, ↓rf4001_9, ↓ga20000, ↓ga20001, ↓ga20002, ↓ga20003, ↓ga20004, ↓ga20005, ↓ga20009, ↓ga20010, ↓ga20012, ↓ga20013, ↓ga20015, ↓ga20016, ↓ga20017, ↓ga20018, ↓ga20019, ↓ga20020, ↓ga20022, ↓ga20023, ↓ga20024, ↓ga20025, ↓ga20026, ↓ga20027, ↓ga20028, ↓ga20029, ↓ga20030, ↓ga20031, ↓ga20032, ↓ga20033, ↓ga20034, ↓ga20035, ↓ga20036, ↓ga20037, ↓ga20038, ↓ga20039, ↓ga20040, ↓ga20041, ↓ga20042, ↓ga20043, ↓ga20044, ↓ga20045, ↓ga20046, ↓ga20047, ↓ga20048, ↓ga20049, ↓ga20050, ↓ga20051, ↓ga20052, ↓ga20053, ↓ga20054, ↓ga20055, ↓ga20056, ↓ga20057, ↓ga20058, ↓ga20059, ↓ga20060, ↓ga20061, ↓ga20062, ↓ga20063, ↓ga20064, ↓ga20065, ↓ga20066, ↓ga20067, ↓ga20068, ↓pf0_1, ↓pf5000_2, ↓pf6000_2, ↓pf6000_3, ↓pf6000_4, ↓pf9000_2, ↓pf10000_13, ↓pf10000_14, ↓pf10000_15, ↓pf10000_16, ↓pf10000_17, ↓pf11000_0, ↓pf11000_1, ↓pf11000_18, ↓pf11000_29, ↓pf11000_30, ↓pf11000_31, ↓pf11000_32, ↓pf11000_34, ↓pf11000_35, ↓pf11000_36, ↓pf11000_42, ↓pf11000_43, ↓pf11000_44, ↓pf11000_47, ↓pf11000_48, ↓pf11000_49, ↓pf11000_50, ↓pf11000_53, ↓pf4000_0, ↓pf4000_1, ↓pf4000_2, ↓pf4000_3, ↓pf4000_4, ↓pf4000_5, ↓pf4000_6, ↓pf4000_7, ↓pf4000_8, ↓pf4001_0, ↓pf4001_1, ↓pf4001_2, ↓pf4001_3, ↓pf4001_4, ↓pf4001_5, ↓pf4001_6, ↓pf4001_7, ↓pf4001_8, ↓sa20000, ↓sa20001, ↓sa20002, ↓sa20003, ↓sa20004, ↓sa20005, ↓sa20009, ↓sa20010, ↓sa20012, ↓sa20013, ↓sa20015, ↓sa20016, ↓sa20017, ↓sa20018, ↓sa20019, ↓sa20020, ↓sa20022, ↓sa20023, ↓sa20024, ↓sa20025, ↓sa20026, ↓sa20027, ↓sa20028, ↓sa20029, ↓sa20030, ↓sa20031, ↓sa20032, ↓sa20033, ↓sa20034, ↓sa20035, ↓sa20036, ↓sa20037, ↓sa20038, ↓sa20039, ↓sa20040, ↓sa20041, ↓sa20042, ↓sa20043, ↓sa20044, ↓sa20045, ↓sa20046, ↓sa20047, ↓sa20048, ↓sa20049, ↓sa20050, ↓sa20051, ↓sa20052, ↓sa20053, ↓sa20054, ↓sa20055, ↓sa20056, ↓sa20057, ↓sa20058, ↓sa20059, ↓sa20060, ↓sa20061, ↓sa20062, ↓sa20063, ↓sa20064, ↓sa20065, ↓sa20066, ↓sa20067, ↓sa20068, ↓s93, ↓s94, ↓s95, ↓s96, ↓s97, ↓s98, ↓s99, ↓s100, ↓s101, ↓s104, ↓s105, ↓s106, ↓s125, ↓s126, ↓s127, ↓s219, ↓s220, ↓s221, ↓h128, ↓h129, ↓h130, ↓h131, ↓s132, ↓h157, ↓h194, ↓h211, ↓cI_s, ↓cV_s, ↓cR_s, ↓cR_n, ↓reduceIte, ↓bI_01, ↓ro0, ↓ro1, ↓ro2, ↓ro3, ↓rol3, up3_s, up3_c, ne_eq, Nat.reduceEqDiff, Wp_s, bI_z, not_true_eq_false, not_false_eq_true, and_self, and_true, true_and, and_false, false_and, if_true, if_false, Classical.not_not, g1]
/-! a new LAW in the class -/
theorem gR_x {h h' : PH} {k c j : Nat} {X : PR} {K : Nat → PR} (hh : h.1 k = h'.1 k) : gR h k c j X K = gR h' k c j X K := by
  unfold gR
  rw [hh]
theorem gI_x {h h' : PH} {k c j : Nat} {K : Int32 → PR} (hh : h.1 k = h'.1 k) : gI h k c j K = gI h' k c j K := by
  unfold gI
  rw [hh]
theorem aL_x {ro : RO} {h h' : PH} {k : Nat} {K : Int32 → PR} (hh : h.1 k = h'.1 k) : aL ro h k K = aL ro h' k K := by
  unfold aL arr
  rw [hh]
theorem add_n {h : PH} {k q kd n : Nat} {x : PE} (hq : q ≠ k) : (ph_add h k kd n x).1 q = h.1 q := by simp [ph_add, va_up, hq]
theorem add_s {h : PH} {k kd n : Nat} {x : PE} : (ph_add h k kd n x).1 k = some x := by simp [ph_add, va_up]
theorem put_n {h : PH} {k q : Nat} {x : PE} (hq : q ≠ k) : (ph_put h k x).1 q = h.1 q := by simp [ph_put, va_up, hq]
theorem put_add {h : PH} {k kd n : Nat} {x y : PE} : ph_put (ph_add h k kd n x) k y = ph_add h k kd n y := by
  refine Prod.ext (funext fun q => ?_) rfl
  by_cases hq : q = k <;> simp [ph_put, ph_add, va_up, hq]
/-- the object, then the array of its text -/
def e_L (e : Ev) (n : Nat) : Ev := (va_up e.1 20014 (va_up (e.1 20014) (eNl e) (some (3000 + eNl e))), e.2.1, e.2.2.1, e.2.2.2.1, eNl e + 1, eNx e + 1, va_up (eTl e) (eNx e) n, (eLg e ++ [3000 + eNl e]) ++ [20069 + eNx e], eUs e + 3 + n)
def fL (c y : Int32) (j : Nat) : Int32 := if j = 0 then c else if j = 1 then y else 0
def hN1 (h : PH) (nl : Nat) : PH := ph_add h (3000 + nl) 3 (clN 3) (.inr (.inr (3, dfl 3)))
def hN2 (h : PH) (nl nx n : Nat) (F : Nat → Int32) : PH := ph_add (hN1 h nl) (20069 + nx) 20 n (.inl (0, n, F))
def hN3 (h : PH) (nl nx n : Nat) (F : Nat → Int32) (c y : Int32) : PH := ph_put (hN2 h nl nx n F) (3000 + nl) (.inr (.inr (3, [.int c, .int y, .ref (20069 + nx)])))
def hN4 (A G : Mat) (e : Ev) (nl nx n : Nat) (F : Nat → Int32) (c y : Int32) : PH := ph_put (hN3 (HH A G e) nl nx n F c y) 20014 (.inr (.inl (13, 12, va_up (eR e 20014) nl (some (3000 + nl)))))
theorem clsK_L {n q : Nat} (h : q ≠ 3000 + eNl e) : clsK (e_L e n) q = clsK e q := by
  have h1 : eNr (e_L e n) = eNr e := rfl
  have h2 : eNl (e_L e n) = eNl e + 1 := rfl
  have h3 : (3000 ≤ q ∧ q < 3000 + (eNl e + 1) ∧ q < 4000) ↔ (3000 ≤ q ∧ q < 3000 + eNl e ∧ q < 4000) := by omega
  unfold clsK
  rw [h1, h2]
  simp only [h3]
theorem hN4_a {n : Nat} {F : Nat → Int32} {c y : Int32} : (hN4 A G e (eNl e) (eNx e) n F c y).1 20014 = cells (upr A 20069 (eNx e) F) (upr G 3 (eNl e) (fL c y)) (e_L e n) 20014 := by
  unfold hN4
  rw [put_at]
  rfl
theorem objL_L {G' : Mat} {e' : Ev} {q w : Nat} (h1 : q - 1000 * 3 = w) (h2 : q - 3000 = w) : objL G' e' 3 q = [Value.int (G' 3 w 0), Value.int (G' 3 w 1), Value.ref (20069 + w)] := by
  subst h1
  show [Value.int (G' 3 (q - 1000 * 3) 0), Value.int (G' 3 (q - 1000 * 3) 1), Value.ref (20069 + (q - 3000))] = _
  rw [h2]
theorem hN4_b {n : Nat} {F : Nat → Int32} {c y : Int32} (hl : eNl e < 1000) (hx : eNx e = eNl e) : (hN3 (HH A G e) (eNl e) (eNx e) n F c y).1 (3000 + eNl e) = cells (upr A 20069 (eNx e) F) (upr G 3 (eNl e) (fL c y)) (e_L e n) (3000 + eNl e) := by
  have h7 : clsK (e_L e n) (3000 + eNl e) = some 3 := clsK3 (e := e_L e n) (Nat.lt_succ_self _) hl
  unfold hN3
  rw [put_at, cell_obj h7, objL_L (w := eNl e) (by omega) (by omega), upr_a, hx]
  rfl
theorem hN4_c {G' : Mat} {n : Nat} {F : Nat → Int32} : (hN2 (HH A G e) (eNl e) (eNx e) n F).1 (20069 + eNx e) = cells (upr A 20069 (eNx e) F) G' (e_L e n) (20069 + eNx e) := by
  have h0 : eNx (e_L e n) = eNx e + 1 := rfl
  have h8 := cell_txt (A := upr A 20069 (eNx e) F) (G := G') (e := e_L e n) (k := 20069 + eNx e) (by omega) (by rw [h0]; omega)
  have h9 : eTl (e_L e n) (eNx e) = n := if_pos rfl
  unfold hN2
  rw [add_s, h8, show 20069 + eNx e - 20069 = eNx e by omega, upr_a, h9]
theorem hN4_d {n r : Nat} {F : Nat → Int32} {c y : Int32} (r1 : r ≠ 20014) (r2 : r ≠ 3000 + eNl e) (r3 : r ≠ 20069 + eNx e) : cells A G e r = cells (upr A 20069 (eNx e) F) (upr G 3 (eNl e) (fL c y)) (e_L e n) r := by
  unfold cells
  by_cases q1 : r < 20000
  · rw [if_pos q1, if_pos q1, clsK_L r2]
    cases hcc : clsK e r with
    | none => rfl
    | some ci =>
      have h7 : objL (upr G 3 (eNl e) (fL c y)) (e_L e n) ci r = objL G e ci r := by
        rw [objL_upr]
        · rfl
        · rintro ⟨rfl, z⟩
          have := clsK_lt hcc
          omega
      show some (Sum.inr (Sum.inr (ci, objL G e ci r))) = some (Sum.inr (Sum.inr (ci, objL (upr G 3 (eNl e) (fL c y)) (e_L e n) ci r)))
      rw [h7]
  · rw [if_neg q1, if_neg q1]
    by_cases q2 : r < 20069
    · rw [if_pos q2, if_pos q2]
      have hk : arK r ≠ 20069 := by
        unfold arK
        repeat' split
        all_goals omega
      have h8 : eR (e_L e n) r = eR e r := if_neg r1
      rw [upr_c hk, h8]
    · rw [if_neg q2, if_neg q2]
      have h3 : eNx (e_L e n) = eNx e + 1 := rfl
      rw [h3]
      by_cases q3 : r < 20069 + eNx e
      · have hk : arK r = 20069 := by
          unfold arK
          rw [if_neg (by omega), if_neg (by omega), if_neg (by omega)]
        obtain ⟨w, hw⟩ : ∃ w, r - 20069 = w := ⟨_, rfl⟩
        have hi : arI r = w := by
          unfold arI
          rw [if_neg (by omega), if_neg (by omega), if_neg (by omega), hw]
        have hne : w ≠ eNx e := by omega
        have h9 : eTl (e_L e n) w = eTl e w := if_neg hne
        rw [if_pos q3, if_pos (by omega), hk, hi, upr_n hne, hw, h9]
      · rw [if_neg q3, if_neg (by omega)]
theorem hN4_k {n k : Nat} : va_up (va_up (cntF e) 3 (cntF e 3 + 1)) 20 (va_up (cntF e) 3 (cntF e 3 + 1) 20 + 1) k = cntF (e_L e n) k := by
  by_cases k1 : k = 20
  · subst k1
    show 69 + eNx e + 1 = 69 + (eNx e + 1)
    omega
  · by_cases k2 : k = 3
    · subst k2
      rfl
    · simp only [va_up, if_neg k1, if_neg k2]
      unfold cntF
      split
      all_goals first | rfl | exact absurd rfl k1 | exact absurd rfl k2
theorem hN4_e {n : Nat} {F : Nat → Int32} {c y : Int32} (hl : eNl e < 1000) (hx : eNx e = eNl e) : hN4 A G e (eNl e) (eNx e) n F c y = HH (upr A 20069 (eNx e) F) (upr G 3 (eNl e) (fL c y)) (e_L e n) := by
  refine Prod.ext (funext fun r => ?_) (Prod.ext (funext fun k => hN4_k) rfl)
  show (hN4 A G e (eNl e) (eNx e) n F c y).1 r = cells (upr A 20069 (eNx e) F) (upr G 3 (eNl e) (fL c y)) (e_L e n) r
  by_cases r1 : r = 20014
  · rw [r1]
    exact hN4_a
  · unfold hN4
    rw [put_n r1]
    by_cases r2 : r = 3000 + eNl e
    · rw [r2]
      exact hN4_b hl hx
    · unfold hN3
      rw [put_n r2]
      by_cases r3 : r = 20069 + eNx e
      · rw [r3]
        exact hN4_c
      · unfold hN2
        rw [add_n r3]
        unfold hN1
        rw [add_n r2]
        exact hN4_d r1 r2 r3
theorem nO3 {K : Nat → PH → PR} (hl : eNl e < 1000) : nO (HH A G e) 3 (clN 3) (dfl 3) K = K (3000 + eNl e) (hN1 (HH A G e) (eNl e)) := by
  have hk : 1000 * 3 + (HH A G e).2.1 3 = 3000 + eNl e := rfl
  have hc : clsK e (3000 + eNl e) = none := by
    unfold clsK
    rw [if_neg (by omega), if_neg (by omega), if_neg (by omega), if_neg (by omega), if_neg (by omega), if_neg (by omega), if_neg (by omega), if_neg (by omega), if_neg (by omega), if_neg (by omega), if_neg (by omega), if_neg (by omega)]
  have hz : (HH A G e).1 (3000 + eNl e) = none := by
    show cells A G e _ = none
    unfold cells
    rw [if_pos (by omega), hc]
  unfold nO
  rw [hk, hz]
  simp only [Option.isNone_none, true_and]
  rw [if_pos (by omega)]
  rfl
theorem s223 {n : Nat} (hn : n ≤ 80) (hl : eNl e < 1000) (hx : eNx e < 1000) : ∃ F : Nat → Int32, (∀ j, j < n → F j = A 20017 0 j) ∧ CALL (roL L xs) mP mL (N + 5050) (d + 2) 223 [.ref 20017, .int (nI n)] (hN1 (HH A G e) (eNl e)) = some (some (.ref (20069 + eNx e)), hN2 (HH A G e) (eNl e) (eNx e) n F) := by
  have h17 : (hN1 (HH A G e) (eNl e)).1 20017 = some (.inl (0, 80, A 20017 0)) := by
    unfold hN1
    rw [add_n (by omega)]
    exact cell_arr (A := A) (G := G) (e := e) (k := 20017) (by decide) (by decide) rfl
  have hkx : 20000 + (hN1 (HH A G e) (eNl e)).2.1 20 = 20069 + eNx e := by
    show 20000 + (69 + eNx e) = 20069 + eNx e
    omega
  have hnx : (hN1 (HH A G e) (eNl e)).1 (20069 + eNx e) = none := by
    unfold hN1
    rw [add_n (by omega)]
    show cells A G e _ = none
    unfold cells
    rw [if_neg (by omega), if_neg (by omega), if_neg (by omega)]
  by_cases c : n = 80
  · subst c
    refine ⟨A 20017 0, fun _ _ => rfl, ?_⟩
    have q1 : clA (hN1 (HH A G e) (eNl e)) 20017 (fun q8 h9 => (if isA h9 q8 = true then (some (some (.ref q8), h9)) else none)) = some (some (.ref (20069 + eNx e)), hN2 (HH A G e) (eNl e) (eNx e) 80 (A 20017 0)) := by
      unfold clA
      rw [h17]
      show (if 0 = 0 ∧ _ ∧ _ then _ else none) = _
      rw [hkx, hnx, if_pos ⟨rfl, rfl, by omega⟩]
      have : isA (hN2 (HH A G e) (eNl e) (eNx e) 80 (A 20017 0)) (20069 + eNx e) = true := by
        unfold isA hN2
        rw [add_s]
        rfl
      show (if isA (hN2 (HH A G e) (eNl e) (eNx e) 80 (A 20017 0)) (20069 + eNx e) = true then _ else none) = _
      rw [if_pos this]
      rfl
    rw [m223, aL_of (by decide) h17, if_pos (show nI 80 = Int32.ofNat 80 from rfl)]
    exact q1
  · have hne : ¬ nI n = Int32.ofNat 80 := fun q => c ((nI_eq (b := 80) (by omega) (by decide)).mp q)
    have cn := nI_clamp (n := n) (by omega)
    refine ⟨va_cpy (A 20017 0) (fun _ => 0) 0 0 n, fun j hj => ?_, ?_⟩
    · rw [pk_cpy_in (Nat.zero_le _) (by omega)]
      congr 1
      omega
    · have q1 : ∀ K : Nat → PH → PR, nA (hN1 (HH A G e) (eNl e)) 0 (nI n) (fun _ => 0) K = K (20069 + eNx e) (hN2 (HH A G e) (eNl e) (eNx e) n (fun _ => 0)) := fun K => by
        unfold nA
        rw [hkx, hnx, cn, if_pos ⟨rfl, by omega, nI_pos (by omega), by omega⟩]
        rfl
      have h17b : (hN2 (HH A G e) (eNl e) (eNx e) n (fun _ => 0)).1 20017 = some (.inl (0, 80, A 20017 0)) := by
        unfold hN2
        rw [add_n (by omega)]
        exact h17
      have hkb : (hN2 (HH A G e) (eNl e) (eNx e) n (fun _ => 0)).1 (20069 + eNx e) = some (.inl (0, n, fun _ => 0)) := by
        unfold hN2
        rw [add_s]
      have q2 : ∀ K : PH → PR, cpA (hN2 (HH A G e) (eNl e) (eNx e) n (fun _ => 0)) 20017 0 (20069 + eNx e) 0 (nI n) K = K (hN2 (HH A G e) (eNl e) (eNx e) n (va_cpy (A 20017 0) (fun _ => 0) 0 0 n)) := fun K => by
        unfold cpA
        rw [h17b, hkb]
        show (if 0 = 0 ∧ 0 = 0 ∧ _ ∧ _ ∧ _ ∧ _ ∧ _ then _ else none) = _
        rw [cn, show (0 : Int32).toNatClampNeg = 0 from rfl, if_pos ⟨rfl, rfl, by decide, by decide, nI_pos (by omega), by omega, by omega⟩]
        unfold hN2
        rw [put_add]
      rw [m223, aL_of (by decide) h17, if_neg hne, q1, aL_of (by decide) h17b, s221, cI_s, if_pos (show nI n < Int32.ofNat 80 from nI_lt (b := 80) (by omega) (by decide)), q2]
theorem s9 {nl nx n : Nat} {F : Nat → Int32} {c y : Int32} {h : PH} (hne : 3000 + nl ≠ 20069 + nx) : CALL (roL L xs) mP mL (N + 5050) (d + 1) 9 [.ref (3000 + nl), .int c, .int y, .ref (20069 + nx)] (hN2 h nl nx n F) = some (none, hN3 h nl nx n F c y) := by
  have h1 : (hN2 h nl nx n F).1 (3000 + nl) = some (.inr (.inr (3, [.int 0, .int 0, .null]))) := by
    unfold hN2
    rw [add_n hne]
    unfold hN1
    rw [add_s]
    rfl
  have p1 : ∀ (h : PH) (k j : Nat) (v : Value) (fs : List Value) (K : PH → PR), h.1 k = some (.inr (.inr (3, fs))) → j < fs.length → pF h k 3 j v K = K (ph_put h k (.inr (.inr (3, fs.set j v)))) := fun h k j v fs K e1 e2 => by
    unfold pF
    rw [e1]
    simp only [true_and, if_pos e2]
  rw [m9, p1 _ _ 0 _ _ _ h1 (by decide), p1 _ _ 1 _ _ _ put_at (by simp), p1 _ _ 2 _ _ _ put_at (by simp), put_put, put_put]
  rfl
theorem sR_L {nl nx n : Nat} {F : Nat → Int32} {c y : Int32} {K : PH → PR} (hl : nl < 12) (hx : nx < 1000) : sR (hN3 (HH A G e) nl nx n F c y) 20014 (nI nl) (3000 + nl) K = K (hN4 A G e nl nx n F c y) := by
  have h1 : (hN3 (HH A G e) nl nx n F c y).1 20014 = some (.inr (.inl (13, 12, eR e 20014))) := by
    unfold hN3
    rw [put_n (by omega)]
    unfold hN2
    rw [add_n (by omega)]
    unfold hN1
    rw [add_n (by omega)]
    exact cell_ref (A := A) (G := G) (e := e) (k := 20014) (by decide) (by decide) rfl
  have h2 : (hN3 (HH A G e) nl nx n F c y).1 (3000 + nl) = some (.inr (.inr (3, [.int c, .int y, .ref (20069 + nx)]))) := by
    unfold hN3
    rw [put_at]
  have cl := nI_clamp (n := nl) (by omega)
  unfold sR
  rw [h1, h2]
  show (if 13 = 10 + 3 ∧ _ then _ else none) = _
  rw [if_pos ⟨rfl, vp_in_nI hl (by decide)⟩, cl]
  rfl
end FEED
