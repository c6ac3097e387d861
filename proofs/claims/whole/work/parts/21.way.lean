/-! THE WAY -/
def mi (R : Nat → Nat → Int32) (i : Nat) : Int32 := (R i 5 * R i 6) / 10
def wM (R : Nat → Nat → Int32) (i : Nat) (p : Int32 × Int32) : Int32 × Int32 := (q_kp (p.1 + ((mi R i * c_east (R i 7).toNatClampNeg) / 1000)), q_kp (p.2 + ((mi R i * c_east (((R i 7).toNatClampNeg + 4) % 16)) / 1000)))
def wI (dx dy : Nat → Int32) (p : Int32 × Int32) : Int32 × Int32 := (q_kp (p.1 + dx (q_ce p.1 p.2).toNatClampNeg), q_kp (p.2 + dy (q_ce p.1 p.2).toNatClampNeg))
def wP (R : Nat → Nat → Int32) (n : Nat) (dx dy : Nat → Int32) (l y : Int32) (s : Int32 × Int32) : Nat → Int32 × Int32
  | 0 => s
  | d + 1 => wI dx dy (match mo R n l (nI d) y with | none => wP R n dx dy l y s d | some i => wM R i (wP R n dx dy l y s d))
/-- PLACE of a LOG behind so many DAYS, as told by a YEAR -/
def WP (A G : Mat) (e : Ev) (l y d : Nat) : Int32 × Int32 := wP (G 7) (eNr e) (A 20000 0) (A 20001 0) (nI l) (nI y) (G 4 l 4, G 4 l 5) d
theorem kp_r (x : Int32) : -400 ≤ q_kp x ∧ q_kp x ≤ 399 := by
  unfold q_kp
  split
  · decide
  · split
    · decide
    · rename_i h1 h2
      exact ⟨Int32.not_lt.mp h1, Int32.not_lt.mp h2⟩
theorem c_n {x : Int32} (h : -400 ≤ x ∧ x ≤ 399) : ∃ k, k < 800 ∧ x + 400 = nI k := by
  obtain ⟨h1, h2⟩ := h
  rw [Int32.le_iff_toInt_le] at h1 h2
  have a : (-400 : Int32).toInt = -400 := by decide
  have b : (399 : Int32).toInt = 399 := by decide
  have c : (400 : Int32).toInt = 400 := by decide
  have h3 : (x + 400).toInt = x.toInt + 400 := by
    rw [Int32.toInt_add, c, Int.bmod_eq_of_le (by omega) (by omega)]
  obtain ⟨j, hj, e⟩ := nI_of (x := x + 400) (by rw [Int32.lt_iff_toInt_lt, h3, show (0 : Int32).toInt = 0 by decide]; omega)
  refine ⟨j, ?_, e⟩
  have := congrArg Int32.toInt e
  rw [h3, nI_toInt hj] at this
  omega
theorem ce_r {x y : Int32} (h : plc x y) : ∃ c, c < 64 ∧ q_ce x y = nI c := by
  obtain ⟨a, ha, ea⟩ := c_n h.1
  obtain ⟨b, hb, eb⟩ := c_n h.2
  refine ⟨8 * (b / 100) + a / 100, by omega, ?_⟩
  unfold q_ce
  rw [ea, eb, pk_div (a := b) (d := 100) (by omega) (by decide) (by decide) |> fun q => (show nI b / 100 = nI (b / 100) from q), pk_div (a := a) (d := 100) (by omega) (by decide) (by decide) |> fun q => (show nI a / 100 = nI (a / 100) from q), show (8 : Int32) * nI (b / 100) = nI (8 * (b / 100)) from pk_mul 8 _, nI_add]
theorem wI_p {dx dy : Nat → Int32} {p : Int32 × Int32} : plc (wI dx dy p).1 (wI dx dy p).2 := ⟨kp_r _, kp_r _⟩
theorem wM_p {R : Nat → Nat → Int32} {i : Nat} {p : Int32 × Int32} : plc (wM R i p).1 (wM R i p).2 := ⟨kp_r _, kp_r _⟩
theorem m_m1 {m : Nat} {x : Int32} (hx : x + 1 = nI m) (hm : m ≤ 201) (d : Nat) (hd : d ≤ 201) : x < nI d ↔ m ≤ d := by
  have h1 : x = nI m - nI 1 := by
    rw [← hx, show nI 1 = (1 : Int32) from rfl, Int32.add_sub_cancel]
  rw [h1, Int32.lt_iff_toInt_lt, pk_sub_toInt (by omega) (by decide), nI_toInt (by omega)]
  omega
theorem g_m1 {x : Int32} (g : -1 ≤ x ∧ x ≤ 199) : ∃ m, m < 201 ∧ x + 1 = nI m := by
  obtain ⟨h1, h2⟩ := g
  rw [Int32.le_iff_toInt_le] at h1 h2
  have a : (-1 : Int32).toInt = -1 := by decide
  have b : (199 : Int32).toInt = 199 := by decide
  have c : (1 : Int32).toInt = 1 := by decide
  have h3 : (x + 1).toInt = x.toInt + 1 := by
    rw [Int32.toInt_add, c, Int.bmod_eq_of_le (by omega) (by omega)]
  obtain ⟨j, hj, e⟩ := nI_of (x := x + 1) (by rw [Int32.lt_iff_toInt_lt, h3, show (0 : Int32).toInt = 0 by decide]; omega)
  refine ⟨j, ?_, e⟩
  have := congrArg Int32.toInt e
  rw [h3, nI_toInt hj] at this
  omega
section WAY
variable {A G : Mat} {e : Ev} {L : Nat} {xs : Nat → Int32} {N d : Nat}
theorem WP_p (I : Inv A G e) {l : Nat} (hl : l < 2) (y : Nat) : ∀ m, plc (WP A G e l y m).1 (WP A G e l y m).2
  | 0 => (I.2.2.2.2.2.2.2.2.2.2.2.2.1 l hl).2.2
  | m + 1 => wI_p
/-- the class's way is walked -/
def Wy (A G : Mat) (e : Ev) (l y m : Nat) : Prop := eW e = 4000 + l ∧ G 9 0 2 = nI y ∧ ∀ j, j ≤ m → A 20009 0 j = (WP A G e l y j).1 ∧ A 20010 0 j = (WP A G e l y j).2
def Wm (A G : Mat) (e : Ev) (l y : Nat) : Prop := ∀ j, j ≤ 200 → A 20052 0 j = (WP A G e l y j).1 ∧ A 20053 0 j = (WP A G e l y j).2
theorem I_mch' (I : Inv A G e) : I_mch (eR e) (G 7) (eNr e) := I.2.2.2.2.2.2.2.2.2.2.2.2.2.2.2.2.2.2.1
theorem I_row' (I : Inv A G e) : I_row (G 7) (A 20044 0) (A 20045 0) (A 20046 0) (A 20047 0) (A 20048 0) (A 20049 0) (A 20050 0) (A 20051 0) (eNr e) := I.2.2.2.2.2.2.2.2.2.2.2.2.2.2.2.1
theorem I_ref' (I : Inv A G e) : I_ref (eR e) (eNr e) := I.2.2.2.2.2.2.2.2.2.2.2.2.2.2.2.2.2.1
theorem I_cnt' (I : Inv A G e) : I_cnt (G 10 0 15) (G 11 0 18) (eNr e) 120 := I.2.2.2.2.2.2.2.2.2.2.2.2.2.2.1
theorem s42n (I : Inv A G e) {l y dy : Nat} (hl : l < 2) (hd : dy < 200) (hW : eW e = 4000 + l) (hY : G 9 0 2 = nI y) (hm : mo (G 7) (eNr e) (nI l) (nI dy) (nI y) = none) : CALL (roL L xs) mP mL (N + 5050) (d + 1) 42 [.ref 9000, .int (nI dy)] (HH A G e) = some (some .null, HH A G e) := by
  have c := (I_cnt' I).2.2
  rw [m42, rf9000_1, hW, gR4 hl]
  cases h : eR e (20007 + l) dy with
  | none => rw [aRmN hl hd h]
  | some q =>
    obtain ⟨i, hi, rfl, -⟩ := (I_mch' I l hl dy hd q).mp h
    obtain ⟨-, -, -, -, h5⟩ := mo_some (y := nI y) hl hd (I_mch' I) h
    rw [hm] at h5
    have h6 : ¬ G 7 i 4 ≤ nI y := fun q => by rw [if_pos q] at h5; cases h5
    rw [aRm hl hd h, gI7 hi (by omega) (by decide), gf9000_2, hY, if_pos (Int32.not_le.mp h6)]
theorem s42s (I : Inv A G e) {l y dy i : Nat} (hl : l < 2) (hd : dy < 200) (hW : eW e = 4000 + l) (hY : G 9 0 2 = nI y) (hm : mo (G 7) (eNr e) (nI l) (nI dy) (nI y) = some i) : CALL (roL L xs) mP mL (N + 5050) (d + 1) 42 [.ref 9000, .int (nI dy)] (HH A G e) = some (some (.ref (7000 + i)), HH A G e) := by
  have c := (I_cnt' I).2.2
  rw [m42, rf9000_1, hW, gR4 hl]
  cases h : eR e (20007 + l) dy with
  | none =>
    rw [mo_none hl hd (I_mch' I) h] at hm
    cases hm
  | some q =>
    obtain ⟨i', hi, rfl, -⟩ := (I_mch' I l hl dy hd q).mp h
    obtain ⟨-, -, -, -, h5⟩ := mo_some (y := nI y) hl hd (I_mch' I) h
    rw [hm] at h5
    have h6 : G 7 i' 4 ≤ nI y := by
      by_cases z : G 7 i' 4 ≤ nI y
      · exact z
      · rw [if_neg z] at h5
        cases h5
    rw [if_pos h6] at h5
    cases h5
    rw [aRm hl hd h, gI7 hi (by omega) (by decide), gf9000_2, hY, if_neg (Int32.not_lt.mpr h6)]
theorem mo_i (I : Inv A G e) {l dy y : Int32} {i : Nat} (hm : mo (G 7) (eNr e) l dy y = some i) : i < eNr e ∧ G 7 i 3 = 1 ∧ G 7 i 1 = l ∧ G 7 i 2 = dy ∧ G 7 i 4 ≤ y ∧ ∃ b, b < 16 ∧ G 7 i 7 = nI b := by
  obtain ⟨-, h1, h2⟩ := fi_some hm
  simp only [mP1, decide_eq_true_eq] at h2
  have h3 : i < eNr e := by omega
  exact ⟨h3, h2.1, h2.2.1, h2.2.2.1, h2.2.2.2, ((I_row' I i h3).1).2.2.2.2.1 h2.1⟩
theorem s34 (I : Inv A G e) {i : Nat} (hi : i < eNr e) : CALL (roL L xs) mP mL (N + 5050) (d + 1) 34 [.ref (7000 + i)] (HH A G e) = some (some (.int (mi (G 7) i)), HH A G e) := by
  have c := (I_cnt' I).2.2
  rw [m34, gI7 hi (by omega) (by decide), gI7 hi (by omega) (by decide)]
  rfl
theorem inv_w (I : Inv A G e) {l : Nat} (hl : l < 2) {fx fy : Nat → Int32} {v : Int32} : Inv (upr (upr A 20009 0 fx) 20010 0 fy) (up3 G 9 0 2 v) (e_W e (4000 + l)) := by
  obtain ⟨i1, i2, i3, i4, i5, i6, i7, i8, i9, i10, i11, i12, i13, i14, i15, i16, i17, i18, i19, i20, i21, i22, i23, i24, i25⟩ := I
  exact ⟨i1, i2, i3, i4, i5, i6, i7, i8, i9, i10, i11, i12, i13, i14, i15, i16, i17, i18, i19, i20, i21, i22, i23, i24, ⟨i25.1, i25.2.1, i25.2.2.1, l, hl, rfl⟩⟩
theorem inv_m (I : Inv A G e) {fx fy : Nat → Int32} : Inv (upr (upr A 20052 0 fx) 20053 0 fy) G e := by
  obtain ⟨i1, i2, i3, i4, i5, i6, i7, i8, i9, i10, i11, i12, i13, i14, i15, i16, i17, i18, i19, i20, i21, i22, i23, i24, i25⟩ := I
  exact ⟨i1, i2, i3, i4, i5, i6, i7, i8, i9, i10, i11, i12, i13, i14, i15, i16, i17, i18, i19, i20, i21, i22, i23, i24, i25⟩
def wFx (p : Nat → Int32) (X : Nat → Int32) (i : Nat) : Nat → Int32 := fun j => if j ≤ i then p j else X j
theorem wFx_s {p X : Nat → Int32} {i : Nat} : upd (wFx p X i) (i + 1) (p (i + 1)) = wFx p X (i + 1) := by
  funext j
  by_cases hj : j = i + 1
  · subst hj
    simp [upd, wFx]
  · simp only [upd, if_neg hj, wFx]
    have : j ≤ i + 1 ↔ j ≤ i := by omega
    simp only [this]
theorem b_and {b : Nat} (hb : b < 16) : (nI b &&& 15 : Int32) = nI b := by
  rw [pk_andN (m := 15) (by omega) 4 (by decide), Nat.mod_eq_of_lt (by omega)]
theorem b_and4 {b : Nat} (hb : b < 16) : ((nI b + 4) &&& 15 : Int32) = nI ((b + 4) % 16) := by
  rw [show nI b + 4 = nI (b + 4) from nI_add b 4, pk_andN (m := 15) (by omega) 4 (by decide)]
theorem b_rem4 {b : Nat} (hb : b < 16) : ((nI b + 4) - (nI b + 4) / 16 * 16 : Int32) = nI ((b + 4) % 16) := by
  rw [show nI b + 4 = nI (b + 4) from nI_add b 4]
  exact pk_rem (d := 16) (by omega) (by decide) (by decide)
theorem w41 (I : Inv A G e) {l y m : Nat} {X Y : Nat → Int32} {ld : Int32} (hl : l < 2) (hm : m ≤ 200) (hld : ld + 1 = nI m) (hW : eW e = 4000 + l) (hY : G 9 0 2 = nI y) : ∀ (r i : Nat) (o1 o2 o7 o8 : Option Value), i + r = m → EXn (roL L xs) p41 (CALL (roL L xs) mP mL (N + 5050) (d + 2)) (2 * (r + 1)) 47 [some (.ref 9000), o1, o2, some (.int ld), some (.int (WP A G e l y i).1), some (.int (WP A G e l y i).2), some (.int (nI i)), o7, o8] [] (HH (upr (upr A 20009 0 (wFx (fun j => (WP A G e l y j).1) X i)) 20010 0 (wFx (fun j => (WP A G e l y j).2) Y i)) G e) = some (none, HH (upr (upr A 20009 0 (wFx (fun j => (WP A G e l y j).1) X m)) 20010 0 (wFx (fun j => (WP A G e l y j).2) Y m)) G e)
  | 0, i, o1, o2, o7, o8, hi => by
    refine EXs_le (S := [47]) (n := 0) 2 47 _ _ _ ?_
    have : i = m := by omega
    subst this
    rw [l41_47, if_pos ((m_m1 hld (by omega) i (by omega)).mpr (Nat.le_refl _))]
  | r + 1, i, o1, o2, o7, o8, hi => by
    refine EXs_le (S := [47]) (n := 2 * (r + 1)) 2 47 _ _ _ ?_
    have hi2 : i < 200 := by omega
    have ih := w41 I (X := X) (Y := Y) hl hm hld hW hY r (i + 1)
    have I1 : Inv (upr (upr A 20009 0 (wFx (fun j => (WP A G e l y j).1) X i)) 20010 0 (wFx (fun j => (WP A G e l y j).2) Y i)) G e := by
      obtain ⟨i1, i2, i3, i4, i5, i6, i7, i8, i9, i10, i11, i12, i13, i14, i15, i16, i17, i18, i19, i20, i21, i22, i23, i24, i25⟩ := I
      exact ⟨i1, i2, i3, i4, i5, i6, i7, i8, i9, i10, i11, i12, i13, i14, i15, i16, i17, i18, i19, i20, i21, i22, i23, i24, i25⟩
    have pp := WP_p I hl y i
    have wx : ∀ fx fy : Nat → Int32, ∀ a b : Int32, up3 (up3 (upr (upr A 20009 0 fx) 20010 0 fy) 20009 0 (i + 1) a) 20010 0 (i + 1) b = upr (upr A 20009 0 (upd fx (i + 1) a)) 20010 0 (upd fy (i + 1) b) := by
      intro fx fy a b
      rw [upr_x (by decide), up3_upr, upr_x (by decide), up3_upr]
    have cc := nI_clamp (n := i + 1) (by omega)
    rw [l41_47, if_neg (fun q => absurd ((m_m1 hld (by omega) i (by omega)).mp q) (by omega)), if_pos (show nI i < (200 : Int32) from nI_lt (b := 200) hi2 (by decide)), vo9000]
    cases hmo : mo (G 7) (eNr e) (nI l) (nI i) (nI y) with
    | none =>
      have w1 : WP A G e l y (i + 1) = wI (A 20000 0) (A 20001 0) (WP A G e l y i) := by
        show wI _ _ (match mo (G 7) (eNr e) (nI l) (nI i) (nI y) with | none => _ | some i => _) = _
        rw [hmo]
        rfl
      obtain ⟨c, hc, ec⟩ := ce_r pp
      have cl := nI_clamp (n := c) (by omega)
      rw [s42n I1 hl hi2 hW hY hmo, cR_n]
      simp only [↓vo0, ↓rf0_0, ↓gf0_1, ↓vo1000, ↓rf1000_0, ↓rf1000_1, ↓vo2000, ↓rf2000_0, ↓rf2000_1, ↓rf2000_2, ↓rf2000_3, ↓vo5000, ↓rf5000_0, ↓rf5000_1, ↓gf5000_2, ↓vo6000, ↓rf6000_0, ↓rf6000_1, ↓gf6000_2, ↓gf6000_3, ↓gf6000_4, ↓vo9000, ↓rf9000_0, ↓rf9000_1, ↓gf9000_2, ↓rf9000_3, ↓rf9000_4, ↓vo10000, ↓rf10000_0, ↓rf10000_1, ↓rf10000_2, ↓rf10000_3, ↓rf10000_4, ↓rf10000_5, ↓rf10000_6, ↓rf10000_7, ↓rf10000_8, ↓rf10000_9, ↓rf10000_10, ↓rf10000_11, ↓rf10000_12, ↓gf10000_13, ↓gf10000_14, ↓gf10000_15, ↓gf10000_16, ↓gf10000_17, ↓vo11000, ↓gf11000_0, ↓gf11000_1, ↓rf11000_2, ↓rf11000_3, ↓rf11000_4, ↓rf11000_5, ↓rf11000_6, ↓rf11000_7, ↓rf11000_8, ↓rf11000_9, ↓rf11000_10, ↓rf11000_11, ↓rf11000_12, ↓rf11000_13, ↓rf11000_14, ↓rf11000_15, ↓rf11000_16, ↓rf11000_17, ↓gf11000_18, ↓rf11000_19, ↓rf11000_20, ↓rf11000_21, ↓rf11000_22, ↓rf11000_23, ↓rf11000_24, ↓rf11000_25, ↓rf11000_26, ↓rf11000_27, ↓rf11000_28, ↓gf11000_29, ↓gf11000_30, ↓gf11000_31, ↓gf11000_32, ↓rf11000_33, ↓gf11000_34, ↓gf11000_35, ↓gf11000_36, ↓rf11000_37, ↓rf11000_38, ↓rf11000_39, ↓rf11000_40, ↓rf11000_41, ↓gf11000_42, ↓gf11000_43, ↓gf11000_44, ↓rf11000_45, ↓rf11000_46, ↓gf11000_47, ↓gf11000_48, ↓gf11000_49, ↓gf11000_50, ↓rf11000_51, ↓rf11000_52, ↓gf11000_53, ↓rf11000_54, ↓rf11000_55, ↓rf11000_56, ↓rf11000_57, ↓rf11000_58, ↓vo4000, ↓gf4000_0, ↓gf4000_1, ↓gf4000_2, ↓gf4000_3, ↓gf4000_4, ↓gf4000_5, ↓gf4000_6, ↓gf4000_7, ↓gf4000_8, ↓rf4000_9, ↓vo4001, ↓gf4001_0, ↓gf4001_1, ↓gf4001_2, ↓gf4001_3, ↓gf4001_4, ↓gf4001_5, ↓gf4001_6, ↓gf4001_7, ↓gf4001_8, ↓rf4001_9, ↓ga20000, ↓ga20001, ↓ga20002, ↓ga20003, ↓ga20004, ↓ga20005, ↓ga20009, ↓ga20010, ↓ga20012, ↓ga20013, ↓ga20015, ↓ga20016, ↓ga20017, ↓ga20018, ↓ga20019, ↓ga20020, ↓ga20022, ↓ga20023, ↓ga20024, ↓ga20025, ↓ga20026, ↓ga20027, ↓ga20028, ↓ga20029, ↓ga20030, ↓ga20031, ↓ga20032, ↓ga20033, ↓ga20034, ↓ga20035, ↓ga20036, ↓ga20037, ↓ga20038, ↓ga20039, ↓ga20040, ↓ga20041, ↓ga20042, ↓ga20043, ↓ga20044, ↓ga20045, ↓ga20046, ↓ga20047, ↓ga20048, ↓ga20049, ↓ga20050, ↓ga20051, ↓ga20052, ↓ga20053, ↓ga20054, ↓ga20055, ↓ga20056, ↓ga20057, ↓ga20058, ↓ga20059, ↓ga20060, ↓ga20061, ↓ga20062, ↓ga20063, ↓ga20064, ↓ga20065, ↓ga20066, ↓ga20067, ↓ga20068, ↓pf0_1, ↓pf5000_2, ↓pf6000_2, ↓pf6000_3, ↓pf6000_4, ↓pf9000_2, ↓pf10000_13, ↓pf10000_14, ↓pf10000_15, ↓pf10000_16, ↓pf10000_17, ↓pf11000_0, ↓pf11000_1, ↓pf11000_18, ↓pf11000_29, ↓pf11000_30, ↓pf11000_31, ↓pf11000_32, ↓pf11000_34, ↓pf11000_35, ↓pf11000_36, ↓pf11000_42, ↓pf11000_43, ↓pf11000_44, ↓pf11000_47, ↓pf11000_48, ↓pf11000_49, ↓pf11000_50, ↓pf11000_53, ↓pf4000_0, ↓pf4000_1, ↓pf4000_2, ↓pf4000_3, ↓pf4000_4, ↓pf4000_5, ↓pf4000_6, ↓pf4000_7, ↓pf4000_8, ↓pf4001_0, ↓pf4001_1, ↓pf4001_2, ↓pf4001_3, ↓pf4001_4, ↓pf4001_5, ↓pf4001_6, ↓pf4001_7, ↓pf4001_8, ↓sa20000, ↓sa20001, ↓sa20002, ↓sa20003, ↓sa20004, ↓sa20005, ↓sa20009, ↓sa20010, ↓sa20012, ↓sa20013, ↓sa20015, ↓sa20016, ↓sa20017, ↓sa20018, ↓sa20019, ↓sa20020, ↓sa20022, ↓sa20023, ↓sa20024, ↓sa20025, ↓sa20026, ↓sa20027, ↓sa20028, ↓sa20029, ↓sa20030, ↓sa20031, ↓sa20032, ↓sa20033, ↓sa20034, ↓sa20035, ↓sa20036, ↓sa20037, ↓sa20038, ↓sa20039, ↓sa20040, ↓sa20041, ↓sa20042, ↓sa20043, ↓sa20044, ↓sa20045, ↓sa20046, ↓sa20047, ↓sa20048, ↓sa20049, ↓sa20050, ↓sa20051, ↓sa20052, ↓sa20053, ↓sa20054, ↓sa20055, ↓sa20056, ↓sa20057, ↓sa20058, ↓sa20059, ↓sa20060, ↓sa20061, ↓sa20062, ↓sa20063, ↓sa20064, ↓sa20065, ↓sa20066, ↓sa20067, ↓sa20068, ↓s93, ↓s94, ↓s95, ↓s96, ↓s97, ↓s98, ↓s99, ↓s100, ↓s101, ↓s104, ↓s105, ↓s106, ↓s125, ↓s126, ↓s127, ↓s219, ↓s220, ↓s221, ↓h128, ↓h129, ↓h130, ↓h131, ↓s132, ↓h157, ↓h194, ↓h211, ↓cI_s, ↓cV_s, ↓cR_s, ↓cR_n, ↓reduceIte, ↓bI_01, ↓ro0, ↓ro1, ↓ro2, ↓ro3, ↓rol3, up3_s, up3_c, ne_eq, Nat.reduceEqDiff, Wp_s, bI_z, not_true_eq_false, not_false_eq_true, and_self, and_true, true_and, and_false, false_and, if_true, if_false, Classical.not_not, ec, cl, ib_n hc (by decide), nI_1, cc, ib_n (show i + 1 < 201 by omega) (by decide), wx]
      have e1 : q_kp ((WP A G e l y i).1 + A 20000 0 c) = (WP A G e l y (i + 1)).1 := by rw [w1]; unfold wI; rw [ec, cl]
      have e2 : q_kp ((WP A G e l y i).2 + A 20001 0 c) = (WP A G e l y (i + 1)).2 := by rw [w1]; unfold wI; rw [ec, cl]
      have f1 : upr (upr A 20009 0 (wFx (fun j => (WP A G e l y j).1) X i)) 20010 0 (wFx (fun j => (WP A G e l y j).2) Y i) 20000 0 c = A 20000 0 c := rfl
      have f2 : upr (upr A 20009 0 (wFx (fun j => (WP A G e l y j).1) X i)) 20010 0 (wFx (fun j => (WP A G e l y j).2) Y i) 20001 0 c = A 20001 0 c := rfl
      rw [f1, f2, e1, e2, wFx_s (p := fun j => (WP A G e l y j).1), wFx_s (p := fun j => (WP A G e l y j).2)]
      exact ih _ _ _ _ (by omega)
    | some k =>
      obtain ⟨hk, -, -, -, -, b, hb, h7⟩ := mo_i I hmo
      have w1 : WP A G e l y (i + 1) = wI (A 20000 0) (A 20001 0) (wM (G 7) k (WP A G e l y i)) := by
        show wI _ _ (match mo (G 7) (eNr e) (nI l) (nI i) (nI y) with | none => _ | some i => _) = _
        rw [hmo]
        rfl
      obtain ⟨c, hc, ec⟩ := ce_r (wM_p (R := G 7) (i := k) (p := WP A G e l y i))
      have cl := nI_clamp (n := c) (by omega)
      have h120 := (I_cnt' I).2.2
      have e0 : q_kp ((WP A G e l y i).1 + mi (G 7) k * c_east b / 1000) = (wM (G 7) k (WP A G e l y i)).1 := by unfold wM; rw [h7, nI_clamp (by omega)]
      have e0' : q_kp ((WP A G e l y i).2 + mi (G 7) k * c_east ((b + 4) % 16) / 1000) = (wM (G 7) k (WP A G e l y i)).2 := by unfold wM; rw [h7, nI_clamp (by omega)]
      have k7 : ∀ (B : Mat) (K : Int32 → PR), gI (HH B G e) (7000 + k) 7 7 K = K (nI b) := fun B K => by rw [gI7 hk (by omega) (by decide), h7]
      have v7 : ∀ (B : Mat) (K : PR), vO (HH B G e) (some (.ref (7000 + k))) 7 K = K := fun B K => vO7 hk (by omega)
      rw [s42s I1 hl hi2 hW hY hmo, cR_s]
      simp only [↓vo0, ↓rf0_0, ↓gf0_1, ↓vo1000, ↓rf1000_0, ↓rf1000_1, ↓vo2000, ↓rf2000_0, ↓rf2000_1, ↓rf2000_2, ↓rf2000_3, ↓vo5000, ↓rf5000_0, ↓rf5000_1, ↓gf5000_2, ↓vo6000, ↓rf6000_0, ↓rf6000_1, ↓gf6000_2, ↓gf6000_3, ↓gf6000_4, ↓vo9000, ↓rf9000_0, ↓rf9000_1, ↓gf9000_2, ↓rf9000_3, ↓rf9000_4, ↓vo10000, ↓rf10000_0, ↓rf10000_1, ↓rf10000_2, ↓rf10000_3, ↓rf10000_4, ↓rf10000_5, ↓rf10000_6, ↓rf10000_7, ↓rf10000_8, ↓rf10000_9, ↓rf10000_10, ↓rf10000_11, ↓rf10000_12, ↓gf10000_13, ↓gf10000_14, ↓gf10000_15, ↓gf10000_16, ↓gf10000_17, ↓vo11000, ↓gf11000_0, ↓gf11000_1, ↓rf11000_2, ↓rf11000_3, ↓rf11000_4, ↓rf11000_5, ↓rf11000_6, ↓rf11000_7, ↓rf11000_8, ↓rf11000_9, ↓rf11000_10, ↓rf11000_11, ↓rf11000_12, ↓rf11000_13, ↓rf11000_14, ↓rf11000_15, ↓rf11000_16, ↓rf11000_17, ↓gf11000_18, ↓rf11000_19, ↓rf11000_20, ↓rf11000_21, ↓rf11000_22, ↓rf11000_23, ↓rf11000_24, ↓rf11000_25, ↓rf11000_26, ↓rf11000_27, ↓rf11000_28, ↓gf11000_29, ↓gf11000_30, ↓gf11000_31, ↓gf11000_32, ↓rf11000_33, ↓gf11000_34, ↓gf11000_35, ↓gf11000_36, ↓rf11000_37, ↓rf11000_38, ↓rf11000_39, ↓rf11000_40, ↓rf11000_41, ↓gf11000_42, ↓gf11000_43, ↓gf11000_44, ↓rf11000_45, ↓rf11000_46, ↓gf11000_47, ↓gf11000_48, ↓gf11000_49, ↓gf11000_50, ↓rf11000_51, ↓rf11000_52, ↓gf11000_53, ↓rf11000_54, ↓rf11000_55, ↓rf11000_56, ↓rf11000_57, ↓rf11000_58, ↓vo4000, ↓gf4000_0, ↓gf4000_1, ↓gf4000_2, ↓gf4000_3, ↓gf4000_4, ↓gf4000_5, ↓gf4000_6, ↓gf4000_7, ↓gf4000_8, ↓rf4000_9, ↓vo4001, ↓gf4001_0, ↓gf4001_1, ↓gf4001_2, ↓gf4001_3, ↓gf4001_4, ↓gf4001_5, ↓gf4001_6, ↓gf4001_7, ↓gf4001_8, ↓rf4001_9, ↓ga20000, ↓ga20001, ↓ga20002, ↓ga20003, ↓ga20004, ↓ga20005, ↓ga20009, ↓ga20010, ↓ga20012, ↓ga20013, ↓ga20015, ↓ga20016, ↓ga20017, ↓ga20018, ↓ga20019, ↓ga20020, ↓ga20022, ↓ga20023, ↓ga20024, ↓ga20025, ↓ga20026, ↓ga20027, ↓ga20028, ↓ga20029, ↓ga20030, ↓ga20031, ↓ga20032, ↓ga20033, ↓ga20034, ↓ga20035, ↓ga20036, ↓ga20037, ↓ga20038, ↓ga20039, ↓ga20040, ↓ga20041, ↓ga20042, ↓ga20043, ↓ga20044, ↓ga20045, ↓ga20046, ↓ga20047, ↓ga20048, ↓ga20049, ↓ga20050, ↓ga20051, ↓ga20052, ↓ga20053, ↓ga20054, ↓ga20055, ↓ga20056, ↓ga20057, ↓ga20058, ↓ga20059, ↓ga20060, ↓ga20061, ↓ga20062, ↓ga20063, ↓ga20064, ↓ga20065, ↓ga20066, ↓ga20067, ↓ga20068, ↓pf0_1, ↓pf5000_2, ↓pf6000_2, ↓pf6000_3, ↓pf6000_4, ↓pf9000_2, ↓pf10000_13, ↓pf10000_14, ↓pf10000_15, ↓pf10000_16, ↓pf10000_17, ↓pf11000_0, ↓pf11000_1, ↓pf11000_18, ↓pf11000_29, ↓pf11000_30, ↓pf11000_31, ↓pf11000_32, ↓pf11000_34, ↓pf11000_35, ↓pf11000_36, ↓pf11000_42, ↓pf11000_43, ↓pf11000_44, ↓pf11000_47, ↓pf11000_48, ↓pf11000_49, ↓pf11000_50, ↓pf11000_53, ↓pf4000_0, ↓pf4000_1, ↓pf4000_2, ↓pf4000_3, ↓pf4000_4, ↓pf4000_5, ↓pf4000_6, ↓pf4000_7, ↓pf4000_8, ↓pf4001_0, ↓pf4001_1, ↓pf4001_2, ↓pf4001_3, ↓pf4001_4, ↓pf4001_5, ↓pf4001_6, ↓pf4001_7, ↓pf4001_8, ↓sa20000, ↓sa20001, ↓sa20002, ↓sa20003, ↓sa20004, ↓sa20005, ↓sa20009, ↓sa20010, ↓sa20012, ↓sa20013, ↓sa20015, ↓sa20016, ↓sa20017, ↓sa20018, ↓sa20019, ↓sa20020, ↓sa20022, ↓sa20023, ↓sa20024, ↓sa20025, ↓sa20026, ↓sa20027, ↓sa20028, ↓sa20029, ↓sa20030, ↓sa20031, ↓sa20032, ↓sa20033, ↓sa20034, ↓sa20035, ↓sa20036, ↓sa20037, ↓sa20038, ↓sa20039, ↓sa20040, ↓sa20041, ↓sa20042, ↓sa20043, ↓sa20044, ↓sa20045, ↓sa20046, ↓sa20047, ↓sa20048, ↓sa20049, ↓sa20050, ↓sa20051, ↓sa20052, ↓sa20053, ↓sa20054, ↓sa20055, ↓sa20056, ↓sa20057, ↓sa20058, ↓sa20059, ↓sa20060, ↓sa20061, ↓sa20062, ↓sa20063, ↓sa20064, ↓sa20065, ↓sa20066, ↓sa20067, ↓sa20068, ↓s93, ↓s94, ↓s95, ↓s96, ↓s97, ↓s98, ↓s99, ↓s100, ↓s101, ↓s104, ↓s105, ↓s106, ↓s125, ↓s126, ↓s127, ↓s219, ↓s220, ↓s221, ↓h128, ↓h129, ↓h130, ↓h131, ↓s132, ↓h157, ↓h194, ↓h211, ↓cI_s, ↓cV_s, ↓cR_s, ↓cR_n, ↓reduceIte, ↓bI_01, ↓ro0, ↓ro1, ↓ro2, ↓ro3, ↓rol3, up3_s, up3_c, ne_eq, Nat.reduceEqDiff, Wp_s, bI_z, not_true_eq_false, not_false_eq_true, and_self, and_true, true_and, and_false, false_and, if_true, if_false, Classical.not_not, v7, s34 I1 hk, k7, b_and hb, b_and4 hb, ib_n (show b < 16 by omega) (by decide), ib_n (show (b + 4) % 16 < 16 from Nat.mod_lt _ (by decide)) (by decide), nI_clamp (show b < 2 ^ 31 by omega), nI_clamp (show (b + 4) % 16 < 2 ^ 31 by omega), e0, e0', ec, cl, ib_n hc (by decide), nI_1, cc, ib_n (show i + 1 < 201 by omega) (by decide), wx]
      have e1 : q_kp ((wM (G 7) k (WP A G e l y i)).1 + A 20000 0 c) = (WP A G e l y (i + 1)).1 := by rw [w1]; unfold wI; rw [ec, cl]
      have e2 : q_kp ((wM (G 7) k (WP A G e l y i)).2 + A 20001 0 c) = (WP A G e l y (i + 1)).2 := by rw [w1]; unfold wI; rw [ec, cl]
      have f1 : upr (upr A 20009 0 (wFx (fun j => (WP A G e l y j).1) X i)) 20010 0 (wFx (fun j => (WP A G e l y j).2) Y i) 20000 0 c = A 20000 0 c := rfl
      have f2 : upr (upr A 20009 0 (wFx (fun j => (WP A G e l y j).1) X i)) 20010 0 (wFx (fun j => (WP A G e l y j).2) Y i) 20001 0 c = A 20001 0 c := rfl
      rw [f1, f2, e1, e2, wFx_s (p := fun j => (WP A G e l y j).1), wFx_s (p := fun j => (WP A G e l y j).2)]
      exact ih _ _ _ _ (by omega)
theorem s41 (I : Inv A G e) {l y m : Nat} {ld : Int32} (hl : l < 2) (hm : m ≤ 200) (hld : ld + 1 = nI m) : ∃ fx fy, CALL (roL L xs) mP mL (N + 5050) (d + 3) 41 [.ref 9000, .ref (4000 + l), .int (nI y), .int ld] (HH A G e) = some (none, HH (upr (upr A 20009 0 fx) 20010 0 fy) (up3 G 9 0 2 (nI y)) (e_W e (4000 + l))) ∧ Wy (upr (upr A 20009 0 fx) 20010 0 fy) (up3 G 9 0 2 (nI y)) (e_W e (4000 + l)) l y m := by
  refine ⟨wFx (fun j => (WP A G e l y j).1) (A 20009 0) m, wFx (fun j => (WP A G e l y j).2) (A 20010 0) m, ?_, rfl, rfl, fun j hj => ⟨if_pos hj, if_pos hj⟩⟩
  refine m41 (2 * (m + 1)) (by omega) ?_
  have I1 : Inv A (up3 G 9 0 2 (nI y)) (e_W e (4000 + l)) := by
    obtain ⟨i1, i2, i3, i4, i5, i6, i7, i8, i9, i10, i11, i12, i13, i14, i15, i16, i17, i18, i19, i20, i21, i22, i23, i24, i25⟩ := I
    exact ⟨i1, i2, i3, i4, i5, i6, i7, i8, i9, i10, i11, i12, i13, i14, i15, i16, i17, i18, i19, i20, i21, i22, i23, i24, ⟨i25.1, i25.2.1, i25.2.2.1, l, hl, rfl⟩⟩
  have w := w41 (L := L) (xs := xs) (N := N) (d := d) I1 (y := y) (X := A 20009 0) (Y := A 20010 0) hl hm hld rfl rfl m 0 (some (.ref (4000 + l))) (some (.int (nI y))) none none (by omega)
  rw [x41, pfW, pf9000_2, rf9000_1, show eW (e_W e (4000 + l)) = 4000 + l from rfl, gI4 (e := e_W e (4000 + l)) hl (show 4 < 9 by decide), rf9000_1, show eW (e_W e (4000 + l)) = 4000 + l from rfl, gI4 (e := e_W e (4000 + l)) hl (show 5 < 9 by decide), rf9000_3, show (0 : Int32) = nI 0 from rfl, sa20009, ib_n (by decide) (by decide), rf9000_4, sa20010, ib_n (by decide) (by decide)]
  have u : ∀ a b : Int32, up3 (up3 A 20009 0 (nI 0).toNatClampNeg a) 20010 0 (nI 0).toNatClampNeg b = upr (upr A 20009 0 (upd (A 20009 0) 0 a)) 20010 0 (upd (A 20010 0) 0 b) := by
    intro a b
    rw [show (nI 0).toNatClampNeg = 0 from rfl, up3_e, up3_e, upr_c (by decide)]
  have z1 : wFx (fun j => (WP A (up3 G 9 0 2 (nI y)) (e_W e (4000 + l)) l y j).1) (A 20009 0) 0 = upd (A 20009 0) 0 (G 4 l 4) := by
    funext j
    unfold wFx upd
    by_cases hj : j = 0
    · subst hj
      rfl
    · rw [if_neg (by omega), if_neg hj]
  have z2 : wFx (fun j => (WP A (up3 G 9 0 2 (nI y)) (e_W e (4000 + l)) l y j).2) (A 20010 0) 0 = upd (A 20010 0) 0 (G 4 l 5) := by
    funext j
    unfold wFx upd
    by_cases hj : j = 0
    · subst hj
      rfl
    · rw [if_neg (by omega), if_neg hj]
  rw [u]
  rw [z1, z2] at w
  exact w
end WAY
