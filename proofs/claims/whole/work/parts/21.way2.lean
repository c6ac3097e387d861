/-! THE WAY in the reference; PLACE, CAN, BEYOND -/
def rV (A G : Mat) (l c : Nat) : Int32 := if ((((3 * G 4 l 0) + (2 * G 4 l 2)) - (G 4 l 3 / 100)) - (4 * A 20002 0 c)) < 0 then 0 else ((((3 * G 4 l 0) + (2 * G 4 l 2)) - (G 4 l 3 / 100)) - (4 * A 20002 0 c))
def cl (A G : Mat) (e : Ev) (l y j : Nat) : Nat := (q_ce (WP A G e l y j).1 (WP A G e l y j).2).toNatClampNeg
def exV (A G : Mat) (e : Ev) (l y j : Nat) : Int32 := match mo (G 7) (eNr e) (nI l) (nI j) (nI y) with
  | none => 0
  | some i => mi (G 7) i - rV A G l (cl A G e l y j)
section WAY2
variable {A G : Mat} {e : Ev} {L : Nat} {xs : Nat → Int32} {N d : Nat}
theorem I_ice' (I : Inv A G e) : I_ice (A 20000 0) (A 20001 0) (A 20002 0) (A 20003 0) (A 20029 0) (A 20030 0) (A 20031 0) (A 20032 0) := I.2.2.2.2.2.1
theorem cl_r (I : Inv A G e) {l y j : Nat} (hl : l < 2) : cl A G e l y j < 64 ∧ q_ce (WP A G e l y j).1 (WP A G e l y j).2 = nI (cl A G e l y j) := by
  obtain ⟨c, hc, ec⟩ := ce_r (WP_p I hl y j)
  unfold cl
  rw [ec, nI_clamp (by omega)]
  exact ⟨hc, rfl⟩
theorem w151 (I : Inv A G e) {l y : Nat} {X Y : Nat → Int32} (hl : l < 2) : ∀ (r i : Nat) (o6 o7 : Option Value), i + r = 200 → EXn (roL L xs) p151 (CALL (roL L xs) mP mL (N + 5050) (d + 2)) (2 * (r + 1)) 33 [some (.ref 11000), some (.int (nI l)), some (.int (nI y)), some (.int (WP A G e l y i).1), some (.int (WP A G e l y i).2), some (.int (nI i)), o6, o7] [] (HH (upr (upr A 20052 0 (wFx (fun j => (WP A G e l y j).1) X i)) 20053 0 (wFx (fun j => (WP A G e l y j).2) Y i)) G e) = some (none, HH (upr (upr A 20052 0 (wFx (fun j => (WP A G e l y j).1) X 200)) 20053 0 (wFx (fun j => (WP A G e l y j).2) Y 200)) G e)
  | 0, i, o6, o7, hi => by
    refine EXs_le (S := [33]) (n := 0) 2 33 _ _ _ ?_
    have : i = 200 := by omega
    subst this
    rw [l151_33, if_neg (show ¬ nI 200 < (200 : Int32) by decide)]
  | r + 1, i, o6, o7, hi => by
    refine EXs_le (S := [33]) (n := 2 * (r + 1)) 2 33 _ _ _ ?_
    have hi2 : i < 200 := by omega
    have ih := w151 I (y := y) (X := X) (Y := Y) hl r (i + 1)
    have I1 : Inv (upr (upr A 20052 0 (wFx (fun j => (WP A G e l y j).1) X i)) 20053 0 (wFx (fun j => (WP A G e l y j).2) Y i)) G e := inv_m I
    have pp := WP_p I hl y i
    have wx : ∀ fx fy : Nat → Int32, ∀ a b : Int32, up3 (up3 (upr (upr A 20052 0 fx) 20053 0 fy) 20052 0 (i + 1) a) 20053 0 (i + 1) b = upr (upr A 20052 0 (upd fx (i + 1) a)) 20053 0 (upd fy (i + 1) b) := by
      intro fx fy a b
      rw [upr_x (by decide), up3_upr, upr_x (by decide), up3_upr]
    have cc := nI_clamp (n := i + 1) (by omega)
    obtain ⟨z1, z2, z3⟩ := I_cnt' I
    have hic := I_ice' I
    have s1 : ∀ K' : Nat, CALL (roL L xs) mP mL (N + 5050) (K' + 1) 143 [.ref 11000, .int (nI l), .int (nI i), .int (nI y)] (HH (upr (upr A 20052 0 (wFx (fun j => (WP A G e l y j).1) X i)) 20053 0 (wFx (fun j => (WP A G e l y j).2) Y i)) G e) = some (some (.int (oI (mo (G 7) (eNr e) (nI l) (nI i) (nI y)))), HH (upr (upr A 20052 0 (wFx (fun j => (WP A G e l y j).1) X i)) 20053 0 (wFx (fun j => (WP A G e l y j).2) Y i)) G e) := fun K' => s143 z3 z2 (I_row' I1)
    rw [l151_33, if_pos (show nI i < (200 : Int32) from nI_lt (b := 200) hi2 (by decide)), vo11000, s1, cI_s]
    cases hmo : mo (G 7) (eNr e) (nI l) (nI i) (nI y) with
    | none =>
      have w1 : WP A G e l y (i + 1) = wI (A 20000 0) (A 20001 0) (WP A G e l y i) := by
        show wI _ _ (match mo (G 7) (eNr e) (nI l) (nI i) (nI y) with | none => _ | some i => _) = _
        rw [hmo]
        rfl
      obtain ⟨c, hc, ec⟩ := ce_r pp
      have cl := nI_clamp (n := c) (by omega)
      rw [if_pos (show oI none < 0 by decide)]
      simp only [↓vo0, ↓rf0_0, ↓gf0_1, ↓vo1000, ↓rf1000_0, ↓rf1000_1, ↓vo2000, ↓rf2000_0, ↓rf2000_1, ↓rf2000_2, ↓rf2000_3, ↓vo5000, ↓rf5000_0, ↓rf5000_1, ↓gf5000_2, ↓vo6000, ↓rf6000_0, ↓rf6000_1, ↓gf6000_2, ↓gf6000_3, ↓gf6000_4, ↓vo9000, ↓rf9000_0, ↓rf9000_1, ↓gf9000_2, ↓rf9000_3, ↓rf9000_4, ↓vo10000, ↓rf10000_0, ↓rf10000_1, ↓rf10000_2, ↓rf10000_3, ↓rf10000_4, ↓rf10000_5, ↓rf10000_6, ↓rf10000_7, ↓rf10000_8, ↓rf10000_9, ↓rf10000_10, ↓rf10000_11, ↓rf10000_12, ↓gf10000_13, ↓gf10000_14, ↓gf10000_15, ↓gf10000_16, ↓gf10000_17, ↓vo11000, ↓gf11000_0, ↓gf11000_1, ↓rf11000_2, ↓rf11000_3, ↓rf11000_4, ↓rf11000_5, ↓rf11000_6, ↓rf11000_7, ↓rf11000_8, ↓rf11000_9, ↓rf11000_10, ↓rf11000_11, ↓rf11000_12, ↓rf11000_13, ↓rf11000_14, ↓rf11000_15, ↓rf11000_16, ↓rf11000_17, ↓gf11000_18, ↓rf11000_19, ↓rf11000_20, ↓rf11000_21, ↓rf11000_22, ↓rf11000_23, ↓rf11000_24, ↓rf11000_25, ↓rf11000_26, ↓rf11000_27, ↓rf11000_28, ↓gf11000_29, ↓gf11000_30, ↓gf11000_31, ↓gf11000_32, ↓rf11000_33, ↓gf11000_34, ↓gf11000_35, ↓gf11000_36, ↓rf11000_37, ↓rf11000_38, ↓rf11000_39, ↓rf11000_40, ↓rf11000_41, ↓gf11000_42, ↓gf11000_43, ↓gf11000_44, ↓rf11000_45, ↓rf11000_46, ↓gf11000_47, ↓gf11000_48, ↓gf11000_49, ↓gf11000_50, ↓rf11000_51, ↓rf11000_52, ↓gf11000_53, ↓rf11000_54, ↓rf11000_55, ↓rf11000_56, ↓rf11000_57, ↓rf11000_58, ↓vo4000, ↓gf4000_0, ↓gf4000_1, ↓gf4000_2, ↓gf4000_3, ↓gf4000_4, ↓gf4000_5, ↓gf4000_6, ↓gf4000_7, ↓gf4000_8, ↓rf4000_9, ↓vo4001, ↓gf4001_0, ↓gf4001_1, ↓gf4001_2, ↓gf4001_3, ↓gf4001_4, ↓gf4001_5, ↓gf4001_6, ↓gf4001_7, ↓gf4001_8, ↓rf4001_9, ↓ga20000, ↓ga20001, ↓ga20002, ↓ga20003, ↓ga20004, ↓ga20005, ↓ga20009, ↓ga20010, ↓ga20012, ↓ga20013, ↓ga20015, ↓ga20016, ↓ga20017, ↓ga20018, ↓ga20019, ↓ga20020, ↓ga20022, ↓ga20023, ↓ga20024, ↓ga20025, ↓ga20026, ↓ga20027, ↓ga20028, ↓ga20029, ↓ga20030, ↓ga20031, ↓ga20032, ↓ga20033, ↓ga20034, ↓ga20035, ↓ga20036, ↓ga20037, ↓ga20038, ↓ga20039, ↓ga20040, ↓ga20041, ↓ga20042, ↓ga20043, ↓ga20044, ↓ga20045, ↓ga20046, ↓ga20047, ↓ga20048, ↓ga20049, ↓ga20050, ↓ga20051, ↓ga20052, ↓ga20053, ↓ga20054, ↓ga20055, ↓ga20056, ↓ga20057, ↓ga20058, ↓ga20059, ↓ga20060, ↓ga20061, ↓ga20062, ↓ga20063, ↓ga20064, ↓ga20065, ↓ga20066, ↓ga20067, ↓ga20068, ↓pf0_1, ↓pf5000_2, ↓pf6000_2, ↓pf6000_3, ↓pf6000_4, ↓pf9000_2, ↓pf10000_13, ↓pf10000_14, ↓pf10000_15, ↓pf10000_16, ↓pf10000_17, ↓pf11000_0, ↓pf11000_1, ↓pf11000_18, ↓pf11000_29, ↓pf11000_30, ↓pf11000_31, ↓pf11000_32, ↓pf11000_34, ↓pf11000_35, ↓pf11000_36, ↓pf11000_42, ↓pf11000_43, ↓pf11000_44, ↓pf11000_47, ↓pf11000_48, ↓pf11000_49, ↓pf11000_50, ↓pf11000_53, ↓pf4000_0, ↓pf4000_1, ↓pf4000_2, ↓pf4000_3, ↓pf4000_4, ↓pf4000_5, ↓pf4000_6, ↓pf4000_7, ↓pf4000_8, ↓pf4001_0, ↓pf4001_1, ↓pf4001_2, ↓pf4001_3, ↓pf4001_4, ↓pf4001_5, ↓pf4001_6, ↓pf4001_7, ↓pf4001_8, ↓sa20000, ↓sa20001, ↓sa20002, ↓sa20003, ↓sa20004, ↓sa20005, ↓sa20009, ↓sa20010, ↓sa20012, ↓sa20013, ↓sa20015, ↓sa20016, ↓sa20017, ↓sa20018, ↓sa20019, ↓sa20020, ↓sa20022, ↓sa20023, ↓sa20024, ↓sa20025, ↓sa20026, ↓sa20027, ↓sa20028, ↓sa20029, ↓sa20030, ↓sa20031, ↓sa20032, ↓sa20033, ↓sa20034, ↓sa20035, ↓sa20036, ↓sa20037, ↓sa20038, ↓sa20039, ↓sa20040, ↓sa20041, ↓sa20042, ↓sa20043, ↓sa20044, ↓sa20045, ↓sa20046, ↓sa20047, ↓sa20048, ↓sa20049, ↓sa20050, ↓sa20051, ↓sa20052, ↓sa20053, ↓sa20054, ↓sa20055, ↓sa20056, ↓sa20057, ↓sa20058, ↓sa20059, ↓sa20060, ↓sa20061, ↓sa20062, ↓sa20063, ↓sa20064, ↓sa20065, ↓sa20066, ↓sa20067, ↓sa20068, ↓s93, ↓s94, ↓s95, ↓s96, ↓s97, ↓s98, ↓s99, ↓s100, ↓s101, ↓s104, ↓s105, ↓s106, ↓s125, ↓s126, ↓s127, ↓s219, ↓s220, ↓s221, ↓h128, ↓h129, ↓h130, ↓h131, ↓s132, ↓h157, ↓h194, ↓h211, ↓cI_s, ↓cV_s, ↓cR_s, ↓cR_n, ↓reduceIte, ↓bI_01, ↓ro0, ↓ro1, ↓ro2, ↓ro3, ↓rol3, up3_s, up3_c, ne_eq, Nat.reduceEqDiff, Wp_s, bI_z, not_true_eq_false, not_false_eq_true, and_self, and_true, true_and, and_false, false_and, if_true, if_false, Classical.not_not, ec, cl, ib_n hc (by decide), nI_1, cc, ib_n (show i + 1 < 201 by omega) (by decide), wx]
      have e1 : q_kp ((WP A G e l y i).1 + A 20029 0 c) = (WP A G e l y (i + 1)).1 := by rw [w1]; unfold wI; rw [ec, cl, (hic c hc).1]
      have e2 : q_kp ((WP A G e l y i).2 + A 20030 0 c) = (WP A G e l y (i + 1)).2 := by rw [w1]; unfold wI; rw [ec, cl, (hic c hc).2.1]
      have f1 : upr (upr A 20052 0 (wFx (fun j => (WP A G e l y j).1) X i)) 20053 0 (wFx (fun j => (WP A G e l y j).2) Y i) 20029 0 c = A 20029 0 c := rfl
      have f2 : upr (upr A 20052 0 (wFx (fun j => (WP A G e l y j).1) X i)) 20053 0 (wFx (fun j => (WP A G e l y j).2) Y i) 20030 0 c = A 20030 0 c := rfl
      rw [f1, f2, e1, e2, wFx_s (p := fun j => (WP A G e l y j).1), wFx_s (p := fun j => (WP A G e l y j).2)]
      exact ih _ _ (by omega)
    | some k =>
      obtain ⟨hk, -, -, -, -, b, hb, h7⟩ := mo_i I hmo
      obtain ⟨-, -, -, -, -, -, q5, q6, q7, -⟩ := I_row' I1 k hk
      have w1 : WP A G e l y (i + 1) = wI (A 20000 0) (A 20001 0) (wM (G 7) k (WP A G e l y i)) := by
        show wI _ _ (match mo (G 7) (eNr e) (nI l) (nI i) (nI y) with | none => _ | some i => _) = _
        rw [hmo]
        rfl
      obtain ⟨c, hc, ec⟩ := ce_r (wM_p (R := G 7) (i := k) (p := WP A G e l y i))
      have cl := nI_clamp (n := c) (by omega)
      have ck := nI_clamp (n := k) (by omega)
      have ea : I_eqA (A 20028 0) c_east 16 := I.2.2.2.2.2.2.2.2.2.2.2.2.2.2.2.2.2.2.2.2.2.2.2.1
      have ea1 : upr (upr A 20052 0 (wFx (fun j => (WP A G e l y j).1) X i)) 20053 0 (wFx (fun j => (WP A G e l y j).2) Y i) 20028 0 b = c_east b := ea b hb
      have ea2 : upr (upr A 20052 0 (wFx (fun j => (WP A G e l y j).1) X i)) 20053 0 (wFx (fun j => (WP A G e l y j).2) Y i) 20028 0 ((b + 4) % 16) = c_east ((b + 4) % 16) := ea _ (Nat.mod_lt _ (by decide))
      have e0 : q_kp ((WP A G e l y i).1 + (G 7 k 5 * G 7 k 6) / 10 * c_east b / 1000) = (wM (G 7) k (WP A G e l y i)).1 := by unfold wM mi; rw [h7, nI_clamp (by omega)]
      have e0' : q_kp ((WP A G e l y i).2 + (G 7 k 5 * G 7 k 6) / 10 * c_east ((b + 4) % 16) / 1000) = (wM (G 7) k (WP A G e l y i)).2 := by unfold wM mi; rw [h7, nI_clamp (by omega)]
      rw [if_neg (show ¬ oI (some k) < 0 from nI_pos (by omega)), show oI (some k) = nI k from rfl]
      rw [h7] at q7
      simp only [↓vo0, ↓rf0_0, ↓gf0_1, ↓vo1000, ↓rf1000_0, ↓rf1000_1, ↓vo2000, ↓rf2000_0, ↓rf2000_1, ↓rf2000_2, ↓rf2000_3, ↓vo5000, ↓rf5000_0, ↓rf5000_1, ↓gf5000_2, ↓vo6000, ↓rf6000_0, ↓rf6000_1, ↓gf6000_2, ↓gf6000_3, ↓gf6000_4, ↓vo9000, ↓rf9000_0, ↓rf9000_1, ↓gf9000_2, ↓rf9000_3, ↓rf9000_4, ↓vo10000, ↓rf10000_0, ↓rf10000_1, ↓rf10000_2, ↓rf10000_3, ↓rf10000_4, ↓rf10000_5, ↓rf10000_6, ↓rf10000_7, ↓rf10000_8, ↓rf10000_9, ↓rf10000_10, ↓rf10000_11, ↓rf10000_12, ↓gf10000_13, ↓gf10000_14, ↓gf10000_15, ↓gf10000_16, ↓gf10000_17, ↓vo11000, ↓gf11000_0, ↓gf11000_1, ↓rf11000_2, ↓rf11000_3, ↓rf11000_4, ↓rf11000_5, ↓rf11000_6, ↓rf11000_7, ↓rf11000_8, ↓rf11000_9, ↓rf11000_10, ↓rf11000_11, ↓rf11000_12, ↓rf11000_13, ↓rf11000_14, ↓rf11000_15, ↓rf11000_16, ↓rf11000_17, ↓gf11000_18, ↓rf11000_19, ↓rf11000_20, ↓rf11000_21, ↓rf11000_22, ↓rf11000_23, ↓rf11000_24, ↓rf11000_25, ↓rf11000_26, ↓rf11000_27, ↓rf11000_28, ↓gf11000_29, ↓gf11000_30, ↓gf11000_31, ↓gf11000_32, ↓rf11000_33, ↓gf11000_34, ↓gf11000_35, ↓gf11000_36, ↓rf11000_37, ↓rf11000_38, ↓rf11000_39, ↓rf11000_40, ↓rf11000_41, ↓gf11000_42, ↓gf11000_43, ↓gf11000_44, ↓rf11000_45, ↓rf11000_46, ↓gf11000_47, ↓gf11000_48, ↓gf11000_49, ↓gf11000_50, ↓rf11000_51, ↓rf11000_52, ↓gf11000_53, ↓rf11000_54, ↓rf11000_55, ↓rf11000_56, ↓rf11000_57, ↓rf11000_58, ↓vo4000, ↓gf4000_0, ↓gf4000_1, ↓gf4000_2, ↓gf4000_3, ↓gf4000_4, ↓gf4000_5, ↓gf4000_6, ↓gf4000_7, ↓gf4000_8, ↓rf4000_9, ↓vo4001, ↓gf4001_0, ↓gf4001_1, ↓gf4001_2, ↓gf4001_3, ↓gf4001_4, ↓gf4001_5, ↓gf4001_6, ↓gf4001_7, ↓gf4001_8, ↓rf4001_9, ↓ga20000, ↓ga20001, ↓ga20002, ↓ga20003, ↓ga20004, ↓ga20005, ↓ga20009, ↓ga20010, ↓ga20012, ↓ga20013, ↓ga20015, ↓ga20016, ↓ga20017, ↓ga20018, ↓ga20019, ↓ga20020, ↓ga20022, ↓ga20023, ↓ga20024, ↓ga20025, ↓ga20026, ↓ga20027, ↓ga20028, ↓ga20029, ↓ga20030, ↓ga20031, ↓ga20032, ↓ga20033, ↓ga20034, ↓ga20035, ↓ga20036, ↓ga20037, ↓ga20038, ↓ga20039, ↓ga20040, ↓ga20041, ↓ga20042, ↓ga20043, ↓ga20044, ↓ga20045, ↓ga20046, ↓ga20047, ↓ga20048, ↓ga20049, ↓ga20050, ↓ga20051, ↓ga20052, ↓ga20053, ↓ga20054, ↓ga20055, ↓ga20056, ↓ga20057, ↓ga20058, ↓ga20059, ↓ga20060, ↓ga20061, ↓ga20062, ↓ga20063, ↓ga20064, ↓ga20065, ↓ga20066, ↓ga20067, ↓ga20068, ↓pf0_1, ↓pf5000_2, ↓pf6000_2, ↓pf6000_3, ↓pf6000_4, ↓pf9000_2, ↓pf10000_13, ↓pf10000_14, ↓pf10000_15, ↓pf10000_16, ↓pf10000_17, ↓pf11000_0, ↓pf11000_1, ↓pf11000_18, ↓pf11000_29, ↓pf11000_30, ↓pf11000_31, ↓pf11000_32, ↓pf11000_34, ↓pf11000_35, ↓pf11000_36, ↓pf11000_42, ↓pf11000_43, ↓pf11000_44, ↓pf11000_47, ↓pf11000_48, ↓pf11000_49, ↓pf11000_50, ↓pf11000_53, ↓pf4000_0, ↓pf4000_1, ↓pf4000_2, ↓pf4000_3, ↓pf4000_4, ↓pf4000_5, ↓pf4000_6, ↓pf4000_7, ↓pf4000_8, ↓pf4001_0, ↓pf4001_1, ↓pf4001_2, ↓pf4001_3, ↓pf4001_4, ↓pf4001_5, ↓pf4001_6, ↓pf4001_7, ↓pf4001_8, ↓sa20000, ↓sa20001, ↓sa20002, ↓sa20003, ↓sa20004, ↓sa20005, ↓sa20009, ↓sa20010, ↓sa20012, ↓sa20013, ↓sa20015, ↓sa20016, ↓sa20017, ↓sa20018, ↓sa20019, ↓sa20020, ↓sa20022, ↓sa20023, ↓sa20024, ↓sa20025, ↓sa20026, ↓sa20027, ↓sa20028, ↓sa20029, ↓sa20030, ↓sa20031, ↓sa20032, ↓sa20033, ↓sa20034, ↓sa20035, ↓sa20036, ↓sa20037, ↓sa20038, ↓sa20039, ↓sa20040, ↓sa20041, ↓sa20042, ↓sa20043, ↓sa20044, ↓sa20045, ↓sa20046, ↓sa20047, ↓sa20048, ↓sa20049, ↓sa20050, ↓sa20051, ↓sa20052, ↓sa20053, ↓sa20054, ↓sa20055, ↓sa20056, ↓sa20057, ↓sa20058, ↓sa20059, ↓sa20060, ↓sa20061, ↓sa20062, ↓sa20063, ↓sa20064, ↓sa20065, ↓sa20066, ↓sa20067, ↓sa20068, ↓s93, ↓s94, ↓s95, ↓s96, ↓s97, ↓s98, ↓s99, ↓s100, ↓s101, ↓s104, ↓s105, ↓s106, ↓s125, ↓s126, ↓s127, ↓s219, ↓s220, ↓s221, ↓h128, ↓h129, ↓h130, ↓h131, ↓s132, ↓h157, ↓h194, ↓h211, ↓cI_s, ↓cV_s, ↓cR_s, ↓cR_n, ↓reduceIte, ↓bI_01, ↓ro0, ↓ro1, ↓ro2, ↓ro3, ↓rol3, up3_s, up3_c, ne_eq, Nat.reduceEqDiff, Wp_s, bI_z, not_true_eq_false, not_false_eq_true, and_self, and_true, true_and, and_false, false_and, if_true, if_false, Classical.not_not, ib_n (show k < 120 by omega) (by decide), ck, q5, q6, q7, b_rem4 hb, ib_n (show b < 16 by omega) (by decide), ib_n (show (b + 4) % 16 < 16 from Nat.mod_lt _ (by decide)) (by decide), nI_clamp (show b < 2 ^ 31 by omega), nI_clamp (show (b + 4) % 16 < 2 ^ 31 by omega), ea1, ea2, e0, e0', ec, cl, ib_n hc (by decide), nI_1, cc, ib_n (show i + 1 < 201 by omega) (by decide), wx]
      have e1 : q_kp ((wM (G 7) k (WP A G e l y i)).1 + A 20029 0 c) = (WP A G e l y (i + 1)).1 := by rw [w1]; unfold wI; rw [ec, cl, (hic c hc).1]
      have e2 : q_kp ((wM (G 7) k (WP A G e l y i)).2 + A 20030 0 c) = (WP A G e l y (i + 1)).2 := by rw [w1]; unfold wI; rw [ec, cl, (hic c hc).2.1]
      have f1 : upr (upr A 20052 0 (wFx (fun j => (WP A G e l y j).1) X i)) 20053 0 (wFx (fun j => (WP A G e l y j).2) Y i) 20029 0 c = A 20029 0 c := rfl
      have f2 : upr (upr A 20052 0 (wFx (fun j => (WP A G e l y j).1) X i)) 20053 0 (wFx (fun j => (WP A G e l y j).2) Y i) 20030 0 c = A 20030 0 c := rfl
      rw [f1, f2, e1, e2, wFx_s (p := fun j => (WP A G e l y j).1), wFx_s (p := fun j => (WP A G e l y j).2)]
      exact ih _ _ (by omega)
theorem s151 (I : Inv A G e) {l y : Nat} (hl : l < 2) : ∃ fx fy, CALL (roL L xs) mP mL (N + 5050) (d + 3) 151 [.ref 11000, .int (nI l), .int (nI y)] (HH A G e) = some (none, HH (upr (upr A 20052 0 fx) 20053 0 fy) G e) ∧ Wm (upr (upr A 20052 0 fx) 20053 0 fy) G e l y := by
  refine ⟨wFx (fun j => (WP A G e l y j).1) (A 20052 0) 200, wFx (fun j => (WP A G e l y j).2) (A 20053 0) 200, ?_, fun j hj => ⟨if_pos hj, if_pos hj⟩⟩
  refine m151 (2 * (200 + 1)) (by omega) ?_
  have w := w151 (L := L) (xs := xs) (N := N) (d := d) I (y := y) (X := A 20052 0) (Y := A 20053 0) hl 200 0 none none (by omega)
  obtain ⟨t1, t2, -⟩ := I.2.2.2.2.2.2.2.2.2.2.2.2.1 l hl
  have cl := nI_clamp (n := l) (by omega)
  rw [x151, rf11000_13, ga20039, ib_n hl (by decide), cl, rf11000_14, ga20040, ib_n hl (by decide), cl, rf11000_27, show (0 : Int32) = nI 0 from rfl, sa20052, ib_n (by decide) (by decide), rf11000_28, sa20053, ib_n (by decide) (by decide), ← t1, ← t2]
  have u : ∀ a b : Int32, up3 (up3 A 20052 0 (nI 0).toNatClampNeg a) 20053 0 (nI 0).toNatClampNeg b = upr (upr A 20052 0 (upd (A 20052 0) 0 a)) 20053 0 (upd (A 20053 0) 0 b) := by
    intro a b
    rw [show (nI 0).toNatClampNeg = 0 from rfl, up3_e, up3_e, upr_c (by decide)]
  have z1 : wFx (fun j => (WP A G e l y j).1) (A 20052 0) 0 = upd (A 20052 0) 0 (G 4 l 4) := by
    funext j
    unfold wFx upd
    by_cases hj : j = 0
    · subst hj
      rfl
    · rw [if_neg (by omega), if_neg hj]
  have z2 : wFx (fun j => (WP A G e l y j).2) (A 20053 0) 0 = upd (A 20053 0) 0 (G 4 l 5) := by
    funext j
    unfold wFx upd
    by_cases hj : j = 0
    · subst hj
      rfl
    · rw [if_neg (by omega), if_neg hj]
  rw [u]
  rw [z1, z2] at w
  exact w
/-! what stands on the way: the class -/
theorem s43 {l y m j : Nat} {x : Int32} (hw : Wy A G e l y m) (hm : m ≤ 200) (hj : j ≤ m) (hx : x + 1 = nI j) : CALL (roL L xs) mP mL (N + 5050) (d + 1) 43 [.ref 9000, .int x] (HH A G e) = some (some (.int (WP A G e l y j).1), HH A G e) := by
  rw [m43, rf9000_3, ga20009, hx, ib_n (by omega) (by decide), nI_clamp (by omega), (hw.2.2 j hj).1]
theorem s44 {l y m j : Nat} {x : Int32} (hw : Wy A G e l y m) (hm : m ≤ 200) (hj : j ≤ m) (hx : x + 1 = nI j) : CALL (roL L xs) mP mL (N + 5050) (d + 1) 44 [.ref 9000, .int x] (HH A G e) = some (some (.int (WP A G e l y j).2), HH A G e) := by
  rw [m44, rf9000_4, ga20010, hx, ib_n (by omega) (by decide), nI_clamp (by omega), (hw.2.2 j hj).2]
theorem s45 (I : Inv A G e) {l y m j : Nat} {x : Int32} (hl : l < 2) (hw : Wy A G e l y m) (hm : m ≤ 200) (hj : j ≤ m) (hx : x + 1 = nI j) : CALL (roL L xs) mP mL (N + 5050) (d + 2) 45 [.ref 9000, .int x] (HH A G e) = some (some (.int (nI (cl A G e l y j))), HH A G e) := by
  rw [m45, rf9000_3, ga20009, hx, ib_n (by omega) (by decide), nI_clamp (by omega), rf9000_4, ga20010, ib_n (by omega) (by decide), nI_clamp (by omega), s105, cI_s, (hw.2.2 j hj).1, (hw.2.2 j hj).2, (cl_r I hl).2]
theorem s13 {l : Nat} {x : Int32} (hl : l < 2) : CALL (roL L xs) mP mL (N + 5050) (d + 2) 13 [.ref (4000 + l), .int x] (HH A G e) = some (some (.int (if ((((3 * G 4 l 0) + (2 * G 4 l 2)) - (G 4 l 3 / 100)) - (4 * x)) < 0 then 0 else ((((3 * G 4 l 0) + (2 * G 4 l 2)) - (G 4 l 3 / 100)) - (4 * x)))), HH A G e) := by
  rw [m13, gI4 hl (by decide), gI4 hl (by decide), gI4 hl (by decide), s220, cI_s]
  refine congrArg (fun z => some (some (Value.int z), HH A G e)) ?_
  by_cases h : 0 < ((((3 * G 4 l 0) + (2 * G 4 l 2)) - (G 4 l 3 / 100)) - (4 * x))
  · rw [if_pos h, if_neg (fun q => Int32.lt_irrefl (Int32.lt_trans h q))]
  · rw [if_neg h]
    by_cases h2 : ((((3 * G 4 l 0) + (2 * G 4 l 2)) - (G 4 l 3 / 100)) - (4 * x)) < 0
    · rw [if_pos h2]
    · rw [if_neg h2]
      exact Int32.le_antisymm (Int32.not_lt.mp h2) (Int32.not_lt.mp h)
theorem s47 (I : Inv A G e) {l y m j : Nat} (hl : l < 2) (hw : Wy A G e l y m) (hm : m ≤ 200) (hj : j ≤ m) : CALL (roL L xs) mP mL (N + 5050) (d + 3) 47 [.ref 9000, .int (nI j)] (HH A G e) = some (some (.int (rV A G l (cl A G e l y j))), HH A G e) := by
  obtain ⟨hc, -⟩ := cl_r I (y := y) (j := j) hl
  have hx : nI j - 1 + 1 = nI j := Int32.sub_add_cancel _ _
  rw [m47, rf9000_1, hw.1, rf9000_0, rf2000_2, vo9000, s45 I hl hw hm hj hx, cI_s, ga20002, ib_n hc (by decide), nI_clamp (by omega), vO4 hl, s13 hl, cI_s]
  rfl
theorem s48 (I : Inv A G e) {l y m j : Nat} (hl : l < 2) (hw : Wy A G e l y m) (hm : m ≤ 200) (hj : j ≤ m) (hj2 : j < 200) : CALL (roL L xs) mP mL (N + 5050) (d + 4) 48 [.ref 9000, .int (nI j)] (HH A G e) = some (some (.int (exV A G e l y j)), HH A G e) := by
  unfold exV
  rw [m48, vo9000]
  cases hmo : mo (G 7) (eNr e) (nI l) (nI j) (nI y) with
  | none => rw [s42n I hl hj2 hw.1 hw.2.1 hmo, cR_n]
  | some i =>
    obtain ⟨hi, -⟩ := mo_i I hmo
    have := (I_cnt' I).2.2
    rw [s42s I hl hj2 hw.1 hw.2.1 hmo, cR_s, vO7 hi (by omega), s34 I hi, cI_s, vo9000, s47 I hl hw hm hj, cI_s]
/-! the reference -/
theorem w153 (I : Inv A G e) {l y j s m : Nat} (hl : l < 2) (hw : Wm A G e l y) (hj : j ≤ 200) (hm : m ≤ 12) (h1 : G 11 0 1 = nI m) (hs : s < 2 ^ m) (hp : A 20036 0 l = nI s) (h0 : G 4 l 0 = sumB (A 20034 0) s m) : ∀ (r i : Nat), i + r = m → EXn (roL L xs) p153 (CALL (roL L xs) mP mL (N + 5050) (d + 1)) (4 * (r + 1)) 5 [some (.ref 11000), some (.int (nI l)), some (.int (nI j)), some (.int (sumB (A 20034 0) s i)), some (.int (nI i))] [] (HH A G e) = some (some (.int (rV A G l (cl A G e l y j))), HH A G e)
  | 0, i, hi => by
    refine EXs_le (S := [5]) (n := 0) 4 5 _ _ _ ?_
    have : i = m := by omega
    subst this
    obtain ⟨hc, ec⟩ := cl_r I (y := y) (j := j) hl
    have cl1 := nI_clamp (n := l) (by omega)
    have cl2 := nI_clamp (n := j) (by omega)
    have cl3 := nI_clamp (n := cl A G e l y j) (by omega)
    obtain ⟨d1, d2⟩ := I.2.2.2.2.2.2.2.2.2.2.2.1 l hl
    have k1 : ¬ nI i < nI i := Int32.lt_irrefl
    have hr := (I_ice' I _ hc).2.2.1
    rw [l153_5]
    simp only [↓vo0, ↓rf0_0, ↓gf0_1, ↓vo1000, ↓rf1000_0, ↓rf1000_1, ↓vo2000, ↓rf2000_0, ↓rf2000_1, ↓rf2000_2, ↓rf2000_3, ↓vo5000, ↓rf5000_0, ↓rf5000_1, ↓gf5000_2, ↓vo6000, ↓rf6000_0, ↓rf6000_1, ↓gf6000_2, ↓gf6000_3, ↓gf6000_4, ↓vo9000, ↓rf9000_0, ↓rf9000_1, ↓gf9000_2, ↓rf9000_3, ↓rf9000_4, ↓vo10000, ↓rf10000_0, ↓rf10000_1, ↓rf10000_2, ↓rf10000_3, ↓rf10000_4, ↓rf10000_5, ↓rf10000_6, ↓rf10000_7, ↓rf10000_8, ↓rf10000_9, ↓rf10000_10, ↓rf10000_11, ↓rf10000_12, ↓gf10000_13, ↓gf10000_14, ↓gf10000_15, ↓gf10000_16, ↓gf10000_17, ↓vo11000, ↓gf11000_0, ↓gf11000_1, ↓rf11000_2, ↓rf11000_3, ↓rf11000_4, ↓rf11000_5, ↓rf11000_6, ↓rf11000_7, ↓rf11000_8, ↓rf11000_9, ↓rf11000_10, ↓rf11000_11, ↓rf11000_12, ↓rf11000_13, ↓rf11000_14, ↓rf11000_15, ↓rf11000_16, ↓rf11000_17, ↓gf11000_18, ↓rf11000_19, ↓rf11000_20, ↓rf11000_21, ↓rf11000_22, ↓rf11000_23, ↓rf11000_24, ↓rf11000_25, ↓rf11000_26, ↓rf11000_27, ↓rf11000_28, ↓gf11000_29, ↓gf11000_30, ↓gf11000_31, ↓gf11000_32, ↓rf11000_33, ↓gf11000_34, ↓gf11000_35, ↓gf11000_36, ↓rf11000_37, ↓rf11000_38, ↓rf11000_39, ↓rf11000_40, ↓rf11000_41, ↓gf11000_42, ↓gf11000_43, ↓gf11000_44, ↓rf11000_45, ↓rf11000_46, ↓gf11000_47, ↓gf11000_48, ↓gf11000_49, ↓gf11000_50, ↓rf11000_51, ↓rf11000_52, ↓gf11000_53, ↓rf11000_54, ↓rf11000_55, ↓rf11000_56, ↓rf11000_57, ↓rf11000_58, ↓vo4000, ↓gf4000_0, ↓gf4000_1, ↓gf4000_2, ↓gf4000_3, ↓gf4000_4, ↓gf4000_5, ↓gf4000_6, ↓gf4000_7, ↓gf4000_8, ↓rf4000_9, ↓vo4001, ↓gf4001_0, ↓gf4001_1, ↓gf4001_2, ↓gf4001_3, ↓gf4001_4, ↓gf4001_5, ↓gf4001_6, ↓gf4001_7, ↓gf4001_8, ↓rf4001_9, ↓ga20000, ↓ga20001, ↓ga20002, ↓ga20003, ↓ga20004, ↓ga20005, ↓ga20009, ↓ga20010, ↓ga20012, ↓ga20013, ↓ga20015, ↓ga20016, ↓ga20017, ↓ga20018, ↓ga20019, ↓ga20020, ↓ga20022, ↓ga20023, ↓ga20024, ↓ga20025, ↓ga20026, ↓ga20027, ↓ga20028, ↓ga20029, ↓ga20030, ↓ga20031, ↓ga20032, ↓ga20033, ↓ga20034, ↓ga20035, ↓ga20036, ↓ga20037, ↓ga20038, ↓ga20039, ↓ga20040, ↓ga20041, ↓ga20042, ↓ga20043, ↓ga20044, ↓ga20045, ↓ga20046, ↓ga20047, ↓ga20048, ↓ga20049, ↓ga20050, ↓ga20051, ↓ga20052, ↓ga20053, ↓ga20054, ↓ga20055, ↓ga20056, ↓ga20057, ↓ga20058, ↓ga20059, ↓ga20060, ↓ga20061, ↓ga20062, ↓ga20063, ↓ga20064, ↓ga20065, ↓ga20066, ↓ga20067, ↓ga20068, ↓pf0_1, ↓pf5000_2, ↓pf6000_2, ↓pf6000_3, ↓pf6000_4, ↓pf9000_2, ↓pf10000_13, ↓pf10000_14, ↓pf10000_15, ↓pf10000_16, ↓pf10000_17, ↓pf11000_0, ↓pf11000_1, ↓pf11000_18, ↓pf11000_29, ↓pf11000_30, ↓pf11000_31, ↓pf11000_32, ↓pf11000_34, ↓pf11000_35, ↓pf11000_36, ↓pf11000_42, ↓pf11000_43, ↓pf11000_44, ↓pf11000_47, ↓pf11000_48, ↓pf11000_49, ↓pf11000_50, ↓pf11000_53, ↓pf4000_0, ↓pf4000_1, ↓pf4000_2, ↓pf4000_3, ↓pf4000_4, ↓pf4000_5, ↓pf4000_6, ↓pf4000_7, ↓pf4000_8, ↓pf4001_0, ↓pf4001_1, ↓pf4001_2, ↓pf4001_3, ↓pf4001_4, ↓pf4001_5, ↓pf4001_6, ↓pf4001_7, ↓pf4001_8, ↓sa20000, ↓sa20001, ↓sa20002, ↓sa20003, ↓sa20004, ↓sa20005, ↓sa20009, ↓sa20010, ↓sa20012, ↓sa20013, ↓sa20015, ↓sa20016, ↓sa20017, ↓sa20018, ↓sa20019, ↓sa20020, ↓sa20022, ↓sa20023, ↓sa20024, ↓sa20025, ↓sa20026, ↓sa20027, ↓sa20028, ↓sa20029, ↓sa20030, ↓sa20031, ↓sa20032, ↓sa20033, ↓sa20034, ↓sa20035, ↓sa20036, ↓sa20037, ↓sa20038, ↓sa20039, ↓sa20040, ↓sa20041, ↓sa20042, ↓sa20043, ↓sa20044, ↓sa20045, ↓sa20046, ↓sa20047, ↓sa20048, ↓sa20049, ↓sa20050, ↓sa20051, ↓sa20052, ↓sa20053, ↓sa20054, ↓sa20055, ↓sa20056, ↓sa20057, ↓sa20058, ↓sa20059, ↓sa20060, ↓sa20061, ↓sa20062, ↓sa20063, ↓sa20064, ↓sa20065, ↓sa20066, ↓sa20067, ↓sa20068, ↓s93, ↓s94, ↓s95, ↓s96, ↓s97, ↓s98, ↓s99, ↓s100, ↓s101, ↓s104, ↓s105, ↓s106, ↓s125, ↓s126, ↓s127, ↓s219, ↓s220, ↓s221, ↓h128, ↓h129, ↓h130, ↓h131, ↓s132, ↓h157, ↓h194, ↓h211, ↓cI_s, ↓cV_s, ↓cR_s, ↓cR_n, ↓reduceIte, ↓bI_01, ↓ro0, ↓ro1, ↓ro2, ↓ro3, ↓rol3, up3_s, up3_c, ne_eq, Nat.reduceEqDiff, Wp_s, bI_z, not_true_eq_false, not_false_eq_true, and_self, and_true, true_and, and_false, false_and, if_true, if_false, Classical.not_not, h1, k1, ib_n hl (by decide), cl1, cl2, cl3, ib_n (show j < 201 by omega) (by decide), (hw j hj).1, (hw j hj).2, ec, ib_n hc (by decide), ← hr, ← d1, ← d2, ← h0]
    unfold rV
    by_cases z : ((((3 * G 4 l 0) + (2 * G 4 l 2)) - (G 4 l 3 / 100)) - (4 * A 20002 0 (cl A G e l y j))) < 0
    · rw [if_pos z, if_pos z]
    · rw [if_neg z, if_neg z]
  | r + 1, i, hi => by
    refine EXs_le (S := [5]) (n := 4 * (r + 1)) 4 5 _ _ _ ?_
    have ih := w153 I hl hw hj hm h1 hs hp h0 r (i + 1) (by omega)
    have hp2 : 2 ^ m ≤ 4096 := Nat.pow_le_pow_right (by decide) hm
    rw [l153_5, gf11000_1, h1, if_pos (nI_lt (by omega) (by omega)), rf11000_10, ga20036, ib_n hl (by decide), nI_clamp (by omega), hp, bit_i (by omega) (by omega), rf11000_8, ga20034, ib_n (show i < 12 by omega) (by decide), nI_clamp (by omega), nI_1]
    simp only [sumB] at ih
    by_cases hb : s.testBit i
    · rw [if_pos hb] at ih
      rw [if_pos hb, if_pos rfl]
      exact ih
    · rw [if_neg hb] at ih
      rw [if_neg hb, if_neg (by decide)]
      exact ih
theorem s153 (I : Inv A G e) {l y j : Nat} (hl : l < 2) (hw : Wm A G e l y) (hj : j ≤ 200) : CALL (roL L xs) mP mL (N + 5050) (d + 2) 153 [.ref 11000, .int (nI l), .int (nI j)] (HH A G e) = some (some (.int (rV A G l (cl A G e l y j))), HH A G e) := by
  obtain ⟨m, hm, h1, h2⟩ := I.2.2.2.2.2.2.2.2.2.2.1
  obtain ⟨s, hs, hp, h0, -⟩ := h2 l hl
  refine m153 (4 * (m + 1)) (by omega) ?_
  rw [x153]
  exact w153 I hl hw hj hm h1 hs hp h0 m 0 (by omega)
theorem s155 (I : Inv A G e) {l y j i : Nat} (hl : l < 2) (hw : Wm A G e l y) (hj : j ≤ 200) (hi : i < eNr e) (hL : G 7 i 1 = nI l) (hD : G 7 i 2 = nI j) : CALL (roL L xs) mP mL (N + 5050) (d + 3) 155 [.ref 11000, .int (nI i)] (HH A G e) = some (some (.int (mi (G 7) i - rV A G l (cl A G e l y j))), HH A G e) := by
  have h120 := (I_cnt' I).2.2
  obtain ⟨-, -, -, q3, q4, -, q5, q6, -⟩ := I_row' I i hi
  have ci := nI_clamp (n := i) (by omega)
  rw [m155, rf11000_23, ga20048, ib_n (show i < 120 by omega) (by decide), ci, q5, rf11000_24, ga20049, ib_n (show i < 120 by omega) (by decide), ci, q6, rf11000_20, ga20045, ib_n (show i < 120 by omega) (by decide), ci, q3, hL, rf11000_21, ga20046, ib_n (show i < 120 by omega) (by decide), ci, q4, hD, vo11000, s153 I hl hw hj, cI_s]
  rfl
end WAY2
