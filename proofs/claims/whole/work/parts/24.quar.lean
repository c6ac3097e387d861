/-! QUARREL, HOME -/
theorem q_ab_neg (x : Int32) : q_ab (-x) = q_ab x := by
  by_cases h : x = Int32.minValue
  · subst h
    decide
  · have hb := Int32.minValue_le_toInt x
    have hu := Int32.toInt_le x
    have hmin : Int32.minValue.toInt = -2147483648 := by decide
    have hmax : Int32.maxValue.toInt = 2147483647 := by decide
    have h1 : ¬ x.toInt = -2147483648 := fun q => h (Int32.toInt_inj.mp (q.trans (by decide)))
    have h2 : (-x).toInt = - x.toInt := by
      rw [Int32.toInt_neg, Int.bmod_eq_of_le (by omega) (by omega)]
    have h0 : (0 : Int32).toInt = 0 := by decide
    unfold q_ab
    by_cases a : x < 0
    · have a2 := a
      rw [Int32.lt_iff_toInt_lt] at a2
      rw [if_pos a, if_neg (by rw [Int32.lt_iff_toInt_lt]; omega)]
    · rw [if_neg a]
      have a2 : ¬ x.toInt < 0 := fun q => a (by rw [Int32.lt_iff_toInt_lt]; omega)
      by_cases b : -x < 0
      · rw [if_pos b, Int32.neg_neg]
      · rw [if_neg b]
        rw [Int32.lt_iff_toInt_lt] at b
        exact Int32.toInt_inj.mp (by omega)
theorem ab_mid {a b s : Int32} : q_ab (((5400 - a) + s) - ((5400 - b) + s)) = q_ab (a - b) := by
  have h : (5400 - a) + s = (b - a) + ((5400 - b) + s) := by
    rw [Int32.sub_eq_add_neg, Int32.sub_eq_add_neg b a, Int32.sub_eq_add_neg 5400 b, show b + -a + (5400 + -b + s) = (b + -b) + (5400 + -a + s) by ac_rfl, ← Int32.sub_eq_add_neg b b, Int32.sub_self, Int32.zero_add]
  rw [h, Int32.add_sub_cancel, ← q_ab_neg, Int32.neg_sub]
/-- a HEIGHT (made or not) of a LOG, told by a YEAR -/
def hoB (G : Mat) (lv yv : Int32) (i : Nat) : Bool := decide ((G 7 i 3 = 2 ∨ G 7 i 3 = 6) ∧ G 7 i 1 = lv ∧ G 7 i 4 ≤ yv)
def quB (G : Mat) (lv yv : Int32) (i j : Nat) : Bool := hoB G lv yv i && (hoB G lv yv j && decide (G 7 i 2 = G 7 j 2 ∧ (G 7 i 6 + G 7 j 6) < q_ab (G 7 i 5 - G 7 j 5)))
def qO (p : Nat → Nat → Bool) : Nat → Nat → Int32
  | _, 0 => -5
  | i, r + 1 => match fi (p i) (i + 1) r with
    | some j => 1000 * nI i + nI j
    | none => qO p (i + 1) r
def qV (p : Nat → Bool) (i : Nat) (h : PH) (res : Option Value × PH) (j r : Nat) : Option Value × PH := match fi p j r with
  | some q => (some (.int (1000 * nI i + nI q)), h)
  | none => res
theorem qV_s {p : Nat → Bool} {i j r : Nat} {h : PH} {res : Option Value × PH} (hp : p j = true) : qV p i h res j (r + 1) = (some (.int (1000 * nI i + nI j)), h) := by
  unfold qV fi
  rw [if_pos hp]
theorem qV_f {p : Nat → Bool} {i j r : Nat} {h : PH} {res : Option Value × PH} (hp : p j = false) : qV p i h res j (r + 1) = qV p i h res (j + 1) r := by
  unfold qV
  rw [fi, if_neg (by rw [hp]; decide)]
theorem qV_o {p : Nat → Nat → Bool} {i r : Nat} {h : PH} : qV (p i) i h (some (.int (qO p (i + 1) r)), h) (i + 1) r = (some (.int (qO p i (r + 1))), h) := by
  unfold qV
  rw [qO]
  cases fi (p i) (i + 1) r <;> rfl
theorem fi_f {p : Nat → Bool} (hp : ∀ j, p j = false) : ∀ k i, fi p i k = none
  | 0, i => rfl
  | k + 1, i => by
    rw [fi, if_neg (by rw [hp]; decide)]
    exact fi_f hp k (i + 1)
theorem qO_f {p : Nat → Nat → Bool} {i r : Nat} (hp : ∀ j, p i j = false) : qO p i (r + 1) = qO p (i + 1) r := by
  rw [qO, fi_f hp]
section QUAR
variable {A G : Mat} {e : Ev} {L : Nat} {xs : Nat → Int32} {N d : Nat}
theorem s31 (I : Inv A G e) {i : Nat} {lv yv : Int32} (hi : i < eNr e) : CALL (roL L xs) mP mL (N + 5050) (d + 1) 31 [.ref (7000 + i), .int lv, .int yv] (HH A G e) = some (some (.int (bB (decide (G 7 i 1 = lv ∧ G 7 i 4 ≤ yv)))), HH A G e) := by
  have h120 := (I_cnt' I).2.2
  have gr : ∀ (f : Nat) (K : Int32 → PR), f < 9 → gI (HH A G e) (7000 + i) 7 f K = K (G 7 i f) := fun f K hf => gI7 hi (by omega) hf
  rw [m31, gr 1 _ (by decide)]
  by_cases a : G 7 i 1 = lv
  · rw [if_pos a, gr 4 _ (by decide), bB_n]
    refine congrArg (fun z => some (some (Value.int (bB z)), HH A G e)) (decide_eq_decide.mpr ⟨fun q => ⟨a, Int32.not_lt.mp q⟩, fun q => Int32.not_lt.mpr q.2⟩)
  · rw [if_neg a]
    simp [bB, a]
theorem s32 (I : Inv A G e) {i : Nat} {lv yv : Int32} (hi : i < eNr e) : CALL (roL L xs) mP mL (N + 5050) (d + 2) 32 [.ref (7000 + i), .int lv, .int yv] (HH A G e) = some (some (.int (bB (hoB G lv yv i))), HH A G e) := by
  have h120 := (I_cnt' I).2.2
  have gr : ∀ (f : Nat) (K : Int32 → PR), f < 9 → gI (HH A G e) (7000 + i) 7 f K = K (G 7 i f) := fun f K hf => gI7 hi (by omega) hf
  unfold hoB
  rw [m32, gr 3 _ (by decide)]
  by_cases a : G 7 i 3 = 2
  · rw [if_pos a, vO7 hi (by omega), s31 I hi, cI_s, bB_r]
    simp only [a, true_or, true_and]
  · rw [if_neg a, gr 3 _ (by decide)]
    by_cases b : G 7 i 3 = 6
    · rw [if_pos b, vO7 hi (by omega), s31 I hi, cI_s, bB_r]
      simp only [b, or_true, true_and]
    · rw [if_neg b]
      simp [bB, a, b]
theorem s33 (I : Inv A G e) {i j : Nat} (hi : i < eNr e) (hj : j < eNr e) : CALL (roL L xs) mP mL (N + 5050) (d + 2) 33 [.ref (7000 + i), .ref (7000 + j)] (HH A G e) = some (some (.int (bB (decide (G 7 i 2 = G 7 j 2 ∧ (G 7 i 6 + G 7 j 6) < q_ab (G 7 i 5 - G 7 j 5))))), HH A G e) := by
  have h120 := (I_cnt' I).2.2
  have gr : ∀ (f : Nat) (K : Int32 → PR), f < 9 → gI (HH A G e) (7000 + i) 7 f K = K (G 7 i f) := fun f K hf => gI7 hi (by omega) hf
  have gj : ∀ (f : Nat) (K : Int32 → PR), f < 9 → gI (HH A G e) (7000 + j) 7 f K = K (G 7 j f) := fun f K hf => gI7 hj (by omega) hf
  rw [m33, gr 2 _ (by decide), gj 2 _ (by decide)]
  by_cases a : G 7 i 2 = G 7 j 2
  · rw [if_pos a, gr 5 _ (by decide), gj 5 _ (by decide), s219, cI_s, gr 6 _ (by decide), gj 6 _ (by decide), bB_p]
    simp only [a, true_and]
  · rw [if_neg a]
    simp [bB, a]
theorem w115b (I : Inv A G e) {i b : Nat} {lv yv : Int32} {res : Option Value × PH} (hi : i < eNr e) (hh : hoB G lv yv i = true) (hb : EXn (roL L xs) p115 (CALL (roL L xs) mP mL (N + 5050) (d + 3)) b 2 [some (.ref 10000), some (.int lv), some (.int yv), some (.int (nI (i + 1))), some (.int (nI (eNr e)))] [] (HH A G e) = some res) : ∀ (r j : Nat), j + r = eNr e → EXn (roL L xs) p115 (CALL (roL L xs) mP mL (N + 5050) (d + 3)) (b + 2 * (r + 1)) 32 [some (.ref 10000), some (.int lv), some (.int yv), some (.int (nI i)), some (.int (nI j))] [] (HH A G e) = some (qV (quB G lv yv i) i (HH A G e) res j r)
  | 0, j, hj => by
    obtain ⟨z1, z2, z3⟩ := I_cnt' I
    refine EXs_le (S := [2, 32]) (n := b) 2 32 _ _ _ ?_
    have : j = eNr e := by omega
    subst this
    rw [l115_32, gf10000_15, z1, if_neg (nI_nlt (by omega) (by omega)), nI_1]
    exact hb
  | r + 1, j, hj => by
    obtain ⟨z1, z2, z3⟩ := I_cnt' I
    have hj2 : j < eNr e := by omega
    refine EXs_le (S := [2, 32]) (n := b + 2 * (r + 1)) 2 32 _ _ _ ?_
    have ih := w115b I hi hh hb r (j + 1) (by omega)
    rw [l115_32, gf10000_15, z1, if_pos (nI_lt hj2 (by omega)), rf10000_4, aRr (I_ref' I) z3 hj2, vO7 hj2 (by omega), s32 I hj2, cI_s, nI_1]
    cases hq : hoB G lv yv j with
    | false =>
      rw [if_pos (by decide), qV_f (by unfold quB; rw [hq]; simp)]
      exact ih
    | true =>
      rw [if_neg (by decide), rf10000_4, aRr (I_ref' I) z3 hi, rf10000_4, aRr (I_ref' I) z3 hj2, vO7 hi (by omega), s33 I hi hj2, cI_s]
      cases hz : decide (G 7 i 2 = G 7 j 2 ∧ (G 7 i 6 + G 7 j 6) < q_ab (G 7 i 5 - G 7 j 5)) with
      | false =>
        rw [if_pos (by decide), qV_f (by unfold quB; rw [hz]; simp)]
        exact ih
      | true => rw [if_neg (by decide), qV_s (by unfold quB; rw [hz, hq, hh]; rfl)]
theorem w115 (I : Inv A G e) {lv yv : Int32} : ∀ (r i : Nat) (o4 : Option Value), i + r = eNr e → EXn (roL L xs) p115 (CALL (roL L xs) mP mL (N + 5050) (d + 3)) (300 * (r + 1)) 2 [some (.ref 10000), some (.int lv), some (.int yv), some (.int (nI i)), o4] [] (HH A G e) = some (some (.int (qO (quB G lv yv) i r)), HH A G e)
  | 0, i, o4, hi => by
    obtain ⟨z1, z2, z3⟩ := I_cnt' I
    refine EXn_mo (n := 0 + 2) (by omega) (EXs_le (S := [2, 32]) (n := 0) 2 2 _ _ _ ?_)
    rw [l115_2, gf10000_15, z1, if_neg (nI_nlt (by omega) (by omega))]
    rfl
  | r + 1, i, o4, hi => by
    obtain ⟨z1, z2, z3⟩ := I_cnt' I
    have hi2 : i < eNr e := by omega
    cases hh : hoB G lv yv i with
    | false =>
      refine EXn_mo (n := 300 * (r + 1) + 2) (by omega) (EXs_le (S := [2, 32]) (n := 300 * (r + 1)) 2 2 _ _ _ ?_)
      rw [l115_2, gf10000_15, z1, if_pos (nI_lt hi2 (by omega)), rf10000_4, aRr (I_ref' I) z3 hi2, vO7 hi2 (by omega), s32 I hi2, cI_s, hh, if_pos (by decide), nI_1, qO_f (fun j => by unfold quB; rw [hh]; rfl)]
      exact w115 I r (i + 1) _ (by omega)
    | true =>
      refine EXn_mo (n := (300 * (r + 1) + 2 * (r + 1)) + 2) (by omega) (EXs_le (S := [2, 32]) (n := 300 * (r + 1) + 2 * (r + 1)) 2 2 _ _ _ ?_)
      rw [l115_2, gf10000_15, z1, if_pos (nI_lt hi2 (by omega)), rf10000_4, aRr (I_ref' I) z3 hi2, vO7 hi2 (by omega), s32 I hi2, cI_s, hh, if_neg (by decide), nI_1, ← qV_o]
      exact w115b I hi2 hh (w115 I r (i + 1) _ (by omega)) r (i + 1) (by omega)
theorem s115 (hN : 200000 ≤ N) (I : Inv A G e) {lv yv : Int32} : CALL (roL L xs) mP mL (N + 5050) (d + 4) 115 [.ref 10000, .int lv, .int yv] (HH A G e) = some (some (.int (qO (quB G lv yv) 0 (eNr e))), HH A G e) := by
  have z3 := (I_cnt' I).2.2
  refine m115 (300 * (eNr e + 1)) (by omega) ?_
  rw [x115]
  exact w115 I (eNr e) 0 _ (by omega)
theorem w163b (I : Inv A G e) {i b : Nat} {lv yv : Int32} {res : Option Value × PH} (hi : i < eNr e) (hb : EXn (roL L xs) p163 (CALL (roL L xs) mP mL (N + 5050) (d + 3)) b 2 [some (.ref 11000), some (.int lv), some (.int yv), some (.int (nI (i + 1))), some (.int (nI (eNr e)))] [] (HH A G e) = some res) : ∀ (r j : Nat), i < j → j + r = eNr e → EXn (roL L xs) p163 (CALL (roL L xs) mP mL (N + 5050) (d + 3)) (b + 3 * (r + 1)) 15 [some (.ref 11000), some (.int lv), some (.int yv), some (.int (nI i)), some (.int (nI j))] [] (HH A G e) = some (qV (quB G lv yv i) i (HH A G e) res j r)
  | 0, j, hij, hj => by
    obtain ⟨z1, z2, z3⟩ := I_cnt' I
    refine EXs_le (S := [2, 15]) (n := b) 3 15 _ _ _ ?_
    have : j = eNr e := by omega
    subst this
    rw [l163_15, gf11000_18, z2, if_neg (nI_nlt (by omega) (by omega)), nI_1]
    exact hb
  | r + 1, j, hij, hj => by
    obtain ⟨z1, z2, z3⟩ := I_cnt' I
    have hj2 : j < eNr e := by omega
    refine EXs_le (S := [2, 15]) (n := b + 3 * (r + 1)) 3 15 _ _ _ ?_
    have ih := w163b I hi hb r (j + 1) (by omega) (by omega)
    have hord : G 7 i 4 ≤ G 7 j 4 := (I.2.2.2.2.2.2.2.2.2.2.2.2.2.2.2.2.1 j hj2).2 i hij
    obtain ⟨-, -, ak, al, ad, ay, aa, ab, -⟩ := I_row' I i hi
    obtain ⟨-, -, bk, bl, bd, by', ba, bb, -⟩ := I_row' I j hj2
    have ci := nI_clamp (n := i) (by omega)
    have cj := nI_clamp (n := j) (by omega)
    have ibi : ∀ K : PR, ib (nI i) 120 K = K := fun K => ib_n (by omega) (by decide)
    have ibj : ∀ K : PR, ib (nI j) 120 K = K := fun K => ib_n (by omega) (by decide)
    rw [l163_15, gf11000_18, z2, if_pos (nI_lt hj2 (by omega)), rf11000_20, ga20045, ibi, ci, al, nI_1]
    by_cases c1 : G 7 i 1 = lv
    · rw [if_pos c1, rf11000_20, ga20045, ibj, cj, bl]
      by_cases c2 : G 7 j 1 = lv
      · rw [if_pos c2, vo11000, s159 I hi, cI_s]
        by_cases c3 : G 7 i 3 = 2 ∨ G 7 i 3 = 6
        · rw [decide_eq_true c3, if_neg (by decide), vo11000, s159 I hj2, cI_s]
          by_cases c4 : G 7 j 3 = 2 ∨ G 7 j 3 = 6
          · rw [decide_eq_true c4, if_neg (by decide), rf11000_21, ga20046, ibi, ci, ad, rf11000_21, ga20046, ibj, cj, bd]
            by_cases c5 : G 7 i 2 = G 7 j 2
            · rw [if_pos c5, rf11000_22, ga20047, ibj, cj, by']
              by_cases c6 : yv < G 7 j 4
              · have c6n : ¬ G 7 j 4 ≤ yv := Int32.not_le.mpr c6
                rw [if_pos c6, qV_f (by simp [quB, hoB, c6n])]
                exact ih
              · obtain ⟨⟨-, -, ⟨dj, hdj, ej⟩, -⟩, -⟩ := I_row' I j hj2
                have c6' : G 7 j 4 ≤ yv := Int32.not_lt.mp c6
                have c7 : G 7 i 4 ≤ yv := Int32.le_trans hord c6'
                rw [if_neg c6, vo11000, s160 I hi (c5.trans ej) hdj, cI_s, vo11000, s160 I hj2 ej hdj, cI_s, vo11000, s126, cI_s, ab_mid, rf11000_24, ga20049, ibi, ci, ab, rf11000_24, ga20049, ibj, cj, bb]
                by_cases c8 : (G 7 i 6 + G 7 j 6) < q_ab (G 7 i 5 - G 7 j 5)
                · rw [if_pos c8, qV_s (by simp [quB, hoB, c1, c2, c3, c4, c5, c6', c7, c8])]
                · rw [if_neg c8, qV_f (by simp [quB, c8])]
                  exact ih
            · rw [if_neg c5, qV_f (by simp [quB, c5])]
              exact ih
          · rw [decide_eq_false c4, if_pos (by decide), qV_f (by simp [quB, hoB, c4])]
            exact ih
        · rw [decide_eq_false c3, if_pos (by decide), qV_f (by simp [quB, hoB, c3])]
          exact ih
      · rw [if_neg c2, qV_f (by simp [quB, hoB, c2])]
        exact ih
    · rw [if_neg c1, qV_f (by simp [quB, hoB, c1])]
      exact ih
theorem w163 (I : Inv A G e) {lv yv : Int32} : ∀ (r i : Nat) (o4 : Option Value), i + r = eNr e → EXn (roL L xs) p163 (CALL (roL L xs) mP mL (N + 5050) (d + 3)) (400 * (r + 1)) 2 [some (.ref 11000), some (.int lv), some (.int yv), some (.int (nI i)), o4] [] (HH A G e) = some (some (.int (qO (quB G lv yv) i r)), HH A G e)
  | 0, i, o4, hi => by
    obtain ⟨z1, z2, z3⟩ := I_cnt' I
    refine EXn_mo (n := 0 + 2) (by omega) (EXs_le (S := [2, 15]) (n := 0) 2 2 _ _ _ ?_)
    rw [l163_2, gf11000_18, z2, if_neg (nI_nlt (by omega) (by omega))]
    rfl
  | r + 1, i, o4, hi => by
    obtain ⟨z1, z2, z3⟩ := I_cnt' I
    have hi2 : i < eNr e := by omega
    refine EXn_mo (n := (400 * (r + 1) + 3 * (r + 1)) + 2) (by omega) (EXs_le (S := [2, 15]) (n := 400 * (r + 1) + 3 * (r + 1)) 2 2 _ _ _ ?_)
    rw [l163_2, gf11000_18, z2, if_pos (nI_lt hi2 (by omega)), nI_1, ← qV_o]
    exact w163b I hi2 (w163 I r (i + 1) _ (by omega)) r (i + 1) (by omega) (by omega)
theorem s163 (hN : 200000 ≤ N) (I : Inv A G e) {lv yv : Int32} : CALL (roL L xs) mP mL (N + 5050) (d + 4) 163 [.ref 11000, .int lv, .int yv] (HH A G e) = some (some (.int (qO (quB G lv yv) 0 (eNr e))), HH A G e) := by
  have z3 := (I_cnt' I).2.2
  refine m163 (400 * (eNr e + 1)) (by omega) ?_
  rw [x163]
  exact w163 I (eNr e) 0 _ (by omega)
theorem o_quarrel (hN : 200000 ≤ N) (I : Inv A G e) (x : Int32) : Op L xs N (d + 40) 70 164 [.int x] A G e := by
  unfold Op
  by_cases g1 : (0 ≤ x ∧ x ≤ 1)
  · (simp only [↓m70, ↓vo0, ↓rf0_0, ↓gf0_1, ↓vo1000, ↓rf1000_0, ↓rf1000_1, ↓vo2000, ↓rf2000_0, ↓rf2000_1, ↓rf2000_2, ↓rf2000_3, ↓vo5000, ↓rf5000_0, ↓rf5000_1, ↓gf5000_2, ↓vo6000, ↓rf6000_0, ↓rf6000_1, ↓gf6000_2, ↓gf6000_3, ↓gf6000_4, ↓vo9000, ↓rf9000_0, ↓rf9000_1, ↓gf9000_2, ↓rf9000_3, ↓rf9000_4, ↓vo10000, ↓rf10000_0, ↓rf10000_1, ↓rf10000_2, ↓rf10000_3, ↓rf10000_4, ↓rf10000_5, ↓rf10000_6, ↓rf10000_7, ↓rf10000_8, ↓rf10000_9, ↓rf10000_10, ↓rf10000_11, ↓rf10000_12, ↓gf10000_13, ↓gf10000_14, ↓gf10000_15, ↓gf10000_16, ↓gf10000_17, ↓vo11000, ↓gf11000_0, ↓gf11000_1, ↓rf11000_2, ↓rf11000_3, ↓rf11000_4, ↓rf11000_5, ↓rf11000_6, ↓rf11000_7, ↓rf11000_8, ↓rf11000_9, ↓rf11000_10, ↓rf11000_11, ↓rf11000_12, ↓rf11000_13, ↓rf11000_14, ↓rf11000_15, ↓rf11000_16, ↓rf11000_17, ↓gf11000_18, ↓rf11000_19, ↓rf11000_20, ↓rf11000_21, ↓rf11000_22, ↓rf11000_23, ↓rf11000_24, ↓rf11000_25, ↓rf11000_26, ↓rf11000_27, ↓rf11000_28, ↓gf11000_29, ↓gf11000_30, ↓gf11000_31, ↓gf11000_32, ↓rf11000_33, ↓gf11000_34, ↓gf11000_35, ↓gf11000_36, ↓rf11000_37, ↓rf11000_38, ↓rf11000_39, ↓rf11000_40, ↓rf11000_41, ↓gf11000_42, ↓gf11000_43, ↓gf11000_44, ↓rf11000_45, ↓rf11000_46, ↓gf11000_47, ↓gf11000_48, ↓gf11000_49, ↓gf11000_50, ↓rf11000_51, ↓rf11000_52, ↓gf11000_53, ↓rf11000_54, ↓rf11000_55, ↓rf11000_56, ↓rf11000_57, ↓rf11000_58, ↓vo4000, ↓gf4000_0, ↓gf4000_1, ↓gf4000_2, ↓gf4000_3, ↓gf4000_4, ↓gf4000_5, ↓gf4000_6, ↓gf4000_7, ↓gf4000_8, ↓rf4000_9, ↓vo4001, ↓gf4001_0, ↓gf4001_1, ↓gf4001_2, ↓gf4001_3, ↓gf4001_4, ↓gf4001_5, ↓gf4001_6, ↓gf4001_7, ↓gf4001_8, ↓rf4001_9, ↓ga20000, ↓ga20001, ↓ga20002, ↓ga20003, ↓ga20004, ↓ga20005, ↓ga20009, ↓ga20010, ↓ga20012, ↓ga20013, ↓ga20015, ↓ga20016, ↓ga20017, ↓ga20018, ↓ga20019, ↓ga20020, ↓ga20022, ↓ga20023, ↓ga20024, ↓ga20025, ↓ga20026, ↓ga20027, ↓ga20028, ↓ga20029, ↓ga20030, ↓ga20031, ↓ga20032, ↓ga20033, ↓ga20034, ↓ga20035, ↓ga20036, ↓ga20037, ↓ga20038, ↓ga20039, ↓ga20040, ↓ga20041, ↓ga20042, ↓ga20043, ↓ga20044, ↓ga20045, ↓ga20046, ↓ga20047, ↓ga20048, ↓ga20049, ↓ga20050, ↓ga20051, ↓ga20052, ↓ga20053, ↓ga20054, ↓ga20055, ↓ga20056, ↓ga20057, ↓ga20058, ↓ga20059, ↓ga20060, ↓ga20061, ↓ga20062, ↓ga20063, ↓ga20064, ↓ga20065, ↓ga20066, ↓ga20067, ↓ga20068, ↓pf0_1, ↓pf5000_2, ↓pf6000_2, ↓pf6000_3, ↓pf6000_4, ↓pf9000_2, ↓pf10000_13, ↓pf10000_14, ↓pf10000_15, ↓pf10000_16, ↓pf10000_17, ↓pf11000_0, ↓pf11000_1, ↓pf11000_18, ↓pf11000_29, ↓pf11000_30, ↓pf11000_31, ↓pf11000_32, ↓pf11000_34, ↓pf11000_35, ↓pf11000_36, ↓pf11000_42, ↓pf11000_43, ↓pf11000_44, ↓pf11000_47, ↓pf11000_48, ↓pf11000_49, ↓pf11000_50, ↓pf11000_53, ↓pf4000_0, ↓pf4000_1, ↓pf4000_2, ↓pf4000_3, ↓pf4000_4, ↓pf4000_5, ↓pf4000_6, ↓pf4000_7, ↓pf4000_8, ↓pf4001_0, ↓pf4001_1, ↓pf4001_2, ↓pf4001_3, ↓pf4001_4, ↓pf4001_5, ↓pf4001_6, ↓pf4001_7, ↓pf4001_8, ↓sa20000, ↓sa20001, ↓sa20002, ↓sa20003, ↓sa20004, ↓sa20005, ↓sa20009, ↓sa20010, ↓sa20012, ↓sa20013, ↓sa20015, ↓sa20016, ↓sa20017, ↓sa20018, ↓sa20019, ↓sa20020, ↓sa20022, ↓sa20023, ↓sa20024, ↓sa20025, ↓sa20026, ↓sa20027, ↓sa20028, ↓sa20029, ↓sa20030, ↓sa20031, ↓sa20032, ↓sa20033, ↓sa20034, ↓sa20035, ↓sa20036, ↓sa20037, ↓sa20038, ↓sa20039, ↓sa20040, ↓sa20041, ↓sa20042, ↓sa20043, ↓sa20044, ↓sa20045, ↓sa20046, ↓sa20047, ↓sa20048, ↓sa20049, ↓sa20050, ↓sa20051, ↓sa20052, ↓sa20053, ↓sa20054, ↓sa20055, ↓sa20056, ↓sa20057, ↓sa20058, ↓sa20059, ↓sa20060, ↓sa20061, ↓sa20062, ↓sa20063, ↓sa20064, ↓sa20065, ↓sa20066, ↓sa20067, ↓sa20068, ↓s93, ↓s94, ↓s95, ↓s96, ↓s97, ↓s98, ↓s99, ↓s100, ↓s101, ↓s104, ↓s105, ↓s106, ↓s125, ↓s126, ↓s127, ↓s219, ↓s220, ↓s221, ↓h128, ↓h129, ↓h130, ↓h131, ↓s132, ↓h157, ↓h194, ↓h211, ↓cI_s, ↓cV_s, ↓cR_s, ↓cR_n, ↓reduceIte, ↓bI_01, ↓ro0, ↓ro1, ↓ro2, ↓ro3, ↓rol3, up3_s, up3_c, ne_eq, Nat.reduceEqDiff, Wp_s, bI_z, not_true_eq_false, not_false_eq_true, and_self, and_true, true_and, and_false, false_and, if_true, if_false, Classical.not_not, g1, s115 hN I, s163 hN I]; simp only [↓m164, ↓vo0, ↓rf0_0, ↓gf0_1, ↓vo1000, ↓rf1000_0, ↓rf1000_1, ↓vo2000, ↓rf2000_0, ↓rf2000_1, ↓rf2000_2, ↓rf2000_3, ↓vo5000, ↓rf5000_0, ↓rf5000_1, ↓gf5000_2, ↓vo6000, ↓rf6000_0, ↓rf6000_1, ↓gf6000_2, ↓gf6000_3, ↓gf6000_4, ↓vo9000, ↓rf9000_0, ↓rf9000_1, ↓gf9000_2, ↓rf9000_3, ↓rf9000_4, ↓vo10000, ↓rf10000_0, ↓rf10000_1, ↓rf10000_2, ↓rf10000_3, ↓rf10000_4, ↓rf10000_5, ↓rf10000_6, ↓rf10000_7, ↓rf10000_8, ↓rf10000_9, ↓rf10000_10, ↓rf10000_11, ↓rf10000_12, ↓gf10000_13, ↓gf10000_14, ↓gf10000_15, ↓gf10000_16, ↓gf10000_17, ↓vo11000, ↓gf11000_0, ↓gf11000_1, ↓rf11000_2, ↓rf11000_3, ↓rf11000_4, ↓rf11000_5, ↓rf11000_6, ↓rf11000_7, ↓rf11000_8, ↓rf11000_9, ↓rf11000_10, ↓rf11000_11, ↓rf11000_12, ↓rf11000_13, ↓rf11000_14, ↓rf11000_15, ↓rf11000_16, ↓rf11000_17, ↓gf11000_18, ↓rf11000_19, ↓rf11000_20, ↓rf11000_21, ↓rf11000_22, ↓rf11000_23, ↓rf11000_24, ↓rf11000_25, ↓rf11000_26, ↓rf11000_27, ↓rf11000_28, ↓gf11000_29, ↓gf11000_30, ↓gf11000_31, ↓gf11000_32, ↓rf11000_33, ↓gf11000_34, ↓gf11000_35, ↓gf11000_36, ↓rf11000_37, ↓rf11000_38, ↓rf11000_39, ↓rf11000_40, ↓rf11000_41, ↓gf11000_42, ↓gf11000_43, ↓gf11000_44, ↓rf11000_45, ↓rf11000_46, ↓gf11000_47, ↓gf11000_48, ↓gf11000_49, ↓gf11000_50, ↓rf11000_51, ↓rf11000_52, ↓gf11000_53, ↓rf11000_54, ↓rf11000_55, ↓rf11000_56, ↓rf11000_57, ↓rf11000_58, ↓vo4000, ↓gf4000_0, ↓gf4000_1, ↓gf4000_2, ↓gf4000_3, ↓gf4000_4, ↓gf4000_5, ↓gf4000_6, ↓gf4000_7, ↓gf4000_8, ↓rf4000_9, ↓vo4001, ↓gf4001_0, ↓gf4001_1, ↓gf4001_2, ↓gf4001_3, ↓gf4001_4, ↓gf4001_5, ↓gf4001_6, ↓gf4001_7, ↓gf4001_8, ↓rf4001_9, ↓ga20000, ↓ga20001, ↓ga20002, ↓ga20003, ↓ga20004, ↓ga20005, ↓ga20009, ↓ga20010, ↓ga20012, ↓ga20013, ↓ga20015, ↓ga20016, ↓ga20017, ↓ga20018, ↓ga20019, ↓ga20020, ↓ga20022, ↓ga20023, ↓ga20024, ↓ga20025, ↓ga20026, ↓ga20027, ↓ga20028, ↓ga20029, ↓ga20030, ↓ga20031, ↓ga20032, ↓ga20033, ↓ga20034, ↓ga20035, ↓ga20036, ↓ga20037, ↓ga20038, ↓ga20039, ↓ga20040, ↓ga20041, ↓ga20042, ↓ga20043, ↓ga20044, ↓ga20045, ↓ga20046, ↓ga20047, ↓ga20048, ↓ga20049, ↓ga20050, ↓ga20051, ↓ga20052, ↓ga20053, ↓ga20054, ↓ga20055, ↓ga20056, ↓ga20057, ↓ga20058, ↓ga20059, ↓ga20060, ↓ga20061, ↓ga20062, ↓ga20063, ↓ga20064, ↓ga20065, ↓ga20066, ↓ga20067, ↓ga20068, ↓pf0_1, ↓pf5000_2, ↓pf6000_2, ↓pf6000_3, ↓pf6000_4, ↓pf9000_2, ↓pf10000_13, ↓pf10000_14, ↓pf10000_15, ↓pf10000_16, ↓pf10000_17, ↓pf11000_0, ↓pf11000_1, ↓pf11000_18, ↓pf11000_29, ↓pf11000_30, ↓pf11000_31, ↓pf11000_32, ↓pf11000_34, ↓pf11000_35, ↓pf11000_36, ↓pf11000_42, ↓pf11000_43, ↓pf11000_44, ↓pf11000_47, ↓pf11000_48, ↓pf11000_49, ↓pf11000_50, ↓pf11000_53, ↓pf4000_0, ↓pf4000_1, ↓pf4000_2, ↓pf4000_3, ↓pf4000_4, ↓pf4000_5, ↓pf4000_6, ↓pf4000_7, ↓pf4000_8, ↓pf4001_0, ↓pf4001_1, ↓pf4001_2, ↓pf4001_3, ↓pf4001_4, ↓pf4001_5, ↓pf4001_6, ↓pf4001_7, ↓pf4001_8, ↓sa20000, ↓sa20001, ↓sa20002, ↓sa20003, ↓sa20004, ↓sa20005, ↓sa20009, ↓sa20010, ↓sa20012, ↓sa20013, ↓sa20015, ↓sa20016, ↓sa20017, ↓sa20018, ↓sa20019, ↓sa20020, ↓sa20022, ↓sa20023, ↓sa20024, ↓sa20025, ↓sa20026, ↓sa20027, ↓sa20028, ↓sa20029, ↓sa20030, ↓sa20031, ↓sa20032, ↓sa20033, ↓sa20034, ↓sa20035, ↓sa20036, ↓sa20037, ↓sa20038, ↓sa20039, ↓sa20040, ↓sa20041, ↓sa20042, ↓sa20043, ↓sa20044, ↓sa20045, ↓sa20046, ↓sa20047, ↓sa20048, ↓sa20049, ↓sa20050, ↓sa20051, ↓sa20052, ↓sa20053, ↓sa20054, ↓sa20055, ↓sa20056, ↓sa20057, ↓sa20058, ↓sa20059, ↓sa20060, ↓sa20061, ↓sa20062, ↓sa20063, ↓sa20064, ↓sa20065, ↓sa20066, ↓sa20067, ↓sa20068, ↓s93, ↓s94, ↓s95, ↓s96, ↓s97, ↓s98, ↓s99, ↓s100, ↓s101, ↓s104, ↓s105, ↓s106, ↓s125, ↓s126, ↓s127, ↓s219, ↓s220, ↓s221, ↓h128, ↓h129, ↓h130, ↓h131, ↓s132, ↓h157, ↓h194, ↓h211, ↓cI_s, ↓cV_s, ↓cR_s, ↓cR_n, ↓reduceIte, ↓bI_01, ↓ro0, ↓ro1, ↓ro2, ↓ro3, ↓rol3, up3_s, up3_c, ne_eq, Nat.reduceEqDiff, Wp_s, bI_z, not_true_eq_false, not_false_eq_true, and_self, and_true, true_and, and_false, false_and, if_true, if_false, Classical.not_not, g1, s115 hN I, s163 hN I])
    exact IH_i I
  · (simp only [↓m70, ↓vo0, ↓rf0_0, ↓gf0_1, ↓vo1000, ↓rf1000_0, ↓rf1000_1, ↓vo2000, ↓rf2000_0, ↓rf2000_1, ↓rf2000_2, ↓rf2000_3, ↓vo5000, ↓rf5000_0, ↓rf5000_1, ↓gf5000_2, ↓vo6000, ↓rf6000_0, ↓rf6000_1, ↓gf6000_2, ↓gf6000_3, ↓gf6000_4, ↓vo9000, ↓rf9000_0, ↓rf9000_1, ↓gf9000_2, ↓rf9000_3, ↓rf9000_4, ↓vo10000, ↓rf10000_0, ↓rf10000_1, ↓rf10000_2, ↓rf10000_3, ↓rf10000_4, ↓rf10000_5, ↓rf10000_6, ↓rf10000_7, ↓rf10000_8, ↓rf10000_9, ↓rf10000_10, ↓rf10000_11, ↓rf10000_12, ↓gf10000_13, ↓gf10000_14, ↓gf10000_15, ↓gf10000_16, ↓gf10000_17, ↓vo11000, ↓gf11000_0, ↓gf11000_1, ↓rf11000_2, ↓rf11000_3, ↓rf11000_4, ↓rf11000_5, ↓rf11000_6, ↓rf11000_7, ↓rf11000_8, ↓rf11000_9, ↓rf11000_10, ↓rf11000_11, ↓rf11000_12, ↓rf11000_13, ↓rf11000_14, ↓rf11000_15, ↓rf11000_16, ↓rf11000_17, ↓gf11000_18, ↓rf11000_19, ↓rf11000_20, ↓rf11000_21, ↓rf11000_22, ↓rf11000_23, ↓rf11000_24, ↓rf11000_25, ↓rf11000_26, ↓rf11000_27, ↓rf11000_28, ↓gf11000_29, ↓gf11000_30, ↓gf11000_31, ↓gf11000_32, ↓rf11000_33, ↓gf11000_34, ↓gf11000_35, ↓gf11000_36, ↓rf11000_37, ↓rf11000_38, ↓rf11000_39, ↓rf11000_40, ↓rf11000_41, ↓gf11000_42, ↓gf11000_43, ↓gf11000_44, ↓rf11000_45, ↓rf11000_46, ↓gf11000_47, ↓gf11000_48, ↓gf11000_49, ↓gf11000_50, ↓rf11000_51, ↓rf11000_52, ↓gf11000_53, ↓rf11000_54, ↓rf11000_55, ↓rf11000_56, ↓rf11000_57, ↓rf11000_58, ↓vo4000, ↓gf4000_0, ↓gf4000_1, ↓gf4000_2, ↓gf4000_3, ↓gf4000_4, ↓gf4000_5, ↓gf4000_6, ↓gf4000_7, ↓gf4000_8, ↓rf4000_9, ↓vo4001, ↓gf4001_0, ↓gf4001_1, ↓gf4001_2, ↓gf4001_3, ↓gf4001_4, ↓gf4001_5, ↓gf4001_6, ↓gf4001_7, ↓gf4001_8, ↓rf4001_9, ↓ga20000, ↓ga20001, ↓ga20002, ↓ga20003, ↓ga20004, ↓ga20005, ↓ga20009, ↓ga20010, ↓ga20012, ↓ga20013, ↓ga20015, ↓ga20016, ↓ga20017, ↓ga20018, ↓ga20019, ↓ga20020, ↓ga20022, ↓ga20023, ↓ga20024, ↓ga20025, ↓ga20026, ↓ga20027, ↓ga20028, ↓ga20029, ↓ga20030, ↓ga20031, ↓ga20032, ↓ga20033, ↓ga20034, ↓ga20035, ↓ga20036, ↓ga20037, ↓ga20038, ↓ga20039, ↓ga20040, ↓ga20041, ↓ga20042, ↓ga20043, ↓ga20044, ↓ga20045, ↓ga20046, ↓ga20047, ↓ga20048, ↓ga20049, ↓ga20050, ↓ga20051, ↓ga20052, ↓ga20053, ↓ga20054, ↓ga20055, ↓ga20056, ↓ga20057, ↓ga20058, ↓ga20059, ↓ga20060, ↓ga20061, ↓ga20062, ↓ga20063, ↓ga20064, ↓ga20065, ↓ga20066, ↓ga20067, ↓ga20068, ↓pf0_1, ↓pf5000_2, ↓pf6000_2, ↓pf6000_3, ↓pf6000_4, ↓pf9000_2, ↓pf10000_13, ↓pf10000_14, ↓pf10000_15, ↓pf10000_16, ↓pf10000_17, ↓pf11000_0, ↓pf11000_1, ↓pf11000_18, ↓pf11000_29, ↓pf11000_30, ↓pf11000_31, ↓pf11000_32, ↓pf11000_34, ↓pf11000_35, ↓pf11000_36, ↓pf11000_42, ↓pf11000_43, ↓pf11000_44, ↓pf11000_47, ↓pf11000_48, ↓pf11000_49, ↓pf11000_50, ↓pf11000_53, ↓pf4000_0, ↓pf4000_1, ↓pf4000_2, ↓pf4000_3, ↓pf4000_4, ↓pf4000_5, ↓pf4000_6, ↓pf4000_7, ↓pf4000_8, ↓pf4001_0, ↓pf4001_1, ↓pf4001_2, ↓pf4001_3, ↓pf4001_4, ↓pf4001_5, ↓pf4001_6, ↓pf4001_7, ↓pf4001_8, ↓sa20000, ↓sa20001, ↓sa20002, ↓sa20003, ↓sa20004, ↓sa20005, ↓sa20009, ↓sa20010, ↓sa20012, ↓sa20013, ↓sa20015, ↓sa20016, ↓sa20017, ↓sa20018, ↓sa20019, ↓sa20020, ↓sa20022, ↓sa20023, ↓sa20024, ↓sa20025, ↓sa20026, ↓sa20027, ↓sa20028, ↓sa20029, ↓sa20030, ↓sa20031, ↓sa20032, ↓sa20033, ↓sa20034, ↓sa20035, ↓sa20036, ↓sa20037, ↓sa20038, ↓sa20039, ↓sa20040, ↓sa20041, ↓sa20042, ↓sa20043, ↓sa20044, ↓sa20045, ↓sa20046, ↓sa20047, ↓sa20048, ↓sa20049, ↓sa20050, ↓sa20051, ↓sa20052, ↓sa20053, ↓sa20054, ↓sa20055, ↓sa20056, ↓sa20057, ↓sa20058, ↓sa20059, ↓sa20060, ↓sa20061, ↓sa20062, ↓sa20063, ↓sa20064, ↓sa20065, ↓sa20066, ↓sa20067, ↓sa20068, ↓s93, ↓s94, ↓s95, ↓s96, ↓s97, ↓s98, ↓s99, ↓s100, ↓s101, ↓s104, ↓s105, ↓s106, ↓s125, ↓s126, ↓s127, ↓s219, ↓s220, ↓s221, ↓h128, ↓h129, ↓h130, ↓h131, ↓s132, ↓h157, ↓h194, ↓h211, ↓cI_s, ↓cV_s, ↓cR_s, ↓cR_n, ↓reduceIte, ↓bI_01, ↓ro0, ↓ro1, ↓ro2, ↓ro3, ↓rol3, up3_s, up3_c, ne_eq, Nat.reduceEqDiff, Wp_s, bI_z, not_true_eq_false, not_false_eq_true, and_self, and_true, true_and, and_false, false_and, if_true, if_false, Classical.not_not, g1]; simp only [↓m164, ↓vo0, ↓rf0_0, ↓gf0_1, ↓vo1000, ↓rf1000_0, ↓rf1000_1, ↓vo2000, ↓rf2000_0, ↓rf2000_1, ↓rf2000_2, ↓rf2000_3, ↓vo5000, ↓rf5000_0, ↓rf5000_1, ↓gf5000_2, ↓vo6000, ↓rf6000_0, ↓rf6000_1, ↓gf6000_2, ↓gf6000_3, ↓gf6000_4, ↓vo9000, ↓rf9000_0, ↓rf9000_1, ↓gf9000_2, ↓rf9000_3, ↓rf9000_4, ↓vo10000, ↓rf10000_0, ↓rf10000_1, ↓rf10000_2, ↓rf10000_3, ↓rf10000_4, ↓rf10000_5, ↓rf10000_6, ↓rf10000_7, ↓rf10000_8, ↓rf10000_9, ↓rf10000_10, ↓rf10000_11, ↓rf10000_12, ↓gf10000_13, ↓gf10000_14, ↓gf10000_15, ↓gf10000_16, ↓gf10000_17, ↓vo11000, ↓gf11000_0, ↓gf11000_1, ↓rf11000_2, ↓rf11000_3, ↓rf11000_4, ↓rf11000_5, ↓rf11000_6, ↓rf11000_7, ↓rf11000_8, ↓rf11000_9, ↓rf11000_10, ↓rf11000_11, ↓rf11000_12, ↓rf11000_13, ↓rf11000_14, ↓rf11000_15, ↓rf11000_16, ↓rf11000_17, ↓gf11000_18, ↓rf11000_19, ↓rf11000_20, ↓rf11000_21, ↓rf11000_22, ↓rf11000_23, ↓rf11000_24, ↓rf11000_25, ↓rf11000_26, ↓rf11000_27, ↓rf11000_28, ↓gf11000_29, ↓gf11000_30, ↓gf11000_31, ↓gf11000_32, ↓rf11000_33, ↓gf11000_34, ↓gf11000_35, ↓gf11000_36, ↓rf11000_37, ↓rf11000_38, ↓rf11000_39, ↓rf11000_40, ↓rf11000_41, ↓gf11000_42, ↓gf11000_43, ↓gf11000_44, ↓rf11000_45, ↓rf11000_46, ↓gf11000_47, ↓gf11000_48, ↓gf11000_49, ↓gf11000_50, ↓rf11000_51, ↓rf11000_52, ↓gf11000_53, ↓rf11000_54, ↓rf11000_55, ↓rf11000_56, ↓rf11000_57, ↓rf11000_58, ↓vo4000, ↓gf4000_0, ↓gf4000_1, ↓gf4000_2, ↓gf4000_3, ↓gf4000_4, ↓gf4000_5, ↓gf4000_6, ↓gf4000_7, ↓gf4000_8, ↓rf4000_9, ↓vo4001, ↓gf4001_0, ↓gf4001_1, ↓gf4001_2, ↓gf4001_3, ↓gf4001_4, ↓gf4001_5, ↓gf4001_6, ↓gf4001_7, ↓gf4001_8, ↓rf4001_9, ↓ga20000, ↓ga20001, ↓ga20002, ↓ga20003, ↓ga20004, ↓ga20005, ↓ga20009, ↓ga20010, ↓ga20012, ↓ga20013, ↓ga20015, ↓ga20016, ↓ga20017, ↓ga20018, ↓ga20019, ↓ga20020, ↓ga20022, ↓ga20023, ↓ga20024, ↓ga20025, ↓ga20026, ↓ga20027, ↓ga20028, ↓ga20029, ↓ga20030, ↓ga20031, ↓ga20032, ↓ga20033, ↓ga20034, ↓ga20035, ↓ga20036, ↓ga20037, ↓ga20038, ↓ga20039, ↓ga20040, ↓ga20041, ↓ga20042, ↓ga20043, ↓ga20044, ↓ga20045, ↓ga20046, ↓ga20047, ↓ga20048, ↓ga20049, ↓ga20050, ↓ga20051, ↓ga20052, ↓ga20053, ↓ga20054, ↓ga20055, ↓ga20056, ↓ga20057, ↓ga20058, ↓ga20059, ↓ga20060, ↓ga20061, ↓ga20062, ↓ga20063, ↓ga20064, ↓ga20065, ↓ga20066, ↓ga20067, ↓ga20068, ↓pf0_1, ↓pf5000_2, ↓pf6000_2, ↓pf6000_3, ↓pf6000_4, ↓pf9000_2, ↓pf10000_13, ↓pf10000_14, ↓pf10000_15, ↓pf10000_16, ↓pf10000_17, ↓pf11000_0, ↓pf11000_1, ↓pf11000_18, ↓pf11000_29, ↓pf11000_30, ↓pf11000_31, ↓pf11000_32, ↓pf11000_34, ↓pf11000_35, ↓pf11000_36, ↓pf11000_42, ↓pf11000_43, ↓pf11000_44, ↓pf11000_47, ↓pf11000_48, ↓pf11000_49, ↓pf11000_50, ↓pf11000_53, ↓pf4000_0, ↓pf4000_1, ↓pf4000_2, ↓pf4000_3, ↓pf4000_4, ↓pf4000_5, ↓pf4000_6, ↓pf4000_7, ↓pf4000_8, ↓pf4001_0, ↓pf4001_1, ↓pf4001_2, ↓pf4001_3, ↓pf4001_4, ↓pf4001_5, ↓pf4001_6, ↓pf4001_7, ↓pf4001_8, ↓sa20000, ↓sa20001, ↓sa20002, ↓sa20003, ↓sa20004, ↓sa20005, ↓sa20009, ↓sa20010, ↓sa20012, ↓sa20013, ↓sa20015, ↓sa20016, ↓sa20017, ↓sa20018, ↓sa20019, ↓sa20020, ↓sa20022, ↓sa20023, ↓sa20024, ↓sa20025, ↓sa20026, ↓sa20027, ↓sa20028, ↓sa20029, ↓sa20030, ↓sa20031, ↓sa20032, ↓sa20033, ↓sa20034, ↓sa20035, ↓sa20036, ↓sa20037, ↓sa20038, ↓sa20039, ↓sa20040, ↓sa20041, ↓sa20042, ↓sa20043, ↓sa20044, ↓sa20045, ↓sa20046, ↓sa20047, ↓sa20048, ↓sa20049, ↓sa20050, ↓sa20051, ↓sa20052, ↓sa20053, ↓sa20054, ↓sa20055, ↓sa20056, ↓sa20057, ↓sa20058, ↓sa20059, ↓sa20060, ↓sa20061, ↓sa20062, ↓sa20063, ↓sa20064, ↓sa20065, ↓sa20066, ↓sa20067, ↓sa20068, ↓s93, ↓s94, ↓s95, ↓s96, ↓s97, ↓s98, ↓s99, ↓s100, ↓s101, ↓s104, ↓s105, ↓s106, ↓s125, ↓s126, ↓s127, ↓s219, ↓s220, ↓s221, ↓h128, ↓h129, ↓h130, ↓h131, ↓s132, ↓h157, ↓h194, ↓h211, ↓cI_s, ↓cV_s, ↓cR_s, ↓cR_n, ↓reduceIte, ↓bI_01, ↓ro0, ↓ro1, ↓ro2, ↓ro3, ↓rol3, up3_s, up3_c, ne_eq, Nat.reduceEqDiff, Wp_s, bI_z, not_true_eq_false, not_false_eq_true, and_self, and_true, true_and, and_false, false_and, if_true, if_false, Classical.not_not, g1])
    exact IH_i I
/-! HOME -/
def hmB (A G : Mat) (e : Ev) (l i : Nat) : Bool := decide (G 7 i 1 = nI l ∧ G 7 i 3 = 3 ∧ G 7 i 5 = brV G e l 99 (G 7 i 2).toNatClampNeg ∧ ¬ A 20003 0 (cl A G e l 99 ((G 7 i 2).toNatClampNeg + 1)) = 0)
theorem cn_t {p : Nat → Bool} {i : Nat} (h : p i = true) : nI (cn p 0 i) + 1 = nI (cn p 0 (i + 1)) := by
  rw [cn_s, if_pos h, nI_1]
theorem cn_f {p : Nat → Bool} {i : Nat} (h : p i = false) : nI (cn p 0 i) = nI (cn p 0 (i + 1)) := by
  rw [cn_s, if_neg (by rw [h]; decide), Nat.add_zero]
theorem cn_f0 {p : Nat → Bool} {i : Nat} (h : p i = false) : nI (cn p 0 i) + 0 = nI (cn p 0 (i + 1)) := by
  rw [Int32.add_zero, cn_f h]
theorem w71 (I : Inv A G e) {l : Nat} (hl : l < 2) (hw : Wy A G e l 99 200) : ∀ (r i : Nat) (o4 : Option Value), i + r = eNr e → EXn (roL L xs) p71 (CALL (roL L xs) mP mL (N + 5050) (d + 4)) (2 * (r + 1)) 31 [some (.ref 10000), some (.int (nI l)), some (.int (nI (cn (hmB A G e l) 0 i))), some (.int (nI i)), o4] [] (HH A G e) = some (some (.int (nI (cn (hmB A G e l) 0 (eNr e)))), HH A G e)
  | 0, i, o4, hi => by
    obtain ⟨z1, z2, z3⟩ := I_cnt' I
    refine EXs_le (S := [31]) (n := 0) 2 31 _ _ _ ?_
    have : i = eNr e := by omega
    subst this
    rw [l71_31, gf10000_15, z1, if_neg (nI_nlt (by omega) (by omega))]
  | r + 1, i, o4, hi => by
    obtain ⟨z1, z2, z3⟩ := I_cnt' I
    have hi2 : i < eNr e := by omega
    refine EXs_le (S := [31]) (n := 2 * (r + 1)) 2 31 _ _ _ ?_
    have ih := w71 I hl hw r (i + 1)
    have gr : ∀ (f : Nat) (K : Int32 → PR), f < 9 → gI (HH A G e) (7000 + i) 7 f K = K (G 7 i f) := fun f K hf => gI7 hi2 (by omega) hf
    obtain ⟨⟨-, -, ⟨j, hj, ej⟩, -⟩, -⟩ := I_row' I i hi2
    have cj := nI_clamp (n := j) (by omega)
    obtain ⟨hc, -⟩ := cl_r I (y := 99) (j := j + 1) hl
    rw [l71_31, gf10000_15, z1, if_pos (nI_lt hi2 (by omega)), rf10000_4, aRr (I_ref' I) z3 hi2, gr 1 _ (by decide), nI_1 i]
    by_cases c1 : G 7 i 1 = nI l
    · rw [if_pos c1, gr 3 _ (by decide)]
      by_cases c2 : G 7 i 3 = 3
      · rw [if_pos c2, gr 5 _ (by decide), rf10000_3, gr 2 _ (by decide), ej, vo9000, s46 I hl hj hw.1 hw.2.1, cI_s]
        by_cases c3 : G 7 i 5 = brV G e l 99 j
        · rw [if_pos c3, rf10000_0, rf2000_3, rf10000_3, gr 2 _ (by decide), ej, vo9000, s45 I hl hw (Nat.le_refl _) (show j + 1 ≤ 200 by omega) (nI_1 j), cI_s, ga20003, ib_n hc (by decide), nI_clamp (by omega)]
          by_cases c4 : A 20003 0 (cl A G e l 99 (j + 1)) = 0
          · rw [if_pos c4, cn_f (p := hmB A G e l) (by simp [hmB, ej, cj, c4])]
            exact ih _ (by omega)
          · rw [if_neg c4, cn_t (p := hmB A G e l) (by simp [hmB, ej, cj, c1, c2, c3, c4])]
            exact ih _ (by omega)
        · rw [if_neg c3, cn_f (p := hmB A G e l) (by simp [hmB, ej, cj, c3])]
          exact ih _ (by omega)
      · rw [if_neg c2, cn_f (p := hmB A G e l) (by simp [hmB, c2])]
        exact ih _ (by omega)
    · rw [if_neg c1, cn_f (p := hmB A G e l) (by simp [hmB, c1])]
      exact ih _ (by omega)
theorem w165 (I : Inv A G e) {l : Nat} (hl : l < 2) (hw : Wm A G e l 99) : ∀ (r i : Nat) (o4 : Option Value), i + r = eNr e → EXn (roL L xs) p165 (CALL (roL L xs) mP mL (N + 5050) (d + 4)) (7 * (r + 1)) 21 [some (.ref 11000), some (.int (nI l)), some (.int (nI (cn (hmB A G e l) 0 i))), some (.int (nI i)), o4] [] (HH A G e) = some (some (.int (nI (cn (hmB A G e l) 0 (eNr e)))), HH A G e)
  | 0, i, o4, hi => by
    obtain ⟨z1, z2, z3⟩ := I_cnt' I
    refine EXs_le (S := [21]) (n := 0) 7 21 _ _ _ ?_
    have : i = eNr e := by omega
    subst this
    rw [l165_21, gf11000_18, z2, if_neg (nI_nlt (by omega) (by omega))]
  | r + 1, i, o4, hi => by
    obtain ⟨z1, z2, z3⟩ := I_cnt' I
    have hi2 : i < eNr e := by omega
    refine EXs_le (S := [21]) (n := 7 * (r + 1)) 7 21 _ _ _ ?_
    have ih := w165 I hl hw r (i + 1)
    obtain ⟨⟨-, -, ⟨j, hj, ej⟩, -⟩, -, ak, al, ad, ay, aa, ab, -⟩ := I_row' I i hi2
    have cj := nI_clamp (n := j) (by omega)
    have ci := nI_clamp (n := i) (by omega)
    have ibi : ∀ K : PR, ib (nI i) 120 K = K := fun K => ib_n (by omega) (by decide)
    have ib2 : ∀ K : PR, ib (nI (j + 1)) 201 K = K := fun K => ib_n (by omega) (by decide)
    have cj1 := nI_clamp (n := j + 1) (by omega)
    obtain ⟨hc, ec⟩ := cl_r I (y := 99) (j := j + 1) hl
    have cc := nI_clamp (n := cl A G e l 99 (j + 1)) (by omega)
    have tn : A 20032 0 (cl A G e l 99 (j + 1)) = A 20003 0 (cl A G e l 99 (j + 1)) := ((I_ice' I _ hc).2.2.2.1).symm
    rw [l165_21, gf11000_18, z2, if_pos (nI_lt hi2 (by omega)), rf11000_19, ga20044, ibi, ci, ak, nI_1 i]
    by_cases c2 : G 7 i 3 = 3
    · rw [if_pos c2, rf11000_20, ga20045, ibi, ci, al]
      by_cases c1 : G 7 i 1 = nI l
      · rw [if_pos c1, rf11000_21, ga20046, ibi, ci, ad, ej, vo11000, s143 z3 z2 (I_row' I), cI_s, rf11000_23, ga20048, ibi, ci, aa]
        cases hmo : mo (G 7) (eNr e) (nI l) (nI j) (nI 99) with
        | none =>
          have hbr : (0 : Int32) = brV G e l 99 j := by
            unfold brV
            rw [hmo]
          rw [show mo (G 7) (eNr e) (nI l) (nI j) 99 = none from hmo, if_pos (show oI none < 0 by decide)]
          by_cases c3 : G 7 i 5 = 0
          · have c3' : G 7 i 5 = brV G e l 99 j := c3.trans hbr
            rw [if_pos c3, rf11000_6, rf11000_27, rf11000_21, ga20046, ibi, ci, ad, ej, nI_1 j, ga20052, ib2, cj1, rf11000_28, rf11000_21, ga20046, ibi, ci, ad, ej, nI_1 j, ga20053, ib2, cj1, vo11000, s132, cI_s, (hw (j + 1) (by omega)).1, (hw (j + 1) (by omega)).2, ec, ga20032, ib_n hc (by decide), cc, tn]
            by_cases c4 : A 20003 0 (cl A G e l 99 (j + 1)) = 0
            · rw [if_pos c4, cn_f0 (p := hmB A G e l) (by simp [hmB, ej, cj, c4])]
              exact ih _ (by omega)
            · rw [if_neg c4, cn_t (p := hmB A G e l) (by simp [hmB, ej, cj, c1, c2, c3', c4])]
              exact ih _ (by omega)
          · have c3' : ¬ G 7 i 5 = brV G e l 99 j := fun q => c3 (q.trans hbr.symm)
            rw [if_neg c3, cn_f0 (p := hmB A G e l) (by simp [hmB, ej, cj, c3'])]
            exact ih _ (by omega)
        | some k =>
          obtain ⟨hk, -⟩ := mo_i I hmo
          obtain ⟨-, -, -, -, -, -, -, -, qc', -⟩ := I_row' I k hk
          have hbr : G 7 k 7 = brV G e l 99 j := by
            unfold brV
            rw [hmo]
          rw [show mo (G 7) (eNr e) (nI l) (nI j) 99 = some k from hmo, if_neg (show ¬ oI (some k) < 0 from nI_pos (by omega)), show oI (some k) = nI k from rfl, rf11000_25, ga20050, ib_n (show k < 120 by omega) (by decide), nI_clamp (n := k) (by omega), qc']
          by_cases c3 : G 7 i 5 = G 7 k 7
          · have c3' : G 7 i 5 = brV G e l 99 j := c3.trans hbr
            rw [if_pos c3, rf11000_6, rf11000_27, rf11000_21, ga20046, ibi, ci, ad, ej, nI_1 j, ga20052, ib2, cj1, rf11000_28, rf11000_21, ga20046, ibi, ci, ad, ej, nI_1 j, ga20053, ib2, cj1, vo11000, s132, cI_s, (hw (j + 1) (by omega)).1, (hw (j + 1) (by omega)).2, ec, ga20032, ib_n hc (by decide), cc, tn]
            by_cases c4 : A 20003 0 (cl A G e l 99 (j + 1)) = 0
            · rw [if_pos c4, cn_f0 (p := hmB A G e l) (by simp [hmB, ej, cj, c4])]
              exact ih _ (by omega)
            · rw [if_neg c4, cn_t (p := hmB A G e l) (by simp [hmB, ej, cj, c1, c2, c3', c4])]
              exact ih _ (by omega)
          · have c3' : ¬ G 7 i 5 = brV G e l 99 j := fun q => c3 (q.trans hbr.symm)
            rw [if_neg c3, cn_f0 (p := hmB A G e l) (by simp [hmB, ej, cj, c3'])]
            exact ih _ (by omega)
      · rw [if_neg c1, cn_f (p := hmB A G e l) (by simp [hmB, c1])]
        exact ih _ (by omega)
    · rw [if_neg c2, cn_f (p := hmB A G e l) (by simp [hmB, c2])]
      exact ih _ (by omega)
theorem o_home (I : Inv A G e) (x : Int32) : Op L xs N (d + 40) 71 165 [.int x] A G e := by
  have I0 := I
  unfold Op
  by_cases g1 : (0 ≤ x ∧ x ≤ 1)
  · obtain ⟨l, hl, rfl⟩ := g_n (x := x) 2 (by decide) g1
    have z3 := (I_cnt' I).2.2
    obtain ⟨fx, fy, c1, hw⟩ := c41 (L := L) (xs := xs) (N := N) (D := d + 39) (by omega) I (y := 99) (ld := 199) hl (Nat.le_refl 200) (show (199 : Int32) + 1 = nI 200 by decide) (show (99 : Int32) = nI 99 from rfl)
    have I1 := inv_w I hl (fx := fx) (fy := fy) (v := 99)
    obtain ⟨gx, gy, c2, hv⟩ := c151 (L := L) (xs := xs) (N := N) (D := d + 39) (by omega) I1 (y := 99) hl (show (99 : Int32) = nI 99 from rfl)
    obtain ⟨E, hE⟩ : ∃ E, E = nI (cn (hmB (upr (upr A 20009 0 fx) 20010 0 fy) (up3 G 9 0 2 99) (e_W e (4000 + l)) l) 0 (eNr e)) := ⟨_, rfl⟩
    refine ⟨E, HH (upr (upr A 20009 0 fx) 20010 0 fy) (up3 G 9 0 2 99) (e_W e (4000 + l)), m71 (2 * (eNr e + 1)) (by omega) ?_, E, HH (upr (upr (upr (upr A 20009 0 fx) 20010 0 fy) 20052 0 gx) 20053 0 gy) (up3 G 9 0 2 99) (e_W e (4000 + l)), m165 (7 * (eNr e + 1)) (by omega) ?_, rfl, IH_i (inv_m I1)⟩
    · rw [x71]
      simp only [↓vo0, ↓rf0_0, ↓gf0_1, ↓vo1000, ↓rf1000_0, ↓rf1000_1, ↓vo2000, ↓rf2000_0, ↓rf2000_1, ↓rf2000_2, ↓rf2000_3, ↓vo5000, ↓rf5000_0, ↓rf5000_1, ↓gf5000_2, ↓vo6000, ↓rf6000_0, ↓rf6000_1, ↓gf6000_2, ↓gf6000_3, ↓gf6000_4, ↓vo9000, ↓rf9000_0, ↓rf9000_1, ↓gf9000_2, ↓rf9000_3, ↓rf9000_4, ↓vo10000, ↓rf10000_0, ↓rf10000_1, ↓rf10000_2, ↓rf10000_3, ↓rf10000_4, ↓rf10000_5, ↓rf10000_6, ↓rf10000_7, ↓rf10000_8, ↓rf10000_9, ↓rf10000_10, ↓rf10000_11, ↓rf10000_12, ↓gf10000_13, ↓gf10000_14, ↓gf10000_15, ↓gf10000_16, ↓gf10000_17, ↓vo11000, ↓gf11000_0, ↓gf11000_1, ↓rf11000_2, ↓rf11000_3, ↓rf11000_4, ↓rf11000_5, ↓rf11000_6, ↓rf11000_7, ↓rf11000_8, ↓rf11000_9, ↓rf11000_10, ↓rf11000_11, ↓rf11000_12, ↓rf11000_13, ↓rf11000_14, ↓rf11000_15, ↓rf11000_16, ↓rf11000_17, ↓gf11000_18, ↓rf11000_19, ↓rf11000_20, ↓rf11000_21, ↓rf11000_22, ↓rf11000_23, ↓rf11000_24, ↓rf11000_25, ↓rf11000_26, ↓rf11000_27, ↓rf11000_28, ↓gf11000_29, ↓gf11000_30, ↓gf11000_31, ↓gf11000_32, ↓rf11000_33, ↓gf11000_34, ↓gf11000_35, ↓gf11000_36, ↓rf11000_37, ↓rf11000_38, ↓rf11000_39, ↓rf11000_40, ↓rf11000_41, ↓gf11000_42, ↓gf11000_43, ↓gf11000_44, ↓rf11000_45, ↓rf11000_46, ↓gf11000_47, ↓gf11000_48, ↓gf11000_49, ↓gf11000_50, ↓rf11000_51, ↓rf11000_52, ↓gf11000_53, ↓rf11000_54, ↓rf11000_55, ↓rf11000_56, ↓rf11000_57, ↓rf11000_58, ↓vo4000, ↓gf4000_0, ↓gf4000_1, ↓gf4000_2, ↓gf4000_3, ↓gf4000_4, ↓gf4000_5, ↓gf4000_6, ↓gf4000_7, ↓gf4000_8, ↓rf4000_9, ↓vo4001, ↓gf4001_0, ↓gf4001_1, ↓gf4001_2, ↓gf4001_3, ↓gf4001_4, ↓gf4001_5, ↓gf4001_6, ↓gf4001_7, ↓gf4001_8, ↓rf4001_9, ↓ga20000, ↓ga20001, ↓ga20002, ↓ga20003, ↓ga20004, ↓ga20005, ↓ga20009, ↓ga20010, ↓ga20012, ↓ga20013, ↓ga20015, ↓ga20016, ↓ga20017, ↓ga20018, ↓ga20019, ↓ga20020, ↓ga20022, ↓ga20023, ↓ga20024, ↓ga20025, ↓ga20026, ↓ga20027, ↓ga20028, ↓ga20029, ↓ga20030, ↓ga20031, ↓ga20032, ↓ga20033, ↓ga20034, ↓ga20035, ↓ga20036, ↓ga20037, ↓ga20038, ↓ga20039, ↓ga20040, ↓ga20041, ↓ga20042, ↓ga20043, ↓ga20044, ↓ga20045, ↓ga20046, ↓ga20047, ↓ga20048, ↓ga20049, ↓ga20050, ↓ga20051, ↓ga20052, ↓ga20053, ↓ga20054, ↓ga20055, ↓ga20056, ↓ga20057, ↓ga20058, ↓ga20059, ↓ga20060, ↓ga20061, ↓ga20062, ↓ga20063, ↓ga20064, ↓ga20065, ↓ga20066, ↓ga20067, ↓ga20068, ↓pf0_1, ↓pf5000_2, ↓pf6000_2, ↓pf6000_3, ↓pf6000_4, ↓pf9000_2, ↓pf10000_13, ↓pf10000_14, ↓pf10000_15, ↓pf10000_16, ↓pf10000_17, ↓pf11000_0, ↓pf11000_1, ↓pf11000_18, ↓pf11000_29, ↓pf11000_30, ↓pf11000_31, ↓pf11000_32, ↓pf11000_34, ↓pf11000_35, ↓pf11000_36, ↓pf11000_42, ↓pf11000_43, ↓pf11000_44, ↓pf11000_47, ↓pf11000_48, ↓pf11000_49, ↓pf11000_50, ↓pf11000_53, ↓pf4000_0, ↓pf4000_1, ↓pf4000_2, ↓pf4000_3, ↓pf4000_4, ↓pf4000_5, ↓pf4000_6, ↓pf4000_7, ↓pf4000_8, ↓pf4001_0, ↓pf4001_1, ↓pf4001_2, ↓pf4001_3, ↓pf4001_4, ↓pf4001_5, ↓pf4001_6, ↓pf4001_7, ↓pf4001_8, ↓sa20000, ↓sa20001, ↓sa20002, ↓sa20003, ↓sa20004, ↓sa20005, ↓sa20009, ↓sa20010, ↓sa20012, ↓sa20013, ↓sa20015, ↓sa20016, ↓sa20017, ↓sa20018, ↓sa20019, ↓sa20020, ↓sa20022, ↓sa20023, ↓sa20024, ↓sa20025, ↓sa20026, ↓sa20027, ↓sa20028, ↓sa20029, ↓sa20030, ↓sa20031, ↓sa20032, ↓sa20033, ↓sa20034, ↓sa20035, ↓sa20036, ↓sa20037, ↓sa20038, ↓sa20039, ↓sa20040, ↓sa20041, ↓sa20042, ↓sa20043, ↓sa20044, ↓sa20045, ↓sa20046, ↓sa20047, ↓sa20048, ↓sa20049, ↓sa20050, ↓sa20051, ↓sa20052, ↓sa20053, ↓sa20054, ↓sa20055, ↓sa20056, ↓sa20057, ↓sa20058, ↓sa20059, ↓sa20060, ↓sa20061, ↓sa20062, ↓sa20063, ↓sa20064, ↓sa20065, ↓sa20066, ↓sa20067, ↓sa20068, ↓s93, ↓s94, ↓s95, ↓s96, ↓s97, ↓s98, ↓s99, ↓s100, ↓s101, ↓s104, ↓s105, ↓s106, ↓s125, ↓s126, ↓s127, ↓s219, ↓s220, ↓s221, ↓h128, ↓h129, ↓h130, ↓h131, ↓s132, ↓h157, ↓h194, ↓h211, ↓cI_s, ↓cV_s, ↓cR_s, ↓cR_n, ↓reduceIte, ↓bI_01, ↓ro0, ↓ro1, ↓ro2, ↓ro3, ↓rol3, up3_s, up3_c, ne_eq, Nat.reduceEqDiff, Wp_s, bI_z, not_true_eq_false, not_false_eq_true, and_self, and_true, true_and, and_false, false_and, if_true, if_false, Classical.not_not, g1, aRl (I_ref' I) hl, c1]
      rw [hE]
      exact w71 (d := d + 35) I1 hl hw (eNr e) 0 _ (Nat.zero_add _)
    · rw [x165]
      simp only [↓vo0, ↓rf0_0, ↓gf0_1, ↓vo1000, ↓rf1000_0, ↓rf1000_1, ↓vo2000, ↓rf2000_0, ↓rf2000_1, ↓rf2000_2, ↓rf2000_3, ↓vo5000, ↓rf5000_0, ↓rf5000_1, ↓gf5000_2, ↓vo6000, ↓rf6000_0, ↓rf6000_1, ↓gf6000_2, ↓gf6000_3, ↓gf6000_4, ↓vo9000, ↓rf9000_0, ↓rf9000_1, ↓gf9000_2, ↓rf9000_3, ↓rf9000_4, ↓vo10000, ↓rf10000_0, ↓rf10000_1, ↓rf10000_2, ↓rf10000_3, ↓rf10000_4, ↓rf10000_5, ↓rf10000_6, ↓rf10000_7, ↓rf10000_8, ↓rf10000_9, ↓rf10000_10, ↓rf10000_11, ↓rf10000_12, ↓gf10000_13, ↓gf10000_14, ↓gf10000_15, ↓gf10000_16, ↓gf10000_17, ↓vo11000, ↓gf11000_0, ↓gf11000_1, ↓rf11000_2, ↓rf11000_3, ↓rf11000_4, ↓rf11000_5, ↓rf11000_6, ↓rf11000_7, ↓rf11000_8, ↓rf11000_9, ↓rf11000_10, ↓rf11000_11, ↓rf11000_12, ↓rf11000_13, ↓rf11000_14, ↓rf11000_15, ↓rf11000_16, ↓rf11000_17, ↓gf11000_18, ↓rf11000_19, ↓rf11000_20, ↓rf11000_21, ↓rf11000_22, ↓rf11000_23, ↓rf11000_24, ↓rf11000_25, ↓rf11000_26, ↓rf11000_27, ↓rf11000_28, ↓gf11000_29, ↓gf11000_30, ↓gf11000_31, ↓gf11000_32, ↓rf11000_33, ↓gf11000_34, ↓gf11000_35, ↓gf11000_36, ↓rf11000_37, ↓rf11000_38, ↓rf11000_39, ↓rf11000_40, ↓rf11000_41, ↓gf11000_42, ↓gf11000_43, ↓gf11000_44, ↓rf11000_45, ↓rf11000_46, ↓gf11000_47, ↓gf11000_48, ↓gf11000_49, ↓gf11000_50, ↓rf11000_51, ↓rf11000_52, ↓gf11000_53, ↓rf11000_54, ↓rf11000_55, ↓rf11000_56, ↓rf11000_57, ↓rf11000_58, ↓vo4000, ↓gf4000_0, ↓gf4000_1, ↓gf4000_2, ↓gf4000_3, ↓gf4000_4, ↓gf4000_5, ↓gf4000_6, ↓gf4000_7, ↓gf4000_8, ↓rf4000_9, ↓vo4001, ↓gf4001_0, ↓gf4001_1, ↓gf4001_2, ↓gf4001_3, ↓gf4001_4, ↓gf4001_5, ↓gf4001_6, ↓gf4001_7, ↓gf4001_8, ↓rf4001_9, ↓ga20000, ↓ga20001, ↓ga20002, ↓ga20003, ↓ga20004, ↓ga20005, ↓ga20009, ↓ga20010, ↓ga20012, ↓ga20013, ↓ga20015, ↓ga20016, ↓ga20017, ↓ga20018, ↓ga20019, ↓ga20020, ↓ga20022, ↓ga20023, ↓ga20024, ↓ga20025, ↓ga20026, ↓ga20027, ↓ga20028, ↓ga20029, ↓ga20030, ↓ga20031, ↓ga20032, ↓ga20033, ↓ga20034, ↓ga20035, ↓ga20036, ↓ga20037, ↓ga20038, ↓ga20039, ↓ga20040, ↓ga20041, ↓ga20042, ↓ga20043, ↓ga20044, ↓ga20045, ↓ga20046, ↓ga20047, ↓ga20048, ↓ga20049, ↓ga20050, ↓ga20051, ↓ga20052, ↓ga20053, ↓ga20054, ↓ga20055, ↓ga20056, ↓ga20057, ↓ga20058, ↓ga20059, ↓ga20060, ↓ga20061, ↓ga20062, ↓ga20063, ↓ga20064, ↓ga20065, ↓ga20066, ↓ga20067, ↓ga20068, ↓pf0_1, ↓pf5000_2, ↓pf6000_2, ↓pf6000_3, ↓pf6000_4, ↓pf9000_2, ↓pf10000_13, ↓pf10000_14, ↓pf10000_15, ↓pf10000_16, ↓pf10000_17, ↓pf11000_0, ↓pf11000_1, ↓pf11000_18, ↓pf11000_29, ↓pf11000_30, ↓pf11000_31, ↓pf11000_32, ↓pf11000_34, ↓pf11000_35, ↓pf11000_36, ↓pf11000_42, ↓pf11000_43, ↓pf11000_44, ↓pf11000_47, ↓pf11000_48, ↓pf11000_49, ↓pf11000_50, ↓pf11000_53, ↓pf4000_0, ↓pf4000_1, ↓pf4000_2, ↓pf4000_3, ↓pf4000_4, ↓pf4000_5, ↓pf4000_6, ↓pf4000_7, ↓pf4000_8, ↓pf4001_0, ↓pf4001_1, ↓pf4001_2, ↓pf4001_3, ↓pf4001_4, ↓pf4001_5, ↓pf4001_6, ↓pf4001_7, ↓pf4001_8, ↓sa20000, ↓sa20001, ↓sa20002, ↓sa20003, ↓sa20004, ↓sa20005, ↓sa20009, ↓sa20010, ↓sa20012, ↓sa20013, ↓sa20015, ↓sa20016, ↓sa20017, ↓sa20018, ↓sa20019, ↓sa20020, ↓sa20022, ↓sa20023, ↓sa20024, ↓sa20025, ↓sa20026, ↓sa20027, ↓sa20028, ↓sa20029, ↓sa20030, ↓sa20031, ↓sa20032, ↓sa20033, ↓sa20034, ↓sa20035, ↓sa20036, ↓sa20037, ↓sa20038, ↓sa20039, ↓sa20040, ↓sa20041, ↓sa20042, ↓sa20043, ↓sa20044, ↓sa20045, ↓sa20046, ↓sa20047, ↓sa20048, ↓sa20049, ↓sa20050, ↓sa20051, ↓sa20052, ↓sa20053, ↓sa20054, ↓sa20055, ↓sa20056, ↓sa20057, ↓sa20058, ↓sa20059, ↓sa20060, ↓sa20061, ↓sa20062, ↓sa20063, ↓sa20064, ↓sa20065, ↓sa20066, ↓sa20067, ↓sa20068, ↓s93, ↓s94, ↓s95, ↓s96, ↓s97, ↓s98, ↓s99, ↓s100, ↓s101, ↓s104, ↓s105, ↓s106, ↓s125, ↓s126, ↓s127, ↓s219, ↓s220, ↓s221, ↓h128, ↓h129, ↓h130, ↓h131, ↓s132, ↓h157, ↓h194, ↓h211, ↓cI_s, ↓cV_s, ↓cR_s, ↓cR_n, ↓reduceIte, ↓bI_01, ↓ro0, ↓ro1, ↓ro2, ↓ro3, ↓rol3, up3_s, up3_c, ne_eq, Nat.reduceEqDiff, Wp_s, bI_z, not_true_eq_false, not_false_eq_true, and_self, and_true, true_and, and_false, false_and, if_true, if_false, Classical.not_not, g1, c2]
      have hx : hmB (upr (upr (upr (upr A 20009 0 fx) 20010 0 fy) 20052 0 gx) 20053 0 gy) (up3 G 9 0 2 99) (e_W e (4000 + l)) l = hmB (upr (upr A 20009 0 fx) 20010 0 fy) (up3 G 9 0 2 99) (e_W e (4000 + l)) l := rfl
      rw [hE, ← hx]
      exact w165 (d := d + 35) (inv_m I1) hl hv (eNr e) 0 _ (Nat.zero_add _)
  · refine ⟨-1, HH A G e, m71 0 (by omega) ?_, -1, HH A G e, m165 0 (by omega) ?_, rfl, IH_i I0⟩
    · rw [x71]
      simp only [↓vo0, ↓rf0_0, ↓gf0_1, ↓vo1000, ↓rf1000_0, ↓rf1000_1, ↓vo2000, ↓rf2000_0, ↓rf2000_1, ↓rf2000_2, ↓rf2000_3, ↓vo5000, ↓rf5000_0, ↓rf5000_1, ↓gf5000_2, ↓vo6000, ↓rf6000_0, ↓rf6000_1, ↓gf6000_2, ↓gf6000_3, ↓gf6000_4, ↓vo9000, ↓rf9000_0, ↓rf9000_1, ↓gf9000_2, ↓rf9000_3, ↓rf9000_4, ↓vo10000, ↓rf10000_0, ↓rf10000_1, ↓rf10000_2, ↓rf10000_3, ↓rf10000_4, ↓rf10000_5, ↓rf10000_6, ↓rf10000_7, ↓rf10000_8, ↓rf10000_9, ↓rf10000_10, ↓rf10000_11, ↓rf10000_12, ↓gf10000_13, ↓gf10000_14, ↓gf10000_15, ↓gf10000_16, ↓gf10000_17, ↓vo11000, ↓gf11000_0, ↓gf11000_1, ↓rf11000_2, ↓rf11000_3, ↓rf11000_4, ↓rf11000_5, ↓rf11000_6, ↓rf11000_7, ↓rf11000_8, ↓rf11000_9, ↓rf11000_10, ↓rf11000_11, ↓rf11000_12, ↓rf11000_13, ↓rf11000_14, ↓rf11000_15, ↓rf11000_16, ↓rf11000_17, ↓gf11000_18, ↓rf11000_19, ↓rf11000_20, ↓rf11000_21, ↓rf11000_22, ↓rf11000_23, ↓rf11000_24, ↓rf11000_25, ↓rf11000_26, ↓rf11000_27, ↓rf11000_28, ↓gf11000_29, ↓gf11000_30, ↓gf11000_31, ↓gf11000_32, ↓rf11000_33, ↓gf11000_34, ↓gf11000_35, ↓gf11000_36, ↓rf11000_37, ↓rf11000_38, ↓rf11000_39, ↓rf11000_40, ↓rf11000_41, ↓gf11000_42, ↓gf11000_43, ↓gf11000_44, ↓rf11000_45, ↓rf11000_46, ↓gf11000_47, ↓gf11000_48, ↓gf11000_49, ↓gf11000_50, ↓rf11000_51, ↓rf11000_52, ↓gf11000_53, ↓rf11000_54, ↓rf11000_55, ↓rf11000_56, ↓rf11000_57, ↓rf11000_58, ↓vo4000, ↓gf4000_0, ↓gf4000_1, ↓gf4000_2, ↓gf4000_3, ↓gf4000_4, ↓gf4000_5, ↓gf4000_6, ↓gf4000_7, ↓gf4000_8, ↓rf4000_9, ↓vo4001, ↓gf4001_0, ↓gf4001_1, ↓gf4001_2, ↓gf4001_3, ↓gf4001_4, ↓gf4001_5, ↓gf4001_6, ↓gf4001_7, ↓gf4001_8, ↓rf4001_9, ↓ga20000, ↓ga20001, ↓ga20002, ↓ga20003, ↓ga20004, ↓ga20005, ↓ga20009, ↓ga20010, ↓ga20012, ↓ga20013, ↓ga20015, ↓ga20016, ↓ga20017, ↓ga20018, ↓ga20019, ↓ga20020, ↓ga20022, ↓ga20023, ↓ga20024, ↓ga20025, ↓ga20026, ↓ga20027, ↓ga20028, ↓ga20029, ↓ga20030, ↓ga20031, ↓ga20032, ↓ga20033, ↓ga20034, ↓ga20035, ↓ga20036, ↓ga20037, ↓ga20038, ↓ga20039, ↓ga20040, ↓ga20041, ↓ga20042, ↓ga20043, ↓ga20044, ↓ga20045, ↓ga20046, ↓ga20047, ↓ga20048, ↓ga20049, ↓ga20050, ↓ga20051, ↓ga20052, ↓ga20053, ↓ga20054, ↓ga20055, ↓ga20056, ↓ga20057, ↓ga20058, ↓ga20059, ↓ga20060, ↓ga20061, ↓ga20062, ↓ga20063, ↓ga20064, ↓ga20065, ↓ga20066, ↓ga20067, ↓ga20068, ↓pf0_1, ↓pf5000_2, ↓pf6000_2, ↓pf6000_3, ↓pf6000_4, ↓pf9000_2, ↓pf10000_13, ↓pf10000_14, ↓pf10000_15, ↓pf10000_16, ↓pf10000_17, ↓pf11000_0, ↓pf11000_1, ↓pf11000_18, ↓pf11000_29, ↓pf11000_30, ↓pf11000_31, ↓pf11000_32, ↓pf11000_34, ↓pf11000_35, ↓pf11000_36, ↓pf11000_42, ↓pf11000_43, ↓pf11000_44, ↓pf11000_47, ↓pf11000_48, ↓pf11000_49, ↓pf11000_50, ↓pf11000_53, ↓pf4000_0, ↓pf4000_1, ↓pf4000_2, ↓pf4000_3, ↓pf4000_4, ↓pf4000_5, ↓pf4000_6, ↓pf4000_7, ↓pf4000_8, ↓pf4001_0, ↓pf4001_1, ↓pf4001_2, ↓pf4001_3, ↓pf4001_4, ↓pf4001_5, ↓pf4001_6, ↓pf4001_7, ↓pf4001_8, ↓sa20000, ↓sa20001, ↓sa20002, ↓sa20003, ↓sa20004, ↓sa20005, ↓sa20009, ↓sa20010, ↓sa20012, ↓sa20013, ↓sa20015, ↓sa20016, ↓sa20017, ↓sa20018, ↓sa20019, ↓sa20020, ↓sa20022, ↓sa20023, ↓sa20024, ↓sa20025, ↓sa20026, ↓sa20027, ↓sa20028, ↓sa20029, ↓sa20030, ↓sa20031, ↓sa20032, ↓sa20033, ↓sa20034, ↓sa20035, ↓sa20036, ↓sa20037, ↓sa20038, ↓sa20039, ↓sa20040, ↓sa20041, ↓sa20042, ↓sa20043, ↓sa20044, ↓sa20045, ↓sa20046, ↓sa20047, ↓sa20048, ↓sa20049, ↓sa20050, ↓sa20051, ↓sa20052, ↓sa20053, ↓sa20054, ↓sa20055, ↓sa20056, ↓sa20057, ↓sa20058, ↓sa20059, ↓sa20060, ↓sa20061, ↓sa20062, ↓sa20063, ↓sa20064, ↓sa20065, ↓sa20066, ↓sa20067, ↓sa20068, ↓s93, ↓s94, ↓s95, ↓s96, ↓s97, ↓s98, ↓s99, ↓s100, ↓s101, ↓s104, ↓s105, ↓s106, ↓s125, ↓s126, ↓s127, ↓s219, ↓s220, ↓s221, ↓h128, ↓h129, ↓h130, ↓h131, ↓s132, ↓h157, ↓h194, ↓h211, ↓cI_s, ↓cV_s, ↓cR_s, ↓cR_n, ↓reduceIte, ↓bI_01, ↓ro0, ↓ro1, ↓ro2, ↓ro3, ↓rol3, up3_s, up3_c, ne_eq, Nat.reduceEqDiff, Wp_s, bI_z, not_true_eq_false, not_false_eq_true, and_self, and_true, true_and, and_false, false_and, if_true, if_false, Classical.not_not, g1]
    · rw [x165]
      simp only [↓vo0, ↓rf0_0, ↓gf0_1, ↓vo1000, ↓rf1000_0, ↓rf1000_1, ↓vo2000, ↓rf2000_0, ↓rf2000_1, ↓rf2000_2, ↓rf2000_3, ↓vo5000, ↓rf5000_0, ↓rf5000_1, ↓gf5000_2, ↓vo6000, ↓rf6000_0, ↓rf6000_1, ↓gf6000_2, ↓gf6000_3, ↓gf6000_4, ↓vo9000, ↓rf9000_0, ↓rf9000_1, ↓gf9000_2, ↓rf9000_3, ↓rf9000_4, ↓vo10000, ↓rf10000_0, ↓rf10000_1, ↓rf10000_2, ↓rf10000_3, ↓rf10000_4, ↓rf10000_5, ↓rf10000_6, ↓rf10000_7, ↓rf10000_8, ↓rf10000_9, ↓rf10000_10, ↓rf10000_11, ↓rf10000_12, ↓gf10000_13, ↓gf10000_14, ↓gf10000_15, ↓gf10000_16, ↓gf10000_17, ↓vo11000, ↓gf11000_0, ↓gf11000_1, ↓rf11000_2, ↓rf11000_3, ↓rf11000_4, ↓rf11000_5, ↓rf11000_6, ↓rf11000_7, ↓rf11000_8, ↓rf11000_9, ↓rf11000_10, ↓rf11000_11, ↓rf11000_12, ↓rf11000_13, ↓rf11000_14, ↓rf11000_15, ↓rf11000_16, ↓rf11000_17, ↓gf11000_18, ↓rf11000_19, ↓rf11000_20, ↓rf11000_21, ↓rf11000_22, ↓rf11000_23, ↓rf11000_24, ↓rf11000_25, ↓rf11000_26, ↓rf11000_27, ↓rf11000_28, ↓gf11000_29, ↓gf11000_30, ↓gf11000_31, ↓gf11000_32, ↓rf11000_33, ↓gf11000_34, ↓gf11000_35, ↓gf11000_36, ↓rf11000_37, ↓rf11000_38, ↓rf11000_39, ↓rf11000_40, ↓rf11000_41, ↓gf11000_42, ↓gf11000_43, ↓gf11000_44, ↓rf11000_45, ↓rf11000_46, ↓gf11000_47, ↓gf11000_48, ↓gf11000_49, ↓gf11000_50, ↓rf11000_51, ↓rf11000_52, ↓gf11000_53, ↓rf11000_54, ↓rf11000_55, ↓rf11000_56, ↓rf11000_57, ↓rf11000_58, ↓vo4000, ↓gf4000_0, ↓gf4000_1, ↓gf4000_2, ↓gf4000_3, ↓gf4000_4, ↓gf4000_5, ↓gf4000_6, ↓gf4000_7, ↓gf4000_8, ↓rf4000_9, ↓vo4001, ↓gf4001_0, ↓gf4001_1, ↓gf4001_2, ↓gf4001_3, ↓gf4001_4, ↓gf4001_5, ↓gf4001_6, ↓gf4001_7, ↓gf4001_8, ↓rf4001_9, ↓ga20000, ↓ga20001, ↓ga20002, ↓ga20003, ↓ga20004, ↓ga20005, ↓ga20009, ↓ga20010, ↓ga20012, ↓ga20013, ↓ga20015, ↓ga20016, ↓ga20017, ↓ga20018, ↓ga20019, ↓ga20020, ↓ga20022, ↓ga20023, ↓ga20024, ↓ga20025, ↓ga20026, ↓ga20027, ↓ga20028, ↓ga20029, ↓ga20030, ↓ga20031, ↓ga20032, ↓ga20033, ↓ga20034, ↓ga20035, ↓ga20036, ↓ga20037, ↓ga20038, ↓ga20039, ↓ga20040, ↓ga20041, ↓ga20042, ↓ga20043, ↓ga20044, ↓ga20045, ↓ga20046, ↓ga20047, ↓ga20048, ↓ga20049, ↓ga20050, ↓ga20051, ↓ga20052, ↓ga20053, ↓ga20054, ↓ga20055, ↓ga20056, ↓ga20057, ↓ga20058, ↓ga20059, ↓ga20060, ↓ga20061, ↓ga20062, ↓ga20063, ↓ga20064, ↓ga20065, ↓ga20066, ↓ga20067, ↓ga20068, ↓pf0_1, ↓pf5000_2, ↓pf6000_2, ↓pf6000_3, ↓pf6000_4, ↓pf9000_2, ↓pf10000_13, ↓pf10000_14, ↓pf10000_15, ↓pf10000_16, ↓pf10000_17, ↓pf11000_0, ↓pf11000_1, ↓pf11000_18, ↓pf11000_29, ↓pf11000_30, ↓pf11000_31, ↓pf11000_32, ↓pf11000_34, ↓pf11000_35, ↓pf11000_36, ↓pf11000_42, ↓pf11000_43, ↓pf11000_44, ↓pf11000_47, ↓pf11000_48, ↓pf11000_49, ↓pf11000_50, ↓pf11000_53, ↓pf4000_0, ↓pf4000_1, ↓pf4000_2, ↓pf4000_3, ↓pf4000_4, ↓pf4000_5, ↓pf4000_6, ↓pf4000_7, ↓pf4000_8, ↓pf4001_0, ↓pf4001_1, ↓pf4001_2, ↓pf4001_3, ↓pf4001_4, ↓pf4001_5, ↓pf4001_6, ↓pf4001_7, ↓pf4001_8, ↓sa20000, ↓sa20001, ↓sa20002, ↓sa20003, ↓sa20004, ↓sa20005, ↓sa20009, ↓sa20010, ↓sa20012, ↓sa20013, ↓sa20015, ↓sa20016, ↓sa20017, ↓sa20018, ↓sa20019, ↓sa20020, ↓sa20022, ↓sa20023, ↓sa20024, ↓sa20025, ↓sa20026, ↓sa20027, ↓sa20028, ↓sa20029, ↓sa20030, ↓sa20031, ↓sa20032, ↓sa20033, ↓sa20034, ↓sa20035, ↓sa20036, ↓sa20037, ↓sa20038, ↓sa20039, ↓sa20040, ↓sa20041, ↓sa20042, ↓sa20043, ↓sa20044, ↓sa20045, ↓sa20046, ↓sa20047, ↓sa20048, ↓sa20049, ↓sa20050, ↓sa20051, ↓sa20052, ↓sa20053, ↓sa20054, ↓sa20055, ↓sa20056, ↓sa20057, ↓sa20058, ↓sa20059, ↓sa20060, ↓sa20061, ↓sa20062, ↓sa20063, ↓sa20064, ↓sa20065, ↓sa20066, ↓sa20067, ↓sa20068, ↓s93, ↓s94, ↓s95, ↓s96, ↓s97, ↓s98, ↓s99, ↓s100, ↓s101, ↓s104, ↓s105, ↓s106, ↓s125, ↓s126, ↓s127, ↓s219, ↓s220, ↓s221, ↓h128, ↓h129, ↓h130, ↓h131, ↓s132, ↓h157, ↓h194, ↓h211, ↓cI_s, ↓cV_s, ↓cR_s, ↓cR_n, ↓reduceIte, ↓bI_01, ↓ro0, ↓ro1, ↓ro2, ↓ro3, ↓rol3, up3_s, up3_c, ne_eq, Nat.reduceEqDiff, Wp_s, bI_z, not_true_eq_false, not_false_eq_true, and_self, and_true, true_and, and_false, false_and, if_true, if_false, Classical.not_not, g1]
end QUAR
