/-! SAYS -/
section SAYS
variable {A G : Mat} {e : Ev} {L : Nat} {xs : Nat → Int32} {N d : Nat}
theorem ft_j {i j : Nat} {l y : Nat} (ej : G 7 i 2 = nI j) (hj : j < 200) : ftS A G e l y i = ft A G e l y i j (stP A G e l y 0 0 j).1 (stP A G e l y 0 0 j).2 := by
  unfold ftS
  rw [ej, nI_clamp (by omega)]
/-- the reference's fitting of one kind -/
theorem w187 (I : Inv A G e) {l y q : Nat} {kv : Int32} (hl : l < 2) (hw : Wm A G e l y) (h8 : ¬ G 4 l 8 < 0) (hq : q < 4) (hk : (kv = 2 ∧ q = 0) ∨ (kv ≠ 2 ∧ ∀ i, i < eNr e → (G 7 i 3 = kv ↔ lt2 (G 7 i 3) = q))) : ∀ (r i : Nat) (a b : Int32), i + r = eNr e → ∃ a' b', EXn (roL L xs) p187 (CALL (roL L xs) mP mL (N + 5050) (d + 7)) (6 * (r + 1)) 6 [some (.ref 11000), some (.int (nI l)), some (.int kv), some (.int (nI y)), some (.int (nI (cn (kcB A G e l y q) 0 i))), some (.int (nI i))] [] (HH A (S2 G a b) e) = some (some (.int (nI (cn (kcB A G e l y q) 0 (eNr e)))), HH A (S2 G a' b') e)
  | 0, i, a, b, hi => by
    obtain ⟨z1, z2, z3⟩ := I_cnt' I
    refine ⟨a, b, EXs_le (S := [6]) (n := 0) 6 6 _ _ _ ?_⟩
    have : i = eNr e := by omega
    subst this
    rw [l187_6, gf11000_18, show S2 G a b 11 0 18 = nI (eNr e) from z2, if_neg (nI_nlt (by omega) (by omega))]
  | r + 1, i, a, b, hi => by
    obtain ⟨z1, z2, z3⟩ := I_cnt' I
    have hi2 : i < eNr e := by omega
    have ih := w187 I hl hw h8 hq hk r (i + 1)
    obtain ⟨⟨-, -, ⟨j, hj, ej⟩, -⟩, -, ak, al, ad, ay, -⟩ := I_row' I i hi2
    have cj := nI_clamp (n := j) (by omega)
    have ci := nI_clamp (n := i) (by omega)
    have ibi : ∀ K : PR, ib (nI i) 120 K = K := fun K => ib_n (by omega) (by decide)
    have q4 : ¬ q = 4 := by omega
    by_cases c1 : G 7 i 1 = nI l
    · by_cases c2 : nI y < G 7 i 4
      · have c3 : ¬ G 7 i 4 ≤ nI y := Int32.not_le.mpr c2
        have hof : ofB G l y i = false := decide_eq_false (fun q => c3 q.2)
        obtain ⟨a', b', h⟩ := ih a b (by omega)
        refine ⟨a', b', EXs_le (S := [6]) (n := 6 * (r + 1)) 6 6 _ _ _ ?_⟩
        rw [l187_6, gf11000_18, show S2 G a b 11 0 18 = nI (eNr e) from z2, if_pos (nI_lt hi2 (by omega)), rf11000_20, ga20045, ibi, ci, al, if_pos c1, rf11000_22, ga20047, ibi, ci, ay, if_pos c2, nI_1 i, cn_f (p := kcB A G e l y q) (by unfold kcB; rw [hof]; rfl)]
        exact h
      · have c3 : G 7 i 4 ≤ nI y := Int32.not_lt.mp c2
        have hof : ofB G l y i = true := decide_eq_true ⟨c1, c3⟩
        have I1 := inv_s I (a := a) (b := b)
        have I2 := inv_s I (a := (stP A G e l y 0 0 j).1) (b := (stP A G e l y 0 0 j).2)
        have q1 : ∀ D, CALL (roL L xs) mP mL (N + 5050) (D + 2) 170 [.ref 11000, .int (nI l), .int 0, .int 0, .int (nI j)] (HH A (S2 G a b) e) = some (none, HH A (S2 G (stP A G e l y 0 0 j).1 (stP A G e l y 0 0 j).2) e) := fun D => by
          have s := s170 (L := L) (xs := xs) (N := N) (d := D) I1 (s := 0) (n := 0) hl (show Wm A (S2 G a b) e l y from hw) (by decide) (fun _ => h8) hj
          rw [S2_S2] at s
          exact s
        have q2 : ∀ D, CALL (roL L xs) mP mL (N + 5050) (D + 6) 161 [.ref 11000, .int (nI i), .int (stP A G e l y 0 0 j).1, .int (stP A G e l y 0 0 j).2, .int (nI y)] (HH A (S2 G (stP A G e l y 0 0 j).1 (stP A G e l y 0 0 j).2) e) = some (some (.int (bB (ftS A G e l y i))), HH A (S2 G (stP A G e l y 0 0 j).1 (stP A G e l y 0 0 j).2) e) := fun D => by
          rw [ft_j ej hj]
          exact s161 I2 hl (show Wm A (S2 G (stP A G e l y 0 0 j).1 (stP A G e l y 0 0 j).2) e l y from hw) hi2 c1 ej hj c3 (stP_p I hl (by decide) (fun _ => h8))
        have fin : ∀ m : lt2 (G 7 i 3) = q, ∃ a' b', (if bB (ftS A G e l y i) = 0 then EXn (roL L xs) p187 (CALL (roL L xs) mP mL (N + 5050) (d + 7)) (6 * (r + 1)) 6 [some (.ref 11000), some (.int (nI l)), some (.int kv), some (.int (nI y)), some (.int (nI (cn (kcB A G e l y q) 0 i) + 0)), some (.int (nI (i + 1)))] [] (HH A (S2 G (stP A G e l y 0 0 j).1 (stP A G e l y 0 0 j).2) e) else EXn (roL L xs) p187 (CALL (roL L xs) mP mL (N + 5050) (d + 7)) (6 * (r + 1)) 6 [some (.ref 11000), some (.int (nI l)), some (.int kv), some (.int (nI y)), some (.int (nI (cn (kcB A G e l y q) 0 i) + 1)), some (.int (nI (i + 1)))] [] (HH A (S2 G (stP A G e l y 0 0 j).1 (stP A G e l y 0 0 j).2) e)) = some (some (.int (nI (cn (kcB A G e l y q) 0 (eNr e)))), HH A (S2 G a' b') e) := fun m => by
          obtain ⟨a', b', h⟩ := ih (stP A G e l y 0 0 j).1 (stP A G e l y 0 0 j).2 (by omega)
          refine ⟨a', b', ?_⟩
          cases hf : ftS A G e l y i with
          | false =>
            rw [if_pos (by decide), cn_f0 (p := kcB A G e l y q) (by unfold kcB; rw [if_neg q4, hf]; simp)]
            exact h
          | true =>
            rw [if_neg (by decide), cn_t (p := kcB A G e l y q) (by unfold kcB; rw [if_neg q4, hf, hof, m]; simp)]
            exact h
        have skp : ∀ m : ¬ lt2 (G 7 i 3) = q, ∃ a' b', EXn (roL L xs) p187 (CALL (roL L xs) mP mL (N + 5050) (d + 7)) (6 * (r + 1)) 6 [some (.ref 11000), some (.int (nI l)), some (.int kv), some (.int (nI y)), some (.int (nI (cn (kcB A G e l y q) 0 i))), some (.int (nI (i + 1)))] [] (HH A (S2 G a b) e) = some (some (.int (nI (cn (kcB A G e l y q) 0 (eNr e)))), HH A (S2 G a' b') e) := fun m => by
          obtain ⟨a', b', h⟩ := ih a b (by omega)
          refine ⟨a', b', ?_⟩
          rw [cn_f (p := kcB A G e l y q) (by unfold kcB; rw [decide_eq_false m]; simp)]
          exact h
        have k159 : ∀ D, CALL (roL L xs) mP mL (N + 5050) (D + 1) 159 [.ref 11000, .int (nI i)] (HH A (S2 G a b) e) = some (some (.int (bB (decide (G 7 i 3 = 2 ∨ G 7 i 3 = 6)))), HH A (S2 G a b) e) := fun D => s159 I1 hi2
        rcases hk with ⟨k1, k2⟩ | ⟨k1, k2⟩
        · have hh : (G 7 i 3 = 2 ∨ G 7 i 3 = 6) ↔ lt2 (G 7 i 3) = q := by
            rw [k2]
            rcases rk I hi2 with h | h | h | h | h | h <;> rw [h] <;> decide
          by_cases m : lt2 (G 7 i 3) = q
          · obtain ⟨a', b', h⟩ := fin m
            refine ⟨a', b', EXs_le (S := [6]) (n := 6 * (r + 1)) 6 6 _ _ _ ?_⟩
            rw [l187_6, gf11000_18, show S2 G a b 11 0 18 = nI (eNr e) from z2, if_pos (nI_lt hi2 (by omega)), rf11000_20, ga20045, ibi, ci, al, if_pos c1, rf11000_22, ga20047, ibi, ci, ay, if_neg c2, if_pos k1, vo11000, k159, cI_s, decide_eq_true (hh.mpr m), if_neg (by decide), rf11000_21, ga20046, ibi, ci, ad, ej, vo11000, q1, cV_s, gf11000_31, gf11000_32, show S2 G (stP A G e l y 0 0 j).1 (stP A G e l y 0 0 j).2 11 0 31 = (stP A G e l y 0 0 j).1 from rfl, show S2 G (stP A G e l y 0 0 j).1 (stP A G e l y 0 0 j).2 11 0 32 = (stP A G e l y 0 0 j).2 from rfl, vo11000, q2, cI_s, nI_1 i]
            exact h
          · obtain ⟨a', b', h⟩ := skp m
            refine ⟨a', b', EXs_le (S := [6]) (n := 6 * (r + 1)) 6 6 _ _ _ ?_⟩
            rw [l187_6, gf11000_18, show S2 G a b 11 0 18 = nI (eNr e) from z2, if_pos (nI_lt hi2 (by omega)), rf11000_20, ga20045, ibi, ci, al, if_pos c1, rf11000_22, ga20047, ibi, ci, ay, if_neg c2, if_pos k1, vo11000, k159, cI_s, decide_eq_false (fun q => m (hh.mp q)), if_pos (by decide), nI_1 i]
            exact h
        · have hh := k2 i hi2
          by_cases m : lt2 (G 7 i 3) = q
          · obtain ⟨a', b', h⟩ := fin m
            refine ⟨a', b', EXs_le (S := [6]) (n := 6 * (r + 1)) 6 6 _ _ _ ?_⟩
            rw [l187_6, gf11000_18, show S2 G a b 11 0 18 = nI (eNr e) from z2, if_pos (nI_lt hi2 (by omega)), rf11000_20, ga20045, ibi, ci, al, if_pos c1, rf11000_22, ga20047, ibi, ci, ay, if_neg c2, if_neg k1, rf11000_19, ga20044, ibi, ci, ak, if_pos (hh.mpr m), rf11000_21, ga20046, ibi, ci, ad, ej, vo11000, q1, cV_s, gf11000_31, gf11000_32, show S2 G (stP A G e l y 0 0 j).1 (stP A G e l y 0 0 j).2 11 0 31 = (stP A G e l y 0 0 j).1 from rfl, show S2 G (stP A G e l y 0 0 j).1 (stP A G e l y 0 0 j).2 11 0 32 = (stP A G e l y 0 0 j).2 from rfl, vo11000, q2, cI_s, nI_1 i]
            exact h
          · obtain ⟨a', b', h⟩ := skp m
            refine ⟨a', b', EXs_le (S := [6]) (n := 6 * (r + 1)) 6 6 _ _ _ ?_⟩
            rw [l187_6, gf11000_18, show S2 G a b 11 0 18 = nI (eNr e) from z2, if_pos (nI_lt hi2 (by omega)), rf11000_20, ga20045, ibi, ci, al, if_pos c1, rf11000_22, ga20047, ibi, ci, ay, if_neg c2, if_neg k1, rf11000_19, ga20044, ibi, ci, ak, if_neg (fun q => m (hh.mp q)), nI_1 i]
            exact h
    · have hof : ofB G l y i = false := decide_eq_false (fun q => c1 q.1)
      obtain ⟨a', b', h⟩ := ih a b (by omega)
      refine ⟨a', b', EXs_le (S := [6]) (n := 6 * (r + 1)) 6 6 _ _ _ ?_⟩
      rw [l187_6, gf11000_18, show S2 G a b 11 0 18 = nI (eNr e) from z2, if_pos (nI_lt hi2 (by omega)), rf11000_20, ga20045, ibi, ci, al, if_neg c1, nI_1 i, cn_f (p := kcB A G e l y q) (by unfold kcB; rw [hof]; rfl)]
      exact h
theorem c187 {D : Nat} (hD : 8 ≤ D) (I : Inv A G e) {l y q : Nat} {kv : Int32} {a b : Int32} (hl : l < 2) (hw : Wm A G e l y) (h8 : ¬ G 4 l 8 < 0) (hq : q < 4) (hk : (kv = 2 ∧ q = 0) ∨ (kv ≠ 2 ∧ ∀ i, i < eNr e → (G 7 i 3 = kv ↔ lt2 (G 7 i 3) = q))) : ∃ a' b', CALL (roL L xs) mP mL (N + 5050) D 187 [.ref 11000, .int (nI l), .int kv, .int (nI y)] (HH A (S2 G a b) e) = some (some (.int (nI (cn (kcB A G e l y q) 0 (eNr e)))), HH A (S2 G a' b') e) := by
  obtain ⟨d, rfl⟩ := Nat.exists_eq_add_of_le' hD
  have z3 := (I_cnt' I).2.2
  obtain ⟨a', b', h⟩ := w187 (L := L) (xs := xs) (N := N) (d := d) I hl hw h8 hq hk (eNr e) 0 a b (by omega)
  refine ⟨a', b', m187 (6 * (eNr e + 1)) (by omega) ?_⟩
  rw [x187]
  exact h
theorem lk (I : Inv A G e) {q : Nat} {kv : Int32} (hk : (kv = 3 ∧ q = 1) ∨ (kv = 4 ∧ q = 2) ∨ (kv = 5 ∧ q = 3)) : ∀ i, i < eNr e → (G 7 i 3 = kv ↔ lt2 (G 7 i 3) = q) := by
  intro i hi
  rcases hk with ⟨rfl, rfl⟩ | ⟨rfl, rfl⟩ | ⟨rfl, rfl⟩ <;> rcases rk I hi with h | h | h | h | h | h <;> rw [h] <;> decide
/-! the reference's own loops -/
theorem w188m {B : Mat} (I : Inv A G e) {l y s m b0 : Nat} {g : Nat → Int32} {res : Option Value × PH} (hl : l < 2) (hm : m ≤ 12) (h1 : G 11 0 1 = nI m) (hs : s < 2 ^ m) (hp : A 20036 0 l = nI s) (hB1 : B 20036 = A 20036) (hB2 : B 20035 = A 20035) {G' : Mat} (hG : G' 11 0 1 = nI m)
    (hres : ∀ g' : Nat → Int32, (∀ j, j ≠ 7 → g' j = g j) → g' 7 = sumB (A 20035 0) s m → EXs (roL L xs) p188 (CALL (roL L xs) mP mL (N + 5050) (d + 4)) [75, 165] (EXn (roL L xs) p188 (CALL (roL L xs) mP mL (N + 5050) (d + 4)) b0) 4 165 [some (.ref 11000), some (.int (nI l)), some (.int (nI y)), some (.int (nI m))] [] (HH (upr B 20059 0 g') G' e) = some res) :
    ∀ (r i : Nat) (g1 : Nat → Int32), i + r = m → (∀ j, j ≠ 7 → g1 j = g j) → g1 7 = sumB (A 20035 0) s i → EXn (roL L xs) p188 (CALL (roL L xs) mP mL (N + 5050) (d + 4)) (b0 + 4 * (r + 1)) 165 [some (.ref 11000), some (.int (nI l)), some (.int (nI y)), some (.int (nI i))] [] (HH (upr B 20059 0 g1) G' e) = some res
  | 0, i, g1, hi, e1, e2 => by
    have : i = m := by omega
    subst this
    exact EXs_le (S := [75, 165]) (n := b0) 4 165 _ _ _ (hres g1 e1 e2)
  | r + 1, i, g1, hi, e1, e2 => by
    refine EXs_le (S := [75, 165]) (n := b0 + 4 * (r + 1)) 4 165 _ _ _ ?_
    have hp2 : 2 ^ m ≤ 4096 := Nat.pow_le_pow_right (by decide) hm
    have v7 : ∀ K : PR, ib (7 : Int32) 9 K = K := fun K => ib_n (i := 7) (by decide) (by decide)
    have t7 : (7 : Int32).toNatClampNeg = 7 := by decide
    have b1 : upr B 20059 0 g1 20036 0 l = nI s := by
      show B 20036 0 l = nI s
      rw [hB1]
      exact hp
    have b2 : upr B 20059 0 g1 20035 0 i = A 20035 0 i := by
      show B 20035 0 i = _
      rw [hB2]
    rw [l188_165, gf11000_1, hG, if_pos (nI_lt (by omega) (by omega)), rf11000_41, ga20059, v7, t7, upr_a, e2, rf11000_10, ga20036, ib_n hl (by decide), nI_clamp (show l < 2 ^ 31 by omega), b1, bit_i (by omega) (by omega), nI_1 i]
    by_cases hb : s.testBit i
    · rw [if_pos hb, if_pos rfl, rf11000_9, ga20035, ib_n (show i < 12 by omega) (by decide), nI_clamp (show i < 2 ^ 31 by omega), b2, sa20059, v7, t7, up3_upr]
      refine w188m I hl hm h1 hs hp hB1 hB2 hG hres r (i + 1) _ (by omega) (fun j hj => by rw [pk_un hj]; exact e1 j hj) ?_
      rw [pk_us, sumB, if_pos hb]
    · rw [if_neg hb, if_neg (by decide), sa20059, v7, t7, up3_upr]
      refine w188m I hl hm h1 hs hp hB1 hB2 hG hres r (i + 1) _ (by omega) (fun j hj => by rw [pk_un hj]; exact e1 j hj) ?_
      rw [pk_us, sumB, if_neg hb]
theorem w188r (I : Inv A G e) {B G' : Mat} {l y b0 : Nat} {g : Nat → Int32} {res : Option Value × PH} (hl : l < 2) (hBI : ∀ g1, Inv (upr B 20059 0 g1) G' e) (hBw : ∀ g1, Wm (upr B 20059 0 g1) G' e l y) (hG7 : G' 7 = G 7) (hex : ∀ g1 i j, i < eNr e → G 7 i 2 = nI j → mi (G' 7) i - rV (upr B 20059 0 g1) G' l (cl (upr B 20059 0 g1) G' e l y j) = mi (G 7) i - rV A G l (cl A G e l y j))
    (hres : ∀ g' : Nat → Int32, (∀ j, j ≠ 4 → g' j = g j) → g' 4 = nI (cn (kcB A G e l y 4) 0 (eNr e)) → EXs (roL L xs) p188 (CALL (roL L xs) mP mL (N + 5050) (d + 4)) [75, 165] (EXn (roL L xs) p188 (CALL (roL L xs) mP mL (N + 5050) (d + 4)) b0) 3 75 [some (.ref 11000), some (.int (nI l)), some (.int (nI y)), some (.int (nI (eNr e)))] [] (HH (upr B 20059 0 g') G' e) = some res) :
    ∀ (r i : Nat) (g1 : Nat → Int32), i + r = eNr e → (∀ j, j ≠ 4 → g1 j = g j) → g1 4 = nI (cn (kcB A G e l y 4) 0 i) → EXn (roL L xs) p188 (CALL (roL L xs) mP mL (N + 5050) (d + 4)) (b0 + 3 * (r + 1)) 75 [some (.ref 11000), some (.int (nI l)), some (.int (nI y)), some (.int (nI i))] [] (HH (upr B 20059 0 g1) G' e) = some res
  | 0, i, g1, hi, e1, e2 => by
    have : i = eNr e := by omega
    subst this
    exact EXs_le (S := [75, 165]) (n := b0) 3 75 _ _ _ (hres g1 e1 e2)
  | r + 1, i, g1, hi, e1, e2 => by
    have I1 := hBI g1
    obtain ⟨z1, z2, z3⟩ := I_cnt' I1
    have hi2 : i < eNr e := by omega
    refine EXs_le (S := [75, 165]) (n := b0 + 3 * (r + 1)) 3 75 _ _ _ ?_
    have v4 : ∀ K : PR, ib (4 : Int32) 9 K = K := fun K => ib_n (i := 4) (by decide) (by decide)
    have t4 : (4 : Int32).toNatClampNeg = 4 := by decide
    obtain ⟨⟨-, -, ⟨j, hj, ej⟩, -⟩, -, ak, al, ad, ay, -⟩ := I_row' I1 i hi2
    rw [hG7] at ej ak al ad ay
    have ci := nI_clamp (n := i) (by omega)
    have ibi : ∀ K : PR, ib (nI i) 120 K = K := fun K => ib_n (by omega) (by decide)
    have go : ∀ v : Int32, v = nI (cn (kcB A G e l y 4) 0 (i + 1)) → EXn (roL L xs) p188 (CALL (roL L xs) mP mL (N + 5050) (d + 4)) (b0 + 3 * (r + 1)) 75 [some (.ref 11000), some (.int (nI l)), some (.int (nI y)), some (.int (nI (i + 1)))] [] (HH (upr B 20059 0 (upd g1 4 v)) G' e) = some res := fun v hv => w188r I hl hBI hBw hG7 hex hres r (i + 1) _ (by omega) (fun j hj => by rw [pk_un hj]; exact e1 j hj) (by rw [pk_us, hv])
    rw [l188_75, gf11000_18, z2, if_pos (nI_lt hi2 (by omega)), rf11000_41, ga20059, v4, t4, upr_a, e2, rf11000_20, ga20045, ibi, ci, al, nI_1 i]
    by_cases c1 : G 7 i 1 = nI l
    · rw [if_pos c1, rf11000_19, ga20044, ibi, ci, ak]
      by_cases c2 : G 7 i 3 = 1
      · rw [if_pos c2, rf11000_22, ga20047, ibi, ci, ay]
        have l4 : lt2 (G 7 i 3) = 4 := by
          unfold lt2
          rw [if_pos c2]
        by_cases c3 : nI y < G 7 i 4
        · have hof : ofB G l y i = false := decide_eq_false (fun q => absurd q.2 (Int32.not_le.mpr c3))
          rw [if_pos c3, sa20059, v4, t4, up3_upr]
          exact go _ (cn_f0 (p := kcB A G e l y 4) (by unfold kcB; rw [hof]; rfl))
        · have c3' : G 7 i 4 ≤ nI y := Int32.not_lt.mp c3
          have hof : ofB G l y i = true := decide_eq_true ⟨c1, c3'⟩
          have hmo := mo_self I hl hj hi2 c2 c1 ej c3'
          have hex2 : exV A G e l y j = mi (G 7) i - rV A G l (cl A G e l y j) := by
            unfold exV
            rw [hmo]
          have s1 := fun D => s155 (L := L) (xs := xs) (N := N) (d := D) I1 hl (hBw g1) (show j ≤ 200 by omega) hi2 (by rw [hG7]; exact c1) (by rw [hG7]; exact ej)
          rw [hex g1 i j hi2 ej, ← hex2] at s1
          have hft : ftS A G e l y i = decide (¬ 0 < exV A G e l y j) := by
            rw [ft_j ej hj]
            unfold ft
            rw [if_pos c2]
            rfl
          rw [if_neg c3, vo11000, s1, cI_s]
          by_cases c4 : 0 < exV A G e l y j
          · rw [if_pos c4, sa20059, v4, t4, up3_upr]
            exact go _ (cn_t (p := kcB A G e l y 4) (by unfold kcB; rw [hof, l4, if_pos rfl, hft, decide_eq_false (not_not_intro c4)]; rfl))
          · rw [if_neg c4, sa20059, v4, t4, up3_upr]
            exact go _ (cn_f0 (p := kcB A G e l y 4) (by unfold kcB; rw [if_pos rfl, hft, decide_eq_true c4]; simp))
      · have l4 : ¬ lt2 (G 7 i 3) = 4 := by
          unfold lt2
          rw [if_neg c2]
          repeat' split
          all_goals omega
        rw [if_neg c2, sa20059, v4, t4, up3_upr]
        exact go _ (cn_f0 (p := kcB A G e l y 4) (by unfold kcB; rw [decide_eq_false l4]; simp))
    · have hof : ofB G l y i = false := decide_eq_false (fun q => c1 q.1)
      rw [if_neg c1, sa20059, v4, t4, up3_upr]
      exact go _ (cn_f0 (p := kcB A G e l y 4) (by unfold kcB; rw [hof]; rfl))
end SAYS
