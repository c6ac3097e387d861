/-! THE LAW'S LOOP -/
def Wq (r : PR) : Prop := ∃ h', IH h' ∧ r = some (some (.int 1), h')
theorem Wq_mo {r r' : PR} (h : ∀ z, r = some z → r' = some z) : Wq r → Wq r' := fun ⟨h', q, e⟩ => ⟨h', q, h _ e⟩
theorem vO_11 {A G : Mat} {e : Ev} {L : Nat} {xs : Nat → Int32} {N D M : Nat} {as : List Value} {x : Int32} {h1 : PH} {K : PR} (k : CALL (roL L xs) mP mL (N + 5050) D M as (HH A G e) = some (some (.int x), h1)) : vO h1 (some (.ref 11000)) 11 K = K := by
  have h0 : (HH A G e).1 11000 = some (.inr (.inr (11, objL G e 11 11000))) := cell_obj (A := A) (G := G) (e := e) (k := 11000) (ci := 11) rfl
  obtain ⟨fs, e1⟩ := CALL_shp D M as (HH A G e) _ h1 k 11000 11 (objL G e 11 11000) h0
  exact vO_e e1
section LOOP
variable {L : Nat} {xs : Nat → Int32} {N d : Nat}
set_option maxHeartbeats 40000000 in
set_option maxRecDepth 100000 in
theorem loop (hN : 200000 ≤ N) (hL : L ≤ 3584) : ∀ (r i : Nat) (A G : Mat) (e : Ev), Inv A G e → i ≤ 4000 → L < i + 7 * (r + 1) → Wq (EXn (roL L xs) p224 (CALL (roL L xs) mP mL (N + 5050) (d + 40)) (7 * (r + 1)) 18 [some (.ref 30010), some (.ref 10000), some (.ref 11000), some (.int (nI i))] [] (HH A G e))
  | r, i, A, G, e, I, hi, hr => by
    have key : ∀ (J : Nat → PL → List Value → PH → PR), (i + 7 ≤ L → ∀ (A' G' : Mat) (e' : Ev), Inv A' G' e' → Wq (J 18 [some (.ref 30010), some (.ref 10000), some (.ref 11000), some (.int (nI i + 7))] [] (HH A' G' e'))) → Wq (EXs (roL L xs) p224 (CALL (roL L xs) mP mL (N + 5050) (d + 40)) [18] J 7 18 [some (.ref 30010), some (.ref 10000), some (.ref 11000), some (.int (nI i))] [] (HH A G e)) := by
      intro J hJ
      rw [l224_18, rolX]
      by_cases hx : i + 7 ≤ L
      · have hJ := hJ hx
        have hneg : ¬ (Int32.ofNat L - 7) < nI i := by
          rw [Int32.lt_iff_toInt_lt, show (Int32.ofNat L - 7 : Int32).toInt = (L : Int) - 7 from pk_sub_toInt (a := L) (b := 7) (by omega) (by decide), nI_toInt (by omega)]
          omega
        have aj : ∀ (j : Nat) (h : PH) (K : Int32 → PR), j < 7 → aI (roL L xs) h 30010 0 (nI (i + j)) K = K (xs (i + j)) := fun j h K hj => by
          rw [roX, ib_n (show i + j < L by omega) (by omega), nI_clamp (by omega)]
        have a0 : ∀ (h : PH) (K : Int32 → PR), aI (roL L xs) h 30010 0 (nI i) K = K (xs i) := fun h K => aj 0 h K (by decide)
        have a1 : ∀ (h : PH) (K : Int32 → PR), aI (roL L xs) h 30010 0 (nI i + 1) K = K (xs (i + 1)) := fun h K => by
          rw [show nI i + 1 = nI (i + 1) from nI_add i 1]
          exact aj 1 h K (by decide)
        have a2 : ∀ (h : PH) (K : Int32 → PR), aI (roL L xs) h 30010 0 (nI i + 2) K = K (xs (i + 2)) := fun h K => by
          rw [show nI i + 2 = nI (i + 2) from nI_add i 2]
          exact aj 2 h K (by decide)
        have a3 : ∀ (h : PH) (K : Int32 → PR), aI (roL L xs) h 30010 0 (nI i + 3) K = K (xs (i + 3)) := fun h K => by
          rw [show nI i + 3 = nI (i + 3) from nI_add i 3]
          exact aj 3 h K (by decide)
        have a4 : ∀ (h : PH) (K : Int32 → PR), aI (roL L xs) h 30010 0 (nI i + 4) K = K (xs (i + 4)) := fun h K => by
          rw [show nI i + 4 = nI (i + 4) from nI_add i 4]
          exact aj 4 h K (by decide)
        have a5 : ∀ (h : PH) (K : Int32 → PR), aI (roL L xs) h 30010 0 (nI i + 5) K = K (xs (i + 5)) := fun h K => by
          rw [show nI i + 5 = nI (i + 5) from nI_add i 5]
          exact aj 5 h K (by decide)
        have a6 : ∀ (h : PH) (K : Int32 → PR), aI (roL L xs) h 30010 0 (nI i + 6) K = K (xs (i + 6)) := fun h K => by
          rw [show nI i + 6 = nI (i + 6) from nI_add i 6]
          exact aj 6 h K (by decide)
        rw [if_neg hneg, a0]
        by_cases c0 : (xs i &&& 63) = 0
        · rw [if_pos c0, a1, vo10000]
          obtain ⟨x, h1, k1, y, h2, k2, hxy, A2, G2, e2, rfl, I2⟩ := o_pass (L := L) (xs := xs) (N := N) (d := d) I (xs (i + 1))
          rw [k1, cI_s, a1, vO_11 k1, k2, cI_s, if_pos hxy]
          exact hJ A2 G2 e2 I2
        rw [if_neg c0]
        by_cases c1 : (xs i &&& 63) = 1
        · rw [if_pos c1, a1, a2, a3, vo10000]
          obtain ⟨x, h1, k1, y, h2, k2, hxy, A2, G2, e2, rfl, I2⟩ := o_drift (L := L) (xs := xs) (N := N) (d := d) I (xs (i + 1)) (xs (i + 2)) (xs (i + 3))
          rw [k1, cI_s, a1, a2, a3, vO_11 k1, k2, cI_s, if_pos hxy]
          exact hJ A2 G2 e2 I2
        rw [if_neg c1]
        by_cases c2 : (xs i &&& 63) = 2
        · rw [if_pos c2, a1, a2, a3, vo10000]
          obtain ⟨x, h1, k1, y, h2, k2, hxy, A2, G2, e2, rfl, I2⟩ := o_ice (L := L) (xs := xs) (N := N) (d := d) I (xs (i + 1)) (xs (i + 2)) (xs (i + 3))
          rw [k1, cI_s, a1, a2, a3, vO_11 k1, k2, cI_s, if_pos hxy]
          exact hJ A2 G2 e2 I2
        rw [if_neg c2]
        by_cases c3 : (xs i &&& 63) = 3
        · rw [if_pos c3, a1, a2, vo10000]
          obtain ⟨x, h1, k1, y, h2, k2, hxy, A2, G2, e2, rfl, I2⟩ := o_sun (L := L) (xs := xs) (N := N) (d := d) I (xs (i + 1)) (xs (i + 2))
          rw [k1, cI_s, a1, a2, vO_11 k1, k2, cI_s, if_pos hxy]
          exact hJ A2 G2 e2 I2
        rw [if_neg c3]
        by_cases c4 : (xs i &&& 63) = 4
        · rw [if_pos c4, a1, a2, vo10000]
          obtain ⟨x, h1, k1, y, h2, k2, hxy, A2, G2, e2, rfl, I2⟩ := o_man (L := L) (xs := xs) (N := N) (d := d) I (xs (i + 1)) (xs (i + 2))
          rw [k1, cI_s, a1, a2, vO_11 k1, k2, cI_s, if_pos hxy]
          exact hJ A2 G2 e2 I2
        rw [if_neg c4]
        by_cases c5 : (xs i &&& 63) = 5
        · rw [if_pos c5, a1, a2, a3, a4, vo10000]
          obtain ⟨x, h1, k1, y, h2, k2, hxy, A2, G2, e2, rfl, I2⟩ := o_party (L := L) (xs := xs) (N := N) (d := d) I (xs (i + 1)) (xs (i + 2)) (xs (i + 3)) (xs (i + 4))
          rw [k1, cI_s, a1, a2, a3, a4, vO_11 k1, k2, cI_s, if_pos hxy]
          exact hJ A2 G2 e2 I2
        rw [if_neg c5]
        by_cases c6 : (xs i &&& 63) = 6
        · rw [if_pos c6, a1, a2, a3, vo10000]
          obtain ⟨x, h1, k1, y, h2, k2, hxy, A2, G2, e2, rfl, I2⟩ := o_start (L := L) (xs := xs) (N := N) (d := d) I (xs (i + 1)) (xs (i + 2)) (xs (i + 3))
          rw [k1, cI_s, a1, a2, a3, vO_11 k1, k2, cI_s, if_pos hxy]
          exact hJ A2 G2 e2 I2
        rw [if_neg c6]
        by_cases c7 : (xs i &&& 63) = 7
        · rw [if_pos c7, a1, a2, a3, a4, vo10000]
          obtain ⟨x, h1, k1, y, h2, k2, hxy, A2, G2, e2, rfl, I2⟩ := o_claim (L := L) (xs := xs) (N := N) (d := d) I (xs (i + 1)) (xs (i + 2)) (xs (i + 3)) (xs (i + 4))
          rw [k1, cI_s, a1, a2, a3, a4, vO_11 k1, k2, cI_s, if_pos hxy]
          exact hJ A2 G2 e2 I2
        rw [if_neg c7]
        by_cases c8 : (xs i &&& 63) = 8
        · rw [if_pos c8, a1, a2, a3, a4, a5, vo10000]
          obtain ⟨x, h1, k1, y, h2, k2, hxy, A2, G2, e2, rfl, I2⟩ := o_march (L := L) (xs := xs) (N := N) (d := d) I (xs (i + 1)) (xs (i + 2)) (xs (i + 3)) (xs (i + 4)) (xs (i + 5))
          rw [k1, cI_s, a1, a2, a3, a4, a5, vO_11 k1, k2, cI_s, if_pos hxy]
          exact hJ A2 G2 e2 I2
        rw [if_neg c8]
        by_cases c9 : (xs i &&& 63) = 9
        · rw [if_pos c9, a1, a2, a3, a4, a5]
          by_cases f0 : xs (i + 5) = 0
          · rw [if_pos f0, vo10000]
            obtain ⟨x, h1, k1, y, h2, k2, hxy, A2, G2, e2, rfl, I2⟩ := o_height (L := L) (xs := xs) (N := N) (d := d) I (xs (i + 1)) (xs (i + 2)) (xs (i + 3)) (xs (i + 4)) 0
            rw [k1, cI_s, a1, a2, a3, a4, a5, if_pos f0, vO_11 k1, k2, cI_s, if_pos hxy]
            exact hJ A2 G2 e2 I2
          · rw [if_neg f0, vo10000]
            obtain ⟨x, h1, k1, y, h2, k2, hxy, A2, G2, e2, rfl, I2⟩ := o_height (L := L) (xs := xs) (N := N) (d := d) I (xs (i + 1)) (xs (i + 2)) (xs (i + 3)) (xs (i + 4)) 1
            rw [k1, cI_s, a1, a2, a3, a4, a5, if_neg f0, vO_11 k1, k2, cI_s, if_pos hxy]
            exact hJ A2 G2 e2 I2
        rw [if_neg c9]
        by_cases c10 : (xs i &&& 63) = 10
        · rw [if_pos c10, a1, a2, a3, vo10000]
          obtain ⟨x, h1, k1, y, h2, k2, hxy, A2, G2, e2, rfl, I2⟩ := o_compass (L := L) (xs := xs) (N := N) (d := d) I (xs (i + 1)) (xs (i + 2)) (xs (i + 3))
          rw [k1, cI_s, a1, a2, a3, vO_11 k1, k2, cI_s, if_pos hxy]
          exact hJ A2 G2 e2 I2
        rw [if_neg c10]
        by_cases c11 : (xs i &&& 63) = 11
        · rw [if_pos c11, a1, a2, a3, a4, a5, vo10000]
          obtain ⟨x, h1, k1, y, h2, k2, hxy, A2, G2, e2, rfl, I2⟩ := o_picture (L := L) (xs := xs) (N := N) (d := d) I (xs (i + 1)) (xs (i + 2)) (xs (i + 3)) (xs (i + 4)) (xs (i + 5))
          rw [k1, cI_s, a1, a2, a3, a4, a5, vO_11 k1, k2, cI_s, if_pos hxy]
          exact hJ A2 G2 e2 I2
        rw [if_neg c11]
        by_cases c12 : (xs i &&& 63) = 12
        · rw [if_pos c12, a1, a2, a3, a4, a5, a6, vo10000]
          obtain ⟨x, h1, k1, y, h2, k2, hxy, A2, G2, e2, rfl, I2⟩ := o_word (L := L) (xs := xs) (N := N) (d := d) I (xs (i + 1)) (xs (i + 2)) (xs (i + 3)) (xs (i + 4)) (xs (i + 5)) (xs (i + 6))
          rw [k1, cI_s, a1, a2, a3, a4, a5, a6, vO_11 k1, k2, cI_s, if_pos hxy]
          exact hJ A2 G2 e2 I2
        rw [if_neg c12]
        by_cases c13 : (xs i &&& 63) = 13
        · rw [if_pos c13, a1, a2, a3, a4, a5, a6, vo10000]
          obtain ⟨x, h1, k1, y, h2, k2, hxy, A2, G2, e2, rfl, I2⟩ := o_torn (L := L) (xs := xs) (N := N) (d := d) I (xs (i + 1)) (xs (i + 2)) (xs (i + 3)) (xs (i + 4)) (xs (i + 5)) (xs (i + 6))
          rw [k1, cI_s, a1, a2, a3, a4, a5, a6, vO_11 k1, k2, cI_s, if_pos hxy]
          exact hJ A2 G2 e2 I2
        rw [if_neg c13]
        by_cases c14 : (xs i &&& 63) = 14
        · rw [if_pos c14, a1, a2, vo10000]
          obtain ⟨x, h1, k1, y, h2, k2, hxy, A2, G2, e2, rfl, I2⟩ := o_of (L := L) (xs := xs) (N := N) (d := d) I (xs (i + 1)) (xs (i + 2))
          rw [k1, cI_s, a1, a2, vO_11 k1, k2, cI_s, if_pos hxy]
          exact hJ A2 G2 e2 I2
        rw [if_neg c14]
        by_cases c15 : (xs i &&& 63) = 15
        · rw [if_pos c15, a1, a2, a3, vo10000]
          obtain ⟨x, h1, k1, y, h2, k2, hxy, A2, G2, e2, rfl, I2⟩ := o_fits (L := L) (xs := xs) (N := N) (d := d) I (xs (i + 1)) (xs (i + 2)) (xs (i + 3))
          rw [k1, cI_s, a1, a2, a3, vO_11 k1, k2, cI_s, if_pos hxy]
          exact hJ A2 G2 e2 I2
        rw [if_neg c15]
        by_cases c16 : (xs i &&& 63) = 16
        · rw [if_pos c16, a1, a2, a3, vo10000]
          obtain ⟨x, h1, k1, y, h2, k2, hxy, A2, G2, e2, rfl, I2⟩ := o_place (L := L) (xs := xs) (N := N) (d := d) I (xs (i + 1)) (xs (i + 2)) (xs (i + 3))
          rw [k1, cI_s, a1, a2, a3, vO_11 k1, k2, cI_s, if_pos hxy]
          exact hJ A2 G2 e2 I2
        rw [if_neg c16]
        by_cases c17 : (xs i &&& 63) = 17
        · rw [if_pos c17, a1, a2, vo10000]
          obtain ⟨x, h1, k1, y, h2, k2, hxy, A2, G2, e2, rfl, I2⟩ := o_can (L := L) (xs := xs) (N := N) (d := d) I (xs (i + 1)) (xs (i + 2))
          rw [k1, cI_s, a1, a2, vO_11 k1, k2, cI_s, if_pos hxy]
          exact hJ A2 G2 e2 I2
        rw [if_neg c17]
        by_cases c18 : (xs i &&& 63) = 18
        · rw [if_pos c18, a1, a2, vo10000]
          obtain ⟨x, h1, k1, y, h2, k2, hxy, A2, G2, e2, rfl, I2⟩ := o_beyond (L := L) (xs := xs) (N := N) (d := d) I (xs (i + 1)) (xs (i + 2))
          rw [k1, cI_s, a1, a2, vO_11 k1, k2, cI_s, if_pos hxy]
          exact hJ A2 G2 e2 I2
        rw [if_neg c18]
        by_cases c19 : (xs i &&& 63) = 19
        · rw [if_pos c19, a1, a2, vo10000]
          obtain ⟨x, h1, k1, y, h2, k2, hxy, A2, G2, e2, rfl, I2⟩ := o_latitude (L := L) (xs := xs) (N := N) (d := d) I (xs (i + 1)) (xs (i + 2))
          rw [k1, cI_s, a1, a2, vO_11 k1, k2, cI_s, if_pos hxy]
          exact hJ A2 G2 e2 I2
        rw [if_neg c19]
        by_cases c20 : (xs i &&& 63) = 20
        · rw [if_pos c20, a1, vo10000]
          obtain ⟨x, h1, k1, y, h2, k2, hxy, A2, G2, e2, rfl, I2⟩ := o_quarrel (L := L) (xs := xs) (N := N) (d := d) hN I (xs (i + 1))
          rw [k1, cI_s, a1, vO_11 k1, k2, cI_s, if_pos hxy]
          exact hJ A2 G2 e2 I2
        rw [if_neg c20]
        by_cases c21 : (xs i &&& 63) = 21
        · rw [if_pos c21, a1, vo10000]
          obtain ⟨x, h1, k1, y, h2, k2, hxy, A2, G2, e2, rfl, I2⟩ := o_home (L := L) (xs := xs) (N := N) (d := d) I (xs (i + 1))
          rw [k1, cI_s, a1, vO_11 k1, k2, cI_s, if_pos hxy]
          exact hJ A2 G2 e2 I2
        rw [if_neg c21]
        by_cases c22 : (xs i &&& 63) = 22
        · rw [if_pos c22, a1, a2, vo10000]
          obtain ⟨x, h1, k1, y, h2, k2, hxy, A2, G2, e2, rfl, I2⟩ := o_needs (L := L) (xs := xs) (N := N) (d := d) I (xs (i + 1)) (xs (i + 2))
          rw [k1, cI_s, a1, a2, vO_11 k1, k2, cI_s, if_pos hxy]
          exact hJ A2 G2 e2 I2
        rw [if_neg c22]
        by_cases c23 : (xs i &&& 63) = 23
        · rw [if_pos c23, a1, a2, a3, vo10000]
          obtain ⟨x, h1, k1, y, h2, k2, hxy, A2, G2, e2, rfl, I2⟩ := o_held (L := L) (xs := xs) (N := N) (d := d) I (xs (i + 1)) (xs (i + 2)) (xs (i + 3))
          rw [k1, cI_s, a1, a2, a3, vO_11 k1, k2, cI_s, if_pos hxy]
          exact hJ A2 G2 e2 I2
        rw [if_neg c23]
        by_cases c24 : (xs i &&& 63) = 24
        · rw [if_pos c24, a1, a2, a3, a4, vo10000]
          obtain ⟨x, h1, k1, y, h2, k2, hxy, A2, G2, e2, rfl, I2⟩ := o_falses (L := L) (xs := xs) (N := N) (d := d) I (xs (i + 1)) (xs (i + 2)) (xs (i + 3)) (xs (i + 4))
          rw [k1, cI_s, a1, a2, a3, a4, vO_11 k1, k2, cI_s, if_pos hxy]
          exact hJ A2 G2 e2 I2
        rw [if_neg c24]
        by_cases c25 : (xs i &&& 63) = 25
        · rw [if_pos c25, a1, a2, a3, vo10000]
          obtain ⟨x, h1, k1, y, h2, k2, hxy, A2, G2, e2, rfl, I2⟩ := o_least (L := L) (xs := xs) (N := N) (d := d) I (xs (i + 1)) (xs (i + 2)) (xs (i + 3))
          rw [k1, cI_s, a1, a2, a3, vO_11 k1, k2, cI_s, if_pos hxy]
          exact hJ A2 G2 e2 I2
        rw [if_neg c25]
        by_cases c26 : (xs i &&& 63) = 26
        · rw [if_pos c26, a1, a2, vo10000]
          obtain ⟨x, h1, k1, y, h2, k2, hxy, A2, G2, e2, rfl, I2⟩ := o_misprint (L := L) (xs := xs) (N := N) (d := d) I (xs (i + 1)) (xs (i + 2))
          rw [k1, cI_s, a1, a2, vO_11 k1, k2, cI_s, if_pos hxy]
          exact hJ A2 G2 e2 I2
        rw [if_neg c26]
        by_cases c27 : (xs i &&& 63) = 27
        · rw [if_pos c27, a1, a2, vo10000]
          obtain ⟨x, h1, k1, y, h2, k2, hxy, A2, G2, e2, rfl, I2⟩ := o_made (L := L) (xs := xs) (N := N) (d := d) I (xs (i + 1)) (xs (i + 2))
          rw [k1, cI_s, a1, a2, vO_11 k1, k2, cI_s, if_pos hxy]
          exact hJ A2 G2 e2 I2
        rw [if_neg c27]
        by_cases c28 : (xs i &&& 63) = 28
        · rw [if_pos c28, a1, a2, vo10000]
          obtain ⟨x, h1, k1, y, h2, k2, hxy, A2, G2, e2, rfl, I2⟩ := o_feed (L := L) (xs := xs) (N := N) (d := d) I (xs (i + 1)) (xs (i + 2))
          rw [k1, cI_s, a1, a2, vO_11 k1, k2, cI_s, if_pos hxy]
          exact hJ A2 G2 e2 I2
        rw [if_neg c28]
        by_cases c29 : (xs i &&& 63) = 29
        · rw [if_pos c29, a1, a2, vo10000]
          obtain ⟨x, h1, k1, y, h2, k2, hxy, A2, G2, e2, rfl, I2⟩ := o_law (L := L) (xs := xs) (N := N) (d := d) I (xs (i + 1)) (xs (i + 2))
          rw [k1, cI_s, a1, a2, vO_11 k1, k2, cI_s, if_pos hxy]
          exact hJ A2 G2 e2 I2
        rw [if_neg c29]
        by_cases c30 : (xs i &&& 63) = 30
        · rw [if_pos c30, a1, a2, a3, vo10000]
          obtain ⟨x, h1, k1, y, h2, k2, hxy, A2, G2, e2, rfl, I2⟩ := o_says (L := L) (xs := xs) (N := N) (d := d) hN I (xs (i + 1)) (xs (i + 2)) (xs (i + 3))
          rw [k1, cI_s, a1, a2, a3, vO_11 k1, k2, cI_s, if_pos hxy]
          exact hJ A2 G2 e2 I2
        rw [if_neg c30]
        by_cases c31 : (xs i &&& 63) = 31
        · rw [if_pos c31, a1, vo10000]
          obtain ⟨x, h1, k1, y, h2, k2, hxy, A2, G2, e2, rfl, I2⟩ := o_look (L := L) (xs := xs) (N := N) (d := d) I (xs (i + 1))
          rw [k1, cI_s, a1, vO_11 k1, k2, cI_s, if_pos hxy]
          exact hJ A2 G2 e2 I2
        rw [if_neg c31]
        by_cases c32 : (xs i &&& 63) = 32
        · rw [if_pos c32, a1, a2, vo10000]
          obtain ⟨x, h1, k1, y, h2, k2, hxy, A2, G2, e2, rfl, I2⟩ := o_worth (L := L) (xs := xs) (N := N) (d := d) I (xs (i + 1)) (xs (i + 2))
          rw [k1, cI_s, a1, a2, vO_11 k1, k2, cI_s, if_pos hxy]
          exact hJ A2 G2 e2 I2
        rw [if_neg c32]
        by_cases c33 : (xs i &&& 63) = 33
        · rw [if_pos c33, a1, vo10000]
          obtain ⟨x, h1, k1, y, h2, k2, hxy, A2, G2, e2, rfl, I2⟩ := o_next (L := L) (xs := xs) (N := N) (d := d) I (xs (i + 1))
          rw [k1, cI_s, a1, vO_11 k1, k2, cI_s, if_pos hxy]
          exact hJ A2 G2 e2 I2
        rw [if_neg c33]
        by_cases c34 : (xs i &&& 63) = 34
        · rw [if_pos c34, a1, a2, vo10000]
          obtain ⟨x, h1, k1, y, h2, k2, hxy, A2, G2, e2, rfl, I2⟩ := o_worst (L := L) (xs := xs) (N := N) (d := d) hN I (xs (i + 1)) (xs (i + 2))
          rw [k1, cI_s, a1, a2, vO_11 k1, k2, cI_s, if_pos hxy]
          exact hJ A2 G2 e2 I2
        rw [if_neg c34]
        by_cases c35 : (xs i &&& 63) = 35
        · rw [if_pos c35, a1, a2, a3, vo10000]
          obtain ⟨x, h1, k1, y, h2, k2, hxy, A2, G2, e2, rfl, I2⟩ := o_act (L := L) (xs := xs) (N := N) (d := d) I (xs (i + 1)) (xs (i + 2)) (xs (i + 3))
          rw [k1, cI_s, a1, a2, a3, vO_11 k1, k2, cI_s, if_pos hxy]
          exact hJ A2 G2 e2 I2
        rw [if_neg c35]
        by_cases c36 : (xs i &&& 63) = 36
        · rw [if_pos c36, a1, vo10000]
          obtain ⟨x, h1, k1, y, h2, k2, hxy, A2, G2, e2, rfl, I2⟩ := o_trace (L := L) (xs := xs) (N := N) (d := d) I (xs (i + 1))
          rw [k1, cI_s, a1, vO_11 k1, k2, cI_s, if_pos hxy]
          exact hJ A2 G2 e2 I2
        rw [if_neg c36]
        by_cases c37 : (xs i &&& 63) = 37
        · rw [if_pos c37, a1, a2, vo10000]
          obtain ⟨x, h1, k1, y, h2, k2, hxy, A2, G2, e2, rfl, I2⟩ := o_taken (L := L) (xs := xs) (N := N) (d := d) I (xs (i + 1)) (xs (i + 2))
          rw [k1, cI_s, a1, a2, vO_11 k1, k2, cI_s, if_pos hxy]
          exact hJ A2 G2 e2 I2
        rw [if_neg c37]
        by_cases c38 : (xs i &&& 63) = 38
        · rw [if_pos c38, a1, vo10000]
          obtain ⟨x, h1, k1, y, h2, k2, hxy, A2, G2, e2, rfl, I2⟩ := o_count (L := L) (xs := xs) (N := N) (d := d) I (xs (i + 1))
          rw [k1, cI_s, a1, vO_11 k1, k2, cI_s, if_pos hxy]
          exact hJ A2 G2 e2 I2
        rw [if_neg c38]
        by_cases c39 : (xs i &&& 63) = 39
        · rw [if_pos c39, a1, a2, a3, vo10000]
          obtain ⟨x, h1, k1, y, h2, k2, hxy, A2, G2, e2, rfl, I2⟩ := o_tape (L := L) (xs := xs) (N := N) (d := d) I (xs (i + 1)) (xs (i + 2)) (xs (i + 3))
          rw [k1, cI_s, a1, a2, a3, vO_11 k1, k2, cI_s, if_pos hxy]
          exact hJ A2 G2 e2 I2
        rw [if_neg c39]
        by_cases c40 : (xs i &&& 63) = 40
        · rw [if_pos c40, a1, a2, a3, vo10000]
          obtain ⟨x, h1, k1, y, h2, k2, hxy, A2, G2, e2, rfl, I2⟩ := o_item (L := L) (xs := xs) (N := N) (d := d) I (xs (i + 1)) (xs (i + 2)) (xs (i + 3))
          rw [k1, cI_s, a1, a2, a3, vO_11 k1, k2, cI_s, if_pos hxy]
          exact hJ A2 G2 e2 I2
        rw [if_neg c40]
        by_cases c41 : (xs i &&& 63) = 41
        · rw [if_pos c41, a1, a2, vo10000]
          obtain ⟨x, h1, k1, y, h2, k2, hxy, A2, G2, e2, rfl, I2⟩ := o_read (L := L) (xs := xs) (N := N) (d := d) I (xs (i + 1)) (xs (i + 2))
          rw [k1, cI_s, a1, a2, vO_11 k1, k2, cI_s, if_pos hxy]
          exact hJ A2 G2 e2 I2
        rw [if_neg c41]
        by_cases c42 : (xs i &&& 63) = 42
        · rw [if_pos c42, a1, a2, a3, a4, a5, vo10000]
          obtain ⟨x, h1, k1, y, h2, k2, hxy, A2, G2, e2, rfl, I2⟩ := o_shift (L := L) (xs := xs) (N := N) (d := d) I (xs (i + 1)) (xs (i + 2)) (xs (i + 3)) (xs (i + 4)) (xs (i + 5))
          rw [k1, cI_s, a1, a2, a3, a4, a5, vO_11 k1, k2, cI_s, if_pos hxy]
          exact hJ A2 G2 e2 I2
        rw [if_neg c42]
        exact hJ A G e I
      · have hpos : (Int32.ofNat L - 7) < nI i := by
          rw [Int32.lt_iff_toInt_lt, show (Int32.ofNat L - 7 : Int32).toInt = (L : Int) - 7 from pk_sub_toInt (a := L) (b := 7) (by omega) (by decide), nI_toInt (by omega)]
          omega
        rw [if_pos hpos]
        exact ⟨_, IH_i I, rfl⟩
    match r, hr with
    | 0, hr => exact Wq_mo (fun z h => EXs_le (S := [18]) (n := 0) 7 18 _ _ _ h) (key _ (fun h => by omega))
    | r + 1, hr =>
      refine Wq_mo (fun z h => EXs_le (S := [18]) (n := 7 * (r + 1)) 7 18 _ _ _ h) (key _ (fun h A' G' e' I' => ?_))
      rw [show nI i + 7 = nI (i + 7) from nI_add i 7]
      exact loop hN hL r (i + 7) A' G' e' I' (by omega) (by omega)
theorem whole_run (hN : 200000 ≤ N) (hL : L ≤ 3584) : ∃ n h', IH h' ∧ EXn (roL L xs) p224 (CALL (roL L xs) mP mL (N + 5050) (d + 40)) n 0 [some (.ref 30010), none, none, none] [] hc0 = some (some (.int 1), h') := by
  obtain ⟨h', q, e⟩ := loop (L := L) (xs := xs) (N := N) (d := d) hN hL 520 0 A0 G0 ev0 zinv (by omega) (by omega)
  rw [← zhh] at e
  exact ⟨_, h', q, zstart (d := d + 37) e⟩
end LOOP
