/-! LOOKS: a new one, WORST -/
def pFn (z w : Nat) (P : Nat → Int32) (i : Nat) : Nat → Int32 := fun j => if 4 * z ≤ j ∧ j < 4 * z + 4 then nI (prtN w (j - 4 * z) i) else P j
def fw (f : Nat → Nat) (w : Nat → Nat) (s k : Nat) : Nat := (List.range k).foldl (fun b k => min b (mst f (w k) s)) 6
theorem fw_s {f : Nat → Nat} {w : Nat → Nat} {s k : Nat} : fw f w s (k + 1) = min (fw f w s k) (mst f (w k) s) := by
  unfold fw
  rw [rng_s]
theorem fw_le {f : Nat → Nat} {w : Nat → Nat} {s k : Nat} : fw f w s k ≤ 6 := fold_le k
section LOOK2
variable {A G : Mat} {e : Ev} {L : Nat} {xs : Nat → Int32} {N d : Nat}
theorem w15a {C : Nat → List Value → PH → PR} {z w b : Nat} {P : Nat → Int32} {res : Option Value × PH} (hz : z < 8) (hw : w < 4096)
    (hb : EXn (roL L xs) p15 C b 54 [some (.ref 5000), some (.int (nI w)), some (.int (nI z)), some (.int 64)] [] (HH (upr A 20018 0 (pFn z w P 6)) G e) = some res) : ∀ (r i : Nat), i + r = 6 → EXn (roL L xs) p15 C (b + 2 * (r + 1)) 17 [some (.ref 5000), some (.int (nI w)), some (.int (nI z)), some (.int (nI i))] [] (HH (upr A 20018 0 (pFn z w P i)) G e) = some res
  | 0, i, hi => by
    refine EXs_le (S := [17, 54]) (n := b) 2 17 _ _ _ ?_
    have : i = 6 := by omega
    subst this
    rw [l15_17, if_neg (show ¬ nI 6 < (6 : Int32) by decide)]
    exact hb
  | r + 1, i, hi => by
    refine EXs_le (S := [17, 54]) (n := b + 2 * (r + 1)) 2 17 _ _ _ ?_
    have ih := w15a (C := C) hz hw hb r (i + 1) (by omega)
    have hi6 : i < 6 := by omega
    have c4 : (4 : Int32) * nI z = nI (4 * z) := pk_mul 4 z
    have hd := dig_lt (w := w) (i := i)
    rw [l15_17, if_pos (show nI i < (6 : Int32) from nI_lt (b := 6) hi6 (by decide)), rf5000_0, dig_i (by omega) hi6, c4, nI_add, ga20018, ib_n (show 4 * z + dig w i < 32 by omega) (by decide), sa20018, ib_n (show 4 * z + dig w i < 32 by omega) (by decide), nI_clamp (by omega), up3_upr, upr_a, ni_sh i hi6, nI_1]
    have : upd (pFn z w P i) (4 * z + dig w i) (pFn z w P i (4 * z + dig w i) ||| nI (2 ^ i)) = pFn z w P (i + 1) := by
      funext j
      by_cases hj : j = 4 * z + dig w i
      · subst hj
        simp only [upd, if_true, pFn]
        rw [if_pos (by omega), if_pos (by omega), ni_or, show 4 * z + dig w i - 4 * z = dig w i by omega, prtN, if_pos rfl]
      · simp only [upd, if_neg hj, pFn]
        by_cases h2 : 4 * z ≤ j ∧ j < 4 * z + 4
        · rw [if_pos h2, if_pos h2, prtN, if_neg (by omega)]
        · rw [if_neg h2, if_neg h2]
    rw [this]
    exact ih
theorem w16b {C : Nat → List Value → PH → PR} {f : Nat → Nat} {w : Nat → Nat} {s n k b y : Nat} {res : Option Value × PH} (hC1 : ∀ x y h, C 220 [.int x, .int y] h = some (some (.int (if x < y then y else x)), h)) (hC2 : ∀ x y h, C 221 [.int x, .int y] h = some (some (.int (if y < x then y else x)), h)) (hk : k < 8) (hn : n < 4) (hs : s < 64) (hy : y ≤ 6) (hf : ∀ q, q < 64 → f q ≤ 6) (hA : ∀ t, t < 4 → A 20018 0 (4 * k + t) = nI (prt (w k) t)) (hq : ∀ q, q < 64 → A 20019 0 (64 * n + q) = nI (f q))
    (hb : ∀ o5 o6, EXn (roL L xs) p16 C b 6 [some (.ref 5000), some (.int (nI s)), some (.int (nI (n + 1))), some (.int (nI (min y (mst f (w k) s)))), some (.int (nI (k + 1))), o5, o6] [] (HH A G e) = some res) : ∀ (r i : Nat), i + r = 4 → EXn (roL L xs) p16 C (b + 2 * (r + 1)) 21 [some (.ref 5000), some (.int (nI s)), some (.int (nI (n + 1))), some (.int (nI y)), some (.int (nI k)), some (.int (nI (mx f (w k) s i))), some (.int (nI i))] [] (HH A G e) = some res
  | 0, i, hi => by
    refine EXs_le (S := [6, 21]) (n := b) 2 21 _ _ _ ?_
    have : i = 4 := by omega
    subst this
    have := mst_le (w := w k) hs hf
    rw [l16_21, if_neg (show ¬ nI 4 < (4 : Int32) by decide), hC2, cI_s, mx_e, ni_min (by omega) (by omega), nI_1]
    exact hb _ _
  | r + 1, i, hi => by
    refine EXs_le (S := [6, 21]) (n := b + 2 * (r + 1)) 2 21 _ _ _ ?_
    have ih := w16b (C := C) hC1 hC2 hk hn hs hy hf hA hq hb r (i + 1) (by omega)
    have hi4 : i < 4 := by omega
    have c4 : (4 : Int32) * nI k = nI (4 * k) := pk_mul 4 k
    have c64 : (64 : Int32) * nI n = nI (64 * n) := pk_mul 64 n
    have b1 := mx_le (w := w k) hs hf i
    have b2 := hf _ (and_le63 (q := prt (w k) i) hs)
    have b3 := and_le63 (q := prt (w k) i) hs
    rw [l16_21, if_pos (show nI i < (4 : Int32) from nI_lt (b := 4) hi4 (by decide)), rf5000_1, rf5000_0, ga20018, c4, nI_add, ib_n (show 4 * k + i < 32 by omega) (by decide), nI_clamp (by omega), hA i hi4, ni_and, nI_pred, c64, nI_add, ga20019, ib_n (show 64 * n + (s &&& prt (w k) i) < 320 by omega) (by decide), nI_clamp (by omega), hq _ b3, hC1, cI_s, nI_1, ni_max (by omega) (by omega)]
    exact ih
theorem w16a {C : Nat → List Value → PH → PR} {f : Nat → Nat} {w : Nat → Nat} {s n z : Nat} (hC1 : ∀ x y h, C 220 [.int x, .int y] h = some (some (.int (if x < y then y else x)), h)) (hC2 : ∀ x y h, C 221 [.int x, .int y] h = some (some (.int (if y < x then y else x)), h)) (hz : z ≤ 8) (h2 : G 5 0 2 = nI z) (hn : n < 4) (hs : s < 64) (hf : ∀ q, q < 64 → f q ≤ 6) (hA : ∀ k, k < z → ∀ t, t < 4 → A 20018 0 (4 * k + t) = nI (prt (w k) t)) (hq : ∀ q, q < 64 → A 20019 0 (64 * n + q) = nI (f q)) : ∀ (r k : Nat) (o5 o6 : Option Value), k + r = z → EXn (roL L xs) p16 C (12 * (r + 1)) 6 [some (.ref 5000), some (.int (nI s)), some (.int (nI (n + 1))), some (.int (nI (fw f w s k))), some (.int (nI k)), o5, o6] [] (HH A G e) = some (some (.int (nI (fw f w s z))), HH A G e)
  | 0, k, o5, o6, hk => by
    refine EXn_mo (n := 0 + 2) (by omega) (EXs_le (S := [6, 21]) (n := 0) 2 6 _ _ _ ?_)
    have : k = z := by omega
    subst this
    rw [l16_6, gf5000_2, h2, if_neg (nI_nlt (by omega) (by omega))]
  | r + 1, k, o5, o6, hk => by
    refine EXs_le (S := [6, 21]) (n := 12 * (r + 1) + 2 * (4 + 1)) 2 6 _ _ _ ?_
    rw [l16_6, gf5000_2, h2, if_pos (nI_lt (by omega) (by omega))]
    refine w16b hC1 hC2 (show k < 8 by omega) hn hs fw_le hf (hA k (by omega)) hq (fun o5 o6 => ?_) 4 0 (by omega)
    rw [← fw_s]
    exact w16a hC1 hC2 hz h2 hn hs hf hA hq r (k + 1) o5 o6 (by omega)
theorem s16 {f : Nat → Nat} {w : Nat → Nat} {s n z : Nat} (hz : z ≤ 8) (h2 : G 5 0 2 = nI z) (hn : n < 4) (hs : s < 64) (hf : ∀ q, q < 64 → f q ≤ 6) (hA : ∀ k, k < z → ∀ t, t < 4 → A 20018 0 (4 * k + t) = nI (prt (w k) t)) (hq : ∀ q, q < 64 → A 20019 0 (64 * n + q) = nI (f q)) : CALL (roL L xs) mP mL (N + 5050) (d + 2) 16 [.ref 5000, .int (nI s), .int (nI (n + 1))] (HH A G e) = some (some (.int (nI (fw f w s z))), HH A G e) := by
  refine m16 (12 * (z + 1)) (by omega) ?_
  rw [x16]
  exact w16a (fun x y h => s220) (fun x y h => s221) hz h2 hn hs hf hA hq z 0 none none (by omega)
theorem al19 {K : Int32 → PR} : aL (roL L xs) (HH A G e) 20019 K = K (Int32.ofNat 320) := aL_of (h := HH A G e) (n := 320) (by decide) (cell_arr (A := A) (G := G) (e := e) (k := 20019) (by decide) (by decide) rfl)
def qFn (w : Nat → Nat) (z : Nat) (Q : Nat → Int32) (i : Nat) : Nat → Int32 := fun j => if j < i then nI (wst w z (j / 64) (j % 64)) else Q j
theorem w15b {w : Nat → Nat} {z : Nat} {Q : Nat → Int32} {o1 : Option Value} {lk : Int32} (hz0 : 0 < z) (hz : z ≤ 8) (h2 : G 5 0 2 = nI z) (hA : ∀ k, k < z → ∀ t, t < 4 → A 20018 0 (4 * k + t) = nI (prt (w k) t)) : ∀ (r i : Nat), 64 ≤ i → i + r = 320 → EXn (roL L xs) p15 (CALL (roL L xs) mP mL (N + 5050) (d + 2)) (2 * (r + 1)) 54 [some (.ref 5000), o1, some (.int lk), some (.int (nI i))] [] (HH (upr A 20019 0 (qFn w z Q i)) G e) = some (some (.int lk), HH (upr A 20019 0 (qFn w z Q 320)) G e)
  | 0, i, h64, hi => by
    refine EXs_le (S := [17, 54]) (n := 0) 2 54 _ _ _ ?_
    have : i = 320 := by omega
    subst this
    rw [l15_54, rf5000_1, al19, if_neg (show ¬ nI 320 < Int32.ofNat 320 by decide)]
  | r + 1, i, h64, hi => by
    refine EXs_le (S := [17, 54]) (n := 2 * (r + 1)) 2 54 _ _ _ ?_
    have ih := w15b (o1 := o1) (lk := lk) (Q := Q) hz0 hz h2 hA r (i + 1) (by omega) (by omega)
    have hdv : nI i / 64 = nI (i / 64) := pk_div (d := 64) (by omega) (by decide) (by decide)
    have hrm : nI i - nI i / 64 * 64 = nI (i % 64) := pk_rem (d := 64) (by omega) (by decide) (by decide)
    obtain ⟨n, hn⟩ : ∃ n, i / 64 = n + 1 := ⟨i / 64 - 1, by omega⟩
    have hm : i % 64 < 64 := Nat.mod_lt _ (by decide)
    have c16 : CALL (roL L xs) mP mL (N + 5050) (d + 2) 16 [.ref 5000, .int (nI (i % 64)), .int (nI (n + 1))] (HH (upr A 20019 0 (qFn w z Q i)) G e) = some (some (.int (nI (fw (wst w z n) w (i % 64) z))), HH (upr A 20019 0 (qFn w z Q i)) G e) := by
      refine s16 hz h2 (by omega) hm (fun q hq => wst_le n q hq) (fun k hk t ht => hA k hk t ht) (fun q hq => ?_)
      rw [upr_a]
      unfold qFn
      rw [if_pos (by omega), show (64 * n + q) / 64 = n by omega, show (64 * n + q) % 64 = q by omega]
    rw [l15_54, rf5000_1, al19, if_pos (show nI i < Int32.ofNat 320 from nI_lt (by omega) (by decide)), rf5000_1, vo5000, hrm, hdv, hn, c16, cI_s, sa20019, ib_n (show i < 320 by omega) (by decide), nI_clamp (by omega), up3_upr, nI_1]
    have : upd (qFn w z Q i) i (nI (fw (wst w z n) w (i % 64) z)) = qFn w z Q (i + 1) := by
      funext j
      by_cases hj : j = i
      · subst hj
        simp only [upd, if_true, qFn]
        rw [if_pos (by omega), hn]
        congr 1
        simp only [wst]
        rw [if_neg (by omega)]
        rfl
      · simp only [upd, if_neg hj, qFn]
        have : j < i + 1 ↔ j < i := by omega
        simp only [this]
    rw [this]
    exact ih
theorem o_look (I : Inv A G e) (x : Int32) : Op L xs N (d + 40) 81 190 [.int x] A G e := by
  have I0 := I
  obtain ⟨i1, i2, i3, i4, i5, i6, i7, i8, i9, i10, i11, i12, i13, i14, i15, i16, i17, i18, i19, i20, i21, i22, i23, i24, i25⟩ := I
  obtain ⟨z, w, h1, h2, h3, h4, h5, h6⟩ := i4
  unfold Op
  by_cases g1 : (0 ≤ x ∧ x ≤ 4095)
  · by_cases hz : z < 8
    · obtain ⟨v, hv, rfl⟩ := g_n (x := x) 4096 (by decide) g1
      have k1 : nI z < 8 := nI_lt (b := 8) hz (by decide)
      have k2 : ¬ nI z = 8 := fun q => absurd ((nI_eq (b := 8) (by omega) (by decide)).mp q) (by omega)
      have hc := nI_clamp (n := z) (by omega)
      have hw' : ∀ k, k < z + 1 → (if k = z then v else w k) < 4096 := by
        intro k hk
        split
        · exact hv
        · exact (h4 k (by omega)).1
      have hP : A 20018 0 = pFn z v (A 20018 0) 0 := by
        funext j
        unfold pFn
        split
        · rename_i hj
          have := h5 z hz (j - 4 * z) (by omega)
          rw [if_neg (by omega), show 4 * z + (j - 4 * z) = j by omega] at this
          rw [this]
          rfl
        · rfl
      have hQ : A 20019 0 = qFn (fun k => if k = z then v else w k) (z + 1) (A 20019 0) 64 := by
        funext j
        unfold qFn
        split
        · rename_i hj
          have := h6 0 (by omega) j hj
          rw [show 64 * 0 + j = j by omega] at this
          rw [this, show j / 64 = 0 by omega, show j % 64 = j by omega]
          rfl
        · rfl
      have hA' : ∀ k, k < z + 1 → ∀ t, t < 4 → upr A 20018 0 (pFn z v (A 20018 0) 6) 20018 0 (4 * k + t) = nI (prt (if k = z then v else w k) t) := by
        intro k hk t ht
        rw [upr_a]
        unfold pFn
        by_cases hkz : k = z
        · subst hkz
          rw [if_pos (by omega), if_pos rfl, show 4 * k + t - 4 * k = t by omega, prt_e]
        · rw [if_neg (by omega), if_neg hkz]
          have := h5 k (by omega) t ht
          rw [if_pos (by omega)] at this
          exact this
      have s15 : CALL (roL L xs) mP mL (N + 5050) (d + 39) 15 [.ref 5000, .int (nI v)] (HH A G e) = some (some (.int (nI z)), HH (upr (upr A 20018 0 (pFn z v (A 20018 0) 6)) 20019 0 (qFn (fun k => if k = z then v else w k) (z + 1) (A 20019 0) 320)) (up3 G 5 0 2 (nI (z + 1))) e) := by
        refine m15 (2 * (256 + 1) + 2 * (6 + 1)) (by omega) ?_
        rw [x15, gf5000_2, gf5000_2, pf5000_2, h2, nI_1]
        have a := w15a (A := A) (G := up3 G 5 0 2 (nI (z + 1))) (e := e) (L := L) (xs := xs) (C := CALL (roL L xs) mP mL (N + 5050) (d + 38)) (P := A 20018 0) hz hv (w15b (A := upr A 20018 0 (pFn z v (A 20018 0) 6)) (G := up3 G 5 0 2 (nI (z + 1))) (d := d + 36) (Q := A 20019 0) (w := fun k => if k = z then v else w k) (z := z + 1) (o1 := some (.int (nI v))) (lk := nI z) (by omega) (by omega) up3_s hA' 256 64 (by omega) (by omega) |> fun t => by
            rw [← hQ] at t
            rw [show upr (upr A 20018 0 (pFn z v (A 20018 0) 6)) 20019 0 (A 20019 0) = upr A 20018 0 (pFn z v (A 20018 0) 6) by rw [upr_x (by decide), upr_self]] at t
            exact t) 6 0 (by omega)
        rw [← hP, upr_self] at a
        exact a
      (simp only [↓m81, ↓vo0, ↓rf0_0, ↓gf0_1, ↓vo1000, ↓rf1000_0, ↓rf1000_1, ↓vo2000, ↓rf2000_0, ↓rf2000_1, ↓rf2000_2, ↓rf2000_3, ↓vo5000, ↓rf5000_0, ↓rf5000_1, ↓gf5000_2, ↓vo6000, ↓rf6000_0, ↓rf6000_1, ↓gf6000_2, ↓gf6000_3, ↓gf6000_4, ↓vo9000, ↓rf9000_0, ↓rf9000_1, ↓gf9000_2, ↓rf9000_3, ↓rf9000_4, ↓vo10000, ↓rf10000_0, ↓rf10000_1, ↓rf10000_2, ↓rf10000_3, ↓rf10000_4, ↓rf10000_5, ↓rf10000_6, ↓rf10000_7, ↓rf10000_8, ↓rf10000_9, ↓rf10000_10, ↓rf10000_11, ↓rf10000_12, ↓gf10000_13, ↓gf10000_14, ↓gf10000_15, ↓gf10000_16, ↓gf10000_17, ↓vo11000, ↓gf11000_0, ↓gf11000_1, ↓rf11000_2, ↓rf11000_3, ↓rf11000_4, ↓rf11000_5, ↓rf11000_6, ↓rf11000_7, ↓rf11000_8, ↓rf11000_9, ↓rf11000_10, ↓rf11000_11, ↓rf11000_12, ↓rf11000_13, ↓rf11000_14, ↓rf11000_15, ↓rf11000_16, ↓rf11000_17, ↓gf11000_18, ↓rf11000_19, ↓rf11000_20, ↓rf11000_21, ↓rf11000_22, ↓rf11000_23, ↓rf11000_24, ↓rf11000_25, ↓rf11000_26, ↓rf11000_27, ↓rf11000_28, ↓gf11000_29, ↓gf11000_30, ↓gf11000_31, ↓gf11000_32, ↓rf11000_33, ↓gf11000_34, ↓gf11000_35, ↓gf11000_36, ↓rf11000_37, ↓rf11000_38, ↓rf11000_39, ↓rf11000_40, ↓rf11000_41, ↓gf11000_42, ↓gf11000_43, ↓gf11000_44, ↓rf11000_45, ↓rf11000_46, ↓gf11000_47, ↓gf11000_48, ↓gf11000_49, ↓gf11000_50, ↓rf11000_51, ↓rf11000_52, ↓gf11000_53, ↓rf11000_54, ↓rf11000_55, ↓rf11000_56, ↓rf11000_57, ↓rf11000_58, ↓vo4000, ↓gf4000_0, ↓gf4000_1, ↓gf4000_2, ↓gf4000_3, ↓gf4000_4, ↓gf4000_5, ↓gf4000_6, ↓gf4000_7, ↓gf4000_8, ↓rf4000_9, ↓vo4001, ↓gf4001_0, ↓gf4001_1, ↓gf4001_2, ↓gf4001_3, ↓gf4001_4, ↓gf4001_5, ↓gf4001_6, ↓gf4001_7, ↓gf4001_8, ↓rf4001_9, ↓ga20000, ↓ga20001, ↓ga20002, ↓ga20003, ↓ga20004, ↓ga20005, ↓ga20009, ↓ga20010, ↓ga20012, ↓ga20013, ↓ga20015, ↓ga20016, ↓ga20017, ↓ga20018, ↓ga20019, ↓ga20020, ↓ga20022, ↓ga20023, ↓ga20024, ↓ga20025, ↓ga20026, ↓ga20027, ↓ga20028, ↓ga20029, ↓ga20030, ↓ga20031, ↓ga20032, ↓ga20033, ↓ga20034, ↓ga20035, ↓ga20036, ↓ga20037, ↓ga20038, ↓ga20039, ↓ga20040, ↓ga20041, ↓ga20042, ↓ga20043, ↓ga20044, ↓ga20045, ↓ga20046, ↓ga20047, ↓ga20048, ↓ga20049, ↓ga20050, ↓ga20051, ↓ga20052, ↓ga20053, ↓ga20054, ↓ga20055, ↓ga20056, ↓ga20057, ↓ga20058, ↓ga20059, ↓ga20060, ↓ga20061, ↓ga20062, ↓ga20063, ↓ga20064, ↓ga20065, ↓ga20066, ↓ga20067, ↓ga20068, ↓pf0_1, ↓pf5000_2, ↓pf6000_2, ↓pf6000_3, ↓pf6000_4, ↓pf9000_2, ↓pf10000_13, ↓pf10000_14, ↓pf10000_15, ↓pf10000_16, ↓pf10000_17, ↓pf11000_0, ↓pf11000_1, ↓pf11000_18, ↓pf11000_29, ↓pf11000_30, ↓pf11000_31, ↓pf11000_32, ↓pf11000_34, ↓pf11000_35, ↓pf11000_36, ↓pf11000_42, ↓pf11000_43, ↓pf11000_44, ↓pf11000_47, ↓pf11000_48, ↓pf11000_49, ↓pf11000_50, ↓pf11000_53, ↓pf4000_0, ↓pf4000_1, ↓pf4000_2, ↓pf4000_3, ↓pf4000_4, ↓pf4000_5, ↓pf4000_6, ↓pf4000_7, ↓pf4000_8, ↓pf4001_0, ↓pf4001_1, ↓pf4001_2, ↓pf4001_3, ↓pf4001_4, ↓pf4001_5, ↓pf4001_6, ↓pf4001_7, ↓pf4001_8, ↓sa20000, ↓sa20001, ↓sa20002, ↓sa20003, ↓sa20004, ↓sa20005, ↓sa20009, ↓sa20010, ↓sa20012, ↓sa20013, ↓sa20015, ↓sa20016, ↓sa20017, ↓sa20018, ↓sa20019, ↓sa20020, ↓sa20022, ↓sa20023, ↓sa20024, ↓sa20025, ↓sa20026, ↓sa20027, ↓sa20028, ↓sa20029, ↓sa20030, ↓sa20031, ↓sa20032, ↓sa20033, ↓sa20034, ↓sa20035, ↓sa20036, ↓sa20037, ↓sa20038, ↓sa20039, ↓sa20040, ↓sa20041, ↓sa20042, ↓sa20043, ↓sa20044, ↓sa20045, ↓sa20046, ↓sa20047, ↓sa20048, ↓sa20049, ↓sa20050, ↓sa20051, ↓sa20052, ↓sa20053, ↓sa20054, ↓sa20055, ↓sa20056, ↓sa20057, ↓sa20058, ↓sa20059, ↓sa20060, ↓sa20061, ↓sa20062, ↓sa20063, ↓sa20064, ↓sa20065, ↓sa20066, ↓sa20067, ↓sa20068, ↓s93, ↓s94, ↓s95, ↓s96, ↓s97, ↓s98, ↓s99, ↓s100, ↓s101, ↓s104, ↓s105, ↓s106, ↓s125, ↓s126, ↓s127, ↓s219, ↓s220, ↓s221, ↓h128, ↓h129, ↓h130, ↓h131, ↓s132, ↓h157, ↓h194, ↓h211, ↓cI_s, ↓cV_s, ↓cR_s, ↓cR_n, ↓reduceIte, ↓bI_01, ↓ro0, ↓ro1, ↓ro2, ↓ro3, ↓rol3, up3_s, up3_c, ne_eq, Nat.reduceEqDiff, Wp_s, bI_z, not_true_eq_false, not_false_eq_true, and_self, and_true, true_and, and_false, false_and, if_true, if_false, Classical.not_not, h2, h3, g1, k1, k2, s15, hc, ib_n hz (by decide), nI_1, nI_pred]; simp only [↓m190, ↓vo0, ↓rf0_0, ↓gf0_1, ↓vo1000, ↓rf1000_0, ↓rf1000_1, ↓vo2000, ↓rf2000_0, ↓rf2000_1, ↓rf2000_2, ↓rf2000_3, ↓vo5000, ↓rf5000_0, ↓rf5000_1, ↓gf5000_2, ↓vo6000, ↓rf6000_0, ↓rf6000_1, ↓gf6000_2, ↓gf6000_3, ↓gf6000_4, ↓vo9000, ↓rf9000_0, ↓rf9000_1, ↓gf9000_2, ↓rf9000_3, ↓rf9000_4, ↓vo10000, ↓rf10000_0, ↓rf10000_1, ↓rf10000_2, ↓rf10000_3, ↓rf10000_4, ↓rf10000_5, ↓rf10000_6, ↓rf10000_7, ↓rf10000_8, ↓rf10000_9, ↓rf10000_10, ↓rf10000_11, ↓rf10000_12, ↓gf10000_13, ↓gf10000_14, ↓gf10000_15, ↓gf10000_16, ↓gf10000_17, ↓vo11000, ↓gf11000_0, ↓gf11000_1, ↓rf11000_2, ↓rf11000_3, ↓rf11000_4, ↓rf11000_5, ↓rf11000_6, ↓rf11000_7, ↓rf11000_8, ↓rf11000_9, ↓rf11000_10, ↓rf11000_11, ↓rf11000_12, ↓rf11000_13, ↓rf11000_14, ↓rf11000_15, ↓rf11000_16, ↓rf11000_17, ↓gf11000_18, ↓rf11000_19, ↓rf11000_20, ↓rf11000_21, ↓rf11000_22, ↓rf11000_23, ↓rf11000_24, ↓rf11000_25, ↓rf11000_26, ↓rf11000_27, ↓rf11000_28, ↓gf11000_29, ↓gf11000_30, ↓gf11000_31, ↓gf11000_32, ↓rf11000_33, ↓gf11000_34, ↓gf11000_35, ↓gf11000_36, ↓rf11000_37, ↓rf11000_38, ↓rf11000_39, ↓rf11000_40, ↓rf11000_41, ↓gf11000_42, ↓gf11000_43, ↓gf11000_44, ↓rf11000_45, ↓rf11000_46, ↓gf11000_47, ↓gf11000_48, ↓gf11000_49, ↓gf11000_50, ↓rf11000_51, ↓rf11000_52, ↓gf11000_53, ↓rf11000_54, ↓rf11000_55, ↓rf11000_56, ↓rf11000_57, ↓rf11000_58, ↓vo4000, ↓gf4000_0, ↓gf4000_1, ↓gf4000_2, ↓gf4000_3, ↓gf4000_4, ↓gf4000_5, ↓gf4000_6, ↓gf4000_7, ↓gf4000_8, ↓rf4000_9, ↓vo4001, ↓gf4001_0, ↓gf4001_1, ↓gf4001_2, ↓gf4001_3, ↓gf4001_4, ↓gf4001_5, ↓gf4001_6, ↓gf4001_7, ↓gf4001_8, ↓rf4001_9, ↓ga20000, ↓ga20001, ↓ga20002, ↓ga20003, ↓ga20004, ↓ga20005, ↓ga20009, ↓ga20010, ↓ga20012, ↓ga20013, ↓ga20015, ↓ga20016, ↓ga20017, ↓ga20018, ↓ga20019, ↓ga20020, ↓ga20022, ↓ga20023, ↓ga20024, ↓ga20025, ↓ga20026, ↓ga20027, ↓ga20028, ↓ga20029, ↓ga20030, ↓ga20031, ↓ga20032, ↓ga20033, ↓ga20034, ↓ga20035, ↓ga20036, ↓ga20037, ↓ga20038, ↓ga20039, ↓ga20040, ↓ga20041, ↓ga20042, ↓ga20043, ↓ga20044, ↓ga20045, ↓ga20046, ↓ga20047, ↓ga20048, ↓ga20049, ↓ga20050, ↓ga20051, ↓ga20052, ↓ga20053, ↓ga20054, ↓ga20055, ↓ga20056, ↓ga20057, ↓ga20058, ↓ga20059, ↓ga20060, ↓ga20061, ↓ga20062, ↓ga20063, ↓ga20064, ↓ga20065, ↓ga20066, ↓ga20067, ↓ga20068, ↓pf0_1, ↓pf5000_2, ↓pf6000_2, ↓pf6000_3, ↓pf6000_4, ↓pf9000_2, ↓pf10000_13, ↓pf10000_14, ↓pf10000_15, ↓pf10000_16, ↓pf10000_17, ↓pf11000_0, ↓pf11000_1, ↓pf11000_18, ↓pf11000_29, ↓pf11000_30, ↓pf11000_31, ↓pf11000_32, ↓pf11000_34, ↓pf11000_35, ↓pf11000_36, ↓pf11000_42, ↓pf11000_43, ↓pf11000_44, ↓pf11000_47, ↓pf11000_48, ↓pf11000_49, ↓pf11000_50, ↓pf11000_53, ↓pf4000_0, ↓pf4000_1, ↓pf4000_2, ↓pf4000_3, ↓pf4000_4, ↓pf4000_5, ↓pf4000_6, ↓pf4000_7, ↓pf4000_8, ↓pf4001_0, ↓pf4001_1, ↓pf4001_2, ↓pf4001_3, ↓pf4001_4, ↓pf4001_5, ↓pf4001_6, ↓pf4001_7, ↓pf4001_8, ↓sa20000, ↓sa20001, ↓sa20002, ↓sa20003, ↓sa20004, ↓sa20005, ↓sa20009, ↓sa20010, ↓sa20012, ↓sa20013, ↓sa20015, ↓sa20016, ↓sa20017, ↓sa20018, ↓sa20019, ↓sa20020, ↓sa20022, ↓sa20023, ↓sa20024, ↓sa20025, ↓sa20026, ↓sa20027, ↓sa20028, ↓sa20029, ↓sa20030, ↓sa20031, ↓sa20032, ↓sa20033, ↓sa20034, ↓sa20035, ↓sa20036, ↓sa20037, ↓sa20038, ↓sa20039, ↓sa20040, ↓sa20041, ↓sa20042, ↓sa20043, ↓sa20044, ↓sa20045, ↓sa20046, ↓sa20047, ↓sa20048, ↓sa20049, ↓sa20050, ↓sa20051, ↓sa20052, ↓sa20053, ↓sa20054, ↓sa20055, ↓sa20056, ↓sa20057, ↓sa20058, ↓sa20059, ↓sa20060, ↓sa20061, ↓sa20062, ↓sa20063, ↓sa20064, ↓sa20065, ↓sa20066, ↓sa20067, ↓sa20068, ↓s93, ↓s94, ↓s95, ↓s96, ↓s97, ↓s98, ↓s99, ↓s100, ↓s101, ↓s104, ↓s105, ↓s106, ↓s125, ↓s126, ↓s127, ↓s219, ↓s220, ↓s221, ↓h128, ↓h129, ↓h130, ↓h131, ↓s132, ↓h157, ↓h194, ↓h211, ↓cI_s, ↓cV_s, ↓cR_s, ↓cR_n, ↓reduceIte, ↓bI_01, ↓ro0, ↓ro1, ↓ro2, ↓ro3, ↓rol3, up3_s, up3_c, ne_eq, Nat.reduceEqDiff, Wp_s, bI_z, not_true_eq_false, not_false_eq_true, and_self, and_true, true_and, and_false, false_and, if_true, if_false, Classical.not_not, h2, h3, g1, k1, k2, s15, hc, ib_n hz (by decide), nI_1, nI_pred])
      refine IH_i ⟨i1, i2, i3, ?_, i5, i6, i7, i8, i9, i10, i11, i12, i13, i14, i15, i16, i17, i18, i19, i20, i21, i22, i23, i24, i25⟩
      refine ⟨z + 1, fun k => if k = z then v else w k, by omega, rfl, rfl, fun k hk => ⟨hw' k hk, ?_⟩, fun k hk t ht => ?_, fun n hn s hs => ?_⟩
      · show upd (A 20062 0) z (nI v) k = nI (if k = z then v else w k)
        simp only [upd]
        split
        · rfl
        · exact (h4 k (by omega)).2
      · by_cases hkz : k < z + 1
        · rw [if_pos hkz]
          exact hA' k hkz t ht
        · rw [if_neg hkz]
          show pFn z v (A 20018 0) 6 (4 * k + t) = 0
          unfold pFn
          rw [if_neg (by omega)]
          have := h5 k hk t ht
          rw [if_neg (by omega)] at this
          exact this
      · show qFn (fun k => if k = z then v else w k) (z + 1) (A 20019 0) 320 (64 * n + s) = _
        unfold qFn
        rw [if_pos (by omega), show (64 * n + s) / 64 = n by omega, show (64 * n + s) % 64 = s by omega]
    · have : z = 8 := by omega
      subst this
      have k1 : ¬ nI 8 < 8 := by decide
      have k2 : nI 8 = 8 := by decide
      (simp only [↓m81, ↓vo0, ↓rf0_0, ↓gf0_1, ↓vo1000, ↓rf1000_0, ↓rf1000_1, ↓vo2000, ↓rf2000_0, ↓rf2000_1, ↓rf2000_2, ↓rf2000_3, ↓vo5000, ↓rf5000_0, ↓rf5000_1, ↓gf5000_2, ↓vo6000, ↓rf6000_0, ↓rf6000_1, ↓gf6000_2, ↓gf6000_3, ↓gf6000_4, ↓vo9000, ↓rf9000_0, ↓rf9000_1, ↓gf9000_2, ↓rf9000_3, ↓rf9000_4, ↓vo10000, ↓rf10000_0, ↓rf10000_1, ↓rf10000_2, ↓rf10000_3, ↓rf10000_4, ↓rf10000_5, ↓rf10000_6, ↓rf10000_7, ↓rf10000_8, ↓rf10000_9, ↓rf10000_10, ↓rf10000_11, ↓rf10000_12, ↓gf10000_13, ↓gf10000_14, ↓gf10000_15, ↓gf10000_16, ↓gf10000_17, ↓vo11000, ↓gf11000_0, ↓gf11000_1, ↓rf11000_2, ↓rf11000_3, ↓rf11000_4, ↓rf11000_5, ↓rf11000_6, ↓rf11000_7, ↓rf11000_8, ↓rf11000_9, ↓rf11000_10, ↓rf11000_11, ↓rf11000_12, ↓rf11000_13, ↓rf11000_14, ↓rf11000_15, ↓rf11000_16, ↓rf11000_17, ↓gf11000_18, ↓rf11000_19, ↓rf11000_20, ↓rf11000_21, ↓rf11000_22, ↓rf11000_23, ↓rf11000_24, ↓rf11000_25, ↓rf11000_26, ↓rf11000_27, ↓rf11000_28, ↓gf11000_29, ↓gf11000_30, ↓gf11000_31, ↓gf11000_32, ↓rf11000_33, ↓gf11000_34, ↓gf11000_35, ↓gf11000_36, ↓rf11000_37, ↓rf11000_38, ↓rf11000_39, ↓rf11000_40, ↓rf11000_41, ↓gf11000_42, ↓gf11000_43, ↓gf11000_44, ↓rf11000_45, ↓rf11000_46, ↓gf11000_47, ↓gf11000_48, ↓gf11000_49, ↓gf11000_50, ↓rf11000_51, ↓rf11000_52, ↓gf11000_53, ↓rf11000_54, ↓rf11000_55, ↓rf11000_56, ↓rf11000_57, ↓rf11000_58, ↓vo4000, ↓gf4000_0, ↓gf4000_1, ↓gf4000_2, ↓gf4000_3, ↓gf4000_4, ↓gf4000_5, ↓gf4000_6, ↓gf4000_7, ↓gf4000_8, ↓rf4000_9, ↓vo4001, ↓gf4001_0, ↓gf4001_1, ↓gf4001_2, ↓gf4001_3, ↓gf4001_4, ↓gf4001_5, ↓gf4001_6, ↓gf4001_7, ↓gf4001_8, ↓rf4001_9, ↓ga20000, ↓ga20001, ↓ga20002, ↓ga20003, ↓ga20004, ↓ga20005, ↓ga20009, ↓ga20010, ↓ga20012, ↓ga20013, ↓ga20015, ↓ga20016, ↓ga20017, ↓ga20018, ↓ga20019, ↓ga20020, ↓ga20022, ↓ga20023, ↓ga20024, ↓ga20025, ↓ga20026, ↓ga20027, ↓ga20028, ↓ga20029, ↓ga20030, ↓ga20031, ↓ga20032, ↓ga20033, ↓ga20034, ↓ga20035, ↓ga20036, ↓ga20037, ↓ga20038, ↓ga20039, ↓ga20040, ↓ga20041, ↓ga20042, ↓ga20043, ↓ga20044, ↓ga20045, ↓ga20046, ↓ga20047, ↓ga20048, ↓ga20049, ↓ga20050, ↓ga20051, ↓ga20052, ↓ga20053, ↓ga20054, ↓ga20055, ↓ga20056, ↓ga20057, ↓ga20058, ↓ga20059, ↓ga20060, ↓ga20061, ↓ga20062, ↓ga20063, ↓ga20064, ↓ga20065, ↓ga20066, ↓ga20067, ↓ga20068, ↓pf0_1, ↓pf5000_2, ↓pf6000_2, ↓pf6000_3, ↓pf6000_4, ↓pf9000_2, ↓pf10000_13, ↓pf10000_14, ↓pf10000_15, ↓pf10000_16, ↓pf10000_17, ↓pf11000_0, ↓pf11000_1, ↓pf11000_18, ↓pf11000_29, ↓pf11000_30, ↓pf11000_31, ↓pf11000_32, ↓pf11000_34, ↓pf11000_35, ↓pf11000_36, ↓pf11000_42, ↓pf11000_43, ↓pf11000_44, ↓pf11000_47, ↓pf11000_48, ↓pf11000_49, ↓pf11000_50, ↓pf11000_53, ↓pf4000_0, ↓pf4000_1, ↓pf4000_2, ↓pf4000_3, ↓pf4000_4, ↓pf4000_5, ↓pf4000_6, ↓pf4000_7, ↓pf4000_8, ↓pf4001_0, ↓pf4001_1, ↓pf4001_2, ↓pf4001_3, ↓pf4001_4, ↓pf4001_5, ↓pf4001_6, ↓pf4001_7, ↓pf4001_8, ↓sa20000, ↓sa20001, ↓sa20002, ↓sa20003, ↓sa20004, ↓sa20005, ↓sa20009, ↓sa20010, ↓sa20012, ↓sa20013, ↓sa20015, ↓sa20016, ↓sa20017, ↓sa20018, ↓sa20019, ↓sa20020, ↓sa20022, ↓sa20023, ↓sa20024, ↓sa20025, ↓sa20026, ↓sa20027, ↓sa20028, ↓sa20029, ↓sa20030, ↓sa20031, ↓sa20032, ↓sa20033, ↓sa20034, ↓sa20035, ↓sa20036, ↓sa20037, ↓sa20038, ↓sa20039, ↓sa20040, ↓sa20041, ↓sa20042, ↓sa20043, ↓sa20044, ↓sa20045, ↓sa20046, ↓sa20047, ↓sa20048, ↓sa20049, ↓sa20050, ↓sa20051, ↓sa20052, ↓sa20053, ↓sa20054, ↓sa20055, ↓sa20056, ↓sa20057, ↓sa20058, ↓sa20059, ↓sa20060, ↓sa20061, ↓sa20062, ↓sa20063, ↓sa20064, ↓sa20065, ↓sa20066, ↓sa20067, ↓sa20068, ↓s93, ↓s94, ↓s95, ↓s96, ↓s97, ↓s98, ↓s99, ↓s100, ↓s101, ↓s104, ↓s105, ↓s106, ↓s125, ↓s126, ↓s127, ↓s219, ↓s220, ↓s221, ↓h128, ↓h129, ↓h130, ↓h131, ↓s132, ↓h157, ↓h194, ↓h211, ↓cI_s, ↓cV_s, ↓cR_s, ↓cR_n, ↓reduceIte, ↓bI_01, ↓ro0, ↓ro1, ↓ro2, ↓ro3, ↓rol3, up3_s, up3_c, ne_eq, Nat.reduceEqDiff, Wp_s, bI_z, not_true_eq_false, not_false_eq_true, and_self, and_true, true_and, and_false, false_and, if_true, if_false, Classical.not_not, h2, h3, g1, k1, eq_true k2]; simp only [↓m190, ↓vo0, ↓rf0_0, ↓gf0_1, ↓vo1000, ↓rf1000_0, ↓rf1000_1, ↓vo2000, ↓rf2000_0, ↓rf2000_1, ↓rf2000_2, ↓rf2000_3, ↓vo5000, ↓rf5000_0, ↓rf5000_1, ↓gf5000_2, ↓vo6000, ↓rf6000_0, ↓rf6000_1, ↓gf6000_2, ↓gf6000_3, ↓gf6000_4, ↓vo9000, ↓rf9000_0, ↓rf9000_1, ↓gf9000_2, ↓rf9000_3, ↓rf9000_4, ↓vo10000, ↓rf10000_0, ↓rf10000_1, ↓rf10000_2, ↓rf10000_3, ↓rf10000_4, ↓rf10000_5, ↓rf10000_6, ↓rf10000_7, ↓rf10000_8, ↓rf10000_9, ↓rf10000_10, ↓rf10000_11, ↓rf10000_12, ↓gf10000_13, ↓gf10000_14, ↓gf10000_15, ↓gf10000_16, ↓gf10000_17, ↓vo11000, ↓gf11000_0, ↓gf11000_1, ↓rf11000_2, ↓rf11000_3, ↓rf11000_4, ↓rf11000_5, ↓rf11000_6, ↓rf11000_7, ↓rf11000_8, ↓rf11000_9, ↓rf11000_10, ↓rf11000_11, ↓rf11000_12, ↓rf11000_13, ↓rf11000_14, ↓rf11000_15, ↓rf11000_16, ↓rf11000_17, ↓gf11000_18, ↓rf11000_19, ↓rf11000_20, ↓rf11000_21, ↓rf11000_22, ↓rf11000_23, ↓rf11000_24, ↓rf11000_25, ↓rf11000_26, ↓rf11000_27, ↓rf11000_28, ↓gf11000_29, ↓gf11000_30, ↓gf11000_31, ↓gf11000_32, ↓rf11000_33, ↓gf11000_34, ↓gf11000_35, ↓gf11000_36, ↓rf11000_37, ↓rf11000_38, ↓rf11000_39, ↓rf11000_40, ↓rf11000_41, ↓gf11000_42, ↓gf11000_43, ↓gf11000_44, ↓rf11000_45, ↓rf11000_46, ↓gf11000_47, ↓gf11000_48, ↓gf11000_49, ↓gf11000_50, ↓rf11000_51, ↓rf11000_52, ↓gf11000_53, ↓rf11000_54, ↓rf11000_55, ↓rf11000_56, ↓rf11000_57, ↓rf11000_58, ↓vo4000, ↓gf4000_0, ↓gf4000_1, ↓gf4000_2, ↓gf4000_3, ↓gf4000_4, ↓gf4000_5, ↓gf4000_6, ↓gf4000_7, ↓gf4000_8, ↓rf4000_9, ↓vo4001, ↓gf4001_0, ↓gf4001_1, ↓gf4001_2, ↓gf4001_3, ↓gf4001_4, ↓gf4001_5, ↓gf4001_6, ↓gf4001_7, ↓gf4001_8, ↓rf4001_9, ↓ga20000, ↓ga20001, ↓ga20002, ↓ga20003, ↓ga20004, ↓ga20005, ↓ga20009, ↓ga20010, ↓ga20012, ↓ga20013, ↓ga20015, ↓ga20016, ↓ga20017, ↓ga20018, ↓ga20019, ↓ga20020, ↓ga20022, ↓ga20023, ↓ga20024, ↓ga20025, ↓ga20026, ↓ga20027, ↓ga20028, ↓ga20029, ↓ga20030, ↓ga20031, ↓ga20032, ↓ga20033, ↓ga20034, ↓ga20035, ↓ga20036, ↓ga20037, ↓ga20038, ↓ga20039, ↓ga20040, ↓ga20041, ↓ga20042, ↓ga20043, ↓ga20044, ↓ga20045, ↓ga20046, ↓ga20047, ↓ga20048, ↓ga20049, ↓ga20050, ↓ga20051, ↓ga20052, ↓ga20053, ↓ga20054, ↓ga20055, ↓ga20056, ↓ga20057, ↓ga20058, ↓ga20059, ↓ga20060, ↓ga20061, ↓ga20062, ↓ga20063, ↓ga20064, ↓ga20065, ↓ga20066, ↓ga20067, ↓ga20068, ↓pf0_1, ↓pf5000_2, ↓pf6000_2, ↓pf6000_3, ↓pf6000_4, ↓pf9000_2, ↓pf10000_13, ↓pf10000_14, ↓pf10000_15, ↓pf10000_16, ↓pf10000_17, ↓pf11000_0, ↓pf11000_1, ↓pf11000_18, ↓pf11000_29, ↓pf11000_30, ↓pf11000_31, ↓pf11000_32, ↓pf11000_34, ↓pf11000_35, ↓pf11000_36, ↓pf11000_42, ↓pf11000_43, ↓pf11000_44, ↓pf11000_47, ↓pf11000_48, ↓pf11000_49, ↓pf11000_50, ↓pf11000_53, ↓pf4000_0, ↓pf4000_1, ↓pf4000_2, ↓pf4000_3, ↓pf4000_4, ↓pf4000_5, ↓pf4000_6, ↓pf4000_7, ↓pf4000_8, ↓pf4001_0, ↓pf4001_1, ↓pf4001_2, ↓pf4001_3, ↓pf4001_4, ↓pf4001_5, ↓pf4001_6, ↓pf4001_7, ↓pf4001_8, ↓sa20000, ↓sa20001, ↓sa20002, ↓sa20003, ↓sa20004, ↓sa20005, ↓sa20009, ↓sa20010, ↓sa20012, ↓sa20013, ↓sa20015, ↓sa20016, ↓sa20017, ↓sa20018, ↓sa20019, ↓sa20020, ↓sa20022, ↓sa20023, ↓sa20024, ↓sa20025, ↓sa20026, ↓sa20027, ↓sa20028, ↓sa20029, ↓sa20030, ↓sa20031, ↓sa20032, ↓sa20033, ↓sa20034, ↓sa20035, ↓sa20036, ↓sa20037, ↓sa20038, ↓sa20039, ↓sa20040, ↓sa20041, ↓sa20042, ↓sa20043, ↓sa20044, ↓sa20045, ↓sa20046, ↓sa20047, ↓sa20048, ↓sa20049, ↓sa20050, ↓sa20051, ↓sa20052, ↓sa20053, ↓sa20054, ↓sa20055, ↓sa20056, ↓sa20057, ↓sa20058, ↓sa20059, ↓sa20060, ↓sa20061, ↓sa20062, ↓sa20063, ↓sa20064, ↓sa20065, ↓sa20066, ↓sa20067, ↓sa20068, ↓s93, ↓s94, ↓s95, ↓s96, ↓s97, ↓s98, ↓s99, ↓s100, ↓s101, ↓s104, ↓s105, ↓s106, ↓s125, ↓s126, ↓s127, ↓s219, ↓s220, ↓s221, ↓h128, ↓h129, ↓h130, ↓h131, ↓s132, ↓h157, ↓h194, ↓h211, ↓cI_s, ↓cV_s, ↓cR_s, ↓cR_n, ↓reduceIte, ↓bI_01, ↓ro0, ↓ro1, ↓ro2, ↓ro3, ↓rol3, up3_s, up3_c, ne_eq, Nat.reduceEqDiff, Wp_s, bI_z, not_true_eq_false, not_false_eq_true, and_self, and_true, true_and, and_false, false_and, if_true, if_false, Classical.not_not, h2, h3, g1, k1, eq_true k2])
      exact IH_i I0
  · (simp only [↓m81, ↓vo0, ↓rf0_0, ↓gf0_1, ↓vo1000, ↓rf1000_0, ↓rf1000_1, ↓vo2000, ↓rf2000_0, ↓rf2000_1, ↓rf2000_2, ↓rf2000_3, ↓vo5000, ↓rf5000_0, ↓rf5000_1, ↓gf5000_2, ↓vo6000, ↓rf6000_0, ↓rf6000_1, ↓gf6000_2, ↓gf6000_3, ↓gf6000_4, ↓vo9000, ↓rf9000_0, ↓rf9000_1, ↓gf9000_2, ↓rf9000_3, ↓rf9000_4, ↓vo10000, ↓rf10000_0, ↓rf10000_1, ↓rf10000_2, ↓rf10000_3, ↓rf10000_4, ↓rf10000_5, ↓rf10000_6, ↓rf10000_7, ↓rf10000_8, ↓rf10000_9, ↓rf10000_10, ↓rf10000_11, ↓rf10000_12, ↓gf10000_13, ↓gf10000_14, ↓gf10000_15, ↓gf10000_16, ↓gf10000_17, ↓vo11000, ↓gf11000_0, ↓gf11000_1, ↓rf11000_2, ↓rf11000_3, ↓rf11000_4, ↓rf11000_5, ↓rf11000_6, ↓rf11000_7, ↓rf11000_8, ↓rf11000_9, ↓rf11000_10, ↓rf11000_11, ↓rf11000_12, ↓rf11000_13, ↓rf11000_14, ↓rf11000_15, ↓rf11000_16, ↓rf11000_17, ↓gf11000_18, ↓rf11000_19, ↓rf11000_20, ↓rf11000_21, ↓rf11000_22, ↓rf11000_23, ↓rf11000_24, ↓rf11000_25, ↓rf11000_26, ↓rf11000_27, ↓rf11000_28, ↓gf11000_29, ↓gf11000_30, ↓gf11000_31, ↓gf11000_32, ↓rf11000_33, ↓gf11000_34, ↓gf11000_35, ↓gf11000_36, ↓rf11000_37, ↓rf11000_38, ↓rf11000_39, ↓rf11000_40, ↓rf11000_41, ↓gf11000_42, ↓gf11000_43, ↓gf11000_44, ↓rf11000_45, ↓rf11000_46, ↓gf11000_47, ↓gf11000_48, ↓gf11000_49, ↓gf11000_50, ↓rf11000_51, ↓rf11000_52, ↓gf11000_53, ↓rf11000_54, ↓rf11000_55, ↓rf11000_56, ↓rf11000_57, ↓rf11000_58, ↓vo4000, ↓gf4000_0, ↓gf4000_1, ↓gf4000_2, ↓gf4000_3, ↓gf4000_4, ↓gf4000_5, ↓gf4000_6, ↓gf4000_7, ↓gf4000_8, ↓rf4000_9, ↓vo4001, ↓gf4001_0, ↓gf4001_1, ↓gf4001_2, ↓gf4001_3, ↓gf4001_4, ↓gf4001_5, ↓gf4001_6, ↓gf4001_7, ↓gf4001_8, ↓rf4001_9, ↓ga20000, ↓ga20001, ↓ga20002, ↓ga20003, ↓ga20004, ↓ga20005, ↓ga20009, ↓ga20010, ↓ga20012, ↓ga20013, ↓ga20015, ↓ga20016, ↓ga20017, ↓ga20018, ↓ga20019, ↓ga20020, ↓ga20022, ↓ga20023, ↓ga20024, ↓ga20025, ↓ga20026, ↓ga20027, ↓ga20028, ↓ga20029, ↓ga20030, ↓ga20031, ↓ga20032, ↓ga20033, ↓ga20034, ↓ga20035, ↓ga20036, ↓ga20037, ↓ga20038, ↓ga20039, ↓ga20040, ↓ga20041, ↓ga20042, ↓ga20043, ↓ga20044, ↓ga20045, ↓ga20046, ↓ga20047, ↓ga20048, ↓ga20049, ↓ga20050, ↓ga20051, ↓ga20052, ↓ga20053, ↓ga20054, ↓ga20055, ↓ga20056, ↓ga20057, ↓ga20058, ↓ga20059, ↓ga20060, ↓ga20061, ↓ga20062, ↓ga20063, ↓ga20064, ↓ga20065, ↓ga20066, ↓ga20067, ↓ga20068, ↓pf0_1, ↓pf5000_2, ↓pf6000_2, ↓pf6000_3, ↓pf6000_4, ↓pf9000_2, ↓pf10000_13, ↓pf10000_14, ↓pf10000_15, ↓pf10000_16, ↓pf10000_17, ↓pf11000_0, ↓pf11000_1, ↓pf11000_18, ↓pf11000_29, ↓pf11000_30, ↓pf11000_31, ↓pf11000_32, ↓pf11000_34, ↓pf11000_35, ↓pf11000_36, ↓pf11000_42, ↓pf11000_43, ↓pf11000_44, ↓pf11000_47, ↓pf11000_48, ↓pf11000_49, ↓pf11000_50, ↓pf11000_53, ↓pf4000_0, ↓pf4000_1, ↓pf4000_2, ↓pf4000_3, ↓pf4000_4, ↓pf4000_5, ↓pf4000_6, ↓pf4000_7, ↓pf4000_8, ↓pf4001_0, ↓pf4001_1, ↓pf4001_2, ↓pf4001_3, ↓pf4001_4, ↓pf4001_5, ↓pf4001_6, ↓pf4001_7, ↓pf4001_8, ↓sa20000, ↓sa20001, ↓sa20002, ↓sa20003, ↓sa20004, ↓sa20005, ↓sa20009, ↓sa20010, ↓sa20012, ↓sa20013, ↓sa20015, ↓sa20016, ↓sa20017, ↓sa20018, ↓sa20019, ↓sa20020, ↓sa20022, ↓sa20023, ↓sa20024, ↓sa20025, ↓sa20026, ↓sa20027, ↓sa20028, ↓sa20029, ↓sa20030, ↓sa20031, ↓sa20032, ↓sa20033, ↓sa20034, ↓sa20035, ↓sa20036, ↓sa20037, ↓sa20038, ↓sa20039, ↓sa20040, ↓sa20041, ↓sa20042, ↓sa20043, ↓sa20044, ↓sa20045, ↓sa20046, ↓sa20047, ↓sa20048, ↓sa20049, ↓sa20050, ↓sa20051, ↓sa20052, ↓sa20053, ↓sa20054, ↓sa20055, ↓sa20056, ↓sa20057, ↓sa20058, ↓sa20059, ↓sa20060, ↓sa20061, ↓sa20062, ↓sa20063, ↓sa20064, ↓sa20065, ↓sa20066, ↓sa20067, ↓sa20068, ↓s93, ↓s94, ↓s95, ↓s96, ↓s97, ↓s98, ↓s99, ↓s100, ↓s101, ↓s104, ↓s105, ↓s106, ↓s125, ↓s126, ↓s127, ↓s219, ↓s220, ↓s221, ↓h128, ↓h129, ↓h130, ↓h131, ↓s132, ↓h157, ↓h194, ↓h211, ↓cI_s, ↓cV_s, ↓cR_s, ↓cR_n, ↓reduceIte, ↓bI_01, ↓ro0, ↓ro1, ↓ro2, ↓ro3, ↓rol3, up3_s, up3_c, ne_eq, Nat.reduceEqDiff, Wp_s, bI_z, not_true_eq_false, not_false_eq_true, and_self, and_true, true_and, and_false, false_and, if_true, if_false, Classical.not_not, h2, h3, g1]; simp only [↓m190, ↓vo0, ↓rf0_0, ↓gf0_1, ↓vo1000, ↓rf1000_0, ↓rf1000_1, ↓vo2000, ↓rf2000_0, ↓rf2000_1, ↓rf2000_2, ↓rf2000_3, ↓vo5000, ↓rf5000_0, ↓rf5000_1, ↓gf5000_2, ↓vo6000, ↓rf6000_0, ↓rf6000_1, ↓gf6000_2, ↓gf6000_3, ↓gf6000_4, ↓vo9000, ↓rf9000_0, ↓rf9000_1, ↓gf9000_2, ↓rf9000_3, ↓rf9000_4, ↓vo10000, ↓rf10000_0, ↓rf10000_1, ↓rf10000_2, ↓rf10000_3, ↓rf10000_4, ↓rf10000_5, ↓rf10000_6, ↓rf10000_7, ↓rf10000_8, ↓rf10000_9, ↓rf10000_10, ↓rf10000_11, ↓rf10000_12, ↓gf10000_13, ↓gf10000_14, ↓gf10000_15, ↓gf10000_16, ↓gf10000_17, ↓vo11000, ↓gf11000_0, ↓gf11000_1, ↓rf11000_2, ↓rf11000_3, ↓rf11000_4, ↓rf11000_5, ↓rf11000_6, ↓rf11000_7, ↓rf11000_8, ↓rf11000_9, ↓rf11000_10, ↓rf11000_11, ↓rf11000_12, ↓rf11000_13, ↓rf11000_14, ↓rf11000_15, ↓rf11000_16, ↓rf11000_17, ↓gf11000_18, ↓rf11000_19, ↓rf11000_20, ↓rf11000_21, ↓rf11000_22, ↓rf11000_23, ↓rf11000_24, ↓rf11000_25, ↓rf11000_26, ↓rf11000_27, ↓rf11000_28, ↓gf11000_29, ↓gf11000_30, ↓gf11000_31, ↓gf11000_32, ↓rf11000_33, ↓gf11000_34, ↓gf11000_35, ↓gf11000_36, ↓rf11000_37, ↓rf11000_38, ↓rf11000_39, ↓rf11000_40, ↓rf11000_41, ↓gf11000_42, ↓gf11000_43, ↓gf11000_44, ↓rf11000_45, ↓rf11000_46, ↓gf11000_47, ↓gf11000_48, ↓gf11000_49, ↓gf11000_50, ↓rf11000_51, ↓rf11000_52, ↓gf11000_53, ↓rf11000_54, ↓rf11000_55, ↓rf11000_56, ↓rf11000_57, ↓rf11000_58, ↓vo4000, ↓gf4000_0, ↓gf4000_1, ↓gf4000_2, ↓gf4000_3, ↓gf4000_4, ↓gf4000_5, ↓gf4000_6, ↓gf4000_7, ↓gf4000_8, ↓rf4000_9, ↓vo4001, ↓gf4001_0, ↓gf4001_1, ↓gf4001_2, ↓gf4001_3, ↓gf4001_4, ↓gf4001_5, ↓gf4001_6, ↓gf4001_7, ↓gf4001_8, ↓rf4001_9, ↓ga20000, ↓ga20001, ↓ga20002, ↓ga20003, ↓ga20004, ↓ga20005, ↓ga20009, ↓ga20010, ↓ga20012, ↓ga20013, ↓ga20015, ↓ga20016, ↓ga20017, ↓ga20018, ↓ga20019, ↓ga20020, ↓ga20022, ↓ga20023, ↓ga20024, ↓ga20025, ↓ga20026, ↓ga20027, ↓ga20028, ↓ga20029, ↓ga20030, ↓ga20031, ↓ga20032, ↓ga20033, ↓ga20034, ↓ga20035, ↓ga20036, ↓ga20037, ↓ga20038, ↓ga20039, ↓ga20040, ↓ga20041, ↓ga20042, ↓ga20043, ↓ga20044, ↓ga20045, ↓ga20046, ↓ga20047, ↓ga20048, ↓ga20049, ↓ga20050, ↓ga20051, ↓ga20052, ↓ga20053, ↓ga20054, ↓ga20055, ↓ga20056, ↓ga20057, ↓ga20058, ↓ga20059, ↓ga20060, ↓ga20061, ↓ga20062, ↓ga20063, ↓ga20064, ↓ga20065, ↓ga20066, ↓ga20067, ↓ga20068, ↓pf0_1, ↓pf5000_2, ↓pf6000_2, ↓pf6000_3, ↓pf6000_4, ↓pf9000_2, ↓pf10000_13, ↓pf10000_14, ↓pf10000_15, ↓pf10000_16, ↓pf10000_17, ↓pf11000_0, ↓pf11000_1, ↓pf11000_18, ↓pf11000_29, ↓pf11000_30, ↓pf11000_31, ↓pf11000_32, ↓pf11000_34, ↓pf11000_35, ↓pf11000_36, ↓pf11000_42, ↓pf11000_43, ↓pf11000_44, ↓pf11000_47, ↓pf11000_48, ↓pf11000_49, ↓pf11000_50, ↓pf11000_53, ↓pf4000_0, ↓pf4000_1, ↓pf4000_2, ↓pf4000_3, ↓pf4000_4, ↓pf4000_5, ↓pf4000_6, ↓pf4000_7, ↓pf4000_8, ↓pf4001_0, ↓pf4001_1, ↓pf4001_2, ↓pf4001_3, ↓pf4001_4, ↓pf4001_5, ↓pf4001_6, ↓pf4001_7, ↓pf4001_8, ↓sa20000, ↓sa20001, ↓sa20002, ↓sa20003, ↓sa20004, ↓sa20005, ↓sa20009, ↓sa20010, ↓sa20012, ↓sa20013, ↓sa20015, ↓sa20016, ↓sa20017, ↓sa20018, ↓sa20019, ↓sa20020, ↓sa20022, ↓sa20023, ↓sa20024, ↓sa20025, ↓sa20026, ↓sa20027, ↓sa20028, ↓sa20029, ↓sa20030, ↓sa20031, ↓sa20032, ↓sa20033, ↓sa20034, ↓sa20035, ↓sa20036, ↓sa20037, ↓sa20038, ↓sa20039, ↓sa20040, ↓sa20041, ↓sa20042, ↓sa20043, ↓sa20044, ↓sa20045, ↓sa20046, ↓sa20047, ↓sa20048, ↓sa20049, ↓sa20050, ↓sa20051, ↓sa20052, ↓sa20053, ↓sa20054, ↓sa20055, ↓sa20056, ↓sa20057, ↓sa20058, ↓sa20059, ↓sa20060, ↓sa20061, ↓sa20062, ↓sa20063, ↓sa20064, ↓sa20065, ↓sa20066, ↓sa20067, ↓sa20068, ↓s93, ↓s94, ↓s95, ↓s96, ↓s97, ↓s98, ↓s99, ↓s100, ↓s101, ↓s104, ↓s105, ↓s106, ↓s125, ↓s126, ↓s127, ↓s219, ↓s220, ↓s221, ↓h128, ↓h129, ↓h130, ↓h131, ↓s132, ↓h157, ↓h194, ↓h211, ↓cI_s, ↓cV_s, ↓cR_s, ↓cR_n, ↓reduceIte, ↓bI_01, ↓ro0, ↓ro1, ↓ro2, ↓ro3, ↓rol3, up3_s, up3_c, ne_eq, Nat.reduceEqDiff, Wp_s, bI_z, not_true_eq_false, not_false_eq_true, and_self, and_true, true_and, and_false, false_and, if_true, if_false, Classical.not_not, h2, h3, g1])
    exact IH_i I0
/-! WORST in the reference -/
theorem w97 {z t s k y b : Nat} {w : Nat → Nat} {f : Nat → Nat} {g : Nat → Int32} {x1 x2 : Int32} {res : Option Value × PH} (hl : lok A G z w) (hk : k < z) (ht : t < 4) (hs : s < 64) (hy : y ≤ 6) (hf : ∀ q, q < 64 → f q ≤ 6) (hg : ∀ q, q < 64 → g (64 * t + q) = nI (f q))
    (hb : ∀ o7 o8 o9, EXn (roL L xs) p197 (CALL (roL L xs) mP mL (N + 5050) (d + 2)) b 82 [some (.ref 11000), some (.int x1), some (.int x2), some (.int (nI (t + 1))), some (.int (nI s)), some (.int (nI (min y (mst f (w k) s)))), some (.int (nI (k + 1))), o7, o8, o9] [] (HH (upr A 20063 0 g) G e) = some res) : ∀ (r i : Nat) (o9 : Option Value), i + r = 4 → EXn (roL L xs) p197 (CALL (roL L xs) mP mL (N + 5050) (d + 2)) (b + 4 * (r + 1)) 97 [some (.ref 11000), some (.int x1), some (.int x2), some (.int (nI (t + 1))), some (.int (nI s)), some (.int (nI y)), some (.int (nI k)), some (.int (nI (mx f (w k) s i))), some (.int (nI i)), o9] [] (HH (upr A 20063 0 g) G e) = some res
  | 0, i, o9, hi => by
    refine EXs_le (S := [23, 48, 56, 82, 97]) (n := b) 4 97 _ _ _ ?_
    have : i = 4 := by omega
    subst this
    have h9 := mst_le (w := w k) hs hf
    rw [l197_97, if_neg (show ¬ nI 4 < (4 : Int32) by decide), mx_e, nI_1]
    by_cases hlt : mst f (w k) s < y
    · rw [if_pos (nI_lt hlt (by omega))]
      have := hb (some (.int (nI (mst f (w k) s)))) (some (.int (nI 4))) o9
      rw [show min y (mst f (w k) s) = mst f (w k) s by omega] at this
      exact this
    · rw [if_neg (nI_nlt (by omega) (by omega))]
      have := hb (some (.int (nI (mst f (w k) s)))) (some (.int (nI 4))) o9
      rw [show min y (mst f (w k) s) = y by omega] at this
      exact this
  | r + 1, i, o9, hi => by
    refine EXs_le (S := [23, 48, 56, 82, 97]) (n := b + 4 * (r + 1)) 4 97 _ _ _ ?_
    have ih := w97 hl hk ht hs hy hf hg hb r (i + 1)
    obtain ⟨h1, h2, h3, h4, h5⟩ := hl
    have hi4 : i < 4 := by omega
    have c64 : (64 : Int32) * nI t = nI (64 * t) := pk_mul 64 t
    have b1 := mx_le (w := w k) hs hf i
    have b2 := hf _ (and_le63 (q := prt (w k) i) hs)
    have b3 := and_le63 (q := prt (w k) i) hs
    rw [l197_97, if_pos (show nI i < (4 : Int32) from nI_lt (b := 4) hi4 (by decide)), rf11000_52, vo11000, s191 (show k < 8 by omega) (show upr A 20063 0 g 20062 0 k = nI (w k) from (h4 k hk).2) (h4 k hk).1 hs hi4, cI_s, nI_pred, c64, nI_add, ga20063, ib_n (show 64 * t + (s &&& prt (w k) i) < 320 by omega) (by decide), nI_clamp (by omega), upr_a, hg _ b3, nI_1]
    by_cases hlt : mx f (w k) s i < f (s &&& prt (w k) i)
    · rw [if_pos (nI_lt hlt (by omega))]
      rw [show mx f (w k) s (i + 1) = f (s &&& prt (w k) i) by rw [mx]; omega] at ih
      exact ih _ (by omega)
    · rw [if_neg (nI_nlt (by omega) (by omega))]
      rw [show mx f (w k) s (i + 1) = mx f (w k) s i by rw [mx]; omega] at ih
      exact ih _ (by omega)
def fm (f : Nat → Nat) (w : Nat → Nat) (s k : Nat) : Nat := (List.range k).foldl (fun b k => min b (mst f (w k) s)) (f s)
theorem fm_s {f : Nat → Nat} {w : Nat → Nat} {s k : Nat} : fm f w s (k + 1) = min (fm f w s k) (mst f (w k) s) := by
  unfold fm
  rw [rng_s]
theorem w82 {z t s b : Nat} {w : Nat → Nat} {f : Nat → Nat} {g : Nat → Int32} {x1 x2 : Int32} {res : Option Value × PH} (hl : lok A G z w) (ht : t < 4) (hs : s < 64) (hf : ∀ q, q < 64 → f q ≤ 6) (hg : ∀ q, q < 64 → g (64 * t + q) = nI (f q))
    (hb : ∀ o5 o6 o7 o8 o9, EXn (roL L xs) p197 (CALL (roL L xs) mP mL (N + 5050) (d + 2)) b 56 [some (.ref 11000), some (.int x1), some (.int x2), some (.int (nI (t + 1))), some (.int (nI (s + 1))), o5, o6, o7, o8, o9] [] (HH (upr A 20063 0 (upd g (64 * (t + 1) + s) (nI (fm f w s z)))) G e) = some res) : ∀ (r k : Nat) (o7 o8 o9 : Option Value), k + r = z → EXn (roL L xs) p197 (CALL (roL L xs) mP mL (N + 5050) (d + 2)) (b + 22 * (r + 1)) 82 [some (.ref 11000), some (.int x1), some (.int x2), some (.int (nI (t + 1))), some (.int (nI s)), some (.int (nI (fm f w s k))), some (.int (nI k)), o7, o8, o9] [] (HH (upr A 20063 0 g) G e) = some res
  | 0, k, o7, o8, o9, hk => by
    obtain ⟨h1, h2, h3, h4, h5⟩ := hl
    refine EXn_mo (n := b + 2) (by omega) (EXs_le (S := [23, 48, 56, 82, 97]) (n := b) 2 82 _ _ _ ?_)
    have : k = z := by omega
    subst this
    have c64 : (64 : Int32) * nI (t + 1) = nI (64 * (t + 1)) := pk_mul 64 (t + 1)
    rw [l197_82, gf11000_50, h3, if_neg (nI_nlt (by omega) (by omega)), rf11000_52, c64, nI_add, sa20063, ib_n (show 64 * (t + 1) + s < 320 by omega) (by decide), nI_clamp (by omega), up3_upr, nI_1]
    exact hb _ _ _ _ _
  | r + 1, k, o7, o8, o9, hk => by
    have hl0 := hl
    obtain ⟨h1, h2, h3, h4, h5⟩ := hl
    refine EXs_le (S := [23, 48, 56, 82, 97]) (n := b + 22 * (r + 1) + 4 * (4 + 1)) 2 82 _ _ _ ?_
    rw [l197_82, gf11000_50, h3, if_pos (nI_lt (by omega) (by omega))]
    have hle : fm f w s k ≤ 6 := Nat.le_trans (fold_le k) (hf s hs)
    refine w97 hl0 (show k < z by omega) ht hs hle hf hg (fun o7 o8 o9 => ?_) 4 0 o9 (by omega)
    rw [← fm_s]
    exact w82 hl0 ht hs hf hg hb r (k + 1) o7 o8 o9 (by omega)
def tFn (f : Nat → Nat) (w : Nat → Nat) (z t : Nat) (g : Nat → Int32) (i : Nat) : Nat → Int32 := fun j => if 64 * (t + 1) ≤ j ∧ j < 64 * (t + 1) + i then nI (fm f w (j - 64 * (t + 1)) z) else g j
theorem w56 {z t b : Nat} {w : Nat → Nat} {f : Nat → Nat} {g : Nat → Int32} {x1 x2 : Int32} {res : Option Value × PH} (hl : lok A G z w) (ht : t < 4) (hf : ∀ q, q < 64 → f q ≤ 6) (hg : ∀ q, q < 64 → g (64 * t + q) = nI (f q))
    (hb : ∀ o4 o5 o6 o7 o8 o9, EXn (roL L xs) p197 (CALL (roL L xs) mP mL (N + 5050) (d + 2)) b 48 [some (.ref 11000), some (.int x1), some (.int x2), some (.int (nI (t + 1 + 1))), o4, o5, o6, o7, o8, o9] [] (HH (upr A 20063 0 (tFn f w z t g 64)) G e) = some res) : ∀ (r s : Nat) (o5 o6 o7 o8 o9 : Option Value), s + r = 64 → EXn (roL L xs) p197 (CALL (roL L xs) mP mL (N + 5050) (d + 2)) (b + 200 * (r + 1)) 56 [some (.ref 11000), some (.int x1), some (.int x2), some (.int (nI (t + 1))), some (.int (nI s)), o5, o6, o7, o8, o9] [] (HH (upr A 20063 0 (tFn f w z t g s)) G e) = some res
  | 0, s, o5, o6, o7, o8, o9, hk => by
    refine EXn_mo (n := b + 2) (by omega) (EXs_le (S := [23, 48, 56, 82, 97]) (n := b) 2 56 _ _ _ ?_)
    have : s = 64 := by omega
    subst this
    rw [l197_56, if_neg (show ¬ nI 64 < (64 : Int32) by decide), nI_1]
    exact hb _ _ _ _ _ _
  | r + 1, s, o5, o6, o7, o8, o9, hk => by
    have hz := hl.1
    refine EXn_mo (n := b + 200 * (r + 1) + 22 * (z + 1) + 2) (by omega) (EXs_le (S := [23, 48, 56, 82, 97]) (n := b + 200 * (r + 1) + 22 * (z + 1)) 2 56 _ _ _ ?_)
    have c64 : (64 : Int32) * nI t = nI (64 * t) := pk_mul 64 t
    have hg2 : ∀ q, q < 64 → tFn f w z t g s (64 * t + q) = nI (f q) := by
      intro q hq
      unfold tFn
      rw [if_neg (by omega)]
      exact hg q hq
    rw [l197_56, if_pos (show nI s < (64 : Int32) from nI_lt (b := 64) (by omega) (by decide)), rf11000_52, nI_pred, c64, nI_add, ga20063, ib_n (show 64 * t + s < 320 by omega) (by decide), nI_clamp (by omega), upr_a, hg2 s (by omega)]
    refine w82 (k := 0) hl ht (by omega) hf hg2 (fun o5 o6 o7 o8 o9 => ?_) z o7 o8 o9 (by omega)
    have : upd (tFn f w z t g s) (64 * (t + 1) + s) (nI (fm f w s z)) = tFn f w z t g (s + 1) := by
      funext j
      by_cases hj : j = 64 * (t + 1) + s
      · subst hj
        simp only [upd, if_true, tFn]
        rw [if_pos (by omega), show 64 * (t + 1) + s - 64 * (t + 1) = s by omega]
      · simp only [upd, if_neg hj, tFn]
        have : (64 * (t + 1) ≤ j ∧ j < 64 * (t + 1) + (s + 1)) ↔ (64 * (t + 1) ≤ j ∧ j < 64 * (t + 1) + s) := by omega
        simp only [this]
    rw [this]
    exact w56 hl ht hf hg hb r (s + 1) o5 o6 o7 o8 o9 (by omega)
def gEnd (w : Nat → Nat) (z : Nat) : Nat → Nat → (Nat → Int32) → Nat → Int32
  | 0, _, g => g
  | r + 1, t, g => gEnd w z r (t + 1) (tFn (wst w z t) w z t g 64)
theorem w48 {z n s : Nat} {w : Nat → Nat} (hl : lok A G z w) (hn : n < 5) (hs : s < 64) : ∀ (r t : Nat) (g : Nat → Int32) (o4 o5 o6 o7 o8 o9 : Option Value), t + r = n → (∀ i, i ≤ t → ∀ q, q < 64 → g (64 * i + q) = nI (wst w z i q)) → EXn (roL L xs) p197 (CALL (roL L xs) mP mL (N + 5050) (d + 2)) (13100 * (r + 1)) 48 [some (.ref 11000), some (.int (nI s)), some (.int (nI n)), some (.int (nI (t + 1))), o4, o5, o6, o7, o8, o9] [] (HH (upr A 20063 0 g) G e) = some (some (.int (nI (wst w z n s))), HH (upr A 20063 0 (gEnd w z r t g)) G e)
  | 0, t, g, o4, o5, o6, o7, o8, o9, ht, hg => by
    refine EXn_mo (n := 0 + 2) (by omega) (EXs_le (S := [23, 48, 56, 82, 97]) (n := 0) 2 48 _ _ _ ?_)
    have : t = n := by omega
    subst this
    have c64 : (64 : Int32) * nI t = nI (64 * t) := pk_mul 64 t
    rw [l197_48, if_pos (nI_lt (by omega) (by omega)), rf11000_52, c64, nI_add, ga20063, ib_n (show 64 * t + s < 320 by omega) (by decide), nI_clamp (by omega), upr_a, hg t (Nat.le_refl _) s hs]
    rfl
  | r + 1, t, g, o4, o5, o6, o7, o8, o9, ht, hg => by
    have hg2 : ∀ i, i ≤ t + 1 → ∀ q, q < 64 → tFn (wst w z t) w z t g 64 (64 * i + q) = nI (wst w z i q) := by
      intro i hi q hq
      unfold tFn
      by_cases h1 : i = t + 1
      · subst h1
        rw [if_pos (by omega), show 64 * (t + 1) + q - 64 * (t + 1) = q by omega, wst_ref hq]
        rfl
      · rw [if_neg (by omega)]
        exact hg i (by omega) q hq
    refine EXn_mo (n := 13100 * (r + 1) + 200 * (64 + 1) + 2) (by omega) (EXs_le (S := [23, 48, 56, 82, 97]) (n := 13100 * (r + 1) + 200 * (64 + 1)) 2 48 _ _ _ ?_)
    rw [l197_48, if_neg (nI_nlt (by omega) (by omega))]
    have t0 : tFn (wst w z t) w z t g 0 = g := by
      funext j
      unfold tFn
      rw [if_neg (by omega)]
    have := w56 (A := A) (G := G) (e := e) (L := L) (xs := xs) (N := N) (d := d) (x1 := nI s) (x2 := nI n) hl (show t < 4 by omega) (fun q hq => wst_le t q hq) (hg t (Nat.le_refl _)) (fun o4 o5 o6 o7 o8 o9 => w48 hl hn hs r (t + 1) _ o4 o5 o6 o7 o8 o9 (by omega) hg2) 64 0 o5 o6 o7 o8 o9 (by omega)
    rw [t0] at this
    exact this
def uFn (Q : Nat → Int32) (i : Nat) : Nat → Int32 := fun j => if j < i then nI (pop j) else Q j
theorem w23 {s n b : Nat} {Q : Nat → Int32} {res : Option Value × PH} {o4 o5 o6 o7 o8 o9 : Option Value}
    (hb : EXn (roL L xs) p197 (CALL (roL L xs) mP mL (N + 5050) (d + 2)) b 48 [some (.ref 11000), some (.int (nI s)), some (.int (nI n)), some (.int 1), o4, o5, o6, o7, o8, o9] [] (HH (upr A 20063 0 (uFn Q 64)) G e) = some res) : ∀ (r i : Nat), i + r = 64 → EXn (roL L xs) p197 (CALL (roL L xs) mP mL (N + 5050) (d + 2)) (b + 2 * (r + 1)) 23 [some (.ref 11000), some (.int (nI s)), some (.int (nI n)), some (.int (nI i)), o4, o5, o6, o7, o8, o9] [] (HH (upr A 20063 0 (uFn Q i)) G e) = some res
  | 0, i, hi => by
    refine EXs_le (S := [23, 48, 56, 82, 97]) (n := b) 2 23 _ _ _ ?_
    have : i = 64 := by omega
    subst this
    rw [l197_23, if_neg (show ¬ nI 64 < (64 : Int32) by decide)]
    exact hb
  | r + 1, i, hi => by
    refine EXs_le (S := [23, 48, 56, 82, 97]) (n := b + 2 * (r + 1)) 2 23 _ _ _ ?_
    have ih := w23 hb r (i + 1) (by omega)
    rw [l197_23, if_pos (show nI i < (64 : Int32) from nI_lt (b := 64) (by omega) (by decide)), rf11000_52, vo11000, s192 (show i < 64 by omega), cI_s, sa20063, ib_n (show i < 320 by omega) (by decide), nI_clamp (by omega), up3_upr, nI_1]
    have : upd (uFn Q i) i (nI (pop i)) = uFn Q (i + 1) := by
      funext j
      by_cases hj : j = i
      · subst hj
        simp only [upd, if_true, uFn]
        rw [if_pos (by omega)]
      · simp only [upd, if_neg hj, uFn]
        have : j < i + 1 ↔ j < i := by omega
        simp only [this]
    rw [this]
    exact ih
theorem s197e {n s b : Nat} {res : Option Value × PH} (hb : b ≤ N + 5000) (g1 : 1 ≤ nI s ∧ nI s ≤ 63) (g2 : 0 ≤ nI n ∧ nI n ≤ 4) (h : EXn (roL L xs) p197 (CALL (roL L xs) mP mL (N + 5050) (d + 39)) b 23 [some (.ref 11000), some (.int (nI s)), some (.int (nI n)), some (.int 0), none, none, none, none, none, none] [] (HH A G e) = some res) : CALL (roL L xs) mP mL (N + 5050) (d + 40) 197 [.ref 11000, .int (nI s), .int (nI n)] (HH A G e) = some res := by
  refine m197 b hb ?_
  rw [x197]
  simp only [↓vo0, ↓rf0_0, ↓gf0_1, ↓vo1000, ↓rf1000_0, ↓rf1000_1, ↓vo2000, ↓rf2000_0, ↓rf2000_1, ↓rf2000_2, ↓rf2000_3, ↓vo5000, ↓rf5000_0, ↓rf5000_1, ↓gf5000_2, ↓vo6000, ↓rf6000_0, ↓rf6000_1, ↓gf6000_2, ↓gf6000_3, ↓gf6000_4, ↓vo9000, ↓rf9000_0, ↓rf9000_1, ↓gf9000_2, ↓rf9000_3, ↓rf9000_4, ↓vo10000, ↓rf10000_0, ↓rf10000_1, ↓rf10000_2, ↓rf10000_3, ↓rf10000_4, ↓rf10000_5, ↓rf10000_6, ↓rf10000_7, ↓rf10000_8, ↓rf10000_9, ↓rf10000_10, ↓rf10000_11, ↓rf10000_12, ↓gf10000_13, ↓gf10000_14, ↓gf10000_15, ↓gf10000_16, ↓gf10000_17, ↓vo11000, ↓gf11000_0, ↓gf11000_1, ↓rf11000_2, ↓rf11000_3, ↓rf11000_4, ↓rf11000_5, ↓rf11000_6, ↓rf11000_7, ↓rf11000_8, ↓rf11000_9, ↓rf11000_10, ↓rf11000_11, ↓rf11000_12, ↓rf11000_13, ↓rf11000_14, ↓rf11000_15, ↓rf11000_16, ↓rf11000_17, ↓gf11000_18, ↓rf11000_19, ↓rf11000_20, ↓rf11000_21, ↓rf11000_22, ↓rf11000_23, ↓rf11000_24, ↓rf11000_25, ↓rf11000_26, ↓rf11000_27, ↓rf11000_28, ↓gf11000_29, ↓gf11000_30, ↓gf11000_31, ↓gf11000_32, ↓rf11000_33, ↓gf11000_34, ↓gf11000_35, ↓gf11000_36, ↓rf11000_37, ↓rf11000_38, ↓rf11000_39, ↓rf11000_40, ↓rf11000_41, ↓gf11000_42, ↓gf11000_43, ↓gf11000_44, ↓rf11000_45, ↓rf11000_46, ↓gf11000_47, ↓gf11000_48, ↓gf11000_49, ↓gf11000_50, ↓rf11000_51, ↓rf11000_52, ↓gf11000_53, ↓rf11000_54, ↓rf11000_55, ↓rf11000_56, ↓rf11000_57, ↓rf11000_58, ↓vo4000, ↓gf4000_0, ↓gf4000_1, ↓gf4000_2, ↓gf4000_3, ↓gf4000_4, ↓gf4000_5, ↓gf4000_6, ↓gf4000_7, ↓gf4000_8, ↓rf4000_9, ↓vo4001, ↓gf4001_0, ↓gf4001_1, ↓gf4001_2, ↓gf4001_3, ↓gf4001_4, ↓gf4001_5, ↓gf4001_6, ↓gf4001_7, ↓gf4001_8, ↓rf4001_9, ↓ga20000, ↓ga20001, ↓ga20002, ↓ga20003, ↓ga20004, ↓ga20005, ↓ga20009, ↓ga20010, ↓ga20012, ↓ga20013, ↓ga20015, ↓ga20016, ↓ga20017, ↓ga20018, ↓ga20019, ↓ga20020, ↓ga20022, ↓ga20023, ↓ga20024, ↓ga20025, ↓ga20026, ↓ga20027, ↓ga20028, ↓ga20029, ↓ga20030, ↓ga20031, ↓ga20032, ↓ga20033, ↓ga20034, ↓ga20035, ↓ga20036, ↓ga20037, ↓ga20038, ↓ga20039, ↓ga20040, ↓ga20041, ↓ga20042, ↓ga20043, ↓ga20044, ↓ga20045, ↓ga20046, ↓ga20047, ↓ga20048, ↓ga20049, ↓ga20050, ↓ga20051, ↓ga20052, ↓ga20053, ↓ga20054, ↓ga20055, ↓ga20056, ↓ga20057, ↓ga20058, ↓ga20059, ↓ga20060, ↓ga20061, ↓ga20062, ↓ga20063, ↓ga20064, ↓ga20065, ↓ga20066, ↓ga20067, ↓ga20068, ↓pf0_1, ↓pf5000_2, ↓pf6000_2, ↓pf6000_3, ↓pf6000_4, ↓pf9000_2, ↓pf10000_13, ↓pf10000_14, ↓pf10000_15, ↓pf10000_16, ↓pf10000_17, ↓pf11000_0, ↓pf11000_1, ↓pf11000_18, ↓pf11000_29, ↓pf11000_30, ↓pf11000_31, ↓pf11000_32, ↓pf11000_34, ↓pf11000_35, ↓pf11000_36, ↓pf11000_42, ↓pf11000_43, ↓pf11000_44, ↓pf11000_47, ↓pf11000_48, ↓pf11000_49, ↓pf11000_50, ↓pf11000_53, ↓pf4000_0, ↓pf4000_1, ↓pf4000_2, ↓pf4000_3, ↓pf4000_4, ↓pf4000_5, ↓pf4000_6, ↓pf4000_7, ↓pf4000_8, ↓pf4001_0, ↓pf4001_1, ↓pf4001_2, ↓pf4001_3, ↓pf4001_4, ↓pf4001_5, ↓pf4001_6, ↓pf4001_7, ↓pf4001_8, ↓sa20000, ↓sa20001, ↓sa20002, ↓sa20003, ↓sa20004, ↓sa20005, ↓sa20009, ↓sa20010, ↓sa20012, ↓sa20013, ↓sa20015, ↓sa20016, ↓sa20017, ↓sa20018, ↓sa20019, ↓sa20020, ↓sa20022, ↓sa20023, ↓sa20024, ↓sa20025, ↓sa20026, ↓sa20027, ↓sa20028, ↓sa20029, ↓sa20030, ↓sa20031, ↓sa20032, ↓sa20033, ↓sa20034, ↓sa20035, ↓sa20036, ↓sa20037, ↓sa20038, ↓sa20039, ↓sa20040, ↓sa20041, ↓sa20042, ↓sa20043, ↓sa20044, ↓sa20045, ↓sa20046, ↓sa20047, ↓sa20048, ↓sa20049, ↓sa20050, ↓sa20051, ↓sa20052, ↓sa20053, ↓sa20054, ↓sa20055, ↓sa20056, ↓sa20057, ↓sa20058, ↓sa20059, ↓sa20060, ↓sa20061, ↓sa20062, ↓sa20063, ↓sa20064, ↓sa20065, ↓sa20066, ↓sa20067, ↓sa20068, ↓s93, ↓s94, ↓s95, ↓s96, ↓s97, ↓s98, ↓s99, ↓s100, ↓s101, ↓s104, ↓s105, ↓s106, ↓s125, ↓s126, ↓s127, ↓s219, ↓s220, ↓s221, ↓h128, ↓h129, ↓h130, ↓h131, ↓s132, ↓h157, ↓h194, ↓h211, ↓cI_s, ↓cV_s, ↓cR_s, ↓cR_n, ↓reduceIte, ↓bI_01, ↓ro0, ↓ro1, ↓ro2, ↓ro3, ↓rol3, up3_s, up3_c, ne_eq, Nat.reduceEqDiff, Wp_s, bI_z, not_true_eq_false, not_false_eq_true, and_self, and_true, true_and, and_false, false_and, if_true, if_false, Classical.not_not, g1, g2]
  exact h
theorem s197 {z n s : Nat} {w : Nat → Nat} (hN : 200000 ≤ N) (hl : lok A G z w) (hn : n < 5) (hs : s < 64) (g1 : 1 ≤ nI s ∧ nI s ≤ 63) (g2 : 0 ≤ nI n ∧ nI n ≤ 4) : CALL (roL L xs) mP mL (N + 5050) (d + 40) 197 [.ref 11000, .int (nI s), .int (nI n)] (HH A G e) = some (some (.int (nI (wst w z n s))), HH (upr A 20063 0 (gEnd w z n 0 (uFn (A 20063 0) 64))) G e) := by
  refine s197e (b := 13100 * (n + 1) + 2 * (64 + 1)) (by omega) g1 g2 ?_
  have u0 : A 20063 0 = uFn (A 20063 0) 0 := by
    funext j
    unfold uFn
    rw [if_neg (by omega)]
  have a := w23 (A := A) (G := G) (e := e) (L := L) (xs := xs) (N := N) (d := d + 37) (Q := A 20063 0) (o4 := none) (o5 := none) (o6 := none) (o7 := none) (o8 := none) (o9 := none) (w48 hl hn hs n 0 (uFn (A 20063 0) 64) none none none none none none (by omega) (fun i hi q hq => by
    have : i = 0 := by omega
    subst this
    unfold uFn
    rw [if_pos (by omega), show 64 * 0 + q = q by omega]
    rfl)) 64 0 (by omega)
  rw [← u0, upr_self] at a
  exact a
theorem o_worst (hN : 200000 ≤ N) (I : Inv A G e) (x y : Int32) : Op L xs N (d + 40) 84 197 [.int x, .int y] A G e := by
  have I0 := I
  obtain ⟨z, w, hl, h6⟩ := lok_of I
  obtain ⟨i1, i2, i3, i4, i5, i6, i7, i8, i9, i10, i11, i12, i13, i14, i15, i16, i17, i18, i19, i20, i21, i22, i23, i24, i25⟩ := I
  unfold Op
  by_cases g1 : (1 ≤ x ∧ x ≤ 63)
  · by_cases g2 : (0 ≤ y ∧ y ≤ 4)
    · obtain ⟨s, hs, rfl⟩ := g_s g1
      obtain ⟨n, hn, rfl⟩ := g_n (x := y) 5 (by decide) g2
      have c64 : nI n * 64 = nI (n * 64) := pk_mul n 64
      (simp only [↓m84, ↓vo0, ↓rf0_0, ↓gf0_1, ↓vo1000, ↓rf1000_0, ↓rf1000_1, ↓vo2000, ↓rf2000_0, ↓rf2000_1, ↓rf2000_2, ↓rf2000_3, ↓vo5000, ↓rf5000_0, ↓rf5000_1, ↓gf5000_2, ↓vo6000, ↓rf6000_0, ↓rf6000_1, ↓gf6000_2, ↓gf6000_3, ↓gf6000_4, ↓vo9000, ↓rf9000_0, ↓rf9000_1, ↓gf9000_2, ↓rf9000_3, ↓rf9000_4, ↓vo10000, ↓rf10000_0, ↓rf10000_1, ↓rf10000_2, ↓rf10000_3, ↓rf10000_4, ↓rf10000_5, ↓rf10000_6, ↓rf10000_7, ↓rf10000_8, ↓rf10000_9, ↓rf10000_10, ↓rf10000_11, ↓rf10000_12, ↓gf10000_13, ↓gf10000_14, ↓gf10000_15, ↓gf10000_16, ↓gf10000_17, ↓vo11000, ↓gf11000_0, ↓gf11000_1, ↓rf11000_2, ↓rf11000_3, ↓rf11000_4, ↓rf11000_5, ↓rf11000_6, ↓rf11000_7, ↓rf11000_8, ↓rf11000_9, ↓rf11000_10, ↓rf11000_11, ↓rf11000_12, ↓rf11000_13, ↓rf11000_14, ↓rf11000_15, ↓rf11000_16, ↓rf11000_17, ↓gf11000_18, ↓rf11000_19, ↓rf11000_20, ↓rf11000_21, ↓rf11000_22, ↓rf11000_23, ↓rf11000_24, ↓rf11000_25, ↓rf11000_26, ↓rf11000_27, ↓rf11000_28, ↓gf11000_29, ↓gf11000_30, ↓gf11000_31, ↓gf11000_32, ↓rf11000_33, ↓gf11000_34, ↓gf11000_35, ↓gf11000_36, ↓rf11000_37, ↓rf11000_38, ↓rf11000_39, ↓rf11000_40, ↓rf11000_41, ↓gf11000_42, ↓gf11000_43, ↓gf11000_44, ↓rf11000_45, ↓rf11000_46, ↓gf11000_47, ↓gf11000_48, ↓gf11000_49, ↓gf11000_50, ↓rf11000_51, ↓rf11000_52, ↓gf11000_53, ↓rf11000_54, ↓rf11000_55, ↓rf11000_56, ↓rf11000_57, ↓rf11000_58, ↓vo4000, ↓gf4000_0, ↓gf4000_1, ↓gf4000_2, ↓gf4000_3, ↓gf4000_4, ↓gf4000_5, ↓gf4000_6, ↓gf4000_7, ↓gf4000_8, ↓rf4000_9, ↓vo4001, ↓gf4001_0, ↓gf4001_1, ↓gf4001_2, ↓gf4001_3, ↓gf4001_4, ↓gf4001_5, ↓gf4001_6, ↓gf4001_7, ↓gf4001_8, ↓rf4001_9, ↓ga20000, ↓ga20001, ↓ga20002, ↓ga20003, ↓ga20004, ↓ga20005, ↓ga20009, ↓ga20010, ↓ga20012, ↓ga20013, ↓ga20015, ↓ga20016, ↓ga20017, ↓ga20018, ↓ga20019, ↓ga20020, ↓ga20022, ↓ga20023, ↓ga20024, ↓ga20025, ↓ga20026, ↓ga20027, ↓ga20028, ↓ga20029, ↓ga20030, ↓ga20031, ↓ga20032, ↓ga20033, ↓ga20034, ↓ga20035, ↓ga20036, ↓ga20037, ↓ga20038, ↓ga20039, ↓ga20040, ↓ga20041, ↓ga20042, ↓ga20043, ↓ga20044, ↓ga20045, ↓ga20046, ↓ga20047, ↓ga20048, ↓ga20049, ↓ga20050, ↓ga20051, ↓ga20052, ↓ga20053, ↓ga20054, ↓ga20055, ↓ga20056, ↓ga20057, ↓ga20058, ↓ga20059, ↓ga20060, ↓ga20061, ↓ga20062, ↓ga20063, ↓ga20064, ↓ga20065, ↓ga20066, ↓ga20067, ↓ga20068, ↓pf0_1, ↓pf5000_2, ↓pf6000_2, ↓pf6000_3, ↓pf6000_4, ↓pf9000_2, ↓pf10000_13, ↓pf10000_14, ↓pf10000_15, ↓pf10000_16, ↓pf10000_17, ↓pf11000_0, ↓pf11000_1, ↓pf11000_18, ↓pf11000_29, ↓pf11000_30, ↓pf11000_31, ↓pf11000_32, ↓pf11000_34, ↓pf11000_35, ↓pf11000_36, ↓pf11000_42, ↓pf11000_43, ↓pf11000_44, ↓pf11000_47, ↓pf11000_48, ↓pf11000_49, ↓pf11000_50, ↓pf11000_53, ↓pf4000_0, ↓pf4000_1, ↓pf4000_2, ↓pf4000_3, ↓pf4000_4, ↓pf4000_5, ↓pf4000_6, ↓pf4000_7, ↓pf4000_8, ↓pf4001_0, ↓pf4001_1, ↓pf4001_2, ↓pf4001_3, ↓pf4001_4, ↓pf4001_5, ↓pf4001_6, ↓pf4001_7, ↓pf4001_8, ↓sa20000, ↓sa20001, ↓sa20002, ↓sa20003, ↓sa20004, ↓sa20005, ↓sa20009, ↓sa20010, ↓sa20012, ↓sa20013, ↓sa20015, ↓sa20016, ↓sa20017, ↓sa20018, ↓sa20019, ↓sa20020, ↓sa20022, ↓sa20023, ↓sa20024, ↓sa20025, ↓sa20026, ↓sa20027, ↓sa20028, ↓sa20029, ↓sa20030, ↓sa20031, ↓sa20032, ↓sa20033, ↓sa20034, ↓sa20035, ↓sa20036, ↓sa20037, ↓sa20038, ↓sa20039, ↓sa20040, ↓sa20041, ↓sa20042, ↓sa20043, ↓sa20044, ↓sa20045, ↓sa20046, ↓sa20047, ↓sa20048, ↓sa20049, ↓sa20050, ↓sa20051, ↓sa20052, ↓sa20053, ↓sa20054, ↓sa20055, ↓sa20056, ↓sa20057, ↓sa20058, ↓sa20059, ↓sa20060, ↓sa20061, ↓sa20062, ↓sa20063, ↓sa20064, ↓sa20065, ↓sa20066, ↓sa20067, ↓sa20068, ↓s93, ↓s94, ↓s95, ↓s96, ↓s97, ↓s98, ↓s99, ↓s100, ↓s101, ↓s104, ↓s105, ↓s106, ↓s125, ↓s126, ↓s127, ↓s219, ↓s220, ↓s221, ↓h128, ↓h129, ↓h130, ↓h131, ↓s132, ↓h157, ↓h194, ↓h211, ↓cI_s, ↓cV_s, ↓cR_s, ↓cR_n, ↓reduceIte, ↓bI_01, ↓ro0, ↓ro1, ↓ro2, ↓ro3, ↓rol3, up3_s, up3_c, ne_eq, Nat.reduceEqDiff, Wp_s, bI_z, not_true_eq_false, not_false_eq_true, and_self, and_true, true_and, and_false, false_and, if_true, if_false, Classical.not_not, g1, g2, c64, nI_add, ib_n (show n * 64 + s < 320 by omega) (by decide), nI_clamp (show n * 64 + s < 2 ^ 31 by omega)])
      have hm := s197 (d := d) (e := e) (L := L) (xs := xs) hN hl hn hs g1 g2
      refine ⟨_, _, hm, ?_, ?_⟩
      · rw [Nat.mul_comm]
        exact h6 n hn s hs
      · exact IH_i ⟨i1, i2, i3, i4, i5, i6, i7, i8, i9, i10, i11, i12, i13, i14, i15, i16, i17, i18, i19, i20, i21, i22, i23, i24, i25⟩
    · (simp only [↓m84, ↓vo0, ↓rf0_0, ↓gf0_1, ↓vo1000, ↓rf1000_0, ↓rf1000_1, ↓vo2000, ↓rf2000_0, ↓rf2000_1, ↓rf2000_2, ↓rf2000_3, ↓vo5000, ↓rf5000_0, ↓rf5000_1, ↓gf5000_2, ↓vo6000, ↓rf6000_0, ↓rf6000_1, ↓gf6000_2, ↓gf6000_3, ↓gf6000_4, ↓vo9000, ↓rf9000_0, ↓rf9000_1, ↓gf9000_2, ↓rf9000_3, ↓rf9000_4, ↓vo10000, ↓rf10000_0, ↓rf10000_1, ↓rf10000_2, ↓rf10000_3, ↓rf10000_4, ↓rf10000_5, ↓rf10000_6, ↓rf10000_7, ↓rf10000_8, ↓rf10000_9, ↓rf10000_10, ↓rf10000_11, ↓rf10000_12, ↓gf10000_13, ↓gf10000_14, ↓gf10000_15, ↓gf10000_16, ↓gf10000_17, ↓vo11000, ↓gf11000_0, ↓gf11000_1, ↓rf11000_2, ↓rf11000_3, ↓rf11000_4, ↓rf11000_5, ↓rf11000_6, ↓rf11000_7, ↓rf11000_8, ↓rf11000_9, ↓rf11000_10, ↓rf11000_11, ↓rf11000_12, ↓rf11000_13, ↓rf11000_14, ↓rf11000_15, ↓rf11000_16, ↓rf11000_17, ↓gf11000_18, ↓rf11000_19, ↓rf11000_20, ↓rf11000_21, ↓rf11000_22, ↓rf11000_23, ↓rf11000_24, ↓rf11000_25, ↓rf11000_26, ↓rf11000_27, ↓rf11000_28, ↓gf11000_29, ↓gf11000_30, ↓gf11000_31, ↓gf11000_32, ↓rf11000_33, ↓gf11000_34, ↓gf11000_35, ↓gf11000_36, ↓rf11000_37, ↓rf11000_38, ↓rf11000_39, ↓rf11000_40, ↓rf11000_41, ↓gf11000_42, ↓gf11000_43, ↓gf11000_44, ↓rf11000_45, ↓rf11000_46, ↓gf11000_47, ↓gf11000_48, ↓gf11000_49, ↓gf11000_50, ↓rf11000_51, ↓rf11000_52, ↓gf11000_53, ↓rf11000_54, ↓rf11000_55, ↓rf11000_56, ↓rf11000_57, ↓rf11000_58, ↓vo4000, ↓gf4000_0, ↓gf4000_1, ↓gf4000_2, ↓gf4000_3, ↓gf4000_4, ↓gf4000_5, ↓gf4000_6, ↓gf4000_7, ↓gf4000_8, ↓rf4000_9, ↓vo4001, ↓gf4001_0, ↓gf4001_1, ↓gf4001_2, ↓gf4001_3, ↓gf4001_4, ↓gf4001_5, ↓gf4001_6, ↓gf4001_7, ↓gf4001_8, ↓rf4001_9, ↓ga20000, ↓ga20001, ↓ga20002, ↓ga20003, ↓ga20004, ↓ga20005, ↓ga20009, ↓ga20010, ↓ga20012, ↓ga20013, ↓ga20015, ↓ga20016, ↓ga20017, ↓ga20018, ↓ga20019, ↓ga20020, ↓ga20022, ↓ga20023, ↓ga20024, ↓ga20025, ↓ga20026, ↓ga20027, ↓ga20028, ↓ga20029, ↓ga20030, ↓ga20031, ↓ga20032, ↓ga20033, ↓ga20034, ↓ga20035, ↓ga20036, ↓ga20037, ↓ga20038, ↓ga20039, ↓ga20040, ↓ga20041, ↓ga20042, ↓ga20043, ↓ga20044, ↓ga20045, ↓ga20046, ↓ga20047, ↓ga20048, ↓ga20049, ↓ga20050, ↓ga20051, ↓ga20052, ↓ga20053, ↓ga20054, ↓ga20055, ↓ga20056, ↓ga20057, ↓ga20058, ↓ga20059, ↓ga20060, ↓ga20061, ↓ga20062, ↓ga20063, ↓ga20064, ↓ga20065, ↓ga20066, ↓ga20067, ↓ga20068, ↓pf0_1, ↓pf5000_2, ↓pf6000_2, ↓pf6000_3, ↓pf6000_4, ↓pf9000_2, ↓pf10000_13, ↓pf10000_14, ↓pf10000_15, ↓pf10000_16, ↓pf10000_17, ↓pf11000_0, ↓pf11000_1, ↓pf11000_18, ↓pf11000_29, ↓pf11000_30, ↓pf11000_31, ↓pf11000_32, ↓pf11000_34, ↓pf11000_35, ↓pf11000_36, ↓pf11000_42, ↓pf11000_43, ↓pf11000_44, ↓pf11000_47, ↓pf11000_48, ↓pf11000_49, ↓pf11000_50, ↓pf11000_53, ↓pf4000_0, ↓pf4000_1, ↓pf4000_2, ↓pf4000_3, ↓pf4000_4, ↓pf4000_5, ↓pf4000_6, ↓pf4000_7, ↓pf4000_8, ↓pf4001_0, ↓pf4001_1, ↓pf4001_2, ↓pf4001_3, ↓pf4001_4, ↓pf4001_5, ↓pf4001_6, ↓pf4001_7, ↓pf4001_8, ↓sa20000, ↓sa20001, ↓sa20002, ↓sa20003, ↓sa20004, ↓sa20005, ↓sa20009, ↓sa20010, ↓sa20012, ↓sa20013, ↓sa20015, ↓sa20016, ↓sa20017, ↓sa20018, ↓sa20019, ↓sa20020, ↓sa20022, ↓sa20023, ↓sa20024, ↓sa20025, ↓sa20026, ↓sa20027, ↓sa20028, ↓sa20029, ↓sa20030, ↓sa20031, ↓sa20032, ↓sa20033, ↓sa20034, ↓sa20035, ↓sa20036, ↓sa20037, ↓sa20038, ↓sa20039, ↓sa20040, ↓sa20041, ↓sa20042, ↓sa20043, ↓sa20044, ↓sa20045, ↓sa20046, ↓sa20047, ↓sa20048, ↓sa20049, ↓sa20050, ↓sa20051, ↓sa20052, ↓sa20053, ↓sa20054, ↓sa20055, ↓sa20056, ↓sa20057, ↓sa20058, ↓sa20059, ↓sa20060, ↓sa20061, ↓sa20062, ↓sa20063, ↓sa20064, ↓sa20065, ↓sa20066, ↓sa20067, ↓sa20068, ↓s93, ↓s94, ↓s95, ↓s96, ↓s97, ↓s98, ↓s99, ↓s100, ↓s101, ↓s104, ↓s105, ↓s106, ↓s125, ↓s126, ↓s127, ↓s219, ↓s220, ↓s221, ↓h128, ↓h129, ↓h130, ↓h131, ↓s132, ↓h157, ↓h194, ↓h211, ↓cI_s, ↓cV_s, ↓cR_s, ↓cR_n, ↓reduceIte, ↓bI_01, ↓ro0, ↓ro1, ↓ro2, ↓ro3, ↓rol3, up3_s, up3_c, ne_eq, Nat.reduceEqDiff, Wp_s, bI_z, not_true_eq_false, not_false_eq_true, and_self, and_true, true_and, and_false, false_and, if_true, if_false, Classical.not_not, g1, g2])
      refine ⟨-2, HH A G e, m197 0 (by omega) ?_, rfl, IH_i I0⟩
      rw [x197]
      simp only [↓vo0, ↓rf0_0, ↓gf0_1, ↓vo1000, ↓rf1000_0, ↓rf1000_1, ↓vo2000, ↓rf2000_0, ↓rf2000_1, ↓rf2000_2, ↓rf2000_3, ↓vo5000, ↓rf5000_0, ↓rf5000_1, ↓gf5000_2, ↓vo6000, ↓rf6000_0, ↓rf6000_1, ↓gf6000_2, ↓gf6000_3, ↓gf6000_4, ↓vo9000, ↓rf9000_0, ↓rf9000_1, ↓gf9000_2, ↓rf9000_3, ↓rf9000_4, ↓vo10000, ↓rf10000_0, ↓rf10000_1, ↓rf10000_2, ↓rf10000_3, ↓rf10000_4, ↓rf10000_5, ↓rf10000_6, ↓rf10000_7, ↓rf10000_8, ↓rf10000_9, ↓rf10000_10, ↓rf10000_11, ↓rf10000_12, ↓gf10000_13, ↓gf10000_14, ↓gf10000_15, ↓gf10000_16, ↓gf10000_17, ↓vo11000, ↓gf11000_0, ↓gf11000_1, ↓rf11000_2, ↓rf11000_3, ↓rf11000_4, ↓rf11000_5, ↓rf11000_6, ↓rf11000_7, ↓rf11000_8, ↓rf11000_9, ↓rf11000_10, ↓rf11000_11, ↓rf11000_12, ↓rf11000_13, ↓rf11000_14, ↓rf11000_15, ↓rf11000_16, ↓rf11000_17, ↓gf11000_18, ↓rf11000_19, ↓rf11000_20, ↓rf11000_21, ↓rf11000_22, ↓rf11000_23, ↓rf11000_24, ↓rf11000_25, ↓rf11000_26, ↓rf11000_27, ↓rf11000_28, ↓gf11000_29, ↓gf11000_30, ↓gf11000_31, ↓gf11000_32, ↓rf11000_33, ↓gf11000_34, ↓gf11000_35, ↓gf11000_36, ↓rf11000_37, ↓rf11000_38, ↓rf11000_39, ↓rf11000_40, ↓rf11000_41, ↓gf11000_42, ↓gf11000_43, ↓gf11000_44, ↓rf11000_45, ↓rf11000_46, ↓gf11000_47, ↓gf11000_48, ↓gf11000_49, ↓gf11000_50, ↓rf11000_51, ↓rf11000_52, ↓gf11000_53, ↓rf11000_54, ↓rf11000_55, ↓rf11000_56, ↓rf11000_57, ↓rf11000_58, ↓vo4000, ↓gf4000_0, ↓gf4000_1, ↓gf4000_2, ↓gf4000_3, ↓gf4000_4, ↓gf4000_5, ↓gf4000_6, ↓gf4000_7, ↓gf4000_8, ↓rf4000_9, ↓vo4001, ↓gf4001_0, ↓gf4001_1, ↓gf4001_2, ↓gf4001_3, ↓gf4001_4, ↓gf4001_5, ↓gf4001_6, ↓gf4001_7, ↓gf4001_8, ↓rf4001_9, ↓ga20000, ↓ga20001, ↓ga20002, ↓ga20003, ↓ga20004, ↓ga20005, ↓ga20009, ↓ga20010, ↓ga20012, ↓ga20013, ↓ga20015, ↓ga20016, ↓ga20017, ↓ga20018, ↓ga20019, ↓ga20020, ↓ga20022, ↓ga20023, ↓ga20024, ↓ga20025, ↓ga20026, ↓ga20027, ↓ga20028, ↓ga20029, ↓ga20030, ↓ga20031, ↓ga20032, ↓ga20033, ↓ga20034, ↓ga20035, ↓ga20036, ↓ga20037, ↓ga20038, ↓ga20039, ↓ga20040, ↓ga20041, ↓ga20042, ↓ga20043, ↓ga20044, ↓ga20045, ↓ga20046, ↓ga20047, ↓ga20048, ↓ga20049, ↓ga20050, ↓ga20051, ↓ga20052, ↓ga20053, ↓ga20054, ↓ga20055, ↓ga20056, ↓ga20057, ↓ga20058, ↓ga20059, ↓ga20060, ↓ga20061, ↓ga20062, ↓ga20063, ↓ga20064, ↓ga20065, ↓ga20066, ↓ga20067, ↓ga20068, ↓pf0_1, ↓pf5000_2, ↓pf6000_2, ↓pf6000_3, ↓pf6000_4, ↓pf9000_2, ↓pf10000_13, ↓pf10000_14, ↓pf10000_15, ↓pf10000_16, ↓pf10000_17, ↓pf11000_0, ↓pf11000_1, ↓pf11000_18, ↓pf11000_29, ↓pf11000_30, ↓pf11000_31, ↓pf11000_32, ↓pf11000_34, ↓pf11000_35, ↓pf11000_36, ↓pf11000_42, ↓pf11000_43, ↓pf11000_44, ↓pf11000_47, ↓pf11000_48, ↓pf11000_49, ↓pf11000_50, ↓pf11000_53, ↓pf4000_0, ↓pf4000_1, ↓pf4000_2, ↓pf4000_3, ↓pf4000_4, ↓pf4000_5, ↓pf4000_6, ↓pf4000_7, ↓pf4000_8, ↓pf4001_0, ↓pf4001_1, ↓pf4001_2, ↓pf4001_3, ↓pf4001_4, ↓pf4001_5, ↓pf4001_6, ↓pf4001_7, ↓pf4001_8, ↓sa20000, ↓sa20001, ↓sa20002, ↓sa20003, ↓sa20004, ↓sa20005, ↓sa20009, ↓sa20010, ↓sa20012, ↓sa20013, ↓sa20015, ↓sa20016, ↓sa20017, ↓sa20018, ↓sa20019, ↓sa20020, ↓sa20022, ↓sa20023, ↓sa20024, ↓sa20025, ↓sa20026, ↓sa20027, ↓sa20028, ↓sa20029, ↓sa20030, ↓sa20031, ↓sa20032, ↓sa20033, ↓sa20034, ↓sa20035, ↓sa20036, ↓sa20037, ↓sa20038, ↓sa20039, ↓sa20040, ↓sa20041, ↓sa20042, ↓sa20043, ↓sa20044, ↓sa20045, ↓sa20046, ↓sa20047, ↓sa20048, ↓sa20049, ↓sa20050, ↓sa20051, ↓sa20052, ↓sa20053, ↓sa20054, ↓sa20055, ↓sa20056, ↓sa20057, ↓sa20058, ↓sa20059, ↓sa20060, ↓sa20061, ↓sa20062, ↓sa20063, ↓sa20064, ↓sa20065, ↓sa20066, ↓sa20067, ↓sa20068, ↓s93, ↓s94, ↓s95, ↓s96, ↓s97, ↓s98, ↓s99, ↓s100, ↓s101, ↓s104, ↓s105, ↓s106, ↓s125, ↓s126, ↓s127, ↓s219, ↓s220, ↓s221, ↓h128, ↓h129, ↓h130, ↓h131, ↓s132, ↓h157, ↓h194, ↓h211, ↓cI_s, ↓cV_s, ↓cR_s, ↓cR_n, ↓reduceIte, ↓bI_01, ↓ro0, ↓ro1, ↓ro2, ↓ro3, ↓rol3, up3_s, up3_c, ne_eq, Nat.reduceEqDiff, Wp_s, bI_z, not_true_eq_false, not_false_eq_true, and_self, and_true, true_and, and_false, false_and, if_true, if_false, Classical.not_not, g1, g2]
  · (simp only [↓m84, ↓vo0, ↓rf0_0, ↓gf0_1, ↓vo1000, ↓rf1000_0, ↓rf1000_1, ↓vo2000, ↓rf2000_0, ↓rf2000_1, ↓rf2000_2, ↓rf2000_3, ↓vo5000, ↓rf5000_0, ↓rf5000_1, ↓gf5000_2, ↓vo6000, ↓rf6000_0, ↓rf6000_1, ↓gf6000_2, ↓gf6000_3, ↓gf6000_4, ↓vo9000, ↓rf9000_0, ↓rf9000_1, ↓gf9000_2, ↓rf9000_3, ↓rf9000_4, ↓vo10000, ↓rf10000_0, ↓rf10000_1, ↓rf10000_2, ↓rf10000_3, ↓rf10000_4, ↓rf10000_5, ↓rf10000_6, ↓rf10000_7, ↓rf10000_8, ↓rf10000_9, ↓rf10000_10, ↓rf10000_11, ↓rf10000_12, ↓gf10000_13, ↓gf10000_14, ↓gf10000_15, ↓gf10000_16, ↓gf10000_17, ↓vo11000, ↓gf11000_0, ↓gf11000_1, ↓rf11000_2, ↓rf11000_3, ↓rf11000_4, ↓rf11000_5, ↓rf11000_6, ↓rf11000_7, ↓rf11000_8, ↓rf11000_9, ↓rf11000_10, ↓rf11000_11, ↓rf11000_12, ↓rf11000_13, ↓rf11000_14, ↓rf11000_15, ↓rf11000_16, ↓rf11000_17, ↓gf11000_18, ↓rf11000_19, ↓rf11000_20, ↓rf11000_21, ↓rf11000_22, ↓rf11000_23, ↓rf11000_24, ↓rf11000_25, ↓rf11000_26, ↓rf11000_27, ↓rf11000_28, ↓gf11000_29, ↓gf11000_30, ↓gf11000_31, ↓gf11000_32, ↓rf11000_33, ↓gf11000_34, ↓gf11000_35, ↓gf11000_36, ↓rf11000_37, ↓rf11000_38, ↓rf11000_39, ↓rf11000_40, ↓rf11000_41, ↓gf11000_42, ↓gf11000_43, ↓gf11000_44, ↓rf11000_45, ↓rf11000_46, ↓gf11000_47, ↓gf11000_48, ↓gf11000_49, ↓gf11000_50, ↓rf11000_51, ↓rf11000_52, ↓gf11000_53, ↓rf11000_54, ↓rf11000_55, ↓rf11000_56, ↓rf11000_57, ↓rf11000_58, ↓vo4000, ↓gf4000_0, ↓gf4000_1, ↓gf4000_2, ↓gf4000_3, ↓gf4000_4, ↓gf4000_5, ↓gf4000_6, ↓gf4000_7, ↓gf4000_8, ↓rf4000_9, ↓vo4001, ↓gf4001_0, ↓gf4001_1, ↓gf4001_2, ↓gf4001_3, ↓gf4001_4, ↓gf4001_5, ↓gf4001_6, ↓gf4001_7, ↓gf4001_8, ↓rf4001_9, ↓ga20000, ↓ga20001, ↓ga20002, ↓ga20003, ↓ga20004, ↓ga20005, ↓ga20009, ↓ga20010, ↓ga20012, ↓ga20013, ↓ga20015, ↓ga20016, ↓ga20017, ↓ga20018, ↓ga20019, ↓ga20020, ↓ga20022, ↓ga20023, ↓ga20024, ↓ga20025, ↓ga20026, ↓ga20027, ↓ga20028, ↓ga20029, ↓ga20030, ↓ga20031, ↓ga20032, ↓ga20033, ↓ga20034, ↓ga20035, ↓ga20036, ↓ga20037, ↓ga20038, ↓ga20039, ↓ga20040, ↓ga20041, ↓ga20042, ↓ga20043, ↓ga20044, ↓ga20045, ↓ga20046, ↓ga20047, ↓ga20048, ↓ga20049, ↓ga20050, ↓ga20051, ↓ga20052, ↓ga20053, ↓ga20054, ↓ga20055, ↓ga20056, ↓ga20057, ↓ga20058, ↓ga20059, ↓ga20060, ↓ga20061, ↓ga20062, ↓ga20063, ↓ga20064, ↓ga20065, ↓ga20066, ↓ga20067, ↓ga20068, ↓pf0_1, ↓pf5000_2, ↓pf6000_2, ↓pf6000_3, ↓pf6000_4, ↓pf9000_2, ↓pf10000_13, ↓pf10000_14, ↓pf10000_15, ↓pf10000_16, ↓pf10000_17, ↓pf11000_0, ↓pf11000_1, ↓pf11000_18, ↓pf11000_29, ↓pf11000_30, ↓pf11000_31, ↓pf11000_32, ↓pf11000_34, ↓pf11000_35, ↓pf11000_36, ↓pf11000_42, ↓pf11000_43, ↓pf11000_44, ↓pf11000_47, ↓pf11000_48, ↓pf11000_49, ↓pf11000_50, ↓pf11000_53, ↓pf4000_0, ↓pf4000_1, ↓pf4000_2, ↓pf4000_3, ↓pf4000_4, ↓pf4000_5, ↓pf4000_6, ↓pf4000_7, ↓pf4000_8, ↓pf4001_0, ↓pf4001_1, ↓pf4001_2, ↓pf4001_3, ↓pf4001_4, ↓pf4001_5, ↓pf4001_6, ↓pf4001_7, ↓pf4001_8, ↓sa20000, ↓sa20001, ↓sa20002, ↓sa20003, ↓sa20004, ↓sa20005, ↓sa20009, ↓sa20010, ↓sa20012, ↓sa20013, ↓sa20015, ↓sa20016, ↓sa20017, ↓sa20018, ↓sa20019, ↓sa20020, ↓sa20022, ↓sa20023, ↓sa20024, ↓sa20025, ↓sa20026, ↓sa20027, ↓sa20028, ↓sa20029, ↓sa20030, ↓sa20031, ↓sa20032, ↓sa20033, ↓sa20034, ↓sa20035, ↓sa20036, ↓sa20037, ↓sa20038, ↓sa20039, ↓sa20040, ↓sa20041, ↓sa20042, ↓sa20043, ↓sa20044, ↓sa20045, ↓sa20046, ↓sa20047, ↓sa20048, ↓sa20049, ↓sa20050, ↓sa20051, ↓sa20052, ↓sa20053, ↓sa20054, ↓sa20055, ↓sa20056, ↓sa20057, ↓sa20058, ↓sa20059, ↓sa20060, ↓sa20061, ↓sa20062, ↓sa20063, ↓sa20064, ↓sa20065, ↓sa20066, ↓sa20067, ↓sa20068, ↓s93, ↓s94, ↓s95, ↓s96, ↓s97, ↓s98, ↓s99, ↓s100, ↓s101, ↓s104, ↓s105, ↓s106, ↓s125, ↓s126, ↓s127, ↓s219, ↓s220, ↓s221, ↓h128, ↓h129, ↓h130, ↓h131, ↓s132, ↓h157, ↓h194, ↓h211, ↓cI_s, ↓cV_s, ↓cR_s, ↓cR_n, ↓reduceIte, ↓bI_01, ↓ro0, ↓ro1, ↓ro2, ↓ro3, ↓rol3, up3_s, up3_c, ne_eq, Nat.reduceEqDiff, Wp_s, bI_z, not_true_eq_false, not_false_eq_true, and_self, and_true, true_and, and_false, false_and, if_true, if_false, Classical.not_not, g1])
    refine ⟨-2, HH A G e, m197 0 (by omega) ?_, rfl, IH_i I0⟩
    rw [x197]
    simp only [↓vo0, ↓rf0_0, ↓gf0_1, ↓vo1000, ↓rf1000_0, ↓rf1000_1, ↓vo2000, ↓rf2000_0, ↓rf2000_1, ↓rf2000_2, ↓rf2000_3, ↓vo5000, ↓rf5000_0, ↓rf5000_1, ↓gf5000_2, ↓vo6000, ↓rf6000_0, ↓rf6000_1, ↓gf6000_2, ↓gf6000_3, ↓gf6000_4, ↓vo9000, ↓rf9000_0, ↓rf9000_1, ↓gf9000_2, ↓rf9000_3, ↓rf9000_4, ↓vo10000, ↓rf10000_0, ↓rf10000_1, ↓rf10000_2, ↓rf10000_3, ↓rf10000_4, ↓rf10000_5, ↓rf10000_6, ↓rf10000_7, ↓rf10000_8, ↓rf10000_9, ↓rf10000_10, ↓rf10000_11, ↓rf10000_12, ↓gf10000_13, ↓gf10000_14, ↓gf10000_15, ↓gf10000_16, ↓gf10000_17, ↓vo11000, ↓gf11000_0, ↓gf11000_1, ↓rf11000_2, ↓rf11000_3, ↓rf11000_4, ↓rf11000_5, ↓rf11000_6, ↓rf11000_7, ↓rf11000_8, ↓rf11000_9, ↓rf11000_10, ↓rf11000_11, ↓rf11000_12, ↓rf11000_13, ↓rf11000_14, ↓rf11000_15, ↓rf11000_16, ↓rf11000_17, ↓gf11000_18, ↓rf11000_19, ↓rf11000_20, ↓rf11000_21, ↓rf11000_22, ↓rf11000_23, ↓rf11000_24, ↓rf11000_25, ↓rf11000_26, ↓rf11000_27, ↓rf11000_28, ↓gf11000_29, ↓gf11000_30, ↓gf11000_31, ↓gf11000_32, ↓rf11000_33, ↓gf11000_34, ↓gf11000_35, ↓gf11000_36, ↓rf11000_37, ↓rf11000_38, ↓rf11000_39, ↓rf11000_40, ↓rf11000_41, ↓gf11000_42, ↓gf11000_43, ↓gf11000_44, ↓rf11000_45, ↓rf11000_46, ↓gf11000_47, ↓gf11000_48, ↓gf11000_49, ↓gf11000_50, ↓rf11000_51, ↓rf11000_52, ↓gf11000_53, ↓rf11000_54, ↓rf11000_55, ↓rf11000_56, ↓rf11000_57, ↓rf11000_58, ↓vo4000, ↓gf4000_0, ↓gf4000_1, ↓gf4000_2, ↓gf4000_3, ↓gf4000_4, ↓gf4000_5, ↓gf4000_6, ↓gf4000_7, ↓gf4000_8, ↓rf4000_9, ↓vo4001, ↓gf4001_0, ↓gf4001_1, ↓gf4001_2, ↓gf4001_3, ↓gf4001_4, ↓gf4001_5, ↓gf4001_6, ↓gf4001_7, ↓gf4001_8, ↓rf4001_9, ↓ga20000, ↓ga20001, ↓ga20002, ↓ga20003, ↓ga20004, ↓ga20005, ↓ga20009, ↓ga20010, ↓ga20012, ↓ga20013, ↓ga20015, ↓ga20016, ↓ga20017, ↓ga20018, ↓ga20019, ↓ga20020, ↓ga20022, ↓ga20023, ↓ga20024, ↓ga20025, ↓ga20026, ↓ga20027, ↓ga20028, ↓ga20029, ↓ga20030, ↓ga20031, ↓ga20032, ↓ga20033, ↓ga20034, ↓ga20035, ↓ga20036, ↓ga20037, ↓ga20038, ↓ga20039, ↓ga20040, ↓ga20041, ↓ga20042, ↓ga20043, ↓ga20044, ↓ga20045, ↓ga20046, ↓ga20047, ↓ga20048, ↓ga20049, ↓ga20050, ↓ga20051, ↓ga20052, ↓ga20053, ↓ga20054, ↓ga20055, ↓ga20056, ↓ga20057, ↓ga20058, ↓ga20059, ↓ga20060, ↓ga20061, ↓ga20062, ↓ga20063, ↓ga20064, ↓ga20065, ↓ga20066, ↓ga20067, ↓ga20068, ↓pf0_1, ↓pf5000_2, ↓pf6000_2, ↓pf6000_3, ↓pf6000_4, ↓pf9000_2, ↓pf10000_13, ↓pf10000_14, ↓pf10000_15, ↓pf10000_16, ↓pf10000_17, ↓pf11000_0, ↓pf11000_1, ↓pf11000_18, ↓pf11000_29, ↓pf11000_30, ↓pf11000_31, ↓pf11000_32, ↓pf11000_34, ↓pf11000_35, ↓pf11000_36, ↓pf11000_42, ↓pf11000_43, ↓pf11000_44, ↓pf11000_47, ↓pf11000_48, ↓pf11000_49, ↓pf11000_50, ↓pf11000_53, ↓pf4000_0, ↓pf4000_1, ↓pf4000_2, ↓pf4000_3, ↓pf4000_4, ↓pf4000_5, ↓pf4000_6, ↓pf4000_7, ↓pf4000_8, ↓pf4001_0, ↓pf4001_1, ↓pf4001_2, ↓pf4001_3, ↓pf4001_4, ↓pf4001_5, ↓pf4001_6, ↓pf4001_7, ↓pf4001_8, ↓sa20000, ↓sa20001, ↓sa20002, ↓sa20003, ↓sa20004, ↓sa20005, ↓sa20009, ↓sa20010, ↓sa20012, ↓sa20013, ↓sa20015, ↓sa20016, ↓sa20017, ↓sa20018, ↓sa20019, ↓sa20020, ↓sa20022, ↓sa20023, ↓sa20024, ↓sa20025, ↓sa20026, ↓sa20027, ↓sa20028, ↓sa20029, ↓sa20030, ↓sa20031, ↓sa20032, ↓sa20033, ↓sa20034, ↓sa20035, ↓sa20036, ↓sa20037, ↓sa20038, ↓sa20039, ↓sa20040, ↓sa20041, ↓sa20042, ↓sa20043, ↓sa20044, ↓sa20045, ↓sa20046, ↓sa20047, ↓sa20048, ↓sa20049, ↓sa20050, ↓sa20051, ↓sa20052, ↓sa20053, ↓sa20054, ↓sa20055, ↓sa20056, ↓sa20057, ↓sa20058, ↓sa20059, ↓sa20060, ↓sa20061, ↓sa20062, ↓sa20063, ↓sa20064, ↓sa20065, ↓sa20066, ↓sa20067, ↓sa20068, ↓s93, ↓s94, ↓s95, ↓s96, ↓s97, ↓s98, ↓s99, ↓s100, ↓s101, ↓s104, ↓s105, ↓s106, ↓s125, ↓s126, ↓s127, ↓s219, ↓s220, ↓s221, ↓h128, ↓h129, ↓h130, ↓h131, ↓s132, ↓h157, ↓h194, ↓h211, ↓cI_s, ↓cV_s, ↓cR_s, ↓cR_n, ↓reduceIte, ↓bI_01, ↓ro0, ↓ro1, ↓ro2, ↓ro3, ↓rol3, up3_s, up3_c, ne_eq, Nat.reduceEqDiff, Wp_s, bI_z, not_true_eq_false, not_false_eq_true, and_self, and_true, true_and, and_false, false_and, if_true, if_false, Classical.not_not, g1]
end LOOK2
