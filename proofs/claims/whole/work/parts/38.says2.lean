/-! SAYS: the law that rules, and what it says -/
theorem l122n (ro : RO) (C : Nat → List Value → PH → PR) (Jh : Nat → PL → List Value → PH → PR) (h : PH) (k0 : Nat) (a1 : Int32) (a2 : Int32) (a4 : Int32) (o5 : Option Value) : EXs ro p122 C [5] Jh 4 5 [some (.ref k0), some (.int a1), some (.int a2), some .null, some (.int a4), o5] [] h = (gI h k0 10 16 fun x1 => (if a4 < x1 then (gR h k0 10 7 none fun q2 => (aR h q2 a4 none fun q3 => (gI h q3 3 0 fun x4 => (if x4 = a1 then (gI h q3 3 1 fun x5 => (if a2 < x5 then (Jh 5 [some (.ref k0), some (.int a1), some (.int a2), some .null, some (.int (a4 + 1)), some (.ref q3)] [] h) else (Jh 5 [some (.ref k0), some (.int a1), some (.int a2), some (.ref q3), some (.int (a4 + 1)), some (.ref q3)] [] h))) else (Jh 5 [some (.ref k0), some (.int a1), some (.int a2), some .null, some (.int (a4 + 1)), some (.ref q3)] [] h))))) else (some (some .null, h)))) := rfl
theorem l122r (ro : RO) (C : Nat → List Value → PH → PR) (Jh : Nat → PL → List Value → PH → PR) (h : PH) (k0 : Nat) (a1 : Int32) (a2 : Int32) (k3 : Nat) (a4 : Int32) (o5 : Option Value) : EXs ro p122 C [5] Jh 4 5 [some (.ref k0), some (.int a1), some (.int a2), some (.ref k3), some (.int a4), o5] [] h = (gI h k0 10 16 fun x1 => (if a4 < x1 then (gR h k0 10 7 none fun q2 => (aR h q2 a4 none fun q3 => (gI h q3 3 0 fun x4 => (if x4 = a1 then (gI h q3 3 1 fun x5 => (if a2 < x5 then (Jh 5 [some (.ref k0), some (.int a1), some (.int a2), some (.ref k3), some (.int (a4 + 1)), some (.ref q3)] [] h) else (gI h q3 3 1 fun x6 => (gI h k3 3 1 fun x7 => (if x6 < x7 then (Jh 5 [some (.ref k0), some (.int a1), some (.int a2), some (.ref k3), some (.int (a4 + 1)), some (.ref q3)] [] h) else (Jh 5 [some (.ref k0), some (.int a1), some (.int a2), some (.ref q3), some (.int (a4 + 1)), some (.ref q3)] [] h)))))) else (Jh 5 [some (.ref k0), some (.int a1), some (.int a2), some (.ref k3), some (.int (a4 + 1)), some (.ref q3)] [] h))))) else (some (some (.ref k3), h)))) := rfl
def blk (G : Mat) (o : Option Nat) (k : Nat) : Bool := match o with
  | none => true
  | some b => decide (¬ G 3 k 1 < G 3 b 1)
/-- the LAW of a COMMITTEE in a YEAR among the first k -/
def bl (G : Mat) (c y : Int32) : Nat → Option Nat
  | 0 => none
  | k + 1 => if decide (G 3 k 0 = c) && (decide (¬ y < G 3 k 1) && blk G (bl G c y k) k) then some k else bl G c y k
theorem bl_lt {G : Mat} {c y : Int32} : ∀ (k b : Nat), bl G c y k = some b → b < k
  | 0, b, h => by cases h
  | k + 1, b, h => by
    unfold bl at h
    split at h
    · cases h
      omega
    · have := bl_lt k b h
      omega
theorem bl_n {G : Mat} {c y : Int32} {k : Nat} (h : (decide (G 3 k 0 = c) && (decide (¬ y < G 3 k 1) && blk G (bl G c y k) k)) = false) : bl G c y (k + 1) = bl G c y k := by
  rw [bl, h]
  rfl
theorem bl_y {G : Mat} {c y : Int32} {k : Nat} (h : (decide (G 3 k 0 = c) && (decide (¬ y < G 3 k 1) && blk G (bl G c y k) k)) = true) : bl G c y (k + 1) = some k := by
  rw [bl, h]
  rfl
theorem blk_c {G G' : Mat} (h : G' 3 = G 3) {o : Option Nat} {k : Nat} : blk G' o k = blk G o k := by
  cases o with
  | none => rfl
  | some b =>
    show decide (¬ G' 3 k 1 < G' 3 b 1) = decide (¬ G 3 k 1 < G 3 b 1)
    rw [h]
theorem bl_c {G G' : Mat} (h : G' 3 = G 3) {c y : Int32} : ∀ k, bl G' c y k = bl G c y k
  | 0 => rfl
  | k + 1 => by
    show (if (decide (G' 3 k 0 = c) && (decide (¬ y < G' 3 k 1) && blk G' (bl G' c y k) k)) = true then some k else bl G' c y k) = (if (decide (G 3 k 0 = c) && (decide (¬ y < G 3 k 1) && blk G (bl G c y k) k)) = true then some k else bl G c y k)
    rw [bl_c h k, blk_c h, h]
def ov (o : Option Nat) : Value := match o with
  | none => .null
  | some b => .ref (3000 + b)
section SAY2
variable {A G : Mat} {e : Ev} {L : Nat} {xs : Nat → Int32} {N d : Nat}
theorem aRw (I : Inv A G e) {k : Nat} {X : PR} {K : Nat → PR} (hk : k < eNl e) : aR (HH A G e) 20014 (nI k) X K = K (3000 + k) := by
  have h12 := (I_cnl' I).2.2
  exact (aR_H (by decide) (by decide) rfl (by rw [nI_clamp (by omega)]; exact (I_law' I k hk).2.2.2.2.1)).trans (ib_n (show k < 12 by omega) (by decide))
theorem w122 (I : Inv A G e) {c y : Int32} {C : Nat → List Value → PH → PR} : ∀ (r k : Nat) (o5 : Option Value), k + r = eNl e → EXn (roL L xs) p122 C (4 * (r + 1)) 5 [some (.ref 10000), some (.int c), some (.int y), some (ov (bl G c y k)), some (.int (nI k)), o5] [] (HH A G e) = some (some (ov (bl G c y (eNl e))), HH A G e)
  | 0, k, o5, hk => by
    obtain ⟨z1, z2, z3⟩ := I_cnl' I
    refine EXs_le (S := [5]) (n := 0) 4 5 _ _ _ ?_
    have : k = eNl e := by omega
    subst this
    cases hb : bl G c y (eNl e) with
    | none =>
      show EXs _ _ _ _ _ 4 5 [_, _, _, some .null, _, _] [] _ = _
      rw [l122n, gf10000_16, z1, if_neg (nI_nlt (by omega) (by omega))]
      rfl
    | some b =>
      show EXs _ _ _ _ _ 4 5 [_, _, _, some (.ref (3000 + b)), _, _] [] _ = _
      rw [l122r, gf10000_16, z1, if_neg (nI_nlt (by omega) (by omega))]
      rfl
  | r + 1, k, o5, hk => by
    obtain ⟨z1, z2, z3⟩ := I_cnl' I
    have hk2 : k < eNl e := by omega
    refine EXs_le (S := [5]) (n := 4 * (r + 1)) 4 5 _ _ _ ?_
    have ih := w122 I (c := c) (y := y) (C := C) r (k + 1) (some (.ref (3000 + k))) (by omega)
    have g0 : ∀ K, gI (HH A G e) (3000 + k) 3 0 K = K (G 3 k 0) := fun K => gI3 hk2 (by omega) (by decide)
    have g1 : ∀ K, gI (HH A G e) (3000 + k) 3 1 K = K (G 3 k 1) := fun K => gI3 hk2 (by omega) (by decide)
    cases hb : bl G c y k with
    | none =>
      show EXs _ _ _ _ _ 4 5 [_, _, _, some .null, _, _] [] _ = _
      rw [l122n, gf10000_16, z1, if_pos (nI_lt hk2 (by omega)), rf10000_7, aRw I hk2, g0, nI_1 k]
      by_cases c1 : G 3 k 0 = c
      · rw [if_pos c1, g1]
        by_cases c2 : y < G 3 k 1
        · rw [bl_n (by rw [decide_eq_false (not_not_intro c2)]; simp), hb] at ih
          rw [if_pos c2]
          exact ih
        · rw [bl_y (by rw [decide_eq_true c1, decide_eq_true c2, hb]; rfl)] at ih
          rw [if_neg c2]
          exact ih
      · rw [bl_n (by rw [decide_eq_false c1]; rfl), hb] at ih
        rw [if_neg c1]
        exact ih
    | some b =>
      have hbk := bl_lt k b hb
      have gb : ∀ K, gI (HH A G e) (3000 + b) 3 1 K = K (G 3 b 1) := fun K => gI3 (by omega) (by omega) (by decide)
      show EXs _ _ _ _ _ 4 5 [_, _, _, some (.ref (3000 + b)), _, _] [] _ = _
      rw [l122r, gf10000_16, z1, if_pos (nI_lt hk2 (by omega)), rf10000_7, aRw I hk2, g0, nI_1 k]
      by_cases c1 : G 3 k 0 = c
      · rw [if_pos c1, g1]
        by_cases c2 : y < G 3 k 1
        · rw [bl_n (by rw [decide_eq_false (not_not_intro c2)]; simp), hb] at ih
          rw [if_pos c2]
          exact ih
        · rw [if_neg c2, g1, gb]
          by_cases c3 : G 3 k 1 < G 3 b 1
          · rw [bl_n (by rw [hb]; show (_ && (_ && decide (¬ G 3 k 1 < G 3 b 1))) = false; rw [decide_eq_false (not_not_intro c3)]; simp), hb] at ih
            rw [if_pos c3]
            exact ih
          · rw [bl_y (by rw [hb]; show (_ && (_ && decide (¬ G 3 k 1 < G 3 b 1))) = true; rw [decide_eq_true c1, decide_eq_true c2, decide_eq_true c3]; rfl)] at ih
            rw [if_neg c3]
            exact ih
      · rw [bl_n (by rw [decide_eq_false c1]; rfl), hb] at ih
        rw [if_neg c1]
        exact ih
theorem s122 (I : Inv A G e) {c y : Int32} : CALL (roL L xs) mP mL (N + 5050) (d + 1) 122 [.ref 10000, .int c, .int y] (HH A G e) = some (some (ov (bl G c y (eNl e))), HH A G e) := by
  have z3 := (I_cnl' I).2.2
  refine m122 (4 * (eNl e + 1)) (by omega) ?_
  rw [x122]
  exact w122 I (eNl e) 0 none (by omega)
/-- the reference looks for it too -/
theorem w189 (I : Inv A G e) {c y ll : Int32} {C : Nat → List Value → PH → PR} {b0 : Nat} {res : Option Value × PH} (hres : EXs (roL L xs) p189 C [34] (EXn (roL L xs) p189 C b0) 5 34 [some (.ref 11000), some (.int c), some (.int ll), some (.int y), some (.int (oI (bl G c y (eNl e)))), some (.int (nI (eNl e)))] [] (HH A G e) = some res) : ∀ (r k : Nat), k + r = eNl e → EXn (roL L xs) p189 C (b0 + 5 * (r + 1)) 34 [some (.ref 11000), some (.int c), some (.int ll), some (.int y), some (.int (oI (bl G c y k))), some (.int (nI k))] [] (HH A G e) = some res
  | 0, k, hk => by
    have : k = eNl e := by omega
    subst this
    exact EXs_le (S := [34]) (n := b0) 5 34 _ _ _ hres
  | r + 1, k, hk => by
    obtain ⟨z1, z2, z3⟩ := I_cnl' I
    have hk2 : k < eNl e := by omega
    refine EXs_le (S := [34]) (n := b0 + 5 * (r + 1)) 5 34 _ _ _ ?_
    have ih := w189 I hres r (k + 1) (by omega)
    obtain ⟨l1, l2, -⟩ := I_law' I k hk2
    have ck := nI_clamp (n := k) (by omega)
    have ibk : ∀ K : PR, ib (nI k) 12 K = K := fun K => ib_n (by omega) (by decide)
    rw [l189_34, gf11000_35, z2, if_pos (nI_lt hk2 (by omega)), rf11000_37, ga20055, ibk, ck, ← l1, nI_1 k]
    by_cases c1 : G 3 k 0 = c
    · rw [if_pos c1, rf11000_38, ga20056, ibk, ck, ← l2]
      by_cases c2 : y < G 3 k 1
      · rw [bl_n (by rw [decide_eq_false (not_not_intro c2)]; simp)] at ih
        rw [if_pos c2]
        exact ih
      · rw [if_neg c2]
        cases hb : bl G c y k with
        | none =>
          rw [bl_y (by rw [decide_eq_true c1, decide_eq_true c2, hb]; rfl)] at ih
          rw [if_pos (show oI none < 0 by decide)]
          exact ih
        | some b =>
          have hbk := bl_lt k b hb
          have lb := (I_law' I b (by omega)).2.1
          have cb := nI_clamp (n := b) (by omega)
          rw [if_neg (show ¬ oI (some b) < 0 from nI_pos (by omega)), show oI (some b) = nI b from rfl, rf11000_38, ga20056, ibk, ck, ← l2, rf11000_38, ga20056, ib_n (show b < 12 by omega) (by decide), cb, ← lb]
          by_cases c3 : G 3 k 1 < G 3 b 1
          · rw [bl_n (by rw [hb]; show (_ && (_ && decide (¬ G 3 k 1 < G 3 b 1))) = false; rw [decide_eq_false (not_not_intro c3)]; simp), hb] at ih
            rw [if_pos c3]
            exact ih
          · rw [bl_y (by rw [hb]; show (_ && (_ && decide (¬ G 3 k 1 < G 3 b 1))) = true; rw [decide_eq_true c1, decide_eq_true c2, decide_eq_true c3]; rfl)] at ih
            rw [if_neg c3]
            exact ih
    · rw [bl_n (by rw [decide_eq_false c1]; rfl)] at ih
      rw [if_neg c1]
      exact ih
theorem inv_59 (I : Inv A G e) {gx gy F : Nat → Int32} {a b : Int32} : Inv (upr (upr (upr A 20052 0 gx) 20053 0 gy) 20059 0 F) (S2 G a b) e := by
  obtain ⟨i1, i2, i3, i4, i5, i6, i7, i8, i9, i10, i11, i12, i13, i14, i15, i16, i17, i18, i19, i20, i21, i22, i23, i24, i25⟩ := I
  exact ⟨i1, i2, i3, i4, i5, i6, i7, i8, i9, i10, i11, i12, i13, i14, i15, i16, i17, i18, i19, i20, i21, i22, i23, i24, i25⟩
set_option maxHeartbeats 8000000 in
theorem s188 (hN : 200000 ≤ N) (I : Inv A G e) {l y : Nat} (hl : l < 2) (h8 : ¬ G 4 l 8 < 0) : ∃ gx gy F a b, CALL (roL L xs) mP mL (N + 5050) (d + 9) 188 [.ref 11000, .int (nI l), .int (nI y)] (HH A G e) = some (none, HH (upr (upr (upr A 20052 0 gx) 20053 0 gy) 20059 0 F) (S2 G a b) e) ∧ ∀ j, j < 9 → F j = FX A G e l y j := by
  have z3 := (I_cnt' I).2.2
  have z2 := (I_cnt' I).2.1
  obtain ⟨gx, gy, a0, b0, c0, hv⟩ := c171 (L := L) (xs := xs) (N := N) (D := d + 8) (by omega) I (y := y) (s := 0) (n := 0) hl (by decide) (fun _ => h8)
  have hv' : Wm (upr (upr A 20052 0 gx) 20053 0 gy) G e l y := hv
  have J : ∀ F, Inv (upr (upr (upr A 20052 0 gx) 20053 0 gy) 20059 0 F) G e := fun F => by
    have I := I
    obtain ⟨i1, i2, i3, i4, i5, i6, i7, i8, i9, i10, i11, i12, i13, i14, i15, i16, i17, i18, i19, i20, i21, i22, i23, i24, i25⟩ := I
    exact ⟨i1, i2, i3, i4, i5, i6, i7, i8, i9, i10, i11, i12, i13, i14, i15, i16, i17, i18, i19, i20, i21, i22, i23, i24, i25⟩
  have V : ∀ F, Wm (upr (upr (upr A 20052 0 gx) 20053 0 gy) 20059 0 F) G e l y := fun F => hv
  have c0' : CALL (roL L xs) mP mL (N + 5050) (d + 8) 171 [.ref 11000, .int (nI l), .int 0, .int 0, .int (nI y)] (HH A G e) = some (some (.int (FX A G e l y 5)), HH (upr (upr A 20052 0 gx) 20053 0 gy) (S2 G a0 b0) e) := c0
  have F1 : ∃ F, F = upd ((upr (upr A 20052 0 gx) 20053 0 gy) 20059 0) 5 (FX A G e l y 5) := ⟨_, rfl⟩
  obtain ⟨F1, hF1⟩ := F1
  obtain ⟨a1, b1, c1⟩ := c187 (L := L) (xs := xs) (N := N) (D := d + 8) (by omega) (J F1) (a := a0) (b := b0) (q := 0) (kv := 2) hl (V F1) h8 (by decide) (Or.inl ⟨rfl, rfl⟩)
  have c1' : CALL (roL L xs) mP mL (N + 5050) (d + 8) 187 [.ref 11000, .int (nI l), .int 2, .int (nI y)] (HH (upr (upr (upr A 20052 0 gx) 20053 0 gy) 20059 0 F1) (S2 G a0 b0) e) = some (some (.int (FX A G e l y 0)), HH (upr (upr (upr A 20052 0 gx) 20053 0 gy) 20059 0 F1) (S2 G a1 b1) e) := c1
  obtain ⟨F2, hF2⟩ : ∃ F, F = upd F1 0 (FX A G e l y 0) := ⟨_, rfl⟩
  obtain ⟨a2, b2, c2⟩ := c187 (L := L) (xs := xs) (N := N) (D := d + 8) (by omega) (J F2) (a := a1) (b := b1) (q := 1) (kv := 3) hl (V F2) h8 (by decide) (Or.inr ⟨by decide, lk I (Or.inl ⟨rfl, rfl⟩)⟩)
  have c2' : CALL (roL L xs) mP mL (N + 5050) (d + 8) 187 [.ref 11000, .int (nI l), .int 3, .int (nI y)] (HH (upr (upr (upr A 20052 0 gx) 20053 0 gy) 20059 0 F2) (S2 G a1 b1) e) = some (some (.int (FX A G e l y 1)), HH (upr (upr (upr A 20052 0 gx) 20053 0 gy) 20059 0 F2) (S2 G a2 b2) e) := c2
  obtain ⟨F3, hF3⟩ : ∃ F, F = upd F2 1 (FX A G e l y 1) := ⟨_, rfl⟩
  obtain ⟨a3, b3, c3⟩ := c187 (L := L) (xs := xs) (N := N) (D := d + 8) (by omega) (J F3) (a := a2) (b := b2) (q := 2) (kv := 4) hl (V F3) h8 (by decide) (Or.inr ⟨by decide, lk I (Or.inr (Or.inl ⟨rfl, rfl⟩))⟩)
  have c3' : CALL (roL L xs) mP mL (N + 5050) (d + 8) 187 [.ref 11000, .int (nI l), .int 4, .int (nI y)] (HH (upr (upr (upr A 20052 0 gx) 20053 0 gy) 20059 0 F3) (S2 G a2 b2) e) = some (some (.int (FX A G e l y 2)), HH (upr (upr (upr A 20052 0 gx) 20053 0 gy) 20059 0 F3) (S2 G a3 b3) e) := c3
  obtain ⟨F4, hF4⟩ : ∃ F, F = upd F3 2 (FX A G e l y 2) := ⟨_, rfl⟩
  obtain ⟨a4, b4, c4⟩ := c187 (L := L) (xs := xs) (N := N) (D := d + 8) (by omega) (J F4) (a := a3) (b := b3) (q := 3) (kv := 5) hl (V F4) h8 (by decide) (Or.inr ⟨by decide, lk I (Or.inr (Or.inr ⟨rfl, rfl⟩))⟩)
  have c4' : CALL (roL L xs) mP mL (N + 5050) (d + 8) 187 [.ref 11000, .int (nI l), .int 5, .int (nI y)] (HH (upr (upr (upr A 20052 0 gx) 20053 0 gy) 20059 0 F4) (S2 G a3 b3) e) = some (some (.int (FX A G e l y 3)), HH (upr (upr (upr A 20052 0 gx) 20053 0 gy) 20059 0 F4) (S2 G a4 b4) e) := c4
  obtain ⟨F5, hF5⟩ : ∃ F, F = upd (upd F4 3 (FX A G e l y 3)) 4 0 := ⟨_, rfl⟩
  obtain ⟨F6, hF6⟩ : ∃ F, F = upd (upd (upd F5 4 (FX A G e l y 4)) 6 (FX A G e l y 6)) 7 0 := ⟨_, rfl⟩
  obtain ⟨F7, hF7⟩ : ∃ F, F = upd (upd F6 7 (FX A G e l y 7)) 8 (FX A G e l y 8) := ⟨_, rfl⟩
  have JS : ∀ F a b, Inv (upr (upr (upr A 20052 0 gx) 20053 0 gy) 20059 0 F) (S2 G a b) e := fun F a b => inv_s (J F)
  have v : ∀ (i : Nat) (hi : i < 9) (K : PR), ib (nI i) 9 K = K := fun i hi K => ib_n hi (by decide)
  have t0 : (0 : Int32).toNatClampNeg = 0 := by decide
  have t1 : (1 : Int32).toNatClampNeg = 1 := by decide
  have t2 : (2 : Int32).toNatClampNeg = 2 := by decide
  have t3 : (3 : Int32).toNatClampNeg = 3 := by decide
  have t4 : (4 : Int32).toNatClampNeg = 4 := by decide
  have t5 : (5 : Int32).toNatClampNeg = 5 := by decide
  have t6 : (6 : Int32).toNatClampNeg = 6 := by decide
  have t7 : (7 : Int32).toNatClampNeg = 7 := by decide
  have t8 : (8 : Int32).toNatClampNeg = 8 := by decide
  have v0 : ∀ K : PR, ib (0 : Int32) 9 K = K := v 0 (by decide)
  have v1 : ∀ K : PR, ib (1 : Int32) 9 K = K := v 1 (by decide)
  have v2 : ∀ K : PR, ib (2 : Int32) 9 K = K := v 2 (by decide)
  have v3 : ∀ K : PR, ib (3 : Int32) 9 K = K := v 3 (by decide)
  have v4 : ∀ K : PR, ib (4 : Int32) 9 K = K := v 4 (by decide)
  have v5 : ∀ K : PR, ib (5 : Int32) 9 K = K := v 5 (by decide)
  have v6 : ∀ K : PR, ib (6 : Int32) 9 K = K := v 6 (by decide)
  have v7 : ∀ K : PR, ib (7 : Int32) 9 K = K := v 7 (by decide)
  have v8 : ∀ K : PR, ib (8 : Int32) 9 K = K := v 8 (by decide)
  obtain ⟨m, hm, h1, hp⟩ := I.2.2.2.2.2.2.2.2.2.2.1
  obtain ⟨s, hs, hp1, hp2, hp3⟩ := hp l hl
  refine ⟨gx, gy, F7, a4, b4, m188 ((0 + 4 * (m + 1)) + 3 * (eNr e + 1)) (by omega) ?_, ?_⟩
  · have fin := w188m (A := A) (G := G) (e := e) (L := L) (xs := xs) (N := N) (d := d + 4) (B := (upr (upr A 20052 0 gx) 20053 0 gy)) (y := y) (b0 := 0) (g := F6) (res := (none, HH (upr (upr (upr A 20052 0 gx) 20053 0 gy) 20059 0 F7) (S2 G a4 b4) e)) I hl hm h1 hs hp1 rfl rfl (G' := S2 G a4 b4) h1 (fun g' e1 e2 => by
      have eg : upd F6 7 (FX A G e l y 7) = g' := upd_a (by rw [e2]; exact hp3.symm) e1
      have k163 : ∀ D, CALL (roL L xs) mP mL (N + 5050) (D + 4) 163 [.ref 11000, .int (nI l), .int (nI y)] (HH (upr (upr (upr A 20052 0 gx) 20053 0 gy) 20059 0 g') (S2 G a4 b4) e) = some (some (.int (qO (quB G (nI l) (nI y)) 0 (eNr e))), HH (upr (upr (upr A 20052 0 gx) 20053 0 gy) 20059 0 g') (S2 G a4 b4) e) := fun D => s163 hN (JS g' a4 b4)
      rw [l188_165, gf11000_1, show S2 G a4 b4 11 0 1 = nI m from h1, if_neg Int32.lt_irrefl, rf11000_41, vo11000, k163, cI_s]
      by_cases q : qO (quB G (nI l) (nI y)) 0 (eNr e) < 0
      · rw [if_pos q, sa20059, v8, t8, up3_upr, hF7, eg, show FX A G e l y 8 = 0 from if_pos q]
      · rw [if_neg q, sa20059, v8, t8, up3_upr, hF7, eg, show FX A G e l y 8 = 1 from if_neg q]) m 0 F6 (by omega) (fun _ _ => rfl) (by rw [hF6, pk_us]; rfl)
    have row := w188r (A := A) (G := G) (e := e) (L := L) (xs := xs) (N := N) (d := d + 4) (B := (upr (upr A 20052 0 gx) 20053 0 gy)) (G' := S2 G a4 b4) (y := y) (b0 := 0 + 4 * (m + 1)) (g := F5) (res := (none, HH (upr (upr (upr A 20052 0 gx) 20053 0 gy) 20059 0 F7) (S2 G a4 b4) e)) I hl (fun F => JS F a4 b4) (fun F => hv) rfl (fun _ _ _ _ _ => rfl) (fun g' e1 e2 => by
      have eg : upd F5 4 (FX A G e l y 4) = g' := upd_a e2 e1
      subst eg
      have k176 : ∀ D, CALL (roL L xs) mP mL (N + 5050) (D + 4) 176 [.ref 11000, .int (nI l), .int 1, .int (nI y)] (HH (upr (upr (upr A 20052 0 gx) 20053 0 gy) 20059 0 (upd F5 4 (FX A G e l y 4))) (S2 G a4 b4) e) = some (some (.int (FX A G e l y 6)), HH (upr (upr (upr A 20052 0 gx) 20053 0 gy) 20059 0 (upd F5 4 (FX A G e l y 4))) (S2 G a4 b4) e) := fun D => s176 (JS _ a4 b4) (w := true) hl (by decide) h8
      rw [l188_75, gf11000_18, show S2 G a4 b4 11 0 18 = nI (eNr e) from z2, if_neg Int32.lt_irrefl, rf11000_41, vo11000, k176, cI_s, sa20059, v6, t6, up3_upr, rf11000_41, sa20059, v7, t7, up3_upr, ← hF6]
      exact fin) (eNr e) 0 F5 (by omega) (fun _ _ => rfl) (by rw [hF5, pk_us]; rfl)
    rw [x188, rf11000_41, vo11000, c0', cI_s, sa20059, v5, t5, up3_e, ← hF1, rf11000_41, vo11000, c1', cI_s, sa20059, v0, t0, up3_upr, ← hF2, rf11000_41, vo11000, c2', cI_s, sa20059, v1, t1, up3_upr, ← hF3, rf11000_41, vo11000, c3', cI_s, sa20059, v2, t2, up3_upr, ← hF4, rf11000_41, vo11000, c4', cI_s, sa20059, v3, t3, up3_upr, rf11000_41, sa20059, v4, t4, up3_upr, ← hF5]
    exact row
  · intro j hj
    rw [hF7, hF6, hF5, hF4, hF3, hF2, hF1]
    rcases (show j = 0 ∨ j = 1 ∨ j = 2 ∨ j = 3 ∨ j = 4 ∨ j = 5 ∨ j = 6 ∨ j = 7 ∨ j = 8 by omega) with rfl | rfl | rfl | rfl | rfl | rfl | rfl | rfl | rfl <;> simp [upd]
/-- what a text says -/
def XO (o : PO) (F : Nat → Int32) : Int32 := match o with
  | .inl _ => 0
  | .inr (_, v) => bB (v F)
theorem tx_of (I : Inv A G e) {b : Nat} (hb : b < eNl e) : ∃ (n : Nat) (t : Nat → Nat), n ≤ 80 ∧ eTl e b = n ∧ A 20058 0 b = nI n ∧ ∀ p, p < n → t p < 256 ∧ A 20069 b p = nI (t p) ∧ A 20057 0 (80 * b + p) = (nI (t p)).toInt8.toInt32 := by
  obtain ⟨-, -, h3, h4, -, h6⟩ := I_law' I b hb
  refine ⟨eTl e b, fun p => (A 20069 b p).toNatClampNeg, h3, rfl, h4, fun p hp => ?_⟩
  obtain ⟨q, hq, e1, e2⟩ := h6 p hp
  have : (A 20069 b p).toNatClampNeg = q := by rw [e1, nI_clamp (by omega)]
  show (A 20069 b p).toNatClampNeg < 256 ∧ _ = nI (A 20069 b p).toNatClampNeg ∧ _ = (nI (A 20069 b p).toNatClampNeg).toInt8.toInt32
  rw [this]
  exact ⟨hq, e1, e2⟩
set_option maxHeartbeats 8000000 in
/-- the reference says -/
theorem r189 (hN : 200000 ≤ N) (I : Inv A G e) {l y b n : Nat} {c : Int32} {t : Nat → Nat} (hl : l < 2) (g1 : (0 ≤ c ∧ c ≤ 5)) (g2 : (0 ≤ nI l ∧ nI l ≤ 1)) (g3 : (0 ≤ nI y ∧ nI y ≤ 99)) (h8 : ¬ G 4 l 8 < 0) (hb : bl G c (nI y) (eNl e) = some b) (hn : n ≤ 80) (h58 : A 20058 0 b = nI n) (ht : ∀ p, p < n → t p < 256 ∧ A 20057 0 (80 * b + p) = (nI (t p)).toInt8.toInt32) : ∃ A' G', CALL (roL L xs) mP mL (N + 5050) (d + 40) 189 [.ref 11000, .int c, .int (nI l), .int (nI y)] (HH A G e) = some (some (.int (XO (txt (kch t n) n) (FX A G e l y))), HH A' G' e) ∧ Inv A' G' e := by
  obtain ⟨z1, z2, z3⟩ := I_cnl' I
  have hbl := bl_lt _ _ hb
  have cl := nI_clamp (n := l) (by omega)
  have cd : A 20043 0 l = G 4 l 8 := ((I_clm' I l hl).1).symm
  obtain ⟨gx, gy, F, a', b', k188, hF⟩ := s188 (d := d + 30) (L := L) (xs := xs) hN I (y := y) hl h8
  have I2 := inv_59 I (gx := gx) (gy := gy) (F := F) (a := a') (b := b')
  obtain ⟨w, p', W', P', w', z', o', k185, hΦ⟩ := s185 (A := upr (upr (upr A 20052 0 gx) 20053 0 gy) 20059 0 F) (G := S2 G a' b') (e := e) (L := L) (xs := xs) (N := N) (d := d + 35) (i := b) (n := n) (t := t) (by omega) h58 hn (fun p hp => (ht p hp).1) (fun p hp => (ht p hp).2)
  have k188' : CALL (roL L xs) mP mL (N + 5050) (d + 39) 188 [.ref 11000, .int (nI l), .int (nI y)] (HH A G e) = some (none, HH (upr (upr (upr A 20052 0 gx) 20053 0 gy) 20059 0 F) (S2 G a' b') e) := k188
  have k185' : CALL (roL L xs) mP mL (N + 5050) (d + 39) 185 [.ref 11000, .int (nI b)] (HH (upr (upr (upr A 20052 0 gx) 20053 0 gy) 20059 0 F) (S2 G a' b') e) = some (some (.int (bB w)), HH (WA (upr (upr (upr A 20052 0 gx) 20053 0 gy) 20059 0 F) W' P') (GS (GB (S2 G a' b') (80 * b) n) p' w' z' o') e) := k185
  have I3 : Inv (WA (upr (upr (upr A 20052 0 gx) 20053 0 gy) 20059 0 F) W' P') (GS (GB (S2 G a' b') (80 * b) n) p' w' z' o') e := by
    have I := I2
    obtain ⟨i1, i2, i3, i4, i5, i6, i7, i8, i9, i10, i11, i12, i13, i14, i15, i16, i17, i18, i19, i20, i21, i22, i23, i24, i25⟩ := I
    exact ⟨i1, i2, i3, i4, i5, i6, i7, i8, i9, i10, i11, i12, i13, i14, i15, i16, i17, i18, i19, i20, i21, i22, i23, i24, i25⟩
  refine ⟨_, _, m189 (0 + 5 * (eNl e + 1)) (by omega) (r := (some (.int (XO (txt (kch t n) n) (FX A G e l y))), HH (WA (upr (upr (upr A 20052 0 gx) 20053 0 gy) 20059 0 F) W' P') (GS (GB (S2 G a' b') (80 * b) n) p' w' z' o') e)) ?_, I3⟩
  have body : EXs (roL L xs) p189 (CALL (roL L xs) mP mL (N + 5050) (d + 39)) [34] (EXn (roL L xs) p189 (CALL (roL L xs) mP mL (N + 5050) (d + 39)) 0) 5 34 [some (.ref 11000), some (.int c), some (.int (nI l)), some (.int (nI y)), some (.int (oI (bl G c (nI y) (eNl e)))), some (.int (nI (eNl e)))] [] (HH A G e) = some (some (.int (XO (txt (kch t n) n) (FX A G e l y))), HH (WA (upr (upr (upr A 20052 0 gx) 20053 0 gy) 20059 0 F) W' P') (GS (GB (S2 G a' b') (80 * b) n) p' w' z' o') e) := by
    rw [l189_34, gf11000_35, z2, if_neg Int32.lt_irrefl, hb, if_neg (show ¬ oI (some b) < 0 from nI_pos (by omega)), show oI (some b) = nI b from rfl, rf11000_17, ga20043, ib_n hl (by decide), cl, cd, if_neg h8, vo11000, k188', cV_s, vo11000, k185', cI_s]
    cases ho : txt (kch t n) n with
    | inl z =>
      rw [ho] at hΦ
      have hw : w = false := hΦ.1
      subst hw
      rw [if_pos (by decide)]
      rfl
    | inr zv =>
      obtain ⟨z, v⟩ := zv
      have hv := txt_v ho
      rw [ho] at hΦ
      have hw : w = true := hΦ.1
      have hP : P' 0 = bB (v F) := hΦ.2
      subst hw
      rw [if_neg (by decide), rf11000_46, ga20061, ib_t (show vp_in (0 : Int32) 81 from vp_in_nI (show 0 < 81 by decide) (by decide)), show WA (upr (upr (upr A 20052 0 gx) 20053 0 gy) 20059 0 F) W' P' 20061 0 (0 : Int32).toNatClampNeg = bB (v F) from hP, hv F (FX A G e l y) hF, bB_r]
      rfl
  have wl := w189 I body (eNl e) 0 (by omega)
  rw [x189, vo11000, s125, cI_s, if_neg (fun q => bI_z.mp q g1), vo11000, h128, cI_s, if_neg (fun q => bI_z.mp q g2), vo11000, h130, cI_s, if_neg (fun q => bI_z.mp q g3)]
  exact wl
set_option maxHeartbeats 8000000 in
/-- the class says -/
theorem r80 (hN : 200000 ≤ N) (I : Inv A G e) {l y b n : Nat} {c : Int32} {t : Nat → Nat} (hl : l < 2) (g1 : (0 ≤ c ∧ c ≤ 5)) (g2 : (0 ≤ nI l ∧ nI l ≤ 1)) (g3 : (0 ≤ nI y ∧ nI y ≤ 99)) (h8 : ¬ G 4 l 8 < 0) (hb : bl G c (nI y) (eNl e) = some b) (hn : n ≤ 80) (hT : eTl e b = n) (ht : ∀ p, p < n → t p < 256 ∧ A 20069 b p = nI (t p)) : ∃ fx fy V z f, CALL (roL L xs) mP mL (N + 5050) (d + 40) 80 [.ref 10000, .int c, .int (nI l), .int (nI y)] (HH A G e) = some (some (.int (XO (txt (kch t n) n) (FX A G e l y))), HH (upr (upr (upr A 20009 0 fx) 20010 0 fy) 20015 0 V) (RS (up3 (up3 G 9 0 2 (nI y)) 6 0 2 (nI n)) z f) (e_T (e_W e (4000 + l)) (20069 + b))) := by
  have z3 := (I_cnl' I).2.2
  have hx : eNx e = eNl e := (I_bd' I).2.2.1
  have hbl := bl_lt _ _ hb
  obtain ⟨fx, fy, c1, hw⟩ := c41 (L := L) (xs := xs) (N := N) (D := d + 39) (by omega) I (y := y) (ld := 199) hl (Nat.le_refl 200) (show (199 : Int32) + 1 = nI 200 by decide) rfl
  have I1 := inv_w I hl (fx := fx) (fy := fy) (v := nI y)
  obtain ⟨V, hV, k123⟩ := s123 (d := d + 30) (L := L) (xs := xs) hN I1 hl hw h8
  have k123' : CALL (roL L xs) mP mL (N + 5050) (d + 39) 123 [.ref 10000, .int (nI l), .int (nI y), .ref 20015] (HH (upr (upr A 20009 0 fx) 20010 0 fy) (up3 G 9 0 2 (nI y)) (e_W e (4000 + l))) = some (none, HH (upr (upr (upr A 20009 0 fx) 20010 0 fy) 20015 0 V) (up3 G 9 0 2 (nI y)) (e_W e (4000 + l))) := k123
  have hV' : ∀ j, j < 9 → V j = FX A G e l y j := hV
  have k122 : CALL (roL L xs) mP mL (N + 5050) (d + 39) 122 [.ref 10000, .int c, .int (nI y)] (HH A G e) = some (some (.ref (3000 + b)), HH A G e) := by
    have s := s122 (L := L) (xs := xs) (N := N) (d := d + 38) I (c := c) (y := nI y)
    rw [hb] at s
    exact s
  have ct : ∀ (A' G' : Mat) (e' : Ev), eNx e' = eNx e → eTl e' b = n → (HH A' G' e').1 (20069 + b) = some (.inl (0, n, A' 20069 b)) := fun A' G' e' q1 q2 => by
    have s := cell_txt (A := A') (G := G') (e := e') (k := 20069 + b) (by omega) (by rw [q1]; omega)
    rw [show 20069 + b - 20069 = b by omega, q2] at s
    exact s
  have hL0 : ∀ (G' : Mat) (e' : Ev) (q1 : eNx e' = eNx e) (q2 : eTl e' b = n) (K : Int32 → PR), aL (roL L xs) (HH (upr (upr (upr A 20009 0 fx) 20010 0 fy) 20015 0 V) G' e') (20069 + b) K = K (Int32.ofNat n) := fun G' e' q1 q2 K => aL_of (by omega) (ct _ G' e' q1 q2)
  have k21 := s21 (A := upr (upr (upr A 20009 0 fx) 20010 0 fy) 20015 0 V) (G := up3 G 9 0 2 (nI y)) (e := e_W e (4000 + l)) (L := L) (xs := xs) (N := N) (d := d + 19) (q := 20069 + b) (n := n) (a := nI n) (ln := n) (t := t) (fun K => hL0 (up3 G 9 0 2 (nI y)) (e_W e (4000 + l)) rfl hT K) (fun G' K => hL0 G' (e_T (e_W e (4000 + l)) (20069 + b)) rfl hT K) (if_neg Int32.lt_irrefl) hn (fun p hp => (ht p hp).1) (fun G' i K hi => by
    have q : (HH (upr (upr (upr A 20009 0 fx) 20010 0 fy) 20015 0 V) G' (e_T (e_W e (4000 + l)) (20069 + b))).1 (20069 + b) = some (.inl (0, n, A 20069 b)) := ct _ G' _ rfl hT
    rw [aI_of (by omega) q, ib_n hi (by omega), nI_clamp (by omega), (ht i hi).2])
  have r7 : ∀ X K, gR (HH (upr (upr (upr A 20009 0 fx) 20010 0 fy) 20015 0 V) (up3 G 9 0 2 (nI y)) (e_W e (4000 + l))) (3000 + b) 3 2 X K = K (20069 + b) := fun X K => gR3 (e := e_W e (4000 + l)) (show b < eNl e from hbl) (by omega)
  have top : ∀ (x : Int32) (h : PH), CALL (roL L xs) mP mL (N + 5050) (d + 39) 21 [.ref 6000, .ref (20069 + b)] (HH (upr (upr (upr A 20009 0 fx) 20010 0 fy) 20015 0 V) (up3 G 9 0 2 (nI y)) (e_W e (4000 + l))) = some (some (.int x), h) → CALL (roL L xs) mP mL (N + 5050) (d + 40) 80 [.ref 10000, .int c, .int (nI l), .int (nI y)] (HH A G e) = (if x = 0 then (some (some (.int 0), h)) else (some (some (.int 1), h))) := fun x h k => by
    rw [m80, s93, cI_s, if_neg (fun q => bI_z.mp q g1), s94, cI_s, if_neg (fun q => bI_z.mp q g2), s96, cI_s, if_neg (fun q => bI_z.mp q g3), vo10000, k122, cR_s, rf10000_2, aRl (I_ref' I) hl, vO4 hl, s11 hl, cI_s, decide_eq_true h8, if_neg (by decide), rf10000_3, rf10000_2, aRl (I_ref' I) hl, vo9000, c1, cV_s, rf10000_8, rf6000_0, vo10000, k123', cV_s, rf10000_8, r7, vo6000, k, cI_s]
  cases ho : txt (kch t n) n with
  | inl z =>
    rw [ho] at k21
    refine ⟨fx, fy, V, z, 1, ?_⟩
    rw [top 0 _ k21, if_pos rfl]
    rfl
  | inr zv =>
    obtain ⟨z, v⟩ := zv
    have hv := txt_v ho
    rw [ho] at k21
    refine ⟨fx, fy, V, z, 0, ?_⟩
    rw [top _ _ k21, bB_r]
    show some (some (Value.int (bB (v V))), _) = some (some (Value.int (bB (v (FX A G e l y)))), _)
    rw [hv V _ hV']
set_option maxHeartbeats 8000000 in
theorem o_says (hN : 200000 ≤ N) (I : Inv A G e) (x y z : Int32) : Op L xs N (d + 40) 80 189 [.int x, .int y, .int z] A G e := by
  have I0 := I
  have z3 := (I_cnl' I).2.2
  have z2 := (I_cnl' I).2.1
  unfold Op
  by_cases g1 : (0 ≤ x ∧ x ≤ 5)
  · by_cases g2 : (0 ≤ y ∧ y ≤ 1)
    · by_cases g3 : (0 ≤ z ∧ z ≤ 99)
      · obtain ⟨l, hl, rfl⟩ := g_n (x := y) 2 (by decide) g2
        obtain ⟨w, hw, rfl⟩ := g_n (x := z) 100 (by decide) g3
        have cl := nI_clamp (n := l) (by omega)
        have cd : A 20043 0 l = G 4 l 8 := ((I_clm' I l hl).1).symm
        have k122 := s122 (L := L) (xs := xs) (N := N) (d := d + 38) I (c := x) (y := nI w)
        cases hb : bl G x (nI w) (eNl e) with
        | none =>
          rw [hb] at k122
          have k122' : CALL (roL L xs) mP mL (N + 5050) (d + 39) 122 [.ref 10000, .int x, .int (nI w)] (HH A G e) = some (some .null, HH A G e) := k122
          refine ⟨-5, HH A G e, ?_, -5, HH A G e, m189 (0 + 5 * (eNl e + 1)) (by omega) ?_, rfl, IH_i I0⟩
          · rw [m80, s93, cI_s, if_neg (fun q => bI_z.mp q g1), s94, cI_s, if_neg (fun q => bI_z.mp q g2), s96, cI_s, if_neg (fun q => bI_z.mp q g3), vo10000, k122', cR_n]
          · rw [x189, vo11000, s125, cI_s, if_neg (fun q => bI_z.mp q g1), vo11000, h128, cI_s, if_neg (fun q => bI_z.mp q g2), vo11000, h130, cI_s, if_neg (fun q => bI_z.mp q g3)]
            exact w189 I (by rw [l189_34, gf11000_35, z2, if_neg Int32.lt_irrefl, hb, if_pos (show oI none < 0 by decide)]) (eNl e) 0 (by omega)
        | some b =>
          have hbl := bl_lt _ _ hb
          by_cases h8 : G 4 l 8 < 0
          · rw [hb] at k122
            have k122' : CALL (roL L xs) mP mL (N + 5050) (d + 39) 122 [.ref 10000, .int x, .int (nI w)] (HH A G e) = some (some (.ref (3000 + b)), HH A G e) := k122
            refine ⟨-5, HH A G e, ?_, -5, HH A G e, m189 (0 + 5 * (eNl e + 1)) (by omega) ?_, rfl, IH_i I0⟩
            · rw [m80, s93, cI_s, if_neg (fun q => bI_z.mp q g1), s94, cI_s, if_neg (fun q => bI_z.mp q g2), s96, cI_s, if_neg (fun q => bI_z.mp q g3), vo10000, k122', cR_s, rf10000_2, aRl (I_ref' I) hl, vO4 hl, s11 hl, cI_s, decide_eq_false (not_not_intro h8), if_pos (by decide)]
            · rw [x189, vo11000, s125, cI_s, if_neg (fun q => bI_z.mp q g1), vo11000, h128, cI_s, if_neg (fun q => bI_z.mp q g2), vo11000, h130, cI_s, if_neg (fun q => bI_z.mp q g3)]
              exact w189 I (by rw [l189_34, gf11000_35, z2, if_neg Int32.lt_irrefl, hb, if_neg (show ¬ oI (some b) < 0 from nI_pos (by omega)), rf11000_17, ga20043, ib_n hl (by decide), cl, cd, if_pos h8]) (eNl e) 0 (by omega)
          · obtain ⟨n, t, hn, hT, h58, ht⟩ := tx_of I hbl
            obtain ⟨fx, fy, V, q, f, k80⟩ := r80 (d := d) (L := L) (xs := xs) hN I hl g1 g2 g3 h8 hb hn hT (fun p hp => ⟨(ht p hp).1, (ht p hp).2.1⟩)
            have I1 : Inv (upr (upr (upr A 20009 0 fx) 20010 0 fy) 20015 0 V) (RS (up3 (up3 G 9 0 2 (nI w)) 6 0 2 (nI n)) q f) (e_T (e_W e (4000 + l)) (20069 + b)) := by
              have I := inv_w I hl (fx := fx) (fy := fy) (v := nI w)
              obtain ⟨i1, i2, i3, i4, i5, i6, i7, i8, i9, i10, i11, i12, i13, i14, i15, i16, i17, i18, i19, i20, i21, i22, i23, i24, i25⟩ := I
              exact ⟨i1, i2, i3, i4, i5, i6, i7, i8, i9, i10, i11, i12, i13, i14, i15, i16, i17, i18, i19, i20, i21, i22, i23, i24, i25⟩
            obtain ⟨A', G', k189, I2⟩ := r189 (d := d) (L := L) (xs := xs) hN I1 (t := t) hl g1 g2 g3 h8 ((bl_c (show RS (up3 (up3 G 9 0 2 (nI w)) 6 0 2 (nI n)) q f 3 = G 3 from rfl) (eNl e)).trans hb) hn h58 (fun p hp => ⟨(ht p hp).1, (ht p hp).2.2⟩)
            exact ⟨_, _, k80, _, _, k189, rfl, IH_i I2⟩
      · refine ⟨-1, HH A G e, ?_, -1, HH A G e, m189 0 (by omega) ?_, rfl, IH_i I0⟩
        · rw [m80, s93, cI_s, if_neg (fun q => bI_z.mp q g1), s94, cI_s, if_neg (fun q => bI_z.mp q g2), s96, cI_s, if_pos (bI_z.mpr g3)]
        · rw [x189, vo11000, s125, cI_s, if_neg (fun q => bI_z.mp q g1), vo11000, h128, cI_s, if_neg (fun q => bI_z.mp q g2), vo11000, h130, cI_s, if_pos (bI_z.mpr g3)]
    · refine ⟨-1, HH A G e, ?_, -1, HH A G e, m189 0 (by omega) ?_, rfl, IH_i I0⟩
      · rw [m80, s93, cI_s, if_neg (fun q => bI_z.mp q g1), s94, cI_s, if_pos (bI_z.mpr g2)]
      · rw [x189, vo11000, s125, cI_s, if_neg (fun q => bI_z.mp q g1), vo11000, h128, cI_s, if_pos (bI_z.mpr g2)]
  · refine ⟨-1, HH A G e, ?_, -1, HH A G e, m189 0 (by omega) ?_, rfl, IH_i I0⟩
    · rw [m80, s93, cI_s, if_pos (bI_z.mpr g1)]
    · rw [x189, vo11000, s125, cI_s, if_pos (bI_z.mpr g1)]
end SAY2
