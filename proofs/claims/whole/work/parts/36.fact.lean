/-! SAYS: what a text stands on -/
def VE (v : VF) : Prop := ∀ F F' : Nat → Int32, (∀ j, j < 9 → F j = F' j) → v F = v F'
def Gv (g : Nat → PO) : Prop := ∀ p q v, g p = .inr (q, v) → VE v
theorem tst_v {k : Nat → Nat} : Gv (tst k) := by
  intro p q v h
  unfold tst at h
  cases hl : ltr (k p) with
  | none =>
    rw [hl] at h
    cases h
  | some f =>
    rw [hl] at h
    have hf := (ltr_lt hl).1
    simp only at h
    split at h
    · split at h
      · cases h
        intro F F' hh
        show cmpV _ (F f) _ = cmpV _ (F' f) _
        rw [hh f hf]
      · cases h
    · cases h
theorem boL_v {k : Nat → Nat} {f : Nat → PO} (hf : Gv f) : ∀ (i q : Nat) (v : VF), VE v → ∀ z w, boL k f i q v = .inr (z, w) → VE w
  | 0, q, v, hv, z, w, h => by
    cases h
    exact hv
  | i + 1, q, v, hv, z, w, h => by
    unfold boL at h
    split at h
    · cases hr : f (q + 1) with
      | inl y =>
        rw [hr] at h
        cases h
      | inr yu =>
        obtain ⟨y, u⟩ := yu
        rw [hr] at h
        refine boL_v hf i y _ (fun F F' hh => ?_) z w h
        show (u F && v F) = (u F' && v F')
        rw [hf _ _ _ hr F F' hh, hv F F' hh]
    · cases h
      exact hv
theorem both_v {k : Nat → Nat} {f : Nat → PO} (hf : Gv f) : Gv (both k f) := by
  intro p q v h
  unfold both at h
  cases hr : f p with
  | inl y =>
    rw [hr] at h
    cases h
  | inr yu =>
    obtain ⟨y, u⟩ := yu
    rw [hr] at h
    exact boL_v hf 80 y u (hf _ _ _ hr) q v h
theorem eiL_v {k : Nat → Nat} {f : Nat → PO} (hf : Gv (both k f)) : ∀ (i q : Nat) (v : VF), VE v → ∀ z w, eiL k f i q v = .inr (z, w) → VE w
  | 0, q, v, hv, z, w, h => by
    cases h
    exact hv
  | i + 1, q, v, hv, z, w, h => by
    unfold eiL at h
    split at h
    · cases hr : both k f (q + 1) with
      | inl y =>
        rw [hr] at h
        cases h
      | inr yu =>
        obtain ⟨y, u⟩ := yu
        rw [hr] at h
        refine eiL_v hf i y _ (fun F F' hh => ?_) z w h
        show (u F || v F) = (u F' || v F')
        rw [hf _ _ _ hr F F' hh, hv F F' hh]
    · cases h
      exact hv
theorem eith_v {k : Nat → Nat} {f : Nat → PO} (hf : Gv f) : Gv (eith k f) := by
  intro p q v h
  unfold eith at h
  cases hr : both k f p with
  | inl y =>
    rw [hr] at h
    cases h
  | inr yu =>
    obtain ⟨y, u⟩ := yu
    rw [hr] at h
    exact eiL_v (both_v hf) 80 y u (both_v hf _ _ _ hr) q v h
theorem one_v {k : Nat → Nat} : ∀ b, Gv (one k b)
  | 0 => by
    intro p q v h
    unfold one at h
    split at h
    · cases h
    · exact tst_v p q v h
  | b + 1 => by
    intro p q v h
    unfold one at h
    split at h
    · cases hr : one k b (p + 1) with
      | inl y =>
        rw [hr] at h
        cases h
      | inr yu =>
        obtain ⟨y, u⟩ := yu
        rw [hr] at h
        cases h
        intro F F' hh
        show (!(u F)) = !(u F')
        rw [one_v b _ _ _ hr F F' hh]
    · split at h
      · cases hr : eith k (one k b) (p + 1) with
        | inl y =>
          rw [hr] at h
          cases h
        | inr yu =>
          obtain ⟨y, u⟩ := yu
          rw [hr] at h
          simp only at h
          split at h
          · cases h
            exact eith_v (one_v b) _ _ _ hr
          · cases h
      · exact tst_v p q v h
theorem txt_v {k : Nat → Nat} {n q : Nat} {v : VF} (h : txt k n = .inr (q, v)) : VE v := by
  unfold txt at h
  cases hr : eith k (one k 4) 0 with
  | inl y =>
    rw [hr] at h
    cases h
  | inr yu =>
    obtain ⟨y, u⟩ := yu
    rw [hr] at h
    simp only at h
    split at h
    · cases h
    · cases h
      exact eith_v (one_v 4) _ _ _ hr
/-! the numbers behind the letters -/
def lt2 (k : Int32) : Nat := if k = 1 then 4 else if k = 3 then 1 else if k = 4 then 2 else if k = 5 then 3 else 0
def ftS (A G : Mat) (e : Ev) (l y i : Nat) : Bool := ft A G e l y i (G 7 i 2).toNatClampNeg (stP A G e l y 0 0 (G 7 i 2).toNatClampNeg).1 (stP A G e l y 0 0 (G 7 i 2).toNatClampNeg).2
def ofB (G : Mat) (l y i : Nat) : Bool := decide (G 7 i 1 = nI l ∧ G 7 i 4 ≤ nI y)
def kcB (A G : Mat) (e : Ev) (l y q i : Nat) : Bool := ofB G l y i && (decide (lt2 (G 7 i 3) = q) && (if q = 4 then !(ftS A G e l y i) else ftS A G e l y i))
theorem fB_e {A G : Mat} {e : Ev} {l y i : Nat} : fB A G e l y 0 0 i = (ofB G l y i && !(ftS A G e l y i)) := rfl
def FX (A G : Mat) (e : Ev) (l y j : Nat) : Int32 := if j < 5 then nI (cn (kcB A G e l y j) 0 (eNr e)) else if j = 5 then nI (cn (fB A G e l y 0 0) 0 (eNr e)) else if j = 6 then nI (cn (mdB A G l (nI y) true) 0 (eNr e)) else if j = 7 then G 4 l 1 else if qO (quB G (nI l) (nI y)) 0 (eNr e) < 0 then 0 else 1
def Vf (A G : Mat) (e : Ev) (l y : Nat) (f : Nat → Int32) (i j : Nat) : Int32 := if j < 5 then nI (cn (kcB A G e l y j) 0 i) else if j = 5 then nI (cn (fB A G e l y 0 0) 0 i) else if j < 9 then 0 else f j
section FACT
variable {A G : Mat} {e : Ev} {L : Nat} {xs : Nat → Int32} {N d : Nat}
theorem lt2_5 {k : Int32} : lt2 k < 5 := by
  unfold lt2
  repeat' split
  all_goals omega
theorem Vf_0 {l y : Nat} {f : Nat → Int32} : (fun j => if j < 9 then 0 else f j) = Vf A G e l y f 0 := by
  funext j
  unfold Vf
  by_cases h1 : j < 5
  · rw [if_pos h1, if_pos (by omega)]
    rfl
  · rw [if_neg h1]
    by_cases h2 : j = 5
    · rw [if_pos h2, if_pos (by omega)]
      rfl
    · rw [if_neg h2]
theorem Vf_no {l y i : Nat} {f : Nat → Int32} (h : ofB G l y i = false) : Vf A G e l y f (i + 1) = Vf A G e l y f i := by
  funext j
  unfold Vf
  by_cases h1 : j < 5
  · rw [if_pos h1, if_pos h1, ← cn_f (p := kcB A G e l y j) (by unfold kcB; rw [h]; rfl)]
  · rw [if_neg h1, if_neg h1]
    by_cases h2 : j = 5
    · rw [if_pos h2, if_pos h2, ← cn_f (p := fB A G e l y 0 0) (by rw [fB_e, h]; rfl)]
    · rw [if_neg h2, if_neg h2]
/-- a row is counted -/
theorem Vf_s {l y i : Nat} {f : Nat → Int32} (h : ofB G l y i = true) : Vf A G e l y f (i + 1) = (fun j => Vf A G e l y f i j + (if j = lt2 (G 7 i 3) ∧ (if lt2 (G 7 i 3) = 4 then !(ftS A G e l y i) else ftS A G e l y i) = true then 1 else 0) + (if j = 5 ∧ ftS A G e l y i = false then 1 else 0)) := by
  have q5 := lt2_5 (k := G 7 i 3)
  funext j
  unfold Vf
  by_cases h1 : j < 5
  · rw [if_pos h1, if_pos h1, if_neg (show ¬ (j = 5 ∧ _) from fun q => by omega), Int32.add_zero]
    by_cases h2 : j = lt2 (G 7 i 3)
    · cases hb : (if lt2 (G 7 i 3) = 4 then !(ftS A G e l y i) else ftS A G e l y i) with
      | false =>
        rw [if_neg (fun q => by simp at q), Int32.add_zero, ← cn_f (p := kcB A G e l y j) (by unfold kcB; rw [h2, hb]; simp)]
      | true =>
        rw [if_pos ⟨h2, rfl⟩, ← cn_t (p := kcB A G e l y j) (by unfold kcB; rw [h, h2, hb]; simp)]
    · rw [if_neg (fun q => h2 q.1), Int32.add_zero, ← cn_f (p := kcB A G e l y j) (by unfold kcB; rw [decide_eq_false (fun q => h2 q.symm)]; simp)]
  · rw [if_neg h1, if_neg h1, if_neg (show ¬ (j = lt2 (G 7 i 3) ∧ _) from fun q => by omega), Int32.add_zero]
    by_cases h2 : j = 5
    · cases hb : ftS A G e l y i with
      | false => rw [if_pos h2, if_pos h2, if_pos ⟨h2, rfl⟩, ← cn_t (p := fB A G e l y 0 0) (by rw [fB_e, h, hb]; rfl)]
      | true => rw [if_pos h2, if_pos h2, if_neg (fun q => by simp at q), Int32.add_zero, ← cn_f (p := fB A G e l y 0 0) (by rw [fB_e, hb]; simp)]
    · rw [if_neg h2, if_neg h2, if_neg (show ¬ (j = 5 ∧ ftS A G e l y i = false) from fun q => h2 q.1), Int32.add_zero]
theorem s124 {h : PH} {k : Int32} : CALL (roL L xs) mP mL (N + 5050) (d + 1) 124 [.int k] h = some (some (.int (nI (lt2 k))), h) := by
  rw [m124]
  unfold lt2
  by_cases h1 : k = 1
  · rw [if_pos h1, if_pos h1]
    rfl
  · rw [if_neg h1, if_neg h1]
    by_cases h2 : k = 2
    · rw [if_pos h2, h2, if_neg (by decide), if_neg (by decide), if_neg (by decide)]
      rfl
    · rw [if_neg h2]
      by_cases h3 : k = 3
      · rw [if_pos h3, if_pos h3]
        rfl
      · rw [if_neg h3, if_neg h3]
        by_cases h4 : k = 4
        · rw [if_pos h4, if_pos h4]
          rfl
        · rw [if_neg h4, if_neg h4]
          by_cases h5 : k = 5
          · rw [if_pos h5, if_pos h5]
            rfl
          · rw [if_neg h5, if_neg h5]
            rfl
theorem upd_a {f g : Nat → Int32} {q : Nat} {v : Int32} (h1 : g q = v) (h2 : ∀ j, j ≠ q → g j = f j) : upd f q v = g := by
  funext j
  by_cases hj : j = q
  · rw [hj, pk_us, h1]
  · rw [pk_un hj, h2 j hj]
set_option maxHeartbeats 8000000 in
theorem w123 (hN : 200000 ≤ N) (I : Inv A G e) {l y : Nat} {f : Nat → Int32} (hl : l < 2) (hw : Wy A G e l y 200) (h8 : ¬ G 4 l 8 < 0) : ∀ (r i : Nat) (o5 o6 o7 : Option Value), i + r = eNr e → EXn (roL L xs) p123 (CALL (roL L xs) mP mL (N + 5050) (d + 8)) (5 * (r + 1)) 8 [some (.ref 10000), some (.int (nI l)), some (.int (nI y)), some (.ref 20015), some (.int (nI i)), o5, o6, o7] [] (HH (upr A 20015 0 (Vf A G e l y f i)) G e) = some (none, HH (upr A 20015 0 (upd (upd (upd (Vf A G e l y f (eNr e)) 6 (FX A G e l y 6)) 7 (FX A G e l y 7)) 8 (FX A G e l y 8))) G e)
  | 0, i, o5, o6, o7, hi => by
    obtain ⟨z1, z2, z3⟩ := I_cnt' I
    refine EXs_le (S := [8]) (n := 0) 5 8 _ _ _ ?_
    have : i = eNr e := by omega
    subst this
    have J : ∀ g, Inv (upr A 20015 0 g) G e := fun g => by
      have I := I
      obtain ⟨i1, i2, i3, i4, i5, i6, i7, i8, i9, i10, i11, i12, i13, i14, i15, i16, i17, i18, i19, i20, i21, i22, i23, i24, i25⟩ := I
      exact ⟨i1, i2, i3, i4, i5, i6, i7, i8, i9, i10, i11, i12, i13, i14, i15, i16, i17, i18, i19, i20, i21, i22, i23, i24, i25⟩
    have m1 : ∀ g D, CALL (roL L xs) mP mL (N + 5050) (D + 4) 121 [.ref 10000, .int (nI l), .int (nI y)] (HH (upr A 20015 0 g) G e) = some (some (.int (FX A G e l y 6)), HH (upr A 20015 0 g) G e) := fun g D => s121 (J g) hl
    have m2 : ∀ g D, CALL (roL L xs) mP mL (N + 5050) (D + 4) 115 [.ref 10000, .int (nI l), .int (nI y)] (HH (upr A 20015 0 g) G e) = some (some (.int (qO (quB G (nI l) (nI y)) 0 (eNr e))), HH (upr A 20015 0 g) G e) := fun g D => s115 hN (J g)
    have t6 : (6 : Int32).toNatClampNeg = 6 := by decide
    have t7 : (7 : Int32).toNatClampNeg = 7 := by decide
    have t8 : (8 : Int32).toNatClampNeg = 8 := by decide
    have v6 : ∀ K : PR, ib (6 : Int32) 9 K = K := fun K => ib_n (i := 6) (by decide) (by decide)
    have v7 : ∀ K : PR, ib (7 : Int32) 9 K = K := fun K => ib_n (i := 7) (by decide) (by decide)
    have v8 : ∀ K : PR, ib (8 : Int32) 9 K = K := fun K => ib_n (i := 8) (by decide) (by decide)
    rw [l123_8, gf10000_15, z1, if_neg (nI_nlt (by omega) (by omega)), vo10000, m1, cI_s, sa20015, v6, t6, up3_upr, rf10000_2, aRl (I_ref' I) hl, gI4 hl (by decide), sa20015, v7, t7, up3_upr, vo10000, m2, cI_s]
    by_cases q : qO (quB G (nI l) (nI y)) 0 (eNr e) < 0
    · rw [if_pos q, sa20015, v8, t8, up3_upr, show FX A G e l y 8 = 0 from if_pos q]
      rfl
    · rw [if_neg q, sa20015, v8, t8, up3_upr, show FX A G e l y 8 = 1 from if_neg q]
      rfl
  | r + 1, i, o5, o6, o7, hi => by
    obtain ⟨z1, z2, z3⟩ := I_cnt' I
    have hi2 : i < eNr e := by omega
    refine EXs_le (S := [8]) (n := 5 * (r + 1)) 5 8 _ _ _ ?_
    have ih := w123 hN I (f := f) hl hw h8 r (i + 1)
    have J : ∀ g, Inv (upr A 20015 0 g) G e := fun g => by
      have I := I
      obtain ⟨i1, i2, i3, i4, i5, i6, i7, i8, i9, i10, i11, i12, i13, i14, i15, i16, i17, i18, i19, i20, i21, i22, i23, i24, i25⟩ := I
      exact ⟨i1, i2, i3, i4, i5, i6, i7, i8, i9, i10, i11, i12, i13, i14, i15, i16, i17, i18, i19, i20, i21, i22, i23, i24, i25⟩
    obtain ⟨⟨-, -, ⟨j, hj, ej⟩, -⟩, -⟩ := I_row' I i hi2
    have cj := nI_clamp (n := j) (by omega)
    have q5 := lt2_5 (k := G 7 i 3)
    have cq := nI_clamp (n := lt2 (G 7 i 3)) (by omega)
    have ibq : ∀ K : PR, ib (nI (lt2 (G 7 i 3))) 9 K = K := fun K => ib_n (by omega) (by decide)
    have v5 : ∀ K : PR, ib (5 : Int32) 9 K = K := fun K => ib_n (i := 5) (by decide) (by decide)
    have t5 : (5 : Int32).toNatClampNeg = 5 := by decide
    have gr : ∀ (g : Nat → Int32) (fd : Nat) (K : Int32 → PR), fd < 9 → gI (HH (upr A 20015 0 g) G e) (7000 + i) 7 fd K = K (G 7 i fd) := fun g fd K hf => gI7 hi2 (by omega) hf
    have k31 : ∀ D, CALL (roL L xs) mP mL (N + 5050) (D + 1) 31 [.ref (7000 + i), .int (nI l), .int (nI y)] (HH (upr A 20015 0 (Vf A G e l y f i)) G e) = some (some (.int (bB (ofB G l y i))), HH (upr A 20015 0 (Vf A G e l y f i)) G e) := fun D => s31 (J _) hi2
    rw [l123_8, gf10000_15, z1, if_pos (nI_lt hi2 (by omega)), rf10000_4, aRr (I_ref' I) z3 hi2, vO7 hi2 (by omega), k31, cI_s, nI_1 i]
    cases ho : ofB G l y i with
    | false =>
      rw [if_pos (by decide), ← Vf_no ho]
      exact ih _ _ _ (by omega)
    | true =>
      have hL : G 7 i 1 = nI l := (of_decide_eq_true ho).1
      have k118 : ∀ D, CALL (roL L xs) mP mL (N + 5050) (D + 7) 118 [.ref 10000, .ref (7000 + i), .int 0, .int 0] (HH (upr A 20015 0 (Vf A G e l y f i)) G e) = some (some (.int (bB (ftS A G e l y i))), HH (upr A 20015 0 (Vf A G e l y f i)) G e) := fun D => by
        have s := s118 (L := L) (xs := xs) (N := N) (d := D) (J (Vf A G e l y f i)) (s := 0) (n := 0) hl (show Wy (upr A 20015 0 (Vf A G e l y f i)) G e l y 200 from hw) (by decide) (fun _ => h8) hi2 hL ej hj
        have e1 : ftS A G e l y i = ft A G e l y i j (stP A G e l y 0 0 j).1 (stP A G e l y 0 0 j).2 := by
          unfold ftS
          rw [ej, cj]
        rw [e1]
        exact s
      have vs := Vf_s (A := A) (e := e) (f := f) ho
      rw [if_neg (by decide), vo10000, k118, cI_s, gr _ 3 _ (by decide), s124, cI_s, gr _ 3 _ (by decide)]
      cases ha : ftS A G e l y i with
      | false =>
        rw [ha] at vs
        by_cases c1 : G 7 i 3 = 1
        · have q4 : lt2 (G 7 i 3) = 4 := by
            unfold lt2
            rw [if_pos c1]
          have e1 : upd (upd (Vf A G e l y f i) 4 (Vf A G e l y f i 4 + 1)) 5 (upd (Vf A G e l y f i) 4 (Vf A G e l y f i 4 + 1) 5 + 1) = Vf A G e l y f (i + 1) := by
            rw [vs, q4]
            funext j
            by_cases h5 : j = 5
            · subst h5
              rw [pk_us, pk_un (by decide)]
              simp
            · rw [pk_un h5]
              by_cases h4 : j = 4
              · subst h4
                rw [pk_us]
                simp
              · rw [pk_un h4]
                simp [h4, h5]
          rw [if_pos c1, if_neg (show ¬ bB false = 1 by decide), q4, ga20015, ib_n (show 4 < 9 by decide) (by decide), show (nI 4).toNatClampNeg = 4 from rfl, upr_a, sa20015, ib_n (show 4 < 9 by decide) (by decide), show (nI 4).toNatClampNeg = 4 from rfl, up3_upr, if_pos (show bB false = 0 from rfl), ga20015, v5, t5, upr_a, sa20015, v5, t5, up3_upr, e1]
          exact ih _ _ _ (by omega)
        · have q4 : ¬ lt2 (G 7 i 3) = 4 := by
            unfold lt2
            rw [if_neg c1]
            repeat' split
            all_goals omega
          have e1 : upd (Vf A G e l y f i) 5 (Vf A G e l y f i 5 + 1) = Vf A G e l y f (i + 1) := by
            rw [vs, if_neg q4]
            funext j
            by_cases h5 : j = 5
            · subst h5
              rw [pk_us]
              simp
            · rw [pk_un h5]
              simp [h5]
          rw [if_neg c1, if_pos (show bB false = 0 from rfl), if_pos (show bB false = 0 from rfl), ga20015, v5, t5, upr_a, sa20015, v5, t5, up3_upr, e1]
          exact ih _ _ _ (by omega)
      | true =>
        rw [ha] at vs
        by_cases c1 : G 7 i 3 = 1
        · have q4 : lt2 (G 7 i 3) = 4 := by
            unfold lt2
            rw [if_pos c1]
          have e1 : Vf A G e l y f i = Vf A G e l y f (i + 1) := by
            rw [vs, q4]
            funext j
            simp
          rw [if_pos c1, if_pos (show bB true = 1 from rfl), if_neg (show ¬ bB true = 0 by decide), e1]
          exact ih _ _ _ (by omega)
        · have q4 : ¬ lt2 (G 7 i 3) = 4 := by
            unfold lt2
            rw [if_neg c1]
            repeat' split
            all_goals omega
          have e1 : upd (Vf A G e l y f i) (lt2 (G 7 i 3)) (Vf A G e l y f i (lt2 (G 7 i 3)) + 1) = Vf A G e l y f (i + 1) := by
            rw [vs, if_neg q4]
            funext j
            by_cases h5 : j = lt2 (G 7 i 3)
            · rw [h5, pk_us]
              simp
            · rw [pk_un h5]
              simp [h5]
          rw [if_neg c1, if_neg (show ¬ bB true = 0 by decide), ga20015, ibq, cq, upr_a, sa20015, ibq, cq, up3_upr, if_neg (show ¬ bB true = 0 by decide), e1]
          exact ih _ _ _ (by omega)
theorem s123 (hN : 200000 ≤ N) (I : Inv A G e) {l y : Nat} (hl : l < 2) (hw : Wy A G e l y 200) (h8 : ¬ G 4 l 8 < 0) : ∃ V : Nat → Int32, (∀ j, j < 9 → V j = FX A G e l y j) ∧ CALL (roL L xs) mP mL (N + 5050) (d + 9) 123 [.ref 10000, .int (nI l), .int (nI y), .ref 20015] (HH A G e) = some (none, HH (upr A 20015 0 V) G e) := by
  have z3 := (I_cnt' I).2.2
  refine ⟨upd (upd (upd (Vf A G e l y (A 20015 0) (eNr e)) 6 (FX A G e l y 6)) 7 (FX A G e l y 7)) 8 (FX A G e l y 8), ?_, m123 (5 * (eNr e + 1)) (by omega) ?_⟩
  · intro j hj
    by_cases h8 : j = 8
    · rw [h8, pk_us]
    · rw [pk_un h8]
      by_cases h7 : j = 7
      · rw [h7, pk_us]
      · rw [pk_un h7]
        by_cases h6 : j = 6
        · rw [h6, pk_us]
        · rw [pk_un h6]
          unfold Vf FX
          by_cases h5 : j < 5
          · rw [if_pos h5, if_pos h5]
          · rw [if_neg h5, if_neg h5, if_pos (by omega), if_pos (by omega)]
  · have c15 : (HH A G e).1 20015 = some (.inl (0, 9, A 20015 0)) := cell_arr (A := A) (G := G) (e := e) (k := 20015) (by decide) (by decide) rfl
    have pa : ph_put (HH A G e) 20015 (.inl (0, 9, fun j => if j < 9 then 0 else A 20015 0 j)) = HH (upr A 20015 0 (Vf A G e l y (A 20015 0) 0)) G e := by
      rw [← Vf_0]
      exact put_arr (A := A) (G := G) (e := e) (k := 20015) (by decide) (by decide) rfl
    rw [x123, s222 (by decide) (by decide) c15, cV_s, pa]
    exact w123 hN I hl hw h8 (eNr e) 0 _ _ _ (by omega)
end FACT
