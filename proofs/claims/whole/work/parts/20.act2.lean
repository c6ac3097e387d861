/-! ACTS in the reference; the operation -/
def mA (L : Nat) (xs : Nat → Int32) (N d M i : Nat) (R : Nat → Int32) (x v : Int32) (bs : List Int32) : Prop := ∀ (A G : Mat) (e : Ev) (r : Nat), A 20044 0 i = R 3 → A 20046 0 i = R 2 → A 20048 0 i = R 5 → G 11 0 53 = nI r → r + bs.length ≤ 20 →
  CALL (roL L xs) mP mL (N + 5050) d M [.ref 11000, .int (nI i), .int x] (HH A G e) = some (some (.int v), HH (tA 20064 A r bs) (up3 G 11 0 53 (nI (r + bs.length))) e)
section ACT2
variable {L : Nat} {xs : Nat → Int32} {N d i : Nat} {R : Nat → Int32} {x : Int32}
theorem s198 {A G : Mat} {e : Ev} {r : Nat} {b : Int32} (h1 : G 11 0 53 = nI r) (hr : r < 20) : CALL (roL L xs) mP mL (N + 5050) (d + 1) 198 [.ref 11000, .int b] (HH A G e) = some (none, HH (up3 A 20064 0 r b) (up3 G 11 0 53 (nI (r + 1))) e) := by
  have hc := nI_clamp (n := r) (by omega)
  rw [m198, gf11000_53, h1, if_pos (show nI r < (20 : Int32) from nI_lt (b := 20) hr (by decide)), rf11000_54, gf11000_53, h1, sa20064, ib_n hr (by decide), hc, gf11000_53, h1, pf11000_53, nI_1]
theorem M199 (hi : i < 120) : mA L xs N (d + 2) 199 i R x (x + R 5) [10] := by
  intro A G e r h3 h2 h5 h1 hr
  simp only [List.length_cons, List.length_nil] at hr
  rw [m199, vo11000, s198 h1 (by omega), cV_s, rf11000_23, ga20048, ib_n hi (by decide), nI_clamp (by omega), up3_c (by decide), h5]
  rfl
theorem M200 (hi : i < 120) : mA L xs N (d + 3) 200 i R x (x + R 5 - 90) [30, 10] := by
  intro A G e r h3 h2 h5 h1 hr
  simp only [List.length_cons, List.length_nil] at hr
  have c := M199 (L := L) (xs := xs) (N := N) (d := d) (R := R) (x := x) hi (up3 A 20064 0 r 30) (up3 G 11 0 53 (nI (r + 1))) e (r + 1) h3 h2 h5 up3_s (by simp only [List.length_cons, List.length_nil]; omega)
  rw [m200, vo11000, s198 h1 (by omega), cV_s, vo11000]
  refine (congrArg (fun z => cI z _) c).trans ?_
  rw [cI_s, up3_up3]
  rfl
def vF (k : Nat) (x f : Int32) : Int32 := if k = 2 then x + f - 90 else if k = 3 then (x &&& 15) + f else if k = 6 then (x + f - 90) + (x + 1 + f - 90) else x + f
def tF (k : Nat) : List Int32 := if k = 2 then [30, 10] else if k = 3 then [40, 10] else if k = 6 then 70 :: ([30, 10] ++ [30, 10]) else [10]
def vH (k : Nat) (x f y : Int32) : Int32 := if k = 1 then vF k (x * 2) f - y else if k = 5 then (vF k x f - y) * 3 else vF k x f - y
def tH (k : Nat) : List Int32 := if k = 1 then 20 :: 11 :: tF k else if k = 5 then 60 :: 11 :: tF k else 11 :: tF k
def vS (k : Nat) (x f y n : Int32) : Int32 := if k = 2 then (vH k x f y ^^^ n) + vH k 1 f y else if k = 4 then -(vH k x f y ^^^ n) else if k = 6 then (vH k (x - 1) f y ^^^ n) + vH k 1 f y else vH k x f y ^^^ n
def tS (k : Nat) : List Int32 := if k = 2 then 31 :: ((12 :: tH k) ++ tH k) else if k = 4 then 50 :: 12 :: tH k else if k = 6 then 71 :: 31 :: ((12 :: tH k) ++ tH k) else 12 :: tH k
theorem M201 {k : Nat} (hi : i < 120) (h1k : 1 ≤ k) (hk6 : k ≤ 6) (hk : R 3 = nI k) : mA L xs N (d + 4) 201 i R x (vF k x (R 5)) (tF k) := by
  intro A G e r h3 h2 h5 h1 hr
  have hc := nI_clamp (n := i) (by omega)
  unfold vF tF at *
  rw [m201, rf11000_19, ga20044, ib_n hi (by decide), hc, h3, hk]
  by_cases c2 : k = 2
  · subst c2
    simp only [if_true] at hr ⊢
    rw [if_pos (show nI 2 = (2 : Int32) from rfl), vo11000]
    refine (congrArg (fun z => cI z _) (M200 (L := L) (xs := xs) (N := N) (d := d) (R := R) (x := x) hi A G e r h3 h2 h5 h1 hr)).trans ?_
    rw [cI_s]
  · have d2 : ¬ nI k = 2 := fun z => c2 ((nI_eq (b := 2) (by omega) (by decide)).mp z)
    simp only [if_neg c2] at hr ⊢
    rw [if_neg d2, rf11000_19, ga20044, ib_n hi (by decide), hc, h3, hk]
    by_cases c3 : k = 3
    · subst c3
      simp only [if_true, List.length_cons, List.length_nil] at hr ⊢
      rw [if_pos (show nI 3 = (3 : Int32) from rfl), vo11000, s198 h1 (by omega), cV_s, vo11000]
      have c := M199 (L := L) (xs := xs) (N := N) (d := d + 1) (R := R) (x := x &&& 15) hi (up3 A 20064 0 r 40) (up3 G 11 0 53 (nI (r + 1))) e (r + 1) h3 h2 h5 up3_s (by simp only [List.length_cons, List.length_nil]; omega)
      refine (congrArg (fun z => cI z _) c).trans ?_
      rw [cI_s, up3_up3]
      rfl
    · have d3 : ¬ nI k = 3 := fun z => c3 ((nI_eq (b := 3) (by omega) (by decide)).mp z)
      simp only [if_neg c3] at hr ⊢
      rw [if_neg d3, rf11000_19, ga20044, ib_n hi (by decide), hc, h3, hk]
      by_cases c6 : k = 6
      · subst c6
        simp only [if_true, List.length_cons, List.length_nil, List.length_append] at hr ⊢
        rw [if_pos (show nI 6 = (6 : Int32) from rfl), vo11000, s198 h1 (by omega), cV_s, vo11000]
        have c := M200 (L := L) (xs := xs) (N := N) (d := d) (R := R) (x := x) hi (up3 A 20064 0 r 70) (up3 G 11 0 53 (nI (r + 1))) e (r + 1) h3 h2 h5 up3_s (by simp only [List.length_cons, List.length_nil]; omega)
        refine (congrArg (fun z => cI z _) c).trans ?_
        rw [cI_s, vo11000, up3_up3]
        have c' := M200 (L := L) (xs := xs) (N := N) (d := d) (R := R) (x := x + 1) hi (tA 20064 (up3 A 20064 0 r 70) (r + 1) [30, 10]) (up3 G 11 0 53 (nI (r + 1 + 2))) e (r + 1 + 2) h3 h2 h5 up3_s (by simp only [List.length_cons, List.length_nil]; omega)
        refine (congrArg (fun z => cI z _) c').trans ?_
        rw [cI_s, up3_up3]
        rfl
      · have d6 : ¬ nI k = 6 := fun z => c6 ((nI_eq (b := 6) (by omega) (by decide)).mp z)
        simp only [if_neg c6] at hr ⊢
        rw [if_neg d6, vo11000]
        refine (congrArg (fun z => cI z _) (M199 (L := L) (xs := xs) (N := N) (d := d + 1) (R := R) (x := x) hi A G e r h3 h2 h5 h1 hr)).trans ?_
        rw [cI_s]
theorem tA_k {A : Mat} {r q : Nat} {bs : List Int32} {v : Int32} (hq : q ≠ 20064) (h : A q 0 i = v) : tA 20064 A r bs q 0 i = v := by
  rw [tA_c hq]
  exact h
theorem M202 {k : Nat} (hi : i < 120) (h1k : 1 ≤ k) (hk6 : k ≤ 6) (hk : R 3 = nI k) : mA L xs N (d + 5) 202 i R x (vF k x (R 5) - R 2) (11 :: tF k) := by
  intro A G e r h3 h2 h5 h1 hr
  have hc := nI_clamp (n := i) (by omega)
  simp only [List.length_cons] at hr
  rw [m202, vo11000, s198 h1 (by omega), cV_s, vo11000]
  have c := M201 (L := L) (xs := xs) (N := N) (d := d) (R := R) (x := x) hi h1k hk6 hk (up3 A 20064 0 r 11) (up3 G 11 0 53 (nI (r + 1))) e (r + 1) h3 h2 h5 up3_s (by omega)
  refine (congrArg (fun z => cI z _) c).trans ?_
  rw [cI_s, rf11000_21, ga20046, ib_n hi (by decide), hc, tA_k (by decide) (show up3 A 20064 0 r 11 20046 0 i = R 2 from h2), up3_up3, List.length_cons, show r + 1 + (tF k).length = r + ((tF k).length + 1) by omega]
  rfl
theorem M203 {k : Nat} (hi : i < 120) (h1k : 1 ≤ k) (hk6 : k ≤ 6) (hk : R 3 = nI k) : mA L xs N (d + 6) 203 i R x (vH k x (R 5) (R 2)) (tH k) := by
  intro A G e r h3 h2 h5 h1 hr
  have hc := nI_clamp (n := i) (by omega)
  unfold vH tH at *
  rw [m203, rf11000_19, ga20044, ib_n hi (by decide), hc, h3, hk]
  by_cases c1 : k = 1
  · subst c1
    simp only [if_true, List.length_cons] at hr ⊢
    rw [if_pos (show nI 1 = (1 : Int32) from rfl), vo11000, s198 h1 (by omega), cV_s, vo11000]
    have c := M202 (L := L) (xs := xs) (N := N) (d := d) (R := R) (x := x * 2) hi h1k hk6 hk (up3 A 20064 0 r 20) (up3 G 11 0 53 (nI (r + 1))) e (r + 1) h3 h2 h5 up3_s (by simp only [List.length_cons]; omega)
    refine (congrArg (fun z => cI z _) c).trans ?_
    rw [cI_s, up3_up3, List.length_cons, show r + 1 + ((tF 1).length + 1) = r + ((tF 1).length + 1 + 1) by omega]
    rfl
  · have d1 : ¬ nI k = 1 := fun z => c1 ((nI_eq (b := 1) (by omega) (by decide)).mp z)
    simp only [if_neg c1] at hr ⊢
    rw [if_neg d1, rf11000_19, ga20044, ib_n hi (by decide), hc, h3, hk]
    by_cases c5 : k = 5
    · subst c5
      simp only [if_true, List.length_cons] at hr ⊢
      rw [if_pos (show nI 5 = (5 : Int32) from rfl), vo11000, s198 h1 (by omega), cV_s, vo11000]
      have c := M202 (L := L) (xs := xs) (N := N) (d := d) (R := R) (x := x) hi h1k hk6 hk (up3 A 20064 0 r 60) (up3 G 11 0 53 (nI (r + 1))) e (r + 1) h3 h2 h5 up3_s (by simp only [List.length_cons]; omega)
      refine (congrArg (fun z => cI z _) c).trans ?_
      rw [cI_s, up3_up3, List.length_cons, show r + 1 + ((tF 5).length + 1) = r + ((tF 5).length + 1 + 1) by omega]
      rfl
    · have d5 : ¬ nI k = 5 := fun z => c5 ((nI_eq (b := 5) (by omega) (by decide)).mp z)
      simp only [if_neg c5] at hr ⊢
      rw [if_neg d5, vo11000]
      refine (congrArg (fun z => cI z _) (M202 (L := L) (xs := xs) (N := N) (d := d) (R := R) (x := x) hi h1k hk6 hk A G e r h3 h2 h5 h1 hr)).trans ?_
      rw [cI_s]
theorem M204 {k : Nat} (hi : i < 120) (h1k : 1 ≤ k) (hk6 : k ≤ 6) (hk : R 3 = nI k) : mA L xs N (d + 7) 204 i R x (vH k x (R 5) (R 2) ^^^ nI i) (12 :: tH k) := by
  intro A G e r h3 h2 h5 h1 hr
  simp only [List.length_cons] at hr
  rw [m204, vo11000, s198 h1 (by omega), cV_s, vo11000]
  have c := M203 (L := L) (xs := xs) (N := N) (d := d) (R := R) (x := x) hi h1k hk6 hk (up3 A 20064 0 r 12) (up3 G 11 0 53 (nI (r + 1))) e (r + 1) h3 h2 h5 up3_s (by omega)
  refine (congrArg (fun z => cI z _) c).trans ?_
  rw [cI_s, up3_up3, List.length_cons, show r + 1 + (tH k).length = r + ((tH k).length + 1) by omega]
  rfl
theorem M205 {k : Nat} (hi : i < 120) (h1k : 1 ≤ k) (hk6 : k ≤ 6) (hk : R 3 = nI k) : mA L xs N (d + 8) 205 i R x ((vH k x (R 5) (R 2) ^^^ nI i) + vH k 1 (R 5) (R 2)) (31 :: ((12 :: tH k) ++ tH k)) := by
  intro A G e r h3 h2 h5 h1 hr
  simp only [List.length_cons, List.length_append] at hr
  rw [m205, vo11000, s198 h1 (by omega), cV_s, vo11000]
  have c := M204 (L := L) (xs := xs) (N := N) (d := d) (R := R) (x := x) hi h1k hk6 hk (up3 A 20064 0 r 31) (up3 G 11 0 53 (nI (r + 1))) e (r + 1) h3 h2 h5 up3_s (by simp only [List.length_cons]; omega)
  refine (congrArg (fun z => cI z _) c).trans ?_
  rw [cI_s, vo11000, up3_up3]
  have c' := M203 (L := L) (xs := xs) (N := N) (d := d + 1) (R := R) (x := 1) hi h1k hk6 hk (tA 20064 (up3 A 20064 0 r 31) (r + 1) (12 :: tH k)) (up3 G 11 0 53 (nI (r + 1 + (12 :: tH k).length))) e (r + 1 + (12 :: tH k).length) (tA_k (by decide) h3) (tA_k (by decide) h2) (tA_k (by decide) h5) up3_s (by simp only [List.length_cons]; omega)
  refine (congrArg (fun z => cI z _) c').trans ?_
  rw [cI_s, up3_up3, tA_app]
  simp only [List.length_cons, List.length_append]
  rw [show r + 1 + ((tH k).length + 1) + (tH k).length = r + ((tH k).length + 1 + (tH k).length + 1) by omega]
  rfl
theorem fin_cons {A G : Mat} {e : Ev} {r : Nat} {b v : Int32} {bs : List Int32} : (some (some (Value.int v), HH (tA 20064 (up3 A 20064 0 r b) (r + 1) bs) (up3 G 11 0 53 (nI (r + 1 + bs.length))) e) : PR) = some (some (.int v), HH (tA 20064 A r (b :: bs)) (up3 G 11 0 53 (nI (r + (b :: bs).length))) e) := by
  rw [show r + 1 + bs.length = r + (b :: bs).length by rw [List.length_cons]; omega]
  rfl
theorem M206 {k : Nat} (hi : i < 120) (h1k : 1 ≤ k) (hk6 : k ≤ 6) (hk : R 3 = nI k) : mA L xs N (d + 9) 206 i R x (vS k x (R 5) (R 2) (nI i)) (tS k) := by
  intro A G e r h3 h2 h5 h1 hr
  have hc := nI_clamp (n := i) (by omega)
  unfold vS tS at *
  rw [m206, rf11000_19, ga20044, ib_n hi (by decide), hc, h3, hk]
  by_cases c2 : k = 2
  · subst c2
    simp only [if_true] at hr ⊢
    rw [if_pos (show nI 2 = (2 : Int32) from rfl), vo11000]
    refine (congrArg (fun z => cI z _) (M205 (L := L) (xs := xs) (N := N) (d := d) (R := R) (x := x) hi h1k hk6 hk A G e r h3 h2 h5 h1 hr)).trans ?_
    rw [cI_s]
  · have d2 : ¬ nI k = 2 := fun z => c2 ((nI_eq (b := 2) (by omega) (by decide)).mp z)
    simp only [if_neg c2] at hr ⊢
    rw [if_neg d2, rf11000_19, ga20044, ib_n hi (by decide), hc, h3, hk]
    by_cases c4 : k = 4
    · subst c4
      simp only [if_true, List.length_cons] at hr ⊢
      rw [if_pos (show nI 4 = (4 : Int32) from rfl), vo11000, s198 h1 (by omega), cV_s, vo11000]
      have c := M204 (L := L) (xs := xs) (N := N) (d := d + 1) (R := R) (x := x) hi h1k hk6 hk (up3 A 20064 0 r 50) (up3 G 11 0 53 (nI (r + 1))) e (r + 1) h3 h2 h5 up3_s (by simp only [List.length_cons]; omega)
      refine (congrArg (fun z => cI z _) c).trans ?_
      rw [cI_s, up3_up3, List.length_cons, show r + 1 + ((tH 4).length + 1) = r + ((tH 4).length + 1 + 1) by omega]
      rfl
    · have d4 : ¬ nI k = 4 := fun z => c4 ((nI_eq (b := 4) (by omega) (by decide)).mp z)
      simp only [if_neg c4] at hr ⊢
      rw [if_neg d4, rf11000_19, ga20044, ib_n hi (by decide), hc, h3, hk]
      by_cases c6 : k = 6
      · subst c6
        simp only [if_true] at hr ⊢
        rw [List.length_cons] at hr
        rw [if_pos (show nI 6 = (6 : Int32) from rfl), vo11000, s198 h1 (by omega), cV_s, vo11000]
        have c := M205 (L := L) (xs := xs) (N := N) (d := d) (R := R) (x := x - 1) hi h1k hk6 hk (up3 A 20064 0 r 71) (up3 G 11 0 53 (nI (r + 1))) e (r + 1) h3 h2 h5 up3_s (by omega)
        refine (congrArg (fun z => cI z _) c).trans ?_
        rw [cI_s, up3_up3]
        exact fin_cons
      · have d6 : ¬ nI k = 6 := fun z => c6 ((nI_eq (b := 6) (by omega) (by decide)).mp z)
        simp only [if_neg c6] at hr ⊢
        rw [if_neg d6, vo11000]
        refine (congrArg (fun z => cI z _) (M204 (L := L) (xs := xs) (N := N) (d := d + 1) (R := R) (x := x) hi h1k hk6 hk A G e r h3 h2 h5 h1 hr)).trans ?_
        rw [cI_s]
/-! the class's acts, kind by kind -/
theorem cF0 (hi : i < 1000) : cA L xs N (d + 2) 0 0 i R x (x + R 5) [10] 0 := f0_0 (B10 hi)
theorem cF2 (hi : i < 1000) : cA L xs N (d + 4) 2 0 i R x (x + R 5 - 90) [30, 10] 1 := f2_0 (B30 hi (cF0 hi))
theorem cA_w {s a : Nat} {v : Int32} {bs : List Int32} {m m' : Nat} (h : cA L xs N d s a i R x v bs m) (hm : m ≤ m') : cA L xs N d s a i R x v bs m' := fun A G e dp r h1 h2 h3 h4 h5 => h A G e dp r h1 h2 h3 h4 (by omega)
theorem cF {k : Nat} (hi : i < 1000) (h1k : 1 ≤ k) (hk6 : k ≤ 6) : cA L xs N (d + 6) k 0 i R x (vF k x (R 5)) (tF k) 2 := by
  match k, h1k, hk6 with
  | 1, _, _ => exact cA_w (f1_0 (B10 hi)) (by decide)
  | 2, _, _ => exact cA_w (f2_0 (B30 hi (cF0 hi))) (by decide)
  | 3, _, _ => exact cA_w (f3_0 (B40 hi (cF0 hi))) (by decide)
  | 4, _, _ => exact cA_w (f4_0 (B10 hi)) (by decide)
  | 5, _, _ => exact cA_w (f5_0 (B10 hi)) (by decide)
  | 6, _, _ => exact f6_0 (B70 hi (cF2 hi) (cF2 hi))
theorem cH0 {k : Nat} (hi : i < 1000) (h1k : 1 ≤ k) (hk6 : k ≤ 6) (hk : R 3 = nI k) : cA L xs N (d + 8) 0 1 i R x (vF k x (R 5) - R 2) (11 :: tF k) 3 := f0_1 (B11 hi hk (cF hi h1k hk6))
theorem cH {k : Nat} (hi : i < 1000) (h1k : 1 ≤ k) (hk6 : k ≤ 6) (hk : R 3 = nI k) : cA L xs N (d + 10) k 1 i R x (vH k x (R 5) (R 2)) (tH k) 4 := by
  match k, h1k, hk6, hk with
  | 1, a, b, c => exact f1_1 (B20 hi (cH0 hi a b c))
  | 2, a, b, c => exact cA_w (f2_1 (B11 hi c (cF hi a b))) (by decide)
  | 3, a, b, c => exact cA_w (f3_1 (B11 hi c (cF hi a b))) (by decide)
  | 4, a, b, c => exact cA_w (f4_1 (B11 hi c (cF hi a b))) (by decide)
  | 5, a, b, c => exact f5_1 (B60 hi (cH0 hi a b c))
  | 6, a, b, c => exact cA_w (f6_1 (B11 hi c (cF hi a b))) (by decide)
theorem cS0 {k : Nat} (hi : i < 1000) (h1k : 1 ≤ k) (hk6 : k ≤ 6) (hk : R 3 = nI k) : cA L xs N (d + 12) 0 2 i R x (vH k x (R 5) (R 2) ^^^ R 0) (12 :: tH k) 5 := f0_2 (B12 hi hk (cH hi h1k hk6 hk))
theorem cS2 {k : Nat} (hi : i < 1000) (h1k : 1 ≤ k) (hk6 : k ≤ 6) (hk : R 3 = nI k) : cA L xs N (d + 14) 2 2 i R x ((vH k x (R 5) (R 2) ^^^ R 0) + vH k 1 (R 5) (R 2)) (31 :: ((12 :: tH k) ++ tH k)) 6 := f2_2 (B31 hi hk (cS0 hi h1k hk6 hk) (cA_w (cH hi h1k hk6 hk) (by decide)))
theorem cS {k : Nat} (hi : i < 1000) (h1k : 1 ≤ k) (hk6 : k ≤ 6) (hk : R 3 = nI k) : cA L xs N (d + 16) k 2 i R x (vS k x (R 5) (R 2) (R 0)) (tS k) 7 := by
  match k, h1k, hk6, hk with
  | 1, a, b, c => exact cA_w (f1_2 (B12 hi c (cH hi a b c))) (by decide)
  | 2, a, b, c => exact cA_w (f2_2 (B31 hi c (cS0 hi a b c) (cA_w (cH hi a b c) (by decide)))) (by decide)
  | 3, a, b, c => exact cA_w (f3_2 (B12 hi c (cH hi a b c))) (by decide)
  | 4, a, b, c => exact cA_w (f4_2 (B50 hi (cS0 hi a b c))) (by decide)
  | 5, a, b, c => exact cA_w (f5_2 (B12 hi c (cH hi a b c))) (by decide)
  | 6, a, b, c => exact f6_2 (B71 hi (cS2 hi a b c))
theorem t_len : ∀ k, k ≤ 6 → (tF k).length ≤ 20 ∧ (tH k).length ≤ 20 ∧ (tS k).length ≤ 20 := by decide
/-- both acts of a row, from the same place -/
theorem act_fin {A G : Mat} {e : Ev} {bs : List Int32} (hb : bs.length ≤ 20) (I : Inv A G e) : IH (HH (tA 20064 (tA 20020 A 0 bs) 0 bs) (up3 (up3 G 0 0 1 (nI (0 + bs.length))) 11 0 53 (nI (0 + bs.length))) e) := by
  obtain ⟨i1, i2, i3, i4, i5, i6, i7, i8, i9, i10, i11, i12, i13, i14, i15, i16, i17, i18, i19, i20, i21, i22, i23, i24, i25⟩ := I
  have q : ∀ c, c ≠ 20064 → c ≠ 20020 → tA 20064 (tA 20020 A 0 bs) 0 bs c = A c := fun c h1 h2 => by rw [tA_c h1, tA_c h2]
  have q2 : I_eqA (tA 20064 (tA 20020 A 0 bs) 0 bs 20020 0) (tA 20064 (tA 20020 A 0 bs) 0 bs 20064 0) 20 := by
    rw [tA_c (by decide)]
    refine tA_eq bs _ _ 0 ?_
    rw [tA_c (by decide)]
    exact i22
  refine ⟨_, _, _, rfl, ?_⟩
  unfold Inv
  rw [q 20017 (by decide) (by decide), q 20057 (by decide) (by decide), q 20018 (by decide) (by decide), q 20019 (by decide) (by decide), q 20062 (by decide) (by decide), q 20000 (by decide) (by decide), q 20001 (by decide) (by decide), q 20002 (by decide) (by decide), q 20003 (by decide) (by decide), q 20029 (by decide) (by decide), q 20030 (by decide) (by decide), q 20031 (by decide) (by decide), q 20032 (by decide) (by decide), q 20004 (by decide) (by decide), q 20033 (by decide) (by decide), q 20005 (by decide) (by decide), q 20054 (by decide) (by decide), q 20012 (by decide) (by decide), q 20034 (by decide) (by decide), q 20013 (by decide) (by decide), q 20035 (by decide) (by decide), q 20036 (by decide) (by decide), q 20037 (by decide) (by decide), q 20038 (by decide) (by decide), q 20039 (by decide) (by decide), q 20040 (by decide) (by decide), q 20041 (by decide) (by decide), q 20042 (by decide) (by decide), q 20043 (by decide) (by decide), q 20044 (by decide) (by decide), q 20045 (by decide) (by decide), q 20046 (by decide) (by decide), q 20047 (by decide) (by decide), q 20048 (by decide) (by decide), q 20049 (by decide) (by decide), q 20050 (by decide) (by decide), q 20051 (by decide) (by decide), q 20069 (by decide) (by decide), q 20055 (by decide) (by decide), q 20056 (by decide) (by decide), q 20058 (by decide) (by decide), q 20022 (by decide) (by decide), q 20065 (by decide) (by decide), q 20066 (by decide) (by decide), q 20067 (by decide) (by decide), q 20028 (by decide) (by decide)]
  exact ⟨i1, i2, i3, i4, ⟨0 + bs.length, by omega, rfl, rfl⟩, i6, i7, i8, i9, i10, i11, i12, i13, i14, i15, i16, i17, i18, i19, i20, i21, q2, i23, i24, i25⟩
theorem o_act {A G : Mat} {e : Ev} (I : Inv A G e) (y z x : Int32) : Op L xs N (d + 40) 85 207 [.int y, .int z, .int x] A G e := by
  have I0 := I
  obtain ⟨n, hn, h120, r1, r2⟩ := row_n I
  obtain ⟨i1, i2, i3, i4, i5, i6, i7, i8, i9, i10, i11, i12, i13, i14, i15, i16, i17, i18, i19, i20, i21, i22, i23, i24, i25⟩ := I
  rw [hn] at i16 i18
  unfold Op
  have r1' : up3 G 0 0 1 0 10 0 15 = nI n := r1
  have r2' : ∀ w, up3 (up3 G 0 0 1 w) 11 0 53 0 11 0 18 = nI n := fun w => r2
  have z0 : (0 : Int32) = nI 0 := rfl
  have bad : IH (HH A (up3 (up3 G 0 0 1 0) 11 0 53 0) e) := IH_i ⟨i1, i2, i3, i4, ⟨0, by omega, rfl, rfl⟩, i6, i7, i8, i9, i10, i11, i12, i13, i14, i15, hn ▸ i16, i17, hn ▸ i18, i19, i20, i21, i22, i23, i24, i25⟩
  by_cases g1 : (0 ≤ y ∧ y ≤ nI n - 1)
  · by_cases g2 : (0 ≤ z ∧ z ≤ 2)
    · obtain ⟨i, hi, rfl⟩ := g_r (by omega) g1
      obtain ⟨a, ha, rfl⟩ := g_n (x := z) 3 (by decide) g2
      obtain ⟨⟨⟨k, k1, k6, hk⟩, -⟩, b1, b2, b3, b4, b5, b6, b7⟩ := i16 i hi
      have tl := t_len k k6
      have hN : i < eNr e := by omega
      -- the class
      have cls : ∀ (v : Int32) (bs : List Int32), cA L xs N (d + 38) k a i (G 7 i) x v bs 7 → bs.length ≤ 20 → CALL (roL L xs) mP mL (N + 5050) (d + 40) 85 [.ref 10000, .int (nI i), .int (nI a), .int x] (HH A G e) = some (some (.int v), HH (tA 20020 A 0 bs) (up3 G 0 0 1 (nI (0 + bs.length))) e) := by
        intro v bs hc hl
        have c := hc A (up3 (up3 G 0 0 1 0) 0 0 1 0) e 0 0 hN rfl up3_s (by omega) (by omega)
        have k7 : ∀ (G : Mat) (K : Int32 → PR), gI (HH A G e) (7000 + i) 7 3 K = K (G 7 i 3) := fun G K => gI7 hN (by omega) (by decide)
        have p1 : CALL (roL L xs) mP mL (N + 5050) (d + 39) 1 [.ref 0, .ref (7000 + i), .int (nI a), .int x] (HH A (up3 G 0 0 1 0) e) = some (some (.int v), HH (tA 20020 A 0 bs) (up3 G 0 0 1 (nI (0 + bs.length))) e) := by
          rw [m1, pf0_1, k7, show up3 (up3 G 0 0 1 0) 0 0 1 0 7 i 3 = nI k from hk, vo0]
          refine (congrArg (fun z => cI z _) c).trans ?_
          rw [cI_s, up3_up3, up3_up3]
        (simp only [↓m85, ↓vo0, ↓rf0_0, ↓gf0_1, ↓vo1000, ↓rf1000_0, ↓rf1000_1, ↓vo2000, ↓rf2000_0, ↓rf2000_1, ↓rf2000_2, ↓rf2000_3, ↓vo5000, ↓rf5000_0, ↓rf5000_1, ↓gf5000_2, ↓vo6000, ↓rf6000_0, ↓rf6000_1, ↓gf6000_2, ↓gf6000_3, ↓gf6000_4, ↓vo9000, ↓rf9000_0, ↓rf9000_1, ↓gf9000_2, ↓rf9000_3, ↓rf9000_4, ↓vo10000, ↓rf10000_0, ↓rf10000_1, ↓rf10000_2, ↓rf10000_3, ↓rf10000_4, ↓rf10000_5, ↓rf10000_6, ↓rf10000_7, ↓rf10000_8, ↓rf10000_9, ↓rf10000_10, ↓rf10000_11, ↓rf10000_12, ↓gf10000_13, ↓gf10000_14, ↓gf10000_15, ↓gf10000_16, ↓gf10000_17, ↓vo11000, ↓gf11000_0, ↓gf11000_1, ↓rf11000_2, ↓rf11000_3, ↓rf11000_4, ↓rf11000_5, ↓rf11000_6, ↓rf11000_7, ↓rf11000_8, ↓rf11000_9, ↓rf11000_10, ↓rf11000_11, ↓rf11000_12, ↓rf11000_13, ↓rf11000_14, ↓rf11000_15, ↓rf11000_16, ↓rf11000_17, ↓gf11000_18, ↓rf11000_19, ↓rf11000_20, ↓rf11000_21, ↓rf11000_22, ↓rf11000_23, ↓rf11000_24, ↓rf11000_25, ↓rf11000_26, ↓rf11000_27, ↓rf11000_28, ↓gf11000_29, ↓gf11000_30, ↓gf11000_31, ↓gf11000_32, ↓rf11000_33, ↓gf11000_34, ↓gf11000_35, ↓gf11000_36, ↓rf11000_37, ↓rf11000_38, ↓rf11000_39, ↓rf11000_40, ↓rf11000_41, ↓gf11000_42, ↓gf11000_43, ↓gf11000_44, ↓rf11000_45, ↓rf11000_46, ↓gf11000_47, ↓gf11000_48, ↓gf11000_49, ↓gf11000_50, ↓rf11000_51, ↓rf11000_52, ↓gf11000_53, ↓rf11000_54, ↓rf11000_55, ↓rf11000_56, ↓rf11000_57, ↓rf11000_58, ↓vo4000, ↓gf4000_0, ↓gf4000_1, ↓gf4000_2, ↓gf4000_3, ↓gf4000_4, ↓gf4000_5, ↓gf4000_6, ↓gf4000_7, ↓gf4000_8, ↓rf4000_9, ↓vo4001, ↓gf4001_0, ↓gf4001_1, ↓gf4001_2, ↓gf4001_3, ↓gf4001_4, ↓gf4001_5, ↓gf4001_6, ↓gf4001_7, ↓gf4001_8, ↓rf4001_9, ↓ga20000, ↓ga20001, ↓ga20002, ↓ga20003, ↓ga20004, ↓ga20005, ↓ga20009, ↓ga20010, ↓ga20012, ↓ga20013, ↓ga20015, ↓ga20016, ↓ga20017, ↓ga20018, ↓ga20019, ↓ga20020, ↓ga20022, ↓ga20023, ↓ga20024, ↓ga20025, ↓ga20026, ↓ga20027, ↓ga20028, ↓ga20029, ↓ga20030, ↓ga20031, ↓ga20032, ↓ga20033, ↓ga20034, ↓ga20035, ↓ga20036, ↓ga20037, ↓ga20038, ↓ga20039, ↓ga20040, ↓ga20041, ↓ga20042, ↓ga20043, ↓ga20044, ↓ga20045, ↓ga20046, ↓ga20047, ↓ga20048, ↓ga20049, ↓ga20050, ↓ga20051, ↓ga20052, ↓ga20053, ↓ga20054, ↓ga20055, ↓ga20056, ↓ga20057, ↓ga20058, ↓ga20059, ↓ga20060, ↓ga20061, ↓ga20062, ↓ga20063, ↓ga20064, ↓ga20065, ↓ga20066, ↓ga20067, ↓ga20068, ↓pf0_1, ↓pf5000_2, ↓pf6000_2, ↓pf6000_3, ↓pf6000_4, ↓pf9000_2, ↓pf10000_13, ↓pf10000_14, ↓pf10000_15, ↓pf10000_16, ↓pf10000_17, ↓pf11000_0, ↓pf11000_1, ↓pf11000_18, ↓pf11000_29, ↓pf11000_30, ↓pf11000_31, ↓pf11000_32, ↓pf11000_34, ↓pf11000_35, ↓pf11000_36, ↓pf11000_42, ↓pf11000_43, ↓pf11000_44, ↓pf11000_47, ↓pf11000_48, ↓pf11000_49, ↓pf11000_50, ↓pf11000_53, ↓pf4000_0, ↓pf4000_1, ↓pf4000_2, ↓pf4000_3, ↓pf4000_4, ↓pf4000_5, ↓pf4000_6, ↓pf4000_7, ↓pf4000_8, ↓pf4001_0, ↓pf4001_1, ↓pf4001_2, ↓pf4001_3, ↓pf4001_4, ↓pf4001_5, ↓pf4001_6, ↓pf4001_7, ↓pf4001_8, ↓sa20000, ↓sa20001, ↓sa20002, ↓sa20003, ↓sa20004, ↓sa20005, ↓sa20009, ↓sa20010, ↓sa20012, ↓sa20013, ↓sa20015, ↓sa20016, ↓sa20017, ↓sa20018, ↓sa20019, ↓sa20020, ↓sa20022, ↓sa20023, ↓sa20024, ↓sa20025, ↓sa20026, ↓sa20027, ↓sa20028, ↓sa20029, ↓sa20030, ↓sa20031, ↓sa20032, ↓sa20033, ↓sa20034, ↓sa20035, ↓sa20036, ↓sa20037, ↓sa20038, ↓sa20039, ↓sa20040, ↓sa20041, ↓sa20042, ↓sa20043, ↓sa20044, ↓sa20045, ↓sa20046, ↓sa20047, ↓sa20048, ↓sa20049, ↓sa20050, ↓sa20051, ↓sa20052, ↓sa20053, ↓sa20054, ↓sa20055, ↓sa20056, ↓sa20057, ↓sa20058, ↓sa20059, ↓sa20060, ↓sa20061, ↓sa20062, ↓sa20063, ↓sa20064, ↓sa20065, ↓sa20066, ↓sa20067, ↓sa20068, ↓s93, ↓s94, ↓s95, ↓s96, ↓s97, ↓s98, ↓s99, ↓s100, ↓s101, ↓s104, ↓s105, ↓s106, ↓s125, ↓s126, ↓s127, ↓s219, ↓s220, ↓s221, ↓h128, ↓h129, ↓h130, ↓h131, ↓s132, ↓h157, ↓h194, ↓h211, ↓cI_s, ↓cV_s, ↓cR_s, ↓cR_n, ↓reduceIte, ↓bI_01, ↓ro0, ↓ro1, ↓ro2, ↓ro3, ↓rol3, up3_s, up3_c, ne_eq, Nat.reduceEqDiff, Wp_s, bI_z, not_true_eq_false, not_false_eq_true, and_self, and_true, true_and, and_false, false_and, if_true, if_false, Classical.not_not, s102 r1', g1, g2, aRr i18 h120 hi, p1])
      have mdl : ∀ (v : Int32) (bs : List Int32) (M : Nat), (M = 201 ∧ a = 0 ∨ M = 203 ∧ a = 1 ∨ M = 206 ∧ a = 2) → mA L xs N (d + 39) M i (G 7 i) x v bs → bs.length ≤ 20 → CALL (roL L xs) mP mL (N + 5050) (d + 40) 207 [.ref 11000, .int (nI i), .int (nI a), .int x] (HH (tA 20020 A 0 bs) (up3 G 0 0 1 (nI (0 + bs.length))) e) = some (some (.int v), HH (tA 20064 (tA 20020 A 0 bs) 0 bs) (up3 (up3 G 0 0 1 (nI (0 + bs.length))) 11 0 53 (nI (0 + bs.length))) e) := by
        intro v bs M hM hm hl
        have c := hm (tA 20020 A 0 bs) (up3 (up3 G 0 0 1 (nI (0 + bs.length))) 11 0 53 0) e 0 (by rw [tA_c (by decide)]; exact b2) (by rw [tA_c (by decide)]; exact b4) (by rw [tA_c (by decide)]; exact b6) up3_s (by omega)
        rcases hM with ⟨rfl, rfl⟩ | ⟨rfl, rfl⟩ | ⟨rfl, rfl⟩
        · (simp only [↓m207, ↓vo0, ↓rf0_0, ↓gf0_1, ↓vo1000, ↓rf1000_0, ↓rf1000_1, ↓vo2000, ↓rf2000_0, ↓rf2000_1, ↓rf2000_2, ↓rf2000_3, ↓vo5000, ↓rf5000_0, ↓rf5000_1, ↓gf5000_2, ↓vo6000, ↓rf6000_0, ↓rf6000_1, ↓gf6000_2, ↓gf6000_3, ↓gf6000_4, ↓vo9000, ↓rf9000_0, ↓rf9000_1, ↓gf9000_2, ↓rf9000_3, ↓rf9000_4, ↓vo10000, ↓rf10000_0, ↓rf10000_1, ↓rf10000_2, ↓rf10000_3, ↓rf10000_4, ↓rf10000_5, ↓rf10000_6, ↓rf10000_7, ↓rf10000_8, ↓rf10000_9, ↓rf10000_10, ↓rf10000_11, ↓rf10000_12, ↓gf10000_13, ↓gf10000_14, ↓gf10000_15, ↓gf10000_16, ↓gf10000_17, ↓vo11000, ↓gf11000_0, ↓gf11000_1, ↓rf11000_2, ↓rf11000_3, ↓rf11000_4, ↓rf11000_5, ↓rf11000_6, ↓rf11000_7, ↓rf11000_8, ↓rf11000_9, ↓rf11000_10, ↓rf11000_11, ↓rf11000_12, ↓rf11000_13, ↓rf11000_14, ↓rf11000_15, ↓rf11000_16, ↓rf11000_17, ↓gf11000_18, ↓rf11000_19, ↓rf11000_20, ↓rf11000_21, ↓rf11000_22, ↓rf11000_23, ↓rf11000_24, ↓rf11000_25, ↓rf11000_26, ↓rf11000_27, ↓rf11000_28, ↓gf11000_29, ↓gf11000_30, ↓gf11000_31, ↓gf11000_32, ↓rf11000_33, ↓gf11000_34, ↓gf11000_35, ↓gf11000_36, ↓rf11000_37, ↓rf11000_38, ↓rf11000_39, ↓rf11000_40, ↓rf11000_41, ↓gf11000_42, ↓gf11000_43, ↓gf11000_44, ↓rf11000_45, ↓rf11000_46, ↓gf11000_47, ↓gf11000_48, ↓gf11000_49, ↓gf11000_50, ↓rf11000_51, ↓rf11000_52, ↓gf11000_53, ↓rf11000_54, ↓rf11000_55, ↓rf11000_56, ↓rf11000_57, ↓rf11000_58, ↓vo4000, ↓gf4000_0, ↓gf4000_1, ↓gf4000_2, ↓gf4000_3, ↓gf4000_4, ↓gf4000_5, ↓gf4000_6, ↓gf4000_7, ↓gf4000_8, ↓rf4000_9, ↓vo4001, ↓gf4001_0, ↓gf4001_1, ↓gf4001_2, ↓gf4001_3, ↓gf4001_4, ↓gf4001_5, ↓gf4001_6, ↓gf4001_7, ↓gf4001_8, ↓rf4001_9, ↓ga20000, ↓ga20001, ↓ga20002, ↓ga20003, ↓ga20004, ↓ga20005, ↓ga20009, ↓ga20010, ↓ga20012, ↓ga20013, ↓ga20015, ↓ga20016, ↓ga20017, ↓ga20018, ↓ga20019, ↓ga20020, ↓ga20022, ↓ga20023, ↓ga20024, ↓ga20025, ↓ga20026, ↓ga20027, ↓ga20028, ↓ga20029, ↓ga20030, ↓ga20031, ↓ga20032, ↓ga20033, ↓ga20034, ↓ga20035, ↓ga20036, ↓ga20037, ↓ga20038, ↓ga20039, ↓ga20040, ↓ga20041, ↓ga20042, ↓ga20043, ↓ga20044, ↓ga20045, ↓ga20046, ↓ga20047, ↓ga20048, ↓ga20049, ↓ga20050, ↓ga20051, ↓ga20052, ↓ga20053, ↓ga20054, ↓ga20055, ↓ga20056, ↓ga20057, ↓ga20058, ↓ga20059, ↓ga20060, ↓ga20061, ↓ga20062, ↓ga20063, ↓ga20064, ↓ga20065, ↓ga20066, ↓ga20067, ↓ga20068, ↓pf0_1, ↓pf5000_2, ↓pf6000_2, ↓pf6000_3, ↓pf6000_4, ↓pf9000_2, ↓pf10000_13, ↓pf10000_14, ↓pf10000_15, ↓pf10000_16, ↓pf10000_17, ↓pf11000_0, ↓pf11000_1, ↓pf11000_18, ↓pf11000_29, ↓pf11000_30, ↓pf11000_31, ↓pf11000_32, ↓pf11000_34, ↓pf11000_35, ↓pf11000_36, ↓pf11000_42, ↓pf11000_43, ↓pf11000_44, ↓pf11000_47, ↓pf11000_48, ↓pf11000_49, ↓pf11000_50, ↓pf11000_53, ↓pf4000_0, ↓pf4000_1, ↓pf4000_2, ↓pf4000_3, ↓pf4000_4, ↓pf4000_5, ↓pf4000_6, ↓pf4000_7, ↓pf4000_8, ↓pf4001_0, ↓pf4001_1, ↓pf4001_2, ↓pf4001_3, ↓pf4001_4, ↓pf4001_5, ↓pf4001_6, ↓pf4001_7, ↓pf4001_8, ↓sa20000, ↓sa20001, ↓sa20002, ↓sa20003, ↓sa20004, ↓sa20005, ↓sa20009, ↓sa20010, ↓sa20012, ↓sa20013, ↓sa20015, ↓sa20016, ↓sa20017, ↓sa20018, ↓sa20019, ↓sa20020, ↓sa20022, ↓sa20023, ↓sa20024, ↓sa20025, ↓sa20026, ↓sa20027, ↓sa20028, ↓sa20029, ↓sa20030, ↓sa20031, ↓sa20032, ↓sa20033, ↓sa20034, ↓sa20035, ↓sa20036, ↓sa20037, ↓sa20038, ↓sa20039, ↓sa20040, ↓sa20041, ↓sa20042, ↓sa20043, ↓sa20044, ↓sa20045, ↓sa20046, ↓sa20047, ↓sa20048, ↓sa20049, ↓sa20050, ↓sa20051, ↓sa20052, ↓sa20053, ↓sa20054, ↓sa20055, ↓sa20056, ↓sa20057, ↓sa20058, ↓sa20059, ↓sa20060, ↓sa20061, ↓sa20062, ↓sa20063, ↓sa20064, ↓sa20065, ↓sa20066, ↓sa20067, ↓sa20068, ↓s93, ↓s94, ↓s95, ↓s96, ↓s97, ↓s98, ↓s99, ↓s100, ↓s101, ↓s104, ↓s105, ↓s106, ↓s125, ↓s126, ↓s127, ↓s219, ↓s220, ↓s221, ↓h128, ↓h129, ↓h130, ↓h131, ↓s132, ↓h157, ↓h194, ↓h211, ↓cI_s, ↓cV_s, ↓cR_s, ↓cR_n, ↓reduceIte, ↓bI_01, ↓ro0, ↓ro1, ↓ro2, ↓ro3, ↓rol3, up3_s, up3_c, ne_eq, Nat.reduceEqDiff, Wp_s, bI_z, not_true_eq_false, not_false_eq_true, and_self, and_true, true_and, and_false, false_and, if_true, if_false, Classical.not_not, s141 (r2' _), g1, g2, eq_true (show nI 0 = 0 from rfl), c, up3_up3])
        · (simp only [↓m207, ↓vo0, ↓rf0_0, ↓gf0_1, ↓vo1000, ↓rf1000_0, ↓rf1000_1, ↓vo2000, ↓rf2000_0, ↓rf2000_1, ↓rf2000_2, ↓rf2000_3, ↓vo5000, ↓rf5000_0, ↓rf5000_1, ↓gf5000_2, ↓vo6000, ↓rf6000_0, ↓rf6000_1, ↓gf6000_2, ↓gf6000_3, ↓gf6000_4, ↓vo9000, ↓rf9000_0, ↓rf9000_1, ↓gf9000_2, ↓rf9000_3, ↓rf9000_4, ↓vo10000, ↓rf10000_0, ↓rf10000_1, ↓rf10000_2, ↓rf10000_3, ↓rf10000_4, ↓rf10000_5, ↓rf10000_6, ↓rf10000_7, ↓rf10000_8, ↓rf10000_9, ↓rf10000_10, ↓rf10000_11, ↓rf10000_12, ↓gf10000_13, ↓gf10000_14, ↓gf10000_15, ↓gf10000_16, ↓gf10000_17, ↓vo11000, ↓gf11000_0, ↓gf11000_1, ↓rf11000_2, ↓rf11000_3, ↓rf11000_4, ↓rf11000_5, ↓rf11000_6, ↓rf11000_7, ↓rf11000_8, ↓rf11000_9, ↓rf11000_10, ↓rf11000_11, ↓rf11000_12, ↓rf11000_13, ↓rf11000_14, ↓rf11000_15, ↓rf11000_16, ↓rf11000_17, ↓gf11000_18, ↓rf11000_19, ↓rf11000_20, ↓rf11000_21, ↓rf11000_22, ↓rf11000_23, ↓rf11000_24, ↓rf11000_25, ↓rf11000_26, ↓rf11000_27, ↓rf11000_28, ↓gf11000_29, ↓gf11000_30, ↓gf11000_31, ↓gf11000_32, ↓rf11000_33, ↓gf11000_34, ↓gf11000_35, ↓gf11000_36, ↓rf11000_37, ↓rf11000_38, ↓rf11000_39, ↓rf11000_40, ↓rf11000_41, ↓gf11000_42, ↓gf11000_43, ↓gf11000_44, ↓rf11000_45, ↓rf11000_46, ↓gf11000_47, ↓gf11000_48, ↓gf11000_49, ↓gf11000_50, ↓rf11000_51, ↓rf11000_52, ↓gf11000_53, ↓rf11000_54, ↓rf11000_55, ↓rf11000_56, ↓rf11000_57, ↓rf11000_58, ↓vo4000, ↓gf4000_0, ↓gf4000_1, ↓gf4000_2, ↓gf4000_3, ↓gf4000_4, ↓gf4000_5, ↓gf4000_6, ↓gf4000_7, ↓gf4000_8, ↓rf4000_9, ↓vo4001, ↓gf4001_0, ↓gf4001_1, ↓gf4001_2, ↓gf4001_3, ↓gf4001_4, ↓gf4001_5, ↓gf4001_6, ↓gf4001_7, ↓gf4001_8, ↓rf4001_9, ↓ga20000, ↓ga20001, ↓ga20002, ↓ga20003, ↓ga20004, ↓ga20005, ↓ga20009, ↓ga20010, ↓ga20012, ↓ga20013, ↓ga20015, ↓ga20016, ↓ga20017, ↓ga20018, ↓ga20019, ↓ga20020, ↓ga20022, ↓ga20023, ↓ga20024, ↓ga20025, ↓ga20026, ↓ga20027, ↓ga20028, ↓ga20029, ↓ga20030, ↓ga20031, ↓ga20032, ↓ga20033, ↓ga20034, ↓ga20035, ↓ga20036, ↓ga20037, ↓ga20038, ↓ga20039, ↓ga20040, ↓ga20041, ↓ga20042, ↓ga20043, ↓ga20044, ↓ga20045, ↓ga20046, ↓ga20047, ↓ga20048, ↓ga20049, ↓ga20050, ↓ga20051, ↓ga20052, ↓ga20053, ↓ga20054, ↓ga20055, ↓ga20056, ↓ga20057, ↓ga20058, ↓ga20059, ↓ga20060, ↓ga20061, ↓ga20062, ↓ga20063, ↓ga20064, ↓ga20065, ↓ga20066, ↓ga20067, ↓ga20068, ↓pf0_1, ↓pf5000_2, ↓pf6000_2, ↓pf6000_3, ↓pf6000_4, ↓pf9000_2, ↓pf10000_13, ↓pf10000_14, ↓pf10000_15, ↓pf10000_16, ↓pf10000_17, ↓pf11000_0, ↓pf11000_1, ↓pf11000_18, ↓pf11000_29, ↓pf11000_30, ↓pf11000_31, ↓pf11000_32, ↓pf11000_34, ↓pf11000_35, ↓pf11000_36, ↓pf11000_42, ↓pf11000_43, ↓pf11000_44, ↓pf11000_47, ↓pf11000_48, ↓pf11000_49, ↓pf11000_50, ↓pf11000_53, ↓pf4000_0, ↓pf4000_1, ↓pf4000_2, ↓pf4000_3, ↓pf4000_4, ↓pf4000_5, ↓pf4000_6, ↓pf4000_7, ↓pf4000_8, ↓pf4001_0, ↓pf4001_1, ↓pf4001_2, ↓pf4001_3, ↓pf4001_4, ↓pf4001_5, ↓pf4001_6, ↓pf4001_7, ↓pf4001_8, ↓sa20000, ↓sa20001, ↓sa20002, ↓sa20003, ↓sa20004, ↓sa20005, ↓sa20009, ↓sa20010, ↓sa20012, ↓sa20013, ↓sa20015, ↓sa20016, ↓sa20017, ↓sa20018, ↓sa20019, ↓sa20020, ↓sa20022, ↓sa20023, ↓sa20024, ↓sa20025, ↓sa20026, ↓sa20027, ↓sa20028, ↓sa20029, ↓sa20030, ↓sa20031, ↓sa20032, ↓sa20033, ↓sa20034, ↓sa20035, ↓sa20036, ↓sa20037, ↓sa20038, ↓sa20039, ↓sa20040, ↓sa20041, ↓sa20042, ↓sa20043, ↓sa20044, ↓sa20045, ↓sa20046, ↓sa20047, ↓sa20048, ↓sa20049, ↓sa20050, ↓sa20051, ↓sa20052, ↓sa20053, ↓sa20054, ↓sa20055, ↓sa20056, ↓sa20057, ↓sa20058, ↓sa20059, ↓sa20060, ↓sa20061, ↓sa20062, ↓sa20063, ↓sa20064, ↓sa20065, ↓sa20066, ↓sa20067, ↓sa20068, ↓s93, ↓s94, ↓s95, ↓s96, ↓s97, ↓s98, ↓s99, ↓s100, ↓s101, ↓s104, ↓s105, ↓s106, ↓s125, ↓s126, ↓s127, ↓s219, ↓s220, ↓s221, ↓h128, ↓h129, ↓h130, ↓h131, ↓s132, ↓h157, ↓h194, ↓h211, ↓cI_s, ↓cV_s, ↓cR_s, ↓cR_n, ↓reduceIte, ↓bI_01, ↓ro0, ↓ro1, ↓ro2, ↓ro3, ↓rol3, up3_s, up3_c, ne_eq, Nat.reduceEqDiff, Wp_s, bI_z, not_true_eq_false, not_false_eq_true, and_self, and_true, true_and, and_false, false_and, if_true, if_false, Classical.not_not, s141 (r2' _), g1, g2, show ¬ nI 1 = 0 by decide, eq_true (show nI 1 = 1 from rfl), c, up3_up3])
        · (simp only [↓m207, ↓vo0, ↓rf0_0, ↓gf0_1, ↓vo1000, ↓rf1000_0, ↓rf1000_1, ↓vo2000, ↓rf2000_0, ↓rf2000_1, ↓rf2000_2, ↓rf2000_3, ↓vo5000, ↓rf5000_0, ↓rf5000_1, ↓gf5000_2, ↓vo6000, ↓rf6000_0, ↓rf6000_1, ↓gf6000_2, ↓gf6000_3, ↓gf6000_4, ↓vo9000, ↓rf9000_0, ↓rf9000_1, ↓gf9000_2, ↓rf9000_3, ↓rf9000_4, ↓vo10000, ↓rf10000_0, ↓rf10000_1, ↓rf10000_2, ↓rf10000_3, ↓rf10000_4, ↓rf10000_5, ↓rf10000_6, ↓rf10000_7, ↓rf10000_8, ↓rf10000_9, ↓rf10000_10, ↓rf10000_11, ↓rf10000_12, ↓gf10000_13, ↓gf10000_14, ↓gf10000_15, ↓gf10000_16, ↓gf10000_17, ↓vo11000, ↓gf11000_0, ↓gf11000_1, ↓rf11000_2, ↓rf11000_3, ↓rf11000_4, ↓rf11000_5, ↓rf11000_6, ↓rf11000_7, ↓rf11000_8, ↓rf11000_9, ↓rf11000_10, ↓rf11000_11, ↓rf11000_12, ↓rf11000_13, ↓rf11000_14, ↓rf11000_15, ↓rf11000_16, ↓rf11000_17, ↓gf11000_18, ↓rf11000_19, ↓rf11000_20, ↓rf11000_21, ↓rf11000_22, ↓rf11000_23, ↓rf11000_24, ↓rf11000_25, ↓rf11000_26, ↓rf11000_27, ↓rf11000_28, ↓gf11000_29, ↓gf11000_30, ↓gf11000_31, ↓gf11000_32, ↓rf11000_33, ↓gf11000_34, ↓gf11000_35, ↓gf11000_36, ↓rf11000_37, ↓rf11000_38, ↓rf11000_39, ↓rf11000_40, ↓rf11000_41, ↓gf11000_42, ↓gf11000_43, ↓gf11000_44, ↓rf11000_45, ↓rf11000_46, ↓gf11000_47, ↓gf11000_48, ↓gf11000_49, ↓gf11000_50, ↓rf11000_51, ↓rf11000_52, ↓gf11000_53, ↓rf11000_54, ↓rf11000_55, ↓rf11000_56, ↓rf11000_57, ↓rf11000_58, ↓vo4000, ↓gf4000_0, ↓gf4000_1, ↓gf4000_2, ↓gf4000_3, ↓gf4000_4, ↓gf4000_5, ↓gf4000_6, ↓gf4000_7, ↓gf4000_8, ↓rf4000_9, ↓vo4001, ↓gf4001_0, ↓gf4001_1, ↓gf4001_2, ↓gf4001_3, ↓gf4001_4, ↓gf4001_5, ↓gf4001_6, ↓gf4001_7, ↓gf4001_8, ↓rf4001_9, ↓ga20000, ↓ga20001, ↓ga20002, ↓ga20003, ↓ga20004, ↓ga20005, ↓ga20009, ↓ga20010, ↓ga20012, ↓ga20013, ↓ga20015, ↓ga20016, ↓ga20017, ↓ga20018, ↓ga20019, ↓ga20020, ↓ga20022, ↓ga20023, ↓ga20024, ↓ga20025, ↓ga20026, ↓ga20027, ↓ga20028, ↓ga20029, ↓ga20030, ↓ga20031, ↓ga20032, ↓ga20033, ↓ga20034, ↓ga20035, ↓ga20036, ↓ga20037, ↓ga20038, ↓ga20039, ↓ga20040, ↓ga20041, ↓ga20042, ↓ga20043, ↓ga20044, ↓ga20045, ↓ga20046, ↓ga20047, ↓ga20048, ↓ga20049, ↓ga20050, ↓ga20051, ↓ga20052, ↓ga20053, ↓ga20054, ↓ga20055, ↓ga20056, ↓ga20057, ↓ga20058, ↓ga20059, ↓ga20060, ↓ga20061, ↓ga20062, ↓ga20063, ↓ga20064, ↓ga20065, ↓ga20066, ↓ga20067, ↓ga20068, ↓pf0_1, ↓pf5000_2, ↓pf6000_2, ↓pf6000_3, ↓pf6000_4, ↓pf9000_2, ↓pf10000_13, ↓pf10000_14, ↓pf10000_15, ↓pf10000_16, ↓pf10000_17, ↓pf11000_0, ↓pf11000_1, ↓pf11000_18, ↓pf11000_29, ↓pf11000_30, ↓pf11000_31, ↓pf11000_32, ↓pf11000_34, ↓pf11000_35, ↓pf11000_36, ↓pf11000_42, ↓pf11000_43, ↓pf11000_44, ↓pf11000_47, ↓pf11000_48, ↓pf11000_49, ↓pf11000_50, ↓pf11000_53, ↓pf4000_0, ↓pf4000_1, ↓pf4000_2, ↓pf4000_3, ↓pf4000_4, ↓pf4000_5, ↓pf4000_6, ↓pf4000_7, ↓pf4000_8, ↓pf4001_0, ↓pf4001_1, ↓pf4001_2, ↓pf4001_3, ↓pf4001_4, ↓pf4001_5, ↓pf4001_6, ↓pf4001_7, ↓pf4001_8, ↓sa20000, ↓sa20001, ↓sa20002, ↓sa20003, ↓sa20004, ↓sa20005, ↓sa20009, ↓sa20010, ↓sa20012, ↓sa20013, ↓sa20015, ↓sa20016, ↓sa20017, ↓sa20018, ↓sa20019, ↓sa20020, ↓sa20022, ↓sa20023, ↓sa20024, ↓sa20025, ↓sa20026, ↓sa20027, ↓sa20028, ↓sa20029, ↓sa20030, ↓sa20031, ↓sa20032, ↓sa20033, ↓sa20034, ↓sa20035, ↓sa20036, ↓sa20037, ↓sa20038, ↓sa20039, ↓sa20040, ↓sa20041, ↓sa20042, ↓sa20043, ↓sa20044, ↓sa20045, ↓sa20046, ↓sa20047, ↓sa20048, ↓sa20049, ↓sa20050, ↓sa20051, ↓sa20052, ↓sa20053, ↓sa20054, ↓sa20055, ↓sa20056, ↓sa20057, ↓sa20058, ↓sa20059, ↓sa20060, ↓sa20061, ↓sa20062, ↓sa20063, ↓sa20064, ↓sa20065, ↓sa20066, ↓sa20067, ↓sa20068, ↓s93, ↓s94, ↓s95, ↓s96, ↓s97, ↓s98, ↓s99, ↓s100, ↓s101, ↓s104, ↓s105, ↓s106, ↓s125, ↓s126, ↓s127, ↓s219, ↓s220, ↓s221, ↓h128, ↓h129, ↓h130, ↓h131, ↓s132, ↓h157, ↓h194, ↓h211, ↓cI_s, ↓cV_s, ↓cR_s, ↓cR_n, ↓reduceIte, ↓bI_01, ↓ro0, ↓ro1, ↓ro2, ↓ro3, ↓rol3, up3_s, up3_c, ne_eq, Nat.reduceEqDiff, Wp_s, bI_z, not_true_eq_false, not_false_eq_true, and_self, and_true, true_and, and_false, false_and, if_true, if_false, Classical.not_not, s141 (r2' _), g1, g2, show ¬ nI 2 = 0 by decide, show ¬ nI 2 = 1 by decide, c, up3_up3])
      rcases (show a = 0 ∨ a = 1 ∨ a = 2 by omega) with rfl | rfl | rfl
      · have q1 := cls (vF k x (G 7 i 5)) (tF k) (cA_w (cF (by omega) k1 k6) (by decide)) tl.1
        have q2 := mdl (vF k x (G 7 i 5)) (tF k) 201 (Or.inl ⟨rfl, rfl⟩) (M201 (by omega) k1 k6 hk) tl.1
        exact ⟨_, _, q1, _, _, q2, rfl, act_fin tl.1 I0⟩
      · have q1 := cls (vH k x (G 7 i 5) (G 7 i 2)) (tH k) (cA_w (cH (by omega) k1 k6 hk) (by decide)) tl.2.1
        have q2 := mdl (vH k x (G 7 i 5) (G 7 i 2)) (tH k) 203 (Or.inr (Or.inl ⟨rfl, rfl⟩)) (M203 (by omega) k1 k6 hk) tl.2.1
        exact ⟨_, _, q1, _, _, q2, rfl, act_fin tl.2.1 I0⟩
      · have q1 := cls (vS k x (G 7 i 5) (G 7 i 2) (G 7 i 0)) (tS k) (cS (by omega) k1 k6 hk) tl.2.2
        have q2 := mdl (vS k x (G 7 i 5) (G 7 i 2) (nI i)) (tS k) 206 (Or.inr (Or.inr ⟨rfl, rfl⟩)) (M206 (by omega) k1 k6 hk) tl.2.2
        rw [b1] at q1
        exact ⟨_, _, q1, _, _, q2, rfl, act_fin tl.2.2 I0⟩
    · (simp only [↓m85, ↓vo0, ↓rf0_0, ↓gf0_1, ↓vo1000, ↓rf1000_0, ↓rf1000_1, ↓vo2000, ↓rf2000_0, ↓rf2000_1, ↓rf2000_2, ↓rf2000_3, ↓vo5000, ↓rf5000_0, ↓rf5000_1, ↓gf5000_2, ↓vo6000, ↓rf6000_0, ↓rf6000_1, ↓gf6000_2, ↓gf6000_3, ↓gf6000_4, ↓vo9000, ↓rf9000_0, ↓rf9000_1, ↓gf9000_2, ↓rf9000_3, ↓rf9000_4, ↓vo10000, ↓rf10000_0, ↓rf10000_1, ↓rf10000_2, ↓rf10000_3, ↓rf10000_4, ↓rf10000_5, ↓rf10000_6, ↓rf10000_7, ↓rf10000_8, ↓rf10000_9, ↓rf10000_10, ↓rf10000_11, ↓rf10000_12, ↓gf10000_13, ↓gf10000_14, ↓gf10000_15, ↓gf10000_16, ↓gf10000_17, ↓vo11000, ↓gf11000_0, ↓gf11000_1, ↓rf11000_2, ↓rf11000_3, ↓rf11000_4, ↓rf11000_5, ↓rf11000_6, ↓rf11000_7, ↓rf11000_8, ↓rf11000_9, ↓rf11000_10, ↓rf11000_11, ↓rf11000_12, ↓rf11000_13, ↓rf11000_14, ↓rf11000_15, ↓rf11000_16, ↓rf11000_17, ↓gf11000_18, ↓rf11000_19, ↓rf11000_20, ↓rf11000_21, ↓rf11000_22, ↓rf11000_23, ↓rf11000_24, ↓rf11000_25, ↓rf11000_26, ↓rf11000_27, ↓rf11000_28, ↓gf11000_29, ↓gf11000_30, ↓gf11000_31, ↓gf11000_32, ↓rf11000_33, ↓gf11000_34, ↓gf11000_35, ↓gf11000_36, ↓rf11000_37, ↓rf11000_38, ↓rf11000_39, ↓rf11000_40, ↓rf11000_41, ↓gf11000_42, ↓gf11000_43, ↓gf11000_44, ↓rf11000_45, ↓rf11000_46, ↓gf11000_47, ↓gf11000_48, ↓gf11000_49, ↓gf11000_50, ↓rf11000_51, ↓rf11000_52, ↓gf11000_53, ↓rf11000_54, ↓rf11000_55, ↓rf11000_56, ↓rf11000_57, ↓rf11000_58, ↓vo4000, ↓gf4000_0, ↓gf4000_1, ↓gf4000_2, ↓gf4000_3, ↓gf4000_4, ↓gf4000_5, ↓gf4000_6, ↓gf4000_7, ↓gf4000_8, ↓rf4000_9, ↓vo4001, ↓gf4001_0, ↓gf4001_1, ↓gf4001_2, ↓gf4001_3, ↓gf4001_4, ↓gf4001_5, ↓gf4001_6, ↓gf4001_7, ↓gf4001_8, ↓rf4001_9, ↓ga20000, ↓ga20001, ↓ga20002, ↓ga20003, ↓ga20004, ↓ga20005, ↓ga20009, ↓ga20010, ↓ga20012, ↓ga20013, ↓ga20015, ↓ga20016, ↓ga20017, ↓ga20018, ↓ga20019, ↓ga20020, ↓ga20022, ↓ga20023, ↓ga20024, ↓ga20025, ↓ga20026, ↓ga20027, ↓ga20028, ↓ga20029, ↓ga20030, ↓ga20031, ↓ga20032, ↓ga20033, ↓ga20034, ↓ga20035, ↓ga20036, ↓ga20037, ↓ga20038, ↓ga20039, ↓ga20040, ↓ga20041, ↓ga20042, ↓ga20043, ↓ga20044, ↓ga20045, ↓ga20046, ↓ga20047, ↓ga20048, ↓ga20049, ↓ga20050, ↓ga20051, ↓ga20052, ↓ga20053, ↓ga20054, ↓ga20055, ↓ga20056, ↓ga20057, ↓ga20058, ↓ga20059, ↓ga20060, ↓ga20061, ↓ga20062, ↓ga20063, ↓ga20064, ↓ga20065, ↓ga20066, ↓ga20067, ↓ga20068, ↓pf0_1, ↓pf5000_2, ↓pf6000_2, ↓pf6000_3, ↓pf6000_4, ↓pf9000_2, ↓pf10000_13, ↓pf10000_14, ↓pf10000_15, ↓pf10000_16, ↓pf10000_17, ↓pf11000_0, ↓pf11000_1, ↓pf11000_18, ↓pf11000_29, ↓pf11000_30, ↓pf11000_31, ↓pf11000_32, ↓pf11000_34, ↓pf11000_35, ↓pf11000_36, ↓pf11000_42, ↓pf11000_43, ↓pf11000_44, ↓pf11000_47, ↓pf11000_48, ↓pf11000_49, ↓pf11000_50, ↓pf11000_53, ↓pf4000_0, ↓pf4000_1, ↓pf4000_2, ↓pf4000_3, ↓pf4000_4, ↓pf4000_5, ↓pf4000_6, ↓pf4000_7, ↓pf4000_8, ↓pf4001_0, ↓pf4001_1, ↓pf4001_2, ↓pf4001_3, ↓pf4001_4, ↓pf4001_5, ↓pf4001_6, ↓pf4001_7, ↓pf4001_8, ↓sa20000, ↓sa20001, ↓sa20002, ↓sa20003, ↓sa20004, ↓sa20005, ↓sa20009, ↓sa20010, ↓sa20012, ↓sa20013, ↓sa20015, ↓sa20016, ↓sa20017, ↓sa20018, ↓sa20019, ↓sa20020, ↓sa20022, ↓sa20023, ↓sa20024, ↓sa20025, ↓sa20026, ↓sa20027, ↓sa20028, ↓sa20029, ↓sa20030, ↓sa20031, ↓sa20032, ↓sa20033, ↓sa20034, ↓sa20035, ↓sa20036, ↓sa20037, ↓sa20038, ↓sa20039, ↓sa20040, ↓sa20041, ↓sa20042, ↓sa20043, ↓sa20044, ↓sa20045, ↓sa20046, ↓sa20047, ↓sa20048, ↓sa20049, ↓sa20050, ↓sa20051, ↓sa20052, ↓sa20053, ↓sa20054, ↓sa20055, ↓sa20056, ↓sa20057, ↓sa20058, ↓sa20059, ↓sa20060, ↓sa20061, ↓sa20062, ↓sa20063, ↓sa20064, ↓sa20065, ↓sa20066, ↓sa20067, ↓sa20068, ↓s93, ↓s94, ↓s95, ↓s96, ↓s97, ↓s98, ↓s99, ↓s100, ↓s101, ↓s104, ↓s105, ↓s106, ↓s125, ↓s126, ↓s127, ↓s219, ↓s220, ↓s221, ↓h128, ↓h129, ↓h130, ↓h131, ↓s132, ↓h157, ↓h194, ↓h211, ↓cI_s, ↓cV_s, ↓cR_s, ↓cR_n, ↓reduceIte, ↓bI_01, ↓ro0, ↓ro1, ↓ro2, ↓ro3, ↓rol3, up3_s, up3_c, ne_eq, Nat.reduceEqDiff, Wp_s, bI_z, not_true_eq_false, not_false_eq_true, and_self, and_true, true_and, and_false, false_and, if_true, if_false, Classical.not_not, s102 r1', s141 (r2' _), g1, g2]; simp only [↓m207, ↓vo0, ↓rf0_0, ↓gf0_1, ↓vo1000, ↓rf1000_0, ↓rf1000_1, ↓vo2000, ↓rf2000_0, ↓rf2000_1, ↓rf2000_2, ↓rf2000_3, ↓vo5000, ↓rf5000_0, ↓rf5000_1, ↓gf5000_2, ↓vo6000, ↓rf6000_0, ↓rf6000_1, ↓gf6000_2, ↓gf6000_3, ↓gf6000_4, ↓vo9000, ↓rf9000_0, ↓rf9000_1, ↓gf9000_2, ↓rf9000_3, ↓rf9000_4, ↓vo10000, ↓rf10000_0, ↓rf10000_1, ↓rf10000_2, ↓rf10000_3, ↓rf10000_4, ↓rf10000_5, ↓rf10000_6, ↓rf10000_7, ↓rf10000_8, ↓rf10000_9, ↓rf10000_10, ↓rf10000_11, ↓rf10000_12, ↓gf10000_13, ↓gf10000_14, ↓gf10000_15, ↓gf10000_16, ↓gf10000_17, ↓vo11000, ↓gf11000_0, ↓gf11000_1, ↓rf11000_2, ↓rf11000_3, ↓rf11000_4, ↓rf11000_5, ↓rf11000_6, ↓rf11000_7, ↓rf11000_8, ↓rf11000_9, ↓rf11000_10, ↓rf11000_11, ↓rf11000_12, ↓rf11000_13, ↓rf11000_14, ↓rf11000_15, ↓rf11000_16, ↓rf11000_17, ↓gf11000_18, ↓rf11000_19, ↓rf11000_20, ↓rf11000_21, ↓rf11000_22, ↓rf11000_23, ↓rf11000_24, ↓rf11000_25, ↓rf11000_26, ↓rf11000_27, ↓rf11000_28, ↓gf11000_29, ↓gf11000_30, ↓gf11000_31, ↓gf11000_32, ↓rf11000_33, ↓gf11000_34, ↓gf11000_35, ↓gf11000_36, ↓rf11000_37, ↓rf11000_38, ↓rf11000_39, ↓rf11000_40, ↓rf11000_41, ↓gf11000_42, ↓gf11000_43, ↓gf11000_44, ↓rf11000_45, ↓rf11000_46, ↓gf11000_47, ↓gf11000_48, ↓gf11000_49, ↓gf11000_50, ↓rf11000_51, ↓rf11000_52, ↓gf11000_53, ↓rf11000_54, ↓rf11000_55, ↓rf11000_56, ↓rf11000_57, ↓rf11000_58, ↓vo4000, ↓gf4000_0, ↓gf4000_1, ↓gf4000_2, ↓gf4000_3, ↓gf4000_4, ↓gf4000_5, ↓gf4000_6, ↓gf4000_7, ↓gf4000_8, ↓rf4000_9, ↓vo4001, ↓gf4001_0, ↓gf4001_1, ↓gf4001_2, ↓gf4001_3, ↓gf4001_4, ↓gf4001_5, ↓gf4001_6, ↓gf4001_7, ↓gf4001_8, ↓rf4001_9, ↓ga20000, ↓ga20001, ↓ga20002, ↓ga20003, ↓ga20004, ↓ga20005, ↓ga20009, ↓ga20010, ↓ga20012, ↓ga20013, ↓ga20015, ↓ga20016, ↓ga20017, ↓ga20018, ↓ga20019, ↓ga20020, ↓ga20022, ↓ga20023, ↓ga20024, ↓ga20025, ↓ga20026, ↓ga20027, ↓ga20028, ↓ga20029, ↓ga20030, ↓ga20031, ↓ga20032, ↓ga20033, ↓ga20034, ↓ga20035, ↓ga20036, ↓ga20037, ↓ga20038, ↓ga20039, ↓ga20040, ↓ga20041, ↓ga20042, ↓ga20043, ↓ga20044, ↓ga20045, ↓ga20046, ↓ga20047, ↓ga20048, ↓ga20049, ↓ga20050, ↓ga20051, ↓ga20052, ↓ga20053, ↓ga20054, ↓ga20055, ↓ga20056, ↓ga20057, ↓ga20058, ↓ga20059, ↓ga20060, ↓ga20061, ↓ga20062, ↓ga20063, ↓ga20064, ↓ga20065, ↓ga20066, ↓ga20067, ↓ga20068, ↓pf0_1, ↓pf5000_2, ↓pf6000_2, ↓pf6000_3, ↓pf6000_4, ↓pf9000_2, ↓pf10000_13, ↓pf10000_14, ↓pf10000_15, ↓pf10000_16, ↓pf10000_17, ↓pf11000_0, ↓pf11000_1, ↓pf11000_18, ↓pf11000_29, ↓pf11000_30, ↓pf11000_31, ↓pf11000_32, ↓pf11000_34, ↓pf11000_35, ↓pf11000_36, ↓pf11000_42, ↓pf11000_43, ↓pf11000_44, ↓pf11000_47, ↓pf11000_48, ↓pf11000_49, ↓pf11000_50, ↓pf11000_53, ↓pf4000_0, ↓pf4000_1, ↓pf4000_2, ↓pf4000_3, ↓pf4000_4, ↓pf4000_5, ↓pf4000_6, ↓pf4000_7, ↓pf4000_8, ↓pf4001_0, ↓pf4001_1, ↓pf4001_2, ↓pf4001_3, ↓pf4001_4, ↓pf4001_5, ↓pf4001_6, ↓pf4001_7, ↓pf4001_8, ↓sa20000, ↓sa20001, ↓sa20002, ↓sa20003, ↓sa20004, ↓sa20005, ↓sa20009, ↓sa20010, ↓sa20012, ↓sa20013, ↓sa20015, ↓sa20016, ↓sa20017, ↓sa20018, ↓sa20019, ↓sa20020, ↓sa20022, ↓sa20023, ↓sa20024, ↓sa20025, ↓sa20026, ↓sa20027, ↓sa20028, ↓sa20029, ↓sa20030, ↓sa20031, ↓sa20032, ↓sa20033, ↓sa20034, ↓sa20035, ↓sa20036, ↓sa20037, ↓sa20038, ↓sa20039, ↓sa20040, ↓sa20041, ↓sa20042, ↓sa20043, ↓sa20044, ↓sa20045, ↓sa20046, ↓sa20047, ↓sa20048, ↓sa20049, ↓sa20050, ↓sa20051, ↓sa20052, ↓sa20053, ↓sa20054, ↓sa20055, ↓sa20056, ↓sa20057, ↓sa20058, ↓sa20059, ↓sa20060, ↓sa20061, ↓sa20062, ↓sa20063, ↓sa20064, ↓sa20065, ↓sa20066, ↓sa20067, ↓sa20068, ↓s93, ↓s94, ↓s95, ↓s96, ↓s97, ↓s98, ↓s99, ↓s100, ↓s101, ↓s104, ↓s105, ↓s106, ↓s125, ↓s126, ↓s127, ↓s219, ↓s220, ↓s221, ↓h128, ↓h129, ↓h130, ↓h131, ↓s132, ↓h157, ↓h194, ↓h211, ↓cI_s, ↓cV_s, ↓cR_s, ↓cR_n, ↓reduceIte, ↓bI_01, ↓ro0, ↓ro1, ↓ro2, ↓ro3, ↓rol3, up3_s, up3_c, ne_eq, Nat.reduceEqDiff, Wp_s, bI_z, not_true_eq_false, not_false_eq_true, and_self, and_true, true_and, and_false, false_and, if_true, if_false, Classical.not_not, s102 r1', s141 (r2' _), g1, g2])
      exact bad
  · (simp only [↓m85, ↓vo0, ↓rf0_0, ↓gf0_1, ↓vo1000, ↓rf1000_0, ↓rf1000_1, ↓vo2000, ↓rf2000_0, ↓rf2000_1, ↓rf2000_2, ↓rf2000_3, ↓vo5000, ↓rf5000_0, ↓rf5000_1, ↓gf5000_2, ↓vo6000, ↓rf6000_0, ↓rf6000_1, ↓gf6000_2, ↓gf6000_3, ↓gf6000_4, ↓vo9000, ↓rf9000_0, ↓rf9000_1, ↓gf9000_2, ↓rf9000_3, ↓rf9000_4, ↓vo10000, ↓rf10000_0, ↓rf10000_1, ↓rf10000_2, ↓rf10000_3, ↓rf10000_4, ↓rf10000_5, ↓rf10000_6, ↓rf10000_7, ↓rf10000_8, ↓rf10000_9, ↓rf10000_10, ↓rf10000_11, ↓rf10000_12, ↓gf10000_13, ↓gf10000_14, ↓gf10000_15, ↓gf10000_16, ↓gf10000_17, ↓vo11000, ↓gf11000_0, ↓gf11000_1, ↓rf11000_2, ↓rf11000_3, ↓rf11000_4, ↓rf11000_5, ↓rf11000_6, ↓rf11000_7, ↓rf11000_8, ↓rf11000_9, ↓rf11000_10, ↓rf11000_11, ↓rf11000_12, ↓rf11000_13, ↓rf11000_14, ↓rf11000_15, ↓rf11000_16, ↓rf11000_17, ↓gf11000_18, ↓rf11000_19, ↓rf11000_20, ↓rf11000_21, ↓rf11000_22, ↓rf11000_23, ↓rf11000_24, ↓rf11000_25, ↓rf11000_26, ↓rf11000_27, ↓rf11000_28, ↓gf11000_29, ↓gf11000_30, ↓gf11000_31, ↓gf11000_32, ↓rf11000_33, ↓gf11000_34, ↓gf11000_35, ↓gf11000_36, ↓rf11000_37, ↓rf11000_38, ↓rf11000_39, ↓rf11000_40, ↓rf11000_41, ↓gf11000_42, ↓gf11000_43, ↓gf11000_44, ↓rf11000_45, ↓rf11000_46, ↓gf11000_47, ↓gf11000_48, ↓gf11000_49, ↓gf11000_50, ↓rf11000_51, ↓rf11000_52, ↓gf11000_53, ↓rf11000_54, ↓rf11000_55, ↓rf11000_56, ↓rf11000_57, ↓rf11000_58, ↓vo4000, ↓gf4000_0, ↓gf4000_1, ↓gf4000_2, ↓gf4000_3, ↓gf4000_4, ↓gf4000_5, ↓gf4000_6, ↓gf4000_7, ↓gf4000_8, ↓rf4000_9, ↓vo4001, ↓gf4001_0, ↓gf4001_1, ↓gf4001_2, ↓gf4001_3, ↓gf4001_4, ↓gf4001_5, ↓gf4001_6, ↓gf4001_7, ↓gf4001_8, ↓rf4001_9, ↓ga20000, ↓ga20001, ↓ga20002, ↓ga20003, ↓ga20004, ↓ga20005, ↓ga20009, ↓ga20010, ↓ga20012, ↓ga20013, ↓ga20015, ↓ga20016, ↓ga20017, ↓ga20018, ↓ga20019, ↓ga20020, ↓ga20022, ↓ga20023, ↓ga20024, ↓ga20025, ↓ga20026, ↓ga20027, ↓ga20028, ↓ga20029, ↓ga20030, ↓ga20031, ↓ga20032, ↓ga20033, ↓ga20034, ↓ga20035, ↓ga20036, ↓ga20037, ↓ga20038, ↓ga20039, ↓ga20040, ↓ga20041, ↓ga20042, ↓ga20043, ↓ga20044, ↓ga20045, ↓ga20046, ↓ga20047, ↓ga20048, ↓ga20049, ↓ga20050, ↓ga20051, ↓ga20052, ↓ga20053, ↓ga20054, ↓ga20055, ↓ga20056, ↓ga20057, ↓ga20058, ↓ga20059, ↓ga20060, ↓ga20061, ↓ga20062, ↓ga20063, ↓ga20064, ↓ga20065, ↓ga20066, ↓ga20067, ↓ga20068, ↓pf0_1, ↓pf5000_2, ↓pf6000_2, ↓pf6000_3, ↓pf6000_4, ↓pf9000_2, ↓pf10000_13, ↓pf10000_14, ↓pf10000_15, ↓pf10000_16, ↓pf10000_17, ↓pf11000_0, ↓pf11000_1, ↓pf11000_18, ↓pf11000_29, ↓pf11000_30, ↓pf11000_31, ↓pf11000_32, ↓pf11000_34, ↓pf11000_35, ↓pf11000_36, ↓pf11000_42, ↓pf11000_43, ↓pf11000_44, ↓pf11000_47, ↓pf11000_48, ↓pf11000_49, ↓pf11000_50, ↓pf11000_53, ↓pf4000_0, ↓pf4000_1, ↓pf4000_2, ↓pf4000_3, ↓pf4000_4, ↓pf4000_5, ↓pf4000_6, ↓pf4000_7, ↓pf4000_8, ↓pf4001_0, ↓pf4001_1, ↓pf4001_2, ↓pf4001_3, ↓pf4001_4, ↓pf4001_5, ↓pf4001_6, ↓pf4001_7, ↓pf4001_8, ↓sa20000, ↓sa20001, ↓sa20002, ↓sa20003, ↓sa20004, ↓sa20005, ↓sa20009, ↓sa20010, ↓sa20012, ↓sa20013, ↓sa20015, ↓sa20016, ↓sa20017, ↓sa20018, ↓sa20019, ↓sa20020, ↓sa20022, ↓sa20023, ↓sa20024, ↓sa20025, ↓sa20026, ↓sa20027, ↓sa20028, ↓sa20029, ↓sa20030, ↓sa20031, ↓sa20032, ↓sa20033, ↓sa20034, ↓sa20035, ↓sa20036, ↓sa20037, ↓sa20038, ↓sa20039, ↓sa20040, ↓sa20041, ↓sa20042, ↓sa20043, ↓sa20044, ↓sa20045, ↓sa20046, ↓sa20047, ↓sa20048, ↓sa20049, ↓sa20050, ↓sa20051, ↓sa20052, ↓sa20053, ↓sa20054, ↓sa20055, ↓sa20056, ↓sa20057, ↓sa20058, ↓sa20059, ↓sa20060, ↓sa20061, ↓sa20062, ↓sa20063, ↓sa20064, ↓sa20065, ↓sa20066, ↓sa20067, ↓sa20068, ↓s93, ↓s94, ↓s95, ↓s96, ↓s97, ↓s98, ↓s99, ↓s100, ↓s101, ↓s104, ↓s105, ↓s106, ↓s125, ↓s126, ↓s127, ↓s219, ↓s220, ↓s221, ↓h128, ↓h129, ↓h130, ↓h131, ↓s132, ↓h157, ↓h194, ↓h211, ↓cI_s, ↓cV_s, ↓cR_s, ↓cR_n, ↓reduceIte, ↓bI_01, ↓ro0, ↓ro1, ↓ro2, ↓ro3, ↓rol3, up3_s, up3_c, ne_eq, Nat.reduceEqDiff, Wp_s, bI_z, not_true_eq_false, not_false_eq_true, and_self, and_true, true_and, and_false, false_and, if_true, if_false, Classical.not_not, s102 r1', s141 (r2' _), g1]; simp only [↓m207, ↓vo0, ↓rf0_0, ↓gf0_1, ↓vo1000, ↓rf1000_0, ↓rf1000_1, ↓vo2000, ↓rf2000_0, ↓rf2000_1, ↓rf2000_2, ↓rf2000_3, ↓vo5000, ↓rf5000_0, ↓rf5000_1, ↓gf5000_2, ↓vo6000, ↓rf6000_0, ↓rf6000_1, ↓gf6000_2, ↓gf6000_3, ↓gf6000_4, ↓vo9000, ↓rf9000_0, ↓rf9000_1, ↓gf9000_2, ↓rf9000_3, ↓rf9000_4, ↓vo10000, ↓rf10000_0, ↓rf10000_1, ↓rf10000_2, ↓rf10000_3, ↓rf10000_4, ↓rf10000_5, ↓rf10000_6, ↓rf10000_7, ↓rf10000_8, ↓rf10000_9, ↓rf10000_10, ↓rf10000_11, ↓rf10000_12, ↓gf10000_13, ↓gf10000_14, ↓gf10000_15, ↓gf10000_16, ↓gf10000_17, ↓vo11000, ↓gf11000_0, ↓gf11000_1, ↓rf11000_2, ↓rf11000_3, ↓rf11000_4, ↓rf11000_5, ↓rf11000_6, ↓rf11000_7, ↓rf11000_8, ↓rf11000_9, ↓rf11000_10, ↓rf11000_11, ↓rf11000_12, ↓rf11000_13, ↓rf11000_14, ↓rf11000_15, ↓rf11000_16, ↓rf11000_17, ↓gf11000_18, ↓rf11000_19, ↓rf11000_20, ↓rf11000_21, ↓rf11000_22, ↓rf11000_23, ↓rf11000_24, ↓rf11000_25, ↓rf11000_26, ↓rf11000_27, ↓rf11000_28, ↓gf11000_29, ↓gf11000_30, ↓gf11000_31, ↓gf11000_32, ↓rf11000_33, ↓gf11000_34, ↓gf11000_35, ↓gf11000_36, ↓rf11000_37, ↓rf11000_38, ↓rf11000_39, ↓rf11000_40, ↓rf11000_41, ↓gf11000_42, ↓gf11000_43, ↓gf11000_44, ↓rf11000_45, ↓rf11000_46, ↓gf11000_47, ↓gf11000_48, ↓gf11000_49, ↓gf11000_50, ↓rf11000_51, ↓rf11000_52, ↓gf11000_53, ↓rf11000_54, ↓rf11000_55, ↓rf11000_56, ↓rf11000_57, ↓rf11000_58, ↓vo4000, ↓gf4000_0, ↓gf4000_1, ↓gf4000_2, ↓gf4000_3, ↓gf4000_4, ↓gf4000_5, ↓gf4000_6, ↓gf4000_7, ↓gf4000_8, ↓rf4000_9, ↓vo4001, ↓gf4001_0, ↓gf4001_1, ↓gf4001_2, ↓gf4001_3, ↓gf4001_4, ↓gf4001_5, ↓gf4001_6, ↓gf4001_7, ↓gf4001_8, ↓rf4001_9, ↓ga20000, ↓ga20001, ↓ga20002, ↓ga20003, ↓ga20004, ↓ga20005, ↓ga20009, ↓ga20010, ↓ga20012, ↓ga20013, ↓ga20015, ↓ga20016, ↓ga20017, ↓ga20018, ↓ga20019, ↓ga20020, ↓ga20022, ↓ga20023, ↓ga20024, ↓ga20025, ↓ga20026, ↓ga20027, ↓ga20028, ↓ga20029, ↓ga20030, ↓ga20031, ↓ga20032, ↓ga20033, ↓ga20034, ↓ga20035, ↓ga20036, ↓ga20037, ↓ga20038, ↓ga20039, ↓ga20040, ↓ga20041, ↓ga20042, ↓ga20043, ↓ga20044, ↓ga20045, ↓ga20046, ↓ga20047, ↓ga20048, ↓ga20049, ↓ga20050, ↓ga20051, ↓ga20052, ↓ga20053, ↓ga20054, ↓ga20055, ↓ga20056, ↓ga20057, ↓ga20058, ↓ga20059, ↓ga20060, ↓ga20061, ↓ga20062, ↓ga20063, ↓ga20064, ↓ga20065, ↓ga20066, ↓ga20067, ↓ga20068, ↓pf0_1, ↓pf5000_2, ↓pf6000_2, ↓pf6000_3, ↓pf6000_4, ↓pf9000_2, ↓pf10000_13, ↓pf10000_14, ↓pf10000_15, ↓pf10000_16, ↓pf10000_17, ↓pf11000_0, ↓pf11000_1, ↓pf11000_18, ↓pf11000_29, ↓pf11000_30, ↓pf11000_31, ↓pf11000_32, ↓pf11000_34, ↓pf11000_35, ↓pf11000_36, ↓pf11000_42, ↓pf11000_43, ↓pf11000_44, ↓pf11000_47, ↓pf11000_48, ↓pf11000_49, ↓pf11000_50, ↓pf11000_53, ↓pf4000_0, ↓pf4000_1, ↓pf4000_2, ↓pf4000_3, ↓pf4000_4, ↓pf4000_5, ↓pf4000_6, ↓pf4000_7, ↓pf4000_8, ↓pf4001_0, ↓pf4001_1, ↓pf4001_2, ↓pf4001_3, ↓pf4001_4, ↓pf4001_5, ↓pf4001_6, ↓pf4001_7, ↓pf4001_8, ↓sa20000, ↓sa20001, ↓sa20002, ↓sa20003, ↓sa20004, ↓sa20005, ↓sa20009, ↓sa20010, ↓sa20012, ↓sa20013, ↓sa20015, ↓sa20016, ↓sa20017, ↓sa20018, ↓sa20019, ↓sa20020, ↓sa20022, ↓sa20023, ↓sa20024, ↓sa20025, ↓sa20026, ↓sa20027, ↓sa20028, ↓sa20029, ↓sa20030, ↓sa20031, ↓sa20032, ↓sa20033, ↓sa20034, ↓sa20035, ↓sa20036, ↓sa20037, ↓sa20038, ↓sa20039, ↓sa20040, ↓sa20041, ↓sa20042, ↓sa20043, ↓sa20044, ↓sa20045, ↓sa20046, ↓sa20047, ↓sa20048, ↓sa20049, ↓sa20050, ↓sa20051, ↓sa20052, ↓sa20053, ↓sa20054, ↓sa20055, ↓sa20056, ↓sa20057, ↓sa20058, ↓sa20059, ↓sa20060, ↓sa20061, ↓sa20062, ↓sa20063, ↓sa20064, ↓sa20065, ↓sa20066, ↓sa20067, ↓sa20068, ↓s93, ↓s94, ↓s95, ↓s96, ↓s97, ↓s98, ↓s99, ↓s100, ↓s101, ↓s104, ↓s105, ↓s106, ↓s125, ↓s126, ↓s127, ↓s219, ↓s220, ↓s221, ↓h128, ↓h129, ↓h130, ↓h131, ↓s132, ↓h157, ↓h194, ↓h211, ↓cI_s, ↓cV_s, ↓cR_s, ↓cR_n, ↓reduceIte, ↓bI_01, ↓ro0, ↓ro1, ↓ro2, ↓ro3, ↓rol3, up3_s, up3_c, ne_eq, Nat.reduceEqDiff, Wp_s, bI_z, not_true_eq_false, not_false_eq_true, and_self, and_true, true_and, and_false, false_and, if_true, if_false, Classical.not_not, s102 r1', s141 (r2' _), g1])
    exact bad
end ACT2
