/-! THE CLASS reads a text -/
/-- the reader stands at a place, with a FAULT or not -/
def RS (G : Mat) (p : Nat) (f : Int32) : Mat := upr G 6 0 (fun j => if j = 3 then nI p else if j = 4 then f else G 6 0 j)
theorem RS_3 {G : Mat} {p : Nat} {f : Int32} : RS G p f 6 0 3 = nI p := rfl
theorem RS_4 {G : Mat} {p : Nat} {f : Int32} : RS G p f 6 0 4 = f := rfl
theorem RS_2 {G : Mat} {p : Nat} {f : Int32} : RS G p f 6 0 2 = G 6 0 2 := rfl
theorem RS_u3 {G : Mat} {p q : Nat} {f : Int32} : up3 (RS G p f) 6 0 3 (nI q) = RS G q f := by
  unfold RS
  rw [up3_upr]
  refine congrArg (upr G 6 0) (funext fun j => ?_)
  unfold upd
  by_cases h : j = 3
  · subst h
    rfl
  · rw [if_neg h]
    simp only [if_neg h]
theorem RS_u4 {G : Mat} {p : Nat} {f g : Int32} : up3 (RS G p f) 6 0 4 g = RS G p g := by
  unfold RS
  rw [up3_upr]
  refine congrArg (upr G 6 0) (funext fun j => ?_)
  unfold upd
  by_cases h : j = 4
  · subst h
    rfl
  · rw [if_neg h]
    simp only [if_neg h]
theorem RS_i {G : Mat} : up3 (up3 G 6 0 3 0) 6 0 4 0 = RS G 0 0 := by
  unfold RS
  rw [up3_e, up3_r, up3_e, upr_s]
  refine congrArg (upr G 6 0) (funext fun j => ?_)
  unfold upd
  by_cases h : j = 4
  · rw [if_pos h, if_neg (by omega), if_pos h]
  · rw [if_neg h]
    by_cases h3 : j = 3
    · rw [if_pos h3, if_pos h3]
      rfl
    · rw [if_neg h3, if_neg h3, if_neg h]
/-- the class's reader holds a text t of n bytes -/
def CX6 (L : Nat) (xs : Nat → Int32) (A G : Mat) (e : Ev) (n : Nat) (t : Nat → Nat) : Prop := G 6 0 2 = nI n ∧ n ≤ 80 ∧ (∀ p, p < n → t p < 256) ∧ ∀ (G' : Mat) (i : Nat) (K : Int32 → PR), i < n → aI (roL L xs) (HH A G' e) (eT e) 0 (nI i) K = K (nI (t i))
def cP (A G : Mat) (e : Ev) (r : PR) : PO → Prop
  | .inl q => ∃ w : Bool, r = some (some (.int (bB w)), HH A (RS G q 1) e)
  | .inr (q, v) => r = some (some (.int (bB (v (A 20015 0)))), HH A (RS G q 0) e)
theorem cP_mo {A G : Mat} {e : Ev} {r r' : PR} (h : ∀ z, r = some z → r' = some z) : ∀ {o : PO}, cP A G e r o → cP A G e r' o
  | .inl _, ⟨w, h1⟩ => ⟨w, h _ h1⟩
  | .inr (_, _), h1 => h _ h1
def lsr (c : Int32) : Nat → Nat → Int32
  | 0, _ => -1
  | r + 1, i => if c_letters i = c then nI i else lsr c r (i + 1)
theorem lsr_lo : ∀ v, v < 128 → lsr (nI v) 9 0 = oI (ltr v) := by decide +kernel
theorem lsr_hi : ∀ b, b < 256 → 128 ≤ b → lsr (nI b) 9 0 = -1 := by decide +kernel
theorem lsr_k {n : Nat} {t : Nat → Nat} (ht : ∀ p, p < n → t p < 256) (p : Nat) : lsr (cch t n p) 9 0 = oI (ltr (kch t n p)) := by
  rcases ch_c ht p with ⟨v, hv, h1, h2, -⟩ | ⟨h1, h2, -⟩
  · rw [h1, h2, lsr_lo v hv]
  · rw [h1, show oI (ltr 200) = -1 by decide]
    rcases h2 with h2 | ⟨b, hb, hb2, h2⟩
    · rw [h2]
      decide
    · rw [h2, lsr_hi b hb2 hb]
section READ
variable {A G : Mat} {e : Ev} {L : Nat} {xs : Nat → Int32} {N d n : Nat} {t : Nat → Nat}
theorem s23 (cx : CX6 L xs A G e n t) {p : Nat} (hp : p ≤ n) : CALL (roL L xs) mP mL (N + 5050) (d + 1) 23 [.ref 6000] (HH A (RS G p 0) e) = some (some (.int (cch t n p)), HH A (RS G p 0) e) := by
  obtain ⟨c1, c2, c3, c4⟩ := cx
  rw [m23, gf6000_4, RS_4, if_pos rfl, gf6000_3, RS_3, gf6000_2, RS_2, c1]
  unfold cch
  by_cases h : p < n
  · rw [if_pos (nI_lt h (by omega)), rf6000_1, gf6000_3, RS_3, c4 _ _ _ h, if_pos h]
  · rw [if_neg (nI_nlt (by omega) (by omega)), if_neg h]
theorem s23f {p : Nat} : CALL (roL L xs) mP mL (N + 5050) (d + 1) 23 [.ref 6000] (HH A (RS G p 1) e) = some (some (.int (-1)), HH A (RS G p 1) e) := by
  rw [m23, gf6000_4, RS_4, if_neg (by decide)]
theorem w28 (cx : CX6 L xs A G e n t) : ∀ (i dg p : Nat) (a : Int32), dg + i = 3 → 1 ≤ dg → p ≤ n → EXn (roL L xs) p28 (CALL (roL L xs) mP mL (N + 5050) (d + 1)) (3 * (i + 1)) 4 [some (.ref 6000), some (.int (nI dg)), some (.int a)] [] (HH A (RS G p 0) e) = some (some (.int (nmF (kch t n) i p a).2), HH A (RS G (nmF (kch t n) i p a).1 0) e)
  | 0, dg, p, a, h1, h2, hp => by
    refine EXs_le (S := [4]) (n := 0) 3 4 _ _ _ ?_
    have : dg = 3 := by omega
    subst this
    rw [l28_4, if_neg (show ¬ nI 3 < 3 by decide), if_neg (show ¬ nI 3 = 0 by decide)]
    rfl
  | i + 1, dg, p, a, h1, h2, hp => by
    refine EXs_le (S := [4]) (n := 3 * (i + 1)) 3 4 _ _ _ ?_
    have ht := cx.2.2.1
    have d0 : ¬ nI dg = 0 := nI_ne0 (by omega) (by omega)
    rw [l28_4, if_pos (show nI dg < 3 from nI_lt (b := 3) (by omega) (by decide)), vo6000, s23 cx hp, cI_s]
    by_cases c1 : cch t n p < 48
    · have c3 : ¬ (48 ≤ kch t n p ∧ kch t n p ≤ 57) := fun q => ((cchD ht).mpr q).1 c1
      rw [if_pos c1, if_neg d0, nmF, if_neg c3]
    · rw [if_neg c1, vo6000, s23 cx hp, cI_s]
      by_cases c2 : 57 < cch t n p
      · have c3 : ¬ (48 ≤ kch t n p ∧ kch t n p ≤ 57) := fun q => ((cchD ht).mpr q).2 c2
        rw [if_pos c2, if_neg d0, nmF, if_neg c3]
      · have c3 := (cchD ht).mp ⟨c1, c2⟩
        have hpn : p < n := lt_of_k kch_n (rfl : kch t n p = _) (by omega)
        rw [if_neg c2, vo6000, s23 cx hp, cI_s, gf6000_3, RS_3, nI_1 p, pf6000_3, RS_u3, nI_1 dg, (dgC ht c3).1, nmF, if_pos c3]
        exact w28 cx i (dg + 1) (p + 1) _ (by omega) (by omega) (by omega)
theorem s28t (cx : CX6 L xs A G e n t) {p : Nat} (hp : p ≤ n) (c3 : 48 ≤ kch t n p ∧ kch t n p ≤ 57) : CALL (roL L xs) mP mL (N + 5050) (d + 2) 28 [.ref 6000] (HH A (RS G p 0) e) = some (some (.int (nmF (kch t n) 3 p 0).2), HH A (RS G (nmF (kch t n) 3 p 0).1 0) e) := by
  have ht := cx.2.2.1
  have hpn : p < n := lt_of_k kch_n (rfl : kch t n p = _) (by omega)
  obtain ⟨c1, c2⟩ := (cchD ht).mpr c3
  have w := w28 (d := d) (N := N) cx 2 1 (p + 1) (((10 * 0) + nI (kch t n p)) - 48) (by omega) (by omega) (by omega)
  refine m28 (9 + 3) (by omega) ?_
  rw [x28]
  refine EXs_le (S := [4]) (n := 9) 3 4 _ _ _ ?_
  rw [l28_4, if_pos (show (0 : Int32) < 3 by decide), vo6000, s23 cx hp, cI_s, if_neg c1, vo6000, s23 cx hp, cI_s, if_neg c2, vo6000, s23 cx hp, cI_s, gf6000_3, RS_3, nI_1 p, pf6000_3, RS_u3, (dgC ht c3).1, nmF, if_pos c3]
  exact w
theorem s28f (cx : CX6 L xs A G e n t) {p : Nat} (hp : p ≤ n) (c3 : ¬ (48 ≤ kch t n p ∧ kch t n p ≤ 57)) : CALL (roL L xs) mP mL (N + 5050) (d + 2) 28 [.ref 6000] (HH A (RS G p 0) e) = some (some (.int 0), HH A (RS G p 1) e) := by
  have ht := cx.2.2.1
  refine m28 (0 + 3) (by omega) ?_
  rw [x28]
  refine EXs_le (S := [4]) (n := 0) 3 4 _ _ _ ?_
  rw [l28_4, if_pos (show (0 : Int32) < 3 by decide), vo6000, s23 cx hp, cI_s]
  by_cases c1 : cch t n p < 48
  · rw [if_pos c1, if_pos rfl, pf6000_4, RS_u4]
  · rw [if_neg c1, vo6000, s23 cx hp, cI_s]
    by_cases c2 : 57 < cch t n p
    · rw [if_pos c2, if_pos rfl, pf6000_4, RS_u4]
    · exact absurd ((cchD ht).mp ⟨c1, c2⟩) c3
theorem w29 {h : PH} {C : Nat → List Value → PH → PR} {c : Int32} : ∀ (r i : Nat), i + r = 9 → EXn (roL L xs) p29 C (2 * (r + 1)) 2 [some (.int c), some (.int (nI i))] [] h = some (some (.int (lsr c r i)), h)
  | 0, i, hi => by
    refine EXs_le (S := [2]) (n := 0) 2 2 _ _ _ ?_
    have : i = 9 := by omega
    subst this
    rw [l29_2, rol3, if_neg (show ¬ nI 9 < 9 by decide)]
    rfl
  | r + 1, i, hi => by
    refine EXs_le (S := [2]) (n := 2 * (r + 1)) 2 2 _ _ _ ?_
    rw [l29_2, rol3, if_pos (show nI i < 9 from nI_lt (b := 9) (by omega) (by decide)), ro3, ib_n (show i < 9 by omega) (by decide), nI_clamp (by omega), lsr]
    by_cases h1 : c_letters i = c
    · rw [if_pos h1, if_pos h1]
    · rw [if_neg h1, if_neg h1, nI_1 i]
      exact w29 r (i + 1) (by omega)
theorem s29 {h : PH} {c : Int32} : CALL (roL L xs) mP mL (N + 5050) (d + 1) 29 [.int c] h = some (some (.int (lsr c 9 0)), h) := by
  refine m29 (2 * (9 + 1)) (by omega) ?_
  rw [x29]
  exact w29 9 0 (by omega)
/-- how a comparison comes out -/
theorem s216 {h : PH} {a b : Int32} : CALL (roL L xs) mP mL (N + 5050) (d + 1) 216 [.int a, .int b] h = some (some (.int (if a < b then -1 else if a = b then 0 else 1)), h) := by
  rw [m216]
  by_cases h1 : a < b
  · rw [if_pos h1, if_pos h1]
  · rw [if_neg h1, if_neg h1]
    by_cases h2 : a = b
    · rw [if_pos h2, if_pos h2]
    · rw [if_neg h2, if_neg h2]
theorem or_lt {a b : Int32} {X Y : PR} : (if (if a < b then (-1 : Int32) else if a = b then 0 else 1) < 0 then X else Y) = if a < b then X else Y := by
  by_cases h1 : a < b
  · rw [if_pos h1, if_pos h1, if_pos (by decide)]
  · rw [if_neg h1, if_neg h1]
    by_cases h2 : a = b
    · rw [if_pos h2, if_neg (by decide)]
    · rw [if_neg h2, if_neg (by decide)]
theorem or_eq {a b : Int32} {X Y : PR} : (if (if a < b then (-1 : Int32) else if a = b then 0 else 1) = 0 then X else Y) = if a = b then X else Y := by
  by_cases h1 : a < b
  · have h2 : ¬ a = b := fun q => by rw [q] at h1; exact Int32.lt_irrefl h1
    rw [if_pos h1, if_neg h2, if_neg (by decide)]
  · rw [if_neg h1]
    by_cases h2 : a = b
    · rw [if_pos h2, if_pos h2, if_pos rfl]
    · rw [if_neg h2, if_neg h2, if_neg (by decide)]
theorem or_gt {a b : Int32} {X Y : PR} : (if 0 < (if a < b then (-1 : Int32) else if a = b then 0 else 1) then X else Y) = if b < a then X else Y := by
  by_cases h1 : a < b
  · have h2 : ¬ b < a := fun q => Int32.lt_irrefl (Int32.lt_trans h1 q)
    rw [if_pos h1, if_neg h2, if_neg (by decide)]
  · rw [if_neg h1]
    by_cases h2 : a = b
    · have h3 : ¬ b < a := fun q => by rw [h2] at q; exact Int32.lt_irrefl q
      rw [if_pos h2, if_neg h3, if_neg Int32.lt_irrefl]
    · have h3 : b < a := by
        rcases Int32.lt_or_eq_of_le (Int32.not_lt.mp h1) with q | q
        · exact q
        · exact absurd q.symm h2
      rw [if_neg h2, if_pos h3, if_pos (by decide)]
theorem bB_d {p : Prop} [Decidable p] {h : PH} : ((if p then some (some (.int 1), h) else some (some (.int 0), h)) : PR) = some (some (.int (bB (decide p))), h) := bB_p
theorem s27 (cx : CX6 L xs A G e n t) {p : Nat} (hp : p ≤ n) : cP A G e (CALL (roL L xs) mP mL (N + 5050) (d + 3) 27 [.ref 6000] (HH A (RS G p 0) e)) (tst (kch t n) p) := by
  have ht := cx.2.2.1
  rw [m27, vo6000, s23 cx hp, cI_s, s29, cI_s, lsr_k ht p]
  unfold tst
  cases hl : ltr (kch t n p) with
  | none =>
    rw [if_pos (show oI none < 0 by decide), pf6000_4, RS_u4]
    exact ⟨false, rfl⟩
  | some f =>
    obtain ⟨hf, hf2⟩ := ltr_lt hl
    have h1 : p < n := lt_of_k kch_n (rfl : kch t n p = _) (by omega)
    rw [show oI (some f) = nI f from rfl, if_neg (nI_pos (by omega)), gf6000_3, RS_3, nI_1 p, pf6000_3, RS_u3, vo6000, s23 cx (show p + 1 ≤ n by omega), cI_s]
    by_cases o : kch t n (p + 1) = 60 ∨ kch t n (p + 1) = 61 ∨ kch t n (p + 1) = 62
    · have h2 : p + 1 < n := lt_of_k kch_n (rfl : kch t n (p + 1) = _) (by omega)
      simp only [if_pos o]
      by_cases c3 : 48 ≤ kch t n (p + 2) ∧ kch t n (p + 2) ≤ 57
      · have sn := fun D => s28t (d := D) (N := N) cx (show p + 2 ≤ n by omega) c3
        simp only [if_pos c3]
        show _ = some (some (Value.int (bB (cmpV (kch t n (p + 1)) (A 20015 0 f) _))), _)
        rcases o with o | o | o
        · have x1 : cch t n (p + 1) = 60 := (cchE ht (v := 60) (by decide)).mpr o
          rw [x1, if_pos rfl, gf6000_3, RS_3, nI_1 (p + 1), pf6000_3, RS_u3, rf6000_0, ga20015, ib_n hf (by decide), nI_clamp (show f < 2 ^ 31 by omega), vo6000, sn, cI_s, s216, cI_s, if_pos rfl, or_lt, bB_p, o]
          rfl
        · have x1 : cch t n (p + 1) = 61 := (cchE ht (v := 61) (by decide)).mpr o
          rw [x1, if_neg (by decide), if_pos rfl, gf6000_3, RS_3, nI_1 (p + 1), pf6000_3, RS_u3, rf6000_0, ga20015, ib_n hf (by decide), nI_clamp (show f < 2 ^ 31 by omega), vo6000, sn, cI_s, s216, cI_s, if_neg (by decide), if_neg (by decide), or_eq, bB_p, o]
          rfl
        · have x1 : cch t n (p + 1) = 62 := (cchE ht (v := 62) (by decide)).mpr o
          rw [x1, if_neg (by decide), if_neg (by decide), if_pos rfl, gf6000_3, RS_3, nI_1 (p + 1), pf6000_3, RS_u3, rf6000_0, ga20015, ib_n hf (by decide), nI_clamp (show f < 2 ^ 31 by omega), vo6000, sn, cI_s, s216, cI_s, if_neg (by decide), if_pos rfl, or_gt, bB_p, o]
          rfl
      · have sn := fun D => s28f (d := D) (N := N) cx (show p + 2 ≤ n by omega) c3
        simp only [if_neg c3]
        rcases o with o | o | o
        · have x1 : cch t n (p + 1) = 60 := (cchE ht (v := 60) (by decide)).mpr o
          rw [x1, if_pos rfl, gf6000_3, RS_3, nI_1 (p + 1), pf6000_3, RS_u3, rf6000_0, ga20015, ib_n hf (by decide), nI_clamp (show f < 2 ^ 31 by omega), vo6000, sn, cI_s, s216, cI_s, if_pos rfl, or_lt, bB_p]
          exact ⟨_, rfl⟩
        · have x1 : cch t n (p + 1) = 61 := (cchE ht (v := 61) (by decide)).mpr o
          rw [x1, if_neg (by decide), if_pos rfl, gf6000_3, RS_3, nI_1 (p + 1), pf6000_3, RS_u3, rf6000_0, ga20015, ib_n hf (by decide), nI_clamp (show f < 2 ^ 31 by omega), vo6000, sn, cI_s, s216, cI_s, if_neg (by decide), if_neg (by decide), or_eq, bB_p]
          exact ⟨_, rfl⟩
        · have x1 : cch t n (p + 1) = 62 := (cchE ht (v := 62) (by decide)).mpr o
          rw [x1, if_neg (by decide), if_neg (by decide), if_pos rfl, gf6000_3, RS_3, nI_1 (p + 1), pf6000_3, RS_u3, rf6000_0, ga20015, ib_n hf (by decide), nI_clamp (show f < 2 ^ 31 by omega), vo6000, sn, cI_s, s216, cI_s, if_neg (by decide), if_pos rfl, or_gt, bB_p]
          exact ⟨_, rfl⟩
    · simp only [if_neg o]
      have y1 : ¬ cch t n (p + 1) = 60 := fun q => o (Or.inl ((cchE ht (v := 60) (by decide)).mp q))
      have y2 : ¬ cch t n (p + 1) = 61 := fun q => o (Or.inr (Or.inl ((cchE ht (v := 61) (by decide)).mp q)))
      have y3 : ¬ cch t n (p + 1) = 62 := fun q => o (Or.inr (Or.inr ((cchE ht (v := 62) (by decide)).mp q)))
      rw [if_neg y1, if_neg y2, if_neg y3, pf6000_4, RS_u4]
      exact ⟨false, rfl⟩
/-! the loops -/
theorem w25f {C : Nat → List Value → PH → PR} {dp : Int32} {q c : Nat} {b : Bool} (hC : C 23 [.ref 6000] (HH A (RS G q 1) e) = some (some (.int (-1)), HH A (RS G q 1) e)) : EXn (roL L xs) p25 C 3 8 [some (.ref 6000), some (.int dp), some (.int (bB b)), some (.int (nI c))] [] (HH A (RS G q 1) e) = some (some (.int (bB b)), HH A (RS G q 1) e) := by
  refine EXs_le (S := [8]) (n := 0) 3 8 _ _ _ ?_
  rw [l25_8]
  by_cases h : nI c < 80
  · rw [if_pos h, vo6000, hC, cI_s, if_neg (by decide), if_pos (bB_01.mpr trivial)]
  · rw [if_neg h, if_pos (bB_01.mpr trivial)]
theorem w24f {C : Nat → List Value → PH → PR} {dp : Int32} {q c : Nat} {b : Bool} (hC : C 23 [.ref 6000] (HH A (RS G q 1) e) = some (some (.int (-1)), HH A (RS G q 1) e)) : EXn (roL L xs) p24 C 3 8 [some (.ref 6000), some (.int dp), some (.int (bB b)), some (.int (nI c))] [] (HH A (RS G q 1) e) = some (some (.int (bB b)), HH A (RS G q 1) e) := by
  refine EXs_le (S := [8]) (n := 0) 3 8 _ _ _ ?_
  rw [l24_8]
  by_cases h : nI c < 80
  · rw [if_pos h, vo6000, hC, cI_s, if_neg (by decide), if_pos (bB_01.mpr trivial)]
  · rw [if_neg h, if_pos (bB_01.mpr trivial)]
theorem w25 (cx : CX6 L xs A G e n t) {f : Nat → PO} (hg : Gd n f) {D : Nat} {dp : Int32} (hf : ∀ p, p ≤ n → cP A G e (CALL (roL L xs) mP mL (N + 5050) (D + 1) 26 [.ref 6000, .int dp] (HH A (RS G p 0) e)) (f p)) : ∀ (i c q : Nat) (v : VF), c + i = 80 → q ≤ n → cP A G e (EXn (roL L xs) p25 (CALL (roL L xs) mP mL (N + 5050) (D + 1)) (3 * (i + 1)) 8 [some (.ref 6000), some (.int dp), some (.int (bB (v (A 20015 0)))), some (.int (nI c))] [] (HH A (RS G q 0) e)) (boL (kch t n) f i q v)
  | 0, c, q, v, hc, hq => by
    refine cP_mo (fun z h => EXs_le (S := [8]) (n := 0) 3 8 _ _ _ h) ?_
    have : c = 80 := by omega
    subst this
    rw [l25_8, if_neg (show ¬ nI 80 < 80 by decide), if_pos (bB_01.mpr trivial)]
    rfl
  | i + 1, c, q, v, hc, hq => by
    have ht := cx.2.2.1
    refine cP_mo (fun z h => EXs_le (S := [8]) (n := 3 * (i + 1)) 3 8 _ _ _ h) ?_
    rw [l25_8, if_pos (show nI c < 80 from nI_lt (b := 80) (by omega) (by decide)), vo6000, s23 cx hq, cI_s]
    unfold boL
    by_cases h1 : kch t n q = 38
    · have x1 : cch t n q = 38 := (cchE ht (v := 38) (by decide)).mpr h1
      have h2 : q < n := lt_of_k kch_n h1 (by decide)
      have hh := hf (q + 1) (by omega)
      have gg := hg (q + 1) (by omega)
      simp only [if_pos h1]
      rw [x1, if_pos rfl, gf6000_3, RS_3, nI_1 q, pf6000_3, RS_u3, vo6000]
      cases hr : f (q + 1) with
      | inl z =>
        rw [hr] at hh
        obtain ⟨w, hw⟩ := hh
        rw [hw, cI_s, nI_1 c]
        have k1 : ∀ b : Bool, EXn (roL L xs) p25 (CALL (roL L xs) mP mL (N + 5050) (D + 1)) (3 * (i + 1)) 8 [some (.ref 6000), some (.int dp), some (.int (bB b)), some (.int (nI (c + 1)))] [] (HH A (RS G z 1) e) = some (some (.int (bB b)), HH A (RS G z 1) e) := fun b => EXn_mo (n := 3) (by omega) (w25f s23f)
        refine ⟨w && v (A 20015 0), ?_⟩
        cases w
        · rw [if_pos (by decide)]
          exact k1 false
        · rw [if_neg (by decide)]
          cases v (A 20015 0)
          · rw [if_pos (by decide)]
            exact k1 false
          · rw [if_neg (by decide)]
            exact k1 true
      | inr zw =>
        obtain ⟨z, w⟩ := zw
        rw [hr] at hh
        have hw : CALL (roL L xs) mP mL (N + 5050) (D + 1) 26 [.ref 6000, .int dp] (HH A (RS G (q + 1) 0) e) = some (some (.int (bB (w (A 20015 0)))), HH A (RS G z 0) e) := hh
        have ih := w25 cx hg hf i (c + 1) z (fun F => w F && v F) (by omega) (gg.2 z w hr).2
        have ih' : cP A G e (EXn (roL L xs) p25 (CALL (roL L xs) mP mL (N + 5050) (D + 1)) (3 * (i + 1)) 8 [some (.ref 6000), some (.int dp), some (.int (bB (w (A 20015 0) && v (A 20015 0)))), some (.int (nI (c + 1)))] [] (HH A (RS G z 0) e)) (boL (kch t n) f i z (fun F => w F && v F)) := ih
        rw [hw, cI_s, nI_1 c]
        show cP A G e _ (boL (kch t n) f i z (fun F => w F && v F))
        generalize boL (kch t n) f i z (fun F => w F && v F) = o at ih' ⊢
        cases hwv : w (A 20015 0)
        · rw [hwv] at ih'
          rw [if_pos (by decide)]
          exact ih'
        · rw [hwv] at ih'
          rw [if_neg (by decide)]
          cases hvv : v (A 20015 0)
          · rw [hvv] at ih'
            rw [if_pos (by decide)]
            exact ih'
          · rw [hvv] at ih'
            rw [if_neg (by decide)]
            exact ih'
    · have x1 : ¬ cch t n q = 38 := fun z => h1 ((cchE ht (v := 38) (by decide)).mp z)
      simp only [if_neg h1]
      rw [if_neg x1, if_pos (bB_01.mpr trivial)]
      rfl
theorem s25 (cx : CX6 L xs A G e n t) {f : Nat → PO} (hg : Gd n f) {D : Nat} {dp : Int32} (hf : ∀ p, p ≤ n → cP A G e (CALL (roL L xs) mP mL (N + 5050) (D + 1) 26 [.ref 6000, .int dp] (HH A (RS G p 0) e)) (f p)) {p : Nat} (hp : p ≤ n) : cP A G e (CALL (roL L xs) mP mL (N + 5050) (D + 2) 25 [.ref 6000, .int dp] (HH A (RS G p 0) e)) (both (kch t n) f p) := by
  refine cP_mo (fun z h => m25 (3 * (80 + 1)) (by omega) h) ?_
  have hh := hf p hp
  have gg := hg p hp
  rw [x25, vo6000]
  unfold both
  cases hr : f p with
  | inl z =>
    rw [hr] at hh
    obtain ⟨w, hw⟩ := hh
    rw [hw, cI_s]
    exact ⟨w, EXn_mo (n := 3) (by omega) (w25f (c := 0) s23f)⟩
  | inr zw =>
    obtain ⟨z, w⟩ := zw
    rw [hr] at hh
    have hw : CALL (roL L xs) mP mL (N + 5050) (D + 1) 26 [.ref 6000, .int dp] (HH A (RS G p 0) e) = some (some (.int (bB (w (A 20015 0)))), HH A (RS G z 0) e) := hh
    rw [hw, cI_s]
    exact w25 cx hg hf 80 0 z w (by omega) (gg.2 z w hr).2
theorem w24 (cx : CX6 L xs A G e n t) {f : Nat → PO} (hg : Gd n (both (kch t n) f)) {D : Nat} {dp : Int32} (hf : ∀ p, p ≤ n → cP A G e (CALL (roL L xs) mP mL (N + 5050) (D + 1) 25 [.ref 6000, .int dp] (HH A (RS G p 0) e)) (both (kch t n) f p)) : ∀ (i c q : Nat) (v : VF), c + i = 80 → q ≤ n → cP A G e (EXn (roL L xs) p24 (CALL (roL L xs) mP mL (N + 5050) (D + 1)) (3 * (i + 1)) 8 [some (.ref 6000), some (.int dp), some (.int (bB (v (A 20015 0)))), some (.int (nI c))] [] (HH A (RS G q 0) e)) (eiL (kch t n) f i q v)
  | 0, c, q, v, hc, hq => by
    refine cP_mo (fun z h => EXs_le (S := [8]) (n := 0) 3 8 _ _ _ h) ?_
    have : c = 80 := by omega
    subst this
    rw [l24_8, if_neg (show ¬ nI 80 < 80 by decide), if_pos (bB_01.mpr trivial)]
    rfl
  | i + 1, c, q, v, hc, hq => by
    have ht := cx.2.2.1
    refine cP_mo (fun z h => EXs_le (S := [8]) (n := 3 * (i + 1)) 3 8 _ _ _ h) ?_
    rw [l24_8, if_pos (show nI c < 80 from nI_lt (b := 80) (by omega) (by decide)), vo6000, s23 cx hq, cI_s]
    unfold eiL
    by_cases h1 : kch t n q = 124
    · have x1 : cch t n q = 124 := (cchE ht (v := 124) (by decide)).mpr h1
      have h2 : q < n := lt_of_k kch_n h1 (by decide)
      have hh := hf (q + 1) (by omega)
      have gg := hg (q + 1) (by omega)
      simp only [if_pos h1]
      rw [x1, if_pos rfl, gf6000_3, RS_3, nI_1 q, pf6000_3, RS_u3, vo6000]
      cases hr : both (kch t n) f (q + 1) with
      | inl z =>
        rw [hr] at hh
        obtain ⟨w, hw⟩ := hh
        rw [hw, cI_s, nI_1 c]
        have k1 : ∀ b : Bool, EXn (roL L xs) p24 (CALL (roL L xs) mP mL (N + 5050) (D + 1)) (3 * (i + 1)) 8 [some (.ref 6000), some (.int dp), some (.int (bB b)), some (.int (nI (c + 1)))] [] (HH A (RS G z 1) e) = some (some (.int (bB b)), HH A (RS G z 1) e) := fun b => EXn_mo (n := 3) (by omega) (w24f s23f)
        refine ⟨w || v (A 20015 0), ?_⟩
        cases w
        · rw [if_pos (by decide)]
          cases v (A 20015 0)
          · rw [if_pos (by decide)]
            exact k1 false
          · rw [if_neg (by decide)]
            exact k1 true
        · rw [if_neg (by decide)]
          exact k1 true
      | inr zw =>
        obtain ⟨z, w⟩ := zw
        rw [hr] at hh
        have hw : CALL (roL L xs) mP mL (N + 5050) (D + 1) 25 [.ref 6000, .int dp] (HH A (RS G (q + 1) 0) e) = some (some (.int (bB (w (A 20015 0)))), HH A (RS G z 0) e) := hh
        have ih := w24 cx hg hf i (c + 1) z (fun F => w F || v F) (by omega) (gg.2 z w hr).2
        have ih' : cP A G e (EXn (roL L xs) p24 (CALL (roL L xs) mP mL (N + 5050) (D + 1)) (3 * (i + 1)) 8 [some (.ref 6000), some (.int dp), some (.int (bB (w (A 20015 0) || v (A 20015 0)))), some (.int (nI (c + 1)))] [] (HH A (RS G z 0) e)) (eiL (kch t n) f i z (fun F => w F || v F)) := ih
        rw [hw, cI_s, nI_1 c]
        show cP A G e _ (eiL (kch t n) f i z (fun F => w F || v F))
        generalize eiL (kch t n) f i z (fun F => w F || v F) = o at ih' ⊢
        cases hwv : w (A 20015 0)
        · rw [hwv] at ih'
          rw [if_pos (by decide)]
          cases hvv : v (A 20015 0)
          · rw [hvv] at ih'
            rw [if_pos (by decide)]
            exact ih'
          · rw [hvv] at ih'
            rw [if_neg (by decide)]
            exact ih'
        · rw [hwv] at ih'
          rw [if_neg (by decide)]
          exact ih'
    · have x1 : ¬ cch t n q = 124 := fun z => h1 ((cchE ht (v := 124) (by decide)).mp z)
      simp only [if_neg h1]
      rw [if_neg x1, if_pos (bB_01.mpr trivial)]
      rfl
theorem s24 (cx : CX6 L xs A G e n t) {f : Nat → PO} (hg : Gd n f) {D : Nat} {dp : Int32} (hf : ∀ p, p ≤ n → cP A G e (CALL (roL L xs) mP mL (N + 5050) (D + 1) 26 [.ref 6000, .int dp] (HH A (RS G p 0) e)) (f p)) {p : Nat} (hp : p ≤ n) : cP A G e (CALL (roL L xs) mP mL (N + 5050) (D + 3) 24 [.ref 6000, .int dp] (HH A (RS G p 0) e)) (eith (kch t n) f p) := by
  have hb : ∀ p, p ≤ n → cP A G e (CALL (roL L xs) mP mL (N + 5050) (D + 2) 25 [.ref 6000, .int dp] (HH A (RS G p 0) e)) (both (kch t n) f p) := fun p hp => s25 cx hg hf hp
  have hgb := both_g (k := kch t n) kch_n hg
  refine cP_mo (fun z h => m24 (3 * (80 + 1)) (by omega) h) ?_
  have hh := hb p hp
  have gg := hgb p hp
  rw [x24, vo6000]
  unfold eith
  cases hr : both (kch t n) f p with
  | inl z =>
    rw [hr] at hh
    obtain ⟨w, hw⟩ := hh
    rw [hw, cI_s]
    exact ⟨w, EXn_mo (n := 3) (by omega) (w24f (c := 0) s23f)⟩
  | inr zw =>
    obtain ⟨z, w⟩ := zw
    rw [hr] at hh
    have hw : CALL (roL L xs) mP mL (N + 5050) (D + 2) 25 [.ref 6000, .int dp] (HH A (RS G p 0) e) = some (some (.int (bB (w (A 20015 0)))), HH A (RS G z 0) e) := hh
    rw [hw, cI_s]
    exact w24 (D := D + 1) cx hgb hb 80 0 z w (by omega) (gg.2 z w hr).2
theorem bB_not {b : Bool} {h : PH} : ((if bB b = 0 then some (some (.int 1), h) else some (some (.int 0), h)) : PR) = some (some (.int (bB (!b))), h) := by
  cases b <;> rfl
theorem s26 (cx : CX6 L xs A G e n t) : ∀ (b dv d : Nat), dv + b = 4 → ∀ p, p ≤ n → cP A G e (CALL (roL L xs) mP mL (N + 5050) (d + 3 * b + 4) 26 [.ref 6000, .int (nI dv)] (HH A (RS G p 0) e)) (one (kch t n) b p)
  | 0, dv, d, hd, p, hp => by
    have ht := cx.2.2.1
    have : dv = 4 := by omega
    subst this
    have e1 : cch t n p = 33 ↔ kch t n p = 33 := cchE ht (v := 33) (by decide)
    have e2 : cch t n p = 40 ↔ kch t n p = 40 := cchE ht (v := 40) (by decide)
    have n33 : ¬ (40 : Int32) = 33 := by decide
    rw [m26, vo6000, s23 cx hp, cI_s]
    unfold one
    by_cases h1 : kch t n p = 33
    · rw [if_pos (e1.mpr h1), if_neg (show ¬ nI 4 < 4 by decide), pf6000_4, RS_u4]
      simp only [if_pos (show kch t n p = 33 ∨ kch t n p = 40 from Or.inl h1)]
      exact ⟨false, rfl⟩
    · rw [if_neg (fun q => h1 (e1.mp q))]
      by_cases h2 : kch t n p = 40
      · rw [if_pos (e2.mpr h2), if_neg (show ¬ nI 4 < 4 by decide), pf6000_4, RS_u4]
        simp only [if_pos (show kch t n p = 33 ∨ kch t n p = 40 from Or.inr h2)]
        exact ⟨false, rfl⟩
      · rw [if_neg (fun q => h2 (e2.mp q)), vo6000]
        simp only [if_neg (show ¬ (kch t n p = 33 ∨ kch t n p = 40) from fun q => q.elim h1 h2)]
        have hh := s27 (d := d) (N := N) cx hp
        generalize tst (kch t n) p = o at hh ⊢
        match o, hh with
        | .inl z, ⟨w, hw⟩ =>
          rw [hw, cI_s, if_pos (bB_01.mpr trivial)]
          exact ⟨w, rfl⟩
        | .inr (z, w), hw =>
          have hw' : CALL (roL L xs) mP mL (N + 5050) (d + 3) 27 [.ref 6000] (HH A (RS G p 0) e) = some (some (.int (bB (w (A 20015 0)))), HH A (RS G z 0) e) := hw
          rw [hw', cI_s, if_pos (bB_01.mpr trivial)]
          rfl
  | b + 1, dv, d, hd, p, hp => by
    have ht := cx.2.2.1
    have hn := cx.2.1
    have ih := s26 cx b (dv + 1) d (by omega)
    have hg := one_g (k := kch t n) kch_n hn b
    have e1 : cch t n p = 33 ↔ kch t n p = 33 := cchE ht (v := 33) (by decide)
    have e2 : cch t n p = 40 ↔ kch t n p = 40 := cchE ht (v := 40) (by decide)
    have hlt : nI dv < 4 := nI_lt (b := 4) (by omega) (by decide)
    rw [show d + 3 * (b + 1) + 4 = (d + 3 * b + 6) + 1 by omega, m26, vo6000, s23 cx hp, cI_s]
    unfold one
    by_cases h1 : kch t n p = 33
    · have h2 : p < n := lt_of_k kch_n h1 (by decide)
      have hh := s26 cx b (dv + 1) (d + 2) (by omega) (p + 1) (by omega)
      rw [show d + 2 + 3 * b + 4 = d + 3 * b + 6 by omega] at hh
      simp only [if_pos h1]
      rw [if_pos (e1.mpr h1), if_pos hlt, gf6000_3, RS_3, nI_1 p, pf6000_3, RS_u3, if_pos (e1.mpr h1), vo6000, nI_1 dv]
      generalize one (kch t n) b (p + 1) = o at hh ⊢
      match o, hh with
      | .inl z, ⟨w, hw⟩ =>
        rw [hw, cI_s, bB_not]
        exact ⟨!w, rfl⟩
      | .inr (z, w), hw =>
        have hw' : CALL (roL L xs) mP mL (N + 5050) (d + 3 * b + 6) 26 [.ref 6000, .int (nI (dv + 1))] (HH A (RS G (p + 1) 0) e) = some (some (.int (bB (w (A 20015 0)))), HH A (RS G z 0) e) := hw
        rw [hw', cI_s, bB_not]
        rfl
    · simp only [if_neg h1]
      rw [if_neg (fun q => h1 (e1.mp q))]
      by_cases h3 : kch t n p = 40
      · have h2 : p < n := lt_of_k kch_n h3 (by decide)
        have hf : ∀ p, p ≤ n → cP A G e (CALL (roL L xs) mP mL (N + 5050) ((d + 3 * b + 3) + 1) 26 [.ref 6000, .int (nI (dv + 1))] (HH A (RS G p 0) e)) (one (kch t n) b p) := ih
        have hh := s24 cx hg hf (show p + 1 ≤ n by omega)
        have gg := eith_g (k := kch t n) kch_n hn hg (p + 1) (by omega)
        simp only [if_pos h3]
        rw [if_pos (e2.mpr h3), if_pos hlt, gf6000_3, RS_3, nI_1 p, pf6000_3, RS_u3, if_neg (fun q => h1 (e1.mp q)), vo6000, nI_1 dv]
        generalize hE : eith (kch t n) (one (kch t n) b) (p + 1) = o at hh gg ⊢
        match o, hh, gg with
        | .inl z, ⟨w, hw⟩, _ =>
          have hw' : CALL (roL L xs) mP mL (N + 5050) (d + 3 * b + 6) 24 [.ref 6000, .int (nI (dv + 1))] (HH A (RS G (p + 1) 0) e) = _ := hw
          rw [hw', cI_s, vo6000, s23f, cI_s, if_neg (by decide), pf6000_4, RS_u4, if_pos (bB_01.mpr trivial)]
          exact ⟨w, rfl⟩
        | .inr (z, w), hw, gg =>
          have hw' : CALL (roL L xs) mP mL (N + 5050) (d + 3 * b + 6) 24 [.ref 6000, .int (nI (dv + 1))] (HH A (RS G (p + 1) 0) e) = some (some (.int (bB (w (A 20015 0)))), HH A (RS G z 0) e) := hw
          have hz := (gg.2 z w rfl).2
          have e3 : cch t n z = 41 ↔ kch t n z = 41 := cchE ht (v := 41) (by decide)
          rw [hw', cI_s, vo6000, s23 cx hz, cI_s]
          by_cases h4 : kch t n z = 41
          · simp only [if_pos h4]
            rw [if_pos (e3.mpr h4), gf6000_3, RS_3, nI_1 z, pf6000_3, RS_u3, if_pos (bB_01.mpr trivial)]
            rfl
          · simp only [if_neg h4]
            rw [if_neg (fun q => h4 (e3.mp q)), pf6000_4, RS_u4, if_pos (bB_01.mpr trivial)]
            exact ⟨_, rfl⟩
      · simp only [if_neg h3]
        rw [if_neg (fun q => h3 (e2.mp q)), vo6000]
        have hh := s27 (d := d + 3 * b + 3) (N := N) cx hp
        generalize tst (kch t n) p = o at hh ⊢
        match o, hh with
        | .inl z, ⟨w, hw⟩ =>
          rw [hw, cI_s, if_pos (bB_01.mpr trivial)]
          exact ⟨w, rfl⟩
        | .inr (z, w), hw =>
          have hw' : CALL (roL L xs) mP mL (N + 5050) (d + 3 * b + 6) 27 [.ref 6000] (HH A (RS G p 0) e) = some (some (.int (bB (w (A 20015 0)))), HH A (RS G z 0) e) := hw
          rw [hw', cI_s, if_pos (bB_01.mpr trivial)]
          rfl
/-- a whole text -/
def txt (k : Nat → Nat) (n : Nat) : PO := match eith k (one k 4) 0 with
  | .inl q => .inl q
  | .inr (q, v) => if q < n then .inl q else .inr (q, v)
theorem s22 {q : Nat} {a : Int32} {ln : Nat} (hL : ∀ (G' : Mat) (K : Int32 → PR), aL (roL L xs) (HH A G' (e_T e q)) q K = K (Int32.ofNat ln)) (ha : (if Int32.ofNat ln < a then Int32.ofNat ln else a) = nI n) (hn : n ≤ 80) (ht : ∀ p, p < n → t p < 256) (hT : ∀ (G' : Mat) (i : Nat) (K : Int32 → PR), i < n → aI (roL L xs) (HH A G' (e_T e q)) q 0 (nI i) K = K (nI (t i))) :
    cP A (up3 G 6 0 2 (nI n)) (e_T e q) (CALL (roL L xs) mP mL (N + 5050) (d + 19) 22 [.ref 6000, .ref q, .int a] (HH A G e)) (txt (kch t n) n) := by
  have cx : CX6 L xs A (up3 G 6 0 2 (nI n)) (e_T e q) n t := ⟨up3_s, hn, ht, hT⟩
  have hg := one_g (k := kch t n) kch_n hn 4
  have hf : ∀ p, p ≤ n → cP A (up3 G 6 0 2 (nI n)) (e_T e q) (CALL (roL L xs) mP mL (N + 5050) ((d + 15) + 1) 26 [.ref 6000, .int (nI 0)] (HH A (RS (up3 G 6 0 2 (nI n)) p 0) (e_T e q))) (one (kch t n) 4 p) := s26 cx 4 0 d (by omega)
  have hh := s24 (D := d + 15) cx hg hf (Nat.zero_le n)
  have gg := eith_g (k := kch t n) kch_n hn hg 0 (Nat.zero_le n)
  rw [m22, pfT, hL, s221, cI_s, ha, pf6000_2, pf6000_3, pf6000_4, RS_i, vo6000]
  unfold txt
  generalize eith (kch t n) (one (kch t n) 4) 0 = o at hh gg ⊢
  match o, hh, gg with
  | .inl z, ⟨w, hw⟩, gg =>
    have hw' : CALL (roL L xs) mP mL (N + 5050) (d + 18) 24 [.ref 6000, .int 0] (HH A (RS (up3 G 6 0 2 (nI n)) 0 0) (e_T e q)) = _ := hw
    rw [hw', cI_s, gf6000_3, RS_3, gf6000_2, RS_2, up3_s]
    by_cases h : nI z < nI n
    · rw [if_pos h, pf6000_4, RS_u4, if_pos (bB_01.mpr trivial)]
      exact ⟨w, rfl⟩
    · rw [if_neg h, if_pos (bB_01.mpr trivial)]
      exact ⟨w, rfl⟩
  | .inr (z, w), hw, gg =>
    have hw' : CALL (roL L xs) mP mL (N + 5050) (d + 18) 24 [.ref 6000, .int 0] (HH A (RS (up3 G 6 0 2 (nI n)) 0 0) (e_T e q)) = some (some (.int (bB (w (A 20015 0)))), HH A (RS (up3 G 6 0 2 (nI n)) z 0) (e_T e q)) := hw
    have hz := (gg.2 z w rfl).2
    rw [hw', cI_s, gf6000_3, RS_3, gf6000_2, RS_2, up3_s]
    by_cases h : z < n
    · simp only [if_pos h]
      rw [if_pos (nI_lt h (by omega)), pf6000_4, RS_u4, if_pos (bB_01.mpr trivial)]
      exact ⟨_, rfl⟩
    · simp only [if_neg h]
      rw [if_neg (nI_nlt (by omega) (by omega)), if_pos (bB_01.mpr trivial)]
      rfl
end READ
