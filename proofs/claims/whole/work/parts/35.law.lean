/-! LAW -/
def fP (A G : Mat) (e : Ev) (r : PR) : PO → Prop
  | .inl z => r = some (some (.int (nI z)), HH A (RS G z 1) e)
  | .inr (z, _) => r = some (some (.int (-1)), HH A (RS G z 0) e)
def hP (A G : Mat) (e : Ev) (r : PR) : PO → Prop
  | .inl z => r = some (some (.int 0), HH A (RS G z 1) e)
  | .inr (z, v) => r = some (some (.int (bB (v (A 20015 0)))), HH A (RS G z 0) e)
theorem txt_le {k : Nat → Nat} {n z : Nat} (hk : ∀ p, n ≤ p → k p = 200) (hn : n ≤ 80) (h : txt k n = .inl z) : z ≤ n := by
  have gg := eith_g hk hn (one_g hk hn 4) 0 (Nat.zero_le n)
  unfold txt at h
  cases hr : eith k (one k 4) 0 with
  | inl q =>
    rw [hr] at h
    cases h
    exact (gg.1 z hr).2
  | inr qv =>
    obtain ⟨q, v⟩ := qv
    rw [hr] at h
    have h2 : (if q < n then (Sum.inl q : PO) else .inr (q, v)) = .inl z := h
    by_cases c : q < n
    · rw [if_pos c] at h2
      cases h2
      omega
    · rw [if_neg c] at h2
      cases h2
def GB (G : Mat) (b n : Nat) : Mat := up3 (up3 G 11 0 42 (nI b)) 11 0 43 (nI n)
theorem WA_id {A : Mat} : WA A (A 20060 0) (A 20061 0) = A := by
  unfold WA
  rw [upr_id]
  exact upr_id
def cpT (nl : Nat) : (Nat → Int32) → Nat → Nat → Nat → Int32
  | g, _, 0 => g
  | g, k, r + 1 => cpT nl (upd g (80 * nl + k) (g (960 + k))) (k + 1) r
theorem cpT_o {nl : Nat} : ∀ (r k : Nat) (g : Nat → Int32) (q : Nat), q < 80 * nl + k ∨ 80 * nl + k + r ≤ q → cpT nl g k r q = g q
  | 0, k, g, q, hq => rfl
  | r + 1, k, g, q, hq => by
    show cpT nl (upd g (80 * nl + k) (g (960 + k))) (k + 1) r q = g q
    rw [cpT_o r (k + 1) _ q (by omega), pk_un (by omega)]
theorem cpT_i {nl : Nat} (hl : nl < 12) : ∀ (r k : Nat) (g : Nat → Int32) (j : Nat), k + r ≤ 80 → k ≤ j → j < k + r → cpT nl g k r (80 * nl + j) = g (960 + j)
  | 0, k, g, j, h1, h2, h3 => by omega
  | r + 1, k, g, j, h1, h2, h3 => by
    show cpT nl (upd g (80 * nl + k) (g (960 + k))) (k + 1) r (80 * nl + j) = g (960 + j)
    by_cases hj : j = k
    · subst hj
      rw [cpT_o r (j + 1) _ _ (by omega), pk_us]
    · rw [cpT_i hl r (k + 1) _ j (by omega) (by omega) (by omega), pk_un (by omega)]
theorem law_new {L T L' T' : Nat → Nat → Int32} {c y t z c' y' t' z' : Nat → Int32} {tl tl' : Nat → Nat} {r r' : Nat → Option Nat} {nl n : Nat} (h : I_law L T c y t z tl r nl) (hn : n ≤ 80)
    (a1 : ∀ i, i < nl → L' i = L i) (a2 : ∀ i, i < nl → T' i = T i) (a3 : ∀ i, i < nl → c' i = c i) (a4 : ∀ i, i < nl → y' i = y i) (a5 : ∀ q, q < 80 * nl → t' q = t q) (a6 : ∀ i, i < nl → z' i = z i) (a7 : ∀ i, i < nl → tl' i = tl i) (a8 : ∀ i, i < nl → r' i = r i)
    (b1 : L' nl 0 = c' nl) (b2 : L' nl 1 = y' nl) (b3 : tl' nl = n) (b4 : z' nl = nI n) (b5 : r' nl = some (3000 + nl)) (b6 : ∀ j, j < n → Bt (T' nl j) (t' (80 * nl + j))) : I_law L' T' c' y' t' z' tl' r' (nl + 1) := by
  intro i hi
  by_cases hin : i = nl
  · subst hin
    rw [b3]
    exact ⟨b1, b2, hn, b4, b5, b6⟩
  · have hi2 : i < nl := by omega
    obtain ⟨h1, h2, h3, h4, h5, h6⟩ := h i hi2
    rw [a1 i hi2, a2 i hi2, a3 i hi2, a4 i hi2, a6 i hi2, a7 i hi2, a8 i hi2]
    refine ⟨h1, h2, h3, h4, h5, fun j hj => ?_⟩
    rw [a5 _ (by omega)]
    exact h6 j hj
theorem vp12 : vp_in (12 : Int32) 13 := vp_in_nI (show 12 < 13 by decide) (by decide)
section LAW
variable {A G : Mat} {e : Ev} {L : Nat} {xs : Nat → Int32} {N d : Nat}
theorem s20 {q n : Nat} {a : Int32} {ln : Nat} {t : Nat → Nat} (hL : ∀ (G' : Mat) (K : Int32 → PR), aL (roL L xs) (HH A G' (e_T e q)) q K = K (Int32.ofNat ln)) (ha : (if Int32.ofNat ln < a then Int32.ofNat ln else a) = nI n) (hn : n ≤ 80) (ht : ∀ p, p < n → t p < 256) (hT : ∀ (G' : Mat) (i : Nat) (K : Int32 → PR), i < n → aI (roL L xs) (HH A G' (e_T e q)) q 0 (nI i) K = K (nI (t i))) : fP A (up3 G 6 0 2 (nI n)) (e_T e q) (CALL (roL L xs) mP mL (N + 5050) (d + 20) 20 [.ref 6000, .ref q, .int a] (HH A G e)) (txt (kch t n) n) := by
  have h := s22 (A := A) (G := G) (e := e) (L := L) (xs := xs) (N := N) (d := d) hL ha hn ht hT
  rw [m20, vo6000]
  generalize txt (kch t n) n = o at h ⊢
  match o, h with
  | .inl z, ⟨w, hw⟩ =>
    rw [hw, cI_s, gf6000_4, RS_4, if_neg (by decide), gf6000_3, RS_3]
    rfl
  | .inr (z, v), hw =>
    have hw' : CALL (roL L xs) mP mL (N + 5050) (d + 19) 22 [.ref 6000, .ref q, .int a] (HH A G e) = some (some (.int (bB (v (A 20015 0)))), HH A (RS (up3 G 6 0 2 (nI n)) z 0) (e_T e q)) := hw
    rw [hw', cI_s, gf6000_4, RS_4, if_pos rfl]
    rfl
theorem s21 {q n : Nat} {a : Int32} {ln : Nat} {t : Nat → Nat} (hL0 : ∀ (K : Int32 → PR), aL (roL L xs) (HH A G e) q K = K a) (hL : ∀ (G' : Mat) (K : Int32 → PR), aL (roL L xs) (HH A G' (e_T e q)) q K = K (Int32.ofNat ln)) (ha : (if Int32.ofNat ln < a then Int32.ofNat ln else a) = nI n) (hn : n ≤ 80) (ht : ∀ p, p < n → t p < 256) (hT : ∀ (G' : Mat) (i : Nat) (K : Int32 → PR), i < n → aI (roL L xs) (HH A G' (e_T e q)) q 0 (nI i) K = K (nI (t i))) : hP A (up3 G 6 0 2 (nI n)) (e_T e q) (CALL (roL L xs) mP mL (N + 5050) (d + 20) 21 [.ref 6000, .ref q] (HH A G e)) (txt (kch t n) n) := by
  have h := s22 (A := A) (G := G) (e := e) (L := L) (xs := xs) (N := N) (d := d) hL ha hn ht hT
  rw [m21, hL0, vo6000]
  generalize txt (kch t n) n = o at h ⊢
  match o, h with
  | .inl z, ⟨w, hw⟩ =>
    rw [hw, cI_s]
    cases w
    · rw [if_pos (by decide)]
      rfl
    · rw [if_neg (by decide), gf6000_4, RS_4, if_neg (by decide)]
      rfl
  | .inr (z, v), hw =>
    have hw' : CALL (roL L xs) mP mL (N + 5050) (d + 19) 22 [.ref 6000, .ref q, .int a] (HH A G e) = some (some (.int (bB (v (A 20015 0)))), HH A (RS (up3 G 6 0 2 (nI n)) z 0) (e_T e q)) := hw
    rw [hw', cI_s]
    show _ = some (some (Value.int (bB (v (A 20015 0)))), HH A (RS (up3 G 6 0 2 (nI n)) z 0) (e_T e q))
    cases v (A 20015 0)
    · rw [if_pos (by decide)]
      rfl
    · rw [if_neg (by decide), gf6000_4, RS_4, if_pos rfl]
      rfl
theorem s185 {i n : Nat} {t : Nat → Nat} (hi : i < 13) (hz : A 20058 0 i = nI n) (hn : n ≤ 80) (ht : ∀ p, p < n → t p < 256) (h57 : ∀ p, p < n → A 20057 0 (80 * i + p) = (nI (t p)).toInt8.toInt32) : ∃ b p' W' P' w' z' o', CALL (roL L xs) mP mL (N + 5050) (d + 4) 185 [.ref 11000, .int (nI i)] (HH A G e) = some (some (.int (bB b)), HH (WA A W' P') (GS (GB G (80 * i) n) p' w' z' o') e) ∧ PHI (A 20059 0) (txt (kch t n) n) b p' P' := by
  have cx : CX11 A (GB G (80 * i) n) (80 * i) n t := ⟨by unfold GB; rw [up3_j (by decide), up3_s], up3_s, hn, by omega, ht, h57⟩
  obtain ⟨b, p', W', P', w', z', o', h, hΦ⟩ := T_txt (N := N) (d := d) (L := L) (xs := xs) (e := e) (q1 := some (.int (nI i))) cx (A 20060 0) (A 20061 0) none trivial trivial
  rw [WA_id] at h
  refine ⟨b, p', W', P', w', z', o', m185 (5 * (n + 1 - 0)) (by omega) ?_, hΦ⟩
  rw [x185, show (80 : Int32) * nI i = nI (80 * i) from pk_mul 80 i, pf11000_42, rf11000_40, ga20058, ib_n hi (by decide), nI_clamp (by omega), hz, pf11000_43, pf11000_44, pf11000_47, pf11000_48, pf11000_49, GS_i]
  exact h
theorem w186 {C : Nat → List Value → PH → PR} {B G : Mat} {nl n : Nat} {x y : Int32} (hl : nl < 12) (hn : n ≤ 80) (h35 : G 11 0 35 = nI nl) (h58 : B 20058 0 12 = nI n) : ∀ (r k : Nat) (g : Nat → Int32), k + r = n → EXn (roL L xs) p186 C (2 * (r + 1)) 86 [some (.ref 11000), some (.int x), some (.int y), some (.int (nI k))] [] (HH (upr B 20057 0 g) G e) = some (some (.int (nI nl)), HH (up3 (up3 (upr B 20057 0 (cpT nl g k r)) 20055 0 nl x) 20056 0 nl y) (up3 G 11 0 35 (nI (nl + 1))) e)
  | 0, k, g, hk => by
    refine EXs_le (S := [86]) (n := 0) 2 86 _ _ _ ?_
    have cl := nI_clamp (n := nl) (by omega)
    have : k = n := by omega
    subst this
    rw [l186_86, rf11000_40, ga20058, ib_t vp12, show upr B 20057 0 g 20058 0 (12 : Int32).toNatClampNeg = nI k from h58, if_neg Int32.lt_irrefl, rf11000_37, gf11000_35, h35, sa20055, ib_n hl (by decide), cl, rf11000_38, gf11000_35, h35, sa20056, ib_n hl (by decide), cl, gf11000_35, h35, nI_1 nl, pf11000_35, gf11000_35, up3_s, nI_pred]
    rfl
  | r + 1, k, g, hk => by
    refine EXs_le (S := [86]) (n := 2 * (r + 1)) 2 86 _ _ _ ?_
    have ih := w186 (C := C) (x := x) (y := y) hl hn h35 h58 r (k + 1) (upd g (80 * nl + k) (g (960 + k))) (by omega)
    rw [l186_86, rf11000_40, ga20058, ib_t vp12, show upr B 20057 0 g 20058 0 (12 : Int32).toNatClampNeg = nI n from h58, if_pos (nI_lt (by omega) (by omega)), rf11000_39, gf11000_35, h35, rf11000_39, show (960 : Int32) + nI k = nI (960 + k) from nI_add 960 k, ga20057, ib_n (show 960 + k < 1040 by omega) (by decide), nI_clamp (show 960 + k < 2 ^ 31 by omega), upr_a, show (80 : Int32) * nI nl = nI (80 * nl) from pk_mul 80 nl, nI_add (80 * nl) k, sa20057, ib_n (show 80 * nl + k < 1040 by omega) (by decide), nI_clamp (show 80 * nl + k < 2 ^ 31 by omega), up3_upr, nI_1 k]
    exact ih
theorem I_law' (I : Inv A G e) : I_law (G 3) (A 20069) (A 20055 0) (A 20056 0) (A 20057 0) (A 20058 0) (eTl e) (eR e 20014) (eNl e) := I.2.2.2.2.2.2.2.2.2.2.2.2.2.2.2.2.2.2.2.2.1
theorem I_cnl' (I : Inv A G e) : I_cnt (G 10 0 16) (G 11 0 35) (eNl e) 12 := I.2.2.2.2.2.2.2.2.2.2.2.2.2.2.2.2.2.2.2.1
theorem I_bd' (I : Inv A G e) : I_bd e := I.2.2.2.2.2.2.2.2.2.2.2.2.2.2.2.2.2.2.2.2.2.2.2.2
theorem vO_L {h : PH} {nl nx n : Nat} {F : Nat → Int32} {K : PR} (hne : 3000 + nl ≠ 20069 + nx) : vO (hN2 h nl nx n F) (some (.ref (3000 + nl))) 3 K = K := by
  have h1 : (hN2 h nl nx n F).1 (3000 + nl) = some (.inr (.inr (3, dfl 3))) := by
    unfold hN2
    rw [add_n hne]
    unfold hN1
    rw [add_s]
  have : isO (hN2 h nl nx n F) (some (.ref (3000 + nl))) 3 = true := by
    show (match (hN2 h nl nx n F).1 (3000 + nl) with | some (.inr (.inr (c, _))) => c == 3 | _ => false) = true
    simp [h1]
  unfold vO
  rw [if_pos this]
theorem gR_L {nl : Nat} {X : PR} {K : Nat → PR} (hl : nl < 1000) : gR (hN1 (HH A G e) nl) 10000 10 9 X K = K 20017 := by
  exact (gR_x (h := hN1 (HH A G e) nl) (h' := HH A G e) (add_n (show 10000 ≠ 3000 + nl by omega))).trans rf10000_9
/-- the class takes a LAW -/
theorem s79t {x y : Int32} {n z : Nat} {v : VF} {t : Nat → Nat} (I : Inv A G e) (g1 : (0 ≤ x ∧ x ≤ 5)) (g2 : (0 ≤ y ∧ y ≤ 99)) (c : eNl e < 12) (hn : n ≤ 80) (h17 : G 10 0 17 = nI n)
    (f : CALL (roL L xs) mP mL (N + 5050) (d + 39) 20 [.ref 6000, .ref 20017, .int (nI n)] (HH A (up3 G 10 0 17 0) e) = some (some (.int (-1)), HH A (RS (up3 (up3 G 10 0 17 0) 6 0 2 (nI n)) z 0) (e_T e 20017))) :
    ∃ F : Nat → Int32, (∀ j, j < n → F j = A 20017 0 j) ∧ CALL (roL L xs) mP mL (N + 5050) (d + 40) 79 [.ref 10000, .int x, .int y] (HH A G e) = some (some (.int (nI (eNl e))), HH (upr A 20069 (eNx e) F) (up3 (upr (RS (up3 (up3 G 10 0 17 0) 6 0 2 (nI n)) z 0) 3 (eNl e) (fL x y)) 10 0 16 (nI (eNl e + 1))) (e_L (e_T e 20017) n)) := by
  obtain ⟨z1, z2, z3⟩ := I_cnl' I
  have hx : eNx e = eNl e := (I_bd' I).2.2.1
  have c12 : nI (eNl e) < 12 := nI_lt (b := 12) c (by decide)
  obtain ⟨F, hF, s⟩ := s223 (A := A) (G := RS (up3 (up3 G 10 0 17 0) 6 0 2 (nI n)) z 0) (e := e_T e 20017) (L := L) (xs := xs) (N := N) (d := d + 37) hn (show eNl e < 1000 by omega) (show eNx e < 1000 by omega)
  have s' : CALL (roL L xs) mP mL (N + 5050) (d + 39) 223 [.ref 20017, .int (nI n)] (hN1 (HH A (RS (up3 (up3 G 10 0 17 0) 6 0 2 (nI n)) z 0) (e_T e 20017)) (eNl e)) = some (some (.ref (20069 + eNx e)), hN2 (HH A (RS (up3 (up3 G 10 0 17 0) 6 0 2 (nI n)) z 0) (e_T e 20017)) (eNl e) (eNx e) n F) := s
  have n3 : ∀ K : Nat → PH → PR, nO (HH A (RS (up3 (up3 G 10 0 17 0) 6 0 2 (nI n)) z 0) (e_T e 20017)) 3 (clN 3) (dfl 3) K = K (3000 + eNl e) (hN1 (HH A (RS (up3 (up3 G 10 0 17 0) 6 0 2 (nI n)) z 0) (e_T e 20017)) (eNl e)) := fun K => nO3 (show eNl (e_T e 20017) < 1000 by show eNl e < 1000; omega)
  have hne : 3000 + eNl e ≠ 20069 + eNx e := by omega
  have h4 : hN4 A (RS (up3 (up3 G 10 0 17 0) 6 0 2 (nI n)) z 0) (e_T e 20017) (eNl e) (eNx e) n F x y = HH (upr A 20069 (eNx e) F) (upr (RS (up3 (up3 G 10 0 17 0) 6 0 2 (nI n)) z 0) 3 (eNl e) (fL x y)) (e_L (e_T e 20017) n) := hN4_e (e := e_T e 20017) (show eNl e < 1000 by omega) hx
  have z1a : RS (up3 (up3 G 10 0 17 0) 6 0 2 (nI n)) z 0 10 0 16 = nI (eNl e) := z1
  have z1b : upr (RS (up3 (up3 G 10 0 17 0) 6 0 2 (nI n)) z 0) 3 (eNl e) (fL x y) 10 0 16 = nI (eNl e) := z1
  refine ⟨F, hF, ?_⟩
  rw [m79, s93, cI_s, if_neg (fun q => bI_z.mp q g1), s96, cI_s, if_neg (fun q => bI_z.mp q g2), gf10000_16, z1, if_pos c12, gf10000_17, h17, pf10000_17, rf10000_8, rf10000_9, vo6000, f, cI_s, if_pos (show (-1 : Int32) < 0 by decide), rf10000_7, gf10000_16, z1a, n3, gR_L (show eNl e < 1000 by omega), s', cR_s, vO_L hne, s9 hne, cV_s, sR_L c (show eNx e < 1000 by omega), h4, gf10000_16, z1b, nI_1 (eNl e), pf10000_16, gf10000_16, up3_s, nI_pred]
theorem inv_lf (I : Inv A G e) {n z p' w' z' o' : Nat} {W' P' : Nat → Int32} {m : Int32} : Inv (WA (up3 A 20058 0 12 m) W' P') (GS (GB (up3 (RS (up3 (up3 G 10 0 17 0) 6 0 2 (nI n)) z 1) 11 0 36 0) 960 n) p' w' z' o') (e_T e 20017) := by
  have J21 := law_t (I_cnl' I).2.2 (I_law' I) (t' := A 20057 0) (z' := upd (A 20058 0) 12 m) (fun _ _ => rfl) (fun i hi => pk_un (by have := (I_cnl' I).2.2; omega))
  obtain ⟨i1, i2, i3, i4, i5, i6, i7, i8, i9, i10, i11, i12, i13, i14, i15, i16, i17, i18, i19, i20, i21, i22, i23, i24, i25⟩ := I
  exact ⟨i1, i2, ⟨0, by omega, rfl, rfl, fun j hj => absurd hj (by omega)⟩, i4, i5, i6, i7, i8, i9, i10, i11, i12, i13, i14, i15, i16, i17, i18, i19, i20, J21, i22, i23, i24, i25⟩
set_option maxHeartbeats 8000000 in
theorem inv_lt (I : Inv A G e) {n z p' w' z' o' : Nat} {W' P' F : Nat → Int32} {x y m : Int32} (c : eNl e < 12) (hn : n ≤ 80) (h3 : ∀ j, j < n → Bt (A 20017 0 j) (A 20057 0 (960 + j))) (hF : ∀ j, j < n → F j = A 20017 0 j) :
    Inv (up3 (up3 (upr (up3 (WA (up3 (upr A 20069 (eNx e) F) 20058 0 12 m) W' P') 20058 0 (eNl e) (nI n)) 20057 0 (cpT (eNl e) (A 20057 0) 0 n)) 20055 0 (eNl e) x) 20056 0 (eNl e) y) (up3 (GS (GB (up3 (up3 (upr (RS (up3 (up3 G 10 0 17 0) 6 0 2 (nI n)) z 0) 3 (eNl e) (fL x y)) 10 0 16 (nI (eNl e + 1))) 11 0 36 0) 960 n) p' w' z' o') 11 0 35 (nI (eNl e + 1))) (e_L (e_T e 20017) n) := by
  obtain ⟨b1, b2, b3, b4⟩ := I_bd' I
  have hx := b3
  have J21 := law_new (nl := eNl e) (n := n) (I_law' I) hn (L' := va_up (G 3) (eNl e) (fL x y)) (T' := va_up (A 20069) (eNx e) F) (c' := upd (A 20055 0) (eNl e) x) (y' := upd (A 20056 0) (eNl e) y) (t' := cpT (eNl e) (A 20057 0) 0 n) (z' := upd (upd (A 20058 0) 12 m) (eNl e) (nI n)) (tl' := va_up (eTl e) (eNx e) n) (r' := va_up (eR e 20014) (eNl e) (some (3000 + eNl e)))
    (fun i hi => if_neg (by omega)) (fun i hi => if_neg (by omega)) (fun i hi => pk_un (by omega)) (fun i hi => pk_un (by omega)) (fun q hq => cpT_o n 0 _ q (by omega)) (fun i hi => by rw [pk_un (by omega), pk_un (by omega)]) (fun i hi => if_neg (by omega)) (fun i hi => if_neg (by omega))
    (by rw [pk_us]; simp [va_up, fL]) (by rw [pk_us]; simp [va_up, fL]) (by rw [← hx]; simp [va_up]) pk_us (by simp [va_up]) (fun j hj => by
      have e1 : va_up (A 20069) (eNx e) F (eNl e) = F := by rw [← hx]; simp [va_up]
      rw [e1, hF j hj, cpT_i c n 0 _ j (by omega) (Nat.zero_le _) (by omega)]
      exact h3 j hj)
  have J19 : I_mch (eR (e_L (e_T e 20017) n)) (G 7) (eNr e) := by
    intro l hl d hd k
    have : eR (e_L (e_T e 20017) n) (20007 + l) = eR e (20007 + l) := if_neg (by omega)
    rw [this]
    exact I_mch' I l hl d hd k
  have J25 : I_bd (e_L (e_T e 20017) n) := by
    refine ⟨?_, ?_, ?_, b4⟩
    · show ((eLg e ++ [3000 + eNl e]) ++ [20069 + eNx e]).length ≤ 200 + eNr e + 2 * (eNl e + 1)
      rw [List.length_append, List.length_append]
      simp only [List.length_cons, List.length_nil]
      omega
    · show eUs e + 3 + n ≤ 10000 + 9 * eNr e + 200 * (eNl e + 1)
      omega
    · show eNx e + 1 = eNl e + 1
      omega
  obtain ⟨i1, i2, i3, i4, i5, i6, i7, i8, i9, i10, i11, i12, i13, i14, i15, i16, i17, i18, i19, i20, i21, i22, i23, i24, i25⟩ := I
  exact ⟨i1, i2, ⟨0, by omega, rfl, rfl, fun j hj => absurd hj (by omega)⟩, i4, i5, i6, i7, i8, i9, i10, i11, i12, i13, i14, i15, i16, i17, i18, J19, ⟨rfl, rfl, by show eNl e + 1 ≤ 12; omega⟩, J21, i22, i23, i24, J25⟩
set_option maxHeartbeats 8000000 in
theorem o_law (I : Inv A G e) (x y : Int32) : Op L xs N (d + 40) 79 186 [.int x, .int y] A G e := by
  have I0 := I
  obtain ⟨z1, z2, z3⟩ := I_cnl' I
  unfold Op
  by_cases g1 : (0 ≤ x ∧ x ≤ 5)
  · by_cases g2 : (0 ≤ y ∧ y ≤ 99)
    · by_cases c : eNl e < 12
      · obtain ⟨n, hn, h17, h36, h3⟩ := I_txt' I
        have c12 : nI (eNl e) < 12 := nI_lt (b := 12) c (by decide)
        have n12 : ¬ nI (eNl e) = 12 := fun q => absurd ((nI_eq (b := 12) (by omega) (by decide)).mp q) (by omega)
        obtain ⟨t, ht⟩ : ∃ t : Nat → Nat, ∀ p, p < n → t p < 256 ∧ A 20017 0 p = nI (t p) ∧ A 20057 0 (960 + p) = (nI (t p)).toInt8.toInt32 := by
          refine ⟨fun p => (A 20017 0 p).toNatClampNeg, fun p hp => ?_⟩
          obtain ⟨b, hb, e1, e2⟩ := h3 p hp
          have : (A 20017 0 p).toNatClampNeg = b := by rw [e1, nI_clamp (by omega)]
          show (A 20017 0 p).toNatClampNeg < 256 ∧ _ = nI (A 20017 0 p).toNatClampNeg ∧ _ = (nI (A 20017 0 p).toNatClampNeg).toInt8.toInt32
          rw [this]
          exact ⟨hb, e1, e2⟩
        have f := s20 (A := A) (G := up3 G 10 0 17 0) (e := e) (L := L) (xs := xs) (N := N) (d := d + 19) (q := 20017) (n := n) (a := nI n) (ln := 80) (t := t) (fun G' K => aL_of (by decide) (cell_arr (A := A) (G := G') (e := e_T e 20017) (k := 20017) (by decide) (by decide) rfl)) (if_neg (nI_nlt (a := 80) (b := n) (by omega) (by decide))) hn (fun p hp => (ht p hp).1) (fun G' i K hi => by rw [ga20017, ib_n (show i < 80 by omega) (by decide), nI_clamp (by omega), (ht i hi).2.1])
        cases ho : txt (kch t n) n with
        | inl z =>
          have hz := txt_le kch_n hn ho
          rw [ho] at f
          have f' : CALL (roL L xs) mP mL (N + 5050) (d + 39) 20 [.ref 6000, .ref 20017, .int (nI n)] (HH A (up3 G 10 0 17 0) e) = some (some (.int (nI z)), HH A (RS (up3 (up3 G 10 0 17 0) 6 0 2 (nI n)) z 1) (e_T e 20017)) := f
          obtain ⟨b, p', W', P', w', z', o', h, hΦ⟩ := s185 (A := up3 A 20058 0 12 (nI n)) (G := up3 (RS (up3 (up3 G 10 0 17 0) 6 0 2 (nI n)) z 1) 11 0 36 0) (e := e_T e 20017) (L := L) (xs := xs) (N := N) (d := d + 35) (i := 12) (n := n) (t := t) (by decide) up3_s hn (fun p hp => (ht p hp).1) (fun p hp => (ht p hp).2.2)
          rw [ho] at hΦ
          obtain ⟨rfl, rfl⟩ := hΦ
          have h' : CALL (roL L xs) mP mL (N + 5050) (d + 39) 185 [.ref 11000, .int 12] (HH (up3 A 20058 0 12 (nI n)) (up3 (RS (up3 (up3 G 10 0 17 0) 6 0 2 (nI n)) p' 1) 11 0 36 0) (e_T e 20017)) = some (some (.int (bB false)), HH (WA (up3 A 20058 0 12 (nI n)) W' P') (GS (GB (up3 (RS (up3 (up3 G 10 0 17 0) 6 0 2 (nI n)) p' 1) 11 0 36 0) 960 n) p' w' z' o') (e_T e 20017)) := h
          refine ⟨-10 - nI p', HH A (RS (up3 (up3 G 10 0 17 0) 6 0 2 (nI n)) p' 1) (e_T e 20017), ?_, -10 - nI p', HH (WA (up3 A 20058 0 12 (nI n)) W' P') (GS (GB (up3 (RS (up3 (up3 G 10 0 17 0) 6 0 2 (nI n)) p' 1) 11 0 36 0) 960 n) p' w' z' o') (e_T e 20017), m186 0 (by omega) (r := (some (.int (-10 - nI p')), HH (WA (up3 A 20058 0 12 (nI n)) W' P') (GS (GB (up3 (RS (up3 (up3 G 10 0 17 0) 6 0 2 (nI n)) p' 1) 11 0 36 0) 960 n) p' w' z' o') (e_T e 20017))) ?_, rfl, IH_i (inv_lf I)⟩
          · rw [m79, s93, cI_s, if_neg (fun q => bI_z.mp q g1), s96, cI_s, if_neg (fun q => bI_z.mp q g2), gf10000_16, z1, if_pos c12, gf10000_17, h17, pf10000_17, rf10000_8, rf10000_9, vo6000, f', cI_s, if_neg (nI_pos (by omega))]
          · rw [x186, vo11000, s125, cI_s, if_neg (fun q => bI_z.mp q g1), vo11000, h130, cI_s, if_neg (fun q => bI_z.mp q g2), gf11000_35, show RS (up3 (up3 G 10 0 17 0) 6 0 2 (nI n)) p' 1 11 0 35 = nI (eNl e) from z2, if_neg n12, rf11000_40, gf11000_36, show RS (up3 (up3 G 10 0 17 0) 6 0 2 (nI n)) p' 1 11 0 36 = nI n from h36, sa20058, ib_t vp12, show (12 : Int32).toNatClampNeg = 12 by decide, pf11000_36, vo11000, h', cI_s, if_pos (show bB false = 0 from rfl), gf11000_44, GS_44]
        | inr zv =>
          obtain ⟨z, v⟩ := zv
          rw [ho] at f
          obtain ⟨F, hF, s⟩ := s79t (z := z) (v := v) (t := t) I g1 g2 c hn h17 f
          obtain ⟨b, p', W', P', w', z', o', h, hΦ⟩ := s185 (A := up3 (upr A 20069 (eNx e) F) 20058 0 12 (nI n)) (G := up3 (up3 (upr (RS (up3 (up3 G 10 0 17 0) 6 0 2 (nI n)) z 0) 3 (eNl e) (fL x y)) 10 0 16 (nI (eNl e + 1))) 11 0 36 0) (e := e_L (e_T e 20017) n) (L := L) (xs := xs) (N := N) (d := d + 35) (i := 12) (n := n) (t := t) (by decide) up3_s hn (fun p hp => (ht p hp).1) (fun p hp => (ht p hp).2.2)
          rw [ho] at hΦ
          have hb : b = true := hΦ.1
          subst hb
          have h' : CALL (roL L xs) mP mL (N + 5050) (d + 39) 185 [.ref 11000, .int 12] (HH (up3 (upr A 20069 (eNx e) F) 20058 0 12 (nI n)) (up3 (up3 (upr (RS (up3 (up3 G 10 0 17 0) 6 0 2 (nI n)) z 0) 3 (eNl e) (fL x y)) 10 0 16 (nI (eNl e + 1))) 11 0 36 0) (e_L (e_T e 20017) n)) = some (some (.int (bB true)), HH (WA (up3 (upr A 20069 (eNx e) F) 20058 0 12 (nI n)) W' P') (GS (GB (up3 (up3 (upr (RS (up3 (up3 G 10 0 17 0) 6 0 2 (nI n)) z 0) 3 (eNl e) (fL x y)) 10 0 16 (nI (eNl e + 1))) 11 0 36 0) 960 n) p' w' z' o') (e_L (e_T e 20017) n)) := h
          have w := w186 (e := e_L (e_T e 20017) n) (L := L) (xs := xs) (C := CALL (roL L xs) mP mL (N + 5050) (d + 39)) (B := up3 (WA (up3 (upr A 20069 (eNx e) F) 20058 0 12 (nI n)) W' P') 20058 0 (eNl e) (nI n)) (G := GS (GB (up3 (up3 (upr (RS (up3 (up3 G 10 0 17 0) 6 0 2 (nI n)) z 0) 3 (eNl e) (fL x y)) 10 0 16 (nI (eNl e + 1))) 11 0 36 0) 960 n) p' w' z' o') (nl := eNl e) (n := n) (x := x) (y := y) c hn z2 (by rw [up3_j (by omega)]; exact (up3_s : up3 (upr A 20069 (eNx e) F) 20058 0 12 (nI n) 20058 0 12 = nI n)) n 0 (A 20057 0) (by omega)
          rw [show upr (up3 (WA (up3 (upr A 20069 (eNx e) F) 20058 0 12 (nI n)) W' P') 20058 0 (eNl e) (nI n)) 20057 0 (A 20057 0) = up3 (WA (up3 (upr A 20069 (eNx e) F) 20058 0 12 (nI n)) W' P') 20058 0 (eNl e) (nI n) from upr_id] at w
          refine ⟨nI (eNl e), HH (upr A 20069 (eNx e) F) (up3 (upr (RS (up3 (up3 G 10 0 17 0) 6 0 2 (nI n)) z 0) 3 (eNl e) (fL x y)) 10 0 16 (nI (eNl e + 1))) (e_L (e_T e 20017) n), s, nI (eNl e), HH (up3 (up3 (upr (up3 (WA (up3 (upr A 20069 (eNx e) F) 20058 0 12 (nI n)) W' P') 20058 0 (eNl e) (nI n)) 20057 0 (cpT (eNl e) (A 20057 0) 0 n)) 20055 0 (eNl e) x) 20056 0 (eNl e) y) (up3 (GS (GB (up3 (up3 (upr (RS (up3 (up3 G 10 0 17 0) 6 0 2 (nI n)) z 0) 3 (eNl e) (fL x y)) 10 0 16 (nI (eNl e + 1))) 11 0 36 0) 960 n) p' w' z' o') 11 0 35 (nI (eNl e + 1))) (e_L (e_T e 20017) n), m186 (2 * (n + 1)) (by omega) (r := (some (.int (nI (eNl e))), HH (up3 (up3 (upr (up3 (WA (up3 (upr A 20069 (eNx e) F) 20058 0 12 (nI n)) W' P') 20058 0 (eNl e) (nI n)) 20057 0 (cpT (eNl e) (A 20057 0) 0 n)) 20055 0 (eNl e) x) 20056 0 (eNl e) y) (up3 (GS (GB (up3 (up3 (upr (RS (up3 (up3 G 10 0 17 0) 6 0 2 (nI n)) z 0) 3 (eNl e) (fL x y)) 10 0 16 (nI (eNl e + 1))) 11 0 36 0) 960 n) p' w' z' o') 11 0 35 (nI (eNl e + 1))) (e_L (e_T e 20017) n))) ?_, rfl, IH_i (inv_lt I c hn h3 hF)⟩
          rw [x186, vo11000, s125, cI_s, if_neg (fun q => bI_z.mp q g1), vo11000, h130, cI_s, if_neg (fun q => bI_z.mp q g2), gf11000_35, show up3 (upr (RS (up3 (up3 G 10 0 17 0) 6 0 2 (nI n)) z 0) 3 (eNl e) (fL x y)) 10 0 16 (nI (eNl e + 1)) 11 0 35 = nI (eNl e) from z2, if_neg n12, rf11000_40, gf11000_36, show up3 (upr (RS (up3 (up3 G 10 0 17 0) 6 0 2 (nI n)) z 0) 3 (eNl e) (fL x y)) 10 0 16 (nI (eNl e + 1)) 11 0 36 = nI n from h36, sa20058, ib_t vp12, show (12 : Int32).toNatClampNeg = 12 by decide, pf11000_36, vo11000, h', cI_s, if_neg (show ¬ bB true = 0 by decide), rf11000_40, gf11000_35, show GS (GB (up3 (up3 (upr (RS (up3 (up3 G 10 0 17 0) 6 0 2 (nI n)) z 0) 3 (eNl e) (fL x y)) 10 0 16 (nI (eNl e + 1))) 11 0 36 0) 960 n) p' w' z' o' 11 0 35 = nI (eNl e) from z2, rf11000_40, ga20058, ib_t vp12, show (12 : Int32).toNatClampNeg = 12 by decide, show WA (up3 (upr A 20069 (eNx e) F) 20058 0 12 (nI n)) W' P' 20058 0 12 = nI n from (up3_s : up3 (upr A 20069 (eNx e) F) 20058 0 12 (nI n) 20058 0 12 = nI n), sa20058, ib_n (show eNl e < 13 by omega) (by decide), nI_clamp (show eNl e < 2 ^ 31 by omega)]
          exact w
      · have c12 : ¬ nI (eNl e) < 12 := nI_nlt (b := 12) (by omega) (by omega)
        have n12 : nI (eNl e) = 12 := by rw [show eNl e = 12 by omega]; rfl
        refine ⟨-4, HH A G e, ?_, -4, HH A G e, m186 0 (by omega) ?_, rfl, IH_i I0⟩
        · rw [m79, s93, cI_s, if_neg (fun q => bI_z.mp q g1), s96, cI_s, if_neg (fun q => bI_z.mp q g2), gf10000_16, z1, if_neg c12]
        · rw [x186, vo11000, s125, cI_s, if_neg (fun q => bI_z.mp q g1), vo11000, h130, cI_s, if_neg (fun q => bI_z.mp q g2), gf11000_35, z2, if_pos n12]
    · refine ⟨-2, HH A G e, ?_, -2, HH A G e, m186 0 (by omega) ?_, rfl, IH_i I0⟩
      · rw [m79, s93, cI_s, if_neg (fun q => bI_z.mp q g1), s96, cI_s, if_pos (bI_z.mpr g2)]
      · rw [x186, vo11000, s125, cI_s, if_neg (fun q => bI_z.mp q g1), vo11000, h130, cI_s, if_pos (bI_z.mpr g2)]
  · refine ⟨-1, HH A G e, ?_, -1, HH A G e, m186 0 (by omega) ?_, rfl, IH_i I0⟩
    · rw [m79, s93, cI_s, if_pos (bI_z.mpr g1)]
    · rw [x186, vo11000, s125, cI_s, if_pos (bI_z.mpr g1)]
end LAW
