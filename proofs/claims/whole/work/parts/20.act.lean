/-! ACTS -/
def tA (c : Nat) : Mat → Nat → List Int32 → Mat
  | A, _, [] => A
  | A, r, b :: bs => tA c (up3 A c 0 r b) (r + 1) bs
theorem tA_app {c : Nat} : ∀ (b1 b2 : List Int32) (A : Mat) (r : Nat), tA c (tA c A r b1) (r + b1.length) b2 = tA c A r (b1 ++ b2)
  | [], b2, A, r => rfl
  | b :: bs, b2, A, r => by
    show tA c (tA c (up3 A c 0 r b) (r + 1) bs) (r + (bs.length + 1)) b2 = tA c (up3 A c 0 r b) (r + 1) (bs ++ b2)
    rw [← tA_app bs b2, show r + (bs.length + 1) = r + 1 + bs.length by omega]
theorem tA_c {c q : Nat} (h : q ≠ c) : ∀ (bs : List Int32) (A : Mat) (r : Nat), tA c A r bs q = A q
  | [], A, r => rfl
  | b :: bs, A, r => by
    show tA c (up3 A c 0 r b) (r + 1) bs q = A q
    rw [tA_c h bs, up3_c h]
theorem up3_up3 {M : Mat} {c i j : Nat} {v w : Int32} : up3 (up3 M c i j v) c i j w = up3 M c i j w := by
  rw [up3_e, up3_r, up3_e, upr_s]
  show upr M c i _ = upr M c i _
  congr 1
  funext q
  simp only [upd]
  split <;> rfl
theorem tA_eq {c k : Nat} {n : Nat} : ∀ (bs : List Int32) (A B : Mat) (r : Nat), I_eqA (A c 0) (B k 0) n → I_eqA (tA c A r bs c 0) (tA k B r bs k 0) n
  | [], A, B, r, q => q
  | b :: bs, A, B, r, q => by
    refine tA_eq bs _ _ (r + 1) ?_
    rw [up3_r, up3_r]
    exact eqA_u q
def cA (L : Nat) (xs : Nat → Int32) (N d s a i : Nat) (R : Nat → Int32) (x v : Int32) (bs : List Int32) (m : Nat) : Prop := ∀ (A G : Mat) (e : Ev) (dp r : Nat), i < eNr e → G 7 i = R → G 0 0 1 = nI r → r + bs.length ≤ 20 → dp + m ≤ 10 →
  CALL (roL L xs) mP mL (N + 5050) d 2 [.ref 0, .int (nI s), .int (nI a), .ref (7000 + i), .int x, .int (nI dp)] (HH A G e) = some (some (.int v), HH (tA 20020 A r bs) (up3 G 0 0 1 (nI (r + bs.length))) e)
def cB (L : Nat) (xs : Nat → Int32) (N d : Nat) (b ab : Int32) (i : Nat) (R : Nat → Int32) (x v : Int32) (bs : List Int32) (m : Nat) : Prop := ∀ (A G : Mat) (e : Ev) (dp r : Nat), i < eNr e → G 7 i = R → G 0 0 1 = nI r → r + bs.length ≤ 20 → dp + m ≤ 10 →
  CALL (roL L xs) mP mL (N + 5050) d 3 [.ref 0, .int b, .int ab, .ref (7000 + i), .int x, .int (nI dp)] (HH A G e) = some (some (.int v), HH (tA 20020 A r bs) (up3 G 0 0 1 (nI (r + bs.length))) e)
section ACT
variable {L : Nat} {xs : Nat → Int32} {N d i : Nat} {R : Nat → Int32} {x : Int32}
theorem f0_0 {v : Int32} {bs : List Int32} {m : Nat} (h : cB L xs N d 10 (-1) i R x v bs m) : cA L xs N (d + 1) 0 0 i R x v bs m := by
  intro A G e dp r h1 h2 h3 h4 h5
  have h6 : CALL (roL L xs) mP mL (N + 5050) (d + 1) 2 [.ref 0, .int (nI 0), .int (nI 0), .ref (7000 + i), .int x, .int (nI dp)] (HH A G e) = vO (HH A G e) (some (.ref 0)) 0 (cI (CALL (roL L xs) mP mL (N + 5050) d 3 [.ref 0, .int 10, .int (-1), .ref (7000 + i), .int x, .int (nI dp)] (HH A G e)) fun y h => some (some (.int y), h)) := rfl
  rw [h6, vo0, h A G e dp r h1 h2 h3 h4 h5, cI_s]
theorem f0_1 {v : Int32} {bs : List Int32} {m : Nat} (h : cB L xs N d 11 (-1) i R x v bs m) : cA L xs N (d + 1) 0 1 i R x v bs m := by
  intro A G e dp r h1 h2 h3 h4 h5
  have h6 : CALL (roL L xs) mP mL (N + 5050) (d + 1) 2 [.ref 0, .int (nI 0), .int (nI 1), .ref (7000 + i), .int x, .int (nI dp)] (HH A G e) = vO (HH A G e) (some (.ref 0)) 0 (cI (CALL (roL L xs) mP mL (N + 5050) d 3 [.ref 0, .int 11, .int (-1), .ref (7000 + i), .int x, .int (nI dp)] (HH A G e)) fun y h => some (some (.int y), h)) := rfl
  rw [h6, vo0, h A G e dp r h1 h2 h3 h4 h5, cI_s]
theorem f0_2 {v : Int32} {bs : List Int32} {m : Nat} (h : cB L xs N d 12 (-1) i R x v bs m) : cA L xs N (d + 1) 0 2 i R x v bs m := by
  intro A G e dp r h1 h2 h3 h4 h5
  have h6 : CALL (roL L xs) mP mL (N + 5050) (d + 1) 2 [.ref 0, .int (nI 0), .int (nI 2), .ref (7000 + i), .int x, .int (nI dp)] (HH A G e) = vO (HH A G e) (some (.ref 0)) 0 (cI (CALL (roL L xs) mP mL (N + 5050) d 3 [.ref 0, .int 12, .int (-1), .ref (7000 + i), .int x, .int (nI dp)] (HH A G e)) fun y h => some (some (.int y), h)) := rfl
  rw [h6, vo0, h A G e dp r h1 h2 h3 h4 h5, cI_s]
theorem f1_0 {v : Int32} {bs : List Int32} {m : Nat} (h : cB L xs N d 10 (-1) i R x v bs m) : cA L xs N (d + 1) 1 0 i R x v bs m := by
  intro A G e dp r h1 h2 h3 h4 h5
  have h6 : CALL (roL L xs) mP mL (N + 5050) (d + 1) 2 [.ref 0, .int (nI 1), .int (nI 0), .ref (7000 + i), .int x, .int (nI dp)] (HH A G e) = vO (HH A G e) (some (.ref 0)) 0 (cI (CALL (roL L xs) mP mL (N + 5050) d 3 [.ref 0, .int 10, .int (-1), .ref (7000 + i), .int x, .int (nI dp)] (HH A G e)) fun y h => some (some (.int y), h)) := rfl
  rw [h6, vo0, h A G e dp r h1 h2 h3 h4 h5, cI_s]
theorem f1_1 {v : Int32} {bs : List Int32} {m : Nat} (h : cB L xs N d 20 (0) i R x v bs m) : cA L xs N (d + 1) 1 1 i R x v bs m := by
  intro A G e dp r h1 h2 h3 h4 h5
  have h6 : CALL (roL L xs) mP mL (N + 5050) (d + 1) 2 [.ref 0, .int (nI 1), .int (nI 1), .ref (7000 + i), .int x, .int (nI dp)] (HH A G e) = vO (HH A G e) (some (.ref 0)) 0 (cI (CALL (roL L xs) mP mL (N + 5050) d 3 [.ref 0, .int 20, .int (0), .ref (7000 + i), .int x, .int (nI dp)] (HH A G e)) fun y h => some (some (.int y), h)) := rfl
  rw [h6, vo0, h A G e dp r h1 h2 h3 h4 h5, cI_s]
theorem f1_2 {v : Int32} {bs : List Int32} {m : Nat} (h : cB L xs N d 12 (-1) i R x v bs m) : cA L xs N (d + 1) 1 2 i R x v bs m := by
  intro A G e dp r h1 h2 h3 h4 h5
  have h6 : CALL (roL L xs) mP mL (N + 5050) (d + 1) 2 [.ref 0, .int (nI 1), .int (nI 2), .ref (7000 + i), .int x, .int (nI dp)] (HH A G e) = vO (HH A G e) (some (.ref 0)) 0 (cI (CALL (roL L xs) mP mL (N + 5050) d 3 [.ref 0, .int 12, .int (-1), .ref (7000 + i), .int x, .int (nI dp)] (HH A G e)) fun y h => some (some (.int y), h)) := rfl
  rw [h6, vo0, h A G e dp r h1 h2 h3 h4 h5, cI_s]
theorem f2_0 {v : Int32} {bs : List Int32} {m : Nat} (h : cB L xs N d 30 (0) i R x v bs m) : cA L xs N (d + 1) 2 0 i R x v bs m := by
  intro A G e dp r h1 h2 h3 h4 h5
  have h6 : CALL (roL L xs) mP mL (N + 5050) (d + 1) 2 [.ref 0, .int (nI 2), .int (nI 0), .ref (7000 + i), .int x, .int (nI dp)] (HH A G e) = vO (HH A G e) (some (.ref 0)) 0 (cI (CALL (roL L xs) mP mL (N + 5050) d 3 [.ref 0, .int 30, .int (0), .ref (7000 + i), .int x, .int (nI dp)] (HH A G e)) fun y h => some (some (.int y), h)) := rfl
  rw [h6, vo0, h A G e dp r h1 h2 h3 h4 h5, cI_s]
theorem f2_1 {v : Int32} {bs : List Int32} {m : Nat} (h : cB L xs N d 11 (-1) i R x v bs m) : cA L xs N (d + 1) 2 1 i R x v bs m := by
  intro A G e dp r h1 h2 h3 h4 h5
  have h6 : CALL (roL L xs) mP mL (N + 5050) (d + 1) 2 [.ref 0, .int (nI 2), .int (nI 1), .ref (7000 + i), .int x, .int (nI dp)] (HH A G e) = vO (HH A G e) (some (.ref 0)) 0 (cI (CALL (roL L xs) mP mL (N + 5050) d 3 [.ref 0, .int 11, .int (-1), .ref (7000 + i), .int x, .int (nI dp)] (HH A G e)) fun y h => some (some (.int y), h)) := rfl
  rw [h6, vo0, h A G e dp r h1 h2 h3 h4 h5, cI_s]
theorem f2_2 {v : Int32} {bs : List Int32} {m : Nat} (h : cB L xs N d 31 (0) i R x v bs m) : cA L xs N (d + 1) 2 2 i R x v bs m := by
  intro A G e dp r h1 h2 h3 h4 h5
  have h6 : CALL (roL L xs) mP mL (N + 5050) (d + 1) 2 [.ref 0, .int (nI 2), .int (nI 2), .ref (7000 + i), .int x, .int (nI dp)] (HH A G e) = vO (HH A G e) (some (.ref 0)) 0 (cI (CALL (roL L xs) mP mL (N + 5050) d 3 [.ref 0, .int 31, .int (0), .ref (7000 + i), .int x, .int (nI dp)] (HH A G e)) fun y h => some (some (.int y), h)) := rfl
  rw [h6, vo0, h A G e dp r h1 h2 h3 h4 h5, cI_s]
theorem f3_0 {v : Int32} {bs : List Int32} {m : Nat} (h : cB L xs N d 40 (0) i R x v bs m) : cA L xs N (d + 1) 3 0 i R x v bs m := by
  intro A G e dp r h1 h2 h3 h4 h5
  have h6 : CALL (roL L xs) mP mL (N + 5050) (d + 1) 2 [.ref 0, .int (nI 3), .int (nI 0), .ref (7000 + i), .int x, .int (nI dp)] (HH A G e) = vO (HH A G e) (some (.ref 0)) 0 (cI (CALL (roL L xs) mP mL (N + 5050) d 3 [.ref 0, .int 40, .int (0), .ref (7000 + i), .int x, .int (nI dp)] (HH A G e)) fun y h => some (some (.int y), h)) := rfl
  rw [h6, vo0, h A G e dp r h1 h2 h3 h4 h5, cI_s]
theorem f3_1 {v : Int32} {bs : List Int32} {m : Nat} (h : cB L xs N d 11 (-1) i R x v bs m) : cA L xs N (d + 1) 3 1 i R x v bs m := by
  intro A G e dp r h1 h2 h3 h4 h5
  have h6 : CALL (roL L xs) mP mL (N + 5050) (d + 1) 2 [.ref 0, .int (nI 3), .int (nI 1), .ref (7000 + i), .int x, .int (nI dp)] (HH A G e) = vO (HH A G e) (some (.ref 0)) 0 (cI (CALL (roL L xs) mP mL (N + 5050) d 3 [.ref 0, .int 11, .int (-1), .ref (7000 + i), .int x, .int (nI dp)] (HH A G e)) fun y h => some (some (.int y), h)) := rfl
  rw [h6, vo0, h A G e dp r h1 h2 h3 h4 h5, cI_s]
theorem f3_2 {v : Int32} {bs : List Int32} {m : Nat} (h : cB L xs N d 12 (-1) i R x v bs m) : cA L xs N (d + 1) 3 2 i R x v bs m := by
  intro A G e dp r h1 h2 h3 h4 h5
  have h6 : CALL (roL L xs) mP mL (N + 5050) (d + 1) 2 [.ref 0, .int (nI 3), .int (nI 2), .ref (7000 + i), .int x, .int (nI dp)] (HH A G e) = vO (HH A G e) (some (.ref 0)) 0 (cI (CALL (roL L xs) mP mL (N + 5050) d 3 [.ref 0, .int 12, .int (-1), .ref (7000 + i), .int x, .int (nI dp)] (HH A G e)) fun y h => some (some (.int y), h)) := rfl
  rw [h6, vo0, h A G e dp r h1 h2 h3 h4 h5, cI_s]
theorem f4_0 {v : Int32} {bs : List Int32} {m : Nat} (h : cB L xs N d 10 (-1) i R x v bs m) : cA L xs N (d + 1) 4 0 i R x v bs m := by
  intro A G e dp r h1 h2 h3 h4 h5
  have h6 : CALL (roL L xs) mP mL (N + 5050) (d + 1) 2 [.ref 0, .int (nI 4), .int (nI 0), .ref (7000 + i), .int x, .int (nI dp)] (HH A G e) = vO (HH A G e) (some (.ref 0)) 0 (cI (CALL (roL L xs) mP mL (N + 5050) d 3 [.ref 0, .int 10, .int (-1), .ref (7000 + i), .int x, .int (nI dp)] (HH A G e)) fun y h => some (some (.int y), h)) := rfl
  rw [h6, vo0, h A G e dp r h1 h2 h3 h4 h5, cI_s]
theorem f4_1 {v : Int32} {bs : List Int32} {m : Nat} (h : cB L xs N d 11 (-1) i R x v bs m) : cA L xs N (d + 1) 4 1 i R x v bs m := by
  intro A G e dp r h1 h2 h3 h4 h5
  have h6 : CALL (roL L xs) mP mL (N + 5050) (d + 1) 2 [.ref 0, .int (nI 4), .int (nI 1), .ref (7000 + i), .int x, .int (nI dp)] (HH A G e) = vO (HH A G e) (some (.ref 0)) 0 (cI (CALL (roL L xs) mP mL (N + 5050) d 3 [.ref 0, .int 11, .int (-1), .ref (7000 + i), .int x, .int (nI dp)] (HH A G e)) fun y h => some (some (.int y), h)) := rfl
  rw [h6, vo0, h A G e dp r h1 h2 h3 h4 h5, cI_s]
theorem f4_2 {v : Int32} {bs : List Int32} {m : Nat} (h : cB L xs N d 50 (0) i R x v bs m) : cA L xs N (d + 1) 4 2 i R x v bs m := by
  intro A G e dp r h1 h2 h3 h4 h5
  have h6 : CALL (roL L xs) mP mL (N + 5050) (d + 1) 2 [.ref 0, .int (nI 4), .int (nI 2), .ref (7000 + i), .int x, .int (nI dp)] (HH A G e) = vO (HH A G e) (some (.ref 0)) 0 (cI (CALL (roL L xs) mP mL (N + 5050) d 3 [.ref 0, .int 50, .int (0), .ref (7000 + i), .int x, .int (nI dp)] (HH A G e)) fun y h => some (some (.int y), h)) := rfl
  rw [h6, vo0, h A G e dp r h1 h2 h3 h4 h5, cI_s]
theorem f5_0 {v : Int32} {bs : List Int32} {m : Nat} (h : cB L xs N d 10 (-1) i R x v bs m) : cA L xs N (d + 1) 5 0 i R x v bs m := by
  intro A G e dp r h1 h2 h3 h4 h5
  have h6 : CALL (roL L xs) mP mL (N + 5050) (d + 1) 2 [.ref 0, .int (nI 5), .int (nI 0), .ref (7000 + i), .int x, .int (nI dp)] (HH A G e) = vO (HH A G e) (some (.ref 0)) 0 (cI (CALL (roL L xs) mP mL (N + 5050) d 3 [.ref 0, .int 10, .int (-1), .ref (7000 + i), .int x, .int (nI dp)] (HH A G e)) fun y h => some (some (.int y), h)) := rfl
  rw [h6, vo0, h A G e dp r h1 h2 h3 h4 h5, cI_s]
theorem f5_1 {v : Int32} {bs : List Int32} {m : Nat} (h : cB L xs N d 60 (0) i R x v bs m) : cA L xs N (d + 1) 5 1 i R x v bs m := by
  intro A G e dp r h1 h2 h3 h4 h5
  have h6 : CALL (roL L xs) mP mL (N + 5050) (d + 1) 2 [.ref 0, .int (nI 5), .int (nI 1), .ref (7000 + i), .int x, .int (nI dp)] (HH A G e) = vO (HH A G e) (some (.ref 0)) 0 (cI (CALL (roL L xs) mP mL (N + 5050) d 3 [.ref 0, .int 60, .int (0), .ref (7000 + i), .int x, .int (nI dp)] (HH A G e)) fun y h => some (some (.int y), h)) := rfl
  rw [h6, vo0, h A G e dp r h1 h2 h3 h4 h5, cI_s]
theorem f5_2 {v : Int32} {bs : List Int32} {m : Nat} (h : cB L xs N d 12 (-1) i R x v bs m) : cA L xs N (d + 1) 5 2 i R x v bs m := by
  intro A G e dp r h1 h2 h3 h4 h5
  have h6 : CALL (roL L xs) mP mL (N + 5050) (d + 1) 2 [.ref 0, .int (nI 5), .int (nI 2), .ref (7000 + i), .int x, .int (nI dp)] (HH A G e) = vO (HH A G e) (some (.ref 0)) 0 (cI (CALL (roL L xs) mP mL (N + 5050) d 3 [.ref 0, .int 12, .int (-1), .ref (7000 + i), .int x, .int (nI dp)] (HH A G e)) fun y h => some (some (.int y), h)) := rfl
  rw [h6, vo0, h A G e dp r h1 h2 h3 h4 h5, cI_s]
theorem f6_0 {v : Int32} {bs : List Int32} {m : Nat} (h : cB L xs N d 70 (2) i R x v bs m) : cA L xs N (d + 1) 6 0 i R x v bs m := by
  intro A G e dp r h1 h2 h3 h4 h5
  have h6 : CALL (roL L xs) mP mL (N + 5050) (d + 1) 2 [.ref 0, .int (nI 6), .int (nI 0), .ref (7000 + i), .int x, .int (nI dp)] (HH A G e) = vO (HH A G e) (some (.ref 0)) 0 (cI (CALL (roL L xs) mP mL (N + 5050) d 3 [.ref 0, .int 70, .int (2), .ref (7000 + i), .int x, .int (nI dp)] (HH A G e)) fun y h => some (some (.int y), h)) := rfl
  rw [h6, vo0, h A G e dp r h1 h2 h3 h4 h5, cI_s]
theorem f6_1 {v : Int32} {bs : List Int32} {m : Nat} (h : cB L xs N d 11 (-1) i R x v bs m) : cA L xs N (d + 1) 6 1 i R x v bs m := by
  intro A G e dp r h1 h2 h3 h4 h5
  have h6 : CALL (roL L xs) mP mL (N + 5050) (d + 1) 2 [.ref 0, .int (nI 6), .int (nI 1), .ref (7000 + i), .int x, .int (nI dp)] (HH A G e) = vO (HH A G e) (some (.ref 0)) 0 (cI (CALL (roL L xs) mP mL (N + 5050) d 3 [.ref 0, .int 11, .int (-1), .ref (7000 + i), .int x, .int (nI dp)] (HH A G e)) fun y h => some (some (.int y), h)) := rfl
  rw [h6, vo0, h A G e dp r h1 h2 h3 h4 h5, cI_s]
theorem f6_2 {v : Int32} {bs : List Int32} {m : Nat} (h : cB L xs N d 71 (2) i R x v bs m) : cA L xs N (d + 1) 6 2 i R x v bs m := by
  intro A G e dp r h1 h2 h3 h4 h5
  have h6 : CALL (roL L xs) mP mL (N + 5050) (d + 1) 2 [.ref 0, .int (nI 6), .int (nI 2), .ref (7000 + i), .int x, .int (nI dp)] (HH A G e) = vO (HH A G e) (some (.ref 0)) 0 (cI (CALL (roL L xs) mP mL (N + 5050) d 3 [.ref 0, .int 71, .int (2), .ref (7000 + i), .int x, .int (nI dp)] (HH A G e)) fun y h => some (some (.int y), h)) := rfl
  rw [h6, vo0, h A G e dp r h1 h2 h3 h4 h5, cI_s]
theorem B10 {ab : Int32} (hi : i < 1000) : cB L xs N (d + 1) 10 ab i R x (x + R 5) ([10]) 0 := by
  intro A G e dp r h1 h2 h3 h4 h5
  simp only [List.length_cons, List.length_append, List.length_nil] at h4
  have hc := nI_clamp (n := r) (by omega)
  have h7 : up3 G 0 0 1 (nI (r + 1)) 7 i = R := h2
  rw [m3, if_neg (show ¬ (10 : Int32) < nI dp from nI_nlt (a := 10) (by omega) (by decide)), gf0_1, h3, if_pos (show nI r < (20 : Int32) from nI_lt (b := 20) (by omega) (by decide)), rf0_0, gf0_1, h3, sa20020, ib_n (show r < 20 by omega) (by decide), hc, gf0_1, h3, pf0_1, nI_1, if_pos rfl, gI7 h1 hi (show 5 < 9 by decide), h7]
  rfl
theorem B11 {v : Int32} {bs : List Int32} {m : Nat} {ab : Int32} (hi : i < 1000) {K : Nat} (hK : R 3 = nI K) (h : cA L xs N d K 0 i R x v bs m) : cB L xs N (d + 1) 11 ab i R x (v - R 2) (11 :: bs) (m + 1) := by
  intro A G e dp r h1 h2 h3 h4 h5
  simp only [List.length_cons, List.length_append, List.length_nil] at h4
  have hc := nI_clamp (n := r) (by omega)
  have h7 : up3 G 0 0 1 (nI (r + 1)) 7 i = R := h2
  rw [m3, if_neg (show ¬ (10 : Int32) < nI dp from nI_nlt (a := 10) (by omega) (by decide)), gf0_1, h3, if_pos (show nI r < (20 : Int32) from nI_lt (b := 20) (by omega) (by decide)), rf0_0, gf0_1, h3, sa20020, ib_n (show r < 20 by omega) (by decide), hc, gf0_1, h3, pf0_1, nI_1, if_neg (show ¬ (11 : Int32) = 10 by decide), if_pos rfl, gI7 h1 hi (show 3 < 9 by decide), h7, hK, vo0, nI_1]
  have c1 := h (up3 A 20020 0 r 11) (up3 G 0 0 1 (nI (r + 1))) e (dp + 1) (r + 1) h1 h7 up3_s (by omega) (by omega)
  refine (congrArg (fun z => cI z _) c1).trans ?_
  rw [cI_s, gI7 h1 hi (show 2 < 9 by decide), up3_up3, show r + 1 + bs.length = r + (bs.length + 1) by omega, show up3 G 0 0 1 (nI (r + (bs.length + 1))) 7 i = R from h2]
  rfl
theorem B12 {v : Int32} {bs : List Int32} {m : Nat} {ab : Int32} (hi : i < 1000) {K : Nat} (hK : R 3 = nI K) (h : cA L xs N d K 1 i R x v bs m) : cB L xs N (d + 1) 12 ab i R x (v ^^^ R 0) (12 :: bs) (m + 1) := by
  intro A G e dp r h1 h2 h3 h4 h5
  simp only [List.length_cons, List.length_append, List.length_nil] at h4
  have hc := nI_clamp (n := r) (by omega)
  have h7 : up3 G 0 0 1 (nI (r + 1)) 7 i = R := h2
  rw [m3, if_neg (show ¬ (10 : Int32) < nI dp from nI_nlt (a := 10) (by omega) (by decide)), gf0_1, h3, if_pos (show nI r < (20 : Int32) from nI_lt (b := 20) (by omega) (by decide)), rf0_0, gf0_1, h3, sa20020, ib_n (show r < 20 by omega) (by decide), hc, gf0_1, h3, pf0_1, nI_1, if_neg (show ¬ (12 : Int32) = 10 by decide), if_neg (show ¬ (12 : Int32) = 11 by decide), if_pos rfl, gI7 h1 hi (show 3 < 9 by decide), h7, hK, vo0, nI_1]
  have c1 := h (up3 A 20020 0 r 12) (up3 G 0 0 1 (nI (r + 1))) e (dp + 1) (r + 1) h1 h7 up3_s (by omega) (by omega)
  refine (congrArg (fun z => cI z _) c1).trans ?_
  rw [cI_s, gI7 h1 hi (show 0 < 9 by decide), up3_up3, show r + 1 + bs.length = r + (bs.length + 1) by omega, show up3 G 0 0 1 (nI (r + (bs.length + 1))) 7 i = R from h2]
  rfl
theorem B20 {v : Int32} {bs : List Int32} {m : Nat} (hi : i < 1000) (h : cA L xs N d 0 1 i R (x * 2) v bs m) : cB L xs N (d + 1) 20 (0) i R x (v) (20 :: bs) (m + 1) := by
  intro A G e dp r h1 h2 h3 h4 h5
  simp only [List.length_cons, List.length_append, List.length_nil] at h4
  have hc := nI_clamp (n := r) (by omega)
  have h7 : up3 G 0 0 1 (nI (r + 1)) 7 i = R := h2
  rw [m3, if_neg (show ¬ (10 : Int32) < nI dp from nI_nlt (a := 10) (by omega) (by decide)), gf0_1, h3, if_pos (show nI r < (20 : Int32) from nI_lt (b := 20) (by omega) (by decide)), rf0_0, gf0_1, h3, sa20020, ib_n (show r < 20 by omega) (by decide), hc, gf0_1, h3, pf0_1, nI_1, if_neg (show ¬ (20 : Int32) = 10 by decide), if_neg (show ¬ (20 : Int32) = 11 by decide), if_neg (show ¬ (20 : Int32) = 12 by decide), if_pos rfl, vo0, nI_1]
  have c1 := h (up3 A 20020 0 r 20) (up3 G 0 0 1 (nI (r + 1))) e (dp + 1) (r + 1) h1 h7 up3_s (by omega) (by omega)
  refine (congrArg (fun z => cI z _) c1).trans ?_
  rw [cI_s, up3_up3, show r + 1 + bs.length = r + (bs.length + 1) by omega]
  rfl
theorem B30 {v : Int32} {bs : List Int32} {m : Nat} (hi : i < 1000) (h : cA L xs N d 0 0 i R x v bs m) : cB L xs N (d + 1) 30 (0) i R x (v - 90) (30 :: bs) (m + 1) := by
  intro A G e dp r h1 h2 h3 h4 h5
  simp only [List.length_cons, List.length_append, List.length_nil] at h4
  have hc := nI_clamp (n := r) (by omega)
  have h7 : up3 G 0 0 1 (nI (r + 1)) 7 i = R := h2
  rw [m3, if_neg (show ¬ (10 : Int32) < nI dp from nI_nlt (a := 10) (by omega) (by decide)), gf0_1, h3, if_pos (show nI r < (20 : Int32) from nI_lt (b := 20) (by omega) (by decide)), rf0_0, gf0_1, h3, sa20020, ib_n (show r < 20 by omega) (by decide), hc, gf0_1, h3, pf0_1, nI_1, if_neg (show ¬ (30 : Int32) = 10 by decide), if_neg (show ¬ (30 : Int32) = 11 by decide), if_neg (show ¬ (30 : Int32) = 12 by decide), if_neg (show ¬ (30 : Int32) = 20 by decide), if_pos rfl, vo0, nI_1]
  have c1 := h (up3 A 20020 0 r 30) (up3 G 0 0 1 (nI (r + 1))) e (dp + 1) (r + 1) h1 h7 up3_s (by omega) (by omega)
  refine (congrArg (fun z => cI z _) c1).trans ?_
  rw [cI_s, up3_up3, show r + 1 + bs.length = r + (bs.length + 1) by omega]
  rfl
theorem B40 {v : Int32} {bs : List Int32} {m : Nat} (hi : i < 1000) (h : cA L xs N d 0 0 i R (x &&& 15) v bs m) : cB L xs N (d + 1) 40 (0) i R x (v) (40 :: bs) (m + 1) := by
  intro A G e dp r h1 h2 h3 h4 h5
  simp only [List.length_cons, List.length_append, List.length_nil] at h4
  have hc := nI_clamp (n := r) (by omega)
  have h7 : up3 G 0 0 1 (nI (r + 1)) 7 i = R := h2
  rw [m3, if_neg (show ¬ (10 : Int32) < nI dp from nI_nlt (a := 10) (by omega) (by decide)), gf0_1, h3, if_pos (show nI r < (20 : Int32) from nI_lt (b := 20) (by omega) (by decide)), rf0_0, gf0_1, h3, sa20020, ib_n (show r < 20 by omega) (by decide), hc, gf0_1, h3, pf0_1, nI_1, if_neg (show ¬ (40 : Int32) = 10 by decide), if_neg (show ¬ (40 : Int32) = 11 by decide), if_neg (show ¬ (40 : Int32) = 12 by decide), if_neg (show ¬ (40 : Int32) = 20 by decide), if_neg (show ¬ (40 : Int32) = 30 by decide), if_neg (show ¬ (40 : Int32) = 31 by decide), if_pos rfl, vo0, nI_1]
  have c1 := h (up3 A 20020 0 r 40) (up3 G 0 0 1 (nI (r + 1))) e (dp + 1) (r + 1) h1 h7 up3_s (by omega) (by omega)
  refine (congrArg (fun z => cI z _) c1).trans ?_
  rw [cI_s, up3_up3, show r + 1 + bs.length = r + (bs.length + 1) by omega]
  rfl
theorem B50 {v : Int32} {bs : List Int32} {m : Nat} (hi : i < 1000) (h : cA L xs N d 0 2 i R x v bs m) : cB L xs N (d + 1) 50 (0) i R x (-v) (50 :: bs) (m + 1) := by
  intro A G e dp r h1 h2 h3 h4 h5
  simp only [List.length_cons, List.length_append, List.length_nil] at h4
  have hc := nI_clamp (n := r) (by omega)
  have h7 : up3 G 0 0 1 (nI (r + 1)) 7 i = R := h2
  rw [m3, if_neg (show ¬ (10 : Int32) < nI dp from nI_nlt (a := 10) (by omega) (by decide)), gf0_1, h3, if_pos (show nI r < (20 : Int32) from nI_lt (b := 20) (by omega) (by decide)), rf0_0, gf0_1, h3, sa20020, ib_n (show r < 20 by omega) (by decide), hc, gf0_1, h3, pf0_1, nI_1, if_neg (show ¬ (50 : Int32) = 10 by decide), if_neg (show ¬ (50 : Int32) = 11 by decide), if_neg (show ¬ (50 : Int32) = 12 by decide), if_neg (show ¬ (50 : Int32) = 20 by decide), if_neg (show ¬ (50 : Int32) = 30 by decide), if_neg (show ¬ (50 : Int32) = 31 by decide), if_neg (show ¬ (50 : Int32) = 40 by decide), if_pos rfl, vo0, nI_1]
  have c1 := h (up3 A 20020 0 r 50) (up3 G 0 0 1 (nI (r + 1))) e (dp + 1) (r + 1) h1 h7 up3_s (by omega) (by omega)
  refine (congrArg (fun z => cI z _) c1).trans ?_
  rw [cI_s, up3_up3, show r + 1 + bs.length = r + (bs.length + 1) by omega]
  rfl
theorem B60 {v : Int32} {bs : List Int32} {m : Nat} (hi : i < 1000) (h : cA L xs N d 0 1 i R x v bs m) : cB L xs N (d + 1) 60 (0) i R x (v * 3) (60 :: bs) (m + 1) := by
  intro A G e dp r h1 h2 h3 h4 h5
  simp only [List.length_cons, List.length_append, List.length_nil] at h4
  have hc := nI_clamp (n := r) (by omega)
  have h7 : up3 G 0 0 1 (nI (r + 1)) 7 i = R := h2
  rw [m3, if_neg (show ¬ (10 : Int32) < nI dp from nI_nlt (a := 10) (by omega) (by decide)), gf0_1, h3, if_pos (show nI r < (20 : Int32) from nI_lt (b := 20) (by omega) (by decide)), rf0_0, gf0_1, h3, sa20020, ib_n (show r < 20 by omega) (by decide), hc, gf0_1, h3, pf0_1, nI_1, if_neg (show ¬ (60 : Int32) = 10 by decide), if_neg (show ¬ (60 : Int32) = 11 by decide), if_neg (show ¬ (60 : Int32) = 12 by decide), if_neg (show ¬ (60 : Int32) = 20 by decide), if_neg (show ¬ (60 : Int32) = 30 by decide), if_neg (show ¬ (60 : Int32) = 31 by decide), if_neg (show ¬ (60 : Int32) = 40 by decide), if_neg (show ¬ (60 : Int32) = 50 by decide), if_pos rfl, vo0, nI_1]
  have c1 := h (up3 A 20020 0 r 60) (up3 G 0 0 1 (nI (r + 1))) e (dp + 1) (r + 1) h1 h7 up3_s (by omega) (by omega)
  refine (congrArg (fun z => cI z _) c1).trans ?_
  rw [cI_s, up3_up3, show r + 1 + bs.length = r + (bs.length + 1) by omega]
  rfl
theorem B71 {v : Int32} {bs : List Int32} {m : Nat} (hi : i < 1000) (h : cA L xs N d 2 2 i R (x - 1) v bs m) : cB L xs N (d + 1) 71 (2) i R x (v) (71 :: bs) (m + 1) := by
  intro A G e dp r h1 h2 h3 h4 h5
  simp only [List.length_cons, List.length_append, List.length_nil] at h4
  have hc := nI_clamp (n := r) (by omega)
  have h7 : up3 G 0 0 1 (nI (r + 1)) 7 i = R := h2
  rw [m3, if_neg (show ¬ (10 : Int32) < nI dp from nI_nlt (a := 10) (by omega) (by decide)), gf0_1, h3, if_pos (show nI r < (20 : Int32) from nI_lt (b := 20) (by omega) (by decide)), rf0_0, gf0_1, h3, sa20020, ib_n (show r < 20 by omega) (by decide), hc, gf0_1, h3, pf0_1, nI_1, if_neg (show ¬ (71 : Int32) = 10 by decide), if_neg (show ¬ (71 : Int32) = 11 by decide), if_neg (show ¬ (71 : Int32) = 12 by decide), if_neg (show ¬ (71 : Int32) = 20 by decide), if_neg (show ¬ (71 : Int32) = 30 by decide), if_neg (show ¬ (71 : Int32) = 31 by decide), if_neg (show ¬ (71 : Int32) = 40 by decide), if_neg (show ¬ (71 : Int32) = 50 by decide), if_neg (show ¬ (71 : Int32) = 60 by decide), if_neg (show ¬ (71 : Int32) = 70 by decide), if_pos rfl, vo0, nI_1]
  have c1 := h (up3 A 20020 0 r 71) (up3 G 0 0 1 (nI (r + 1))) e (dp + 1) (r + 1) h1 h7 up3_s (by omega) (by omega)
  refine (congrArg (fun z => cI z _) c1).trans ?_
  rw [cI_s, up3_up3, show r + 1 + bs.length = r + (bs.length + 1) by omega]
  rfl
theorem B31 {v w : Int32} {bs cs : List Int32} {m K : Nat} (hi : i < 1000) (hK : R 3 = nI K) (h : cA L xs N d 0 2 i R x v bs m) (g : cA L xs N d K 1 i R 1 w cs m) : cB L xs N (d + 1) 31 0 i R x (v + w) (31 :: (bs ++ cs)) (m + 1) := by
  intro A G e dp r h1 h2 h3 h4 h5
  simp only [List.length_cons, List.length_append, List.length_nil] at h4
  have hc := nI_clamp (n := r) (by omega)
  have h7 : up3 G 0 0 1 (nI (r + 1)) 7 i = R := h2
  rw [m3, if_neg (show ¬ (10 : Int32) < nI dp from nI_nlt (a := 10) (by omega) (by decide)), gf0_1, h3, if_pos (show nI r < (20 : Int32) from nI_lt (b := 20) (by omega) (by decide)), rf0_0, gf0_1, h3, sa20020, ib_n (show r < 20 by omega) (by decide), hc, gf0_1, h3, pf0_1, nI_1, if_neg (show ¬ (31 : Int32) = 10 by decide), if_neg (show ¬ (31 : Int32) = 11 by decide), if_neg (show ¬ (31 : Int32) = 12 by decide), if_neg (show ¬ (31 : Int32) = 20 by decide), if_neg (show ¬ (31 : Int32) = 30 by decide), if_pos rfl, vo0, nI_1]
  have h8 : up3 (up3 G 0 0 1 (nI (r + 1))) 0 0 1 (nI (r + 1 + bs.length)) 7 i = R := h2
  have c1 := h (up3 A 20020 0 r 31) (up3 G 0 0 1 (nI (r + 1))) e (dp + 1) (r + 1) h1 h7 up3_s (by omega) (by omega)
  have c2 := g (tA 20020 (up3 A 20020 0 r 31) (r + 1) bs) (up3 (up3 G 0 0 1 (nI (r + 1))) 0 0 1 (nI (r + 1 + bs.length))) e (dp + 1) (r + 1 + bs.length) h1 h8 up3_s (by omega) (by omega)
  refine (congrArg (fun z => cI z _) c1).trans ?_
  rw [cI_s, gI7 h1 hi (show 3 < 9 by decide), h8, hK, vo0]
  refine (congrArg (fun z => cI z _) c2).trans ?_
  rw [cI_s, tA_app, up3_up3, up3_up3, List.length_cons, List.length_append, show r + 1 + bs.length + cs.length = r + (bs.length + cs.length + 1) by omega]
  rfl
theorem B70 {v w : Int32} {bs cs : List Int32} {m : Nat} (hi : i < 1000) (h : cA L xs N d 2 0 i R x v bs m) (g : cA L xs N d 2 0 i R (x + 1) w cs m) : cB L xs N (d + 1) 70 2 i R x (v + w) (70 :: (bs ++ cs)) (m + 1) := by
  intro A G e dp r h1 h2 h3 h4 h5
  simp only [List.length_cons, List.length_append, List.length_nil] at h4
  have hc := nI_clamp (n := r) (by omega)
  have h7 : up3 G 0 0 1 (nI (r + 1)) 7 i = R := h2
  rw [m3, if_neg (show ¬ (10 : Int32) < nI dp from nI_nlt (a := 10) (by omega) (by decide)), gf0_1, h3, if_pos (show nI r < (20 : Int32) from nI_lt (b := 20) (by omega) (by decide)), rf0_0, gf0_1, h3, sa20020, ib_n (show r < 20 by omega) (by decide), hc, gf0_1, h3, pf0_1, nI_1, if_neg (show ¬ (70 : Int32) = 10 by decide), if_neg (show ¬ (70 : Int32) = 11 by decide), if_neg (show ¬ (70 : Int32) = 12 by decide), if_neg (show ¬ (70 : Int32) = 20 by decide), if_neg (show ¬ (70 : Int32) = 30 by decide), if_neg (show ¬ (70 : Int32) = 31 by decide), if_neg (show ¬ (70 : Int32) = 40 by decide), if_neg (show ¬ (70 : Int32) = 50 by decide), if_neg (show ¬ (70 : Int32) = 60 by decide), if_pos rfl, vo0, nI_1]
  have h8 : up3 (up3 G 0 0 1 (nI (r + 1))) 0 0 1 (nI (r + 1 + bs.length)) 7 i = R := h2
  have c1 := h (up3 A 20020 0 r 70) (up3 G 0 0 1 (nI (r + 1))) e (dp + 1) (r + 1) h1 h7 up3_s (by omega) (by omega)
  have c2 := g (tA 20020 (up3 A 20020 0 r 70) (r + 1) bs) (up3 (up3 G 0 0 1 (nI (r + 1))) 0 0 1 (nI (r + 1 + bs.length))) e (dp + 1) (r + 1 + bs.length) h1 h8 up3_s (by omega) (by omega)
  refine (congrArg (fun z => cI z _) c1).trans ?_
  rw [cI_s, vo0]
  refine (congrArg (fun z => cI z _) c2).trans ?_
  rw [cI_s, tA_app, up3_up3, up3_up3, List.length_cons, List.length_append, show r + 1 + bs.length + cs.length = r + (bs.length + cs.length + 1) by omega]
  rfl
end ACT
