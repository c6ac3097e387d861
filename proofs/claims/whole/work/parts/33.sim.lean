/-! THE REFERENCE goes through a text as the class does -/
/-- from here on the run comes to an end with Φ -/
def Okk (L : Nat) (xs : Nat → Int32) (N d : Nat) (A G : Mat) (e : Ev) (n : Nat) (Φ : Bool → Nat → (Nat → Int32) → Prop) (q1 : Option Value) (p : Nat) (wt : Int32) (S : List Nat) (Q : List Bool) : Prop := ∀ (W P : Nat → Int32) (o3 : Option Value), rW W S → rB P Q → ∃ b p' W' P' w' z' o', EXn (roL L xs) p185 (CALL (roL L xs) mP mL (N + 5050) (d + 3)) (5 * (n + 1 - p)) 40 [some (.ref 11000), q1, some (.int wt), o3] [] (HH (WA A W P) (GS G p S.length Q.length (opn S)) e) = some (some (.int (bB b)), HH (WA A W' P') (GS G p' w' z' o') e) ∧ Φ b p' P'
def hd0 : List Nat → Nat
  | [] => 0
  | c :: _ => c
def Pb (S : List Nat) (Q : List Bool) (v : Bool) (S' : List Nat) (Q' : List Bool) : Prop := (S' = S ∧ Q' = v :: Q) ∨ ∃ a b, S' = 38 :: S ∧ Q' = b :: a :: Q ∧ v = (b && a)
def Pe (S : List Nat) (Q : List Bool) (v : Bool) (S' : List Nat) (Q' : List Bool) : Prop := Pb S Q v S' Q' ∨ ∃ a b, v = (b || a) ∧ Pb (124 :: S) (a :: Q) b S' Q'
theorem stl_0 {s : Nat} {S : List Nat} {Q : List Bool} (h1 : hd0 S ≠ 38) (h2 : hd0 S ≠ 124 ∨ s = 38) : stl s S Q = (S, Q) ∧ nr s S = 0 := by
  match S with
  | [] => exact ⟨rfl, rfl⟩
  | c :: S =>
    have h3 : ¬ (c = 124 ∧ s ≠ 38) := fun q => h2.elim (fun z => z q.1) (fun z => q.2 z)
    refine ⟨stl_no h1 h3, ?_⟩
    rw [nr, if_neg (fun q => q.elim h1 h3)]
theorem Pb_s {s : Nat} {S S' : List Nat} {Q Q' : List Bool} {v : Bool} (h : Pb S Q v S' Q') (h1 : hd0 S ≠ 38) (h2 : hd0 S ≠ 124 ∨ s = 38) : stl s S' Q' = (S, v :: Q) ∧ nr s S' + 1 ≤ Q'.length := by
  rcases h with ⟨rfl, rfl⟩ | ⟨a, b, rfl, rfl, rfl⟩
  · obtain ⟨e1, e2⟩ := stl_0 (Q := v :: Q) h1 h2
    rw [e1, e2]
    exact ⟨rfl, by rw [List.length_cons]; omega⟩
  · obtain ⟨e1, e2⟩ := stl_0 (Q := (a && b) :: Q) h1 h2
    rw [stl_38, e1, Bool.and_comm, show nr s (38 :: S) = nr s S + 1 from if_pos (Or.inl rfl), e2]
    exact ⟨rfl, by rw [List.length_cons, List.length_cons]; omega⟩
theorem Pe_s {S S' : List Nat} {Q Q' : List Bool} {v : Bool} (h : Pe S Q v S' Q') (h1 : hd0 S ≠ 38) (h2 : hd0 S ≠ 124) : stl 124 S' Q' = (S, v :: Q) ∧ nr 124 S' + 1 ≤ Q'.length := by
  have ne : (124 : Nat) ≠ 38 := by decide
  rcases h with h | ⟨a, b, rfl, ⟨rfl, rfl⟩ | ⟨x, y, rfl, rfl, rfl⟩⟩
  · exact Pb_s h h1 (Or.inl h2)
  · obtain ⟨e1, e2⟩ := stl_0 (s := 124) (Q := (a || b) :: Q) h1 (Or.inl h2)
    rw [stl_124 ne, e1, Bool.or_comm, show nr 124 (124 :: S) = nr 124 S + 1 from if_pos (Or.inr ⟨rfl, ne⟩), e2]
    exact ⟨rfl, by rw [List.length_cons, List.length_cons]; omega⟩
  · obtain ⟨e1, e2⟩ := stl_0 (s := 124) (Q := (a || (x && y)) :: Q) h1 (Or.inl h2)
    rw [stl_38, stl_124 ne, e1, Bool.and_comm y x, Bool.or_comm, show nr 124 (38 :: 124 :: S) = nr 124 S + 1 + 1 from rfl, e2]
    exact ⟨rfl, by rw [List.length_cons, List.length_cons, List.length_cons]; omega⟩
theorem Pb_l {S S' : List Nat} {Q Q' : List Bool} {v : Bool} (h : Pb S Q v S' Q') : S.length ≤ S'.length ∧ Q.length + 1 ≤ Q'.length := by
  rcases h with ⟨rfl, rfl⟩ | ⟨a, b, rfl, rfl, rfl⟩
  · exact ⟨Nat.le_refl _, by rw [List.length_cons]; omega⟩
  · rw [List.length_cons, List.length_cons, List.length_cons]
    omega
theorem Pe_l {S S' : List Nat} {Q Q' : List Bool} {v : Bool} (h : Pe S Q v S' Q') : S.length ≤ S'.length ∧ Q.length + 1 ≤ Q'.length := by
  rcases h with h | ⟨a, b, rfl, h⟩
  · exact Pb_l h
  · have := Pb_l h
    rw [List.length_cons, List.length_cons] at this
    omega
theorem lpS_h {S : List Nat} {v : Bool} (h : hd0 S ≠ 33) : lpS S = S ∧ lpV S v = v := by
  match S with
  | [] => exact ⟨rfl, rfl⟩
  | c :: S => exact ⟨if_neg h, if_neg h⟩
section SIM
variable {A G : Mat} {e : Ev} {L : Nat} {xs : Nat → Int32} {N d n bs : Nat} {t : Nat → Nat} {Φ : Bool → Nat → (Nat → Int32) → Prop} {q1 : Option Value}
/-- ! and ( -/
theorem st_op (cx : CX11 A G bs n t) {p c : Nat} {S : List Nat} {Q : List Bool} (hc : c = 33 ∨ c = 40) (hk : kch t n p = c) (hS : S.length ≤ p) (ho : opn S < 4) (ok : Okk L xs N d A G e n Φ q1 (p + 1) 1 (c :: S) Q) : Okk L xs N d A G e n Φ q1 p 1 S Q := by
  intro W P o3 hW hB
  have ht := cx.2.2.2.2.1
  have c2 := cx.2.1
  have c3 := cx.2.2.1
  have hpn : p < n := lt_of_k kch_n hk (by omega)
  have hp : p ≤ n := by omega
  have rc : rch t n p = nI c := (rchE ht (by omega)).mpr hk
  have o4 : ¬ nI (opn S) = 4 := fun q => absurd ((nI_eq (b := 4) (by omega) (by decide)).mp q) (by omega)
  have oc : opn (c :: S) = opn S + 1 := by
    show opn S + (if c = 33 ∨ c = 40 then 1 else 0) = _
    rw [if_pos hc]
  obtain ⟨b, p', W', P', w', z', o', h, hΦ⟩ := ok (upd W S.length (nI c)) P (some (.int (nI c))) ⟨pk_us, by omega, rW_u hW (Nat.le_refl _)⟩ hB
  rw [oc, List.length_cons] at h
  refine ⟨b, p', W', P', w', z', o', EXn_mo (n := 5 * (n + 1 - (p + 1)) + 5) (by omega) (EXs_le (S := [40]) (n := 5 * (n + 1 - (p + 1))) 5 40 _ _ _ ?_), hΦ⟩
  rw [l185_40, gf11000_44, GS_44, gf11000_43, GS_43, c2, if_pos (show nI p < nI n from nI_lt hpn (by omega)), vo11000, s179 cx hp, cI_s, if_neg (show ¬ (1 : Int32) = 0 by decide), rc]
  rcases hc with rfl | rfl
  · rw [if_pos (show nI 33 = 33 from rfl), gf11000_49, GS_49, if_neg o4, gf11000_49, GS_49, nI_1 (opn S), pf11000_49, GS_u49, rf11000_45, gf11000_47, GS_47, sa20060, ib_n (show S.length < 81 by omega) (by decide), nI_clamp (by omega), WA_w, gf11000_47, GS_47, nI_1 S.length, pf11000_47, GS_u47, gf11000_44, GS_44, nI_1 p, pf11000_44, GS_u44]
    exact h
  · rw [if_neg (show ¬ nI 40 = 33 by decide), if_pos (show nI 40 = 40 from rfl), gf11000_49, GS_49, if_neg o4, gf11000_49, GS_49, nI_1 (opn S), pf11000_49, GS_u49, rf11000_45, gf11000_47, GS_47, sa20060, ib_n (show S.length < 81 by omega) (by decide), nI_clamp (by omega), WA_w, gf11000_47, GS_47, nI_1 S.length, pf11000_47, GS_u47, gf11000_44, GS_44, nI_1 p, pf11000_44, GS_u44]
    exact h
theorem st_op4 (cx : CX11 A G bs n t) {p c : Nat} {S : List Nat} {Q : List Bool} (hc : c = 33 ∨ c = 40) (hk : kch t n p = c) (ho : opn S = 4) (hΦ : ∀ P, Φ false p P) : Okk L xs N d A G e n Φ q1 p 1 S Q := by
  intro W P o3 hW hB
  have ht := cx.2.2.2.2.1
  have c2 := cx.2.1
  have c3 := cx.2.2.1
  have hpn : p < n := lt_of_k kch_n hk (by omega)
  have hp : p ≤ n := by omega
  have rc : rch t n p = nI c := (rchE ht (by omega)).mpr hk
  refine ⟨false, p, W, P, S.length, Q.length, opn S, EXn_mo (n := 0 + 5) (by omega) (EXs_le (S := [40]) (n := 0) 5 40 _ _ _ ?_), hΦ P⟩
  rw [l185_40, gf11000_44, GS_44, gf11000_43, GS_43, c2, if_pos (show nI p < nI n from nI_lt hpn (by omega)), vo11000, s179 cx hp, cI_s, if_neg (show ¬ (1 : Int32) = 0 by decide), rc]
  rcases hc with rfl | rfl
  · rw [if_pos (show nI 33 = 33 from rfl), gf11000_49, GS_49, ho, if_pos (show nI 4 = 4 from rfl)]
    rfl
  · rw [if_neg (show ¬ nI 40 = 33 by decide), if_pos (show nI 40 = 40 from rfl), gf11000_49, GS_49, ho, if_pos (show nI 4 = 4 from rfl)]
    rfl
/-- a TEST -/
theorem st_tst (cx : CX11 A G bs n t) {p : Nat} {S : List Nat} {Q : List Bool} (hp : p ≤ n) (h33 : kch t n p ≠ 33) (h40 : kch t n p ≠ 40) (hS : S.length ≤ p) (hQ : Q.length ≤ p) : (∀ q, tst (kch t n) p = .inl q → (∀ P, Φ false q P) → Okk L xs N d A G e n Φ q1 p 1 S Q) ∧ (∀ q v, tst (kch t n) p = .inr (q, v) → Okk L xs N d A G e n Φ q1 q 0 (lpS S) (lpV S (v (A 20059 0)) :: Q) → Okk L xs N d A G e n Φ q1 p 1 S Q) := by
  have ht := cx.2.2.2.2.1
  have c2 := cx.2.1
  have c3 := cx.2.2.1
  have n33 : ¬ rch t n p = 33 := fun q => h33 ((rchE ht (v := 33) (by decide)).mp q)
  have n40 : ¬ rch t n p = 40 := fun q => h40 ((rchE ht (v := 40) (by decide)).mp q)
  have gd := tst_g (k := kch t n) kch_n p hp
  by_cases hpn : p < n
  · refine ⟨fun q hq hΦ => ?_, fun q v hq ok => ?_⟩
    · intro W P o3 hW hB
      have s1 := s184 (A := A) (G := G) (e := e) (L := L) (xs := xs) (N := N) (d := d) cx (P := P) hp (show Q.length < 81 by omega) hW (by omega)
      rw [hq] at s1
      have s1' : CALL (roL L xs) mP mL (N + 5050) (d + 3) 184 [.ref 11000] (HH (WA A W P) (GS G p S.length Q.length (opn S)) e) = some (some (.int 0), HH (WA A W P) (GS G q S.length Q.length (opn S)) e) := s1
      refine ⟨false, q, W, P, S.length, Q.length, opn S, EXn_mo (n := 0 + 5) (by omega) (EXs_le (S := [40]) (n := 0) 5 40 _ _ _ ?_), hΦ P⟩
      rw [l185_40, gf11000_44, GS_44, gf11000_43, GS_43, c2, if_pos (show nI p < nI n from nI_lt hpn (by omega)), vo11000, s179 cx hp, cI_s, if_neg (show ¬ (1 : Int32) = 0 by decide), if_neg n33, if_neg n40, vo11000, s1', cI_s, if_pos rfl]
      rfl
    · intro W P o3 hW hB
      have s1 := s184 (A := A) (G := G) (e := e) (L := L) (xs := xs) (N := N) (d := d) cx (P := P) hp (show Q.length < 81 by omega) hW (by omega)
      rw [hq] at s1
      have s1' : CALL (roL L xs) mP mL (N + 5050) (d + 3) 184 [.ref 11000] (HH (WA A W P) (GS G p S.length Q.length (opn S)) e) = some (some (.int 1), HH (WA A W (upd P Q.length (bB (lpV S (v (A 20059 0)))))) (GS G q (lpS S).length (Q.length + 1) (opn (lpS S))) e) := s1
      obtain ⟨b, p', W', P', w', z', o', h, hΦ⟩ := ok W (upd P Q.length (bB (lpV S (v (A 20059 0))))) (some (.int (rch t n p))) (rW_p hW) ⟨pk_us, rB_u hB (Nat.le_refl _)⟩
      have g2 := gd.2 q v hq
      refine ⟨b, p', W', P', w', z', o', EXn_mo (n := 5 * (n + 1 - q) + 5) (by omega) (EXs_le (S := [40]) (n := 5 * (n + 1 - q)) 5 40 _ _ _ ?_), hΦ⟩
      rw [l185_40, gf11000_44, GS_44, gf11000_43, GS_43, c2, if_pos (show nI p < nI n from nI_lt hpn (by omega)), vo11000, s179 cx hp, cI_s, if_neg (show ¬ (1 : Int32) = 0 by decide), if_neg n33, if_neg n40, vo11000, s1', cI_s, if_neg (show ¬ (1 : Int32) = 0 by decide)]
      exact h
  · have hpe : p = n := by omega
    have k200 : kch t n p = 200 := kch_n p (by omega)
    have tp : tst (kch t n) p = .inl p := by
      unfold tst
      rw [k200]
      rfl
    refine ⟨fun q hq hΦ => ?_, fun q v hq ok => ?_⟩
    · rw [tp] at hq
      cases hq
      intro W P o3 hW hB
      refine ⟨false, p, W, P, S.length, Q.length, opn S, EXn_mo (n := 0 + 5) (by omega) (EXs_le (S := [40]) (n := 0) 5 40 _ _ _ ?_), hΦ P⟩
      rw [l185_40, gf11000_44, GS_44, gf11000_43, GS_43, c2, if_neg (show ¬ nI p < nI n from nI_nlt (by omega) (by omega)), if_neg (show ¬ (1 : Int32) = 0 by decide)]
      rfl
    · rw [tp] at hq
      cases hq
/-- & and | -/
theorem st_bin (cx : CX11 A G bs n t) {p c : Nat} {S S1 : List Nat} {Q Q1 : List Bool} (hc : c = 38 ∨ c = 124) (hk : kch t n p = c) (hS : S.length ≤ p) (hQ : Q.length ≤ p) (hst : stl c S Q = (S1, Q1)) (hr : nr c S + 1 ≤ Q.length) (ho : opn S1 = opn S) (ok : Okk L xs N d A G e n Φ q1 (p + 1) 1 (c :: S1) Q1) : Okk L xs N d A G e n Φ q1 p 0 S Q := by
  intro W P o3 hW hB
  have ht := cx.2.2.2.2.1
  have c2 := cx.2.1
  have c3 := cx.2.2.1
  have hpn : p < n := lt_of_k kch_n hk (by omega)
  have hp : p ≤ n := by omega
  have rc : rch t n p = nI c := (rchE ht (by omega)).mpr hk
  obtain ⟨P1, s1, hW1, hB1⟩ := s182 (A := A) (G := G) (e := e) (L := L) (xs := xs) (N := N) (d := d + 2) (p := p) (o := opn S) (show c < 256 by omega) hW hB hr (by omega) (by omega)
  have hl := stl_l (s := c) S Q
  rw [hst] at s1 hW1 hB1 hl
  have hl1 : S1.length ≤ S.length := hl.1
  have oc : opn (c :: S1) = opn S := by
    show opn S1 + (if c = 33 ∨ c = 40 then 1 else 0) = _
    rw [if_neg (by omega), ho]
    rfl
  have s1' : CALL (roL L xs) mP mL (N + 5050) (d + 3) 182 [.ref 11000, .int (nI c)] (HH (WA A W P) (GS G p S.length Q.length (opn S)) e) = some (none, HH (WA A W P1) (GS G p S1.length Q1.length (opn S)) e) := s1
  obtain ⟨b, p', W', P', w', z', o', h, hΦ⟩ := ok (upd W S1.length (nI c)) P1 (some (.int (nI c))) ⟨pk_us, by omega, rW_u hW1 (Nat.le_refl _)⟩ hB1
  rw [oc, List.length_cons] at h
  refine ⟨b, p', W', P', w', z', o', EXn_mo (n := 5 * (n + 1 - (p + 1)) + 5) (by omega) (EXs_le (S := [40]) (n := 5 * (n + 1 - (p + 1))) 5 40 _ _ _ ?_), hΦ⟩
  rw [l185_40, gf11000_44, GS_44, gf11000_43, GS_43, c2, if_pos (show nI p < nI n from nI_lt hpn (by omega)), vo11000, s179 cx hp, cI_s, if_pos (rfl : (0 : Int32) = 0), rc]
  rcases hc with rfl | rfl
  · rw [if_pos (show nI 38 = 38 from rfl), vo11000, s1', cV_s, rf11000_45, gf11000_47, GS_47, sa20060, ib_n (show S1.length < 81 by omega) (by decide), nI_clamp (by omega), WA_w, gf11000_47, GS_47, nI_1 S1.length, pf11000_47, GS_u47, gf11000_44, GS_44, nI_1 p, pf11000_44, GS_u44]
    exact h
  · rw [if_neg (show ¬ nI 124 = 38 by decide), if_pos (show nI 124 = 124 from rfl), vo11000, s1', cV_s, rf11000_45, gf11000_47, GS_47, sa20060, ib_n (show S1.length < 81 by omega) (by decide), nI_clamp (by omega), WA_w, gf11000_47, GS_47, nI_1 S1.length, pf11000_47, GS_u47, gf11000_44, GS_44, nI_1 p, pf11000_44, GS_u44]
    exact h
/-- ) -/
theorem st_close (cx : CX11 A G bs n t) {p : Nat} {S S1 : List Nat} {Q Q1 : List Bool} {v : Bool} (hk : kch t n p = 41) (hS : S.length ≤ p) (hQ : Q.length ≤ p) (hst : stl 124 S Q = (40 :: S1, v :: Q1)) (hr : nr 124 S + 1 ≤ Q.length) (ho : opn S = opn S1 + 1) (ok : Okk L xs N d A G e n Φ q1 (p + 1) 0 (lpS S1) (lpV S1 v :: Q1)) : Okk L xs N d A G e n Φ q1 p 0 S Q := by
  intro W P o3 hW hB
  have ht := cx.2.2.2.2.1
  have c2 := cx.2.1
  have c3 := cx.2.2.1
  have hpn : p < n := lt_of_k kch_n hk (by omega)
  have hp : p ≤ n := by omega
  have rc : rch t n p = nI 41 := (rchE ht (by omega)).mpr hk
  obtain ⟨P1, s1, hW1, hB1⟩ := s182 (A := A) (G := G) (e := e) (L := L) (xs := xs) (N := N) (d := d + 2) (p := p) (o := opn S) (show 124 < 256 by omega) hW hB hr (by omega) (by omega)
  have hl := stl_l (s := 124) S Q
  rw [hst] at s1 hW1 hB1 hl
  have hl1 : S1.length + 1 ≤ S.length := hl.1
  have hl2 : Q1.length + 1 ≤ Q.length := hl.2
  have hv : P1 Q1.length = bB v := hB1.1
  have s1' : CALL (roL L xs) mP mL (N + 5050) (d + 3) 182 [.ref 11000, .int 124] (HH (WA A W P) (GS G p S.length Q.length (opn S)) e) = some (none, HH (WA A W P1) (GS G p (S1.length + 1) (Q1.length + 1) (opn S1 + 1)) e) := by
    have := s1
    rw [ho] at this ⊢
    exact this
  have s2 := s181 (A := A) (G := G) (e := e) (L := L) (xs := xs) (N := N) (d := d + 2) (p := p + 1) (P := P1) (v := v) (show Q1.length < 81 by omega) hW1.2.2 (show S1.length ≤ 80 by omega)
  obtain ⟨b, p', W', P', w', z', o', h, hΦ⟩ := ok W (upd P1 Q1.length (bB (lpV S1 v))) (some (.int (nI 41))) (rW_p hW1.2.2) ⟨pk_us, rB_u hB1.2 (Nat.le_refl _)⟩
  refine ⟨b, p', W', P', w', z', o', EXn_mo (n := 5 * (n + 1 - (p + 1)) + 5) (by omega) (EXs_le (S := [40]) (n := 5 * (n + 1 - (p + 1))) 5 40 _ _ _ ?_), hΦ⟩
  rw [l185_40, gf11000_44, GS_44, gf11000_43, GS_43, c2, if_pos (show nI p < nI n from nI_lt hpn (by omega)), vo11000, s179 cx hp, cI_s, if_pos (rfl : (0 : Int32) = 0), rc, if_neg (show ¬ nI 41 = 38 by decide), if_neg (show ¬ nI 41 = 124 by decide), vo11000, s1', cV_s, if_pos (show nI 41 = 41 from rfl), gf11000_47, GS_47, if_neg (nI_ne0 (show 0 < S1.length + 1 by omega) (by omega)), gf11000_47, GS_47, nI_pred, pf11000_47, GS_u47, gf11000_49, GS_49, nI_pred, pf11000_49, GS_u49, gf11000_48, GS_48, nI_pred, pf11000_48, GS_u48, gf11000_44, GS_44, nI_1 p, pf11000_44, GS_u44, rf11000_46, gf11000_48, GS_48, ga20061, ib_n (show Q1.length < 81 by omega) (by decide), nI_clamp (by omega), WA_61, hv, vo11000, s2, cV_s]
  exact h
/-- what doesn't go on: a byte that is none of & | ), or a ) without its ( -/
theorem st_bad (cx : CX11 A G bs n t) {p : Nat} {S S1 : List Nat} {Q Q1 : List Bool} (hpn : p < n) (h38 : kch t n p ≠ 38) (h124 : kch t n p ≠ 124) (hS : S.length ≤ p) (hQ : Q.length ≤ p) (hst : stl 124 S Q = (S1, Q1)) (hr : nr 124 S + 1 ≤ Q.length) (h41 : kch t n p ≠ 41 ∨ S1 = []) (hΦ : ∀ P, Φ false p P) : Okk L xs N d A G e n Φ q1 p 0 S Q := by
  intro W P o3 hW hB
  have ht := cx.2.2.2.2.1
  have c2 := cx.2.1
  have c3 := cx.2.2.1
  have hp : p ≤ n := by omega
  have n38 : ¬ rch t n p = 38 := fun q => h38 ((rchE ht (v := 38) (by decide)).mp q)
  have n124 : ¬ rch t n p = 124 := fun q => h124 ((rchE ht (v := 124) (by decide)).mp q)
  obtain ⟨P1, s1, hW1, hB1⟩ := s182 (A := A) (G := G) (e := e) (L := L) (xs := xs) (N := N) (d := d + 2) (p := p) (o := opn S) (show 124 < 256 by omega) hW hB hr (by omega) (by omega)
  rw [hst] at s1
  have s1' : CALL (roL L xs) mP mL (N + 5050) (d + 3) 182 [.ref 11000, .int 124] (HH (WA A W P) (GS G p S.length Q.length (opn S)) e) = some (none, HH (WA A W P1) (GS G p S1.length Q1.length (opn S)) e) := s1
  refine ⟨false, p, W, P1, S1.length, Q1.length, opn S, EXn_mo (n := 0 + 5) (by omega) (EXs_le (S := [40]) (n := 0) 5 40 _ _ _ ?_), hΦ P1⟩
  rw [l185_40, gf11000_44, GS_44, gf11000_43, GS_43, c2, if_pos (show nI p < nI n from nI_lt hpn (by omega)), vo11000, s179 cx hp, cI_s, if_pos (rfl : (0 : Int32) = 0), if_neg n38, if_neg n124, vo11000, s1', cV_s]
  by_cases c : rch t n p = 41
  · have : S1 = [] := h41.resolve_left (fun q => q ((rchE ht (v := 41) (by decide)).mp c))
    subst this
    rw [if_pos c, gf11000_47, GS_47, if_pos (show nI ([] : List Nat).length = 0 from rfl)]
    rfl
  · rw [if_neg c]
    rfl
/-- the end of the text -/
theorem st_end (cx : CX11 A G bs n t) {S S1 : List Nat} {Q Q1 : List Bool} (hS : S.length ≤ n) (hQ : Q.length ≤ n) (hst : stl 124 S Q = (S1, Q1)) (hr : nr 124 S + 1 ≤ Q.length) (hΦ : (S1 ≠ [] ∧ ∀ P, Φ false n P) ∨ (S1 = [] ∧ ∃ v, Q1 = [v] ∧ ∀ P, P 0 = bB v → Φ true n P)) : Okk L xs N d A G e n Φ q1 n 0 S Q := by
  intro W P o3 hW hB
  have c2 := cx.2.1
  have c3 := cx.2.2.1
  obtain ⟨P1, s1, hW1, hB1⟩ := s182 (A := A) (G := G) (e := e) (L := L) (xs := xs) (N := N) (d := d + 2) (p := n) (o := opn S) (show 124 < 256 by omega) hW hB hr (by omega) (by omega)
  have hl := stl_l (s := 124) S Q
  rw [hst] at s1 hB1 hl
  have hl1 : S1.length ≤ S.length := hl.1
  have s1' : CALL (roL L xs) mP mL (N + 5050) (d + 3) 182 [.ref 11000, .int 124] (HH (WA A W P) (GS G n S.length Q.length (opn S)) e) = some (none, HH (WA A W P1) (GS G n S1.length Q1.length (opn S)) e) := s1
  rcases hΦ with ⟨h1, h2⟩ | ⟨h1, v, rfl, h2⟩
  · have hl2 : 0 < S1.length := List.length_pos_iff.mpr h1
    refine ⟨false, n, W, P1, S1.length, Q1.length, opn S, EXn_mo (n := 0 + 5) (by omega) (EXs_le (S := [40]) (n := 0) 5 40 _ _ _ ?_), h2 P1⟩
    rw [l185_40, gf11000_44, GS_44, gf11000_43, GS_43, c2, if_neg Int32.lt_irrefl, if_pos (rfl : (0 : Int32) = 0), vo11000, s1', cV_s, gf11000_47, GS_47, if_neg (nI_ne0 hl2 (by omega))]
    rfl
  · subst h1
    refine ⟨true, n, W, P1, 0, 1, opn S, EXn_mo (n := 0 + 5) (by omega) (EXs_le (S := [40]) (n := 0) 5 40 _ _ _ ?_), h2 P1 hB1.1⟩
    rw [l185_40, gf11000_44, GS_44, gf11000_43, GS_43, c2, if_neg Int32.lt_irrefl, if_pos (rfl : (0 : Int32) = 0), vo11000, s1', cV_s, gf11000_47, GS_47, if_pos (show nI ([] : List Nat).length = 0 from rfl)]
    rfl
/-! the same by the parts of a text -/
def T1 (L : Nat) (xs : Nat → Int32) (N d : Nat) (A G : Mat) (e : Ev) (n : Nat) (Φ : Bool → Nat → (Nat → Int32) → Prop) (q1 : Option Value) (F : Nat → Int32) (g : Nat → PO) (c : Nat) : Prop := ∀ (p : Nat) (S : List Nat) (Q : List Bool), opn S = c → p ≤ n → S.length ≤ p → Q.length ≤ p → (∀ q, g p = .inl q → (∀ P, Φ false q P) → Okk L xs N d A G e n Φ q1 p 1 S Q) ∧ (∀ q v, g p = .inr (q, v) → Okk L xs N d A G e n Φ q1 q 0 (lpS S) (lpV S (v F) :: Q) → Okk L xs N d A G e n Φ q1 p 1 S Q)
theorem op_38 {S : List Nat} : opn (38 :: S) = opn S := rfl
theorem op_124 {S : List Nat} : opn (124 :: S) = opn S := rfl
theorem Pb_o {S S' : List Nat} {Q Q' : List Bool} {v : Bool} (h : Pb S Q v S' Q') : opn S' = opn S := by
  rcases h with ⟨rfl, rfl⟩ | ⟨a, b, rfl, rfl, rfl⟩
  · rfl
  · rfl
theorem Pe_o {S S' : List Nat} {Q Q' : List Bool} {v : Bool} (h : Pe S Q v S' Q') : opn S' = opn S := by
  rcases h with h | ⟨a, b, rfl, h⟩
  · exact Pb_o h
  · exact (Pb_o h).trans op_124
theorem T_bo (cx : CX11 A G bs n t) {f : Nat → PO} {c : Nat} (hf : T1 L xs N d A G e n Φ q1 (A 20059 0) f c) (hg : Gd n f) : ∀ (i q : Nat) (v : VF) (S S' : List Nat) (Q Q' : List Bool), opn S = c → hd0 S ≠ 38 → Pb S Q (v (A 20059 0)) S' Q' → S'.length ≤ q → Q'.length ≤ q → q ≤ n → n < i + q →
    (∀ z, boL (kch t n) f i q v = .inl z → (∀ P, Φ false z P) → Okk L xs N d A G e n Φ q1 q 0 S' Q') ∧ (∀ z w, boL (kch t n) f i q v = .inr (z, w) → (∀ S'' Q'', Pb S Q (w (A 20059 0)) S'' Q'' → S''.length ≤ z → Q''.length ≤ z → Okk L xs N d A G e n Φ q1 z 0 S'' Q'') → Okk L xs N d A G e n Φ q1 q 0 S' Q')
  | 0, q, v, S, S', Q, Q', hc, h38, hP, hS, hQ, hq, hi => by omega
  | i + 1, q, v, S, S', Q, Q', hc, h38, hP, hS, hQ, hq, hi => by
    unfold boL
    by_cases h1 : kch t n q = 38
    · have hqn : q < n := lt_of_k kch_n h1 (by decide)
      simp only [if_pos h1]
      obtain ⟨e1, e2⟩ := Pb_s (s := 38) hP h38 (Or.inr rfl)
      have hl := Pb_l hP
      have gg := hg (q + 1) (by omega)
      have tt := hf (q + 1) (38 :: S) (v (A 20059 0) :: Q) (op_38.trans hc) (by omega) (by rw [List.length_cons]; omega) (by rw [List.length_cons]; omega)
      have bin := fun ok => st_bin (Φ := Φ) (q1 := q1) (N := N) (d := d) (L := L) (xs := xs) (e := e) cx (Or.inl rfl) h1 hS hQ e1 e2 (Pb_o hP).symm ok
      cases hr : f (q + 1) with
      | inl z =>
        refine ⟨fun y h hΦ => ?_, fun y w h _ => ?_⟩
        · cases h
          exact bin (tt.1 z hr hΦ)
        · cases h
      | inr zw =>
        obtain ⟨z, w⟩ := zw
        have g2 := gg.2 z w hr
        have ih := T_bo cx hf hg i z (fun F => w F && v F) S (38 :: S) Q (w (A 20059 0) :: v (A 20059 0) :: Q) hc h38 (Or.inr ⟨_, _, rfl, rfl, rfl⟩) (by rw [List.length_cons]; omega) (by rw [List.length_cons, List.length_cons]; omega) g2.2 (by omega)
        refine ⟨fun y h hΦ => ?_, fun y u h ok => ?_⟩
        · exact bin (tt.2 z w hr (ih.1 y h hΦ))
        · exact bin (tt.2 z w hr (ih.2 y u h ok))
    · simp only [if_neg h1]
      refine ⟨fun y h hΦ => ?_, fun y w h ok => ?_⟩
      · cases h
      · cases h
        exact ok S' Q' hP hS hQ
theorem T_both (cx : CX11 A G bs n t) {f : Nat → PO} {c : Nat} (hf : T1 L xs N d A G e n Φ q1 (A 20059 0) f c) (hg : Gd n f) {p : Nat} {S : List Nat} {Q : List Bool} (hc : opn S = c) (h33 : hd0 S ≠ 33) (h38 : hd0 S ≠ 38) (hp : p ≤ n) (hS : S.length ≤ p) (hQ : Q.length ≤ p) :
    (∀ z, both (kch t n) f p = .inl z → (∀ P, Φ false z P) → Okk L xs N d A G e n Φ q1 p 1 S Q) ∧ (∀ z w, both (kch t n) f p = .inr (z, w) → (∀ S'' Q'', Pb S Q (w (A 20059 0)) S'' Q'' → S''.length ≤ z → Q''.length ≤ z → Okk L xs N d A G e n Φ q1 z 0 S'' Q'') → Okk L xs N d A G e n Φ q1 p 1 S Q) := by
  have c3 := cx.2.2.1
  have tt := hf p S Q hc hp hS hQ
  have gg := hg p hp
  unfold both
  cases hr : f p with
  | inl z =>
    refine ⟨fun y h hΦ => ?_, fun y w h _ => ?_⟩
    · cases h
      exact tt.1 z hr hΦ
    · cases h
  | inr zw =>
    obtain ⟨z, w⟩ := zw
    have g2 := gg.2 z w hr
    have t2 := tt.2 z w hr
    rw [(lpS_h (v := w (A 20059 0)) h33).1, (lpS_h (v := w (A 20059 0)) h33).2] at t2
    have ih := T_bo cx hf hg 80 z w S S Q (w (A 20059 0) :: Q) hc h38 (Or.inl ⟨rfl, rfl⟩) (by omega) (by rw [List.length_cons]; omega) g2.2 (by omega)
    refine ⟨fun y h hΦ => ?_, fun y u h ok => ?_⟩
    · exact t2 (ih.1 y h hΦ)
    · exact t2 (ih.2 y u h ok)
theorem T_ei (cx : CX11 A G bs n t) {f : Nat → PO} {c : Nat} (hf : T1 L xs N d A G e n Φ q1 (A 20059 0) f c) (hg : Gd n f) : ∀ (i q : Nat) (v : VF) (S S' : List Nat) (Q Q' : List Bool), opn S = c → hd0 S ≠ 38 → hd0 S ≠ 124 → Pe S Q (v (A 20059 0)) S' Q' → S'.length ≤ q → Q'.length ≤ q → q ≤ n → n < i + q →
    (∀ z, eiL (kch t n) f i q v = .inl z → (∀ P, Φ false z P) → Okk L xs N d A G e n Φ q1 q 0 S' Q') ∧ (∀ z w, eiL (kch t n) f i q v = .inr (z, w) → (∀ S'' Q'', Pe S Q (w (A 20059 0)) S'' Q'' → S''.length ≤ z → Q''.length ≤ z → Okk L xs N d A G e n Φ q1 z 0 S'' Q'') → Okk L xs N d A G e n Φ q1 q 0 S' Q')
  | 0, q, v, S, S', Q, Q', hc, h38, h124, hP, hS, hQ, hq, hi => by omega
  | i + 1, q, v, S, S', Q, Q', hc, h38, h124, hP, hS, hQ, hq, hi => by
    unfold eiL
    by_cases h1 : kch t n q = 124
    · have hqn : q < n := lt_of_k kch_n h1 (by decide)
      simp only [if_pos h1]
      obtain ⟨e1, e2⟩ := Pe_s hP h38 h124
      have hl := Pe_l hP
      have gg := both_g (k := kch t n) kch_n hg (q + 1) (by omega)
      have tt := T_both cx hf hg (p := q + 1) (S := 124 :: S) (Q := v (A 20059 0) :: Q) (op_124.trans hc) (show (124 : Nat) ≠ 33 by decide) (show (124 : Nat) ≠ 38 by decide) (by omega) (by rw [List.length_cons]; omega) (by rw [List.length_cons]; omega)
      have bin := fun ok => st_bin (Φ := Φ) (q1 := q1) (N := N) (d := d) (L := L) (xs := xs) (e := e) cx (Or.inr rfl) h1 hS hQ e1 e2 (Pe_o hP).symm ok
      cases hr : both (kch t n) f (q + 1) with
      | inl z =>
        refine ⟨fun y h hΦ => ?_, fun y w h _ => ?_⟩
        · cases h
          exact bin (tt.1 z hr hΦ)
        · cases h
      | inr zw =>
        obtain ⟨z, w⟩ := zw
        have g2 := gg.2 z w hr
        have ih := fun S2 Q2 hb hs2 hq2 => T_ei cx hf hg i z (fun F => w F || v F) S S2 Q Q2 hc h38 h124 (Or.inr ⟨v (A 20059 0), w (A 20059 0), rfl, hb⟩) hs2 hq2 g2.2 (by omega)
        refine ⟨fun y h hΦ => ?_, fun y u h ok => ?_⟩
        · exact bin (tt.2 z w hr (fun S2 Q2 hb hs2 hq2 => (ih S2 Q2 hb hs2 hq2).1 y h hΦ))
        · exact bin (tt.2 z w hr (fun S2 Q2 hb hs2 hq2 => (ih S2 Q2 hb hs2 hq2).2 y u h ok))
    · simp only [if_neg h1]
      refine ⟨fun y h hΦ => ?_, fun y w h ok => ?_⟩
      · cases h
      · cases h
        exact ok S' Q' hP hS hQ
theorem T_eith (cx : CX11 A G bs n t) {f : Nat → PO} {c : Nat} (hf : T1 L xs N d A G e n Φ q1 (A 20059 0) f c) (hg : Gd n f) {p : Nat} {S : List Nat} {Q : List Bool} (hc : opn S = c) (h33 : hd0 S ≠ 33) (h38 : hd0 S ≠ 38) (h124 : hd0 S ≠ 124) (hp : p ≤ n) (hS : S.length ≤ p) (hQ : Q.length ≤ p) :
    (∀ z, eith (kch t n) f p = .inl z → (∀ P, Φ false z P) → Okk L xs N d A G e n Φ q1 p 1 S Q) ∧ (∀ z w, eith (kch t n) f p = .inr (z, w) → (∀ S'' Q'', Pe S Q (w (A 20059 0)) S'' Q'' → S''.length ≤ z → Q''.length ≤ z → Okk L xs N d A G e n Φ q1 z 0 S'' Q'') → Okk L xs N d A G e n Φ q1 p 1 S Q) := by
  have c3 := cx.2.2.1
  have tt := T_both cx hf hg hc h33 h38 hp hS hQ
  have gg := both_g (k := kch t n) kch_n hg p hp
  unfold eith
  cases hr : both (kch t n) f p with
  | inl z =>
    refine ⟨fun y h hΦ => ?_, fun y w h _ => ?_⟩
    · cases h
      exact tt.1 z hr hΦ
    · cases h
  | inr zw =>
    obtain ⟨z, w⟩ := zw
    have g2 := gg.2 z w hr
    have ih := fun S2 Q2 hb hs2 hq2 => T_ei cx hf hg 80 z w S S2 Q Q2 hc h38 h124 (Or.inl hb) hs2 hq2 g2.2 (by omega)
    refine ⟨fun y h hΦ => ?_, fun y u h ok => ?_⟩
    · exact tt.2 z w hr (fun S2 Q2 hb hs2 hq2 => (ih S2 Q2 hb hs2 hq2).1 y h hΦ)
    · exact tt.2 z w hr (fun S2 Q2 hb hs2 hq2 => (ih S2 Q2 hb hs2 hq2).2 y u h ok)
theorem T_one (cx : CX11 A G bs n t) : ∀ b c, c + b = 4 → T1 L xs N d A G e n Φ q1 (A 20059 0) (one (kch t n) b) c
  | 0, c, hcb => by
    intro p S Q hc hp hS hQ
    unfold one
    by_cases h1 : kch t n p = 33 ∨ kch t n p = 40
    · simp only [if_pos h1]
      refine ⟨fun y h hΦ => ?_, fun y w h _ => ?_⟩
      · cases h
        exact st_op4 cx h1 rfl (by omega) hΦ
      · cases h
    · simp only [if_neg h1]
      exact st_tst cx hp (fun q => h1 (Or.inl q)) (fun q => h1 (Or.inr q)) hS hQ
  | b + 1, c, hcb => by
    intro p S Q hc hp hS hQ
    have c3 := cx.2.2.1
    have ih := T_one cx b (c + 1) (by omega)
    have hg := one_g (k := kch t n) kch_n c3 b
    unfold one
    by_cases h1 : kch t n p = 33
    · have hpn : p < n := lt_of_k kch_n h1 (by decide)
      simp only [if_pos h1]
      have tt := ih (p + 1) (33 :: S) Q (show opn S + 1 = c + 1 by rw [hc]) (by omega) (by rw [List.length_cons]; omega) (by omega)
      have stp := fun ok => st_op (Φ := Φ) (q1 := q1) (N := N) (d := d) (L := L) (xs := xs) (e := e) (Q := Q) cx (Or.inl rfl) h1 hS (by omega) ok
      cases hr : one (kch t n) b (p + 1) with
      | inl z =>
        refine ⟨fun y h hΦ => ?_, fun y w h _ => ?_⟩
        · cases h
          exact stp (tt.1 z hr hΦ)
        · cases h
      | inr zw =>
        obtain ⟨z, w⟩ := zw
        refine ⟨fun y h hΦ => ?_, fun y u h ok => ?_⟩
        · cases h
        · cases h
          exact stp (tt.2 z w hr ok)
    · simp only [if_neg h1]
      by_cases h3 : kch t n p = 40
      · have hpn : p < n := lt_of_k kch_n h3 (by decide)
        simp only [if_pos h3]
        have tt := T_eith cx ih hg (p := p + 1) (S := 40 :: S) (Q := Q) (show opn S + 1 = c + 1 by rw [hc]) (show (40 : Nat) ≠ 33 by decide) (show (40 : Nat) ≠ 38 by decide) (show (40 : Nat) ≠ 124 by decide) (by omega) (by rw [List.length_cons]; omega) (by omega)
        have stp := fun ok => st_op (Φ := Φ) (q1 := q1) (N := N) (d := d) (L := L) (xs := xs) (e := e) (Q := Q) cx (Or.inr rfl) h3 hS (by omega) ok
        have gg := eith_g (k := kch t n) kch_n c3 hg (p + 1) (by omega)
        cases hr : eith (kch t n) (one (kch t n) b) (p + 1) with
        | inl z =>
          refine ⟨fun y h hΦ => ?_, fun y w h _ => ?_⟩
          · cases h
            exact stp (tt.1 z hr hΦ)
          · cases h
        | inr zw =>
          obtain ⟨z, w⟩ := zw
          have g2 := gg.2 z w hr
          have gx := eith_x (k := kch t n) kch_n c3 hg (show p + 1 ≤ n by omega) hr
          by_cases h4 : kch t n z = 41
          · simp only [if_pos h4]
            refine ⟨fun y h hΦ => ?_, fun y u h ok => ?_⟩
            · cases h
            · cases h
              refine stp (tt.2 z w hr (fun S2 Q2 hb hs2 hq2 => ?_))
              obtain ⟨e1, e2⟩ := Pe_s hb (show (40 : Nat) ≠ 38 by decide) (show (40 : Nat) ≠ 124 by decide)
              exact st_close cx h4 hs2 hq2 e1 e2 (Pe_o hb) ok
          · simp only [if_neg h4]
            refine ⟨fun y h hΦ => ?_, fun y u h _ => ?_⟩
            · cases h
              refine stp (tt.2 z w hr (fun S2 Q2 hb hs2 hq2 => ?_))
              obtain ⟨e1, e2⟩ := Pe_s hb (show (40 : Nat) ≠ 38 by decide) (show (40 : Nat) ≠ 124 by decide)
              by_cases hz : z < n
              · exact st_bad cx hz gx.1 gx.2 hs2 hq2 e1 e2 (Or.inl h4) hΦ
              · have hzn : z = n := by omega
                subst hzn
                exact st_end cx hs2 hq2 e1 e2 (Or.inl ⟨by simp, hΦ⟩)
            · cases h
      · simp only [if_neg h3]
        exact st_tst cx hp h1 h3 hS hQ
/-- what a whole text leaves -/
def PHI (F : Nat → Int32) (o : PO) (b : Bool) (p : Nat) (P : Nat → Int32) : Prop := match o with
  | .inl q => b = false ∧ p = q
  | .inr (_, v) => b = true ∧ P 0 = bB (v F)
theorem T_txt (cx : CX11 A G bs n t) : Okk L xs N d A G e n (PHI (A 20059 0) (txt (kch t n) n)) q1 0 1 [] [] := by
  have c3 := cx.2.2.1
  have hg := one_g (k := kch t n) kch_n c3 4
  have ih := T_one (Φ := PHI (A 20059 0) (txt (kch t n) n)) (q1 := q1) (N := N) (d := d) (L := L) (xs := xs) (e := e) cx 4 0 (by omega)
  have tt := T_eith cx ih hg (p := 0) (S := []) (Q := []) rfl (by decide) (by decide) (by decide) (Nat.zero_le n) (Nat.le_refl _) (Nat.le_refl _)
  have gg := eith_g (k := kch t n) kch_n c3 hg 0 (Nat.zero_le n)
  cases hr : eith (kch t n) (one (kch t n) 4) 0 with
  | inl z =>
    have e0 : txt (kch t n) n = .inl z := by
      unfold txt
      rw [hr]
    exact tt.1 z hr (fun P => by rw [e0]; exact ⟨rfl, rfl⟩)
  | inr zw =>
    obtain ⟨z, w⟩ := zw
    have g2 := gg.2 z w hr
    have gx := eith_x (k := kch t n) kch_n c3 hg (Nat.zero_le n) hr
    refine tt.2 z w hr (fun S2 Q2 hb hs2 hq2 => ?_)
    obtain ⟨e1, e2⟩ := Pe_s hb (show hd0 [] ≠ 38 by decide) (show hd0 [] ≠ 124 by decide)
    by_cases hz : z < n
    · have e0 : txt (kch t n) n = .inl z := by
        unfold txt
        rw [hr]
        exact if_pos hz
      exact st_bad cx hz gx.1 gx.2 hs2 hq2 e1 e2 (Or.inr rfl) (fun P => by rw [e0]; exact ⟨rfl, rfl⟩)
    · have e0 : txt (kch t n) n = .inr (z, w) := by
        unfold txt
        rw [hr]
        exact if_neg hz
      have hzn : z = n := by omega
      subst hzn
      exact st_end cx hs2 hq2 e1 e2 (Or.inr ⟨rfl, _, rfl, fun P hP => by rw [e0]; exact ⟨rfl, hP⟩⟩)
end SIM
