/-! THE REFERENCE reads a text -/
def GS (G : Mat) (p w z o : Nat) : Mat := upr G 11 0 (fun j => if j = 44 then nI p else if j = 47 then nI w else if j = 48 then nI z else if j = 49 then nI o else G 11 0 j)
def WA (A : Mat) (W P : Nat → Int32) : Mat := upr (upr A 20060 0 W) 20061 0 P
section GSL
variable {A G : Mat} {p w z o q : Nat} {W P : Nat → Int32}
theorem GS_44 : GS G p w z o 11 0 44 = nI p := rfl
theorem GS_47 : GS G p w z o 11 0 47 = nI w := rfl
theorem GS_48 : GS G p w z o 11 0 48 = nI z := rfl
theorem GS_49 : GS G p w z o 11 0 49 = nI o := rfl
theorem GS_42 : GS G p w z o 11 0 42 = G 11 0 42 := rfl
theorem GS_43 : GS G p w z o 11 0 43 = G 11 0 43 := rfl
theorem GS_u44 : up3 (GS G p w z o) 11 0 44 (nI q) = GS G q w z o := by
  unfold GS
  rw [up3_upr]
  refine congrArg (upr G 11 0) (funext fun j => ?_)
  unfold upd
  by_cases h : j = 44
  · subst h
    rfl
  · rw [if_neg h]
    simp only [if_neg h]
theorem GS_u47 : up3 (GS G p w z o) 11 0 47 (nI q) = GS G p q z o := by
  unfold GS
  rw [up3_upr]
  refine congrArg (upr G 11 0) (funext fun j => ?_)
  unfold upd
  by_cases h : j = 47
  · subst h
    rfl
  · rw [if_neg h]
    simp only [if_neg h]
theorem GS_u48 : up3 (GS G p w z o) 11 0 48 (nI q) = GS G p w q o := by
  unfold GS
  rw [up3_upr]
  refine congrArg (upr G 11 0) (funext fun j => ?_)
  unfold upd
  by_cases h : j = 48
  · subst h
    rfl
  · rw [if_neg h]
    simp only [if_neg h]
theorem GS_u49 : up3 (GS G p w z o) 11 0 49 (nI q) = GS G p w z q := by
  unfold GS
  rw [up3_upr]
  refine congrArg (upr G 11 0) (funext fun j => ?_)
  unfold upd
  by_cases h : j = 49
  · subst h
    rfl
  · rw [if_neg h]
    simp only [if_neg h]
theorem GS_i : up3 (up3 (up3 (up3 G 11 0 44 0) 11 0 47 0) 11 0 48 0) 11 0 49 0 = GS G 0 0 0 0 := by
  unfold GS
  rw [up3_e, up3_r, up3_e, up3_r, up3_e, up3_r, up3_e, upr_s, upr_s, upr_s]
  refine congrArg (upr G 11 0) (funext fun j => ?_)
  unfold upd
  by_cases h1 : j = 44
  · subst h1
    rfl
  · by_cases h2 : j = 47
    · subst h2
      rfl
    · by_cases h3 : j = 48
      · subst h3
        rfl
      · by_cases h4 : j = 49
        · subst h4
          rfl
        · simp only [if_neg h1, if_neg h2, if_neg h3, if_neg h4]
theorem WA_w {j : Nat} {v : Int32} : up3 (WA A W P) 20060 0 j v = WA A (upd W j v) P := by
  unfold WA
  rw [upr_x (by decide), up3_upr, upr_x (by decide)]
theorem WA_p {j : Nat} {v : Int32} : up3 (WA A W P) 20061 0 j v = WA A W (upd P j v) := up3_upr
theorem WA_60 {j : Nat} : WA A W P 20060 0 j = W j := rfl
theorem WA_61 {j : Nat} : WA A W P 20061 0 j = P j := rfl
theorem WA_57 {j : Nat} : WA A W P 20057 0 j = A 20057 0 j := rfl
theorem WA_59 {j : Nat} : WA A W P 20059 0 j = A 20059 0 j := rfl
end GSL
/-! piles as lists, the top first -/
def rW (W : Nat → Int32) : List Nat → Prop
  | [] => True
  | c :: S => W S.length = nI c ∧ c < 256 ∧ rW W S
def rB (P : Nat → Int32) : List Bool → Prop
  | [] => True
  | v :: Q => P Q.length = bB v ∧ rB P Q
def opn : List Nat → Nat
  | [] => 0
  | c :: S => opn S + (if c = 33 ∨ c = 40 then 1 else 0)
def lpS : List Nat → List Nat
  | [] => []
  | c :: S => if c = 33 then lpS S else c :: S
def lpV : List Nat → Bool → Bool
  | [], v => v
  | c :: S, v => if c = 33 then lpV S (!v) else v
def nr (s : Nat) : List Nat → Nat
  | [] => 0
  | c :: S => if c = 38 ∨ (c = 124 ∧ s ≠ 38) then nr s S + 1 else 0
def stl (s : Nat) : List Nat → List Bool → List Nat × List Bool
  | [], Q => ([], Q)
  | c :: S, Q => if c = 38 then (match Q with
      | b :: a :: Q' => stl s S ((a && b) :: Q')
      | _ => (c :: S, Q)) else if c = 124 ∧ s ≠ 38 then (match Q with
      | b :: a :: Q' => stl s S ((a || b) :: Q')
      | _ => (c :: S, Q)) else (c :: S, Q)
theorem rW_u {W : Nat → Int32} {j : Nat} {x : Int32} : ∀ {S : List Nat}, rW W S → S.length ≤ j → rW (upd W j x) S
  | [], _, _ => trivial
  | c :: S, h, hj => by
    have hl : S.length < j := hj
    exact ⟨by rw [pk_un (by omega)]; exact h.1, h.2.1, rW_u h.2.2 (by omega)⟩
theorem rB_u {P : Nat → Int32} {j : Nat} {x : Int32} : ∀ {Q : List Bool}, rB P Q → Q.length ≤ j → rB (upd P j x) Q
  | [], _, _ => trivial
  | c :: S, h, hj => by
    have hl : S.length < j := hj
    exact ⟨by rw [pk_un (by omega)]; exact h.1, rB_u h.2 (by omega)⟩
theorem rW_p {W : Nat → Int32} : ∀ {S : List Nat}, rW W S → rW W (lpS S)
  | [], h => h
  | c :: S, h => by
    unfold lpS
    by_cases h1 : c = 33
    · rw [if_pos h1]
      exact rW_p h.2.2
    · rw [if_neg h1]
      exact h
theorem lpS_l : ∀ S : List Nat, (lpS S).length ≤ S.length
  | [] => Nat.le_refl _
  | c :: S => by
    unfold lpS
    by_cases h1 : c = 33
    · rw [if_pos h1]
      have := lpS_l S
      exact Nat.le_succ_of_le this
    · rw [if_neg h1]
      exact Nat.le_refl _
theorem opn_l : ∀ S : List Nat, opn S ≤ S.length
  | [] => Nat.le_refl _
  | c :: S => by
    have := opn_l S
    unfold opn
    show _ ≤ S.length + 1
    split <;> omega
theorem stl_l {s : Nat} : ∀ (S : List Nat) (Q : List Bool), (stl s S Q).1.length ≤ S.length ∧ (stl s S Q).2.length ≤ Q.length
  | [], Q => ⟨Nat.le_refl _, Nat.le_refl _⟩
  | c :: S, Q => by
    unfold stl
    by_cases h1 : c = 38
    · simp only [if_pos h1]
      match Q with
      | [] => exact ⟨Nat.le_refl _, Nat.le_refl _⟩
      | [_] => exact ⟨Nat.le_refl _, Nat.le_refl _⟩
      | b :: a :: Q' =>
        have := stl_l (s := s) S ((a && b) :: Q')
        simp only [List.length_cons] at this ⊢
        omega
    · simp only [if_neg h1]
      by_cases h2 : c = 124 ∧ s ≠ 38
      · simp only [if_pos h2]
        match Q with
        | [] => exact ⟨Nat.le_refl _, Nat.le_refl _⟩
        | [_] => exact ⟨Nat.le_refl _, Nat.le_refl _⟩
        | b :: a :: Q' =>
          have := stl_l (s := s) S ((a || b) :: Q')
          simp only [List.length_cons] at this ⊢
          omega
      · simp only [if_neg h2]
        exact ⟨Nat.le_refl _, Nat.le_refl _⟩
/-- the reference holds a text t of n bytes at a base -/
def CX11 (A G : Mat) (bs n : Nat) (t : Nat → Nat) : Prop := G 11 0 42 = nI bs ∧ G 11 0 43 = nI n ∧ n ≤ 80 ∧ bs + n ≤ 1040 ∧ (∀ p, p < n → t p < 256) ∧ ∀ p, p < n → A 20057 0 (bs + p) = (nI (t p)).toInt8.toInt32
theorem vp_b {b : Bool} : vp_nar .boolean (bB b) = bB b := by cases b <;> decide
theorem vp_0 : vp_nar .boolean 0 = bB false := by decide
theorem vp_1 : vp_nar .boolean 1 = bB true := by decide
def fcI (c : Int32) : Int32 := if c = 99 then 1 else if c = 100 then -1 else if c = 101 then -1 else if c = 102 then 5 else if c = 103 then -1 else if c = 104 then 0 else if c = 105 then -1 else if c = 106 then -1 else if c = 107 then 6 else if c = 108 then -1 else if c = 109 then 4 else if c = 110 then -1 else if c = 111 then -1 else if c = 112 then 2 else if c = 113 then 8 else if c = 114 then -1 else if c = 115 then 7 else if c = 116 then -1 else if c = 117 then -1 else if c = 118 then -1 else if c = 119 then 3 else -1
theorem fc_lo : ∀ v, v < 128 → fcI (nI v) = oI (ltr v) := by decide +kernel
theorem fc_neg {c : Int32} (h : c < 0) : fcI c = -1 := by
  have ne : ∀ v, v < 128 → ¬ c = nI v := fun v hv q => by
    rw [q] at h
    exact nI_pos (by omega) h
  unfold fcI
  rw [if_neg (show ¬ c = 99 from ne 99 (by decide)), if_neg (show ¬ c = 100 from ne 100 (by decide)), if_neg (show ¬ c = 101 from ne 101 (by decide)), if_neg (show ¬ c = 102 from ne 102 (by decide)), if_neg (show ¬ c = 103 from ne 103 (by decide)), if_neg (show ¬ c = 104 from ne 104 (by decide)), if_neg (show ¬ c = 105 from ne 105 (by decide)), if_neg (show ¬ c = 106 from ne 106 (by decide)), if_neg (show ¬ c = 107 from ne 107 (by decide)), if_neg (show ¬ c = 108 from ne 108 (by decide)), if_neg (show ¬ c = 109 from ne 109 (by decide)), if_neg (show ¬ c = 110 from ne 110 (by decide)), if_neg (show ¬ c = 111 from ne 111 (by decide)), if_neg (show ¬ c = 112 from ne 112 (by decide)), if_neg (show ¬ c = 113 from ne 113 (by decide)), if_neg (show ¬ c = 114 from ne 114 (by decide)), if_neg (show ¬ c = 115 from ne 115 (by decide)), if_neg (show ¬ c = 116 from ne 116 (by decide)), if_neg (show ¬ c = 117 from ne 117 (by decide)), if_neg (show ¬ c = 118 from ne 118 (by decide)), if_neg (show ¬ c = 119 from ne 119 (by decide))]
theorem fc_k {n : Nat} {t : Nat → Nat} (ht : ∀ p, p < n → t p < 256) (p : Nat) : fcI (rch t n p) = oI (ltr (kch t n p)) := by
  rcases ch_c ht p with ⟨v, hv, h1, -, h2⟩ | ⟨h1, -, h2⟩
  · rw [h1, h2, fc_lo v hv]
  · rw [h1, fc_neg h2]
    decide
section GOES
variable {A G : Mat} {e : Ev} {L : Nat} {xs : Nat → Int32} {N d n bs : Nat} {t : Nat → Nat}
theorem s179 (cx : CX11 A G bs n t) {p w z o : Nat} {W P : Nat → Int32} (hp : p ≤ n) : CALL (roL L xs) mP mL (N + 5050) (d + 1) 179 [.ref 11000] (HH (WA A W P) (GS G p w z o) e) = some (some (.int (rch t n p)), HH (WA A W P) (GS G p w z o) e) := by
  obtain ⟨c1, c2, c3, c4, c5, c6⟩ := cx
  rw [m179, gf11000_44, GS_44, gf11000_43, GS_43, c2]
  unfold rch
  by_cases h : p < n
  · rw [if_pos (nI_lt h (by omega)), rf11000_39, gf11000_42, GS_42, c1, gf11000_44, GS_44, nI_add, ga20057, ib_n (show bs + p < 1040 by omega) (by decide), nI_clamp (by omega), WA_57, c6 p h, if_pos h]
  · rw [if_neg (nI_nlt (by omega) (by omega)), if_neg h]
theorem s180 (cx : CX11 A G bs n t) {p w z o : Nat} {W P : Nat → Int32} (hp : p ≤ n) : CALL (roL L xs) mP mL (N + 5050) (d + 2) 180 [.ref 11000] (HH (WA A W P) (GS G p w z o) e) = some (some (.int (bI (48 ≤ rch t n p ∧ rch t n p ≤ 57))), HH (WA A W P) (GS G p w z o) e) := by
  rw [m180, vo11000, s179 cx hp, cI_s, vo11000, s125, cI_s, if_pos (bI_01.mpr trivial)]
theorem s183 {h : PH} {c : Int32} : CALL (roL L xs) mP mL (N + 5050) (d + 1) 183 [.ref 11000, .int c] h = some (some (.int (fcI c)), h) := by
  rw [m183]
  unfold fcI
  by_cases c99 : c = 99
  · rw [if_pos c99, if_pos c99]
  rw [if_neg c99, if_neg c99]
  by_cases c100 : c = 100
  · rw [if_pos c100, if_pos c100]
  rw [if_neg c100, if_neg c100]
  by_cases c101 : c = 101
  · rw [if_pos c101, if_pos c101]
  rw [if_neg c101, if_neg c101]
  by_cases c102 : c = 102
  · rw [if_pos c102, if_pos c102]
  rw [if_neg c102, if_neg c102]
  by_cases c103 : c = 103
  · rw [if_pos c103, if_pos c103]
  rw [if_neg c103, if_neg c103]
  by_cases c104 : c = 104
  · rw [if_pos c104, if_pos c104]
  rw [if_neg c104, if_neg c104]
  by_cases c105 : c = 105
  · rw [if_pos c105, if_pos c105]
  rw [if_neg c105, if_neg c105]
  by_cases c106 : c = 106
  · rw [if_pos c106, if_pos c106]
  rw [if_neg c106, if_neg c106]
  by_cases c107 : c = 107
  · rw [if_pos c107, if_pos c107]
  rw [if_neg c107, if_neg c107]
  by_cases c108 : c = 108
  · rw [if_pos c108, if_pos c108]
  rw [if_neg c108, if_neg c108]
  by_cases c109 : c = 109
  · rw [if_pos c109, if_pos c109]
  rw [if_neg c109, if_neg c109]
  by_cases c110 : c = 110
  · rw [if_pos c110, if_pos c110]
  rw [if_neg c110, if_neg c110]
  by_cases c111 : c = 111
  · rw [if_pos c111, if_pos c111]
  rw [if_neg c111, if_neg c111]
  by_cases c112 : c = 112
  · rw [if_pos c112, if_pos c112]
  rw [if_neg c112, if_neg c112]
  by_cases c113 : c = 113
  · rw [if_pos c113, if_pos c113]
  rw [if_neg c113, if_neg c113]
  by_cases c114 : c = 114
  · rw [if_pos c114, if_pos c114]
  rw [if_neg c114, if_neg c114]
  by_cases c115 : c = 115
  · rw [if_pos c115, if_pos c115]
  rw [if_neg c115, if_neg c115]
  by_cases c116 : c = 116
  · rw [if_pos c116, if_pos c116]
  rw [if_neg c116, if_neg c116]
  by_cases c117 : c = 117
  · rw [if_pos c117, if_pos c117]
  rw [if_neg c117, if_neg c117]
  by_cases c118 : c = 118
  · rw [if_pos c118, if_pos c118]
  rw [if_neg c118, if_neg c118]
  by_cases c119 : c = 119
  · rw [if_pos c119, if_pos c119]
  rw [if_neg c119, if_neg c119]
theorem w181 {C : Nat → List Value → PH → PR} {p z : Nat} {W P : Nat → Int32} {o1 : Option Value} (hz : z < 81) : ∀ (S : List Nat) (v : Bool), rW W S → S.length ≤ 80 → EXn (roL L xs) p181 C (3 * (S.length + 1)) 2 [some (.ref 11000), o1, some (.int (bB v))] [] (HH (WA A W P) (GS G p S.length z (opn S)) e) = some (none, HH (WA A W (upd P z (bB (lpV S v)))) (GS G p (lpS S).length (z + 1) (opn (lpS S))) e)
  | [], v, hW, hS => by
    refine EXs_le (S := [2]) (n := 0) 3 2 _ _ _ ?_
    rw [l181_2, gf11000_47, GS_47, show ([] : List Nat).length = 0 from rfl, if_neg (show ¬ (0 : Int32) < nI 0 by decide), rf11000_46, gf11000_48, GS_48, vp_b, sa20061, ib_n hz (by decide), nI_clamp (by omega), WA_p, gf11000_48, GS_48, nI_1 z, pf11000_48, GS_u48]
    rfl
  | c :: S, v, hW, hS => by
    have hS2 : S.length < 80 := hS
    refine EXs_le (S := [2]) (n := 3 * (S.length + 1)) 3 2 _ _ _ ?_
    have hw : W S.length = nI c := hW.1
    have ihT := w181 (C := C) (p := p) (W := W) (P := P) (o1 := o1) hz S true hW.2.2 (by omega)
    have ihF := w181 (C := C) (p := p) (W := W) (P := P) (o1 := o1) hz S false hW.2.2 (by omega)
    rw [l181_2, gf11000_47, GS_47, show (c :: S).length = S.length + 1 from rfl, if_pos (show (0 : Int32) < nI (S.length + 1) from nI_lt (a := 0) (by omega) (by omega)), rf11000_45, gf11000_47, GS_47, nI_pred, ga20060, ib_n (show S.length < 81 by omega) (by decide), nI_clamp (by omega), WA_60, hw]
    by_cases h1 : c = 33
    · subst h1
      rw [if_pos (show nI 33 = 33 from rfl), show opn (33 :: S) = opn S + 1 from rfl, show lpS (33 :: S) = lpS S from rfl]
      cases v
      · rw [if_pos (show bB false = 0 from rfl), gf11000_47, GS_47, nI_pred, pf11000_47, GS_u47, gf11000_49, GS_49, nI_pred, pf11000_49, GS_u49, show lpV (33 :: S) false = lpV S true from rfl]
        exact ihT
      · rw [if_neg (show ¬ bB true = 0 by decide), gf11000_47, GS_47, nI_pred, pf11000_47, GS_u47, gf11000_49, GS_49, nI_pred, pf11000_49, GS_u49, show lpV (33 :: S) true = lpV S false from rfl]
        exact ihF
    · have e1 : lpS (c :: S) = c :: S := if_neg h1
      have e2 : lpV (c :: S) v = v := if_neg h1
      have h2 : ¬ nI c = 33 := fun q => h1 ((nI_eq (b := 33) (Nat.lt_trans hW.2.1 (by decide)) (by decide)).mp q)
      rw [if_neg h2, rf11000_46, gf11000_48, GS_48, vp_b, sa20061, ib_n hz (by decide), nI_clamp (by omega), WA_p, gf11000_48, GS_48, nI_1 z, pf11000_48, GS_u48, e1, e2]
      rfl
theorem s181 {p z : Nat} {W P : Nat → Int32} {S : List Nat} {v : Bool} (hz : z < 81) (hW : rW W S) (hS : S.length ≤ 80) : CALL (roL L xs) mP mL (N + 5050) (d + 1) 181 [.ref 11000, .int (bB v)] (HH (WA A W P) (GS G p S.length z (opn S)) e) = some (none, HH (WA A W (upd P z (bB (lpV S v)))) (GS G p (lpS S).length (z + 1) (opn (lpS S))) e) := by
  refine m181 (3 * (S.length + 1)) (by omega) ?_
  rw [x181]
  exact w181 hz S v hW hS
theorem CALL_of0 {ro : RO} {P : Nat → List (Nat × List PI)} {mL : Nat → Nat} {F d M q : Nat} {as : List Value} {h : PH} {r : Option Value × PH} (hq : q ≤ F) (ha : as.length ≤ mL M ∧ as.all (fun v => v.category == 1) = true)
    (he : EXn ro (P M) (CALL ro P mL F d) q 0 (entry (mL M) as) [] h = some r) : CALL ro P mL F (d + 1) M as h = some r := by
  show (if as.length ≤ mL M ∧ as.all (fun v => v.category == 1) = true then _ else none) = some r
  rw [if_pos ha]
  exact EXn_mo hq he
theorem m182 {ro : RO} {h : PH} {k0 : Nat} {a1 : Int32} {r : Option Value × PH} (q : Nat) (hq : q ≤ N + 5000) (he : EXn ro p182 (CALL ro mP mL (N + 5050) d) q 0 [some (.ref k0), some (.int a1)] [] h = some r) : CALL ro mP mL (N + 5050) (d + 1) 182 [.ref k0, .int a1] h = some r := CALL_of0 (M := 182) (by omega) ⟨Nat.le_of_ble_eq_true rfl, rfl⟩ he
theorem stl_38 {s : Nat} {S : List Nat} {Q : List Bool} {a b : Bool} : stl s (38 :: S) (b :: a :: Q) = stl s S ((a && b) :: Q) := rfl
theorem stl_124 {s : Nat} {S : List Nat} {Q : List Bool} {a b : Bool} (hs : s ≠ 38) : stl s (124 :: S) (b :: a :: Q) = stl s S ((a || b) :: Q) := by
  rw [stl, if_neg (by decide), if_pos ⟨rfl, hs⟩]
theorem stl_no {s c : Nat} {S : List Nat} {Q : List Bool} (h1 : c ≠ 38) (h2 : ¬ (c = 124 ∧ s ≠ 38)) : stl s (c :: S) Q = (c :: S, Q) := by
  unfold stl
  rw [if_neg h1, if_neg h2]
theorem w182 {C : Nat → List Value → PH → PR} {p o s : Nat} {W : Nat → Int32} (hs : s < 256) : ∀ (S : List Nat) (Q : List Bool) (P : Nat → Int32), rW W S → rB P Q → nr s S + 1 ≤ Q.length → S.length ≤ 80 → Q.length ≤ 81 → ∃ P', EXn (roL L xs) p182 C (5 * (S.length + 1)) 0 [some (.ref 11000), some (.int (nI s))] [] (HH (WA A W P) (GS G p S.length Q.length o) e) = some (none, HH (WA A W P') (GS G p (stl s S Q).1.length (stl s S Q).2.length o) e) ∧ rW W (stl s S Q).1 ∧ rB P' (stl s S Q).2
  | [], Q, P, hW, hB, hr, hS, hQ => by
    refine ⟨P, EXs_le (S := [0]) (n := 0) 5 0 _ _ _ ?_, trivial, hB⟩
    rw [l182_0, gf11000_47, GS_47, show ([] : List Nat).length = 0 from rfl, if_neg (show ¬ (0 : Int32) < nI 0 by decide)]
    rfl
  | c :: S, Q, P, hW, hB, hr, hS, hQ => by
    have hS2 : S.length < 80 := hS
    have hw : W S.length = nI c := hW.1
    have hc := hW.2.1
    have hs81 : S.length < 81 := by omega
    have hcl := nI_clamp (n := S.length) (by omega)
    by_cases c1 : c = 38
    · subst c1
      have hr2 : nr s S + 2 ≤ Q.length := hr
      match Q, hB, hr2, hQ with
      | b :: a :: Q', hB, hr2, hQ =>
        have hl : Q'.length < 80 := by
          simp only [List.length_cons] at hQ
          omega
        have ql := nI_clamp (n := Q'.length) (by omega)
        have ql1 := nI_clamp (n := Q'.length + 1) (by omega)
        have ha : P Q'.length = bB a := hB.2.1
        have hb : P (Q'.length + 1) = bB b := hB.1
        obtain ⟨P', h1, h2, h3⟩ := w182 (C := C) (p := p) (o := o) hs S ((a && b) :: Q') (upd P Q'.length (bB (a && b))) hW.2.2 ⟨pk_us, rB_u hB.2.2 (Nat.le_refl _)⟩ (by simp only [List.length_cons] at hr2 ⊢; omega) (by omega) (by simp only [List.length_cons] at hQ ⊢; omega)
        refine ⟨P', EXs_le (S := [0]) (n := 5 * (S.length + 1)) 5 0 _ _ _ ?_, h2, h3⟩
        rw [show (38 :: S).length = S.length + 1 from rfl, l182_0, gf11000_47, GS_47, if_pos (show (0 : Int32) < nI (S.length + 1) from nI_lt (a := 0) (by omega) (by omega)), rf11000_45, gf11000_47, GS_47, nI_pred, ga20060, ib_n hs81 (by decide), hcl, WA_60, hw, if_pos (show nI 38 = 38 from rfl), gf11000_47, GS_47, nI_pred, pf11000_47, GS_u47, gf11000_48, GS_48, show (b :: a :: Q').length = Q'.length + 1 + 1 from rfl, nI_pred, pf11000_48, GS_u48, rf11000_46, gf11000_48, GS_48, rf11000_45, gf11000_47, GS_47, ga20060, ib_n hs81 (by decide), hcl, WA_60, hw, if_pos (show nI 38 = 38 from rfl), rf11000_46, gf11000_48, GS_48, nI_pred, ga20061, ib_n (show Q'.length < 81 by omega) (by decide), ql, WA_61, ha]
        cases a
        · rw [if_pos (show bB false = 0 from rfl), vp_0, sa20061, ib_n (show Q'.length < 81 by omega) (by decide), ql, WA_p]
          exact h1
        · rw [if_neg (show ¬ bB true = 0 by decide), rf11000_46, gf11000_48, GS_48, ga20061, ib_n (show Q'.length + 1 < 81 by omega) (by decide), ql1, WA_61, hb]
          cases b
          · rw [if_pos (show bB false = 0 from rfl), vp_0, sa20061, ib_n (show Q'.length < 81 by omega) (by decide), ql, WA_p]
            exact h1
          · rw [if_neg (show ¬ bB true = 0 by decide), vp_1, sa20061, ib_n (show Q'.length < 81 by omega) (by decide), ql, WA_p]
            exact h1
    · have n38 : ¬ nI c = 38 := fun q => c1 ((nI_eq (b := 38) (Nat.lt_trans hc (by decide)) (by decide)).mp q)
      by_cases c2 : c = 124
      · by_cases s1 : s = 38
        · have e1 : stl s (c :: S) Q = (c :: S, Q) := stl_no c1 (fun q => q.2 s1)
          rw [e1]
          refine ⟨P, EXn_mo (n := 0 + 5) (by rw [List.length_cons]; omega) (EXs_le (S := [0]) (n := 0) 5 0 _ _ _ ?_), hW, hB⟩
          rw [l182_0, gf11000_47, GS_47, show (c :: S).length = S.length + 1 from rfl, if_pos (show (0 : Int32) < nI (S.length + 1) from nI_lt (a := 0) (by omega) (by omega)), rf11000_45, gf11000_47, GS_47, nI_pred, ga20060, ib_n hs81 (by decide), hcl, WA_60, hw, if_neg n38, rf11000_45, gf11000_47, GS_47, nI_pred, ga20060, ib_n hs81 (by decide), hcl, WA_60, hw, if_pos (show nI c = 124 by rw [c2]; rfl), if_pos (show nI s = 38 by rw [s1]; rfl)]
        · subst c2
          have hr2 : nr s S + 2 ≤ Q.length := by
            rw [nr, if_pos (Or.inr ⟨rfl, s1⟩)] at hr
            exact hr
          match Q, hB, hr2, hQ with
          | b :: a :: Q', hB, hr2, hQ =>
            have hl : Q'.length < 80 := by
              simp only [List.length_cons] at hQ
              omega
            have ql := nI_clamp (n := Q'.length) (by omega)
            have ql1 := nI_clamp (n := Q'.length + 1) (by omega)
            have ha : P Q'.length = bB a := hB.2.1
            have hb : P (Q'.length + 1) = bB b := hB.1
            have ns : ¬ nI s = 38 := fun q => s1 ((nI_eq (b := 38) (Nat.lt_trans hs (by decide)) (by decide)).mp q)
            obtain ⟨P', h1, h2, h3⟩ := w182 (C := C) (p := p) (o := o) hs S ((a || b) :: Q') (upd P Q'.length (bB (a || b))) hW.2.2 ⟨pk_us, rB_u hB.2.2 (Nat.le_refl _)⟩ (by simp only [List.length_cons] at hr2 ⊢; omega) (by omega) (by simp only [List.length_cons] at hQ ⊢; omega)
            rw [stl_124 s1]
            refine ⟨P', EXs_le (S := [0]) (n := 5 * (S.length + 1)) 5 0 _ _ _ ?_, h2, h3⟩
            rw [show (124 :: S).length = S.length + 1 from rfl, l182_0, gf11000_47, GS_47, if_pos (show (0 : Int32) < nI (S.length + 1) from nI_lt (a := 0) (by omega) (by omega)), rf11000_45, gf11000_47, GS_47, nI_pred, ga20060, ib_n hs81 (by decide), hcl, WA_60, hw, if_neg n38, rf11000_45, gf11000_47, GS_47, nI_pred, ga20060, ib_n hs81 (by decide), hcl, WA_60, hw, if_pos (show nI 124 = 124 from rfl), if_neg ns, gf11000_47, GS_47, nI_pred, pf11000_47, GS_u47, gf11000_48, GS_48, show (b :: a :: Q').length = Q'.length + 1 + 1 from rfl, nI_pred, pf11000_48, GS_u48, rf11000_46, gf11000_48, GS_48, rf11000_45, gf11000_47, GS_47, ga20060, ib_n hs81 (by decide), hcl, WA_60, hw, if_neg n38, rf11000_46, gf11000_48, GS_48, nI_pred, ga20061, ib_n (show Q'.length < 81 by omega) (by decide), ql, WA_61, ha]
            cases a
            · rw [if_pos (show bB false = 0 from rfl), rf11000_46, gf11000_48, GS_48, ga20061, ib_n (show Q'.length + 1 < 81 by omega) (by decide), ql1, WA_61, hb]
              cases b
              · rw [if_pos (show bB false = 0 from rfl), vp_0, sa20061, ib_n (show Q'.length < 81 by omega) (by decide), ql, WA_p]
                exact h1
              · rw [if_neg (show ¬ bB true = 0 by decide), vp_1, sa20061, ib_n (show Q'.length < 81 by omega) (by decide), ql, WA_p]
                exact h1
            · rw [if_neg (show ¬ bB true = 0 by decide), vp_1, sa20061, ib_n (show Q'.length < 81 by omega) (by decide), ql, WA_p]
              exact h1
      · have e1 : stl s (c :: S) Q = (c :: S, Q) := stl_no c1 (fun q => c2 q.1)
        have n124 : ¬ nI c = 124 := fun q => c2 ((nI_eq (b := 124) (Nat.lt_trans hc (by decide)) (by decide)).mp q)
        rw [e1]
        refine ⟨P, EXn_mo (n := 0 + 5) (by rw [List.length_cons]; omega) (EXs_le (S := [0]) (n := 0) 5 0 _ _ _ ?_), hW, hB⟩
        rw [l182_0, gf11000_47, GS_47, show (c :: S).length = S.length + 1 from rfl, if_pos (show (0 : Int32) < nI (S.length + 1) from nI_lt (a := 0) (by omega) (by omega)), rf11000_45, gf11000_47, GS_47, nI_pred, ga20060, ib_n hs81 (by decide), hcl, WA_60, hw, if_neg n38, rf11000_45, gf11000_47, GS_47, nI_pred, ga20060, ib_n hs81 (by decide), hcl, WA_60, hw, if_neg n124]
theorem s182 {p o s : Nat} {W P : Nat → Int32} {S : List Nat} {Q : List Bool} (hs : s < 256) (hW : rW W S) (hB : rB P Q) (hr : nr s S + 1 ≤ Q.length) (hS : S.length ≤ 80) (hQ : Q.length ≤ 81) : ∃ P', CALL (roL L xs) mP mL (N + 5050) (d + 1) 182 [.ref 11000, .int (nI s)] (HH (WA A W P) (GS G p S.length Q.length o) e) = some (none, HH (WA A W P') (GS G p (stl s S Q).1.length (stl s S Q).2.length o) e) ∧ rW W (stl s S Q).1 ∧ rB P' (stl s S Q).2 := by
  obtain ⟨P', h1, h2, h3⟩ := w182 (A := A) (G := G) (e := e) (L := L) (xs := xs) (C := CALL (roL L xs) mP mL (N + 5050) d) (p := p) (o := o) hs S Q P hW hB hr hS hQ
  exact ⟨P', m182 (5 * (S.length + 1)) (by omega) h1, h2, h3⟩
/-! a TEST -/
def FNX (ro : RO) (C : Nat → List Value → PH → PR) (h : PH) (a1 a2 a3 : Int32) : PR := (if a2 = 60 then (gR h 11000 11 41 none fun q9 => (aI ro h q9 0 a1 fun x10 => (if x10 < a3 then (vO h (some (.ref 11000)) 11 (cV (C 181 [.ref 11000, .int 1] h) fun h12 => (some (some (.int 1), h12)))) else (vO h (some (.ref 11000)) 11 (cV (C 181 [.ref 11000, .int 0] h) fun h11 => (some (some (.int 1), h11))))))) else (if a2 = 61 then (gR h 11000 11 41 none fun q5 => (aI ro h q5 0 a1 fun x6 => (if x6 = a3 then (vO h (some (.ref 11000)) 11 (cV (C 181 [.ref 11000, .int 1] h) fun h8 => (some (some (.int 1), h8)))) else (vO h (some (.ref 11000)) 11 (cV (C 181 [.ref 11000, .int 0] h) fun h7 => (some (some (.int 1), h7))))))) else (gR h 11000 11 41 none fun q1 => (aI ro h q1 0 a1 fun x2 => (if a3 < x2 then (vO h (some (.ref 11000)) 11 (cV (C 181 [.ref 11000, .int 1] h) fun h4 => (some (some (.int 1), h4)))) else (vO h (some (.ref 11000)) 11 (cV (C 181 [.ref 11000, .int 0] h) fun h3 => (some (some (.int 1), h3)))))))))
theorem fnx {p z f op : Nat} {W P : Nat → Int32} {S : List Nat} {a : Int32} (hf : f < 9) (ho : op = 60 ∨ op = 61 ∨ op = 62) (hz : z < 81) (hW : rW W S) (hS : S.length ≤ 80) : FNX (roL L xs) (CALL (roL L xs) mP mL (N + 5050) (d + 1)) (HH (WA A W P) (GS G p S.length z (opn S)) e) (nI f) (nI op) a = some (some (.int 1), HH (WA A W (upd P z (bB (lpV S (cmpV op (A 20059 0 f) a))))) (GS G p (lpS S).length (z + 1) (opn (lpS S))) e) := by
  have cf := nI_clamp (n := f) (by omega)
  have kT : CALL (roL L xs) mP mL (N + 5050) (d + 1) 181 [.ref 11000, .int 1] (HH (WA A W P) (GS G p S.length z (opn S)) e) = some (none, HH (WA A W (upd P z (bB (lpV S true)))) (GS G p (lpS S).length (z + 1) (opn (lpS S))) e) := s181 (v := true) hz hW hS
  have kF : CALL (roL L xs) mP mL (N + 5050) (d + 1) 181 [.ref 11000, .int 0] (HH (WA A W P) (GS G p S.length z (opn S)) e) = some (none, HH (WA A W (upd P z (bB (lpV S false)))) (GS G p (lpS S).length (z + 1) (opn (lpS S))) e) := s181 (v := false) hz hW hS
  unfold FNX
  rcases ho with rfl | rfl | rfl
  · rw [if_pos (show nI 60 = 60 from rfl), rf11000_41, ga20059, ib_n hf (by decide), cf, WA_59]
    by_cases c : A 20059 0 f < a
    · rw [if_pos c, vo11000, kT, cV_s, show cmpV 60 (A 20059 0 f) a = true from decide_eq_true c]
    · rw [if_neg c, vo11000, kF, cV_s, show cmpV 60 (A 20059 0 f) a = false from decide_eq_false c]
  · rw [if_neg (show ¬ nI 61 = 60 by decide), if_pos (show nI 61 = 61 from rfl), rf11000_41, ga20059, ib_n hf (by decide), cf, WA_59]
    by_cases c : A 20059 0 f = a
    · rw [if_pos c, vo11000, kT, cV_s, show cmpV 61 (A 20059 0 f) a = true from decide_eq_true c]
    · rw [if_neg c, vo11000, kF, cV_s, show cmpV 61 (A 20059 0 f) a = false from decide_eq_false c]
  · rw [if_neg (show ¬ nI 62 = 60 by decide), if_neg (show ¬ nI 62 = 61 by decide), rf11000_41, ga20059, ib_n hf (by decide), cf, WA_59]
    by_cases c : a < A 20059 0 f
    · rw [if_pos c, vo11000, kT, cV_s, show cmpV 62 (A 20059 0 f) a = true from decide_eq_true c]
    · rw [if_neg c, vo11000, kF, cV_s, show cmpV 62 (A 20059 0 f) a = false from decide_eq_false c]
theorem w184 (cx : CX11 A G bs n t) {z f op : Nat} {W P : Nat → Int32} {S : List Nat} (hf : f < 9) (ho : op = 60 ∨ op = 61 ∨ op = 62) (hz : z < 81) (hW : rW W S) (hS : S.length ≤ 80) : ∀ (i c p : Nat) (a : Int32), c + i = 3 → p ≤ n → EXn (roL L xs) p184 (CALL (roL L xs) mP mL (N + 5050) (d + 2)) (6 * (i + 1)) 68 [some (.ref 11000), some (.int (nI f)), some (.int (nI op)), some (.int a), some (.int (nI c))] [] (HH (WA A W P) (GS G p S.length z (opn S)) e) = some (some (.int 1), HH (WA A W (upd P z (bB (lpV S (cmpV op (A 20059 0 f) (nmF (kch t n) i p a).2))))) (GS G (nmF (kch t n) i p a).1 (lpS S).length (z + 1) (opn (lpS S))) e)
  | 0, c, p, a, hc, hp => by
    refine EXs_le (S := [68]) (n := 0) 6 68 _ _ _ ?_
    have : c = 3 := by omega
    subst this
    rw [l184_68, if_neg (show ¬ nI 3 < 3 by decide)]
    exact fnx hf ho hz hW hS
  | i + 1, c, p, a, hc, hp => by
    have ht := cx.2.2.2.2.1
    refine EXs_le (S := [68]) (n := 6 * (i + 1)) 6 68 _ _ _ ?_
    rw [l184_68, if_pos (show nI c < 3 from nI_lt (b := 3) (by omega) (by decide)), vo11000, s180 cx hp, cI_s]
    by_cases c3 : 48 ≤ kch t n p ∧ kch t n p ≤ 57
    · have hpn : p < n := lt_of_k kch_n (rfl : kch t n p = _) (by omega)
      rw [if_neg (fun q => bI_z.mp q ((rchD ht).mpr c3)), vo11000, s179 cx hp, cI_s, gf11000_44, GS_44, nI_1 p, pf11000_44, GS_u44, nI_1 c, (dgC ht c3).2, nmF, if_pos c3]
      exact w184 cx hf ho hz hW hS i (c + 1) (p + 1) _ (by omega) (by omega)
    · rw [if_pos (bI_z.mpr (fun q => c3 ((rchD ht).mp q))), nmF, if_neg c3]
      exact fnx hf ho hz hW hS
/-- what a TEST leaves -/
def tP (A G : Mat) (e : Ev) (W P : Nat → Int32) (S : List Nat) (z : Nat) (r : PR) : PO → Prop
  | .inl q => r = some (some (.int 0), HH (WA A W P) (GS G q S.length z (opn S)) e)
  | .inr (q, v) => r = some (some (.int 1), HH (WA A W (upd P z (bB (lpV S (v (A 20059 0)))))) (GS G q (lpS S).length (z + 1) (opn (lpS S))) e)
theorem tP_mo {W P : Nat → Int32} {S : List Nat} {z : Nat} {r r' : PR} (h : ∀ y, r = some y → r' = some y) : ∀ {o : PO}, tP A G e W P S z r o → tP A G e W P S z r' o
  | .inl _, h1 => h _ h1
  | .inr (_, _), h1 => h _ h1
theorem s184 (cx : CX11 A G bs n t) {p z : Nat} {W P : Nat → Int32} {S : List Nat} (hp : p ≤ n) (hz : z < 81) (hW : rW W S) (hS : S.length ≤ 80) : tP A G e W P S z (CALL (roL L xs) mP mL (N + 5050) (d + 3) 184 [.ref 11000] (HH (WA A W P) (GS G p S.length z (opn S)) e)) (tst (kch t n) p) := by
  have ht := cx.2.2.2.2.1
  refine tP_mo (fun y h => m184 (6 * (3 + 1)) (by omega) h) ?_
  rw [x184, vo11000, s179 cx hp, cI_s, vo11000, s183, cI_s, fc_k ht p]
  unfold tst
  cases hl : ltr (kch t n p) with
  | none =>
    rw [if_pos (show oI none < 0 by decide)]
    rfl
  | some f =>
    obtain ⟨hf, hf2⟩ := ltr_lt hl
    have h1 : p < n := lt_of_k kch_n (rfl : kch t n p = _) (by omega)
    rw [show oI (some f) = nI f from rfl, if_neg (nI_pos (by omega)), gf11000_44, GS_44, nI_1 p, pf11000_44, GS_u44, vo11000, s179 cx (show p + 1 ≤ n by omega), cI_s, vo11000, s125, cI_s]
    by_cases o : kch t n (p + 1) = 60 ∨ kch t n (p + 1) = 61 ∨ kch t n (p + 1) = 62
    · have h2 : p + 1 < n := lt_of_k kch_n (rfl : kch t n (p + 1) = _) (by omega)
      simp only [if_pos o]
      rw [if_neg (fun q => bI_z.mp q ((rchO ht).mpr o)), gf11000_44, GS_44, nI_1 (p + 1), pf11000_44, GS_u44, vo11000, s180 cx (show p + 1 + 1 ≤ n by omega), cI_s]
      have rc : rch t n (p + 1) = nI (kch t n (p + 1)) := (rchE ht (by omega)).mpr rfl
      by_cases c3 : 48 ≤ kch t n (p + 2) ∧ kch t n (p + 2) ≤ 57
      · simp only [if_pos c3]
        rw [if_neg (fun q => bI_z.mp q ((rchD ht).mpr c3)), rc]
        exact w184 cx hf o hz hW hS 3 0 (p + 2) 0 (by omega) (by omega)
      · simp only [if_neg c3]
        rw [if_pos (bI_z.mpr (fun q => c3 ((rchD ht).mp q)))]
        rfl
    · simp only [if_neg o]
      rw [if_pos (bI_z.mpr (fun q => o ((rchO ht).mp q)))]
      rfl
end GOES
