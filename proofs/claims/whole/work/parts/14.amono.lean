/-! MORE FUEL, the same answer; blocks put together up to the loop heads -/
section PMONO
variable {ro : RO} {h : PH} {r : Option Value × PH}
theorem gI_mo {k ci j : Nat} {K K' : Int32 → PR} (hK : ∀ x, K x = some r → K' x = some r) (e : gI h k ci j K = some r) : gI h k ci j K' = some r := by
  obtain ⟨fs, x, h1, h2, h3⟩ := gI_inv e
  unfold gI
  simp only [h1, if_pos, h2]
  exact hK x h3
theorem gR_mo {k ci j : Nat} {N N' : PR} {K K' : Nat → PR} (hN : N = some r → N' = some r) (hK : ∀ x, K x = some r → K' x = some r) (e : gR h k ci j N K = some r) : gR h k ci j N' K' = some r := by
  obtain ⟨fs, h1, ⟨q, h2, h3⟩ | ⟨h2, h3⟩⟩ := gR_inv e
  · unfold gR
    simp only [h1, if_pos, h2]
    exact hK q h3
  · unfold gR
    simp only [h1, if_pos, h2]
    exact hN h3
theorem pF_mo {k ci j : Nat} {v : Value} {K K' : PH → PR} (hK : ∀ x, K x = some r → K' x = some r) (e : pF h k ci j v K = some r) : pF h k ci j v K' = some r := by
  obtain ⟨fs, h1, h2, h3⟩ := pF_inv e
  unfold pF
  simp only [h1, true_and, if_pos h2]
  exact hK _ h3
theorem aI_mo {k tg : Nat} {i : Int32} {K K' : Int32 → PR} (hK : ∀ x, K x = some r → K' x = some r) (e : aI ro h k tg i K = some r) : aI ro h k tg i K' = some r := by
  obtain ⟨n, f, h1, h2, h3⟩ := aI_inv e
  unfold aI
  rw [h1]
  show (if tg = tg ∧ ¬ (i < 0 ∨ n ≤ i.toNatClampNeg) then K' (f i.toNatClampNeg) else none) = some r
  rw [if_pos ⟨rfl, h2⟩]
  exact hK _ h3
theorem aR_mo {k : Nat} {i : Int32} {N N' : PR} {K K' : Nat → PR} (hN : N = some r → N' = some r) (hK : ∀ x, K x = some r → K' x = some r) (e : aR h k i N K = some r) : aR h k i N' K' = some r := by
  obtain ⟨t, n, g, h1, h2, ⟨q, h3, h4⟩ | ⟨h3, h4⟩⟩ := aR_inv e
  · unfold aR
    rw [h1]
    show (if ¬ (i < 0 ∨ n ≤ i.toNatClampNeg) then (match g i.toNatClampNeg with | none => N' | some q => K' q) else none) = some r
    rw [if_pos (show ¬ (i < 0 ∨ n ≤ i.toNatClampNeg) from h2), h3]
    exact hK _ h4
  · unfold aR
    rw [h1]
    show (if ¬ (i < 0 ∨ n ≤ i.toNatClampNeg) then (match g i.toNatClampNeg with | none => N' | some q => K' q) else none) = some r
    rw [if_pos (show ¬ (i < 0 ∨ n ≤ i.toNatClampNeg) from h2), h3]
    exact hN h4
theorem aL_mo {k : Nat} {K K' : Int32 → PR} (hK : ∀ x, K x = some r → K' x = some r) (e : aL ro h k K = some r) : aL ro h k K' = some r := by
  obtain ⟨t, n, f, h1, h2⟩ := aL_inv e
  unfold aL
  rw [h1]
  exact hK _ h2
theorem sI_mo {k tg : Nat} {i v : Int32} {K K' : PH → PR} (hK : ∀ x, K x = some r → K' x = some r) (e : sI h k tg i v K = some r) : sI h k tg i v K' = some r := by
  obtain ⟨n, f, h1, h2, h3⟩ := sI_inv e
  unfold sI
  rw [h1]
  show (if tg = tg ∧ ¬ (i < 0 ∨ n ≤ i.toNatClampNeg) then K' _ else none) = some r
  rw [if_pos ⟨rfl, h2⟩]
  exact hK _ h3
theorem sR_mo {k q : Nat} {i : Int32} {K K' : PH → PR} (hK : ∀ x, K x = some r → K' x = some r) (e : sR h k i q K = some r) : sR h k i q K' = some r := by
  obtain ⟨n, g, c, fs, h1, h2, h3, h4⟩ := sR_inv e
  unfold sR
  rw [h1, h2]
  show (if 10 + c = 10 + c ∧ ¬ (i < 0 ∨ n ≤ i.toNatClampNeg) then K' _ else none) = some r
  rw [if_pos ⟨rfl, h3⟩]
  exact hK _ h4
theorem nO_mo {ci N : Nat} {fs : List Value} {K K' : Nat → PH → PR} (hK : ∀ x y, K x y = some r → K' x y = some r) (e : nO h ci N fs K = some r) : nO h ci N fs K' = some r := by
  unfold nO at e ⊢
  split at e
  · rename_i hc
    rw [if_pos hc]
    exact hK _ _ e
  · cases e
theorem nA_mo {tg : Nat} {n : Int32} {f : Nat → Int32} {K K' : Nat → PH → PR} (hK : ∀ x y, K x y = some r → K' x y = some r) (e : nA h tg n f K = some r) : nA h tg n f K' = some r := by
  unfold nA at e ⊢
  split at e
  · rename_i hc
    rw [if_pos hc]
    exact hK _ _ e
  · cases e
theorem nQ_mo {tg : Nat} {n : Int32} {K K' : Nat → PH → PR} (hK : ∀ x y, K x y = some r → K' x y = some r) (e : nQ h tg n K = some r) : nQ h tg n K' = some r := by
  unfold nQ at e ⊢
  split at e
  · rename_i hc
    rw [if_pos hc]
    exact hK _ _ e
  · cases e
theorem cpA_mo {k q : Nat} {sp dp n : Int32} {K K' : PH → PR} (hK : ∀ x, K x = some r → K' x = some r) (e : cpA h k sp q dp n K = some r) : cpA h k sp q dp n K' = some r := by
  unfold cpA at e ⊢
  split at e
  · rename_i hk hq
    split at e
    · rename_i hc
      simp only [if_pos hc]
      exact hK _ e
    · cases e
  · cases e
theorem clA_mo {k : Nat} {K K' : Nat → PH → PR} (hK : ∀ x y, K x y = some r → K' x y = some r) (e : clA h k K = some r) : clA h k K' = some r := by
  unfold clA at e ⊢
  split at e
  · split at e
    · rename_i hc
      simp only [if_pos hc]
      exact hK _ _ e
    · cases e
  · cases e
theorem ivk_mo {st : List Value} {b x : Nat} {K K' : PR} (hK : K = some r → K' = some r) (e : ivk st b x h K = some r) : ivk st b x h K' = some r := by
  obtain ⟨⟨h1, h2, h3⟩, h4⟩ := ivk_inv e
  unfold ivk vO
  rw [if_pos ⟨h1, h2⟩]
  split
  · exact hK h4
  · rename_i h5
    rw [if_pos (h3.resolve_left h5)]
    exact hK h4
theorem cI_mo {q : PR} {K K' : Int32 → PH → PR} (hK : ∀ x y, K x y = some r → K' x y = some r) (e : cI q K = some r) : cI q K' = some r := by
  obtain ⟨x, h1, rfl, h2⟩ := cI_inv e
  exact hK _ _ h2
theorem cV_mo {q : PR} {K K' : PH → PR} (hK : ∀ y, K y = some r → K' y = some r) (e : cV q K = some r) : cV q K' = some r := by
  obtain ⟨h1, rfl, h2⟩ := cV_inv e
  exact hK _ h2
theorem cR_mo {q : PR} {N N' : PH → PR} {K K' : Nat → PH → PR} (hN : ∀ y, N y = some r → N' y = some r) (hK : ∀ x y, K x y = some r → K' x y = some r) (e : cR q N K = some r) : cR q N' K' = some r := by
  rcases cR_inv e with ⟨k, h1, rfl, h2⟩ | ⟨h1, rfl, h2⟩
  · exact hK _ _ h2
  · exact hN _ h2
theorem cnd_mo {a : Nat} {x y : Int32} {T T' F F' : PR} (hT : T = some r → T' = some r) (hF : F = some r → F' = some r) (e : cnd a x y T F = some r) : cnd a x y T' F' = some r := by
  unfold cnd at e ⊢
  split at e <;> (split at e <;> (first | (rename_i q; simp only [if_pos q]; first | exact hT e | exact hF e) | (rename_i q; simp only [if_neg q]; first | exact hT e | exact hF e)))
theorem swt_mo {F F' : Nat → PR} {b : Nat} {y : Int32} (hF : ∀ t, F t = some r → F' t = some r) : ∀ {ts : List Nat} {v : Int32}, swt F b y ts v = some r → swt F' b y ts v = some r
  | [], v, e => hF _ e
  | t :: ts, v, e => by
    unfold swt at e ⊢
    split at e
    · rename_i q
      rw [if_pos q]
      exact hF _ e
    · rename_i q
      rw [if_neg q]
      exact swt_mo hF e
theorem swl_mo {F F' : Nat → PR} {b : Nat} {y : Int32} (hF : ∀ t, F t = some r → F' t = some r) : ∀ {ts : List Nat}, swl F b y ts = some r → swl F' b y ts = some r
  | [], e => hF _ e
  | [_], e => hF _ e
  | k :: t :: ts, e => by
    unfold swl at e ⊢
    split at e
    · rename_i q
      rw [if_pos q]
      exact hF _ e
    · rename_i q
      rw [if_neg q]
      exact swl_mo hF e
end PMONO
theorem step_mo {ro : RO} {J J' : Nat → PL → List Value → PH → PR} {C : Nat → List Value → PH → PR} {lv : PL} {st : List Value} {h : PH} {K K' : PL → List Value → PH → PR} {r : Option Value × PH}
    (hJ : ∀ t lv st h1, J t lv st h1 = some r → J' t lv st h1 = some r) (hK : ∀ lv st h1, K lv st h1 = some r → K' lv st h1 = some r) :
    ∀ (i : PI), step ro J C i lv st h K = some r → step ro J' C i lv st h K' = some r := by
  rintro ⟨pc, len, op, a, b, x, v, ts⟩
  match op with
  | 0 =>
    intro e
    exact hK _ _ _ e
  | 1 =>
    intro e
    simp only [step] at e ⊢
    split at e
    · exact hK _ _ _ e
    · cases e
  | 2 =>
    intro e
    simp only [step] at e ⊢
    split at e
    · exact hK _ _ _ e
    · exact hK _ _ _ e
    · cases e
  | 3 =>
    intro e
    simp only [step] at e ⊢
    split at e
    · exact hK _ _ _ e
    · cases e
  | 4 =>
    intro e
    simp only [step] at e ⊢
    split at e
    · exact hK _ _ _ e
    · exact hK _ _ _ e
    · cases e
  | 5 =>
    intro e
    simp only [step] at e ⊢
    split at e
    · exact hK _ _ _ e
    · cases e
  | 6 =>
    intro e
    simp only [step] at e ⊢
    split at e
    · exact hK _ _ _ e
    · cases e
  | 7 =>
    intro e
    simp only [step] at e ⊢
    split at e
    · split at e
      · cases e
      · rename_i q
        rw [if_neg q]
        exact hK _ _ _ e
    · cases e
  | 8 =>
    intro e
    simp only [step] at e ⊢
    split at e
    · split at e
      · cases e
      · rename_i q
        rw [if_neg q]
        exact hK _ _ _ e
    · cases e
  | 9 =>
    intro e
    simp only [step] at e ⊢
    split at e
    · exact hK _ _ _ e
    · cases e
  | 10 =>
    intro e
    simp only [step] at e ⊢
    split at e
    · exact cnd_mo (hJ _ _ _ _) (hK _ _ _) e
    · cases e
  | 11 =>
    intro e
    simp only [step] at e ⊢
    split at e
    · exact cnd_mo (hJ _ _ _ _) (hK _ _ _) e
    · cases e
  | 12 =>
    intro e
    simp only [step] at e ⊢
    split at e
    · exact hK _ _ _ e
    · exact hJ _ _ _ _ e
    · cases e
  | 13 =>
    intro e
    simp only [step] at e ⊢
    split at e
    · exact hJ _ _ _ _ e
    · exact hK _ _ _ e
    · cases e
  | 14 =>
    intro e
    exact hJ _ _ _ _ e
  | 15 =>
    intro e
    simp only [step] at e ⊢
    split at e
    · exact swt_mo (fun t => hJ _ _ _ _) e
    · cases e
  | 16 =>
    intro e
    simp only [step] at e ⊢
    split at e
    · exact swl_mo (fun t => hJ _ _ _ _) e
    · cases e
  | 17 =>
    intro e
    simp only [step] at e ⊢
    split at e
    · exact gI_mo (fun x => hK _ _ _) e
    · cases e
  | 18 =>
    intro e
    simp only [step] at e ⊢
    split at e
    · exact gR_mo (hK _ _ _) (fun x => hK _ _ _) e
    · cases e
  | 19 =>
    intro e
    simp only [step] at e ⊢
    split at e
    · exact pF_mo (fun x => hK _ _ _) e
    · cases e
  | 20 =>
    intro e
    simp only [step] at e ⊢
    split at e
    · split at e
      · rename_i q
        rw [if_pos q]
        exact pF_mo (fun x => hK _ _ _) e
      · cases e
    · cases e
  | 21 =>
    intro e
    simp only [step] at e ⊢
    split at e
    · exact pF_mo (fun x => hK _ _ _) e
    · cases e
  | 22 =>
    intro e
    simp only [step] at e ⊢
    split at e
    · exact aI_mo (fun x => hK _ _ _) e
    · cases e
  | 23 =>
    intro e
    simp only [step] at e ⊢
    split at e
    · exact aR_mo (hK _ _ _) (fun x => hK _ _ _) e
    · cases e
  | 24 =>
    intro e
    simp only [step] at e ⊢
    split at e
    · exact sI_mo (fun x => hK _ _ _) e
    · cases e
  | 25 =>
    intro e
    simp only [step] at e ⊢
    split at e
    · exact sI_mo (fun x => hK _ _ _) e
    · cases e
  | 26 =>
    intro e
    simp only [step] at e ⊢
    split at e
    · exact sR_mo (fun x => hK _ _ _) e
    · cases e
  | 27 =>
    intro e
    simp only [step] at e ⊢
    split at e
    · exact aL_mo (fun x => hK _ _ _) e
    · cases e
  | 28 =>
    intro e
    exact hK _ _ _ e
  | 29 =>
    intro e
    simp only [step] at e ⊢
    exact nO_mo (fun x y => hK _ _ _) e
  | 30 =>
    intro e
    simp only [step] at e ⊢
    split at e
    · exact nA_mo (fun x y => hK _ _ _) e
    · cases e
  | 31 =>
    intro e
    simp only [step] at e ⊢
    split at e
    · exact nQ_mo (fun x y => hK _ _ _) e
    · cases e
  | 32 =>
    intro e
    simp only [step] at e ⊢
    split at e
    · split at e
      · rename_i q
        rw [if_pos q]
        exact hK _ _ _ e
      · cases e
    · cases e
  | 33 =>
    intro e
    simp only [step] at e ⊢
    split at e
    · split at e
      · rename_i q
        rw [if_pos q]
        exact hK _ _ _ e
      · cases e
    · cases e
  | 34 =>
    intro e
    simp only [step] at e ⊢
    split at e
    · split at e
      · rename_i q
        rw [if_pos q]
        exact hK _ _ _ e
      · cases e
    · cases e
  | 35 =>
    intro e
    simp only [step] at e ⊢
    exact ivk_mo (cI_mo (fun x y => hK _ _ _)) e
  | 36 =>
    intro e
    simp only [step] at e ⊢
    exact ivk_mo (cV_mo (fun y => hK _ _ _)) e
  | 37 =>
    intro e
    simp only [step] at e ⊢
    exact ivk_mo (cR_mo (fun y => hK _ _ _) (fun x y => hK _ _ _)) e
  | 38 =>
    intro e
    exact e
  | 39 =>
    intro e
    exact e
  | 40 =>
    intro e
    exact e
  | 41 =>
    intro e
    exact e
  | 42 =>
    intro e
    exact hK _ _ _ e
  | 43 =>
    intro e
    simp only [step] at e ⊢
    split at e
    · split at e
      · rename_i q
        rw [if_pos q]
        exact hK _ _ _ e
      · cases e
    · cases e
  | 44 =>
    intro e
    simp only [step] at e ⊢
    split at e
    · split at e
      · rename_i q
        rw [if_pos q]
        exact cpA_mo (fun x => hK _ _ _) e
      · cases e
    · cases e
  | 45 =>
    intro e
    exact hJ _ _ _ _ e
  | 46 =>
    intro e
    simp only [step] at e ⊢
    split at e
    · split at e
      · rename_i q
        rw [if_pos q]
        exact clA_mo (fun x y => hK _ _ _) e
      · cases e
    · cases e
  | 47 =>
    intro e
    simp only [step] at e ⊢
    split at e
    · split at e
      · rename_i q
        rw [if_pos q]
        exact hK _ _ _ e
      · cases e
    · cases e
  | n + 48 =>
    intro e
    exact e
theorem run_mo {ro : RO} {J J' : Nat → PL → List Value → PH → PR} {C : Nat → List Value → PH → PR} {r : Option Value × PH} (hJ : ∀ t lv st h1, J t lv st h1 = some r → J' t lv st h1 = some r) :
    ∀ (is : List PI) (lv : PL) (st : List Value) (h : PH), run ro J C is lv st h = some r → run ro J' C is lv st h = some r
  | [], _, _, _, e => by cases e
  | i :: is, lv, st, h, e => step_mo hJ (run_mo hJ is) i e
theorem EXn_mo1 {ro : RO} {B : List (Nat × List PI)} {C : Nat → List Value → PH → PR} {r : Option Value × PH} :
    ∀ (n t : Nat) (lv : PL) (st : List Value) (h : PH), EXn ro B C n t lv st h = some r → EXn ro B C (n + 1) t lv st h = some r
  | 0, _, _, _, _, e => by cases e
  | n + 1, t, lv, st, h, e => run_mo (EXn_mo1 n) (pget B t) lv st h e
theorem EXn_mo {ro : RO} {B : List (Nat × List PI)} {C : Nat → List Value → PH → PR} {r : Option Value × PH} {n k t : Nat} {lv : PL} {st : List Value} {h : PH} (hn : n ≤ k) (e : EXn ro B C n t lv st h = some r) : EXn ro B C k t lv st h = some r := by
  obtain ⟨j, rfl⟩ := Nat.le.dest hn
  clear hn
  induction j with
  | zero => exact e
  | succ j ih => exact EXn_mo1 _ _ _ _ _ ih
/-- as EXn, but a jump to one of S goes to Jh -/
def EXs (ro : RO) (B : List (Nat × List PI)) (C : Nat → List Value → PH → PR) (S : List Nat) (Jh : Nat → PL → List Value → PH → PR) : Nat → Nat → PL → List Value → PH → PR
  | 0 => fun _ _ _ _ => none
  | n + 1 => fun t lv st h => run ro (fun t lv st h => if S.contains t then Jh t lv st h else EXs ro B C S Jh n t lv st h) C (pget B t) lv st h
theorem EXs_le {ro : RO} {B : List (Nat × List PI)} {C : Nat → List Value → PH → PR} {S : List Nat} {n : Nat} {r : Option Value × PH} :
    ∀ (c t : Nat) (lv : PL) (st : List Value) (h : PH), EXs ro B C S (EXn ro B C n) c t lv st h = some r → EXn ro B C (n + c) t lv st h = some r
  | 0, _, _, _, _, e => by cases e
  | c + 1, t, lv, st, h, e => by
    refine run_mo (fun t lv st h1 w => ?_) (pget B t) lv st h e
    split at w
    · exact EXn_mo (Nat.le_add_right _ _) w
    · exact EXs_le c t lv st h1 w
/-- a method's answer out of its blocks up to the loop heads -/
theorem CALL_of {ro : RO} {P : Nat → List (Nat × List PI)} {mL : Nat → Nat} {F d M : Nat} {as : List Value} {h : PH} {r : Option Value × PH} (S : List Nat) (c n : Nat) (hF : n + c ≤ F) (ha : as.length ≤ mL M ∧ as.all (fun v => v.category == 1) = true)
    (e : EXs ro (P M) (CALL ro P mL F d) S (EXn ro (P M) (CALL ro P mL F d) n) c 0 (entry (mL M) as) [] h = some r) : CALL ro P mL F (d + 1) M as h = some r := by
  show (if as.length ≤ mL M ∧ as.all (fun v => v.category == 1) = true then _ else none) = some r
  rw [if_pos ha]
  exact EXn_mo hF (EXs_le c 0 _ _ _ e)
