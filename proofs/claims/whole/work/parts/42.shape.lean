/-! an object stays an object of its class -/
def SHP (h h' : PH) : Prop := ∀ (k c : Nat) (fs : List Value), h.1 k = some (.inr (.inr (c, fs))) → ∃ fs', h'.1 k = some (.inr (.inr (c, fs')))
theorem SHP.rf (h : PH) : SHP h h := fun _ _ fs e => ⟨fs, e⟩
theorem SHP.tr {a b c : PH} (h1 : SHP a b) (h2 : SHP b c) : SHP a c := fun k ci fs e => by
  obtain ⟨fs', e'⟩ := h1 k ci fs e
  exact h2 k ci fs' e'
theorem SHP.putO {h : PH} {k c : Nat} {fs fs' : List Value} (e : h.1 k = some (.inr (.inr (c, fs)))) : SHP h (ph_put h k (.inr (.inr (c, fs')))) := fun q c' gs e' => by
  by_cases hq : q = k
  · subst hq
    rw [e] at e'
    cases e'
    exact ⟨fs', put_at⟩
  · exact ⟨gs, by rw [put_n hq]; exact e'⟩
theorem SHP.putI {h : PH} {k : Nat} {x : Nat × Nat × (Nat → Int32)} {y : PE} (e : h.1 k = some (.inl x)) : SHP h (ph_put h k y) := fun q c' gs e' => by
  by_cases hq : q = k
  · subst hq
    rw [e] at e'
    cases e'
  · exact ⟨gs, by rw [put_n hq]; exact e'⟩
theorem SHP.putR {h : PH} {k : Nat} {x : Nat × Nat × (Nat → Option Nat)} {y : PE} (e : h.1 k = some (.inr (.inl x))) : SHP h (ph_put h k y) := fun q c' gs e' => by
  by_cases hq : q = k
  · subst hq
    rw [e] at e'
    cases e'
  · exact ⟨gs, by rw [put_n hq]; exact e'⟩
theorem SHP.add {h : PH} {k kd n : Nat} {y : PE} (e : h.1 k = none) : SHP h (ph_add h k kd n y) := fun q c' gs e' => by
  by_cases hq : q = k
  · subst hq
    rw [e] at e'
    cases e'
  · exact ⟨gs, by rw [add_n hq]; exact e'⟩
theorem step_shp {ro : RO} {J : Nat → PL → List Value → PH → PR} {C : Nat → List Value → PH → PR} {lv : PL} {st : List Value} {h : PH} {K : PL → List Value → PH → PR} {r : Option Value} {h' : PH}
    (hJ : ∀ t lv st h1, J t lv st h1 = some (r, h') → SHP h1 h') (hC : ∀ M as h1 v h2, C M as h1 = some (v, h2) → SHP h1 h2) (hK : ∀ lv st h1, K lv st h1 = some (r, h') → SHP h1 h') :
    ∀ (i : PI), step ro J C i lv st h K = some (r, h') → SHP h h'
  | (_, _, 0, _, _, _, _, _), e => hK _ _ _ e
  | (_, _, 1, a, _, _, _, _), e => by
    simp only [step] at e
    split at e
    · exact hK _ _ _ e
    · cases e
  | (_, _, 2, a, _, _, _, _), e => by
    simp only [step] at e
    split at e
    · exact hK _ _ _ e
    · exact hK _ _ _ e
    · cases e
  | (_, _, 3, a, _, _, _, _), e => by
    simp only [step] at e
    split at e
    · exact hK _ _ _ e
    · cases e
  | (_, _, 4, a, _, _, _, _), e => by
    simp only [step] at e
    split at e
    · exact hK _ _ _ e
    · exact hK _ _ _ e
    · cases e
  | (_, _, 5, a, _, _, _, _), e => by
    simp only [step] at e
    split at e
    · exact hK _ _ _ e
    · cases e
  | (_, _, 6, a, _, _, _, _), e => by
    simp only [step] at e
    split at e
    · exact hK _ _ _ e
    · cases e
  | (_, _, 7, a, _, _, _, _), e => by
    simp only [step] at e
    split at e
    · split at e
      · cases e
      · exact hK _ _ _ e
    · cases e
  | (_, _, 8, a, _, _, _, _), e => by
    simp only [step] at e
    split at e
    · split at e
      · cases e
      · exact hK _ _ _ e
    · cases e
  | (_, _, 9, a, _, _, _, _), e => by
    simp only [step] at e
    split at e
    · exact hK _ _ _ e
    · cases e
  | (_, _, 10, a, _, _, _, _), e => by
    simp only [step] at e
    split at e
    · rcases cnd_or e with e | e
      · exact hJ _ _ _ _ e
      · exact hK _ _ _ e
    · cases e
  | (_, _, 11, a, _, _, _, _), e => by
    simp only [step] at e
    split at e
    · rcases cnd_or e with e | e
      · exact hJ _ _ _ _ e
      · exact hK _ _ _ e
    · cases e
  | (_, _, 12, a, _, _, _, _), e => by
    simp only [step] at e
    split at e
    · exact hK _ _ _ e
    · exact hJ _ _ _ _ e
    · cases e
  | (_, _, 13, a, _, _, _, _), e => by
    simp only [step] at e
    split at e
    · exact hJ _ _ _ _ e
    · exact hK _ _ _ e
    · cases e
  | (_, _, 14, _, _, _, _, _), e => hJ _ _ _ _ e
  | (_, _, 15, a, _, _, _, _), e => by
    simp only [step] at e
    split at e
    · obtain ⟨t, e⟩ := swt_or e
      exact hJ _ _ _ _ e
    · cases e
  | (_, _, 16, a, _, _, _, _), e => by
    simp only [step] at e
    split at e
    · obtain ⟨t, e⟩ := swl_or e
      exact hJ _ _ _ _ e
    · cases e
  | (_, _, 17, a, _, _, _, _), e => by
    simp only [step] at e
    split at e
    · obtain ⟨_, _, _, _, e⟩ := gI_inv e
      exact hK _ _ _ e
    · cases e
  | (_, _, 18, a, _, _, _, _), e => by
    simp only [step] at e
    split at e
    · obtain ⟨_, _, ⟨_, _, e⟩ | ⟨_, e⟩⟩ := gR_inv e
      · exact hK _ _ _ e
      · exact hK _ _ _ e
    · cases e
  | (_, _, 19, a, _, _, _, _), e => by
    simp only [step] at e
    split at e
    · obtain ⟨_, e1, _, e⟩ := pF_inv e
      exact (SHP.putO e1).tr (hK _ _ _ e)
    · cases e
  | (_, _, 20, a, _, _, _, _), e => by
    simp only [step] at e
    split at e
    · split at e
      · obtain ⟨_, e1, _, e⟩ := pF_inv e
        exact (SHP.putO e1).tr (hK _ _ _ e)
      · cases e
    · cases e
  | (_, _, 21, a, _, _, _, _), e => by
    simp only [step] at e
    split at e
    · obtain ⟨_, e1, _, e⟩ := pF_inv e
      exact (SHP.putO e1).tr (hK _ _ _ e)
    · cases e
  | (_, _, 22, a, _, _, _, _), e => by
    simp only [step] at e
    split at e
    · obtain ⟨_, _, _, _, e⟩ := aI_inv e
      exact hK _ _ _ e
    · cases e
  | (_, _, 23, a, _, _, _, _), e => by
    simp only [step] at e
    split at e
    · obtain ⟨_, _, _, _, _, ⟨_, _, e⟩ | ⟨_, e⟩⟩ := aR_inv e
      · exact hK _ _ _ e
      · exact hK _ _ _ e
    · cases e
  | (_, _, 24, a, _, _, _, _), e => by
    simp only [step] at e
    split at e
    · obtain ⟨_, _, e1, _, e⟩ := sI_inv e
      exact (SHP.putI e1).tr (hK _ _ _ e)
    · cases e
  | (_, _, 25, a, _, _, _, _), e => by
    simp only [step] at e
    split at e
    · obtain ⟨_, _, e1, _, e⟩ := sI_inv e
      exact (SHP.putI e1).tr (hK _ _ _ e)
    · cases e
  | (_, _, 26, a, _, _, _, _), e => by
    simp only [step] at e
    split at e
    · obtain ⟨_, _, _, _, e1, _, _, e⟩ := sR_inv e
      exact (SHP.putR e1).tr (hK _ _ _ e)
    · cases e
  | (_, _, 27, a, _, _, _, _), e => by
    simp only [step] at e
    split at e
    · obtain ⟨_, _, _, _, e⟩ := aL_inv e
      exact hK _ _ _ e
    · cases e
  | (_, _, 28, _, _, _, _, _), e => hK _ _ _ e
  | (_, _, 29, a, _, _, _, _), e => by
    simp only [step] at e
    exact (SHP.add (nO_inv e).1).tr (hK _ _ _ (nO_inv e).2.2)
  | (_, _, 30, a, _, _, _, _), e => by
    simp only [step] at e
    split at e
    · exact (SHP.add (nA_inv e).1).tr (hK _ _ _ (nA_inv e).2.2.2.2)
    · cases e
  | (_, _, 31, a, _, _, _, _), e => by
    simp only [step] at e
    split at e
    · exact (SHP.add (nQ_inv e).1).tr (hK _ _ _ (nQ_inv e).2.2.2.2)
    · cases e
  | (_, _, 32, a, _, _, _, _), e => by
    simp only [step] at e
    split at e
    · split at e
      · exact hK _ _ _ e
      · cases e
    · cases e
  | (_, _, 33, a, _, _, _, _), e => by
    simp only [step] at e
    split at e
    · split at e
      · exact hK _ _ _ e
      · cases e
    · cases e
  | (_, _, 34, a, _, _, _, _), e => by
    simp only [step] at e
    split at e
    · split at e
      · exact hK _ _ _ e
      · cases e
    · cases e
  | (_, _, 35, a, _, _, _, _), e => by
    simp only [step] at e
    obtain ⟨-, e⟩ := ivk_inv e
    obtain ⟨_, _, e1, e⟩ := cI_inv e
    exact (hC _ _ _ _ _ e1).tr (hK _ _ _ e)
  | (_, _, 36, a, _, _, _, _), e => by
    simp only [step] at e
    obtain ⟨-, e⟩ := ivk_inv e
    obtain ⟨_, e1, e⟩ := cV_inv e
    exact (hC _ _ _ _ _ e1).tr (hK _ _ _ e)
  | (_, _, 37, a, _, _, _, _), e => by
    simp only [step] at e
    obtain ⟨-, e⟩ := ivk_inv e
    rcases cR_inv e with ⟨_, _, e1, e⟩ | ⟨_, e1, e⟩
    · exact (hC _ _ _ _ _ e1).tr (hK _ _ _ e)
    · exact (hC _ _ _ _ _ e1).tr (hK _ _ _ e)
  | (_, _, 38, a, _, _, _, _), e => by
    simp only [step] at e
    split at e
    · cases e; exact SHP.rf _
    · cases e
  | (_, _, 39, a, _, _, _, _), e => by
    simp only [step] at e
    split at e
    · cases e; exact SHP.rf _
    · cases e
  | (_, _, 40, a, _, _, _, _), e => by
    simp only [step] at e
    split at e
    · split at e
      · cases e; exact SHP.rf _
      · cases e
    · cases e
  | (_, _, 41, a, _, _, _, _), e => by
    simp only [step] at e
    split at e
    · cases e; exact SHP.rf _
    · cases e; exact SHP.rf _
    · cases e
  | (_, _, 42, _, _, _, _, _), e => hK _ _ _ e
  | (_, _, 43, a, _, _, _, _), e => by
    simp only [step] at e
    split at e
    · split at e
      · exact hK _ _ _ e
      · cases e
    · cases e
  | (_, _, 44, a, _, _, _, _), e => by
    simp only [step] at e
    split at e
    · split at e
      · obtain ⟨_, _, _, _, _, e1, _, _, _, _, _, e⟩ := cpA_inv e
        exact (SHP.putI e1).tr (hK _ _ _ e)
      · cases e
    · cases e
  | (_, _, 45, _, _, _, _, _), e => hJ _ _ _ _ e
  | (_, _, 46, a, _, _, _, _), e => by
    simp only [step] at e
    split at e
    · split at e
      · obtain ⟨_, _, _, e1, _, e⟩ := clA_inv e
        exact (SHP.add e1).tr (hK _ _ _ e)
      · cases e
    · cases e
  | (_, _, 47, a, _, _, _, _), e => by
    simp only [step] at e
    split at e
    · split at e
      · exact hK _ _ _ e
      · cases e
    · cases e
  | (_, _, n + 48, a, _, _, _, _), e => by
    simp only [step] at e
    cases e
theorem run_shp {ro : RO} {J : Nat → PL → List Value → PH → PR} {C : Nat → List Value → PH → PR} {r : Option Value} {h' : PH}
    (hJ : ∀ t lv st h1, J t lv st h1 = some (r, h') → SHP h1 h') (hC : ∀ M as h1 v h2, C M as h1 = some (v, h2) → SHP h1 h2) :
    ∀ (is : List PI) (lv : PL) (st : List Value) (h : PH), run ro J C is lv st h = some (r, h') → SHP h h'
  | [], _, _, _, e => by cases e
  | i :: is, lv, st, h, e => step_shp hJ hC (run_shp hJ hC is) i e
theorem EXn_shp {ro : RO} {B : List (Nat × List PI)} {C : Nat → List Value → PH → PR} {r : Option Value} {h' : PH} (hC : ∀ M as h1 v h2, C M as h1 = some (v, h2) → SHP h1 h2) :
    ∀ (n t : Nat) (lv : PL) (st : List Value) (h : PH), EXn ro B C n t lv st h = some (r, h') → SHP h h'
  | 0, _, _, _, _, e => by cases e
  | n + 1, t, lv, st, h, e => run_shp (EXn_shp hC n) hC (pget B t) lv st h e
theorem CALL_shp {ro : RO} {P : Nat → List (Nat × List PI)} {mL : Nat → Nat} {F : Nat} :
    ∀ (d M : Nat) (as : List Value) (h : PH) (r : Option Value) (h' : PH), CALL ro P mL F d M as h = some (r, h') → SHP h h'
  | 0, _, _, _, _, _, e => by cases e
  | d + 1, M, as, h, r, h', e => by
    unfold CALL at e
    split at e
    · exact EXn_shp (CALL_shp d) F 0 _ _ _ e
    · cases e
