/-! the list of the cells keeps to the cells -/
def GD (h : PH) : Prop := h.2.2.1.Nodup ∧ (∀ k, (h.1 k).isSome = true ↔ k ∈ h.2.2.1) ∧ ∀ k ∈ h.2.2.1, k < 30000
def GDP (h h' : PH) : Prop := GD h → GD h'
theorem GDP.rf (h : PH) : GDP h h := id
theorem GDP.tr {a b c : PH} (h1 : GDP a b) (h2 : GDP b c) : GDP a c := fun g => h2 (h1 g)
theorem GDP.put {h : PH} {k : Nat} {x y : PE} (e : h.1 k = some x) : GDP h (ph_put h k y) := fun ⟨h2, h3, h4⟩ => by
  refine ⟨h2, fun q => ?_, h4⟩
  by_cases hq : q = k
  · subst hq
    simp only [ph_put, va_up, if_pos]
    exact ⟨fun _ => (h3 q).mp (by rw [e]; rfl), fun _ => rfl⟩
  · have := h3 q
    simpa [ph_put, va_up, hq] using this
theorem GDP.add {h : PH} {k kd n : Nat} {y : PE} (hk : h.1 k = none) (hlt : k < 30000) : GDP h (ph_add h k kd n y) := fun ⟨h2, h3, h4⟩ => by
  have hnm : k ∉ h.2.2.1 := fun hm => by
    have := (h3 k).mpr hm
    rw [hk] at this
    cases this
  refine ⟨?_, fun q => ?_, fun q hq => ?_⟩
  · show (h.2.2.1 ++ [k]).Nodup
    rw [List.nodup_append]
    refine ⟨h2, by simp, fun a ha2 b hb => ?_⟩
    rw [List.mem_singleton.mp hb]
    exact fun e2 => hnm (e2 ▸ ha2)
  · show (va_up h.1 k (some y) q).isSome = true ↔ q ∈ h.2.2.1 ++ [k]
    by_cases hq : q = k
    · subst hq
      simp [va_up]
    · have := h3 q
      simpa [va_up, hq] using this
  · rcases List.mem_append.mp (show q ∈ h.2.2.1 ++ [k] from hq) with hq | hq
    · exact h4 q hq
    · rw [List.mem_singleton.mp hq]; exact hlt
theorem step_gdp {ro : RO} {J : Nat → PL → List Value → PH → PR} {C : Nat → List Value → PH → PR} {lv : PL} {st : List Value} {h : PH} {K : PL → List Value → PH → PR} {r : Option Value} {h' : PH}
    (hJ : ∀ t lv st h1, J t lv st h1 = some (r, h') → GDP h1 h') (hC : ∀ M as h1 v h2, C M as h1 = some (v, h2) → GDP h1 h2) (hK : ∀ lv st h1, K lv st h1 = some (r, h') → GDP h1 h') :
    ∀ (i : PI), step ro J C i lv st h K = some (r, h') → GDP h h'
  | (_, _, 0, _, _, _, _, _), e => hK _ _ _ e
  | (_, _, 1, a, _, _, _, _), e => by
    simp only [step] at e
    split at e
    · exact hK _ _ _ e
    · cases e
  | (_, _, 2, a, _, _, _, _), e => by
    simp only [step] at e
    split at e
    · exact hK _ _ _ e
    · exact hK _ _ _ e
    · cases e
  | (_, _, 3, a, _, _, _, _), e => by
    simp only [step] at e
    split at e
    · exact hK _ _ _ e
    · cases e
  | (_, _, 4, a, _, _, _, _), e => by
    simp only [step] at e
    split at e
    · exact hK _ _ _ e
    · exact hK _ _ _ e
    · cases e
  | (_, _, 5, a, _, _, _, _), e => by
    simp only [step] at e
    split at e
    · exact hK _ _ _ e
    · cases e
  | (_, _, 6, a, _, _, _, _), e => by
    simp only [step] at e
    split at e
    · exact hK _ _ _ e
    · cases e
  | (_, _, 7, a, _, _, _, _), e => by
    simp only [step] at e
    split at e
    · split at e
      · cases e
      · exact hK _ _ _ e
    · cases e
  | (_, _, 8, a, _, _, _, _), e => by
    simp only [step] at e
    split at e
    · split at e
      · cases e
      · exact hK _ _ _ e
    · cases e
  | (_, _, 9, a, _, _, _, _), e => by
    simp only [step] at e
    split at e
    · exact hK _ _ _ e
    · cases e
  | (_, _, 10, a, _, _, _, _), e => by
    simp only [step] at e
    split at e
    · rcases cnd_or e with e | e
      · exact hJ _ _ _ _ e
      · exact hK _ _ _ e
    · cases e
  | (_, _, 11, a, _, _, _, _), e => by
    simp only [step] at e
    split at e
    · rcases cnd_or e with e | e
      · exact hJ _ _ _ _ e
      · exact hK _ _ _ e
    · cases e
  | (_, _, 12, a, _, _, _, _), e => by
    simp only [step] at e
    split at e
    · exact hK _ _ _ e
    · exact hJ _ _ _ _ e
    · cases e
  | (_, _, 13, a, _, _, _, _), e => by
    simp only [step] at e
    split at e
    · exact hJ _ _ _ _ e
    · exact hK _ _ _ e
    · cases e
  | (_, _, 14, _, _, _, _, _), e => hJ _ _ _ _ e
  | (_, _, 15, a, _, _, _, _), e => by
    simp only [step] at e
    split at e
    · obtain ⟨t, e⟩ := swt_or e
      exact hJ _ _ _ _ e
    · cases e
  | (_, _, 16, a, _, _, _, _), e => by
    simp only [step] at e
    split at e
    · obtain ⟨t, e⟩ := swl_or e
      exact hJ _ _ _ _ e
    · cases e
  | (_, _, 17, a, _, _, _, _), e => by
    simp only [step] at e
    split at e
    · obtain ⟨_, _, _, _, e⟩ := gI_inv e
      exact hK _ _ _ e
    · cases e
  | (_, _, 18, a, _, _, _, _), e => by
    simp only [step] at e
    split at e
    · obtain ⟨_, _, ⟨_, _, e⟩ | ⟨_, e⟩⟩ := gR_inv e
      · exact hK _ _ _ e
      · exact hK _ _ _ e
    · cases e
  | (_, _, 19, a, _, _, _, _), e => by
    simp only [step] at e
    split at e
    · obtain ⟨_, e1, _, e⟩ := pF_inv e
      exact (GDP.put e1).tr (hK _ _ _ e)
    · cases e
  | (_, _, 20, a, _, _, _, _), e => by
    simp only [step] at e
    split at e
    · split at e
      · obtain ⟨_, e1, _, e⟩ := pF_inv e
        exact (GDP.put e1).tr (hK _ _ _ e)
      · cases e
    · cases e
  | (_, _, 21, a, _, _, _, _), e => by
    simp only [step] at e
    split at e
    · obtain ⟨_, e1, _, e⟩ := pF_inv e
      exact (GDP.put e1).tr (hK _ _ _ e)
    · cases e
  | (_, _, 22, a, _, _, _, _), e => by
    simp only [step] at e
    split at e
    · obtain ⟨_, _, _, _, e⟩ := aI_inv e
      exact hK _ _ _ e
    · cases e
  | (_, _, 23, a, _, _, _, _), e => by
    simp only [step] at e
    split at e
    · obtain ⟨_, _, _, _, _, ⟨_, _, e⟩ | ⟨_, e⟩⟩ := aR_inv e
      · exact hK _ _ _ e
      · exact hK _ _ _ e
    · cases e
  | (_, _, 24, a, _, _, _, _), e => by
    simp only [step] at e
    split at e
    · obtain ⟨_, _, e1, _, e⟩ := sI_inv e
      exact (GDP.put e1).tr (hK _ _ _ e)
    · cases e
  | (_, _, 25, a, _, _, _, _), e => by
    simp only [step] at e
    split at e
    · obtain ⟨_, _, e1, _, e⟩ := sI_inv e
      exact (GDP.put e1).tr (hK _ _ _ e)
    · cases e
  | (_, _, 26, a, _, _, _, _), e => by
    simp only [step] at e
    split at e
    · obtain ⟨_, _, _, _, e1, _, _, e⟩ := sR_inv e
      exact (GDP.put e1).tr (hK _ _ _ e)
    · cases e
  | (_, _, 27, a, _, _, _, _), e => by
    simp only [step] at e
    split at e
    · obtain ⟨_, _, _, _, e⟩ := aL_inv e
      exact hK _ _ _ e
    · cases e
  | (_, _, 28, _, _, _, _, _), e => hK _ _ _ e
  | (_, _, 29, a, _, _, _, _), e => by
    simp only [step] at e
    exact (GDP.add (nO_inv e).1 (nO_inv e).2.1).tr (hK _ _ _ (nO_inv e).2.2)
  | (_, _, 30, a, _, _, _, _), e => by
    simp only [step] at e
    split at e
    · exact (GDP.add (nA_inv e).1 (nA_inv e).2.1).tr (hK _ _ _ (nA_inv e).2.2.2.2)
    · cases e
  | (_, _, 31, a, _, _, _, _), e => by
    simp only [step] at e
    split at e
    · exact (GDP.add (nQ_inv e).1 (nQ_inv e).2.1).tr (hK _ _ _ (nQ_inv e).2.2.2.2)
    · cases e
  | (_, _, 32, a, _, _, _, _), e => by
    simp only [step] at e
    split at e
    · split at e
      · exact hK _ _ _ e
      · cases e
    · cases e
  | (_, _, 33, a, _, _, _, _), e => by
    simp only [step] at e
    split at e
    · split at e
      · exact hK _ _ _ e
      · cases e
    · cases e
  | (_, _, 34, a, _, _, _, _), e => by
    simp only [step] at e
    split at e
    · split at e
      · exact hK _ _ _ e
      · cases e
    · cases e
  | (_, _, 35, a, _, _, _, _), e => by
    simp only [step] at e
    obtain ⟨-, e⟩ := ivk_inv e
    obtain ⟨_, _, e1, e⟩ := cI_inv e
    exact (hC _ _ _ _ _ e1).tr (hK _ _ _ e)
  | (_, _, 36, a, _, _, _, _), e => by
    simp only [step] at e
    obtain ⟨-, e⟩ := ivk_inv e
    obtain ⟨_, e1, e⟩ := cV_inv e
    exact (hC _ _ _ _ _ e1).tr (hK _ _ _ e)
  | (_, _, 37, a, _, _, _, _), e => by
    simp only [step] at e
    obtain ⟨-, e⟩ := ivk_inv e
    rcases cR_inv e with ⟨_, _, e1, e⟩ | ⟨_, e1, e⟩
    · exact (hC _ _ _ _ _ e1).tr (hK _ _ _ e)
    · exact (hC _ _ _ _ _ e1).tr (hK _ _ _ e)
  | (_, _, 38, a, _, _, _, _), e => by
    simp only [step] at e
    split at e
    · cases e; exact GDP.rf _
    · cases e
  | (_, _, 39, a, _, _, _, _), e => by
    simp only [step] at e
    split at e
    · cases e; exact GDP.rf _
    · cases e
  | (_, _, 40, a, _, _, _, _), e => by
    simp only [step] at e
    split at e
    · split at e
      · cases e; exact GDP.rf _
      · cases e
    · cases e
  | (_, _, 41, a, _, _, _, _), e => by
    simp only [step] at e
    split at e
    · cases e; exact GDP.rf _
    · cases e; exact GDP.rf _
    · cases e
  | (_, _, 42, _, _, _, _, _), e => hK _ _ _ e
  | (_, _, 43, a, _, _, _, _), e => by
    simp only [step] at e
    split at e
    · split at e
      · exact hK _ _ _ e
      · cases e
    · cases e
  | (_, _, 44, a, _, _, _, _), e => by
    simp only [step] at e
    split at e
    · split at e
      · obtain ⟨_, _, _, _, _, e1, _, _, _, _, _, e⟩ := cpA_inv e
        exact (GDP.put e1).tr (hK _ _ _ e)
      · cases e
    · cases e
  | (_, _, 45, _, _, _, _, _), e => hJ _ _ _ _ e
  | (_, _, 46, a, _, _, _, _), e => by
    simp only [step] at e
    split at e
    · split at e
      · obtain ⟨_, _, _, e1, e2, e⟩ := clA_inv e
        exact (GDP.add e1 e2).tr (hK _ _ _ e)
      · cases e
    · cases e
  | (_, _, 47, a, _, _, _, _), e => by
    simp only [step] at e
    split at e
    · split at e
      · exact hK _ _ _ e
      · cases e
    · cases e
  | (_, _, n + 48, a, _, _, _, _), e => by
    simp only [step] at e
    cases e
theorem run_gdp {ro : RO} {J : Nat → PL → List Value → PH → PR} {C : Nat → List Value → PH → PR} {r : Option Value} {h' : PH}
    (hJ : ∀ t lv st h1, J t lv st h1 = some (r, h') → GDP h1 h') (hC : ∀ M as h1 v h2, C M as h1 = some (v, h2) → GDP h1 h2) :
    ∀ (is : List PI) (lv : PL) (st : List Value) (h : PH), run ro J C is lv st h = some (r, h') → GDP h h'
  | [], _, _, _, e => by cases e
  | i :: is, lv, st, h, e => step_gdp hJ hC (run_gdp hJ hC is) i e
theorem EXn_gdp {ro : RO} {B : List (Nat × List PI)} {C : Nat → List Value → PH → PR} {r : Option Value} {h' : PH} (hC : ∀ M as h1 v h2, C M as h1 = some (v, h2) → GDP h1 h2) :
    ∀ (n t : Nat) (lv : PL) (st : List Value) (h : PH), EXn ro B C n t lv st h = some (r, h') → GDP h h'
  | 0, _, _, _, _, e => by cases e
  | n + 1, t, lv, st, h, e => run_gdp (EXn_gdp hC n) hC (pget B t) lv st h e
theorem CALL_gdp {ro : RO} {P : Nat → List (Nat × List PI)} {mL : Nat → Nat} {F : Nat} :
    ∀ (d M : Nat) (as : List Value) (h : PH) (r : Option Value) (h' : PH), CALL ro P mL F d M as h = some (r, h') → GDP h h'
  | 0, _, _, _, _, _, e => by cases e
  | d + 1, M, as, h, r, h', e => by
    unfold CALL at e
    split at e
    · exact EXn_gdp (CALL_gdp d) F 0 _ _ _ e
    · cases e
/-- where a cell lies: the statics and the script where they are, a new one by its place in the list -/
def adF (base : Nat) (sa : Nat → Nat) (l : List Nat) (k : Nat) : Nat := if 30000 ≤ k then sa k else base + l.idxOf k
theorem adF_s {base : Nat} {sa : Nat → Nat} {l : List Nat} {k : Nat} (h : 30000 ≤ k) : adF base sa l k = sa k := if_pos h
theorem adF_i {base : Nat} {sa : Nat → Nat} {h : PH} (g : GD h) {i k : Nat} (hi : h.2.2.1[i]? = some k) : adF base sa h.2.2.1 k = base + i := by
  have hm : k ∈ h.2.2.1 := List.mem_of_getElem? hi
  have hlt := g.2.2 k hm
  unfold adF
  rw [if_neg (by omega)]
  obtain ⟨hil, e1⟩ := List.getElem?_eq_some_iff.mp hi
  have hx : h.2.2.1.idxOf k < h.2.2.1.length := List.idxOf_lt_length_of_mem hm
  have e2 : h.2.2.1[h.2.2.1.idxOf k] = k := List.getElem_idxOf hx
  have : h.2.2.1.idxOf k = i := (List.getElem_inj g.1).mp (e2.trans e1.symm)
  rw [this]
theorem gd_hc0 : GD hc0 := ⟨List.nodup_nil, fun k => ⟨fun h => (by cases h), fun h => absurd h List.not_mem_nil⟩, fun k h => absurd h List.not_mem_nil⟩
