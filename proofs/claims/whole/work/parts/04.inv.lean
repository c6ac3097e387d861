/-! what an answer of a piece of the pure machine says -/
section PINV
variable {ro : RO} {h : PH} {r : Option Value × PH}
theorem gI_inv {k ci j : Nat} {K : Int32 → PR} (e : gI h k ci j K = some r) : ∃ fs x, h.1 k = some (.inr (.inr (ci, fs))) ∧ fs[j]? = some (.int x) ∧ K x = some r := by
  unfold gI at e
  split at e
  · rename_i c fs hk
    split at e
    · rename_i hc
      subst hc
      split at e
      · rename_i x hx
        exact ⟨fs, x, hk, hx, e⟩
      · cases e
    · cases e
  · cases e
theorem gR_inv {k ci j : Nat} {N : PR} {K : Nat → PR} (e : gR h k ci j N K = some r) : ∃ fs, h.1 k = some (.inr (.inr (ci, fs))) ∧ ((∃ q, fs[j]? = some (.ref q) ∧ K q = some r) ∨ (fs[j]? = some .null ∧ N = some r)) := by
  unfold gR at e
  split at e
  · rename_i c fs hk
    split at e
    · rename_i hc
      subst hc
      split at e
      · rename_i q hx
        exact ⟨fs, hk, Or.inl ⟨q, hx, e⟩⟩
      · rename_i hx
        exact ⟨fs, hk, Or.inr ⟨hx, e⟩⟩
      · cases e
    · cases e
  · cases e
theorem pF_inv {k ci j : Nat} {v : Value} {K : PH → PR} (e : pF h k ci j v K = some r) : ∃ fs, h.1 k = some (.inr (.inr (ci, fs))) ∧ j < fs.length ∧ K (ph_put h k (.inr (.inr (ci, fs.set j v)))) = some r := by
  unfold pF at e
  split at e
  · rename_i c fs hk
    split at e
    · rename_i hc
      obtain ⟨rfl, hj⟩ := hc
      exact ⟨fs, hk, hj, e⟩
    · cases e
  · cases e
theorem aI_inv {k tg : Nat} {i : Int32} {K : Int32 → PR} (e : aI ro h k tg i K = some r) : ∃ n f, arr ro h k = some (tg, n, f) ∧ vp_in i n ∧ K (f i.toNatClampNeg) = some r := by
  unfold aI at e
  split at e
  · rename_i t n f hk
    split at e
    · rename_i hc
      obtain ⟨rfl, hj⟩ := hc
      exact ⟨n, f, hk, hj, e⟩
    · cases e
  · cases e
theorem aR_inv {k : Nat} {i : Int32} {N : PR} {K : Nat → PR} (e : aR h k i N K = some r) : ∃ t n g, h.1 k = some (.inr (.inl (t, n, g))) ∧ vp_in i n ∧ ((∃ q, g i.toNatClampNeg = some q ∧ K q = some r) ∨ (g i.toNatClampNeg = none ∧ N = some r)) := by
  unfold aR at e
  split at e
  · rename_i t n g hk
    split at e
    · rename_i hc
      split at e
      · rename_i hq
        exact ⟨t, n, g, hk, hc, Or.inr ⟨hq, e⟩⟩
      · rename_i q hq
        exact ⟨t, n, g, hk, hc, Or.inl ⟨q, hq, e⟩⟩
    · cases e
  · cases e
theorem aL_inv {k : Nat} {K : Int32 → PR} (e : aL ro h k K = some r) : ∃ t n f, arr ro h k = some (t, n, f) ∧ K (Int32.ofNat n) = some r := by
  unfold aL at e
  split at e
  · rename_i t n f hk
    exact ⟨t, n, f, hk, e⟩
  · cases e
theorem sI_inv {k tg : Nat} {i v : Int32} {K : PH → PR} (e : sI h k tg i v K = some r) : ∃ n f, h.1 k = some (.inl (tg, n, f)) ∧ vp_in i n ∧ K (ph_put h k (.inl (tg, n, upd f i.toNatClampNeg v))) = some r := by
  unfold sI at e
  split at e
  · rename_i t n f hk
    split at e
    · rename_i hc
      obtain ⟨rfl, hj⟩ := hc
      exact ⟨n, f, hk, hj, e⟩
    · cases e
  · cases e
theorem sR_inv {k q : Nat} {i : Int32} {K : PH → PR} (e : sR h k i q K = some r) : ∃ n g c fs, h.1 k = some (.inr (.inl (10 + c, n, g))) ∧ h.1 q = some (.inr (.inr (c, fs))) ∧ vp_in i n ∧ K (ph_put h k (.inr (.inl (10 + c, n, va_up g i.toNatClampNeg (some q))))) = some r := by
  unfold sR at e
  split at e
  · rename_i t n g c fs hk hq
    split at e
    · rename_i hc
      obtain ⟨rfl, hj⟩ := hc
      exact ⟨n, g, c, fs, hk, hq, hj, e⟩
    · cases e
  · cases e
theorem nO_inv {ci N : Nat} {fs : List Value} {K : Nat → PH → PR} (e : nO h ci N fs K = some r) : h.1 (1000 * ci + h.2.1 ci) = none ∧ 1000 * ci + h.2.1 ci < 30000 ∧ K (1000 * ci + h.2.1 ci) (ph_add h (1000 * ci + h.2.1 ci) ci N (.inr (.inr (ci, fs)))) = some r := by
  unfold nO at e
  split at e
  · rename_i hc
    exact ⟨by simpa using hc.1, by omega, e⟩
  · cases e
theorem nA_inv {tg : Nat} {n : Int32} {f : Nat → Int32} {K : Nat → PH → PR} (e : nA h tg n f K = some r) : h.1 (20000 + h.2.1 20) = none ∧ 20000 + h.2.1 20 < 30000 ∧ ¬ n < 0 ∧ n.toNatClampNeg ≤ 100000 ∧ K (20000 + h.2.1 20) (ph_add h (20000 + h.2.1 20) 20 n.toNatClampNeg (.inl (tg, n.toNatClampNeg, f))) = some r := by
  unfold nA at e
  split at e
  · rename_i hc
    exact ⟨by simpa using hc.1, hc.2.1, hc.2.2.1, hc.2.2.2, e⟩
  · cases e
theorem nQ_inv {tg : Nat} {n : Int32} {K : Nat → PH → PR} (e : nQ h tg n K = some r) : h.1 (20000 + h.2.1 20) = none ∧ 20000 + h.2.1 20 < 30000 ∧ ¬ n < 0 ∧ n.toNatClampNeg ≤ 100000 ∧ K (20000 + h.2.1 20) (ph_add h (20000 + h.2.1 20) 20 n.toNatClampNeg (.inr (.inl (tg, n.toNatClampNeg, fun _ => none)))) = some r := by
  unfold nQ at e
  split at e
  · rename_i hc
    exact ⟨by simpa using hc.1, hc.2.1, hc.2.2.1, hc.2.2.2, e⟩
  · cases e
theorem cpA_inv {k q : Nat} {sp dp n : Int32} {K : PH → PR} (e : cpA h k sp q dp n K = some r) : ∃ n0 f n1 g, h.1 k = some (.inl (0, n0, f)) ∧ h.1 q = some (.inl (0, n1, g)) ∧ ¬ sp < 0 ∧ ¬ dp < 0 ∧ ¬ n < 0 ∧ sp.toNatClampNeg + n.toNatClampNeg ≤ n0 ∧ dp.toNatClampNeg + n.toNatClampNeg ≤ n1 ∧ K (ph_put h q (.inl (0, n1, va_cpy f g sp.toNatClampNeg dp.toNatClampNeg n.toNatClampNeg))) = some r := by
  unfold cpA at e
  split at e
  · rename_i t0 n0 f t1 n1 g hk hq
    split at e
    · rename_i hc
      obtain ⟨rfl, rfl, h1, h2, h3, h4, h5⟩ := hc
      exact ⟨n0, f, n1, g, hk, hq, h1, h2, h3, h4, h5, e⟩
    · cases e
  · cases e
theorem clA_inv {k : Nat} {K : Nat → PH → PR} (e : clA h k K = some r) : ∃ n f, h.1 k = some (.inl (0, n, f)) ∧ h.1 (20000 + h.2.1 20) = none ∧ 20000 + h.2.1 20 < 30000 ∧ K (20000 + h.2.1 20) (ph_add h (20000 + h.2.1 20) 20 n (.inl (0, n, f))) = some r := by
  unfold clA at e
  split at e
  · rename_i t n f hk
    split at e
    · rename_i hc
      obtain ⟨rfl, h1, h2⟩ := hc
      exact ⟨n, f, hk, by simpa using h1, h2, e⟩
    · cases e
  · cases e
theorem isA_inv {k : Nat} (e : isA h k = true) : ∃ n f, h.1 k = some (.inl (0, n, f)) := by
  unfold isA at e
  split at e
  · rename_i t n f hk
    have : t = 0 := by simpa using e
    subst this
    exact ⟨n, f, hk⟩
  · cases e
theorem isO_inv {v : Option Value} {ci : Nat} (e : isO h v ci = true) : ∃ k fs, v = some (.ref k) ∧ h.1 k = some (.inr (.inr (ci, fs))) := by
  unfold isO at e
  split at e
  · rename_i k
    split at e
    · rename_i c fs hk
      have : c = ci := by simpa using e
      subst this
      exact ⟨k, fs, rfl, hk⟩
    · cases e
  · cases e
theorem ivk_inv {st : List Value} {b x : Nat} {K : PR} (e : ivk st b x h K = some r) : (b ≤ st.length ∧ ((st.drop b).map fun v => v.category).sum ≤ 8 ∧ (x = 0 ∨ isO h ((st.take b).reverse)[0]? (x - 1) = true)) ∧ K = some r := by
  unfold ivk at e
  split at e
  · rename_i h1
    split at e
    · rename_i h2
      exact ⟨⟨h1.1, h1.2, Or.inl h2⟩, e⟩
    · unfold vO at e
      split at e
      · rename_i h3
        exact ⟨⟨h1.1, h1.2, Or.inr h3⟩, e⟩
      · cases e
  · cases e
theorem cI_inv {q : PR} {K : Int32 → PH → PR} (e : cI q K = some r) : ∃ x h1, q = some (some (.int x), h1) ∧ K x h1 = some r := by
  unfold cI at e
  split at e
  · exact ⟨_, _, rfl, e⟩
  · cases e
theorem cV_inv {q : PR} {K : PH → PR} (e : cV q K = some r) : ∃ h1, q = some (none, h1) ∧ K h1 = some r := by
  unfold cV at e
  split at e
  · exact ⟨_, rfl, e⟩
  · cases e
theorem cR_inv {q : PR} {N : PH → PR} {K : Nat → PH → PR} (e : cR q N K = some r) : (∃ k h1, q = some (some (.ref k), h1) ∧ K k h1 = some r) ∨ ∃ h1, q = some (some .null, h1) ∧ N h1 = some r := by
  unfold cR at e
  split at e
  · exact Or.inl ⟨_, _, rfl, e⟩
  · exact Or.inr ⟨_, rfl, e⟩
  · cases e
theorem cnd_or {a : Nat} {x y : Int32} {T F : PR} (e : cnd a x y T F = some r) : T = some r ∨ F = some r := by
  unfold cnd at e
  split at e <;> split at e <;> first | exact Or.inl e | exact Or.inr e
theorem swt_or {F : Nat → PR} {b : Nat} {y : Int32} : ∀ {ts : List Nat} {v : Int32}, swt F b y ts v = some r → ∃ t, F t = some r
  | [], v, e => ⟨b, e⟩
  | t :: ts, v, e => by
    unfold swt at e
    split at e
    · exact ⟨t, e⟩
    · exact swt_or e
theorem swl_or {F : Nat → PR} {b : Nat} {y : Int32} : ∀ {ts : List Nat}, swl F b y ts = some r → ∃ t, F t = some r
  | [], e => ⟨b, e⟩
  | [_], e => ⟨b, e⟩
  | k :: t :: ts, e => by
    unfold swl at e
    split at e
    · exact ⟨t, e⟩
    · exact swl_or e
end PINV
theorem step_mono {ro : RO} {J : Nat → PL → List Value → PH → PR} {C : Nat → List Value → PH → PR} {lv : PL} {st : List Value} {h : PH} {K : PL → List Value → PH → PR} {r : Option Value} {h' : PH}
    (hJ : ∀ t lv st h1, J t lv st h1 = some (r, h') → PLe h1 h') (hC : ∀ M as h1 v h2, C M as h1 = some (v, h2) → PLe h1 h2) (hK : ∀ lv st h1, K lv st h1 = some (r, h') → PLe h1 h') :
    ∀ (i : PI), step ro J C i lv st h K = some (r, h') → PLe h h'
  | (_, _, 0, _, _, _, _, _), e => hK _ _ _ e
  | (_, _, 1, a, _, _, _, _), e => by
    simp only [step] at e
    split at e
    · exact hK _ _ _ e
    · cases e
  | (_, _, 2, a, _, _, _, _), e => by
    simp only [step] at e
    split at e
    · exact hK _ _ _ e
    · exact hK _ _ _ e
    · cases e
  | (_, _, 3, a, _, _, _, _), e => by
    simp only [step] at e
    split at e
    · exact hK _ _ _ e
    · cases e
  | (_, _, 4, a, _, _, _, _), e => by
    simp only [step] at e
    split at e
    · exact hK _ _ _ e
    · exact hK _ _ _ e
    · cases e
  | (_, _, 5, a, _, _, _, _), e => by
    simp only [step] at e
    split at e
    · exact hK _ _ _ e
    · cases e
  | (_, _, 6, a, _, _, _, _), e => by
    simp only [step] at e
    split at e
    · exact hK _ _ _ e
    · cases e
  | (_, _, 7, a, _, _, _, _), e => by
    simp only [step] at e
    split at e
    · split at e
      · cases e
      · exact hK _ _ _ e
    · cases e
  | (_, _, 8, a, _, _, _, _), e => by
    simp only [step] at e
    split at e
    · split at e
      · cases e
      · exact hK _ _ _ e
    · cases e
  | (_, _, 9, a, _, _, _, _), e => by
    simp only [step] at e
    split at e
    · exact hK _ _ _ e
    · cases e
  | (_, _, 10, a, _, _, _, _), e => by
    simp only [step] at e
    split at e
    · rcases cnd_or e with e | e
      · exact hJ _ _ _ _ e
      · exact hK _ _ _ e
    · cases e
  | (_, _, 11, a, _, _, _, _), e => by
    simp only [step] at e
    split at e
    · rcases cnd_or e with e | e
      · exact hJ _ _ _ _ e
      · exact hK _ _ _ e
    · cases e
  | (_, _, 12, a, _, _, _, _), e => by
    simp only [step] at e
    split at e
    · exact hK _ _ _ e
    · exact hJ _ _ _ _ e
    · cases e
  | (_, _, 13, a, _, _, _, _), e => by
    simp only [step] at e
    split at e
    · exact hJ _ _ _ _ e
    · exact hK _ _ _ e
    · cases e
  | (_, _, 14, _, _, _, _, _), e => hJ _ _ _ _ e
  | (_, _, 15, a, _, _, _, _), e => by
    simp only [step] at e
    split at e
    · obtain ⟨t, e⟩ := swt_or e
      exact hJ _ _ _ _ e
    · cases e
  | (_, _, 16, a, _, _, _, _), e => by
    simp only [step] at e
    split at e
    · obtain ⟨t, e⟩ := swl_or e
      exact hJ _ _ _ _ e
    · cases e
  | (_, _, 17, a, _, _, _, _), e => by
    simp only [step] at e
    split at e
    · obtain ⟨_, _, _, _, e⟩ := gI_inv e
      exact hK _ _ _ e
    · cases e
  | (_, _, 18, a, _, _, _, _), e => by
    simp only [step] at e
    split at e
    · obtain ⟨_, _, ⟨_, _, e⟩ | ⟨_, e⟩⟩ := gR_inv e
      · exact hK _ _ _ e
      · exact hK _ _ _ e
    · cases e
  | (_, _, 19, a, _, _, _, _), e => by
    simp only [step] at e
    split at e
    · obtain ⟨_, _, _, e⟩ := pF_inv e
      exact (PLe.put _ _ _).tr (hK _ _ _ e)
    · cases e
  | (_, _, 20, a, _, _, _, _), e => by
    simp only [step] at e
    split at e
    · split at e
      · obtain ⟨_, _, _, e⟩ := pF_inv e
        exact (PLe.put _ _ _).tr (hK _ _ _ e)
      · cases e
    · cases e
  | (_, _, 21, a, _, _, _, _), e => by
    simp only [step] at e
    split at e
    · obtain ⟨_, _, _, e⟩ := pF_inv e
      exact (PLe.put _ _ _).tr (hK _ _ _ e)
    · cases e
  | (_, _, 22, a, _, _, _, _), e => by
    simp only [step] at e
    split at e
    · obtain ⟨_, _, _, _, e⟩ := aI_inv e
      exact hK _ _ _ e
    · cases e
  | (_, _, 23, a, _, _, _, _), e => by
    simp only [step] at e
    split at e
    · obtain ⟨_, _, _, _, _, ⟨_, _, e⟩ | ⟨_, e⟩⟩ := aR_inv e
      · exact hK _ _ _ e
      · exact hK _ _ _ e
    · cases e
  | (_, _, 24, a, _, _, _, _), e => by
    simp only [step] at e
    split at e
    · obtain ⟨_, _, _, _, e⟩ := sI_inv e
      exact (PLe.put _ _ _).tr (hK _ _ _ e)
    · cases e
  | (_, _, 25, a, _, _, _, _), e => by
    simp only [step] at e
    split at e
    · obtain ⟨_, _, _, _, e⟩ := sI_inv e
      exact (PLe.put _ _ _).tr (hK _ _ _ e)
    · cases e
  | (_, _, 26, a, _, _, _, _), e => by
    simp only [step] at e
    split at e
    · obtain ⟨_, _, _, _, _, _, _, e⟩ := sR_inv e
      exact (PLe.put _ _ _).tr (hK _ _ _ e)
    · cases e
  | (_, _, 27, a, _, _, _, _), e => by
    simp only [step] at e
    split at e
    · obtain ⟨_, _, _, _, e⟩ := aL_inv e
      exact hK _ _ _ e
    · cases e
  | (_, _, 28, _, _, _, _, _), e => hK _ _ _ e
  | (_, _, 29, a, _, _, _, _), e => by
    simp only [step] at e
    exact (PLe.add _ _ _ _ _).tr (hK _ _ _ (nO_inv e).2.2)
  | (_, _, 30, a, _, _, _, _), e => by
    simp only [step] at e
    split at e
    · exact (PLe.add _ _ _ _ _).tr (hK _ _ _ (nA_inv e).2.2.2.2)
    · cases e
  | (_, _, 31, a, _, _, _, _), e => by
    simp only [step] at e
    split at e
    · exact (PLe.add _ _ _ _ _).tr (hK _ _ _ (nQ_inv e).2.2.2.2)
    · cases e
  | (_, _, 32, a, _, _, _, _), e => by
    simp only [step] at e
    split at e
    · split at e
      · exact hK _ _ _ e
      · cases e
    · cases e
  | (_, _, 33, a, _, _, _, _), e => by
    simp only [step] at e
    split at e
    · split at e
      · exact hK _ _ _ e
      · cases e
    · cases e
  | (_, _, 34, a, _, _, _, _), e => by
    simp only [step] at e
    split at e
    · split at e
      · exact hK _ _ _ e
      · cases e
    · cases e
  | (_, _, 35, a, _, _, _, _), e => by
    simp only [step] at e
    obtain ⟨-, e⟩ := ivk_inv e
    obtain ⟨_, _, e1, e⟩ := cI_inv e
    exact (hC _ _ _ _ _ e1).tr (hK _ _ _ e)
  | (_, _, 36, a, _, _, _, _), e => by
    simp only [step] at e
    obtain ⟨-, e⟩ := ivk_inv e
    obtain ⟨_, e1, e⟩ := cV_inv e
    exact (hC _ _ _ _ _ e1).tr (hK _ _ _ e)
  | (_, _, 37, a, _, _, _, _), e => by
    simp only [step] at e
    obtain ⟨-, e⟩ := ivk_inv e
    rcases cR_inv e with ⟨_, _, e1, e⟩ | ⟨_, e1, e⟩
    · exact (hC _ _ _ _ _ e1).tr (hK _ _ _ e)
    · exact (hC _ _ _ _ _ e1).tr (hK _ _ _ e)
  | (_, _, 38, a, _, _, _, _), e => by
    simp only [step] at e
    split at e
    · cases e; exact PLe.rf _
    · cases e
  | (_, _, 39, a, _, _, _, _), e => by
    simp only [step] at e
    split at e
    · cases e; exact PLe.rf _
    · cases e
  | (_, _, 40, a, _, _, _, _), e => by
    simp only [step] at e
    split at e
    · split at e
      · cases e; exact PLe.rf _
      · cases e
    · cases e
  | (_, _, 41, a, _, _, _, _), e => by
    simp only [step] at e
    split at e
    · cases e; exact PLe.rf _
    · cases e; exact PLe.rf _
    · cases e
  | (_, _, 42, _, _, _, _, _), e => hK _ _ _ e
  | (_, _, 43, a, _, _, _, _), e => by
    simp only [step] at e
    split at e
    · split at e
      · exact hK _ _ _ e
      · cases e
    · cases e
  | (_, _, 44, a, _, _, _, _), e => by
    simp only [step] at e
    split at e
    · split at e
      · obtain ⟨_, _, _, _, _, _, _, _, _, _, _, e⟩ := cpA_inv e
        exact (PLe.put _ _ _).tr (hK _ _ _ e)
      · cases e
    · cases e
  | (_, _, 45, _, _, _, _, _), e => hJ _ _ _ _ e
  | (_, _, 46, a, _, _, _, _), e => by
    simp only [step] at e
    split at e
    · split at e
      · obtain ⟨_, _, _, _, _, e⟩ := clA_inv e
        exact (PLe.add _ _ _ _ _).tr (hK _ _ _ e)
      · cases e
    · cases e
  | (_, _, 47, a, _, _, _, _), e => by
    simp only [step] at e
    split at e
    · split at e
      · exact hK _ _ _ e
      · cases e
    · cases e
  | (_, _, n + 48, a, _, _, _, _), e => by
    simp only [step] at e
    cases e
theorem run_mono {ro : RO} {J : Nat → PL → List Value → PH → PR} {C : Nat → List Value → PH → PR} {r : Option Value} {h' : PH}
    (hJ : ∀ t lv st h1, J t lv st h1 = some (r, h') → PLe h1 h') (hC : ∀ M as h1 v h2, C M as h1 = some (v, h2) → PLe h1 h2) :
    ∀ (is : List PI) (lv : PL) (st : List Value) (h : PH), run ro J C is lv st h = some (r, h') → PLe h h'
  | [], _, _, _, e => by cases e
  | i :: is, lv, st, h, e => step_mono hJ hC (run_mono hJ hC is) i e
theorem EXn_mono {ro : RO} {B : List (Nat × List PI)} {C : Nat → List Value → PH → PR} {r : Option Value} {h' : PH} (hC : ∀ M as h1 v h2, C M as h1 = some (v, h2) → PLe h1 h2) :
    ∀ (n t : Nat) (lv : PL) (st : List Value) (h : PH), EXn ro B C n t lv st h = some (r, h') → PLe h h'
  | 0, _, _, _, _, e => by cases e
  | n + 1, t, lv, st, h, e => run_mono (EXn_mono hC n) hC (pget B t) lv st h e
theorem CALL_mono {ro : RO} {P : Nat → List (Nat × List PI)} {mL : Nat → Nat} {F : Nat} :
    ∀ (d M : Nat) (as : List Value) (h : PH) (r : Option Value) (h' : PH), CALL ro P mL F d M as h = some (r, h') → PLe h h'
  | 0, _, _, _, _, _, e => by cases e
  | d + 1, M, as, h, r, h', e => by
    unfold CALL at e
    split at e
    · exact EXn_mono (CALL_mono d) F 0 _ _ _ e
    · cases e
