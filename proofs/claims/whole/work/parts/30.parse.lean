/-! TEXTS: how they are read, once for both -/
abbrev VF : Type := (Nat → Int32) → Bool
/-- a FAULT at a place, or the next place and what was read -/
abbrev PO : Type := Nat ⊕ (Nat × VF)
def ltr (c : Nat) : Option Nat := if c = 104 then some 0 else if c = 99 then some 1 else if c = 112 then some 2 else if c = 119 then some 3 else if c = 109 then some 4 else if c = 102 then some 5 else if c = 107 then some 6 else if c = 115 then some 7 else if c = 113 then some 8 else none
def isD (c : Nat) : Prop := 48 ≤ c ∧ c ≤ 57
def nmF (k : Nat → Nat) : Nat → Nat → Int32 → Nat × Int32
  | 0, p, a => (p, a)
  | i + 1, p, a => if 48 ≤ k p ∧ k p ≤ 57 then nmF k i (p + 1) (((10 * a) + nI (k p)) - 48) else (p, a)
def cmpV (o : Nat) (a b : Int32) : Bool := if o = 60 then decide (a < b) else if o = 61 then decide (a = b) else decide (b < a)
def tst (k : Nat → Nat) (p : Nat) : PO := match ltr (k p) with
  | none => .inl p
  | some f => if k (p + 1) = 60 ∨ k (p + 1) = 61 ∨ k (p + 1) = 62 then (if 48 ≤ k (p + 2) ∧ k (p + 2) ≤ 57 then .inr ((nmF k 3 (p + 2) 0).1, fun F => cmpV (k (p + 1)) (F f) (nmF k 3 (p + 2) 0).2) else .inl (p + 2)) else .inl (p + 1)
def boL (k : Nat → Nat) (f : Nat → PO) : Nat → Nat → VF → PO
  | 0, q, v => .inr (q, v)
  | i + 1, q, v => if k q = 38 then (match f (q + 1) with
    | .inl z => .inl z
    | .inr (z, w) => boL k f i z (fun F => w F && v F)) else .inr (q, v)
def both (k : Nat → Nat) (f : Nat → PO) (p : Nat) : PO := match f p with
  | .inl q => .inl q
  | .inr (q, v) => boL k f 80 q v
def eiL (k : Nat → Nat) (f : Nat → PO) : Nat → Nat → VF → PO
  | 0, q, v => .inr (q, v)
  | i + 1, q, v => if k q = 124 then (match both k f (q + 1) with
    | .inl z => .inl z
    | .inr (z, w) => eiL k f i z (fun F => w F || v F)) else .inr (q, v)
def eith (k : Nat → Nat) (f : Nat → PO) (p : Nat) : PO := match both k f p with
  | .inl q => .inl q
  | .inr (q, v) => eiL k f 80 q v
def one (k : Nat → Nat) : Nat → Nat → PO
  | 0, p => if k p = 33 ∨ k p = 40 then .inl p else tst k p
  | b + 1, p => if k p = 33 then (match one k b (p + 1) with
    | .inl q => .inl q
    | .inr (q, v) => .inr (q, fun F => !(v F))) else if k p = 40 then (match eith k (one k b) (p + 1) with
    | .inl q => .inl q
    | .inr (q, v) => if k q = 41 then .inr (q + 1, v) else .inl q) else tst k p
/-- places go on, and stay within -/
def Gd (n : Nat) (g : Nat → PO) : Prop := ∀ p, p ≤ n → (∀ q, g p = .inl q → p ≤ q ∧ q ≤ n) ∧ (∀ q v, g p = .inr (q, v) → p < q ∧ q ≤ n)
section PARSE
variable {k : Nat → Nat} {n : Nat}
theorem ltr_lt {c f : Nat} (h : ltr c = some f) : f < 9 ∧ c < 128 := by
  unfold ltr at h
  repeat' (split at h)
  all_goals first | (cases h; omega) | cases h
theorem nmF_b (hk : ∀ p, n ≤ p → k p = 200) : ∀ (i p : Nat) (a : Int32), p ≤ n → p ≤ (nmF k i p a).1 ∧ (nmF k i p a).1 ≤ n
  | 0, p, a, hp => ⟨Nat.le_refl _, hp⟩
  | i + 1, p, a, hp => by
    unfold nmF
    by_cases h : 48 ≤ k p ∧ k p ≤ 57
    · rw [if_pos h]
      have hpn : p < n := by
        rcases Nat.lt_or_ge p n with z | z
        · exact z
        · have := hk p z
          omega
      have := nmF_b hk i (p + 1) (((10 * a) + nI (k p)) - 48) (by omega)
      omega
    · rw [if_neg h]
      exact ⟨Nat.le_refl _, hp⟩
theorem lt_of_k (hk : ∀ p, n ≤ p → k p = 200) {p c : Nat} (h : k p = c) (hc : c < 200) : p < n := by
  rcases Nat.lt_or_ge p n with z | z
  · exact z
  · have := hk p z
    omega
theorem tst_g (hk : ∀ p, n ≤ p → k p = 200) : Gd n (tst k) := by
  intro p hp
  unfold tst
  cases hl : ltr (k p) with
  | none =>
    refine ⟨fun q h => ?_, fun q v h => ?_⟩
    · cases h
      exact ⟨Nat.le_refl _, hp⟩
    · cases h
  | some f =>
    have h1 : p < n := by
      have := (ltr_lt hl).2
      exact lt_of_k hk rfl (by omega)
    by_cases h2 : k (p + 1) = 60 ∨ k (p + 1) = 61 ∨ k (p + 1) = 62
    · have h3 : p + 1 < n := lt_of_k hk rfl (by omega)
      simp only [if_pos h2]
      by_cases h4 : 48 ≤ k (p + 2) ∧ k (p + 2) ≤ 57
      · have h5 : p + 2 < n := lt_of_k hk rfl (by omega)
        have h6 := nmF_b hk 3 (p + 2) 0 (by omega)
        simp only [if_pos h4]
        refine ⟨fun q h => ?_, fun q v h => ?_⟩
        · cases h
        · cases h
          omega
      · simp only [if_neg h4]
        refine ⟨fun q h => ?_, fun q v h => ?_⟩
        · cases h
          omega
        · cases h
    · simp only [if_neg h2]
      refine ⟨fun q h => ?_, fun q v h => ?_⟩
      · cases h
        omega
      · cases h
theorem boL_g (hk : ∀ p, n ≤ p → k p = 200) {f : Nat → PO} (hf : Gd n f) : ∀ (i q : Nat) (v : VF), q ≤ n → (∀ z, boL k f i q v = .inl z → q ≤ z ∧ z ≤ n) ∧ (∀ z w, boL k f i q v = .inr (z, w) → q ≤ z ∧ z ≤ n ∧ (n < i + q → k z ≠ 38))
  | 0, q, v, hq => by
    refine ⟨fun z h => ?_, fun z w h => ?_⟩
    · cases h
    · cases h
      exact ⟨Nat.le_refl _, hq, fun a => by omega⟩
  | i + 1, q, v, hq => by
    unfold boL
    by_cases h1 : k q = 38
    · have h2 : q < n := lt_of_k hk h1 (by decide)
      simp only [if_pos h1]
      have g := hf (q + 1) (by omega)
      cases hh : f (q + 1) with
      | inl z =>
        refine ⟨fun y h => ?_, fun z w h => ?_⟩
        · cases h
          have := g.1 z hh
          omega
        · cases h
      | inr zw =>
        obtain ⟨z, w⟩ := zw
        have g2 := g.2 z w hh
        have ih := boL_g hk hf i z (fun F => w F && v F) g2.2
        refine ⟨fun y h => ?_, fun y u h => ?_⟩
        · have := ih.1 y h
          omega
        · have := ih.2 y u h
          exact ⟨by omega, by omega, fun a => this.2.2 (by omega)⟩
    · simp only [if_neg h1]
      refine ⟨fun z h => ?_, fun z w h => ?_⟩
      · cases h
      · cases h
        exact ⟨Nat.le_refl _, hq, fun _ => h1⟩
theorem both_g (hk : ∀ p, n ≤ p → k p = 200) {f : Nat → PO} (hf : Gd n f) : Gd n (both k f) := by
  intro p hp
  have g := hf p hp
  unfold both
  cases hh : f p with
  | inl z =>
    refine ⟨fun y h => ?_, fun z w h => ?_⟩
    · cases h
      exact g.1 z hh
    · cases h
  | inr zw =>
    obtain ⟨z, w⟩ := zw
    have g2 := g.2 z w hh
    have ih := boL_g hk hf 80 z w g2.2
    refine ⟨fun y h => ?_, fun y u h => ?_⟩
    · have := ih.1 y h
      omega
    · have := ih.2 y u h
      omega
theorem both_x (hk : ∀ p, n ≤ p → k p = 200) (hn : n ≤ 80) {f : Nat → PO} (hf : Gd n f) {p q : Nat} {v : VF} (hp : p ≤ n) (h : both k f p = .inr (q, v)) : k q ≠ 38 := by
  have g := hf p hp
  unfold both at h
  cases hh : f p with
  | inl z =>
    rw [hh] at h
    cases h
  | inr zw =>
    obtain ⟨z, w⟩ := zw
    rw [hh] at h
    have g2 := g.2 z w hh
    exact ((boL_g hk hf 80 z w g2.2).2 q v h).2.2 (by omega)
theorem eiL_g (hk : ∀ p, n ≤ p → k p = 200) (hn : n ≤ 80) {f : Nat → PO} (hf : Gd n f) : ∀ (i q : Nat) (v : VF), q ≤ n → (∀ z, eiL k f i q v = .inl z → q ≤ z ∧ z ≤ n) ∧ (∀ z w, eiL k f i q v = .inr (z, w) → q ≤ z ∧ z ≤ n ∧ (n < i + q → k z ≠ 124) ∧ (k q ≠ 38 → k z ≠ 38))
  | 0, q, v, hq => by
    refine ⟨fun z h => ?_, fun z w h => ?_⟩
    · cases h
    · cases h
      exact ⟨Nat.le_refl _, hq, fun a => by omega, fun a => a⟩
  | i + 1, q, v, hq => by
    unfold eiL
    by_cases h1 : k q = 124
    · have h2 : q < n := lt_of_k hk h1 (by decide)
      simp only [if_pos h1]
      have g := both_g hk hf (q + 1) (by omega)
      cases hh : both k f (q + 1) with
      | inl z =>
        refine ⟨fun y h => ?_, fun z w h => ?_⟩
        · cases h
          have := g.1 z hh
          omega
        · cases h
      | inr zw =>
        obtain ⟨z, w⟩ := zw
        have g2 := g.2 z w hh
        have g3 := both_x hk hn hf (by omega) hh
        have ih := eiL_g hk hn hf i z (fun F => w F || v F) g2.2
        refine ⟨fun y h => ?_, fun y u h => ?_⟩
        · have := ih.1 y h
          omega
        · have := ih.2 y u h
          exact ⟨by omega, by omega, fun a => this.2.2.1 (by omega), fun _ => this.2.2.2 g3⟩
    · simp only [if_neg h1]
      refine ⟨fun z h => ?_, fun z w h => ?_⟩
      · cases h
      · cases h
        exact ⟨Nat.le_refl _, hq, fun _ => h1, fun a => a⟩
theorem eith_g (hk : ∀ p, n ≤ p → k p = 200) (hn : n ≤ 80) {f : Nat → PO} (hf : Gd n f) : Gd n (eith k f) := by
  intro p hp
  have g := both_g hk hf p hp
  unfold eith
  cases hh : both k f p with
  | inl z =>
    refine ⟨fun y h => ?_, fun z w h => ?_⟩
    · cases h
      exact g.1 z hh
    · cases h
  | inr zw =>
    obtain ⟨z, w⟩ := zw
    have g2 := g.2 z w hh
    have ih := eiL_g hk hn hf 80 z w g2.2
    refine ⟨fun y h => ?_, fun y u h => ?_⟩
    · have := ih.1 y h
      omega
    · have := ih.2 y u h
      omega
theorem eith_x (hk : ∀ p, n ≤ p → k p = 200) (hn : n ≤ 80) {f : Nat → PO} (hf : Gd n f) {p q : Nat} {v : VF} (hp : p ≤ n) (h : eith k f p = .inr (q, v)) : k q ≠ 38 ∧ k q ≠ 124 := by
  have g := both_g hk hf p hp
  unfold eith at h
  cases hh : both k f p with
  | inl z =>
    rw [hh] at h
    cases h
  | inr zw =>
    obtain ⟨z, w⟩ := zw
    rw [hh] at h
    have g2 := g.2 z w hh
    have ih := (eiL_g hk hn hf 80 z w g2.2).2 q v h
    exact ⟨ih.2.2.2 (both_x hk hn hf hp hh), ih.2.2.1 (by omega)⟩
theorem one_g (hk : ∀ p, n ≤ p → k p = 200) (hn : n ≤ 80) : ∀ b, Gd n (one k b)
  | 0 => by
    intro p hp
    unfold one
    by_cases h1 : k p = 33 ∨ k p = 40
    · simp only [if_pos h1]
      refine ⟨fun z h => ?_, fun z w h => ?_⟩
      · cases h
        exact ⟨Nat.le_refl _, hp⟩
      · cases h
    · simp only [if_neg h1]
      exact tst_g hk p hp
  | b + 1 => by
    intro p hp
    have ih := one_g hk hn b
    unfold one
    by_cases h1 : k p = 33
    · simp only [if_pos h1]
      have h2 : p < n := lt_of_k hk h1 (by decide)
      have g := ih (p + 1) (by omega)
      cases hh : one k b (p + 1) with
      | inl z =>
        refine ⟨fun y h => ?_, fun z w h => ?_⟩
        · cases h
          have := g.1 z hh
          omega
        · cases h
      | inr zw =>
        obtain ⟨z, w⟩ := zw
        have g2 := g.2 z w hh
        refine ⟨fun y h => ?_, fun y u h => ?_⟩
        · cases h
        · cases h
          omega
    · simp only [if_neg h1]
      by_cases h3 : k p = 40
      · simp only [if_pos h3]
        have h2 : p < n := lt_of_k hk h3 (by decide)
        have g := eith_g hk hn ih (p + 1) (by omega)
        cases hh : eith k (one k b) (p + 1) with
        | inl z =>
          refine ⟨fun y h => ?_, fun z w h => ?_⟩
          · cases h
            have := g.1 z hh
            omega
          · cases h
        | inr zw =>
          obtain ⟨z, w⟩ := zw
          have g2 := g.2 z w hh
          by_cases h4 : k z = 41
          · have h5 : z < n := lt_of_k hk h4 (by decide)
            simp only [if_pos h4]
            refine ⟨fun y h => ?_, fun y u h => ?_⟩
            · cases h
            · cases h
              omega
          · simp only [if_neg h4]
            refine ⟨fun y h => ?_, fun y u h => ?_⟩
            · cases h
              omega
            · cases h
      · simp only [if_neg h3]
        exact tst_g hk p hp
/-! bytes as both hold them -/
def kch (t : Nat → Nat) (n p : Nat) : Nat := if p < n ∧ t p < 128 then t p else 200
def cch (t : Nat → Nat) (n p : Nat) : Int32 := if p < n then nI (t p) else -1
def rch (t : Nat → Nat) (n p : Nat) : Int32 := if p < n then (nI (t p)).toInt8.toInt32 else -1
theorem b8_lo : ∀ b, b < 128 → (nI b).toInt8.toInt32 = nI b := by decide +kernel
theorem b8_hi : ∀ b, b < 256 → 128 ≤ b → (nI b).toInt8.toInt32 < 0 := by decide +kernel
theorem kch_n {t : Nat → Nat} : ∀ p, n ≤ p → kch t n p = 200 := fun p hp => by
  unfold kch
  rw [if_neg (by omega)]
/-- a byte below 128, or another, or none -/
theorem ch_c {t : Nat → Nat} (ht : ∀ p, p < n → t p < 256) (p : Nat) : (∃ v, v < 128 ∧ kch t n p = v ∧ cch t n p = nI v ∧ rch t n p = nI v) ∨ (kch t n p = 200 ∧ (cch t n p = -1 ∨ ∃ b, 128 ≤ b ∧ b < 256 ∧ cch t n p = nI b) ∧ rch t n p < 0) := by
  unfold kch cch rch
  by_cases h1 : p < n
  · have h2 := ht p h1
    by_cases h3 : t p < 128
    · refine Or.inl ⟨t p, h3, if_pos ⟨h1, h3⟩, if_pos h1, ?_⟩
      rw [if_pos h1, b8_lo _ h3]
    · refine Or.inr ⟨if_neg (fun q => h3 q.2), Or.inr ⟨t p, by omega, h2, if_pos h1⟩, ?_⟩
      rw [if_pos h1]
      exact b8_hi _ h2 (by omega)
  · refine Or.inr ⟨if_neg (fun q => h1 q.1), Or.inl (if_neg h1), ?_⟩
    rw [if_neg h1]
    decide
theorem m1_ne {v : Nat} (hv : v < 2 ^ 31) : ¬ (-1 : Int32) = nI v := fun q => by
  have := congrArg Int32.toInt q
  rw [nI_toInt hv, show (-1 : Int32).toInt = -1 by decide] at this
  omega
theorem cchE {t : Nat → Nat} (ht : ∀ p, p < n → t p < 256) {p v : Nat} (hv : v < 128) : cch t n p = nI v ↔ kch t n p = v := by
  rcases ch_c ht p with ⟨u, hu, h1, h2, -⟩ | ⟨h1, h2, -⟩
  · rw [h1, h2, nI_eq (by omega) (by omega)]
  · rw [h1]
    refine ⟨fun q => ?_, fun q => by omega⟩
    rcases h2 with h2 | ⟨b, hb, hb2, h2⟩
    · rw [h2] at q
      exact absurd q (m1_ne (by omega))
    · rw [h2, nI_eq (by omega) (by omega)] at q
      omega
theorem rchE {t : Nat → Nat} (ht : ∀ p, p < n → t p < 256) {p v : Nat} (hv : v < 128) : rch t n p = nI v ↔ kch t n p = v := by
  rcases ch_c ht p with ⟨u, hu, h1, -, h2⟩ | ⟨h1, -, h2⟩
  · rw [h1, h2, nI_eq (by omega) (by omega)]
  · rw [h1]
    refine ⟨fun q => ?_, fun q => by omega⟩
    rw [q] at h2
    exact absurd h2 (nI_pos (by omega))
theorem cchD {t : Nat → Nat} (ht : ∀ p, p < n → t p < 256) {p : Nat} : (¬ cch t n p < 48 ∧ ¬ 57 < cch t n p) ↔ (48 ≤ kch t n p ∧ kch t n p ≤ 57) := by
  rcases ch_c ht p with ⟨u, hu, h1, h2, -⟩ | ⟨h1, h2, -⟩
  · rw [h1, h2, show (48 : Int32) = nI 48 from rfl, show (57 : Int32) = nI 57 from rfl, nI_ltI (by omega) (by decide), nI_ltI (by decide) (by omega)]
    omega
  · rw [h1]
    refine ⟨fun q => ?_, fun q => by omega⟩
    rcases h2 with h2 | ⟨b, hb, hb2, h2⟩
    · rw [h2] at q
      exact absurd (by decide) q.1
    · rw [h2] at q
      exact absurd (show (57 : Int32) < nI b from nI_lt (a := 57) (by omega) (by omega)) q.2
theorem rchD {t : Nat → Nat} (ht : ∀ p, p < n → t p < 256) {p : Nat} : (48 ≤ rch t n p ∧ rch t n p ≤ 57) ↔ (48 ≤ kch t n p ∧ kch t n p ≤ 57) := by
  rcases ch_c ht p with ⟨u, hu, h1, -, h2⟩ | ⟨h1, -, h2⟩
  · rw [h1, h2, show (48 : Int32) = nI 48 from rfl, show (57 : Int32) = nI 57 from rfl, nI_leI (by decide) (by omega), nI_leI (by omega) (by decide)]
  · rw [h1]
    refine ⟨fun q => ?_, fun q => by omega⟩
    exact absurd (Int32.lt_of_lt_of_le h2 (Int32.le_trans (by decide) q.1)) Int32.lt_irrefl
theorem rchO {t : Nat → Nat} (ht : ∀ p, p < n → t p < 256) {p : Nat} : (60 ≤ rch t n p ∧ rch t n p ≤ 62) ↔ (kch t n p = 60 ∨ kch t n p = 61 ∨ kch t n p = 62) := by
  rcases ch_c ht p with ⟨u, hu, h1, -, h2⟩ | ⟨h1, -, h2⟩
  · rw [h1, h2, show (60 : Int32) = nI 60 from rfl, show (62 : Int32) = nI 62 from rfl, nI_leI (by decide) (by omega), nI_leI (by omega) (by decide)]
    omega
  · rw [h1]
    refine ⟨fun q => ?_, fun q => by omega⟩
    exact absurd (Int32.lt_of_lt_of_le h2 (Int32.le_trans (by decide) q.1)) Int32.lt_irrefl
theorem dgC {t : Nat → Nat} (ht : ∀ p, p < n → t p < 256) {p : Nat} (h : 48 ≤ kch t n p ∧ kch t n p ≤ 57) : cch t n p = nI (kch t n p) ∧ rch t n p = nI (kch t n p) := ⟨(cchE ht (by omega)).mpr rfl, (rchE ht (by omega)).mpr rfl⟩
end PARSE
