/-! LEAVES: the small methods of both systems -/
def bI (p : Prop) [Decidable p] : Int32 := if p then 1 else 0
theorem bI_z {p : Prop} [Decidable p] : (bI p = 0) ↔ ¬ p := by by_cases h : p <;> simp [bI, h]
theorem bI_01 {p : Prop} [Decidable p] : (bI p = 0 ∨ bI p = 1) ↔ True := by by_cases h : p <;> simp [bI, h]
def q_ab (x : Int32) : Int32 := if x < 0 then -x else x
def q_kp (x : Int32) : Int32 := if x < -400 then -400 else if 399 < x then 399 else x
def q_ce (x y : Int32) : Int32 := 8 * ((y + 400) / 100) + (x + 400) / 100
def q_la (x y : Int32) : Int32 := 5400 - (if q_ab y < q_ab x then q_ab x + q_ab y / 2 else q_ab y + q_ab x / 2)
section LEAF
variable {ro : RO} {d N : Nat} {h : PH}
theorem s93 {v lo hi : Int32} : CALL ro mP mL (N + 5050) (d + 1) 93 [.int v, .int lo, .int hi] h = some (some (.int (bI (lo ≤ v ∧ v ≤ hi))), h) := by
  rw [m93]
  by_cases h1 : v < lo
  · rw [if_pos h1, bI, if_neg (fun q => absurd q.1 (Int32.not_le.mpr h1))]
  · rw [if_neg h1]
    by_cases h2 : hi < v
    · rw [if_pos h2, bI, if_neg (fun q => absurd q.2 (Int32.not_le.mpr h2))]
    · rw [if_neg h2, bI, if_pos ⟨Int32.not_lt.mp h1, Int32.not_lt.mp h2⟩]
theorem s125 {k : Nat} {v lo hi : Int32} : CALL ro mP mL (N + 5050) (d + 1) 125 [.ref k, .int v, .int lo, .int hi] h = some (some (.int (bI (lo ≤ v ∧ v ≤ hi))), h) := by
  rw [m125]
  by_cases h1 : v < lo
  · rw [if_pos h1, bI, if_neg (fun q => absurd q.1 (Int32.not_le.mpr h1))]
  · rw [if_neg h1]
    by_cases h2 : hi < v
    · rw [if_pos h2, bI, if_neg (fun q => absurd q.2 (Int32.not_le.mpr h2))]
    · rw [if_neg h2, bI, if_pos ⟨Int32.not_lt.mp h1, Int32.not_lt.mp h2⟩]
theorem s94 {v : Int32} : CALL ro mP mL (N + 5050) (d + 2) 94 [.int v] h = some (some (.int (bI (0 ≤ v ∧ v ≤ 1))), h) := by
  rw [m94, s93, cI_s, if_pos (bI_01.mpr trivial)]
theorem s95 {v : Int32} : CALL ro mP mL (N + 5050) (d + 2) 95 [.int v] h = some (some (.int (bI (0 ≤ v ∧ v ≤ 199))), h) := by
  rw [m95, s93, cI_s, if_pos (bI_01.mpr trivial)]
theorem s96 {v : Int32} : CALL ro mP mL (N + 5050) (d + 2) 96 [.int v] h = some (some (.int (bI (0 ≤ v ∧ v ≤ 99))), h) := by
  rw [m96, s93, cI_s, if_pos (bI_01.mpr trivial)]
theorem s98 {v : Int32} : CALL ro mP mL (N + 5050) (d + 2) 98 [.int v] h = some (some (.int (bI (0 ≤ v ∧ v ≤ 5400))), h) := by
  rw [m98, s93, cI_s, if_pos (bI_01.mpr trivial)]
theorem s99 {v : Int32} : CALL ro mP mL (N + 5050) (d + 2) 99 [.int v] h = some (some (.int (bI (0 ≤ v ∧ v ≤ 99))), h) := by
  rw [m99, s93, cI_s, if_pos (bI_01.mpr trivial)]
theorem s100 {v : Int32} : CALL ro mP mL (N + 5050) (d + 2) 100 [.int v] h = some (some (.int (bI (1 ≤ v ∧ v ≤ 63))), h) := by
  rw [m100, s93, cI_s, if_pos (bI_01.mpr trivial)]
theorem s101 {v : Int32} : CALL ro mP mL (N + 5050) (d + 2) 101 [.int v] h = some (some (.int (bI (0 ≤ v ∧ v ≤ 5))), h) := by
  rw [m101, s93, cI_s, if_pos (bI_01.mpr trivial)]
theorem s97 {x y : Int32} : CALL ro mP mL (N + 5050) (d + 2) 97 [.int x, .int y] h = some (some (.int (bI ((-400 ≤ x ∧ x ≤ 399) ∧ (-400 ≤ y ∧ y ≤ 399)))), h) := by
  rw [m97]
  simp only [s93, cI_s, bI_z]
  by_cases h1 : (-400 ≤ x ∧ x ≤ 399)
  · by_cases h2 : (-400 ≤ y ∧ y ≤ 399)
    · simp [h1, h2, bI]
    · simp [h1, h2, bI]
  · simp [h1, bI]
theorem s219 {x : Int32} : CALL ro mP mL (N + 5050) (d + 1) 219 [.int x] h = some (some (.int (q_ab x)), h) := by
  rw [m219]
  unfold q_ab
  split <;> rfl
theorem s126 {k : Nat} {x : Int32} : CALL ro mP mL (N + 5050) (d + 1) 126 [.ref k, .int x] h = some (some (.int (q_ab x)), h) := by
  rw [m126]
  unfold q_ab
  split <;> rfl
theorem s220 {x y : Int32} : CALL ro mP mL (N + 5050) (d + 1) 220 [.int x, .int y] h = some (some (.int (if x < y then y else x)), h) := by
  rw [m220]
  split <;> rfl
theorem s221 {x y : Int32} : CALL ro mP mL (N + 5050) (d + 1) 221 [.int x, .int y] h = some (some (.int (if y < x then y else x)), h) := by
  rw [m221]
  split <;> rfl
theorem s127 {k : Nat} {x : Int32} : CALL ro mP mL (N + 5050) (d + 1) 127 [.ref k, .int x] h = some (some (.int (q_kp x)), h) := by
  rw [m127]
  unfold q_kp
  split
  · rfl
  · split <;> rfl
theorem s104 {x : Int32} : CALL ro mP mL (N + 5050) (d + 2) 104 [.int x] h = some (some (.int (q_kp x)), h) := by
  rw [m104]
  simp only [s220, s221, cI_s]
  refine congrArg (fun z => some (some (Value.int z), h)) ?_
  unfold q_kp
  by_cases h1 : x < -400
  · have h2 : x < 399 := by
      rw [Int32.lt_iff_toInt_lt] at *
      have : (-400 : Int32).toInt = -400 := by decide
      have : (399 : Int32).toInt = 399 := by decide
      omega
    have h3 : ¬ -400 < x := fun q => Int32.lt_irrefl (Int32.lt_trans h1 q)
    simp [h1, h2, h3]
  · by_cases h2 : 399 < x
    · have h3 : ¬ x < 399 := fun q => Int32.lt_irrefl (Int32.lt_trans h2 q)
      simp only [if_neg h1, if_pos h2, if_neg h3]
      decide
    · rw [if_neg h1, if_neg h2]
      by_cases h3 : x < 399
      · rw [if_pos h3]
        by_cases h4 : -400 < x
        · rw [if_pos h4]
        · rw [if_neg h4]
          exact Int32.le_antisymm (Int32.not_lt.mp h1) (Int32.not_lt.mp h4)
      · have h4 : x = 399 := Int32.le_antisymm (Int32.not_lt.mp h2) (Int32.not_lt.mp h3)
        subst h4
        decide
theorem s105 {x y : Int32} : CALL ro mP mL (N + 5050) (d + 1) 105 [.int x, .int y] h = some (some (.int (q_ce x y)), h) := by
  rw [m105]
  unfold q_ce
  rw [Int32.sub_neg, Int32.sub_neg]
theorem s132 {k : Nat} {x y : Int32} : CALL ro mP mL (N + 5050) (d + 1) 132 [.ref k, .int x, .int y] h = some (some (.int (q_ce x y)), h) := by
  rw [m132]
  rfl
theorem s106 {x y : Int32} : CALL ro mP mL (N + 5050) (d + 2) 106 [.int x, .int y] h = some (some (.int (q_la x y)), h) := by
  rw [m106]
  simp only [s219, s220, s221, cI_s]
  refine congrArg (fun z => some (some (Value.int z), h)) ?_
  unfold q_la
  by_cases h1 : q_ab y < q_ab x
  · have h3 : ¬ q_ab x < q_ab y := fun q => Int32.lt_irrefl (Int32.lt_trans h1 q)
    simp only [if_pos h1, if_neg h3]
    rw [Int32.sub_sub]
  · simp only [if_neg h1]
    by_cases h3 : q_ab x < q_ab y
    · simp only [if_pos h3]
      rw [Int32.sub_sub]
    · have h4 : q_ab x = q_ab y := Int32.le_antisymm (Int32.not_lt.mp h1) (Int32.not_lt.mp h3)
      simp only [if_neg h3, h4]
      rw [Int32.sub_sub, ite_self]
theorem s157 {k : Nat} {x y : Int32} (hO : ∀ K, vO h (some (.ref k)) 11 K = K) : CALL ro mP mL (N + 5050) (d + 2) 157 [.ref k, .int x, .int y] h = some (some (.int (q_la x y)), h) := by
  rw [m157]
  simp only [s126, cI_s, hO]
  unfold q_la
  split <;> rfl
theorem s128 {k : Nat} {v : Int32} (hO : ∀ K, vO h (some (.ref k)) 11 K = K) : CALL ro mP mL (N + 5050) (d + 2) 128 [.ref k, .int v] h = some (some (.int (bI (0 ≤ v ∧ v ≤ 1))), h) := by
  rw [m128]
  simp only [hO, s125, cI_s, bI_01, if_true]
theorem s129 {k : Nat} {v : Int32} (hO : ∀ K, vO h (some (.ref k)) 11 K = K) : CALL ro mP mL (N + 5050) (d + 2) 129 [.ref k, .int v] h = some (some (.int (bI (0 ≤ v ∧ v ≤ 199))), h) := by
  rw [m129]
  simp only [hO, s125, cI_s, bI_01, if_true]
theorem s130 {k : Nat} {v : Int32} (hO : ∀ K, vO h (some (.ref k)) 11 K = K) : CALL ro mP mL (N + 5050) (d + 2) 130 [.ref k, .int v] h = some (some (.int (bI (0 ≤ v ∧ v ≤ 99))), h) := by
  rw [m130]
  simp only [hO, s125, cI_s, bI_01, if_true]
theorem s194 {k : Nat} {v : Int32} (hO : ∀ K, vO h (some (.ref k)) 11 K = K) : CALL ro mP mL (N + 5050) (d + 2) 194 [.ref k, .int v] h = some (some (.int (bI (1 ≤ v ∧ v ≤ 63))), h) := by
  rw [m194]
  simp only [hO, s125, cI_s, bI_01, if_true]
theorem s211 {k : Nat} {v : Int32} (hO : ∀ K, vO h (some (.ref k)) 11 K = K) : CALL ro mP mL (N + 5050) (d + 2) 211 [.ref k, .int v] h = some (some (.int (bI (0 ≤ v ∧ v ≤ 5))), h) := by
  rw [m211]
  simp only [hO, s125, cI_s, bI_01, if_true]
theorem s131 {k : Nat} {x y : Int32} (hO : ∀ K, vO h (some (.ref k)) 11 K = K) : CALL ro mP mL (N + 5050) (d + 2) 131 [.ref k, .int x, .int y] h = some (some (.int (bI ((-400 ≤ x ∧ x ≤ 399) ∧ (-400 ≤ y ∧ y ≤ 399)))), h) := by
  rw [m131]
  simp only [hO, s125, cI_s, bI_z]
  by_cases h1 : (-400 ≤ x ∧ x ≤ 399)
  · by_cases h2 : (-400 ≤ y ∧ y ≤ 399)
    · simp [h1, h2, bI]
    · simp [h1, h2, bI]
  · simp [h1, bI]
end LEAF
