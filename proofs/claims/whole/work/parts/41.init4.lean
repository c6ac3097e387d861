set_option maxRecDepth 100000 in
theorem zqa : ∀ q ∈ zord, hc231.1 q = cells A0 G0 ev0 q := by
  intro q hq
  simp only [zord, List.mem_cons, List.not_mem_nil, or_false] at hq
  rcases hq with rfl | rfl | rfl | rfl | rfl | rfl | rfl | rfl | rfl | rfl | rfl | rfl | rfl | rfl | rfl | rfl | rfl | rfl | rfl | rfl | rfl | rfl | rfl | rfl | rfl | rfl | rfl | rfl | rfl | rfl | rfl | rfl | rfl | rfl | rfl | rfl | rfl | rfl | rfl | rfl | rfl | rfl | rfl | rfl | rfl | rfl | rfl | rfl | rfl | rfl | rfl | rfl | rfl | rfl | rfl | rfl | rfl | rfl | rfl | rfl | rfl | rfl | rfl | rfl | rfl | rfl | rfl | rfl | rfl | rfl | rfl | rfl | rfl | rfl | rfl | rfl | rfl | rfl | rfl | rfl | rfl | rfl | rfl | rfl | rfl
  · exact zq10000
  · exact zq2000
  · exact zq20000
  · exact zq20001
  · exact zq20002
  · exact zq20003
  · exact zq1000
  · exact zq20004
  · exact zq20005
  · exact zq20006
  · exact zq4000
  · exact zq20007
  · exact zq4001
  · exact zq20008
  · exact zq9000
  · exact zq20009
  · exact zq20010
  · exact zq20011
  · exact zq20012
  · exact zq20013
  · exact zq20014
  · exact zq6000
  · exact zq20015
  · exact zq20016
  · exact zq20017
  · exact zq5000
  · exact zq20018
  · exact zq20019
  · exact zq0
  · exact zq20020
  · exact zq20021
  · exact zq8000
  · exact zq20022
  · exact zq8001
  · exact zq20023
  · exact zq8002
  · exact zq20024
  · exact zq8003
  · exact zq20025
  · exact zq8004
  · exact zq20026
  · exact zq8005
  · exact zq20027
  · exact zq11000
  · exact zq20028
  · exact zq20029
  · exact zq20030
  · exact zq20031
  · exact zq20032
  · exact zq20033
  · exact zq20034
  · exact zq20035
  · exact zq20036
  · exact zq20037
  · exact zq20038
  · exact zq20039
  · exact zq20040
  · exact zq20041
  · exact zq20042
  · exact zq20043
  · exact zq20044
  · exact zq20045
  · exact zq20046
  · exact zq20047
  · exact zq20048
  · exact zq20049
  · exact zq20050
  · exact zq20051
  · exact zq20052
  · exact zq20053
  · exact zq20054
  · exact zq20055
  · exact zq20056
  · exact zq20057
  · exact zq20058
  · exact zq20059
  · exact zq20060
  · exact zq20061
  · exact zq20062
  · exact zq20063
  · exact zq20064
  · exact zq20065
  · exact zq20066
  · exact zq20067
  · exact zq20068
set_option maxRecDepth 100000 in
theorem zqn {k : Nat} (h : ∀ q ∈ zord, k ≠ q) : cells A0 G0 ev0 k = none := by
  have e1 : eNr ev0 = 0 := rfl
  have e2 : eNl ev0 = 0 := rfl
  have e3 : eNx ev0 = 0 := rfl
  have hm : ∀ j, j < 69 → 20000 + j ∈ zord := by decide
  have h1 := h 11000 (by decide)
  have h2 := h 10000 (by decide)
  have h3 := h 9000 (by decide)
  have h4 := h 6000 (by decide)
  have h5 := h 5000 (by decide)
  have h6 := h 2000 (by decide)
  have h7 := h 1000 (by decide)
  have h8 := h 0 (by decide)
  have h9 := h 4000 (by decide)
  have h10 := h 4001 (by decide)
  have t0 := h 8000 (by decide)
  have t1 := h 8001 (by decide)
  have t2 := h 8002 (by decide)
  have t3 := h 8003 (by decide)
  have t4 := h 8004 (by decide)
  have t5 := h 8005 (by decide)
  unfold cells
  by_cases q1 : k < 20000
  · have hc : clsK ev0 k = none := by
      unfold clsK
      rw [e1, e2, if_neg h1, if_neg h2, if_neg h3, if_neg h4, if_neg h5, if_neg h6, if_neg h7, if_neg h8, if_neg (by omega), if_neg (by omega), if_neg (by omega), if_neg (by omega)]
    rw [if_pos q1, hc]
  · rw [if_neg q1]
    by_cases q2 : k < 20069
    · exact absurd rfl (h k (by have := hm (k - 20000) (by omega); rwa [show 20000 + (k - 20000) = k by omega] at this))
    · rw [if_neg q2, e3, if_neg (by omega)]
theorem zcn (c : Nat) : hc231.2.1 c = cntF ev0 c := by
  by_cases h : c < 21
  · rcases (show c = 0 ∨ c = 1 ∨ c = 2 ∨ c = 3 ∨ c = 4 ∨ c = 5 ∨ c = 6 ∨ c = 7 ∨ c = 8 ∨ c = 9 ∨ c = 10 ∨ c = 11 ∨ c = 12 ∨ c = 13 ∨ c = 14 ∨ c = 15 ∨ c = 16 ∨ c = 17 ∨ c = 18 ∨ c = 19 ∨ c = 20 by omega) with rfl | rfl | rfl | rfl | rfl | rfl | rfl | rfl | rfl | rfl | rfl | rfl | rfl | rfl | rfl | rfl | rfl | rfl | rfl | rfl | rfl <;> rfl
  · rw [zc231 (by omega)]
    unfold cntF
    split
    all_goals first | rfl | omega
theorem zhh : hc231 = HH A0 G0 ev0 := by
  refine Prod.ext (funext fun k => ?_) (Prod.ext (funext fun c => zcn c) rfl)
  by_cases h : ∀ q ∈ zord, k ≠ q
  · exact (zx231 h).trans (zqn h).symm
  · have : ∃ q, q ∈ zord ∧ k = q := Classical.byContradiction fun z => h (fun q hq e => z ⟨q, hq, e⟩)
    obtain ⟨q, hq, rfl⟩ := this
    exact zqa k hq
