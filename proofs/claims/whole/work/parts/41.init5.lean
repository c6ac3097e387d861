theorem cn_0 {p : Nat → Bool} : ∀ n, (∀ i, i < n → p i = false) → cn p 0 n = 0
  | 0, _ => rfl
  | n + 1, h => by
    rw [cn_s, cn_0 n (fun i hi => h i (by omega)), h n (by omega)]
    rfl
theorem zinv : Inv A0 G0 ev0 := by
  have l2 : ∀ l, l < 2 → l = 0 ∨ l = 1 := fun l h => by omega
  have l6 : ∀ l, l < 6 → l = 0 ∨ l = 1 ∨ l = 2 ∨ l = 3 ∨ l = 4 ∨ l = 5 := fun l h => by omega
  refine ⟨⟨0, by decide, rfl, rfl⟩, ⟨0, by decide, rfl, rfl⟩, ⟨0, by decide, rfl, rfl, fun j hj => absurd hj (Nat.not_lt_zero j)⟩, ?_, ⟨0, by decide, rfl, rfl⟩, ?_, fun _ _ => rfl, ?_, fun _ _ => rfl, fun _ _ => rfl, ?_, fun _ _ => ⟨rfl, rfl⟩, ?_, ?_, ⟨rfl, rfl, by decide⟩, fun i hi => absurd hi (Nat.not_lt_zero i), fun i hi => absurd hi (Nat.not_lt_zero i), ?_, ?_, ⟨rfl, rfl, by decide⟩, fun i hi => absurd hi (Nat.not_lt_zero i), fun _ _ => rfl, ?_, ?_, ?_⟩
  · refine ⟨0, fun _ => 0, by decide, rfl, rfl, fun k hk => absurd hk (Nat.not_lt_zero k), fun k hk t ht => ?_, fun n hn s hs => ?_⟩
    · rw [if_neg (Nat.not_lt_zero k)]
      rfl
    · have e1 : A0 20019 0 (64 * n + s) = nI (pop s) := by
        show uFz 320 (64 * n + s) = _
        unfold uFz
        rw [if_pos (by omega), show (64 * n + s) % 64 = s by omega]
      rw [e1]
      cases n with
      | zero => rfl
      | succ n => rfl
  · intro i hi
    exact ⟨rfl, rfl, rfl, rfl, by show (-7 : Int32) ≤ 0; decide, by show (0 : Int32) ≤ 8; decide⟩
  · refine ⟨fun i hi => ?_, ?_⟩
    · show (if i < 200 then (-1 : Int32) else 0) = mFz 200 i
      rfl
    · rw [cn_0 200 (fun i hi => ?_)]
      · rfl
      · show decide (0 ≤ (if i < 200 then (-1 : Int32) else 0)) = false
        rw [if_pos hi]
        decide
  · exact ⟨0, by decide, rfl, fun l hl => ⟨0, by decide, rfl, rfl, rfl⟩⟩
  · intro l hl
    rcases l2 l hl with rfl | rfl
    · exact ⟨rfl, rfl, ⟨by decide, by decide⟩, ⟨by decide, by decide⟩⟩
    · exact ⟨rfl, rfl, ⟨by decide, by decide⟩, ⟨by decide, by decide⟩⟩
  · intro l hl
    rcases l2 l hl with rfl | rfl
    · exact ⟨rfl, ⟨by decide, by decide⟩, fun q => absurd q (by decide)⟩
    · exact ⟨rfl, ⟨by decide, by decide⟩, fun q => absurd q (by decide)⟩
  · refine ⟨fun i hi => absurd hi (Nat.not_lt_zero i), fun l hl => ?_, fun t ht => ?_⟩
    · rcases l2 l hl with rfl | rfl <;> rfl
    · rcases l6 t ht with rfl | rfl | rfl | rfl | rfl | rfl <;> rfl
  · intro l hl dy hd k
    refine ⟨fun q => ?_, fun ⟨i, hi, _⟩ => absurd hi (Nat.not_lt_zero i)⟩
    rcases l2 l hl with rfl | rfl <;> exact absurd q (by intro z; cases z)
  · intro i hi
    rcases l6 i hi with rfl | rfl | rfl | rfl | rfl | rfl <;> exact ⟨rfl, rfl, ⟨by decide, by decide⟩, ⟨0, by decide, rfl⟩, fun _ => rfl, fun _ _ => rfl⟩
  · intro i hi
    have : ∀ i, i < 16 → A0 20028 0 i = c_east i := by decide
    exact this i hi
  · exact ⟨by decide, by decide, rfl, 0, by decide, rfl⟩
