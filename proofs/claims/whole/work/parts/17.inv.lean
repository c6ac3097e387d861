/-! THE CONSTANTS, and the script -/
def c_east (i : Nat) : Int32 := [0, 383, 707, 924, 1000, 924, 707, 383, 0, -383, -707, -924, -1000, -924, -707, -383].getD i 0
def c_above (i : Nat) : Int32 := [-1, 0, 0, 0, 0, 0, 2].getD i 0
def c_bodies (i : Nat) : Int32 := [10, 11, 12, 0, 20, 0, 30, 0, 31, 40, 0, 0, 0, 0, 50, 0, 60, 0, 70, 0, 71].getD i 0
def c_letters (i : Nat) : Int32 := [104, 99, 112, 119, 109, 102, 107, 115, 113].getD i 0
def roL (L : Nat) (xs : Nat → Int32) : RO := fun k => if k = 30000 then some (0, 16, c_east) else if k = 30001 then some (0, 7, c_above) else if k = 30002 then some (0, 21, c_bodies) else if k = 30003 then some (2, 9, c_letters) else if k = 30010 then some (0, L, xs) else none
section RO
variable {L : Nat} {xs : Nat → Int32} {h : PH} {i : Int32} {K : Int32 → PR}
theorem ro0 : aI (roL L xs) h 30000 0 i K = ib i 16 (K (c_east i.toNatClampNeg)) := by simp [aI, arr, roL, ib]
theorem ro1 : aI (roL L xs) h 30001 0 i K = ib i 7 (K (c_above i.toNatClampNeg)) := by simp [aI, arr, roL, ib]
theorem ro2 : aI (roL L xs) h 30002 0 i K = ib i 21 (K (c_bodies i.toNatClampNeg)) := by simp [aI, arr, roL, ib]
theorem ro3 : aI (roL L xs) h 30003 2 i K = ib i 9 (K (c_letters i.toNatClampNeg)) := by simp [aI, arr, roL, ib]
theorem rol3 : aL (roL L xs) h 30003 K = K 9 := by simp [aL, arr, roL]
theorem roX : aI (roL L xs) h 30010 0 i K = ib i L (K (xs i.toNatClampNeg)) := by simp [aI, arr, roL, ib]
theorem rolX : aL (roL L xs) h 30010 K = K (Int32.ofNat L) := by simp [aL, arr, roL]
end RO
/-! THE STATE that both systems hold alike -/
def P1 (a b : Int32) (n : Nat) : Prop := ∃ k, k ≤ n ∧ a = nI k ∧ b = nI k
/-- how many of the places i, i+1 .. i+k-1 meet p -/
def cn (p : Nat → Bool) (i : Nat) : Nat → Nat
  | 0 => 0
  | k + 1 => cn p i k + (if p (i + k) then 1 else 0)
/-- the first of the places i, i+1 .. i+k-1 that meets p -/
def fi (p : Nat → Bool) : Nat → Nat → Option Nat
  | _, 0 => none
  | i, k + 1 => if p i then some i else fi p (i + 1) k
def sumB (f : Nat → Int32) (s : Nat) : Nat → Int32
  | 0 => 0
  | n + 1 => sumB f s n + (if s.testBit n then f n else 0)
def I_ice (f0 f1 f2 f3 g0 g1 g2 g3 : Nat → Int32) : Prop := ∀ i, i < 64 → f0 i = g0 i ∧ f1 i = g1 i ∧ f2 i = g2 i ∧ f3 i = g3 i ∧ (-7 ≤ f3 i ∧ f3 i ≤ 8)
def I_eqA (f g : Nat → Int32) (n : Nat) : Prop := ∀ i, i < n → f i = g i
def I_mis (f g : Nat → Int32) (c : Int32) : Prop := (∀ i, i < 200 → f i = g i) ∧ c = nI (cn (fun i => decide (0 ≤ f i)) 0 200)
def I_pty (S : Nat → Nat → Int32) (st sk pt : Nat → Int32) (mn : Int32) : Prop := ∃ m, m ≤ 12 ∧ mn = nI m ∧ ∀ l, l < 2 → ∃ s, s < 2 ^ m ∧ pt l = nI s ∧ S l 0 = sumB st s m ∧ S l 1 = sumB sk s m
def I_dog (S : Nat → Nat → Int32) (f g : Nat → Int32) : Prop := ∀ l, l < 2 → S l 2 = f l ∧ S l 3 = g l
def plc (x y : Int32) : Prop := (-400 ≤ x ∧ x ≤ 399) ∧ (-400 ≤ y ∧ y ≤ 399)
def I_sta (S : Nat → Nat → Int32) (f g : Nat → Int32) : Prop := ∀ l, l < 2 → S l 4 = f l ∧ S l 5 = g l ∧ plc (S l 4) (S l 5)
def I_clm (S : Nat → Nat → Int32) (f g c : Nat → Int32) : Prop := ∀ l, l < 2 → S l 8 = c l ∧ (-1 ≤ S l 8 ∧ S l 8 ≤ 199) ∧ (0 ≤ S l 8 → S l 6 = f l ∧ S l 7 = g l ∧ plc (S l 6) (S l 7))
def RowOK (r : Nat → Int32) : Prop := (∃ k, 1 ≤ k ∧ k ≤ 6 ∧ r 3 = nI k) ∧ (∃ l, l < 2 ∧ r 1 = nI l) ∧ (∃ d, d < 200 ∧ r 2 = nI d) ∧ (∃ y, y < 100 ∧ r 4 = nI y) ∧ (r 3 = 1 → ∃ b, b < 16 ∧ r 7 = nI b) ∧ (r 3 = 4 → 0 < r 6)
def I_row (R : Nat → Nat → Int32) (k l d y a b c f : Nat → Int32) (n : Nat) : Prop := ∀ i, i < n → RowOK (R i) ∧ R i 0 = nI i ∧ k i = R i 3 ∧ l i = R i 1 ∧ d i = R i 2 ∧ y i = R i 4 ∧ a i = R i 5 ∧ b i = R i 6 ∧ c i = R i 7 ∧ f i = R i 8
def I_ord (R : Nat → Nat → Int32) (n : Nat) (nw : Int32) : Prop := ∀ j, j < n → R j 4 ≤ nw ∧ ∀ i, i < j → R i 4 ≤ R j 4
def I_ref (r : Nat → Nat → Option Nat) (n : Nat) : Prop := (∀ i, i < n → r 20011 i = some (7000 + i)) ∧ (∀ l, l < 2 → r 20006 l = some (4000 + l)) ∧ (∀ t, t < 6 → r 20021 t = some (8000 + t))
def I_mch (r : Nat → Nat → Option Nat) (R : Nat → Nat → Int32) (n : Nat) : Prop := ∀ l, l < 2 → ∀ d, d < 200 → ∀ k, r (20007 + l) d = some k ↔ ∃ i, i < n ∧ k = 7000 + i ∧ R i 3 = 1 ∧ R i 1 = nI l ∧ R i 2 = nI d
def Bt (c m : Int32) : Prop := ∃ b, b < 256 ∧ c = nI b ∧ m = (nI b).toInt8.toInt32
def I_law (L T : Nat → Nat → Int32) (c y t z : Nat → Int32) (tl : Nat → Nat) (r : Nat → Option Nat) (n : Nat) : Prop := ∀ i, i < n → L i 0 = c i ∧ L i 1 = y i ∧ tl i ≤ 80 ∧ z i = nI (tl i) ∧ r i = some (3000 + i) ∧ ∀ j, j < tl i → Bt (T i j) (t (80 * i + j))
def I_txt (f g : Nat → Int32) (a b : Int32) : Prop := ∃ n, n ≤ 80 ∧ a = nI n ∧ b = nI n ∧ ∀ j, j < n → Bt (f j) (g (960 + j))
/-- the TELLINGS that answer a to a LOOK with answers w -/
def prt (w a : Nat) : Nat := (List.range 6).foldl (fun s t => if w / 4 ^ t % 4 = a then s ||| 2 ^ t else s) 0
def pop (s : Nat) : Nat := (List.range 6).foldl (fun n t => if s.testBit t then n + 1 else n) 0
/-- the most that a LOOK (answers w) lets be left, by a table -/
def mst (f : Nat → Nat) (w s : Nat) : Nat := max (max (max (max 0 (f (s &&& prt w 0))) (f (s &&& prt w 1))) (f (s &&& prt w 2))) (f (s &&& prt w 3))
def wst (w : Nat → Nat) (z : Nat) : Nat → Nat → Nat
  | 0, s => pop s
  | n + 1, s => if z = 0 then pop s else (List.range z).foldl (fun b k => min b (mst (wst w z n) (w k) s)) 6
def I_lok (a b : Int32) (p q g : Nat → Int32) : Prop := ∃ z w, z ≤ 8 ∧ a = nI z ∧ b = nI z ∧ (∀ k, k < z → w k < 4096 ∧ g k = nI (w k)) ∧ (∀ k, k < 8 → ∀ t, t < 4 → p (4 * k + t) = if k < z then nI (prt (w k) t) else 0) ∧ ∀ n, n < 5 → ∀ s, s < 64 → q (64 * n + s) = nI (wst w z n s)
def I_tap (S : Nat → Nat → Int32) (T : Nat → Nat → Int32) (s z t : Nat → Int32) : Prop := ∀ i, i < 6 → S i 0 = s i ∧ S i 1 = z i ∧ (-1 ≤ S i 0 ∧ S i 0 ≤ 4) ∧ (∃ n, n ≤ 60 ∧ S i 1 = nI n) ∧ (S i 0 < 0 → S i 1 = 0) ∧ ∀ j, j < 60 → T i j = t (60 * i + j)
def I_cnt (a b : Int32) (n m : Nat) : Prop := a = nI n ∧ b = nI n ∧ n ≤ m
def I_bd (e : Ev) : Prop := (eLg e).length ≤ 200 + eNr e + 2 * eNl e ∧ eUs e ≤ 10000 + 9 * eNr e + 200 * eNl e ∧ eNx e = eNl e ∧ (∃ l, l < 2 ∧ eW e = 4000 + l)
def Inv (A G : Mat) (e : Ev) : Prop :=
  P1 (G 10 0 13) (G 11 0 0) 99 ∧ P1 (G 10 0 14) (G 11 0 1) 12 ∧ I_txt (A 20017 0) (A 20057 0) (G 10 0 17) (G 11 0 36) ∧ I_lok (G 5 0 2) (G 11 0 50) (A 20018 0) (A 20019 0) (A 20062 0) ∧ P1 (G 0 0 1) (G 11 0 53) 1000
  ∧ I_ice (A 20000 0) (A 20001 0) (A 20002 0) (A 20003 0) (A 20029 0) (A 20030 0) (A 20031 0) (A 20032 0) ∧ I_eqA (A 20004 0) (A 20033 0) 200 ∧ I_mis (A 20005 0) (A 20054 0) (G 11 0 34)
  ∧ I_eqA (A 20012 0) (A 20034 0) 12 ∧ I_eqA (A 20013 0) (A 20035 0) 12 ∧ I_pty (G 4) (A 20034 0) (A 20035 0) (A 20036 0) (G 11 0 1) ∧ I_dog (G 4) (A 20037 0) (A 20038 0) ∧ I_sta (G 4) (A 20039 0) (A 20040 0) ∧ I_clm (G 4) (A 20041 0) (A 20042 0) (A 20043 0)
  ∧ I_cnt (G 10 0 15) (G 11 0 18) (eNr e) 120 ∧ I_row (G 7) (A 20044 0) (A 20045 0) (A 20046 0) (A 20047 0) (A 20048 0) (A 20049 0) (A 20050 0) (A 20051 0) (eNr e) ∧ I_ord (G 7) (eNr e) (G 11 0 0) ∧ I_ref (eR e) (eNr e) ∧ I_mch (eR e) (G 7) (eNr e)
  ∧ I_cnt (G 10 0 16) (G 11 0 35) (eNl e) 12 ∧ I_law (G 3) (A 20069) (A 20055 0) (A 20056 0) (A 20057 0) (A 20058 0) (eTl e) (eR e 20014) (eNl e)
  ∧ I_eqA (A 20020 0) (A 20064 0) 20 ∧ I_tap (G 8) (A 20022) (A 20065 0) (A 20066 0) (A 20067 0) ∧ I_eqA (A 20028 0) c_east 16 ∧ I_bd e
/-! RUNS in steps -/
def Wp (r : PR) (Q : Int32 → PH → Prop) : Prop := ∃ x h, r = some (some (.int x), h) ∧ Q x h
theorem Wp_s {x : Int32} {h : PH} {Q : Int32 → PH → Prop} : Wp (some (some (.int x), h)) Q ↔ Q x h := by
  constructor
  · rintro ⟨y, k, hy, hq⟩
    cases hy
    exact hq
  · exact fun hq => ⟨x, h, rfl, hq⟩
def IH (h : PH) : Prop := ∃ A G e, h = HH A G e ∧ Inv A G e
theorem IH_i {A G : Mat} {e : Ev} (I : Inv A G e) : IH (HH A G e) := ⟨A, G, e, rfl, I⟩
/-- the class's call and the reference's answer alike, and both stay alike -/
def Op (L : Nat) (xs : Nat → Int32) (N d M M' : Nat) (as : List Value) (A G : Mat) (e : Ev) : Prop :=
  Wp (CALL (roL L xs) mP mL (N + 5050) d M (.ref 10000 :: as) (HH A G e)) fun x h1 => Wp (CALL (roL L xs) mP mL (N + 5050) d M' (.ref 11000 :: as) h1) fun y h2 => x = y ∧ IH h2
theorem g_n {x M : Int32} (n : Nat) (hM : M.toInt + 1 = (n : Int)) (g : 0 ≤ x ∧ x ≤ M) : ∃ k, k < n ∧ x = nI k := by
  obtain ⟨h1, h2⟩ := g
  rw [Int32.le_iff_toInt_le] at h1 h2
  have h0 : (0 : Int32).toInt = 0 := by decide
  obtain ⟨j, hj, rfl⟩ := nI_of (x := x) (by rw [Int32.lt_iff_toInt_lt]; omega)
  rw [nI_toInt hj] at h2
  exact ⟨j, by omega, rfl⟩
theorem upr_s {M : Mat} {c i : Nat} {f g : Nat → Int32} : upr (upr M c i f) c i g = upr M c i g := by
  funext q r
  by_cases h1 : q = c
  · by_cases h2 : r = i
    · simp [upr, va_up, h1, h2]
    · simp [upr, va_up, h1, h2]
  · simp [upr, va_up, h1]
theorem upr_x {M : Mat} {c i c2 i2 : Nat} {f g : Nat → Int32} (h : c ≠ c2) : upr (upr M c i f) c2 i2 g = upr (upr M c2 i2 g) c i f := by
  funext q r
  by_cases h1 : q = c
  · subst h1
    simp [upr, va_up, h, Ne.symm h]
  · by_cases h2 : q = c2
    · subst h2
      simp [upr, va_up, h, Ne.symm h]
    · simp [upr, va_up, h1, h2]
theorem up3_e {M : Mat} {c i j : Nat} {v : Int32} : up3 M c i j v = upr M c i (upd (M c i) j v) := rfl
theorem upr_a {M : Mat} {c i : Nat} {f : Nat → Int32} : upr M c i f c i = f := by simp [upr, va_up]
theorem upr_n {M : Mat} {c i r : Nat} {f : Nat → Int32} (h : r ≠ i) : upr M c i f c r = M c r := by simp [upr, va_up, h]
theorem up3_q {M : Mat} {c i j r : Nat} {v : Int32} (h : r ≠ i) : up3 M c i j v c r = M c r := by simp [up3, upr, va_up, h]
theorem up3_r {M : Mat} {c i j : Nat} {v : Int32} : up3 M c i j v c i = upd (M c i) j v := by simp [up3, upr, va_up]
/-! references that are written, objects that are made -/
def e_W (e : Ev) (k : Nat) : Ev := (e.1, k, e.2.2)
def e_T (e : Ev) (k : Nat) : Ev := (e.1, e.2.1, k, e.2.2.2)
def e_R (e : Ev) (k j q : Nat) : Ev := (va_up e.1 k (va_up (e.1 k) j (some q)), e.2)
/-- one more row -/
def e_N (e : Ev) : Ev := (e.1, e.2.1, e.2.2.1, eNr e + 1, e.2.2.2.2.1, e.2.2.2.2.2.1, e.2.2.2.2.2.2.1, eLg e ++ [7000 + eNr e], eUs e + 9)
section REFS
variable {A G : Mat} {e : Ev} {L : Nat} {xs : Nat → Int32} {N d : Nat}
theorem objL_upr {k ci c q : Nat} {f : Nat → Int32} (h : ¬ (c = ci ∧ q - 1000 * c = k)) : objL (upr G ci k f) e c q = objL G e c q := by
  unfold objL
  apply List.map_congr_left
  intro x _
  by_cases hc : c = ci
  · subst hc
    have h2 : ¬ q - 1000 * c = k := fun z => h ⟨rfl, z⟩
    simp [upr, va_up, h2]
  · simp [upr, va_up, hc]
theorem pfW {q : Nat} {K : PH → PR} : pF (HH A G e) 9000 9 1 (.ref q) K = K (HH A G (e_W e q)) := by
  have h1 : (HH A G e).1 9000 = some (.inr (.inr (9, objL G e 9 9000))) := rfl
  have h3 : ph_put (HH A G e) 9000 (.inr (.inr (9, (objL G e 9 9000).set 1 (.ref q)))) = HH A G (e_W e q) := by
    refine Prod.ext (funext fun r => ?_) rfl
    show va_up (cells A G e) 9000 _ r = cells A G (e_W e q) r
    by_cases hr : r = 9000
    · subst hr
      rfl
    · simp only [va_up, if_neg hr]
      unfold cells
      split
      · rename_i h5
        have h6 : clsK (e_W e q) r = clsK e r := rfl
        rw [h6]
        split
        · rename_i c hc
          have h7 : objL G (e_W e q) c r = objL G e c r := by
            unfold objL
            apply List.map_congr_left
            intro x _
            have : rfK (e_W e q) c x r = rfK e c x r := by
              have : c ≠ 9 := by
                rintro rfl
                exact hr (clsK_o9 hc)
              unfold rfK
              split
              all_goals first | rfl | exact absurd rfl this
            rw [this]
          rw [h7]
        · rfl
      · rfl
  unfold pF
  rw [h1]
  have h4 : (objL G e 9 9000).length = 5 := rfl
  simp only [h4, h3]
  simp
theorem pfT {q : Nat} {K : PH → PR} : pF (HH A G e) 6000 6 1 (.ref q) K = K (HH A G (e_T e q)) := by
  have h1 : (HH A G e).1 6000 = some (.inr (.inr (6, objL G e 6 6000))) := rfl
  have h3 : ph_put (HH A G e) 6000 (.inr (.inr (6, (objL G e 6 6000).set 1 (.ref q)))) = HH A G (e_T e q) := by
    refine Prod.ext (funext fun r => ?_) rfl
    show va_up (cells A G e) 6000 _ r = cells A G (e_T e q) r
    by_cases hr : r = 6000
    · subst hr
      rfl
    · simp only [va_up, if_neg hr]
      unfold cells
      split
      · rename_i h5
        have h6 : clsK (e_T e q) r = clsK e r := rfl
        rw [h6]
        split
        · rename_i c hc
          have h7 : objL G (e_T e q) c r = objL G e c r := by
            unfold objL
            apply List.map_congr_left
            intro x _
            have : rfK (e_T e q) c x r = rfK e c x r := by
              have : c ≠ 6 := by
                rintro rfl
                exact hr (clsK_o6 hc)
              unfold rfK
              split
              all_goals first | rfl | exact absurd rfl this
            rw [this]
          rw [h7]
        · rfl
      · rfl
  unfold pF
  rw [h1]
  have h4 : (objL G e 6 6000).length = 5 := rfl
  simp only [h4, h3]
  simp
theorem sR_H {k q c : Nat} {i : Int32} {K : PH → PR} (h1 : 20000 ≤ k) (h2 : k < 20069) (h3 : rfA k = some (10 + c)) (hq : clsK e q = some c) : sR (HH A G e) k i q K = ib i (lnA k) (K (HH A G (e_R e k i.toNatClampNeg q))) := by
  have h4 : (HH A G e).1 k = some (.inr (.inl (10 + c, lnA k, eR e k))) := cell_ref h1 h2 h3
  have h5 : (HH A G e).1 q = some (.inr (.inr (c, objL G e c q))) := cell_obj hq
  have h6 : ∀ j, ph_put (HH A G e) k (.inr (.inl (10 + c, lnA k, va_up (eR e k) j (some q)))) = HH A G (e_R e k j q) := by
    intro j
    refine Prod.ext (funext fun r => ?_) rfl
    show va_up (cells A G e) k _ r = cells A G (e_R e k j q) r
    by_cases hr : r = k
    · subst hr
      rw [cell_ref h1 h2 h3]
      simp [va_up, e_R, eR]
    · simp only [va_up, if_neg hr]
      unfold cells
      have h8 : eR (e_R e k j q) r = eR e r := by simp [e_R, eR, va_up, hr]
      rw [h8]
      rfl
  unfold sR ib
  rw [h4, h5]
  simp only [true_and, h6]
theorem clsK_N {q : Nat} (h : q ≠ 7000 + eNr e) : clsK (e_N e) q = clsK e q := by
  have h1 : eNr (e_N e) = eNr e + 1 := rfl
  have h2 : eNl (e_N e) = eNl e := rfl
  have h3 : (7000 ≤ q ∧ q < 7000 + (eNr e + 1) ∧ q < 8000) ↔ (7000 ≤ q ∧ q < 7000 + eNr e ∧ q < 8000) := by omega
  unfold clsK
  rw [h1, h2]
  simp only [h3]
theorem nO7 {K : Nat → PH → PR} (hn : eNr e < 1000) : nO (HH A G e) 7 (clN 7) (dfl 7) K = K (7000 + eNr e) (HH A (upr G 7 (eNr e) (fun _ => 0)) (e_N e)) := by
  have hk : 1000 * 7 + (HH A G e).2.1 7 = 7000 + eNr e := rfl
  have hc : clsK e (7000 + eNr e) = none := by
    unfold clsK
    rw [if_neg (by omega), if_neg (by omega), if_neg (by omega), if_neg (by omega), if_neg (by omega), if_neg (by omega), if_neg (by omega), if_neg (by omega), if_neg (by omega), if_neg (by omega), if_neg (by omega), if_neg (by omega)]
  have hz : (HH A G e).1 (7000 + eNr e) = none := by
    show cells A G e _ = none
    unfold cells
    rw [if_pos (by omega), hc]
  have h6 : ph_add (HH A G e) (7000 + eNr e) 7 (clN 7) (.inr (.inr (7, dfl 7))) = HH A (upr G 7 (eNr e) (fun _ => 0)) (e_N e) := by
    refine Prod.ext (funext fun r => ?_) (Prod.ext (funext fun c => ?_) rfl)
    · show va_up (cells A G e) (7000 + eNr e) _ r = cells A (upr G 7 (eNr e) (fun _ => 0)) (e_N e) r
      by_cases hr : r = 7000 + eNr e
      · subst hr
        have h7 : clsK (e_N e) (7000 + eNr e) = some 7 := clsK7 (e := e_N e) (i := eNr e) (Nat.lt_succ_self _) hn
        rw [cell_obj h7]
        simp only [va_up, if_true]
        refine congrArg (fun z : List Value => (some (Sum.inr (Sum.inr (7, z))) : Option PE)) ?_
        unfold objL dfl
        refine Eq.symm ?_
        apply List.map_congr_left
        intro x hx
        have hx : x < 9 := List.mem_range.mp hx
        rw [show 7000 + eNr e - 1000 * 7 = eNr e by omega, upr_a]
        match x, hx with
        | 0, _ => rfl
        | 1, _ => rfl
        | 2, _ => rfl
        | 3, _ => rfl
        | 4, _ => rfl
        | 5, _ => rfl
        | 6, _ => rfl
        | 7, _ => rfl
        | 8, _ => rfl
      · simp only [va_up, if_neg hr]
        unfold cells
        rw [clsK_N hr]
        split
        · split
          · rename_i c hcc
            have h7 : objL (upr G 7 (eNr e) (fun _ => 0)) (e_N e) c r = objL G e c r := by
              rw [objL_upr]
              · rfl
              · rintro ⟨rfl, z⟩
                have := clsK_lt hcc
                omega
            rw [h7]
          · rfl
        · rfl
    · show va_up (cntF e) 7 (cntF e 7 + 1) c = cntF (e_N e) c
      unfold va_up
      split
      · rename_i hc7
        subst hc7
        rfl
      · rename_i hc7
        unfold cntF
        split
        all_goals first | rfl | exact absurd rfl hc7
  unfold nO
  rw [hk, hz, h6]
  simp only [Option.isNone_none, true_and]
  rw [if_pos (by omega)]
/-! the reference's small calls, over the heap -/
theorem h128 {v : Int32} : CALL (roL L xs) mP mL (N + 5050) (d + 2) 128 [.ref 11000, .int v] (HH A G e) = some (some (.int (bI (0 ≤ v ∧ v ≤ 1))), HH A G e) := s128 (fun _ => vo11000)
theorem h129 {v : Int32} : CALL (roL L xs) mP mL (N + 5050) (d + 2) 129 [.ref 11000, .int v] (HH A G e) = some (some (.int (bI (0 ≤ v ∧ v ≤ 199))), HH A G e) := s129 (fun _ => vo11000)
theorem h130 {v : Int32} : CALL (roL L xs) mP mL (N + 5050) (d + 2) 130 [.ref 11000, .int v] (HH A G e) = some (some (.int (bI (0 ≤ v ∧ v ≤ 99))), HH A G e) := s130 (fun _ => vo11000)
theorem h131 {x y : Int32} : CALL (roL L xs) mP mL (N + 5050) (d + 2) 131 [.ref 11000, .int x, .int y] (HH A G e) = some (some (.int (bI ((-400 ≤ x ∧ x ≤ 399) ∧ (-400 ≤ y ∧ y ≤ 399)))), HH A G e) := s131 (fun _ => vo11000)
theorem h157 {x y : Int32} : CALL (roL L xs) mP mL (N + 5050) (d + 2) 157 [.ref 11000, .int x, .int y] (HH A G e) = some (some (.int (q_la x y)), HH A G e) := s157 (fun _ => vo11000)
theorem h194 {v : Int32} : CALL (roL L xs) mP mL (N + 5050) (d + 2) 194 [.ref 11000, .int v] (HH A G e) = some (some (.int (bI (1 ≤ v ∧ v ≤ 63))), HH A G e) := s194 (fun _ => vo11000)
theorem h211 {v : Int32} : CALL (roL L xs) mP mL (N + 5050) (d + 2) 211 [.ref 11000, .int v] (HH A G e) = some (some (.int (bI (0 ≤ v ∧ v ≤ 5))), HH A G e) := s211 (fun _ => vo11000)
end REFS
