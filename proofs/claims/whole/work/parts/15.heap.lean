/-! THE HEAP of both systems, of a known shape: ints of arrays (A, by the first key of their kind, number, place), ints of objects (G, by class, number, field), the rest (e) -/
abbrev Mat : Type := Nat → Nat → Nat → Int32
/-- reference arrays; way.log; reader.text; rows, laws, texts made; the texts' lengths; keys made; slots made -/
abbrev Ev : Type := (Nat → Nat → Option Nat) × Nat × Nat × Nat × Nat × Nat × (Nat → Nat) × List Nat × Nat
def eR (e : Ev) : Nat → Nat → Option Nat := e.1
def eW (e : Ev) : Nat := e.2.1
def eT (e : Ev) : Nat := e.2.2.1
def eNr (e : Ev) : Nat := e.2.2.2.1
def eNl (e : Ev) : Nat := e.2.2.2.2.1
def eNx (e : Ev) : Nat := e.2.2.2.2.2.1
def eTl (e : Ev) : Nat → Nat := e.2.2.2.2.2.2.1
def eLg (e : Ev) : List Nat := e.2.2.2.2.2.2.2.1
def eUs (e : Ev) : Nat := e.2.2.2.2.2.2.2.2
def clsK (e : Ev) (k : Nat) : Option Nat :=
  if k = 11000 then some 11 else if k = 10000 then some 10 else if k = 9000 then some 9 else if k = 6000 then some 6 else if k = 5000 then some 5 else if k = 2000 then some 2 else if k = 1000 then some 1 else if k = 0 then some 0
  else if 7000 ≤ k ∧ k < 7000 + eNr e ∧ k < 8000 then some 7 else if 4000 ≤ k ∧ k < 4002 then some 4 else if 8000 ≤ k ∧ k < 8006 then some 8 else if 3000 ≤ k ∧ k < 3000 + eNl e ∧ k < 4000 then some 3 else none
def rfK (e : Ev) (ci j k : Nat) : Option Nat := match ci with
  | 0 => (match j with | 0 => some 20020 | _ => none)
  | 1 => (match j with | 0 => some 20004 | _ => some 20005)
  | 2 => (match j with | 0 => some 20000 | 1 => some 20001 | 2 => some 20002 | _ => some 20003)
  | 3 => (match j with | 2 => some (20069 + (k - 3000)) | _ => none)
  | 4 => (match j with | 9 => some (20007 + (k - 4000)) | _ => none)
  | 5 => (match j with | 0 => some 20018 | 1 => some 20019 | _ => none)
  | 6 => (match j with | 0 => some 20015 | 1 => some (eT e) | _ => none)
  | 8 => (match j with | 2 => some (20022 + (k - 8000)) | _ => none)
  | 9 => (match j with | 0 => some 2000 | 1 => some (eW e) | 3 => some 20009 | 4 => some 20010 | _ => none)
  | 10 => (match j with | 0 => some 2000 | 1 => some 1000 | 2 => some 20006 | 3 => some 9000 | 4 => some 20011 | 5 => some 20012 | 6 => some 20013 | 7 => some 20014 | 8 => some 6000 | 9 => some 20017 | 10 => some 5000 | 11 => some 0 | 12 => some 20021 | _ => none)
  | 11 => (match j with | 2 => some 20028 | 3 => some 20029 | 4 => some 20030 | 5 => some 20031 | 6 => some 20032 | 7 => some 20033 | 8 => some 20034 | 9 => some 20035 | 10 => some 20036 | 11 => some 20037 | 12 => some 20038 | 13 => some 20039 | 14 => some 20040 | 15 => some 20041 | 16 => some 20042 | 17 => some 20043 | 19 => some 20044 | 20 => some 20045 | 21 => some 20046 | 22 => some 20047 | 23 => some 20048 | 24 => some 20049 | 25 => some 20050 | 26 => some 20051 | 27 => some 20052 | 28 => some 20053 | 33 => some 20054 | 37 => some 20055 | 38 => some 20056 | 39 => some 20057 | 40 => some 20058 | 41 => some 20059 | 45 => some 20060 | 46 => some 20061 | 51 => some 20062 | 52 => some 20063 | 54 => some 20064 | 55 => some 20065 | 56 => some 20066 | 57 => some 20067 | 58 => some 20068 | _ => none)
  | _ => none
def lnA (k : Nat) : Nat := [64, 64, 64, 64, 200, 200, 2, 200, 200, 201, 201, 120, 12, 12, 12, 9, 0, 80, 32, 320, 20, 6, 60, 60, 60, 60, 60, 60, 16, 64, 64, 64, 64, 200, 12, 12, 2, 2, 2, 2, 2, 2, 2, 2, 120, 120, 120, 120, 120, 120, 120, 120, 201, 201, 200, 12, 12, 1040, 13, 9, 81, 81, 8, 320, 20, 6, 6, 360, 60].getD (k - 20000) 0
def tgA (k : Nat) : Nat := if k = 20061 then 1 else 0
def rfA (k : Nat) : Option Nat := if k = 20006 then some 14 else if k = 20007 then some 17 else if k = 20008 then some 17 else if k = 20011 then some 17 else if k = 20014 then some 13 else if k = 20021 then some 18 else none
def objL (G : Mat) (e : Ev) (ci k : Nat) : List Value := (List.range (clN ci)).map (fun j => match rfK e ci j k with | none => .int (G ci (k - 1000 * ci) j) | some q => .ref q)
/-- the kind and the number of an array -/
def arK (k : Nat) : Nat := if k < 20022 then k else if k < 20028 then 20022 else if k < 20069 then k else 20069
def arI (k : Nat) : Nat := if k < 20022 then 0 else if k < 20028 then k - 20022 else if k < 20069 then 0 else k - 20069
theorem ar_inj {k q : Nat} (h : arK k = arK q) (h2 : arI k = arI q) : k = q := by
  unfold arK at h
  unfold arI at h2
  repeat' (split at h)
  all_goals (repeat' (split at h2))
  all_goals omega
def cells (A G : Mat) (e : Ev) (k : Nat) : Option PE :=
  if k < 20000 then (match clsK e k with | some ci => some (.inr (.inr (ci, objL G e ci k))) | none => none)
  else if k < 20069 then (match rfA k with | some t => some (.inr (.inl (t, lnA k, eR e k))) | none => some (.inl (tgA k, lnA k, A (arK k) (arI k))))
  else if k < 20069 + eNx e then some (.inl (0, eTl e (k - 20069), A (arK k) (arI k))) else none
def cntF (e : Ev) (c : Nat) : Nat := match c with
  | 3 => eNl e
  | 4 => 2
  | 7 => eNr e
  | 8 => 6
  | 20 => 69 + eNx e
  | _ => 1
def HH (A G : Mat) (e : Ev) : PH := (cells A G e, cntF e, eLg e, eUs e)
def upr (M : Mat) (c i : Nat) (f : Nat → Int32) : Mat := va_up M c (va_up (M c) i f)
def up3 (M : Mat) (c i j : Nat) (v : Int32) : Mat := upr M c i (upd (M c i) j v)
/-- a place within -/
def ib (i : Int32) (n : Nat) (K : PR) : PR := if ¬ (i < 0 ∨ n ≤ i.toNatClampNeg) then K else none
section HEAP
variable {A G : Mat} {e : Ev} {ro : RO}
theorem objL_at {ci j k : Nat} (hj : j < clN ci) : (objL G e ci k)[j]? = some (match rfK e ci j k with | none => .int (G ci (k - 1000 * ci) j) | some q => .ref q) := by
  unfold objL
  rw [List.getElem?_map, List.getElem?_range hj]
  rfl
theorem clsK_lt {k ci : Nat} (hc : clsK e k = some ci) : k < 20000 ∧ 1000 * ci ≤ k ∧ k < 1000 * ci + 1000 := by
  unfold clsK at hc
  by_cases a : k = 11000
  · rw [if_pos a] at hc
    cases hc
    omega
  rw [if_neg a] at hc
  clear a
  by_cases a : k = 10000
  · rw [if_pos a] at hc
    cases hc
    omega
  rw [if_neg a] at hc
  clear a
  by_cases a : k = 9000
  · rw [if_pos a] at hc
    cases hc
    omega
  rw [if_neg a] at hc
  clear a
  by_cases a : k = 6000
  · rw [if_pos a] at hc
    cases hc
    omega
  rw [if_neg a] at hc
  clear a
  by_cases a : k = 5000
  · rw [if_pos a] at hc
    cases hc
    omega
  rw [if_neg a] at hc
  clear a
  by_cases a : k = 2000
  · rw [if_pos a] at hc
    cases hc
    omega
  rw [if_neg a] at hc
  clear a
  by_cases a : k = 1000
  · rw [if_pos a] at hc
    cases hc
    omega
  rw [if_neg a] at hc
  clear a
  by_cases a : k = 0
  · rw [if_pos a] at hc
    cases hc
    omega
  rw [if_neg a] at hc
  clear a
  by_cases a : 7000 ≤ k ∧ k < 7000 + eNr e ∧ k < 8000
  · rw [if_pos a] at hc
    cases hc
    omega
  rw [if_neg a] at hc
  clear a
  by_cases a : 4000 ≤ k ∧ k < 4002
  · rw [if_pos a] at hc
    cases hc
    omega
  rw [if_neg a] at hc
  clear a
  by_cases a : 8000 ≤ k ∧ k < 8006
  · rw [if_pos a] at hc
    cases hc
    omega
  rw [if_neg a] at hc
  clear a
  by_cases a : 3000 ≤ k ∧ k < 3000 + eNl e ∧ k < 4000
  · rw [if_pos a] at hc
    cases hc
    omega
  rw [if_neg a] at hc
  clear a
  cases hc
theorem clsK_o9 {r : Nat} (hc : clsK e r = some 9) : r = 9000 := by
  unfold clsK at hc
  by_cases a : r = 11000
  · rw [if_pos a] at hc
    first | exact a | simp at hc
  rw [if_neg a] at hc
  clear a
  by_cases a : r = 10000
  · rw [if_pos a] at hc
    first | exact a | simp at hc
  rw [if_neg a] at hc
  clear a
  by_cases a : r = 9000
  · rw [if_pos a] at hc
    first | exact a | simp at hc
  rw [if_neg a] at hc
  clear a
  by_cases a : r = 6000
  · rw [if_pos a] at hc
    first | exact a | simp at hc
  rw [if_neg a] at hc
  clear a
  by_cases a : r = 5000
  · rw [if_pos a] at hc
    first | exact a | simp at hc
  rw [if_neg a] at hc
  clear a
  by_cases a : r = 2000
  · rw [if_pos a] at hc
    first | exact a | simp at hc
  rw [if_neg a] at hc
  clear a
  by_cases a : r = 1000
  · rw [if_pos a] at hc
    first | exact a | simp at hc
  rw [if_neg a] at hc
  clear a
  by_cases a : r = 0
  · rw [if_pos a] at hc
    first | exact a | simp at hc
  rw [if_neg a] at hc
  clear a
  by_cases a : 7000 ≤ r ∧ r < 7000 + eNr e ∧ r < 8000
  · rw [if_pos a] at hc
    first | exact a | simp at hc
  rw [if_neg a] at hc
  clear a
  by_cases a : 4000 ≤ r ∧ r < 4002
  · rw [if_pos a] at hc
    first | exact a | simp at hc
  rw [if_neg a] at hc
  clear a
  by_cases a : 8000 ≤ r ∧ r < 8006
  · rw [if_pos a] at hc
    first | exact a | simp at hc
  rw [if_neg a] at hc
  clear a
  by_cases a : 3000 ≤ r ∧ r < 3000 + eNl e ∧ r < 4000
  · rw [if_pos a] at hc
    first | exact a | simp at hc
  rw [if_neg a] at hc
  clear a
  cases hc
theorem clsK_o6 {r : Nat} (hc : clsK e r = some 6) : r = 6000 := by
  unfold clsK at hc
  by_cases a : r = 11000
  · rw [if_pos a] at hc
    first | exact a | simp at hc
  rw [if_neg a] at hc
  clear a
  by_cases a : r = 10000
  · rw [if_pos a] at hc
    first | exact a | simp at hc
  rw [if_neg a] at hc
  clear a
  by_cases a : r = 9000
  · rw [if_pos a] at hc
    first | exact a | simp at hc
  rw [if_neg a] at hc
  clear a
  by_cases a : r = 6000
  · rw [if_pos a] at hc
    first | exact a | simp at hc
  rw [if_neg a] at hc
  clear a
  by_cases a : r = 5000
  · rw [if_pos a] at hc
    first | exact a | simp at hc
  rw [if_neg a] at hc
  clear a
  by_cases a : r = 2000
  · rw [if_pos a] at hc
    first | exact a | simp at hc
  rw [if_neg a] at hc
  clear a
  by_cases a : r = 1000
  · rw [if_pos a] at hc
    first | exact a | simp at hc
  rw [if_neg a] at hc
  clear a
  by_cases a : r = 0
  · rw [if_pos a] at hc
    first | exact a | simp at hc
  rw [if_neg a] at hc
  clear a
  by_cases a : 7000 ≤ r ∧ r < 7000 + eNr e ∧ r < 8000
  · rw [if_pos a] at hc
    first | exact a | simp at hc
  rw [if_neg a] at hc
  clear a
  by_cases a : 4000 ≤ r ∧ r < 4002
  · rw [if_pos a] at hc
    first | exact a | simp at hc
  rw [if_neg a] at hc
  clear a
  by_cases a : 8000 ≤ r ∧ r < 8006
  · rw [if_pos a] at hc
    first | exact a | simp at hc
  rw [if_neg a] at hc
  clear a
  by_cases a : 3000 ≤ r ∧ r < 3000 + eNl e ∧ r < 4000
  · rw [if_pos a] at hc
    first | exact a | simp at hc
  rw [if_neg a] at hc
  clear a
  cases hc
theorem cell_obj {k ci : Nat} (hc : clsK e k = some ci) : cells A G e k = some (.inr (.inr (ci, objL G e ci k))) := by
  unfold cells
  rw [if_pos (clsK_lt hc).1, hc]
theorem gI_H {k ci j : Nat} {K : Int32 → PR} (hc : clsK e k = some ci) (hj : j < clN ci) (hr : rfK e ci j k = none) : gI (HH A G e) k ci j K = K (G ci (k - 1000 * ci) j) := by
  have h1 := cell_obj (A := A) (G := G) hc
  have h2 := objL_at (G := G) (e := e) (k := k) hj
  rw [hr] at h2
  show (match cells A G e k with | some (.inr (.inr (c, fs))) => if c = ci then (match fs[j]? with | some (.int x) => K x | _ => none) else none | _ => none) = _
  simp only [h1, if_pos, h2]
theorem gR_H {k ci j q : Nat} {N : PR} {K : Nat → PR} (hc : clsK e k = some ci) (hj : j < clN ci) (hr : rfK e ci j k = some q) : gR (HH A G e) k ci j N K = K q := by
  have h1 := cell_obj (A := A) (G := G) hc
  have h2 := objL_at (G := G) (e := e) (k := k) hj
  rw [hr] at h2
  show (match cells A G e k with | some (.inr (.inr (c, fs))) => if c = ci then (match fs[j]? with | some (.ref q) => K q | some .null => N | _ => none) else none | _ => none) = _
  simp only [h1, if_pos, h2]
theorem vO_H {k ci : Nat} {K : PR} (hc : clsK e k = some ci) : vO (HH A G e) (some (.ref k)) ci K = K := by
  have h1 := cell_obj (A := A) (G := G) hc
  have : isO (HH A G e) (some (.ref k)) ci = true := by
    show (match cells A G e k with | some (.inr (.inr (c, _))) => c == ci | _ => false) = true
    simp [h1]
  unfold vO
  rw [if_pos this]
theorem objL_up {k ci j c q : Nat} {v : Int32} (h : ¬ (c = ci ∧ q - 1000 * c = k)) : objL (up3 G ci k j v) e c q = objL G e c q := by
  unfold objL
  apply List.map_congr_left
  intro x _
  by_cases hc : c = ci
  · subst hc
    have h2 : ¬ q - 1000 * c = k := fun z => h ⟨rfl, z⟩
    simp [up3, upr, va_up, h2]
  · simp [up3, upr, va_up, hc]
theorem objL_set {k ci j : Nat} {v : Int32} (hr : rfK e ci j k = none) : (objL G e ci k).set j (.int v) = objL (up3 G ci (k - 1000 * ci) j v) e ci k := by
  apply List.ext_getElem?
  intro x
  by_cases hx : x < clN ci
  · by_cases hxj : x = j
    · subst hxj
      rw [List.getElem?_set_self (by simpa [objL] using hx), objL_at hx, hr]
      simp [up3, upr, va_up, upd]
    · rw [List.getElem?_set_ne (Ne.symm hxj), objL_at hx, objL_at hx]
      simp [up3, upr, va_up, upd, hxj]
  · rw [List.getElem?_eq_none (by simpa [objL] using hx), List.getElem?_eq_none (by simpa [objL] using hx)]
theorem pF_H {k ci j : Nat} {v : Int32} {K : PH → PR} (hc : clsK e k = some ci) (hj : j < clN ci) (hr : rfK e ci j k = none) : pF (HH A G e) k ci j (.int v) K = K (HH A (up3 G ci (k - 1000 * ci) j v) e) := by
  have h1 := cell_obj (A := A) (G := G) hc
  have hl : j < (objL G e ci k).length := by simpa [objL] using hj
  have h3 : ph_put (HH A G e) k (.inr (.inr (ci, (objL G e ci k).set j (.int v)))) = HH A (up3 G ci (k - 1000 * ci) j v) e := by
    refine Prod.ext (funext fun q => ?_) rfl
    show va_up (cells A G e) k _ q = cells A (up3 G ci (k - 1000 * ci) j v) e q
    by_cases hq : q = k
    · subst hq
      rw [cell_obj hc, objL_set hr]
      simp [va_up]
    · unfold cells
      simp only [va_up, if_neg hq]
      split
      · split
        · rename_i c hcc
          rw [objL_up]
          rintro ⟨rfl, z⟩
          have := clsK_lt hcc
          have := clsK_lt hc
          omega
        · rfl
      · rfl
  show (match cells A G e k with | some (.inr (.inr (c, fs))) => if c = ci ∧ j < fs.length then K (ph_put (HH A G e) k (.inr (.inr (c, fs.set j (.int v))))) else none | _ => none) = _
  simp only [h1, true_and, if_pos hl, h3]
theorem cell_arr {k : Nat} (h1 : 20000 ≤ k) (h2 : k < 20069) (h3 : rfA k = none) : cells A G e k = some (.inl (tgA k, lnA k, A (arK k) (arI k))) := by
  unfold cells
  rw [if_neg (by omega), if_pos h2, h3]
theorem cell_txt {k : Nat} (h1 : 20069 ≤ k) (h2 : k < 20069 + eNx e) : cells A G e k = some (.inl (0, eTl e (k - 20069), A 20069 (k - 20069))) := by
  unfold cells arK arI
  rw [if_neg (by omega), if_neg (by omega), if_pos h2, if_neg (by omega), if_neg (by omega), if_neg (by omega), if_neg (by omega), if_neg (by omega), if_neg (by omega)]
theorem aI_of {h : PH} {k tg n : Nat} {f : Nat → Int32} {i : Int32} {K : Int32 → PR} (hk : k < 30000) (hc : h.1 k = some (.inl (tg, n, f))) : aI ro h k tg i K = ib i n (K (f i.toNatClampNeg)) := by
  unfold aI arr ib
  rw [if_neg (by omega), hc]
  simp
theorem aI_H {k : Nat} {i : Int32} {K : Int32 → PR} (h1 : 20000 ≤ k) (h2 : k < 20069) (h3 : rfA k = none) : aI ro (HH A G e) k (tgA k) i K = ib i (lnA k) (K (A (arK k) (arI k) i.toNatClampNeg)) := aI_of (by omega) (cell_arr h1 h2 h3)
theorem aL_of {h : PH} {k tg n : Nat} {f : Nat → Int32} {K : Int32 → PR} (hk : k < 30000) (hc : h.1 k = some (.inl (tg, n, f))) : aL ro h k K = K (Int32.ofNat n) := by
  unfold aL arr
  rw [if_neg (by omega), hc]
theorem put_arr {k : Nat} {f : Nat → Int32} (h1 : 20000 ≤ k) (h2 : k < 20069) (h3 : rfA k = none) : ph_put (HH A G e) k (.inl (tgA k, lnA k, f)) = HH (upr A (arK k) (arI k) f) G e := by
  refine Prod.ext (funext fun q => ?_) rfl
  show va_up (cells A G e) k _ q = cells (upr A (arK k) (arI k) f) G e q
  by_cases hq : q = k
  · subst hq
    rw [cell_arr h1 h2 h3]
    simp [va_up, upr]
  · have h9 : upr A (arK k) (arI k) f (arK q) (arI q) = A (arK q) (arI q) := by
      by_cases ha : arK q = arK k
      · have hb : ¬ arI q = arI k := fun z => hq (ar_inj ha z)
        simp [upr, va_up, ha, hb]
      · simp [upr, va_up, ha]
    unfold cells
    simp only [h9, va_up, if_neg hq]
theorem sI_H {k : Nat} {i v : Int32} {K : PH → PR} (h1 : 20000 ≤ k) (h2 : k < 20069) (h3 : rfA k = none) : sI (HH A G e) k (tgA k) i v K = ib i (lnA k) (K (HH (up3 A (arK k) (arI k) i.toNatClampNeg v) G e)) := by
  have h4 : (HH A G e).1 k = some (.inl (tgA k, lnA k, A (arK k) (arI k))) := cell_arr h1 h2 h3
  unfold sI ib
  rw [h4]
  simp only [true_and, put_arr h1 h2 h3]
  rfl
theorem cell_ref {k t : Nat} (h1 : 20000 ≤ k) (h2 : k < 20069) (h3 : rfA k = some t) : cells A G e k = some (.inr (.inl (t, lnA k, eR e k))) := by
  unfold cells
  rw [if_neg (by omega), if_pos h2, h3]
theorem aR_H {k t q : Nat} {i : Int32} {N : PR} {K : Nat → PR} (h1 : 20000 ≤ k) (h2 : k < 20069) (h3 : rfA k = some t) (hq : eR e k i.toNatClampNeg = some q) : aR (HH A G e) k i N K = ib i (lnA k) (K q) := by
  have h4 : (HH A G e).1 k = some (.inr (.inl (t, lnA k, eR e k))) := cell_ref h1 h2 h3
  unfold aR ib
  rw [h4]
  simp only [hq]
theorem aR_HN {k t : Nat} {i : Int32} {N : PR} {K : Nat → PR} (h1 : 20000 ≤ k) (h2 : k < 20069) (h3 : rfA k = some t) (hq : eR e k i.toNatClampNeg = none) : aR (HH A G e) k i N K = ib i (lnA k) N := by
  have h4 : (HH A G e).1 k = some (.inr (.inl (t, lnA k, eR e k))) := cell_ref h1 h2 h3
  unfold aR ib
  rw [h4]
  simp only [hq]
theorem ib_t {i : Int32} {n : Nat} {K : PR} (h : vp_in i n) : ib i n K = K := if_pos h
theorem ib_n {i n : Nat} {K : PR} (h : i < n) (hn : n < 2 ^ 31) : ib (nI i) n K = K := if_pos (vp_in_nI h hn)
theorem cI_s {x : Int32} {h : PH} {K : Int32 → PH → PR} : cI (some (some (.int x), h)) K = K x h := rfl
theorem cV_s {h : PH} {K : PH → PR} : cV (some (none, h)) K = K h := rfl
theorem cR_s {k : Nat} {h : PH} {N : PH → PR} {K : Nat → PH → PR} : cR (some (some (.ref k), h)) N K = K k h := rfl
theorem cR_n {h : PH} {N : PH → PR} {K : Nat → PH → PR} : cR (some (some .null, h)) N K = N h := rfl
theorem up3_s {M : Mat} {c i j : Nat} {v : Int32} : up3 M c i j v c i j = v := by simp [up3, upr, va_up, upd]
theorem up3_c {M : Mat} {c i j q : Nat} {v : Int32} (h : q ≠ c) : up3 M c i j v q = M q := by simp [up3, upr, va_up, h]
theorem up3_i {M : Mat} {c i j q : Nat} {v : Int32} (h : q ≠ i) : up3 M c i j v c q = M c q := by simp [up3, upr, va_up, h]
theorem up3_j {M : Mat} {c i j q : Nat} {v : Int32} (h : q ≠ j) : up3 M c i j v c i q = M c i q := by simp [up3, upr, va_up, upd, h]
/-! rows, laws, tapes, logs by their numbers -/
theorem clsK7 {i : Nat} (h : i < eNr e) (h2 : i < 1000) : clsK e (7000 + i) = some 7 := by
  unfold clsK
  rw [if_neg (by omega), if_neg (by omega), if_neg (by omega), if_neg (by omega), if_neg (by omega), if_neg (by omega), if_neg (by omega), if_neg (by omega), if_pos (by omega)]
theorem clsK3 {i : Nat} (h : i < eNl e) (h2 : i < 1000) : clsK e (3000 + i) = some 3 := by
  unfold clsK
  rw [if_neg (by omega), if_neg (by omega), if_neg (by omega), if_neg (by omega), if_neg (by omega), if_neg (by omega), if_neg (by omega), if_neg (by omega), if_neg (by omega), if_neg (by omega), if_neg (by omega), if_pos (by omega)]
theorem clsK4 {i : Nat} (h : i < 2) : clsK e (4000 + i) = some 4 := by
  unfold clsK
  rw [if_neg (by omega), if_neg (by omega), if_neg (by omega), if_neg (by omega), if_neg (by omega), if_neg (by omega), if_neg (by omega), if_neg (by omega), if_neg (by omega), if_pos (by omega)]
theorem clsK8 {i : Nat} (h : i < 6) : clsK e (8000 + i) = some 8 := by
  unfold clsK
  rw [if_neg (by omega), if_neg (by omega), if_neg (by omega), if_neg (by omega), if_neg (by omega), if_neg (by omega), if_neg (by omega), if_neg (by omega), if_neg (by omega), if_neg (by omega), if_pos (by omega)]
theorem gI7 {i j : Nat} {K : Int32 → PR} (h : i < eNr e) (h2 : i < 1000) (hj : j < 9) : gI (HH A G e) (7000 + i) 7 j K = K (G 7 i j) := by
  rw [gI_H (clsK7 h h2) hj rfl, show 7000 + i - 1000 * 7 = i by omega]
theorem pF7 {i j : Nat} {v : Int32} {K : PH → PR} (h : i < eNr e) (h2 : i < 1000) (hj : j < 9) : pF (HH A G e) (7000 + i) 7 j (.int v) K = K (HH A (up3 G 7 i j v) e) := by
  rw [pF_H (clsK7 h h2) hj rfl, show 7000 + i - 1000 * 7 = i by omega]
theorem vO7 {i : Nat} {K : PR} (h : i < eNr e) (h2 : i < 1000) : vO (HH A G e) (some (.ref (7000 + i))) 7 K = K := vO_H (clsK7 h h2)
theorem gI4 {i j : Nat} {K : Int32 → PR} (h : i < 2) (hj : j < 9) : gI (HH A G e) (4000 + i) 4 j K = K (G 4 i j) := by
  have hr : rfK e 4 j (4000 + i) = none := by
    match j, hj with
    | 0, _ => rfl | 1, _ => rfl | 2, _ => rfl | 3, _ => rfl | 4, _ => rfl | 5, _ => rfl | 6, _ => rfl | 7, _ => rfl | 8, _ => rfl
  rw [gI_H (clsK4 h) (Nat.lt_trans hj (by decide)) hr, show 4000 + i - 1000 * 4 = i by omega]
theorem pF4 {i j : Nat} {v : Int32} {K : PH → PR} (h : i < 2) (hj : j < 9) : pF (HH A G e) (4000 + i) 4 j (.int v) K = K (HH A (up3 G 4 i j v) e) := by
  have hr : rfK e 4 j (4000 + i) = none := by
    match j, hj with
    | 0, _ => rfl | 1, _ => rfl | 2, _ => rfl | 3, _ => rfl | 4, _ => rfl | 5, _ => rfl | 6, _ => rfl | 7, _ => rfl | 8, _ => rfl
  rw [pF_H (clsK4 h) (Nat.lt_trans hj (by decide)) hr, show 4000 + i - 1000 * 4 = i by omega]
theorem gR4 {i : Nat} {N : PR} {K : Nat → PR} (h : i < 2) : gR (HH A G e) (4000 + i) 4 9 N K = K (20007 + i) := by
  rw [gR_H (q := 20007 + i) (clsK4 h) (by decide)]
  show some (20007 + (4000 + i - 4000)) = some (20007 + i)
  rw [Nat.add_sub_cancel_left]
theorem vO4 {i : Nat} {K : PR} (h : i < 2) : vO (HH A G e) (some (.ref (4000 + i))) 4 K = K := vO_H (clsK4 h)
theorem gI8 {i j : Nat} {K : Int32 → PR} (h : i < 6) (hj : j < 2) : gI (HH A G e) (8000 + i) 8 j K = K (G 8 i j) := by
  have hr : rfK e 8 j (8000 + i) = none := by
    match j, hj with
    | 0, _ => rfl | 1, _ => rfl
  rw [gI_H (clsK8 h) (Nat.lt_trans hj (by decide)) hr, show 8000 + i - 1000 * 8 = i by omega]
theorem pF8 {i j : Nat} {v : Int32} {K : PH → PR} (h : i < 6) (hj : j < 2) : pF (HH A G e) (8000 + i) 8 j (.int v) K = K (HH A (up3 G 8 i j v) e) := by
  have hr : rfK e 8 j (8000 + i) = none := by
    match j, hj with
    | 0, _ => rfl | 1, _ => rfl
  rw [pF_H (clsK8 h) (Nat.lt_trans hj (by decide)) hr, show 8000 + i - 1000 * 8 = i by omega]
theorem gR8 {i : Nat} {N : PR} {K : Nat → PR} (h : i < 6) : gR (HH A G e) (8000 + i) 8 2 N K = K (20022 + i) := by
  rw [gR_H (q := 20022 + i) (clsK8 h) (by decide)]
  show some (20022 + (8000 + i - 8000)) = some (20022 + i)
  rw [Nat.add_sub_cancel_left]
theorem vO8 {i : Nat} {K : PR} (h : i < 6) : vO (HH A G e) (some (.ref (8000 + i))) 8 K = K := vO_H (clsK8 h)
theorem gI3 {i j : Nat} {K : Int32 → PR} (h : i < eNl e) (h2 : i < 1000) (hj : j < 2) : gI (HH A G e) (3000 + i) 3 j K = K (G 3 i j) := by
  have hr : rfK e 3 j (3000 + i) = none := by
    match j, hj with
    | 0, _ => rfl | 1, _ => rfl
  rw [gI_H (clsK3 h h2) (Nat.lt_trans hj (by decide)) hr, show 3000 + i - 1000 * 3 = i by omega]
theorem gR3 {i : Nat} {N : PR} {K : Nat → PR} (h : i < eNl e) (h2 : i < 1000) : gR (HH A G e) (3000 + i) 3 2 N K = K (20069 + i) := by
  rw [gR_H (q := 20069 + i) (clsK3 h h2) (by decide)]
  show some (20069 + (3000 + i - 3000)) = some (20069 + i)
  rw [Nat.add_sub_cancel_left]
theorem tap_key {t : Nat} (h : t < 6) : rfA (20022 + t) = none ∧ arK (20022 + t) = 20022 ∧ arI (20022 + t) = t ∧ tgA (20022 + t) = 0 ∧ lnA (20022 + t) = 60 := by
  match t, h with
  | 0, _ => decide
  | 1, _ => decide
  | 2, _ => decide
  | 3, _ => decide
  | 4, _ => decide
  | 5, _ => decide
theorem ga8 {t : Nat} {i : Int32} {K : Int32 → PR} (h : t < 6) : aI ro (HH A G e) (20022 + t) 0 i K = ib i 60 (K (A 20022 t i.toNatClampNeg)) := by
  obtain ⟨h1, h2, h3, h4, h5⟩ := tap_key h
  have := aI_H (A := A) (G := G) (e := e) (ro := ro) (k := 20022 + t) (i := i) (K := K) (by omega) (by omega) h1
  rw [h2, h3, h4, h5] at this
  exact this
theorem sa8 {t : Nat} {i v : Int32} {K : PH → PR} (h : t < 6) : sI (HH A G e) (20022 + t) 0 i v K = ib i 60 (K (HH (up3 A 20022 t i.toNatClampNeg v) G e)) := by
  obtain ⟨h1, h2, h3, h4, h5⟩ := tap_key h
  have := sI_H (A := A) (G := G) (e := e) (k := 20022 + t) (i := i) (v := v) (K := K) (by omega) (by omega) h1
  rw [h2, h3, h4, h5] at this
  exact this
theorem ga9 {t : Nat} {i : Int32} {K : Int32 → PR} (h : t < eNx e) (h2 : t < 1000) : aI ro (HH A G e) (20069 + t) 0 i K = ib i (eTl e t) (K (A 20069 t i.toNatClampNeg)) := by
  have h1 : (HH A G e).1 (20069 + t) = some (.inl (0, eTl e (20069 + t - 20069), A 20069 (20069 + t - 20069))) := cell_txt (by omega) (by omega)
  rw [show 20069 + t - 20069 = t by omega] at h1
  exact aI_of (by omega) h1
end HEAP
