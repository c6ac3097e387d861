/-! THE PURE MACHINE: cells by keys, runs of blocks, calls by numbers. What it answers, the machine does (part 05). -/
/-- ints (tag, length, contents); references (tag, length, contents); an object (class, fields): references are keys -/
abbrev PE : Type := (Nat × Nat × (Nat → Int32)) ⊕ ((Nat × Nat × (Nat → Option Nat)) ⊕ (Nat × List Value))
/-- the cells, how many of each kind were made, the keys as they were made, the slots made -/
abbrev PH : Type := (Nat → Option PE) × (Nat → Nat) × List Nat × Nat
abbrev PL : Type := List (Option Value)
abbrev PR : Type := Option (Option Value × PH)
/-- an instruction: pc, length, kind, a, b, x, v, ts -/
abbrev PI : Type := Nat × Nat × Nat × Nat × Nat × Nat × Int32 × List Nat
/-- arrays that nobody writes, by key (30000 on): tag, length, contents -/
abbrev RO : Type := Nat → Option (Nat × Nat × (Nat → Int32))
def ph_put (h : PH) (k : Nat) (e : PE) : PH := (va_up h.1 k (some e), h.2)
def ph_add (h : PH) (k kind n : Nat) (e : PE) : PH := (va_up h.1 k (some e), va_up h.2.1 kind (h.2.1 kind + 1), h.2.2.1 ++ [k], h.2.2.2 + n)
def gI (h : PH) (k ci j : Nat) (K : Int32 → PR) : PR := match h.1 k with
  | some (.inr (.inr (c, fs))) => if c = ci then (match fs[j]? with | some (.int x) => K x | _ => none) else none
  | _ => none
def gR (h : PH) (k ci j : Nat) (N : PR) (K : Nat → PR) : PR := match h.1 k with
  | some (.inr (.inr (c, fs))) => if c = ci then (match fs[j]? with | some (.ref q) => K q | some .null => N | _ => none) else none
  | _ => none
def pF (h : PH) (k ci j : Nat) (v : Value) (K : PH → PR) : PR := match h.1 k with
  | some (.inr (.inr (c, fs))) => if c = ci ∧ j < fs.length then K (ph_put h k (.inr (.inr (c, fs.set j v)))) else none
  | _ => none
def arr (ro : RO) (h : PH) (k : Nat) : Option (Nat × Nat × (Nat → Int32)) := if 30000 ≤ k then ro k else match h.1 k with
  | some (.inl x) => some x
  | _ => none
def aI (ro : RO) (h : PH) (k tg : Nat) (i : Int32) (K : Int32 → PR) : PR := match arr ro h k with
  | some (t, n, f) => if t = tg ∧ ¬ (i < 0 ∨ n ≤ i.toNatClampNeg) then K (f i.toNatClampNeg) else none
  | none => none
def aR (h : PH) (k : Nat) (i : Int32) (N : PR) (K : Nat → PR) : PR := match h.1 k with
  | some (.inr (.inl (_, n, g))) => if ¬ (i < 0 ∨ n ≤ i.toNatClampNeg) then (match g i.toNatClampNeg with | none => N | some q => K q) else none
  | _ => none
def aL (ro : RO) (h : PH) (k : Nat) (K : Int32 → PR) : PR := match arr ro h k with
  | some (_, n, _) => K (Int32.ofNat n)
  | none => none
def sI (h : PH) (k tg : Nat) (i v : Int32) (K : PH → PR) : PR := match h.1 k with
  | some (.inl (t, n, f)) => if t = tg ∧ ¬ (i < 0 ∨ n ≤ i.toNatClampNeg) then K (ph_put h k (.inl (t, n, upd f i.toNatClampNeg v))) else none
  | _ => none
def sR (h : PH) (k : Nat) (i : Int32) (q : Nat) (K : PH → PR) : PR := match h.1 k, h.1 q with
  | some (.inr (.inl (t, n, g))), some (.inr (.inr (c, _))) => if t = 10 + c ∧ ¬ (i < 0 ∨ n ≤ i.toNatClampNeg) then K (ph_put h k (.inr (.inl (t, n, va_up g i.toNatClampNeg (some q))))) else none
  | _, _ => none
def nO (h : PH) (ci N : Nat) (fs : List Value) (K : Nat → PH → PR) : PR :=
  if (h.1 (1000 * ci + h.2.1 ci)).isNone ∧ 1000 * ci + h.2.1 ci < 20000 then K (1000 * ci + h.2.1 ci) (ph_add h (1000 * ci + h.2.1 ci) ci N (.inr (.inr (ci, fs)))) else none
def nA (h : PH) (tg : Nat) (n : Int32) (f : Nat → Int32) (K : Nat → PH → PR) : PR :=
  if (h.1 (20000 + h.2.1 20)).isNone ∧ 20000 + h.2.1 20 < 30000 ∧ ¬ n < 0 ∧ n.toNatClampNeg ≤ 100000 then K (20000 + h.2.1 20) (ph_add h (20000 + h.2.1 20) 20 n.toNatClampNeg (.inl (tg, n.toNatClampNeg, f))) else none
def nQ (h : PH) (tg : Nat) (n : Int32) (K : Nat → PH → PR) : PR :=
  if (h.1 (20000 + h.2.1 20)).isNone ∧ 20000 + h.2.1 20 < 30000 ∧ ¬ n < 0 ∧ n.toNatClampNeg ≤ 100000 then K (20000 + h.2.1 20) (ph_add h (20000 + h.2.1 20) 20 n.toNatClampNeg (.inr (.inl (tg, n.toNatClampNeg, fun _ => none)))) else none
/-- System.arraycopy of ints -/
def cpA (h : PH) (k : Nat) (sp : Int32) (q : Nat) (dp n : Int32) (K : PH → PR) : PR := match h.1 k, h.1 q with
  | some (.inl (t0, n0, f)), some (.inl (t1, n1, g)) => if t0 = 0 ∧ t1 = 0 ∧ ¬ sp < 0 ∧ ¬ dp < 0 ∧ ¬ n < 0 ∧ sp.toNatClampNeg + n.toNatClampNeg ≤ n0 ∧ dp.toNatClampNeg + n.toNatClampNeg ≤ n1 then K (ph_put h q (.inl (t1, n1, va_cpy f g sp.toNatClampNeg dp.toNatClampNeg n.toNatClampNeg))) else none
  | _, _ => none
/-- clone of an array of ints -/
def clA (h : PH) (k : Nat) (K : Nat → PH → PR) : PR := match h.1 k with
  | some (.inl (t, n, f)) => if t = 0 ∧ (h.1 (20000 + h.2.1 20)).isNone ∧ 20000 + h.2.1 20 < 30000 then K (20000 + h.2.1 20) (ph_add h (20000 + h.2.1 20) 20 n (.inl (t, n, f))) else none
  | _ => none
def isA (h : PH) (k : Nat) : Bool := match h.1 k with
  | some (.inl (t, _, _)) => t == 0
  | _ => false
def isO (h : PH) (v : Option Value) (ci : Nat) : Bool := match v with
  | some (.ref k) => (match h.1 k with | some (.inr (.inr (c, _))) => c == ci | _ => false)
  | _ => false
def vO (h : PH) (v : Option Value) (ci : Nat) (K : PR) : PR := if isO h v ci = true then K else none
def ivk (st : List Value) (b x : Nat) (h : PH) (K : PR) : PR := if b ≤ st.length ∧ ((st.drop b).map fun v => v.category).sum ≤ 8 then (if x = 0 then K else vO h ((st.take b).reverse)[0]? (x - 1) K) else none
def cI (r : PR) (K : Int32 → PH → PR) : PR := match r with
  | some (some (.int x), h) => K x h
  | _ => none
def cV (r : PR) (K : PH → PR) : PR := match r with
  | some (none, h) => K h
  | _ => none
def cR (r : PR) (N : PH → PR) (K : Nat → PH → PR) : PR := match r with
  | some (some (.ref k), h) => K k h
  | some (some .null, h) => N h
  | _ => none
def bop (a : Nat) (x y : Int32) : Int32 := match a with
  | 0 => x + y
  | 1 => x - y
  | 2 => x * y
  | 3 => x &&& y
  | 4 => x ||| y
  | 5 => x ^^^ y
  | 6 => x <<< (y &&& 31)
  | 7 => x >>> (y &&& 31)
  | _ => (x.toUInt32 >>> (y.toUInt32 &&& Int32.toUInt32 31)).toInt32
def uop (a : Nat) (x : Int32) : Int32 := match a with
  | 0 => -x
  | 1 => x.toInt8.toInt32
  | _ => x.toInt16.toInt32
/-- a comparison: 0 = , 1 ≠ , 2 < , 3 ≥ , 4 > , 5 ≤ -/
def cnd (a : Nat) (x y : Int32) (T F : PR) : PR := match a with
  | 0 => if x = y then T else F
  | 1 => if x = y then F else T
  | 2 => if x < y then T else F
  | 3 => if x < y then F else T
  | 4 => if y < x then T else F
  | _ => if y < x then F else T
def swt (F : Nat → PR) (b : Nat) (y : Int32) : List Nat → Int32 → PR
  | [], _ => F b
  | t :: ts, v => if y = v then F t else swt F b y ts (v + 1)
def swl (F : Nat → PR) (b : Nat) (y : Int32) : List Nat → PR
  | k :: t :: ts => if y = Int32.ofNat k then F t else swl F b y ts
  | _ => F b
/-- the fields of a class, as they are at first -/
def clN : Nat → Nat := fun ci => (vwCl.getD ci ("", TX0, 0)).2.2
def clT : Nat → Nat → FieldType
  | 0 => tyX0 | 1 => tyX1 | 2 => tyX2 | 3 => tyX3 | 4 => tyX4 | 5 => tyX5 | 6 => tyX6 | 7 => tyX7 | 8 => tyX8 | 9 => tyX9 | 10 => tyX10 | _ => tyX11
def dfl (ci : Nat) : List Value := (List.range (clN ci)).map (fun j => defaultValue (clT ci j))
def step (ro : RO) (J : Nat → PL → List Value → PH → PR) (C : Nat → List Value → PH → PR) (i : PI) (lv : PL) (st : List Value) (h : PH) (K : PL → List Value → PH → PR) : PR :=
  match i with
  | (_, _, op, a, b, x, v, ts) => match op with
    | 0 => K lv (.int v :: st) h
    | 1 => (match lv[a]? with | some (some (.int y)) => K lv (.int y :: st) h | _ => none)
    | 2 => (match lv[a]? with | some (some (.ref q)) => K lv (.ref q :: st) h | some (some .null) => K lv (.null :: st) h | _ => none)
    | 3 => (match st with | .int y :: st => K (lv.set a (some (.int y))) st h | _ => none)
    | 4 => (match st with | .ref q :: st => K (lv.set a (some (.ref q))) st h | .null :: st => K (lv.set a (some .null)) st h | _ => none)
    | 5 => (match lv[a]? with | some (some (.int y)) => K (lv.set a (some (.int (y + v)))) st h | _ => none)
    | 6 => (match st with | .int y :: .int z :: st => K lv (.int (bop a z y) :: st) h | _ => none)
    | 7 => (match st with | .int y :: .int z :: st => if y = 0 then none else K lv (.int (z / y) :: st) h | _ => none)
    | 8 => (match st with | .int y :: .int z :: st => if y = 0 then none else K lv (.int (z - z / y * y) :: st) h | _ => none)
    | 9 => (match st with | .int z :: st => K lv (.int (uop a z) :: st) h | _ => none)
    | 10 => (match st with | .int z :: st => cnd a z 0 (J b lv st h) (K lv st h) | _ => none)
    | 11 => (match st with | .int y :: .int z :: st => cnd a z y (J b lv st h) (K lv st h) | _ => none)
    | 12 => (match st with | .ref _ :: st => K lv st h | .null :: st => J b lv st h | _ => none)
    | 13 => (match st with | .ref _ :: st => J b lv st h | .null :: st => K lv st h | _ => none)
    | 14 => J b lv st h
    | 15 => (match st with | .int y :: st => swt (fun t => J t lv st h) b y ts v | _ => none)
    | 16 => (match st with | .int y :: st => swl (fun t => J t lv st h) b y ts | _ => none)
    | 17 => (match st with | .ref k :: st => gI h k a b (fun y => K lv (.int y :: st) h) | _ => none)
    | 18 => (match st with | .ref k :: st => gR h k a b (K lv (.null :: st) h) (fun q => K lv (.ref q :: st) h) | _ => none)
    | 19 => (match st with | .int y :: .ref k :: st => pF h k a b (.int y) (fun h => K lv st h) | _ => none)
    | 20 => (match st with | .int y :: .ref k :: st => if y = 0 ∨ y = 1 then pF h k a b (.int y) (fun h => K lv st h) else none | _ => none)
    | 21 => (match st with | .ref q :: .ref k :: st => pF h k a b (.ref q) (fun h => K lv st h) | _ => none)
    | 22 => (match st with | .int y :: .ref k :: st => aI ro h k a y (fun z => K lv (.int z :: st) h) | _ => none)
    | 23 => (match st with | .int y :: .ref k :: st => aR h k y (K lv (.null :: st) h) (fun q => K lv (.ref q :: st) h) | _ => none)
    | 24 => (match st with | .int z :: .int y :: .ref k :: st => sI h k 0 y z (fun h => K lv st h) | _ => none)
    | 25 => (match st with | .int z :: .int y :: .ref k :: st => sI h k 1 y (vp_nar .boolean z) (fun h => K lv st h) | _ => none)
    | 26 => (match st with | .ref q :: .int y :: .ref k :: st => sR h k y q (fun h => K lv st h) | _ => none)
    | 27 => (match st with | .ref k :: st => aL ro h k (fun z => K lv (.int z :: st) h) | _ => none)
    | 28 => K lv (.ref (30000 + a) :: st) h
    | 29 => nO h a (clN a) (dfl a) (fun k h => K lv (.ref k :: st) h)
    | 30 => (match st with | .int y :: st => nA h a y (fun _ => 0) (fun k h => K lv (.ref k :: st) h) | _ => none)
    | 31 => (match st with | .int y :: st => nQ h a y (fun k h => K lv (.ref k :: st) h) | _ => none)
    | 32 => (match st with | y :: st => if y.category = 1 then K lv (y :: y :: st) h else none | _ => none)
    | 33 => (match st with | y :: z :: st => if y.category = 1 ∧ z.category = 1 then K lv (y :: z :: y :: z :: st) h else none | _ => none)
    | 34 => (match st with | y :: st => if y.category = 1 then K lv st h else none | _ => none)
    | 35 => ivk st b x h (cI (C a (st.take b).reverse h) (fun y h => K lv (.int y :: st.drop b) h))
    | 36 => ivk st b x h (cV (C a (st.take b).reverse h) (fun h => K lv (st.drop b) h))
    | 37 => ivk st b x h (cR (C a (st.take b).reverse h) (fun h => K lv (.null :: st.drop b) h) (fun q h => K lv (.ref q :: st.drop b) h))
    | 38 => (match st with | [] => some (none, h) | _ => none)
    | 39 => (match st with | [.int y] => some (some (.int y), h) | _ => none)
    | 40 => (match st with | [.int y] => if y = 0 ∨ y = 1 then some (some (.int y), h) else none | _ => none)
    | 41 => (match st with | [.ref q] => some (some (.ref q), h) | [.null] => some (some .null, h) | _ => none)
    | 42 => K lv (.null :: st) h
    | 43 => (match st with | .ref _ :: st => if st.length ≤ 4 then K lv st h else none | _ => none)
    | 44 => (match st with | .int n :: .int dp :: .ref q :: .int sp :: .ref k :: st => if st.length ≤ 4 then cpA h k sp q dp n (fun h => K lv st h) else none | _ => none)
    | 45 => J b lv st h
    | 46 => (match st with | .ref k :: st => if st.length ≤ 4 then clA h k (fun q h => K lv (.ref q :: st) h) else none | _ => none)
    | 47 => (match st with | .ref k :: st => if isA h k then K lv (.ref k :: st) h else none | _ => none)
    | _ => none
def run (ro : RO) (J : Nat → PL → List Value → PH → PR) (C : Nat → List Value → PH → PR) : List PI → PL → List Value → PH → PR
  | [], _, _, _ => none
  | i :: is, lv, st, h => step ro J C i lv st h (run ro J C is)
def pget : List (Nat × List PI) → Nat → List PI
  | [], _ => []
  | (k, b) :: r, t => if k = t then b else pget r t
def EXn (ro : RO) (B : List (Nat × List PI)) (C : Nat → List Value → PH → PR) : Nat → Nat → PL → List Value → PH → PR
  | 0 => fun _ _ _ _ => none
  | n + 1 => fun t lv st h => run ro (EXn ro B C n) C (pget B t) lv st h
def entry (nL : Nat) (as : List Value) : PL := as.map some ++ List.replicate (nL - as.length) none
/-- a call at most d deep; F: how many blocks a method may run through -/
def CALL (ro : RO) (P : Nat → List (Nat × List PI)) (mL : Nat → Nat) (F : Nat) : Nat → Nat → List Value → PH → PR
  | 0 => fun _ _ _ => none
  | d + 1 => fun M as h => if as.length ≤ mL M ∧ as.all (fun v => v.category == 1) = true then EXn ro (P M) (CALL ro P mL F d) F 0 (entry (mL M) as) [] h else none
/-! what is made stays made -/
def PLe (h h' : PH) : Prop := h.2.2.1 <+: h'.2.2.1 ∧ h.2.2.2 ≤ h'.2.2.2
theorem PLe.rf (h : PH) : PLe h h := ⟨List.prefix_refl _, Nat.le_refl _⟩
theorem PLe.tr {a b c : PH} (h1 : PLe a b) (h2 : PLe b c) : PLe a c := ⟨h1.1.trans h2.1, Nat.le_trans h1.2 h2.2⟩
theorem PLe.put (h : PH) (k : Nat) (e : PE) : PLe h (ph_put h k e) := PLe.rf h
theorem PLe.add (h : PH) (k kind n : Nat) (e : PE) : PLe h (ph_add h k kind n e) := ⟨List.prefix_append _ _, Nat.le_add_right _ _⟩
