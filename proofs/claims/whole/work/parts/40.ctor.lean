/-! THE CONSTRUCTORS (printed by wip/whole/gen_ctor.py) -/
def hc0 : PH := (fun _ => none, fun c => if c < 12 ∨ c = 20 then 0 else 1, [], 0)
theorem nO_e {h : PH} {ci n : Nat} {K : Nat → PH → PR} (h1 : h.2.1 ci = n) (h2 : h.1 (1000 * ci + n) = none) (h3 : 1000 * ci + n < 20000) : nO h ci (clN ci) (dfl ci) K = K (1000 * ci + n) (ph_add h (1000 * ci + n) ci (clN ci) (.inr (.inr (ci, dfl ci)))) := by
  unfold nO
  rw [h1, h2, if_pos ⟨rfl, h3⟩]
theorem nA_e {h : PH} {n tg : Nat} {m : Int32} {w : Nat} {f : Nat → Int32} {K : Nat → PH → PR} (h1 : h.2.1 20 = n) (h2 : h.1 (20000 + n) = none) (h3 : n < 9999) (hm : m = nI w) (hw : w ≤ 100000) : nA h tg m f K = K (20000 + n) (ph_add h (20000 + n) 20 w (.inl (tg, w, f))) := by
  subst hm
  unfold nA
  rw [h1, h2, nI_clamp (by omega), if_pos ⟨rfl, by omega, nI_pos (by omega), hw⟩]
theorem nQ_e {h : PH} {n tg : Nat} {m : Int32} {w : Nat} {K : Nat → PH → PR} (h1 : h.2.1 20 = n) (h2 : h.1 (20000 + n) = none) (h3 : n < 9999) (hm : m = nI w) (hw : w ≤ 100000) : nQ h tg m K = K (20000 + n) (ph_add h (20000 + n) 20 w (.inr (.inl (tg, w, fun _ => none)))) := by
  subst hm
  unfold nQ
  rw [h1, h2, nI_clamp (by omega), if_pos ⟨rfl, by omega, nI_pos (by omega), hw⟩]
theorem pF_e {h h' : PH} {k c j : Nat} {fs : List Value} {v : Value} {K : PH → PR} (h1 : h.1 k = some (.inr (.inr (c, fs)))) (h2 : j < fs.length) (h3 : ph_put h k (.inr (.inr (c, fs.set j v))) = h') : pF h k c j v K = K h' := by
  unfold pF
  rw [h1]
  simp only [true_and, if_pos h2, h3]
theorem vO_e {h : PH} {k c : Nat} {fs : List Value} {K : PR} (h1 : h.1 k = some (.inr (.inr (c, fs)))) : vO h (some (.ref k)) c K = K := by
  have : isO h (some (.ref k)) c = true := by
    show (match h.1 k with | some (.inr (.inr (c', _))) => c' == c | _ => false) = true
    rw [h1]
    simp
  unfold vO
  rw [if_pos this]
theorem gR_e {h : PH} {k c j q : Nat} {fs : List Value} {X : PR} {K : Nat → PR} (h1 : h.1 k = some (.inr (.inr (c, fs)))) (h2 : fs[j]? = some (.ref q)) : gR h k c j X K = K q := by
  unfold gR
  rw [h1]
  simp only [if_pos, h2]
theorem aR_e {h : PH} {k t n q i : Nat} {g : Nat → Option Nat} {X : PR} {K : Nat → PR} (h1 : h.1 k = some (.inr (.inl (t, n, g)))) (hi : i < n) (hn : n < 2 ^ 31) (h2 : g i = some q) : aR h k (nI i) X K = K q := by
  unfold aR
  rw [h1]
  show (if ¬ (nI i < 0 ∨ n ≤ (nI i).toNatClampNeg) then (match g (nI i).toNatClampNeg with | none => X | some q => K q) else none) = _
  rw [if_pos (show ¬ (nI i < 0 ∨ n ≤ (nI i).toNatClampNeg) from vp_in_nI hi hn), nI_clamp (by omega), h2]
theorem sR_e {h h' : PH} {k c n q i : Nat} {g : Nat → Option Nat} {fs : List Value} {K : PH → PR} (h1 : h.1 k = some (.inr (.inl (10 + c, n, g)))) (h2 : h.1 q = some (.inr (.inr (c, fs)))) (hi : i < n) (hn : n < 2 ^ 31) (h3 : ph_put h k (.inr (.inl (10 + c, n, va_up g i (some q)))) = h') : sR h k (nI i) q K = K h' := by
  unfold sR
  rw [h1, h2]
  show (if 10 + c = 10 + c ∧ ¬ (nI i < 0 ∨ n ≤ (nI i).toNatClampNeg) then _ else none) = _
  rw [if_pos ⟨rfl, vp_in_nI hi hn⟩, nI_clamp (by omega), h3]
theorem sI_e {h h' : PH} {k tg n i : Nat} {v : Int32} {f : Nat → Int32} {K : PH → PR} (h1 : h.1 k = some (.inl (tg, n, f))) (hi : i < n) (hn : n < 2 ^ 31) (h3 : ph_put h k (.inl (tg, n, upd f i v)) = h') : sI h k tg (nI i) v K = K h' := by
  unfold sI
  rw [h1]
  show (if tg = tg ∧ ¬ (nI i < 0 ∨ n ≤ (nI i).toNatClampNeg) then _ else none) = _
  rw [if_pos ⟨rfl, vp_in_nI hi hn⟩, nI_clamp (by omega), h3]
section CTOR
variable {L : Nat} {xs : Nat → Int32} {N d : Nat}
def hc1 : PH := ph_add hc0 10000 10 18 (.inr (.inr (10, [.null, .null, .null, .null, .null, .null, .null, .null, .null, .null, .null, .null, .null, .int 0, .int 0, .int 0, .int 0, .int 0])))
set_option maxRecDepth 100000 in
theorem zt1 {K : Nat → PH → PR} : nO hc0 10 (clN 10) (dfl 10) K = K 10000 hc1 := nO_e (n := 0) rfl rfl (by decide)
set_option maxRecDepth 100000 in
theorem zt2 {K : PR} : vO hc1 (some (.ref 10000)) 10 K = K := vO_e (fs := [.null, .null, .null, .null, .null, .null, .null, .null, .null, .null, .null, .null, .null, .int 0, .int 0, .int 0, .int 0, .int 0]) rfl
def hc2 : PH := ph_add hc1 2000 2 4 (.inr (.inr (2, [.null, .null, .null, .null])))
set_option maxRecDepth 100000 in
theorem zt3 {K : Nat → PH → PR} : nO hc1 2 (clN 2) (dfl 2) K = K 2000 hc2 := nO_e (n := 0) rfl rfl (by decide)
set_option maxRecDepth 100000 in
theorem zt4 {K : PR} : vO hc2 (some (.ref 2000)) 2 K = K := vO_e (fs := [.null, .null, .null, .null]) rfl
def hc3 : PH := ph_add hc2 20000 20 64 (.inl (0, 64, (fun _ => 0)))
set_option maxRecDepth 100000 in
theorem zt5 {K : Nat → PH → PR} : nA hc2 0 64 (fun _ => 0) K = K 20000 hc3 := nA_e (n := 0) (w := 64) rfl rfl (by decide) rfl (by decide)
def hc4 : PH := ph_put hc3 2000 (.inr (.inr (2, [.ref 20000, .null, .null, .null])))
set_option maxRecDepth 100000 in
theorem zt6 {K : PH → PR} : pF hc3 2000 2 0 (.ref 20000) K = K hc4 := pF_e (fs := [.null, .null, .null, .null]) rfl (Nat.lt_of_sub_pos (by decide)) rfl
def hc5 : PH := ph_add hc4 20001 20 64 (.inl (0, 64, (fun _ => 0)))
set_option maxRecDepth 100000 in
theorem zt7 {K : Nat → PH → PR} : nA hc4 0 64 (fun _ => 0) K = K 20001 hc5 := nA_e (n := 1) (w := 64) rfl rfl (by decide) rfl (by decide)
def hc6 : PH := ph_put hc5 2000 (.inr (.inr (2, [.ref 20000, .ref 20001, .null, .null])))
set_option maxRecDepth 100000 in
theorem zt8 {K : PH → PR} : pF hc5 2000 2 1 (.ref 20001) K = K hc6 := pF_e (fs := [.ref 20000, .null, .null, .null]) rfl (Nat.lt_of_sub_pos (by decide)) rfl
def hc7 : PH := ph_add hc6 20002 20 64 (.inl (0, 64, (fun _ => 0)))
set_option maxRecDepth 100000 in
theorem zt9 {K : Nat → PH → PR} : nA hc6 0 64 (fun _ => 0) K = K 20002 hc7 := nA_e (n := 2) (w := 64) rfl rfl (by decide) rfl (by decide)
def hc8 : PH := ph_put hc7 2000 (.inr (.inr (2, [.ref 20000, .ref 20001, .ref 20002, .null])))
set_option maxRecDepth 100000 in
theorem zt10 {K : PH → PR} : pF hc7 2000 2 2 (.ref 20002) K = K hc8 := pF_e (fs := [.ref 20000, .ref 20001, .null, .null]) rfl (Nat.lt_of_sub_pos (by decide)) rfl
def hc9 : PH := ph_add hc8 20003 20 64 (.inl (0, 64, (fun _ => 0)))
set_option maxRecDepth 100000 in
theorem zt11 {K : Nat → PH → PR} : nA hc8 0 64 (fun _ => 0) K = K 20003 hc9 := nA_e (n := 3) (w := 64) rfl rfl (by decide) rfl (by decide)
def hc10 : PH := ph_put hc9 2000 (.inr (.inr (2, [.ref 20000, .ref 20001, .ref 20002, .ref 20003])))
set_option maxRecDepth 100000 in
theorem zt12 {K : PH → PR} : pF hc9 2000 2 3 (.ref 20003) K = K hc10 := pF_e (fs := [.ref 20000, .ref 20001, .ref 20002, .null]) rfl (Nat.lt_of_sub_pos (by decide)) rfl
set_option maxRecDepth 100000 in
theorem zk8 : CALL (roL L xs) mP mL (N + 5050) (d + 1) 8 [.ref 2000] hc2 = some (none, hc10) := by
  rw [m8, zt5, zt6, zt7, zt8, zt9, zt10, zt11, zt12]
def hc11 : PH := ph_put hc10 10000 (.inr (.inr (10, [.ref 2000, .null, .null, .null, .null, .null, .null, .null, .null, .null, .null, .null, .null, .int 0, .int 0, .int 0, .int 0, .int 0])))
set_option maxRecDepth 100000 in
theorem zt13 {K : PH → PR} : pF hc10 10000 10 0 (.ref 2000) K = K hc11 := pF_e (fs := [.null, .null, .null, .null, .null, .null, .null, .null, .null, .null, .null, .null, .null, .int 0, .int 0, .int 0, .int 0, .int 0]) rfl (Nat.lt_of_sub_pos (by decide)) rfl
def hc12 : PH := ph_add hc11 1000 1 2 (.inr (.inr (1, [.null, .null])))
set_option maxRecDepth 100000 in
theorem zt14 {K : Nat → PH → PR} : nO hc11 1 (clN 1) (dfl 1) K = K 1000 hc12 := nO_e (n := 0) rfl rfl (by decide)
set_option maxRecDepth 100000 in
theorem zt15 {K : PR} : vO hc12 (some (.ref 1000)) 1 K = K := vO_e (fs := [.null, .null]) rfl
def hc13 : PH := ph_add hc12 20004 20 200 (.inl (0, 200, (fun _ => 0)))
set_option maxRecDepth 100000 in
theorem zt16 {K : Nat → PH → PR} : nA hc12 0 200 (fun _ => 0) K = K 20004 hc13 := nA_e (n := 4) (w := 200) rfl rfl (by decide) rfl (by decide)
def hc14 : PH := ph_put hc13 1000 (.inr (.inr (1, [.ref 20004, .null])))
set_option maxRecDepth 100000 in
theorem zt17 {K : PH → PR} : pF hc13 1000 1 0 (.ref 20004) K = K hc14 := pF_e (fs := [.null, .null]) rfl (Nat.lt_of_sub_pos (by decide)) rfl
def hc15 : PH := ph_add hc14 20005 20 200 (.inl (0, 200, (fun _ => 0)))
set_option maxRecDepth 100000 in
theorem zt18 {K : Nat → PH → PR} : nA hc14 0 200 (fun _ => 0) K = K 20005 hc15 := nA_e (n := 5) (w := 200) rfl rfl (by decide) rfl (by decide)
def hc16 : PH := ph_put hc15 1000 (.inr (.inr (1, [.ref 20004, .ref 20005])))
set_option maxRecDepth 100000 in
theorem zt19 {K : PH → PR} : pF hc15 1000 1 1 (.ref 20005) K = K hc16 := pF_e (fs := [.ref 20004, .null]) rfl (Nat.lt_of_sub_pos (by decide)) rfl
set_option maxRecDepth 100000 in
theorem zt20 {X : PR} {K : Nat → PR} : gR hc16 1000 1 1 X K = K 20005 := gR_e (fs := [.ref 20004, .ref 20005]) rfl rfl
def hc17 : PH := ph_put hc16 20005 (.inl (0, 200, (fun j => if j < 200 then -1 else 0)))
set_option maxRecDepth 100000 in
theorem zf : CALL (roL L xs) mP mL (N + 5050) (d + 1) 222 [.ref 20005, .int (-1)] hc16 = some (none, hc17) := s222 (n := 200) (f := fun _ => 0) (by decide) (by decide) rfl
set_option maxRecDepth 100000 in
theorem zk4 : CALL (roL L xs) mP mL (N + 5050) (d + 2) 4 [.ref 1000] hc12 = some (none, hc17) := by
  rw [m4, zt16, zt17, zt18, zt19, zt20, zf, cV_s]
def hc18 : PH := ph_put hc17 10000 (.inr (.inr (10, [.ref 2000, .ref 1000, .null, .null, .null, .null, .null, .null, .null, .null, .null, .null, .null, .int 0, .int 0, .int 0, .int 0, .int 0])))
set_option maxRecDepth 100000 in
theorem zt21 {K : PH → PR} : pF hc17 10000 10 1 (.ref 1000) K = K hc18 := pF_e (fs := [.ref 2000, .null, .null, .null, .null, .null, .null, .null, .null, .null, .null, .null, .null, .int 0, .int 0, .int 0, .int 0, .int 0]) rfl (Nat.lt_of_sub_pos (by decide)) rfl
def hc19 : PH := ph_add hc18 20006 20 2 (.inr (.inl (14, 2, (fun _ => none))))
set_option maxRecDepth 100000 in
theorem zt22 {K : Nat → PH → PR} : nQ hc18 14 2 K = K 20006 hc19 := nQ_e (n := 6) (w := 2) rfl rfl (by decide) rfl (by decide)
def hc20 : PH := ph_put hc19 10000 (.inr (.inr (10, [.ref 2000, .ref 1000, .ref 20006, .null, .null, .null, .null, .null, .null, .null, .null, .null, .null, .int 0, .int 0, .int 0, .int 0, .int 0])))
set_option maxRecDepth 100000 in
theorem zt23 {K : PH → PR} : pF hc19 10000 10 2 (.ref 20006) K = K hc20 := pF_e (fs := [.ref 2000, .ref 1000, .null, .null, .null, .null, .null, .null, .null, .null, .null, .null, .null, .int 0, .int 0, .int 0, .int 0, .int 0]) rfl (Nat.lt_of_sub_pos (by decide)) rfl
set_option maxRecDepth 100000 in
theorem zt24 {X : PR} {K : Nat → PR} : gR hc20 10000 10 2 X K = K 20006 := gR_e (fs := [.ref 2000, .ref 1000, .ref 20006, .null, .null, .null, .null, .null, .null, .null, .null, .null, .null, .int 0, .int 0, .int 0, .int 0, .int 0]) rfl rfl
def hc21 : PH := ph_add hc20 4000 4 10 (.inr (.inr (4, [.int 0, .int 0, .int 0, .int 0, .int 0, .int 0, .int 0, .int 0, .int 0, .null])))
set_option maxRecDepth 100000 in
theorem zt25 {K : Nat → PH → PR} : nO hc20 4 (clN 4) (dfl 4) K = K 4000 hc21 := nO_e (n := 0) rfl rfl (by decide)
set_option maxRecDepth 100000 in
theorem zt26 {K : PR} : vO hc21 (some (.ref 4000)) 4 K = K := vO_e (fs := [.int 0, .int 0, .int 0, .int 0, .int 0, .int 0, .int 0, .int 0, .int 0, .null]) rfl
def hc22 : PH := ph_put hc21 4000 (.inr (.inr (4, [.int 0, .int 0, .int 0, .int 0, .int 0, .int 0, .int 0, .int 0, .int 0, .null])))
set_option maxRecDepth 100000 in
theorem zt27 {K : PH → PR} : pF hc21 4000 4 4 (.int 0) K = K hc22 := pF_e (fs := [.int 0, .int 0, .int 0, .int 0, .int 0, .int 0, .int 0, .int 0, .int 0, .null]) rfl (Nat.lt_of_sub_pos (by decide)) rfl
def hc23 : PH := ph_put hc22 4000 (.inr (.inr (4, [.int 0, .int 0, .int 0, .int 0, .int 0, .int (-300), .int 0, .int 0, .int 0, .null])))
set_option maxRecDepth 100000 in
theorem zt28 {K : PH → PR} : pF hc22 4000 4 5 (.int (-300)) K = K hc23 := pF_e (fs := [.int 0, .int 0, .int 0, .int 0, .int 0, .int 0, .int 0, .int 0, .int 0, .null]) rfl (Nat.lt_of_sub_pos (by decide)) rfl
def hc24 : PH := ph_put hc23 4000 (.inr (.inr (4, [.int 0, .int 0, .int 0, .int 0, .int 0, .int (-300), .int 0, .int 0, .int (-1), .null])))
set_option maxRecDepth 100000 in
theorem zt29 {K : PH → PR} : pF hc23 4000 4 8 (.int (-1)) K = K hc24 := pF_e (fs := [.int 0, .int 0, .int 0, .int 0, .int 0, .int (-300), .int 0, .int 0, .int 0, .null]) rfl (Nat.lt_of_sub_pos (by decide)) rfl
def hc25 : PH := ph_add hc24 20007 20 200 (.inr (.inl (17, 200, (fun _ => none))))
set_option maxRecDepth 100000 in
theorem zt30 {K : Nat → PH → PR} : nQ hc24 17 200 K = K 20007 hc25 := nQ_e (n := 7) (w := 200) rfl rfl (by decide) rfl (by decide)
def hc26 : PH := ph_put hc25 4000 (.inr (.inr (4, [.int 0, .int 0, .int 0, .int 0, .int 0, .int (-300), .int 0, .int 0, .int (-1), .ref 20007])))
set_option maxRecDepth 100000 in
theorem zt31 {K : PH → PR} : pF hc25 4000 4 9 (.ref 20007) K = K hc26 := pF_e (fs := [.int 0, .int 0, .int 0, .int 0, .int 0, .int (-300), .int 0, .int 0, .int (-1), .null]) rfl (Nat.lt_of_sub_pos (by decide)) rfl
set_option maxRecDepth 100000 in
theorem zk10_0 : CALL (roL L xs) mP mL (N + 5050) (d + 1) 10 [.ref 4000] hc21 = some (none, hc26) := by
  rw [m10, zt27, zt28, zt29, zt30, zt31]
def hc27 : PH := ph_put hc26 20006 (.inr (.inl (14, 2, (va_up (fun _ => none) 0 (some 4000)))))
set_option maxRecDepth 100000 in
theorem zt32 {K : PH → PR} : sR hc26 20006 0 4000 K = K hc27 := sR_e (c := 4) (n := 2) (i := 0) (g := (fun _ => none)) (fs := [.int 0, .int 0, .int 0, .int 0, .int 0, .int (-300), .int 0, .int 0, .int (-1), .ref 20007]) rfl rfl (by decide) (by decide) rfl
set_option maxRecDepth 100000 in
theorem zt33 {X : PR} {K : Nat → PR} : gR hc27 10000 10 2 X K = K 20006 := gR_e (fs := [.ref 2000, .ref 1000, .ref 20006, .null, .null, .null, .null, .null, .null, .null, .null, .null, .null, .int 0, .int 0, .int 0, .int 0, .int 0]) rfl rfl
def hc28 : PH := ph_add hc27 4001 4 10 (.inr (.inr (4, [.int 0, .int 0, .int 0, .int 0, .int 0, .int 0, .int 0, .int 0, .int 0, .null])))
set_option maxRecDepth 100000 in
theorem zt34 {K : Nat → PH → PR} : nO hc27 4 (clN 4) (dfl 4) K = K 4001 hc28 := nO_e (n := 1) rfl rfl (by decide)
set_option maxRecDepth 100000 in
theorem zt35 {K : PR} : vO hc28 (some (.ref 4001)) 4 K = K := vO_e (fs := [.int 0, .int 0, .int 0, .int 0, .int 0, .int 0, .int 0, .int 0, .int 0, .null]) rfl
def hc29 : PH := ph_put hc28 4001 (.inr (.inr (4, [.int 0, .int 0, .int 0, .int 0, .int 0, .int 0, .int 0, .int 0, .int 0, .null])))
set_option maxRecDepth 100000 in
theorem zt36 {K : PH → PR} : pF hc28 4001 4 4 (.int 0) K = K hc29 := pF_e (fs := [.int 0, .int 0, .int 0, .int 0, .int 0, .int 0, .int 0, .int 0, .int 0, .null]) rfl (Nat.lt_of_sub_pos (by decide)) rfl
def hc30 : PH := ph_put hc29 4001 (.inr (.inr (4, [.int 0, .int 0, .int 0, .int 0, .int 0, .int (-300), .int 0, .int 0, .int 0, .null])))
set_option maxRecDepth 100000 in
theorem zt37 {K : PH → PR} : pF hc29 4001 4 5 (.int (-300)) K = K hc30 := pF_e (fs := [.int 0, .int 0, .int 0, .int 0, .int 0, .int 0, .int 0, .int 0, .int 0, .null]) rfl (Nat.lt_of_sub_pos (by decide)) rfl
def hc31 : PH := ph_put hc30 4001 (.inr (.inr (4, [.int 0, .int 0, .int 0, .int 0, .int 0, .int (-300), .int 0, .int 0, .int (-1), .null])))
set_option maxRecDepth 100000 in
theorem zt38 {K : PH → PR} : pF hc30 4001 4 8 (.int (-1)) K = K hc31 := pF_e (fs := [.int 0, .int 0, .int 0, .int 0, .int 0, .int (-300), .int 0, .int 0, .int 0, .null]) rfl (Nat.lt_of_sub_pos (by decide)) rfl
def hc32 : PH := ph_add hc31 20008 20 200 (.inr (.inl (17, 200, (fun _ => none))))
set_option maxRecDepth 100000 in
theorem zt39 {K : Nat → PH → PR} : nQ hc31 17 200 K = K 20008 hc32 := nQ_e (n := 8) (w := 200) rfl rfl (by decide) rfl (by decide)
def hc33 : PH := ph_put hc32 4001 (.inr (.inr (4, [.int 0, .int 0, .int 0, .int 0, .int 0, .int (-300), .int 0, .int 0, .int (-1), .ref 20008])))
set_option maxRecDepth 100000 in
theorem zt40 {K : PH → PR} : pF hc32 4001 4 9 (.ref 20008) K = K hc33 := pF_e (fs := [.int 0, .int 0, .int 0, .int 0, .int 0, .int (-300), .int 0, .int 0, .int (-1), .null]) rfl (Nat.lt_of_sub_pos (by decide)) rfl
set_option maxRecDepth 100000 in
theorem zk10_1 : CALL (roL L xs) mP mL (N + 5050) (d + 1) 10 [.ref 4001] hc28 = some (none, hc33) := by
  rw [m10, zt36, zt37, zt38, zt39, zt40]
def hc34 : PH := ph_put hc33 20006 (.inr (.inl (14, 2, (va_up (va_up (fun _ => none) 0 (some 4000)) 1 (some 4001)))))
set_option maxRecDepth 100000 in
theorem zt41 {K : PH → PR} : sR hc33 20006 1 4001 K = K hc34 := sR_e (c := 4) (n := 2) (i := 1) (g := (va_up (fun _ => none) 0 (some 4000))) (fs := [.int 0, .int 0, .int 0, .int 0, .int 0, .int (-300), .int 0, .int 0, .int (-1), .ref 20008]) rfl rfl (by decide) (by decide) rfl
def hc35 : PH := ph_add hc34 9000 9 5 (.inr (.inr (9, [.null, .null, .int 0, .null, .null])))
set_option maxRecDepth 100000 in
theorem zt42 {K : Nat → PH → PR} : nO hc34 9 (clN 9) (dfl 9) K = K 9000 hc35 := nO_e (n := 0) rfl rfl (by decide)
set_option maxRecDepth 100000 in
theorem zt43 {X : PR} {K : Nat → PR} : gR hc35 10000 10 0 X K = K 2000 := gR_e (fs := [.ref 2000, .ref 1000, .ref 20006, .null, .null, .null, .null, .null, .null, .null, .null, .null, .null, .int 0, .int 0, .int 0, .int 0, .int 0]) rfl rfl
set_option maxRecDepth 100000 in
theorem zt44 {X : PR} {K : Nat → PR} : gR hc35 10000 10 2 X K = K 20006 := gR_e (fs := [.ref 2000, .ref 1000, .ref 20006, .null, .null, .null, .null, .null, .null, .null, .null, .null, .null, .int 0, .int 0, .int 0, .int 0, .int 0]) rfl rfl
set_option maxRecDepth 100000 in
theorem zt45 {X : PR} {K : Nat → PR} : aR hc35 20006 0 X K = K 4000 := aR_e (i := 0) (g := (va_up (va_up (fun _ => none) 0 (some 4000)) 1 (some 4001))) rfl (by decide) (by decide) rfl
set_option maxRecDepth 100000 in
theorem zt46 {K : PR} : vO hc35 (some (.ref 9000)) 9 K = K := vO_e (fs := [.null, .null, .int 0, .null, .null]) rfl
def hc36 : PH := ph_add hc35 20009 20 201 (.inl (0, 201, (fun _ => 0)))
set_option maxRecDepth 100000 in
theorem zt47 {K : Nat → PH → PR} : nA hc35 0 201 (fun _ => 0) K = K 20009 hc36 := nA_e (n := 9) (w := 201) rfl rfl (by decide) rfl (by decide)
def hc37 : PH := ph_put hc36 9000 (.inr (.inr (9, [.null, .null, .int 0, .ref 20009, .null])))
set_option maxRecDepth 100000 in
theorem zt48 {K : PH → PR} : pF hc36 9000 9 3 (.ref 20009) K = K hc37 := pF_e (fs := [.null, .null, .int 0, .null, .null]) rfl (Nat.lt_of_sub_pos (by decide)) rfl
def hc38 : PH := ph_add hc37 20010 20 201 (.inl (0, 201, (fun _ => 0)))
set_option maxRecDepth 100000 in
theorem zt49 {K : Nat → PH → PR} : nA hc37 0 201 (fun _ => 0) K = K 20010 hc38 := nA_e (n := 10) (w := 201) rfl rfl (by decide) rfl (by decide)
def hc39 : PH := ph_put hc38 9000 (.inr (.inr (9, [.null, .null, .int 0, .ref 20009, .ref 20010])))
set_option maxRecDepth 100000 in
theorem zt50 {K : PH → PR} : pF hc38 9000 9 4 (.ref 20010) K = K hc39 := pF_e (fs := [.null, .null, .int 0, .ref 20009, .null]) rfl (Nat.lt_of_sub_pos (by decide)) rfl
def hc40 : PH := ph_put hc39 9000 (.inr (.inr (9, [.ref 2000, .null, .int 0, .ref 20009, .ref 20010])))
set_option maxRecDepth 100000 in
theorem zt51 {K : PH → PR} : pF hc39 9000 9 0 (.ref 2000) K = K hc40 := pF_e (fs := [.null, .null, .int 0, .ref 20009, .ref 20010]) rfl (Nat.lt_of_sub_pos (by decide)) rfl
def hc41 : PH := ph_put hc40 9000 (.inr (.inr (9, [.ref 2000, .ref 4000, .int 0, .ref 20009, .ref 20010])))
set_option maxRecDepth 100000 in
theorem zt52 {K : PH → PR} : pF hc40 9000 9 1 (.ref 4000) K = K hc41 := pF_e (fs := [.ref 2000, .null, .int 0, .ref 20009, .ref 20010]) rfl (Nat.lt_of_sub_pos (by decide)) rfl
set_option maxRecDepth 100000 in
theorem zk40 : CALL (roL L xs) mP mL (N + 5050) (d + 1) 40 [.ref 9000, .ref 2000, .ref 4000] hc35 = some (none, hc41) := by
  rw [m40, zt47, zt48, zt49, zt50, zt51, zt52]
def hc42 : PH := ph_put hc41 10000 (.inr (.inr (10, [.ref 2000, .ref 1000, .ref 20006, .ref 9000, .null, .null, .null, .null, .null, .null, .null, .null, .null, .int 0, .int 0, .int 0, .int 0, .int 0])))
set_option maxRecDepth 100000 in
theorem zt53 {K : PH → PR} : pF hc41 10000 10 3 (.ref 9000) K = K hc42 := pF_e (fs := [.ref 2000, .ref 1000, .ref 20006, .null, .null, .null, .null, .null, .null, .null, .null, .null, .null, .int 0, .int 0, .int 0, .int 0, .int 0]) rfl (Nat.lt_of_sub_pos (by decide)) rfl
def hc43 : PH := ph_add hc42 20011 20 120 (.inr (.inl (17, 120, (fun _ => none))))
set_option maxRecDepth 100000 in
theorem zt54 {K : Nat → PH → PR} : nQ hc42 17 120 K = K 20011 hc43 := nQ_e (n := 11) (w := 120) rfl rfl (by decide) rfl (by decide)
def hc44 : PH := ph_put hc43 10000 (.inr (.inr (10, [.ref 2000, .ref 1000, .ref 20006, .ref 9000, .ref 20011, .null, .null, .null, .null, .null, .null, .null, .null, .int 0, .int 0, .int 0, .int 0, .int 0])))
set_option maxRecDepth 100000 in
theorem zt55 {K : PH → PR} : pF hc43 10000 10 4 (.ref 20011) K = K hc44 := pF_e (fs := [.ref 2000, .ref 1000, .ref 20006, .ref 9000, .null, .null, .null, .null, .null, .null, .null, .null, .null, .int 0, .int 0, .int 0, .int 0, .int 0]) rfl (Nat.lt_of_sub_pos (by decide)) rfl
def hc45 : PH := ph_add hc44 20012 20 12 (.inl (0, 12, (fun _ => 0)))
set_option maxRecDepth 100000 in
theorem zt56 {K : Nat → PH → PR} : nA hc44 0 12 (fun _ => 0) K = K 20012 hc45 := nA_e (n := 12) (w := 12) rfl rfl (by decide) rfl (by decide)
def hc46 : PH := ph_put hc45 10000 (.inr (.inr (10, [.ref 2000, .ref 1000, .ref 20006, .ref 9000, .ref 20011, .ref 20012, .null, .null, .null, .null, .null, .null, .null, .int 0, .int 0, .int 0, .int 0, .int 0])))
set_option maxRecDepth 100000 in
theorem zt57 {K : PH → PR} : pF hc45 10000 10 5 (.ref 20012) K = K hc46 := pF_e (fs := [.ref 2000, .ref 1000, .ref 20006, .ref 9000, .ref 20011, .null, .null, .null, .null, .null, .null, .null, .null, .int 0, .int 0, .int 0, .int 0, .int 0]) rfl (Nat.lt_of_sub_pos (by decide)) rfl
def hc47 : PH := ph_add hc46 20013 20 12 (.inl (0, 12, (fun _ => 0)))
set_option maxRecDepth 100000 in
theorem zt58 {K : Nat → PH → PR} : nA hc46 0 12 (fun _ => 0) K = K 20013 hc47 := nA_e (n := 13) (w := 12) rfl rfl (by decide) rfl (by decide)
def hc48 : PH := ph_put hc47 10000 (.inr (.inr (10, [.ref 2000, .ref 1000, .ref 20006, .ref 9000, .ref 20011, .ref 20012, .ref 20013, .null, .null, .null, .null, .null, .null, .int 0, .int 0, .int 0, .int 0, .int 0])))
set_option maxRecDepth 100000 in
theorem zt59 {K : PH → PR} : pF hc47 10000 10 6 (.ref 20013) K = K hc48 := pF_e (fs := [.ref 2000, .ref 1000, .ref 20006, .ref 9000, .ref 20011, .ref 20012, .null, .null, .null, .null, .null, .null, .null, .int 0, .int 0, .int 0, .int 0, .int 0]) rfl (Nat.lt_of_sub_pos (by decide)) rfl
def hc49 : PH := ph_add hc48 20014 20 12 (.inr (.inl (13, 12, (fun _ => none))))
set_option maxRecDepth 100000 in
theorem zt60 {K : Nat → PH → PR} : nQ hc48 13 12 K = K 20014 hc49 := nQ_e (n := 14) (w := 12) rfl rfl (by decide) rfl (by decide)
def hc50 : PH := ph_put hc49 10000 (.inr (.inr (10, [.ref 2000, .ref 1000, .ref 20006, .ref 9000, .ref 20011, .ref 20012, .ref 20013, .ref 20014, .null, .null, .null, .null, .null, .int 0, .int 0, .int 0, .int 0, .int 0])))
set_option maxRecDepth 100000 in
theorem zt61 {K : PH → PR} : pF hc49 10000 10 7 (.ref 20014) K = K hc50 := pF_e (fs := [.ref 2000, .ref 1000, .ref 20006, .ref 9000, .ref 20011, .ref 20012, .ref 20013, .null, .null, .null, .null, .null, .null, .int 0, .int 0, .int 0, .int 0, .int 0]) rfl (Nat.lt_of_sub_pos (by decide)) rfl
def hc51 : PH := ph_add hc50 6000 6 5 (.inr (.inr (6, [.null, .null, .int 0, .int 0, .int 0])))
set_option maxRecDepth 100000 in
theorem zt62 {K : Nat → PH → PR} : nO hc50 6 (clN 6) (dfl 6) K = K 6000 hc51 := nO_e (n := 0) rfl rfl (by decide)
set_option maxRecDepth 100000 in
theorem zt63 {K : PR} : vO hc51 (some (.ref 6000)) 6 K = K := vO_e (fs := [.null, .null, .int 0, .int 0, .int 0]) rfl
def hc52 : PH := ph_add hc51 20015 20 9 (.inl (0, 9, (fun _ => 0)))
set_option maxRecDepth 100000 in
theorem zt64 {K : Nat → PH → PR} : nA hc51 0 9 (fun _ => 0) K = K 20015 hc52 := nA_e (n := 15) (w := 9) rfl rfl (by decide) rfl (by decide)
def hc53 : PH := ph_put hc52 6000 (.inr (.inr (6, [.ref 20015, .null, .int 0, .int 0, .int 0])))
set_option maxRecDepth 100000 in
theorem zt65 {K : PH → PR} : pF hc52 6000 6 0 (.ref 20015) K = K hc53 := pF_e (fs := [.null, .null, .int 0, .int 0, .int 0]) rfl (Nat.lt_of_sub_pos (by decide)) rfl
def hc54 : PH := ph_add hc53 20016 20 0 (.inl (0, 0, (fun _ => 0)))
set_option maxRecDepth 100000 in
theorem zt66 {K : Nat → PH → PR} : nA hc53 0 0 (fun _ => 0) K = K 20016 hc54 := nA_e (n := 16) (w := 0) rfl rfl (by decide) rfl (by decide)
def hc55 : PH := ph_put hc54 6000 (.inr (.inr (6, [.ref 20015, .ref 20016, .int 0, .int 0, .int 0])))
set_option maxRecDepth 100000 in
theorem zt67 {K : PH → PR} : pF hc54 6000 6 1 (.ref 20016) K = K hc55 := pF_e (fs := [.ref 20015, .null, .int 0, .int 0, .int 0]) rfl (Nat.lt_of_sub_pos (by decide)) rfl
set_option maxRecDepth 100000 in
theorem zk19 : CALL (roL L xs) mP mL (N + 5050) (d + 1) 19 [.ref 6000] hc51 = some (none, hc55) := by
  rw [m19, rol3, zt64, zt65, zt66, zt67]
def hc56 : PH := ph_put hc55 10000 (.inr (.inr (10, [.ref 2000, .ref 1000, .ref 20006, .ref 9000, .ref 20011, .ref 20012, .ref 20013, .ref 20014, .ref 6000, .null, .null, .null, .null, .int 0, .int 0, .int 0, .int 0, .int 0])))
set_option maxRecDepth 100000 in
theorem zt68 {K : PH → PR} : pF hc55 10000 10 8 (.ref 6000) K = K hc56 := pF_e (fs := [.ref 2000, .ref 1000, .ref 20006, .ref 9000, .ref 20011, .ref 20012, .ref 20013, .ref 20014, .null, .null, .null, .null, .null, .int 0, .int 0, .int 0, .int 0, .int 0]) rfl (Nat.lt_of_sub_pos (by decide)) rfl
def hc57 : PH := ph_add hc56 20017 20 80 (.inl (0, 80, (fun _ => 0)))
set_option maxRecDepth 100000 in
theorem zt69 {K : Nat → PH → PR} : nA hc56 0 80 (fun _ => 0) K = K 20017 hc57 := nA_e (n := 17) (w := 80) rfl rfl (by decide) rfl (by decide)
def hc58 : PH := ph_put hc57 10000 (.inr (.inr (10, [.ref 2000, .ref 1000, .ref 20006, .ref 9000, .ref 20011, .ref 20012, .ref 20013, .ref 20014, .ref 6000, .ref 20017, .null, .null, .null, .int 0, .int 0, .int 0, .int 0, .int 0])))
set_option maxRecDepth 100000 in
theorem zt70 {K : PH → PR} : pF hc57 10000 10 9 (.ref 20017) K = K hc58 := pF_e (fs := [.ref 2000, .ref 1000, .ref 20006, .ref 9000, .ref 20011, .ref 20012, .ref 20013, .ref 20014, .ref 6000, .null, .null, .null, .null, .int 0, .int 0, .int 0, .int 0, .int 0]) rfl (Nat.lt_of_sub_pos (by decide)) rfl
def hc59 : PH := ph_add hc58 5000 5 3 (.inr (.inr (5, [.null, .null, .int 0])))
set_option maxRecDepth 100000 in
theorem zt71 {K : Nat → PH → PR} : nO hc58 5 (clN 5) (dfl 5) K = K 5000 hc59 := nO_e (n := 0) rfl rfl (by decide)
set_option maxRecDepth 100000 in
theorem zt72 {K : PR} : vO hc59 (some (.ref 5000)) 5 K = K := vO_e (fs := [.null, .null, .int 0]) rfl
def hc60 : PH := ph_add hc59 20018 20 32 (.inl (0, 32, (fun _ => 0)))
set_option maxRecDepth 100000 in
theorem zt73 {K : Nat → PH → PR} : nA hc59 0 32 (fun _ => 0) K = K 20018 hc60 := nA_e (n := 18) (w := 32) rfl rfl (by decide) rfl (by decide)
def hc61 : PH := ph_put hc60 5000 (.inr (.inr (5, [.ref 20018, .null, .int 0])))
set_option maxRecDepth 100000 in
theorem zt74 {K : PH → PR} : pF hc60 5000 5 0 (.ref 20018) K = K hc61 := pF_e (fs := [.null, .null, .int 0]) rfl (Nat.lt_of_sub_pos (by decide)) rfl
def hc62 : PH := ph_add hc61 20019 20 320 (.inl (0, 320, (fun _ => 0)))
set_option maxRecDepth 100000 in
theorem zt75 {K : Nat → PH → PR} : nA hc61 0 320 (fun _ => 0) K = K 20019 hc62 := nA_e (n := 19) (w := 320) rfl rfl (by decide) rfl (by decide)
def hc63 : PH := ph_put hc62 5000 (.inr (.inr (5, [.ref 20018, .ref 20019, .int 0])))
set_option maxRecDepth 100000 in
theorem zt76 {K : PH → PR} : pF hc62 5000 5 1 (.ref 20019) K = K hc63 := pF_e (fs := [.ref 20018, .null, .int 0]) rfl (Nat.lt_of_sub_pos (by decide)) rfl
def uFz (i : Nat) : Nat → Int32 := fun j => if j < i then nI (pop (j % 64)) else 0
def hc64 : PH := ph_put hc63 20019 (.inl (0, 320, (uFz 320)))
set_option maxRecDepth 100000 in
theorem zl14 : ∀ (r i : Nat), i + r = 320 → EXn (roL L xs) p14 (CALL (roL L xs) mP mL (N + 5050) (d + 1)) (2 * (r + 1)) 23 [some (.ref 5000), some (.int (nI i))] [] (ph_put hc63 20019 (.inl (0, 320, uFz i))) = some (none, hc64)
  | 0, i, hi => by
    refine EXs_le (S := [23]) (n := 0) 2 23 _ _ _ ?_
    have : i = 320 := by omega
    subst this
    rw [l14_23, gR_e (fs := [.ref 20018, .ref 20019, .int 0]) (q := 20019) rfl rfl, aL_of (by decide) put_at, if_neg (show ¬ nI 320 < Int32.ofNat 320 from Int32.lt_irrefl)]
    rfl
  | r + 1, i, hi => by
    refine EXs_le (S := [23]) (n := 2 * (r + 1)) 2 23 _ _ _ ?_
    have hg : ∀ (X : PR) (K : Nat → PR), gR (ph_put hc63 20019 (.inl (0, 320, uFz i))) 5000 5 1 X K = K 20019 := fun X K => gR_e (fs := [.ref 20018, .ref 20019, .int 0]) rfl rfl
    have hm : nI i - nI i / 64 * 64 = nI (i % 64) := pk_rem (d := 64) (by omega) (by decide) (by decide)
    have hu : upd (uFz i) i (nI (pop (i % 64))) = uFz (i + 1) := by
      funext j
      unfold upd uFz
      by_cases hj : j = i
      · rw [if_pos hj, if_pos (by omega), hj]
      · rw [if_neg hj]
        have : j < i + 1 ↔ j < i := by omega
        simp only [this]
    rw [l14_23, hg, aL_of (by decide) put_at, if_pos (show nI i < Int32.ofNat 320 from nI_lt (b := 320) (by omega) (by decide)), hg, hm, s217 (show i % 64 < 64 from Nat.mod_lt _ (by decide)), cI_s, sI_e (i := i) (n := 320) (f := uFz i) (v := nI (pop (i % 64))) put_at (by omega) (by decide) rfl, put_put, hu, nI_1 i]
    exact zl14 r (i + 1) (by omega)
set_option maxRecDepth 100000 in
theorem ze14 : ph_put hc63 20019 (.inl (0, 320, uFz 0)) = hc63 := by
  rw [show uFz 0 = (fun _ => 0) from funext fun j => if_neg (Nat.not_lt_zero j)]
  exact put_self rfl
set_option maxRecDepth 100000 in
theorem zk14 : CALL (roL L xs) mP mL (N + 5050) (d + 2) 14 [.ref 5000] hc59 = some (none, hc64) := by
  refine m14 (2 * (320 + 1)) (by omega) ?_
  have w := zl14 (L := L) (xs := xs) (N := N) (d := d) 320 0 (by omega)
  rw [ze14] at w
  rw [x14, zt73, zt74, zt75, zt76]
  exact w
def hc65 : PH := ph_put hc64 10000 (.inr (.inr (10, [.ref 2000, .ref 1000, .ref 20006, .ref 9000, .ref 20011, .ref 20012, .ref 20013, .ref 20014, .ref 6000, .ref 20017, .ref 5000, .null, .null, .int 0, .int 0, .int 0, .int 0, .int 0])))
set_option maxRecDepth 100000 in
theorem zt77 {K : PH → PR} : pF hc64 10000 10 10 (.ref 5000) K = K hc65 := pF_e (fs := [.ref 2000, .ref 1000, .ref 20006, .ref 9000, .ref 20011, .ref 20012, .ref 20013, .ref 20014, .ref 6000, .ref 20017, .null, .null, .null, .int 0, .int 0, .int 0, .int 0, .int 0]) rfl (Nat.lt_of_sub_pos (by decide)) rfl
def hc66 : PH := ph_add hc65 0 0 2 (.inr (.inr (0, [.null, .int 0])))
set_option maxRecDepth 100000 in
theorem zt78 {K : Nat → PH → PR} : nO hc65 0 (clN 0) (dfl 0) K = K 0 hc66 := nO_e (n := 0) rfl rfl (by decide)
set_option maxRecDepth 100000 in
theorem zt79 {K : PR} : vO hc66 (some (.ref 0)) 0 K = K := vO_e (fs := [.null, .int 0]) rfl
def hc67 : PH := ph_add hc66 20020 20 20 (.inl (0, 20, (fun _ => 0)))
set_option maxRecDepth 100000 in
theorem zt80 {K : Nat → PH → PR} : nA hc66 0 20 (fun _ => 0) K = K 20020 hc67 := nA_e (n := 20) (w := 20) rfl rfl (by decide) rfl (by decide)
def hc68 : PH := ph_put hc67 0 (.inr (.inr (0, [.ref 20020, .int 0])))
set_option maxRecDepth 100000 in
theorem zt81 {K : PH → PR} : pF hc67 0 0 0 (.ref 20020) K = K hc68 := pF_e (fs := [.null, .int 0]) rfl (Nat.lt_of_sub_pos (by decide)) rfl
set_option maxRecDepth 100000 in
theorem zk0 : CALL (roL L xs) mP mL (N + 5050) (d + 1) 0 [.ref 0] hc66 = some (none, hc68) := by
  rw [m0, zt80, zt81]
def hc69 : PH := ph_put hc68 10000 (.inr (.inr (10, [.ref 2000, .ref 1000, .ref 20006, .ref 9000, .ref 20011, .ref 20012, .ref 20013, .ref 20014, .ref 6000, .ref 20017, .ref 5000, .ref 0, .null, .int 0, .int 0, .int 0, .int 0, .int 0])))
set_option maxRecDepth 100000 in
theorem zt82 {K : PH → PR} : pF hc68 10000 10 11 (.ref 0) K = K hc69 := pF_e (fs := [.ref 2000, .ref 1000, .ref 20006, .ref 9000, .ref 20011, .ref 20012, .ref 20013, .ref 20014, .ref 6000, .ref 20017, .ref 5000, .null, .null, .int 0, .int 0, .int 0, .int 0, .int 0]) rfl (Nat.lt_of_sub_pos (by decide)) rfl
def hc70 : PH := ph_add hc69 20021 20 6 (.inr (.inl (18, 6, (fun _ => none))))
set_option maxRecDepth 100000 in
theorem zt83 {K : Nat → PH → PR} : nQ hc69 18 6 K = K 20021 hc70 := nQ_e (n := 21) (w := 6) rfl rfl (by decide) rfl (by decide)
def hc71 : PH := ph_put hc70 10000 (.inr (.inr (10, [.ref 2000, .ref 1000, .ref 20006, .ref 9000, .ref 20011, .ref 20012, .ref 20013, .ref 20014, .ref 6000, .ref 20017, .ref 5000, .ref 0, .ref 20021, .int 0, .int 0, .int 0, .int 0, .int 0])))
set_option maxRecDepth 100000 in
theorem zt84 {K : PH → PR} : pF hc70 10000 10 12 (.ref 20021) K = K hc71 := pF_e (fs := [.ref 2000, .ref 1000, .ref 20006, .ref 9000, .ref 20011, .ref 20012, .ref 20013, .ref 20014, .ref 6000, .ref 20017, .ref 5000, .ref 0, .null, .int 0, .int 0, .int 0, .int 0, .int 0]) rfl (Nat.lt_of_sub_pos (by decide)) rfl
set_option maxRecDepth 100000 in
theorem zt85 {X : PR} {K : Nat → PR} : gR hc71 10000 10 12 X K = K 20021 := gR_e (fs := [.ref 2000, .ref 1000, .ref 20006, .ref 9000, .ref 20011, .ref 20012, .ref 20013, .ref 20014, .ref 6000, .ref 20017, .ref 5000, .ref 0, .ref 20021, .int 0, .int 0, .int 0, .int 0, .int 0]) rfl rfl
def hc72 : PH := ph_add hc71 8000 8 3 (.inr (.inr (8, [.int 0, .int 0, .null])))
set_option maxRecDepth 100000 in
theorem zt86 {K : Nat → PH → PR} : nO hc71 8 (clN 8) (dfl 8) K = K 8000 hc72 := nO_e (n := 0) rfl rfl (by decide)
set_option maxRecDepth 100000 in
theorem zt87 {K : PR} : vO hc72 (some (.ref 8000)) 8 K = K := vO_e (fs := [.int 0, .int 0, .null]) rfl
def hc73 : PH := ph_put hc72 8000 (.inr (.inr (8, [.int (-1), .int 0, .null])))
set_option maxRecDepth 100000 in
theorem zt88 {K : PH → PR} : pF hc72 8000 8 0 (.int (-1)) K = K hc73 := pF_e (fs := [.int 0, .int 0, .null]) rfl (Nat.lt_of_sub_pos (by decide)) rfl
def hc74 : PH := ph_add hc73 20022 20 60 (.inl (0, 60, (fun _ => 0)))
set_option maxRecDepth 100000 in
theorem zt89 {K : Nat → PH → PR} : nA hc73 0 60 (fun _ => 0) K = K 20022 hc74 := nA_e (n := 22) (w := 60) rfl rfl (by decide) rfl (by decide)
def hc75 : PH := ph_put hc74 8000 (.inr (.inr (8, [.int (-1), .int 0, .ref 20022])))
set_option maxRecDepth 100000 in
theorem zt90 {K : PH → PR} : pF hc74 8000 8 2 (.ref 20022) K = K hc75 := pF_e (fs := [.int (-1), .int 0, .null]) rfl (Nat.lt_of_sub_pos (by decide)) rfl
set_option maxRecDepth 100000 in
theorem zk35_0 : CALL (roL L xs) mP mL (N + 5050) (d + 1) 35 [.ref 8000] hc72 = some (none, hc75) := by
  rw [m35, zt88, zt89, zt90]
def hc76 : PH := ph_put hc75 20021 (.inr (.inl (18, 6, (va_up (fun _ => none) 0 (some 8000)))))
set_option maxRecDepth 100000 in
theorem zt91 {K : PH → PR} : sR hc75 20021 0 8000 K = K hc76 := sR_e (c := 8) (n := 6) (i := 0) (g := (fun _ => none)) (fs := [.int (-1), .int 0, .ref 20022]) rfl rfl (by decide) (by decide) rfl
set_option maxRecDepth 100000 in
theorem zt92 {X : PR} {K : Nat → PR} : gR hc76 10000 10 12 X K = K 20021 := gR_e (fs := [.ref 2000, .ref 1000, .ref 20006, .ref 9000, .ref 20011, .ref 20012, .ref 20013, .ref 20014, .ref 6000, .ref 20017, .ref 5000, .ref 0, .ref 20021, .int 0, .int 0, .int 0, .int 0, .int 0]) rfl rfl
def hc77 : PH := ph_add hc76 8001 8 3 (.inr (.inr (8, [.int 0, .int 0, .null])))
set_option maxRecDepth 100000 in
theorem zt93 {K : Nat → PH → PR} : nO hc76 8 (clN 8) (dfl 8) K = K 8001 hc77 := nO_e (n := 1) rfl rfl (by decide)
set_option maxRecDepth 100000 in
theorem zt94 {K : PR} : vO hc77 (some (.ref 8001)) 8 K = K := vO_e (fs := [.int 0, .int 0, .null]) rfl
def hc78 : PH := ph_put hc77 8001 (.inr (.inr (8, [.int (-1), .int 0, .null])))
set_option maxRecDepth 100000 in
theorem zt95 {K : PH → PR} : pF hc77 8001 8 0 (.int (-1)) K = K hc78 := pF_e (fs := [.int 0, .int 0, .null]) rfl (Nat.lt_of_sub_pos (by decide)) rfl
def hc79 : PH := ph_add hc78 20023 20 60 (.inl (0, 60, (fun _ => 0)))
set_option maxRecDepth 100000 in
theorem zt96 {K : Nat → PH → PR} : nA hc78 0 60 (fun _ => 0) K = K 20023 hc79 := nA_e (n := 23) (w := 60) rfl rfl (by decide) rfl (by decide)
def hc80 : PH := ph_put hc79 8001 (.inr (.inr (8, [.int (-1), .int 0, .ref 20023])))
set_option maxRecDepth 100000 in
theorem zt97 {K : PH → PR} : pF hc79 8001 8 2 (.ref 20023) K = K hc80 := pF_e (fs := [.int (-1), .int 0, .null]) rfl (Nat.lt_of_sub_pos (by decide)) rfl
set_option maxRecDepth 100000 in
theorem zk35_1 : CALL (roL L xs) mP mL (N + 5050) (d + 1) 35 [.ref 8001] hc77 = some (none, hc80) := by
  rw [m35, zt95, zt96, zt97]
def hc81 : PH := ph_put hc80 20021 (.inr (.inl (18, 6, (va_up (va_up (fun _ => none) 0 (some 8000)) 1 (some 8001)))))
set_option maxRecDepth 100000 in
theorem zt98 {K : PH → PR} : sR hc80 20021 1 8001 K = K hc81 := sR_e (c := 8) (n := 6) (i := 1) (g := (va_up (fun _ => none) 0 (some 8000))) (fs := [.int (-1), .int 0, .ref 20023]) rfl rfl (by decide) (by decide) rfl
set_option maxRecDepth 100000 in
theorem zt99 {X : PR} {K : Nat → PR} : gR hc81 10000 10 12 X K = K 20021 := gR_e (fs := [.ref 2000, .ref 1000, .ref 20006, .ref 9000, .ref 20011, .ref 20012, .ref 20013, .ref 20014, .ref 6000, .ref 20017, .ref 5000, .ref 0, .ref 20021, .int 0, .int 0, .int 0, .int 0, .int 0]) rfl rfl
def hc82 : PH := ph_add hc81 8002 8 3 (.inr (.inr (8, [.int 0, .int 0, .null])))
set_option maxRecDepth 100000 in
theorem zt100 {K : Nat → PH → PR} : nO hc81 8 (clN 8) (dfl 8) K = K 8002 hc82 := nO_e (n := 2) rfl rfl (by decide)
set_option maxRecDepth 100000 in
theorem zt101 {K : PR} : vO hc82 (some (.ref 8002)) 8 K = K := vO_e (fs := [.int 0, .int 0, .null]) rfl
def hc83 : PH := ph_put hc82 8002 (.inr (.inr (8, [.int (-1), .int 0, .null])))
set_option maxRecDepth 100000 in
theorem zt102 {K : PH → PR} : pF hc82 8002 8 0 (.int (-1)) K = K hc83 := pF_e (fs := [.int 0, .int 0, .null]) rfl (Nat.lt_of_sub_pos (by decide)) rfl
def hc84 : PH := ph_add hc83 20024 20 60 (.inl (0, 60, (fun _ => 0)))
set_option maxRecDepth 100000 in
theorem zt103 {K : Nat → PH → PR} : nA hc83 0 60 (fun _ => 0) K = K 20024 hc84 := nA_e (n := 24) (w := 60) rfl rfl (by decide) rfl (by decide)
def hc85 : PH := ph_put hc84 8002 (.inr (.inr (8, [.int (-1), .int 0, .ref 20024])))
set_option maxRecDepth 100000 in
theorem zt104 {K : PH → PR} : pF hc84 8002 8 2 (.ref 20024) K = K hc85 := pF_e (fs := [.int (-1), .int 0, .null]) rfl (Nat.lt_of_sub_pos (by decide)) rfl
set_option maxRecDepth 100000 in
theorem zk35_2 : CALL (roL L xs) mP mL (N + 5050) (d + 1) 35 [.ref 8002] hc82 = some (none, hc85) := by
  rw [m35, zt102, zt103, zt104]
def hc86 : PH := ph_put hc85 20021 (.inr (.inl (18, 6, (va_up (va_up (va_up (fun _ => none) 0 (some 8000)) 1 (some 8001)) 2 (some 8002)))))
set_option maxRecDepth 100000 in
theorem zt105 {K : PH → PR} : sR hc85 20021 2 8002 K = K hc86 := sR_e (c := 8) (n := 6) (i := 2) (g := (va_up (va_up (fun _ => none) 0 (some 8000)) 1 (some 8001))) (fs := [.int (-1), .int 0, .ref 20024]) rfl rfl (by decide) (by decide) rfl
set_option maxRecDepth 100000 in
theorem zt106 {X : PR} {K : Nat → PR} : gR hc86 10000 10 12 X K = K 20021 := gR_e (fs := [.ref 2000, .ref 1000, .ref 20006, .ref 9000, .ref 20011, .ref 20012, .ref 20013, .ref 20014, .ref 6000, .ref 20017, .ref 5000, .ref 0, .ref 20021, .int 0, .int 0, .int 0, .int 0, .int 0]) rfl rfl
def hc87 : PH := ph_add hc86 8003 8 3 (.inr (.inr (8, [.int 0, .int 0, .null])))
set_option maxRecDepth 100000 in
theorem zt107 {K : Nat → PH → PR} : nO hc86 8 (clN 8) (dfl 8) K = K 8003 hc87 := nO_e (n := 3) rfl rfl (by decide)
set_option maxRecDepth 100000 in
theorem zt108 {K : PR} : vO hc87 (some (.ref 8003)) 8 K = K := vO_e (fs := [.int 0, .int 0, .null]) rfl
def hc88 : PH := ph_put hc87 8003 (.inr (.inr (8, [.int (-1), .int 0, .null])))
set_option maxRecDepth 100000 in
theorem zt109 {K : PH → PR} : pF hc87 8003 8 0 (.int (-1)) K = K hc88 := pF_e (fs := [.int 0, .int 0, .null]) rfl (Nat.lt_of_sub_pos (by decide)) rfl
def hc89 : PH := ph_add hc88 20025 20 60 (.inl (0, 60, (fun _ => 0)))
set_option maxRecDepth 100000 in
theorem zt110 {K : Nat → PH → PR} : nA hc88 0 60 (fun _ => 0) K = K 20025 hc89 := nA_e (n := 25) (w := 60) rfl rfl (by decide) rfl (by decide)
def hc90 : PH := ph_put hc89 8003 (.inr (.inr (8, [.int (-1), .int 0, .ref 20025])))
set_option maxRecDepth 100000 in
theorem zt111 {K : PH → PR} : pF hc89 8003 8 2 (.ref 20025) K = K hc90 := pF_e (fs := [.int (-1), .int 0, .null]) rfl (Nat.lt_of_sub_pos (by decide)) rfl
set_option maxRecDepth 100000 in
theorem zk35_3 : CALL (roL L xs) mP mL (N + 5050) (d + 1) 35 [.ref 8003] hc87 = some (none, hc90) := by
  rw [m35, zt109, zt110, zt111]
def hc91 : PH := ph_put hc90 20021 (.inr (.inl (18, 6, (va_up (va_up (va_up (va_up (fun _ => none) 0 (some 8000)) 1 (some 8001)) 2 (some 8002)) 3 (some 8003)))))
set_option maxRecDepth 100000 in
theorem zt112 {K : PH → PR} : sR hc90 20021 3 8003 K = K hc91 := sR_e (c := 8) (n := 6) (i := 3) (g := (va_up (va_up (va_up (fun _ => none) 0 (some 8000)) 1 (some 8001)) 2 (some 8002))) (fs := [.int (-1), .int 0, .ref 20025]) rfl rfl (by decide) (by decide) rfl
set_option maxRecDepth 100000 in
theorem zt113 {X : PR} {K : Nat → PR} : gR hc91 10000 10 12 X K = K 20021 := gR_e (fs := [.ref 2000, .ref 1000, .ref 20006, .ref 9000, .ref 20011, .ref 20012, .ref 20013, .ref 20014, .ref 6000, .ref 20017, .ref 5000, .ref 0, .ref 20021, .int 0, .int 0, .int 0, .int 0, .int 0]) rfl rfl
def hc92 : PH := ph_add hc91 8004 8 3 (.inr (.inr (8, [.int 0, .int 0, .null])))
set_option maxRecDepth 100000 in
theorem zt114 {K : Nat → PH → PR} : nO hc91 8 (clN 8) (dfl 8) K = K 8004 hc92 := nO_e (n := 4) rfl rfl (by decide)
set_option maxRecDepth 100000 in
theorem zt115 {K : PR} : vO hc92 (some (.ref 8004)) 8 K = K := vO_e (fs := [.int 0, .int 0, .null]) rfl
def hc93 : PH := ph_put hc92 8004 (.inr (.inr (8, [.int (-1), .int 0, .null])))
set_option maxRecDepth 100000 in
theorem zt116 {K : PH → PR} : pF hc92 8004 8 0 (.int (-1)) K = K hc93 := pF_e (fs := [.int 0, .int 0, .null]) rfl (Nat.lt_of_sub_pos (by decide)) rfl
def hc94 : PH := ph_add hc93 20026 20 60 (.inl (0, 60, (fun _ => 0)))
set_option maxRecDepth 100000 in
theorem zt117 {K : Nat → PH → PR} : nA hc93 0 60 (fun _ => 0) K = K 20026 hc94 := nA_e (n := 26) (w := 60) rfl rfl (by decide) rfl (by decide)
def hc95 : PH := ph_put hc94 8004 (.inr (.inr (8, [.int (-1), .int 0, .ref 20026])))
set_option maxRecDepth 100000 in
theorem zt118 {K : PH → PR} : pF hc94 8004 8 2 (.ref 20026) K = K hc95 := pF_e (fs := [.int (-1), .int 0, .null]) rfl (Nat.lt_of_sub_pos (by decide)) rfl
set_option maxRecDepth 100000 in
theorem zk35_4 : CALL (roL L xs) mP mL (N + 5050) (d + 1) 35 [.ref 8004] hc92 = some (none, hc95) := by
  rw [m35, zt116, zt117, zt118]
def hc96 : PH := ph_put hc95 20021 (.inr (.inl (18, 6, (va_up (va_up (va_up (va_up (va_up (fun _ => none) 0 (some 8000)) 1 (some 8001)) 2 (some 8002)) 3 (some 8003)) 4 (some 8004)))))
set_option maxRecDepth 100000 in
theorem zt119 {K : PH → PR} : sR hc95 20021 4 8004 K = K hc96 := sR_e (c := 8) (n := 6) (i := 4) (g := (va_up (va_up (va_up (va_up (fun _ => none) 0 (some 8000)) 1 (some 8001)) 2 (some 8002)) 3 (some 8003))) (fs := [.int (-1), .int 0, .ref 20026]) rfl rfl (by decide) (by decide) rfl
set_option maxRecDepth 100000 in
theorem zt120 {X : PR} {K : Nat → PR} : gR hc96 10000 10 12 X K = K 20021 := gR_e (fs := [.ref 2000, .ref 1000, .ref 20006, .ref 9000, .ref 20011, .ref 20012, .ref 20013, .ref 20014, .ref 6000, .ref 20017, .ref 5000, .ref 0, .ref 20021, .int 0, .int 0, .int 0, .int 0, .int 0]) rfl rfl
def hc97 : PH := ph_add hc96 8005 8 3 (.inr (.inr (8, [.int 0, .int 0, .null])))
set_option maxRecDepth 100000 in
theorem zt121 {K : Nat → PH → PR} : nO hc96 8 (clN 8) (dfl 8) K = K 8005 hc97 := nO_e (n := 5) rfl rfl (by decide)
set_option maxRecDepth 100000 in
theorem zt122 {K : PR} : vO hc97 (some (.ref 8005)) 8 K = K := vO_e (fs := [.int 0, .int 0, .null]) rfl
def hc98 : PH := ph_put hc97 8005 (.inr (.inr (8, [.int (-1), .int 0, .null])))
set_option maxRecDepth 100000 in
theorem zt123 {K : PH → PR} : pF hc97 8005 8 0 (.int (-1)) K = K hc98 := pF_e (fs := [.int 0, .int 0, .null]) rfl (Nat.lt_of_sub_pos (by decide)) rfl
def hc99 : PH := ph_add hc98 20027 20 60 (.inl (0, 60, (fun _ => 0)))
set_option maxRecDepth 100000 in
theorem zt124 {K : Nat → PH → PR} : nA hc98 0 60 (fun _ => 0) K = K 20027 hc99 := nA_e (n := 27) (w := 60) rfl rfl (by decide) rfl (by decide)
def hc100 : PH := ph_put hc99 8005 (.inr (.inr (8, [.int (-1), .int 0, .ref 20027])))
set_option maxRecDepth 100000 in
theorem zt125 {K : PH → PR} : pF hc99 8005 8 2 (.ref 20027) K = K hc100 := pF_e (fs := [.int (-1), .int 0, .null]) rfl (Nat.lt_of_sub_pos (by decide)) rfl
set_option maxRecDepth 100000 in
theorem zk35_5 : CALL (roL L xs) mP mL (N + 5050) (d + 1) 35 [.ref 8005] hc97 = some (none, hc100) := by
  rw [m35, zt123, zt124, zt125]
def hc101 : PH := ph_put hc100 20021 (.inr (.inl (18, 6, (va_up (va_up (va_up (va_up (va_up (va_up (fun _ => none) 0 (some 8000)) 1 (some 8001)) 2 (some 8002)) 3 (some 8003)) 4 (some 8004)) 5 (some 8005)))))
set_option maxRecDepth 100000 in
theorem zt126 {K : PH → PR} : sR hc100 20021 5 8005 K = K hc101 := sR_e (c := 8) (n := 6) (i := 5) (g := (va_up (va_up (va_up (va_up (va_up (fun _ => none) 0 (some 8000)) 1 (some 8001)) 2 (some 8002)) 3 (some 8003)) 4 (some 8004))) (fs := [.int (-1), .int 0, .ref 20027]) rfl rfl (by decide) (by decide) rfl
set_option maxHeartbeats 8000000 in
set_option maxRecDepth 100000 in
theorem zk49 : CALL (roL L xs) mP mL (N + 5050) (d + 3) 49 [.ref 10000] hc1 = some (none, hc101) := by
  refine m49 20 (by omega) ?_
  rw [x49, zt3, zt4, zk8, cV_s, zt13, zt14, zt15, zk4, cV_s, zt21, zt22, zt23]
  refine EXs_le (S := [36, 167]) (n := 18) 2 36 _ _ _ ?_
  rw [l49_36, if_pos (show (0 : Int32) < 2 by decide), zt24, zt25, zt26, zk10_0, cV_s, zt32]
  refine EXs_le (S := [36, 167]) (n := 16) 2 36 _ _ _ ?_
  rw [l49_36, if_pos (show (0 + 1 : Int32) < 2 by decide), zt33, zt34, zt35, zk10_1, cV_s, show (0 + 1 : Int32) = 1 by decide, zt41]
  refine EXs_le (S := [36, 167]) (n := 14) 2 36 _ _ _ ?_
  rw [l49_36, if_neg (show ¬ (1 + 1 : Int32) < 2 by decide), zt42, zt43, zt44, zt45, zt46, zk40, cV_s, zt53, zt54, zt55, zt56, zt57, zt58, zt59, zt60, zt61, zt62, zt63, zk19, cV_s, zt68, zt69, zt70, zt71, zt72, zk14, cV_s, zt77, zt78, zt79, zk0, cV_s, zt82, zt83, zt84]
  refine EXs_le (S := [36, 167]) (n := 12) 2 167 _ _ _ ?_
  rw [l49_167, if_pos (show (0 : Int32) < 6 by decide), zt85, zt86, zt87, zk35_0, cV_s, zt91]
  refine EXs_le (S := [36, 167]) (n := 10) 2 167 _ _ _ ?_
  rw [l49_167, if_pos (show (0 + 1 : Int32) < 6 by decide), zt92, zt93, zt94, zk35_1, cV_s, show (0 + 1 : Int32) = 1 by decide, zt98]
  refine EXs_le (S := [36, 167]) (n := 8) 2 167 _ _ _ ?_
  rw [l49_167, if_pos (show (1 + 1 : Int32) < 6 by decide), zt99, zt100, zt101, zk35_2, cV_s, show (1 + 1 : Int32) = 2 by decide, zt105]
  refine EXs_le (S := [36, 167]) (n := 6) 2 167 _ _ _ ?_
  rw [l49_167, if_pos (show (2 + 1 : Int32) < 6 by decide), zt106, zt107, zt108, zk35_3, cV_s, show (2 + 1 : Int32) = 3 by decide, zt112]
  refine EXs_le (S := [36, 167]) (n := 4) 2 167 _ _ _ ?_
  rw [l49_167, if_pos (show (3 + 1 : Int32) < 6 by decide), zt113, zt114, zt115, zk35_4, cV_s, show (3 + 1 : Int32) = 4 by decide, zt119]
  refine EXs_le (S := [36, 167]) (n := 2) 2 167 _ _ _ ?_
  rw [l49_167, if_pos (show (4 + 1 : Int32) < 6 by decide), zt120, zt121, zt122, zk35_5, cV_s, show (4 + 1 : Int32) = 5 by decide, zt126]
  refine EXs_le (S := [36, 167]) (n := 0) 2 167 _ _ _ ?_
  rw [l49_167, if_neg (show ¬ (5 + 1 : Int32) < 6 by decide)]
def hc102 : PH := ph_add hc101 11000 11 59 (.inr (.inr (11, [.int 0, .int 0, .null, .null, .null, .null, .null, .null, .null, .null, .null, .null, .null, .null, .null, .null, .null, .null, .int 0, .null, .null, .null, .null, .null, .null, .null, .null, .null, .null, .int 0, .int 0, .int 0, .int 0, .null, .int 0, .int 0, .int 0, .null, .null, .null, .null, .null, .int 0, .int 0, .int 0, .null, .null, .int 0, .int 0, .int 0, .int 0, .null, .null, .int 0, .null, .null, .null, .null, .null])))
set_option maxRecDepth 100000 in
theorem zt127 {K : Nat → PH → PR} : nO hc101 11 (clN 11) (dfl 11) K = K 11000 hc102 := nO_e (n := 0) rfl rfl (by decide)
set_option maxRecDepth 100000 in
theorem zt128 {K : PR} : vO hc102 (some (.ref 11000)) 11 K = K := vO_e (fs := [.int 0, .int 0, .null, .null, .null, .null, .null, .null, .null, .null, .null, .null, .null, .null, .null, .null, .null, .null, .int 0, .null, .null, .null, .null, .null, .null, .null, .null, .null, .null, .int 0, .int 0, .int 0, .int 0, .null, .int 0, .int 0, .int 0, .null, .null, .null, .null, .null, .int 0, .int 0, .int 0, .null, .null, .int 0, .int 0, .int 0, .int 0, .null, .null, .int 0, .null, .null, .null, .null, .null]) rfl
def hc103 : PH := ph_put hc102 11000 (.inr (.inr (11, [.int 0, .int 0, .null, .null, .null, .null, .null, .null, .null, .null, .null, .null, .null, .null, .null, .null, .null, .null, .int 0, .null, .null, .null, .null, .null, .null, .null, .null, .null, .null, .int 0, .int 0, .int 0, .int 0, .null, .int 0, .int 0, .int 0, .null, .null, .null, .null, .null, .int 0, .int 0, .int 0, .null, .null, .int 0, .int 0, .int 0, .int 0, .null, .null, .int 0, .null, .null, .null, .null, .null])))
set_option maxRecDepth 100000 in
theorem zt129 {K : PH → PR} : pF hc102 11000 11 0 (.int 0) K = K hc103 := pF_e (fs := [.int 0, .int 0, .null, .null, .null, .null, .null, .null, .null, .null, .null, .null, .null, .null, .null, .null, .null, .null, .int 0, .null, .null, .null, .null, .null, .null, .null, .null, .null, .null, .int 0, .int 0, .int 0, .int 0, .null, .int 0, .int 0, .int 0, .null, .null, .null, .null, .null, .int 0, .int 0, .int 0, .null, .null, .int 0, .int 0, .int 0, .int 0, .null, .null, .int 0, .null, .null, .null, .null, .null]) rfl (Nat.lt_of_sub_pos (by decide)) rfl
def hc104 : PH := ph_put hc103 11000 (.inr (.inr (11, [.int 0, .int 0, .null, .null, .null, .null, .null, .null, .null, .null, .null, .null, .null, .null, .null, .null, .null, .null, .int 0, .null, .null, .null, .null, .null, .null, .null, .null, .null, .null, .int 0, .int 0, .int 0, .int 0, .null, .int 0, .int 0, .int 0, .null, .null, .null, .null, .null, .int 0, .int 0, .int 0, .null, .null, .int 0, .int 0, .int 0, .int 0, .null, .null, .int 0, .null, .null, .null, .null, .null])))
set_option maxRecDepth 100000 in
theorem zt130 {K : PH → PR} : pF hc103 11000 11 1 (.int 0) K = K hc104 := pF_e (fs := [.int 0, .int 0, .null, .null, .null, .null, .null, .null, .null, .null, .null, .null, .null, .null, .null, .null, .null, .null, .int 0, .null, .null, .null, .null, .null, .null, .null, .null, .null, .null, .int 0, .int 0, .int 0, .int 0, .null, .int 0, .int 0, .int 0, .null, .null, .null, .null, .null, .int 0, .int 0, .int 0, .null, .null, .int 0, .int 0, .int 0, .int 0, .null, .null, .int 0, .null, .null, .null, .null, .null]) rfl (Nat.lt_of_sub_pos (by decide)) rfl
def hc105 : PH := ph_add hc104 20028 20 16 (.inl (0, 16, (fun _ => 0)))
set_option maxRecDepth 100000 in
theorem zt131 {K : Nat → PH → PR} : nA hc104 0 16 (fun _ => 0) K = K 20028 hc105 := nA_e (n := 28) (w := 16) rfl rfl (by decide) rfl (by decide)
def hc106 : PH := ph_put hc105 20028 (.inl (0, 16, (upd (fun _ => 0) 0 0)))
set_option maxRecDepth 100000 in
theorem zt132 {K : PH → PR} : sI hc105 20028 0 0 0 K = K hc106 := sI_e (i := 0) (n := 16) (f := (fun _ => 0)) rfl (by decide) (by decide) rfl
def hc107 : PH := ph_put hc106 20028 (.inl (0, 16, (upd (upd (fun _ => 0) 0 0) 1 383)))
set_option maxRecDepth 100000 in
theorem zt133 {K : PH → PR} : sI hc106 20028 0 1 383 K = K hc107 := sI_e (i := 1) (n := 16) (f := (upd (fun _ => 0) 0 0)) rfl (by decide) (by decide) rfl
def hc108 : PH := ph_put hc107 20028 (.inl (0, 16, (upd (upd (upd (fun _ => 0) 0 0) 1 383) 2 707)))
set_option maxRecDepth 100000 in
theorem zt134 {K : PH → PR} : sI hc107 20028 0 2 707 K = K hc108 := sI_e (i := 2) (n := 16) (f := (upd (upd (fun _ => 0) 0 0) 1 383)) rfl (by decide) (by decide) rfl
def hc109 : PH := ph_put hc108 20028 (.inl (0, 16, (upd (upd (upd (upd (fun _ => 0) 0 0) 1 383) 2 707) 3 924)))
set_option maxRecDepth 100000 in
theorem zt135 {K : PH → PR} : sI hc108 20028 0 3 924 K = K hc109 := sI_e (i := 3) (n := 16) (f := (upd (upd (upd (fun _ => 0) 0 0) 1 383) 2 707)) rfl (by decide) (by decide) rfl
def hc110 : PH := ph_put hc109 20028 (.inl (0, 16, (upd (upd (upd (upd (upd (fun _ => 0) 0 0) 1 383) 2 707) 3 924) 4 1000)))
set_option maxRecDepth 100000 in
theorem zt136 {K : PH → PR} : sI hc109 20028 0 4 1000 K = K hc110 := sI_e (i := 4) (n := 16) (f := (upd (upd (upd (upd (fun _ => 0) 0 0) 1 383) 2 707) 3 924)) rfl (by decide) (by decide) rfl
def hc111 : PH := ph_put hc110 20028 (.inl (0, 16, (upd (upd (upd (upd (upd (upd (fun _ => 0) 0 0) 1 383) 2 707) 3 924) 4 1000) 5 924)))
set_option maxRecDepth 100000 in
theorem zt137 {K : PH → PR} : sI hc110 20028 0 5 924 K = K hc111 := sI_e (i := 5) (n := 16) (f := (upd (upd (upd (upd (upd (fun _ => 0) 0 0) 1 383) 2 707) 3 924) 4 1000)) rfl (by decide) (by decide) rfl
def hc112 : PH := ph_put hc111 20028 (.inl (0, 16, (upd (upd (upd (upd (upd (upd (upd (fun _ => 0) 0 0) 1 383) 2 707) 3 924) 4 1000) 5 924) 6 707)))
set_option maxRecDepth 100000 in
theorem zt138 {K : PH → PR} : sI hc111 20028 0 6 707 K = K hc112 := sI_e (i := 6) (n := 16) (f := (upd (upd (upd (upd (upd (upd (fun _ => 0) 0 0) 1 383) 2 707) 3 924) 4 1000) 5 924)) rfl (by decide) (by decide) rfl
def hc113 : PH := ph_put hc112 20028 (.inl (0, 16, (upd (upd (upd (upd (upd (upd (upd (upd (fun _ => 0) 0 0) 1 383) 2 707) 3 924) 4 1000) 5 924) 6 707) 7 383)))
set_option maxRecDepth 100000 in
theorem zt139 {K : PH → PR} : sI hc112 20028 0 7 383 K = K hc113 := sI_e (i := 7) (n := 16) (f := (upd (upd (upd (upd (upd (upd (upd (fun _ => 0) 0 0) 1 383) 2 707) 3 924) 4 1000) 5 924) 6 707)) rfl (by decide) (by decide) rfl
def hc114 : PH := ph_put hc113 20028 (.inl (0, 16, (upd (upd (upd (upd (upd (upd (upd (upd (upd (fun _ => 0) 0 0) 1 383) 2 707) 3 924) 4 1000) 5 924) 6 707) 7 383) 8 0)))
set_option maxRecDepth 100000 in
theorem zt140 {K : PH → PR} : sI hc113 20028 0 8 0 K = K hc114 := sI_e (i := 8) (n := 16) (f := (upd (upd (upd (upd (upd (upd (upd (upd (fun _ => 0) 0 0) 1 383) 2 707) 3 924) 4 1000) 5 924) 6 707) 7 383)) rfl (by decide) (by decide) rfl
def hc115 : PH := ph_put hc114 20028 (.inl (0, 16, (upd (upd (upd (upd (upd (upd (upd (upd (upd (upd (fun _ => 0) 0 0) 1 383) 2 707) 3 924) 4 1000) 5 924) 6 707) 7 383) 8 0) 9 (-383))))
set_option maxRecDepth 100000 in
theorem zt141 {K : PH → PR} : sI hc114 20028 0 9 (-383) K = K hc115 := sI_e (i := 9) (n := 16) (f := (upd (upd (upd (upd (upd (upd (upd (upd (upd (fun _ => 0) 0 0) 1 383) 2 707) 3 924) 4 1000) 5 924) 6 707) 7 383) 8 0)) rfl (by decide) (by decide) rfl
def hc116 : PH := ph_put hc115 20028 (.inl (0, 16, (upd (upd (upd (upd (upd (upd (upd (upd (upd (upd (upd (fun _ => 0) 0 0) 1 383) 2 707) 3 924) 4 1000) 5 924) 6 707) 7 383) 8 0) 9 (-383)) 10 (-707))))
set_option maxRecDepth 100000 in
theorem zt142 {K : PH → PR} : sI hc115 20028 0 10 (-707) K = K hc116 := sI_e (i := 10) (n := 16) (f := (upd (upd (upd (upd (upd (upd (upd (upd (upd (upd (fun _ => 0) 0 0) 1 383) 2 707) 3 924) 4 1000) 5 924) 6 707) 7 383) 8 0) 9 (-383))) rfl (by decide) (by decide) rfl
def hc117 : PH := ph_put hc116 20028 (.inl (0, 16, (upd (upd (upd (upd (upd (upd (upd (upd (upd (upd (upd (upd (fun _ => 0) 0 0) 1 383) 2 707) 3 924) 4 1000) 5 924) 6 707) 7 383) 8 0) 9 (-383)) 10 (-707)) 11 (-924))))
set_option maxRecDepth 100000 in
theorem zt143 {K : PH → PR} : sI hc116 20028 0 11 (-924) K = K hc117 := sI_e (i := 11) (n := 16) (f := (upd (upd (upd (upd (upd (upd (upd (upd (upd (upd (upd (fun _ => 0) 0 0) 1 383) 2 707) 3 924) 4 1000) 5 924) 6 707) 7 383) 8 0) 9 (-383)) 10 (-707))) rfl (by decide) (by decide) rfl
def hc118 : PH := ph_put hc117 20028 (.inl (0, 16, (upd (upd (upd (upd (upd (upd (upd (upd (upd (upd (upd (upd (upd (fun _ => 0) 0 0) 1 383) 2 707) 3 924) 4 1000) 5 924) 6 707) 7 383) 8 0) 9 (-383)) 10 (-707)) 11 (-924)) 12 (-1000))))
set_option maxRecDepth 100000 in
theorem zt144 {K : PH → PR} : sI hc117 20028 0 12 (-1000) K = K hc118 := sI_e (i := 12) (n := 16) (f := (upd (upd (upd (upd (upd (upd (upd (upd (upd (upd (upd (upd (fun _ => 0) 0 0) 1 383) 2 707) 3 924) 4 1000) 5 924) 6 707) 7 383) 8 0) 9 (-383)) 10 (-707)) 11 (-924))) rfl (by decide) (by decide) rfl
def hc119 : PH := ph_put hc118 20028 (.inl (0, 16, (upd (upd (upd (upd (upd (upd (upd (upd (upd (upd (upd (upd (upd (upd (fun _ => 0) 0 0) 1 383) 2 707) 3 924) 4 1000) 5 924) 6 707) 7 383) 8 0) 9 (-383)) 10 (-707)) 11 (-924)) 12 (-1000)) 13 (-924))))
set_option maxRecDepth 100000 in
theorem zt145 {K : PH → PR} : sI hc118 20028 0 13 (-924) K = K hc119 := sI_e (i := 13) (n := 16) (f := (upd (upd (upd (upd (upd (upd (upd (upd (upd (upd (upd (upd (upd (fun _ => 0) 0 0) 1 383) 2 707) 3 924) 4 1000) 5 924) 6 707) 7 383) 8 0) 9 (-383)) 10 (-707)) 11 (-924)) 12 (-1000))) rfl (by decide) (by decide) rfl
def hc120 : PH := ph_put hc119 20028 (.inl (0, 16, (upd (upd (upd (upd (upd (upd (upd (upd (upd (upd (upd (upd (upd (upd (upd (fun _ => 0) 0 0) 1 383) 2 707) 3 924) 4 1000) 5 924) 6 707) 7 383) 8 0) 9 (-383)) 10 (-707)) 11 (-924)) 12 (-1000)) 13 (-924)) 14 (-707))))
set_option maxRecDepth 100000 in
theorem zt146 {K : PH → PR} : sI hc119 20028 0 14 (-707) K = K hc120 := sI_e (i := 14) (n := 16) (f := (upd (upd (upd (upd (upd (upd (upd (upd (upd (upd (upd (upd (upd (upd (fun _ => 0) 0 0) 1 383) 2 707) 3 924) 4 1000) 5 924) 6 707) 7 383) 8 0) 9 (-383)) 10 (-707)) 11 (-924)) 12 (-1000)) 13 (-924))) rfl (by decide) (by decide) rfl
def hc121 : PH := ph_put hc120 20028 (.inl (0, 16, (upd (upd (upd (upd (upd (upd (upd (upd (upd (upd (upd (upd (upd (upd (upd (upd (fun _ => 0) 0 0) 1 383) 2 707) 3 924) 4 1000) 5 924) 6 707) 7 383) 8 0) 9 (-383)) 10 (-707)) 11 (-924)) 12 (-1000)) 13 (-924)) 14 (-707)) 15 (-383))))
set_option maxRecDepth 100000 in
theorem zt147 {K : PH → PR} : sI hc120 20028 0 15 (-383) K = K hc121 := sI_e (i := 15) (n := 16) (f := (upd (upd (upd (upd (upd (upd (upd (upd (upd (upd (upd (upd (upd (upd (upd (fun _ => 0) 0 0) 1 383) 2 707) 3 924) 4 1000) 5 924) 6 707) 7 383) 8 0) 9 (-383)) 10 (-707)) 11 (-924)) 12 (-1000)) 13 (-924)) 14 (-707))) rfl (by decide) (by decide) rfl
def hc122 : PH := ph_put hc121 11000 (.inr (.inr (11, [.int 0, .int 0, .ref 20028, .null, .null, .null, .null, .null, .null, .null, .null, .null, .null, .null, .null, .null, .null, .null, .int 0, .null, .null, .null, .null, .null, .null, .null, .null, .null, .null, .int 0, .int 0, .int 0, .int 0, .null, .int 0, .int 0, .int 0, .null, .null, .null, .null, .null, .int 0, .int 0, .int 0, .null, .null, .int 0, .int 0, .int 0, .int 0, .null, .null, .int 0, .null, .null, .null, .null, .null])))
set_option maxRecDepth 100000 in
theorem zt148 {K : PH → PR} : pF hc121 11000 11 2 (.ref 20028) K = K hc122 := pF_e (fs := [.int 0, .int 0, .null, .null, .null, .null, .null, .null, .null, .null, .null, .null, .null, .null, .null, .null, .null, .null, .int 0, .null, .null, .null, .null, .null, .null, .null, .null, .null, .null, .int 0, .int 0, .int 0, .int 0, .null, .int 0, .int 0, .int 0, .null, .null, .null, .null, .null, .int 0, .int 0, .int 0, .null, .null, .int 0, .int 0, .int 0, .int 0, .null, .null, .int 0, .null, .null, .null, .null, .null]) rfl (Nat.lt_of_sub_pos (by decide)) rfl
def hc123 : PH := ph_add hc122 20029 20 64 (.inl (0, 64, (fun _ => 0)))
set_option maxRecDepth 100000 in
theorem zt149 {K : Nat → PH → PR} : nA hc122 0 64 (fun _ => 0) K = K 20029 hc123 := nA_e (n := 29) (w := 64) rfl rfl (by decide) rfl (by decide)
def hc124 : PH := ph_put hc123 11000 (.inr (.inr (11, [.int 0, .int 0, .ref 20028, .ref 20029, .null, .null, .null, .null, .null, .null, .null, .null, .null, .null, .null, .null, .null, .null, .int 0, .null, .null, .null, .null, .null, .null, .null, .null, .null, .null, .int 0, .int 0, .int 0, .int 0, .null, .int 0, .int 0, .int 0, .null, .null, .null, .null, .null, .int 0, .int 0, .int 0, .null, .null, .int 0, .int 0, .int 0, .int 0, .null, .null, .int 0, .null, .null, .null, .null, .null])))
set_option maxRecDepth 100000 in
theorem zt150 {K : PH → PR} : pF hc123 11000 11 3 (.ref 20029) K = K hc124 := pF_e (fs := [.int 0, .int 0, .ref 20028, .null, .null, .null, .null, .null, .null, .null, .null, .null, .null, .null, .null, .null, .null, .null, .int 0, .null, .null, .null, .null, .null, .null, .null, .null, .null, .null, .int 0, .int 0, .int 0, .int 0, .null, .int 0, .int 0, .int 0, .null, .null, .null, .null, .null, .int 0, .int 0, .int 0, .null, .null, .int 0, .int 0, .int 0, .int 0, .null, .null, .int 0, .null, .null, .null, .null, .null]) rfl (Nat.lt_of_sub_pos (by decide)) rfl
def hc125 : PH := ph_add hc124 20030 20 64 (.inl (0, 64, (fun _ => 0)))
set_option maxRecDepth 100000 in
theorem zt151 {K : Nat → PH → PR} : nA hc124 0 64 (fun _ => 0) K = K 20030 hc125 := nA_e (n := 30) (w := 64) rfl rfl (by decide) rfl (by decide)
def hc126 : PH := ph_put hc125 11000 (.inr (.inr (11, [.int 0, .int 0, .ref 20028, .ref 20029, .ref 20030, .null, .null, .null, .null, .null, .null, .null, .null, .null, .null, .null, .null, .null, .int 0, .null, .null, .null, .null, .null, .null, .null, .null, .null, .null, .int 0, .int 0, .int 0, .int 0, .null, .int 0, .int 0, .int 0, .null, .null, .null, .null, .null, .int 0, .int 0, .int 0, .null, .null, .int 0, .int 0, .int 0, .int 0, .null, .null, .int 0, .null, .null, .null, .null, .null])))
set_option maxRecDepth 100000 in
theorem zt152 {K : PH → PR} : pF hc125 11000 11 4 (.ref 20030) K = K hc126 := pF_e (fs := [.int 0, .int 0, .ref 20028, .ref 20029, .null, .null, .null, .null, .null, .null, .null, .null, .null, .null, .null, .null, .null, .null, .int 0, .null, .null, .null, .null, .null, .null, .null, .null, .null, .null, .int 0, .int 0, .int 0, .int 0, .null, .int 0, .int 0, .int 0, .null, .null, .null, .null, .null, .int 0, .int 0, .int 0, .null, .null, .int 0, .int 0, .int 0, .int 0, .null, .null, .int 0, .null, .null, .null, .null, .null]) rfl (Nat.lt_of_sub_pos (by decide)) rfl
def hc127 : PH := ph_add hc126 20031 20 64 (.inl (0, 64, (fun _ => 0)))
set_option maxRecDepth 100000 in
theorem zt153 {K : Nat → PH → PR} : nA hc126 0 64 (fun _ => 0) K = K 20031 hc127 := nA_e (n := 31) (w := 64) rfl rfl (by decide) rfl (by decide)
def hc128 : PH := ph_put hc127 11000 (.inr (.inr (11, [.int 0, .int 0, .ref 20028, .ref 20029, .ref 20030, .ref 20031, .null, .null, .null, .null, .null, .null, .null, .null, .null, .null, .null, .null, .int 0, .null, .null, .null, .null, .null, .null, .null, .null, .null, .null, .int 0, .int 0, .int 0, .int 0, .null, .int 0, .int 0, .int 0, .null, .null, .null, .null, .null, .int 0, .int 0, .int 0, .null, .null, .int 0, .int 0, .int 0, .int 0, .null, .null, .int 0, .null, .null, .null, .null, .null])))
set_option maxRecDepth 100000 in
theorem zt154 {K : PH → PR} : pF hc127 11000 11 5 (.ref 20031) K = K hc128 := pF_e (fs := [.int 0, .int 0, .ref 20028, .ref 20029, .ref 20030, .null, .null, .null, .null, .null, .null, .null, .null, .null, .null, .null, .null, .null, .int 0, .null, .null, .null, .null, .null, .null, .null, .null, .null, .null, .int 0, .int 0, .int 0, .int 0, .null, .int 0, .int 0, .int 0, .null, .null, .null, .null, .null, .int 0, .int 0, .int 0, .null, .null, .int 0, .int 0, .int 0, .int 0, .null, .null, .int 0, .null, .null, .null, .null, .null]) rfl (Nat.lt_of_sub_pos (by decide)) rfl
def hc129 : PH := ph_add hc128 20032 20 64 (.inl (0, 64, (fun _ => 0)))
set_option maxRecDepth 100000 in
theorem zt155 {K : Nat → PH → PR} : nA hc128 0 64 (fun _ => 0) K = K 20032 hc129 := nA_e (n := 32) (w := 64) rfl rfl (by decide) rfl (by decide)
def hc130 : PH := ph_put hc129 11000 (.inr (.inr (11, [.int 0, .int 0, .ref 20028, .ref 20029, .ref 20030, .ref 20031, .ref 20032, .null, .null, .null, .null, .null, .null, .null, .null, .null, .null, .null, .int 0, .null, .null, .null, .null, .null, .null, .null, .null, .null, .null, .int 0, .int 0, .int 0, .int 0, .null, .int 0, .int 0, .int 0, .null, .null, .null, .null, .null, .int 0, .int 0, .int 0, .null, .null, .int 0, .int 0, .int 0, .int 0, .null, .null, .int 0, .null, .null, .null, .null, .null])))
set_option maxRecDepth 100000 in
theorem zt156 {K : PH → PR} : pF hc129 11000 11 6 (.ref 20032) K = K hc130 := pF_e (fs := [.int 0, .int 0, .ref 20028, .ref 20029, .ref 20030, .ref 20031, .null, .null, .null, .null, .null, .null, .null, .null, .null, .null, .null, .null, .int 0, .null, .null, .null, .null, .null, .null, .null, .null, .null, .null, .int 0, .int 0, .int 0, .int 0, .null, .int 0, .int 0, .int 0, .null, .null, .null, .null, .null, .int 0, .int 0, .int 0, .null, .null, .int 0, .int 0, .int 0, .int 0, .null, .null, .int 0, .null, .null, .null, .null, .null]) rfl (Nat.lt_of_sub_pos (by decide)) rfl
def hc131 : PH := ph_add hc130 20033 20 200 (.inl (0, 200, (fun _ => 0)))
set_option maxRecDepth 100000 in
theorem zt157 {K : Nat → PH → PR} : nA hc130 0 200 (fun _ => 0) K = K 20033 hc131 := nA_e (n := 33) (w := 200) rfl rfl (by decide) rfl (by decide)
def hc132 : PH := ph_put hc131 11000 (.inr (.inr (11, [.int 0, .int 0, .ref 20028, .ref 20029, .ref 20030, .ref 20031, .ref 20032, .ref 20033, .null, .null, .null, .null, .null, .null, .null, .null, .null, .null, .int 0, .null, .null, .null, .null, .null, .null, .null, .null, .null, .null, .int 0, .int 0, .int 0, .int 0, .null, .int 0, .int 0, .int 0, .null, .null, .null, .null, .null, .int 0, .int 0, .int 0, .null, .null, .int 0, .int 0, .int 0, .int 0, .null, .null, .int 0, .null, .null, .null, .null, .null])))
set_option maxRecDepth 100000 in
theorem zt158 {K : PH → PR} : pF hc131 11000 11 7 (.ref 20033) K = K hc132 := pF_e (fs := [.int 0, .int 0, .ref 20028, .ref 20029, .ref 20030, .ref 20031, .ref 20032, .null, .null, .null, .null, .null, .null, .null, .null, .null, .null, .null, .int 0, .null, .null, .null, .null, .null, .null, .null, .null, .null, .null, .int 0, .int 0, .int 0, .int 0, .null, .int 0, .int 0, .int 0, .null, .null, .null, .null, .null, .int 0, .int 0, .int 0, .null, .null, .int 0, .int 0, .int 0, .int 0, .null, .null, .int 0, .null, .null, .null, .null, .null]) rfl (Nat.lt_of_sub_pos (by decide)) rfl
def hc133 : PH := ph_add hc132 20034 20 12 (.inl (0, 12, (fun _ => 0)))
set_option maxRecDepth 100000 in
theorem zt159 {K : Nat → PH → PR} : nA hc132 0 12 (fun _ => 0) K = K 20034 hc133 := nA_e (n := 34) (w := 12) rfl rfl (by decide) rfl (by decide)
def hc134 : PH := ph_put hc133 11000 (.inr (.inr (11, [.int 0, .int 0, .ref 20028, .ref 20029, .ref 20030, .ref 20031, .ref 20032, .ref 20033, .ref 20034, .null, .null, .null, .null, .null, .null, .null, .null, .null, .int 0, .null, .null, .null, .null, .null, .null, .null, .null, .null, .null, .int 0, .int 0, .int 0, .int 0, .null, .int 0, .int 0, .int 0, .null, .null, .null, .null, .null, .int 0, .int 0, .int 0, .null, .null, .int 0, .int 0, .int 0, .int 0, .null, .null, .int 0, .null, .null, .null, .null, .null])))
set_option maxRecDepth 100000 in
theorem zt160 {K : PH → PR} : pF hc133 11000 11 8 (.ref 20034) K = K hc134 := pF_e (fs := [.int 0, .int 0, .ref 20028, .ref 20029, .ref 20030, .ref 20031, .ref 20032, .ref 20033, .null, .null, .null, .null, .null, .null, .null, .null, .null, .null, .int 0, .null, .null, .null, .null, .null, .null, .null, .null, .null, .null, .int 0, .int 0, .int 0, .int 0, .null, .int 0, .int 0, .int 0, .null, .null, .null, .null, .null, .int 0, .int 0, .int 0, .null, .null, .int 0, .int 0, .int 0, .int 0, .null, .null, .int 0, .null, .null, .null, .null, .null]) rfl (Nat.lt_of_sub_pos (by decide)) rfl
def hc135 : PH := ph_add hc134 20035 20 12 (.inl (0, 12, (fun _ => 0)))
set_option maxRecDepth 100000 in
theorem zt161 {K : Nat → PH → PR} : nA hc134 0 12 (fun _ => 0) K = K 20035 hc135 := nA_e (n := 35) (w := 12) rfl rfl (by decide) rfl (by decide)
def hc136 : PH := ph_put hc135 11000 (.inr (.inr (11, [.int 0, .int 0, .ref 20028, .ref 20029, .ref 20030, .ref 20031, .ref 20032, .ref 20033, .ref 20034, .ref 20035, .null, .null, .null, .null, .null, .null, .null, .null, .int 0, .null, .null, .null, .null, .null, .null, .null, .null, .null, .null, .int 0, .int 0, .int 0, .int 0, .null, .int 0, .int 0, .int 0, .null, .null, .null, .null, .null, .int 0, .int 0, .int 0, .null, .null, .int 0, .int 0, .int 0, .int 0, .null, .null, .int 0, .null, .null, .null, .null, .null])))
set_option maxRecDepth 100000 in
theorem zt162 {K : PH → PR} : pF hc135 11000 11 9 (.ref 20035) K = K hc136 := pF_e (fs := [.int 0, .int 0, .ref 20028, .ref 20029, .ref 20030, .ref 20031, .ref 20032, .ref 20033, .ref 20034, .null, .null, .null, .null, .null, .null, .null, .null, .null, .int 0, .null, .null, .null, .null, .null, .null, .null, .null, .null, .null, .int 0, .int 0, .int 0, .int 0, .null, .int 0, .int 0, .int 0, .null, .null, .null, .null, .null, .int 0, .int 0, .int 0, .null, .null, .int 0, .int 0, .int 0, .int 0, .null, .null, .int 0, .null, .null, .null, .null, .null]) rfl (Nat.lt_of_sub_pos (by decide)) rfl
def hc137 : PH := ph_add hc136 20036 20 2 (.inl (0, 2, (fun _ => 0)))
set_option maxRecDepth 100000 in
theorem zt163 {K : Nat → PH → PR} : nA hc136 0 2 (fun _ => 0) K = K 20036 hc137 := nA_e (n := 36) (w := 2) rfl rfl (by decide) rfl (by decide)
def hc138 : PH := ph_put hc137 11000 (.inr (.inr (11, [.int 0, .int 0, .ref 20028, .ref 20029, .ref 20030, .ref 20031, .ref 20032, .ref 20033, .ref 20034, .ref 20035, .ref 20036, .null, .null, .null, .null, .null, .null, .null, .int 0, .null, .null, .null, .null, .null, .null, .null, .null, .null, .null, .int 0, .int 0, .int 0, .int 0, .null, .int 0, .int 0, .int 0, .null, .null, .null, .null, .null, .int 0, .int 0, .int 0, .null, .null, .int 0, .int 0, .int 0, .int 0, .null, .null, .int 0, .null, .null, .null, .null, .null])))
set_option maxRecDepth 100000 in
theorem zt164 {K : PH → PR} : pF hc137 11000 11 10 (.ref 20036) K = K hc138 := pF_e (fs := [.int 0, .int 0, .ref 20028, .ref 20029, .ref 20030, .ref 20031, .ref 20032, .ref 20033, .ref 20034, .ref 20035, .null, .null, .null, .null, .null, .null, .null, .null, .int 0, .null, .null, .null, .null, .null, .null, .null, .null, .null, .null, .int 0, .int 0, .int 0, .int 0, .null, .int 0, .int 0, .int 0, .null, .null, .null, .null, .null, .int 0, .int 0, .int 0, .null, .null, .int 0, .int 0, .int 0, .int 0, .null, .null, .int 0, .null, .null, .null, .null, .null]) rfl (Nat.lt_of_sub_pos (by decide)) rfl
def hc139 : PH := ph_add hc138 20037 20 2 (.inl (0, 2, (fun _ => 0)))
set_option maxRecDepth 100000 in
theorem zt165 {K : Nat → PH → PR} : nA hc138 0 2 (fun _ => 0) K = K 20037 hc139 := nA_e (n := 37) (w := 2) rfl rfl (by decide) rfl (by decide)
def hc140 : PH := ph_put hc139 11000 (.inr (.inr (11, [.int 0, .int 0, .ref 20028, .ref 20029, .ref 20030, .ref 20031, .ref 20032, .ref 20033, .ref 20034, .ref 20035, .ref 20036, .ref 20037, .null, .null, .null, .null, .null, .null, .int 0, .null, .null, .null, .null, .null, .null, .null, .null, .null, .null, .int 0, .int 0, .int 0, .int 0, .null, .int 0, .int 0, .int 0, .null, .null, .null, .null, .null, .int 0, .int 0, .int 0, .null, .null, .int 0, .int 0, .int 0, .int 0, .null, .null, .int 0, .null, .null, .null, .null, .null])))
set_option maxRecDepth 100000 in
theorem zt166 {K : PH → PR} : pF hc139 11000 11 11 (.ref 20037) K = K hc140 := pF_e (fs := [.int 0, .int 0, .ref 20028, .ref 20029, .ref 20030, .ref 20031, .ref 20032, .ref 20033, .ref 20034, .ref 20035, .ref 20036, .null, .null, .null, .null, .null, .null, .null, .int 0, .null, .null, .null, .null, .null, .null, .null, .null, .null, .null, .int 0, .int 0, .int 0, .int 0, .null, .int 0, .int 0, .int 0, .null, .null, .null, .null, .null, .int 0, .int 0, .int 0, .null, .null, .int 0, .int 0, .int 0, .int 0, .null, .null, .int 0, .null, .null, .null, .null, .null]) rfl (Nat.lt_of_sub_pos (by decide)) rfl
def hc141 : PH := ph_add hc140 20038 20 2 (.inl (0, 2, (fun _ => 0)))
set_option maxRecDepth 100000 in
theorem zt167 {K : Nat → PH → PR} : nA hc140 0 2 (fun _ => 0) K = K 20038 hc141 := nA_e (n := 38) (w := 2) rfl rfl (by decide) rfl (by decide)
def hc142 : PH := ph_put hc141 11000 (.inr (.inr (11, [.int 0, .int 0, .ref 20028, .ref 20029, .ref 20030, .ref 20031, .ref 20032, .ref 20033, .ref 20034, .ref 20035, .ref 20036, .ref 20037, .ref 20038, .null, .null, .null, .null, .null, .int 0, .null, .null, .null, .null, .null, .null, .null, .null, .null, .null, .int 0, .int 0, .int 0, .int 0, .null, .int 0, .int 0, .int 0, .null, .null, .null, .null, .null, .int 0, .int 0, .int 0, .null, .null, .int 0, .int 0, .int 0, .int 0, .null, .null, .int 0, .null, .null, .null, .null, .null])))
set_option maxRecDepth 100000 in
theorem zt168 {K : PH → PR} : pF hc141 11000 11 12 (.ref 20038) K = K hc142 := pF_e (fs := [.int 0, .int 0, .ref 20028, .ref 20029, .ref 20030, .ref 20031, .ref 20032, .ref 20033, .ref 20034, .ref 20035, .ref 20036, .ref 20037, .null, .null, .null, .null, .null, .null, .int 0, .null, .null, .null, .null, .null, .null, .null, .null, .null, .null, .int 0, .int 0, .int 0, .int 0, .null, .int 0, .int 0, .int 0, .null, .null, .null, .null, .null, .int 0, .int 0, .int 0, .null, .null, .int 0, .int 0, .int 0, .int 0, .null, .null, .int 0, .null, .null, .null, .null, .null]) rfl (Nat.lt_of_sub_pos (by decide)) rfl
def hc143 : PH := ph_add hc142 20039 20 2 (.inl (0, 2, (fun _ => 0)))
set_option maxRecDepth 100000 in
theorem zt169 {K : Nat → PH → PR} : nA hc142 0 2 (fun _ => 0) K = K 20039 hc143 := nA_e (n := 39) (w := 2) rfl rfl (by decide) rfl (by decide)
def hc144 : PH := ph_put hc143 20039 (.inl (0, 2, (upd (fun _ => 0) 0 0)))
set_option maxRecDepth 100000 in
theorem zt170 {K : PH → PR} : sI hc143 20039 0 0 0 K = K hc144 := sI_e (i := 0) (n := 2) (f := (fun _ => 0)) rfl (by decide) (by decide) rfl
def hc145 : PH := ph_put hc144 20039 (.inl (0, 2, (upd (upd (fun _ => 0) 0 0) 1 0)))
set_option maxRecDepth 100000 in
theorem zt171 {K : PH → PR} : sI hc144 20039 0 1 0 K = K hc145 := sI_e (i := 1) (n := 2) (f := (upd (fun _ => 0) 0 0)) rfl (by decide) (by decide) rfl
def hc146 : PH := ph_put hc145 11000 (.inr (.inr (11, [.int 0, .int 0, .ref 20028, .ref 20029, .ref 20030, .ref 20031, .ref 20032, .ref 20033, .ref 20034, .ref 20035, .ref 20036, .ref 20037, .ref 20038, .ref 20039, .null, .null, .null, .null, .int 0, .null, .null, .null, .null, .null, .null, .null, .null, .null, .null, .int 0, .int 0, .int 0, .int 0, .null, .int 0, .int 0, .int 0, .null, .null, .null, .null, .null, .int 0, .int 0, .int 0, .null, .null, .int 0, .int 0, .int 0, .int 0, .null, .null, .int 0, .null, .null, .null, .null, .null])))
set_option maxRecDepth 100000 in
theorem zt172 {K : PH → PR} : pF hc145 11000 11 13 (.ref 20039) K = K hc146 := pF_e (fs := [.int 0, .int 0, .ref 20028, .ref 20029, .ref 20030, .ref 20031, .ref 20032, .ref 20033, .ref 20034, .ref 20035, .ref 20036, .ref 20037, .ref 20038, .null, .null, .null, .null, .null, .int 0, .null, .null, .null, .null, .null, .null, .null, .null, .null, .null, .int 0, .int 0, .int 0, .int 0, .null, .int 0, .int 0, .int 0, .null, .null, .null, .null, .null, .int 0, .int 0, .int 0, .null, .null, .int 0, .int 0, .int 0, .int 0, .null, .null, .int 0, .null, .null, .null, .null, .null]) rfl (Nat.lt_of_sub_pos (by decide)) rfl
def hc147 : PH := ph_add hc146 20040 20 2 (.inl (0, 2, (fun _ => 0)))
set_option maxRecDepth 100000 in
theorem zt173 {K : Nat → PH → PR} : nA hc146 0 2 (fun _ => 0) K = K 20040 hc147 := nA_e (n := 40) (w := 2) rfl rfl (by decide) rfl (by decide)
def hc148 : PH := ph_put hc147 20040 (.inl (0, 2, (upd (fun _ => 0) 0 (-300))))
set_option maxRecDepth 100000 in
theorem zt174 {K : PH → PR} : sI hc147 20040 0 0 (-300) K = K hc148 := sI_e (i := 0) (n := 2) (f := (fun _ => 0)) rfl (by decide) (by decide) rfl
def hc149 : PH := ph_put hc148 20040 (.inl (0, 2, (upd (upd (fun _ => 0) 0 (-300)) 1 (-300))))
set_option maxRecDepth 100000 in
theorem zt175 {K : PH → PR} : sI hc148 20040 0 1 (-300) K = K hc149 := sI_e (i := 1) (n := 2) (f := (upd (fun _ => 0) 0 (-300))) rfl (by decide) (by decide) rfl
def hc150 : PH := ph_put hc149 11000 (.inr (.inr (11, [.int 0, .int 0, .ref 20028, .ref 20029, .ref 20030, .ref 20031, .ref 20032, .ref 20033, .ref 20034, .ref 20035, .ref 20036, .ref 20037, .ref 20038, .ref 20039, .ref 20040, .null, .null, .null, .int 0, .null, .null, .null, .null, .null, .null, .null, .null, .null, .null, .int 0, .int 0, .int 0, .int 0, .null, .int 0, .int 0, .int 0, .null, .null, .null, .null, .null, .int 0, .int 0, .int 0, .null, .null, .int 0, .int 0, .int 0, .int 0, .null, .null, .int 0, .null, .null, .null, .null, .null])))
set_option maxRecDepth 100000 in
theorem zt176 {K : PH → PR} : pF hc149 11000 11 14 (.ref 20040) K = K hc150 := pF_e (fs := [.int 0, .int 0, .ref 20028, .ref 20029, .ref 20030, .ref 20031, .ref 20032, .ref 20033, .ref 20034, .ref 20035, .ref 20036, .ref 20037, .ref 20038, .ref 20039, .null, .null, .null, .null, .int 0, .null, .null, .null, .null, .null, .null, .null, .null, .null, .null, .int 0, .int 0, .int 0, .int 0, .null, .int 0, .int 0, .int 0, .null, .null, .null, .null, .null, .int 0, .int 0, .int 0, .null, .null, .int 0, .int 0, .int 0, .int 0, .null, .null, .int 0, .null, .null, .null, .null, .null]) rfl (Nat.lt_of_sub_pos (by decide)) rfl
def hc151 : PH := ph_add hc150 20041 20 2 (.inl (0, 2, (fun _ => 0)))
set_option maxRecDepth 100000 in
theorem zt177 {K : Nat → PH → PR} : nA hc150 0 2 (fun _ => 0) K = K 20041 hc151 := nA_e (n := 41) (w := 2) rfl rfl (by decide) rfl (by decide)
def hc152 : PH := ph_put hc151 11000 (.inr (.inr (11, [.int 0, .int 0, .ref 20028, .ref 20029, .ref 20030, .ref 20031, .ref 20032, .ref 20033, .ref 20034, .ref 20035, .ref 20036, .ref 20037, .ref 20038, .ref 20039, .ref 20040, .ref 20041, .null, .null, .int 0, .null, .null, .null, .null, .null, .null, .null, .null, .null, .null, .int 0, .int 0, .int 0, .int 0, .null, .int 0, .int 0, .int 0, .null, .null, .null, .null, .null, .int 0, .int 0, .int 0, .null, .null, .int 0, .int 0, .int 0, .int 0, .null, .null, .int 0, .null, .null, .null, .null, .null])))
set_option maxRecDepth 100000 in
theorem zt178 {K : PH → PR} : pF hc151 11000 11 15 (.ref 20041) K = K hc152 := pF_e (fs := [.int 0, .int 0, .ref 20028, .ref 20029, .ref 20030, .ref 20031, .ref 20032, .ref 20033, .ref 20034, .ref 20035, .ref 20036, .ref 20037, .ref 20038, .ref 20039, .ref 20040, .null, .null, .null, .int 0, .null, .null, .null, .null, .null, .null, .null, .null, .null, .null, .int 0, .int 0, .int 0, .int 0, .null, .int 0, .int 0, .int 0, .null, .null, .null, .null, .null, .int 0, .int 0, .int 0, .null, .null, .int 0, .int 0, .int 0, .int 0, .null, .null, .int 0, .null, .null, .null, .null, .null]) rfl (Nat.lt_of_sub_pos (by decide)) rfl
def hc153 : PH := ph_add hc152 20042 20 2 (.inl (0, 2, (fun _ => 0)))
set_option maxRecDepth 100000 in
theorem zt179 {K : Nat → PH → PR} : nA hc152 0 2 (fun _ => 0) K = K 20042 hc153 := nA_e (n := 42) (w := 2) rfl rfl (by decide) rfl (by decide)
def hc154 : PH := ph_put hc153 11000 (.inr (.inr (11, [.int 0, .int 0, .ref 20028, .ref 20029, .ref 20030, .ref 20031, .ref 20032, .ref 20033, .ref 20034, .ref 20035, .ref 20036, .ref 20037, .ref 20038, .ref 20039, .ref 20040, .ref 20041, .ref 20042, .null, .int 0, .null, .null, .null, .null, .null, .null, .null, .null, .null, .null, .int 0, .int 0, .int 0, .int 0, .null, .int 0, .int 0, .int 0, .null, .null, .null, .null, .null, .int 0, .int 0, .int 0, .null, .null, .int 0, .int 0, .int 0, .int 0, .null, .null, .int 0, .null, .null, .null, .null, .null])))
set_option maxRecDepth 100000 in
theorem zt180 {K : PH → PR} : pF hc153 11000 11 16 (.ref 20042) K = K hc154 := pF_e (fs := [.int 0, .int 0, .ref 20028, .ref 20029, .ref 20030, .ref 20031, .ref 20032, .ref 20033, .ref 20034, .ref 20035, .ref 20036, .ref 20037, .ref 20038, .ref 20039, .ref 20040, .ref 20041, .null, .null, .int 0, .null, .null, .null, .null, .null, .null, .null, .null, .null, .null, .int 0, .int 0, .int 0, .int 0, .null, .int 0, .int 0, .int 0, .null, .null, .null, .null, .null, .int 0, .int 0, .int 0, .null, .null, .int 0, .int 0, .int 0, .int 0, .null, .null, .int 0, .null, .null, .null, .null, .null]) rfl (Nat.lt_of_sub_pos (by decide)) rfl
def hc155 : PH := ph_add hc154 20043 20 2 (.inl (0, 2, (fun _ => 0)))
set_option maxRecDepth 100000 in
theorem zt181 {K : Nat → PH → PR} : nA hc154 0 2 (fun _ => 0) K = K 20043 hc155 := nA_e (n := 43) (w := 2) rfl rfl (by decide) rfl (by decide)
def hc156 : PH := ph_put hc155 20043 (.inl (0, 2, (upd (fun _ => 0) 0 (-1))))
set_option maxRecDepth 100000 in
theorem zt182 {K : PH → PR} : sI hc155 20043 0 0 (-1) K = K hc156 := sI_e (i := 0) (n := 2) (f := (fun _ => 0)) rfl (by decide) (by decide) rfl
def hc157 : PH := ph_put hc156 20043 (.inl (0, 2, (upd (upd (fun _ => 0) 0 (-1)) 1 (-1))))
set_option maxRecDepth 100000 in
theorem zt183 {K : PH → PR} : sI hc156 20043 0 1 (-1) K = K hc157 := sI_e (i := 1) (n := 2) (f := (upd (fun _ => 0) 0 (-1))) rfl (by decide) (by decide) rfl
def hc158 : PH := ph_put hc157 11000 (.inr (.inr (11, [.int 0, .int 0, .ref 20028, .ref 20029, .ref 20030, .ref 20031, .ref 20032, .ref 20033, .ref 20034, .ref 20035, .ref 20036, .ref 20037, .ref 20038, .ref 20039, .ref 20040, .ref 20041, .ref 20042, .ref 20043, .int 0, .null, .null, .null, .null, .null, .null, .null, .null, .null, .null, .int 0, .int 0, .int 0, .int 0, .null, .int 0, .int 0, .int 0, .null, .null, .null, .null, .null, .int 0, .int 0, .int 0, .null, .null, .int 0, .int 0, .int 0, .int 0, .null, .null, .int 0, .null, .null, .null, .null, .null])))
set_option maxRecDepth 100000 in
theorem zt184 {K : PH → PR} : pF hc157 11000 11 17 (.ref 20043) K = K hc158 := pF_e (fs := [.int 0, .int 0, .ref 20028, .ref 20029, .ref 20030, .ref 20031, .ref 20032, .ref 20033, .ref 20034, .ref 20035, .ref 20036, .ref 20037, .ref 20038, .ref 20039, .ref 20040, .ref 20041, .ref 20042, .null, .int 0, .null, .null, .null, .null, .null, .null, .null, .null, .null, .null, .int 0, .int 0, .int 0, .int 0, .null, .int 0, .int 0, .int 0, .null, .null, .null, .null, .null, .int 0, .int 0, .int 0, .null, .null, .int 0, .int 0, .int 0, .int 0, .null, .null, .int 0, .null, .null, .null, .null, .null]) rfl (Nat.lt_of_sub_pos (by decide)) rfl
def hc159 : PH := ph_put hc158 11000 (.inr (.inr (11, [.int 0, .int 0, .ref 20028, .ref 20029, .ref 20030, .ref 20031, .ref 20032, .ref 20033, .ref 20034, .ref 20035, .ref 20036, .ref 20037, .ref 20038, .ref 20039, .ref 20040, .ref 20041, .ref 20042, .ref 20043, .int 0, .null, .null, .null, .null, .null, .null, .null, .null, .null, .null, .int 0, .int 0, .int 0, .int 0, .null, .int 0, .int 0, .int 0, .null, .null, .null, .null, .null, .int 0, .int 0, .int 0, .null, .null, .int 0, .int 0, .int 0, .int 0, .null, .null, .int 0, .null, .null, .null, .null, .null])))
set_option maxRecDepth 100000 in
theorem zt185 {K : PH → PR} : pF hc158 11000 11 18 (.int 0) K = K hc159 := pF_e (fs := [.int 0, .int 0, .ref 20028, .ref 20029, .ref 20030, .ref 20031, .ref 20032, .ref 20033, .ref 20034, .ref 20035, .ref 20036, .ref 20037, .ref 20038, .ref 20039, .ref 20040, .ref 20041, .ref 20042, .ref 20043, .int 0, .null, .null, .null, .null, .null, .null, .null, .null, .null, .null, .int 0, .int 0, .int 0, .int 0, .null, .int 0, .int 0, .int 0, .null, .null, .null, .null, .null, .int 0, .int 0, .int 0, .null, .null, .int 0, .int 0, .int 0, .int 0, .null, .null, .int 0, .null, .null, .null, .null, .null]) rfl (Nat.lt_of_sub_pos (by decide)) rfl
def hc160 : PH := ph_add hc159 20044 20 120 (.inl (0, 120, (fun _ => 0)))
set_option maxRecDepth 100000 in
theorem zt186 {K : Nat → PH → PR} : nA hc159 0 120 (fun _ => 0) K = K 20044 hc160 := nA_e (n := 44) (w := 120) rfl rfl (by decide) rfl (by decide)
def hc161 : PH := ph_put hc160 11000 (.inr (.inr (11, [.int 0, .int 0, .ref 20028, .ref 20029, .ref 20030, .ref 20031, .ref 20032, .ref 20033, .ref 20034, .ref 20035, .ref 20036, .ref 20037, .ref 20038, .ref 20039, .ref 20040, .ref 20041, .ref 20042, .ref 20043, .int 0, .ref 20044, .null, .null, .null, .null, .null, .null, .null, .null, .null, .int 0, .int 0, .int 0, .int 0, .null, .int 0, .int 0, .int 0, .null, .null, .null, .null, .null, .int 0, .int 0, .int 0, .null, .null, .int 0, .int 0, .int 0, .int 0, .null, .null, .int 0, .null, .null, .null, .null, .null])))
set_option maxRecDepth 100000 in
theorem zt187 {K : PH → PR} : pF hc160 11000 11 19 (.ref 20044) K = K hc161 := pF_e (fs := [.int 0, .int 0, .ref 20028, .ref 20029, .ref 20030, .ref 20031, .ref 20032, .ref 20033, .ref 20034, .ref 20035, .ref 20036, .ref 20037, .ref 20038, .ref 20039, .ref 20040, .ref 20041, .ref 20042, .ref 20043, .int 0, .null, .null, .null, .null, .null, .null, .null, .null, .null, .null, .int 0, .int 0, .int 0, .int 0, .null, .int 0, .int 0, .int 0, .null, .null, .null, .null, .null, .int 0, .int 0, .int 0, .null, .null, .int 0, .int 0, .int 0, .int 0, .null, .null, .int 0, .null, .null, .null, .null, .null]) rfl (Nat.lt_of_sub_pos (by decide)) rfl
def hc162 : PH := ph_add hc161 20045 20 120 (.inl (0, 120, (fun _ => 0)))
set_option maxRecDepth 100000 in
theorem zt188 {K : Nat → PH → PR} : nA hc161 0 120 (fun _ => 0) K = K 20045 hc162 := nA_e (n := 45) (w := 120) rfl rfl (by decide) rfl (by decide)
def hc163 : PH := ph_put hc162 11000 (.inr (.inr (11, [.int 0, .int 0, .ref 20028, .ref 20029, .ref 20030, .ref 20031, .ref 20032, .ref 20033, .ref 20034, .ref 20035, .ref 20036, .ref 20037, .ref 20038, .ref 20039, .ref 20040, .ref 20041, .ref 20042, .ref 20043, .int 0, .ref 20044, .ref 20045, .null, .null, .null, .null, .null, .null, .null, .null, .int 0, .int 0, .int 0, .int 0, .null, .int 0, .int 0, .int 0, .null, .null, .null, .null, .null, .int 0, .int 0, .int 0, .null, .null, .int 0, .int 0, .int 0, .int 0, .null, .null, .int 0, .null, .null, .null, .null, .null])))
set_option maxRecDepth 100000 in
theorem zt189 {K : PH → PR} : pF hc162 11000 11 20 (.ref 20045) K = K hc163 := pF_e (fs := [.int 0, .int 0, .ref 20028, .ref 20029, .ref 20030, .ref 20031, .ref 20032, .ref 20033, .ref 20034, .ref 20035, .ref 20036, .ref 20037, .ref 20038, .ref 20039, .ref 20040, .ref 20041, .ref 20042, .ref 20043, .int 0, .ref 20044, .null, .null, .null, .null, .null, .null, .null, .null, .null, .int 0, .int 0, .int 0, .int 0, .null, .int 0, .int 0, .int 0, .null, .null, .null, .null, .null, .int 0, .int 0, .int 0, .null, .null, .int 0, .int 0, .int 0, .int 0, .null, .null, .int 0, .null, .null, .null, .null, .null]) rfl (Nat.lt_of_sub_pos (by decide)) rfl
def hc164 : PH := ph_add hc163 20046 20 120 (.inl (0, 120, (fun _ => 0)))
set_option maxRecDepth 100000 in
theorem zt190 {K : Nat → PH → PR} : nA hc163 0 120 (fun _ => 0) K = K 20046 hc164 := nA_e (n := 46) (w := 120) rfl rfl (by decide) rfl (by decide)
def hc165 : PH := ph_put hc164 11000 (.inr (.inr (11, [.int 0, .int 0, .ref 20028, .ref 20029, .ref 20030, .ref 20031, .ref 20032, .ref 20033, .ref 20034, .ref 20035, .ref 20036, .ref 20037, .ref 20038, .ref 20039, .ref 20040, .ref 20041, .ref 20042, .ref 20043, .int 0, .ref 20044, .ref 20045, .ref 20046, .null, .null, .null, .null, .null, .null, .null, .int 0, .int 0, .int 0, .int 0, .null, .int 0, .int 0, .int 0, .null, .null, .null, .null, .null, .int 0, .int 0, .int 0, .null, .null, .int 0, .int 0, .int 0, .int 0, .null, .null, .int 0, .null, .null, .null, .null, .null])))
set_option maxRecDepth 100000 in
theorem zt191 {K : PH → PR} : pF hc164 11000 11 21 (.ref 20046) K = K hc165 := pF_e (fs := [.int 0, .int 0, .ref 20028, .ref 20029, .ref 20030, .ref 20031, .ref 20032, .ref 20033, .ref 20034, .ref 20035, .ref 20036, .ref 20037, .ref 20038, .ref 20039, .ref 20040, .ref 20041, .ref 20042, .ref 20043, .int 0, .ref 20044, .ref 20045, .null, .null, .null, .null, .null, .null, .null, .null, .int 0, .int 0, .int 0, .int 0, .null, .int 0, .int 0, .int 0, .null, .null, .null, .null, .null, .int 0, .int 0, .int 0, .null, .null, .int 0, .int 0, .int 0, .int 0, .null, .null, .int 0, .null, .null, .null, .null, .null]) rfl (Nat.lt_of_sub_pos (by decide)) rfl
def hc166 : PH := ph_add hc165 20047 20 120 (.inl (0, 120, (fun _ => 0)))
set_option maxRecDepth 100000 in
theorem zt192 {K : Nat → PH → PR} : nA hc165 0 120 (fun _ => 0) K = K 20047 hc166 := nA_e (n := 47) (w := 120) rfl rfl (by decide) rfl (by decide)
def hc167 : PH := ph_put hc166 11000 (.inr (.inr (11, [.int 0, .int 0, .ref 20028, .ref 20029, .ref 20030, .ref 20031, .ref 20032, .ref 20033, .ref 20034, .ref 20035, .ref 20036, .ref 20037, .ref 20038, .ref 20039, .ref 20040, .ref 20041, .ref 20042, .ref 20043, .int 0, .ref 20044, .ref 20045, .ref 20046, .ref 20047, .null, .null, .null, .null, .null, .null, .int 0, .int 0, .int 0, .int 0, .null, .int 0, .int 0, .int 0, .null, .null, .null, .null, .null, .int 0, .int 0, .int 0, .null, .null, .int 0, .int 0, .int 0, .int 0, .null, .null, .int 0, .null, .null, .null, .null, .null])))
set_option maxRecDepth 100000 in
theorem zt193 {K : PH → PR} : pF hc166 11000 11 22 (.ref 20047) K = K hc167 := pF_e (fs := [.int 0, .int 0, .ref 20028, .ref 20029, .ref 20030, .ref 20031, .ref 20032, .ref 20033, .ref 20034, .ref 20035, .ref 20036, .ref 20037, .ref 20038, .ref 20039, .ref 20040, .ref 20041, .ref 20042, .ref 20043, .int 0, .ref 20044, .ref 20045, .ref 20046, .null, .null, .null, .null, .null, .null, .null, .int 0, .int 0, .int 0, .int 0, .null, .int 0, .int 0, .int 0, .null, .null, .null, .null, .null, .int 0, .int 0, .int 0, .null, .null, .int 0, .int 0, .int 0, .int 0, .null, .null, .int 0, .null, .null, .null, .null, .null]) rfl (Nat.lt_of_sub_pos (by decide)) rfl
def hc168 : PH := ph_add hc167 20048 20 120 (.inl (0, 120, (fun _ => 0)))
set_option maxRecDepth 100000 in
theorem zt194 {K : Nat → PH → PR} : nA hc167 0 120 (fun _ => 0) K = K 20048 hc168 := nA_e (n := 48) (w := 120) rfl rfl (by decide) rfl (by decide)
def hc169 : PH := ph_put hc168 11000 (.inr (.inr (11, [.int 0, .int 0, .ref 20028, .ref 20029, .ref 20030, .ref 20031, .ref 20032, .ref 20033, .ref 20034, .ref 20035, .ref 20036, .ref 20037, .ref 20038, .ref 20039, .ref 20040, .ref 20041, .ref 20042, .ref 20043, .int 0, .ref 20044, .ref 20045, .ref 20046, .ref 20047, .ref 20048, .null, .null, .null, .null, .null, .int 0, .int 0, .int 0, .int 0, .null, .int 0, .int 0, .int 0, .null, .null, .null, .null, .null, .int 0, .int 0, .int 0, .null, .null, .int 0, .int 0, .int 0, .int 0, .null, .null, .int 0, .null, .null, .null, .null, .null])))
set_option maxRecDepth 100000 in
theorem zt195 {K : PH → PR} : pF hc168 11000 11 23 (.ref 20048) K = K hc169 := pF_e (fs := [.int 0, .int 0, .ref 20028, .ref 20029, .ref 20030, .ref 20031, .ref 20032, .ref 20033, .ref 20034, .ref 20035, .ref 20036, .ref 20037, .ref 20038, .ref 20039, .ref 20040, .ref 20041, .ref 20042, .ref 20043, .int 0, .ref 20044, .ref 20045, .ref 20046, .ref 20047, .null, .null, .null, .null, .null, .null, .int 0, .int 0, .int 0, .int 0, .null, .int 0, .int 0, .int 0, .null, .null, .null, .null, .null, .int 0, .int 0, .int 0, .null, .null, .int 0, .int 0, .int 0, .int 0, .null, .null, .int 0, .null, .null, .null, .null, .null]) rfl (Nat.lt_of_sub_pos (by decide)) rfl
def hc170 : PH := ph_add hc169 20049 20 120 (.inl (0, 120, (fun _ => 0)))
set_option maxRecDepth 100000 in
theorem zt196 {K : Nat → PH → PR} : nA hc169 0 120 (fun _ => 0) K = K 20049 hc170 := nA_e (n := 49) (w := 120) rfl rfl (by decide) rfl (by decide)
def hc171 : PH := ph_put hc170 11000 (.inr (.inr (11, [.int 0, .int 0, .ref 20028, .ref 20029, .ref 20030, .ref 20031, .ref 20032, .ref 20033, .ref 20034, .ref 20035, .ref 20036, .ref 20037, .ref 20038, .ref 20039, .ref 20040, .ref 20041, .ref 20042, .ref 20043, .int 0, .ref 20044, .ref 20045, .ref 20046, .ref 20047, .ref 20048, .ref 20049, .null, .null, .null, .null, .int 0, .int 0, .int 0, .int 0, .null, .int 0, .int 0, .int 0, .null, .null, .null, .null, .null, .int 0, .int 0, .int 0, .null, .null, .int 0, .int 0, .int 0, .int 0, .null, .null, .int 0, .null, .null, .null, .null, .null])))
set_option maxRecDepth 100000 in
theorem zt197 {K : PH → PR} : pF hc170 11000 11 24 (.ref 20049) K = K hc171 := pF_e (fs := [.int 0, .int 0, .ref 20028, .ref 20029, .ref 20030, .ref 20031, .ref 20032, .ref 20033, .ref 20034, .ref 20035, .ref 20036, .ref 20037, .ref 20038, .ref 20039, .ref 20040, .ref 20041, .ref 20042, .ref 20043, .int 0, .ref 20044, .ref 20045, .ref 20046, .ref 20047, .ref 20048, .null, .null, .null, .null, .null, .int 0, .int 0, .int 0, .int 0, .null, .int 0, .int 0, .int 0, .null, .null, .null, .null, .null, .int 0, .int 0, .int 0, .null, .null, .int 0, .int 0, .int 0, .int 0, .null, .null, .int 0, .null, .null, .null, .null, .null]) rfl (Nat.lt_of_sub_pos (by decide)) rfl
def hc172 : PH := ph_add hc171 20050 20 120 (.inl (0, 120, (fun _ => 0)))
set_option maxRecDepth 100000 in
theorem zt198 {K : Nat → PH → PR} : nA hc171 0 120 (fun _ => 0) K = K 20050 hc172 := nA_e (n := 50) (w := 120) rfl rfl (by decide) rfl (by decide)
def hc173 : PH := ph_put hc172 11000 (.inr (.inr (11, [.int 0, .int 0, .ref 20028, .ref 20029, .ref 20030, .ref 20031, .ref 20032, .ref 20033, .ref 20034, .ref 20035, .ref 20036, .ref 20037, .ref 20038, .ref 20039, .ref 20040, .ref 20041, .ref 20042, .ref 20043, .int 0, .ref 20044, .ref 20045, .ref 20046, .ref 20047, .ref 20048, .ref 20049, .ref 20050, .null, .null, .null, .int 0, .int 0, .int 0, .int 0, .null, .int 0, .int 0, .int 0, .null, .null, .null, .null, .null, .int 0, .int 0, .int 0, .null, .null, .int 0, .int 0, .int 0, .int 0, .null, .null, .int 0, .null, .null, .null, .null, .null])))
set_option maxRecDepth 100000 in
theorem zt199 {K : PH → PR} : pF hc172 11000 11 25 (.ref 20050) K = K hc173 := pF_e (fs := [.int 0, .int 0, .ref 20028, .ref 20029, .ref 20030, .ref 20031, .ref 20032, .ref 20033, .ref 20034, .ref 20035, .ref 20036, .ref 20037, .ref 20038, .ref 20039, .ref 20040, .ref 20041, .ref 20042, .ref 20043, .int 0, .ref 20044, .ref 20045, .ref 20046, .ref 20047, .ref 20048, .ref 20049, .null, .null, .null, .null, .int 0, .int 0, .int 0, .int 0, .null, .int 0, .int 0, .int 0, .null, .null, .null, .null, .null, .int 0, .int 0, .int 0, .null, .null, .int 0, .int 0, .int 0, .int 0, .null, .null, .int 0, .null, .null, .null, .null, .null]) rfl (Nat.lt_of_sub_pos (by decide)) rfl
def hc174 : PH := ph_add hc173 20051 20 120 (.inl (0, 120, (fun _ => 0)))
set_option maxRecDepth 100000 in
theorem zt200 {K : Nat → PH → PR} : nA hc173 0 120 (fun _ => 0) K = K 20051 hc174 := nA_e (n := 51) (w := 120) rfl rfl (by decide) rfl (by decide)
def hc175 : PH := ph_put hc174 11000 (.inr (.inr (11, [.int 0, .int 0, .ref 20028, .ref 20029, .ref 20030, .ref 20031, .ref 20032, .ref 20033, .ref 20034, .ref 20035, .ref 20036, .ref 20037, .ref 20038, .ref 20039, .ref 20040, .ref 20041, .ref 20042, .ref 20043, .int 0, .ref 20044, .ref 20045, .ref 20046, .ref 20047, .ref 20048, .ref 20049, .ref 20050, .ref 20051, .null, .null, .int 0, .int 0, .int 0, .int 0, .null, .int 0, .int 0, .int 0, .null, .null, .null, .null, .null, .int 0, .int 0, .int 0, .null, .null, .int 0, .int 0, .int 0, .int 0, .null, .null, .int 0, .null, .null, .null, .null, .null])))
set_option maxRecDepth 100000 in
theorem zt201 {K : PH → PR} : pF hc174 11000 11 26 (.ref 20051) K = K hc175 := pF_e (fs := [.int 0, .int 0, .ref 20028, .ref 20029, .ref 20030, .ref 20031, .ref 20032, .ref 20033, .ref 20034, .ref 20035, .ref 20036, .ref 20037, .ref 20038, .ref 20039, .ref 20040, .ref 20041, .ref 20042, .ref 20043, .int 0, .ref 20044, .ref 20045, .ref 20046, .ref 20047, .ref 20048, .ref 20049, .ref 20050, .null, .null, .null, .int 0, .int 0, .int 0, .int 0, .null, .int 0, .int 0, .int 0, .null, .null, .null, .null, .null, .int 0, .int 0, .int 0, .null, .null, .int 0, .int 0, .int 0, .int 0, .null, .null, .int 0, .null, .null, .null, .null, .null]) rfl (Nat.lt_of_sub_pos (by decide)) rfl
def hc176 : PH := ph_add hc175 20052 20 201 (.inl (0, 201, (fun _ => 0)))
set_option maxRecDepth 100000 in
theorem zt202 {K : Nat → PH → PR} : nA hc175 0 201 (fun _ => 0) K = K 20052 hc176 := nA_e (n := 52) (w := 201) rfl rfl (by decide) rfl (by decide)
def hc177 : PH := ph_put hc176 11000 (.inr (.inr (11, [.int 0, .int 0, .ref 20028, .ref 20029, .ref 20030, .ref 20031, .ref 20032, .ref 20033, .ref 20034, .ref 20035, .ref 20036, .ref 20037, .ref 20038, .ref 20039, .ref 20040, .ref 20041, .ref 20042, .ref 20043, .int 0, .ref 20044, .ref 20045, .ref 20046, .ref 20047, .ref 20048, .ref 20049, .ref 20050, .ref 20051, .ref 20052, .null, .int 0, .int 0, .int 0, .int 0, .null, .int 0, .int 0, .int 0, .null, .null, .null, .null, .null, .int 0, .int 0, .int 0, .null, .null, .int 0, .int 0, .int 0, .int 0, .null, .null, .int 0, .null, .null, .null, .null, .null])))
set_option maxRecDepth 100000 in
theorem zt203 {K : PH → PR} : pF hc176 11000 11 27 (.ref 20052) K = K hc177 := pF_e (fs := [.int 0, .int 0, .ref 20028, .ref 20029, .ref 20030, .ref 20031, .ref 20032, .ref 20033, .ref 20034, .ref 20035, .ref 20036, .ref 20037, .ref 20038, .ref 20039, .ref 20040, .ref 20041, .ref 20042, .ref 20043, .int 0, .ref 20044, .ref 20045, .ref 20046, .ref 20047, .ref 20048, .ref 20049, .ref 20050, .ref 20051, .null, .null, .int 0, .int 0, .int 0, .int 0, .null, .int 0, .int 0, .int 0, .null, .null, .null, .null, .null, .int 0, .int 0, .int 0, .null, .null, .int 0, .int 0, .int 0, .int 0, .null, .null, .int 0, .null, .null, .null, .null, .null]) rfl (Nat.lt_of_sub_pos (by decide)) rfl
def hc178 : PH := ph_add hc177 20053 20 201 (.inl (0, 201, (fun _ => 0)))
set_option maxRecDepth 100000 in
theorem zt204 {K : Nat → PH → PR} : nA hc177 0 201 (fun _ => 0) K = K 20053 hc178 := nA_e (n := 53) (w := 201) rfl rfl (by decide) rfl (by decide)
def hc179 : PH := ph_put hc178 11000 (.inr (.inr (11, [.int 0, .int 0, .ref 20028, .ref 20029, .ref 20030, .ref 20031, .ref 20032, .ref 20033, .ref 20034, .ref 20035, .ref 20036, .ref 20037, .ref 20038, .ref 20039, .ref 20040, .ref 20041, .ref 20042, .ref 20043, .int 0, .ref 20044, .ref 20045, .ref 20046, .ref 20047, .ref 20048, .ref 20049, .ref 20050, .ref 20051, .ref 20052, .ref 20053, .int 0, .int 0, .int 0, .int 0, .null, .int 0, .int 0, .int 0, .null, .null, .null, .null, .null, .int 0, .int 0, .int 0, .null, .null, .int 0, .int 0, .int 0, .int 0, .null, .null, .int 0, .null, .null, .null, .null, .null])))
set_option maxRecDepth 100000 in
theorem zt205 {K : PH → PR} : pF hc178 11000 11 28 (.ref 20053) K = K hc179 := pF_e (fs := [.int 0, .int 0, .ref 20028, .ref 20029, .ref 20030, .ref 20031, .ref 20032, .ref 20033, .ref 20034, .ref 20035, .ref 20036, .ref 20037, .ref 20038, .ref 20039, .ref 20040, .ref 20041, .ref 20042, .ref 20043, .int 0, .ref 20044, .ref 20045, .ref 20046, .ref 20047, .ref 20048, .ref 20049, .ref 20050, .ref 20051, .ref 20052, .null, .int 0, .int 0, .int 0, .int 0, .null, .int 0, .int 0, .int 0, .null, .null, .null, .null, .null, .int 0, .int 0, .int 0, .null, .null, .int 0, .int 0, .int 0, .int 0, .null, .null, .int 0, .null, .null, .null, .null, .null]) rfl (Nat.lt_of_sub_pos (by decide)) rfl
def hc180 : PH := ph_put hc179 11000 (.inr (.inr (11, [.int 0, .int 0, .ref 20028, .ref 20029, .ref 20030, .ref 20031, .ref 20032, .ref 20033, .ref 20034, .ref 20035, .ref 20036, .ref 20037, .ref 20038, .ref 20039, .ref 20040, .ref 20041, .ref 20042, .ref 20043, .int 0, .ref 20044, .ref 20045, .ref 20046, .ref 20047, .ref 20048, .ref 20049, .ref 20050, .ref 20051, .ref 20052, .ref 20053, .int 0, .int 0, .int 0, .int 0, .null, .int 0, .int 0, .int 0, .null, .null, .null, .null, .null, .int 0, .int 0, .int 0, .null, .null, .int 0, .int 0, .int 0, .int 0, .null, .null, .int 0, .null, .null, .null, .null, .null])))
set_option maxRecDepth 100000 in
theorem zt206 {K : PH → PR} : pF hc179 11000 11 29 (.int 0) K = K hc180 := pF_e (fs := [.int 0, .int 0, .ref 20028, .ref 20029, .ref 20030, .ref 20031, .ref 20032, .ref 20033, .ref 20034, .ref 20035, .ref 20036, .ref 20037, .ref 20038, .ref 20039, .ref 20040, .ref 20041, .ref 20042, .ref 20043, .int 0, .ref 20044, .ref 20045, .ref 20046, .ref 20047, .ref 20048, .ref 20049, .ref 20050, .ref 20051, .ref 20052, .ref 20053, .int 0, .int 0, .int 0, .int 0, .null, .int 0, .int 0, .int 0, .null, .null, .null, .null, .null, .int 0, .int 0, .int 0, .null, .null, .int 0, .int 0, .int 0, .int 0, .null, .null, .int 0, .null, .null, .null, .null, .null]) rfl (Nat.lt_of_sub_pos (by decide)) rfl
def hc181 : PH := ph_put hc180 11000 (.inr (.inr (11, [.int 0, .int 0, .ref 20028, .ref 20029, .ref 20030, .ref 20031, .ref 20032, .ref 20033, .ref 20034, .ref 20035, .ref 20036, .ref 20037, .ref 20038, .ref 20039, .ref 20040, .ref 20041, .ref 20042, .ref 20043, .int 0, .ref 20044, .ref 20045, .ref 20046, .ref 20047, .ref 20048, .ref 20049, .ref 20050, .ref 20051, .ref 20052, .ref 20053, .int 0, .int 0, .int 0, .int 0, .null, .int 0, .int 0, .int 0, .null, .null, .null, .null, .null, .int 0, .int 0, .int 0, .null, .null, .int 0, .int 0, .int 0, .int 0, .null, .null, .int 0, .null, .null, .null, .null, .null])))
set_option maxRecDepth 100000 in
theorem zt207 {K : PH → PR} : pF hc180 11000 11 30 (.int 0) K = K hc181 := pF_e (fs := [.int 0, .int 0, .ref 20028, .ref 20029, .ref 20030, .ref 20031, .ref 20032, .ref 20033, .ref 20034, .ref 20035, .ref 20036, .ref 20037, .ref 20038, .ref 20039, .ref 20040, .ref 20041, .ref 20042, .ref 20043, .int 0, .ref 20044, .ref 20045, .ref 20046, .ref 20047, .ref 20048, .ref 20049, .ref 20050, .ref 20051, .ref 20052, .ref 20053, .int 0, .int 0, .int 0, .int 0, .null, .int 0, .int 0, .int 0, .null, .null, .null, .null, .null, .int 0, .int 0, .int 0, .null, .null, .int 0, .int 0, .int 0, .int 0, .null, .null, .int 0, .null, .null, .null, .null, .null]) rfl (Nat.lt_of_sub_pos (by decide)) rfl
def hc182 : PH := ph_put hc181 11000 (.inr (.inr (11, [.int 0, .int 0, .ref 20028, .ref 20029, .ref 20030, .ref 20031, .ref 20032, .ref 20033, .ref 20034, .ref 20035, .ref 20036, .ref 20037, .ref 20038, .ref 20039, .ref 20040, .ref 20041, .ref 20042, .ref 20043, .int 0, .ref 20044, .ref 20045, .ref 20046, .ref 20047, .ref 20048, .ref 20049, .ref 20050, .ref 20051, .ref 20052, .ref 20053, .int 0, .int 0, .int 0, .int 0, .null, .int 0, .int 0, .int 0, .null, .null, .null, .null, .null, .int 0, .int 0, .int 0, .null, .null, .int 0, .int 0, .int 0, .int 0, .null, .null, .int 0, .null, .null, .null, .null, .null])))
set_option maxRecDepth 100000 in
theorem zt208 {K : PH → PR} : pF hc181 11000 11 31 (.int 0) K = K hc182 := pF_e (fs := [.int 0, .int 0, .ref 20028, .ref 20029, .ref 20030, .ref 20031, .ref 20032, .ref 20033, .ref 20034, .ref 20035, .ref 20036, .ref 20037, .ref 20038, .ref 20039, .ref 20040, .ref 20041, .ref 20042, .ref 20043, .int 0, .ref 20044, .ref 20045, .ref 20046, .ref 20047, .ref 20048, .ref 20049, .ref 20050, .ref 20051, .ref 20052, .ref 20053, .int 0, .int 0, .int 0, .int 0, .null, .int 0, .int 0, .int 0, .null, .null, .null, .null, .null, .int 0, .int 0, .int 0, .null, .null, .int 0, .int 0, .int 0, .int 0, .null, .null, .int 0, .null, .null, .null, .null, .null]) rfl (Nat.lt_of_sub_pos (by decide)) rfl
def hc183 : PH := ph_put hc182 11000 (.inr (.inr (11, [.int 0, .int 0, .ref 20028, .ref 20029, .ref 20030, .ref 20031, .ref 20032, .ref 20033, .ref 20034, .ref 20035, .ref 20036, .ref 20037, .ref 20038, .ref 20039, .ref 20040, .ref 20041, .ref 20042, .ref 20043, .int 0, .ref 20044, .ref 20045, .ref 20046, .ref 20047, .ref 20048, .ref 20049, .ref 20050, .ref 20051, .ref 20052, .ref 20053, .int 0, .int 0, .int 0, .int 0, .null, .int 0, .int 0, .int 0, .null, .null, .null, .null, .null, .int 0, .int 0, .int 0, .null, .null, .int 0, .int 0, .int 0, .int 0, .null, .null, .int 0, .null, .null, .null, .null, .null])))
set_option maxRecDepth 100000 in
theorem zt209 {K : PH → PR} : pF hc182 11000 11 32 (.int 0) K = K hc183 := pF_e (fs := [.int 0, .int 0, .ref 20028, .ref 20029, .ref 20030, .ref 20031, .ref 20032, .ref 20033, .ref 20034, .ref 20035, .ref 20036, .ref 20037, .ref 20038, .ref 20039, .ref 20040, .ref 20041, .ref 20042, .ref 20043, .int 0, .ref 20044, .ref 20045, .ref 20046, .ref 20047, .ref 20048, .ref 20049, .ref 20050, .ref 20051, .ref 20052, .ref 20053, .int 0, .int 0, .int 0, .int 0, .null, .int 0, .int 0, .int 0, .null, .null, .null, .null, .null, .int 0, .int 0, .int 0, .null, .null, .int 0, .int 0, .int 0, .int 0, .null, .null, .int 0, .null, .null, .null, .null, .null]) rfl (Nat.lt_of_sub_pos (by decide)) rfl
def hc184 : PH := ph_add hc183 20054 20 200 (.inl (0, 200, (fun _ => 0)))
set_option maxRecDepth 100000 in
theorem zt210 {K : Nat → PH → PR} : nA hc183 0 200 (fun _ => 0) K = K 20054 hc184 := nA_e (n := 54) (w := 200) rfl rfl (by decide) rfl (by decide)
def hc185 : PH := ph_put hc184 11000 (.inr (.inr (11, [.int 0, .int 0, .ref 20028, .ref 20029, .ref 20030, .ref 20031, .ref 20032, .ref 20033, .ref 20034, .ref 20035, .ref 20036, .ref 20037, .ref 20038, .ref 20039, .ref 20040, .ref 20041, .ref 20042, .ref 20043, .int 0, .ref 20044, .ref 20045, .ref 20046, .ref 20047, .ref 20048, .ref 20049, .ref 20050, .ref 20051, .ref 20052, .ref 20053, .int 0, .int 0, .int 0, .int 0, .ref 20054, .int 0, .int 0, .int 0, .null, .null, .null, .null, .null, .int 0, .int 0, .int 0, .null, .null, .int 0, .int 0, .int 0, .int 0, .null, .null, .int 0, .null, .null, .null, .null, .null])))
set_option maxRecDepth 100000 in
theorem zt211 {K : PH → PR} : pF hc184 11000 11 33 (.ref 20054) K = K hc185 := pF_e (fs := [.int 0, .int 0, .ref 20028, .ref 20029, .ref 20030, .ref 20031, .ref 20032, .ref 20033, .ref 20034, .ref 20035, .ref 20036, .ref 20037, .ref 20038, .ref 20039, .ref 20040, .ref 20041, .ref 20042, .ref 20043, .int 0, .ref 20044, .ref 20045, .ref 20046, .ref 20047, .ref 20048, .ref 20049, .ref 20050, .ref 20051, .ref 20052, .ref 20053, .int 0, .int 0, .int 0, .int 0, .null, .int 0, .int 0, .int 0, .null, .null, .null, .null, .null, .int 0, .int 0, .int 0, .null, .null, .int 0, .int 0, .int 0, .int 0, .null, .null, .int 0, .null, .null, .null, .null, .null]) rfl (Nat.lt_of_sub_pos (by decide)) rfl
def hc186 : PH := ph_put hc185 11000 (.inr (.inr (11, [.int 0, .int 0, .ref 20028, .ref 20029, .ref 20030, .ref 20031, .ref 20032, .ref 20033, .ref 20034, .ref 20035, .ref 20036, .ref 20037, .ref 20038, .ref 20039, .ref 20040, .ref 20041, .ref 20042, .ref 20043, .int 0, .ref 20044, .ref 20045, .ref 20046, .ref 20047, .ref 20048, .ref 20049, .ref 20050, .ref 20051, .ref 20052, .ref 20053, .int 0, .int 0, .int 0, .int 0, .ref 20054, .int 0, .int 0, .int 0, .null, .null, .null, .null, .null, .int 0, .int 0, .int 0, .null, .null, .int 0, .int 0, .int 0, .int 0, .null, .null, .int 0, .null, .null, .null, .null, .null])))
set_option maxRecDepth 100000 in
theorem zt212 {K : PH → PR} : pF hc185 11000 11 34 (.int 0) K = K hc186 := pF_e (fs := [.int 0, .int 0, .ref 20028, .ref 20029, .ref 20030, .ref 20031, .ref 20032, .ref 20033, .ref 20034, .ref 20035, .ref 20036, .ref 20037, .ref 20038, .ref 20039, .ref 20040, .ref 20041, .ref 20042, .ref 20043, .int 0, .ref 20044, .ref 20045, .ref 20046, .ref 20047, .ref 20048, .ref 20049, .ref 20050, .ref 20051, .ref 20052, .ref 20053, .int 0, .int 0, .int 0, .int 0, .ref 20054, .int 0, .int 0, .int 0, .null, .null, .null, .null, .null, .int 0, .int 0, .int 0, .null, .null, .int 0, .int 0, .int 0, .int 0, .null, .null, .int 0, .null, .null, .null, .null, .null]) rfl (Nat.lt_of_sub_pos (by decide)) rfl
def hc187 : PH := ph_put hc186 11000 (.inr (.inr (11, [.int 0, .int 0, .ref 20028, .ref 20029, .ref 20030, .ref 20031, .ref 20032, .ref 20033, .ref 20034, .ref 20035, .ref 20036, .ref 20037, .ref 20038, .ref 20039, .ref 20040, .ref 20041, .ref 20042, .ref 20043, .int 0, .ref 20044, .ref 20045, .ref 20046, .ref 20047, .ref 20048, .ref 20049, .ref 20050, .ref 20051, .ref 20052, .ref 20053, .int 0, .int 0, .int 0, .int 0, .ref 20054, .int 0, .int 0, .int 0, .null, .null, .null, .null, .null, .int 0, .int 0, .int 0, .null, .null, .int 0, .int 0, .int 0, .int 0, .null, .null, .int 0, .null, .null, .null, .null, .null])))
set_option maxRecDepth 100000 in
theorem zt213 {K : PH → PR} : pF hc186 11000 11 35 (.int 0) K = K hc187 := pF_e (fs := [.int 0, .int 0, .ref 20028, .ref 20029, .ref 20030, .ref 20031, .ref 20032, .ref 20033, .ref 20034, .ref 20035, .ref 20036, .ref 20037, .ref 20038, .ref 20039, .ref 20040, .ref 20041, .ref 20042, .ref 20043, .int 0, .ref 20044, .ref 20045, .ref 20046, .ref 20047, .ref 20048, .ref 20049, .ref 20050, .ref 20051, .ref 20052, .ref 20053, .int 0, .int 0, .int 0, .int 0, .ref 20054, .int 0, .int 0, .int 0, .null, .null, .null, .null, .null, .int 0, .int 0, .int 0, .null, .null, .int 0, .int 0, .int 0, .int 0, .null, .null, .int 0, .null, .null, .null, .null, .null]) rfl (Nat.lt_of_sub_pos (by decide)) rfl
def hc188 : PH := ph_put hc187 11000 (.inr (.inr (11, [.int 0, .int 0, .ref 20028, .ref 20029, .ref 20030, .ref 20031, .ref 20032, .ref 20033, .ref 20034, .ref 20035, .ref 20036, .ref 20037, .ref 20038, .ref 20039, .ref 20040, .ref 20041, .ref 20042, .ref 20043, .int 0, .ref 20044, .ref 20045, .ref 20046, .ref 20047, .ref 20048, .ref 20049, .ref 20050, .ref 20051, .ref 20052, .ref 20053, .int 0, .int 0, .int 0, .int 0, .ref 20054, .int 0, .int 0, .int 0, .null, .null, .null, .null, .null, .int 0, .int 0, .int 0, .null, .null, .int 0, .int 0, .int 0, .int 0, .null, .null, .int 0, .null, .null, .null, .null, .null])))
set_option maxRecDepth 100000 in
theorem zt214 {K : PH → PR} : pF hc187 11000 11 36 (.int 0) K = K hc188 := pF_e (fs := [.int 0, .int 0, .ref 20028, .ref 20029, .ref 20030, .ref 20031, .ref 20032, .ref 20033, .ref 20034, .ref 20035, .ref 20036, .ref 20037, .ref 20038, .ref 20039, .ref 20040, .ref 20041, .ref 20042, .ref 20043, .int 0, .ref 20044, .ref 20045, .ref 20046, .ref 20047, .ref 20048, .ref 20049, .ref 20050, .ref 20051, .ref 20052, .ref 20053, .int 0, .int 0, .int 0, .int 0, .ref 20054, .int 0, .int 0, .int 0, .null, .null, .null, .null, .null, .int 0, .int 0, .int 0, .null, .null, .int 0, .int 0, .int 0, .int 0, .null, .null, .int 0, .null, .null, .null, .null, .null]) rfl (Nat.lt_of_sub_pos (by decide)) rfl
def hc189 : PH := ph_add hc188 20055 20 12 (.inl (0, 12, (fun _ => 0)))
set_option maxRecDepth 100000 in
theorem zt215 {K : Nat → PH → PR} : nA hc188 0 12 (fun _ => 0) K = K 20055 hc189 := nA_e (n := 55) (w := 12) rfl rfl (by decide) rfl (by decide)
def hc190 : PH := ph_put hc189 11000 (.inr (.inr (11, [.int 0, .int 0, .ref 20028, .ref 20029, .ref 20030, .ref 20031, .ref 20032, .ref 20033, .ref 20034, .ref 20035, .ref 20036, .ref 20037, .ref 20038, .ref 20039, .ref 20040, .ref 20041, .ref 20042, .ref 20043, .int 0, .ref 20044, .ref 20045, .ref 20046, .ref 20047, .ref 20048, .ref 20049, .ref 20050, .ref 20051, .ref 20052, .ref 20053, .int 0, .int 0, .int 0, .int 0, .ref 20054, .int 0, .int 0, .int 0, .ref 20055, .null, .null, .null, .null, .int 0, .int 0, .int 0, .null, .null, .int 0, .int 0, .int 0, .int 0, .null, .null, .int 0, .null, .null, .null, .null, .null])))
set_option maxRecDepth 100000 in
theorem zt216 {K : PH → PR} : pF hc189 11000 11 37 (.ref 20055) K = K hc190 := pF_e (fs := [.int 0, .int 0, .ref 20028, .ref 20029, .ref 20030, .ref 20031, .ref 20032, .ref 20033, .ref 20034, .ref 20035, .ref 20036, .ref 20037, .ref 20038, .ref 20039, .ref 20040, .ref 20041, .ref 20042, .ref 20043, .int 0, .ref 20044, .ref 20045, .ref 20046, .ref 20047, .ref 20048, .ref 20049, .ref 20050, .ref 20051, .ref 20052, .ref 20053, .int 0, .int 0, .int 0, .int 0, .ref 20054, .int 0, .int 0, .int 0, .null, .null, .null, .null, .null, .int 0, .int 0, .int 0, .null, .null, .int 0, .int 0, .int 0, .int 0, .null, .null, .int 0, .null, .null, .null, .null, .null]) rfl (Nat.lt_of_sub_pos (by decide)) rfl
def hc191 : PH := ph_add hc190 20056 20 12 (.inl (0, 12, (fun _ => 0)))
set_option maxRecDepth 100000 in
theorem zt217 {K : Nat → PH → PR} : nA hc190 0 12 (fun _ => 0) K = K 20056 hc191 := nA_e (n := 56) (w := 12) rfl rfl (by decide) rfl (by decide)
def hc192 : PH := ph_put hc191 11000 (.inr (.inr (11, [.int 0, .int 0, .ref 20028, .ref 20029, .ref 20030, .ref 20031, .ref 20032, .ref 20033, .ref 20034, .ref 20035, .ref 20036, .ref 20037, .ref 20038, .ref 20039, .ref 20040, .ref 20041, .ref 20042, .ref 20043, .int 0, .ref 20044, .ref 20045, .ref 20046, .ref 20047, .ref 20048, .ref 20049, .ref 20050, .ref 20051, .ref 20052, .ref 20053, .int 0, .int 0, .int 0, .int 0, .ref 20054, .int 0, .int 0, .int 0, .ref 20055, .ref 20056, .null, .null, .null, .int 0, .int 0, .int 0, .null, .null, .int 0, .int 0, .int 0, .int 0, .null, .null, .int 0, .null, .null, .null, .null, .null])))
set_option maxRecDepth 100000 in
theorem zt218 {K : PH → PR} : pF hc191 11000 11 38 (.ref 20056) K = K hc192 := pF_e (fs := [.int 0, .int 0, .ref 20028, .ref 20029, .ref 20030, .ref 20031, .ref 20032, .ref 20033, .ref 20034, .ref 20035, .ref 20036, .ref 20037, .ref 20038, .ref 20039, .ref 20040, .ref 20041, .ref 20042, .ref 20043, .int 0, .ref 20044, .ref 20045, .ref 20046, .ref 20047, .ref 20048, .ref 20049, .ref 20050, .ref 20051, .ref 20052, .ref 20053, .int 0, .int 0, .int 0, .int 0, .ref 20054, .int 0, .int 0, .int 0, .ref 20055, .null, .null, .null, .null, .int 0, .int 0, .int 0, .null, .null, .int 0, .int 0, .int 0, .int 0, .null, .null, .int 0, .null, .null, .null, .null, .null]) rfl (Nat.lt_of_sub_pos (by decide)) rfl
def hc193 : PH := ph_add hc192 20057 20 1040 (.inl (0, 1040, (fun _ => 0)))
set_option maxRecDepth 100000 in
theorem zt219 {K : Nat → PH → PR} : nA hc192 0 1040 (fun _ => 0) K = K 20057 hc193 := nA_e (n := 57) (w := 1040) rfl rfl (by decide) rfl (by decide)
def hc194 : PH := ph_put hc193 11000 (.inr (.inr (11, [.int 0, .int 0, .ref 20028, .ref 20029, .ref 20030, .ref 20031, .ref 20032, .ref 20033, .ref 20034, .ref 20035, .ref 20036, .ref 20037, .ref 20038, .ref 20039, .ref 20040, .ref 20041, .ref 20042, .ref 20043, .int 0, .ref 20044, .ref 20045, .ref 20046, .ref 20047, .ref 20048, .ref 20049, .ref 20050, .ref 20051, .ref 20052, .ref 20053, .int 0, .int 0, .int 0, .int 0, .ref 20054, .int 0, .int 0, .int 0, .ref 20055, .ref 20056, .ref 20057, .null, .null, .int 0, .int 0, .int 0, .null, .null, .int 0, .int 0, .int 0, .int 0, .null, .null, .int 0, .null, .null, .null, .null, .null])))
set_option maxRecDepth 100000 in
theorem zt220 {K : PH → PR} : pF hc193 11000 11 39 (.ref 20057) K = K hc194 := pF_e (fs := [.int 0, .int 0, .ref 20028, .ref 20029, .ref 20030, .ref 20031, .ref 20032, .ref 20033, .ref 20034, .ref 20035, .ref 20036, .ref 20037, .ref 20038, .ref 20039, .ref 20040, .ref 20041, .ref 20042, .ref 20043, .int 0, .ref 20044, .ref 20045, .ref 20046, .ref 20047, .ref 20048, .ref 20049, .ref 20050, .ref 20051, .ref 20052, .ref 20053, .int 0, .int 0, .int 0, .int 0, .ref 20054, .int 0, .int 0, .int 0, .ref 20055, .ref 20056, .null, .null, .null, .int 0, .int 0, .int 0, .null, .null, .int 0, .int 0, .int 0, .int 0, .null, .null, .int 0, .null, .null, .null, .null, .null]) rfl (Nat.lt_of_sub_pos (by decide)) rfl
def hc195 : PH := ph_add hc194 20058 20 13 (.inl (0, 13, (fun _ => 0)))
set_option maxRecDepth 100000 in
theorem zt221 {K : Nat → PH → PR} : nA hc194 0 13 (fun _ => 0) K = K 20058 hc195 := nA_e (n := 58) (w := 13) rfl rfl (by decide) rfl (by decide)
def hc196 : PH := ph_put hc195 11000 (.inr (.inr (11, [.int 0, .int 0, .ref 20028, .ref 20029, .ref 20030, .ref 20031, .ref 20032, .ref 20033, .ref 20034, .ref 20035, .ref 20036, .ref 20037, .ref 20038, .ref 20039, .ref 20040, .ref 20041, .ref 20042, .ref 20043, .int 0, .ref 20044, .ref 20045, .ref 20046, .ref 20047, .ref 20048, .ref 20049, .ref 20050, .ref 20051, .ref 20052, .ref 20053, .int 0, .int 0, .int 0, .int 0, .ref 20054, .int 0, .int 0, .int 0, .ref 20055, .ref 20056, .ref 20057, .ref 20058, .null, .int 0, .int 0, .int 0, .null, .null, .int 0, .int 0, .int 0, .int 0, .null, .null, .int 0, .null, .null, .null, .null, .null])))
set_option maxRecDepth 100000 in
theorem zt222 {K : PH → PR} : pF hc195 11000 11 40 (.ref 20058) K = K hc196 := pF_e (fs := [.int 0, .int 0, .ref 20028, .ref 20029, .ref 20030, .ref 20031, .ref 20032, .ref 20033, .ref 20034, .ref 20035, .ref 20036, .ref 20037, .ref 20038, .ref 20039, .ref 20040, .ref 20041, .ref 20042, .ref 20043, .int 0, .ref 20044, .ref 20045, .ref 20046, .ref 20047, .ref 20048, .ref 20049, .ref 20050, .ref 20051, .ref 20052, .ref 20053, .int 0, .int 0, .int 0, .int 0, .ref 20054, .int 0, .int 0, .int 0, .ref 20055, .ref 20056, .ref 20057, .null, .null, .int 0, .int 0, .int 0, .null, .null, .int 0, .int 0, .int 0, .int 0, .null, .null, .int 0, .null, .null, .null, .null, .null]) rfl (Nat.lt_of_sub_pos (by decide)) rfl
def hc197 : PH := ph_add hc196 20059 20 9 (.inl (0, 9, (fun _ => 0)))
set_option maxRecDepth 100000 in
theorem zt223 {K : Nat → PH → PR} : nA hc196 0 9 (fun _ => 0) K = K 20059 hc197 := nA_e (n := 59) (w := 9) rfl rfl (by decide) rfl (by decide)
def hc198 : PH := ph_put hc197 11000 (.inr (.inr (11, [.int 0, .int 0, .ref 20028, .ref 20029, .ref 20030, .ref 20031, .ref 20032, .ref 20033, .ref 20034, .ref 20035, .ref 20036, .ref 20037, .ref 20038, .ref 20039, .ref 20040, .ref 20041, .ref 20042, .ref 20043, .int 0, .ref 20044, .ref 20045, .ref 20046, .ref 20047, .ref 20048, .ref 20049, .ref 20050, .ref 20051, .ref 20052, .ref 20053, .int 0, .int 0, .int 0, .int 0, .ref 20054, .int 0, .int 0, .int 0, .ref 20055, .ref 20056, .ref 20057, .ref 20058, .ref 20059, .int 0, .int 0, .int 0, .null, .null, .int 0, .int 0, .int 0, .int 0, .null, .null, .int 0, .null, .null, .null, .null, .null])))
set_option maxRecDepth 100000 in
theorem zt224 {K : PH → PR} : pF hc197 11000 11 41 (.ref 20059) K = K hc198 := pF_e (fs := [.int 0, .int 0, .ref 20028, .ref 20029, .ref 20030, .ref 20031, .ref 20032, .ref 20033, .ref 20034, .ref 20035, .ref 20036, .ref 20037, .ref 20038, .ref 20039, .ref 20040, .ref 20041, .ref 20042, .ref 20043, .int 0, .ref 20044, .ref 20045, .ref 20046, .ref 20047, .ref 20048, .ref 20049, .ref 20050, .ref 20051, .ref 20052, .ref 20053, .int 0, .int 0, .int 0, .int 0, .ref 20054, .int 0, .int 0, .int 0, .ref 20055, .ref 20056, .ref 20057, .ref 20058, .null, .int 0, .int 0, .int 0, .null, .null, .int 0, .int 0, .int 0, .int 0, .null, .null, .int 0, .null, .null, .null, .null, .null]) rfl (Nat.lt_of_sub_pos (by decide)) rfl
def hc199 : PH := ph_put hc198 11000 (.inr (.inr (11, [.int 0, .int 0, .ref 20028, .ref 20029, .ref 20030, .ref 20031, .ref 20032, .ref 20033, .ref 20034, .ref 20035, .ref 20036, .ref 20037, .ref 20038, .ref 20039, .ref 20040, .ref 20041, .ref 20042, .ref 20043, .int 0, .ref 20044, .ref 20045, .ref 20046, .ref 20047, .ref 20048, .ref 20049, .ref 20050, .ref 20051, .ref 20052, .ref 20053, .int 0, .int 0, .int 0, .int 0, .ref 20054, .int 0, .int 0, .int 0, .ref 20055, .ref 20056, .ref 20057, .ref 20058, .ref 20059, .int 0, .int 0, .int 0, .null, .null, .int 0, .int 0, .int 0, .int 0, .null, .null, .int 0, .null, .null, .null, .null, .null])))
set_option maxRecDepth 100000 in
theorem zt225 {K : PH → PR} : pF hc198 11000 11 42 (.int 0) K = K hc199 := pF_e (fs := [.int 0, .int 0, .ref 20028, .ref 20029, .ref 20030, .ref 20031, .ref 20032, .ref 20033, .ref 20034, .ref 20035, .ref 20036, .ref 20037, .ref 20038, .ref 20039, .ref 20040, .ref 20041, .ref 20042, .ref 20043, .int 0, .ref 20044, .ref 20045, .ref 20046, .ref 20047, .ref 20048, .ref 20049, .ref 20050, .ref 20051, .ref 20052, .ref 20053, .int 0, .int 0, .int 0, .int 0, .ref 20054, .int 0, .int 0, .int 0, .ref 20055, .ref 20056, .ref 20057, .ref 20058, .ref 20059, .int 0, .int 0, .int 0, .null, .null, .int 0, .int 0, .int 0, .int 0, .null, .null, .int 0, .null, .null, .null, .null, .null]) rfl (Nat.lt_of_sub_pos (by decide)) rfl
def hc200 : PH := ph_put hc199 11000 (.inr (.inr (11, [.int 0, .int 0, .ref 20028, .ref 20029, .ref 20030, .ref 20031, .ref 20032, .ref 20033, .ref 20034, .ref 20035, .ref 20036, .ref 20037, .ref 20038, .ref 20039, .ref 20040, .ref 20041, .ref 20042, .ref 20043, .int 0, .ref 20044, .ref 20045, .ref 20046, .ref 20047, .ref 20048, .ref 20049, .ref 20050, .ref 20051, .ref 20052, .ref 20053, .int 0, .int 0, .int 0, .int 0, .ref 20054, .int 0, .int 0, .int 0, .ref 20055, .ref 20056, .ref 20057, .ref 20058, .ref 20059, .int 0, .int 0, .int 0, .null, .null, .int 0, .int 0, .int 0, .int 0, .null, .null, .int 0, .null, .null, .null, .null, .null])))
set_option maxRecDepth 100000 in
theorem zt226 {K : PH → PR} : pF hc199 11000 11 43 (.int 0) K = K hc200 := pF_e (fs := [.int 0, .int 0, .ref 20028, .ref 20029, .ref 20030, .ref 20031, .ref 20032, .ref 20033, .ref 20034, .ref 20035, .ref 20036, .ref 20037, .ref 20038, .ref 20039, .ref 20040, .ref 20041, .ref 20042, .ref 20043, .int 0, .ref 20044, .ref 20045, .ref 20046, .ref 20047, .ref 20048, .ref 20049, .ref 20050, .ref 20051, .ref 20052, .ref 20053, .int 0, .int 0, .int 0, .int 0, .ref 20054, .int 0, .int 0, .int 0, .ref 20055, .ref 20056, .ref 20057, .ref 20058, .ref 20059, .int 0, .int 0, .int 0, .null, .null, .int 0, .int 0, .int 0, .int 0, .null, .null, .int 0, .null, .null, .null, .null, .null]) rfl (Nat.lt_of_sub_pos (by decide)) rfl
def hc201 : PH := ph_put hc200 11000 (.inr (.inr (11, [.int 0, .int 0, .ref 20028, .ref 20029, .ref 20030, .ref 20031, .ref 20032, .ref 20033, .ref 20034, .ref 20035, .ref 20036, .ref 20037, .ref 20038, .ref 20039, .ref 20040, .ref 20041, .ref 20042, .ref 20043, .int 0, .ref 20044, .ref 20045, .ref 20046, .ref 20047, .ref 20048, .ref 20049, .ref 20050, .ref 20051, .ref 20052, .ref 20053, .int 0, .int 0, .int 0, .int 0, .ref 20054, .int 0, .int 0, .int 0, .ref 20055, .ref 20056, .ref 20057, .ref 20058, .ref 20059, .int 0, .int 0, .int 0, .null, .null, .int 0, .int 0, .int 0, .int 0, .null, .null, .int 0, .null, .null, .null, .null, .null])))
set_option maxRecDepth 100000 in
theorem zt227 {K : PH → PR} : pF hc200 11000 11 44 (.int 0) K = K hc201 := pF_e (fs := [.int 0, .int 0, .ref 20028, .ref 20029, .ref 20030, .ref 20031, .ref 20032, .ref 20033, .ref 20034, .ref 20035, .ref 20036, .ref 20037, .ref 20038, .ref 20039, .ref 20040, .ref 20041, .ref 20042, .ref 20043, .int 0, .ref 20044, .ref 20045, .ref 20046, .ref 20047, .ref 20048, .ref 20049, .ref 20050, .ref 20051, .ref 20052, .ref 20053, .int 0, .int 0, .int 0, .int 0, .ref 20054, .int 0, .int 0, .int 0, .ref 20055, .ref 20056, .ref 20057, .ref 20058, .ref 20059, .int 0, .int 0, .int 0, .null, .null, .int 0, .int 0, .int 0, .int 0, .null, .null, .int 0, .null, .null, .null, .null, .null]) rfl (Nat.lt_of_sub_pos (by decide)) rfl
def hc202 : PH := ph_add hc201 20060 20 81 (.inl (0, 81, (fun _ => 0)))
set_option maxRecDepth 100000 in
theorem zt228 {K : Nat → PH → PR} : nA hc201 0 81 (fun _ => 0) K = K 20060 hc202 := nA_e (n := 60) (w := 81) rfl rfl (by decide) rfl (by decide)
def hc203 : PH := ph_put hc202 11000 (.inr (.inr (11, [.int 0, .int 0, .ref 20028, .ref 20029, .ref 20030, .ref 20031, .ref 20032, .ref 20033, .ref 20034, .ref 20035, .ref 20036, .ref 20037, .ref 20038, .ref 20039, .ref 20040, .ref 20041, .ref 20042, .ref 20043, .int 0, .ref 20044, .ref 20045, .ref 20046, .ref 20047, .ref 20048, .ref 20049, .ref 20050, .ref 20051, .ref 20052, .ref 20053, .int 0, .int 0, .int 0, .int 0, .ref 20054, .int 0, .int 0, .int 0, .ref 20055, .ref 20056, .ref 20057, .ref 20058, .ref 20059, .int 0, .int 0, .int 0, .ref 20060, .null, .int 0, .int 0, .int 0, .int 0, .null, .null, .int 0, .null, .null, .null, .null, .null])))
set_option maxRecDepth 100000 in
theorem zt229 {K : PH → PR} : pF hc202 11000 11 45 (.ref 20060) K = K hc203 := pF_e (fs := [.int 0, .int 0, .ref 20028, .ref 20029, .ref 20030, .ref 20031, .ref 20032, .ref 20033, .ref 20034, .ref 20035, .ref 20036, .ref 20037, .ref 20038, .ref 20039, .ref 20040, .ref 20041, .ref 20042, .ref 20043, .int 0, .ref 20044, .ref 20045, .ref 20046, .ref 20047, .ref 20048, .ref 20049, .ref 20050, .ref 20051, .ref 20052, .ref 20053, .int 0, .int 0, .int 0, .int 0, .ref 20054, .int 0, .int 0, .int 0, .ref 20055, .ref 20056, .ref 20057, .ref 20058, .ref 20059, .int 0, .int 0, .int 0, .null, .null, .int 0, .int 0, .int 0, .int 0, .null, .null, .int 0, .null, .null, .null, .null, .null]) rfl (Nat.lt_of_sub_pos (by decide)) rfl
def hc204 : PH := ph_add hc203 20061 20 81 (.inl (1, 81, (fun _ => 0)))
set_option maxRecDepth 100000 in
theorem zt230 {K : Nat → PH → PR} : nA hc203 1 81 (fun _ => 0) K = K 20061 hc204 := nA_e (n := 61) (w := 81) rfl rfl (by decide) rfl (by decide)
def hc205 : PH := ph_put hc204 11000 (.inr (.inr (11, [.int 0, .int 0, .ref 20028, .ref 20029, .ref 20030, .ref 20031, .ref 20032, .ref 20033, .ref 20034, .ref 20035, .ref 20036, .ref 20037, .ref 20038, .ref 20039, .ref 20040, .ref 20041, .ref 20042, .ref 20043, .int 0, .ref 20044, .ref 20045, .ref 20046, .ref 20047, .ref 20048, .ref 20049, .ref 20050, .ref 20051, .ref 20052, .ref 20053, .int 0, .int 0, .int 0, .int 0, .ref 20054, .int 0, .int 0, .int 0, .ref 20055, .ref 20056, .ref 20057, .ref 20058, .ref 20059, .int 0, .int 0, .int 0, .ref 20060, .ref 20061, .int 0, .int 0, .int 0, .int 0, .null, .null, .int 0, .null, .null, .null, .null, .null])))
set_option maxRecDepth 100000 in
theorem zt231 {K : PH → PR} : pF hc204 11000 11 46 (.ref 20061) K = K hc205 := pF_e (fs := [.int 0, .int 0, .ref 20028, .ref 20029, .ref 20030, .ref 20031, .ref 20032, .ref 20033, .ref 20034, .ref 20035, .ref 20036, .ref 20037, .ref 20038, .ref 20039, .ref 20040, .ref 20041, .ref 20042, .ref 20043, .int 0, .ref 20044, .ref 20045, .ref 20046, .ref 20047, .ref 20048, .ref 20049, .ref 20050, .ref 20051, .ref 20052, .ref 20053, .int 0, .int 0, .int 0, .int 0, .ref 20054, .int 0, .int 0, .int 0, .ref 20055, .ref 20056, .ref 20057, .ref 20058, .ref 20059, .int 0, .int 0, .int 0, .ref 20060, .null, .int 0, .int 0, .int 0, .int 0, .null, .null, .int 0, .null, .null, .null, .null, .null]) rfl (Nat.lt_of_sub_pos (by decide)) rfl
def hc206 : PH := ph_put hc205 11000 (.inr (.inr (11, [.int 0, .int 0, .ref 20028, .ref 20029, .ref 20030, .ref 20031, .ref 20032, .ref 20033, .ref 20034, .ref 20035, .ref 20036, .ref 20037, .ref 20038, .ref 20039, .ref 20040, .ref 20041, .ref 20042, .ref 20043, .int 0, .ref 20044, .ref 20045, .ref 20046, .ref 20047, .ref 20048, .ref 20049, .ref 20050, .ref 20051, .ref 20052, .ref 20053, .int 0, .int 0, .int 0, .int 0, .ref 20054, .int 0, .int 0, .int 0, .ref 20055, .ref 20056, .ref 20057, .ref 20058, .ref 20059, .int 0, .int 0, .int 0, .ref 20060, .ref 20061, .int 0, .int 0, .int 0, .int 0, .null, .null, .int 0, .null, .null, .null, .null, .null])))
set_option maxRecDepth 100000 in
theorem zt232 {K : PH → PR} : pF hc205 11000 11 47 (.int 0) K = K hc206 := pF_e (fs := [.int 0, .int 0, .ref 20028, .ref 20029, .ref 20030, .ref 20031, .ref 20032, .ref 20033, .ref 20034, .ref 20035, .ref 20036, .ref 20037, .ref 20038, .ref 20039, .ref 20040, .ref 20041, .ref 20042, .ref 20043, .int 0, .ref 20044, .ref 20045, .ref 20046, .ref 20047, .ref 20048, .ref 20049, .ref 20050, .ref 20051, .ref 20052, .ref 20053, .int 0, .int 0, .int 0, .int 0, .ref 20054, .int 0, .int 0, .int 0, .ref 20055, .ref 20056, .ref 20057, .ref 20058, .ref 20059, .int 0, .int 0, .int 0, .ref 20060, .ref 20061, .int 0, .int 0, .int 0, .int 0, .null, .null, .int 0, .null, .null, .null, .null, .null]) rfl (Nat.lt_of_sub_pos (by decide)) rfl
def hc207 : PH := ph_put hc206 11000 (.inr (.inr (11, [.int 0, .int 0, .ref 20028, .ref 20029, .ref 20030, .ref 20031, .ref 20032, .ref 20033, .ref 20034, .ref 20035, .ref 20036, .ref 20037, .ref 20038, .ref 20039, .ref 20040, .ref 20041, .ref 20042, .ref 20043, .int 0, .ref 20044, .ref 20045, .ref 20046, .ref 20047, .ref 20048, .ref 20049, .ref 20050, .ref 20051, .ref 20052, .ref 20053, .int 0, .int 0, .int 0, .int 0, .ref 20054, .int 0, .int 0, .int 0, .ref 20055, .ref 20056, .ref 20057, .ref 20058, .ref 20059, .int 0, .int 0, .int 0, .ref 20060, .ref 20061, .int 0, .int 0, .int 0, .int 0, .null, .null, .int 0, .null, .null, .null, .null, .null])))
set_option maxRecDepth 100000 in
theorem zt233 {K : PH → PR} : pF hc206 11000 11 48 (.int 0) K = K hc207 := pF_e (fs := [.int 0, .int 0, .ref 20028, .ref 20029, .ref 20030, .ref 20031, .ref 20032, .ref 20033, .ref 20034, .ref 20035, .ref 20036, .ref 20037, .ref 20038, .ref 20039, .ref 20040, .ref 20041, .ref 20042, .ref 20043, .int 0, .ref 20044, .ref 20045, .ref 20046, .ref 20047, .ref 20048, .ref 20049, .ref 20050, .ref 20051, .ref 20052, .ref 20053, .int 0, .int 0, .int 0, .int 0, .ref 20054, .int 0, .int 0, .int 0, .ref 20055, .ref 20056, .ref 20057, .ref 20058, .ref 20059, .int 0, .int 0, .int 0, .ref 20060, .ref 20061, .int 0, .int 0, .int 0, .int 0, .null, .null, .int 0, .null, .null, .null, .null, .null]) rfl (Nat.lt_of_sub_pos (by decide)) rfl
def hc208 : PH := ph_put hc207 11000 (.inr (.inr (11, [.int 0, .int 0, .ref 20028, .ref 20029, .ref 20030, .ref 20031, .ref 20032, .ref 20033, .ref 20034, .ref 20035, .ref 20036, .ref 20037, .ref 20038, .ref 20039, .ref 20040, .ref 20041, .ref 20042, .ref 20043, .int 0, .ref 20044, .ref 20045, .ref 20046, .ref 20047, .ref 20048, .ref 20049, .ref 20050, .ref 20051, .ref 20052, .ref 20053, .int 0, .int 0, .int 0, .int 0, .ref 20054, .int 0, .int 0, .int 0, .ref 20055, .ref 20056, .ref 20057, .ref 20058, .ref 20059, .int 0, .int 0, .int 0, .ref 20060, .ref 20061, .int 0, .int 0, .int 0, .int 0, .null, .null, .int 0, .null, .null, .null, .null, .null])))
set_option maxRecDepth 100000 in
theorem zt234 {K : PH → PR} : pF hc207 11000 11 49 (.int 0) K = K hc208 := pF_e (fs := [.int 0, .int 0, .ref 20028, .ref 20029, .ref 20030, .ref 20031, .ref 20032, .ref 20033, .ref 20034, .ref 20035, .ref 20036, .ref 20037, .ref 20038, .ref 20039, .ref 20040, .ref 20041, .ref 20042, .ref 20043, .int 0, .ref 20044, .ref 20045, .ref 20046, .ref 20047, .ref 20048, .ref 20049, .ref 20050, .ref 20051, .ref 20052, .ref 20053, .int 0, .int 0, .int 0, .int 0, .ref 20054, .int 0, .int 0, .int 0, .ref 20055, .ref 20056, .ref 20057, .ref 20058, .ref 20059, .int 0, .int 0, .int 0, .ref 20060, .ref 20061, .int 0, .int 0, .int 0, .int 0, .null, .null, .int 0, .null, .null, .null, .null, .null]) rfl (Nat.lt_of_sub_pos (by decide)) rfl
def hc209 : PH := ph_put hc208 11000 (.inr (.inr (11, [.int 0, .int 0, .ref 20028, .ref 20029, .ref 20030, .ref 20031, .ref 20032, .ref 20033, .ref 20034, .ref 20035, .ref 20036, .ref 20037, .ref 20038, .ref 20039, .ref 20040, .ref 20041, .ref 20042, .ref 20043, .int 0, .ref 20044, .ref 20045, .ref 20046, .ref 20047, .ref 20048, .ref 20049, .ref 20050, .ref 20051, .ref 20052, .ref 20053, .int 0, .int 0, .int 0, .int 0, .ref 20054, .int 0, .int 0, .int 0, .ref 20055, .ref 20056, .ref 20057, .ref 20058, .ref 20059, .int 0, .int 0, .int 0, .ref 20060, .ref 20061, .int 0, .int 0, .int 0, .int 0, .null, .null, .int 0, .null, .null, .null, .null, .null])))
set_option maxRecDepth 100000 in
theorem zt235 {K : PH → PR} : pF hc208 11000 11 50 (.int 0) K = K hc209 := pF_e (fs := [.int 0, .int 0, .ref 20028, .ref 20029, .ref 20030, .ref 20031, .ref 20032, .ref 20033, .ref 20034, .ref 20035, .ref 20036, .ref 20037, .ref 20038, .ref 20039, .ref 20040, .ref 20041, .ref 20042, .ref 20043, .int 0, .ref 20044, .ref 20045, .ref 20046, .ref 20047, .ref 20048, .ref 20049, .ref 20050, .ref 20051, .ref 20052, .ref 20053, .int 0, .int 0, .int 0, .int 0, .ref 20054, .int 0, .int 0, .int 0, .ref 20055, .ref 20056, .ref 20057, .ref 20058, .ref 20059, .int 0, .int 0, .int 0, .ref 20060, .ref 20061, .int 0, .int 0, .int 0, .int 0, .null, .null, .int 0, .null, .null, .null, .null, .null]) rfl (Nat.lt_of_sub_pos (by decide)) rfl
def hc210 : PH := ph_add hc209 20062 20 8 (.inl (0, 8, (fun _ => 0)))
set_option maxRecDepth 100000 in
theorem zt236 {K : Nat → PH → PR} : nA hc209 0 8 (fun _ => 0) K = K 20062 hc210 := nA_e (n := 62) (w := 8) rfl rfl (by decide) rfl (by decide)
def hc211 : PH := ph_put hc210 11000 (.inr (.inr (11, [.int 0, .int 0, .ref 20028, .ref 20029, .ref 20030, .ref 20031, .ref 20032, .ref 20033, .ref 20034, .ref 20035, .ref 20036, .ref 20037, .ref 20038, .ref 20039, .ref 20040, .ref 20041, .ref 20042, .ref 20043, .int 0, .ref 20044, .ref 20045, .ref 20046, .ref 20047, .ref 20048, .ref 20049, .ref 20050, .ref 20051, .ref 20052, .ref 20053, .int 0, .int 0, .int 0, .int 0, .ref 20054, .int 0, .int 0, .int 0, .ref 20055, .ref 20056, .ref 20057, .ref 20058, .ref 20059, .int 0, .int 0, .int 0, .ref 20060, .ref 20061, .int 0, .int 0, .int 0, .int 0, .ref 20062, .null, .int 0, .null, .null, .null, .null, .null])))
set_option maxRecDepth 100000 in
theorem zt237 {K : PH → PR} : pF hc210 11000 11 51 (.ref 20062) K = K hc211 := pF_e (fs := [.int 0, .int 0, .ref 20028, .ref 20029, .ref 20030, .ref 20031, .ref 20032, .ref 20033, .ref 20034, .ref 20035, .ref 20036, .ref 20037, .ref 20038, .ref 20039, .ref 20040, .ref 20041, .ref 20042, .ref 20043, .int 0, .ref 20044, .ref 20045, .ref 20046, .ref 20047, .ref 20048, .ref 20049, .ref 20050, .ref 20051, .ref 20052, .ref 20053, .int 0, .int 0, .int 0, .int 0, .ref 20054, .int 0, .int 0, .int 0, .ref 20055, .ref 20056, .ref 20057, .ref 20058, .ref 20059, .int 0, .int 0, .int 0, .ref 20060, .ref 20061, .int 0, .int 0, .int 0, .int 0, .null, .null, .int 0, .null, .null, .null, .null, .null]) rfl (Nat.lt_of_sub_pos (by decide)) rfl
def hc212 : PH := ph_add hc211 20063 20 320 (.inl (0, 320, (fun _ => 0)))
set_option maxRecDepth 100000 in
theorem zt238 {K : Nat → PH → PR} : nA hc211 0 320 (fun _ => 0) K = K 20063 hc212 := nA_e (n := 63) (w := 320) rfl rfl (by decide) rfl (by decide)
def hc213 : PH := ph_put hc212 11000 (.inr (.inr (11, [.int 0, .int 0, .ref 20028, .ref 20029, .ref 20030, .ref 20031, .ref 20032, .ref 20033, .ref 20034, .ref 20035, .ref 20036, .ref 20037, .ref 20038, .ref 20039, .ref 20040, .ref 20041, .ref 20042, .ref 20043, .int 0, .ref 20044, .ref 20045, .ref 20046, .ref 20047, .ref 20048, .ref 20049, .ref 20050, .ref 20051, .ref 20052, .ref 20053, .int 0, .int 0, .int 0, .int 0, .ref 20054, .int 0, .int 0, .int 0, .ref 20055, .ref 20056, .ref 20057, .ref 20058, .ref 20059, .int 0, .int 0, .int 0, .ref 20060, .ref 20061, .int 0, .int 0, .int 0, .int 0, .ref 20062, .ref 20063, .int 0, .null, .null, .null, .null, .null])))
set_option maxRecDepth 100000 in
theorem zt239 {K : PH → PR} : pF hc212 11000 11 52 (.ref 20063) K = K hc213 := pF_e (fs := [.int 0, .int 0, .ref 20028, .ref 20029, .ref 20030, .ref 20031, .ref 20032, .ref 20033, .ref 20034, .ref 20035, .ref 20036, .ref 20037, .ref 20038, .ref 20039, .ref 20040, .ref 20041, .ref 20042, .ref 20043, .int 0, .ref 20044, .ref 20045, .ref 20046, .ref 20047, .ref 20048, .ref 20049, .ref 20050, .ref 20051, .ref 20052, .ref 20053, .int 0, .int 0, .int 0, .int 0, .ref 20054, .int 0, .int 0, .int 0, .ref 20055, .ref 20056, .ref 20057, .ref 20058, .ref 20059, .int 0, .int 0, .int 0, .ref 20060, .ref 20061, .int 0, .int 0, .int 0, .int 0, .ref 20062, .null, .int 0, .null, .null, .null, .null, .null]) rfl (Nat.lt_of_sub_pos (by decide)) rfl
def hc214 : PH := ph_put hc213 11000 (.inr (.inr (11, [.int 0, .int 0, .ref 20028, .ref 20029, .ref 20030, .ref 20031, .ref 20032, .ref 20033, .ref 20034, .ref 20035, .ref 20036, .ref 20037, .ref 20038, .ref 20039, .ref 20040, .ref 20041, .ref 20042, .ref 20043, .int 0, .ref 20044, .ref 20045, .ref 20046, .ref 20047, .ref 20048, .ref 20049, .ref 20050, .ref 20051, .ref 20052, .ref 20053, .int 0, .int 0, .int 0, .int 0, .ref 20054, .int 0, .int 0, .int 0, .ref 20055, .ref 20056, .ref 20057, .ref 20058, .ref 20059, .int 0, .int 0, .int 0, .ref 20060, .ref 20061, .int 0, .int 0, .int 0, .int 0, .ref 20062, .ref 20063, .int 0, .null, .null, .null, .null, .null])))
set_option maxRecDepth 100000 in
theorem zt240 {K : PH → PR} : pF hc213 11000 11 53 (.int 0) K = K hc214 := pF_e (fs := [.int 0, .int 0, .ref 20028, .ref 20029, .ref 20030, .ref 20031, .ref 20032, .ref 20033, .ref 20034, .ref 20035, .ref 20036, .ref 20037, .ref 20038, .ref 20039, .ref 20040, .ref 20041, .ref 20042, .ref 20043, .int 0, .ref 20044, .ref 20045, .ref 20046, .ref 20047, .ref 20048, .ref 20049, .ref 20050, .ref 20051, .ref 20052, .ref 20053, .int 0, .int 0, .int 0, .int 0, .ref 20054, .int 0, .int 0, .int 0, .ref 20055, .ref 20056, .ref 20057, .ref 20058, .ref 20059, .int 0, .int 0, .int 0, .ref 20060, .ref 20061, .int 0, .int 0, .int 0, .int 0, .ref 20062, .ref 20063, .int 0, .null, .null, .null, .null, .null]) rfl (Nat.lt_of_sub_pos (by decide)) rfl
def hc215 : PH := ph_add hc214 20064 20 20 (.inl (0, 20, (fun _ => 0)))
set_option maxRecDepth 100000 in
theorem zt241 {K : Nat → PH → PR} : nA hc214 0 20 (fun _ => 0) K = K 20064 hc215 := nA_e (n := 64) (w := 20) rfl rfl (by decide) rfl (by decide)
def hc216 : PH := ph_put hc215 11000 (.inr (.inr (11, [.int 0, .int 0, .ref 20028, .ref 20029, .ref 20030, .ref 20031, .ref 20032, .ref 20033, .ref 20034, .ref 20035, .ref 20036, .ref 20037, .ref 20038, .ref 20039, .ref 20040, .ref 20041, .ref 20042, .ref 20043, .int 0, .ref 20044, .ref 20045, .ref 20046, .ref 20047, .ref 20048, .ref 20049, .ref 20050, .ref 20051, .ref 20052, .ref 20053, .int 0, .int 0, .int 0, .int 0, .ref 20054, .int 0, .int 0, .int 0, .ref 20055, .ref 20056, .ref 20057, .ref 20058, .ref 20059, .int 0, .int 0, .int 0, .ref 20060, .ref 20061, .int 0, .int 0, .int 0, .int 0, .ref 20062, .ref 20063, .int 0, .ref 20064, .null, .null, .null, .null])))
set_option maxRecDepth 100000 in
theorem zt242 {K : PH → PR} : pF hc215 11000 11 54 (.ref 20064) K = K hc216 := pF_e (fs := [.int 0, .int 0, .ref 20028, .ref 20029, .ref 20030, .ref 20031, .ref 20032, .ref 20033, .ref 20034, .ref 20035, .ref 20036, .ref 20037, .ref 20038, .ref 20039, .ref 20040, .ref 20041, .ref 20042, .ref 20043, .int 0, .ref 20044, .ref 20045, .ref 20046, .ref 20047, .ref 20048, .ref 20049, .ref 20050, .ref 20051, .ref 20052, .ref 20053, .int 0, .int 0, .int 0, .int 0, .ref 20054, .int 0, .int 0, .int 0, .ref 20055, .ref 20056, .ref 20057, .ref 20058, .ref 20059, .int 0, .int 0, .int 0, .ref 20060, .ref 20061, .int 0, .int 0, .int 0, .int 0, .ref 20062, .ref 20063, .int 0, .null, .null, .null, .null, .null]) rfl (Nat.lt_of_sub_pos (by decide)) rfl
def hc217 : PH := ph_add hc216 20065 20 6 (.inl (0, 6, (fun _ => 0)))
set_option maxRecDepth 100000 in
theorem zt243 {K : Nat → PH → PR} : nA hc216 0 6 (fun _ => 0) K = K 20065 hc217 := nA_e (n := 65) (w := 6) rfl rfl (by decide) rfl (by decide)
def hc218 : PH := ph_put hc217 20065 (.inl (0, 6, (upd (fun _ => 0) 0 (-1))))
set_option maxRecDepth 100000 in
theorem zt244 {K : PH → PR} : sI hc217 20065 0 0 (-1) K = K hc218 := sI_e (i := 0) (n := 6) (f := (fun _ => 0)) rfl (by decide) (by decide) rfl
def hc219 : PH := ph_put hc218 20065 (.inl (0, 6, (upd (upd (fun _ => 0) 0 (-1)) 1 (-1))))
set_option maxRecDepth 100000 in
theorem zt245 {K : PH → PR} : sI hc218 20065 0 1 (-1) K = K hc219 := sI_e (i := 1) (n := 6) (f := (upd (fun _ => 0) 0 (-1))) rfl (by decide) (by decide) rfl
def hc220 : PH := ph_put hc219 20065 (.inl (0, 6, (upd (upd (upd (fun _ => 0) 0 (-1)) 1 (-1)) 2 (-1))))
set_option maxRecDepth 100000 in
theorem zt246 {K : PH → PR} : sI hc219 20065 0 2 (-1) K = K hc220 := sI_e (i := 2) (n := 6) (f := (upd (upd (fun _ => 0) 0 (-1)) 1 (-1))) rfl (by decide) (by decide) rfl
def hc221 : PH := ph_put hc220 20065 (.inl (0, 6, (upd (upd (upd (upd (fun _ => 0) 0 (-1)) 1 (-1)) 2 (-1)) 3 (-1))))
set_option maxRecDepth 100000 in
theorem zt247 {K : PH → PR} : sI hc220 20065 0 3 (-1) K = K hc221 := sI_e (i := 3) (n := 6) (f := (upd (upd (upd (fun _ => 0) 0 (-1)) 1 (-1)) 2 (-1))) rfl (by decide) (by decide) rfl
def hc222 : PH := ph_put hc221 20065 (.inl (0, 6, (upd (upd (upd (upd (upd (fun _ => 0) 0 (-1)) 1 (-1)) 2 (-1)) 3 (-1)) 4 (-1))))
set_option maxRecDepth 100000 in
theorem zt248 {K : PH → PR} : sI hc221 20065 0 4 (-1) K = K hc222 := sI_e (i := 4) (n := 6) (f := (upd (upd (upd (upd (fun _ => 0) 0 (-1)) 1 (-1)) 2 (-1)) 3 (-1))) rfl (by decide) (by decide) rfl
def hc223 : PH := ph_put hc222 20065 (.inl (0, 6, (upd (upd (upd (upd (upd (upd (fun _ => 0) 0 (-1)) 1 (-1)) 2 (-1)) 3 (-1)) 4 (-1)) 5 (-1))))
set_option maxRecDepth 100000 in
theorem zt249 {K : PH → PR} : sI hc222 20065 0 5 (-1) K = K hc223 := sI_e (i := 5) (n := 6) (f := (upd (upd (upd (upd (upd (fun _ => 0) 0 (-1)) 1 (-1)) 2 (-1)) 3 (-1)) 4 (-1))) rfl (by decide) (by decide) rfl
def hc224 : PH := ph_put hc223 11000 (.inr (.inr (11, [.int 0, .int 0, .ref 20028, .ref 20029, .ref 20030, .ref 20031, .ref 20032, .ref 20033, .ref 20034, .ref 20035, .ref 20036, .ref 20037, .ref 20038, .ref 20039, .ref 20040, .ref 20041, .ref 20042, .ref 20043, .int 0, .ref 20044, .ref 20045, .ref 20046, .ref 20047, .ref 20048, .ref 20049, .ref 20050, .ref 20051, .ref 20052, .ref 20053, .int 0, .int 0, .int 0, .int 0, .ref 20054, .int 0, .int 0, .int 0, .ref 20055, .ref 20056, .ref 20057, .ref 20058, .ref 20059, .int 0, .int 0, .int 0, .ref 20060, .ref 20061, .int 0, .int 0, .int 0, .int 0, .ref 20062, .ref 20063, .int 0, .ref 20064, .ref 20065, .null, .null, .null])))
set_option maxRecDepth 100000 in
theorem zt250 {K : PH → PR} : pF hc223 11000 11 55 (.ref 20065) K = K hc224 := pF_e (fs := [.int 0, .int 0, .ref 20028, .ref 20029, .ref 20030, .ref 20031, .ref 20032, .ref 20033, .ref 20034, .ref 20035, .ref 20036, .ref 20037, .ref 20038, .ref 20039, .ref 20040, .ref 20041, .ref 20042, .ref 20043, .int 0, .ref 20044, .ref 20045, .ref 20046, .ref 20047, .ref 20048, .ref 20049, .ref 20050, .ref 20051, .ref 20052, .ref 20053, .int 0, .int 0, .int 0, .int 0, .ref 20054, .int 0, .int 0, .int 0, .ref 20055, .ref 20056, .ref 20057, .ref 20058, .ref 20059, .int 0, .int 0, .int 0, .ref 20060, .ref 20061, .int 0, .int 0, .int 0, .int 0, .ref 20062, .ref 20063, .int 0, .ref 20064, .null, .null, .null, .null]) rfl (Nat.lt_of_sub_pos (by decide)) rfl
def hc225 : PH := ph_add hc224 20066 20 6 (.inl (0, 6, (fun _ => 0)))
set_option maxRecDepth 100000 in
theorem zt251 {K : Nat → PH → PR} : nA hc224 0 6 (fun _ => 0) K = K 20066 hc225 := nA_e (n := 66) (w := 6) rfl rfl (by decide) rfl (by decide)
def hc226 : PH := ph_put hc225 11000 (.inr (.inr (11, [.int 0, .int 0, .ref 20028, .ref 20029, .ref 20030, .ref 20031, .ref 20032, .ref 20033, .ref 20034, .ref 20035, .ref 20036, .ref 20037, .ref 20038, .ref 20039, .ref 20040, .ref 20041, .ref 20042, .ref 20043, .int 0, .ref 20044, .ref 20045, .ref 20046, .ref 20047, .ref 20048, .ref 20049, .ref 20050, .ref 20051, .ref 20052, .ref 20053, .int 0, .int 0, .int 0, .int 0, .ref 20054, .int 0, .int 0, .int 0, .ref 20055, .ref 20056, .ref 20057, .ref 20058, .ref 20059, .int 0, .int 0, .int 0, .ref 20060, .ref 20061, .int 0, .int 0, .int 0, .int 0, .ref 20062, .ref 20063, .int 0, .ref 20064, .ref 20065, .ref 20066, .null, .null])))
set_option maxRecDepth 100000 in
theorem zt252 {K : PH → PR} : pF hc225 11000 11 56 (.ref 20066) K = K hc226 := pF_e (fs := [.int 0, .int 0, .ref 20028, .ref 20029, .ref 20030, .ref 20031, .ref 20032, .ref 20033, .ref 20034, .ref 20035, .ref 20036, .ref 20037, .ref 20038, .ref 20039, .ref 20040, .ref 20041, .ref 20042, .ref 20043, .int 0, .ref 20044, .ref 20045, .ref 20046, .ref 20047, .ref 20048, .ref 20049, .ref 20050, .ref 20051, .ref 20052, .ref 20053, .int 0, .int 0, .int 0, .int 0, .ref 20054, .int 0, .int 0, .int 0, .ref 20055, .ref 20056, .ref 20057, .ref 20058, .ref 20059, .int 0, .int 0, .int 0, .ref 20060, .ref 20061, .int 0, .int 0, .int 0, .int 0, .ref 20062, .ref 20063, .int 0, .ref 20064, .ref 20065, .null, .null, .null]) rfl (Nat.lt_of_sub_pos (by decide)) rfl
def hc227 : PH := ph_add hc226 20067 20 360 (.inl (0, 360, (fun _ => 0)))
set_option maxRecDepth 100000 in
theorem zt253 {K : Nat → PH → PR} : nA hc226 0 360 (fun _ => 0) K = K 20067 hc227 := nA_e (n := 67) (w := 360) rfl rfl (by decide) rfl (by decide)
def hc228 : PH := ph_put hc227 11000 (.inr (.inr (11, [.int 0, .int 0, .ref 20028, .ref 20029, .ref 20030, .ref 20031, .ref 20032, .ref 20033, .ref 20034, .ref 20035, .ref 20036, .ref 20037, .ref 20038, .ref 20039, .ref 20040, .ref 20041, .ref 20042, .ref 20043, .int 0, .ref 20044, .ref 20045, .ref 20046, .ref 20047, .ref 20048, .ref 20049, .ref 20050, .ref 20051, .ref 20052, .ref 20053, .int 0, .int 0, .int 0, .int 0, .ref 20054, .int 0, .int 0, .int 0, .ref 20055, .ref 20056, .ref 20057, .ref 20058, .ref 20059, .int 0, .int 0, .int 0, .ref 20060, .ref 20061, .int 0, .int 0, .int 0, .int 0, .ref 20062, .ref 20063, .int 0, .ref 20064, .ref 20065, .ref 20066, .ref 20067, .null])))
set_option maxRecDepth 100000 in
theorem zt254 {K : PH → PR} : pF hc227 11000 11 57 (.ref 20067) K = K hc228 := pF_e (fs := [.int 0, .int 0, .ref 20028, .ref 20029, .ref 20030, .ref 20031, .ref 20032, .ref 20033, .ref 20034, .ref 20035, .ref 20036, .ref 20037, .ref 20038, .ref 20039, .ref 20040, .ref 20041, .ref 20042, .ref 20043, .int 0, .ref 20044, .ref 20045, .ref 20046, .ref 20047, .ref 20048, .ref 20049, .ref 20050, .ref 20051, .ref 20052, .ref 20053, .int 0, .int 0, .int 0, .int 0, .ref 20054, .int 0, .int 0, .int 0, .ref 20055, .ref 20056, .ref 20057, .ref 20058, .ref 20059, .int 0, .int 0, .int 0, .ref 20060, .ref 20061, .int 0, .int 0, .int 0, .int 0, .ref 20062, .ref 20063, .int 0, .ref 20064, .ref 20065, .ref 20066, .null, .null]) rfl (Nat.lt_of_sub_pos (by decide)) rfl
def hc229 : PH := ph_add hc228 20068 20 60 (.inl (0, 60, (fun _ => 0)))
set_option maxRecDepth 100000 in
theorem zt255 {K : Nat → PH → PR} : nA hc228 0 60 (fun _ => 0) K = K 20068 hc229 := nA_e (n := 68) (w := 60) rfl rfl (by decide) rfl (by decide)
def hc230 : PH := ph_put hc229 11000 (.inr (.inr (11, [.int 0, .int 0, .ref 20028, .ref 20029, .ref 20030, .ref 20031, .ref 20032, .ref 20033, .ref 20034, .ref 20035, .ref 20036, .ref 20037, .ref 20038, .ref 20039, .ref 20040, .ref 20041, .ref 20042, .ref 20043, .int 0, .ref 20044, .ref 20045, .ref 20046, .ref 20047, .ref 20048, .ref 20049, .ref 20050, .ref 20051, .ref 20052, .ref 20053, .int 0, .int 0, .int 0, .int 0, .ref 20054, .int 0, .int 0, .int 0, .ref 20055, .ref 20056, .ref 20057, .ref 20058, .ref 20059, .int 0, .int 0, .int 0, .ref 20060, .ref 20061, .int 0, .int 0, .int 0, .int 0, .ref 20062, .ref 20063, .int 0, .ref 20064, .ref 20065, .ref 20066, .ref 20067, .ref 20068])))
set_option maxRecDepth 100000 in
theorem zt256 {K : PH → PR} : pF hc229 11000 11 58 (.ref 20068) K = K hc230 := pF_e (fs := [.int 0, .int 0, .ref 20028, .ref 20029, .ref 20030, .ref 20031, .ref 20032, .ref 20033, .ref 20034, .ref 20035, .ref 20036, .ref 20037, .ref 20038, .ref 20039, .ref 20040, .ref 20041, .ref 20042, .ref 20043, .int 0, .ref 20044, .ref 20045, .ref 20046, .ref 20047, .ref 20048, .ref 20049, .ref 20050, .ref 20051, .ref 20052, .ref 20053, .int 0, .int 0, .int 0, .int 0, .ref 20054, .int 0, .int 0, .int 0, .ref 20055, .ref 20056, .ref 20057, .ref 20058, .ref 20059, .int 0, .int 0, .int 0, .ref 20060, .ref 20061, .int 0, .int 0, .int 0, .int 0, .ref 20062, .ref 20063, .int 0, .ref 20064, .ref 20065, .ref 20066, .ref 20067, .null]) rfl (Nat.lt_of_sub_pos (by decide)) rfl
def mFz (i : Nat) : Nat → Int32 := fun j => if j < i then -1 else 0
def hc231 : PH := ph_put hc230 20054 (.inl (0, 200, (mFz 200)))
def fs11 : List Value := [.int 0, .int 0, .ref 20028, .ref 20029, .ref 20030, .ref 20031, .ref 20032, .ref 20033, .ref 20034, .ref 20035, .ref 20036, .ref 20037, .ref 20038, .ref 20039, .ref 20040, .ref 20041, .ref 20042, .ref 20043, .int 0, .ref 20044, .ref 20045, .ref 20046, .ref 20047, .ref 20048, .ref 20049, .ref 20050, .ref 20051, .ref 20052, .ref 20053, .int 0, .int 0, .int 0, .int 0, .ref 20054, .int 0, .int 0, .int 0, .ref 20055, .ref 20056, .ref 20057, .ref 20058, .ref 20059, .int 0, .int 0, .int 0, .ref 20060, .ref 20061, .int 0, .int 0, .int 0, .int 0, .ref 20062, .ref 20063, .int 0, .ref 20064, .ref 20065, .ref 20066, .ref 20067, .ref 20068]
set_option maxRecDepth 100000 in
theorem zl174 {C : Nat → List Value → PH → PR} : ∀ (r i : Nat), i + r = 200 → EXn (roL L xs) p174 C (2 * (r + 1)) 577 [some (.ref 11000), some (.int (nI i))] [] (ph_put hc230 20054 (.inl (0, 200, mFz i))) = some (none, hc231)
  | 0, i, hi => by
    refine EXs_le (S := [577]) (n := 0) 2 577 _ _ _ ?_
    have : i = 200 := by omega
    subst this
    rw [l174_577, if_neg (show ¬ nI 200 < (200 : Int32) from Int32.lt_irrefl)]
    rfl
  | r + 1, i, hi => by
    refine EXs_le (S := [577]) (n := 2 * (r + 1)) 2 577 _ _ _ ?_
    have hg : ∀ (X : PR) (K : Nat → PR), gR (ph_put hc230 20054 (.inl (0, 200, mFz i))) 11000 11 33 X K = K 20054 := fun X K => gR_e (fs := fs11) rfl rfl
    have hu : upd (mFz i) i (-1) = mFz (i + 1) := by
      funext j
      unfold upd mFz
      by_cases hj : j = i
      · rw [if_pos hj, if_pos (by omega)]
      · rw [if_neg hj]
        have : j < i + 1 ↔ j < i := by omega
        simp only [this]
    rw [l174_577, if_pos (show nI i < (200 : Int32) from nI_lt (b := 200) (by omega) (by decide)), hg, sI_e (i := i) (n := 200) (f := mFz i) (v := -1) put_at (by omega) (by decide) rfl, put_put, hu, nI_1 i]
    exact zl174 r (i + 1) (by omega)
set_option maxRecDepth 100000 in
theorem ze174 : ph_put hc230 20054 (.inl (0, 200, mFz 0)) = hc230 := by
  rw [show mFz 0 = (fun _ => 0) from funext fun j => if_neg (Nat.not_lt_zero j)]
  exact put_self rfl
set_option maxHeartbeats 8000000 in
set_option maxRecDepth 100000 in
theorem zk174 : CALL (roL L xs) mP mL (N + 5050) (d + 1) 174 [.ref 11000] hc102 = some (none, hc231) := by
  refine m174 (2 * (200 + 1)) (by omega) ?_
  have w := zl174 (L := L) (xs := xs) (C := CALL (roL L xs) mP mL (N + 5050) d) 200 0 (by omega)
  rw [ze174] at w
  rw [x174, zt129, zt130, zt131, zt132, zt133, zt134, zt135, zt136, zt137, zt138, zt139, zt140, zt141, zt142, zt143, zt144, zt145, zt146, zt147, zt148, zt149, zt150, zt151, zt152, zt153, zt154, zt155, zt156, zt157, zt158, zt159, zt160, zt161, zt162, zt163, zt164, zt165, zt166, zt167, zt168, zt169, zt170, zt171, zt172, zt173, zt174, zt175, zt176, zt177, zt178, zt179, zt180, zt181, zt182, zt183, zt184, zt185, zt186, zt187, zt188, zt189, zt190, zt191, zt192, zt193, zt194, zt195, zt196, zt197, zt198, zt199, zt200, zt201, zt202, zt203, zt204, zt205, zt206, zt207, zt208, zt209, zt210, zt211, zt212, zt213, zt214, zt215, zt216, zt217, zt218, zt219, zt220, zt221, zt222, zt223, zt224, zt225, zt226, zt227, zt228, zt229, zt230, zt231, zt232, zt233, zt234, zt235, zt236, zt237, zt238, zt239, zt240, zt241, zt242, zt243, zt244, zt245, zt246, zt247, zt248, zt249, zt250, zt251, zt252, zt253, zt254, zt255, zt256]
  exact w
set_option maxRecDepth 100000 in
theorem zstart {n : Nat} {r : Option Value × PH} (h : EXn (roL L xs) p224 (CALL (roL L xs) mP mL (N + 5050) (d + 3)) n 18 [some (.ref 30010), some (.ref 10000), some (.ref 11000), some (.int 0)] [] hc231 = some r) : EXn (roL L xs) p224 (CALL (roL L xs) mP mL (N + 5050) (d + 3)) (n + 1) 0 [some (.ref 30010), none, none, none] [] hc0 = some r := by
  refine EXs_le (S := [18]) (n := n) 1 0 _ _ _ ?_
  rw [x224, zt1, zt2, zk49, cV_s, zt127, zt128, zk174, cV_s]
  exact h
end CTOR
