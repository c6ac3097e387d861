/-! arraycopy, clone, calls, returns -/
def q_room (d mc ms : Nat) : Room := { frames := d, cells := mc, slots := ms, locals := 60 * d }
def q_ws (mY : Nat → MethodName) (mC : Nat → ByteArray) (mL : Nat → Nat) (mT : Nat → Option FieldType) (tbl : List Cond) (M : Nat) : List Cond := .code (mY M) (mC M) (mL M) (mT M) :: tbl.filter goodWord
/-- a call of method M, at most d deep, does what the pure machine says -/
def q_Met (l : Launch) (D : va_G) (dA : Nat → ClassId) (base : Nat) (sa : Nat → Nat) (ro : RO) (mY : Nat → MethodName) (mC : Nat → ByteArray) (mL : Nat → Nat) (mT : Nat → Option FieldType) (tbl : List Cond) (d M : Nat) (as : List Value) (h : PH) (r : Option Value) (h' : PH) : Prop :=
  ∀ ad : Nat → Nat, (∀ (i k : Nat), h'.2.2.1[i]? = some k → ad k = base + i) → (∀ k, 30000 ≤ k → ad k = sa k) →
    Met l (mY M) (q_ws mY mC mL mT tbl M) (q_room d (h'.2.2.1.length - h.2.2.1.length) (h'.2.2.2 - h.2.2.2)) (va_Pc (as.map (q_tr ad)) (fun U => q_Rep D dA base ad h U.heap ∧ q_FX D dA base sa ro tbl U))
      (fun _ st o t => o = .returned (r.map (q_tr ad)) ∧ q_Rep D dA base ad h' t.heap ∧ va_F (q_A base) st t) (h'.2.2.1.length - h.2.2.1.length) (h'.2.2.2 - h.2.2.2) (q_A base)
section WZ3
variable {p : Program} {l : Launch} {e : Env} {R : Room} {s : State} {m : MethodId} {args : Array Value} {below : List Frame} {meth : Method} {c : Code} {Q : State → Prop} {D : va_G} {dA : Nat → ClassId} {base : Nat} {ad : Nat → Nat} {nL : Nat} {h0 h : PH} {lv : PL} {pc : Nat} {st : List Value} {cc : ByteArray} {sa : Nat → Nat} {ro : RO} {tbl : List Cond} {own : String}
theorem wz_copy (hx : p.tables.exec = Jvm.exec) (hb : c.code = cc) (hml : c.maxLocals = nL) (hF : q_FX D dA base sa ro tbl s) (hown : s.vm.findClass own = some m.cls) {x k q n0 n1 : Nat} {f g : Nat → Int32} {sp dp n : Int32} (hl : (Cond.methodLink own x arraycopyName).before args s = true) (hnat : (Cond.native arraycopyName).before args s = true) (hstat : (Cond.static arraycopyName).before args s = true) (hini : (Cond.initialized "java/lang/System").before args s = true)
    (hk : h.1 k = some (.inl (0, n0, f))) (hq : h.1 q = some (.inl (0, n1, g))) (h1 : ¬ sp < 0) (h2 : ¬ dp < 0) (h3 : ¬ n < 0) (h4 : sp.toNatClampNeg + n.toNatClampNeg ≤ n0) (h5 : dp.toNatClampNeg + n.toNatClampNeg ≤ n1) (hst : st.length ≤ 4) (hR : 1 ≤ R.frames ∧ 60 ≤ R.locals) (hd : decode cc pc = .ok (.invokestatic x, 3))
    (kk : q_WZ p l e R s m args below meth c Q D dA base ad nL h0 (ph_put h q (.inl (0, n1, va_cpy f g sp.toNatClampNeg dp.toNatClampNeg n.toNatClampNeg))) lv (pc + 3) st) : q_WZ p l e R s m args below meth c Q D dA base ad nL h0 h lv pc (.int n :: .int dp :: .ref q :: .int sp :: .ref k :: st) := by
  have nn : ∀ z : Int32, ¬ z < 0 → z.toInt = (z.toNatClampNeg : Int) := by
    intro z hz
    have hz0 : (0 : Int) ≤ z.toInt := by
      have := Int32.not_lt.mp hz
      simpa using Int32.le_iff_toInt_le.mp this
    show z.toInt = ((z.toInt.toNat : Nat) : Int)
    omega
  intro H locs ls a1 a2 a3 a4 T hT X
  obtain ⟨i0, hi0, hw0⟩ := a1.idx hk
  obtain ⟨i1, hi1, hw1⟩ := a1.idx hq
  have hP := a1.2.2.2.2.2.1
  have hD := a1.2.2.2.2.2.2
  have hK := hF.K (t := 0) (by decide)
  have hc0 : H[ad k]? = some (vp_cell (dA 0) (n0, .inl f)) := hP i0 _ hw0
  have hc1 : H[ad q]? = some (vp_cell (dA 0) (n1, .inl g)) := hP i1 _ hw1
  obtain ⟨-, k0, hk0, cm0, hkk0⟩ := (hK.2 0 _ rfl).1 n0 (fun j => .int (f j))
  have hlo : ((st.map (q_tr ad)).map fun v => v.category).sum ≤ 8 := q_cats ad st 4 hst
  obtain ⟨vm', X', step⟩ := X.arraycopy hx hown hl hnat hstat hini (src := ad k) (dst := ad q) (cs := vp_cell (dA 0) (n0, .inl f)) (cd := vp_cell (dA 0) (n1, .inl g)) (srcPos := sp) (destPos := dp) (n := n) (by rw [hT]; exact hc0) (by rw [hT]; exact hc1)
    (fun _ h => by cases h) (fun _ h => by cases h) (fun h => by cases h) (fun h => by cases h) hk0 hk0 hkk0 hkk0 (by simp [refKind, tgT]) h1 h2 h3
    (by rw [nn sp h1, nn n h3]; show ¬ _ > ((arrV (dA 0) n0 (fun j => .int (f j))).slots.size : Int); rw [arrV_size]; omega)
    (by rw [nn dp h2, nn n h3]; show ¬ _ > ((arrV (dA 0) n1 (fun j => .int (g j))).slots.size : Int); rw [arrV_size]; omega)
    (fun vm₁ _ i hi => by
      have e : (vp_cell (dA 0) (n0, .inl f)).slots.getD (sp.toNatClampNeg + i) .null = .int (f (sp.toNatClampNeg + i)) := by
        show (arrV (dA 0) n0 (fun j => .int (f j))).slots.getD _ _ = _
        rw [Array.getD_eq_getD_getElem?, arrV_read _ _ (by omega)]
        rfl
      refine ⟨?_, ?_⟩
      · rw [e]
        rfl
      · rw [e]
        exact trivial)
    (g := F0 m pc ls (.int n :: .int dp :: .ref (ad q) :: .int sp :: .ref (ad k) :: st.map (q_tr ad))) rfl (by rw [hml]; exact a3.1) (rest := st.map (q_tr ad)) rfl (by rw [hb]; exact hd) hR.1 (by
      have hw : nativeFrameWords "java/lang/System" "arraycopy" 5 + 11 ≤ 50 := by decide
      show 2 * 0 + _ + _ ≤ _
      omega)
  have e1 : copied (vp_cell (dA 0) (n0, .inl f)) (vp_cell (dA 0) (n1, .inl g)) sp dp n = vp_cell (dA 0) (n1, .inl (va_cpy f g sp.toNatClampNeg dp.toNatClampNeg n.toNatClampNeg)) := va_copied (fun z => .int z) (dA 0) (dA 0) f g h4
  rw [e1] at X' step
  have hlt : ad q < H.size := (Array.getElem?_eq_some_iff.mp hc1).1
  have hheap : ((T.setVm vm').setCell (ad q) (vp_cell (dA 0) (n1, .inl (va_cpy f g sp.toNatClampNeg dp.toNatClampNeg n.toNatClampNeg)))).heap = H.setIfInBounds (ad q) (vp_cell (dA 0) (n1, .inl (va_cpy f g sp.toNatClampNeg dp.toNatClampNeg n.toNatClampNeg))) := by rw [← hT]; rfl
  have oq : ∀ y : Nat, y ≠ ad q → (H.setIfInBounds (ad q) (vp_cell (dA 0) (n1, .inl (va_cpy f g sp.toNatClampNeg dp.toNatClampNeg n.toNatClampNeg))))[y]? = H[y]? := fun y hy => by simp [Array.getElem?_setIfInBounds, Ne.symm hy]
  have zq : (H.setIfInBounds (ad q) (vp_cell (dA 0) (n1, .inl (va_cpy f g sp.toNatClampNeg dp.toNatClampNeg n.toNatClampNeg)))).size = H.size := by simp
  obtain ⟨t, b1, b2⟩ := kk _ _ ls (a1.put (e := .inl (0, n1, va_cpy f g sp.toNatClampNeg dp.toNatClampNeg n.toNatClampNeg)) hq hi1 (Or.inl rfl) zq (hP.set hD hw1 (show (H.setIfInBounds (ad q) _)[ad q]? = some _ by simp [Array.getElem?_setIfInBounds, hlt]) oq) (hD.set hw1))
    ⟨by rw [zq]; exact a2.1, fun y g1 g2 => by
      rw [oq y (fun e => g2 (by rw [e]; exact hD.2 i1 _ hw1))]
      exact a2.2.1 y g1 g2, fun y hy => by
      rcases List.mem_append.mp hy with h | h
      · exact a2.2.2 y h
      · obtain ⟨z, -, hz⟩ := List.mem_map.mp h
        rw [← hz]
        exact hD.2 i1 _ hw1⟩ a3 a4 _ hheap X'
  exact ⟨t, step t b1, b2⟩
theorem wz_clone (hx : p.tables.exec = Jvm.exec) (hb : c.code = cc) (hml : c.maxLocals = nL) (hF : q_FX D dA base sa ro tbl s) (hown : s.vm.findClass own = some m.cls) {x k q n : Nat} {f : Nat → Int32}
    (hlink : (Cond.methodLink own x ⟨"[I", "clone", "()Ljava/lang/Object;"⟩).before args s = true) (hsame : (Cond.sameMethod "[I" "java/lang/Object" "clone" "()Ljava/lang/Object;").before args s = true)
    (hnat : (Cond.native ⟨"java/lang/Object", "clone", "()Ljava/lang/Object;"⟩).before args s = true) (hinst : (Cond.instanceMethod ⟨"java/lang/Object", "clone", "()Ljava/lang/Object;"⟩).before args s = true)
    (hsel : (Cond.selects "[I" ⟨"[I", "clone", "()Ljava/lang/Object;"⟩ ⟨"java/lang/Object", "clone", "()Ljava/lang/Object;"⟩).before args s = true) (hcl : va_Nw (.castable "[I" "java/lang/Cloneable") s)
    (hk : h.1 k = some (.inl (0, n, f))) (hq : h.1 q = none) (hq3 : q < 30000) (ha : ad q = base + h.2.2.1.length) (hst : st.length ≤ 4) (hR : 1 ≤ R.frames ∧ 60 ≤ R.locals) (hcells : h.2.2.1.length - h0.2.2.1.length + 1 ≤ R.cells) (hslots : h.2.2.2 - h0.2.2.2 + n ≤ R.slots) (hd : decode cc pc = .ok (.invokevirtual x, 3))
    (kk : q_WZ p l e R s m args below meth c Q D dA base ad nL h0 (ph_add h q 20 n (.inl (0, n, f))) lv (pc + 3) (.ref q :: st)) : q_WZ p l e R s m args below meth c Q D dA base ad nL h0 h lv pc (.ref k :: st) := by
  intro H locs ls a1 a2 a3 a4 T hT X
  have hak : ad q = H.size := by rw [ha, a1.1]
  have hK := hF.K (t := 0) (by decide)
  have hnm : s.vm.findClass "[I" = some (dA 0) := (hF.2.1 0 (by decide)).2
  have hsz : (vp_cell (dA 0) (n, .inl f)).slots.size = n := arrV_size _ _ _
  obtain ⟨c0, t0', f1, f2, f3⟩ := Cond.castable_spec (va_Nw.use (A := args) rfl hcl)
  cases hnm.symm.trans f1
  have hcellT : T.heap[ad k]? = some (vp_cell (dA 0) (n, .inl f)) := by rw [hT]; exact a1.one hk 0 _ rfl
  obtain ⟨-, kA, hkA, comp, hkind⟩ := State.isArrayOf_alike X.warmed.alike ((hK.2 0 _ rfl).1 0 (fun _ => .null))
  obtain ⟨-, kS, hkS, compS, hkindS⟩ := (hK.2 0 _ rfl).1 0 (fun _ => .null)
  have hlo : ((st.map (q_tr ad)).map fun v => v.category).sum ≤ 8 := q_cats ad st 4 hst
  obtain ⟨vm', X', stp⟩ := X.cloneArray hx hown hlink hsame hnat hinst hsel (a := ad k) (cell := vp_cell (dA 0) (n, .inl f)) hcellT (fun k h => by cases h) (fun h => by cases h) hnm f2 f3
    (fun i v hv => by
      have hk' : T.vm.classes[dA 0]? = some kA := hkA
      have hv' : fits .int v = true := by
        have hv : (arrV (dA 0) n (fun j => .int (f j))).slots[i]? = some v := hv
        have hi : i < n := by
          have := (Array.getElem?_eq_some_iff.mp hv).1
          rwa [arrV_size] at this
        rw [arrV_read _ _ hi] at hv
        cases hv
        rfl
      have hc9 : (vp_cell (dA 0) (n, .inl f)).cls = dA 0 := rfl
      simpa [State.fitsSlot, State.slotType?, hk', hkind, hc9, tgT] using hv')
    (g := F0 m pc ls (.ref (ad k) :: st.map (q_tr ad))) rfl (by rw [hml]; exact a3.1) rfl (by rw [hb]; exact hd) hR.1 (by show 2 * 0 + _ + 14 ≤ _; omega) hcells (by rw [hsz]; exact hslots) (hloader := Vm.clonesLoader_of_array hkS hkindS)
  have hcellE : ({ cls := (vp_cell (dA 0) (n, .inl f)).cls, slots := (vp_cell (dA 0) (n, .inl f)).slots } : Cell) = vp_cell (dA 0) (n, .inl f) := rfl
  rw [hcellE, hsz] at X'
  generalize hH1 : H.push (vp_cell (dA 0) (n, .inl f)) = H1
  have z1 : H1.size = H.size + 1 := by rw [← hH1, Array.size_push]
  have e1 : H1[H.size]? = some (vp_cell (dA 0) (n, .inl f)) := by rw [← hH1, Array.getElem?_push_size]
  have o1 : ∀ y : Nat, y < H.size → H1[y]? = H[y]? := fun y hy => by rw [← hH1, Array.getElem?_push, if_neg (Nat.ne_of_lt hy)]
  have hat : va_at D vwCl (ad q, q_trE dA ad (.inl (0, n, f))) H1 := by
    rw [hak]
    exact e1
  have hle : h0.2.2.1.length ≤ h.2.2.1.length := a4.1.length_le
  have hle2 := a4.2
  have kk := kk H1 locs ls (a1.add (n := n) hq hq3 (Or.inl rfl) z1 hak o1 hat) ⟨Nat.le_trans a2.1 (by omega), fun y g1 g2 => (o1 y (Nat.lt_of_lt_of_le g1 a2.1)).trans (a2.2.1 y g1 g2), a2.2.2⟩ a3 (a4.tr (PLe.add _ _ _ _ _))
  have e2 : (ph_add h q 20 n (.inl (0, n, f))).2.2.1.length - h0.2.2.1.length = h.2.2.1.length - h0.2.2.1.length + 1 := by simp [ph_add]; omega
  have e3 : (ph_add h q 20 n (.inl (0, n, f))).2.2.2 - h0.2.2.2 = h.2.2.2 - h0.2.2.2 + n := by simp [ph_add]; omega
  rw [e2, e3] at kk
  have kk : W p l e R s m args below meth c H1 locs (h.2.2.1.length - h0.2.2.1.length + 1) (h.2.2.2 - h0.2.2.2 + n) Q (F0 m (pc + 3) ls (.ref (ad q) :: st.map (q_tr ad))) := kk
  rw [hak] at kk
  obtain ⟨t, b1, b2⟩ := kk ((T.setVm vm').pushCell (vp_cell (dA 0) (n, .inl f))) (by rw [← hH1, ← hT]; rfl) X'
  refine ⟨t, stp t ?_, b2⟩
  rw [hcellE, hT]
  exact b1
/-- behind a call -/
theorem wz_back {rv : Option Value} {h1 h2 : PH} {H : Heap} {locs : List Loc} {ls : Array Slot} {cells slots mc ms : Nat} {st0 rest : List Value}
    (hr : va_Run p l e R s m args below meth c H locs cells slots mc ms (F0 m pc ls st0) rest (fun st o t => o = .returned (rv.map (q_tr ad)) ∧ q_Rep D dA base ad h2 t.heap ∧ va_F (q_A base) st t) (q_A base)) (hS : va_S (q_A base) s.heap H locs)
    (kk : ∀ (H1 : Heap) (locs1 : List Loc), q_Rep D dA base ad h2 H1 → va_S (q_A base) s.heap H1 locs1 → W p l e R s m args below meth c H1 locs1 (cells + mc) (slots + ms) Q (F0 m (pc + 3) ls ((rv.map (q_tr ad)).toList ++ rest))) : W p l e R s m args below meth c H locs cells slots Q (F0 m pc ls st0) := by
  intro T hT X
  obtain ⟨v, st₀, t, T', L, g0, X', hL, e1, e2, ⟨hv, hp, hz, hk⟩, stp⟩ := hr T hT X
  cases hv
  rw [g0] at hz hk
  obtain ⟨t2, a1, b1⟩ := kk T'.heap (locs ++ L) (by rw [e1]; exact hp)
    ⟨Nat.le_trans hS.1 (by rw [e1]; exact hz), fun q g1 g2 => by rw [e1, hk q (Nat.lt_of_lt_of_le g1 hS.1) g2]; exact hS.2.1 q g1 g2, fun q hq => by
      rcases List.mem_append.mp hq with h | h
      · exact hS.2.2 q h
      · exact hL q h⟩ T' rfl X'
  exact ⟨t2, stp t2 a1, b1⟩
variable {mY : Nat → MethodName} {mC : Nat → ByteArray} {mL : Nat → Nat} {mT : Nat → Option FieldType}
/-- what every call of method M needs of the tables -/
theorem wz_pre {as : List Value} {H : Heap} {locs : List Loc} (hF : q_FX D dA base sa ro tbl s) (a1 : q_Rep D dA base ad h H) (a2 : va_S (q_A base) s.heap H locs) : PreS s H (va_Pc (as.map (q_tr ad)) (fun U => q_Rep D dA base ad h U.heap ∧ q_FX D dA base sa ro tbl U)) (as.map (q_tr ad)) :=
  ⟨fun a U g mk q => ⟨q.1, q.2.1, q.2.2.same rfl rfl⟩, fun U hU hW => ⟨rfl, by rw [hU]; exact a1, hF.moved hW a2 hU⟩⟩
theorem q_good (hts : ∀ w ∈ tbl, goodWord w = true → w.before args s = true) {M : Nat} (hco : Cond.code (mY M) (mC M) (mL M) (mT M) ∈ tbl) : ∀ w ∈ q_ws mY mC mL mT tbl M, ∀ (a' : Array Value) (U : State), s.WarmedH U.vm → w.before a' U = true := by
  intro w hw a' U hW
  rcases List.mem_cons.mp hw with rfl | hw
  · exact word_at hW (Or.inl rfl) (hts _ hco rfl)
  · obtain ⟨g1, g2⟩ := List.mem_filter.mp hw
    exact word_at hW (good_of_word g2) (hts w g1 g2)
theorem wz_call (hx : p.tables.exec = Jvm.exec) (hb : c.code = cc) (hml : c.maxLocals = nL) (hF : q_FX D dA base sa ro tbl s) (hown : s.vm.findClass own = some m.cls) (hts : ∀ w ∈ tbl, goodWord w = true → w.before args s = true) {d M x b : Nat} {rv : Option Value} {h' h2 : PH} {as lv2 : List Value} (hsplit : st = as.reverse ++ lv2) (hM : q_Met l D dA base sa ro mY mC mL mT tbl d M as h rv h2) (hpl : PLe h h2) (hle : PLe h2 h') (had : ∀ (i k : Nat), h'.2.2.1[i]? = some k → ad k = base + i) (hsa : ∀ k, 30000 ≤ k → ad k = sa k)
    (hco : Cond.code (mY M) (mC M) (mL M) (mT M) ∈ tbl) (hini : (Cond.initialized (mY M).cls).before args s = true) (hy : (mY M).cls ≠ "java/lang/invoke/MethodHandle" ∧ (mY M).cls ≠ "java/lang/invoke/VarHandle") (hmL : mL M ≤ 41) (hl2 : (lv2.map fun v => v.category).sum ≤ 8) (hR : d + 1 ≤ R.frames ∧ 60 * (d + 1) ≤ R.locals ∧ h'.2.2.1.length - h0.2.2.1.length ≤ R.cells ∧ h'.2.2.2 - h0.2.2.2 ≤ R.slots)
    (hkind : (∃ (kq ci : Nat) (fs asr : List Value), as = .ref kq :: asr ∧ (parseMethodDescriptor (mY M).desc).map (fun d => d.parameters.length) = some asr.length ∧ h.1 kq = some (.inr (.inr (ci, fs))) ∧ (∃ q : vw_C, vwCl[ci]? = some q ∧ q.1 = (mY M).cls) ∧ (Cond.methodLink own x (mY M)).before args s = true ∧ (Cond.instanceMethod (mY M)).before args s = true ∧ (Cond.selects (mY M).cls (mY M) (mY M)).before args s = true ∧ decode cc pc = .ok (.invokevirtual x, 3)) ∨
      ((parseMethodDescriptor (mY M).desc).map (fun d => d.parameters.length) = some as.length ∧ ((Cond.methodLink own x (mY M)).before args s = true ∨ ∃ host, va_Nw (.methodLinkNest own x (mY M) host) s) ∧ (Cond.static (mY M)).before args s = true ∧ decode cc pc = .ok (.invokestatic x, 3)) ∨
      (∃ (kq : Nat) (asr : List Value), as = .ref kq :: asr ∧ (parseMethodDescriptor (mY M).desc).map (fun d => d.parameters.length) = some asr.length ∧ ((Cond.methodLink own x (mY M)).before args s = true ∨ ∃ host, va_Nw (.methodLinkNest own x (mY M) host) s) ∧ (Cond.instanceMethod (mY M)).before args s = true ∧ (mY M).name = "<init>" ∧ mT M = none ∧ decode cc pc = .ok (.invokespecial x, 3)))
    (kk : q_WZ p l e R s m args below meth c Q D dA base ad nL h0 h2 lv (pc + 3) (rv.toList ++ lv2)) : q_WZ p l e R s m args below meth c Q D dA base ad nL h0 h lv pc st := by
  intro H locs ls a1 a2 a3 a4
  subst hsplit
  have hM := hM ad (fun i k hi => had i k (by
    obtain ⟨suf, hs⟩ := hle.1
    rw [← hs, List.getElem?_append_left (List.getElem?_eq_some_iff.mp hi).1]
    exact hi)) hsa
  have l1 : h0.2.2.1.length ≤ h.2.2.1.length := a4.1.length_le
  have l2 : h.2.2.1.length ≤ h2.2.2.1.length := hpl.1.length_le
  have l3 : h2.2.2.1.length ≤ h'.2.2.1.length := hle.1.length_le
  have u1 := a4.2
  have u2 := hpl.2
  have u3 := hle.2
  have hfix : CallFix p m c cc nL s args ([] : List Cond) own := ⟨hx, hb, hml, hown, fun w hw => by simp at hw⟩
  have hcode : (Cond.code (mY M) (mC M) (mL M) (mT M)).before args s = true := hts _ hco rfl
  have hcw : Cond.code (mY M) (mC M) (mL M) (mT M) ∈ q_ws mY mC mL mT tbl M := List.mem_cons_self
  have hgood := q_good (mY := mY) (mC := mC) (mL := mL) (mT := mT) hts hco
  have hrm : (q_room d (h2.2.2.1.length - h.2.2.1.length) (h2.2.2.2 - h.2.2.2)).frames + 1 ≤ R.frames ∧ 8 + (mL M + 11) + (q_room d (h2.2.2.1.length - h.2.2.1.length) (h2.2.2.2 - h.2.2.2)).locals ≤ R.locals := by
    refine ⟨hR.1, ?_⟩
    show 8 + (mL M + 11) + 60 * d ≤ R.locals
    omega
  have hroom : 2 * (F0 m pc ls ((as.reverse ++ lv2).map (q_tr ad))).monitorRoom + ((lv2.map (q_tr ad)).map fun v => v.category).sum ≤ 8 := lv_room (by rw [q_catE]; exact hl2)
  have hf : h.2.2.1.length - h0.2.2.1.length + (h2.2.2.1.length - h.2.2.1.length) ≤ R.cells ∧ h.2.2.2 - h0.2.2.2 + (h2.2.2.2 - h.2.2.2) ≤ R.slots := ⟨by omega, by omega⟩
  have hbl : FrameBlind (va_Pc (as.map (q_tr ad)) (fun U => q_Rep D dA base ad h U.heap ∧ q_FX D dA base sa ro tbl U)) := fun a U g mk q => ⟨q.1, q.2.1, q.2.2.same rfl rfl⟩
  have hpre : ∀ U : State, U.heap = H → s.WarmedH U.vm → va_Pc (as.map (q_tr ad)) (fun U => q_Rep D dA base ad h U.heap ∧ q_FX D dA base sa ro tbl U) (as.map (q_tr ad)).toArray U := fun U hU hW => ⟨rfl, by rw [hU]; exact a1, hF.moved hW a2 hU⟩
  have back : va_Run p l e R s m args below meth c H locs (h.2.2.1.length - h0.2.2.1.length) (h.2.2.2 - h0.2.2.2) (h2.2.2.1.length - h.2.2.1.length) (h2.2.2.2 - h.2.2.2) (F0 m pc ls ((as.reverse ++ lv2).map (q_tr ad))) (lv2.map (q_tr ad)) (fun st o t => o = .returned (rv.map (q_tr ad)) ∧ q_Rep D dA base ad h2 t.heap ∧ va_F (q_A base) st t) (q_A base) → W p l e R s m args below meth c H locs (h.2.2.1.length - h0.2.2.1.length) (h.2.2.2 - h0.2.2.2) Q (F0 m pc ls ((as.reverse ++ lv2).map (q_tr ad))) := by
    intro hr
    refine wz_back (h1 := h) hr a2 (fun H1 locs1 b1 b2 => ?_)
    have k2 := kk H1 locs1 ls b1 b2 a3 (a4.tr hpl)
    have e1 : h2.2.2.1.length - h0.2.2.1.length = h.2.2.1.length - h0.2.2.1.length + (h2.2.2.1.length - h.2.2.1.length) := by omega
    have e2 : h2.2.2.2 - h0.2.2.2 = h.2.2.2 - h0.2.2.2 + (h2.2.2.2 - h.2.2.2) := by omega
    rw [e1, e2] at k2
    have e3 : (rv.toList ++ lv2).map (q_tr ad) = (rv.map (q_tr ad)).toList ++ lv2.map (q_tr ad) := by cases rv <;> simp
    rw [e3] at k2
    exact k2
  apply back
  rcases hkind with ⟨kq, ci, fs, asr, rfl, hd1, hkq, ⟨q, hq1, hq2⟩, hl, hin, hse, hd⟩ | ⟨hd1, hl, hstt, hd⟩ | ⟨kq, asr, rfl, hd1, hl, hin, hnm, hnone, hd⟩
  · have hlen : ∀ sig, parseMethodDescriptor (mY M).desc = some sig → asr.length = sig.parameters.length := fun sig hsig => by
      rw [hsig] at hd1
      exact (Option.some.inj hd1).symm
    refine va_runV (As := asr.map (q_tr ad)) (b := ad kq) (rest := lv2.map (q_tr ad)) (n := asr.length) (C := (mY M).cls) hfix hM ⟨⟨rfl, rfl, hrm.1, hrm.2, hgood, hcw, hcode, hini, hy, hlen, hl⟩, hin, hse⟩ ⟨hbl, ?_, hpre⟩ rfl (by simp) a3.1 (by simp [q_tr]) hroom hd hf
    rw [← hq2]
    exact va_recv hF.K0 (a1.one hkq) hq1 (q0 := 0) rfl
  · have hlen : ∀ sig, parseMethodDescriptor (mY M).desc = some sig → as.length = sig.parameters.length := fun sig hsig => by
      rw [hsig] at hd1
      exact (Option.some.inj hd1).symm
    rcases hl with hl | ⟨host, hl⟩
    · exact va_runS (As := as.map (q_tr ad)) (rest := lv2.map (q_tr ad)) (n := as.length) hfix hM ⟨⟨rfl, rfl, hrm.1, hrm.2, hgood, hcw, hcode, hini, hy, hlen, hl⟩, hstt⟩ ⟨hbl, hpre⟩ rfl (by simp) a3.1 (by simp) hroom hd hf
    · exact va_runSN (As := as.map (q_tr ad)) (rest := lv2.map (q_tr ad)) (n := as.length) (host := host) hfix hM ⟨⟨⟨rfl, rfl, hrm.1, hrm.2, hgood, hcw⟩, hcode, hini, hy, hlen, va_Nw.use rfl hl⟩, hstt, trivial⟩ ⟨hbl, hpre⟩ rfl (by simp) a3.1 (by simp) hroom hd hf
  · have hlen : ∀ sig, parseMethodDescriptor (mY M).desc = some sig → asr.length = sig.parameters.length := fun sig hsig => by
      rw [hsig] at hd1
      exact (Option.some.inj hd1).symm
    rw [hnone] at hcw hcode
    rcases hl with hl | ⟨host, hl⟩
    · exact va_runI (As := asr.map (q_tr ad)) (b := ad kq) (rest := lv2.map (q_tr ad)) (n := asr.length) hfix hM ⟨⟨rfl, rfl, hrm.1, hrm.2, hgood, hcw, hcode, hini, hy, hlen, hl⟩, hnm, hin⟩ ⟨hbl, hpre⟩ rfl (by simp) a3.1 (by simp [q_tr]) hroom hd hf
    · exact va_runIN (As := asr.map (q_tr ad)) (b := ad kq) (rest := lv2.map (q_tr ad)) (n := asr.length) (host := host) hfix hM ⟨⟨⟨rfl, rfl, hrm.1, hrm.2, hgood, hcw⟩, hcode, hini, hy, hlen, va_Nw.use rfl hl⟩, hnm, hin⟩ ⟨hbl, hpre⟩ rfl (by simp) a3.1 (by simp [q_tr]) hroom hd hf
end WZ3
