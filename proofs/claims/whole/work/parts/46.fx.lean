/-! WHAT STANDS AT THE START: the classes, the arrays' classes, the static tables, the script -/
def ixI : List Nat := [274, 129, 102, 765, 148, 250, 225, 419, 290, 199, 94, 934]
theorem tI0 : (List.range 12).all (fun c => decide (lw_tbl[ixI.getD c 0]? = some (Cond.instantiable (c_cls c) (clN c)))) = true := by decide +kernel
theorem tI {c : Nat} (h : c < 12) : Cond.instantiable (c_cls c) (clN c) ∈ lw_tbl := by
  have := List.all_eq_true.mp tI0 c (List.mem_range.mpr h)
  exact List.mem_of_getElem? (of_decide_eq_true this)
theorem fx_cls {s : State} {args : Array Value} (hts : ∀ w ∈ lw_tbl, w.before args s = true) : ∃ D : va_G, ∀ (c : Nat) (q : vw_C), vwCl[c]? = some q → u_Kn s q.1 q.2.1 q.2.2 (D.1 c) (D.2 c) := by
  have key : ∀ c : Nat, ∃ z : ClassId × (Nat → Nat), ∀ q : vw_C, vwCl[c]? = some q → u_Kn s q.1 q.2.1 q.2.2 z.1 z.2 := by
    intro c
    rcases Nat.lt_or_ge c 12 with h | h
    · obtain ⟨cC, iS, hK⟩ := u_known (C := c_cls c) (T := (vwCl.getD c ("", TX0, 0)).2.1) (N := clN c) hts (fun w hw => (tabs.2 c _ (c_vw h) w hw).1) (hts _ (tI h))
      refine ⟨(cC, iS), fun q hq => ?_⟩
      rw [c_vw h] at hq
      cases hq
      exact hK
    · refine ⟨(0, fun _ => 0), fun q hq => ?_⟩
      rw [List.getElem?_eq_none (show vwCl.length ≤ c from h)] at hq
      cases hq
  exact ⟨(fun c => (Classical.choose (key c)).1, fun c => (Classical.choose (key c)).2), fun c q hq => Classical.choose_spec (key c) q hq⟩
theorem fx_int {s : State} {args : Array Value} (h : (Cond.arrayClass .int).before args s = true) : ∃ cA, ArrOfT s cA .int ∧ va_RA s cA .int := by
  obtain ⟨c, k, comp, h1, h2, h3⟩ := Cond.arrayClass_spec h
  exact ⟨c, fun n z => ⟨(fun _ h => by cases h), k, h2, comp, h3⟩, h1⟩
theorem fx_boolean {s : State} {args : Array Value} (h : (Cond.arrayClass .boolean).before args s = true) : ∃ cA, ArrOfT s cA .boolean ∧ va_RA s cA .boolean := by
  obtain ⟨c, k, comp, h1, h2, h3⟩ := Cond.arrayClass_spec h
  exact ⟨c, fun n z => ⟨(fun _ h => by cases h), k, h2, comp, h3⟩, h1⟩
theorem fx_char {s : State} {args : Array Value} (h : (Cond.arrayClass .char).before args s = true) : ∃ cA, ArrOfT s cA .char ∧ va_RA s cA .char := by
  obtain ⟨c, k, comp, h1, h2, h3⟩ := Cond.arrayClass_spec h
  exact ⟨c, fun n z => ⟨(fun _ h => by cases h), k, h2, comp, h3⟩, h1⟩
theorem fx_obj {s : State} {args : Array Value} {C : String} (h : (Cond.arrayOver (.object C)).before args s = true) : ∃ cA, ArrOfT s cA (.object C) ∧ va_RA s cA (.object C) := by
  obtain ⟨comp, c, k, h1, h2, h3, h4, h5⟩ := Cond.arrayOver_spec h
  exact ⟨c, fun n z => ⟨(fun _ h => by cases h), k, h3, comp, h4⟩, k, comp, h3, h4, h1, h5⟩
theorem fx_arr {s : State} {args : Array Value} (hts : ∀ w ∈ lw_tbl, w.before args s = true) : ∃ dA : Nat → ClassId, ∀ t ∈ tgs, ArrOfT s (dA t) (tgT t) ∧ va_RA s (dA t) (tgT t) := by
  obtain ⟨a0, h0⟩ := fx_int (hts (.arrayClass .int) (List.mem_of_getElem? (i := 127) (by decide +kernel)))
  obtain ⟨a1, h1⟩ := fx_boolean (hts (.arrayClass .boolean) (List.mem_of_getElem? (i := 1312) (by decide +kernel)))
  obtain ⟨a2, h2⟩ := fx_char (hts (.arrayClass .char) (List.mem_of_getElem? (i := 1475) (by decide +kernel)))
  obtain ⟨a3, h3⟩ := fx_obj (C := "PoleLogs$Law") (hts (.arrayOver (.object "PoleLogs$Law")) (List.mem_of_getElem? (i := 223) (by decide +kernel)))
  obtain ⟨a4, h4⟩ := fx_obj (C := "PoleLogs$Log") (hts (.arrayOver (.object "PoleLogs$Log")) (List.mem_of_getElem? (i := 147) (by decide +kernel)))
  obtain ⟨a7, h7⟩ := fx_obj (C := "PoleLogs$Row") (hts (.arrayOver (.object "PoleLogs$Row")) (List.mem_of_getElem? (i := 154) (by decide +kernel)))
  obtain ⟨a8, h8⟩ := fx_obj (C := "PoleLogs$Tape") (hts (.arrayOver (.object "PoleLogs$Tape")) (List.mem_of_getElem? (i := 289) (by decide +kernel)))
  refine ⟨fun t => match t with | 0 => a0 | 1 => a1 | 2 => a2 | 13 => a3 | 14 => a4 | 17 => a7 | _ => a8, fun t ht => ?_⟩
  rcases List.mem_cons.mp ht with rfl | ht
  · exact h0
  rcases List.mem_cons.mp ht with rfl | ht
  · exact h1
  rcases List.mem_cons.mp ht with rfl | ht
  · exact h2
  rcases List.mem_cons.mp ht with rfl | ht
  · exact h3
  rcases List.mem_cons.mp ht with rfl | ht
  · exact h4
  rcases List.mem_cons.mp ht with rfl | ht
  · exact h7
  rcases List.mem_cons.mp ht with rfl | ht
  · exact h8
  · exact absurd ht List.not_mem_nil
def gvF : List Cond := flatC (Jvm.Cond.and given_1 narrow_1)
theorem fx_st {s : State} {args : Array Value} (hts : ∀ w ∈ lw_tbl, w.before args s = true) (hgv : (Jvm.Cond.and given_1 narrow_1).before args s = true) {n d : String} {ty : FieldType} {N : Nat} {f : Nat → Int32} (hN : N < 2 ^ 31)
    (hl : Cond.laysStatic "PoleLogs" n d ∈ lw_tbl) (h1 : Cond.arrayOf (.static "PoleLogs" n d) ty ∈ gvF) (h2 : Cond.eq (.length (.static "PoleLogs" n d)) (.int (Int32.ofNat N)) ∈ gvF)
    (h3 : (List.range N).all (fun j => decide (Cond.eq (.elem (.static "PoleLogs" n d) (.int (Int32.ofNat j))) (.int (f j)) ∈ gvF)) = true) :
    ∃ t : Nat, va_Z "PoleLogs" n d (.ref t) (q_A s.heap.size) s s.heap ∧ va_T ty t N (fun j => .int (f j)) (q_A s.heap.size) s s.heap := by
  have hs := flat_of_before _ hgv
  have hA : ∀ a : Nat, a < s.heap.size → ¬ q_A s.heap.size a := fun a h => Nat.not_le.mpr h
  obtain ⟨t, e, hT⟩ := va_Tof (tm := .static "PoleLogs" n d) (ty := ty) (N := N) (f := fun j => .int (f j)) (A := q_A s.heap.size) hN (hs _ h1) (va_eqt (hs _ h2)) (fun j hj => va_eqt (hs _ (of_decide_eq_true (List.all_eq_true.mp h3 j (List.mem_range.mpr hj))))) hA
  exact ⟨t, va_Zref (hts _ hl) (hts (.initialized "PoleLogs") (List.mem_of_getElem? (i := 77) (by decide +kernel))) e hA, hT⟩
theorem fx_nw {w : Cond} (hx : xok w = true) {s : State} {args : Array Value} (h : w.before args s = true) : va_Nw w s := by
  unfold xok at hx
  split at hx
  · exact va_Nw.of rfl h
  · exact va_Nw.of rfl h
  · exact va_Nw.of rfl h
  · exact va_AO.of h
  · cases hx
def saF (t0 t1 t2 t3 b : Nat) (k : Nat) : Nat := if k = 30000 then t0 else if k = 30001 then t1 else if k = 30002 then t2 else if k = 30003 then t3 else b
theorem fx_all {s : State} {b L : Nat} {xs : Nat → Int32} (hts : ∀ w ∈ lw_tbl, w.before #[Value.ref b] s = true) (hgv : (Jvm.Cond.and given_1 narrow_1).before #[Value.ref b] s = true) (hX : va_X b L xs s s.heap) (hbl : b < s.heap.size) :
    ∃ (D : va_G) (dA : Nat → ClassId) (sa : Nat → Nat), sa 30010 = b ∧ q_FX D dA s.heap.size sa (roL L xs) lw_tbl s := by
  obtain ⟨D, hD⟩ := fx_cls hts
  obtain ⟨dA, hA⟩ := fx_arr hts
  obtain ⟨t0, z0, T0⟩ := fx_st (n := "EAST") (d := "[I") (ty := .int) (N := 16) (f := c_east) hts hgv (by decide) (List.mem_of_getElem? (i := 530) (by decide +kernel)) (by decide +kernel) (by decide +kernel) (by decide +kernel)
  obtain ⟨t1, z1, T1⟩ := fx_st (n := "ABOVE") (d := "[I") (ty := .int) (N := 7) (f := c_above) hts hgv (by decide) (List.mem_of_getElem? (i := 870) (by decide +kernel)) (by decide +kernel) (by decide +kernel) (by decide +kernel)
  obtain ⟨t2, z2, T2⟩ := fx_st (n := "BODIES") (d := "[I") (ty := .int) (N := 21) (f := c_bodies) hts hgv (by decide) (List.mem_of_getElem? (i := 868) (by decide +kernel)) (by decide +kernel) (by decide +kernel) (by decide +kernel)
  obtain ⟨t3, z3, T3⟩ := fx_st (n := "LETTERS") (d := "[C") (ty := .char) (N := 9) (f := c_letters) hts hgv (by decide) (List.mem_of_getElem? (i := 231) (by decide +kernel)) (by decide +kernel) (by decide +kernel) (by decide +kernel)
  obtain ⟨scr, x1, x2, x3, x4, x5⟩ := hX
  have T4 : va_T .int b L (fun j => .int (xs j)) (q_A s.heap.size) s s.heap := ⟨scr, x1, x2, x3, Nat.le_of_eq x4.symm, by rw [x4], x5, Nat.not_le.mpr hbl⟩
  refine ⟨D, dA, saF t0 t1 t2 t3 b, rfl, hD, hA, ?_, ?_, fun w hw hx => fx_nw hx (hts w hw)⟩
  · intro i z hz
    match i, hz with
    | 0, hz => cases hz; exact z0
    | 1, hz => cases hz; exact z1
    | 2, hz => cases hz; exact z2
    | 3, hz => cases hz; exact z3
    | n + 4, hz => exact absurd hz (by simp [statL])
  · intro k t n f hk
    unfold roL at hk
    split at hk
    · rename_i e; subst e; cases hk; exact ⟨Or.inl rfl, T0⟩
    split at hk
    · rename_i e; subst e; cases hk; exact ⟨Or.inl rfl, T1⟩
    split at hk
    · rename_i e; subst e; cases hk; exact ⟨Or.inl rfl, T2⟩
    split at hk
    · rename_i e; subst e; cases hk; exact ⟨Or.inr rfl, T3⟩
    split at hk
    · rename_i e; subst e; cases hk; exact ⟨Or.inl rfl, T4⟩
    · cases hk
