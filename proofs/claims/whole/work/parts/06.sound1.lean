/-! ONE INSTRUCTION OF THE PURE MACHINE is one of the machine -/
def q_WZ (p : Program) (l : Launch) (e : Env) (R : Room) (s : State) (m : MethodId) (args : Array Value) (below : List Frame) (meth : Method) (c : Code) (Q : State → Prop) (D : va_G) (dA : Nat → ClassId) (base : Nat) (ad : Nat → Nat) (nL : Nat) (h0 h : PH) (lv : PL) (pc : Nat) (st : List Value) : Prop :=
  ∀ (H : Heap) (locs : List Loc) (ls : Array Slot), q_Rep D dA base ad h H → va_S (q_A base) s.heap H locs → q_LV ad ls nL lv → PLe h0 h → W p l e R s m args below meth c H locs (h.2.2.1.length - h0.2.2.1.length) (h.2.2.2 - h0.2.2.2) Q (F0 m pc ls (st.map (q_tr ad)))
theorem q_cats (ad : Nat → Nat) : ∀ (st : List Value) (n : Nat), st.length ≤ n → ((st.map (q_tr ad)).map fun v => v.category).sum ≤ 2 * n
  | [], n, _ => by simp
  | v :: st, n, h => by
    have h1 := q_cats ad st (n - 1) (by simp at h; omega)
    have h2 : (q_tr ad v).category ≤ 2 := by rcases lv_cat (q_tr ad v) with q | q <;> omega
    simp only [List.map_cons, List.sum_cons]
    simp only [List.length_cons] at h
    omega
theorem q_catE (ad : Nat → Nat) (st : List Value) : ((st.map (q_tr ad)).map fun v => v.category) = st.map fun v => v.category := by
  rw [List.map_map]
  apply List.map_congr_left
  intro v _
  exact q_tr_cat ad v
section WZ1
variable {p : Program} {l : Launch} {e : Env} {R : Room} {s : State} {m : MethodId} {args : Array Value} {below : List Frame} {meth : Method} {c : Code} {Q : State → Prop} {D : va_G} {dA : Nat → ClassId} {base : Nat} {ad : Nat → Nat} {nL : Nat} {h0 h : PH} {lv : PL} {pc : Nat} {st : List Value} {cc : ByteArray}
theorem wz_iconst (hx : p.tables.exec = Jvm.exec) (hb : c.code = cc) {n : Int} {v : Int32} (hd : decode cc pc = .ok (.iconst n, 1)) (hv : Int32.ofInt n = v) (k : q_WZ p l e R s m args below meth c Q D dA base ad nL h0 h lv (pc + 1) (.int v :: st)) : q_WZ p l e R s m args below meth c Q D dA base ad nL h0 h lv pc st := fun H locs ls a1 a2 a3 a4 => lv_iconst hx hb hd hv (k H locs ls a1 a2 a3 a4)
theorem wz_bipush (hx : p.tables.exec = Jvm.exec) (hb : c.code = cc) {n : Int} {v : Int32} (hd : decode cc pc = .ok (.bipush n, 2)) (hv : (Int8.ofInt n).toInt32 = v) (k : q_WZ p l e R s m args below meth c Q D dA base ad nL h0 h lv (pc + 2) (.int v :: st)) : q_WZ p l e R s m args below meth c Q D dA base ad nL h0 h lv pc st := fun H locs ls a1 a2 a3 a4 => lv_bipush hx hb hd hv (k H locs ls a1 a2 a3 a4)
theorem wz_sipush (hx : p.tables.exec = Jvm.exec) (hb : c.code = cc) {n : Int} {v : Int32} (hd : decode cc pc = .ok (.sipush n, 3)) (hv : (Int16.ofInt n).toInt32 = v) (k : q_WZ p l e R s m args below meth c Q D dA base ad nL h0 h lv (pc + 3) (.int v :: st)) : q_WZ p l e R s m args below meth c Q D dA base ad nL h0 h lv pc st := fun H locs ls a1 a2 a3 a4 => lv_sipush hx hb hd hv (k H locs ls a1 a2 a3 a4)
theorem wz_ldc (hx : p.tables.exec = Jvm.exec) (hb : c.code = cc) {own : String} {x : Nat} {v : Int32} (hown : s.vm.findClass own = some m.cls) (hw : (Jvm.Cond.constant own x v).before args s = true) (hd : decode cc pc = .ok (.ldc x, 2)) (k : q_WZ p l e R s m args below meth c Q D dA base ad nL h0 h lv (pc + 2) (.int v :: st)) : q_WZ p l e R s m args below meth c Q D dA base ad nL h0 h lv pc st := fun H locs ls a1 a2 a3 a4 => lv_ldc hx hb hown hw hd (k H locs ls a1 a2 a3 a4)
theorem wz_ldcw (hx : p.tables.exec = Jvm.exec) (hb : c.code = cc) {own : String} {x : Nat} {v : Int32} (hown : s.vm.findClass own = some m.cls) (hw : (Jvm.Cond.constant own x v).before args s = true) (hd : decode cc pc = .ok (.ldc_w x, 3)) (k : q_WZ p l e R s m args below meth c Q D dA base ad nL h0 h lv (pc + 3) (.int v :: st)) : q_WZ p l e R s m args below meth c Q D dA base ad nL h0 h lv pc st := fun H locs ls a1 a2 a3 a4 => lv_ldcw hx hb hown hw hd (k H locs ls a1 a2 a3 a4)
theorem wz_iload_n (hx : p.tables.exec = Jvm.exec) (hb : c.code = cc) {q : Fin 4} {a : Nat} {y : Int32} (hd : decode cc pc = .ok (.iload_n q, 1)) (hq : (q : Nat) = a) (hl : lv[a]? = some (some (.int y))) (k : q_WZ p l e R s m args below meth c Q D dA base ad nL h0 h lv (pc + 1) (.int y :: st)) : q_WZ p l e R s m args below meth c Q D dA base ad nL h0 h lv pc st := fun H locs ls a1 a2 a3 a4 => lv_iload_n hx hb hd hq (a3.2.2.2 _ _ hl).2 (k H locs ls a1 a2 a3 a4)
theorem wz_iload (hx : p.tables.exec = Jvm.exec) (hb : c.code = cc) {a : Nat} {y : Int32} (hd : decode cc pc = .ok (.iload a, 2)) (hl : lv[a]? = some (some (.int y))) (k : q_WZ p l e R s m args below meth c Q D dA base ad nL h0 h lv (pc + 2) (.int y :: st)) : q_WZ p l e R s m args below meth c Q D dA base ad nL h0 h lv pc st := fun H locs ls a1 a2 a3 a4 => lv_iload hx hb hd (a3.2.2.2 _ _ hl).2 (k H locs ls a1 a2 a3 a4)
theorem wz_aload_n (hx : p.tables.exec = Jvm.exec) (hb : c.code = cc) {q : Fin 4} {a : Nat} {y : Nat} (hd : decode cc pc = .ok (.aload_n q, 1)) (hq : (q : Nat) = a) (hl : lv[a]? = some (some (.ref y))) (k : q_WZ p l e R s m args below meth c Q D dA base ad nL h0 h lv (pc + 1) (.ref y :: st)) : q_WZ p l e R s m args below meth c Q D dA base ad nL h0 h lv pc st := fun H locs ls a1 a2 a3 a4 => lv_aload_n hx hb hd hq (a3.2.2.2 _ _ hl).2 (k H locs ls a1 a2 a3 a4)
theorem wz_aload (hx : p.tables.exec = Jvm.exec) (hb : c.code = cc) {a : Nat} {y : Nat} (hd : decode cc pc = .ok (.aload a, 2)) (hl : lv[a]? = some (some (.ref y))) (k : q_WZ p l e R s m args below meth c Q D dA base ad nL h0 h lv (pc + 2) (.ref y :: st)) : q_WZ p l e R s m args below meth c Q D dA base ad nL h0 h lv pc st := fun H locs ls a1 a2 a3 a4 => lv_aload hx hb hd (a3.2.2.2 _ _ hl).2 (k H locs ls a1 a2 a3 a4)
theorem wz_aload_nN (hx : p.tables.exec = Jvm.exec) (hb : c.code = cc) {q : Fin 4} {a : Nat} (hd : decode cc pc = .ok (.aload_n q, 1)) (hq : (q : Nat) = a) (hl : lv[a]? = some (some .null)) (k : q_WZ p l e R s m args below meth c Q D dA base ad nL h0 h lv (pc + 1) (.null :: st)) : q_WZ p l e R s m args below meth c Q D dA base ad nL h0 h lv pc st := fun H locs ls a1 a2 a3 a4 => lv_aload_nN hx hb hd hq (a3.2.2.2 _ _ hl).2 (k H locs ls a1 a2 a3 a4)
theorem wz_aloadN (hx : p.tables.exec = Jvm.exec) (hb : c.code = cc) {a : Nat} (hd : decode cc pc = .ok (.aload a, 2)) (hl : lv[a]? = some (some .null)) (k : q_WZ p l e R s m args below meth c Q D dA base ad nL h0 h lv (pc + 2) (.null :: st)) : q_WZ p l e R s m args below meth c Q D dA base ad nL h0 h lv pc st := fun H locs ls a1 a2 a3 a4 => lv_aloadN hx hb hd (a3.2.2.2 _ _ hl).2 (k H locs ls a1 a2 a3 a4)
theorem wz_istore_n (hx : p.tables.exec = Jvm.exec) (hb : c.code = cc) {q : Fin 4} {a : Nat} {y : Int32} (hd : decode cc pc = .ok (.istore_n q, 1)) (hq : (q : Nat) = a) (hn : a < nL) (k : q_WZ p l e R s m args below meth c Q D dA base ad nL h0 h (lv.set a (some (.int y))) (pc + 1) st) : q_WZ p l e R s m args below meth c Q D dA base ad nL h0 h lv pc (.int y :: st) := fun H locs ls a1 a2 a3 a4 => lv_istore_n hx hb hd hq a3.has hn rfl (fun ls' hl => k H locs ls' a1 a2 (a3.stored (v := .int y) hn rfl hl) a4)
theorem wz_istore (hx : p.tables.exec = Jvm.exec) (hb : c.code = cc) {a : Nat} {y : Int32} (hd : decode cc pc = .ok (.istore a, 2)) (hn : a < nL) (k : q_WZ p l e R s m args below meth c Q D dA base ad nL h0 h (lv.set a (some (.int y))) (pc + 2) st) : q_WZ p l e R s m args below meth c Q D dA base ad nL h0 h lv pc (.int y :: st) := fun H locs ls a1 a2 a3 a4 => lv_istore hx hb hd a3.has hn rfl (fun ls' hl => k H locs ls' a1 a2 (a3.stored (v := .int y) hn rfl hl) a4)
theorem wz_astore_n (hx : p.tables.exec = Jvm.exec) (hb : c.code = cc) {q : Fin 4} {a : Nat} {y : Nat} (hd : decode cc pc = .ok (.astore_n q, 1)) (hq : (q : Nat) = a) (hn : a < nL) (k : q_WZ p l e R s m args below meth c Q D dA base ad nL h0 h (lv.set a (some (.ref y))) (pc + 1) st) : q_WZ p l e R s m args below meth c Q D dA base ad nL h0 h lv pc (.ref y :: st) := fun H locs ls a1 a2 a3 a4 => lv_astore_n hx hb hd hq a3.has hn rfl (fun ls' hl => k H locs ls' a1 a2 (a3.stored (v := .ref y) hn rfl hl) a4)
theorem wz_astore (hx : p.tables.exec = Jvm.exec) (hb : c.code = cc) {a : Nat} {y : Nat} (hd : decode cc pc = .ok (.astore a, 2)) (hn : a < nL) (k : q_WZ p l e R s m args below meth c Q D dA base ad nL h0 h (lv.set a (some (.ref y))) (pc + 2) st) : q_WZ p l e R s m args below meth c Q D dA base ad nL h0 h lv pc (.ref y :: st) := fun H locs ls a1 a2 a3 a4 => lv_astore hx hb hd a3.has hn rfl (fun ls' hl => k H locs ls' a1 a2 (a3.stored (v := .ref y) hn rfl hl) a4)
theorem wz_astore_nN (hx : p.tables.exec = Jvm.exec) (hb : c.code = cc) {q : Fin 4} {a : Nat} (hd : decode cc pc = .ok (.astore_n q, 1)) (hq : (q : Nat) = a) (hn : a < nL) (k : q_WZ p l e R s m args below meth c Q D dA base ad nL h0 h (lv.set a (some .null)) (pc + 1) st) : q_WZ p l e R s m args below meth c Q D dA base ad nL h0 h lv pc (.null :: st) := fun H locs ls a1 a2 a3 a4 => lv_astore_nN hx hb hd hq a3.has hn rfl (fun ls' hl => k H locs ls' a1 a2 (a3.stored (v := .null) hn rfl hl) a4)
theorem wz_astoreN (hx : p.tables.exec = Jvm.exec) (hb : c.code = cc) {a : Nat} (hd : decode cc pc = .ok (.astore a, 2)) (hn : a < nL) (k : q_WZ p l e R s m args below meth c Q D dA base ad nL h0 h (lv.set a (some .null)) (pc + 2) st) : q_WZ p l e R s m args below meth c Q D dA base ad nL h0 h lv pc (.null :: st) := fun H locs ls a1 a2 a3 a4 => lv_astoreN hx hb hd a3.has hn rfl (fun ls' hl => k H locs ls' a1 a2 (a3.stored (v := .null) hn rfl hl) a4)
theorem wz_iinc (hx : p.tables.exec = Jvm.exec) (hb : c.code = cc) {a : Nat} {n : Int} {y v : Int32} (hd : decode cc pc = .ok (.iinc a n, 3)) (hv : Int32.ofInt n = v) (hl : lv[a]? = some (some (.int y))) (hn : a < nL) (k : q_WZ p l e R s m args below meth c Q D dA base ad nL h0 h (lv.set a (some (.int (y + v)))) (pc + 3) st) : q_WZ p l e R s m args below meth c Q D dA base ad nL h0 h lv pc st := by
  intro H locs ls a1 a2 a3 a4
  have hm : (a, Value.int y) ∈ q_ll ad lv := q_ll_in.mpr ⟨.int y, hl, rfl⟩
  obtain ⟨j, hj⟩ := List.getElem?_of_mem hm
  exact lv_iinc hx hb hd a3.has hj (by rw [hv]) hn rfl (fun ls' hl => k H locs ls' a1 a2 (a3.stored (v := .int (y + v)) hn rfl hl) a4)
theorem wz_bop (hx : p.tables.exec = Jvm.exec) (hb : c.code = cc) {a : Nat} {y z : Int32} {ins : Instr} (hd : decode cc pc = .ok (ins, 1)) (hi : ins = match a with | 0 => .iadd | 1 => .isub | 2 => .imul | 3 => .iand | 4 => .ior | 5 => .ixor | 6 => .ishl | 7 => .ishr | _ => .iushr) (k : q_WZ p l e R s m args below meth c Q D dA base ad nL h0 h lv (pc + 1) (.int (bop a z y) :: st)) : q_WZ p l e R s m args below meth c Q D dA base ad nL h0 h lv pc (.int y :: .int z :: st) := by
  intro H locs ls a1 a2 a3 a4
  have k := k H locs ls a1 a2 a3 a4
  subst hi
  match a, hd, k with
  | 0, hd, k => exact lv_iadd hx hb hd k
  | 1, hd, k => exact lv_isub hx hb hd k
  | 2, hd, k => exact lv_imul hx hb hd k
  | 3, hd, k => exact lv_iand hx hb hd k
  | 4, hd, k => exact lv_ior hx hb hd k
  | 5, hd, k => exact lv_ixor hx hb hd k
  | 6, hd, k => exact lv_ishl hx hb hd k
  | 7, hd, k => exact lv_ishr hx hb hd k
  | _ + 8, hd, k => exact lv_iushr hx hb hd rfl k
theorem wz_idiv (hx : p.tables.exec = Jvm.exec) (hb : c.code = cc) {y z : Int32} (hd : decode cc pc = .ok (.idiv, 1)) (hy : ¬ y = 0) (k : q_WZ p l e R s m args below meth c Q D dA base ad nL h0 h lv (pc + 1) (.int (z / y) :: st)) : q_WZ p l e R s m args below meth c Q D dA base ad nL h0 h lv pc (.int y :: .int z :: st) := fun H locs ls a1 a2 a3 a4 => lv_idiv hx hb hd hy (k H locs ls a1 a2 a3 a4)
theorem wz_irem (hx : p.tables.exec = Jvm.exec) (hb : c.code = cc) {y z : Int32} (hd : decode cc pc = .ok (.irem, 1)) (hy : ¬ y = 0) (k : q_WZ p l e R s m args below meth c Q D dA base ad nL h0 h lv (pc + 1) (.int (z - z / y * y) :: st)) : q_WZ p l e R s m args below meth c Q D dA base ad nL h0 h lv pc (.int y :: .int z :: st) := fun H locs ls a1 a2 a3 a4 => lv_irem hx hb hd hy (k H locs ls a1 a2 a3 a4)
theorem wz_uop (hx : p.tables.exec = Jvm.exec) (hb : c.code = cc) {a : Nat} {z : Int32} {ins : Instr} (hd : decode cc pc = .ok (ins, 1)) (hi : ins = match a with | 0 => .ineg | 1 => .i2b | _ => .i2s) (k : q_WZ p l e R s m args below meth c Q D dA base ad nL h0 h lv (pc + 1) (.int (uop a z) :: st)) : q_WZ p l e R s m args below meth c Q D dA base ad nL h0 h lv pc (.int z :: st) := by
  intro H locs ls a1 a2 a3 a4
  have k := k H locs ls a1 a2 a3 a4
  subst hi
  match a, hd, k with
  | 0, hd, k => exact lv_ineg hx hb hd k
  | 1, hd, k => exact lv_i2b hx hb hd rfl k
  | _ + 2, hd, k => exact lv_i2s hx hb hd rfl k
theorem wz_if (hx : p.tables.exec = Jvm.exec) (hb : c.code = cc) {a b : Nat} {z : Int32} {off : Int} {q : Jvm.ClassFile.Cond} {T F : PR} {r : Option Value × PH} (hd : decode cc pc = .ok (.ifCond q off, 3)) (hi : q = match a with | 0 => .eq | 1 => .ne | 2 => .lt | 3 => .ge | 4 => .gt | _ => .le) (ho : (pc : Int) + off = (b : Int)) (hs : cnd a z 0 T F = some r) (kt : T = some r → q_WZ p l e R s m args below meth c Q D dA base ad nL h0 h lv b st) (kf : F = some r → q_WZ p l e R s m args below meth c Q D dA base ad nL h0 h lv (pc + 3) st) : q_WZ p l e R s m args below meth c Q D dA base ad nL h0 h lv pc (.int z :: st) := by
  intro H locs ls a1 a2 a3 a4
  subst hi
  match a, hd, hs with
  | 0, hd, hs => exact lv_if_eq hx hb hd ho (fun w => kt (by simpa [cnd, w] using hs) H locs ls a1 a2 a3 a4) (fun w => kf (by simpa [cnd, w] using hs) H locs ls a1 a2 a3 a4)
  | 1, hd, hs => exact lv_if_ne hx hb hd ho (fun w => kt (by simpa [cnd, w] using hs) H locs ls a1 a2 a3 a4) (fun w => kf (by simpa [cnd, w] using hs) H locs ls a1 a2 a3 a4)
  | 2, hd, hs => exact lv_if_lt hx hb hd ho (fun w => kt (by simpa [cnd, w] using hs) H locs ls a1 a2 a3 a4) (fun w => kf (by simpa [cnd, w] using hs) H locs ls a1 a2 a3 a4)
  | 3, hd, hs => exact lv_if_ge hx hb hd ho (fun w => kt (by rw [cnd, if_neg (Int32.not_lt.mpr w)] at hs; exact hs) H locs ls a1 a2 a3 a4) (fun w => kf (by rw [cnd, if_pos (Int32.not_le.mp w)] at hs; exact hs) H locs ls a1 a2 a3 a4)
  | 4, hd, hs => exact lv_if_gt hx hb hd ho (fun w => kt (by rw [cnd, if_pos w] at hs; exact hs) H locs ls a1 a2 a3 a4) (fun w => kf (by rw [cnd, if_neg w] at hs; exact hs) H locs ls a1 a2 a3 a4)
  | _ + 5, hd, hs =>
    have hs : (if 0 < z then F else T) = some r := hs
    exact lv_if_le hx hb hd ho (fun w => kt (by rw [if_neg (Int32.not_lt.mpr w)] at hs; exact hs) H locs ls a1 a2 a3 a4) (fun w => kf (by rw [if_pos (Int32.not_le.mp w)] at hs; exact hs) H locs ls a1 a2 a3 a4)
theorem wz_icmp (hx : p.tables.exec = Jvm.exec) (hb : c.code = cc) {a b : Nat} {y z : Int32} {off : Int} {q : Jvm.ClassFile.Cond} {T F : PR} {r : Option Value × PH} (hd : decode cc pc = .ok (.if_icmp q off, 3)) (hi : q = match a with | 0 => .eq | 1 => .ne | 2 => .lt | 3 => .ge | 4 => .gt | _ => .le) (ho : (pc : Int) + off = (b : Int)) (hs : cnd a z y T F = some r) (kt : T = some r → q_WZ p l e R s m args below meth c Q D dA base ad nL h0 h lv b st) (kf : F = some r → q_WZ p l e R s m args below meth c Q D dA base ad nL h0 h lv (pc + 3) st) : q_WZ p l e R s m args below meth c Q D dA base ad nL h0 h lv pc (.int y :: .int z :: st) := by
  intro H locs ls a1 a2 a3 a4
  subst hi
  match a, hd, hs with
  | 0, hd, hs => exact lv_icmp_eq hx hb hd ho (fun w => kt (by simpa [cnd, w] using hs) H locs ls a1 a2 a3 a4) (fun w => kf (by simpa [cnd, w] using hs) H locs ls a1 a2 a3 a4)
  | 1, hd, hs => exact lv_icmp_ne hx hb hd ho (fun w => kt (by simpa [cnd, w] using hs) H locs ls a1 a2 a3 a4) (fun w => kf (by simpa [cnd, w] using hs) H locs ls a1 a2 a3 a4)
  | 2, hd, hs => exact lv_icmp_lt hx hb hd ho (fun w => kt (by simpa [cnd, w] using hs) H locs ls a1 a2 a3 a4) (fun w => kf (by simpa [cnd, w] using hs) H locs ls a1 a2 a3 a4)
  | 3, hd, hs => exact lv_icmp_ge hx hb hd ho (fun w => kt (by rw [cnd, if_neg (Int32.not_lt.mpr w)] at hs; exact hs) H locs ls a1 a2 a3 a4) (fun w => kf (by rw [cnd, if_pos (Int32.not_le.mp w)] at hs; exact hs) H locs ls a1 a2 a3 a4)
  | 4, hd, hs => exact lv_icmp_gt hx hb hd ho (fun w => kt (by rw [cnd, if_pos w] at hs; exact hs) H locs ls a1 a2 a3 a4) (fun w => kf (by rw [cnd, if_neg w] at hs; exact hs) H locs ls a1 a2 a3 a4)
  | _ + 5, hd, hs =>
    have hs : (if y < z then F else T) = some r := hs
    exact lv_icmp_le hx hb hd ho (fun w => kt (by rw [if_neg (Int32.not_lt.mpr w)] at hs; exact hs) H locs ls a1 a2 a3 a4) (fun w => kf (by rw [if_pos (Int32.not_le.mp w)] at hs; exact hs) H locs ls a1 a2 a3 a4)
theorem wz_ifnull (hx : p.tables.exec = Jvm.exec) (hb : c.code = cc) {y : Nat} {off : Int} (hd : decode cc pc = .ok (.ifnull off, 3)) (k : q_WZ p l e R s m args below meth c Q D dA base ad nL h0 h lv (pc + 3) st) : q_WZ p l e R s m args below meth c Q D dA base ad nL h0 h lv pc (.ref y :: st) := fun H locs ls a1 a2 a3 a4 => lv_ifnull hx hb hd (k H locs ls a1 a2 a3 a4)
theorem wz_ifnullN (hx : p.tables.exec = Jvm.exec) (hb : c.code = cc) {b : Nat} {off : Int} (hd : decode cc pc = .ok (.ifnull off, 3)) (ho : (pc : Int) + off = (b : Int)) (k : q_WZ p l e R s m args below meth c Q D dA base ad nL h0 h lv b st) : q_WZ p l e R s m args below meth c Q D dA base ad nL h0 h lv pc (.null :: st) := fun H locs ls a1 a2 a3 a4 => lv_ifnullN hx hb hd ho (k H locs ls a1 a2 a3 a4)
theorem wz_ifnonnull (hx : p.tables.exec = Jvm.exec) (hb : c.code = cc) {y b : Nat} {off : Int} (hd : decode cc pc = .ok (.ifnonnull off, 3)) (ho : (pc : Int) + off = (b : Int)) (k : q_WZ p l e R s m args below meth c Q D dA base ad nL h0 h lv b st) : q_WZ p l e R s m args below meth c Q D dA base ad nL h0 h lv pc (.ref y :: st) := fun H locs ls a1 a2 a3 a4 => lv_ifnonnull hx hb hd ho (k H locs ls a1 a2 a3 a4)
theorem wz_ifnonnullN (hx : p.tables.exec = Jvm.exec) (hb : c.code = cc) {off : Int} (hd : decode cc pc = .ok (.ifnonnull off, 3)) (k : q_WZ p l e R s m args below meth c Q D dA base ad nL h0 h lv (pc + 3) st) : q_WZ p l e R s m args below meth c Q D dA base ad nL h0 h lv pc (.null :: st) := fun H locs ls a1 a2 a3 a4 => lv_ifnonnullN hx hb hd (k H locs ls a1 a2 a3 a4)
theorem wz_goto (hx : p.tables.exec = Jvm.exec) (hb : c.code = cc) {b : Nat} {off : Int} (hd : decode cc pc = .ok (.goto off, 3)) (ho : (pc : Int) + off = (b : Int)) (k : q_WZ p l e R s m args below meth c Q D dA base ad nL h0 h lv b st) : q_WZ p l e R s m args below meth c Q D dA base ad nL h0 h lv pc st := fun H locs ls a1 a2 a3 a4 => lv_goto hx hb hd ho (k H locs ls a1 a2 a3 a4)
theorem wz_dup (hx : p.tables.exec = Jvm.exec) (hb : c.code = cc) {y : Value} (hd : decode cc pc = .ok (.dup, 1)) (hy : y.category = 1) (k : q_WZ p l e R s m args below meth c Q D dA base ad nL h0 h lv (pc + 1) (y :: y :: st)) : q_WZ p l e R s m args below meth c Q D dA base ad nL h0 h lv pc (y :: st) := fun H locs ls a1 a2 a3 a4 => lv_dup hx hb hd ((q_tr_cat ad y).trans hy) (k H locs ls a1 a2 a3 a4)
theorem wz_dup2 (hx : p.tables.exec = Jvm.exec) (hb : c.code = cc) {y z : Value} (hd : decode cc pc = .ok (.dup2, 1)) (hy : y.category = 1) (hz : z.category = 1) (k : q_WZ p l e R s m args below meth c Q D dA base ad nL h0 h lv (pc + 1) (y :: z :: y :: z :: st)) : q_WZ p l e R s m args below meth c Q D dA base ad nL h0 h lv pc (y :: z :: st) := fun H locs ls a1 a2 a3 a4 => lv_dup2_11 hx hb hd ((q_tr_cat ad y).trans hy) ((q_tr_cat ad z).trans hz) (k H locs ls a1 a2 a3 a4)
theorem wz_pop (hx : p.tables.exec = Jvm.exec) (hb : c.code = cc) {y : Value} (hd : decode cc pc = .ok (.pop, 1)) (hy : y.category = 1) (k : q_WZ p l e R s m args below meth c Q D dA base ad nL h0 h lv (pc + 1) st) : q_WZ p l e R s m args below meth c Q D dA base ad nL h0 h lv pc (y :: st) := fun H locs ls a1 a2 a3 a4 => lv_pop hx hb hd ((q_tr_cat ad y).trans hy) (k H locs ls a1 a2 a3 a4)
theorem wz_null (hx : p.tables.exec = Jvm.exec) (hb : c.code = cc) (hd : decode cc pc = .ok (.aconst_null, 1)) (k : q_WZ p l e R s m args below meth c Q D dA base ad nL h0 h lv (pc + 1) (.null :: st)) : q_WZ p l e R s m args below meth c Q D dA base ad nL h0 h lv pc st := fun H locs ls a1 a2 a3 a4 => lv_null hx hb hd (k H locs ls a1 a2 a3 a4)
theorem swt_inv {F : Nat → PR} {b : Nat} {y : Int32} {r : Option Value × PH} : ∀ {ts : List Nat} {v : Int32}, v.toInt + ts.length < 2 ^ 31 → swt F b y ts v = some r → (∃ (j t : Nat), ts[j]? = some t ∧ y.toInt = v.toInt + j ∧ F t = some r) ∨ ((y.toInt < v.toInt ∨ v.toInt + ts.length - 1 < y.toInt) ∧ F b = some r)
  | [], v, _, hs => Or.inr ⟨by simp; omega, hs⟩
  | t :: ts, v, hb, hs => by
    simp only [List.length_cons] at hb
    unfold swt at hs
    split at hs
    · rename_i hy
      exact Or.inl ⟨0, t, rfl, by rw [hy]; simp, hs⟩
    · rename_i hy
      have h1 : (v + 1).toInt = v.toInt + 1 := by
        rw [Int32.toInt_add]
        have hlo := Int32.le_toInt v
        have : (1 : Int32).toInt = 1 := by decide
        rw [this]
        apply Int.bmod_eq_of_le <;> omega
      rcases swt_inv (ts := ts) (v := v + 1) (by rw [h1]; omega) hs with ⟨j, t', g1, g2, g3⟩ | ⟨g1, g2⟩
      · exact Or.inl ⟨j + 1, t', by simpa using g1, by rw [g2, h1]; omega, g3⟩
      · refine Or.inr ⟨?_, g2⟩
        have hne : y.toInt ≠ v.toInt := fun q => hy (Int32.toInt_inj.mp q)
        rw [h1] at g1
        simp only [List.length_cons]
        omega
theorem wz_table (hx : p.tables.exec = Jvm.exec) (hb : c.code = cc) {b len : Nat} {y v : Int32} {ts : List Nat} {dflt lo hi : Int} {offs : Array Int} {F : Nat → PR} {r : Option Value × PH} (hd : decode cc pc = .ok (.tableswitch dflt lo hi offs, len)) (hlo : lo = v.toInt) (hhi : hi = v.toInt + ts.length - 1) (hof : offs = (ts.map fun t : Nat => (t : Int) - (pc : Int)).toArray) (hdf : dflt = (b : Int) - (pc : Int)) (hbd : v.toInt + ts.length < 2 ^ 31)
    (hs : swt F b y ts v = some r) (k : ∀ t, F t = some r → q_WZ p l e R s m args below meth c Q D dA base ad nL h0 h lv t st) : q_WZ p l e R s m args below meth c Q D dA base ad nL h0 h lv pc (.int y :: st) := by
  intro H locs ls a1 a2 a3 a4
  subst hlo hhi hof hdf
  rcases swt_inv hbd hs with ⟨j, t, g1, g2, g3⟩ | ⟨g1, g2⟩
  · have hj := (List.getElem?_eq_some_iff.mp g1).1
    refine lv_tableIn (tgt := t) (off := (t : Int) - (pc : Int)) hx hb hd (by omega) (by omega) ?_ (by omega) (k t g3 H locs ls a1 a2 a3 a4)
    rw [show (y.toInt - v.toInt).toNat = j by omega]
    simp [g1]
  · exact lv_tableOut (tgt := b) hx hb hd g1 (by omega) (k b g2 H locs ls a1 a2 a3 a4)
def q_prs (pc : Nat) : List Nat → List (Int × Int)
  | a :: t :: ts => ((a : Int), (t : Int) - (pc : Int)) :: q_prs pc ts
  | _ => []
theorem swl_inv {F : Nat → PR} {b pc : Nat} {y : Int32} {r : Option Value × PH} : ∀ {ts : List Nat}, (∀ q ∈ q_prs pc ts, q.1 < 2 ^ 31) → swl F b y ts = some r → ∃ t : Nat, Op.lookupswitch.offset (q_prs pc ts) ((b : Int) - (pc : Int)) y.toInt = (t : Int) - (pc : Int) ∧ F t = some r
  | [], _, hs => ⟨b, rfl, hs⟩
  | [_], _, hs => ⟨b, rfl, hs⟩
  | a :: t :: ts, hb, hs => by
    unfold swl at hs
    have ha : (a : Int) < 2 ^ 31 := hb ((a : Int), (t : Int) - (pc : Int)) List.mem_cons_self
    have hk : (Int32.ofNat a).toInt = (a : Int) := nI_toInt (n := a) (by omega)
    split at hs
    · rename_i hy
      refine ⟨t, ?_, hs⟩
      show Op.lookupswitch.offset (((a : Int), (t : Int) - (pc : Int)) :: q_prs pc ts) _ _ = _
      rw [Op.lookupswitch.offset_cons, if_pos]
      rw [hy, hk]
    · rename_i hy
      obtain ⟨t', g1, g2⟩ := swl_inv (ts := ts) (fun q hq => hb q (List.mem_cons_of_mem _ hq)) hs
      exact ⟨t', by rw [← g1]; exact lv_osw hy hk, g2⟩
theorem wz_lookup (hx : p.tables.exec = Jvm.exec) (hb : c.code = cc) {b len : Nat} {y : Int32} {ts : List Nat} {dflt : Int} {ps : Array (Int × Int)} {F : Nat → PR} {r : Option Value × PH} (hd : decode cc pc = .ok (.lookupswitch dflt ps, len)) (hps : ps = (q_prs pc ts).toArray) (hdf : dflt = (b : Int) - (pc : Int)) (hbd : ∀ q ∈ q_prs pc ts, q.1 < 2 ^ 31)
    (hso : (ps.toList.zip (ps.toList.drop 1)).all (fun (a, next) => a.1 < next.1) = true) (hs : swl F b y ts = some r) (k : ∀ t, F t = some r → q_WZ p l e R s m args below meth c Q D dA base ad nL h0 h lv t st) : q_WZ p l e R s m args below meth c Q D dA base ad nL h0 h lv pc (.int y :: st) := by
  intro H locs ls a1 a2 a3 a4
  subst hps hdf
  obtain ⟨t, g1, g2⟩ := swl_inv (pc := pc) hbd hs
  exact lv_lookup (tgt := t) hx hb hd hso g1 (by omega) (k t g2 H locs ls a1 a2 a3 a4)
end WZ1
