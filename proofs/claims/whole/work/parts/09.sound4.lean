/-! THE CHECK of a block against the machine's bytes and tables, and what a checked program does -/
section CHK
variable (mY : Nat → MethodName) (mC : Nat → ByteArray) (mL : Nat → Nat) (mT : Nat → Option FieldType) (tbl : List Cond) (nM : Nat)
def c_dc (M pc : Nat) (ins : Instr) (len : Nat) : Bool := decide (decode (mC M) pc = .ok (ins, len))
def c_tk (n : Nat) (w : Cond) : Bool := decide (tbl[n]? = some w) && goodWord w
def c_tx (n : Nat) (w : Cond) : Bool := decide (tbl[n]? = some w) && xok w
def c_f4 (a : Nat) : Fin 4 := Fin.ofNat 4 a
def c_cls (a : Nat) : String := (vwCl.getD a ("", TX0, 0)).1
def c_fld (a b : Nat) : String × String × String × Bool := (vwCl.getD a ("", TX0, 0)).2.1 b
def c_ref (ty : FieldType) : Bool := match ty with
  | .object _ => true
  | .array _ => true
  | _ => false
def c_put (M pc len a b x : Nat) (ts : List Nat) : Bool :=
  len == 3 && c_dc mC M pc (.putfield x) 3 && decide (a < 12) && decide (b < clN a) && c_tk tbl (ts.getD 0 0) (.fieldLink (mY M).cls x (c_fld a b).1 (c_fld a b).2.1 (c_fld a b).2.2.1) && ((c_fld a b).2.2.2 == false || ((c_fld a b).2.2.2 == true && (mY M).name == "<init>" && (c_fld a b).1 == (mY M).cls))
def c_inv (M pc len a b x : Nat) (v : Int32) (ts : List Nat) : Bool :=
  len == 3 && decide (a < nM) && decide (mL a ≤ 41) && (mY a).cls != "java/lang/invoke/MethodHandle" && (mY a).cls != "java/lang/invoke/VarHandle" && c_tk tbl (ts.getD 1 0) (.initialized (mY a).cls) &&
  ((decide (v = 0) && c_dc mC M pc (.invokevirtual (ts.getD 0 0)) 3 && decide (1 ≤ b) && decide (1 ≤ x) && decide (x - 1 < 12) && c_cls (x - 1) == (mY a).cls && decide ((parseMethodDescriptor (mY a).desc).map (fun d => d.parameters.length) = some (b - 1)) && c_tk tbl (ts.getD 2 0) (.methodLink (mY M).cls (ts.getD 0 0) (mY a)) && c_tk tbl (ts.getD 3 0) (.instanceMethod (mY a)) && c_tk tbl (ts.getD 4 0) (.selects (mY a).cls (mY a) (mY a))) ||
   (decide (v = 1) && c_dc mC M pc (.invokestatic (ts.getD 0 0)) 3 && decide ((parseMethodDescriptor (mY a).desc).map (fun d => d.parameters.length) = some b) && (c_tk tbl (ts.getD 2 0) (.methodLink (mY M).cls (ts.getD 0 0) (mY a)) || c_tx tbl (ts.getD 2 0) (.methodLinkNest (mY M).cls (ts.getD 0 0) (mY a) "PoleLogs")) && c_tk tbl (ts.getD 3 0) (.static (mY a))) ||
   (decide (v = 2) && c_dc mC M pc (.invokespecial (ts.getD 0 0)) 3 && decide (1 ≤ b) && decide (1 ≤ x) && decide ((parseMethodDescriptor (mY a).desc).map (fun d => d.parameters.length) = some (b - 1)) && (c_tk tbl (ts.getD 2 0) (.methodLink (mY M).cls (ts.getD 0 0) (mY a)) || c_tx tbl (ts.getD 2 0) (.methodLinkNest (mY M).cls (ts.getD 0 0) (mY a) "PoleLogs")) && c_tk tbl (ts.getD 3 0) (.instanceMethod (mY a)) && (mY a).name == "<init>" && decide (mT a = none)))
def chk (M : Nat) (i : PI) : Bool := match i with
  | (pc, len, op, a, b, x, v, ts) => match op with
    | 0 => (len == 1 && c_dc mC M pc (.iconst v.toInt) 1 && decide (Int32.ofInt v.toInt = v)) || (len == 2 && c_dc mC M pc (.bipush v.toInt) 2 && decide ((Int8.ofInt v.toInt).toInt32 = v)) || (len == 3 && c_dc mC M pc (.sipush v.toInt) 3 && decide ((Int16.ofInt v.toInt).toInt32 = v)) ||
        (len == 2 && c_dc mC M pc (.ldc x) 2 && c_tk tbl b (.constant (mY M).cls x v)) || (len == 3 && c_dc mC M pc (.ldc_w x) 3 && c_tk tbl b (.constant (mY M).cls x v))
    | 1 => (len == 1 && decide (a < 4) && c_dc mC M pc (.iload_n (c_f4 a)) 1) || (len == 2 && c_dc mC M pc (.iload a) 2)
    | 2 => (len == 1 && decide (a < 4) && c_dc mC M pc (.aload_n (c_f4 a)) 1) || (len == 2 && c_dc mC M pc (.aload a) 2)
    | 3 => decide (a < mL M) && ((len == 1 && decide (a < 4) && c_dc mC M pc (.istore_n (c_f4 a)) 1) || (len == 2 && c_dc mC M pc (.istore a) 2))
    | 4 => decide (a < mL M) && ((len == 1 && decide (a < 4) && c_dc mC M pc (.astore_n (c_f4 a)) 1) || (len == 2 && c_dc mC M pc (.astore a) 2))
    | 5 => decide (a < mL M) && len == 3 && c_dc mC M pc (.iinc a v.toInt) 3 && decide (Int32.ofInt v.toInt = v)
    | 6 => len == 1 && c_dc mC M pc (match a with | 0 => .iadd | 1 => .isub | 2 => .imul | 3 => .iand | 4 => .ior | 5 => .ixor | 6 => .ishl | 7 => .ishr | _ => .iushr) 1
    | 7 => len == 1 && c_dc mC M pc .idiv 1
    | 8 => len == 1 && c_dc mC M pc .irem 1
    | 9 => len == 1 && c_dc mC M pc (match a with | 0 => .ineg | 1 => .i2b | _ => .i2s) 1
    | 10 => len == 3 && c_dc mC M pc (.ifCond (match a with | 0 => .eq | 1 => .ne | 2 => .lt | 3 => .ge | 4 => .gt | _ => .le) ((b : Int) - (pc : Int))) 3
    | 11 => len == 3 && c_dc mC M pc (.if_icmp (match a with | 0 => .eq | 1 => .ne | 2 => .lt | 3 => .ge | 4 => .gt | _ => .le) ((b : Int) - (pc : Int))) 3
    | 12 => len == 3 && c_dc mC M pc (.ifnull ((b : Int) - (pc : Int))) 3
    | 13 => len == 3 && c_dc mC M pc (.ifnonnull ((b : Int) - (pc : Int))) 3
    | 14 => c_dc mC M pc (.goto ((b : Int) - (pc : Int))) 3
    | 15 => c_dc mC M pc (.tableswitch ((b : Int) - (pc : Int)) v.toInt (v.toInt + ts.length - 1) (ts.map fun t : Nat => (t : Int) - (pc : Int)).toArray) len && decide (v.toInt + ts.length < 2 ^ 31)
    | 16 => c_dc mC M pc (.lookupswitch ((b : Int) - (pc : Int)) (q_prs pc ts).toArray) len && (q_prs pc ts).all (fun q => decide (q.1 < 2 ^ 31)) && ((q_prs pc ts).toArray.toList.zip ((q_prs pc ts).toArray.toList.drop 1)).all (fun (a, next) => a.1 < next.1)
    | 17 => len == 3 && c_dc mC M pc (.getfield x) 3 && decide (a < 12) && decide (b < clN a) && c_tk tbl (ts.getD 0 0) (.fieldLink (mY M).cls x (c_fld a b).1 (c_fld a b).2.1 (c_fld a b).2.2.1)
    | 18 => len == 3 && c_dc mC M pc (.getfield x) 3 && decide (a < 12) && decide (b < clN a) && c_tk tbl (ts.getD 0 0) (.fieldLink (mY M).cls x (c_fld a b).1 (c_fld a b).2.1 (c_fld a b).2.2.1)
    | 19 => c_put mY mC tbl M pc len a b x ts && decide (clT a b = .int)
    | 20 => c_put mY mC tbl M pc len a b x ts && decide (clT a b = .boolean)
    | 21 => c_put mY mC tbl M pc len a b x ts && c_ref (clT a b)
    | 22 => len == 1 && c_dc mC M pc (match a with | 0 => .iaload | 1 => .baload | _ => .caload) 1
    | 23 => len == 1 && c_dc mC M pc .aaload 1
    | 24 => len == 1 && c_dc mC M pc .iastore 1
    | 25 => len == 1 && c_dc mC M pc .bastore 1
    | 26 => len == 1 && c_dc mC M pc .aastore 1
    | 27 => len == 1 && c_dc mC M pc .arraylength 1
    | 28 => len == 3 && decide (a < 4) && c_dc mC M pc (.getstatic x) 3 && (c_tk tbl (ts.getD 0 0) (.fieldLink (mY M).cls x "PoleLogs" (statL.getD a ("", "")).1 (statL.getD a ("", "")).2) || c_tx tbl (ts.getD 0 0) (.fieldLinkNest (mY M).cls x "PoleLogs" (statL.getD a ("", "")).1 (statL.getD a ("", "")).2 "PoleLogs"))
    | 29 => len == 3 && c_dc mC M pc (.new x) 3 && decide (a < 12) && c_tk tbl (ts.getD 0 0) (.classLink (mY M).cls x (c_cls a)) && c_tk tbl (ts.getD 1 0) (.instantiable (c_cls a) (clN a)) && c_tk tbl (ts.getD 2 0) (.initialized (c_cls a))
    | 30 => len == 2 && ((a == 0 && c_dc mC M pc (.newarray .int) 2 && c_tk tbl (ts.getD 0 0) (.arrayClass .int)) || (a == 1 && c_dc mC M pc (.newarray .boolean) 2 && c_tk tbl (ts.getD 0 0) (.arrayClass .boolean)))
    | 31 => len == 3 && (a == 13 || a == 14 || a == 17 || a == 18) && c_dc mC M pc (.anewarray x) 3 && c_tk tbl (ts.getD 0 0) (.classLink (mY M).cls x (c_cls (a - 10))) && c_tx tbl (ts.getD 1 0) (.arrayOver (.object (c_cls (a - 10))))
    | 32 => len == 1 && c_dc mC M pc .dup 1
    | 33 => len == 1 && c_dc mC M pc .dup2 1
    | 34 => len == 1 && c_dc mC M pc .pop 1
    | 35 => c_inv mY mC mL mT tbl nM M pc len a b x v ts
    | 36 => c_inv mY mC mL mT tbl nM M pc len a b x v ts
    | 37 => c_inv mY mC mL mT tbl nM M pc len a b x v ts
    | 38 => c_dc mC M pc .return_ 1 && decide (mT M = none)
    | 39 => c_dc mC M pc .ireturn 1 && decide (mT M = some .int)
    | 40 => c_dc mC M pc .ireturn 1 && decide (mT M = some .boolean)
    | 41 => c_dc mC M pc .areturn 1 && (match mT M with | some ty => c_ref ty | none => false)
    | 42 => len == 1 && c_dc mC M pc .aconst_null 1
    | 43 => len == 3 && c_dc mC M pc (.invokespecial x) 3 && c_tk tbl (ts.getD 0 0) (.methodLink (mY M).cls x Lib.objectInit) && c_tk tbl (ts.getD 1 0) (.instanceMethod Lib.objectInit) && c_tk tbl (ts.getD 2 0) (.code Lib.objectInit ⟨#[0xb1]⟩ 1 none)
    | 44 => len == 3 && c_dc mC M pc (.invokestatic x) 3 && c_tk tbl (ts.getD 0 0) (.methodLink (mY M).cls x arraycopyName) && c_tk tbl (ts.getD 1 0) (.native arraycopyName) && c_tk tbl (ts.getD 2 0) (.static arraycopyName) && c_tk tbl (ts.getD 3 0) (.initialized "java/lang/System")
    | 45 => b == pc
    | 46 => len == 3 && c_dc mC M pc (.invokevirtual x) 3 && c_tk tbl (ts.getD 0 0) (.methodLink (mY M).cls x ⟨"[I", "clone", "()Ljava/lang/Object;"⟩) && c_tk tbl (ts.getD 1 0) (.sameMethod "[I" "java/lang/Object" "clone" "()Ljava/lang/Object;") && c_tk tbl (ts.getD 2 0) (.native ⟨"java/lang/Object", "clone", "()Ljava/lang/Object;"⟩) && c_tk tbl (ts.getD 3 0) (.instanceMethod ⟨"java/lang/Object", "clone", "()Ljava/lang/Object;"⟩) && c_tk tbl (ts.getD 4 0) (.selects "[I" ⟨"[I", "clone", "()Ljava/lang/Object;"⟩ ⟨"java/lang/Object", "clone", "()Ljava/lang/Object;"⟩) && c_tx tbl (ts.getD 5 0) (.castable "[I" "java/lang/Cloneable")
    | 47 => len == 3 && c_dc mC M pc (.checkcast x) 3 && c_tk tbl (ts.getD 0 0) (.classLink (mY M).cls x "[I")
    | _ => false
def chkL (M : Nat) : Nat → List PI → Bool
  | _, [] => true
  | pc, i :: is => i.1 == pc && chk mY mC mL mT tbl nM M i && chkL M (pc + i.2.1) is
/-- the program's tables are as they are said to be -/
def q_tabs : Prop := (∀ M, M < nM → Cond.code (mY M) (mC M) (mL M) (mT M) ∈ tbl) ∧ (∀ (ci : Nat) (q : vw_C), vwCl[ci]? = some q → ∀ w ∈ u_ws q.1 q.2.1 q.2.2, w ∈ tbl ∧ goodWord w = true)
end CHK
theorem c_dc_t {mC : Nat → ByteArray} {M pc : Nat} {ins : Instr} {len : Nat} (h : c_dc mC M pc ins len = true) : decode (mC M) pc = .ok (ins, len) := of_decide_eq_true h
theorem c_tk_t {tbl : List Cond} {n : Nat} {w : Cond} (h : c_tk tbl n w = true) {args : Array Value} {s : State} (hts : ∀ w ∈ tbl, goodWord w = true → w.before args s = true) : w.before args s = true := by
  simp only [c_tk, Bool.and_eq_true, decide_eq_true_eq] at h
  exact hts w (List.mem_of_getElem? h.1) h.2
theorem c_tx_t {tbl : List Cond} {n : Nat} {w : Cond} (h : c_tx tbl n w = true) {D : va_G} {dA : Nat → ClassId} {base : Nat} {sa : Nat → Nat} {ro : RO} {s : State} (hF : q_FX D dA base sa ro tbl s) : va_Nw w s := by
  simp only [c_tx, Bool.and_eq_true, decide_eq_true_eq] at h
  exact hF.2.2.2.2 w (List.mem_of_getElem? h.1) h.2
theorem c_f4_v {a : Nat} (h : a < 4) : ((c_f4 a : Fin 4) : Nat) = a := by
  show a % 4 = a
  omega
theorem c_vw {a : Nat} (h : a < 12) : vwCl[a]? = some (c_cls a, (vwCl.getD a ("", TX0, 0)).2.1, clN a) := by
  have hl : a < vwCl.length := h
  simp [c_cls, clN, List.getD_eq_getElem?_getD, List.getElem?_eq_getElem hl]
theorem c_tyok : ∀ a, a < 12 → ∀ k, k < clN a → parseFieldDescriptor (c_fld a k).2.2.1 = some (clT a k)
  | 0, _ => tyX0_ok | 1, _ => tyX1_ok | 2, _ => tyX2_ok | 3, _ => tyX3_ok | 4, _ => tyX4_ok | 5, _ => tyX5_ok | 6, _ => tyX6_ok | 7, _ => tyX7_ok | 8, _ => tyX8_ok | 9, _ => tyX9_ok | 10, _ => tyX10_ok | 11, _ => tyX11_ok
  | n + 12, h => absurd h (by omega)
theorem c_nmok : ∀ a, a < 12 → ∀ x, x < clN a → ∀ y, y < clN a → x ≠ y → (c_fld a x).2.1 ≠ (c_fld a y).2.1
  | 0, _ => nmX0 | 1, _ => nmX1 | 2, _ => nmX2 | 3, _ => nmX3 | 4, _ => nmX4 | 5, _ => nmX5 | 6, _ => nmX6 | 7, _ => nmX7 | 8, _ => nmX8 | 9, _ => nmX9 | 10, _ => nmX10 | 11, _ => nmX11
  | n + 12, h => absurd h (by omega)
theorem c_ref_n {ty : FieldType} (h : c_ref ty = true) (k : Nat) : narrow ty (.ref k) = .ref k ∧ fits ty (.ref k) = true := by
  cases ty <;> first | exact ⟨rfl, rfl⟩ | cases h
theorem c_bool_n {y : Int32} (h : y = 0 ∨ y = 1) : narrow .boolean (.int y) = .int y ∧ fits .boolean (.int y) = true := by
  rcases h with rfl | rfl <;> exact ⟨by decide +kernel, by decide +kernel⟩
