/-! ONE STEP of a checked program, and its runs -/
section STEPS
variable {p : Program} {l : Launch} {e : Env} {R : Room} {s : State} {m : MethodId} {args : Array Value} {below : List Frame} {meth : Method} {c : Code} {Q : State → Prop} {D : va_G} {dA : Nat → ClassId} {base : Nat} {ad : Nat → Nat} {h0 : PH} {sa : Nat → Nat} {ro : RO} {tbl : List Cond} {nM : Nat}
variable {mY : Nat → MethodName} {mC : Nat → ByteArray} {mL : Nat → Nat} {mT : Nat → Option FieldType}
/-- what a method's body may take as given -/
def q_CX (p : Program) (l : Launch) (R : Room) (s : State) (m : MethodId) (args : Array Value) (meth : Method) (c : Code) (D : va_G) (dA : Nat → ClassId) (base : Nat) (ad : Nat → Nat) (h0 : PH) (sa : Nat → Nat) (ro : RO) (tbl : List Cond) (nM : Nat) (mY : Nat → MethodName) (mC : Nat → ByteArray) (mL : Nat → Nat) (mT : Nat → Option FieldType) (C : Nat → List Value → PH → PR) (d M : Nat) (h' : PH) : Prop :=
  p.tables.exec = Jvm.exec ∧ c.code = mC M ∧ c.maxLocals = mL M ∧ s.vm.findClass (mY M).cls = some m.cls ∧ (∀ w ∈ tbl, goodWord w = true → w.before args s = true) ∧ q_FX D dA base sa ro tbl s ∧ ((mY M).name = "<init>" → meth.name = "<init>") ∧ q_tabs mY mC mL mT tbl nM ∧
  (∀ k, 30000 ≤ k → ad k = sa k) ∧ (∀ (i k : Nat), h'.2.2.1[i]? = some k → ad k = base + i) ∧ (d + 1 ≤ R.frames ∧ 60 * (d + 1) ≤ R.locals ∧ h'.2.2.1.length - h0.2.2.1.length ≤ R.cells ∧ h'.2.2.2 - h0.2.2.2 ≤ R.slots) ∧
  (∀ M' as h1 r1 h2, C M' as h1 = some (r1, h2) → q_Met l D dA base sa ro mY mC mL mT tbl d M' as h1 r1 h2) ∧ (∀ M' as h1 r1 h2, C M' as h1 = some (r1, h2) → PLe h1 h2)
/-- how a method ends -/
def q_RT (mC : Nat → ByteArray) (mT : Nat → Option FieldType) (M pc : Nat) (r : Option Value) : Prop :=
  (decode (mC M) pc = .ok (.return_, 1) ∧ r = none ∧ mT M = none) ∨ (decode (mC M) pc = .ok (.ireturn, 1) ∧ ∃ y : Int32, r = some (.int y) ∧ (mT M = some .int ∨ (mT M = some .boolean ∧ (y = 0 ∨ y = 1)))) ∨
  (decode (mC M) pc = .ok (.areturn, 1) ∧ ∃ v : Value, r = some v ∧ (v = .null ∨ ∃ q, v = .ref q) ∧ ∃ ty, mT M = some ty ∧ c_ref ty = true)
theorem q_new {C : Nat → List Value → PH → PR} {d M : Nat} {h h' : PH} {k kind n : Nat} {x : PE} (CX : q_CX p l R s m args meth c D dA base ad h0 sa ro tbl nM mY mC mL mT C d M h') (hle : PLe (ph_add h k kind n x) h') (h1 : PLe h0 h) : ad k = base + h.2.2.1.length ∧ h.2.2.1.length - h0.2.2.1.length + 1 ≤ R.cells ∧ h.2.2.2 - h0.2.2.2 + n ≤ R.slots := by
  obtain ⟨-, -, -, -, -, -, -, -, -, had, ⟨-, -, hc, hs⟩, -, -⟩ := CX
  have l1 : h0.2.2.1.length ≤ h.2.2.1.length := h1.1.length_le
  have l2 : h.2.2.1.length + 1 ≤ h'.2.2.1.length := by
    have := hle.1.length_le
    simpa [ph_add] using this
  have u1 := h1.2
  have u2 : h.2.2.2 + n ≤ h'.2.2.2 := hle.2
  refine ⟨had _ _ ?_, by omega, by omega⟩
  obtain ⟨suf, hsf⟩ := hle.1
  rw [← hsf]
  show ((h.2.2.1 ++ [k]) ++ suf)[h.2.2.1.length]? = some k
  simp
theorem wz_later {h : PH} {lv : PL} {pc nL : Nat} {st : List Value} (f : PLe h0 h → q_WZ p l e R s m args below meth c Q D dA base ad nL h0 h lv pc st) : q_WZ p l e R s m args below meth c Q D dA base ad nL h0 h lv pc st := fun H locs ls a1 a2 a3 a4 => f a4 H locs ls a1 a2 a3 a4
theorem call_sound {C : Nat → List Value → PH → PR} {d M : Nat} {h h' h2 : PH} {r1 : Option Value} {lv : PL} {st : List Value} {pc len a b x : Nat} {v : Int32} {ts : List Nat} (CX : q_CX p l R s m args meth c D dA base ad h0 sa ro tbl nM mY mC mL mT C d M h')
    (hst : b ≤ st.length ∧ ((st.drop b).map fun v => v.category).sum ≤ 8 ∧ (x = 0 ∨ isO h ((st.take b).reverse)[0]? (x - 1) = true)) (hc : c_inv mY mC mL mT tbl nM M pc len a b x v ts = true) (e1 : C a (st.take b).reverse h = some (r1, h2)) (hle : PLe h2 h') (kk : q_WZ p l e R s m args below meth c Q D dA base ad (mL M) h0 h2 lv (pc + len) (r1.toList ++ st.drop b)) : q_WZ p l e R s m args below meth c Q D dA base ad (mL M) h0 h lv pc st := by
  obtain ⟨hx, hb, hml, hown, hts, hF, hini, htab, hsa, had, hR, hC, hCm⟩ := CX
  simp only [c_inv, Bool.and_eq_true, Bool.or_eq_true, decide_eq_true_eq, beq_iff_eq, bne_iff_ne] at hc
  obtain ⟨⟨⟨⟨⟨⟨rfl, ha⟩, hmL⟩, hy1⟩, hy2⟩, hin⟩, hk⟩ := hc
  have hlen : (st.take b).reverse.length = b := by simp; omega
  have hspl : st = ((st.take b).reverse).reverse ++ st.drop b := by simp
  refine wz_call (x := ts.getD 0 0) hx hb hml hF hown hts (b := b) hspl (hC _ _ _ _ _ e1) (hCm _ _ _ _ _ e1) hle had hsa (htab.1 a ha) (c_tk_t hin hts) ⟨hy1, hy2⟩ hmL hst.2.1 hR ?_ kk
  rcases hk with (⟨⟨⟨⟨⟨⟨⟨⟨⟨-, hd⟩, hb1⟩, hx1⟩, hx2⟩, hcl⟩, hpd⟩, hl⟩, hi⟩, hsel⟩ | ⟨⟨⟨⟨-, hd⟩, hpd⟩, hl⟩, hstt⟩) | ⟨⟨⟨⟨⟨⟨⟨⟨-, hd⟩, hb1⟩, hx1⟩, hpd⟩, hl⟩, hi⟩, hnm⟩, hnone⟩
  · left
    rcases hst.2.2 with g | g
    · omega
    · obtain ⟨kq, fs, g1, g2⟩ := isO_inv g
      cases has : (st.take b).reverse with
      | nil => rw [has] at g1; cases g1
      | cons w asr =>
        rw [has] at g1 hlen
        cases g1
        exact ⟨kq, x - 1, fs, asr, rfl, by rw [hpd]; simp at hlen; congr 1; omega, g2, ⟨_, c_vw hx2, hcl⟩, c_tk_t hl hts, c_tk_t hi hts, c_tk_t hsel hts, c_dc_t hd⟩
  · right; left
    refine ⟨by rw [hpd, hlen], ?_, c_tk_t hstt hts, c_dc_t hd⟩
    rcases hl with hl | hl
    · exact Or.inl (c_tk_t hl hts)
    · exact Or.inr ⟨_, c_tx_t hl hF⟩
  · right; right
    have hobj : ∃ (kq : Nat) (asr : List Value), (st.take b).reverse = .ref kq :: asr := by
      rcases hst.2.2 with g | g
      · omega
      · obtain ⟨kq, fs, g1, g2⟩ := isO_inv g
        cases has : (st.take b).reverse with
        | nil => rw [has] at g1; cases g1
        | cons w asr =>
          rw [has] at g1
          cases g1
          exact ⟨kq, asr, rfl⟩
    obtain ⟨kq, asr, has⟩ := hobj
    refine ⟨kq, asr, has, ?_, ?_, c_tk_t hi hts, hnm, hnone, c_dc_t hd⟩
    · rw [hpd]
      rw [has] at hlen
      simp at hlen
      congr 1
      omega
    · rcases hl with hl | hl
      · exact Or.inl (c_tk_t hl hts)
      · exact Or.inr ⟨_, c_tx_t hl hF⟩
set_option maxHeartbeats 4000000 in
theorem step_sound {C : Nat → List Value → PH → PR} {J : Nat → PL → List Value → PH → PR} {K : PL → List Value → PH → PR} {d M : Nat} {h h' : PH} {r : Option Value} {lv : PL} {st : List Value} (CX : q_CX p l R s m args meth c D dA base ad h0 sa ro tbl nM mY mC mL mT C d M h')
    (hQ : ∀ (pc : Nat) (lv : PL), q_RT mC mT M pc r → q_WZ p l e R s m args below meth c Q D dA base ad (mL M) h0 h' lv pc r.toList) (hJ : ∀ t lv st h1, J t lv st h1 = some (r, h') → q_WZ p l e R s m args below meth c Q D dA base ad (mL M) h0 h1 lv t st) (hKm : ∀ lv st h1, K lv st h1 = some (r, h') → PLe h1 h') :
    ∀ (i : PI), chk mY mC mL mT tbl nM M i = true → (∀ lv st h1, K lv st h1 = some (r, h') → q_WZ p l e R s m args below meth c Q D dA base ad (mL M) h0 h1 lv (i.1 + i.2.1) st) → step ro J C i lv st h K = some (r, h') → q_WZ p l e R s m args below meth c Q D dA base ad (mL M) h0 h lv i.1 st := by
  obtain ⟨hx, hb, hml, hown, hts, hF, hini, htab, hsa, had, hR, hC, hCm⟩ := id CX
  rintro ⟨pc, len, op, a, b, x, v, ts⟩
  match op with
  | 0 =>
    intro hc hK hs
    simp only [chk, Bool.and_eq_true, Bool.or_eq_true, decide_eq_true_eq, beq_iff_eq] at hc
    have hs : K lv (.int v :: st) h = some (r, h') := hs
    have hK := hK _ _ _ hs
    rcases hc with (((⟨⟨rfl, hd⟩, hv⟩ | ⟨⟨rfl, hd⟩, hv⟩) | ⟨⟨rfl, hd⟩, hv⟩) | ⟨⟨rfl, hd⟩, hv⟩) | ⟨⟨rfl, hd⟩, hv⟩
    · exact wz_iconst hx hb (c_dc_t hd) hv hK
    · exact wz_bipush hx hb (c_dc_t hd) hv hK
    · exact wz_sipush hx hb (c_dc_t hd) hv hK
    · exact wz_ldc hx hb hown (c_tk_t hv hts) (c_dc_t hd) hK
    · exact wz_ldcw hx hb hown (c_tk_t hv hts) (c_dc_t hd) hK
  | 1 =>
    intro hc hK hs
    simp only [chk, Bool.and_eq_true, Bool.or_eq_true, decide_eq_true_eq, beq_iff_eq] at hc
    simp only [step] at hs
    split at hs
    · rename_i y hl
      have hK := hK _ _ _ hs
      rcases hc with ⟨⟨rfl, ha⟩, hd⟩ | ⟨rfl, hd⟩
      · exact wz_iload_n hx hb (c_dc_t hd) (c_f4_v ha) hl hK
      · exact wz_iload hx hb (c_dc_t hd) hl hK
    · cases hs
  | 2 =>
    intro hc hK hs
    simp only [chk, Bool.and_eq_true, Bool.or_eq_true, decide_eq_true_eq, beq_iff_eq] at hc
    simp only [step] at hs
    split at hs
    · rename_i y hl
      have hK := hK _ _ _ hs
      rcases hc with ⟨⟨rfl, ha⟩, hd⟩ | ⟨rfl, hd⟩
      · exact wz_aload_n hx hb (c_dc_t hd) (c_f4_v ha) hl hK
      · exact wz_aload hx hb (c_dc_t hd) hl hK
    · rename_i hl
      have hK := hK _ _ _ hs
      rcases hc with ⟨⟨rfl, ha⟩, hd⟩ | ⟨rfl, hd⟩
      · exact wz_aload_nN hx hb (c_dc_t hd) (c_f4_v ha) hl hK
      · exact wz_aloadN hx hb (c_dc_t hd) hl hK
    · cases hs
  | 3 =>
    intro hc hK hs
    simp only [chk, Bool.and_eq_true, Bool.or_eq_true, decide_eq_true_eq, beq_iff_eq] at hc
    simp only [step] at hs
    split at hs
    · have hK := hK _ _ _ hs
      obtain ⟨hn, ⟨⟨rfl, ha⟩, hd⟩ | ⟨rfl, hd⟩⟩ := hc
      · exact wz_istore_n hx hb (c_dc_t hd) (c_f4_v ha) hn hK
      · exact wz_istore hx hb (c_dc_t hd) hn hK
    · cases hs
  | 4 =>
    intro hc hK hs
    simp only [chk, Bool.and_eq_true, Bool.or_eq_true, decide_eq_true_eq, beq_iff_eq] at hc
    simp only [step] at hs
    split at hs
    · have hK := hK _ _ _ hs
      obtain ⟨hn, ⟨⟨rfl, ha⟩, hd⟩ | ⟨rfl, hd⟩⟩ := hc
      · exact wz_astore_n hx hb (c_dc_t hd) (c_f4_v ha) hn hK
      · exact wz_astore hx hb (c_dc_t hd) hn hK
    · have hK := hK _ _ _ hs
      obtain ⟨hn, ⟨⟨rfl, ha⟩, hd⟩ | ⟨rfl, hd⟩⟩ := hc
      · exact wz_astore_nN hx hb (c_dc_t hd) (c_f4_v ha) hn hK
      · exact wz_astoreN hx hb (c_dc_t hd) hn hK
    · cases hs
  | 5 =>
    intro hc hK hs
    simp only [chk, Bool.and_eq_true, Bool.or_eq_true, decide_eq_true_eq, beq_iff_eq] at hc
    simp only [step] at hs
    split at hs
    · rename_i y hl
      have hK := hK _ _ _ hs
      obtain ⟨⟨⟨hn, rfl⟩, hd⟩, hv⟩ := hc
      exact wz_iinc hx hb (c_dc_t hd) hv hl hn hK
    · cases hs
  | 6 =>
    intro hc hK hs
    simp only [chk, Bool.and_eq_true, Bool.or_eq_true, decide_eq_true_eq, beq_iff_eq] at hc
    simp only [step] at hs
    split at hs
    · have hK := hK _ _ _ hs
      obtain ⟨rfl, hd⟩ := hc
      exact wz_bop hx hb (c_dc_t hd) rfl hK
    · cases hs
  | 7 =>
    intro hc hK hs
    simp only [chk, Bool.and_eq_true, Bool.or_eq_true, decide_eq_true_eq, beq_iff_eq] at hc
    simp only [step] at hs
    split at hs
    · split at hs
      · cases hs
      · rename_i hy
        have hK := hK _ _ _ hs
        obtain ⟨rfl, hd⟩ := hc
        exact wz_idiv hx hb (c_dc_t hd) hy hK
    · cases hs
  | 8 =>
    intro hc hK hs
    simp only [chk, Bool.and_eq_true, Bool.or_eq_true, decide_eq_true_eq, beq_iff_eq] at hc
    simp only [step] at hs
    split at hs
    · split at hs
      · cases hs
      · rename_i hy
        have hK := hK _ _ _ hs
        obtain ⟨rfl, hd⟩ := hc
        exact wz_irem hx hb (c_dc_t hd) hy hK
    · cases hs
  | 9 =>
    intro hc hK hs
    simp only [chk, Bool.and_eq_true, Bool.or_eq_true, decide_eq_true_eq, beq_iff_eq] at hc
    simp only [step] at hs
    split at hs
    · have hK := hK _ _ _ hs
      obtain ⟨rfl, hd⟩ := hc
      exact wz_uop hx hb (c_dc_t hd) rfl hK
    · cases hs
  | 10 =>
    intro hc hK hs
    simp only [chk, Bool.and_eq_true, Bool.or_eq_true, decide_eq_true_eq, beq_iff_eq] at hc
    simp only [step] at hs
    split at hs
    · obtain ⟨rfl, hd⟩ := hc
      exact wz_if hx hb (c_dc_t hd) rfl (by omega) hs (fun w => hJ _ _ _ _ w) (fun w => hK _ _ _ w)
    · cases hs
  | 11 =>
    intro hc hK hs
    simp only [chk, Bool.and_eq_true, Bool.or_eq_true, decide_eq_true_eq, beq_iff_eq] at hc
    simp only [step] at hs
    split at hs
    · obtain ⟨rfl, hd⟩ := hc
      exact wz_icmp hx hb (c_dc_t hd) rfl (by omega) hs (fun w => hJ _ _ _ _ w) (fun w => hK _ _ _ w)
    · cases hs
  | 12 =>
    intro hc hK hs
    simp only [chk, Bool.and_eq_true, Bool.or_eq_true, decide_eq_true_eq, beq_iff_eq] at hc
    simp only [step] at hs
    split at hs
    · obtain ⟨rfl, hd⟩ := hc
      exact wz_ifnull hx hb (c_dc_t hd) (hK _ _ _ hs)
    · obtain ⟨rfl, hd⟩ := hc
      exact wz_ifnullN hx hb (c_dc_t hd) (by omega) (hJ _ _ _ _ hs)
    · cases hs
  | 13 =>
    intro hc hK hs
    simp only [chk, Bool.and_eq_true, Bool.or_eq_true, decide_eq_true_eq, beq_iff_eq] at hc
    simp only [step] at hs
    split at hs
    · obtain ⟨rfl, hd⟩ := hc
      exact wz_ifnonnull hx hb (c_dc_t hd) (by omega) (hJ _ _ _ _ hs)
    · obtain ⟨rfl, hd⟩ := hc
      exact wz_ifnonnullN hx hb (c_dc_t hd) (hK _ _ _ hs)
    · cases hs
  | 14 =>
    intro hc hK hs
    simp only [chk, Bool.and_eq_true, Bool.or_eq_true, decide_eq_true_eq, beq_iff_eq] at hc
    exact wz_goto hx hb (c_dc_t hc) (by omega) (hJ _ _ _ _ hs)
  | 15 =>
    intro hc hK hs
    simp only [chk, Bool.and_eq_true, Bool.or_eq_true, decide_eq_true_eq, beq_iff_eq] at hc
    simp only [step] at hs
    split at hs
    · exact wz_table hx hb (c_dc_t hc.1) rfl rfl rfl rfl hc.2 hs (fun t w => hJ _ _ _ _ w)
    · cases hs
  | 16 =>
    intro hc hK hs
    simp only [chk, Bool.and_eq_true] at hc
    simp only [step] at hs
    split at hs
    · exact wz_lookup hx hb (c_dc_t hc.1.1) rfl rfl (fun q hq => of_decide_eq_true (List.all_eq_true.mp hc.1.2 q hq)) hc.2 hs (fun t w => hJ _ _ _ _ w)
    · cases hs
  | 17 =>
    intro hc hK hs
    simp only [chk, Bool.and_eq_true, Bool.or_eq_true, decide_eq_true_eq, beq_iff_eq] at hc
    simp only [step] at hs
    split at hs
    · obtain ⟨fs, y, g1, g2, g3⟩ := gI_inv hs
      obtain ⟨⟨⟨⟨rfl, hd⟩, ha⟩, hbn⟩, hl⟩ := hc
      have hvw := c_vw ha
      exact wz_get hx hb hF hown hvw (fun w hw => hts w (htab.2 a _ hvw w hw).1 (htab.2 a _ hvw w hw).2) hbn (c_tk_t hl hts) g1 g2 (c_dc_t hd) (hK _ _ _ g3)
    · cases hs
  | 18 =>
    intro hc hK hs
    simp only [chk, Bool.and_eq_true, Bool.or_eq_true, decide_eq_true_eq, beq_iff_eq] at hc
    simp only [step] at hs
    split at hs
    · obtain ⟨fs, g1, g2⟩ := gR_inv hs
      obtain ⟨⟨⟨⟨rfl, hd⟩, ha⟩, hbn⟩, hl⟩ := hc
      have hvw := c_vw ha
      rcases g2 with ⟨q, g2, g3⟩ | ⟨g2, g3⟩
      · exact wz_get hx hb hF hown hvw (fun w hw => hts w (htab.2 a _ hvw w hw).1 (htab.2 a _ hvw w hw).2) hbn (c_tk_t hl hts) g1 g2 (c_dc_t hd) (hK _ _ _ g3)
      · exact wz_get hx hb hF hown hvw (fun w hw => hts w (htab.2 a _ hvw w hw).1 (htab.2 a _ hvw w hw).2) hbn (c_tk_t hl hts) g1 g2 (c_dc_t hd) (hK _ _ _ g3)
    · cases hs
  | 19 =>
    intro hc hK hs
    simp only [chk, Bool.and_eq_true, Bool.or_eq_true, decide_eq_true_eq, beq_iff_eq, c_put] at hc
    simp only [step] at hs
    split at hs
    · obtain ⟨fs, g1, g2, g3⟩ := pF_inv hs
      obtain ⟨⟨⟨⟨⟨⟨rfl, hd⟩, ha⟩, hbn⟩, hl⟩, hfin⟩, hty⟩ := hc
      have hvw := c_vw ha
      have hfin : (c_fld a b).2.2.2 = false ∨ ((c_fld a b).2.2.2 = true ∧ meth.name = "<init>" ∧ (c_fld a b).1 = (mY M).cls) := by
        rcases hfin with g | ⟨⟨g, g2⟩, g3⟩
        · exact Or.inl g
        · exact Or.inr ⟨g, hini g2, g3⟩
      exact wz_put hx hb hF hown hvw (fun w hw => hts w (htab.2 a _ hvw w hw).1 (htab.2 a _ hvw w hw).2) (c_tyok a ha) (c_nmok a ha) hbn (c_tk_t hl hts) hfin (by rw [hty]; rfl) (by rw [hty]; rfl) ha g1 g2 (c_dc_t hd) (hK _ _ _ g3)
    · cases hs
  | 20 =>
    intro hc hK hs
    simp only [chk, Bool.and_eq_true, Bool.or_eq_true, decide_eq_true_eq, beq_iff_eq, c_put] at hc
    simp only [step] at hs
    split at hs
    · split at hs
      · rename_i hy01
        obtain ⟨fs, g1, g2, g3⟩ := pF_inv hs
        obtain ⟨⟨⟨⟨⟨⟨rfl, hd⟩, ha⟩, hbn⟩, hl⟩, hfin⟩, hty⟩ := hc
        have hvw := c_vw ha
        have hfin : (c_fld a b).2.2.2 = false ∨ ((c_fld a b).2.2.2 = true ∧ meth.name = "<init>" ∧ (c_fld a b).1 = (mY M).cls) := by
          rcases hfin with g | ⟨⟨g, g2⟩, g3⟩
          · exact Or.inl g
          · exact Or.inr ⟨g, hini g2, g3⟩
        exact wz_put hx hb hF hown hvw (fun w hw => hts w (htab.2 a _ hvw w hw).1 (htab.2 a _ hvw w hw).2) (c_tyok a ha) (c_nmok a ha) hbn (c_tk_t hl hts) hfin (by rw [hty]; exact (c_bool_n hy01).1) (by rw [hty]; exact (c_bool_n hy01).2) ha g1 g2 (c_dc_t hd) (hK _ _ _ g3)
      · cases hs
    · cases hs
  | 21 =>
    intro hc hK hs
    simp only [chk, Bool.and_eq_true, Bool.or_eq_true, decide_eq_true_eq, beq_iff_eq, c_put] at hc
    simp only [step] at hs
    split at hs
    · obtain ⟨fs, g1, g2, g3⟩ := pF_inv hs
      obtain ⟨⟨⟨⟨⟨⟨rfl, hd⟩, ha⟩, hbn⟩, hl⟩, hfin⟩, hty⟩ := hc
      have hvw := c_vw ha
      have hfin : (c_fld a b).2.2.2 = false ∨ ((c_fld a b).2.2.2 = true ∧ meth.name = "<init>" ∧ (c_fld a b).1 = (mY M).cls) := by
        rcases hfin with g | ⟨⟨g, g2⟩, g3⟩
        · exact Or.inl g
        · exact Or.inr ⟨g, hini g2, g3⟩
      exact wz_put hx hb hF hown hvw (fun w hw => hts w (htab.2 a _ hvw w hw).1 (htab.2 a _ hvw w hw).2) (c_tyok a ha) (c_nmok a ha) hbn (c_tk_t hl hts) hfin (c_ref_n hty _).1 (c_ref_n hty _).2 ha g1 g2 (c_dc_t hd) (hK _ _ _ g3)
    · cases hs
  | 22 =>
    intro hc hK hs
    simp only [chk, Bool.and_eq_true, Bool.or_eq_true, decide_eq_true_eq, beq_iff_eq] at hc
    simp only [step] at hs
    split at hs
    · obtain ⟨n, f, g1, g2, g3⟩ := aI_inv hs
      obtain ⟨rfl, hd⟩ := hc
      exact wz_aI hx hb hF hsa g1 g2 (c_dc_t hd) (by rcases a with _ | _ | a <;> rfl) (hK _ _ _ g3)
    · cases hs
  | 23 =>
    intro hc hK hs
    simp only [chk, Bool.and_eq_true, Bool.or_eq_true, decide_eq_true_eq, beq_iff_eq] at hc
    simp only [step] at hs
    split at hs
    · obtain ⟨t, n, g, g1, g2, g3⟩ := aR_inv hs
      obtain ⟨rfl, hd⟩ := hc
      refine wz_aR hx hb hF g1 g2 (c_dc_t hd) (fun w => ?_) (fun q w => ?_)
      · rcases g3 with ⟨q', g3, g4⟩ | ⟨g3, g4⟩
        · rw [g3] at w; cases w
        · exact hK _ _ _ g4
      · rcases g3 with ⟨q', g3, g4⟩ | ⟨g3, g4⟩
        · rw [g3] at w; cases w; exact hK _ _ _ g4
        · rw [g3] at w; cases w
    · cases hs
  | 24 =>
    intro hc hK hs
    simp only [chk, Bool.and_eq_true, Bool.or_eq_true, decide_eq_true_eq, beq_iff_eq] at hc
    simp only [step] at hs
    split at hs
    · obtain ⟨n, f, g1, g2, g3⟩ := sI_inv hs
      obtain ⟨rfl, hd⟩ := hc
      exact wz_sI hx hb hF g1 g2 (c_dc_t hd) (hK _ _ _ g3)
    · cases hs
  | 25 =>
    intro hc hK hs
    simp only [chk, Bool.and_eq_true, Bool.or_eq_true, decide_eq_true_eq, beq_iff_eq] at hc
    simp only [step] at hs
    split at hs
    · obtain ⟨n, f, g1, g2, g3⟩ := sI_inv hs
      obtain ⟨rfl, hd⟩ := hc
      exact wz_sZ hx hb hF g1 g2 (c_dc_t hd) (hK _ _ _ g3)
    · cases hs
  | 26 =>
    intro hc hK hs
    simp only [chk, Bool.and_eq_true, Bool.or_eq_true, decide_eq_true_eq, beq_iff_eq] at hc
    simp only [step] at hs
    split at hs
    · obtain ⟨n, g, cl, fs, g1, g2, g3, g4⟩ := sR_inv hs
      obtain ⟨rfl, hd⟩ := hc
      exact wz_sR hx hb hF g1 g2 g3 (c_dc_t hd) (hK _ _ _ g4)
    · cases hs
  | 27 =>
    intro hc hK hs
    simp only [chk, Bool.and_eq_true, Bool.or_eq_true, decide_eq_true_eq, beq_iff_eq] at hc
    simp only [step] at hs
    split at hs
    · obtain ⟨t, n, f, g1, g2⟩ := aL_inv hs
      obtain ⟨rfl, hd⟩ := hc
      exact wz_aL hx hb hF hsa g1 (c_dc_t hd) (hK _ _ _ g2)
    · cases hs
  | 28 =>
    intro hc hK hs
    simp only [chk, Bool.and_eq_true, Bool.or_eq_true, decide_eq_true_eq, beq_iff_eq] at hc
    obtain ⟨⟨⟨rfl, ha⟩, hd⟩, hl⟩ := hc
    have hz : statL[a]? = some (statL.getD a ("", "")) := by
      have hl : a < statL.length := ha
      simp [List.getD_eq_getElem?_getD, List.getElem?_eq_getElem hl]
    refine wz_stat hx hb hF hown hsa hz ?_ (c_dc_t hd) (hK _ _ _ hs)
    rcases hl with hl | hl
    · exact Or.inl (c_tk_t hl hts)
    · exact Or.inr (va_Nw.use rfl (c_tx_t hl hF))
  | 29 =>
    intro hc hK hs
    simp only [chk, Bool.and_eq_true, Bool.or_eq_true, decide_eq_true_eq, beq_iff_eq] at hc
    simp only [step] at hs
    obtain ⟨⟨⟨⟨⟨rfl, hd⟩, ha⟩, hl1⟩, hl2⟩, hl3⟩ := hc
    obtain ⟨g1, g2, g3⟩ := nO_inv hs
    have hvw := c_vw ha
    refine wz_later (fun hle => ?_)
    obtain ⟨q1, q2, q3⟩ := q_new CX (hKm _ _ _ g3) hle
    exact wz_new hx hb hF hown hvw (fun w hw => hts w (htab.2 a _ hvw w hw).1 (htab.2 a _ hvw w hw).2) (c_tyok a ha) ha (c_tk_t hl1 hts) (c_tk_t hl2 hts) (c_tk_t hl3 hts) g1 g2 q1 q2 q3 (c_dc_t hd) (hK _ _ _ g3)
  | 30 =>
    intro hc hK hs
    simp only [chk, Bool.and_eq_true, Bool.or_eq_true, decide_eq_true_eq, beq_iff_eq] at hc
    simp only [step] at hs
    split at hs
    · obtain ⟨g1, g2, g3, g4, g5⟩ := nA_inv hs
      refine wz_later (fun hle => ?_)
      obtain ⟨q1, q2, q3⟩ := q_new CX (hKm _ _ _ g5) hle
      obtain ⟨rfl, ⟨⟨rfl, hd⟩, hl⟩ | ⟨⟨rfl, hd⟩, hl⟩⟩ := hc
      · exact wz_newa hx hb hF (Or.inl ⟨rfl, rfl⟩) (c_tk_t hl hts) g3 g4 g1 g2 q1 q2 q3 (c_dc_t hd) (hK _ _ _ g5)
      · exact wz_newa hx hb hF (Or.inr ⟨rfl, rfl⟩) (c_tk_t hl hts) g3 g4 g1 g2 q1 q2 q3 (c_dc_t hd) (hK _ _ _ g5)
    · cases hs
  | 31 =>
    intro hc hK hs
    simp only [chk, Bool.and_eq_true, Bool.or_eq_true, decide_eq_true_eq, beq_iff_eq] at hc
    simp only [step] at hs
    split at hs
    · obtain ⟨g1, g2, g3, g4, g5⟩ := nQ_inv hs
      refine wz_later (fun hle => ?_)
      obtain ⟨q1, q2, q3⟩ := q_new CX (hKm _ _ _ g5) hle
      obtain ⟨⟨⟨⟨rfl, hok⟩, hd⟩, hl⟩, hl2⟩ := hc
      have hok : a = 13 ∨ a = 14 ∨ a = 17 ∨ a = 18 := by omega
      have hC9 : tgT a = .object (c_cls (a - 10)) := by rcases hok with rfl | rfl | rfl | rfl <;> rfl
      exact wz_newq hx hb hF hown hok hC9 (c_tk_t hl hts) (c_tx_t hl2 hF) g3 g4 g1 g2 q1 q2 q3 (c_dc_t hd) (hK _ _ _ g5)
    · cases hs
  | 32 =>
    intro hc hK hs
    simp only [chk, Bool.and_eq_true, Bool.or_eq_true, decide_eq_true_eq, beq_iff_eq] at hc
    simp only [step] at hs
    split at hs
    · split at hs
      · rename_i hy
        obtain ⟨rfl, hd⟩ := hc
        exact wz_dup hx hb (c_dc_t hd) hy (hK _ _ _ hs)
      · cases hs
    · cases hs
  | 33 =>
    intro hc hK hs
    simp only [chk, Bool.and_eq_true, Bool.or_eq_true, decide_eq_true_eq, beq_iff_eq] at hc
    simp only [step] at hs
    split at hs
    · split at hs
      · rename_i hy
        obtain ⟨rfl, hd⟩ := hc
        exact wz_dup2 hx hb (c_dc_t hd) hy.1 hy.2 (hK _ _ _ hs)
      · cases hs
    · cases hs
  | 34 =>
    intro hc hK hs
    simp only [chk, Bool.and_eq_true, Bool.or_eq_true, decide_eq_true_eq, beq_iff_eq] at hc
    simp only [step] at hs
    split at hs
    · split at hs
      · rename_i hy
        obtain ⟨rfl, hd⟩ := hc
        exact wz_pop hx hb (c_dc_t hd) hy (hK _ _ _ hs)
      · cases hs
    · cases hs
  | 35 =>
    intro hc hK hs
    simp only [step] at hs
    obtain ⟨hst, hs⟩ := ivk_inv hs
    obtain ⟨y, h2, e1, e2⟩ := cI_inv hs
    exact call_sound CX hst hc e1 (hKm _ _ _ e2) (hK _ _ _ e2)
  | 36 =>
    intro hc hK hs
    simp only [step] at hs
    obtain ⟨hst, hs⟩ := ivk_inv hs
    obtain ⟨h2, e1, e2⟩ := cV_inv hs
    exact call_sound CX hst hc e1 (hKm _ _ _ e2) (hK _ _ _ e2)
  | 37 =>
    intro hc hK hs
    simp only [step] at hs
    obtain ⟨hst, hs⟩ := ivk_inv hs
    rcases cR_inv hs with ⟨q, h2, e1, e2⟩ | ⟨h2, e1, e2⟩
    · exact call_sound CX hst hc e1 (hKm _ _ _ e2) (hK _ _ _ e2)
    · exact call_sound CX hst hc e1 (hKm _ _ _ e2) (hK _ _ _ e2)
  | 38 =>
    intro hc hK hs
    simp only [chk, Bool.and_eq_true, Bool.or_eq_true, decide_eq_true_eq, beq_iff_eq] at hc
    simp only [step] at hs
    split at hs
    · cases hs
      exact hQ _ _ (Or.inl ⟨c_dc_t hc.1, rfl, hc.2⟩)
    · cases hs
  | 39 =>
    intro hc hK hs
    simp only [chk, Bool.and_eq_true, Bool.or_eq_true, decide_eq_true_eq, beq_iff_eq] at hc
    simp only [step] at hs
    split at hs
    · cases hs
      exact hQ _ _ (Or.inr (Or.inl ⟨c_dc_t hc.1, _, rfl, Or.inl hc.2⟩))
    · cases hs
  | 40 =>
    intro hc hK hs
    simp only [chk, Bool.and_eq_true, Bool.or_eq_true, decide_eq_true_eq, beq_iff_eq] at hc
    simp only [step] at hs
    split at hs
    · split at hs
      · rename_i hy
        cases hs
        exact hQ _ _ (Or.inr (Or.inl ⟨c_dc_t hc.1, _, rfl, Or.inr ⟨hc.2, hy⟩⟩))
      · cases hs
    · cases hs
  | 41 =>
    intro hc hK hs
    have hc : (c_dc mC M pc .areturn 1 && (match mT M with | some ty => c_ref ty | none => false)) = true := hc
    rw [Bool.and_eq_true] at hc
    obtain ⟨hd, ht⟩ := hc
    have ht : ∃ ty, mT M = some ty ∧ c_ref ty = true := by
      split at ht
      · rename_i ty hty
        exact ⟨ty, hty, ht⟩
      · cases ht
    simp only [step] at hs
    split at hs
    · cases hs
      exact hQ _ _ (Or.inr (Or.inr ⟨c_dc_t hd, _, rfl, Or.inr ⟨_, rfl⟩, ht⟩))
    · cases hs
      exact hQ _ _ (Or.inr (Or.inr ⟨c_dc_t hd, _, rfl, Or.inl rfl, ht⟩))
    · cases hs
  | 42 =>
    intro hc hK hs
    simp only [chk, Bool.and_eq_true, Bool.or_eq_true, decide_eq_true_eq, beq_iff_eq] at hc
    obtain ⟨rfl, hd⟩ := hc
    exact wz_null hx hb (c_dc_t hd) (hK _ _ _ hs)
  | 43 =>
    intro hc hK hs
    simp only [chk, Bool.and_eq_true, Bool.or_eq_true, decide_eq_true_eq, beq_iff_eq] at hc
    simp only [step] at hs
    split at hs
    · split at hs
      · rename_i hst
        obtain ⟨⟨⟨⟨rfl, hd⟩, hl1⟩, hl2⟩, hl3⟩ := hc
        exact wz_objInit hx hb hml hown (c_tk_t hl1 hts) (c_tk_t hl2 hts) (c_tk_t hl3 hts) hst ⟨by omega, by omega⟩ (c_dc_t hd) (hK _ _ _ hs)
      · cases hs
    · cases hs
  | 44 =>
    intro hc hK hs
    simp only [chk, Bool.and_eq_true, Bool.or_eq_true, decide_eq_true_eq, beq_iff_eq] at hc
    simp only [step] at hs
    split at hs
    · split at hs
      · rename_i hst
        obtain ⟨n0, f, n1, g, g1, g2, g3, g4, g5, g6, g7, g8⟩ := cpA_inv hs
        obtain ⟨⟨⟨⟨⟨rfl, hd⟩, hl1⟩, hl2⟩, hl3⟩, hl4⟩ := hc
        exact wz_copy hx hb hml hF hown (c_tk_t hl1 hts) (c_tk_t hl2 hts) (c_tk_t hl3 hts) (c_tk_t hl4 hts) g1 g2 g3 g4 g5 g6 g7 hst ⟨by omega, by omega⟩ (c_dc_t hd) (hK _ _ _ g8)
      · cases hs
    · cases hs
  | 45 =>
    intro hc hK hs
    simp only [chk, Bool.and_eq_true, Bool.or_eq_true, decide_eq_true_eq, beq_iff_eq] at hc
    subst hc
    exact hJ _ _ _ _ hs
  | 46 =>
    intro hc hK hs
    simp only [chk, Bool.and_eq_true, Bool.or_eq_true, decide_eq_true_eq, beq_iff_eq] at hc
    simp only [step] at hs
    split at hs
    · split at hs
      · rename_i hst
        obtain ⟨n, f, g1, g2, g3, g4⟩ := clA_inv hs
        obtain ⟨⟨⟨⟨⟨⟨⟨rfl, hd⟩, hl1⟩, hl2⟩, hl3⟩, hl4⟩, hl5⟩, hl6⟩ := hc
        refine wz_later (fun hle => ?_)
        obtain ⟨q1, q2, q3⟩ := q_new CX (hKm _ _ _ g4) hle
        exact wz_clone hx hb hml hF hown (c_tk_t hl1 hts) (c_tk_t hl2 hts) (c_tk_t hl3 hts) (c_tk_t hl4 hts) (c_tk_t hl5 hts) (c_tx_t hl6 hF) g1 g2 g3 q1 hst ⟨by omega, by omega⟩ q2 q3 (c_dc_t hd) (hK _ _ _ g4)
      · cases hs
    · cases hs
  | 47 =>
    intro hc hK hs
    simp only [chk, Bool.and_eq_true, Bool.or_eq_true, decide_eq_true_eq, beq_iff_eq] at hc
    simp only [step] at hs
    split at hs
    · split at hs
      · rename_i hst
        obtain ⟨n, f, g1⟩ := isA_inv hst
        obtain ⟨⟨rfl, hd⟩, hl⟩ := hc
        exact wz_castA hx hb hF hown (c_tk_t hl hts) g1 (c_dc_t hd) (hK _ _ _ hs)
      · cases hs
    · cases hs
  | n + 48 =>
    intro hc hK hs
    simp only [step] at hs
    cases hs
theorem run_sound {C : Nat → List Value → PH → PR} {J : Nat → PL → List Value → PH → PR} {d M : Nat} {h' : PH} {r : Option Value} (CX : q_CX p l R s m args meth c D dA base ad h0 sa ro tbl nM mY mC mL mT C d M h')
    (hQ : ∀ (pc : Nat) (lv : PL), q_RT mC mT M pc r → q_WZ p l e R s m args below meth c Q D dA base ad (mL M) h0 h' lv pc r.toList) (hJ : ∀ t lv st h1, J t lv st h1 = some (r, h') → q_WZ p l e R s m args below meth c Q D dA base ad (mL M) h0 h1 lv t st) (hJm : ∀ t lv st h1, J t lv st h1 = some (r, h') → PLe h1 h') :
    ∀ (is : List PI) (pc : Nat) (lv : PL) (st : List Value) (h : PH), chkL mY mC mL mT tbl nM M pc is = true → run ro J C is lv st h = some (r, h') → q_WZ p l e R s m args below meth c Q D dA base ad (mL M) h0 h lv pc st
  | [], _, _, _, _, _, hs => by cases hs
  | i :: is, pc, lv, st, h, hc, hs => by
    simp only [chkL, Bool.and_eq_true, beq_iff_eq] at hc
    obtain ⟨⟨rfl, hc1⟩, hc2⟩ := hc
    exact step_sound CX hQ hJ (run_mono hJm CX.2.2.2.2.2.2.2.2.2.2.2.2 is) i hc1 (fun lv st h1 w => run_sound CX hQ hJ hJm is _ lv st h1 hc2 w) hs
theorem pget_ok {f : Nat → List PI → Bool} : ∀ {B : List (Nat × List PI)}, B.all (fun q => f q.1 q.2) = true → (∀ t, f t [] = true) → ∀ t, f t (pget B t) = true
  | [], _, h0, t => h0 t
  | (k, b) :: r, h, h0, t => by
    simp only [List.all_cons, Bool.and_eq_true] at h
    unfold pget
    split
    · rename_i e
      subst e
      exact h.1
    · exact pget_ok h.2 h0 t
theorem EXn_sound {C : Nat → List Value → PH → PR} {B : List (Nat × List PI)} {d M : Nat} {h' : PH} {r : Option Value} (CX : q_CX p l R s m args meth c D dA base ad h0 sa ro tbl nM mY mC mL mT C d M h')
    (hQ : ∀ (pc : Nat) (lv : PL), q_RT mC mT M pc r → q_WZ p l e R s m args below meth c Q D dA base ad (mL M) h0 h' lv pc r.toList) (hB : B.all (fun q => chkL mY mC mL mT tbl nM M q.1 q.2) = true) :
    ∀ (n t : Nat) (lv : PL) (st : List Value) (h : PH), EXn ro B C n t lv st h = some (r, h') → q_WZ p l e R s m args below meth c Q D dA base ad (mL M) h0 h lv t st
  | 0, _, _, _, _, hs => by cases hs
  | n + 1, t, lv, st, h, hs => run_sound CX hQ (EXn_sound CX hQ hB n) (EXn_mono CX.2.2.2.2.2.2.2.2.2.2.2.2 n) (pget B t) t lv st h (pget_ok hB (fun _ => rfl) t) hs
end STEPS
