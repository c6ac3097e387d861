/-! A CALL of a checked program meets the pure machine's answer: the form for every method -/
/-- as Met.ofW, for a method that no row of the natives' table stands for -/
theorem Met_ofWF {l : Launch} {y : MethodName} {ws ws' : List Cond} {rm : Room} {Pc : Array Value → State → Prop} {Qc : Array Value → State → Outcome → State → Prop} {mc ms : Nat} {free : Addr → Prop} {cc : ByteArray} {maxL : Nat} {ret : Option FieldType}
    (hy : plainFor y = true) (hw : ws = Cond.code y cc maxL ret :: ws')
    (body : ∀ p e s m args below meth c s₁, BodyLoose p l y (headSpec ws rm) cc maxL ret e s m args below meth c s₁ → c.maxLocals = maxL → Pc args s →
      W p l e (headSpec ws rm).room s m args below meth c s.heap [] 0 0 (MQ below Qc args s mc ms free) (entryFrame m args maxL)) : Met l y ws rm Pc Qc mc ms free := by
  refine MetFree.of_bodySF (code := cc) (maxLocals := maxL) (ret := ret) hy ?_ ?_
  · intro args s m h hn
    obtain ⟨meth, c, h1, h2, h3, h4, h5, h6, -, -⟩ := Cond.code_spec hn (atoms_spec (ws := ws) h _ (by rw [hw]; exact List.mem_cons_self))
    exact ⟨meth, c, h1, h2, h3, h4, h5, h6⟩
  · intro p e s m args below meth c s₁ B hml hP _
    have hh0 : s₁.heap = s.heap := by rw [B.state]; rfl
    obtain ⟨t, a1, o, b1, b2, b3⟩ := body p e s m args below meth c s₁ B hml hP s₁ hh0 (Stand.of_body B)
    exact ⟨t, o, a1, b1, b2, ⟨b3.1, b3.2⟩⟩
theorem CALL_soundF {l : Launch} {D : va_G} {dA : Nat → ClassId} {base : Nat} {sa : Nat → Nat} {ro : RO} {tbl : List Cond} {nM : Nat} {mY : Nat → MethodName} {mC : Nat → ByteArray} {mL : Nat → Nat} {mT : Nat → Option FieldType} {P : Nat → List (Nat × List PI)} {F : Nat}
    (htab : q_tabs mY mC mL mT tbl nM) (hpl : ∀ M, M < nM → plainFor (mY M) = true) (hP : ∀ M, M < nM → (P M).all (fun q => chkL mY mC mL mT tbl nM M q.1 q.2) = true) (hP0 : ∀ M, nM ≤ M → P M = []) :
    ∀ (d M : Nat) (as : List Value) (h : PH) (r : Option Value) (h' : PH), CALL ro P mL F d M as h = some (r, h') → q_Met l D dA base sa ro mY mC mL mT tbl d M as h r h'
  | 0, _, _, _, _, _, hs => by cases hs
  | d + 1, M, as, h, r, h', hs => by
    unfold CALL at hs
    split at hs
    · rename_i has
      have hM : M < nM := by
        rcases Nat.lt_or_ge M nM with q | q
        · exact q
        · rw [hP0 M q] at hs
          cases F with
          | zero => cases hs
          | succ n => cases hs
      have hcat : ∀ v ∈ as, v.category = 1 := fun v hv => by simpa using List.all_eq_true.mp has.2 v hv
      intro ad had hsa
      refine Met_ofWF (cc := mC M) (maxL := mL M) (ret := mT M) (hpl M hM) rfl ?_
      intro p e s m args below meth c s₁ B hml hv
      obtain ⟨rfl, hR, hF⟩ := hv
      have hx := B.exec
      have hb := B.bytes
      have hr := B.returns
      have hts0 := atoms_spec (ws := q_ws mY mC mL mT tbl M) B.pre
      have hts : ∀ w ∈ tbl, goodWord w = true → w.before (as.map (q_tr ad)).toArray s = true := fun w hw hg => hts0 w (List.mem_cons_of_mem _ (List.mem_filter.mpr ⟨hw, hg⟩))
      have hown : s.vm.findClass (mY M).cls = some m.cls := findClass_of_methodNamed B.named
      have hlocks := B.notSynchronized
      have hname : meth.name = (mY M).name := (name_of_methodNamed B.named B.method).1
      have CX : q_CX p l (headSpec (q_ws mY mC mL mT tbl M) (q_room (d + 1) (h'.2.2.1.length - h.2.2.1.length) (h'.2.2.2 - h.2.2.2))).room s m (as.map (q_tr ad)).toArray meth c D dA base ad h sa ro tbl nM mY mC mL mT (CALL ro P mL F d) d M h' :=
        ⟨hx, hb, hml, hown, hts, hF, fun g => hname.trans g, htab, hsa, had, ⟨Nat.le_refl _, Nat.le_refl _, Nat.le_refl _, Nat.le_refl _⟩, CALL_soundF htab hpl hP hP0 d, CALL_mono d⟩
      have hQ : ∀ (pc : Nat) (lv : PL), q_RT mC mT M pc r → q_WZ p l e (headSpec (q_ws mY mC mL mT tbl M) (q_room (d + 1) (h'.2.2.1.length - h.2.2.1.length) (h'.2.2.2 - h.2.2.2))).room s m (as.map (q_tr ad)).toArray below meth c (MQ below (fun _ st o t => o = .returned (r.map (q_tr ad)) ∧ q_Rep D dA base ad h' t.heap ∧ va_F (q_A base) st t) (as.map (q_tr ad)).toArray s (h'.2.2.1.length - h.2.2.1.length) (h'.2.2.2 - h.2.2.2) (q_A base)) D dA base ad (mL M) h h' lv pc r.toList := by
        intro pc lv hrt H locs ls a1 a2 a3 a4
        rcases hrt with ⟨hd, rfl, hT⟩ | ⟨hd, y, rfl, hT⟩ | ⟨hd, v, rfl, hv, ty, hT, hty⟩
        · exact W.vret hx hb (hr.trans hT) (fun t ht hW => ⟨rfl, by rw [ht]; exact a1, a2.F ht⟩) a2.2.2 hd
        · rcases hT with hT | ⟨hT, hy⟩
          · exact W.iret hx hb (hr.trans hT) (fun t ht hW => ⟨rfl, by rw [ht]; exact a1, a2.F ht⟩) a2.2.2 hd
          · exact W.zret hx hb (hr.trans hT) (c_bool_n hy).1 (fun t ht hW => ⟨rfl, by rw [ht]; exact a1, a2.F ht⟩) a2.2.2 hd
        · have hrt : (∃ n, ty = .object n) ∨ ∃ t, ty = .array t := by
            cases ty <;> first | exact Or.inl ⟨_, rfl⟩ | exact Or.inr ⟨_, rfl⟩ | cases hty
          have hv2 : q_tr ad v = .null ∨ ∃ a, q_tr ad v = .ref a := by
            rcases hv with rfl | ⟨q, rfl⟩
            · exact Or.inl rfl
            · exact Or.inr ⟨_, rfl⟩
          exact W.aret hx hb (hr.trans hT) hrt hv2 (fun t ht hW => ⟨rfl, by rw [ht]; exact a1, a2.F ht⟩) a2.2.2 hd
      rw [lg_entry_eq]
      have K := EXn_sound CX hQ (hP M hM) F 0 (entry (mL M) as) [] h hs s.heap [] _ hR va_S.rf (q_LV_entry (ad := ad) hcat has.1) (PLe.rf h)
      rw [Nat.sub_self, Nat.sub_self] at K
      exact K
    · cases hs
