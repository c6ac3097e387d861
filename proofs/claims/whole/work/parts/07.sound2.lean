/-! the heap's instructions -/
theorem q_trd (ad : Nat → Nat) (ty : FieldType) : q_tr ad (defaultValue ty) = defaultValue ty := by cases ty <;> rfl
theorem q_FX.K0 {D : va_G} {dA : Nat → ClassId} {base : Nat} {sa : Nat → Nat} {ro : RO} {tbl : List Cond} {s : State} (h : q_FX D dA base sa ro tbl s) : va_K D vwCl [] s := ⟨h.1, fun k q hk => by simp at hk⟩
section WZ2
variable {p : Program} {l : Launch} {e : Env} {R : Room} {s : State} {m : MethodId} {args : Array Value} {below : List Frame} {meth : Method} {c : Code} {Q : State → Prop} {D : va_G} {dA : Nat → ClassId} {base : Nat} {ad : Nat → Nat} {nL : Nat} {h0 h : PH} {lv : PL} {pc : Nat} {st : List Value} {cc : ByteArray} {sa : Nat → Nat} {ro : RO} {tbl : List Cond} {own : String}
theorem wz_get (hx : p.tables.exec = Jvm.exec) (hb : c.code = cc) (hF : q_FX D dA base sa ro tbl s) (hown : s.vm.findClass own = some m.cls) {ci j x k : Nat} {C : String} {T : u_T} {N : Nat} {fs : List Value} {v : Value} (hc : vwCl[ci]? = some (C, T, N)) (hU : ∀ w ∈ u_ws C T N, w.before args s = true) (hj : j < N) (hl : (Cond.fieldLink own x (T j).1 (T j).2.1 (T j).2.2.1).before args s = true)
    (hk : h.1 k = some (.inr (.inr (ci, fs)))) (hv : fs[j]? = some v) (hd : decode cc pc = .ok (.getfield x, 3)) (kk : q_WZ p l e R s m args below meth c Q D dA base ad nL h0 h lv (pc + 3) (v :: st)) : q_WZ p l e R s m args below meth c Q D dA base ad nL h0 h lv pc (.ref k :: st) := fun H locs ls a1 a2 a3 a4 =>
  va_get hx hb hU (fun _ w => w) hown hF.K0 (a1.one hk) 0 rfl hc j hj hl (fun _ w => w) (v := q_tr ad v) (by rw [List.getElem?_map, hv]; rfl) hd (kk H locs ls a1 a2 a3 a4)
theorem wz_put (hx : p.tables.exec = Jvm.exec) (hb : c.code = cc) (hF : q_FX D dA base sa ro tbl s) (hown : s.vm.findClass own = some m.cls) {ci j x k : Nat} {C : String} {T : u_T} {N : Nat} {fs : List Value} {v : Value} (hc : vwCl[ci]? = some (C, T, N)) (hU : ∀ w ∈ u_ws C T N, w.before args s = true) (hty : ∀ k, k < N → parseFieldDescriptor (T k).2.2.1 = some (clT ci k)) (hnm : ∀ a, a < N → ∀ b, b < N → a ≠ b → (T a).2.1 ≠ (T b).2.1) (hj : j < N) (hl : (Cond.fieldLink own x (T j).1 (T j).2.1 (T j).2.2.1).before args s = true)
    (hfin : (T j).2.2.2 = false ∨ ((T j).2.2.2 = true ∧ meth.name = "<init>" ∧ (T j).1 = own)) (hn : narrow (clT ci j) (q_tr ad v) = q_tr ad v) (hfit : fits (clT ci j) (q_tr ad v) = true) (hlt : ci < 12)
    (hk : h.1 k = some (.inr (.inr (ci, fs)))) (hjl : j < fs.length) (hd : decode cc pc = .ok (.putfield x, 3)) (kk : q_WZ p l e R s m args below meth c Q D dA base ad nL h0 (ph_put h k (.inr (.inr (ci, fs.set j v)))) lv (pc + 3) st) : q_WZ p l e R s m args below meth c Q D dA base ad nL h0 h lv pc (v :: .ref k :: st) := by
  intro H locs ls a1 a2 a3 a4
  obtain ⟨i, hi, hw⟩ := a1.idx hk
  have hP := a1.2.2.2.2.2.1
  have hD := a1.2.2.2.2.2.2
  have hap := va_apart (own := own) hU (fun _ w => w) (clT ci) hty hnm hF.K0 hc
  obtain ⟨r, h1, cell, q1, q2, q3, q4⟩ := hP i _ hw
  have hr : r = (C, T, N) := Option.some.inj (h1.symm.trans hc)
  subst hr
  obtain ⟨hS, hfc, kC, hkC, hkind⟩ := hF.1 ci _ hc
  obtain ⟨cf, kf, fi, f, hi2, hsl⟩ := hS j hj
  have hlay := hU _ (u_in_lay hj)
  have hst := (u_facts hfc hkC (u_lays hU (fun _ w => w) hj) hi2).1
  have fin : ∀ H1 : Heap, H1[ad k]? = some (cell.setSlot f.slot (q_tr ad v)) → H1.size = H.size → (∀ q, q ≠ ad k → H1[q]? = H[q]?) → W p l e R s m args below meth c H1 (locs ++ [⟨ad k, f.slot⟩]) (h.2.2.1.length - h0.2.2.1.length) (h.2.2.2 - h0.2.2.2) Q (F0 m (pc + 3) ls (st.map (q_tr ad))) := by
    intro H1 e1 e2 e3
    rw [hsl] at e1 ⊢
    have hat : va_at D vwCl (ad k, q_trE dA ad (.inr (.inr (ci, fs.set j v)))) H1 := by
      refine ⟨_, hc, t_OB.to (V := updV (vp_V (fs.map (q_tr ad))) j (q_tr ad v)) ⟨_, e1, q2, q3, t_set q4 hap hj (q_tr ad v)⟩ (fun y _ => ?_)⟩
      rw [vp_updV_set (by simpa using hjl), List.map_set]
    exact kk H1 _ ls (a1.put (e := .inr (.inr (ci, fs.set j v))) hk hi hlt e2 (hP.set hD hw hat e3) (hD.set hw)) (a2.put e2 e3 (hD.2 i _ hw)) a3 a4
  rcases hfin with hfin | ⟨hfin, hin2, hdecl⟩
  · unfold u_lay at hlay
    rw [if_neg (by rw [hfin]; decide)] at hlay
    have h6 := u_store hfc hkC hkind hlay hi2 (hty j hj) hn hfit
    exact W.putK hx hb (f := f) ⟨hown, hl, ⟨_, _, _, hi2⟩, hst⟩ (by rw [q2]; exact h6) q1 q3 (by rw [hsl]; exact k2_hasslot (q4 j hj)) rfl rfl hd fin
  · unfold u_lay at hlay
    rw [if_pos hfin] at hlay
    have hcf : m.cls = cf := by
      obtain ⟨_, _, c', _, _, _, -, -, hf', -, -, -, hown2, -⟩ := Cond.laysFinal_spec hlay
      have e1 : c' = cf := by have := hi2.symm.trans hf'; simp at this; exact this.1.symm
      rw [hdecl] at hown2
      rw [← e1]; exact Option.some.inj (hown.symm.trans hown2)
    have h6 := u_fits hfc hkC hkind (Or.inr hlay) hi2 (hty j hj) hn hfit
    exact W.putFinK hx hb hown hl hi2 hst hcf hin2 (by rw [q2]; exact h6) q1 q3 (by rw [hsl]; exact k2_hasslot (q4 j hj)) rfl rfl hd fin
theorem arr_lo {k : Nat} {z : Nat × Nat × (Nat → Int32)} (ha : arr ro h k = some z) (hk : ¬ 30000 ≤ k) : h.1 k = some (.inl z) := by
  unfold arr at ha
  rw [if_neg hk] at ha
  split at ha
  · rename_i z' hz
    cases ha
    exact hz
  · cases ha
theorem arr_hi {k : Nat} {z : Nat × Nat × (Nat → Int32)} (ha : arr ro h k = some z) (hk : 30000 ≤ k) : ro k = some z := by
  unfold arr at ha
  rw [if_pos hk] at ha
  exact ha
theorem wz_aI (hx : p.tables.exec = Jvm.exec) (hb : c.code = cc) (hF : q_FX D dA base sa ro tbl s) (hsa : ∀ k, 30000 ≤ k → ad k = sa k) {a k n : Nat} {f : Nat → Int32} {y : Int32} {ins : Instr} (ha : arr ro h k = some (a, n, f)) (hin : vp_in y n) (hd : decode cc pc = .ok (ins, 1)) (hi : ins = match a with | 0 => .iaload | 1 => .baload | _ => .caload) (kk : q_WZ p l e R s m args below meth c Q D dA base ad nL h0 h lv (pc + 1) (.int (f y.toNatClampNeg) :: st)) : q_WZ p l e R s m args below meth c Q D dA base ad nL h0 h lv pc (.int y :: .ref k :: st) := by
  intro H locs ls a1 a2 a3 a4
  have kk := kk H locs ls a1 a2 a3 a4
  by_cases hk : 30000 ≤ k
  · obtain ⟨ht, hT⟩ := hF.2.2.2.1 k a n f (arr_hi ha hk)
    rw [← hsa k hk] at hT
    rcases ht with rfl | rfl
    · subst hi
      exact va_ti hx hb hT a2 hin rfl hd kk
    · subst hi
      exact va_tc hx hb hT a2 hin rfl hd kk
  · have hk2 := arr_lo ha hk
    have hok : a = 0 ∨ a = 1 ∨ a = 2 := a1.2.2.2.2.1 k _ hk2
    rcases hok with rfl | rfl | rfl
    · subst hi
      exact va_iald hx hb (hF.K (t := 0) (by decide)) (a1.one hk2) 0 0 rfl rfl hin hd kk
    · subst hi
      exact va_zald hx hb (hF.K (t := 1) (by decide)) (a1.one hk2) 0 0 rfl rfl hin hd kk
    · subst hi
      exact va_cald hx hb (hF.K (t := 2) (by decide)) (a1.one hk2) 0 0 rfl rfl hin hd kk
theorem wz_aL (hx : p.tables.exec = Jvm.exec) (hb : c.code = cc) (hF : q_FX D dA base sa ro tbl s) (hsa : ∀ k, 30000 ≤ k → ad k = sa k) {t k n : Nat} {f : Nat → Int32} (ha : arr ro h k = some (t, n, f)) (hd : decode cc pc = .ok (.arraylength, 1)) (kk : q_WZ p l e R s m args below meth c Q D dA base ad nL h0 h lv (pc + 1) (.int (Int32.ofNat n) :: st)) : q_WZ p l e R s m args below meth c Q D dA base ad nL h0 h lv pc (.ref k :: st) := by
  intro H locs ls a1 a2 a3 a4
  have kk := kk H locs ls a1 a2 a3 a4
  by_cases hk : 30000 ≤ k
  · obtain ⟨ht, hT⟩ := hF.2.2.2.1 k t n f (arr_hi ha hk)
    rw [← hsa k hk] at hT
    obtain ⟨cell, g1, g2, g3, g4, g5, g6, g7⟩ := hT
    exact W.alen (n := Int32.ofNat n) hx hb (by rw [a2.2.1 _ (Array.getElem?_eq_some_iff.mp g1).1 g7]; exact g1) g2 g5 rfl rfl hd kk
  · have hk2 := arr_lo ha hk
    have hok : t = 0 ∨ t = 1 ∨ t = 2 := a1.2.2.2.2.1 k _ hk2
    have htg : t ∈ tgs := by rcases hok with rfl | rfl | rfl <;> decide
    exact va_alen hx hb (hF.K htg) (a1.one hk2) 0 0 rfl rfl rfl hd kk
theorem tgT_obj {t : Nat} (h : t = 13 ∨ t = 14 ∨ t = 17 ∨ t = 18) : t ∈ tgs ∧ ∃ C : String, tgT t = .object C := by
  rcases h with rfl | rfl | rfl | rfl <;> exact ⟨by decide, _, rfl⟩
theorem wz_aR (hx : p.tables.exec = Jvm.exec) (hb : c.code = cc) (hF : q_FX D dA base sa ro tbl s) {t k n : Nat} {g : Nat → Option Nat} {y : Int32} (hk : h.1 k = some (.inr (.inl (t, n, g)))) (hin : vp_in y n) (hd : decode cc pc = .ok (.aaload, 1))
    (kn : g y.toNatClampNeg = none → q_WZ p l e R s m args below meth c Q D dA base ad nL h0 h lv (pc + 1) (.null :: st)) (ks : ∀ q, g y.toNatClampNeg = some q → q_WZ p l e R s m args below meth c Q D dA base ad nL h0 h lv (pc + 1) (.ref q :: st)) : q_WZ p l e R s m args below meth c Q D dA base ad nL h0 h lv pc (.int y :: .ref k :: st) := by
  intro H locs ls a1 a2 a3 a4
  obtain ⟨htg, C, hC⟩ := tgT_obj (a1.2.2.2.2.1 k _ hk)
  have hK := hF.K htg
  refine va_aldq hx hb hK (a1.one hk) 0 0 (C := C) rfl (by rw [hC]; rfl) hin hd ?_
  cases hq : g y.toNatClampNeg with
  | none => exact kn hq H locs ls a1 a2 a3 a4
  | some q => exact ks q hq H locs ls a1 a2 a3 a4
theorem wz_sI (hx : p.tables.exec = Jvm.exec) (hb : c.code = cc) (hF : q_FX D dA base sa ro tbl s) {k n : Nat} {f : Nat → Int32} {y z : Int32} (hk : h.1 k = some (.inl (0, n, f))) (hin : vp_in y n) (hd : decode cc pc = .ok (.iastore, 1)) (kk : q_WZ p l e R s m args below meth c Q D dA base ad nL h0 (ph_put h k (.inl (0, n, upd f y.toNatClampNeg z))) lv (pc + 1) st) : q_WZ p l e R s m args below meth c Q D dA base ad nL h0 h lv pc (.int z :: .int y :: .ref k :: st) := by
  intro H locs ls a1 a2 a3 a4
  obtain ⟨i, hi, hw⟩ := a1.idx hk
  have hP := a1.2.2.2.2.2.1
  have hD := a1.2.2.2.2.2.2
  have hK := hF.K (t := 0) (by decide)
  refine W.iast hx hb (hP i _ hw) ((hK.2 0 _ rfl).1 n (fun j => .int (f j))) (fun q => by cases q) (by show ¬ (y < 0 ∨ (arrV _ _ _).slots.size ≤ _); rw [arrV_size]; exact hin) rfl rfl hd fun H1 e1 z1 oq => ?_
  refine kk H1 _ ls (a1.put (e := .inl (0, n, upd f y.toNatClampNeg z)) hk hi (Or.inl rfl) z1 (hP.set hD hw ?_ oq) (hD.set hw)) (a2.put z1 oq (hD.2 i _ hw)) a3 a4
  show H1[ad k]? = some (vp_cell _ _)
  rw [e1]
  rw [vp_cell_i, vp_cell_i, arrV_store]
  congr 2
  funext q
  by_cases hq : q = y.toNatClampNeg
  · subst hq
    simp [updV, upd]
  · simp [updV, upd, hq]
theorem wz_sZ (hx : p.tables.exec = Jvm.exec) (hb : c.code = cc) (hF : q_FX D dA base sa ro tbl s) {k n : Nat} {f : Nat → Int32} {y z : Int32} (hk : h.1 k = some (.inl (1, n, f))) (hin : vp_in y n) (hd : decode cc pc = .ok (.bastore, 1)) (kk : q_WZ p l e R s m args below meth c Q D dA base ad nL h0 (ph_put h k (.inl (1, n, upd f y.toNatClampNeg (vp_nar .boolean z)))) lv (pc + 1) st) : q_WZ p l e R s m args below meth c Q D dA base ad nL h0 h lv pc (.int z :: .int y :: .ref k :: st) := by
  intro H locs ls a1 a2 a3 a4
  obtain ⟨i, hi, hw⟩ := a1.idx hk
  have hP := a1.2.2.2.2.2.1
  have hD := a1.2.2.2.2.2.2
  have hK := hF.K (t := 1) (by decide)
  refine W.zast hx hb (hP i _ hw) ((hK.2 0 _ rfl).1 n (fun j => .int (f j))) (fun q => by cases q) (by show ¬ (y < 0 ∨ (arrV _ _ _).slots.size ≤ _); rw [arrV_size]; exact hin) rfl rfl hd fun H1 e1 z1 oq => ?_
  refine kk H1 _ ls (a1.put (e := .inl (1, n, upd f y.toNatClampNeg (vp_nar .boolean z))) hk hi (Or.inr (Or.inl rfl)) z1 (hP.set hD hw ?_ oq) (hD.set hw)) (a2.put z1 oq (hD.2 i _ hw)) a3 a4
  show H1[ad k]? = some (vp_cell _ _)
  rw [e1]
  rw [vp_cell_i, vp_cell_i, arrV_store]
  congr 2
  funext q
  by_cases hq : q = y.toNatClampNeg
  · subst hq
    simp [updV, upd, vp_nar]
    try rfl
  · simp [updV, upd, hq]
theorem tgT_cls {cl : Nat} {r : vw_C} (h : 10 + cl = 13 ∨ 10 + cl = 14 ∨ 10 + cl = 17 ∨ 10 + cl = 18) (hc : vwCl[cl]? = some r) : tgT (10 + cl) = .object r.1 := by
  rcases h with h | h | h | h
  · obtain rfl : cl = 3 := by omega
    cases hc; rfl
  · obtain rfl : cl = 4 := by omega
    cases hc; rfl
  · obtain rfl : cl = 7 := by omega
    cases hc; rfl
  · obtain rfl : cl = 8 := by omega
    cases hc; rfl
theorem wz_sR (hx : p.tables.exec = Jvm.exec) (hb : c.code = cc) (hF : q_FX D dA base sa ro tbl s) {k n cl q : Nat} {g : Nat → Option Nat} {fs : List Value} {y : Int32} (hk : h.1 k = some (.inr (.inl (10 + cl, n, g)))) (hq : h.1 q = some (.inr (.inr (cl, fs)))) (hin : vp_in y n) (hd : decode cc pc = .ok (.aastore, 1)) (kk : q_WZ p l e R s m args below meth c Q D dA base ad nL h0 (ph_put h k (.inr (.inl (10 + cl, n, va_up g y.toNatClampNeg (some q))))) lv (pc + 1) st) : q_WZ p l e R s m args below meth c Q D dA base ad nL h0 h lv pc (.ref q :: .int y :: .ref k :: st) := by
  intro H locs ls a1 a2 a3 a4
  obtain ⟨i, hi, hw⟩ := a1.idx hk
  obtain ⟨iq, hiq, hwq⟩ := a1.idx hq
  have hP := a1.2.2.2.2.2.1
  have hD := a1.2.2.2.2.2.2
  have hok : 10 + cl = 13 ∨ 10 + cl = 14 ∨ 10 + cl = 17 ∨ 10 + cl = 18 := a1.2.2.2.2.1 k _ hk
  have htg := (tgT_obj hok).1
  have hK := hF.K htg
  have hlt : y.toNatClampNeg < n := Nat.not_le.mp fun w => hin (Or.inr w)
  have h9 : ¬ y < 0 := fun w => hin (Or.inl w)
  obtain ⟨r, hr', cellV, g1, g2, g3, -⟩ := hP iq _ hwq
  have hC := tgT_cls hok hr'
  have hcls := (hF.1 cl r hr').2
  have hRA := (hF.2.1 _ htg).2
  rw [hC] at hRA
  obtain ⟨kA, comp, k1, k2, k3, -⟩ := hRA
  have hcomp : comp = D.1 cl := Option.some.inj (k3.symm.trans hcls.1)
  subst hcomp
  obtain ⟨kC, hkC, -⟩ := id hcls.2
  refine W.aast hx hb (hP i _ hw) (fun q h => by cases h) (fun h => by cases h) k1 k2 rfl hkC ⟨h9, by show _ < (arrV _ _ _).slots.size; rw [arrV_size]; exact hlt⟩ g1 (fun q h => by rw [g3] at h; cases h) (by rw [g2]; exact hkC) (by rw [g2]; exact va_assign hcls) rfl rfl hd fun H1 e1 z1 oq => ?_
  refine kk H1 _ ls (a1.put (e := .inr (.inl (10 + cl, n, va_up g y.toNatClampNeg (some q)))) hk hi hok z1 (hP.set hD hw ?_ oq) (hD.set hw)) (a2.put z1 oq (hD.2 i _ hw)) a3 a4
  show H1[ad k]? = some (vp_cell _ _)
  rw [e1]
  rw [vp_cell_q, vp_cell_q, arrV_store]
  congr 2
  funext z
  by_cases hz : z = y.toNatClampNeg
  · subst hz
    simp [updV, va_up, va_rf]
  · simp [updV, va_up, hz]
theorem wz_stat (hx : p.tables.exec = Jvm.exec) (hb : c.code = cc) (hF : q_FX D dA base sa ro tbl s) (hown : s.vm.findClass own = some m.cls) (hsa : ∀ k, 30000 ≤ k → ad k = sa k) {i x : Nat} {z : String × String} (hz : statL[i]? = some z) (hl : (Cond.fieldLink own x "PoleLogs" z.1 z.2).before args s = true ∨ (Cond.fieldLinkNest own x "PoleLogs" z.1 z.2 "PoleLogs").before args s = true) (hd : decode cc pc = .ok (.getstatic x, 3)) (kk : q_WZ p l e R s m args below meth c Q D dA base ad nL h0 h lv (pc + 3) (.ref (30000 + i) :: st)) : q_WZ p l e R s m args below meth c Q D dA base ad nL h0 h lv pc st := by
  intro H locs ls a1 a2 a3 a4
  have kk : W p l e R s m args below meth c H locs (h.2.2.1.length - h0.2.2.1.length) (h.2.2.2 - h0.2.2.2) Q (F0 m (pc + 3) ls (.ref (ad (30000 + i)) :: st.map (q_tr ad))) := kk H locs ls a1 a2 a3 a4
  rw [hsa (30000 + i) (by omega)] at kk
  rcases hl with hl | hl
  · exact va_gets hx hb (hF.2.2.1 i z hz) a2 hown hl (fun _ w => w) hd kk
  · exact va_getsN hx hb (hF.2.2.1 i z hz) a2 hown hl (fun _ w => w) hd kk
theorem wz_new (hx : p.tables.exec = Jvm.exec) (hb : c.code = cc) (hF : q_FX D dA base sa ro tbl s) (hown : s.vm.findClass own = some m.cls) {ci x k : Nat} {C : String} {T : u_T} {N : Nat} (hc : vwCl[ci]? = some (C, T, N)) (hU : ∀ w ∈ u_ws C T N, w.before args s = true) (hty : ∀ k, k < N → parseFieldDescriptor (T k).2.2.1 = some (clT ci k)) (hlt : ci < 12)
    (hcl : (Cond.classLink own x C).before args s = true) (hinst : (Cond.instantiable C N).before args s = true) (hini : (Cond.initialized C).before args s = true) (hk : h.1 k = none) (hk3 : k < 30000) (ha : ad k = base + h.2.2.1.length)
    (hcells : h.2.2.1.length - h0.2.2.1.length + 1 ≤ R.cells) (hslots : h.2.2.2 - h0.2.2.2 + N ≤ R.slots) (hd : decode cc pc = .ok (.new x, 3)) (kk : q_WZ p l e R s m args below meth c Q D dA base ad nL h0 (ph_add h k ci N (.inr (.inr (ci, dfl ci)))) lv (pc + 3) (.ref k :: st)) : q_WZ p l e R s m args below meth c Q D dA base ad nL h0 h lv pc st := by
  intro H locs ls a1 a2 a3 a4
  have hKn := hF.1 ci _ hc
  have hak : ad k = H.size := by rw [ha, a1.1]
  refine W.newcK hx hb hown hcl hinst hini rfl hd hcells hslots hKn.2.1 rfl fun H1 kC hkC e1 z1 o1 => ?_
  have hN : N = clN ci := by simp [clN, List.getD_eq_getElem?_getD, hc]
  have hat : va_at D vwCl (ad k, q_trE dA ad (.inr (.inr (ci, dfl ci)))) H1 := by
    refine ⟨_, hc, ?_⟩
    show t_OB (ad k) _ _ _ _ _
    rw [hak]
    refine (u_born (clT ci) hU (fun _ w => w) hKn hkC e1 hty).to (fun y hy => ?_)
    have hy : y < clN ci := by rw [← hN]; exact hy
    simp [vp_V, dfl, List.getD_eq_getElem?_getD, List.getElem?_range hy, q_trd]
  have hle : h0.2.2.1.length ≤ h.2.2.1.length := a4.1.length_le
  have hle2 := a4.2
  have kk := kk H1 locs ls (a1.add (n := N) hk hk3 hlt z1 hak o1 hat) ⟨Nat.le_trans a2.1 (by omega), fun y g1 g2 => (o1 y (Nat.lt_of_lt_of_le g1 a2.1)).trans (a2.2.1 y g1 g2), a2.2.2⟩ a3 (a4.tr (PLe.add _ _ _ _ _))
  have e1 : (ph_add h k ci N (.inr (.inr (ci, dfl ci)))).2.2.1.length - h0.2.2.1.length = h.2.2.1.length - h0.2.2.1.length + 1 := by simp [ph_add]; omega
  have e2 : (ph_add h k ci N (.inr (.inr (ci, dfl ci)))).2.2.2 - h0.2.2.2 = h.2.2.2 - h0.2.2.2 + N := by simp [ph_add]; omega
  rw [e1, e2] at kk
  have kk : W p l e R s m args below meth c H1 locs (h.2.2.1.length - h0.2.2.1.length + 1) (h.2.2.2 - h0.2.2.2 + N) Q (F0 m (pc + 3) ls (.ref (ad k) :: st.map (q_tr ad))) := kk
  rw [hak] at kk
  exact kk
theorem wz_newa (hx : p.tables.exec = Jvm.exec) (hb : c.code = cc) (hF : q_FX D dA base sa ro tbl s) {t k : Nat} {n : Int32} {at_ : ArrayType} (hat0 : (t = 0 ∧ at_ = .int) ∨ (t = 1 ∧ at_ = .boolean)) (harr : (Cond.arrayClass (newarray.typeOf at_)).before args s = true) (hn : ¬ n < 0) (hn2 : n.toNatClampNeg ≤ 100000) (hk : h.1 k = none) (hk3 : k < 30000) (ha : ad k = base + h.2.2.1.length)
    (hcells : h.2.2.1.length - h0.2.2.1.length + 1 ≤ R.cells) (hslots : h.2.2.2 - h0.2.2.2 + n.toNatClampNeg ≤ R.slots) (hd : decode cc pc = .ok (.newarray at_, 2)) (kk : q_WZ p l e R s m args below meth c Q D dA base ad nL h0 (ph_add h k 20 n.toNatClampNeg (.inl (t, n.toNatClampNeg, fun _ => 0))) lv (pc + 2) (.ref k :: st)) : q_WZ p l e R s m args below meth c Q D dA base ad nL h0 h lv pc (.int n :: st) := by
  intro H locs ls a1 a2 a3 a4
  have hak : ad k = H.size := by rw [ha, a1.1]
  refine va_newaK hx hb harr rfl hd rfl hn rfl (by rcases hat0 with ⟨-, rfl⟩ | ⟨-, rfl⟩ <;> simp [newarray.typeOf, componentBytes] <;> omega) hcells hslots rfl fun H1 cA e1 z1 o1 hAr hNm => ?_
  have hat : va_at D vwCl (ad k, q_trE dA ad (.inl (t, n.toNatClampNeg, fun _ => 0))) H1 := by
    rw [hak]
    rcases hat0 with ⟨rfl, rfl⟩ | ⟨rfl, rfl⟩
    · have hc0 : cA = dA 0 := Option.some.inj (hNm.symm.trans (hF.2.1 0 (by decide)).2)
      subst hc0
      exact e1
    · have hc0 : cA = dA 1 := Option.some.inj (hNm.symm.trans (hF.2.1 1 (by decide)).2)
      subst hc0
      exact e1
  have hok : q_ok (.inl (t, n.toNatClampNeg, fun _ => 0)) := by rcases hat0 with ⟨rfl, rfl⟩ | ⟨rfl, rfl⟩; exact Or.inl rfl; exact Or.inr (Or.inl rfl)
  have hle : h0.2.2.1.length ≤ h.2.2.1.length := a4.1.length_le
  have hle2 := a4.2
  have kk := kk H1 locs ls (a1.add (n := n.toNatClampNeg) hk hk3 hok z1 hak o1 hat) ⟨Nat.le_trans a2.1 (by omega), fun y g1 g2 => (o1 y (Nat.lt_of_lt_of_le g1 a2.1)).trans (a2.2.1 y g1 g2), a2.2.2⟩ a3 (a4.tr (PLe.add _ _ _ _ _))
  have e2 : (ph_add h k 20 n.toNatClampNeg (.inl (t, n.toNatClampNeg, fun _ => 0))).2.2.1.length - h0.2.2.1.length = h.2.2.1.length - h0.2.2.1.length + 1 := by simp [ph_add]; omega
  have e3 : (ph_add h k 20 n.toNatClampNeg (.inl (t, n.toNatClampNeg, fun _ => 0))).2.2.2 - h0.2.2.2 = h.2.2.2 - h0.2.2.2 + n.toNatClampNeg := by simp [ph_add]; omega
  rw [e2, e3] at kk
  have kk : W p l e R s m args below meth c H1 locs (h.2.2.1.length - h0.2.2.1.length + 1) (h.2.2.2 - h0.2.2.2 + n.toNatClampNeg) Q (F0 m (pc + 2) ls (.ref (ad k) :: st.map (q_tr ad))) := kk
  rw [hak] at kk
  exact kk
theorem wz_newq (hx : p.tables.exec = Jvm.exec) (hb : c.code = cc) (hF : q_FX D dA base sa ro tbl s) (hown : s.vm.findClass own = some m.cls) {t k x : Nat} {n : Int32} {C : String} (hok : t = 13 ∨ t = 14 ∨ t = 17 ∨ t = 18) (hC : tgT t = .object C) (hcl : (Cond.classLink own x C).before args s = true) (hov : va_AO C s) (hn : ¬ n < 0) (hn2 : n.toNatClampNeg ≤ 100000) (hk : h.1 k = none) (hk3 : k < 30000) (ha : ad k = base + h.2.2.1.length)
    (hcells : h.2.2.1.length - h0.2.2.1.length + 1 ≤ R.cells) (hslots : h.2.2.2 - h0.2.2.2 + n.toNatClampNeg ≤ R.slots) (hd : decode cc pc = .ok (.anewarray x, 3)) (kk : q_WZ p l e R s m args below meth c Q D dA base ad nL h0 (ph_add h k 20 n.toNatClampNeg (.inr (.inl (t, n.toNatClampNeg, fun _ => none)))) lv (pc + 3) (.ref k :: st)) : q_WZ p l e R s m args below meth c Q D dA base ad nL h0 h lv pc (.int n :: st) := by
  intro H locs ls a1 a2 a3 a4
  have hak : ad k = H.size := by rw [ha, a1.1]
  have hRA := (hF.2.1 t (tgT_obj hok).1).2
  rw [hC] at hRA
  obtain ⟨kA', comp', f1', f2', f3', f4'⟩ := hRA
  refine W.anew hx hb hown hcl (va_AO.use hov) rfl hd rfl hn (by omega) hcells hslots fun cA kA comp f1 f2 f3 f4 => ?_
  have hcA : cA = dA t := Option.some.inj (f1.symm.trans f4')
  subst hcA
  generalize hH1 : H.push ({ cls := dA t, slots := Array.replicate n.toNatClampNeg .null, vm := .none } : Cell) = H1
  have z1 : H1.size = H.size + 1 := by rw [← hH1, Array.size_push]
  have e1 : H1[H.size]? = some (arrV (dA t) n.toNatClampNeg (fun _ => .null)) := by rw [← hH1, Array.getElem?_push_size, ← arrV_new]
  have o1 : ∀ q : Nat, q < H.size → H1[q]? = H[q]? := fun q hq => by rw [← hH1, Array.getElem?_push, if_neg (Nat.ne_of_lt hq)]
  have hat : va_at D vwCl (ad k, q_trE dA ad (.inr (.inl (t, n.toNatClampNeg, fun _ => none)))) H1 := by
    rw [hak]
    exact e1
  have hle : h0.2.2.1.length ≤ h.2.2.1.length := a4.1.length_le
  have hle2 := a4.2
  have kk := kk H1 locs ls (a1.add (n := n.toNatClampNeg) hk hk3 hok z1 hak o1 hat) ⟨Nat.le_trans a2.1 (by omega), fun y g1 g2 => (o1 y (Nat.lt_of_lt_of_le g1 a2.1)).trans (a2.2.1 y g1 g2), a2.2.2⟩ a3 (a4.tr (PLe.add _ _ _ _ _))
  have e2 : (ph_add h k 20 n.toNatClampNeg (.inr (.inl (t, n.toNatClampNeg, fun _ => none)))).2.2.1.length - h0.2.2.1.length = h.2.2.1.length - h0.2.2.1.length + 1 := by simp [ph_add]; omega
  have e3 : (ph_add h k 20 n.toNatClampNeg (.inr (.inl (t, n.toNatClampNeg, fun _ => none)))).2.2.2 - h0.2.2.2 = h.2.2.2 - h0.2.2.2 + n.toNatClampNeg := by simp [ph_add]; omega
  rw [e2, e3] at kk
  have kk : W p l e R s m args below meth c H1 locs (h.2.2.1.length - h0.2.2.1.length + 1) (h.2.2.2 - h0.2.2.2 + n.toNatClampNeg) Q (F0 m (pc + 3) ls (.ref (ad k) :: st.map (q_tr ad))) := kk
  rw [hak] at kk
  exact kk
theorem wz_objInit (hx : p.tables.exec = Jvm.exec) (hb : c.code = cc) (hml : c.maxLocals = nL) (hown : s.vm.findClass own = some m.cls) {x k : Nat} (hl : (Cond.methodLink own x Lib.objectInit).before args s = true) (hin : (Cond.instanceMethod Lib.objectInit).before args s = true) (hco : (Cond.code Lib.objectInit ⟨#[0xb1]⟩ 1 none).before args s = true) (hst : st.length ≤ 4) (hR : 1 ≤ R.frames ∧ 60 ≤ R.locals) (hd : decode cc pc = .ok (.invokespecial x, 3)) (kk : q_WZ p l e R s m args below meth c Q D dA base ad nL h0 h lv (pc + 3) st) : q_WZ p l e R s m args below meth c Q D dA base ad nL h0 h lv pc (.ref k :: st) := fun H locs ls a1 a2 a3 a4 =>
  W.objInit hx hb hown hl hin hco rfl (by rw [hml]; exact a3.1) rfl hd hR.1 (by have := q_cats ad st 4 hst; show 2 * 0 + _ + 12 ≤ _; omega) (kk H locs ls a1 a2 a3 a4)
theorem wz_castA (hx : p.tables.exec = Jvm.exec) (hb : c.code = cc) (hF : q_FX D dA base sa ro tbl s) (hown : s.vm.findClass own = some m.cls) {x k n : Nat} {f : Nat → Int32} (hl : (Cond.classLink own x "[I").before args s = true) (hk : h.1 k = some (.inl (0, n, f))) (hd : decode cc pc = .ok (.checkcast x, 3)) (kk : q_WZ p l e R s m args below meth c Q D dA base ad nL h0 h lv (pc + 3) (.ref k :: st)) : q_WZ p l e R s m args below meth c Q D dA base ad nL h0 h lv pc (.ref k :: st) := fun H locs ls a1 a2 a3 a4 =>
  va_castA hx hb hown hl (a1.one hk) 0 rfl (hF.2.1 0 (by decide)).2 hd (kk H locs ls a1 a2 a3 a4)
end WZ2
