/-! THE WORLD: what heap of the machine the pure cells stand for -/
def q_tr (ad : Nat → Nat) : Value → Value
  | .ref k => .ref (ad k)
  | v => v
theorem q_tr_cat (ad : Nat → Nat) (v : Value) : (q_tr ad v).category = v.category := by cases v <;> rfl
def q_trE (dA : Nat → ClassId) (ad : Nat → Nat) : PE → va_E
  | .inl (t, n, f) => .inl (dA t, n, .inl f)
  | .inr (.inl (t, n, g)) => .inl (dA t, n, .inr (.inr (.inr (.inr (fun i => (g i).map ad)))))
  | .inr (.inr (c, fs)) => .inr (c, fs.map (q_tr ad))
def q_WL (dA : Nat → ClassId) (ad : Nat → Nat) (h : PH) : va_W := h.2.2.1.map (fun k => (ad k, q_trE dA ad ((h.1 k).getD (.inr (.inr (0, []))))))
def tgT (t : Nat) : FieldType := match t with
  | 0 => .int
  | 1 => .boolean
  | 2 => .char
  | t => .object (vwCl.getD (t - 10) ("", TX0, 0)).1
def tgs : List Nat := [0, 1, 2, 13, 14, 17, 18]
def q_ok : PE → Prop
  | .inl (t, _, _) => t = 0 ∨ t = 1 ∨ t = 2
  | .inr (.inl (t, _, _)) => t = 13 ∨ t = 14 ∨ t = 17 ∨ t = 18
  | .inr (.inr (c, _)) => c < 12
abbrev q_A (base : Nat) : Nat → Prop := fun q => base ≤ q
/-- the heap holds the pure cells, each at its address -/
def q_Rep (D : va_G) (dA : Nat → ClassId) (base : Nat) (ad : Nat → Nat) (h : PH) (H : Heap) : Prop :=
  H.size = base + h.2.2.1.length ∧ h.2.2.1.Nodup ∧ (∀ k, (h.1 k).isSome = true ↔ k ∈ h.2.2.1) ∧ (∀ k ∈ h.2.2.1, k < 30000) ∧ (∀ k e, h.1 k = some e → q_ok e) ∧
  va_P D vwCl (q_WL dA ad h) H ∧ va_D (q_A base) (q_WL dA ad h)
theorem q_WL_at {dA : Nat → ClassId} {ad : Nat → Nat} {h : PH} {k i : Nat} {e : PE} (hi : h.2.2.1[i]? = some k) (he : h.1 k = some e) : (q_WL dA ad h)[i]? = some (ad k, q_trE dA ad e) := by
  simp [q_WL, hi, he]
theorem q_Rep.idx {D : va_G} {dA : Nat → ClassId} {base : Nat} {ad : Nat → Nat} {h : PH} {H : Heap} (hR : q_Rep D dA base ad h H) {k : Nat} {e : PE} (he : h.1 k = some e) : ∃ i : Nat, h.2.2.1[i]? = some k ∧ (q_WL dA ad h)[i]? = some (ad k, q_trE dA ad e) := by
  have hm : k ∈ h.2.2.1 := (hR.2.2.1 k).mp (by rw [he]; rfl)
  obtain ⟨i, hi⟩ := List.getElem?_of_mem hm
  exact ⟨i, hi, q_WL_at hi he⟩
theorem q_WL_put {dA : Nat → ClassId} {ad : Nat → Nat} {h : PH} {k i : Nat} {e : PE} (hn : h.2.2.1.Nodup) (hi : h.2.2.1[i]? = some k) : (q_WL dA ad h).set i (ad k, q_trE dA ad e) = q_WL dA ad (ph_put h k e) := by
  have hil : i < h.2.2.1.length := (List.getElem?_eq_some_iff.mp hi).1
  apply List.ext_getElem?
  intro j
  by_cases hj : j = i
  · subst hj
    rw [List.getElem?_set_self (by simpa [q_WL] using hil)]
    exact (q_WL_at (h := ph_put h k e) hi (by simp [ph_put, va_up])).symm
  · rw [List.getElem?_set_ne (Ne.symm hj)]
    show (h.2.2.1.map _)[j]? = ((ph_put h k e).2.2.1.map _)[j]?
    rw [List.getElem?_map, List.getElem?_map]
    show Option.map _ h.2.2.1[j]? = Option.map _ h.2.2.1[j]?
    cases hq : h.2.2.1[j]? with
    | none => rfl
    | some q =>
      have hne : q ≠ k := by
        intro e2
        subst e2
        obtain ⟨hjl, e1⟩ := List.getElem?_eq_some_iff.mp hq
        obtain ⟨hil', e3⟩ := List.getElem?_eq_some_iff.mp hi
        exact hj ((List.getElem_inj hn).mp (e1.trans e3.symm))
      simp [ph_put, va_up, hne]
/-- a cell is written -/
theorem q_Rep.put {D : va_G} {dA : Nat → ClassId} {base : Nat} {ad : Nat → Nat} {h : PH} {H H1 : Heap} {k i : Nat} {e0 e : PE} (hR : q_Rep D dA base ad h H) (he : h.1 k = some e0) (hi : h.2.2.1[i]? = some k) (ho : q_ok e) (hz : H1.size = H.size)
    (hP : va_P D vwCl ((q_WL dA ad h).set i (ad k, q_trE dA ad e)) H1) (hD : va_D (q_A base) ((q_WL dA ad h).set i (ad k, q_trE dA ad e))) : q_Rep D dA base ad (ph_put h k e) H1 := by
  obtain ⟨h1, h2, h3, h4, h5, -, -⟩ := hR
  rw [q_WL_put h2 hi] at hP hD
  refine ⟨hz.trans h1, h2, fun q => ?_, h4, fun q x hx => ?_, hP, hD⟩
  · by_cases hq : q = k
    · subst hq
      simp only [ph_put, va_up, if_pos]
      exact ⟨fun _ => (h3 q).mp (by rw [he]; rfl), fun _ => rfl⟩
    · have := h3 q
      simpa [ph_put, va_up, hq] using this
  · by_cases hq : q = k
    · subst hq
      simp [ph_put, va_up] at hx
      subst hx
      exact ho
    · simp [ph_put, va_up, hq] at hx
      exact h5 q x hx
/-- a cell is made -/
theorem q_Rep.add {D : va_G} {dA : Nat → ClassId} {base : Nat} {ad : Nat → Nat} {h : PH} {H H1 : Heap} {k kind n : Nat} {e : PE} (hR : q_Rep D dA base ad h H) (hk : h.1 k = none) (hlt : k < 30000) (ho : q_ok e) (hz : H1.size = H.size + 1) (ha : ad k = H.size)
    (hold : ∀ q, q < H.size → H1[q]? = H[q]?) (hat : va_at D vwCl (ad k, q_trE dA ad e) H1) : q_Rep D dA base ad (ph_add h k kind n e) H1 := by
  obtain ⟨h1, h2, h3, h4, h5, hP, hD⟩ := hR
  have hnm : k ∉ h.2.2.1 := fun hm => by
    have := (h3 k).mpr hm
    rw [hk] at this
    cases this
  have eWL : q_WL dA ad (ph_add h k kind n e) = q_WL dA ad h ++ [(ad k, q_trE dA ad e)] := by
    show (h.2.2.1 ++ [k]).map _ = _
    rw [List.map_append]
    congr 1
    · apply List.map_congr_left
      intro q hq
      have hne : q ≠ k := fun e2 => hnm (e2 ▸ hq)
      simp [ph_add, va_up, hne]
    · simp [ph_add, va_up]
  refine ⟨?_, ?_, fun q => ?_, fun q hq => ?_, fun q x hx => ?_, ?_, ?_⟩
  · rw [hz, h1]
    simp [ph_add]
    omega
  · show (h.2.2.1 ++ [k]).Nodup
    rw [List.nodup_append]
    refine ⟨h2, by simp, fun a ha2 b hb => ?_⟩
    rw [List.mem_singleton.mp hb]
    exact fun e2 => hnm (e2 ▸ ha2)
  · show (va_up h.1 k (some e) q).isSome = true ↔ q ∈ h.2.2.1 ++ [k]
    by_cases hq : q = k
    · subst hq
      simp [va_up]
    · have := h3 q
      simpa [va_up, hq] using this
  · rcases List.mem_append.mp (show q ∈ h.2.2.1 ++ [k] from hq) with hq | hq
    · exact h4 q hq
    · rw [List.mem_singleton.mp hq]; exact hlt
  · by_cases hq : q = k
    · subst hq
      simp [ph_add, va_up] at hx
      subst hx
      exact ho
    · simp [ph_add, va_up, hq] at hx
      exact h5 q x hx
  · rw [eWL]
    refine (hP.kept (fun j x hx => hold x.1 ((hP j x hx).lt))).app (fun j x hx => ?_)
    have hj : j < 1 := (List.getElem?_eq_some_iff.mp hx).1
    rw [show j = 0 by omega] at hx
    cases hx
    exact hat
  · rw [eWL]
    exact hD.push hP ha (by rw [ha, h1]; exact Nat.le_add_right _ _)
/-- one cell of it, as a world of its own -/
theorem q_Rep.one {D : va_G} {dA : Nat → ClassId} {base : Nat} {ad : Nat → Nat} {h : PH} {H : Heap} (hR : q_Rep D dA base ad h H) {k : Nat} {e : PE} (he : h.1 k = some e) : va_P D vwCl [(ad k, q_trE dA ad e)] H := by
  obtain ⟨i, -, hw⟩ := hR.idx he
  intro j x hx
  have hj : j < 1 := (List.getElem?_eq_some_iff.mp hx).1
  rw [show j = 0 by omega] at hx
  cases hx
  exact hR.2.2.2.2.2.1 i _ hw
/-! the locals -/
def q_LV (ad : Nat → Nat) (ls : Array Slot) (nL : Nat) (lv : PL) : Prop := ls.size = nL ∧ lv_wf ls ∧ lv.length = nL ∧ ∀ (i : Nat) (v : Value), lv[i]? = some (some v) → v.category = 1 ∧ ls[i]? = some (Slot.val (q_tr ad v))
def q_ll (ad : Nat → Nat) (lv : PL) : List (Nat × Value) := (List.range lv.length).filterMap (fun i => match lv[i]? with | some (some v) => some (i, q_tr ad v) | _ => none)
theorem q_ll_in {ad : Nat → Nat} {lv : PL} {q : Nat × Value} : q ∈ q_ll ad lv ↔ ∃ v : Value, lv[q.1]? = some (some v) ∧ q.2 = q_tr ad v := by
  unfold q_ll
  rw [List.mem_filterMap]
  constructor
  · rintro ⟨i, hi, hq⟩
    split at hq
    · rename_i v hv
      cases hq
      exact ⟨v, hv, rfl⟩
    · cases hq
  · rintro ⟨v, hv, e⟩
    refine ⟨q.1, List.mem_range.mpr (List.getElem?_eq_some_iff.mp hv).1, ?_⟩
    rw [hv]
    simp [← e]
theorem q_LV.has {ad : Nat → Nat} {ls : Array Slot} {nL : Nat} {lv : PL} (h : q_LV ad ls nL lv) : lv_has ls nL (q_ll ad lv) := by
  refine ⟨h.1, h.2.1, fun q hq => ?_⟩
  obtain ⟨v, hv, e⟩ := q_ll_in.mp hq
  rw [e]
  exact (h.2.2.2 _ _ hv).2
theorem q_LV.stored {ad : Nat → Nat} {ls ls' : Array Slot} {nL : Nat} {lv : PL} {i : Nat} {v : Value} (h : q_LV ad ls nL lv) (hi : i < nL) (hc : v.category = 1)
    (h' : lv_has ls' nL ((i, q_tr ad v) :: (q_ll ad lv).filter (fun q => !(q.1 == i) && !(q.1 + 1 == i && q.2.category == 2)))) : q_LV ad ls' nL (lv.set i (some v)) := by
  refine ⟨h'.1, h'.2.1, by rw [List.length_set]; exact h.2.2.1, fun j w hj => ?_⟩
  by_cases hji : j = i
  · subst hji
    rw [List.getElem?_set_self (by rw [h.2.2.1]; exact hi)] at hj
    cases hj
    exact ⟨hc, h'.2.2 (j, q_tr ad v) List.mem_cons_self⟩
  · rw [List.getElem?_set_ne (Ne.symm hji)] at hj
    have hw := h.2.2.2 j w hj
    refine ⟨hw.1, h'.2.2 (j, q_tr ad w) (List.mem_cons_of_mem _ (List.mem_filter.mpr ⟨q_ll_in.mpr ⟨w, hj, rfl⟩, ?_⟩))⟩
    have : (q_tr ad w).category = 1 := by rw [q_tr_cat]; exact hw.1
    simp [hji, this]
theorem q_LV_entry {ad : Nat → Nat} {nL : Nat} {as : List Value} (hc : ∀ v ∈ as, v.category = 1) (hl : as.length ≤ nL) :
    q_LV ad ((lg_sl (as.map (q_tr ad)) ++ List.replicate (nL - (lg_sl (as.map (q_tr ad))).length) Slot.unset).toArray) nL (entry nL as) := by
  have hcat : ∀ v ∈ as.map (q_tr ad), v.category = 1 := by
    intro v hv
    obtain ⟨w, hw, rfl⟩ := List.mem_map.mp hv
    rw [q_tr_cat]
    exact hc w hw
  have hsl : ∀ (l : List Value), (∀ v ∈ l, v.category = 1) → lg_sl l = l.map Slot.val := by
    intro l
    induction l with
    | nil => intro _; rfl
    | cons a l ih =>
      intro hl
      have ha : ¬ a.category = 2 := by have := hl a List.mem_cons_self; omega
      have ih' := ih (fun v hv => hl v (List.mem_cons_of_mem _ hv))
      unfold lg_sl at ih' ⊢
      rw [List.flatMap_cons, ih', if_neg ha]
      rfl
  rw [hsl _ hcat]
  have hlen : ((as.map (q_tr ad)).map Slot.val).length = as.length := by simp
  have hE := lv_entry (as.map (q_tr ad)) (n := nL) (by rw [hsl _ hcat, hlen]; exact hl)
  rw [hsl _ hcat] at hE
  refine ⟨hE.1, hE.2.1, by simp [entry]; omega, fun i v hi => ?_⟩
  unfold entry at hi
  have hia : i < as.length := by
    rcases Nat.lt_or_ge i as.length with q | q
    · exact q
    · rw [List.getElem?_append_right (by simpa using q)] at hi
      rw [List.getElem?_replicate] at hi
      split at hi <;> simp at hi
  rw [List.getElem?_append_left (by simpa using hia), List.getElem?_map, List.getElem?_eq_getElem hia] at hi
  cases hi
  refine ⟨hc _ (List.getElem_mem _), ?_⟩
  rw [List.getElem?_toArray, List.getElem?_append_left (by simpa using hia)]
  simp [hia]
/-! what stays as it is during a method: the tables, the static arrays -/
def statL : List (String × String) := [("EAST", "[I"), ("ABOVE", "[I"), ("BODIES", "[I"), ("LETTERS", "[C")]
def xok : Cond → Bool
  | .fieldLinkNest .. => true
  | .methodLinkNest .. => true
  | .castable .. => true
  | .arrayOver (.object _) => true
  | _ => false
theorem xok_moved {w : Cond} (hx : xok w = true) {s U : State} (hW : s.WarmedH U.vm) (h : va_Nw w s) : va_Nw w U := by
  unfold xok at hx
  split at hx
  · exact va_Nw.warmF hW h
  · exact va_Nw.warmM hW h
  · exact va_Nw.warmC hW h
  · exact va_AO.moved hW.alike h
  · cases hx
theorem xok_same {w : Cond} (hx : xok w = true) {s U : State} (hW : s.vm = U.vm) (h : va_Nw w s) : va_Nw w U := by
  unfold xok at hx
  split at hx
  · exact va_Nw.same rfl hW h
  · exact va_Nw.same rfl hW h
  · exact va_Nw.same rfl hW h
  · exact va_AO.moved (by rw [hW]; exact Vm.Alike.refl _) h
  · cases hx
def q_FX (D : va_G) (dA : Nat → ClassId) (base : Nat) (sa : Nat → Nat) (ro : RO) (tbl : List Cond) (s : State) : Prop :=
  (∀ (c : Nat) (q : vw_C), vwCl[c]? = some q → u_Kn s q.1 q.2.1 q.2.2 (D.1 c) (D.2 c)) ∧ (∀ t ∈ tgs, ArrOfT s (dA t) (tgT t) ∧ va_RA s (dA t) (tgT t)) ∧
  (∀ (i : Nat) (z : String × String), statL[i]? = some z → va_Z "PoleLogs" z.1 z.2 (.ref (sa (30000 + i))) (q_A base) s s.heap) ∧
  (∀ (k t n : Nat) (f : Nat → Int32), ro k = some (t, n, f) → (t = 0 ∨ t = 2) ∧ va_T (tgT t) (sa k) n (fun j => .int (f j)) (q_A base) s s.heap) ∧
  (∀ w ∈ tbl, xok w = true → va_Nw w s)
theorem q_FX.K {D : va_G} {dA : Nat → ClassId} {base : Nat} {sa : Nat → Nat} {ro : RO} {tbl : List Cond} {s : State} (h : q_FX D dA base sa ro tbl s) {t : Nat} (ht : t ∈ tgs) : va_K D vwCl [(dA t, tgT t)] s := by
  refine ⟨h.1, fun k q hk => ?_⟩
  have hj : k < 1 := (List.getElem?_eq_some_iff.mp hk).1
  rw [show k = 0 by omega] at hk
  cases hk
  exact h.2.1 t ht
theorem q_FX.same {D : va_G} {dA : Nat → ClassId} {base : Nat} {sa : Nat → Nat} {ro : RO} {tbl : List Cond} {s U : State} (h : q_FX D dA base sa ro tbl s) (hv : s.vm = U.vm) (hh : s.heap = U.heap) : q_FX D dA base sa ro tbl U := by
  have hA : s.vm.Alike U.vm := by rw [hv]; exact Vm.Alike.refl _
  exact ⟨fun c q hq => u_Kn_moved hA (h.1 c q hq), fun t ht => ⟨arrOfT_moved hA (h.2.1 t ht).1, (h.2.1 t ht).2.moved hA⟩, fun i z hz => by rw [← hh]; exact (h.2.2.1 i z hz).moved hA,
    fun k t n f hk => ⟨(h.2.2.2.1 k t n f hk).1, by rw [← hh]; exact (h.2.2.2.1 k t n f hk).2.moved hA⟩, fun w hw hx => xok_same hx hv (h.2.2.2.2 w hw hx)⟩
theorem q_FX.moved {D : va_G} {dA : Nat → ClassId} {base : Nat} {sa : Nat → Nat} {ro : RO} {tbl : List Cond} {s U : State} {H : Heap} {locs : List Loc} (h : q_FX D dA base sa ro tbl s) (hW : s.WarmedH U.vm) (hS : va_S (q_A base) s.heap H locs) (hh : U.heap = H) : q_FX D dA base sa ro tbl U := by
  have hA : s.vm.Alike U.vm := hW.alike
  have hq : ∀ a : Nat, a < s.heap.size → ¬ q_A base a → U.heap[a]? = s.heap[a]? := fun a h1 h2 => by rw [hh]; exact hS.2.1 a h1 h2
  exact ⟨fun c q hq => u_Kn_moved hA (h.1 c q hq), fun t ht => ⟨arrOfT_moved hA (h.2.1 t ht).1, (h.2.1 t ht).2.moved hA⟩, fun i z hz => ((h.2.2.1 i z hz).moved hA).kept hq,
    fun k t n f hk => ⟨(h.2.2.2.1 k t n f hk).1, ((h.2.2.2.1 k t n f hk).2.moved hA).kept hq⟩, fun w hw hx => xok_moved hx hW (h.2.2.2.2 w hw hx)⟩
