/-! how the small machine's cells lie in the heap -/
abbrev mj_E : Type := Nat × Nat × Nat × (Nat → Int32) × va_G × (FieldType → ClassId)
def mj_e0 (E : mj_E) : Nat := E.1
def mj_eb (E : mj_E) : Nat := E.2.1
def mj_el (E : mj_E) : Nat := E.2.2.1
def mj_ei (E : mj_E) : Nat → Int32 := E.2.2.2.1
def mj_eD (E : mj_E) : va_G := E.2.2.2.2.1
def mj_eA (E : mj_E) : FieldType → ClassId := E.2.2.2.2.2
def mj_ra (E : mj_E) : Nat → Nat
  | 0 => mj_eb E
  | i + 1 => mj_e0 E + i
def mj_tr (E : mj_E) : Value → Value
  | .ref a => .ref (mj_ra E a)
  | v => v
def mj_ta (E : mj_E) (a : vp_A) : vp_A := match a.2 with
  | .inr (.inr (.inr (.inr f))) => (a.1, .inr (.inr (.inr (.inr (fun j => (f j).map (mj_ra E))))))
  | _ => a
theorem mj_tr_rf (E : mj_E) (r : Option Nat) : va_rf (r.map (mj_ra E)) = mj_tr E (va_rf r) := by cases r <;> rfl
theorem mj_tr_cat (E : mj_E) (v : Value) : (mj_tr E v).category = v.category := by cases v <;> rfl
def mj_rc (E : mj_E) (i : Nat) (x : mj_X) (H : Heap) : Prop := match x with
  | .inl (ty, a) => ty = .byte ∨ H[mj_e0 E + i]? = some (vp_cell (mj_eA E ty) (mj_ta E a))
  | .inr (ci, fs) => ∃ r, mj_cs[ci]? = some r ∧ fs.length = r.2.2 ∧ t_OB (mj_e0 E + i) ((mj_eD E).1 ci) r.2.2 ((mj_eD E).2 ci) H (vp_V (fs.map (mj_tr E)))
theorem mj_rc.kept {E : mj_E} {i : Nat} {x : mj_X} {H H1 : Heap} (h : mj_rc E i x H) (hq : ∀ c, H[mj_e0 E + i]? = some c → H1[mj_e0 E + i]? = H[mj_e0 E + i]?) : mj_rc E i x H1 := by
  match x, h with
  | .inl (ty, a), h => exact h.imp id (fun h => (hq _ h).trans h)
  | .inr (ci, fs), ⟨r, h1, h2, h3⟩ => exact ⟨r, h1, h2, h3.kept (hq _ h3.choose_spec.1)⟩
def mj_tys : List FieldType := [.int, .boolean, .long, .object "PassCourt$Routine"]
def mj_Wd (E : mj_E) (s : State) : Prop := (∀ (c : Nat) (q : vw_C), mj_cs[c]? = some q → u_Kn s q.1 q.2.1 q.2.2 ((mj_eD E).1 c) ((mj_eD E).2 c)) ∧ (∀ ty ∈ mj_tys, ArrOfT s (mj_eA E ty) ty ∧ va_RA s (mj_eA E ty) ty) ∧ va_AO "PassCourt$Routine" s
theorem mj_Wd.moved {E : mj_E} {u U : State} (hvm : u.vm.Alike U.vm) (h : mj_Wd E u) : mj_Wd E U := ⟨fun c q hq => u_Kn_moved hvm (h.1 c q hq), fun ty ht => ⟨arrOfT_moved hvm (h.2.1 ty ht).1, (h.2.1 ty ht).2.moved hvm⟩, h.2.2.moved hvm⟩
def mj_Rp (E : mj_E) (s : State) (G : mj_H) (H : Heap) : Prop := mj_Wd E s ∧ H.size = mj_e0 E + G.1 ∧ (∀ i, mj_rc E i (G.2.2 (i + 1)) H) ∧ G.2.2 0 = .inl (.int, mj_el E, .inl (mj_ei E)) ∧ va_X (mj_eb E) (mj_el E) (mj_ei E) s H ∧ mj_eb E < mj_e0 E
theorem mj_Rp.moved {E : mj_E} {u U : State} {G : mj_H} {H : Heap} (hvm : u.vm.Alike U.vm) (h : mj_Rp E u G H) : mj_Rp E U G H := ⟨h.1.moved hvm, h.2.1, h.2.2.1, h.2.2.2.1, h.2.2.2.2.1.moved hvm, h.2.2.2.2.2⟩
theorem mj_Rp.set {E : mj_E} {s : State} {G : mj_H} {H H1 : Heap} {a : Nat} {x : mj_X} (h : mj_Rp E s G H) (hx : mj_rc E a x H1) (z : H1.size = H.size) (oq : ∀ q : Nat, q ≠ mj_e0 E + a → H1[q]? = H[q]?) : mj_Rp E s (mj_up G (a + 1) x) H1 := by
  obtain ⟨h1, h2, h3, h4, h5, h6⟩ := h
  refine ⟨h1, z.trans h2, fun i => ?_, ?_, h5.kept (oq _ (by omega)), h6⟩
  · by_cases hi : i = a
    · subst hi
      simpa [mj_up, va_up] using hx
    · have e : (mj_up G (a + 1) x).2.2 (i + 1) = G.2.2 (i + 1) := by simp [mj_up, va_up, hi]
      rw [e]
      exact (h3 i).kept (fun c hc => oq _ (by omega))
  · simpa [mj_up, va_up] using h4
theorem mj_Rp.push {E : mj_E} {s : State} {G : mj_H} {H H1 : Heap} {k : Nat} {x : mj_X} (h : mj_Rp E s G H) (hx : mj_rc E G.1 x H1) (z : H1.size = H.size + 1) (oq : ∀ q : Nat, q < H.size → H1[q]? = H[q]?) : mj_Rp E s (G.1 + 1, G.2.1 + k, va_up G.2.2 (G.1 + 1) x) H1 := by
  obtain ⟨h1, h2, h3, h4, h5, h6⟩ := h
  refine ⟨h1, by rw [z, h2]; rfl, fun i => ?_, ?_, h5.kept (oq _ (by omega)), h6⟩
  · by_cases hi : i = G.1
    · subst hi
      simpa [va_up] using hx
    · have e : va_up G.2.2 (G.1 + 1) x (i + 1) = G.2.2 (i + 1) := by simp [va_up, hi]
      show mj_rc E i (va_up G.2.2 (G.1 + 1) x (i + 1)) H1
      rw [e]
      exact (h3 i).kept (fun c hc => oq _ (Array.getElem?_eq_some_iff.mp hc).1)
  · simpa [va_up] using h4
/-- the locals -/
def mj_lh (E : mj_E) (n : Nat) (ls : Array Slot) (L : List Value) : Prop := ls.size = n ∧ lv_wf ls ∧ L.length = n ∧ ∀ (i : Nat) (v : Value), L[i]? = some v → v ≠ mj_j → ls[i]? = some (.val (mj_tr E v))
def mj_as (E : mj_E) (L : List Value) : List (Nat × Value) := (List.range L.length).filterMap fun i => (L[i]?).bind fun v => if v = mj_j then none else some (i, mj_tr E v)
theorem mj_as_mem {E : mj_E} {L : List Value} {x : Nat × Value} : x ∈ mj_as E L ↔ ∃ v, L[x.1]? = some v ∧ v ≠ mj_j ∧ x.2 = mj_tr E v := by
  unfold mj_as
  rw [List.mem_filterMap]
  constructor
  · rintro ⟨i, hi, h⟩
    cases hv : L[i]? with
    | none => rw [hv] at h; cases h
    | some v =>
      rw [hv] at h
      simp only [Option.bind_some] at h
      by_cases hj : v = mj_j
      · rw [if_pos hj] at h; cases h
      · rw [if_neg hj] at h
        cases h
        exact ⟨v, hv, hj, rfl⟩
  · rintro ⟨v, h1, h2, h3⟩
    refine ⟨x.1, List.mem_range.mpr (List.getElem?_eq_some_iff.mp h1).1, ?_⟩
    rw [h1]
    simp only [Option.bind_some]
    rw [if_neg h2, ← h3]
theorem mj_lh.has {E : mj_E} {n : Nat} {ls : Array Slot} {L : List Value} (h : mj_lh E n ls L) : lv_has ls n (mj_as E L) := by
  refine ⟨h.1, h.2.1, fun q hq => ?_⟩
  obtain ⟨v, h1, h2, h3⟩ := mj_as_mem.mp hq
  rw [h3]
  exact h.2.2.2 _ _ h1 h2
theorem mj_cl_s (L : List Value) (j : Nat) {w : Value} (h : L[j]? = some w) : mj_cl L (j + 1) = if w.category = 2 then L.set j mj_j else L := by
  simp only [mj_cl, h]
theorem mj_cl_n (L : List Value) (j : Nat) (h : L[j]? = none) : mj_cl L (j + 1) = L := by
  simp only [mj_cl, h]
theorem mj_cl_len (L : List Value) (i : Nat) : (mj_cl L i).length = L.length := by
  cases i with
  | zero => rfl
  | succ j =>
    cases hj : L[j]? with
    | none => rw [mj_cl_n L j hj]
    | some w => rw [mj_cl_s L j hj]; split <;> simp
theorem mj_cl_get {L : List Value} {i k : Nat} {v : Value} (h : (mj_cl L i)[k]? = some v) (hv : v ≠ mj_j) : L[k]? = some v ∧ (k + 1 = i → v.category ≠ 2) := by
  cases i with
  | zero => exact ⟨h, fun q => by omega⟩
  | succ j =>
    cases hj : L[j]? with
    | none =>
      rw [mj_cl_n L j hj] at h
      refine ⟨h, fun q => ?_⟩
      have : k = j := by omega
      subst this
      rw [hj] at h; cases h
    | some w =>
      rw [mj_cl_s L j hj] at h
      by_cases hc : w.category = 2
      · rw [if_pos hc] at h
        by_cases hk : k = j
        · subst hk
          rw [List.getElem?_set_self (List.getElem?_eq_some_iff.mp hj).1] at h
          cases h
          exact absurd rfl hv
        · rw [List.getElem?_set_ne (Ne.symm hk)] at h
          exact ⟨h, fun q => by omega⟩
      · rw [if_neg hc] at h
        refine ⟨h, fun q => ?_⟩
        have : k = j := by omega
        subst this
        rw [hj] at h
        cases h
        exact hc
theorem mj_lh.s1 {E : mj_E} {n : Nat} {ls ls' : Array Slot} {L : List Value} {i : Nat} {v : Value} (h : mj_lh E n ls L) (hi : i < n) (h' : lv_has ls' n ((i, mj_tr E v) :: (mj_as E L).filter (fun q => !(q.1 == i) && !(q.1 + 1 == i && q.2.category == 2)))) : mj_lh E n ls' ((mj_cl L i).set i v) := by
  refine ⟨h'.1, h'.2.1, by rw [List.length_set, mj_cl_len]; exact h.2.2.1, fun k w hk hw => ?_⟩
  by_cases e : k = i
  · subst e
    rw [List.getElem?_set_self (by rw [mj_cl_len, h.2.2.1]; exact hi)] at hk
    cases hk
    exact h'.2.2 (k, mj_tr E v) List.mem_cons_self
  · rw [List.getElem?_set_ne (Ne.symm e)] at hk
    obtain ⟨h1, h2⟩ := mj_cl_get hk hw
    refine h'.2.2 (k, mj_tr E w) (List.mem_cons_of_mem _ (List.mem_filter.mpr ⟨mj_as_mem.mpr ⟨w, h1, hw, rfl⟩, ?_⟩))
    have := mj_tr_cat E w
    by_cases e2 : k + 1 = i
    · simp [e, this, h2 e2]
    · simp [e, e2]
theorem mj_lh.s2 {E : mj_E} {n : Nat} {ls ls' : Array Slot} {L : List Value} {i : Nat} {v : Value} (h : mj_lh E n ls L) (hi : i + 1 < n) (h' : lv_has ls' n ((i, mj_tr E v) :: (mj_as E L).filter (fun q => !(q.1 == i) && (!(q.1 == i + 1) && !(q.1 + 1 == i && q.2.category == 2))))) : mj_lh E n ls' (((mj_cl L i).set i v).set (i + 1) mj_j) := by
  refine ⟨h'.1, h'.2.1, by rw [List.length_set, List.length_set, mj_cl_len]; exact h.2.2.1, fun k w hk hw => ?_⟩
  by_cases e1 : k = i + 1
  · subst e1
    rw [List.getElem?_set_self (by rw [List.length_set, mj_cl_len, h.2.2.1]; exact hi)] at hk
    cases hk
    exact absurd rfl hw
  rw [List.getElem?_set_ne (Ne.symm e1)] at hk
  by_cases e : k = i
  · subst e
    rw [List.getElem?_set_self (by rw [mj_cl_len, h.2.2.1]; omega)] at hk
    cases hk
    exact h'.2.2 (k, mj_tr E v) List.mem_cons_self
  · rw [List.getElem?_set_ne (Ne.symm e)] at hk
    obtain ⟨h1, h2⟩ := mj_cl_get hk hw
    refine h'.2.2 (k, mj_tr E w) (List.mem_cons_of_mem _ (List.mem_filter.mpr ⟨mj_as_mem.mpr ⟨w, h1, hw, rfl⟩, ?_⟩))
    have := mj_tr_cat E w
    by_cases e2 : k + 1 = i
    · simp [e, e1, this, h2 e2]
    · simp [e, e1, e2]
/-- at a method's start -/
theorem mj_ar_len (E : mj_E) : ∀ a : List Value, (lg_sl (a.map (mj_tr E))).length = (mj_ar a).length
  | [] => rfl
  | v :: t => by
    have ih := mj_ar_len E t
    have hc := mj_tr_cat E v
    have e : lg_sl ((v :: t).map (mj_tr E)) = (if (mj_tr E v).category = 2 then [.val (mj_tr E v), .second] else [.val (mj_tr E v)]) ++ lg_sl (t.map (mj_tr E)) := rfl
    have e2 : mj_ar (v :: t) = if v.category = 2 then v :: mj_j :: mj_ar t else v :: mj_ar t := rfl
    rw [e, hc, List.length_append, ih, e2]
    split <;> simp <;> omega
theorem mj_ar_get (E : mj_E) : ∀ (a : List Value) (b i : Nat) (v : Value), (mj_ar a)[i]? = some v → v ≠ mj_j → (b + i, mj_tr E v) ∈ lv_args b (a.map (mj_tr E))
  | [], _, _, _, h, _ => by simp [mj_ar] at h
  | w :: t, b, i, v, h, hv => by
    have hc := mj_tr_cat E w
    have ih := mj_ar_get E t
    simp only [List.map_cons, lv_args, hc]
    by_cases h2 : w.category = 2
    · simp only [mj_ar, h2, if_true] at h
      match i, h with
      | 0, h => cases h; exact List.mem_cons_self
      | 1, h => cases h; exact absurd rfl hv
      | i + 2, h =>
        have := ih (b + 2) i v h hv
        rw [show b + (i + 2) = b + 2 + i by omega]
        exact List.mem_cons_of_mem _ (by first | simpa [h2] using this | exact this)
    · have h1 : w.category = 1 := by rcases lv_cat w with q | q <;> omega
      simp only [mj_ar, h2, if_false] at h
      match i, h with
      | 0, h => cases h; exact List.mem_cons_self
      | i + 1, h =>
        have := ih (b + 1) i v h hv
        rw [show b + (i + 1) = b + 1 + i by omega]
        exact List.mem_cons_of_mem _ (by first | simpa [h1] using this | exact this)
theorem mj_lh.entry (E : mj_E) (a : List Value) {n : Nat} (h : (mj_ar a).length ≤ n) : mj_lh E n ((lg_sl (a.map (mj_tr E)) ++ List.replicate (n - (lg_sl (a.map (mj_tr E))).length) Slot.unset).toArray) (mj_en a n) := by
  have h' : (lg_sl (a.map (mj_tr E))).length ≤ n := by rw [mj_ar_len]; exact h
  have H := lv_entry (a.map (mj_tr E)) h'
  refine ⟨H.1, H.2.1, by simp [mj_en]; omega, fun i v hi hv => ?_⟩
  unfold mj_en at hi
  by_cases hl : i < (mj_ar a).length
  · rw [List.getElem?_append_left hl] at hi
    have := mj_ar_get E a 0 i v hi hv
    rw [Nat.zero_add] at this
    exact H.2.2 _ this
  · rw [List.getElem?_append_right (by omega)] at hi
    have h2 : v = mj_j := by
      have := List.mem_of_getElem? hi
      exact List.eq_of_mem_replicate this
    exact absurd h2 hv
