/-! contracts: Routine -/
theorem mm_ext {M M' : mm} (h1 : ∀ i k, rI M i k = rI M' i k) (h2 : ∀ i k, rL M i k = rL M' i k) (h3 : ∀ i k, rR M i k = rR M' i k) (h4 : M.2.2.2 = M'.2.2.2) : M = M' := by
  obtain ⟨a, b, c, e⟩ := M
  obtain ⟨a', b', c', e'⟩ := M'
  have e1 : a = a' := funext fun i => funext fun k => h1 i k
  have e2 : b = b' := funext fun i => funext fun k => h2 i k
  have e3 : c = c' := funext fun i => funext fun k => h3 i k
  have e4 : e = e' := h4
  rw [e1, e2, e3, e4]
section C41
variable {d : Nat} {lim : Nat × Nat} {Q : mj_Q} {M : mm} {o o2 : Nat}
def plF (y sz : Int32) : Int32 := if y < sz then y else sz
theorem c_Routine_hasPlace (h : isRt o) {x : Int32} : mj_V d lim mq_Routine_hasPlace 0 [.ref o, .int x] [] (hp M) Q ↔ Q (some (.int (bI (¬ x < nI 0 ∧ ¬ rI M o 4 < x)))) (hp M) := by
  simp (disch := assumption) only [zi_Routine_hasPlace_0, zi_Routine_hasPlace_1, zi_Routine_hasPlace_4, zi_Routine_hasPlace_5, zi_Routine_hasPlace_6, zi_Routine_hasPlace_9, zi_Routine_hasPlace_12, zi_Routine_hasPlace_13, zi_Routine_hasPlace_16, zi_Routine_hasPlace_17, ↓reduceIte, mj_op_s, Option.toList_some, Option.toList_none, List.cons_append, List.nil_append, hp_1, hp_2, true_and, and_true, zb_0, zb_1, zb_b, va_rf, io_rt, ↓ogf_rt_0, ↓ogf_rt_1, ↓ogf_rt_2, ↓ogf_rt_3, ↓ogf_rt_4, ↓oai_rt_0, ↓oai_rt_1, ↓oai_rt_2, ↓oai_rt_3, ↓owi_rt_0, ↓owi_rt_1, ↓owi_rt_2, ↓owi_rt_3, ↓opf_rt]
  by_cases h1 : x < nI 0 <;> by_cases h2 : rI M o 4 < x <;> simp only [h1, h2, bI, if_true, if_false, not_true_eq_false, not_false_eq_true, and_true, and_false, true_and, false_and, ite_self]
theorem c_Routine_placeFor (h : isRt o) {x : Int32} : mj_V d lim mq_Routine_placeFor 0 [.ref o, .int x] [] (hp M) Q ↔ Q (some (.int (plF x (rI M o 4)))) (hp M) := by
  simp (disch := assumption) only [zi_Routine_placeFor_0, zi_Routine_placeFor_1, zi_Routine_placeFor_2, zi_Routine_placeFor_5, zi_Routine_placeFor_8, zi_Routine_placeFor_9, zi_Routine_placeFor_12, zi_Routine_placeFor_13, zi_Routine_placeFor_16, ↓reduceIte, mj_op_s, Option.toList_some, Option.toList_none, List.cons_append, List.nil_append, hp_1, hp_2, true_and, and_true, zb_0, zb_1, zb_b, va_rf, io_rt, ↓ogf_rt_0, ↓ogf_rt_1, ↓ogf_rt_2, ↓ogf_rt_3, ↓ogf_rt_4, ↓oai_rt_0, ↓oai_rt_1, ↓oai_rt_2, ↓oai_rt_3, ↓owi_rt_0, ↓owi_rt_1, ↓owi_rt_2, ↓owi_rt_3, ↓opf_rt]
  unfold plF
  by_cases h1 : x < rI M o 4 <;> simp only [h1, if_true, if_false]
theorem c_Routine_target (h : isRt o) {p : Nat} (hp0 : p < 50) : mj_V (d + 1) lim mq_Routine_target 0 [.ref o, .int (nI p)] [] (hp M) Q ↔ Q (some (.int (plF (rI M (o + 3) p) (rI M o 4)))) (hp M) := by
  simp (disch := assumption) only [zi_Routine_target_0, zi_Routine_target_1, zi_Routine_target_2, zi_Routine_target_5, zi_Routine_target_6, zi_Routine_target_7, zi_Routine_target_10, ↓reduceIte, mj_op_s, Option.toList_some, Option.toList_none, List.cons_append, List.nil_append, hp_1, hp_2, true_and, and_true, zb_0, zb_1, zb_b, va_rf, io_rt, ↓ogf_rt_0, ↓ogf_rt_1, ↓ogf_rt_2, ↓ogf_rt_3, ↓ogf_rt_4, ↓oai_rt_0, ↓oai_rt_1, ↓oai_rt_2, ↓oai_rt_3, ↓owi_rt_0, ↓owi_rt_1, ↓owi_rt_2, ↓owi_rt_3, ↓opf_rt, c_Routine_placeFor]
def puA (M : mm) (o p : Nat) (a x y z : Int32) : mm := wI (wI (wI (wI M (o + 1) p a) (o + 2) p x) (o + 3) p y) (o + 4) p z
theorem c_Routine_put (h : isRt o) {p : Nat} (hp0 : p < 50) {a x y z : Int32} : mj_V d lim mq_Routine_put 0 [.ref o, .int (nI p), .int a, .int x, .int y, .int z] [] (hp M) Q ↔ Q none (hp (puA M o p a x y z)) := by
  simp (disch := assumption) only [zi_Routine_put_0, zi_Routine_put_1, zi_Routine_put_4, zi_Routine_put_5, zi_Routine_put_6, zi_Routine_put_7, zi_Routine_put_8, zi_Routine_put_11, zi_Routine_put_12, zi_Routine_put_13, zi_Routine_put_14, zi_Routine_put_15, zi_Routine_put_18, zi_Routine_put_19, zi_Routine_put_21, zi_Routine_put_22, zi_Routine_put_23, zi_Routine_put_26, zi_Routine_put_27, zi_Routine_put_29, zi_Routine_put_30, ↓reduceIte, mj_op_s, Option.toList_some, Option.toList_none, List.cons_append, List.nil_append, hp_1, hp_2, true_and, and_true, zb_0, zb_1, zb_b, va_rf, io_rt, ↓ogf_rt_0, ↓ogf_rt_1, ↓ogf_rt_2, ↓ogf_rt_3, ↓ogf_rt_4, ↓oai_rt_0, ↓oai_rt_1, ↓oai_rt_2, ↓oai_rt_3, ↓owi_rt_0, ↓owi_rt_1, ↓owi_rt_2, ↓owi_rt_3, ↓opf_rt, puA]
theorem c_Routine_append (h : isRt o) {p : Nat} (hp0 : p < 50) (hs : rI M o 4 = nI p) {a x y z : Int32} : mj_V (d + 1) lim mq_Routine_append 0 [.ref o, .int a, .int x, .int y, .int z, mj_j] [] (hp M) Q ↔ Q (some (.int (nI p))) (hp (puA (wI M o 4 (nI (p + 1))) o p a x y z)) := by
  simp (disch := assumption) only [zi_Routine_append_0, zi_Routine_append_1, zi_Routine_append_4, zi_Routine_append_6, zi_Routine_append_7, zi_Routine_append_8, zi_Routine_append_11, zi_Routine_append_12, zi_Routine_append_13, zi_Routine_append_16, zi_Routine_append_17, zi_Routine_append_19, zi_Routine_append_20, zi_Routine_append_21, zi_Routine_append_22, zi_Routine_append_24, zi_Routine_append_27, zi_Routine_append_29, ↓reduceIte, mj_op_s, Option.toList_some, Option.toList_none, List.cons_append, List.nil_append, hp_1, hp_2, true_and, and_true, zb_0, zb_1, zb_b, va_rf, io_rt, ↓ogf_rt_0, ↓ogf_rt_1, ↓ogf_rt_2, ↓ogf_rt_3, ↓ogf_rt_4, ↓oai_rt_0, ↓oai_rt_1, ↓oai_rt_2, ↓oai_rt_3, ↓owi_rt_0, ↓owi_rt_1, ↓owi_rt_2, ↓owi_rt_3, ↓opf_rt, hs, c_Routine_put, nI_add]
/-- the first n acts of another routine -/
def cpA (M : mm) (o o2 n : Nat) : mm := (fun i k => if o + 1 ≤ i ∧ i ≤ o + 4 ∧ k < n then rI M (o2 + (i - o)) k else rI M i k, M.2)
theorem cpA_0 : cpA M o o2 0 = M := mm_ext (fun i k => by simp [cpA, rI]) (fun _ _ => rfl) (fun _ _ => rfl) rfl
theorem cpA_s {n : Nat} (hne : o2 + 4 < o ∨ o + 4 < o2) : puA (cpA M o o2 n) o n (rI M (o2 + 1) n) (rI M (o2 + 2) n) (rI M (o2 + 3) n) (rI M (o2 + 4) n) = cpA M o o2 (n + 1) := by
  refine mm_ext (fun i k => ?_) (fun _ _ => rfl) (fun _ _ => rfl) rfl
  simp only [puA, rI_wI]
  show _ = (if o + 1 ≤ i ∧ i ≤ o + 4 ∧ k < n + 1 then rI M (o2 + (i - o)) k else rI M i k)
  have e : rI (cpA M o o2 n) i k = (if o + 1 ≤ i ∧ i ≤ o + 4 ∧ k < n then rI M (o2 + (i - o)) k else rI M i k) := rfl
  rw [e]
  by_cases h4 : i = o + 4 ∧ k = n
  · obtain ⟨rfl, rfl⟩ := h4; rw [if_pos ⟨rfl, rfl⟩, if_pos (by omega), show o + 4 - o = 4 by omega]
  rw [if_neg h4]
  by_cases h3 : i = o + 3 ∧ k = n
  · obtain ⟨rfl, rfl⟩ := h3; rw [if_pos ⟨rfl, rfl⟩, if_pos (by omega), show o + 3 - o = 3 by omega]
  rw [if_neg h3]
  by_cases h2 : i = o + 2 ∧ k = n
  · obtain ⟨rfl, rfl⟩ := h2; rw [if_pos ⟨rfl, rfl⟩, if_pos (by omega), show o + 2 - o = 2 by omega]
  rw [if_neg h2]
  by_cases h1 : i = o + 1 ∧ k = n
  · obtain ⟨rfl, rfl⟩ := h1; rw [if_pos ⟨rfl, rfl⟩, if_pos (by omega), show o + 1 - o = 1 by omega]
  rw [if_neg h1]
  by_cases hh : o + 1 ≤ i ∧ i ≤ o + 4 ∧ k < n
  · rw [if_pos hh, if_pos (by omega)]
  · rw [if_neg hh, if_neg (by omega)]
theorem cpA_other {n i k : Nat} (h : i < o + 1 ∨ o + 4 < i) : rI (cpA M o o2 n) i k = rI M i k := by
  show (if o + 1 ≤ i ∧ i ≤ o + 4 ∧ k < n then _ else _) = _
  rw [if_neg (by omega)]
theorem l_Routine_copyFrom (h : isRt o) (h2 : isRt o2) (hne : o2 + 4 < o ∨ o + 4 < o2) {n : Nat} (hn : n ≤ 50) (hs : rI M o2 4 = nI n) : ∀ (m j : Nat), j + m = n → (mj_V (d + 1) lim mq_Routine_copyFrom 2 [.ref o, .ref o2, .int (nI j)] [] (hp (cpA M o o2 j)) Q ↔ mj_V (d + 1) lim mq_Routine_copyFrom 45 [.ref o, .ref o2, .int (nI n)] [] (hp (cpA M o o2 n)) Q) := by
  intro m
  induction m with
  | zero =>
    intro j hj
    obtain rfl : j = n := by omega
    rw [zi_Routine_copyFrom_2]
    simp (disch := assumption) only [zi_Routine_copyFrom_3, zi_Routine_copyFrom_4, zi_Routine_copyFrom_7, ↓reduceIte, mj_op_s, Option.toList_some, Option.toList_none, List.cons_append, List.nil_append, hp_1, hp_2, true_and, and_true, zb_0, zb_1, zb_b, va_rf, io_rt, ↓ogf_rt_0, ↓ogf_rt_1, ↓ogf_rt_2, ↓ogf_rt_3, ↓ogf_rt_4, ↓oai_rt_0, ↓oai_rt_1, ↓oai_rt_2, ↓oai_rt_3, ↓owi_rt_0, ↓owi_rt_1, ↓owi_rt_2, ↓owi_rt_3, ↓opf_rt, cpA_other (show o2 < o + 1 ∨ o + 4 < o2 by omega), hs, nI_ltI (show j < 2 ^ 31 by omega) (show j < 2 ^ 31 by omega), Nat.lt_irrefl, if_false]
  | succ m ih =>
    intro j hj
    have hj50 : j < 50 := by omega
    have e1 : nI j < nI n := nI_lt (by omega) (by omega)
    rw [zi_Routine_copyFrom_2]
    simp (disch := assumption) only [zi_Routine_copyFrom_3, zi_Routine_copyFrom_4, zi_Routine_copyFrom_7, zi_Routine_copyFrom_10, zi_Routine_copyFrom_11, zi_Routine_copyFrom_12, zi_Routine_copyFrom_13, zi_Routine_copyFrom_16, zi_Routine_copyFrom_17, zi_Routine_copyFrom_18, zi_Routine_copyFrom_19, zi_Routine_copyFrom_22, zi_Routine_copyFrom_23, zi_Routine_copyFrom_24, zi_Routine_copyFrom_25, zi_Routine_copyFrom_28, zi_Routine_copyFrom_29, zi_Routine_copyFrom_30, zi_Routine_copyFrom_31, zi_Routine_copyFrom_34, zi_Routine_copyFrom_35, zi_Routine_copyFrom_36, zi_Routine_copyFrom_39, zi_Routine_copyFrom_42, ↓reduceIte, mj_op_s, Option.toList_some, Option.toList_none, List.cons_append, List.nil_append, hp_1, hp_2, true_and, and_true, zb_0, zb_1, zb_b, va_rf, io_rt, ↓ogf_rt_0, ↓ogf_rt_1, ↓ogf_rt_2, ↓ogf_rt_3, ↓ogf_rt_4, ↓oai_rt_0, ↓oai_rt_1, ↓oai_rt_2, ↓oai_rt_3, ↓owi_rt_0, ↓owi_rt_1, ↓owi_rt_2, ↓owi_rt_3, ↓opf_rt, cpA_other (show o2 < o + 1 ∨ o + 4 < o2 by omega), cpA_other (show o2 + 1 < o + 1 ∨ o + 4 < o2 + 1 by omega), cpA_other (show o2 + 2 < o + 1 ∨ o + 4 < o2 + 2 by omega), cpA_other (show o2 + 3 < o + 1 ∨ o + 4 < o2 + 3 by omega), cpA_other (show o2 + 4 < o + 1 ∨ o + 4 < o2 + 4 by omega), hs, e1, if_true, c_Routine_put, cpA_s hne, nI_add]
    exact ih (j + 1) (by omega)
/-- a routine becomes as another one -/
def cpR (M : mm) (o o2 n : Nat) : mm := wI (cpA M o o2 n) o 4 (nI n)
theorem c_Routine_copyFrom (h : isRt o) (h2 : isRt o2) (hne : o2 + 4 < o ∨ o + 4 < o2) {n : Nat} (hn : n ≤ 50) (hs : rI M o2 4 = nI n) : mj_V (d + 1) lim mq_Routine_copyFrom 0 [.ref o, .ref o2, mj_j] [] (hp M) Q ↔ Q none (hp (cpR M o o2 n)) := by
  have e := l_Routine_copyFrom (d := d) (lim := lim) (Q := Q) h h2 hne hn hs n 0 (by omega)
  rw [cpA_0] at e
  simp (disch := assumption) only [zi_Routine_copyFrom_0, zi_Routine_copyFrom_1, e, zi_Routine_copyFrom_45, zi_Routine_copyFrom_46, zi_Routine_copyFrom_47, zi_Routine_copyFrom_50, zi_Routine_copyFrom_53, ↓reduceIte, mj_op_s, Option.toList_some, Option.toList_none, List.cons_append, List.nil_append, hp_1, hp_2, true_and, and_true, zb_0, zb_1, zb_b, va_rf, io_rt, ↓ogf_rt_0, ↓ogf_rt_1, ↓ogf_rt_2, ↓ogf_rt_3, ↓ogf_rt_4, ↓oai_rt_0, ↓oai_rt_1, ↓oai_rt_2, ↓oai_rt_3, ↓owi_rt_0, ↓owi_rt_1, ↓owi_rt_2, ↓owi_rt_3, ↓opf_rt, cpA_other (show o2 < o + 1 ∨ o + 4 < o2 by omega), hs, cpR]
abbrev sameP (M : mm) (o o2 p : Nat) : Prop := rI M (o + 1) p = rI M (o2 + 1) p ∧ rI M (o + 2) p = rI M (o2 + 2) p ∧ rI M (o + 3) p = rI M (o2 + 3) p ∧ rI M (o + 4) p = rI M (o2 + 4) p
theorem l_Routine_hasActsOf (h : isRt o) (h2 : isRt o2) {n : Nat} (hn : n ≤ 50) (hs : rI M o 4 = nI n) : ∀ (m j : Nat), j + m = n → (∀ p, p < j → sameP M o o2 p) → (mj_V d lim mq_Routine_hasActsOf 15 [.ref o, .ref o2, .int (nI j)] [] (hp M) Q ↔ Q (some (.int (bI (∀ p, p < n → sameP M o o2 p)))) (hp M)) := by
  intro m
  induction m with
  | zero =>
    intro j hj hall
    obtain rfl : j = n := by omega
    rw [zi_Routine_hasActsOf_15]
    simp (disch := assumption) only [zi_Routine_hasActsOf_16, zi_Routine_hasActsOf_17, zi_Routine_hasActsOf_20, zi_Routine_hasActsOf_23, zi_Routine_hasActsOf_24, zi_Routine_hasActsOf_27, zi_Routine_hasActsOf_28, zi_Routine_hasActsOf_29, zi_Routine_hasActsOf_30, zi_Routine_hasActsOf_33, zi_Routine_hasActsOf_34, zi_Routine_hasActsOf_35, zi_Routine_hasActsOf_38, zi_Routine_hasActsOf_39, zi_Routine_hasActsOf_42, zi_Routine_hasActsOf_43, zi_Routine_hasActsOf_44, zi_Routine_hasActsOf_45, zi_Routine_hasActsOf_48, zi_Routine_hasActsOf_49, zi_Routine_hasActsOf_50, zi_Routine_hasActsOf_53, zi_Routine_hasActsOf_54, zi_Routine_hasActsOf_57, zi_Routine_hasActsOf_58, zi_Routine_hasActsOf_59, zi_Routine_hasActsOf_60, zi_Routine_hasActsOf_63, zi_Routine_hasActsOf_64, zi_Routine_hasActsOf_65, zi_Routine_hasActsOf_68, zi_Routine_hasActsOf_69, zi_Routine_hasActsOf_72, zi_Routine_hasActsOf_73, zi_Routine_hasActsOf_74, zi_Routine_hasActsOf_75, zi_Routine_hasActsOf_78, zi_Routine_hasActsOf_79, zi_Routine_hasActsOf_80, zi_Routine_hasActsOf_83, zi_Routine_hasActsOf_84, zi_Routine_hasActsOf_85, zi_Routine_hasActsOf_88, zi_Routine_hasActsOf_91, zi_Routine_hasActsOf_92, ↓reduceIte, mj_op_s, Option.toList_some, Option.toList_none, List.cons_append, List.nil_append, hp_1, hp_2, true_and, and_true, zb_0, zb_1, zb_b, va_rf, io_rt, ↓ogf_rt_0, ↓ogf_rt_1, ↓ogf_rt_2, ↓ogf_rt_3, ↓ogf_rt_4, ↓oai_rt_0, ↓oai_rt_1, ↓oai_rt_2, ↓oai_rt_3, ↓owi_rt_0, ↓owi_rt_1, ↓owi_rt_2, ↓owi_rt_3, ↓opf_rt, hs, nI_ltI (show j < 2 ^ 31 by omega) (show j < 2 ^ 31 by omega), Nat.lt_irrefl, if_false]
    rw [bI_t hall]
  | succ m ih =>
    intro j hj hall
    have hj50 : j < 50 := by omega
    have e1 : nI j < nI n := nI_lt (by omega) (by omega)
    have hno : ¬ sameP M o o2 j → bI (∀ p, p < n → sameP M o o2 p) = nI 0 := fun z => bI_f (fun y => z (y j (by omega)))
    rw [zi_Routine_hasActsOf_15]
    simp (disch := assumption) only [zi_Routine_hasActsOf_16, zi_Routine_hasActsOf_17, zi_Routine_hasActsOf_20, zi_Routine_hasActsOf_23, zi_Routine_hasActsOf_24, zi_Routine_hasActsOf_27, zi_Routine_hasActsOf_28, zi_Routine_hasActsOf_29, zi_Routine_hasActsOf_30, zi_Routine_hasActsOf_33, zi_Routine_hasActsOf_34, zi_Routine_hasActsOf_35, zi_Routine_hasActsOf_38, zi_Routine_hasActsOf_39, zi_Routine_hasActsOf_42, zi_Routine_hasActsOf_43, zi_Routine_hasActsOf_44, zi_Routine_hasActsOf_45, zi_Routine_hasActsOf_48, zi_Routine_hasActsOf_49, zi_Routine_hasActsOf_50, zi_Routine_hasActsOf_53, zi_Routine_hasActsOf_54, zi_Routine_hasActsOf_57, zi_Routine_hasActsOf_58, zi_Routine_hasActsOf_59, zi_Routine_hasActsOf_60, zi_Routine_hasActsOf_63, zi_Routine_hasActsOf_64, zi_Routine_hasActsOf_65, zi_Routine_hasActsOf_68, zi_Routine_hasActsOf_69, zi_Routine_hasActsOf_72, zi_Routine_hasActsOf_73, zi_Routine_hasActsOf_74, zi_Routine_hasActsOf_75, zi_Routine_hasActsOf_78, zi_Routine_hasActsOf_79, zi_Routine_hasActsOf_80, zi_Routine_hasActsOf_83, zi_Routine_hasActsOf_84, zi_Routine_hasActsOf_85, zi_Routine_hasActsOf_88, zi_Routine_hasActsOf_91, zi_Routine_hasActsOf_92, ↓reduceIte, mj_op_s, Option.toList_some, Option.toList_none, List.cons_append, List.nil_append, hp_1, hp_2, true_and, and_true, zb_0, zb_1, zb_b, va_rf, io_rt, ↓ogf_rt_0, ↓ogf_rt_1, ↓ogf_rt_2, ↓ogf_rt_3, ↓ogf_rt_4, ↓oai_rt_0, ↓oai_rt_1, ↓oai_rt_2, ↓oai_rt_3, ↓owi_rt_0, ↓owi_rt_1, ↓owi_rt_2, ↓owi_rt_3, ↓opf_rt, hs, e1, if_true, nI_add]
    by_cases c1 : rI M (o + 1) j = rI M (o2 + 1) j
    · rw [if_pos c1]
      by_cases c2 : rI M (o + 2) j = rI M (o2 + 2) j
      · rw [if_pos c2]
        by_cases c3 : rI M (o + 3) j = rI M (o2 + 3) j
        · rw [if_pos c3]
          by_cases c4 : rI M (o + 4) j = rI M (o2 + 4) j
          · rw [if_pos c4]
            exact ih (j + 1) (by omega) (lt_s hall ⟨c1, c2, c3, c4⟩)
          · rw [if_neg c4, hno (fun z => c4 z.2.2.2)]
        · rw [if_neg c3, hno (fun z => c3 z.2.2.1)]
      · rw [if_neg c2, hno (fun z => c2 z.2.1)]
    · rw [if_neg c1, hno (fun z => c1 z.1)]
theorem c_Routine_hasActsOf (h : isRt o) (h2 : isRt o2) {n : Nat} (hn : n ≤ 50) (hs : rI M o 4 = nI n) : mj_V d lim mq_Routine_hasActsOf 0 [.ref o, .ref o2, mj_j] [] (hp M) Q ↔ Q (some (.int (bI (rI M o 4 = rI M o2 4 ∧ ∀ p, p < n → sameP M o o2 p)))) (hp M) := by
  simp (disch := assumption) only [zi_Routine_hasActsOf_0, zi_Routine_hasActsOf_1, zi_Routine_hasActsOf_4, zi_Routine_hasActsOf_5, zi_Routine_hasActsOf_8, zi_Routine_hasActsOf_11, zi_Routine_hasActsOf_12, zi_Routine_hasActsOf_13, zi_Routine_hasActsOf_14, ↓reduceIte, mj_op_s, Option.toList_some, Option.toList_none, List.cons_append, List.nil_append, hp_1, hp_2, true_and, and_true, zb_0, zb_1, zb_b, va_rf, io_rt, ↓ogf_rt_0, ↓ogf_rt_1, ↓ogf_rt_2, ↓ogf_rt_3, ↓ogf_rt_4, ↓oai_rt_0, ↓oai_rt_1, ↓oai_rt_2, ↓oai_rt_3, ↓owi_rt_0, ↓owi_rt_1, ↓owi_rt_2, ↓owi_rt_3, ↓opf_rt, l_Routine_hasActsOf h h2 hn hs n 0 (by omega) (fun p hp => absurd hp (by omega))]
  by_cases c : rI M o 4 = rI M o2 4
  · rw [if_pos c]; simp only [c, true_and]
  · rw [if_neg c, bI_f (fun z => c z.1)]
end C41
