/-! Model: add, copy, areSame -/
abbrev mrP (r i k : Nat) : Prop := i = 257 ∧ k = r ∨ i = 258 ∧ 200 * r ≤ k ∧ k < 200 * r + 200
abbrev mwP (wf : Bool) (i k : Nat) : Prop := wf = true ∧ (262 ≤ i ∧ i ≤ 267 ∨ i = 256 ∧ k = 10)
abbrev mnP (n i k : Nat) : Prop := i = 256 ∧ k = 10 ∨ 262 ≤ i ∧ i ≤ 265 ∧ k = n ∨ 266 ≤ i ∧ i ≤ 267 ∧ 8 * n ≤ k ∧ k < 8 * n + 8
/-- equal acts -/
def eqA (len : Nat) (A : AA) (len2 : Nat) (B : AA) : Prop := len = len2 ∧ ∀ p, p < len → ∀ j, j < 4 → A p j = B p j
noncomputable def eqB (len : Nat) (A : AA) (len2 : Nat) (B : AA) : Bool := @decide (eqA len A len2 B) (Classical.propDecidable _)
theorem eqB_t {len len2 : Nat} {A B : AA} (h : eqA len A len2 B) : eqB len A len2 B = true := @decide_eq_true _ (Classical.propDecidable _) h
theorem eqB_f {len len2 : Nat} {A B : AA} (h : ¬ eqA len A len2 B) : eqB len A len2 B = false := @decide_eq_false _ (Classical.propDecidable _) h
theorem eqB_i {len len2 : Nat} {A B : AA} (h : eqB len A len2 B = true) : eqA len A len2 B := @of_decide_eq_true _ (Classical.propDecidable _) h
section C84
variable {d : Nat} {lim : Nat × Nat} {Q : mj_Q} {M M' : mm} {t len p q j r n w : Nat} {A B : AA} {C : Nat → Bool} {F : KF} {S : Nat → Nat → Bool} {W : WS} {x : WR} {wf : Bool}
theorem puM_o {a x y z : Int32} {i k : Nat} (h : ¬ (i = 258 ∧ 4 * (50 * r + p) ≤ k ∧ k < 4 * (50 * r + p) + 4)) : rI (puM M r p a x y z) i k = rI M i k := by
  unfold puM
  rw [rI_wI, if_neg (by omega), rI_wI, if_neg (by omega), rI_wI, if_neg (by omega), rI_wI, if_neg (by omega)]
theorem puM_1 {a x y z : Int32} {j : Nat} (hj : j < 4) : rI (puM M r p a x y z) 258 (4 * (50 * r + p) + j) = acA a x y z j := by
  unfold puM acA
  have h : j = 0 ∨ j = 1 ∨ j = 2 ∨ j = 3 := by omega
  rcases h with rfl | rfl | rfl | rfl
  · rw [rI_wI, if_neg (by omega), rI_wI, if_neg (by omega), rI_wI, if_neg (by omega), rI_wI, if_pos ⟨rfl, rfl⟩, if_pos rfl]
  · rw [rI_wI, if_neg (by omega), rI_wI, if_neg (by omega), rI_wI, if_pos ⟨rfl, rfl⟩, if_neg (by omega), if_pos rfl]
  · rw [rI_wI, if_neg (by omega), rI_wI, if_pos ⟨rfl, rfl⟩, if_neg (by omega), if_neg (by omega), if_pos rfl]
  · rw [rI_wI, if_pos ⟨rfl, rfl⟩, if_neg (by omega), if_neg (by omega), if_neg (by omega)]
theorem sv_puM {a x y z : Int32} (hp0 : p < 50) : sv (mrP r) M (puM M r p a x y z) := by
  unfold puM
  exact sv_wI (sv_wI (sv_wI (sv_wI sv_refl (by unfold mrP; omega)) (by unfold mrP; omega)) (by unfold mrP; omega)) (by unfold mrP; omega)
theorem hasM_pu {a x y z : Int32} (h : hasM M r len B) : hasM (puM M r p a x y z) r len (upA B p a x y z) := by
  refine ⟨(puM_o (by omega)).trans h.1, fun q hq j hj => ?_⟩
  unfold upA
  by_cases e : q = p
  · subst e
    rw [if_pos rfl]
    exact puM_1 hj
  · rw [if_neg e]
    exact (puM_o (by omega)).trans (h.2 q hq j hj)
theorem mr_M {r2 : Nat} (h : sv (mrP r) M M') (hne : r2 ≠ r) (h50 : len ≤ 50) (hR : hasM M r2 len A) : hasM M' r2 len A := ⟨(sv_I h (by unfold mrP; omega)).trans hR.1, fun p hp0 j hj => (sv_I h (by unfold mrP; omega)).trans (hR.2 p hp0 j hj)⟩
theorem l_copy (hr : r < 44) (ht : t < 44) (hne : r ≠ t) (hR : hasM M r len A) (h50 : len ≤ 50) (hend : ∀ M', sv (mrP t) M M' → hasM M' t len A → Q none (hp M')) : ∀ (n p : Nat) (M' : mm), p + n = len → sv (mrP t) M M' → rI M' 257 t = nI len → (∀ q, q < p → ∀ j, j < 4 → rI M' 258 (4 * (50 * t + q) + j) = A q j) → mj_V (d + 2) lim mq_Model_copy 14 [.ref 256, .int (nI t), .int (nI r), .int (nI p)] [] (hp M') Q := by
  intro n
  induction n with
  | zero =>
    intro p M' hn hv hl hq
    obtain rfl : p = len := by omega
    have r0 := (mr_M hv hne h50 hR).1
    have e1 : ¬ nI p < nI p := nI_nlt (by omega) (by omega)
    rw [zi_Model_copy_14]
    simp (disch := first | assumption | omega) only [zi_Model_copy_15, zi_Model_copy_16, zi_Model_copy_19, zi_Model_copy_20, zi_Model_copy_21, zi_Model_copy_63, ↓reduceIte, mj_op_s, Option.toList_some, Option.toList_none, List.cons_append, List.nil_append, hp_1, hp_2, true_and, and_true, zb_0, zb_1, zb_b, va_rf, io_256, ↓ogf_256_0, ↓opf_256_0, ↓ogf_256_1, ↓ogf_256_2, ↓ogf_256_3, ↓ogf_256_4, ↓opf_256_4, ↓ogf_256_5, ↓ogf_256_6, ↓ogf_256_7, ↓opf_256_7, ↓ogf_256_8, ↓opf_256_8, ↓ogf_256_9, ↓opf_256_9, ↓ogf_256_10, ↓opf_256_10, ↓ogf_256_11, ↓ogf_256_12, ↓ogf_256_13, ↓ogf_256_14, ↓ogf_256_15, ↓ogf_256_16, ↓ogf_256_17, ↓opf_256_17, ↓ogf_256_18, ↓opf_256_18, ↓ogf_256_19, ↓ogf_256_20, ↓ogf_256_21, ↓ogf_256_22, ↓opf_256_22_0, ↓opf_256_22_1, ↓ogf_256_23, ↓opf_256_23, ↓ogf_256_24, ↓ogf_256_25, ↓opf_256_25_0, ↓opf_256_25_1, ↓ogf_256_26, ↓opf_256_26, ↓ogf_256_27, ↓opf_256_27, ↓ogf_256_28, ↓opf_256_28, ↓ogf_256_29, ↓ogf_256_30, ↓ogf_256_31, ↓ogf_256_32, ↓ogf_256_33, ↓ogf_256_34, ↓oai_257, ↓owi_257, r0, e1]
    exact hend M' hv ⟨hl, hq⟩
  | succ n ih =>
    intro p M' hn hv hl hq
    have hR' := mr_M hv hne h50 hR
    have r0 := hR'.1
    have hp50 : p < 50 := by omega
    have hpl : p < len := by omega
    have e1 : nI p < nI len := nI_lt (by omega) (by omega)
    have q0 := hR'.2 p hpl 0 (by omega)
    have q1 := hR'.2 p hpl 1 (by omega)
    have q2 := hR'.2 p hpl 2 (by omega)
    have q3 := hR'.2 p hpl 3 (by omega)
    rw [zi_Model_copy_14]
    simp (disch := first | assumption | omega) only [zi_Model_copy_15, zi_Model_copy_16, zi_Model_copy_19, zi_Model_copy_20, zi_Model_copy_21, zi_Model_copy_24, zi_Model_copy_25, zi_Model_copy_26, zi_Model_copy_27, zi_Model_copy_28, zi_Model_copy_29, zi_Model_copy_30, zi_Model_copy_33, zi_Model_copy_34, zi_Model_copy_35, zi_Model_copy_36, zi_Model_copy_37, zi_Model_copy_40, zi_Model_copy_41, zi_Model_copy_42, zi_Model_copy_43, zi_Model_copy_44, zi_Model_copy_47, zi_Model_copy_48, zi_Model_copy_49, zi_Model_copy_50, zi_Model_copy_51, zi_Model_copy_54, zi_Model_copy_57, zi_Model_copy_60, ↓reduceIte, mj_op_s, Option.toList_some, Option.toList_none, List.cons_append, List.nil_append, hp_1, hp_2, true_and, and_true, zb_0, zb_1, zb_b, va_rf, io_256, ↓ogf_256_0, ↓opf_256_0, ↓ogf_256_1, ↓ogf_256_2, ↓ogf_256_3, ↓ogf_256_4, ↓opf_256_4, ↓ogf_256_5, ↓ogf_256_6, ↓ogf_256_7, ↓opf_256_7, ↓ogf_256_8, ↓opf_256_8, ↓ogf_256_9, ↓opf_256_9, ↓ogf_256_10, ↓opf_256_10, ↓ogf_256_11, ↓ogf_256_12, ↓ogf_256_13, ↓ogf_256_14, ↓ogf_256_15, ↓ogf_256_16, ↓ogf_256_17, ↓opf_256_17, ↓ogf_256_18, ↓opf_256_18, ↓ogf_256_19, ↓ogf_256_20, ↓ogf_256_21, ↓ogf_256_22, ↓opf_256_22_0, ↓opf_256_22_1, ↓ogf_256_23, ↓opf_256_23, ↓ogf_256_24, ↓ogf_256_25, ↓opf_256_25_0, ↓opf_256_25_1, ↓ogf_256_26, ↓opf_256_26, ↓ogf_256_27, ↓opf_256_27, ↓ogf_256_28, ↓opf_256_28, ↓ogf_256_29, ↓ogf_256_30, ↓ogf_256_31, ↓ogf_256_32, ↓ogf_256_33, ↓ogf_256_34, ↓oai_257, ↓owi_257, r0, e1, c_Model_kind, c_Model_num, q0, q1, q2, q3, c_Model_put ht hp50, nI_add]
    refine ih (p + 1) _ (by omega) (sv_trans hv (sv_puM hp50)) ((puM_o (by omega)).trans hl) (fun q hq2 j hj => ?_)
    by_cases e : q = p
    · subst e
      rw [puM_1 hj]
      rcases acA_self (A := A) (p := q) (j := j) with h | h
      · exact h
      · omega
    · exact (puM_o (by omega)).trans (hq q (by omega) j hj)
theorem c_Model_copy (hr : r < 44) (ht : t < 44) (hne : r ≠ t) (hR : hasM M r len A) (h50 : len ≤ 50) (hend : ∀ M', sv (mrP t) M M' → hasM M' t len A → Q none (hp M')) : mj_V (d + 2) lim mq_Model_copy 0 [.ref 256, .int (nI t), .int (nI r), mj_j] [] (hp M) Q := by
  have r0 := hR.1
  simp (disch := first | assumption | omega) only [zi_Model_copy_0, zi_Model_copy_1, zi_Model_copy_4, zi_Model_copy_5, zi_Model_copy_6, zi_Model_copy_9, zi_Model_copy_10, zi_Model_copy_11, zi_Model_copy_12, zi_Model_copy_13, ↓reduceIte, mj_op_s, Option.toList_some, Option.toList_none, List.cons_append, List.nil_append, hp_1, hp_2, true_and, and_true, zb_0, zb_1, zb_b, va_rf, io_256, ↓ogf_256_0, ↓opf_256_0, ↓ogf_256_1, ↓ogf_256_2, ↓ogf_256_3, ↓ogf_256_4, ↓opf_256_4, ↓ogf_256_5, ↓ogf_256_6, ↓ogf_256_7, ↓opf_256_7, ↓ogf_256_8, ↓opf_256_8, ↓ogf_256_9, ↓opf_256_9, ↓ogf_256_10, ↓opf_256_10, ↓ogf_256_11, ↓ogf_256_12, ↓ogf_256_13, ↓ogf_256_14, ↓ogf_256_15, ↓ogf_256_16, ↓ogf_256_17, ↓opf_256_17, ↓ogf_256_18, ↓opf_256_18, ↓ogf_256_19, ↓ogf_256_20, ↓ogf_256_21, ↓ogf_256_22, ↓opf_256_22_0, ↓opf_256_22_1, ↓ogf_256_23, ↓opf_256_23, ↓ogf_256_24, ↓ogf_256_25, ↓opf_256_25_0, ↓opf_256_25_1, ↓ogf_256_26, ↓opf_256_26, ↓ogf_256_27, ↓opf_256_27, ↓ogf_256_28, ↓opf_256_28, ↓ogf_256_29, ↓ogf_256_30, ↓ogf_256_31, ↓ogf_256_32, ↓ogf_256_33, ↓ogf_256_34, ↓oai_257, ↓owi_257, r0]
  exact l_copy hr ht hne hR h50 hend len 0 _ (by omega) (sv_wI sv_refl (by unfold mrP; omega)) (by rw [rI_wI, if_pos ⟨rfl, rfl⟩]) (fun q hq => by omega)
theorem l_areSame_j (hr : r < 44) (ht : t < 44) (hR : hasM M r len A) (hT : hasM M t len B) (h50 : len ≤ 50) (hp0 : p < len) : ∀ (n j : Nat), j + n = 4 → (∀ k, k < j → A p k = B p k) → (mj_V (d + 1) lim mq_Model_areSame 32 [.ref 256, .int (nI r), .int (nI t), .int (nI p), .int (nI j)] [] (hp M) Q ↔ if (∀ k, k < 4 → A p k = B p k) then mj_V (d + 1) lim mq_Model_areSame 65 [.ref 256, .int (nI r), .int (nI t), .int (nI p), .int (nI 4)] [] (hp M) Q else Q (some (.int (nI 0))) (hp M)) := by
  intro n
  induction n with
  | zero =>
    intro j hj hk
    obtain rfl : j = 4 := by omega
    rw [zi_Model_areSame_32, if_pos hk]
    simp (decide := true) only [zi_Model_areSame_34, zi_Model_areSame_35, ↓reduceIte, mj_op_s, Option.toList_some, Option.toList_none, List.cons_append, List.nil_append, hp_1, hp_2, true_and, and_true, zb_0, zb_1, zb_b, va_rf]
  | succ n ih =>
    intro j hj hk
    have hj4 : j < 4 := by omega
    have hp50 : p < 50 := by omega
    have e1 : nI j < nI 4 := nI_lt (by omega) (by omega)
    have q1 := hR.2 p hp0 j hj4
    have q2 := hT.2 p hp0 j hj4
    rw [zi_Model_areSame_32]
    by_cases c : A p j = B p j
    · have q3 := q1.trans c
      simp (disch := first | assumption | omega) only [zi_Model_areSame_34, zi_Model_areSame_35, zi_Model_areSame_38, zi_Model_areSame_39, zi_Model_areSame_40, zi_Model_areSame_41, zi_Model_areSame_43, zi_Model_areSame_46, zi_Model_areSame_47, zi_Model_areSame_48, zi_Model_areSame_49, zi_Model_areSame_51, zi_Model_areSame_54, zi_Model_areSame_57, zi_Model_areSame_58, zi_Model_areSame_59, zi_Model_areSame_62, ↓reduceIte, mj_op_s, Option.toList_some, Option.toList_none, List.cons_append, List.nil_append, hp_1, hp_2, true_and, and_true, zb_0, zb_1, zb_b, va_rf, io_256, ↓ogf_256_0, ↓opf_256_0, ↓ogf_256_1, ↓ogf_256_2, ↓ogf_256_3, ↓ogf_256_4, ↓opf_256_4, ↓ogf_256_5, ↓ogf_256_6, ↓ogf_256_7, ↓opf_256_7, ↓ogf_256_8, ↓opf_256_8, ↓ogf_256_9, ↓opf_256_9, ↓ogf_256_10, ↓opf_256_10, ↓ogf_256_11, ↓ogf_256_12, ↓ogf_256_13, ↓ogf_256_14, ↓ogf_256_15, ↓ogf_256_16, ↓ogf_256_17, ↓opf_256_17, ↓ogf_256_18, ↓opf_256_18, ↓ogf_256_19, ↓ogf_256_20, ↓ogf_256_21, ↓ogf_256_22, ↓opf_256_22_0, ↓opf_256_22_1, ↓ogf_256_23, ↓opf_256_23, ↓ogf_256_24, ↓ogf_256_25, ↓opf_256_25_0, ↓opf_256_25_1, ↓ogf_256_26, ↓opf_256_26, ↓ogf_256_27, ↓opf_256_27, ↓ogf_256_28, ↓opf_256_28, ↓ogf_256_29, ↓ogf_256_30, ↓ogf_256_31, ↓ogf_256_32, ↓ogf_256_33, ↓ogf_256_34, e1, c_Model_num, q2, q3, nI_add]
      refine ih (j + 1) (by omega) (fun k hk2 => ?_)
      by_cases e : k = j
      · subst e; exact c
      · exact hk k (by omega)
    · rw [if_neg (fun z => c (z j hj4))]
      simp (disch := first | assumption | omega) only [zi_Model_areSame_34, zi_Model_areSame_35, zi_Model_areSame_38, zi_Model_areSame_39, zi_Model_areSame_40, zi_Model_areSame_41, zi_Model_areSame_43, zi_Model_areSame_46, zi_Model_areSame_47, zi_Model_areSame_48, zi_Model_areSame_49, zi_Model_areSame_51, zi_Model_areSame_54, zi_Model_areSame_57, zi_Model_areSame_58, zi_Model_areSame_59, zi_Model_areSame_62, ↓reduceIte, mj_op_s, Option.toList_some, Option.toList_none, List.cons_append, List.nil_append, hp_1, hp_2, true_and, and_true, zb_0, zb_1, zb_b, va_rf, io_256, ↓ogf_256_0, ↓opf_256_0, ↓ogf_256_1, ↓ogf_256_2, ↓ogf_256_3, ↓ogf_256_4, ↓opf_256_4, ↓ogf_256_5, ↓ogf_256_6, ↓ogf_256_7, ↓opf_256_7, ↓ogf_256_8, ↓opf_256_8, ↓ogf_256_9, ↓opf_256_9, ↓ogf_256_10, ↓opf_256_10, ↓ogf_256_11, ↓ogf_256_12, ↓ogf_256_13, ↓ogf_256_14, ↓ogf_256_15, ↓ogf_256_16, ↓ogf_256_17, ↓opf_256_17, ↓ogf_256_18, ↓opf_256_18, ↓ogf_256_19, ↓ogf_256_20, ↓ogf_256_21, ↓ogf_256_22, ↓opf_256_22_0, ↓opf_256_22_1, ↓ogf_256_23, ↓opf_256_23, ↓ogf_256_24, ↓ogf_256_25, ↓opf_256_25_0, ↓opf_256_25_1, ↓ogf_256_26, ↓opf_256_26, ↓ogf_256_27, ↓opf_256_27, ↓ogf_256_28, ↓opf_256_28, ↓ogf_256_29, ↓ogf_256_30, ↓ogf_256_31, ↓ogf_256_32, ↓ogf_256_33, ↓ogf_256_34, e1, c_Model_num, q1, q2, c, nI_add]
theorem l_areSame (hr : r < 44) (ht : t < 44) (hR : hasM M r len A) (hT : hasM M t len B) (h50 : len ≤ 50) : ∀ (n p : Nat) (x4 : Value), p + n = len → (∀ q, q < p → ∀ j, j < 4 → A q j = B q j) → (mj_V (d + 1) lim mq_Model_areSame 19 [.ref 256, .int (nI r), .int (nI t), .int (nI p), x4] [] (hp M) Q ↔ Q (some (.int (b1 (eqB len A len B)))) (hp M)) := by
  intro n
  induction n with
  | zero =>
    intro p x4 hn hq
    obtain rfl : p = len := by omega
    have r0 := hR.1
    have e1 : ¬ nI p < nI p := nI_nlt (by omega) (by omega)
    have hb := eqB_t (len := p) (len2 := p) ⟨rfl, hq⟩
    rw [zi_Model_areSame_19, hb]
    simp (disch := first | assumption | omega) only [zi_Model_areSame_20, zi_Model_areSame_21, zi_Model_areSame_24, zi_Model_areSame_25, zi_Model_areSame_26, zi_Model_areSame_71, zi_Model_areSame_72, ↓reduceIte, mj_op_s, Option.toList_some, Option.toList_none, List.cons_append, List.nil_append, hp_1, hp_2, true_and, and_true, zb_0, zb_1, zb_b, va_rf, io_256, ↓ogf_256_0, ↓opf_256_0, ↓ogf_256_1, ↓ogf_256_2, ↓ogf_256_3, ↓ogf_256_4, ↓opf_256_4, ↓ogf_256_5, ↓ogf_256_6, ↓ogf_256_7, ↓opf_256_7, ↓ogf_256_8, ↓opf_256_8, ↓ogf_256_9, ↓opf_256_9, ↓ogf_256_10, ↓opf_256_10, ↓ogf_256_11, ↓ogf_256_12, ↓ogf_256_13, ↓ogf_256_14, ↓ogf_256_15, ↓ogf_256_16, ↓ogf_256_17, ↓opf_256_17, ↓ogf_256_18, ↓opf_256_18, ↓ogf_256_19, ↓ogf_256_20, ↓ogf_256_21, ↓ogf_256_22, ↓opf_256_22_0, ↓opf_256_22_1, ↓ogf_256_23, ↓opf_256_23, ↓ogf_256_24, ↓ogf_256_25, ↓opf_256_25_0, ↓opf_256_25_1, ↓ogf_256_26, ↓opf_256_26, ↓ogf_256_27, ↓opf_256_27, ↓ogf_256_28, ↓opf_256_28, ↓ogf_256_29, ↓ogf_256_30, ↓ogf_256_31, ↓ogf_256_32, ↓ogf_256_33, ↓ogf_256_34, ↓oai_257, ↓owi_257, r0, e1, b1_t]
  | succ n ih =>
    intro p x4 hn hq
    have r0 := hR.1
    have hpl : p < len := by omega
    have e1 : nI p < nI len := nI_lt (by omega) (by omega)
    rw [zi_Model_areSame_19]
    simp (disch := first | assumption | omega) only [zi_Model_areSame_20, zi_Model_areSame_21, zi_Model_areSame_24, zi_Model_areSame_25, zi_Model_areSame_26, zi_Model_areSame_29, zi_Model_areSame_30, ↓reduceIte, mj_op_s, Option.toList_some, Option.toList_none, List.cons_append, List.nil_append, hp_1, hp_2, true_and, and_true, zb_0, zb_1, zb_b, va_rf, io_256, ↓ogf_256_0, ↓opf_256_0, ↓ogf_256_1, ↓ogf_256_2, ↓ogf_256_3, ↓ogf_256_4, ↓opf_256_4, ↓ogf_256_5, ↓ogf_256_6, ↓ogf_256_7, ↓opf_256_7, ↓ogf_256_8, ↓opf_256_8, ↓ogf_256_9, ↓opf_256_9, ↓ogf_256_10, ↓opf_256_10, ↓ogf_256_11, ↓ogf_256_12, ↓ogf_256_13, ↓ogf_256_14, ↓ogf_256_15, ↓ogf_256_16, ↓ogf_256_17, ↓opf_256_17, ↓ogf_256_18, ↓opf_256_18, ↓ogf_256_19, ↓ogf_256_20, ↓ogf_256_21, ↓ogf_256_22, ↓opf_256_22_0, ↓opf_256_22_1, ↓ogf_256_23, ↓opf_256_23, ↓ogf_256_24, ↓ogf_256_25, ↓opf_256_25_0, ↓opf_256_25_1, ↓ogf_256_26, ↓opf_256_26, ↓ogf_256_27, ↓opf_256_27, ↓ogf_256_28, ↓opf_256_28, ↓ogf_256_29, ↓ogf_256_30, ↓ogf_256_31, ↓ogf_256_32, ↓ogf_256_33, ↓ogf_256_34, ↓oai_257, ↓owi_257, r0, e1]
    rw [l_areSame_j hr ht hR hT h50 hpl 4 0 (by omega) (fun k hk => by omega)]
    by_cases c : ∀ k, k < 4 → A p k = B p k
    · rw [if_pos c]
      simp only [zi_Model_areSame_65, zi_Model_areSame_68, ↓reduceIte, mj_op_s, Option.toList_some, Option.toList_none, List.cons_append, List.nil_append, hp_1, hp_2, true_and, and_true, zb_0, zb_1, zb_b, va_rf, nI_add]
      refine ih (p + 1) _ (by omega) (fun q hq2 => ?_)
      by_cases e : q = p
      · subst e; exact c
      · exact hq q (by omega)
    · rw [if_neg c]
      have hb := eqB_f (len := len) (len2 := len) (A := A) (B := B) (fun z => c (z.2 p hpl))
      rw [hb]
      rfl
theorem c_Model_areSame {len2 : Nat} (hr : r < 44) (ht : t < 44) (hR : hasM M r len A) (hT : hasM M t len2 B) (h50 : len ≤ 50) (h502 : len2 ≤ 50) : mj_V (d + 1) lim mq_Model_areSame 0 [.ref 256, .int (nI r), .int (nI t), mj_j, mj_j] [] (hp M) Q ↔ Q (some (.int (b1 (eqB len A len2 B)))) (hp M) := by
  have r0 := hR.1
  have r1 := hT.1
  by_cases c : len = len2
  · subst c
    simp (disch := first | assumption | omega) only [zi_Model_areSame_0, zi_Model_areSame_1, zi_Model_areSame_4, zi_Model_areSame_5, zi_Model_areSame_6, zi_Model_areSame_7, zi_Model_areSame_10, zi_Model_areSame_11, zi_Model_areSame_12, zi_Model_areSame_15, zi_Model_areSame_16, zi_Model_areSame_17, zi_Model_areSame_18, ↓reduceIte, mj_op_s, Option.toList_some, Option.toList_none, List.cons_append, List.nil_append, hp_1, hp_2, true_and, and_true, zb_0, zb_1, zb_b, va_rf, io_256, ↓ogf_256_0, ↓opf_256_0, ↓ogf_256_1, ↓ogf_256_2, ↓ogf_256_3, ↓ogf_256_4, ↓opf_256_4, ↓ogf_256_5, ↓ogf_256_6, ↓ogf_256_7, ↓opf_256_7, ↓ogf_256_8, ↓opf_256_8, ↓ogf_256_9, ↓opf_256_9, ↓ogf_256_10, ↓opf_256_10, ↓ogf_256_11, ↓ogf_256_12, ↓ogf_256_13, ↓ogf_256_14, ↓ogf_256_15, ↓ogf_256_16, ↓ogf_256_17, ↓opf_256_17, ↓ogf_256_18, ↓opf_256_18, ↓ogf_256_19, ↓ogf_256_20, ↓ogf_256_21, ↓ogf_256_22, ↓opf_256_22_0, ↓opf_256_22_1, ↓ogf_256_23, ↓opf_256_23, ↓ogf_256_24, ↓ogf_256_25, ↓opf_256_25_0, ↓opf_256_25_1, ↓ogf_256_26, ↓opf_256_26, ↓ogf_256_27, ↓opf_256_27, ↓ogf_256_28, ↓opf_256_28, ↓ogf_256_29, ↓ogf_256_30, ↓ogf_256_31, ↓ogf_256_32, ↓ogf_256_33, ↓ogf_256_34, ↓oai_257, ↓owi_257, r0, r1]
    rw [l_areSame hr ht hR hT h50 len 0 _ (by omega) (fun q hq => by omega)]
  · have hne : ¬ nI len = nI len2 := fun h => c (nI_inj (by omega) (by omega) h)
    have hb := eqB_f (A := A) (B := B) (len := len) (len2 := len2) (fun z => c z.1)
    simp (disch := first | assumption | omega) only [zi_Model_areSame_0, zi_Model_areSame_1, zi_Model_areSame_4, zi_Model_areSame_5, zi_Model_areSame_6, zi_Model_areSame_7, zi_Model_areSame_10, zi_Model_areSame_11, zi_Model_areSame_12, zi_Model_areSame_15, zi_Model_areSame_16, ↓reduceIte, mj_op_s, Option.toList_some, Option.toList_none, List.cons_append, List.nil_append, hp_1, hp_2, true_and, and_true, zb_0, zb_1, zb_b, va_rf, io_256, ↓ogf_256_0, ↓opf_256_0, ↓ogf_256_1, ↓ogf_256_2, ↓ogf_256_3, ↓ogf_256_4, ↓opf_256_4, ↓ogf_256_5, ↓ogf_256_6, ↓ogf_256_7, ↓opf_256_7, ↓ogf_256_8, ↓opf_256_8, ↓ogf_256_9, ↓opf_256_9, ↓ogf_256_10, ↓opf_256_10, ↓ogf_256_11, ↓ogf_256_12, ↓ogf_256_13, ↓ogf_256_14, ↓ogf_256_15, ↓ogf_256_16, ↓ogf_256_17, ↓opf_256_17, ↓ogf_256_18, ↓opf_256_18, ↓ogf_256_19, ↓ogf_256_20, ↓ogf_256_21, ↓ogf_256_22, ↓opf_256_22_0, ↓opf_256_22_1, ↓ogf_256_23, ↓opf_256_23, ↓ogf_256_24, ↓ogf_256_25, ↓opf_256_25_0, ↓opf_256_25_1, ↓ogf_256_26, ↓opf_256_26, ↓ogf_256_27, ↓opf_256_27, ↓ogf_256_28, ↓opf_256_28, ↓ogf_256_29, ↓ogf_256_30, ↓ogf_256_31, ↓ogf_256_32, ↓ogf_256_33, ↓ogf_256_34, ↓oai_257, ↓owi_257, r0, r1, hne, hb, b1_f]
theorem hasV_ap (h : hasV M W) (hv : sv (mnP W.1) M M') (h6 : rI M' 256 10 = nI (W.1 + 1)) (a : rI M' 262 W.1 = nI x.1) (b : rI M' 263 W.1 = nI x.2.1) (c : rI M' 264 W.1 = nI x.2.2.1) (e : rI M' 265 W.1 = nI x.2.2.2.1) (f : ∀ r, r < 8 → rI M' 266 (8 * W.1 + r) = nI (x.2.2.2.2.1 r) ∧ rL M' 267 (8 * W.1 + r) = x.2.2.2.2.2 r) : hasV M' (wap W x) := by
  refine ⟨h6, fun i hi => ?_⟩
  have hi : i < W.1 + 1 := hi
  unfold wap
  by_cases e1 : i = W.1
  · subst e1
    simp only [if_true]
    exact ⟨a, b, c, e, f⟩
  · simp only [if_neg e1]
    obtain ⟨a1, a2, a3, a4, a5⟩ := h.2 i (by omega)
    exact ⟨(sv_I hv (by unfold mnP; omega)).trans a1, (sv_I hv (by unfold mnP; omega)).trans a2, (sv_I hv (by unfold mnP; omega)).trans a3, (sv_I hv (by unfold mnP; omega)).trans a4, fun r hr => ⟨(sv_I hv (by unfold mnP; omega)).trans (a5 r hr).1, (sv_L hv (by unfold mnP; omega)).trans (a5 r hr).2⟩⟩
theorem l_add (hn : n < 200) {x1 x2 x3 x4 c : Int32} (hend : ∀ M', sv (mnP n) M M' → rI M' 256 10 = nI (n + 1) → (∀ i, 262 ≤ i → i ≤ 265 → rI M' i n = rI M i n) → (∀ r, r < 8 → rI M' 266 (8 * n + r) = c ∧ rL M' 267 (8 * n + r) = 0) → Q none (hp M')) : ∀ (m j : Nat) (M' : mm), j + m = 8 → sv (fun i k => 266 ≤ i ∧ i ≤ 267 ∧ 8 * n ≤ k ∧ k < 8 * n + 8) M M' → rI M' 256 10 = nI n → (∀ r, r < j → rI M' 266 (8 * n + r) = c ∧ rL M' 267 (8 * n + r) = 0) → mj_V d lim mq_Model_add 52 [.ref 256, .int x1, .int x2, .int x3, .int x4, .int c, .int (nI j)] [] (hp M') Q := by
  intro m
  induction m with
  | zero =>
    intro j M' hj hv h10 hc
    obtain rfl : j = 8 := by omega
    rw [zi_Model_add_52]
    simp (decide := true) only [zi_Model_add_54, zi_Model_add_56, zi_Model_add_98, zi_Model_add_99, zi_Model_add_100, zi_Model_add_103, zi_Model_add_104, zi_Model_add_105, zi_Model_add_108, ↓reduceIte, mj_op_s, Option.toList_some, Option.toList_none, List.cons_append, List.nil_append, hp_1, hp_2, true_and, and_true, zb_0, zb_1, zb_b, va_rf, io_256, ↓ogf_256_0, ↓opf_256_0, ↓ogf_256_1, ↓ogf_256_2, ↓ogf_256_3, ↓ogf_256_4, ↓opf_256_4, ↓ogf_256_5, ↓ogf_256_6, ↓ogf_256_7, ↓opf_256_7, ↓ogf_256_8, ↓opf_256_8, ↓ogf_256_9, ↓opf_256_9, ↓ogf_256_10, ↓opf_256_10, ↓ogf_256_11, ↓ogf_256_12, ↓ogf_256_13, ↓ogf_256_14, ↓ogf_256_15, ↓ogf_256_16, ↓ogf_256_17, ↓opf_256_17, ↓ogf_256_18, ↓opf_256_18, ↓ogf_256_19, ↓ogf_256_20, ↓ogf_256_21, ↓ogf_256_22, ↓opf_256_22_0, ↓opf_256_22_1, ↓ogf_256_23, ↓opf_256_23, ↓ogf_256_24, ↓ogf_256_25, ↓opf_256_25_0, ↓opf_256_25_1, ↓ogf_256_26, ↓opf_256_26, ↓ogf_256_27, ↓opf_256_27, ↓ogf_256_28, ↓opf_256_28, ↓ogf_256_29, ↓ogf_256_30, ↓ogf_256_31, ↓ogf_256_32, ↓ogf_256_33, ↓ogf_256_34, h10, nI_add]
    refine hend _ (sv_wI (sv_mono hv (fun i k h => by unfold mnP; omega)) (by unfold mnP; omega)) (by rw [rI_wI, if_pos ⟨rfl, rfl⟩]) (fun i h1 h2 => ?_) (fun r hr => ⟨by rw [rI_wI, if_neg (by omega)]; exact (hc r hr).1, by rw [rL_wI]; exact (hc r hr).2⟩)
    rw [rI_wI, if_neg (by omega)]
    exact sv_I hv (by omega)
  | succ m ih =>
    intro j M' hj hv h10 hc
    have hj8 : j < 8 := by omega
    have e1 : nI j < nI 8 := nI_lt (by omega) (by omega)
    rw [zi_Model_add_52]
    simp (disch := first | assumption | omega) only [zi_Model_add_54, zi_Model_add_56, zi_Model_add_59, zi_Model_add_60, zi_Model_add_63, zi_Model_add_65, zi_Model_add_66, zi_Model_add_69, zi_Model_add_70, zi_Model_add_72, zi_Model_add_73, zi_Model_add_75, zi_Model_add_76, zi_Model_add_77, zi_Model_add_80, zi_Model_add_82, zi_Model_add_83, zi_Model_add_86, zi_Model_add_87, zi_Model_add_89, zi_Model_add_90, zi_Model_add_91, zi_Model_add_92, zi_Model_add_95, ↓reduceIte, mj_op_s, Option.toList_some, Option.toList_none, List.cons_append, List.nil_append, hp_1, hp_2, true_and, and_true, zb_0, zb_1, zb_b, va_rf, io_256, ↓ogf_256_0, ↓opf_256_0, ↓ogf_256_1, ↓ogf_256_2, ↓ogf_256_3, ↓ogf_256_4, ↓opf_256_4, ↓ogf_256_5, ↓ogf_256_6, ↓ogf_256_7, ↓opf_256_7, ↓ogf_256_8, ↓opf_256_8, ↓ogf_256_9, ↓opf_256_9, ↓ogf_256_10, ↓opf_256_10, ↓ogf_256_11, ↓ogf_256_12, ↓ogf_256_13, ↓ogf_256_14, ↓ogf_256_15, ↓ogf_256_16, ↓ogf_256_17, ↓opf_256_17, ↓ogf_256_18, ↓opf_256_18, ↓ogf_256_19, ↓ogf_256_20, ↓ogf_256_21, ↓ogf_256_22, ↓opf_256_22_0, ↓opf_256_22_1, ↓ogf_256_23, ↓opf_256_23, ↓ogf_256_24, ↓ogf_256_25, ↓opf_256_25_0, ↓opf_256_25_1, ↓ogf_256_26, ↓opf_256_26, ↓ogf_256_27, ↓opf_256_27, ↓ogf_256_28, ↓opf_256_28, ↓ogf_256_29, ↓ogf_256_30, ↓ogf_256_31, ↓ogf_256_32, ↓ogf_256_33, ↓ogf_256_34, ↓oai_266, ↓owi_266, ↓oal_267, ↓owl_267, h10, rI_wI, rI_wL, e1, pk_mul, nI_add, Nat.reduceEqDiff, false_and, if_false]
    refine ih (j + 1) _ (by omega) (sv_wL (sv_wI hv (by omega)) (by omega)) (by rw [rI_wL, rI_wI, if_neg (by omega)]; exact h10) (fun r hr => ?_)
    by_cases e : r = j
    · subst e
      exact ⟨by rw [rI_wL, rI_wI, if_pos ⟨rfl, rfl⟩], by rw [rL_wL, if_pos ⟨rfl, rfl⟩]⟩
    · exact ⟨by rw [rI_wL, rI_wI, if_neg (by omega)]; exact (hc r (by omega)).1, by rw [rL_wL, if_neg (by omega), rL_wI]; exact (hc r (by omega)).2⟩
theorem c_Model_add (hw : rI M 256 25 = nI 1) (hV : hasV M W) (hn : W.1 < 200) {f s m e c : Nat} (hend : ∀ M', sv (mnP W.1) M M' → hasV M' (wap W (f, s, m, e, fun _ => c, fun _ => 0)) → Q none (hp M')) : mj_V d lim mq_Model_add 0 [.ref 256, .int (nI f), .int (nI s), .int (nI m), .int (nI e), .int (nI c), mj_j] [] (hp M) Q := by
  have r0 := hV.1
  simp (decide := true) (disch := first | assumption | omega) only [zi_Model_add_0, zi_Model_add_1, zi_Model_add_4, zi_Model_add_7, zi_Model_add_8, zi_Model_add_9, zi_Model_add_12, zi_Model_add_13, zi_Model_add_16, zi_Model_add_17, zi_Model_add_18, zi_Model_add_19, zi_Model_add_22, zi_Model_add_23, zi_Model_add_26, zi_Model_add_27, zi_Model_add_28, zi_Model_add_29, zi_Model_add_32, zi_Model_add_33, zi_Model_add_36, zi_Model_add_37, zi_Model_add_38, zi_Model_add_39, zi_Model_add_42, zi_Model_add_43, zi_Model_add_46, zi_Model_add_48, zi_Model_add_49, zi_Model_add_50, ↓reduceIte, mj_op_s, Option.toList_some, Option.toList_none, List.cons_append, List.nil_append, hp_1, hp_2, true_and, and_true, zb_0, zb_1, zb_b, va_rf, io_256, ↓ogf_256_0, ↓opf_256_0, ↓ogf_256_1, ↓ogf_256_2, ↓ogf_256_3, ↓ogf_256_4, ↓opf_256_4, ↓ogf_256_5, ↓ogf_256_6, ↓ogf_256_7, ↓opf_256_7, ↓ogf_256_8, ↓opf_256_8, ↓ogf_256_9, ↓opf_256_9, ↓ogf_256_10, ↓opf_256_10, ↓ogf_256_11, ↓ogf_256_12, ↓ogf_256_13, ↓ogf_256_14, ↓ogf_256_15, ↓ogf_256_16, ↓ogf_256_17, ↓opf_256_17, ↓ogf_256_18, ↓opf_256_18, ↓ogf_256_19, ↓ogf_256_20, ↓ogf_256_21, ↓ogf_256_22, ↓opf_256_22_0, ↓opf_256_22_1, ↓ogf_256_23, ↓opf_256_23, ↓ogf_256_24, ↓ogf_256_25, ↓opf_256_25_0, ↓opf_256_25_1, ↓ogf_256_26, ↓opf_256_26, ↓ogf_256_27, ↓opf_256_27, ↓ogf_256_28, ↓opf_256_28, ↓ogf_256_29, ↓ogf_256_30, ↓ogf_256_31, ↓ogf_256_32, ↓ogf_256_33, ↓ogf_256_34, ↓oai_262, ↓owi_262, ↓oai_263, ↓owi_263, ↓oai_264, ↓owi_264, ↓oai_265, ↓owi_265, hw, r0, rI_wI, false_and, if_false]
  have hv1 : sv (mnP W.1) M (wI (wI (wI (wI M 262 W.1 (nI f)) 263 W.1 (nI s)) 264 W.1 (nI m)) 265 W.1 (nI e)) := sv_wI (sv_wI (sv_wI (sv_wI sv_refl (by unfold mnP; omega)) (by unfold mnP; omega)) (by unfold mnP; omega)) (by unfold mnP; omega)
  have g0 : rI (wI (wI (wI (wI M 262 W.1 (nI f)) 263 W.1 (nI s)) 264 W.1 (nI m)) 265 W.1 (nI e)) 256 10 = nI W.1 := by
    rw [rI_wI, if_neg (by omega), rI_wI, if_neg (by omega), rI_wI, if_neg (by omega), rI_wI, if_neg (by omega)]; exact r0
  refine l_add (M := wI (wI (wI (wI M 262 W.1 (nI f)) 263 W.1 (nI s)) 264 W.1 (nI m)) 265 W.1 (nI e)) hn (fun M' hv h10 ho hc => ?_) 8 0 _ (by omega) sv_refl g0 (fun r hr => by omega)
  refine hend M' (sv_trans hv1 hv) (hasV_ap hV (sv_trans hv1 hv) h10 ?_ ?_ ?_ ?_ (fun r hr => hc r hr))
  · rw [ho 262 (by omega) (by omega), rI_wI, if_neg (by omega), rI_wI, if_neg (by omega), rI_wI, if_neg (by omega), rI_wI, if_pos ⟨rfl, rfl⟩]
  · rw [ho 263 (by omega) (by omega), rI_wI, if_neg (by omega), rI_wI, if_neg (by omega), rI_wI, if_pos ⟨rfl, rfl⟩]
  · rw [ho 264 (by omega) (by omega), rI_wI, if_neg (by omega), rI_wI, if_pos ⟨rfl, rfl⟩]
  · rw [ho 265 (by omega) (by omega), rI_wI, if_pos ⟨rfl, rfl⟩]
/-- with or without a witness -/
theorem c_Model_add2 (hw : rI M 256 25 = b1 wf) (hV : wf = true → hasV M W) (hn : W.1 < 200) {f s m e c : Nat} (hend : ∀ M', sv (fun i k => wf = true ∧ mnP W.1 i k) M M' → (wf = true → hasV M' (wap W (f, s, m, e, fun _ => c, fun _ => 0))) → Q none (hp M')) : mj_V d lim mq_Model_add 0 [.ref 256, .int (nI f), .int (nI s), .int (nI m), .int (nI e), .int (nI c), mj_j] [] (hp M) Q := by
  cases wf with
  | true => exact c_Model_add hw (hV rfl) hn (fun M' hv h => hend M' (sv_mono hv (fun i k h => ⟨rfl, h⟩)) (fun _ => h))
  | false =>
    have hw : rI M 256 25 = nI 0 := hw
    simp (decide := true) (disch := first | assumption | omega) only [zi_Model_add_0, zi_Model_add_1, zi_Model_add_4, zi_Model_add_7, ↓reduceIte, mj_op_s, Option.toList_some, Option.toList_none, List.cons_append, List.nil_append, hp_1, hp_2, true_and, and_true, zb_0, zb_1, zb_b, va_rf, io_256, ↓ogf_256_0, ↓opf_256_0, ↓ogf_256_1, ↓ogf_256_2, ↓ogf_256_3, ↓ogf_256_4, ↓opf_256_4, ↓ogf_256_5, ↓ogf_256_6, ↓ogf_256_7, ↓opf_256_7, ↓ogf_256_8, ↓opf_256_8, ↓ogf_256_9, ↓opf_256_9, ↓ogf_256_10, ↓opf_256_10, ↓ogf_256_11, ↓ogf_256_12, ↓ogf_256_13, ↓ogf_256_14, ↓ogf_256_15, ↓ogf_256_16, ↓ogf_256_17, ↓opf_256_17, ↓ogf_256_18, ↓opf_256_18, ↓ogf_256_19, ↓ogf_256_20, ↓ogf_256_21, ↓ogf_256_22, ↓opf_256_22_0, ↓opf_256_22_1, ↓ogf_256_23, ↓opf_256_23, ↓ogf_256_24, ↓ogf_256_25, ↓opf_256_25_0, ↓opf_256_25_1, ↓ogf_256_26, ↓opf_256_26, ↓ogf_256_27, ↓opf_256_27, ↓ogf_256_28, ↓opf_256_28, ↓ogf_256_29, ↓ogf_256_30, ↓ogf_256_31, ↓ogf_256_32, ↓ogf_256_33, ↓ogf_256_34, hw]
    exact hend M sv_refl (fun z => by cases z)
theorem mn_mw (hn : n < 200) (h : sv (fun i k => wf = true ∧ mnP n i k) M M') : sv (mwP wf) M M' := sv_mono h (fun i k h => ⟨h.1, by have := h.2; unfold mnP at this; omega⟩)
end C84
