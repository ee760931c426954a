/-! contracts: Runner -/
abbrev RSt : Type := Nat × (Nat → Int64) × Nat × (Nat → Int64)
def cz (x : Int32) : Nat := x.toNatClampNeg
theorem cz_n {j : Nat} (h : j < 2 ^ 31) : cz (nI j) = j := nI_clamp h
/-- one act: 0 it goes on, 1 and 2 it stops -/
def rSt (len : Nat) (A : Nat → Nat → Int32) (fed : Nat) (fd : Nat → Int64) (s : RSt) : Nat × RSt :=
  if A s.1 0 = nI 0 then (0, s.1 + 1, s.2) else
  if A s.1 0 = nI 1 then (0, s.1 + 1, vp_updL s.2.1 (cz (A s.1 1)) (A s.1 2).toInt64, s.2.2) else
  if A s.1 0 = nI 2 then (0, s.1 + 1, vp_updL s.2.1 (cz (A s.1 1)) (s.2.1 (cz (A s.1 2))), s.2.2) else
  if A s.1 0 = nI 10 then (if s.2.1 (cz (A s.1 2)) < 0 ∨ ¬ s.2.1 (cz (A s.1 2)) < lN fed then (2, s) else (0, s.1 + 1, vp_updL s.2.1 (cz (A s.1 1)) (fd (cz (s.2.1 (cz (A s.1 2))).toInt32)), s.2.2)) else
  if A s.1 0 = nI 11 then (0, s.1 + 1, s.2.1, s.2.2.1 + 1, if s.2.2.1 < 200 then vp_updL s.2.2.2 s.2.2.1 (s.2.1 (cz (A s.1 1))) else s.2.2.2) else
  if A s.1 0 = nI 12 then (0, (if cz (A s.1 2) < len then cz (A s.1 2) else len), s.2) else
  if A s.1 0 = nI 13 then (0, (if s.2.1 (cz (A s.1 1)) = 0 then s.1 + 1 else if cz (A s.1 2) < len then cz (A s.1 2) else len), s.2) else
  if A s.1 0 = nI 14 then (0, len, s.2) else
  if (A s.1 0 = nI 6 ∨ A s.1 0 = nI 7) ∧ s.2.1 (cz (A s.1 3)) = 0 then (1, s) else (0, s.1 + 1, vp_updL s.2.1 (cz (A s.1 1)) (reck (A s.1 0) (s.2.1 (cz (A s.1 2))) (s.2.1 (cz (A s.1 3)))), s.2.2)
/-- the memory with a run's state in it -/
def rnM (M : mm) (did : Nat) (s : RSt) : mm := (fun i k => if i = 227 ∧ k = 4 then nI s.2.2.1 else if i = 227 ∧ k = 5 then nI did else if i = 227 ∧ k = 6 then nI s.1 else rI M i k, fun i k => if i = 229 ∧ k < 8 then s.2.1 k else if i = 230 ∧ k < 200 then s.2.2.2 k else rL M i k, M.2.2)
section C44
variable {d : Nat} {lim : Nat × Nat} {Q : mj_Q} {M : mm} {o len fed did p n : Nat} {A : Nat → Nat → Int32} {g out : Nat → Int64} {s : RSt}
theorem rn_I {i k : Nat} : rI (rnM M did s) i k = if i = 227 ∧ k = 4 then nI s.2.2.1 else if i = 227 ∧ k = 5 then nI did else if i = 227 ∧ k = 6 then nI s.1 else rI M i k := rfl
theorem rn_L {i k : Nat} : rL (rnM M did s) i k = if i = 229 ∧ k < 8 then s.2.1 k else if i = 230 ∧ k < 200 then s.2.2.2 k else rL M i k := rfl
theorem rn_I4 : rI (rnM M did (p, g, n, out)) 227 4 = nI n := rfl
theorem rn_I5 : rI (rnM M did (p, g, n, out)) 227 5 = nI did := rfl
theorem rn_I6 : rI (rnM M did (p, g, n, out)) 227 6 = nI p := rfl
theorem rn_I1 : rI (rnM M did s) 227 1 = rI M 227 1 := rfl
theorem rn_Io {i k : Nat} (h : i ≠ 227) : rI (rnM M did s) i k = rI M i k := by rw [rn_I]; simp only [h, false_and, if_false]
theorem rn_Lg {k : Nat} (h : k < 8) : rL (rnM M did (p, g, n, out)) 229 k = g k := by rw [rn_L]; simp only [h, true_and, if_true]
theorem rn_Lf {k : Nat} : rL (rnM M did s) 228 k = rL M 228 k := rfl
theorem rn_w6 {q : Nat} : wI (rnM M did (p, g, n, out)) 227 6 (nI q) = rnM M did (q, g, n, out) := by
  refine mm_ext (fun i k => ?_) (fun _ _ => rfl) (fun _ _ => rfl) rfl
  rw [rI_wI, rn_I, rn_I]
  by_cases h : i = 227 ∧ k = 6
  · obtain ⟨rfl, rfl⟩ := h; rfl
  · simp only [h, if_false]
theorem rn_w5 {q : Nat} : wI (rnM M did s) 227 5 (nI q) = rnM M q s := by
  refine mm_ext (fun i k => ?_) (fun _ _ => rfl) (fun _ _ => rfl) rfl
  rw [rI_wI, rn_I, rn_I]
  by_cases h : i = 227 ∧ k = 5
  · obtain ⟨rfl, rfl⟩ := h; rfl
  · simp only [h, if_false]
theorem rn_w4 {q : Nat} : wI (rnM M did (p, g, n, out)) 227 4 (nI q) = rnM M did (p, g, q, out) := by
  refine mm_ext (fun i k => ?_) (fun _ _ => rfl) (fun _ _ => rfl) rfl
  rw [rI_wI, rn_I, rn_I]
  by_cases h : i = 227 ∧ k = 4
  · obtain ⟨rfl, rfl⟩ := h; rfl
  · simp only [h, if_false]
theorem rn_wg {x : Nat} {v : Int64} (h : x < 8) : wL (rnM M did (p, g, n, out)) 229 x v = rnM M did (p, vp_updL g x v, n, out) := by
  refine mm_ext (fun _ _ => rfl) (fun i k => ?_) (fun _ _ => rfl) rfl
  rw [rL_wL, rn_L, rn_L]
  by_cases h1 : i = 229 ∧ k = x
  · obtain ⟨rfl, rfl⟩ := h1; simp [h, vp_updL]
  · rw [if_neg h1]
    by_cases h2 : i = 229 ∧ k < 8
    · rw [if_pos h2, if_pos h2]
      have : k ≠ x := fun z => h1 ⟨h2.1, z⟩
      simp [vp_updL, this]
    · rw [if_neg h2, if_neg h2]
theorem rn_wo {x : Nat} {v : Int64} (h : x < 200) : wL (rnM M did (p, g, n, out)) 230 x v = rnM M did (p, g, n, vp_updL out x v) := by
  refine mm_ext (fun _ _ => rfl) (fun i k => ?_) (fun _ _ => rfl) rfl
  rw [rL_wL, rn_L, rn_L]
  by_cases h1 : i = 230 ∧ k = x
  · obtain ⟨rfl, rfl⟩ := h1; simp [h, vp_updL]
  · rw [if_neg h1]
    by_cases h2 : i = 229 ∧ k < 8
    · rw [if_pos h2, if_pos h2]
    · rw [if_neg h2, if_neg h2]
      by_cases h3 : i = 230 ∧ k < 200
      · rw [if_pos h3, if_pos h3]
        have : k ≠ x := fun z => h1 ⟨h3.1, z⟩
        simp [vp_updL, this]
      · rw [if_neg h3, if_neg h3]
theorem c_Runner_addToFeed {f : Nat} (hf : rI M 227 1 = nI f) (hf2 : f ≤ 16) {v : Int64} : mj_V d lim mq_Runner_addToFeed 0 [.ref 227, .long v, mj_j] [] (hp M) Q ↔ if f = 16 then Q (some (.int (nI 0))) (hp M) else Q (some (.int (nI 1))) (hp (wI (wL M 228 f v) 227 1 (nI (f + 1)))) := by
  by_cases h : f = 16
  · subst h
    simp (disch := omega) only [zi_Runner_addToFeed_0, zi_Runner_addToFeed_1, zi_Runner_addToFeed_4, zi_Runner_addToFeed_6, zi_Runner_addToFeed_9, zi_Runner_addToFeed_10, zi_Runner_addToFeed_11, zi_Runner_addToFeed_12, zi_Runner_addToFeed_15, zi_Runner_addToFeed_16, zi_Runner_addToFeed_19, zi_Runner_addToFeed_20, zi_Runner_addToFeed_21, zi_Runner_addToFeed_22, zi_Runner_addToFeed_23, zi_Runner_addToFeed_26, zi_Runner_addToFeed_27, zi_Runner_addToFeed_28, zi_Runner_addToFeed_31, zi_Runner_addToFeed_32, ↓reduceIte, mj_op_s, Option.toList_some, Option.toList_none, List.cons_append, List.nil_append, hp_1, hp_2, true_and, and_true, zb_0, zb_1, zb_b, va_rf, io_227, ↓ogf_227_0, ↓ogf_227_1, ↓opf_227_1, ↓ogf_227_2, ↓ogf_227_3, ↓ogf_227_4, ↓opf_227_4, ↓ogf_227_5, ↓opf_227_5, ↓ogf_227_6, ↓opf_227_6, hf, nI_ltI, Nat.lt_irrefl, if_false, if_true]
  · have h2 : f < 16 := by omega
    have e1 : nI f < nI 16 := nI_lt h2 (by omega)
    simp (disch := omega) only [zi_Runner_addToFeed_0, zi_Runner_addToFeed_1, zi_Runner_addToFeed_4, zi_Runner_addToFeed_6, zi_Runner_addToFeed_9, zi_Runner_addToFeed_10, zi_Runner_addToFeed_11, zi_Runner_addToFeed_12, zi_Runner_addToFeed_15, zi_Runner_addToFeed_16, zi_Runner_addToFeed_19, zi_Runner_addToFeed_20, zi_Runner_addToFeed_21, zi_Runner_addToFeed_22, zi_Runner_addToFeed_23, zi_Runner_addToFeed_26, zi_Runner_addToFeed_27, zi_Runner_addToFeed_28, zi_Runner_addToFeed_31, zi_Runner_addToFeed_32, ↓reduceIte, mj_op_s, Option.toList_some, Option.toList_none, List.cons_append, List.nil_append, hp_1, hp_2, true_and, and_true, zb_0, zb_1, zb_b, va_rf, io_227, ↓ogf_227_0, ↓ogf_227_1, ↓opf_227_1, ↓ogf_227_2, ↓ogf_227_3, ↓ogf_227_4, ↓opf_227_4, ↓ogf_227_5, ↓opf_227_5, ↓ogf_227_6, ↓opf_227_6, ↓oal_228, ↓owl_228, hf, e1, if_false, if_true, h, rI_wL, nI_add]
theorem c_Runner_giveOut (hn : n < 2 ^ 30) {v : Int64} : mj_V d lim mq_Runner_giveOut 0 [.ref 227, .long v, mj_j] [] (hp (rnM M did (p, g, n, out))) Q ↔ Q none (hp (rnM M did (p, g, n + 1, if n < 200 then vp_updL out n v else out))) := by
  by_cases h : n < 200
  · have e1 : nI n < nI 200 := nI_lt h (by omega)
    simp (disch := omega) only [zi_Runner_giveOut_0, zi_Runner_giveOut_1, zi_Runner_giveOut_4, zi_Runner_giveOut_7, zi_Runner_giveOut_10, zi_Runner_giveOut_11, zi_Runner_giveOut_14, zi_Runner_giveOut_15, zi_Runner_giveOut_18, zi_Runner_giveOut_19, zi_Runner_giveOut_20, zi_Runner_giveOut_21, zi_Runner_giveOut_22, zi_Runner_giveOut_25, zi_Runner_giveOut_26, zi_Runner_giveOut_27, zi_Runner_giveOut_30, ↓reduceIte, mj_op_s, Option.toList_some, Option.toList_none, List.cons_append, List.nil_append, hp_1, hp_2, true_and, and_true, zb_0, zb_1, zb_b, va_rf, io_227, ↓ogf_227_0, ↓ogf_227_1, ↓opf_227_1, ↓ogf_227_2, ↓ogf_227_3, ↓ogf_227_4, ↓opf_227_4, ↓ogf_227_5, ↓opf_227_5, ↓ogf_227_6, ↓opf_227_6, ↓oal_230, ↓owl_230, rn_I4, e1, if_true, h, rn_wo, nI_add, rn_w4]
  · have e1 : ¬ nI n < nI 200 := nI_nlt (by omega) (by omega)
    simp (disch := omega) only [zi_Runner_giveOut_0, zi_Runner_giveOut_1, zi_Runner_giveOut_4, zi_Runner_giveOut_7, zi_Runner_giveOut_10, zi_Runner_giveOut_11, zi_Runner_giveOut_14, zi_Runner_giveOut_15, zi_Runner_giveOut_18, zi_Runner_giveOut_19, zi_Runner_giveOut_20, zi_Runner_giveOut_21, zi_Runner_giveOut_22, zi_Runner_giveOut_25, zi_Runner_giveOut_26, zi_Runner_giveOut_27, zi_Runner_giveOut_30, ↓reduceIte, mj_op_s, Option.toList_some, Option.toList_none, List.cons_append, List.nil_append, hp_1, hp_2, true_and, and_true, zb_0, zb_1, zb_b, va_rf, io_227, ↓ogf_227_0, ↓ogf_227_1, ↓opf_227_1, ↓ogf_227_2, ↓ogf_227_3, ↓ogf_227_4, ↓opf_227_4, ↓ogf_227_5, ↓opf_227_5, ↓ogf_227_6, ↓opf_227_6, ↓oal_230, ↓owl_230, rn_I4, e1, if_false, h, nI_add, rn_w4]
theorem lN_ofI {v : Int64} {f : Nat} (h1 : ¬ v < 0) (h2 : v < lN f) (hf : f ≤ 16) : ∃ j, j < f ∧ v.toInt32 = nI j := by
  obtain ⟨j, hj, rfl⟩ := pk_lOf h1
  have := (pk_lLT hj (by omega)).mp h2
  exact ⟨j, this, lN_i j⟩
theorem c_Runner_readInto (hfd : rI M 227 1 = nI fed) (hf2 : fed ≤ 16) {x : Nat} (hx : x < 8) {v : Int64} : mj_V d lim mq_Runner_readInto 0 [.ref 227, .int (nI x), .long v, mj_j] [] (hp (rnM M did (p, g, n, out))) Q ↔ if v < 0 ∨ ¬ v < lN fed then Q (some (.int (nI 2))) (hp (rnM M did (p, g, n, out))) else Q (some (.int (nI 4))) (hp (rnM M did (p + 1, vp_updL g x (rL M 228 (cz v.toInt32)), n, out))) := by
  have e0 : (nI fed).toInt64 = lN fed := nI_l (by omega)
  by_cases h1 : v < 0
  · simp only [zi_Runner_readInto_0, zi_Runner_readInto_1, zi_Runner_readInto_2, zi_Runner_readInto_3, zi_Runner_readInto_6, zi_Runner_readInto_7, zi_Runner_readInto_8, zi_Runner_readInto_11, zi_Runner_readInto_12, zi_Runner_readInto_13, zi_Runner_readInto_16, zi_Runner_readInto_17, zi_Runner_readInto_18, zi_Runner_readInto_19, zi_Runner_readInto_22, zi_Runner_readInto_23, zi_Runner_readInto_24, zi_Runner_readInto_27, zi_Runner_readInto_28, zi_Runner_readInto_29, zi_Runner_readInto_30, zi_Runner_readInto_31, zi_Runner_readInto_32, zi_Runner_readInto_33, zi_Runner_readInto_36, zi_Runner_readInto_37, zi_Runner_readInto_38, zi_Runner_readInto_41, zi_Runner_readInto_42, ↓reduceIte, mj_op_s, Option.toList_some, Option.toList_none, List.cons_append, List.nil_append, hp_1, hp_2, true_and, and_true, zb_0, zb_1, zb_b, va_rf, lgc_lt, h1, if_true, true_or]
  · by_cases h2 : v < lN fed
    · obtain ⟨j, hj, e⟩ := lN_ofI h1 h2 hf2
      have hj16 : j < 16 := by omega
      have ej : cz (nI j) = j := cz_n (by omega)
      simp (disch := omega) only [zi_Runner_readInto_0, zi_Runner_readInto_1, zi_Runner_readInto_2, zi_Runner_readInto_3, zi_Runner_readInto_6, zi_Runner_readInto_7, zi_Runner_readInto_8, zi_Runner_readInto_11, zi_Runner_readInto_12, zi_Runner_readInto_13, zi_Runner_readInto_16, zi_Runner_readInto_17, zi_Runner_readInto_18, zi_Runner_readInto_19, zi_Runner_readInto_22, zi_Runner_readInto_23, zi_Runner_readInto_24, zi_Runner_readInto_27, zi_Runner_readInto_28, zi_Runner_readInto_29, zi_Runner_readInto_30, zi_Runner_readInto_31, zi_Runner_readInto_32, zi_Runner_readInto_33, zi_Runner_readInto_36, zi_Runner_readInto_37, zi_Runner_readInto_38, zi_Runner_readInto_41, zi_Runner_readInto_42, ↓reduceIte, mj_op_s, Option.toList_some, Option.toList_none, List.cons_append, List.nil_append, hp_1, hp_2, true_and, and_true, zb_0, zb_1, zb_b, va_rf, io_227, ↓ogf_227_0, ↓ogf_227_1, ↓opf_227_1, ↓ogf_227_2, ↓ogf_227_3, ↓ogf_227_4, ↓opf_227_4, ↓ogf_227_5, ↓opf_227_5, ↓ogf_227_6, ↓opf_227_6, ↓oal_228, ↓owl_228, ↓oal_229, ↓owl_229, lgc_lt, h1, h2, rn_I1, hfd, e0, e, ej, rn_Lf, rn_wg, rn_I6, nI_add, rn_w6, if_false, if_true, not_true_eq_false, or_self]
    · simp (disch := omega) only [zi_Runner_readInto_0, zi_Runner_readInto_1, zi_Runner_readInto_2, zi_Runner_readInto_3, zi_Runner_readInto_6, zi_Runner_readInto_7, zi_Runner_readInto_8, zi_Runner_readInto_11, zi_Runner_readInto_12, zi_Runner_readInto_13, zi_Runner_readInto_16, zi_Runner_readInto_17, zi_Runner_readInto_18, zi_Runner_readInto_19, zi_Runner_readInto_22, zi_Runner_readInto_23, zi_Runner_readInto_24, zi_Runner_readInto_27, zi_Runner_readInto_28, zi_Runner_readInto_29, zi_Runner_readInto_30, zi_Runner_readInto_31, zi_Runner_readInto_32, zi_Runner_readInto_33, zi_Runner_readInto_36, zi_Runner_readInto_37, zi_Runner_readInto_38, zi_Runner_readInto_41, zi_Runner_readInto_42, ↓reduceIte, mj_op_s, Option.toList_some, Option.toList_none, List.cons_append, List.nil_append, hp_1, hp_2, true_and, and_true, zb_0, zb_1, zb_b, va_rf, io_227, ↓ogf_227_0, ↓ogf_227_1, ↓opf_227_1, ↓ogf_227_2, ↓ogf_227_3, ↓ogf_227_4, ↓opf_227_4, ↓ogf_227_5, ↓opf_227_5, ↓ogf_227_6, ↓opf_227_6, lgc_lt, h1, h2, rn_I1, hfd, e0, if_false, not_false_eq_true, or_true, if_true]
theorem c_Runner_reckonInto {x : Nat} (hx : x < 8) {a : Int32} {y z : Int64} : mj_V (d + 1) lim mq_Runner_reckonInto 0 [.ref 227, .int (nI x), .int a, .long y, mj_j, .long z, mj_j] [] (hp (rnM M did (p, g, n, out))) Q ↔ if (a = nI 6 ∨ a = nI 7) ∧ z = 0 then Q (some (.int (nI 1))) (hp (rnM M did (p, g, n, out))) else Q (some (.int (nI 4))) (hp (rnM M did (p + 1, vp_updL g x (reck a y z), n, out))) := by
  by_cases h1 : a = nI 6 ∨ a = nI 7
  · by_cases h2 : z = 0
    · simp only [zi_Runner_reckonInto_0, zi_Runner_reckonInto_1, zi_Runner_reckonInto_4, zi_Runner_reckonInto_7, zi_Runner_reckonInto_9, zi_Runner_reckonInto_10, zi_Runner_reckonInto_11, zi_Runner_reckonInto_14, zi_Runner_reckonInto_15, zi_Runner_reckonInto_16, zi_Runner_reckonInto_17, zi_Runner_reckonInto_20, zi_Runner_reckonInto_21, zi_Runner_reckonInto_22, zi_Runner_reckonInto_23, zi_Runner_reckonInto_25, zi_Runner_reckonInto_28, zi_Runner_reckonInto_29, zi_Runner_reckonInto_30, zi_Runner_reckonInto_31, zi_Runner_reckonInto_34, zi_Runner_reckonInto_35, zi_Runner_reckonInto_36, zi_Runner_reckonInto_39, zi_Runner_reckonInto_40, ↓reduceIte, mj_op_s, Option.toList_some, Option.toList_none, List.cons_append, List.nil_append, hp_1, hp_2, true_and, and_true, zb_0, zb_1, zb_b, va_rf, c_Code_isDivision, bI_0, lgc_eq, h1, h2, not_true_eq_false, if_false, if_true, and_self]
    · simp (disch := omega) only [zi_Runner_reckonInto_0, zi_Runner_reckonInto_1, zi_Runner_reckonInto_4, zi_Runner_reckonInto_7, zi_Runner_reckonInto_9, zi_Runner_reckonInto_10, zi_Runner_reckonInto_11, zi_Runner_reckonInto_14, zi_Runner_reckonInto_15, zi_Runner_reckonInto_16, zi_Runner_reckonInto_17, zi_Runner_reckonInto_20, zi_Runner_reckonInto_21, zi_Runner_reckonInto_22, zi_Runner_reckonInto_23, zi_Runner_reckonInto_25, zi_Runner_reckonInto_28, zi_Runner_reckonInto_29, zi_Runner_reckonInto_30, zi_Runner_reckonInto_31, zi_Runner_reckonInto_34, zi_Runner_reckonInto_35, zi_Runner_reckonInto_36, zi_Runner_reckonInto_39, zi_Runner_reckonInto_40, ↓reduceIte, mj_op_s, Option.toList_some, Option.toList_none, List.cons_append, List.nil_append, hp_1, hp_2, true_and, and_true, zb_0, zb_1, zb_b, va_rf, io_227, ↓ogf_227_0, ↓ogf_227_1, ↓opf_227_1, ↓ogf_227_2, ↓ogf_227_3, ↓ogf_227_4, ↓opf_227_4, ↓ogf_227_5, ↓opf_227_5, ↓ogf_227_6, ↓opf_227_6, ↓oal_229, ↓owl_229, c_Code_isDivision, c_Code_reckon, bI_0, lgc_eq, h1, h2, not_true_eq_false, if_false, and_false, rn_wg, rn_I6, nI_add, rn_w6]
  · simp (disch := omega) only [zi_Runner_reckonInto_0, zi_Runner_reckonInto_1, zi_Runner_reckonInto_4, zi_Runner_reckonInto_7, zi_Runner_reckonInto_9, zi_Runner_reckonInto_10, zi_Runner_reckonInto_11, zi_Runner_reckonInto_14, zi_Runner_reckonInto_15, zi_Runner_reckonInto_16, zi_Runner_reckonInto_17, zi_Runner_reckonInto_20, zi_Runner_reckonInto_21, zi_Runner_reckonInto_22, zi_Runner_reckonInto_23, zi_Runner_reckonInto_25, zi_Runner_reckonInto_28, zi_Runner_reckonInto_29, zi_Runner_reckonInto_30, zi_Runner_reckonInto_31, zi_Runner_reckonInto_34, zi_Runner_reckonInto_35, zi_Runner_reckonInto_36, zi_Runner_reckonInto_39, zi_Runner_reckonInto_40, ↓reduceIte, mj_op_s, Option.toList_some, Option.toList_none, List.cons_append, List.nil_append, hp_1, hp_2, true_and, and_true, zb_0, zb_1, zb_b, va_rf, io_227, ↓ogf_227_0, ↓ogf_227_1, ↓opf_227_1, ↓ogf_227_2, ↓ogf_227_3, ↓ogf_227_4, ↓opf_227_4, ↓ogf_227_5, ↓opf_227_5, ↓ogf_227_6, ↓opf_227_6, ↓oal_229, ↓owl_229, c_Code_isDivision, c_Code_reckon, bI_0, lgc_eq, h1, not_false_eq_true, if_true, if_false, false_and, rn_wg, rn_I6, nI_add, rn_w6]
end C44
