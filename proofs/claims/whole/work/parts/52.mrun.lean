/-! contracts: Model.run whole -/
abbrev inN (x : Int32) (n : Nat) : Prop := ¬ x < nI 0 ∧ x < nI n
theorem inN_n {x : Int32} {n : Nat} (hn : n < 2 ^ 31) (h : inN x n) : ∃ r, r < n ∧ x = nI r := by
  obtain ⟨j, hj, rfl⟩ := nI_of (x := x) (by have := h.1; rwa [nI_0] at this)
  exact ⟨j, (nI_ltI hj hn).mp h.2, rfl⟩
theorem inN_i {r n : Nat} (hn : n < 2 ^ 31) (h : r < n) : inN (nI r) n := ⟨by rw [nI_0]; exact nI_pos (by omega), nI_lt h hn⟩
theorem inM_iff {x : Int32} {n : Nat} (hn : n < 2 ^ 30) : (¬ x < nI 0 ∧ ¬ nI n - nI 1 < x) ↔ inN x n := by
  have e1 := pk_sub_toInt (a := n) (b := 1) hn (by omega)
  have e2 := nI_toInt (n := n) (by omega)
  have e3 := nI_toInt (n := 0) (by omega)
  simp only [inN, Int32.lt_iff_toInt_lt, e1, e2, e3]
  omega
section C52
variable {d : Nat} {lim : Nat × Nat} {Q : mj_Q} {M : mm} {r len fed did p n : Nat} {A : Nat → Nat → Int32} {g out : Nat → Int64} {s : RSt}
theorem l_Model_run_exit {h : Nat} (hh : h = 1 ∨ h = 2 ∨ h = 3) (hr : r < 44) (hl : rI M 257 r = nI len) (hp0 : s.1 < len) (h50 : len ≤ 50) {fu : Int32} {x5 x6 x7 x8 x9 : Value} : mj_V d lim mq_Model_run 57 [.ref 256, .int (nI r), .int fu, .int (nI s.1), .int (nI h), x5, x6, x7, x8, x9] [] (hp (rnN M did s)) Q ↔ Q (some (.int (nI h))) (hp (wI (rnN M did s) 256 9 (nI s.1))) := by
  have r0 : rI (rnN M did s) 257 r = nI len := (rm_Io (by omega)).trans hl
  have e2 : nI s.1 < nI len := nI_lt hp0 (by omega)
  have e3 : ¬ nI h = nI 0 := by rcases hh with rfl | rfl | rfl <;> decide
  rw [zi_Model_run_57]
  simp (disch := omega) only [zi_Model_run_58, zi_Model_run_59, zi_Model_run_62, zi_Model_run_63, zi_Model_run_64, zi_Model_run_67, zi_Model_run_69, zi_Model_run_425, zi_Model_run_426, zi_Model_run_427, zi_Model_run_430, zi_Model_run_432, ↓reduceIte, mj_op_s, Option.toList_some, Option.toList_none, List.cons_append, List.nil_append, hp_1, hp_2, true_and, and_true, zb_0, zb_1, zb_b, va_rf, io_256, ↓ogf_256_0, ↓opf_256_0, ↓ogf_256_1, ↓ogf_256_2, ↓ogf_256_3, ↓ogf_256_4, ↓opf_256_4, ↓ogf_256_5, ↓ogf_256_6, ↓ogf_256_7, ↓opf_256_7, ↓ogf_256_8, ↓opf_256_8, ↓ogf_256_9, ↓opf_256_9, ↓ogf_256_10, ↓opf_256_10, ↓ogf_256_11, ↓ogf_256_12, ↓ogf_256_13, ↓ogf_256_14, ↓ogf_256_15, ↓ogf_256_16, ↓ogf_256_17, ↓opf_256_17, ↓ogf_256_18, ↓opf_256_18, ↓ogf_256_19, ↓ogf_256_20, ↓ogf_256_21, ↓ogf_256_22, ↓opf_256_22_0, ↓opf_256_22_1, ↓ogf_256_23, ↓opf_256_23, ↓ogf_256_24, ↓ogf_256_25, ↓opf_256_25_0, ↓opf_256_25_1, ↓ogf_256_26, ↓opf_256_26, ↓ogf_256_27, ↓opf_256_27, ↓ogf_256_28, ↓opf_256_28, ↓ogf_256_29, ↓ogf_256_30, ↓ogf_256_31, ↓ogf_256_32, ↓ogf_256_33, ↓ogf_256_34, ↓oai_257, ↓owi_257, r0, e2, e3]
theorem l_Model_run (hr : r < 44) (hR : hasM M r len A) (hok : okR len A) (hfd : rI M 256 4 = nI fed) (hf2 : fed ≤ 16) {fuel : Nat} (hfu : fuel ≤ 100000) : ∀ (f did : Nat) (s : RSt), did + f = fuel → s.1 ≤ len → s.2.2.1 ≤ did → ∀ x5 x6 x7 x8 x9 : Value, (mj_V (d + 2) lim mq_Model_run 57 [.ref 256, .int (nI r), .int (nI fuel), .int (nI s.1), .int (nI 0), x5, x6, x7, x8, x9] [] (hp (rnN M did s)) Q ↔ Q (some (.int (nI (rGo len A fed (rL M 259) f s did).1))) (hp (wI (rnN M (rGo len A fed (rL M 259) f s did).2.1 (rGo len A fed (rL M 259) f s did).2.2) 256 9 (nI (rGo len A fed (rL M 259) f s did).2.2.1)))) := by
  have h50 := hok.1
  intro f
  induction f with
  | zero =>
    intro did s hf hs hn x5 x6 x7 x8 x9
    have r0 : ∀ did s, rI (rnN M did s) 257 r = nI len := fun did s => (rm_Io (by omega)).trans hR.1
    obtain rfl : did = fuel := by omega
    by_cases h2 : s.1 < len
    · have e2 : nI s.1 < nI len := nI_lt h2 (by omega)
      simp only [rGo, h2, if_true]
      refine Iff.trans ?_ (l_Model_run_exit (d := d + 2) (lim := lim) (Q := Q) (did := did) (x5 := x5) (x6 := x6) (x7 := x7) (x8 := x8) (x9 := x9) (fu := nI did) (Or.inr (Or.inr rfl)) hr hR.1 h2 h50)
      rw [zi_Model_run_57]
      simp (disch := omega) only [zi_Model_run_58, zi_Model_run_59, zi_Model_run_62, zi_Model_run_63, zi_Model_run_64, zi_Model_run_67, zi_Model_run_69, zi_Model_run_72, zi_Model_run_73, zi_Model_run_76, zi_Model_run_77, zi_Model_run_80, zi_Model_run_81, zi_Model_run_83, ↓reduceIte, mj_op_s, Option.toList_some, Option.toList_none, List.cons_append, List.nil_append, hp_1, hp_2, true_and, and_true, zb_0, zb_1, zb_b, va_rf, io_256, ↓ogf_256_0, ↓opf_256_0, ↓ogf_256_1, ↓ogf_256_2, ↓ogf_256_3, ↓ogf_256_4, ↓opf_256_4, ↓ogf_256_5, ↓ogf_256_6, ↓ogf_256_7, ↓opf_256_7, ↓ogf_256_8, ↓opf_256_8, ↓ogf_256_9, ↓opf_256_9, ↓ogf_256_10, ↓opf_256_10, ↓ogf_256_11, ↓ogf_256_12, ↓ogf_256_13, ↓ogf_256_14, ↓ogf_256_15, ↓ogf_256_16, ↓ogf_256_17, ↓opf_256_17, ↓ogf_256_18, ↓opf_256_18, ↓ogf_256_19, ↓ogf_256_20, ↓ogf_256_21, ↓ogf_256_22, ↓opf_256_22_0, ↓opf_256_22_1, ↓ogf_256_23, ↓opf_256_23, ↓ogf_256_24, ↓ogf_256_25, ↓opf_256_25_0, ↓opf_256_25_1, ↓ogf_256_26, ↓opf_256_26, ↓ogf_256_27, ↓opf_256_27, ↓ogf_256_28, ↓opf_256_28, ↓ogf_256_29, ↓ogf_256_30, ↓ogf_256_31, ↓ogf_256_32, ↓ogf_256_33, ↓ogf_256_34, ↓oai_257, ↓owi_257, r0, e2, rm_I8]
    · have e2 : ¬ nI s.1 < nI len := nI_nlt (by omega) (by omega)
      simp only [rGo, h2, if_false]
      rw [zi_Model_run_57]
      simp (disch := omega) only [zi_Model_run_58, zi_Model_run_59, zi_Model_run_62, zi_Model_run_63, zi_Model_run_64, zi_Model_run_67, zi_Model_run_69, zi_Model_run_425, zi_Model_run_426, zi_Model_run_427, zi_Model_run_430, zi_Model_run_432, ↓reduceIte, mj_op_s, Option.toList_some, Option.toList_none, List.cons_append, List.nil_append, hp_1, hp_2, true_and, and_true, zb_0, zb_1, zb_b, va_rf, io_256, ↓ogf_256_0, ↓opf_256_0, ↓ogf_256_1, ↓ogf_256_2, ↓ogf_256_3, ↓ogf_256_4, ↓opf_256_4, ↓ogf_256_5, ↓ogf_256_6, ↓ogf_256_7, ↓opf_256_7, ↓ogf_256_8, ↓opf_256_8, ↓ogf_256_9, ↓opf_256_9, ↓ogf_256_10, ↓opf_256_10, ↓ogf_256_11, ↓ogf_256_12, ↓ogf_256_13, ↓ogf_256_14, ↓ogf_256_15, ↓ogf_256_16, ↓ogf_256_17, ↓opf_256_17, ↓ogf_256_18, ↓opf_256_18, ↓ogf_256_19, ↓ogf_256_20, ↓ogf_256_21, ↓ogf_256_22, ↓opf_256_22_0, ↓opf_256_22_1, ↓ogf_256_23, ↓opf_256_23, ↓ogf_256_24, ↓ogf_256_25, ↓opf_256_25_0, ↓opf_256_25_1, ↓ogf_256_26, ↓opf_256_26, ↓ogf_256_27, ↓opf_256_27, ↓ogf_256_28, ↓opf_256_28, ↓ogf_256_29, ↓ogf_256_30, ↓ogf_256_31, ↓ogf_256_32, ↓ogf_256_33, ↓ogf_256_34, ↓oai_257, ↓owi_257, r0, e2]
  | succ f ih =>
    intro did s hf hs hn x5 x6 x7 x8 x9
    obtain ⟨p, g, n, out⟩ := s
    have r0 : ∀ did s, rI (rnN M did s) 257 r = nI len := fun did s => (rm_Io (by omega)).trans hR.1
    have hs : p ≤ len := hs
    have hn : n ≤ did := hn
    by_cases h2 : p < len
    · obtain ⟨k1, k2, k3⟩ := rSt_ok (s := (p, g, n, out)) (A := A) (fed := fed) (fd := rL M 259) h2
      have k4 := rSt_stop (s := (p, g, n, out)) (len := len) (A := A) (fed := fed) (fd := rL M 259)
      refine l_Model_run_step hr hR hok hfd hf2 hfu (by omega) h2 (by omega) (fun y5 y6 y7 y8 y9 => ?_)
      simp only [rGo, h2, if_true]
      generalize rSt len A fed (rL M 259) (p, g, n, out) = RR at k1 k2 k3 k4 ⊢
      by_cases h3 : RR.1 = 0
      · simp only [h3, if_true]
        exact ih (did + 1) RR.2 (by omega) k1 (by have k2 : RR.2.2.2.1 ≤ n + 1 := k2; omega) _ _ _ _ _
      · simp only [h3, if_false]
        exact l_Model_run_exit (by have := k3.resolve_left h3; omega) hr hR.1 (by rw [k4 h3]; exact h2) h50
    · have e2 : ¬ nI p < nI len := nI_nlt (by omega) (by omega)
      simp only [rGo, h2, if_false]
      rw [zi_Model_run_57]
      simp (disch := omega) only [zi_Model_run_58, zi_Model_run_59, zi_Model_run_62, zi_Model_run_63, zi_Model_run_64, zi_Model_run_67, zi_Model_run_69, zi_Model_run_425, zi_Model_run_426, zi_Model_run_427, zi_Model_run_430, zi_Model_run_432, ↓reduceIte, mj_op_s, Option.toList_some, Option.toList_none, List.cons_append, List.nil_append, hp_1, hp_2, true_and, and_true, zb_0, zb_1, zb_b, va_rf, io_256, ↓ogf_256_0, ↓opf_256_0, ↓ogf_256_1, ↓ogf_256_2, ↓ogf_256_3, ↓ogf_256_4, ↓opf_256_4, ↓ogf_256_5, ↓ogf_256_6, ↓ogf_256_7, ↓opf_256_7, ↓ogf_256_8, ↓opf_256_8, ↓ogf_256_9, ↓opf_256_9, ↓ogf_256_10, ↓opf_256_10, ↓ogf_256_11, ↓ogf_256_12, ↓ogf_256_13, ↓ogf_256_14, ↓ogf_256_15, ↓ogf_256_16, ↓ogf_256_17, ↓opf_256_17, ↓ogf_256_18, ↓opf_256_18, ↓ogf_256_19, ↓ogf_256_20, ↓ogf_256_21, ↓ogf_256_22, ↓opf_256_22_0, ↓opf_256_22_1, ↓ogf_256_23, ↓opf_256_23, ↓ogf_256_24, ↓ogf_256_25, ↓opf_256_25_0, ↓opf_256_25_1, ↓ogf_256_26, ↓opf_256_26, ↓ogf_256_27, ↓opf_256_27, ↓ogf_256_28, ↓opf_256_28, ↓ogf_256_29, ↓ogf_256_30, ↓ogf_256_31, ↓ogf_256_32, ↓ogf_256_33, ↓ogf_256_34, ↓oai_257, ↓owi_257, r0, e2]
theorem l_Model_zero {x1 x2 : Int32} {x4 x5 x6 x7 x8 x9 : Value} : ∀ (m j : Nat), j + m = 8 → (mj_V d lim mq_Model_run 23 [.ref 256, .int x1, .int x2, .int (nI j), x4, x5, x6, x7, x8, x9] [] (hp (itr (fun r M => wL M 260 r 0) j M)) Q ↔ mj_V d lim mq_Model_run 42 [.ref 256, .int x1, .int x2, .int (nI 8), x4, x5, x6, x7, x8, x9] [] (hp (itr (fun r M => wL M 260 r 0) 8 M)) Q) := by
  intro m
  induction m with
  | zero =>
    intro j hj
    obtain rfl : j = 8 := by omega
    rw [zi_Model_run_23]
    simp (decide := true) only [zi_Model_run_24, zi_Model_run_26, zi_Model_run_29, zi_Model_run_30, zi_Model_run_33, zi_Model_run_34, zi_Model_run_35, zi_Model_run_36, zi_Model_run_39, ↓reduceIte, mj_op_s, Option.toList_some, Option.toList_none, List.cons_append, List.nil_append, hp_1, hp_2, true_and, and_true, zb_0, zb_1, zb_b, va_rf]
  | succ m ih =>
    intro j hj
    have hj8 : j < 8 := by omega
    have e1 : nI j < nI 8 := nI_lt (by omega) (by omega)
    rw [zi_Model_run_23]
    simp (disch := assumption) only [zi_Model_run_24, zi_Model_run_26, zi_Model_run_29, zi_Model_run_30, zi_Model_run_33, zi_Model_run_34, zi_Model_run_35, zi_Model_run_36, zi_Model_run_39, ↓reduceIte, mj_op_s, Option.toList_some, Option.toList_none, List.cons_append, List.nil_append, hp_1, hp_2, true_and, and_true, zb_0, zb_1, zb_b, va_rf, io_256, ↓ogf_256_0, ↓opf_256_0, ↓ogf_256_1, ↓ogf_256_2, ↓ogf_256_3, ↓ogf_256_4, ↓opf_256_4, ↓ogf_256_5, ↓ogf_256_6, ↓ogf_256_7, ↓opf_256_7, ↓ogf_256_8, ↓opf_256_8, ↓ogf_256_9, ↓opf_256_9, ↓ogf_256_10, ↓opf_256_10, ↓ogf_256_11, ↓ogf_256_12, ↓ogf_256_13, ↓ogf_256_14, ↓ogf_256_15, ↓ogf_256_16, ↓ogf_256_17, ↓opf_256_17, ↓ogf_256_18, ↓opf_256_18, ↓ogf_256_19, ↓ogf_256_20, ↓ogf_256_21, ↓ogf_256_22, ↓opf_256_22_0, ↓opf_256_22_1, ↓ogf_256_23, ↓opf_256_23, ↓ogf_256_24, ↓ogf_256_25, ↓opf_256_25_0, ↓opf_256_25_1, ↓ogf_256_26, ↓opf_256_26, ↓ogf_256_27, ↓opf_256_27, ↓ogf_256_28, ↓opf_256_28, ↓ogf_256_29, ↓ogf_256_30, ↓ogf_256_31, ↓ogf_256_32, ↓ogf_256_33, ↓ogf_256_34, ↓oal_260, ↓owl_260, e1, nI_add]
    exact ih (j + 1) (by omega)
theorem rm_start : wI (wI (itr (fun r M => wL M 260 r 0) 8 M) 256 7 (nI 0)) 256 8 (nI 0) = rnN M 0 (0, fun _ => 0, 0, rL M 261) := by
  refine mm_ext (fun i k => ?_) (fun i k => ?_) (fun i k => ?_) ?_
  · simp only [rI_wI, rm_I, itr_I0]
    by_cases h1 : i = 256 ∧ k = 8
    · obtain ⟨rfl, rfl⟩ := h1; rfl
    · rw [if_neg h1]
      by_cases h2 : i = 256 ∧ k = 7
      · obtain ⟨rfl, rfl⟩ := h2; rfl
      · rw [if_neg h2, if_neg h2]
        simp only [h1, if_false]
  · simp only [rL_wI, rm_L, itr_L0]
    by_cases h1 : i = 260 ∧ k < 8
    · rw [if_pos h1, if_pos h1]
    · rw [if_neg h1, if_neg h1]
      by_cases h2 : i = 261 ∧ k < 200
      · obtain ⟨rfl, h2⟩ := h2; simp only [h2, and_self, if_true]
      · rw [if_neg h2]
  · exact congrArg (fun z => z.1 i k) (itr_R0 (M := M) (c := 260) 8)
  · exact congrArg Prod.snd (itr_R0 (M := M) (c := 260) 8)
theorem c_Model_run (hr : r < 40) {nr : Nat} (hnr : rI M 256 0 = nI nr) (hn40 : nr ≤ 40) (hr2 : r < nr) (hR : hasM M r len A) (hok : okR len A) (hfd : rI M 256 4 = nI fed) (hf2 : fed ≤ 16) {fuel : Nat} (hfu : fuel ≤ 100000) : mj_V (d + 2) lim mq_Model_run 0 [.ref 256, .int (nI r), .int (nI fuel), mj_j, mj_j, mj_j, mj_j, mj_j, mj_j, mj_j] [] (hp M) Q ↔ Q (some (.int (nI (rGo len A fed (rL M 259) fuel (0, fun _ => 0, 0, rL M 261) 0).1))) (hp (wI (rnN M (rGo len A fed (rL M 259) fuel (0, fun _ => 0, 0, rL M 261) 0).2.1 (rGo len A fed (rL M 259) fuel (0, fun _ => 0, 0, rL M 261) 0).2.2) 256 9 (nI (rGo len A fed (rL M 259) fuel (0, fun _ => 0, 0, rL M 261) 0).2.2.1))) := by
  have e1 := l_Model_run (d := d) (lim := lim) (Q := Q) (by omega) hR hok hfd hf2 hfu fuel 0 (0, fun _ => 0, 0, rL M 261) (Nat.zero_add _) (Nat.zero_le _) (Nat.le_refl 0)
  have c1 : (¬ nI r < nI 0 ∧ ¬ nI nr - nI 1 < nI r) := (inM_iff (by omega)).mpr (inN_i (by omega) hr2)
  have c2 : (¬ nI fuel < nI 0 ∧ ¬ nI 100000 < nI fuel) := ⟨by rw [nI_0]; exact nI_pos (by omega), nI_nlt hfu (by omega)⟩
  rw [← e1 mj_j mj_j mj_j mj_j mj_j, ← rm_start]
  simp only [zi_Model_run_0, zi_Model_run_1, zi_Model_run_2, zi_Model_run_5, zi_Model_run_8, zi_Model_run_9, zi_Model_run_10, zi_Model_run_12, zi_Model_run_15, zi_Model_run_18, zi_Model_run_20, zi_Model_run_21, zi_Model_run_22, ↓reduceIte, mj_op_s, Option.toList_some, Option.toList_none, List.cons_append, List.nil_append, hp_1, hp_2, true_and, and_true, zb_0, zb_1, zb_b, va_rf, io_256, ↓ogf_256_0, ↓opf_256_0, ↓ogf_256_1, ↓ogf_256_2, ↓ogf_256_3, ↓ogf_256_4, ↓opf_256_4, ↓ogf_256_5, ↓ogf_256_6, ↓ogf_256_7, ↓opf_256_7, ↓ogf_256_8, ↓opf_256_8, ↓ogf_256_9, ↓opf_256_9, ↓ogf_256_10, ↓opf_256_10, ↓ogf_256_11, ↓ogf_256_12, ↓ogf_256_13, ↓ogf_256_14, ↓ogf_256_15, ↓ogf_256_16, ↓ogf_256_17, ↓opf_256_17, ↓ogf_256_18, ↓opf_256_18, ↓ogf_256_19, ↓ogf_256_20, ↓ogf_256_21, ↓ogf_256_22, ↓opf_256_22_0, ↓opf_256_22_1, ↓ogf_256_23, ↓opf_256_23, ↓ogf_256_24, ↓ogf_256_25, ↓opf_256_25_0, ↓opf_256_25_1, ↓ogf_256_26, ↓opf_256_26, ↓ogf_256_27, ↓opf_256_27, ↓ogf_256_28, ↓opf_256_28, ↓ogf_256_29, ↓ogf_256_30, ↓ogf_256_31, ↓ogf_256_32, ↓ogf_256_33, ↓ogf_256_34, c_Model_isRoutine, c_Model_in, hnr, bI_0, c1, c2, not_true_eq_false, not_false_eq_true, and_self]
  refine Iff.trans (l_Model_zero 8 0 (by omega)) ?_
  simp only [zi_Model_run_42, zi_Model_run_43, zi_Model_run_44, zi_Model_run_47, zi_Model_run_48, zi_Model_run_49, zi_Model_run_52, zi_Model_run_53, zi_Model_run_54, zi_Model_run_55, ↓reduceIte, mj_op_s, Option.toList_some, Option.toList_none, List.cons_append, List.nil_append, hp_1, hp_2, true_and, and_true, zb_0, zb_1, zb_b, va_rf, io_256, ↓ogf_256_0, ↓opf_256_0, ↓ogf_256_1, ↓ogf_256_2, ↓ogf_256_3, ↓ogf_256_4, ↓opf_256_4, ↓ogf_256_5, ↓ogf_256_6, ↓ogf_256_7, ↓opf_256_7, ↓ogf_256_8, ↓opf_256_8, ↓ogf_256_9, ↓opf_256_9, ↓ogf_256_10, ↓opf_256_10, ↓ogf_256_11, ↓ogf_256_12, ↓ogf_256_13, ↓ogf_256_14, ↓ogf_256_15, ↓ogf_256_16, ↓ogf_256_17, ↓opf_256_17, ↓ogf_256_18, ↓opf_256_18, ↓ogf_256_19, ↓ogf_256_20, ↓ogf_256_21, ↓ogf_256_22, ↓opf_256_22_0, ↓opf_256_22_1, ↓ogf_256_23, ↓opf_256_23, ↓ogf_256_24, ↓ogf_256_25, ↓opf_256_25_0, ↓opf_256_25_1, ↓ogf_256_26, ↓opf_256_26, ↓ogf_256_27, ↓opf_256_27, ↓ogf_256_28, ↓opf_256_28, ↓ogf_256_29, ↓ogf_256_30, ↓ogf_256_31, ↓ogf_256_32, ↓ogf_256_33, ↓ogf_256_34]
theorem c_Model_run_no {x1 x2 : Int32} (h : ¬ ((¬ x1 < nI 0 ∧ ¬ rI M 256 0 - nI 1 < x1) ∧ (¬ x2 < nI 0 ∧ ¬ nI 100000 < x2))) : mj_V (d + 2) lim mq_Model_run 0 [.ref 256, .int x1, .int x2, mj_j, mj_j, mj_j, mj_j, mj_j, mj_j, mj_j] [] (hp M) Q ↔ Q (some (.int (-2))) (hp M) := by
  simp only [zi_Model_run_0, zi_Model_run_1, zi_Model_run_2, zi_Model_run_5, zi_Model_run_8, zi_Model_run_9, zi_Model_run_10, zi_Model_run_12, zi_Model_run_15, zi_Model_run_18, zi_Model_run_20, ↓reduceIte, mj_op_s, Option.toList_some, Option.toList_none, List.cons_append, List.nil_append, hp_1, hp_2, true_and, and_true, zb_0, zb_1, zb_b, va_rf, io_256, ↓ogf_256_0, ↓opf_256_0, ↓ogf_256_1, ↓ogf_256_2, ↓ogf_256_3, ↓ogf_256_4, ↓opf_256_4, ↓ogf_256_5, ↓ogf_256_6, ↓ogf_256_7, ↓opf_256_7, ↓ogf_256_8, ↓opf_256_8, ↓ogf_256_9, ↓opf_256_9, ↓ogf_256_10, ↓opf_256_10, ↓ogf_256_11, ↓ogf_256_12, ↓ogf_256_13, ↓ogf_256_14, ↓ogf_256_15, ↓ogf_256_16, ↓ogf_256_17, ↓opf_256_17, ↓ogf_256_18, ↓opf_256_18, ↓ogf_256_19, ↓ogf_256_20, ↓ogf_256_21, ↓ogf_256_22, ↓opf_256_22_0, ↓opf_256_22_1, ↓ogf_256_23, ↓opf_256_23, ↓ogf_256_24, ↓ogf_256_25, ↓opf_256_25_0, ↓opf_256_25_1, ↓ogf_256_26, ↓opf_256_26, ↓ogf_256_27, ↓opf_256_27, ↓ogf_256_28, ↓opf_256_28, ↓ogf_256_29, ↓ogf_256_30, ↓ogf_256_31, ↓ogf_256_32, ↓ogf_256_33, ↓ogf_256_34, c_Model_isRoutine, c_Model_in, bI_0]
  by_cases c1 : (¬ x1 < nI 0 ∧ ¬ rI M 256 0 - nI 1 < x1)
  · rw [if_neg (fun z => z c1), if_pos (fun z => h ⟨c1, z⟩)]
  · rw [if_pos c1]
end C52
