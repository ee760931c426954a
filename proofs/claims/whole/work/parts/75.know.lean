/-! contracts: Knowledge.begin, study -/
section C75
variable {d : Nat} {lim : Nat × Nat} {Q : mj_Q} {M M' : mm} {o len p t j r : Nat} {A : Nat → Nat → Int32} {F : KF} {s : KS} {b f : Nat → Option Int64} {kb kb2 : Nat → Int32} {nb nb2 : Nat → Int64}
theorem kn_self (h1 : ∀ k, k < 51 → rI M 204 k = b1 (s.1 k)) (h2 : ∀ k, k < 408 → rI M 205 k = b1 (s.2.1 (k / 8) (k % 8)).isSome ∧ rL M 206 k = (s.2.1 (k / 8) (k % 8)).getD 0) (h3 : ∀ k, k < 51 → rI M 207 k = b1 (s.2.2.1 k)) (h4 : rI M 203 4 = b1 s.2.2.2) : knM M s (rI M 208) (rL M 209) = M := by
  refine mm_ext (fun i k => ?_) (fun i k => ?_) (fun _ _ => rfl) rfl
  · rw [kn_I]
    by_cases c : i = 204 ∧ k < 51
    · rw [if_pos c, c.1, h1 k c.2]
    rw [if_neg c]
    by_cases c : i = 205 ∧ k < 408
    · rw [if_pos c, c.1, (h2 k c.2).1]
    rw [if_neg c]
    by_cases c : i = 207 ∧ k < 51
    · rw [if_pos c, c.1, h3 k c.2]
    rw [if_neg c]
    by_cases c : i = 203 ∧ k = 4
    · rw [if_pos c, c.1, c.2, h4]
    rw [if_neg c]
    by_cases c : i = 208 ∧ k < 8
    · rw [if_pos c, c.1]
    rw [if_neg c]
  · rw [kn_L]
    by_cases c : i = 206 ∧ k < 408
    · rw [if_pos c, c.1, (h2 k c.2).2]
    rw [if_neg c]
    by_cases c : i = 209 ∧ k < 8
    · rw [if_pos c, c.1]
    rw [if_neg c]
theorem sm_kn (h : sm knP M M') : sm knP M (knM M' s kb nb) := by
  refine ⟨fun i hi => ?_, h.2⟩
  have hi : ¬ (203 ≤ i ∧ i ≤ 209) := hi
  refine ⟨funext fun k => ?_, funext fun k => ?_, (h.1 i hi).2.2⟩
  · rw [kn_Io (by omega)]; exact sm_I h hi
  · rw [kn_L, if_neg (by omega), if_neg (by omega)]; exact sm_L h hi
theorem kn_rt (ho : isRt o) (h : sm knP M M') (hR : hasR M o len A) : hasR M' o len A := sm_hasR h (fun j hj z => by
  have z : 203 ≤ o + j ∧ o + j ≤ 209 := z
  rcases ho with h | h | h | h | h <;> omega) hR
theorem l_begin_1 (hend : ∀ M' y1, sm knP M M' → (∀ k, k < 51 → rI M' 204 k = nI 0 ∧ rI M' 207 k = nI 0) → mj_V d lim mq_Knowledge_begin 28 [.ref 203, .int y1] [] (hp M') Q) : ∀ (n j : Nat) (M1 : mm), j + n = 51 → sm knP M M1 → (∀ k, k < j → rI M1 204 k = nI 0 ∧ rI M1 207 k = nI 0) → mj_V d lim mq_Knowledge_begin 2 [.ref 203, .int (nI j)] [] (hp M1) Q := by
  intro n
  induction n with
  | zero =>
    intro j M1 hj hs hall
    obtain rfl : j = 51 := by omega
    rw [zi_Knowledge_begin_2]
    simp (decide := true) only [zi_Knowledge_begin_3, zi_Knowledge_begin_5, ↓reduceIte, mj_op_s, Option.toList_some, Option.toList_none, List.cons_append, List.nil_append, hp_1, hp_2, true_and, and_true, zb_0, zb_1, zb_b, va_rf]
    exact hend M1 _ hs hall
  | succ n ih =>
    intro j M1 hj hs hall
    have hj51 : j < 51 := by omega
    have e1 : nI j < nI 51 := nI_lt hj51 (by omega)
    rw [zi_Knowledge_begin_2]
    simp (disch := omega) only [zi_Knowledge_begin_3, zi_Knowledge_begin_5, zi_Knowledge_begin_8, zi_Knowledge_begin_9, zi_Knowledge_begin_12, zi_Knowledge_begin_13, zi_Knowledge_begin_14, zi_Knowledge_begin_15, zi_Knowledge_begin_16, zi_Knowledge_begin_19, zi_Knowledge_begin_20, zi_Knowledge_begin_21, zi_Knowledge_begin_22, zi_Knowledge_begin_25, ↓reduceIte, mj_op_s, Option.toList_some, Option.toList_none, List.cons_append, List.nil_append, hp_1, hp_2, true_and, and_true, zb_0, zb_1, zb_b, va_rf, io_203, ↓ogf_203_0, ↓ogf_203_1, ↓ogf_203_2, ↓ogf_203_3, ↓ogf_203_4, ↓opf_203_4_0, ↓opf_203_4_1, ↓ogf_203_5, ↓ogf_203_6, ↓oaz_204, ↓owz_204, ↓oaz_207, ↓owz_207, e1, zv_0, nI_add]
    refine ih (j + 1) _ (by omega) (sm_wI (sm_wI hs ⟨by omega, by omega⟩) ⟨by omega, by omega⟩) (fun k hk => ?_)
    simp only [rI_wI]
    by_cases e : k = j
    · subst e; simp
    · simp [e]; exact hall k (by omega)
theorem l_begin_2 (hend : ∀ M' y1, sm knP M M' → (∀ k, k < 51 → rI M' 204 k = nI 0 ∧ rI M' 207 k = nI 0) → (∀ k, k < 408 → rI M' 205 k = b1 (kF0 (k / 8) (k % 8)).isSome ∧ rL M' 206 k = (kF0 (k / 8) (k % 8)).getD 0) → mj_V d lim mq_Knowledge_begin 67 [.ref 203, .int y1] [] (hp M') Q) : ∀ (n j : Nat) (M1 : mm), j + n = 408 → sm knP M M1 → (∀ k, k < 51 → rI M1 204 k = nI 0 ∧ rI M1 207 k = nI 0) → (∀ k, k < j → rI M1 205 k = b1 (kF0 (k / 8) (k % 8)).isSome ∧ rL M1 206 k = (kF0 (k / 8) (k % 8)).getD 0) → mj_V d lim mq_Knowledge_begin 30 [.ref 203, .int (nI j)] [] (hp M1) Q := by
  intro n
  induction n with
  | zero =>
    intro j M1 hj hs h0 hall
    obtain rfl : j = 408 := by omega
    rw [zi_Knowledge_begin_30]
    simp (decide := true) only [zi_Knowledge_begin_31, zi_Knowledge_begin_34, ↓reduceIte, mj_op_s, Option.toList_some, Option.toList_none, List.cons_append, List.nil_append, hp_1, hp_2, true_and, and_true, zb_0, zb_1, zb_b, va_rf]
    exact hend M1 _ hs h0 hall
  | succ n ih =>
    intro j M1 hj hs h0 hall
    have hj51 : j < 408 := by omega
    have e1 : nI j < nI 408 := nI_lt hj51 (by omega)
    have go : ∀ v : Int32, v = b1 (kF0 (j / 8) (j % 8)).isSome → mj_V d lim mq_Knowledge_begin 30 [.ref 203, .int (nI (j + 1))] [] (hp (wL (wI M1 205 j v) 206 j 0)) Q := by
      intro v hv
      refine ih (j + 1) _ (by omega) (sm_wL (sm_wI hs ⟨by omega, by omega⟩) ⟨by omega, by omega⟩) (fun k hk => ?_) (fun k hk => ?_)
      · simp only [rI_wL, rI_wI]
        rw [if_neg (by omega), if_neg (by omega)]
        exact h0 k hk
      · simp only [rI_wL, rI_wI, rL_wL, rL_wI]
        by_cases e : k = j
        · subst e
          simp only [and_self, if_true]
          refine ⟨hv, ?_⟩
          unfold kF0
          split <;> rfl
        · rw [if_neg (by omega), if_neg (by omega)]
          exact hall k (by omega)
    rw [zi_Knowledge_begin_30]
    by_cases c : j < 8
    · have e2 : nI j < nI 8 := nI_lt c (by omega)
      simp (disch := omega) only [zi_Knowledge_begin_31, zi_Knowledge_begin_34, zi_Knowledge_begin_37, zi_Knowledge_begin_38, zi_Knowledge_begin_41, zi_Knowledge_begin_42, zi_Knowledge_begin_43, zi_Knowledge_begin_45, zi_Knowledge_begin_48, zi_Knowledge_begin_49, zi_Knowledge_begin_52, zi_Knowledge_begin_53, zi_Knowledge_begin_54, zi_Knowledge_begin_55, zi_Knowledge_begin_58, zi_Knowledge_begin_59, zi_Knowledge_begin_60, zi_Knowledge_begin_61, zi_Knowledge_begin_64, ↓reduceIte, mj_op_s, Option.toList_some, Option.toList_none, List.cons_append, List.nil_append, hp_1, hp_2, true_and, and_true, zb_0, zb_1, zb_b, va_rf, io_203, ↓ogf_203_0, ↓ogf_203_1, ↓ogf_203_2, ↓ogf_203_3, ↓ogf_203_4, ↓opf_203_4_0, ↓opf_203_4_1, ↓ogf_203_5, ↓ogf_203_6, ↓oaz_205, ↓owz_205, ↓oal_206, ↓owl_206, e1, e2, zv_1, nI_add]
      exact go _ (by unfold kF0; rw [if_pos (by omega)]; rfl)
    · have e2 : ¬ nI j < nI 8 := nI_nlt (by omega) (by omega)
      simp (disch := omega) only [zi_Knowledge_begin_31, zi_Knowledge_begin_34, zi_Knowledge_begin_37, zi_Knowledge_begin_38, zi_Knowledge_begin_41, zi_Knowledge_begin_42, zi_Knowledge_begin_43, zi_Knowledge_begin_45, zi_Knowledge_begin_48, zi_Knowledge_begin_49, zi_Knowledge_begin_52, zi_Knowledge_begin_53, zi_Knowledge_begin_54, zi_Knowledge_begin_55, zi_Knowledge_begin_58, zi_Knowledge_begin_59, zi_Knowledge_begin_60, zi_Knowledge_begin_61, zi_Knowledge_begin_64, ↓reduceIte, mj_op_s, Option.toList_some, Option.toList_none, List.cons_append, List.nil_append, hp_1, hp_2, true_and, and_true, zb_0, zb_1, zb_b, va_rf, io_203, ↓ogf_203_0, ↓ogf_203_1, ↓ogf_203_2, ↓ogf_203_3, ↓ogf_203_4, ↓opf_203_4_0, ↓opf_203_4_1, ↓ogf_203_5, ↓ogf_203_6, ↓oaz_205, ↓owz_205, ↓oal_206, ↓owl_206, e1, e2, zv_0, nI_add]
      exact go _ (by unfold kF0; rw [if_neg (by omega)]; rfl)
theorem c_Knowledge_begin (hend : ∀ M' kb nb, sm knP M M' → Q none (hp (knM M' (kC0, kF0, kC0, true) kb nb))) : mj_V d lim mq_Knowledge_begin 0 [.ref 203, mj_j] [] (hp M) Q := by
  simp only [zi_Knowledge_begin_0, zi_Knowledge_begin_1, ↓reduceIte, mj_op_s, Option.toList_some, Option.toList_none, List.cons_append, List.nil_append, hp_1, hp_2, true_and, and_true, zb_0, zb_1, zb_b, va_rf]
  refine l_begin_1 (M := M) (fun M1 y1 hs h0 => ?_) 51 0 M (by omega) sm_refl (fun k hk => by omega)
  simp only [zi_Knowledge_begin_28, zi_Knowledge_begin_29, ↓reduceIte, mj_op_s, Option.toList_some, Option.toList_none, List.cons_append, List.nil_append, hp_1, hp_2, true_and, and_true, zb_0, zb_1, zb_b, va_rf]
  refine l_begin_2 (M := M) (fun M2 y2 hs2 h02 hF => ?_) 408 0 M1 (by omega) hs h0 (fun k hk => by omega)
  simp (disch := omega) only [zi_Knowledge_begin_67, zi_Knowledge_begin_68, zi_Knowledge_begin_71, zi_Knowledge_begin_72, zi_Knowledge_begin_73, zi_Knowledge_begin_74, zi_Knowledge_begin_75, zi_Knowledge_begin_78, zi_Knowledge_begin_79, zi_Knowledge_begin_80, zi_Knowledge_begin_81, zi_Knowledge_begin_82, zi_Knowledge_begin_83, zi_Knowledge_begin_86, ↓reduceIte, mj_op_s, Option.toList_some, Option.toList_none, List.cons_append, List.nil_append, hp_1, hp_2, true_and, and_true, zb_0, zb_1, zb_b, va_rf, io_203, ↓ogf_203_0, ↓ogf_203_1, ↓ogf_203_2, ↓ogf_203_3, ↓ogf_203_4, ↓opf_203_4_0, ↓opf_203_4_1, ↓ogf_203_5, ↓ogf_203_6, ↓oaz_204, ↓owz_204, ↓oaz_207, ↓owz_207, zv_1]
  have e := kn_self (M := wI (wI (wI M2 204 0 (nI 1)) 207 0 (nI 1)) 203 4 (nI 1)) (s := (kC0, kF0, kC0, true)) (fun k hk => by
    simp only [rI_wI]
    rw [if_neg (by omega), if_neg (by omega)]
    unfold kC0
    by_cases c : k = 0
    · subst c; rfl
    · rw [if_neg (fun z => c z.2), (h02 k hk).1, decide_eq_false c]; rfl) (fun k hk => by
    simp only [rI_wI, rL_wI]
    rw [if_neg (by omega), if_neg (by omega), if_neg (by omega)]
    exact hF k hk) (fun k hk => by
    simp only [rI_wI]
    rw [if_neg (by omega)]
    unfold kC0
    by_cases c : k = 0
    · subst c; rfl
    · rw [if_neg (fun z => c z.2), if_neg (by omega), (h02 k hk).2, decide_eq_false c]; rfl) rfl
  rw [← e]
  exact hend _ _ _ (sm_wI (sm_wI (sm_wI hs2 ⟨by omega, by omega⟩) ⟨by omega, by omega⟩) ⟨by omega, by omega⟩)
theorem l_Kstudy_in (ho : isRt o) (hR : hasR M o len A) (hok : okR len A) {n : Nat} (hn : n < 10000) (hend : ∀ s kb nb y3, kJ len A s → (∀ q, q < len → s.2.2.1 q = true → s.2.2.2 = true) → (s.2.2.2 = true → n < rk s.1 s.2.1) → mj_V (d + 3) lim mq_Knowledge_study 63 [.ref 203, .ref o, .int (nI n), .int y3] [] (hp (knM M s kb nb)) Q) :
    ∀ (m j : Nat) (s : KS) (kb : Nat → Int32) (nb : Nat → Int64), j + m = len → kJ len A s → (∀ q, q < j → s.2.2.1 q = true → s.2.2.2 = true) → (n ≤ rk s.1 s.2.1 ∧ (s.2.2.2 = true → n < rk s.1 s.2.1)) → mj_V (d + 3) lim mq_Knowledge_study 27 [.ref 203, .ref o, .int (nI n), .int (nI j)] [] (hp (knM M s kb nb)) Q := by
  have h50 := hok.1
  intro m
  induction m with
  | zero =>
    intro j s kb nb hj hJ hw hr
    obtain rfl : j = len := by omega
    have hR2 := kn_R (s := s) (kb := kb) (nb := nb) ho hR
    have e1 : ¬ nI j < nI j := nI_nlt (by omega) (by omega)
    rw [zi_Knowledge_study_27]
    simp (disch := first | assumption | omega) only [zi_Knowledge_study_28, zi_Knowledge_study_29, zi_Knowledge_study_32, ↓reduceIte, mj_op_s, Option.toList_some, Option.toList_none, List.cons_append, List.nil_append, hp_1, hp_2, true_and, and_true, zb_0, zb_1, zb_b, va_rf, io_rt, ↓ogf_rt_0, ↓ogf_rt_1, ↓ogf_rt_2, ↓ogf_rt_3, ↓ogf_rt_4, ↓oai_rt_0, ↓oai_rt_1, ↓oai_rt_2, ↓oai_rt_3, ↓owi_rt_0, ↓owi_rt_1, ↓owi_rt_2, ↓owi_rt_3, ↓opf_rt, hR2.1, e1]
    exact hend s kb nb _ hJ hw hr.2
  | succ m ih =>
    intro j s kb nb hj hJ hw hr
    have hR2 := kn_R (s := s) (kb := kb) (nb := nb) ho hR
    have e1 : nI j < nI len := nI_lt (by omega) (by omega)
    have hj51 : j < 51 := by omega
    have r7 := kn_7 (M := M) (s := s) (kb := kb) (nb := nb) hj51
    rw [zi_Knowledge_study_27]
    cases hwj : s.2.2.1 j with
    | false =>
      rw [hwj] at r7
      simp (decide := true) (disch := first | assumption | omega) only [zi_Knowledge_study_28, zi_Knowledge_study_29, zi_Knowledge_study_32, zi_Knowledge_study_35, zi_Knowledge_study_36, zi_Knowledge_study_39, zi_Knowledge_study_40, zi_Knowledge_study_41, zi_Knowledge_study_44, zi_Knowledge_study_45, zi_Knowledge_study_48, zi_Knowledge_study_49, zi_Knowledge_study_50, zi_Knowledge_study_51, zi_Knowledge_study_52, zi_Knowledge_study_53, zi_Knowledge_study_54, zi_Knowledge_study_57, zi_Knowledge_study_60, ↓reduceIte, mj_op_s, Option.toList_some, Option.toList_none, List.cons_append, List.nil_append, hp_1, hp_2, true_and, and_true, zb_0, zb_1, zb_b, va_rf, io_rt, ↓ogf_rt_0, ↓ogf_rt_1, ↓ogf_rt_2, ↓ogf_rt_3, ↓ogf_rt_4, ↓oai_rt_0, ↓oai_rt_1, ↓oai_rt_2, ↓oai_rt_3, ↓owi_rt_0, ↓owi_rt_1, ↓owi_rt_2, ↓owi_rt_3, ↓opf_rt, io_203, ↓ogf_203_0, ↓ogf_203_1, ↓ogf_203_2, ↓ogf_203_3, ↓ogf_203_4, ↓opf_203_4_0, ↓opf_203_4_1, ↓ogf_203_5, ↓ogf_203_6, ↓oaz_207, ↓owz_207, hR2.1, e1, r7, b1_f, nI_add]
      refine ih (j + 1) s kb nb (by omega) hJ (fun q hq hq2 => ?_) hr
      by_cases e : q = j
      · subst e; rw [hwj] at hq2; cases hq2
      · exact hw q (by omega) hq2
    | true =>
      rw [hwj] at r7
      obtain ⟨k1, k2, k3⟩ := kJ_go hok hJ (show j < len by omega) hwj hw hr
      obtain ⟨C, F, w, sw⟩ := s
      simp (decide := true) (disch := first | assumption | omega) only [zi_Knowledge_study_28, zi_Knowledge_study_29, zi_Knowledge_study_32, zi_Knowledge_study_35, zi_Knowledge_study_36, zi_Knowledge_study_39, zi_Knowledge_study_40, zi_Knowledge_study_41, zi_Knowledge_study_44, zi_Knowledge_study_45, zi_Knowledge_study_48, zi_Knowledge_study_49, zi_Knowledge_study_50, zi_Knowledge_study_51, zi_Knowledge_study_52, zi_Knowledge_study_53, zi_Knowledge_study_54, ↓reduceIte, mj_op_s, Option.toList_some, Option.toList_none, List.cons_append, List.nil_append, hp_1, hp_2, true_and, and_true, zb_0, zb_1, zb_b, va_rf, io_rt, ↓ogf_rt_0, ↓ogf_rt_1, ↓ogf_rt_2, ↓ogf_rt_3, ↓ogf_rt_4, ↓oai_rt_0, ↓oai_rt_1, ↓oai_rt_2, ↓oai_rt_3, ↓owi_rt_0, ↓owi_rt_1, ↓owi_rt_2, ↓owi_rt_3, ↓opf_rt, io_203, ↓ogf_203_0, ↓ogf_203_1, ↓ogf_203_2, ↓ogf_203_3, ↓ogf_203_4, ↓opf_203_4_0, ↓opf_203_4_1, ↓ogf_203_5, ↓ogf_203_6, ↓oaz_207, ↓owz_207, hR2.1, e1, r7, b1_t, zv_0, kw_70]
      refine c_Knowledge_goOn ho hR hok (by omega) (fun kb nb => ?_)
      simp (decide := true) only [zi_Knowledge_study_57, zi_Knowledge_study_60, ↓reduceIte, mj_op_s, Option.toList_some, Option.toList_none, List.cons_append, List.nil_append, hp_1, hp_2, true_and, and_true, zb_0, zb_1, zb_b, va_rf, nI_add]
      exact ih (j + 1) _ kb nb (by omega) k1 k2 k3
theorem l_Kstudy_out (ho : isRt o) (hR : hasR M o len A) (hok : okR len A) (hend : ∀ s kb nb, knL len A s.1 s.2.1 → Q none (hp (knM M s kb nb))) :
    ∀ (f n : Nat) (s : KS) (kb : Nat → Int32) (nb : Nat → Int64) (x3 : Value), n + f = 460 → kJ len A s → (∀ q, q < len → s.2.2.1 q = true → s.2.2.2 = true) → (s.2.2.2 = true → n ≤ rk s.1 s.2.1) → mj_V (d + 3) lim mq_Knowledge_study 6 [.ref 203, .ref o, .int (nI n), x3] [] (hp (knM M s kb nb)) Q := by
  intro f
  induction f with
  | zero =>
    intro n s kb nb x3 hf hJ hw hr
    have e1 : nI n < nI 10000 := nI_lt (by omega) (by omega)
    cases hsw : s.2.2.2 with
    | true =>
      have := hr hsw
      have h2 := rk_le (C := s.1) (F := s.2.1)
      omega
    | false =>
      have r3 := kn_3 (M := M) (s := s) (kb := kb) (nb := nb)
      rw [hsw] at r3
      rw [zi_Knowledge_study_6]
      simp (decide := true) (disch := first | assumption | omega) only [zi_Knowledge_study_7, zi_Knowledge_study_10, zi_Knowledge_study_13, zi_Knowledge_study_14, zi_Knowledge_study_17, zi_Knowledge_study_69, ↓reduceIte, mj_op_s, Option.toList_some, Option.toList_none, List.cons_append, List.nil_append, hp_1, hp_2, true_and, and_true, zb_0, zb_1, zb_b, va_rf, io_203, ↓ogf_203_0, ↓ogf_203_1, ↓ogf_203_2, ↓ogf_203_3, ↓ogf_203_4, ↓opf_203_4_0, ↓opf_203_4_1, ↓ogf_203_5, ↓ogf_203_6, e1, r3, b1_f]
      refine hend s kb nb ⟨⟨hJ.1.1, hJ.1.2.1, fun q hq hC => ?_⟩, hJ.1.2.2.1, hJ.1.2.2.2⟩
      rcases hJ.2.2 q hq hC with h | h
      · rw [hw q hq h] at hsw; cases hsw
      · exact h
  | succ f ih =>
    intro n s kb nb x3 hf hJ hw hr
    have e1 : nI n < nI 10000 := nI_lt (by omega) (by omega)
    cases hsw : s.2.2.2 with
    | true =>
      have r3 := kn_3 (M := M) (s := s) (kb := kb) (nb := nb)
      rw [hsw] at r3
      obtain ⟨C, F, w, sw⟩ := s
      rw [zi_Knowledge_study_6]
      simp (decide := true) (disch := first | assumption | omega) only [zi_Knowledge_study_7, zi_Knowledge_study_10, zi_Knowledge_study_13, zi_Knowledge_study_14, zi_Knowledge_study_17, zi_Knowledge_study_20, zi_Knowledge_study_21, zi_Knowledge_study_22, zi_Knowledge_study_25, zi_Knowledge_study_26, ↓reduceIte, mj_op_s, Option.toList_some, Option.toList_none, List.cons_append, List.nil_append, hp_1, hp_2, true_and, and_true, zb_0, zb_1, zb_b, va_rf, io_203, ↓ogf_203_0, ↓ogf_203_1, ↓ogf_203_2, ↓ogf_203_3, ↓ogf_203_4, ↓opf_203_4_0, ↓opf_203_4_1, ↓ogf_203_5, ↓ogf_203_6, e1, r3, b1_t, kw_30]
      refine l_Kstudy_in ho hR hok (show n < 10000 by omega) (fun s2 kb2 nb2 y3 hJ2 hw2 hr2 => ?_) len 0 (C, F, w, false) kb nb (by omega) hJ (fun q hq => by omega) ⟨hr hsw, fun z => by cases z⟩
      simp (decide := true) only [zi_Knowledge_study_63, zi_Knowledge_study_66, ↓reduceIte, mj_op_s, Option.toList_some, Option.toList_none, List.cons_append, List.nil_append, hp_1, hp_2, true_and, and_true, zb_0, zb_1, zb_b, va_rf, nI_add]
      exact ih (n + 1) s2 kb2 nb2 _ (by omega) hJ2 hw2 (fun z => hr2 z)
    | false =>
      have r3 := kn_3 (M := M) (s := s) (kb := kb) (nb := nb)
      rw [hsw] at r3
      rw [zi_Knowledge_study_6]
      simp (decide := true) (disch := first | assumption | omega) only [zi_Knowledge_study_7, zi_Knowledge_study_10, zi_Knowledge_study_13, zi_Knowledge_study_14, zi_Knowledge_study_17, zi_Knowledge_study_69, ↓reduceIte, mj_op_s, Option.toList_some, Option.toList_none, List.cons_append, List.nil_append, hp_1, hp_2, true_and, and_true, zb_0, zb_1, zb_b, va_rf, io_203, ↓ogf_203_0, ↓ogf_203_1, ↓ogf_203_2, ↓ogf_203_3, ↓ogf_203_4, ↓opf_203_4_0, ↓opf_203_4_1, ↓ogf_203_5, ↓ogf_203_6, e1, r3, b1_f]
      refine hend s kb nb ⟨⟨hJ.1.1, hJ.1.2.1, fun q hq hC => ?_⟩, hJ.1.2.2.1, hJ.1.2.2.2⟩
      rcases hJ.2.2 q hq hC with h | h
      · rw [hw q hq h] at hsw; cases hsw
      · exact h
theorem c_Knowledge_study (ho : isRt o) (hR : hasR M o len A) (hok : okR len A) (hend : ∀ M' s kb nb, sm knP M M' → knL len A s.1 s.2.1 → Q none (hp (knM M' s kb nb))) : mj_V (d + 3) lim mq_Knowledge_study 0 [.ref 203, .ref o, mj_j, mj_j] [] (hp M) Q := by
  simp (disch := first | assumption | omega) only [zi_Knowledge_study_0, zi_Knowledge_study_1, ↓reduceIte, mj_op_s, Option.toList_some, Option.toList_none, List.cons_append, List.nil_append, hp_1, hp_2, true_and, and_true, zb_0, zb_1, zb_b, va_rf, io_203, ↓ogf_203_0, ↓ogf_203_1, ↓ogf_203_2, ↓ogf_203_3, ↓ogf_203_4, ↓opf_203_4_0, ↓opf_203_4_1, ↓ogf_203_5, ↓ogf_203_6]
  refine c_Knowledge_begin (fun M1 kb nb hs => ?_)
  simp only [zi_Knowledge_study_4, zi_Knowledge_study_5, ↓reduceIte, mj_op_s, Option.toList_some, Option.toList_none, List.cons_append, List.nil_append, hp_1, hp_2, true_and, and_true, zb_0, zb_1, zb_b, va_rf]
  refine l_Kstudy_out ho (kn_rt ho hs hR) hok (fun s kb nb h => hend M1 s kb nb hs h) 460 0 (kC0, kF0, kC0, true) kb nb _ (by omega) ⟨knI_0, fun q h => h, fun q hq h => Or.inl h⟩ (fun q _ _ => rfl) (fun _ => Nat.zero_le _)
end C75
