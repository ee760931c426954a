/-! what acts are; numbers -/
abbrev isReg (x : Int32) : Prop := ¬ x < nI 0 ∧ x < nI 8
abbrev isPlc (x : Int32) : Prop := ¬ x < nI 0 ∧ x < nI 51
theorem isReg_n {x : Int32} (h : isReg x) : ∃ j, j < 8 ∧ x = nI j := by
  obtain ⟨j, hj, rfl⟩ := nI_of (x := x) (by have := h.1; rwa [nI_0] at this)
  exact ⟨j, (nI_ltI hj (by omega)).mp h.2, rfl⟩
theorem isPlc_n {x : Int32} (h : isPlc x) : ∃ j, j < 51 ∧ x = nI j := by
  obtain ⟨j, hj, rfl⟩ := nI_of (x := x) (by have := h.1; rwa [nI_0] at this)
  exact ⟨j, (nI_ltI hj (by omega)).mp h.2, rfl⟩
theorem isReg_i {j : Nat} (h : j < 8) : isReg (nI j) := ⟨by rw [nI_0]; exact nI_pos (by omega), nI_lt h (by omega)⟩
theorem isPlc_i {j : Nat} (h : j < 51) : isPlc (nI j) := ⟨by rw [nI_0]; exact nI_pos (by omega), nI_lt h (by omega)⟩
abbrev okA (a x y z : Int32) : Prop := (a = nI 0 ∨ a = nI 14) ∧ x = nI 0 ∧ y = nI 0 ∧ z = nI 0 ∨ a = nI 1 ∧ isReg x ∧ z = nI 0 ∨ (a = nI 2 ∨ a = nI 10) ∧ isReg x ∧ isReg y ∧ z = nI 0 ∨ (¬ a < nI 3 ∧ ¬ nI 9 < a) ∧ isReg x ∧ isReg y ∧ isReg z ∨ a = nI 11 ∧ isReg x ∧ y = nI 0 ∧ z = nI 0 ∨ a = nI 12 ∧ x = nI 0 ∧ isPlc y ∧ z = nI 0 ∨ a = nI 13 ∧ isReg x ∧ isPlc y ∧ z = nI 0
theorem lgc_eq (x y : Int64) : (lg_cmp x y = nI 0) ↔ x = y := lg_cmp_eq x y
theorem lgc_lt (x y : Int64) : (lg_cmp x y < nI 0) ↔ x < y := lg_cmp_lt x y
theorem lgc_gt (x y : Int64) : (nI 0 < lg_cmp x y) ↔ y < x := lg_cmp_gt x y
def reck (a : Int32) (y z : Int64) : Int64 := if a = nI 3 then y + z else if a = nI 4 then y - z else if a = nI 5 then y * z else if a = nI 6 then (if z = 0 then 0 else y / z) else if a = nI 7 then (if z = 0 then 0 else y - y / z * z) else if a = nI 8 then (if y < z then 1 else 0) else if a = nI 9 then (if y = z then 1 else 0) else 0
section C43
variable {d : Nat} {lim : Nat × Nat} {G : mj_H} {Q : mj_Q}
theorem q_if {c : Prop} [Decidable c] {A B D : Prop} (h1 : c → (A ↔ D)) (h2 : ¬ c → (B ↔ D)) : (if c then A else B) ↔ D := by
  by_cases h : c
  · rw [if_pos h]; exact h1 h
  · rw [if_neg h]; exact h2 h
theorem c_Code_reckon {a : Int32} {y z : Int64} : mj_V d lim mq_Code_reckon 0 [.int a, .long y, mj_j, .long z, mj_j] [] G Q ↔ Q (some (.long (reck a y z))) G := by
  unfold reck
  by_cases hz : z = 0
  · simp (disch := assumption) only [zi_Code_reckon_0, zi_Code_reckon_1, zi_Code_reckon_44, zi_Code_reckon_45, zi_Code_reckon_46, zi_Code_reckon_47, zi_Code_reckon_48, zi_Code_reckon_49, zi_Code_reckon_50, zi_Code_reckon_51, zi_Code_reckon_52, zi_Code_reckon_53, zi_Code_reckon_54, zi_Code_reckon_55, zi_Code_reckon_56, zi_Code_reckon_57, zi_Code_reckon_58, zi_Code_reckon_59, zi_Code_reckon_62, zi_Code_reckon_63, zi_Code_reckon_66, zi_Code_reckon_67, zi_Code_reckon_68, zi_Code_reckon_69, zi_Code_reckon_70, zi_Code_reckon_71, zi_Code_reckon_72, zi_Code_reckon_73, zi_Code_reckon_76, zi_Code_reckon_77, zi_Code_reckon_80, zi_Code_reckon_81, zi_Code_reckon_82, zi_Code_reckon_83, zi_Code_reckon_84, zi_Code_reckon_85, zi_Code_reckon_86, zi_Code_reckon_87, zi_Code_reckon_90, zi_Code_reckon_91, zi_Code_reckon_94, zi_Code_reckon_95, zi_Code_reckon_96, zi_Code_reckon_97, zi_Code_reckon_98, zi_Code_reckon_99, zi_Code_reckon_102, zi_Code_reckon_103, zi_Code_reckon_106, zi_Code_reckon_107, zi_Code_reckon_108, zi_Code_reckon_109, ↓reduceIte, mj_op_s, Option.toList_some, Option.toList_none, List.cons_append, List.nil_append, hp_1, hp_2, true_and, and_true, zb_0, zb_1, zb_b, va_rf, lgc_eq, lgc_lt, hz, if_true]
    repeat' refine q_if (fun hc => ?_) (fun hc => ?_)
    all_goals simp (decide := true) only [*, if_true, if_false]
  · simp (disch := assumption) only [zi_Code_reckon_0, zi_Code_reckon_1, zi_Code_reckon_44, zi_Code_reckon_45, zi_Code_reckon_46, zi_Code_reckon_47, zi_Code_reckon_48, zi_Code_reckon_49, zi_Code_reckon_50, zi_Code_reckon_51, zi_Code_reckon_52, zi_Code_reckon_53, zi_Code_reckon_54, zi_Code_reckon_55, zi_Code_reckon_56, zi_Code_reckon_57, zi_Code_reckon_58, zi_Code_reckon_59, zi_Code_reckon_62, zi_Code_reckon_63, zi_Code_reckon_66, zi_Code_reckon_67, zi_Code_reckon_68, zi_Code_reckon_69, zi_Code_reckon_70, zi_Code_reckon_71, zi_Code_reckon_72, zi_Code_reckon_73, zi_Code_reckon_76, zi_Code_reckon_77, zi_Code_reckon_80, zi_Code_reckon_81, zi_Code_reckon_82, zi_Code_reckon_83, zi_Code_reckon_84, zi_Code_reckon_85, zi_Code_reckon_86, zi_Code_reckon_87, zi_Code_reckon_90, zi_Code_reckon_91, zi_Code_reckon_94, zi_Code_reckon_95, zi_Code_reckon_96, zi_Code_reckon_97, zi_Code_reckon_98, zi_Code_reckon_99, zi_Code_reckon_102, zi_Code_reckon_103, zi_Code_reckon_106, zi_Code_reckon_107, zi_Code_reckon_108, zi_Code_reckon_109, ↓reduceIte, mj_op_s, Option.toList_some, Option.toList_none, List.cons_append, List.nil_append, hp_1, hp_2, true_and, and_true, zb_0, zb_1, zb_b, va_rf, lgc_eq, lgc_lt, hz, if_false]
    repeat' refine q_if (fun hc => ?_) (fun hc => ?_)
    all_goals simp (decide := true) only [*, if_true, if_false]
theorem okA_z (x y z : Int32) : okA (nI 0) x y z ↔ x = nI 0 ∧ y = nI 0 ∧ z = nI 0 := by
  simp (decide := true) only [okA, false_and, true_and, or_false, false_or, true_or]
theorem okA_h (x y z : Int32) : okA (nI 14) x y z ↔ x = nI 0 ∧ y = nI 0 ∧ z = nI 0 := by
  simp (decide := true) only [okA, false_and, true_and, or_false, false_or, or_true, and_false]
theorem okA_s (x y z : Int32) : okA (nI 1) x y z ↔ isReg x ∧ z = nI 0 := by
  simp (decide := true) only [okA, false_and, true_and, or_false, false_or, or_true, and_false, or_self]
theorem okA_m (x y z : Int32) : okA (nI 2) x y z ↔ isReg x ∧ isReg y ∧ z = nI 0 := by
  simp (decide := true) only [okA, false_and, true_and, or_false, false_or, or_true, and_false, or_self, true_or]
theorem okA_r (x y z : Int32) : okA (nI 10) x y z ↔ isReg x ∧ isReg y ∧ z = nI 0 := by
  simp (decide := true) only [okA, false_and, true_and, or_false, false_or, or_true, and_false, or_self, true_or]
theorem okA_o (x y z : Int32) : okA (nI 11) x y z ↔ isReg x ∧ y = nI 0 ∧ z = nI 0 := by
  simp (decide := true) only [okA, false_and, true_and, or_false, false_or, or_true, and_false, or_self, true_or]
theorem okA_j (x y z : Int32) : okA (nI 12) x y z ↔ x = nI 0 ∧ isPlc y ∧ z = nI 0 := by
  simp (decide := true) only [okA, false_and, true_and, or_false, false_or, or_true, and_false, or_self, true_or]
theorem okA_i (x y z : Int32) : okA (nI 13) x y z ↔ isReg x ∧ isPlc y ∧ z = nI 0 := by
  simp (decide := true) only [okA, false_and, true_and, or_false, false_or, or_true, and_false, or_self, true_or]
theorem isMd_n {a : Int32} (h : ¬ a < nI 3 ∧ ¬ nI 9 < a) : ∃ k, 3 ≤ k ∧ k ≤ 9 ∧ a = nI k := by
  have h0 : ¬ a < 0 := fun z => h.1 (by
    have e : (nI 3).toInt = 3 := by decide
    have := Int32.lt_iff_toInt_lt.mp z
    refine Int32.lt_iff_toInt_lt.mpr ?_
    have e0 : (0 : Int32).toInt = 0 := by decide
    omega)
  obtain ⟨k, hk, rfl⟩ := nI_of h0
  refine ⟨k, Nat.not_lt.mp (fun z => h.1 (nI_lt z (by omega))), Nat.not_lt.mp (fun z => h.2 (nI_lt z (by omega))), rfl⟩
theorem okA_g {k : Nat} (h1 : 3 ≤ k) (h2 : k ≤ 9) (x y z : Int32) : okA (nI k) x y z ↔ isReg x ∧ isReg y ∧ isReg z := by
  have hk : k = 3 ∨ k = 4 ∨ k = 5 ∨ k = 6 ∨ k = 7 ∨ k = 8 ∨ k = 9 := by omega
  rcases hk with rfl | rfl | rfl | rfl | rfl | rfl | rfl <;> simp (decide := true) only [okA, false_and, true_and, or_false, false_or, or_true, and_false, or_self, true_or, and_self]
theorem c_Code_isAct {a x y z : Int32} : mj_V (d + 1) lim mq_Code_isAct 0 [.int a, .int x, .int y, .int z] [] G Q ↔ Q (some (.int (bI (okA a x y z)))) G := by
  have t0 : ∀ {P : Prop} [Decidable P], ¬ P → (Q (some (.int (nI 0))) G ↔ Q (some (.int (bI P))) G) := by
    intro P _ h
    rw [bI_f h]
  have t1 : ∀ {P : Prop} [Decidable P], P → (Q (some (.int (nI 1))) G ↔ Q (some (.int (bI P))) G) := by
    intro P _ h
    rw [bI_t h]
  simp only [zi_Code_isAct_0, zi_Code_isAct_1, zi_Code_isAct_76, zi_Code_isAct_77, zi_Code_isAct_80, zi_Code_isAct_81, zi_Code_isAct_84, zi_Code_isAct_85, zi_Code_isAct_88, zi_Code_isAct_89, zi_Code_isAct_92, zi_Code_isAct_93, zi_Code_isAct_94, zi_Code_isAct_95, zi_Code_isAct_98, zi_Code_isAct_101, zi_Code_isAct_102, zi_Code_isAct_105, zi_Code_isAct_106, zi_Code_isAct_109, zi_Code_isAct_110, zi_Code_isAct_111, zi_Code_isAct_112, zi_Code_isAct_115, zi_Code_isAct_118, zi_Code_isAct_119, zi_Code_isAct_122, zi_Code_isAct_125, zi_Code_isAct_126, zi_Code_isAct_129, zi_Code_isAct_130, zi_Code_isAct_133, zi_Code_isAct_134, zi_Code_isAct_135, zi_Code_isAct_136, zi_Code_isAct_139, zi_Code_isAct_142, zi_Code_isAct_143, zi_Code_isAct_146, zi_Code_isAct_147, zi_Code_isAct_150, zi_Code_isAct_151, zi_Code_isAct_154, zi_Code_isAct_155, zi_Code_isAct_156, zi_Code_isAct_157, zi_Code_isAct_160, zi_Code_isAct_161, zi_Code_isAct_164, zi_Code_isAct_167, zi_Code_isAct_168, zi_Code_isAct_171, zi_Code_isAct_172, zi_Code_isAct_175, zi_Code_isAct_176, zi_Code_isAct_177, zi_Code_isAct_178, zi_Code_isAct_181, zi_Code_isAct_184, zi_Code_isAct_185, zi_Code_isAct_188, zi_Code_isAct_191, zi_Code_isAct_192, zi_Code_isAct_195, zi_Code_isAct_196, zi_Code_isAct_199, zi_Code_isAct_200, zi_Code_isAct_201, zi_Code_isAct_202, zi_Code_isAct_205, zi_Code_isAct_208, zi_Code_isAct_209, zi_Code_isAct_212, zi_Code_isAct_215, zi_Code_isAct_216, zi_Code_isAct_219, zi_Code_isAct_222, zi_Code_isAct_223, zi_Code_isAct_226, zi_Code_isAct_229, zi_Code_isAct_230, zi_Code_isAct_233, zi_Code_isAct_234, ↓reduceIte, mj_op_s, Option.toList_some, Option.toList_none, List.cons_append, List.nil_append, hp_1, hp_2, true_and, and_true, zb_0, zb_1, zb_b, va_rf, c_Code_isRegister, c_Code_isPlace, c_Code_isReckoning, bI_0]
  by_cases h0 : a = nI 0
  · subst h0
    simp (decide := true) only [if_true, if_false]
    repeat' refine q_if (fun hc => ?_) (fun hc => ?_)
    all_goals first | exact t0 (fun p => by obtain ⟨p1, p2, p3⟩ := (okA_z _ _ _).mp p; contradiction) | exact t1 ((okA_z _ _ _).mpr ⟨by (first | assumption | exact Decidable.not_not.mp (by assumption)), by (first | assumption | exact Decidable.not_not.mp (by assumption)), by (first | assumption | exact Decidable.not_not.mp (by assumption))⟩)
  rw [if_neg h0]
  by_cases h1 : a = nI 1
  · subst h1
    simp (decide := true) only [if_true, if_false]
    repeat' refine q_if (fun hc => ?_) (fun hc => ?_)
    all_goals first | exact t0 (fun p => by obtain ⟨p1, p2⟩ := (okA_s _ _ _).mp p; contradiction) | exact t1 ((okA_s _ _ _).mpr ⟨by (first | assumption | exact Decidable.not_not.mp (by assumption)), by (first | assumption | exact Decidable.not_not.mp (by assumption))⟩)
  rw [if_neg h1]
  by_cases h2 : a = nI 2
  · subst h2
    simp (decide := true) only [if_true, if_false]
    repeat' refine q_if (fun hc => ?_) (fun hc => ?_)
    all_goals first | exact t0 (fun p => by obtain ⟨p1, p2, p3⟩ := (okA_m _ _ _).mp p; contradiction) | exact t1 ((okA_m _ _ _).mpr ⟨by (first | assumption | exact Decidable.not_not.mp (by assumption)), by (first | assumption | exact Decidable.not_not.mp (by assumption)), by (first | assumption | exact Decidable.not_not.mp (by assumption))⟩)
  rw [if_neg h2]
  by_cases h3 : a = nI 3
  · subst h3
    simp (decide := true) only [if_true, if_false]
    repeat' refine q_if (fun hc => ?_) (fun hc => ?_)
    all_goals first | exact t0 (fun p => by obtain ⟨p1, p2, p3⟩ := (okA_g (k := 3) (by omega) (by omega) _ _ _).mp p; contradiction) | exact t1 ((okA_g (k := 3) (by omega) (by omega) _ _ _).mpr ⟨by (first | assumption | exact Decidable.not_not.mp (by assumption)), by (first | assumption | exact Decidable.not_not.mp (by assumption)), by (first | assumption | exact Decidable.not_not.mp (by assumption))⟩)
  rw [if_neg h3]
  by_cases h4 : a = nI 4
  · subst h4
    simp (decide := true) only [if_true, if_false]
    repeat' refine q_if (fun hc => ?_) (fun hc => ?_)
    all_goals first | exact t0 (fun p => by obtain ⟨p1, p2, p3⟩ := (okA_g (k := 4) (by omega) (by omega) _ _ _).mp p; contradiction) | exact t1 ((okA_g (k := 4) (by omega) (by omega) _ _ _).mpr ⟨by (first | assumption | exact Decidable.not_not.mp (by assumption)), by (first | assumption | exact Decidable.not_not.mp (by assumption)), by (first | assumption | exact Decidable.not_not.mp (by assumption))⟩)
  rw [if_neg h4]
  by_cases h5 : a = nI 5
  · subst h5
    simp (decide := true) only [if_true, if_false]
    repeat' refine q_if (fun hc => ?_) (fun hc => ?_)
    all_goals first | exact t0 (fun p => by obtain ⟨p1, p2, p3⟩ := (okA_g (k := 5) (by omega) (by omega) _ _ _).mp p; contradiction) | exact t1 ((okA_g (k := 5) (by omega) (by omega) _ _ _).mpr ⟨by (first | assumption | exact Decidable.not_not.mp (by assumption)), by (first | assumption | exact Decidable.not_not.mp (by assumption)), by (first | assumption | exact Decidable.not_not.mp (by assumption))⟩)
  rw [if_neg h5]
  by_cases h6 : a = nI 6
  · subst h6
    simp (decide := true) only [if_true, if_false]
    repeat' refine q_if (fun hc => ?_) (fun hc => ?_)
    all_goals first | exact t0 (fun p => by obtain ⟨p1, p2, p3⟩ := (okA_g (k := 6) (by omega) (by omega) _ _ _).mp p; contradiction) | exact t1 ((okA_g (k := 6) (by omega) (by omega) _ _ _).mpr ⟨by (first | assumption | exact Decidable.not_not.mp (by assumption)), by (first | assumption | exact Decidable.not_not.mp (by assumption)), by (first | assumption | exact Decidable.not_not.mp (by assumption))⟩)
  rw [if_neg h6]
  by_cases h7 : a = nI 7
  · subst h7
    simp (decide := true) only [if_true, if_false]
    repeat' refine q_if (fun hc => ?_) (fun hc => ?_)
    all_goals first | exact t0 (fun p => by obtain ⟨p1, p2, p3⟩ := (okA_g (k := 7) (by omega) (by omega) _ _ _).mp p; contradiction) | exact t1 ((okA_g (k := 7) (by omega) (by omega) _ _ _).mpr ⟨by (first | assumption | exact Decidable.not_not.mp (by assumption)), by (first | assumption | exact Decidable.not_not.mp (by assumption)), by (first | assumption | exact Decidable.not_not.mp (by assumption))⟩)
  rw [if_neg h7]
  by_cases h8 : a = nI 8
  · subst h8
    simp (decide := true) only [if_true, if_false]
    repeat' refine q_if (fun hc => ?_) (fun hc => ?_)
    all_goals first | exact t0 (fun p => by obtain ⟨p1, p2, p3⟩ := (okA_g (k := 8) (by omega) (by omega) _ _ _).mp p; contradiction) | exact t1 ((okA_g (k := 8) (by omega) (by omega) _ _ _).mpr ⟨by (first | assumption | exact Decidable.not_not.mp (by assumption)), by (first | assumption | exact Decidable.not_not.mp (by assumption)), by (first | assumption | exact Decidable.not_not.mp (by assumption))⟩)
  rw [if_neg h8]
  by_cases h9 : a = nI 9
  · subst h9
    simp (decide := true) only [if_true, if_false]
    repeat' refine q_if (fun hc => ?_) (fun hc => ?_)
    all_goals first | exact t0 (fun p => by obtain ⟨p1, p2, p3⟩ := (okA_g (k := 9) (by omega) (by omega) _ _ _).mp p; contradiction) | exact t1 ((okA_g (k := 9) (by omega) (by omega) _ _ _).mpr ⟨by (first | assumption | exact Decidable.not_not.mp (by assumption)), by (first | assumption | exact Decidable.not_not.mp (by assumption)), by (first | assumption | exact Decidable.not_not.mp (by assumption))⟩)
  rw [if_neg h9]
  by_cases h10 : a = nI 10
  · subst h10
    simp (decide := true) only [if_true, if_false]
    repeat' refine q_if (fun hc => ?_) (fun hc => ?_)
    all_goals first | exact t0 (fun p => by obtain ⟨p1, p2, p3⟩ := (okA_r _ _ _).mp p; contradiction) | exact t1 ((okA_r _ _ _).mpr ⟨by (first | assumption | exact Decidable.not_not.mp (by assumption)), by (first | assumption | exact Decidable.not_not.mp (by assumption)), by (first | assumption | exact Decidable.not_not.mp (by assumption))⟩)
  rw [if_neg h10]
  by_cases h11 : a = nI 11
  · subst h11
    simp (decide := true) only [if_true, if_false]
    repeat' refine q_if (fun hc => ?_) (fun hc => ?_)
    all_goals first | exact t0 (fun p => by obtain ⟨p1, p2, p3⟩ := (okA_o _ _ _).mp p; contradiction) | exact t1 ((okA_o _ _ _).mpr ⟨by (first | assumption | exact Decidable.not_not.mp (by assumption)), by (first | assumption | exact Decidable.not_not.mp (by assumption)), by (first | assumption | exact Decidable.not_not.mp (by assumption))⟩)
  rw [if_neg h11]
  by_cases h12 : a = nI 12
  · subst h12
    simp (decide := true) only [if_true, if_false]
    repeat' refine q_if (fun hc => ?_) (fun hc => ?_)
    all_goals first | exact t0 (fun p => by obtain ⟨p1, p2, p3⟩ := (okA_j _ _ _).mp p; contradiction) | exact t1 ((okA_j _ _ _).mpr ⟨by (first | assumption | exact Decidable.not_not.mp (by assumption)), by (first | assumption | exact Decidable.not_not.mp (by assumption)), by (first | assumption | exact Decidable.not_not.mp (by assumption))⟩)
  rw [if_neg h12]
  by_cases h13 : a = nI 13
  · subst h13
    simp (decide := true) only [if_true, if_false]
    repeat' refine q_if (fun hc => ?_) (fun hc => ?_)
    all_goals first | exact t0 (fun p => by obtain ⟨p1, p2, p3⟩ := (okA_i _ _ _).mp p; contradiction) | exact t1 ((okA_i _ _ _).mpr ⟨by (first | assumption | exact Decidable.not_not.mp (by assumption)), by (first | assumption | exact Decidable.not_not.mp (by assumption)), by (first | assumption | exact Decidable.not_not.mp (by assumption))⟩)
  rw [if_neg h13]
  by_cases h14 : a = nI 14
  · subst h14
    simp (decide := true) only [if_true, if_false]
    repeat' refine q_if (fun hc => ?_) (fun hc => ?_)
    all_goals first | exact t0 (fun p => by obtain ⟨p1, p2, p3⟩ := (okA_h _ _ _).mp p; contradiction) | exact t1 ((okA_h _ _ _).mpr ⟨by (first | assumption | exact Decidable.not_not.mp (by assumption)), by (first | assumption | exact Decidable.not_not.mp (by assumption)), by (first | assumption | exact Decidable.not_not.mp (by assumption))⟩)
  rw [if_neg h14]
  have hno : ¬ (¬ a < nI 3 ∧ ¬ nI 9 < a) := fun z => by
    obtain ⟨k, h1', h2', e⟩ := isMd_n z
    have hk : k = 3 ∨ k = 4 ∨ k = 5 ∨ k = 6 ∨ k = 7 ∨ k = 8 ∨ k = 9 := by omega
    rcases hk with rfl | rfl | rfl | rfl | rfl | rfl | rfl <;> contradiction
  rw [if_pos hno]
  refine t0 (fun p => ?_)
  rcases p with ⟨q1, -⟩ | ⟨q1, -⟩ | ⟨q1, -⟩ | ⟨q1, -⟩ | ⟨q1, -⟩ | ⟨q1, -⟩ | ⟨q1, -⟩
  · exact q1.elim (fun z => h0 z) (fun z => h14 z)
  · exact h1 q1
  · exact q1.elim (fun z => h2 z) (fun z => h10 z)
  · exact hno q1
  · exact h11 q1
  · exact h12 q1
  · exact h13 q1
end C43
