/-! contracts: Code -/
section C40
variable {d : Nat} {lim : Nat × Nat} {G : mj_H} {Q : mj_Q}


theorem c_Code_isRegister {x : Int32} : mj_V d lim mq_Code_isRegister 0 [.int x] [] G Q ↔ Q (some (.int (bI (¬ x < nI 0 ∧ x < nI 8)))) G := by
  simp only [zi_Code_isRegister_0, zi_Code_isRegister_1, zi_Code_isRegister_4, zi_Code_isRegister_5, zi_Code_isRegister_7, zi_Code_isRegister_10, zi_Code_isRegister_11, zi_Code_isRegister_14, zi_Code_isRegister_15, ↓reduceIte, mj_op_s, Option.toList_some, Option.toList_none, List.cons_append, List.nil_append, hp_1, hp_2, true_and, and_true, zb_0, zb_1, zb_b, va_rf]
  by_cases h1 : x < nI 0 <;> by_cases h2 : x < nI 8 <;> simp only [h1, h2, bI, if_true, if_false, not_true_eq_false, not_false_eq_true, and_true, and_false, true_and, false_and, ite_self]
theorem c_Code_isPlace {x : Int32} : mj_V d lim mq_Code_isPlace 0 [.int x] [] G Q ↔ Q (some (.int (bI (¬ x < nI 0 ∧ x < nI 51)))) G := by
  simp only [zi_Code_isPlace_0, zi_Code_isPlace_1, zi_Code_isPlace_4, zi_Code_isPlace_5, zi_Code_isPlace_7, zi_Code_isPlace_10, zi_Code_isPlace_11, zi_Code_isPlace_14, zi_Code_isPlace_15, ↓reduceIte, mj_op_s, Option.toList_some, Option.toList_none, List.cons_append, List.nil_append, hp_1, hp_2, true_and, and_true, zb_0, zb_1, zb_b, va_rf]
  by_cases h1 : x < nI 0 <;> by_cases h2 : x < nI 51 <;> simp only [h1, h2, bI, if_true, if_false, not_true_eq_false, not_false_eq_true, and_true, and_false, true_and, false_and, ite_self]
theorem c_Code_isReckoning {x : Int32} : mj_V d lim mq_Code_isReckoning 0 [.int x] [] G Q ↔ Q (some (.int (bI (¬ x < nI 3 ∧ ¬ nI 9 < x)))) G := by
  simp only [zi_Code_isReckoning_0, zi_Code_isReckoning_1, zi_Code_isReckoning_2, zi_Code_isReckoning_5, zi_Code_isReckoning_6, zi_Code_isReckoning_8, zi_Code_isReckoning_11, zi_Code_isReckoning_12, zi_Code_isReckoning_15, zi_Code_isReckoning_16, ↓reduceIte, mj_op_s, Option.toList_some, Option.toList_none, List.cons_append, List.nil_append, hp_1, hp_2, true_and, and_true, zb_0, zb_1, zb_b, va_rf]
  by_cases h1 : x < nI 3 <;> by_cases h2 : nI 9 < x <;> simp only [h1, h2, bI, if_true, if_false, not_true_eq_false, not_false_eq_true, and_true, and_false, true_and, false_and, ite_self]
theorem c_Code_isDivision {x : Int32} : mj_V d lim mq_Code_isDivision 0 [.int x] [] G Q ↔ Q (some (.int (bI (x = nI 6 ∨ x = nI 7)))) G := by
  simp only [zi_Code_isDivision_0, zi_Code_isDivision_1, zi_Code_isDivision_3, zi_Code_isDivision_6, zi_Code_isDivision_7, zi_Code_isDivision_9, zi_Code_isDivision_12, zi_Code_isDivision_13, zi_Code_isDivision_16, zi_Code_isDivision_17, ↓reduceIte, mj_op_s, Option.toList_some, Option.toList_none, List.cons_append, List.nil_append, hp_1, hp_2, true_and, and_true, zb_0, zb_1, zb_b, va_rf]
  by_cases h1 : x = nI 6 <;> by_cases h2 : x = nI 7 <;> simp only [h1, h2, bI, if_true, if_false, or_true, true_or, or_false, false_or, or_self, ite_self]
theorem c_Code_makesX {x : Int32} : mj_V d lim mq_Code_makesX 0 [.int x] [] G Q ↔ Q (some (.int (bI (¬ x < nI 1 ∧ ¬ nI 10 < x)))) G := by
  simp only [zi_Code_makesX_0, zi_Code_makesX_1, zi_Code_makesX_2, zi_Code_makesX_5, zi_Code_makesX_6, zi_Code_makesX_8, zi_Code_makesX_11, zi_Code_makesX_12, zi_Code_makesX_15, zi_Code_makesX_16, ↓reduceIte, mj_op_s, Option.toList_some, Option.toList_none, List.cons_append, List.nil_append, hp_1, hp_2, true_and, and_true, zb_0, zb_1, zb_b, va_rf]
  by_cases h1 : x < nI 1 <;> by_cases h2 : nI 10 < x <;> simp only [h1, h2, bI, if_true, if_false, not_true_eq_false, not_false_eq_true, and_true, and_false, true_and, false_and, ite_self]
theorem c_Code_goesToNext {x : Int32} : mj_V d lim mq_Code_goesToNext 0 [.int x] [] G Q ↔ Q (some (.int (bI (¬ x = nI 12 ∧ ¬ x = nI 14)))) G := by
  simp only [zi_Code_goesToNext_0, zi_Code_goesToNext_1, zi_Code_goesToNext_3, zi_Code_goesToNext_6, zi_Code_goesToNext_7, zi_Code_goesToNext_9, zi_Code_goesToNext_12, zi_Code_goesToNext_13, zi_Code_goesToNext_16, zi_Code_goesToNext_17, ↓reduceIte, mj_op_s, Option.toList_some, Option.toList_none, List.cons_append, List.nil_append, hp_1, hp_2, true_and, and_true, zb_0, zb_1, zb_b, va_rf]
  by_cases h1 : x = nI 12 <;> by_cases h2 : x = nI 14 <;> simp only [h1, h2, bI, if_true, if_false, not_true_eq_false, not_false_eq_true, and_true, and_false, true_and, false_and, ite_self]
theorem c_Code_goesToY {x : Int32} : mj_V d lim mq_Code_goesToY 0 [.int x] [] G Q ↔ Q (some (.int (bI (x = nI 12 ∨ x = nI 13)))) G := by
  simp only [zi_Code_goesToY_0, zi_Code_goesToY_1, zi_Code_goesToY_3, zi_Code_goesToY_6, zi_Code_goesToY_7, zi_Code_goesToY_9, zi_Code_goesToY_12, zi_Code_goesToY_13, zi_Code_goesToY_16, zi_Code_goesToY_17, ↓reduceIte, mj_op_s, Option.toList_some, Option.toList_none, List.cons_append, List.nil_append, hp_1, hp_2, true_and, and_true, zb_0, zb_1, zb_b, va_rf]
  by_cases h1 : x = nI 12 <;> by_cases h2 : x = nI 13 <;> simp only [h1, h2, bI, if_true, if_false, or_true, true_or, or_false, false_or, or_self, ite_self]
end C40
