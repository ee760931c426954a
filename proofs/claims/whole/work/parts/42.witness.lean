/-! contracts: Witness -/
section C42
variable {d : Nat} {lim : Nat × Nat} {Q : mj_Q} {M : mm}
def itr (f : Nat → mm → mm) : Nat → mm → mm
  | 0, M => M
  | j + 1, M => f j (itr f j M)
theorem c_Witness_hasPair {x : Int32} : mj_V d lim mq_Witness_hasPair 0 [.ref 231, .int x] [] (hp M) Q ↔ Q (some (.int (bI (¬ x < nI 0 ∧ x < rI M 231 6)))) (hp M) := by
  simp (disch := assumption) only [zi_Witness_hasPair_0, zi_Witness_hasPair_1, zi_Witness_hasPair_4, zi_Witness_hasPair_5, zi_Witness_hasPair_6, zi_Witness_hasPair_9, zi_Witness_hasPair_12, zi_Witness_hasPair_13, zi_Witness_hasPair_16, zi_Witness_hasPair_17, ↓reduceIte, mj_op_s, Option.toList_some, Option.toList_none, List.cons_append, List.nil_append, hp_1, hp_2, true_and, and_true, zb_0, zb_1, zb_b, va_rf, io_231, ↓ogf_231_0, ↓ogf_231_1, ↓ogf_231_2, ↓ogf_231_3, ↓ogf_231_4, ↓ogf_231_5, ↓ogf_231_6, ↓opf_231_6]
  by_cases h1 : x < nI 0 <;> by_cases h2 : x < rI M 231 6 <;> simp only [h1, h2, bI, if_true, if_false, not_true_eq_false, not_false_eq_true, and_true, and_false, true_and, false_and, ite_self]
theorem c_Witness_claimOn {w r : Nat} (hw : w < 200) (hr : r < 8) : mj_V d lim mq_Witness_claimOn 0 [.ref 231, .int (nI w), .int (nI r)] [] (hp M) Q ↔ Q (some (.int (rI M 236 (w * 8 + r)))) (hp M) := by
  simp (disch := omega) only [zi_Witness_claimOn_0, zi_Witness_claimOn_1, zi_Witness_claimOn_4, zi_Witness_claimOn_5, zi_Witness_claimOn_7, zi_Witness_claimOn_8, zi_Witness_claimOn_9, zi_Witness_claimOn_10, zi_Witness_claimOn_11, ↓reduceIte, mj_op_s, Option.toList_some, Option.toList_none, List.cons_append, List.nil_append, hp_1, hp_2, true_and, and_true, zb_0, zb_1, zb_b, va_rf, io_231, ↓ogf_231_0, ↓ogf_231_1, ↓ogf_231_2, ↓ogf_231_3, ↓ogf_231_4, ↓ogf_231_5, ↓ogf_231_6, ↓opf_231_6, ↓oai_236, ↓owi_236, pk_mul, nI_add]
theorem c_Witness_numberOn {w r : Nat} (hw : w < 200) (hr : r < 8) : mj_V d lim mq_Witness_numberOn 0 [.ref 231, .int (nI w), .int (nI r)] [] (hp M) Q ↔ Q (some (.long (rL M 237 (w * 8 + r)))) (hp M) := by
  simp (disch := omega) only [zi_Witness_numberOn_0, zi_Witness_numberOn_1, zi_Witness_numberOn_4, zi_Witness_numberOn_5, zi_Witness_numberOn_7, zi_Witness_numberOn_8, zi_Witness_numberOn_9, zi_Witness_numberOn_10, zi_Witness_numberOn_11, ↓reduceIte, mj_op_s, Option.toList_some, Option.toList_none, List.cons_append, List.nil_append, hp_1, hp_2, true_and, and_true, zb_0, zb_1, zb_b, va_rf, io_231, ↓ogf_231_0, ↓ogf_231_1, ↓ogf_231_2, ↓ogf_231_3, ↓ogf_231_4, ↓ogf_231_5, ↓ogf_231_6, ↓opf_231_6, ↓oal_237, ↓owl_237, pk_mul, nI_add]
def cS (w r : Nat) (c : Int32) (v : Int64) (M : mm) : mm := wL (wI M 236 (w * 8 + r) c) 237 (w * 8 + r) (if c = nI 2 then v else 0)
theorem c_Witness_setClaim {w r : Nat} (hw : w < 200) (hr : r < 8) {c : Int32} {v : Int64} : mj_V d lim mq_Witness_setClaim 0 [.ref 231, .int (nI w), .int (nI r), .int c, .long v, mj_j] [] (hp M) Q ↔ Q none (hp (cS w r c v M)) := by
  simp (disch := omega) only [zi_Witness_setClaim_0, zi_Witness_setClaim_1, zi_Witness_setClaim_4, zi_Witness_setClaim_5, zi_Witness_setClaim_7, zi_Witness_setClaim_8, zi_Witness_setClaim_9, zi_Witness_setClaim_10, zi_Witness_setClaim_11, zi_Witness_setClaim_12, zi_Witness_setClaim_13, zi_Witness_setClaim_16, zi_Witness_setClaim_17, zi_Witness_setClaim_19, zi_Witness_setClaim_20, zi_Witness_setClaim_21, zi_Witness_setClaim_22, zi_Witness_setClaim_23, zi_Witness_setClaim_24, zi_Witness_setClaim_27, zi_Witness_setClaim_29, zi_Witness_setClaim_32, zi_Witness_setClaim_33, zi_Witness_setClaim_34, ↓reduceIte, mj_op_s, Option.toList_some, Option.toList_none, List.cons_append, List.nil_append, hp_1, hp_2, true_and, and_true, zb_0, zb_1, zb_b, va_rf, io_231, ↓ogf_231_0, ↓ogf_231_1, ↓ogf_231_2, ↓ogf_231_3, ↓ogf_231_4, ↓ogf_231_5, ↓ogf_231_6, ↓opf_231_6, ↓oai_236, ↓owi_236, ↓oal_237, ↓owl_237, pk_mul, nI_add, cS]
  by_cases h : c = nI 2 <;> simp only [h, if_true, if_false]
theorem l_Witness_append {w : Nat} (hw : w < 200) {y1 y2 y3 y4 : Int32} : ∀ (m j : Nat), j + m = 8 → (mj_V (d + 1) lim mq_Witness_append 52 [.ref 231, .int y1, .int y2, .int y3, .int y4, .int (nI w), .int (nI j)] [] (hp (itr (fun r => cS w r (nI 0) 0) j M)) Q ↔ Q (some (.int (nI w))) (hp (itr (fun r => cS w r (nI 0) 0) 8 M))) := by
  intro m
  induction m with
  | zero =>
    intro j hj
    obtain rfl : j = 8 := by omega
    rw [zi_Witness_append_52]
    simp only [zi_Witness_append_54, zi_Witness_append_56, zi_Witness_append_59, zi_Witness_append_60, zi_Witness_append_62, zi_Witness_append_64, zi_Witness_append_65, zi_Witness_append_66, zi_Witness_append_69, zi_Witness_append_72, zi_Witness_append_75, zi_Witness_append_77, ↓reduceIte, mj_op_s, Option.toList_some, Option.toList_none, List.cons_append, List.nil_append, hp_1, hp_2, true_and, and_true, zb_0, zb_1, zb_b, va_rf, nI_ltI (show 8 < 2 ^ 31 by omega) (show 8 < 2 ^ 31 by omega), Nat.lt_irrefl, if_false]
  | succ m ih =>
    intro j hj
    have hj8 : j < 8 := by omega
    have e1 : nI j < nI 8 := nI_lt (by omega) (by omega)
    rw [zi_Witness_append_52]
    simp (disch := assumption) only [zi_Witness_append_54, zi_Witness_append_56, zi_Witness_append_59, zi_Witness_append_60, zi_Witness_append_62, zi_Witness_append_64, zi_Witness_append_65, zi_Witness_append_66, zi_Witness_append_69, zi_Witness_append_72, ↓reduceIte, mj_op_s, Option.toList_some, Option.toList_none, List.cons_append, List.nil_append, hp_1, hp_2, true_and, and_true, zb_0, zb_1, zb_b, va_rf, io_231, ↓ogf_231_0, ↓ogf_231_1, ↓ogf_231_2, ↓ogf_231_3, ↓ogf_231_4, ↓ogf_231_5, ↓ogf_231_6, ↓opf_231_6, c_Witness_setClaim, e1, if_true, nI_add]
    exact ih (j + 1) (by omega)
/-- a PAIR more, all its claims c -/
def wA (w : Nat) (f s m e : Int32) (M : mm) : mm := wI (wI (wI (wI (wI M 231 6 (nI (w + 1))) 232 w f) 233 w s) 234 w m) 235 w e
theorem c_Witness_append {w : Nat} (hw : w < 200) (hs : rI M 231 6 = nI w) {y1 y2 y3 y4 : Int32} : mj_V (d + 1) lim mq_Witness_append 0 [.ref 231, .int y1, .int y2, .int y3, .int y4, mj_j, mj_j] [] (hp M) Q ↔ Q (some (.int (nI w))) (hp (itr (fun r => cS w r (nI 0) 0) 8 (wA w y1 y2 y3 y4 M))) := by
  have e := fun M => l_Witness_append (M := M) (d := d) (lim := lim) (Q := Q) hw (y1 := y1) (y2 := y2) (y3 := y3) (y4 := y4) 8 0 (by omega)
  simp (disch := assumption) only [zi_Witness_append_0, zi_Witness_append_1, zi_Witness_append_4, zi_Witness_append_6, zi_Witness_append_7, zi_Witness_append_8, zi_Witness_append_11, zi_Witness_append_12, zi_Witness_append_13, zi_Witness_append_16, zi_Witness_append_17, zi_Witness_append_20, zi_Witness_append_22, zi_Witness_append_23, zi_Witness_append_24, zi_Witness_append_25, zi_Witness_append_28, zi_Witness_append_30, zi_Witness_append_31, zi_Witness_append_32, zi_Witness_append_33, zi_Witness_append_36, zi_Witness_append_38, zi_Witness_append_39, zi_Witness_append_40, zi_Witness_append_41, zi_Witness_append_44, zi_Witness_append_46, zi_Witness_append_48, zi_Witness_append_49, zi_Witness_append_50, ↓reduceIte, mj_op_s, Option.toList_some, Option.toList_none, List.cons_append, List.nil_append, hp_1, hp_2, true_and, and_true, zb_0, zb_1, zb_b, va_rf, io_231, ↓ogf_231_0, ↓ogf_231_1, ↓ogf_231_2, ↓ogf_231_3, ↓ogf_231_4, ↓ogf_231_5, ↓ogf_231_6, ↓opf_231_6, ↓oai_232, ↓owi_232, ↓oai_233, ↓owi_233, ↓oai_234, ↓owi_234, ↓oai_235, ↓owi_235, hs, nI_add]
  exact e _
theorem l_Witness_appendAllSame {w : Nat} (hw : w < 200) {y1 y2 y3 y4 : Int32} : ∀ (m j : Nat), j + m = 8 → (mj_V (d + 2) lim mq_Witness_appendAllSame 14 [.ref 231, .int y1, .int y2, .int y3, .int y4, .int (nI w), .int (nI j)] [] (hp (itr (fun r => cS w r (nI 1) 0) j M)) Q ↔ Q none (hp (itr (fun r => cS w r (nI 1) 0) 8 M))) := by
  intro m
  induction m with
  | zero =>
    intro j hj
    obtain rfl : j = 8 := by omega
    rw [zi_Witness_appendAllSame_14]
    simp only [zi_Witness_appendAllSame_16, zi_Witness_appendAllSame_18, zi_Witness_appendAllSame_21, zi_Witness_appendAllSame_22, zi_Witness_appendAllSame_24, zi_Witness_appendAllSame_26, zi_Witness_appendAllSame_27, zi_Witness_appendAllSame_28, zi_Witness_appendAllSame_31, zi_Witness_appendAllSame_34, zi_Witness_appendAllSame_37, ↓reduceIte, mj_op_s, Option.toList_some, Option.toList_none, List.cons_append, List.nil_append, hp_1, hp_2, true_and, and_true, zb_0, zb_1, zb_b, va_rf, nI_ltI (show 8 < 2 ^ 31 by omega) (show 8 < 2 ^ 31 by omega), Nat.lt_irrefl, if_false]
  | succ m ih =>
    intro j hj
    have hj8 : j < 8 := by omega
    have e1 : nI j < nI 8 := nI_lt (by omega) (by omega)
    rw [zi_Witness_appendAllSame_14]
    simp (disch := assumption) only [zi_Witness_appendAllSame_16, zi_Witness_appendAllSame_18, zi_Witness_appendAllSame_21, zi_Witness_appendAllSame_22, zi_Witness_appendAllSame_24, zi_Witness_appendAllSame_26, zi_Witness_appendAllSame_27, zi_Witness_appendAllSame_28, zi_Witness_appendAllSame_31, zi_Witness_appendAllSame_34, ↓reduceIte, mj_op_s, Option.toList_some, Option.toList_none, List.cons_append, List.nil_append, hp_1, hp_2, true_and, and_true, zb_0, zb_1, zb_b, va_rf, io_231, ↓ogf_231_0, ↓ogf_231_1, ↓ogf_231_2, ↓ogf_231_3, ↓ogf_231_4, ↓ogf_231_5, ↓ogf_231_6, ↓opf_231_6, c_Witness_setClaim, e1, if_true, nI_add]
    exact ih (j + 1) (by omega)
theorem c_Witness_appendAllSame {w : Nat} (hw : w < 200) (hs : rI M 231 6 = nI w) {y1 y2 y3 y4 : Int32} : mj_V (d + 2) lim mq_Witness_appendAllSame 0 [.ref 231, .int y1, .int y2, .int y3, .int y4, mj_j, mj_j] [] (hp M) Q ↔ Q none (hp (itr (fun r => cS w r (nI 1) 0) 8 (itr (fun r => cS w r (nI 0) 0) 8 (wA w y1 y2 y3 y4 M)))) := by
  have e := fun M => l_Witness_appendAllSame (M := M) (d := d) (lim := lim) (Q := Q) hw (y1 := y1) (y2 := y2) (y3 := y3) (y4 := y4) 8 0 (by omega)
  simp (disch := assumption) only [zi_Witness_appendAllSame_0, zi_Witness_appendAllSame_1, zi_Witness_appendAllSame_2, zi_Witness_appendAllSame_3, zi_Witness_appendAllSame_4, zi_Witness_appendAllSame_6, zi_Witness_appendAllSame_9, zi_Witness_appendAllSame_11, zi_Witness_appendAllSame_12, ↓reduceIte, mj_op_s, Option.toList_some, Option.toList_none, List.cons_append, List.nil_append, hp_1, hp_2, true_and, and_true, zb_0, zb_1, zb_b, va_rf, io_231, ↓ogf_231_0, ↓ogf_231_1, ↓ogf_231_2, ↓ogf_231_3, ↓ogf_231_4, ↓ogf_231_5, ↓ogf_231_6, ↓opf_231_6, c_Witness_append, hs, nI_add]
  exact e _
end C42
