/-! class: Judge.lookAt, listPairs, hear -/
abbrev heP (i k : Nat) : Prop := i = 239 ∧ 1 ≤ k ∨ i = 247 ∧ 1 ≤ k ∨ 245 ≤ i ∧ i ≤ 246 ∨ 253 ≤ i ∧ i ≤ 255 ∨ i = 238 ∧ k = 4
section C9C
variable {d : Nat} {lim : Nat × Nat} {Q : mj_Q} {M M' : mm} {oa ob la lb p q j r n i : Nat} {A B : AA} {W : WS} {x : WR}
theorem c_lookAt (ra : isRt oa) (rb : isRt ob) (hX : jX W oa ob la lb A B M) (hok : okW W) (hA : okR la A) (hB : okR lb B) (hi : i < W.1) (hend : ∀ M', sv jsP M M' → Q (some (.int (nI (jd W la lb A B i)))) (hp M')) : mj_V (d + 4) lim mq_Judge_lookAt 0 [.ref 238, .int (nI i), mj_j] [] (hp M) Q := by
  have hi2 : i < 200 := by have := hok.1; omega
  have hla := hA.1
  have hlb := hB.1
  obtain ⟨h1, h2, h3, h4, h5, h6, h7, h8⟩ := hX
  have hX : jX W oa ob la lb A B M := ⟨h1, h2, h3, h4, h5, h6, h7, h8⟩
  obtain ⟨b1', b2', b3', b4', b5'⟩ := h1.2 i hi
  obtain ⟨o1, o2, o3, o4, o5⟩ := hok.2 i hi
  simp (decide := true) (disch := first | assumption | omega) only [zi_Judge_lookAt_0, zi_Judge_lookAt_1, zi_Judge_lookAt_4, zi_Judge_lookAt_5, zi_Judge_lookAt_8, zi_Judge_lookAt_11, zi_Judge_lookAt_12, zi_Judge_lookAt_13, zi_Judge_lookAt_14, zi_Judge_lookAt_17, zi_Judge_lookAt_18, ↓reduceIte, mj_op_s, Option.toList_some, Option.toList_none, List.cons_append, List.nil_append, hp_1, hp_2, true_and, and_true, zb_0, zb_1, zb_b, va_rf, io_231, ↓ogf_231_0, ↓ogf_231_1, ↓ogf_231_2, ↓ogf_231_3, ↓ogf_231_4, ↓ogf_231_5, ↓ogf_231_6, ↓opf_231_6, ↓oai_232, ↓owi_232, io_238, ↓ogf_238_0, ↓ogf_238_1, ↓ogf_238_2, ↓ogf_238_3, ↓ogf_238_4, ↓opf_238_4, io_239, ↓ogf_239_0, ↓opf_239_0, ↓ogf_239_1, ↓opf_239_1, ↓ogf_239_2, ↓opf_239_2, ↓ogf_239_3, ↓ogf_239_4, ↓ogf_239_5, ↓opf_239_5, ↓ogf_239_6, ↓opf_239_6, ↓ogf_239_7, ↓opf_239_7, ↓ogf_239_8, ↓opf_239_8, ↓ogf_239_9, ↓opf_239_9, b1']
  refine c_stand (d := d + 1) sd239 ra h1 hok hi h6 h2 h4 hla o1 (fun M1 hv1 hC1 hZ1 => ?_)
  have hX1 := jX_s ra rb (js_1 hv1) hX
  have b2'' := (hX1.1.2 i hi).2.1
  simp (decide := true) (disch := first | assumption | omega) only [zi_Judge_lookAt_21, zi_Judge_lookAt_22, zi_Judge_lookAt_25, zi_Judge_lookAt_26, zi_Judge_lookAt_29, zi_Judge_lookAt_32, zi_Judge_lookAt_33, zi_Judge_lookAt_34, zi_Judge_lookAt_35, zi_Judge_lookAt_38, zi_Judge_lookAt_39, ↓reduceIte, mj_op_s, Option.toList_some, Option.toList_none, List.cons_append, List.nil_append, hp_1, hp_2, true_and, and_true, zb_0, zb_1, zb_b, va_rf, io_231, ↓ogf_231_0, ↓ogf_231_1, ↓ogf_231_2, ↓ogf_231_3, ↓ogf_231_4, ↓ogf_231_5, ↓ogf_231_6, ↓opf_231_6, ↓oai_233, ↓owi_233, io_238, ↓ogf_238_0, ↓ogf_238_1, ↓ogf_238_2, ↓ogf_238_3, ↓ogf_238_4, ↓opf_238_4, io_247, ↓ogf_247_0, ↓opf_247_0, ↓ogf_247_1, ↓opf_247_1, ↓ogf_247_2, ↓opf_247_2, ↓ogf_247_3, ↓ogf_247_4, ↓ogf_247_5, ↓opf_247_5, ↓ogf_247_6, ↓opf_247_6, ↓ogf_247_7, ↓opf_247_7, ↓ogf_247_8, ↓opf_247_8, ↓ogf_247_9, ↓opf_247_9, b2'']
  refine c_stand (d := d + 1) sd247 rb hX1.1 hok hi hX1.2.2.2.2.2.2.1 hX1.2.2.1 hX1.2.2.2.2.1 hlb o2 (fun M2 hv2 hC2 hZ2 => ?_)
  have hX2 := jX_s ra rb (js_2 hv2) hX1
  have hv3 := sv_trans (js_1 hv1) (js_2 hv2)
  obtain ⟨c1', c2', c3', c4', c5'⟩ := hX2.1.2 i hi
  unfold jd at hend
  have hpl := mnp_le (len := la) (p := (W.2 i).1)
  have hql := mnp_le (len := lb) (p := (W.2 i).2.1)
  have hS : jS M2 (W.2 i) oa ob la lb A B (mnp la (W.2 i).1) (mnp lb (W.2 i).2.1) := ⟨sdC_o ra hv2 no12 hC1, hC2, sdZ_o hv2 no12 hZ1, hZ2⟩
  generalize mnp la (W.2 i).1 = p at hend hpl hS
  generalize mnp lb (W.2 i).2.1 = q at hend hql hS
  unfold jd1 at hend
  have hend2 : ∀ M', sv jsP M2 M' → Q _ (hp M') := fun M' hv => hend M' (sv_trans hv3 hv)
  by_cases m1 : (W.2 i).2.2.1 = 1
  · rw [if_pos m1] at hend2
    rw [m1] at c3'
    simp (decide := true) (disch := first | assumption | omega) only [zi_Judge_lookAt_42, zi_Judge_lookAt_43, zi_Judge_lookAt_46, zi_Judge_lookAt_49, zi_Judge_lookAt_50, zi_Judge_lookAt_51, zi_Judge_lookAt_52, zi_Judge_lookAt_53, zi_Judge_lookAt_56, zi_Judge_lookAt_57, zi_Judge_lookAt_58, zi_Judge_lookAt_59, zi_Judge_lookAt_62, zi_Judge_lookAt_63, zi_Judge_lookAt_66, zi_Judge_lookAt_69, zi_Judge_lookAt_70, zi_Judge_lookAt_73, zi_Judge_lookAt_74, zi_Judge_lookAt_77, zi_Judge_lookAt_80, zi_Judge_lookAt_81, zi_Judge_lookAt_82, ↓reduceIte, mj_op_s, Option.toList_some, Option.toList_none, List.cons_append, List.nil_append, hp_1, hp_2, true_and, and_true, zb_0, zb_1, zb_b, va_rf, io_231, ↓ogf_231_0, ↓ogf_231_1, ↓ogf_231_2, ↓ogf_231_3, ↓ogf_231_4, ↓ogf_231_5, ↓ogf_231_6, ↓opf_231_6, ↓oai_234, ↓owi_234, ↓oai_235, ↓owi_235, io_238, ↓ogf_238_0, ↓ogf_238_1, ↓ogf_238_2, ↓ogf_238_3, ↓ogf_238_4, ↓opf_238_4, c3', c4']
    refine c_lookAtOne1 (d := d) ra rb hX2 hok hA hB hS hpl hql m1 o4 (fun M3 hv4 => ?_)
    simp only [zi_Judge_lookAt_85, ↓reduceIte, mj_op_s, Option.toList_some, Option.toList_none, List.cons_append, List.nil_append, hp_1, hp_2, true_and, and_true, zb_0, zb_1, zb_b, va_rf]
    exact hend2 M3 hv4
  · rw [if_neg m1] at hend2
    by_cases m2 : (W.2 i).2.2.1 = 2
    · rw [if_pos m2] at hend2
      rw [m2] at c3'
      simp (decide := true) (disch := first | assumption | omega) only [zi_Judge_lookAt_42, zi_Judge_lookAt_43, zi_Judge_lookAt_46, zi_Judge_lookAt_49, zi_Judge_lookAt_50, zi_Judge_lookAt_51, zi_Judge_lookAt_52, zi_Judge_lookAt_53, zi_Judge_lookAt_56, zi_Judge_lookAt_57, zi_Judge_lookAt_58, zi_Judge_lookAt_59, zi_Judge_lookAt_62, zi_Judge_lookAt_63, zi_Judge_lookAt_66, zi_Judge_lookAt_69, zi_Judge_lookAt_70, zi_Judge_lookAt_73, zi_Judge_lookAt_74, zi_Judge_lookAt_77, zi_Judge_lookAt_80, zi_Judge_lookAt_81, zi_Judge_lookAt_82, ↓reduceIte, mj_op_s, Option.toList_some, Option.toList_none, List.cons_append, List.nil_append, hp_1, hp_2, true_and, and_true, zb_0, zb_1, zb_b, va_rf, io_231, ↓ogf_231_0, ↓ogf_231_1, ↓ogf_231_2, ↓ogf_231_3, ↓ogf_231_4, ↓ogf_231_5, ↓ogf_231_6, ↓opf_231_6, ↓oai_234, ↓owi_234, ↓oai_235, ↓owi_235, io_238, ↓ogf_238_0, ↓ogf_238_1, ↓ogf_238_2, ↓ogf_238_3, ↓ogf_238_4, ↓opf_238_4, c3', c4']
      refine c_lookAtOne2 (d := d) ra rb hX2 hok hA hB hS hpl hql m2 o4 (fun M3 hv4 => ?_)
      simp only [zi_Judge_lookAt_85, ↓reduceIte, mj_op_s, Option.toList_some, Option.toList_none, List.cons_append, List.nil_append, hp_1, hp_2, true_and, and_true, zb_0, zb_1, zb_b, va_rf]
      exact hend2 M3 hv4
    · rw [if_neg m2] at hend2
      have m0 : (W.2 i).2.2.1 = 0 := by omega
      rw [m0] at c3'
      obtain ⟨s1, s2, s3, s4⟩ := hS
      have hS : jS M2 (W.2 i) oa ob la lb A B p q := ⟨s1, s2, s3, s4⟩
      by_cases c1 : p < la
      · rw [if_pos c1] at hend2
        have e1 : b1 (!decide (p < la)) = nI 0 := by rw [decide_eq_true c1]; rfl
        by_cases c2 : q < lb
        · rw [if_pos c2] at hend2
          have e2 : b1 (!decide (q < lb)) = nI 0 := by rw [decide_eq_true c2]; rfl
          cases k1 : quie (W.2 i) A p with
          | false =>
            rw [k1, if_neg (by simp)] at hend2
            have e3 : b1 (decide (p < la) && quie (W.2 i) A p) = nI 0 := by rw [k1, Bool.and_false]; rfl
            simp (decide := true) (disch := first | assumption | omega) only [zi_Judge_lookAt_42, zi_Judge_lookAt_43, zi_Judge_lookAt_46, zi_Judge_lookAt_49, zi_Judge_lookAt_50, zi_Judge_lookAt_51, zi_Judge_lookAt_52, zi_Judge_lookAt_53, zi_Judge_lookAt_56, zi_Judge_lookAt_57, zi_Judge_lookAt_58, zi_Judge_lookAt_59, zi_Judge_lookAt_62, zi_Judge_lookAt_63, zi_Judge_lookAt_66, zi_Judge_lookAt_69, zi_Judge_lookAt_70, zi_Judge_lookAt_73, zi_Judge_lookAt_74, zi_Judge_lookAt_77, zi_Judge_lookAt_80, zi_Judge_lookAt_81, zi_Judge_lookAt_82, zi_Judge_lookAt_85, zi_Judge_lookAt_86, zi_Judge_lookAt_87, zi_Judge_lookAt_90, zi_Judge_lookAt_93, zi_Judge_lookAt_96, zi_Judge_lookAt_97, zi_Judge_lookAt_100, zi_Judge_lookAt_103, zi_Judge_lookAt_106, zi_Judge_lookAt_107, zi_Judge_lookAt_108, zi_Judge_lookAt_109, zi_Judge_lookAt_112, zi_Judge_lookAt_115, zi_Judge_lookAt_118, zi_Judge_lookAt_119, zi_Judge_lookAt_122, zi_Judge_lookAt_125, zi_Judge_lookAt_128, zi_Judge_lookAt_129, zi_Judge_lookAt_130, zi_Judge_lookAt_131, zi_Judge_lookAt_134, zi_Judge_lookAt_137, zi_Judge_lookAt_140, zi_Judge_lookAt_141, zi_Judge_lookAt_144, zi_Judge_lookAt_147, zi_Judge_lookAt_150, zi_Judge_lookAt_151, zi_Judge_lookAt_154, zi_Judge_lookAt_157, zi_Judge_lookAt_158, ↓reduceIte, mj_op_s, Option.toList_some, Option.toList_none, List.cons_append, List.nil_append, hp_1, hp_2, true_and, and_true, zb_0, zb_1, zb_b, va_rf, io_231, ↓ogf_231_0, ↓ogf_231_1, ↓ogf_231_2, ↓ogf_231_3, ↓ogf_231_4, ↓ogf_231_5, ↓ogf_231_6, ↓opf_231_6, ↓oai_234, ↓owi_234, io_238, ↓ogf_238_0, ↓ogf_238_1, ↓ogf_238_2, ↓ogf_238_3, ↓ogf_238_4, ↓opf_238_4, io_239, ↓ogf_239_0, ↓opf_239_0, ↓ogf_239_1, ↓opf_239_1, ↓ogf_239_2, ↓opf_239_2, ↓ogf_239_3, ↓ogf_239_4, ↓ogf_239_5, ↓opf_239_5, ↓ogf_239_6, ↓opf_239_6, ↓ogf_239_7, ↓opf_239_7, ↓ogf_239_8, ↓opf_239_8, ↓ogf_239_9, ↓opf_239_9, io_247, ↓ogf_247_0, ↓opf_247_0, ↓ogf_247_1, ↓opf_247_1, ↓ogf_247_2, ↓opf_247_2, ↓ogf_247_3, ↓ogf_247_4, ↓ogf_247_5, ↓opf_247_5, ↓ogf_247_6, ↓opf_247_6, ↓ogf_247_7, ↓opf_247_7, ↓ogf_247_8, ↓opf_247_8, ↓ogf_247_9, ↓opf_247_9, c3', g_end sd239 ra s1 hla hpl, g_end sd247 rb s2 hlb hql, e1, e2, c_Side_isQuiet sd239 ow3 ra s1 hA hpl s3, e3]
            refine c_lookAtLoud (d := d) ra rb hX2 hok hA hB hS c1 c2 m0 (fun M3 hv4 => ?_)
            simp only [zi_Judge_lookAt_161, ↓reduceIte, mj_op_s, Option.toList_some, Option.toList_none, List.cons_append, List.nil_append, hp_1, hp_2, true_and, and_true, zb_0, zb_1, zb_b, va_rf]
            exact hend2 M3 hv4
          | true =>
            have e3 : b1 (decide (p < la) && quie (W.2 i) A p) = nI 1 := by rw [k1, decide_eq_true c1]; rfl
            cases k2 : quie (W.2 i) B q with
            | false =>
              rw [k1, k2, if_neg (by simp)] at hend2
              have e4 : b1 (decide (q < lb) && quie (W.2 i) B q) = nI 0 := by rw [k2, Bool.and_false]; rfl
              simp (decide := true) (disch := first | assumption | omega) only [zi_Judge_lookAt_42, zi_Judge_lookAt_43, zi_Judge_lookAt_46, zi_Judge_lookAt_49, zi_Judge_lookAt_50, zi_Judge_lookAt_51, zi_Judge_lookAt_52, zi_Judge_lookAt_53, zi_Judge_lookAt_56, zi_Judge_lookAt_57, zi_Judge_lookAt_58, zi_Judge_lookAt_59, zi_Judge_lookAt_62, zi_Judge_lookAt_63, zi_Judge_lookAt_66, zi_Judge_lookAt_69, zi_Judge_lookAt_70, zi_Judge_lookAt_73, zi_Judge_lookAt_74, zi_Judge_lookAt_77, zi_Judge_lookAt_80, zi_Judge_lookAt_81, zi_Judge_lookAt_82, zi_Judge_lookAt_85, zi_Judge_lookAt_86, zi_Judge_lookAt_87, zi_Judge_lookAt_90, zi_Judge_lookAt_93, zi_Judge_lookAt_96, zi_Judge_lookAt_97, zi_Judge_lookAt_100, zi_Judge_lookAt_103, zi_Judge_lookAt_106, zi_Judge_lookAt_107, zi_Judge_lookAt_108, zi_Judge_lookAt_109, zi_Judge_lookAt_112, zi_Judge_lookAt_115, zi_Judge_lookAt_118, zi_Judge_lookAt_119, zi_Judge_lookAt_122, zi_Judge_lookAt_125, zi_Judge_lookAt_128, zi_Judge_lookAt_129, zi_Judge_lookAt_130, zi_Judge_lookAt_131, zi_Judge_lookAt_134, zi_Judge_lookAt_137, zi_Judge_lookAt_140, zi_Judge_lookAt_141, zi_Judge_lookAt_144, zi_Judge_lookAt_147, zi_Judge_lookAt_150, zi_Judge_lookAt_151, zi_Judge_lookAt_154, zi_Judge_lookAt_157, zi_Judge_lookAt_158, ↓reduceIte, mj_op_s, Option.toList_some, Option.toList_none, List.cons_append, List.nil_append, hp_1, hp_2, true_and, and_true, zb_0, zb_1, zb_b, va_rf, io_231, ↓ogf_231_0, ↓ogf_231_1, ↓ogf_231_2, ↓ogf_231_3, ↓ogf_231_4, ↓ogf_231_5, ↓ogf_231_6, ↓opf_231_6, ↓oai_234, ↓owi_234, io_238, ↓ogf_238_0, ↓ogf_238_1, ↓ogf_238_2, ↓ogf_238_3, ↓ogf_238_4, ↓opf_238_4, io_239, ↓ogf_239_0, ↓opf_239_0, ↓ogf_239_1, ↓opf_239_1, ↓ogf_239_2, ↓opf_239_2, ↓ogf_239_3, ↓ogf_239_4, ↓ogf_239_5, ↓opf_239_5, ↓ogf_239_6, ↓opf_239_6, ↓ogf_239_7, ↓opf_239_7, ↓ogf_239_8, ↓opf_239_8, ↓ogf_239_9, ↓opf_239_9, io_247, ↓ogf_247_0, ↓opf_247_0, ↓ogf_247_1, ↓opf_247_1, ↓ogf_247_2, ↓opf_247_2, ↓ogf_247_3, ↓ogf_247_4, ↓ogf_247_5, ↓opf_247_5, ↓ogf_247_6, ↓opf_247_6, ↓ogf_247_7, ↓opf_247_7, ↓ogf_247_8, ↓opf_247_8, ↓ogf_247_9, ↓opf_247_9, c3', g_end sd239 ra s1 hla hpl, g_end sd247 rb s2 hlb hql, e1, e2, c_Side_isQuiet sd239 ow3 ra s1 hA hpl s3, e3, c_Side_isQuiet sd247 ow4 rb s2 hB hql s4, e4]
              refine c_lookAtLoud (d := d) ra rb hX2 hok hA hB hS c1 c2 m0 (fun M3 hv4 => ?_)
              simp only [zi_Judge_lookAt_161, ↓reduceIte, mj_op_s, Option.toList_some, Option.toList_none, List.cons_append, List.nil_append, hp_1, hp_2, true_and, and_true, zb_0, zb_1, zb_b, va_rf]
              exact hend2 M3 hv4
            | true =>
              rw [k1, k2, if_pos (show (true && true) = true from rfl)] at hend2
              have e4 : b1 (decide (q < lb) && quie (W.2 i) B q) = nI 1 := by rw [k2, decide_eq_true c2]; rfl
              simp (decide := true) (disch := first | assumption | omega) only [zi_Judge_lookAt_42, zi_Judge_lookAt_43, zi_Judge_lookAt_46, zi_Judge_lookAt_49, zi_Judge_lookAt_50, zi_Judge_lookAt_51, zi_Judge_lookAt_52, zi_Judge_lookAt_53, zi_Judge_lookAt_56, zi_Judge_lookAt_57, zi_Judge_lookAt_58, zi_Judge_lookAt_59, zi_Judge_lookAt_62, zi_Judge_lookAt_63, zi_Judge_lookAt_66, zi_Judge_lookAt_69, zi_Judge_lookAt_70, zi_Judge_lookAt_73, zi_Judge_lookAt_74, zi_Judge_lookAt_77, zi_Judge_lookAt_80, zi_Judge_lookAt_81, zi_Judge_lookAt_82, zi_Judge_lookAt_85, zi_Judge_lookAt_86, zi_Judge_lookAt_87, zi_Judge_lookAt_90, zi_Judge_lookAt_93, zi_Judge_lookAt_96, zi_Judge_lookAt_97, zi_Judge_lookAt_100, zi_Judge_lookAt_103, zi_Judge_lookAt_106, zi_Judge_lookAt_107, zi_Judge_lookAt_108, zi_Judge_lookAt_109, zi_Judge_lookAt_112, zi_Judge_lookAt_115, zi_Judge_lookAt_118, zi_Judge_lookAt_119, zi_Judge_lookAt_122, zi_Judge_lookAt_125, zi_Judge_lookAt_128, zi_Judge_lookAt_129, zi_Judge_lookAt_130, zi_Judge_lookAt_131, zi_Judge_lookAt_134, zi_Judge_lookAt_137, zi_Judge_lookAt_140, zi_Judge_lookAt_141, zi_Judge_lookAt_144, zi_Judge_lookAt_147, zi_Judge_lookAt_150, zi_Judge_lookAt_151, ↓reduceIte, mj_op_s, Option.toList_some, Option.toList_none, List.cons_append, List.nil_append, hp_1, hp_2, true_and, and_true, zb_0, zb_1, zb_b, va_rf, io_231, ↓ogf_231_0, ↓ogf_231_1, ↓ogf_231_2, ↓ogf_231_3, ↓ogf_231_4, ↓ogf_231_5, ↓ogf_231_6, ↓opf_231_6, ↓oai_234, ↓owi_234, io_238, ↓ogf_238_0, ↓ogf_238_1, ↓ogf_238_2, ↓ogf_238_3, ↓ogf_238_4, ↓opf_238_4, io_239, ↓ogf_239_0, ↓opf_239_0, ↓ogf_239_1, ↓opf_239_1, ↓ogf_239_2, ↓opf_239_2, ↓ogf_239_3, ↓ogf_239_4, ↓ogf_239_5, ↓opf_239_5, ↓ogf_239_6, ↓opf_239_6, ↓ogf_239_7, ↓opf_239_7, ↓ogf_239_8, ↓opf_239_8, ↓ogf_239_9, ↓opf_239_9, io_247, ↓ogf_247_0, ↓opf_247_0, ↓ogf_247_1, ↓opf_247_1, ↓ogf_247_2, ↓opf_247_2, ↓ogf_247_3, ↓ogf_247_4, ↓ogf_247_5, ↓opf_247_5, ↓ogf_247_6, ↓opf_247_6, ↓ogf_247_7, ↓opf_247_7, ↓ogf_247_8, ↓opf_247_8, ↓ogf_247_9, ↓opf_247_9, c3', g_end sd239 ra s1 hla hpl, g_end sd247 rb s2 hlb hql, e1, e2, c_Side_isQuiet sd239 ow3 ra s1 hA hpl s3, e3, c_Side_isQuiet sd247 ow4 rb s2 hB hql s4, e4]
              refine c_lookAtQuiet (d := d) ra rb hX2 hok hA hB hS c1 c2 m0 k1 k2 (fun M3 hv4 => ?_)
              simp only [zi_Judge_lookAt_154, zi_Judge_lookAt_157, zi_Judge_lookAt_158, zi_Judge_lookAt_161, ↓reduceIte, mj_op_s, Option.toList_some, Option.toList_none, List.cons_append, List.nil_append, hp_1, hp_2, true_and, and_true, zb_0, zb_1, zb_b, va_rf]
              exact hend2 M3 hv4
        · rw [if_neg c2] at hend2
          have e2 : b1 (!decide (q < lb)) = nI 1 := by rw [decide_eq_false c2]; rfl
          simp (decide := true) (disch := first | assumption | omega) only [zi_Judge_lookAt_42, zi_Judge_lookAt_43, zi_Judge_lookAt_46, zi_Judge_lookAt_49, zi_Judge_lookAt_50, zi_Judge_lookAt_51, zi_Judge_lookAt_52, zi_Judge_lookAt_53, zi_Judge_lookAt_56, zi_Judge_lookAt_57, zi_Judge_lookAt_58, zi_Judge_lookAt_59, zi_Judge_lookAt_62, zi_Judge_lookAt_63, zi_Judge_lookAt_66, zi_Judge_lookAt_69, zi_Judge_lookAt_70, zi_Judge_lookAt_73, zi_Judge_lookAt_74, zi_Judge_lookAt_77, zi_Judge_lookAt_80, zi_Judge_lookAt_81, zi_Judge_lookAt_82, zi_Judge_lookAt_85, zi_Judge_lookAt_86, zi_Judge_lookAt_87, zi_Judge_lookAt_90, zi_Judge_lookAt_93, zi_Judge_lookAt_96, zi_Judge_lookAt_97, zi_Judge_lookAt_100, zi_Judge_lookAt_103, zi_Judge_lookAt_106, zi_Judge_lookAt_107, zi_Judge_lookAt_108, zi_Judge_lookAt_109, zi_Judge_lookAt_112, zi_Judge_lookAt_115, zi_Judge_lookAt_118, zi_Judge_lookAt_119, zi_Judge_lookAt_122, zi_Judge_lookAt_125, zi_Judge_lookAt_128, zi_Judge_lookAt_129, ↓reduceIte, mj_op_s, Option.toList_some, Option.toList_none, List.cons_append, List.nil_append, hp_1, hp_2, true_and, and_true, zb_0, zb_1, zb_b, va_rf, io_231, ↓ogf_231_0, ↓ogf_231_1, ↓ogf_231_2, ↓ogf_231_3, ↓ogf_231_4, ↓ogf_231_5, ↓ogf_231_6, ↓opf_231_6, ↓oai_234, ↓owi_234, io_238, ↓ogf_238_0, ↓ogf_238_1, ↓ogf_238_2, ↓ogf_238_3, ↓ogf_238_4, ↓opf_238_4, io_239, ↓ogf_239_0, ↓opf_239_0, ↓ogf_239_1, ↓opf_239_1, ↓ogf_239_2, ↓opf_239_2, ↓ogf_239_3, ↓ogf_239_4, ↓ogf_239_5, ↓opf_239_5, ↓ogf_239_6, ↓opf_239_6, ↓ogf_239_7, ↓opf_239_7, ↓ogf_239_8, ↓opf_239_8, ↓ogf_239_9, ↓opf_239_9, io_247, ↓ogf_247_0, ↓opf_247_0, ↓ogf_247_1, ↓opf_247_1, ↓ogf_247_2, ↓opf_247_2, ↓ogf_247_3, ↓ogf_247_4, ↓ogf_247_5, ↓opf_247_5, ↓ogf_247_6, ↓opf_247_6, ↓ogf_247_7, ↓opf_247_7, ↓ogf_247_8, ↓opf_247_8, ↓ogf_247_9, ↓opf_247_9, c3', g_end sd239 ra s1 hla hpl, g_end sd247 rb s2 hlb hql, e1, e2]
          exact hend2 M2 sv_refl
      · rw [if_neg c1] at hend2
        have e1 : b1 (!decide (p < la)) = nI 1 := by rw [decide_eq_false c1]; rfl
        by_cases c2 : q < lb
        · rw [if_pos c2] at hend2
          have e2 : b1 (!decide (q < lb)) = nI 0 := by rw [decide_eq_true c2]; rfl
          simp (decide := true) (disch := first | assumption | omega) only [zi_Judge_lookAt_42, zi_Judge_lookAt_43, zi_Judge_lookAt_46, zi_Judge_lookAt_49, zi_Judge_lookAt_50, zi_Judge_lookAt_51, zi_Judge_lookAt_52, zi_Judge_lookAt_53, zi_Judge_lookAt_56, zi_Judge_lookAt_57, zi_Judge_lookAt_58, zi_Judge_lookAt_59, zi_Judge_lookAt_62, zi_Judge_lookAt_63, zi_Judge_lookAt_66, zi_Judge_lookAt_69, zi_Judge_lookAt_70, zi_Judge_lookAt_73, zi_Judge_lookAt_74, zi_Judge_lookAt_77, zi_Judge_lookAt_80, zi_Judge_lookAt_81, zi_Judge_lookAt_82, zi_Judge_lookAt_85, zi_Judge_lookAt_86, zi_Judge_lookAt_87, zi_Judge_lookAt_90, zi_Judge_lookAt_93, zi_Judge_lookAt_96, zi_Judge_lookAt_97, zi_Judge_lookAt_100, zi_Judge_lookAt_103, zi_Judge_lookAt_106, zi_Judge_lookAt_107, zi_Judge_lookAt_108, zi_Judge_lookAt_109, zi_Judge_lookAt_112, zi_Judge_lookAt_115, zi_Judge_lookAt_118, zi_Judge_lookAt_119, zi_Judge_lookAt_122, zi_Judge_lookAt_125, zi_Judge_lookAt_128, zi_Judge_lookAt_129, ↓reduceIte, mj_op_s, Option.toList_some, Option.toList_none, List.cons_append, List.nil_append, hp_1, hp_2, true_and, and_true, zb_0, zb_1, zb_b, va_rf, io_231, ↓ogf_231_0, ↓ogf_231_1, ↓ogf_231_2, ↓ogf_231_3, ↓ogf_231_4, ↓ogf_231_5, ↓ogf_231_6, ↓opf_231_6, ↓oai_234, ↓owi_234, io_238, ↓ogf_238_0, ↓ogf_238_1, ↓ogf_238_2, ↓ogf_238_3, ↓ogf_238_4, ↓opf_238_4, io_239, ↓ogf_239_0, ↓opf_239_0, ↓ogf_239_1, ↓opf_239_1, ↓ogf_239_2, ↓opf_239_2, ↓ogf_239_3, ↓ogf_239_4, ↓ogf_239_5, ↓opf_239_5, ↓ogf_239_6, ↓opf_239_6, ↓ogf_239_7, ↓opf_239_7, ↓ogf_239_8, ↓opf_239_8, ↓ogf_239_9, ↓opf_239_9, io_247, ↓ogf_247_0, ↓opf_247_0, ↓ogf_247_1, ↓opf_247_1, ↓ogf_247_2, ↓opf_247_2, ↓ogf_247_3, ↓ogf_247_4, ↓ogf_247_5, ↓opf_247_5, ↓ogf_247_6, ↓opf_247_6, ↓ogf_247_7, ↓opf_247_7, ↓ogf_247_8, ↓opf_247_8, ↓ogf_247_9, ↓opf_247_9, c3', g_end sd239 ra s1 hla hpl, g_end sd247 rb s2 hlb hql, e1, e2]
          exact hend2 M2 sv_refl
        · rw [if_neg c2] at hend2
          have e2 : b1 (!decide (q < lb)) = nI 1 := by rw [decide_eq_false c2]; rfl
          simp (decide := true) (disch := first | assumption | omega) only [zi_Judge_lookAt_42, zi_Judge_lookAt_43, zi_Judge_lookAt_46, zi_Judge_lookAt_49, zi_Judge_lookAt_50, zi_Judge_lookAt_51, zi_Judge_lookAt_52, zi_Judge_lookAt_53, zi_Judge_lookAt_56, zi_Judge_lookAt_57, zi_Judge_lookAt_58, zi_Judge_lookAt_59, zi_Judge_lookAt_62, zi_Judge_lookAt_63, zi_Judge_lookAt_66, zi_Judge_lookAt_69, zi_Judge_lookAt_70, zi_Judge_lookAt_73, zi_Judge_lookAt_74, zi_Judge_lookAt_77, zi_Judge_lookAt_80, zi_Judge_lookAt_81, zi_Judge_lookAt_82, zi_Judge_lookAt_85, zi_Judge_lookAt_86, zi_Judge_lookAt_87, zi_Judge_lookAt_90, zi_Judge_lookAt_93, zi_Judge_lookAt_96, zi_Judge_lookAt_97, zi_Judge_lookAt_100, zi_Judge_lookAt_103, zi_Judge_lookAt_106, zi_Judge_lookAt_107, zi_Judge_lookAt_108, zi_Judge_lookAt_109, zi_Judge_lookAt_112, zi_Judge_lookAt_115, zi_Judge_lookAt_118, zi_Judge_lookAt_119, zi_Judge_lookAt_122, zi_Judge_lookAt_125, zi_Judge_lookAt_128, zi_Judge_lookAt_129, ↓reduceIte, mj_op_s, Option.toList_some, Option.toList_none, List.cons_append, List.nil_append, hp_1, hp_2, true_and, and_true, zb_0, zb_1, zb_b, va_rf, io_231, ↓ogf_231_0, ↓ogf_231_1, ↓ogf_231_2, ↓ogf_231_3, ↓ogf_231_4, ↓ogf_231_5, ↓ogf_231_6, ↓opf_231_6, ↓oai_234, ↓owi_234, io_238, ↓ogf_238_0, ↓ogf_238_1, ↓ogf_238_2, ↓ogf_238_3, ↓ogf_238_4, ↓opf_238_4, io_239, ↓ogf_239_0, ↓opf_239_0, ↓ogf_239_1, ↓opf_239_1, ↓ogf_239_2, ↓opf_239_2, ↓ogf_239_3, ↓ogf_239_4, ↓ogf_239_5, ↓opf_239_5, ↓ogf_239_6, ↓opf_239_6, ↓ogf_239_7, ↓opf_239_7, ↓ogf_239_8, ↓opf_239_8, ↓ogf_239_9, ↓opf_239_9, io_247, ↓ogf_247_0, ↓opf_247_0, ↓ogf_247_1, ↓opf_247_1, ↓ogf_247_2, ↓opf_247_2, ↓ogf_247_3, ↓ogf_247_4, ↓ogf_247_5, ↓opf_247_5, ↓ogf_247_6, ↓opf_247_6, ↓ogf_247_7, ↓opf_247_7, ↓ogf_247_8, ↓opf_247_8, ↓ogf_247_9, ↓opf_247_9, c3', g_end sd239 ra s1 hla hpl, g_end sd247 rb s2 hlb hql, e1, e2]
          exact hend2 M2 sv_refl
theorem nI_dec {n : Nat} : nI n + (-1) = nI n - nI 1 := by rw [Int32.sub_eq_add_neg]; rfl
theorem l_list_1 (hend : ∀ M' x1, sv (fun i _ => i = 255) M M' → (∀ k, k < 2601 → rI M' 255 k = -1) → mj_V d lim mq_Judge_listPairs 22 [.ref 238, .int x1] [] (hp M') Q) : ∀ (m j : Nat) (M' : mm), j + m = 2601 → sv (fun i _ => i = 255) M M' → (∀ k, k < j → rI M' 255 k = -1) → mj_V d lim mq_Judge_listPairs 2 [.ref 238, .int (nI j)] [] (hp M') Q := by
  intro m
  induction m with
  | zero =>
    intro j M' hj hv hk
    obtain rfl : j = 2601 := by omega
    rw [zi_Judge_listPairs_2]
    simp (decide := true) only [zi_Judge_listPairs_3, zi_Judge_listPairs_6, ↓reduceIte, mj_op_s, Option.toList_some, Option.toList_none, List.cons_append, List.nil_append, hp_1, hp_2, true_and, and_true, zb_0, zb_1, zb_b, va_rf]
    exact hend M' _ hv hk
  | succ m ih =>
    intro j M' hj hv hk
    have hj8 : j < 2601 := by omega
    have e1 : nI j < nI 2601 := nI_lt (by omega) (by omega)
    rw [zi_Judge_listPairs_2]
    simp (disch := first | assumption | omega) only [zi_Judge_listPairs_3, zi_Judge_listPairs_6, zi_Judge_listPairs_9, zi_Judge_listPairs_10, zi_Judge_listPairs_13, zi_Judge_listPairs_14, zi_Judge_listPairs_15, zi_Judge_listPairs_16, zi_Judge_listPairs_19, ↓reduceIte, mj_op_s, Option.toList_some, Option.toList_none, List.cons_append, List.nil_append, hp_1, hp_2, true_and, and_true, zb_0, zb_1, zb_b, va_rf, io_238, ↓ogf_238_0, ↓ogf_238_1, ↓ogf_238_2, ↓ogf_238_3, ↓ogf_238_4, ↓opf_238_4, ↓oai_255, ↓owi_255, e1, nI_add]
    refine ih (j + 1) _ (by omega) (sv_wI hv rfl) (fun k hk2 => ?_)
    rw [rI_wI]
    split
    · rfl
    · exact hk k (by omega)
theorem l_list_2 (hW : hasW M W) (hok : okW W) (ra : isRt oa) (rb : isRt ob) (h2 : rR M 239 1 = oa) (h3 : rR M 247 1 = ob) (h4 : hasR M oa la A) (h5 : hasR M ob lb B) (hla : la ≤ 50) (hlb : lb ≤ 50) (hend : ∀ M', sv (fun i _ => i = 255) M M' → (∀ p q, p ≤ 50 → q ≤ 50 → rI M' 255 (p * 51 + q) = fI (fnd W la lb p q)) → Q none (hp M')) : ∀ (j n : Nat) (M' : mm), j + n = W.1 → sv (fun i _ => i = 255) M M' → (∀ p q, p ≤ 50 → q ≤ 50 → rI M' 255 (p * 51 + q) = fI (fdx W la lb p q n j)) → mj_V (d + 2) lim mq_Judge_listPairs 32 [.ref 238, .int (nI j - nI 1)] [] (hp M') Q := by
  have hn := hok.1
  intro j
  induction j with
  | zero =>
    intro n M' hj hv hk
    obtain rfl : n = W.1 := by omega
    have e1 : nI 0 - nI 1 < nI 0 := by decide
    rw [zi_Judge_listPairs_32]
    simp (decide := true) (disch := first | assumption | omega) only [zi_Judge_listPairs_33, zi_Judge_listPairs_83, ↓reduceIte, mj_op_s, Option.toList_some, Option.toList_none, List.cons_append, List.nil_append, hp_1, hp_2, true_and, and_true, zb_0, zb_1, zb_b, va_rf, e1]
    exact hend M' hv hk
  | succ j ih =>
    intro n M' hj hv hk
    have hjW : j < W.1 := by omega
    have hj2 : j < 200 := by omega
    have e1 : ¬ nI j < nI 0 := nI_nlt (by omega) (by omega)
    obtain ⟨b1, b2, b3, b4, b5⟩ := hW.2 j hjW
    obtain ⟨o1, o2, o3, o4, o5⟩ := hok.2 j hjW
    have b1' : rI M' 232 j = nI (W.2 j).1 := (sv_I hv (by omega)).trans b1
    have b2' : rI M' 233 j = nI (W.2 j).2.1 := (sv_I hv (by omega)).trans b2
    have h2' : rR M' 239 1 = oa := (sv_R hv (by omega)).trans h2
    have h3' : rR M' 247 1 = ob := (sv_R hv (by omega)).trans h3
    have nr : ∀ o, isRt o → ∀ j k : Nat, j ≤ 4 → ¬ ((fun i _ => i = 255) (o + j) k) := fun o ho j k hj z => by
      have z : o + j = 255 := z
      rcases ho with h | h | h | h | h <;> omega
    have h4' := sv_hasR hv (nr oa ra) h4
    have h5' := sv_hasR hv (nr ob rb) h5
    have m1 := mnp_le (len := la) (p := (W.2 j).1)
    have m2 := mnp_le (len := lb) (p := (W.2 j).2.1)
    have hsp : ∀ (Q : mj_Q) (G : mj_H) (d : Nat) lim, mj_V d lim mq_Judge_spot 0 [.int (nI (mnp la (W.2 j).1)), .int (nI (mnp lb (W.2 j).2.1))] [] G Q ↔ Q (some (.int (nI (mnp la (W.2 j).1 * 51 + mnp lb (W.2 j).2.1)))) G := by
      intro Q G d lim
      simp (disch := omega) only [zi_Judge_spot_0, zi_Judge_spot_1, zi_Judge_spot_3, zi_Judge_spot_4, zi_Judge_spot_5, zi_Judge_spot_6, ↓reduceIte, mj_op_s, Option.toList_some, Option.toList_none, List.cons_append, List.nil_append, hp_1, hp_2, true_and, and_true, zb_0, zb_1, zb_b, va_rf, pk_mul, nI_add]
    have hk2 : mnp la (W.2 j).1 * 51 + mnp lb (W.2 j).2.1 < 2601 := by omega
    rw [nI_sub1, zi_Judge_listPairs_32]
    simp (decide := true) (disch := first | assumption | omega) only [zi_Judge_listPairs_33, zi_Judge_listPairs_36, zi_Judge_listPairs_37, zi_Judge_listPairs_40, zi_Judge_listPairs_41, zi_Judge_listPairs_44, zi_Judge_listPairs_45, zi_Judge_listPairs_48, zi_Judge_listPairs_51, zi_Judge_listPairs_52, zi_Judge_listPairs_53, zi_Judge_listPairs_56, zi_Judge_listPairs_57, zi_Judge_listPairs_60, zi_Judge_listPairs_61, zi_Judge_listPairs_64, zi_Judge_listPairs_67, zi_Judge_listPairs_68, zi_Judge_listPairs_69, zi_Judge_listPairs_72, zi_Judge_listPairs_75, zi_Judge_listPairs_76, zi_Judge_listPairs_77, zi_Judge_listPairs_80, ↓reduceIte, mj_op_s, Option.toList_some, Option.toList_none, List.cons_append, List.nil_append, hp_1, hp_2, true_and, and_true, zb_0, zb_1, zb_b, va_rf, io_231, ↓ogf_231_0, ↓ogf_231_1, ↓ogf_231_2, ↓ogf_231_3, ↓ogf_231_4, ↓ogf_231_5, ↓ogf_231_6, ↓opf_231_6, ↓oai_232, ↓owi_232, ↓oai_233, ↓owi_233, io_238, ↓ogf_238_0, ↓ogf_238_1, ↓ogf_238_2, ↓ogf_238_3, ↓ogf_238_4, ↓opf_238_4, io_239, ↓ogf_239_0, ↓opf_239_0, ↓ogf_239_1, ↓opf_239_1, ↓ogf_239_2, ↓opf_239_2, ↓ogf_239_3, ↓ogf_239_4, ↓ogf_239_5, ↓opf_239_5, ↓ogf_239_6, ↓opf_239_6, ↓ogf_239_7, ↓opf_239_7, ↓ogf_239_8, ↓opf_239_8, ↓ogf_239_9, ↓opf_239_9, io_247, ↓ogf_247_0, ↓opf_247_0, ↓ogf_247_1, ↓opf_247_1, ↓ogf_247_2, ↓opf_247_2, ↓ogf_247_3, ↓ogf_247_4, ↓ogf_247_5, ↓opf_247_5, ↓ogf_247_6, ↓opf_247_6, ↓ogf_247_7, ↓opf_247_7, ↓ogf_247_8, ↓opf_247_8, ↓ogf_247_9, ↓opf_247_9, ↓oai_255, ↓owi_255, e1, b1', b2', g_placeFor sd239 ra h2' h4' hla o1, g_placeFor sd247 rb h3' h5' hlb o2, hsp, nI_dec]
    refine ih (n + 1) _ (by omega) (sv_wI hv rfl) (fun p q hp0 hq0 => ?_)
    rw [rI_wI]
    unfold fdx
    by_cases c : mnp la (W.2 j).1 = p ∧ mnp lb (W.2 j).2.1 = q
    · rw [if_pos c, if_pos ⟨rfl, by omega⟩]
      rfl
    · rw [if_neg c, if_neg (fun z => c ?_)]
      · exact hk p q hp0 hq0
      · have := z.2
        omega
theorem c_listPairs (hW : hasW M W) (hok : okW W) (ra : isRt oa) (rb : isRt ob) (h2 : rR M 239 1 = oa) (h3 : rR M 247 1 = ob) (h4 : hasR M oa la A) (h5 : hasR M ob lb B) (hla : la ≤ 50) (hlb : lb ≤ 50) (hend : ∀ M', sv (fun i _ => i = 255) M M' → (∀ p q, p ≤ 50 → q ≤ 50 → rI M' 255 (p * 51 + q) = fI (fnd W la lb p q)) → Q none (hp M')) : mj_V (d + 2) lim mq_Judge_listPairs 0 [.ref 238, mj_j] [] (hp M) Q := by
  simp only [zi_Judge_listPairs_0, zi_Judge_listPairs_1, ↓reduceIte, mj_op_s, Option.toList_some, Option.toList_none, List.cons_append, List.nil_append, hp_1, hp_2, true_and, and_true, zb_0, zb_1, zb_b, va_rf]
  refine l_list_1 (M := M) (fun M1 x1 hv1 hk1 => ?_) 2601 0 M (by omega) sv_refl (fun k hk => by omega)
  have r0 : rI M1 231 6 = nI W.1 := (sv_I hv1 (by omega)).trans hW.1
  simp (decide := true) (disch := first | assumption | omega) only [zi_Judge_listPairs_22, zi_Judge_listPairs_23, zi_Judge_listPairs_26, zi_Judge_listPairs_29, zi_Judge_listPairs_30, zi_Judge_listPairs_31, ↓reduceIte, mj_op_s, Option.toList_some, Option.toList_none, List.cons_append, List.nil_append, hp_1, hp_2, true_and, and_true, zb_0, zb_1, zb_b, va_rf, io_231, ↓ogf_231_0, ↓ogf_231_1, ↓ogf_231_2, ↓ogf_231_3, ↓ogf_231_4, ↓ogf_231_5, ↓ogf_231_6, ↓opf_231_6, io_238, ↓ogf_238_0, ↓ogf_238_1, ↓ogf_238_2, ↓ogf_238_3, ↓ogf_238_4, ↓opf_238_4, r0]
  refine l_list_2 (d := d) hW hok ra rb h2 h3 h4 h5 hla hlb hend W.1 0 M1 (by omega) hv1 (fun p q hp0 hq0 => ?_)
  exact hk1 _ (by omega)
theorem l_soAtFirst (hW : hasW M W) (hok : okW W) (hn : n < W.1) : ∀ (m j : Nat), j + m = 8 → allB (fun r => decide (nu (W.2 n) r = 0)) j = true → (mj_V (d + 1) lim mq_Judge_isSoAtFirst 2 [.ref 238, .int (nI n), .int (nI j)] [] (hp M) Q ↔ Q (some (.int (b1 (allB (fun r => decide (nu (W.2 n) r = 0)) 8)))) (hp M)) := by
  have hn2 : n < 200 := by have := hok.1; omega
  intro m
  induction m with
  | zero =>
    intro j hj hal
    obtain rfl : j = 8 := by omega
    rw [zi_Judge_isSoAtFirst_2, hal]
    simp (decide := true) only [zi_Judge_isSoAtFirst_3, zi_Judge_isSoAtFirst_5, zi_Judge_isSoAtFirst_30, zi_Judge_isSoAtFirst_31, ↓reduceIte, mj_op_s, Option.toList_some, Option.toList_none, List.cons_append, List.nil_append, hp_1, hp_2, true_and, and_true, zb_0, zb_1, zb_b, va_rf, b1_t]
  | succ m ih =>
    intro j hj hal
    have hj8 : j < 8 := by omega
    have e1 : nI j < nI 8 := nI_lt (by omega) (by omega)
    obtain ⟨g1, g2⟩ := hW_c hW hn hj8
    rw [zi_Judge_isSoAtFirst_2]
    by_cases c : nu (W.2 n) j = 0
    · simp (decide := true) (disch := first | assumption | omega) only [zi_Judge_isSoAtFirst_3, zi_Judge_isSoAtFirst_5, zi_Judge_isSoAtFirst_8, zi_Judge_isSoAtFirst_9, zi_Judge_isSoAtFirst_12, zi_Judge_isSoAtFirst_13, zi_Judge_isSoAtFirst_14, zi_Judge_isSoAtFirst_17, zi_Judge_isSoAtFirst_18, zi_Judge_isSoAtFirst_19, zi_Judge_isSoAtFirst_22, zi_Judge_isSoAtFirst_23, zi_Judge_isSoAtFirst_24, zi_Judge_isSoAtFirst_27, ↓reduceIte, mj_op_s, Option.toList_some, Option.toList_none, List.cons_append, List.nil_append, hp_1, hp_2, true_and, and_true, zb_0, zb_1, zb_b, va_rf, io_231, ↓ogf_231_0, ↓ogf_231_1, ↓ogf_231_2, ↓ogf_231_3, ↓ogf_231_4, ↓ogf_231_5, ↓ogf_231_6, ↓opf_231_6, io_238, ↓ogf_238_0, ↓ogf_238_1, ↓ogf_238_2, ↓ogf_238_3, ↓ogf_238_4, ↓opf_238_4, e1, c_Witness_numberOn hn2 hj8, g2, lgc_eq, c, nI_add]
      exact ih (j + 1) (by omega) (allB_s hal (decide_eq_true c))
    · have hf : allB (fun r => decide (nu (W.2 n) r = 0)) 8 = false := allB_f (r := j) (decide_eq_false c) 8 hj8
      rw [hf]
      simp (decide := true) (disch := first | assumption | omega) only [zi_Judge_isSoAtFirst_3, zi_Judge_isSoAtFirst_5, zi_Judge_isSoAtFirst_8, zi_Judge_isSoAtFirst_9, zi_Judge_isSoAtFirst_12, zi_Judge_isSoAtFirst_13, zi_Judge_isSoAtFirst_14, zi_Judge_isSoAtFirst_17, zi_Judge_isSoAtFirst_18, zi_Judge_isSoAtFirst_19, zi_Judge_isSoAtFirst_22, zi_Judge_isSoAtFirst_23, ↓reduceIte, mj_op_s, Option.toList_some, Option.toList_none, List.cons_append, List.nil_append, hp_1, hp_2, true_and, and_true, zb_0, zb_1, zb_b, va_rf, io_231, ↓ogf_231_0, ↓ogf_231_1, ↓ogf_231_2, ↓ogf_231_3, ↓ogf_231_4, ↓ogf_231_5, ↓ogf_231_6, ↓opf_231_6, io_238, ↓ogf_238_0, ↓ogf_238_1, ↓ogf_238_2, ↓ogf_238_3, ↓ogf_238_4, ↓opf_238_4, e1, c_Witness_numberOn hn2 hj8, g2, lgc_eq, c, b1_f]
theorem l_hear (ra : isRt oa) (rb : isRt ob) (hok : okW W) (hA : okR la A) (hB : okR lb B) {x1 x2 : Value} {x3 : Int32} (hend : ∀ M', sv heP M M' → rI M' 238 4 = (jl W la lb A B W.1 0).2 → Q (some (.int (nI (jl W la lb A B W.1 0).1))) (hp M')) : ∀ (n i : Nat) (M' : mm) (x5 : Value), i + n = W.1 → sv heP M M' → jX W oa ob la lb A B M' → jl W la lb A B W.1 0 = jl W la lb A B n i → mj_V (d + 5) lim mq_Judge_hear 56 [.ref 238, x1, x2, .int x3, .int (nI i), x5] [] (hp M') Q := by
  have hn := hok.1
  intro n
  induction n with
  | zero =>
    intro i M' x5 hi hv hX he
    obtain rfl : i = W.1 := by omega
    have r0 := hX.1.1
    have e1 : ¬ nI W.1 < nI W.1 := nI_nlt (by omega) (by omega)
    rw [he] at hend
    rw [zi_Judge_hear_56]
    simp (disch := first | assumption | omega) only [zi_Judge_hear_58, zi_Judge_hear_59, zi_Judge_hear_62, zi_Judge_hear_65, zi_Judge_hear_96, zi_Judge_hear_97, zi_Judge_hear_98, zi_Judge_hear_101, zi_Judge_hear_102, ↓reduceIte, mj_op_s, Option.toList_some, Option.toList_none, List.cons_append, List.nil_append, hp_1, hp_2, true_and, and_true, zb_0, zb_1, zb_b, va_rf, io_231, ↓ogf_231_0, ↓ogf_231_1, ↓ogf_231_2, ↓ogf_231_3, ↓ogf_231_4, ↓ogf_231_5, ↓ogf_231_6, ↓opf_231_6, io_238, ↓ogf_238_0, ↓ogf_238_1, ↓ogf_238_2, ↓ogf_238_3, ↓ogf_238_4, ↓opf_238_4, r0, e1]
    exact hend _ (sv_wI hv (by unfold heP; omega)) (by rw [rI_wI, if_pos ⟨rfl, rfl⟩]; rfl)
  | succ n ih =>
    intro i M' x5 hi hv hX he
    have hiW : i < W.1 := by omega
    have r0 := hX.1.1
    have e1 : nI i < nI W.1 := nI_lt (by omega) (by omega)
    rw [zi_Judge_hear_56]
    simp (decide := true) (disch := first | assumption | omega) only [zi_Judge_hear_58, zi_Judge_hear_59, zi_Judge_hear_62, zi_Judge_hear_65, zi_Judge_hear_68, zi_Judge_hear_69, zi_Judge_hear_71, ↓reduceIte, mj_op_s, Option.toList_some, Option.toList_none, List.cons_append, List.nil_append, hp_1, hp_2, true_and, and_true, zb_0, zb_1, zb_b, va_rf, io_231, ↓ogf_231_0, ↓ogf_231_1, ↓ogf_231_2, ↓ogf_231_3, ↓ogf_231_4, ↓ogf_231_5, ↓ogf_231_6, ↓opf_231_6, io_238, ↓ogf_238_0, ↓ogf_238_1, ↓ogf_238_2, ↓ogf_238_3, ↓ogf_238_4, ↓opf_238_4, r0, e1]
    refine c_lookAt (d := d) ra rb hX hok hA hB hiW (fun M2 hv2 => ?_)
    have hX2 := jX_s ra rb hv2 hX
    have hjd : jd W la lb A B i < 8 := by
      have hw5 : ∀ p' q' f g, wnt W la lb (W.2 i) p' q' f g < 8 := by
        intro p' q' f g
        unfold wnt
        split
        · omega
        · split
          · omega
          · split <;> omega
      unfold jd jd1 loud
      repeat' split
      all_goals first
        | exact hw5 _ _ _ _
        | omega
    have hje : jl W la lb A B (n + 1) i = if jd W la lb A B i = 0 then jl W la lb A B n (i + 1) else (jd W la lb A B i, nI i) := rfl
    have hv3 : sv heP M M2 := sv_trans hv (sv_mono hv2 (fun i k h => by unfold jsP ssP at h; unfold heP; omega))
    by_cases c : jd W la lb A B i = 0
    · rw [hje, if_pos c] at he
      rw [c]
      simp (decide := true) (disch := first | assumption | omega) only [zi_Judge_hear_74, zi_Judge_hear_76, zi_Judge_hear_78, zi_Judge_hear_90, zi_Judge_hear_93, ↓reduceIte, mj_op_s, Option.toList_some, Option.toList_none, List.cons_append, List.nil_append, hp_1, hp_2, true_and, and_true, zb_0, zb_1, zb_b, va_rf, nI_add]
      exact ih (i + 1) M2 _ (by omega) hv3 hX2 he
    · rw [hje, if_neg c] at he
      rw [he] at hend
      have hne := nI_ne (show jd W la lb A B i < 2 ^ 31 by omega) (show 0 < 2 ^ 31 by omega) c
      simp (decide := true) (disch := first | assumption | omega) only [zi_Judge_hear_74, zi_Judge_hear_76, zi_Judge_hear_78, zi_Judge_hear_81, zi_Judge_hear_82, zi_Judge_hear_84, zi_Judge_hear_87, zi_Judge_hear_89, ↓reduceIte, mj_op_s, Option.toList_some, Option.toList_none, List.cons_append, List.nil_append, hp_1, hp_2, true_and, and_true, zb_0, zb_1, zb_b, va_rf, io_238, ↓ogf_238_0, ↓ogf_238_1, ↓ogf_238_2, ↓ogf_238_3, ↓ogf_238_4, ↓opf_238_4, hne]
      exact hend _ (sv_wI hv3 (by unfold heP; omega)) (by rw [rI_wI, if_pos ⟨rfl, rfl⟩])
theorem c_hear (ra : isRt oa) (rb : isRt ob) (hW : hasW M W) (hok : okW W) (hA : okR la A) (hB : okR lb B) (h4 : hasR M oa la A) (h5 : hasR M ob lb B) (h6 : rI M 239 0 = nI 3) (h7 : rI M 247 0 = nI 4) (hend : ∀ M', sv heP M M' → rI M' 238 4 = (jdg W la lb A B).2 → Q (some (.int (nI (jdg W la lb A B).1))) (hp M')) : mj_V (d + 5) lim mq_Judge_hear 0 [.ref 238, .ref oa, .ref ob, mj_j, mj_j, mj_j] [] (hp M) Q := by
  have hla := hA.1
  have hlb := hB.1
  have htake : ∀ (Q : mj_Q) (M : mm) (d : Nat) lim s o, isSd s → (mj_V d lim mq_Side_take 0 [.ref s, .ref o] [] (hp M) Q ↔ Q none (hp (wR M s 1 o))) := by
    intro Q M d lim s o hs
    simp (disch := assumption) only [zi_Side_take_0, zi_Side_take_1, zi_Side_take_2, zi_Side_take_5, ↓reduceIte, mj_op_s, Option.toList_some, Option.toList_none, List.cons_append, List.nil_append, hp_1, hp_2, true_and, and_true, zb_0, zb_1, zb_b, va_rf, io_sd, ↓ogf_sd_0, ↓ogf_sd_1, ↓ogf_sd_2, ↓ogf_sd_3, ↓ogf_sd_4, ↓ogf_sd_5, ↓ogf_sd_6, ↓ogf_sd_7, ↓ogf_sd_8, ↓ogf_sd_9, ↓opf_sd_1, ↓opf_sd_2, ↓opf_sd_5, ↓opf_sd_6, ↓opf_sd_7, ↓opf_sd_8, ↓opf_sd_9, ↓oai_sd, ↓owi_sd, ↓oal_sd, ↓owl_sd]
  have hv1 : sv heP M (wR (wR M 239 1 oa) 247 1 ob) := sv_wR (sv_wR sv_refl (by unfold heP; omega)) (by unfold heP; omega)
  have hW1 : hasW (wR (wR M 239 1 oa) 247 1 ob) W := ⟨hW.1, hW.2⟩
  have h41 : hasR (wR (wR M 239 1 oa) 247 1 ob) oa la A := ⟨h4.1, h4.2⟩
  have h51 : hasR (wR (wR M 239 1 oa) 247 1 ob) ob lb B := ⟨h5.1, h5.2⟩
  have h21 : rR (wR (wR M 239 1 oa) 247 1 ob) 239 1 = oa := by rw [rR_wR, if_neg (by omega), rR_wR, if_pos ⟨rfl, rfl⟩]
  have h31 : rR (wR (wR M 239 1 oa) 247 1 ob) 247 1 = ob := by rw [rR_wR, if_pos ⟨rfl, rfl⟩]
  simp (decide := true) (disch := first | assumption | omega) only [zi_Judge_hear_0, zi_Judge_hear_1, zi_Judge_hear_4, zi_Judge_hear_5, zi_Judge_hear_8, zi_Judge_hear_9, zi_Judge_hear_12, zi_Judge_hear_13, zi_Judge_hear_16, zi_Judge_hear_17, ↓reduceIte, mj_op_s, Option.toList_some, Option.toList_none, List.cons_append, List.nil_append, hp_1, hp_2, true_and, and_true, zb_0, zb_1, zb_b, va_rf, io_rt, ↓ogf_rt_0, ↓ogf_rt_1, ↓ogf_rt_2, ↓ogf_rt_3, ↓ogf_rt_4, ↓oai_rt_0, ↓oai_rt_1, ↓oai_rt_2, ↓oai_rt_3, ↓owi_rt_0, ↓owi_rt_1, ↓owi_rt_2, ↓owi_rt_3, ↓opf_rt, io_238, ↓ogf_238_0, ↓ogf_238_1, ↓ogf_238_2, ↓ogf_238_3, ↓ogf_238_4, ↓opf_238_4, io_239, ↓ogf_239_0, ↓opf_239_0, ↓ogf_239_1, ↓opf_239_1, ↓ogf_239_2, ↓opf_239_2, ↓ogf_239_3, ↓ogf_239_4, ↓ogf_239_5, ↓opf_239_5, ↓ogf_239_6, ↓opf_239_6, ↓ogf_239_7, ↓opf_239_7, ↓ogf_239_8, ↓opf_239_8, ↓ogf_239_9, ↓opf_239_9, io_247, ↓ogf_247_0, ↓opf_247_0, ↓ogf_247_1, ↓opf_247_1, ↓ogf_247_2, ↓opf_247_2, ↓ogf_247_3, ↓ogf_247_4, ↓ogf_247_5, ↓opf_247_5, ↓ogf_247_6, ↓opf_247_6, ↓ogf_247_7, ↓opf_247_7, ↓ogf_247_8, ↓opf_247_8, ↓ogf_247_9, ↓opf_247_9, htake]
  refine c_listPairs (d := d + 2) hW1 hok ra rb h21 h31 h41 h51 hla hlb (fun M2 hv2 hk2 => ?_)
  have hv3 : sv heP M M2 := sv_trans hv1 (sv_mono hv2 (fun i k h => by unfold heP; omega))
  have nr : ∀ o, isRt o → ∀ j k : Nat, j ≤ 4 → ¬ ((fun i _ => i = 255) (o + j) k) := fun o ho j k hj z => by
    have z : o + j = 255 := z
    rcases ho with h | h | h | h | h <;> omega
  have hW2 : hasW M2 W := by
    refine ⟨(sv_I hv2 (by omega)).trans hW1.1, fun i hi => ?_⟩
    obtain ⟨b1, b2, b3, b4, b5⟩ := hW1.2 i hi
    exact ⟨(sv_I hv2 (by omega)).trans b1, (sv_I hv2 (by omega)).trans b2, (sv_I hv2 (by omega)).trans b3, (sv_I hv2 (by omega)).trans b4, fun r hr => ⟨(sv_I hv2 (by omega)).trans (b5 r hr).1, (sv_L hv2 (by omega)).trans (b5 r hr).2⟩⟩
  have hX : jX W oa ob la lb A B M2 := ⟨hW2, (sv_R hv2 (by omega)).trans h21, (sv_R hv2 (by omega)).trans h31, sv_hasR hv2 (nr oa ra) h41, sv_hasR hv2 (nr ob rb) h51, (sv_I hv2 (by omega)).trans h6, (sv_I hv2 (by omega)).trans h7, hk2⟩
  have hk0 := hk2 0 0 (by omega) (by omega)
  have hk0 : rI M2 255 0 = fI (fnd W la lb 0 0) := hk0
  unfold jdg at hend
  cases hfd : fnd W la lb 0 0 with
  | none =>
    rw [hfd] at hend hk0
    have hk0 : rI M2 255 0 = -1 := hk0
    have e1 : (-1 : Int32) < nI 0 := by decide
    simp (decide := true) (disch := first | assumption | omega) only [zi_Judge_hear_20, zi_Judge_hear_21, zi_Judge_hear_24, zi_Judge_hear_25, zi_Judge_hear_26, zi_Judge_hear_27, zi_Judge_hear_28, zi_Judge_hear_31, zi_Judge_hear_32, zi_Judge_hear_33, zi_Judge_hear_36, zi_Judge_hear_37, ↓reduceIte, mj_op_s, Option.toList_some, Option.toList_none, List.cons_append, List.nil_append, hp_1, hp_2, true_and, and_true, zb_0, zb_1, zb_b, va_rf, io_238, ↓ogf_238_0, ↓ogf_238_1, ↓ogf_238_2, ↓ogf_238_3, ↓ogf_238_4, ↓opf_238_4, ↓oai_255, ↓owi_255, hk0, e1]
    exact hend _ (sv_wI hv3 (by unfold heP; omega)) (by rw [rI_wI, if_pos ⟨rfl, rfl⟩])
  | some n =>
    rw [hfd] at hend hk0
    have hk0 : rI M2 255 0 = nI n := hk0
    have hn := fnd_lt hfd
    have e1 : ¬ nI n < nI 0 := nI_nlt (by omega) (by have := hok.1; omega)
    have hend : ∀ M', sv heP M M' → rI M' 238 4 = (if allB (fun r => decide (nu (W.2 n) r = 0)) 8 = true then jl W la lb A B W.1 0 else (2, nI n)).2 → Q (some (.int (nI (if allB (fun r => decide (nu (W.2 n) r = 0)) 8 = true then jl W la lb A B W.1 0 else (2, nI n)).1))) (hp M') := hend
    have hso : ∀ (Q : mj_Q) (d : Nat) lim, mj_V (d + 1) lim mq_Judge_isSoAtFirst 0 [.ref 238, .int (nI n), mj_j] [] (hp M2) Q ↔ Q (some (.int (b1 (allB (fun r => decide (nu (W.2 n) r = 0)) 8)))) (hp M2) := by
      intro Q d lim
      simp only [zi_Judge_isSoAtFirst_0, zi_Judge_isSoAtFirst_1, ↓reduceIte, mj_op_s, Option.toList_some, Option.toList_none, List.cons_append, List.nil_append, hp_1, hp_2, true_and, and_true, zb_0, zb_1, zb_b, va_rf]
      exact l_soAtFirst hW2 hok hn 8 0 (by omega) rfl
    cases hal : allB (fun r => decide (nu (W.2 n) r = 0)) 8 with
    | true =>
      rw [hal, if_pos rfl] at hend
      simp (decide := true) (disch := first | assumption | omega) only [zi_Judge_hear_20, zi_Judge_hear_21, zi_Judge_hear_24, zi_Judge_hear_25, zi_Judge_hear_26, zi_Judge_hear_27, zi_Judge_hear_28, zi_Judge_hear_31, zi_Judge_hear_32, zi_Judge_hear_33, zi_Judge_hear_36, zi_Judge_hear_37, zi_Judge_hear_38, zi_Judge_hear_39, zi_Judge_hear_40, zi_Judge_hear_43, zi_Judge_hear_46, zi_Judge_hear_47, zi_Judge_hear_48, zi_Judge_hear_51, zi_Judge_hear_52, zi_Judge_hear_53, zi_Judge_hear_54, ↓reduceIte, mj_op_s, Option.toList_some, Option.toList_none, List.cons_append, List.nil_append, hp_1, hp_2, true_and, and_true, zb_0, zb_1, zb_b, va_rf, io_238, ↓ogf_238_0, ↓ogf_238_1, ↓ogf_238_2, ↓ogf_238_3, ↓ogf_238_4, ↓opf_238_4, ↓oai_255, ↓owi_255, hk0, e1, hso, hal, b1_t]
      exact l_hear (d := d) (M := M) ra rb hok hA hB hend W.1 0 M2 _ (by omega) hv3 hX rfl
    | false =>
      rw [hal, if_neg (by simp)] at hend
      simp (decide := true) (disch := first | assumption | omega) only [zi_Judge_hear_20, zi_Judge_hear_21, zi_Judge_hear_24, zi_Judge_hear_25, zi_Judge_hear_26, zi_Judge_hear_27, zi_Judge_hear_28, zi_Judge_hear_31, zi_Judge_hear_32, zi_Judge_hear_33, zi_Judge_hear_36, zi_Judge_hear_37, zi_Judge_hear_38, zi_Judge_hear_39, zi_Judge_hear_40, zi_Judge_hear_43, zi_Judge_hear_46, zi_Judge_hear_47, zi_Judge_hear_48, zi_Judge_hear_51, zi_Judge_hear_52, ↓reduceIte, mj_op_s, Option.toList_some, Option.toList_none, List.cons_append, List.nil_append, hp_1, hp_2, true_and, and_true, zb_0, zb_1, zb_b, va_rf, io_238, ↓ogf_238_0, ↓ogf_238_1, ↓ogf_238_2, ↓ogf_238_3, ↓ogf_238_4, ↓opf_238_4, ↓oai_255, ↓owi_255, hk0, e1, hso, hal, b1_f]
      exact hend _ (sv_wI hv3 (by unfold heP; omega)) (by rw [rI_wI, if_pos ⟨rfl, rfl⟩])
end C9C
