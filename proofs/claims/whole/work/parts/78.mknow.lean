/-! Model.know -/
section C78
variable {d : Nat} {lim : Nat × Nat} {Q : mj_Q} {M M' M2 : mm} {len p t j r l : Nat} {A : Nat → Nat → Int32} {C : Nat → Bool} {D : Nat → Nat → Bool} {F : KF} {sw : Bool} {bh : Int64} {s : KS}
theorem l_know_visit (hr : r < 44) (hR : hasM M r len A) (hok : okR len A) (hp0 : p < len) (hS : kmT M s bh) (hC : s.1 p = true) (hN : ∀ q r, r < 8 → s.1 q = false → s.2.1 q r = none) {x3 x4 x5 x6 : Value}
    (hend : ∀ M' bh2 y3 y4 y5 y6, sv kmP M M' → kmT M' (kgo len A p s) bh2 → mj_V (d + 4) lim mq_Model_know 269 [.ref 256, .int (nI r), .int (nI p), y3, y4, y5, y6] [] (hp M') Q) :
    mj_V (d + 4) lim mq_Model_know 101 [.ref 256, .int (nI r), .int (nI p), x3, x4, x5, x6] [] (hp M) Q := by
  have h50 := hok.1
  have hp50 : p < 50 := by omega
  have hp51 : p < 51 := by omega
  have hp52 : p + 1 < 51 := by omega
  have hl51 : len < 51 := by omega
  have ht51 : tgP len A p < 51 := by have := tgP_le (len := len) (A := A) (p := p); omega
  have r8 : rI M 268 p = nI 1 := by rw [hS.1 p hp51, hC]; rfl
  have q0 := hR.2 p hp0 0 (by omega)
  have q1 := hR.2 p hp0 1 (by omega)
  have q2 := hR.2 p hp0 2 (by omega)
  unfold kgo at hend
  cases hst : kst A p (s.2.1 p) with
  | true =>
    simp only [hst, if_true] at hend
    have z : mj_zb (nI 1) := zb_1
    simp (decide := true) (disch := first | assumption | omega) only [zi_Model_know_101, zi_Model_know_102, zi_Model_know_105, zi_Model_know_106, zi_Model_know_107, zi_Model_know_110, zi_Model_know_111, zi_Model_know_112, zi_Model_know_113, zi_Model_know_116, zi_Model_know_119, ↓reduceIte, mj_op_s, Option.toList_some, Option.toList_none, List.cons_append, List.nil_append, hp_1, hp_2, true_and, and_true, zb_0, zb_1, zb_b, va_rf, io_256, ↓ogf_256_0, ↓opf_256_0, ↓ogf_256_1, ↓ogf_256_2, ↓ogf_256_3, ↓ogf_256_4, ↓opf_256_4, ↓ogf_256_5, ↓ogf_256_6, ↓ogf_256_7, ↓opf_256_7, ↓ogf_256_8, ↓opf_256_8, ↓ogf_256_9, ↓opf_256_9, ↓ogf_256_10, ↓opf_256_10, ↓ogf_256_11, ↓ogf_256_12, ↓ogf_256_13, ↓ogf_256_14, ↓ogf_256_15, ↓ogf_256_16, ↓ogf_256_17, ↓opf_256_17, ↓ogf_256_18, ↓opf_256_18, ↓ogf_256_19, ↓ogf_256_20, ↓ogf_256_21, ↓ogf_256_22, ↓opf_256_22_0, ↓opf_256_22_1, ↓ogf_256_23, ↓opf_256_23, ↓ogf_256_24, ↓ogf_256_25, ↓opf_256_25_0, ↓opf_256_25_1, ↓ogf_256_26, ↓opf_256_26, ↓ogf_256_27, ↓opf_256_27, ↓ogf_256_28, ↓opf_256_28, ↓ogf_256_29, ↓ogf_256_30, ↓ogf_256_31, ↓ogf_256_32, ↓ogf_256_33, ↓ogf_256_34, ↓oaz_268, ↓owz_268, r8, c_Model_stops hr hR hok hp0 hS, hst, b1_t]
    exact hend M bh _ _ _ _ sv_refl hS
  | false =>
    simp only [hst, Bool.false_eq_true, if_false] at hend
    unfold ktl at hend
    by_cases c14 : A p 0 = nI 14
    · have k1 : kn A p (s.2.1 p) = false := by unfold kn nxP; rw [c14]; rfl
      have k2 : ky A p (s.2.1 p) = false := by unfold ky jyP; rw [c14]; rfl
      rw [k1, k2, if_pos c14] at hend
      simp only [Bool.false_eq_true, if_false, List.nil_append, List.foldl_cons, List.foldl_nil] at hend
      rw [c14] at q0
      simp (decide := true) (disch := first | assumption | omega) only [zi_Model_know_101, zi_Model_know_102, zi_Model_know_105, zi_Model_know_106, zi_Model_know_107, zi_Model_know_110, zi_Model_know_111, zi_Model_know_112, zi_Model_know_113, zi_Model_know_116, zi_Model_know_119, zi_Model_know_122, zi_Model_know_123, zi_Model_know_124, zi_Model_know_125, zi_Model_know_128, zi_Model_know_129, zi_Model_know_130, zi_Model_know_131, zi_Model_know_132, zi_Model_know_133, zi_Model_know_136, zi_Model_know_138, zi_Model_know_139, zi_Model_know_141, zi_Model_know_144, zi_Model_know_145, zi_Model_know_146, zi_Model_know_148, zi_Model_know_151, zi_Model_know_154, zi_Model_know_155, zi_Model_know_158, zi_Model_know_159, zi_Model_know_161, zi_Model_know_163, zi_Model_know_166, zi_Model_know_167, zi_Model_know_168, zi_Model_know_170, zi_Model_know_173, zi_Model_know_174, zi_Model_know_175, zi_Model_know_178, zi_Model_know_179, zi_Model_know_182, zi_Model_know_183, zi_Model_know_185, zi_Model_know_186, zi_Model_know_188, zi_Model_know_191, zi_Model_know_192, zi_Model_know_194, zi_Model_know_197, zi_Model_know_199, zi_Model_know_202, zi_Model_know_203, zi_Model_know_204, zi_Model_know_205, zi_Model_know_206, zi_Model_know_207, zi_Model_know_208, zi_Model_know_211, zi_Model_know_212, zi_Model_know_214, zi_Model_know_217, zi_Model_know_218, zi_Model_know_220, zi_Model_know_223, zi_Model_know_225, zi_Model_know_228, zi_Model_know_230, zi_Model_know_233, zi_Model_know_234, zi_Model_know_235, zi_Model_know_236, zi_Model_know_237, zi_Model_know_238, zi_Model_know_239, zi_Model_know_240, zi_Model_know_241, zi_Model_know_242, zi_Model_know_245, zi_Model_know_248, zi_Model_know_251, zi_Model_know_252, zi_Model_know_254, zi_Model_know_257, zi_Model_know_258, zi_Model_know_259, zi_Model_know_260, zi_Model_know_261, zi_Model_know_264, zi_Model_know_265, zi_Model_know_266, ↓reduceIte, mj_op_s, Option.toList_some, Option.toList_none, List.cons_append, List.nil_append, hp_1, hp_2, true_and, and_true, zb_0, zb_1, zb_b, va_rf, io_256, ↓ogf_256_0, ↓opf_256_0, ↓ogf_256_1, ↓ogf_256_2, ↓ogf_256_3, ↓ogf_256_4, ↓opf_256_4, ↓ogf_256_5, ↓ogf_256_6, ↓ogf_256_7, ↓opf_256_7, ↓ogf_256_8, ↓opf_256_8, ↓ogf_256_9, ↓opf_256_9, ↓ogf_256_10, ↓opf_256_10, ↓ogf_256_11, ↓ogf_256_12, ↓ogf_256_13, ↓ogf_256_14, ↓ogf_256_15, ↓ogf_256_16, ↓ogf_256_17, ↓opf_256_17, ↓ogf_256_18, ↓opf_256_18, ↓ogf_256_19, ↓ogf_256_20, ↓ogf_256_21, ↓ogf_256_22, ↓opf_256_22_0, ↓opf_256_22_1, ↓ogf_256_23, ↓opf_256_23, ↓ogf_256_24, ↓ogf_256_25, ↓opf_256_25_0, ↓opf_256_25_1, ↓ogf_256_26, ↓opf_256_26, ↓ogf_256_27, ↓opf_256_27, ↓ogf_256_28, ↓opf_256_28, ↓ogf_256_29, ↓ogf_256_30, ↓ogf_256_31, ↓ogf_256_32, ↓ogf_256_33, ↓ogf_256_34, ↓oai_257, ↓owi_257, ↓oaz_268, ↓owz_268, r8, c_Model_stops hr hR hok hp0 hS, hst, b1_f, c_Model_kind, c_Model_num, q0, q1, hR.1]
      refine c_Model_lead hr hR hok hp0 hl51 hS hC hN (fun M' bh2 hv hT => ?_)
      simp only [↓reduceIte, mj_op_s, Option.toList_some, Option.toList_none, List.cons_append, List.nil_append, hp_1, hp_2, true_and, and_true, zb_0, zb_1, zb_b, va_rf]
      exact hend M' bh2 _ _ _ _ hv hT
    · rw [if_neg c14] at hend
      by_cases c12 : A p 0 = nI 12
      · have k1 : kn A p (s.2.1 p) = false := by unfold kn nxP; rw [c12]; rfl
        have k2 : ky A p (s.2.1 p) = true := by unfold ky jyP kdc; rw [c12]; rfl
        rw [k1, k2] at hend
        simp only [Bool.false_eq_true, if_false, if_true, List.nil_append, List.append_nil, List.foldl_cons, List.foldl_nil] at hend
        have hpl := plF_tg hok hp0 (by unfold jyP; rw [c12]; rfl)
        rw [c12] at q0
        simp (decide := true) (disch := first | assumption | omega) only [zi_Model_know_101, zi_Model_know_102, zi_Model_know_105, zi_Model_know_106, zi_Model_know_107, zi_Model_know_110, zi_Model_know_111, zi_Model_know_112, zi_Model_know_113, zi_Model_know_116, zi_Model_know_119, zi_Model_know_122, zi_Model_know_123, zi_Model_know_124, zi_Model_know_125, zi_Model_know_128, zi_Model_know_129, zi_Model_know_130, zi_Model_know_131, zi_Model_know_132, zi_Model_know_133, zi_Model_know_136, zi_Model_know_138, zi_Model_know_139, zi_Model_know_141, zi_Model_know_144, zi_Model_know_145, zi_Model_know_146, zi_Model_know_148, zi_Model_know_151, zi_Model_know_154, zi_Model_know_155, zi_Model_know_158, zi_Model_know_159, zi_Model_know_161, zi_Model_know_163, zi_Model_know_166, zi_Model_know_167, zi_Model_know_168, zi_Model_know_170, zi_Model_know_173, zi_Model_know_174, zi_Model_know_175, zi_Model_know_178, zi_Model_know_179, zi_Model_know_182, zi_Model_know_183, zi_Model_know_185, zi_Model_know_186, zi_Model_know_188, zi_Model_know_191, zi_Model_know_192, zi_Model_know_194, zi_Model_know_197, zi_Model_know_199, zi_Model_know_202, zi_Model_know_203, zi_Model_know_204, zi_Model_know_205, zi_Model_know_206, zi_Model_know_207, zi_Model_know_208, zi_Model_know_211, zi_Model_know_212, zi_Model_know_214, zi_Model_know_217, zi_Model_know_218, zi_Model_know_220, zi_Model_know_223, zi_Model_know_225, zi_Model_know_228, zi_Model_know_230, zi_Model_know_233, zi_Model_know_234, zi_Model_know_235, zi_Model_know_236, zi_Model_know_237, zi_Model_know_238, zi_Model_know_239, zi_Model_know_240, zi_Model_know_241, zi_Model_know_242, zi_Model_know_245, zi_Model_know_248, ↓reduceIte, mj_op_s, Option.toList_some, Option.toList_none, List.cons_append, List.nil_append, hp_1, hp_2, true_and, and_true, zb_0, zb_1, zb_b, va_rf, io_256, ↓ogf_256_0, ↓opf_256_0, ↓ogf_256_1, ↓ogf_256_2, ↓ogf_256_3, ↓ogf_256_4, ↓opf_256_4, ↓ogf_256_5, ↓ogf_256_6, ↓ogf_256_7, ↓opf_256_7, ↓ogf_256_8, ↓opf_256_8, ↓ogf_256_9, ↓opf_256_9, ↓ogf_256_10, ↓opf_256_10, ↓ogf_256_11, ↓ogf_256_12, ↓ogf_256_13, ↓ogf_256_14, ↓ogf_256_15, ↓ogf_256_16, ↓ogf_256_17, ↓opf_256_17, ↓ogf_256_18, ↓opf_256_18, ↓ogf_256_19, ↓ogf_256_20, ↓ogf_256_21, ↓ogf_256_22, ↓opf_256_22_0, ↓opf_256_22_1, ↓ogf_256_23, ↓opf_256_23, ↓ogf_256_24, ↓ogf_256_25, ↓opf_256_25_0, ↓opf_256_25_1, ↓ogf_256_26, ↓opf_256_26, ↓ogf_256_27, ↓opf_256_27, ↓ogf_256_28, ↓opf_256_28, ↓ogf_256_29, ↓ogf_256_30, ↓ogf_256_31, ↓ogf_256_32, ↓ogf_256_33, ↓ogf_256_34, ↓oai_257, ↓owi_257, ↓oaz_268, ↓owz_268, r8, c_Model_stops hr hR hok hp0 hS, hst, b1_f, c_Model_kind, c_Model_num, c_Model_place, q0, q1, q2, hR.1, hpl]
        refine c_Model_lead hr hR hok hp0 ht51 hS hC hN (fun M' bh2 hv hT => ?_)
        simp (decide := true) only [zi_Model_know_251, zi_Model_know_252, zi_Model_know_254, ↓reduceIte, mj_op_s, Option.toList_some, Option.toList_none, List.cons_append, List.nil_append, hp_1, hp_2, true_and, and_true, zb_0, zb_1, zb_b, va_rf]
        exact hend M' bh2 _ _ _ _ hv hT
      · by_cases c13 : A p 0 = nI 13
        · have hpl := plF_tg hok hp0 (by unfold jyP; rw [c13]; rfl)
          obtain ⟨l, hl, e⟩ := (okA_rn (hok.2 p hp0)).2.2.2.2.1 c13
          have hcz : cz (A p 1) = l := by rw [e, cz_n (by omega)]
          rw [e] at q1
          cases hF : s.2.1 p l with
          | none =>
            have k1 : kn A p (s.2.1 p) = true := by unfold kn nxP kdc; rw [c13, hcz, hF]; rfl
            have k2 : ky A p (s.2.1 p) = true := by unfold ky jyP kdc; rw [c13, hcz, hF]; rfl
            rw [k1, k2] at hend
            simp only [if_true, List.append_nil, List.cons_append, List.nil_append, List.foldl_cons, List.foldl_nil] at hend
            rw [c13] at q0
            simp (decide := true) (disch := first | assumption | omega) only [zi_Model_know_101, zi_Model_know_102, zi_Model_know_105, zi_Model_know_106, zi_Model_know_107, zi_Model_know_110, zi_Model_know_111, zi_Model_know_112, zi_Model_know_113, zi_Model_know_116, zi_Model_know_119, zi_Model_know_122, zi_Model_know_123, zi_Model_know_124, zi_Model_know_125, zi_Model_know_128, zi_Model_know_129, zi_Model_know_130, zi_Model_know_131, zi_Model_know_132, zi_Model_know_133, zi_Model_know_136, zi_Model_know_138, zi_Model_know_139, zi_Model_know_141, zi_Model_know_144, zi_Model_know_145, zi_Model_know_146, zi_Model_know_148, zi_Model_know_151, zi_Model_know_154, zi_Model_know_155, zi_Model_know_158, zi_Model_know_159, zi_Model_know_161, zi_Model_know_163, zi_Model_know_166, zi_Model_know_167, zi_Model_know_168, zi_Model_know_170, zi_Model_know_173, zi_Model_know_174, zi_Model_know_175, zi_Model_know_178, zi_Model_know_179, zi_Model_know_182, zi_Model_know_183, zi_Model_know_185, zi_Model_know_186, zi_Model_know_188, zi_Model_know_191, zi_Model_know_192, zi_Model_know_194, zi_Model_know_197, zi_Model_know_199, zi_Model_know_202, zi_Model_know_203, zi_Model_know_204, zi_Model_know_205, zi_Model_know_206, zi_Model_know_207, zi_Model_know_208, ↓reduceIte, mj_op_s, Option.toList_some, Option.toList_none, List.cons_append, List.nil_append, hp_1, hp_2, true_and, and_true, zb_0, zb_1, zb_b, va_rf, io_256, ↓ogf_256_0, ↓opf_256_0, ↓ogf_256_1, ↓ogf_256_2, ↓ogf_256_3, ↓ogf_256_4, ↓opf_256_4, ↓ogf_256_5, ↓ogf_256_6, ↓ogf_256_7, ↓opf_256_7, ↓ogf_256_8, ↓opf_256_8, ↓ogf_256_9, ↓opf_256_9, ↓ogf_256_10, ↓opf_256_10, ↓ogf_256_11, ↓ogf_256_12, ↓ogf_256_13, ↓ogf_256_14, ↓ogf_256_15, ↓ogf_256_16, ↓ogf_256_17, ↓opf_256_17, ↓ogf_256_18, ↓opf_256_18, ↓ogf_256_19, ↓ogf_256_20, ↓ogf_256_21, ↓ogf_256_22, ↓opf_256_22_0, ↓opf_256_22_1, ↓ogf_256_23, ↓opf_256_23, ↓ogf_256_24, ↓ogf_256_25, ↓opf_256_25_0, ↓opf_256_25_1, ↓ogf_256_26, ↓opf_256_26, ↓ogf_256_27, ↓opf_256_27, ↓ogf_256_28, ↓opf_256_28, ↓ogf_256_29, ↓ogf_256_30, ↓ogf_256_31, ↓ogf_256_32, ↓ogf_256_33, ↓ogf_256_34, ↓oai_257, ↓owi_257, ↓oaz_268, ↓owz_268, r8, c_Model_stops hr hR hok hp0 hS, hst, b1_f, c_Model_kind, c_Model_num, c_Model_knows hS hp51 hl, hF, Option.isSome_none, q0, q1, q2, hR.1, hpl, nI_add]
            refine c_Model_lead hr hR hok hp0 hp52 hS hC hN (fun M' bh2 hv hT => ?_)
            have hR' := km_hasM hv hR
            have q2' := hR'.2 p hp0 2 (by omega)
            have hFp : (arr s (p + 1) (kbh A p (s.2.1 p))).2.1 p = s.2.1 p := funext fun r => arF_o (by omega)
            simp (decide := true) (disch := first | assumption | omega) only [zi_Model_know_211, zi_Model_know_212, zi_Model_know_214, zi_Model_know_217, zi_Model_know_218, zi_Model_know_220, zi_Model_know_223, zi_Model_know_225, zi_Model_know_228, zi_Model_know_230, zi_Model_know_233, zi_Model_know_234, zi_Model_know_235, zi_Model_know_236, zi_Model_know_237, zi_Model_know_238, zi_Model_know_239, zi_Model_know_240, zi_Model_know_241, zi_Model_know_242, zi_Model_know_245, zi_Model_know_248, ↓reduceIte, mj_op_s, Option.toList_some, Option.toList_none, List.cons_append, List.nil_append, hp_1, hp_2, true_and, and_true, zb_0, zb_1, zb_b, va_rf, io_256, ↓ogf_256_0, ↓opf_256_0, ↓ogf_256_1, ↓ogf_256_2, ↓ogf_256_3, ↓ogf_256_4, ↓opf_256_4, ↓ogf_256_5, ↓ogf_256_6, ↓ogf_256_7, ↓opf_256_7, ↓ogf_256_8, ↓opf_256_8, ↓ogf_256_9, ↓opf_256_9, ↓ogf_256_10, ↓opf_256_10, ↓ogf_256_11, ↓ogf_256_12, ↓ogf_256_13, ↓ogf_256_14, ↓ogf_256_15, ↓ogf_256_16, ↓ogf_256_17, ↓opf_256_17, ↓ogf_256_18, ↓opf_256_18, ↓ogf_256_19, ↓ogf_256_20, ↓ogf_256_21, ↓ogf_256_22, ↓opf_256_22_0, ↓opf_256_22_1, ↓ogf_256_23, ↓opf_256_23, ↓ogf_256_24, ↓ogf_256_25, ↓opf_256_25_0, ↓opf_256_25_1, ↓ogf_256_26, ↓opf_256_26, ↓ogf_256_27, ↓opf_256_27, ↓ogf_256_28, ↓opf_256_28, ↓ogf_256_29, ↓ogf_256_30, ↓ogf_256_31, ↓ogf_256_32, ↓ogf_256_33, ↓ogf_256_34, ↓oai_257, ↓owi_257, c_Model_num, c_Model_place, q2', hR'.1, hpl]
            refine c_Model_lead hr hR' hok hp0 ht51 hT (ub_t hC) (fun q r hr hq => ?_) (fun M2 bh3 hv2 hT2 => ?_)
            · have hne : q ≠ p + 1 := fun h => by
                subst h
                have : ub s.1 (p + 1) true (p + 1) = false := hq
                rw [ub_s] at this
                cases this
              have h2 : s.1 q = false := by
                have : ub s.1 (p + 1) true q = false := hq
                rw [ub_o hne] at this
                exact this
              exact (arF_o hne).trans (hN q r hr h2)
            · rw [hFp] at hT2
              simp (decide := true) only [zi_Model_know_251, zi_Model_know_252, zi_Model_know_254, ↓reduceIte, mj_op_s, Option.toList_some, Option.toList_none, List.cons_append, List.nil_append, hp_1, hp_2, true_and, and_true, zb_0, zb_1, zb_b, va_rf]
              exact hend M2 bh3 _ _ _ _ (sv_trans hv hv2) hT2
          | some v =>
            have hv0 := hS.2.2.1 p l hp51 hl v hF
            by_cases cv : v = 0
            · subst cv
              have k1 : kn A p (s.2.1 p) = true := by unfold kn nxP kdc kfl; rw [c13, hcz, hF]; rfl
              have k2 : ky A p (s.2.1 p) = false := by unfold ky jyP kdc kfl; rw [c13, hcz, hF]; rfl
              rw [k1, k2] at hend
              simp only [Bool.false_eq_true, if_false, if_true, List.append_nil, List.cons_append, List.nil_append, List.foldl_cons, List.foldl_nil] at hend
              rw [c13] at q0
              simp (decide := true) (disch := first | assumption | omega) only [zi_Model_know_101, zi_Model_know_102, zi_Model_know_105, zi_Model_know_106, zi_Model_know_107, zi_Model_know_110, zi_Model_know_111, zi_Model_know_112, zi_Model_know_113, zi_Model_know_116, zi_Model_know_119, zi_Model_know_122, zi_Model_know_123, zi_Model_know_124, zi_Model_know_125, zi_Model_know_128, zi_Model_know_129, zi_Model_know_130, zi_Model_know_131, zi_Model_know_132, zi_Model_know_133, zi_Model_know_136, zi_Model_know_138, zi_Model_know_139, zi_Model_know_141, zi_Model_know_144, zi_Model_know_145, zi_Model_know_146, zi_Model_know_148, zi_Model_know_151, zi_Model_know_154, zi_Model_know_155, zi_Model_know_158, zi_Model_know_159, zi_Model_know_161, zi_Model_know_163, zi_Model_know_166, zi_Model_know_167, zi_Model_know_168, zi_Model_know_170, zi_Model_know_173, zi_Model_know_174, zi_Model_know_175, zi_Model_know_178, zi_Model_know_179, zi_Model_know_182, zi_Model_know_183, zi_Model_know_185, zi_Model_know_186, zi_Model_know_188, zi_Model_know_191, zi_Model_know_192, zi_Model_know_194, zi_Model_know_197, zi_Model_know_199, zi_Model_know_202, zi_Model_know_203, zi_Model_know_204, zi_Model_know_205, zi_Model_know_206, zi_Model_know_207, zi_Model_know_208, ↓reduceIte, mj_op_s, Option.toList_some, Option.toList_none, List.cons_append, List.nil_append, hp_1, hp_2, true_and, and_true, zb_0, zb_1, zb_b, va_rf, io_256, ↓ogf_256_0, ↓opf_256_0, ↓ogf_256_1, ↓ogf_256_2, ↓ogf_256_3, ↓ogf_256_4, ↓opf_256_4, ↓ogf_256_5, ↓ogf_256_6, ↓ogf_256_7, ↓opf_256_7, ↓ogf_256_8, ↓opf_256_8, ↓ogf_256_9, ↓opf_256_9, ↓ogf_256_10, ↓opf_256_10, ↓ogf_256_11, ↓ogf_256_12, ↓ogf_256_13, ↓ogf_256_14, ↓ogf_256_15, ↓ogf_256_16, ↓ogf_256_17, ↓opf_256_17, ↓ogf_256_18, ↓opf_256_18, ↓ogf_256_19, ↓ogf_256_20, ↓ogf_256_21, ↓ogf_256_22, ↓opf_256_22_0, ↓opf_256_22_1, ↓ogf_256_23, ↓opf_256_23, ↓ogf_256_24, ↓ogf_256_25, ↓opf_256_25_0, ↓opf_256_25_1, ↓ogf_256_26, ↓opf_256_26, ↓ogf_256_27, ↓opf_256_27, ↓ogf_256_28, ↓opf_256_28, ↓ogf_256_29, ↓ogf_256_30, ↓ogf_256_31, ↓ogf_256_32, ↓ogf_256_33, ↓ogf_256_34, ↓oai_257, ↓owi_257, ↓oaz_268, ↓owz_268, r8, c_Model_stops hr hR hok hp0 hS, hst, b1_f, b1_t, c_Model_kind, c_Model_num, c_Model_knows hS hp51 hl, c_Model_as hp51 hl, hv0, lgc_eq, hF, Option.isSome_some, q0, q1, q2, hR.1, hpl, nI_add]
              refine c_Model_lead hr hR hok hp0 hp52 hS hC hN (fun M' bh2 hv hT => ?_)
              simp (decide := true) only [zi_Model_know_211, zi_Model_know_212, zi_Model_know_214, zi_Model_know_217, zi_Model_know_218, zi_Model_know_220, zi_Model_know_223, zi_Model_know_225, zi_Model_know_228, zi_Model_know_230, zi_Model_know_233, zi_Model_know_234, zi_Model_know_235, zi_Model_know_236, zi_Model_know_237, zi_Model_know_238, zi_Model_know_239, zi_Model_know_240, zi_Model_know_241, zi_Model_know_242, zi_Model_know_245, zi_Model_know_248, zi_Model_know_251, zi_Model_know_252, zi_Model_know_254, ↓reduceIte, mj_op_s, Option.toList_some, Option.toList_none, List.cons_append, List.nil_append, hp_1, hp_2, true_and, and_true, zb_0, zb_1, zb_b, va_rf]
              exact hend M' bh2 _ _ _ _ hv hT
            · have k1 : kn A p (s.2.1 p) = false := by unfold kn nxP kdc kfl; rw [c13, hcz, hF]; simp [cv]
              have k2 : ky A p (s.2.1 p) = true := by unfold ky jyP kdc kfl; rw [c13, hcz, hF]; simp [cv]
              rw [k1, k2] at hend
              simp only [Bool.false_eq_true, if_false, if_true, List.append_nil, List.cons_append, List.nil_append, List.foldl_cons, List.foldl_nil] at hend
              rw [c13] at q0
              simp (decide := true) (disch := first | assumption | omega) only [zi_Model_know_101, zi_Model_know_102, zi_Model_know_105, zi_Model_know_106, zi_Model_know_107, zi_Model_know_110, zi_Model_know_111, zi_Model_know_112, zi_Model_know_113, zi_Model_know_116, zi_Model_know_119, zi_Model_know_122, zi_Model_know_123, zi_Model_know_124, zi_Model_know_125, zi_Model_know_128, zi_Model_know_129, zi_Model_know_130, zi_Model_know_131, zi_Model_know_132, zi_Model_know_133, zi_Model_know_136, zi_Model_know_138, zi_Model_know_139, zi_Model_know_141, zi_Model_know_144, zi_Model_know_145, zi_Model_know_146, zi_Model_know_148, zi_Model_know_151, zi_Model_know_154, zi_Model_know_155, zi_Model_know_158, zi_Model_know_159, zi_Model_know_161, zi_Model_know_163, zi_Model_know_166, zi_Model_know_167, zi_Model_know_168, zi_Model_know_170, zi_Model_know_173, zi_Model_know_174, zi_Model_know_175, zi_Model_know_178, zi_Model_know_179, zi_Model_know_182, zi_Model_know_183, zi_Model_know_185, zi_Model_know_186, zi_Model_know_188, zi_Model_know_191, zi_Model_know_192, zi_Model_know_194, zi_Model_know_197, zi_Model_know_199, zi_Model_know_202, zi_Model_know_203, zi_Model_know_204, zi_Model_know_205, zi_Model_know_206, zi_Model_know_207, zi_Model_know_208, zi_Model_know_211, zi_Model_know_212, zi_Model_know_214, zi_Model_know_217, zi_Model_know_218, zi_Model_know_220, zi_Model_know_223, zi_Model_know_225, zi_Model_know_228, zi_Model_know_230, zi_Model_know_233, zi_Model_know_234, zi_Model_know_235, zi_Model_know_236, zi_Model_know_237, zi_Model_know_238, zi_Model_know_239, zi_Model_know_240, zi_Model_know_241, zi_Model_know_242, zi_Model_know_245, zi_Model_know_248, ↓reduceIte, mj_op_s, Option.toList_some, Option.toList_none, List.cons_append, List.nil_append, hp_1, hp_2, true_and, and_true, zb_0, zb_1, zb_b, va_rf, io_256, ↓ogf_256_0, ↓opf_256_0, ↓ogf_256_1, ↓ogf_256_2, ↓ogf_256_3, ↓ogf_256_4, ↓opf_256_4, ↓ogf_256_5, ↓ogf_256_6, ↓ogf_256_7, ↓opf_256_7, ↓ogf_256_8, ↓opf_256_8, ↓ogf_256_9, ↓opf_256_9, ↓ogf_256_10, ↓opf_256_10, ↓ogf_256_11, ↓ogf_256_12, ↓ogf_256_13, ↓ogf_256_14, ↓ogf_256_15, ↓ogf_256_16, ↓ogf_256_17, ↓opf_256_17, ↓ogf_256_18, ↓opf_256_18, ↓ogf_256_19, ↓ogf_256_20, ↓ogf_256_21, ↓ogf_256_22, ↓opf_256_22_0, ↓opf_256_22_1, ↓ogf_256_23, ↓opf_256_23, ↓ogf_256_24, ↓ogf_256_25, ↓opf_256_25_0, ↓opf_256_25_1, ↓ogf_256_26, ↓opf_256_26, ↓ogf_256_27, ↓opf_256_27, ↓ogf_256_28, ↓opf_256_28, ↓ogf_256_29, ↓ogf_256_30, ↓ogf_256_31, ↓ogf_256_32, ↓ogf_256_33, ↓ogf_256_34, ↓oai_257, ↓owi_257, ↓oaz_268, ↓owz_268, r8, c_Model_stops hr hR hok hp0 hS, hst, b1_f, b1_t, c_Model_kind, c_Model_num, c_Model_place, c_Model_knows hS hp51 hl, c_Model_as hp51 hl, hv0, lgc_eq, cv, hF, Option.isSome_some, q0, q1, q2, hR.1, hpl, nI_add]
              refine c_Model_lead hr hR hok hp0 ht51 hS hC hN (fun M' bh2 hv hT => ?_)
              simp (decide := true) only [zi_Model_know_251, zi_Model_know_252, zi_Model_know_254, ↓reduceIte, mj_op_s, Option.toList_some, Option.toList_none, List.cons_append, List.nil_append, hp_1, hp_2, true_and, and_true, zb_0, zb_1, zb_b, va_rf]
              exact hend M' bh2 _ _ _ _ hv hT
        · have k1 : kn A p (s.2.1 p) = true := by unfold kn nxP kdc; rw [decide_eq_true (show (¬A p 0 = nI 12 ∧ ¬A p 0 = nI 14) from ⟨c12, c14⟩), decide_eq_false c13]; rfl
          have k2 : ky A p (s.2.1 p) = false := by unfold ky jyP; rw [decide_eq_false (show ¬ (A p 0 = nI 12 ∨ A p 0 = nI 13) from fun h => h.elim c12 c13)]; rfl
          rw [k1, k2] at hend
          simp only [Bool.false_eq_true, if_false, if_true, List.append_nil, List.cons_append, List.nil_append, List.foldl_cons, List.foldl_nil] at hend
          simp (decide := true) (disch := first | assumption | omega) only [zi_Model_know_101, zi_Model_know_102, zi_Model_know_105, zi_Model_know_106, zi_Model_know_107, zi_Model_know_110, zi_Model_know_111, zi_Model_know_112, zi_Model_know_113, zi_Model_know_116, zi_Model_know_119, zi_Model_know_122, zi_Model_know_123, zi_Model_know_124, zi_Model_know_125, zi_Model_know_128, zi_Model_know_129, zi_Model_know_130, zi_Model_know_131, zi_Model_know_132, zi_Model_know_133, zi_Model_know_136, zi_Model_know_138, zi_Model_know_139, zi_Model_know_141, zi_Model_know_144, zi_Model_know_145, zi_Model_know_146, zi_Model_know_148, zi_Model_know_151, zi_Model_know_154, zi_Model_know_155, zi_Model_know_158, zi_Model_know_159, zi_Model_know_161, zi_Model_know_163, zi_Model_know_166, zi_Model_know_167, zi_Model_know_168, zi_Model_know_170, zi_Model_know_173, zi_Model_know_174, zi_Model_know_175, zi_Model_know_178, zi_Model_know_179, zi_Model_know_182, zi_Model_know_183, zi_Model_know_185, zi_Model_know_186, zi_Model_know_188, zi_Model_know_191, zi_Model_know_192, zi_Model_know_194, zi_Model_know_197, zi_Model_know_199, zi_Model_know_202, zi_Model_know_203, zi_Model_know_204, zi_Model_know_205, zi_Model_know_206, zi_Model_know_207, zi_Model_know_208, ↓reduceIte, mj_op_s, Option.toList_some, Option.toList_none, List.cons_append, List.nil_append, hp_1, hp_2, true_and, and_true, zb_0, zb_1, zb_b, va_rf, io_256, ↓ogf_256_0, ↓opf_256_0, ↓ogf_256_1, ↓ogf_256_2, ↓ogf_256_3, ↓ogf_256_4, ↓opf_256_4, ↓ogf_256_5, ↓ogf_256_6, ↓ogf_256_7, ↓opf_256_7, ↓ogf_256_8, ↓opf_256_8, ↓ogf_256_9, ↓opf_256_9, ↓ogf_256_10, ↓opf_256_10, ↓ogf_256_11, ↓ogf_256_12, ↓ogf_256_13, ↓ogf_256_14, ↓ogf_256_15, ↓ogf_256_16, ↓ogf_256_17, ↓opf_256_17, ↓ogf_256_18, ↓opf_256_18, ↓ogf_256_19, ↓ogf_256_20, ↓ogf_256_21, ↓ogf_256_22, ↓opf_256_22_0, ↓opf_256_22_1, ↓ogf_256_23, ↓opf_256_23, ↓ogf_256_24, ↓ogf_256_25, ↓opf_256_25_0, ↓opf_256_25_1, ↓ogf_256_26, ↓opf_256_26, ↓ogf_256_27, ↓opf_256_27, ↓ogf_256_28, ↓opf_256_28, ↓ogf_256_29, ↓ogf_256_30, ↓ogf_256_31, ↓ogf_256_32, ↓ogf_256_33, ↓ogf_256_34, ↓oai_257, ↓owi_257, ↓oaz_268, ↓owz_268, r8, c_Model_stops hr hR hok hp0 hS, hst, b1_f, c_Model_kind, c_Model_num, q0, q1, q2, hR.1, c12, c13, c14, nI_add]
          refine c_Model_lead hr hR hok hp0 hp52 hS hC hN (fun M' bh2 hv hT => ?_)
          simp (decide := true) only [zi_Model_know_211, zi_Model_know_212, zi_Model_know_214, zi_Model_know_217, zi_Model_know_218, zi_Model_know_220, zi_Model_know_223, zi_Model_know_225, zi_Model_know_228, zi_Model_know_230, zi_Model_know_233, zi_Model_know_234, zi_Model_know_235, zi_Model_know_236, zi_Model_know_237, zi_Model_know_238, zi_Model_know_239, zi_Model_know_240, zi_Model_know_241, zi_Model_know_242, zi_Model_know_245, zi_Model_know_248, zi_Model_know_251, zi_Model_know_252, zi_Model_know_254, ↓reduceIte, mj_op_s, Option.toList_some, Option.toList_none, List.cons_append, List.nil_append, hp_1, hp_2, true_and, and_true, zb_0, zb_1, zb_b, va_rf, c12, c13, c14]
          exact hend M' bh2 _ _ _ _ hv hT
theorem l_know_p (hr : r < 44) (hR : hasM M r len A) (hok : okR len A) {s0 : KS}
    (hend : ∀ M' s bh2 (y2 : Int32) y3 y4 y5 y6, sv kmP M M' → kmT M' s bh2 → kW len A s0 len s → mj_V (d + 4) lim mq_Model_know 77 [.ref 256, .int (nI r), .int y2, y3, y4, y5, y6] [] (hp M') Q) :
    ∀ (n p : Nat) (M' : mm) (s : KS) (bh : Int64) (x3 x4 x5 x6 : Value), p + n = len → sv kmP M M' → kmT M' s bh → kW len A s0 p s → mj_V (d + 4) lim mq_Model_know 91 [.ref 256, .int (nI r), .int (nI p), x3, x4, x5, x6] [] (hp M') Q := by
  have h50 := hok.1
  intro n
  induction n with
  | zero =>
    intro p M' s bh x3 x4 x5 x6 hp0 hv hT hW
    obtain rfl : p = len := by omega
    have r0 := (km_hasM hv hR).1
    have e1 : ¬ nI p < nI p := nI_nlt (by omega) (by omega)
    rw [zi_Model_know_91]
    simp (disch := omega) only [zi_Model_know_92, zi_Model_know_93, zi_Model_know_96, zi_Model_know_97, zi_Model_know_98, zi_Model_know_275, ↓reduceIte, mj_op_s, Option.toList_some, Option.toList_none, List.cons_append, List.nil_append, hp_1, hp_2, true_and, and_true, zb_0, zb_1, zb_b, va_rf, io_256, ↓ogf_256_0, ↓opf_256_0, ↓ogf_256_1, ↓ogf_256_2, ↓ogf_256_3, ↓ogf_256_4, ↓opf_256_4, ↓ogf_256_5, ↓ogf_256_6, ↓ogf_256_7, ↓opf_256_7, ↓ogf_256_8, ↓opf_256_8, ↓ogf_256_9, ↓opf_256_9, ↓ogf_256_10, ↓opf_256_10, ↓ogf_256_11, ↓ogf_256_12, ↓ogf_256_13, ↓ogf_256_14, ↓ogf_256_15, ↓ogf_256_16, ↓ogf_256_17, ↓opf_256_17, ↓ogf_256_18, ↓opf_256_18, ↓ogf_256_19, ↓ogf_256_20, ↓ogf_256_21, ↓ogf_256_22, ↓opf_256_22_0, ↓opf_256_22_1, ↓ogf_256_23, ↓opf_256_23, ↓ogf_256_24, ↓ogf_256_25, ↓opf_256_25_0, ↓opf_256_25_1, ↓ogf_256_26, ↓opf_256_26, ↓ogf_256_27, ↓opf_256_27, ↓ogf_256_28, ↓opf_256_28, ↓ogf_256_29, ↓ogf_256_30, ↓ogf_256_31, ↓ogf_256_32, ↓ogf_256_33, ↓ogf_256_34, ↓oai_257, ↓owi_257, r0, e1]
    exact hend M' s bh _ _ _ _ _ hv hT hW
  | succ n ih =>
    intro p M' s bh x3 x4 x5 x6 hp0 hv hT hW
    have hR' := km_hasM hv hR
    have r0 := hR'.1
    have e1 : nI p < nI len := nI_lt (by omega) (by omega)
    have hpl : p < len := by omega
    have hp51 : p < 51 := by omega
    rw [zi_Model_know_91]
    simp (disch := omega) only [zi_Model_know_92, zi_Model_know_93, zi_Model_know_96, zi_Model_know_97, zi_Model_know_98, ↓reduceIte, mj_op_s, Option.toList_some, Option.toList_none, List.cons_append, List.nil_append, hp_1, hp_2, true_and, and_true, zb_0, zb_1, zb_b, va_rf, io_256, ↓ogf_256_0, ↓opf_256_0, ↓ogf_256_1, ↓ogf_256_2, ↓ogf_256_3, ↓ogf_256_4, ↓opf_256_4, ↓ogf_256_5, ↓ogf_256_6, ↓ogf_256_7, ↓opf_256_7, ↓ogf_256_8, ↓opf_256_8, ↓ogf_256_9, ↓opf_256_9, ↓ogf_256_10, ↓opf_256_10, ↓ogf_256_11, ↓ogf_256_12, ↓ogf_256_13, ↓ogf_256_14, ↓ogf_256_15, ↓ogf_256_16, ↓ogf_256_17, ↓opf_256_17, ↓ogf_256_18, ↓opf_256_18, ↓ogf_256_19, ↓ogf_256_20, ↓ogf_256_21, ↓ogf_256_22, ↓opf_256_22_0, ↓opf_256_22_1, ↓ogf_256_23, ↓opf_256_23, ↓ogf_256_24, ↓ogf_256_25, ↓opf_256_25_0, ↓opf_256_25_1, ↓ogf_256_26, ↓opf_256_26, ↓ogf_256_27, ↓opf_256_27, ↓ogf_256_28, ↓opf_256_28, ↓ogf_256_29, ↓ogf_256_30, ↓ogf_256_31, ↓ogf_256_32, ↓ogf_256_33, ↓ogf_256_34, ↓oai_257, ↓owi_257, r0, e1]
    cases hC : s.1 p with
    | true =>
      refine l_know_visit hr hR' hok hpl hT hC (fun q r hr h => hW.1.2.2.2 q h r hr) (fun M2 bh2 y3 y4 y5 y6 hv2 hT2 => ?_)
      simp only [zi_Model_know_269, zi_Model_know_272, ↓reduceIte, mj_op_s, Option.toList_some, Option.toList_none, List.cons_append, List.nil_append, hp_1, hp_2, true_and, and_true, zb_0, zb_1, zb_b, va_rf, nI_add]
      exact ih (p + 1) M2 _ bh2 _ _ _ _ (by omega) (sv_trans hv hv2) hT2 (kW_go hok hW hpl hC)
    | false =>
      have r8 : rI M' 268 p = nI 0 := by rw [hT.1 p hp51, hC]; rfl
      simp (decide := true) (disch := first | assumption | omega) only [zi_Model_know_101, zi_Model_know_102, zi_Model_know_105, zi_Model_know_106, zi_Model_know_107, zi_Model_know_269, zi_Model_know_272, ↓reduceIte, mj_op_s, Option.toList_some, Option.toList_none, List.cons_append, List.nil_append, hp_1, hp_2, true_and, and_true, zb_0, zb_1, zb_b, va_rf, io_256, ↓ogf_256_0, ↓opf_256_0, ↓ogf_256_1, ↓ogf_256_2, ↓ogf_256_3, ↓ogf_256_4, ↓opf_256_4, ↓ogf_256_5, ↓ogf_256_6, ↓ogf_256_7, ↓opf_256_7, ↓ogf_256_8, ↓opf_256_8, ↓ogf_256_9, ↓opf_256_9, ↓ogf_256_10, ↓opf_256_10, ↓ogf_256_11, ↓ogf_256_12, ↓ogf_256_13, ↓ogf_256_14, ↓ogf_256_15, ↓ogf_256_16, ↓ogf_256_17, ↓opf_256_17, ↓ogf_256_18, ↓opf_256_18, ↓ogf_256_19, ↓ogf_256_20, ↓ogf_256_21, ↓ogf_256_22, ↓opf_256_22_0, ↓opf_256_22_1, ↓ogf_256_23, ↓opf_256_23, ↓ogf_256_24, ↓ogf_256_25, ↓opf_256_25_0, ↓opf_256_25_1, ↓ogf_256_26, ↓opf_256_26, ↓ogf_256_27, ↓opf_256_27, ↓ogf_256_28, ↓opf_256_28, ↓ogf_256_29, ↓ogf_256_30, ↓ogf_256_31, ↓ogf_256_32, ↓ogf_256_33, ↓ogf_256_34, ↓oaz_268, ↓owz_268, r8, nI_add]
      exact ih (p + 1) M' s bh _ _ _ _ (by omega) hv hT (kW_no hW hC)
theorem l_know_out (hr : r < 44) (hR : hasM M r len A) (hok : okR len A) (hend : ∀ M' s bh2, sv kmP M M' → kmT M' s bh2 → knL len A s.1 s.2.1 → Q none (hp M')) :
    ∀ (f : Nat) (M' : mm) (s : KS) (bh : Int64) (x2 : Int32) (x3 x4 x5 x6 : Value), 460 ≤ f + rk s.1 s.2.1 → sv kmP M M' → kmT M' s bh → s.2.2.2 = true → knI len A s.1 s.2.1 → mj_V (d + 4) lim mq_Model_know 77 [.ref 256, .int (nI r), .int x2, x3, x4, x5, x6] [] (hp M') Q := by
  intro f
  induction f with
  | zero =>
    intro M' s bh x2 x3 x4 x5 x6 hf
    have := rk_le (C := s.1) (F := s.2.1)
    omega
  | succ f ih =>
    intro M' s bh x2 x3 x4 x5 x6 hf hv hT hsw hI
    have r22 : rI M' 256 22 = nI 1 := by rw [hT.2.2.2.1, hsw]; rfl
    rw [zi_Model_know_77]
    simp (decide := true) (disch := first | assumption | omega) only [zi_Model_know_78, zi_Model_know_81, zi_Model_know_84, zi_Model_know_85, zi_Model_know_86, zi_Model_know_89, zi_Model_know_90, ↓reduceIte, mj_op_s, Option.toList_some, Option.toList_none, List.cons_append, List.nil_append, hp_1, hp_2, true_and, and_true, zb_0, zb_1, zb_b, va_rf, io_256, ↓ogf_256_0, ↓opf_256_0, ↓ogf_256_1, ↓ogf_256_2, ↓ogf_256_3, ↓ogf_256_4, ↓opf_256_4, ↓ogf_256_5, ↓ogf_256_6, ↓ogf_256_7, ↓opf_256_7, ↓ogf_256_8, ↓opf_256_8, ↓ogf_256_9, ↓opf_256_9, ↓ogf_256_10, ↓opf_256_10, ↓ogf_256_11, ↓ogf_256_12, ↓ogf_256_13, ↓ogf_256_14, ↓ogf_256_15, ↓ogf_256_16, ↓ogf_256_17, ↓opf_256_17, ↓ogf_256_18, ↓opf_256_18, ↓ogf_256_19, ↓ogf_256_20, ↓ogf_256_21, ↓ogf_256_22, ↓opf_256_22_0, ↓opf_256_22_1, ↓ogf_256_23, ↓opf_256_23, ↓ogf_256_24, ↓ogf_256_25, ↓opf_256_25_0, ↓opf_256_25_1, ↓ogf_256_26, ↓opf_256_26, ↓ogf_256_27, ↓opf_256_27, ↓ogf_256_28, ↓opf_256_28, ↓ogf_256_29, ↓ogf_256_30, ↓ogf_256_31, ↓ogf_256_32, ↓ogf_256_33, ↓ogf_256_34, r22]
    have hv1 : sv kmP M' (wI M' 256 22 (nI 0)) := sv_wI sv_refl (by unfold kmP; omega)
    have hT1 : kmT (wI M' 256 22 (nI 0)) (s.1, s.2.1, s.2.2.1, false) bh := by
      refine ⟨fun q hq => ?_, fun q r hq hr => ?_, hT.2.2.1, ?_, hT.2.2.2.2⟩
      · rw [rI_wI, if_neg (by omega)]; exact hT.1 q hq
      · rw [rI_wI, if_neg (by omega)]; exact hT.2.1 q r hq hr
      · rw [rI_wI, if_pos ⟨rfl, rfl⟩]; rfl
    refine l_know_p (M := wI M' 256 22 (nI 0)) hr (km_hasM hv1 (km_hasM hv hR)) hok (s0 := s) (fun M2 s2 bh2 y2 y3 y4 y5 y6 hv2 hT2 hW2 => ?_) len 0 _ (s.1, s.2.1, s.2.2.1, false) bh _ _ _ _ (by omega) sv_refl hT1 ⟨hI, Or.inl ⟨rfl, rfl, rfl, fun q hq => by omega⟩⟩
    have hv3 := sv_trans hv (sv_trans hv1 hv2)
    obtain ⟨hI2, h⟩ := hW2
    rcases h with ⟨e1, e2, e3, e4⟩ | ⟨e3, e4⟩
    · have r22 : rI M2 256 22 = nI 0 := by rw [hT2.2.2.2.1, e3]; rfl
      rw [zi_Model_know_77]
      simp (decide := true) (disch := first | assumption | omega) only [zi_Model_know_78, zi_Model_know_81, zi_Model_know_278, ↓reduceIte, mj_op_s, Option.toList_some, Option.toList_none, List.cons_append, List.nil_append, hp_1, hp_2, true_and, and_true, zb_0, zb_1, zb_b, va_rf, io_256, ↓ogf_256_0, ↓opf_256_0, ↓ogf_256_1, ↓ogf_256_2, ↓ogf_256_3, ↓ogf_256_4, ↓opf_256_4, ↓ogf_256_5, ↓ogf_256_6, ↓ogf_256_7, ↓opf_256_7, ↓ogf_256_8, ↓opf_256_8, ↓ogf_256_9, ↓opf_256_9, ↓ogf_256_10, ↓opf_256_10, ↓ogf_256_11, ↓ogf_256_12, ↓ogf_256_13, ↓ogf_256_14, ↓ogf_256_15, ↓ogf_256_16, ↓ogf_256_17, ↓opf_256_17, ↓ogf_256_18, ↓opf_256_18, ↓ogf_256_19, ↓ogf_256_20, ↓ogf_256_21, ↓ogf_256_22, ↓opf_256_22_0, ↓opf_256_22_1, ↓ogf_256_23, ↓opf_256_23, ↓ogf_256_24, ↓ogf_256_25, ↓opf_256_25_0, ↓opf_256_25_1, ↓ogf_256_26, ↓opf_256_26, ↓ogf_256_27, ↓opf_256_27, ↓ogf_256_28, ↓opf_256_28, ↓ogf_256_29, ↓ogf_256_30, ↓ogf_256_31, ↓ogf_256_32, ↓ogf_256_33, ↓ogf_256_34, r22]
      exact hend M2 s2 bh2 hv3 hT2 ⟨⟨hI2.1, hI2.2.1, fun q hq hC => e4 q hq hC⟩, hI2.2.2.1, hI2.2.2.2⟩
    · exact ih M2 s2 bh2 _ _ _ _ _ (by omega) hv3 hT2 e3 hI2
abbrev kiP (i _k : Nat) : Prop := i = 268 ∨ i = 269
theorem l_know_c {x3 x4 x5 x6 : Value} (hend : ∀ M', sv kiP M M' → (∀ k, k < 51 → rI M' 268 k = nI 0) → mj_V d lim mq_Model_know 21 [.ref 256, .int (nI r), .int (nI 51), x3, x4, x5, x6] [] (hp M') Q) : ∀ (n j : Nat) (M' : mm), j + n = 51 → sv kiP M M' → (∀ k, k < j → rI M' 268 k = nI 0) → mj_V d lim mq_Model_know 2 [.ref 256, .int (nI r), .int (nI j), x3, x4, x5, x6] [] (hp M') Q := by
  intro n
  induction n with
  | zero =>
    intro j M' hj hv h
    obtain rfl : j = 51 := by omega
    rw [zi_Model_know_2]
    simp (decide := true) only [zi_Model_know_3, zi_Model_know_5, ↓reduceIte, mj_op_s, Option.toList_some, Option.toList_none, List.cons_append, List.nil_append, hp_1, hp_2, true_and, and_true, zb_0, zb_1, zb_b, va_rf]
    exact hend M' hv h
  | succ n ih =>
    intro j M' hj hv h
    have hj8 : j < 51 := by omega
    have e1 : ¬ nI 50 < nI j := nI_nlt (by omega) (by omega)
    rw [zi_Model_know_2]
    simp (disch := first | assumption | omega) only [zi_Model_know_3, zi_Model_know_5, zi_Model_know_8, zi_Model_know_9, zi_Model_know_12, zi_Model_know_13, zi_Model_know_14, zi_Model_know_15, zi_Model_know_18, ↓reduceIte, mj_op_s, Option.toList_some, Option.toList_none, List.cons_append, List.nil_append, hp_1, hp_2, true_and, and_true, zb_0, zb_1, zb_b, va_rf, io_256, ↓ogf_256_0, ↓opf_256_0, ↓ogf_256_1, ↓ogf_256_2, ↓ogf_256_3, ↓ogf_256_4, ↓opf_256_4, ↓ogf_256_5, ↓ogf_256_6, ↓ogf_256_7, ↓opf_256_7, ↓ogf_256_8, ↓opf_256_8, ↓ogf_256_9, ↓opf_256_9, ↓ogf_256_10, ↓opf_256_10, ↓ogf_256_11, ↓ogf_256_12, ↓ogf_256_13, ↓ogf_256_14, ↓ogf_256_15, ↓ogf_256_16, ↓ogf_256_17, ↓opf_256_17, ↓ogf_256_18, ↓opf_256_18, ↓ogf_256_19, ↓ogf_256_20, ↓ogf_256_21, ↓ogf_256_22, ↓opf_256_22_0, ↓opf_256_22_1, ↓ogf_256_23, ↓opf_256_23, ↓ogf_256_24, ↓ogf_256_25, ↓opf_256_25_0, ↓opf_256_25_1, ↓ogf_256_26, ↓opf_256_26, ↓ogf_256_27, ↓opf_256_27, ↓ogf_256_28, ↓opf_256_28, ↓ogf_256_29, ↓ogf_256_30, ↓ogf_256_31, ↓ogf_256_32, ↓ogf_256_33, ↓ogf_256_34, ↓oaz_268, ↓owz_268, e1, nI_add, zv_0]
    refine ih (j + 1) _ (by omega) (sv_wI hv (by unfold kiP; omega)) (fun k hk => ?_)
    rw [rI_wI]
    split
    · rfl
    · exact h k (by omega)
theorem l_know_i {x3 x4 x5 x6 : Value} (hend : ∀ M', sv kiP M M' → (∀ k, k < 51 → rI M' 268 k = nI 0) → (∀ k, k < 408 → rI M' 269 k = nI 0) → mj_V d lim mq_Model_know 43 [.ref 256, .int (nI r), .int (nI 408), x3, x4, x5, x6] [] (hp M') Q) : ∀ (n j : Nat) (M' : mm), j + n = 408 → sv kiP M M' → (∀ k, k < 51 → rI M' 268 k = nI 0) → (∀ k, k < j → rI M' 269 k = nI 0) → mj_V d lim mq_Model_know 23 [.ref 256, .int (nI r), .int (nI j), x3, x4, x5, x6] [] (hp M') Q := by
  intro n
  induction n with
  | zero =>
    intro j M' hj hv hc h
    obtain rfl : j = 408 := by omega
    rw [zi_Model_know_23]
    simp (decide := true) only [zi_Model_know_24, zi_Model_know_27, ↓reduceIte, mj_op_s, Option.toList_some, Option.toList_none, List.cons_append, List.nil_append, hp_1, hp_2, true_and, and_true, zb_0, zb_1, zb_b, va_rf]
    exact hend M' hv hc h
  | succ n ih =>
    intro j M' hj hv hc h
    have hj8 : j < 408 := by omega
    have e1 : nI j < nI 408 := nI_lt (by omega) (by omega)
    rw [zi_Model_know_23]
    simp (disch := first | assumption | omega) only [zi_Model_know_24, zi_Model_know_27, zi_Model_know_30, zi_Model_know_31, zi_Model_know_34, zi_Model_know_35, zi_Model_know_36, zi_Model_know_37, zi_Model_know_40, ↓reduceIte, mj_op_s, Option.toList_some, Option.toList_none, List.cons_append, List.nil_append, hp_1, hp_2, true_and, and_true, zb_0, zb_1, zb_b, va_rf, io_256, ↓ogf_256_0, ↓opf_256_0, ↓ogf_256_1, ↓ogf_256_2, ↓ogf_256_3, ↓ogf_256_4, ↓opf_256_4, ↓ogf_256_5, ↓ogf_256_6, ↓ogf_256_7, ↓opf_256_7, ↓ogf_256_8, ↓opf_256_8, ↓ogf_256_9, ↓opf_256_9, ↓ogf_256_10, ↓opf_256_10, ↓ogf_256_11, ↓ogf_256_12, ↓ogf_256_13, ↓ogf_256_14, ↓ogf_256_15, ↓ogf_256_16, ↓ogf_256_17, ↓opf_256_17, ↓ogf_256_18, ↓opf_256_18, ↓ogf_256_19, ↓ogf_256_20, ↓ogf_256_21, ↓ogf_256_22, ↓opf_256_22_0, ↓opf_256_22_1, ↓ogf_256_23, ↓opf_256_23, ↓ogf_256_24, ↓ogf_256_25, ↓opf_256_25_0, ↓opf_256_25_1, ↓ogf_256_26, ↓opf_256_26, ↓ogf_256_27, ↓opf_256_27, ↓ogf_256_28, ↓opf_256_28, ↓ogf_256_29, ↓ogf_256_30, ↓ogf_256_31, ↓ogf_256_32, ↓ogf_256_33, ↓ogf_256_34, ↓oai_269, ↓owi_269, e1, nI_add]
    refine ih (j + 1) _ (by omega) (sv_wI hv (by unfold kiP; omega)) (fun k hk => ?_) (fun k hk => ?_)
    · rw [rI_wI, if_neg (by omega)]; exact hc k hk
    · rw [rI_wI]
      split
      · rfl
      · exact h k (by omega)
def kD0 (j : Nat) : Nat → Nat → Bool := fun p r => decide (p = 0 ∧ r < j)
def kFj (j : Nat) : KF := fun p r => if p = 0 ∧ r < j then some 0 else none
theorem l_know_m {x3 x4 x5 x6 : Value} (hend : ∀ M' sw bh, sv kmP M M' → kmS M' kC0 (kD0 8) (kFj 8) sw bh → mj_V (d + 1) lim mq_Model_know 72 [.ref 256, .int (nI r), .int (nI 8), x3, x4, x5, x6] [] (hp M') Q) : ∀ (n j : Nat) (M' : mm) (sw : Bool) (bh : Int64), j + n = 8 → sv kmP M M' → kmS M' kC0 (kD0 j) (kFj j) sw bh → mj_V (d + 1) lim mq_Model_know 52 [.ref 256, .int (nI r), .int (nI j), x3, x4, x5, x6] [] (hp M') Q := by
  intro n
  induction n with
  | zero =>
    intro j M' sw bh hj hv h
    obtain rfl : j = 8 := by omega
    rw [zi_Model_know_52]
    simp (decide := true) only [zi_Model_know_53, zi_Model_know_55, ↓reduceIte, mj_op_s, Option.toList_some, Option.toList_none, List.cons_append, List.nil_append, hp_1, hp_2, true_and, and_true, zb_0, zb_1, zb_b, va_rf]
    exact hend M' sw bh hv h
  | succ n ih =>
    intro j M' sw bh hj hv h
    have hj8 : j < 8 := by omega
    have e1 : nI j < nI 8 := nI_lt (by omega) (by omega)
    have hD : kD0 j 0 j = false := by unfold kD0; simp
    have hF : kFj j 0 j = none := by unfold kFj; simp
    rw [zi_Model_know_52]
    simp (disch := first | assumption | omega) only [zi_Model_know_53, zi_Model_know_55, zi_Model_know_58, zi_Model_know_59, zi_Model_know_60, zi_Model_know_61, zi_Model_know_62, zi_Model_know_63, ↓reduceIte, mj_op_s, Option.toList_some, Option.toList_none, List.cons_append, List.nil_append, hp_1, hp_2, true_and, and_true, zb_0, zb_1, zb_b, va_rf, io_256, ↓ogf_256_0, ↓opf_256_0, ↓ogf_256_1, ↓ogf_256_2, ↓ogf_256_3, ↓ogf_256_4, ↓opf_256_4, ↓ogf_256_5, ↓ogf_256_6, ↓ogf_256_7, ↓opf_256_7, ↓ogf_256_8, ↓opf_256_8, ↓ogf_256_9, ↓opf_256_9, ↓ogf_256_10, ↓opf_256_10, ↓ogf_256_11, ↓ogf_256_12, ↓ogf_256_13, ↓ogf_256_14, ↓ogf_256_15, ↓ogf_256_16, ↓ogf_256_17, ↓opf_256_17, ↓ogf_256_18, ↓opf_256_18, ↓ogf_256_19, ↓ogf_256_20, ↓ogf_256_21, ↓ogf_256_22, ↓opf_256_22_0, ↓opf_256_22_1, ↓ogf_256_23, ↓opf_256_23, ↓ogf_256_24, ↓ogf_256_25, ↓opf_256_25_0, ↓opf_256_25_1, ↓ogf_256_26, ↓opf_256_26, ↓ogf_256_27, ↓opf_256_27, ↓ogf_256_28, ↓opf_256_28, ↓ogf_256_29, ↓ogf_256_30, ↓ogf_256_31, ↓ogf_256_32, ↓ogf_256_33, ↓ogf_256_34, e1]
    refine c_Model_meet (x := some 0) h (by omega) hj8 (fun u hu => by cases hu; rfl) (fun _ => hF) (fun M2 hv2 h2 => ?_)
    simp only [zi_Model_know_66, zi_Model_know_69, ↓reduceIte, mj_op_s, Option.toList_some, Option.toList_none, List.cons_append, List.nil_append, hp_1, hp_2, true_and, and_true, zb_0, zb_1, zb_b, va_rf, nI_add]
    have k1 : updD (kD0 j) 0 j = kD0 (j + 1) := by
      funext q r
      unfold updD kD0
      by_cases e : q = 0 ∧ r = j
      · rw [if_pos e, decide_eq_true (by omega)]
      · rw [if_neg e]
        by_cases e2 : q = 0 ∧ r < j
        · rw [decide_eq_true e2, decide_eq_true (by omega)]
        · rw [decide_eq_false e2, decide_eq_false (by omega)]
    have k2 : updF (kFj j) 0 j (some 0) = kFj (j + 1) := by
      funext q r
      unfold updF kFj
      by_cases e : q = 0 ∧ r = j
      · rw [if_pos e, if_pos (by omega)]
      · rw [if_neg e]
        by_cases e2 : q = 0 ∧ r < j
        · rw [if_pos e2, if_pos (by omega)]
        · rw [if_neg e2, if_neg (by omega)]
    rw [hD, k1] at h2
    simp only [Bool.false_eq_true, if_false, k2] at h2
    exact ih (j + 1) M2 _ bh (by omega) (sv_trans hv hv2) h2
theorem c_Model_know (hr : r < 44) (hR : hasM M r len A) (hok : okR len A) {b0 : Bool} (hb : rI M 256 22 = b1 b0) (hend : ∀ M' s bh2, sv kmP M M' → kmT M' s bh2 → knL len A s.1 s.2.1 → Q none (hp M')) : mj_V (d + 4) lim mq_Model_know 0 [.ref 256, .int (nI r), mj_j, mj_j, mj_j, mj_j, mj_j] [] (hp M) Q := by
  simp only [zi_Model_know_0, zi_Model_know_1, ↓reduceIte, mj_op_s, Option.toList_some, Option.toList_none, List.cons_append, List.nil_append, hp_1, hp_2, true_and, and_true, zb_0, zb_1, zb_b, va_rf]
  refine l_know_c (M := M) (fun M1 hv1 hc1 => ?_) 51 0 M (by omega) sv_refl (fun k hk => by omega)
  simp only [zi_Model_know_21, zi_Model_know_22, ↓reduceIte, mj_op_s, Option.toList_some, Option.toList_none, List.cons_append, List.nil_append, hp_1, hp_2, true_and, and_true, zb_0, zb_1, zb_b, va_rf]
  refine l_know_i (M := M) (fun M2 hv2 hc2 hi2 => ?_) 408 0 M1 (by omega) hv1 hc1 (fun k hk => by omega)
  have h51 : 0 < 51 := by omega
  simp (decide := true) (disch := first | assumption | omega) only [zi_Model_know_43, zi_Model_know_44, zi_Model_know_47, zi_Model_know_48, zi_Model_know_49, zi_Model_know_50, zi_Model_know_51, ↓reduceIte, mj_op_s, Option.toList_some, Option.toList_none, List.cons_append, List.nil_append, hp_1, hp_2, true_and, and_true, zb_0, zb_1, zb_b, va_rf, io_256, ↓ogf_256_0, ↓opf_256_0, ↓ogf_256_1, ↓ogf_256_2, ↓ogf_256_3, ↓ogf_256_4, ↓opf_256_4, ↓ogf_256_5, ↓ogf_256_6, ↓ogf_256_7, ↓opf_256_7, ↓ogf_256_8, ↓opf_256_8, ↓ogf_256_9, ↓opf_256_9, ↓ogf_256_10, ↓opf_256_10, ↓ogf_256_11, ↓ogf_256_12, ↓ogf_256_13, ↓ogf_256_14, ↓ogf_256_15, ↓ogf_256_16, ↓ogf_256_17, ↓opf_256_17, ↓ogf_256_18, ↓opf_256_18, ↓ogf_256_19, ↓ogf_256_20, ↓ogf_256_21, ↓ogf_256_22, ↓opf_256_22_0, ↓opf_256_22_1, ↓ogf_256_23, ↓opf_256_23, ↓ogf_256_24, ↓ogf_256_25, ↓opf_256_25_0, ↓opf_256_25_1, ↓ogf_256_26, ↓opf_256_26, ↓ogf_256_27, ↓opf_256_27, ↓ogf_256_28, ↓opf_256_28, ↓ogf_256_29, ↓ogf_256_30, ↓ogf_256_31, ↓ogf_256_32, ↓ogf_256_33, ↓ogf_256_34, ↓oaz_268, ↓owz_268, zv_1]
  refine l_know_m (M := M) (d := d + 3) (fun M3 sw bh hv3 h3 => ?_) 8 0 _ b0 (rL M2 256 23) (by omega) (sv_wI (sv_mono hv2 (fun i k h => by unfold kmP; omega)) (by unfold kmP; omega)) ?_
  · simp (decide := true) (disch := first | assumption | omega) only [zi_Model_know_72, zi_Model_know_73, zi_Model_know_74, ↓reduceIte, mj_op_s, Option.toList_some, Option.toList_none, List.cons_append, List.nil_append, hp_1, hp_2, true_and, and_true, zb_0, zb_1, zb_b, va_rf, io_256, ↓ogf_256_0, ↓opf_256_0, ↓ogf_256_1, ↓ogf_256_2, ↓ogf_256_3, ↓ogf_256_4, ↓opf_256_4, ↓ogf_256_5, ↓ogf_256_6, ↓ogf_256_7, ↓opf_256_7, ↓ogf_256_8, ↓opf_256_8, ↓ogf_256_9, ↓opf_256_9, ↓ogf_256_10, ↓opf_256_10, ↓ogf_256_11, ↓ogf_256_12, ↓ogf_256_13, ↓ogf_256_14, ↓ogf_256_15, ↓ogf_256_16, ↓ogf_256_17, ↓opf_256_17, ↓ogf_256_18, ↓opf_256_18, ↓ogf_256_19, ↓ogf_256_20, ↓ogf_256_21, ↓ogf_256_22, ↓opf_256_22_0, ↓opf_256_22_1, ↓ogf_256_23, ↓opf_256_23, ↓ogf_256_24, ↓ogf_256_25, ↓opf_256_25_0, ↓opf_256_25_1, ↓ogf_256_26, ↓opf_256_26, ↓ogf_256_27, ↓opf_256_27, ↓ogf_256_28, ↓opf_256_28, ↓ogf_256_29, ↓ogf_256_30, ↓ogf_256_31, ↓ogf_256_32, ↓ogf_256_33, ↓ogf_256_34]
    refine l_know_out hr hR hok hend 460 _ (kC0, kF0, kC0, true) bh _ _ _ _ _ (by omega) (sv_wI hv3 (by unfold kmP; omega)) ?_ rfl knI_0
    refine ⟨fun q hq => ?_, fun q r hq hr => ?_, fun q r hq hr v hv => ?_, ?_, h3.2.2.2.2⟩
    · rw [rI_wI, if_neg (by omega)]; exact h3.1 q hq
    · rw [rI_wI, if_neg (by omega), h3.2.1 q r hq hr]
      show kc (kD0 8 q r) (kFj 8 q r) = kc (kC0 q) (kF0 q r)
      unfold kD0 kFj kC0 kF0
      by_cases e : q = 0
      · rw [if_pos ⟨e, hr⟩, if_pos e]; rfl
      · rw [if_neg (fun z => e z.1), if_neg e, decide_eq_false e, decide_eq_false (fun z => e z.1)]
    · rw [rL_wI]
      refine h3.2.2.1 q r hq hr v ?_
      have hv : (if q = 0 then some 0 else none) = some v := hv
      unfold kFj
      by_cases e : q = 0
      · rw [if_pos ⟨e, hr⟩]; rw [if_pos e] at hv; exact hv
      · rw [if_neg e] at hv; cases hv
    · rw [rI_wI, if_pos ⟨rfl, rfl⟩]; rfl
  · refine ⟨fun q hq => ?_, fun q r hq hr => ?_, fun q r hq hr v hv => ?_, ?_, rfl⟩
    · rw [rI_wI]
      unfold kC0
      by_cases e : q = 0
      · rw [if_pos ⟨rfl, e⟩, decide_eq_true e]; rfl
      · rw [if_neg (fun z => e z.2), decide_eq_false e]; exact hc2 q hq
    · rw [rI_wI, if_neg (by omega), hi2 _ (by omega)]
      unfold kD0 kFj
      rw [if_neg (by omega), decide_eq_false (by omega)]; rfl
    · unfold kFj at hv
      rw [if_neg (by omega)] at hv
      cases hv
    · rw [rI_wI, if_neg (by omega), sv_I hv2 (by unfold kiP; omega)]; exact hb
end C78
