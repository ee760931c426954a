/-! contracts: Knowledge.goOn, begin, study -/
abbrev knP (i : Nat) : Prop := 203 ≤ i ∧ i ≤ 209
section C74
variable {d : Nat} {lim : Nat × Nat} {Q : mj_Q} {M : mm} {o len p t j r : Nat} {A : Nat → Nat → Int32} {F : KF} {s : KS} {b f : Nat → Option Int64} {kb kb2 : Nat → Int32} {nb nb2 : Nat → Int64}
theorem bI_nx : bI (¬ A p 0 = nI 12 ∧ ¬ A p 0 = nI 14) = b1 (nxP A p) := by
  unfold nxP b1 bI
  by_cases h : (¬ A p 0 = nI 12 ∧ ¬ A p 0 = nI 14)
  · rw [if_pos h, decide_eq_true h]; rfl
  · rw [if_neg h, decide_eq_false h]; rfl
theorem bI_jy : bI (A p 0 = nI 12 ∨ A p 0 = nI 13) = b1 (jyP A p) := by
  unfold jyP b1 bI
  by_cases h : (A p 0 = nI 12 ∨ A p 0 = nI 13)
  · rw [if_pos h, decide_eq_true h]; rfl
  · rw [if_neg h, decide_eq_false h]; rfl
theorem bI_mk : bI (¬ A p 0 < nI 1 ∧ ¬ nI 10 < A p 0) = b1 (mkP A p) := by
  unfold mkP b1 bI
  by_cases h : (¬ A p 0 < nI 1 ∧ ¬ nI 10 < A p 0)
  · rw [if_pos h, decide_eq_true h]; rfl
  · rw [if_neg h, decide_eq_false h]; rfl
theorem g_nx {G : mj_H} : mj_V d lim mq_Code_goesToNext 0 [.int (A p 0)] [] G Q ↔ Q (some (.int (b1 (nxP A p)))) G := by rw [c_Code_goesToNext, bI_nx]
theorem g_jy {G : mj_H} : mj_V d lim mq_Code_goesToY 0 [.int (A p 0)] [] G Q ↔ Q (some (.int (b1 (jyP A p)))) G := by rw [c_Code_goesToY, bI_jy]
theorem g_mk {G : mj_H} : mj_V d lim mq_Code_makesX 0 [.int (A p 0)] [] G Q ↔ Q (some (.int (b1 (mkP A p)))) G := by rw [c_Code_makesX, bI_mk]
theorem l_goOn_131 (ho : isRt o) (hR : hasR M o len A) (hok : okR len A) (hp0 : p < len) (hb : ∀ r, r < 8 → kb r = b1 (b r).isSome ∧ nb r = (b r).getD 0) : mj_V (d + 2) lim mq_Knowledge_goOn 131 [.ref 203, .ref o, .int (nI p), .int (A p 0), .int (b1 (kdc A p f)), .int (b1 (kfl A p f))] [] (hp (knM M s kb nb)) Q ↔ Q none (hp (knM M ((ktl len A p f).foldl (fun z t => arr z t b) s) kb nb)) := by
  have h50 := hok.1
  have hp50 : p < 50 := by omega
  have hq : ∀ s : KS, rI (knM M s kb nb) (o + 3) p = A p 2 := fun s => ((kn_R ho hR).2 p hp0).2.2.1
  have hl : ∀ s : KS, rI (knM M s kb nb) o 4 = nI len := fun s => (kn_R ho hR).1
  have htg := tgP_le (len := len) (A := A) (p := p)
  have htg51 : tgP len A p < 51 := by omega
  have hp51 : p + 1 < 51 := by omega
  have hlen51 : len < 51 := by omega
  have hpl := plF_tg hok hp0
  unfold ktl kn ky
  by_cases h14 : A p 0 = nI 14
  · have e1 : nxP A p = false := by unfold nxP; rw [h14]; decide
    have e2 : jyP A p = false := by unfold jyP; rw [h14]; decide
    have k1 := fun (Q : mj_Q) (G : mj_H) (d : Nat) lim => (g_nx (A := A) (p := p) (d := d) (lim := lim) (Q := Q) (G := G))
    have k2 := fun (Q : mj_Q) (G : mj_H) (d : Nat) lim => (g_jy (A := A) (p := p) (d := d) (lim := lim) (Q := Q) (G := G))
    rw [h14] at k1 k2
    simp (decide := true) (disch := first | assumption | omega) only [zi_Knowledge_goOn_131, zi_Knowledge_goOn_132, zi_Knowledge_goOn_135, zi_Knowledge_goOn_138, zi_Knowledge_goOn_140, zi_Knowledge_goOn_143, zi_Knowledge_goOn_145, zi_Knowledge_goOn_148, zi_Knowledge_goOn_149, zi_Knowledge_goOn_150, zi_Knowledge_goOn_151, zi_Knowledge_goOn_152, zi_Knowledge_goOn_155, zi_Knowledge_goOn_156, zi_Knowledge_goOn_159, zi_Knowledge_goOn_162, zi_Knowledge_goOn_164, zi_Knowledge_goOn_167, zi_Knowledge_goOn_169, zi_Knowledge_goOn_172, zi_Knowledge_goOn_173, zi_Knowledge_goOn_174, zi_Knowledge_goOn_175, zi_Knowledge_goOn_178, zi_Knowledge_goOn_181, zi_Knowledge_goOn_182, zi_Knowledge_goOn_184, zi_Knowledge_goOn_187, zi_Knowledge_goOn_188, zi_Knowledge_goOn_189, zi_Knowledge_goOn_192, zi_Knowledge_goOn_195, ↓reduceIte, mj_op_s, Option.toList_some, Option.toList_none, List.cons_append, List.nil_append, hp_1, hp_2, true_and, and_true, zb_0, zb_1, zb_b, va_rf, io_rt, ↓ogf_rt_0, ↓ogf_rt_1, ↓ogf_rt_2, ↓ogf_rt_3, ↓ogf_rt_4, ↓oai_rt_0, ↓oai_rt_1, ↓oai_rt_2, ↓oai_rt_3, ↓owi_rt_0, ↓owi_rt_1, ↓owi_rt_2, ↓owi_rt_3, ↓opf_rt, io_203, ↓ogf_203_0, ↓ogf_203_1, ↓ogf_203_2, ↓ogf_203_3, ↓ogf_203_4, ↓opf_203_4_0, ↓opf_203_4_1, ↓ogf_203_5, ↓ogf_203_6, k1, k2, e1, e2, b1_f, h14, hl, c_Knowledge_arrive hb hlen51, Bool.false_and, List.nil_append, List.foldl_cons, List.foldl_nil, Bool.false_eq_true]
  · cases e1 : nxP A p with
    | true =>
      cases e2 : jyP A p with
      | true =>
        have hpl := hpl e2
        cases e3 : kdc A p f <;> cases e4 : kfl A p f <;> simp (decide := true) (disch := first | assumption | omega) only [zi_Knowledge_goOn_131, zi_Knowledge_goOn_132, zi_Knowledge_goOn_135, zi_Knowledge_goOn_138, zi_Knowledge_goOn_140, zi_Knowledge_goOn_143, zi_Knowledge_goOn_145, zi_Knowledge_goOn_148, zi_Knowledge_goOn_149, zi_Knowledge_goOn_150, zi_Knowledge_goOn_151, zi_Knowledge_goOn_152, zi_Knowledge_goOn_155, zi_Knowledge_goOn_156, zi_Knowledge_goOn_159, zi_Knowledge_goOn_162, zi_Knowledge_goOn_164, zi_Knowledge_goOn_167, zi_Knowledge_goOn_169, zi_Knowledge_goOn_172, zi_Knowledge_goOn_173, zi_Knowledge_goOn_174, zi_Knowledge_goOn_175, zi_Knowledge_goOn_178, zi_Knowledge_goOn_181, zi_Knowledge_goOn_182, zi_Knowledge_goOn_184, zi_Knowledge_goOn_187, zi_Knowledge_goOn_188, zi_Knowledge_goOn_189, zi_Knowledge_goOn_192, zi_Knowledge_goOn_195, ↓reduceIte, mj_op_s, Option.toList_some, Option.toList_none, List.cons_append, List.nil_append, hp_1, hp_2, true_and, and_true, zb_0, zb_1, zb_b, va_rf, io_rt, ↓ogf_rt_0, ↓ogf_rt_1, ↓ogf_rt_2, ↓ogf_rt_3, ↓ogf_rt_4, ↓oai_rt_0, ↓oai_rt_1, ↓oai_rt_2, ↓oai_rt_3, ↓owi_rt_0, ↓owi_rt_1, ↓owi_rt_2, ↓owi_rt_3, ↓opf_rt, io_203, ↓ogf_203_0, ↓ogf_203_1, ↓ogf_203_2, ↓ogf_203_3, ↓ogf_203_4, ↓opf_203_4_0, ↓opf_203_4_1, ↓ogf_203_5, ↓ogf_203_6, g_nx (A := A) (p := p), g_jy (A := A) (p := p), e1, e2, b1_f, b1_t, h14, hl, hq, hpl, c_Routine_target ho hp50, c_Knowledge_arrive hb htg51, c_Knowledge_arrive hb hp51, nI_add, Bool.true_and, Bool.false_and, Bool.not_true, Bool.not_false, Bool.or_false, Bool.or_true, Bool.true_or, Bool.false_or, Bool.or_self, List.nil_append, List.append_nil, List.cons_append, List.foldl_cons, List.foldl_nil, Bool.false_eq_true]
      | false =>
        cases e3 : kdc A p f <;> cases e4 : kfl A p f <;> simp (decide := true) (disch := first | assumption | omega) only [zi_Knowledge_goOn_131, zi_Knowledge_goOn_132, zi_Knowledge_goOn_135, zi_Knowledge_goOn_138, zi_Knowledge_goOn_140, zi_Knowledge_goOn_143, zi_Knowledge_goOn_145, zi_Knowledge_goOn_148, zi_Knowledge_goOn_149, zi_Knowledge_goOn_150, zi_Knowledge_goOn_151, zi_Knowledge_goOn_152, zi_Knowledge_goOn_155, zi_Knowledge_goOn_156, zi_Knowledge_goOn_159, zi_Knowledge_goOn_162, zi_Knowledge_goOn_164, zi_Knowledge_goOn_167, zi_Knowledge_goOn_169, zi_Knowledge_goOn_172, zi_Knowledge_goOn_173, zi_Knowledge_goOn_174, zi_Knowledge_goOn_175, zi_Knowledge_goOn_178, zi_Knowledge_goOn_181, zi_Knowledge_goOn_182, zi_Knowledge_goOn_184, zi_Knowledge_goOn_187, zi_Knowledge_goOn_188, zi_Knowledge_goOn_189, zi_Knowledge_goOn_192, zi_Knowledge_goOn_195, ↓reduceIte, mj_op_s, Option.toList_some, Option.toList_none, List.cons_append, List.nil_append, hp_1, hp_2, true_and, and_true, zb_0, zb_1, zb_b, va_rf, io_rt, ↓ogf_rt_0, ↓ogf_rt_1, ↓ogf_rt_2, ↓ogf_rt_3, ↓ogf_rt_4, ↓oai_rt_0, ↓oai_rt_1, ↓oai_rt_2, ↓oai_rt_3, ↓owi_rt_0, ↓owi_rt_1, ↓owi_rt_2, ↓owi_rt_3, ↓opf_rt, io_203, ↓ogf_203_0, ↓ogf_203_1, ↓ogf_203_2, ↓ogf_203_3, ↓ogf_203_4, ↓opf_203_4_0, ↓opf_203_4_1, ↓ogf_203_5, ↓ogf_203_6, g_nx (A := A) (p := p), g_jy (A := A) (p := p), e1, e2, b1_f, b1_t, h14, hl, hq, c_Knowledge_arrive hb hp51, nI_add, Bool.true_and, Bool.false_and, Bool.not_true, Bool.not_false, Bool.or_false, Bool.or_true, Bool.true_or, Bool.false_or, Bool.or_self, List.nil_append, List.append_nil, List.cons_append, List.foldl_cons, List.foldl_nil, Bool.false_eq_true]
    | false =>
      cases e2 : jyP A p with
      | true =>
        have hpl := hpl e2
        cases e3 : kdc A p f <;> cases e4 : kfl A p f <;> simp (decide := true) (disch := first | assumption | omega) only [zi_Knowledge_goOn_131, zi_Knowledge_goOn_132, zi_Knowledge_goOn_135, zi_Knowledge_goOn_138, zi_Knowledge_goOn_140, zi_Knowledge_goOn_143, zi_Knowledge_goOn_145, zi_Knowledge_goOn_148, zi_Knowledge_goOn_149, zi_Knowledge_goOn_150, zi_Knowledge_goOn_151, zi_Knowledge_goOn_152, zi_Knowledge_goOn_155, zi_Knowledge_goOn_156, zi_Knowledge_goOn_159, zi_Knowledge_goOn_162, zi_Knowledge_goOn_164, zi_Knowledge_goOn_167, zi_Knowledge_goOn_169, zi_Knowledge_goOn_172, zi_Knowledge_goOn_173, zi_Knowledge_goOn_174, zi_Knowledge_goOn_175, zi_Knowledge_goOn_178, zi_Knowledge_goOn_181, zi_Knowledge_goOn_182, zi_Knowledge_goOn_184, zi_Knowledge_goOn_187, zi_Knowledge_goOn_188, zi_Knowledge_goOn_189, zi_Knowledge_goOn_192, zi_Knowledge_goOn_195, ↓reduceIte, mj_op_s, Option.toList_some, Option.toList_none, List.cons_append, List.nil_append, hp_1, hp_2, true_and, and_true, zb_0, zb_1, zb_b, va_rf, io_rt, ↓ogf_rt_0, ↓ogf_rt_1, ↓ogf_rt_2, ↓ogf_rt_3, ↓ogf_rt_4, ↓oai_rt_0, ↓oai_rt_1, ↓oai_rt_2, ↓oai_rt_3, ↓owi_rt_0, ↓owi_rt_1, ↓owi_rt_2, ↓owi_rt_3, ↓opf_rt, io_203, ↓ogf_203_0, ↓ogf_203_1, ↓ogf_203_2, ↓ogf_203_3, ↓ogf_203_4, ↓opf_203_4_0, ↓opf_203_4_1, ↓ogf_203_5, ↓ogf_203_6, g_nx (A := A) (p := p), g_jy (A := A) (p := p), e1, e2, b1_f, b1_t, h14, hl, hq, hpl, c_Routine_target ho hp50, c_Knowledge_arrive hb htg51, nI_add, Bool.true_and, Bool.false_and, Bool.not_true, Bool.not_false, Bool.or_false, Bool.or_true, Bool.true_or, Bool.false_or, Bool.or_self, List.nil_append, List.append_nil, List.cons_append, List.foldl_cons, List.foldl_nil, Bool.false_eq_true]
      | false =>
        simp (decide := true) (disch := first | assumption | omega) only [zi_Knowledge_goOn_131, zi_Knowledge_goOn_132, zi_Knowledge_goOn_135, zi_Knowledge_goOn_138, zi_Knowledge_goOn_140, zi_Knowledge_goOn_143, zi_Knowledge_goOn_145, zi_Knowledge_goOn_148, zi_Knowledge_goOn_149, zi_Knowledge_goOn_150, zi_Knowledge_goOn_151, zi_Knowledge_goOn_152, zi_Knowledge_goOn_155, zi_Knowledge_goOn_156, zi_Knowledge_goOn_159, zi_Knowledge_goOn_162, zi_Knowledge_goOn_164, zi_Knowledge_goOn_167, zi_Knowledge_goOn_169, zi_Knowledge_goOn_172, zi_Knowledge_goOn_173, zi_Knowledge_goOn_174, zi_Knowledge_goOn_175, zi_Knowledge_goOn_178, zi_Knowledge_goOn_181, zi_Knowledge_goOn_182, zi_Knowledge_goOn_184, zi_Knowledge_goOn_187, zi_Knowledge_goOn_188, zi_Knowledge_goOn_189, zi_Knowledge_goOn_192, zi_Knowledge_goOn_195, ↓reduceIte, mj_op_s, Option.toList_some, Option.toList_none, List.cons_append, List.nil_append, hp_1, hp_2, true_and, and_true, zb_0, zb_1, zb_b, va_rf, io_rt, ↓ogf_rt_0, ↓ogf_rt_1, ↓ogf_rt_2, ↓ogf_rt_3, ↓ogf_rt_4, ↓oai_rt_0, ↓oai_rt_1, ↓oai_rt_2, ↓oai_rt_3, ↓owi_rt_0, ↓owi_rt_1, ↓owi_rt_2, ↓owi_rt_3, ↓opf_rt, io_203, ↓ogf_203_0, ↓ogf_203_1, ↓ogf_203_2, ↓ogf_203_3, ↓ogf_203_4, ↓opf_203_4_0, ↓opf_203_4_1, ↓ogf_203_5, ↓ogf_203_6, g_nx (A := A) (p := p), g_jy (A := A) (p := p), e1, e2, b1_f, b1_t, h14, Bool.true_and, Bool.false_and, List.nil_append, List.append_nil, List.foldl_nil, Bool.false_eq_true]
theorem l_goOn_76 (ho : isRt o) (hR : hasR M o len A) (hok : okR len A) (hp0 : p < len) {x4 x5 : Value} : mj_V (d + 2) lim mq_Knowledge_goOn 76 [.ref 203, .ref o, .int (nI p), .int (A p 0), x4, x5] [] (hp (knM M s kb nb)) Q ↔ mj_V (d + 2) lim mq_Knowledge_goOn 131 [.ref 203, .ref o, .int (nI p), .int (A p 0), .int (b1 (kdc A p (s.2.1 p))), .int (b1 (kfl A p (s.2.1 p)))] [] (hp (knM M s kb nb)) Q := by
  have h50 := hok.1
  have hp50 : p < 50 := by omega
  have hp51 : p < 51 := by omega
  have q2 := ((kn_R (s := s) (kb := kb) (nb := nb) ho hR).2 p hp0).2.1
  unfold kdc kfl
  by_cases c : A p 0 = nI 13
  · obtain ⟨l, hl, e⟩ := (okA_rn (hok.2 p hp0)).2.2.2.2.1 c
    rw [e] at q2
    simp only [e, cz_n (show l < 2 ^ 31 by omega), c]
    cases hF : s.2.1 p l with
    | none => simp (decide := true) (disch := first | assumption | omega) only [zi_Knowledge_goOn_76, zi_Knowledge_goOn_77, zi_Knowledge_goOn_79, zi_Knowledge_goOn_82, zi_Knowledge_goOn_83, zi_Knowledge_goOn_84, zi_Knowledge_goOn_85, zi_Knowledge_goOn_88, zi_Knowledge_goOn_89, zi_Knowledge_goOn_90, zi_Knowledge_goOn_93, zi_Knowledge_goOn_96, zi_Knowledge_goOn_97, zi_Knowledge_goOn_100, zi_Knowledge_goOn_101, zi_Knowledge_goOn_103, zi_Knowledge_goOn_105, zi_Knowledge_goOn_108, zi_Knowledge_goOn_109, zi_Knowledge_goOn_110, zi_Knowledge_goOn_111, zi_Knowledge_goOn_114, zi_Knowledge_goOn_115, zi_Knowledge_goOn_116, zi_Knowledge_goOn_119, zi_Knowledge_goOn_120, zi_Knowledge_goOn_121, zi_Knowledge_goOn_124, zi_Knowledge_goOn_125, zi_Knowledge_goOn_128, zi_Knowledge_goOn_129, ↓reduceIte, mj_op_s, Option.toList_some, Option.toList_none, List.cons_append, List.nil_append, hp_1, hp_2, true_and, and_true, zb_0, zb_1, zb_b, va_rf, io_rt, ↓ogf_rt_0, ↓ogf_rt_1, ↓ogf_rt_2, ↓ogf_rt_3, ↓ogf_rt_4, ↓oai_rt_0, ↓oai_rt_1, ↓oai_rt_2, ↓oai_rt_3, ↓owi_rt_0, ↓owi_rt_1, ↓owi_rt_2, ↓owi_rt_3, ↓opf_rt, io_203, ↓ogf_203_0, ↓ogf_203_1, ↓ogf_203_2, ↓ogf_203_3, ↓ogf_203_4, ↓opf_203_4_0, ↓opf_203_4_1, ↓ogf_203_5, ↓ogf_203_6, q2, c_Knowledge_isKnown hp51 hl, c_Knowledge_numberIn hp51 hl, hF, Option.isSome_none, b1_f, Bool.and_false, reduceCtorEq, decide_false]
    | some v =>
      by_cases cv : v = 0
      · subst cv
        simp (decide := true) (disch := first | assumption | omega) only [zi_Knowledge_goOn_76, zi_Knowledge_goOn_77, zi_Knowledge_goOn_79, zi_Knowledge_goOn_82, zi_Knowledge_goOn_83, zi_Knowledge_goOn_84, zi_Knowledge_goOn_85, zi_Knowledge_goOn_88, zi_Knowledge_goOn_89, zi_Knowledge_goOn_90, zi_Knowledge_goOn_93, zi_Knowledge_goOn_96, zi_Knowledge_goOn_97, zi_Knowledge_goOn_100, zi_Knowledge_goOn_101, zi_Knowledge_goOn_103, zi_Knowledge_goOn_105, zi_Knowledge_goOn_108, zi_Knowledge_goOn_109, zi_Knowledge_goOn_110, zi_Knowledge_goOn_111, zi_Knowledge_goOn_114, zi_Knowledge_goOn_115, zi_Knowledge_goOn_116, zi_Knowledge_goOn_119, zi_Knowledge_goOn_120, zi_Knowledge_goOn_121, zi_Knowledge_goOn_124, zi_Knowledge_goOn_125, zi_Knowledge_goOn_128, zi_Knowledge_goOn_129, ↓reduceIte, mj_op_s, Option.toList_some, Option.toList_none, List.cons_append, List.nil_append, hp_1, hp_2, true_and, and_true, zb_0, zb_1, zb_b, va_rf, io_rt, ↓ogf_rt_0, ↓ogf_rt_1, ↓ogf_rt_2, ↓ogf_rt_3, ↓ogf_rt_4, ↓oai_rt_0, ↓oai_rt_1, ↓oai_rt_2, ↓oai_rt_3, ↓owi_rt_0, ↓owi_rt_1, ↓owi_rt_2, ↓owi_rt_3, ↓opf_rt, io_203, ↓ogf_203_0, ↓ogf_203_1, ↓ogf_203_2, ↓ogf_203_3, ↓ogf_203_4, ↓opf_203_4_0, ↓opf_203_4_1, ↓ogf_203_5, ↓ogf_203_6, q2, c_Knowledge_isKnown hp51 hl, c_Knowledge_numberIn hp51 hl, hF, Option.isSome_some, Option.getD_some, lgc_eq, b1_t, decide_true, Bool.and_self]
      · simp (decide := true) (disch := first | assumption | omega) only [zi_Knowledge_goOn_76, zi_Knowledge_goOn_77, zi_Knowledge_goOn_79, zi_Knowledge_goOn_82, zi_Knowledge_goOn_83, zi_Knowledge_goOn_84, zi_Knowledge_goOn_85, zi_Knowledge_goOn_88, zi_Knowledge_goOn_89, zi_Knowledge_goOn_90, zi_Knowledge_goOn_93, zi_Knowledge_goOn_96, zi_Knowledge_goOn_97, zi_Knowledge_goOn_100, zi_Knowledge_goOn_101, zi_Knowledge_goOn_103, zi_Knowledge_goOn_105, zi_Knowledge_goOn_108, zi_Knowledge_goOn_109, zi_Knowledge_goOn_110, zi_Knowledge_goOn_111, zi_Knowledge_goOn_114, zi_Knowledge_goOn_115, zi_Knowledge_goOn_116, zi_Knowledge_goOn_119, zi_Knowledge_goOn_120, zi_Knowledge_goOn_121, zi_Knowledge_goOn_124, zi_Knowledge_goOn_125, zi_Knowledge_goOn_128, zi_Knowledge_goOn_129, ↓reduceIte, mj_op_s, Option.toList_some, Option.toList_none, List.cons_append, List.nil_append, hp_1, hp_2, true_and, and_true, zb_0, zb_1, zb_b, va_rf, io_rt, ↓ogf_rt_0, ↓ogf_rt_1, ↓ogf_rt_2, ↓ogf_rt_3, ↓ogf_rt_4, ↓oai_rt_0, ↓oai_rt_1, ↓oai_rt_2, ↓oai_rt_3, ↓owi_rt_0, ↓owi_rt_1, ↓owi_rt_2, ↓owi_rt_3, ↓opf_rt, io_203, ↓ogf_203_0, ↓ogf_203_1, ↓ogf_203_2, ↓ogf_203_3, ↓ogf_203_4, ↓opf_203_4_0, ↓opf_203_4_1, ↓ogf_203_5, ↓ogf_203_6, q2, c_Knowledge_isKnown hp51 hl, c_Knowledge_numberIn hp51 hl, hF, Option.isSome_some, Option.getD_some, lgc_eq, b1_t, b1_f, Option.some.injEq, cv, decide_true, decide_false, Bool.and_self, Bool.and_false]
  · simp (decide := true) (disch := first | assumption | omega) only [zi_Knowledge_goOn_76, zi_Knowledge_goOn_77, zi_Knowledge_goOn_79, zi_Knowledge_goOn_82, zi_Knowledge_goOn_83, zi_Knowledge_goOn_84, zi_Knowledge_goOn_85, zi_Knowledge_goOn_88, zi_Knowledge_goOn_89, zi_Knowledge_goOn_90, zi_Knowledge_goOn_93, zi_Knowledge_goOn_96, zi_Knowledge_goOn_97, zi_Knowledge_goOn_100, zi_Knowledge_goOn_101, zi_Knowledge_goOn_103, zi_Knowledge_goOn_105, zi_Knowledge_goOn_108, zi_Knowledge_goOn_109, zi_Knowledge_goOn_110, zi_Knowledge_goOn_111, zi_Knowledge_goOn_114, zi_Knowledge_goOn_115, zi_Knowledge_goOn_116, zi_Knowledge_goOn_119, zi_Knowledge_goOn_120, zi_Knowledge_goOn_121, zi_Knowledge_goOn_124, zi_Knowledge_goOn_125, zi_Knowledge_goOn_128, zi_Knowledge_goOn_129, ↓reduceIte, mj_op_s, Option.toList_some, Option.toList_none, List.cons_append, List.nil_append, hp_1, hp_2, true_and, and_true, zb_0, zb_1, zb_b, va_rf, c, b1_f, decide_false, Bool.false_and]
theorem c_Knowledge_goOn (ho : isRt o) (hR : hasR M o len A) (hok : okR len A) (hp0 : p < len) (hend : ∀ kb nb, Q none (hp (knM M (kgo len A p s) kb nb))) : mj_V (d + 2) lim mq_Knowledge_goOn 0 [.ref 203, .ref o, .int (nI p), mj_j, mj_j, mj_j] [] (hp (knM M s kb nb)) Q := by
  have h50 := hok.1
  have hp50 : p < 50 := by omega
  have hp51 : p < 51 := by omega
  have hR2 : ∀ kb nb, hasR (knM M s kb nb) o len A := fun kb nb => kn_R ho hR
  have q1 := fun kb nb => ((hR2 kb nb).2 p hp0).1
  have q2 := fun kb nb => ((hR2 kb nb).2 p hp0).2.1
  unfold kgo at hend
  cases hs : kst A p (s.2.1 p) with
  | true =>
    rw [hs] at hend
    simp (decide := true) (disch := first | assumption | omega) only [zi_Knowledge_goOn_0, zi_Knowledge_goOn_1, zi_Knowledge_goOn_2, zi_Knowledge_goOn_3, zi_Knowledge_goOn_6, zi_Knowledge_goOn_9, zi_Knowledge_goOn_10, ↓reduceIte, mj_op_s, Option.toList_some, Option.toList_none, List.cons_append, List.nil_append, hp_1, hp_2, true_and, and_true, zb_0, zb_1, zb_b, va_rf, io_203, ↓ogf_203_0, ↓ogf_203_1, ↓ogf_203_2, ↓ogf_203_3, ↓ogf_203_4, ↓opf_203_4_0, ↓opf_203_4_1, ↓ogf_203_5, ↓ogf_203_6, c_stopsSurely ho (hR2 kb nb) hok hp0 kn_kR, hs, b1_t]
    exact hend _ _
  | false =>
    rw [hs] at hend
    simp only [Bool.false_eq_true, if_false] at hend
    cases hm : mkP A p with
    | false =>
      simp (decide := true) (disch := first | assumption | omega) only [zi_Knowledge_goOn_0, zi_Knowledge_goOn_1, zi_Knowledge_goOn_2, zi_Knowledge_goOn_3, zi_Knowledge_goOn_6, zi_Knowledge_goOn_9, zi_Knowledge_goOn_10, zi_Knowledge_goOn_11, zi_Knowledge_goOn_14, zi_Knowledge_goOn_15, zi_Knowledge_goOn_16, zi_Knowledge_goOn_17, zi_Knowledge_goOn_18, zi_Knowledge_goOn_19, zi_Knowledge_goOn_22, zi_Knowledge_goOn_23, zi_Knowledge_goOn_26, ↓reduceIte, mj_op_s, Option.toList_some, Option.toList_none, List.cons_append, List.nil_append, hp_1, hp_2, true_and, and_true, zb_0, zb_1, zb_b, va_rf, io_rt, ↓ogf_rt_0, ↓ogf_rt_1, ↓ogf_rt_2, ↓ogf_rt_3, ↓ogf_rt_4, ↓oai_rt_0, ↓oai_rt_1, ↓oai_rt_2, ↓oai_rt_3, ↓owi_rt_0, ↓owi_rt_1, ↓owi_rt_2, ↓owi_rt_3, ↓opf_rt, io_203, ↓ogf_203_0, ↓ogf_203_1, ↓ogf_203_2, ↓ogf_203_3, ↓ogf_203_4, ↓opf_203_4_0, ↓opf_203_4_1, ↓ogf_203_5, ↓ogf_203_6, c_stopsSurely ho (hR2 kb nb) hok hp0 kn_kR, hs, b1_f, q1, c_Knowledge_keepAhead hp51, g_mk (A := A) (p := p), hm]
      rw [l_goOn_76 ho hR hok hp0, l_goOn_131 (b := kbh A p (s.2.1 p)) ho hR hok hp0 (fun r hr => by
        unfold kbh
        rw [hm]
        simp)]
      exact hend _ _
    | true =>
      obtain ⟨i, hi, ex⟩ := (okA_rn (hok.2 p hp0)).2.2.2.2.2.1 hm
      simp only [ex] at q2
      have hbh : ∀ r, r < 8 → upd (fun r => b1 (s.2.1 p r).isSome) i (b1 (krs A p (s.2.1 p)).isSome) r = b1 (kbh A p (s.2.1 p) r).isSome ∧ vp_updL (fun r => (s.2.1 p r).getD 0) i ((krs A p (s.2.1 p)).getD 0) r = (kbh A p (s.2.1 p) r).getD 0 := by
        intro r hr
        unfold kbh upd vp_updL
        rw [hm, ex, cz_n (by omega)]
        by_cases c : r = i
        · subst c; simp
        · have c2 : ¬ i = r := fun e => c e.symm
          simp [c, c2]
      have fin := fun x4 x5 => (l_goOn_76 (d := d) (lim := lim) (Q := Q) (kb := upd (fun r => b1 (s.2.1 p r).isSome) i (b1 (krs A p (s.2.1 p)).isSome)) (nb := vp_updL (fun r => (s.2.1 p r).getD 0) i ((krs A p (s.2.1 p)).getD 0)) (x4 := x4) (x5 := x5) ho hR hok hp0).mpr ((l_goOn_131 (f := s.2.1 p) ho hR hok hp0 hbh).mpr (hend _ _))
      cases hr : krs A p (s.2.1 p) with
      | none =>
        rw [hr] at fin
        simp (decide := true) (disch := first | assumption | omega) only [zi_Knowledge_goOn_0, zi_Knowledge_goOn_1, zi_Knowledge_goOn_2, zi_Knowledge_goOn_3, zi_Knowledge_goOn_6, zi_Knowledge_goOn_9, zi_Knowledge_goOn_10, zi_Knowledge_goOn_11, zi_Knowledge_goOn_14, zi_Knowledge_goOn_15, zi_Knowledge_goOn_16, zi_Knowledge_goOn_17, zi_Knowledge_goOn_18, zi_Knowledge_goOn_19, zi_Knowledge_goOn_22, zi_Knowledge_goOn_23, zi_Knowledge_goOn_26, zi_Knowledge_goOn_29, zi_Knowledge_goOn_30, zi_Knowledge_goOn_31, zi_Knowledge_goOn_32, zi_Knowledge_goOn_35, zi_Knowledge_goOn_37, zi_Knowledge_goOn_38, zi_Knowledge_goOn_41, zi_Knowledge_goOn_42, zi_Knowledge_goOn_45, zi_Knowledge_goOn_46, zi_Knowledge_goOn_47, zi_Knowledge_goOn_49, zi_Knowledge_goOn_50, zi_Knowledge_goOn_51, zi_Knowledge_goOn_54, zi_Knowledge_goOn_55, zi_Knowledge_goOn_58, zi_Knowledge_goOn_59, zi_Knowledge_goOn_60, zi_Knowledge_goOn_62, zi_Knowledge_goOn_65, zi_Knowledge_goOn_66, zi_Knowledge_goOn_67, zi_Knowledge_goOn_68, zi_Knowledge_goOn_71, zi_Knowledge_goOn_74, zi_Knowledge_goOn_75, ↓reduceIte, mj_op_s, Option.toList_some, Option.toList_none, List.cons_append, List.nil_append, hp_1, hp_2, true_and, and_true, zb_0, zb_1, zb_b, va_rf, io_rt, ↓ogf_rt_0, ↓ogf_rt_1, ↓ogf_rt_2, ↓ogf_rt_3, ↓ogf_rt_4, ↓oai_rt_0, ↓oai_rt_1, ↓oai_rt_2, ↓oai_rt_3, ↓owi_rt_0, ↓owi_rt_1, ↓owi_rt_2, ↓owi_rt_3, ↓opf_rt, io_203, ↓ogf_203_0, ↓ogf_203_1, ↓ogf_203_2, ↓ogf_203_3, ↓ogf_203_4, ↓opf_203_4_0, ↓opf_203_4_1, ↓ogf_203_5, ↓ogf_203_6, ↓oaz_208, ↓owz_208, ↓oal_209, ↓owl_209, c_stopsSurely ho (hR2 _ _) hok hp0 kn_kR, hs, b1_f, b1_t, q1, q2, c_Knowledge_keepAhead hp51, g_mk (A := A) (p := p), hm, c_knowsResult ho (hR2 _ _) hok hp0 kn_kR, hr, Option.isSome_none, zv_0, kw_8 hi, kw_9 hi]
        exact fin _ _
      | some v =>
        rw [hr] at fin
        simp (decide := true) (disch := first | assumption | omega) only [zi_Knowledge_goOn_0, zi_Knowledge_goOn_1, zi_Knowledge_goOn_2, zi_Knowledge_goOn_3, zi_Knowledge_goOn_6, zi_Knowledge_goOn_9, zi_Knowledge_goOn_10, zi_Knowledge_goOn_11, zi_Knowledge_goOn_14, zi_Knowledge_goOn_15, zi_Knowledge_goOn_16, zi_Knowledge_goOn_17, zi_Knowledge_goOn_18, zi_Knowledge_goOn_19, zi_Knowledge_goOn_22, zi_Knowledge_goOn_23, zi_Knowledge_goOn_26, zi_Knowledge_goOn_29, zi_Knowledge_goOn_30, zi_Knowledge_goOn_31, zi_Knowledge_goOn_32, zi_Knowledge_goOn_35, zi_Knowledge_goOn_37, zi_Knowledge_goOn_38, zi_Knowledge_goOn_41, zi_Knowledge_goOn_42, zi_Knowledge_goOn_45, zi_Knowledge_goOn_46, zi_Knowledge_goOn_47, zi_Knowledge_goOn_49, zi_Knowledge_goOn_50, zi_Knowledge_goOn_51, zi_Knowledge_goOn_54, zi_Knowledge_goOn_55, zi_Knowledge_goOn_58, zi_Knowledge_goOn_59, zi_Knowledge_goOn_60, zi_Knowledge_goOn_62, zi_Knowledge_goOn_65, zi_Knowledge_goOn_66, zi_Knowledge_goOn_67, zi_Knowledge_goOn_68, zi_Knowledge_goOn_71, zi_Knowledge_goOn_74, zi_Knowledge_goOn_75, ↓reduceIte, mj_op_s, Option.toList_some, Option.toList_none, List.cons_append, List.nil_append, hp_1, hp_2, true_and, and_true, zb_0, zb_1, zb_b, va_rf, io_rt, ↓ogf_rt_0, ↓ogf_rt_1, ↓ogf_rt_2, ↓ogf_rt_3, ↓ogf_rt_4, ↓oai_rt_0, ↓oai_rt_1, ↓oai_rt_2, ↓oai_rt_3, ↓owi_rt_0, ↓owi_rt_1, ↓owi_rt_2, ↓owi_rt_3, ↓opf_rt, io_203, ↓ogf_203_0, ↓ogf_203_1, ↓ogf_203_2, ↓ogf_203_3, ↓ogf_203_4, ↓opf_203_4_0, ↓opf_203_4_1, ↓ogf_203_5, ↓ogf_203_6, ↓oaz_208, ↓owz_208, ↓oal_209, ↓owl_209, c_stopsSurely ho (hR2 _ _) hok hp0 kn_kR, hs, b1_f, b1_t, q1, q2, c_Knowledge_keepAhead hp51, g_mk (A := A) (p := p), hm, c_knowsResult ho (hR2 _ _) hok hp0 kn_kR, c_resultOf ho (hR2 _ _) hok hp0 kn_kR hr, hr, Option.isSome_some, zv_1, kw_8 hi, kw_9 hi]
        exact fin _ _
end C74
