/-! class: fold, drop, thread, pack -/
/-- what study has left -/
def stC (w len : Nat) (A : AA) (M : mm) : Prop := if w = 0 then ∃ C F, knL len A C F ∧ (∀ p, p < 51 → rI M 204 p = b1 (C p)) ∧ kR M F else if w = 1 then ∃ m : Nat → Nat, (∀ q, m q < 256) ∧ lvL len A (bitsF m) ∧ ∀ q, q < 51 → rI M 211 q = nI (m q) else if w = 2 then ∀ k, k ≤ len → rI M 214 k = nI (ldR len A k).1 ∧ rI M 215 k = nI (ldR len A k).2 else ∀ k, k ≤ len → rI M 216 k = nI (psN A k)
abbrev sdP (i _k : Nat) : Prop := 203 ≤ i ∧ i ≤ 216
section C81
variable {d : Nat} {lim : Nat × Nat} {Q : mj_Q} {M M' : mm} {o o2 len p q j r n w : Nat} {A B : AA} {C : Nat → Bool} {F : KF} {S : Nat → Nat → Bool} {W : WS} {x : WR}
theorem kR_sv {P : Nat → Nat → Prop} (h : sv P M M') (hP : ∀ i k, 203 ≤ i → i ≤ 216 → ¬ P i k) (hK : kR M F) : kR M' F := fun p r hp0 hr => ⟨(sv_I h (hP _ _ (by omega) (by omega))).trans (hK p r hp0 hr).1, (sv_L h (hP _ _ (by omega) (by omega))).trans (hK p r hp0 hr).2⟩
theorem stC_sv {P : Nat → Nat → Prop} (h : sv P M M') (hP : ∀ i k, 203 ≤ i → i ≤ 216 → ¬ P i k) (hs : stC w len A M) : stC w len A M' := by
  unfold stC at hs ⊢
  split
  · rename_i c
    rw [if_pos c] at hs
    obtain ⟨C, F, h1, h2, h3⟩ := hs
    exact ⟨C, F, h1, fun p hp0 => (sv_I h (hP _ _ (by omega) (by omega))).trans (h2 p hp0), kR_sv h hP h3⟩
  · rename_i c
    rw [if_neg c] at hs
    split
    · rename_i c
      rw [if_pos c] at hs
      obtain ⟨m, h1, h2, h3⟩ := hs
      exact ⟨m, h1, h2, fun q hq => (sv_I h (hP _ _ (by omega) (by omega))).trans (h3 q hq)⟩
    · rename_i c
      rw [if_neg c] at hs
      split
      · rename_i c
        rw [if_pos c] at hs
        exact fun k hk => ⟨(sv_I h (hP _ _ (by omega) (by omega))).trans (hs k hk).1, (sv_I h (hP _ _ (by omega) (by omega))).trans (hs k hk).2⟩
      · rename_i c
        rw [if_neg c] at hs
        exact fun k hk => (sv_I h (hP _ _ (by omega) (by omega))).trans (hs k hk)
theorem rt_sd (ho : isRt o) : ∀ i k, 203 ≤ i → i ≤ 216 → ¬ rtP o i k := by
  intro i k h1 h2
  unfold rtP
  rcases ho with h | h | h | h | h <;> omega
theorem rt_rt (hne : o + 4 < o2 ∨ o2 + 4 < o) : ∀ j k, j ≤ 4 → ¬ rtP o2 (o + j) k := by
  intro j k hj
  unfold rtP
  omega
theorem c_foldAct (ho : isRt o) (ho2 : isRt o2) (hR : hasR M o len A) (hok : okR len A) (hp0 : p < len) (hK : kR M F) (hC : C p = true) (hB : hasR M o2 len B) (hBp : ∀ j, j < 4 → B p j = A p j) (hend : ∀ M', sv (rtP o2) M M' → hasR M' o2 len (fun q j => if q = p then fdA A C F p j else B q j) → Q none (hp M')) : mj_V (d + 2) lim mq_Passes_foldAct 0 [.ref 212, .ref o, .ref o2, .int (nI p), mj_j, mj_j, mj_j, mj_j] [] (hp M) Q := by
  have h50 := hok.1
  obtain ⟨q1, q2, q3, q4⟩ := hR.2 p hp0
  obtain ⟨g1, g2, g3, g4, g5, g6, g7⟩ := okA_rn (hok.2 p hp0)
  have hp50 : p < 50 := by omega
  have hp51 : p < 51 := by omega
  have hput : ∀ a x y z, (∀ j, j < 4 → fdA A C F p j = acA a x y z j) → Q none (hp (puA M o2 p a x y z)) := by
    intro a x y z he
    refine hend _ sv_puA (hasR_cong (hasR_pu hB) (fun q hq j hj => ?_))
    unfold upA
    by_cases e : q = p
    · rw [if_pos e, if_pos e]; exact (he j hj).symm
    · rw [if_neg e, if_neg e]
  have hno : (∀ j, j < 4 → fdA A C F p j = A p j) → Q none (hp M) := by
    intro he
    refine hend _ sv_refl (hasR_cong hB (fun q hq j hj => ?_))
    by_cases e : q = p
    · rw [if_pos e, e, he j hj]; exact hBp j hj
    · rw [if_neg e]
  have hK2 : ∀ a x y z, kR (puA M o2 p a x y z) F := fun a x y z => kR_sv sv_puA (rt_sd ho2) hK
  by_cases c13 : A p 0 = nI 13
  · obtain ⟨l, hl, e⟩ := g5 c13
    have hb : bI (¬ nI 13 < nI 3 ∧ ¬ nI 9 < nI 13) = nI 0 := bI_f (by decide)
    rw [e] at q2
    rw [c13] at q1
    cases hF : F p l with
    | none =>
      simp (decide := true) (disch := first | assumption | omega) only [zi_Passes_foldAct_0, zi_Passes_foldAct_1, zi_Passes_foldAct_4, zi_Passes_foldAct_5, zi_Passes_foldAct_6, zi_Passes_foldAct_8, zi_Passes_foldAct_9, zi_Passes_foldAct_12, zi_Passes_foldAct_13, zi_Passes_foldAct_14, zi_Passes_foldAct_16, zi_Passes_foldAct_18, zi_Passes_foldAct_20, zi_Passes_foldAct_23, zi_Passes_foldAct_24, zi_Passes_foldAct_27, zi_Passes_foldAct_28, zi_Passes_foldAct_30, zi_Passes_foldAct_33, zi_Passes_foldAct_36, zi_Passes_foldAct_37, zi_Passes_foldAct_40, zi_Passes_foldAct_41, zi_Passes_foldAct_43, zi_Passes_foldAct_46, zi_Passes_foldAct_49, zi_Passes_foldAct_50, zi_Passes_foldAct_51, zi_Passes_foldAct_52, zi_Passes_foldAct_53, zi_Passes_foldAct_54, zi_Passes_foldAct_55, zi_Passes_foldAct_58, zi_Passes_foldAct_61, zi_Passes_foldAct_62, zi_Passes_foldAct_63, zi_Passes_foldAct_65, zi_Passes_foldAct_66, zi_Passes_foldAct_67, zi_Passes_foldAct_70, zi_Passes_foldAct_71, zi_Passes_foldAct_72, zi_Passes_foldAct_73, zi_Passes_foldAct_76, zi_Passes_foldAct_78, zi_Passes_foldAct_79, zi_Passes_foldAct_82, zi_Passes_foldAct_84, zi_Passes_foldAct_87, zi_Passes_foldAct_90, zi_Passes_foldAct_91, zi_Passes_foldAct_94, zi_Passes_foldAct_95, zi_Passes_foldAct_96, zi_Passes_foldAct_99, zi_Passes_foldAct_102, zi_Passes_foldAct_103, zi_Passes_foldAct_106, zi_Passes_foldAct_107, zi_Passes_foldAct_108, zi_Passes_foldAct_111, zi_Passes_foldAct_113, zi_Passes_foldAct_115, zi_Passes_foldAct_117, zi_Passes_foldAct_118, zi_Passes_foldAct_119, zi_Passes_foldAct_120, zi_Passes_foldAct_123, zi_Passes_foldAct_124, zi_Passes_foldAct_125, zi_Passes_foldAct_126, zi_Passes_foldAct_128, zi_Passes_foldAct_130, zi_Passes_foldAct_131, zi_Passes_foldAct_132, zi_Passes_foldAct_135, ↓reduceIte, mj_op_s, Option.toList_some, Option.toList_none, List.cons_append, List.nil_append, hp_1, hp_2, true_and, and_true, zb_0, zb_1, zb_b, va_rf, io_rt, ↓ogf_rt_0, ↓ogf_rt_1, ↓ogf_rt_2, ↓ogf_rt_3, ↓ogf_rt_4, ↓oai_rt_0, ↓oai_rt_1, ↓oai_rt_2, ↓oai_rt_3, ↓owi_rt_0, ↓owi_rt_1, ↓owi_rt_2, ↓owi_rt_3, ↓opf_rt, io_203, ↓ogf_203_0, ↓ogf_203_1, ↓ogf_203_2, ↓ogf_203_3, ↓ogf_203_4, ↓opf_203_4_0, ↓opf_203_4_1, ↓ogf_203_5, ↓ogf_203_6, io_212, ↓ogf_212_0, ↓ogf_212_1, ↓ogf_212_2, ↓ogf_212_3, ↓ogf_212_4, ↓ogf_212_5, q1, q2, g_isKnown hK hp51 hl, hF, Option.isSome_none, b1_f, c_Code_isReckoning, hb]
      refine hno (fun j hj => ?_)
      unfold fdA
      rw [if_pos hC, if_pos c13, e, cz_n (by omega), hF]
    | some v =>
      by_cases cv : v = 0
      · subst cv
        simp (decide := true) (disch := first | assumption | omega) only [zi_Passes_foldAct_0, zi_Passes_foldAct_1, zi_Passes_foldAct_4, zi_Passes_foldAct_5, zi_Passes_foldAct_6, zi_Passes_foldAct_8, zi_Passes_foldAct_9, zi_Passes_foldAct_12, zi_Passes_foldAct_13, zi_Passes_foldAct_14, zi_Passes_foldAct_16, zi_Passes_foldAct_18, zi_Passes_foldAct_20, zi_Passes_foldAct_23, zi_Passes_foldAct_24, zi_Passes_foldAct_27, zi_Passes_foldAct_28, zi_Passes_foldAct_30, zi_Passes_foldAct_33, zi_Passes_foldAct_36, zi_Passes_foldAct_37, zi_Passes_foldAct_40, zi_Passes_foldAct_41, zi_Passes_foldAct_43, zi_Passes_foldAct_46, zi_Passes_foldAct_49, zi_Passes_foldAct_50, zi_Passes_foldAct_51, zi_Passes_foldAct_52, zi_Passes_foldAct_53, zi_Passes_foldAct_54, zi_Passes_foldAct_55, zi_Passes_foldAct_58, zi_Passes_foldAct_61, zi_Passes_foldAct_62, zi_Passes_foldAct_63, zi_Passes_foldAct_65, zi_Passes_foldAct_66, zi_Passes_foldAct_67, zi_Passes_foldAct_70, zi_Passes_foldAct_71, zi_Passes_foldAct_72, zi_Passes_foldAct_73, zi_Passes_foldAct_76, zi_Passes_foldAct_78, zi_Passes_foldAct_79, zi_Passes_foldAct_82, zi_Passes_foldAct_84, zi_Passes_foldAct_87, zi_Passes_foldAct_90, zi_Passes_foldAct_91, zi_Passes_foldAct_94, zi_Passes_foldAct_95, zi_Passes_foldAct_96, zi_Passes_foldAct_99, zi_Passes_foldAct_102, zi_Passes_foldAct_103, zi_Passes_foldAct_106, zi_Passes_foldAct_107, zi_Passes_foldAct_108, zi_Passes_foldAct_111, zi_Passes_foldAct_113, zi_Passes_foldAct_115, zi_Passes_foldAct_117, zi_Passes_foldAct_118, zi_Passes_foldAct_119, zi_Passes_foldAct_120, zi_Passes_foldAct_123, zi_Passes_foldAct_124, zi_Passes_foldAct_125, zi_Passes_foldAct_126, zi_Passes_foldAct_128, zi_Passes_foldAct_130, zi_Passes_foldAct_131, zi_Passes_foldAct_132, zi_Passes_foldAct_135, ↓reduceIte, mj_op_s, Option.toList_some, Option.toList_none, List.cons_append, List.nil_append, hp_1, hp_2, true_and, and_true, zb_0, zb_1, zb_b, va_rf, io_rt, ↓ogf_rt_0, ↓ogf_rt_1, ↓ogf_rt_2, ↓ogf_rt_3, ↓ogf_rt_4, ↓oai_rt_0, ↓oai_rt_1, ↓oai_rt_2, ↓oai_rt_3, ↓owi_rt_0, ↓owi_rt_1, ↓owi_rt_2, ↓owi_rt_3, ↓opf_rt, io_203, ↓ogf_203_0, ↓ogf_203_1, ↓ogf_203_2, ↓ogf_203_3, ↓ogf_203_4, ↓opf_203_4_0, ↓opf_203_4_1, ↓ogf_203_5, ↓ogf_203_6, io_212, ↓ogf_212_0, ↓ogf_212_1, ↓ogf_212_2, ↓ogf_212_3, ↓ogf_212_4, ↓ogf_212_5, q1, q2, g_isKnown hK hp51 hl, g_isZero hK hp51 hl, hF, Option.isSome_some, b1_t, c_Routine_put ho2 hp50, c_Code_isReckoning, hb]
        refine hput _ _ _ _ (fun j hj => ?_)
        unfold fdA
        rw [if_pos hC, if_pos c13, e, cz_n (by omega), hF]
        simp
      · simp (decide := true) (disch := first | assumption | omega) only [zi_Passes_foldAct_0, zi_Passes_foldAct_1, zi_Passes_foldAct_4, zi_Passes_foldAct_5, zi_Passes_foldAct_6, zi_Passes_foldAct_8, zi_Passes_foldAct_9, zi_Passes_foldAct_12, zi_Passes_foldAct_13, zi_Passes_foldAct_14, zi_Passes_foldAct_16, zi_Passes_foldAct_18, zi_Passes_foldAct_20, zi_Passes_foldAct_23, zi_Passes_foldAct_24, zi_Passes_foldAct_27, zi_Passes_foldAct_28, zi_Passes_foldAct_30, zi_Passes_foldAct_33, zi_Passes_foldAct_36, zi_Passes_foldAct_37, zi_Passes_foldAct_40, zi_Passes_foldAct_41, zi_Passes_foldAct_43, zi_Passes_foldAct_46, zi_Passes_foldAct_49, zi_Passes_foldAct_50, zi_Passes_foldAct_51, zi_Passes_foldAct_52, zi_Passes_foldAct_53, zi_Passes_foldAct_54, zi_Passes_foldAct_55, zi_Passes_foldAct_58, zi_Passes_foldAct_61, zi_Passes_foldAct_62, zi_Passes_foldAct_63, zi_Passes_foldAct_65, zi_Passes_foldAct_66, zi_Passes_foldAct_67, zi_Passes_foldAct_70, zi_Passes_foldAct_71, zi_Passes_foldAct_72, zi_Passes_foldAct_73, zi_Passes_foldAct_76, zi_Passes_foldAct_78, zi_Passes_foldAct_79, zi_Passes_foldAct_82, zi_Passes_foldAct_84, zi_Passes_foldAct_87, zi_Passes_foldAct_90, zi_Passes_foldAct_91, zi_Passes_foldAct_94, zi_Passes_foldAct_95, zi_Passes_foldAct_96, zi_Passes_foldAct_99, zi_Passes_foldAct_102, zi_Passes_foldAct_103, zi_Passes_foldAct_106, zi_Passes_foldAct_107, zi_Passes_foldAct_108, zi_Passes_foldAct_111, zi_Passes_foldAct_113, zi_Passes_foldAct_115, zi_Passes_foldAct_117, zi_Passes_foldAct_118, zi_Passes_foldAct_119, zi_Passes_foldAct_120, zi_Passes_foldAct_123, zi_Passes_foldAct_124, zi_Passes_foldAct_125, zi_Passes_foldAct_126, zi_Passes_foldAct_128, zi_Passes_foldAct_130, zi_Passes_foldAct_131, zi_Passes_foldAct_132, zi_Passes_foldAct_135, ↓reduceIte, mj_op_s, Option.toList_some, Option.toList_none, List.cons_append, List.nil_append, hp_1, hp_2, true_and, and_true, zb_0, zb_1, zb_b, va_rf, io_rt, ↓ogf_rt_0, ↓ogf_rt_1, ↓ogf_rt_2, ↓ogf_rt_3, ↓ogf_rt_4, ↓oai_rt_0, ↓oai_rt_1, ↓oai_rt_2, ↓oai_rt_3, ↓owi_rt_0, ↓owi_rt_1, ↓owi_rt_2, ↓owi_rt_3, ↓opf_rt, io_203, ↓ogf_203_0, ↓ogf_203_1, ↓ogf_203_2, ↓ogf_203_3, ↓ogf_203_4, ↓opf_203_4_0, ↓opf_203_4_1, ↓ogf_203_5, ↓ogf_203_6, io_212, ↓ogf_212_0, ↓ogf_212_1, ↓ogf_212_2, ↓ogf_212_3, ↓ogf_212_4, ↓ogf_212_5, q1, q2, q3, g_isKnown hK hp51 hl, g_isZero hK hp51 hl, hF, Option.isSome_some, Option.some.injEq, cv, decide_false, b1_t, b1_f, c_Routine_put ho2 hp50, c_Code_isReckoning, hb]
        refine hput _ _ _ _ (fun j hj => ?_)
        unfold fdA
        rw [if_pos hC, if_pos c13, e, cz_n (by omega), hF]
        simp [cv]
  · by_cases cM : A p 0 = nI 2 ∨ (¬ A p 0 < nI 3 ∧ ¬ nI 9 < A p 0)
    · have hfd : ∀ j, fdA A C F p j = (match krs A p (F p) with
          | some v => if v = v.toInt32.toInt64 then acA (nI 1) (A p 1) v.toInt32 (nI 0) j else A p j
          | none => A p j) := by
        intro j
        unfold fdA
        rw [if_pos hC, if_neg c13, if_pos cM]
        rfl
      have hgo : mj_V (d + 2) lim mq_Passes_foldAct 90 [.ref 212, .ref o, .ref o2, .int (nI p), .int (A p 0), .int (A p 1), mj_j, mj_j] [] (hp M) Q := by
        cases hk : krs A p (F p) with
        | none =>
          rw [hk] at hfd
          simp (decide := true) (disch := first | assumption | omega) only [zi_Passes_foldAct_90, zi_Passes_foldAct_91, zi_Passes_foldAct_94, zi_Passes_foldAct_95, zi_Passes_foldAct_96, zi_Passes_foldAct_99, zi_Passes_foldAct_102, zi_Passes_foldAct_103, zi_Passes_foldAct_106, zi_Passes_foldAct_107, zi_Passes_foldAct_108, zi_Passes_foldAct_111, zi_Passes_foldAct_113, zi_Passes_foldAct_115, zi_Passes_foldAct_117, zi_Passes_foldAct_118, zi_Passes_foldAct_119, zi_Passes_foldAct_120, zi_Passes_foldAct_123, zi_Passes_foldAct_124, zi_Passes_foldAct_125, zi_Passes_foldAct_126, zi_Passes_foldAct_128, zi_Passes_foldAct_130, zi_Passes_foldAct_131, zi_Passes_foldAct_132, zi_Passes_foldAct_135, ↓reduceIte, mj_op_s, Option.toList_some, Option.toList_none, List.cons_append, List.nil_append, hp_1, hp_2, true_and, and_true, zb_0, zb_1, zb_b, va_rf, io_rt, ↓ogf_rt_0, ↓ogf_rt_1, ↓ogf_rt_2, ↓ogf_rt_3, ↓ogf_rt_4, ↓oai_rt_0, ↓oai_rt_1, ↓oai_rt_2, ↓oai_rt_3, ↓owi_rt_0, ↓owi_rt_1, ↓owi_rt_2, ↓owi_rt_3, ↓opf_rt, io_203, ↓ogf_203_0, ↓ogf_203_1, ↓ogf_203_2, ↓ogf_203_3, ↓ogf_203_4, ↓opf_203_4_0, ↓opf_203_4_1, ↓ogf_203_5, ↓ogf_203_6, io_212, ↓ogf_212_0, ↓ogf_212_1, ↓ogf_212_2, ↓ogf_212_3, ↓ogf_212_4, ↓ogf_212_5, c_knowsResult ho hR hok hp0 hK, hk, Option.isSome_none, b1_f]
          exact hno (fun j hj => hfd j)
        | some v =>
          rw [hk] at hfd
          by_cases cv : v = v.toInt32.toInt64
          · simp (decide := true) (disch := first | assumption | omega) only [zi_Passes_foldAct_90, zi_Passes_foldAct_91, zi_Passes_foldAct_94, zi_Passes_foldAct_95, zi_Passes_foldAct_96, zi_Passes_foldAct_99, zi_Passes_foldAct_102, zi_Passes_foldAct_103, zi_Passes_foldAct_106, zi_Passes_foldAct_107, zi_Passes_foldAct_108, zi_Passes_foldAct_111, zi_Passes_foldAct_113, zi_Passes_foldAct_115, zi_Passes_foldAct_117, zi_Passes_foldAct_118, zi_Passes_foldAct_119, zi_Passes_foldAct_120, zi_Passes_foldAct_123, zi_Passes_foldAct_124, zi_Passes_foldAct_125, zi_Passes_foldAct_126, zi_Passes_foldAct_128, zi_Passes_foldAct_130, zi_Passes_foldAct_131, zi_Passes_foldAct_132, zi_Passes_foldAct_135, ↓reduceIte, mj_op_s, Option.toList_some, Option.toList_none, List.cons_append, List.nil_append, hp_1, hp_2, true_and, and_true, zb_0, zb_1, zb_b, va_rf, io_rt, ↓ogf_rt_0, ↓ogf_rt_1, ↓ogf_rt_2, ↓ogf_rt_3, ↓ogf_rt_4, ↓oai_rt_0, ↓oai_rt_1, ↓oai_rt_2, ↓oai_rt_3, ↓owi_rt_0, ↓owi_rt_1, ↓owi_rt_2, ↓owi_rt_3, ↓opf_rt, io_203, ↓ogf_203_0, ↓ogf_203_1, ↓ogf_203_2, ↓ogf_203_3, ↓ogf_203_4, ↓opf_203_4_0, ↓opf_203_4_1, ↓ogf_203_5, ↓ogf_203_6, io_212, ↓ogf_212_0, ↓ogf_212_1, ↓ogf_212_2, ↓ogf_212_3, ↓ogf_212_4, ↓ogf_212_5, c_knowsResult ho hR hok hp0 hK, c_resultOf ho hR hok hp0 hK hk, hk, Option.isSome_some, b1_t, lgc_eq, ← cv, c_Routine_put ho2 hp50]
            refine hput _ _ _ _ (fun j hj => ?_)
            rw [hfd j]
            simp only [if_pos cv]
          · simp (decide := true) (disch := first | assumption | omega) only [zi_Passes_foldAct_90, zi_Passes_foldAct_91, zi_Passes_foldAct_94, zi_Passes_foldAct_95, zi_Passes_foldAct_96, zi_Passes_foldAct_99, zi_Passes_foldAct_102, zi_Passes_foldAct_103, zi_Passes_foldAct_106, zi_Passes_foldAct_107, zi_Passes_foldAct_108, zi_Passes_foldAct_111, zi_Passes_foldAct_113, zi_Passes_foldAct_115, zi_Passes_foldAct_117, zi_Passes_foldAct_118, zi_Passes_foldAct_119, zi_Passes_foldAct_120, zi_Passes_foldAct_123, zi_Passes_foldAct_124, zi_Passes_foldAct_125, zi_Passes_foldAct_126, zi_Passes_foldAct_128, zi_Passes_foldAct_130, zi_Passes_foldAct_131, zi_Passes_foldAct_132, zi_Passes_foldAct_135, ↓reduceIte, mj_op_s, Option.toList_some, Option.toList_none, List.cons_append, List.nil_append, hp_1, hp_2, true_and, and_true, zb_0, zb_1, zb_b, va_rf, io_rt, ↓ogf_rt_0, ↓ogf_rt_1, ↓ogf_rt_2, ↓ogf_rt_3, ↓ogf_rt_4, ↓oai_rt_0, ↓oai_rt_1, ↓oai_rt_2, ↓oai_rt_3, ↓owi_rt_0, ↓owi_rt_1, ↓owi_rt_2, ↓owi_rt_3, ↓opf_rt, io_203, ↓ogf_203_0, ↓ogf_203_1, ↓ogf_203_2, ↓ogf_203_3, ↓ogf_203_4, ↓opf_203_4_0, ↓opf_203_4_1, ↓ogf_203_5, ↓ogf_203_6, io_212, ↓ogf_212_0, ↓ogf_212_1, ↓ogf_212_2, ↓ogf_212_3, ↓ogf_212_4, ↓ogf_212_5, c_knowsResult ho hR hok hp0 hK, c_resultOf ho hR hok hp0 hK hk, hk, Option.isSome_some, b1_t, lgc_eq, cv]
            refine hno (fun j hj => ?_)
            rw [hfd j]
            simp only [if_neg cv]
      rcases cM with c2 | c3
      · rw [c2] at q1 hgo
        simp (decide := true) (disch := first | assumption | omega) only [zi_Passes_foldAct_0, zi_Passes_foldAct_1, zi_Passes_foldAct_4, zi_Passes_foldAct_5, zi_Passes_foldAct_6, zi_Passes_foldAct_8, zi_Passes_foldAct_9, zi_Passes_foldAct_12, zi_Passes_foldAct_13, zi_Passes_foldAct_14, zi_Passes_foldAct_16, zi_Passes_foldAct_18, zi_Passes_foldAct_20, zi_Passes_foldAct_23, zi_Passes_foldAct_24, zi_Passes_foldAct_27, zi_Passes_foldAct_28, zi_Passes_foldAct_30, zi_Passes_foldAct_33, zi_Passes_foldAct_36, zi_Passes_foldAct_37, zi_Passes_foldAct_40, zi_Passes_foldAct_41, zi_Passes_foldAct_43, zi_Passes_foldAct_46, zi_Passes_foldAct_49, zi_Passes_foldAct_50, zi_Passes_foldAct_51, zi_Passes_foldAct_52, zi_Passes_foldAct_53, zi_Passes_foldAct_54, zi_Passes_foldAct_55, zi_Passes_foldAct_58, zi_Passes_foldAct_61, zi_Passes_foldAct_62, zi_Passes_foldAct_63, zi_Passes_foldAct_65, zi_Passes_foldAct_66, zi_Passes_foldAct_67, zi_Passes_foldAct_70, zi_Passes_foldAct_71, zi_Passes_foldAct_72, zi_Passes_foldAct_73, zi_Passes_foldAct_76, zi_Passes_foldAct_78, zi_Passes_foldAct_79, zi_Passes_foldAct_82, zi_Passes_foldAct_84, zi_Passes_foldAct_87, ↓reduceIte, mj_op_s, Option.toList_some, Option.toList_none, List.cons_append, List.nil_append, hp_1, hp_2, true_and, and_true, zb_0, zb_1, zb_b, va_rf, io_rt, ↓ogf_rt_0, ↓ogf_rt_1, ↓ogf_rt_2, ↓ogf_rt_3, ↓ogf_rt_4, ↓oai_rt_0, ↓oai_rt_1, ↓oai_rt_2, ↓oai_rt_3, ↓owi_rt_0, ↓owi_rt_1, ↓owi_rt_2, ↓owi_rt_3, ↓opf_rt, io_203, ↓ogf_203_0, ↓ogf_203_1, ↓ogf_203_2, ↓ogf_203_3, ↓ogf_203_4, ↓opf_203_4_0, ↓opf_203_4_1, ↓ogf_203_5, ↓ogf_203_6, io_212, ↓ogf_212_0, ↓ogf_212_1, ↓ogf_212_2, ↓ogf_212_3, ↓ogf_212_4, ↓ogf_212_5, q1, q2]
        exact hgo
      · have hb := bI_t c3
        by_cases c2 : A p 0 = nI 2
        · rw [c2] at q1 hgo
          simp (decide := true) (disch := first | assumption | omega) only [zi_Passes_foldAct_0, zi_Passes_foldAct_1, zi_Passes_foldAct_4, zi_Passes_foldAct_5, zi_Passes_foldAct_6, zi_Passes_foldAct_8, zi_Passes_foldAct_9, zi_Passes_foldAct_12, zi_Passes_foldAct_13, zi_Passes_foldAct_14, zi_Passes_foldAct_16, zi_Passes_foldAct_18, zi_Passes_foldAct_20, zi_Passes_foldAct_23, zi_Passes_foldAct_24, zi_Passes_foldAct_27, zi_Passes_foldAct_28, zi_Passes_foldAct_30, zi_Passes_foldAct_33, zi_Passes_foldAct_36, zi_Passes_foldAct_37, zi_Passes_foldAct_40, zi_Passes_foldAct_41, zi_Passes_foldAct_43, zi_Passes_foldAct_46, zi_Passes_foldAct_49, zi_Passes_foldAct_50, zi_Passes_foldAct_51, zi_Passes_foldAct_52, zi_Passes_foldAct_53, zi_Passes_foldAct_54, zi_Passes_foldAct_55, zi_Passes_foldAct_58, zi_Passes_foldAct_61, zi_Passes_foldAct_62, zi_Passes_foldAct_63, zi_Passes_foldAct_65, zi_Passes_foldAct_66, zi_Passes_foldAct_67, zi_Passes_foldAct_70, zi_Passes_foldAct_71, zi_Passes_foldAct_72, zi_Passes_foldAct_73, zi_Passes_foldAct_76, zi_Passes_foldAct_78, zi_Passes_foldAct_79, zi_Passes_foldAct_82, zi_Passes_foldAct_84, zi_Passes_foldAct_87, ↓reduceIte, mj_op_s, Option.toList_some, Option.toList_none, List.cons_append, List.nil_append, hp_1, hp_2, true_and, and_true, zb_0, zb_1, zb_b, va_rf, io_rt, ↓ogf_rt_0, ↓ogf_rt_1, ↓ogf_rt_2, ↓ogf_rt_3, ↓ogf_rt_4, ↓oai_rt_0, ↓oai_rt_1, ↓oai_rt_2, ↓oai_rt_3, ↓owi_rt_0, ↓owi_rt_1, ↓owi_rt_2, ↓owi_rt_3, ↓opf_rt, io_203, ↓ogf_203_0, ↓ogf_203_1, ↓ogf_203_2, ↓ogf_203_3, ↓ogf_203_4, ↓opf_203_4_0, ↓opf_203_4_1, ↓ogf_203_5, ↓ogf_203_6, io_212, ↓ogf_212_0, ↓ogf_212_1, ↓ogf_212_2, ↓ogf_212_3, ↓ogf_212_4, ↓ogf_212_5, q1, q2]
          exact hgo
        · simp (decide := true) (disch := first | assumption | omega) only [zi_Passes_foldAct_0, zi_Passes_foldAct_1, zi_Passes_foldAct_4, zi_Passes_foldAct_5, zi_Passes_foldAct_6, zi_Passes_foldAct_8, zi_Passes_foldAct_9, zi_Passes_foldAct_12, zi_Passes_foldAct_13, zi_Passes_foldAct_14, zi_Passes_foldAct_16, zi_Passes_foldAct_18, zi_Passes_foldAct_20, zi_Passes_foldAct_23, zi_Passes_foldAct_24, zi_Passes_foldAct_27, zi_Passes_foldAct_28, zi_Passes_foldAct_30, zi_Passes_foldAct_33, zi_Passes_foldAct_36, zi_Passes_foldAct_37, zi_Passes_foldAct_40, zi_Passes_foldAct_41, zi_Passes_foldAct_43, zi_Passes_foldAct_46, zi_Passes_foldAct_49, zi_Passes_foldAct_50, zi_Passes_foldAct_51, zi_Passes_foldAct_52, zi_Passes_foldAct_53, zi_Passes_foldAct_54, zi_Passes_foldAct_55, zi_Passes_foldAct_58, zi_Passes_foldAct_61, zi_Passes_foldAct_62, zi_Passes_foldAct_63, zi_Passes_foldAct_65, zi_Passes_foldAct_66, zi_Passes_foldAct_67, zi_Passes_foldAct_70, zi_Passes_foldAct_71, zi_Passes_foldAct_72, zi_Passes_foldAct_73, zi_Passes_foldAct_76, zi_Passes_foldAct_78, zi_Passes_foldAct_79, zi_Passes_foldAct_82, zi_Passes_foldAct_84, zi_Passes_foldAct_87, ↓reduceIte, mj_op_s, Option.toList_some, Option.toList_none, List.cons_append, List.nil_append, hp_1, hp_2, true_and, and_true, zb_0, zb_1, zb_b, va_rf, io_rt, ↓ogf_rt_0, ↓ogf_rt_1, ↓ogf_rt_2, ↓ogf_rt_3, ↓ogf_rt_4, ↓oai_rt_0, ↓oai_rt_1, ↓oai_rt_2, ↓oai_rt_3, ↓owi_rt_0, ↓owi_rt_1, ↓owi_rt_2, ↓owi_rt_3, ↓opf_rt, io_203, ↓ogf_203_0, ↓ogf_203_1, ↓ogf_203_2, ↓ogf_203_3, ↓ogf_203_4, ↓opf_203_4_0, ↓opf_203_4_1, ↓ogf_203_5, ↓ogf_203_6, io_212, ↓ogf_212_0, ↓ogf_212_1, ↓ogf_212_2, ↓ogf_212_3, ↓ogf_212_4, ↓ogf_212_5, q1, q2, c13, c2, c_Code_isReckoning, hb]
          exact hgo
    · have hb := bI_f (fun z => cM (Or.inr z))
      have c2 : ¬ A p 0 = nI 2 := fun z => cM (Or.inl z)
      simp (decide := true) (disch := first | assumption | omega) only [zi_Passes_foldAct_0, zi_Passes_foldAct_1, zi_Passes_foldAct_4, zi_Passes_foldAct_5, zi_Passes_foldAct_6, zi_Passes_foldAct_8, zi_Passes_foldAct_9, zi_Passes_foldAct_12, zi_Passes_foldAct_13, zi_Passes_foldAct_14, zi_Passes_foldAct_16, zi_Passes_foldAct_18, zi_Passes_foldAct_20, zi_Passes_foldAct_23, zi_Passes_foldAct_24, zi_Passes_foldAct_27, zi_Passes_foldAct_28, zi_Passes_foldAct_30, zi_Passes_foldAct_33, zi_Passes_foldAct_36, zi_Passes_foldAct_37, zi_Passes_foldAct_40, zi_Passes_foldAct_41, zi_Passes_foldAct_43, zi_Passes_foldAct_46, zi_Passes_foldAct_49, zi_Passes_foldAct_50, zi_Passes_foldAct_51, zi_Passes_foldAct_52, zi_Passes_foldAct_53, zi_Passes_foldAct_54, zi_Passes_foldAct_55, zi_Passes_foldAct_58, zi_Passes_foldAct_61, zi_Passes_foldAct_62, zi_Passes_foldAct_63, zi_Passes_foldAct_65, zi_Passes_foldAct_66, zi_Passes_foldAct_67, zi_Passes_foldAct_70, zi_Passes_foldAct_71, zi_Passes_foldAct_72, zi_Passes_foldAct_73, zi_Passes_foldAct_76, zi_Passes_foldAct_78, zi_Passes_foldAct_79, zi_Passes_foldAct_82, zi_Passes_foldAct_84, zi_Passes_foldAct_87, zi_Passes_foldAct_90, zi_Passes_foldAct_91, zi_Passes_foldAct_94, zi_Passes_foldAct_95, zi_Passes_foldAct_96, zi_Passes_foldAct_99, zi_Passes_foldAct_102, zi_Passes_foldAct_103, zi_Passes_foldAct_106, zi_Passes_foldAct_107, zi_Passes_foldAct_108, zi_Passes_foldAct_111, zi_Passes_foldAct_113, zi_Passes_foldAct_115, zi_Passes_foldAct_117, zi_Passes_foldAct_118, zi_Passes_foldAct_119, zi_Passes_foldAct_120, zi_Passes_foldAct_123, zi_Passes_foldAct_124, zi_Passes_foldAct_125, zi_Passes_foldAct_126, zi_Passes_foldAct_128, zi_Passes_foldAct_130, zi_Passes_foldAct_131, zi_Passes_foldAct_132, zi_Passes_foldAct_135, ↓reduceIte, mj_op_s, Option.toList_some, Option.toList_none, List.cons_append, List.nil_append, hp_1, hp_2, true_and, and_true, zb_0, zb_1, zb_b, va_rf, io_rt, ↓ogf_rt_0, ↓ogf_rt_1, ↓ogf_rt_2, ↓ogf_rt_3, ↓ogf_rt_4, ↓oai_rt_0, ↓oai_rt_1, ↓oai_rt_2, ↓oai_rt_3, ↓owi_rt_0, ↓owi_rt_1, ↓owi_rt_2, ↓owi_rt_3, ↓opf_rt, io_203, ↓ogf_203_0, ↓ogf_203_1, ↓ogf_203_2, ↓ogf_203_3, ↓ogf_203_4, ↓opf_203_4_0, ↓opf_203_4_1, ↓ogf_203_5, ↓ogf_203_6, io_212, ↓ogf_212_0, ↓ogf_212_1, ↓ogf_212_2, ↓ogf_212_3, ↓ogf_212_4, ↓ogf_212_5, q1, q2, c13, c2, c_Code_isReckoning, hb]
      refine hno (fun j hj => ?_)
      unfold fdA
      rw [if_pos hC, if_neg c13, if_neg cM]
/-- the first p places new -/
def mxA (B A : AA) (p : Nat) : AA := fun q j => if q < p then B q j else A q j
theorem mx_0 : mxA B A 0 = A := by
  funext q j
  unfold mxA
  rw [if_neg (by omega)]
theorem mx_p : mxA B A p p j = A p j := by
  unfold mxA
  rw [if_neg (by omega)]
theorem mx_s {X : AA} (h1 : ∀ j, j < 4 → X p j = B p j) (h2 : ∀ q j, q ≠ p → X q j = mxA B A p q j) : ∀ q, q < len → ∀ j, j < 4 → X q j = mxA B A (p + 1) q j := by
  intro q _ j hj
  by_cases e : q = p
  · subst e
    unfold mxA
    rw [if_pos (by omega)]
    exact h1 j hj
  · rw [h2 q j e]
    unfold mxA
    by_cases h : q < p
    · rw [if_pos h, if_pos (by omega)]
    · rw [if_neg h, if_neg (by omega)]
theorem mx_e (h : hasR M o len (mxA B A len)) : hasR M o len B := hasR_cong h (fun q hq j _ => by
  unfold mxA
  rw [if_pos hq])
theorem l_fold (ho : isRt o) (ho2 : isRt o2) (hne : o + 4 < o2 ∨ o2 + 4 < o) (hR : hasR M o len A) (hok : okR len A) (hK : kR M F) (hC : ∀ p, p < 51 → rI M 204 p = b1 (C p)) (hend : ∀ M', sv (rtP o2) M M' → hasR M' o2 len (fdA A C F) → Q none (hp M')) : ∀ (n p : Nat) (M' : mm), p + n = len → sv (rtP o2) M M' → hasR M' o2 len (mxA (fdA A C F) A p) → mj_V (d + 3) lim mq_Passes_fold 7 [.ref 212, .ref o, .ref o2, .int (nI p)] [] (hp M') Q := by
  have h50 := hok.1
  intro n
  induction n with
  | zero =>
    intro p M' hn hv hB
    obtain rfl : p = len := by omega
    have r0 := (sv_hasR hv (rt_rt hne) hR).1
    have e1 : ¬ nI p < nI p := nI_nlt (by omega) (by omega)
    rw [zi_Passes_fold_7]
    simp (disch := first | assumption | omega) only [zi_Passes_fold_8, zi_Passes_fold_9, zi_Passes_fold_12, zi_Passes_fold_40, ↓reduceIte, mj_op_s, Option.toList_some, Option.toList_none, List.cons_append, List.nil_append, hp_1, hp_2, true_and, and_true, zb_0, zb_1, zb_b, va_rf, io_rt, ↓ogf_rt_0, ↓ogf_rt_1, ↓ogf_rt_2, ↓ogf_rt_3, ↓ogf_rt_4, ↓oai_rt_0, ↓oai_rt_1, ↓oai_rt_2, ↓oai_rt_3, ↓owi_rt_0, ↓owi_rt_1, ↓owi_rt_2, ↓owi_rt_3, ↓opf_rt, r0, e1]
    exact hend M' hv (mx_e hB)
  | succ n ih =>
    intro p M' hn hv hB
    have hR' := sv_hasR hv (rt_rt hne) hR
    have r0 := hR'.1
    have hp51 : p < 51 := by omega
    have hpl : p < len := by omega
    have e1 : nI p < nI len := nI_lt (by omega) (by omega)
    have r4 : rI M' 204 p = b1 (C p) := (sv_I hv (rt_sd ho2 _ _ (by omega) (by omega))).trans (hC p hp51)
    rw [zi_Passes_fold_7]
    cases hc : C p with
    | true =>
      rw [hc] at r4
      have r4 : rI M' 204 p = nI 1 := r4
      simp (decide := true) (disch := first | assumption | omega) only [zi_Passes_fold_8, zi_Passes_fold_9, zi_Passes_fold_12, zi_Passes_fold_15, zi_Passes_fold_16, zi_Passes_fold_19, zi_Passes_fold_22, zi_Passes_fold_23, zi_Passes_fold_24, zi_Passes_fold_27, zi_Passes_fold_28, zi_Passes_fold_29, zi_Passes_fold_30, zi_Passes_fold_31, ↓reduceIte, mj_op_s, Option.toList_some, Option.toList_none, List.cons_append, List.nil_append, hp_1, hp_2, true_and, and_true, zb_0, zb_1, zb_b, va_rf, io_rt, ↓ogf_rt_0, ↓ogf_rt_1, ↓ogf_rt_2, ↓ogf_rt_3, ↓ogf_rt_4, ↓oai_rt_0, ↓oai_rt_1, ↓oai_rt_2, ↓oai_rt_3, ↓owi_rt_0, ↓owi_rt_1, ↓owi_rt_2, ↓owi_rt_3, ↓opf_rt, io_203, ↓ogf_203_0, ↓ogf_203_1, ↓ogf_203_2, ↓ogf_203_3, ↓ogf_203_4, ↓opf_203_4_0, ↓opf_203_4_1, ↓ogf_203_5, ↓ogf_203_6, ↓oaz_204, ↓owz_204, io_212, ↓ogf_212_0, ↓ogf_212_1, ↓ogf_212_2, ↓ogf_212_3, ↓ogf_212_4, ↓ogf_212_5, r0, e1, r4]
      refine c_foldAct (C := C) ho ho2 hR' hok hpl (kR_sv hv (rt_sd ho2) hK) hc hB (fun j _ => mx_p) (fun M2 hv2 hB2 => ?_)
      simp only [zi_Passes_fold_34, zi_Passes_fold_37, ↓reduceIte, mj_op_s, Option.toList_some, Option.toList_none, List.cons_append, List.nil_append, hp_1, hp_2, true_and, and_true, zb_0, zb_1, zb_b, va_rf, nI_add]
      exact ih (p + 1) M2 (by omega) (sv_trans hv hv2) (hasR_cong hB2 (mx_s (fun j _ => if_pos rfl) (fun q j e => if_neg e)))
    | false =>
      rw [hc] at r4
      have r4 : rI M' 204 p = nI 0 := r4
      simp (decide := true) (disch := first | assumption | omega) only [zi_Passes_fold_8, zi_Passes_fold_9, zi_Passes_fold_12, zi_Passes_fold_15, zi_Passes_fold_16, zi_Passes_fold_19, zi_Passes_fold_22, zi_Passes_fold_23, zi_Passes_fold_24, zi_Passes_fold_27, zi_Passes_fold_28, zi_Passes_fold_29, zi_Passes_fold_30, zi_Passes_fold_31, zi_Passes_fold_34, zi_Passes_fold_37, ↓reduceIte, mj_op_s, Option.toList_some, Option.toList_none, List.cons_append, List.nil_append, hp_1, hp_2, true_and, and_true, zb_0, zb_1, zb_b, va_rf, io_rt, ↓ogf_rt_0, ↓ogf_rt_1, ↓ogf_rt_2, ↓ogf_rt_3, ↓ogf_rt_4, ↓oai_rt_0, ↓oai_rt_1, ↓oai_rt_2, ↓oai_rt_3, ↓owi_rt_0, ↓owi_rt_1, ↓owi_rt_2, ↓owi_rt_3, ↓opf_rt, io_203, ↓ogf_203_0, ↓ogf_203_1, ↓ogf_203_2, ↓ogf_203_3, ↓ogf_203_4, ↓opf_203_4_0, ↓opf_203_4_1, ↓ogf_203_5, ↓ogf_203_6, ↓oaz_204, ↓owz_204, io_212, ↓ogf_212_0, ↓ogf_212_1, ↓ogf_212_2, ↓ogf_212_3, ↓ogf_212_4, ↓ogf_212_5, r0, e1, r4, nI_add]
      refine ih (p + 1) M' (by omega) hv (hasR_cong hB (mx_s (fun j _ => ?_) (fun q j _ => rfl)))
      rw [mx_p]
      unfold fdA
      rw [if_neg (by rw [hc]; simp)]
theorem c_Passes_fold (ho : isRt o) (ho2 : isRt o2) (hne : o + 4 < o2 ∨ o2 + 4 < o) (hR : hasR M o len A) (hok : okR len A) (hK : kR M F) (hC : ∀ p, p < 51 → rI M 204 p = b1 (C p)) (hend : ∀ M', sv (rtP o2) M M' → hasR M' o2 len (fdA A C F) → Q none (hp M')) : mj_V (d + 3) lim mq_Passes_fold 0 [.ref 212, .ref o, .ref o2, mj_j] [] (hp M) Q := by
  simp (disch := first | assumption | omega) only [zi_Passes_fold_0, zi_Passes_fold_1, zi_Passes_fold_2, zi_Passes_fold_5, zi_Passes_fold_6, ↓reduceIte, mj_op_s, Option.toList_some, Option.toList_none, List.cons_append, List.nil_append, hp_1, hp_2, true_and, and_true, zb_0, zb_1, zb_b, va_rf, io_rt, ↓ogf_rt_0, ↓ogf_rt_1, ↓ogf_rt_2, ↓ogf_rt_3, ↓ogf_rt_4, ↓oai_rt_0, ↓oai_rt_1, ↓oai_rt_2, ↓oai_rt_3, ↓owi_rt_0, ↓owi_rt_1, ↓owi_rt_2, ↓owi_rt_3, ↓opf_rt, c_Routine_copyFrom ho2 ho hne hok.1 hR.1]
  obtain ⟨h1, h2⟩ := hasR_cp hne hR
  exact l_fold ho ho2 hne hR hok hK hC hend len 0 _ (by omega) h2 (by rw [mx_0]; exact h1)
theorem c_isDroppable {a : Int32} {G : mj_H} : mj_V d lim mq_Passes_isDroppable 0 [.int a] [] G Q ↔ Q (some (.int (bI (drK a)))) G := by
  simp only [zi_Passes_isDroppable_0, zi_Passes_isDroppable_1, zi_Passes_isDroppable_2, zi_Passes_isDroppable_5, zi_Passes_isDroppable_6, zi_Passes_isDroppable_7, zi_Passes_isDroppable_10, zi_Passes_isDroppable_11, zi_Passes_isDroppable_13, zi_Passes_isDroppable_16, zi_Passes_isDroppable_17, zi_Passes_isDroppable_19, zi_Passes_isDroppable_22, zi_Passes_isDroppable_23, zi_Passes_isDroppable_26, zi_Passes_isDroppable_27, ↓reduceIte, mj_op_s, Option.toList_some, Option.toList_none, List.cons_append, List.nil_append, hp_1, hp_2, true_and, and_true, zb_0, zb_1, zb_b, va_rf]
  unfold drK
  by_cases h1 : a < nI 1 <;> by_cases h2 : nI 5 < a <;> by_cases h3 : a = nI 8 <;> by_cases h4 : a = nI 9 <;> simp only [h1, h2, h3, h4, bI, if_true, if_false, not_true_eq_false, not_false_eq_true, and_true, and_false, true_and, false_and, or_true, true_or, or_false, false_or, or_self, ite_self]
theorem l_drop (ho : isRt o) (ho2 : isRt o2) (hne : o + 4 < o2 ∨ o2 + 4 < o) (hR : hasR M o len A) (hok : okR len A) {m : Nat → Nat} (hm : ∀ q, m q < 256) (hq : ∀ q, q < 51 → rI M 211 q = nI (m q)) (hend : ∀ M', sv (rtP o2) M M' → hasR M' o2 len (drA A (bitsF m)) → Q none (hp M')) : ∀ (n p : Nat) (M' : mm), p + n = len → sv (rtP o2) M M' → hasR M' o2 len (mxA (drA A (bitsF m)) A p) → mj_V (d + 3) lim mq_Passes_drop 7 [.ref 212, .ref o, .ref o2, .int (nI p)] [] (hp M') Q := by
  have h50 := hok.1
  intro n
  induction n with
  | zero =>
    intro p M' hn hv hB
    obtain rfl : p = len := by omega
    have r0 := (sv_hasR hv (rt_rt hne) hR).1
    have e1 : ¬ nI p < nI p := nI_nlt (by omega) (by omega)
    rw [zi_Passes_drop_7]
    simp (disch := first | assumption | omega) only [zi_Passes_drop_8, zi_Passes_drop_9, zi_Passes_drop_12, zi_Passes_drop_61, ↓reduceIte, mj_op_s, Option.toList_some, Option.toList_none, List.cons_append, List.nil_append, hp_1, hp_2, true_and, and_true, zb_0, zb_1, zb_b, va_rf, io_rt, ↓ogf_rt_0, ↓ogf_rt_1, ↓ogf_rt_2, ↓ogf_rt_3, ↓ogf_rt_4, ↓oai_rt_0, ↓oai_rt_1, ↓oai_rt_2, ↓oai_rt_3, ↓owi_rt_0, ↓owi_rt_1, ↓owi_rt_2, ↓owi_rt_3, ↓opf_rt, r0, e1]
    exact hend M' hv (mx_e hB)
  | succ n ih =>
    intro p M' hn hv hB
    have hR' := sv_hasR hv (rt_rt hne) hR
    have r0 := hR'.1
    have hp50 : p < 50 := by omega
    have hp51 : p + 1 < 51 := by omega
    have hpl : p < len := by omega
    have e1 : nI p < nI len := nI_lt (by omega) (by omega)
    obtain ⟨q1, q2, q3, q4⟩ := hR'.2 p hpl
    have r4 : rI M' 211 (p + 1) = nI (m (p + 1)) := (sv_I hv (rt_sd ho2 _ _ (by omega) (by omega))).trans (hq _ hp51)
    rw [zi_Passes_drop_7]
    by_cases c : drK (A p 0)
    · obtain ⟨l, hl, e⟩ := drK_rg (hok.2 p hpl) c
      have hb := bI_t c
      rw [e] at q2
      by_cases c2 : (m (p + 1)).testBit l = true
      · have hb2 := bI_t c2
        simp (decide := true) (disch := first | assumption | omega) only [zi_Passes_drop_8, zi_Passes_drop_9, zi_Passes_drop_12, zi_Passes_drop_15, zi_Passes_drop_16, zi_Passes_drop_19, zi_Passes_drop_20, zi_Passes_drop_21, zi_Passes_drop_24, zi_Passes_drop_27, zi_Passes_drop_28, zi_Passes_drop_31, zi_Passes_drop_32, zi_Passes_drop_33, zi_Passes_drop_34, zi_Passes_drop_35, zi_Passes_drop_38, zi_Passes_drop_39, zi_Passes_drop_40, zi_Passes_drop_43, zi_Passes_drop_46, zi_Passes_drop_47, zi_Passes_drop_48, zi_Passes_drop_49, zi_Passes_drop_50, zi_Passes_drop_51, zi_Passes_drop_52, zi_Passes_drop_55, zi_Passes_drop_58, ↓reduceIte, mj_op_s, Option.toList_some, Option.toList_none, List.cons_append, List.nil_append, hp_1, hp_2, true_and, and_true, zb_0, zb_1, zb_b, va_rf, io_rt, ↓ogf_rt_0, ↓ogf_rt_1, ↓ogf_rt_2, ↓ogf_rt_3, ↓ogf_rt_4, ↓oai_rt_0, ↓oai_rt_1, ↓oai_rt_2, ↓oai_rt_3, ↓owi_rt_0, ↓owi_rt_1, ↓owi_rt_2, ↓owi_rt_3, ↓opf_rt, io_210, ↓ogf_210_0, io_212, ↓ogf_212_0, ↓ogf_212_1, ↓ogf_212_2, ↓ogf_212_3, ↓ogf_212_4, ↓ogf_212_5, r0, e1, q1, q2, c_isDroppable, hb, nI_add, c_Liveness_isLive hp51 hl (hm _) r4, hb2]
        refine ih (p + 1) M' (by omega) hv (hasR_cong hB (mx_s (fun j _ => ?_) (fun q j _ => rfl)))
        rw [mx_p]
        unfold drA bitsF
        rw [e, cz_n (by omega), c2]
        simp
      · have hb2 := bI_f c2
        simp (decide := true) (disch := first | assumption | omega) only [zi_Passes_drop_8, zi_Passes_drop_9, zi_Passes_drop_12, zi_Passes_drop_15, zi_Passes_drop_16, zi_Passes_drop_19, zi_Passes_drop_20, zi_Passes_drop_21, zi_Passes_drop_24, zi_Passes_drop_27, zi_Passes_drop_28, zi_Passes_drop_31, zi_Passes_drop_32, zi_Passes_drop_33, zi_Passes_drop_34, zi_Passes_drop_35, zi_Passes_drop_38, zi_Passes_drop_39, zi_Passes_drop_40, zi_Passes_drop_43, zi_Passes_drop_46, zi_Passes_drop_47, zi_Passes_drop_48, zi_Passes_drop_49, zi_Passes_drop_50, zi_Passes_drop_51, zi_Passes_drop_52, zi_Passes_drop_55, zi_Passes_drop_58, ↓reduceIte, mj_op_s, Option.toList_some, Option.toList_none, List.cons_append, List.nil_append, hp_1, hp_2, true_and, and_true, zb_0, zb_1, zb_b, va_rf, io_rt, ↓ogf_rt_0, ↓ogf_rt_1, ↓ogf_rt_2, ↓ogf_rt_3, ↓ogf_rt_4, ↓oai_rt_0, ↓oai_rt_1, ↓oai_rt_2, ↓oai_rt_3, ↓owi_rt_0, ↓owi_rt_1, ↓owi_rt_2, ↓owi_rt_3, ↓opf_rt, io_210, ↓ogf_210_0, io_212, ↓ogf_212_0, ↓ogf_212_1, ↓ogf_212_2, ↓ogf_212_3, ↓ogf_212_4, ↓ogf_212_5, r0, e1, q1, q2, c_isDroppable, hb, nI_add, c_Liveness_isLive hp51 hl (hm _) r4, hb2, c_Routine_put ho2 hp50]
        refine ih (p + 1) _ (by omega) (sv_trans hv sv_puA) (hasR_cong (hasR_pu hB) (mx_s (fun j hj => ?_) (fun q j e => if_neg e)))
        unfold upA drA bitsF
        rw [if_pos rfl, if_pos ⟨c, by rw [e, cz_n (by omega)]; simpa using c2⟩]
        unfold acA
        split
        · rfl
        · split
          · rfl
          · split <;> rfl
    · have hb := bI_f c
      simp (decide := true) (disch := first | assumption | omega) only [zi_Passes_drop_8, zi_Passes_drop_9, zi_Passes_drop_12, zi_Passes_drop_15, zi_Passes_drop_16, zi_Passes_drop_19, zi_Passes_drop_20, zi_Passes_drop_21, zi_Passes_drop_24, zi_Passes_drop_27, zi_Passes_drop_28, zi_Passes_drop_31, zi_Passes_drop_32, zi_Passes_drop_33, zi_Passes_drop_34, zi_Passes_drop_35, zi_Passes_drop_38, zi_Passes_drop_39, zi_Passes_drop_40, zi_Passes_drop_43, zi_Passes_drop_46, zi_Passes_drop_47, zi_Passes_drop_48, zi_Passes_drop_49, zi_Passes_drop_50, zi_Passes_drop_51, zi_Passes_drop_52, zi_Passes_drop_55, zi_Passes_drop_58, ↓reduceIte, mj_op_s, Option.toList_some, Option.toList_none, List.cons_append, List.nil_append, hp_1, hp_2, true_and, and_true, zb_0, zb_1, zb_b, va_rf, io_rt, ↓ogf_rt_0, ↓ogf_rt_1, ↓ogf_rt_2, ↓ogf_rt_3, ↓ogf_rt_4, ↓oai_rt_0, ↓oai_rt_1, ↓oai_rt_2, ↓oai_rt_3, ↓owi_rt_0, ↓owi_rt_1, ↓owi_rt_2, ↓owi_rt_3, ↓opf_rt, io_210, ↓ogf_210_0, io_212, ↓ogf_212_0, ↓ogf_212_1, ↓ogf_212_2, ↓ogf_212_3, ↓ogf_212_4, ↓ogf_212_5, r0, e1, q1, c_isDroppable, hb, nI_add]
      refine ih (p + 1) M' (by omega) hv (hasR_cong hB (mx_s (fun j _ => ?_) (fun q j _ => rfl)))
      rw [mx_p]
      unfold drA
      rw [if_neg (fun z => c z.1)]
theorem c_Passes_drop (ho : isRt o) (ho2 : isRt o2) (hne : o + 4 < o2 ∨ o2 + 4 < o) (hR : hasR M o len A) (hok : okR len A) {m : Nat → Nat} (hm : ∀ q, m q < 256) (hq : ∀ q, q < 51 → rI M 211 q = nI (m q)) (hend : ∀ M', sv (rtP o2) M M' → hasR M' o2 len (drA A (bitsF m)) → Q none (hp M')) : mj_V (d + 3) lim mq_Passes_drop 0 [.ref 212, .ref o, .ref o2, mj_j] [] (hp M) Q := by
  simp (disch := first | assumption | omega) only [zi_Passes_drop_0, zi_Passes_drop_1, zi_Passes_drop_2, zi_Passes_drop_5, zi_Passes_drop_6, ↓reduceIte, mj_op_s, Option.toList_some, Option.toList_none, List.cons_append, List.nil_append, hp_1, hp_2, true_and, and_true, zb_0, zb_1, zb_b, va_rf, io_rt, ↓ogf_rt_0, ↓ogf_rt_1, ↓ogf_rt_2, ↓ogf_rt_3, ↓ogf_rt_4, ↓oai_rt_0, ↓oai_rt_1, ↓oai_rt_2, ↓oai_rt_3, ↓owi_rt_0, ↓owi_rt_1, ↓owi_rt_2, ↓owi_rt_3, ↓opf_rt, c_Routine_copyFrom ho2 ho hne hok.1 hR.1]
  obtain ⟨h1, h2⟩ := hasR_cp hne hR
  exact l_drop ho ho2 hne hR hok hm hq hend len 0 _ (by omega) h2 (by rw [mx_0]; exact h1)
theorem l_thread (ho : isRt o) (ho2 : isRt o2) (hne : o + 4 < o2 ∨ o2 + 4 < o) (hR : hasR M o len A) (hok : okR len A) (hq : ∀ k, k ≤ len → rI M 214 k = nI (ldR len A k).1) (hend : ∀ M', sv (rtP o2) M M' → hasR M' o2 len (thA len A) → Q none (hp M')) : ∀ (n p : Nat) (M' : mm), p + n = len → sv (rtP o2) M M' → hasR M' o2 len (mxA (thA len A) A p) → mj_V (d + 3) lim mq_Passes_thread 7 [.ref 212, .ref o, .ref o2, .int (nI p)] [] (hp M') Q := by
  have h50 := hok.1
  intro n
  induction n with
  | zero =>
    intro p M' hn hv hB
    obtain rfl : p = len := by omega
    have r0 := (sv_hasR hv (rt_rt hne) hR).1
    have e1 : ¬ nI p < nI p := nI_nlt (by omega) (by omega)
    rw [zi_Passes_thread_7]
    simp (disch := first | assumption | omega) only [zi_Passes_thread_8, zi_Passes_thread_9, zi_Passes_thread_12, zi_Passes_thread_52, ↓reduceIte, mj_op_s, Option.toList_some, Option.toList_none, List.cons_append, List.nil_append, hp_1, hp_2, true_and, and_true, zb_0, zb_1, zb_b, va_rf, io_rt, ↓ogf_rt_0, ↓ogf_rt_1, ↓ogf_rt_2, ↓ogf_rt_3, ↓ogf_rt_4, ↓oai_rt_0, ↓oai_rt_1, ↓oai_rt_2, ↓oai_rt_3, ↓owi_rt_0, ↓owi_rt_1, ↓owi_rt_2, ↓owi_rt_3, ↓opf_rt, r0, e1]
    exact hend M' hv (mx_e hB)
  | succ n ih =>
    intro p M' hn hv hB
    have hR' := sv_hasR hv (rt_rt hne) hR
    have r0 := hR'.1
    have hp50 : p < 50 := by omega
    have hpl : p < len := by omega
    have e1 : nI p < nI len := nI_lt (by omega) (by omega)
    obtain ⟨q1, q2, q3, q4⟩ := hR'.2 p hpl
    have htg := tgP_le (len := len) (A := A) (p := p)
    have ht51 : tgP len A p < 51 := by omega
    have r4 : rI M' 214 (tgP len A p) = nI (ldR len A (tgP len A p)).1 := (sv_I hv (rt_sd ho2 _ _ (by omega) (by omega))).trans (hq _ htg)
    rw [zi_Passes_thread_7]
    cases hj : jyP A p with
    | true =>
      have hpl2 := plF_tg hok hpl hj
      simp (decide := true) (disch := first | assumption | omega) only [zi_Passes_thread_8, zi_Passes_thread_9, zi_Passes_thread_12, zi_Passes_thread_15, zi_Passes_thread_16, zi_Passes_thread_19, zi_Passes_thread_20, zi_Passes_thread_21, zi_Passes_thread_24, zi_Passes_thread_27, zi_Passes_thread_28, zi_Passes_thread_31, zi_Passes_thread_32, zi_Passes_thread_33, zi_Passes_thread_36, zi_Passes_thread_39, zi_Passes_thread_40, zi_Passes_thread_41, zi_Passes_thread_44, zi_Passes_thread_45, zi_Passes_thread_46, zi_Passes_thread_49, ↓reduceIte, mj_op_s, Option.toList_some, Option.toList_none, List.cons_append, List.nil_append, hp_1, hp_2, true_and, and_true, zb_0, zb_1, zb_b, va_rf, io_rt, ↓ogf_rt_0, ↓ogf_rt_1, ↓ogf_rt_2, ↓ogf_rt_3, ↓ogf_rt_4, ↓oai_rt_0, ↓oai_rt_1, ↓oai_rt_2, ↓oai_rt_3, ↓owi_rt_0, ↓owi_rt_1, ↓owi_rt_2, ↓owi_rt_3, ↓opf_rt, io_212, ↓ogf_212_0, ↓ogf_212_1, ↓ogf_212_2, ↓ogf_212_3, ↓ogf_212_4, ↓ogf_212_5, io_213, ↓ogf_213_0, ↓ogf_213_1, ↓oai_214, ↓owi_214, r0, e1, q1, q3, g_jy, hj, b1_t, c_Routine_target ho hp50, hpl2, r4, nI_add]
      refine ih (p + 1) _ (by omega) (sv_wI hv (by unfold rtP; omega)) ?_
      refine ⟨by rw [rI_wI, if_neg (by omega)]; exact hB.1, fun q hq => ?_⟩
      obtain ⟨a1, a2, a3, a4⟩ := hB.2 q hq
      have hx := mx_s (len := len) (B := thA len A) (A := A) (p := p) (X := fun q j => if q = p then thA len A p j else mxA (thA len A) A p q j) (fun j _ => if_pos rfl) (fun q j e => if_neg e) q hq
      rw [← hx 0 (by omega), ← hx 1 (by omega), ← hx 2 (by omega), ← hx 3 (by omega)]
      refine ⟨?_, ?_, ?_, ?_⟩
      · rw [rI_wI, if_neg (by omega), a1]
        by_cases e : q = p
        · subst e; rw [if_pos rfl, mx_p]; unfold thA; rw [if_neg (by omega)]
        · rw [if_neg e]
      · rw [rI_wI, if_neg (by omega), a2]
        by_cases e : q = p
        · subst e; rw [if_pos rfl, mx_p]; unfold thA; rw [if_neg (by omega)]
        · rw [if_neg e]
      · rw [rI_wI]
        by_cases e : q = p
        · subst e; rw [if_pos ⟨rfl, rfl⟩, if_pos rfl]; unfold thA; rw [if_pos ⟨hj, rfl⟩]
        · rw [if_neg (fun z => e z.2), if_neg e]; exact a3
      · rw [rI_wI, if_neg (by omega), a4]
        by_cases e : q = p
        · subst e; rw [if_pos rfl, mx_p]; unfold thA; rw [if_neg (by omega)]
        · rw [if_neg e]
    | false =>
      simp (decide := true) (disch := first | assumption | omega) only [zi_Passes_thread_8, zi_Passes_thread_9, zi_Passes_thread_12, zi_Passes_thread_15, zi_Passes_thread_16, zi_Passes_thread_19, zi_Passes_thread_20, zi_Passes_thread_21, zi_Passes_thread_24, zi_Passes_thread_27, zi_Passes_thread_28, zi_Passes_thread_31, zi_Passes_thread_32, zi_Passes_thread_33, zi_Passes_thread_36, zi_Passes_thread_39, zi_Passes_thread_40, zi_Passes_thread_41, zi_Passes_thread_44, zi_Passes_thread_45, zi_Passes_thread_46, zi_Passes_thread_49, ↓reduceIte, mj_op_s, Option.toList_some, Option.toList_none, List.cons_append, List.nil_append, hp_1, hp_2, true_and, and_true, zb_0, zb_1, zb_b, va_rf, io_rt, ↓ogf_rt_0, ↓ogf_rt_1, ↓ogf_rt_2, ↓ogf_rt_3, ↓ogf_rt_4, ↓oai_rt_0, ↓oai_rt_1, ↓oai_rt_2, ↓oai_rt_3, ↓owi_rt_0, ↓owi_rt_1, ↓owi_rt_2, ↓owi_rt_3, ↓opf_rt, io_212, ↓ogf_212_0, ↓ogf_212_1, ↓ogf_212_2, ↓ogf_212_3, ↓ogf_212_4, ↓ogf_212_5, r0, e1, q1, g_jy, hj, b1_f, nI_add]
      refine ih (p + 1) M' (by omega) hv (hasR_cong hB (mx_s (fun j _ => ?_) (fun q j _ => rfl)))
      rw [mx_p]
      unfold thA
      rw [if_neg (fun z => by rw [hj] at z; cases z.1)]
theorem c_Passes_thread (ho : isRt o) (ho2 : isRt o2) (hne : o + 4 < o2 ∨ o2 + 4 < o) (hR : hasR M o len A) (hok : okR len A) (hq : ∀ k, k ≤ len → rI M 214 k = nI (ldR len A k).1) (hend : ∀ M', sv (rtP o2) M M' → hasR M' o2 len (thA len A) → Q none (hp M')) : mj_V (d + 3) lim mq_Passes_thread 0 [.ref 212, .ref o, .ref o2, mj_j] [] (hp M) Q := by
  simp (disch := first | assumption | omega) only [zi_Passes_thread_0, zi_Passes_thread_1, zi_Passes_thread_2, zi_Passes_thread_5, zi_Passes_thread_6, ↓reduceIte, mj_op_s, Option.toList_some, Option.toList_none, List.cons_append, List.nil_append, hp_1, hp_2, true_and, and_true, zb_0, zb_1, zb_b, va_rf, io_rt, ↓ogf_rt_0, ↓ogf_rt_1, ↓ogf_rt_2, ↓ogf_rt_3, ↓ogf_rt_4, ↓oai_rt_0, ↓oai_rt_1, ↓oai_rt_2, ↓oai_rt_3, ↓owi_rt_0, ↓owi_rt_1, ↓owi_rt_2, ↓owi_rt_3, ↓opf_rt, c_Routine_copyFrom ho2 ho hne hok.1 hR.1]
  obtain ⟨h1, h2⟩ := hasR_cp hne hR
  exact l_thread ho ho2 hne hR hok hq hend len 0 _ (by omega) h2 (by rw [mx_0]; exact h1)
theorem l_pack (ho : isRt o) (ho2 : isRt o2) (hne : o + 4 < o2 ∨ o2 + 4 < o) (hR : hasR M o len A) (hok : okR len A) (hq : ∀ k, k ≤ len → rI M 216 k = nI (psN A k)) (hend : ∀ M', sv (rtP o2) M M' → hasR M' o2 (pkN A len) (pkA len A len) → Q none (hp M')) : ∀ (n p : Nat) (M' : mm) (x4 x5 : Value), p + n = len → sv (rtP o2) M M' → hasR M' o2 (pkN A p) (pkA len A p) → mj_V (d + 3) lim mq_Passes_pack 7 [.ref 212, .ref o, .ref o2, .int (nI p), x4, x5] [] (hp M') Q := by
  have h50 := hok.1
  intro n
  induction n with
  | zero =>
    intro p M' x4 x5 hn hv hB
    obtain rfl : p = len := by omega
    have r0 := (sv_hasR hv (rt_rt hne) hR).1
    have e1 : ¬ nI p < nI p := nI_nlt (by omega) (by omega)
    rw [zi_Passes_pack_7]
    simp (disch := first | assumption | omega) only [zi_Passes_pack_8, zi_Passes_pack_9, zi_Passes_pack_12, zi_Passes_pack_83, ↓reduceIte, mj_op_s, Option.toList_some, Option.toList_none, List.cons_append, List.nil_append, hp_1, hp_2, true_and, and_true, zb_0, zb_1, zb_b, va_rf, io_rt, ↓ogf_rt_0, ↓ogf_rt_1, ↓ogf_rt_2, ↓ogf_rt_3, ↓ogf_rt_4, ↓oai_rt_0, ↓oai_rt_1, ↓oai_rt_2, ↓oai_rt_3, ↓owi_rt_0, ↓owi_rt_1, ↓owi_rt_2, ↓owi_rt_3, ↓opf_rt, r0, e1]
    exact hend M' hv hB
  | succ n ih =>
    intro p M' x4 x5 hn hv hB
    have hR' := sv_hasR hv (rt_rt hne) hR
    have r0 := hR'.1
    have hp50 : p < 50 := by omega
    have hpl : p < len := by omega
    have e1 : nI p < nI len := nI_lt (by omega) (by omega)
    obtain ⟨q1, q2, q3, q4⟩ := hR'.2 p hpl
    have htg := tgP_le (len := len) (A := A) (p := p)
    have ht51 : tgP len A p < 51 := by omega
    have r4 : rI M' 216 (tgP len A p) = nI (psN A (tgP len A p)) := (sv_I hv (rt_sd ho2 _ _ (by omega) (by omega))).trans (hq _ htg)
    rw [zi_Passes_pack_7]
    by_cases c0 : A p 0 = nI 0
    · have ek : pkN A (p + 1) = pkN A p := by
        unfold pkN
        rw [ct]
        rw [decide_eq_false (fun z => z c0)]
        simp
      have eA : pkA len A (p + 1) = pkA len A p := if_pos c0
      rw [c0] at q1
      simp (decide := true) (disch := first | assumption | omega) only [zi_Passes_pack_8, zi_Passes_pack_9, zi_Passes_pack_12, zi_Passes_pack_15, zi_Passes_pack_16, zi_Passes_pack_19, zi_Passes_pack_20, zi_Passes_pack_21, zi_Passes_pack_23, zi_Passes_pack_25, zi_Passes_pack_77, zi_Passes_pack_80, ↓reduceIte, mj_op_s, Option.toList_some, Option.toList_none, List.cons_append, List.nil_append, hp_1, hp_2, true_and, and_true, zb_0, zb_1, zb_b, va_rf, io_rt, ↓ogf_rt_0, ↓ogf_rt_1, ↓ogf_rt_2, ↓ogf_rt_3, ↓ogf_rt_4, ↓oai_rt_0, ↓oai_rt_1, ↓oai_rt_2, ↓oai_rt_3, ↓owi_rt_0, ↓owi_rt_1, ↓owi_rt_2, ↓owi_rt_3, ↓opf_rt, r0, e1, q1, nI_add]
      exact ih (p + 1) M' _ _ (by omega) hv (by rw [ek, eA]; exact hB)
    · have ek : pkN A (p + 1) = pkN A p + 1 := by
        unfold pkN
        rw [ct]
        rw [decide_eq_true c0]
        simp
      have hk : pkN A p ≤ p := by unfold pkN; exact ct_le _ _
      have hk50 : pkN A p < 50 := by omega
      have eA : pkA len A (p + 1) = upA (pkA len A p) (pkN A p) (A p 0) (A p 1) (if jyP A p = true then nI (pkN A (tgP len A p)) else A p 2) (A p 3) := if_neg c0
      have hfin : ∀ y, (y = if jyP A p = true then nI (pkN A (tgP len A p)) else A p 2) → hasR (puA (wI M' o2 4 (nI (pkN A p + 1))) o2 (pkN A p) (A p 0) (A p 1) y (A p 3)) o2 (pkN A (p + 1)) (pkA len A (p + 1)) := by
        intro y hy
        rw [ek, eA, ← hy]
        refine ⟨(puA_o (by omega)).trans (by rw [rI_wI, if_pos ⟨rfl, rfl⟩]), fun q hq => ?_⟩
        unfold upA
        by_cases e : q = pkN A p
        · subst e
          simp only [if_true]
          exact puA_1
        · simp only [if_neg e]
          obtain ⟨a1, a2, a3, a4⟩ := hB.2 q (by omega)
          exact ⟨(puA_o (by omega)).trans (by rw [rI_wI, if_neg (by omega)]; exact a1), (puA_o (by omega)).trans (by rw [rI_wI, if_neg (by omega)]; exact a2), (puA_o (by omega)).trans (by rw [rI_wI, if_neg (by omega)]; exact a3), (puA_o (by omega)).trans (by rw [rI_wI, if_neg (by omega)]; exact a4)⟩
      have hv2 : ∀ y, sv (rtP o2) M (puA (wI M' o2 4 (nI (pkN A p + 1))) o2 (pkN A p) (A p 0) (A p 1) y (A p 3)) := fun y => sv_trans (sv_wI hv (by unfold rtP; omega)) sv_puA
      cases hj : jyP A p with
      | true =>
        have hpl2 := plF_tg hok hpl hj
        simp (decide := true) (disch := first | assumption | omega) only [zi_Passes_pack_8, zi_Passes_pack_9, zi_Passes_pack_12, zi_Passes_pack_15, zi_Passes_pack_16, zi_Passes_pack_19, zi_Passes_pack_20, zi_Passes_pack_21, zi_Passes_pack_23, zi_Passes_pack_25, zi_Passes_pack_28, zi_Passes_pack_30, zi_Passes_pack_33, zi_Passes_pack_36, zi_Passes_pack_37, zi_Passes_pack_38, zi_Passes_pack_39, zi_Passes_pack_42, zi_Passes_pack_45, zi_Passes_pack_48, zi_Passes_pack_49, zi_Passes_pack_52, zi_Passes_pack_53, zi_Passes_pack_54, zi_Passes_pack_56, zi_Passes_pack_57, zi_Passes_pack_59, zi_Passes_pack_60, zi_Passes_pack_63, zi_Passes_pack_64, zi_Passes_pack_65, zi_Passes_pack_67, zi_Passes_pack_68, zi_Passes_pack_71, zi_Passes_pack_72, zi_Passes_pack_73, zi_Passes_pack_76, zi_Passes_pack_77, zi_Passes_pack_80, ↓reduceIte, mj_op_s, Option.toList_some, Option.toList_none, List.cons_append, List.nil_append, hp_1, hp_2, true_and, and_true, zb_0, zb_1, zb_b, va_rf, io_rt, ↓ogf_rt_0, ↓ogf_rt_1, ↓ogf_rt_2, ↓ogf_rt_3, ↓ogf_rt_4, ↓oai_rt_0, ↓oai_rt_1, ↓oai_rt_2, ↓oai_rt_3, ↓owi_rt_0, ↓owi_rt_1, ↓owi_rt_2, ↓owi_rt_3, ↓opf_rt, io_212, ↓ogf_212_0, ↓ogf_212_1, ↓ogf_212_2, ↓ogf_212_3, ↓ogf_212_4, ↓ogf_212_5, r0, e1, q1, q2, q3, q4, c0, g_jy, hj, b1_t, c_Routine_target ho hp50, hpl2, c_Passes_packedPlace ht51 r4, c_Routine_append ho2 hk50 hB.1, nI_add]
        exact ih (p + 1) _ _ _ (by omega) (hv2 _) (hfin _ (by rw [hj]; rfl))
      | false =>
        simp (decide := true) (disch := first | assumption | omega) only [zi_Passes_pack_8, zi_Passes_pack_9, zi_Passes_pack_12, zi_Passes_pack_15, zi_Passes_pack_16, zi_Passes_pack_19, zi_Passes_pack_20, zi_Passes_pack_21, zi_Passes_pack_23, zi_Passes_pack_25, zi_Passes_pack_28, zi_Passes_pack_30, zi_Passes_pack_33, zi_Passes_pack_36, zi_Passes_pack_37, zi_Passes_pack_38, zi_Passes_pack_39, zi_Passes_pack_42, zi_Passes_pack_45, zi_Passes_pack_48, zi_Passes_pack_49, zi_Passes_pack_52, zi_Passes_pack_53, zi_Passes_pack_54, zi_Passes_pack_56, zi_Passes_pack_57, zi_Passes_pack_59, zi_Passes_pack_60, zi_Passes_pack_63, zi_Passes_pack_64, zi_Passes_pack_65, zi_Passes_pack_67, zi_Passes_pack_68, zi_Passes_pack_71, zi_Passes_pack_72, zi_Passes_pack_73, zi_Passes_pack_76, zi_Passes_pack_77, zi_Passes_pack_80, ↓reduceIte, mj_op_s, Option.toList_some, Option.toList_none, List.cons_append, List.nil_append, hp_1, hp_2, true_and, and_true, zb_0, zb_1, zb_b, va_rf, io_rt, ↓ogf_rt_0, ↓ogf_rt_1, ↓ogf_rt_2, ↓ogf_rt_3, ↓ogf_rt_4, ↓oai_rt_0, ↓oai_rt_1, ↓oai_rt_2, ↓oai_rt_3, ↓owi_rt_0, ↓owi_rt_1, ↓owi_rt_2, ↓owi_rt_3, ↓opf_rt, io_212, ↓ogf_212_0, ↓ogf_212_1, ↓ogf_212_2, ↓ogf_212_3, ↓ogf_212_4, ↓ogf_212_5, r0, e1, q1, q2, q3, q4, c0, g_jy, hj, b1_f, c_Routine_append ho2 hk50 hB.1, nI_add]
        exact ih (p + 1) _ _ _ (by omega) (hv2 _) (hfin _ (by rw [hj]; simp))
theorem c_Passes_pack (ho : isRt o) (ho2 : isRt o2) (hne : o + 4 < o2 ∨ o2 + 4 < o) (hR : hasR M o len A) (hok : okR len A) (hq : ∀ k, k ≤ len → rI M 216 k = nI (psN A k)) (hend : ∀ M', sv (rtP o2) M M' → hasR M' o2 (pkN A len) (pkA len A len) → Q none (hp M')) : mj_V (d + 3) lim mq_Passes_pack 0 [.ref 212, .ref o, .ref o2, mj_j, mj_j, mj_j] [] (hp M) Q := by
  simp (disch := first | assumption | omega) only [zi_Passes_pack_0, zi_Passes_pack_1, zi_Passes_pack_2, zi_Passes_pack_5, zi_Passes_pack_6, ↓reduceIte, mj_op_s, Option.toList_some, Option.toList_none, List.cons_append, List.nil_append, hp_1, hp_2, true_and, and_true, zb_0, zb_1, zb_b, va_rf, io_rt, ↓ogf_rt_0, ↓ogf_rt_1, ↓ogf_rt_2, ↓ogf_rt_3, ↓ogf_rt_4, ↓oai_rt_0, ↓oai_rt_1, ↓oai_rt_2, ↓oai_rt_3, ↓owi_rt_0, ↓owi_rt_1, ↓owi_rt_2, ↓owi_rt_3, ↓opf_rt]
  refine l_pack ho ho2 hne hR hok hq hend len 0 _ _ _ (by omega) (sv_wI sv_refl (by unfold rtP; omega)) ⟨by rw [rI_wI, if_pos ⟨rfl, rfl⟩]; rfl, fun q hq => ?_⟩
  have : q < 0 := hq
  omega
end C81
