/-! class: study, make, testify; what passes make is well formed -/
section C83
variable {d : Nat} {lim : Nat × Nat} {Q : mj_Q} {M M' : mm} {o o2 len p q j r n w : Nat} {A B : AA} {C : Nat → Bool} {F : KF} {S : Nat → Nat → Bool} {W : WS} {x : WR}
theorem c_Passes_study (ho : isRt o) (hR : hasR M o len A) (hok : okR len A) (hw : w < 4) (hend : ∀ M', sv sdP M M' → stC w len A M' → Q none (hp M')) : mj_V (d + 4) lim mq_Passes_study 0 [.ref 212, .ref o, .int (nI w)] [] (hp M) Q := by
  have h4 : w = 0 ∨ w = 1 ∨ w = 2 ∨ w = 3 := by omega
  rcases h4 with rfl | rfl | rfl | rfl
  · simp (decide := true) (disch := first | assumption | omega) only [zi_Passes_study_0, zi_Passes_study_1, zi_Passes_study_28, zi_Passes_study_29, zi_Passes_study_32, zi_Passes_study_33, ↓reduceIte, mj_op_s, Option.toList_some, Option.toList_none, List.cons_append, List.nil_append, hp_1, hp_2, true_and, and_true, zb_0, zb_1, zb_b, va_rf, io_203, ↓ogf_203_0, ↓ogf_203_1, ↓ogf_203_2, ↓ogf_203_3, ↓ogf_203_4, ↓opf_203_4_0, ↓opf_203_4_1, ↓ogf_203_5, ↓ogf_203_6, io_212, ↓ogf_212_0, ↓ogf_212_1, ↓ogf_212_2, ↓ogf_212_3, ↓ogf_212_4, ↓ogf_212_5]
    refine c_Knowledge_study ho hR hok (fun M1 s kb nb hs hL => ?_)
    simp (decide := true) (disch := first | assumption | omega) only [zi_Passes_study_36, zi_Passes_study_39, zi_Passes_study_40, zi_Passes_study_43, zi_Passes_study_44, zi_Passes_study_47, zi_Passes_study_50, zi_Passes_study_51, zi_Passes_study_54, zi_Passes_study_55, zi_Passes_study_58, zi_Passes_study_61, zi_Passes_study_62, zi_Passes_study_63, zi_Passes_study_66, ↓reduceIte, mj_op_s, Option.toList_some, Option.toList_none, List.cons_append, List.nil_append, hp_1, hp_2, true_and, and_true, zb_0, zb_1, zb_b, va_rf]
    refine hend _ (sv_mono (sv_sm (sm_kn hs)) (fun i k h => by unfold knP at h; unfold sdP; omega)) ?_
    exact ⟨s.1, s.2.1, hL, fun p hp0 => kn_4 hp0, kn_kR⟩
  · simp (decide := true) (disch := first | assumption | omega) only [zi_Passes_study_0, zi_Passes_study_1, zi_Passes_study_28, zi_Passes_study_29, zi_Passes_study_32, zi_Passes_study_33, zi_Passes_study_36, zi_Passes_study_39, zi_Passes_study_40, zi_Passes_study_43, zi_Passes_study_44, ↓reduceIte, mj_op_s, Option.toList_some, Option.toList_none, List.cons_append, List.nil_append, hp_1, hp_2, true_and, and_true, zb_0, zb_1, zb_b, va_rf, io_210, ↓ogf_210_0, io_212, ↓ogf_212_0, ↓ogf_212_1, ↓ogf_212_2, ↓ogf_212_3, ↓ogf_212_4, ↓ogf_212_5]
    refine c_Liveness_study ho hR hok (fun m hm hL => ?_)
    simp (decide := true) (disch := first | assumption | omega) only [zi_Passes_study_47, zi_Passes_study_50, zi_Passes_study_51, zi_Passes_study_54, zi_Passes_study_55, zi_Passes_study_58, zi_Passes_study_61, zi_Passes_study_62, zi_Passes_study_63, zi_Passes_study_66, ↓reduceIte, mj_op_s, Option.toList_some, Option.toList_none, List.cons_append, List.nil_append, hp_1, hp_2, true_and, and_true, zb_0, zb_1, zb_b, va_rf]
    refine hend _ ⟨fun i k hi => ⟨?_, rfl, rfl⟩, rfl⟩ ?_
    · exact mk_Io (fun e => hi (by unfold sdP; omega))
    · exact ⟨m, hm, hL, fun q hq => by rw [mk_I, if_pos ⟨rfl, hq⟩]⟩
  · simp (decide := true) (disch := first | assumption | omega) only [zi_Passes_study_0, zi_Passes_study_1, zi_Passes_study_28, zi_Passes_study_29, zi_Passes_study_32, zi_Passes_study_33, zi_Passes_study_36, zi_Passes_study_39, zi_Passes_study_40, zi_Passes_study_43, zi_Passes_study_44, zi_Passes_study_47, zi_Passes_study_50, zi_Passes_study_51, zi_Passes_study_54, zi_Passes_study_55, ↓reduceIte, mj_op_s, Option.toList_some, Option.toList_none, List.cons_append, List.nil_append, hp_1, hp_2, true_and, and_true, zb_0, zb_1, zb_b, va_rf, io_213, ↓ogf_213_0, ↓ogf_213_1, io_212, ↓ogf_212_0, ↓ogf_212_1, ↓ogf_212_2, ↓ogf_212_3, ↓ogf_212_4, ↓ogf_212_5]
    refine c_Leads_study ho hR hok (fun M1 hs hL => ?_)
    simp (decide := true) (disch := first | assumption | omega) only [zi_Passes_study_58, zi_Passes_study_61, zi_Passes_study_62, zi_Passes_study_63, zi_Passes_study_66, ↓reduceIte, mj_op_s, Option.toList_some, Option.toList_none, List.cons_append, List.nil_append, hp_1, hp_2, true_and, and_true, zb_0, zb_1, zb_b, va_rf]
    exact hend _ (sv_mono (sv_sm hs) (fun i k h => by unfold ldP at h; unfold sdP; omega)) hL
  · simp (decide := true) (disch := first | assumption | omega) only [zi_Passes_study_0, zi_Passes_study_1, zi_Passes_study_28, zi_Passes_study_29, zi_Passes_study_32, zi_Passes_study_33, zi_Passes_study_36, zi_Passes_study_39, zi_Passes_study_40, zi_Passes_study_43, zi_Passes_study_44, zi_Passes_study_47, zi_Passes_study_50, zi_Passes_study_51, zi_Passes_study_54, zi_Passes_study_55, zi_Passes_study_58, zi_Passes_study_61, zi_Passes_study_62, zi_Passes_study_63, ↓reduceIte, mj_op_s, Option.toList_some, Option.toList_none, List.cons_append, List.nil_append, hp_1, hp_2, true_and, and_true, zb_0, zb_1, zb_b, va_rf, io_212, ↓ogf_212_0, ↓ogf_212_1, ↓ogf_212_2, ↓ogf_212_3, ↓ogf_212_4, ↓ogf_212_5]
    refine c_Passes_countPasses ho hR hok.1 (fun M1 hs hL => ?_)
    simp (decide := true) (disch := first | assumption | omega) only [zi_Passes_study_66, ↓reduceIte, mj_op_s, Option.toList_some, Option.toList_none, List.cons_append, List.nil_append, hp_1, hp_2, true_and, and_true, zb_0, zb_1, zb_b, va_rf]
    exact hend _ (sv_mono (sv_sm hs) (fun i k h => by unfold sdP; omega)) hL
theorem c_Passes_make (ho : isRt o) (ho2 : isRt o2) (hne : o + 4 < o2 ∨ o2 + 4 < o) (hR : hasR M o len A) (hok : okR len A) (hw : w < 4) (hs : stC w len A M) (hend : ∀ M', sv (rtP o2) M M' → hasR M' o2 (psA w len A).1 (psA w len A).2 → Q none (hp M')) : mj_V (d + 4) lim mq_Passes_make 0 [.ref 212, .ref o, .ref o2, .int (nI w)] [] (hp M) Q := by
  have h4 : w = 0 ∨ w = 1 ∨ w = 2 ∨ w = 3 := by omega
  rcases h4 with rfl | rfl | rfl | rfl
  · obtain ⟨C, F, h1, h2, h3⟩ : ∃ C F, knL len A C F ∧ (∀ p, p < 51 → rI M 204 p = b1 (C p)) ∧ kR M F := hs
    simp (decide := true) (disch := first | assumption | omega) only [zi_Passes_make_0, zi_Passes_make_1, zi_Passes_make_28, zi_Passes_make_29, zi_Passes_make_30, zi_Passes_make_31, ↓reduceIte, mj_op_s, Option.toList_some, Option.toList_none, List.cons_append, List.nil_append, hp_1, hp_2, true_and, and_true, zb_0, zb_1, zb_b, va_rf, io_212, ↓ogf_212_0, ↓ogf_212_1, ↓ogf_212_2, ↓ogf_212_3, ↓ogf_212_4, ↓ogf_212_5]
    refine c_Passes_fold ho ho2 hne hR hok h3 h2 (fun M1 hv h => ?_)
    simp (decide := true) (disch := first | assumption | omega) only [zi_Passes_make_34, zi_Passes_make_37, zi_Passes_make_38, zi_Passes_make_39, zi_Passes_make_40, zi_Passes_make_43, zi_Passes_make_46, zi_Passes_make_47, zi_Passes_make_48, zi_Passes_make_49, zi_Passes_make_52, zi_Passes_make_55, zi_Passes_make_56, zi_Passes_make_57, zi_Passes_make_58, zi_Passes_make_61, ↓reduceIte, mj_op_s, Option.toList_some, Option.toList_none, List.cons_append, List.nil_append, hp_1, hp_2, true_and, and_true, zb_0, zb_1, zb_b, va_rf]
    exact hend _ hv (hasR_cong h (fun q hq j _ => fdA_one hok h1 hq))
  · obtain ⟨m, h1, h2, h3⟩ : ∃ m : Nat → Nat, (∀ q, m q < 256) ∧ lvL len A (bitsF m) ∧ ∀ q, q < 51 → rI M 211 q = nI (m q) := hs
    simp (decide := true) (disch := first | assumption | omega) only [zi_Passes_make_0, zi_Passes_make_1, zi_Passes_make_28, zi_Passes_make_29, zi_Passes_make_30, zi_Passes_make_31, zi_Passes_make_34, zi_Passes_make_37, zi_Passes_make_38, zi_Passes_make_39, zi_Passes_make_40, ↓reduceIte, mj_op_s, Option.toList_some, Option.toList_none, List.cons_append, List.nil_append, hp_1, hp_2, true_and, and_true, zb_0, zb_1, zb_b, va_rf, io_212, ↓ogf_212_0, ↓ogf_212_1, ↓ogf_212_2, ↓ogf_212_3, ↓ogf_212_4, ↓ogf_212_5]
    refine c_Passes_drop ho ho2 hne hR hok h1 h3 (fun M1 hv h => ?_)
    simp (decide := true) (disch := first | assumption | omega) only [zi_Passes_make_43, zi_Passes_make_46, zi_Passes_make_47, zi_Passes_make_48, zi_Passes_make_49, zi_Passes_make_52, zi_Passes_make_55, zi_Passes_make_56, zi_Passes_make_57, zi_Passes_make_58, zi_Passes_make_61, ↓reduceIte, mj_op_s, Option.toList_some, Option.toList_none, List.cons_append, List.nil_append, hp_1, hp_2, true_and, and_true, zb_0, zb_1, zb_b, va_rf]
    exact hend _ hv (hasR_cong h (fun q hq j _ => drA_one hok h2 hq))
  · have h1 : ∀ k, k ≤ len → rI M 214 k = nI (ldR len A k).1 ∧ rI M 215 k = nI (ldR len A k).2 := hs
    simp (decide := true) (disch := first | assumption | omega) only [zi_Passes_make_0, zi_Passes_make_1, zi_Passes_make_28, zi_Passes_make_29, zi_Passes_make_30, zi_Passes_make_31, zi_Passes_make_34, zi_Passes_make_37, zi_Passes_make_38, zi_Passes_make_39, zi_Passes_make_40, zi_Passes_make_43, zi_Passes_make_46, zi_Passes_make_47, zi_Passes_make_48, zi_Passes_make_49, ↓reduceIte, mj_op_s, Option.toList_some, Option.toList_none, List.cons_append, List.nil_append, hp_1, hp_2, true_and, and_true, zb_0, zb_1, zb_b, va_rf, io_212, ↓ogf_212_0, ↓ogf_212_1, ↓ogf_212_2, ↓ogf_212_3, ↓ogf_212_4, ↓ogf_212_5]
    refine c_Passes_thread ho ho2 hne hR hok (fun k hk => (h1 k hk).1) (fun M1 hv h => ?_)
    simp (decide := true) (disch := first | assumption | omega) only [zi_Passes_make_52, zi_Passes_make_55, zi_Passes_make_56, zi_Passes_make_57, zi_Passes_make_58, zi_Passes_make_61, ↓reduceIte, mj_op_s, Option.toList_some, Option.toList_none, List.cons_append, List.nil_append, hp_1, hp_2, true_and, and_true, zb_0, zb_1, zb_b, va_rf]
    exact hend _ hv h
  · have h1 : ∀ k, k ≤ len → rI M 216 k = nI (psN A k) := hs
    simp (decide := true) (disch := first | assumption | omega) only [zi_Passes_make_0, zi_Passes_make_1, zi_Passes_make_28, zi_Passes_make_29, zi_Passes_make_30, zi_Passes_make_31, zi_Passes_make_34, zi_Passes_make_37, zi_Passes_make_38, zi_Passes_make_39, zi_Passes_make_40, zi_Passes_make_43, zi_Passes_make_46, zi_Passes_make_47, zi_Passes_make_48, zi_Passes_make_49, zi_Passes_make_52, zi_Passes_make_55, zi_Passes_make_56, zi_Passes_make_57, zi_Passes_make_58, ↓reduceIte, mj_op_s, Option.toList_some, Option.toList_none, List.cons_append, List.nil_append, hp_1, hp_2, true_and, and_true, zb_0, zb_1, zb_b, va_rf, io_212, ↓ogf_212_0, ↓ogf_212_1, ↓ogf_212_2, ↓ogf_212_3, ↓ogf_212_4, ↓ogf_212_5]
    refine c_Passes_pack ho ho2 hne hR hok h1 (fun M1 hv h => ?_)
    simp (decide := true) (disch := first | assumption | omega) only [zi_Passes_make_61, ↓reduceIte, mj_op_s, Option.toList_some, Option.toList_none, List.cons_append, List.nil_append, hp_1, hp_2, true_and, and_true, zb_0, zb_1, zb_b, va_rf]
    exact hend _ hv h
theorem c_Passes_testify (ho : isRt o) (hR : hasR M o len A) (hok : okR len A) (hw : w < 4) (hs : stC w len A M) (hend : ∀ M', sv wiP M M' → hasW M' (psW w len A) → Q none (hp M')) : mj_V (d + 4) lim mq_Passes_testify 0 [.ref 212, .ref o, .ref 231, .int (nI w)] [] (hp M) Q := by
  have hv0 : sv wiP M (wI M 231 6 (nI 0)) := sv_wI sv_refl (by unfold wiP; omega)
  have hW0 : hasW (wI M 231 6 (nI 0)) w0 := ⟨by rw [rI_wI, if_pos ⟨rfl, rfl⟩]; rfl, fun i hi => by
    have : i < 0 := hi
    omega⟩
  have hR0 := sv_hasR hv0 (wi_rt ho) hR
  replace hs := stC_sv hv0 wi_sd hs
  have h4 : w = 0 ∨ w = 1 ∨ w = 2 ∨ w = 3 := by omega
  rcases h4 with rfl | rfl | rfl | rfl
  · obtain ⟨C, F, h1, h2, h3⟩ : ∃ C F, knL len A C F ∧ (∀ p, p < 51 → rI (wI M 231 6 (nI 0)) 204 p = b1 (C p)) ∧ kR (wI M 231 6 (nI 0)) F := hs
    simp (decide := true) (disch := first | assumption | omega) only [zi_Passes_testify_0, zi_Passes_testify_1, zi_Passes_testify_2, zi_Passes_testify_5, zi_Passes_testify_6, zi_Passes_testify_32, zi_Passes_testify_33, zi_Passes_testify_34, zi_Passes_testify_35, ↓reduceIte, mj_op_s, Option.toList_some, Option.toList_none, List.cons_append, List.nil_append, hp_1, hp_2, true_and, and_true, zb_0, zb_1, zb_b, va_rf, io_212, ↓ogf_212_0, ↓ogf_212_1, ↓ogf_212_2, ↓ogf_212_3, ↓ogf_212_4, ↓ogf_212_5, io_231, ↓ogf_231_0, ↓ogf_231_1, ↓ogf_231_2, ↓ogf_231_3, ↓ogf_231_4, ↓ogf_231_5, ↓ogf_231_6, ↓opf_231_6]
    refine c_testifyFold ho hR0 hok h3 h2 hW0 (fun M1 hv h => ?_)
    simp (decide := true) (disch := first | assumption | omega) only [zi_Passes_testify_38, zi_Passes_testify_41, zi_Passes_testify_42, zi_Passes_testify_43, zi_Passes_testify_44, zi_Passes_testify_47, zi_Passes_testify_50, zi_Passes_testify_51, zi_Passes_testify_52, zi_Passes_testify_53, zi_Passes_testify_56, zi_Passes_testify_59, zi_Passes_testify_60, zi_Passes_testify_61, zi_Passes_testify_62, zi_Passes_testify_65, ↓reduceIte, mj_op_s, Option.toList_some, Option.toList_none, List.cons_append, List.nil_append, hp_1, hp_2, true_and, and_true, zb_0, zb_1, zb_b, va_rf]
    exact hend _ (sv_trans hv0 hv) (by rw [fwW_one h1 _ (Nat.le_refl _)] at h; exact h)
  · obtain ⟨m, h1, h2, h3⟩ : ∃ m : Nat → Nat, (∀ q, m q < 256) ∧ lvL len A (bitsF m) ∧ ∀ q, q < 51 → rI (wI M 231 6 (nI 0)) 211 q = nI (m q) := hs
    simp (decide := true) (disch := first | assumption | omega) only [zi_Passes_testify_0, zi_Passes_testify_1, zi_Passes_testify_2, zi_Passes_testify_5, zi_Passes_testify_6, zi_Passes_testify_32, zi_Passes_testify_33, zi_Passes_testify_34, zi_Passes_testify_35, zi_Passes_testify_38, zi_Passes_testify_41, zi_Passes_testify_42, zi_Passes_testify_43, zi_Passes_testify_44, ↓reduceIte, mj_op_s, Option.toList_some, Option.toList_none, List.cons_append, List.nil_append, hp_1, hp_2, true_and, and_true, zb_0, zb_1, zb_b, va_rf, io_212, ↓ogf_212_0, ↓ogf_212_1, ↓ogf_212_2, ↓ogf_212_3, ↓ogf_212_4, ↓ogf_212_5, io_231, ↓ogf_231_0, ↓ogf_231_1, ↓ogf_231_2, ↓ogf_231_3, ↓ogf_231_4, ↓ogf_231_5, ↓ogf_231_6, ↓opf_231_6]
    refine c_testifyDrop ho hR0 hok h1 h3 hW0 (fun M1 hv h => ?_)
    simp (decide := true) (disch := first | assumption | omega) only [zi_Passes_testify_47, zi_Passes_testify_50, zi_Passes_testify_51, zi_Passes_testify_52, zi_Passes_testify_53, zi_Passes_testify_56, zi_Passes_testify_59, zi_Passes_testify_60, zi_Passes_testify_61, zi_Passes_testify_62, zi_Passes_testify_65, ↓reduceIte, mj_op_s, Option.toList_some, Option.toList_none, List.cons_append, List.nil_append, hp_1, hp_2, true_and, and_true, zb_0, zb_1, zb_b, va_rf]
    exact hend _ (sv_trans hv0 hv) (by rw [dwW_one h2 _ (Nat.le_refl _)] at h; exact h)
  · have h1 : ∀ k, k ≤ len → rI (wI M 231 6 (nI 0)) 214 k = nI (ldR len A k).1 ∧ rI (wI M 231 6 (nI 0)) 215 k = nI (ldR len A k).2 := hs
    simp (decide := true) (disch := first | assumption | omega) only [zi_Passes_testify_0, zi_Passes_testify_1, zi_Passes_testify_2, zi_Passes_testify_5, zi_Passes_testify_6, zi_Passes_testify_32, zi_Passes_testify_33, zi_Passes_testify_34, zi_Passes_testify_35, zi_Passes_testify_38, zi_Passes_testify_41, zi_Passes_testify_42, zi_Passes_testify_43, zi_Passes_testify_44, zi_Passes_testify_47, zi_Passes_testify_50, zi_Passes_testify_51, zi_Passes_testify_52, zi_Passes_testify_53, ↓reduceIte, mj_op_s, Option.toList_some, Option.toList_none, List.cons_append, List.nil_append, hp_1, hp_2, true_and, and_true, zb_0, zb_1, zb_b, va_rf, io_212, ↓ogf_212_0, ↓ogf_212_1, ↓ogf_212_2, ↓ogf_212_3, ↓ogf_212_4, ↓ogf_212_5, io_231, ↓ogf_231_0, ↓ogf_231_1, ↓ogf_231_2, ↓ogf_231_3, ↓ogf_231_4, ↓ogf_231_5, ↓ogf_231_6, ↓opf_231_6]
    refine c_testifyThread ho hR0 hok h1 hW0 (fun M1 hv h => ?_)
    simp (decide := true) (disch := first | assumption | omega) only [zi_Passes_testify_56, zi_Passes_testify_59, zi_Passes_testify_60, zi_Passes_testify_61, zi_Passes_testify_62, zi_Passes_testify_65, ↓reduceIte, mj_op_s, Option.toList_some, Option.toList_none, List.cons_append, List.nil_append, hp_1, hp_2, true_and, and_true, zb_0, zb_1, zb_b, va_rf]
    exact hend _ (sv_trans hv0 hv) h
  · have h1 : ∀ k, k ≤ len → rI (wI M 231 6 (nI 0)) 216 k = nI (psN A k) := hs
    simp (decide := true) (disch := first | assumption | omega) only [zi_Passes_testify_0, zi_Passes_testify_1, zi_Passes_testify_2, zi_Passes_testify_5, zi_Passes_testify_6, zi_Passes_testify_32, zi_Passes_testify_33, zi_Passes_testify_34, zi_Passes_testify_35, zi_Passes_testify_38, zi_Passes_testify_41, zi_Passes_testify_42, zi_Passes_testify_43, zi_Passes_testify_44, zi_Passes_testify_47, zi_Passes_testify_50, zi_Passes_testify_51, zi_Passes_testify_52, zi_Passes_testify_53, zi_Passes_testify_56, zi_Passes_testify_59, zi_Passes_testify_60, zi_Passes_testify_61, zi_Passes_testify_62, ↓reduceIte, mj_op_s, Option.toList_some, Option.toList_none, List.cons_append, List.nil_append, hp_1, hp_2, true_and, and_true, zb_0, zb_1, zb_b, va_rf, io_212, ↓ogf_212_0, ↓ogf_212_1, ↓ogf_212_2, ↓ogf_212_3, ↓ogf_212_4, ↓ogf_212_5, io_231, ↓ogf_231_0, ↓ogf_231_1, ↓ogf_231_2, ↓ogf_231_3, ↓ogf_231_4, ↓ogf_231_5, ↓ogf_231_6, ↓opf_231_6]
    refine c_testifyPack ho hR0 hok h1 hW0 (fun M1 hv h => ?_)
    simp (decide := true) (disch := first | assumption | omega) only [zi_Passes_testify_65, ↓reduceIte, mj_op_s, Option.toList_some, Option.toList_none, List.cons_append, List.nil_append, hp_1, hp_2, true_and, and_true, zb_0, zb_1, zb_b, va_rf]
    exact hend _ (sv_trans hv0 hv) h
/-! well formed -/
theorem isReg_l {l : Nat} (h : l < 8) : isReg (nI l) := ⟨nI_nlt (by omega) (by omega), nI_lt h (by omega)⟩
theorem isPlc_l {l : Nat} (h : l < 51) : isPlc (nI l) := ⟨nI_nlt (by omega) (by omega), nI_lt h (by omega)⟩
theorem okA_set {l : Nat} (h : l < 8) {v : Int32} : okA (nI 1) (nI l) v (nI 0) := Or.inr (Or.inl ⟨rfl, isReg_l h, rfl⟩)
theorem okA_jump {l : Nat} (h : l < 51) : okA (nI 12) (nI 0) (nI l) (nI 0) := Or.inr (Or.inr (Or.inr (Or.inr (Or.inr (Or.inl ⟨rfl, rfl, isPlc_l h, rfl⟩)))))
theorem okA_if {k l : Nat} (hk : k < 8) (h : l < 51) : okA (nI 13) (nI k) (nI l) (nI 0) := Or.inr (Or.inr (Or.inr (Or.inr (Or.inr (Or.inr ⟨rfl, isReg_l hk, isPlc_l h, rfl⟩)))))
theorem okA_0 : okA (nI 0) (nI 0) (nI 0) (nI 0) := Or.inl ⟨Or.inl rfl, rfl, rfl, rfl⟩
theorem okA_jy (hok : okA (A p 0) (A p 1) (A p 2) (A p 3)) (hj : jyP A p = true) {l : Nat} (h : l < 51) : okA (A p 0) (A p 1) (nI l) (A p 3) := by
  have hj : A p 0 = nI 12 ∨ A p 0 = nI 13 := of_decide_eq_true hj
  rcases okA_cases hok with ⟨e, ex, ey, ez⟩ | ⟨e, ex, ey, ez⟩ | ⟨i, hi, e, ex, ez⟩ | ⟨i, j, hi, hj2, e, ex, ey, ez⟩ | ⟨i, j, hi, hj2, e, ex, ey, ez⟩ | ⟨k, i, j, l, hk1, hk2, hi, hj2, hl, e, ex, ey, ez⟩ | ⟨i, hi, e, ex, ey, ez⟩ | ⟨j, hj2, e, ex, ey, ez⟩ | ⟨i, j, hi, hj2, e, ex, ey, ez⟩
  · rw [e] at hj; exact absurd hj (by decide)
  · rw [e] at hj; exact absurd hj (by decide)
  · rw [e] at hj; exact absurd hj (by decide)
  · rw [e] at hj; exact absurd hj (by decide)
  · rw [e] at hj; exact absurd hj (by decide)
  · rw [e] at hj
    rcases hj with hj | hj
    · have := nI_inj (by omega) (by omega) hj; omega
    · have := nI_inj (by omega) (by omega) hj; omega
  · rw [e] at hj; exact absurd hj (by decide)
  · rw [e, ex, ez]; exact okA_jump h
  · rw [e, ex, ez]; exact okA_if hi h
theorem fdA_cases : (∀ j, fdA A C F p j = A p j) ∨ (A p 0 = nI 13 ∧ ∀ j, fdA A C F p j = acA (nI 0) (nI 0) (nI 0) (nI 0) j) ∨ (A p 0 = nI 13 ∧ ∀ j, fdA A C F p j = acA (nI 12) (nI 0) (A p 2) (nI 0) j) ∨ ((A p 0 = nI 2 ∨ (¬ A p 0 < nI 3 ∧ ¬ nI 9 < A p 0)) ∧ ∃ v, ∀ j, fdA A C F p j = acA (nI 1) (A p 1) v (nI 0) j) := by
  by_cases hC : C p = true
  · by_cases c13 : A p 0 = nI 13
    · cases hF : F p (cz (A p 1)) with
      | none =>
        refine Or.inl (fun j => ?_)
        unfold fdA
        rw [if_pos hC, if_pos c13, hF]
      | some v =>
        by_cases cv : v = 0
        · refine Or.inr (Or.inl ⟨c13, fun j => ?_⟩)
          unfold fdA
          rw [if_pos hC, if_pos c13, hF]
          exact if_pos cv
        · refine Or.inr (Or.inr (Or.inl ⟨c13, fun j => ?_⟩))
          unfold fdA
          rw [if_pos hC, if_pos c13, hF]
          exact if_neg cv
    · by_cases cM : A p 0 = nI 2 ∨ (¬ A p 0 < nI 3 ∧ ¬ nI 9 < A p 0)
      · cases hk : krs A p (F p) with
        | none =>
          refine Or.inl (fun j => ?_)
          unfold fdA
          rw [if_pos hC, if_neg c13, if_pos cM, hk]
        | some v =>
          by_cases cv : v = v.toInt32.toInt64
          · refine Or.inr (Or.inr (Or.inr ⟨cM, v.toInt32, fun j => ?_⟩))
            unfold fdA
            rw [if_pos hC, if_neg c13, if_pos cM, hk]
            exact if_pos cv
          · refine Or.inl (fun j => ?_)
            unfold fdA
            rw [if_pos hC, if_neg c13, if_pos cM, hk]
            exact if_neg cv
      · refine Or.inl (fun j => ?_)
        unfold fdA
        rw [if_pos hC, if_neg c13, if_neg cM]
  · refine Or.inl (fun j => ?_)
    unfold fdA
    rw [if_neg hC]
theorem okR_fd (hok : okR len A) : okR len (fdA A C F) := by
  refine ⟨hok.1, fun p hp0 => ?_⟩
  have h := hok.2 p hp0
  rcases fdA_cases (A := A) (C := C) (F := F) (p := p) with e | ⟨-, e⟩ | ⟨c, e⟩ | ⟨c, v, e⟩
  · rw [e, e, e, e]; exact h
  · rw [e, e, e, e]; exact okA_0
  · rw [e, e, e, e]
    obtain ⟨l, hl, e2⟩ := (okA_rn h).2.2.2.2.2.2 (Or.inr c)
    show okA (nI 12) (nI 0) (A p 2) (nI 0)
    rw [e2]; exact okA_jump hl
  · rw [e, e, e, e]
    have hm : mkP A p = true := by
      unfold mkP
      refine decide_eq_true ?_
      rcases c with c | c
      · rw [c]; decide
      · refine ⟨fun z => c.1 ?_, fun z => c.2 ?_⟩
        · simp only [Int32.lt_iff_toInt_lt, show (nI 1).toInt = 1 from by decide, show (nI 3).toInt = 3 from by decide] at z ⊢
          omega
        · simp only [Int32.lt_iff_toInt_lt, show (nI 9).toInt = 9 from by decide, show (nI 10).toInt = 10 from by decide] at z ⊢
          omega
    obtain ⟨l, hl, e2⟩ := (okA_rn h).2.2.2.2.2.1 hm
    show okA (nI 1) (A p 1) v (nI 0)
    rw [e2]; exact okA_set hl
theorem okR_dr (hok : okR len A) : okR len (drA A S) := by
  refine ⟨hok.1, fun p hp0 => ?_⟩
  unfold drA
  by_cases c : drK (A p 0) ∧ S (p + 1) (cz (A p 1)) = false
  · rw [if_pos c, if_pos c, if_pos c, if_pos c]; exact okA_0
  · rw [if_neg c, if_neg c, if_neg c, if_neg c]; exact hok.2 p hp0
theorem okR_th (hok : okR len A) : okR len (thA len A) := by
  refine ⟨hok.1, fun p hp0 => ?_⟩
  have e0 : thA len A p 0 = A p 0 := if_neg (by omega)
  have e1 : thA len A p 1 = A p 1 := if_neg (by omega)
  have e3 : thA len A p 3 = A p 3 := if_neg (by omega)
  have e2 : thA len A p 2 = if jyP A p = true ∧ 2 = 2 then nI (ldR len A (tgP len A p)).1 else A p 2 := rfl
  rw [e0, e1, e2, e3]
  by_cases c : jyP A p = true
  · rw [if_pos ⟨c, rfl⟩]
    have := ldR_b (len := len) (A := A) (p := tgP len A p) tgP_le
    have h50 := hok.1
    exact okA_jy (hok.2 p hp0) c (by omega)
  · rw [if_neg (fun z => c z.1)]; exact hok.2 p hp0
theorem pkN_le : pkN A p ≤ p := by unfold pkN; exact ct_le _ _
theorem okR_pk (hok : okR len A) : ∀ p, p ≤ len → okR (pkN A p) (pkA len A p) := by
  have h50 := hok.1
  intro p
  induction p with
  | zero => intro _; exact ⟨Nat.zero_le _, fun q hq => by have : q < 0 := hq; omega⟩
  | succ p ih =>
    intro hp0
    obtain ⟨i1, i2⟩ := ih (by omega)
    have hle := pkN_le (A := A) (p := p + 1)
    refine ⟨by omega, fun q hq => ?_⟩
    rw [pk_s] at hq
    by_cases c : A p 0 = nI 0
    · rw [if_pos c] at hq
      have e : pkA len A (p + 1) = pkA len A p := if_pos c
      rw [e]; exact i2 q hq
    · rw [if_neg c] at hq
      have e : pkA len A (p + 1) = upA (pkA len A p) (pkN A p) (A p 0) (A p 1) (if jyP A p = true then nI (pkN A (tgP len A p)) else A p 2) (A p 3) := if_neg c
      rw [e]
      unfold upA
      by_cases e2 : q = pkN A p
      · rw [if_pos e2, if_pos e2, if_pos e2, if_pos e2]
        show okA (A p 0) (A p 1) (if jyP A p = true then nI (pkN A (tgP len A p)) else A p 2) (A p 3)
        by_cases cj : jyP A p = true
        · rw [if_pos cj]
          have h1 := pkN_le (A := A) (p := tgP len A p)
          have h2 := tgP_le (len := len) (A := A) (p := p)
          exact okA_jy (hok.2 p (by omega)) cj (by omega)
        · rw [if_neg cj]; exact hok.2 p (by omega)
      · rw [if_neg e2, if_neg e2, if_neg e2, if_neg e2]; exact i2 q (by omega)
theorem okR_ps (hok : okR len A) : okR (psA w len A).1 (psA w len A).2 := by
  unfold psA
  split
  · exact okR_fd hok
  · split
    · exact okR_dr hok
    · split
      · exact okR_th hok
      · exact okR_pk hok len (Nat.le_refl _)
theorem okW_ap (h : okW W) (hx : okW1 x) (hn : W.1 < 200) : okW (wap W x) := by
  refine ⟨Nat.succ_le_of_lt hn, fun i hi => ?_⟩
  have hi : i < W.1 + 1 := hi
  unfold wap
  by_cases e : i = W.1
  · simp only [if_pos e]; exact hx
  · simp only [if_neg e]; exact h.2 i (by omega)
theorem okW_0 : okW w0 := ⟨Nat.zero_le _, fun i hi => by have : i < 0 := hi; omega⟩
theorem okW_1s {a b m e : Nat} (ha : a < 51) (hb : b < 51) (hm : m < 3) (he : e ≤ 1000) : okW1 (a, b, m, e, fun _ => 1, fun _ => 0) := ⟨ha, hb, hm, he, fun _ _ => ⟨by show 1 < 3; omega, fun _ => rfl⟩⟩
theorem okW_fw : ∀ p, p ≤ 51 → okW (fwW C F p) := by
  intro p
  induction p with
  | zero => intro _; exact okW_0
  | succ p ih =>
    intro hp0
    unfold fwW
    split
    · refine okW_ap (ih (by omega)) ⟨by show p < 51; omega, by show p < 51; omega, by show 0 < 3; omega, by show 0 ≤ 1000; omega, fun r hr => ?_⟩ ?_
      · show (if r < 8 ∧ (F p r).isSome = true then 2 else 1) < 3 ∧ (¬ (if r < 8 ∧ (F p r).isSome = true then 2 else 1) = 2 → (if r < 8 then (F p r).getD 0 else 0) = 0)
        cases F p r with
        | none => simp
        | some v => simp [hr]
      · have := fwW_le (C := C) (F := F) p
        omega
    · exact ih (by omega)
theorem okW_dw : ∀ p, p ≤ 51 → okW (dwW S p) := by
  intro p
  induction p with
  | zero => intro _; exact okW_0
  | succ p ih =>
    intro hp0
    unfold dwW
    refine okW_ap (ih (by omega)) ⟨by show p < 51; omega, by show p < 51; omega, by show 0 < 3; omega, by show 0 ≤ 1000; omega, fun r hr => ⟨?_, fun _ => rfl⟩⟩ ?_
    · show (if r < 8 ∧ S p r = true then 1 else 0) < 3
      split <;> decide
    · have := dwW_le (S := S) p
      omega
theorem okW_ta : ∀ p, p ≤ 51 → okW (twA p) := by
  intro p
  induction p with
  | zero => intro _; exact okW_0
  | succ p ih =>
    intro hp0
    unfold twA
    refine okW_ap (ih (by omega)) (okW_1s (by omega) (by omega) (by decide) (by decide)) ?_
    have := twA_le p
    omega
theorem okW_tb (h50 : len ≤ 50) : ∀ p, p ≤ len → okW (twB len A p) := by
  intro p
  induction p with
  | zero => intro _; exact okW_ta (len + 1) (by omega)
  | succ p ih =>
    intro hp0
    unfold twB
    split
    · exact ih (by omega)
    · have hb := ldR_b (len := len) (A := A) (p := p) (by omega)
      refine okW_ap (ih (by omega)) (okW_1s (by omega) (by omega) (by decide) (by omega)) ?_
      have := twB_le (len := len) (A := A) p
      omega
theorem okW_pw (h50 : len ≤ 50) : ∀ p, p ≤ len + 1 → okW (pwW len A p) := by
  intro p
  induction p with
  | zero => intro _; exact okW_0
  | succ p ih =>
    intro hp0
    unfold pwW
    have h1 := pkN_le (A := A) (p := p)
    have h2 := rw1_le (A := A) (len - p) p
    refine okW_ap (ih (by omega)) (okW_1s (by omega) (by omega) (by split <;> decide) (by omega)) ?_
    have := pwW_le (len := len) (A := A) p
    omega
theorem okW_ps (hok : okR len A) : okW (psW w len A) := by
  have h50 := hok.1
  unfold psW
  split
  · exact okW_fw _ (by omega)
  · split
    · exact okW_dw _ (by omega)
    · split
      · exact okW_tb h50 _ (Nat.le_refl _)
      · exact okW_pw h50 _ (Nat.le_refl _)
end C83
