/-! Model: meet, lead -/
def updD (D : Nat → Nat → Bool) (t j : Nat) : Nat → Nat → Bool := fun q r => if q = t ∧ r = j then true else D q r
/-- as kmS, between two places -/
abbrev kmT (M : mm) (s : KS) (bh : Int64) : Prop := kmS M s.1 (fun q _ => s.1 q) s.2.1 s.2.2.2 bh
section C77
variable {d : Nat} {lim : Nat × Nat} {Q : mj_Q} {M M' M2 : mm} {len p t j r l : Nat} {A : Nat → Nat → Int32} {C : Nat → Bool} {D : Nat → Nat → Bool} {F : KF} {sw : Bool} {bh : Int64} {s : KS}
theorem km_2 (hS : kmS M C D F sw bh) (ht : t < 51) (hj : j < 8) : kmS (wI (wI M 269 (8 * t + j) (nI 2)) 256 22 (nI 1)) C (updD D t j) (updF F t j none) true bh := by
  obtain ⟨h1, h2, h3, h4, h5⟩ := hS
  refine ⟨fun p hp0 => ?_, fun p r hp0 hr => ?_, fun p r hp0 hr v hv => ?_, ?_, ?_⟩
  · rw [rI_wI, if_neg (by omega), rI_wI, if_neg (by omega)]; exact h1 p hp0
  · rw [rI_wI, if_neg (by omega), rI_wI]
    unfold updD updF
    by_cases e : p = t ∧ r = j
    · obtain ⟨rfl, rfl⟩ := e
      rw [if_pos ⟨rfl, rfl⟩, if_pos ⟨rfl, rfl⟩, if_pos ⟨rfl, rfl⟩]; rfl
    · rw [if_neg (by omega), if_neg e, if_neg e]; exact h2 p r hp0 hr
  · rw [rL_wI, rL_wI]
    unfold updF at hv
    split at hv
    · cases hv
    · exact h3 p r hp0 hr v hv
  · rw [rI_wI, if_pos ⟨rfl, rfl⟩]; rfl
  · exact h5
theorem km_1 (hS : kmS M C D F sw bh) (ht : t < 51) (hj : j < 8) {v : Int64} : kmS (wI (wL (wI M 269 (8 * t + j) (nI 1)) 270 (8 * t + j) v) 256 22 (nI 1)) C (updD D t j) (updF F t j (some v)) true bh := by
  obtain ⟨h1, h2, h3, h4, h5⟩ := hS
  refine ⟨fun p hp0 => ?_, fun p r hp0 hr => ?_, fun p r hp0 hr v2 hv => ?_, ?_, ?_⟩
  · rw [rI_wI, if_neg (by omega), rI_wL, rI_wI, if_neg (by omega)]; exact h1 p hp0
  · rw [rI_wI, if_neg (by omega), rI_wL, rI_wI]
    unfold updD updF
    by_cases e : p = t ∧ r = j
    · obtain ⟨rfl, rfl⟩ := e
      rw [if_pos ⟨rfl, rfl⟩, if_pos ⟨rfl, rfl⟩, if_pos ⟨rfl, rfl⟩]; rfl
    · rw [if_neg (by omega), if_neg e, if_neg e]; exact h2 p r hp0 hr
  · rw [rL_wI, rL_wL]
    unfold updF at hv
    split at hv
    · rename_i e
      cases hv
      rw [if_pos ⟨rfl, by omega⟩]
    · rename_i e
      rw [if_neg (by omega), rL_wI]
      exact h3 p r hp0 hr v2 hv
  · rw [rI_wI, if_pos ⟨rfl, rfl⟩]; rfl
  · rw [rL_wI, rL_wL, if_neg (by omega), rL_wI]; exact h5
theorem updD_id (h : D t j = true) : updD D t j = D := by
  funext q r
  unfold updD
  split
  · rename_i e; rw [e.1, e.2, h]
  · rfl
theorem updF_id {v : Option Int64} (h : F t j = v) : updF F t j v = F := by
  funext q r
  unfold updF
  split
  · rename_i e; rw [e.1, e.2, h]
  · rfl
theorem c_Model_meet (hS : kmS M C D F sw bh) (ht : t < 51) (hj : j < 8) {x : Option Int64} {v : Int64} (hx : ∀ u, x = some u → v = u) (hN : D t j = false → F t j = none) (hend : ∀ M', sv kmP M M' → kmS M' C (updD D t j) (updF F t j (if D t j = true then jn (F t j) x else x)) (sw || (!D t j || ((F t j).isSome && decide (¬ F t j = x)))) bh → Q none (hp M')) : mj_V d lim mq_Model_meet 0 [.ref 256, .int (nI t), .int (nI j), .int (b1 x.isSome), .long v, mj_j, mj_j, mj_j] [] (hp M) Q := by
  have h1 := hS.2.1 t j ht hj
  have v2 : sv kmP M (wI (wI M 269 (8 * t + j) (nI 2)) 256 22 (nI 1)) := sv_wI (sv_wI sv_refl (by unfold kmP; omega)) (by unfold kmP; omega)
  cases hF : F t j with
  | some w =>
    have hD : D t j = true := by
      cases hD : D t j with
      | true => rfl
      | false => rw [hN hD] at hF; cases hF
    have hw := hS.2.2.1 t j ht hj w hF
    rw [hF, hD] at h1 hend
    have h1 : rI M 269 (8 * t + j) = nI 1 := h1
    cases x with
    | none =>
      simp (decide := true) (disch := first | assumption | omega) only [zi_Model_meet_0, zi_Model_meet_2, zi_Model_meet_3, zi_Model_meet_4, zi_Model_meet_5, zi_Model_meet_6, zi_Model_meet_8, zi_Model_meet_9, zi_Model_meet_12, zi_Model_meet_14, zi_Model_meet_15, zi_Model_meet_17, zi_Model_meet_19, zi_Model_meet_20, zi_Model_meet_23, zi_Model_meet_24, zi_Model_meet_26, zi_Model_meet_29, zi_Model_meet_30, zi_Model_meet_33, zi_Model_meet_34, zi_Model_meet_37, zi_Model_meet_39, zi_Model_meet_40, zi_Model_meet_41, zi_Model_meet_42, zi_Model_meet_45, zi_Model_meet_47, zi_Model_meet_49, zi_Model_meet_50, zi_Model_meet_51, zi_Model_meet_52, zi_Model_meet_55, zi_Model_meet_58, zi_Model_meet_59, zi_Model_meet_62, zi_Model_meet_63, zi_Model_meet_66, zi_Model_meet_68, zi_Model_meet_69, zi_Model_meet_71, zi_Model_meet_72, zi_Model_meet_75, zi_Model_meet_76, zi_Model_meet_79, zi_Model_meet_81, zi_Model_meet_82, zi_Model_meet_83, zi_Model_meet_84, zi_Model_meet_85, zi_Model_meet_88, ↓reduceIte, mj_op_s, Option.toList_some, Option.toList_none, List.cons_append, List.nil_append, hp_1, hp_2, true_and, and_true, zb_0, zb_1, zb_b, va_rf, io_256, ↓ogf_256_0, ↓opf_256_0, ↓ogf_256_1, ↓ogf_256_2, ↓ogf_256_3, ↓ogf_256_4, ↓opf_256_4, ↓ogf_256_5, ↓ogf_256_6, ↓ogf_256_7, ↓opf_256_7, ↓ogf_256_8, ↓opf_256_8, ↓ogf_256_9, ↓opf_256_9, ↓ogf_256_10, ↓opf_256_10, ↓ogf_256_11, ↓ogf_256_12, ↓ogf_256_13, ↓ogf_256_14, ↓ogf_256_15, ↓ogf_256_16, ↓ogf_256_17, ↓opf_256_17, ↓ogf_256_18, ↓opf_256_18, ↓ogf_256_19, ↓ogf_256_20, ↓ogf_256_21, ↓ogf_256_22, ↓opf_256_22_0, ↓opf_256_22_1, ↓ogf_256_23, ↓opf_256_23, ↓ogf_256_24, ↓ogf_256_25, ↓opf_256_25_0, ↓opf_256_25_1, ↓ogf_256_26, ↓opf_256_26, ↓ogf_256_27, ↓opf_256_27, ↓ogf_256_28, ↓opf_256_28, ↓ogf_256_29, ↓ogf_256_30, ↓ogf_256_31, ↓ogf_256_32, ↓ogf_256_33, ↓ogf_256_34, ↓oai_269, ↓owi_269, ↓oal_270, ↓owl_270, pk_mul, nI_add, h1, Option.isSome_none, b1_f]
      refine hend _ v2 ?_
      have e : (sw || (!true || ((some w).isSome && decide (¬ some w = (none : Option Int64))))) = true := by simp
      rw [e]
      exact km_2 hS ht hj
    | some u =>
      obtain rfl := hx u rfl
      by_cases c : w = v
      · subst c
        simp (decide := true) (disch := first | assumption | omega) only [zi_Model_meet_0, zi_Model_meet_2, zi_Model_meet_3, zi_Model_meet_4, zi_Model_meet_5, zi_Model_meet_6, zi_Model_meet_8, zi_Model_meet_9, zi_Model_meet_12, zi_Model_meet_14, zi_Model_meet_15, zi_Model_meet_17, zi_Model_meet_19, zi_Model_meet_20, zi_Model_meet_23, zi_Model_meet_24, zi_Model_meet_26, zi_Model_meet_29, zi_Model_meet_30, zi_Model_meet_33, zi_Model_meet_34, zi_Model_meet_37, zi_Model_meet_39, zi_Model_meet_40, zi_Model_meet_41, zi_Model_meet_42, zi_Model_meet_45, zi_Model_meet_47, zi_Model_meet_49, zi_Model_meet_50, zi_Model_meet_51, zi_Model_meet_52, zi_Model_meet_55, zi_Model_meet_58, zi_Model_meet_59, zi_Model_meet_62, zi_Model_meet_63, zi_Model_meet_66, zi_Model_meet_68, zi_Model_meet_69, zi_Model_meet_71, zi_Model_meet_72, zi_Model_meet_75, zi_Model_meet_76, zi_Model_meet_79, zi_Model_meet_81, zi_Model_meet_82, zi_Model_meet_83, zi_Model_meet_84, zi_Model_meet_85, zi_Model_meet_88, ↓reduceIte, mj_op_s, Option.toList_some, Option.toList_none, List.cons_append, List.nil_append, hp_1, hp_2, true_and, and_true, zb_0, zb_1, zb_b, va_rf, io_256, ↓ogf_256_0, ↓opf_256_0, ↓ogf_256_1, ↓ogf_256_2, ↓ogf_256_3, ↓ogf_256_4, ↓opf_256_4, ↓ogf_256_5, ↓ogf_256_6, ↓ogf_256_7, ↓opf_256_7, ↓ogf_256_8, ↓opf_256_8, ↓ogf_256_9, ↓opf_256_9, ↓ogf_256_10, ↓opf_256_10, ↓ogf_256_11, ↓ogf_256_12, ↓ogf_256_13, ↓ogf_256_14, ↓ogf_256_15, ↓ogf_256_16, ↓ogf_256_17, ↓opf_256_17, ↓ogf_256_18, ↓opf_256_18, ↓ogf_256_19, ↓ogf_256_20, ↓ogf_256_21, ↓ogf_256_22, ↓opf_256_22_0, ↓opf_256_22_1, ↓ogf_256_23, ↓opf_256_23, ↓ogf_256_24, ↓ogf_256_25, ↓opf_256_25_0, ↓opf_256_25_1, ↓ogf_256_26, ↓opf_256_26, ↓ogf_256_27, ↓opf_256_27, ↓ogf_256_28, ↓opf_256_28, ↓ogf_256_29, ↓ogf_256_30, ↓ogf_256_31, ↓ogf_256_32, ↓ogf_256_33, ↓ogf_256_34, ↓oai_269, ↓owi_269, ↓oal_270, ↓owl_270, pk_mul, nI_add, h1, hw, Option.isSome_some, b1_t, lgc_eq]
        refine hend _ sv_refl ?_
        have e : (sw || (!true || ((some w).isSome && decide (¬ some w = some w)))) = sw := by simp
        have e2 : (if true = true then jn (some w) (some w) else some w) = some w := by simp [jn]
        rw [e, e2, updD_id hD, updF_id hF]
        exact hS
      · simp (decide := true) (disch := first | assumption | omega) only [zi_Model_meet_0, zi_Model_meet_2, zi_Model_meet_3, zi_Model_meet_4, zi_Model_meet_5, zi_Model_meet_6, zi_Model_meet_8, zi_Model_meet_9, zi_Model_meet_12, zi_Model_meet_14, zi_Model_meet_15, zi_Model_meet_17, zi_Model_meet_19, zi_Model_meet_20, zi_Model_meet_23, zi_Model_meet_24, zi_Model_meet_26, zi_Model_meet_29, zi_Model_meet_30, zi_Model_meet_33, zi_Model_meet_34, zi_Model_meet_37, zi_Model_meet_39, zi_Model_meet_40, zi_Model_meet_41, zi_Model_meet_42, zi_Model_meet_45, zi_Model_meet_47, zi_Model_meet_49, zi_Model_meet_50, zi_Model_meet_51, zi_Model_meet_52, zi_Model_meet_55, zi_Model_meet_58, zi_Model_meet_59, zi_Model_meet_62, zi_Model_meet_63, zi_Model_meet_66, zi_Model_meet_68, zi_Model_meet_69, zi_Model_meet_71, zi_Model_meet_72, zi_Model_meet_75, zi_Model_meet_76, zi_Model_meet_79, zi_Model_meet_81, zi_Model_meet_82, zi_Model_meet_83, zi_Model_meet_84, zi_Model_meet_85, zi_Model_meet_88, ↓reduceIte, mj_op_s, Option.toList_some, Option.toList_none, List.cons_append, List.nil_append, hp_1, hp_2, true_and, and_true, zb_0, zb_1, zb_b, va_rf, io_256, ↓ogf_256_0, ↓opf_256_0, ↓ogf_256_1, ↓ogf_256_2, ↓ogf_256_3, ↓ogf_256_4, ↓opf_256_4, ↓ogf_256_5, ↓ogf_256_6, ↓ogf_256_7, ↓opf_256_7, ↓ogf_256_8, ↓opf_256_8, ↓ogf_256_9, ↓opf_256_9, ↓ogf_256_10, ↓opf_256_10, ↓ogf_256_11, ↓ogf_256_12, ↓ogf_256_13, ↓ogf_256_14, ↓ogf_256_15, ↓ogf_256_16, ↓ogf_256_17, ↓opf_256_17, ↓ogf_256_18, ↓opf_256_18, ↓ogf_256_19, ↓ogf_256_20, ↓ogf_256_21, ↓ogf_256_22, ↓opf_256_22_0, ↓opf_256_22_1, ↓ogf_256_23, ↓opf_256_23, ↓ogf_256_24, ↓ogf_256_25, ↓opf_256_25_0, ↓opf_256_25_1, ↓ogf_256_26, ↓opf_256_26, ↓ogf_256_27, ↓opf_256_27, ↓ogf_256_28, ↓opf_256_28, ↓ogf_256_29, ↓ogf_256_30, ↓ogf_256_31, ↓ogf_256_32, ↓ogf_256_33, ↓ogf_256_34, ↓oai_269, ↓owi_269, ↓oal_270, ↓owl_270, pk_mul, nI_add, h1, hw, Option.isSome_some, b1_t, lgc_eq, c]
        refine hend _ v2 ?_
        have e : (sw || (!true || ((some w).isSome && decide (¬ some w = some v)))) = true := by simp [c]
        have e2 : (if true = true then jn (some w) (some v) else some v) = none := by simp [jn, c]
        rw [e, e2]
        exact km_2 hS ht hj
  | none =>
    cases hD : D t j with
    | true =>
      rw [hF, hD] at h1 hend
      have h1 : rI M 269 (8 * t + j) = nI 2 := h1
      simp (decide := true) (disch := first | assumption | omega) only [zi_Model_meet_0, zi_Model_meet_2, zi_Model_meet_3, zi_Model_meet_4, zi_Model_meet_5, zi_Model_meet_6, zi_Model_meet_8, zi_Model_meet_9, zi_Model_meet_12, zi_Model_meet_14, zi_Model_meet_15, zi_Model_meet_17, zi_Model_meet_19, zi_Model_meet_20, zi_Model_meet_23, zi_Model_meet_24, zi_Model_meet_26, zi_Model_meet_29, zi_Model_meet_30, zi_Model_meet_33, zi_Model_meet_34, zi_Model_meet_37, zi_Model_meet_39, zi_Model_meet_40, zi_Model_meet_41, zi_Model_meet_42, zi_Model_meet_45, zi_Model_meet_47, zi_Model_meet_49, zi_Model_meet_50, zi_Model_meet_51, zi_Model_meet_52, zi_Model_meet_55, zi_Model_meet_58, zi_Model_meet_59, zi_Model_meet_62, zi_Model_meet_63, zi_Model_meet_66, zi_Model_meet_68, zi_Model_meet_69, zi_Model_meet_71, zi_Model_meet_72, zi_Model_meet_75, zi_Model_meet_76, zi_Model_meet_79, zi_Model_meet_81, zi_Model_meet_82, zi_Model_meet_83, zi_Model_meet_84, zi_Model_meet_85, zi_Model_meet_88, ↓reduceIte, mj_op_s, Option.toList_some, Option.toList_none, List.cons_append, List.nil_append, hp_1, hp_2, true_and, and_true, zb_0, zb_1, zb_b, va_rf, io_256, ↓ogf_256_0, ↓opf_256_0, ↓ogf_256_1, ↓ogf_256_2, ↓ogf_256_3, ↓ogf_256_4, ↓opf_256_4, ↓ogf_256_5, ↓ogf_256_6, ↓ogf_256_7, ↓opf_256_7, ↓ogf_256_8, ↓opf_256_8, ↓ogf_256_9, ↓opf_256_9, ↓ogf_256_10, ↓opf_256_10, ↓ogf_256_11, ↓ogf_256_12, ↓ogf_256_13, ↓ogf_256_14, ↓ogf_256_15, ↓ogf_256_16, ↓ogf_256_17, ↓opf_256_17, ↓ogf_256_18, ↓opf_256_18, ↓ogf_256_19, ↓ogf_256_20, ↓ogf_256_21, ↓ogf_256_22, ↓opf_256_22_0, ↓opf_256_22_1, ↓ogf_256_23, ↓opf_256_23, ↓ogf_256_24, ↓ogf_256_25, ↓opf_256_25_0, ↓opf_256_25_1, ↓ogf_256_26, ↓opf_256_26, ↓ogf_256_27, ↓opf_256_27, ↓ogf_256_28, ↓opf_256_28, ↓ogf_256_29, ↓ogf_256_30, ↓ogf_256_31, ↓ogf_256_32, ↓ogf_256_33, ↓ogf_256_34, ↓oai_269, ↓owi_269, ↓oal_270, ↓owl_270, pk_mul, nI_add, h1]
      refine hend _ sv_refl ?_
      have e : (sw || (!true || ((none : Option Int64).isSome && decide (¬ none = x)))) = sw := by simp
      have e2 : (if true = true then jn none x else x) = none := by
        cases x <;> simp [jn]
      rw [e, e2, updD_id hD, updF_id hF]
      exact hS
    | false =>
      rw [hF, hD] at h1 hend
      have h1 : rI M 269 (8 * t + j) = nI 0 := h1
      have e : (sw || (!false || ((none : Option Int64).isSome && decide (¬ none = x)))) = true := by simp
      rw [e] at hend
      cases x with
      | none =>
        simp (decide := true) (disch := first | assumption | omega) only [zi_Model_meet_0, zi_Model_meet_2, zi_Model_meet_3, zi_Model_meet_4, zi_Model_meet_5, zi_Model_meet_6, zi_Model_meet_8, zi_Model_meet_9, zi_Model_meet_12, zi_Model_meet_14, zi_Model_meet_15, zi_Model_meet_17, zi_Model_meet_19, zi_Model_meet_20, zi_Model_meet_23, zi_Model_meet_24, zi_Model_meet_26, zi_Model_meet_29, zi_Model_meet_30, zi_Model_meet_33, zi_Model_meet_34, zi_Model_meet_37, zi_Model_meet_39, zi_Model_meet_40, zi_Model_meet_41, zi_Model_meet_42, zi_Model_meet_45, zi_Model_meet_47, zi_Model_meet_49, zi_Model_meet_50, zi_Model_meet_51, zi_Model_meet_52, zi_Model_meet_55, zi_Model_meet_58, zi_Model_meet_59, zi_Model_meet_62, zi_Model_meet_63, zi_Model_meet_66, zi_Model_meet_68, zi_Model_meet_69, zi_Model_meet_71, zi_Model_meet_72, zi_Model_meet_75, zi_Model_meet_76, zi_Model_meet_79, zi_Model_meet_81, zi_Model_meet_82, zi_Model_meet_83, zi_Model_meet_84, zi_Model_meet_85, zi_Model_meet_88, ↓reduceIte, mj_op_s, Option.toList_some, Option.toList_none, List.cons_append, List.nil_append, hp_1, hp_2, true_and, and_true, zb_0, zb_1, zb_b, va_rf, io_256, ↓ogf_256_0, ↓opf_256_0, ↓ogf_256_1, ↓ogf_256_2, ↓ogf_256_3, ↓ogf_256_4, ↓opf_256_4, ↓ogf_256_5, ↓ogf_256_6, ↓ogf_256_7, ↓opf_256_7, ↓ogf_256_8, ↓opf_256_8, ↓ogf_256_9, ↓opf_256_9, ↓ogf_256_10, ↓opf_256_10, ↓ogf_256_11, ↓ogf_256_12, ↓ogf_256_13, ↓ogf_256_14, ↓ogf_256_15, ↓ogf_256_16, ↓ogf_256_17, ↓opf_256_17, ↓ogf_256_18, ↓opf_256_18, ↓ogf_256_19, ↓ogf_256_20, ↓ogf_256_21, ↓ogf_256_22, ↓opf_256_22_0, ↓opf_256_22_1, ↓ogf_256_23, ↓opf_256_23, ↓ogf_256_24, ↓ogf_256_25, ↓opf_256_25_0, ↓opf_256_25_1, ↓ogf_256_26, ↓opf_256_26, ↓ogf_256_27, ↓opf_256_27, ↓ogf_256_28, ↓opf_256_28, ↓ogf_256_29, ↓ogf_256_30, ↓ogf_256_31, ↓ogf_256_32, ↓ogf_256_33, ↓ogf_256_34, ↓oai_269, ↓owi_269, ↓oal_270, ↓owl_270, pk_mul, nI_add, h1, Option.isSome_none, b1_f]
        exact hend _ v2 (km_2 hS ht hj)
      | some u =>
        obtain rfl := hx u rfl
        simp (decide := true) (disch := first | assumption | omega) only [zi_Model_meet_0, zi_Model_meet_2, zi_Model_meet_3, zi_Model_meet_4, zi_Model_meet_5, zi_Model_meet_6, zi_Model_meet_8, zi_Model_meet_9, zi_Model_meet_12, zi_Model_meet_14, zi_Model_meet_15, zi_Model_meet_17, zi_Model_meet_19, zi_Model_meet_20, zi_Model_meet_23, zi_Model_meet_24, zi_Model_meet_26, zi_Model_meet_29, zi_Model_meet_30, zi_Model_meet_33, zi_Model_meet_34, zi_Model_meet_37, zi_Model_meet_39, zi_Model_meet_40, zi_Model_meet_41, zi_Model_meet_42, zi_Model_meet_45, zi_Model_meet_47, zi_Model_meet_49, zi_Model_meet_50, zi_Model_meet_51, zi_Model_meet_52, zi_Model_meet_55, zi_Model_meet_58, zi_Model_meet_59, zi_Model_meet_62, zi_Model_meet_63, zi_Model_meet_66, zi_Model_meet_68, zi_Model_meet_69, zi_Model_meet_71, zi_Model_meet_72, zi_Model_meet_75, zi_Model_meet_76, zi_Model_meet_79, zi_Model_meet_81, zi_Model_meet_82, zi_Model_meet_83, zi_Model_meet_84, zi_Model_meet_85, zi_Model_meet_88, ↓reduceIte, mj_op_s, Option.toList_some, Option.toList_none, List.cons_append, List.nil_append, hp_1, hp_2, true_and, and_true, zb_0, zb_1, zb_b, va_rf, io_256, ↓ogf_256_0, ↓opf_256_0, ↓ogf_256_1, ↓ogf_256_2, ↓ogf_256_3, ↓ogf_256_4, ↓opf_256_4, ↓ogf_256_5, ↓ogf_256_6, ↓ogf_256_7, ↓opf_256_7, ↓ogf_256_8, ↓opf_256_8, ↓ogf_256_9, ↓opf_256_9, ↓ogf_256_10, ↓opf_256_10, ↓ogf_256_11, ↓ogf_256_12, ↓ogf_256_13, ↓ogf_256_14, ↓ogf_256_15, ↓ogf_256_16, ↓ogf_256_17, ↓opf_256_17, ↓ogf_256_18, ↓opf_256_18, ↓ogf_256_19, ↓ogf_256_20, ↓ogf_256_21, ↓ogf_256_22, ↓opf_256_22_0, ↓opf_256_22_1, ↓ogf_256_23, ↓opf_256_23, ↓ogf_256_24, ↓ogf_256_25, ↓opf_256_25_0, ↓opf_256_25_1, ↓ogf_256_26, ↓opf_256_26, ↓ogf_256_27, ↓opf_256_27, ↓ogf_256_28, ↓opf_256_28, ↓ogf_256_29, ↓ogf_256_30, ↓ogf_256_31, ↓ogf_256_32, ↓ogf_256_33, ↓ogf_256_34, ↓oai_269, ↓owi_269, ↓oal_270, ↓owl_270, pk_mul, nI_add, h1, Option.isSome_some, b1_t]
        exact hend _ (sv_wI (sv_wL (sv_wI sv_refl (by unfold kmP; omega)) (by unfold kmP; omega)) (by unfold kmP; omega)) (km_1 hS ht hj)
def ldD (C : Nat → Bool) (t j : Nat) : Nat → Nat → Bool := fun q r => if q = t then (C t || decide (r < j)) else C q
theorem ldD_s : updD (ldD C t j) t j = ldD C t (j + 1) := by
  funext q r
  unfold updD ldD
  by_cases e : q = t
  · subst e
    by_cases e2 : r = j
    · subst e2; simp
    · rw [if_neg (by omega), if_pos rfl, if_pos rfl]
      have : decide (r < j) = decide (r < j + 1) := by
        by_cases h : r < j
        · rw [decide_eq_true h, decide_eq_true (by omega)]
        · rw [decide_eq_false h, decide_eq_false (by omega)]
      rw [this]
  · rw [if_neg (fun h => e h.1), if_neg e, if_neg e]
theorem arF_s {b : Nat → Option Int64} : updF (arF C F t b j) t j (if C t = true then jn (F t j) (b j) else b j) = arF C F t b (j + 1) := by
  funext q r
  unfold updF arF
  by_cases e : q = t ∧ r = j
  · obtain ⟨rfl, rfl⟩ := e
    rw [if_pos ⟨rfl, rfl⟩, if_pos (show q = q ∧ r < r + 1 from ⟨rfl, by omega⟩)]
  · rw [if_neg e]
    by_cases h : q = t ∧ r < j
    · rw [if_pos h, if_pos (show q = t ∧ r < j + 1 from ⟨h.1, by omega⟩)]
    · rw [if_neg h, if_neg (by omega)]
theorem arF_0 {b : Nat → Option Int64} : arF C F t b 0 = F := by
  funext q r
  unfold arF
  rw [if_neg (by omega)]
theorem arF_j {b : Nat → Option Int64} {q : Nat} : arF C F t b j q j = F q j := by
  unfold arF
  rw [if_neg (by omega)]
theorem kmS_D {D2 : Nat → Nat → Bool} (hS : kmS M C D F sw bh) (h : ∀ q r, r < 8 → D q r = D2 q r) : kmS M C D2 F sw bh := ⟨hS.1, fun p r hp0 hr => by rw [← h p r hr]; exact hS.2.1 p r hp0 hr, hS.2.2⟩
theorem l_lead (hr : r < 44) (hok : okR len A) (hp0 : p < len) (ht : t < 51) (hC : C p = true) {x : Int64} (hx : ∀ u, krs A p (F p) = some u → x = u) (hN : ∀ q r, r < 8 → C q = false → F q r = none)
    (hend : ∀ M', sv kmP M M' → kmS M' (ub C t true) (ldD C t 8) (arF C F t (kbh A p (F p)) 8) (sw || (!C t || chB F t (kbh A p (F p)) 8)) x → Q none (hp M')) :
    ∀ (n j : Nat) (M' : mm), j + n = 8 → hasM M' r len A → sv kmP M M' → kmS M' (ub C t true) (ldD C t j) (arF C F t (kbh A p (F p)) j) (sw || (!C t || chB F t (kbh A p (F p)) j)) x → mj_V (d + 2) lim mq_Model_lead 32 [.ref 256, .int (nI r), .int (nI p), .int (nI t), .int (b1 (krs A p (F p)).isSome), .int (nI j)] [] (hp M') Q := by
  have h50 := hok.1
  intro n
  induction n with
  | zero =>
    intro j M' hj hR hv hS
    obtain rfl : j = 8 := by omega
    rw [zi_Model_lead_32]
    simp (decide := true) only [zi_Model_lead_34, zi_Model_lead_36, zi_Model_lead_106, ↓reduceIte, mj_op_s, Option.toList_some, Option.toList_none, List.cons_append, List.nil_append, hp_1, hp_2, true_and, and_true, zb_0, zb_1, zb_b, va_rf]
    exact hend M' hv hS
  | succ n ih =>
    intro j M' hj hR hv hS
    have hj8 : j < 8 := by omega
    have hp50 : p < 50 := by omega
    have hp51 : p < 51 := by omega
    have e1 : nI j < nI 8 := nI_lt (by omega) (by omega)
    have q0 := hR.2 p hp0 0 (by omega)
    have q1 := hR.2 p hp0 1 (by omega)
    have hD : ldD C t j t j = C t := by
      unfold ldD
      rw [if_pos rfl, decide_eq_false (by omega), Bool.or_false]
    have hN2 : ldD C t j t j = false → arF C F t (kbh A p (F p)) j t j = none := fun h => by rw [arF_j]; exact hN t j hj8 (hD ▸ h)
    have hgo : ∀ M2, sv kmP M' M2 → kmS M2 (ub C t true) (updD (ldD C t j) t j) (updF (arF C F t (kbh A p (F p)) j) t j (if ldD C t j t j = true then jn (arF C F t (kbh A p (F p)) j t j) (kbh A p (F p) j) else kbh A p (F p) j)) ((sw || (!C t || chB F t (kbh A p (F p)) j)) || (!ldD C t j t j || ((arF C F t (kbh A p (F p)) j t j).isSome && decide (¬ arF C F t (kbh A p (F p)) j t j = kbh A p (F p) j)))) x → mj_V (d + 2) lim mq_Model_lead 32 [.ref 256, .int (nI r), .int (nI p), .int (nI t), .int (b1 (krs A p (F p)).isSome), .int (nI (j + 1))] [] (hp M2) Q := by
      intro M2 hv2 hS2
      refine ih (j + 1) M2 (by omega) (km_hasM hv2 hR) (sv_trans hv hv2) ?_
      rw [hD, arF_j, ldD_s, arF_s] at hS2
      have e : ((sw || (!C t || chB F t (kbh A p (F p)) j)) || (!C t || ((F t j).isSome && decide (¬ F t j = kbh A p (F p) j)))) = (sw || (!C t || chB F t (kbh A p (F p)) (j + 1))) := by
        have e0 : chB F t (kbh A p (F p)) (j + 1) = (chB F t (kbh A p (F p)) j || ((F t j).isSome && decide (¬ F t j = kbh A p (F p) j))) := rfl
        rw [e0]
        cases sw <;> cases C t <;> simp
      rw [e] at hS2
      exact hS2
    have hm : bI (¬ A p 0 < nI 1 ∧ ¬ nI 10 < A p 0) = b1 (mkP A p) := bI_mk
    rw [zi_Model_lead_32]
    cases hmk : mkP A p with
    | true =>
      rw [hmk] at hm
      have hm : bI (¬ A p 0 < nI 1 ∧ ¬ nI 10 < A p 0) = nI 1 := hm
      obtain ⟨l, hl, e⟩ := (okA_rn (hok.2 p hp0)).2.2.2.2.2.1 hmk
      rw [e] at q1
      by_cases c : l = j
      · subst c
        have hk : kbh A p (F p) l = krs A p (F p) := by
          unfold kbh
          rw [hmk, e, cz_n (by omega)]
          simp
        rw [hk] at hgo
        simp (decide := true) (disch := first | assumption | omega) only [zi_Model_lead_34, zi_Model_lead_36, zi_Model_lead_39, zi_Model_lead_40, zi_Model_lead_41, zi_Model_lead_42, zi_Model_lead_45, zi_Model_lead_48, zi_Model_lead_51, zi_Model_lead_52, zi_Model_lead_53, zi_Model_lead_54, zi_Model_lead_55, zi_Model_lead_58, zi_Model_lead_60, zi_Model_lead_63, zi_Model_lead_64, zi_Model_lead_65, zi_Model_lead_67, zi_Model_lead_69, zi_Model_lead_70, zi_Model_lead_73, zi_Model_lead_76, zi_Model_lead_79, zi_Model_lead_80, zi_Model_lead_81, zi_Model_lead_83, zi_Model_lead_84, zi_Model_lead_85, zi_Model_lead_87, zi_Model_lead_90, zi_Model_lead_91, zi_Model_lead_92, zi_Model_lead_94, zi_Model_lead_97, ↓reduceIte, mj_op_s, Option.toList_some, Option.toList_none, List.cons_append, List.nil_append, hp_1, hp_2, true_and, and_true, zb_0, zb_1, zb_b, va_rf, io_256, ↓ogf_256_0, ↓opf_256_0, ↓ogf_256_1, ↓ogf_256_2, ↓ogf_256_3, ↓ogf_256_4, ↓opf_256_4, ↓ogf_256_5, ↓ogf_256_6, ↓ogf_256_7, ↓opf_256_7, ↓ogf_256_8, ↓opf_256_8, ↓ogf_256_9, ↓opf_256_9, ↓ogf_256_10, ↓opf_256_10, ↓ogf_256_11, ↓ogf_256_12, ↓ogf_256_13, ↓ogf_256_14, ↓ogf_256_15, ↓ogf_256_16, ↓ogf_256_17, ↓opf_256_17, ↓ogf_256_18, ↓opf_256_18, ↓ogf_256_19, ↓ogf_256_20, ↓ogf_256_21, ↓ogf_256_22, ↓opf_256_22_0, ↓opf_256_22_1, ↓ogf_256_23, ↓opf_256_23, ↓ogf_256_24, ↓ogf_256_25, ↓opf_256_25_0, ↓opf_256_25_1, ↓ogf_256_26, ↓opf_256_26, ↓ogf_256_27, ↓opf_256_27, ↓ogf_256_28, ↓opf_256_28, ↓ogf_256_29, ↓ogf_256_30, ↓ogf_256_31, ↓ogf_256_32, ↓ogf_256_33, ↓ogf_256_34, c_Model_kind, c_Model_num, c_Model_makes, q0, q1, e1, hm, hS.2.2.2.2]
        refine c_Model_meet hS ht hj8 hx hN2 (fun M2 hv2 hS2 => ?_)
        simp (decide := true) only [zi_Model_lead_76, zi_Model_lead_79, zi_Model_lead_80, zi_Model_lead_81, zi_Model_lead_83, zi_Model_lead_84, zi_Model_lead_85, zi_Model_lead_87, zi_Model_lead_90, zi_Model_lead_91, zi_Model_lead_92, zi_Model_lead_94, zi_Model_lead_97, zi_Model_lead_100, zi_Model_lead_103, ↓reduceIte, mj_op_s, Option.toList_some, Option.toList_none, List.cons_append, List.nil_append, hp_1, hp_2, true_and, and_true, zb_0, zb_1, zb_b, va_rf, nI_add]
        exact hgo M2 hv2 hS2
      · have hne : ¬ nI l = nI j := fun h => c (nI_inj (by omega) (by omega) h)
        have hk : kbh A p (F p) j = F p j := by
          unfold kbh
          rw [hmk, e, cz_n (by omega)]
          simp [c]
        have hF : arF C F t (kbh A p (F p)) j p j = F p j := arF_j
        rw [hk] at hgo
        simp (decide := true) (disch := first | assumption | omega) only [zi_Model_lead_34, zi_Model_lead_36, zi_Model_lead_39, zi_Model_lead_40, zi_Model_lead_41, zi_Model_lead_42, zi_Model_lead_45, zi_Model_lead_48, zi_Model_lead_51, zi_Model_lead_52, zi_Model_lead_53, zi_Model_lead_54, zi_Model_lead_55, zi_Model_lead_58, zi_Model_lead_60, zi_Model_lead_63, zi_Model_lead_64, zi_Model_lead_65, zi_Model_lead_67, zi_Model_lead_69, zi_Model_lead_70, zi_Model_lead_73, zi_Model_lead_76, zi_Model_lead_79, zi_Model_lead_80, zi_Model_lead_81, zi_Model_lead_83, zi_Model_lead_84, zi_Model_lead_85, zi_Model_lead_87, zi_Model_lead_90, zi_Model_lead_91, zi_Model_lead_92, zi_Model_lead_94, zi_Model_lead_97, ↓reduceIte, mj_op_s, Option.toList_some, Option.toList_none, List.cons_append, List.nil_append, hp_1, hp_2, true_and, and_true, zb_0, zb_1, zb_b, va_rf, io_256, ↓ogf_256_0, ↓opf_256_0, ↓ogf_256_1, ↓ogf_256_2, ↓ogf_256_3, ↓ogf_256_4, ↓opf_256_4, ↓ogf_256_5, ↓ogf_256_6, ↓ogf_256_7, ↓opf_256_7, ↓ogf_256_8, ↓opf_256_8, ↓ogf_256_9, ↓opf_256_9, ↓ogf_256_10, ↓opf_256_10, ↓ogf_256_11, ↓ogf_256_12, ↓ogf_256_13, ↓ogf_256_14, ↓ogf_256_15, ↓ogf_256_16, ↓ogf_256_17, ↓opf_256_17, ↓ogf_256_18, ↓opf_256_18, ↓ogf_256_19, ↓ogf_256_20, ↓ogf_256_21, ↓ogf_256_22, ↓opf_256_22_0, ↓opf_256_22_1, ↓ogf_256_23, ↓opf_256_23, ↓ogf_256_24, ↓ogf_256_25, ↓opf_256_25_0, ↓opf_256_25_1, ↓ogf_256_26, ↓opf_256_26, ↓ogf_256_27, ↓opf_256_27, ↓ogf_256_28, ↓opf_256_28, ↓ogf_256_29, ↓ogf_256_30, ↓ogf_256_31, ↓ogf_256_32, ↓ogf_256_33, ↓ogf_256_34, c_Model_kind, c_Model_num, c_Model_makes, q0, q1, e1, hm, hne, c_Model_knows hS hp51 hj8, c_Model_as hp51 hj8, hF]
        refine c_Model_meet hS ht hj8 (fun u hu => hS.2.2.1 p j hp51 hj8 u (hF.trans hu)) hN2 (fun M2 hv2 hS2 => ?_)
        simp (decide := true) only [zi_Model_lead_76, zi_Model_lead_79, zi_Model_lead_80, zi_Model_lead_81, zi_Model_lead_83, zi_Model_lead_84, zi_Model_lead_85, zi_Model_lead_87, zi_Model_lead_90, zi_Model_lead_91, zi_Model_lead_92, zi_Model_lead_94, zi_Model_lead_97, zi_Model_lead_100, zi_Model_lead_103, ↓reduceIte, mj_op_s, Option.toList_some, Option.toList_none, List.cons_append, List.nil_append, hp_1, hp_2, true_and, and_true, zb_0, zb_1, zb_b, va_rf, nI_add]
        exact hgo M2 hv2 hS2
    | false =>
      rw [hmk] at hm
      have hm : bI (¬ A p 0 < nI 1 ∧ ¬ nI 10 < A p 0) = nI 0 := hm
      have hk : kbh A p (F p) j = F p j := by
        unfold kbh
        rw [hmk]
        simp
      have hF : arF C F t (kbh A p (F p)) j p j = F p j := arF_j
      rw [hk] at hgo
      simp (decide := true) (disch := first | assumption | omega) only [zi_Model_lead_34, zi_Model_lead_36, zi_Model_lead_39, zi_Model_lead_40, zi_Model_lead_41, zi_Model_lead_42, zi_Model_lead_45, zi_Model_lead_48, zi_Model_lead_51, zi_Model_lead_52, zi_Model_lead_53, zi_Model_lead_54, zi_Model_lead_55, zi_Model_lead_58, zi_Model_lead_60, zi_Model_lead_63, zi_Model_lead_64, zi_Model_lead_65, zi_Model_lead_67, zi_Model_lead_69, zi_Model_lead_70, zi_Model_lead_73, zi_Model_lead_76, zi_Model_lead_79, zi_Model_lead_80, zi_Model_lead_81, zi_Model_lead_83, zi_Model_lead_84, zi_Model_lead_85, zi_Model_lead_87, zi_Model_lead_90, zi_Model_lead_91, zi_Model_lead_92, zi_Model_lead_94, zi_Model_lead_97, ↓reduceIte, mj_op_s, Option.toList_some, Option.toList_none, List.cons_append, List.nil_append, hp_1, hp_2, true_and, and_true, zb_0, zb_1, zb_b, va_rf, io_256, ↓ogf_256_0, ↓opf_256_0, ↓ogf_256_1, ↓ogf_256_2, ↓ogf_256_3, ↓ogf_256_4, ↓opf_256_4, ↓ogf_256_5, ↓ogf_256_6, ↓ogf_256_7, ↓opf_256_7, ↓ogf_256_8, ↓opf_256_8, ↓ogf_256_9, ↓opf_256_9, ↓ogf_256_10, ↓opf_256_10, ↓ogf_256_11, ↓ogf_256_12, ↓ogf_256_13, ↓ogf_256_14, ↓ogf_256_15, ↓ogf_256_16, ↓ogf_256_17, ↓opf_256_17, ↓ogf_256_18, ↓opf_256_18, ↓ogf_256_19, ↓ogf_256_20, ↓ogf_256_21, ↓ogf_256_22, ↓opf_256_22_0, ↓opf_256_22_1, ↓ogf_256_23, ↓opf_256_23, ↓ogf_256_24, ↓ogf_256_25, ↓opf_256_25_0, ↓opf_256_25_1, ↓ogf_256_26, ↓opf_256_26, ↓ogf_256_27, ↓opf_256_27, ↓ogf_256_28, ↓opf_256_28, ↓ogf_256_29, ↓ogf_256_30, ↓ogf_256_31, ↓ogf_256_32, ↓ogf_256_33, ↓ogf_256_34, c_Model_kind, c_Model_num, c_Model_makes, q0, q1, e1, hm, c_Model_knows hS hp51 hj8, c_Model_as hp51 hj8, hF]
      refine c_Model_meet hS ht hj8 (fun u hu => hS.2.2.1 p j hp51 hj8 u (hF.trans hu)) hN2 (fun M2 hv2 hS2 => ?_)
      simp (decide := true) only [zi_Model_lead_76, zi_Model_lead_79, zi_Model_lead_80, zi_Model_lead_81, zi_Model_lead_83, zi_Model_lead_84, zi_Model_lead_85, zi_Model_lead_87, zi_Model_lead_90, zi_Model_lead_91, zi_Model_lead_92, zi_Model_lead_94, zi_Model_lead_97, zi_Model_lead_100, zi_Model_lead_103, ↓reduceIte, mj_op_s, Option.toList_some, Option.toList_none, List.cons_append, List.nil_append, hp_1, hp_2, true_and, and_true, zb_0, zb_1, zb_b, va_rf, nI_add]
      exact hgo M2 hv2 hS2
theorem ldD_0 {q r2 : Nat} : ldD C t 0 q r2 = C q := by
  unfold ldD
  split
  · rename_i e; rw [e, decide_eq_false (by omega), Bool.or_false]
  · rfl
theorem ldD_8 {q r2 : Nat} (h : r2 < 8) : ldD C t 8 q r2 = ub C t true q := by
  unfold ldD ub
  split
  · rw [decide_eq_true h, Bool.or_true]
  · rfl
theorem c_Model_lead (hr : r < 44) (hR : hasM M r len A) (hok : okR len A) (hp0 : p < len) (ht : t < 51) (hS : kmT M s bh) (hC : s.1 p = true) (hN : ∀ q r, r < 8 → s.1 q = false → s.2.1 q r = none) (hend : ∀ M' bh2, sv kmP M M' → kmT M' (arr s t (kbh A p (s.2.1 p))) bh2 → Q none (hp M')) : mj_V (d + 3) lim mq_Model_lead 0 [.ref 256, .int (nI r), .int (nI p), .int (nI t), mj_j, mj_j] [] (hp M) Q := by
  obtain ⟨C, F, w, sw⟩ := s
  have hS : kmS M C (fun q _ => C q) F sw bh := hS
  have hC : C p = true := hC
  have hN : ∀ q r, r < 8 → C q = false → F q r = none := hN
  have hfin : ∀ M' x, sv kmP M M' → kmS M' (ub C t true) (ldD C t 8) (arF C F t (kbh A p (F p)) 8) (sw || (!C t || chB F t (kbh A p (F p)) 8)) x → Q none (hp M') := fun M' x hv h => hend M' x hv (kmS_D h (fun q r hr => ldD_8 hr))
  have hx : ∀ u y, krs A p (F p) = some u → (krs A p (F p)).getD y = u := fun u y h => by rw [h]; rfl
  cases hct : C t with
  | true =>
    have r0 : rI M 268 t = nI 1 := by rw [hS.1 t ht, hct]; rfl
    simp (decide := true) (disch := first | assumption | omega) only [zi_Model_lead_0, zi_Model_lead_1, zi_Model_lead_4, zi_Model_lead_5, zi_Model_lead_6, zi_Model_lead_9, zi_Model_lead_10, zi_Model_lead_13, zi_Model_lead_14, zi_Model_lead_15, zi_Model_lead_16, zi_Model_lead_17, zi_Model_lead_18, zi_Model_lead_21, zi_Model_lead_22, zi_Model_lead_23, zi_Model_lead_24, zi_Model_lead_27, zi_Model_lead_29, zi_Model_lead_30, ↓reduceIte, mj_op_s, Option.toList_some, Option.toList_none, List.cons_append, List.nil_append, hp_1, hp_2, true_and, and_true, zb_0, zb_1, zb_b, va_rf, io_256, ↓ogf_256_0, ↓opf_256_0, ↓ogf_256_1, ↓ogf_256_2, ↓ogf_256_3, ↓ogf_256_4, ↓opf_256_4, ↓ogf_256_5, ↓ogf_256_6, ↓ogf_256_7, ↓opf_256_7, ↓ogf_256_8, ↓opf_256_8, ↓ogf_256_9, ↓opf_256_9, ↓ogf_256_10, ↓opf_256_10, ↓ogf_256_11, ↓ogf_256_12, ↓ogf_256_13, ↓ogf_256_14, ↓ogf_256_15, ↓ogf_256_16, ↓ogf_256_17, ↓opf_256_17, ↓ogf_256_18, ↓opf_256_18, ↓ogf_256_19, ↓ogf_256_20, ↓ogf_256_21, ↓ogf_256_22, ↓opf_256_22_0, ↓opf_256_22_1, ↓ogf_256_23, ↓opf_256_23, ↓ogf_256_24, ↓ogf_256_25, ↓opf_256_25_0, ↓opf_256_25_1, ↓ogf_256_26, ↓opf_256_26, ↓ogf_256_27, ↓opf_256_27, ↓ogf_256_28, ↓opf_256_28, ↓ogf_256_29, ↓ogf_256_30, ↓ogf_256_31, ↓ogf_256_32, ↓ogf_256_33, ↓ogf_256_34, ↓oaz_268, ↓owz_268, r0, c_Model_knowsBehind hr hR hok hp0 hS]
    refine l_lead (M := M) (sw := sw) hr hok hp0 ht hC (fun u h => hx u (rL M 256 23) h) hN (fun M' hv h => hfin M' _ hv h) 8 0 _ (by omega) ⟨hR.1, hR.2⟩ (sv_wL sv_refl (by unfold kmP; omega)) ?_
    have e : ub C t true = C := by
      funext q
      unfold ub
      split
      · rename_i e; rw [e, hct]
      · rfl
    rw [arF_0, e, hct]
    refine kmS_D (D := fun q _ => C q) ?_ (fun q r _ => ldD_0.symm)
    have e3 : (sw || (!true || chB F t (kbh A p (F p)) 0)) = sw := by simp [chB]
    rw [e3]
    exact ⟨hS.1, hS.2.1, fun p r hp0 hr v h => by rw [rL_wL, if_neg (by omega)]; exact hS.2.2.1 p r hp0 hr v h, hS.2.2.2.1, by rw [rL_wL, if_pos ⟨rfl, rfl⟩]⟩
  | false =>
    have r0 : rI M 268 t = nI 0 := by rw [hS.1 t ht, hct]; rfl
    have hS1 : kmS (wI (wI M 268 t (nI 1)) 256 22 (nI 1)) (ub C t true) (fun q _ => C q) F true bh := by
      refine ⟨fun q hq => ?_, fun q r hq hr => ?_, hS.2.2.1, ?_, hS.2.2.2.2⟩
      · rw [rI_wI, if_neg (by omega), rI_wI]
        unfold ub
        by_cases e : q = t
        · rw [if_pos ⟨rfl, e⟩, if_pos e]; rfl
        · rw [if_neg (fun z => e z.2), if_neg e]; exact hS.1 q hq
      · rw [rI_wI, if_neg (by omega), rI_wI, if_neg (by omega)]; exact hS.2.1 q r hq hr
      · rw [rI_wI, if_pos ⟨rfl, rfl⟩]; rfl
    have hv1 : sv kmP M (wI (wI M 268 t (nI 1)) 256 22 (nI 1)) := sv_wI (sv_wI sv_refl (by unfold kmP; omega)) (by unfold kmP; omega)
    have hR1 := km_hasM hv1 hR
    simp (decide := true) (disch := first | assumption | omega) only [zi_Model_lead_0, zi_Model_lead_1, zi_Model_lead_4, zi_Model_lead_5, zi_Model_lead_6, zi_Model_lead_9, zi_Model_lead_10, zi_Model_lead_13, zi_Model_lead_14, zi_Model_lead_15, zi_Model_lead_16, zi_Model_lead_17, zi_Model_lead_18, zi_Model_lead_21, zi_Model_lead_22, zi_Model_lead_23, zi_Model_lead_24, zi_Model_lead_27, zi_Model_lead_29, zi_Model_lead_30, ↓reduceIte, mj_op_s, Option.toList_some, Option.toList_none, List.cons_append, List.nil_append, hp_1, hp_2, true_and, and_true, zb_0, zb_1, zb_b, va_rf, io_256, ↓ogf_256_0, ↓opf_256_0, ↓ogf_256_1, ↓ogf_256_2, ↓ogf_256_3, ↓ogf_256_4, ↓opf_256_4, ↓ogf_256_5, ↓ogf_256_6, ↓ogf_256_7, ↓opf_256_7, ↓ogf_256_8, ↓opf_256_8, ↓ogf_256_9, ↓opf_256_9, ↓ogf_256_10, ↓opf_256_10, ↓ogf_256_11, ↓ogf_256_12, ↓ogf_256_13, ↓ogf_256_14, ↓ogf_256_15, ↓ogf_256_16, ↓ogf_256_17, ↓opf_256_17, ↓ogf_256_18, ↓opf_256_18, ↓ogf_256_19, ↓ogf_256_20, ↓ogf_256_21, ↓ogf_256_22, ↓opf_256_22_0, ↓opf_256_22_1, ↓ogf_256_23, ↓opf_256_23, ↓ogf_256_24, ↓ogf_256_25, ↓opf_256_25_0, ↓opf_256_25_1, ↓ogf_256_26, ↓opf_256_26, ↓ogf_256_27, ↓opf_256_27, ↓ogf_256_28, ↓opf_256_28, ↓ogf_256_29, ↓ogf_256_30, ↓ogf_256_31, ↓ogf_256_32, ↓ogf_256_33, ↓ogf_256_34, ↓oaz_268, ↓owz_268, r0, zv_1, c_Model_knowsBehind hr hR1 hok hp0 hS1]
    refine l_lead (M := M) (sw := sw) hr hok hp0 ht hC (fun u h => hx u (rL (wI (wI M 268 t (nI 1)) 256 22 (nI 1)) 256 23) h) hN (fun M' hv h => hfin M' _ hv h) 8 0 _ (by omega) ⟨hR1.1, hR1.2⟩ (sv_wL hv1 (by unfold kmP; omega)) ?_
    rw [arF_0, hct]
    refine kmS_D (D := fun q _ => C q) ?_ (fun q r _ => ldD_0.symm)
    have e3 : (sw || (!false || chB F t (kbh A p (F p)) 0)) = true := by simp
    rw [e3]
    exact ⟨hS1.1, hS1.2.1, fun p r hp0 hr v h => by rw [rL_wL, if_neg (by omega)]; exact hS1.2.2.1 p r hp0 hr v h, hS1.2.2.2.1, by rw [rL_wL, if_pos ⟨rfl, rfl⟩]⟩
end C77
