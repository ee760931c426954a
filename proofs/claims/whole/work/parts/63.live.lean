/-! contracts: Liveness.study, the loops -/
theorem pv_s (j : Nat) : nI (j + 1) - nI 1 = nI j := nI_pred j
theorem pv_m (j : Nat) : nI j + (-1) = nI j - nI 1 := by
  cases j with
  | zero => decide
  | succ j => rw [pk_m1, pv_s]
section C63
variable {d : Nat} {lim : Nat × Nat} {Q : mj_Q} {M : mm} {o len p : Nat} {A : Nat → Nat → Int32} {m : Nat → Nat}
/-- one sweep: from place j - 1 down to 0 -/
theorem l_study_in (ho : isRt o) (hR : hasR M o len A) (hok : okR len A) {rnd : Int32} {m0 : Nat → Nat} (hend : ∀ (c : Int32) (m : Nat → Nat) (y4 : Int32) (x5 : Value), lvI len A m → (c = nI 0 ∧ m = m0 ∧ (∀ p, p < len → lvm len A m p = m p) ∨ c = nI 1 ∧ cntM len m0 < cntM len m) → mj_V (d + 3) lim mq_Liveness_study 97 [.ref 210, .ref o, .int c, .int rnd, .int y4, x5] [] (hp (mskM M m)) Q) :
    ∀ (j : Nat) (c : Int32) (m : Nat → Nat) (x5 : Value), j ≤ len → lvI len A m → (c = nI 0 ∧ m = m0 ∧ (∀ p, j ≤ p → p < len → lvm len A m p = m p) ∨ c = nI 1 ∧ cntM len m0 < cntM len m) → mj_V (d + 3) lim mq_Liveness_study 46 [.ref 210, .ref o, .int c, .int rnd, .int (nI j - nI 1), x5] [] (hp (mskM M m)) Q := by
  have h50 := hok.1
  intro j
  induction j with
  | zero =>
    intro c m x5 hj hI hc
    rw [zi_Liveness_study_46]
    simp (decide := true) only [zi_Liveness_study_48, ↓reduceIte, mj_op_s, Option.toList_some, Option.toList_none, List.cons_append, List.nil_append, hp_1, hp_2, true_and, and_true, zb_0, zb_1, zb_b, va_rf]
    refine hend c m _ _ hI (hc.imp (fun h => ⟨h.1, h.2.1, fun p hp0 => h.2.2 p (by omega) hp0⟩) id)
  | succ j ih =>
    intro c m x5 hj hI hc
    have hj50 : j < 50 := by omega
    have e1 : ¬ nI j < nI 0 := by rw [nI_0]; exact nI_pos (by omega)
    have hmo : mskO (mskM M m) m := fun q hq => ⟨mk_Im hq, hI.1 q⟩
    have hR2 := mk_R (m := m) ho hR
    have emj : rI (mskM M m) 211 j = nI (m j) := mk_Im (by omega)
    have hup := lv_up hok hI (show j < len by omega)
    have hcu := cnt_up hok hI (show j < len by omega)
    have hlt := lvm_lt hok hI.1 (show j < len by omega)
    have hmj := hI.1 j
    rw [pv_s, zi_Liveness_study_46]
    rcases hc with ⟨rfl, rfl, hfix⟩ | ⟨rfl, hcnt⟩
    · by_cases hv : lvm len A m j = m j
      · have e2 : nI (lvm len A m j) = nI (m j) := by rw [hv]
        have e3 : updN m j (lvm len A m j) = m := by
          funext q
          unfold updN
          by_cases e : q = j
          · subst e; rw [if_pos rfl, hv]
          · rw [if_neg e]
        simp (decide := true) (disch := omega) only [zi_Liveness_study_48, zi_Liveness_study_51, zi_Liveness_study_52, zi_Liveness_study_53, zi_Liveness_study_55, zi_Liveness_study_58, zi_Liveness_study_60, zi_Liveness_study_61, zi_Liveness_study_64, zi_Liveness_study_66, zi_Liveness_study_67, zi_Liveness_study_70, zi_Liveness_study_72, zi_Liveness_study_73, zi_Liveness_study_76, zi_Liveness_study_77, zi_Liveness_study_80, zi_Liveness_study_81, zi_Liveness_study_82, zi_Liveness_study_83, zi_Liveness_study_86, zi_Liveness_study_88, zi_Liveness_study_90, zi_Liveness_study_91, zi_Liveness_study_94, ↓reduceIte, mj_op_s, Option.toList_some, Option.toList_none, List.cons_append, List.nil_append, hp_1, hp_2, true_and, and_true, zb_0, zb_1, zb_b, va_rf, io_210, ↓ogf_210_0, ↓oai_211, ↓owi_211, c_Liveness_maskAhead ho hR2 hok hmo (show j < len by omega), emj, e1, e2, mk_w, pv_m]
        rw [← hv, e3]
        refine ih _ _ _ (by omega) hI (Or.inl ⟨rfl, rfl, fun p hp1 hp2 => ?_⟩)
        by_cases e : p = j
        · subst e; exact hv
        · exact hfix p (by omega) hp2
      · have e2 : ¬ nI (lvm len A m j) = nI (m j) := fun z => hv ((nI_eq (by omega) (by omega)).mp z)
        simp (decide := true) (disch := omega) only [zi_Liveness_study_48, zi_Liveness_study_51, zi_Liveness_study_52, zi_Liveness_study_53, zi_Liveness_study_55, zi_Liveness_study_58, zi_Liveness_study_60, zi_Liveness_study_61, zi_Liveness_study_64, zi_Liveness_study_66, zi_Liveness_study_67, zi_Liveness_study_70, zi_Liveness_study_72, zi_Liveness_study_73, zi_Liveness_study_76, zi_Liveness_study_77, zi_Liveness_study_80, zi_Liveness_study_81, zi_Liveness_study_82, zi_Liveness_study_83, zi_Liveness_study_86, zi_Liveness_study_88, zi_Liveness_study_90, zi_Liveness_study_91, zi_Liveness_study_94, ↓reduceIte, mj_op_s, Option.toList_some, Option.toList_none, List.cons_append, List.nil_append, hp_1, hp_2, true_and, and_true, zb_0, zb_1, zb_b, va_rf, io_210, ↓ogf_210_0, ↓oai_211, ↓owi_211, c_Liveness_maskAhead ho hR2 hok hmo (show j < len by omega), emj, e1, e2, mk_w, pv_m]
        exact ih _ _ _ (by omega) hup.1 (Or.inr ⟨rfl, hcu.2 hv⟩)
    · simp (decide := true) (disch := omega) only [zi_Liveness_study_48, zi_Liveness_study_51, zi_Liveness_study_52, zi_Liveness_study_53, zi_Liveness_study_55, zi_Liveness_study_58, zi_Liveness_study_60, zi_Liveness_study_61, zi_Liveness_study_64, zi_Liveness_study_66, zi_Liveness_study_67, zi_Liveness_study_70, zi_Liveness_study_72, zi_Liveness_study_73, zi_Liveness_study_76, zi_Liveness_study_77, zi_Liveness_study_80, zi_Liveness_study_81, zi_Liveness_study_82, zi_Liveness_study_83, zi_Liveness_study_86, zi_Liveness_study_88, zi_Liveness_study_90, zi_Liveness_study_91, zi_Liveness_study_94, ↓reduceIte, mj_op_s, Option.toList_some, Option.toList_none, List.cons_append, List.nil_append, hp_1, hp_2, true_and, and_true, zb_0, zb_1, zb_b, va_rf, io_210, ↓ogf_210_0, ↓oai_211, ↓owi_211, c_Liveness_maskAhead ho hR2 hok hmo (show j < len by omega), emj, e1, mk_w, pv_m]
      exact ih _ _ _ (by omega) hup.1 (Or.inr ⟨rfl, Nat.lt_of_lt_of_le hcnt hcu.1⟩)
theorem l_study_out (ho : isRt o) (hR : hasR M o len A) (hok : okR len A) (hend : ∀ m : Nat → Nat, (∀ q, m q < 256) → lvL len A (bitsF m) → Q none (hp (mskM M m))) :
    ∀ (f k : Nat) (m : Nat → Nat) (x4 x5 : Value), 8 * len + 1 ≤ f + k → k ≤ cntM len m → lvI len A m → mj_V (d + 3) lim mq_Liveness_study 25 [.ref 210, .ref o, .int (nI 1), .int (nI k), x4, x5] [] (hp (mskM M m)) Q := by
  have h50 := hok.1
  intro f
  induction f with
  | zero =>
    intro k m x4 x5 hf hk hI
    have := ct_le (fun i => (m (i / 8)).testBit (i % 8)) (8 * len)
    unfold cntM at hk
    omega
  | succ f ih =>
    intro k m x4 x5 hf hk hI
    have hle : cntM len m ≤ 8 * len := ct_le _ _
    have e1 : nI k < nI 10000 := nI_lt (by omega) (by omega)
    have r0 : rI (mskM M m) o 4 = nI len := (mk_Io (mk_ne (j := 0) ho (by omega))).trans hR.1
    rw [zi_Liveness_study_25]
    simp (decide := true) only [zi_Liveness_study_26, zi_Liveness_study_29, zi_Liveness_study_32, zi_Liveness_study_33, zi_Liveness_study_36, zi_Liveness_study_37, zi_Liveness_study_38, zi_Liveness_study_39, zi_Liveness_study_42, zi_Liveness_study_43, zi_Liveness_study_44, ↓reduceIte, mj_op_s, Option.toList_some, Option.toList_none, List.cons_append, List.nil_append, hp_1, hp_2, true_and, and_true, zb_0, zb_1, zb_b, va_rf, ↓ogf_rt_4 ho, e1, r0]
    refine l_study_in ho hR hok (fun c m2 y4 y5 hI2 hc => ?_) len (nI 0) m x5 (Nat.le_refl _) hI (Or.inl ⟨rfl, rfl, fun p h1 h2 => by omega⟩)
    simp only [zi_Liveness_study_97, zi_Liveness_study_100, ↓reduceIte, mj_op_s, Option.toList_some, Option.toList_none, List.cons_append, List.nil_append, hp_1, hp_2, true_and, and_true, zb_0, zb_1, zb_b, va_rf, nI_add]
    rcases hc with ⟨rfl, rfl, hfix⟩ | ⟨rfl, hcnt⟩
    · have e2 : nI (k + 1) < nI 10000 := nI_lt (by omega) (by omega)
      rw [zi_Liveness_study_25]
      simp (decide := true) only [zi_Liveness_study_26, zi_Liveness_study_29, zi_Liveness_study_32, zi_Liveness_study_33, zi_Liveness_study_103, ↓reduceIte, mj_op_s, Option.toList_some, Option.toList_none, List.cons_append, List.nil_append, hp_1, hp_2, true_and, and_true, zb_0, zb_1, zb_b, va_rf, e2]
      refine hend m2 hI2.1 ⟨fun p r hp0 hr h => ?_, fun S' hS p r hp0 hr h => hI2.2.2.2 S' hS p r hp0 hr h, fun r hr => ?_⟩
      · show (m2 p).testBit r = true
        rw [← hfix p hp0, lvm_bit hr]
        exact h
      · show (m2 len).testBit r = false
        rw [hI2.2.1 len (Nat.le_refl _)]
        exact Nat.zero_testBit r
    · exact ih (k + 1) m2 _ _ (by omega) (by omega) hI2
theorem l_study_zero {x3 x4 x5 : Value} : ∀ (n j : Nat), j + n = 51 → (mj_V d lim mq_Liveness_study 2 [.ref 210, .ref o, .int (nI j), x3, x4, x5] [] (hp (itr (fun r M => wI M 211 r (nI 0)) j M)) Q ↔ mj_V d lim mq_Liveness_study 21 [.ref 210, .ref o, .int (nI 51), x3, x4, x5] [] (hp (itr (fun r M => wI M 211 r (nI 0)) 51 M)) Q) := by
  intro n
  induction n with
  | zero =>
    intro j hj
    obtain rfl : j = 51 := by omega
    rw [zi_Liveness_study_2]
    simp (decide := true) only [zi_Liveness_study_3, zi_Liveness_study_5, zi_Liveness_study_8, zi_Liveness_study_9, zi_Liveness_study_12, zi_Liveness_study_13, zi_Liveness_study_14, zi_Liveness_study_15, zi_Liveness_study_18, ↓reduceIte, mj_op_s, Option.toList_some, Option.toList_none, List.cons_append, List.nil_append, hp_1, hp_2, true_and, and_true, zb_0, zb_1, zb_b, va_rf]
  | succ n ih =>
    intro j hj
    have hj8 : j < 51 := by omega
    have e1 : nI j < nI 51 := nI_lt (by omega) (by omega)
    rw [zi_Liveness_study_2]
    simp (disch := assumption) only [zi_Liveness_study_3, zi_Liveness_study_5, zi_Liveness_study_8, zi_Liveness_study_9, zi_Liveness_study_12, zi_Liveness_study_13, zi_Liveness_study_14, zi_Liveness_study_15, zi_Liveness_study_18, ↓reduceIte, mj_op_s, Option.toList_some, Option.toList_none, List.cons_append, List.nil_append, hp_1, hp_2, true_and, and_true, zb_0, zb_1, zb_b, va_rf, io_210, ↓ogf_210_0, ↓oai_211, ↓owi_211, e1, nI_add]
    exact ih (j + 1) (by omega)
theorem itr_Iz {c : Nat} : ∀ (j : Nat) (i k : Nat), rI (itr (fun r M => wI M c r (nI 0)) j M) i k = if i = c ∧ k < j then nI 0 else rI M i k
  | 0, i, k => by simp [itr]
  | j + 1, i, k => by
    have ih := itr_Iz (c := c) j i k
    simp only [itr, rI_wI, ih]
    by_cases h1 : i = c ∧ k = j
    · obtain ⟨rfl, rfl⟩ := h1; simp
    · rw [if_neg h1]
      by_cases h2 : i = c ∧ k < j
      · rw [if_pos h2, if_pos ⟨h2.1, by omega⟩]
      · rw [if_neg h2, if_neg (fun z => by omega)]
theorem itr_I2 {c : Nat} : ∀ (j : Nat), (itr (fun r M => wI M c r (nI 0)) j M).2 = M.2
  | 0 => rfl
  | j + 1 => itr_I2 j
theorem msk_start : itr (fun r M => wI M 211 r (nI 0)) 51 M = mskM M (fun _ => 0) := by
  have e := itr_I2 (M := M) (c := 211) 51
  refine mm_ext (fun i k => ?_) (fun i k => ?_) (fun i k => ?_) ?_
  · rw [itr_Iz, mk_I]
  · exact congrArg (fun z => z.1 i k) e
  · exact congrArg (fun z => z.2.1 i k) e
  · exact congrArg (fun z => z.2.2) e
theorem c_Liveness_study (ho : isRt o) (hR : hasR M o len A) (hok : okR len A) (hend : ∀ m : Nat → Nat, (∀ q, m q < 256) → lvL len A (bitsF m) → Q none (hp (mskM M m))) : mj_V (d + 3) lim mq_Liveness_study 0 [.ref 210, .ref o, mj_j, mj_j, mj_j, mj_j] [] (hp M) Q := by
  simp only [zi_Liveness_study_0, zi_Liveness_study_1, ↓reduceIte, mj_op_s, Option.toList_some, Option.toList_none, List.cons_append, List.nil_append, hp_1, hp_2, true_and, and_true, zb_0, zb_1, zb_b, va_rf]
  refine (l_study_zero 51 0 (by omega)).mpr ?_
  rw [msk_start]
  simp only [zi_Liveness_study_21, zi_Liveness_study_22, zi_Liveness_study_23, zi_Liveness_study_24, ↓reduceIte, mj_op_s, Option.toList_some, Option.toList_none, List.cons_append, List.nil_append, hp_1, hp_2, true_and, and_true, zb_0, zb_1, zb_b, va_rf]
  refine l_study_out ho hR hok hend (8 * len + 1) 0 (fun _ => 0) _ _ (by omega) (Nat.zero_le _) ⟨fun q => by show 0 < 256; omega, fun _ _ => rfl, fun p r _ _ h => ?_, fun S' _ p r _ _ h => ?_⟩
  · rw [Nat.zero_testBit] at h; cases h
  · rw [Nat.zero_testBit] at h; cases h
end C63
