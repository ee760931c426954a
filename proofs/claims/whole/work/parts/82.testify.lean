/-! class: testify -/
section C82
variable {d : Nat} {lim : Nat × Nat} {Q : mj_Q} {M M' : mm} {o o2 len p q j r n w : Nat} {A B : AA} {C : Nat → Bool} {F : KF} {S : Nat → Nat → Bool} {W : WS} {x : WR}
theorem fwW_le : ∀ p, (fwW C F p).1 ≤ p := by
  intro p
  induction p with
  | zero => exact Nat.le_refl 0
  | succ p ih =>
    unfold fwW
    split
    · exact Nat.succ_le_succ ih
    · exact Nat.le_succ_of_le ih
theorem dwW_le : ∀ p, (dwW S p).1 = p := by
  intro p
  induction p with
  | zero => rfl
  | succ p ih => exact congrArg Nat.succ ih
theorem twA_le : ∀ p, (twA p).1 = p := by
  intro p
  induction p with
  | zero => rfl
  | succ p ih => exact congrArg Nat.succ ih
theorem twB_le : ∀ p, (twB len A p).1 ≤ len + 1 + p := by
  intro p
  induction p with
  | zero => exact Nat.le_of_eq (twA_le _)
  | succ p ih =>
    unfold twB
    split
    · omega
    · exact Nat.succ_le_succ ih
theorem pwW_le : ∀ p, (pwW len A p).1 = p := by
  intro p
  induction p with
  | zero => rfl
  | succ p ih => exact congrArg Nat.succ ih
theorem wi_sd : ∀ i k, 203 ≤ i → i ≤ 216 → ¬ wiP i k := fun i k h1 h2 => by unfold wiP; omega
theorem wi_rt (ho : isRt o) : ∀ j k, j ≤ 4 → ¬ wiP (o + j) k := by
  intro j k hj
  unfold wiP
  rcases ho with h | h | h | h | h <;> omega
theorem wc_wi : ∀ i k, wcP n i k → wiP i k := fun i k h => by unfold wcP at h; unfold wiP; omega
abbrev fwC (F : KF) (p : Nat) (r : Nat) : Int32 := if (F p r).isSome = true then nI 2 else nI 1
theorem l_testifyFold_k (hK : kR M F) (hp0 : p < 51) (hw : w < 200) {o : Nat} (hend : ∀ x5 x6 : Value, mj_V (d + 1) lim mq_Passes_testifyFold 88 [.ref 212, .ref o, .ref 231, .int (nI p), .int (nI w), x5, x6] [] (hp (itr (fun r => cS w r (fwC F p r) ((F p r).getD 0)) 8 M)) Q) : ∀ (m j : Nat) (x6 : Value), j + m = 8 → mj_V (d + 1) lim mq_Passes_testifyFold 35 [.ref 212, .ref o, .ref 231, .int (nI p), .int (nI w), .int (nI j), x6] [] (hp (itr (fun r => cS w r (fwC F p r) ((F p r).getD 0)) j M)) Q := by
  intro m
  induction m with
  | zero =>
    intro j x6 hj
    obtain rfl : j = 8 := by omega
    rw [zi_Passes_testifyFold_35]
    simp (decide := true) only [zi_Passes_testifyFold_37, zi_Passes_testifyFold_39, ↓reduceIte, mj_op_s, Option.toList_some, Option.toList_none, List.cons_append, List.nil_append, hp_1, hp_2, true_and, and_true, zb_0, zb_1, zb_b, va_rf]
    exact hend _ _
  | succ m ih =>
    intro j x6 hj
    have hj8 : j < 8 := by omega
    have e1 : nI j < nI 8 := nI_lt (by omega) (by omega)
    have hK2 : kR (itr (fun r => cS w r (fwC F p r) ((F p r).getD 0)) j M) F := kR_sv (sv_mono (sv_cS (M := M) (w := w) j (by omega)).1 wc_wi) wi_sd hK
    rw [zi_Passes_testifyFold_35]
    cases hF : (F p j).isSome with
    | true =>
      have hc : fwC F p j = nI 2 := if_pos hF
      have hn := ih (j + 1)
      have e2 : itr (fun r => cS w r (fwC F p r) ((F p r).getD 0)) (j + 1) M = cS w j (nI 2) ((F p j).getD 0) (itr (fun r => cS w r (fwC F p r) ((F p r).getD 0)) j M) := by
        show cS w j (fwC F p j) ((F p j).getD 0) _ = _
        rw [hc]
      rw [e2] at hn
      simp (decide := true) (disch := first | assumption | omega) only [zi_Passes_testifyFold_37, zi_Passes_testifyFold_39, zi_Passes_testifyFold_42, zi_Passes_testifyFold_43, zi_Passes_testifyFold_46, zi_Passes_testifyFold_47, zi_Passes_testifyFold_49, zi_Passes_testifyFold_52, zi_Passes_testifyFold_54, zi_Passes_testifyFold_55, zi_Passes_testifyFold_57, zi_Passes_testifyFold_59, zi_Passes_testifyFold_61, zi_Passes_testifyFold_64, zi_Passes_testifyFold_65, zi_Passes_testifyFold_68, zi_Passes_testifyFold_69, zi_Passes_testifyFold_70, zi_Passes_testifyFold_73, zi_Passes_testifyFold_74, zi_Passes_testifyFold_76, zi_Passes_testifyFold_79, zi_Passes_testifyFold_82, zi_Passes_testifyFold_85, ↓reduceIte, mj_op_s, Option.toList_some, Option.toList_none, List.cons_append, List.nil_append, hp_1, hp_2, true_and, and_true, zb_0, zb_1, zb_b, va_rf, io_203, ↓ogf_203_0, ↓ogf_203_1, ↓ogf_203_2, ↓ogf_203_3, ↓ogf_203_4, ↓opf_203_4_0, ↓opf_203_4_1, ↓ogf_203_5, ↓ogf_203_6, io_212, ↓ogf_212_0, ↓ogf_212_1, ↓ogf_212_2, ↓ogf_212_3, ↓ogf_212_4, ↓ogf_212_5, io_231, ↓ogf_231_0, ↓ogf_231_1, ↓ogf_231_2, ↓ogf_231_3, ↓ogf_231_4, ↓ogf_231_5, ↓ogf_231_6, ↓opf_231_6, e1, g_isKnown hK2 hp0 hj8, g_numberIn hK2 hp0 hj8, hF, b1_t, c_Witness_setClaim hw hj8, nI_add]
      exact hn _ (by omega)
    | false =>
      have hc : fwC F p j = nI 1 := if_neg (by rw [hF]; simp)
      have hn := ih (j + 1)
      have e2 : itr (fun r => cS w r (fwC F p r) ((F p r).getD 0)) (j + 1) M = cS w j (nI 1) ((F p j).getD 0) (itr (fun r => cS w r (fwC F p r) ((F p r).getD 0)) j M) := by
        show cS w j (fwC F p j) ((F p j).getD 0) _ = _
        rw [hc]
      rw [e2] at hn
      simp (decide := true) (disch := first | assumption | omega) only [zi_Passes_testifyFold_37, zi_Passes_testifyFold_39, zi_Passes_testifyFold_42, zi_Passes_testifyFold_43, zi_Passes_testifyFold_46, zi_Passes_testifyFold_47, zi_Passes_testifyFold_49, zi_Passes_testifyFold_52, zi_Passes_testifyFold_54, zi_Passes_testifyFold_55, zi_Passes_testifyFold_57, zi_Passes_testifyFold_59, zi_Passes_testifyFold_61, zi_Passes_testifyFold_64, zi_Passes_testifyFold_65, zi_Passes_testifyFold_68, zi_Passes_testifyFold_69, zi_Passes_testifyFold_70, zi_Passes_testifyFold_73, zi_Passes_testifyFold_74, zi_Passes_testifyFold_76, zi_Passes_testifyFold_79, zi_Passes_testifyFold_82, zi_Passes_testifyFold_85, ↓reduceIte, mj_op_s, Option.toList_some, Option.toList_none, List.cons_append, List.nil_append, hp_1, hp_2, true_and, and_true, zb_0, zb_1, zb_b, va_rf, io_203, ↓ogf_203_0, ↓ogf_203_1, ↓ogf_203_2, ↓ogf_203_3, ↓ogf_203_4, ↓opf_203_4_0, ↓opf_203_4_1, ↓ogf_203_5, ↓ogf_203_6, io_212, ↓ogf_212_0, ↓ogf_212_1, ↓ogf_212_2, ↓ogf_212_3, ↓ogf_212_4, ↓ogf_212_5, io_231, ↓ogf_231_0, ↓ogf_231_1, ↓ogf_231_2, ↓ogf_231_3, ↓ogf_231_4, ↓ogf_231_5, ↓ogf_231_6, ↓opf_231_6, e1, g_isKnown hK2 hp0 hj8, g_numberIn hK2 hp0 hj8, hF, b1_f, c_Witness_setClaim hw hj8, nI_add]
      exact hn _ (by omega)
theorem l_testifyFold (ho : isRt o) (hR : hasR M o len A) (hok : okR len A) (hK : kR M F) (hC : ∀ p, p < 51 → rI M 204 p = b1 (C p)) (hend : ∀ M', sv wiP M M' → hasW M' (fwW C F (len + 1)) → Q none (hp M')) : ∀ (n p : Nat) (M' : mm) (x4 x5 x6 : Value), p + n = len + 1 → sv wiP M M' → hasW M' (fwW C F p) → mj_V (d + 2) lim mq_Passes_testifyFold 2 [.ref 212, .ref o, .ref 231, .int (nI p), x4, x5, x6] [] (hp M') Q := by
  have h50 := hok.1
  intro n
  induction n with
  | zero =>
    intro p M' x4 x5 x6 hn hv hW
    obtain rfl : p = len + 1 := by omega
    have r0 := (sv_hasR hv (wi_rt ho) hR).1
    have e1 : nI len < nI (len + 1) := nI_lt (by omega) (by omega)
    rw [zi_Passes_testifyFold_2]
    simp (disch := first | assumption | omega) only [zi_Passes_testifyFold_3, zi_Passes_testifyFold_4, zi_Passes_testifyFold_7, zi_Passes_testifyFold_94, ↓reduceIte, mj_op_s, Option.toList_some, Option.toList_none, List.cons_append, List.nil_append, hp_1, hp_2, true_and, and_true, zb_0, zb_1, zb_b, va_rf, io_rt, ↓ogf_rt_0, ↓ogf_rt_1, ↓ogf_rt_2, ↓ogf_rt_3, ↓ogf_rt_4, ↓oai_rt_0, ↓oai_rt_1, ↓oai_rt_2, ↓oai_rt_3, ↓owi_rt_0, ↓owi_rt_1, ↓owi_rt_2, ↓owi_rt_3, ↓opf_rt, r0, e1]
    exact hend M' hv hW
  | succ n ih =>
    intro p M' x4 x5 x6 hn hv hW
    have hR' := sv_hasR hv (wi_rt ho) hR
    have r0 := hR'.1
    have hp51 : p < 51 := by omega
    have e1 : ¬ nI len < nI p := nI_nlt (by omega) (by omega)
    have hle := fwW_le (C := C) (F := F) p
    have hw : (fwW C F p).1 < 200 := by omega
    have r4 : rI M' 204 p = b1 (C p) := (sv_I hv (wi_sd _ _ (by omega) (by omega))).trans (hC p hp51)
    rw [zi_Passes_testifyFold_2]
    cases hc : C p with
    | true =>
      rw [hc] at r4
      have r4 : rI M' 204 p = nI 1 := r4
      have eW : fwW C F (p + 1) = wap (fwW C F p) (p, p, 0, 0, fun r => if r < 8 ∧ (F p r).isSome = true then 2 else 1, fun r => if r < 8 then (F p r).getD 0 else 0) := if_pos hc
      obtain ⟨k1, k2⟩ := hasW_cl (x := (p, p, 0, 0, fun r => if r < 8 ∧ (F p r).isSome = true then 2 else 1, fun r => if r < 8 then (F p r).getD 0 else 0)) hW (f := p) (s := p) (m := 0) (e := 0) (c0 := fun _ => nI 0) (v0 := fun _ => 0) (c := fun r => fwC F p r) (v := fun r => (F p r).getD 0) ⟨rfl, rfl, rfl, rfl⟩ (fun r hr => by
        show (fwC F p r) = nI (if r < 8 ∧ (F p r).isSome = true then 2 else 1) ∧ (if fwC F p r = nI 2 then (F p r).getD 0 else 0) = (if r < 8 then (F p r).getD 0 else 0)
        unfold fwC
        rw [if_pos hr]
        cases F p r with
        | none => simp
        | some v => simp [hr])
      have hK3 : kR (itr (fun r => cS (fwW C F p).1 r (nI 0) 0) 8 (wA (fwW C F p).1 (nI p) (nI p) (nI 0) (nI 0) M')) F := by
        refine kR_sv (sv_mono (sv_cS (M := wA (fwW C F p).1 (nI p) (nI p) (nI 0) (nI 0) M') (w := (fwW C F p).1) (c := fun _ => nI 0) (v := fun _ => 0) 8 (by omega)).1 wc_wi) wi_sd ?_
        exact kR_sv (wt_wi hw sv_wA) wi_sd (kR_sv hv wi_sd hK)
      simp (decide := true) (disch := first | assumption | omega) only [zi_Passes_testifyFold_3, zi_Passes_testifyFold_4, zi_Passes_testifyFold_7, zi_Passes_testifyFold_10, zi_Passes_testifyFold_11, zi_Passes_testifyFold_14, zi_Passes_testifyFold_17, zi_Passes_testifyFold_18, zi_Passes_testifyFold_19, zi_Passes_testifyFold_22, zi_Passes_testifyFold_23, zi_Passes_testifyFold_24, zi_Passes_testifyFold_25, zi_Passes_testifyFold_26, zi_Passes_testifyFold_27, zi_Passes_testifyFold_30, zi_Passes_testifyFold_32, zi_Passes_testifyFold_33, ↓reduceIte, mj_op_s, Option.toList_some, Option.toList_none, List.cons_append, List.nil_append, hp_1, hp_2, true_and, and_true, zb_0, zb_1, zb_b, va_rf, io_rt, ↓ogf_rt_0, ↓ogf_rt_1, ↓ogf_rt_2, ↓ogf_rt_3, ↓ogf_rt_4, ↓oai_rt_0, ↓oai_rt_1, ↓oai_rt_2, ↓oai_rt_3, ↓owi_rt_0, ↓owi_rt_1, ↓owi_rt_2, ↓owi_rt_3, ↓opf_rt, io_203, ↓ogf_203_0, ↓ogf_203_1, ↓ogf_203_2, ↓ogf_203_3, ↓ogf_203_4, ↓opf_203_4_0, ↓opf_203_4_1, ↓ogf_203_5, ↓ogf_203_6, ↓oaz_204, ↓owz_204, io_212, ↓ogf_212_0, ↓ogf_212_1, ↓ogf_212_2, ↓ogf_212_3, ↓ogf_212_4, ↓ogf_212_5, io_231, ↓ogf_231_0, ↓ogf_231_1, ↓ogf_231_2, ↓ogf_231_3, ↓ogf_231_4, ↓ogf_231_5, ↓ogf_231_6, ↓opf_231_6, r0, e1, r4, c_Witness_append hw hW.1]
      refine l_testifyFold_k (d := d + 1) hK3 hp51 hw (fun x5 x6 => ?_) 8 0 _ (by omega)
      simp only [zi_Passes_testifyFold_88, zi_Passes_testifyFold_91, ↓reduceIte, mj_op_s, Option.toList_some, Option.toList_none, List.cons_append, List.nil_append, hp_1, hp_2, true_and, and_true, zb_0, zb_1, zb_b, va_rf, nI_add]
      exact ih (p + 1) _ _ _ _ (by omega) (sv_trans hv (wt_wi hw k2)) (by rw [eW]; exact k1)
    | false =>
      rw [hc] at r4
      have r4 : rI M' 204 p = nI 0 := r4
      have eW : fwW C F (p + 1) = fwW C F p := if_neg (by rw [hc]; simp)
      simp (decide := true) (disch := first | assumption | omega) only [zi_Passes_testifyFold_3, zi_Passes_testifyFold_4, zi_Passes_testifyFold_7, zi_Passes_testifyFold_10, zi_Passes_testifyFold_11, zi_Passes_testifyFold_14, zi_Passes_testifyFold_17, zi_Passes_testifyFold_18, zi_Passes_testifyFold_19, zi_Passes_testifyFold_88, zi_Passes_testifyFold_91, ↓reduceIte, mj_op_s, Option.toList_some, Option.toList_none, List.cons_append, List.nil_append, hp_1, hp_2, true_and, and_true, zb_0, zb_1, zb_b, va_rf, io_rt, ↓ogf_rt_0, ↓ogf_rt_1, ↓ogf_rt_2, ↓ogf_rt_3, ↓ogf_rt_4, ↓oai_rt_0, ↓oai_rt_1, ↓oai_rt_2, ↓oai_rt_3, ↓owi_rt_0, ↓owi_rt_1, ↓owi_rt_2, ↓owi_rt_3, ↓opf_rt, io_203, ↓ogf_203_0, ↓ogf_203_1, ↓ogf_203_2, ↓ogf_203_3, ↓ogf_203_4, ↓opf_203_4_0, ↓opf_203_4_1, ↓ogf_203_5, ↓ogf_203_6, ↓oaz_204, ↓owz_204, io_212, ↓ogf_212_0, ↓ogf_212_1, ↓ogf_212_2, ↓ogf_212_3, ↓ogf_212_4, ↓ogf_212_5, io_231, ↓ogf_231_0, ↓ogf_231_1, ↓ogf_231_2, ↓ogf_231_3, ↓ogf_231_4, ↓ogf_231_5, ↓ogf_231_6, ↓opf_231_6, r0, e1, r4, nI_add]
      exact ih (p + 1) M' _ _ _ (by omega) hv (by rw [eW]; exact hW)
theorem c_testifyFold (ho : isRt o) (hR : hasR M o len A) (hok : okR len A) (hK : kR M F) (hC : ∀ p, p < 51 → rI M 204 p = b1 (C p)) (hW : hasW M w0) (hend : ∀ M', sv wiP M M' → hasW M' (fwW C F (len + 1)) → Q none (hp M')) : mj_V (d + 2) lim mq_Passes_testifyFold 0 [.ref 212, .ref o, .ref 231, mj_j, mj_j, mj_j, mj_j] [] (hp M) Q := by
  simp only [zi_Passes_testifyFold_0, zi_Passes_testifyFold_1, ↓reduceIte, mj_op_s, Option.toList_some, Option.toList_none, List.cons_append, List.nil_append, hp_1, hp_2, true_and, and_true, zb_0, zb_1, zb_b, va_rf]
  exact l_testifyFold ho hR hok hK hC hend (len + 1) 0 M _ _ _ (by omega) sv_refl hW
abbrev dwC (m : Nat → Nat) (p : Nat) (r : Nat) : Int32 := if (m p).testBit r = true then nI 1 else nI 0
theorem l_testifyDrop_k {m : Nat → Nat} (hm : m p < 256) (hq : rI M 211 p = nI (m p)) (hp0 : p < 51) (hw : w < 200) {o : Nat} (hend : ∀ (x5 : Int32) (x6 : Value), mj_V (d + 1) lim mq_Passes_testifyDrop 67 [.ref 212, .ref o, .ref 231, .int (nI p), .int (nI w), .int x5, x6] [] (hp (itr (fun r => cS w r (dwC m p r) 0) 8 M)) Q) : ∀ (n j : Nat) (x6 : Value), j + n = 8 → mj_V (d + 1) lim mq_Passes_testifyDrop 23 [.ref 212, .ref o, .ref 231, .int (nI p), .int (nI w), .int (nI j), x6] [] (hp (itr (fun r => cS w r (dwC m p r) 0) j M)) Q := by
  intro n
  induction n with
  | zero =>
    intro j x6 hj
    obtain rfl : j = 8 := by omega
    rw [zi_Passes_testifyDrop_23]
    simp (decide := true) only [zi_Passes_testifyDrop_25, zi_Passes_testifyDrop_27, ↓reduceIte, mj_op_s, Option.toList_some, Option.toList_none, List.cons_append, List.nil_append, hp_1, hp_2, true_and, and_true, zb_0, zb_1, zb_b, va_rf]
    exact hend _ _
  | succ n ih =>
    intro j x6 hj
    have hj8 : j < 8 := by omega
    have e1 : nI j < nI 8 := nI_lt (by omega) (by omega)
    have hq2 : rI (itr (fun r => cS w r (dwC m p r) 0) j M) 211 p = nI (m p) := (sv_I (sv_cS (M := M) (w := w) (c := dwC m p) (v := fun _ => 0) j (by omega)).1 (by unfold wcP; omega)).trans hq
    rw [zi_Passes_testifyDrop_23]
    by_cases hb : (m p).testBit j = true
    · have hc : dwC m p j = nI 1 := if_pos hb
      have hn := ih (j + 1)
      have e2 : itr (fun r => cS w r (dwC m p r) 0) (j + 1) M = cS w j (nI 1) 0 (itr (fun r => cS w r (dwC m p r) 0) j M) := by
        show cS w j (dwC m p j) 0 _ = _
        rw [hc]
      rw [e2] at hn
      have hb1 := bI_t hb
      simp (decide := true) (disch := first | assumption | omega) only [zi_Passes_testifyDrop_25, zi_Passes_testifyDrop_27, zi_Passes_testifyDrop_30, zi_Passes_testifyDrop_31, zi_Passes_testifyDrop_34, zi_Passes_testifyDrop_35, zi_Passes_testifyDrop_37, zi_Passes_testifyDrop_40, zi_Passes_testifyDrop_42, zi_Passes_testifyDrop_43, zi_Passes_testifyDrop_45, zi_Passes_testifyDrop_47, zi_Passes_testifyDrop_49, zi_Passes_testifyDrop_52, zi_Passes_testifyDrop_53, zi_Passes_testifyDrop_56, zi_Passes_testifyDrop_57, zi_Passes_testifyDrop_58, zi_Passes_testifyDrop_61, zi_Passes_testifyDrop_64, ↓reduceIte, mj_op_s, Option.toList_some, Option.toList_none, List.cons_append, List.nil_append, hp_1, hp_2, true_and, and_true, zb_0, zb_1, zb_b, va_rf, io_210, ↓ogf_210_0, io_212, ↓ogf_212_0, ↓ogf_212_1, ↓ogf_212_2, ↓ogf_212_3, ↓ogf_212_4, ↓ogf_212_5, io_231, ↓ogf_231_0, ↓ogf_231_1, ↓ogf_231_2, ↓ogf_231_3, ↓ogf_231_4, ↓ogf_231_5, ↓ogf_231_6, ↓opf_231_6, e1, c_Liveness_isLive hp0 hj8 hm hq2, hb1, c_Witness_setClaim hw hj8, nI_add]
      exact hn _ (by omega)
    · have hc : dwC m p j = nI 0 := if_neg hb
      have hn := ih (j + 1)
      have e2 : itr (fun r => cS w r (dwC m p r) 0) (j + 1) M = cS w j (nI 0) 0 (itr (fun r => cS w r (dwC m p r) 0) j M) := by
        show cS w j (dwC m p j) 0 _ = _
        rw [hc]
      rw [e2] at hn
      have hb1 := bI_f hb
      simp (decide := true) (disch := first | assumption | omega) only [zi_Passes_testifyDrop_25, zi_Passes_testifyDrop_27, zi_Passes_testifyDrop_30, zi_Passes_testifyDrop_31, zi_Passes_testifyDrop_34, zi_Passes_testifyDrop_35, zi_Passes_testifyDrop_37, zi_Passes_testifyDrop_40, zi_Passes_testifyDrop_42, zi_Passes_testifyDrop_43, zi_Passes_testifyDrop_45, zi_Passes_testifyDrop_47, zi_Passes_testifyDrop_49, zi_Passes_testifyDrop_52, zi_Passes_testifyDrop_53, zi_Passes_testifyDrop_56, zi_Passes_testifyDrop_57, zi_Passes_testifyDrop_58, zi_Passes_testifyDrop_61, zi_Passes_testifyDrop_64, ↓reduceIte, mj_op_s, Option.toList_some, Option.toList_none, List.cons_append, List.nil_append, hp_1, hp_2, true_and, and_true, zb_0, zb_1, zb_b, va_rf, io_210, ↓ogf_210_0, io_212, ↓ogf_212_0, ↓ogf_212_1, ↓ogf_212_2, ↓ogf_212_3, ↓ogf_212_4, ↓ogf_212_5, io_231, ↓ogf_231_0, ↓ogf_231_1, ↓ogf_231_2, ↓ogf_231_3, ↓ogf_231_4, ↓ogf_231_5, ↓ogf_231_6, ↓opf_231_6, e1, c_Liveness_isLive hp0 hj8 hm hq2, hb1, c_Witness_setClaim hw hj8, nI_add]
      exact hn _ (by omega)
theorem l_testifyDrop (ho : isRt o) (hR : hasR M o len A) (hok : okR len A) {m : Nat → Nat} (hm : ∀ q, m q < 256) (hq : ∀ q, q < 51 → rI M 211 q = nI (m q)) (hend : ∀ M', sv wiP M M' → hasW M' (dwW (bitsF m) (len + 1)) → Q none (hp M')) : ∀ (n p : Nat) (M' : mm) (x4 x5 x6 : Value), p + n = len + 1 → sv wiP M M' → hasW M' (dwW (bitsF m) p) → mj_V (d + 2) lim mq_Passes_testifyDrop 2 [.ref 212, .ref o, .ref 231, .int (nI p), x4, x5, x6] [] (hp M') Q := by
  have h50 := hok.1
  intro n
  induction n with
  | zero =>
    intro p M' x4 x5 x6 hn hv hW
    obtain rfl : p = len + 1 := by omega
    have r0 := (sv_hasR hv (wi_rt ho) hR).1
    have e1 : nI len < nI (len + 1) := nI_lt (by omega) (by omega)
    rw [zi_Passes_testifyDrop_2]
    simp (disch := first | assumption | omega) only [zi_Passes_testifyDrop_3, zi_Passes_testifyDrop_4, zi_Passes_testifyDrop_7, zi_Passes_testifyDrop_73, ↓reduceIte, mj_op_s, Option.toList_some, Option.toList_none, List.cons_append, List.nil_append, hp_1, hp_2, true_and, and_true, zb_0, zb_1, zb_b, va_rf, io_rt, ↓ogf_rt_0, ↓ogf_rt_1, ↓ogf_rt_2, ↓ogf_rt_3, ↓ogf_rt_4, ↓oai_rt_0, ↓oai_rt_1, ↓oai_rt_2, ↓oai_rt_3, ↓owi_rt_0, ↓owi_rt_1, ↓owi_rt_2, ↓owi_rt_3, ↓opf_rt, r0, e1]
    exact hend M' hv hW
  | succ n ih =>
    intro p M' x4 x5 x6 hn hv hW
    have hR' := sv_hasR hv (wi_rt ho) hR
    have r0 := hR'.1
    have hp51 : p < 51 := by omega
    have e1 : ¬ nI len < nI p := nI_nlt (by omega) (by omega)
    have hle := dwW_le (S := bitsF m) p
    have hw : (dwW (bitsF m) p).1 < 200 := by omega
    have r4 : rI M' 211 p = nI (m p) := (sv_I hv (wi_sd _ _ (by omega) (by omega))).trans (hq p hp51)
    rw [zi_Passes_testifyDrop_2]
    obtain ⟨k1, k2⟩ := hasW_cl (x := (p, p, 0, 0, fun r => if r < 8 ∧ bitsF m p r = true then 1 else 0, fun _ => 0)) hW (f := p) (s := p) (m := 0) (e := 0) (c0 := fun _ => nI 0) (v0 := fun _ => 0) (c := fun r => dwC m p r) (v := fun _ => 0) ⟨rfl, rfl, rfl, rfl⟩ (fun r hr => by
      show (dwC m p r) = nI (if r < 8 ∧ bitsF m p r = true then 1 else 0) ∧ (if dwC m p r = nI 2 then 0 else 0) = 0
      unfold dwC bitsF
      refine ⟨?_, ite_self _⟩
      by_cases c : (m p).testBit r = true
      · rw [if_pos c, if_pos ⟨hr, c⟩]
      · rw [if_neg c, if_neg (fun z => c z.2)])
    have r5 : rI (itr (fun r => cS (dwW (bitsF m) p).1 r (nI 0) 0) 8 (wA (dwW (bitsF m) p).1 (nI p) (nI p) (nI 0) (nI 0) M')) 211 p = nI (m p) := by
      refine (sv_I (sv_cS (M := wA (dwW (bitsF m) p).1 (nI p) (nI p) (nI 0) (nI 0) M') (w := (dwW (bitsF m) p).1) (c := fun _ => nI 0) (v := fun _ => 0) 8 (by omega)).1 (by unfold wcP; omega)).trans ?_
      exact (sv_I (wt_wi hw sv_wA) (wi_sd _ _ (by omega) (by omega))).trans r4
    simp (decide := true) (disch := first | assumption | omega) only [zi_Passes_testifyDrop_3, zi_Passes_testifyDrop_4, zi_Passes_testifyDrop_7, zi_Passes_testifyDrop_10, zi_Passes_testifyDrop_11, zi_Passes_testifyDrop_12, zi_Passes_testifyDrop_13, zi_Passes_testifyDrop_14, zi_Passes_testifyDrop_15, zi_Passes_testifyDrop_18, zi_Passes_testifyDrop_20, zi_Passes_testifyDrop_21, ↓reduceIte, mj_op_s, Option.toList_some, Option.toList_none, List.cons_append, List.nil_append, hp_1, hp_2, true_and, and_true, zb_0, zb_1, zb_b, va_rf, io_rt, ↓ogf_rt_0, ↓ogf_rt_1, ↓ogf_rt_2, ↓ogf_rt_3, ↓ogf_rt_4, ↓oai_rt_0, ↓oai_rt_1, ↓oai_rt_2, ↓oai_rt_3, ↓owi_rt_0, ↓owi_rt_1, ↓owi_rt_2, ↓owi_rt_3, ↓opf_rt, io_212, ↓ogf_212_0, ↓ogf_212_1, ↓ogf_212_2, ↓ogf_212_3, ↓ogf_212_4, ↓ogf_212_5, io_231, ↓ogf_231_0, ↓ogf_231_1, ↓ogf_231_2, ↓ogf_231_3, ↓ogf_231_4, ↓ogf_231_5, ↓ogf_231_6, ↓opf_231_6, r0, e1, c_Witness_append hw hW.1]
    refine l_testifyDrop_k (d := d + 1) (hm p) r5 hp51 hw (fun x5 x6 => ?_) 8 0 _ (by omega)
    simp only [zi_Passes_testifyDrop_67, zi_Passes_testifyDrop_70, ↓reduceIte, mj_op_s, Option.toList_some, Option.toList_none, List.cons_append, List.nil_append, hp_1, hp_2, true_and, and_true, zb_0, zb_1, zb_b, va_rf, nI_add]
    exact ih (p + 1) _ _ _ _ (by omega) (sv_trans hv (wt_wi hw k2)) k1
theorem c_testifyDrop (ho : isRt o) (hR : hasR M o len A) (hok : okR len A) {m : Nat → Nat} (hm : ∀ q, m q < 256) (hq : ∀ q, q < 51 → rI M 211 q = nI (m q)) (hW : hasW M w0) (hend : ∀ M', sv wiP M M' → hasW M' (dwW (bitsF m) (len + 1)) → Q none (hp M')) : mj_V (d + 2) lim mq_Passes_testifyDrop 0 [.ref 212, .ref o, .ref 231, mj_j, mj_j, mj_j, mj_j] [] (hp M) Q := by
  simp only [zi_Passes_testifyDrop_0, zi_Passes_testifyDrop_1, ↓reduceIte, mj_op_s, Option.toList_some, Option.toList_none, List.cons_append, List.nil_append, hp_1, hp_2, true_and, and_true, zb_0, zb_1, zb_b, va_rf]
  exact l_testifyDrop ho hR hok hm hq hend (len + 1) 0 M _ _ _ (by omega) sv_refl hW
/-- all the same -/
theorem hasW_as (hW : hasW M W) {f s m e : Nat} : hasW (itr (fun r => cS W.1 r (nI 1) 0) 8 (itr (fun r => cS W.1 r (nI 0) 0) 8 (wA W.1 (nI f) (nI s) (nI m) (nI e) M))) (wap W (f, s, m, e, fun _ => 1, fun _ => 0)) ∧ sv (wtP W.1) M (itr (fun r => cS W.1 r (nI 1) 0) 8 (itr (fun r => cS W.1 r (nI 0) 0) 8 (wA W.1 (nI f) (nI s) (nI m) (nI e) M))) :=
  hasW_cl (x := (f, s, m, e, fun _ => 1, fun _ => 0)) hW (f := f) (s := s) (m := m) (e := e) (c0 := fun _ => nI 0) (v0 := fun _ => 0) (c := fun _ => nI 1) (v := fun _ => 0) ⟨rfl, rfl, rfl, rfl⟩ (fun r _ => ⟨rfl, ite_self _⟩)
theorem l_testifyThread_a (ho : isRt o) (hR : hasR M o len A) (hok : okR len A) (hend : ∀ M', sv wiP M M' → hasW M' (twA (len + 1)) → mj_V (d + 3) lim mq_Passes_testifyThread 24 [.ref 212, .ref o, .ref 231, .int (nI (len + 1))] [] (hp M') Q) : ∀ (n p : Nat) (M' : mm), p + n = len + 1 → sv wiP M M' → hasW M' (twA p) → mj_V (d + 3) lim mq_Passes_testifyThread 2 [.ref 212, .ref o, .ref 231, .int (nI p)] [] (hp M') Q := by
  have h50 := hok.1
  intro n
  induction n with
  | zero =>
    intro p M' hn hv hW
    obtain rfl : p = len + 1 := by omega
    have r0 := (sv_hasR hv (wi_rt ho) hR).1
    have e1 : nI len < nI (len + 1) := nI_lt (by omega) (by omega)
    rw [zi_Passes_testifyThread_2]
    simp (disch := first | assumption | omega) only [zi_Passes_testifyThread_3, zi_Passes_testifyThread_4, zi_Passes_testifyThread_7, ↓reduceIte, mj_op_s, Option.toList_some, Option.toList_none, List.cons_append, List.nil_append, hp_1, hp_2, true_and, and_true, zb_0, zb_1, zb_b, va_rf, io_rt, ↓ogf_rt_0, ↓ogf_rt_1, ↓ogf_rt_2, ↓ogf_rt_3, ↓ogf_rt_4, ↓oai_rt_0, ↓oai_rt_1, ↓oai_rt_2, ↓oai_rt_3, ↓owi_rt_0, ↓owi_rt_1, ↓owi_rt_2, ↓owi_rt_3, ↓opf_rt, r0, e1]
    exact hend M' hv hW
  | succ n ih =>
    intro p M' hn hv hW
    have hR' := sv_hasR hv (wi_rt ho) hR
    have r0 := hR'.1
    have e1 : ¬ nI len < nI p := nI_nlt (by omega) (by omega)
    have hle := twA_le p
    have hw : (twA p).1 < 200 := by omega
    obtain ⟨k1, k2⟩ := hasW_as hW (f := p) (s := p) (m := 0) (e := 0)
    rw [zi_Passes_testifyThread_2]
    simp (decide := true) (disch := first | assumption | omega) only [zi_Passes_testifyThread_3, zi_Passes_testifyThread_4, zi_Passes_testifyThread_7, zi_Passes_testifyThread_10, zi_Passes_testifyThread_11, zi_Passes_testifyThread_12, zi_Passes_testifyThread_13, zi_Passes_testifyThread_14, zi_Passes_testifyThread_15, zi_Passes_testifyThread_18, zi_Passes_testifyThread_21, ↓reduceIte, mj_op_s, Option.toList_some, Option.toList_none, List.cons_append, List.nil_append, hp_1, hp_2, true_and, and_true, zb_0, zb_1, zb_b, va_rf, io_rt, ↓ogf_rt_0, ↓ogf_rt_1, ↓ogf_rt_2, ↓ogf_rt_3, ↓ogf_rt_4, ↓oai_rt_0, ↓oai_rt_1, ↓oai_rt_2, ↓oai_rt_3, ↓owi_rt_0, ↓owi_rt_1, ↓owi_rt_2, ↓owi_rt_3, ↓opf_rt, io_212, ↓ogf_212_0, ↓ogf_212_1, ↓ogf_212_2, ↓ogf_212_3, ↓ogf_212_4, ↓ogf_212_5, io_231, ↓ogf_231_0, ↓ogf_231_1, ↓ogf_231_2, ↓ogf_231_3, ↓ogf_231_4, ↓ogf_231_5, ↓ogf_231_6, ↓opf_231_6, r0, e1, c_Witness_appendAllSame hw hW.1, nI_add]
    exact ih (p + 1) _ (by omega) (sv_trans hv (wt_wi hw k2)) k1
theorem l_testifyThread_b (ho : isRt o) (hR : hasR M o len A) (hok : okR len A) (hq : ∀ k, k ≤ len → rI M 214 k = nI (ldR len A k).1 ∧ rI M 215 k = nI (ldR len A k).2) (hend : ∀ M', sv wiP M M' → hasW M' (twB len A len) → Q none (hp M')) : ∀ (n p : Nat) (M' : mm), p + n = len → sv wiP M M' → hasW M' (twB len A p) → mj_V (d + 3) lim mq_Passes_testifyThread 26 [.ref 212, .ref o, .ref 231, .int (nI p)] [] (hp M') Q := by
  have h50 := hok.1
  intro n
  induction n with
  | zero =>
    intro p M' hn hv hW
    obtain rfl : p = len := by omega
    have r0 := (sv_hasR hv (wi_rt ho) hR).1
    have e1 : ¬ nI p < nI p := nI_nlt (by omega) (by omega)
    rw [zi_Passes_testifyThread_26]
    simp (disch := first | assumption | omega) only [zi_Passes_testifyThread_27, zi_Passes_testifyThread_28, zi_Passes_testifyThread_31, zi_Passes_testifyThread_77, ↓reduceIte, mj_op_s, Option.toList_some, Option.toList_none, List.cons_append, List.nil_append, hp_1, hp_2, true_and, and_true, zb_0, zb_1, zb_b, va_rf, io_rt, ↓ogf_rt_0, ↓ogf_rt_1, ↓ogf_rt_2, ↓ogf_rt_3, ↓ogf_rt_4, ↓oai_rt_0, ↓oai_rt_1, ↓oai_rt_2, ↓oai_rt_3, ↓owi_rt_0, ↓owi_rt_1, ↓owi_rt_2, ↓owi_rt_3, ↓opf_rt, r0, e1]
    exact hend M' hv hW
  | succ n ih =>
    intro p M' hn hv hW
    have hR' := sv_hasR hv (wi_rt ho) hR
    have r0 := hR'.1
    have hp51 : p < 51 := by omega
    have e1 : nI p < nI len := nI_lt (by omega) (by omega)
    have hle := twB_le (len := len) (A := A) p
    have hw : (twB len A p).1 < 200 := by omega
    have hb := ldR_b (len := len) (A := A) (p := p) (by omega)
    have r4 : rI M' 214 p = nI (ldR len A p).1 := (sv_I hv (wi_sd _ _ (by omega) (by omega))).trans (hq p (by omega)).1
    have r5 : rI M' 215 p = nI (ldR len A p).2 := (sv_I hv (wi_sd _ _ (by omega) (by omega))).trans (hq p (by omega)).2
    rw [zi_Passes_testifyThread_26]
    by_cases c : (ldR len A p).1 = p
    · have eW : twB len A (p + 1) = twB len A p := if_pos c
      rw [c] at r4
      simp (decide := true) (disch := first | assumption | omega) only [zi_Passes_testifyThread_27, zi_Passes_testifyThread_28, zi_Passes_testifyThread_31, zi_Passes_testifyThread_34, zi_Passes_testifyThread_35, zi_Passes_testifyThread_38, zi_Passes_testifyThread_41, zi_Passes_testifyThread_42, zi_Passes_testifyThread_43, zi_Passes_testifyThread_44, zi_Passes_testifyThread_71, zi_Passes_testifyThread_74, ↓reduceIte, mj_op_s, Option.toList_some, Option.toList_none, List.cons_append, List.nil_append, hp_1, hp_2, true_and, and_true, zb_0, zb_1, zb_b, va_rf, io_rt, ↓ogf_rt_0, ↓ogf_rt_1, ↓ogf_rt_2, ↓ogf_rt_3, ↓ogf_rt_4, ↓oai_rt_0, ↓oai_rt_1, ↓oai_rt_2, ↓oai_rt_3, ↓owi_rt_0, ↓owi_rt_1, ↓owi_rt_2, ↓owi_rt_3, ↓opf_rt, io_212, ↓ogf_212_0, ↓ogf_212_1, ↓ogf_212_2, ↓ogf_212_3, ↓ogf_212_4, ↓ogf_212_5, io_213, ↓ogf_213_0, ↓ogf_213_1, ↓oai_214, ↓owi_214, ↓oai_215, ↓owi_215, io_231, ↓ogf_231_0, ↓ogf_231_1, ↓ogf_231_2, ↓ogf_231_3, ↓ogf_231_4, ↓ogf_231_5, ↓ogf_231_6, ↓opf_231_6, r0, e1, r4, nI_add]
      exact ih (p + 1) M' (by omega) hv (by rw [eW]; exact hW)
    · have eW : twB len A (p + 1) = wap (twB len A p) (p, (ldR len A p).1, 1, (ldR len A p).2, fun _ => 1, fun _ => 0) := if_neg c
      obtain ⟨k1, k2⟩ := hasW_as hW (f := p) (s := (ldR len A p).1) (m := 1) (e := (ldR len A p).2)
      have hne : ¬ nI (ldR len A p).1 = nI p := fun h => c (nI_inj (by omega) (by omega) h)
      simp (decide := true) (disch := first | assumption | omega) only [zi_Passes_testifyThread_27, zi_Passes_testifyThread_28, zi_Passes_testifyThread_31, zi_Passes_testifyThread_34, zi_Passes_testifyThread_35, zi_Passes_testifyThread_38, zi_Passes_testifyThread_41, zi_Passes_testifyThread_42, zi_Passes_testifyThread_43, zi_Passes_testifyThread_44, zi_Passes_testifyThread_47, zi_Passes_testifyThread_48, zi_Passes_testifyThread_49, zi_Passes_testifyThread_50, zi_Passes_testifyThread_53, zi_Passes_testifyThread_56, zi_Passes_testifyThread_57, zi_Passes_testifyThread_58, zi_Passes_testifyThread_59, zi_Passes_testifyThread_60, zi_Passes_testifyThread_63, zi_Passes_testifyThread_66, zi_Passes_testifyThread_67, zi_Passes_testifyThread_68, zi_Passes_testifyThread_71, zi_Passes_testifyThread_74, ↓reduceIte, mj_op_s, Option.toList_some, Option.toList_none, List.cons_append, List.nil_append, hp_1, hp_2, true_and, and_true, zb_0, zb_1, zb_b, va_rf, io_rt, ↓ogf_rt_0, ↓ogf_rt_1, ↓ogf_rt_2, ↓ogf_rt_3, ↓ogf_rt_4, ↓oai_rt_0, ↓oai_rt_1, ↓oai_rt_2, ↓oai_rt_3, ↓owi_rt_0, ↓owi_rt_1, ↓owi_rt_2, ↓owi_rt_3, ↓opf_rt, io_212, ↓ogf_212_0, ↓ogf_212_1, ↓ogf_212_2, ↓ogf_212_3, ↓ogf_212_4, ↓ogf_212_5, io_213, ↓ogf_213_0, ↓ogf_213_1, ↓oai_214, ↓owi_214, ↓oai_215, ↓owi_215, io_231, ↓ogf_231_0, ↓ogf_231_1, ↓ogf_231_2, ↓ogf_231_3, ↓ogf_231_4, ↓ogf_231_5, ↓ogf_231_6, ↓opf_231_6, r0, e1, r4, r5, hne, c_Witness_appendAllSame hw hW.1, nI_add]
      exact ih (p + 1) _ (by omega) (sv_trans hv (wt_wi hw k2)) (by rw [eW]; exact k1)
theorem c_testifyThread (ho : isRt o) (hR : hasR M o len A) (hok : okR len A) (hq : ∀ k, k ≤ len → rI M 214 k = nI (ldR len A k).1 ∧ rI M 215 k = nI (ldR len A k).2) (hW : hasW M w0) (hend : ∀ M', sv wiP M M' → hasW M' (twB len A len) → Q none (hp M')) : mj_V (d + 3) lim mq_Passes_testifyThread 0 [.ref 212, .ref o, .ref 231, mj_j] [] (hp M) Q := by
  simp only [zi_Passes_testifyThread_0, zi_Passes_testifyThread_1, ↓reduceIte, mj_op_s, Option.toList_some, Option.toList_none, List.cons_append, List.nil_append, hp_1, hp_2, true_and, and_true, zb_0, zb_1, zb_b, va_rf]
  refine l_testifyThread_a ho hR hok (fun M' hv hW => ?_) (len + 1) 0 M (by omega) sv_refl hW
  simp only [zi_Passes_testifyThread_24, zi_Passes_testifyThread_25, ↓reduceIte, mj_op_s, Option.toList_some, Option.toList_none, List.cons_append, List.nil_append, hp_1, hp_2, true_and, and_true, zb_0, zb_1, zb_b, va_rf]
  exact l_testifyThread_b ho hR hok hq hend len 0 M' (by omega) hv hW
theorem l_testifyPack (ho : isRt o) (hR : hasR M o len A) (hok : okR len A) (hq : ∀ k, k ≤ len → rI M 216 k = nI (psN A k)) (hend : ∀ M', sv wiP M M' → hasW M' (pwW len A (len + 1)) → Q none (hp M')) : ∀ (n p : Nat) (M' : mm) (x4 : Value), p + n = len + 1 → sv wiP M M' → hasW M' (pwW len A p) → mj_V (d + 3) lim mq_Passes_testifyPack 2 [.ref 212, .ref o, .ref 231, .int (nI p), x4] [] (hp M') Q := by
  have h50 := hok.1
  intro n
  induction n with
  | zero =>
    intro p M' x4 hn hv hW
    obtain rfl : p = len + 1 := by omega
    have r0 := (sv_hasR hv (wi_rt ho) hR).1
    have e1 : nI len < nI (len + 1) := nI_lt (by omega) (by omega)
    rw [zi_Passes_testifyPack_2]
    simp (disch := first | assumption | omega) only [zi_Passes_testifyPack_3, zi_Passes_testifyPack_4, zi_Passes_testifyPack_7, zi_Passes_testifyPack_45, ↓reduceIte, mj_op_s, Option.toList_some, Option.toList_none, List.cons_append, List.nil_append, hp_1, hp_2, true_and, and_true, zb_0, zb_1, zb_b, va_rf, io_rt, ↓ogf_rt_0, ↓ogf_rt_1, ↓ogf_rt_2, ↓ogf_rt_3, ↓ogf_rt_4, ↓oai_rt_0, ↓oai_rt_1, ↓oai_rt_2, ↓oai_rt_3, ↓owi_rt_0, ↓owi_rt_1, ↓owi_rt_2, ↓owi_rt_3, ↓opf_rt, r0, e1]
    exact hend M' hv hW
  | succ n ih =>
    intro p M' x4 hn hv hW
    have hR' := sv_hasR hv (wi_rt ho) hR
    have r0 := hR'.1
    have hp51 : p < 51 := by omega
    have e1 : ¬ nI len < nI p := nI_nlt (by omega) (by omega)
    have hle := pwW_le (len := len) (A := A) p
    have hw : (pwW len A p).1 < 200 := by omega
    have hst : p ≤ len := by omega
    have r4 : rI M' 216 p = nI (psN A p) := (sv_I hv (wi_sd _ _ (by omega) (by omega))).trans (hq p (by omega))
    have hrw := rw1_le (A := A) (len - p) p
    obtain ⟨k1, k2⟩ := hasW_as hW (f := p) (s := pkN A p) (m := if 0 < rw1 A (len - p) p then 1 else 0) (e := rw1 A (len - p) p)
    rw [zi_Passes_testifyPack_2]
    by_cases c : 0 < rw1 A (len - p) p
    · rw [if_pos c] at k1 k2
      have eW : pwW len A (p + 1) = wap (pwW len A p) (p, pkN A p, 1, rw1 A (len - p) p, fun _ => 1, fun _ => 0) := by
        show wap (pwW len A p) (p, pkN A p, (if 0 < rw1 A (len - p) p then 1 else 0), rw1 A (len - p) p, fun _ => 1, fun _ => 0) = _
        rw [if_pos c]
      have e2 : nI 0 < nI (rw1 A (len - p) p) := nI_lt (by omega) (by omega)
      simp (decide := true) (disch := first | assumption | omega) only [zi_Passes_testifyPack_3, zi_Passes_testifyPack_4, zi_Passes_testifyPack_7, zi_Passes_testifyPack_10, zi_Passes_testifyPack_11, zi_Passes_testifyPack_12, zi_Passes_testifyPack_15, zi_Passes_testifyPack_17, zi_Passes_testifyPack_18, zi_Passes_testifyPack_19, zi_Passes_testifyPack_20, zi_Passes_testifyPack_21, zi_Passes_testifyPack_24, zi_Passes_testifyPack_26, zi_Passes_testifyPack_29, zi_Passes_testifyPack_30, zi_Passes_testifyPack_33, zi_Passes_testifyPack_34, zi_Passes_testifyPack_36, zi_Passes_testifyPack_39, zi_Passes_testifyPack_42, ↓reduceIte, mj_op_s, Option.toList_some, Option.toList_none, List.cons_append, List.nil_append, hp_1, hp_2, true_and, and_true, zb_0, zb_1, zb_b, va_rf, io_rt, ↓ogf_rt_0, ↓ogf_rt_1, ↓ogf_rt_2, ↓ogf_rt_3, ↓ogf_rt_4, ↓oai_rt_0, ↓oai_rt_1, ↓oai_rt_2, ↓oai_rt_3, ↓owi_rt_0, ↓owi_rt_1, ↓owi_rt_2, ↓owi_rt_3, ↓opf_rt, io_212, ↓ogf_212_0, ↓ogf_212_1, ↓ogf_212_2, ↓ogf_212_3, ↓ogf_212_4, ↓ogf_212_5, io_231, ↓ogf_231_0, ↓ogf_231_1, ↓ogf_231_2, ↓ogf_231_3, ↓ogf_231_4, ↓ogf_231_5, ↓ogf_231_6, ↓opf_231_6, r0, e1, e2, c_Passes_passesInRow ho hR' h50 hst, c_Passes_packedPlace hp51 r4, c_Witness_appendAllSame hw hW.1, nI_add]
      exact ih (p + 1) _ _ (by omega) (sv_trans hv (wt_wi hw k2)) (by rw [eW]; exact k1)
    · rw [if_neg c] at k1 k2
      have eW : pwW len A (p + 1) = wap (pwW len A p) (p, pkN A p, 0, rw1 A (len - p) p, fun _ => 1, fun _ => 0) := by
        show wap (pwW len A p) (p, pkN A p, (if 0 < rw1 A (len - p) p then 1 else 0), rw1 A (len - p) p, fun _ => 1, fun _ => 0) = _
        rw [if_neg c]
      have e2 : ¬ nI 0 < nI (rw1 A (len - p) p) := nI_nlt (by omega) (by omega)
      simp (decide := true) (disch := first | assumption | omega) only [zi_Passes_testifyPack_3, zi_Passes_testifyPack_4, zi_Passes_testifyPack_7, zi_Passes_testifyPack_10, zi_Passes_testifyPack_11, zi_Passes_testifyPack_12, zi_Passes_testifyPack_15, zi_Passes_testifyPack_17, zi_Passes_testifyPack_18, zi_Passes_testifyPack_19, zi_Passes_testifyPack_20, zi_Passes_testifyPack_21, zi_Passes_testifyPack_24, zi_Passes_testifyPack_26, zi_Passes_testifyPack_29, zi_Passes_testifyPack_30, zi_Passes_testifyPack_33, zi_Passes_testifyPack_34, zi_Passes_testifyPack_36, zi_Passes_testifyPack_39, zi_Passes_testifyPack_42, ↓reduceIte, mj_op_s, Option.toList_some, Option.toList_none, List.cons_append, List.nil_append, hp_1, hp_2, true_and, and_true, zb_0, zb_1, zb_b, va_rf, io_rt, ↓ogf_rt_0, ↓ogf_rt_1, ↓ogf_rt_2, ↓ogf_rt_3, ↓ogf_rt_4, ↓oai_rt_0, ↓oai_rt_1, ↓oai_rt_2, ↓oai_rt_3, ↓owi_rt_0, ↓owi_rt_1, ↓owi_rt_2, ↓owi_rt_3, ↓opf_rt, io_212, ↓ogf_212_0, ↓ogf_212_1, ↓ogf_212_2, ↓ogf_212_3, ↓ogf_212_4, ↓ogf_212_5, io_231, ↓ogf_231_0, ↓ogf_231_1, ↓ogf_231_2, ↓ogf_231_3, ↓ogf_231_4, ↓ogf_231_5, ↓ogf_231_6, ↓opf_231_6, r0, e1, e2, c_Passes_passesInRow ho hR' h50 hst, c_Passes_packedPlace hp51 r4, c_Witness_appendAllSame hw hW.1, nI_add]
      exact ih (p + 1) _ _ (by omega) (sv_trans hv (wt_wi hw k2)) (by rw [eW]; exact k1)
theorem c_testifyPack (ho : isRt o) (hR : hasR M o len A) (hok : okR len A) (hq : ∀ k, k ≤ len → rI M 216 k = nI (psN A k)) (hW : hasW M w0) (hend : ∀ M', sv wiP M M' → hasW M' (pwW len A (len + 1)) → Q none (hp M')) : mj_V (d + 3) lim mq_Passes_testifyPack 0 [.ref 212, .ref o, .ref 231, mj_j, mj_j] [] (hp M) Q := by
  simp only [zi_Passes_testifyPack_0, zi_Passes_testifyPack_1, ↓reduceIte, mj_op_s, Option.toList_some, Option.toList_none, List.cons_append, List.nil_append, hp_1, hp_2, true_and, and_true, zb_0, zb_1, zb_b, va_rf]
  exact l_testifyPack ho hR hok hq hend (len + 1) 0 M _ (by omega) sv_refl hW
end C82
