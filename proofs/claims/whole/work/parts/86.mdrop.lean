/-! Model: drop, thread -/
section C86
variable {d : Nat} {lim : Nat × Nat} {Q : mj_Q} {M M' : mm} {t len p q j r n w : Nat} {A B : AA} {C : Nat → Bool} {F : KF} {S : Nat → Nat → Bool} {W : WS} {x : WR} {wf : Bool} {s : KS} {sw : Bool} {bh : Int64} {D : Nat → Nat → Bool}
theorem lt6 {a : Int32} : (a < nI 6) ↔ ¬ nI 5 < a := by
  simp only [Int32.lt_iff_toInt_lt, show (nI 6).toInt = 6 from by decide, show (nI 5).toInt = 5 from by decide]
  omega
theorem l_mdrop_may {x1 x2 x3 : Int32} {a : Int32} {x5 : Value} {G : mj_H} : mj_V d lim mq_Model_drop 31 [.ref 256, .int x1, .int x2, .int x3, .int a, x5] [] G Q ↔ mj_V d lim mq_Model_drop 63 [.ref 256, .int x1, .int x2, .int x3, .int a, x5] [.int (bI (drK a))] G Q := by
  simp only [zi_Model_drop_31, zi_Model_drop_33, zi_Model_drop_34, zi_Model_drop_37, zi_Model_drop_39, zi_Model_drop_41, zi_Model_drop_44, zi_Model_drop_46, zi_Model_drop_48, zi_Model_drop_51, zi_Model_drop_53, zi_Model_drop_55, zi_Model_drop_58, zi_Model_drop_59, zi_Model_drop_62, ↓reduceIte, mj_op_s, Option.toList_some, Option.toList_none, List.cons_append, List.nil_append, hp_1, hp_2, true_and, and_true, zb_0, zb_1, zb_b, va_rf, lt6]
  unfold drK
  by_cases h1 : a < nI 1 <;> by_cases h2 : nI 5 < a <;> by_cases h3 : a = nI 8 <;> by_cases h4 : a = nI 9 <;> simp only [h1, h2, h3, h4, bI, if_true, if_false, not_true_eq_false, not_false_eq_true, and_true, and_false, true_and, false_and, or_true, true_or, or_false, false_or, or_self, ite_self]
theorem l_mdrop_1 (hr : r < 44) (ht : t < 44) (hne : r ≠ t) (hR : hasM M r len A) (hok : okR len A) (hS : ∀ p r, p < 51 → r < 8 → rI M 271 (8 * p + r) = b1 (S p r)) (hend : ∀ M' y4 y5, sv (mrP t) M M' → hasM M' t len (drA A S) → mj_V (d + 3) lim mq_Model_drop 108 [.ref 256, .int (nI r), .int (nI t), .int (nI len), y4, y5] [] (hp M') Q) : ∀ (n p : Nat) (M' : mm) (x4 x5 : Value), p + n = len → sv (mrP t) M M' → hasM M' t len (mxA (drA A S) A p) → mj_V (d + 3) lim mq_Model_drop 13 [.ref 256, .int (nI r), .int (nI t), .int (nI p), x4, x5] [] (hp M') Q := by
  have h50 := hok.1
  intro n
  induction n with
  | zero =>
    intro p M' x4 x5 hn hv hB
    obtain rfl : p = len := by omega
    have r0 := (mr_M hv hne h50 hR).1
    have e1 : ¬ nI p < nI p := nI_nlt (by omega) (by omega)
    rw [zi_Model_drop_13]
    simp (disch := first | assumption | omega) only [zi_Model_drop_14, zi_Model_drop_15, zi_Model_drop_18, zi_Model_drop_19, zi_Model_drop_20, ↓reduceIte, mj_op_s, Option.toList_some, Option.toList_none, List.cons_append, List.nil_append, hp_1, hp_2, true_and, and_true, zb_0, zb_1, zb_b, va_rf, io_256, ↓ogf_256_0, ↓opf_256_0, ↓ogf_256_1, ↓ogf_256_2, ↓ogf_256_3, ↓ogf_256_4, ↓opf_256_4, ↓ogf_256_5, ↓ogf_256_6, ↓ogf_256_7, ↓opf_256_7, ↓ogf_256_8, ↓opf_256_8, ↓ogf_256_9, ↓opf_256_9, ↓ogf_256_10, ↓opf_256_10, ↓ogf_256_11, ↓ogf_256_12, ↓ogf_256_13, ↓ogf_256_14, ↓ogf_256_15, ↓ogf_256_16, ↓ogf_256_17, ↓opf_256_17, ↓ogf_256_18, ↓opf_256_18, ↓ogf_256_19, ↓ogf_256_20, ↓ogf_256_21, ↓ogf_256_22, ↓opf_256_22_0, ↓opf_256_22_1, ↓ogf_256_23, ↓opf_256_23, ↓ogf_256_24, ↓ogf_256_25, ↓opf_256_25_0, ↓opf_256_25_1, ↓ogf_256_26, ↓opf_256_26, ↓ogf_256_27, ↓opf_256_27, ↓ogf_256_28, ↓opf_256_28, ↓ogf_256_29, ↓ogf_256_30, ↓ogf_256_31, ↓ogf_256_32, ↓ogf_256_33, ↓ogf_256_34, ↓oai_257, ↓owi_257, r0, e1]
    exact hend M' _ _ hv (mx_eM hB)
  | succ n ih =>
    intro p M' x4 x5 hn hv hB
    have hR' := mr_M hv hne h50 hR
    have r0 := hR'.1
    have hp50 : p < 50 := by omega
    have hpl : p < len := by omega
    have e1 : nI p < nI len := nI_lt (by omega) (by omega)
    have q0 := hR'.2 p hpl 0 (by omega)
    have q1 := hR'.2 p hpl 1 (by omega)
    rw [zi_Model_drop_13]
    simp (disch := first | assumption | omega) only [zi_Model_drop_14, zi_Model_drop_15, zi_Model_drop_18, zi_Model_drop_19, zi_Model_drop_20, zi_Model_drop_23, zi_Model_drop_24, zi_Model_drop_25, zi_Model_drop_26, zi_Model_drop_29, ↓reduceIte, mj_op_s, Option.toList_some, Option.toList_none, List.cons_append, List.nil_append, hp_1, hp_2, true_and, and_true, zb_0, zb_1, zb_b, va_rf, io_256, ↓ogf_256_0, ↓opf_256_0, ↓ogf_256_1, ↓ogf_256_2, ↓ogf_256_3, ↓ogf_256_4, ↓opf_256_4, ↓ogf_256_5, ↓ogf_256_6, ↓ogf_256_7, ↓opf_256_7, ↓ogf_256_8, ↓opf_256_8, ↓ogf_256_9, ↓opf_256_9, ↓ogf_256_10, ↓opf_256_10, ↓ogf_256_11, ↓ogf_256_12, ↓ogf_256_13, ↓ogf_256_14, ↓ogf_256_15, ↓ogf_256_16, ↓ogf_256_17, ↓opf_256_17, ↓ogf_256_18, ↓opf_256_18, ↓ogf_256_19, ↓ogf_256_20, ↓ogf_256_21, ↓ogf_256_22, ↓opf_256_22_0, ↓opf_256_22_1, ↓ogf_256_23, ↓opf_256_23, ↓ogf_256_24, ↓ogf_256_25, ↓opf_256_25_0, ↓opf_256_25_1, ↓ogf_256_26, ↓opf_256_26, ↓ogf_256_27, ↓opf_256_27, ↓ogf_256_28, ↓opf_256_28, ↓ogf_256_29, ↓ogf_256_30, ↓ogf_256_31, ↓ogf_256_32, ↓ogf_256_33, ↓ogf_256_34, ↓oai_257, ↓owi_257, r0, e1, c_Model_kind, q0]
    rw [l_mdrop_may]
    by_cases c : drK (A p 0)
    · obtain ⟨l, hl, e⟩ := drK_rg (hok.2 p hpl) c
      have hb := bI_t c
      rw [e] at q1
      have r4 : rI M' 271 (8 * (p + 1) + l) = b1 (S (p + 1) l) := (sv_I hv (by unfold mrP; omega)).trans (hS _ _ (by omega) hl)
      cases hs : S (p + 1) l with
      | true =>
        rw [hs] at r4
        have r4 : rI M' 271 (8 * (p + 1) + l) = nI 1 := r4
        simp (decide := true) (disch := first | assumption | omega) only [zi_Model_drop_63, zi_Model_drop_65, zi_Model_drop_67, zi_Model_drop_70, zi_Model_drop_71, zi_Model_drop_74, zi_Model_drop_76, zi_Model_drop_77, zi_Model_drop_78, zi_Model_drop_79, zi_Model_drop_80, zi_Model_drop_81, zi_Model_drop_82, zi_Model_drop_83, zi_Model_drop_84, zi_Model_drop_87, zi_Model_drop_88, zi_Model_drop_89, zi_Model_drop_92, zi_Model_drop_93, zi_Model_drop_94, zi_Model_drop_95, zi_Model_drop_96, zi_Model_drop_97, zi_Model_drop_98, zi_Model_drop_99, zi_Model_drop_102, zi_Model_drop_105, ↓reduceIte, mj_op_s, Option.toList_some, Option.toList_none, List.cons_append, List.nil_append, hp_1, hp_2, true_and, and_true, zb_0, zb_1, zb_b, va_rf, io_256, ↓ogf_256_0, ↓opf_256_0, ↓ogf_256_1, ↓ogf_256_2, ↓ogf_256_3, ↓ogf_256_4, ↓opf_256_4, ↓ogf_256_5, ↓ogf_256_6, ↓ogf_256_7, ↓opf_256_7, ↓ogf_256_8, ↓opf_256_8, ↓ogf_256_9, ↓opf_256_9, ↓ogf_256_10, ↓opf_256_10, ↓ogf_256_11, ↓ogf_256_12, ↓ogf_256_13, ↓ogf_256_14, ↓ogf_256_15, ↓ogf_256_16, ↓ogf_256_17, ↓opf_256_17, ↓ogf_256_18, ↓opf_256_18, ↓ogf_256_19, ↓ogf_256_20, ↓ogf_256_21, ↓ogf_256_22, ↓opf_256_22_0, ↓opf_256_22_1, ↓ogf_256_23, ↓opf_256_23, ↓ogf_256_24, ↓ogf_256_25, ↓opf_256_25_0, ↓opf_256_25_1, ↓ogf_256_26, ↓opf_256_26, ↓ogf_256_27, ↓opf_256_27, ↓ogf_256_28, ↓opf_256_28, ↓ogf_256_29, ↓ogf_256_30, ↓ogf_256_31, ↓ogf_256_32, ↓ogf_256_33, ↓ogf_256_34, ↓oai_257, ↓owi_257, ↓oaz_271, ↓owz_271, hb, c_Model_num, q1, pk_mul, nI_add, r4]
        refine ih (p + 1) M' _ _ (by omega) hv (hasM_cong hB (mx_s (fun j _ => ?_) (fun q j _ => rfl)))
        rw [mx_p]
        unfold drA
        rw [e, cz_n (by omega), hs]
        simp
      | false =>
        rw [hs] at r4
        have r4 : rI M' 271 (8 * (p + 1) + l) = nI 0 := r4
        simp (decide := true) (disch := first | assumption | omega) only [zi_Model_drop_63, zi_Model_drop_65, zi_Model_drop_67, zi_Model_drop_70, zi_Model_drop_71, zi_Model_drop_74, zi_Model_drop_76, zi_Model_drop_77, zi_Model_drop_78, zi_Model_drop_79, zi_Model_drop_80, zi_Model_drop_81, zi_Model_drop_82, zi_Model_drop_83, zi_Model_drop_84, zi_Model_drop_87, zi_Model_drop_88, zi_Model_drop_89, zi_Model_drop_92, zi_Model_drop_93, zi_Model_drop_94, zi_Model_drop_95, zi_Model_drop_96, zi_Model_drop_97, zi_Model_drop_98, zi_Model_drop_99, zi_Model_drop_102, zi_Model_drop_105, ↓reduceIte, mj_op_s, Option.toList_some, Option.toList_none, List.cons_append, List.nil_append, hp_1, hp_2, true_and, and_true, zb_0, zb_1, zb_b, va_rf, io_256, ↓ogf_256_0, ↓opf_256_0, ↓ogf_256_1, ↓ogf_256_2, ↓ogf_256_3, ↓ogf_256_4, ↓opf_256_4, ↓ogf_256_5, ↓ogf_256_6, ↓ogf_256_7, ↓opf_256_7, ↓ogf_256_8, ↓opf_256_8, ↓ogf_256_9, ↓opf_256_9, ↓ogf_256_10, ↓opf_256_10, ↓ogf_256_11, ↓ogf_256_12, ↓ogf_256_13, ↓ogf_256_14, ↓ogf_256_15, ↓ogf_256_16, ↓ogf_256_17, ↓opf_256_17, ↓ogf_256_18, ↓opf_256_18, ↓ogf_256_19, ↓ogf_256_20, ↓ogf_256_21, ↓ogf_256_22, ↓opf_256_22_0, ↓opf_256_22_1, ↓ogf_256_23, ↓opf_256_23, ↓ogf_256_24, ↓ogf_256_25, ↓opf_256_25_0, ↓opf_256_25_1, ↓ogf_256_26, ↓opf_256_26, ↓ogf_256_27, ↓opf_256_27, ↓ogf_256_28, ↓opf_256_28, ↓ogf_256_29, ↓ogf_256_30, ↓ogf_256_31, ↓ogf_256_32, ↓ogf_256_33, ↓ogf_256_34, ↓oai_257, ↓owi_257, ↓oaz_271, ↓owz_271, hb, c_Model_num, q1, pk_mul, nI_add, r4, c_Model_put ht hp50]
        refine ih (p + 1) _ _ _ (by omega) (sv_trans hv (sv_puM hp50)) (hasM_cong (hasM_pu hB) (mx_s (fun j hj => ?_) (fun q j e => if_neg e)))
        unfold upA drA
        rw [if_pos rfl, if_pos ⟨c, by rw [e, cz_n (by omega)]; exact hs⟩]
        unfold acA
        split
        · rfl
        · split
          · rfl
          · split <;> rfl
    · have hb := bI_f c
      simp (decide := true) (disch := first | assumption | omega) only [zi_Model_drop_63, zi_Model_drop_65, zi_Model_drop_67, zi_Model_drop_70, zi_Model_drop_71, zi_Model_drop_74, zi_Model_drop_76, zi_Model_drop_77, zi_Model_drop_78, zi_Model_drop_79, zi_Model_drop_80, zi_Model_drop_81, zi_Model_drop_82, zi_Model_drop_83, zi_Model_drop_84, zi_Model_drop_87, zi_Model_drop_88, zi_Model_drop_89, zi_Model_drop_92, zi_Model_drop_93, zi_Model_drop_94, zi_Model_drop_95, zi_Model_drop_96, zi_Model_drop_97, zi_Model_drop_98, zi_Model_drop_99, zi_Model_drop_102, zi_Model_drop_105, ↓reduceIte, mj_op_s, Option.toList_some, Option.toList_none, List.cons_append, List.nil_append, hp_1, hp_2, true_and, and_true, zb_0, zb_1, zb_b, va_rf, io_256, ↓ogf_256_0, ↓opf_256_0, ↓ogf_256_1, ↓ogf_256_2, ↓ogf_256_3, ↓ogf_256_4, ↓opf_256_4, ↓ogf_256_5, ↓ogf_256_6, ↓ogf_256_7, ↓opf_256_7, ↓ogf_256_8, ↓opf_256_8, ↓ogf_256_9, ↓opf_256_9, ↓ogf_256_10, ↓opf_256_10, ↓ogf_256_11, ↓ogf_256_12, ↓ogf_256_13, ↓ogf_256_14, ↓ogf_256_15, ↓ogf_256_16, ↓ogf_256_17, ↓opf_256_17, ↓ogf_256_18, ↓opf_256_18, ↓ogf_256_19, ↓ogf_256_20, ↓ogf_256_21, ↓ogf_256_22, ↓opf_256_22_0, ↓opf_256_22_1, ↓ogf_256_23, ↓opf_256_23, ↓ogf_256_24, ↓ogf_256_25, ↓opf_256_25_0, ↓opf_256_25_1, ↓ogf_256_26, ↓opf_256_26, ↓ogf_256_27, ↓opf_256_27, ↓ogf_256_28, ↓opf_256_28, ↓ogf_256_29, ↓ogf_256_30, ↓ogf_256_31, ↓ogf_256_32, ↓ogf_256_33, ↓ogf_256_34, ↓oai_257, ↓owi_257, ↓oaz_271, ↓owz_271, hb, nI_add]
      refine ih (p + 1) M' _ _ (by omega) hv (hasM_cong hB (mx_s (fun j _ => ?_) (fun q j _ => rfl)))
      rw [mx_p]
      unfold drA
      rw [if_neg (fun z => c z.1)]
def dwR (S : Nat → Nat → Bool) (p j : Nat) : WR := (p, p, 0, 0, fun r => if r < j ∧ S p r = true then 1 else 0, fun _ => 0)
theorem dwR_s : wsR (dwR S p j) j (if S p j = true then 1 else 0) 0 = dwR S p (j + 1) := by
  unfold wsR dwR
  refine Prod.ext rfl (Prod.ext rfl (Prod.ext rfl (Prod.ext rfl (Prod.ext (funext fun q => ?_) (funext fun q => ?_)))))
  · show (if q = j then (if S p j = true then 1 else 0) else if q < j ∧ S p q = true then 1 else 0) = if q < j + 1 ∧ S p q = true then 1 else 0
    by_cases e : q = j
    · subst e
      rw [if_pos rfl]
      by_cases h : S p q = true
      · rw [if_pos h, if_pos ⟨by omega, h⟩]
      · rw [if_neg h, if_neg (fun z => h z.2)]
    · rw [if_neg e]
      by_cases h2 : q < j ∧ S p q = true
      · rw [if_pos h2, if_pos ⟨by omega, h2.2⟩]
      · rw [if_neg h2, if_neg (fun z => h2 ⟨by omega, z.2⟩)]
  · show (if q = j then (0 : Int64) else 0) = 0
    exact ite_self _
theorem dwR_0 : dwR S p 0 = (p, p, 0, 0, fun _ => 0, fun _ => 0) := by
  unfold dwR
  refine Prod.ext rfl (Prod.ext rfl (Prod.ext rfl (Prod.ext rfl (Prod.ext (funext fun q => ?_) rfl))))
  show (if q < 0 ∧ S p q = true then 1 else 0) = 0
  exact if_neg (by omega)
theorem wL_same {i k : Nat} {v : Int64} (h : rL M i k = v) : wL M i k v = M := by rw [← h]; exact wL_id
theorem l_mdrop_k (hn : W.1 < 200) (hp0 : p < 51) {r t : Int32} (hS : ∀ p r, p < 51 → r < 8 → rI M 271 (8 * p + r) = b1 (S p r)) (hend : ∀ M' (y4 : Int32) y5, sv (mwP true) M M' → hasV M' (wap W (dwR S p 8)) → mj_V (d + 1) lim mq_Model_drop 189 [.ref 256, .int r, .int t, .int (nI p), .int y4, y5] [] (hp M') Q) : ∀ (m j : Nat) (M' : mm) (x5 : Value), j + m = 8 → sv (mwP true) M M' → rI M' 256 25 = nI 1 → hasV M' (wap W (dwR S p j)) → mj_V (d + 1) lim mq_Model_drop 132 [.ref 256, .int r, .int t, .int (nI p), .int (nI j), x5] [] (hp M') Q := by
  intro m
  induction m with
  | zero =>
    intro j M' x5 hj hv hw hV
    obtain rfl : j = 8 := by omega
    rw [zi_Model_drop_132]
    simp (decide := true) only [zi_Model_drop_134, zi_Model_drop_136, ↓reduceIte, mj_op_s, Option.toList_some, Option.toList_none, List.cons_append, List.nil_append, hp_1, hp_2, true_and, and_true, zb_0, zb_1, zb_b, va_rf]
    exact hend M' _ _ hv hV
  | succ m ih =>
    intro j M' x5 hj hv hw hV
    have hj8 : j < 8 := by omega
    have e1 : nI j < nI 8 := nI_lt (by omega) (by omega)
    have h10 : rI M' 256 10 = nI (W.1 + 1) := hV.1
    have r4 : rI M' 271 (8 * p + j) = b1 (S p j) := (sv_I hv (by unfold mwP; omega)).trans (hS _ _ hp0 hj8)
    have hz : rL M' 267 (8 * W.1 + j) = 0 := by
      have h := ((hV.2 W.1 (Nat.lt_succ_self _)).2.2.2.2 j hj8).2
      have e : (wap W (dwR S p j)).2 W.1 = dwR S p j := if_pos rfl
      rw [e] at h
      exact h
    have hgo : ∀ c : Nat, c = (if S p j = true then 1 else 0) → mj_V (d + 1) lim mq_Model_drop 132 [.ref 256, .int r, .int t, .int (nI p), .int (nI (j + 1)), x5] [] (hp (wI M' 266 (8 * W.1 + j) (nI c))) Q := by
      intro c hc
      have hv2 : sv (mwP true) M' (wI M' 266 (8 * W.1 + j) (nI c)) := sv_wI sv_refl ⟨rfl, by omega⟩
      refine ih (j + 1) _ _ (by omega) (sv_trans hv hv2) ((sv_I hv2 (by unfold mwP; omega)).trans hw) ?_
      have h2 := hasV_set (r := j) (c := c) (v := 0) hV (show W.1 < (wap W (dwR S p j)).1 from Nat.lt_succ_self _) hj8
      rw [wset_ap, hc, dwR_s, ← hc, wL_same (show rL (wI M' 266 (8 * W.1 + j) (nI c)) 267 (8 * W.1 + j) = 0 from hz)] at h2
      exact h2
    rw [zi_Model_drop_132]
    cases hs : S p j with
    | true =>
      rw [hs] at r4
      have r4 : rI M' 271 (8 * p + j) = nI 1 := r4
      simp (decide := true) (disch := first | assumption | omega) only [zi_Model_drop_134, zi_Model_drop_136, zi_Model_drop_139, zi_Model_drop_140, zi_Model_drop_143, zi_Model_drop_146, zi_Model_drop_147, zi_Model_drop_150, zi_Model_drop_152, zi_Model_drop_153, zi_Model_drop_156, zi_Model_drop_157, zi_Model_drop_158, zi_Model_drop_159, zi_Model_drop_161, zi_Model_drop_162, zi_Model_drop_163, zi_Model_drop_166, zi_Model_drop_168, zi_Model_drop_169, zi_Model_drop_170, zi_Model_drop_172, zi_Model_drop_173, zi_Model_drop_174, zi_Model_drop_177, zi_Model_drop_178, zi_Model_drop_181, zi_Model_drop_182, zi_Model_drop_183, zi_Model_drop_186, ↓reduceIte, mj_op_s, Option.toList_some, Option.toList_none, List.cons_append, List.nil_append, hp_1, hp_2, true_and, and_true, zb_0, zb_1, zb_b, va_rf, io_256, ↓ogf_256_0, ↓opf_256_0, ↓ogf_256_1, ↓ogf_256_2, ↓ogf_256_3, ↓ogf_256_4, ↓opf_256_4, ↓ogf_256_5, ↓ogf_256_6, ↓ogf_256_7, ↓opf_256_7, ↓ogf_256_8, ↓opf_256_8, ↓ogf_256_9, ↓opf_256_9, ↓ogf_256_10, ↓opf_256_10, ↓ogf_256_11, ↓ogf_256_12, ↓ogf_256_13, ↓ogf_256_14, ↓ogf_256_15, ↓ogf_256_16, ↓ogf_256_17, ↓opf_256_17, ↓ogf_256_18, ↓opf_256_18, ↓ogf_256_19, ↓ogf_256_20, ↓ogf_256_21, ↓ogf_256_22, ↓opf_256_22_0, ↓opf_256_22_1, ↓ogf_256_23, ↓opf_256_23, ↓ogf_256_24, ↓ogf_256_25, ↓opf_256_25_0, ↓opf_256_25_1, ↓ogf_256_26, ↓opf_256_26, ↓ogf_256_27, ↓opf_256_27, ↓ogf_256_28, ↓opf_256_28, ↓ogf_256_29, ↓ogf_256_30, ↓ogf_256_31, ↓ogf_256_32, ↓ogf_256_33, ↓ogf_256_34, ↓oai_266, ↓owi_266, ↓oaz_271, ↓owz_271, e1, hw, h10, nI_sub1, pk_mul, nI_add, r4]
      exact hgo 1 (by rw [hs]; rfl)
    | false =>
      rw [hs] at r4
      have r4 : rI M' 271 (8 * p + j) = nI 0 := r4
      simp (decide := true) (disch := first | assumption | omega) only [zi_Model_drop_134, zi_Model_drop_136, zi_Model_drop_139, zi_Model_drop_140, zi_Model_drop_143, zi_Model_drop_146, zi_Model_drop_147, zi_Model_drop_150, zi_Model_drop_152, zi_Model_drop_153, zi_Model_drop_156, zi_Model_drop_157, zi_Model_drop_158, zi_Model_drop_159, zi_Model_drop_161, zi_Model_drop_162, zi_Model_drop_163, zi_Model_drop_166, zi_Model_drop_168, zi_Model_drop_169, zi_Model_drop_170, zi_Model_drop_172, zi_Model_drop_173, zi_Model_drop_174, zi_Model_drop_177, zi_Model_drop_178, zi_Model_drop_181, zi_Model_drop_182, zi_Model_drop_183, zi_Model_drop_186, ↓reduceIte, mj_op_s, Option.toList_some, Option.toList_none, List.cons_append, List.nil_append, hp_1, hp_2, true_and, and_true, zb_0, zb_1, zb_b, va_rf, io_256, ↓ogf_256_0, ↓opf_256_0, ↓ogf_256_1, ↓ogf_256_2, ↓ogf_256_3, ↓ogf_256_4, ↓opf_256_4, ↓ogf_256_5, ↓ogf_256_6, ↓ogf_256_7, ↓opf_256_7, ↓ogf_256_8, ↓opf_256_8, ↓ogf_256_9, ↓opf_256_9, ↓ogf_256_10, ↓opf_256_10, ↓ogf_256_11, ↓ogf_256_12, ↓ogf_256_13, ↓ogf_256_14, ↓ogf_256_15, ↓ogf_256_16, ↓ogf_256_17, ↓opf_256_17, ↓ogf_256_18, ↓opf_256_18, ↓ogf_256_19, ↓ogf_256_20, ↓ogf_256_21, ↓ogf_256_22, ↓opf_256_22_0, ↓opf_256_22_1, ↓ogf_256_23, ↓opf_256_23, ↓ogf_256_24, ↓ogf_256_25, ↓opf_256_25_0, ↓opf_256_25_1, ↓ogf_256_26, ↓opf_256_26, ↓ogf_256_27, ↓opf_256_27, ↓ogf_256_28, ↓opf_256_28, ↓ogf_256_29, ↓ogf_256_30, ↓ogf_256_31, ↓ogf_256_32, ↓ogf_256_33, ↓ogf_256_34, ↓oai_266, ↓owi_266, ↓oaz_271, ↓owz_271, e1, hw, h10, nI_sub1, pk_mul, nI_add, r4]
      exact hgo 0 (by rw [hs]; simp)
theorem l_mdrop_2 (hr : r < 44) (hR : hasM M r len A) (h50 : len ≤ 50) (hw : rI M 256 25 = b1 wf) (hS : ∀ p r, p < 51 → r < 8 → rI M 271 (8 * p + r) = b1 (S p r)) {t : Int32} (hend : ∀ M', sv (mwP wf) M M' → (wf = true → hasV M' (dwW S (len + 1))) → Q none (hp M')) : ∀ (n p : Nat) (M' : mm) (x4 x5 : Value), p + n = len + 1 → sv (mwP wf) M M' → (wf = true → hasV M' (dwW S p)) → mj_V (d + 2) lim mq_Model_drop 110 [.ref 256, .int (nI r), .int t, .int (nI p), x4, x5] [] (hp M') Q := by
  intro n
  induction n with
  | zero =>
    intro p M' x4 x5 hn hv hV
    obtain rfl : p = len + 1 := by omega
    have r0 := (mw_M hv hR).1
    have e1 : nI len < nI (len + 1) := nI_lt (by omega) (by omega)
    rw [zi_Model_drop_110]
    simp (disch := first | assumption | omega) only [zi_Model_drop_111, zi_Model_drop_112, zi_Model_drop_115, zi_Model_drop_116, zi_Model_drop_117, zi_Model_drop_195, ↓reduceIte, mj_op_s, Option.toList_some, Option.toList_none, List.cons_append, List.nil_append, hp_1, hp_2, true_and, and_true, zb_0, zb_1, zb_b, va_rf, io_256, ↓ogf_256_0, ↓opf_256_0, ↓ogf_256_1, ↓ogf_256_2, ↓ogf_256_3, ↓ogf_256_4, ↓opf_256_4, ↓ogf_256_5, ↓ogf_256_6, ↓ogf_256_7, ↓opf_256_7, ↓ogf_256_8, ↓opf_256_8, ↓ogf_256_9, ↓opf_256_9, ↓ogf_256_10, ↓opf_256_10, ↓ogf_256_11, ↓ogf_256_12, ↓ogf_256_13, ↓ogf_256_14, ↓ogf_256_15, ↓ogf_256_16, ↓ogf_256_17, ↓opf_256_17, ↓ogf_256_18, ↓opf_256_18, ↓ogf_256_19, ↓ogf_256_20, ↓ogf_256_21, ↓ogf_256_22, ↓opf_256_22_0, ↓opf_256_22_1, ↓ogf_256_23, ↓opf_256_23, ↓ogf_256_24, ↓ogf_256_25, ↓opf_256_25_0, ↓opf_256_25_1, ↓ogf_256_26, ↓opf_256_26, ↓ogf_256_27, ↓opf_256_27, ↓ogf_256_28, ↓opf_256_28, ↓ogf_256_29, ↓ogf_256_30, ↓ogf_256_31, ↓ogf_256_32, ↓ogf_256_33, ↓ogf_256_34, ↓oai_257, ↓owi_257, r0, e1]
    exact hend M' hv hV
  | succ n ih =>
    intro p M' x4 x5 hn hv hV
    have r0 := (mw_M hv hR).1
    have hp51 : p < 51 := by omega
    have e1 : ¬ nI len < nI p := nI_nlt (by omega) (by omega)
    have hle := dwW_le (S := S) p
    have hw2 : (dwW S p).1 < 200 := by omega
    have hw' : rI M' 256 25 = b1 wf := (sv_I hv (by unfold mwP; omega)).trans hw
    rw [zi_Model_drop_110]
    have eW : dwW S (p + 1) = wap (dwW S p) (dwR S p 8) := rfl
    simp (decide := true) (disch := first | assumption | omega) only [zi_Model_drop_111, zi_Model_drop_112, zi_Model_drop_115, zi_Model_drop_116, zi_Model_drop_117, zi_Model_drop_120, zi_Model_drop_121, zi_Model_drop_122, zi_Model_drop_123, zi_Model_drop_124, zi_Model_drop_125, zi_Model_drop_126, ↓reduceIte, mj_op_s, Option.toList_some, Option.toList_none, List.cons_append, List.nil_append, hp_1, hp_2, true_and, and_true, zb_0, zb_1, zb_b, va_rf, io_256, ↓ogf_256_0, ↓opf_256_0, ↓ogf_256_1, ↓ogf_256_2, ↓ogf_256_3, ↓ogf_256_4, ↓opf_256_4, ↓ogf_256_5, ↓ogf_256_6, ↓ogf_256_7, ↓opf_256_7, ↓ogf_256_8, ↓opf_256_8, ↓ogf_256_9, ↓opf_256_9, ↓ogf_256_10, ↓opf_256_10, ↓ogf_256_11, ↓ogf_256_12, ↓ogf_256_13, ↓ogf_256_14, ↓ogf_256_15, ↓ogf_256_16, ↓ogf_256_17, ↓opf_256_17, ↓ogf_256_18, ↓opf_256_18, ↓ogf_256_19, ↓ogf_256_20, ↓ogf_256_21, ↓ogf_256_22, ↓opf_256_22_0, ↓opf_256_22_1, ↓ogf_256_23, ↓opf_256_23, ↓ogf_256_24, ↓ogf_256_25, ↓opf_256_25_0, ↓opf_256_25_1, ↓ogf_256_26, ↓opf_256_26, ↓ogf_256_27, ↓opf_256_27, ↓ogf_256_28, ↓opf_256_28, ↓ogf_256_29, ↓ogf_256_30, ↓ogf_256_31, ↓ogf_256_32, ↓ogf_256_33, ↓ogf_256_34, ↓oai_257, ↓owi_257, r0, e1]
    refine c_Model_add2 hw' hV hw2 (fun M2 hv2 hV2 => ?_)
    have hv2 := mn_mw hw2 hv2
    have hw3 : rI M2 256 25 = b1 wf := (sv_I hv2 (by unfold mwP; omega)).trans hw'
    simp only [zi_Model_drop_129, zi_Model_drop_130, ↓reduceIte, mj_op_s, Option.toList_some, Option.toList_none, List.cons_append, List.nil_append, hp_1, hp_2, true_and, and_true, zb_0, zb_1, zb_b, va_rf]
    cases hwf : wf with
    | true =>
      subst hwf
      have hV3 := hV2 rfl
      rw [← dwR_0 (S := S)] at hV3
      refine l_mdrop_k (d := d + 1) (M := M2) hw2 hp51 (fun p r hp0 hr => (sv_I (sv_trans hv hv2) (by unfold mwP; omega)).trans (hS p r hp0 hr)) (fun M3 y4 y5 hv3 hV3 => ?_) 8 0 M2 _ (by omega) sv_refl hw3 hV3
      simp only [zi_Model_drop_189, zi_Model_drop_192, ↓reduceIte, mj_op_s, Option.toList_some, Option.toList_none, List.cons_append, List.nil_append, hp_1, hp_2, true_and, and_true, zb_0, zb_1, zb_b, va_rf, nI_add]
      exact ih (p + 1) M3 _ _ (by omega) (sv_trans hv (sv_trans hv2 hv3)) (fun _ => by rw [eW]; exact hV3)
    | false =>
      subst hwf
      have hw3 : rI M2 256 25 = nI 0 := hw3
      rw [zi_Model_drop_132]
      simp (decide := true) (disch := first | assumption | omega) only [zi_Model_drop_134, zi_Model_drop_136, zi_Model_drop_139, zi_Model_drop_140, zi_Model_drop_143, zi_Model_drop_189, zi_Model_drop_192, ↓reduceIte, mj_op_s, Option.toList_some, Option.toList_none, List.cons_append, List.nil_append, hp_1, hp_2, true_and, and_true, zb_0, zb_1, zb_b, va_rf, io_256, ↓ogf_256_0, ↓opf_256_0, ↓ogf_256_1, ↓ogf_256_2, ↓ogf_256_3, ↓ogf_256_4, ↓opf_256_4, ↓ogf_256_5, ↓ogf_256_6, ↓ogf_256_7, ↓opf_256_7, ↓ogf_256_8, ↓opf_256_8, ↓ogf_256_9, ↓opf_256_9, ↓ogf_256_10, ↓opf_256_10, ↓ogf_256_11, ↓ogf_256_12, ↓ogf_256_13, ↓ogf_256_14, ↓ogf_256_15, ↓ogf_256_16, ↓ogf_256_17, ↓opf_256_17, ↓ogf_256_18, ↓opf_256_18, ↓ogf_256_19, ↓ogf_256_20, ↓ogf_256_21, ↓ogf_256_22, ↓opf_256_22_0, ↓opf_256_22_1, ↓ogf_256_23, ↓opf_256_23, ↓ogf_256_24, ↓ogf_256_25, ↓opf_256_25_0, ↓opf_256_25_1, ↓ogf_256_26, ↓opf_256_26, ↓ogf_256_27, ↓opf_256_27, ↓ogf_256_28, ↓opf_256_28, ↓ogf_256_29, ↓ogf_256_30, ↓ogf_256_31, ↓ogf_256_32, ↓ogf_256_33, ↓ogf_256_34, hw3, nI_add]
      exact ih (p + 1) M2 _ _ (by omega) (sv_trans hv hv2) (fun z => by cases z)
theorem c_Model_drop (hr : r < 44) (ht : t < 44) (hne : r ≠ t) (hR : hasM M r len A) (hok : okR len A) (hw : rI M 256 25 = b1 wf) (hV : wf = true → hasV M w0) (hend : ∀ M', sv (fun i k => mrP t i k ∨ i = 271 ∨ mwP wf i k) M M' → hasM M' t (psA 1 len A).1 (psA 1 len A).2 → (wf = true → hasV M' (psW 1 len A)) → Q none (hp M')) : mj_V (d + 5) lim mq_Model_drop 0 [.ref 256, .int (nI r), .int (nI t), mj_j, mj_j, mj_j] [] (hp M) Q := by
  have h50 := hok.1
  simp only [zi_Model_drop_0, zi_Model_drop_1, zi_Model_drop_2, ↓reduceIte, mj_op_s, Option.toList_some, Option.toList_none, List.cons_append, List.nil_append, hp_1, hp_2, true_and, and_true, zb_0, zb_1, zb_b, va_rf, io_256, ↓ogf_256_0, ↓opf_256_0, ↓ogf_256_1, ↓ogf_256_2, ↓ogf_256_3, ↓ogf_256_4, ↓opf_256_4, ↓ogf_256_5, ↓ogf_256_6, ↓ogf_256_7, ↓opf_256_7, ↓ogf_256_8, ↓opf_256_8, ↓ogf_256_9, ↓opf_256_9, ↓ogf_256_10, ↓opf_256_10, ↓ogf_256_11, ↓ogf_256_12, ↓ogf_256_13, ↓ogf_256_14, ↓ogf_256_15, ↓ogf_256_16, ↓ogf_256_17, ↓opf_256_17, ↓ogf_256_18, ↓opf_256_18, ↓ogf_256_19, ↓ogf_256_20, ↓ogf_256_21, ↓ogf_256_22, ↓opf_256_22_0, ↓opf_256_22_1, ↓ogf_256_23, ↓opf_256_23, ↓ogf_256_24, ↓ogf_256_25, ↓opf_256_25_0, ↓opf_256_25_1, ↓ogf_256_26, ↓opf_256_26, ↓ogf_256_27, ↓opf_256_27, ↓ogf_256_28, ↓opf_256_28, ↓ogf_256_29, ↓ogf_256_30, ↓ogf_256_31, ↓ogf_256_32, ↓ogf_256_33, ↓ogf_256_34]
  refine c_Model_livens hr hR hok (fun S hL => ?_)
  have hv1 : sv (fun i _ => i = 271) M (livM M S) := ⟨fun i k hi => ⟨li_Io hi, rfl, rfl⟩, rfl⟩
  have hR1 : hasM (livM M S) r len A := ⟨(sv_I hv1 (by omega)).trans hR.1, fun p hp0 j hj => (sv_I hv1 (by omega)).trans (hR.2 p hp0 j hj)⟩
  simp only [zi_Model_drop_5, zi_Model_drop_6, zi_Model_drop_7, zi_Model_drop_8, ↓reduceIte, mj_op_s, Option.toList_some, Option.toList_none, List.cons_append, List.nil_append, hp_1, hp_2, true_and, and_true, zb_0, zb_1, zb_b, va_rf, io_256, ↓ogf_256_0, ↓opf_256_0, ↓ogf_256_1, ↓ogf_256_2, ↓ogf_256_3, ↓ogf_256_4, ↓opf_256_4, ↓ogf_256_5, ↓ogf_256_6, ↓ogf_256_7, ↓opf_256_7, ↓ogf_256_8, ↓opf_256_8, ↓ogf_256_9, ↓opf_256_9, ↓ogf_256_10, ↓opf_256_10, ↓ogf_256_11, ↓ogf_256_12, ↓ogf_256_13, ↓ogf_256_14, ↓ogf_256_15, ↓ogf_256_16, ↓ogf_256_17, ↓opf_256_17, ↓ogf_256_18, ↓opf_256_18, ↓ogf_256_19, ↓ogf_256_20, ↓ogf_256_21, ↓ogf_256_22, ↓opf_256_22_0, ↓opf_256_22_1, ↓ogf_256_23, ↓opf_256_23, ↓ogf_256_24, ↓ogf_256_25, ↓opf_256_25_0, ↓opf_256_25_1, ↓ogf_256_26, ↓opf_256_26, ↓ogf_256_27, ↓opf_256_27, ↓ogf_256_28, ↓opf_256_28, ↓ogf_256_29, ↓ogf_256_30, ↓ogf_256_31, ↓ogf_256_32, ↓ogf_256_33, ↓ogf_256_34]
  refine c_Model_copy hr ht hne hR1 h50 (fun M2 hv2 hC2 => ?_)
  simp only [zi_Model_drop_11, zi_Model_drop_12, ↓reduceIte, mj_op_s, Option.toList_some, Option.toList_none, List.cons_append, List.nil_append, hp_1, hp_2, true_and, and_true, zb_0, zb_1, zb_b, va_rf]
  have hR2 := mr_M hv2 hne h50 hR1
  have hS2 : ∀ p r, p < 51 → r < 8 → rI M2 271 (8 * p + r) = b1 (S p r) := fun p r hp0 hr => (sv_I hv2 (by unfold mrP; omega)).trans (li_Im hp0 hr)
  refine l_mdrop_1 (d := d + 2) (M := M2) hr ht hne hR2 hok hS2 (fun M3 y4 y5 hv3 hC3 => ?_) len 0 M2 _ _ (by omega) sv_refl (by rw [mx_0]; exact hC2)
  simp only [zi_Model_drop_108, zi_Model_drop_109, ↓reduceIte, mj_op_s, Option.toList_some, Option.toList_none, List.cons_append, List.nil_append, hp_1, hp_2, true_and, and_true, zb_0, zb_1, zb_b, va_rf]
  have hR3 := mr_M hv3 hne h50 hR2
  have hv4 : sv (fun i k => mrP t i k ∨ i = 271 ∨ mwP wf i k) M M3 := sv_trans (sv_mono hv1 (fun i k h => Or.inr (Or.inl h))) (sv_mono (sv_trans hv2 hv3) (fun i k h => Or.inl h))
  have hw3 : rI M3 256 25 = b1 wf := (sv_I hv4 (by unfold mrP mwP; omega)).trans hw
  have hV3 : wf = true → hasV M3 w0 := fun z => by
    have h := hV z
    refine ⟨?_, fun i hi => by have : i < 0 := hi; omega⟩
    rw [sv_I (sv_trans hv2 hv3) (by unfold mrP; omega), sv_I hv1 (by omega)]
    exact h.1
  refine l_mdrop_2 (d := d + 3) (M := M3) hr hR3 h50 hw3 (fun p r hp0 hr => (sv_I hv3 (by unfold mrP; omega)).trans (hS2 p r hp0 hr)) (fun M4 hv5 hV4 => ?_) (len + 1) 0 M3 _ _ (by omega) sv_refl hV3
  refine hend M4 (sv_trans hv4 (sv_mono hv5 (fun i k h => Or.inr (Or.inr h)))) ?_ (fun z => ?_)
  · exact mw_M hv5 (hasM_cong hC3 (fun q hq j _ => drA_one hok hL hq))
  · have h := hV4 z
    rw [dwW_one hL _ (Nat.le_refl _)] at h
    exact h
theorem jy_z (hok : okA (A p 0) (A p 1) (A p 2) (A p 3)) (hj : jyP A p = true) : A p 3 = nI 0 := by
  have hj : A p 0 = nI 12 ∨ A p 0 = nI 13 := of_decide_eq_true hj
  rcases okA_cases hok with ⟨e, ex, ey, ez⟩ | ⟨e, ex, ey, ez⟩ | ⟨i, hi, e, ex, ez⟩ | ⟨i, j, hi, hj2, e, ex, ey, ez⟩ | ⟨i, j, hi, hj2, e, ex, ey, ez⟩ | ⟨k, i, j, l, hk1, hk2, hi, hj2, hl, e, ex, ey, ez⟩ | ⟨i, hi, e, ex, ey, ez⟩ | ⟨j, hj2, e, ex, ey, ez⟩ | ⟨i, j, hi, hj2, e, ex, ey, ez⟩
  · exact ez
  · exact ez
  · exact ez
  · exact ez
  · exact ez
  · rw [e] at hj
    rcases hj with hj | hj
    · have := nI_inj (by omega) (by omega) hj; omega
    · have := nI_inj (by omega) (by omega) hj; omega
  · exact ez
  · exact ez
  · exact ez
abbrev tmP (t i k : Nat) : Prop := mrP t i k ∨ i = 256 ∧ k = 26
theorem tm_M {r2 : Nat} (h : sv (tmP t) M M') (hne : r2 ≠ t) (h50 : len ≤ 50) (hR : hasM M r2 len A) : hasM M' r2 len A := ⟨(sv_I h (by unfold tmP mrP; omega)).trans hR.1, fun p hp0 j hj => (sv_I h (by unfold tmP mrP; omega)).trans (hR.2 p hp0 j hj)⟩
theorem l_mthread_1 (hr : r < 44) (ht : t < 44) (hne : r ≠ t) (hR : hasM M r len A) (hok : okR len A) (hend : ∀ M' y4, sv (tmP t) M M' → hasM M' t len (thA len A) → mj_V (d + 3) lim mq_Model_thread 74 [.ref 256, .int (nI r), .int (nI t), .int (nI len), y4] [] (hp M') Q) : ∀ (n p : Nat) (M' : mm) (x4 : Value), p + n = len → sv (tmP t) M M' → hasM M' t len (mxA (thA len A) A p) → mj_V (d + 3) lim mq_Model_thread 8 [.ref 256, .int (nI r), .int (nI t), .int (nI p), x4] [] (hp M') Q := by
  have h50 := hok.1
  intro n
  induction n with
  | zero =>
    intro p M' x4 hn hv hB
    obtain rfl : p = len := by omega
    have r0 := (tm_M hv hne h50 hR).1
    have e1 : ¬ nI p < nI p := nI_nlt (by omega) (by omega)
    rw [zi_Model_thread_8]
    simp (disch := first | assumption | omega) only [zi_Model_thread_9, zi_Model_thread_10, zi_Model_thread_13, zi_Model_thread_14, zi_Model_thread_15, ↓reduceIte, mj_op_s, Option.toList_some, Option.toList_none, List.cons_append, List.nil_append, hp_1, hp_2, true_and, and_true, zb_0, zb_1, zb_b, va_rf, io_256, ↓ogf_256_0, ↓opf_256_0, ↓ogf_256_1, ↓ogf_256_2, ↓ogf_256_3, ↓ogf_256_4, ↓opf_256_4, ↓ogf_256_5, ↓ogf_256_6, ↓ogf_256_7, ↓opf_256_7, ↓ogf_256_8, ↓opf_256_8, ↓ogf_256_9, ↓opf_256_9, ↓ogf_256_10, ↓opf_256_10, ↓ogf_256_11, ↓ogf_256_12, ↓ogf_256_13, ↓ogf_256_14, ↓ogf_256_15, ↓ogf_256_16, ↓ogf_256_17, ↓opf_256_17, ↓ogf_256_18, ↓opf_256_18, ↓ogf_256_19, ↓ogf_256_20, ↓ogf_256_21, ↓ogf_256_22, ↓opf_256_22_0, ↓opf_256_22_1, ↓ogf_256_23, ↓opf_256_23, ↓ogf_256_24, ↓ogf_256_25, ↓opf_256_25_0, ↓opf_256_25_1, ↓ogf_256_26, ↓opf_256_26, ↓ogf_256_27, ↓opf_256_27, ↓ogf_256_28, ↓opf_256_28, ↓ogf_256_29, ↓ogf_256_30, ↓ogf_256_31, ↓ogf_256_32, ↓ogf_256_33, ↓ogf_256_34, ↓oai_257, ↓owi_257, r0, e1]
    exact hend M' _ hv (mx_eM hB)
  | succ n ih =>
    intro p M' x4 hn hv hB
    have hR' := tm_M hv hne h50 hR
    have r0 := hR'.1
    have hp50 : p < 50 := by omega
    have hpl : p < len := by omega
    have e1 : nI p < nI len := nI_lt (by omega) (by omega)
    have q0 := hR'.2 p hpl 0 (by omega)
    have q1 := hR'.2 p hpl 1 (by omega)
    have q2 := hR'.2 p hpl 2 (by omega)
    have htg := tgP_le (len := len) (A := A) (p := p)
    rw [zi_Model_thread_8]
    cases hj : jyP A p with
    | true =>
      have hpl2 := plF_tg hok hpl hj
      have hz := jy_z (hok.2 p hpl) hj
      have hfin : mj_V (d + 3) lim mq_Model_thread 8 [.ref 256, .int (nI r), .int (nI t), .int (nI (p + 1)), .int (A p 0)] [] (hp (puM (wI M' 256 26 (nI (ldR len A (tgP len A p)).2)) t p (A p 0) (A p 1) (nI (ldR len A (tgP len A p)).1) (nI 0))) Q := by
        have hv2 : sv (tmP t) M' (wI M' 256 26 (nI (ldR len A (tgP len A p)).2)) := sv_wI sv_refl (by unfold tmP; omega)
        have hB2 : hasM (wI M' 256 26 (nI (ldR len A (tgP len A p)).2)) t len (mxA (thA len A) A p) := ⟨by rw [rI_wI, if_neg (by omega)]; exact hB.1, fun q hq j hj => by rw [rI_wI, if_neg (by omega)]; exact hB.2 q hq j hj⟩
        refine ih (p + 1) _ _ (by omega) (sv_trans hv (sv_trans hv2 (sv_mono (sv_puM hp50) (fun i k h => Or.inl h)))) (hasM_cong (hasM_pu hB2) (mx_s (fun j hj4 => ?_) (fun q j e => if_neg e)))
        unfold upA
        rw [if_pos rfl]
        unfold acA thA
        have h4 : j = 0 ∨ j = 1 ∨ j = 2 ∨ j = 3 := by omega
        rcases h4 with rfl | rfl | rfl | rfl
        · rw [if_pos rfl, if_neg (by omega)]
        · rw [if_neg (by omega), if_pos rfl, if_neg (by omega)]
        · rw [if_neg (by omega), if_neg (by omega), if_pos rfl, if_pos ⟨hj, rfl⟩]
        · rw [if_neg (by omega), if_neg (by omega), if_neg (by omega), if_neg (by omega), hz]
      have hj0 : A p 0 = nI 12 ∨ A p 0 = nI 13 := of_decide_eq_true hj
      rcases hj0 with c | c
      · rw [c] at q0 hfin
        simp (decide := true) (disch := first | assumption | omega) only [zi_Model_thread_9, zi_Model_thread_10, zi_Model_thread_13, zi_Model_thread_14, zi_Model_thread_15, zi_Model_thread_18, zi_Model_thread_19, zi_Model_thread_20, zi_Model_thread_21, zi_Model_thread_24, zi_Model_thread_26, zi_Model_thread_28, zi_Model_thread_30, zi_Model_thread_33, zi_Model_thread_35, zi_Model_thread_37, zi_Model_thread_40, zi_Model_thread_41, zi_Model_thread_42, zi_Model_thread_43, zi_Model_thread_45, zi_Model_thread_46, zi_Model_thread_47, zi_Model_thread_48, zi_Model_thread_49, zi_Model_thread_52, zi_Model_thread_53, zi_Model_thread_54, zi_Model_thread_55, zi_Model_thread_56, zi_Model_thread_57, zi_Model_thread_58, zi_Model_thread_61, zi_Model_thread_64, zi_Model_thread_65, zi_Model_thread_68, zi_Model_thread_71, ↓reduceIte, mj_op_s, Option.toList_some, Option.toList_none, List.cons_append, List.nil_append, hp_1, hp_2, true_and, and_true, zb_0, zb_1, zb_b, va_rf, io_256, ↓ogf_256_0, ↓opf_256_0, ↓ogf_256_1, ↓ogf_256_2, ↓ogf_256_3, ↓ogf_256_4, ↓opf_256_4, ↓ogf_256_5, ↓ogf_256_6, ↓ogf_256_7, ↓opf_256_7, ↓ogf_256_8, ↓opf_256_8, ↓ogf_256_9, ↓opf_256_9, ↓ogf_256_10, ↓opf_256_10, ↓ogf_256_11, ↓ogf_256_12, ↓ogf_256_13, ↓ogf_256_14, ↓ogf_256_15, ↓ogf_256_16, ↓ogf_256_17, ↓opf_256_17, ↓ogf_256_18, ↓opf_256_18, ↓ogf_256_19, ↓ogf_256_20, ↓ogf_256_21, ↓ogf_256_22, ↓opf_256_22_0, ↓opf_256_22_1, ↓ogf_256_23, ↓opf_256_23, ↓ogf_256_24, ↓ogf_256_25, ↓opf_256_25_0, ↓opf_256_25_1, ↓ogf_256_26, ↓opf_256_26, ↓ogf_256_27, ↓opf_256_27, ↓ogf_256_28, ↓opf_256_28, ↓ogf_256_29, ↓ogf_256_30, ↓ogf_256_31, ↓ogf_256_32, ↓ogf_256_33, ↓ogf_256_34, ↓oai_257, ↓owi_257, r0, e1, c_Model_kind, c_Model_num, q0, q1, q2, c_Model_leads hr hR' hok hpl2 htg, c_Model_put ht hp50, nI_add]
        exact hfin
      · rw [c] at q0 hfin
        simp (decide := true) (disch := first | assumption | omega) only [zi_Model_thread_9, zi_Model_thread_10, zi_Model_thread_13, zi_Model_thread_14, zi_Model_thread_15, zi_Model_thread_18, zi_Model_thread_19, zi_Model_thread_20, zi_Model_thread_21, zi_Model_thread_24, zi_Model_thread_26, zi_Model_thread_28, zi_Model_thread_30, zi_Model_thread_33, zi_Model_thread_35, zi_Model_thread_37, zi_Model_thread_40, zi_Model_thread_41, zi_Model_thread_42, zi_Model_thread_43, zi_Model_thread_45, zi_Model_thread_46, zi_Model_thread_47, zi_Model_thread_48, zi_Model_thread_49, zi_Model_thread_52, zi_Model_thread_53, zi_Model_thread_54, zi_Model_thread_55, zi_Model_thread_56, zi_Model_thread_57, zi_Model_thread_58, zi_Model_thread_61, zi_Model_thread_64, zi_Model_thread_65, zi_Model_thread_68, zi_Model_thread_71, ↓reduceIte, mj_op_s, Option.toList_some, Option.toList_none, List.cons_append, List.nil_append, hp_1, hp_2, true_and, and_true, zb_0, zb_1, zb_b, va_rf, io_256, ↓ogf_256_0, ↓opf_256_0, ↓ogf_256_1, ↓ogf_256_2, ↓ogf_256_3, ↓ogf_256_4, ↓opf_256_4, ↓ogf_256_5, ↓ogf_256_6, ↓ogf_256_7, ↓opf_256_7, ↓ogf_256_8, ↓opf_256_8, ↓ogf_256_9, ↓opf_256_9, ↓ogf_256_10, ↓opf_256_10, ↓ogf_256_11, ↓ogf_256_12, ↓ogf_256_13, ↓ogf_256_14, ↓ogf_256_15, ↓ogf_256_16, ↓ogf_256_17, ↓opf_256_17, ↓ogf_256_18, ↓opf_256_18, ↓ogf_256_19, ↓ogf_256_20, ↓ogf_256_21, ↓ogf_256_22, ↓opf_256_22_0, ↓opf_256_22_1, ↓ogf_256_23, ↓opf_256_23, ↓ogf_256_24, ↓ogf_256_25, ↓opf_256_25_0, ↓opf_256_25_1, ↓ogf_256_26, ↓opf_256_26, ↓ogf_256_27, ↓opf_256_27, ↓ogf_256_28, ↓opf_256_28, ↓ogf_256_29, ↓ogf_256_30, ↓ogf_256_31, ↓ogf_256_32, ↓ogf_256_33, ↓ogf_256_34, ↓oai_257, ↓owi_257, r0, e1, c_Model_kind, c_Model_num, q0, q1, q2, c_Model_leads hr hR' hok hpl2 htg, c_Model_put ht hp50, nI_add]
        exact hfin
    | false =>
      have hj0 : ¬ (A p 0 = nI 12 ∨ A p 0 = nI 13) := of_decide_eq_false hj
      have c12 : ¬ A p 0 = nI 12 := fun h => hj0 (Or.inl h)
      have c13 : ¬ A p 0 = nI 13 := fun h => hj0 (Or.inr h)
      simp (decide := true) (disch := first | assumption | omega) only [zi_Model_thread_9, zi_Model_thread_10, zi_Model_thread_13, zi_Model_thread_14, zi_Model_thread_15, zi_Model_thread_18, zi_Model_thread_19, zi_Model_thread_20, zi_Model_thread_21, zi_Model_thread_24, zi_Model_thread_26, zi_Model_thread_28, zi_Model_thread_30, zi_Model_thread_33, zi_Model_thread_35, zi_Model_thread_37, zi_Model_thread_40, zi_Model_thread_41, zi_Model_thread_42, zi_Model_thread_43, zi_Model_thread_45, zi_Model_thread_46, zi_Model_thread_47, zi_Model_thread_48, zi_Model_thread_49, zi_Model_thread_52, zi_Model_thread_53, zi_Model_thread_54, zi_Model_thread_55, zi_Model_thread_56, zi_Model_thread_57, zi_Model_thread_58, zi_Model_thread_61, zi_Model_thread_64, zi_Model_thread_65, zi_Model_thread_68, zi_Model_thread_71, ↓reduceIte, mj_op_s, Option.toList_some, Option.toList_none, List.cons_append, List.nil_append, hp_1, hp_2, true_and, and_true, zb_0, zb_1, zb_b, va_rf, io_256, ↓ogf_256_0, ↓opf_256_0, ↓ogf_256_1, ↓ogf_256_2, ↓ogf_256_3, ↓ogf_256_4, ↓opf_256_4, ↓ogf_256_5, ↓ogf_256_6, ↓ogf_256_7, ↓opf_256_7, ↓ogf_256_8, ↓opf_256_8, ↓ogf_256_9, ↓opf_256_9, ↓ogf_256_10, ↓opf_256_10, ↓ogf_256_11, ↓ogf_256_12, ↓ogf_256_13, ↓ogf_256_14, ↓ogf_256_15, ↓ogf_256_16, ↓ogf_256_17, ↓opf_256_17, ↓ogf_256_18, ↓opf_256_18, ↓ogf_256_19, ↓ogf_256_20, ↓ogf_256_21, ↓ogf_256_22, ↓opf_256_22_0, ↓opf_256_22_1, ↓ogf_256_23, ↓opf_256_23, ↓ogf_256_24, ↓ogf_256_25, ↓opf_256_25_0, ↓opf_256_25_1, ↓ogf_256_26, ↓opf_256_26, ↓ogf_256_27, ↓opf_256_27, ↓ogf_256_28, ↓opf_256_28, ↓ogf_256_29, ↓ogf_256_30, ↓ogf_256_31, ↓ogf_256_32, ↓ogf_256_33, ↓ogf_256_34, ↓oai_257, ↓owi_257, r0, e1, c_Model_kind, q0, c12, c13, nI_add]
      refine ih (p + 1) M' _ (by omega) hv (hasM_cong hB (mx_s (fun j _ => ?_) (fun q j _ => rfl)))
      rw [mx_p]
      unfold thA
      rw [if_neg (fun z => by rw [hj] at z; cases z.1)]
abbrev twP (wf : Bool) (i k : Nat) : Prop := mwP wf i k ∨ i = 256 ∧ k = 26
theorem tw_M {r2 : Nat} (h : sv (twP wf) M M') (hR : hasM M r2 len A) : hasM M' r2 len A := ⟨(sv_I h (by unfold twP mwP; omega)).trans hR.1, fun p hp0 j hj => (sv_I h (by unfold twP mwP; omega)).trans (hR.2 p hp0 j hj)⟩
theorem l_mthread_2 (hr : r < 44) (hR : hasM M r len A) (h50 : len ≤ 50) (hw : rI M 256 25 = b1 wf) {t : Int32} (hend : ∀ M' y4, sv (twP wf) M M' → (wf = true → hasV M' (twA (len + 1))) → mj_V (d + 2) lim mq_Model_thread 101 [.ref 256, .int (nI r), .int t, .int (nI (len + 1)), y4] [] (hp M') Q) : ∀ (n p : Nat) (M' : mm) (x4 : Value), p + n = len + 1 → sv (twP wf) M M' → (wf = true → hasV M' (twA p)) → mj_V (d + 2) lim mq_Model_thread 76 [.ref 256, .int (nI r), .int t, .int (nI p), x4] [] (hp M') Q := by
  intro n
  induction n with
  | zero =>
    intro p M' x4 hn hv hV
    obtain rfl : p = len + 1 := by omega
    have r0 := (tw_M hv hR).1
    have e1 : nI len < nI (len + 1) := nI_lt (by omega) (by omega)
    rw [zi_Model_thread_76]
    simp (disch := first | assumption | omega) only [zi_Model_thread_77, zi_Model_thread_78, zi_Model_thread_81, zi_Model_thread_82, zi_Model_thread_83, ↓reduceIte, mj_op_s, Option.toList_some, Option.toList_none, List.cons_append, List.nil_append, hp_1, hp_2, true_and, and_true, zb_0, zb_1, zb_b, va_rf, io_256, ↓ogf_256_0, ↓opf_256_0, ↓ogf_256_1, ↓ogf_256_2, ↓ogf_256_3, ↓ogf_256_4, ↓opf_256_4, ↓ogf_256_5, ↓ogf_256_6, ↓ogf_256_7, ↓opf_256_7, ↓ogf_256_8, ↓opf_256_8, ↓ogf_256_9, ↓opf_256_9, ↓ogf_256_10, ↓opf_256_10, ↓ogf_256_11, ↓ogf_256_12, ↓ogf_256_13, ↓ogf_256_14, ↓ogf_256_15, ↓ogf_256_16, ↓ogf_256_17, ↓opf_256_17, ↓ogf_256_18, ↓opf_256_18, ↓ogf_256_19, ↓ogf_256_20, ↓ogf_256_21, ↓ogf_256_22, ↓opf_256_22_0, ↓opf_256_22_1, ↓ogf_256_23, ↓opf_256_23, ↓ogf_256_24, ↓ogf_256_25, ↓opf_256_25_0, ↓opf_256_25_1, ↓ogf_256_26, ↓opf_256_26, ↓ogf_256_27, ↓opf_256_27, ↓ogf_256_28, ↓opf_256_28, ↓ogf_256_29, ↓ogf_256_30, ↓ogf_256_31, ↓ogf_256_32, ↓ogf_256_33, ↓ogf_256_34, ↓oai_257, ↓owi_257, r0, e1]
    exact hend M' _ hv hV
  | succ n ih =>
    intro p M' x4 hn hv hV
    have r0 := (tw_M hv hR).1
    have e1 : ¬ nI len < nI p := nI_nlt (by omega) (by omega)
    have hle := twA_le p
    have hw2 : (twA p).1 < 200 := by omega
    have hw' : rI M' 256 25 = b1 wf := (sv_I hv (by unfold twP mwP; omega)).trans hw
    rw [zi_Model_thread_76]
    simp (decide := true) (disch := first | assumption | omega) only [zi_Model_thread_77, zi_Model_thread_78, zi_Model_thread_81, zi_Model_thread_82, zi_Model_thread_83, zi_Model_thread_86, zi_Model_thread_87, zi_Model_thread_88, zi_Model_thread_89, zi_Model_thread_90, zi_Model_thread_91, zi_Model_thread_92, ↓reduceIte, mj_op_s, Option.toList_some, Option.toList_none, List.cons_append, List.nil_append, hp_1, hp_2, true_and, and_true, zb_0, zb_1, zb_b, va_rf, io_256, ↓ogf_256_0, ↓opf_256_0, ↓ogf_256_1, ↓ogf_256_2, ↓ogf_256_3, ↓ogf_256_4, ↓opf_256_4, ↓ogf_256_5, ↓ogf_256_6, ↓ogf_256_7, ↓opf_256_7, ↓ogf_256_8, ↓opf_256_8, ↓ogf_256_9, ↓opf_256_9, ↓ogf_256_10, ↓opf_256_10, ↓ogf_256_11, ↓ogf_256_12, ↓ogf_256_13, ↓ogf_256_14, ↓ogf_256_15, ↓ogf_256_16, ↓ogf_256_17, ↓opf_256_17, ↓ogf_256_18, ↓opf_256_18, ↓ogf_256_19, ↓ogf_256_20, ↓ogf_256_21, ↓ogf_256_22, ↓opf_256_22_0, ↓opf_256_22_1, ↓ogf_256_23, ↓opf_256_23, ↓ogf_256_24, ↓ogf_256_25, ↓opf_256_25_0, ↓opf_256_25_1, ↓ogf_256_26, ↓opf_256_26, ↓ogf_256_27, ↓opf_256_27, ↓ogf_256_28, ↓opf_256_28, ↓ogf_256_29, ↓ogf_256_30, ↓ogf_256_31, ↓ogf_256_32, ↓ogf_256_33, ↓ogf_256_34, ↓oai_257, ↓owi_257, r0, e1]
    refine c_Model_add2 hw' hV hw2 (fun M2 hv2 hV2 => ?_)
    have hv2 := mn_mw hw2 hv2
    simp only [zi_Model_thread_95, zi_Model_thread_98, ↓reduceIte, mj_op_s, Option.toList_some, Option.toList_none, List.cons_append, List.nil_append, hp_1, hp_2, true_and, and_true, zb_0, zb_1, zb_b, va_rf, nI_add]
    exact ih (p + 1) M2 _ (by omega) (sv_trans hv (sv_mono hv2 (fun i k h => Or.inl h))) hV2
theorem l_mthread_3 (hr : r < 44) (hR : hasM M r len A) (hok : okR len A) (hw : rI M 256 25 = b1 wf) {t : Int32} (hend : ∀ M', sv (twP wf) M M' → (wf = true → hasV M' (twB len A len)) → Q none (hp M')) : ∀ (n p : Nat) (M' : mm) (x4 : Value), p + n = len → sv (twP wf) M M' → (wf = true → hasV M' (twB len A p)) → mj_V (d + 3) lim mq_Model_thread 103 [.ref 256, .int (nI r), .int t, .int (nI p), x4] [] (hp M') Q := by
  have h50 := hok.1
  intro n
  induction n with
  | zero =>
    intro p M' x4 hn hv hV
    obtain rfl : p = len := by omega
    have r0 := (tw_M hv hR).1
    have e1 : ¬ nI p < nI p := nI_nlt (by omega) (by omega)
    rw [zi_Model_thread_103]
    simp (disch := first | assumption | omega) only [zi_Model_thread_104, zi_Model_thread_105, zi_Model_thread_108, zi_Model_thread_109, zi_Model_thread_110, zi_Model_thread_146, ↓reduceIte, mj_op_s, Option.toList_some, Option.toList_none, List.cons_append, List.nil_append, hp_1, hp_2, true_and, and_true, zb_0, zb_1, zb_b, va_rf, io_256, ↓ogf_256_0, ↓opf_256_0, ↓ogf_256_1, ↓ogf_256_2, ↓ogf_256_3, ↓ogf_256_4, ↓opf_256_4, ↓ogf_256_5, ↓ogf_256_6, ↓ogf_256_7, ↓opf_256_7, ↓ogf_256_8, ↓opf_256_8, ↓ogf_256_9, ↓opf_256_9, ↓ogf_256_10, ↓opf_256_10, ↓ogf_256_11, ↓ogf_256_12, ↓ogf_256_13, ↓ogf_256_14, ↓ogf_256_15, ↓ogf_256_16, ↓ogf_256_17, ↓opf_256_17, ↓ogf_256_18, ↓opf_256_18, ↓ogf_256_19, ↓ogf_256_20, ↓ogf_256_21, ↓ogf_256_22, ↓opf_256_22_0, ↓opf_256_22_1, ↓ogf_256_23, ↓opf_256_23, ↓ogf_256_24, ↓ogf_256_25, ↓opf_256_25_0, ↓opf_256_25_1, ↓ogf_256_26, ↓opf_256_26, ↓ogf_256_27, ↓opf_256_27, ↓ogf_256_28, ↓opf_256_28, ↓ogf_256_29, ↓ogf_256_30, ↓ogf_256_31, ↓ogf_256_32, ↓ogf_256_33, ↓ogf_256_34, ↓oai_257, ↓owi_257, r0, e1]
    exact hend M' hv hV
  | succ n ih =>
    intro p M' x4 hn hv hV
    have hR' := tw_M hv hR
    have r0 := hR'.1
    have hpl : p ≤ len := by omega
    have e1 : nI p < nI len := nI_lt (by omega) (by omega)
    have hle := twB_le (len := len) (A := A) p
    have hw2 : (twB len A p).1 < 200 := by omega
    have hb := ldR_b (len := len) (A := A) hpl
    have hy : plF (nI p) (nI len) = nI p := by rw [plF_n (by omega) (by omega), if_pos (by omega)]
    have hv2 : sv (twP wf) M' (wI M' 256 26 (nI (ldR len A p).2)) := sv_wI sv_refl (by unfold twP; omega)
    have hw' : rI (wI M' 256 26 (nI (ldR len A p).2)) 256 25 = b1 wf := (sv_I (P := fun i k => i = 256 ∧ k = 26) (sv_wI sv_refl ⟨rfl, rfl⟩) (by omega)).trans ((sv_I hv (by unfold twP mwP; omega)).trans hw)
    have hV' : wf = true → hasV (wI M' 256 26 (nI (ldR len A p).2)) (twB len A p) := fun z => by
      obtain ⟨a, b⟩ := hV z
      refine ⟨by rw [rI_wI, if_neg (by omega)]; exact a, fun i hi => ?_⟩
      obtain ⟨b1, b2, b3, b4, b5⟩ := b i hi
      exact ⟨by rw [rI_wI, if_neg (by omega)]; exact b1, by rw [rI_wI, if_neg (by omega)]; exact b2, by rw [rI_wI, if_neg (by omega)]; exact b3, by rw [rI_wI, if_neg (by omega)]; exact b4, fun r hr => ⟨by rw [rI_wI, if_neg (by omega)]; exact (b5 r hr).1, (b5 r hr).2⟩⟩
    have h26 : rI (wI M' 256 26 (nI (ldR len A p).2)) 256 26 = nI (ldR len A p).2 := by rw [rI_wI, if_pos ⟨rfl, rfl⟩]
    rw [zi_Model_thread_103]
    by_cases c : (ldR len A p).1 = p
    · have eW : twB len A (p + 1) = twB len A p := if_pos c
      simp (decide := true) (disch := first | assumption | omega) only [zi_Model_thread_104, zi_Model_thread_105, zi_Model_thread_108, zi_Model_thread_109, zi_Model_thread_110, zi_Model_thread_113, zi_Model_thread_114, zi_Model_thread_115, zi_Model_thread_116, zi_Model_thread_119, zi_Model_thread_121, zi_Model_thread_123, zi_Model_thread_124, zi_Model_thread_140, zi_Model_thread_143, ↓reduceIte, mj_op_s, Option.toList_some, Option.toList_none, List.cons_append, List.nil_append, hp_1, hp_2, true_and, and_true, zb_0, zb_1, zb_b, va_rf, io_256, ↓ogf_256_0, ↓opf_256_0, ↓ogf_256_1, ↓ogf_256_2, ↓ogf_256_3, ↓ogf_256_4, ↓opf_256_4, ↓ogf_256_5, ↓ogf_256_6, ↓ogf_256_7, ↓opf_256_7, ↓ogf_256_8, ↓opf_256_8, ↓ogf_256_9, ↓opf_256_9, ↓ogf_256_10, ↓opf_256_10, ↓ogf_256_11, ↓ogf_256_12, ↓ogf_256_13, ↓ogf_256_14, ↓ogf_256_15, ↓ogf_256_16, ↓ogf_256_17, ↓opf_256_17, ↓ogf_256_18, ↓opf_256_18, ↓ogf_256_19, ↓ogf_256_20, ↓ogf_256_21, ↓ogf_256_22, ↓opf_256_22_0, ↓opf_256_22_1, ↓ogf_256_23, ↓opf_256_23, ↓ogf_256_24, ↓ogf_256_25, ↓opf_256_25_0, ↓opf_256_25_1, ↓ogf_256_26, ↓opf_256_26, ↓ogf_256_27, ↓opf_256_27, ↓ogf_256_28, ↓opf_256_28, ↓ogf_256_29, ↓ogf_256_30, ↓ogf_256_31, ↓ogf_256_32, ↓ogf_256_33, ↓ogf_256_34, ↓oai_257, ↓owi_257, r0, e1, c_Model_leads hr hR' hok hy hpl, c, nI_add]
      exact ih (p + 1) _ _ (by omega) (sv_trans hv hv2) (by rw [eW]; exact hV')
    · have eW : twB len A (p + 1) = wap (twB len A p) (p, (ldR len A p).1, 1, (ldR len A p).2, fun _ => 1, fun _ => 0) := if_neg c
      have hne : ¬ nI (ldR len A p).1 = nI p := fun h => c (nI_inj (by omega) (by omega) h)
      simp (decide := true) (disch := first | assumption | omega) only [zi_Model_thread_104, zi_Model_thread_105, zi_Model_thread_108, zi_Model_thread_109, zi_Model_thread_110, zi_Model_thread_113, zi_Model_thread_114, zi_Model_thread_115, zi_Model_thread_116, zi_Model_thread_119, zi_Model_thread_121, zi_Model_thread_123, zi_Model_thread_124, zi_Model_thread_127, zi_Model_thread_128, zi_Model_thread_129, zi_Model_thread_131, zi_Model_thread_132, zi_Model_thread_133, zi_Model_thread_136, zi_Model_thread_137, ↓reduceIte, mj_op_s, Option.toList_some, Option.toList_none, List.cons_append, List.nil_append, hp_1, hp_2, true_and, and_true, zb_0, zb_1, zb_b, va_rf, io_256, ↓ogf_256_0, ↓opf_256_0, ↓ogf_256_1, ↓ogf_256_2, ↓ogf_256_3, ↓ogf_256_4, ↓opf_256_4, ↓ogf_256_5, ↓ogf_256_6, ↓ogf_256_7, ↓opf_256_7, ↓ogf_256_8, ↓opf_256_8, ↓ogf_256_9, ↓opf_256_9, ↓ogf_256_10, ↓opf_256_10, ↓ogf_256_11, ↓ogf_256_12, ↓ogf_256_13, ↓ogf_256_14, ↓ogf_256_15, ↓ogf_256_16, ↓ogf_256_17, ↓opf_256_17, ↓ogf_256_18, ↓opf_256_18, ↓ogf_256_19, ↓ogf_256_20, ↓ogf_256_21, ↓ogf_256_22, ↓opf_256_22_0, ↓opf_256_22_1, ↓ogf_256_23, ↓opf_256_23, ↓ogf_256_24, ↓ogf_256_25, ↓opf_256_25_0, ↓opf_256_25_1, ↓ogf_256_26, ↓opf_256_26, ↓ogf_256_27, ↓opf_256_27, ↓ogf_256_28, ↓opf_256_28, ↓ogf_256_29, ↓ogf_256_30, ↓ogf_256_31, ↓ogf_256_32, ↓ogf_256_33, ↓ogf_256_34, ↓oai_257, ↓owi_257, r0, e1, c_Model_leads hr hR' hok hy hpl, hne, h26]
      refine c_Model_add2 hw' hV' hw2 (fun M2 hv3 hV2 => ?_)
      have hv3 := mn_mw hw2 hv3
      simp only [zi_Model_thread_140, zi_Model_thread_143, ↓reduceIte, mj_op_s, Option.toList_some, Option.toList_none, List.cons_append, List.nil_append, hp_1, hp_2, true_and, and_true, zb_0, zb_1, zb_b, va_rf, nI_add]
      exact ih (p + 1) M2 _ (by omega) (sv_trans hv (sv_trans hv2 (sv_mono hv3 (fun i k h => Or.inl h)))) (by rw [eW]; exact hV2)
theorem c_Model_thread (hr : r < 44) (ht : t < 44) (hne : r ≠ t) (hR : hasM M r len A) (hok : okR len A) (hw : rI M 256 25 = b1 wf) (hV : wf = true → hasV M w0) (hend : ∀ M', sv (fun i k => mrP t i k ∨ twP wf i k) M M' → hasM M' t (psA 2 len A).1 (psA 2 len A).2 → (wf = true → hasV M' (psW 2 len A)) → Q none (hp M')) : mj_V (d + 5) lim mq_Model_thread 0 [.ref 256, .int (nI r), .int (nI t), mj_j, mj_j] [] (hp M) Q := by
  have h50 := hok.1
  simp only [zi_Model_thread_0, zi_Model_thread_1, zi_Model_thread_2, zi_Model_thread_3, ↓reduceIte, mj_op_s, Option.toList_some, Option.toList_none, List.cons_append, List.nil_append, hp_1, hp_2, true_and, and_true, zb_0, zb_1, zb_b, va_rf, io_256, ↓ogf_256_0, ↓opf_256_0, ↓ogf_256_1, ↓ogf_256_2, ↓ogf_256_3, ↓ogf_256_4, ↓opf_256_4, ↓ogf_256_5, ↓ogf_256_6, ↓ogf_256_7, ↓opf_256_7, ↓ogf_256_8, ↓opf_256_8, ↓ogf_256_9, ↓opf_256_9, ↓ogf_256_10, ↓opf_256_10, ↓ogf_256_11, ↓ogf_256_12, ↓ogf_256_13, ↓ogf_256_14, ↓ogf_256_15, ↓ogf_256_16, ↓ogf_256_17, ↓opf_256_17, ↓ogf_256_18, ↓opf_256_18, ↓ogf_256_19, ↓ogf_256_20, ↓ogf_256_21, ↓ogf_256_22, ↓opf_256_22_0, ↓opf_256_22_1, ↓ogf_256_23, ↓opf_256_23, ↓ogf_256_24, ↓ogf_256_25, ↓opf_256_25_0, ↓opf_256_25_1, ↓ogf_256_26, ↓opf_256_26, ↓ogf_256_27, ↓opf_256_27, ↓ogf_256_28, ↓opf_256_28, ↓ogf_256_29, ↓ogf_256_30, ↓ogf_256_31, ↓ogf_256_32, ↓ogf_256_33, ↓ogf_256_34]
  refine c_Model_copy hr ht hne hR h50 (fun M2 hv2 hC2 => ?_)
  simp only [zi_Model_thread_6, zi_Model_thread_7, ↓reduceIte, mj_op_s, Option.toList_some, Option.toList_none, List.cons_append, List.nil_append, hp_1, hp_2, true_and, and_true, zb_0, zb_1, zb_b, va_rf]
  have hR2 := mr_M hv2 hne h50 hR
  refine l_mthread_1 (d := d + 2) (M := M2) hr ht hne hR2 hok (fun M3 y4 hv3 hC3 => ?_) len 0 M2 _ (by omega) sv_refl (by rw [mx_0]; exact hC2)
  simp only [zi_Model_thread_74, zi_Model_thread_75, ↓reduceIte, mj_op_s, Option.toList_some, Option.toList_none, List.cons_append, List.nil_append, hp_1, hp_2, true_and, and_true, zb_0, zb_1, zb_b, va_rf]
  have hR3 := tm_M hv3 hne h50 hR2
  have hv4 : sv (fun i k => mrP t i k ∨ twP wf i k) M M3 := sv_trans (sv_mono hv2 (fun i k h => Or.inl h)) (sv_mono hv3 (fun i k h => h.imp id (fun h => Or.inr h)))
  have hw3 : rI M3 256 25 = b1 wf := (sv_I hv4 (by unfold mrP twP mwP; omega)).trans hw
  have hV3 : wf = true → hasV M3 w0 := fun z => by
    have h := hV z
    refine ⟨?_, fun i hi => by have : i < 0 := hi; omega⟩
    rw [sv_I hv3 (by unfold tmP mrP; omega), sv_I hv2 (by unfold mrP; omega)]
    exact h.1
  refine l_mthread_2 (d := d + 3) (M := M3) hr hR3 h50 hw3 (fun M4 y4 hv5 hV4 => ?_) (len + 1) 0 M3 _ (by omega) sv_refl hV3
  simp only [zi_Model_thread_101, zi_Model_thread_102, ↓reduceIte, mj_op_s, Option.toList_some, Option.toList_none, List.cons_append, List.nil_append, hp_1, hp_2, true_and, and_true, zb_0, zb_1, zb_b, va_rf]
  have hw4 : rI M4 256 25 = b1 wf := (sv_I hv5 (by unfold twP mwP; omega)).trans hw3
  refine l_mthread_3 (d := d + 2) (M := M4) hr (tw_M hv5 hR3) hok hw4 (fun M5 hv6 hV5 => ?_) len 0 M4 _ (by omega) sv_refl hV4
  exact hend M5 (sv_trans hv4 (sv_mono (sv_trans hv5 hv6) (fun i k h => Or.inr h))) (tw_M (sv_trans hv5 hv6) hC3) hV5
end C86
