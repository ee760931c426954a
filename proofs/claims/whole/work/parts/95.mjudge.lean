/-! Model: judge -/
abbrev jmP (i k : Nat) : Prop := l2P i k ∨ i = 256 ∧ (k = 17 ∨ k = 18 ∨ k = 27 ∨ k = 28)
section C95
variable {d : Nat} {lim : Nat × Nat} {Q : mj_Q} {M M' : mm} {a b i la lb p q j r n nr : Nat} {A B : AA} {W : WS} {R : Nat → XA}
theorem mX_w {k : Nat} {v : Int32} (hk : k = 17 ∨ k = 18) (hX : mX W a b la lb A B M) : mX W a b la lb A B (wI M 256 k v) := by
  have h : sv (fun i j => i = 256 ∧ (j = 17 ∨ j = 18)) M (wI M 256 k v) := sv_wI sv_refl ⟨rfl, hk⟩
  exact ⟨hasV_sv h (fun i k h1 h2 => by omega) (by omega) hX.1, (sv_I h (by omega)).trans hX.2.1, (sv_I h (by omega)).trans hX.2.2.1, sv_hasM h (fun k => ⟨by omega, by omega⟩) hX.2.2.2.1, sv_hasM h (fun k => ⟨by omega, by omega⟩) hX.2.2.2.2⟩
theorem l_mjudge_2 (hW : okW W) (ha : a < 44) (hb : b < 44) (hA : okR la A) (hB : okR lb B) {x1 x2 x3 : Int32} (hend : ∀ M', sv jmP M M' → rI M' 256 18 = (jl W la lb A B W.1 0).2 → Q (some (.int (nI (jl W la lb A B W.1 0).1))) (hp M')) : ∀ (n i : Nat) (M' : mm), i + n = W.1 → sv jmP M M' → mX W a b la lb A B M' → rI M' 256 17 = nI 0 → rI M' 256 18 = -1 → jl W la lb A B W.1 0 = jl W la lb A B n i → mj_V (d + 6) lim mq_Model_judge 128 [.ref 256, .int x1, .int x2, .int x3, .int (nI i)] [] (hp M') Q := by
  have hn := hW.1
  intro n
  induction n with
  | zero =>
    intro i M' hi hv hX h17 h18 he
    obtain rfl : i = W.1 := by omega
    have r0 := hX.1.1
    have e1 : ¬ nI W.1 < nI W.1 := nI_nlt (by omega) (by omega)
    rw [he] at hend
    rw [zi_Model_judge_128]
    simp (disch := first | assumption | omega) only [zi_Model_judge_130, zi_Model_judge_131, zi_Model_judge_134, zi_Model_judge_173, zi_Model_judge_174, zi_Model_judge_177, ↓reduceIte, mj_op_s, Option.toList_some, Option.toList_none, List.cons_append, List.nil_append, hp_1, hp_2, true_and, and_true, zb_0, zb_1, zb_b, va_rf, io_256, ↓ogf_256_0, ↓opf_256_0, ↓ogf_256_1, ↓ogf_256_2, ↓ogf_256_3, ↓ogf_256_4, ↓opf_256_4, ↓ogf_256_5, ↓ogf_256_6, ↓ogf_256_7, ↓opf_256_7, ↓ogf_256_8, ↓opf_256_8, ↓ogf_256_9, ↓opf_256_9, ↓ogf_256_10, ↓opf_256_10, ↓ogf_256_11, ↓ogf_256_12, ↓ogf_256_13, ↓ogf_256_14, ↓ogf_256_15, ↓ogf_256_16, ↓ogf_256_17, ↓opf_256_17, ↓ogf_256_18, ↓opf_256_18, ↓ogf_256_19, ↓ogf_256_20, ↓ogf_256_21, ↓ogf_256_22, ↓opf_256_22_0, ↓opf_256_22_1, ↓ogf_256_23, ↓opf_256_23, ↓ogf_256_24, ↓ogf_256_25, ↓opf_256_25_0, ↓opf_256_25_1, ↓ogf_256_26, ↓opf_256_26, ↓ogf_256_27, ↓opf_256_27, ↓ogf_256_28, ↓opf_256_28, ↓ogf_256_29, ↓ogf_256_30, ↓ogf_256_31, ↓ogf_256_32, ↓ogf_256_33, ↓ogf_256_34, r0, e1, h17]
    exact hend M' hv h18
  | succ n ih =>
    intro i M' hi hv hX h17 h18 he
    have hiW : i < W.1 := by omega
    have r0 := hX.1.1
    have e1 : nI i < nI W.1 := nI_lt (by omega) (by omega)
    rw [zi_Model_judge_128]
    simp (decide := true) (disch := first | assumption | omega) only [zi_Model_judge_130, zi_Model_judge_131, zi_Model_judge_134, zi_Model_judge_137, zi_Model_judge_138, zi_Model_judge_141, zi_Model_judge_144, zi_Model_judge_145, zi_Model_judge_146, zi_Model_judge_148, ↓reduceIte, mj_op_s, Option.toList_some, Option.toList_none, List.cons_append, List.nil_append, hp_1, hp_2, true_and, and_true, zb_0, zb_1, zb_b, va_rf, io_256, ↓ogf_256_0, ↓opf_256_0, ↓ogf_256_1, ↓ogf_256_2, ↓ogf_256_3, ↓ogf_256_4, ↓opf_256_4, ↓ogf_256_5, ↓ogf_256_6, ↓ogf_256_7, ↓opf_256_7, ↓ogf_256_8, ↓opf_256_8, ↓ogf_256_9, ↓opf_256_9, ↓ogf_256_10, ↓opf_256_10, ↓ogf_256_11, ↓ogf_256_12, ↓ogf_256_13, ↓ogf_256_14, ↓ogf_256_15, ↓ogf_256_16, ↓ogf_256_17, ↓opf_256_17, ↓ogf_256_18, ↓opf_256_18, ↓ogf_256_19, ↓ogf_256_20, ↓ogf_256_21, ↓ogf_256_22, ↓opf_256_22_0, ↓opf_256_22_1, ↓ogf_256_23, ↓opf_256_23, ↓ogf_256_24, ↓ogf_256_25, ↓opf_256_25_0, ↓opf_256_25_1, ↓ogf_256_26, ↓opf_256_26, ↓ogf_256_27, ↓opf_256_27, ↓ogf_256_28, ↓opf_256_28, ↓ogf_256_29, ↓ogf_256_30, ↓ogf_256_31, ↓ogf_256_32, ↓ogf_256_33, ↓ogf_256_34, r0, e1, h17]
    refine c_judged (d := d) hW hiW ha hb hA hB hX (fun M2 hv2 => ?_)
    have hX2 := mX_lk hv2 hX
    have hjd : jd W la lb A B i < 8 := by
      have hw5 : ∀ p' q' f g, wnt W la lb (W.2 i) p' q' f g < 8 := by
        intro p' q' f g
        unfold wnt
        split
        · omega
        · split
          · omega
          · split <;> omega
      unfold jd jd1 loud
      repeat' split
      all_goals first
        | exact hw5 _ _ _ _
        | omega
    have hje : jl W la lb A B (n + 1) i = if jd W la lb A B i = 0 then jl W la lb A B n (i + 1) else (jd W la lb A B i, nI i) := rfl
    have h17' : ∀ v, rI (wI M2 256 17 v) 256 17 = v := fun v => by rw [rI_wI, if_pos ⟨rfl, rfl⟩]
    have hv3 : ∀ v, sv jmP M (wI M2 256 17 v) := fun v => sv_wI (sv_trans hv (sv_mono hv2 (fun i k h => Or.inl h))) (Or.inr ⟨rfl, Or.inl rfl⟩)
    by_cases c : jd W la lb A B i = 0
    · rw [hje, if_pos c] at he
      rw [c]
      simp (decide := true) (disch := first | assumption | omega) only [zi_Model_judge_151, zi_Model_judge_154, zi_Model_judge_155, zi_Model_judge_158, zi_Model_judge_167, zi_Model_judge_170, ↓reduceIte, mj_op_s, Option.toList_some, Option.toList_none, List.cons_append, List.nil_append, hp_1, hp_2, true_and, and_true, zb_0, zb_1, zb_b, va_rf, io_256, ↓ogf_256_0, ↓opf_256_0, ↓ogf_256_1, ↓ogf_256_2, ↓ogf_256_3, ↓ogf_256_4, ↓opf_256_4, ↓ogf_256_5, ↓ogf_256_6, ↓ogf_256_7, ↓opf_256_7, ↓ogf_256_8, ↓opf_256_8, ↓ogf_256_9, ↓opf_256_9, ↓ogf_256_10, ↓opf_256_10, ↓ogf_256_11, ↓ogf_256_12, ↓ogf_256_13, ↓ogf_256_14, ↓ogf_256_15, ↓ogf_256_16, ↓ogf_256_17, ↓opf_256_17, ↓ogf_256_18, ↓opf_256_18, ↓ogf_256_19, ↓ogf_256_20, ↓ogf_256_21, ↓ogf_256_22, ↓opf_256_22_0, ↓opf_256_22_1, ↓ogf_256_23, ↓opf_256_23, ↓ogf_256_24, ↓ogf_256_25, ↓opf_256_25_0, ↓opf_256_25_1, ↓ogf_256_26, ↓opf_256_26, ↓ogf_256_27, ↓opf_256_27, ↓ogf_256_28, ↓opf_256_28, ↓ogf_256_29, ↓ogf_256_30, ↓ogf_256_31, ↓ogf_256_32, ↓ogf_256_33, ↓ogf_256_34, h17', nI_add]
      refine ih (i + 1) _ (by omega) (hv3 _) (mX_w (Or.inl rfl) hX2) (h17' _) ?_ he
      rw [rI_wI, if_neg (by omega), sv_I hv2 (by unfold l2P; omega)]
      exact h18
    · rw [hje, if_neg c] at he
      rw [he] at hend
      have hne := nI_ne (show jd W la lb A B i < 2 ^ 31 by omega) (show 0 < 2 ^ 31 by omega) c
      have h17'' : rI (wI (wI M2 256 17 (nI (jd W la lb A B i))) 256 18 (nI i)) 256 17 = nI (jd W la lb A B i) := by rw [rI_wI, if_neg (by omega), rI_wI, if_pos ⟨rfl, rfl⟩]
      have h10'' : rI (wI (wI M2 256 17 (nI (jd W la lb A B i))) 256 18 (nI i)) 256 10 = nI W.1 := by
        rw [rI_wI, if_neg (by omega), rI_wI, if_neg (by omega)]
        exact hX2.1.1
      simp (decide := true) (disch := first | assumption | omega) only [zi_Model_judge_151, zi_Model_judge_154, zi_Model_judge_155, zi_Model_judge_158, zi_Model_judge_161, zi_Model_judge_162, zi_Model_judge_164, zi_Model_judge_167, zi_Model_judge_170, ↓reduceIte, mj_op_s, Option.toList_some, Option.toList_none, List.cons_append, List.nil_append, hp_1, hp_2, true_and, and_true, zb_0, zb_1, zb_b, va_rf, io_256, ↓ogf_256_0, ↓opf_256_0, ↓ogf_256_1, ↓ogf_256_2, ↓ogf_256_3, ↓ogf_256_4, ↓opf_256_4, ↓ogf_256_5, ↓ogf_256_6, ↓ogf_256_7, ↓opf_256_7, ↓ogf_256_8, ↓opf_256_8, ↓ogf_256_9, ↓opf_256_9, ↓ogf_256_10, ↓opf_256_10, ↓ogf_256_11, ↓ogf_256_12, ↓ogf_256_13, ↓ogf_256_14, ↓ogf_256_15, ↓ogf_256_16, ↓ogf_256_17, ↓opf_256_17, ↓ogf_256_18, ↓opf_256_18, ↓ogf_256_19, ↓ogf_256_20, ↓ogf_256_21, ↓ogf_256_22, ↓opf_256_22_0, ↓opf_256_22_1, ↓ogf_256_23, ↓opf_256_23, ↓ogf_256_24, ↓ogf_256_25, ↓opf_256_25_0, ↓opf_256_25_1, ↓ogf_256_26, ↓opf_256_26, ↓ogf_256_27, ↓opf_256_27, ↓ogf_256_28, ↓opf_256_28, ↓ogf_256_29, ↓ogf_256_30, ↓ogf_256_31, ↓ogf_256_32, ↓ogf_256_33, ↓ogf_256_34, h17', hne, nI_add]
      rw [zi_Model_judge_128]
      simp (decide := true) (disch := first | assumption | omega) only [zi_Model_judge_130, zi_Model_judge_131, zi_Model_judge_134, zi_Model_judge_137, zi_Model_judge_138, zi_Model_judge_141, zi_Model_judge_173, zi_Model_judge_174, zi_Model_judge_177, ↓reduceIte, mj_op_s, Option.toList_some, Option.toList_none, List.cons_append, List.nil_append, hp_1, hp_2, true_and, and_true, zb_0, zb_1, zb_b, va_rf, io_256, ↓ogf_256_0, ↓opf_256_0, ↓ogf_256_1, ↓ogf_256_2, ↓ogf_256_3, ↓ogf_256_4, ↓opf_256_4, ↓ogf_256_5, ↓ogf_256_6, ↓ogf_256_7, ↓opf_256_7, ↓ogf_256_8, ↓opf_256_8, ↓ogf_256_9, ↓opf_256_9, ↓ogf_256_10, ↓opf_256_10, ↓ogf_256_11, ↓ogf_256_12, ↓ogf_256_13, ↓ogf_256_14, ↓ogf_256_15, ↓ogf_256_16, ↓ogf_256_17, ↓opf_256_17, ↓ogf_256_18, ↓opf_256_18, ↓ogf_256_19, ↓ogf_256_20, ↓ogf_256_21, ↓ogf_256_22, ↓opf_256_22_0, ↓opf_256_22_1, ↓ogf_256_23, ↓opf_256_23, ↓ogf_256_24, ↓ogf_256_25, ↓opf_256_25_0, ↓opf_256_25_1, ↓ogf_256_26, ↓opf_256_26, ↓ogf_256_27, ↓opf_256_27, ↓ogf_256_28, ↓opf_256_28, ↓ogf_256_29, ↓ogf_256_30, ↓ogf_256_31, ↓ogf_256_32, ↓ogf_256_33, ↓ogf_256_34, h17'', h10'', hne, ite_self]
      exact hend _ (sv_wI (hv3 _) (Or.inr ⟨rfl, Or.inr (Or.inl rfl)⟩)) (by rw [rI_wI, if_pos ⟨rfl, rfl⟩])
theorem l_mjudge_128x {x1 x2 x3 : Int32} {x4 : Int32} {f : Nat} (hf : 0 < f) (hf2 : f < 8) (h17 : rI M 256 17 = nI f) (hQ : Q (some (.int (nI f))) (hp M)) : mj_V (d + 6) lim mq_Model_judge 128 [.ref 256, .int x1, .int x2, .int x3, .int x4] [] (hp M) Q := by
  have hne := nI_ne (show f < 2 ^ 31 by omega) (show 0 < 2 ^ 31 by omega) (show ¬ f = 0 by omega)
  rw [zi_Model_judge_128]
  simp (decide := true) (disch := first | assumption | omega) only [zi_Model_judge_130, zi_Model_judge_131, zi_Model_judge_134, zi_Model_judge_137, zi_Model_judge_138, zi_Model_judge_141, zi_Model_judge_173, zi_Model_judge_174, zi_Model_judge_177, ↓reduceIte, mj_op_s, Option.toList_some, Option.toList_none, List.cons_append, List.nil_append, hp_1, hp_2, true_and, and_true, zb_0, zb_1, zb_b, va_rf, io_256, ↓ogf_256_0, ↓opf_256_0, ↓ogf_256_1, ↓ogf_256_2, ↓ogf_256_3, ↓ogf_256_4, ↓opf_256_4, ↓ogf_256_5, ↓ogf_256_6, ↓ogf_256_7, ↓opf_256_7, ↓ogf_256_8, ↓opf_256_8, ↓ogf_256_9, ↓opf_256_9, ↓ogf_256_10, ↓opf_256_10, ↓ogf_256_11, ↓ogf_256_12, ↓ogf_256_13, ↓ogf_256_14, ↓ogf_256_15, ↓ogf_256_16, ↓ogf_256_17, ↓opf_256_17, ↓ogf_256_18, ↓opf_256_18, ↓ogf_256_19, ↓ogf_256_20, ↓ogf_256_21, ↓ogf_256_22, ↓opf_256_22_0, ↓opf_256_22_1, ↓ogf_256_23, ↓opf_256_23, ↓ogf_256_24, ↓ogf_256_25, ↓opf_256_25_0, ↓opf_256_25_1, ↓ogf_256_26, ↓opf_256_26, ↓ogf_256_27, ↓opf_256_27, ↓ogf_256_28, ↓opf_256_28, ↓ogf_256_29, ↓ogf_256_30, ↓ogf_256_31, ↓ogf_256_32, ↓ogf_256_33, ↓ogf_256_34, h17, hne, ite_self]
  exact hQ
theorem l_mjudge_1 (hW : okW W) (hn : n < W.1) {x1 x2 : Int32} (hV : hasV M W) (h17 : rI M 256 17 = nI 0)
    (h1 : allB (fun r => decide (nu (W.2 n) r = 0)) 8 = true → mj_V (d + 6) lim mq_Model_judge 128 [.ref 256, .int x1, .int x2, .int (nI n), .int (nI 0)] [] (hp M) Q)
    (h2 : allB (fun r => decide (nu (W.2 n) r = 0)) 8 = false → Q (some (.int (nI 2))) (hp (wI (wI M 256 17 (nI 2)) 256 18 (nI n)))) : ∀ (m j : Nat), j + m = 8 → allB (fun r => decide (nu (W.2 n) r = 0)) j = true → mj_V (d + 6) lim mq_Model_judge 70 [.ref 256, .int x1, .int x2, .int (nI n), .int (nI j)] [] (hp M) Q := by
  intro m
  induction m with
  | zero =>
    intro j hj hal
    obtain rfl : j = 8 := by omega
    rw [zi_Model_judge_70]
    simp (decide := true) only [zi_Model_judge_72, zi_Model_judge_74, zi_Model_judge_125, zi_Model_judge_126, ↓reduceIte, mj_op_s, Option.toList_some, Option.toList_none, List.cons_append, List.nil_append, hp_1, hp_2, true_and, and_true, zb_0, zb_1, zb_b, va_rf]
    exact h1 hal
  | succ m ih =>
    intro j hj hal
    have hj8 : j < 8 := by omega
    have e1 : nI j < nI 8 := nI_lt (by omega) (by omega)
    have ho := (hW.2 n hn).2.2.2.2 j hj8
    have hgo : nu (W.2 n) j = 0 → mj_V (d + 6) lim mq_Model_judge 70 [.ref 256, .int x1, .int x2, .int (nI n), .int (nI (j + 1))] [] (hp M) Q := fun h => ih (j + 1) (by omega) (allB_s hal (decide_eq_true h))
    rw [zi_Model_judge_70]
    cases k1 : isNu (W.2 n) j with
    | false =>
      have c : ¬ cl (W.2 n) j = 2 := of_decide_eq_false k1
      simp (decide := true) (disch := first | assumption | omega) only [zi_Model_judge_72, zi_Model_judge_74, zi_Model_judge_77, zi_Model_judge_78, zi_Model_judge_81, zi_Model_judge_84, zi_Model_judge_85, zi_Model_judge_86, zi_Model_judge_88, zi_Model_judge_91, zi_Model_judge_119, zi_Model_judge_122, ↓reduceIte, mj_op_s, Option.toList_some, Option.toList_none, List.cons_append, List.nil_append, hp_1, hp_2, true_and, and_true, zb_0, zb_1, zb_b, va_rf, io_256, ↓ogf_256_0, ↓opf_256_0, ↓ogf_256_1, ↓ogf_256_2, ↓ogf_256_3, ↓ogf_256_4, ↓opf_256_4, ↓ogf_256_5, ↓ogf_256_6, ↓ogf_256_7, ↓opf_256_7, ↓ogf_256_8, ↓opf_256_8, ↓ogf_256_9, ↓opf_256_9, ↓ogf_256_10, ↓opf_256_10, ↓ogf_256_11, ↓ogf_256_12, ↓ogf_256_13, ↓ogf_256_14, ↓ogf_256_15, ↓ogf_256_16, ↓ogf_256_17, ↓opf_256_17, ↓ogf_256_18, ↓opf_256_18, ↓ogf_256_19, ↓ogf_256_20, ↓ogf_256_21, ↓ogf_256_22, ↓opf_256_22_0, ↓opf_256_22_1, ↓ogf_256_23, ↓opf_256_23, ↓ogf_256_24, ↓ogf_256_25, ↓opf_256_25_0, ↓opf_256_25_1, ↓ogf_256_26, ↓opf_256_26, ↓ogf_256_27, ↓opf_256_27, ↓ogf_256_28, ↓opf_256_28, ↓ogf_256_29, ↓ogf_256_30, ↓ogf_256_31, ↓ogf_256_32, ↓ogf_256_33, ↓ogf_256_34, e1, h17, c_isNumber hV hW hn hj8, k1, b1_f, nI_add]
      exact hgo (ho.2 c)
    | true =>
      by_cases cv : nu (W.2 n) j = 0
      · simp (decide := true) (disch := first | assumption | omega) only [zi_Model_judge_72, zi_Model_judge_74, zi_Model_judge_77, zi_Model_judge_78, zi_Model_judge_81, zi_Model_judge_84, zi_Model_judge_85, zi_Model_judge_86, zi_Model_judge_88, zi_Model_judge_91, zi_Model_judge_94, zi_Model_judge_95, zi_Model_judge_96, zi_Model_judge_98, zi_Model_judge_101, zi_Model_judge_102, zi_Model_judge_103, zi_Model_judge_106, zi_Model_judge_119, zi_Model_judge_122, ↓reduceIte, mj_op_s, Option.toList_some, Option.toList_none, List.cons_append, List.nil_append, hp_1, hp_2, true_and, and_true, zb_0, zb_1, zb_b, va_rf, io_256, ↓ogf_256_0, ↓opf_256_0, ↓ogf_256_1, ↓ogf_256_2, ↓ogf_256_3, ↓ogf_256_4, ↓opf_256_4, ↓ogf_256_5, ↓ogf_256_6, ↓ogf_256_7, ↓opf_256_7, ↓ogf_256_8, ↓opf_256_8, ↓ogf_256_9, ↓opf_256_9, ↓ogf_256_10, ↓opf_256_10, ↓ogf_256_11, ↓ogf_256_12, ↓ogf_256_13, ↓ogf_256_14, ↓ogf_256_15, ↓ogf_256_16, ↓ogf_256_17, ↓opf_256_17, ↓ogf_256_18, ↓opf_256_18, ↓ogf_256_19, ↓ogf_256_20, ↓ogf_256_21, ↓ogf_256_22, ↓opf_256_22_0, ↓opf_256_22_1, ↓ogf_256_23, ↓opf_256_23, ↓ogf_256_24, ↓ogf_256_25, ↓opf_256_25_0, ↓opf_256_25_1, ↓ogf_256_26, ↓opf_256_26, ↓ogf_256_27, ↓opf_256_27, ↓ogf_256_28, ↓opf_256_28, ↓ogf_256_29, ↓ogf_256_30, ↓ogf_256_31, ↓ogf_256_32, ↓ogf_256_33, ↓ogf_256_34, e1, h17, c_isNumber hV hW hn hj8, c_number0 hV hW hn hj8, lgc_eq, cv, k1, b1_t, nI_add]
        exact hgo cv
      · have hf : allB (fun r => decide (nu (W.2 n) r = 0)) 8 = false := allB_f (r := j) (decide_eq_false cv) 8 hj8
        have h17' : rI (wI (wI M 256 17 (nI 2)) 256 18 (nI n)) 256 17 = nI 2 := by rw [rI_wI, if_neg (by omega), rI_wI, if_pos ⟨rfl, rfl⟩]
        simp (decide := true) (disch := first | assumption | omega) only [zi_Model_judge_72, zi_Model_judge_74, zi_Model_judge_77, zi_Model_judge_78, zi_Model_judge_81, zi_Model_judge_84, zi_Model_judge_85, zi_Model_judge_86, zi_Model_judge_88, zi_Model_judge_91, zi_Model_judge_94, zi_Model_judge_95, zi_Model_judge_96, zi_Model_judge_98, zi_Model_judge_101, zi_Model_judge_102, zi_Model_judge_103, zi_Model_judge_106, zi_Model_judge_109, zi_Model_judge_110, zi_Model_judge_111, zi_Model_judge_114, zi_Model_judge_115, zi_Model_judge_116, zi_Model_judge_119, zi_Model_judge_122, ↓reduceIte, mj_op_s, Option.toList_some, Option.toList_none, List.cons_append, List.nil_append, hp_1, hp_2, true_and, and_true, zb_0, zb_1, zb_b, va_rf, io_256, ↓ogf_256_0, ↓opf_256_0, ↓ogf_256_1, ↓ogf_256_2, ↓ogf_256_3, ↓ogf_256_4, ↓opf_256_4, ↓ogf_256_5, ↓ogf_256_6, ↓ogf_256_7, ↓opf_256_7, ↓ogf_256_8, ↓opf_256_8, ↓ogf_256_9, ↓opf_256_9, ↓ogf_256_10, ↓opf_256_10, ↓ogf_256_11, ↓ogf_256_12, ↓ogf_256_13, ↓ogf_256_14, ↓ogf_256_15, ↓ogf_256_16, ↓ogf_256_17, ↓opf_256_17, ↓ogf_256_18, ↓opf_256_18, ↓ogf_256_19, ↓ogf_256_20, ↓ogf_256_21, ↓ogf_256_22, ↓opf_256_22_0, ↓opf_256_22_1, ↓ogf_256_23, ↓opf_256_23, ↓ogf_256_24, ↓ogf_256_25, ↓opf_256_25_0, ↓opf_256_25_1, ↓ogf_256_26, ↓opf_256_26, ↓ogf_256_27, ↓opf_256_27, ↓ogf_256_28, ↓opf_256_28, ↓ogf_256_29, ↓ogf_256_30, ↓ogf_256_31, ↓ogf_256_32, ↓ogf_256_33, ↓ogf_256_34, e1, h17, c_isNumber hV hW hn hj8, c_number0 hV hW hn hj8, lgc_eq, cv, k1, b1_t, nI_add]
        rw [zi_Model_judge_70]
        simp (decide := true) (disch := first | assumption | omega) only [zi_Model_judge_72, zi_Model_judge_74, zi_Model_judge_77, zi_Model_judge_78, zi_Model_judge_81, zi_Model_judge_125, zi_Model_judge_126, ↓reduceIte, mj_op_s, Option.toList_some, Option.toList_none, List.cons_append, List.nil_append, hp_1, hp_2, true_and, and_true, zb_0, zb_1, zb_b, va_rf, io_256, ↓ogf_256_0, ↓opf_256_0, ↓ogf_256_1, ↓ogf_256_2, ↓ogf_256_3, ↓ogf_256_4, ↓opf_256_4, ↓ogf_256_5, ↓ogf_256_6, ↓ogf_256_7, ↓opf_256_7, ↓ogf_256_8, ↓opf_256_8, ↓ogf_256_9, ↓opf_256_9, ↓ogf_256_10, ↓opf_256_10, ↓ogf_256_11, ↓ogf_256_12, ↓ogf_256_13, ↓ogf_256_14, ↓ogf_256_15, ↓ogf_256_16, ↓ogf_256_17, ↓opf_256_17, ↓ogf_256_18, ↓opf_256_18, ↓ogf_256_19, ↓ogf_256_20, ↓ogf_256_21, ↓ogf_256_22, ↓opf_256_22_0, ↓opf_256_22_1, ↓ogf_256_23, ↓opf_256_23, ↓ogf_256_24, ↓ogf_256_25, ↓opf_256_25_0, ↓opf_256_25_1, ↓ogf_256_26, ↓opf_256_26, ↓ogf_256_27, ↓opf_256_27, ↓ogf_256_28, ↓opf_256_28, ↓ogf_256_29, ↓ogf_256_30, ↓ogf_256_31, ↓ogf_256_32, ↓ogf_256_33, ↓ogf_256_34, h17', ite_self]
        exact l_mjudge_128x (f := 2) (by omega) (by omega) h17' (h2 hf)
theorem c_Model_judge_no {x1 x2 : Int32} (hR : mR M nr R) (hok : okS nr R) (h : ¬ (isR nr x1 ∧ isR nr x2)) : mj_V (d + 6) lim mq_Model_judge 0 [.ref 256, .int x1, .int x2, mj_j, mj_j] [] (hp M) Q ↔ Q (some (.int (-2))) (hp (wI M 256 18 (-1))) := by
  have hn := hok.1
  have hR2 : mR (wI M 256 18 (-1)) nr R := by
    obtain ⟨a1, a2, b, a3⟩ := hR
    exact ⟨by rw [rI_wI, if_neg (by omega)]; exact a1, fun r hr => ⟨by rw [rI_wI, if_neg (by omega)]; exact (a2 r hr).1, fun p hp0 j hj => by rw [rI_wI, if_neg (by omega)]; exact (a2 r hr).2 p hp0 j hj⟩, b, by rw [rI_wI, if_neg (by omega)]; exact a3⟩
  by_cases c1 : isR nr x1
  · have c2 : ¬ isR nr x2 := fun z => h ⟨c1, z⟩
    have b1' := bI_t c1
    have b2' := bI_f c2
    simp (decide := true) (disch := first | assumption | omega) only [zi_Model_judge_0, zi_Model_judge_1, zi_Model_judge_2, zi_Model_judge_5, zi_Model_judge_6, zi_Model_judge_7, zi_Model_judge_10, zi_Model_judge_13, zi_Model_judge_14, zi_Model_judge_15, zi_Model_judge_18, zi_Model_judge_21, zi_Model_judge_23, ↓reduceIte, mj_op_s, Option.toList_some, Option.toList_none, List.cons_append, List.nil_append, hp_1, hp_2, true_and, and_true, zb_0, zb_1, zb_b, va_rf, io_256, ↓ogf_256_0, ↓opf_256_0, ↓ogf_256_1, ↓ogf_256_2, ↓ogf_256_3, ↓ogf_256_4, ↓opf_256_4, ↓ogf_256_5, ↓ogf_256_6, ↓ogf_256_7, ↓opf_256_7, ↓ogf_256_8, ↓opf_256_8, ↓ogf_256_9, ↓opf_256_9, ↓ogf_256_10, ↓opf_256_10, ↓ogf_256_11, ↓ogf_256_12, ↓ogf_256_13, ↓ogf_256_14, ↓ogf_256_15, ↓ogf_256_16, ↓ogf_256_17, ↓opf_256_17, ↓ogf_256_18, ↓opf_256_18, ↓ogf_256_19, ↓ogf_256_20, ↓ogf_256_21, ↓ogf_256_22, ↓opf_256_22_0, ↓opf_256_22_1, ↓ogf_256_23, ↓opf_256_23, ↓ogf_256_24, ↓ogf_256_25, ↓opf_256_25_0, ↓opf_256_25_1, ↓ogf_256_26, ↓opf_256_26, ↓ogf_256_27, ↓opf_256_27, ↓ogf_256_28, ↓opf_256_28, ↓ogf_256_29, ↓ogf_256_30, ↓ogf_256_31, ↓ogf_256_32, ↓ogf_256_33, ↓ogf_256_34, g_isRoutine hR2 hn, b1', b2']
  · have b1' := bI_f c1
    simp (decide := true) (disch := first | assumption | omega) only [zi_Model_judge_0, zi_Model_judge_1, zi_Model_judge_2, zi_Model_judge_5, zi_Model_judge_6, zi_Model_judge_7, zi_Model_judge_10, zi_Model_judge_13, zi_Model_judge_14, zi_Model_judge_15, zi_Model_judge_18, zi_Model_judge_21, zi_Model_judge_23, ↓reduceIte, mj_op_s, Option.toList_some, Option.toList_none, List.cons_append, List.nil_append, hp_1, hp_2, true_and, and_true, zb_0, zb_1, zb_b, va_rf, io_256, ↓ogf_256_0, ↓opf_256_0, ↓ogf_256_1, ↓ogf_256_2, ↓ogf_256_3, ↓ogf_256_4, ↓opf_256_4, ↓ogf_256_5, ↓ogf_256_6, ↓ogf_256_7, ↓opf_256_7, ↓ogf_256_8, ↓opf_256_8, ↓ogf_256_9, ↓opf_256_9, ↓ogf_256_10, ↓opf_256_10, ↓ogf_256_11, ↓ogf_256_12, ↓ogf_256_13, ↓ogf_256_14, ↓ogf_256_15, ↓ogf_256_16, ↓ogf_256_17, ↓opf_256_17, ↓ogf_256_18, ↓opf_256_18, ↓ogf_256_19, ↓ogf_256_20, ↓ogf_256_21, ↓ogf_256_22, ↓opf_256_22_0, ↓opf_256_22_1, ↓ogf_256_23, ↓opf_256_23, ↓ogf_256_24, ↓ogf_256_25, ↓opf_256_25_0, ↓opf_256_25_1, ↓ogf_256_26, ↓opf_256_26, ↓ogf_256_27, ↓opf_256_27, ↓ogf_256_28, ↓opf_256_28, ↓ogf_256_29, ↓ogf_256_30, ↓ogf_256_31, ↓ogf_256_32, ↓ogf_256_33, ↓ogf_256_34, g_isRoutine hR2 hn, b1']
theorem c_Model_judge (hR : mR M nr R) (hok : okS nr R) (hV : hasV M W) (hW : okW W) (ha : a < nr) (hb : b < nr) (hend : ∀ M', sv jmP M M' → rI M' 256 18 = (jdg W (R a).1 (R b).1 (R a).2 (R b).2).2 → Q (some (.int (nI (jdg W (R a).1 (R b).1 (R a).2 (R b).2).1))) (hp M')) : mj_V (d + 6) lim mq_Model_judge 0 [.ref 256, .int (nI a), .int (nI b), mj_j, mj_j] [] (hp M) Q := by
  have hn := hok.1
  have hA := hok.2 a ha
  have hB := hok.2 b hb
  have ha4 : a < 44 := by omega
  have hb4 : b < 44 := by omega
  have hv1 : sv jmP M (wI M 256 18 (-1)) := sv_wI sv_refl (Or.inr ⟨rfl, Or.inr (Or.inl rfl)⟩)
  have hR2 : mR (wI M 256 18 (-1)) nr R := by
    obtain ⟨a1, a2, b, a3⟩ := hR
    exact ⟨by rw [rI_wI, if_neg (by omega)]; exact a1, fun r hr => ⟨by rw [rI_wI, if_neg (by omega)]; exact (a2 r hr).1, fun p hp0 j hj => by rw [rI_wI, if_neg (by omega)]; exact (a2 r hr).2 p hp0 j hj⟩, b, by rw [rI_wI, if_neg (by omega)]; exact a3⟩
  have b1' := bI_t (isR_l (nr := nr) (by omega) ha)
  have b2' := bI_t (isR_l (nr := nr) (by omega) hb)
  have hv2 : sv jmP M (wI (wI (wI M 256 18 (-1)) 256 27 (nI a)) 256 28 (nI b)) := sv_wI (sv_wI hv1 (Or.inr ⟨rfl, Or.inr (Or.inr (Or.inl rfl))⟩)) (Or.inr ⟨rfl, Or.inr (Or.inr (Or.inr rfl))⟩)
  have hX : mX W a b (R a).1 (R b).1 (R a).2 (R b).2 (wI (wI (wI M 256 18 (-1)) 256 27 (nI a)) 256 28 (nI b)) := ⟨hasV_sv hv2 (fun i k h1 h2 => by unfold jmP l2P; omega) (by unfold jmP l2P; omega) hV, by rw [rI_wI, if_neg (by omega), rI_wI, if_pos ⟨rfl, rfl⟩], by rw [rI_wI, if_pos ⟨rfl, rfl⟩], sv_hasM hv2 (fun k => ⟨by unfold jmP l2P; omega, by unfold jmP l2P; omega⟩) (hR.2.1 a ha), sv_hasM hv2 (fun k => ⟨by unfold jmP l2P; omega, by unfold jmP l2P; omega⟩) (hR.2.1 b hb)⟩
  have h18 : rI (wI (wI (wI M 256 18 (-1)) 256 27 (nI a)) 256 28 (nI b)) 256 18 = -1 := by rw [rI_wI, if_neg (by omega), rI_wI, if_neg (by omega), rI_wI, if_pos ⟨rfl, rfl⟩]
  simp (decide := true) (disch := first | assumption | omega) only [zi_Model_judge_0, zi_Model_judge_1, zi_Model_judge_2, zi_Model_judge_5, zi_Model_judge_6, zi_Model_judge_7, zi_Model_judge_10, zi_Model_judge_13, zi_Model_judge_14, zi_Model_judge_15, zi_Model_judge_18, zi_Model_judge_21, zi_Model_judge_23, zi_Model_judge_24, zi_Model_judge_25, zi_Model_judge_26, zi_Model_judge_29, zi_Model_judge_30, zi_Model_judge_31, zi_Model_judge_34, zi_Model_judge_35, zi_Model_judge_36, zi_Model_judge_37, ↓reduceIte, mj_op_s, Option.toList_some, Option.toList_none, List.cons_append, List.nil_append, hp_1, hp_2, true_and, and_true, zb_0, zb_1, zb_b, va_rf, io_256, ↓ogf_256_0, ↓opf_256_0, ↓ogf_256_1, ↓ogf_256_2, ↓ogf_256_3, ↓ogf_256_4, ↓opf_256_4, ↓ogf_256_5, ↓ogf_256_6, ↓ogf_256_7, ↓opf_256_7, ↓ogf_256_8, ↓opf_256_8, ↓ogf_256_9, ↓opf_256_9, ↓ogf_256_10, ↓opf_256_10, ↓ogf_256_11, ↓ogf_256_12, ↓ogf_256_13, ↓ogf_256_14, ↓ogf_256_15, ↓ogf_256_16, ↓ogf_256_17, ↓opf_256_17, ↓ogf_256_18, ↓opf_256_18, ↓ogf_256_19, ↓ogf_256_20, ↓ogf_256_21, ↓ogf_256_22, ↓opf_256_22_0, ↓opf_256_22_1, ↓ogf_256_23, ↓opf_256_23, ↓ogf_256_24, ↓ogf_256_25, ↓opf_256_25_0, ↓opf_256_25_1, ↓ogf_256_26, ↓opf_256_26, ↓ogf_256_27, ↓opf_256_27, ↓ogf_256_28, ↓opf_256_28, ↓ogf_256_29, ↓ogf_256_30, ↓ogf_256_31, ↓ogf_256_32, ↓ogf_256_33, ↓ogf_256_34, g_isRoutine hR2 hn, b1', b2', c_find hW ha4 hb4 hA.1 hB.1 (show 0 ≤ 51 by omega) (show 0 ≤ 51 by omega) hX]
  generalize hM2 : wI (wI (wI M 256 18 (-1)) 256 27 (nI a)) 256 28 (nI b) = M2 at hv2 hX h18
  unfold jdg at hend
  cases hfd : fnd W (R a).1 (R b).1 0 0 with
  | none =>
    rw [hfd] at hend
    have e1 : (-1 : Int32) < nI 0 := by decide
    have h17 : rI (wI M2 256 17 (nI 1)) 256 17 = nI 1 := by rw [rI_wI, if_pos ⟨rfl, rfl⟩]
    have h17' : rI (wI (wI M2 256 17 (nI 1)) 256 18 (nI 0)) 256 17 = nI 1 := by rw [rI_wI, if_neg (by omega)]; exact h17
    simp (decide := true) (disch := first | assumption | omega) only [zi_Model_judge_40, zi_Model_judge_41, zi_Model_judge_42, zi_Model_judge_43, zi_Model_judge_46, zi_Model_judge_47, zi_Model_judge_50, zi_Model_judge_51, zi_Model_judge_54, zi_Model_judge_55, zi_Model_judge_58, zi_Model_judge_59, zi_Model_judge_62, zi_Model_judge_63, zi_Model_judge_64, zi_Model_judge_67, zi_Model_judge_68, ↓reduceIte, mj_op_s, Option.toList_some, Option.toList_none, List.cons_append, List.nil_append, hp_1, hp_2, true_and, and_true, zb_0, zb_1, zb_b, va_rf, io_256, ↓ogf_256_0, ↓opf_256_0, ↓ogf_256_1, ↓ogf_256_2, ↓ogf_256_3, ↓ogf_256_4, ↓opf_256_4, ↓ogf_256_5, ↓ogf_256_6, ↓ogf_256_7, ↓opf_256_7, ↓ogf_256_8, ↓opf_256_8, ↓ogf_256_9, ↓opf_256_9, ↓ogf_256_10, ↓opf_256_10, ↓ogf_256_11, ↓ogf_256_12, ↓ogf_256_13, ↓ogf_256_14, ↓ogf_256_15, ↓ogf_256_16, ↓ogf_256_17, ↓opf_256_17, ↓ogf_256_18, ↓opf_256_18, ↓ogf_256_19, ↓ogf_256_20, ↓ogf_256_21, ↓ogf_256_22, ↓opf_256_22_0, ↓opf_256_22_1, ↓ogf_256_23, ↓opf_256_23, ↓ogf_256_24, ↓ogf_256_25, ↓opf_256_25_0, ↓opf_256_25_1, ↓ogf_256_26, ↓opf_256_26, ↓ogf_256_27, ↓opf_256_27, ↓ogf_256_28, ↓opf_256_28, ↓ogf_256_29, ↓ogf_256_30, ↓ogf_256_31, ↓ogf_256_32, ↓ogf_256_33, ↓ogf_256_34, fI, e1, h17]
    rw [zi_Model_judge_70]
    simp (decide := true) (disch := first | assumption | omega) only [zi_Model_judge_72, zi_Model_judge_74, zi_Model_judge_77, zi_Model_judge_78, zi_Model_judge_81, zi_Model_judge_125, zi_Model_judge_126, ↓reduceIte, mj_op_s, Option.toList_some, Option.toList_none, List.cons_append, List.nil_append, hp_1, hp_2, true_and, and_true, zb_0, zb_1, zb_b, va_rf, io_256, ↓ogf_256_0, ↓opf_256_0, ↓ogf_256_1, ↓ogf_256_2, ↓ogf_256_3, ↓ogf_256_4, ↓opf_256_4, ↓ogf_256_5, ↓ogf_256_6, ↓ogf_256_7, ↓opf_256_7, ↓ogf_256_8, ↓opf_256_8, ↓ogf_256_9, ↓opf_256_9, ↓ogf_256_10, ↓opf_256_10, ↓ogf_256_11, ↓ogf_256_12, ↓ogf_256_13, ↓ogf_256_14, ↓ogf_256_15, ↓ogf_256_16, ↓ogf_256_17, ↓opf_256_17, ↓ogf_256_18, ↓opf_256_18, ↓ogf_256_19, ↓ogf_256_20, ↓ogf_256_21, ↓ogf_256_22, ↓opf_256_22_0, ↓opf_256_22_1, ↓ogf_256_23, ↓opf_256_23, ↓ogf_256_24, ↓ogf_256_25, ↓opf_256_25_0, ↓opf_256_25_1, ↓ogf_256_26, ↓opf_256_26, ↓ogf_256_27, ↓opf_256_27, ↓ogf_256_28, ↓opf_256_28, ↓ogf_256_29, ↓ogf_256_30, ↓ogf_256_31, ↓ogf_256_32, ↓ogf_256_33, ↓ogf_256_34, h17']
    exact l_mjudge_128x (f := 1) (by omega) (by omega) h17' (hend _ (sv_wI (sv_wI hv2 (Or.inr ⟨rfl, Or.inl rfl⟩)) (Or.inr ⟨rfl, Or.inr (Or.inl rfl)⟩)) (by rw [rI_wI, if_pos ⟨rfl, rfl⟩]))
  | some n =>
    rw [hfd] at hend
    have hnW := fnd_lt hfd
    have e1 : ¬ nI n < nI 0 := nI_nlt (by omega) (by have := hW.1; omega)
    have h17 : rI (wI M2 256 17 (nI 0)) 256 17 = nI 0 := by rw [rI_wI, if_pos ⟨rfl, rfl⟩]
    have hX3 := mX_w (k := 17) (v := nI 0) (Or.inl rfl) hX
    have hv3 : sv jmP M (wI M2 256 17 (nI 0)) := sv_wI hv2 (Or.inr ⟨rfl, Or.inl rfl⟩)
    have h18' : rI (wI M2 256 17 (nI 0)) 256 18 = -1 := by rw [rI_wI, if_neg (by omega)]; exact h18
    have hend : ∀ M', sv jmP M M' → rI M' 256 18 = (if allB (fun r => decide (nu (W.2 n) r = 0)) 8 = true then jl W (R a).1 (R b).1 (R a).2 (R b).2 W.1 0 else (2, nI n)).2 → Q (some (.int (nI (if allB (fun r => decide (nu (W.2 n) r = 0)) 8 = true then jl W (R a).1 (R b).1 (R a).2 (R b).2 W.1 0 else (2, nI n)).1))) (hp M') := hend
    simp (decide := true) (disch := first | assumption | omega) only [zi_Model_judge_40, zi_Model_judge_41, zi_Model_judge_42, zi_Model_judge_43, zi_Model_judge_46, zi_Model_judge_47, zi_Model_judge_50, zi_Model_judge_51, zi_Model_judge_54, zi_Model_judge_55, zi_Model_judge_58, zi_Model_judge_59, zi_Model_judge_62, zi_Model_judge_63, zi_Model_judge_64, zi_Model_judge_67, zi_Model_judge_68, ↓reduceIte, mj_op_s, Option.toList_some, Option.toList_none, List.cons_append, List.nil_append, hp_1, hp_2, true_and, and_true, zb_0, zb_1, zb_b, va_rf, io_256, ↓ogf_256_0, ↓opf_256_0, ↓ogf_256_1, ↓ogf_256_2, ↓ogf_256_3, ↓ogf_256_4, ↓opf_256_4, ↓ogf_256_5, ↓ogf_256_6, ↓ogf_256_7, ↓opf_256_7, ↓ogf_256_8, ↓opf_256_8, ↓ogf_256_9, ↓opf_256_9, ↓ogf_256_10, ↓opf_256_10, ↓ogf_256_11, ↓ogf_256_12, ↓ogf_256_13, ↓ogf_256_14, ↓ogf_256_15, ↓ogf_256_16, ↓ogf_256_17, ↓opf_256_17, ↓ogf_256_18, ↓opf_256_18, ↓ogf_256_19, ↓ogf_256_20, ↓ogf_256_21, ↓ogf_256_22, ↓opf_256_22_0, ↓opf_256_22_1, ↓ogf_256_23, ↓opf_256_23, ↓ogf_256_24, ↓ogf_256_25, ↓opf_256_25_0, ↓opf_256_25_1, ↓ogf_256_26, ↓opf_256_26, ↓ogf_256_27, ↓opf_256_27, ↓ogf_256_28, ↓opf_256_28, ↓ogf_256_29, ↓ogf_256_30, ↓ogf_256_31, ↓ogf_256_32, ↓ogf_256_33, ↓ogf_256_34, fI, e1, h17]
    refine l_mjudge_1 (d := d) hW hnW hX3.1 h17 (fun hal => ?_) (fun hal => ?_) 8 0 (by omega) rfl
    · rw [hal, if_pos rfl] at hend
      exact l_mjudge_2 (d := d) (M := M) hW ha4 hb4 hA hB hend W.1 0 _ (by omega) hv3 hX3 h17 h18' rfl
    · rw [hal, if_neg (by simp)] at hend
      exact hend _ (sv_wI (sv_wI hv3 (Or.inr ⟨rfl, Or.inl rfl⟩)) (Or.inr ⟨rfl, Or.inr (Or.inl rfl)⟩)) (by rw [rI_wI, if_pos ⟨rfl, rfl⟩])
end C95
