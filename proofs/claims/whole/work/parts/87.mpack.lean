/-! Model: pack, does -/
section C87
variable {d : Nat} {lim : Nat × Nat} {Q : mj_Q} {M M' : mm} {t len p q j r n w : Nat} {A B : AA} {W : WS} {x : WR} {wf : Bool}
theorem tg_pk (hok : okR len A) (hp0 : p < len) (hj : jyP A p = true) : ∃ l, l < 51 ∧ A p 2 = nI l ∧ (if l < len then l else len) = tgP len A p := by
  obtain ⟨l, hl, e⟩ := (okA_rn (hok.2 p hp0)).2.2.2.2.2.2 (of_decide_eq_true hj)
  refine ⟨l, hl, e, ?_⟩
  unfold tgP
  rw [e, cz_n (by omega)]
theorem l_mpack_1 (hr : r < 44) (ht : t < 44) (hne : r ≠ t) (hR : hasM M r len A) (hok : okR len A) (hend : ∀ M' y5 y6, sv (mrP t) M M' → (∀ q, q < pkN A len → ∀ j, j < 4 → rI M' 258 (4 * (50 * t + q) + j) = pkA len A len q j) → mj_V (d + 3) lim mq_Model_pack 116 [.ref 256, .int (nI r), .int (nI t), .int (nI (pkN A len)), .int (nI len), y5, y6] [] (hp M') Q) : ∀ (n p : Nat) (M' : mm) (x5 x6 : Value), p + n = len → sv (mrP t) M M' → (∀ q, q < pkN A p → ∀ j, j < 4 → rI M' 258 (4 * (50 * t + q) + j) = pkA len A p q j) → mj_V (d + 3) lim mq_Model_pack 5 [.ref 256, .int (nI r), .int (nI t), .int (nI (pkN A p)), .int (nI p), x5, x6] [] (hp M') Q := by
  have h50 := hok.1
  intro n
  induction n with
  | zero =>
    intro p M' x5 x6 hn hv hB
    obtain rfl : p = len := by omega
    have r0 := (mr_M hv hne h50 hR).1
    have e1 : ¬ nI p < nI p := nI_nlt (by omega) (by omega)
    rw [zi_Model_pack_5]
    simp (disch := first | assumption | omega) only [zi_Model_pack_7, zi_Model_pack_8, zi_Model_pack_11, zi_Model_pack_12, zi_Model_pack_13, ↓reduceIte, mj_op_s, Option.toList_some, Option.toList_none, List.cons_append, List.nil_append, hp_1, hp_2, true_and, and_true, zb_0, zb_1, zb_b, va_rf, io_256, ↓ogf_256_0, ↓opf_256_0, ↓ogf_256_1, ↓ogf_256_2, ↓ogf_256_3, ↓ogf_256_4, ↓opf_256_4, ↓ogf_256_5, ↓ogf_256_6, ↓ogf_256_7, ↓opf_256_7, ↓ogf_256_8, ↓opf_256_8, ↓ogf_256_9, ↓opf_256_9, ↓ogf_256_10, ↓opf_256_10, ↓ogf_256_11, ↓ogf_256_12, ↓ogf_256_13, ↓ogf_256_14, ↓ogf_256_15, ↓ogf_256_16, ↓ogf_256_17, ↓opf_256_17, ↓ogf_256_18, ↓opf_256_18, ↓ogf_256_19, ↓ogf_256_20, ↓ogf_256_21, ↓ogf_256_22, ↓opf_256_22_0, ↓opf_256_22_1, ↓ogf_256_23, ↓opf_256_23, ↓ogf_256_24, ↓ogf_256_25, ↓opf_256_25_0, ↓opf_256_25_1, ↓ogf_256_26, ↓opf_256_26, ↓ogf_256_27, ↓opf_256_27, ↓ogf_256_28, ↓opf_256_28, ↓ogf_256_29, ↓ogf_256_30, ↓ogf_256_31, ↓ogf_256_32, ↓ogf_256_33, ↓ogf_256_34, ↓oai_257, ↓owi_257, r0, e1]
    exact hend M' _ _ hv hB
  | succ n ih =>
    intro p M' x5 x6 hn hv hB
    have hR' := mr_M hv hne h50 hR
    have r0 := hR'.1
    have hp50 : p < 50 := by omega
    have hpl : p < len := by omega
    have e1 : nI p < nI len := nI_lt (by omega) (by omega)
    have q0 := hR'.2 p hpl 0 (by omega)
    have q1 := hR'.2 p hpl 1 (by omega)
    have q2 := hR'.2 p hpl 2 (by omega)
    have q3 := hR'.2 p hpl 3 (by omega)
    have hk := pkN_le (A := A) (p := p)
    have hk50 : pkN A p < 50 := by omega
    rw [zi_Model_pack_5]
    by_cases c0 : A p 0 = nI 0
    · have ek : pkN A (p + 1) = pkN A p := by rw [pk_s, if_pos c0]; rfl
      have eA : pkA len A (p + 1) = pkA len A p := if_pos c0
      rw [c0] at q0
      have hn2 := ih (p + 1)
      rw [ek, eA] at hn2
      simp (decide := true) (disch := first | assumption | omega) only [zi_Model_pack_7, zi_Model_pack_8, zi_Model_pack_11, zi_Model_pack_12, zi_Model_pack_13, zi_Model_pack_16, zi_Model_pack_17, zi_Model_pack_18, zi_Model_pack_20, zi_Model_pack_23, zi_Model_pack_25, zi_Model_pack_27, zi_Model_pack_30, zi_Model_pack_110, zi_Model_pack_113, ↓reduceIte, mj_op_s, Option.toList_some, Option.toList_none, List.cons_append, List.nil_append, hp_1, hp_2, true_and, and_true, zb_0, zb_1, zb_b, va_rf, io_256, ↓ogf_256_0, ↓opf_256_0, ↓ogf_256_1, ↓ogf_256_2, ↓ogf_256_3, ↓ogf_256_4, ↓opf_256_4, ↓ogf_256_5, ↓ogf_256_6, ↓ogf_256_7, ↓opf_256_7, ↓ogf_256_8, ↓opf_256_8, ↓ogf_256_9, ↓opf_256_9, ↓ogf_256_10, ↓opf_256_10, ↓ogf_256_11, ↓ogf_256_12, ↓ogf_256_13, ↓ogf_256_14, ↓ogf_256_15, ↓ogf_256_16, ↓ogf_256_17, ↓opf_256_17, ↓ogf_256_18, ↓opf_256_18, ↓ogf_256_19, ↓ogf_256_20, ↓ogf_256_21, ↓ogf_256_22, ↓opf_256_22_0, ↓opf_256_22_1, ↓ogf_256_23, ↓opf_256_23, ↓ogf_256_24, ↓ogf_256_25, ↓opf_256_25_0, ↓opf_256_25_1, ↓ogf_256_26, ↓opf_256_26, ↓ogf_256_27, ↓opf_256_27, ↓ogf_256_28, ↓opf_256_28, ↓ogf_256_29, ↓ogf_256_30, ↓ogf_256_31, ↓ogf_256_32, ↓ogf_256_33, ↓ogf_256_34, ↓oai_257, ↓owi_257, r0, e1, c_Model_kind, q0, nI_add]
      exact hn2 M' _ _ (by omega) hv hB
    · have ek : pkN A (p + 1) = pkN A p + 1 := by rw [pk_s, if_neg c0]
      have eA : pkA len A (p + 1) = upA (pkA len A p) (pkN A p) (A p 0) (A p 1) (if jyP A p = true then nI (pkN A (tgP len A p)) else A p 2) (A p 3) := if_neg c0
      have hn2 := ih (p + 1)
      rw [ek] at hn2
      have hfin : ∀ y x5 x6, (y = if jyP A p = true then nI (pkN A (tgP len A p)) else A p 2) → mj_V (d + 3) lim mq_Model_pack 5 [.ref 256, .int (nI r), .int (nI t), .int (nI (pkN A p + 1)), .int (nI (p + 1)), x5, x6] [] (hp (puM M' t (pkN A p) (A p 0) (A p 1) y (A p 3))) Q := by
        intro y x5 x6 hy
        refine hn2 _ _ _ (by omega) (sv_trans hv (sv_puM hk50)) (fun q hq j hj => ?_)
        rw [eA, ← hy]
        unfold upA
        by_cases e : q = pkN A p
        · subst e
          rw [if_pos rfl]
          exact puM_1 hj
        · rw [if_neg e]
          exact (puM_o (by omega)).trans (hB q (by omega) j hj)
      cases hj : jyP A p with
      | true =>
        obtain ⟨l, hl, e2, e3⟩ := tg_pk hok hpl hj
        rw [e2] at q2
        have hj0 : A p 0 = nI 12 ∨ A p 0 = nI 13 := of_decide_eq_true hj
        have hf := fun x5 x6 => hfin _ x5 x6 rfl
        rw [hj, if_pos rfl] at hf
        rcases hj0 with c | c
        · rw [c] at q0 hf
          simp (decide := true) (disch := first | assumption | omega) only [zi_Model_pack_7, zi_Model_pack_8, zi_Model_pack_11, zi_Model_pack_12, zi_Model_pack_13, zi_Model_pack_16, zi_Model_pack_17, zi_Model_pack_18, zi_Model_pack_20, zi_Model_pack_23, zi_Model_pack_25, zi_Model_pack_27, zi_Model_pack_30, zi_Model_pack_33, zi_Model_pack_35, zi_Model_pack_37, zi_Model_pack_40, zi_Model_pack_42, zi_Model_pack_44, zi_Model_pack_47, zi_Model_pack_48, zi_Model_pack_51, zi_Model_pack_52, zi_Model_pack_54, zi_Model_pack_55, zi_Model_pack_56, zi_Model_pack_57, zi_Model_pack_59, zi_Model_pack_60, zi_Model_pack_61, zi_Model_pack_63, zi_Model_pack_64, zi_Model_pack_67, zi_Model_pack_69, zi_Model_pack_72, zi_Model_pack_73, zi_Model_pack_74, zi_Model_pack_75, zi_Model_pack_76, zi_Model_pack_78, zi_Model_pack_79, zi_Model_pack_82, zi_Model_pack_85, zi_Model_pack_88, zi_Model_pack_89, zi_Model_pack_90, zi_Model_pack_92, zi_Model_pack_93, zi_Model_pack_96, zi_Model_pack_97, zi_Model_pack_98, zi_Model_pack_100, zi_Model_pack_101, zi_Model_pack_104, zi_Model_pack_107, zi_Model_pack_110, zi_Model_pack_113, ↓reduceIte, mj_op_s, Option.toList_some, Option.toList_none, List.cons_append, List.nil_append, hp_1, hp_2, true_and, and_true, zb_0, zb_1, zb_b, va_rf, io_256, ↓ogf_256_0, ↓opf_256_0, ↓ogf_256_1, ↓ogf_256_2, ↓ogf_256_3, ↓ogf_256_4, ↓opf_256_4, ↓ogf_256_5, ↓ogf_256_6, ↓ogf_256_7, ↓opf_256_7, ↓ogf_256_8, ↓opf_256_8, ↓ogf_256_9, ↓opf_256_9, ↓ogf_256_10, ↓opf_256_10, ↓ogf_256_11, ↓ogf_256_12, ↓ogf_256_13, ↓ogf_256_14, ↓ogf_256_15, ↓ogf_256_16, ↓ogf_256_17, ↓opf_256_17, ↓ogf_256_18, ↓opf_256_18, ↓ogf_256_19, ↓ogf_256_20, ↓ogf_256_21, ↓ogf_256_22, ↓opf_256_22_0, ↓opf_256_22_1, ↓ogf_256_23, ↓opf_256_23, ↓ogf_256_24, ↓ogf_256_25, ↓opf_256_25_0, ↓opf_256_25_1, ↓ogf_256_26, ↓opf_256_26, ↓ogf_256_27, ↓opf_256_27, ↓ogf_256_28, ↓opf_256_28, ↓ogf_256_29, ↓ogf_256_30, ↓ogf_256_31, ↓ogf_256_32, ↓ogf_256_33, ↓ogf_256_34, ↓oai_257, ↓owi_257, r0, e1, c_Model_kind, c_Model_num, q0, q1, q2, q3, c_Model_packed hr hR' h50 hl, e3, c_Model_put ht hk50, nI_add]
          exact hf _ _
        · rw [c] at q0 hf
          simp (decide := true) (disch := first | assumption | omega) only [zi_Model_pack_7, zi_Model_pack_8, zi_Model_pack_11, zi_Model_pack_12, zi_Model_pack_13, zi_Model_pack_16, zi_Model_pack_17, zi_Model_pack_18, zi_Model_pack_20, zi_Model_pack_23, zi_Model_pack_25, zi_Model_pack_27, zi_Model_pack_30, zi_Model_pack_33, zi_Model_pack_35, zi_Model_pack_37, zi_Model_pack_40, zi_Model_pack_42, zi_Model_pack_44, zi_Model_pack_47, zi_Model_pack_48, zi_Model_pack_51, zi_Model_pack_52, zi_Model_pack_54, zi_Model_pack_55, zi_Model_pack_56, zi_Model_pack_57, zi_Model_pack_59, zi_Model_pack_60, zi_Model_pack_61, zi_Model_pack_63, zi_Model_pack_64, zi_Model_pack_67, zi_Model_pack_69, zi_Model_pack_72, zi_Model_pack_73, zi_Model_pack_74, zi_Model_pack_75, zi_Model_pack_76, zi_Model_pack_78, zi_Model_pack_79, zi_Model_pack_82, zi_Model_pack_85, zi_Model_pack_88, zi_Model_pack_89, zi_Model_pack_90, zi_Model_pack_92, zi_Model_pack_93, zi_Model_pack_96, zi_Model_pack_97, zi_Model_pack_98, zi_Model_pack_100, zi_Model_pack_101, zi_Model_pack_104, zi_Model_pack_107, zi_Model_pack_110, zi_Model_pack_113, ↓reduceIte, mj_op_s, Option.toList_some, Option.toList_none, List.cons_append, List.nil_append, hp_1, hp_2, true_and, and_true, zb_0, zb_1, zb_b, va_rf, io_256, ↓ogf_256_0, ↓opf_256_0, ↓ogf_256_1, ↓ogf_256_2, ↓ogf_256_3, ↓ogf_256_4, ↓opf_256_4, ↓ogf_256_5, ↓ogf_256_6, ↓ogf_256_7, ↓opf_256_7, ↓ogf_256_8, ↓opf_256_8, ↓ogf_256_9, ↓opf_256_9, ↓ogf_256_10, ↓opf_256_10, ↓ogf_256_11, ↓ogf_256_12, ↓ogf_256_13, ↓ogf_256_14, ↓ogf_256_15, ↓ogf_256_16, ↓ogf_256_17, ↓opf_256_17, ↓ogf_256_18, ↓opf_256_18, ↓ogf_256_19, ↓ogf_256_20, ↓ogf_256_21, ↓ogf_256_22, ↓opf_256_22_0, ↓opf_256_22_1, ↓ogf_256_23, ↓opf_256_23, ↓ogf_256_24, ↓ogf_256_25, ↓opf_256_25_0, ↓opf_256_25_1, ↓ogf_256_26, ↓opf_256_26, ↓ogf_256_27, ↓opf_256_27, ↓ogf_256_28, ↓opf_256_28, ↓ogf_256_29, ↓ogf_256_30, ↓ogf_256_31, ↓ogf_256_32, ↓ogf_256_33, ↓ogf_256_34, ↓oai_257, ↓owi_257, r0, e1, c_Model_kind, c_Model_num, q0, q1, q2, q3, c_Model_packed hr hR' h50 hl, e3, c_Model_put ht hk50, nI_add]
          exact hf _ _
      | false =>
        have hj0 : ¬ (A p 0 = nI 12 ∨ A p 0 = nI 13) := of_decide_eq_false hj
        have c12 : ¬ A p 0 = nI 12 := fun h => hj0 (Or.inl h)
        have c13 : ¬ A p 0 = nI 13 := fun h => hj0 (Or.inr h)
        have hf := fun x5 x6 => hfin _ x5 x6 rfl
        rw [hj, if_neg (by simp)] at hf
        simp (decide := true) (disch := first | assumption | omega) only [zi_Model_pack_7, zi_Model_pack_8, zi_Model_pack_11, zi_Model_pack_12, zi_Model_pack_13, zi_Model_pack_16, zi_Model_pack_17, zi_Model_pack_18, zi_Model_pack_20, zi_Model_pack_23, zi_Model_pack_25, zi_Model_pack_27, zi_Model_pack_30, zi_Model_pack_33, zi_Model_pack_35, zi_Model_pack_37, zi_Model_pack_40, zi_Model_pack_42, zi_Model_pack_44, zi_Model_pack_47, zi_Model_pack_48, zi_Model_pack_51, zi_Model_pack_52, zi_Model_pack_54, zi_Model_pack_55, zi_Model_pack_56, zi_Model_pack_57, zi_Model_pack_59, zi_Model_pack_60, zi_Model_pack_61, zi_Model_pack_63, zi_Model_pack_64, zi_Model_pack_67, zi_Model_pack_69, zi_Model_pack_72, zi_Model_pack_73, zi_Model_pack_74, zi_Model_pack_75, zi_Model_pack_76, zi_Model_pack_78, zi_Model_pack_79, zi_Model_pack_82, zi_Model_pack_85, zi_Model_pack_88, zi_Model_pack_89, zi_Model_pack_90, zi_Model_pack_92, zi_Model_pack_93, zi_Model_pack_96, zi_Model_pack_97, zi_Model_pack_98, zi_Model_pack_100, zi_Model_pack_101, zi_Model_pack_104, zi_Model_pack_107, zi_Model_pack_110, zi_Model_pack_113, ↓reduceIte, mj_op_s, Option.toList_some, Option.toList_none, List.cons_append, List.nil_append, hp_1, hp_2, true_and, and_true, zb_0, zb_1, zb_b, va_rf, io_256, ↓ogf_256_0, ↓opf_256_0, ↓ogf_256_1, ↓ogf_256_2, ↓ogf_256_3, ↓ogf_256_4, ↓opf_256_4, ↓ogf_256_5, ↓ogf_256_6, ↓ogf_256_7, ↓opf_256_7, ↓ogf_256_8, ↓opf_256_8, ↓ogf_256_9, ↓opf_256_9, ↓ogf_256_10, ↓opf_256_10, ↓ogf_256_11, ↓ogf_256_12, ↓ogf_256_13, ↓ogf_256_14, ↓ogf_256_15, ↓ogf_256_16, ↓ogf_256_17, ↓opf_256_17, ↓ogf_256_18, ↓opf_256_18, ↓ogf_256_19, ↓ogf_256_20, ↓ogf_256_21, ↓ogf_256_22, ↓opf_256_22_0, ↓opf_256_22_1, ↓ogf_256_23, ↓opf_256_23, ↓ogf_256_24, ↓ogf_256_25, ↓opf_256_25_0, ↓opf_256_25_1, ↓ogf_256_26, ↓opf_256_26, ↓ogf_256_27, ↓opf_256_27, ↓ogf_256_28, ↓opf_256_28, ↓ogf_256_29, ↓ogf_256_30, ↓ogf_256_31, ↓ogf_256_32, ↓ogf_256_33, ↓ogf_256_34, ↓oai_257, ↓owi_257, r0, e1, c_Model_kind, c_Model_num, q0, q1, q2, q3, c0, c12, c13, c_Model_put ht hk50, nI_add]
        exact hf _ _
theorem l_mpack_row (hr : r < 44) (hR : hasM M r len A) (h50 : len ≤ 50) (hp0 : p ≤ len) {t x3 : Int32} {x6 : Value} : ∀ (n j : Nat), p + j + n = len → (mj_V (d + 2) lim mq_Model_pack 140 [.ref 256, .int (nI r), .int t, .int x3, .int (nI p), .int (nI j), x6] [] (hp M) Q ↔ mj_V (d + 2) lim mq_Model_pack 173 [.ref 256, .int (nI r), .int t, .int x3, .int (nI p), .int (nI (j + rw1 A n (p + j))), x6] [] (hp M) Q) := by
  intro n
  induction n with
  | zero =>
    intro j hj
    have e1 : ¬ nI len < nI len := nI_nlt (by omega) (by omega)
    have r0 := hR.1
    have e2 : p + j = len := by omega
    rw [zi_Model_pack_140]
    simp (disch := first | assumption | omega) only [zi_Model_pack_142, zi_Model_pack_144, zi_Model_pack_145, zi_Model_pack_146, zi_Model_pack_149, zi_Model_pack_150, zi_Model_pack_151, ↓reduceIte, mj_op_s, Option.toList_some, Option.toList_none, List.cons_append, List.nil_append, hp_1, hp_2, true_and, and_true, zb_0, zb_1, zb_b, va_rf, io_256, ↓ogf_256_0, ↓opf_256_0, ↓ogf_256_1, ↓ogf_256_2, ↓ogf_256_3, ↓ogf_256_4, ↓opf_256_4, ↓ogf_256_5, ↓ogf_256_6, ↓ogf_256_7, ↓opf_256_7, ↓ogf_256_8, ↓opf_256_8, ↓ogf_256_9, ↓opf_256_9, ↓ogf_256_10, ↓opf_256_10, ↓ogf_256_11, ↓ogf_256_12, ↓ogf_256_13, ↓ogf_256_14, ↓ogf_256_15, ↓ogf_256_16, ↓ogf_256_17, ↓opf_256_17, ↓ogf_256_18, ↓opf_256_18, ↓ogf_256_19, ↓ogf_256_20, ↓ogf_256_21, ↓ogf_256_22, ↓opf_256_22_0, ↓opf_256_22_1, ↓ogf_256_23, ↓opf_256_23, ↓ogf_256_24, ↓ogf_256_25, ↓opf_256_25_0, ↓opf_256_25_1, ↓ogf_256_26, ↓opf_256_26, ↓ogf_256_27, ↓opf_256_27, ↓ogf_256_28, ↓opf_256_28, ↓ogf_256_29, ↓ogf_256_30, ↓ogf_256_31, ↓ogf_256_32, ↓ogf_256_33, ↓ogf_256_34, ↓oai_257, ↓owi_257, r0, nI_add, e2, e1, rw1, Nat.add_zero]
  | succ n ih =>
    intro j hj
    have e1 : nI (p + j) < nI len := nI_lt (by omega) (by omega)
    have hpj : p + j < 50 := by omega
    have r0 := hR.1
    have q0 := hR.2 (p + j) (by omega) 0 (by omega)
    rw [zi_Model_pack_140]
    by_cases c : A (p + j) 0 = nI 0
    · have e3 : rw1 A (n + 1) (p + j) = rw1 A n (p + j + 1) + 1 := if_pos c
      rw [c] at q0
      simp (decide := true) (disch := first | assumption | omega) only [zi_Model_pack_142, zi_Model_pack_144, zi_Model_pack_145, zi_Model_pack_146, zi_Model_pack_149, zi_Model_pack_150, zi_Model_pack_151, zi_Model_pack_154, zi_Model_pack_155, zi_Model_pack_156, zi_Model_pack_158, zi_Model_pack_160, zi_Model_pack_161, zi_Model_pack_164, zi_Model_pack_167, zi_Model_pack_170, ↓reduceIte, mj_op_s, Option.toList_some, Option.toList_none, List.cons_append, List.nil_append, hp_1, hp_2, true_and, and_true, zb_0, zb_1, zb_b, va_rf, io_256, ↓ogf_256_0, ↓opf_256_0, ↓ogf_256_1, ↓ogf_256_2, ↓ogf_256_3, ↓ogf_256_4, ↓opf_256_4, ↓ogf_256_5, ↓ogf_256_6, ↓ogf_256_7, ↓opf_256_7, ↓ogf_256_8, ↓opf_256_8, ↓ogf_256_9, ↓opf_256_9, ↓ogf_256_10, ↓opf_256_10, ↓ogf_256_11, ↓ogf_256_12, ↓ogf_256_13, ↓ogf_256_14, ↓ogf_256_15, ↓ogf_256_16, ↓ogf_256_17, ↓opf_256_17, ↓ogf_256_18, ↓opf_256_18, ↓ogf_256_19, ↓ogf_256_20, ↓ogf_256_21, ↓ogf_256_22, ↓opf_256_22_0, ↓opf_256_22_1, ↓ogf_256_23, ↓opf_256_23, ↓ogf_256_24, ↓ogf_256_25, ↓opf_256_25_0, ↓opf_256_25_1, ↓ogf_256_26, ↓opf_256_26, ↓ogf_256_27, ↓opf_256_27, ↓ogf_256_28, ↓opf_256_28, ↓ogf_256_29, ↓ogf_256_30, ↓ogf_256_31, ↓ogf_256_32, ↓ogf_256_33, ↓ogf_256_34, ↓oai_257, ↓owi_257, r0, nI_add, e1, c_Model_kind, q0]
      rw [ih (j + 1) (by omega), e3, show j + (rw1 A n (p + j + 1) + 1) = j + 1 + rw1 A n (p + (j + 1)) by rw [show p + (j + 1) = p + j + 1 by omega]; omega]
    · have e3 : rw1 A (n + 1) (p + j) = 0 := if_neg c
      rw [e3, show j + 0 = j from rfl]
      simp (decide := true) (disch := first | assumption | omega) only [zi_Model_pack_142, zi_Model_pack_144, zi_Model_pack_145, zi_Model_pack_146, zi_Model_pack_149, zi_Model_pack_150, zi_Model_pack_151, zi_Model_pack_154, zi_Model_pack_155, zi_Model_pack_156, zi_Model_pack_158, zi_Model_pack_160, zi_Model_pack_161, zi_Model_pack_164, zi_Model_pack_167, zi_Model_pack_170, ↓reduceIte, mj_op_s, Option.toList_some, Option.toList_none, List.cons_append, List.nil_append, hp_1, hp_2, true_and, and_true, zb_0, zb_1, zb_b, va_rf, io_256, ↓ogf_256_0, ↓opf_256_0, ↓ogf_256_1, ↓ogf_256_2, ↓ogf_256_3, ↓ogf_256_4, ↓opf_256_4, ↓ogf_256_5, ↓ogf_256_6, ↓ogf_256_7, ↓opf_256_7, ↓ogf_256_8, ↓opf_256_8, ↓ogf_256_9, ↓opf_256_9, ↓ogf_256_10, ↓opf_256_10, ↓ogf_256_11, ↓ogf_256_12, ↓ogf_256_13, ↓ogf_256_14, ↓ogf_256_15, ↓ogf_256_16, ↓ogf_256_17, ↓opf_256_17, ↓ogf_256_18, ↓opf_256_18, ↓ogf_256_19, ↓ogf_256_20, ↓ogf_256_21, ↓ogf_256_22, ↓opf_256_22_0, ↓opf_256_22_1, ↓ogf_256_23, ↓opf_256_23, ↓ogf_256_24, ↓ogf_256_25, ↓opf_256_25_0, ↓opf_256_25_1, ↓ogf_256_26, ↓opf_256_26, ↓ogf_256_27, ↓opf_256_27, ↓ogf_256_28, ↓opf_256_28, ↓ogf_256_29, ↓ogf_256_30, ↓ogf_256_31, ↓ogf_256_32, ↓ogf_256_33, ↓ogf_256_34, ↓oai_257, ↓owi_257, r0, nI_add, e1, c_Model_kind, q0, c]
theorem l_mpack_2 (hr : r < 44) (hR : hasM M r len A) (h50 : len ≤ 50) (hw : rI M 256 25 = b1 wf) {t x3 : Int32} (hend : ∀ M', sv (mwP wf) M M' → (wf = true → hasV M' (pwW len A (len + 1))) → Q none (hp M')) : ∀ (n p : Nat) (M' : mm) (x5 x6 : Value), p + n = len + 1 → sv (mwP wf) M M' → (wf = true → hasV M' (pwW len A p)) → mj_V (d + 3) lim mq_Model_pack 126 [.ref 256, .int (nI r), .int t, .int x3, .int (nI p), x5, x6] [] (hp M') Q := by
  intro n
  induction n with
  | zero =>
    intro p M' x5 x6 hn hv hV
    obtain rfl : p = len + 1 := by omega
    have r0 := (mw_M hv hR).1
    have e1 : nI len < nI (len + 1) := nI_lt (by omega) (by omega)
    rw [zi_Model_pack_126]
    simp (disch := first | assumption | omega) only [zi_Model_pack_128, zi_Model_pack_129, zi_Model_pack_132, zi_Model_pack_133, zi_Model_pack_134, zi_Model_pack_205, ↓reduceIte, mj_op_s, Option.toList_some, Option.toList_none, List.cons_append, List.nil_append, hp_1, hp_2, true_and, and_true, zb_0, zb_1, zb_b, va_rf, io_256, ↓ogf_256_0, ↓opf_256_0, ↓ogf_256_1, ↓ogf_256_2, ↓ogf_256_3, ↓ogf_256_4, ↓opf_256_4, ↓ogf_256_5, ↓ogf_256_6, ↓ogf_256_7, ↓opf_256_7, ↓ogf_256_8, ↓opf_256_8, ↓ogf_256_9, ↓opf_256_9, ↓ogf_256_10, ↓opf_256_10, ↓ogf_256_11, ↓ogf_256_12, ↓ogf_256_13, ↓ogf_256_14, ↓ogf_256_15, ↓ogf_256_16, ↓ogf_256_17, ↓opf_256_17, ↓ogf_256_18, ↓opf_256_18, ↓ogf_256_19, ↓ogf_256_20, ↓ogf_256_21, ↓ogf_256_22, ↓opf_256_22_0, ↓opf_256_22_1, ↓ogf_256_23, ↓opf_256_23, ↓ogf_256_24, ↓ogf_256_25, ↓opf_256_25_0, ↓opf_256_25_1, ↓ogf_256_26, ↓opf_256_26, ↓ogf_256_27, ↓opf_256_27, ↓ogf_256_28, ↓opf_256_28, ↓ogf_256_29, ↓ogf_256_30, ↓ogf_256_31, ↓ogf_256_32, ↓ogf_256_33, ↓ogf_256_34, ↓oai_257, ↓owi_257, r0, e1]
    exact hend M' hv hV
  | succ n ih =>
    intro p M' x5 x6 hn hv hV
    have hR' := mw_M hv hR
    have r0 := hR'.1
    have hp51 : p < 51 := by omega
    have hst : p ≤ len := by omega
    have e1 : ¬ nI len < nI p := nI_nlt (by omega) (by omega)
    have hle := pwW_le (len := len) (A := A) p
    have hw2 : (pwW len A p).1 < 200 := by omega
    have hw' : rI M' 256 25 = b1 wf := (sv_I hv (by unfold mwP; omega)).trans hw
    have hrw := rw1_le (A := A) (len - p) p
    have epl : (if p < len then p else len) = p := by
      by_cases h : p < len
      · rw [if_pos h]
      · rw [if_neg h]; omega
    rw [zi_Model_pack_126]
    simp (disch := first | assumption | omega) only [zi_Model_pack_128, zi_Model_pack_129, zi_Model_pack_132, zi_Model_pack_133, zi_Model_pack_134, zi_Model_pack_137, zi_Model_pack_138, ↓reduceIte, mj_op_s, Option.toList_some, Option.toList_none, List.cons_append, List.nil_append, hp_1, hp_2, true_and, and_true, zb_0, zb_1, zb_b, va_rf, io_256, ↓ogf_256_0, ↓opf_256_0, ↓ogf_256_1, ↓ogf_256_2, ↓ogf_256_3, ↓ogf_256_4, ↓opf_256_4, ↓ogf_256_5, ↓ogf_256_6, ↓ogf_256_7, ↓opf_256_7, ↓ogf_256_8, ↓opf_256_8, ↓ogf_256_9, ↓opf_256_9, ↓ogf_256_10, ↓opf_256_10, ↓ogf_256_11, ↓ogf_256_12, ↓ogf_256_13, ↓ogf_256_14, ↓ogf_256_15, ↓ogf_256_16, ↓ogf_256_17, ↓opf_256_17, ↓ogf_256_18, ↓opf_256_18, ↓ogf_256_19, ↓ogf_256_20, ↓ogf_256_21, ↓ogf_256_22, ↓opf_256_22_0, ↓opf_256_22_1, ↓ogf_256_23, ↓opf_256_23, ↓ogf_256_24, ↓ogf_256_25, ↓opf_256_25_0, ↓opf_256_25_1, ↓ogf_256_26, ↓opf_256_26, ↓ogf_256_27, ↓opf_256_27, ↓ogf_256_28, ↓opf_256_28, ↓ogf_256_29, ↓ogf_256_30, ↓ogf_256_31, ↓ogf_256_32, ↓ogf_256_33, ↓ogf_256_34, ↓oai_257, ↓owi_257, r0, e1]
    rw [l_mpack_row hr hR' h50 hst (len - p) 0 (by omega), Nat.zero_add, show p + 0 = p from rfl]
    by_cases c : 0 < rw1 A (len - p) p
    · have eW : pwW len A (p + 1) = wap (pwW len A p) (p, pkN A p, 1, rw1 A (len - p) p, fun _ => 1, fun _ => 0) := by
        show wap (pwW len A p) (p, pkN A p, (if 0 < rw1 A (len - p) p then 1 else 0), rw1 A (len - p) p, fun _ => 1, fun _ => 0) = _
        rw [if_pos c]
      have e2 : nI 0 < nI (rw1 A (len - p) p) := nI_lt (by omega) (by omega)
      simp (decide := true) (disch := first | assumption | omega) only [zi_Model_pack_173, zi_Model_pack_174, zi_Model_pack_176, zi_Model_pack_177, zi_Model_pack_178, zi_Model_pack_180, zi_Model_pack_183, zi_Model_pack_185, zi_Model_pack_188, zi_Model_pack_189, zi_Model_pack_192, zi_Model_pack_193, zi_Model_pack_195, zi_Model_pack_196, ↓reduceIte, mj_op_s, Option.toList_some, Option.toList_none, List.cons_append, List.nil_append, hp_1, hp_2, true_and, and_true, zb_0, zb_1, zb_b, va_rf, io_256, ↓ogf_256_0, ↓opf_256_0, ↓ogf_256_1, ↓ogf_256_2, ↓ogf_256_3, ↓ogf_256_4, ↓opf_256_4, ↓ogf_256_5, ↓ogf_256_6, ↓ogf_256_7, ↓opf_256_7, ↓ogf_256_8, ↓opf_256_8, ↓ogf_256_9, ↓opf_256_9, ↓ogf_256_10, ↓opf_256_10, ↓ogf_256_11, ↓ogf_256_12, ↓ogf_256_13, ↓ogf_256_14, ↓ogf_256_15, ↓ogf_256_16, ↓ogf_256_17, ↓opf_256_17, ↓ogf_256_18, ↓opf_256_18, ↓ogf_256_19, ↓ogf_256_20, ↓ogf_256_21, ↓ogf_256_22, ↓opf_256_22_0, ↓opf_256_22_1, ↓ogf_256_23, ↓opf_256_23, ↓ogf_256_24, ↓ogf_256_25, ↓opf_256_25_0, ↓opf_256_25_1, ↓ogf_256_26, ↓opf_256_26, ↓ogf_256_27, ↓opf_256_27, ↓ogf_256_28, ↓opf_256_28, ↓ogf_256_29, ↓ogf_256_30, ↓ogf_256_31, ↓ogf_256_32, ↓ogf_256_33, ↓ogf_256_34, e2, c_Model_packed hr hR' h50 hp51, epl]
      refine c_Model_add2 hw' hV hw2 (fun M2 hv2 hV2 => ?_)
      simp only [zi_Model_pack_199, zi_Model_pack_202, ↓reduceIte, mj_op_s, Option.toList_some, Option.toList_none, List.cons_append, List.nil_append, hp_1, hp_2, true_and, and_true, zb_0, zb_1, zb_b, va_rf, nI_add]
      exact ih (p + 1) M2 _ _ (by omega) (sv_trans hv (mn_mw hw2 hv2)) (by rw [eW]; exact hV2)
    · have eW : pwW len A (p + 1) = wap (pwW len A p) (p, pkN A p, 0, rw1 A (len - p) p, fun _ => 1, fun _ => 0) := by
        show wap (pwW len A p) (p, pkN A p, (if 0 < rw1 A (len - p) p then 1 else 0), rw1 A (len - p) p, fun _ => 1, fun _ => 0) = _
        rw [if_neg c]
      have e2 : ¬ nI 0 < nI (rw1 A (len - p) p) := nI_nlt (by omega) (by omega)
      simp (decide := true) (disch := first | assumption | omega) only [zi_Model_pack_173, zi_Model_pack_174, zi_Model_pack_176, zi_Model_pack_177, zi_Model_pack_178, zi_Model_pack_180, zi_Model_pack_183, zi_Model_pack_185, zi_Model_pack_188, zi_Model_pack_189, zi_Model_pack_192, zi_Model_pack_193, zi_Model_pack_195, zi_Model_pack_196, ↓reduceIte, mj_op_s, Option.toList_some, Option.toList_none, List.cons_append, List.nil_append, hp_1, hp_2, true_and, and_true, zb_0, zb_1, zb_b, va_rf, io_256, ↓ogf_256_0, ↓opf_256_0, ↓ogf_256_1, ↓ogf_256_2, ↓ogf_256_3, ↓ogf_256_4, ↓opf_256_4, ↓ogf_256_5, ↓ogf_256_6, ↓ogf_256_7, ↓opf_256_7, ↓ogf_256_8, ↓opf_256_8, ↓ogf_256_9, ↓opf_256_9, ↓ogf_256_10, ↓opf_256_10, ↓ogf_256_11, ↓ogf_256_12, ↓ogf_256_13, ↓ogf_256_14, ↓ogf_256_15, ↓ogf_256_16, ↓ogf_256_17, ↓opf_256_17, ↓ogf_256_18, ↓opf_256_18, ↓ogf_256_19, ↓ogf_256_20, ↓ogf_256_21, ↓ogf_256_22, ↓opf_256_22_0, ↓opf_256_22_1, ↓ogf_256_23, ↓opf_256_23, ↓ogf_256_24, ↓ogf_256_25, ↓opf_256_25_0, ↓opf_256_25_1, ↓ogf_256_26, ↓opf_256_26, ↓ogf_256_27, ↓opf_256_27, ↓ogf_256_28, ↓opf_256_28, ↓ogf_256_29, ↓ogf_256_30, ↓ogf_256_31, ↓ogf_256_32, ↓ogf_256_33, ↓ogf_256_34, e2, c_Model_packed hr hR' h50 hp51, epl]
      refine c_Model_add2 hw' hV hw2 (fun M2 hv2 hV2 => ?_)
      simp only [zi_Model_pack_199, zi_Model_pack_202, ↓reduceIte, mj_op_s, Option.toList_some, Option.toList_none, List.cons_append, List.nil_append, hp_1, hp_2, true_and, and_true, zb_0, zb_1, zb_b, va_rf, nI_add]
      exact ih (p + 1) M2 _ _ (by omega) (sv_trans hv (mn_mw hw2 hv2)) (by rw [eW]; exact hV2)
theorem c_Model_pack (hr : r < 44) (ht : t < 44) (hne : r ≠ t) (hR : hasM M r len A) (hok : okR len A) (hw : rI M 256 25 = b1 wf) (hV : wf = true → hasV M w0) (hend : ∀ M', sv (fun i k => mrP t i k ∨ mwP wf i k) M M' → hasM M' t (psA 3 len A).1 (psA 3 len A).2 → (wf = true → hasV M' (psW 3 len A)) → Q none (hp M')) : mj_V (d + 5) lim mq_Model_pack 0 [.ref 256, .int (nI r), .int (nI t), mj_j, mj_j, mj_j, mj_j] [] (hp M) Q := by
  have h50 := hok.1
  simp only [zi_Model_pack_0, zi_Model_pack_1, zi_Model_pack_2, zi_Model_pack_3, ↓reduceIte, mj_op_s, Option.toList_some, Option.toList_none, List.cons_append, List.nil_append, hp_1, hp_2, true_and, and_true, zb_0, zb_1, zb_b, va_rf, io_256, ↓ogf_256_0, ↓opf_256_0, ↓ogf_256_1, ↓ogf_256_2, ↓ogf_256_3, ↓ogf_256_4, ↓opf_256_4, ↓ogf_256_5, ↓ogf_256_6, ↓ogf_256_7, ↓opf_256_7, ↓ogf_256_8, ↓opf_256_8, ↓ogf_256_9, ↓opf_256_9, ↓ogf_256_10, ↓opf_256_10, ↓ogf_256_11, ↓ogf_256_12, ↓ogf_256_13, ↓ogf_256_14, ↓ogf_256_15, ↓ogf_256_16, ↓ogf_256_17, ↓opf_256_17, ↓ogf_256_18, ↓opf_256_18, ↓ogf_256_19, ↓ogf_256_20, ↓ogf_256_21, ↓ogf_256_22, ↓opf_256_22_0, ↓opf_256_22_1, ↓ogf_256_23, ↓opf_256_23, ↓ogf_256_24, ↓ogf_256_25, ↓opf_256_25_0, ↓opf_256_25_1, ↓ogf_256_26, ↓opf_256_26, ↓ogf_256_27, ↓opf_256_27, ↓ogf_256_28, ↓opf_256_28, ↓ogf_256_29, ↓ogf_256_30, ↓ogf_256_31, ↓ogf_256_32, ↓ogf_256_33, ↓ogf_256_34]
  refine l_mpack_1 (d := d + 2) (M := M) hr ht hne hR hok (fun M3 y5 y6 hv3 hC3 => ?_) len 0 M _ _ (by omega) sv_refl (fun q hq => by have : q < 0 := hq; omega)
  simp (disch := first | assumption | omega) only [zi_Model_pack_116, zi_Model_pack_117, zi_Model_pack_120, zi_Model_pack_121, zi_Model_pack_122, zi_Model_pack_123, zi_Model_pack_124, ↓reduceIte, mj_op_s, Option.toList_some, Option.toList_none, List.cons_append, List.nil_append, hp_1, hp_2, true_and, and_true, zb_0, zb_1, zb_b, va_rf, io_256, ↓ogf_256_0, ↓opf_256_0, ↓ogf_256_1, ↓ogf_256_2, ↓ogf_256_3, ↓ogf_256_4, ↓opf_256_4, ↓ogf_256_5, ↓ogf_256_6, ↓ogf_256_7, ↓opf_256_7, ↓ogf_256_8, ↓opf_256_8, ↓ogf_256_9, ↓opf_256_9, ↓ogf_256_10, ↓opf_256_10, ↓ogf_256_11, ↓ogf_256_12, ↓ogf_256_13, ↓ogf_256_14, ↓ogf_256_15, ↓ogf_256_16, ↓ogf_256_17, ↓opf_256_17, ↓ogf_256_18, ↓opf_256_18, ↓ogf_256_19, ↓ogf_256_20, ↓ogf_256_21, ↓ogf_256_22, ↓opf_256_22_0, ↓opf_256_22_1, ↓ogf_256_23, ↓opf_256_23, ↓ogf_256_24, ↓ogf_256_25, ↓opf_256_25_0, ↓opf_256_25_1, ↓ogf_256_26, ↓opf_256_26, ↓ogf_256_27, ↓opf_256_27, ↓ogf_256_28, ↓opf_256_28, ↓ogf_256_29, ↓ogf_256_30, ↓ogf_256_31, ↓ogf_256_32, ↓ogf_256_33, ↓ogf_256_34, ↓oai_257, ↓owi_257]
  have hv4 : sv (mrP t) M (wI M3 257 t (nI (pkN A len))) := sv_wI hv3 (by unfold mrP; omega)
  have hC4 : hasM (wI M3 257 t (nI (pkN A len))) t (pkN A len) (pkA len A len) := ⟨by rw [rI_wI, if_pos ⟨rfl, rfl⟩], fun q hq j hj => by rw [rI_wI, if_neg (by omega)]; exact hC3 q hq j hj⟩
  have hR4 := mr_M hv4 hne h50 hR
  have hw3 : rI (wI M3 257 t (nI (pkN A len))) 256 25 = b1 wf := (sv_I hv4 (by unfold mrP; omega)).trans hw
  have hV3 : wf = true → hasV (wI M3 257 t (nI (pkN A len))) w0 := fun z => by
    have h := hV z
    refine ⟨?_, fun i hi => by have : i < 0 := hi; omega⟩
    rw [sv_I hv4 (by unfold mrP; omega)]
    exact h.1
  refine l_mpack_2 (d := d + 2) hr hR4 h50 hw3 (fun M5 hv6 hV5 => ?_) (len + 1) 0 _ _ _ (by omega) sv_refl hV3
  exact hend M5 (sv_trans (sv_mono hv4 (fun i k h => Or.inl h)) (sv_mono hv6 (fun i k h => Or.inr h))) (mw_M hv6 hC4) hV5
theorem c_Model_does (hr : r < 44) (ht : t < 44) (hne : r ≠ t) (hR : hasM M r len A) (hok : okR len A) (hww : w < 4) {b0 : Bool} (hb : rI M 256 22 = b1 b0) (hw : rI M 256 25 = b1 wf) (hV : wf = true → hasV M w0) (hend : ∀ M' b2, sv (dsP t wf) M M' → rI M' 256 22 = b1 b2 → hasM M' t (psA w len A).1 (psA w len A).2 → (wf = true → hasV M' (psW w len A)) → Q none (hp M')) : mj_V (d + 6) lim mq_Model_does 0 [.ref 256, .int (nI w), .int (nI r), .int (nI t)] [] (hp M) Q := by
  have h4 : w = 0 ∨ w = 1 ∨ w = 2 ∨ w = 3 := by omega
  rcases h4 with rfl | rfl | rfl | rfl
  · simp (decide := true) only [zi_Model_does_0, zi_Model_does_1, zi_Model_does_4, zi_Model_does_5, zi_Model_does_6, zi_Model_does_7, ↓reduceIte, mj_op_s, Option.toList_some, Option.toList_none, List.cons_append, List.nil_append, hp_1, hp_2, true_and, and_true, zb_0, zb_1, zb_b, va_rf, io_256, ↓ogf_256_0, ↓opf_256_0, ↓ogf_256_1, ↓ogf_256_2, ↓ogf_256_3, ↓ogf_256_4, ↓opf_256_4, ↓ogf_256_5, ↓ogf_256_6, ↓ogf_256_7, ↓opf_256_7, ↓ogf_256_8, ↓opf_256_8, ↓ogf_256_9, ↓opf_256_9, ↓ogf_256_10, ↓opf_256_10, ↓ogf_256_11, ↓ogf_256_12, ↓ogf_256_13, ↓ogf_256_14, ↓ogf_256_15, ↓ogf_256_16, ↓ogf_256_17, ↓opf_256_17, ↓ogf_256_18, ↓opf_256_18, ↓ogf_256_19, ↓ogf_256_20, ↓ogf_256_21, ↓ogf_256_22, ↓opf_256_22_0, ↓opf_256_22_1, ↓ogf_256_23, ↓opf_256_23, ↓ogf_256_24, ↓ogf_256_25, ↓opf_256_25_0, ↓opf_256_25_1, ↓ogf_256_26, ↓opf_256_26, ↓ogf_256_27, ↓opf_256_27, ↓ogf_256_28, ↓opf_256_28, ↓ogf_256_29, ↓ogf_256_30, ↓ogf_256_31, ↓ogf_256_32, ↓ogf_256_33, ↓ogf_256_34]
    refine c_Model_fold hr ht hne hR hok hb hw hV (fun M' b2 h1 h2 h3 h4 => ?_)
    simp only [zi_Model_does_10, zi_Model_does_13, zi_Model_does_14, zi_Model_does_15, zi_Model_does_18, zi_Model_does_19, zi_Model_does_20, zi_Model_does_21, zi_Model_does_24, zi_Model_does_27, zi_Model_does_28, zi_Model_does_29, zi_Model_does_32, zi_Model_does_33, zi_Model_does_34, zi_Model_does_35, zi_Model_does_38, zi_Model_does_41, zi_Model_does_42, zi_Model_does_43, zi_Model_does_44, zi_Model_does_47, ↓reduceIte, mj_op_s, Option.toList_some, Option.toList_none, List.cons_append, List.nil_append, hp_1, hp_2, true_and, and_true, zb_0, zb_1, zb_b, va_rf]
    exact hend M' b2 h1 h2 h3 h4
  · simp (decide := true) only [zi_Model_does_0, zi_Model_does_1, zi_Model_does_4, zi_Model_does_5, zi_Model_does_6, zi_Model_does_7, zi_Model_does_10, zi_Model_does_13, zi_Model_does_14, zi_Model_does_15, zi_Model_does_18, zi_Model_does_19, zi_Model_does_20, zi_Model_does_21, ↓reduceIte, mj_op_s, Option.toList_some, Option.toList_none, List.cons_append, List.nil_append, hp_1, hp_2, true_and, and_true, zb_0, zb_1, zb_b, va_rf, io_256, ↓ogf_256_0, ↓opf_256_0, ↓ogf_256_1, ↓ogf_256_2, ↓ogf_256_3, ↓ogf_256_4, ↓opf_256_4, ↓ogf_256_5, ↓ogf_256_6, ↓ogf_256_7, ↓opf_256_7, ↓ogf_256_8, ↓opf_256_8, ↓ogf_256_9, ↓opf_256_9, ↓ogf_256_10, ↓opf_256_10, ↓ogf_256_11, ↓ogf_256_12, ↓ogf_256_13, ↓ogf_256_14, ↓ogf_256_15, ↓ogf_256_16, ↓ogf_256_17, ↓opf_256_17, ↓ogf_256_18, ↓opf_256_18, ↓ogf_256_19, ↓ogf_256_20, ↓ogf_256_21, ↓ogf_256_22, ↓opf_256_22_0, ↓opf_256_22_1, ↓ogf_256_23, ↓opf_256_23, ↓ogf_256_24, ↓ogf_256_25, ↓opf_256_25_0, ↓opf_256_25_1, ↓ogf_256_26, ↓opf_256_26, ↓ogf_256_27, ↓opf_256_27, ↓ogf_256_28, ↓opf_256_28, ↓ogf_256_29, ↓ogf_256_30, ↓ogf_256_31, ↓ogf_256_32, ↓ogf_256_33, ↓ogf_256_34]
    refine c_Model_drop hr ht hne hR hok hw hV (fun M' h1 h3 h4 => ?_)
    simp only [zi_Model_does_24, zi_Model_does_27, zi_Model_does_28, zi_Model_does_29, zi_Model_does_32, zi_Model_does_33, zi_Model_does_34, zi_Model_does_35, zi_Model_does_38, zi_Model_does_41, zi_Model_does_42, zi_Model_does_43, zi_Model_does_44, zi_Model_does_47, ↓reduceIte, mj_op_s, Option.toList_some, Option.toList_none, List.cons_append, List.nil_append, hp_1, hp_2, true_and, and_true, zb_0, zb_1, zb_b, va_rf]
    exact hend M' b0 (sv_mono h1 (fun i k h => by unfold dsP; rcases h with h | h | h; exact Or.inl h; exact Or.inr (Or.inr (Or.inl h)); exact Or.inr (Or.inr (Or.inr (Or.inr h))))) ((sv_I h1 (by unfold mrP mwP; omega)).trans hb) h3 h4
  · simp (decide := true) only [zi_Model_does_0, zi_Model_does_1, zi_Model_does_4, zi_Model_does_5, zi_Model_does_6, zi_Model_does_7, zi_Model_does_10, zi_Model_does_13, zi_Model_does_14, zi_Model_does_15, zi_Model_does_18, zi_Model_does_19, zi_Model_does_20, zi_Model_does_21, zi_Model_does_24, zi_Model_does_27, zi_Model_does_28, zi_Model_does_29, zi_Model_does_32, zi_Model_does_33, zi_Model_does_34, zi_Model_does_35, ↓reduceIte, mj_op_s, Option.toList_some, Option.toList_none, List.cons_append, List.nil_append, hp_1, hp_2, true_and, and_true, zb_0, zb_1, zb_b, va_rf, io_256, ↓ogf_256_0, ↓opf_256_0, ↓ogf_256_1, ↓ogf_256_2, ↓ogf_256_3, ↓ogf_256_4, ↓opf_256_4, ↓ogf_256_5, ↓ogf_256_6, ↓ogf_256_7, ↓opf_256_7, ↓ogf_256_8, ↓opf_256_8, ↓ogf_256_9, ↓opf_256_9, ↓ogf_256_10, ↓opf_256_10, ↓ogf_256_11, ↓ogf_256_12, ↓ogf_256_13, ↓ogf_256_14, ↓ogf_256_15, ↓ogf_256_16, ↓ogf_256_17, ↓opf_256_17, ↓ogf_256_18, ↓opf_256_18, ↓ogf_256_19, ↓ogf_256_20, ↓ogf_256_21, ↓ogf_256_22, ↓opf_256_22_0, ↓opf_256_22_1, ↓ogf_256_23, ↓opf_256_23, ↓ogf_256_24, ↓ogf_256_25, ↓opf_256_25_0, ↓opf_256_25_1, ↓ogf_256_26, ↓opf_256_26, ↓ogf_256_27, ↓opf_256_27, ↓ogf_256_28, ↓opf_256_28, ↓ogf_256_29, ↓ogf_256_30, ↓ogf_256_31, ↓ogf_256_32, ↓ogf_256_33, ↓ogf_256_34]
    refine c_Model_thread hr ht hne hR hok hw hV (fun M' h1 h3 h4 => ?_)
    simp only [zi_Model_does_38, zi_Model_does_41, zi_Model_does_42, zi_Model_does_43, zi_Model_does_44, zi_Model_does_47, ↓reduceIte, mj_op_s, Option.toList_some, Option.toList_none, List.cons_append, List.nil_append, hp_1, hp_2, true_and, and_true, zb_0, zb_1, zb_b, va_rf]
    exact hend M' b0 (sv_mono h1 (fun i k h => by unfold dsP; rcases h with h | h | h; exact Or.inl h; exact Or.inr (Or.inr (Or.inr (Or.inr h))); exact Or.inr (Or.inr (Or.inr (Or.inl h))))) ((sv_I h1 (by unfold mrP twP mwP; omega)).trans hb) h3 h4
  · simp (decide := true) only [zi_Model_does_0, zi_Model_does_1, zi_Model_does_4, zi_Model_does_5, zi_Model_does_6, zi_Model_does_7, zi_Model_does_10, zi_Model_does_13, zi_Model_does_14, zi_Model_does_15, zi_Model_does_18, zi_Model_does_19, zi_Model_does_20, zi_Model_does_21, zi_Model_does_24, zi_Model_does_27, zi_Model_does_28, zi_Model_does_29, zi_Model_does_32, zi_Model_does_33, zi_Model_does_34, zi_Model_does_35, zi_Model_does_38, zi_Model_does_41, zi_Model_does_42, zi_Model_does_43, zi_Model_does_44, ↓reduceIte, mj_op_s, Option.toList_some, Option.toList_none, List.cons_append, List.nil_append, hp_1, hp_2, true_and, and_true, zb_0, zb_1, zb_b, va_rf, io_256, ↓ogf_256_0, ↓opf_256_0, ↓ogf_256_1, ↓ogf_256_2, ↓ogf_256_3, ↓ogf_256_4, ↓opf_256_4, ↓ogf_256_5, ↓ogf_256_6, ↓ogf_256_7, ↓opf_256_7, ↓ogf_256_8, ↓opf_256_8, ↓ogf_256_9, ↓opf_256_9, ↓ogf_256_10, ↓opf_256_10, ↓ogf_256_11, ↓ogf_256_12, ↓ogf_256_13, ↓ogf_256_14, ↓ogf_256_15, ↓ogf_256_16, ↓ogf_256_17, ↓opf_256_17, ↓ogf_256_18, ↓opf_256_18, ↓ogf_256_19, ↓ogf_256_20, ↓ogf_256_21, ↓ogf_256_22, ↓opf_256_22_0, ↓opf_256_22_1, ↓ogf_256_23, ↓opf_256_23, ↓ogf_256_24, ↓ogf_256_25, ↓opf_256_25_0, ↓opf_256_25_1, ↓ogf_256_26, ↓opf_256_26, ↓ogf_256_27, ↓opf_256_27, ↓ogf_256_28, ↓opf_256_28, ↓ogf_256_29, ↓ogf_256_30, ↓ogf_256_31, ↓ogf_256_32, ↓ogf_256_33, ↓ogf_256_34]
    refine c_Model_pack hr ht hne hR hok hw hV (fun M' h1 h3 h4 => ?_)
    simp only [zi_Model_does_47, ↓reduceIte, mj_op_s, Option.toList_some, Option.toList_none, List.cons_append, List.nil_append, hp_1, hp_2, true_and, and_true, zb_0, zb_1, zb_b, va_rf]
    exact hend M' b0 (sv_mono h1 (fun i k h => by unfold dsP; rcases h with h | h; exact Or.inl h; exact Or.inr (Or.inr (Or.inr (Or.inr h))))) ((sv_I h1 (by unfold mrP mwP; omega)).trans hb) h3 h4
end C87
