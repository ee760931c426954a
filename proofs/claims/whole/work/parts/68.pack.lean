/-! packing: how many are ahead -/
def psN (A : Nat → Nat → Int32) (p : Nat) : Nat := ct (fun k => decide (A k 0 = nI 0)) p
def pkN (A : Nat → Nat → Int32) (p : Nat) : Nat := ct (fun k => decide (¬ A k 0 = nI 0)) p
def rw1 (A : Nat → Nat → Int32) : Nat → Nat → Nat
  | 0, _ => 0
  | f + 1, p => if A p 0 = nI 0 then rw1 A f (p + 1) + 1 else 0
section C68
variable {d : Nat} {lim : Nat × Nat} {Q : mj_Q} {M M' M2 : mm} {o len p st s r : Nat} {A : Nat → Nat → Int32}
theorem ps_pk : ∀ p, psN A p + pkN A p = p
  | 0 => rfl
  | p + 1 => by
    have ih := ps_pk p
    unfold psN pkN at ih ⊢
    unfold ct
    by_cases h : A p 0 = nI 0
    · rw [if_pos (decide_eq_true h), if_neg (by simp [h])]; omega
    · rw [if_neg (by simp [h]), if_pos (decide_eq_true h)]; omega
theorem ps_s : psN A (p + 1) = psN A p + (if A p 0 = nI 0 then 1 else 0) := by
  show ct _ (p + 1) = _
  unfold ct
  by_cases h : A p 0 = nI 0
  · simp [h, psN]
  · simp [h, psN]
theorem pk_s : pkN A (p + 1) = pkN A p + (if A p 0 = nI 0 then 0 else 1) := by
  show ct _ (p + 1) = _
  unfold ct
  by_cases h : A p 0 = nI 0
  · simp [h, pkN]
  · simp [h, pkN]
theorem rw1_le : ∀ (f p : Nat), rw1 A f p ≤ f
  | 0, _ => Nat.le_refl 0
  | f + 1, p => by
    have := rw1_le f (p + 1)
    unfold rw1
    split <;> omega
theorem l_countPasses (ho : isRt o) (hR : hasR M o len A) (h50 : len ≤ 50) (hend : ∀ M', sm (· = 216) M M' → (∀ k, k ≤ len → rI M' 216 k = nI (psN A k)) → Q none (hp M')) :
    ∀ (n j : Nat) (M1 : mm), j + n = len → sm (· = 216) M M1 → (∀ k, k < j → rI M1 216 k = nI (psN A k)) → mj_V d lim mq_Passes_countPasses 4 [.ref 212, .ref o, .int (nI (psN A j)), .int (nI j)] [] (hp M1) Q := by
  have hno : ∀ j, j ≤ 4 → ¬ (o + j = 216) := fun j hj => isRt_no ho hj (by omega)
  intro n
  induction n with
  | zero =>
    intro j M1 hj hs hall
    obtain rfl : j = len := by omega
    have hR1 := sm_hasR hs hno hR
    have e1 : ¬ nI j < nI j := nI_nlt (by omega) (by omega)
    rw [zi_Passes_countPasses_4]
    simp (disch := first | assumption | omega) only [zi_Passes_countPasses_5, zi_Passes_countPasses_6, zi_Passes_countPasses_9, zi_Passes_countPasses_12, zi_Passes_countPasses_13, zi_Passes_countPasses_16, zi_Passes_countPasses_17, zi_Passes_countPasses_18, zi_Passes_countPasses_19, zi_Passes_countPasses_20, zi_Passes_countPasses_23, zi_Passes_countPasses_24, zi_Passes_countPasses_25, zi_Passes_countPasses_28, zi_Passes_countPasses_31, zi_Passes_countPasses_34, zi_Passes_countPasses_37, zi_Passes_countPasses_38, zi_Passes_countPasses_41, zi_Passes_countPasses_42, zi_Passes_countPasses_45, zi_Passes_countPasses_46, zi_Passes_countPasses_47, ↓reduceIte, mj_op_s, Option.toList_some, Option.toList_none, List.cons_append, List.nil_append, hp_1, hp_2, true_and, and_true, zb_0, zb_1, zb_b, va_rf, io_rt, ↓ogf_rt_0, ↓ogf_rt_1, ↓ogf_rt_2, ↓ogf_rt_3, ↓ogf_rt_4, ↓oai_rt_0, ↓oai_rt_1, ↓oai_rt_2, ↓oai_rt_3, ↓owi_rt_0, ↓owi_rt_1, ↓owi_rt_2, ↓owi_rt_3, ↓opf_rt, io_212, ↓ogf_212_0, ↓ogf_212_1, ↓ogf_212_2, ↓ogf_212_3, ↓ogf_212_4, ↓ogf_212_5, ↓oai_216, ↓owi_216, hR1.1, e1]
    refine hend _ (sm_wI hs rfl) (fun k hk => ?_)
    rw [rI_wI]
    by_cases e : k = j
    · subst e; rw [if_pos ⟨rfl, rfl⟩]
    · rw [if_neg (fun z => e z.2)]; exact hall k (by omega)
  | succ n ih =>
    intro j M1 hj hs hall
    have hR1 := sm_hasR hs hno hR
    have hs2 : sm (· = 216) M (wI M1 216 j (nI (psN A j))) := sm_wI hs rfl
    have hR2 := sm_hasR hs2 hno hR
    have b1 := (hR2.2 j (by omega)).1
    have hj50 : j < 50 := by omega
    have e1 : nI j < nI len := nI_lt (by omega) (by omega)
    have hall2 : ∀ k, k < j + 1 → rI (wI M1 216 j (nI (psN A j))) 216 k = nI (psN A k) := by
      intro k hk
      rw [rI_wI]
      by_cases e : k = j
      · subst e; rw [if_pos ⟨rfl, rfl⟩]
      · rw [if_neg (fun z => e z.2)]; exact hall k (by omega)
    have := ih (j + 1) _ (by omega) hs2 hall2
    rw [ps_s] at this
    rw [zi_Passes_countPasses_4]
    by_cases c : A j 0 = nI 0
    · rw [if_pos c] at this
      simp (decide := true) (disch := first | assumption | omega) only [zi_Passes_countPasses_5, zi_Passes_countPasses_6, zi_Passes_countPasses_9, zi_Passes_countPasses_12, zi_Passes_countPasses_13, zi_Passes_countPasses_16, zi_Passes_countPasses_17, zi_Passes_countPasses_18, zi_Passes_countPasses_19, zi_Passes_countPasses_20, zi_Passes_countPasses_23, zi_Passes_countPasses_24, zi_Passes_countPasses_25, zi_Passes_countPasses_28, zi_Passes_countPasses_31, zi_Passes_countPasses_34, ↓reduceIte, mj_op_s, Option.toList_some, Option.toList_none, List.cons_append, List.nil_append, hp_1, hp_2, true_and, and_true, zb_0, zb_1, zb_b, va_rf, io_rt, ↓ogf_rt_0, ↓ogf_rt_1, ↓ogf_rt_2, ↓ogf_rt_3, ↓ogf_rt_4, ↓oai_rt_0, ↓oai_rt_1, ↓oai_rt_2, ↓oai_rt_3, ↓owi_rt_0, ↓owi_rt_1, ↓owi_rt_2, ↓owi_rt_3, ↓opf_rt, io_212, ↓ogf_212_0, ↓ogf_212_1, ↓ogf_212_2, ↓ogf_212_3, ↓ogf_212_4, ↓ogf_212_5, ↓oai_216, ↓owi_216, hR1.1, e1, b1, c, nI_add]
      exact this
    · rw [if_neg c] at this
      simp (decide := true) (disch := first | assumption | omega) only [zi_Passes_countPasses_5, zi_Passes_countPasses_6, zi_Passes_countPasses_9, zi_Passes_countPasses_12, zi_Passes_countPasses_13, zi_Passes_countPasses_16, zi_Passes_countPasses_17, zi_Passes_countPasses_18, zi_Passes_countPasses_19, zi_Passes_countPasses_20, zi_Passes_countPasses_23, zi_Passes_countPasses_24, zi_Passes_countPasses_25, zi_Passes_countPasses_28, zi_Passes_countPasses_31, zi_Passes_countPasses_34, ↓reduceIte, mj_op_s, Option.toList_some, Option.toList_none, List.cons_append, List.nil_append, hp_1, hp_2, true_and, and_true, zb_0, zb_1, zb_b, va_rf, io_rt, ↓ogf_rt_0, ↓ogf_rt_1, ↓ogf_rt_2, ↓ogf_rt_3, ↓ogf_rt_4, ↓oai_rt_0, ↓oai_rt_1, ↓oai_rt_2, ↓oai_rt_3, ↓owi_rt_0, ↓owi_rt_1, ↓owi_rt_2, ↓owi_rt_3, ↓opf_rt, io_212, ↓ogf_212_0, ↓ogf_212_1, ↓ogf_212_2, ↓ogf_212_3, ↓ogf_212_4, ↓ogf_212_5, ↓oai_216, ↓owi_216, hR1.1, e1, b1, c, nI_add]
      exact this
theorem c_Passes_countPasses (ho : isRt o) (hR : hasR M o len A) (h50 : len ≤ 50) (hend : ∀ M', sm (· = 216) M M' → (∀ k, k ≤ len → rI M' 216 k = nI (psN A k)) → Q none (hp M')) : mj_V d lim mq_Passes_countPasses 0 [.ref 212, .ref o, mj_j, mj_j] [] (hp M) Q := by
  simp only [zi_Passes_countPasses_0, zi_Passes_countPasses_1, zi_Passes_countPasses_2, zi_Passes_countPasses_3, ↓reduceIte, mj_op_s, Option.toList_some, Option.toList_none, List.cons_append, List.nil_append, hp_1, hp_2, true_and, and_true, zb_0, zb_1, zb_b, va_rf]
  exact l_countPasses ho hR h50 hend len 0 M (by omega) sm_refl (fun k hk => by omega)
theorem c_Passes_packedPlace (hp0 : p < 51) (hq : rI M 216 p = nI (psN A p)) : mj_V d lim mq_Passes_packedPlace 0 [.ref 212, .int (nI p)] [] (hp M) Q ↔ Q (some (.int (nI (pkN A p)))) (hp M) := by
  have e := ps_pk (A := A) p
  have e2 : nI p - nI (psN A p) = nI (pkN A p) := by
    rw [pk_sub (by omega)]
    congr 1
    omega
  simp (disch := omega) only [zi_Passes_packedPlace_0, zi_Passes_packedPlace_1, zi_Passes_packedPlace_2, zi_Passes_packedPlace_5, zi_Passes_packedPlace_6, zi_Passes_packedPlace_7, zi_Passes_packedPlace_8, ↓reduceIte, mj_op_s, Option.toList_some, Option.toList_none, List.cons_append, List.nil_append, hp_1, hp_2, true_and, and_true, zb_0, zb_1, zb_b, va_rf, io_212, ↓ogf_212_0, ↓ogf_212_1, ↓ogf_212_2, ↓ogf_212_3, ↓ogf_212_4, ↓ogf_212_5, ↓oai_216, ↓owi_216, hq, e2]
theorem l_passesInRow (ho : isRt o) (hR : hasR M o len A) (h50 : len ≤ 50) : ∀ (n j : Nat), j + n = len → st ≤ j → (mj_V d lim mq_Passes_passesInRow 2 [.ref o, .int (nI st), .int (nI j)] [] (hp M) Q ↔ Q (some (.int (nI (j - st + rw1 A n j)))) (hp M)) := by
  intro n
  induction n with
  | zero =>
    intro j hj hs
    obtain rfl : j = len := by omega
    have e1 : ¬ nI j < nI j := nI_nlt (by omega) (by omega)
    rw [zi_Passes_passesInRow_2]
    simp (disch := first | assumption | omega) only [zi_Passes_passesInRow_3, zi_Passes_passesInRow_4, zi_Passes_passesInRow_7, zi_Passes_passesInRow_10, zi_Passes_passesInRow_11, zi_Passes_passesInRow_14, zi_Passes_passesInRow_15, zi_Passes_passesInRow_16, zi_Passes_passesInRow_19, zi_Passes_passesInRow_22, zi_Passes_passesInRow_25, zi_Passes_passesInRow_26, zi_Passes_passesInRow_27, zi_Passes_passesInRow_28, ↓reduceIte, mj_op_s, Option.toList_some, Option.toList_none, List.cons_append, List.nil_append, hp_1, hp_2, true_and, and_true, zb_0, zb_1, zb_b, va_rf, io_rt, ↓ogf_rt_0, ↓ogf_rt_1, ↓ogf_rt_2, ↓ogf_rt_3, ↓ogf_rt_4, ↓oai_rt_0, ↓oai_rt_1, ↓oai_rt_2, ↓oai_rt_3, ↓owi_rt_0, ↓owi_rt_1, ↓owi_rt_2, ↓owi_rt_3, ↓opf_rt, hR.1, e1, pk_sub, rw1, Nat.add_zero]
  | succ n ih =>
    intro j hj hs
    have hj50 : j < 50 := by omega
    have e1 : nI j < nI len := nI_lt (by omega) (by omega)
    have b1 := (hR.2 j (by omega)).1
    rw [zi_Passes_passesInRow_2]
    by_cases c : A j 0 = nI 0
    · simp (decide := true) (disch := first | assumption | omega) only [zi_Passes_passesInRow_3, zi_Passes_passesInRow_4, zi_Passes_passesInRow_7, zi_Passes_passesInRow_10, zi_Passes_passesInRow_11, zi_Passes_passesInRow_14, zi_Passes_passesInRow_15, zi_Passes_passesInRow_16, zi_Passes_passesInRow_19, zi_Passes_passesInRow_22, zi_Passes_passesInRow_25, zi_Passes_passesInRow_26, zi_Passes_passesInRow_27, zi_Passes_passesInRow_28, ↓reduceIte, mj_op_s, Option.toList_some, Option.toList_none, List.cons_append, List.nil_append, hp_1, hp_2, true_and, and_true, zb_0, zb_1, zb_b, va_rf, io_rt, ↓ogf_rt_0, ↓ogf_rt_1, ↓ogf_rt_2, ↓ogf_rt_3, ↓ogf_rt_4, ↓oai_rt_0, ↓oai_rt_1, ↓oai_rt_2, ↓oai_rt_3, ↓owi_rt_0, ↓owi_rt_1, ↓owi_rt_2, ↓owi_rt_3, ↓opf_rt, hR.1, e1, b1, c, nI_add]
      rw [ih (j + 1) (by omega) (by omega)]
      have e3 : rw1 A (n + 1) j = rw1 A n (j + 1) + 1 := by
        show (if A j 0 = nI 0 then rw1 A n (j + 1) + 1 else 0) = _
        rw [if_pos c]
      rw [e3, show j + 1 - st + rw1 A n (j + 1) = j - st + (rw1 A n (j + 1) + 1) by omega]
    · simp (decide := true) (disch := first | assumption | omega) only [zi_Passes_passesInRow_3, zi_Passes_passesInRow_4, zi_Passes_passesInRow_7, zi_Passes_passesInRow_10, zi_Passes_passesInRow_11, zi_Passes_passesInRow_14, zi_Passes_passesInRow_15, zi_Passes_passesInRow_16, zi_Passes_passesInRow_19, zi_Passes_passesInRow_22, zi_Passes_passesInRow_25, zi_Passes_passesInRow_26, zi_Passes_passesInRow_27, zi_Passes_passesInRow_28, ↓reduceIte, mj_op_s, Option.toList_some, Option.toList_none, List.cons_append, List.nil_append, hp_1, hp_2, true_and, and_true, zb_0, zb_1, zb_b, va_rf, io_rt, ↓ogf_rt_0, ↓ogf_rt_1, ↓ogf_rt_2, ↓ogf_rt_3, ↓ogf_rt_4, ↓oai_rt_0, ↓oai_rt_1, ↓oai_rt_2, ↓oai_rt_3, ↓owi_rt_0, ↓owi_rt_1, ↓owi_rt_2, ↓owi_rt_3, ↓opf_rt, hR.1, e1, b1, c, pk_sub]
      have e3 : rw1 A (n + 1) j = 0 := by
        show (if A j 0 = nI 0 then rw1 A n (j + 1) + 1 else 0) = _
        rw [if_neg c]
      rw [e3, Nat.add_zero]
theorem c_Passes_passesInRow (ho : isRt o) (hR : hasR M o len A) (h50 : len ≤ 50) (hst : st ≤ len) : mj_V d lim mq_Passes_passesInRow 0 [.ref o, .int (nI st), mj_j] [] (hp M) Q ↔ Q (some (.int (nI (rw1 A (len - st) st)))) (hp M) := by
  simp only [zi_Passes_passesInRow_0, zi_Passes_passesInRow_1, ↓reduceIte, mj_op_s, Option.toList_some, Option.toList_none, List.cons_append, List.nil_append, hp_1, hp_2, true_and, and_true, zb_0, zb_1, zb_b, va_rf]
  rw [l_passesInRow ho hR h50 (len - st) st (by omega) (Nat.le_refl _), Nat.sub_self, Nat.zero_add]
theorem l_Model_packed (hr : r < 44) (hR : hasM M r len A) (h50 : len ≤ 50) {y q : Nat} (hy : y < 51) (hq : q = if y < len then y else len) : ∀ (n j : Nat), j + n = q → (mj_V (d + 2) lim mq_Model_packed 5 [.ref 256, .int (nI r), .int (nI y), .int (nI (pkN A j)), .int (nI j)] [] (hp M) Q ↔ Q (some (.int (nI (pkN A q)))) (hp M)) := by
  have hq2 : q ≤ y ∧ q ≤ len ∧ (q = y ∨ q = len) := by subst hq; split <;> omega
  intro n
  induction n with
  | zero =>
    intro j hj
    obtain rfl : j = q := by omega
    rw [zi_Model_packed_5]
    by_cases h1 : j < y
    · have e1 : nI j < nI y := nI_lt h1 (by omega)
      have e2 : ¬ nI j < nI len := nI_nlt (by omega) (by omega)
      simp (disch := omega) only [zi_Model_packed_7, zi_Model_packed_8, zi_Model_packed_11, zi_Model_packed_13, zi_Model_packed_14, zi_Model_packed_17, zi_Model_packed_18, zi_Model_packed_19, zi_Model_packed_22, zi_Model_packed_23, zi_Model_packed_24, zi_Model_packed_25, zi_Model_packed_27, zi_Model_packed_30, zi_Model_packed_33, zi_Model_packed_34, zi_Model_packed_37, zi_Model_packed_38, zi_Model_packed_39, zi_Model_packed_40, zi_Model_packed_43, zi_Model_packed_46, zi_Model_packed_47, ↓reduceIte, mj_op_s, Option.toList_some, Option.toList_none, List.cons_append, List.nil_append, hp_1, hp_2, true_and, and_true, zb_0, zb_1, zb_b, va_rf, io_256, ↓ogf_256_0, ↓opf_256_0, ↓ogf_256_1, ↓ogf_256_2, ↓ogf_256_3, ↓ogf_256_4, ↓opf_256_4, ↓ogf_256_5, ↓ogf_256_6, ↓ogf_256_7, ↓opf_256_7, ↓ogf_256_8, ↓opf_256_8, ↓ogf_256_9, ↓opf_256_9, ↓ogf_256_10, ↓opf_256_10, ↓ogf_256_11, ↓ogf_256_12, ↓ogf_256_13, ↓ogf_256_14, ↓ogf_256_15, ↓ogf_256_16, ↓ogf_256_17, ↓opf_256_17, ↓ogf_256_18, ↓opf_256_18, ↓ogf_256_19, ↓ogf_256_20, ↓ogf_256_21, ↓ogf_256_22, ↓opf_256_22_0, ↓opf_256_22_1, ↓ogf_256_23, ↓opf_256_23, ↓ogf_256_24, ↓ogf_256_25, ↓opf_256_25_0, ↓opf_256_25_1, ↓ogf_256_26, ↓opf_256_26, ↓ogf_256_27, ↓opf_256_27, ↓ogf_256_28, ↓opf_256_28, ↓ogf_256_29, ↓ogf_256_30, ↓ogf_256_31, ↓ogf_256_32, ↓ogf_256_33, ↓ogf_256_34, ↓oai_257, ↓owi_257, hR.1, e1, e2]
    · have e1 : ¬ nI j < nI y := nI_nlt (by omega) (by omega)
      simp (disch := omega) only [zi_Model_packed_7, zi_Model_packed_8, zi_Model_packed_11, zi_Model_packed_13, zi_Model_packed_14, zi_Model_packed_17, zi_Model_packed_18, zi_Model_packed_19, zi_Model_packed_22, zi_Model_packed_23, zi_Model_packed_24, zi_Model_packed_25, zi_Model_packed_27, zi_Model_packed_30, zi_Model_packed_33, zi_Model_packed_34, zi_Model_packed_37, zi_Model_packed_38, zi_Model_packed_39, zi_Model_packed_40, zi_Model_packed_43, zi_Model_packed_46, zi_Model_packed_47, ↓reduceIte, mj_op_s, Option.toList_some, Option.toList_none, List.cons_append, List.nil_append, hp_1, hp_2, true_and, and_true, zb_0, zb_1, zb_b, va_rf, e1]
  | succ n ih =>
    intro j hj
    have hj50 : j < 50 := by omega
    have e1 : nI j < nI y := nI_lt (by omega) (by omega)
    have e2 : nI j < nI len := nI_lt (by omega) (by omega)
    have b1 := hR.2 j (by omega) 0 (by omega)
    have h := ih (j + 1) (by omega)
    rw [pk_s] at h
    rw [zi_Model_packed_5]
    by_cases c : A j 0 = nI 0
    · rw [if_pos c] at h
      simp (decide := true) (disch := omega) only [zi_Model_packed_7, zi_Model_packed_8, zi_Model_packed_11, zi_Model_packed_13, zi_Model_packed_14, zi_Model_packed_17, zi_Model_packed_18, zi_Model_packed_19, zi_Model_packed_22, zi_Model_packed_23, zi_Model_packed_24, zi_Model_packed_25, zi_Model_packed_27, zi_Model_packed_30, zi_Model_packed_33, zi_Model_packed_34, zi_Model_packed_37, zi_Model_packed_38, zi_Model_packed_39, zi_Model_packed_40, zi_Model_packed_43, zi_Model_packed_46, zi_Model_packed_47, ↓reduceIte, mj_op_s, Option.toList_some, Option.toList_none, List.cons_append, List.nil_append, hp_1, hp_2, true_and, and_true, zb_0, zb_1, zb_b, va_rf, io_256, ↓ogf_256_0, ↓opf_256_0, ↓ogf_256_1, ↓ogf_256_2, ↓ogf_256_3, ↓ogf_256_4, ↓opf_256_4, ↓ogf_256_5, ↓ogf_256_6, ↓ogf_256_7, ↓opf_256_7, ↓ogf_256_8, ↓opf_256_8, ↓ogf_256_9, ↓opf_256_9, ↓ogf_256_10, ↓opf_256_10, ↓ogf_256_11, ↓ogf_256_12, ↓ogf_256_13, ↓ogf_256_14, ↓ogf_256_15, ↓ogf_256_16, ↓ogf_256_17, ↓opf_256_17, ↓ogf_256_18, ↓opf_256_18, ↓ogf_256_19, ↓ogf_256_20, ↓ogf_256_21, ↓ogf_256_22, ↓opf_256_22_0, ↓opf_256_22_1, ↓ogf_256_23, ↓opf_256_23, ↓ogf_256_24, ↓ogf_256_25, ↓opf_256_25_0, ↓opf_256_25_1, ↓ogf_256_26, ↓opf_256_26, ↓ogf_256_27, ↓opf_256_27, ↓ogf_256_28, ↓opf_256_28, ↓ogf_256_29, ↓ogf_256_30, ↓ogf_256_31, ↓ogf_256_32, ↓ogf_256_33, ↓ogf_256_34, ↓oai_257, ↓owi_257, hR.1, e1, e2, c_Model_kind, b1, c, nI_add]
      exact h
    · rw [if_neg c] at h
      simp (decide := true) (disch := omega) only [zi_Model_packed_7, zi_Model_packed_8, zi_Model_packed_11, zi_Model_packed_13, zi_Model_packed_14, zi_Model_packed_17, zi_Model_packed_18, zi_Model_packed_19, zi_Model_packed_22, zi_Model_packed_23, zi_Model_packed_24, zi_Model_packed_25, zi_Model_packed_27, zi_Model_packed_30, zi_Model_packed_33, zi_Model_packed_34, zi_Model_packed_37, zi_Model_packed_38, zi_Model_packed_39, zi_Model_packed_40, zi_Model_packed_43, zi_Model_packed_46, zi_Model_packed_47, ↓reduceIte, mj_op_s, Option.toList_some, Option.toList_none, List.cons_append, List.nil_append, hp_1, hp_2, true_and, and_true, zb_0, zb_1, zb_b, va_rf, io_256, ↓ogf_256_0, ↓opf_256_0, ↓ogf_256_1, ↓ogf_256_2, ↓ogf_256_3, ↓ogf_256_4, ↓opf_256_4, ↓ogf_256_5, ↓ogf_256_6, ↓ogf_256_7, ↓opf_256_7, ↓ogf_256_8, ↓opf_256_8, ↓ogf_256_9, ↓opf_256_9, ↓ogf_256_10, ↓opf_256_10, ↓ogf_256_11, ↓ogf_256_12, ↓ogf_256_13, ↓ogf_256_14, ↓ogf_256_15, ↓ogf_256_16, ↓ogf_256_17, ↓opf_256_17, ↓ogf_256_18, ↓opf_256_18, ↓ogf_256_19, ↓ogf_256_20, ↓ogf_256_21, ↓ogf_256_22, ↓opf_256_22_0, ↓opf_256_22_1, ↓ogf_256_23, ↓opf_256_23, ↓ogf_256_24, ↓ogf_256_25, ↓opf_256_25_0, ↓opf_256_25_1, ↓ogf_256_26, ↓opf_256_26, ↓ogf_256_27, ↓opf_256_27, ↓ogf_256_28, ↓opf_256_28, ↓ogf_256_29, ↓ogf_256_30, ↓ogf_256_31, ↓ogf_256_32, ↓ogf_256_33, ↓ogf_256_34, ↓oai_257, ↓owi_257, hR.1, e1, e2, c_Model_kind, b1, c, nI_add]
      exact h
theorem c_Model_packed (hr : r < 44) (hR : hasM M r len A) (h50 : len ≤ 50) {y : Nat} (hy : y < 51) : mj_V (d + 2) lim mq_Model_packed 0 [.ref 256, .int (nI r), .int (nI y), mj_j, mj_j] [] (hp M) Q ↔ Q (some (.int (nI (pkN A (if y < len then y else len))))) (hp M) := by
  have h := l_Model_packed (d := d) (lim := lim) (Q := Q) hr hR h50 hy rfl (if y < len then y else len) 0 (by omega)
  rw [← h]
  simp only [zi_Model_packed_0, zi_Model_packed_1, zi_Model_packed_2, zi_Model_packed_3, ↓reduceIte, mj_op_s, Option.toList_some, Option.toList_none, List.cons_append, List.nil_append, hp_1, hp_2, true_and, and_true, zb_0, zb_1, zb_b, va_rf]
  rfl
end C68
