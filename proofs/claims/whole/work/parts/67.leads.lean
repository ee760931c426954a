/-! the frame; Leads.study, Model.leads -/
theorem fb_holes : ∀ (m n : Nat) (f : Nat → Nat), (∀ i, i < n → f i < m) → (∀ i j, i < j → j < n → f i ≠ f j) → n ≤ m := by
  intro m
  induction m with
  | zero =>
    intro n f h1 _
    rcases Nat.eq_zero_or_pos n with h | h
    · omega
    · exact absurd (h1 0 h) (Nat.not_lt_zero _)
  | succ m ih =>
    intro n f h1 h2
    by_cases hx : ∃ i, i < n ∧ f i = m
    · obtain ⟨a, ha, hfa⟩ := hx
      have hg := ih (n - 1) (fun i => if i < a then f i else f (i + 1)) (by
        intro i hi
        by_cases q : i < a
        · simp only [if_pos q]
          have b1 := h1 i (by omega)
          have b2 := h2 i a q ha
          omega
        · simp only [if_neg q]
          have b1 := h1 (i + 1) (by omega)
          have b2 := h2 a (i + 1) (by omega) (by omega)
          omega) (by
        intro i j hij hj
        by_cases q : i < a
        · by_cases r : j < a
          · simp only [if_pos q, if_pos r]
            exact h2 i j hij (by omega)
          · simp only [if_pos q, if_neg r]
            exact h2 i (j + 1) (by omega) (by omega)
        · have r : ¬ j < a := by omega
          simp only [if_neg q, if_neg r]
          exact h2 (i + 1) (j + 1) (by omega) (by omega))
      omega
    · have hg := ih n f (fun i hi => by
        have b1 := h1 i hi
        have b2 : f i ≠ m := fun e => hx ⟨i, hi, e⟩
        omega) h2
      omega
/-- two of them in one place -/
theorem fb_twice {m n : Nat} {f : Nat → Nat} (h : ∀ i, i < n → f i < m) (hm : m < n) : ∃ i j, i < j ∧ j < n ∧ f i = f j := by
  refine Classical.byContradiction fun hx => ?_
  have := fb_holes m n f h (fun i j hij hj e => hx ⟨i, j, hij, hj, e⟩)
  omega
/-- as many as places, none twice: each place is taken -/

def sm (P : Nat → Prop) (M M' : mm) : Prop := (∀ i, ¬ P i → rI M' i = rI M i ∧ rL M' i = rL M i ∧ rR M' i = rR M i) ∧ M'.2.2.2 = M.2.2.2
section C67
variable {d : Nat} {lim : Nat × Nat} {Q : mj_Q} {M M' M2 : mm} {o len p st s r : Nat} {A : Nat → Nat → Int32} {P P2 : Nat → Prop}
theorem sm_refl : sm P M M := ⟨fun _ _ => ⟨rfl, rfl, rfl⟩, rfl⟩
theorem sm_trans (h1 : sm P M M') (h2 : sm P M' M2) : sm P M M2 := ⟨fun i hi => ⟨(h2.1 i hi).1.trans (h1.1 i hi).1, (h2.1 i hi).2.1.trans (h1.1 i hi).2.1, (h2.1 i hi).2.2.trans (h1.1 i hi).2.2⟩, h2.2.trans h1.2⟩
theorem sm_mono (h : sm P M M') (hP : ∀ i, P i → P2 i) : sm P2 M M' := ⟨fun i hi => h.1 i (fun z => hi (hP i z)), h.2⟩
theorem sm_wI (h : sm P M M') {i k : Nat} {v : Int32} (hi : P i) : sm P M (wI M' i k v) := by
  refine ⟨fun j hj => ?_, h.2⟩
  have hne : j ≠ i := fun e => hj (e ▸ hi)
  exact ⟨(rI_row hne).trans (h.1 j hj).1, (h.1 j hj).2.1, (h.1 j hj).2.2⟩
theorem sm_wL (h : sm P M M') {i k : Nat} {v : Int64} (hi : P i) : sm P M (wL M' i k v) := by
  refine ⟨fun j hj => ?_, h.2⟩
  have hne : j ≠ i := fun e => hj (e ▸ hi)
  exact ⟨(h.1 j hj).1, (rL_row hne).trans (h.1 j hj).2.1, (h.1 j hj).2.2⟩
theorem sm_wR (h : sm P M M') {i k : Nat} {v : Nat} (hi : P i) : sm P M (wR M' i k v) := by
  refine ⟨fun j hj => ?_, h.2⟩
  have hne : j ≠ i := fun e => hj (e ▸ hi)
  exact ⟨(h.1 j hj).1, (h.1 j hj).2.1, (rR_row hne).trans (h.1 j hj).2.2⟩
theorem sm_I (h : sm P M M') {i k : Nat} (hi : ¬ P i) : rI M' i k = rI M i k := congrFun (h.1 i hi).1 k
theorem sm_L (h : sm P M M') {i k : Nat} (hi : ¬ P i) : rL M' i k = rL M i k := congrFun (h.1 i hi).2.1 k
theorem sm_R (h : sm P M M') {i k : Nat} (hi : ¬ P i) : rR M' i k = rR M i k := congrFun (h.1 i hi).2.2 k
theorem sm_hasR (h : sm P M M') (hP : ∀ j, j ≤ 4 → ¬ P (o + j)) (hR : hasR M o len A) : hasR M' o len A := by
  refine ⟨(sm_I h (hP 0 (by omega))).trans hR.1, fun p hp0 => ?_⟩
  obtain ⟨b1, b2, b3, b4⟩ := hR.2 p hp0
  exact ⟨(sm_I h (hP 1 (by omega))).trans b1, (sm_I h (hP 2 (by omega))).trans b2, (sm_I h (hP 3 (by omega))).trans b3, (sm_I h (hP 4 (by omega))).trans b4⟩
theorem sm_hasM (h : sm P M M') (h1 : ¬ P 257) (h2 : ¬ P 258) (hR : hasM M r len A) : hasM M' r len A := ⟨(sm_I h h1).trans hR.1, fun p hp0 j hj => (sm_I h h2).trans (hR.2 p hp0 j hj)⟩
theorem isRt_no {i j : Nat} (h : isRt o) (hj : j ≤ 4) (hi : i < 3 ∨ 203 ≤ i ∧ i ≤ 216 ∨ 227 ≤ i ∧ i ≤ 239 ∨ 245 ≤ i ∧ i ≤ 247 ∨ 253 ≤ i) : o + j ≠ i := by
  rcases h with h | h | h | h | h <;> omega
/-- the way on from a place -/
def qn (len : Nat) (A : Nat → Nat → Int32) (p : Nat) : Nat → Nat
  | 0 => p
  | i + 1 => ldN len A (qn len A p i)
theorem qn_s : ∀ i, qn len A (ldN len A p) i = qn len A p (i + 1)
  | 0 => rfl
  | i + 1 => by
    show ldN len A (qn len A (ldN len A p) i) = ldN len A (qn len A p (i + 1))
    rw [qn_s i]
theorem ldS_some : ∀ (m f p s : Nat), m ≤ f → (∀ i, i < m → ldO len A (qn len A p i)) → ¬ ldO len A (qn len A p m) → ldS len A f p s = some (qn len A p m, s + m) := by
  intro m
  induction m with
  | zero =>
    intro f p s hf ha hn
    have hn : ¬ ldO len A p := hn
    cases f with
    | zero => unfold ldS; rw [if_neg hn]; rfl
    | succ f => unfold ldS; rw [if_neg hn]; rfl
  | succ m ih =>
    intro f p s hf ha hn
    obtain ⟨f, rfl⟩ : ∃ g, f = g + 1 := ⟨f - 1, by omega⟩
    unfold ldS
    rw [if_pos (show ldO len A p from ha 0 (by omega))]
    rw [ih f (ldN len A p) (s + 1) (by omega) (fun i hi => by rw [qn_s]; exact ha (i + 1) (by omega)) (by rw [qn_s]; exact hn), qn_s]
    rw [show s + 1 + m = s + (m + 1) by omega]
theorem ldS_none : ∀ (f p s : Nat), (∀ i, i ≤ f → ldO len A (qn len A p i)) → ldS len A f p s = none := by
  intro f
  induction f with
  | zero => intro p s h; unfold ldS; rw [if_pos (show ldO len A p from h 0 (by omega))]
  | succ f ih =>
    intro p s h
    unfold ldS
    rw [if_pos (show ldO len A p from h 0 (by omega))]
    exact ih _ _ (fun i hi => by rw [qn_s]; exact h (i + 1) (by omega))
theorem qn_eq {i j : Nat} (h : qn len A p i = qn len A p j) : ∀ k, qn len A p (i + k) = qn len A p (j + k)
  | 0 => h
  | k + 1 => by
    show ldN len A (qn len A p (i + k)) = ldN len A (qn len A p (j + k))
    rw [qn_eq h k]
theorem first_no {B : Nat → Prop} : ∀ n, (∀ i, i ≤ n → B i) ∨ ∃ m, m ≤ n ∧ (∀ i, i < m → B i) ∧ ¬ B m := by
  intro n
  induction n with
  | zero =>
    by_cases h : B 0
    · exact Or.inl (fun i hi => by
        obtain rfl : i = 0 := by omega
        exact h)
    · exact Or.inr ⟨0, Nat.le_refl 0, fun i hi => by omega, h⟩
  | succ n ih =>
    rcases ih with h | ⟨m, h1, h2⟩
    · by_cases h3 : B (n + 1)
      · exact Or.inl (fun i hi => by
          by_cases e : i = n + 1
          · subst e; exact h3
          · exact h i (by omega))
      · exact Or.inr ⟨n + 1, Nat.le_refl _, fun i hi => h i (by omega), h3⟩
    · exact Or.inr ⟨m, by omega, h2⟩
theorem ldS_same (h50 : len ≤ 50) : ldS len A 50 p s = ldS len A len p s := by
  rcases first_no (B := fun i => ldO len A (qn len A p i)) len with h | ⟨m, h1, h2, h3⟩
  · rw [ldS_none len p s h]
    refine ldS_none 50 p s ?_
    obtain ⟨i, j, hij, hj, e⟩ := fb_twice (m := len) (n := len + 1) (f := qn len A p) (fun i hi => (h i (by omega)).1) (by omega)
    have all : ∀ n k, k ≤ n → ldO len A (qn len A p k) := by
      intro n
      induction n with
      | zero => intro k hk; exact h k (by omega)
      | succ n ih =>
        intro k hk
        by_cases hl : k ≤ len
        · exact h k hl
        · have e2 := qn_eq e (k - j)
          rw [show j + (k - j) = k by omega] at e2
          rw [← e2]
          exact ih _ (by omega)
    exact all 50
  · rw [ldS_some m len p s h1 h2 h3, ldS_some m 50 p s (by omega) h2 h3]
def ldR (len : Nat) (A : Nat → Nat → Int32) (k : Nat) : Nat × Nat := ldE len A k (ldS len A len k 0)
theorem ldS_b : ∀ (f p s : Nat), p ≤ len → ∀ y, ldS len A f p s = some y → y.1 ≤ len ∧ y.2 ≤ s + f := by
  intro f
  induction f with
  | zero =>
    intro p s hp0 y h
    unfold ldS at h
    split at h
    · cases h
    · cases h; exact ⟨hp0, by simp⟩
  | succ f ih =>
    intro p s hp0 y h
    unfold ldS at h
    split at h
    · rename_i hO
      obtain ⟨h1, h2⟩ := ih _ _ (ldN_le hO) y h
      exact ⟨h1, by omega⟩
    · cases h; exact ⟨hp0, by simp⟩
theorem ldR_b (hp0 : p ≤ len) : (ldR len A p).1 ≤ len ∧ (ldR len A p).2 ≤ len := by
  unfold ldR ldE
  cases h : ldS len A len p 0 with
  | none => exact ⟨hp0, Nat.zero_le _⟩
  | some y =>
    obtain ⟨h1, h2⟩ := ldS_b len p 0 hp0 y h
    exact ⟨h1, by simpa using h2⟩
abbrev ldP (i : Nat) : Prop := i = 214 ∨ i = 215
theorem l_Leads_study (ho : isRt o) (hR : hasR M o len A) (hok : okR len A) (hend : ∀ M', sm ldP M M' → (∀ k, k ≤ len → rI M' 214 k = nI (ldR len A k).1 ∧ rI M' 215 k = nI (ldR len A k).2) → Q none (hp M')) :
    ∀ (n j : Nat) (M1 : mm), j + n = len + 1 → sm ldP M M1 → (∀ k, k < j → rI M1 214 k = nI (ldR len A k).1 ∧ rI M1 215 k = nI (ldR len A k).2) → mj_V (d + 3) lim mq_Leads_study 2 [.ref 213, .ref o, .int (nI j)] [] (hp M1) Q := by
  have h50 := hok.1
  have hno : ∀ j, j ≤ 4 → ¬ ldP (o + j) := fun j hj z => z.elim (isRt_no ho hj (by omega)) (isRt_no ho hj (by omega))
  intro n
  induction n with
  | zero =>
    intro j M1 hj hs hall
    have hR1 := sm_hasR hs hno hR
    have e1 : nI len < nI j := nI_lt (by omega) (by omega)
    rw [zi_Leads_study_2]
    simp (disch := first | assumption | omega) only [zi_Leads_study_3, zi_Leads_study_4, zi_Leads_study_7, zi_Leads_study_10, zi_Leads_study_11, zi_Leads_study_12, zi_Leads_study_13, zi_Leads_study_16, zi_Leads_study_19, zi_Leads_study_22, ↓reduceIte, mj_op_s, Option.toList_some, Option.toList_none, List.cons_append, List.nil_append, hp_1, hp_2, true_and, and_true, zb_0, zb_1, zb_b, va_rf, io_rt, ↓ogf_rt_0, ↓ogf_rt_1, ↓ogf_rt_2, ↓ogf_rt_3, ↓ogf_rt_4, ↓oai_rt_0, ↓oai_rt_1, ↓oai_rt_2, ↓oai_rt_3, ↓owi_rt_0, ↓owi_rt_1, ↓owi_rt_2, ↓owi_rt_3, ↓opf_rt, hR1.1, e1]
    exact hend M1 hs (fun k hk => hall k (by omega))
  | succ n ih =>
    intro j M1 hj hs hall
    have hR1 := sm_hasR hs hno hR
    have e1 : ¬ nI len < nI j := nI_nlt (by omega) (by omega)
    rw [zi_Leads_study_2]
    simp (disch := first | assumption | omega) only [zi_Leads_study_3, zi_Leads_study_4, zi_Leads_study_7, zi_Leads_study_10, zi_Leads_study_11, zi_Leads_study_12, zi_Leads_study_13, zi_Leads_study_16, zi_Leads_study_19, zi_Leads_study_22, ↓reduceIte, mj_op_s, Option.toList_some, Option.toList_none, List.cons_append, List.nil_append, hp_1, hp_2, true_and, and_true, zb_0, zb_1, zb_b, va_rf, io_rt, ↓ogf_rt_0, ↓ogf_rt_1, ↓ogf_rt_2, ↓ogf_rt_3, ↓ogf_rt_4, ↓oai_rt_0, ↓oai_rt_1, ↓oai_rt_2, ↓oai_rt_3, ↓owi_rt_0, ↓owi_rt_1, ↓owi_rt_2, ↓owi_rt_3, ↓opf_rt, io_213, ↓ogf_213_0, ↓ogf_213_1, hR1.1, e1, c_Leads_follow ho hR1 hok (show j ≤ len by omega), nI_add]
    refine ih (j + 1) _ (by omega) (sm_wI (sm_wI hs (Or.inl rfl)) (Or.inr rfl)) (fun k hk => ?_)
    simp only [rI_wI]
    by_cases e : k = j
    · subst e; simp [ldR]
    · simp [e]; exact hall k (by omega)
theorem c_Leads_study (ho : isRt o) (hR : hasR M o len A) (hok : okR len A) (hend : ∀ M', sm ldP M M' → (∀ k, k ≤ len → rI M' 214 k = nI (ldR len A k).1 ∧ rI M' 215 k = nI (ldR len A k).2) → Q none (hp M')) : mj_V (d + 3) lim mq_Leads_study 0 [.ref 213, .ref o, mj_j] [] (hp M) Q := by
  simp only [zi_Leads_study_0, zi_Leads_study_1, ↓reduceIte, mj_op_s, Option.toList_some, Option.toList_none, List.cons_append, List.nil_append, hp_1, hp_2, true_and, and_true, zb_0, zb_1, zb_b, va_rf]
  exact l_Leads_study ho hR hok hend (len + 1) 0 M (by omega) sm_refl (fun k hk => by omega)
theorem wI_wI {i k : Nat} {v w : Int32} : wI (wI M i k v) i k w = wI M i k w := by
  refine mm_ext (fun a b => ?_) (fun _ _ => rfl) (fun _ _ => rfl) rfl
  simp only [rI_wI]
  by_cases h : a = i ∧ b = k
  · rw [if_pos h, if_pos h]
  · rw [if_neg h, if_neg h, if_neg h]
theorem l_Model_leads (hr : r < 44) (hR : hasM M r len A) (hok : okR len A) {y : Int32} (hy : plF y (nI len) = nI st) : ∀ (f p s : Nat), s + f = 50 → p ≤ len → (mj_V (d + 2) lim mq_Model_leads 12 [.ref 256, .int (nI r), .int y, .int (nI p)] [] (hp (wI M 256 26 (nI s))) Q ↔ Q (some (.int (nI (ldE len A st (ldS len A f p s)).1))) (hp (wI M 256 26 (nI (ldE len A st (ldS len A f p s)).2)))) := by
  have h50 := hok.1
  have a0 : ∀ s, rI (wI M 256 26 (nI s)) 257 r = nI len := fun s => by rw [rI_wI, if_neg (by omega)]; exact hR.1
  have a1 : ∀ s, rI (wI M 256 26 (nI s)) 256 26 = nI s := fun s => by rw [rI_wI, if_pos ⟨rfl, rfl⟩]
  have a2 : ∀ s p j, p < len → j < 4 → rI (wI M 256 26 (nI s)) 258 (4 * (50 * r + p) + j) = A p j := fun s p j hp0 hj => by rw [rI_wI, if_neg (by omega)]; exact hR.2 p hp0 j hj
  have stop : ∀ (p s : Nat), p ≤ len → ¬ ldO len A p → (mj_V (d + 2) lim mq_Model_leads 12 [.ref 256, .int (nI r), .int y, .int (nI p)] [] (hp (wI M 256 26 (nI s))) Q ↔ Q (some (.int (nI p))) (hp (wI M 256 26 (nI s)))) := by
    intro p s hp0 hO
    rw [zi_Model_leads_12]
    by_cases h : p < len
    · have e1 : nI p < nI len := nI_lt h (by omega)
      have c0 : ¬ A p 0 = nI 0 := fun z => hO ⟨h, Or.inl z⟩
      have c1 : ¬ A p 0 = nI 12 := fun z => hO ⟨h, Or.inr z⟩
      have q0 := a2 s p 0 h (by omega)
      simp (disch := omega) only [zi_Model_leads_13, zi_Model_leads_14, zi_Model_leads_17, zi_Model_leads_18, zi_Model_leads_19, zi_Model_leads_22, zi_Model_leads_23, zi_Model_leads_24, zi_Model_leads_25, zi_Model_leads_28, zi_Model_leads_31, zi_Model_leads_32, zi_Model_leads_33, zi_Model_leads_34, zi_Model_leads_37, zi_Model_leads_39, zi_Model_leads_42, zi_Model_leads_43, zi_Model_leads_44, zi_Model_leads_45, zi_Model_leads_48, zi_Model_leads_51, zi_Model_leads_52, zi_Model_leads_53, zi_Model_leads_54, zi_Model_leads_57, zi_Model_leads_58, zi_Model_leads_59, zi_Model_leads_60, zi_Model_leads_61, zi_Model_leads_62, zi_Model_leads_63, zi_Model_leads_66, zi_Model_leads_69, zi_Model_leads_70, zi_Model_leads_71, zi_Model_leads_72, zi_Model_leads_75, zi_Model_leads_76, zi_Model_leads_77, zi_Model_leads_80, zi_Model_leads_81, zi_Model_leads_84, zi_Model_leads_86, zi_Model_leads_89, zi_Model_leads_90, zi_Model_leads_91, zi_Model_leads_94, zi_Model_leads_95, zi_Model_leads_96, zi_Model_leads_97, zi_Model_leads_100, zi_Model_leads_101, zi_Model_leads_102, ↓reduceIte, mj_op_s, Option.toList_some, Option.toList_none, List.cons_append, List.nil_append, hp_1, hp_2, true_and, and_true, zb_0, zb_1, zb_b, va_rf, io_256, ↓ogf_256_0, ↓opf_256_0, ↓ogf_256_1, ↓ogf_256_2, ↓ogf_256_3, ↓ogf_256_4, ↓opf_256_4, ↓ogf_256_5, ↓ogf_256_6, ↓ogf_256_7, ↓opf_256_7, ↓ogf_256_8, ↓opf_256_8, ↓ogf_256_9, ↓opf_256_9, ↓ogf_256_10, ↓opf_256_10, ↓ogf_256_11, ↓ogf_256_12, ↓ogf_256_13, ↓ogf_256_14, ↓ogf_256_15, ↓ogf_256_16, ↓ogf_256_17, ↓opf_256_17, ↓ogf_256_18, ↓opf_256_18, ↓ogf_256_19, ↓ogf_256_20, ↓ogf_256_21, ↓ogf_256_22, ↓opf_256_22_0, ↓opf_256_22_1, ↓ogf_256_23, ↓opf_256_23, ↓ogf_256_24, ↓ogf_256_25, ↓opf_256_25_0, ↓opf_256_25_1, ↓ogf_256_26, ↓opf_256_26, ↓ogf_256_27, ↓opf_256_27, ↓ogf_256_28, ↓opf_256_28, ↓ogf_256_29, ↓ogf_256_30, ↓ogf_256_31, ↓ogf_256_32, ↓ogf_256_33, ↓ogf_256_34, ↓oai_257, ↓owi_257, a0, e1, c_Model_kind, q0, c0, c1]
    · have e1 : ¬ nI p < nI len := nI_nlt (by omega) (by omega)
      simp (disch := omega) only [zi_Model_leads_13, zi_Model_leads_14, zi_Model_leads_17, zi_Model_leads_18, zi_Model_leads_19, zi_Model_leads_22, zi_Model_leads_23, zi_Model_leads_24, zi_Model_leads_25, zi_Model_leads_28, zi_Model_leads_31, zi_Model_leads_32, zi_Model_leads_33, zi_Model_leads_34, zi_Model_leads_37, zi_Model_leads_39, zi_Model_leads_42, zi_Model_leads_43, zi_Model_leads_44, zi_Model_leads_45, zi_Model_leads_48, zi_Model_leads_51, zi_Model_leads_52, zi_Model_leads_53, zi_Model_leads_54, zi_Model_leads_57, zi_Model_leads_58, zi_Model_leads_59, zi_Model_leads_60, zi_Model_leads_61, zi_Model_leads_62, zi_Model_leads_63, zi_Model_leads_66, zi_Model_leads_69, zi_Model_leads_70, zi_Model_leads_71, zi_Model_leads_72, zi_Model_leads_75, zi_Model_leads_76, zi_Model_leads_77, zi_Model_leads_80, zi_Model_leads_81, zi_Model_leads_84, zi_Model_leads_86, zi_Model_leads_89, zi_Model_leads_90, zi_Model_leads_91, zi_Model_leads_94, zi_Model_leads_95, zi_Model_leads_96, zi_Model_leads_97, zi_Model_leads_100, zi_Model_leads_101, zi_Model_leads_102, ↓reduceIte, mj_op_s, Option.toList_some, Option.toList_none, List.cons_append, List.nil_append, hp_1, hp_2, true_and, and_true, zb_0, zb_1, zb_b, va_rf, io_256, ↓ogf_256_0, ↓opf_256_0, ↓ogf_256_1, ↓ogf_256_2, ↓ogf_256_3, ↓ogf_256_4, ↓opf_256_4, ↓ogf_256_5, ↓ogf_256_6, ↓ogf_256_7, ↓opf_256_7, ↓ogf_256_8, ↓opf_256_8, ↓ogf_256_9, ↓opf_256_9, ↓ogf_256_10, ↓opf_256_10, ↓ogf_256_11, ↓ogf_256_12, ↓ogf_256_13, ↓ogf_256_14, ↓ogf_256_15, ↓ogf_256_16, ↓ogf_256_17, ↓opf_256_17, ↓ogf_256_18, ↓opf_256_18, ↓ogf_256_19, ↓ogf_256_20, ↓ogf_256_21, ↓ogf_256_22, ↓opf_256_22_0, ↓opf_256_22_1, ↓ogf_256_23, ↓opf_256_23, ↓ogf_256_24, ↓ogf_256_25, ↓opf_256_25_0, ↓opf_256_25_1, ↓ogf_256_26, ↓opf_256_26, ↓ogf_256_27, ↓opf_256_27, ↓ogf_256_28, ↓opf_256_28, ↓ogf_256_29, ↓ogf_256_30, ↓ogf_256_31, ↓ogf_256_32, ↓ogf_256_33, ↓ogf_256_34, ↓oai_257, ↓owi_257, a0, e1]
  have step : ∀ (p s : Nat), s ≤ 50 → ldO len A p → (mj_V (d + 2) lim mq_Model_leads 12 [.ref 256, .int (nI r), .int y, .int (nI p)] [] (hp (wI M 256 26 (nI s))) Q ↔ if s = 50 then Q (some (.int (nI st))) (hp (wI M 256 26 (nI 0))) else mj_V (d + 2) lim mq_Model_leads 12 [.ref 256, .int (nI r), .int y, .int (nI (ldN len A p))] [] (hp (wI M 256 26 (nI (s + 1)))) Q) := by
    intro p s hs hO
    have h := hO.1
    have e1 : nI p < nI len := nI_lt h (by omega)
    have q0 := a2 s p 0 h (by omega)
    have q2 := a2 s p 2 h (by omega)
    have fin : ∀ x : Int32, x = nI (ldN len A p) → ((if nI 50 < nI (s + 1) then Q (some (.int (nI st))) (hp (wI M 256 26 (nI 0))) else mj_V (d + 2) lim mq_Model_leads 12 [.ref 256, .int (nI r), .int y, .int x] [] (hp (wI M 256 26 (nI (s + 1)))) Q) ↔ if s = 50 then Q (some (.int (nI st))) (hp (wI M 256 26 (nI 0))) else mj_V (d + 2) lim mq_Model_leads 12 [.ref 256, .int (nI r), .int y, .int (nI (ldN len A p))] [] (hp (wI M 256 26 (nI (s + 1)))) Q) := by
      intro x hx
      subst hx
      by_cases e : s = 50
      · rw [if_pos e, if_pos (nI_lt (by omega) (by omega))]
      · rw [if_neg e, if_neg (nI_nlt (by omega) (by omega))]
    rw [zi_Model_leads_12]
    rcases hO.2 with c | c
    · have e2 : ldN len A p = p + 1 := by unfold ldN; rw [if_neg (by rw [c]; decide)]
      rw [← fin _ rfl, e2]
      simp (decide := true) (disch := omega) only [zi_Model_leads_13, zi_Model_leads_14, zi_Model_leads_17, zi_Model_leads_18, zi_Model_leads_19, zi_Model_leads_22, zi_Model_leads_23, zi_Model_leads_24, zi_Model_leads_25, zi_Model_leads_28, zi_Model_leads_31, zi_Model_leads_32, zi_Model_leads_33, zi_Model_leads_34, zi_Model_leads_37, zi_Model_leads_39, zi_Model_leads_42, zi_Model_leads_43, zi_Model_leads_44, zi_Model_leads_45, zi_Model_leads_48, zi_Model_leads_51, zi_Model_leads_52, zi_Model_leads_53, zi_Model_leads_54, zi_Model_leads_57, zi_Model_leads_58, zi_Model_leads_59, zi_Model_leads_60, zi_Model_leads_61, zi_Model_leads_62, zi_Model_leads_63, zi_Model_leads_66, zi_Model_leads_69, zi_Model_leads_70, zi_Model_leads_71, zi_Model_leads_72, zi_Model_leads_75, zi_Model_leads_76, zi_Model_leads_77, zi_Model_leads_80, zi_Model_leads_81, zi_Model_leads_84, zi_Model_leads_86, zi_Model_leads_89, zi_Model_leads_90, zi_Model_leads_91, zi_Model_leads_94, zi_Model_leads_95, zi_Model_leads_96, zi_Model_leads_97, zi_Model_leads_100, zi_Model_leads_101, zi_Model_leads_102, ↓reduceIte, mj_op_s, Option.toList_some, Option.toList_none, List.cons_append, List.nil_append, hp_1, hp_2, true_and, and_true, zb_0, zb_1, zb_b, va_rf, io_256, ↓ogf_256_0, ↓opf_256_0, ↓ogf_256_1, ↓ogf_256_2, ↓ogf_256_3, ↓ogf_256_4, ↓opf_256_4, ↓ogf_256_5, ↓ogf_256_6, ↓ogf_256_7, ↓opf_256_7, ↓ogf_256_8, ↓opf_256_8, ↓ogf_256_9, ↓opf_256_9, ↓ogf_256_10, ↓opf_256_10, ↓ogf_256_11, ↓ogf_256_12, ↓ogf_256_13, ↓ogf_256_14, ↓ogf_256_15, ↓ogf_256_16, ↓ogf_256_17, ↓opf_256_17, ↓ogf_256_18, ↓opf_256_18, ↓ogf_256_19, ↓ogf_256_20, ↓ogf_256_21, ↓ogf_256_22, ↓opf_256_22_0, ↓opf_256_22_1, ↓ogf_256_23, ↓opf_256_23, ↓ogf_256_24, ↓ogf_256_25, ↓opf_256_25_0, ↓opf_256_25_1, ↓ogf_256_26, ↓opf_256_26, ↓ogf_256_27, ↓opf_256_27, ↓ogf_256_28, ↓opf_256_28, ↓ogf_256_29, ↓ogf_256_30, ↓ogf_256_31, ↓ogf_256_32, ↓ogf_256_33, ↓ogf_256_34, ↓oai_257, ↓owi_257, a0, a1, e1, c_Model_kind, q0, c, wI_wI, nI_add, c_Model_place, hy]
    · have hy2 : plF (A p 2) (nI len) = nI (ldN len A p) := by
        rcases okA_cases (hok.2 p h) with ⟨e, -⟩ | ⟨e, -⟩ | ⟨i, hi, e, -⟩ | ⟨i, j, hi, hj, e, -⟩ | ⟨i, j, hi, hj, e, -⟩ | ⟨k, i, j, l, hk1, hk2, hi, hj, hl, e, -⟩ | ⟨i, hi, e, -⟩ | ⟨j, hj, e, ex, ey, -⟩ | ⟨i, j, hi, hj, e, -⟩
        · rw [e] at c; exact absurd c (by decide)
        · rw [e] at c; exact absurd c (by decide)
        · rw [e] at c; exact absurd c (by decide)
        · rw [e] at c; exact absurd c (by decide)
        · rw [e] at c; exact absurd c (by decide)
        · rw [e] at c
          have := (nI_eq (show k < 2 ^ 31 by omega) (show 12 < 2 ^ 31 by omega)).mp c
          omega
        · rw [e] at c; exact absurd c (by decide)
        · unfold ldN tgP
          rw [if_pos c, ey, plF_n (by omega) (by omega), cz_n (by omega)]
        · rw [e] at c; exact absurd c (by decide)
      rw [← fin _ rfl]
      simp (decide := true) (disch := omega) only [zi_Model_leads_13, zi_Model_leads_14, zi_Model_leads_17, zi_Model_leads_18, zi_Model_leads_19, zi_Model_leads_22, zi_Model_leads_23, zi_Model_leads_24, zi_Model_leads_25, zi_Model_leads_28, zi_Model_leads_31, zi_Model_leads_32, zi_Model_leads_33, zi_Model_leads_34, zi_Model_leads_37, zi_Model_leads_39, zi_Model_leads_42, zi_Model_leads_43, zi_Model_leads_44, zi_Model_leads_45, zi_Model_leads_48, zi_Model_leads_51, zi_Model_leads_52, zi_Model_leads_53, zi_Model_leads_54, zi_Model_leads_57, zi_Model_leads_58, zi_Model_leads_59, zi_Model_leads_60, zi_Model_leads_61, zi_Model_leads_62, zi_Model_leads_63, zi_Model_leads_66, zi_Model_leads_69, zi_Model_leads_70, zi_Model_leads_71, zi_Model_leads_72, zi_Model_leads_75, zi_Model_leads_76, zi_Model_leads_77, zi_Model_leads_80, zi_Model_leads_81, zi_Model_leads_84, zi_Model_leads_86, zi_Model_leads_89, zi_Model_leads_90, zi_Model_leads_91, zi_Model_leads_94, zi_Model_leads_95, zi_Model_leads_96, zi_Model_leads_97, zi_Model_leads_100, zi_Model_leads_101, zi_Model_leads_102, ↓reduceIte, mj_op_s, Option.toList_some, Option.toList_none, List.cons_append, List.nil_append, hp_1, hp_2, true_and, and_true, zb_0, zb_1, zb_b, va_rf, io_256, ↓ogf_256_0, ↓opf_256_0, ↓ogf_256_1, ↓ogf_256_2, ↓ogf_256_3, ↓ogf_256_4, ↓opf_256_4, ↓ogf_256_5, ↓ogf_256_6, ↓ogf_256_7, ↓opf_256_7, ↓ogf_256_8, ↓opf_256_8, ↓ogf_256_9, ↓opf_256_9, ↓ogf_256_10, ↓opf_256_10, ↓ogf_256_11, ↓ogf_256_12, ↓ogf_256_13, ↓ogf_256_14, ↓ogf_256_15, ↓ogf_256_16, ↓ogf_256_17, ↓opf_256_17, ↓ogf_256_18, ↓opf_256_18, ↓ogf_256_19, ↓ogf_256_20, ↓ogf_256_21, ↓ogf_256_22, ↓opf_256_22_0, ↓opf_256_22_1, ↓ogf_256_23, ↓opf_256_23, ↓ogf_256_24, ↓ogf_256_25, ↓opf_256_25_0, ↓opf_256_25_1, ↓ogf_256_26, ↓opf_256_26, ↓ogf_256_27, ↓opf_256_27, ↓ogf_256_28, ↓opf_256_28, ↓ogf_256_29, ↓ogf_256_30, ↓ogf_256_31, ↓ogf_256_32, ↓ogf_256_33, ↓ogf_256_34, ↓oai_257, ↓owi_257, a0, a1, e1, c_Model_kind, c_Model_num, q0, q2, c, hy2, wI_wI, nI_add, c_Model_place, hy]
  intro f
  induction f with
  | zero =>
    intro p s hs hp0
    obtain rfl : s = 50 := by omega
    unfold ldS
    by_cases hO : ldO len A p
    · rw [step p 50 (Nat.le_refl _) hO, if_pos hO, if_pos rfl]
      rfl
    · rw [if_neg hO]
      exact stop p 50 hp0 hO
  | succ f ih =>
    intro p s hs hp0
    unfold ldS
    by_cases hO : ldO len A p
    · rw [step p s (by omega) hO, if_pos hO, if_neg (by omega)]
      exact ih _ (s + 1) (by omega) (ldN_le hO)
    · rw [if_neg hO]
      exact stop p s hp0 hO
theorem c_Model_leads (hr : r < 44) (hR : hasM M r len A) (hok : okR len A) {y : Int32} (hy : plF y (nI len) = nI st) (hst : st ≤ len) : mj_V (d + 2) lim mq_Model_leads 0 [.ref 256, .int (nI r), .int y, mj_j] [] (hp M) Q ↔ Q (some (.int (nI (ldR len A st).1))) (hp (wI M 256 26 (nI (ldR len A st).2))) := by
  have h := l_Model_leads (d := d) (lim := lim) (Q := Q) hr hR hok hy 50 st 0 (by omega) hst
  rw [ldS_same hok.1] at h
  unfold ldR
  rw [← h]
  simp (disch := omega) only [zi_Model_leads_0, zi_Model_leads_1, zi_Model_leads_2, zi_Model_leads_3, zi_Model_leads_6, zi_Model_leads_7, zi_Model_leads_8, zi_Model_leads_9, ↓reduceIte, mj_op_s, Option.toList_some, Option.toList_none, List.cons_append, List.nil_append, hp_1, hp_2, true_and, and_true, zb_0, zb_1, zb_b, va_rf, io_256, ↓ogf_256_0, ↓opf_256_0, ↓ogf_256_1, ↓ogf_256_2, ↓ogf_256_3, ↓ogf_256_4, ↓opf_256_4, ↓ogf_256_5, ↓ogf_256_6, ↓ogf_256_7, ↓opf_256_7, ↓ogf_256_8, ↓opf_256_8, ↓ogf_256_9, ↓opf_256_9, ↓ogf_256_10, ↓opf_256_10, ↓ogf_256_11, ↓ogf_256_12, ↓ogf_256_13, ↓ogf_256_14, ↓ogf_256_15, ↓ogf_256_16, ↓ogf_256_17, ↓opf_256_17, ↓ogf_256_18, ↓opf_256_18, ↓ogf_256_19, ↓ogf_256_20, ↓ogf_256_21, ↓ogf_256_22, ↓opf_256_22_0, ↓opf_256_22_1, ↓ogf_256_23, ↓opf_256_23, ↓ogf_256_24, ↓ogf_256_25, ↓opf_256_25_0, ↓opf_256_25_1, ↓ogf_256_26, ↓opf_256_26, ↓ogf_256_27, ↓opf_256_27, ↓ogf_256_28, ↓opf_256_28, ↓ogf_256_29, ↓ogf_256_30, ↓ogf_256_31, ↓ogf_256_32, ↓ogf_256_33, ↓ogf_256_34, c_Model_place, hR.1, hy]
end C67
