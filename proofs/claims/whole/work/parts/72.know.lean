/-! contracts: Knowledge, its memory and small methods -/
theorem zb_b1 (b : Bool) : mj_zb (b1 b) := by cases b; exact zb_0; exact zb_1
def knM (M : mm) (s : KS) (kb : Nat → Int32) (nb : Nat → Int64) : mm := (fun i k => if i = 204 ∧ k < 51 then b1 (s.1 k) else if i = 205 ∧ k < 408 then b1 (s.2.1 (k / 8) (k % 8)).isSome else if i = 207 ∧ k < 51 then b1 (s.2.2.1 k) else if i = 203 ∧ k = 4 then b1 s.2.2.2 else if i = 208 ∧ k < 8 then kb k else rI M i k, fun i k => if i = 206 ∧ k < 408 then (s.2.1 (k / 8) (k % 8)).getD 0 else if i = 209 ∧ k < 8 then nb k else rL M i k, M.2.2)
def updF (F : KF) (t j : Nat) (v : Option Int64) : KF := fun q r => if q = t ∧ r = j then v else F q r
section C72
variable {d : Nat} {lim : Nat × Nat} {Q : mj_Q} {M : mm} {o len p t j r : Nat} {A : Nat → Nat → Int32} {C w : Nat → Bool} {F : KF} {sw : Bool} {s : KS} {b f : Nat → Option Int64} {kb kb2 : Nat → Int32} {nb nb2 : Nat → Int64}
theorem kn_I {i k : Nat} : rI (knM M s kb nb) i k = if i = 204 ∧ k < 51 then b1 (s.1 k) else if i = 205 ∧ k < 408 then b1 (s.2.1 (k / 8) (k % 8)).isSome else if i = 207 ∧ k < 51 then b1 (s.2.2.1 k) else if i = 203 ∧ k = 4 then b1 s.2.2.2 else if i = 208 ∧ k < 8 then kb k else rI M i k := rfl
theorem kn_L {i k : Nat} : rL (knM M s kb nb) i k = if i = 206 ∧ k < 408 then (s.2.1 (k / 8) (k % 8)).getD 0 else if i = 209 ∧ k < 8 then nb k else rL M i k := rfl
theorem kn_Io {i k : Nat} (h : i < 203 ∨ 208 < i) : rI (knM M s kb nb) i k = rI M i k := by
  rw [kn_I, if_neg (by omega), if_neg (by omega), if_neg (by omega), if_neg (by omega), if_neg (by omega)]
theorem kn_4 (h : p < 51) : rI (knM M s kb nb) 204 p = b1 (s.1 p) := by rw [kn_I, if_pos ⟨rfl, h⟩]
theorem kn_5 (h : p < 51) (hr : r < 8) : rI (knM M s kb nb) 205 (p * 8 + r) = b1 (s.2.1 p r).isSome := by
  rw [kn_I, if_neg (by omega), if_pos ⟨rfl, by omega⟩, show (p * 8 + r) / 8 = p by omega, show (p * 8 + r) % 8 = r by omega]
theorem kn_6 (h : p < 51) (hr : r < 8) : rL (knM M s kb nb) 206 (p * 8 + r) = (s.2.1 p r).getD 0 := by
  rw [kn_L, if_pos ⟨rfl, by omega⟩, show (p * 8 + r) / 8 = p by omega, show (p * 8 + r) % 8 = r by omega]
theorem kn_7 (h : p < 51) : rI (knM M s kb nb) 207 p = b1 (s.2.2.1 p) := by rw [kn_I, if_neg (by omega), if_neg (by omega), if_pos ⟨rfl, h⟩]
theorem kn_3 : rI (knM M s kb nb) 203 4 = b1 s.2.2.2 := by rw [kn_I, if_neg (by omega), if_neg (by omega), if_neg (by omega), if_pos ⟨rfl, rfl⟩]
theorem kn_8 (h : r < 8) : rI (knM M s kb nb) 208 r = kb r := by rw [kn_I, if_neg (by omega), if_neg (by omega), if_neg (by omega), if_neg (by omega), if_pos ⟨rfl, h⟩]
theorem kn_9 (h : r < 8) : rL (knM M s kb nb) 209 r = nb r := by rw [kn_L, if_neg (by omega), if_pos ⟨rfl, h⟩]
theorem kn_R (ho : isRt o) (hR : hasR M o len A) : hasR (knM M s kb nb) o len A := by
  have hn : ∀ j, j ≤ 4 → (o + j < 203 ∨ 208 < o + j) := by
    intro j hj
    rcases ho with h | h | h | h | h <;> omega
  refine ⟨(kn_Io (hn 0 (by omega))).trans hR.1, fun p hp0 => ?_⟩
  obtain ⟨b1, b2, b3, b4⟩ := hR.2 p hp0
  exact ⟨(kn_Io (hn 1 (by omega))).trans b1, (kn_Io (hn 2 (by omega))).trans b2, (kn_Io (hn 3 (by omega))).trans b3, (kn_Io (hn 4 (by omega))).trans b4⟩
theorem kw_4 {v : Bool} (h : t < 51) : wI (knM M (C, F, w, sw) kb nb) 204 t (b1 v) = knM M (ub C t v, F, w, sw) kb nb := by
  refine mm_ext (fun i k => ?_) (fun _ _ => rfl) (fun _ _ => rfl) rfl
  rw [rI_wI, kn_I, kn_I]
  by_cases h1 : i = 204 ∧ k = t
  · obtain ⟨rfl, rfl⟩ := h1; simp [h, ub]
  · rw [if_neg h1]
    by_cases h2 : i = 204 ∧ k < 51
    · rw [if_pos h2, if_pos h2]
      show _ = b1 (ub C t v k)
      rw [ub_o (fun e => h1 ⟨h2.1, e⟩)]
    · rw [if_neg h2, if_neg h2]
theorem kw_7 {v : Bool} (h : t < 51) : wI (knM M (C, F, w, sw) kb nb) 207 t (b1 v) = knM M (C, F, ub w t v, sw) kb nb := by
  refine mm_ext (fun i k => ?_) (fun _ _ => rfl) (fun _ _ => rfl) rfl
  rw [rI_wI, kn_I, kn_I]
  by_cases h1 : i = 207 ∧ k = t
  · obtain ⟨rfl, rfl⟩ := h1; simp [h, ub]
  · rw [if_neg h1]
    by_cases h2 : i = 207 ∧ k < 51
    · obtain ⟨rfl, h2⟩ := h2
      have e : k ≠ t := fun e => h1 ⟨rfl, e⟩
      simp [h2, ub, e]
    · simp only [h2, if_false]
theorem kw_3 {v : Bool} : wI (knM M (C, F, w, sw) kb nb) 203 4 (b1 v) = knM M (C, F, w, v) kb nb := by
  refine mm_ext (fun i k => ?_) (fun _ _ => rfl) (fun _ _ => rfl) rfl
  rw [rI_wI, kn_I, kn_I]
  by_cases h1 : i = 203 ∧ k = 4
  · obtain ⟨rfl, rfl⟩ := h1; simp
  · simp only [h1, if_false]
theorem kw_8 {v : Int32} (h : r < 8) : wI (knM M s kb nb) 208 r v = knM M s (upd kb r v) nb := by
  refine mm_ext (fun i k => ?_) (fun _ _ => rfl) (fun _ _ => rfl) rfl
  rw [rI_wI, kn_I, kn_I]
  by_cases h1 : i = 208 ∧ k = r
  · obtain ⟨rfl, rfl⟩ := h1; simp [h, upd]
  · rw [if_neg h1]
    by_cases h2 : i = 208 ∧ k < 8
    · obtain ⟨rfl, h2⟩ := h2
      have e : k ≠ r := fun e => h1 ⟨rfl, e⟩
      simp [h2, upd, e]
    · simp only [h2, if_false]
theorem kw_9 {v : Int64} (h : r < 8) : wL (knM M s kb nb) 209 r v = knM M s kb (vp_updL nb r v) := by
  refine mm_ext (fun _ _ => rfl) (fun i k => ?_) (fun _ _ => rfl) rfl
  rw [rL_wL, kn_L, kn_L]
  by_cases h1 : i = 209 ∧ k = r
  · obtain ⟨rfl, rfl⟩ := h1; simp [h, vp_updL]
  · rw [if_neg h1]
    by_cases h2 : i = 209 ∧ k < 8
    · obtain ⟨rfl, h2⟩ := h2
      have e : k ≠ r := fun e => h1 ⟨rfl, e⟩
      simp [h2, vp_updL, e]
    · simp only [h2, if_false]
theorem kw_56 {v : Option Int64} (h : t < 51) (hj : j < 8) : wL (wI (knM M (C, F, w, sw) kb nb) 205 (t * 8 + j) (b1 v.isSome)) 206 (t * 8 + j) (v.getD 0) = knM M (C, updF F t j v, w, sw) kb nb := by
  refine mm_ext (fun i k => ?_) (fun i k => ?_) (fun _ _ => rfl) rfl
  · rw [rI_wL, rI_wI, kn_I, kn_I]
    by_cases h1 : i = 205 ∧ k = t * 8 + j
    · obtain ⟨rfl, rfl⟩ := h1
      rw [if_pos ⟨rfl, rfl⟩, if_neg (by omega), if_pos ⟨rfl, by omega⟩, show (t * 8 + j) / 8 = t by omega, show (t * 8 + j) % 8 = j by omega]
      simp [updF]
    · rw [if_neg h1]
      by_cases h2 : i = 205 ∧ k < 408
      · obtain ⟨rfl, h2⟩ := h2
        have e : ¬ (k / 8 = t ∧ k % 8 = j) := fun e => h1 ⟨rfl, by omega⟩
        have n4 : ¬ (205 = 204 ∧ k < 51) := by omega
        have n5 : (205 = 205 ∧ k < 408) := ⟨rfl, h2⟩
        simp only [n4, h2, true_and, if_true, if_false]
        show _ = b1 (updF F t j v (k / 8) (k % 8)).isSome
        unfold updF
        rw [if_neg e]
      · simp only [h2, if_false]
  · rw [rL_wL, rL_wI, kn_L, kn_L]
    by_cases h1 : i = 206 ∧ k = t * 8 + j
    · obtain ⟨rfl, rfl⟩ := h1
      rw [if_pos ⟨rfl, rfl⟩, if_pos ⟨rfl, by omega⟩, show (t * 8 + j) / 8 = t by omega, show (t * 8 + j) % 8 = j by omega]
      simp [updF]
    · rw [if_neg h1]
      by_cases h2 : i = 206 ∧ k < 408
      · obtain ⟨rfl, h2⟩ := h2
        have e : ¬ (k / 8 = t ∧ k % 8 = j) := fun e => h1 ⟨rfl, by omega⟩
        have n5 : (206 = 206 ∧ k < 408) := ⟨rfl, h2⟩
        simp only [h2, true_and, if_true]
        show _ = (updF F t j v (k / 8) (k % 8)).getD 0
        unfold updF
        rw [if_neg e]
      · simp only [h2, if_false]
theorem kn_cong (h1 : ∀ r, r < 8 → kb r = kb2 r) (h2 : ∀ r, r < 8 → nb r = nb2 r) : knM M s kb nb = knM M s kb2 nb2 := by
  refine mm_ext (fun i k => ?_) (fun i k => ?_) (fun _ _ => rfl) rfl
  · rw [kn_I, kn_I]
    by_cases h : i = 208 ∧ k < 8
    · simp only [h1 k h.2]
    · simp only [h, if_false]
  · rw [kn_L, kn_L]
    by_cases h : i = 209 ∧ k < 8
    · simp only [h2 k h.2]
    · simp only [h, if_false]
theorem c_Knowledge_isKnown (h : p < 51) (hr : r < 8) : mj_V d lim mq_Knowledge_isKnown 0 [.ref 203, .int (nI p), .int (nI r)] [] (hp (knM M s kb nb)) Q ↔ Q (some (.int (b1 (s.2.1 p r).isSome))) (hp (knM M s kb nb)) := by
  simp (disch := omega) only [zi_Knowledge_isKnown_0, zi_Knowledge_isKnown_1, zi_Knowledge_isKnown_4, zi_Knowledge_isKnown_5, zi_Knowledge_isKnown_7, zi_Knowledge_isKnown_8, zi_Knowledge_isKnown_9, zi_Knowledge_isKnown_10, zi_Knowledge_isKnown_11, ↓reduceIte, mj_op_s, Option.toList_some, Option.toList_none, List.cons_append, List.nil_append, hp_1, hp_2, true_and, and_true, zb_0, zb_1, zb_b, va_rf, io_203, ↓ogf_203_0, ↓ogf_203_1, ↓ogf_203_2, ↓ogf_203_3, ↓ogf_203_4, ↓opf_203_4_0, ↓opf_203_4_1, ↓ogf_203_5, ↓ogf_203_6, ↓oaz_205, ↓owz_205, pk_mul, nI_add, kn_5 h hr, zb_b1]
theorem c_Knowledge_numberIn (h : p < 51) (hr : r < 8) : mj_V d lim mq_Knowledge_numberIn 0 [.ref 203, .int (nI p), .int (nI r)] [] (hp (knM M s kb nb)) Q ↔ Q (some (.long ((s.2.1 p r).getD 0))) (hp (knM M s kb nb)) := by
  simp (disch := omega) only [zi_Knowledge_numberIn_0, zi_Knowledge_numberIn_1, zi_Knowledge_numberIn_4, zi_Knowledge_numberIn_5, zi_Knowledge_numberIn_7, zi_Knowledge_numberIn_8, zi_Knowledge_numberIn_9, zi_Knowledge_numberIn_10, zi_Knowledge_numberIn_11, ↓reduceIte, mj_op_s, Option.toList_some, Option.toList_none, List.cons_append, List.nil_append, hp_1, hp_2, true_and, and_true, zb_0, zb_1, zb_b, va_rf, io_203, ↓ogf_203_0, ↓ogf_203_1, ↓ogf_203_2, ↓ogf_203_3, ↓ogf_203_4, ↓opf_203_4_0, ↓opf_203_4_1, ↓ogf_203_5, ↓ogf_203_6, ↓oal_206, ↓owl_206, pk_mul, nI_add, kn_6 h hr]
theorem c_Knowledge_isKnownAsZero (h : p < 51) (hr : r < 8) : mj_V d lim mq_Knowledge_isKnownAsZero 0 [.ref 203, .int (nI p), .int (nI r), mj_j] [] (hp (knM M s kb nb)) Q ↔ Q (some (.int (b1 (decide (s.2.1 p r = some 0))))) (hp (knM M s kb nb)) := by
  simp (disch := omega) only [zi_Knowledge_isKnownAsZero_0, zi_Knowledge_isKnownAsZero_1, zi_Knowledge_isKnownAsZero_3, zi_Knowledge_isKnownAsZero_4, zi_Knowledge_isKnownAsZero_5, zi_Knowledge_isKnownAsZero_6, zi_Knowledge_isKnownAsZero_7, zi_Knowledge_isKnownAsZero_8, zi_Knowledge_isKnownAsZero_11, zi_Knowledge_isKnownAsZero_12, zi_Knowledge_isKnownAsZero_13, zi_Knowledge_isKnownAsZero_16, zi_Knowledge_isKnownAsZero_17, zi_Knowledge_isKnownAsZero_20, zi_Knowledge_isKnownAsZero_21, zi_Knowledge_isKnownAsZero_22, zi_Knowledge_isKnownAsZero_23, zi_Knowledge_isKnownAsZero_24, zi_Knowledge_isKnownAsZero_27, zi_Knowledge_isKnownAsZero_28, zi_Knowledge_isKnownAsZero_31, zi_Knowledge_isKnownAsZero_32, ↓reduceIte, mj_op_s, Option.toList_some, Option.toList_none, List.cons_append, List.nil_append, hp_1, hp_2, true_and, and_true, zb_0, zb_1, zb_b, va_rf, io_203, ↓ogf_203_0, ↓ogf_203_1, ↓ogf_203_2, ↓ogf_203_3, ↓ogf_203_4, ↓opf_203_4_0, ↓opf_203_4_1, ↓ogf_203_5, ↓ogf_203_6, ↓oaz_205, ↓owz_205, ↓oal_206, ↓owl_206, pk_mul, nI_add, kn_5 h hr, kn_6 h hr, lgc_eq]
  cases s.2.1 p r with
  | none =>
    simp (decide := true) only [Option.isSome_none, b1_f, if_true, if_false]
    simp [b1]
  | some v =>
    simp (decide := true) only [Option.isSome_some, b1_t, if_true, if_false, Option.getD_some]
    by_cases c : v = 0
    · subst c; simp [b1]
    · simp [c, b1]
theorem l_keepAhead (h : p < 51) : ∀ (n j : Nat), j + n = 8 → (mj_V (d + 1) lim mq_Knowledge_keepAhead 2 [.ref 203, .int (nI p), .int (nI j)] [] (hp (knM M s (fun r => if r < j then b1 (s.2.1 p r).isSome else kb r) (fun r => if r < j then (s.2.1 p r).getD 0 else nb r))) Q ↔ Q none (hp (knM M s (fun r => b1 (s.2.1 p r).isSome) (fun r => (s.2.1 p r).getD 0)))) := by
  intro n
  induction n with
  | zero =>
    intro j hj
    obtain rfl : j = 8 := by omega
    rw [zi_Knowledge_keepAhead_2]
    simp (decide := true) only [zi_Knowledge_keepAhead_3, zi_Knowledge_keepAhead_5, zi_Knowledge_keepAhead_8, zi_Knowledge_keepAhead_9, zi_Knowledge_keepAhead_12, zi_Knowledge_keepAhead_13, zi_Knowledge_keepAhead_14, zi_Knowledge_keepAhead_15, zi_Knowledge_keepAhead_16, zi_Knowledge_keepAhead_19, zi_Knowledge_keepAhead_20, zi_Knowledge_keepAhead_21, zi_Knowledge_keepAhead_24, zi_Knowledge_keepAhead_25, zi_Knowledge_keepAhead_26, zi_Knowledge_keepAhead_27, zi_Knowledge_keepAhead_28, zi_Knowledge_keepAhead_31, zi_Knowledge_keepAhead_32, zi_Knowledge_keepAhead_35, zi_Knowledge_keepAhead_38, ↓reduceIte, mj_op_s, Option.toList_some, Option.toList_none, List.cons_append, List.nil_append, hp_1, hp_2, true_and, and_true, zb_0, zb_1, zb_b, va_rf]
    rw [kn_cong (fun r hr => if_pos hr) (fun r hr => if_pos hr)]
  | succ n ih =>
    intro j hj
    have hj8 : j < 8 := by omega
    have e1 : nI j < nI 8 := nI_lt (by omega) (by omega)
    rw [zi_Knowledge_keepAhead_2]
    simp (disch := omega) only [zi_Knowledge_keepAhead_3, zi_Knowledge_keepAhead_5, zi_Knowledge_keepAhead_8, zi_Knowledge_keepAhead_9, zi_Knowledge_keepAhead_12, zi_Knowledge_keepAhead_13, zi_Knowledge_keepAhead_14, zi_Knowledge_keepAhead_15, zi_Knowledge_keepAhead_16, zi_Knowledge_keepAhead_19, zi_Knowledge_keepAhead_20, zi_Knowledge_keepAhead_21, zi_Knowledge_keepAhead_24, zi_Knowledge_keepAhead_25, zi_Knowledge_keepAhead_26, zi_Knowledge_keepAhead_27, zi_Knowledge_keepAhead_28, zi_Knowledge_keepAhead_31, zi_Knowledge_keepAhead_32, zi_Knowledge_keepAhead_35, ↓reduceIte, mj_op_s, Option.toList_some, Option.toList_none, List.cons_append, List.nil_append, hp_1, hp_2, true_and, and_true, zb_0, zb_1, zb_b, va_rf, io_203, ↓ogf_203_0, ↓ogf_203_1, ↓ogf_203_2, ↓ogf_203_3, ↓ogf_203_4, ↓opf_203_4_0, ↓opf_203_4_1, ↓ogf_203_5, ↓ogf_203_6, ↓oaz_208, ↓owz_208, ↓oal_209, ↓owl_209, c_Knowledge_isKnown, c_Knowledge_numberIn, e1, nI_add, zv_b1, kw_8 hj8, kw_9 hj8]
    rw [← ih (j + 1) (by omega)]
    have e2 : upd (fun r => if r < j then b1 (s.2.1 p r).isSome else kb r) j (b1 (s.2.1 p j).isSome) = (fun r => if r < j + 1 then b1 (s.2.1 p r).isSome else kb r) := by
      funext r
      unfold upd
      by_cases c : r = j
      · subst c; simp
      · simp only [c, if_false]
        by_cases c2 : r < j
        · rw [if_pos c2, if_pos (by omega)]
        · rw [if_neg c2, if_neg (by omega)]
    have e3 : vp_updL (fun r => if r < j then (s.2.1 p r).getD 0 else nb r) j ((s.2.1 p j).getD 0) = (fun r => if r < j + 1 then (s.2.1 p r).getD 0 else nb r) := by
      funext r
      unfold vp_updL
      by_cases c : r = j
      · subst c; simp
      · simp only [c, if_false]
        by_cases c2 : r < j
        · rw [if_pos c2, if_pos (by omega)]
        · rw [if_neg c2, if_neg (by omega)]
    rw [e2, e3]
theorem c_Knowledge_keepAhead (h : p < 51) : mj_V (d + 1) lim mq_Knowledge_keepAhead 0 [.ref 203, .int (nI p), mj_j] [] (hp (knM M s kb nb)) Q ↔ Q none (hp (knM M s (fun r => b1 (s.2.1 p r).isSome) (fun r => (s.2.1 p r).getD 0))) := by
  rw [← l_keepAhead (M := M) (s := s) (d := d) (lim := lim) (Q := Q) (kb := kb) (nb := nb) h 8 0 (by omega)]
  simp only [zi_Knowledge_keepAhead_0, zi_Knowledge_keepAhead_1, ↓reduceIte, mj_op_s, Option.toList_some, Option.toList_none, List.cons_append, List.nil_append, hp_1, hp_2, true_and, and_true, zb_0, zb_1, zb_b, va_rf]
  simp only [Nat.not_lt_zero, if_false]
theorem arF_s0 (h : (if C t = true then jn (F t j) (b j) else b j) = F t j) : arF C F t b (j + 1) = arF C F t b j := by
  funext q r
  unfold arF
  by_cases c : q = t ∧ r = j
  · obtain ⟨rfl, rfl⟩ := c
    have k1 : (q = q ∧ r < r + 1) := ⟨rfl, by omega⟩
    have k2 : ¬ (q = q ∧ r < r) := by omega
    rw [if_pos k1, if_neg k2, h]
  · by_cases c2 : q = t ∧ r < j
    · have k3 : q = t ∧ r < j + 1 := ⟨c2.1, by omega⟩
      rw [if_pos c2, if_pos k3]
    · rw [if_neg c2, if_neg (by omega)]
theorem arF_s1 {v : Option Int64} (h : (if C t = true then jn (F t j) (b j) else b j) = v) : updF (arF C F t b j) t j v = arF C F t b (j + 1) := by
  funext q r
  unfold updF arF
  by_cases c : q = t ∧ r = j
  · obtain ⟨rfl, rfl⟩ := c
    have k1 : (q = q ∧ r < r + 1) := ⟨rfl, by omega⟩
    rw [if_pos ⟨rfl, rfl⟩, if_pos k1, h]
  · rw [if_neg c]
    by_cases c2 : q = t ∧ r < j
    · have k3 : q = t ∧ r < j + 1 := ⟨c2.1, by omega⟩
      rw [if_pos c2, if_pos k3]
    · rw [if_neg c2, if_neg (by omega)]
theorem arF_00 : arF C F t b 0 = F := by
  funext q r
  unfold arF
  rw [if_neg (by omega)]
theorem kw_n {v : Option Int64} (h : t < 51) (hj : j < 8) (hv : v = none) : wL (wI (knM M (C, F, w, sw) kb nb) 205 (t * 8 + j) (nI 0)) 206 (t * 8 + j) 0 = knM M (C, updF F t j v, w, sw) kb nb := by
  subst hv
  exact kw_56 (v := none) h hj
theorem kw_41 (h : t < 51) : wI (knM M (C, F, w, sw) kb nb) 204 t (nI 1) = knM M (ub C t true, F, w, sw) kb nb := kw_4 (v := true) h
theorem kw_71 (h : t < 51) : wI (knM M (C, F, w, sw) kb nb) 207 t (nI 1) = knM M (C, F, ub w t true, sw) kb nb := kw_7 (v := true) h
theorem kw_70 (h : t < 51) : wI (knM M (C, F, w, sw) kb nb) 207 t (nI 0) = knM M (C, F, ub w t false, sw) kb nb := kw_7 (v := false) h
theorem kw_31 : wI (knM M (C, F, w, sw) kb nb) 203 4 (nI 1) = knM M (C, F, w, true) kb nb := kw_3 (v := true)
theorem kw_30 : wI (knM M (C, F, w, sw) kb nb) 203 4 (nI 0) = knM M (C, F, w, false) kb nb := kw_3 (v := false)
theorem l_arrive (hb : ∀ r, r < 8 → kb r = b1 (b r).isSome ∧ nb r = (b r).getD 0) (ht : t < 51) : ∀ (n j : Nat), j + n = 8 → ∀ x5 : Value, (mj_V d lim mq_Knowledge_arrive 20 [.ref 203, .int (nI t), .int (b1 (!C t)), .int (b1 (!C t || chB F t b j)), .int (nI j), x5] [] (hp (knM M (C, arF C F t b j, w, sw) kb nb)) Q ↔ Q none (hp (knM M (arr (C, F, w, sw) t b) kb nb))) := by
  intro n
  induction n with
  | zero =>
    intro j hj x5
    obtain rfl : j = 8 := by omega
    rw [zi_Knowledge_arrive_20]
    have e : arc (C, F, w, sw) t b = (!C t || chB F t b 8) := rfl
    unfold arr
    rw [e]
    show _ ↔ Q none (hp (knM M (ub C t true, arF C F t b 8, (if (!C t || chB F t b 8) = true then ub w t true else w), sw || (!C t || chB F t b 8)) kb nb))
    generalize (!C t || chB F t b 8) = cc
    cases cc with
    | false => simp (decide := true) (disch := omega) only [zi_Knowledge_arrive_22, zi_Knowledge_arrive_24, zi_Knowledge_arrive_27, zi_Knowledge_arrive_28, zi_Knowledge_arrive_30, zi_Knowledge_arrive_31, zi_Knowledge_arrive_33, zi_Knowledge_arrive_34, zi_Knowledge_arrive_36, zi_Knowledge_arrive_37, zi_Knowledge_arrive_40, zi_Knowledge_arrive_41, zi_Knowledge_arrive_44, zi_Knowledge_arrive_46, zi_Knowledge_arrive_47, zi_Knowledge_arrive_50, zi_Knowledge_arrive_52, zi_Knowledge_arrive_53, zi_Knowledge_arrive_54, zi_Knowledge_arrive_55, zi_Knowledge_arrive_58, zi_Knowledge_arrive_60, zi_Knowledge_arrive_61, zi_Knowledge_arrive_64, zi_Knowledge_arrive_66, zi_Knowledge_arrive_67, zi_Knowledge_arrive_68, zi_Knowledge_arrive_71, zi_Knowledge_arrive_72, zi_Knowledge_arrive_75, zi_Knowledge_arrive_77, zi_Knowledge_arrive_78, zi_Knowledge_arrive_81, zi_Knowledge_arrive_82, zi_Knowledge_arrive_85, zi_Knowledge_arrive_87, zi_Knowledge_arrive_88, zi_Knowledge_arrive_91, zi_Knowledge_arrive_92, zi_Knowledge_arrive_95, zi_Knowledge_arrive_97, zi_Knowledge_arrive_98, zi_Knowledge_arrive_99, zi_Knowledge_arrive_102, zi_Knowledge_arrive_104, zi_Knowledge_arrive_105, zi_Knowledge_arrive_106, zi_Knowledge_arrive_109, zi_Knowledge_arrive_110, zi_Knowledge_arrive_113, zi_Knowledge_arrive_115, zi_Knowledge_arrive_116, zi_Knowledge_arrive_117, zi_Knowledge_arrive_118, zi_Knowledge_arrive_121, zi_Knowledge_arrive_123, zi_Knowledge_arrive_124, zi_Knowledge_arrive_125, zi_Knowledge_arrive_126, zi_Knowledge_arrive_127, zi_Knowledge_arrive_130, zi_Knowledge_arrive_133, zi_Knowledge_arrive_134, zi_Knowledge_arrive_137, zi_Knowledge_arrive_138, zi_Knowledge_arrive_139, zi_Knowledge_arrive_140, zi_Knowledge_arrive_141, zi_Knowledge_arrive_144, zi_Knowledge_arrive_145, zi_Knowledge_arrive_148, zi_Knowledge_arrive_149, zi_Knowledge_arrive_150, zi_Knowledge_arrive_151, zi_Knowledge_arrive_152, zi_Knowledge_arrive_153, zi_Knowledge_arrive_156, ↓reduceIte, mj_op_s, Option.toList_some, Option.toList_none, List.cons_append, List.nil_append, hp_1, hp_2, true_and, and_true, zb_0, zb_1, zb_b, va_rf, io_203, ↓ogf_203_0, ↓ogf_203_1, ↓ogf_203_2, ↓ogf_203_3, ↓ogf_203_4, ↓opf_203_4_0, ↓opf_203_4_1, ↓ogf_203_5, ↓ogf_203_6, ↓oaz_204, ↓owz_204, ↓oaz_207, ↓owz_207, zv_1, kw_41, b1_f, Bool.or_false, Bool.false_eq_true]
    | true => simp (decide := true) (disch := omega) only [zi_Knowledge_arrive_22, zi_Knowledge_arrive_24, zi_Knowledge_arrive_27, zi_Knowledge_arrive_28, zi_Knowledge_arrive_30, zi_Knowledge_arrive_31, zi_Knowledge_arrive_33, zi_Knowledge_arrive_34, zi_Knowledge_arrive_36, zi_Knowledge_arrive_37, zi_Knowledge_arrive_40, zi_Knowledge_arrive_41, zi_Knowledge_arrive_44, zi_Knowledge_arrive_46, zi_Knowledge_arrive_47, zi_Knowledge_arrive_50, zi_Knowledge_arrive_52, zi_Knowledge_arrive_53, zi_Knowledge_arrive_54, zi_Knowledge_arrive_55, zi_Knowledge_arrive_58, zi_Knowledge_arrive_60, zi_Knowledge_arrive_61, zi_Knowledge_arrive_64, zi_Knowledge_arrive_66, zi_Knowledge_arrive_67, zi_Knowledge_arrive_68, zi_Knowledge_arrive_71, zi_Knowledge_arrive_72, zi_Knowledge_arrive_75, zi_Knowledge_arrive_77, zi_Knowledge_arrive_78, zi_Knowledge_arrive_81, zi_Knowledge_arrive_82, zi_Knowledge_arrive_85, zi_Knowledge_arrive_87, zi_Knowledge_arrive_88, zi_Knowledge_arrive_91, zi_Knowledge_arrive_92, zi_Knowledge_arrive_95, zi_Knowledge_arrive_97, zi_Knowledge_arrive_98, zi_Knowledge_arrive_99, zi_Knowledge_arrive_102, zi_Knowledge_arrive_104, zi_Knowledge_arrive_105, zi_Knowledge_arrive_106, zi_Knowledge_arrive_109, zi_Knowledge_arrive_110, zi_Knowledge_arrive_113, zi_Knowledge_arrive_115, zi_Knowledge_arrive_116, zi_Knowledge_arrive_117, zi_Knowledge_arrive_118, zi_Knowledge_arrive_121, zi_Knowledge_arrive_123, zi_Knowledge_arrive_124, zi_Knowledge_arrive_125, zi_Knowledge_arrive_126, zi_Knowledge_arrive_127, zi_Knowledge_arrive_130, zi_Knowledge_arrive_133, zi_Knowledge_arrive_134, zi_Knowledge_arrive_137, zi_Knowledge_arrive_138, zi_Knowledge_arrive_139, zi_Knowledge_arrive_140, zi_Knowledge_arrive_141, zi_Knowledge_arrive_144, zi_Knowledge_arrive_145, zi_Knowledge_arrive_148, zi_Knowledge_arrive_149, zi_Knowledge_arrive_150, zi_Knowledge_arrive_151, zi_Knowledge_arrive_152, zi_Knowledge_arrive_153, zi_Knowledge_arrive_156, ↓reduceIte, mj_op_s, Option.toList_some, Option.toList_none, List.cons_append, List.nil_append, hp_1, hp_2, true_and, and_true, zb_0, zb_1, zb_b, va_rf, io_203, ↓ogf_203_0, ↓ogf_203_1, ↓ogf_203_2, ↓ogf_203_3, ↓ogf_203_4, ↓opf_203_4_0, ↓opf_203_4_1, ↓ogf_203_5, ↓ogf_203_6, ↓oaz_204, ↓owz_204, ↓oaz_207, ↓owz_207, zv_1, kw_41, kw_71, kw_31, b1_t, Bool.or_true, if_true]
  | succ n ih =>
    intro j hj x5
    have hj8 : j < 8 := by omega
    have e1 : nI j < nI 8 := nI_lt (by omega) (by omega)
    obtain ⟨hb1, hb2⟩ := hb j hj8
    have eF : arF C F t b j t j = F t j := if_neg (by omega)
    have r5 := kn_5 (M := M) (s := (C, arF C F t b j, w, sw)) (kb := kb) (nb := nb) ht hj8
    have r6 := kn_6 (M := M) (s := (C, arF C F t b j, w, sw)) (kb := kb) (nb := nb) ht hj8
    have r8 := kn_8 (M := M) (s := (C, arF C F t b j, w, sw)) (kb := kb) (nb := nb) hj8
    have r9 := kn_9 (M := M) (s := (C, arF C F t b j, w, sw)) (kb := kb) (nb := nb) hj8
    rw [hb1] at r8
    rw [hb2] at r9
    simp only [eF] at r5 r6
    have IH := fun y5 => ih (j + 1) (by omega) y5
    rw [show chB F t b (j + 1) = (chB F t b j || ((F t j).isSome && decide (¬ F t j = b j))) from rfl] at IH
    rw [zi_Knowledge_arrive_20]
    cases hC : C t with
    | false =>
      rw [hC] at IH
      simp only [Bool.not_false, Bool.true_or] at IH
      simp (decide := true) (disch := omega) only [zi_Knowledge_arrive_22, zi_Knowledge_arrive_24, zi_Knowledge_arrive_27, zi_Knowledge_arrive_28, zi_Knowledge_arrive_30, zi_Knowledge_arrive_31, zi_Knowledge_arrive_33, zi_Knowledge_arrive_34, zi_Knowledge_arrive_36, zi_Knowledge_arrive_37, zi_Knowledge_arrive_40, zi_Knowledge_arrive_41, zi_Knowledge_arrive_44, zi_Knowledge_arrive_46, zi_Knowledge_arrive_47, zi_Knowledge_arrive_50, zi_Knowledge_arrive_52, zi_Knowledge_arrive_53, zi_Knowledge_arrive_54, zi_Knowledge_arrive_55, zi_Knowledge_arrive_58, zi_Knowledge_arrive_60, zi_Knowledge_arrive_61, zi_Knowledge_arrive_64, zi_Knowledge_arrive_66, zi_Knowledge_arrive_67, zi_Knowledge_arrive_68, zi_Knowledge_arrive_71, zi_Knowledge_arrive_72, zi_Knowledge_arrive_75, zi_Knowledge_arrive_77, zi_Knowledge_arrive_78, zi_Knowledge_arrive_81, zi_Knowledge_arrive_82, zi_Knowledge_arrive_85, zi_Knowledge_arrive_87, zi_Knowledge_arrive_88, zi_Knowledge_arrive_91, zi_Knowledge_arrive_92, zi_Knowledge_arrive_95, zi_Knowledge_arrive_97, zi_Knowledge_arrive_98, zi_Knowledge_arrive_99, zi_Knowledge_arrive_102, zi_Knowledge_arrive_104, zi_Knowledge_arrive_105, zi_Knowledge_arrive_106, zi_Knowledge_arrive_109, zi_Knowledge_arrive_110, zi_Knowledge_arrive_113, zi_Knowledge_arrive_115, zi_Knowledge_arrive_116, zi_Knowledge_arrive_117, zi_Knowledge_arrive_118, zi_Knowledge_arrive_121, zi_Knowledge_arrive_123, zi_Knowledge_arrive_124, zi_Knowledge_arrive_125, zi_Knowledge_arrive_126, zi_Knowledge_arrive_127, zi_Knowledge_arrive_130, ↓reduceIte, mj_op_s, Option.toList_some, Option.toList_none, List.cons_append, List.nil_append, hp_1, hp_2, true_and, and_true, zb_0, zb_1, zb_b, va_rf, io_203, ↓ogf_203_0, ↓ogf_203_1, ↓ogf_203_2, ↓ogf_203_3, ↓ogf_203_4, ↓opf_203_4_0, ↓opf_203_4_1, ↓ogf_203_5, ↓ogf_203_6, ↓oaz_205, ↓owz_205, ↓oal_206, ↓owl_206, ↓oaz_208, ↓owz_208, ↓oal_209, ↓owl_209, pk_mul, nI_add, e1, Bool.not_false, Bool.true_or, b1_t, rL_wI, r8, r9, zv_b1, kw_56 ht hj8]
      rw [arF_s1 (by rw [hC]; simp)]
      exact IH _
    | true =>
      rw [hC] at IH
      simp only [Bool.not_true, Bool.false_or] at IH
      cases hF : F t j with
      | none =>
        rw [hF] at r5 r6 IH
        simp (decide := true) (disch := omega) only [zi_Knowledge_arrive_22, zi_Knowledge_arrive_24, zi_Knowledge_arrive_27, zi_Knowledge_arrive_28, zi_Knowledge_arrive_30, zi_Knowledge_arrive_31, zi_Knowledge_arrive_33, zi_Knowledge_arrive_34, zi_Knowledge_arrive_36, zi_Knowledge_arrive_37, zi_Knowledge_arrive_40, zi_Knowledge_arrive_41, zi_Knowledge_arrive_44, zi_Knowledge_arrive_46, zi_Knowledge_arrive_47, zi_Knowledge_arrive_50, zi_Knowledge_arrive_52, zi_Knowledge_arrive_53, zi_Knowledge_arrive_54, zi_Knowledge_arrive_55, zi_Knowledge_arrive_58, zi_Knowledge_arrive_60, zi_Knowledge_arrive_61, zi_Knowledge_arrive_64, zi_Knowledge_arrive_66, zi_Knowledge_arrive_67, zi_Knowledge_arrive_68, zi_Knowledge_arrive_71, zi_Knowledge_arrive_72, zi_Knowledge_arrive_75, zi_Knowledge_arrive_77, zi_Knowledge_arrive_78, zi_Knowledge_arrive_81, zi_Knowledge_arrive_82, zi_Knowledge_arrive_85, zi_Knowledge_arrive_87, zi_Knowledge_arrive_88, zi_Knowledge_arrive_91, zi_Knowledge_arrive_92, zi_Knowledge_arrive_95, zi_Knowledge_arrive_97, zi_Knowledge_arrive_98, zi_Knowledge_arrive_99, zi_Knowledge_arrive_102, zi_Knowledge_arrive_104, zi_Knowledge_arrive_105, zi_Knowledge_arrive_106, zi_Knowledge_arrive_109, zi_Knowledge_arrive_110, zi_Knowledge_arrive_113, zi_Knowledge_arrive_115, zi_Knowledge_arrive_116, zi_Knowledge_arrive_117, zi_Knowledge_arrive_118, zi_Knowledge_arrive_121, zi_Knowledge_arrive_123, zi_Knowledge_arrive_124, zi_Knowledge_arrive_125, zi_Knowledge_arrive_126, zi_Knowledge_arrive_127, zi_Knowledge_arrive_130, ↓reduceIte, mj_op_s, Option.toList_some, Option.toList_none, List.cons_append, List.nil_append, hp_1, hp_2, true_and, and_true, zb_0, zb_1, zb_b, va_rf, io_203, ↓ogf_203_0, ↓ogf_203_1, ↓ogf_203_2, ↓ogf_203_3, ↓ogf_203_4, ↓opf_203_4_0, ↓opf_203_4_1, ↓ogf_203_5, ↓ogf_203_6, ↓oaz_205, ↓owz_205, ↓oal_206, ↓owl_206, ↓oaz_208, ↓owz_208, ↓oal_209, ↓owl_209, pk_mul, nI_add, e1, Bool.not_true, Bool.false_or, b1_f, r5, Option.isSome_none]
        rw [arF_s0 (by rw [hC, hF]; unfold jn; simp)] at IH
        simp only [Option.isSome_none, Bool.false_and, Bool.or_false] at IH
        exact IH _
      | some v =>
        rw [hF] at r5 r6 IH
        cases hB : b j with
        | none =>
          rw [hB] at r8 r9 IH
          simp (decide := true) (disch := omega) only [zi_Knowledge_arrive_22, zi_Knowledge_arrive_24, zi_Knowledge_arrive_27, zi_Knowledge_arrive_28, zi_Knowledge_arrive_30, zi_Knowledge_arrive_31, zi_Knowledge_arrive_33, zi_Knowledge_arrive_34, zi_Knowledge_arrive_36, zi_Knowledge_arrive_37, zi_Knowledge_arrive_40, zi_Knowledge_arrive_41, zi_Knowledge_arrive_44, zi_Knowledge_arrive_46, zi_Knowledge_arrive_47, zi_Knowledge_arrive_50, zi_Knowledge_arrive_52, zi_Knowledge_arrive_53, zi_Knowledge_arrive_54, zi_Knowledge_arrive_55, zi_Knowledge_arrive_58, zi_Knowledge_arrive_60, zi_Knowledge_arrive_61, zi_Knowledge_arrive_64, zi_Knowledge_arrive_66, zi_Knowledge_arrive_67, zi_Knowledge_arrive_68, zi_Knowledge_arrive_71, zi_Knowledge_arrive_72, zi_Knowledge_arrive_75, zi_Knowledge_arrive_77, zi_Knowledge_arrive_78, zi_Knowledge_arrive_81, zi_Knowledge_arrive_82, zi_Knowledge_arrive_85, zi_Knowledge_arrive_87, zi_Knowledge_arrive_88, zi_Knowledge_arrive_91, zi_Knowledge_arrive_92, zi_Knowledge_arrive_95, zi_Knowledge_arrive_97, zi_Knowledge_arrive_98, zi_Knowledge_arrive_99, zi_Knowledge_arrive_102, zi_Knowledge_arrive_104, zi_Knowledge_arrive_105, zi_Knowledge_arrive_106, zi_Knowledge_arrive_109, zi_Knowledge_arrive_110, zi_Knowledge_arrive_113, zi_Knowledge_arrive_115, zi_Knowledge_arrive_116, zi_Knowledge_arrive_117, zi_Knowledge_arrive_118, zi_Knowledge_arrive_121, zi_Knowledge_arrive_123, zi_Knowledge_arrive_124, zi_Knowledge_arrive_125, zi_Knowledge_arrive_126, zi_Knowledge_arrive_127, zi_Knowledge_arrive_130, ↓reduceIte, mj_op_s, Option.toList_some, Option.toList_none, List.cons_append, List.nil_append, hp_1, hp_2, true_and, and_true, zb_0, zb_1, zb_b, va_rf, io_203, ↓ogf_203_0, ↓ogf_203_1, ↓ogf_203_2, ↓ogf_203_3, ↓ogf_203_4, ↓opf_203_4_0, ↓opf_203_4_1, ↓ogf_203_5, ↓ogf_203_6, ↓oaz_205, ↓owz_205, ↓oal_206, ↓owl_206, ↓oaz_208, ↓owz_208, ↓oal_209, ↓owl_209, pk_mul, nI_add, e1, Bool.not_true, Bool.false_or, b1_f, b1_t, r5, r8, Option.isSome_some, Option.isSome_none, zv_0, kw_n ht hj8 rfl]
          rw [arF_s1 (by rw [hC, hF, hB]; unfold jn; simp)]
          simp only [Option.isSome_some, reduceCtorEq, not_false_eq_true, decide_true, Bool.true_and, Bool.or_true, b1_t] at IH
          exact IH _
        | some u =>
          rw [hB] at r8 r9 IH
          by_cases c : u = v
          · subst c
            simp (decide := true) (disch := omega) only [zi_Knowledge_arrive_22, zi_Knowledge_arrive_24, zi_Knowledge_arrive_27, zi_Knowledge_arrive_28, zi_Knowledge_arrive_30, zi_Knowledge_arrive_31, zi_Knowledge_arrive_33, zi_Knowledge_arrive_34, zi_Knowledge_arrive_36, zi_Knowledge_arrive_37, zi_Knowledge_arrive_40, zi_Knowledge_arrive_41, zi_Knowledge_arrive_44, zi_Knowledge_arrive_46, zi_Knowledge_arrive_47, zi_Knowledge_arrive_50, zi_Knowledge_arrive_52, zi_Knowledge_arrive_53, zi_Knowledge_arrive_54, zi_Knowledge_arrive_55, zi_Knowledge_arrive_58, zi_Knowledge_arrive_60, zi_Knowledge_arrive_61, zi_Knowledge_arrive_64, zi_Knowledge_arrive_66, zi_Knowledge_arrive_67, zi_Knowledge_arrive_68, zi_Knowledge_arrive_71, zi_Knowledge_arrive_72, zi_Knowledge_arrive_75, zi_Knowledge_arrive_77, zi_Knowledge_arrive_78, zi_Knowledge_arrive_81, zi_Knowledge_arrive_82, zi_Knowledge_arrive_85, zi_Knowledge_arrive_87, zi_Knowledge_arrive_88, zi_Knowledge_arrive_91, zi_Knowledge_arrive_92, zi_Knowledge_arrive_95, zi_Knowledge_arrive_97, zi_Knowledge_arrive_98, zi_Knowledge_arrive_99, zi_Knowledge_arrive_102, zi_Knowledge_arrive_104, zi_Knowledge_arrive_105, zi_Knowledge_arrive_106, zi_Knowledge_arrive_109, zi_Knowledge_arrive_110, zi_Knowledge_arrive_113, zi_Knowledge_arrive_115, zi_Knowledge_arrive_116, zi_Knowledge_arrive_117, zi_Knowledge_arrive_118, zi_Knowledge_arrive_121, zi_Knowledge_arrive_123, zi_Knowledge_arrive_124, zi_Knowledge_arrive_125, zi_Knowledge_arrive_126, zi_Knowledge_arrive_127, zi_Knowledge_arrive_130, ↓reduceIte, mj_op_s, Option.toList_some, Option.toList_none, List.cons_append, List.nil_append, hp_1, hp_2, true_and, and_true, zb_0, zb_1, zb_b, va_rf, io_203, ↓ogf_203_0, ↓ogf_203_1, ↓ogf_203_2, ↓ogf_203_3, ↓ogf_203_4, ↓opf_203_4_0, ↓opf_203_4_1, ↓ogf_203_5, ↓ogf_203_6, ↓oaz_205, ↓owz_205, ↓oal_206, ↓owl_206, ↓oaz_208, ↓owz_208, ↓oal_209, ↓owl_209, pk_mul, nI_add, e1, Bool.not_true, Bool.false_or, b1_f, b1_t, r5, r6, r8, r9, Option.isSome_some, Option.getD_some, lgc_eq]
            rw [arF_s0 (by rw [hC, hF, hB]; unfold jn; simp)] at IH
            simp only [Option.isSome_some, not_true_eq_false, decide_false, Bool.and_false, Bool.or_false] at IH
            exact IH _
          · have c2 : ¬ v = u := fun e => c e.symm
            simp (decide := true) (disch := omega) only [zi_Knowledge_arrive_22, zi_Knowledge_arrive_24, zi_Knowledge_arrive_27, zi_Knowledge_arrive_28, zi_Knowledge_arrive_30, zi_Knowledge_arrive_31, zi_Knowledge_arrive_33, zi_Knowledge_arrive_34, zi_Knowledge_arrive_36, zi_Knowledge_arrive_37, zi_Knowledge_arrive_40, zi_Knowledge_arrive_41, zi_Knowledge_arrive_44, zi_Knowledge_arrive_46, zi_Knowledge_arrive_47, zi_Knowledge_arrive_50, zi_Knowledge_arrive_52, zi_Knowledge_arrive_53, zi_Knowledge_arrive_54, zi_Knowledge_arrive_55, zi_Knowledge_arrive_58, zi_Knowledge_arrive_60, zi_Knowledge_arrive_61, zi_Knowledge_arrive_64, zi_Knowledge_arrive_66, zi_Knowledge_arrive_67, zi_Knowledge_arrive_68, zi_Knowledge_arrive_71, zi_Knowledge_arrive_72, zi_Knowledge_arrive_75, zi_Knowledge_arrive_77, zi_Knowledge_arrive_78, zi_Knowledge_arrive_81, zi_Knowledge_arrive_82, zi_Knowledge_arrive_85, zi_Knowledge_arrive_87, zi_Knowledge_arrive_88, zi_Knowledge_arrive_91, zi_Knowledge_arrive_92, zi_Knowledge_arrive_95, zi_Knowledge_arrive_97, zi_Knowledge_arrive_98, zi_Knowledge_arrive_99, zi_Knowledge_arrive_102, zi_Knowledge_arrive_104, zi_Knowledge_arrive_105, zi_Knowledge_arrive_106, zi_Knowledge_arrive_109, zi_Knowledge_arrive_110, zi_Knowledge_arrive_113, zi_Knowledge_arrive_115, zi_Knowledge_arrive_116, zi_Knowledge_arrive_117, zi_Knowledge_arrive_118, zi_Knowledge_arrive_121, zi_Knowledge_arrive_123, zi_Knowledge_arrive_124, zi_Knowledge_arrive_125, zi_Knowledge_arrive_126, zi_Knowledge_arrive_127, zi_Knowledge_arrive_130, ↓reduceIte, mj_op_s, Option.toList_some, Option.toList_none, List.cons_append, List.nil_append, hp_1, hp_2, true_and, and_true, zb_0, zb_1, zb_b, va_rf, io_203, ↓ogf_203_0, ↓ogf_203_1, ↓ogf_203_2, ↓ogf_203_3, ↓ogf_203_4, ↓opf_203_4_0, ↓opf_203_4_1, ↓ogf_203_5, ↓ogf_203_6, ↓oaz_205, ↓owz_205, ↓oal_206, ↓owl_206, ↓oaz_208, ↓owz_208, ↓oal_209, ↓owl_209, pk_mul, nI_add, e1, Bool.not_true, Bool.false_or, b1_f, b1_t, r5, r6, r8, r9, Option.isSome_some, Option.getD_some, lgc_eq, c, zv_0, kw_n ht hj8 rfl]
            rw [arF_s1 (by rw [hC, hF, hB]; unfold jn; simp [c2])]
            simp only [Option.isSome_some, Option.some.injEq, c2, not_false_eq_true, decide_true, Bool.true_and, Bool.or_true, b1_t] at IH
            exact IH _
theorem c_Knowledge_arrive (hb : ∀ r, r < 8 → kb r = b1 (b r).isSome ∧ nb r = (b r).getD 0) (ht : t < 51) : mj_V d lim mq_Knowledge_arrive 0 [.ref 203, .int (nI t), mj_j, mj_j, mj_j, mj_j] [] (hp (knM M s kb nb)) Q ↔ Q none (hp (knM M (arr s t b) kb nb)) := by
  obtain ⟨C, F, w, sw⟩ := s
  have h := l_arrive (M := M) (d := d) (lim := lim) (Q := Q) (C := C) (F := F) (w := w) (sw := sw) hb ht 8 0 (by omega) mj_j
  rw [arF_00] at h
  rw [← h]
  have r4 := kn_4 (M := M) (s := (C, F, w, sw)) (kb := kb) (nb := nb) ht
  cases hC : C t with
  | false =>
    rw [show (C, F, w, sw).1 t = C t from rfl, hC] at r4
    simp (decide := true) (disch := omega) only [zi_Knowledge_arrive_0, zi_Knowledge_arrive_1, zi_Knowledge_arrive_4, zi_Knowledge_arrive_5, zi_Knowledge_arrive_6, zi_Knowledge_arrive_9, zi_Knowledge_arrive_10, zi_Knowledge_arrive_13, zi_Knowledge_arrive_14, zi_Knowledge_arrive_15, zi_Knowledge_arrive_16, zi_Knowledge_arrive_17, zi_Knowledge_arrive_18, ↓reduceIte, mj_op_s, Option.toList_some, Option.toList_none, List.cons_append, List.nil_append, hp_1, hp_2, true_and, and_true, zb_0, zb_1, zb_b, va_rf, io_203, ↓ogf_203_0, ↓ogf_203_1, ↓ogf_203_2, ↓ogf_203_3, ↓ogf_203_4, ↓opf_203_4_0, ↓opf_203_4_1, ↓ogf_203_5, ↓ogf_203_6, ↓oaz_204, ↓owz_204, r4, b1_f, b1_t, chB, Bool.not_false, Bool.true_or]
  | true =>
    rw [show (C, F, w, sw).1 t = C t from rfl, hC] at r4
    simp (decide := true) (disch := omega) only [zi_Knowledge_arrive_0, zi_Knowledge_arrive_1, zi_Knowledge_arrive_4, zi_Knowledge_arrive_5, zi_Knowledge_arrive_6, zi_Knowledge_arrive_9, zi_Knowledge_arrive_10, zi_Knowledge_arrive_13, zi_Knowledge_arrive_14, zi_Knowledge_arrive_15, zi_Knowledge_arrive_16, zi_Knowledge_arrive_17, zi_Knowledge_arrive_18, ↓reduceIte, mj_op_s, Option.toList_some, Option.toList_none, List.cons_append, List.nil_append, hp_1, hp_2, true_and, and_true, zb_0, zb_1, zb_b, va_rf, io_203, ↓ogf_203_0, ↓ogf_203_1, ↓ogf_203_2, ↓ogf_203_3, ↓ogf_203_4, ↓opf_203_4_0, ↓opf_203_4_1, ↓ogf_203_5, ↓ogf_203_6, ↓oaz_204, ↓owz_204, r4, b1_f, b1_t, chB, Bool.not_true, Bool.false_or]
end C72
