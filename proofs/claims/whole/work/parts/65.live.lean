/-! contracts: Model.livens, the loops -/
def cntS (len : Nat) (S : Nat → Nat → Bool) : Nat := ct (fun i => S (i / 8) (i % 8)) (8 * len)
def liI (len : Nat) (A : Nat → Nat → Int32) (S : Nat → Nat → Bool) : Prop := (∀ t, t < 8 → S len t = false) ∧ (∀ S', lvC len A S' → ∀ p t, p ≤ len → t < 8 → S p t = true → S' p t = true)
/-- how far a sweep is -/
def liW (len : Nat) (A : Nat → Nat → Int32) (S0 : Nat → Nat → Bool) (i : Nat) (mo : Int32) (S : Nat → Nat → Bool) : Prop := (mo = nI 0 ∧ S = S0 ∧ ∀ p t, p < len → t < 8 → 8 * p + t < i → lvF len A S p t = true → S p t = true) ∨ (mo = nI 1 ∧ cntS len S0 < cntS len S)
section C65
variable {d : Nat} {lim : Nat × Nat} {Q : mj_Q} {M : mm} {r len p k : Nat} {A : Nat → Nat → Int32} {S S0 : Nat → Nat → Bool} {mo : Int32}
theorem liW_mo {i : Nat} (h : liW len A S0 i mo S) : mo = nI 0 ∨ mo = nI 1 := h.imp (fun z => z.1) (fun z => z.1)
theorem li_up (hI : liI len A S) (hp0 : p < len) (hk : k < 8) : liI len A (updB S p k (S p k || lvF len A S p k)) := by
  refine ⟨fun t ht => ?_, fun S' hS q t hq ht h => ?_⟩
  · unfold updB
    rw [if_neg (by omega)]
    exact hI.1 t ht
  · unfold updB at h
    by_cases e : q = p ∧ t = k
    · obtain ⟨rfl, rfl⟩ := e
      rw [if_pos ⟨rfl, rfl⟩, Bool.or_eq_true] at h
      rcases h with h | h
      · exact hI.2 S' hS q t hq ht h
      · exact hS q t hp0 ht (lvF_mono hp0 (fun z hz hb => hI.2 S' hS z t hz ht hb) h)
    · rw [if_neg e] at h
      exact hI.2 S' hS q t hq ht h
theorem li_grow {b : Bool} : ∀ q t, S q t = true → updB S p k (S p k || b) q t = true := by
  intro q t h
  unfold updB
  by_cases e : q = p ∧ t = k
  · obtain ⟨rfl, rfl⟩ := e
    rw [if_pos ⟨rfl, rfl⟩, h]
    rfl
  · rw [if_neg e]; exact h
theorem li_sweep (hp0 : p < len) (hk : k < 8) (h : liW len A S0 (8 * p + k) mo S) : liW len A S0 (8 * p + (k + 1)) (if S p k = false ∧ lvF len A S p k = true then nI 1 else mo) (updB S p k (S p k || lvF len A S p k)) := by
  have hle : cntS len S ≤ cntS len (updB S p k (S p k || lvF len A S p k)) := ct_mono (fun i hi h => li_grow _ _ h)
  by_cases c : S p k = false ∧ lvF len A S p k = true
  · rw [if_pos c]
    refine Or.inr ⟨rfl, ?_⟩
    have hlt : cntS len S < cntS len (updB S p k (S p k || lvF len A S p k)) := by
      refine ct_lt (fun i hi h => li_grow _ _ h) ⟨8 * p + k, by omega, ?_, ?_⟩
      · rw [show (8 * p + k) / 8 = p by omega, show (8 * p + k) % 8 = k by omega]; exact c.1
      · rw [show (8 * p + k) / 8 = p by omega, show (8 * p + k) % 8 = k by omega]
        unfold updB
        rw [if_pos ⟨rfl, rfl⟩, c.2]
        simp
    rcases h with ⟨-, rfl, -⟩ | ⟨-, h⟩
    · exact hlt
    · exact Nat.lt_trans h hlt
  · rw [if_neg c]
    have e : updB S p k (S p k || lvF len A S p k) = S := updB_self (by
      cases h1 : S p k with
      | true => rfl
      | false =>
        cases h2 : lvF len A S p k with
        | true => exact absurd ⟨h1, h2⟩ c
        | false => rfl)
    rw [e]
    rcases h with ⟨h1, h2, h3⟩ | h
    · refine Or.inl ⟨h1, h2, fun q t hq ht hi hf => ?_⟩
      by_cases e2 : 8 * q + t < 8 * p + k
      · exact h3 q t hq ht e2 hf
      · obtain rfl : q = p := by omega
        obtain rfl : t = k := by omega
        cases h4 : S q t with
        | true => rfl
        | false => exact absurd ⟨h4, hf⟩ c
    · exact Or.inr h
theorem l_livens_k (hr : r < 44) (hR : hasM M r len A) (hok : okR len A) (hp0 : p < len)
    (hend : ∀ (mo : Int32) (S : Nat → Nat → Bool) (y6 : Int32) (y7 : Value), liI len A S → liW len A S0 (8 * (p + 1)) mo S → mj_V (d + 2) lim mq_Model_livens 289 [.ref 256, .int (nI r), .int mo, .int (nI p), .int (A p 0), .int (A p 1), .int y6, y7] [] (hp (livM M S)) Q) :
    ∀ (n k : Nat) (mo : Int32) (S : Nat → Nat → Bool) (x7 : Value), k + n = 8 → liI len A S → liW len A S0 (8 * p + k) mo S → mj_V (d + 2) lim mq_Model_livens 62 [.ref 256, .int (nI r), .int mo, .int (nI p), .int (A p 0), .int (A p 1), .int (nI k), x7] [] (hp (livM M S)) Q := by
  intro n
  induction n with
  | zero =>
    intro k mo S x7 hk hI hw
    obtain rfl : k = 8 := by omega
    rw [zi_Model_livens_62]
    simp (decide := true) only [zi_Model_livens_64, zi_Model_livens_66, ↓reduceIte, mj_op_s, Option.toList_some, Option.toList_none, List.cons_append, List.nil_append, hp_1, hp_2, true_and, and_true, zb_0, zb_1, zb_b, va_rf]
    exact hend mo S _ _ hI (by rw [show 8 * (p + 1) = 8 * p + 8 by omega]; exact hw)
  | succ n ih =>
    intro k mo S x7 hk hI hw
    have hk8 : k < 8 := by omega
    refine (l_livens_step hr hR hok (hI.1 k hk8) hp0 hk8 (liW_mo hw) (T := True) (fun y7 => iff_true_intro ?_)).mpr trivial
    exact ih (k + 1) _ _ y7 (by omega) (li_up hI hp0 hk8) (li_sweep hp0 hk8 hw)
theorem l_livens_p (hr : r < 44) (hR : hasM M r len A) (hok : okR len A)
    (hend : ∀ (mo : Int32) (S : Nat → Nat → Bool) (y3 y4 y5 y6 y7 : Value), liI len A S → liW len A S0 (8 * len) mo S → mj_V (d + 2) lim mq_Model_livens 24 [.ref 256, .int (nI r), .int mo, y3, y4, y5, y6, y7] [] (hp (livM M S)) Q) :
    ∀ (n p : Nat) (mo : Int32) (S : Nat → Nat → Bool) (x4 x5 x6 x7 : Value), p + n = len → liI len A S → liW len A S0 (8 * p) mo S → mj_V (d + 2) lim mq_Model_livens 32 [.ref 256, .int (nI r), .int mo, .int (nI p), x4, x5, x6, x7] [] (hp (livM M S)) Q := by
  have h50 := hok.1
  intro n
  induction n with
  | zero =>
    intro p mo S x4 x5 x6 x7 hp0 hI hw
    obtain rfl : p = len := by omega
    have r0 : rI (livM M S) 257 r = nI p := (li_Io (by omega)).trans hR.1
    have e1 : ¬ nI p < nI p := nI_nlt (by omega) (by omega)
    rw [zi_Model_livens_32]
    simp (disch := omega) only [zi_Model_livens_33, zi_Model_livens_34, zi_Model_livens_37, zi_Model_livens_38, zi_Model_livens_39, zi_Model_livens_295, ↓reduceIte, mj_op_s, Option.toList_some, Option.toList_none, List.cons_append, List.nil_append, hp_1, hp_2, true_and, and_true, zb_0, zb_1, zb_b, va_rf, io_256, ↓ogf_256_0, ↓opf_256_0, ↓ogf_256_1, ↓ogf_256_2, ↓ogf_256_3, ↓ogf_256_4, ↓opf_256_4, ↓ogf_256_5, ↓ogf_256_6, ↓ogf_256_7, ↓opf_256_7, ↓ogf_256_8, ↓opf_256_8, ↓ogf_256_9, ↓opf_256_9, ↓ogf_256_10, ↓opf_256_10, ↓ogf_256_11, ↓ogf_256_12, ↓ogf_256_13, ↓ogf_256_14, ↓ogf_256_15, ↓ogf_256_16, ↓ogf_256_17, ↓opf_256_17, ↓ogf_256_18, ↓opf_256_18, ↓ogf_256_19, ↓ogf_256_20, ↓ogf_256_21, ↓ogf_256_22, ↓opf_256_22_0, ↓opf_256_22_1, ↓ogf_256_23, ↓opf_256_23, ↓ogf_256_24, ↓ogf_256_25, ↓opf_256_25_0, ↓opf_256_25_1, ↓ogf_256_26, ↓opf_256_26, ↓ogf_256_27, ↓opf_256_27, ↓ogf_256_28, ↓opf_256_28, ↓ogf_256_29, ↓ogf_256_30, ↓ogf_256_31, ↓ogf_256_32, ↓ogf_256_33, ↓ogf_256_34, ↓oai_257, ↓owi_257, r0, e1]
    exact hend mo S _ _ _ _ _ hI hw
  | succ n ih =>
    intro p mo S x4 x5 x6 x7 hp0 hI hw
    have r0 : rI (livM M S) 257 r = nI len := (li_Io (by omega)).trans hR.1
    have e1 : nI p < nI len := nI_lt (by omega) (by omega)
    have hR2 := li_M (S := S) hr hR
    have q0 := hR2.2 p (by omega) 0 (by omega)
    have q1 := hR2.2 p (by omega) 1 (by omega)
    have hp50 : p < 50 := by omega
    rw [zi_Model_livens_32]
    simp (disch := omega) only [zi_Model_livens_33, zi_Model_livens_34, zi_Model_livens_37, zi_Model_livens_38, zi_Model_livens_39, zi_Model_livens_42, zi_Model_livens_43, zi_Model_livens_44, zi_Model_livens_45, zi_Model_livens_48, zi_Model_livens_50, zi_Model_livens_51, zi_Model_livens_52, zi_Model_livens_53, zi_Model_livens_54, zi_Model_livens_57, zi_Model_livens_59, zi_Model_livens_60, ↓reduceIte, mj_op_s, Option.toList_some, Option.toList_none, List.cons_append, List.nil_append, hp_1, hp_2, true_and, and_true, zb_0, zb_1, zb_b, va_rf, io_256, ↓ogf_256_0, ↓opf_256_0, ↓ogf_256_1, ↓ogf_256_2, ↓ogf_256_3, ↓ogf_256_4, ↓opf_256_4, ↓ogf_256_5, ↓ogf_256_6, ↓ogf_256_7, ↓opf_256_7, ↓ogf_256_8, ↓opf_256_8, ↓ogf_256_9, ↓opf_256_9, ↓ogf_256_10, ↓opf_256_10, ↓ogf_256_11, ↓ogf_256_12, ↓ogf_256_13, ↓ogf_256_14, ↓ogf_256_15, ↓ogf_256_16, ↓ogf_256_17, ↓opf_256_17, ↓ogf_256_18, ↓opf_256_18, ↓ogf_256_19, ↓ogf_256_20, ↓ogf_256_21, ↓ogf_256_22, ↓opf_256_22_0, ↓opf_256_22_1, ↓ogf_256_23, ↓opf_256_23, ↓ogf_256_24, ↓ogf_256_25, ↓opf_256_25_0, ↓opf_256_25_1, ↓ogf_256_26, ↓opf_256_26, ↓ogf_256_27, ↓opf_256_27, ↓ogf_256_28, ↓opf_256_28, ↓ogf_256_29, ↓ogf_256_30, ↓ogf_256_31, ↓ogf_256_32, ↓ogf_256_33, ↓ogf_256_34, ↓oai_257, ↓owi_257, r0, e1, c_Model_kind, c_Model_num, q0, q1]
    refine l_livens_k hr hR hok (show p < len by omega) (S0 := S0) (fun mo S y6 y7 hI2 hw2 => ?_) 8 0 mo S x7 (by omega) hI (by simpa using hw)
    simp only [zi_Model_livens_289, zi_Model_livens_292, ↓reduceIte, mj_op_s, Option.toList_some, Option.toList_none, List.cons_append, List.nil_append, hp_1, hp_2, true_and, and_true, zb_0, zb_1, zb_b, va_rf, nI_add]
    exact ih (p + 1) mo S _ _ _ _ (by omega) hI2 hw2
theorem l_livens_out (hr : r < 44) (hR : hasM M r len A) (hok : okR len A) (hend : ∀ S : Nat → Nat → Bool, lvL len A S → Q none (hp (livM M S))) :
    ∀ (f : Nat) (S : Nat → Nat → Bool) (x3 x4 x5 x6 x7 : Value), 8 * len + 1 ≤ f + cntS len S → liI len A S → mj_V (d + 2) lim mq_Model_livens 24 [.ref 256, .int (nI r), .int (nI 1), x3, x4, x5, x6, x7] [] (hp (livM M S)) Q := by
  intro f
  induction f with
  | zero =>
    intro S x3 x4 x5 x6 x7 hf hI
    have : cntS len S ≤ 8 * len := ct_le _ _
    omega
  | succ f ih =>
    intro S x3 x4 x5 x6 x7 hf hI
    rw [zi_Model_livens_24]
    simp (decide := true) only [zi_Model_livens_25, zi_Model_livens_28, zi_Model_livens_29, zi_Model_livens_30, zi_Model_livens_31, ↓reduceIte, mj_op_s, Option.toList_some, Option.toList_none, List.cons_append, List.nil_append, hp_1, hp_2, true_and, and_true, zb_0, zb_1, zb_b, va_rf]
    refine l_livens_p hr hR hok (S0 := S) (fun mo S2 y3 y4 y5 y6 y7 hI2 hw2 => ?_) len 0 (nI 0) S _ _ _ _ (by omega) hI (Or.inl ⟨rfl, rfl, fun p t _ _ h => by omega⟩)
    rcases hw2 with ⟨rfl, rfl, h⟩ | ⟨rfl, h⟩
    · rw [zi_Model_livens_24]
      simp (decide := true) only [zi_Model_livens_25, zi_Model_livens_298, ↓reduceIte, mj_op_s, Option.toList_some, Option.toList_none, List.cons_append, List.nil_append, hp_1, hp_2, true_and, and_true, zb_0, zb_1, zb_b, va_rf]
      exact hend S2 ⟨fun p t hp0 ht hf => h p t hp0 ht (by omega) hf, hI2.2, hI2.1⟩
    · exact ih S2 _ _ _ _ _ (by omega) hI2
theorem l_livens_zero {x1 : Int32} {x3 x4 x5 x6 x7 : Value} : ∀ (n j : Nat), j + n = 408 → (mj_V d lim mq_Model_livens 2 [.ref 256, .int x1, .int (nI j), x3, x4, x5, x6, x7] [] (hp (itr (fun r M => wI M 271 r (nI 0)) j M)) Q ↔ mj_V d lim mq_Model_livens 22 [.ref 256, .int x1, .int (nI 408), x3, x4, x5, x6, x7] [] (hp (itr (fun r M => wI M 271 r (nI 0)) 408 M)) Q) := by
  intro n
  induction n with
  | zero =>
    intro j hj
    obtain rfl : j = 408 := by omega
    rw [zi_Model_livens_2]
    simp (decide := true) only [zi_Model_livens_3, zi_Model_livens_6, zi_Model_livens_9, zi_Model_livens_10, zi_Model_livens_13, zi_Model_livens_14, zi_Model_livens_15, zi_Model_livens_16, zi_Model_livens_19, ↓reduceIte, mj_op_s, Option.toList_some, Option.toList_none, List.cons_append, List.nil_append, hp_1, hp_2, true_and, and_true, zb_0, zb_1, zb_b, va_rf]
  | succ n ih =>
    intro j hj
    have hj8 : j < 408 := by omega
    have e1 : nI j < nI 408 := nI_lt (by omega) (by omega)
    rw [zi_Model_livens_2]
    simp (disch := assumption) only [zi_Model_livens_3, zi_Model_livens_6, zi_Model_livens_9, zi_Model_livens_10, zi_Model_livens_13, zi_Model_livens_14, zi_Model_livens_15, zi_Model_livens_16, zi_Model_livens_19, ↓reduceIte, mj_op_s, Option.toList_some, Option.toList_none, List.cons_append, List.nil_append, hp_1, hp_2, true_and, and_true, zb_0, zb_1, zb_b, va_rf, io_256, ↓ogf_256_0, ↓opf_256_0, ↓ogf_256_1, ↓ogf_256_2, ↓ogf_256_3, ↓ogf_256_4, ↓opf_256_4, ↓ogf_256_5, ↓ogf_256_6, ↓ogf_256_7, ↓opf_256_7, ↓ogf_256_8, ↓opf_256_8, ↓ogf_256_9, ↓opf_256_9, ↓ogf_256_10, ↓opf_256_10, ↓ogf_256_11, ↓ogf_256_12, ↓ogf_256_13, ↓ogf_256_14, ↓ogf_256_15, ↓ogf_256_16, ↓ogf_256_17, ↓opf_256_17, ↓ogf_256_18, ↓opf_256_18, ↓ogf_256_19, ↓ogf_256_20, ↓ogf_256_21, ↓ogf_256_22, ↓opf_256_22_0, ↓opf_256_22_1, ↓ogf_256_23, ↓opf_256_23, ↓ogf_256_24, ↓ogf_256_25, ↓opf_256_25_0, ↓opf_256_25_1, ↓ogf_256_26, ↓opf_256_26, ↓ogf_256_27, ↓opf_256_27, ↓ogf_256_28, ↓opf_256_28, ↓ogf_256_29, ↓ogf_256_30, ↓ogf_256_31, ↓ogf_256_32, ↓ogf_256_33, ↓ogf_256_34, ↓oaz_271, ↓owz_271, e1, nI_add, zv_0]
    exact ih (j + 1) (by omega)
theorem liv_start : itr (fun r M => wI M 271 r (nI 0)) 408 M = livM M (fun _ _ => false) := by
  have e := itr_I2 (M := M) (c := 271) 408
  refine mm_ext (fun i k => ?_) (fun i k => ?_) (fun i k => ?_) ?_
  · rw [itr_Iz, li_I]; rfl
  · exact congrArg (fun z => z.1 i k) e
  · exact congrArg (fun z => z.2.1 i k) e
  · exact congrArg (fun z => z.2.2) e
theorem c_Model_livens (hr : r < 44) (hR : hasM M r len A) (hok : okR len A) (hend : ∀ S : Nat → Nat → Bool, lvL len A S → Q none (hp (livM M S))) : mj_V (d + 2) lim mq_Model_livens 0 [.ref 256, .int (nI r), mj_j, mj_j, mj_j, mj_j, mj_j, mj_j] [] (hp M) Q := by
  simp only [zi_Model_livens_0, zi_Model_livens_1, ↓reduceIte, mj_op_s, Option.toList_some, Option.toList_none, List.cons_append, List.nil_append, hp_1, hp_2, true_and, and_true, zb_0, zb_1, zb_b, va_rf]
  refine (l_livens_zero 408 0 (by omega)).mpr ?_
  rw [liv_start]
  simp only [zi_Model_livens_22, zi_Model_livens_23, ↓reduceIte, mj_op_s, Option.toList_some, Option.toList_none, List.cons_append, List.nil_append, hp_1, hp_2, true_and, and_true, zb_0, zb_1, zb_b, va_rf]
  exact l_livens_out hr hR hok hend (8 * len + 1) (fun _ _ => false) _ _ _ _ _ (by omega) ⟨fun _ _ => rfl, fun S' _ p t _ _ h => by cases h⟩
end C65
