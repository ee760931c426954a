/-! leads: pure, and the class -/
abbrev ldO (len : Nat) (A : Nat → Nat → Int32) (p : Nat) : Prop := p < len ∧ (A p 0 = nI 0 ∨ A p 0 = nI 12)
def ldN (len : Nat) (A : Nat → Nat → Int32) (p : Nat) : Nat := if A p 0 = nI 12 then tgP len A p else p + 1
def ldS (len : Nat) (A : Nat → Nat → Int32) : Nat → Nat → Nat → Option (Nat × Nat)
  | 0, p, s => if ldO len A p then none else some (p, s)
  | f + 1, p, s => if ldO len A p then ldS len A f (ldN len A p) (s + 1) else some (p, s)
def ldE (len : Nat) (A : Nat → Nat → Int32) (st : Nat) (x : Option (Nat × Nat)) : Nat × Nat := match x with
  | some y => y
  | none => (st, 0)
section C66
variable {d : Nat} {lim : Nat × Nat} {Q : mj_Q} {M : mm} {o len p st s : Nat} {A : Nat → Nat → Int32}
theorem ldN_le (h : ldO len A p) : ldN len A p ≤ len := by
  unfold ldN
  split
  · exact tgP_le
  · have := h.1; omega
theorem c_Leads_leadsOn (ho : isRt o) (hR : hasR M o len A) (h50 : len ≤ 50) (hp0 : p ≤ len) : mj_V d lim mq_Leads_leadsOn 0 [.ref o, .int (nI p)] [] (hp M) Q ↔ Q (some (.int (bI (ldO len A p)))) (hp M) := by
  by_cases h : p < len
  · have e1 : nI p < nI len := nI_lt h (by omega)
    have b1 := (hR.2 p h).1
    have hp50 : p < 50 := by omega
    simp (disch := first | assumption | omega) only [zi_Leads_leadsOn_0, zi_Leads_leadsOn_1, zi_Leads_leadsOn_2, zi_Leads_leadsOn_5, zi_Leads_leadsOn_8, zi_Leads_leadsOn_9, zi_Leads_leadsOn_12, zi_Leads_leadsOn_13, zi_Leads_leadsOn_14, zi_Leads_leadsOn_17, zi_Leads_leadsOn_18, zi_Leads_leadsOn_21, zi_Leads_leadsOn_22, zi_Leads_leadsOn_23, zi_Leads_leadsOn_25, zi_Leads_leadsOn_28, zi_Leads_leadsOn_29, zi_Leads_leadsOn_32, zi_Leads_leadsOn_33, ↓reduceIte, mj_op_s, Option.toList_some, Option.toList_none, List.cons_append, List.nil_append, hp_1, hp_2, true_and, and_true, zb_0, zb_1, zb_b, va_rf, io_rt, ↓ogf_rt_0, ↓ogf_rt_1, ↓ogf_rt_2, ↓ogf_rt_3, ↓ogf_rt_4, ↓oai_rt_0, ↓oai_rt_1, ↓oai_rt_2, ↓oai_rt_3, ↓owi_rt_0, ↓owi_rt_1, ↓owi_rt_2, ↓owi_rt_3, ↓opf_rt, hR.1, e1, b1, ldO, h, true_and]
    by_cases c1 : A p 0 = nI 0
    · rw [if_pos c1, bI_t (Or.inl c1)]
    · rw [if_neg c1]
      by_cases c2 : A p 0 = nI 12
      · rw [if_pos c2, bI_t (Or.inr c2)]
      · rw [if_neg c2, bI_f (fun z => z.elim c1 c2)]
  · have e1 : ¬ nI p < nI len := nI_nlt (by omega) (by omega)
    simp (disch := first | assumption | omega) only [zi_Leads_leadsOn_0, zi_Leads_leadsOn_1, zi_Leads_leadsOn_2, zi_Leads_leadsOn_5, zi_Leads_leadsOn_8, zi_Leads_leadsOn_9, zi_Leads_leadsOn_12, zi_Leads_leadsOn_13, zi_Leads_leadsOn_14, zi_Leads_leadsOn_17, zi_Leads_leadsOn_18, zi_Leads_leadsOn_21, zi_Leads_leadsOn_22, zi_Leads_leadsOn_23, zi_Leads_leadsOn_25, zi_Leads_leadsOn_28, zi_Leads_leadsOn_29, zi_Leads_leadsOn_32, zi_Leads_leadsOn_33, ↓reduceIte, mj_op_s, Option.toList_some, Option.toList_none, List.cons_append, List.nil_append, hp_1, hp_2, true_and, and_true, zb_0, zb_1, zb_b, va_rf, io_rt, ↓ogf_rt_0, ↓ogf_rt_1, ↓ogf_rt_2, ↓ogf_rt_3, ↓ogf_rt_4, ↓oai_rt_0, ↓oai_rt_1, ↓oai_rt_2, ↓oai_rt_3, ↓owi_rt_0, ↓owi_rt_1, ↓owi_rt_2, ↓owi_rt_3, ↓opf_rt, hR.1, e1]
    rw [bI_f (fun z => h z.1)]
theorem l_follow_end (ho : isRt o) (hR : hasR M o len A) (h50 : len ≤ 50) (hst : st ≤ len) {x3 : Int32} {x5 : Value} : mj_V (d + 2) lim mq_Leads_follow 5 [.ref 213, .ref o, .int (nI st), .int x3, .int (nI (len + 1)), x5] [] (hp M) Q ↔ Q none (hp (wI (wI M 214 st (nI st)) 215 st (nI 0))) := by
  have e1 : nI len < nI (len + 1) := nI_lt (by omega) (by omega)
  rw [zi_Leads_follow_5]
  simp (decide := true) (disch := first | assumption | omega) only [zi_Leads_follow_7, zi_Leads_follow_8, zi_Leads_follow_11, zi_Leads_follow_14, zi_Leads_follow_15, zi_Leads_follow_16, zi_Leads_follow_19, zi_Leads_follow_22, zi_Leads_follow_23, zi_Leads_follow_26, zi_Leads_follow_27, zi_Leads_follow_28, zi_Leads_follow_30, zi_Leads_follow_33, zi_Leads_follow_34, zi_Leads_follow_35, zi_Leads_follow_38, zi_Leads_follow_41, zi_Leads_follow_42, zi_Leads_follow_43, zi_Leads_follow_44, zi_Leads_follow_45, zi_Leads_follow_48, zi_Leads_follow_51, zi_Leads_follow_53, zi_Leads_follow_54, zi_Leads_follow_57, zi_Leads_follow_60, zi_Leads_follow_61, zi_Leads_follow_64, zi_Leads_follow_65, zi_Leads_follow_67, zi_Leads_follow_68, zi_Leads_follow_71, zi_Leads_follow_72, zi_Leads_follow_74, zi_Leads_follow_77, zi_Leads_follow_78, zi_Leads_follow_81, zi_Leads_follow_82, zi_Leads_follow_83, zi_Leads_follow_84, zi_Leads_follow_87, zi_Leads_follow_88, zi_Leads_follow_90, zi_Leads_follow_93, zi_Leads_follow_94, zi_Leads_follow_97, zi_Leads_follow_99, zi_Leads_follow_100, ↓reduceIte, mj_op_s, Option.toList_some, Option.toList_none, List.cons_append, List.nil_append, hp_1, hp_2, true_and, and_true, zb_0, zb_1, zb_b, va_rf, io_rt, ↓ogf_rt_0, ↓ogf_rt_1, ↓ogf_rt_2, ↓ogf_rt_3, ↓ogf_rt_4, ↓oai_rt_0, ↓oai_rt_1, ↓oai_rt_2, ↓oai_rt_3, ↓owi_rt_0, ↓owi_rt_1, ↓owi_rt_2, ↓owi_rt_3, ↓opf_rt, io_213, ↓ogf_213_0, ↓ogf_213_1, ↓oai_214, ↓owi_214, ↓oai_215, ↓owi_215, hR.1, e1]
theorem l_follow_stop (ho : isRt o) (hR : hasR M o len A) (h50 : len ≤ 50) (hst : st ≤ len) (hs : s ≤ len) (hp0 : p ≤ len) (hno : ¬ ldO len A p) {x5 : Value} : mj_V (d + 2) lim mq_Leads_follow 5 [.ref 213, .ref o, .int (nI st), .int (nI p), .int (nI s), x5] [] (hp M) Q ↔ Q none (hp (wI (wI M 214 st (nI p)) 215 st (nI s))) := by
  have e1 : ¬ nI len < nI s := nI_nlt hs (by omega)
  rw [zi_Leads_follow_5]
  simp (decide := true) (disch := first | assumption | omega) only [zi_Leads_follow_7, zi_Leads_follow_8, zi_Leads_follow_11, zi_Leads_follow_14, zi_Leads_follow_15, zi_Leads_follow_16, zi_Leads_follow_19, zi_Leads_follow_22, zi_Leads_follow_23, zi_Leads_follow_26, zi_Leads_follow_27, zi_Leads_follow_28, zi_Leads_follow_30, zi_Leads_follow_33, zi_Leads_follow_34, zi_Leads_follow_35, zi_Leads_follow_38, zi_Leads_follow_41, zi_Leads_follow_42, zi_Leads_follow_43, zi_Leads_follow_44, zi_Leads_follow_45, zi_Leads_follow_48, zi_Leads_follow_51, zi_Leads_follow_53, zi_Leads_follow_54, zi_Leads_follow_57, zi_Leads_follow_60, zi_Leads_follow_61, zi_Leads_follow_64, zi_Leads_follow_65, zi_Leads_follow_67, zi_Leads_follow_68, zi_Leads_follow_71, zi_Leads_follow_72, zi_Leads_follow_74, zi_Leads_follow_77, zi_Leads_follow_78, zi_Leads_follow_81, zi_Leads_follow_82, zi_Leads_follow_83, zi_Leads_follow_84, zi_Leads_follow_87, zi_Leads_follow_88, zi_Leads_follow_90, zi_Leads_follow_93, zi_Leads_follow_94, zi_Leads_follow_97, zi_Leads_follow_99, zi_Leads_follow_100, ↓reduceIte, mj_op_s, Option.toList_some, Option.toList_none, List.cons_append, List.nil_append, hp_1, hp_2, true_and, and_true, zb_0, zb_1, zb_b, va_rf, io_rt, ↓ogf_rt_0, ↓ogf_rt_1, ↓ogf_rt_2, ↓ogf_rt_3, ↓ogf_rt_4, ↓oai_rt_0, ↓oai_rt_1, ↓oai_rt_2, ↓oai_rt_3, ↓owi_rt_0, ↓owi_rt_1, ↓owi_rt_2, ↓owi_rt_3, ↓opf_rt, io_213, ↓ogf_213_0, ↓ogf_213_1, ↓oai_214, ↓owi_214, ↓oai_215, ↓owi_215, hR.1, e1, c_Leads_leadsOn ho hR h50 hp0, bI_0]
  rw [if_pos hno]
theorem l_follow (ho : isRt o) (hR : hasR M o len A) (hok : okR len A) (hst : st ≤ len) : ∀ (f p s : Nat) (x5 : Value), s + f = len → p ≤ len → (mj_V (d + 2) lim mq_Leads_follow 5 [.ref 213, .ref o, .int (nI st), .int (nI p), .int (nI s), x5] [] (hp M) Q ↔ Q none (hp (wI (wI M 214 st (nI (ldE len A st (ldS len A f p s)).1)) 215 st (nI (ldE len A st (ldS len A f p s)).2)))) := by
  have h50 := hok.1
  have step : ∀ (p s : Nat) (x5 : Value), s ≤ len → ldO len A p → (mj_V (d + 2) lim mq_Leads_follow 5 [.ref 213, .ref o, .int (nI st), .int (nI p), .int (nI s), x5] [] (hp M) Q ↔ mj_V (d + 2) lim mq_Leads_follow 5 [.ref 213, .ref o, .int (nI st), .int (nI (ldN len A p)), .int (nI (s + 1)), x5] [] (hp M) Q) := by
    intro p s x5 hs hO
    have hp0 := hO.1
    have hp50 : p < 50 := by omega
    have e1 : ¬ nI len < nI s := nI_nlt hs (by omega)
    obtain ⟨b1, b2, b3, b4⟩ := hR.2 p hp0
    rw [zi_Leads_follow_5]
    by_cases c : A p 0 = nI 12
    · have hy : plF (A p 2) (nI len) = nI (ldN len A p) := by
        rcases okA_cases (hok.2 p hp0) with ⟨e, -⟩ | ⟨e, -⟩ | ⟨i, hi, e, -⟩ | ⟨i, j, hi, hj, e, -⟩ | ⟨i, j, hi, hj, e, -⟩ | ⟨k, i, j, l, hk1, hk2, hi, hj, hl, e, -⟩ | ⟨i, hi, e, -⟩ | ⟨j, hj, e, ex, ey, -⟩ | ⟨i, j, hi, hj, e, -⟩
        · rw [e] at c; exact absurd c (by decide)
        · rw [e] at c; exact absurd c (by decide)
        · rw [e] at c; exact absurd c (by decide)
        · rw [e] at c; exact absurd c (by decide)
        · rw [e] at c; exact absurd c (by decide)
        · rw [e] at c
          have := (nI_eq (show k < 2 ^ 31 by omega) (show 12 < 2 ^ 31 by omega)).mp c
          omega
        · rw [e] at c; exact absurd c (by decide)
        · unfold ldN tgP
          rw [if_pos c, ey, plF_n (by omega) (by omega), cz_n (by omega)]
        · rw [e] at c; exact absurd c (by decide)
      simp (decide := true) (disch := first | assumption | omega) only [zi_Leads_follow_7, zi_Leads_follow_8, zi_Leads_follow_11, zi_Leads_follow_14, zi_Leads_follow_15, zi_Leads_follow_16, zi_Leads_follow_19, zi_Leads_follow_22, zi_Leads_follow_23, zi_Leads_follow_26, zi_Leads_follow_27, zi_Leads_follow_28, zi_Leads_follow_30, zi_Leads_follow_33, zi_Leads_follow_34, zi_Leads_follow_35, zi_Leads_follow_38, zi_Leads_follow_41, zi_Leads_follow_42, zi_Leads_follow_43, zi_Leads_follow_44, zi_Leads_follow_45, zi_Leads_follow_48, ↓reduceIte, mj_op_s, Option.toList_some, Option.toList_none, List.cons_append, List.nil_append, hp_1, hp_2, true_and, and_true, zb_0, zb_1, zb_b, va_rf, io_rt, ↓ogf_rt_0, ↓ogf_rt_1, ↓ogf_rt_2, ↓ogf_rt_3, ↓ogf_rt_4, ↓oai_rt_0, ↓oai_rt_1, ↓oai_rt_2, ↓oai_rt_3, ↓owi_rt_0, ↓owi_rt_1, ↓owi_rt_2, ↓owi_rt_3, ↓opf_rt, io_213, ↓ogf_213_0, ↓ogf_213_1, hR.1, e1, c_Leads_leadsOn ho hR h50 (show p ≤ len by omega), bI_0, b1, c, c_Routine_target ho hp50, b3, hy, nI_add]
      rw [if_neg (fun z => z hO)]
    · have hy : ldN len A p = p + 1 := by unfold ldN; rw [if_neg c]
      rw [hy]
      simp (decide := true) (disch := first | assumption | omega) only [zi_Leads_follow_7, zi_Leads_follow_8, zi_Leads_follow_11, zi_Leads_follow_14, zi_Leads_follow_15, zi_Leads_follow_16, zi_Leads_follow_19, zi_Leads_follow_22, zi_Leads_follow_23, zi_Leads_follow_26, zi_Leads_follow_27, zi_Leads_follow_28, zi_Leads_follow_30, zi_Leads_follow_33, zi_Leads_follow_34, zi_Leads_follow_35, zi_Leads_follow_38, zi_Leads_follow_41, zi_Leads_follow_42, zi_Leads_follow_43, zi_Leads_follow_44, zi_Leads_follow_45, zi_Leads_follow_48, ↓reduceIte, mj_op_s, Option.toList_some, Option.toList_none, List.cons_append, List.nil_append, hp_1, hp_2, true_and, and_true, zb_0, zb_1, zb_b, va_rf, io_rt, ↓ogf_rt_0, ↓ogf_rt_1, ↓ogf_rt_2, ↓ogf_rt_3, ↓ogf_rt_4, ↓oai_rt_0, ↓oai_rt_1, ↓oai_rt_2, ↓oai_rt_3, ↓owi_rt_0, ↓owi_rt_1, ↓owi_rt_2, ↓owi_rt_3, ↓opf_rt, io_213, ↓ogf_213_0, ↓ogf_213_1, hR.1, e1, c_Leads_leadsOn ho hR h50 (show p ≤ len by omega), bI_0, b1, c, nI_add]
      rw [if_neg (fun z => z hO)]
  intro f
  induction f with
  | zero =>
    intro p s x5 hs hp0
    obtain rfl : s = len := by omega
    unfold ldS
    by_cases hO : ldO s A p
    · rw [step p s x5 (Nat.le_refl _) hO, if_pos hO]
      exact l_follow_end ho hR h50 hst
    · rw [if_neg hO]
      exact l_follow_stop ho hR h50 hst (Nat.le_refl _) hp0 hO
  | succ f ih =>
    intro p s x5 hs hp0
    unfold ldS
    by_cases hO : ldO len A p
    · rw [step p s x5 (by omega) hO, if_pos hO]
      exact ih _ (s + 1) x5 (by omega) (ldN_le hO)
    · rw [if_neg hO]
      exact l_follow_stop ho hR h50 hst (by omega) hp0 hO
theorem c_Leads_follow (ho : isRt o) (hR : hasR M o len A) (hok : okR len A) (hst : st ≤ len) : mj_V (d + 2) lim mq_Leads_follow 0 [.ref 213, .ref o, .int (nI st), mj_j, mj_j, mj_j] [] (hp M) Q ↔ Q none (hp (wI (wI M 214 st (nI (ldE len A st (ldS len A len st 0)).1)) 215 st (nI (ldE len A st (ldS len A len st 0)).2))) := by
  simp only [zi_Leads_follow_0, zi_Leads_follow_1, zi_Leads_follow_2, zi_Leads_follow_3, ↓reduceIte, mj_op_s, Option.toList_some, Option.toList_none, List.cons_append, List.nil_append, hp_1, hp_2, true_and, and_true, zb_0, zb_1, zb_b, va_rf]
  exact l_follow ho hR hok hst len st 0 mj_j (by omega) hst
end C66
