/-! contracts: a run -/
/-- a run of at most f acts more: how it ended, how many acts were done, the state -/
def rGo (len : Nat) (A : Nat → Nat → Int32) (fed : Nat) (fd : Nat → Int64) : Nat → RSt → Nat → Nat × Nat × RSt
  | 0, s, did => (if s.1 < len then 3 else 0, did, s)
  | f + 1, s, did => if s.1 < len then (if (rSt len A fed fd s).1 = 0 then rGo len A fed fd f (rSt len A fed fd s).2 (did + 1) else ((rSt len A fed fd s).1, did + 1, (rSt len A fed fd s).2)) else (0, did, s)
section C46
variable {d : Nat} {lim : Nat × Nat} {Q : mj_Q} {M : mm} {o len fed did p n : Nat} {A : Nat → Nat → Int32} {g out : Nat → Int64} {s : RSt} {fd : Nat → Int64}
theorem rSt_ok (hp0 : s.1 < len) : (rSt len A fed fd s).2.1 ≤ len ∧ (rSt len A fed fd s).2.2.2.1 ≤ s.2.2.1 + 1 ∧ ((rSt len A fed fd s).1 = 0 ∨ (rSt len A fed fd s).1 = 1 ∨ (rSt len A fed fd s).1 = 2) := by
  unfold rSt
  repeat' split
  all_goals (try dsimp only)
  all_goals (refine ⟨?_, ?_, ?_⟩ <;> first | omega | (exact Or.inl rfl) | (exact Or.inr (Or.inl rfl)) | (exact Or.inr (Or.inr rfl)) | (split <;> omega) | (split <;> first | omega | (split <;> omega)))
theorem rSt_stop (h : (rSt len A fed fd s).1 ≠ 0) : (rSt len A fed fd s).2 = s := by
  revert h
  unfold rSt
  repeat' split
  all_goals intro h
  all_goals first | rfl | exact absurd rfl h
theorem l_Runner_exit {h fuel : Nat} (hh : h = 1 ∨ h = 2) (ho : isRt o) (hl : rI M o 4 = nI len) (hp0 : s.1 < len) (h50 : len ≤ 50) (hfu : fuel ≤ 100000) (hdd : did ≤ fuel) : mj_V d lim mq_Runner_go 38 [.ref 227, .ref o, .int (nI fuel), .int (nI h)] [] (hp (rnM M did s)) Q ↔ Q (some (.int (nI h))) (hp (rnM M did s)) := by
  obtain ⟨p, g, n, out⟩ := s
  have r0 : rI (rnM M did (p, g, n, out)) o 4 = nI len := (rn_Io (isRt_ne (j := 0) ho (by omega))).trans hl
  have e2 : nI p < nI len := nI_lt hp0 (by omega)
  have e3 : ¬ nI h = nI 4 := by rcases hh with rfl | rfl <;> decide
  rw [zi_Runner_go_38]
  by_cases h1 : did < fuel
  · have e1 : nI did < nI fuel := nI_lt h1 (by omega)
    simp only [zi_Runner_go_39, zi_Runner_go_42, zi_Runner_go_43, zi_Runner_go_46, zi_Runner_go_47, zi_Runner_go_50, zi_Runner_go_51, zi_Runner_go_54, zi_Runner_go_57, zi_Runner_go_58, zi_Runner_go_59, zi_Runner_go_81, zi_Runner_go_82, zi_Runner_go_83, zi_Runner_go_86, zi_Runner_go_87, zi_Runner_go_88, zi_Runner_go_89, zi_Runner_go_92, zi_Runner_go_93, zi_Runner_go_96, zi_Runner_go_99, zi_Runner_go_100, zi_Runner_go_103, zi_Runner_go_104, ↓reduceIte, mj_op_s, Option.toList_some, Option.toList_none, List.cons_append, List.nil_append, hp_1, hp_2, true_and, and_true, zb_0, zb_1, zb_b, va_rf, io_227, ↓ogf_227_0, ↓ogf_227_1, ↓opf_227_1, ↓ogf_227_2, ↓ogf_227_3, ↓ogf_227_4, ↓opf_227_4, ↓ogf_227_5, ↓opf_227_5, ↓ogf_227_6, ↓opf_227_6, gf_rt_4 ho, rn_I5, rn_I6, r0, e1, e2, e3, if_true, if_false]
  · have e1 : ¬ nI did < nI fuel := nI_nlt (by omega) (by omega)
    simp only [zi_Runner_go_39, zi_Runner_go_42, zi_Runner_go_43, zi_Runner_go_46, zi_Runner_go_47, zi_Runner_go_50, zi_Runner_go_51, zi_Runner_go_54, zi_Runner_go_57, zi_Runner_go_58, zi_Runner_go_59, zi_Runner_go_81, zi_Runner_go_82, zi_Runner_go_83, zi_Runner_go_86, zi_Runner_go_87, zi_Runner_go_88, zi_Runner_go_89, zi_Runner_go_92, zi_Runner_go_93, zi_Runner_go_96, zi_Runner_go_99, zi_Runner_go_100, zi_Runner_go_103, zi_Runner_go_104, ↓reduceIte, mj_op_s, Option.toList_some, Option.toList_none, List.cons_append, List.nil_append, hp_1, hp_2, true_and, and_true, zb_0, zb_1, zb_b, va_rf, io_227, ↓ogf_227_0, ↓ogf_227_1, ↓opf_227_1, ↓ogf_227_2, ↓ogf_227_3, ↓ogf_227_4, ↓opf_227_4, ↓ogf_227_5, ↓opf_227_5, ↓ogf_227_6, ↓opf_227_6, gf_rt_4 ho, rn_I5, rn_I6, r0, e1, e2, e3, if_true, if_false]
theorem l_Runner_go (ho : isRt o) (hR : hasR M o len A) (hok : okR len A) (hfd : rI M 227 1 = nI fed) (hf2 : fed ≤ 16) {fuel : Nat} (hfu : fuel ≤ 100000) : ∀ (f did : Nat) (s : RSt), did + f = fuel → s.1 ≤ len → s.2.2.1 ≤ did → (mj_V (d + 3) lim mq_Runner_go 38 [.ref 227, .ref o, .int (nI fuel), .int (nI 4)] [] (hp (rnM M did s)) Q ↔ Q (some (.int (nI (rGo len A fed (rL M 228) f s did).1))) (hp (rnM M (rGo len A fed (rL M 228) f s did).2.1 (rGo len A fed (rL M 228) f s did).2.2))) := by
  intro f
  induction f with
  | zero =>
    intro did s hf hs hn
    obtain ⟨p, g, n, out⟩ := s
    have r0 : rI (rnM M did (p, g, n, out)) o 4 = nI len := (rn_Io (isRt_ne (j := 0) ho (by omega))).trans hR.1
    obtain rfl : did = fuel := by omega
    have e1 : ¬ nI did < nI did := nI_nlt (by omega) (by omega)
    rw [zi_Runner_go_38]
    by_cases h2 : p < len
    · have e2 : nI p < nI len := nI_lt h2 (by have := hok.1; omega)
      simp only [zi_Runner_go_39, zi_Runner_go_42, zi_Runner_go_43, zi_Runner_go_46, zi_Runner_go_47, zi_Runner_go_50, zi_Runner_go_51, zi_Runner_go_54, zi_Runner_go_57, zi_Runner_go_58, zi_Runner_go_59, zi_Runner_go_81, zi_Runner_go_82, zi_Runner_go_83, zi_Runner_go_86, zi_Runner_go_87, zi_Runner_go_88, zi_Runner_go_89, zi_Runner_go_92, zi_Runner_go_93, zi_Runner_go_96, zi_Runner_go_99, zi_Runner_go_100, zi_Runner_go_103, zi_Runner_go_104, ↓reduceIte, mj_op_s, Option.toList_some, Option.toList_none, List.cons_append, List.nil_append, hp_1, hp_2, true_and, and_true, zb_0, zb_1, zb_b, va_rf, io_227, ↓ogf_227_0, ↓ogf_227_1, ↓opf_227_1, ↓ogf_227_2, ↓ogf_227_3, ↓ogf_227_4, ↓opf_227_4, ↓ogf_227_5, ↓opf_227_5, ↓ogf_227_6, ↓opf_227_6, gf_rt_4 ho, rn_I5, rn_I6, r0, e1, e2, if_true, if_false, rGo, h2]
    · have e2 : ¬ nI p < nI len := nI_nlt (by omega) (by have := hok.1; have hs : p ≤ len := hs; omega)
      simp only [zi_Runner_go_39, zi_Runner_go_42, zi_Runner_go_43, zi_Runner_go_46, zi_Runner_go_47, zi_Runner_go_50, zi_Runner_go_51, zi_Runner_go_54, zi_Runner_go_57, zi_Runner_go_58, zi_Runner_go_59, zi_Runner_go_81, zi_Runner_go_82, zi_Runner_go_83, zi_Runner_go_86, zi_Runner_go_87, zi_Runner_go_88, zi_Runner_go_89, zi_Runner_go_92, zi_Runner_go_93, zi_Runner_go_96, zi_Runner_go_99, zi_Runner_go_100, zi_Runner_go_103, zi_Runner_go_104, ↓reduceIte, mj_op_s, Option.toList_some, Option.toList_none, List.cons_append, List.nil_append, hp_1, hp_2, true_and, and_true, zb_0, zb_1, zb_b, va_rf, io_227, ↓ogf_227_0, ↓ogf_227_1, ↓opf_227_1, ↓ogf_227_2, ↓ogf_227_3, ↓ogf_227_4, ↓opf_227_4, ↓ogf_227_5, ↓opf_227_5, ↓ogf_227_6, ↓opf_227_6, gf_rt_4 ho, rn_I5, rn_I6, r0, e1, e2, if_true, if_false, rGo, h2]
  | succ f ih =>
    intro did s hf hs hn
    obtain ⟨p, g, n, out⟩ := s
    have r0 : ∀ did s, rI (rnM M did s) o 4 = nI len := fun did s => (rn_Io (isRt_ne (j := 0) ho (by omega))).trans hR.1
    have e1 : nI did < nI fuel := nI_lt (by omega) (by omega)
    have h50 := hok.1
    have hs : p ≤ len := hs
    have hn : n ≤ did := hn
    rw [zi_Runner_go_38]
    by_cases h2 : p < len
    · have e2 : nI p < nI len := nI_lt h2 (by omega)
      have e4 : (nI 4 = nI 4) = True := eq_self _
      obtain ⟨k1, k2, k3⟩ := rSt_ok (s := (p, g, n, out)) (A := A) (fed := fed) (fd := rL M 228) h2
      simp only [zi_Runner_go_39, zi_Runner_go_42, zi_Runner_go_43, zi_Runner_go_46, zi_Runner_go_47, zi_Runner_go_50, zi_Runner_go_51, zi_Runner_go_54, zi_Runner_go_57, zi_Runner_go_58, zi_Runner_go_59, zi_Runner_go_62, zi_Runner_go_63, zi_Runner_go_64, zi_Runner_go_67, zi_Runner_go_68, zi_Runner_go_69, zi_Runner_go_72, zi_Runner_go_73, zi_Runner_go_74, zi_Runner_go_77, zi_Runner_go_78, ↓reduceIte, mj_op_s, Option.toList_some, Option.toList_none, List.cons_append, List.nil_append, hp_1, hp_2, true_and, and_true, zb_0, zb_1, zb_b, va_rf, io_227, ↓ogf_227_0, ↓ogf_227_1, ↓opf_227_1, ↓ogf_227_2, ↓ogf_227_3, ↓ogf_227_4, ↓opf_227_4, ↓ogf_227_5, ↓opf_227_5, ↓ogf_227_6, ↓opf_227_6, gf_rt_4 ho, rn_I5, rn_I6, r0, e1, e2, if_true, rn_w5, nI_add, c_Runner_doAct ho hR hok hfd hf2 h2 (show n < 2 ^ 30 by omega), rGo, h2]
      have k4 := rSt_stop (s := (p, g, n, out)) (len := len) (A := A) (fed := fed) (fd := rL M 228)
      generalize rSt len A fed (rL M 228) (p, g, n, out) = RR at k1 k2 k3 k4 ⊢
      by_cases h3 : RR.1 = 0
      · simp only [h3, if_true]
        exact ih (did + 1) RR.2 (by omega) k1 (by omega)
      · simp only [h3, if_false]
        exact l_Runner_exit (k3.resolve_left h3) ho hR.1 (by rw [k4 h3]; exact h2) h50 hfu (by omega)
    · have e2 : ¬ nI p < nI len := nI_nlt (by omega) (by omega)
      simp only [zi_Runner_go_39, zi_Runner_go_42, zi_Runner_go_43, zi_Runner_go_46, zi_Runner_go_47, zi_Runner_go_50, zi_Runner_go_51, zi_Runner_go_54, zi_Runner_go_57, zi_Runner_go_58, zi_Runner_go_59, zi_Runner_go_81, zi_Runner_go_82, zi_Runner_go_83, zi_Runner_go_86, zi_Runner_go_87, zi_Runner_go_88, zi_Runner_go_89, zi_Runner_go_92, zi_Runner_go_93, zi_Runner_go_96, zi_Runner_go_99, zi_Runner_go_100, zi_Runner_go_103, zi_Runner_go_104, ↓reduceIte, mj_op_s, Option.toList_some, Option.toList_none, List.cons_append, List.nil_append, hp_1, hp_2, true_and, and_true, zb_0, zb_1, zb_b, va_rf, io_227, ↓ogf_227_0, ↓ogf_227_1, ↓opf_227_1, ↓ogf_227_2, ↓ogf_227_3, ↓ogf_227_4, ↓opf_227_4, ↓ogf_227_5, ↓opf_227_5, ↓ogf_227_6, ↓opf_227_6, gf_rt_4 ho, rn_I5, rn_I6, r0, e1, e2, if_true, if_false, rGo, h2]
theorem l_Runner_zero : ∀ (m j : Nat), j + m = 8 → ∀ {fu : Int32}, (mj_V d lim mq_Runner_go 2 [.ref 227, .ref o, .int fu, .int (nI j)] [] (hp (itr (fun r M => wL M 229 r 0) j M)) Q ↔ mj_V d lim mq_Runner_go 21 [.ref 227, .ref o, .int fu, .int (nI 8)] [] (hp (itr (fun r M => wL M 229 r 0) 8 M)) Q) := by
  intro m
  induction m with
  | zero =>
    intro j hj fu
    obtain rfl : j = 8 := by omega
    rw [zi_Runner_go_2]
    simp (decide := true) only [zi_Runner_go_3, zi_Runner_go_5, zi_Runner_go_8, zi_Runner_go_9, zi_Runner_go_12, zi_Runner_go_13, zi_Runner_go_14, zi_Runner_go_15, zi_Runner_go_18, ↓reduceIte, mj_op_s, Option.toList_some, Option.toList_none, List.cons_append, List.nil_append, hp_1, hp_2, true_and, and_true, zb_0, zb_1, zb_b, va_rf, if_false]
  | succ m ih =>
    intro j hj fu
    have hj8 : j < 8 := by omega
    have e1 : nI j < nI 8 := nI_lt (by omega) (by omega)
    rw [zi_Runner_go_2]
    simp (disch := assumption) only [zi_Runner_go_3, zi_Runner_go_5, zi_Runner_go_8, zi_Runner_go_9, zi_Runner_go_12, zi_Runner_go_13, zi_Runner_go_14, zi_Runner_go_15, zi_Runner_go_18, ↓reduceIte, mj_op_s, Option.toList_some, Option.toList_none, List.cons_append, List.nil_append, hp_1, hp_2, true_and, and_true, zb_0, zb_1, zb_b, va_rf, io_227, ↓ogf_227_0, ↓ogf_227_1, ↓opf_227_1, ↓ogf_227_2, ↓ogf_227_3, ↓ogf_227_4, ↓opf_227_4, ↓ogf_227_5, ↓opf_227_5, ↓ogf_227_6, ↓opf_227_6, ↓oal_229, ↓owl_229, e1, if_true, nI_add]
    exact ih (j + 1) (by omega)
theorem itr_L0 {c : Nat} : ∀ (j : Nat) (i k : Nat), rL (itr (fun r M => wL M c r 0) j M) i k = if i = c ∧ k < j then 0 else rL M i k
  | 0, i, k => by simp [itr]
  | j + 1, i, k => by
    have ih := itr_L0 (c := c) j i k
    simp only [itr, rL_wL, ih]
    by_cases h1 : i = c ∧ k = j
    · obtain ⟨rfl, rfl⟩ := h1; simp
    · rw [if_neg h1]
      by_cases h2 : i = c ∧ k < j
      · rw [if_pos h2, if_pos ⟨h2.1, by omega⟩]
      · rw [if_neg h2, if_neg (fun z => by omega)]
theorem itr_I0 {c : Nat} : ∀ (j : Nat) (i k : Nat), rI (itr (fun r M => wL M c r 0) j M) i k = rI M i k
  | 0, i, k => rfl
  | j + 1, i, k => by
    have ih := itr_I0 (c := c) j i k
    simp only [itr, rI_wL, ih]
theorem itr_R0 {c : Nat} : ∀ (j : Nat), (itr (fun r M => wL M c r 0) j M).2.2 = M.2.2
  | 0 => rfl
  | j + 1 => itr_R0 j
theorem rn_start : wI (wI (wI (itr (fun r M => wL M 229 r 0) 8 M) 227 4 (nI 0)) 227 5 (nI 0)) 227 6 (nI 0) = rnM M 0 (0, fun _ => 0, 0, rL M 230) := by
  refine mm_ext (fun i k => ?_) (fun i k => ?_) (fun i k => ?_) ?_
  · simp only [rI_wI, rn_I, itr_I0]
    by_cases h1 : i = 227 ∧ k = 6
    · obtain ⟨rfl, rfl⟩ := h1; rfl
    · rw [if_neg h1]
      by_cases h2 : i = 227 ∧ k = 5
      · obtain ⟨rfl, rfl⟩ := h2; rfl
      · rw [if_neg h2]
        simp only [h1, h2, if_false]
  · simp only [rL_wI, rn_L, itr_L0]
    by_cases h1 : i = 229 ∧ k < 8
    · rw [if_pos h1, if_pos h1]
    · rw [if_neg h1, if_neg h1]
      by_cases h2 : i = 230 ∧ k < 200
      · obtain ⟨rfl, h2⟩ := h2; simp only [h2, and_self, if_true]
      · rw [if_neg h2]
  · show (wI _ 227 6 _).2.2.1 i k = _
    have e := congrArg (fun z => z.1 i k) (itr_R0 (M := M) (c := 229) 8)
    exact e
  · exact congrArg Prod.snd (itr_R0 (M := M) (c := 229) 8)
theorem c_Runner_go (ho : isRt o) (hR : hasR M o len A) (hok : okR len A) (hfd : rI M 227 1 = nI fed) (hf2 : fed ≤ 16) {fuel : Nat} (hfu : fuel ≤ 100000) : mj_V (d + 3) lim mq_Runner_go 0 [.ref 227, .ref o, .int (nI fuel), mj_j] [] (hp M) Q ↔ Q (some (.int (nI (rGo len A fed (rL M 228) fuel (0, fun _ => 0, 0, rL M 230) 0).1))) (hp (rnM M (rGo len A fed (rL M 228) fuel (0, fun _ => 0, 0, rL M 230) 0).2.1 (rGo len A fed (rL M 228) fuel (0, fun _ => 0, 0, rL M 230) 0).2.2)) := by
  have e0 := l_Runner_zero (d := d + 3) (lim := lim) (Q := Q) (M := M) (o := o) 8 0 (by omega) (fu := nI fuel)
  have e1 := l_Runner_go (d := d) (lim := lim) (Q := Q) ho hR hok hfd hf2 hfu fuel 0 (0, fun _ => 0, 0, rL M 230) (Nat.zero_add _) (Nat.zero_le _) (Nat.le_refl 0)
  rw [← e1, ← rn_start]
  simp only [zi_Runner_go_0, zi_Runner_go_1, ↓reduceIte, mj_op_s, Option.toList_some, Option.toList_none, List.cons_append, List.nil_append, hp_1, hp_2, true_and, and_true, zb_0, zb_1, zb_b, va_rf]
  refine Iff.trans e0 ?_
  simp only [zi_Runner_go_21, zi_Runner_go_22, zi_Runner_go_23, zi_Runner_go_26, zi_Runner_go_27, zi_Runner_go_28, zi_Runner_go_31, zi_Runner_go_32, zi_Runner_go_33, zi_Runner_go_36, zi_Runner_go_37, ↓reduceIte, mj_op_s, Option.toList_some, Option.toList_none, List.cons_append, List.nil_append, hp_1, hp_2, true_and, and_true, zb_0, zb_1, zb_b, va_rf, io_227, ↓ogf_227_0, ↓ogf_227_1, ↓opf_227_1, ↓ogf_227_2, ↓ogf_227_3, ↓ogf_227_4, ↓opf_227_4, ↓ogf_227_5, ↓opf_227_5, ↓ogf_227_6, ↓opf_227_6]
end C46
