/-! class: Judge.lookAt and hear -/
abbrev jsP (i k : Nat) : Prop := ssP 239 i k ∨ ssP 247 i k
section C9B
variable {d : Nat} {lim : Nat × Nat} {Q : mj_Q} {M M' : mm} {oa ob la lb p q j r n i : Nat} {A B : AA} {W : WS} {x : WR} {f g : Nat → TH}
theorem jX_s (ra : isRt oa) (rb : isRt ob) (h : sv jsP M M') (hX : jX W oa ob la lb A B M) : jX W oa ob la lb A B M' := by
  obtain ⟨h1, h2, h3, h4, h5, h6, h7, h8⟩ := hX
  have hn : ∀ i k, 231 ≤ i → i ≤ 237 → ¬ jsP i k := fun i k a b => by unfold jsP ssP; omega
  have hr : ∀ o, isRt o → ∀ j k, j ≤ 4 → ¬ jsP (o + j) k := fun o ho j k hj z => by
    rcases z with z | z
    · exact ss_rt ho sd239 j k hj z
    · exact ss_rt ho sd247 j k hj z
  refine ⟨⟨(sv_I h (hn _ _ (by omega) (by omega))).trans h1.1, fun i hi => ?_⟩, (sv_R h (by unfold jsP ssP; omega)).trans h2, (sv_R h (by unfold jsP ssP; omega)).trans h3, sv_hasR h (hr oa ra) h4, sv_hasR h (hr ob rb) h5, (sv_I h (by unfold jsP ssP; omega)).trans h6, (sv_I h (by unfold jsP ssP; omega)).trans h7, fun p q hp0 hq0 => (sv_I h (by unfold jsP ssP; omega)).trans (h8 p q hp0 hq0)⟩
  obtain ⟨b1, b2, b3, b4, b5⟩ := h1.2 i hi
  exact ⟨(sv_I h (hn _ _ (by omega) (by omega))).trans b1, (sv_I h (hn _ _ (by omega) (by omega))).trans b2, (sv_I h (hn _ _ (by omega) (by omega))).trans b3, (sv_I h (hn _ _ (by omega) (by omega))).trans b4, fun r hr => ⟨(sv_I h (hn _ _ (by omega) (by omega))).trans (b5 r hr).1, (sv_L h (hn _ _ (by omega) (by omega))).trans (b5 r hr).2⟩⟩
theorem js_1 (h : sv (ssP 239) M M') : sv jsP M M' := sv_mono h (fun i k h => Or.inl h)
theorem js_2 (h : sv (ssP 247) M M') : sv jsP M M' := sv_mono h (fun i k h => Or.inr h)
theorem sdS_o {s s2 own : Nat} (h : sv (ssP s2) M M') (hn : (s = 239 ∧ s2 = 247) ∨ (s = 247 ∧ s2 = 239)) (hS : sdS M s own x f) : sdS M' s own x f := by
  have e1 : ∀ r, rI M' (s + 6) r = rI M (s + 6) r ∧ rL M' (s + 7) r = rL M (s + 7) r := fun r => ⟨sv_I h (by unfold ssP; omega), sv_L h (by unfold ssP; omega)⟩
  have e2 : ∀ k, rI M' s k = rI M s k ∧ rL M' s k = rL M s k := fun k => ⟨sv_I h (by unfold ssP; omega), sv_L h (by unfold ssP; omega)⟩
  intro r hr
  obtain ⟨a1, a2, a3⟩ := hS r hr
  rw [(e1 r).1, (e1 r).2, (e2 5).1, (e2 6).1, (e2 7).2, (e2 8).1, (e2 9).2]
  exact ⟨a1, a2, a3⟩
theorem sdZ_o {s s2 own : Nat} (h : sv (ssP s2) M M') (hn : (s = 239 ∧ s2 = 247) ∨ (s = 247 ∧ s2 = 239)) (hZ : sdZ M s own x) : sdZ M' s own x := fun r hr => ⟨(sv_I h (by unfold ssP; omega)).trans (hZ r hr).1, (sv_L h (by unfold ssP; omega)).trans (hZ r hr).2⟩
theorem sdC_o {s s2 o len : Nat} (ro : isRt o) (h : sv (ssP s2) M M') (hn : (s = 239 ∧ s2 = 247) ∨ (s = 247 ∧ s2 = 239)) (hC : sdC M s o len A p) : sdC M' s o len A p := ⟨(sv_R h (by unfold ssP; omega)).trans hC.1, (sv_I h (by unfold ssP; omega)).trans hC.2.1, sv_hasR h (ss_rt ro (by rcases hn with z | z; exact Or.inr z.2; exact Or.inl z.2)) hC.2.2⟩
theorem no12 : (239 = 239 ∧ 247 = 247) ∨ (239 = 247 ∧ 247 = 239) := Or.inl ⟨rfl, rfl⟩
theorem no21 : (247 = 239 ∧ 239 = 247) ∨ (247 = 247 ∧ 239 = 239) := Or.inr ⟨rfl, rfl⟩
theorem smT_0 {a b : Nat} : smT x (t0 x a) (t0 x b) = alk x a b := by
  unfold smT alk t0
  cases k1 : isNu x a <;> cases k2 : isNu x b
  · simp
  · simp
  · simp
  · simp
/-- both at their places, before a step -/
def jS (M : mm) (x : WR) (oa ob la lb : Nat) (A B : AA) (p q : Nat) : Prop := sdC M 239 oa la A p ∧ sdC M 247 ob lb B q ∧ sdZ M 239 3 x ∧ sdZ M 247 4 x
theorem c_lookAtQuiet (ra : isRt oa) (rb : isRt ob) (hX : jX W oa ob la lb A B M) (hok : okW W) (hA : okR la A) (hB : okR lb B) (hS : jS M x oa ob la lb A B p q) (hp0 : p < la) (hq0 : q < lb) (hm : x.2.2.1 = 0) (q1 : quie x A p = true) (q2 : quie x B q = true) (hend : ∀ M', sv jsP M M' → Q (some (.int (nI (wnt W la lb x (goes x la A p) (goes x lb B q) (tx x A p) (tx x B q))))) (hp M')) : mj_V (d + 3) lim mq_Judge_lookAtQuiet 0 [.ref 238] [] (hp M) Q := by
  obtain ⟨s1, s2, s3, s4⟩ := hS
  have hla := hA.1
  have hlb := hB.1
  simp (decide := true) (disch := first | assumption | omega) only [zi_Judge_lookAtQuiet_0, zi_Judge_lookAtQuiet_1, zi_Judge_lookAtQuiet_4, ↓reduceIte, mj_op_s, Option.toList_some, Option.toList_none, List.cons_append, List.nil_append, hp_1, hp_2, true_and, and_true, zb_0, zb_1, zb_b, va_rf, io_238, ↓ogf_238_0, ↓ogf_238_1, ↓ogf_238_2, ↓ogf_238_3, ↓ogf_238_4, ↓opf_238_4, io_239, ↓ogf_239_0, ↓opf_239_0, ↓ogf_239_1, ↓opf_239_1, ↓ogf_239_2, ↓opf_239_2, ↓ogf_239_3, ↓ogf_239_4, ↓ogf_239_5, ↓opf_239_5, ↓ogf_239_6, ↓opf_239_6, ↓ogf_239_7, ↓opf_239_7, ↓ogf_239_8, ↓opf_239_8, ↓ogf_239_9, ↓opf_239_9]
  refine c_doQuietAct sd239 ow3 ra s1 hA hp0 s3 q1 (fun M1 hv1 hp1 hS1 => ?_)
  have hX1 := jX_s ra rb (js_1 hv1) hX
  simp (decide := true) (disch := first | assumption | omega) only [zi_Judge_lookAtQuiet_7, zi_Judge_lookAtQuiet_8, zi_Judge_lookAtQuiet_11, ↓reduceIte, mj_op_s, Option.toList_some, Option.toList_none, List.cons_append, List.nil_append, hp_1, hp_2, true_and, and_true, zb_0, zb_1, zb_b, va_rf, io_238, ↓ogf_238_0, ↓ogf_238_1, ↓ogf_238_2, ↓ogf_238_3, ↓ogf_238_4, ↓opf_238_4, io_247, ↓ogf_247_0, ↓opf_247_0, ↓ogf_247_1, ↓opf_247_1, ↓ogf_247_2, ↓opf_247_2, ↓ogf_247_3, ↓ogf_247_4, ↓ogf_247_5, ↓opf_247_5, ↓ogf_247_6, ↓opf_247_6, ↓ogf_247_7, ↓opf_247_7, ↓ogf_247_8, ↓opf_247_8, ↓ogf_247_9, ↓opf_247_9]
  refine c_doQuietAct sd247 ow4 rb (sdC_o rb hv1 no21 s2) hB hq0 (sdZ_o hv1 no21 s4) q2 (fun M2 hv2 hp2 hS2 => ?_)
  have hX2 := jX_s ra rb (js_2 hv2) hX1
  have hp1' : rI M2 239 2 = nI (goes x la A p) := (sv_I hv2 (by unfold ssP; omega)).trans hp1
  have g1 := goes_le (x := x) (A := A) hp0
  have g2 := goes_le (x := x) (A := B) hq0
  simp (decide := true) (disch := first | assumption | omega) only [zi_Judge_lookAtQuiet_14, zi_Judge_lookAtQuiet_15, zi_Judge_lookAtQuiet_16, zi_Judge_lookAtQuiet_19, zi_Judge_lookAtQuiet_22, zi_Judge_lookAtQuiet_23, zi_Judge_lookAtQuiet_26, zi_Judge_lookAtQuiet_29, zi_Judge_lookAtQuiet_32, zi_Judge_lookAtQuiet_35, ↓reduceIte, mj_op_s, Option.toList_some, Option.toList_none, List.cons_append, List.nil_append, hp_1, hp_2, true_and, and_true, zb_0, zb_1, zb_b, va_rf, io_238, ↓ogf_238_0, ↓ogf_238_1, ↓ogf_238_2, ↓ogf_238_3, ↓ogf_238_4, ↓opf_238_4, io_239, ↓ogf_239_0, ↓opf_239_0, ↓ogf_239_1, ↓opf_239_1, ↓ogf_239_2, ↓opf_239_2, ↓ogf_239_3, ↓ogf_239_4, ↓ogf_239_5, ↓opf_239_5, ↓ogf_239_6, ↓opf_239_6, ↓ogf_239_7, ↓opf_239_7, ↓ogf_239_8, ↓opf_239_8, ↓ogf_239_9, ↓opf_239_9, io_247, ↓ogf_247_0, ↓opf_247_0, ↓ogf_247_1, ↓opf_247_1, ↓ogf_247_2, ↓opf_247_2, ↓ogf_247_3, ↓ogf_247_4, ↓ogf_247_5, ↓opf_247_5, ↓ogf_247_6, ↓opf_247_6, ↓ogf_247_7, ↓opf_247_7, ↓ogf_247_8, ↓opf_247_8, ↓ogf_247_9, ↓opf_247_9, hp1', hp2, c_jgoOn hX2 hok (show goes x la A p ≤ 50 by omega) (show goes x lb B q ≤ 50 by omega) (sdS_o hv2 no12 hS1) hS2 (fun r hr => okT_x (hA.2 p hp0) hr) (fun r hr => okT_x (hB.2 q hq0) hr) (fun r => okU_x) (fun r => okU_x) (show 1001 < 2 ^ 31 by omega) (fun n hn => ⟨fun _ z => by omega, fun _ => by have : (W.2 n).2.2.2.1 ≤ 1000 := (hok.2 n hn).2.2.2.1; omega⟩)]
  exact hend M2 (sv_trans (js_1 hv1) (js_2 hv2))
theorem c_lookAtOne1 (ra : isRt oa) (rb : isRt ob) (hX : jX W oa ob la lb A B M) (hok : okW W) (hA : okR la A) (hB : okR lb B) (hS : jS M x oa ob la lb A B p q) (hp0 : p ≤ la) (hq0 : q ≤ lb) (hm : x.2.2.1 = 1) (hms : x.2.2.2.1 ≤ 1000) (hend : ∀ M', sv jsP M M' → Q (some (.int (nI (if (decide (p < la) && quie x A p) = true then wnt W la lb x (goes x la A p) q (tx x A p) (t0 x) else 3)))) (hp M')) : mj_V (d + 3) lim mq_Judge_lookAtOne 0 [.ref 238, .ref 239, .int (nI x.2.2.2.1)] [] (hp M) Q := by
  obtain ⟨s1, s2, s3, s4⟩ := hS
  have hla := hA.1
  have hlb := hB.1
  cases hb : (decide (p < la) && quie x A p) with
  | false =>
    rw [hb, if_neg (by simp)] at hend
    simp (decide := true) (disch := first | assumption | omega) only [zi_Judge_lookAtOne_0, zi_Judge_lookAtOne_1, zi_Judge_lookAtOne_4, zi_Judge_lookAtOne_7, zi_Judge_lookAtOne_8, ↓reduceIte, mj_op_s, Option.toList_some, Option.toList_none, List.cons_append, List.nil_append, hp_1, hp_2, true_and, and_true, zb_0, zb_1, zb_b, va_rf, io_238, ↓ogf_238_0, ↓ogf_238_1, ↓ogf_238_2, ↓ogf_238_3, ↓ogf_238_4, ↓opf_238_4, io_239, ↓ogf_239_0, ↓opf_239_0, ↓ogf_239_1, ↓opf_239_1, ↓ogf_239_2, ↓opf_239_2, ↓ogf_239_3, ↓ogf_239_4, ↓ogf_239_5, ↓opf_239_5, ↓ogf_239_6, ↓opf_239_6, ↓ogf_239_7, ↓opf_239_7, ↓ogf_239_8, ↓opf_239_8, ↓ogf_239_9, ↓opf_239_9, c_Side_isQuiet sd239 ow3 ra s1 hA hp0 s3, hb, b1_f]
    exact hend M sv_refl
  | true =>
    rw [hb, if_pos rfl] at hend
    simp only [Bool.and_eq_true, decide_eq_true_eq] at hb
    obtain ⟨c, q1⟩ := hb
    have hbb : (decide (p < la) && quie x A p) = true := by rw [decide_eq_true c, q1]; rfl
    simp (decide := true) (disch := first | assumption | omega) only [zi_Judge_lookAtOne_0, zi_Judge_lookAtOne_1, zi_Judge_lookAtOne_4, zi_Judge_lookAtOne_7, zi_Judge_lookAtOne_8, zi_Judge_lookAtOne_9, zi_Judge_lookAtOne_10, ↓reduceIte, mj_op_s, Option.toList_some, Option.toList_none, List.cons_append, List.nil_append, hp_1, hp_2, true_and, and_true, zb_0, zb_1, zb_b, va_rf, io_238, ↓ogf_238_0, ↓ogf_238_1, ↓ogf_238_2, ↓ogf_238_3, ↓ogf_238_4, ↓opf_238_4, io_239, ↓ogf_239_0, ↓opf_239_0, ↓ogf_239_1, ↓opf_239_1, ↓ogf_239_2, ↓opf_239_2, ↓ogf_239_3, ↓ogf_239_4, ↓ogf_239_5, ↓opf_239_5, ↓ogf_239_6, ↓opf_239_6, ↓ogf_239_7, ↓opf_239_7, ↓ogf_239_8, ↓opf_239_8, ↓ogf_239_9, ↓opf_239_9, c_Side_isQuiet sd239 ow3 ra s1 hA hp0 s3, hbb, b1_t]
    refine c_doQuietAct sd239 ow3 ra s1 hA c s3 q1 (fun M1 hv1 hp1 hS1 => ?_)
    have hX1 := jX_s ra rb (js_1 hv1) hX
    have hp2 : rI M1 247 2 = nI q := (sv_I hv1 (by unfold ssP; omega)).trans s2.2.1
    have g1 := goes_le (x := x) (A := A) c
    simp (decide := true) (disch := first | assumption | omega) only [zi_Judge_lookAtOne_13, zi_Judge_lookAtOne_14, zi_Judge_lookAtOne_15, zi_Judge_lookAtOne_18, zi_Judge_lookAtOne_21, zi_Judge_lookAtOne_22, zi_Judge_lookAtOne_25, zi_Judge_lookAtOne_28, zi_Judge_lookAtOne_29, zi_Judge_lookAtOne_32, ↓reduceIte, mj_op_s, Option.toList_some, Option.toList_none, List.cons_append, List.nil_append, hp_1, hp_2, true_and, and_true, zb_0, zb_1, zb_b, va_rf, io_238, ↓ogf_238_0, ↓ogf_238_1, ↓ogf_238_2, ↓ogf_238_3, ↓ogf_238_4, ↓opf_238_4, io_239, ↓ogf_239_0, ↓opf_239_0, ↓ogf_239_1, ↓opf_239_1, ↓ogf_239_2, ↓opf_239_2, ↓ogf_239_3, ↓ogf_239_4, ↓ogf_239_5, ↓opf_239_5, ↓ogf_239_6, ↓opf_239_6, ↓ogf_239_7, ↓opf_239_7, ↓ogf_239_8, ↓opf_239_8, ↓ogf_239_9, ↓opf_239_9, io_247, ↓ogf_247_0, ↓opf_247_0, ↓ogf_247_1, ↓opf_247_1, ↓ogf_247_2, ↓opf_247_2, ↓ogf_247_3, ↓ogf_247_4, ↓ogf_247_5, ↓opf_247_5, ↓ogf_247_6, ↓opf_247_6, ↓ogf_247_7, ↓opf_247_7, ↓ogf_247_8, ↓opf_247_8, ↓ogf_247_9, ↓opf_247_9, hp1, hp2, c_jgoOn hX1 hok (show goes x la A p ≤ 50 by omega) (show q ≤ 50 by omega) hS1 (sdZ_S (sdZ_o hv1 no21 s4)) (fun r hr => okT_x (hA.2 p c) hr) (fun r hr => okT_0 hr) (fun r => okU_x) (fun r => okU_0) (show x.2.2.2.1 < 2 ^ 31 by omega) (fun n hn => ⟨fun z y => y.2 z, fun z => Classical.byContradiction fun y => z ⟨by omega, y⟩⟩)]
    exact hend M1 (js_1 hv1)
theorem c_lookAtOne2 (ra : isRt oa) (rb : isRt ob) (hX : jX W oa ob la lb A B M) (hok : okW W) (hA : okR la A) (hB : okR lb B) (hS : jS M x oa ob la lb A B p q) (hp0 : p ≤ la) (hq0 : q ≤ lb) (hm : x.2.2.1 = 2) (hms : x.2.2.2.1 ≤ 1000) (hend : ∀ M', sv jsP M M' → Q (some (.int (nI (if (decide (q < lb) && quie x B q) = true then wnt W la lb x p (goes x lb B q) (t0 x) (tx x B q) else 3)))) (hp M')) : mj_V (d + 3) lim mq_Judge_lookAtOne 0 [.ref 238, .ref 247, .int (nI x.2.2.2.1)] [] (hp M) Q := by
  obtain ⟨s1, s2, s3, s4⟩ := hS
  have hla := hA.1
  have hlb := hB.1
  cases hb : (decide (q < lb) && quie x B q) with
  | false =>
    rw [hb, if_neg (by simp)] at hend
    simp (decide := true) (disch := first | assumption | omega) only [zi_Judge_lookAtOne_0, zi_Judge_lookAtOne_1, zi_Judge_lookAtOne_4, zi_Judge_lookAtOne_7, zi_Judge_lookAtOne_8, ↓reduceIte, mj_op_s, Option.toList_some, Option.toList_none, List.cons_append, List.nil_append, hp_1, hp_2, true_and, and_true, zb_0, zb_1, zb_b, va_rf, io_238, ↓ogf_238_0, ↓ogf_238_1, ↓ogf_238_2, ↓ogf_238_3, ↓ogf_238_4, ↓opf_238_4, io_247, ↓ogf_247_0, ↓opf_247_0, ↓ogf_247_1, ↓opf_247_1, ↓ogf_247_2, ↓opf_247_2, ↓ogf_247_3, ↓ogf_247_4, ↓ogf_247_5, ↓opf_247_5, ↓ogf_247_6, ↓opf_247_6, ↓ogf_247_7, ↓opf_247_7, ↓ogf_247_8, ↓opf_247_8, ↓ogf_247_9, ↓opf_247_9, c_Side_isQuiet sd247 ow4 rb s2 hB hq0 s4, hb, b1_f]
    exact hend M sv_refl
  | true =>
    rw [hb, if_pos rfl] at hend
    simp only [Bool.and_eq_true, decide_eq_true_eq] at hb
    obtain ⟨c, q1⟩ := hb
    have hbb : (decide (q < lb) && quie x B q) = true := by rw [decide_eq_true c, q1]; rfl
    simp (decide := true) (disch := first | assumption | omega) only [zi_Judge_lookAtOne_0, zi_Judge_lookAtOne_1, zi_Judge_lookAtOne_4, zi_Judge_lookAtOne_7, zi_Judge_lookAtOne_8, zi_Judge_lookAtOne_9, zi_Judge_lookAtOne_10, ↓reduceIte, mj_op_s, Option.toList_some, Option.toList_none, List.cons_append, List.nil_append, hp_1, hp_2, true_and, and_true, zb_0, zb_1, zb_b, va_rf, io_238, ↓ogf_238_0, ↓ogf_238_1, ↓ogf_238_2, ↓ogf_238_3, ↓ogf_238_4, ↓opf_238_4, io_247, ↓ogf_247_0, ↓opf_247_0, ↓ogf_247_1, ↓opf_247_1, ↓ogf_247_2, ↓opf_247_2, ↓ogf_247_3, ↓ogf_247_4, ↓ogf_247_5, ↓opf_247_5, ↓ogf_247_6, ↓opf_247_6, ↓ogf_247_7, ↓opf_247_7, ↓ogf_247_8, ↓opf_247_8, ↓ogf_247_9, ↓opf_247_9, c_Side_isQuiet sd247 ow4 rb s2 hB hq0 s4, hbb, b1_t]
    refine c_doQuietAct sd247 ow4 rb s2 hB c s4 q1 (fun M1 hv1 hp1 hS1 => ?_)
    have hX1 := jX_s ra rb (js_2 hv1) hX
    have hp2 : rI M1 239 2 = nI p := (sv_I hv1 (by unfold ssP; omega)).trans s1.2.1
    have g1 := goes_le (x := x) (A := B) c
    simp (decide := true) (disch := first | assumption | omega) only [zi_Judge_lookAtOne_13, zi_Judge_lookAtOne_14, zi_Judge_lookAtOne_15, zi_Judge_lookAtOne_18, zi_Judge_lookAtOne_21, zi_Judge_lookAtOne_22, zi_Judge_lookAtOne_25, zi_Judge_lookAtOne_28, zi_Judge_lookAtOne_29, zi_Judge_lookAtOne_32, ↓reduceIte, mj_op_s, Option.toList_some, Option.toList_none, List.cons_append, List.nil_append, hp_1, hp_2, true_and, and_true, zb_0, zb_1, zb_b, va_rf, io_238, ↓ogf_238_0, ↓ogf_238_1, ↓ogf_238_2, ↓ogf_238_3, ↓ogf_238_4, ↓opf_238_4, io_239, ↓ogf_239_0, ↓opf_239_0, ↓ogf_239_1, ↓opf_239_1, ↓ogf_239_2, ↓opf_239_2, ↓ogf_239_3, ↓ogf_239_4, ↓ogf_239_5, ↓opf_239_5, ↓ogf_239_6, ↓opf_239_6, ↓ogf_239_7, ↓opf_239_7, ↓ogf_239_8, ↓opf_239_8, ↓ogf_239_9, ↓opf_239_9, io_247, ↓ogf_247_0, ↓opf_247_0, ↓ogf_247_1, ↓opf_247_1, ↓ogf_247_2, ↓opf_247_2, ↓ogf_247_3, ↓ogf_247_4, ↓ogf_247_5, ↓opf_247_5, ↓ogf_247_6, ↓opf_247_6, ↓ogf_247_7, ↓opf_247_7, ↓ogf_247_8, ↓opf_247_8, ↓ogf_247_9, ↓opf_247_9, hp1, hp2, c_jgoOn hX1 hok (show p ≤ 50 by omega) (show goes x lb B q ≤ 50 by omega) (sdZ_S (sdZ_o hv1 no12 s3)) hS1 (fun r hr => okT_0 hr) (fun r hr => okT_x (hB.2 q c) hr) (fun r => okU_0) (fun r => okU_x) (show x.2.2.2.1 < 2 ^ 31 by omega) (fun n hn => ⟨fun z y => y.2 z, fun z => Classical.byContradiction fun y => z ⟨by omega, y⟩⟩)]
    exact hend M1 (js_2 hv1)
theorem c_isLoudKind {a : Int32} {G : mj_H} : mj_V (d + 1) lim mq_Judge_isLoudKind 0 [.int a] [] G Q ↔ Q (some (.int (bI (ldK a)))) G := by
  simp only [zi_Judge_isLoudKind_0, zi_Judge_isLoudKind_1, zi_Judge_isLoudKind_4, zi_Judge_isLoudKind_7, zi_Judge_isLoudKind_8, zi_Judge_isLoudKind_10, zi_Judge_isLoudKind_13, zi_Judge_isLoudKind_14, zi_Judge_isLoudKind_16, zi_Judge_isLoudKind_19, zi_Judge_isLoudKind_20, zi_Judge_isLoudKind_22, zi_Judge_isLoudKind_25, zi_Judge_isLoudKind_26, zi_Judge_isLoudKind_29, zi_Judge_isLoudKind_30, ↓reduceIte, mj_op_s, Option.toList_some, Option.toList_none, List.cons_append, List.nil_append, hp_1, hp_2, true_and, and_true, zb_0, zb_1, zb_b, va_rf, c_Code_isDivision]
  unfold ldK isDv
  by_cases h0 : a = nI 6 <;> by_cases h1 : a = nI 7 <;> by_cases h2 : a = nI 10 <;> by_cases h3 : a = nI 11 <;> by_cases h4 : a = nI 13 <;> simp (decide := true) only [h0, h1, h2, h3, h4, bI, if_true, if_false, or_true, true_or, or_false, false_or, or_self, ite_self]
theorem c_asksSame (ra : isRt oa) (rb : isRt ob) (hA : okR la A) (hB : okR lb B) (hS : jS M x oa ob la lb A B p q) (hp0 : p < la) (hq0 : q < lb) (hk : A p 0 = B q 0) (hl : ldK (A p 0)) : mj_V (d + 1) lim mq_Judge_asksSame 0 [.ref 238, .int (A p 0), mj_j] [] (hp M) Q ↔ Q (some (.int (b1 (asks x A B p q)))) (hp M) := by
  obtain ⟨s1, s2, s3, s4⟩ := hS
  have hla := hA.1
  have hlb := hB.1
  have hsm : ∀ (Q : mj_Q) (d : Nat) lim a b, a < 8 → b < 8 → (mj_V d lim mq_Side_hasSame 0 [.ref 239, .int (nI a), .ref 247, .int (nI b)] [] (hp M) Q ↔ Q (some (.int (b1 (alk x a b)))) (hp M)) := by
    intro Q d lim a b ha hb
    rw [c_hasSame sd239 sd247 ow3 ow4 (by decide) ha hb (sdZ_S s3) (sdZ_S s4) (okT_0 ha) (okT_0 hb) okU_0 okU_0, smT_0]
  rcases hl with hl | hl | hl
  · have hm : (¬ A p 0 < nI 3 ∧ ¬ nI 9 < A p 0) := by rcases hl with z | z <;> rw [z] <;> decide
    obtain ⟨⟨ya, hya, eya⟩, ⟨za, hza, eza⟩⟩ := (okA_rn (hA.2 p hp0)).2.2.2.1 hm
    obtain ⟨⟨yb, hyb, eyb⟩, ⟨zb, hzb, ezb⟩⟩ := (okA_rn (hB.2 q hq0)).2.2.2.1 (hk ▸ hm)
    have n11 : ¬ (A p 0 = nI 11 ∨ A p 0 = nI 13) := by rcases hl with z | z <;> rw [z] <;> decide
    have m11 : ¬ A p 0 = nI 11 := fun z => n11 (Or.inl z)
    have m13 : ¬ A p 0 = nI 13 := fun z => n11 (Or.inr z)
    have n10 : ¬ A p 0 = nI 10 := by rcases hl with z | z <;> rw [z] <;> decide
    have eas : asks x A B p q = (alk x ya yb && alk x za zb) := by
      unfold asks
      rw [if_neg n11, eya, eyb, eza, ezb, cz_n (by omega), cz_n (by omega), cz_n (by omega), cz_n (by omega), decide_eq_false n10, Bool.false_or]
    rw [eas]
    cases k1 : alk x ya yb with
    | false => simp (decide := true) (disch := first | assumption | omega) only [zi_Judge_asksSame_0, zi_Judge_asksSame_1, zi_Judge_asksSame_3, zi_Judge_asksSame_6, zi_Judge_asksSame_7, zi_Judge_asksSame_9, zi_Judge_asksSame_12, zi_Judge_asksSame_13, zi_Judge_asksSame_16, zi_Judge_asksSame_17, zi_Judge_asksSame_20, zi_Judge_asksSame_23, zi_Judge_asksSame_24, zi_Judge_asksSame_27, zi_Judge_asksSame_28, zi_Judge_asksSame_31, zi_Judge_asksSame_34, zi_Judge_asksSame_37, zi_Judge_asksSame_38, zi_Judge_asksSame_39, zi_Judge_asksSame_42, zi_Judge_asksSame_43, zi_Judge_asksSame_46, zi_Judge_asksSame_49, zi_Judge_asksSame_50, zi_Judge_asksSame_53, zi_Judge_asksSame_54, zi_Judge_asksSame_57, zi_Judge_asksSame_60, zi_Judge_asksSame_63, zi_Judge_asksSame_64, zi_Judge_asksSame_65, zi_Judge_asksSame_68, zi_Judge_asksSame_69, zi_Judge_asksSame_71, zi_Judge_asksSame_74, zi_Judge_asksSame_75, zi_Judge_asksSame_78, zi_Judge_asksSame_79, zi_Judge_asksSame_82, zi_Judge_asksSame_85, zi_Judge_asksSame_86, zi_Judge_asksSame_89, zi_Judge_asksSame_90, zi_Judge_asksSame_93, zi_Judge_asksSame_96, zi_Judge_asksSame_99, zi_Judge_asksSame_102, zi_Judge_asksSame_103, zi_Judge_asksSame_106, zi_Judge_asksSame_107, ↓reduceIte, mj_op_s, Option.toList_some, Option.toList_none, List.cons_append, List.nil_append, hp_1, hp_2, true_and, and_true, zb_0, zb_1, zb_b, va_rf, io_238, ↓ogf_238_0, ↓ogf_238_1, ↓ogf_238_2, ↓ogf_238_3, ↓ogf_238_4, ↓opf_238_4, io_239, ↓ogf_239_0, ↓opf_239_0, ↓ogf_239_1, ↓opf_239_1, ↓ogf_239_2, ↓opf_239_2, ↓ogf_239_3, ↓ogf_239_4, ↓ogf_239_5, ↓opf_239_5, ↓ogf_239_6, ↓opf_239_6, ↓ogf_239_7, ↓opf_239_7, ↓ogf_239_8, ↓opf_239_8, ↓ogf_239_9, ↓opf_239_9, io_247, ↓ogf_247_0, ↓opf_247_0, ↓ogf_247_1, ↓opf_247_1, ↓ogf_247_2, ↓opf_247_2, ↓ogf_247_3, ↓ogf_247_4, ↓ogf_247_5, ↓opf_247_5, ↓ogf_247_6, ↓opf_247_6, ↓ogf_247_7, ↓opf_247_7, ↓ogf_247_8, ↓opf_247_8, ↓ogf_247_9, ↓opf_247_9, m11, m13, g_y sd239 ra s1 hla hp0, g_y sd247 rb s2 hlb hq0, eya, eyb, hsm, k1, b1_f, Bool.false_and]
    | true =>
      cases k2 : alk x za zb with
      | false => simp (decide := true) (disch := first | assumption | omega) only [zi_Judge_asksSame_0, zi_Judge_asksSame_1, zi_Judge_asksSame_3, zi_Judge_asksSame_6, zi_Judge_asksSame_7, zi_Judge_asksSame_9, zi_Judge_asksSame_12, zi_Judge_asksSame_13, zi_Judge_asksSame_16, zi_Judge_asksSame_17, zi_Judge_asksSame_20, zi_Judge_asksSame_23, zi_Judge_asksSame_24, zi_Judge_asksSame_27, zi_Judge_asksSame_28, zi_Judge_asksSame_31, zi_Judge_asksSame_34, zi_Judge_asksSame_37, zi_Judge_asksSame_38, zi_Judge_asksSame_39, zi_Judge_asksSame_42, zi_Judge_asksSame_43, zi_Judge_asksSame_46, zi_Judge_asksSame_49, zi_Judge_asksSame_50, zi_Judge_asksSame_53, zi_Judge_asksSame_54, zi_Judge_asksSame_57, zi_Judge_asksSame_60, zi_Judge_asksSame_63, zi_Judge_asksSame_64, zi_Judge_asksSame_65, zi_Judge_asksSame_68, zi_Judge_asksSame_69, zi_Judge_asksSame_71, zi_Judge_asksSame_74, zi_Judge_asksSame_75, zi_Judge_asksSame_78, zi_Judge_asksSame_79, zi_Judge_asksSame_82, zi_Judge_asksSame_85, zi_Judge_asksSame_86, zi_Judge_asksSame_89, zi_Judge_asksSame_90, zi_Judge_asksSame_93, zi_Judge_asksSame_96, zi_Judge_asksSame_99, zi_Judge_asksSame_102, zi_Judge_asksSame_103, zi_Judge_asksSame_106, zi_Judge_asksSame_107, ↓reduceIte, mj_op_s, Option.toList_some, Option.toList_none, List.cons_append, List.nil_append, hp_1, hp_2, true_and, and_true, zb_0, zb_1, zb_b, va_rf, io_238, ↓ogf_238_0, ↓ogf_238_1, ↓ogf_238_2, ↓ogf_238_3, ↓ogf_238_4, ↓opf_238_4, io_239, ↓ogf_239_0, ↓opf_239_0, ↓ogf_239_1, ↓opf_239_1, ↓ogf_239_2, ↓opf_239_2, ↓ogf_239_3, ↓ogf_239_4, ↓ogf_239_5, ↓opf_239_5, ↓ogf_239_6, ↓opf_239_6, ↓ogf_239_7, ↓opf_239_7, ↓ogf_239_8, ↓opf_239_8, ↓ogf_239_9, ↓opf_239_9, io_247, ↓ogf_247_0, ↓opf_247_0, ↓ogf_247_1, ↓opf_247_1, ↓ogf_247_2, ↓opf_247_2, ↓ogf_247_3, ↓ogf_247_4, ↓ogf_247_5, ↓opf_247_5, ↓ogf_247_6, ↓opf_247_6, ↓ogf_247_7, ↓opf_247_7, ↓ogf_247_8, ↓opf_247_8, ↓ogf_247_9, ↓opf_247_9, m11, m13, n10, g_y sd239 ra s1 hla hp0, g_y sd247 rb s2 hlb hq0, g_z sd239 ra s1 hla hp0, g_z sd247 rb s2 hlb hq0, eya, eyb, eza, ezb, hsm, k1, k2, b1_f, b1_t, Bool.and_false]
      | true => simp (decide := true) (disch := first | assumption | omega) only [zi_Judge_asksSame_0, zi_Judge_asksSame_1, zi_Judge_asksSame_3, zi_Judge_asksSame_6, zi_Judge_asksSame_7, zi_Judge_asksSame_9, zi_Judge_asksSame_12, zi_Judge_asksSame_13, zi_Judge_asksSame_16, zi_Judge_asksSame_17, zi_Judge_asksSame_20, zi_Judge_asksSame_23, zi_Judge_asksSame_24, zi_Judge_asksSame_27, zi_Judge_asksSame_28, zi_Judge_asksSame_31, zi_Judge_asksSame_34, zi_Judge_asksSame_37, zi_Judge_asksSame_38, zi_Judge_asksSame_39, zi_Judge_asksSame_42, zi_Judge_asksSame_43, zi_Judge_asksSame_46, zi_Judge_asksSame_49, zi_Judge_asksSame_50, zi_Judge_asksSame_53, zi_Judge_asksSame_54, zi_Judge_asksSame_57, zi_Judge_asksSame_60, zi_Judge_asksSame_63, zi_Judge_asksSame_64, zi_Judge_asksSame_65, zi_Judge_asksSame_68, zi_Judge_asksSame_69, zi_Judge_asksSame_71, zi_Judge_asksSame_74, zi_Judge_asksSame_75, zi_Judge_asksSame_78, zi_Judge_asksSame_79, zi_Judge_asksSame_82, zi_Judge_asksSame_85, zi_Judge_asksSame_86, zi_Judge_asksSame_89, zi_Judge_asksSame_90, zi_Judge_asksSame_93, zi_Judge_asksSame_96, zi_Judge_asksSame_99, zi_Judge_asksSame_102, zi_Judge_asksSame_103, zi_Judge_asksSame_106, zi_Judge_asksSame_107, ↓reduceIte, mj_op_s, Option.toList_some, Option.toList_none, List.cons_append, List.nil_append, hp_1, hp_2, true_and, and_true, zb_0, zb_1, zb_b, va_rf, io_238, ↓ogf_238_0, ↓ogf_238_1, ↓ogf_238_2, ↓ogf_238_3, ↓ogf_238_4, ↓opf_238_4, io_239, ↓ogf_239_0, ↓opf_239_0, ↓ogf_239_1, ↓opf_239_1, ↓ogf_239_2, ↓opf_239_2, ↓ogf_239_3, ↓ogf_239_4, ↓ogf_239_5, ↓opf_239_5, ↓ogf_239_6, ↓opf_239_6, ↓ogf_239_7, ↓opf_239_7, ↓ogf_239_8, ↓opf_239_8, ↓ogf_239_9, ↓opf_239_9, io_247, ↓ogf_247_0, ↓opf_247_0, ↓ogf_247_1, ↓opf_247_1, ↓ogf_247_2, ↓opf_247_2, ↓ogf_247_3, ↓ogf_247_4, ↓ogf_247_5, ↓opf_247_5, ↓ogf_247_6, ↓opf_247_6, ↓ogf_247_7, ↓opf_247_7, ↓ogf_247_8, ↓opf_247_8, ↓ogf_247_9, ↓opf_247_9, m11, m13, n10, g_y sd239 ra s1 hla hp0, g_y sd247 rb s2 hlb hq0, g_z sd239 ra s1 hla hp0, g_z sd247 rb s2 hlb hq0, eya, eyb, eza, ezb, hsm, k1, k2, b1_t, Bool.and_true]
  · obtain ⟨ya, hya, eya⟩ := (okA_rn (hA.2 p hp0)).2.1 hl
    obtain ⟨yb, hyb, eyb⟩ := (okA_rn (hB.2 q hq0)).2.1 (hk ▸ hl)
    have n11 : ¬ (A p 0 = nI 11 ∨ A p 0 = nI 13) := by rw [hl]; decide
    have eas : asks x A B p q = alk x ya yb := by
      unfold asks
      rw [if_neg n11, eya, eyb, cz_n (by omega), cz_n (by omega), decide_eq_true hl, Bool.true_or, Bool.and_true]
    rw [eas, hl]
    cases k1 : alk x ya yb with
    | false => simp (decide := true) (disch := first | assumption | omega) only [zi_Judge_asksSame_0, zi_Judge_asksSame_1, zi_Judge_asksSame_3, zi_Judge_asksSame_6, zi_Judge_asksSame_7, zi_Judge_asksSame_9, zi_Judge_asksSame_12, zi_Judge_asksSame_13, zi_Judge_asksSame_16, zi_Judge_asksSame_17, zi_Judge_asksSame_20, zi_Judge_asksSame_23, zi_Judge_asksSame_24, zi_Judge_asksSame_27, zi_Judge_asksSame_28, zi_Judge_asksSame_31, zi_Judge_asksSame_34, zi_Judge_asksSame_37, zi_Judge_asksSame_38, zi_Judge_asksSame_39, zi_Judge_asksSame_42, zi_Judge_asksSame_43, zi_Judge_asksSame_46, zi_Judge_asksSame_49, zi_Judge_asksSame_50, zi_Judge_asksSame_53, zi_Judge_asksSame_54, zi_Judge_asksSame_57, zi_Judge_asksSame_60, zi_Judge_asksSame_63, zi_Judge_asksSame_64, zi_Judge_asksSame_65, zi_Judge_asksSame_68, zi_Judge_asksSame_69, zi_Judge_asksSame_71, zi_Judge_asksSame_74, zi_Judge_asksSame_75, zi_Judge_asksSame_78, zi_Judge_asksSame_79, zi_Judge_asksSame_82, zi_Judge_asksSame_85, zi_Judge_asksSame_86, zi_Judge_asksSame_89, zi_Judge_asksSame_90, zi_Judge_asksSame_93, zi_Judge_asksSame_96, zi_Judge_asksSame_99, zi_Judge_asksSame_102, zi_Judge_asksSame_103, zi_Judge_asksSame_106, zi_Judge_asksSame_107, ↓reduceIte, mj_op_s, Option.toList_some, Option.toList_none, List.cons_append, List.nil_append, hp_1, hp_2, true_and, and_true, zb_0, zb_1, zb_b, va_rf, io_238, ↓ogf_238_0, ↓ogf_238_1, ↓ogf_238_2, ↓ogf_238_3, ↓ogf_238_4, ↓opf_238_4, io_239, ↓ogf_239_0, ↓opf_239_0, ↓ogf_239_1, ↓opf_239_1, ↓ogf_239_2, ↓opf_239_2, ↓ogf_239_3, ↓ogf_239_4, ↓ogf_239_5, ↓opf_239_5, ↓ogf_239_6, ↓opf_239_6, ↓ogf_239_7, ↓opf_239_7, ↓ogf_239_8, ↓opf_239_8, ↓ogf_239_9, ↓opf_239_9, io_247, ↓ogf_247_0, ↓opf_247_0, ↓ogf_247_1, ↓opf_247_1, ↓ogf_247_2, ↓opf_247_2, ↓ogf_247_3, ↓ogf_247_4, ↓ogf_247_5, ↓opf_247_5, ↓ogf_247_6, ↓opf_247_6, ↓ogf_247_7, ↓opf_247_7, ↓ogf_247_8, ↓opf_247_8, ↓ogf_247_9, ↓opf_247_9, g_y sd239 ra s1 hla hp0, g_y sd247 rb s2 hlb hq0, eya, eyb, hsm, k1, b1_f]
    | true => simp (decide := true) (disch := first | assumption | omega) only [zi_Judge_asksSame_0, zi_Judge_asksSame_1, zi_Judge_asksSame_3, zi_Judge_asksSame_6, zi_Judge_asksSame_7, zi_Judge_asksSame_9, zi_Judge_asksSame_12, zi_Judge_asksSame_13, zi_Judge_asksSame_16, zi_Judge_asksSame_17, zi_Judge_asksSame_20, zi_Judge_asksSame_23, zi_Judge_asksSame_24, zi_Judge_asksSame_27, zi_Judge_asksSame_28, zi_Judge_asksSame_31, zi_Judge_asksSame_34, zi_Judge_asksSame_37, zi_Judge_asksSame_38, zi_Judge_asksSame_39, zi_Judge_asksSame_42, zi_Judge_asksSame_43, zi_Judge_asksSame_46, zi_Judge_asksSame_49, zi_Judge_asksSame_50, zi_Judge_asksSame_53, zi_Judge_asksSame_54, zi_Judge_asksSame_57, zi_Judge_asksSame_60, zi_Judge_asksSame_63, zi_Judge_asksSame_64, zi_Judge_asksSame_65, zi_Judge_asksSame_68, zi_Judge_asksSame_69, zi_Judge_asksSame_71, zi_Judge_asksSame_74, zi_Judge_asksSame_75, zi_Judge_asksSame_78, zi_Judge_asksSame_79, zi_Judge_asksSame_82, zi_Judge_asksSame_85, zi_Judge_asksSame_86, zi_Judge_asksSame_89, zi_Judge_asksSame_90, zi_Judge_asksSame_93, zi_Judge_asksSame_96, zi_Judge_asksSame_99, zi_Judge_asksSame_102, zi_Judge_asksSame_103, zi_Judge_asksSame_106, zi_Judge_asksSame_107, ↓reduceIte, mj_op_s, Option.toList_some, Option.toList_none, List.cons_append, List.nil_append, hp_1, hp_2, true_and, and_true, zb_0, zb_1, zb_b, va_rf, io_238, ↓ogf_238_0, ↓ogf_238_1, ↓ogf_238_2, ↓ogf_238_3, ↓ogf_238_4, ↓opf_238_4, io_239, ↓ogf_239_0, ↓opf_239_0, ↓ogf_239_1, ↓opf_239_1, ↓ogf_239_2, ↓opf_239_2, ↓ogf_239_3, ↓ogf_239_4, ↓ogf_239_5, ↓opf_239_5, ↓ogf_239_6, ↓opf_239_6, ↓ogf_239_7, ↓opf_239_7, ↓ogf_239_8, ↓opf_239_8, ↓ogf_239_9, ↓opf_239_9, io_247, ↓ogf_247_0, ↓opf_247_0, ↓ogf_247_1, ↓opf_247_1, ↓ogf_247_2, ↓opf_247_2, ↓ogf_247_3, ↓ogf_247_4, ↓ogf_247_5, ↓opf_247_5, ↓ogf_247_6, ↓opf_247_6, ↓ogf_247_7, ↓opf_247_7, ↓ogf_247_8, ↓opf_247_8, ↓ogf_247_9, ↓opf_247_9, g_y sd239 ra s1 hla hp0, g_y sd247 rb s2 hlb hq0, eya, eyb, hsm, k1, b1_t]
  · obtain ⟨xa, hxa, exa⟩ := out_rg (hA.2 p hp0) hl
    obtain ⟨xb, hxb, exb⟩ := out_rg (hB.2 q hq0) (hk ▸ hl)
    have eas : asks x A B p q = alk x xa xb := by
      unfold asks
      rw [if_pos hl, exa, exb, cz_n (by omega), cz_n (by omega)]
    rw [eas]
    rcases hl with z | z
    · rw [z]
      simp (decide := true) (disch := first | assumption | omega) only [zi_Judge_asksSame_0, zi_Judge_asksSame_1, zi_Judge_asksSame_3, zi_Judge_asksSame_6, zi_Judge_asksSame_7, zi_Judge_asksSame_9, zi_Judge_asksSame_12, zi_Judge_asksSame_13, zi_Judge_asksSame_16, zi_Judge_asksSame_17, zi_Judge_asksSame_20, zi_Judge_asksSame_23, zi_Judge_asksSame_24, zi_Judge_asksSame_27, zi_Judge_asksSame_28, zi_Judge_asksSame_31, zi_Judge_asksSame_34, zi_Judge_asksSame_37, zi_Judge_asksSame_38, zi_Judge_asksSame_39, zi_Judge_asksSame_42, zi_Judge_asksSame_43, zi_Judge_asksSame_46, zi_Judge_asksSame_49, zi_Judge_asksSame_50, zi_Judge_asksSame_53, zi_Judge_asksSame_54, zi_Judge_asksSame_57, zi_Judge_asksSame_60, zi_Judge_asksSame_63, zi_Judge_asksSame_64, zi_Judge_asksSame_65, zi_Judge_asksSame_68, zi_Judge_asksSame_69, zi_Judge_asksSame_71, zi_Judge_asksSame_74, zi_Judge_asksSame_75, zi_Judge_asksSame_78, zi_Judge_asksSame_79, zi_Judge_asksSame_82, zi_Judge_asksSame_85, zi_Judge_asksSame_86, zi_Judge_asksSame_89, zi_Judge_asksSame_90, zi_Judge_asksSame_93, zi_Judge_asksSame_96, zi_Judge_asksSame_99, zi_Judge_asksSame_102, zi_Judge_asksSame_103, zi_Judge_asksSame_106, zi_Judge_asksSame_107, ↓reduceIte, mj_op_s, Option.toList_some, Option.toList_none, List.cons_append, List.nil_append, hp_1, hp_2, true_and, and_true, zb_0, zb_1, zb_b, va_rf, io_238, ↓ogf_238_0, ↓ogf_238_1, ↓ogf_238_2, ↓ogf_238_3, ↓ogf_238_4, ↓opf_238_4, io_239, ↓ogf_239_0, ↓opf_239_0, ↓ogf_239_1, ↓opf_239_1, ↓ogf_239_2, ↓opf_239_2, ↓ogf_239_3, ↓ogf_239_4, ↓ogf_239_5, ↓opf_239_5, ↓ogf_239_6, ↓opf_239_6, ↓ogf_239_7, ↓opf_239_7, ↓ogf_239_8, ↓opf_239_8, ↓ogf_239_9, ↓opf_239_9, io_247, ↓ogf_247_0, ↓opf_247_0, ↓ogf_247_1, ↓opf_247_1, ↓ogf_247_2, ↓opf_247_2, ↓ogf_247_3, ↓ogf_247_4, ↓ogf_247_5, ↓opf_247_5, ↓ogf_247_6, ↓opf_247_6, ↓ogf_247_7, ↓opf_247_7, ↓ogf_247_8, ↓opf_247_8, ↓ogf_247_9, ↓opf_247_9, g_x sd239 ra s1 hla hp0, g_x sd247 rb s2 hlb hq0, exa, exb, hsm, zb_b1]
    · rw [z]
      simp (decide := true) (disch := first | assumption | omega) only [zi_Judge_asksSame_0, zi_Judge_asksSame_1, zi_Judge_asksSame_3, zi_Judge_asksSame_6, zi_Judge_asksSame_7, zi_Judge_asksSame_9, zi_Judge_asksSame_12, zi_Judge_asksSame_13, zi_Judge_asksSame_16, zi_Judge_asksSame_17, zi_Judge_asksSame_20, zi_Judge_asksSame_23, zi_Judge_asksSame_24, zi_Judge_asksSame_27, zi_Judge_asksSame_28, zi_Judge_asksSame_31, zi_Judge_asksSame_34, zi_Judge_asksSame_37, zi_Judge_asksSame_38, zi_Judge_asksSame_39, zi_Judge_asksSame_42, zi_Judge_asksSame_43, zi_Judge_asksSame_46, zi_Judge_asksSame_49, zi_Judge_asksSame_50, zi_Judge_asksSame_53, zi_Judge_asksSame_54, zi_Judge_asksSame_57, zi_Judge_asksSame_60, zi_Judge_asksSame_63, zi_Judge_asksSame_64, zi_Judge_asksSame_65, zi_Judge_asksSame_68, zi_Judge_asksSame_69, zi_Judge_asksSame_71, zi_Judge_asksSame_74, zi_Judge_asksSame_75, zi_Judge_asksSame_78, zi_Judge_asksSame_79, zi_Judge_asksSame_82, zi_Judge_asksSame_85, zi_Judge_asksSame_86, zi_Judge_asksSame_89, zi_Judge_asksSame_90, zi_Judge_asksSame_93, zi_Judge_asksSame_96, zi_Judge_asksSame_99, zi_Judge_asksSame_102, zi_Judge_asksSame_103, zi_Judge_asksSame_106, zi_Judge_asksSame_107, ↓reduceIte, mj_op_s, Option.toList_some, Option.toList_none, List.cons_append, List.nil_append, hp_1, hp_2, true_and, and_true, zb_0, zb_1, zb_b, va_rf, io_238, ↓ogf_238_0, ↓ogf_238_1, ↓ogf_238_2, ↓ogf_238_3, ↓ogf_238_4, ↓opf_238_4, io_239, ↓ogf_239_0, ↓opf_239_0, ↓ogf_239_1, ↓opf_239_1, ↓ogf_239_2, ↓opf_239_2, ↓ogf_239_3, ↓ogf_239_4, ↓ogf_239_5, ↓opf_239_5, ↓ogf_239_6, ↓opf_239_6, ↓ogf_239_7, ↓opf_239_7, ↓ogf_239_8, ↓opf_239_8, ↓ogf_239_9, ↓opf_239_9, io_247, ↓ogf_247_0, ↓opf_247_0, ↓ogf_247_1, ↓opf_247_1, ↓ogf_247_2, ↓opf_247_2, ↓ogf_247_3, ↓ogf_247_4, ↓ogf_247_5, ↓opf_247_5, ↓ogf_247_6, ↓opf_247_6, ↓ogf_247_7, ↓opf_247_7, ↓ogf_247_8, ↓opf_247_8, ↓ogf_247_9, ↓opf_247_9, g_x sd239 ra s1 hla hp0, g_x sd247 rb s2 hlb hq0, exa, exb, hsm, zb_b1]
theorem alk_nu {a b : Nat} (h : alk x a b = true) : isNu x b = isNu x a ∧ (isNu x a = true → nu x b = nu x a) := by
  unfold alk at h
  cases k1 : isNu x a with
  | true =>
    rw [k1, Bool.true_or, if_pos rfl, Bool.true_and, Bool.and_eq_true, decide_eq_true_eq] at h
    exact ⟨h.1, fun _ => h.2.symm⟩
  | false =>
    cases k2 : isNu x b with
    | true => rw [k1, k2, Bool.or_true, if_pos rfl, Bool.false_and] at h; cases h
    | false => exact ⟨rfl, fun z => by cases z⟩
theorem sstp_eq (hk : A p 0 = B q 0) (hl : ldK (A p 0)) (ha : asks x A B p q = true) : sstp x B q = sstp x A p := by
  unfold asks at ha
  unfold sstp
  rw [← hk]
  rcases hl with hl | hl | hl
  · rw [if_pos hl, if_pos hl]
    have n11 : ¬ (A p 0 = nI 11 ∨ A p 0 = nI 13) := by rcases hl with z | z <;> rw [z] <;> decide
    have n10 : ¬ A p 0 = nI 10 := by rcases hl with z | z <;> rw [z] <;> decide
    rw [if_neg n11, decide_eq_false n10, Bool.false_or, Bool.and_eq_true] at ha
    obtain ⟨e1, e2⟩ := alk_nu ha.2
    rw [e1]
    cases k : isNu x (cz (A p 3)) with
    | true => rw [e2 k]
    | false => rw [Bool.false_and, Bool.false_and]
  · have n11 : ¬ (A p 0 = nI 11 ∨ A p 0 = nI 13) := by rw [hl]; decide
    have nD : ¬ isDv (A p 0) := by rw [hl]; decide
    rw [if_neg nD, if_neg nD]
    rw [if_neg n11, decide_eq_true hl, Bool.true_or, Bool.and_true] at ha
    obtain ⟨e1, e2⟩ := alk_nu ha
    rw [e1]
    cases k : isNu x (cz (A p 2)) with
    | true => rw [e2 k]
    | false => rw [Bool.false_and, Bool.false_and]
  · have nD : ¬ isDv (A p 0) := by rcases hl with z | z <;> rw [z] <;> decide
    have n10 : ¬ A p 0 = nI 10 := by rcases hl with z | z <;> rw [z] <;> decide
    rw [if_neg nD, if_neg nD, decide_eq_false n10, Bool.false_and, Bool.false_and]
theorem c_lookAtLoud (ra : isRt oa) (rb : isRt ob) (hX : jX W oa ob la lb A B M) (hok : okW W) (hA : okR la A) (hB : okR lb B) (hS : jS M x oa ob la lb A B p q) (hp0 : p < la) (hq0 : q < lb) (hm : x.2.2.1 = 0) (hend : ∀ M', sv jsP M M' → Q (some (.int (nI (loud W la lb A B x p q)))) (hp M')) : mj_V (d + 3) lim mq_Judge_lookAtLoud 0 [.ref 238, mj_j, mj_j] [] (hp M) Q := by
  obtain ⟨s1, s2, s3, s4⟩ := hS
  have hS : jS M x oa ob la lb A B p q := ⟨s1, s2, s3, s4⟩
  have hla := hA.1
  have hlb := hB.1
  unfold loud at hend
  by_cases hk : A p 0 = B q 0
  · by_cases hl : ldK (A p 0)
    · rw [if_pos ⟨hk, hl⟩] at hend
      have hb := bI_t hl
      cases ha : asks x A B p q with
      | false =>
        rw [ha, if_neg (by simp)] at hend
        simp (decide := true) (disch := first | assumption | omega) only [zi_Judge_lookAtLoud_0, zi_Judge_lookAtLoud_1, zi_Judge_lookAtLoud_4, zi_Judge_lookAtLoud_7, zi_Judge_lookAtLoud_8, zi_Judge_lookAtLoud_9, zi_Judge_lookAtLoud_10, zi_Judge_lookAtLoud_13, zi_Judge_lookAtLoud_16, zi_Judge_lookAtLoud_19, zi_Judge_lookAtLoud_20, zi_Judge_lookAtLoud_23, zi_Judge_lookAtLoud_26, zi_Judge_lookAtLoud_27, zi_Judge_lookAtLoud_28, zi_Judge_lookAtLoud_29, zi_Judge_lookAtLoud_30, zi_Judge_lookAtLoud_33, zi_Judge_lookAtLoud_36, zi_Judge_lookAtLoud_37, ↓reduceIte, mj_op_s, Option.toList_some, Option.toList_none, List.cons_append, List.nil_append, hp_1, hp_2, true_and, and_true, zb_0, zb_1, zb_b, va_rf, io_238, ↓ogf_238_0, ↓ogf_238_1, ↓ogf_238_2, ↓ogf_238_3, ↓ogf_238_4, ↓opf_238_4, io_239, ↓ogf_239_0, ↓opf_239_0, ↓ogf_239_1, ↓opf_239_1, ↓ogf_239_2, ↓opf_239_2, ↓ogf_239_3, ↓ogf_239_4, ↓ogf_239_5, ↓opf_239_5, ↓ogf_239_6, ↓opf_239_6, ↓ogf_239_7, ↓opf_239_7, ↓ogf_239_8, ↓opf_239_8, ↓ogf_239_9, ↓opf_239_9, io_247, ↓ogf_247_0, ↓opf_247_0, ↓ogf_247_1, ↓opf_247_1, ↓ogf_247_2, ↓opf_247_2, ↓ogf_247_3, ↓ogf_247_4, ↓ogf_247_5, ↓opf_247_5, ↓ogf_247_6, ↓opf_247_6, ↓ogf_247_7, ↓opf_247_7, ↓ogf_247_8, ↓opf_247_8, ↓ogf_247_9, ↓opf_247_9, g_kind sd239 ra s1 hla hp0, g_kind sd247 rb s2 hlb hq0, ← hk, c_isLoudKind, hb, c_asksSame ra rb hA hB hS hp0 hq0 hk hl, ha, b1_f]
        exact hend M sv_refl
      | true =>
        rw [ha, if_pos rfl] at hend
        have hst := sstp_eq hk hl ha
        cases hs : sstp x A p with
        | true =>
          rw [hs, if_pos rfl] at hend
          rw [hs] at hst
          simp (decide := true) (disch := first | assumption | omega) only [zi_Judge_lookAtLoud_0, zi_Judge_lookAtLoud_1, zi_Judge_lookAtLoud_4, zi_Judge_lookAtLoud_7, zi_Judge_lookAtLoud_8, zi_Judge_lookAtLoud_9, zi_Judge_lookAtLoud_10, zi_Judge_lookAtLoud_13, zi_Judge_lookAtLoud_16, zi_Judge_lookAtLoud_19, zi_Judge_lookAtLoud_20, zi_Judge_lookAtLoud_23, zi_Judge_lookAtLoud_26, zi_Judge_lookAtLoud_27, zi_Judge_lookAtLoud_28, zi_Judge_lookAtLoud_29, zi_Judge_lookAtLoud_30, zi_Judge_lookAtLoud_33, zi_Judge_lookAtLoud_36, zi_Judge_lookAtLoud_37, zi_Judge_lookAtLoud_38, zi_Judge_lookAtLoud_39, zi_Judge_lookAtLoud_42, zi_Judge_lookAtLoud_45, zi_Judge_lookAtLoud_48, zi_Judge_lookAtLoud_49, zi_Judge_lookAtLoud_52, zi_Judge_lookAtLoud_55, zi_Judge_lookAtLoud_58, zi_Judge_lookAtLoud_59, ↓reduceIte, mj_op_s, Option.toList_some, Option.toList_none, List.cons_append, List.nil_append, hp_1, hp_2, true_and, and_true, zb_0, zb_1, zb_b, va_rf, io_238, ↓ogf_238_0, ↓ogf_238_1, ↓ogf_238_2, ↓ogf_238_3, ↓ogf_238_4, ↓opf_238_4, io_239, ↓ogf_239_0, ↓opf_239_0, ↓ogf_239_1, ↓opf_239_1, ↓ogf_239_2, ↓opf_239_2, ↓ogf_239_3, ↓ogf_239_4, ↓ogf_239_5, ↓opf_239_5, ↓ogf_239_6, ↓opf_239_6, ↓ogf_239_7, ↓opf_239_7, ↓ogf_239_8, ↓opf_239_8, ↓ogf_239_9, ↓opf_239_9, io_247, ↓ogf_247_0, ↓opf_247_0, ↓ogf_247_1, ↓opf_247_1, ↓ogf_247_2, ↓opf_247_2, ↓ogf_247_3, ↓ogf_247_4, ↓ogf_247_5, ↓opf_247_5, ↓ogf_247_6, ↓opf_247_6, ↓ogf_247_7, ↓opf_247_7, ↓ogf_247_8, ↓opf_247_8, ↓ogf_247_9, ↓opf_247_9, g_kind sd239 ra s1 hla hp0, g_kind sd247 rb s2 hlb hq0, ← hk, c_isLoudKind, hb, c_asksSame ra rb hA hB hS hp0 hq0 hk hl, ha, c_Side_stops sd239 ow3 ra s1 hA hp0 s3, c_Side_stops sd247 ow4 rb s2 hB hq0 s4, hs, hst, b1_t]
          exact hend M sv_refl
        | false =>
          rw [hs, if_neg (by simp)] at hend
          simp (decide := true) (disch := first | assumption | omega) only [zi_Judge_lookAtLoud_0, zi_Judge_lookAtLoud_1, zi_Judge_lookAtLoud_4, zi_Judge_lookAtLoud_7, zi_Judge_lookAtLoud_8, zi_Judge_lookAtLoud_9, zi_Judge_lookAtLoud_10, zi_Judge_lookAtLoud_13, zi_Judge_lookAtLoud_16, zi_Judge_lookAtLoud_19, zi_Judge_lookAtLoud_20, zi_Judge_lookAtLoud_23, zi_Judge_lookAtLoud_26, zi_Judge_lookAtLoud_27, zi_Judge_lookAtLoud_28, zi_Judge_lookAtLoud_29, zi_Judge_lookAtLoud_30, zi_Judge_lookAtLoud_33, zi_Judge_lookAtLoud_36, zi_Judge_lookAtLoud_37, zi_Judge_lookAtLoud_38, zi_Judge_lookAtLoud_39, zi_Judge_lookAtLoud_42, zi_Judge_lookAtLoud_45, zi_Judge_lookAtLoud_48, zi_Judge_lookAtLoud_49, zi_Judge_lookAtLoud_52, zi_Judge_lookAtLoud_55, zi_Judge_lookAtLoud_58, zi_Judge_lookAtLoud_59, zi_Judge_lookAtLoud_60, zi_Judge_lookAtLoud_61, zi_Judge_lookAtLoud_64, ↓reduceIte, mj_op_s, Option.toList_some, Option.toList_none, List.cons_append, List.nil_append, hp_1, hp_2, true_and, and_true, zb_0, zb_1, zb_b, va_rf, io_238, ↓ogf_238_0, ↓ogf_238_1, ↓ogf_238_2, ↓ogf_238_3, ↓ogf_238_4, ↓opf_238_4, io_239, ↓ogf_239_0, ↓opf_239_0, ↓ogf_239_1, ↓opf_239_1, ↓ogf_239_2, ↓opf_239_2, ↓ogf_239_3, ↓ogf_239_4, ↓ogf_239_5, ↓opf_239_5, ↓ogf_239_6, ↓opf_239_6, ↓ogf_239_7, ↓opf_239_7, ↓ogf_239_8, ↓opf_239_8, ↓ogf_239_9, ↓opf_239_9, io_247, ↓ogf_247_0, ↓opf_247_0, ↓ogf_247_1, ↓opf_247_1, ↓ogf_247_2, ↓opf_247_2, ↓ogf_247_3, ↓ogf_247_4, ↓ogf_247_5, ↓opf_247_5, ↓ogf_247_6, ↓opf_247_6, ↓ogf_247_7, ↓opf_247_7, ↓ogf_247_8, ↓opf_247_8, ↓ogf_247_9, ↓opf_247_9, g_kind sd239 ra s1 hla hp0, g_kind sd247 rb s2 hlb hq0, ← hk, c_isLoudKind, hb, c_asksSame ra rb hA hB hS hp0 hq0 hk hl, ha, c_Side_stops sd239 ow3 ra s1 hA hp0 s3, hs, b1_t, b1_f]
          refine c_changeX sd239 ow3 ra s1 hA hp0 s3 (fun M1 hv1 hp1 hS1 => ?_)
          have hX1 := jX_s ra rb (js_1 hv1) hX
          have s2' := sdC_o rb hv1 no21 s2
          have s1' := ss_C ra sd239 hv1 (hp1.trans s1.2.1) s1
          simp (decide := true) (disch := first | assumption | omega) only [zi_Judge_lookAtLoud_67, zi_Judge_lookAtLoud_68, zi_Judge_lookAtLoud_71, ↓reduceIte, mj_op_s, Option.toList_some, Option.toList_none, List.cons_append, List.nil_append, hp_1, hp_2, true_and, and_true, zb_0, zb_1, zb_b, va_rf, io_238, ↓ogf_238_0, ↓ogf_238_1, ↓ogf_238_2, ↓ogf_238_3, ↓ogf_238_4, ↓opf_238_4, io_239, ↓ogf_239_0, ↓opf_239_0, ↓ogf_239_1, ↓opf_239_1, ↓ogf_239_2, ↓opf_239_2, ↓ogf_239_3, ↓ogf_239_4, ↓ogf_239_5, ↓opf_239_5, ↓ogf_239_6, ↓opf_239_6, ↓ogf_239_7, ↓opf_239_7, ↓ogf_239_8, ↓opf_239_8, ↓ogf_239_9, ↓opf_239_9, io_247, ↓ogf_247_0, ↓opf_247_0, ↓ogf_247_1, ↓opf_247_1, ↓ogf_247_2, ↓opf_247_2, ↓ogf_247_3, ↓ogf_247_4, ↓ogf_247_5, ↓opf_247_5, ↓ogf_247_6, ↓opf_247_6, ↓ogf_247_7, ↓opf_247_7, ↓ogf_247_8, ↓opf_247_8, ↓ogf_247_9, ↓opf_247_9]
          refine c_changeX sd247 ow4 rb s2' hB hq0 (sdZ_o hv1 no21 s4) (fun M2 hv2 hp2 hS2 => ?_)
          have hX2 := jX_s ra rb (js_2 hv2) hX1
          have hv3 := sv_trans (js_1 hv1) (js_2 hv2)
          have t1 := sdC_o ra hv2 no12 s1'
          have t2 := ss_C rb sd247 hv2 (hp2.trans s2'.2.1) s2'
          have hg := fun (p' q' : Nat) (hp' : p' ≤ 50) (hq' : q' ≤ 50) (d : Nat) (lim : Nat × Nat) (Q : mj_Q) => c_jgoOn (d := d) (lim := lim) (Q := Q) (p := p') (q := q') hX2 hok hp' hq' (sdS_o hv2 no12 hS1) hS2 (fun r hr => okT_x (hA.2 p hp0) hr) (fun r hr => okT_x (hB.2 q hq0) hr) (fun r => okU_x) (fun r => okU_x) (show 1001 < 2 ^ 31 by omega) (fun n hn => ⟨fun _ z => by omega, fun _ => by have : (W.2 n).2.2.2.1 ≤ 1000 := (hok.2 n hn).2.2.2.1; omega⟩)
          have hg1 := hg (p + 1) (q + 1) (by omega) (by omega)
          by_cases c0 : wnt W la lb x (p + 1) (q + 1) (tx x A p) (tx x B q) = 0
          · by_cases c13 : A p 0 = nI 13
            · rw [if_pos ⟨c0, c13⟩] at hend
              have jA : jyP A p = true := by unfold jyP; rw [c13]; rfl
              have jB : jyP B q = true := by unfold jyP; rw [← hk, c13]; rfl
              have e1 := tgP_le (len := la) (A := A) (p := p)
              have e2 := tgP_le (len := lb) (A := B) (p := q)
              have hg2 := hg (tgP la A p) (tgP lb B q) (by omega) (by omega)
              rw [c13]
              simp (decide := true) (disch := first | assumption | omega) only [zi_Judge_lookAtLoud_74, zi_Judge_lookAtLoud_75, zi_Judge_lookAtLoud_76, zi_Judge_lookAtLoud_79, zi_Judge_lookAtLoud_82, zi_Judge_lookAtLoud_83, zi_Judge_lookAtLoud_84, zi_Judge_lookAtLoud_85, zi_Judge_lookAtLoud_88, zi_Judge_lookAtLoud_91, zi_Judge_lookAtLoud_92, zi_Judge_lookAtLoud_93, zi_Judge_lookAtLoud_96, zi_Judge_lookAtLoud_99, zi_Judge_lookAtLoud_100, zi_Judge_lookAtLoud_101, zi_Judge_lookAtLoud_104, zi_Judge_lookAtLoud_105, zi_Judge_lookAtLoud_107, zi_Judge_lookAtLoud_110, zi_Judge_lookAtLoud_111, zi_Judge_lookAtLoud_112, zi_Judge_lookAtLoud_115, zi_Judge_lookAtLoud_118, zi_Judge_lookAtLoud_119, zi_Judge_lookAtLoud_122, zi_Judge_lookAtLoud_125, zi_Judge_lookAtLoud_128, zi_Judge_lookAtLoud_131, zi_Judge_lookAtLoud_132, zi_Judge_lookAtLoud_133, ↓reduceIte, mj_op_s, Option.toList_some, Option.toList_none, List.cons_append, List.nil_append, hp_1, hp_2, true_and, and_true, zb_0, zb_1, zb_b, va_rf, io_238, ↓ogf_238_0, ↓ogf_238_1, ↓ogf_238_2, ↓ogf_238_3, ↓ogf_238_4, ↓opf_238_4, io_239, ↓ogf_239_0, ↓opf_239_0, ↓ogf_239_1, ↓opf_239_1, ↓ogf_239_2, ↓opf_239_2, ↓ogf_239_3, ↓ogf_239_4, ↓ogf_239_5, ↓opf_239_5, ↓ogf_239_6, ↓opf_239_6, ↓ogf_239_7, ↓opf_239_7, ↓ogf_239_8, ↓opf_239_8, ↓ogf_239_9, ↓opf_239_9, io_247, ↓ogf_247_0, ↓opf_247_0, ↓ogf_247_1, ↓opf_247_1, ↓ogf_247_2, ↓opf_247_2, ↓ogf_247_3, ↓ogf_247_4, ↓ogf_247_5, ↓opf_247_5, ↓ogf_247_6, ↓opf_247_6, ↓ogf_247_7, ↓opf_247_7, ↓ogf_247_8, ↓opf_247_8, ↓ogf_247_9, ↓opf_247_9, t1.2.1, t2.2.1, nI_add, hg1, c0, g_target sd239 ra t1 hA hp0 jA, g_target sd247 rb t2 hB hq0 jB, hg2]
              exact hend M2 hv3
            · rw [if_neg (fun z => c13 z.2), c0] at hend
              simp (decide := true) (disch := first | assumption | omega) only [zi_Judge_lookAtLoud_74, zi_Judge_lookAtLoud_75, zi_Judge_lookAtLoud_76, zi_Judge_lookAtLoud_79, zi_Judge_lookAtLoud_82, zi_Judge_lookAtLoud_83, zi_Judge_lookAtLoud_84, zi_Judge_lookAtLoud_85, zi_Judge_lookAtLoud_88, zi_Judge_lookAtLoud_91, zi_Judge_lookAtLoud_92, zi_Judge_lookAtLoud_93, zi_Judge_lookAtLoud_96, zi_Judge_lookAtLoud_99, zi_Judge_lookAtLoud_100, zi_Judge_lookAtLoud_101, zi_Judge_lookAtLoud_104, zi_Judge_lookAtLoud_105, zi_Judge_lookAtLoud_107, zi_Judge_lookAtLoud_110, zi_Judge_lookAtLoud_111, zi_Judge_lookAtLoud_112, zi_Judge_lookAtLoud_115, zi_Judge_lookAtLoud_118, zi_Judge_lookAtLoud_119, zi_Judge_lookAtLoud_122, zi_Judge_lookAtLoud_125, zi_Judge_lookAtLoud_128, zi_Judge_lookAtLoud_131, zi_Judge_lookAtLoud_132, zi_Judge_lookAtLoud_133, ↓reduceIte, mj_op_s, Option.toList_some, Option.toList_none, List.cons_append, List.nil_append, hp_1, hp_2, true_and, and_true, zb_0, zb_1, zb_b, va_rf, io_238, ↓ogf_238_0, ↓ogf_238_1, ↓ogf_238_2, ↓ogf_238_3, ↓ogf_238_4, ↓opf_238_4, io_239, ↓ogf_239_0, ↓opf_239_0, ↓ogf_239_1, ↓opf_239_1, ↓ogf_239_2, ↓opf_239_2, ↓ogf_239_3, ↓ogf_239_4, ↓ogf_239_5, ↓opf_239_5, ↓ogf_239_6, ↓opf_239_6, ↓ogf_239_7, ↓opf_239_7, ↓ogf_239_8, ↓opf_239_8, ↓ogf_239_9, ↓opf_239_9, io_247, ↓ogf_247_0, ↓opf_247_0, ↓ogf_247_1, ↓opf_247_1, ↓ogf_247_2, ↓opf_247_2, ↓ogf_247_3, ↓ogf_247_4, ↓ogf_247_5, ↓opf_247_5, ↓ogf_247_6, ↓opf_247_6, ↓ogf_247_7, ↓opf_247_7, ↓ogf_247_8, ↓opf_247_8, ↓ogf_247_9, ↓opf_247_9, t1.2.1, t2.2.1, nI_add, hg1, c0, c13]
              exact hend M2 hv3
          · rw [if_neg (fun z => c0 z.1)] at hend
            have hlt : wnt W la lb x (p + 1) (q + 1) (tx x A p) (tx x B q) < 8 := by
              unfold wnt
              split
              · omega
              · split
                · omega
                · split <;> omega
            have hne := nI_ne (show wnt W la lb x (p + 1) (q + 1) (tx x A p) (tx x B q) < 2 ^ 31 by omega) (show 0 < 2 ^ 31 by omega) c0
            simp (decide := true) (disch := first | assumption | omega) only [zi_Judge_lookAtLoud_74, zi_Judge_lookAtLoud_75, zi_Judge_lookAtLoud_76, zi_Judge_lookAtLoud_79, zi_Judge_lookAtLoud_82, zi_Judge_lookAtLoud_83, zi_Judge_lookAtLoud_84, zi_Judge_lookAtLoud_85, zi_Judge_lookAtLoud_88, zi_Judge_lookAtLoud_91, zi_Judge_lookAtLoud_92, zi_Judge_lookAtLoud_93, zi_Judge_lookAtLoud_96, zi_Judge_lookAtLoud_99, zi_Judge_lookAtLoud_100, zi_Judge_lookAtLoud_101, zi_Judge_lookAtLoud_104, zi_Judge_lookAtLoud_105, zi_Judge_lookAtLoud_107, zi_Judge_lookAtLoud_110, zi_Judge_lookAtLoud_111, zi_Judge_lookAtLoud_112, zi_Judge_lookAtLoud_115, zi_Judge_lookAtLoud_118, zi_Judge_lookAtLoud_119, zi_Judge_lookAtLoud_122, zi_Judge_lookAtLoud_125, zi_Judge_lookAtLoud_128, zi_Judge_lookAtLoud_131, zi_Judge_lookAtLoud_132, zi_Judge_lookAtLoud_133, ↓reduceIte, mj_op_s, Option.toList_some, Option.toList_none, List.cons_append, List.nil_append, hp_1, hp_2, true_and, and_true, zb_0, zb_1, zb_b, va_rf, io_238, ↓ogf_238_0, ↓ogf_238_1, ↓ogf_238_2, ↓ogf_238_3, ↓ogf_238_4, ↓opf_238_4, io_239, ↓ogf_239_0, ↓opf_239_0, ↓ogf_239_1, ↓opf_239_1, ↓ogf_239_2, ↓opf_239_2, ↓ogf_239_3, ↓ogf_239_4, ↓ogf_239_5, ↓opf_239_5, ↓ogf_239_6, ↓opf_239_6, ↓ogf_239_7, ↓opf_239_7, ↓ogf_239_8, ↓opf_239_8, ↓ogf_239_9, ↓opf_239_9, io_247, ↓ogf_247_0, ↓opf_247_0, ↓ogf_247_1, ↓opf_247_1, ↓ogf_247_2, ↓opf_247_2, ↓ogf_247_3, ↓ogf_247_4, ↓ogf_247_5, ↓opf_247_5, ↓ogf_247_6, ↓opf_247_6, ↓ogf_247_7, ↓opf_247_7, ↓ogf_247_8, ↓opf_247_8, ↓ogf_247_9, ↓opf_247_9, t1.2.1, t2.2.1, nI_add, hg1, hne]
            exact hend M2 hv3
    · rw [if_neg (fun z => hl z.2)] at hend
      have hb := bI_f hl
      simp (decide := true) (disch := first | assumption | omega) only [zi_Judge_lookAtLoud_0, zi_Judge_lookAtLoud_1, zi_Judge_lookAtLoud_4, zi_Judge_lookAtLoud_7, zi_Judge_lookAtLoud_8, zi_Judge_lookAtLoud_9, zi_Judge_lookAtLoud_10, zi_Judge_lookAtLoud_13, zi_Judge_lookAtLoud_16, zi_Judge_lookAtLoud_19, zi_Judge_lookAtLoud_20, zi_Judge_lookAtLoud_23, zi_Judge_lookAtLoud_26, zi_Judge_lookAtLoud_27, ↓reduceIte, mj_op_s, Option.toList_some, Option.toList_none, List.cons_append, List.nil_append, hp_1, hp_2, true_and, and_true, zb_0, zb_1, zb_b, va_rf, io_238, ↓ogf_238_0, ↓ogf_238_1, ↓ogf_238_2, ↓ogf_238_3, ↓ogf_238_4, ↓opf_238_4, io_239, ↓ogf_239_0, ↓opf_239_0, ↓ogf_239_1, ↓opf_239_1, ↓ogf_239_2, ↓opf_239_2, ↓ogf_239_3, ↓ogf_239_4, ↓ogf_239_5, ↓opf_239_5, ↓ogf_239_6, ↓opf_239_6, ↓ogf_239_7, ↓opf_239_7, ↓ogf_239_8, ↓opf_239_8, ↓ogf_239_9, ↓opf_239_9, io_247, ↓ogf_247_0, ↓opf_247_0, ↓ogf_247_1, ↓opf_247_1, ↓ogf_247_2, ↓opf_247_2, ↓ogf_247_3, ↓ogf_247_4, ↓ogf_247_5, ↓opf_247_5, ↓ogf_247_6, ↓opf_247_6, ↓ogf_247_7, ↓opf_247_7, ↓ogf_247_8, ↓opf_247_8, ↓ogf_247_9, ↓opf_247_9, g_kind sd239 ra s1 hla hp0, g_kind sd247 rb s2 hlb hq0, ← hk, c_isLoudKind, hb]
      exact hend M sv_refl
  · rw [if_neg (fun z => hk z.1)] at hend
    simp (decide := true) (disch := first | assumption | omega) only [zi_Judge_lookAtLoud_0, zi_Judge_lookAtLoud_1, zi_Judge_lookAtLoud_4, zi_Judge_lookAtLoud_7, zi_Judge_lookAtLoud_8, zi_Judge_lookAtLoud_9, zi_Judge_lookAtLoud_10, zi_Judge_lookAtLoud_13, zi_Judge_lookAtLoud_16, zi_Judge_lookAtLoud_19, zi_Judge_lookAtLoud_20, zi_Judge_lookAtLoud_23, zi_Judge_lookAtLoud_26, zi_Judge_lookAtLoud_27, ↓reduceIte, mj_op_s, Option.toList_some, Option.toList_none, List.cons_append, List.nil_append, hp_1, hp_2, true_and, and_true, zb_0, zb_1, zb_b, va_rf, io_238, ↓ogf_238_0, ↓ogf_238_1, ↓ogf_238_2, ↓ogf_238_3, ↓ogf_238_4, ↓opf_238_4, io_239, ↓ogf_239_0, ↓opf_239_0, ↓ogf_239_1, ↓opf_239_1, ↓ogf_239_2, ↓opf_239_2, ↓ogf_239_3, ↓ogf_239_4, ↓ogf_239_5, ↓opf_239_5, ↓ogf_239_6, ↓opf_239_6, ↓ogf_239_7, ↓opf_239_7, ↓ogf_239_8, ↓opf_239_8, ↓ogf_239_9, ↓opf_239_9, io_247, ↓ogf_247_0, ↓opf_247_0, ↓ogf_247_1, ↓opf_247_1, ↓ogf_247_2, ↓opf_247_2, ↓ogf_247_3, ↓ogf_247_4, ↓ogf_247_5, ↓opf_247_5, ↓ogf_247_6, ↓opf_247_6, ↓ogf_247_7, ↓opf_247_7, ↓ogf_247_8, ↓opf_247_8, ↓ogf_247_9, ↓opf_247_9, g_kind sd239 ra s1 hla hp0, g_kind sd247 rb s2 hlb hq0, hk]
    exact hend M sv_refl
end C9B
