/-! Model: pass, best -/
def upR (R : Nat → XA) (n : Nat) (v : XA) : Nat → XA := fun k => if k = n then v else R k
def mR (M : mm) (nr : Nat) (R : Nat → XA) : Prop := rI M 256 0 = nI nr ∧ (∀ r, r < nr → hasM M r (R r).1 (R r).2) ∧ ∃ b, rI M 256 22 = b1 b
def okS (nr : Nat) (R : Nat → XA) : Prop := nr ≤ 40 ∧ ∀ r, r < nr → okR (R r).1 (R r).2
/-- a routine's number -/
abbrev isR (nr : Nat) (x : Int32) : Prop := ¬ x < nI 0 ∧ x < nI nr
abbrev mbP (i k : Nat) : Prop := i = 257 ∨ i = 258 ∨ 268 ≤ i ∧ i ≤ 271 ∨ i = 256 ∧ (k = 0 ∨ k = 22 ∨ k = 23 ∨ k = 25 ∨ k = 26)
abbrev mpP (i k : Nat) : Prop := mbP i k ∨ 262 ≤ i ∧ i ≤ 267 ∨ i = 256 ∧ k = 10
section C90
variable {d : Nat} {lim : Nat × Nat} {Q : mj_Q} {M M' : mm} {t len p q j r n w nr : Nat} {A B : AA} {W : WS} {x : XA} {wf : Bool} {R : Nat → XA}
theorem isR_n {x : Int32} (h : isR nr x) : ∃ r, r < nr ∧ x = nI r := by
  obtain ⟨j, hj, e⟩ := nI_of h.1
  refine ⟨j, ?_, e⟩
  have h2 := h.2
  rw [e] at h2
  refine Classical.byContradiction fun z => nI_nlt (a := j) (b := nr) (by omega) hj h2
theorem isR_l (hn : nr < 2 ^ 31) (h : r < nr) : isR nr (nI r) := ⟨nI_nlt (by omega) (by omega), nI_lt h hn⟩
theorem isR_m {x : Int32} (hn : nr ≤ 40) : bI (¬ x < nI 0 ∧ ¬ nI nr - nI 1 < x) = bI (isR nr x) := by
  have e : (¬ x < nI 0 ∧ ¬ nI nr - nI 1 < x) ↔ isR nr x := by
    cases nr with
    | zero =>
      have e1 : (nI 0 - nI 1 : Int32) = -1 := by decide
      unfold isR
      rw [e1]
      simp only [Int32.lt_iff_toInt_lt, show (nI 0).toInt = 0 from by decide, show (-1 : Int32).toInt = -1 from by decide]
      omega
    | succ n =>
      unfold isR
      rw [nI_sub1]
      simp only [Int32.lt_iff_toInt_lt, nI_toInt (show n < 2 ^ 31 by omega), nI_toInt (show n + 1 < 2 ^ 31 by omega)]
      omega
  unfold bI
  by_cases h : isR nr x
  · rw [if_pos h, if_pos (e.mpr h)]
  · rw [if_neg h, if_neg (fun z => h (e.mp z))]
theorem g_isRoutine {x : Int32} (hR : mR M nr R) (hn : nr ≤ 40) : mj_V (d + 1) lim mq_Model_isRoutine 0 [.ref 256, .int x] [] (hp M) Q ↔ Q (some (.int (bI (isR nr x)))) (hp M) := by
  rw [c_Model_isRoutine, hR.1, isR_m hn]
theorem ds_M {r2 : Nat} (h : sv (dsP t wf) M M') (hne : r2 ≠ t) (h50 : len ≤ 50) (hR : hasM M r2 len A) : hasM M' r2 len A := ⟨(sv_I h (by unfold dsP mrP kmP mwP; omega)).trans hR.1, fun p hp0 j hj => (sv_I h (by unfold dsP mrP kmP mwP; omega)).trans (hR.2 p hp0 j hj)⟩
theorem mR_up (hok : okS nr R) (hR : mR M nr R) (h1 : ∀ r len A, r < nr → len ≤ 50 → hasM M r len A → hasM M' r len A) (h2 : hasM M' nr x.1 x.2) (h3 : rI M' 256 0 = nI (nr + 1)) (h4 : ∃ b, rI M' 256 22 = b1 b) : mR M' (nr + 1) (upR R nr x) := by
  refine ⟨h3, fun r hr => ?_, h4⟩
  unfold upR
  by_cases e : r = nr
  · rw [if_pos e, e]; exact h2
  · rw [if_neg e]
    have hr : r < nr := by omega
    exact h1 r _ _ hr (hok.2 r hr).1 (hR.2.1 r hr)
theorem okS_up (hok : okS nr R) (hn : nr < 40) (hx : okR x.1 x.2) : okS (nr + 1) (upR R nr x) := by
  refine ⟨by omega, fun r hr => ?_⟩
  unfold upR
  by_cases e : r = nr
  · rw [if_pos e]; exact hx
  · rw [if_neg e]; exact hok.2 r (by omega)
theorem c_Model_pass_no {x1 x2 : Int32} (hR : mR M nr R) (hok : okS nr R) (h : ¬ (isR nr x1 ∧ (¬ x2 < nI 0 ∧ ¬ nI 3 < x2) ∧ nr < 40)) : mj_V (d + 2) lim mq_Model_pass 0 [.ref 256, .int x1, .int x2] [] (hp M) Q ↔ Q (some (.int (-2))) (hp M) := by
  have r0 := hR.1
  have hn := hok.1
  by_cases c1 : isR nr x1
  · have b1' := bI_t c1
    by_cases c2 : (¬ x2 < nI 0 ∧ ¬ nI 3 < x2)
    · have b2' := bI_t c2
      obtain rfl : nr = 40 := Classical.byContradiction fun z => h ⟨c1, c2, by omega⟩
      simp (decide := true) (disch := first | assumption | omega) only [zi_Model_pass_0, zi_Model_pass_1, zi_Model_pass_2, zi_Model_pass_5, zi_Model_pass_8, zi_Model_pass_9, zi_Model_pass_10, zi_Model_pass_11, zi_Model_pass_14, zi_Model_pass_17, zi_Model_pass_18, zi_Model_pass_21, zi_Model_pass_23, zi_Model_pass_26, zi_Model_pass_28, ↓reduceIte, mj_op_s, Option.toList_some, Option.toList_none, List.cons_append, List.nil_append, hp_1, hp_2, true_and, and_true, zb_0, zb_1, zb_b, va_rf, io_256, ↓ogf_256_0, ↓opf_256_0, ↓ogf_256_1, ↓ogf_256_2, ↓ogf_256_3, ↓ogf_256_4, ↓opf_256_4, ↓ogf_256_5, ↓ogf_256_6, ↓ogf_256_7, ↓opf_256_7, ↓ogf_256_8, ↓opf_256_8, ↓ogf_256_9, ↓opf_256_9, ↓ogf_256_10, ↓opf_256_10, ↓ogf_256_11, ↓ogf_256_12, ↓ogf_256_13, ↓ogf_256_14, ↓ogf_256_15, ↓ogf_256_16, ↓ogf_256_17, ↓opf_256_17, ↓ogf_256_18, ↓opf_256_18, ↓ogf_256_19, ↓ogf_256_20, ↓ogf_256_21, ↓ogf_256_22, ↓opf_256_22_0, ↓opf_256_22_1, ↓ogf_256_23, ↓opf_256_23, ↓ogf_256_24, ↓ogf_256_25, ↓opf_256_25_0, ↓opf_256_25_1, ↓ogf_256_26, ↓opf_256_26, ↓ogf_256_27, ↓opf_256_27, ↓ogf_256_28, ↓opf_256_28, ↓ogf_256_29, ↓ogf_256_30, ↓ogf_256_31, ↓ogf_256_32, ↓ogf_256_33, ↓ogf_256_34, g_isRoutine hR hn, b1', c_Model_in, b2', r0]
    · have b2' := bI_f c2
      simp (decide := true) (disch := first | assumption | omega) only [zi_Model_pass_0, zi_Model_pass_1, zi_Model_pass_2, zi_Model_pass_5, zi_Model_pass_8, zi_Model_pass_9, zi_Model_pass_10, zi_Model_pass_11, zi_Model_pass_14, zi_Model_pass_17, zi_Model_pass_18, zi_Model_pass_21, zi_Model_pass_23, zi_Model_pass_26, zi_Model_pass_28, ↓reduceIte, mj_op_s, Option.toList_some, Option.toList_none, List.cons_append, List.nil_append, hp_1, hp_2, true_and, and_true, zb_0, zb_1, zb_b, va_rf, io_256, ↓ogf_256_0, ↓opf_256_0, ↓ogf_256_1, ↓ogf_256_2, ↓ogf_256_3, ↓ogf_256_4, ↓opf_256_4, ↓ogf_256_5, ↓ogf_256_6, ↓ogf_256_7, ↓opf_256_7, ↓ogf_256_8, ↓opf_256_8, ↓ogf_256_9, ↓opf_256_9, ↓ogf_256_10, ↓opf_256_10, ↓ogf_256_11, ↓ogf_256_12, ↓ogf_256_13, ↓ogf_256_14, ↓ogf_256_15, ↓ogf_256_16, ↓ogf_256_17, ↓opf_256_17, ↓ogf_256_18, ↓opf_256_18, ↓ogf_256_19, ↓ogf_256_20, ↓ogf_256_21, ↓ogf_256_22, ↓opf_256_22_0, ↓opf_256_22_1, ↓ogf_256_23, ↓opf_256_23, ↓ogf_256_24, ↓ogf_256_25, ↓opf_256_25_0, ↓opf_256_25_1, ↓ogf_256_26, ↓opf_256_26, ↓ogf_256_27, ↓opf_256_27, ↓ogf_256_28, ↓opf_256_28, ↓ogf_256_29, ↓ogf_256_30, ↓ogf_256_31, ↓ogf_256_32, ↓ogf_256_33, ↓ogf_256_34, g_isRoutine hR hn, b1', c_Model_in, b2']
  · have b1' := bI_f c1
    simp (decide := true) (disch := first | assumption | omega) only [zi_Model_pass_0, zi_Model_pass_1, zi_Model_pass_2, zi_Model_pass_5, zi_Model_pass_8, zi_Model_pass_9, zi_Model_pass_10, zi_Model_pass_11, zi_Model_pass_14, zi_Model_pass_17, zi_Model_pass_18, zi_Model_pass_21, zi_Model_pass_23, zi_Model_pass_26, zi_Model_pass_28, ↓reduceIte, mj_op_s, Option.toList_some, Option.toList_none, List.cons_append, List.nil_append, hp_1, hp_2, true_and, and_true, zb_0, zb_1, zb_b, va_rf, io_256, ↓ogf_256_0, ↓opf_256_0, ↓ogf_256_1, ↓ogf_256_2, ↓ogf_256_3, ↓ogf_256_4, ↓opf_256_4, ↓ogf_256_5, ↓ogf_256_6, ↓ogf_256_7, ↓opf_256_7, ↓ogf_256_8, ↓opf_256_8, ↓ogf_256_9, ↓opf_256_9, ↓ogf_256_10, ↓opf_256_10, ↓ogf_256_11, ↓ogf_256_12, ↓ogf_256_13, ↓ogf_256_14, ↓ogf_256_15, ↓ogf_256_16, ↓ogf_256_17, ↓opf_256_17, ↓ogf_256_18, ↓opf_256_18, ↓ogf_256_19, ↓ogf_256_20, ↓ogf_256_21, ↓ogf_256_22, ↓opf_256_22_0, ↓opf_256_22_1, ↓ogf_256_23, ↓opf_256_23, ↓ogf_256_24, ↓ogf_256_25, ↓opf_256_25_0, ↓opf_256_25_1, ↓ogf_256_26, ↓opf_256_26, ↓ogf_256_27, ↓opf_256_27, ↓ogf_256_28, ↓opf_256_28, ↓ogf_256_29, ↓ogf_256_30, ↓ogf_256_31, ↓ogf_256_32, ↓ogf_256_33, ↓ogf_256_34, g_isRoutine hR hn, b1']
theorem c_Model_pass (hR : mR M nr R) (hok : okS nr R) (hn : nr < 40) (hr : r < nr) (hw : w < 4) (hend : ∀ M', sv mpP M M' → mR M' (nr + 1) (upR R nr (psA w (R r).1 (R r).2)) → hasV M' (psW w (R r).1 (R r).2) → Q (some (.int (nI nr))) (hp M')) : mj_V (d + 7) lim mq_Model_pass 0 [.ref 256, .int (nI r), .int (nI w)] [] (hp M) Q := by
  have r0 := hR.1
  obtain ⟨b0, hb⟩ := hR.2.2
  have b1' := bI_t (isR_l (nr := nr) (by omega) hr)
  have b2' : bI (¬ nI w < nI 0 ∧ ¬ nI 3 < nI w) = nI 1 := bI_t ⟨nI_nlt (by omega) (by omega), nI_nlt (by omega) (by omega)⟩
  have n40 : ¬ nI nr = nI 40 := fun h => by have := nI_inj (by omega) (by omega) h; omega
  have hn40 : nr ≤ 40 := by omega
  have hokr := hok.2 r hr
  simp (decide := true) (disch := first | assumption | omega) only [zi_Model_pass_0, zi_Model_pass_1, zi_Model_pass_2, zi_Model_pass_5, zi_Model_pass_8, zi_Model_pass_9, zi_Model_pass_10, zi_Model_pass_11, zi_Model_pass_14, zi_Model_pass_17, zi_Model_pass_18, zi_Model_pass_21, zi_Model_pass_23, zi_Model_pass_26, zi_Model_pass_28, zi_Model_pass_29, zi_Model_pass_30, zi_Model_pass_31, zi_Model_pass_34, zi_Model_pass_35, zi_Model_pass_36, zi_Model_pass_39, zi_Model_pass_40, zi_Model_pass_41, zi_Model_pass_42, zi_Model_pass_44, ↓reduceIte, mj_op_s, Option.toList_some, Option.toList_none, List.cons_append, List.nil_append, hp_1, hp_2, true_and, and_true, zb_0, zb_1, zb_b, va_rf, io_256, ↓ogf_256_0, ↓opf_256_0, ↓ogf_256_1, ↓ogf_256_2, ↓ogf_256_3, ↓ogf_256_4, ↓opf_256_4, ↓ogf_256_5, ↓ogf_256_6, ↓ogf_256_7, ↓opf_256_7, ↓ogf_256_8, ↓opf_256_8, ↓ogf_256_9, ↓opf_256_9, ↓ogf_256_10, ↓opf_256_10, ↓ogf_256_11, ↓ogf_256_12, ↓ogf_256_13, ↓ogf_256_14, ↓ogf_256_15, ↓ogf_256_16, ↓ogf_256_17, ↓opf_256_17, ↓ogf_256_18, ↓opf_256_18, ↓ogf_256_19, ↓ogf_256_20, ↓ogf_256_21, ↓ogf_256_22, ↓opf_256_22_0, ↓opf_256_22_1, ↓ogf_256_23, ↓opf_256_23, ↓ogf_256_24, ↓ogf_256_25, ↓opf_256_25_0, ↓opf_256_25_1, ↓ogf_256_26, ↓opf_256_26, ↓ogf_256_27, ↓opf_256_27, ↓ogf_256_28, ↓opf_256_28, ↓ogf_256_29, ↓ogf_256_30, ↓ogf_256_31, ↓ogf_256_32, ↓ogf_256_33, ↓ogf_256_34, g_isRoutine hR hn40, b1', c_Model_in, b2', r0, n40]
  have hv1 : sv mpP M (wI (wI M 256 25 (nI 1)) 256 10 (nI 0)) := sv_wI (sv_wI sv_refl (by unfold mpP mbP; omega)) (by unfold mpP; omega)
  have hM1 : ∀ r len A, hasM M r len A → hasM (wI (wI M 256 25 (nI 1)) 256 10 (nI 0)) r len A := fun r len A h => ⟨by rw [rI_wI, if_neg (by omega), rI_wI, if_neg (by omega)]; exact h.1, fun p hp0 j hj => by rw [rI_wI, if_neg (by omega), rI_wI, if_neg (by omega)]; exact h.2 p hp0 j hj⟩
  refine c_Model_does (d := d) (t := 40) (wf := true) (by omega) (by omega) (by omega) (hM1 r _ _ (hR.2.1 r hr)) hokr hw (b0 := b0) (by rw [rI_wI, if_neg (by omega), rI_wI, if_neg (by omega)]; exact hb) (by rw [rI_wI, if_neg (by omega), rI_wI, if_pos ⟨rfl, rfl⟩]; rfl) (fun _ => ⟨by rw [rI_wI, if_pos ⟨rfl, rfl⟩]; rfl, fun i hi => by have : i < 0 := hi; omega⟩) (fun M2 b2 hv2 hb2 hT2 hV2 => ?_)
  have r2 : rI M2 256 0 = nI nr := by
    rw [sv_I hv2 (by unfold dsP mrP kmP mwP; omega), rI_wI, if_neg (by omega), rI_wI, if_neg (by omega)]
    exact r0
  have hokp : okR (psA w (R r).1 (R r).2).1 (psA w (R r).1 (R r).2).2 := okR_ps hokr
  simp (decide := true) (disch := first | assumption | omega) only [zi_Model_pass_47, zi_Model_pass_48, zi_Model_pass_49, zi_Model_pass_52, zi_Model_pass_54, ↓reduceIte, mj_op_s, Option.toList_some, Option.toList_none, List.cons_append, List.nil_append, hp_1, hp_2, true_and, and_true, zb_0, zb_1, zb_b, va_rf, io_256, ↓ogf_256_0, ↓opf_256_0, ↓ogf_256_1, ↓ogf_256_2, ↓ogf_256_3, ↓ogf_256_4, ↓opf_256_4, ↓ogf_256_5, ↓ogf_256_6, ↓ogf_256_7, ↓opf_256_7, ↓ogf_256_8, ↓opf_256_8, ↓ogf_256_9, ↓opf_256_9, ↓ogf_256_10, ↓opf_256_10, ↓ogf_256_11, ↓ogf_256_12, ↓ogf_256_13, ↓ogf_256_14, ↓ogf_256_15, ↓ogf_256_16, ↓ogf_256_17, ↓opf_256_17, ↓ogf_256_18, ↓opf_256_18, ↓ogf_256_19, ↓ogf_256_20, ↓ogf_256_21, ↓ogf_256_22, ↓opf_256_22_0, ↓opf_256_22_1, ↓ogf_256_23, ↓opf_256_23, ↓ogf_256_24, ↓ogf_256_25, ↓opf_256_25_0, ↓opf_256_25_1, ↓ogf_256_26, ↓opf_256_26, ↓ogf_256_27, ↓opf_256_27, ↓ogf_256_28, ↓opf_256_28, ↓ogf_256_29, ↓ogf_256_30, ↓ogf_256_31, ↓ogf_256_32, ↓ogf_256_33, ↓ogf_256_34, r2]
  refine c_Model_copy (d := d + 4) (by omega) (by omega) (by omega) hT2 hokp.1 (fun M3 hv3 hT3 => ?_)
  have r3 : rI M3 256 0 = nI nr := (sv_I hv3 (by unfold mrP; omega)).trans r2
  have r4 : rI (wI M3 256 0 (nI (nr + 1))) 256 0 = nI (nr + 1) := by rw [rI_wI, if_pos ⟨rfl, rfl⟩]
  simp (decide := true) (disch := first | assumption | omega) only [zi_Model_pass_57, zi_Model_pass_58, zi_Model_pass_59, zi_Model_pass_62, zi_Model_pass_63, zi_Model_pass_64, zi_Model_pass_67, zi_Model_pass_68, zi_Model_pass_71, zi_Model_pass_72, zi_Model_pass_73, ↓reduceIte, mj_op_s, Option.toList_some, Option.toList_none, List.cons_append, List.nil_append, hp_1, hp_2, true_and, and_true, zb_0, zb_1, zb_b, va_rf, io_256, ↓ogf_256_0, ↓opf_256_0, ↓ogf_256_1, ↓ogf_256_2, ↓ogf_256_3, ↓ogf_256_4, ↓opf_256_4, ↓ogf_256_5, ↓ogf_256_6, ↓ogf_256_7, ↓opf_256_7, ↓ogf_256_8, ↓opf_256_8, ↓ogf_256_9, ↓opf_256_9, ↓ogf_256_10, ↓opf_256_10, ↓ogf_256_11, ↓ogf_256_12, ↓ogf_256_13, ↓ogf_256_14, ↓ogf_256_15, ↓ogf_256_16, ↓ogf_256_17, ↓opf_256_17, ↓ogf_256_18, ↓opf_256_18, ↓ogf_256_19, ↓ogf_256_20, ↓ogf_256_21, ↓ogf_256_22, ↓opf_256_22_0, ↓opf_256_22_1, ↓ogf_256_23, ↓opf_256_23, ↓ogf_256_24, ↓ogf_256_25, ↓opf_256_25_0, ↓opf_256_25_1, ↓ogf_256_26, ↓opf_256_26, ↓ogf_256_27, ↓opf_256_27, ↓ogf_256_28, ↓opf_256_28, ↓ogf_256_29, ↓ogf_256_30, ↓ogf_256_31, ↓ogf_256_32, ↓ogf_256_33, ↓ogf_256_34, r3, r4, nI_add, nI_sub1]
  have hv4 : sv mpP M (wI M3 256 0 (nI (nr + 1))) := by
    refine sv_wI (sv_trans hv1 (sv_trans (sv_mono hv2 (fun i k h => ?_)) (sv_mono hv3 (fun i k h => ?_)))) (by unfold mpP mbP; omega)
    · unfold dsP mrP kmP mwP at h; unfold mpP mbP; omega
    · unfold mrP at h; unfold mpP mbP; omega
  have hM4 : ∀ r len A, hasM M3 r len A → hasM (wI M3 256 0 (nI (nr + 1))) r len A := fun r len A h => ⟨by rw [rI_wI, if_neg (by omega)]; exact h.1, fun p hp0 j hj => by rw [rI_wI, if_neg (by omega)]; exact h.2 p hp0 j hj⟩
  refine hend _ hv4 (mR_up hok hR (fun r len A hr h50 h => hM4 r _ _ (mr_M hv3 (by omega) h50 (ds_M hv2 (by omega) h50 (hM1 r _ _ h)))) (hM4 _ _ _ hT3) r4 ⟨b2, by rw [rI_wI, if_neg (by omega), sv_I hv3 (by unfold mrP; omega)]; exact hb2⟩) ?_
  obtain ⟨a, b⟩ := hV2 rfl
  refine ⟨by rw [rI_wI, if_neg (by omega), sv_I hv3 (by unfold mrP; omega)]; exact a, fun i hi => ?_⟩
  obtain ⟨b1, b2, b3, b4, b5⟩ := b i hi
  exact ⟨by rw [rI_wI, if_neg (by omega), sv_I hv3 (by unfold mrP; omega)]; exact b1, by rw [rI_wI, if_neg (by omega), sv_I hv3 (by unfold mrP; omega)]; exact b2, by rw [rI_wI, if_neg (by omega), sv_I hv3 (by unfold mrP; omega)]; exact b3, by rw [rI_wI, if_neg (by omega), sv_I hv3 (by unfold mrP; omega)]; exact b4, fun r hr => ⟨by rw [rI_wI, if_neg (by omega), sv_I hv3 (by unfold mrP; omega)]; exact (b5 r hr).1, by rw [rL_wI, sv_L hv3 (by unfold mrP; omega)]; exact (b5 r hr).2⟩⟩
/-! best -/
abbrev bmP (i k : Nat) : Prop := dsP 41 false i k ∨ mrP 40 i k
theorem bm_w : ∀ i k, ¬ (mwP false i k) := fun i k h => by have := h.1; cases this
theorem l_mbest_in {r : Int32} (hw25 : rI M 256 25 = nI 0) : ∀ (n w : Nat) (M' : mm) (x : XA) (c : Bool), w + n = 4 → sv bmP M M' → okR x.1 x.2 → hasM M' 40 x.1 x.2 → (∃ b, rI M' 256 22 = b1 b) → (∀ M2, sv bmP M M2 → (∃ b, rI M2 256 22 = b1 b) → hasM M2 40 (itw n w x).1 (itw n w x).2 → mj_V (d + 7) lim mq_Model_best 91 [.ref 256, .int r, .int (b1 (c || chg n w x)), .int (nI 4)] [] (hp M2) Q) → mj_V (d + 7) lim mq_Model_best 42 [.ref 256, .int r, .int (b1 c), .int (nI w)] [] (hp M') Q := by
  intro n
  induction n with
  | zero =>
    intro w M' x c hw hv hok hR hb hend
    obtain rfl : w = 4 := by omega
    have h := hend M' hv hb hR
    rw [show (c || chg 0 4 x) = c from Bool.or_false c] at h
    rw [zi_Model_best_42]
    simp (decide := true) only [zi_Model_best_43, zi_Model_best_44, ↓reduceIte, mj_op_s, Option.toList_some, Option.toList_none, List.cons_append, List.nil_append, hp_1, hp_2, true_and, and_true, zb_0, zb_1, zb_b, va_rf]
    exact h
  | succ n ih =>
    intro w M' x c hw hv hok hR hb hend
    have h50 := hok.1
    have hw4 : w < 4 := by omega
    obtain ⟨b0, hb⟩ := hb
    have e1 : nI w < nI 4 := nI_lt (by omega) (by omega)
    have hw25' : rI M' 256 25 = b1 false := (sv_I hv (by unfold bmP dsP mrP kmP mwP; omega)).trans hw25
    rw [zi_Model_best_42]
    simp (decide := true) (disch := first | assumption | omega) only [zi_Model_best_43, zi_Model_best_44, zi_Model_best_47, zi_Model_best_48, zi_Model_best_49, zi_Model_best_51, zi_Model_best_53, ↓reduceIte, mj_op_s, Option.toList_some, Option.toList_none, List.cons_append, List.nil_append, hp_1, hp_2, true_and, and_true, zb_0, zb_1, zb_b, va_rf, io_256, ↓ogf_256_0, ↓opf_256_0, ↓ogf_256_1, ↓ogf_256_2, ↓ogf_256_3, ↓ogf_256_4, ↓opf_256_4, ↓ogf_256_5, ↓ogf_256_6, ↓ogf_256_7, ↓opf_256_7, ↓ogf_256_8, ↓opf_256_8, ↓ogf_256_9, ↓opf_256_9, ↓ogf_256_10, ↓opf_256_10, ↓ogf_256_11, ↓ogf_256_12, ↓ogf_256_13, ↓ogf_256_14, ↓ogf_256_15, ↓ogf_256_16, ↓ogf_256_17, ↓opf_256_17, ↓ogf_256_18, ↓opf_256_18, ↓ogf_256_19, ↓ogf_256_20, ↓ogf_256_21, ↓ogf_256_22, ↓opf_256_22_0, ↓opf_256_22_1, ↓ogf_256_23, ↓opf_256_23, ↓ogf_256_24, ↓ogf_256_25, ↓opf_256_25_0, ↓opf_256_25_1, ↓ogf_256_26, ↓opf_256_26, ↓ogf_256_27, ↓opf_256_27, ↓ogf_256_28, ↓opf_256_28, ↓ogf_256_29, ↓ogf_256_30, ↓ogf_256_31, ↓ogf_256_32, ↓ogf_256_33, ↓ogf_256_34, e1]
    refine c_Model_does (d := d) (t := 41) (wf := false) (by omega) (by omega) (by omega) hR hok hw4 hb hw25' (fun z => by cases z) (fun M2 b2 hv2 hb2 hT2 _ => ?_)
    have hT2 : hasM M2 41 (np w x).1 (np w x).2 := hasM_nrm hT2
    have hR2 := ds_M hv2 (by omega) h50 hR
    have hokn : okR (np w x).1 (np w x).2 := okR_np hok
    have hgo : ∀ c2, c2 = (c || cg w x) → mj_V (d + 7) lim mq_Model_best 77 [.ref 256, .int r, .int (b1 c2), .int (nI w)] [] (hp M2) Q := by
      intro c2 hc
      simp (decide := true) (disch := first | assumption | omega) only [zi_Model_best_77, zi_Model_best_78, zi_Model_best_80, zi_Model_best_82, ↓reduceIte, mj_op_s, Option.toList_some, Option.toList_none, List.cons_append, List.nil_append, hp_1, hp_2, true_and, and_true, zb_0, zb_1, zb_b, va_rf, io_256, ↓ogf_256_0, ↓opf_256_0, ↓ogf_256_1, ↓ogf_256_2, ↓ogf_256_3, ↓ogf_256_4, ↓opf_256_4, ↓ogf_256_5, ↓ogf_256_6, ↓ogf_256_7, ↓opf_256_7, ↓ogf_256_8, ↓opf_256_8, ↓ogf_256_9, ↓opf_256_9, ↓ogf_256_10, ↓opf_256_10, ↓ogf_256_11, ↓ogf_256_12, ↓ogf_256_13, ↓ogf_256_14, ↓ogf_256_15, ↓ogf_256_16, ↓ogf_256_17, ↓opf_256_17, ↓ogf_256_18, ↓opf_256_18, ↓ogf_256_19, ↓ogf_256_20, ↓ogf_256_21, ↓ogf_256_22, ↓opf_256_22_0, ↓opf_256_22_1, ↓ogf_256_23, ↓opf_256_23, ↓ogf_256_24, ↓ogf_256_25, ↓opf_256_25_0, ↓opf_256_25_1, ↓ogf_256_26, ↓opf_256_26, ↓ogf_256_27, ↓opf_256_27, ↓ogf_256_28, ↓opf_256_28, ↓ogf_256_29, ↓ogf_256_30, ↓ogf_256_31, ↓ogf_256_32, ↓ogf_256_33, ↓ogf_256_34]
      refine c_Model_copy (d := d + 4) (by omega) (by omega) (by omega) hT2 hokn.1 (fun M3 hv3 hT3 => ?_)
      simp only [zi_Model_best_85, zi_Model_best_88, ↓reduceIte, mj_op_s, Option.toList_some, Option.toList_none, List.cons_append, List.nil_append, hp_1, hp_2, true_and, and_true, zb_0, zb_1, zb_b, va_rf, nI_add]
      refine ih (w + 1) M3 (np w x) c2 (by omega) (sv_trans hv (sv_trans (sv_mono hv2 (fun i k h => Or.inl h)) (sv_mono hv3 (fun i k h => Or.inr h)))) hokn hT3 ⟨b2, (sv_I hv3 (by unfold mrP; omega)).trans hb2⟩ (fun M5 hv5 hb5 hR5 => ?_)
      have h := hend M5 hv5 hb5 hR5
      have e : (c || chg (n + 1) w x) = (c2 || chg n (w + 1) (np w x)) := by
        rw [hc]
        show (c || (cg w x || chg n (w + 1) (np w x))) = _
        rw [Bool.or_assoc]
      rw [e] at h
      exact h
    have heq : eqB x.1 x.2 (np w x).1 (np w x).2 = eqB (np w x).1 (np w x).2 x.1 x.2 := by
      cases h1 : eqB x.1 x.2 (np w x).1 (np w x).2 with
      | true =>
        obtain ⟨k1, k2⟩ := eqB_i h1
        exact (eqB_t ⟨k1.symm, fun p hp0 j hj => (k2 p (k1 ▸ hp0) j hj).symm⟩).symm
      | false =>
        cases h2 : eqB (np w x).1 (np w x).2 x.1 x.2 with
        | true =>
          obtain ⟨k1, k2⟩ := eqB_i h2
          rw [eqB_t ⟨k1.symm, fun p hp0 j hj => (k2 p (k1 ▸ hp0) j hj).symm⟩] at h1
          cases h1
        | false => rfl
    have h40 : 40 < 44 := by omega
    have h41 : 41 < 44 := by omega
    cases c with
    | true =>
      simp (decide := true) (disch := first | assumption | omega) only [zi_Model_best_56, zi_Model_best_57, zi_Model_best_71, zi_Model_best_72, zi_Model_best_75, zi_Model_best_76, ↓reduceIte, mj_op_s, Option.toList_some, Option.toList_none, List.cons_append, List.nil_append, hp_1, hp_2, true_and, and_true, zb_0, zb_1, zb_b, va_rf, io_256, ↓ogf_256_0, ↓opf_256_0, ↓ogf_256_1, ↓ogf_256_2, ↓ogf_256_3, ↓ogf_256_4, ↓opf_256_4, ↓ogf_256_5, ↓ogf_256_6, ↓ogf_256_7, ↓opf_256_7, ↓ogf_256_8, ↓opf_256_8, ↓ogf_256_9, ↓opf_256_9, ↓ogf_256_10, ↓opf_256_10, ↓ogf_256_11, ↓ogf_256_12, ↓ogf_256_13, ↓ogf_256_14, ↓ogf_256_15, ↓ogf_256_16, ↓ogf_256_17, ↓opf_256_17, ↓ogf_256_18, ↓opf_256_18, ↓ogf_256_19, ↓ogf_256_20, ↓ogf_256_21, ↓ogf_256_22, ↓opf_256_22_0, ↓opf_256_22_1, ↓ogf_256_23, ↓opf_256_23, ↓ogf_256_24, ↓ogf_256_25, ↓opf_256_25_0, ↓opf_256_25_1, ↓ogf_256_26, ↓opf_256_26, ↓ogf_256_27, ↓opf_256_27, ↓ogf_256_28, ↓opf_256_28, ↓ogf_256_29, ↓ogf_256_30, ↓ogf_256_31, ↓ogf_256_32, ↓ogf_256_33, ↓ogf_256_34, b1_t]
      exact hgo true rfl
    | false =>
      cases he : eqB (np w x).1 (np w x).2 x.1 x.2 with
      | true =>
        have hcg : cg w x = false := by unfold cg; rw [he]; rfl
        simp (decide := true) (disch := first | assumption | omega) only [zi_Model_best_56, zi_Model_best_57, zi_Model_best_60, zi_Model_best_61, zi_Model_best_63, zi_Model_best_65, zi_Model_best_68, zi_Model_best_71, zi_Model_best_72, zi_Model_best_75, zi_Model_best_76, ↓reduceIte, mj_op_s, Option.toList_some, Option.toList_none, List.cons_append, List.nil_append, hp_1, hp_2, true_and, and_true, zb_0, zb_1, zb_b, va_rf, io_256, ↓ogf_256_0, ↓opf_256_0, ↓ogf_256_1, ↓ogf_256_2, ↓ogf_256_3, ↓ogf_256_4, ↓opf_256_4, ↓ogf_256_5, ↓ogf_256_6, ↓ogf_256_7, ↓opf_256_7, ↓ogf_256_8, ↓opf_256_8, ↓ogf_256_9, ↓opf_256_9, ↓ogf_256_10, ↓opf_256_10, ↓ogf_256_11, ↓ogf_256_12, ↓ogf_256_13, ↓ogf_256_14, ↓ogf_256_15, ↓ogf_256_16, ↓ogf_256_17, ↓opf_256_17, ↓ogf_256_18, ↓opf_256_18, ↓ogf_256_19, ↓ogf_256_20, ↓ogf_256_21, ↓ogf_256_22, ↓opf_256_22_0, ↓opf_256_22_1, ↓ogf_256_23, ↓opf_256_23, ↓ogf_256_24, ↓ogf_256_25, ↓opf_256_25_0, ↓opf_256_25_1, ↓ogf_256_26, ↓opf_256_26, ↓ogf_256_27, ↓opf_256_27, ↓ogf_256_28, ↓opf_256_28, ↓ogf_256_29, ↓ogf_256_30, ↓ogf_256_31, ↓ogf_256_32, ↓ogf_256_33, ↓ogf_256_34, b1_f, c_Model_areSame h40 h41 hR2 hT2 h50 hokn.1, heq, he, b1_t]
        exact hgo false (by rw [hcg]; rfl)
      | false =>
        have hcg : cg w x = true := by unfold cg; rw [he]; rfl
        simp (decide := true) (disch := first | assumption | omega) only [zi_Model_best_56, zi_Model_best_57, zi_Model_best_60, zi_Model_best_61, zi_Model_best_63, zi_Model_best_65, zi_Model_best_68, zi_Model_best_71, zi_Model_best_72, zi_Model_best_75, zi_Model_best_76, ↓reduceIte, mj_op_s, Option.toList_some, Option.toList_none, List.cons_append, List.nil_append, hp_1, hp_2, true_and, and_true, zb_0, zb_1, zb_b, va_rf, io_256, ↓ogf_256_0, ↓opf_256_0, ↓ogf_256_1, ↓ogf_256_2, ↓ogf_256_3, ↓ogf_256_4, ↓opf_256_4, ↓ogf_256_5, ↓ogf_256_6, ↓ogf_256_7, ↓opf_256_7, ↓ogf_256_8, ↓opf_256_8, ↓ogf_256_9, ↓opf_256_9, ↓ogf_256_10, ↓opf_256_10, ↓ogf_256_11, ↓ogf_256_12, ↓ogf_256_13, ↓ogf_256_14, ↓ogf_256_15, ↓ogf_256_16, ↓ogf_256_17, ↓opf_256_17, ↓ogf_256_18, ↓opf_256_18, ↓ogf_256_19, ↓ogf_256_20, ↓ogf_256_21, ↓ogf_256_22, ↓opf_256_22_0, ↓opf_256_22_1, ↓ogf_256_23, ↓opf_256_23, ↓ogf_256_24, ↓ogf_256_25, ↓opf_256_25_0, ↓opf_256_25_1, ↓ogf_256_26, ↓opf_256_26, ↓ogf_256_27, ↓opf_256_27, ↓ogf_256_28, ↓opf_256_28, ↓ogf_256_29, ↓ogf_256_30, ↓ogf_256_31, ↓ogf_256_32, ↓ogf_256_33, ↓ogf_256_34, b1_f, c_Model_areSame h40 h41 hR2 hT2 h50 hokn.1, heq, he]
        exact hgo true (by rw [hcg]; rfl)
theorem l_mbest {r : Int32} (hw25 : rI M 256 25 = nI 0) : ∀ (f : Nat) (M' : mm) (x : XA) (x3 : Value), ms x < f → sv bmP M M' → okR x.1 x.2 → isN x → hasM M' 40 x.1 x.2 → (∃ b, rI M' 256 22 = b1 b) → (∀ M2 c y3, sv bmP M M2 → (∃ b, rI M2 256 22 = b1 b) → hasM M2 40 (bst f x).1 (bst f x).2 → mj_V (d + 7) lim mq_Model_best 94 [.ref 256, .int r, .int c, y3] [] (hp M2) Q) → mj_V (d + 7) lim mq_Model_best 34 [.ref 256, .int r, .int (nI 1), x3] [] (hp M') Q := by
  intro f
  induction f with
  | zero => intro M' x x3 h; omega
  | succ f ih =>
    intro M' x x3 hm hv hok hx hR hb hend
    rw [zi_Model_best_34]
    simp (decide := true) (disch := first | assumption | omega) only [zi_Model_best_35, zi_Model_best_38, zi_Model_best_39, zi_Model_best_40, zi_Model_best_41, ↓reduceIte, mj_op_s, Option.toList_some, Option.toList_none, List.cons_append, List.nil_append, hp_1, hp_2, true_and, and_true, zb_0, zb_1, zb_b, va_rf]
    refine l_mbest_in (M := M) (c := false) hw25 4 0 M' x (by omega) hv hok hR hb (fun M2 hv2 hb2 hR2 => ?_)
    rw [rnd_i] at hR2
    rw [more_i, Bool.false_or]
    simp only [zi_Model_best_91, ↓reduceIte, mj_op_s, Option.toList_some, Option.toList_none, List.cons_append, List.nil_append, hp_1, hp_2, true_and, and_true, zb_0, zb_1, zb_b, va_rf, nI_add]
    cases hmo : more x with
    | true =>
      have hb : bst (f + 1) x = bst f (rnd x) := if_pos hmo
      rw [hb] at hend
      have := ms_lt hok hx hmo
      exact ih M2 (rnd x) _ (by omega) hv2 (okR_rnd hok) isN_np hR2 hb2 hend
    | false =>
      have hb : bst (f + 1) x = rnd x := if_neg (by rw [hmo]; simp)
      rw [hb] at hend
      rw [zi_Model_best_34]
      simp (decide := true) (disch := first | assumption | omega) only [zi_Model_best_35, ↓reduceIte, mj_op_s, Option.toList_some, Option.toList_none, List.cons_append, List.nil_append, hp_1, hp_2, true_and, and_true, zb_0, zb_1, zb_b, va_rf, b1_f]
      exact hend M2 _ _ hv2 hb2 hR2
theorem c_Model_best_no {x1 : Int32} (hR : mR M nr R) (hok : okS nr R) (h : ¬ (isR nr x1 ∧ nr < 40)) : mj_V (d + 2) lim mq_Model_best 0 [.ref 256, .int x1, mj_j, mj_j] [] (hp M) Q ↔ Q (some (.int (-2))) (hp M) := by
  have r0 := hR.1
  have hn := hok.1
  by_cases c1 : isR nr x1
  · have b1' := bI_t c1
    obtain rfl : nr = 40 := Classical.byContradiction fun z => h ⟨c1, by omega⟩
    simp (decide := true) (disch := first | assumption | omega) only [zi_Model_best_0, zi_Model_best_1, zi_Model_best_2, zi_Model_best_5, zi_Model_best_8, zi_Model_best_9, zi_Model_best_12, zi_Model_best_14, zi_Model_best_17, zi_Model_best_19, ↓reduceIte, mj_op_s, Option.toList_some, Option.toList_none, List.cons_append, List.nil_append, hp_1, hp_2, true_and, and_true, zb_0, zb_1, zb_b, va_rf, io_256, ↓ogf_256_0, ↓opf_256_0, ↓ogf_256_1, ↓ogf_256_2, ↓ogf_256_3, ↓ogf_256_4, ↓opf_256_4, ↓ogf_256_5, ↓ogf_256_6, ↓ogf_256_7, ↓opf_256_7, ↓ogf_256_8, ↓opf_256_8, ↓ogf_256_9, ↓opf_256_9, ↓ogf_256_10, ↓opf_256_10, ↓ogf_256_11, ↓ogf_256_12, ↓ogf_256_13, ↓ogf_256_14, ↓ogf_256_15, ↓ogf_256_16, ↓ogf_256_17, ↓opf_256_17, ↓ogf_256_18, ↓opf_256_18, ↓ogf_256_19, ↓ogf_256_20, ↓ogf_256_21, ↓ogf_256_22, ↓opf_256_22_0, ↓opf_256_22_1, ↓ogf_256_23, ↓opf_256_23, ↓ogf_256_24, ↓ogf_256_25, ↓opf_256_25_0, ↓opf_256_25_1, ↓ogf_256_26, ↓opf_256_26, ↓ogf_256_27, ↓opf_256_27, ↓ogf_256_28, ↓opf_256_28, ↓ogf_256_29, ↓ogf_256_30, ↓ogf_256_31, ↓ogf_256_32, ↓ogf_256_33, ↓ogf_256_34, g_isRoutine hR hn, b1', r0]
  · have b1' := bI_f c1
    simp (decide := true) (disch := first | assumption | omega) only [zi_Model_best_0, zi_Model_best_1, zi_Model_best_2, zi_Model_best_5, zi_Model_best_8, zi_Model_best_9, zi_Model_best_12, zi_Model_best_14, zi_Model_best_17, zi_Model_best_19, ↓reduceIte, mj_op_s, Option.toList_some, Option.toList_none, List.cons_append, List.nil_append, hp_1, hp_2, true_and, and_true, zb_0, zb_1, zb_b, va_rf, io_256, ↓ogf_256_0, ↓opf_256_0, ↓ogf_256_1, ↓ogf_256_2, ↓ogf_256_3, ↓ogf_256_4, ↓opf_256_4, ↓ogf_256_5, ↓ogf_256_6, ↓ogf_256_7, ↓opf_256_7, ↓ogf_256_8, ↓opf_256_8, ↓ogf_256_9, ↓opf_256_9, ↓ogf_256_10, ↓opf_256_10, ↓ogf_256_11, ↓ogf_256_12, ↓ogf_256_13, ↓ogf_256_14, ↓ogf_256_15, ↓ogf_256_16, ↓ogf_256_17, ↓opf_256_17, ↓ogf_256_18, ↓opf_256_18, ↓ogf_256_19, ↓ogf_256_20, ↓ogf_256_21, ↓ogf_256_22, ↓opf_256_22_0, ↓opf_256_22_1, ↓ogf_256_23, ↓opf_256_23, ↓ogf_256_24, ↓ogf_256_25, ↓opf_256_25_0, ↓opf_256_25_1, ↓ogf_256_26, ↓opf_256_26, ↓ogf_256_27, ↓opf_256_27, ↓ogf_256_28, ↓opf_256_28, ↓ogf_256_29, ↓ogf_256_30, ↓ogf_256_31, ↓ogf_256_32, ↓ogf_256_33, ↓ogf_256_34, g_isRoutine hR hn, b1']
theorem c_Model_best (hR : mR M nr R) (hok : okS nr R) (hn : nr < 40) (hr : r < nr) (hend : ∀ M', sv mbP M M' → mR M' (nr + 1) (upR R nr (bst 400 (nrm (R r)))) → Q (some (.int (nI nr))) (hp M')) : mj_V (d + 7) lim mq_Model_best 0 [.ref 256, .int (nI r), mj_j, mj_j] [] (hp M) Q := by
  have r0 := hR.1
  obtain ⟨b0, hb⟩ := hR.2.2
  have b1' := bI_t (isR_l (nr := nr) (by omega) hr)
  have n40 : ¬ nI nr = nI 40 := fun h => by have := nI_inj (by omega) (by omega) h; omega
  have hn40 : nr ≤ 40 := by omega
  have hokr := hok.2 r hr
  simp (decide := true) (disch := first | assumption | omega) only [zi_Model_best_0, zi_Model_best_1, zi_Model_best_2, zi_Model_best_5, zi_Model_best_8, zi_Model_best_9, zi_Model_best_12, zi_Model_best_14, zi_Model_best_17, zi_Model_best_19, zi_Model_best_20, zi_Model_best_21, zi_Model_best_22, zi_Model_best_25, zi_Model_best_26, zi_Model_best_28, zi_Model_best_29, ↓reduceIte, mj_op_s, Option.toList_some, Option.toList_none, List.cons_append, List.nil_append, hp_1, hp_2, true_and, and_true, zb_0, zb_1, zb_b, va_rf, io_256, ↓ogf_256_0, ↓opf_256_0, ↓ogf_256_1, ↓ogf_256_2, ↓ogf_256_3, ↓ogf_256_4, ↓opf_256_4, ↓ogf_256_5, ↓ogf_256_6, ↓ogf_256_7, ↓opf_256_7, ↓ogf_256_8, ↓opf_256_8, ↓ogf_256_9, ↓opf_256_9, ↓ogf_256_10, ↓opf_256_10, ↓ogf_256_11, ↓ogf_256_12, ↓ogf_256_13, ↓ogf_256_14, ↓ogf_256_15, ↓ogf_256_16, ↓ogf_256_17, ↓opf_256_17, ↓ogf_256_18, ↓opf_256_18, ↓ogf_256_19, ↓ogf_256_20, ↓ogf_256_21, ↓ogf_256_22, ↓opf_256_22_0, ↓opf_256_22_1, ↓ogf_256_23, ↓opf_256_23, ↓ogf_256_24, ↓ogf_256_25, ↓opf_256_25_0, ↓opf_256_25_1, ↓ogf_256_26, ↓opf_256_26, ↓ogf_256_27, ↓opf_256_27, ↓ogf_256_28, ↓opf_256_28, ↓ogf_256_29, ↓ogf_256_30, ↓ogf_256_31, ↓ogf_256_32, ↓ogf_256_33, ↓ogf_256_34, g_isRoutine hR hn40, b1', r0, n40]
  have hv1 : sv mbP M (wI M 256 25 (nI 0)) := sv_wI sv_refl (by unfold mbP; omega)
  have hM1 : ∀ r len A, hasM M r len A → hasM (wI M 256 25 (nI 0)) r len A := fun r len A h => ⟨by rw [rI_wI, if_neg (by omega)]; exact h.1, fun p hp0 j hj => by rw [rI_wI, if_neg (by omega)]; exact h.2 p hp0 j hj⟩
  refine c_Model_copy (d := d + 4) (by omega) (by omega) (by omega) (hM1 r _ _ (hR.2.1 r hr)) hokr.1 (fun M2 hv2 hT2 => ?_)
  simp only [zi_Model_best_32, zi_Model_best_33, ↓reduceIte, mj_op_s, Option.toList_some, Option.toList_none, List.cons_append, List.nil_append, hp_1, hp_2, true_and, and_true, zb_0, zb_1, zb_b, va_rf]
  have hokn := okR_nrm hokr
  have hms := ms_le hokn
  have h22 : rI M2 256 22 = b1 b0 := by rw [sv_I hv2 (by unfold mrP; omega), rI_wI, if_neg (by omega)]; exact hb
  have h25 : rI M2 256 25 = nI 0 := by rw [sv_I hv2 (by unfold mrP; omega), rI_wI, if_pos ⟨rfl, rfl⟩]
  refine l_mbest (d := d) (M := M2) h25 400 M2 (nrm (R r)) _ (by omega) sv_refl hokn nrm_nrm (hasM_nrm hT2) ⟨b0, h22⟩ (fun M3 c y3 hv3 hb3 hT3 => ?_)
  have hokb := okR_bst 400 _ hokn
  have r3 : rI M3 256 0 = nI nr := by
    rw [sv_I hv3 (by unfold bmP dsP mrP kmP mwP; omega), sv_I hv2 (by unfold mrP; omega), rI_wI, if_neg (by omega)]
    exact r0
  simp (decide := true) (disch := first | assumption | omega) only [zi_Model_best_94, zi_Model_best_95, zi_Model_best_96, zi_Model_best_99, zi_Model_best_101, ↓reduceIte, mj_op_s, Option.toList_some, Option.toList_none, List.cons_append, List.nil_append, hp_1, hp_2, true_and, and_true, zb_0, zb_1, zb_b, va_rf, io_256, ↓ogf_256_0, ↓opf_256_0, ↓ogf_256_1, ↓ogf_256_2, ↓ogf_256_3, ↓ogf_256_4, ↓opf_256_4, ↓ogf_256_5, ↓ogf_256_6, ↓ogf_256_7, ↓opf_256_7, ↓ogf_256_8, ↓opf_256_8, ↓ogf_256_9, ↓opf_256_9, ↓ogf_256_10, ↓opf_256_10, ↓ogf_256_11, ↓ogf_256_12, ↓ogf_256_13, ↓ogf_256_14, ↓ogf_256_15, ↓ogf_256_16, ↓ogf_256_17, ↓opf_256_17, ↓ogf_256_18, ↓opf_256_18, ↓ogf_256_19, ↓ogf_256_20, ↓ogf_256_21, ↓ogf_256_22, ↓opf_256_22_0, ↓opf_256_22_1, ↓ogf_256_23, ↓opf_256_23, ↓ogf_256_24, ↓ogf_256_25, ↓opf_256_25_0, ↓opf_256_25_1, ↓ogf_256_26, ↓opf_256_26, ↓ogf_256_27, ↓opf_256_27, ↓ogf_256_28, ↓opf_256_28, ↓ogf_256_29, ↓ogf_256_30, ↓ogf_256_31, ↓ogf_256_32, ↓ogf_256_33, ↓ogf_256_34, r3]
  refine c_Model_copy (d := d + 4) (by omega) (by omega) (by omega) hT3 hokb.1 (fun M4 hv4 hT4 => ?_)
  have r4 : rI M4 256 0 = nI nr := (sv_I hv4 (by unfold mrP; omega)).trans r3
  have r5 : rI (wI M4 256 0 (nI (nr + 1))) 256 0 = nI (nr + 1) := by rw [rI_wI, if_pos ⟨rfl, rfl⟩]
  simp (decide := true) (disch := first | assumption | omega) only [zi_Model_best_104, zi_Model_best_105, zi_Model_best_106, zi_Model_best_109, zi_Model_best_110, zi_Model_best_111, zi_Model_best_114, zi_Model_best_115, zi_Model_best_118, zi_Model_best_119, zi_Model_best_120, ↓reduceIte, mj_op_s, Option.toList_some, Option.toList_none, List.cons_append, List.nil_append, hp_1, hp_2, true_and, and_true, zb_0, zb_1, zb_b, va_rf, io_256, ↓ogf_256_0, ↓opf_256_0, ↓ogf_256_1, ↓ogf_256_2, ↓ogf_256_3, ↓ogf_256_4, ↓opf_256_4, ↓ogf_256_5, ↓ogf_256_6, ↓ogf_256_7, ↓opf_256_7, ↓ogf_256_8, ↓opf_256_8, ↓ogf_256_9, ↓opf_256_9, ↓ogf_256_10, ↓opf_256_10, ↓ogf_256_11, ↓ogf_256_12, ↓ogf_256_13, ↓ogf_256_14, ↓ogf_256_15, ↓ogf_256_16, ↓ogf_256_17, ↓opf_256_17, ↓ogf_256_18, ↓opf_256_18, ↓ogf_256_19, ↓ogf_256_20, ↓ogf_256_21, ↓ogf_256_22, ↓opf_256_22_0, ↓opf_256_22_1, ↓ogf_256_23, ↓opf_256_23, ↓ogf_256_24, ↓ogf_256_25, ↓opf_256_25_0, ↓opf_256_25_1, ↓ogf_256_26, ↓opf_256_26, ↓ogf_256_27, ↓opf_256_27, ↓ogf_256_28, ↓opf_256_28, ↓ogf_256_29, ↓ogf_256_30, ↓ogf_256_31, ↓ogf_256_32, ↓ogf_256_33, ↓ogf_256_34, r4, r5, nI_add, nI_sub1]
  obtain ⟨b3, hb3⟩ := hb3
  have hv5 : sv mbP M (wI M4 256 0 (nI (nr + 1))) := by
    refine sv_wI (sv_trans hv1 (sv_trans (sv_mono hv2 (fun i k h => ?_)) (sv_trans (sv_mono hv3 (fun i k h => ?_)) (sv_mono hv4 (fun i k h => ?_))))) (by unfold mbP; omega)
    · unfold mrP at h; unfold mbP; omega
    · rcases h with h | h
      · rcases h with h | h | h | h | h
        · unfold mrP at h; unfold mbP; omega
        · unfold kmP at h; unfold mbP; omega
        · unfold mbP; omega
        · unfold mbP; omega
        · exact absurd h (bm_w i k)
      · unfold mrP at h; unfold mbP; omega
    · unfold mrP at h; unfold mbP; omega
  have hM4 : ∀ r len A, hasM M4 r len A → hasM (wI M4 256 0 (nI (nr + 1))) r len A := fun r len A h => ⟨by rw [rI_wI, if_neg (by omega)]; exact h.1, fun p hp0 j hj => by rw [rI_wI, if_neg (by omega)]; exact h.2 p hp0 j hj⟩
  have hM3 : ∀ r len A, r < nr → len ≤ 50 → hasM M2 r len A → hasM M3 r len A := fun r len A hr h50 h => ⟨(sv_I hv3 (by unfold bmP dsP mrP kmP mwP; omega)).trans h.1, fun p hp0 j hj => (sv_I hv3 (by unfold bmP dsP mrP kmP mwP; omega)).trans (h.2 p hp0 j hj)⟩
  refine hend _ hv5 (mR_up hok hR (fun r len A hr h50 h => hM4 r _ _ (mr_M hv4 (by omega) h50 (hM3 r _ _ hr h50 (mr_M hv2 (by omega) h50 (hM1 r _ _ h))))) (hM4 _ _ _ hT4) r5 ⟨b3, by rw [rI_wI, if_neg (by omega), sv_I hv4 (by unfold mrP; omega)]; exact hb3⟩)
end C90
