/-! calls: pass, best, judge, run -/
section C9I
variable {d : Nat} {lim : Nat × Nat} {Q : mj_Q} {M M' : mm} {r n i nr : Nat} {W : WS} {R : Nat → XA} {x : XA}
theorem cR_up (hn : nr < 40) (hc : cR M nr R) (h1 : ∀ r len A, r < nr → hasR M (3 + 5 * r) len A → hasR M' (3 + 5 * r) len A) (h2 : hasR M' (3 + 5 * nr) x.1 x.2) (h3 : rI M' 1 1 = nI (nr + 1)) (h4 : ∀ r, nr < r → r < 40 → rI M' (3 + 5 * r) 4 = rI M (3 + 5 * r) 4) : cR M' (nr + 1) (upR R nr x) := by
  refine ⟨h3, fun r hr => ?_, fun r ha hb => (h4 r (by omega) hb).trans (hc.2.2 r (by omega) hb)⟩
  unfold upR
  by_cases e : r = nr
  · rw [if_pos e, e]; exact h2
  · rw [if_neg e]; exact h1 r _ _ (by omega) (hc.2.1 r (by omega))
theorem J_pass (hI : Inv M) {x1 x2 : Int32} (hend : ∀ M1 (u : Int32), M1.2.2.2 = M.2.2.2 → JH d M mq_Model_pass [.ref 256, .int x1, .int x2] (.int u) M1 → Q (some (.int u)) (hp M1)) : mj_V (d + 8) lim mq_Court_pass 0 [.ref 1, .int x1, .int x2, mj_j] [] (hp M) Q := by
  obtain ⟨nr, R, fed, fd, rg, gv, ot, dn, pl, W, fy, oS, oF, oW, ⟨c1, c2, c3, c4, c5⟩, ⟨m1, m2, m3, m4, m5⟩⟩ := hI
  have hI : Inv M := ⟨nr, R, fed, fd, rg, gv, ot, dn, pl, W, fy, oS, oF, oW, ⟨c1, c2, c3, c4, c5⟩, ⟨m1, m2, m3, m4, m5⟩⟩
  have hn := oS.1
  have r0 := c1.1
  have hno : ¬ (isR nr x1 ∧ (¬ x2 < nI 0 ∧ ¬ nI 3 < x2) ∧ nr < 40) → JH d M mq_Model_pass [.ref 256, .int x1, .int x2] (.int (-2)) M := fun h => JH_same hI (fun lim Q2 hq => (c_Model_pass_no (d := d + 6) m1 oS h).mpr hq)
  by_cases h1 : isR nr x1
  · obtain ⟨r, hr, rfl⟩ := isR_n h1
    have rt := rt_n (show r < 40 by omega)
    by_cases h2 : isR 4 x2
    · have h2' := (inL_iff (n := 3) (by omega)).mpr h2
      have k1 := h2'.1
      have k2 := h2'.2
      obtain ⟨w, hw, rfl⟩ := isR_n h2
      by_cases h3 : nr < 40
      · have e1 : nI nr < nI 40 := nI_lt h3 (by omega)
        have rtn := rt_n h3
        have hok := oS.2 r hr
        have hR := c1.2.1 r hr
        have hne : 3 + 5 * r + 4 < 3 + 5 * nr ∨ 3 + 5 * nr + 4 < 3 + 5 * r := by omega
        simp (decide := true) (disch := first | assumption | omega) only [zi_Court_pass_0, zi_Court_pass_1, zi_Court_pass_2, zi_Court_pass_5, zi_Court_pass_5n, zi_Court_pass_6, zi_Court_pass_6n, zi_Court_pass_7, zi_Court_pass_7n, zi_Court_pass_10, zi_Court_pass_11, zi_Court_pass_14, zi_Court_pass_15, zi_Court_pass_16, zi_Court_pass_19, zi_Court_pass_20, zi_Court_pass_23, zi_Court_pass_25, zi_Court_pass_28, zi_Court_pass_30, zi_Court_pass_31, zi_Court_pass_32, zi_Court_pass_35, zi_Court_pass_35n, zi_Court_pass_36, zi_Court_pass_37, ↓reduceIte, mj_op_s, Option.toList_some, Option.toList_none, List.cons_append, List.nil_append, hp_1, hp_2, true_and, and_true, zb_0, zb_1, zb_b, va_rf, io_rt, ↓ogf_rt_0, ↓ogf_rt_1, ↓ogf_rt_2, ↓ogf_rt_3, ↓ogf_rt_4, ↓oai_rt_0, ↓oai_rt_1, ↓oai_rt_2, ↓oai_rt_3, ↓owi_rt_0, ↓owi_rt_1, ↓owi_rt_2, ↓owi_rt_3, ↓opf_rt, io_1, ↓ogf_1_0, ↓ogf_1_1, ↓opf_1_1, ↓ogf_1_2, ↓ogf_1_3, ↓ogf_1_4, ↓ogf_1_5, ↓ogf_1_6, ↓ogf_1_7, io_212, ↓ogf_212_0, ↓ogf_212_1, ↓ogf_212_2, ↓ogf_212_3, ↓ogf_212_4, ↓ogf_212_5, g_find c1 hr hn, k1, k2, r0, e1]
        refine c_Passes_study (d := d + 3) rt hR hok hw (fun M1 hv1 hs1 => ?_)
        have hR1 := sv_hasR hv1 (fun j k hj z => by unfold sdP at z; omega) hR
        have r1 : rI M1 1 1 = nI nr := (sv_I hv1 (by unfold sdP; omega)).trans r0
        simp (decide := true) (disch := first | assumption | omega) only [zi_Court_pass_40, zi_Court_pass_41, zi_Court_pass_44, zi_Court_pass_44n, zi_Court_pass_45, zi_Court_pass_46, zi_Court_pass_49, zi_Court_pass_50, zi_Court_pass_53, zi_Court_pass_54, zi_Court_pass_55, ↓reduceIte, mj_op_s, Option.toList_some, Option.toList_none, List.cons_append, List.nil_append, hp_1, hp_2, true_and, and_true, zb_0, zb_1, zb_b, va_rf, io_rt, ↓ogf_rt_0, ↓ogf_rt_1, ↓ogf_rt_2, ↓ogf_rt_3, ↓ogf_rt_4, ↓oai_rt_0, ↓oai_rt_1, ↓oai_rt_2, ↓oai_rt_3, ↓owi_rt_0, ↓owi_rt_1, ↓owi_rt_2, ↓owi_rt_3, ↓opf_rt, io_1, ↓ogf_1_0, ↓ogf_1_1, ↓opf_1_1, ↓ogf_1_2, ↓ogf_1_3, ↓ogf_1_4, ↓ogf_1_5, ↓ogf_1_6, ↓ogf_1_7, io_212, ↓ogf_212_0, ↓ogf_212_1, ↓ogf_212_2, ↓ogf_212_3, ↓ogf_212_4, ↓ogf_212_5, r1, ↓oaa_2]
        refine c_Passes_make (d := d + 3) rt rtn hne hR1 hok hw hs1 (fun M2 hv2 hR2 => ?_)
        have hR3 := sv_hasR hv2 (rt_rt hne) hR1
        have hs2 := stC_sv hv2 (rt_sd rtn) hs1
        simp (decide := true) (disch := first | assumption | omega) only [zi_Court_pass_58, zi_Court_pass_59, zi_Court_pass_62, zi_Court_pass_62n, zi_Court_pass_63, zi_Court_pass_64, zi_Court_pass_67, zi_Court_pass_68, ↓reduceIte, mj_op_s, Option.toList_some, Option.toList_none, List.cons_append, List.nil_append, hp_1, hp_2, true_and, and_true, zb_0, zb_1, zb_b, va_rf, io_rt, ↓ogf_rt_0, ↓ogf_rt_1, ↓ogf_rt_2, ↓ogf_rt_3, ↓ogf_rt_4, ↓oai_rt_0, ↓oai_rt_1, ↓oai_rt_2, ↓oai_rt_3, ↓owi_rt_0, ↓owi_rt_1, ↓owi_rt_2, ↓owi_rt_3, ↓opf_rt, io_1, ↓ogf_1_0, ↓ogf_1_1, ↓opf_1_1, ↓ogf_1_2, ↓ogf_1_3, ↓ogf_1_4, ↓ogf_1_5, ↓ogf_1_6, ↓ogf_1_7, io_212, ↓ogf_212_0, ↓ogf_212_1, ↓ogf_212_2, ↓ogf_212_3, ↓ogf_212_4, ↓ogf_212_5, io_231, ↓ogf_231_0, ↓ogf_231_1, ↓ogf_231_2, ↓ogf_231_3, ↓ogf_231_4, ↓ogf_231_5, ↓ogf_231_6, ↓opf_231_6]
        refine c_Passes_testify (d := d + 3) rt hR3 hok hw hs2 (fun M3 hv3 hW3 => ?_)
        have r3 : rI M3 1 1 = nI nr := (sv_I hv3 (by unfold wiP; omega)).trans ((sv_I hv2 (by unfold rtP; omega)).trans r1)
        simp (decide := true) (disch := first | assumption | omega) only [zi_Court_pass_71, zi_Court_pass_72, zi_Court_pass_73, zi_Court_pass_76, zi_Court_pass_77, zi_Court_pass_78, zi_Court_pass_79, zi_Court_pass_82, ↓reduceIte, mj_op_s, Option.toList_some, Option.toList_none, List.cons_append, List.nil_append, hp_1, hp_2, true_and, and_true, zb_0, zb_1, zb_b, va_rf, io_1, ↓ogf_1_0, ↓ogf_1_1, ↓opf_1_1, ↓ogf_1_2, ↓ogf_1_3, ↓ogf_1_4, ↓ogf_1_5, ↓ogf_1_6, ↓ogf_1_7, r3, nI_add]
        have hv4 : sv (fun i k => i = 1 ∧ k = 1) M3 (wI M3 1 1 (nI (nr + 1))) := sv_wI sv_refl ⟨rfl, rfl⟩
        have hv5 : sv (fun i k => sdP i k ∨ rtP (3 + 5 * nr) i k ∨ wiP i k ∨ i = 1 ∧ k = 1) M (wI M3 1 1 (nI (nr + 1))) := sv_trans (sv_mono hv1 (fun i k h => Or.inl h)) (sv_trans (sv_mono hv2 (fun i k h => Or.inr (Or.inl h))) (sv_trans (sv_mono hv3 (fun i k h => Or.inr (Or.inr (Or.inl h)))) (sv_mono hv4 (fun i k h => Or.inr (Or.inr (Or.inr h))))))
        have hlo : ∀ i k, (sdP i k ∨ rtP (3 + 5 * nr) i k ∨ wiP i k ∨ i = 1 ∧ k = 1) → i < 256 := fun i k h => by unfold sdP rtP wiP at h; omega
        obtain ⟨n1, n2, n3, n4, n5⟩ := m_lo hv5 hlo ⟨m1, m2, m3, m4, m5⟩
        have hRn : hasR (wI M3 1 1 (nI (nr + 1))) (3 + 5 * nr) (psA w (R r).1 (R r).2).1 (psA w (R r).1 (R r).2).2 := sv_hasR hv4 (fun j k hj z => by omega) (sv_hasR hv3 (wi_rt rtn) hR2)
        have hWn : hasW (wI M3 1 1 (nI (nr + 1))) (psW w (R r).1 (R r).2) := hasW_sv hv4 (fun i k z y p => by omega) hW3
        have cRn : cR (wI M3 1 1 (nI (nr + 1))) (nr + 1) (upR R nr (psA w (R r).1 (R r).2)) := cR_up h3 c1 (fun k len A hk h => sv_hasR hv5 (fun j k2 hj z => by unfold sdP rtP wiP at z; omega) h) hRn (by rw [rI_wI, if_pos ⟨rfl, rfl⟩]) (fun k h1 h2 => sv_I hv5 (by unfold sdP rtP wiP; omega))
        refine hend _ _ hv5.2 (fun lim Q2 hq => ?_)
        refine c_Model_pass (d := d + 1) n1 oS h3 hr hw (fun M5 hv6 hm6 hV6 => ?_)
        refine hq _ (hv6.2.trans hv5.2) ⟨nr + 1, upR R nr (psA w (R r).1 (R r).2), fed, fd, rg, gv, ot, dn, pl, psW w (R r).1 (R r).2, fy, okS_up oS h3 (okR_ps hok), oF, okW_ps hok, c_hi hv6 (fun i k h => by unfold mpP mbP at h; omega) (by omega) ⟨cRn, cF_sv hv5 (fun i k z p => by unfold sdP rtP wiP at p; omega) c2, cG_sv hv5 (fun i k z p => by unfold sdP rtP wiP at p; omega) c3, hWn, cJ_sv hv5 (fun i k z p => by unfold sdP rtP wiP at p; omega) c5⟩, ⟨hm6, mF_sv hv6 (fun i k z p => by unfold mpP mbP at p; omega) n2, mG_sv hv6 (fun i k z p => by unfold mpP mbP at p; omega) n3, hV6, mJ_sv hv6 (fun i k z p => by unfold mpP mbP at p; omega) n5⟩⟩
      · obtain rfl : nr = 40 := by omega
        simp (decide := true) (disch := first | assumption | omega) only [zi_Court_pass_0, zi_Court_pass_1, zi_Court_pass_2, zi_Court_pass_5, zi_Court_pass_5n, zi_Court_pass_6, zi_Court_pass_6n, zi_Court_pass_7, zi_Court_pass_7n, zi_Court_pass_10, zi_Court_pass_11, zi_Court_pass_14, zi_Court_pass_15, zi_Court_pass_16, zi_Court_pass_19, zi_Court_pass_20, zi_Court_pass_23, zi_Court_pass_25, zi_Court_pass_28, zi_Court_pass_30, ↓reduceIte, mj_op_s, Option.toList_some, Option.toList_none, List.cons_append, List.nil_append, hp_1, hp_2, true_and, and_true, zb_0, zb_1, zb_b, va_rf, io_rt, ↓ogf_rt_0, ↓ogf_rt_1, ↓ogf_rt_2, ↓ogf_rt_3, ↓ogf_rt_4, ↓oai_rt_0, ↓oai_rt_1, ↓oai_rt_2, ↓oai_rt_3, ↓owi_rt_0, ↓owi_rt_1, ↓owi_rt_2, ↓owi_rt_3, ↓opf_rt, io_1, ↓ogf_1_0, ↓ogf_1_1, ↓opf_1_1, ↓ogf_1_2, ↓ogf_1_3, ↓ogf_1_4, ↓ogf_1_5, ↓ogf_1_6, ↓ogf_1_7, g_find c1 hr hn, k1, k2, r0]
        exact hend M _ rfl (hno (fun z => h3 z.2.2))
    · have h2' : ¬ (¬ x2 < nI 0 ∧ ¬ nI 3 < x2) := fun z => h2 ((inL_iff (n := 3) (by omega)).mp z)
      by_cases k1 : x2 < nI 0
      · simp (decide := true) (disch := first | assumption | omega) only [zi_Court_pass_0, zi_Court_pass_1, zi_Court_pass_2, zi_Court_pass_5, zi_Court_pass_5n, zi_Court_pass_6, zi_Court_pass_6n, zi_Court_pass_7, zi_Court_pass_7n, zi_Court_pass_10, zi_Court_pass_11, zi_Court_pass_14, zi_Court_pass_15, zi_Court_pass_16, zi_Court_pass_19, zi_Court_pass_20, zi_Court_pass_23, zi_Court_pass_25, zi_Court_pass_28, zi_Court_pass_30, ↓reduceIte, mj_op_s, Option.toList_some, Option.toList_none, List.cons_append, List.nil_append, hp_1, hp_2, true_and, and_true, zb_0, zb_1, zb_b, va_rf, io_rt, ↓ogf_rt_0, ↓ogf_rt_1, ↓ogf_rt_2, ↓ogf_rt_3, ↓ogf_rt_4, ↓oai_rt_0, ↓oai_rt_1, ↓oai_rt_2, ↓oai_rt_3, ↓owi_rt_0, ↓owi_rt_1, ↓owi_rt_2, ↓owi_rt_3, ↓opf_rt, io_1, ↓ogf_1_0, ↓ogf_1_1, ↓opf_1_1, ↓ogf_1_2, ↓ogf_1_3, ↓ogf_1_4, ↓ogf_1_5, ↓ogf_1_6, ↓ogf_1_7, g_find c1 hr hn, k1]
        exact hend M _ rfl (hno (fun z => h2' z.2.1))
      · have k2 : nI 3 < x2 := Classical.byContradiction fun z => h2' ⟨k1, z⟩
        simp (decide := true) (disch := first | assumption | omega) only [zi_Court_pass_0, zi_Court_pass_1, zi_Court_pass_2, zi_Court_pass_5, zi_Court_pass_5n, zi_Court_pass_6, zi_Court_pass_6n, zi_Court_pass_7, zi_Court_pass_7n, zi_Court_pass_10, zi_Court_pass_11, zi_Court_pass_14, zi_Court_pass_15, zi_Court_pass_16, zi_Court_pass_19, zi_Court_pass_20, zi_Court_pass_23, zi_Court_pass_25, zi_Court_pass_28, zi_Court_pass_30, ↓reduceIte, mj_op_s, Option.toList_some, Option.toList_none, List.cons_append, List.nil_append, hp_1, hp_2, true_and, and_true, zb_0, zb_1, zb_b, va_rf, io_rt, ↓ogf_rt_0, ↓ogf_rt_1, ↓ogf_rt_2, ↓ogf_rt_3, ↓ogf_rt_4, ↓oai_rt_0, ↓oai_rt_1, ↓oai_rt_2, ↓oai_rt_3, ↓owi_rt_0, ↓owi_rt_1, ↓owi_rt_2, ↓owi_rt_3, ↓opf_rt, io_1, ↓ogf_1_0, ↓ogf_1_1, ↓opf_1_1, ↓ogf_1_2, ↓ogf_1_3, ↓ogf_1_4, ↓ogf_1_5, ↓ogf_1_6, ↓ogf_1_7, g_find c1 hr hn, k1, k2]
        exact hend M _ rfl (hno (fun z => h2' z.2.1))
  · simp (decide := true) (disch := first | assumption | omega) only [zi_Court_pass_0, zi_Court_pass_1, zi_Court_pass_2, zi_Court_pass_5, zi_Court_pass_5n, zi_Court_pass_6, zi_Court_pass_6n, zi_Court_pass_7, zi_Court_pass_7n, zi_Court_pass_10, zi_Court_pass_11, zi_Court_pass_14, zi_Court_pass_15, zi_Court_pass_16, zi_Court_pass_19, zi_Court_pass_20, zi_Court_pass_23, zi_Court_pass_25, zi_Court_pass_28, zi_Court_pass_30, ↓reduceIte, mj_op_s, Option.toList_some, Option.toList_none, List.cons_append, List.nil_append, hp_1, hp_2, true_and, and_true, zb_0, zb_1, zb_b, va_rf, io_rt, ↓ogf_rt_0, ↓ogf_rt_1, ↓ogf_rt_2, ↓ogf_rt_3, ↓ogf_rt_4, ↓oai_rt_0, ↓oai_rt_1, ↓oai_rt_2, ↓oai_rt_3, ↓owi_rt_0, ↓owi_rt_1, ↓owi_rt_2, ↓owi_rt_3, ↓opf_rt, io_1, ↓ogf_1_0, ↓ogf_1_1, ↓opf_1_1, ↓ogf_1_2, ↓ogf_1_3, ↓ogf_1_4, ↓ogf_1_5, ↓ogf_1_6, ↓ogf_1_7, g_find_no c1 h1]
    exact hend M _ rfl (hno (fun z => h1 z.1))
theorem J_best (hI : Inv M) {x1 : Int32} (hend : ∀ M1 (u : Int32), M1.2.2.2 = M.2.2.2 → JH d M mq_Model_best [.ref 256, .int x1, mj_j, mj_j] (.int u) M1 → Q (some (.int u)) (hp M1)) : mj_V (d + 8) lim mq_Court_best 0 [.ref 1, .int x1, mj_j] [] (hp M) Q := by
  obtain ⟨nr, R, fed, fd, rg, gv, ot, dn, pl, W, fy, oS, oF, oW, ⟨c1, c2, c3, c4, c5⟩, ⟨m1, m2, m3, m4, m5⟩⟩ := hI
  have hI : Inv M := ⟨nr, R, fed, fd, rg, gv, ot, dn, pl, W, fy, oS, oF, oW, ⟨c1, c2, c3, c4, c5⟩, ⟨m1, m2, m3, m4, m5⟩⟩
  have hn := oS.1
  have r0 := c1.1
  have hno : ¬ (isR nr x1 ∧ nr < 40) → JH d M mq_Model_best [.ref 256, .int x1, mj_j, mj_j] (.int (-2)) M := fun h => JH_same hI (fun lim Q2 hq => (c_Model_best_no (d := d + 6) m1 oS h).mpr hq)
  by_cases h1 : isR nr x1
  · obtain ⟨r, hr, rfl⟩ := isR_n h1
    have rt := rt_n (show r < 40 by omega)
    by_cases h3 : nr < 40
    · have e1 : nI nr < nI 40 := nI_lt h3 (by omega)
      have rtn := rt_n h3
      have hok := oS.2 r hr
      have hR := c1.2.1 r hr
      simp (decide := true) (disch := first | assumption | omega) only [zi_Court_best_0, zi_Court_best_1, zi_Court_best_2, zi_Court_best_5, zi_Court_best_5n, zi_Court_best_6, zi_Court_best_6n, zi_Court_best_7, zi_Court_best_7n, zi_Court_best_10, zi_Court_best_11, zi_Court_best_14, zi_Court_best_16, zi_Court_best_19, zi_Court_best_21, zi_Court_best_22, zi_Court_best_23, zi_Court_best_26, zi_Court_best_26n, zi_Court_best_27, zi_Court_best_28, zi_Court_best_31, zi_Court_best_32, zi_Court_best_35, zi_Court_best_36, ↓reduceIte, mj_op_s, Option.toList_some, Option.toList_none, List.cons_append, List.nil_append, hp_1, hp_2, true_and, and_true, zb_0, zb_1, zb_b, va_rf, io_rt, ↓ogf_rt_0, ↓ogf_rt_1, ↓ogf_rt_2, ↓ogf_rt_3, ↓ogf_rt_4, ↓oai_rt_0, ↓oai_rt_1, ↓oai_rt_2, ↓oai_rt_3, ↓owi_rt_0, ↓owi_rt_1, ↓owi_rt_2, ↓owi_rt_3, ↓opf_rt, io_1, ↓ogf_1_0, ↓ogf_1_1, ↓opf_1_1, ↓ogf_1_2, ↓ogf_1_3, ↓ogf_1_4, ↓ogf_1_5, ↓ogf_1_6, ↓ogf_1_7, io_212, ↓ogf_212_0, ↓ogf_212_1, ↓ogf_212_2, ↓ogf_212_3, ↓ogf_212_4, ↓ogf_212_5, g_find c1 hr hn, r0, e1, ↓oaa_2]
      refine c_Passes_improve (d := d + 2) rt rtn (by omega) (by omega) hR hok (fun M3 hv3 hR3 => ?_)
      have r3 : rI M3 1 1 = nI nr := (sv_I hv3 (by unfold imP rtP; omega)).trans r0
      simp (decide := true) (disch := first | assumption | omega) only [zi_Court_best_39, zi_Court_best_40, zi_Court_best_41, zi_Court_best_44, zi_Court_best_45, zi_Court_best_46, zi_Court_best_47, zi_Court_best_50, ↓reduceIte, mj_op_s, Option.toList_some, Option.toList_none, List.cons_append, List.nil_append, hp_1, hp_2, true_and, and_true, zb_0, zb_1, zb_b, va_rf, io_1, ↓ogf_1_0, ↓ogf_1_1, ↓opf_1_1, ↓ogf_1_2, ↓ogf_1_3, ↓ogf_1_4, ↓ogf_1_5, ↓ogf_1_6, ↓ogf_1_7, r3, nI_add]
      have hv4 : sv (fun i k => i = 1 ∧ k = 1) M3 (wI M3 1 1 (nI (nr + 1))) := sv_wI sv_refl ⟨rfl, rfl⟩
      have hv5 : sv (fun i k => imP (3 + 5 * nr) i k ∨ i = 1 ∧ k = 1) M (wI M3 1 1 (nI (nr + 1))) := sv_trans (sv_mono hv3 (fun i k h => Or.inl h)) (sv_mono hv4 (fun i k h => Or.inr h))
      obtain ⟨n1, n2, n3, n4, n5⟩ := m_lo hv5 (fun i k h => by unfold imP rtP at h; omega) ⟨m1, m2, m3, m4, m5⟩
      have hRn : hasR (wI M3 1 1 (nI (nr + 1))) (3 + 5 * nr) (bst 400 (nrm (R r))).1 (bst 400 (nrm (R r))).2 := sv_hasR hv4 (fun j k hj z => by omega) hR3
      have cRn : cR (wI M3 1 1 (nI (nr + 1))) (nr + 1) (upR R nr (bst 400 (nrm (R r)))) := cR_up h3 c1 (fun k len A hk h => sv_hasR hv5 (fun j k2 hj z => by unfold imP rtP at z; omega) h) hRn (by rw [rI_wI, if_pos ⟨rfl, rfl⟩]) (fun k h1 h2 => sv_I hv5 (by unfold imP rtP; omega))
      refine hend _ _ hv5.2 (fun lim Q2 hq => ?_)
      refine c_Model_best (d := d + 1) n1 oS h3 hr (fun M5 hv6 hm6 => ?_)
      refine hq _ (hv6.2.trans hv5.2) ⟨nr + 1, upR R nr (bst 400 (nrm (R r))), fed, fd, rg, gv, ot, dn, pl, W, fy, okS_up oS h3 (okR_bst 400 _ (okR_nrm hok)), oF, oW, c_hi hv6 (fun i k h => by unfold mbP at h; omega) (by omega) ⟨cRn, cF_sv hv5 (fun i k z p => by unfold imP rtP at p; omega) c2, cG_sv hv5 (fun i k z p => by unfold imP rtP at p; omega) c3, hasW_sv hv5 (fun i k z y p => by unfold imP rtP at p; omega) c4, cJ_sv hv5 (fun i k z p => by unfold imP rtP at p; omega) c5⟩, ⟨hm6, mF_sv hv6 (fun i k z p => by unfold mbP at p; omega) n2, mG_sv hv6 (fun i k z p => by unfold mbP at p; omega) n3, hasV_sv hv6 (fun i k z y p => by unfold mbP at p; omega) (fun p => by unfold mbP at p; omega) n4, mJ_sv hv6 (fun i k z p => by unfold mbP at p; omega) n5⟩⟩
    · obtain rfl : nr = 40 := by omega
      simp (decide := true) (disch := first | assumption | omega) only [zi_Court_best_0, zi_Court_best_1, zi_Court_best_2, zi_Court_best_5, zi_Court_best_5n, zi_Court_best_6, zi_Court_best_6n, zi_Court_best_7, zi_Court_best_7n, zi_Court_best_10, zi_Court_best_11, zi_Court_best_14, zi_Court_best_16, zi_Court_best_19, zi_Court_best_21, ↓reduceIte, mj_op_s, Option.toList_some, Option.toList_none, List.cons_append, List.nil_append, hp_1, hp_2, true_and, and_true, zb_0, zb_1, zb_b, va_rf, io_rt, ↓ogf_rt_0, ↓ogf_rt_1, ↓ogf_rt_2, ↓ogf_rt_3, ↓ogf_rt_4, ↓oai_rt_0, ↓oai_rt_1, ↓oai_rt_2, ↓oai_rt_3, ↓owi_rt_0, ↓owi_rt_1, ↓owi_rt_2, ↓owi_rt_3, ↓opf_rt, io_1, ↓ogf_1_0, ↓ogf_1_1, ↓opf_1_1, ↓ogf_1_2, ↓ogf_1_3, ↓ogf_1_4, ↓ogf_1_5, ↓ogf_1_6, ↓ogf_1_7, g_find c1 hr hn, r0]
      exact hend M _ rfl (hno (fun z => h3 z.2))
  · simp (decide := true) (disch := first | assumption | omega) only [zi_Court_best_0, zi_Court_best_1, zi_Court_best_2, zi_Court_best_5, zi_Court_best_5n, zi_Court_best_6, zi_Court_best_6n, zi_Court_best_7, zi_Court_best_7n, zi_Court_best_10, zi_Court_best_11, zi_Court_best_14, zi_Court_best_16, zi_Court_best_19, zi_Court_best_21, ↓reduceIte, mj_op_s, Option.toList_some, Option.toList_none, List.cons_append, List.nil_append, hp_1, hp_2, true_and, and_true, zb_0, zb_1, zb_b, va_rf, io_rt, ↓ogf_rt_0, ↓ogf_rt_1, ↓ogf_rt_2, ↓ogf_rt_3, ↓ogf_rt_4, ↓oai_rt_0, ↓oai_rt_1, ↓oai_rt_2, ↓oai_rt_3, ↓owi_rt_0, ↓owi_rt_1, ↓owi_rt_2, ↓owi_rt_3, ↓opf_rt, io_1, ↓ogf_1_0, ↓ogf_1_1, ↓opf_1_1, ↓ogf_1_2, ↓ogf_1_3, ↓ogf_1_4, ↓ogf_1_5, ↓ogf_1_6, ↓ogf_1_7, g_find_no c1 h1]
    exact hend M _ rfl (hno (fun z => h1 z.1))
theorem J_judge (hI : Inv M) {x1 x2 : Int32} (hend : ∀ M1 (u : Int32), M1.2.2.2 = M.2.2.2 → JH d M mq_Model_judge [.ref 256, .int x1, .int x2, mj_j, mj_j] (.int u) M1 → Q (some (.int u)) (hp M1)) : mj_V (d + 8) lim mq_Court_judge 0 [.ref 1, .int x1, .int x2, mj_j, mj_j] [] (hp M) Q := by
  obtain ⟨nr, R, fed, fd, rg, gv, ot, dn, pl, W, fy, oS, oF, oW, ⟨c1, c2, c3, c4, c5⟩, ⟨m1, m2, m3, m4, m5⟩⟩ := hI
  have hn := oS.1
  have hno : ¬ (isR nr x1 ∧ isR nr x2) → Q (some (.int (-2))) (hp (wI M 238 4 (-1))) := by
    intro h
    have hv1 : sv (fun i k => i = 238 ∧ k = 4) M (wI M 238 4 (-1)) := sv_wI sv_refl ⟨rfl, rfl⟩
    obtain ⟨n1, n2, n3, n4, n5⟩ := m_lo hv1 (fun i k h => by omega) ⟨m1, m2, m3, m4, m5⟩
    refine hend _ _ hv1.2 (fun lim Q2 hq => ?_)
    refine (c_Model_judge_no (d := d + 2) n1 oS h).mpr ?_
    have hv2 : sv (fun i k => i = 256 ∧ k = 18) (wI M 238 4 (-1)) (wI (wI M 238 4 (-1)) 256 18 (-1)) := sv_wI sv_refl ⟨rfl, rfl⟩
    refine hq _ (hv2.2.trans hv1.2) ⟨nr, R, fed, fd, rg, gv, ot, dn, pl, W, -1, oS, oF, oW, c_hi hv2 (fun i k h => by omega) hn ⟨cR_sv hv1 (fun i k z p => by omega) c1 hn, cF_sv hv1 (fun i k z p => by omega) c2, cG_sv hv1 (fun i k z p => by omega) c3, hasW_sv hv1 (fun i k z y p => by omega) c4, ⟨by rw [rI_wI, if_pos ⟨rfl, rfl⟩], (sv_I hv1 (by omega)).trans c5.2.1, (sv_I hv1 (by omega)).trans c5.2.2⟩⟩, ⟨mR_sv hv2 (fun i k z p => by omega) n1, mF_sv hv2 (fun i k z p => by omega) n2, mG_sv hv2 (fun i k z p => by omega) n3, hasV_sv hv2 (fun i k z y p => by omega) (fun p => by omega) n4, ?_⟩⟩
    show rI _ 256 18 = -1
    rw [rI_wI, if_pos ⟨rfl, rfl⟩]
  by_cases h1 : isR nr x1
  · obtain ⟨a, ha, rfl⟩ := isR_n h1
    have rta := rt_n (show a < 40 by omega)
    by_cases h2 : isR nr x2
    · obtain ⟨b, hb, rfl⟩ := isR_n h2
      have rtb := rt_n (show b < 40 by omega)
      simp (decide := true) (disch := first | assumption | omega) only [zi_Court_judge_0, zi_Court_judge_1, zi_Court_judge_2, zi_Court_judge_5, zi_Court_judge_5n, zi_Court_judge_6, zi_Court_judge_7, zi_Court_judge_8, zi_Court_judge_11, zi_Court_judge_11p, zi_Court_judge_11n, zi_Court_judge_11np, zi_Court_judge_13, zi_Court_judge_13n, zi_Court_judge_14, zi_Court_judge_14n, zi_Court_judge_17, zi_Court_judge_17n, zi_Court_judge_19, zi_Court_judge_19n, zi_Court_judge_22, zi_Court_judge_23, zi_Court_judge_26, zi_Court_judge_27, zi_Court_judge_30, zi_Court_judge_32, zi_Court_judge_33, zi_Court_judge_34, zi_Court_judge_37, zi_Court_judge_37n, zi_Court_judge_38, zi_Court_judge_38n, zi_Court_judge_40, ↓reduceIte, mj_op_s, Option.toList_some, Option.toList_none, List.cons_append, List.nil_append, hp_1, hp_2, true_and, and_true, zb_0, zb_1, zb_b, va_rf, io_rt, ↓ogf_rt_0, ↓ogf_rt_1, ↓ogf_rt_2, ↓ogf_rt_3, ↓ogf_rt_4, ↓oai_rt_0, ↓oai_rt_1, ↓oai_rt_2, ↓oai_rt_3, ↓owi_rt_0, ↓owi_rt_1, ↓owi_rt_2, ↓owi_rt_3, ↓opf_rt, io_1, ↓ogf_1_0, ↓ogf_1_1, ↓opf_1_1, ↓ogf_1_2, ↓ogf_1_3, ↓ogf_1_4, ↓ogf_1_5, ↓ogf_1_6, ↓ogf_1_7, io_238, ↓ogf_238_0, ↓ogf_238_1, ↓ogf_238_2, ↓ogf_238_3, ↓ogf_238_4, ↓opf_238_4, g_find c1 ha hn, g_find c1 hb hn]
      refine c_hear (d := d + 2) rta rtb c4 oW (oS.2 a ha) (oS.2 b hb) (c1.2.1 a ha) (c1.2.1 b hb) c5.2.1 c5.2.2 (fun M1 hv1 h4 => ?_)
      simp (decide := true) (disch := first | assumption | omega) only [zi_Court_judge_43, ↓reduceIte, mj_op_s, Option.toList_some, Option.toList_none, List.cons_append, List.nil_append, hp_1, hp_2, true_and, and_true, zb_0, zb_1, zb_b, va_rf]
      obtain ⟨n1, n2, n3, n4, n5⟩ := m_lo hv1 (fun i k h => by unfold heP at h; omega) ⟨m1, m2, m3, m4, m5⟩
      refine hend _ _ hv1.2 (fun lim Q2 hq => ?_)
      refine c_Model_judge (d := d + 2) n1 oS n4 oW ha hb (fun M2 hv2 h5 => ?_)
      refine hq _ (hv2.2.trans hv1.2) ⟨nr, R, fed, fd, rg, gv, ot, dn, pl, W, (jdg W (R a).1 (R b).1 (R a).2 (R b).2).2, oS, oF, oW, c_hi hv2 (fun i k h => by unfold jmP l2P at h; omega) hn ⟨cR_sv hv1 (fun i k z p => by unfold heP at p; omega) c1 hn, cF_sv hv1 (fun i k z p => by unfold heP at p; omega) c2, cG_sv hv1 (fun i k z p => by unfold heP at p; omega) c3, hasW_sv hv1 (fun i k z y p => by unfold heP at p; omega) c4, ⟨h4, (sv_I hv1 (by unfold heP; omega)).trans c5.2.1, (sv_I hv1 (by unfold heP; omega)).trans c5.2.2⟩⟩, ⟨mR_sv hv2 (fun i k z p => by unfold jmP l2P at p; omega) n1, mF_sv hv2 (fun i k z p => by unfold jmP l2P at p; omega) n2, mG_sv hv2 (fun i k z p => by unfold jmP l2P at p; omega) n3, hasV_sv hv2 (fun i k z y p => by unfold jmP l2P at p; omega) (fun p => by unfold jmP l2P at p; omega) n4, h5⟩⟩
    · simp (decide := true) (disch := first | assumption | omega) only [zi_Court_judge_0, zi_Court_judge_1, zi_Court_judge_2, zi_Court_judge_5, zi_Court_judge_5n, zi_Court_judge_6, zi_Court_judge_7, zi_Court_judge_8, zi_Court_judge_11, zi_Court_judge_11p, zi_Court_judge_11n, zi_Court_judge_11np, zi_Court_judge_13, zi_Court_judge_13n, zi_Court_judge_14, zi_Court_judge_14n, zi_Court_judge_17, zi_Court_judge_17n, zi_Court_judge_19, zi_Court_judge_19n, zi_Court_judge_22, zi_Court_judge_23, zi_Court_judge_26, zi_Court_judge_27, zi_Court_judge_30, zi_Court_judge_32, ↓reduceIte, mj_op_s, Option.toList_some, Option.toList_none, List.cons_append, List.nil_append, hp_1, hp_2, true_and, and_true, zb_0, zb_1, zb_b, va_rf, io_rt, ↓ogf_rt_0, ↓ogf_rt_1, ↓ogf_rt_2, ↓ogf_rt_3, ↓ogf_rt_4, ↓oai_rt_0, ↓oai_rt_1, ↓oai_rt_2, ↓oai_rt_3, ↓owi_rt_0, ↓owi_rt_1, ↓owi_rt_2, ↓owi_rt_3, ↓opf_rt, io_1, ↓ogf_1_0, ↓ogf_1_1, ↓opf_1_1, ↓ogf_1_2, ↓ogf_1_3, ↓ogf_1_4, ↓ogf_1_5, ↓ogf_1_6, ↓ogf_1_7, io_238, ↓ogf_238_0, ↓ogf_238_1, ↓ogf_238_2, ↓ogf_238_3, ↓ogf_238_4, ↓opf_238_4, g_find c1 ha hn, g_find_no c1 h2]
      exact hno (fun z => h2 z.2)
  · by_cases h2 : isR nr x2
    · obtain ⟨b, hb, rfl⟩ := isR_n h2
      simp (decide := true) (disch := first | assumption | omega) only [zi_Court_judge_0, zi_Court_judge_1, zi_Court_judge_2, zi_Court_judge_5, zi_Court_judge_5n, zi_Court_judge_6, zi_Court_judge_7, zi_Court_judge_8, zi_Court_judge_11, zi_Court_judge_11p, zi_Court_judge_11n, zi_Court_judge_11np, zi_Court_judge_13, zi_Court_judge_13n, zi_Court_judge_14, zi_Court_judge_14n, zi_Court_judge_17, zi_Court_judge_17n, zi_Court_judge_19, zi_Court_judge_19n, zi_Court_judge_22, zi_Court_judge_23, zi_Court_judge_26, zi_Court_judge_27, zi_Court_judge_30, zi_Court_judge_32, ↓reduceIte, mj_op_s, Option.toList_some, Option.toList_none, List.cons_append, List.nil_append, hp_1, hp_2, true_and, and_true, zb_0, zb_1, zb_b, va_rf, io_rt, ↓ogf_rt_0, ↓ogf_rt_1, ↓ogf_rt_2, ↓ogf_rt_3, ↓ogf_rt_4, ↓oai_rt_0, ↓oai_rt_1, ↓oai_rt_2, ↓oai_rt_3, ↓owi_rt_0, ↓owi_rt_1, ↓owi_rt_2, ↓owi_rt_3, ↓opf_rt, io_1, ↓ogf_1_0, ↓ogf_1_1, ↓opf_1_1, ↓ogf_1_2, ↓ogf_1_3, ↓ogf_1_4, ↓ogf_1_5, ↓ogf_1_6, ↓ogf_1_7, io_238, ↓ogf_238_0, ↓ogf_238_1, ↓ogf_238_2, ↓ogf_238_3, ↓ogf_238_4, ↓opf_238_4, g_find_no c1 h1, g_find c1 hb hn]
      exact hno (fun z => h1 z.1)
    · simp (decide := true) (disch := first | assumption | omega) only [zi_Court_judge_0, zi_Court_judge_1, zi_Court_judge_2, zi_Court_judge_5, zi_Court_judge_5n, zi_Court_judge_6, zi_Court_judge_7, zi_Court_judge_8, zi_Court_judge_11, zi_Court_judge_11p, zi_Court_judge_11n, zi_Court_judge_11np, zi_Court_judge_13, zi_Court_judge_13n, zi_Court_judge_14, zi_Court_judge_14n, zi_Court_judge_17, zi_Court_judge_17n, zi_Court_judge_19, zi_Court_judge_19n, zi_Court_judge_22, zi_Court_judge_23, zi_Court_judge_26, zi_Court_judge_27, zi_Court_judge_30, zi_Court_judge_32, ↓reduceIte, mj_op_s, Option.toList_some, Option.toList_none, List.cons_append, List.nil_append, hp_1, hp_2, true_and, and_true, zb_0, zb_1, zb_b, va_rf, io_rt, ↓ogf_rt_0, ↓ogf_rt_1, ↓ogf_rt_2, ↓ogf_rt_3, ↓ogf_rt_4, ↓oai_rt_0, ↓oai_rt_1, ↓oai_rt_2, ↓oai_rt_3, ↓owi_rt_0, ↓owi_rt_1, ↓owi_rt_2, ↓owi_rt_3, ↓opf_rt, io_1, ↓ogf_1_0, ↓ogf_1_1, ↓opf_1_1, ↓ogf_1_2, ↓ogf_1_3, ↓ogf_1_4, ↓ogf_1_5, ↓ogf_1_6, ↓ogf_1_7, io_238, ↓ogf_238_0, ↓ogf_238_1, ↓ogf_238_2, ↓ogf_238_3, ↓ogf_238_4, ↓opf_238_4, g_find_no c1 h1, g_find_no c1 h2]
      exact hno (fun z => h1 z.1)
theorem J_run (hI : Inv M) {x1 x2 : Int32} (hend : ∀ M1 (u : Int32), M1.2.2.2 = M.2.2.2 → JH d M mq_Model_run [.ref 256, .int x1, .int x2, mj_j, mj_j, mj_j, mj_j, mj_j, mj_j, mj_j] (.int u) M1 → Q (some (.int u)) (hp M1)) : mj_V (d + 8) lim mq_Court_run 0 [.ref 1, .int x1, .int x2, mj_j] [] (hp M) Q := by
  obtain ⟨nr, R, fed, fd, rg, gv, ot, dn, pl, W, fy, oS, oF, oW, ⟨c1, c2, c3, c4, c5⟩, ⟨m1, m2, m3, m4, m5⟩⟩ := hI
  have hI : Inv M := ⟨nr, R, fed, fd, rg, gv, ot, dn, pl, W, fy, oS, oF, oW, ⟨c1, c2, c3, c4, c5⟩, ⟨m1, m2, m3, m4, m5⟩⟩
  have hn := oS.1
  have hm0 := m1.1
  have hno : ¬ (isR nr x1 ∧ (¬ x2 < nI 0 ∧ ¬ nI 100000 < x2)) → JH d M mq_Model_run [.ref 256, .int x1, .int x2, mj_j, mj_j, mj_j, mj_j, mj_j, mj_j, mj_j] (.int (-2)) M := fun h => JH_same hI (fun lim Q2 hq => (c_Model_run_no (d := d + 6) (by rw [hm0]; exact fun z => h ⟨(inM_iff (n := nr) (by omega)).mp z.1, z.2⟩)).mpr hq)
  by_cases h1 : isR nr x1
  · obtain ⟨r, hr, rfl⟩ := isR_n h1
    have rt := rt_n (show r < 40 by omega)
    by_cases h2 : isR 100001 x2
    · have h2' := (inL_iff (n := 100000) (by omega)).mpr h2
      have k1 := h2'.1
      have k2 := h2'.2
      obtain ⟨fu, hfu, rfl⟩ := isR_n h2
      have hfu2 : fu ≤ 100000 := by omega
      have hok := oS.2 r hr
      have hR := c1.2.1 r hr
      have ef : rL M 228 = fd := funext c2.2
      have eo : rL M 230 = ot := funext c3.2.2.1
      simp (decide := true) (disch := first | assumption | omega) only [zi_Court_run_0, zi_Court_run_1, zi_Court_run_2, zi_Court_run_5, zi_Court_run_5n, zi_Court_run_6, zi_Court_run_6n, zi_Court_run_7, zi_Court_run_7n, zi_Court_run_10, zi_Court_run_11, zi_Court_run_14, zi_Court_run_15, zi_Court_run_17, zi_Court_run_20, zi_Court_run_22, zi_Court_run_23, zi_Court_run_24, zi_Court_run_27, zi_Court_run_27n, zi_Court_run_28, zi_Court_run_29, zi_Court_run_32, ↓reduceIte, mj_op_s, Option.toList_some, Option.toList_none, List.cons_append, List.nil_append, hp_1, hp_2, true_and, and_true, zb_0, zb_1, zb_b, va_rf, io_rt, ↓ogf_rt_0, ↓ogf_rt_1, ↓ogf_rt_2, ↓ogf_rt_3, ↓ogf_rt_4, ↓oai_rt_0, ↓oai_rt_1, ↓oai_rt_2, ↓oai_rt_3, ↓owi_rt_0, ↓owi_rt_1, ↓owi_rt_2, ↓owi_rt_3, ↓opf_rt, io_1, ↓ogf_1_0, ↓ogf_1_1, ↓opf_1_1, ↓ogf_1_2, ↓ogf_1_3, ↓ogf_1_4, ↓ogf_1_5, ↓ogf_1_6, ↓ogf_1_7, io_227, ↓ogf_227_0, ↓ogf_227_1, ↓opf_227_1, ↓ogf_227_2, ↓ogf_227_3, ↓ogf_227_4, ↓opf_227_4, ↓ogf_227_5, ↓opf_227_5, ↓ogf_227_6, ↓opf_227_6, g_find c1 hr hn, k1, k2, c_Runner_go rt hR hok c2.1 oF hfu2, ef, eo]
      generalize hg : rGo (R r).1 (R r).2 fed fd fu (0, fun _ => 0, 0, ot) 0 = g
      have hv1 : sv (fun i k => i = 227 ∧ 4 ≤ k ∨ i = 229 ∨ i = 230) M (rnM M g.2.1 g.2.2) := by
        refine ⟨fun i k hi => ⟨?_, ?_, rfl⟩, rfl⟩
        · rw [rn_I, if_neg (by omega), if_neg (by omega), if_neg (by omega)]
        · rw [rn_L, if_neg (by omega), if_neg (by omega)]
      obtain ⟨n1, n2, n3, n4, n5⟩ := m_lo hv1 (fun i k h => by omega) ⟨m1, m2, m3, m4, m5⟩
      refine hend _ _ hv1.2 (fun lim Q2 hq => ?_)
      have ef2 : rL (rnM M g.2.1 g.2.2) 259 = fd := funext n2.2
      have eo2 : rL (rnM M g.2.1 g.2.2) 261 = ot := funext n3.2.2.1
      refine (c_Model_run (d := d + 6) (show r < 40 by omega) n1.1 hn hr (n1.2.1 r hr) hok n2.1 oF hfu2).mpr ?_
      rw [ef2, eo2, hg]
      have hG : cG (rnM M g.2.1 g.2.2) g.2.2.2.1 (nI g.2.2.2.2.1) (fun k => if k < 200 then g.2.2.2.2.2 k else ot k) (nI g.2.1) (nI g.2.2.1) := by
        refine ⟨fun k hk => ?_, rfl, fun k => ?_, rfl, rfl⟩
        · rw [rn_L, if_pos ⟨rfl, hk⟩]
        · rw [rn_L, if_neg (by omega)]
          by_cases e : k < 200
          · rw [if_pos ⟨rfl, e⟩]; exact (if_pos e).symm
          · rw [if_neg (fun z => e z.2)]; exact (c3.2.2.1 k).trans (if_neg e).symm
      generalize hM1 : rnM M g.2.1 g.2.2 = M1 at *
      have rm_I : ∀ i k, rI (rnN M1 g.2.1 g.2.2) i k = if i = 256 ∧ k = 7 then nI g.2.2.2.2.1 else if i = 256 ∧ k = 8 then nI g.2.1 else rI M1 i k := fun _ _ => rfl
      have rm_L : ∀ i k, rL (rnN M1 g.2.1 g.2.2) i k = if i = 260 ∧ k < 8 then g.2.2.2.1 k else if i = 261 ∧ k < 200 then g.2.2.2.2.2 k else rL M1 i k := fun _ _ => rfl
      have hv2 : sv (fun i k => i = 256 ∧ 7 ≤ k ∧ k ≤ 9 ∨ i = 260 ∨ i = 261) M1 (wI (rnN M1 g.2.1 g.2.2) 256 9 (nI g.2.2.1)) := by
        have hv0 : sv (fun i k => i = 256 ∧ 7 ≤ k ∧ k ≤ 9 ∨ i = 260 ∨ i = 261) M1 (rnN M1 g.2.1 g.2.2) := by
          refine ⟨fun i k hi => ⟨?_, ?_, rfl⟩, rfl⟩
          · rw [rm_I, if_neg (by omega), if_neg (by omega)]
          · rw [rm_L, if_neg (by omega), if_neg (by omega)]
        exact sv_wI hv0 (by omega)
      have hG2 : mG (wI (rnN M1 g.2.1 g.2.2) 256 9 (nI g.2.2.1)) g.2.2.2.1 (nI g.2.2.2.2.1) (fun k => if k < 200 then g.2.2.2.2.2 k else ot k) (nI g.2.1) (nI g.2.2.1) := by
        refine ⟨fun k hk => ?_, ?_, fun k => ?_, ?_, ?_⟩
        · rw [rL_wI, rm_L, if_pos ⟨rfl, hk⟩]
        · rw [rI_wI, if_neg (by omega), rm_I, if_pos ⟨rfl, rfl⟩]
        · rw [rL_wI, rm_L, if_neg (by omega)]
          by_cases e : k < 200
          · rw [if_pos ⟨rfl, e⟩]; exact (if_pos e).symm
          · rw [if_neg (fun z => e z.2)]; exact (n3.2.2.1 k).trans (if_neg e).symm
        · rw [rI_wI, if_neg (by omega), rm_I, if_neg (by omega), if_pos ⟨rfl, rfl⟩]
        · rw [rI_wI, if_pos ⟨rfl, rfl⟩]
      refine hq _ (hv2.2.trans hv1.2) ⟨nr, R, fed, fd, g.2.2.2.1, nI g.2.2.2.2.1, fun k => if k < 200 then g.2.2.2.2.2 k else ot k, nI g.2.1, nI g.2.2.1, W, fy, oS, oF, oW, c_hi hv2 (fun i k h => by omega) hn ⟨cR_sv hv1 (fun i k z p => by omega) c1 hn, cF_sv hv1 (fun i k z p => by omega) c2, hG, hasW_sv hv1 (fun i k z y p => by omega) c4, cJ_sv hv1 (fun i k z p => by omega) c5⟩, ⟨mR_sv hv2 (fun i k z p => by omega) n1, mF_sv hv2 (fun i k z p => by omega) n2, hG2, hasV_sv hv2 (fun i k z y p => by omega) (fun p => by omega) n4, mJ_sv hv2 (fun i k z p => by omega) n5⟩⟩
    · have h2' : ¬ (¬ x2 < nI 0 ∧ ¬ nI 100000 < x2) := fun z => h2 ((inL_iff (n := 100000) (by omega)).mp z)
      by_cases k1 : x2 < nI 0
      · simp (decide := true) (disch := first | assumption | omega) only [zi_Court_run_0, zi_Court_run_1, zi_Court_run_2, zi_Court_run_5, zi_Court_run_5n, zi_Court_run_6, zi_Court_run_6n, zi_Court_run_7, zi_Court_run_7n, zi_Court_run_10, zi_Court_run_11, zi_Court_run_14, zi_Court_run_15, zi_Court_run_17, zi_Court_run_20, zi_Court_run_22, zi_Court_run_23, zi_Court_run_24, zi_Court_run_27, zi_Court_run_27n, zi_Court_run_28, zi_Court_run_29, zi_Court_run_32, ↓reduceIte, mj_op_s, Option.toList_some, Option.toList_none, List.cons_append, List.nil_append, hp_1, hp_2, true_and, and_true, zb_0, zb_1, zb_b, va_rf, io_rt, ↓ogf_rt_0, ↓ogf_rt_1, ↓ogf_rt_2, ↓ogf_rt_3, ↓ogf_rt_4, ↓oai_rt_0, ↓oai_rt_1, ↓oai_rt_2, ↓oai_rt_3, ↓owi_rt_0, ↓owi_rt_1, ↓owi_rt_2, ↓owi_rt_3, ↓opf_rt, io_1, ↓ogf_1_0, ↓ogf_1_1, ↓opf_1_1, ↓ogf_1_2, ↓ogf_1_3, ↓ogf_1_4, ↓ogf_1_5, ↓ogf_1_6, ↓ogf_1_7, g_find c1 hr hn, k1]
        exact hend M _ rfl (hno (fun z => h2' z.2))
      · have k2 : nI 100000 < x2 := Classical.byContradiction fun z => h2' ⟨k1, z⟩
        simp (decide := true) (disch := first | assumption | omega) only [zi_Court_run_0, zi_Court_run_1, zi_Court_run_2, zi_Court_run_5, zi_Court_run_5n, zi_Court_run_6, zi_Court_run_6n, zi_Court_run_7, zi_Court_run_7n, zi_Court_run_10, zi_Court_run_11, zi_Court_run_14, zi_Court_run_15, zi_Court_run_17, zi_Court_run_20, zi_Court_run_22, zi_Court_run_23, zi_Court_run_24, zi_Court_run_27, zi_Court_run_27n, zi_Court_run_28, zi_Court_run_29, zi_Court_run_32, ↓reduceIte, mj_op_s, Option.toList_some, Option.toList_none, List.cons_append, List.nil_append, hp_1, hp_2, true_and, and_true, zb_0, zb_1, zb_b, va_rf, io_rt, ↓ogf_rt_0, ↓ogf_rt_1, ↓ogf_rt_2, ↓ogf_rt_3, ↓ogf_rt_4, ↓oai_rt_0, ↓oai_rt_1, ↓oai_rt_2, ↓oai_rt_3, ↓owi_rt_0, ↓owi_rt_1, ↓owi_rt_2, ↓owi_rt_3, ↓opf_rt, io_1, ↓ogf_1_0, ↓ogf_1_1, ↓opf_1_1, ↓ogf_1_2, ↓ogf_1_3, ↓ogf_1_4, ↓ogf_1_5, ↓ogf_1_6, ↓ogf_1_7, g_find c1 hr hn, k1, k2]
        exact hend M _ rfl (hno (fun z => h2' z.2))
  · simp (decide := true) (disch := first | assumption | omega) only [zi_Court_run_0, zi_Court_run_1, zi_Court_run_2, zi_Court_run_5, zi_Court_run_5n, zi_Court_run_6, zi_Court_run_6n, zi_Court_run_7, zi_Court_run_7n, zi_Court_run_10, zi_Court_run_11, zi_Court_run_14, zi_Court_run_15, zi_Court_run_17, zi_Court_run_20, zi_Court_run_22, zi_Court_run_23, zi_Court_run_24, zi_Court_run_27, zi_Court_run_27n, zi_Court_run_28, zi_Court_run_29, zi_Court_run_32, ↓reduceIte, mj_op_s, Option.toList_some, Option.toList_none, List.cons_append, List.nil_append, hp_1, hp_2, true_and, and_true, zb_0, zb_1, zb_b, va_rf, io_rt, ↓ogf_rt_0, ↓ogf_rt_1, ↓ogf_rt_2, ↓ogf_rt_3, ↓ogf_rt_4, ↓oai_rt_0, ↓oai_rt_1, ↓oai_rt_2, ↓oai_rt_3, ↓owi_rt_0, ↓owi_rt_1, ↓owi_rt_2, ↓owi_rt_3, ↓opf_rt, io_1, ↓ogf_1_0, ↓ogf_1_1, ↓opf_1_1, ↓ogf_1_2, ↓ogf_1_3, ↓ogf_1_4, ↓ogf_1_5, ↓ogf_1_6, ↓ogf_1_7, g_find_no c1 h1]
    exact hend M _ rfl (hno (fun z => h1 z.1))
end C9I
