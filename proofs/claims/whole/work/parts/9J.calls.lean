/-! calls: known, value, live -/
section C9J
variable {d : Nat} {lim : Nat × Nat} {Q : mj_Q} {M M' : mm} {r n i nr p q : Nat} {W : WS} {R : Nat → XA}
theorem hP_iff {x : Int32} {l : Nat} (hl : l < 2 ^ 30) : (¬ x < nI 0 ∧ ¬ nI l < x) ↔ isR (l + 1) x := inL_iff hl
theorem g_findWith (hc : cR M nr R) (hok : okS nr R) (hr : r < nr) (hp0 : p ≤ (R r).1) (hq : q < 8) : mj_V (d + 1) lim mq_Court_findWith 0 [.ref 1, .int (nI r), .int (nI p), .int (nI q), mj_j] [] (hp M) Q ↔ Q (some (.ref (3 + 5 * r))) (hp M) := by
  have hn := hok.1
  have rt := rt_n (show r < 40 by omega)
  have q0 := (hc.2.1 r hr).1
  have h50 := (hok.2 r hr).1
  have b1' : bI (¬ nI p < nI 0 ∧ ¬ nI (R r).1 < nI p) = nI 1 := bI_t ⟨nI_nlt (by omega) (by omega), nI_nlt hp0 (by omega)⟩
  have b2' : bI (¬ nI q < nI 0 ∧ nI q < nI 8) = nI 1 := bI_t ⟨nI_nlt (by omega) (by omega), nI_lt hq (by omega)⟩
  simp (decide := true) (disch := first | assumption | omega) only [zi_Court_findWith_0, zi_Court_findWith_1, zi_Court_findWith_2, zi_Court_findWith_5, zi_Court_findWith_5n, zi_Court_findWith_7, zi_Court_findWith_7n, zi_Court_findWith_9, zi_Court_findWith_9n, zi_Court_findWith_12, zi_Court_findWith_12n, zi_Court_findWith_14, zi_Court_findWith_15, zi_Court_findWith_18, zi_Court_findWith_21, zi_Court_findWith_22, zi_Court_findWith_25, zi_Court_findWith_28, zi_Court_findWith_29, zi_Court_findWith_29n, zi_Court_findWith_30, zi_Court_findWith_30n, zi_Court_findWith_32, zi_Court_findWith_32n, ↓reduceIte, mj_op_s, Option.toList_some, Option.toList_none, List.cons_append, List.nil_append, hp_1, hp_2, true_and, and_true, zb_0, zb_1, zb_b, va_rf, io_rt, ↓ogf_rt_0, ↓ogf_rt_1, ↓ogf_rt_2, ↓ogf_rt_3, ↓ogf_rt_4, ↓oai_rt_0, ↓oai_rt_1, ↓oai_rt_2, ↓oai_rt_3, ↓owi_rt_0, ↓owi_rt_1, ↓owi_rt_2, ↓owi_rt_3, ↓opf_rt, io_1, ↓ogf_1_0, ↓ogf_1_1, ↓opf_1_1, ↓ogf_1_2, ↓ogf_1_3, ↓ogf_1_4, ↓ogf_1_5, ↓ogf_1_6, ↓ogf_1_7, g_find hc hr hn, c_Routine_hasPlace rt, q0, b1', c_Code_isRegister, b2']
theorem g_findWith_no {x1 x2 x3 : Int32} (hc : cR M nr R) (hok : okS nr R) (h : ¬ ∃ r p q, r < nr ∧ p ≤ (R r).1 ∧ q < 8 ∧ x1 = nI r ∧ x2 = nI p ∧ x3 = nI q) : mj_V (d + 1) lim mq_Court_findWith 0 [.ref 1, .int x1, .int x2, .int x3, mj_j] [] (hp M) Q ↔ Q (some .null) (hp M) := by
  have hn := hok.1
  by_cases h1 : isR nr x1
  · obtain ⟨r, hr, rfl⟩ := isR_n h1
    have rt := rt_n (show r < 40 by omega)
    have q0 := (hc.2.1 r hr).1
    have h50 := (hok.2 r hr).1
    have eb := bI_cg (hP_iff (x := x2) (l := (R r).1) (by omega))
    by_cases h2 : isR ((R r).1 + 1) x2
    · have b1' := eb.trans (bI_t h2)
      obtain ⟨p, hp0, rfl⟩ := isR_n h2
      have h3 : ¬ isReg x3 := fun z => by
        obtain ⟨q, hq, rfl⟩ := isReg_n z
        exact h ⟨r, p, q, hr, by omega, hq, rfl, rfl, rfl⟩
      have b2' := bI_f h3
      simp (decide := true) (disch := first | assumption | omega) only [zi_Court_findWith_0, zi_Court_findWith_1, zi_Court_findWith_2, zi_Court_findWith_5, zi_Court_findWith_5n, zi_Court_findWith_7, zi_Court_findWith_7n, zi_Court_findWith_9, zi_Court_findWith_9n, zi_Court_findWith_12, zi_Court_findWith_12n, zi_Court_findWith_14, zi_Court_findWith_15, zi_Court_findWith_18, zi_Court_findWith_21, zi_Court_findWith_22, zi_Court_findWith_25, zi_Court_findWith_28, zi_Court_findWith_29, zi_Court_findWith_29n, zi_Court_findWith_30, zi_Court_findWith_30n, zi_Court_findWith_32, zi_Court_findWith_32n, ↓reduceIte, mj_op_s, Option.toList_some, Option.toList_none, List.cons_append, List.nil_append, hp_1, hp_2, true_and, and_true, zb_0, zb_1, zb_b, va_rf, io_rt, ↓ogf_rt_0, ↓ogf_rt_1, ↓ogf_rt_2, ↓ogf_rt_3, ↓ogf_rt_4, ↓oai_rt_0, ↓oai_rt_1, ↓oai_rt_2, ↓oai_rt_3, ↓owi_rt_0, ↓owi_rt_1, ↓owi_rt_2, ↓owi_rt_3, ↓opf_rt, io_1, ↓ogf_1_0, ↓ogf_1_1, ↓opf_1_1, ↓ogf_1_2, ↓ogf_1_3, ↓ogf_1_4, ↓ogf_1_5, ↓ogf_1_6, ↓ogf_1_7, g_find hc hr hn, c_Routine_hasPlace rt, q0, b1', c_Code_isRegister, b2']
    · have b1' := eb.trans (bI_f h2)
      simp (decide := true) (disch := first | assumption | omega) only [zi_Court_findWith_0, zi_Court_findWith_1, zi_Court_findWith_2, zi_Court_findWith_5, zi_Court_findWith_5n, zi_Court_findWith_7, zi_Court_findWith_7n, zi_Court_findWith_9, zi_Court_findWith_9n, zi_Court_findWith_12, zi_Court_findWith_12n, zi_Court_findWith_14, zi_Court_findWith_15, zi_Court_findWith_18, zi_Court_findWith_21, zi_Court_findWith_22, zi_Court_findWith_25, zi_Court_findWith_28, zi_Court_findWith_29, zi_Court_findWith_29n, zi_Court_findWith_30, zi_Court_findWith_30n, zi_Court_findWith_32, zi_Court_findWith_32n, ↓reduceIte, mj_op_s, Option.toList_some, Option.toList_none, List.cons_append, List.nil_append, hp_1, hp_2, true_and, and_true, zb_0, zb_1, zb_b, va_rf, io_rt, ↓ogf_rt_0, ↓ogf_rt_1, ↓ogf_rt_2, ↓ogf_rt_3, ↓ogf_rt_4, ↓oai_rt_0, ↓oai_rt_1, ↓oai_rt_2, ↓oai_rt_3, ↓owi_rt_0, ↓owi_rt_1, ↓owi_rt_2, ↓owi_rt_3, ↓opf_rt, io_1, ↓ogf_1_0, ↓ogf_1_1, ↓opf_1_1, ↓ogf_1_2, ↓ogf_1_3, ↓ogf_1_4, ↓ogf_1_5, ↓ogf_1_6, ↓ogf_1_7, g_find hc hr hn, c_Routine_hasPlace rt, q0, b1']
  · simp (decide := true) (disch := first | assumption | omega) only [zi_Court_findWith_0, zi_Court_findWith_1, zi_Court_findWith_2, zi_Court_findWith_5, zi_Court_findWith_5n, zi_Court_findWith_7, zi_Court_findWith_7n, zi_Court_findWith_9, zi_Court_findWith_9n, zi_Court_findWith_12, zi_Court_findWith_12n, zi_Court_findWith_14, zi_Court_findWith_15, zi_Court_findWith_18, zi_Court_findWith_21, zi_Court_findWith_22, zi_Court_findWith_25, zi_Court_findWith_28, zi_Court_findWith_29, zi_Court_findWith_29n, zi_Court_findWith_30, zi_Court_findWith_30n, zi_Court_findWith_32, zi_Court_findWith_32n, ↓reduceIte, mj_op_s, Option.toList_some, Option.toList_none, List.cons_append, List.nil_append, hp_1, hp_2, true_and, and_true, zb_0, zb_1, zb_b, va_rf, io_rt, ↓ogf_rt_0, ↓ogf_rt_1, ↓ogf_rt_2, ↓ogf_rt_3, ↓ogf_rt_4, ↓oai_rt_0, ↓oai_rt_1, ↓oai_rt_2, ↓oai_rt_3, ↓owi_rt_0, ↓owi_rt_1, ↓owi_rt_2, ↓owi_rt_3, ↓opf_rt, io_1, ↓ogf_1_0, ↓ogf_1_1, ↓opf_1_1, ↓ogf_1_2, ↓ogf_1_3, ↓ogf_1_4, ↓ogf_1_5, ↓ogf_1_6, ↓ogf_1_7, g_find_no hc h1]
theorem g_isPlace (hm : mR M nr R) (hok : okS nr R) (hr : r < nr) (hp0 : p ≤ (R r).1) (hq : q < 8) : mj_V (d + 2) lim mq_Model_isPlace 0 [.ref 256, .int (nI r), .int (nI p), .int (nI q)] [] (hp M) Q ↔ Q (some (.int (nI 1))) (hp M) := by
  have hn := hok.1
  have hr4 : r < 44 := by omega
  have q0 := (hm.2.1 r hr).1
  have h50 := (hok.2 r hr).1
  have b0' := bI_t (isR_l (nr := nr) (by omega) hr)
  have b1' : bI (¬ nI p < nI 0 ∧ ¬ nI (R r).1 < nI p) = nI 1 := bI_t ⟨nI_nlt (by omega) (by omega), nI_nlt hp0 (by omega)⟩
  have b2' : bI (isReg (nI q)) = nI 1 := bI_t (isReg_i hq)
  simp (decide := true) (disch := first | assumption | omega) only [zi_Model_isPlace_0, zi_Model_isPlace_1, zi_Model_isPlace_2, zi_Model_isPlace_5, zi_Model_isPlace_8, zi_Model_isPlace_9, zi_Model_isPlace_10, zi_Model_isPlace_11, zi_Model_isPlace_14, zi_Model_isPlace_15, zi_Model_isPlace_16, zi_Model_isPlace_19, zi_Model_isPlace_22, zi_Model_isPlace_23, zi_Model_isPlace_24, zi_Model_isPlace_26, zi_Model_isPlace_29, zi_Model_isPlace_32, zi_Model_isPlace_33, zi_Model_isPlace_36, zi_Model_isPlace_37, ↓reduceIte, mj_op_s, Option.toList_some, Option.toList_none, List.cons_append, List.nil_append, hp_1, hp_2, true_and, and_true, zb_0, zb_1, zb_b, va_rf, io_256, ↓ogf_256_0, ↓opf_256_0, ↓ogf_256_1, ↓ogf_256_2, ↓ogf_256_3, ↓ogf_256_4, ↓opf_256_4, ↓ogf_256_5, ↓ogf_256_6, ↓ogf_256_7, ↓opf_256_7, ↓ogf_256_8, ↓opf_256_8, ↓ogf_256_9, ↓opf_256_9, ↓ogf_256_10, ↓opf_256_10, ↓ogf_256_11, ↓ogf_256_12, ↓ogf_256_13, ↓ogf_256_14, ↓ogf_256_15, ↓ogf_256_16, ↓ogf_256_17, ↓opf_256_17, ↓ogf_256_18, ↓opf_256_18, ↓ogf_256_19, ↓ogf_256_20, ↓ogf_256_21, ↓ogf_256_22, ↓opf_256_22_0, ↓opf_256_22_1, ↓ogf_256_23, ↓opf_256_23, ↓ogf_256_24, ↓ogf_256_25, ↓opf_256_25_0, ↓opf_256_25_1, ↓ogf_256_26, ↓opf_256_26, ↓ogf_256_27, ↓opf_256_27, ↓ogf_256_28, ↓opf_256_28, ↓ogf_256_29, ↓ogf_256_30, ↓ogf_256_31, ↓ogf_256_32, ↓ogf_256_33, ↓ogf_256_34, ↓oai_257, ↓owi_257, g_isRoutine hm hn, b0', c_Model_in, in7, q0, b1', b2']
theorem g_isPlace_no {x1 x2 x3 : Int32} (hm : mR M nr R) (hok : okS nr R) (h : ¬ ∃ r p q, r < nr ∧ p ≤ (R r).1 ∧ q < 8 ∧ x1 = nI r ∧ x2 = nI p ∧ x3 = nI q) : mj_V (d + 2) lim mq_Model_isPlace 0 [.ref 256, .int x1, .int x2, .int x3] [] (hp M) Q ↔ Q (some (.int (nI 0))) (hp M) := by
  have hn := hok.1
  by_cases h1 : isR nr x1
  · have b0' := bI_t h1
    obtain ⟨r, hr, rfl⟩ := isR_n h1
    have hr4 : r < 44 := by omega
    have q0 := (hm.2.1 r hr).1
    have h50 := (hok.2 r hr).1
    have eb := bI_cg (hP_iff (x := x2) (l := (R r).1) (by omega))
    by_cases h2 : isR ((R r).1 + 1) x2
    · have b1' := eb.trans (bI_t h2)
      obtain ⟨p, hp0, rfl⟩ := isR_n h2
      have h3 : ¬ isReg x3 := fun z => by
        obtain ⟨q, hq, rfl⟩ := isReg_n z
        exact h ⟨r, p, q, hr, by omega, hq, rfl, rfl, rfl⟩
      have b2' := bI_f h3
      simp (decide := true) (disch := first | assumption | omega) only [zi_Model_isPlace_0, zi_Model_isPlace_1, zi_Model_isPlace_2, zi_Model_isPlace_5, zi_Model_isPlace_8, zi_Model_isPlace_9, zi_Model_isPlace_10, zi_Model_isPlace_11, zi_Model_isPlace_14, zi_Model_isPlace_15, zi_Model_isPlace_16, zi_Model_isPlace_19, zi_Model_isPlace_22, zi_Model_isPlace_23, zi_Model_isPlace_24, zi_Model_isPlace_26, zi_Model_isPlace_29, zi_Model_isPlace_32, zi_Model_isPlace_33, zi_Model_isPlace_36, zi_Model_isPlace_37, ↓reduceIte, mj_op_s, Option.toList_some, Option.toList_none, List.cons_append, List.nil_append, hp_1, hp_2, true_and, and_true, zb_0, zb_1, zb_b, va_rf, io_256, ↓ogf_256_0, ↓opf_256_0, ↓ogf_256_1, ↓ogf_256_2, ↓ogf_256_3, ↓ogf_256_4, ↓opf_256_4, ↓ogf_256_5, ↓ogf_256_6, ↓ogf_256_7, ↓opf_256_7, ↓ogf_256_8, ↓opf_256_8, ↓ogf_256_9, ↓opf_256_9, ↓ogf_256_10, ↓opf_256_10, ↓ogf_256_11, ↓ogf_256_12, ↓ogf_256_13, ↓ogf_256_14, ↓ogf_256_15, ↓ogf_256_16, ↓ogf_256_17, ↓opf_256_17, ↓ogf_256_18, ↓opf_256_18, ↓ogf_256_19, ↓ogf_256_20, ↓ogf_256_21, ↓ogf_256_22, ↓opf_256_22_0, ↓opf_256_22_1, ↓ogf_256_23, ↓opf_256_23, ↓ogf_256_24, ↓ogf_256_25, ↓opf_256_25_0, ↓opf_256_25_1, ↓ogf_256_26, ↓opf_256_26, ↓ogf_256_27, ↓opf_256_27, ↓ogf_256_28, ↓opf_256_28, ↓ogf_256_29, ↓ogf_256_30, ↓ogf_256_31, ↓ogf_256_32, ↓ogf_256_33, ↓ogf_256_34, ↓oai_257, ↓owi_257, g_isRoutine hm hn, b0', c_Model_in, in7, q0, b1', b2']
    · have b1' := eb.trans (bI_f h2)
      simp (decide := true) (disch := first | assumption | omega) only [zi_Model_isPlace_0, zi_Model_isPlace_1, zi_Model_isPlace_2, zi_Model_isPlace_5, zi_Model_isPlace_8, zi_Model_isPlace_9, zi_Model_isPlace_10, zi_Model_isPlace_11, zi_Model_isPlace_14, zi_Model_isPlace_15, zi_Model_isPlace_16, zi_Model_isPlace_19, zi_Model_isPlace_22, zi_Model_isPlace_23, zi_Model_isPlace_24, zi_Model_isPlace_26, zi_Model_isPlace_29, zi_Model_isPlace_32, zi_Model_isPlace_33, zi_Model_isPlace_36, zi_Model_isPlace_37, ↓reduceIte, mj_op_s, Option.toList_some, Option.toList_none, List.cons_append, List.nil_append, hp_1, hp_2, true_and, and_true, zb_0, zb_1, zb_b, va_rf, io_256, ↓ogf_256_0, ↓opf_256_0, ↓ogf_256_1, ↓ogf_256_2, ↓ogf_256_3, ↓ogf_256_4, ↓opf_256_4, ↓ogf_256_5, ↓ogf_256_6, ↓ogf_256_7, ↓opf_256_7, ↓ogf_256_8, ↓opf_256_8, ↓ogf_256_9, ↓opf_256_9, ↓ogf_256_10, ↓opf_256_10, ↓ogf_256_11, ↓ogf_256_12, ↓ogf_256_13, ↓ogf_256_14, ↓ogf_256_15, ↓ogf_256_16, ↓ogf_256_17, ↓opf_256_17, ↓ogf_256_18, ↓opf_256_18, ↓ogf_256_19, ↓ogf_256_20, ↓ogf_256_21, ↓ogf_256_22, ↓opf_256_22_0, ↓opf_256_22_1, ↓ogf_256_23, ↓opf_256_23, ↓ogf_256_24, ↓ogf_256_25, ↓opf_256_25_0, ↓opf_256_25_1, ↓ogf_256_26, ↓opf_256_26, ↓ogf_256_27, ↓opf_256_27, ↓ogf_256_28, ↓opf_256_28, ↓ogf_256_29, ↓ogf_256_30, ↓ogf_256_31, ↓ogf_256_32, ↓ogf_256_33, ↓ogf_256_34, ↓oai_257, ↓owi_257, g_isRoutine hm hn, b0', c_Model_in, q0, b1']
  · have b0' := bI_f h1
    simp (decide := true) (disch := first | assumption | omega) only [zi_Model_isPlace_0, zi_Model_isPlace_1, zi_Model_isPlace_2, zi_Model_isPlace_5, zi_Model_isPlace_8, zi_Model_isPlace_9, zi_Model_isPlace_10, zi_Model_isPlace_11, zi_Model_isPlace_14, zi_Model_isPlace_15, zi_Model_isPlace_16, zi_Model_isPlace_19, zi_Model_isPlace_22, zi_Model_isPlace_23, zi_Model_isPlace_24, zi_Model_isPlace_26, zi_Model_isPlace_29, zi_Model_isPlace_32, zi_Model_isPlace_33, zi_Model_isPlace_36, zi_Model_isPlace_37, ↓reduceIte, mj_op_s, Option.toList_some, Option.toList_none, List.cons_append, List.nil_append, hp_1, hp_2, true_and, and_true, zb_0, zb_1, zb_b, va_rf, io_256, ↓ogf_256_0, ↓opf_256_0, ↓ogf_256_1, ↓ogf_256_2, ↓ogf_256_3, ↓ogf_256_4, ↓opf_256_4, ↓ogf_256_5, ↓ogf_256_6, ↓ogf_256_7, ↓opf_256_7, ↓ogf_256_8, ↓opf_256_8, ↓ogf_256_9, ↓opf_256_9, ↓ogf_256_10, ↓opf_256_10, ↓ogf_256_11, ↓ogf_256_12, ↓ogf_256_13, ↓ogf_256_14, ↓ogf_256_15, ↓ogf_256_16, ↓ogf_256_17, ↓opf_256_17, ↓ogf_256_18, ↓opf_256_18, ↓ogf_256_19, ↓ogf_256_20, ↓ogf_256_21, ↓ogf_256_22, ↓opf_256_22_0, ↓opf_256_22_1, ↓ogf_256_23, ↓opf_256_23, ↓ogf_256_24, ↓ogf_256_25, ↓opf_256_25_0, ↓opf_256_25_1, ↓ogf_256_26, ↓opf_256_26, ↓ogf_256_27, ↓opf_256_27, ↓ogf_256_28, ↓opf_256_28, ↓ogf_256_29, ↓ogf_256_30, ↓ogf_256_31, ↓ogf_256_32, ↓ogf_256_33, ↓ogf_256_34, ↓oai_257, ↓owi_257, g_isRoutine hm hn, b0']
/-- after know: all stands -/
theorem inv_km {fed : Nat} {fd rg : Nat → Int64} {gv : Int32} {ot : Nat → Int64} {dn pl fy : Int32} {M1 M2 : mm} {s : KS} {bh : Int64} (oS : okS nr R) (oF : fed ≤ 16) (oW : okW W) (hc : cR M1 nr R ∧ cF M1 fed fd ∧ cG M1 rg gv ot dn pl ∧ hasW M1 W ∧ cJ M1 fy) (hm : mR M1 nr R ∧ mF M1 fed fd ∧ mG M1 rg gv ot dn pl ∧ hasV M1 W ∧ mJ M1 fy) (hv : sv kmP M1 M2) (hT : kmT M2 s bh) : Inv M2 := by
  obtain ⟨n1, n2, n3, n4, n5⟩ := hm
  refine ⟨nr, R, fed, fd, rg, gv, ot, dn, pl, W, fy, oS, oF, oW, c_hi hv (fun i k h => by unfold kmP at h; omega) oS.1 hc, ⟨⟨(sv_I hv (by unfold kmP; omega)).trans n1.1, fun r hr => km_hasM hv (n1.2.1 r hr), s.2.2.2, hT.2.2.2.1⟩, mF_sv hv (fun i k z p => by unfold kmP at p; omega) n2, mG_sv hv (fun i k z p => by unfold kmP at p; omega) n3, hasV_sv hv (fun i k z y p => by unfold kmP at p; omega) (fun p => by unfold kmP at p; omega) n4, mJ_sv hv (fun i k z p => by unfold kmP at p; omega) n5⟩⟩
theorem J_known (hI : Inv M) {x1 x2 x3 : Int32} (hend : ∀ M1 (u : Int32), M1.2.2.2 = M.2.2.2 → JH d M mq_Model_known [.ref 256, .int x1, .int x2, .int x3] (.int u) M1 → Q (some (.int u)) (hp M1)) : mj_V (d + 8) lim mq_Court_known 0 [.ref 1, .int x1, .int x2, .int x3, mj_j] [] (hp M) Q := by
  obtain ⟨nr, R, fed, fd, rg, gv, ot, dn, pl, W, fy, oS, oF, oW, hc, hm⟩ := hI
  have hI : Inv M := ⟨nr, R, fed, fd, rg, gv, ot, dn, pl, W, fy, oS, oF, oW, hc, hm⟩
  have hn := oS.1
  by_cases h : ∃ r p q, r < nr ∧ p ≤ (R r).1 ∧ q < 8 ∧ x1 = nI r ∧ x2 = nI p ∧ x3 = nI q
  · obtain ⟨r, p, q, hr, hp0, hq0, rfl, rfl, rfl⟩ := h
    have rt := rt_n (show r < 40 by omega)
    have hok := oS.2 r hr
    have h50 := hok.1
    have hp51 : p < 51 := by omega
    have hr4 : r < 44 := by omega
    simp (decide := true) (disch := first | assumption | omega) only [zi_Court_known_0, zi_Court_known_1, zi_Court_known_2, zi_Court_known_3, zi_Court_known_4, zi_Court_known_7, zi_Court_known_7n, zi_Court_known_9, zi_Court_known_9n, zi_Court_known_11, zi_Court_known_11n, zi_Court_known_14, zi_Court_known_16, zi_Court_known_17, zi_Court_known_18, zi_Court_known_21, zi_Court_known_21n, zi_Court_known_23, ↓reduceIte, mj_op_s, Option.toList_some, Option.toList_none, List.cons_append, List.nil_append, hp_1, hp_2, true_and, and_true, zb_0, zb_1, zb_b, va_rf, io_rt, ↓ogf_rt_0, ↓ogf_rt_1, ↓ogf_rt_2, ↓ogf_rt_3, ↓ogf_rt_4, ↓oai_rt_0, ↓oai_rt_1, ↓oai_rt_2, ↓oai_rt_3, ↓owi_rt_0, ↓owi_rt_1, ↓owi_rt_2, ↓owi_rt_3, ↓opf_rt, io_1, ↓ogf_1_0, ↓ogf_1_1, ↓opf_1_1, ↓ogf_1_2, ↓ogf_1_3, ↓ogf_1_4, ↓ogf_1_5, ↓ogf_1_6, ↓ogf_1_7, io_203, ↓ogf_203_0, ↓ogf_203_1, ↓ogf_203_2, ↓ogf_203_3, ↓ogf_203_4, ↓opf_203_4_0, ↓opf_203_4_1, ↓ogf_203_5, ↓ogf_203_6, g_findWith hc.1 oS hr hp0 hq0]
    refine c_Knowledge_study (d := d + 4) rt (hc.1.2.1 r hr) hok (fun M1 s kb nb hs hL => ?_)
    have hv1 : sv (fun i _ => knP i) M (knM M1 s kb nb) := sv_sm (sm_kn hs)
    have hc1 := c_sd hv1 (fun i k h => by unfold knP at h; omega) hn hc
    have hm1 := m_lo hv1 (fun i k h => by unfold knP at h; omega) hm
    have e4 := kn_4 (M := M1) (s := s) (kb := kb) (nb := nb) hp51
    have hkR := kn_kR (M := M1) (s := s) (kb := kb) (nb := nb)
    have hmod : ∀ v : Int32, (s.1 p = false → v = -1) → (s.1 p = true → v = b1 (s.2.1 p q).isSome) → JH d M mq_Model_known [.ref 256, .int (nI r), .int (nI p), .int (nI q)] (.int v) (knM M1 s kb nb) := by
      intro v hv0 hv1' lim Q2 hq
      obtain ⟨b0, hb0⟩ := hm1.1.2.2
      simp (decide := true) (disch := first | assumption | omega) only [zi_Model_known_0, zi_Model_known_1, zi_Model_known_2, zi_Model_known_3, zi_Model_known_4, zi_Model_known_7, zi_Model_known_10, zi_Model_known_12, zi_Model_known_13, zi_Model_known_14, zi_Model_known_15, ↓reduceIte, mj_op_s, Option.toList_some, Option.toList_none, List.cons_append, List.nil_append, hp_1, hp_2, true_and, and_true, zb_0, zb_1, zb_b, va_rf, io_256, ↓ogf_256_0, ↓opf_256_0, ↓ogf_256_1, ↓ogf_256_2, ↓ogf_256_3, ↓ogf_256_4, ↓opf_256_4, ↓ogf_256_5, ↓ogf_256_6, ↓ogf_256_7, ↓opf_256_7, ↓ogf_256_8, ↓opf_256_8, ↓ogf_256_9, ↓opf_256_9, ↓ogf_256_10, ↓opf_256_10, ↓ogf_256_11, ↓ogf_256_12, ↓ogf_256_13, ↓ogf_256_14, ↓ogf_256_15, ↓ogf_256_16, ↓ogf_256_17, ↓opf_256_17, ↓ogf_256_18, ↓opf_256_18, ↓ogf_256_19, ↓ogf_256_20, ↓ogf_256_21, ↓ogf_256_22, ↓opf_256_22_0, ↓opf_256_22_1, ↓ogf_256_23, ↓opf_256_23, ↓ogf_256_24, ↓ogf_256_25, ↓opf_256_25_0, ↓opf_256_25_1, ↓ogf_256_26, ↓opf_256_26, ↓ogf_256_27, ↓opf_256_27, ↓ogf_256_28, ↓opf_256_28, ↓ogf_256_29, ↓ogf_256_30, ↓ogf_256_31, ↓ogf_256_32, ↓ogf_256_33, ↓ogf_256_34, g_isPlace hm1.1 oS hr hp0 hq0]
      refine c_Model_know (d := d + 3) hr4 (hm1.1.2.1 r hr) hok hb0 (fun M2 s2 bh2 hv2 hT2 hL2 => ?_)
      obtain ⟨k1, k2⟩ := knL_one hL hL2 hp0
      have k3 := k2 q hq0
      have hI2 := inv_km oS oF oW hc1 hm1 hv2 hT2
      have hq := hq M2 (hv2.2.trans hv1.2) hI2
      have e8 := hT2.1 p hp51
      cases hC : s2.1 p with
      | false =>
        rw [hC] at e8 k1
        have e8 : rI M2 268 p = nI 0 := e8
        rw [hv0 k1] at hq
        simp (decide := true) (disch := first | assumption | omega) only [zi_Model_known_18, zi_Model_known_19, zi_Model_known_22, zi_Model_known_23, zi_Model_known_24, zi_Model_known_27, zi_Model_known_28, zi_Model_known_31, zi_Model_known_32, zi_Model_known_33, zi_Model_known_34, zi_Model_known_37, zi_Model_known_40, zi_Model_known_41, zi_Model_known_44, zi_Model_known_45, ↓reduceIte, mj_op_s, Option.toList_some, Option.toList_none, List.cons_append, List.nil_append, hp_1, hp_2, true_and, and_true, zb_0, zb_1, zb_b, va_rf, io_256, ↓ogf_256_0, ↓opf_256_0, ↓ogf_256_1, ↓ogf_256_2, ↓ogf_256_3, ↓ogf_256_4, ↓opf_256_4, ↓ogf_256_5, ↓ogf_256_6, ↓ogf_256_7, ↓opf_256_7, ↓ogf_256_8, ↓opf_256_8, ↓ogf_256_9, ↓opf_256_9, ↓ogf_256_10, ↓opf_256_10, ↓ogf_256_11, ↓ogf_256_12, ↓ogf_256_13, ↓ogf_256_14, ↓ogf_256_15, ↓ogf_256_16, ↓ogf_256_17, ↓opf_256_17, ↓ogf_256_18, ↓opf_256_18, ↓ogf_256_19, ↓ogf_256_20, ↓ogf_256_21, ↓ogf_256_22, ↓opf_256_22_0, ↓opf_256_22_1, ↓ogf_256_23, ↓opf_256_23, ↓ogf_256_24, ↓ogf_256_25, ↓opf_256_25_0, ↓opf_256_25_1, ↓ogf_256_26, ↓opf_256_26, ↓ogf_256_27, ↓opf_256_27, ↓ogf_256_28, ↓opf_256_28, ↓ogf_256_29, ↓ogf_256_30, ↓ogf_256_31, ↓ogf_256_32, ↓ogf_256_33, ↓ogf_256_34, ↓oaz_268, ↓owz_268, e8]
        exact hq
      | true =>
        rw [hC] at e8 k1
        have e8 : rI M2 268 p = nI 1 := e8
        rw [hv1' k1, k3] at hq
        cases hF : s2.2.1 p q with
        | none =>
          rw [hF] at hq
          simp (decide := true) (disch := first | assumption | omega) only [zi_Model_known_18, zi_Model_known_19, zi_Model_known_22, zi_Model_known_23, zi_Model_known_24, zi_Model_known_27, zi_Model_known_28, zi_Model_known_31, zi_Model_known_32, zi_Model_known_33, zi_Model_known_34, zi_Model_known_37, zi_Model_known_40, zi_Model_known_41, zi_Model_known_44, zi_Model_known_45, ↓reduceIte, mj_op_s, Option.toList_some, Option.toList_none, List.cons_append, List.nil_append, hp_1, hp_2, true_and, and_true, zb_0, zb_1, zb_b, va_rf, io_256, ↓ogf_256_0, ↓opf_256_0, ↓ogf_256_1, ↓ogf_256_2, ↓ogf_256_3, ↓ogf_256_4, ↓opf_256_4, ↓ogf_256_5, ↓ogf_256_6, ↓ogf_256_7, ↓opf_256_7, ↓ogf_256_8, ↓opf_256_8, ↓ogf_256_9, ↓opf_256_9, ↓ogf_256_10, ↓opf_256_10, ↓ogf_256_11, ↓ogf_256_12, ↓ogf_256_13, ↓ogf_256_14, ↓ogf_256_15, ↓ogf_256_16, ↓ogf_256_17, ↓opf_256_17, ↓ogf_256_18, ↓opf_256_18, ↓ogf_256_19, ↓ogf_256_20, ↓ogf_256_21, ↓ogf_256_22, ↓opf_256_22_0, ↓opf_256_22_1, ↓ogf_256_23, ↓opf_256_23, ↓ogf_256_24, ↓ogf_256_25, ↓opf_256_25_0, ↓opf_256_25_1, ↓ogf_256_26, ↓opf_256_26, ↓ogf_256_27, ↓opf_256_27, ↓ogf_256_28, ↓opf_256_28, ↓ogf_256_29, ↓ogf_256_30, ↓ogf_256_31, ↓ogf_256_32, ↓ogf_256_33, ↓ogf_256_34, ↓oaz_268, ↓owz_268, e8, c_Model_knows hT2 hp51 hq0, hF, Option.isSome_none, b1_f]
          exact hq
        | some w =>
          rw [hF] at hq
          simp (decide := true) (disch := first | assumption | omega) only [zi_Model_known_18, zi_Model_known_19, zi_Model_known_22, zi_Model_known_23, zi_Model_known_24, zi_Model_known_27, zi_Model_known_28, zi_Model_known_31, zi_Model_known_32, zi_Model_known_33, zi_Model_known_34, zi_Model_known_37, zi_Model_known_40, zi_Model_known_41, zi_Model_known_44, zi_Model_known_45, ↓reduceIte, mj_op_s, Option.toList_some, Option.toList_none, List.cons_append, List.nil_append, hp_1, hp_2, true_and, and_true, zb_0, zb_1, zb_b, va_rf, io_256, ↓ogf_256_0, ↓opf_256_0, ↓ogf_256_1, ↓ogf_256_2, ↓ogf_256_3, ↓ogf_256_4, ↓opf_256_4, ↓ogf_256_5, ↓ogf_256_6, ↓ogf_256_7, ↓opf_256_7, ↓ogf_256_8, ↓opf_256_8, ↓ogf_256_9, ↓opf_256_9, ↓ogf_256_10, ↓opf_256_10, ↓ogf_256_11, ↓ogf_256_12, ↓ogf_256_13, ↓ogf_256_14, ↓ogf_256_15, ↓ogf_256_16, ↓ogf_256_17, ↓opf_256_17, ↓ogf_256_18, ↓opf_256_18, ↓ogf_256_19, ↓ogf_256_20, ↓ogf_256_21, ↓ogf_256_22, ↓opf_256_22_0, ↓opf_256_22_1, ↓ogf_256_23, ↓opf_256_23, ↓ogf_256_24, ↓ogf_256_25, ↓opf_256_25_0, ↓opf_256_25_1, ↓ogf_256_26, ↓opf_256_26, ↓ogf_256_27, ↓opf_256_27, ↓ogf_256_28, ↓opf_256_28, ↓ogf_256_29, ↓ogf_256_30, ↓ogf_256_31, ↓ogf_256_32, ↓ogf_256_33, ↓ogf_256_34, ↓oaz_268, ↓owz_268, e8, c_Model_knows hT2 hp51 hq0, hF, Option.isSome_some, b1_t]
          exact hq
    cases hC : s.1 p with
    | false =>
      rw [hC] at e4
      have e4 : rI (knM M1 s kb nb) 204 p = nI 0 := e4
      simp (decide := true) (disch := first | assumption | omega) only [zi_Court_known_26, zi_Court_known_27, zi_Court_known_30, zi_Court_known_33, zi_Court_known_34, zi_Court_known_35, zi_Court_known_38, zi_Court_known_39, ↓reduceIte, mj_op_s, Option.toList_some, Option.toList_none, List.cons_append, List.nil_append, hp_1, hp_2, true_and, and_true, zb_0, zb_1, zb_b, va_rf, io_1, ↓ogf_1_0, ↓ogf_1_1, ↓opf_1_1, ↓ogf_1_2, ↓ogf_1_3, ↓ogf_1_4, ↓ogf_1_5, ↓ogf_1_6, ↓ogf_1_7, io_203, ↓ogf_203_0, ↓ogf_203_1, ↓ogf_203_2, ↓ogf_203_3, ↓ogf_203_4, ↓opf_203_4_0, ↓opf_203_4_1, ↓ogf_203_5, ↓ogf_203_6, ↓oaz_204, ↓owz_204, e4]
      exact hend _ _ hv1.2 (hmod (-1) (fun _ => rfl) (fun z => by rw [hC] at z; cases z))
    | true =>
      rw [hC] at e4
      have e4 : rI (knM M1 s kb nb) 204 p = nI 1 := e4
      cases hF : s.2.1 p q with
      | none =>
        simp (decide := true) (disch := first | assumption | omega) only [zi_Court_known_26, zi_Court_known_27, zi_Court_known_30, zi_Court_known_33, zi_Court_known_34, zi_Court_known_35, zi_Court_known_38, zi_Court_known_39, zi_Court_known_40, zi_Court_known_41, zi_Court_known_44, zi_Court_known_45, zi_Court_known_46, zi_Court_known_49, zi_Court_known_52, zi_Court_known_53, zi_Court_known_56, zi_Court_known_57, ↓reduceIte, mj_op_s, Option.toList_some, Option.toList_none, List.cons_append, List.nil_append, hp_1, hp_2, true_and, and_true, zb_0, zb_1, zb_b, va_rf, io_1, ↓ogf_1_0, ↓ogf_1_1, ↓opf_1_1, ↓ogf_1_2, ↓ogf_1_3, ↓ogf_1_4, ↓ogf_1_5, ↓ogf_1_6, ↓ogf_1_7, io_203, ↓ogf_203_0, ↓ogf_203_1, ↓ogf_203_2, ↓ogf_203_3, ↓ogf_203_4, ↓opf_203_4_0, ↓opf_203_4_1, ↓ogf_203_5, ↓ogf_203_6, ↓oaz_204, ↓owz_204, e4, g_isKnown hkR hp51 hq0, hF, Option.isSome_none, b1_f]
        exact hend _ _ hv1.2 (hmod (nI 0) (fun z => by rw [hC] at z; cases z) (fun _ => by rw [hF]; rfl))
      | some w =>
        simp (decide := true) (disch := first | assumption | omega) only [zi_Court_known_26, zi_Court_known_27, zi_Court_known_30, zi_Court_known_33, zi_Court_known_34, zi_Court_known_35, zi_Court_known_38, zi_Court_known_39, zi_Court_known_40, zi_Court_known_41, zi_Court_known_44, zi_Court_known_45, zi_Court_known_46, zi_Court_known_49, zi_Court_known_52, zi_Court_known_53, zi_Court_known_56, zi_Court_known_57, ↓reduceIte, mj_op_s, Option.toList_some, Option.toList_none, List.cons_append, List.nil_append, hp_1, hp_2, true_and, and_true, zb_0, zb_1, zb_b, va_rf, io_1, ↓ogf_1_0, ↓ogf_1_1, ↓opf_1_1, ↓ogf_1_2, ↓ogf_1_3, ↓ogf_1_4, ↓ogf_1_5, ↓ogf_1_6, ↓ogf_1_7, io_203, ↓ogf_203_0, ↓ogf_203_1, ↓ogf_203_2, ↓ogf_203_3, ↓ogf_203_4, ↓opf_203_4_0, ↓opf_203_4_1, ↓ogf_203_5, ↓ogf_203_6, ↓oaz_204, ↓owz_204, e4, g_isKnown hkR hp51 hq0, hF, Option.isSome_some, b1_t]
        exact hend _ _ hv1.2 (hmod (nI 1) (fun z => by rw [hC] at z; cases z) (fun _ => by rw [hF]; rfl))
  · simp (decide := true) (disch := first | assumption | omega) only [zi_Court_known_0, zi_Court_known_1, zi_Court_known_2, zi_Court_known_3, zi_Court_known_4, zi_Court_known_7, zi_Court_known_7n, zi_Court_known_9, zi_Court_known_9n, zi_Court_known_11, zi_Court_known_11n, zi_Court_known_14, zi_Court_known_16, ↓reduceIte, mj_op_s, Option.toList_some, Option.toList_none, List.cons_append, List.nil_append, hp_1, hp_2, true_and, and_true, zb_0, zb_1, zb_b, va_rf, io_rt, ↓ogf_rt_0, ↓ogf_rt_1, ↓ogf_rt_2, ↓ogf_rt_3, ↓ogf_rt_4, ↓oai_rt_0, ↓oai_rt_1, ↓oai_rt_2, ↓oai_rt_3, ↓owi_rt_0, ↓owi_rt_1, ↓owi_rt_2, ↓owi_rt_3, ↓opf_rt, io_1, ↓ogf_1_0, ↓ogf_1_1, ↓opf_1_1, ↓ogf_1_2, ↓ogf_1_3, ↓ogf_1_4, ↓ogf_1_5, ↓ogf_1_6, ↓ogf_1_7, io_203, ↓ogf_203_0, ↓ogf_203_1, ↓ogf_203_2, ↓ogf_203_3, ↓ogf_203_4, ↓opf_203_4_0, ↓opf_203_4_1, ↓ogf_203_5, ↓ogf_203_6, g_findWith_no hc.1 oS h]
    refine hend M _ rfl (JH_same hI (fun lim Q2 hq => ?_))
    simp (decide := true) (disch := first | assumption | omega) only [zi_Model_known_0, zi_Model_known_1, zi_Model_known_2, zi_Model_known_3, zi_Model_known_4, zi_Model_known_7, zi_Model_known_10, zi_Model_known_12, ↓reduceIte, mj_op_s, Option.toList_some, Option.toList_none, List.cons_append, List.nil_append, hp_1, hp_2, true_and, and_true, zb_0, zb_1, zb_b, va_rf, io_256, ↓ogf_256_0, ↓opf_256_0, ↓ogf_256_1, ↓ogf_256_2, ↓ogf_256_3, ↓ogf_256_4, ↓opf_256_4, ↓ogf_256_5, ↓ogf_256_6, ↓ogf_256_7, ↓opf_256_7, ↓ogf_256_8, ↓opf_256_8, ↓ogf_256_9, ↓opf_256_9, ↓ogf_256_10, ↓opf_256_10, ↓ogf_256_11, ↓ogf_256_12, ↓ogf_256_13, ↓ogf_256_14, ↓ogf_256_15, ↓ogf_256_16, ↓ogf_256_17, ↓opf_256_17, ↓ogf_256_18, ↓opf_256_18, ↓ogf_256_19, ↓ogf_256_20, ↓ogf_256_21, ↓ogf_256_22, ↓opf_256_22_0, ↓opf_256_22_1, ↓ogf_256_23, ↓opf_256_23, ↓ogf_256_24, ↓ogf_256_25, ↓opf_256_25_0, ↓opf_256_25_1, ↓ogf_256_26, ↓opf_256_26, ↓ogf_256_27, ↓opf_256_27, ↓ogf_256_28, ↓opf_256_28, ↓ogf_256_29, ↓ogf_256_30, ↓ogf_256_31, ↓ogf_256_32, ↓ogf_256_33, ↓ogf_256_34, g_isPlace_no hm.1 oS h]
    exact hq
theorem J_value (hI : Inv M) {x1 x2 x3 : Int32} (hend : ∀ M1 (u : Int64), M1.2.2.2 = M.2.2.2 → JH d M mq_Model_value [.ref 256, .int x1, .int x2, .int x3] (.long u) M1 → Q (some (.long u)) (hp M1)) : mj_V (d + 8) lim mq_Court_value 0 [.ref 1, .int x1, .int x2, .int x3, mj_j] [] (hp M) Q := by
  obtain ⟨nr, R, fed, fd, rg, gv, ot, dn, pl, W, fy, oS, oF, oW, hc, hm⟩ := hI
  have hI : Inv M := ⟨nr, R, fed, fd, rg, gv, ot, dn, pl, W, fy, oS, oF, oW, hc, hm⟩
  have hn := oS.1
  by_cases h : ∃ r p q, r < nr ∧ p ≤ (R r).1 ∧ q < 8 ∧ x1 = nI r ∧ x2 = nI p ∧ x3 = nI q
  · obtain ⟨r, p, q, hr, hp0, hq0, rfl, rfl, rfl⟩ := h
    have rt := rt_n (show r < 40 by omega)
    have hok := oS.2 r hr
    have h50 := hok.1
    have hp51 : p < 51 := by omega
    have hr4 : r < 44 := by omega
    simp (decide := true) (disch := first | assumption | omega) only [zi_Court_value_0, zi_Court_value_1, zi_Court_value_2, zi_Court_value_3, zi_Court_value_4, zi_Court_value_7, zi_Court_value_7n, zi_Court_value_9, zi_Court_value_9n, zi_Court_value_11, zi_Court_value_11n, zi_Court_value_14, zi_Court_value_15, zi_Court_value_16, zi_Court_value_17, zi_Court_value_20, zi_Court_value_20n, zi_Court_value_22, ↓reduceIte, mj_op_s, Option.toList_some, Option.toList_none, List.cons_append, List.nil_append, hp_1, hp_2, true_and, and_true, zb_0, zb_1, zb_b, va_rf, io_rt, ↓ogf_rt_0, ↓ogf_rt_1, ↓ogf_rt_2, ↓ogf_rt_3, ↓ogf_rt_4, ↓oai_rt_0, ↓oai_rt_1, ↓oai_rt_2, ↓oai_rt_3, ↓owi_rt_0, ↓owi_rt_1, ↓owi_rt_2, ↓owi_rt_3, ↓opf_rt, io_1, ↓ogf_1_0, ↓ogf_1_1, ↓opf_1_1, ↓ogf_1_2, ↓ogf_1_3, ↓ogf_1_4, ↓ogf_1_5, ↓ogf_1_6, ↓ogf_1_7, io_203, ↓ogf_203_0, ↓ogf_203_1, ↓ogf_203_2, ↓ogf_203_3, ↓ogf_203_4, ↓opf_203_4_0, ↓opf_203_4_1, ↓ogf_203_5, ↓ogf_203_6, g_findWith hc.1 oS hr hp0 hq0]
    refine c_Knowledge_study (d := d + 4) rt (hc.1.2.1 r hr) hok (fun M1 s kb nb hs hL => ?_)
    have hv1 : sv (fun i _ => knP i) M (knM M1 s kb nb) := sv_sm (sm_kn hs)
    have hc1 := c_sd hv1 (fun i k h => by unfold knP at h; omega) hn hc
    have hm1 := m_lo hv1 (fun i k h => by unfold knP at h; omega) hm
    have hkR := kn_kR (M := M1) (s := s) (kb := kb) (nb := nb)
    have hmod : JH d M mq_Model_value [.ref 256, .int (nI r), .int (nI p), .int (nI q)] (.long ((s.2.1 p q).getD 0)) (knM M1 s kb nb) := by
      intro lim Q2 hq
      obtain ⟨b0, hb0⟩ := hm1.1.2.2
      simp (decide := true) (disch := first | assumption | omega) only [zi_Model_value_0, zi_Model_value_1, zi_Model_value_2, zi_Model_value_3, zi_Model_value_4, zi_Model_known_0, zi_Model_known_1, zi_Model_known_2, zi_Model_known_3, zi_Model_known_4, zi_Model_known_7, zi_Model_known_10, zi_Model_known_12, zi_Model_known_13, zi_Model_known_14, zi_Model_known_15, ↓reduceIte, mj_op_s, Option.toList_some, Option.toList_none, List.cons_append, List.nil_append, hp_1, hp_2, true_and, and_true, zb_0, zb_1, zb_b, va_rf, io_256, ↓ogf_256_0, ↓opf_256_0, ↓ogf_256_1, ↓ogf_256_2, ↓ogf_256_3, ↓ogf_256_4, ↓opf_256_4, ↓ogf_256_5, ↓ogf_256_6, ↓ogf_256_7, ↓opf_256_7, ↓ogf_256_8, ↓opf_256_8, ↓ogf_256_9, ↓opf_256_9, ↓ogf_256_10, ↓opf_256_10, ↓ogf_256_11, ↓ogf_256_12, ↓ogf_256_13, ↓ogf_256_14, ↓ogf_256_15, ↓ogf_256_16, ↓ogf_256_17, ↓opf_256_17, ↓ogf_256_18, ↓opf_256_18, ↓ogf_256_19, ↓ogf_256_20, ↓ogf_256_21, ↓ogf_256_22, ↓opf_256_22_0, ↓opf_256_22_1, ↓ogf_256_23, ↓opf_256_23, ↓ogf_256_24, ↓ogf_256_25, ↓opf_256_25_0, ↓opf_256_25_1, ↓ogf_256_26, ↓opf_256_26, ↓ogf_256_27, ↓opf_256_27, ↓ogf_256_28, ↓opf_256_28, ↓ogf_256_29, ↓ogf_256_30, ↓ogf_256_31, ↓ogf_256_32, ↓ogf_256_33, ↓ogf_256_34, g_isPlace hm1.1 oS hr hp0 hq0]
      refine c_Model_know (d := d + 2) hr4 (hm1.1.2.1 r hr) hok hb0 (fun M2 s2 bh2 hv2 hT2 hL2 => ?_)
      obtain ⟨k1, k2⟩ := knL_one hL hL2 hp0
      have k3 := k2 q hq0
      have hI2 := inv_km oS oF oW hc1 hm1 hv2 hT2
      have hq := hq M2 (hv2.2.trans hv1.2) hI2
      have e8 := hT2.1 p hp51
      rw [k3] at hq
      cases hC : s2.1 p with
      | false =>
        rw [hC] at e8
        have e8 : rI M2 268 p = nI 0 := e8
        rw [hL2.2.2 p hC q hq0] at hq
        simp (decide := true) (disch := first | assumption | omega) only [zi_Model_known_18, zi_Model_known_19, zi_Model_known_22, zi_Model_known_23, zi_Model_known_24, zi_Model_known_27, zi_Model_known_28, zi_Model_known_31, zi_Model_known_32, zi_Model_known_33, zi_Model_known_34, zi_Model_known_37, zi_Model_known_40, zi_Model_known_41, zi_Model_known_44, zi_Model_known_45, zi_Model_value_7, zi_Model_value_8, zi_Model_value_11, zi_Model_value_12, zi_Model_value_13, zi_Model_value_14, zi_Model_value_17, zi_Model_value_20, zi_Model_value_21, ↓reduceIte, mj_op_s, Option.toList_some, Option.toList_none, List.cons_append, List.nil_append, hp_1, hp_2, true_and, and_true, zb_0, zb_1, zb_b, va_rf, io_256, ↓ogf_256_0, ↓opf_256_0, ↓ogf_256_1, ↓ogf_256_2, ↓ogf_256_3, ↓ogf_256_4, ↓opf_256_4, ↓ogf_256_5, ↓ogf_256_6, ↓ogf_256_7, ↓opf_256_7, ↓ogf_256_8, ↓opf_256_8, ↓ogf_256_9, ↓opf_256_9, ↓ogf_256_10, ↓opf_256_10, ↓ogf_256_11, ↓ogf_256_12, ↓ogf_256_13, ↓ogf_256_14, ↓ogf_256_15, ↓ogf_256_16, ↓ogf_256_17, ↓opf_256_17, ↓ogf_256_18, ↓opf_256_18, ↓ogf_256_19, ↓ogf_256_20, ↓ogf_256_21, ↓ogf_256_22, ↓opf_256_22_0, ↓opf_256_22_1, ↓ogf_256_23, ↓opf_256_23, ↓ogf_256_24, ↓ogf_256_25, ↓opf_256_25_0, ↓opf_256_25_1, ↓ogf_256_26, ↓opf_256_26, ↓ogf_256_27, ↓opf_256_27, ↓ogf_256_28, ↓opf_256_28, ↓ogf_256_29, ↓ogf_256_30, ↓ogf_256_31, ↓ogf_256_32, ↓ogf_256_33, ↓ogf_256_34, ↓oaz_268, ↓owz_268, e8]
        exact hq
      | true =>
        rw [hC] at e8
        have e8 : rI M2 268 p = nI 1 := e8
        cases hF : s2.2.1 p q with
        | none =>
          rw [hF] at hq
          simp (decide := true) (disch := first | assumption | omega) only [zi_Model_known_18, zi_Model_known_19, zi_Model_known_22, zi_Model_known_23, zi_Model_known_24, zi_Model_known_27, zi_Model_known_28, zi_Model_known_31, zi_Model_known_32, zi_Model_known_33, zi_Model_known_34, zi_Model_known_37, zi_Model_known_40, zi_Model_known_41, zi_Model_known_44, zi_Model_known_45, zi_Model_value_7, zi_Model_value_8, zi_Model_value_11, zi_Model_value_12, zi_Model_value_13, zi_Model_value_14, zi_Model_value_17, zi_Model_value_20, zi_Model_value_21, ↓reduceIte, mj_op_s, Option.toList_some, Option.toList_none, List.cons_append, List.nil_append, hp_1, hp_2, true_and, and_true, zb_0, zb_1, zb_b, va_rf, io_256, ↓ogf_256_0, ↓opf_256_0, ↓ogf_256_1, ↓ogf_256_2, ↓ogf_256_3, ↓ogf_256_4, ↓opf_256_4, ↓ogf_256_5, ↓ogf_256_6, ↓ogf_256_7, ↓opf_256_7, ↓ogf_256_8, ↓opf_256_8, ↓ogf_256_9, ↓opf_256_9, ↓ogf_256_10, ↓opf_256_10, ↓ogf_256_11, ↓ogf_256_12, ↓ogf_256_13, ↓ogf_256_14, ↓ogf_256_15, ↓ogf_256_16, ↓ogf_256_17, ↓opf_256_17, ↓ogf_256_18, ↓opf_256_18, ↓ogf_256_19, ↓ogf_256_20, ↓ogf_256_21, ↓ogf_256_22, ↓opf_256_22_0, ↓opf_256_22_1, ↓ogf_256_23, ↓opf_256_23, ↓ogf_256_24, ↓ogf_256_25, ↓opf_256_25_0, ↓opf_256_25_1, ↓ogf_256_26, ↓opf_256_26, ↓ogf_256_27, ↓opf_256_27, ↓ogf_256_28, ↓opf_256_28, ↓ogf_256_29, ↓ogf_256_30, ↓ogf_256_31, ↓ogf_256_32, ↓ogf_256_33, ↓ogf_256_34, ↓oaz_268, ↓owz_268, e8, c_Model_knows hT2 hp51 hq0, hF, Option.isSome_none, b1_f]
          exact hq
        | some w =>
          rw [hF] at hq
          have ev := hT2.2.2.1 p q hp51 hq0 w hF
          simp (decide := true) (disch := first | assumption | omega) only [zi_Model_known_18, zi_Model_known_19, zi_Model_known_22, zi_Model_known_23, zi_Model_known_24, zi_Model_known_27, zi_Model_known_28, zi_Model_known_31, zi_Model_known_32, zi_Model_known_33, zi_Model_known_34, zi_Model_known_37, zi_Model_known_40, zi_Model_known_41, zi_Model_known_44, zi_Model_known_45, zi_Model_value_7, zi_Model_value_8, zi_Model_value_11, zi_Model_value_12, zi_Model_value_13, zi_Model_value_14, zi_Model_value_17, zi_Model_value_20, zi_Model_value_21, ↓reduceIte, mj_op_s, Option.toList_some, Option.toList_none, List.cons_append, List.nil_append, hp_1, hp_2, true_and, and_true, zb_0, zb_1, zb_b, va_rf, io_256, ↓ogf_256_0, ↓opf_256_0, ↓ogf_256_1, ↓ogf_256_2, ↓ogf_256_3, ↓ogf_256_4, ↓opf_256_4, ↓ogf_256_5, ↓ogf_256_6, ↓ogf_256_7, ↓opf_256_7, ↓ogf_256_8, ↓opf_256_8, ↓ogf_256_9, ↓opf_256_9, ↓ogf_256_10, ↓opf_256_10, ↓ogf_256_11, ↓ogf_256_12, ↓ogf_256_13, ↓ogf_256_14, ↓ogf_256_15, ↓ogf_256_16, ↓ogf_256_17, ↓opf_256_17, ↓ogf_256_18, ↓opf_256_18, ↓ogf_256_19, ↓ogf_256_20, ↓ogf_256_21, ↓ogf_256_22, ↓opf_256_22_0, ↓opf_256_22_1, ↓ogf_256_23, ↓opf_256_23, ↓ogf_256_24, ↓ogf_256_25, ↓opf_256_25_0, ↓opf_256_25_1, ↓ogf_256_26, ↓opf_256_26, ↓ogf_256_27, ↓opf_256_27, ↓ogf_256_28, ↓opf_256_28, ↓ogf_256_29, ↓ogf_256_30, ↓ogf_256_31, ↓ogf_256_32, ↓ogf_256_33, ↓ogf_256_34, ↓oaz_268, ↓owz_268, e8, c_Model_knows hT2 hp51 hq0, c_Model_as hp51 hq0, ev, hF, Option.isSome_some, b1_t]
          exact hq
    cases hF : s.2.1 p q with
    | none =>
      rw [hF] at hmod
      simp (decide := true) (disch := first | assumption | omega) only [zi_Court_value_25, zi_Court_value_26, zi_Court_value_29, zi_Court_value_30, zi_Court_value_31, zi_Court_value_34, zi_Court_value_37, zi_Court_value_38, zi_Court_value_41, zi_Court_value_42, zi_Court_value_43, zi_Court_value_46, zi_Court_value_49, zi_Court_value_50, ↓reduceIte, mj_op_s, Option.toList_some, Option.toList_none, List.cons_append, List.nil_append, hp_1, hp_2, true_and, and_true, zb_0, zb_1, zb_b, va_rf, io_1, ↓ogf_1_0, ↓ogf_1_1, ↓opf_1_1, ↓ogf_1_2, ↓ogf_1_3, ↓ogf_1_4, ↓ogf_1_5, ↓ogf_1_6, ↓ogf_1_7, io_203, ↓ogf_203_0, ↓ogf_203_1, ↓ogf_203_2, ↓ogf_203_3, ↓ogf_203_4, ↓opf_203_4_0, ↓opf_203_4_1, ↓ogf_203_5, ↓ogf_203_6, g_isKnown hkR hp51 hq0, hF, Option.isSome_none, b1_f]
      exact hend _ _ hv1.2 hmod
    | some w =>
      rw [hF] at hmod
      simp (decide := true) (disch := first | assumption | omega) only [zi_Court_value_25, zi_Court_value_26, zi_Court_value_29, zi_Court_value_30, zi_Court_value_31, zi_Court_value_34, zi_Court_value_37, zi_Court_value_38, zi_Court_value_41, zi_Court_value_42, zi_Court_value_43, zi_Court_value_46, zi_Court_value_49, zi_Court_value_50, ↓reduceIte, mj_op_s, Option.toList_some, Option.toList_none, List.cons_append, List.nil_append, hp_1, hp_2, true_and, and_true, zb_0, zb_1, zb_b, va_rf, io_1, ↓ogf_1_0, ↓ogf_1_1, ↓opf_1_1, ↓ogf_1_2, ↓ogf_1_3, ↓ogf_1_4, ↓ogf_1_5, ↓ogf_1_6, ↓ogf_1_7, io_203, ↓ogf_203_0, ↓ogf_203_1, ↓ogf_203_2, ↓ogf_203_3, ↓ogf_203_4, ↓opf_203_4_0, ↓opf_203_4_1, ↓ogf_203_5, ↓ogf_203_6, g_isKnown hkR hp51 hq0, g_numberIn hkR hp51 hq0, hF, Option.isSome_some, b1_t]
      exact hend _ _ hv1.2 hmod
  · simp (decide := true) (disch := first | assumption | omega) only [zi_Court_value_0, zi_Court_value_1, zi_Court_value_2, zi_Court_value_3, zi_Court_value_4, zi_Court_value_7, zi_Court_value_7n, zi_Court_value_9, zi_Court_value_9n, zi_Court_value_11, zi_Court_value_11n, zi_Court_value_14, zi_Court_value_15, ↓reduceIte, mj_op_s, Option.toList_some, Option.toList_none, List.cons_append, List.nil_append, hp_1, hp_2, true_and, and_true, zb_0, zb_1, zb_b, va_rf, io_rt, ↓ogf_rt_0, ↓ogf_rt_1, ↓ogf_rt_2, ↓ogf_rt_3, ↓ogf_rt_4, ↓oai_rt_0, ↓oai_rt_1, ↓oai_rt_2, ↓oai_rt_3, ↓owi_rt_0, ↓owi_rt_1, ↓owi_rt_2, ↓owi_rt_3, ↓opf_rt, io_1, ↓ogf_1_0, ↓ogf_1_1, ↓opf_1_1, ↓ogf_1_2, ↓ogf_1_3, ↓ogf_1_4, ↓ogf_1_5, ↓ogf_1_6, ↓ogf_1_7, io_203, ↓ogf_203_0, ↓ogf_203_1, ↓ogf_203_2, ↓ogf_203_3, ↓ogf_203_4, ↓opf_203_4_0, ↓opf_203_4_1, ↓ogf_203_5, ↓ogf_203_6, g_findWith_no hc.1 oS h]
    refine hend M _ rfl (JH_same hI (fun lim Q2 hq => ?_))
    simp (decide := true) (disch := first | assumption | omega) only [zi_Model_value_0, zi_Model_value_1, zi_Model_value_2, zi_Model_value_3, zi_Model_value_4, zi_Model_value_7, zi_Model_value_8, zi_Model_value_11, zi_Model_value_12, zi_Model_value_13, zi_Model_value_14, zi_Model_value_17, zi_Model_value_20, zi_Model_value_21, zi_Model_known_0, zi_Model_known_1, zi_Model_known_2, zi_Model_known_3, zi_Model_known_4, zi_Model_known_7, zi_Model_known_10, zi_Model_known_12, ↓reduceIte, mj_op_s, Option.toList_some, Option.toList_none, List.cons_append, List.nil_append, hp_1, hp_2, true_and, and_true, zb_0, zb_1, zb_b, va_rf, io_256, ↓ogf_256_0, ↓opf_256_0, ↓ogf_256_1, ↓ogf_256_2, ↓ogf_256_3, ↓ogf_256_4, ↓opf_256_4, ↓ogf_256_5, ↓ogf_256_6, ↓ogf_256_7, ↓opf_256_7, ↓ogf_256_8, ↓opf_256_8, ↓ogf_256_9, ↓opf_256_9, ↓ogf_256_10, ↓opf_256_10, ↓ogf_256_11, ↓ogf_256_12, ↓ogf_256_13, ↓ogf_256_14, ↓ogf_256_15, ↓ogf_256_16, ↓ogf_256_17, ↓opf_256_17, ↓ogf_256_18, ↓opf_256_18, ↓ogf_256_19, ↓ogf_256_20, ↓ogf_256_21, ↓ogf_256_22, ↓opf_256_22_0, ↓opf_256_22_1, ↓ogf_256_23, ↓opf_256_23, ↓ogf_256_24, ↓ogf_256_25, ↓opf_256_25_0, ↓opf_256_25_1, ↓ogf_256_26, ↓opf_256_26, ↓ogf_256_27, ↓opf_256_27, ↓ogf_256_28, ↓opf_256_28, ↓ogf_256_29, ↓ogf_256_30, ↓ogf_256_31, ↓ogf_256_32, ↓ogf_256_33, ↓ogf_256_34, g_isPlace_no hm.1 oS h]
    exact hq
theorem J_live (hI : Inv M) {x1 x2 x3 : Int32} (hend : ∀ M1 (u : Int32), M1.2.2.2 = M.2.2.2 → JH d M mq_Model_live [.ref 256, .int x1, .int x2, .int x3] (.int u) M1 → Q (some (.int u)) (hp M1)) : mj_V (d + 8) lim mq_Court_live 0 [.ref 1, .int x1, .int x2, .int x3, mj_j] [] (hp M) Q := by
  obtain ⟨nr, R, fed, fd, rg, gv, ot, dn, pl, W, fy, oS, oF, oW, hc, hm⟩ := hI
  have hI : Inv M := ⟨nr, R, fed, fd, rg, gv, ot, dn, pl, W, fy, oS, oF, oW, hc, hm⟩
  have hn := oS.1
  by_cases h : ∃ r p q, r < nr ∧ p ≤ (R r).1 ∧ q < 8 ∧ x1 = nI r ∧ x2 = nI p ∧ x3 = nI q
  · obtain ⟨r, p, q, hr, hp0, hq0, rfl, rfl, rfl⟩ := h
    have rt := rt_n (show r < 40 by omega)
    have hok := oS.2 r hr
    have h50 := hok.1
    have hp51 : p < 51 := by omega
    have hr4 : r < 44 := by omega
    simp (decide := true) (disch := first | assumption | omega) only [zi_Court_live_0, zi_Court_live_1, zi_Court_live_2, zi_Court_live_3, zi_Court_live_4, zi_Court_live_7, zi_Court_live_7n, zi_Court_live_9, zi_Court_live_9n, zi_Court_live_11, zi_Court_live_11n, zi_Court_live_14, zi_Court_live_16, zi_Court_live_17, zi_Court_live_18, zi_Court_live_21, zi_Court_live_21n, zi_Court_live_23, ↓reduceIte, mj_op_s, Option.toList_some, Option.toList_none, List.cons_append, List.nil_append, hp_1, hp_2, true_and, and_true, zb_0, zb_1, zb_b, va_rf, io_rt, ↓ogf_rt_0, ↓ogf_rt_1, ↓ogf_rt_2, ↓ogf_rt_3, ↓ogf_rt_4, ↓oai_rt_0, ↓oai_rt_1, ↓oai_rt_2, ↓oai_rt_3, ↓owi_rt_0, ↓owi_rt_1, ↓owi_rt_2, ↓owi_rt_3, ↓opf_rt, io_1, ↓ogf_1_0, ↓ogf_1_1, ↓opf_1_1, ↓ogf_1_2, ↓ogf_1_3, ↓ogf_1_4, ↓ogf_1_5, ↓ogf_1_6, ↓ogf_1_7, io_210, ↓ogf_210_0, g_findWith hc.1 oS hr hp0 hq0]
    refine c_Liveness_study (d := d + 4) rt (hc.1.2.1 r hr) hok (fun m hmm hL => ?_)
    have hv1 : sv (fun i _ => i = 211) M (mskM M m) := ⟨fun i k hi => ⟨mk_Io hi, rfl, rfl⟩, rfl⟩
    have hc1 := c_sd hv1 (fun i k h => by omega) hn hc
    have hm1 := m_lo hv1 (fun i k h => by omega) hm
    have e4 : rI (mskM M m) 211 p = nI (m p) := by rw [mk_I, if_pos ⟨rfl, hp51⟩]
    have hmod : JH d M mq_Model_live [.ref 256, .int (nI r), .int (nI p), .int (nI q)] (.int (b1 ((m p).testBit q))) (mskM M m) := by
      intro lim Q2 hq
      simp (decide := true) (disch := first | assumption | omega) only [zi_Model_live_0, zi_Model_live_1, zi_Model_live_2, zi_Model_live_3, zi_Model_live_4, zi_Model_live_7, zi_Model_live_10, zi_Model_live_12, zi_Model_live_13, zi_Model_live_14, zi_Model_live_15, ↓reduceIte, mj_op_s, Option.toList_some, Option.toList_none, List.cons_append, List.nil_append, hp_1, hp_2, true_and, and_true, zb_0, zb_1, zb_b, va_rf, io_256, ↓ogf_256_0, ↓opf_256_0, ↓ogf_256_1, ↓ogf_256_2, ↓ogf_256_3, ↓ogf_256_4, ↓opf_256_4, ↓ogf_256_5, ↓ogf_256_6, ↓ogf_256_7, ↓opf_256_7, ↓ogf_256_8, ↓opf_256_8, ↓ogf_256_9, ↓opf_256_9, ↓ogf_256_10, ↓opf_256_10, ↓ogf_256_11, ↓ogf_256_12, ↓ogf_256_13, ↓ogf_256_14, ↓ogf_256_15, ↓ogf_256_16, ↓ogf_256_17, ↓opf_256_17, ↓ogf_256_18, ↓opf_256_18, ↓ogf_256_19, ↓ogf_256_20, ↓ogf_256_21, ↓ogf_256_22, ↓opf_256_22_0, ↓opf_256_22_1, ↓ogf_256_23, ↓opf_256_23, ↓ogf_256_24, ↓ogf_256_25, ↓opf_256_25_0, ↓opf_256_25_1, ↓ogf_256_26, ↓opf_256_26, ↓ogf_256_27, ↓opf_256_27, ↓ogf_256_28, ↓opf_256_28, ↓ogf_256_29, ↓ogf_256_30, ↓ogf_256_31, ↓ogf_256_32, ↓ogf_256_33, ↓ogf_256_34, g_isPlace hm1.1 oS hr hp0 hq0]
      refine c_Model_livens (d := d + 5) hr4 (hm1.1.2.1 r hr) hok (fun S hS => ?_)
      have k1 : (m p).testBit q = S p q := lvL_one hL hS hp0 hq0
      have hv2 : sv (fun i _ => i = 271) (mskM M m) (livM (mskM M m) S) := ⟨fun i k hi => ⟨li_Io hi, rfl, rfl⟩, rfl⟩
      have e5 : rI (livM (mskM M m) S) 271 (8 * p + q) = b1 (S p q) := li_Im hp51 hq0
      obtain ⟨n1, n2, n3, n4, n5⟩ := hm1
      have hI2 : Inv (livM (mskM M m) S) := ⟨nr, R, fed, fd, rg, gv, ot, dn, pl, W, fy, oS, oF, oW, c_hi hv2 (fun i k h => by omega) hn hc1, ⟨mR_sv hv2 (fun i k z p => by omega) n1, mF_sv hv2 (fun i k z p => by omega) n2, mG_sv hv2 (fun i k z p => by omega) n3, hasV_sv hv2 (fun i k z y p => by omega) (fun p => by omega) n4, mJ_sv hv2 (fun i k z p => by omega) n5⟩⟩
      have hq := hq _ hv2.2 hI2
      rw [k1] at hq
      cases hS2 : S p q with
      | true =>
        rw [hS2] at hq e5
        have e5 : rI (livM (mskM M m) S) 271 (8 * p + q) = nI 1 := e5
        simp (decide := true) (disch := first | assumption | omega) only [zi_Model_live_18, zi_Model_live_19, zi_Model_live_22, zi_Model_live_24, zi_Model_live_25, zi_Model_live_26, zi_Model_live_27, zi_Model_live_28, zi_Model_live_29, zi_Model_live_32, zi_Model_live_33, zi_Model_live_36, zi_Model_live_37, ↓reduceIte, mj_op_s, Option.toList_some, Option.toList_none, List.cons_append, List.nil_append, hp_1, hp_2, true_and, and_true, zb_0, zb_1, zb_b, va_rf, io_256, ↓ogf_256_0, ↓opf_256_0, ↓ogf_256_1, ↓ogf_256_2, ↓ogf_256_3, ↓ogf_256_4, ↓opf_256_4, ↓ogf_256_5, ↓ogf_256_6, ↓ogf_256_7, ↓opf_256_7, ↓ogf_256_8, ↓opf_256_8, ↓ogf_256_9, ↓opf_256_9, ↓ogf_256_10, ↓opf_256_10, ↓ogf_256_11, ↓ogf_256_12, ↓ogf_256_13, ↓ogf_256_14, ↓ogf_256_15, ↓ogf_256_16, ↓ogf_256_17, ↓opf_256_17, ↓ogf_256_18, ↓opf_256_18, ↓ogf_256_19, ↓ogf_256_20, ↓ogf_256_21, ↓ogf_256_22, ↓opf_256_22_0, ↓opf_256_22_1, ↓ogf_256_23, ↓opf_256_23, ↓ogf_256_24, ↓ogf_256_25, ↓opf_256_25_0, ↓opf_256_25_1, ↓ogf_256_26, ↓opf_256_26, ↓ogf_256_27, ↓opf_256_27, ↓ogf_256_28, ↓opf_256_28, ↓ogf_256_29, ↓ogf_256_30, ↓ogf_256_31, ↓ogf_256_32, ↓ogf_256_33, ↓ogf_256_34, ↓oaz_271, ↓owz_271, pk_mul, nI_add, e5]
        exact hq
      | false =>
        rw [hS2] at hq e5
        have e5 : rI (livM (mskM M m) S) 271 (8 * p + q) = nI 0 := e5
        simp (decide := true) (disch := first | assumption | omega) only [zi_Model_live_18, zi_Model_live_19, zi_Model_live_22, zi_Model_live_24, zi_Model_live_25, zi_Model_live_26, zi_Model_live_27, zi_Model_live_28, zi_Model_live_29, zi_Model_live_32, zi_Model_live_33, zi_Model_live_36, zi_Model_live_37, ↓reduceIte, mj_op_s, Option.toList_some, Option.toList_none, List.cons_append, List.nil_append, hp_1, hp_2, true_and, and_true, zb_0, zb_1, zb_b, va_rf, io_256, ↓ogf_256_0, ↓opf_256_0, ↓ogf_256_1, ↓ogf_256_2, ↓ogf_256_3, ↓ogf_256_4, ↓opf_256_4, ↓ogf_256_5, ↓ogf_256_6, ↓ogf_256_7, ↓opf_256_7, ↓ogf_256_8, ↓opf_256_8, ↓ogf_256_9, ↓opf_256_9, ↓ogf_256_10, ↓opf_256_10, ↓ogf_256_11, ↓ogf_256_12, ↓ogf_256_13, ↓ogf_256_14, ↓ogf_256_15, ↓ogf_256_16, ↓ogf_256_17, ↓opf_256_17, ↓ogf_256_18, ↓opf_256_18, ↓ogf_256_19, ↓ogf_256_20, ↓ogf_256_21, ↓ogf_256_22, ↓opf_256_22_0, ↓opf_256_22_1, ↓ogf_256_23, ↓opf_256_23, ↓ogf_256_24, ↓ogf_256_25, ↓opf_256_25_0, ↓opf_256_25_1, ↓ogf_256_26, ↓opf_256_26, ↓ogf_256_27, ↓opf_256_27, ↓ogf_256_28, ↓opf_256_28, ↓ogf_256_29, ↓ogf_256_30, ↓ogf_256_31, ↓ogf_256_32, ↓ogf_256_33, ↓ogf_256_34, ↓oaz_271, ↓owz_271, pk_mul, nI_add, e5]
        exact hq
    by_cases hb : (m p).testBit q = true
    · rw [hb] at hmod
      have hb1 := bI_t hb
      simp (decide := true) (disch := first | assumption | omega) only [zi_Court_live_26, zi_Court_live_27, zi_Court_live_30, zi_Court_live_31, zi_Court_live_32, zi_Court_live_35, zi_Court_live_38, zi_Court_live_39, zi_Court_live_42, zi_Court_live_43, ↓reduceIte, mj_op_s, Option.toList_some, Option.toList_none, List.cons_append, List.nil_append, hp_1, hp_2, true_and, and_true, zb_0, zb_1, zb_b, va_rf, io_1, ↓ogf_1_0, ↓ogf_1_1, ↓opf_1_1, ↓ogf_1_2, ↓ogf_1_3, ↓ogf_1_4, ↓ogf_1_5, ↓ogf_1_6, ↓ogf_1_7, io_210, ↓ogf_210_0, c_Liveness_isLive hp51 hq0 (hmm p) e4, hb1]
      exact hend _ _ hv1.2 hmod
    · have hb0 : (m p).testBit q = false := by simpa using hb
      rw [hb0] at hmod
      have hb1 := bI_f hb
      simp (decide := true) (disch := first | assumption | omega) only [zi_Court_live_26, zi_Court_live_27, zi_Court_live_30, zi_Court_live_31, zi_Court_live_32, zi_Court_live_35, zi_Court_live_38, zi_Court_live_39, zi_Court_live_42, zi_Court_live_43, ↓reduceIte, mj_op_s, Option.toList_some, Option.toList_none, List.cons_append, List.nil_append, hp_1, hp_2, true_and, and_true, zb_0, zb_1, zb_b, va_rf, io_1, ↓ogf_1_0, ↓ogf_1_1, ↓opf_1_1, ↓ogf_1_2, ↓ogf_1_3, ↓ogf_1_4, ↓ogf_1_5, ↓ogf_1_6, ↓ogf_1_7, io_210, ↓ogf_210_0, c_Liveness_isLive hp51 hq0 (hmm p) e4, hb1]
      exact hend _ _ hv1.2 hmod
  · simp (decide := true) (disch := first | assumption | omega) only [zi_Court_live_0, zi_Court_live_1, zi_Court_live_2, zi_Court_live_3, zi_Court_live_4, zi_Court_live_7, zi_Court_live_7n, zi_Court_live_9, zi_Court_live_9n, zi_Court_live_11, zi_Court_live_11n, zi_Court_live_14, zi_Court_live_16, ↓reduceIte, mj_op_s, Option.toList_some, Option.toList_none, List.cons_append, List.nil_append, hp_1, hp_2, true_and, and_true, zb_0, zb_1, zb_b, va_rf, io_rt, ↓ogf_rt_0, ↓ogf_rt_1, ↓ogf_rt_2, ↓ogf_rt_3, ↓ogf_rt_4, ↓oai_rt_0, ↓oai_rt_1, ↓oai_rt_2, ↓oai_rt_3, ↓owi_rt_0, ↓owi_rt_1, ↓owi_rt_2, ↓owi_rt_3, ↓opf_rt, io_1, ↓ogf_1_0, ↓ogf_1_1, ↓opf_1_1, ↓ogf_1_2, ↓ogf_1_3, ↓ogf_1_4, ↓ogf_1_5, ↓ogf_1_6, ↓ogf_1_7, io_210, ↓ogf_210_0, g_findWith_no hc.1 oS h]
    refine hend M _ rfl (JH_same hI (fun lim Q2 hq => ?_))
    simp (decide := true) (disch := first | assumption | omega) only [zi_Model_live_0, zi_Model_live_1, zi_Model_live_2, zi_Model_live_3, zi_Model_live_4, zi_Model_live_7, zi_Model_live_10, zi_Model_live_12, ↓reduceIte, mj_op_s, Option.toList_some, Option.toList_none, List.cons_append, List.nil_append, hp_1, hp_2, true_and, and_true, zb_0, zb_1, zb_b, va_rf, io_256, ↓ogf_256_0, ↓opf_256_0, ↓ogf_256_1, ↓ogf_256_2, ↓ogf_256_3, ↓ogf_256_4, ↓opf_256_4, ↓ogf_256_5, ↓ogf_256_6, ↓ogf_256_7, ↓opf_256_7, ↓ogf_256_8, ↓opf_256_8, ↓ogf_256_9, ↓opf_256_9, ↓ogf_256_10, ↓opf_256_10, ↓ogf_256_11, ↓ogf_256_12, ↓ogf_256_13, ↓ogf_256_14, ↓ogf_256_15, ↓ogf_256_16, ↓ogf_256_17, ↓opf_256_17, ↓ogf_256_18, ↓opf_256_18, ↓ogf_256_19, ↓ogf_256_20, ↓ogf_256_21, ↓ogf_256_22, ↓opf_256_22_0, ↓opf_256_22_1, ↓ogf_256_23, ↓opf_256_23, ↓ogf_256_24, ↓ogf_256_25, ↓opf_256_25_0, ↓opf_256_25_1, ↓ogf_256_26, ↓opf_256_26, ↓ogf_256_27, ↓opf_256_27, ↓ogf_256_28, ↓opf_256_28, ↓ogf_256_29, ↓ogf_256_30, ↓ogf_256_31, ↓ogf_256_32, ↓ogf_256_33, ↓ogf_256_34, g_isPlace_no hm.1 oS h]
    exact hq
end C9J
