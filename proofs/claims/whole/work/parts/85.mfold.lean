/-! Model: fold, drop -/
abbrev dsP (t : Nat) (wf : Bool) (i k : Nat) : Prop := mrP t i k ∨ kmP i k ∨ i = 271 ∨ i = 256 ∧ k = 26 ∨ mwP wf i k
abbrev fmP (t i k : Nat) : Prop := mrP t i k ∨ i = 256 ∧ k = 23
def wsR (x : WR) (r c : Nat) (v : Int64) : WR := (x.1, x.2.1, x.2.2.1, x.2.2.2.1, fun q => if q = r then c else x.2.2.2.2.1 q, fun q => if q = r then v else x.2.2.2.2.2 q)
def wset (W : WS) (i r c : Nat) (v : Int64) : WS := (W.1, fun k => if k = i then wsR (W.2 i) r c v else W.2 k)
section C85
variable {d : Nat} {lim : Nat × Nat} {Q : mj_Q} {M M' : mm} {t len p q j r n w : Nat} {A B : AA} {C : Nat → Bool} {F : KF} {S : Nat → Nat → Bool} {W : WS} {x : WR} {wf : Bool} {s : KS} {sw : Bool} {bh : Int64} {D : Nat → Nat → Bool}
theorem nI_sub1 {n : Nat} : nI (n + 1) - nI 1 = nI n := nI_pred n
theorem kmS_sv {P : Nat → Nat → Prop} (h : sv P M M') (hP : ∀ i k, kmP i k → ¬ P i k) (hS : kmS M C D F sw bh) : kmS M' C D F sw bh := by
  refine ⟨fun p hp0 => (sv_I h (hP _ _ (by unfold kmP; omega))).trans (hS.1 p hp0), fun p r hp0 hr => (sv_I h (hP _ _ (by unfold kmP; omega))).trans (hS.2.1 p r hp0 hr), fun p r hp0 hr v hv => (sv_L h (hP _ _ (by unfold kmP; omega))).trans (hS.2.2.1 p r hp0 hr v hv), (sv_I h (hP _ _ (by unfold kmP; omega))).trans hS.2.2.2.1, (sv_L h (hP _ _ (by unfold kmP; omega))).trans hS.2.2.2.2⟩
theorem kmS_b (hS : kmS M C D F sw bh) {v : Int64} : kmS (wL M 256 23 v) C D F sw v := ⟨hS.1, hS.2.1, fun p r hp0 hr u h => by rw [rL_wL, if_neg (by omega)]; exact hS.2.2.1 p r hp0 hr u h, hS.2.2.2.1, by rw [rL_wL, if_pos ⟨rfl, rfl⟩]⟩
theorem mr_km : ∀ i k, kmP i k → ¬ mrP t i k := fun i k h => by unfold kmP at h; unfold mrP; omega
theorem mw_km : ∀ i k, kmP i k → ¬ mwP wf i k := fun i k h => by unfold kmP at h; unfold mwP; omega
theorem fm_M {r2 : Nat} (h : sv (fmP t) M M') (hne : r2 ≠ t) (h50 : len ≤ 50) (hR : hasM M r2 len A) : hasM M' r2 len A := ⟨(sv_I h (by unfold fmP mrP; omega)).trans hR.1, fun p hp0 j hj => (sv_I h (by unfold fmP mrP; omega)).trans (hR.2 p hp0 j hj)⟩
theorem mw_M {r2 : Nat} (h : sv (mwP wf) M M') (hR : hasM M r2 len A) : hasM M' r2 len A := ⟨(sv_I h (by unfold mwP; omega)).trans hR.1, fun p hp0 j hj => (sv_I h (by unfold mwP; omega)).trans (hR.2 p hp0 j hj)⟩
theorem mx_eM (h : hasM M r len (mxA B A len)) : hasM M r len B := hasM_cong h (fun q hq j _ => by
  unfold mxA
  rw [if_pos hq])
theorem cM_iff {a : Int32} : (a = nI 2 ∨ (¬ a < nI 3 ∧ ¬ nI 9 < a)) ↔ (¬ a < nI 2 ∧ ¬ nI 9 < a) := by
  simp only [Int32.lt_iff_toInt_lt, ← Int32.toInt_inj, show (nI 2).toInt = 2 from by decide, show (nI 3).toInt = 3 from by decide, show (nI 9).toInt = 9 from by decide]
  omega
theorem l_mfold_step (hr : r < 44) (ht : t < 44) (hne : r ≠ t) (hR : hasM M r len A) (hok : okR len A) (hp0 : p < len) (hS : kmT M s bh) (hC : s.1 p = true) (hB : hasM M t len B) (hBp : ∀ j, j < 4 → B p j = A p j) {x4 x5 : Value} (hend : ∀ M' bh2 y4 y5, sv (fmP t) M M' → kmT M' s bh2 → hasM M' t len (fun q j => if q = p then fdA A s.1 s.2.1 p j else B q j) → mj_V (d + 3) lim mq_Model_fold 165 [.ref 256, .int (nI r), .int (nI t), .int (nI p), y4, y5] [] (hp M') Q) : mj_V (d + 3) lim mq_Model_fold 35 [.ref 256, .int (nI r), .int (nI t), .int (nI p), x4, x5] [] (hp M) Q := by
  have h50 := hok.1
  have q0 := hR.2 p hp0 0 (by omega)
  have q1 := hR.2 p hp0 1 (by omega)
  have q2 := hR.2 p hp0 2 (by omega)
  obtain ⟨g1, g2, g3, g4, g5, g6, g7⟩ := okA_rn (hok.2 p hp0)
  have hp50 : p < 50 := by omega
  have hp51 : p < 51 := by omega
  have hput : ∀ M1 bh2 a x y z y4 y5, sv (fmP t) M M1 → kmT M1 s bh2 → hasM M1 t len B → (∀ j, j < 4 → fdA A s.1 s.2.1 p j = acA a x y z j) → mj_V (d + 3) lim mq_Model_fold 165 [.ref 256, .int (nI r), .int (nI t), .int (nI p), y4, y5] [] (hp (puM M1 t p a x y z)) Q := by
    intro M1 bh2 a x y z y4 y5 hv hT hB1 he
    refine hend _ bh2 _ _ (sv_trans hv (sv_mono (sv_puM hp50) (fun i k h => Or.inl h))) (kmS_sv (sv_puM hp50) mr_km hT) (hasM_cong (hasM_pu hB1) (fun q hq j hj => ?_))
    unfold upA
    by_cases e : q = p
    · rw [if_pos e, if_pos e]; exact (he j hj).symm
    · rw [if_neg e, if_neg e]
  have hno : ∀ M1 bh2 y4 y5, sv (fmP t) M M1 → kmT M1 s bh2 → hasM M1 t len B → (∀ j, j < 4 → fdA A s.1 s.2.1 p j = A p j) → mj_V (d + 3) lim mq_Model_fold 165 [.ref 256, .int (nI r), .int (nI t), .int (nI p), y4, y5] [] (hp M1) Q := by
    intro M1 bh2 y4 y5 hv hT hB1 he
    refine hend _ bh2 _ _ hv hT (hasM_cong hB1 (fun q hq j hj => ?_))
    by_cases e : q = p
    · rw [if_pos e, e, he j hj]; exact hBp j hj
    · rw [if_neg e]
  by_cases c13 : A p 0 = nI 13
  · obtain ⟨l, hl, e⟩ := g5 c13
    rw [e] at q1
    rw [c13] at q0
    cases hF : s.2.1 p l with
    | none =>
      simp (decide := true) (disch := first | assumption | omega) only [zi_Model_fold_35, zi_Model_fold_36, zi_Model_fold_37, zi_Model_fold_38, zi_Model_fold_41, zi_Model_fold_43, zi_Model_fold_44, zi_Model_fold_45, zi_Model_fold_46, zi_Model_fold_47, zi_Model_fold_50, zi_Model_fold_52, zi_Model_fold_54, zi_Model_fold_56, zi_Model_fold_59, zi_Model_fold_60, zi_Model_fold_61, zi_Model_fold_63, zi_Model_fold_66, zi_Model_fold_69, zi_Model_fold_70, zi_Model_fold_71, zi_Model_fold_73, zi_Model_fold_76, zi_Model_fold_77, zi_Model_fold_78, zi_Model_fold_81, zi_Model_fold_82, zi_Model_fold_83, zi_Model_fold_84, zi_Model_fold_86, zi_Model_fold_87, zi_Model_fold_88, zi_Model_fold_89, zi_Model_fold_90, zi_Model_fold_91, zi_Model_fold_94, zi_Model_fold_95, zi_Model_fold_98, zi_Model_fold_101, zi_Model_fold_102, zi_Model_fold_103, zi_Model_fold_104, zi_Model_fold_105, zi_Model_fold_106, zi_Model_fold_107, zi_Model_fold_108, zi_Model_fold_111, zi_Model_fold_114, zi_Model_fold_116, zi_Model_fold_117, zi_Model_fold_120, zi_Model_fold_122, zi_Model_fold_124, ↓reduceIte, mj_op_s, Option.toList_some, Option.toList_none, List.cons_append, List.nil_append, hp_1, hp_2, true_and, and_true, zb_0, zb_1, zb_b, va_rf, io_256, ↓ogf_256_0, ↓opf_256_0, ↓ogf_256_1, ↓ogf_256_2, ↓ogf_256_3, ↓ogf_256_4, ↓opf_256_4, ↓ogf_256_5, ↓ogf_256_6, ↓ogf_256_7, ↓opf_256_7, ↓ogf_256_8, ↓opf_256_8, ↓ogf_256_9, ↓opf_256_9, ↓ogf_256_10, ↓opf_256_10, ↓ogf_256_11, ↓ogf_256_12, ↓ogf_256_13, ↓ogf_256_14, ↓ogf_256_15, ↓ogf_256_16, ↓ogf_256_17, ↓opf_256_17, ↓ogf_256_18, ↓opf_256_18, ↓ogf_256_19, ↓ogf_256_20, ↓ogf_256_21, ↓ogf_256_22, ↓opf_256_22_0, ↓opf_256_22_1, ↓ogf_256_23, ↓opf_256_23, ↓ogf_256_24, ↓ogf_256_25, ↓opf_256_25_0, ↓opf_256_25_1, ↓ogf_256_26, ↓opf_256_26, ↓ogf_256_27, ↓opf_256_27, ↓ogf_256_28, ↓opf_256_28, ↓ogf_256_29, ↓ogf_256_30, ↓ogf_256_31, ↓ogf_256_32, ↓ogf_256_33, ↓ogf_256_34, c_Model_kind, c_Model_num, q0, q1, c_Model_knows hS hp51 hl, hF, Option.isSome_none, b1_f]
      refine hno M bh _ _ sv_refl hS hB (fun j hj => ?_)
      unfold fdA
      rw [if_pos hC, if_pos c13, e, cz_n (by omega), hF]
    | some v =>
      have hv := hS.2.2.1 p l hp51 hl v hF
      by_cases cv : v = 0
      · subst cv
        simp (decide := true) (disch := first | assumption | omega) only [zi_Model_fold_35, zi_Model_fold_36, zi_Model_fold_37, zi_Model_fold_38, zi_Model_fold_41, zi_Model_fold_43, zi_Model_fold_44, zi_Model_fold_45, zi_Model_fold_46, zi_Model_fold_47, zi_Model_fold_50, zi_Model_fold_52, zi_Model_fold_54, zi_Model_fold_56, zi_Model_fold_59, zi_Model_fold_60, zi_Model_fold_61, zi_Model_fold_63, zi_Model_fold_66, zi_Model_fold_69, zi_Model_fold_70, zi_Model_fold_71, zi_Model_fold_73, zi_Model_fold_76, zi_Model_fold_77, zi_Model_fold_78, zi_Model_fold_81, zi_Model_fold_82, zi_Model_fold_83, zi_Model_fold_84, zi_Model_fold_86, zi_Model_fold_87, zi_Model_fold_88, zi_Model_fold_89, zi_Model_fold_90, zi_Model_fold_91, zi_Model_fold_94, zi_Model_fold_95, zi_Model_fold_98, zi_Model_fold_101, zi_Model_fold_102, zi_Model_fold_103, zi_Model_fold_104, zi_Model_fold_105, zi_Model_fold_106, zi_Model_fold_107, zi_Model_fold_108, zi_Model_fold_111, ↓reduceIte, mj_op_s, Option.toList_some, Option.toList_none, List.cons_append, List.nil_append, hp_1, hp_2, true_and, and_true, zb_0, zb_1, zb_b, va_rf, io_256, ↓ogf_256_0, ↓opf_256_0, ↓ogf_256_1, ↓ogf_256_2, ↓ogf_256_3, ↓ogf_256_4, ↓opf_256_4, ↓ogf_256_5, ↓ogf_256_6, ↓ogf_256_7, ↓opf_256_7, ↓ogf_256_8, ↓opf_256_8, ↓ogf_256_9, ↓opf_256_9, ↓ogf_256_10, ↓opf_256_10, ↓ogf_256_11, ↓ogf_256_12, ↓ogf_256_13, ↓ogf_256_14, ↓ogf_256_15, ↓ogf_256_16, ↓ogf_256_17, ↓opf_256_17, ↓ogf_256_18, ↓opf_256_18, ↓ogf_256_19, ↓ogf_256_20, ↓ogf_256_21, ↓ogf_256_22, ↓opf_256_22_0, ↓opf_256_22_1, ↓ogf_256_23, ↓opf_256_23, ↓ogf_256_24, ↓ogf_256_25, ↓opf_256_25_0, ↓opf_256_25_1, ↓ogf_256_26, ↓opf_256_26, ↓ogf_256_27, ↓opf_256_27, ↓ogf_256_28, ↓opf_256_28, ↓ogf_256_29, ↓ogf_256_30, ↓ogf_256_31, ↓ogf_256_32, ↓ogf_256_33, ↓ogf_256_34, c_Model_kind, c_Model_num, q0, q1, c_Model_knows hS hp51 hl, c_Model_as hp51 hl, hv, lgc_eq, hF, Option.isSome_some, b1_t, c_Model_put ht hp50]
        refine hput M bh _ _ _ _ _ _ sv_refl hS hB (fun j hj => ?_)
        unfold fdA
        rw [if_pos hC, if_pos c13, e, cz_n (by omega), hF]
        simp
      · simp (decide := true) (disch := first | assumption | omega) only [zi_Model_fold_35, zi_Model_fold_36, zi_Model_fold_37, zi_Model_fold_38, zi_Model_fold_41, zi_Model_fold_43, zi_Model_fold_44, zi_Model_fold_45, zi_Model_fold_46, zi_Model_fold_47, zi_Model_fold_50, zi_Model_fold_52, zi_Model_fold_54, zi_Model_fold_56, zi_Model_fold_59, zi_Model_fold_60, zi_Model_fold_61, zi_Model_fold_63, zi_Model_fold_66, zi_Model_fold_69, zi_Model_fold_70, zi_Model_fold_71, zi_Model_fold_73, zi_Model_fold_76, zi_Model_fold_77, zi_Model_fold_78, zi_Model_fold_81, zi_Model_fold_82, zi_Model_fold_83, zi_Model_fold_84, zi_Model_fold_86, zi_Model_fold_87, zi_Model_fold_88, zi_Model_fold_89, zi_Model_fold_90, zi_Model_fold_91, zi_Model_fold_94, zi_Model_fold_95, zi_Model_fold_98, ↓reduceIte, mj_op_s, Option.toList_some, Option.toList_none, List.cons_append, List.nil_append, hp_1, hp_2, true_and, and_true, zb_0, zb_1, zb_b, va_rf, io_256, ↓ogf_256_0, ↓opf_256_0, ↓ogf_256_1, ↓ogf_256_2, ↓ogf_256_3, ↓ogf_256_4, ↓opf_256_4, ↓ogf_256_5, ↓ogf_256_6, ↓ogf_256_7, ↓opf_256_7, ↓ogf_256_8, ↓opf_256_8, ↓ogf_256_9, ↓opf_256_9, ↓ogf_256_10, ↓opf_256_10, ↓ogf_256_11, ↓ogf_256_12, ↓ogf_256_13, ↓ogf_256_14, ↓ogf_256_15, ↓ogf_256_16, ↓ogf_256_17, ↓opf_256_17, ↓ogf_256_18, ↓opf_256_18, ↓ogf_256_19, ↓ogf_256_20, ↓ogf_256_21, ↓ogf_256_22, ↓opf_256_22_0, ↓opf_256_22_1, ↓ogf_256_23, ↓opf_256_23, ↓ogf_256_24, ↓ogf_256_25, ↓opf_256_25_0, ↓opf_256_25_1, ↓ogf_256_26, ↓opf_256_26, ↓ogf_256_27, ↓opf_256_27, ↓ogf_256_28, ↓opf_256_28, ↓ogf_256_29, ↓ogf_256_30, ↓ogf_256_31, ↓ogf_256_32, ↓ogf_256_33, ↓ogf_256_34, c_Model_kind, c_Model_num, q0, q1, q2, c_Model_knows hS hp51 hl, c_Model_as hp51 hl, hv, lgc_eq, cv, hF, Option.isSome_some, b1_t, c_Model_put ht hp50]
        refine hput M bh _ _ _ _ _ _ sv_refl hS hB (fun j hj => ?_)
        unfold fdA
        rw [if_pos hC, if_pos c13, e, cz_n (by omega), hF]
        simp [cv]
  · by_cases cM : A p 0 = nI 2 ∨ (¬ A p 0 < nI 3 ∧ ¬ nI 9 < A p 0)
    · obtain ⟨c2, c9⟩ := cM_iff.mp cM
      have hfd : ∀ j, fdA A s.1 s.2.1 p j = (match krs A p (s.2.1 p) with
          | some v => if v = v.toInt32.toInt64 then acA (nI 1) (A p 1) v.toInt32 (nI 0) j else A p j
          | none => A p j) := by
        intro j
        unfold fdA
        rw [if_pos hC, if_neg c13, if_pos cM]
        rfl
      cases hk : krs A p (s.2.1 p) with
      | none =>
        rw [hk] at hfd
        simp (decide := true) (disch := first | assumption | omega) only [zi_Model_fold_35, zi_Model_fold_36, zi_Model_fold_37, zi_Model_fold_38, zi_Model_fold_41, zi_Model_fold_43, zi_Model_fold_44, zi_Model_fold_45, zi_Model_fold_46, zi_Model_fold_47, zi_Model_fold_50, zi_Model_fold_52, zi_Model_fold_54, zi_Model_fold_56, zi_Model_fold_59, zi_Model_fold_60, zi_Model_fold_61, zi_Model_fold_63, zi_Model_fold_66, zi_Model_fold_69, zi_Model_fold_70, zi_Model_fold_71, zi_Model_fold_73, zi_Model_fold_76, zi_Model_fold_77, zi_Model_fold_78, zi_Model_fold_81, zi_Model_fold_82, zi_Model_fold_83, zi_Model_fold_84, zi_Model_fold_86, zi_Model_fold_87, zi_Model_fold_88, zi_Model_fold_89, zi_Model_fold_90, zi_Model_fold_91, zi_Model_fold_94, zi_Model_fold_95, zi_Model_fold_98, zi_Model_fold_101, zi_Model_fold_102, zi_Model_fold_103, zi_Model_fold_104, zi_Model_fold_105, zi_Model_fold_106, zi_Model_fold_107, zi_Model_fold_108, zi_Model_fold_111, zi_Model_fold_114, zi_Model_fold_116, zi_Model_fold_117, zi_Model_fold_120, zi_Model_fold_122, zi_Model_fold_124, zi_Model_fold_127, zi_Model_fold_128, zi_Model_fold_129, zi_Model_fold_130, zi_Model_fold_133, ↓reduceIte, mj_op_s, Option.toList_some, Option.toList_none, List.cons_append, List.nil_append, hp_1, hp_2, true_and, and_true, zb_0, zb_1, zb_b, va_rf, io_256, ↓ogf_256_0, ↓opf_256_0, ↓ogf_256_1, ↓ogf_256_2, ↓ogf_256_3, ↓ogf_256_4, ↓opf_256_4, ↓ogf_256_5, ↓ogf_256_6, ↓ogf_256_7, ↓opf_256_7, ↓ogf_256_8, ↓opf_256_8, ↓ogf_256_9, ↓opf_256_9, ↓ogf_256_10, ↓opf_256_10, ↓ogf_256_11, ↓ogf_256_12, ↓ogf_256_13, ↓ogf_256_14, ↓ogf_256_15, ↓ogf_256_16, ↓ogf_256_17, ↓opf_256_17, ↓ogf_256_18, ↓opf_256_18, ↓ogf_256_19, ↓ogf_256_20, ↓ogf_256_21, ↓ogf_256_22, ↓opf_256_22_0, ↓opf_256_22_1, ↓ogf_256_23, ↓opf_256_23, ↓ogf_256_24, ↓ogf_256_25, ↓opf_256_25_0, ↓opf_256_25_1, ↓ogf_256_26, ↓opf_256_26, ↓ogf_256_27, ↓opf_256_27, ↓ogf_256_28, ↓opf_256_28, ↓ogf_256_29, ↓ogf_256_30, ↓ogf_256_31, ↓ogf_256_32, ↓ogf_256_33, ↓ogf_256_34, c_Model_kind, c_Model_num, q0, q1, c13, c2, c9, c_Model_knowsBehind hr hR hok hp0 hS, hk, Option.isSome_none, Option.getD_none, b1_f, wL_id]
        exact hno M bh _ _ sv_refl hS hB (fun j hj => hfd j)
      | some v =>
        rw [hk] at hfd
        have hv1 : sv (fmP t) M (wL M 256 23 v) := sv_wL sv_refl (by unfold fmP; omega)
        have hb : rL (wL M 256 23 v) 256 23 = v := by rw [rL_wL, if_pos ⟨rfl, rfl⟩]
        by_cases cv : v = v.toInt32.toInt64
        · simp (decide := true) (disch := first | assumption | omega) only [zi_Model_fold_35, zi_Model_fold_36, zi_Model_fold_37, zi_Model_fold_38, zi_Model_fold_41, zi_Model_fold_43, zi_Model_fold_44, zi_Model_fold_45, zi_Model_fold_46, zi_Model_fold_47, zi_Model_fold_50, zi_Model_fold_52, zi_Model_fold_54, zi_Model_fold_56, zi_Model_fold_59, zi_Model_fold_60, zi_Model_fold_61, zi_Model_fold_63, zi_Model_fold_66, zi_Model_fold_69, zi_Model_fold_70, zi_Model_fold_71, zi_Model_fold_73, zi_Model_fold_76, zi_Model_fold_77, zi_Model_fold_78, zi_Model_fold_81, zi_Model_fold_82, zi_Model_fold_83, zi_Model_fold_84, zi_Model_fold_86, zi_Model_fold_87, zi_Model_fold_88, zi_Model_fold_89, zi_Model_fold_90, zi_Model_fold_91, zi_Model_fold_94, zi_Model_fold_95, zi_Model_fold_98, zi_Model_fold_101, zi_Model_fold_102, zi_Model_fold_103, zi_Model_fold_104, zi_Model_fold_105, zi_Model_fold_106, zi_Model_fold_107, zi_Model_fold_108, zi_Model_fold_111, zi_Model_fold_114, zi_Model_fold_116, zi_Model_fold_117, zi_Model_fold_120, zi_Model_fold_122, zi_Model_fold_124, zi_Model_fold_127, zi_Model_fold_128, zi_Model_fold_129, zi_Model_fold_130, zi_Model_fold_133, zi_Model_fold_136, zi_Model_fold_137, zi_Model_fold_140, zi_Model_fold_141, zi_Model_fold_144, zi_Model_fold_145, zi_Model_fold_146, zi_Model_fold_147, zi_Model_fold_150, zi_Model_fold_151, zi_Model_fold_152, zi_Model_fold_153, zi_Model_fold_154, zi_Model_fold_156, zi_Model_fold_157, zi_Model_fold_160, zi_Model_fold_161, zi_Model_fold_162, ↓reduceIte, mj_op_s, Option.toList_some, Option.toList_none, List.cons_append, List.nil_append, hp_1, hp_2, true_and, and_true, zb_0, zb_1, zb_b, va_rf, io_256, ↓ogf_256_0, ↓opf_256_0, ↓ogf_256_1, ↓ogf_256_2, ↓ogf_256_3, ↓ogf_256_4, ↓opf_256_4, ↓ogf_256_5, ↓ogf_256_6, ↓ogf_256_7, ↓opf_256_7, ↓ogf_256_8, ↓opf_256_8, ↓ogf_256_9, ↓opf_256_9, ↓ogf_256_10, ↓opf_256_10, ↓ogf_256_11, ↓ogf_256_12, ↓ogf_256_13, ↓ogf_256_14, ↓ogf_256_15, ↓ogf_256_16, ↓ogf_256_17, ↓opf_256_17, ↓ogf_256_18, ↓opf_256_18, ↓ogf_256_19, ↓ogf_256_20, ↓ogf_256_21, ↓ogf_256_22, ↓opf_256_22_0, ↓opf_256_22_1, ↓ogf_256_23, ↓opf_256_23, ↓ogf_256_24, ↓ogf_256_25, ↓opf_256_25_0, ↓opf_256_25_1, ↓ogf_256_26, ↓opf_256_26, ↓ogf_256_27, ↓opf_256_27, ↓ogf_256_28, ↓opf_256_28, ↓ogf_256_29, ↓ogf_256_30, ↓ogf_256_31, ↓ogf_256_32, ↓ogf_256_33, ↓ogf_256_34, c_Model_kind, c_Model_num, q0, q1, c13, c2, c9, c_Model_knowsBehind hr hR hok hp0 hS, hk, Option.isSome_some, Option.getD_some, b1_t, hb, lgc_eq, ← cv, c_Model_put ht hp50]
          refine hput _ v _ _ _ _ _ _ hv1 (kmS_b hS) ⟨hB.1, hB.2⟩ (fun j hj => ?_)
          rw [hfd j]
          simp only [if_pos cv]
        · simp (decide := true) (disch := first | assumption | omega) only [zi_Model_fold_35, zi_Model_fold_36, zi_Model_fold_37, zi_Model_fold_38, zi_Model_fold_41, zi_Model_fold_43, zi_Model_fold_44, zi_Model_fold_45, zi_Model_fold_46, zi_Model_fold_47, zi_Model_fold_50, zi_Model_fold_52, zi_Model_fold_54, zi_Model_fold_56, zi_Model_fold_59, zi_Model_fold_60, zi_Model_fold_61, zi_Model_fold_63, zi_Model_fold_66, zi_Model_fold_69, zi_Model_fold_70, zi_Model_fold_71, zi_Model_fold_73, zi_Model_fold_76, zi_Model_fold_77, zi_Model_fold_78, zi_Model_fold_81, zi_Model_fold_82, zi_Model_fold_83, zi_Model_fold_84, zi_Model_fold_86, zi_Model_fold_87, zi_Model_fold_88, zi_Model_fold_89, zi_Model_fold_90, zi_Model_fold_91, zi_Model_fold_94, zi_Model_fold_95, zi_Model_fold_98, zi_Model_fold_101, zi_Model_fold_102, zi_Model_fold_103, zi_Model_fold_104, zi_Model_fold_105, zi_Model_fold_106, zi_Model_fold_107, zi_Model_fold_108, zi_Model_fold_111, zi_Model_fold_114, zi_Model_fold_116, zi_Model_fold_117, zi_Model_fold_120, zi_Model_fold_122, zi_Model_fold_124, zi_Model_fold_127, zi_Model_fold_128, zi_Model_fold_129, zi_Model_fold_130, zi_Model_fold_133, zi_Model_fold_136, zi_Model_fold_137, zi_Model_fold_140, zi_Model_fold_141, zi_Model_fold_144, zi_Model_fold_145, zi_Model_fold_146, zi_Model_fold_147, zi_Model_fold_150, zi_Model_fold_151, zi_Model_fold_152, zi_Model_fold_153, zi_Model_fold_154, zi_Model_fold_156, zi_Model_fold_157, zi_Model_fold_160, zi_Model_fold_161, zi_Model_fold_162, ↓reduceIte, mj_op_s, Option.toList_some, Option.toList_none, List.cons_append, List.nil_append, hp_1, hp_2, true_and, and_true, zb_0, zb_1, zb_b, va_rf, io_256, ↓ogf_256_0, ↓opf_256_0, ↓ogf_256_1, ↓ogf_256_2, ↓ogf_256_3, ↓ogf_256_4, ↓opf_256_4, ↓ogf_256_5, ↓ogf_256_6, ↓ogf_256_7, ↓opf_256_7, ↓ogf_256_8, ↓opf_256_8, ↓ogf_256_9, ↓opf_256_9, ↓ogf_256_10, ↓opf_256_10, ↓ogf_256_11, ↓ogf_256_12, ↓ogf_256_13, ↓ogf_256_14, ↓ogf_256_15, ↓ogf_256_16, ↓ogf_256_17, ↓opf_256_17, ↓ogf_256_18, ↓opf_256_18, ↓ogf_256_19, ↓ogf_256_20, ↓ogf_256_21, ↓ogf_256_22, ↓opf_256_22_0, ↓opf_256_22_1, ↓ogf_256_23, ↓opf_256_23, ↓ogf_256_24, ↓ogf_256_25, ↓opf_256_25_0, ↓opf_256_25_1, ↓ogf_256_26, ↓opf_256_26, ↓ogf_256_27, ↓opf_256_27, ↓ogf_256_28, ↓opf_256_28, ↓ogf_256_29, ↓ogf_256_30, ↓ogf_256_31, ↓ogf_256_32, ↓ogf_256_33, ↓ogf_256_34, c_Model_kind, c_Model_num, q0, q1, c13, c2, c9, c_Model_knowsBehind hr hR hok hp0 hS, hk, Option.isSome_some, Option.getD_some, b1_t, hb, lgc_eq, cv]
          refine hno _ v _ _ hv1 (kmS_b hS) ⟨hB.1, hB.2⟩ (fun j hj => ?_)
          rw [hfd j]
          simp only [if_neg cv]
    · have hfd : ∀ j, j < 4 → fdA A s.1 s.2.1 p j = A p j := by
        intro j _
        unfold fdA
        rw [if_pos hC, if_neg c13, if_neg cM]
      by_cases c2 : A p 0 < nI 2
      · simp (decide := true) (disch := first | assumption | omega) only [zi_Model_fold_35, zi_Model_fold_36, zi_Model_fold_37, zi_Model_fold_38, zi_Model_fold_41, zi_Model_fold_43, zi_Model_fold_44, zi_Model_fold_45, zi_Model_fold_46, zi_Model_fold_47, zi_Model_fold_50, zi_Model_fold_52, zi_Model_fold_54, zi_Model_fold_56, zi_Model_fold_59, zi_Model_fold_60, zi_Model_fold_61, zi_Model_fold_63, zi_Model_fold_66, zi_Model_fold_69, zi_Model_fold_70, zi_Model_fold_71, zi_Model_fold_73, zi_Model_fold_76, zi_Model_fold_77, zi_Model_fold_78, zi_Model_fold_81, zi_Model_fold_82, zi_Model_fold_83, zi_Model_fold_84, zi_Model_fold_86, zi_Model_fold_87, zi_Model_fold_88, zi_Model_fold_89, zi_Model_fold_90, zi_Model_fold_91, zi_Model_fold_94, zi_Model_fold_95, zi_Model_fold_98, zi_Model_fold_101, zi_Model_fold_102, zi_Model_fold_103, zi_Model_fold_104, zi_Model_fold_105, zi_Model_fold_106, zi_Model_fold_107, zi_Model_fold_108, zi_Model_fold_111, zi_Model_fold_114, zi_Model_fold_116, zi_Model_fold_117, zi_Model_fold_120, zi_Model_fold_122, zi_Model_fold_124, ↓reduceIte, mj_op_s, Option.toList_some, Option.toList_none, List.cons_append, List.nil_append, hp_1, hp_2, true_and, and_true, zb_0, zb_1, zb_b, va_rf, io_256, ↓ogf_256_0, ↓opf_256_0, ↓ogf_256_1, ↓ogf_256_2, ↓ogf_256_3, ↓ogf_256_4, ↓opf_256_4, ↓ogf_256_5, ↓ogf_256_6, ↓ogf_256_7, ↓opf_256_7, ↓ogf_256_8, ↓opf_256_8, ↓ogf_256_9, ↓opf_256_9, ↓ogf_256_10, ↓opf_256_10, ↓ogf_256_11, ↓ogf_256_12, ↓ogf_256_13, ↓ogf_256_14, ↓ogf_256_15, ↓ogf_256_16, ↓ogf_256_17, ↓opf_256_17, ↓ogf_256_18, ↓opf_256_18, ↓ogf_256_19, ↓ogf_256_20, ↓ogf_256_21, ↓ogf_256_22, ↓opf_256_22_0, ↓opf_256_22_1, ↓ogf_256_23, ↓opf_256_23, ↓ogf_256_24, ↓ogf_256_25, ↓opf_256_25_0, ↓opf_256_25_1, ↓ogf_256_26, ↓opf_256_26, ↓ogf_256_27, ↓opf_256_27, ↓ogf_256_28, ↓opf_256_28, ↓ogf_256_29, ↓ogf_256_30, ↓ogf_256_31, ↓ogf_256_32, ↓ogf_256_33, ↓ogf_256_34, c_Model_kind, c_Model_num, q0, q1, c13, c2]
        exact hno M bh _ _ sv_refl hS hB hfd
      · have c9 : nI 9 < A p 0 := by
          refine Classical.byContradiction fun z => cM (cM_iff.mpr ⟨c2, z⟩)
        simp (decide := true) (disch := first | assumption | omega) only [zi_Model_fold_35, zi_Model_fold_36, zi_Model_fold_37, zi_Model_fold_38, zi_Model_fold_41, zi_Model_fold_43, zi_Model_fold_44, zi_Model_fold_45, zi_Model_fold_46, zi_Model_fold_47, zi_Model_fold_50, zi_Model_fold_52, zi_Model_fold_54, zi_Model_fold_56, zi_Model_fold_59, zi_Model_fold_60, zi_Model_fold_61, zi_Model_fold_63, zi_Model_fold_66, zi_Model_fold_69, zi_Model_fold_70, zi_Model_fold_71, zi_Model_fold_73, zi_Model_fold_76, zi_Model_fold_77, zi_Model_fold_78, zi_Model_fold_81, zi_Model_fold_82, zi_Model_fold_83, zi_Model_fold_84, zi_Model_fold_86, zi_Model_fold_87, zi_Model_fold_88, zi_Model_fold_89, zi_Model_fold_90, zi_Model_fold_91, zi_Model_fold_94, zi_Model_fold_95, zi_Model_fold_98, zi_Model_fold_101, zi_Model_fold_102, zi_Model_fold_103, zi_Model_fold_104, zi_Model_fold_105, zi_Model_fold_106, zi_Model_fold_107, zi_Model_fold_108, zi_Model_fold_111, zi_Model_fold_114, zi_Model_fold_116, zi_Model_fold_117, zi_Model_fold_120, zi_Model_fold_122, zi_Model_fold_124, ↓reduceIte, mj_op_s, Option.toList_some, Option.toList_none, List.cons_append, List.nil_append, hp_1, hp_2, true_and, and_true, zb_0, zb_1, zb_b, va_rf, io_256, ↓ogf_256_0, ↓opf_256_0, ↓ogf_256_1, ↓ogf_256_2, ↓ogf_256_3, ↓ogf_256_4, ↓opf_256_4, ↓ogf_256_5, ↓ogf_256_6, ↓ogf_256_7, ↓opf_256_7, ↓ogf_256_8, ↓opf_256_8, ↓ogf_256_9, ↓opf_256_9, ↓ogf_256_10, ↓opf_256_10, ↓ogf_256_11, ↓ogf_256_12, ↓ogf_256_13, ↓ogf_256_14, ↓ogf_256_15, ↓ogf_256_16, ↓ogf_256_17, ↓opf_256_17, ↓ogf_256_18, ↓opf_256_18, ↓ogf_256_19, ↓ogf_256_20, ↓ogf_256_21, ↓ogf_256_22, ↓opf_256_22_0, ↓opf_256_22_1, ↓ogf_256_23, ↓opf_256_23, ↓ogf_256_24, ↓ogf_256_25, ↓opf_256_25_0, ↓opf_256_25_1, ↓ogf_256_26, ↓opf_256_26, ↓ogf_256_27, ↓opf_256_27, ↓ogf_256_28, ↓opf_256_28, ↓ogf_256_29, ↓ogf_256_30, ↓ogf_256_31, ↓ogf_256_32, ↓ogf_256_33, ↓ogf_256_34, c_Model_kind, c_Model_num, q0, q1, c13, c2, c9]
        exact hno M bh _ _ sv_refl hS hB hfd
theorem l_mfold_1 (hr : r < 44) (ht : t < 44) (hne : r ≠ t) (hR : hasM M r len A) (hok : okR len A) (hend : ∀ M' bh2 y4 y5, sv (fmP t) M M' → kmT M' s bh2 → hasM M' t len (fdA A s.1 s.2.1) → mj_V (d + 3) lim mq_Model_fold 171 [.ref 256, .int (nI r), .int (nI t), .int (nI len), y4, y5] [] (hp M') Q) : ∀ (n p : Nat) (M' : mm) (bh : Int64) (x4 x5 : Value), p + n = len → sv (fmP t) M M' → kmT M' s bh → hasM M' t len (mxA (fdA A s.1 s.2.1) A p) → mj_V (d + 3) lim mq_Model_fold 13 [.ref 256, .int (nI r), .int (nI t), .int (nI p), x4, x5] [] (hp M') Q := by
  have h50 := hok.1
  intro n
  induction n with
  | zero =>
    intro p M' bh x4 x5 hn hv hT hB
    obtain rfl : p = len := by omega
    have r0 := (fm_M hv hne h50 hR).1
    have e1 : ¬ nI p < nI p := nI_nlt (by omega) (by omega)
    rw [zi_Model_fold_13]
    simp (disch := first | assumption | omega) only [zi_Model_fold_14, zi_Model_fold_15, zi_Model_fold_18, zi_Model_fold_19, zi_Model_fold_20, ↓reduceIte, mj_op_s, Option.toList_some, Option.toList_none, List.cons_append, List.nil_append, hp_1, hp_2, true_and, and_true, zb_0, zb_1, zb_b, va_rf, io_256, ↓ogf_256_0, ↓opf_256_0, ↓ogf_256_1, ↓ogf_256_2, ↓ogf_256_3, ↓ogf_256_4, ↓opf_256_4, ↓ogf_256_5, ↓ogf_256_6, ↓ogf_256_7, ↓opf_256_7, ↓ogf_256_8, ↓opf_256_8, ↓ogf_256_9, ↓opf_256_9, ↓ogf_256_10, ↓opf_256_10, ↓ogf_256_11, ↓ogf_256_12, ↓ogf_256_13, ↓ogf_256_14, ↓ogf_256_15, ↓ogf_256_16, ↓ogf_256_17, ↓opf_256_17, ↓ogf_256_18, ↓opf_256_18, ↓ogf_256_19, ↓ogf_256_20, ↓ogf_256_21, ↓ogf_256_22, ↓opf_256_22_0, ↓opf_256_22_1, ↓ogf_256_23, ↓opf_256_23, ↓ogf_256_24, ↓ogf_256_25, ↓opf_256_25_0, ↓opf_256_25_1, ↓ogf_256_26, ↓opf_256_26, ↓ogf_256_27, ↓opf_256_27, ↓ogf_256_28, ↓opf_256_28, ↓ogf_256_29, ↓ogf_256_30, ↓ogf_256_31, ↓ogf_256_32, ↓ogf_256_33, ↓ogf_256_34, ↓oai_257, ↓owi_257, r0, e1]
    exact hend M' bh _ _ hv hT (mx_eM hB)
  | succ n ih =>
    intro p M' bh x4 x5 hn hv hT hB
    have hR' := fm_M hv hne h50 hR
    have r0 := hR'.1
    have hp51 : p < 51 := by omega
    have hpl : p < len := by omega
    have e1 : nI p < nI len := nI_lt (by omega) (by omega)
    have r4 := hT.1 p hp51
    rw [zi_Model_fold_13]
    cases hc : s.1 p with
    | true =>
      rw [hc] at r4
      have r4 : rI M' 268 p = nI 1 := r4
      simp (decide := true) (disch := first | assumption | omega) only [zi_Model_fold_14, zi_Model_fold_15, zi_Model_fold_18, zi_Model_fold_19, zi_Model_fold_20, zi_Model_fold_23, zi_Model_fold_24, zi_Model_fold_27, zi_Model_fold_28, zi_Model_fold_29, ↓reduceIte, mj_op_s, Option.toList_some, Option.toList_none, List.cons_append, List.nil_append, hp_1, hp_2, true_and, and_true, zb_0, zb_1, zb_b, va_rf, io_256, ↓ogf_256_0, ↓opf_256_0, ↓ogf_256_1, ↓ogf_256_2, ↓ogf_256_3, ↓ogf_256_4, ↓opf_256_4, ↓ogf_256_5, ↓ogf_256_6, ↓ogf_256_7, ↓opf_256_7, ↓ogf_256_8, ↓opf_256_8, ↓ogf_256_9, ↓opf_256_9, ↓ogf_256_10, ↓opf_256_10, ↓ogf_256_11, ↓ogf_256_12, ↓ogf_256_13, ↓ogf_256_14, ↓ogf_256_15, ↓ogf_256_16, ↓ogf_256_17, ↓opf_256_17, ↓ogf_256_18, ↓opf_256_18, ↓ogf_256_19, ↓ogf_256_20, ↓ogf_256_21, ↓ogf_256_22, ↓opf_256_22_0, ↓opf_256_22_1, ↓ogf_256_23, ↓opf_256_23, ↓ogf_256_24, ↓ogf_256_25, ↓opf_256_25_0, ↓opf_256_25_1, ↓ogf_256_26, ↓opf_256_26, ↓ogf_256_27, ↓opf_256_27, ↓ogf_256_28, ↓opf_256_28, ↓ogf_256_29, ↓ogf_256_30, ↓ogf_256_31, ↓ogf_256_32, ↓ogf_256_33, ↓ogf_256_34, ↓oai_257, ↓owi_257, ↓oaz_268, ↓owz_268, r0, e1, r4]
      refine l_mfold_step hr ht hne hR' hok hpl hT hc hB (fun j _ => mx_p) (fun M2 bh2 y4 y5 hv2 hT2 hB2 => ?_)
      simp only [zi_Model_fold_165, zi_Model_fold_168, ↓reduceIte, mj_op_s, Option.toList_some, Option.toList_none, List.cons_append, List.nil_append, hp_1, hp_2, true_and, and_true, zb_0, zb_1, zb_b, va_rf, nI_add]
      exact ih (p + 1) M2 bh2 _ _ (by omega) (sv_trans hv hv2) hT2 (hasM_cong hB2 (mx_s (fun j _ => if_pos rfl) (fun q j e => if_neg e)))
    | false =>
      rw [hc] at r4
      have r4 : rI M' 268 p = nI 0 := r4
      simp (decide := true) (disch := first | assumption | omega) only [zi_Model_fold_14, zi_Model_fold_15, zi_Model_fold_18, zi_Model_fold_19, zi_Model_fold_20, zi_Model_fold_23, zi_Model_fold_24, zi_Model_fold_27, zi_Model_fold_28, zi_Model_fold_29, zi_Model_fold_32, zi_Model_fold_165, zi_Model_fold_168, ↓reduceIte, mj_op_s, Option.toList_some, Option.toList_none, List.cons_append, List.nil_append, hp_1, hp_2, true_and, and_true, zb_0, zb_1, zb_b, va_rf, io_256, ↓ogf_256_0, ↓opf_256_0, ↓ogf_256_1, ↓ogf_256_2, ↓ogf_256_3, ↓ogf_256_4, ↓opf_256_4, ↓ogf_256_5, ↓ogf_256_6, ↓ogf_256_7, ↓opf_256_7, ↓ogf_256_8, ↓opf_256_8, ↓ogf_256_9, ↓opf_256_9, ↓ogf_256_10, ↓opf_256_10, ↓ogf_256_11, ↓ogf_256_12, ↓ogf_256_13, ↓ogf_256_14, ↓ogf_256_15, ↓ogf_256_16, ↓ogf_256_17, ↓opf_256_17, ↓ogf_256_18, ↓opf_256_18, ↓ogf_256_19, ↓ogf_256_20, ↓ogf_256_21, ↓ogf_256_22, ↓opf_256_22_0, ↓opf_256_22_1, ↓ogf_256_23, ↓opf_256_23, ↓ogf_256_24, ↓ogf_256_25, ↓opf_256_25_0, ↓opf_256_25_1, ↓ogf_256_26, ↓opf_256_26, ↓ogf_256_27, ↓opf_256_27, ↓ogf_256_28, ↓opf_256_28, ↓ogf_256_29, ↓ogf_256_30, ↓ogf_256_31, ↓ogf_256_32, ↓ogf_256_33, ↓ogf_256_34, ↓oai_257, ↓owi_257, ↓oaz_268, ↓owz_268, r0, e1, r4, nI_add]
      refine ih (p + 1) M' bh _ _ (by omega) hv hT (hasM_cong hB (mx_s (fun j _ => ?_) (fun q j _ => rfl)))
      rw [mx_p]
      unfold fdA
      rw [if_neg (by rw [hc]; simp)]
theorem hasV_set {i c : Nat} {v : Int64} (h : hasV M W) (hi : i < W.1) (hr : r < 8) : hasV (wL (wI M 266 (8 * i + r) (nI c)) 267 (8 * i + r) v) (wset W i r c v) := by
  refine ⟨by rw [rI_wL, rI_wI, if_neg (by omega)]; exact h.1, fun k hk => ?_⟩
  have hk : k < W.1 := hk
  obtain ⟨a1, a2, a3, a4, a5⟩ := h.2 k hk
  unfold wset wsR
  by_cases e : k = i
  · subst e
    simp only [if_true]
    refine ⟨by rw [rI_wL, rI_wI, if_neg (by omega)]; exact a1, by rw [rI_wL, rI_wI, if_neg (by omega)]; exact a2, by rw [rI_wL, rI_wI, if_neg (by omega)]; exact a3, by rw [rI_wL, rI_wI, if_neg (by omega)]; exact a4, fun q hq => ?_⟩
    by_cases e2 : q = r
    · subst e2
      exact ⟨by rw [rI_wL, rI_wI, if_pos ⟨rfl, rfl⟩, if_pos rfl], by rw [rL_wL, if_pos ⟨rfl, rfl⟩, if_pos rfl]⟩
    · exact ⟨by rw [rI_wL, rI_wI, if_neg (by omega), if_neg e2]; exact (a5 q hq).1, by rw [rL_wL, if_neg (by omega), rL_wI, if_neg e2]; exact (a5 q hq).2⟩
  · simp only [if_neg e]
    refine ⟨by rw [rI_wL, rI_wI, if_neg (by omega)]; exact a1, by rw [rI_wL, rI_wI, if_neg (by omega)]; exact a2, by rw [rI_wL, rI_wI, if_neg (by omega)]; exact a3, by rw [rI_wL, rI_wI, if_neg (by omega)]; exact a4, fun q hq => ⟨by rw [rI_wL, rI_wI, if_neg (by omega)]; exact (a5 q hq).1, by rw [rL_wL, if_neg (by omega), rL_wI]; exact (a5 q hq).2⟩⟩
theorem wset_ap {c : Nat} {v : Int64} : wset (wap W x) W.1 r c v = wap W (wsR x r c v) := by
  unfold wset wap
  refine Prod.ext rfl (funext fun k => ?_)
  show (if k = W.1 then wsR (if W.1 = W.1 then x else W.2 W.1) r c v else if k = W.1 then x else W.2 k) = if k = W.1 then wsR x r c v else W.2 k
  rw [if_pos rfl]
  by_cases e : k = W.1
  · rw [if_pos e, if_pos e]
  · rw [if_neg e, if_neg e, if_neg e]
def fwR (F : KF) (p j : Nat) : WR := (p, p, 0, 0, fun r => if r < j ∧ (F p r).isSome = true then 2 else 1, fun r => if r < j then (F p r).getD 0 else 0)
theorem fwR_s (h : (F p j).isSome = true) : wsR (fwR F p j) j 2 ((F p j).getD 0) = fwR F p (j + 1) := by
  unfold wsR fwR
  refine Prod.ext rfl (Prod.ext rfl (Prod.ext rfl (Prod.ext rfl (Prod.ext (funext fun q => ?_) (funext fun q => ?_)))))
  · show (if q = j then 2 else if q < j ∧ (F p q).isSome = true then 2 else 1) = if q < j + 1 ∧ (F p q).isSome = true then 2 else 1
    by_cases e : q = j
    · subst e; rw [if_pos rfl, if_pos ⟨by omega, h⟩]
    · rw [if_neg e]
      by_cases h2 : q < j ∧ (F p q).isSome = true
      · rw [if_pos h2, if_pos ⟨by omega, h2.2⟩]
      · rw [if_neg h2, if_neg (fun z => h2 ⟨by omega, z.2⟩)]
  · show (if q = j then (F p j).getD 0 else if q < j then (F p q).getD 0 else 0) = if q < j + 1 then (F p q).getD 0 else 0
    by_cases e : q = j
    · subst e; rw [if_pos rfl, if_pos (by omega)]
    · rw [if_neg e]
      by_cases h2 : q < j
      · rw [if_pos h2, if_pos (by omega)]
      · rw [if_neg h2, if_neg (by omega)]
theorem fwR_n (h : F p j = none) : fwR F p j = fwR F p (j + 1) := by
  unfold fwR
  refine Prod.ext rfl (Prod.ext rfl (Prod.ext rfl (Prod.ext rfl (Prod.ext (funext fun q => ?_) (funext fun q => ?_)))))
  · show (if q < j ∧ (F p q).isSome = true then 2 else 1) = if q < j + 1 ∧ (F p q).isSome = true then 2 else 1
    by_cases e : q = j
    · subst e; rw [if_neg (by omega), if_neg (by rw [h]; simp)]
    · by_cases h2 : q < j ∧ (F p q).isSome = true
      · rw [if_pos h2, if_pos ⟨by omega, h2.2⟩]
      · rw [if_neg h2, if_neg (fun z => h2 ⟨by omega, z.2⟩)]
  · show (if q < j then (F p q).getD 0 else 0) = if q < j + 1 then (F p q).getD 0 else 0
    by_cases e : q = j
    · subst e; rw [if_neg (by omega), if_pos (by omega), h]; rfl
    · by_cases h2 : q < j
      · rw [if_pos h2, if_pos (by omega)]
      · rw [if_neg h2, if_neg (by omega)]
theorem fwR_0 : fwR F p 0 = (p, p, 0, 0, fun _ => 1, fun _ => 0) := by
  unfold fwR
  refine Prod.ext rfl (Prod.ext rfl (Prod.ext rfl (Prod.ext rfl (Prod.ext (funext fun q => ?_) (funext fun q => ?_)))))
  · show (if q < 0 ∧ (F p q).isSome = true then 2 else 1) = 1
    exact if_neg (by omega)
  · show (if q < 0 then (F p q).getD 0 else 0) = 0
    exact if_neg (by omega)
theorem mw_kmS (h : sv (mwP wf) M M') (hS : kmS M C D F sw bh) : kmS M' C D F sw bh := kmS_sv h mw_km hS
theorem l_mfold_k (hn : W.1 < 200) (hp0 : p < 51) {r t : Int32} {s : KS} (hend : ∀ M' y4 y5, sv (mwP true) M M' → hasV M' (wap W (fwR s.2.1 p 8)) → mj_V (d + 1) lim mq_Model_fold 282 [.ref 256, .int r, .int t, .int (nI p), y4, y5] [] (hp M') Q) : ∀ (m j : Nat) (M' : mm) (x5 : Value), j + m = 8 → sv (mwP true) M M' → rI M' 256 25 = nI 1 → kmT M' s bh → hasV M' (wap W (fwR s.2.1 p j)) → mj_V (d + 1) lim mq_Model_fold 207 [.ref 256, .int r, .int t, .int (nI p), .int (nI j), x5] [] (hp M') Q := by
  intro m
  induction m with
  | zero =>
    intro j M' x5 hj hv hw hT hV
    obtain rfl : j = 8 := by omega
    rw [zi_Model_fold_207]
    simp (decide := true) only [zi_Model_fold_209, zi_Model_fold_211, ↓reduceIte, mj_op_s, Option.toList_some, Option.toList_none, List.cons_append, List.nil_append, hp_1, hp_2, true_and, and_true, zb_0, zb_1, zb_b, va_rf]
    exact hend M' _ _ hv hV
  | succ m ih =>
    intro j M' x5 hj hv hw hT hV
    have hj8 : j < 8 := by omega
    have e1 : nI j < nI 8 := nI_lt (by omega) (by omega)
    have h10 : rI M' 256 10 = nI (W.1 + 1) := hV.1
    rw [zi_Model_fold_207]
    cases hF : s.2.1 p j with
    | none =>
      simp (decide := true) (disch := first | assumption | omega) only [zi_Model_fold_209, zi_Model_fold_211, zi_Model_fold_214, zi_Model_fold_215, zi_Model_fold_218, zi_Model_fold_221, zi_Model_fold_222, zi_Model_fold_223, zi_Model_fold_225, zi_Model_fold_228, zi_Model_fold_231, zi_Model_fold_276, zi_Model_fold_279, ↓reduceIte, mj_op_s, Option.toList_some, Option.toList_none, List.cons_append, List.nil_append, hp_1, hp_2, true_and, and_true, zb_0, zb_1, zb_b, va_rf, io_256, ↓ogf_256_0, ↓opf_256_0, ↓ogf_256_1, ↓ogf_256_2, ↓ogf_256_3, ↓ogf_256_4, ↓opf_256_4, ↓ogf_256_5, ↓ogf_256_6, ↓ogf_256_7, ↓opf_256_7, ↓ogf_256_8, ↓opf_256_8, ↓ogf_256_9, ↓opf_256_9, ↓ogf_256_10, ↓opf_256_10, ↓ogf_256_11, ↓ogf_256_12, ↓ogf_256_13, ↓ogf_256_14, ↓ogf_256_15, ↓ogf_256_16, ↓ogf_256_17, ↓opf_256_17, ↓ogf_256_18, ↓opf_256_18, ↓ogf_256_19, ↓ogf_256_20, ↓ogf_256_21, ↓ogf_256_22, ↓opf_256_22_0, ↓opf_256_22_1, ↓ogf_256_23, ↓opf_256_23, ↓ogf_256_24, ↓ogf_256_25, ↓opf_256_25_0, ↓opf_256_25_1, ↓ogf_256_26, ↓opf_256_26, ↓ogf_256_27, ↓opf_256_27, ↓ogf_256_28, ↓opf_256_28, ↓ogf_256_29, ↓ogf_256_30, ↓ogf_256_31, ↓ogf_256_32, ↓ogf_256_33, ↓ogf_256_34, e1, hw, c_Model_knows hT hp0 hj8, hF, Option.isSome_none, b1_f, nI_add]
      exact ih (j + 1) M' _ (by omega) hv hw hT (by rw [← fwR_n hF]; exact hV)
    | some v =>
      have hv0 := hT.2.2.1 p j hp0 hj8 v hF
      have hv0' : rL (wI M' 266 (8 * W.1 + j) (nI 2)) 270 (8 * p + j) = v := hv0
      have h10' : rI (wI M' 266 (8 * W.1 + j) (nI 2)) 256 10 = nI (W.1 + 1) := by rw [rI_wI, if_neg (by omega)]; exact h10
      simp (decide := true) (disch := first | assumption | omega) only [zi_Model_fold_209, zi_Model_fold_211, zi_Model_fold_214, zi_Model_fold_215, zi_Model_fold_218, zi_Model_fold_221, zi_Model_fold_222, zi_Model_fold_223, zi_Model_fold_225, zi_Model_fold_228, zi_Model_fold_231, zi_Model_fold_234, zi_Model_fold_235, zi_Model_fold_238, zi_Model_fold_240, zi_Model_fold_241, zi_Model_fold_244, zi_Model_fold_245, zi_Model_fold_246, zi_Model_fold_247, zi_Model_fold_249, zi_Model_fold_250, zi_Model_fold_251, zi_Model_fold_252, zi_Model_fold_253, zi_Model_fold_256, zi_Model_fold_258, zi_Model_fold_259, zi_Model_fold_262, zi_Model_fold_263, zi_Model_fold_264, zi_Model_fold_265, zi_Model_fold_267, zi_Model_fold_268, zi_Model_fold_269, zi_Model_fold_270, zi_Model_fold_272, zi_Model_fold_275, zi_Model_fold_276, zi_Model_fold_279, ↓reduceIte, mj_op_s, Option.toList_some, Option.toList_none, List.cons_append, List.nil_append, hp_1, hp_2, true_and, and_true, zb_0, zb_1, zb_b, va_rf, io_256, ↓ogf_256_0, ↓opf_256_0, ↓ogf_256_1, ↓ogf_256_2, ↓ogf_256_3, ↓ogf_256_4, ↓opf_256_4, ↓ogf_256_5, ↓ogf_256_6, ↓ogf_256_7, ↓opf_256_7, ↓ogf_256_8, ↓opf_256_8, ↓ogf_256_9, ↓opf_256_9, ↓ogf_256_10, ↓opf_256_10, ↓ogf_256_11, ↓ogf_256_12, ↓ogf_256_13, ↓ogf_256_14, ↓ogf_256_15, ↓ogf_256_16, ↓ogf_256_17, ↓opf_256_17, ↓ogf_256_18, ↓opf_256_18, ↓ogf_256_19, ↓ogf_256_20, ↓ogf_256_21, ↓ogf_256_22, ↓opf_256_22_0, ↓opf_256_22_1, ↓ogf_256_23, ↓opf_256_23, ↓ogf_256_24, ↓ogf_256_25, ↓opf_256_25_0, ↓opf_256_25_1, ↓ogf_256_26, ↓opf_256_26, ↓ogf_256_27, ↓opf_256_27, ↓ogf_256_28, ↓opf_256_28, ↓ogf_256_29, ↓ogf_256_30, ↓ogf_256_31, ↓ogf_256_32, ↓ogf_256_33, ↓ogf_256_34, ↓oai_266, ↓owi_266, ↓oal_267, ↓owl_267, e1, hw, c_Model_knows hT hp0 hj8, c_Model_as hp0 hj8, hv0', hF, Option.isSome_some, b1_t, h10, h10', nI_sub1, pk_mul, nI_add]
      have hv2 : sv (mwP true) M' (wL (wI M' 266 (8 * W.1 + j) (nI 2)) 267 (8 * W.1 + j) v) := sv_wL (sv_wI sv_refl ⟨rfl, by omega⟩) ⟨rfl, by omega⟩
      refine ih (j + 1) _ _ (by omega) (sv_trans hv hv2) ((sv_I hv2 (by unfold mwP; omega)).trans hw) (mw_kmS hv2 hT) ?_
      have h2 := hasV_set (r := j) (c := 2) (v := v) hV (show W.1 < (wap W (fwR s.2.1 p j)).1 from Nat.lt_succ_self _) hj8
      rw [wset_ap] at h2
      have h3 := fwR_s (F := s.2.1) (p := p) (j := j) (by rw [hF]; rfl)
      rw [hF] at h3
      have h3 : wsR (fwR s.2.1 p j) j 2 v = fwR s.2.1 p (j + 1) := h3
      rw [h3] at h2
      exact h2
theorem l_mfold_2 (hr : r < 44) (hR : hasM M r len A) (h50 : len ≤ 50) (hw : rI M 256 25 = b1 wf) (hT : kmT M s bh) {t : Int32} (hend : ∀ M', sv (mwP wf) M M' → (wf = true → hasV M' (fwW s.1 s.2.1 (len + 1))) → Q none (hp M')) : ∀ (n p : Nat) (M' : mm) (x4 x5 : Value), p + n = len + 1 → sv (mwP wf) M M' → (wf = true → hasV M' (fwW s.1 s.2.1 p)) → mj_V (d + 2) lim mq_Model_fold 173 [.ref 256, .int (nI r), .int t, .int (nI p), x4, x5] [] (hp M') Q := by
  intro n
  induction n with
  | zero =>
    intro p M' x4 x5 hn hv hV
    obtain rfl : p = len + 1 := by omega
    have r0 := (mw_M hv hR).1
    have e1 : nI len < nI (len + 1) := nI_lt (by omega) (by omega)
    rw [zi_Model_fold_173]
    simp (disch := first | assumption | omega) only [zi_Model_fold_174, zi_Model_fold_175, zi_Model_fold_178, zi_Model_fold_179, zi_Model_fold_180, zi_Model_fold_288, ↓reduceIte, mj_op_s, Option.toList_some, Option.toList_none, List.cons_append, List.nil_append, hp_1, hp_2, true_and, and_true, zb_0, zb_1, zb_b, va_rf, io_256, ↓ogf_256_0, ↓opf_256_0, ↓ogf_256_1, ↓ogf_256_2, ↓ogf_256_3, ↓ogf_256_4, ↓opf_256_4, ↓ogf_256_5, ↓ogf_256_6, ↓ogf_256_7, ↓opf_256_7, ↓ogf_256_8, ↓opf_256_8, ↓ogf_256_9, ↓opf_256_9, ↓ogf_256_10, ↓opf_256_10, ↓ogf_256_11, ↓ogf_256_12, ↓ogf_256_13, ↓ogf_256_14, ↓ogf_256_15, ↓ogf_256_16, ↓ogf_256_17, ↓opf_256_17, ↓ogf_256_18, ↓opf_256_18, ↓ogf_256_19, ↓ogf_256_20, ↓ogf_256_21, ↓ogf_256_22, ↓opf_256_22_0, ↓opf_256_22_1, ↓ogf_256_23, ↓opf_256_23, ↓ogf_256_24, ↓ogf_256_25, ↓opf_256_25_0, ↓opf_256_25_1, ↓ogf_256_26, ↓opf_256_26, ↓ogf_256_27, ↓opf_256_27, ↓ogf_256_28, ↓opf_256_28, ↓ogf_256_29, ↓ogf_256_30, ↓ogf_256_31, ↓ogf_256_32, ↓ogf_256_33, ↓ogf_256_34, ↓oai_257, ↓owi_257, r0, e1]
    exact hend M' hv hV
  | succ n ih =>
    intro p M' x4 x5 hn hv hV
    have r0 := (mw_M hv hR).1
    have hp51 : p < 51 := by omega
    have e1 : ¬ nI len < nI p := nI_nlt (by omega) (by omega)
    have hle := fwW_le (C := s.1) (F := s.2.1) p
    have hw2 : (fwW s.1 s.2.1 p).1 < 200 := by omega
    have hT' : kmT M' s bh := mw_kmS hv hT
    have hw' : rI M' 256 25 = b1 wf := (sv_I hv (by unfold mwP; omega)).trans hw
    have r4 := hT'.1 p hp51
    rw [zi_Model_fold_173]
    cases hc : s.1 p with
    | true =>
      rw [hc] at r4
      have r4 : rI M' 268 p = nI 1 := r4
      have eW : fwW s.1 s.2.1 (p + 1) = wap (fwW s.1 s.2.1 p) (fwR s.2.1 p 8) := if_pos hc
      simp (decide := true) (disch := first | assumption | omega) only [zi_Model_fold_174, zi_Model_fold_175, zi_Model_fold_178, zi_Model_fold_179, zi_Model_fold_180, zi_Model_fold_183, zi_Model_fold_184, zi_Model_fold_187, zi_Model_fold_188, zi_Model_fold_189, zi_Model_fold_192, zi_Model_fold_195, zi_Model_fold_196, zi_Model_fold_197, zi_Model_fold_198, zi_Model_fold_199, zi_Model_fold_200, zi_Model_fold_201, ↓reduceIte, mj_op_s, Option.toList_some, Option.toList_none, List.cons_append, List.nil_append, hp_1, hp_2, true_and, and_true, zb_0, zb_1, zb_b, va_rf, io_256, ↓ogf_256_0, ↓opf_256_0, ↓ogf_256_1, ↓ogf_256_2, ↓ogf_256_3, ↓ogf_256_4, ↓opf_256_4, ↓ogf_256_5, ↓ogf_256_6, ↓ogf_256_7, ↓opf_256_7, ↓ogf_256_8, ↓opf_256_8, ↓ogf_256_9, ↓opf_256_9, ↓ogf_256_10, ↓opf_256_10, ↓ogf_256_11, ↓ogf_256_12, ↓ogf_256_13, ↓ogf_256_14, ↓ogf_256_15, ↓ogf_256_16, ↓ogf_256_17, ↓opf_256_17, ↓ogf_256_18, ↓opf_256_18, ↓ogf_256_19, ↓ogf_256_20, ↓ogf_256_21, ↓ogf_256_22, ↓opf_256_22_0, ↓opf_256_22_1, ↓ogf_256_23, ↓opf_256_23, ↓ogf_256_24, ↓ogf_256_25, ↓opf_256_25_0, ↓opf_256_25_1, ↓ogf_256_26, ↓opf_256_26, ↓ogf_256_27, ↓opf_256_27, ↓ogf_256_28, ↓opf_256_28, ↓ogf_256_29, ↓ogf_256_30, ↓ogf_256_31, ↓ogf_256_32, ↓ogf_256_33, ↓ogf_256_34, ↓oai_257, ↓owi_257, ↓oaz_268, ↓owz_268, r0, e1, r4]
      refine c_Model_add2 hw' hV hw2 (fun M2 hv2 hV2 => ?_)
      have hv2 := mn_mw hw2 hv2
      have hw3 : rI M2 256 25 = b1 wf := (sv_I hv2 (by unfold mwP; omega)).trans hw'
      simp only [zi_Model_fold_204, zi_Model_fold_205, ↓reduceIte, mj_op_s, Option.toList_some, Option.toList_none, List.cons_append, List.nil_append, hp_1, hp_2, true_and, and_true, zb_0, zb_1, zb_b, va_rf]
      cases hwf : wf with
      | true =>
        subst hwf
        have hV3 := hV2 rfl
        rw [← fwR_0 (F := s.2.1)] at hV3
        refine l_mfold_k (d := d + 1) (M := M2) hw2 hp51 (fun M3 y4 y5 hv3 hV3 => ?_) 8 0 M2 _ (by omega) sv_refl hw3 (mw_kmS hv2 hT') hV3
        simp only [zi_Model_fold_282, zi_Model_fold_285, ↓reduceIte, mj_op_s, Option.toList_some, Option.toList_none, List.cons_append, List.nil_append, hp_1, hp_2, true_and, and_true, zb_0, zb_1, zb_b, va_rf, nI_add]
        exact ih (p + 1) M3 _ _ (by omega) (sv_trans hv (sv_trans hv2 hv3)) (fun _ => by rw [eW]; exact hV3)
      | false =>
        subst hwf
        have hw3 : rI M2 256 25 = nI 0 := hw3
        rw [zi_Model_fold_207]
        simp (decide := true) (disch := first | assumption | omega) only [zi_Model_fold_209, zi_Model_fold_211, zi_Model_fold_214, zi_Model_fold_215, zi_Model_fold_218, zi_Model_fold_282, zi_Model_fold_285, ↓reduceIte, mj_op_s, Option.toList_some, Option.toList_none, List.cons_append, List.nil_append, hp_1, hp_2, true_and, and_true, zb_0, zb_1, zb_b, va_rf, io_256, ↓ogf_256_0, ↓opf_256_0, ↓ogf_256_1, ↓ogf_256_2, ↓ogf_256_3, ↓ogf_256_4, ↓opf_256_4, ↓ogf_256_5, ↓ogf_256_6, ↓ogf_256_7, ↓opf_256_7, ↓ogf_256_8, ↓opf_256_8, ↓ogf_256_9, ↓opf_256_9, ↓ogf_256_10, ↓opf_256_10, ↓ogf_256_11, ↓ogf_256_12, ↓ogf_256_13, ↓ogf_256_14, ↓ogf_256_15, ↓ogf_256_16, ↓ogf_256_17, ↓opf_256_17, ↓ogf_256_18, ↓opf_256_18, ↓ogf_256_19, ↓ogf_256_20, ↓ogf_256_21, ↓ogf_256_22, ↓opf_256_22_0, ↓opf_256_22_1, ↓ogf_256_23, ↓opf_256_23, ↓ogf_256_24, ↓ogf_256_25, ↓opf_256_25_0, ↓opf_256_25_1, ↓ogf_256_26, ↓opf_256_26, ↓ogf_256_27, ↓opf_256_27, ↓ogf_256_28, ↓opf_256_28, ↓ogf_256_29, ↓ogf_256_30, ↓ogf_256_31, ↓ogf_256_32, ↓ogf_256_33, ↓ogf_256_34, hw3, nI_add]
        exact ih (p + 1) M2 _ _ (by omega) (sv_trans hv hv2) (fun z => by cases z)
    | false =>
      rw [hc] at r4
      have r4 : rI M' 268 p = nI 0 := r4
      have eW : fwW s.1 s.2.1 (p + 1) = fwW s.1 s.2.1 p := if_neg (by rw [hc]; simp)
      simp (decide := true) (disch := first | assumption | omega) only [zi_Model_fold_174, zi_Model_fold_175, zi_Model_fold_178, zi_Model_fold_179, zi_Model_fold_180, zi_Model_fold_183, zi_Model_fold_184, zi_Model_fold_187, zi_Model_fold_188, zi_Model_fold_189, zi_Model_fold_192, zi_Model_fold_282, zi_Model_fold_285, ↓reduceIte, mj_op_s, Option.toList_some, Option.toList_none, List.cons_append, List.nil_append, hp_1, hp_2, true_and, and_true, zb_0, zb_1, zb_b, va_rf, io_256, ↓ogf_256_0, ↓opf_256_0, ↓ogf_256_1, ↓ogf_256_2, ↓ogf_256_3, ↓ogf_256_4, ↓opf_256_4, ↓ogf_256_5, ↓ogf_256_6, ↓ogf_256_7, ↓opf_256_7, ↓ogf_256_8, ↓opf_256_8, ↓ogf_256_9, ↓opf_256_9, ↓ogf_256_10, ↓opf_256_10, ↓ogf_256_11, ↓ogf_256_12, ↓ogf_256_13, ↓ogf_256_14, ↓ogf_256_15, ↓ogf_256_16, ↓ogf_256_17, ↓opf_256_17, ↓ogf_256_18, ↓opf_256_18, ↓ogf_256_19, ↓ogf_256_20, ↓ogf_256_21, ↓ogf_256_22, ↓opf_256_22_0, ↓opf_256_22_1, ↓ogf_256_23, ↓opf_256_23, ↓ogf_256_24, ↓ogf_256_25, ↓opf_256_25_0, ↓opf_256_25_1, ↓ogf_256_26, ↓opf_256_26, ↓ogf_256_27, ↓opf_256_27, ↓ogf_256_28, ↓opf_256_28, ↓ogf_256_29, ↓ogf_256_30, ↓ogf_256_31, ↓ogf_256_32, ↓ogf_256_33, ↓ogf_256_34, ↓oai_257, ↓owi_257, ↓oaz_268, ↓owz_268, r0, e1, r4, nI_add]
      exact ih (p + 1) M' _ _ (by omega) hv (by rw [eW]; exact hV)
theorem c_Model_fold (hr : r < 44) (ht : t < 44) (hne : r ≠ t) (hR : hasM M r len A) (hok : okR len A) {b0 : Bool} (hb : rI M 256 22 = b1 b0) (hw : rI M 256 25 = b1 wf) (hV : wf = true → hasV M w0) (hend : ∀ M' b2, sv (dsP t wf) M M' → rI M' 256 22 = b1 b2 → hasM M' t (psA 0 len A).1 (psA 0 len A).2 → (wf = true → hasV M' (psW 0 len A)) → Q none (hp M')) : mj_V (d + 5) lim mq_Model_fold 0 [.ref 256, .int (nI r), .int (nI t), mj_j, mj_j, mj_j] [] (hp M) Q := by
  have h50 := hok.1
  simp only [zi_Model_fold_0, zi_Model_fold_1, zi_Model_fold_2, ↓reduceIte, mj_op_s, Option.toList_some, Option.toList_none, List.cons_append, List.nil_append, hp_1, hp_2, true_and, and_true, zb_0, zb_1, zb_b, va_rf, io_256, ↓ogf_256_0, ↓opf_256_0, ↓ogf_256_1, ↓ogf_256_2, ↓ogf_256_3, ↓ogf_256_4, ↓opf_256_4, ↓ogf_256_5, ↓ogf_256_6, ↓ogf_256_7, ↓opf_256_7, ↓ogf_256_8, ↓opf_256_8, ↓ogf_256_9, ↓opf_256_9, ↓ogf_256_10, ↓opf_256_10, ↓ogf_256_11, ↓ogf_256_12, ↓ogf_256_13, ↓ogf_256_14, ↓ogf_256_15, ↓ogf_256_16, ↓ogf_256_17, ↓opf_256_17, ↓ogf_256_18, ↓opf_256_18, ↓ogf_256_19, ↓ogf_256_20, ↓ogf_256_21, ↓ogf_256_22, ↓opf_256_22_0, ↓opf_256_22_1, ↓ogf_256_23, ↓opf_256_23, ↓ogf_256_24, ↓ogf_256_25, ↓opf_256_25_0, ↓opf_256_25_1, ↓ogf_256_26, ↓opf_256_26, ↓ogf_256_27, ↓opf_256_27, ↓ogf_256_28, ↓opf_256_28, ↓ogf_256_29, ↓ogf_256_30, ↓ogf_256_31, ↓ogf_256_32, ↓ogf_256_33, ↓ogf_256_34]
  refine c_Model_know hr hR hok hb (fun M1 s bh hv1 hT1 hL => ?_)
  have hR1 := km_hasM hv1 hR
  simp only [zi_Model_fold_5, zi_Model_fold_6, zi_Model_fold_7, zi_Model_fold_8, ↓reduceIte, mj_op_s, Option.toList_some, Option.toList_none, List.cons_append, List.nil_append, hp_1, hp_2, true_and, and_true, zb_0, zb_1, zb_b, va_rf, io_256, ↓ogf_256_0, ↓opf_256_0, ↓ogf_256_1, ↓ogf_256_2, ↓ogf_256_3, ↓ogf_256_4, ↓opf_256_4, ↓ogf_256_5, ↓ogf_256_6, ↓ogf_256_7, ↓opf_256_7, ↓ogf_256_8, ↓opf_256_8, ↓ogf_256_9, ↓opf_256_9, ↓ogf_256_10, ↓opf_256_10, ↓ogf_256_11, ↓ogf_256_12, ↓ogf_256_13, ↓ogf_256_14, ↓ogf_256_15, ↓ogf_256_16, ↓ogf_256_17, ↓opf_256_17, ↓ogf_256_18, ↓opf_256_18, ↓ogf_256_19, ↓ogf_256_20, ↓ogf_256_21, ↓ogf_256_22, ↓opf_256_22_0, ↓opf_256_22_1, ↓ogf_256_23, ↓opf_256_23, ↓ogf_256_24, ↓ogf_256_25, ↓opf_256_25_0, ↓opf_256_25_1, ↓ogf_256_26, ↓opf_256_26, ↓ogf_256_27, ↓opf_256_27, ↓ogf_256_28, ↓opf_256_28, ↓ogf_256_29, ↓ogf_256_30, ↓ogf_256_31, ↓ogf_256_32, ↓ogf_256_33, ↓ogf_256_34]
  refine c_Model_copy hr ht hne hR1 h50 (fun M2 hv2 hC2 => ?_)
  simp only [zi_Model_fold_11, zi_Model_fold_12, ↓reduceIte, mj_op_s, Option.toList_some, Option.toList_none, List.cons_append, List.nil_append, hp_1, hp_2, true_and, and_true, zb_0, zb_1, zb_b, va_rf]
  have hR2 := mr_M hv2 hne h50 hR1
  refine l_mfold_1 (d := d + 2) (M := M2) hr ht hne hR2 hok (fun M3 bh3 y4 y5 hv3 hT3 hC3 => ?_) len 0 M2 bh _ _ (by omega) sv_refl (kmS_sv hv2 mr_km hT1) (by rw [mx_0]; exact hC2)
  simp only [zi_Model_fold_171, zi_Model_fold_172, ↓reduceIte, mj_op_s, Option.toList_some, Option.toList_none, List.cons_append, List.nil_append, hp_1, hp_2, true_and, and_true, zb_0, zb_1, zb_b, va_rf]
  have hR3 := fm_M hv3 hne h50 hR2
  have hv4 : sv (dsP t wf) M M3 := sv_trans (sv_mono hv1 (fun i k h => Or.inr (Or.inl h))) (sv_trans (sv_mono hv2 (fun i k h => Or.inl h)) (sv_mono hv3 (fun i k h => by unfold fmP at h; unfold dsP kmP; omega)))
  have hw3 : rI M3 256 25 = b1 wf := (sv_I hv4 (by unfold dsP mrP kmP mwP; omega)).trans hw
  have hV3 : wf = true → hasV M3 w0 := fun z => by
    have h := hV z
    refine ⟨?_, fun i hi => by have : i < 0 := hi; omega⟩
    rw [sv_I hv3 (by unfold fmP mrP; omega), sv_I hv2 (by unfold mrP; omega), sv_I hv1 (by unfold kmP; omega)]
    exact h.1
  refine l_mfold_2 (d := d + 3) (M := M3) hr hR3 h50 hw3 hT3 (fun M4 hv5 hV4 => ?_) (len + 1) 0 M3 _ _ (by omega) sv_refl hV3
  refine hend M4 s.2.2.2 (sv_trans hv4 (sv_mono hv5 (fun i k h => Or.inr (Or.inr (Or.inr (Or.inr h)))))) (mw_kmS hv5 hT3).2.2.2.1 ?_ (fun z => ?_)
  · exact mw_M hv5 (hasM_cong hC3 (fun q hq j _ => fdA_one hok hL hq))
  · have h := hV4 z
    rw [fwW_one hL _ (Nat.le_refl _)] at h
    exact h
end C85
