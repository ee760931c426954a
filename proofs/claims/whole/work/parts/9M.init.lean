/-! the constructors: those that make others -/
section C9M
variable {d : Nat} {lim : Nat × Nat} {Q : mj_Q} {T T2 f g g2 : Nat → mj_X} {n c m s N ci k r i : Nat} {x y : mj_X} {fs : List Value} {F : mj_H → Prop} {W : Nat × (Nat → Int32)} {v : Value}
theorem fl_0 : (mj_fs 0).length = 5 := rfl
theorem fl_1 : (mj_fs 1).length = 7 := rfl
theorem fl_2 : (mj_fs 2).length = 2 := rfl
theorem fl_3 : (mj_fs 3).length = 1 := rfl
theorem fl_4 : (mj_fs 4).length = 6 := rfl
theorem fl_5 : (mj_fs 5).length = 7 := rfl
theorem fl_6 : (mj_fs 6).length = 5 := rfl
theorem fl_7 : (mj_fs 7).length = 10 := rfl
theorem fl_8 : (mj_fs 8).length = 7 := rfl
theorem fl_9 : (mj_fs 9).length = 8 := rfl
theorem fl_10 : (mj_fs 10).length = 35 := rfl
theorem gf_go {F : Value → Prop} (h : g n = .inr (ci, fs)) (hv : fs[k]? = some v) (hF : F v) : mj_op (mj_gf (m, s, g) n ci k) F := by
  have e : mj_gf (m, s, g) n ci k = some v := by
    unfold mj_gf
    show (match g n with
      | .inr (c, fs) => if c = ci then fs[k]? else none
      | .inl _ => none) = _
    rw [h]
    exact (if_pos rfl).trans hv
  rw [e]
  exact hF
theorem bd_T (h : bd T f n g x c) (he : ∀ i, n < i → i ≤ n + c → T i = T2 i) : bd T2 f n g x c := ⟨h.1, h.2.1, fun i h1 h2 => (h.2.2.1 i h1 h2).trans (he i h1 h2), h.2.2.2⟩
theorem rt240 : isRt 240 := Or.inr (Or.inr (Or.inr (Or.inl rfl)))
theorem rt248 : isRt 248 := Or.inr (Or.inr (Or.inr (Or.inr rfl)))
set_option maxRecDepth 20000 in
theorem k_Side239 (hf : f 239 = .inr (7, mj_fs 7)) (h1 : 246 ≤ lim.1) (h2 : s + 221 ≤ lim.2) (hend : ∀ g s2, s2 = s + 221 → bd (Tg W) f 239 g (Tg W 239) 7 → Q none (246, s2, g)) : mj_V (d + 1) lim mq_Side_init 0 [.ref 239, .int (nI 3)] [] (239, s, f) Q := by
  have hS := bd_0 (T := Tg W) hf
  simp (decide := true) (disch := omega) only [zi_Side_init_0, zi_Side_init_1, zi_Side_init_4, zi_Side_init_5, zi_Side_init_6, zi_Side_init_9, zi_Side_init_10, zi_Side_init_13, ↓reduceIte, mj_op_s, Option.toList_some, Option.toList_none, List.cons_append, List.nil_append, hp_1, hp_2, true_and, and_true, zb_0, zb_1, zb_b, va_rf, fl_0, fl_1, fl_2, fl_3, fl_4, fl_5, fl_6, fl_7, fl_8, fl_9, fl_10]
  refine pf_go (n := 239) hS (Nat.le_of_ble_eq_true rfl) rfl (fun g hS => ?_)
  refine new_go (n := 239) (c := 0) hS rfl (by omega) (by omega) (fun g1 e1 e2 => ?_)
  refine zi_Side_init_14 4 200 (by show 244 ≤ lim.1; omega) (by show _ + 5 + 200 ≤ lim.2; omega) ?_
  refine k_Routine (W := W) rt240 e1 (Nat.le_refl _) (Nat.le_refl _) (fun g2 s1 hs1 hS2 => ⟨rfl, hs1, ?_⟩)
  replace hS := bd_new (n := 239) (c := 0) hS e2 hS2 rfl
  simp (decide := true) (disch := omega) only [zi_Side_init_17, zi_Side_init_20, zi_Side_init_21, zi_Side_init_22, zi_Side_init_25, zi_Side_init_26, zi_Side_init_28, zi_Side_init_30, zi_Side_init_33, zi_Side_init_34, zi_Side_init_36, zi_Side_init_38, zi_Side_init_41, zi_Side_init_42, zi_Side_init_43, zi_Side_init_46, zi_Side_init_47, zi_Side_init_48, zi_Side_init_51, zi_Side_init_52, zi_Side_init_53, zi_Side_init_56, zi_Side_init_57, zi_Side_init_58, zi_Side_init_61, zi_Side_init_62, zi_Side_init_63, zi_Side_init_66, ↓reduceIte, mj_op_s, Option.toList_some, Option.toList_none, List.cons_append, List.nil_append, hp_1, hp_2, true_and, and_true, zb_0, zb_1, zb_b, va_rf, fl_0, fl_1, fl_2, fl_3, fl_4, fl_5, fl_6, fl_7, fl_8, fl_9, fl_10]
  refine pf_go (n := 239) hS (Nat.le_of_ble_eq_true rfl) (ok_ry rfl) (fun g hS => ?_)
  refine pf_go (n := 239) hS (Nat.le_of_ble_eq_true rfl) rfl (fun g hS => ?_)
  refine arr_go (n := 239) (c := 5) hS rfl Tg_245 (by omega) (by omega) (Nat.le_of_ble_eq_true rfl) rfl rfl (fun g hS => ?_)
  refine arr_go (n := 239) (c := 6) hS rfl Tg_246 (by omega) (by omega) (Nat.le_of_ble_eq_true rfl) rfl rfl (fun g hS => ?_)
  refine pf_go (n := 239) hS (Nat.le_of_ble_eq_true rfl) rfl (fun g hS => ?_)
  refine pf_go (n := 239) hS (Nat.le_of_ble_eq_true rfl) rfl (fun g hS => ?_)
  refine pf_go (n := 239) hS (Nat.le_of_ble_eq_true rfl) rfl (fun g hS => ?_)
  refine pf_go (n := 239) hS (Nat.le_of_ble_eq_true rfl) rfl (fun g hS => ?_)
  refine pf_go (n := 239) hS (Nat.le_of_ble_eq_true rfl) rfl (fun g hS => ?_)
  exact hend _ _ (by omega) hS
set_option maxRecDepth 20000 in
theorem k_Side247 (hf : f 247 = .inr (7, mj_fs 7)) (h1 : 254 ≤ lim.1) (h2 : s + 221 ≤ lim.2) (hend : ∀ g s2, s2 = s + 221 → bd (Tg W) f 247 g (Tg W 247) 7 → Q none (254, s2, g)) : mj_V (d + 1) lim mq_Side_init 0 [.ref 247, .int (nI 4)] [] (247, s, f) Q := by
  have hS := bd_0 (T := Tg W) hf
  simp (decide := true) (disch := omega) only [zi_Side_init_0, zi_Side_init_1, zi_Side_init_4, zi_Side_init_5, zi_Side_init_6, zi_Side_init_9, zi_Side_init_10, zi_Side_init_13, ↓reduceIte, mj_op_s, Option.toList_some, Option.toList_none, List.cons_append, List.nil_append, hp_1, hp_2, true_and, and_true, zb_0, zb_1, zb_b, va_rf, fl_0, fl_1, fl_2, fl_3, fl_4, fl_5, fl_6, fl_7, fl_8, fl_9, fl_10]
  refine pf_go (n := 247) hS (Nat.le_of_ble_eq_true rfl) rfl (fun g hS => ?_)
  refine new_go (n := 247) (c := 0) hS rfl (by omega) (by omega) (fun g1 e1 e2 => ?_)
  refine zi_Side_init_14 4 200 (by show 252 ≤ lim.1; omega) (by show _ + 5 + 200 ≤ lim.2; omega) ?_
  refine k_Routine (W := W) rt248 e1 (Nat.le_refl _) (Nat.le_refl _) (fun g2 s1 hs1 hS2 => ⟨rfl, hs1, ?_⟩)
  replace hS := bd_new (n := 247) (c := 0) hS e2 hS2 rfl
  simp (decide := true) (disch := omega) only [zi_Side_init_17, zi_Side_init_20, zi_Side_init_21, zi_Side_init_22, zi_Side_init_25, zi_Side_init_26, zi_Side_init_28, zi_Side_init_30, zi_Side_init_33, zi_Side_init_34, zi_Side_init_36, zi_Side_init_38, zi_Side_init_41, zi_Side_init_42, zi_Side_init_43, zi_Side_init_46, zi_Side_init_47, zi_Side_init_48, zi_Side_init_51, zi_Side_init_52, zi_Side_init_53, zi_Side_init_56, zi_Side_init_57, zi_Side_init_58, zi_Side_init_61, zi_Side_init_62, zi_Side_init_63, zi_Side_init_66, ↓reduceIte, mj_op_s, Option.toList_some, Option.toList_none, List.cons_append, List.nil_append, hp_1, hp_2, true_and, and_true, zb_0, zb_1, zb_b, va_rf, fl_0, fl_1, fl_2, fl_3, fl_4, fl_5, fl_6, fl_7, fl_8, fl_9, fl_10]
  refine pf_go (n := 247) hS (Nat.le_of_ble_eq_true rfl) (ok_ry rfl) (fun g hS => ?_)
  refine pf_go (n := 247) hS (Nat.le_of_ble_eq_true rfl) rfl (fun g hS => ?_)
  refine arr_go (n := 247) (c := 5) hS rfl Tg_253 (by omega) (by omega) (Nat.le_of_ble_eq_true rfl) rfl rfl (fun g hS => ?_)
  refine arr_go (n := 247) (c := 6) hS rfl Tg_254 (by omega) (by omega) (Nat.le_of_ble_eq_true rfl) rfl rfl (fun g hS => ?_)
  refine pf_go (n := 247) hS (Nat.le_of_ble_eq_true rfl) rfl (fun g hS => ?_)
  refine pf_go (n := 247) hS (Nat.le_of_ble_eq_true rfl) rfl (fun g hS => ?_)
  refine pf_go (n := 247) hS (Nat.le_of_ble_eq_true rfl) rfl (fun g hS => ?_)
  refine pf_go (n := 247) hS (Nat.le_of_ble_eq_true rfl) rfl (fun g hS => ?_)
  refine pf_go (n := 247) hS (Nat.le_of_ble_eq_true rfl) rfl (fun g hS => ?_)
  exact hend _ _ (by omega) hS
set_option maxRecDepth 20000 in
theorem k_Passes (hf : f 212 = .inr (4, mj_fs 4)) (h1 : 226 ≤ lim.1) (h2 : s + 565 ≤ lim.2) (hend : ∀ g s2, s2 = s + 565 → bd (Tg W) f 212 g (Tg W 212) 14 → Q none (226, s2, g)) : mj_V (d + 1) lim mq_Passes_init 0 [.ref 212, .ref 203, .ref 210] [] (212, s, f) Q := by
  have hS := bd_0 (T := Tg W) hf
  simp (decide := true) (disch := omega) only [zi_Passes_init_0, zi_Passes_init_1, zi_Passes_init_4, zi_Passes_init_5, zi_Passes_init_6, zi_Passes_init_9, zi_Passes_init_10, zi_Passes_init_11, zi_Passes_init_14, zi_Passes_init_15, zi_Passes_init_18, ↓reduceIte, mj_op_s, Option.toList_some, Option.toList_none, List.cons_append, List.nil_append, hp_1, hp_2, true_and, and_true, zb_0, zb_1, zb_b, va_rf, fl_0, fl_1, fl_2, fl_3, fl_4, fl_5, fl_6, fl_7, fl_8, fl_9, fl_10]
  refine pf_go (n := 212) hS (Nat.le_of_ble_eq_true rfl) (ok_ry rfl) (fun g hS => ?_)
  refine pf_go (n := 212) hS (Nat.le_of_ble_eq_true rfl) (ok_ry rfl) (fun g hS => ?_)
  refine new_go (n := 212) (c := 0) hS rfl (by omega) (by omega) (fun g1 e1 e2 => ?_)
  refine zi_Passes_init_19 2 102 (by show 215 ≤ lim.1; omega) (by show _ + 2 + 102 ≤ lim.2; omega) ?_
  refine k_Leads (W := W) e1 (Nat.le_refl _) (Nat.le_refl _) (fun g2 s1 hs1 hS2 => ⟨rfl, hs1, ?_⟩)
  replace hS := bd_new (n := 212) (c := 0) hS e2 hS2 rfl
  simp (decide := true) (disch := omega) only [zi_Passes_init_22, zi_Passes_init_25, zi_Passes_init_26, zi_Passes_init_28, zi_Passes_init_30, zi_Passes_init_33, zi_Passes_init_34, zi_Passes_init_37, ↓reduceIte, mj_op_s, Option.toList_some, Option.toList_none, List.cons_append, List.nil_append, hp_1, hp_2, true_and, and_true, zb_0, zb_1, zb_b, va_rf, fl_0, fl_1, fl_2, fl_3, fl_4, fl_5, fl_6, fl_7, fl_8, fl_9, fl_10]
  refine pf_go (n := 212) hS (Nat.le_of_ble_eq_true rfl) (ok_ry rfl) (fun g hS => ?_)
  refine arr_go (n := 212) (c := 3) hS rfl Tg_216 (by omega) (by omega) (Nat.le_of_ble_eq_true rfl) rfl rfl (fun g hS => ?_)
  refine new_go (n := 212) (c := 4) hS rfl (by omega) (by omega) (fun g1 e1 e2 => ?_)
  refine zi_Passes_init_38 4 200 (by show 221 ≤ lim.1; omega) (by show _ + 5 + 200 ≤ lim.2; omega) ?_
  refine k_Routine (W := W) rt217 e1 (Nat.le_refl _) (Nat.le_refl _) (fun g2 s2 hs2 hS2 => ⟨rfl, hs2, ?_⟩)
  replace hS := bd_new (n := 212) (c := 4) hS e2 hS2 rfl
  simp (decide := true) (disch := omega) only [zi_Passes_init_41, zi_Passes_init_44, zi_Passes_init_45, zi_Passes_init_48, ↓reduceIte, mj_op_s, Option.toList_some, Option.toList_none, List.cons_append, List.nil_append, hp_1, hp_2, true_and, and_true, zb_0, zb_1, zb_b, va_rf, fl_0, fl_1, fl_2, fl_3, fl_4, fl_5, fl_6, fl_7, fl_8, fl_9, fl_10]
  refine pf_go (n := 212) hS (Nat.le_of_ble_eq_true rfl) (ok_ry rfl) (fun g hS => ?_)
  refine new_go (n := 212) (c := 9) hS rfl (by omega) (by omega) (fun g1 e1 e2 => ?_)
  refine zi_Passes_init_49 4 200 (by show 226 ≤ lim.1; omega) (by show _ + 5 + 200 ≤ lim.2; omega) ?_
  refine k_Routine (W := W) rt222 e1 (Nat.le_refl _) (Nat.le_refl _) (fun g2 s3 hs3 hS2 => ⟨rfl, hs3, ?_⟩)
  replace hS := bd_new (n := 212) (c := 9) hS e2 hS2 rfl
  simp (decide := true) (disch := omega) only [zi_Passes_init_52, zi_Passes_init_55, ↓reduceIte, mj_op_s, Option.toList_some, Option.toList_none, List.cons_append, List.nil_append, hp_1, hp_2, true_and, and_true, zb_0, zb_1, zb_b, va_rf, fl_0, fl_1, fl_2, fl_3, fl_4, fl_5, fl_6, fl_7, fl_8, fl_9, fl_10]
  refine pf_go (n := 212) hS (Nat.le_of_ble_eq_true rfl) (ok_ry rfl) (fun g hS => ?_)
  exact hend _ _ (by omega) hS
set_option maxRecDepth 20000 in
theorem k_Judge (hf : f 238 = .inr (0, mj_fs 0)) (h1 : 255 ≤ lim.1) (h2 : s + 3063 ≤ lim.2) (hend : ∀ g s2, s2 = s + 3063 → bd (Tg W) f 238 g (Tg W 238) 17 → Q none (255, s2, g)) : mj_V (d + 2) lim mq_Judge_init 0 [.ref 238, .ref 231] [] (238, s, f) Q := by
  have hS := bd_0 (T := Tg W) hf
  simp (decide := true) (disch := omega) only [zi_Judge_init_0, zi_Judge_init_1, zi_Judge_init_4, zi_Judge_init_5, zi_Judge_init_6, zi_Judge_init_9, zi_Judge_init_10, zi_Judge_init_13, zi_Judge_init_14, ↓reduceIte, mj_op_s, Option.toList_some, Option.toList_none, List.cons_append, List.nil_append, hp_1, hp_2, true_and, and_true, zb_0, zb_1, zb_b, va_rf, fl_0, fl_1, fl_2, fl_3, fl_4, fl_5, fl_6, fl_7, fl_8, fl_9, fl_10]
  refine pf_go (n := 238) hS (Nat.le_of_ble_eq_true rfl) (ok_ry rfl) (fun g hS => ?_)
  refine new_go (n := 238) (c := 0) hS rfl (by omega) (by omega) (fun g1 e1 e2 => ?_)
  refine zi_Judge_init_15 7 221 (by show 246 ≤ lim.1; omega) (by show _ + 10 + 221 ≤ lim.2; omega) ?_
  refine k_Side239 (W := W) e1 (Nat.le_refl _) (Nat.le_refl _) (fun g2 s1 hs1 hS2 => ⟨rfl, hs1, ?_⟩)
  replace hS := bd_new (n := 238) (c := 0) hS e2 hS2 rfl
  simp (decide := true) (disch := omega) only [zi_Judge_init_18, zi_Judge_init_21, zi_Judge_init_22, zi_Judge_init_25, zi_Judge_init_26, ↓reduceIte, mj_op_s, Option.toList_some, Option.toList_none, List.cons_append, List.nil_append, hp_1, hp_2, true_and, and_true, zb_0, zb_1, zb_b, va_rf, fl_0, fl_1, fl_2, fl_3, fl_4, fl_5, fl_6, fl_7, fl_8, fl_9, fl_10]
  refine pf_go (n := 238) hS (Nat.le_of_ble_eq_true rfl) (ok_ry rfl) (fun g hS => ?_)
  refine new_go (n := 238) (c := 8) hS rfl (by omega) (by omega) (fun g1 e1 e2 => ?_)
  refine zi_Judge_init_27 7 221 (by show 254 ≤ lim.1; omega) (by show _ + 10 + 221 ≤ lim.2; omega) ?_
  refine k_Side247 (W := W) e1 (Nat.le_refl _) (Nat.le_refl _) (fun g2 s2 hs2 hS2 => ⟨rfl, hs2, ?_⟩)
  replace hS := bd_new (n := 238) (c := 8) hS e2 hS2 rfl
  simp (decide := true) (disch := omega) only [zi_Judge_init_30, zi_Judge_init_33, zi_Judge_init_34, zi_Judge_init_37, zi_Judge_init_39, zi_Judge_init_42, zi_Judge_init_43, zi_Judge_init_44, zi_Judge_init_47, ↓reduceIte, mj_op_s, Option.toList_some, Option.toList_none, List.cons_append, List.nil_append, hp_1, hp_2, true_and, and_true, zb_0, zb_1, zb_b, va_rf, fl_0, fl_1, fl_2, fl_3, fl_4, fl_5, fl_6, fl_7, fl_8, fl_9, fl_10]
  refine pf_go (n := 238) hS (Nat.le_of_ble_eq_true rfl) (ok_ry rfl) (fun g hS => ?_)
  refine arr_go (n := 238) (c := 16) hS rfl Tg_255 (by omega) (by omega) (Nat.le_of_ble_eq_true rfl) rfl rfl (fun g hS => ?_)
  refine pf_go (n := 238) hS (Nat.le_of_ble_eq_true rfl) rfl (fun g hS => ?_)
  exact hend _ _ (by omega) hS
end C9M
