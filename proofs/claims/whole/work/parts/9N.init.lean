/-! PassCourt's constructor; the law from its start -/
def Tj (W : Nat × (Nat → Int32)) (j i : Nat) : mj_X := if i = 2 then .inl (.object "PassCourt$Routine", 40, .inr (.inr (.inr (.inr (fun k => if k < j then some (3 + 5 * k) else none))))) else Tg W i
section C9N
variable {d : Nat} {lim : Nat × Nat} {Q : mj_Q} {T T2 f g g2 : Nat → mj_X} {n c m s N ci k r i a : Nat} {x y : mj_X} {fs : List Value} {F : mj_H → Prop} {W : Nat × (Nat → Int32)} {v : Value}
theorem wa_go {hh : Nat → Option Nat} (h : g a = .inl (.object "PassCourt$Routine", 40, .inr (.inr (.inr (.inr hh))))) (ha : a ≠ 0) (hk : k < 40) (hio : mj_io (m, s, g) r 6 = true) (hF : F (m, s, va_up g a (.inl (.object "PassCourt$Routine", 40, .inr (.inr (.inr (.inr (va_up hh k (some r))))))))) : mj_op (mj_wa (m, s, g) a (nI k) r) F := by
  have ek := nI_clamp (n := k) (by omega)
  have e : mj_wa (m, s, g) a (nI k) r = some (m, s, va_up g a (.inl (.object "PassCourt$Routine", 40, .inr (.inr (.inr (.inr (va_up hh k (some r)))))))) := by
    unfold mj_wa
    rw [show (m, s, g).2.2 a = .inl (.object "PassCourt$Routine", 40, .inr (.inr (.inr (.inr hh)))) from h]
    show (if a = 0 ∨ nI k < 0 ∨ 40 ≤ (nI k).toNatClampNeg ∨ mj_io (m, s, g) r 6 = false then none else some (mj_up (m, s, g) a (.inl (.object "PassCourt$Routine", 40, .inr (.inr (.inr (.inr (va_up hh (nI k).toNatClampNeg (some r))))))))) = _
    rw [if_neg, ek]
    · rfl
    · rintro (z | z | z | z)
      · exact ha z
      · exact nI_pos (by omega) z
      · omega
      · rw [hio] at z; cases z
  rw [e]
  exact hF
theorem bd_set (h : bd T f n g x c) (h1 : n < a) (h2 : a ≤ n + c) (hy : T2 a = y) (hT : ∀ i, i ≠ a → T2 i = T i) : bd T2 f n (va_up g a y) x c := by
  obtain ⟨a1, a2, a3, a4⟩ := h
  refine ⟨fun i hi => (va_2 (by omega)).trans (a1 i hi), (va_2 (by omega)).trans a2, fun i k1 k2 => ?_, fun i hi => (va_2 (by omega)).trans (a4 i hi)⟩
  by_cases e : i = a
  · subst e; rw [va_1, hy]
  · rw [va_2 e, hT i e]; exact a3 i k1 k2
theorem l_court (hlim : 255 ≤ lim.1) (hl2 : s + 8200 ≤ lim.2) (hend : ∀ g s2 (x1 : Int32), s2 = s + 8200 → bd (Tg W) f 1 g (.inr (9, (mj_fs 9).set 0 (.ref 2))) 201 → mj_V (d + 3) lim mq_Court_init 40 [.ref 1, .int x1] [] (202, s2, g) Q) : ∀ (n j m : Nat) (g : Nat → mj_X) (s2 : Nat), j + n = 40 → m = 2 + 5 * j → s2 = s + 205 * j → bd (Tj W j) f 1 g (.inr (9, (mj_fs 9).set 0 (.ref 2))) (1 + 5 * j) → mj_V (d + 3) lim mq_Court_init 15 [.ref 1, .int (nI j)] [] (m, s2, g) Q := by
  intro n
  induction n with
  | zero =>
    intro j m g s2 hj hm hs hS
    obtain rfl : j = 40 := by omega
    obtain rfl : m = 202 := by omega
    rw [zi_Court_init_15]
    simp (decide := true) (disch := omega) only [zi_Court_init_16, zi_Court_init_18, ↓reduceIte, mj_op_s, Option.toList_some, Option.toList_none, List.cons_append, List.nil_append, hp_1, hp_2, true_and, and_true, zb_0, zb_1, zb_b, va_rf]
    refine hend g s2 _ (by omega) (bd_T hS (fun i _ _ => ?_))
    unfold Tj
    by_cases e : i = 2
    · subst e; rfl
    · rw [if_neg e]
  | succ n ih =>
    intro j m g s2 hj hm hs hS
    obtain rfl : m = 1 + (1 + 5 * j) := by omega
    have hj40 : j < 40 := by omega
    have e1 : nI j < nI 40 := nI_lt (by omega) (by omega)
    have en : 1 + (1 + 5 * j) + 1 = 3 + 5 * j := by omega
    have rt : isRt (1 + (1 + 5 * j) + 1) := by rw [en]; exact isRt_n hj40
    have hTne : ∀ i, i ≠ 2 → Tj W j i = Tg W i := fun i hi => if_neg hi
    rw [zi_Court_init_15]
    simp (decide := true) (disch := omega) only [zi_Court_init_16, zi_Court_init_18, zi_Court_init_21, zi_Court_init_22, ↓reduceIte, mj_op_s, Option.toList_some, Option.toList_none, List.cons_append, List.nil_append, hp_1, hp_2, true_and, and_true, zb_0, zb_1, zb_b, va_rf, e1]
    refine gf_go (n := 1) hS.2.1 rfl ?_
    simp (decide := true) (disch := omega) only [zi_Court_init_25, zi_Court_init_26, zi_Court_init_29, ↓reduceIte, mj_op_s, Option.toList_some, Option.toList_none, List.cons_append, List.nil_append, hp_1, hp_2, true_and, and_true, zb_0, zb_1, zb_b, va_rf, fl_0, fl_1, fl_2, fl_3, fl_4, fl_5, fl_6, fl_7, fl_8, fl_9, fl_10]
    refine new_go (n := 1) (c := 1 + 5 * j) hS rfl (by omega) (by omega) (fun g1 e2 e3 => ?_)
    refine zi_Court_init_30 4 200 (by show 1 + (1 + 5 * j) + 1 + 4 ≤ lim.1; omega) (by show s2 + 5 + 200 ≤ lim.2; omega) ?_
    refine k_Routine (W := W) rt e2 (Nat.le_refl _) (Nat.le_refl _) (fun g2 s3 hs3 hS2 => ⟨rfl, hs3, ?_⟩)
    have hS3 := bd_new (n := 1) (c := 1 + 5 * j) hS e3 (bd_T hS2 (fun i h1 _ => (hTne i (by omega)).symm)) (hTne _ (by omega))
    have h2 : g2 2 = Tj W j 2 := hS3.2.2.1 2 (by omega) (by omega)
    have h2 : g2 2 = .inl (.object "PassCourt$Routine", 40, .inr (.inr (.inr (.inr (fun k => if k < j then some (3 + 5 * k) else none))))) := h2.trans (if_pos rfl)
    have hio : mj_io (1 + (1 + 5 * j) + 1 + 4, s3, g2) (1 + (1 + 5 * j) + 1) 6 = true := by
      unfold mj_io
      rw [show (1 + (1 + 5 * j) + 1 + 4, s3, g2).2.2 (1 + (1 + 5 * j) + 1) = .inr (6, [.ref (1 + (1 + 5 * j) + 1 + 1), .ref (1 + (1 + 5 * j) + 1 + 2), .ref (1 + (1 + 5 * j) + 1 + 3), .ref (1 + (1 + 5 * j) + 1 + 4), .int (nI 0)]) from hS2.2.1.trans (Tg_rt rt)]
      rfl
    simp (decide := true) (disch := omega) only [zi_Court_init_33, ↓reduceIte, mj_op_s, Option.toList_some, Option.toList_none, List.cons_append, List.nil_append, hp_1, hp_2, true_and, and_true, zb_0, zb_1, zb_b, va_rf]
    refine wa_go h2 (by omega) hj40 hio ?_
    simp (decide := true) (disch := omega) only [zi_Court_init_34, zi_Court_init_37, ↓reduceIte, mj_op_s, Option.toList_some, Option.toList_none, List.cons_append, List.nil_append, hp_1, hp_2, true_and, and_true, zb_0, zb_1, zb_b, va_rf, nI_add]
    refine ih (j + 1) _ _ _ (by omega) (by omega) (by omega) ?_
    have hfun : va_up (fun k => if k < j then some (3 + 5 * k) else none) j (some (1 + (1 + 5 * j) + 1)) = (fun k => if k < j + 1 then some (3 + 5 * k) else none) := by
      funext k
      by_cases e : k = j
      · subst e
        unfold va_up
        rw [if_pos rfl, if_pos (by omega), en]
      · unfold va_up
        rw [if_neg e]
        show (if k < j then some (3 + 5 * k) else none) = _
        by_cases h : k < j
        · rw [if_pos h, if_pos (by omega)]
        · rw [if_neg h, if_neg (by omega)]
    rw [hfun]
    have hc : 1 + 5 * (j + 1) = 1 + 5 * j + 1 + 4 := by omega
    rw [hc]
    exact bd_set hS3 (by omega) (by omega) (if_pos rfl) (fun i hi => (if_neg hi).trans (hTne i hi).symm)
set_option maxRecDepth 20000 in
theorem k_Court (hf : f 1 = .inr (9, mj_fs 9)) (h1 : 255 ≤ lim.1) (h2 : s + 17110 ≤ lim.2) (hend : ∀ g s2, s2 = s + 17110 → bd (Tg W) f 1 g (Tg W 1) 254 → Q none (255, s2, g)) : mj_V (d + 4) lim mq_Court_init 0 [.ref 1, mj_j] [] (1, s, f) Q := by
  have hS := bd_0 (T := Tj W 0) hf
  simp (decide := true) (disch := omega) only [zi_Court_init_0, zi_Court_init_1, zi_Court_init_4, zi_Court_init_5, zi_Court_init_7, zi_Court_init_10, zi_Court_init_13, zi_Court_init_14, ↓reduceIte, mj_op_s, Option.toList_some, Option.toList_none, List.cons_append, List.nil_append, hp_1, hp_2, true_and, and_true, zb_0, zb_1, zb_b, va_rf, fl_0, fl_1, fl_2, fl_3, fl_4, fl_5, fl_6, fl_7, fl_8, fl_9, fl_10]
  have hT0 : Tj W 0 (1 + 0 + 1) = .inl (.object "PassCourt$Routine", 40, .inr (.inr (.inr (.inr (fun _ => none))))) := rfl
  refine arr_go (n := 1) (c := 0) hS rfl hT0 (by omega) (by omega) (Nat.le_of_ble_eq_true rfl) rfl rfl (fun g hS => ?_)
  refine l_court (d := d + 1) (s := s + 40) (W := W) (f := f) (by omega) (by omega) (fun g s1 x1 hs1 hS => ?_) 40 0 _ g _ (by omega) rfl (by omega) hS
  simp (decide := true) (disch := omega) only [zi_Court_init_40, zi_Court_init_41, zi_Court_init_42, zi_Court_init_45, zi_Court_init_46, zi_Court_init_49, ↓reduceIte, mj_op_s, Option.toList_some, Option.toList_none, List.cons_append, List.nil_append, hp_1, hp_2, true_and, and_true, zb_0, zb_1, zb_b, va_rf, fl_0, fl_1, fl_2, fl_3, fl_4, fl_5, fl_6, fl_7, fl_8, fl_9, fl_10]
  refine pf_go (n := 1) hS (Nat.le_of_ble_eq_true rfl) rfl (fun g hS => ?_)
  refine new_go (n := 1) (c := 201) hS rfl (by omega) (by omega) (fun g1 e1 e2 => ?_)
  refine zi_Court_init_50 6 934 (by show 209 ≤ lim.1; omega) (by show _ + 7 + 934 ≤ lim.2; omega) ?_
  refine k_Knowledge (W := W) e1 (Nat.le_refl _) (Nat.le_refl _) (fun g2 s2 hs2 hS2 => ⟨rfl, hs2, ?_⟩)
  replace hS := bd_new (n := 1) (c := 201) hS e2 hS2 rfl
  simp (decide := true) (disch := omega) only [zi_Court_init_53, zi_Court_init_56, zi_Court_init_57, zi_Court_init_60, ↓reduceIte, mj_op_s, Option.toList_some, Option.toList_none, List.cons_append, List.nil_append, hp_1, hp_2, true_and, and_true, zb_0, zb_1, zb_b, va_rf, fl_0, fl_1, fl_2, fl_3, fl_4, fl_5, fl_6, fl_7, fl_8, fl_9, fl_10]
  refine pf_go (n := 1) hS (Nat.le_of_ble_eq_true rfl) (ok_ry rfl) (fun g hS => ?_)
  refine new_go (n := 1) (c := 208) hS rfl (by omega) (by omega) (fun g1 e1 e2 => ?_)
  refine zi_Court_init_61 1 51 (by show 211 ≤ lim.1; omega) (by show _ + 1 + 51 ≤ lim.2; omega) ?_
  refine k_Liveness (W := W) e1 (Nat.le_refl _) (Nat.le_refl _) (fun g2 s3 hs3 hS2 => ⟨rfl, hs3, ?_⟩)
  replace hS := bd_new (n := 1) (c := 208) hS e2 hS2 rfl
  simp (decide := true) (disch := omega) only [zi_Court_init_64, zi_Court_init_67, zi_Court_init_68, zi_Court_init_71, ↓reduceIte, mj_op_s, Option.toList_some, Option.toList_none, List.cons_append, List.nil_append, hp_1, hp_2, true_and, and_true, zb_0, zb_1, zb_b, va_rf, fl_0, fl_1, fl_2, fl_3, fl_4, fl_5, fl_6, fl_7, fl_8, fl_9, fl_10]
  refine pf_go (n := 1) hS (Nat.le_of_ble_eq_true rfl) (ok_ry rfl) (fun g hS => ?_)
  refine new_go (n := 1) (c := 210) hS rfl (by omega) (by omega) (fun g1 e1 e2 => ?_)
  simp (decide := true) (disch := omega) only [zi_Court_init_72, zi_Court_init_73, zi_Court_init_76, zi_Court_init_77, ↓reduceIte, mj_op_s, Option.toList_some, Option.toList_none, List.cons_append, List.nil_append, hp_1, hp_2, true_and, and_true, zb_0, zb_1, zb_b, va_rf, fl_0, fl_1, fl_2, fl_3, fl_4, fl_5, fl_6, fl_7, fl_8, fl_9, fl_10]
  have o1 := (e2 1 (by omega)).trans hS.2.1
  refine gf_go (n := 1) o1 rfl ?_
  refine gf_go (n := 1) o1 rfl ?_
  refine zi_Court_init_80 14 565 (by show 226 ≤ lim.1; omega) (by show _ + 6 + 565 ≤ lim.2; omega) ?_
  refine k_Passes (W := W) e1 (Nat.le_refl _) (Nat.le_refl _) (fun g2 s4 hs4 hS2 => ⟨rfl, hs4, ?_⟩)
  replace hS := bd_new (n := 1) (c := 210) hS e2 hS2 rfl
  simp (decide := true) (disch := omega) only [zi_Court_init_83, zi_Court_init_86, zi_Court_init_87, zi_Court_init_90, ↓reduceIte, mj_op_s, Option.toList_some, Option.toList_none, List.cons_append, List.nil_append, hp_1, hp_2, true_and, and_true, zb_0, zb_1, zb_b, va_rf, fl_0, fl_1, fl_2, fl_3, fl_4, fl_5, fl_6, fl_7, fl_8, fl_9, fl_10]
  refine pf_go (n := 1) hS (Nat.le_of_ble_eq_true rfl) (ok_ry rfl) (fun g hS => ?_)
  refine new_go (n := 1) (c := 225) hS rfl (by omega) (by omega) (fun g1 e1 e2 => ?_)
  refine zi_Court_init_91 3 224 (by show 230 ≤ lim.1; omega) (by show _ + 7 + 224 ≤ lim.2; omega) ?_
  refine k_Runner (W := W) e1 (Nat.le_refl _) (Nat.le_refl _) (fun g2 s5 hs5 hS2 => ⟨rfl, hs5, ?_⟩)
  replace hS := bd_new (n := 1) (c := 225) hS e2 hS2 rfl
  simp (decide := true) (disch := omega) only [zi_Court_init_94, zi_Court_init_97, zi_Court_init_98, zi_Court_init_101, ↓reduceIte, mj_op_s, Option.toList_some, Option.toList_none, List.cons_append, List.nil_append, hp_1, hp_2, true_and, and_true, zb_0, zb_1, zb_b, va_rf, fl_0, fl_1, fl_2, fl_3, fl_4, fl_5, fl_6, fl_7, fl_8, fl_9, fl_10]
  refine pf_go (n := 1) hS (Nat.le_of_ble_eq_true rfl) (ok_ry rfl) (fun g hS => ?_)
  refine new_go (n := 1) (c := 229) hS rfl (by omega) (by omega) (fun g1 e1 e2 => ?_)
  refine zi_Court_init_102 6 4000 (by show 237 ≤ lim.1; omega) (by show _ + 7 + 4000 ≤ lim.2; omega) ?_
  refine k_Witness (W := W) e1 (Nat.le_refl _) (Nat.le_refl _) (fun g2 s6 hs6 hS2 => ⟨rfl, hs6, ?_⟩)
  replace hS := bd_new (n := 1) (c := 229) hS e2 hS2 rfl
  simp (decide := true) (disch := omega) only [zi_Court_init_105, zi_Court_init_108, zi_Court_init_109, zi_Court_init_112, ↓reduceIte, mj_op_s, Option.toList_some, Option.toList_none, List.cons_append, List.nil_append, hp_1, hp_2, true_and, and_true, zb_0, zb_1, zb_b, va_rf, fl_0, fl_1, fl_2, fl_3, fl_4, fl_5, fl_6, fl_7, fl_8, fl_9, fl_10]
  refine pf_go (n := 1) hS (Nat.le_of_ble_eq_true rfl) (ok_ry rfl) (fun g hS => ?_)
  refine new_go (n := 1) (c := 236) hS rfl (by omega) (by omega) (fun g1 e1 e2 => ?_)
  simp (decide := true) (disch := omega) only [zi_Court_init_113, zi_Court_init_114, ↓reduceIte, mj_op_s, Option.toList_some, Option.toList_none, List.cons_append, List.nil_append, hp_1, hp_2, true_and, and_true, zb_0, zb_1, zb_b, va_rf, fl_0, fl_1, fl_2, fl_3, fl_4, fl_5, fl_6, fl_7, fl_8, fl_9, fl_10]
  have o1 := (e2 1 (by omega)).trans hS.2.1
  refine gf_go (n := 1) o1 rfl ?_
  refine zi_Court_init_117 17 3063 (by show 255 ≤ lim.1; omega) (by show _ + 5 + 3063 ≤ lim.2; omega) ?_
  refine k_Judge (W := W) e1 (Nat.le_refl _) (Nat.le_refl _) (fun g2 s7 hs7 hS2 => ⟨rfl, hs7, ?_⟩)
  replace hS := bd_new (n := 1) (c := 236) hS e2 hS2 rfl
  simp (decide := true) (disch := omega) only [zi_Court_init_120, zi_Court_init_123, ↓reduceIte, mj_op_s, Option.toList_some, Option.toList_none, List.cons_append, List.nil_append, hp_1, hp_2, true_and, and_true, zb_0, zb_1, zb_b, va_rf, fl_0, fl_1, fl_2, fl_3, fl_4, fl_5, fl_6, fl_7, fl_8, fl_9, fl_10]
  refine pf_go (n := 1) hS (Nat.le_of_ble_eq_true rfl) (ok_ry rfl) (fun g hS => ?_)
  exact hend _ _ (by omega) hS
theorem Tg_hi (h : 277 < i) : Tg W i = mj_dd := by
  obtain ⟨k, rfl⟩ : ∃ k, i = k + 278 := ⟨i - 278, by omega⟩
  have e : k + 278 - 203 = k + 75 := by omega
  unfold Tg hs
  rw [if_neg (by omega), if_neg (by omega), if_neg (by omega), e]
  rfl
theorem Inv_0 : Inv (M0 W) := by
  refine ⟨0, fun _ => (0, fun _ _ => nI 0), 0, fun _ => 0, fun _ => 0, nI 0, fun _ => 0, nI 0, nI 0, w0, -1, ⟨by omega, fun r hr => by omega⟩, by omega, okW_0, ⟨⟨rfl, fun r hr => by omega, fun r h1 h2 => ?_⟩, ⟨rfl, fun _ => rfl⟩, ⟨fun _ _ => rfl, rfl, fun _ => rfl, rfl, rfl⟩, ⟨rfl, fun i hi => by have : i < 0 := hi; omega⟩, ⟨rfl, rfl, rfl⟩⟩, ⟨⟨rfl, fun r hr => by omega, false, rfl⟩, ⟨rfl, fun _ => rfl⟩, ⟨fun _ _ => rfl, rfl, fun _ => rfl, rfl, rfl⟩, ⟨rfl, fun i hi => by have : i < 0 := hi; omega⟩, rfl⟩⟩
  rw [M0_0 (by omega), nI_0]
set_option maxRecDepth 20000 in
theorem law_all {L : Nat} {xs : Nat → Int32} (hL : L ≤ 3072) : mj_V 9 (600000, 7302250) mq_Law_law 0 (mj_en [.ref 0] 4) [] (mj_G0 L xs) (fun r _ => r = some (.int 1)) := by
  show mj_V (0 + 9) (600000, 7302250) mq_Law_law 0 [.ref 0, mj_j, mj_j, mj_j] [] (0, 0, fun i => if i = 0 then .inl (.int, L, .inl xs) else mj_dd) (fun r _ => r = some (.int 1))
  have hS := bd_0 (T := Tg (L, xs)) (f := fun i => if i = 0 then .inl (.int, L, .inl xs) else mj_dd) (n := 0) rfl
  generalize hf0 : (fun i => if i = 0 then Sum.inl (FieldType.int, L, Sum.inl xs) else mj_dd) = f0 at hS ⊢
  simp (decide := true) (disch := omega) only [zi_Law_law_0, zi_Law_law_3, ↓reduceIte, mj_op_s, Option.toList_some, Option.toList_none, List.cons_append, List.nil_append, hp_1, hp_2, true_and, and_true, zb_0, zb_1, zb_b, va_rf, fl_0, fl_1, fl_2, fl_3, fl_4, fl_5, fl_6, fl_7, fl_8, fl_9, fl_10]
  refine new_go (n := 0) (c := 0) hS rfl (by show 1 ≤ 600000; omega) (by show 0 + 8 ≤ 7302250; omega) (fun g1 e1 e2 => ?_)
  refine zi_Law_law_4 254 17110 (by show 255 ≤ 600000; omega) (by show 17118 ≤ 7302250; omega) ?_
  refine k_Court (W := (L, xs)) e1 (Nat.le_refl _) (Nat.le_refl _) (fun g2 s2 hs2 hS2 => ⟨rfl, hs2, ?_⟩)
  obtain rfl : s2 = 17118 := hs2
  replace hS := bd_new (n := 0) (c := 0) hS e2 hS2 rfl
  simp (decide := true) (disch := omega) only [zi_Law_law_7, zi_Law_law_8, zi_Law_law_11, ↓reduceIte, mj_op_s, Option.toList_some, Option.toList_none, List.cons_append, List.nil_append, hp_1, hp_2, true_and, and_true, zb_0, zb_1, zb_b, va_rf, fl_0, fl_1, fl_2, fl_3, fl_4, fl_5, fl_6, fl_7, fl_8, fl_9, fl_10]
  refine new_go (n := 0) (c := 255) hS rfl (by show 256 ≤ 600000; omega) (by show 17118 + 35 ≤ 7302250; omega) (fun g3 e3 e4 => ?_)
  refine zi_Law_law_12 21 14355 (by show 277 ≤ 600000; omega) (by show 31508 ≤ 7302250; omega) ?_
  refine k_Model (W := (L, xs)) e3 (Nat.le_refl _) (Nat.le_refl _) (fun g4 s4 hs4 hS4 => ⟨rfl, hs4, ?_⟩)
  obtain rfl : s4 = 31508 := hs4
  replace hS := bd_new (n := 0) (c := 255) hS e4 hS4 rfl
  have hg : g4 = fun i => hs (L, xs) i (rI (M0 (L, xs)) i) (rL (M0 (L, xs)) i) (rR (M0 (L, xs)) i) := by
    funext i
    by_cases h0 : i = 0
    · subst h0
      exact hS.2.1.trans rfl
    · by_cases h1 : i ≤ 277
      · exact hS.2.2.1 i (by omega) (by omega)
      · rw [hS.2.2.2 i (by omega), ← hf0]
        exact (if_neg h0).trans (Tg_hi (W := (L, xs)) (by omega)).symm
  have hh : ((277 : Nat), (31508 : Nat), g4) = hp (M0 (L, xs)) := by rw [hg]; rfl
  rw [show (256 + 21, 31508, g4) = hp (M0 (L, xs)) from hh]
  simp (decide := true) (disch := omega) only [zi_Law_law_15, zi_Law_law_16, zi_Law_law_17, ↓reduceIte, mj_op_s, Option.toList_some, Option.toList_none, List.cons_append, List.nil_append, hp_1, hp_2, true_and, and_true, zb_0, zb_1, zb_b, va_rf]
  have h1 : (1 : Int32) = nI 1 := by decide
  rw [h1]
  exact l_law (d := 0) hL (L + 1) 0 (M0 (L, xs)) (by omega) (by omega) rfl Inv_0
end C9N
