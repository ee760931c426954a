/-! class: Side -/
def lg (q : Nat) : Int64 := (nI q).toInt64
def en (x : WR) (own q : Nat) : Nat × Int64 := if isNu x q = true then (0, nu x q) else if cl x q = 1 then (2, lg q) else (own, lg q)
def sdS (M : mm) (s own : Nat) (x : WR) (f : Nat → TH) : Prop := ∀ r, r < 8 → ((f r).1 = 0 → rI M (s + 6) r = nI 0 ∧ rL M (s + 7) r = (f r).2.1) ∧ ((f r).1 = 1 → rI M (s + 6) r = nI (en x own (f r).2.2.1).1 ∧ rL M (s + 7) r = (en x own (f r).2.2.1).2) ∧ ((f r).1 = 2 → rI M (s + 6) r = nI 1 ∧ rI M s 5 = (f r).2.2.2.1 ∧ rI M s 6 = nI (en x own (f r).2.2.2.2.1).1 ∧ rL M s 7 = (en x own (f r).2.2.2.2.1).2 ∧ ((f r).2.2.2.1 = nI 10 → rI M s 8 = nI 0 ∧ rL M s 9 = 0) ∧ (¬ (f r).2.2.2.1 = nI 10 → rI M s 8 = nI (en x own (f r).2.2.2.2.2).1 ∧ rL M s 9 = (en x own (f r).2.2.2.2.2).2))
def okU (x : WR) (t : TH) : Prop := t.1 = 1 → isNu x t.2.2.1 = false
abbrev ssP (s i k : Nat) : Prop := i = s ∧ 2 ≤ k ∨ s + 6 ≤ i ∧ i ≤ s + 7
def sdC (M : mm) (s o len : Nat) (A : AA) (p : Nat) : Prop := rR M s 1 = o ∧ rI M s 2 = nI p ∧ hasR M o len A
section C97
variable {d : Nat} {lim : Nat × Nat} {Q : mj_Q} {M M' : mm} {s s2 own own2 o len p q j r n i w : Nat} {A B : AA} {W : WS} {x : WR} {t u : TH} {f g : Nat → TH}
theorem lg_inj {a b : Nat} (ha : a < 8) (hb : b < 8) : lg a = lg b ↔ a = b := by
  constructor
  · intro h
    unfold lg at h
    have h2 := congrArg Int64.toInt h
    rw [Int32.toInt_toInt64, Int32.toInt_toInt64, nI_toInt (by omega), nI_toInt (by omega)] at h2
    omega
  · intro h; rw [h]
theorem okU_0 : okU x (t0 x q) := by
  intro h
  unfold t0 at h ⊢
  cases k : isNu x q with
  | true => rw [k, if_pos rfl] at h; have h : (0 : Nat) = 1 := h; omega
  | false => rw [if_neg (by simp)]; exact k
theorem okU_x : okU x (tx x A p r) := by
  unfold tx
  by_cases c : (mkP A p && decide (cz (A p 1) = r)) = true
  · rw [if_pos c]
    unfold tm
    by_cases c1 : A p 0 = nI 1
    · rw [if_pos c1]; intro h; have h : (0 : Nat) = 1 := h; omega
    · rw [if_neg c1]
      by_cases c2 : A p 0 = nI 2
      · rw [if_pos c2]; exact okU_0
      · rw [if_neg c2]
        by_cases c3 : kn0 x A p = true
        · rw [if_pos c3]; intro h; have h : (0 : Nat) = 1 := h; omega
        · rw [if_neg c3]; intro h; have h : (2 : Nat) = 1 := h; omega
  · rw [if_neg c]; exact okU_0
abbrev isOw (own : Nat) : Prop := own = 3 ∨ own = 4
theorem en_lt (ho : isOw own) : (en x own q).1 < 5 := by
  unfold en
  split
  · show 0 < 5; omega
  · split
    · show 2 < 5; omega
    · show own < 5; rcases ho with h | h <;> omega
theorem en_0 (ho : isOw own) : (en x own q).1 = 0 ↔ isNu x q = true := by
  unfold en
  cases k : isNu x q with
  | true => rw [if_pos rfl]; exact ⟨fun _ => rfl, fun _ => rfl⟩
  | false =>
    rw [if_neg (by simp)]
    constructor
    · intro h
      split at h
      · have h : (2 : Nat) = 0 := h; omega
      · have h : own = 0 := h; rcases ho with z | z <;> omega
    · intro h; cases h
theorem en_nu (k : isNu x q = true) : en x own q = (0, nu x q) := if_pos k
theorem en_ne1 (ho : isOw own) : ¬ (en x own q).1 = 1 := by
  unfold en
  split
  · intro h; have h : (0 : Nat) = 1 := h; omega
  · split
    · intro h; have h : (2 : Nat) = 1 := h; omega
    · intro h; have h : own = 1 := h; rcases ho with z | z <;> omega
theorem en_alk {a b : Nat} (ha : a < 8) (hb : b < 8) (ho : isOw own) (ho2 : isOw own2) (hne : own ≠ own2) : ((en x own a).1 = (en x own2 b).1 ∧ (en x own a).2 = (en x own2 b).2) ↔ alk x a b = true := by
  unfold alk
  cases k1 : isNu x a with
  | true =>
    rw [Bool.true_or, if_pos rfl, en_nu k1]
    cases k2 : isNu x b with
    | true =>
      rw [en_nu k2, Bool.true_and, Bool.true_and, decide_eq_true_eq]
      exact ⟨fun z => z.2, fun z => ⟨rfl, z⟩⟩
    | false =>
      rw [Bool.false_and, Bool.true_and]
      refine ⟨fun z => ?_, fun z => by cases z⟩
      have := (en_0 (x := x) (q := b) ho2).mp z.1.symm
      rw [this] at k2; cases k2
  | false =>
    cases k2 : isNu x b with
    | true =>
      rw [Bool.or_true, if_pos rfl, Bool.false_and]
      refine ⟨fun z => ?_, fun z => by cases z⟩
      rw [en_nu k2] at z
      have := (en_0 (x := x) (q := a) ho).mp z.1
      rw [this] at k1; cases k1
    | false =>
      rw [Bool.or_false, if_neg (by simp), Bool.and_eq_true, decide_eq_true_eq, decide_eq_true_eq]
      have ea : en x own a = if cl x a = 1 then (2, lg a) else (own, lg a) := if_neg (by rw [k1]; simp)
      have eb : en x own2 b = if cl x b = 1 then (2, lg b) else (own2, lg b) := if_neg (by rw [k2]; simp)
      rw [ea, eb]
      by_cases c1 : cl x a = 1
      · rw [if_pos c1]
        by_cases c2 : cl x b = 1
        · rw [if_pos c2]
          exact ⟨fun z => ⟨(lg_inj ha hb).mp z.2, c1⟩, fun z => ⟨rfl, (lg_inj ha hb).mpr z.1⟩⟩
        · rw [if_neg c2]
          refine ⟨fun z => ?_, fun z => absurd (z.1 ▸ c1) c2⟩
          have z1 : 2 = own2 := z.1
          rcases ho2 with h | h <;> omega
      · rw [if_neg c1]
        by_cases c2 : cl x b = 1
        · rw [if_pos c2]
          refine ⟨fun z => ?_, fun z => absurd z.2 c1⟩
          have z1 : own = 2 := z.1
          rcases ho with h | h <;> omega
        · rw [if_neg c2]
          exact ⟨fun z => absurd z.1 hne, fun z => absurd z.2 c1⟩
theorem c_hasSame (hs : isSd s) (hs2 : isSd s2) (ho : isOw own) (ho2 : isOw own2) (hne : own ≠ own2) (hr : r < 8) (hq : q < 8) (hS : sdS M s own x f) (hS2 : sdS M s2 own2 x g) (k1 : okT (f r)) (k2 : okT (g q)) (u1 : okU x (f r)) (u2 : okU x (g q)) : mj_V d lim mq_Side_hasSame 0 [.ref s, .int (nI r), .ref s2, .int (nI q)] [] (hp M) Q ↔ Q (some (.int (b1 (smT x (f r) (g q))))) (hp M) := by
  obtain ⟨a1, a2, a3⟩ := hS r hr
  obtain ⟨c1, c2, c3⟩ := hS2 q hq
  unfold smT
  rcases k1.1 with z | z | z
  · obtain ⟨a4, a5⟩ := a1 z
    rcases k2.1 with y | y | y
    · obtain ⟨c4, c5⟩ := c1 y
      rw [if_pos (z.trans y.symm), if_pos z]
      by_cases cv : (f r).2.1 = (g q).2.1
      · rw [decide_eq_true cv]
        simp (decide := true) (disch := first | assumption | omega) only [zi_Side_hasSame_0, zi_Side_hasSame_1, zi_Side_hasSame_4, zi_Side_hasSame_5, zi_Side_hasSame_6, zi_Side_hasSame_7, zi_Side_hasSame_10, zi_Side_hasSame_11, zi_Side_hasSame_12, zi_Side_hasSame_15, zi_Side_hasSame_16, zi_Side_hasSame_17, zi_Side_hasSame_18, zi_Side_hasSame_21, zi_Side_hasSame_22, zi_Side_hasSame_23, zi_Side_hasSame_24, zi_Side_hasSame_27, zi_Side_hasSame_28, zi_Side_hasSame_31, zi_Side_hasSame_32, zi_Side_hasSame_33, zi_Side_hasSame_34, zi_Side_hasSame_37, zi_Side_hasSame_38, zi_Side_hasSame_39, zi_Side_hasSame_40, zi_Side_hasSame_43, zi_Side_hasSame_44, zi_Side_hasSame_47, zi_Side_hasSame_48, zi_Side_hasSame_49, zi_Side_hasSame_50, zi_Side_hasSame_53, zi_Side_hasSame_54, zi_Side_hasSame_57, zi_Side_hasSame_60, zi_Side_hasSame_61, zi_Side_hasSame_64, zi_Side_hasSame_65, zi_Side_hasSame_68, zi_Side_hasSame_71, zi_Side_hasSame_72, zi_Side_hasSame_75, zi_Side_hasSame_76, zi_Side_hasSame_79, zi_Side_hasSame_80, zi_Side_hasSame_83, zi_Side_hasSame_84, zi_Side_hasSame_87, zi_Side_hasSame_88, zi_Side_hasSame_91, zi_Side_hasSame_94, zi_Side_hasSame_95, zi_Side_hasSame_98, zi_Side_hasSame_99, zi_Side_hasSame_102, zi_Side_hasSame_103, zi_Side_hasSame_106, zi_Side_hasSame_107, zi_Side_hasSame_110, zi_Side_hasSame_111, ↓reduceIte, mj_op_s, Option.toList_some, Option.toList_none, List.cons_append, List.nil_append, hp_1, hp_2, true_and, and_true, zb_0, zb_1, zb_b, va_rf, io_sd, ↓ogf_sd_0, ↓ogf_sd_1, ↓ogf_sd_2, ↓ogf_sd_3, ↓ogf_sd_4, ↓ogf_sd_5, ↓ogf_sd_6, ↓ogf_sd_7, ↓ogf_sd_8, ↓ogf_sd_9, ↓opf_sd_1, ↓opf_sd_2, ↓opf_sd_5, ↓opf_sd_6, ↓opf_sd_7, ↓opf_sd_8, ↓opf_sd_9, ↓oai_sd, ↓owi_sd, ↓oal_sd, ↓owl_sd, a4, a5, c4, c5, lgc_eq, cv, b1_t]
      · rw [decide_eq_false cv]
        simp (decide := true) (disch := first | assumption | omega) only [zi_Side_hasSame_0, zi_Side_hasSame_1, zi_Side_hasSame_4, zi_Side_hasSame_5, zi_Side_hasSame_6, zi_Side_hasSame_7, zi_Side_hasSame_10, zi_Side_hasSame_11, zi_Side_hasSame_12, zi_Side_hasSame_15, zi_Side_hasSame_16, zi_Side_hasSame_17, zi_Side_hasSame_18, zi_Side_hasSame_21, zi_Side_hasSame_22, zi_Side_hasSame_23, zi_Side_hasSame_24, zi_Side_hasSame_27, zi_Side_hasSame_28, zi_Side_hasSame_31, zi_Side_hasSame_32, zi_Side_hasSame_33, zi_Side_hasSame_34, zi_Side_hasSame_37, zi_Side_hasSame_38, zi_Side_hasSame_39, zi_Side_hasSame_40, zi_Side_hasSame_43, zi_Side_hasSame_44, zi_Side_hasSame_47, zi_Side_hasSame_48, zi_Side_hasSame_49, zi_Side_hasSame_50, zi_Side_hasSame_53, zi_Side_hasSame_54, zi_Side_hasSame_57, zi_Side_hasSame_60, zi_Side_hasSame_61, zi_Side_hasSame_64, zi_Side_hasSame_65, zi_Side_hasSame_68, zi_Side_hasSame_71, zi_Side_hasSame_72, zi_Side_hasSame_75, zi_Side_hasSame_76, zi_Side_hasSame_79, zi_Side_hasSame_80, zi_Side_hasSame_83, zi_Side_hasSame_84, zi_Side_hasSame_87, zi_Side_hasSame_88, zi_Side_hasSame_91, zi_Side_hasSame_94, zi_Side_hasSame_95, zi_Side_hasSame_98, zi_Side_hasSame_99, zi_Side_hasSame_102, zi_Side_hasSame_103, zi_Side_hasSame_106, zi_Side_hasSame_107, zi_Side_hasSame_110, zi_Side_hasSame_111, ↓reduceIte, mj_op_s, Option.toList_some, Option.toList_none, List.cons_append, List.nil_append, hp_1, hp_2, true_and, and_true, zb_0, zb_1, zb_b, va_rf, io_sd, ↓ogf_sd_0, ↓ogf_sd_1, ↓ogf_sd_2, ↓ogf_sd_3, ↓ogf_sd_4, ↓ogf_sd_5, ↓ogf_sd_6, ↓ogf_sd_7, ↓ogf_sd_8, ↓ogf_sd_9, ↓opf_sd_1, ↓opf_sd_2, ↓opf_sd_5, ↓opf_sd_6, ↓opf_sd_7, ↓opf_sd_8, ↓opf_sd_9, ↓oai_sd, ↓owi_sd, ↓oal_sd, ↓owl_sd, a4, a5, c4, c5, lgc_eq, cv, b1_f]
    · obtain ⟨c4, c5⟩ := c2 y
      have n1 : ¬ (en x own2 (g q).2.2.1).1 = 0 := fun h => by have := (en_0 ho2).mp h; rw [u2 y] at this; cases this
      have hl := en_lt (x := x) (q := (g q).2.2.1) ho2
      have hne2 := nI_ne (show 0 < 2 ^ 31 by omega) (show (en x own2 (g q).2.2.1).1 < 2 ^ 31 by omega) (fun h => n1 h.symm)
      rw [if_neg (by omega)]
      simp (decide := true) (disch := first | assumption | omega) only [zi_Side_hasSame_0, zi_Side_hasSame_1, zi_Side_hasSame_4, zi_Side_hasSame_5, zi_Side_hasSame_6, zi_Side_hasSame_7, zi_Side_hasSame_10, zi_Side_hasSame_11, zi_Side_hasSame_12, zi_Side_hasSame_15, zi_Side_hasSame_16, zi_Side_hasSame_17, zi_Side_hasSame_18, zi_Side_hasSame_21, zi_Side_hasSame_22, zi_Side_hasSame_23, zi_Side_hasSame_24, zi_Side_hasSame_27, zi_Side_hasSame_28, zi_Side_hasSame_31, zi_Side_hasSame_32, zi_Side_hasSame_33, zi_Side_hasSame_34, zi_Side_hasSame_37, zi_Side_hasSame_38, zi_Side_hasSame_39, zi_Side_hasSame_40, zi_Side_hasSame_43, zi_Side_hasSame_44, zi_Side_hasSame_47, zi_Side_hasSame_48, zi_Side_hasSame_49, zi_Side_hasSame_50, zi_Side_hasSame_53, zi_Side_hasSame_54, zi_Side_hasSame_57, zi_Side_hasSame_60, zi_Side_hasSame_61, zi_Side_hasSame_64, zi_Side_hasSame_65, zi_Side_hasSame_68, zi_Side_hasSame_71, zi_Side_hasSame_72, zi_Side_hasSame_75, zi_Side_hasSame_76, zi_Side_hasSame_79, zi_Side_hasSame_80, zi_Side_hasSame_83, zi_Side_hasSame_84, zi_Side_hasSame_87, zi_Side_hasSame_88, zi_Side_hasSame_91, zi_Side_hasSame_94, zi_Side_hasSame_95, zi_Side_hasSame_98, zi_Side_hasSame_99, zi_Side_hasSame_102, zi_Side_hasSame_103, zi_Side_hasSame_106, zi_Side_hasSame_107, zi_Side_hasSame_110, zi_Side_hasSame_111, ↓reduceIte, mj_op_s, Option.toList_some, Option.toList_none, List.cons_append, List.nil_append, hp_1, hp_2, true_and, and_true, zb_0, zb_1, zb_b, va_rf, io_sd, ↓ogf_sd_0, ↓ogf_sd_1, ↓ogf_sd_2, ↓ogf_sd_3, ↓ogf_sd_4, ↓ogf_sd_5, ↓ogf_sd_6, ↓ogf_sd_7, ↓ogf_sd_8, ↓ogf_sd_9, ↓opf_sd_1, ↓opf_sd_2, ↓opf_sd_5, ↓opf_sd_6, ↓opf_sd_7, ↓opf_sd_8, ↓opf_sd_9, ↓oai_sd, ↓owi_sd, ↓oal_sd, ↓owl_sd, a4, c4, hne2, b1_f]
    · obtain ⟨c4, c5⟩ := c3 y
      rw [if_neg (by omega)]
      simp (decide := true) (disch := first | assumption | omega) only [zi_Side_hasSame_0, zi_Side_hasSame_1, zi_Side_hasSame_4, zi_Side_hasSame_5, zi_Side_hasSame_6, zi_Side_hasSame_7, zi_Side_hasSame_10, zi_Side_hasSame_11, zi_Side_hasSame_12, zi_Side_hasSame_15, zi_Side_hasSame_16, zi_Side_hasSame_17, zi_Side_hasSame_18, zi_Side_hasSame_21, zi_Side_hasSame_22, zi_Side_hasSame_23, zi_Side_hasSame_24, zi_Side_hasSame_27, zi_Side_hasSame_28, zi_Side_hasSame_31, zi_Side_hasSame_32, zi_Side_hasSame_33, zi_Side_hasSame_34, zi_Side_hasSame_37, zi_Side_hasSame_38, zi_Side_hasSame_39, zi_Side_hasSame_40, zi_Side_hasSame_43, zi_Side_hasSame_44, zi_Side_hasSame_47, zi_Side_hasSame_48, zi_Side_hasSame_49, zi_Side_hasSame_50, zi_Side_hasSame_53, zi_Side_hasSame_54, zi_Side_hasSame_57, zi_Side_hasSame_60, zi_Side_hasSame_61, zi_Side_hasSame_64, zi_Side_hasSame_65, zi_Side_hasSame_68, zi_Side_hasSame_71, zi_Side_hasSame_72, zi_Side_hasSame_75, zi_Side_hasSame_76, zi_Side_hasSame_79, zi_Side_hasSame_80, zi_Side_hasSame_83, zi_Side_hasSame_84, zi_Side_hasSame_87, zi_Side_hasSame_88, zi_Side_hasSame_91, zi_Side_hasSame_94, zi_Side_hasSame_95, zi_Side_hasSame_98, zi_Side_hasSame_99, zi_Side_hasSame_102, zi_Side_hasSame_103, zi_Side_hasSame_106, zi_Side_hasSame_107, zi_Side_hasSame_110, zi_Side_hasSame_111, ↓reduceIte, mj_op_s, Option.toList_some, Option.toList_none, List.cons_append, List.nil_append, hp_1, hp_2, true_and, and_true, zb_0, zb_1, zb_b, va_rf, io_sd, ↓ogf_sd_0, ↓ogf_sd_1, ↓ogf_sd_2, ↓ogf_sd_3, ↓ogf_sd_4, ↓ogf_sd_5, ↓ogf_sd_6, ↓ogf_sd_7, ↓ogf_sd_8, ↓ogf_sd_9, ↓opf_sd_1, ↓opf_sd_2, ↓opf_sd_5, ↓opf_sd_6, ↓opf_sd_7, ↓opf_sd_8, ↓opf_sd_9, ↓oai_sd, ↓owi_sd, ↓oal_sd, ↓owl_sd, a4, c4, b1_f]
  · obtain ⟨a4, a5⟩ := a2 z
    have n1 : ¬ (en x own (f r).2.2.1).1 = 0 := fun h => by have := (en_0 ho).mp h; rw [u1 z] at this; cases this
    have n2 : ¬ (en x own (f r).2.2.1).1 = 1 := en_ne1 ho
    have hl := en_lt (x := x) (q := (f r).2.2.1) ho
    rcases k2.1 with y | y | y
    · obtain ⟨c4, c5⟩ := c1 y
      have hne2 := nI_ne (show (en x own (f r).2.2.1).1 < 2 ^ 31 by omega) (show 0 < 2 ^ 31 by omega) n1
      rw [if_neg (by omega)]
      simp (decide := true) (disch := first | assumption | omega) only [zi_Side_hasSame_0, zi_Side_hasSame_1, zi_Side_hasSame_4, zi_Side_hasSame_5, zi_Side_hasSame_6, zi_Side_hasSame_7, zi_Side_hasSame_10, zi_Side_hasSame_11, zi_Side_hasSame_12, zi_Side_hasSame_15, zi_Side_hasSame_16, zi_Side_hasSame_17, zi_Side_hasSame_18, zi_Side_hasSame_21, zi_Side_hasSame_22, zi_Side_hasSame_23, zi_Side_hasSame_24, zi_Side_hasSame_27, zi_Side_hasSame_28, zi_Side_hasSame_31, zi_Side_hasSame_32, zi_Side_hasSame_33, zi_Side_hasSame_34, zi_Side_hasSame_37, zi_Side_hasSame_38, zi_Side_hasSame_39, zi_Side_hasSame_40, zi_Side_hasSame_43, zi_Side_hasSame_44, zi_Side_hasSame_47, zi_Side_hasSame_48, zi_Side_hasSame_49, zi_Side_hasSame_50, zi_Side_hasSame_53, zi_Side_hasSame_54, zi_Side_hasSame_57, zi_Side_hasSame_60, zi_Side_hasSame_61, zi_Side_hasSame_64, zi_Side_hasSame_65, zi_Side_hasSame_68, zi_Side_hasSame_71, zi_Side_hasSame_72, zi_Side_hasSame_75, zi_Side_hasSame_76, zi_Side_hasSame_79, zi_Side_hasSame_80, zi_Side_hasSame_83, zi_Side_hasSame_84, zi_Side_hasSame_87, zi_Side_hasSame_88, zi_Side_hasSame_91, zi_Side_hasSame_94, zi_Side_hasSame_95, zi_Side_hasSame_98, zi_Side_hasSame_99, zi_Side_hasSame_102, zi_Side_hasSame_103, zi_Side_hasSame_106, zi_Side_hasSame_107, zi_Side_hasSame_110, zi_Side_hasSame_111, ↓reduceIte, mj_op_s, Option.toList_some, Option.toList_none, List.cons_append, List.nil_append, hp_1, hp_2, true_and, and_true, zb_0, zb_1, zb_b, va_rf, io_sd, ↓ogf_sd_0, ↓ogf_sd_1, ↓ogf_sd_2, ↓ogf_sd_3, ↓ogf_sd_4, ↓ogf_sd_5, ↓ogf_sd_6, ↓ogf_sd_7, ↓ogf_sd_8, ↓ogf_sd_9, ↓opf_sd_1, ↓opf_sd_2, ↓opf_sd_5, ↓opf_sd_6, ↓opf_sd_7, ↓opf_sd_8, ↓opf_sd_9, ↓oai_sd, ↓owi_sd, ↓oal_sd, ↓owl_sd, a4, c4, hne2, b1_f]
    · obtain ⟨c4, c5⟩ := c2 y
      have h1 := k1.2.1 z
      have h2 := k2.2.1 y
      have hl2 := en_lt (x := x) (q := (g q).2.2.1) ho2
      have hal := en_alk (x := x) h1 h2 ho ho2 hne
      have e3 : alk x (f r).2.2.1 (g q).2.2.1 = (decide ((f r).2.2.1 = (g q).2.2.1) && decide (cl x (f r).2.2.1 = 1)) := by
        unfold alk
        rw [u1 z, u2 y]
        rfl
      rw [if_pos (z.trans y.symm), if_neg (by omega), if_pos z, ← e3]
      have hn1 := nI_ne (show (en x own (f r).2.2.1).1 < 2 ^ 31 by omega) (show 1 < 2 ^ 31 by omega) n2
      cases hb : alk x (f r).2.2.1 (g q).2.2.1 with
      | true =>
        obtain ⟨e4, e5⟩ := hal.mpr hb
        rw [← e4] at c4
        rw [← e5] at c5
        simp (decide := true) (disch := first | assumption | omega) only [zi_Side_hasSame_0, zi_Side_hasSame_1, zi_Side_hasSame_4, zi_Side_hasSame_5, zi_Side_hasSame_6, zi_Side_hasSame_7, zi_Side_hasSame_10, zi_Side_hasSame_11, zi_Side_hasSame_12, zi_Side_hasSame_15, zi_Side_hasSame_16, zi_Side_hasSame_17, zi_Side_hasSame_18, zi_Side_hasSame_21, zi_Side_hasSame_22, zi_Side_hasSame_23, zi_Side_hasSame_24, zi_Side_hasSame_27, zi_Side_hasSame_28, zi_Side_hasSame_31, zi_Side_hasSame_32, zi_Side_hasSame_33, zi_Side_hasSame_34, zi_Side_hasSame_37, zi_Side_hasSame_38, zi_Side_hasSame_39, zi_Side_hasSame_40, zi_Side_hasSame_43, zi_Side_hasSame_44, zi_Side_hasSame_47, zi_Side_hasSame_48, zi_Side_hasSame_49, zi_Side_hasSame_50, zi_Side_hasSame_53, zi_Side_hasSame_54, zi_Side_hasSame_57, zi_Side_hasSame_60, zi_Side_hasSame_61, zi_Side_hasSame_64, zi_Side_hasSame_65, zi_Side_hasSame_68, zi_Side_hasSame_71, zi_Side_hasSame_72, zi_Side_hasSame_75, zi_Side_hasSame_76, zi_Side_hasSame_79, zi_Side_hasSame_80, zi_Side_hasSame_83, zi_Side_hasSame_84, zi_Side_hasSame_87, zi_Side_hasSame_88, zi_Side_hasSame_91, zi_Side_hasSame_94, zi_Side_hasSame_95, zi_Side_hasSame_98, zi_Side_hasSame_99, zi_Side_hasSame_102, zi_Side_hasSame_103, zi_Side_hasSame_106, zi_Side_hasSame_107, zi_Side_hasSame_110, zi_Side_hasSame_111, ↓reduceIte, mj_op_s, Option.toList_some, Option.toList_none, List.cons_append, List.nil_append, hp_1, hp_2, true_and, and_true, zb_0, zb_1, zb_b, va_rf, io_sd, ↓ogf_sd_0, ↓ogf_sd_1, ↓ogf_sd_2, ↓ogf_sd_3, ↓ogf_sd_4, ↓ogf_sd_5, ↓ogf_sd_6, ↓ogf_sd_7, ↓ogf_sd_8, ↓ogf_sd_9, ↓opf_sd_1, ↓opf_sd_2, ↓opf_sd_5, ↓opf_sd_6, ↓opf_sd_7, ↓opf_sd_8, ↓opf_sd_9, ↓oai_sd, ↓owi_sd, ↓oal_sd, ↓owl_sd, a4, c4, a5, c5, hn1, lgc_eq, b1_t]
      | false =>
        by_cases e4 : (en x own (f r).2.2.1).1 = (en x own2 (g q).2.2.1).1
        · have e5 : ¬ (en x own (f r).2.2.1).2 = (en x own2 (g q).2.2.1).2 := fun h => by rw [hal.mp ⟨e4, h⟩] at hb; cases hb
          rw [← e4] at c4
          simp (decide := true) (disch := first | assumption | omega) only [zi_Side_hasSame_0, zi_Side_hasSame_1, zi_Side_hasSame_4, zi_Side_hasSame_5, zi_Side_hasSame_6, zi_Side_hasSame_7, zi_Side_hasSame_10, zi_Side_hasSame_11, zi_Side_hasSame_12, zi_Side_hasSame_15, zi_Side_hasSame_16, zi_Side_hasSame_17, zi_Side_hasSame_18, zi_Side_hasSame_21, zi_Side_hasSame_22, zi_Side_hasSame_23, zi_Side_hasSame_24, zi_Side_hasSame_27, zi_Side_hasSame_28, zi_Side_hasSame_31, zi_Side_hasSame_32, zi_Side_hasSame_33, zi_Side_hasSame_34, zi_Side_hasSame_37, zi_Side_hasSame_38, zi_Side_hasSame_39, zi_Side_hasSame_40, zi_Side_hasSame_43, zi_Side_hasSame_44, zi_Side_hasSame_47, zi_Side_hasSame_48, zi_Side_hasSame_49, zi_Side_hasSame_50, zi_Side_hasSame_53, zi_Side_hasSame_54, zi_Side_hasSame_57, zi_Side_hasSame_60, zi_Side_hasSame_61, zi_Side_hasSame_64, zi_Side_hasSame_65, zi_Side_hasSame_68, zi_Side_hasSame_71, zi_Side_hasSame_72, zi_Side_hasSame_75, zi_Side_hasSame_76, zi_Side_hasSame_79, zi_Side_hasSame_80, zi_Side_hasSame_83, zi_Side_hasSame_84, zi_Side_hasSame_87, zi_Side_hasSame_88, zi_Side_hasSame_91, zi_Side_hasSame_94, zi_Side_hasSame_95, zi_Side_hasSame_98, zi_Side_hasSame_99, zi_Side_hasSame_102, zi_Side_hasSame_103, zi_Side_hasSame_106, zi_Side_hasSame_107, zi_Side_hasSame_110, zi_Side_hasSame_111, ↓reduceIte, mj_op_s, Option.toList_some, Option.toList_none, List.cons_append, List.nil_append, hp_1, hp_2, true_and, and_true, zb_0, zb_1, zb_b, va_rf, io_sd, ↓ogf_sd_0, ↓ogf_sd_1, ↓ogf_sd_2, ↓ogf_sd_3, ↓ogf_sd_4, ↓ogf_sd_5, ↓ogf_sd_6, ↓ogf_sd_7, ↓ogf_sd_8, ↓ogf_sd_9, ↓opf_sd_1, ↓opf_sd_2, ↓opf_sd_5, ↓opf_sd_6, ↓opf_sd_7, ↓opf_sd_8, ↓opf_sd_9, ↓oai_sd, ↓owi_sd, ↓oal_sd, ↓owl_sd, a4, c4, a5, c5, hn1, lgc_eq, e5, b1_f]
        · have hne2 := nI_ne (show (en x own (f r).2.2.1).1 < 2 ^ 31 by omega) (show (en x own2 (g q).2.2.1).1 < 2 ^ 31 by omega) e4
          simp (decide := true) (disch := first | assumption | omega) only [zi_Side_hasSame_0, zi_Side_hasSame_1, zi_Side_hasSame_4, zi_Side_hasSame_5, zi_Side_hasSame_6, zi_Side_hasSame_7, zi_Side_hasSame_10, zi_Side_hasSame_11, zi_Side_hasSame_12, zi_Side_hasSame_15, zi_Side_hasSame_16, zi_Side_hasSame_17, zi_Side_hasSame_18, zi_Side_hasSame_21, zi_Side_hasSame_22, zi_Side_hasSame_23, zi_Side_hasSame_24, zi_Side_hasSame_27, zi_Side_hasSame_28, zi_Side_hasSame_31, zi_Side_hasSame_32, zi_Side_hasSame_33, zi_Side_hasSame_34, zi_Side_hasSame_37, zi_Side_hasSame_38, zi_Side_hasSame_39, zi_Side_hasSame_40, zi_Side_hasSame_43, zi_Side_hasSame_44, zi_Side_hasSame_47, zi_Side_hasSame_48, zi_Side_hasSame_49, zi_Side_hasSame_50, zi_Side_hasSame_53, zi_Side_hasSame_54, zi_Side_hasSame_57, zi_Side_hasSame_60, zi_Side_hasSame_61, zi_Side_hasSame_64, zi_Side_hasSame_65, zi_Side_hasSame_68, zi_Side_hasSame_71, zi_Side_hasSame_72, zi_Side_hasSame_75, zi_Side_hasSame_76, zi_Side_hasSame_79, zi_Side_hasSame_80, zi_Side_hasSame_83, zi_Side_hasSame_84, zi_Side_hasSame_87, zi_Side_hasSame_88, zi_Side_hasSame_91, zi_Side_hasSame_94, zi_Side_hasSame_95, zi_Side_hasSame_98, zi_Side_hasSame_99, zi_Side_hasSame_102, zi_Side_hasSame_103, zi_Side_hasSame_106, zi_Side_hasSame_107, zi_Side_hasSame_110, zi_Side_hasSame_111, ↓reduceIte, mj_op_s, Option.toList_some, Option.toList_none, List.cons_append, List.nil_append, hp_1, hp_2, true_and, and_true, zb_0, zb_1, zb_b, va_rf, io_sd, ↓ogf_sd_0, ↓ogf_sd_1, ↓ogf_sd_2, ↓ogf_sd_3, ↓ogf_sd_4, ↓ogf_sd_5, ↓ogf_sd_6, ↓ogf_sd_7, ↓ogf_sd_8, ↓ogf_sd_9, ↓opf_sd_1, ↓opf_sd_2, ↓opf_sd_5, ↓opf_sd_6, ↓opf_sd_7, ↓opf_sd_8, ↓opf_sd_9, ↓oai_sd, ↓owi_sd, ↓oal_sd, ↓owl_sd, a4, c4, hne2, b1_f]
    · obtain ⟨c4, c5⟩ := c3 y
      have hne2 := nI_ne (show (en x own (f r).2.2.1).1 < 2 ^ 31 by omega) (show 1 < 2 ^ 31 by omega) n2
      rw [if_neg (by omega)]
      simp (decide := true) (disch := first | assumption | omega) only [zi_Side_hasSame_0, zi_Side_hasSame_1, zi_Side_hasSame_4, zi_Side_hasSame_5, zi_Side_hasSame_6, zi_Side_hasSame_7, zi_Side_hasSame_10, zi_Side_hasSame_11, zi_Side_hasSame_12, zi_Side_hasSame_15, zi_Side_hasSame_16, zi_Side_hasSame_17, zi_Side_hasSame_18, zi_Side_hasSame_21, zi_Side_hasSame_22, zi_Side_hasSame_23, zi_Side_hasSame_24, zi_Side_hasSame_27, zi_Side_hasSame_28, zi_Side_hasSame_31, zi_Side_hasSame_32, zi_Side_hasSame_33, zi_Side_hasSame_34, zi_Side_hasSame_37, zi_Side_hasSame_38, zi_Side_hasSame_39, zi_Side_hasSame_40, zi_Side_hasSame_43, zi_Side_hasSame_44, zi_Side_hasSame_47, zi_Side_hasSame_48, zi_Side_hasSame_49, zi_Side_hasSame_50, zi_Side_hasSame_53, zi_Side_hasSame_54, zi_Side_hasSame_57, zi_Side_hasSame_60, zi_Side_hasSame_61, zi_Side_hasSame_64, zi_Side_hasSame_65, zi_Side_hasSame_68, zi_Side_hasSame_71, zi_Side_hasSame_72, zi_Side_hasSame_75, zi_Side_hasSame_76, zi_Side_hasSame_79, zi_Side_hasSame_80, zi_Side_hasSame_83, zi_Side_hasSame_84, zi_Side_hasSame_87, zi_Side_hasSame_88, zi_Side_hasSame_91, zi_Side_hasSame_94, zi_Side_hasSame_95, zi_Side_hasSame_98, zi_Side_hasSame_99, zi_Side_hasSame_102, zi_Side_hasSame_103, zi_Side_hasSame_106, zi_Side_hasSame_107, zi_Side_hasSame_110, zi_Side_hasSame_111, ↓reduceIte, mj_op_s, Option.toList_some, Option.toList_none, List.cons_append, List.nil_append, hp_1, hp_2, true_and, and_true, zb_0, zb_1, zb_b, va_rf, io_sd, ↓ogf_sd_0, ↓ogf_sd_1, ↓ogf_sd_2, ↓ogf_sd_3, ↓ogf_sd_4, ↓ogf_sd_5, ↓ogf_sd_6, ↓ogf_sd_7, ↓ogf_sd_8, ↓ogf_sd_9, ↓opf_sd_1, ↓opf_sd_2, ↓opf_sd_5, ↓opf_sd_6, ↓opf_sd_7, ↓opf_sd_8, ↓opf_sd_9, ↓oai_sd, ↓owi_sd, ↓oal_sd, ↓owl_sd, a4, c4, hne2, b1_f]
  · obtain ⟨a4, a5, a6, a7, a8, a9⟩ := a3 z
    rcases k2.1 with y | y | y
    · obtain ⟨c4, c5⟩ := c1 y
      rw [if_neg (by omega)]
      simp (decide := true) (disch := first | assumption | omega) only [zi_Side_hasSame_0, zi_Side_hasSame_1, zi_Side_hasSame_4, zi_Side_hasSame_5, zi_Side_hasSame_6, zi_Side_hasSame_7, zi_Side_hasSame_10, zi_Side_hasSame_11, zi_Side_hasSame_12, zi_Side_hasSame_15, zi_Side_hasSame_16, zi_Side_hasSame_17, zi_Side_hasSame_18, zi_Side_hasSame_21, zi_Side_hasSame_22, zi_Side_hasSame_23, zi_Side_hasSame_24, zi_Side_hasSame_27, zi_Side_hasSame_28, zi_Side_hasSame_31, zi_Side_hasSame_32, zi_Side_hasSame_33, zi_Side_hasSame_34, zi_Side_hasSame_37, zi_Side_hasSame_38, zi_Side_hasSame_39, zi_Side_hasSame_40, zi_Side_hasSame_43, zi_Side_hasSame_44, zi_Side_hasSame_47, zi_Side_hasSame_48, zi_Side_hasSame_49, zi_Side_hasSame_50, zi_Side_hasSame_53, zi_Side_hasSame_54, zi_Side_hasSame_57, zi_Side_hasSame_60, zi_Side_hasSame_61, zi_Side_hasSame_64, zi_Side_hasSame_65, zi_Side_hasSame_68, zi_Side_hasSame_71, zi_Side_hasSame_72, zi_Side_hasSame_75, zi_Side_hasSame_76, zi_Side_hasSame_79, zi_Side_hasSame_80, zi_Side_hasSame_83, zi_Side_hasSame_84, zi_Side_hasSame_87, zi_Side_hasSame_88, zi_Side_hasSame_91, zi_Side_hasSame_94, zi_Side_hasSame_95, zi_Side_hasSame_98, zi_Side_hasSame_99, zi_Side_hasSame_102, zi_Side_hasSame_103, zi_Side_hasSame_106, zi_Side_hasSame_107, zi_Side_hasSame_110, zi_Side_hasSame_111, ↓reduceIte, mj_op_s, Option.toList_some, Option.toList_none, List.cons_append, List.nil_append, hp_1, hp_2, true_and, and_true, zb_0, zb_1, zb_b, va_rf, io_sd, ↓ogf_sd_0, ↓ogf_sd_1, ↓ogf_sd_2, ↓ogf_sd_3, ↓ogf_sd_4, ↓ogf_sd_5, ↓ogf_sd_6, ↓ogf_sd_7, ↓ogf_sd_8, ↓ogf_sd_9, ↓opf_sd_1, ↓opf_sd_2, ↓opf_sd_5, ↓opf_sd_6, ↓opf_sd_7, ↓opf_sd_8, ↓opf_sd_9, ↓oai_sd, ↓owi_sd, ↓oal_sd, ↓owl_sd, a4, c4, b1_f]
    · obtain ⟨c4, c5⟩ := c2 y
      have n2 : ¬ (en x own2 (g q).2.2.1).1 = 1 := en_ne1 ho2
      have hl := en_lt (x := x) (q := (g q).2.2.1) ho2
      have hne2 := nI_ne (show 1 < 2 ^ 31 by omega) (show (en x own2 (g q).2.2.1).1 < 2 ^ 31 by omega) (fun h => n2 h.symm)
      rw [if_neg (by omega)]
      simp (decide := true) (disch := first | assumption | omega) only [zi_Side_hasSame_0, zi_Side_hasSame_1, zi_Side_hasSame_4, zi_Side_hasSame_5, zi_Side_hasSame_6, zi_Side_hasSame_7, zi_Side_hasSame_10, zi_Side_hasSame_11, zi_Side_hasSame_12, zi_Side_hasSame_15, zi_Side_hasSame_16, zi_Side_hasSame_17, zi_Side_hasSame_18, zi_Side_hasSame_21, zi_Side_hasSame_22, zi_Side_hasSame_23, zi_Side_hasSame_24, zi_Side_hasSame_27, zi_Side_hasSame_28, zi_Side_hasSame_31, zi_Side_hasSame_32, zi_Side_hasSame_33, zi_Side_hasSame_34, zi_Side_hasSame_37, zi_Side_hasSame_38, zi_Side_hasSame_39, zi_Side_hasSame_40, zi_Side_hasSame_43, zi_Side_hasSame_44, zi_Side_hasSame_47, zi_Side_hasSame_48, zi_Side_hasSame_49, zi_Side_hasSame_50, zi_Side_hasSame_53, zi_Side_hasSame_54, zi_Side_hasSame_57, zi_Side_hasSame_60, zi_Side_hasSame_61, zi_Side_hasSame_64, zi_Side_hasSame_65, zi_Side_hasSame_68, zi_Side_hasSame_71, zi_Side_hasSame_72, zi_Side_hasSame_75, zi_Side_hasSame_76, zi_Side_hasSame_79, zi_Side_hasSame_80, zi_Side_hasSame_83, zi_Side_hasSame_84, zi_Side_hasSame_87, zi_Side_hasSame_88, zi_Side_hasSame_91, zi_Side_hasSame_94, zi_Side_hasSame_95, zi_Side_hasSame_98, zi_Side_hasSame_99, zi_Side_hasSame_102, zi_Side_hasSame_103, zi_Side_hasSame_106, zi_Side_hasSame_107, zi_Side_hasSame_110, zi_Side_hasSame_111, ↓reduceIte, mj_op_s, Option.toList_some, Option.toList_none, List.cons_append, List.nil_append, hp_1, hp_2, true_and, and_true, zb_0, zb_1, zb_b, va_rf, io_sd, ↓ogf_sd_0, ↓ogf_sd_1, ↓ogf_sd_2, ↓ogf_sd_3, ↓ogf_sd_4, ↓ogf_sd_5, ↓ogf_sd_6, ↓ogf_sd_7, ↓ogf_sd_8, ↓ogf_sd_9, ↓opf_sd_1, ↓opf_sd_2, ↓opf_sd_5, ↓opf_sd_6, ↓opf_sd_7, ↓opf_sd_8, ↓opf_sd_9, ↓oai_sd, ↓owi_sd, ↓oal_sd, ↓owl_sd, a4, c4, hne2, b1_f]
    · obtain ⟨c4, c5, c6, c7, c8, c9⟩ := c3 y
      obtain ⟨h1, h3⟩ := k1.2.2 z
      obtain ⟨h2, h4⟩ := k2.2.2 y
      have hl1 := en_lt (x := x) (q := (f r).2.2.2.2.1) ho
      have hl2 := en_lt (x := x) (q := (g q).2.2.2.2.1) ho2
      have hl3 := en_lt (x := x) (q := (f r).2.2.2.2.2) ho
      have hl4 := en_lt (x := x) (q := (g q).2.2.2.2.2) ho2
      have hal := en_alk (x := x) h1 h2 ho ho2 hne
      have har := en_alk (x := x) h3 h4 ho ho2 hne
      rw [if_pos (z.trans y.symm), if_neg (by omega), if_neg (by omega)]
      by_cases ck : (f r).2.2.2.1 = (g q).2.2.2.1
      · rw [decide_eq_true ck, Bool.true_and]
        rw [← ck] at c5 c8 c9
        cases hb : alk x (f r).2.2.2.2.1 (g q).2.2.2.2.1 with
        | true =>
          obtain ⟨e4, e5⟩ := hal.mpr hb
          rw [← e4] at c6
          rw [← e5] at c7
          rw [Bool.true_and]
          by_cases c10 : (f r).2.2.2.1 = nI 10
          · obtain ⟨a10, a11⟩ := a8 c10
            obtain ⟨c11, c12⟩ := c8 c10
            rw [decide_eq_true c10, Bool.true_or]
            simp (decide := true) (disch := first | assumption | omega) only [zi_Side_hasSame_0, zi_Side_hasSame_1, zi_Side_hasSame_4, zi_Side_hasSame_5, zi_Side_hasSame_6, zi_Side_hasSame_7, zi_Side_hasSame_10, zi_Side_hasSame_11, zi_Side_hasSame_12, zi_Side_hasSame_15, zi_Side_hasSame_16, zi_Side_hasSame_17, zi_Side_hasSame_18, zi_Side_hasSame_21, zi_Side_hasSame_22, zi_Side_hasSame_23, zi_Side_hasSame_24, zi_Side_hasSame_27, zi_Side_hasSame_28, zi_Side_hasSame_31, zi_Side_hasSame_32, zi_Side_hasSame_33, zi_Side_hasSame_34, zi_Side_hasSame_37, zi_Side_hasSame_38, zi_Side_hasSame_39, zi_Side_hasSame_40, zi_Side_hasSame_43, zi_Side_hasSame_44, zi_Side_hasSame_47, zi_Side_hasSame_48, zi_Side_hasSame_49, zi_Side_hasSame_50, zi_Side_hasSame_53, zi_Side_hasSame_54, zi_Side_hasSame_57, zi_Side_hasSame_60, zi_Side_hasSame_61, zi_Side_hasSame_64, zi_Side_hasSame_65, zi_Side_hasSame_68, zi_Side_hasSame_71, zi_Side_hasSame_72, zi_Side_hasSame_75, zi_Side_hasSame_76, zi_Side_hasSame_79, zi_Side_hasSame_80, zi_Side_hasSame_83, zi_Side_hasSame_84, zi_Side_hasSame_87, zi_Side_hasSame_88, zi_Side_hasSame_91, zi_Side_hasSame_94, zi_Side_hasSame_95, zi_Side_hasSame_98, zi_Side_hasSame_99, zi_Side_hasSame_102, zi_Side_hasSame_103, zi_Side_hasSame_106, zi_Side_hasSame_107, zi_Side_hasSame_110, zi_Side_hasSame_111, ↓reduceIte, mj_op_s, Option.toList_some, Option.toList_none, List.cons_append, List.nil_append, hp_1, hp_2, true_and, and_true, zb_0, zb_1, zb_b, va_rf, io_sd, ↓ogf_sd_0, ↓ogf_sd_1, ↓ogf_sd_2, ↓ogf_sd_3, ↓ogf_sd_4, ↓ogf_sd_5, ↓ogf_sd_6, ↓ogf_sd_7, ↓ogf_sd_8, ↓ogf_sd_9, ↓opf_sd_1, ↓opf_sd_2, ↓opf_sd_5, ↓opf_sd_6, ↓opf_sd_7, ↓opf_sd_8, ↓opf_sd_9, ↓oai_sd, ↓owi_sd, ↓oal_sd, ↓owl_sd, a4, c4, a5, c5, a6, c6, a7, c7, a10, a11, c11, c12, lgc_eq, b1_t]
          · obtain ⟨a10, a11⟩ := a9 c10
            obtain ⟨c11, c12⟩ := c9 c10
            rw [decide_eq_false c10, Bool.false_or]
            cases hb2 : alk x (f r).2.2.2.2.2 (g q).2.2.2.2.2 with
            | true =>
              obtain ⟨e6, e7⟩ := har.mpr hb2
              rw [← e6] at c11
              rw [← e7] at c12
              simp (decide := true) (disch := first | assumption | omega) only [zi_Side_hasSame_0, zi_Side_hasSame_1, zi_Side_hasSame_4, zi_Side_hasSame_5, zi_Side_hasSame_6, zi_Side_hasSame_7, zi_Side_hasSame_10, zi_Side_hasSame_11, zi_Side_hasSame_12, zi_Side_hasSame_15, zi_Side_hasSame_16, zi_Side_hasSame_17, zi_Side_hasSame_18, zi_Side_hasSame_21, zi_Side_hasSame_22, zi_Side_hasSame_23, zi_Side_hasSame_24, zi_Side_hasSame_27, zi_Side_hasSame_28, zi_Side_hasSame_31, zi_Side_hasSame_32, zi_Side_hasSame_33, zi_Side_hasSame_34, zi_Side_hasSame_37, zi_Side_hasSame_38, zi_Side_hasSame_39, zi_Side_hasSame_40, zi_Side_hasSame_43, zi_Side_hasSame_44, zi_Side_hasSame_47, zi_Side_hasSame_48, zi_Side_hasSame_49, zi_Side_hasSame_50, zi_Side_hasSame_53, zi_Side_hasSame_54, zi_Side_hasSame_57, zi_Side_hasSame_60, zi_Side_hasSame_61, zi_Side_hasSame_64, zi_Side_hasSame_65, zi_Side_hasSame_68, zi_Side_hasSame_71, zi_Side_hasSame_72, zi_Side_hasSame_75, zi_Side_hasSame_76, zi_Side_hasSame_79, zi_Side_hasSame_80, zi_Side_hasSame_83, zi_Side_hasSame_84, zi_Side_hasSame_87, zi_Side_hasSame_88, zi_Side_hasSame_91, zi_Side_hasSame_94, zi_Side_hasSame_95, zi_Side_hasSame_98, zi_Side_hasSame_99, zi_Side_hasSame_102, zi_Side_hasSame_103, zi_Side_hasSame_106, zi_Side_hasSame_107, zi_Side_hasSame_110, zi_Side_hasSame_111, ↓reduceIte, mj_op_s, Option.toList_some, Option.toList_none, List.cons_append, List.nil_append, hp_1, hp_2, true_and, and_true, zb_0, zb_1, zb_b, va_rf, io_sd, ↓ogf_sd_0, ↓ogf_sd_1, ↓ogf_sd_2, ↓ogf_sd_3, ↓ogf_sd_4, ↓ogf_sd_5, ↓ogf_sd_6, ↓ogf_sd_7, ↓ogf_sd_8, ↓ogf_sd_9, ↓opf_sd_1, ↓opf_sd_2, ↓opf_sd_5, ↓opf_sd_6, ↓opf_sd_7, ↓opf_sd_8, ↓opf_sd_9, ↓oai_sd, ↓owi_sd, ↓oal_sd, ↓owl_sd, a4, c4, a5, c5, a6, c6, a7, c7, a10, a11, c11, c12, lgc_eq, b1_t]
            | false =>
              by_cases e6 : (en x own (f r).2.2.2.2.2).1 = (en x own2 (g q).2.2.2.2.2).1
              · have e7 : ¬ (en x own (f r).2.2.2.2.2).2 = (en x own2 (g q).2.2.2.2.2).2 := fun h => by rw [har.mp ⟨e6, h⟩] at hb2; cases hb2
                rw [← e6] at c11
                simp (decide := true) (disch := first | assumption | omega) only [zi_Side_hasSame_0, zi_Side_hasSame_1, zi_Side_hasSame_4, zi_Side_hasSame_5, zi_Side_hasSame_6, zi_Side_hasSame_7, zi_Side_hasSame_10, zi_Side_hasSame_11, zi_Side_hasSame_12, zi_Side_hasSame_15, zi_Side_hasSame_16, zi_Side_hasSame_17, zi_Side_hasSame_18, zi_Side_hasSame_21, zi_Side_hasSame_22, zi_Side_hasSame_23, zi_Side_hasSame_24, zi_Side_hasSame_27, zi_Side_hasSame_28, zi_Side_hasSame_31, zi_Side_hasSame_32, zi_Side_hasSame_33, zi_Side_hasSame_34, zi_Side_hasSame_37, zi_Side_hasSame_38, zi_Side_hasSame_39, zi_Side_hasSame_40, zi_Side_hasSame_43, zi_Side_hasSame_44, zi_Side_hasSame_47, zi_Side_hasSame_48, zi_Side_hasSame_49, zi_Side_hasSame_50, zi_Side_hasSame_53, zi_Side_hasSame_54, zi_Side_hasSame_57, zi_Side_hasSame_60, zi_Side_hasSame_61, zi_Side_hasSame_64, zi_Side_hasSame_65, zi_Side_hasSame_68, zi_Side_hasSame_71, zi_Side_hasSame_72, zi_Side_hasSame_75, zi_Side_hasSame_76, zi_Side_hasSame_79, zi_Side_hasSame_80, zi_Side_hasSame_83, zi_Side_hasSame_84, zi_Side_hasSame_87, zi_Side_hasSame_88, zi_Side_hasSame_91, zi_Side_hasSame_94, zi_Side_hasSame_95, zi_Side_hasSame_98, zi_Side_hasSame_99, zi_Side_hasSame_102, zi_Side_hasSame_103, zi_Side_hasSame_106, zi_Side_hasSame_107, zi_Side_hasSame_110, zi_Side_hasSame_111, ↓reduceIte, mj_op_s, Option.toList_some, Option.toList_none, List.cons_append, List.nil_append, hp_1, hp_2, true_and, and_true, zb_0, zb_1, zb_b, va_rf, io_sd, ↓ogf_sd_0, ↓ogf_sd_1, ↓ogf_sd_2, ↓ogf_sd_3, ↓ogf_sd_4, ↓ogf_sd_5, ↓ogf_sd_6, ↓ogf_sd_7, ↓ogf_sd_8, ↓ogf_sd_9, ↓opf_sd_1, ↓opf_sd_2, ↓opf_sd_5, ↓opf_sd_6, ↓opf_sd_7, ↓opf_sd_8, ↓opf_sd_9, ↓oai_sd, ↓owi_sd, ↓oal_sd, ↓owl_sd, a4, c4, a5, c5, a6, c6, a7, c7, a10, a11, c11, c12, lgc_eq, e7, b1_f]
              · have hne2 := nI_ne (show (en x own (f r).2.2.2.2.2).1 < 2 ^ 31 by omega) (show (en x own2 (g q).2.2.2.2.2).1 < 2 ^ 31 by omega) e6
                simp (decide := true) (disch := first | assumption | omega) only [zi_Side_hasSame_0, zi_Side_hasSame_1, zi_Side_hasSame_4, zi_Side_hasSame_5, zi_Side_hasSame_6, zi_Side_hasSame_7, zi_Side_hasSame_10, zi_Side_hasSame_11, zi_Side_hasSame_12, zi_Side_hasSame_15, zi_Side_hasSame_16, zi_Side_hasSame_17, zi_Side_hasSame_18, zi_Side_hasSame_21, zi_Side_hasSame_22, zi_Side_hasSame_23, zi_Side_hasSame_24, zi_Side_hasSame_27, zi_Side_hasSame_28, zi_Side_hasSame_31, zi_Side_hasSame_32, zi_Side_hasSame_33, zi_Side_hasSame_34, zi_Side_hasSame_37, zi_Side_hasSame_38, zi_Side_hasSame_39, zi_Side_hasSame_40, zi_Side_hasSame_43, zi_Side_hasSame_44, zi_Side_hasSame_47, zi_Side_hasSame_48, zi_Side_hasSame_49, zi_Side_hasSame_50, zi_Side_hasSame_53, zi_Side_hasSame_54, zi_Side_hasSame_57, zi_Side_hasSame_60, zi_Side_hasSame_61, zi_Side_hasSame_64, zi_Side_hasSame_65, zi_Side_hasSame_68, zi_Side_hasSame_71, zi_Side_hasSame_72, zi_Side_hasSame_75, zi_Side_hasSame_76, zi_Side_hasSame_79, zi_Side_hasSame_80, zi_Side_hasSame_83, zi_Side_hasSame_84, zi_Side_hasSame_87, zi_Side_hasSame_88, zi_Side_hasSame_91, zi_Side_hasSame_94, zi_Side_hasSame_95, zi_Side_hasSame_98, zi_Side_hasSame_99, zi_Side_hasSame_102, zi_Side_hasSame_103, zi_Side_hasSame_106, zi_Side_hasSame_107, zi_Side_hasSame_110, zi_Side_hasSame_111, ↓reduceIte, mj_op_s, Option.toList_some, Option.toList_none, List.cons_append, List.nil_append, hp_1, hp_2, true_and, and_true, zb_0, zb_1, zb_b, va_rf, io_sd, ↓ogf_sd_0, ↓ogf_sd_1, ↓ogf_sd_2, ↓ogf_sd_3, ↓ogf_sd_4, ↓ogf_sd_5, ↓ogf_sd_6, ↓ogf_sd_7, ↓ogf_sd_8, ↓ogf_sd_9, ↓opf_sd_1, ↓opf_sd_2, ↓opf_sd_5, ↓opf_sd_6, ↓opf_sd_7, ↓opf_sd_8, ↓opf_sd_9, ↓oai_sd, ↓owi_sd, ↓oal_sd, ↓owl_sd, a4, c4, a5, c5, a6, c6, a7, c7, a10, c11, lgc_eq, hne2, b1_f]
        | false =>
          rw [Bool.false_and]
          by_cases e4 : (en x own (f r).2.2.2.2.1).1 = (en x own2 (g q).2.2.2.2.1).1
          · have e5 : ¬ (en x own (f r).2.2.2.2.1).2 = (en x own2 (g q).2.2.2.2.1).2 := fun h => by rw [hal.mp ⟨e4, h⟩] at hb; cases hb
            rw [← e4] at c6
            simp (decide := true) (disch := first | assumption | omega) only [zi_Side_hasSame_0, zi_Side_hasSame_1, zi_Side_hasSame_4, zi_Side_hasSame_5, zi_Side_hasSame_6, zi_Side_hasSame_7, zi_Side_hasSame_10, zi_Side_hasSame_11, zi_Side_hasSame_12, zi_Side_hasSame_15, zi_Side_hasSame_16, zi_Side_hasSame_17, zi_Side_hasSame_18, zi_Side_hasSame_21, zi_Side_hasSame_22, zi_Side_hasSame_23, zi_Side_hasSame_24, zi_Side_hasSame_27, zi_Side_hasSame_28, zi_Side_hasSame_31, zi_Side_hasSame_32, zi_Side_hasSame_33, zi_Side_hasSame_34, zi_Side_hasSame_37, zi_Side_hasSame_38, zi_Side_hasSame_39, zi_Side_hasSame_40, zi_Side_hasSame_43, zi_Side_hasSame_44, zi_Side_hasSame_47, zi_Side_hasSame_48, zi_Side_hasSame_49, zi_Side_hasSame_50, zi_Side_hasSame_53, zi_Side_hasSame_54, zi_Side_hasSame_57, zi_Side_hasSame_60, zi_Side_hasSame_61, zi_Side_hasSame_64, zi_Side_hasSame_65, zi_Side_hasSame_68, zi_Side_hasSame_71, zi_Side_hasSame_72, zi_Side_hasSame_75, zi_Side_hasSame_76, zi_Side_hasSame_79, zi_Side_hasSame_80, zi_Side_hasSame_83, zi_Side_hasSame_84, zi_Side_hasSame_87, zi_Side_hasSame_88, zi_Side_hasSame_91, zi_Side_hasSame_94, zi_Side_hasSame_95, zi_Side_hasSame_98, zi_Side_hasSame_99, zi_Side_hasSame_102, zi_Side_hasSame_103, zi_Side_hasSame_106, zi_Side_hasSame_107, zi_Side_hasSame_110, zi_Side_hasSame_111, ↓reduceIte, mj_op_s, Option.toList_some, Option.toList_none, List.cons_append, List.nil_append, hp_1, hp_2, true_and, and_true, zb_0, zb_1, zb_b, va_rf, io_sd, ↓ogf_sd_0, ↓ogf_sd_1, ↓ogf_sd_2, ↓ogf_sd_3, ↓ogf_sd_4, ↓ogf_sd_5, ↓ogf_sd_6, ↓ogf_sd_7, ↓ogf_sd_8, ↓ogf_sd_9, ↓opf_sd_1, ↓opf_sd_2, ↓opf_sd_5, ↓opf_sd_6, ↓opf_sd_7, ↓opf_sd_8, ↓opf_sd_9, ↓oai_sd, ↓owi_sd, ↓oal_sd, ↓owl_sd, a4, c4, a5, c5, a6, c6, a7, c7, lgc_eq, e5, b1_f]
          · have hne2 := nI_ne (show (en x own (f r).2.2.2.2.1).1 < 2 ^ 31 by omega) (show (en x own2 (g q).2.2.2.2.1).1 < 2 ^ 31 by omega) e4
            simp (decide := true) (disch := first | assumption | omega) only [zi_Side_hasSame_0, zi_Side_hasSame_1, zi_Side_hasSame_4, zi_Side_hasSame_5, zi_Side_hasSame_6, zi_Side_hasSame_7, zi_Side_hasSame_10, zi_Side_hasSame_11, zi_Side_hasSame_12, zi_Side_hasSame_15, zi_Side_hasSame_16, zi_Side_hasSame_17, zi_Side_hasSame_18, zi_Side_hasSame_21, zi_Side_hasSame_22, zi_Side_hasSame_23, zi_Side_hasSame_24, zi_Side_hasSame_27, zi_Side_hasSame_28, zi_Side_hasSame_31, zi_Side_hasSame_32, zi_Side_hasSame_33, zi_Side_hasSame_34, zi_Side_hasSame_37, zi_Side_hasSame_38, zi_Side_hasSame_39, zi_Side_hasSame_40, zi_Side_hasSame_43, zi_Side_hasSame_44, zi_Side_hasSame_47, zi_Side_hasSame_48, zi_Side_hasSame_49, zi_Side_hasSame_50, zi_Side_hasSame_53, zi_Side_hasSame_54, zi_Side_hasSame_57, zi_Side_hasSame_60, zi_Side_hasSame_61, zi_Side_hasSame_64, zi_Side_hasSame_65, zi_Side_hasSame_68, zi_Side_hasSame_71, zi_Side_hasSame_72, zi_Side_hasSame_75, zi_Side_hasSame_76, zi_Side_hasSame_79, zi_Side_hasSame_80, zi_Side_hasSame_83, zi_Side_hasSame_84, zi_Side_hasSame_87, zi_Side_hasSame_88, zi_Side_hasSame_91, zi_Side_hasSame_94, zi_Side_hasSame_95, zi_Side_hasSame_98, zi_Side_hasSame_99, zi_Side_hasSame_102, zi_Side_hasSame_103, zi_Side_hasSame_106, zi_Side_hasSame_107, zi_Side_hasSame_110, zi_Side_hasSame_111, ↓reduceIte, mj_op_s, Option.toList_some, Option.toList_none, List.cons_append, List.nil_append, hp_1, hp_2, true_and, and_true, zb_0, zb_1, zb_b, va_rf, io_sd, ↓ogf_sd_0, ↓ogf_sd_1, ↓ogf_sd_2, ↓ogf_sd_3, ↓ogf_sd_4, ↓ogf_sd_5, ↓ogf_sd_6, ↓ogf_sd_7, ↓ogf_sd_8, ↓ogf_sd_9, ↓opf_sd_1, ↓opf_sd_2, ↓opf_sd_5, ↓opf_sd_6, ↓opf_sd_7, ↓opf_sd_8, ↓opf_sd_9, ↓oai_sd, ↓owi_sd, ↓oal_sd, ↓owl_sd, a4, c4, a5, c5, a6, c6, hne2, b1_f]
      · rw [decide_eq_false ck, Bool.false_and]
        simp (decide := true) (disch := first | assumption | omega) only [zi_Side_hasSame_0, zi_Side_hasSame_1, zi_Side_hasSame_4, zi_Side_hasSame_5, zi_Side_hasSame_6, zi_Side_hasSame_7, zi_Side_hasSame_10, zi_Side_hasSame_11, zi_Side_hasSame_12, zi_Side_hasSame_15, zi_Side_hasSame_16, zi_Side_hasSame_17, zi_Side_hasSame_18, zi_Side_hasSame_21, zi_Side_hasSame_22, zi_Side_hasSame_23, zi_Side_hasSame_24, zi_Side_hasSame_27, zi_Side_hasSame_28, zi_Side_hasSame_31, zi_Side_hasSame_32, zi_Side_hasSame_33, zi_Side_hasSame_34, zi_Side_hasSame_37, zi_Side_hasSame_38, zi_Side_hasSame_39, zi_Side_hasSame_40, zi_Side_hasSame_43, zi_Side_hasSame_44, zi_Side_hasSame_47, zi_Side_hasSame_48, zi_Side_hasSame_49, zi_Side_hasSame_50, zi_Side_hasSame_53, zi_Side_hasSame_54, zi_Side_hasSame_57, zi_Side_hasSame_60, zi_Side_hasSame_61, zi_Side_hasSame_64, zi_Side_hasSame_65, zi_Side_hasSame_68, zi_Side_hasSame_71, zi_Side_hasSame_72, zi_Side_hasSame_75, zi_Side_hasSame_76, zi_Side_hasSame_79, zi_Side_hasSame_80, zi_Side_hasSame_83, zi_Side_hasSame_84, zi_Side_hasSame_87, zi_Side_hasSame_88, zi_Side_hasSame_91, zi_Side_hasSame_94, zi_Side_hasSame_95, zi_Side_hasSame_98, zi_Side_hasSame_99, zi_Side_hasSame_102, zi_Side_hasSame_103, zi_Side_hasSame_106, zi_Side_hasSame_107, zi_Side_hasSame_110, zi_Side_hasSame_111, ↓reduceIte, mj_op_s, Option.toList_some, Option.toList_none, List.cons_append, List.nil_append, hp_1, hp_2, true_and, and_true, zb_0, zb_1, zb_b, va_rf, io_sd, ↓ogf_sd_0, ↓ogf_sd_1, ↓ogf_sd_2, ↓ogf_sd_3, ↓ogf_sd_4, ↓ogf_sd_5, ↓ogf_sd_6, ↓ogf_sd_7, ↓ogf_sd_8, ↓ogf_sd_9, ↓opf_sd_1, ↓opf_sd_2, ↓opf_sd_5, ↓opf_sd_6, ↓opf_sd_7, ↓opf_sd_8, ↓opf_sd_9, ↓oai_sd, ↓owi_sd, ↓oal_sd, ↓owl_sd, a4, c4, a5, c5, ck, b1_f]
theorem c_hasAsNumber (hs : isSd s) (ho : isOw own) (hr : r < 8) (hS : sdS M s own x f) (k1 : okT (f r)) (u1 : okU x (f r)) {v : Int64} : mj_V d lim mq_Side_hasAsNumber 0 [.ref s, .int (nI r), .long v, mj_j] [] (hp M) Q ↔ Q (some (.int (b1 (decide ((f r).1 = 0) && decide ((f r).2.1 = v))))) (hp M) := by
  obtain ⟨a1, a2, a3⟩ := hS r hr
  rcases k1.1 with z | z | z
  · obtain ⟨a4, a5⟩ := a1 z
    rw [decide_eq_true z, Bool.true_and]
    by_cases cv : (f r).2.1 = v
    · rw [decide_eq_true cv]
      simp (decide := true) (disch := first | assumption | omega) only [zi_Side_hasAsNumber_0, zi_Side_hasAsNumber_1, zi_Side_hasAsNumber_4, zi_Side_hasAsNumber_5, zi_Side_hasAsNumber_6, zi_Side_hasAsNumber_9, zi_Side_hasAsNumber_10, zi_Side_hasAsNumber_13, zi_Side_hasAsNumber_14, zi_Side_hasAsNumber_15, zi_Side_hasAsNumber_16, zi_Side_hasAsNumber_17, zi_Side_hasAsNumber_20, zi_Side_hasAsNumber_21, zi_Side_hasAsNumber_24, zi_Side_hasAsNumber_25, ↓reduceIte, mj_op_s, Option.toList_some, Option.toList_none, List.cons_append, List.nil_append, hp_1, hp_2, true_and, and_true, zb_0, zb_1, zb_b, va_rf, io_sd, ↓ogf_sd_0, ↓ogf_sd_1, ↓ogf_sd_2, ↓ogf_sd_3, ↓ogf_sd_4, ↓ogf_sd_5, ↓ogf_sd_6, ↓ogf_sd_7, ↓ogf_sd_8, ↓ogf_sd_9, ↓opf_sd_1, ↓opf_sd_2, ↓opf_sd_5, ↓opf_sd_6, ↓opf_sd_7, ↓opf_sd_8, ↓opf_sd_9, ↓oai_sd, ↓owi_sd, ↓oal_sd, ↓owl_sd, a4, a5, lgc_eq, cv, b1_t]
    · rw [decide_eq_false cv]
      simp (decide := true) (disch := first | assumption | omega) only [zi_Side_hasAsNumber_0, zi_Side_hasAsNumber_1, zi_Side_hasAsNumber_4, zi_Side_hasAsNumber_5, zi_Side_hasAsNumber_6, zi_Side_hasAsNumber_9, zi_Side_hasAsNumber_10, zi_Side_hasAsNumber_13, zi_Side_hasAsNumber_14, zi_Side_hasAsNumber_15, zi_Side_hasAsNumber_16, zi_Side_hasAsNumber_17, zi_Side_hasAsNumber_20, zi_Side_hasAsNumber_21, zi_Side_hasAsNumber_24, zi_Side_hasAsNumber_25, ↓reduceIte, mj_op_s, Option.toList_some, Option.toList_none, List.cons_append, List.nil_append, hp_1, hp_2, true_and, and_true, zb_0, zb_1, zb_b, va_rf, io_sd, ↓ogf_sd_0, ↓ogf_sd_1, ↓ogf_sd_2, ↓ogf_sd_3, ↓ogf_sd_4, ↓ogf_sd_5, ↓ogf_sd_6, ↓ogf_sd_7, ↓ogf_sd_8, ↓ogf_sd_9, ↓opf_sd_1, ↓opf_sd_2, ↓opf_sd_5, ↓opf_sd_6, ↓opf_sd_7, ↓opf_sd_8, ↓opf_sd_9, ↓oai_sd, ↓owi_sd, ↓oal_sd, ↓owl_sd, a4, a5, lgc_eq, cv, b1_f]
  · obtain ⟨a4, a5⟩ := a2 z
    have n1 : ¬ (en x own (f r).2.2.1).1 = 0 := fun h => by have := (en_0 ho).mp h; rw [u1 z] at this; cases this
    have hl := en_lt (x := x) (q := (f r).2.2.1) ho
    have hne2 := nI_ne (show (en x own (f r).2.2.1).1 < 2 ^ 31 by omega) (show 0 < 2 ^ 31 by omega) n1
    rw [decide_eq_false (show ¬ (f r).1 = 0 by omega), Bool.false_and]
    simp (decide := true) (disch := first | assumption | omega) only [zi_Side_hasAsNumber_0, zi_Side_hasAsNumber_1, zi_Side_hasAsNumber_4, zi_Side_hasAsNumber_5, zi_Side_hasAsNumber_6, zi_Side_hasAsNumber_9, zi_Side_hasAsNumber_10, zi_Side_hasAsNumber_13, zi_Side_hasAsNumber_14, zi_Side_hasAsNumber_15, zi_Side_hasAsNumber_16, zi_Side_hasAsNumber_17, zi_Side_hasAsNumber_20, zi_Side_hasAsNumber_21, zi_Side_hasAsNumber_24, zi_Side_hasAsNumber_25, ↓reduceIte, mj_op_s, Option.toList_some, Option.toList_none, List.cons_append, List.nil_append, hp_1, hp_2, true_and, and_true, zb_0, zb_1, zb_b, va_rf, io_sd, ↓ogf_sd_0, ↓ogf_sd_1, ↓ogf_sd_2, ↓ogf_sd_3, ↓ogf_sd_4, ↓ogf_sd_5, ↓ogf_sd_6, ↓ogf_sd_7, ↓ogf_sd_8, ↓ogf_sd_9, ↓opf_sd_1, ↓opf_sd_2, ↓opf_sd_5, ↓opf_sd_6, ↓opf_sd_7, ↓opf_sd_8, ↓opf_sd_9, ↓oai_sd, ↓owi_sd, ↓oal_sd, ↓owl_sd, a4, hne2, b1_f]
  · obtain ⟨a4, a5⟩ := a3 z
    rw [decide_eq_false (show ¬ (f r).1 = 0 by omega), Bool.false_and]
    simp (decide := true) (disch := first | assumption | omega) only [zi_Side_hasAsNumber_0, zi_Side_hasAsNumber_1, zi_Side_hasAsNumber_4, zi_Side_hasAsNumber_5, zi_Side_hasAsNumber_6, zi_Side_hasAsNumber_9, zi_Side_hasAsNumber_10, zi_Side_hasAsNumber_13, zi_Side_hasAsNumber_14, zi_Side_hasAsNumber_15, zi_Side_hasAsNumber_16, zi_Side_hasAsNumber_17, zi_Side_hasAsNumber_20, zi_Side_hasAsNumber_21, zi_Side_hasAsNumber_24, zi_Side_hasAsNumber_25, ↓reduceIte, mj_op_s, Option.toList_some, Option.toList_none, List.cons_append, List.nil_append, hp_1, hp_2, true_and, and_true, zb_0, zb_1, zb_b, va_rf, io_sd, ↓ogf_sd_0, ↓ogf_sd_1, ↓ogf_sd_2, ↓ogf_sd_3, ↓ogf_sd_4, ↓ogf_sd_5, ↓ogf_sd_6, ↓ogf_sd_7, ↓ogf_sd_8, ↓ogf_sd_9, ↓opf_sd_1, ↓opf_sd_2, ↓opf_sd_5, ↓opf_sd_6, ↓opf_sd_7, ↓opf_sd_8, ↓opf_sd_9, ↓oai_sd, ↓owi_sd, ↓oal_sd, ↓owl_sd, a4, b1_f]
end C97
