/-! best: a round; Passes.improve -/
noncomputable def itw : Nat → Nat → XA → XA
  | 0, _, x => x
  | n + 1, w, x => itw n (w + 1) (np w x)
noncomputable def chg : Nat → Nat → XA → Bool
  | 0, _, _ => false
  | n + 1, w, x => cg w x || chg n (w + 1) (np w x)
abbrev imP (o2 i k : Nat) : Prop := 203 ≤ i ∧ i ≤ 226 ∨ rtP o2 i k
section C89
variable {d : Nat} {lim : Nat × Nat} {Q : mj_Q} {M M' : mm} {o o2 len p q j r n w : Nat} {A B : AA} {x y : XA}
theorem rnd_i : itw 4 0 x = rnd x := rfl
theorem more_i : chg 4 0 x = more x := by
  show (cg 0 x || (cg 1 (np 0 x) || (cg 2 (np 1 (np 0 x)) || (cg 3 (np 2 (np 1 (np 0 x))) || false)))) = (cg 0 x || cg 1 (np 0 x) || cg 2 (np 1 (np 0 x)) || cg 3 (np 2 (np 1 (np 0 x))))
  rw [Bool.or_false, Bool.or_assoc, Bool.or_assoc]
theorem ld_cong (h : ∀ q, q < len → ∀ j, j < 4 → A q j = B q j) : ∀ f p s, ldS len A f p s = ldS len B f p s := by
  have hO : ∀ p, ldO len A p ↔ ldO len B p := fun p => by
    unfold ldO
    constructor
    · intro z; rw [h p z.1 0 (by omega)] at z; exact z
    · intro z; rw [← h p z.1 0 (by omega)] at z; exact z
  have hN : ∀ p, ldO len A p → ldN len A p = ldN len B p := fun p z => by
    unfold ldN tgP
    rw [h p z.1 0 (by omega), h p z.1 2 (by omega)]
  intro f
  induction f with
  | zero =>
    intro p s
    unfold ldS
    by_cases c : ldO len A p
    · rw [if_pos c, if_pos ((hO p).mp c)]
    · rw [if_neg c, if_neg (fun z => c ((hO p).mpr z))]
  | succ f ih =>
    intro p s
    unfold ldS
    by_cases c : ldO len A p
    · rw [if_pos c, if_pos ((hO p).mp c), hN p c]; exact ih _ _
    · rw [if_neg c, if_neg (fun z => c ((hO p).mpr z))]
theorem th_cong (h : ∀ q, q < len → ∀ j, j < 4 → A q j = B q j) (hp0 : p < len) (hj : j < 4) : thA len A p j = thA len B p j := by
  have e1 : jyP A p = jyP B p := by unfold jyP; rw [h p hp0 0 (by omega)]
  have e2 : tgP len A p = tgP len B p := by unfold tgP; rw [h p hp0 2 (by omega)]
  have e3 : ∀ k, ldR len A k = ldR len B k := fun k => by
    unfold ldR
    rw [ld_cong h]
    cases ldS len B len k 0 <;> rfl
  unfold thA
  rw [e1, e2, e3, h p hp0 j hj]
theorem np_2in (hp0 : p < x.1) (hj : j < 4) : (np 2 x).2 p j = thA x.1 x.2 p j := nrm_in (x := psA 2 x.1 x.2) hp0 hj
theorem fx_2 (hok : okR x.1 x.2) : np 2 (np 2 x) = np 2 x := by
  refine nrm_eq isN_np isN_np ⟨rfl, fun p hp0 j hj => ?_⟩
  have hp0 : p < x.1 := hp0
  have h1 : (np 2 (np 2 x)).2 p j = thA x.1 (np 2 x).2 p j := np_2in (x := np 2 x) hp0 hj
  rw [h1, np_2in hp0 hj, th_cong (B := thA x.1 x.2) (fun q hq k hk => np_2in hq hk) hp0 hj]
  exact th_twice hok hp0
theorem np_2y (hok : okR x.1 x.2) : ∀ p, p < (np 2 x).1 → jyP (np 2 x).2 p = true → nI (tgP (np 2 x).1 (np 2 x).2 p) = (np 2 x).2 p 2 := by
  intro p hp0 hj
  have h50 := hok.1
  have hp0 : p < x.1 := hp0
  have hj : jyP x.2 p = true := by
    have e : (np 2 x).2 p 0 = x.2 p 0 := (np_2in hp0 (by omega)).trans th_0
    unfold jyP at hj ⊢
    rw [e] at hj
    exact hj
  have hb := (ldR_b (len := x.1) (A := x.2) (p := tgP x.1 x.2 p) tgP_le).1
  have e2 : (np 2 x).2 p 2 = nI (ldR x.1 x.2 (tgP x.1 x.2 p)).1 := (np_2in hp0 (by omega)).trans (if_pos ⟨hj, rfl⟩)
  have e1 : tgP (np 2 x).1 (np 2 x).2 p = if cz ((np 2 x).2 p 2) < x.1 then cz ((np 2 x).2 p 2) else x.1 := rfl
  rw [e1, e2, cz_n (by omega)]
  by_cases c : (ldR x.1 x.2 (tgP x.1 x.2 p)).1 < x.1
  · rw [if_pos c]
  · rw [if_neg c, show (ldR x.1 x.2 (tgP x.1 x.2 p)).1 = x.1 by omega]
theorem cg_no (h : np w x = x) : cg w x = false := by
  unfold cg
  rw [h, eqB_t ⟨rfl, fun _ _ _ _ => rfl⟩]
  rfl
theorem ms_lt (hok : okR x.1 x.2) (hx : isN x) (h : more x = true) : ms (rnd x) < ms x := by
  obtain ⟨a1, a2⟩ := np_0 hx
  obtain ⟨b1, b2⟩ := np_1 (isN_np (w := 0) (x := x))
  have c1 := np_2 (x := np 1 (np 0 x))
  obtain ⟨d1, d2⟩ := np_3 (isN_np (w := 2) (x := np 1 (np 0 x)))
  have hle : wsm (rnd x).2 (rnd x).1 ≤ wsm x.2 x.1 := by
    show wsm (np 3 (np 2 (np 1 (np 0 x)))).2 (np 3 (np 2 (np 1 (np 0 x)))).1 ≤ _
    omega
  by_cases c : wsm (rnd x).2 (rnd x).1 = wsm x.2 x.1
  · have c : wsm (np 3 (np 2 (np 1 (np 0 x)))).2 (np 3 (np 2 (np 1 (np 0 x)))).1 = wsm x.2 x.1 := c
    have e0 : np 0 x = x := a2 (by omega)
    have e1 : np 1 (np 0 x) = np 0 x := b2 (by omega)
    have e3 : np 3 (np 2 (np 1 (np 0 x))) = np 2 (np 1 (np 0 x)) := d2 (by omega) (np_2y (okR_np (okR_np hok)))
    rw [e1, e0] at e3
    have er : rnd x = np 2 x := by
      unfold rnd
      rw [e1, e0, e3]
    have h1 : cg 0 x = false := cg_no e0
    have h2 : cg 1 x = false := cg_no (e0 ▸ e1)
    have h3 : cg 3 (np 2 x) = false := cg_no e3
    have h4 : cg 2 x = true := by
      unfold more at h
      rw [e1, e0, h1, h2, h3] at h
      simpa using h
    have hn : ¬ np 2 x = x := fun z => by
      rw [cg_no z] at h4
      cases h4
    have f1 : fx2 x = false := @decide_eq_false _ (Classical.propDecidable _) hn
    have f2 : fx2 (np 2 x) = true := @decide_eq_true _ (Classical.propDecidable _) (fx_2 hok)
    unfold ms
    rw [er, f1, f2, np_2]
    simp
  · unfold ms
    have : (if fx2 (rnd x) = true then 0 else 1) ≤ 1 := by split <;> omega
    omega
theorem ms_le (hok : okR x.1 x.2) : ms x ≤ 301 := by
  have h1 := hok.1
  have h2 := wsm_le (A := x.2) x.1
  unfold ms
  have : (if fx2 x = true then 0 else 1) ≤ 1 := by split <;> omega
  omega
theorem okR_rnd (hok : okR x.1 x.2) : okR (rnd x).1 (rnd x).2 := okR_np (okR_np (okR_np (okR_np hok)))
theorem okR_bst : ∀ f x, okR x.1 x.2 → okR (bst f x).1 (bst f x).2 := by
  intro f
  induction f with
  | zero => intro x h; exact h
  | succ f ih =>
    intro x h
    unfold bst
    split
    · exact ih _ (okR_rnd h)
    · exact okR_rnd h
theorem hasR_nrm (h : hasR M o x.1 x.2) : hasR M o (nrm x).1 (nrm x).2 := hasR_cong h (fun q hq j hj => (nrm_in (x := x) hq hj).symm)
theorem hasM_nrm (h : hasM M r x.1 x.2) : hasM M r (nrm x).1 (nrm x).2 := hasM_cong h (fun q hq j hj => (nrm_in (x := x) hq hj).symm)
theorem bI_b1 {P : Prop} [Decidable P] {b : Bool} (h : P ↔ b = true) : bI P = b1 b := by
  cases b with
  | true => rw [bI_t (h.mpr rfl)]; rfl
  | false => rw [bI_f (fun z => by have := h.mp z; cases this)]; rfl
theorem g_hasActsOf {len2 : Nat} (ho : isRt o) (ho2 : isRt o2) (hR : hasR M o len A) (h2 : hasR M o2 len2 B) (h50 : len ≤ 50) (h502 : len2 ≤ 50) : mj_V d lim mq_Routine_hasActsOf 0 [.ref o, .ref o2, mj_j] [] (hp M) Q ↔ Q (some (.int (b1 (eqB len A len2 B)))) (hp M) := by
  rw [c_Routine_hasActsOf ho ho2 h50 hR.1]
  have e : (rI M o 4 = rI M o2 4 ∧ ∀ p, p < len → sameP M o o2 p) ↔ eqB len A len2 B = true := by
    constructor
    · intro h
      have hl : len = len2 := nI_inj (by omega) (by omega) (by rw [← hR.1, ← h2.1]; exact h.1)
      refine eqB_t ⟨hl, fun p hp0 j hj => ?_⟩
      obtain ⟨a1, a2, a3, a4⟩ := hR.2 p hp0
      obtain ⟨b1, b2, b3, b4⟩ := h2.2 p (hl ▸ hp0)
      obtain ⟨c1, c2, c3, c4⟩ := h.2 p hp0
      have h4 : j = 0 ∨ j = 1 ∨ j = 2 ∨ j = 3 := by omega
      rcases h4 with rfl | rfl | rfl | rfl
      · exact a1.symm.trans (c1.trans b1)
      · exact a2.symm.trans (c2.trans b2)
      · exact a3.symm.trans (c3.trans b3)
      · exact a4.symm.trans (c4.trans b4)
    · intro h
      obtain ⟨hl, h3⟩ := eqB_i h
      refine ⟨by rw [hR.1, h2.1, hl], fun p hp0 => ?_⟩
      obtain ⟨a1, a2, a3, a4⟩ := hR.2 p hp0
      obtain ⟨b1, b2, b3, b4⟩ := h2.2 p (hl ▸ hp0)
      exact ⟨a1.trans ((h3 p hp0 0 (by omega)).trans b1.symm), a2.trans ((h3 p hp0 1 (by omega)).trans b2.symm), a3.trans ((h3 p hp0 2 (by omega)).trans b3.symm), a4.trans ((h3 p hp0 3 (by omega)).trans b4.symm)⟩
  rw [bI_b1 e]
theorem rt217 : isRt 217 := Or.inr (Or.inl rfl)
theorem rt222 : isRt 222 := Or.inr (Or.inr (Or.inl rfl))
abbrev ibP (i _k : Nat) : Prop := 203 ≤ i ∧ i ≤ 226
theorem l_improve_in {o o2 : Nat} {rd : Int32} : ∀ (n w : Nat) (M' : mm) (x : XA) (c : Bool), w + n = 4 → sv ibP M M' → okR x.1 x.2 → hasR M' 217 x.1 x.2 → (∀ M2, sv ibP M M2 → hasR M2 217 (itw n w x).1 (itw n w x).2 → mj_V (d + 5) lim mq_Passes_improve 101 [.ref 212, .ref o, .ref o2, .int (b1 (c || chg n w x)), .int rd, .int (nI 4)] [] (hp M2) Q) → mj_V (d + 5) lim mq_Passes_improve 30 [.ref 212, .ref o, .ref o2, .int (b1 c), .int rd, .int (nI w)] [] (hp M') Q := by
  intro n
  induction n with
  | zero =>
    intro w M' x c hw hv hok hR hend
    obtain rfl : w = 4 := by omega
    have h := hend M' hv hR
    rw [show (c || chg 0 4 x) = c from Bool.or_false c] at h
    rw [zi_Passes_improve_30]
    simp (decide := true) only [zi_Passes_improve_32, zi_Passes_improve_33, ↓reduceIte, mj_op_s, Option.toList_some, Option.toList_none, List.cons_append, List.nil_append, hp_1, hp_2, true_and, and_true, zb_0, zb_1, zb_b, va_rf]
    exact h
  | succ n ih =>
    intro w M' x c hw hv hok hR hend
    have h50 := hok.1
    have hw4 : w < 4 := by omega
    have e1 : ¬ nI 3 < nI w := nI_nlt (by omega) (by omega)
    rw [zi_Passes_improve_30]
    simp (decide := true) (disch := first | assumption | omega) only [zi_Passes_improve_32, zi_Passes_improve_33, zi_Passes_improve_36, zi_Passes_improve_37, zi_Passes_improve_38, zi_Passes_improve_41, zi_Passes_improve_43, ↓reduceIte, mj_op_s, Option.toList_some, Option.toList_none, List.cons_append, List.nil_append, hp_1, hp_2, true_and, and_true, zb_0, zb_1, zb_b, va_rf, io_212, ↓ogf_212_0, ↓ogf_212_1, ↓ogf_212_2, ↓ogf_212_3, ↓ogf_212_4, ↓ogf_212_5, e1]
    refine c_Passes_study rt217 hR hok hw4 (fun M1 hv1 hs1 => ?_)
    have hR1 := sv_hasR hv1 (fun j k hj => by unfold sdP; omega) hR
    simp (decide := true) (disch := first | assumption | omega) only [zi_Passes_improve_46, zi_Passes_improve_47, zi_Passes_improve_48, zi_Passes_improve_51, zi_Passes_improve_52, zi_Passes_improve_55, zi_Passes_improve_57, ↓reduceIte, mj_op_s, Option.toList_some, Option.toList_none, List.cons_append, List.nil_append, hp_1, hp_2, true_and, and_true, zb_0, zb_1, zb_b, va_rf, io_212, ↓ogf_212_0, ↓ogf_212_1, ↓ogf_212_2, ↓ogf_212_3, ↓ogf_212_4, ↓ogf_212_5]
    refine c_Passes_make rt217 rt222 (by omega) hR1 hok hw4 hs1 (fun M2 hv2 hR2 => ?_)
    have hR2 : hasR M2 222 (np w x).1 (np w x).2 := hasR_nrm hR2
    have hR3 := sv_hasR hv2 (rt_rt (by omega)) hR1
    have hokn : okR (np w x).1 (np w x).2 := okR_np hok
    have hv3 : sv ibP M M2 := sv_trans hv (sv_trans (sv_mono hv1 (fun i k h => by unfold sdP at h; unfold ibP; omega)) (sv_mono hv2 (fun i k h => by unfold rtP at h; unfold ibP; omega)))
    obtain ⟨hc1, hc2⟩ := hasR_cp (o := 217) (by omega) hR2
    have hv4 : sv ibP M (cpR M2 217 222 (np w x).1) := sv_trans hv3 (sv_mono hc2 (fun i k h => by unfold rtP at h; unfold ibP; omega))
    have hgo : ∀ c2, c2 = (c || cg w x) → mj_V (d + 5) lim mq_Passes_improve 84 [.ref 212, .ref o, .ref o2, .int (b1 c2), .int rd, .int (nI w)] [] (hp M2) Q := by
      intro c2 hc
      simp (decide := true) (disch := first | assumption | omega) only [zi_Passes_improve_84, zi_Passes_improve_85, zi_Passes_improve_88, zi_Passes_improve_89, zi_Passes_improve_92, zi_Passes_improve_95, zi_Passes_improve_98, ↓reduceIte, mj_op_s, Option.toList_some, Option.toList_none, List.cons_append, List.nil_append, hp_1, hp_2, true_and, and_true, zb_0, zb_1, zb_b, va_rf, io_212, ↓ogf_212_0, ↓ogf_212_1, ↓ogf_212_2, ↓ogf_212_3, ↓ogf_212_4, ↓ogf_212_5, io_rt rt217, io_rt rt222, c_Routine_copyFrom rt217 rt222 (by omega) hokn.1 hR2.1, nI_add]
      refine ih (w + 1) _ (np w x) c2 (by omega) hv4 hokn hc1 (fun M5 hv5 hR5 => ?_)
      have h := hend M5 hv5 hR5
      have e : (c || chg (n + 1) w x) = (c2 || chg n (w + 1) (np w x)) := by
        rw [hc]
        show (c || (cg w x || chg n (w + 1) (np w x))) = _
        rw [Bool.or_assoc]
      rw [e] at h
      exact h
    cases c with
    | true =>
      simp (decide := true) (disch := first | assumption | omega) only [zi_Passes_improve_60, zi_Passes_improve_61, zi_Passes_improve_78, zi_Passes_improve_79, zi_Passes_improve_82, zi_Passes_improve_83, ↓reduceIte, mj_op_s, Option.toList_some, Option.toList_none, List.cons_append, List.nil_append, hp_1, hp_2, true_and, and_true, zb_0, zb_1, zb_b, va_rf, io_212, ↓ogf_212_0, ↓ogf_212_1, ↓ogf_212_2, ↓ogf_212_3, ↓ogf_212_4, ↓ogf_212_5, b1_t]
      exact hgo true rfl
    | false =>
      cases he : eqB (np w x).1 (np w x).2 x.1 x.2 with
      | true =>
        have hcg : cg w x = false := by unfold cg; rw [he]; rfl
        simp (decide := true) (disch := first | assumption | omega) only [zi_Passes_improve_60, zi_Passes_improve_61, zi_Passes_improve_64, zi_Passes_improve_65, zi_Passes_improve_68, zi_Passes_improve_69, zi_Passes_improve_72, zi_Passes_improve_75, zi_Passes_improve_78, zi_Passes_improve_79, zi_Passes_improve_82, zi_Passes_improve_83, ↓reduceIte, mj_op_s, Option.toList_some, Option.toList_none, List.cons_append, List.nil_append, hp_1, hp_2, true_and, and_true, zb_0, zb_1, zb_b, va_rf, io_212, ↓ogf_212_0, ↓ogf_212_1, ↓ogf_212_2, ↓ogf_212_3, ↓ogf_212_4, ↓ogf_212_5, io_rt rt217, io_rt rt222, b1_f, g_hasActsOf rt222 rt217 hR2 hR3 hokn.1 h50, he, b1_t]
        exact hgo false (by rw [hcg]; rfl)
      | false =>
        have hcg : cg w x = true := by unfold cg; rw [he]; rfl
        simp (decide := true) (disch := first | assumption | omega) only [zi_Passes_improve_60, zi_Passes_improve_61, zi_Passes_improve_64, zi_Passes_improve_65, zi_Passes_improve_68, zi_Passes_improve_69, zi_Passes_improve_72, zi_Passes_improve_75, zi_Passes_improve_78, zi_Passes_improve_79, zi_Passes_improve_82, zi_Passes_improve_83, ↓reduceIte, mj_op_s, Option.toList_some, Option.toList_none, List.cons_append, List.nil_append, hp_1, hp_2, true_and, and_true, zb_0, zb_1, zb_b, va_rf, io_212, ↓ogf_212_0, ↓ogf_212_1, ↓ogf_212_2, ↓ogf_212_3, ↓ogf_212_4, ↓ogf_212_5, io_rt rt217, io_rt rt222, b1_f, g_hasActsOf rt222 rt217 hR2 hR3 hokn.1 h50, he]
        exact hgo true (by rw [hcg]; rfl)
theorem l_improve {o o2 : Nat} : ∀ (f n : Nat) (M' : mm) (x : XA) (x5 : Value), n + f ≤ 9000 → ms x < f → sv ibP M M' → okR x.1 x.2 → isN x → hasR M' 217 x.1 x.2 → (∀ M2 c3 y4 y5, sv ibP M M2 → hasR M2 217 (bst f x).1 (bst f x).2 → mj_V (d + 5) lim mq_Passes_improve 107 [.ref 212, .ref o, .ref o2, .int c3, .int y4, y5] [] (hp M2) Q) → mj_V (d + 5) lim mq_Passes_improve 13 [.ref 212, .ref o, .ref o2, .int (nI 1), .int (nI n), x5] [] (hp M') Q := by
  intro f
  induction f with
  | zero => intro n M' x x5 _ h; omega
  | succ f ih =>
    intro n M' x x5 hn hm hv hok hx hR hend
    have e1 : nI n < nI 10000 := nI_lt (by omega) (by omega)
    rw [zi_Passes_improve_13]
    simp (decide := true) (disch := first | assumption | omega) only [zi_Passes_improve_15, zi_Passes_improve_18, zi_Passes_improve_21, zi_Passes_improve_22, zi_Passes_improve_25, zi_Passes_improve_26, zi_Passes_improve_27, zi_Passes_improve_28, ↓reduceIte, mj_op_s, Option.toList_some, Option.toList_none, List.cons_append, List.nil_append, hp_1, hp_2, true_and, and_true, zb_0, zb_1, zb_b, va_rf, e1]
    refine l_improve_in (M := M) (c := false) 4 0 M' x (by omega) hv hok hR (fun M2 hv2 hR2 => ?_)
    rw [rnd_i] at hR2
    rw [more_i, Bool.false_or]
    simp only [zi_Passes_improve_101, zi_Passes_improve_104, ↓reduceIte, mj_op_s, Option.toList_some, Option.toList_none, List.cons_append, List.nil_append, hp_1, hp_2, true_and, and_true, zb_0, zb_1, zb_b, va_rf, nI_add]
    have e2 : nI (n + 1) < nI 10000 := nI_lt (by omega) (by omega)
    cases hmo : more x with
    | true =>
      have hb : bst (f + 1) x = bst f (rnd x) := if_pos hmo
      rw [hb] at hend
      have := ms_lt hok hx hmo
      exact ih (n + 1) M2 (rnd x) _ (by omega) (by omega) hv2 (okR_rnd hok) isN_np hR2 hend
    | false =>
      have hb : bst (f + 1) x = rnd x := if_neg (by rw [hmo]; simp)
      rw [hb] at hend
      rw [zi_Passes_improve_13]
      simp (decide := true) (disch := first | assumption | omega) only [zi_Passes_improve_15, zi_Passes_improve_18, zi_Passes_improve_21, zi_Passes_improve_22, ↓reduceIte, mj_op_s, Option.toList_some, Option.toList_none, List.cons_append, List.nil_append, hp_1, hp_2, true_and, and_true, zb_0, zb_1, zb_b, va_rf, e2, b1_f]
      exact hend M2 _ _ _ hv2 hR2
theorem c_Passes_improve (ho : isRt o) (ho2 : isRt o2) (ho3 : o < 203) (ho4 : o2 < 203) (hR : hasR M o len A) (hok : okR len A) (hend : ∀ M', sv (imP o2) M M' → hasR M' o2 (bst 400 (nrm (len, A))).1 (bst 400 (nrm (len, A))).2 → Q none (hp M')) : mj_V (d + 5) lim mq_Passes_improve 0 [.ref 212, .ref o, .ref o2, mj_j, mj_j, mj_j] [] (hp M) Q := by
  have h50 := hok.1
  have hne : o + 4 < 217 := by rcases ho with h | h | h | h | h <;> omega
  have hne2 : o2 + 4 < 217 := by rcases ho2 with h | h | h | h | h <;> omega
  obtain ⟨h1, h2⟩ := hasR_cp (o := 217) (o2 := o) (by omega) hR
  simp (decide := true) (disch := first | assumption | omega) only [zi_Passes_improve_0, zi_Passes_improve_1, zi_Passes_improve_4, zi_Passes_improve_5, zi_Passes_improve_8, zi_Passes_improve_9, zi_Passes_improve_10, zi_Passes_improve_11, ↓reduceIte, mj_op_s, Option.toList_some, Option.toList_none, List.cons_append, List.nil_append, hp_1, hp_2, true_and, and_true, zb_0, zb_1, zb_b, va_rf, io_212, ↓ogf_212_0, ↓ogf_212_1, ↓ogf_212_2, ↓ogf_212_3, ↓ogf_212_4, ↓ogf_212_5, io_rt rt217, c_Routine_copyFrom rt217 ho (by omega) h50 hR.1]
  have hx : isN (nrm (len, A)) := nrm_nrm
  have hokn : okR (nrm (len, A)).1 (nrm (len, A)).2 := okR_nrm (x := (len, A)) hok
  have hms := ms_le hokn
  refine l_improve (M := M) 400 0 _ (nrm (len, A)) _ (by omega) (by omega) (sv_mono h2 (fun i k h => by unfold rtP at h; unfold ibP; omega)) hokn hx (hasR_nrm (x := (len, A)) h1) (fun M2 c3 y4 y5 hv2 hR2 => ?_)
  have hokb := okR_bst 400 _ hokn
  obtain ⟨k1, k2⟩ := hasR_cp (o := o2) (o2 := 217) (by omega) hR2
  simp (decide := true) (disch := first | assumption | omega) only [zi_Passes_improve_107, zi_Passes_improve_108, zi_Passes_improve_109, zi_Passes_improve_112, zi_Passes_improve_115, ↓reduceIte, mj_op_s, Option.toList_some, Option.toList_none, List.cons_append, List.nil_append, hp_1, hp_2, true_and, and_true, zb_0, zb_1, zb_b, va_rf, io_212, ↓ogf_212_0, ↓ogf_212_1, ↓ogf_212_2, ↓ogf_212_3, ↓ogf_212_4, ↓ogf_212_5, io_rt rt217, io_rt ho2, c_Routine_copyFrom ho2 rt217 (by omega) hokb.1 hR2.1]
  exact hend _ (sv_trans (sv_mono hv2 (fun i k h => Or.inl h)) (sv_mono k2 (fun i k h => Or.inr h))) k1
end C89
