/-! best: pure; how often a round can change something -/
abbrev XA : Type := Nat × AA
def nrm (x : XA) : XA := (x.1, fun p j => if p < x.1 ∧ j < 4 then x.2 p j else nI 0)
noncomputable def np (w : Nat) (x : XA) : XA := nrm (psA w x.1 x.2)
noncomputable def rnd (x : XA) : XA := np 3 (np 2 (np 1 (np 0 x)))
noncomputable def cg (w : Nat) (x : XA) : Bool := !eqB (np w x).1 (np w x).2 x.1 x.2
noncomputable def more (x : XA) : Bool := cg 0 x || cg 1 (np 0 x) || cg 2 (np 1 (np 0 x)) || cg 3 (np 2 (np 1 (np 0 x)))
noncomputable def bst : Nat → XA → XA
  | 0, x => x
  | f + 1, x => if more x = true then bst f (rnd x) else rnd x
def isN (x : XA) : Prop := nrm x = x
def wt (a : Int32) : Nat := if a = nI 13 then 2 else if a = nI 1 then 2 else if (a = nI 2 ∨ (¬ a < nI 3 ∧ ¬ nI 9 < a)) then 3 else 1
def wsm (A : AA) : Nat → Nat
  | 0 => 0
  | p + 1 => wsm A p + wt (A p 0)
noncomputable def fx2 (x : XA) : Bool := @decide (np 2 x = x) (Classical.propDecidable _)
noncomputable def ms (x : XA) : Nat := 2 * wsm x.2 x.1 + if fx2 x = true then 0 else 1
section C88
variable {len p q j r n w : Nat} {A B : AA} {C : Nat → Bool} {F : KF} {S : Nat → Nat → Bool} {x y : XA}
theorem nrm_nrm : nrm (nrm x) = nrm x := by
  unfold nrm
  refine Prod.ext rfl (funext fun p => funext fun j => ?_)
  show (if p < x.1 ∧ j < 4 then (if p < x.1 ∧ j < 4 then x.2 p j else nI 0) else nI 0) = (if p < x.1 ∧ j < 4 then x.2 p j else nI 0)
  by_cases h : p < x.1 ∧ j < 4
  · rw [if_pos h, if_pos h]
  · rw [if_neg h, if_neg h]
theorem isN_np : isN (np w x) := nrm_nrm
theorem nrm_in (h : p < x.1) (hj : j < 4) : (nrm x).2 p j = x.2 p j := if_pos ⟨h, hj⟩
theorem nrm_eq (hx : isN x) (hy : isN y) (h : eqA x.1 x.2 y.1 y.2) : x = y := by
  rw [← hx, ← hy]
  unfold nrm
  refine Prod.ext h.1 (funext fun p => funext fun j => ?_)
  show (if p < x.1 ∧ j < 4 then x.2 p j else nI 0) = if p < y.1 ∧ j < 4 then y.2 p j else nI 0
  rw [← h.1]
  by_cases c : p < x.1 ∧ j < 4
  · rw [if_pos c, if_pos c]; exact h.2 p c.1 j c.2
  · rw [if_neg c, if_neg c]
theorem okR_nrm (h : okR x.1 x.2) : okR (nrm x).1 (nrm x).2 := by
  refine ⟨h.1, fun p hp0 => ?_⟩
  have hp0 : p < x.1 := hp0
  rw [nrm_in hp0 (by omega), nrm_in hp0 (by omega), nrm_in hp0 (by omega), nrm_in hp0 (by omega)]
  exact h.2 p hp0
theorem okR_np (h : okR x.1 x.2) : okR (np w x).1 (np w x).2 := okR_nrm (okR_ps h)
theorem wt_le {j32 : Int32} : 1 ≤ wt j32 ∧ wt j32 ≤ 3 := by
  unfold wt
  split
  · exact ⟨by omega, by omega⟩
  · split
    · exact ⟨by omega, by omega⟩
    · split <;> exact ⟨by omega, by omega⟩
theorem wsm_le : ∀ n, wsm A n ≤ 3 * n := by
  intro n
  induction n with
  | zero => exact Nat.le_refl 0
  | succ n ih =>
    have := (wt_le (j32 := A n 0)).2
    show wsm A n + wt (A n 0) ≤ 3 * (n + 1)
    omega
theorem wsm_mono : ∀ n, (∀ p, p < n → wt (B p 0) ≤ wt (A p 0)) → wsm B n ≤ wsm A n ∧ (wsm B n = wsm A n → ∀ p, p < n → wt (B p 0) = wt (A p 0)) := by
  intro n
  induction n with
  | zero => intro _; exact ⟨Nat.le_refl 0, fun _ p hp0 => by omega⟩
  | succ n ih =>
    intro h
    obtain ⟨i1, i2⟩ := ih (fun p hp0 => h p (by omega))
    have h2 := h n (by omega)
    show wsm B n + wt (B n 0) ≤ wsm A n + wt (A n 0) ∧ (wsm B n + wt (B n 0) = wsm A n + wt (A n 0) → _)
    refine ⟨by omega, fun e p hp0 => ?_⟩
    by_cases c : p = n
    · subst c; omega
    · exact i2 (by omega) p (by omega)
theorem wsm_cong : ∀ n, (∀ p, p < n → B p 0 = A p 0) → wsm B n = wsm A n := by
  intro n
  induction n with
  | zero => intro _; rfl
  | succ n ih =>
    intro h
    show wsm B n + wt (B n 0) = wsm A n + wt (A n 0)
    rw [ih (fun p hp0 => h p (by omega)), h n (by omega)]
theorem wsm_nrm : wsm (nrm x).2 (nrm x).1 = wsm x.2 x.1 := wsm_cong x.1 (fun _ hp0 => nrm_in hp0 (by omega))
theorem wt_13 : wt (nI 13) = 2 := if_pos rfl
theorem wt_0 : wt (nI 0) = 1 := by decide
theorem wt_12 : wt (nI 12) = 1 := by decide
theorem wt_1 : wt (nI 1) = 2 := by decide
theorem wt_m {a : Int32} (h : a = nI 2 ∨ (¬ a < nI 3 ∧ ¬ nI 9 < a)) : wt a = 3 := by
  unfold wt
  rw [if_neg (fun e => by rw [e] at h; exact absurd h (by decide)), if_neg (fun e => by rw [e] at h; exact absurd h (by decide)), if_pos h]
theorem wt_dr {a : Int32} (h : drK a) : 2 ≤ wt a := by
  by_cases c : a = nI 2 ∨ (¬ a < nI 3 ∧ ¬ nI 9 < a)
  · rw [wt_m c]; omega
  · have e : a = nI 1 := by
      rcases h with h | h | h
      · have h1 := h.1
        have h2 := h.2
        refine Classical.byContradiction fun z => c (cM_iff.mpr ⟨fun z2 => z ?_, fun z2 => h2 ?_⟩)
        · rw [← Int32.toInt_inj]
          simp only [Int32.lt_iff_toInt_lt, show (nI 1).toInt = 1 from by decide, show (nI 2).toInt = 2 from by decide] at z2 h1 ⊢
          omega
        · simp only [Int32.lt_iff_toInt_lt, show (nI 5).toInt = 5 from by decide, show (nI 9).toInt = 9 from by decide] at z2 ⊢
          omega
      · rw [h] at c; exact absurd (Or.inr (by decide)) c
      · rw [h] at c; exact absurd (Or.inr (by decide)) c
    rw [e, wt_1]
    omega
/-- fold and drop: as before, or lighter -/
theorem fd_wt : wt (fdA A C F p 0) ≤ wt (A p 0) ∧ (wt (fdA A C F p 0) = wt (A p 0) → ∀ j, fdA A C F p j = A p j) := by
  rcases fdA_cases (A := A) (C := C) (F := F) (p := p) with e | ⟨c, e⟩ | ⟨c, e⟩ | ⟨c, v, e⟩
  · rw [e 0]; exact ⟨Nat.le_refl _, fun _ => e⟩
  · rw [e 0, c, wt_13]
    have : acA (nI 0) (nI 0) (nI 0) (nI 0) 0 = nI 0 := rfl
    rw [this, wt_0]
    exact ⟨by omega, fun z => by omega⟩
  · rw [e 0, c, wt_13]
    have : acA (nI 12) (nI 0) (A p 2) (nI 0) 0 = nI 12 := rfl
    rw [this, wt_12]
    exact ⟨by omega, fun z => by omega⟩
  · rw [e 0, wt_m c]
    have : acA (nI 1) (A p 1) v (nI 0) 0 = nI 1 := rfl
    rw [this, wt_1]
    exact ⟨by omega, fun z => by omega⟩
theorem dr_wt : wt (drA A S p 0) ≤ wt (A p 0) ∧ (wt (drA A S p 0) = wt (A p 0) → ∀ j, drA A S p j = A p j) := by
  unfold drA
  by_cases c : drK (A p 0) ∧ S (p + 1) (cz (A p 1)) = false
  · have h2 := wt_dr c.1
    simp only [if_pos c]
    rw [wt_0]
    exact ⟨by omega, fun z => by omega⟩
  · rw [if_neg c]
    exact ⟨Nat.le_refl _, fun _ _ => if_neg c⟩
theorem np_pt (hx : isN x) (h1 : (psA w x.1 x.2).1 = x.1) (h2 : ∀ p, wt ((psA w x.1 x.2).2 p 0) ≤ wt (x.2 p 0) ∧ (wt ((psA w x.1 x.2).2 p 0) = wt (x.2 p 0) → ∀ j, (psA w x.1 x.2).2 p j = x.2 p j)) : wsm (np w x).2 (np w x).1 ≤ wsm x.2 x.1 ∧ (wsm (np w x).2 (np w x).1 = wsm x.2 x.1 → np w x = x) := by
  unfold np
  rw [wsm_nrm, h1]
  obtain ⟨a, b⟩ := wsm_mono x.1 (fun p _ => (h2 p).1)
  refine ⟨a, fun e => nrm_eq nrm_nrm hx ⟨h1, fun p hp0 j hj => ?_⟩⟩
  have hp1 : p < x.1 := h1 ▸ hp0
  have e4 : (nrm (psA w x.1 x.2)).2 p j = (psA w x.1 x.2).2 p j := nrm_in (x := psA w x.1 x.2) hp0 hj
  exact e4.trans ((h2 p).2 (b e p hp1) j)
theorem np_0 (hx : isN x) : wsm (np 0 x).2 (np 0 x).1 ≤ wsm x.2 x.1 ∧ (wsm (np 0 x).2 (np 0 x).1 = wsm x.2 x.1 → np 0 x = x) := np_pt hx rfl (fun _ => fd_wt)
theorem np_1 (hx : isN x) : wsm (np 1 x).2 (np 1 x).1 ≤ wsm x.2 x.1 ∧ (wsm (np 1 x).2 (np 1 x).1 = wsm x.2 x.1 → np 1 x = x) := np_pt hx rfl (fun _ => dr_wt)
theorem th_0 : thA len A p 0 = A p 0 := if_neg (by omega)
theorem th_1 : thA len A p 1 = A p 1 := if_neg (by omega)
theorem np_2 : wsm (np 2 x).2 (np 2 x).1 = wsm x.2 x.1 := by
  unfold np
  rw [wsm_nrm]
  exact wsm_cong x.1 (fun p _ => th_0)
theorem pk_w : ∀ p, wsm (pkA len A p) (pkN A p) + psN A p = wsm A p := by
  intro p
  induction p with
  | zero => rfl
  | succ p ih =>
    show _ = wsm A p + wt (A p 0)
    rw [pk_s, ps_s]
    by_cases c : A p 0 = nI 0
    · have e : pkA len A (p + 1) = pkA len A p := if_pos c
      rw [if_pos c, if_pos c, e, c, wt_0, Nat.add_zero]
      omega
    · have e : pkA len A (p + 1) = upA (pkA len A p) (pkN A p) (A p 0) (A p 1) (if jyP A p = true then nI (pkN A (tgP len A p)) else A p 2) (A p 3) := if_neg c
      rw [if_neg c, if_neg c, e]
      show wsm _ (pkN A p) + wt (upA _ (pkN A p) _ _ _ _ (pkN A p) 0) + (psN A p + 0) = _
      have e2 : upA (pkA len A p) (pkN A p) (A p 0) (A p 1) (if jyP A p = true then nI (pkN A (tgP len A p)) else A p 2) (A p 3) (pkN A p) 0 = A p 0 := by
        unfold upA
        rw [if_pos rfl]; rfl
      rw [e2]
      have e3 : wsm (upA (pkA len A p) (pkN A p) (A p 0) (A p 1) (if jyP A p = true then nI (pkN A (tgP len A p)) else A p 2) (A p 3)) (pkN A p) = wsm (pkA len A p) (pkN A p) := wsm_cong _ (fun q hq => by
        unfold upA
        rw [if_neg (by omega)])
      rw [e3]
      omega
theorem ct_up {f : Nat → Bool} : ∀ {m n : Nat}, m ≤ n → ct f m ≤ ct f n := by
  intro m n h
  induction n with
  | zero => obtain rfl : m = 0 := by omega
            exact Nat.le_refl _
  | succ n ih =>
    by_cases c : m = n + 1
    · rw [c]; exact Nat.le_refl _
    · have := ih (by omega)
      show ct f m ≤ ct f n + _
      omega
theorem pk_no (h : psN A len = 0) : ∀ p, p ≤ len → pkN A p = p := by
  intro p hp0
  have h1 := ps_pk (A := A) p
  have h2 : psN A p ≤ psN A len := ct_up hp0
  omega
theorem pk_row (h : psN A len = 0) (hy : ∀ p, p < len → jyP A p = true → nI (tgP len A p) = A p 2) : ∀ p, p ≤ len → ∀ q, q < p → ∀ j, j < 4 → pkA len A p q j = A q j := by
  intro p
  induction p with
  | zero => intro _ q hq; omega
  | succ p ih =>
    intro hp0 q hq j hj
    have c : ¬ A p 0 = nI 0 := by
      intro c
      have h2 : psN A (p + 1) ≤ psN A len := ct_up hp0
      rw [ps_s, if_pos c] at h2
      omega
    have e : pkA len A (p + 1) = upA (pkA len A p) (pkN A p) (A p 0) (A p 1) (if jyP A p = true then nI (pkN A (tgP len A p)) else A p 2) (A p 3) := if_neg c
    rw [e, pk_no h p (by omega), pk_no h _ tgP_le]
    unfold upA
    by_cases e2 : q = p
    · subst e2
      rw [if_pos rfl]
      have e3 : (if jyP A q = true then nI (tgP len A q) else A q 2) = A q 2 := by
        by_cases c2 : jyP A q = true
        · rw [if_pos c2]; exact hy q (by omega) c2
        · rw [if_neg c2]
      rw [e3]
      rcases acA_self (A := A) (p := q) (j := j) with h | h
      · exact h
      · omega
    · rw [if_neg e2]
      exact ih (by omega) q (by omega) j hj
theorem np_3 (hx : isN x) : wsm (np 3 x).2 (np 3 x).1 ≤ wsm x.2 x.1 ∧ (wsm (np 3 x).2 (np 3 x).1 = wsm x.2 x.1 → (∀ p, p < x.1 → jyP x.2 p = true → nI (tgP x.1 x.2 p) = x.2 p 2) → np 3 x = x) := by
  have e : wsm (np 3 x).2 (np 3 x).1 + psN x.2 x.1 = wsm x.2 x.1 := by
    unfold np
    rw [wsm_nrm]
    exact pk_w x.1
  refine ⟨by omega, fun e2 hy => ?_⟩
  have h0 : psN x.2 x.1 = 0 := by omega
  refine nrm_eq nrm_nrm hx ⟨pk_no h0 x.1 (Nat.le_refl _), fun p hp0 j hj => ?_⟩
  have e3 : p < pkN x.2 x.1 := hp0
  rw [pk_no h0 x.1 (Nat.le_refl _)] at e3
  have e4 : (nrm (pkN x.2 x.1, pkA x.1 x.2 x.1)).2 p j = pkA x.1 x.2 x.1 p j := nrm_in (x := (pkN x.2 x.1, pkA x.1 x.2 x.1)) hp0 hj
  exact e4.trans (pk_row h0 hy x.1 (Nat.le_refl _) p e3 j hj)
/-! thread twice -/
theorem qn_inf (h : ∀ i, i ≤ len → ldO len A (qn len A p i)) : ∀ i, ldO len A (qn len A p i) := by
  obtain ⟨a, b, hab, hb, e⟩ := fb_twice (m := len) (n := len + 1) (f := fun i => qn len A p i) (fun i hi => (h i (by omega)).1) (by omega)
  intro i
  induction i using Nat.strongRecOn with
  | ind i ih =>
    by_cases c : i ≤ len
    · exact h i c
    · have e2 := qn_eq e (i - b)
      rw [show b + (i - b) = i by omega] at e2
      rw [← e2]
      exact ih _ (by omega)
theorem ldR_cs : (∃ m, m ≤ len ∧ ¬ ldO len A (qn len A p m) ∧ (ldR len A p).1 = qn len A p m) ∨ ((∀ i, ldO len A (qn len A p i)) ∧ (ldR len A p).1 = p) := by
  unfold ldR
  rcases first_no (B := fun i => ldO len A (qn len A p i)) len with h | ⟨m, h1, h2, h3⟩
  · refine Or.inr ⟨qn_inf h, ?_⟩
    rw [ldS_none len p 0 h]; rfl
  · refine Or.inl ⟨m, h1, h3, ?_⟩
    rw [ldS_some m len p 0 h1 h2 h3]; rfl
theorem ldR_stop (h : ¬ ldO len A p) : (ldR len A p).1 = p := by
  rcases ldR_cs (len := len) (A := A) (p := p) with ⟨m, h1, h2, h3⟩ | ⟨h1, h2⟩
  · unfold ldR
    rw [ldS_some 0 len p 0 (Nat.zero_le _) (fun i hi => by omega) h]; rfl
  · exact h2
theorem th_O : ldO len (thA len A) p ↔ ldO len A p := by
  unfold ldO
  rw [th_0]
theorem th_tg (hok : okR len A) (hj : jyP A p = true) : tgP len (thA len A) p = (ldR len A (tgP len A p)).1 := by
  have h50 := hok.1
  have hb := (ldR_b (len := len) (A := A) (p := tgP len A p) tgP_le).1
  have e : thA len A p 2 = nI (ldR len A (tgP len A p)).1 := if_pos ⟨hj, rfl⟩
  have e1 : tgP len (thA len A) p = if cz (thA len A p 2) < len then cz (thA len A p 2) else len := rfl
  rw [e1, e, cz_n (by omega)]
  by_cases c : (ldR len A (tgP len A p)).1 < len
  · rw [if_pos c]
  · rw [if_neg c]; omega
theorem th_qn (hok : okR len A) (h : ∀ i, ldO len A (qn len A p i)) : ∀ i, qn len (thA len A) p i = qn len A p i := by
  intro i
  induction i with
  | zero => rfl
  | succ i ih =>
    show ldN len (thA len A) (qn len (thA len A) p i) = ldN len A (qn len A p i)
    rw [ih]
    unfold ldN
    rw [th_0]
    by_cases c : A (qn len A p i) 0 = nI 12
    · rw [if_pos c, if_pos c]
      have hj : jyP A (qn len A p i) = true := by unfold jyP; exact decide_eq_true (Or.inl c)
      rw [th_tg hok hj]
      have e : qn len A p (i + 1) = tgP len A (qn len A p i) := by
        show ldN len A (qn len A p i) = _
        unfold ldN
        rw [if_pos c]
      have hs : ∀ k, qn len A (qn len A p (i + 1)) k = qn len A p (i + 1 + k) := by
        intro k
        induction k with
        | zero => rfl
        | succ k ih =>
          show ldN len A (qn len A (qn len A p (i + 1)) k) = ldN len A (qn len A p (i + 1 + k))
          rw [ih]
      rw [← e]
      rcases ldR_cs (len := len) (A := A) (p := qn len A p (i + 1)) with ⟨m, h1, h2, h3⟩ | ⟨h1, h2⟩
      · rw [hs] at h2
        exact absurd (h _) h2
      · exact h2
    · rw [if_neg c, if_neg c]
theorem th_twice (hok : okR len A) (hp0 : p < len) : thA len (thA len A) p j = thA len A p j := by
  have e0 : jyP (thA len A) p = jyP A p := by unfold jyP; rw [th_0]
  unfold thA
  by_cases c : jyP A p = true ∧ j = 2
  · have c2 : jyP (fun p j => if jyP A p = true ∧ j = 2 then nI (ldR len A (tgP len A p)).1 else A p j) p = true ∧ j = 2 := ⟨e0.trans c.1, c.2⟩
    rw [if_pos c2, if_pos c]
    show nI (ldR len (thA len A) (tgP len (thA len A) p)).1 = _
    rw [th_tg hok c.1]
    rcases ldR_cs (len := len) (A := A) (p := tgP len A p) with ⟨m, h1, h2, h3⟩ | ⟨h1, h2⟩
    · rw [h3, ldR_stop (fun z => h2 (th_O.mp z))]
    · rw [h2]
      rcases ldR_cs (len := len) (A := thA len A) (p := tgP len A p) with ⟨m, k1, k2, k3⟩ | ⟨k1, k2⟩
      · rw [th_qn hok h1] at k2
        exact absurd (th_O.mpr (h1 m)) k2
      · rw [k2]
  · have c2 : ¬ (jyP (fun p j => if jyP A p = true ∧ j = 2 then nI (ldR len A (tgP len A p)).1 else A p j) p = true ∧ j = 2) := fun z => c ⟨e0.symm.trans z.1, z.2⟩
    rw [if_neg c2]
end C88
