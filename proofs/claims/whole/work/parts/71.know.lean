/-! known: a place is gone on from -/
/-- from one state to a later one -/
def arR (s s1 : KS) : Prop := (∀ q, s.1 q = true → s1.1 q = true) ∧ (∀ q r, r < 8 → s.1 q = true → ∀ v, s1.2.1 q r = some v → s.2.1 q r = some v) ∧ (∀ q, (s1.1 q = s.1 q ∧ s1.2.1 q = s.2.1 q ∧ s1.2.2.1 q = s.2.2.1 q) ∨ (s1.2.2.1 q = true ∧ s1.1 q = true ∧ s1.2.2.2 = true)) ∧ (s1 = s ∨ rk s.1 s.2.1 < rk s1.1 s1.2.1 ∧ s1.2.2.2 = true) ∧ (s.2.2.2 = true → s1.2.2.2 = true)
section C71
variable {len p t : Nat} {A : Nat → Nat → Int32} {C C' : Nat → Bool} {F F' : KF} {f f' b : Nat → Option Int64} {s s1 s2 : KS}
theorem arR_refl : arR s s := ⟨fun _ h => h, fun _ _ _ _ _ h => h, fun _ => Or.inl ⟨rfl, rfl, rfl⟩, Or.inl rfl, id⟩
theorem arR_trans (h : arR s s1) (h' : arR s1 s2) : arR s s2 := by
  obtain ⟨a1, a2, a3, a4, a5⟩ := h
  obtain ⟨b1, b2, b3, b4, b5⟩ := h'
  refine ⟨fun q h => b1 q (a1 q h), fun q r hr hc v h => a2 q r hr hc v (b2 q r hr (a1 q hc) v h), fun q => ?_, ?_, fun h => b5 (a5 h)⟩
  · rcases b3 q with ⟨e1, e2, e3⟩ | h
    · rcases a3 q with ⟨c1, c2, c3⟩ | ⟨c1, c2, c3⟩
      · exact Or.inl ⟨e1.trans c1, e2.trans c2, e3.trans c3⟩
      · exact Or.inr ⟨e3.trans c1, e1.trans c2, b5 c3⟩
    · exact Or.inr h
  · rcases b4 with rfl | ⟨e1, e2⟩
    · exact a4
    · rcases a4 with rfl | ⟨c1, c2⟩
      · exact Or.inr ⟨e1, e2⟩
      · exact Or.inr ⟨by omega, e2⟩
theorem arR_arr (ht : t < 51) : arR s (arr s t b) := by
  cases hc : arc s t b with
  | false => rw [arr_id hc]; exact arR_refl
  | true =>
    have hr := (arr_rk (s := s) (b := b) ht).2 hc
    have e4 : (arr s t b).2.2.2 = true := by
      show (s.2.2.2 || arc s t b) = true
      rw [hc, Bool.or_true]
    have e3 : (arr s t b).2.2.1 = ub s.2.2.1 t true := by
      show (if arc s t b = true then ub s.2.2.1 t true else s.2.2.1) = _
      rw [if_pos hc]
    refine ⟨fun q h => ub_t h, fun q r hr hc v h => arF_k hr hc h, fun q => ?_, Or.inr ⟨hr, e4⟩, fun _ => e4⟩
    by_cases e : q = t
    · subst e
      exact Or.inr ⟨by rw [e3]; exact ub_s, ub_s, e4⟩
    · exact Or.inl ⟨ub_o e, funext fun r => arF_o e, by rw [e3]; exact ub_o e⟩
theorem kdn_R (h : arR s s1) (he : s1.2.1 p = s.2.1 p) (hd : kdn len A s.1 s.2.1 p) : kdn len A s1.1 s1.2.1 p := by
  intro h1 q hq
  rw [he] at h1 hq ⊢
  obtain ⟨j1, j2⟩ := hd h1 q hq
  exact ⟨h.1 q j1, fun r hr v h2 => j2 r hr v (h.2.1 q r hr j1 v h2)⟩
/-- every solution goes the ways that this state goes -/
theorem k_just (hok : okA (A p 0) (A p 1) (A p 2) (A p 3)) (hI : knI len A C F) (hp0 : p < len) (hC : C p = true) (hs : kst A p (F p) = false) (ht : t ∈ ktl len A p (F p)) : ∀ C' F', kcl len A C' F' → C' t = true ∧ ∀ r, r < 8 → ∀ v, F' t r = some v → kbh A p (F p) r = some v := by
  intro C' F' hc
  obtain ⟨j1, j2⟩ := hI.2.2.1 C' F' hc p (by omega) hC
  have k1 := kst_mono hok j2 hs
  obtain ⟨m1, m2⟩ := hc.2.2 p hp0 j1 k1 t (ktl_mono hok j2 ht)
  exact ⟨m1, fun r hr v h => kbh_mono hok j2 hr (m2 r hr v h)⟩
theorem fold_R (h50 : len ≤ 50) : ∀ (ts : List Nat) (s : KS), (∀ t, t ∈ ts → t ≤ len ∧ ∀ C' F', kcl len A C' F' → C' t = true ∧ ∀ r, r < 8 → ∀ v, F' t r = some v → b r = some v) → knI len A s.1 s.2.1 → arR s (ts.foldl (fun z t => arr z t b) s) ∧ knI len A (ts.foldl (fun z t => arr z t b) s).1 (ts.foldl (fun z t => arr z t b) s).2.1 ∧ ∀ t, t ∈ ts → (ts.foldl (fun z t => arr z t b) s).1 t = true ∧ ∀ r, r < 8 → ∀ v, (ts.foldl (fun z t => arr z t b) s).2.1 t r = some v → b r = some v := by
  intro ts
  induction ts with
  | nil => intro s _ hI; exact ⟨arR_refl, hI, fun t ht => absurd ht (by simp)⟩
  | cons t ts ih =>
    intro s h hI
    obtain ⟨h1, h2⟩ := h t (by simp)
    have hR := arR_arr (s := s) (b := b) (show t < 51 by omega)
    obtain ⟨g1, g2, g3⟩ := ih (arr s t b) (fun q hq => h q (by simp [hq])) (arr_I h1 hI h2)
    simp only [List.foldl_cons]
    refine ⟨arR_trans hR g1, g2, fun q hq => ?_⟩
    rcases List.mem_cons.mp hq with rfl | hq
    · have e : (arr s q b).1 q = true := ub_s
      exact ⟨g1.1 q e, fun r hr v hv => arF_b hr (g1.2.1 q r hr e v hv)⟩
    · exact g3 q hq
theorem kgo_R (hok : okR len A) (hI : knI len A s.1 s.2.1) (hp0 : p < len) (hC : s.1 p = true) : arR s (kgo len A p s) ∧ knI len A (kgo len A p s).1 (kgo len A p s).2.1 ∧ ((kgo len A p s).2.1 p = s.2.1 p → kdn len A (kgo len A p s).1 (kgo len A p s).2.1 p) := by
  unfold kgo
  cases hs : kst A p (s.2.1 p) with
  | true =>
    simp only [if_true]
    refine ⟨arR_refl, hI, fun _ h => ?_⟩
    rw [hs] at h
    cases h
  | false =>
    simp only [Bool.false_eq_true, if_false]
    obtain ⟨g1, g2, g3⟩ := fold_R (b := kbh A p (s.2.1 p)) hok.1 (ktl len A p (s.2.1 p)) s (fun t ht => ⟨ktl_le hp0 ht, k_just (hok.2 p hp0) hI hp0 hC hs ht⟩) hI
    refine ⟨g1, g2, fun he _ t ht => ?_⟩
    rw [he] at ht ⊢
    exact g3 t ht
/-- the class's states between two places -/
def kJ (len : Nat) (A : Nat → Nat → Int32) (s : KS) : Prop := knI len A s.1 s.2.1 ∧ (∀ q, s.2.2.1 q = true → s.1 q = true) ∧ ∀ q, q < len → s.1 q = true → s.2.2.1 q = true ∨ kdn len A s.1 s.2.1 q
theorem kJ_go (hok : okR len A) (hJ : kJ len A s) (hp0 : p < len) (hw : s.2.2.1 p = true) {n : Nat} (hsw : ∀ q, q < p → s.2.2.1 q = true → s.2.2.2 = true) (hrk : n ≤ rk s.1 s.2.1 ∧ (s.2.2.2 = true → n < rk s.1 s.2.1)) :
    kJ len A (kgo len A p (s.1, s.2.1, ub s.2.2.1 p false, s.2.2.2)) ∧ (∀ q, q < p + 1 → (kgo len A p (s.1, s.2.1, ub s.2.2.1 p false, s.2.2.2)).2.2.1 q = true → (kgo len A p (s.1, s.2.1, ub s.2.2.1 p false, s.2.2.2)).2.2.2 = true) ∧ (n ≤ rk (kgo len A p (s.1, s.2.1, ub s.2.2.1 p false, s.2.2.2)).1 (kgo len A p (s.1, s.2.1, ub s.2.2.1 p false, s.2.2.2)).2.1 ∧ ((kgo len A p (s.1, s.2.1, ub s.2.2.1 p false, s.2.2.2)).2.2.2 = true → n < rk (kgo len A p (s.1, s.2.1, ub s.2.2.1 p false, s.2.2.2)).1 (kgo len A p (s.1, s.2.1, ub s.2.2.1 p false, s.2.2.2)).2.1)) := by
  obtain ⟨j1, j2, j3⟩ := hJ
  obtain ⟨g1, g2, g3⟩ := kgo_R (s := (s.1, s.2.1, ub s.2.2.1 p false, s.2.2.2)) hok j1 hp0 (j2 p hw)
  generalize hk : kgo len A p (s.1, s.2.1, ub s.2.2.1 p false, s.2.2.2) = k at g1 g2 g3
  obtain ⟨a1, a2, a3, a4, a5⟩ := g1
  have hu : ∀ q, ub s.2.2.1 p false q = true → q ≠ p ∧ s.2.2.1 q = true := by
    intro q hq
    unfold ub at hq
    split at hq
    · cases hq
    · rename_i e; exact ⟨e, hq⟩
  refine ⟨⟨g2, fun q hq => ?_, fun q hq hC => ?_⟩, fun q hq hw2 => ?_, ?_⟩
  · rcases a3 q with ⟨e1, e2, e3⟩ | ⟨e1, e2, e3⟩
    · rw [e3] at hq
      exact a1 q (j2 q (hu q hq).2)
    · exact e2
  · rcases a3 q with ⟨e1, e2, e3⟩ | ⟨e1, e2, e3⟩
    · by_cases e : q = p
      · subst e; exact Or.inr (g3 e2)
      · rw [e1] at hC
        rcases j3 q hq hC with h | h
        · refine Or.inl ?_
          rw [e3]
          show ub s.2.2.1 p false q = true
          rw [ub_o e]; exact h
        · exact Or.inr (kdn_R (s := (s.1, s.2.1, ub s.2.2.1 p false, s.2.2.2)) ⟨a1, a2, a3, a4, a5⟩ e2 h)
    · exact Or.inl e1
  · rcases a3 q with ⟨e1, e2, e3⟩ | ⟨e1, e2, e3⟩
    · rw [e3] at hw2
      obtain ⟨h1, h2⟩ := hu q hw2
      exact a5 (hsw q (by omega) h2)
    · exact e3
  · rcases a4 with rfl | ⟨e1, e2⟩
    · exact hrk
    · have e1 : rk s.1 s.2.1 < rk k.1 k.2.1 := e1
      exact ⟨by omega, fun _ => by omega⟩
/-- the model's states within a sweep: as at its start and done so far, or higher -/
def kW (len : Nat) (A : Nat → Nat → Int32) (s0 : KS) (j : Nat) (s : KS) : Prop := knI len A s.1 s.2.1 ∧ (s.1 = s0.1 ∧ s.2.1 = s0.2.1 ∧ s.2.2.2 = false ∧ (∀ q, q < j → s.1 q = true → kdn len A s.1 s.2.1 q) ∨ s.2.2.2 = true ∧ rk s0.1 s0.2.1 < rk s.1 s.2.1)
theorem kW_go (hok : okR len A) {s0 : KS} (h : kW len A s0 p s) (hp0 : p < len) (hC : s.1 p = true) : kW len A s0 (p + 1) (kgo len A p s) := by
  obtain ⟨h1, h2⟩ := h
  obtain ⟨g1, g2, g3⟩ := kgo_R (s := s) hok h1 hp0 hC
  refine ⟨g2, ?_⟩
  rcases h2 with ⟨e1, e2, e3, e4⟩ | ⟨e1, e2⟩
  · rcases g1.2.2.2.1 with e | ⟨e5, e6⟩
    · rw [e] at g3 ⊢
      refine Or.inl ⟨e1, e2, e3, fun q hq hq2 => ?_⟩
      by_cases c : q = p
      · subst c; exact g3 rfl
      · exact e4 q (by omega) hq2
    · exact Or.inr ⟨e6, by rw [← e1, ← e2]; exact e5⟩
  · refine Or.inr ⟨g1.2.2.2.2 e1, ?_⟩
    rcases g1.2.2.2.1 with e | ⟨e5, e6⟩
    · rw [e]; exact e2
    · omega
theorem kW_no {s0 : KS} (h : kW len A s0 p s) (hC : s.1 p = false) : kW len A s0 (p + 1) s := by
  refine ⟨h.1, h.2.imp (fun h => ⟨h.1, h.2.1, h.2.2.1, fun q hq hq2 => ?_⟩) id⟩
  by_cases c : q = p
  · subst c; rw [hC] at hq2; cases hq2
  · exact h.2.2.2 q (by omega) hq2
/-- the start -/
def kF0 : KF := fun p _ => if p = 0 then some 0 else none
def kC0 : Nat → Bool := fun p => decide (p = 0)
theorem knI_0 : knI len A kC0 kF0 := by
  refine ⟨rfl, fun r hr v h => ?_, fun C' F' hc p hp0 h => ?_, fun p h r hr => ?_⟩
  · unfold kF0 at h
    rw [if_pos rfl] at h
    cases h
    rfl
  · unfold kC0 at h
    obtain rfl : p = 0 := of_decide_eq_true h
    refine ⟨hc.1, fun r hr v h => ?_⟩
    rw [hc.2.1 r hr v h]
    rfl
  · unfold kC0 at h
    unfold kF0
    rw [if_neg (of_decide_eq_false h)]
end C71
