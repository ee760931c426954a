/-! known: pure -/
abbrev KF : Type := Nat → Nat → Option Int64
abbrev KS : Type := (Nat → Bool) × KF × (Nat → Bool) × Bool
def ngO (o : Option Int64) : Bool := match o with
  | some v => decide (v < 0)
  | none => false
def kst (A : Nat → Nat → Int32) (p : Nat) (f : Nat → Option Int64) : Bool := if A p 0 = nI 6 ∨ A p 0 = nI 7 then decide (f (cz (A p 3)) = some 0) else decide (A p 0 = nI 10) && ngO (f (cz (A p 2)))
def rkO (a : Int32) (x y : Option Int64) : Option Int64 := match x, y with
  | some u, some v => if (a = nI 6 ∨ a = nI 7) ∧ v = 0 then none else some (reck a u v)
  | _, _ => none
def krs (A : Nat → Nat → Int32) (p : Nat) (f : Nat → Option Int64) : Option Int64 := if A p 0 = nI 1 then some (A p 2).toInt64 else if A p 0 = nI 2 then f (cz (A p 2)) else if (¬ A p 0 < nI 3 ∧ ¬ nI 9 < A p 0) then rkO (A p 0) (f (cz (A p 2))) (f (cz (A p 3))) else none
def kbh (A : Nat → Nat → Int32) (p : Nat) (f : Nat → Option Int64) (r : Nat) : Option Int64 := if (mkP A p && decide (cz (A p 1) = r)) = true then krs A p f else f r
def kdc (A : Nat → Nat → Int32) (p : Nat) (f : Nat → Option Int64) : Bool := decide (A p 0 = nI 13) && (f (cz (A p 1))).isSome
def kfl (A : Nat → Nat → Int32) (p : Nat) (f : Nat → Option Int64) : Bool := decide (A p 0 = nI 13) && decide (f (cz (A p 1)) = some 0)
def kn (A : Nat → Nat → Int32) (p : Nat) (f : Nat → Option Int64) : Bool := nxP A p && (!kdc A p f || kfl A p f)
def ky (A : Nat → Nat → Int32) (p : Nat) (f : Nat → Option Int64) : Bool := jyP A p && (!kdc A p f || !kfl A p f)
def ktl (len : Nat) (A : Nat → Nat → Int32) (p : Nat) (f : Nat → Option Int64) : List Nat := (if kn A p f = true then [p + 1] else []) ++ ((if ky A p f = true then [tgP len A p] else []) ++ (if A p 0 = nI 14 then [len] else []))
def jn (x y : Option Int64) : Option Int64 := if x = y then x else none
def ub (C : Nat → Bool) (t : Nat) (v : Bool) : Nat → Bool := fun q => if q = t then v else C q
def arF (C : Nat → Bool) (F : KF) (t : Nat) (b : Nat → Option Int64) (j : Nat) : KF := fun q r => if q = t ∧ r < j then (if C t = true then jn (F t r) (b r) else b r) else F q r
def chB (F : KF) (t : Nat) (b : Nat → Option Int64) : Nat → Bool
  | 0 => false
  | j + 1 => chB F t b j || ((F t j).isSome && decide (¬ F t j = b j))
def arc (s : KS) (t : Nat) (b : Nat → Option Int64) : Bool := !s.1 t || chB s.2.1 t b 8
def arr (s : KS) (t : Nat) (b : Nat → Option Int64) : KS := (ub s.1 t true, arF s.1 s.2.1 t b 8, (if arc s t b = true then ub s.2.2.1 t true else s.2.2.1), s.2.2.2 || arc s t b)
def kgo (len : Nat) (A : Nat → Nat → Int32) (p : Nat) (s : KS) : KS := if kst A p (s.2.1 p) = true then s else (ktl len A p (s.2.1 p)).foldl (fun z t => arr z t (kbh A p (s.2.1 p))) s
/-- what holds on the ways from p -/
def kdn (len : Nat) (A : Nat → Nat → Int32) (C : Nat → Bool) (F : KF) (p : Nat) : Prop := kst A p (F p) = false → ∀ t, t ∈ ktl len A p (F p) → C t = true ∧ ∀ r, r < 8 → ∀ v, F t r = some v → kbh A p (F p) r = some v
def kcl (len : Nat) (A : Nat → Nat → Int32) (C : Nat → Bool) (F : KF) : Prop := C 0 = true ∧ (∀ r, r < 8 → ∀ v, F 0 r = some v → v = 0) ∧ ∀ p, p < len → C p = true → kdn len A C F p
def kle (len : Nat) (C : Nat → Bool) (F : KF) (C' : Nat → Bool) (F' : KF) : Prop := ∀ p, p ≤ len → C p = true → C' p = true ∧ ∀ r, r < 8 → ∀ v, F' p r = some v → F p r = some v
def knI (len : Nat) (A : Nat → Nat → Int32) (C : Nat → Bool) (F : KF) : Prop := C 0 = true ∧ (∀ r, r < 8 → ∀ v, F 0 r = some v → v = 0) ∧ (∀ C' F', kcl len A C' F' → kle len C F C' F') ∧ ∀ p, C p = false → ∀ r, r < 8 → F p r = none
def knL (len : Nat) (A : Nat → Nat → Int32) (C : Nat → Bool) (F : KF) : Prop := kcl len A C F ∧ (∀ C' F', kcl len A C' F' → kle len C F C' F') ∧ ∀ p, C p = false → ∀ r, r < 8 → F p r = none
def rk (C : Nat → Bool) (F : KF) : Nat := ct C 51 + ct (fun i => C (i / 8) && (F (i / 8) (i % 8)).isNone) 408
section C70
variable {len p t : Nat} {A : Nat → Nat → Int32} {C C' : Nat → Bool} {F F' : KF} {f f' b : Nat → Option Int64} {s : KS}
theorem rk_le : rk C F ≤ 459 := by
  have h1 := ct_le C 51
  have h2 := ct_le (fun i => C (i / 8) && (F (i / 8) (i % 8)).isNone) 408
  unfold rk
  omega
theorem knL_one (h : knL len A C F) (h' : knL len A C' F') (hp0 : p ≤ len) : C p = C' p ∧ ∀ r, r < 8 → F p r = F' p r := by
  have a := h.2.1 C' F' h'.1 p hp0
  have a' := h'.2.1 C F h.1 p hp0
  have e : C p = C' p := by
    cases h1 : C p with
    | true => exact (a h1).1.symm
    | false =>
      cases h2 : C' p with
      | true => rw [(a' h2).1] at h1; exact h1.symm
      | false => rfl
  refine ⟨e, fun r hr => ?_⟩
  cases h1 : C p with
  | false => rw [h.2.2 p h1 r hr, h'.2.2 p (e ▸ h1) r hr]
  | true =>
    have b1 := (a h1).2 r hr
    have b2 := (a' (e ▸ h1)).2 r hr
    cases h3 : F p r with
    | some v => exact (b2 v h3).symm
    | none =>
      cases h4 : F' p r with
      | none => rfl
      | some v => rw [b1 v h4] at h3; cases h3
/-- the registers of an act -/
theorem okA_rg (h : okA (A p 0) (A p 1) (A p 2) (A p 3)) : ((A p 0 = nI 6 ∨ A p 0 = nI 7) → cz (A p 3) < 8) ∧ (A p 0 = nI 10 → cz (A p 2) < 8) ∧ (A p 0 = nI 2 → cz (A p 2) < 8) ∧ ((¬ A p 0 < nI 3 ∧ ¬ nI 9 < A p 0) → cz (A p 2) < 8 ∧ cz (A p 3) < 8) ∧ (A p 0 = nI 13 → cz (A p 1) < 8) ∧ (mkP A p = true → cz (A p 1) < 8) := by
  have c8 : ∀ {x : Int32} {i : Nat}, i < 8 → x = nI i → cz x < 8 := by
    intro x i hi e
    rw [e, cz_n (by omega)]
    exact hi
  have z8 : ∀ {x : Int32}, x = nI 0 → cz x < 8 := fun e => c8 (by omega) e
  unfold mkP
  rcases okA_cases h with ⟨e, ex, ey, ez⟩ | ⟨e, ex, ey, ez⟩ | ⟨i, hi, e, ex, ez⟩ | ⟨i, j, hi, hj, e, ex, ey, ez⟩ | ⟨i, j, hi, hj, e, ex, ey, ez⟩ | ⟨k, i, j, l, hk1, hk2, hi, hj, hl, e, ex, ey, ez⟩ | ⟨i, hi, e, ex, ey, ez⟩ | ⟨j, hj, e, ex, ey, ez⟩ | ⟨i, j, hi, hj, e, ex, ey, ez⟩
  · exact ⟨fun _ => z8 ez, fun _ => z8 ey, fun _ => z8 ey, fun _ => ⟨z8 ey, z8 ez⟩, fun _ => z8 ex, fun _ => z8 ex⟩
  · exact ⟨fun _ => z8 ez, fun _ => z8 ey, fun _ => z8 ey, fun _ => ⟨z8 ey, z8 ez⟩, fun _ => z8 ex, fun _ => z8 ex⟩
  · rw [e]; exact ⟨fun z => absurd z (by decide), fun z => absurd z (by decide), fun z => absurd z (by decide), fun z => absurd z (by decide), fun _ => c8 hi ex, fun _ => c8 hi ex⟩
  · rw [e]; exact ⟨fun z => absurd z (by decide), fun z => absurd z (by decide), fun _ => c8 hj ey, fun z => absurd z (by decide), fun _ => c8 hi ex, fun _ => c8 hi ex⟩
  · rw [e]; exact ⟨fun z => absurd z (by decide), fun _ => c8 hj ey, fun _ => c8 hj ey, fun z => absurd z (by decide), fun _ => c8 hi ex, fun _ => c8 hi ex⟩
  · exact ⟨fun _ => c8 hl ez, fun _ => c8 hj ey, fun _ => c8 hj ey, fun _ => ⟨c8 hj ey, c8 hl ez⟩, fun _ => c8 hi ex, fun _ => c8 hi ex⟩
  · rw [e]; exact ⟨fun z => absurd z (by decide), fun z => absurd z (by decide), fun z => absurd z (by decide), fun z => absurd z (by decide), fun _ => c8 hi ex, fun _ => c8 hi ex⟩
  · rw [e]; exact ⟨fun z => absurd z (by decide), fun z => absurd z (by decide), fun z => absurd z (by decide), fun z => absurd z (by decide), fun z => absurd z (by decide), fun z => absurd z (by decide)⟩
  · rw [e]; exact ⟨fun z => absurd z (by decide), fun z => absurd z (by decide), fun z => absurd z (by decide), fun z => absurd z (by decide), fun _ => c8 hi ex, fun _ => c8 hi ex⟩
theorem kst_mono (hok : okA (A p 0) (A p 1) (A p 2) (A p 3)) (hm : ∀ r, r < 8 → ∀ v, f' r = some v → f r = some v) (h : kst A p f = false) : kst A p f' = false := by
  obtain ⟨g1, g2, g3, g4, g5, g6⟩ := okA_rg hok
  cases h2 : kst A p f' with
  | false => rfl
  | true =>
    unfold kst at h h2
    by_cases c : A p 0 = nI 6 ∨ A p 0 = nI 7
    · rw [if_pos c] at h h2
      rw [decide_eq_true (hm _ (g1 c) 0 (of_decide_eq_true h2))] at h
      exact h
    · rw [if_neg c] at h h2
      simp only [Bool.and_eq_true, decide_eq_true_eq] at h2
      obtain ⟨h3, h4⟩ := h2
      cases h5 : f' (cz (A p 2)) with
      | none => rw [h5] at h4; exact h4.symm
      | some v =>
        rw [h5] at h4
        rw [hm _ (g2 h3) v h5, h3, h4] at h
        exact absurd h (by decide)
theorem kn_mono (hok : okA (A p 0) (A p 1) (A p 2) (A p 3)) (hm : ∀ r, r < 8 → ∀ v, f' r = some v → f r = some v) : (kn A p f = true → kn A p f' = true) ∧ (ky A p f = true → ky A p f' = true) := by
  obtain ⟨g1, g2, g3, g4, g5, g6⟩ := okA_rg hok
  unfold kn ky kdc kfl
  by_cases c : A p 0 = nI 13
  · have hm2 := hm _ (g5 c)
    simp only [c, decide_true, Bool.true_and]
    cases h5 : f' (cz (A p 1)) with
    | none => simp; exact ⟨fun h _ => h, fun h _ => h⟩
    | some v => rw [hm2 v h5]; simp
  · simp only [c, decide_false, Bool.false_and, Bool.not_false, Bool.true_or]
    exact ⟨id, id⟩
theorem ktl_mem : t ∈ ktl len A p f ↔ (kn A p f = true ∧ t = p + 1) ∨ (ky A p f = true ∧ t = tgP len A p) ∨ (A p 0 = nI 14 ∧ t = len) := by
  unfold ktl
  simp only [List.mem_append]
  refine or_congr ?_ (or_congr ?_ ?_)
  · split <;> simp [*]
  · split <;> simp [*]
  · split <;> simp [*]
theorem ktl_mono (hok : okA (A p 0) (A p 1) (A p 2) (A p 3)) (hm : ∀ r, r < 8 → ∀ v, f' r = some v → f r = some v) (h : t ∈ ktl len A p f) : t ∈ ktl len A p f' := by
  obtain ⟨k1, k2⟩ := kn_mono hok hm
  rw [ktl_mem] at h ⊢
  exact h.imp (fun h => ⟨k1 h.1, h.2⟩) (fun h => h.imp (fun h => ⟨k2 h.1, h.2⟩) id)
theorem ktl_le (hp0 : p < len) (h : t ∈ ktl len A p f) : t ≤ len := by
  rw [ktl_mem] at h
  rcases h with ⟨-, h⟩ | ⟨-, h⟩ | ⟨-, h⟩
  · omega
  · rw [h]; exact tgP_le
  · omega
theorem kbh_mono (hok : okA (A p 0) (A p 1) (A p 2) (A p 3)) (hm : ∀ r, r < 8 → ∀ v, f' r = some v → f r = some v) {r : Nat} (hr : r < 8) {v : Int64} (h : kbh A p f' r = some v) : kbh A p f r = some v := by
  obtain ⟨g1, g2, g3, g4, g5, g6⟩ := okA_rg hok
  unfold kbh at h ⊢
  split at h
  · rename_i c
    rw [if_pos c]
    unfold krs at h ⊢
    split at h
    · rename_i c1; rw [if_pos c1]; exact h
    · rename_i c1
      rw [if_neg c1]
      split at h
      · rename_i c2; rw [if_pos c2]; exact hm _ (g3 c2) v h
      · rename_i c2
        rw [if_neg c2]
        split at h
        · rename_i c3
          rw [if_pos c3]
          obtain ⟨g7, g8⟩ := g4 c3
          cases h5 : f' (cz (A p 2)) with
          | none => rw [h5] at h; cases h
          | some u =>
            cases h6 : f' (cz (A p 3)) with
            | none => rw [h5, h6] at h; cases h
            | some w =>
              rw [hm _ g7 u h5, hm _ g8 w h6]
              rw [h5, h6] at h
              exact h
        · cases h
  · rename_i c
    rw [if_neg c]
    exact hm r hr v h
theorem chB_t : ∀ {j : Nat}, chB F t b j = true ↔ ∃ r, r < j ∧ (F t r).isSome = true ∧ ¬ F t r = b r
  | 0 => by simp [chB]
  | j + 1 => by
    unfold chB
    simp only [Bool.or_eq_true, Bool.and_eq_true, decide_eq_true_eq]
    rw [chB_t]
    constructor
    · rintro (⟨r, h1, h2⟩ | h)
      · exact ⟨r, by omega, h2⟩
      · exact ⟨j, by omega, h⟩
    · rintro ⟨r, h1, h2⟩
      by_cases e : r = j
      · subst e; exact Or.inr h2
      · exact Or.inl ⟨r, by omega, h2⟩
theorem chB_f {j : Nat} (h : chB F t b j = false) {r : Nat} (hr : r < j) : F t r = none ∨ F t r = b r := by
  cases h1 : F t r with
  | none => exact Or.inl rfl
  | some v =>
    refine Or.inr ?_
    refine Classical.byContradiction fun hn => ?_
    have := (chB_t (F := F) (t := t) (b := b) (j := j)).mpr ⟨r, hr, by rw [h1]; rfl, by rw [h1]; exact hn⟩
    rw [h] at this
    cases this
theorem arF_t {r : Nat} (hr : r < 8) : arF C F t b 8 t r = if C t = true then jn (F t r) (b r) else b r := if_pos ⟨rfl, hr⟩
theorem arF_o {q r : Nat} (h : q ≠ t) : arF C F t b 8 q r = F q r := if_neg (fun z => h z.1)
theorem jn_s {x y : Option Int64} {v : Int64} (h : jn x y = some v) : x = some v ∧ y = some v := by
  unfold jn at h
  split at h
  · rename_i e; exact ⟨h, e ▸ h⟩
  · cases h
theorem arF_k {q r : Nat} (hr : r < 8) (hc : C q = true) {v : Int64} (h : arF C F t b 8 q r = some v) : F q r = some v := by
  by_cases e : q = t
  · subst e
    rw [arF_t hr, if_pos hc] at h
    exact (jn_s h).1
  · rw [arF_o e] at h; exact h
theorem arF_b {r : Nat} (hr : r < 8) {v : Int64} (h : arF C F t b 8 t r = some v) : b r = some v := by
  rw [arF_t hr] at h
  split at h
  · exact (jn_s h).2
  · exact h
theorem ub_t {q : Nat} (h : C q = true) : ub C t true q = true := by
  unfold ub
  split
  · rfl
  · exact h
theorem ub_s : ub C t true t = true := if_pos rfl
theorem ub_o {q : Nat} {v : Bool} (h : q ≠ t) : ub C t v q = C q := if_neg h
/-- nothing new: nothing changes -/
theorem arr_id (h : arc s t b = false) : arr s t b = s := by
  obtain ⟨C, F, w, sw⟩ := s
  have h0 : (!C t || chB F t b 8) = false := h
  simp only [Bool.or_eq_false_iff, Bool.not_eq_false'] at h0
  obtain ⟨h1, h2⟩ := h0
  unfold arr
  rw [h]
  have e1 : ub C t true = C := by
    funext q
    unfold ub
    split
    · rename_i e; rw [e, h1]
    · rfl
  have e2 : arF C F t b 8 = F := by
    funext q r
    unfold arF
    split
    · rename_i e
      obtain ⟨rfl, hr⟩ := e
      try rw [if_pos h1]
      unfold jn
      rcases chB_f h2 hr with h3 | h3
      · rw [h3]; split <;> rfl
      · rw [if_pos h3]
    · rfl
  simp only [e1, e2, Bool.or_false, Bool.false_eq_true, if_false]
theorem arr_rk (ht : t < 51) : rk s.1 s.2.1 ≤ rk (arr s t b).1 (arr s t b).2.1 ∧ (arc s t b = true → rk s.1 s.2.1 < rk (arr s t b).1 (arr s t b).2.1) := by
  obtain ⟨C, F, w, sw⟩ := s
  show rk C F ≤ rk (ub C t true) (arF C F t b 8) ∧ ((!C t || chB F t b 8) = true → rk C F < rk (ub C t true) (arF C F t b 8))
  have g1 : ∀ i, i < 51 → C i = true → ub C t true i = true := fun i _ h => ub_t h
  have g2 : ∀ i, i < 408 → (C (i / 8) && (F (i / 8) (i % 8)).isNone) = true → (ub C t true (i / 8) && (arF C F t b 8 (i / 8) (i % 8)).isNone) = true := by
    intro i hi h
    simp only [Bool.and_eq_true, Option.isNone_iff_eq_none] at h ⊢
    refine ⟨ub_t h.1, ?_⟩
    cases h2 : arF C F t b 8 (i / 8) (i % 8) with
    | none => rfl
    | some v => rw [arF_k (by omega) h.1 h2] at h; cases h.2
  refine ⟨?_, fun hc => ?_⟩
  · have a1 := ct_mono g1
    have a2 := ct_mono g2
    unfold rk
    omega
  · by_cases h : C t = true
    · rw [h] at hc
      simp only [Bool.not_true, Bool.false_or] at hc
      obtain ⟨r, hr, h1, h2⟩ := chB_t.mp hc
      have a1 := ct_mono g1
      have a2 := ct_lt g2 ⟨8 * t + r, by omega, by
        rw [show (8 * t + r) / 8 = t by omega, show (8 * t + r) % 8 = r by omega]
        cases h3 : F t r with
        | none => rw [h3] at h1; cases h1
        | some v => simp, by
        rw [show (8 * t + r) / 8 = t by omega, show (8 * t + r) % 8 = r by omega, ub_s, arF_t hr, if_pos h]
        unfold jn
        rw [if_neg h2]
        rfl⟩
      unfold rk
      omega
    · have a1 := ct_lt g1 ⟨t, ht, by simpa using h, ub_s⟩
      have a2 := ct_mono g2
      unfold rk
      omega
/-- a way that every solution must go: still below every solution -/
theorem arr_I (ht : t ≤ len) (hI : knI len A s.1 s.2.1) (hj : ∀ C' F', kcl len A C' F' → C' t = true ∧ ∀ r, r < 8 → ∀ v, F' t r = some v → b r = some v) : knI len A (arr s t b).1 (arr s t b).2.1 := by
  obtain ⟨C, F, w, sw⟩ := s
  obtain ⟨i1, i2, i3, i4⟩ := hI
  have i1 : C 0 = true := i1
  have i2 : ∀ r, r < 8 → ∀ v, F 0 r = some v → v = 0 := i2
  have i3 : ∀ C' F', kcl len A C' F' → kle len C F C' F' := i3
  have i4 : ∀ p, C p = false → ∀ r, r < 8 → F p r = none := i4
  show knI len A (ub C t true) (arF C F t b 8)
  refine ⟨ub_t i1, fun r hr v h => i2 r hr v (arF_k hr i1 h), fun C' F' hc q hq hq2 => ?_, fun q hq r hr => ?_⟩
  · by_cases e : q = t
    · subst e
      obtain ⟨j1, j2⟩ := hj C' F' hc
      refine ⟨j1, fun r hr v h => ?_⟩
      rw [arF_t hr]
      by_cases hC : C q = true
      · rw [if_pos hC, ((i3 C' F' hc q hq hC).2 r hr v h), j2 r hr v h]
        unfold jn
        rw [if_pos rfl]
      · rw [if_neg hC]; exact j2 r hr v h
    · rw [ub_o e] at hq2
      obtain ⟨j1, j2⟩ := i3 C' F' hc q hq hq2
      exact ⟨j1, fun r hr v h => by rw [arF_o e]; exact j2 r hr v h⟩
  · have e : q ≠ t := fun e => by subst e; rw [ub_s] at hq; cases hq
    rw [ub_o e] at hq
    rw [arF_o e]
    exact i4 q hq r hr
/-- what held on the ways from a place that stays as it is -/
theorem arr_dn (he : (arr s t b).2.1 p = s.2.1 p) (h : kdn len A s.1 s.2.1 p) : kdn len A (arr s t b).1 (arr s t b).2.1 p := by
  intro h1 q hq
  rw [he] at h1 hq ⊢
  obtain ⟨j1, j2⟩ := h h1 q hq
  exact ⟨ub_t j1, fun r hr v h => j2 r hr v (arF_k hr j1 h)⟩
end C70
