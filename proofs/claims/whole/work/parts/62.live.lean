/-! contracts: Liveness.study -/
def mskM (M : mm) (m : Nat → Nat) : mm := (fun i k => if i = 211 ∧ k < 51 then nI (m k) else rI M i k, M.2)
def updN (m : Nat → Nat) (p v : Nat) : Nat → Nat := fun q => if q = p then v else m q
def bitsF (m : Nat → Nat) : Nat → Nat → Bool := fun p r => (m p).testBit r
def cntM (len : Nat) (m : Nat → Nat) : Nat := ct (fun i => (m (i / 8)).testBit (i % 8)) (8 * len)
def lvI (len : Nat) (A : Nat → Nat → Int32) (m : Nat → Nat) : Prop := (∀ q, m q < 256) ∧ (∀ q, len ≤ q → m q = 0) ∧ (∀ p r, p < len → r < 8 → (m p).testBit r = true → lvF len A (bitsF m) p r = true) ∧ (∀ S', lvC len A S' → ∀ p r, p ≤ len → r < 8 → (m p).testBit r = true → S' p r = true)
section C62
variable {d : Nat} {lim : Nat × Nat} {Q : mj_Q} {M : mm} {o len p : Nat} {A : Nat → Nat → Int32} {m : Nat → Nat}
theorem mk_I {i k : Nat} : rI (mskM M m) i k = if i = 211 ∧ k < 51 then nI (m k) else rI M i k := rfl
theorem mk_Io {i k : Nat} (h : i ≠ 211) : rI (mskM M m) i k = rI M i k := by rw [mk_I]; simp only [h, false_and, if_false]
theorem mk_Im {k : Nat} (h : k < 51) : rI (mskM M m) 211 k = nI (m k) := by rw [mk_I]; simp only [h, and_self, if_true]
theorem mk_w {v : Nat} (h : p < 51) : wI (mskM M m) 211 p (nI v) = mskM M (updN m p v) := by
  refine mm_ext (fun i k => ?_) (fun _ _ => rfl) (fun _ _ => rfl) rfl
  rw [rI_wI, mk_I, mk_I]
  by_cases h1 : i = 211 ∧ k = p
  · obtain ⟨rfl, rfl⟩ := h1; simp [h, updN]
  · rw [if_neg h1]
    by_cases h2 : i = 211 ∧ k < 51
    · rw [if_pos h2, if_pos h2]
      have : k ≠ p := fun z => h1 ⟨h2.1, z⟩
      simp [updN, this]
    · rw [if_neg h2, if_neg h2]
theorem mk_ne {j : Nat} (h : isRt o) (hj : j ≤ 4) : o + j ≠ 211 := by
  rcases h with h | h | h | h | h <;> omega
theorem mk_R (ho : isRt o) (hR : hasR M o len A) : hasR (mskM M m) o len A := by
  refine ⟨(mk_Io (mk_ne (j := 0) ho (by omega))).trans hR.1, fun p hp0 => ?_⟩
  obtain ⟨b1, b2, b3, b4⟩ := hR.2 p hp0
  exact ⟨(mk_Io (mk_ne ho (by omega))).trans b1, (mk_Io (mk_ne ho (by omega))).trans b2, (mk_Io (mk_ne ho (by omega))).trans b3, (mk_Io (mk_ne ho (by omega))).trans b4⟩
theorem two8 {x : Nat} (h : x < 8) : 2 ^ x < 2 ^ 8 := Nat.pow_lt_pow_right (by omega) h
theorem lvm_lt (hok : okR len A) (hm : ∀ q, m q < 256) (hp0 : p < len) : lvm len A m p < 256 := by
  have hb : ∀ x y : Nat, x < 2 ^ 8 → y < 2 ^ 8 → x ||| y < 2 ^ 8 := fun x y h1 h2 => Nat.or_lt_two_pow h1 h2
  have e8 : (2 : Nat) ^ 8 = 256 := by decide
  have h1 : (((if nxP A p then m (p + 1) else 0) ||| (if jyP A p then m (tgP len A p) else 0)) &&& (if mkP A p then 255 ^^^ 2 ^ cz (A p 1) else 255)) < 2 ^ 8 := by
    refine Nat.lt_of_le_of_lt Nat.and_le_left (hb _ _ ?_ ?_)
    · split
      · rw [e8]; exact hm _
      · omega
    · split
      · rw [e8]; exact hm _
      · omega
  have hc := okA_cases (hok.2 p hp0)
  have c8 : ∀ {x : Int32} {i : Nat}, i < 8 → x = nI i → cz x < 8 := by
    intro x i hi e
    rw [e, cz_n (by omega)]
    exact hi
  unfold lvm
  rw [← e8]
  refine hb _ _ h1 ?_
  split
  · rename_i hk
    refine two8 ?_
    rcases hc with ⟨e, -⟩ | ⟨e, -⟩ | ⟨i, hi, e, ex, -⟩ | ⟨i, j, hi, hj, e, ex, -⟩ | ⟨i, j, hi, hj, e, ex, -⟩ | ⟨k, i, j, l, hk1, hk2, hi, hj, hl, e, ex, -⟩ | ⟨i, hi, e, ex, -⟩ | ⟨j, hj, e, ex, -⟩ | ⟨i, j, hi, hj, e, ex, -⟩
    · rw [e] at hk; exact absurd hk (by decide)
    · rw [e] at hk; exact absurd hk (by decide)
    · exact c8 hi ex
    · exact c8 hi ex
    · exact c8 hi ex
    · exact c8 hi ex
    · exact c8 hi ex
    · rw [e] at hk; exact absurd hk (by decide)
    · exact c8 hi ex
  · split
    · rename_i hk
      refine two8 ?_
      rcases hc with ⟨e, -⟩ | ⟨e, -⟩ | ⟨i, hi, e, ex, -⟩ | ⟨i, j, hi, hj, e, ex, ey, -⟩ | ⟨i, j, hi, hj, e, ex, ey, -⟩ | ⟨k, i, j, l, hk1, hk2, hi, hj, hl, e, ex, ey, -⟩ | ⟨i, hi, e, ex, -⟩ | ⟨j, hj, e, ex, -⟩ | ⟨i, j, hi, hj, e, ex, -⟩
      · rw [e] at hk; exact absurd hk (by decide)
      · rw [e] at hk; exact absurd hk (by decide)
      · rw [e] at hk; exact absurd hk (by decide)
      · exact c8 hj ey
      · exact c8 hj ey
      · exact c8 hj ey
      · rw [e] at hk; exact absurd hk (by decide)
      · rw [e] at hk; exact absurd hk (by decide)
      · rw [e] at hk; exact absurd hk (by decide)
    · split
      · rename_i hk
        rcases hc with ⟨e, -⟩ | ⟨e, -⟩ | ⟨i, hi, e, ex, -⟩ | ⟨i, j, hi, hj, e, ex, ey, -⟩ | ⟨i, j, hi, hj, e, ex, ey, -⟩ | ⟨k, i, j, l, hk1, hk2, hi, hj, hl, e, ex, ey, ez⟩ | ⟨i, hi, e, ex, -⟩ | ⟨j, hj, e, ex, -⟩ | ⟨i, j, hi, hj, e, ex, -⟩
        · rw [e] at hk; exact absurd hk (by decide)
        · rw [e] at hk; exact absurd hk (by decide)
        · rw [e] at hk; exact absurd hk (by decide)
        · rw [e] at hk; exact absurd hk (by decide)
        · rw [e] at hk; exact absurd hk (by decide)
        · exact hb _ _ (two8 (c8 hj ey)) (two8 (c8 hl ez))
        · rw [e] at hk; exact absurd hk (by decide)
        · rw [e] at hk; exact absurd hk (by decide)
        · rw [e] at hk; exact absurd hk (by decide)
      · omega
theorem lv_up (hok : okR len A) (hI : lvI len A m) (hp0 : p < len) : lvI len A (updN m p (lvm len A m p)) ∧ (∀ q r, r < 8 → (m q).testBit r = true → (updN m p (lvm len A m p) q).testBit r = true) := by
  obtain ⟨i1, i2, i3, i4⟩ := hI
  have grow : ∀ q r, r < 8 → (m q).testBit r = true → (updN m p (lvm len A m p) q).testBit r = true := by
    intro q r hr h
    unfold updN
    by_cases e : q = p
    · subst e
      rw [if_pos rfl, lvm_bit hr]
      exact i3 q r hp0 hr h
    · rw [if_neg e]; exact h
  refine ⟨⟨fun q => ?_, fun q hq => ?_, fun q r hq hr h => ?_, fun S' hS q r hq hr h => ?_⟩, grow⟩
  · unfold updN
    split
    · exact lvm_lt hok i1 hp0
    · exact i1 q
  · unfold updN
    rw [if_neg (by omega)]
    exact i2 q hq
  · have hm : lvF len A (bitsF m) q r = true := by
      unfold updN at h
      by_cases e : q = p
      · subst e
        rw [if_pos rfl, lvm_bit hr] at h
        exact h
      · rw [if_neg e] at h
        exact i3 q r hq hr h
    exact lvF_mono hq (fun z hz hb => grow z r hr hb) hm
  · unfold updN at h
    by_cases e : q = p
    · subst e
      rw [if_pos rfl, lvm_bit hr] at h
      exact hS q r hp0 hr (lvF_mono hp0 (fun z hz hb => i4 S' hS z r hz hr hb) h)
    · rw [if_neg e] at h
      exact i4 S' hS q r hq hr h
theorem bits_ne {x y : Nat} (hx : x < 256) (hy : y < 256) (h : x ≠ y) : ∃ r, r < 8 ∧ x.testBit r ≠ y.testBit r := by
  refine Classical.byContradiction fun hn => h ?_
  apply Nat.eq_of_testBit_eq
  intro j
  by_cases hj : j < 8
  · exact Classical.byContradiction fun z => hn ⟨j, hj, z⟩
  · have hp8 : 256 ≤ 2 ^ j := show 2 ^ 8 ≤ 2 ^ j from Nat.pow_le_pow_right (by omega) (by omega)
    rw [Nat.testBit_lt_two_pow (Nat.lt_of_lt_of_le hx hp8), Nat.testBit_lt_two_pow (Nat.lt_of_lt_of_le hy hp8)]
theorem cnt_up (hok : okR len A) (hI : lvI len A m) (hp0 : p < len) : cntM len m ≤ cntM len (updN m p (lvm len A m p)) ∧ (lvm len A m p ≠ m p → cntM len m < cntM len (updN m p (lvm len A m p))) := by
  have hg := (lv_up hok hI hp0).2
  refine ⟨ct_mono (fun i hi h => hg _ _ (by omega) h), fun hne => ct_lt (fun i hi h => hg _ _ (by omega) h) ?_⟩
  obtain ⟨r, hr, hb⟩ := bits_ne (lvm_lt hok hI.1 hp0) (hI.1 p) hne
  have e1 : (8 * p + r) / 8 = p := by omega
  have e2 : (8 * p + r) % 8 = r := by omega
  refine ⟨8 * p + r, by omega, ?_, ?_⟩
  · rw [e1, e2]
    cases h1 : (m p).testBit r with
    | false => rfl
    | true =>
      have := hI.2.2.1 p r hp0 hr h1
      rw [lvm_bit hr, h1] at hb
      exact absurd this hb
  · rw [e1, e2]
    unfold updN
    rw [if_pos rfl]
    cases h1 : (lvm len A m p).testBit r with
    | true => rfl
    | false =>
      rw [h1] at hb
      cases h2 : (m p).testBit r with
      | false => rw [h2] at hb; exact absurd rfl hb
      | true =>
        have := hI.2.2.1 p r hp0 hr h2
        rw [show lvF len A (bitsF m) p r = lvF len A (fun q r => (m q).testBit r) p r from rfl, ← lvm_bit hr, h1] at this
        cases this
end C62
