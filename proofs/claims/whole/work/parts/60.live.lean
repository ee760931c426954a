/-! live: the least solution; the class's masks -/
def ct (f : Nat → Bool) : Nat → Nat
  | 0 => 0
  | n + 1 => ct f n + (if f n then 1 else 0)
theorem ct_le (f : Nat → Bool) : ∀ n, ct f n ≤ n
  | 0 => Nat.le_refl 0
  | n + 1 => by
    have := ct_le f n
    unfold ct
    split <;> omega
theorem ct_mono {f g : Nat → Bool} : ∀ {n : Nat}, (∀ i, i < n → f i = true → g i = true) → ct f n ≤ ct g n
  | 0, _ => Nat.le_refl 0
  | n + 1, h => by
    have ih := ct_mono (n := n) (fun i hi => h i (by omega))
    have h1 := h n (by omega)
    unfold ct
    cases hf : f n with
    | false => simp; split <;> omega
    | true => rw [h1 hf]; simp; exact ih
theorem ct_lt {f g : Nat → Bool} : ∀ {n : Nat}, (∀ i, i < n → f i = true → g i = true) → (∃ i, i < n ∧ f i = false ∧ g i = true) → ct f n < ct g n
  | 0, _, h => by obtain ⟨i, hi, -⟩ := h; omega
  | n + 1, h, hx => by
    obtain ⟨i, hi, hf, hg⟩ := hx
    have hm := ct_mono (n := n) (fun i hi => h i (by omega))
    unfold ct
    by_cases e : i = n
    · subst e
      rw [hf, hg]
      simp
      omega
    · have ih := ct_lt (n := n) (fun i hi => h i (by omega)) ⟨i, by omega, hf, hg⟩
      have h1 := h n (by omega)
      cases hfn : f n with
      | false => simp; split <;> omega
      | true => rw [h1 hfn]; simp; exact ih
/-- where y leads -/
def tgP (len : Nat) (A : Nat → Nat → Int32) (p : Nat) : Nat := if cz (A p 2) < len then cz (A p 2) else len
def asksP (A : Nat → Nat → Int32) (p r : Nat) : Bool := if A p 0 = nI 11 ∨ A p 0 = nI 13 then decide (cz (A p 1) = r) else if A p 0 = nI 2 ∨ A p 0 = nI 10 then decide (cz (A p 2) = r) else if (¬ A p 0 < nI 3 ∧ ¬ nI 9 < A p 0) then decide (cz (A p 2) = r) || decide (cz (A p 3) = r) else false
def mkP (A : Nat → Nat → Int32) (p : Nat) : Bool := decide (¬ A p 0 < nI 1 ∧ ¬ nI 10 < A p 0)
def nxP (A : Nat → Nat → Int32) (p : Nat) : Bool := decide (¬ A p 0 = nI 12 ∧ ¬ A p 0 = nI 14)
def jyP (A : Nat → Nat → Int32) (p : Nat) : Bool := decide (A p 0 = nI 12 ∨ A p 0 = nI 13)
def lvF (len : Nat) (A : Nat → Nat → Int32) (S : Nat → Nat → Bool) (p r : Nat) : Bool := asksP A p r || (!(mkP A p && decide (cz (A p 1) = r)) && ((nxP A p && S (p + 1) r) || (jyP A p && S (tgP len A p) r)))
def lvC (len : Nat) (A : Nat → Nat → Int32) (S : Nat → Nat → Bool) : Prop := ∀ p r, p < len → r < 8 → lvF len A S p r = true → S p r = true
def lvL (len : Nat) (A : Nat → Nat → Int32) (S : Nat → Nat → Bool) : Prop := lvC len A S ∧ (∀ S', lvC len A S' → ∀ p r, p ≤ len → r < 8 → S p r = true → S' p r = true) ∧ ∀ r, r < 8 → S len r = false
theorem lvL_one {len : Nat} {A : Nat → Nat → Int32} {S S' : Nat → Nat → Bool} (h : lvL len A S) (h' : lvL len A S') {p r : Nat} (hp0 : p ≤ len) (hr : r < 8) : S p r = S' p r := by
  have a := h.2.1 S' h'.1 p r hp0 hr
  have b := h'.2.1 S h.1 p r hp0 hr
  cases h1 : S p r with
  | true => exact (a h1).symm
  | false =>
    cases h2 : S' p r with
    | true => rw [b h2] at h1; cases h1
    | false => rfl
theorem tgP_le {len : Nat} {A : Nat → Nat → Int32} {p : Nat} : tgP len A p ≤ len := by unfold tgP; split <;> omega
theorem lvF_mono {len : Nat} {A : Nat → Nat → Int32} {S S' : Nat → Nat → Bool} {p r : Nat} (hp0 : p < len) (h : ∀ q, q ≤ len → S q r = true → S' q r = true) (hf : lvF len A S p r = true) : lvF len A S' p r = true := by
  unfold lvF at hf ⊢
  simp only [Bool.or_eq_true, Bool.and_eq_true] at hf ⊢
  rcases hf with hf | ⟨h1, h2 | h2⟩
  · exact Or.inl hf
  · exact Or.inr ⟨h1, Or.inl ⟨h2.1, h _ (by omega) h2.2⟩⟩
  · exact Or.inr ⟨h1, Or.inr ⟨h2.1, h _ tgP_le h2.2⟩⟩
/-- a mask ahead of an act -/
def lvm (len : Nat) (A : Nat → Nat → Int32) (m : Nat → Nat) (p : Nat) : Nat :=
  ((((if nxP A p then m (p + 1) else 0) ||| (if jyP A p then m (tgP len A p) else 0)) &&& (if mkP A p then 255 ^^^ 2 ^ cz (A p 1) else 255)) ||| (if A p 0 = nI 11 ∨ A p 0 = nI 13 then 2 ^ cz (A p 1) else if A p 0 = nI 2 ∨ A p 0 = nI 10 then 2 ^ cz (A p 2) else if (¬ A p 0 < nI 3 ∧ ¬ nI 9 < A p 0) then 2 ^ cz (A p 2) ||| 2 ^ cz (A p 3) else 0))
theorem tb255 {r : Nat} (h : r < 8) : Nat.testBit 255 r = true := by
  have hk : r = 0 ∨ r = 1 ∨ r = 2 ∨ r = 3 ∨ r = 4 ∨ r = 5 ∨ r = 6 ∨ r = 7 := by omega
  rcases hk with rfl | rfl | rfl | rfl | rfl | rfl | rfl | rfl <;> decide
theorem lvm_bit {len : Nat} {A : Nat → Nat → Int32} {m : Nat → Nat} {p r : Nat} (hr : r < 8) : (lvm len A m p).testBit r = lvF len A (fun q r => (m q).testBit r) p r := by
  unfold lvm lvF asksP
  rw [Nat.testBit_or, Nat.testBit_and, Nat.testBit_or, Bool.or_comm]
  congr 1
  · split
    · rw [Nat.testBit_two_pow]
    · split
      · rw [Nat.testBit_two_pow]
      · split
        · rw [Nat.testBit_or, Nat.testBit_two_pow, Nat.testBit_two_pow]
        · simp
  · rw [Bool.and_comm]
    congr 1
    · cases mkP A p with
      | true => simp [tb255 hr, Nat.testBit_two_pow]
      | false => simp [tb255 hr]
    · congr 1
      · cases nxP A p <;> simp
      · cases jyP A p <;> simp
