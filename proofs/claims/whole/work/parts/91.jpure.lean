/-! the judge: pure -/
abbrev TH : Type := Nat × Int64 × Nat × Int32 × Nat × Nat
def cl (x : WR) (r : Nat) : Nat := x.2.2.2.2.1 r
def nu (x : WR) (r : Nat) : Int64 := x.2.2.2.2.2 r
def isNu (x : WR) (r : Nat) : Bool := decide (cl x r = 2)
def alk (x : WR) (a b : Nat) : Bool := if (isNu x a || isNu x b) = true then isNu x a && (isNu x b && decide (nu x a = nu x b)) else decide (a = b) && decide (cl x a = 1)
def t0 (x : WR) (q : Nat) : TH := if isNu x q = true then (0, nu x q, 0, nI 0, 0, 0) else (1, 0, q, nI 0, 0, 0)
abbrev isDv (a : Int32) : Prop := a = nI 6 ∨ a = nI 7
def kn0 (x : WR) (A : AA) (p : Nat) : Bool := !decide (A p 0 = nI 10) && (isNu x (cz (A p 2)) && (isNu x (cz (A p 3)) && !(decide (isDv (A p 0)) && decide (nu x (cz (A p 3)) = 0))))
def tm (x : WR) (A : AA) (p : Nat) : TH := if A p 0 = nI 1 then (0, (A p 2).toInt64, 0, nI 0, 0, 0) else if A p 0 = nI 2 then t0 x (cz (A p 2)) else if kn0 x A p = true then (0, reck (A p 0) (nu x (cz (A p 2))) (nu x (cz (A p 3))), 0, nI 0, 0, 0) else (2, 0, 0, A p 0, cz (A p 2), cz (A p 3))
def tx (x : WR) (A : AA) (p r : Nat) : TH := if (mkP A p && decide (cz (A p 1) = r)) = true then tm x A p else t0 x r
def smT (x : WR) (s t : TH) : Bool := if s.1 = t.1 then (if s.1 = 0 then decide (s.2.1 = t.2.1) else if s.1 = 1 then decide (s.2.2.1 = t.2.2.1) && decide (cl x s.2.2.1 = 1) else decide (s.2.2.2.1 = t.2.2.2.1) && (alk x s.2.2.2.2.1 t.2.2.2.2.1 && (decide (s.2.2.2.1 = nI 10) || alk x s.2.2.2.2.2 t.2.2.2.2.2))) else false
def okT (t : TH) : Prop := (t.1 = 0 ∨ t.1 = 1 ∨ t.1 = 2) ∧ (t.1 = 1 → t.2.2.1 < 8) ∧ (t.1 = 2 → t.2.2.2.2.1 < 8 ∧ t.2.2.2.2.2 < 8)
def fl1 (x y : WR) (f g : Nat → TH) (r : Nat) : Bool := decide (cl y r = 0) || (smT x (f r) (g r) && (!decide (cl y r = 2) || (decide ((f r).1 = 0) && decide ((f r).2.1 = nu y r))))
def allB (h : Nat → Bool) : Nat → Bool
  | 0 => true
  | n + 1 => allB h n && h n
def mnp (l a : Nat) : Nat := if a < l then a else l
def fdx (W : WS) (la lb p q : Nat) : Nat → Nat → Option Nat
  | 0, _ => none
  | n + 1, i => if mnp la (W.2 i).1 = p ∧ mnp lb (W.2 i).2.1 = q then some i else fdx W la lb p q n (i + 1)
def fnd (W : WS) (la lb p q : Nat) : Option Nat := fdx W la lb p q W.1 0
def quie (x : WR) (A : AA) (p : Nat) : Bool := if isDv (A p 0) then isNu x (cz (A p 3)) && !decide (nu x (cz (A p 3)) = 0) else if A p 0 = nI 13 then isNu x (cz (A p 1)) else !(decide (A p 0 = nI 10) || decide (A p 0 = nI 11))
def goes (x : WR) (len : Nat) (A : AA) (p : Nat) : Nat := if A p 0 = nI 14 then len else if A p 0 = nI 12 ∨ (A p 0 = nI 13 ∧ ¬ nu x (cz (A p 1)) = 0) then tgP len A p else p + 1
def wnt (W : WS) (la lb : Nat) (x : WR) (p q : Nat) (f g : Nat → TH) : Nat := match fnd W la lb p q with
  | none => 5
  | some n => if 0 < x.2.2.1 ∧ ¬ (W.2 n).2.2.2.1 < x.2.2.2.1 then 6 else if allB (fl1 x (W.2 n) f g) 8 = true then 0 else 7
def asks (x : WR) (A B : AA) (p q : Nat) : Bool := if A p 0 = nI 11 ∨ A p 0 = nI 13 then alk x (cz (A p 1)) (cz (B q 1)) else alk x (cz (A p 2)) (cz (B q 2)) && (decide (A p 0 = nI 10) || alk x (cz (A p 3)) (cz (B q 3)))
def sstp (x : WR) (A : AA) (p : Nat) : Bool := if isDv (A p 0) then isNu x (cz (A p 3)) && decide (nu x (cz (A p 3)) = 0) else decide (A p 0 = nI 10) && (isNu x (cz (A p 2)) && decide (nu x (cz (A p 2)) < 0))
abbrev ldK (a : Int32) : Prop := isDv a ∨ a = nI 10 ∨ a = nI 11 ∨ a = nI 13
def loud (W : WS) (la lb : Nat) (A B : AA) (x : WR) (p q : Nat) : Nat := if A p 0 = B q 0 ∧ ldK (A p 0) then (if asks x A B p q = true then (if sstp x A p = true then 0 else if wnt W la lb x (p + 1) (q + 1) (tx x A p) (tx x B q) = 0 ∧ A p 0 = nI 13 then wnt W la lb x (tgP la A p) (tgP lb B q) (tx x A p) (tx x B q) else wnt W la lb x (p + 1) (q + 1) (tx x A p) (tx x B q)) else 4) else 3
def jd1 (W : WS) (la lb : Nat) (A B : AA) (x : WR) (p q : Nat) : Nat := if x.2.2.1 = 1 then (if (decide (p < la) && quie x A p) = true then wnt W la lb x (goes x la A p) q (tx x A p) (t0 x) else 3) else if x.2.2.1 = 2 then (if (decide (q < lb) && quie x B q) = true then wnt W la lb x p (goes x lb B q) (t0 x) (tx x B q) else 3) else if p < la then (if q < lb then (if (quie x A p && quie x B q) = true then wnt W la lb x (goes x la A p) (goes x lb B q) (tx x A p) (tx x B q) else loud W la lb A B x p q) else 3) else if q < lb then 3 else 0
def jd (W : WS) (la lb : Nat) (A B : AA) (i : Nat) : Nat := jd1 W la lb A B (W.2 i) (mnp la (W.2 i).1) (mnp lb (W.2 i).2.1)
def jl (W : WS) (la lb : Nat) (A B : AA) : Nat → Nat → Nat × Int32
  | 0, _ => (0, -1)
  | n + 1, i => if jd W la lb A B i = 0 then jl W la lb A B n (i + 1) else (jd W la lb A B i, nI i)
def jdg (W : WS) (la lb : Nat) (A B : AA) : Nat × Int32 := match fnd W la lb 0 0 with
  | none => (1, nI 0)
  | some n => if allB (fun r => decide (nu (W.2 n) r = 0)) 8 = true then jl W la lb A B W.1 0 else (2, nI n)
section C91
variable {x y : WR} {A B : AA} {len la lb p q r n i : Nat} {W : WS} {h : Nat → Bool} {s t : TH}
theorem allB_f (hn : h r = false) : ∀ n, r < n → allB h n = false := by
  intro n
  induction n with
  | zero => intro z; omega
  | succ n ih =>
    intro hr
    show (allB h n && h n) = false
    by_cases e : r = n
    · rw [← e, hn, Bool.and_false]
    · rw [ih (by omega), Bool.false_and]
theorem allB_s (h1 : allB h n = true) (h2 : h n = true) : allB h (n + 1) = true := by
  show (allB h n && h n) = true
  rw [h1, h2]; rfl
theorem okT_c0 (e : t.1 = 0) : okT t := ⟨Or.inl e, fun z => by omega, fun z => by omega⟩
theorem okT_c1 (e : t.1 = 1) (e2 : t.2.2.1 < 8) : okT t := ⟨Or.inr (Or.inl e), fun _ => e2, fun z => by omega⟩
theorem okT_c2 (e : t.1 = 2) (e2 : t.2.2.2.2.1 < 8 ∧ t.2.2.2.2.2 < 8) : okT t := ⟨Or.inr (Or.inr e), fun z => by omega, fun _ => e2⟩
theorem okT_0 (hq : q < 8) : okT (t0 x q) := by
  unfold t0
  split
  · exact okT_c0 rfl
  · exact okT_c1 rfl hq
theorem mk_rg (hok : okA (A p 0) (A p 1) (A p 2) (A p 3)) (hm : mkP A p = true) (h1 : ¬ A p 0 = nI 1) : (∃ l, l < 8 ∧ A p 2 = nI l) ∧ (∃ l, l < 8 ∧ A p 3 = nI l) := by
  have hm : ¬ A p 0 < nI 1 ∧ ¬ nI 10 < A p 0 := of_decide_eq_true hm
  rcases okA_cases hok with ⟨e, ex, ey, ez⟩ | ⟨e, ex, ey, ez⟩ | ⟨i, hi, e, ex, ez⟩ | ⟨i, j, hi, hj2, e, ex, ey, ez⟩ | ⟨i, j, hi, hj2, e, ex, ey, ez⟩ | ⟨k, i, j, l, hk1, hk2, hi, hj2, hl, e, ex, ey, ez⟩ | ⟨i, hi, e, ex, ey, ez⟩ | ⟨j, hj2, e, ex, ey, ez⟩ | ⟨i, j, hi, hj2, e, ex, ey, ez⟩
  · exact ⟨⟨0, by omega, ey⟩, ⟨0, by omega, ez⟩⟩
  · exact ⟨⟨0, by omega, ey⟩, ⟨0, by omega, ez⟩⟩
  · exact absurd e h1
  · exact ⟨⟨j, hj2, ey⟩, ⟨0, by omega, ez⟩⟩
  · exact ⟨⟨j, hj2, ey⟩, ⟨0, by omega, ez⟩⟩
  · exact ⟨⟨j, hj2, ey⟩, ⟨l, hl, ez⟩⟩
  · exact ⟨⟨0, by omega, ey⟩, ⟨0, by omega, ez⟩⟩
  · rw [e] at hm; exact absurd hm (by decide)
  · rw [e] at hm; exact absurd hm (by decide)
theorem okT_m (hok : okA (A p 0) (A p 1) (A p 2) (A p 3)) (hm : mkP A p = true) : okT (tm x A p) := by
  unfold tm
  by_cases c1 : A p 0 = nI 1
  · rw [if_pos c1]
    exact okT_c0 rfl
  · rw [if_neg c1]
    obtain ⟨⟨y, hy, ey⟩, ⟨z, hz, ez⟩⟩ := mk_rg hok hm c1
    rw [ey, ez, cz_n (by omega), cz_n (by omega)]
    by_cases c2 : A p 0 = nI 2
    · rw [if_pos c2]; exact okT_0 hy
    · rw [if_neg c2]
      by_cases c3 : kn0 x A p = true
      · rw [if_pos c3]
        exact okT_c0 rfl
      · rw [if_neg c3]
        exact okT_c2 rfl ⟨hy, hz⟩
theorem okT_x (hok : okA (A p 0) (A p 1) (A p 2) (A p 3)) (hr : r < 8) : okT (tx x A p r) := by
  unfold tx
  by_cases c : (mkP A p && decide (cz (A p 1) = r)) = true
  · rw [if_pos c]
    have h2 : mkP A p = true := by
      simp only [Bool.and_eq_true] at c
      exact c.1
    exact okT_m hok h2
  · rw [if_neg c]; exact okT_0 hr
theorem fdx_lt : ∀ n i m, fdx W la lb p q n i = some m → i ≤ m ∧ m < i + n := by
  intro n
  induction n with
  | zero => intro i m hh; cases hh
  | succ n ih =>
    intro i m hh
    unfold fdx at hh
    split at hh
    · cases hh; exact ⟨Nat.le_refl _, by omega⟩
    · have := ih (i + 1) m hh
      exact ⟨by omega, by omega⟩
theorem fnd_lt (hh : fnd W la lb p q = some n) : n < W.1 := by
  have := (fdx_lt _ _ _ hh).2
  omega
theorem mnp_le : mnp len p ≤ len := by
  unfold mnp
  split <;> omega
theorem goes_le (hp0 : p < len) : goes x len A p ≤ len := by
  unfold goes
  split
  · exact Nat.le_refl _
  · split
    · exact tgP_le
    · omega
end C91
