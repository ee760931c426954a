/-! passes: pure; the memory of routines and witnesses -/
abbrev AA : Type := Nat → Nat → Int32
abbrev WR : Type := Nat × Nat × Nat × Nat × (Nat → Nat) × (Nat → Int64)
abbrev WS : Type := Nat × (Nat → WR)
def wap (W : WS) (x : WR) : WS := (W.1 + 1, fun i => if i = W.1 then x else W.2 i)
def w0 : WS := (0, fun _ => (0, 0, 0, 0, fun _ => 0, fun _ => 0))
def hasW (M : mm) (W : WS) : Prop := rI M 231 6 = nI W.1 ∧ ∀ i, i < W.1 → rI M 232 i = nI (W.2 i).1 ∧ rI M 233 i = nI (W.2 i).2.1 ∧ rI M 234 i = nI (W.2 i).2.2.1 ∧ rI M 235 i = nI (W.2 i).2.2.2.1 ∧ ∀ r, r < 8 → rI M 236 (i * 8 + r) = nI ((W.2 i).2.2.2.2.1 r) ∧ rL M 237 (i * 8 + r) = (W.2 i).2.2.2.2.2 r
def hasV (M : mm) (W : WS) : Prop := rI M 256 10 = nI W.1 ∧ ∀ i, i < W.1 → rI M 262 i = nI (W.2 i).1 ∧ rI M 263 i = nI (W.2 i).2.1 ∧ rI M 264 i = nI (W.2 i).2.2.1 ∧ rI M 265 i = nI (W.2 i).2.2.2.1 ∧ ∀ r, r < 8 → rI M 266 (8 * i + r) = nI ((W.2 i).2.2.2.2.1 r) ∧ rL M 267 (8 * i + r) = (W.2 i).2.2.2.2.2 r
def okW1 (x : WR) : Prop := x.1 < 51 ∧ x.2.1 < 51 ∧ x.2.2.1 < 3 ∧ x.2.2.2.1 ≤ 1000 ∧ ∀ r, r < 8 → x.2.2.2.2.1 r < 3 ∧ (¬ x.2.2.2.2.1 r = 2 → x.2.2.2.2.2 r = 0)
def okW (W : WS) : Prop := W.1 ≤ 200 ∧ ∀ i, i < W.1 → okW1 (W.2 i)
def acA (a x y z : Int32) (j : Nat) : Int32 := if j = 0 then a else if j = 1 then x else if j = 2 then y else z
def upA (A : AA) (p : Nat) (a x y z : Int32) : AA := fun q j => if q = p then acA a x y z j else A q j
def fdA (A : AA) (C : Nat → Bool) (F : KF) : AA := fun p j =>
  if C p = true then
    (if A p 0 = nI 13 then (match F p (cz (A p 1)) with
      | some v => if v = 0 then acA (nI 0) (nI 0) (nI 0) (nI 0) j else acA (nI 12) (nI 0) (A p 2) (nI 0) j
      | none => A p j)
    else if (A p 0 = nI 2 ∨ (¬ A p 0 < nI 3 ∧ ¬ nI 9 < A p 0)) then (match krs A p (F p) with
      | some v => if v = v.toInt32.toInt64 then acA (nI 1) (A p 1) v.toInt32 (nI 0) j else A p j
      | none => A p j)
    else A p j)
  else A p j
abbrev drK (a : Int32) : Prop := (¬ a < nI 1 ∧ ¬ nI 5 < a) ∨ a = nI 8 ∨ a = nI 9
def drA (A : AA) (S : Nat → Nat → Bool) : AA := fun p j => if drK (A p 0) ∧ S (p + 1) (cz (A p 1)) = false then nI 0 else A p j
def thA (len : Nat) (A : AA) : AA := fun p j => if jyP A p = true ∧ j = 2 then nI (ldR len A (tgP len A p)).1 else A p j
def pkA (len : Nat) (A : AA) : Nat → AA
  | 0 => fun _ _ => nI 0
  | p + 1 => if A p 0 = nI 0 then pkA len A p else upA (pkA len A p) (pkN A p) (A p 0) (A p 1) (if jyP A p = true then nI (pkN A (tgP len A p)) else A p 2) (A p 3)
def fwW (C : Nat → Bool) (F : KF) : Nat → WS
  | 0 => w0
  | p + 1 => if C p = true then wap (fwW C F p) (p, p, 0, 0, fun r => if r < 8 ∧ (F p r).isSome = true then 2 else 1, fun r => if r < 8 then (F p r).getD 0 else 0) else fwW C F p
def dwW (S : Nat → Nat → Bool) : Nat → WS
  | 0 => w0
  | p + 1 => wap (dwW S p) (p, p, 0, 0, fun r => if r < 8 ∧ S p r = true then 1 else 0, fun _ => 0)
def twA : Nat → WS
  | 0 => w0
  | p + 1 => wap (twA p) (p, p, 0, 0, fun _ => 1, fun _ => 0)
def twB (len : Nat) (A : AA) : Nat → WS
  | 0 => twA (len + 1)
  | p + 1 => if (ldR len A p).1 = p then twB len A p else wap (twB len A p) (p, (ldR len A p).1, 1, (ldR len A p).2, fun _ => 1, fun _ => 0)
def pwW (len : Nat) (A : AA) : Nat → WS
  | 0 => w0
  | p + 1 => wap (pwW len A p) (p, pkN A p, (if 0 < rw1 A (len - p) p then 1 else 0), rw1 A (len - p) p, fun _ => 1, fun _ => 0)
noncomputable def kSol (len : Nat) (A : AA) : (Nat → Bool) × KF := Classical.epsilon (fun s : (Nat → Bool) × KF => knL len A s.1 s.2)
noncomputable def lSol (len : Nat) (A : AA) : Nat → Nat → Bool := Classical.epsilon (fun S => lvL len A S)
noncomputable def psA (w len : Nat) (A : AA) : Nat × AA := if w = 0 then (len, fdA A (kSol len A).1 (kSol len A).2) else if w = 1 then (len, drA A (lSol len A)) else if w = 2 then (len, thA len A) else (pkN A len, pkA len A len)
noncomputable def psW (w len : Nat) (A : AA) : WS := if w = 0 then fwW (kSol len A).1 (kSol len A).2 (len + 1) else if w = 1 then dwW (lSol len A) (len + 1) else if w = 2 then twB len A len else pwW len A (len + 1)
section C80
variable {M M' : mm} {o len p q j r n : Nat} {A B : AA} {C : Nat → Bool} {F : KF} {S : Nat → Nat → Bool} {W : WS} {x : WR}
theorem kSol_ok (h : knL len A C F) : knL len A (kSol len A).1 (kSol len A).2 := Classical.epsilon_spec (p := fun s : (Nat → Bool) × KF => knL len A s.1 s.2) ⟨(C, F), h⟩
theorem lSol_ok (h : lvL len A S) : lvL len A (lSol len A) := Classical.epsilon_spec (p := fun S => lvL len A S) ⟨S, h⟩
theorem acA_self : acA (A p 0) (A p 1) (A p 2) (A p 3) j = A p j ∨ 4 ≤ j := by
  unfold acA
  by_cases h0 : j = 0
  · subst h0; exact Or.inl rfl
  by_cases h1 : j = 1
  · subst h1; exact Or.inl rfl
  by_cases h2 : j = 2
  · subst h2; exact Or.inl rfl
  by_cases h3 : j = 3
  · subst h3; exact Or.inl rfl
  exact Or.inr (by omega)
theorem kbhF_one {f f' : Nat → Option Int64} (hok : okA (A p 0) (A p 1) (A p 2) (A p 3)) (h : ∀ r, r < 8 → f r = f' r) : krs A p f = krs A p f' := by
  obtain ⟨g1, g2, g3, g4, g5, g6⟩ := okA_rg hok
  unfold krs
  split
  · rfl
  · split
    · rename_i c; exact h _ (g3 c)
    · split
      · rename_i c; rw [h _ (g4 c).1, h _ (g4 c).2]
      · rfl
theorem fdA_one (hok : okR len A) (h : knL len A C F) (hp0 : p < len) : fdA A C F p j = fdA A (kSol len A).1 (kSol len A).2 p j := by
  obtain ⟨e1, e2⟩ := knL_one h (kSol_ok h) (p := p) (by omega)
  unfold fdA
  rw [e1, kbhF_one (hok.2 p hp0) e2]
  by_cases c : A p 0 = nI 13
  · rw [e2 _ ((okA_rg (hok.2 p hp0)).2.2.2.2.1 c)]
  · rw [if_neg c, if_neg c]
theorem fwW_one (h : knL len A C F) : ∀ p, p ≤ len + 1 → fwW C F p = fwW (kSol len A).1 (kSol len A).2 p := by
  intro p
  induction p with
  | zero => intro _; rfl
  | succ p ih =>
    intro hp0
    obtain ⟨e1, e2⟩ := knL_one h (kSol_ok h) (p := p) (by omega)
    unfold fwW
    rw [ih (by omega), e1]
    have k1 : (fun r => if r < 8 ∧ (F p r).isSome = true then 2 else 1) = (fun r => if r < 8 ∧ ((kSol len A).2 p r).isSome = true then 2 else 1) := by
      funext r
      by_cases hr : r < 8
      · rw [e2 r hr]
      · rw [if_neg (fun z => hr z.1), if_neg (fun z => hr z.1)]
    have k2 : (fun r => if r < 8 then (F p r).getD 0 else 0) = (fun r => if r < 8 then ((kSol len A).2 p r).getD 0 else 0) := by
      funext r
      by_cases hr : r < 8
      · rw [e2 r hr]
      · rw [if_neg hr, if_neg hr]
    rw [k1, k2]
theorem drK_rg (hok : okA (A p 0) (A p 1) (A p 2) (A p 3)) (h : drK (A p 0)) : ∃ l, l < 8 ∧ A p 1 = nI l := by
  refine (okA_rn hok).2.2.2.2.2.1 ?_
  unfold mkP
  refine decide_eq_true ?_
  rcases h with h | h | h
  · refine ⟨h.1, fun z => h.2 ?_⟩
    simp only [Int32.lt_iff_toInt_lt, show (nI 5).toInt = 5 from by decide, show (nI 10).toInt = 10 from by decide] at z ⊢
    omega
  · rw [h]; decide
  · rw [h]; decide
theorem drA_one (hok : okR len A) (h : lvL len A S) (hp0 : p < len) : drA A S p j = drA A (lSol len A) p j := by
  unfold drA
  by_cases c : drK (A p 0)
  · obtain ⟨l, hl, e⟩ := drK_rg (hok.2 p hp0) c
    rw [e, cz_n (by omega), lvL_one h (lSol_ok h) (show p + 1 ≤ len by omega) hl]
  · rw [if_neg (fun z => c z.1), if_neg (fun z => c z.1)]
theorem dwW_one (h : lvL len A S) : ∀ p, p ≤ len + 1 → dwW S p = dwW (lSol len A) p := by
  intro p
  induction p with
  | zero => intro _; rfl
  | succ p ih =>
    intro hp0
    unfold dwW
    rw [ih (by omega)]
    have k1 : (fun r => if r < 8 ∧ S p r = true then 1 else 0) = (fun r => if r < 8 ∧ lSol len A p r = true then 1 else 0) := by
      funext r
      by_cases hr : r < 8
      · rw [lvL_one h (lSol_ok h) (show p ≤ len by omega) hr]
      · rw [if_neg (fun z => hr z.1), if_neg (fun z => hr z.1)]
    rw [k1]
/-! memory -/
theorem hasR_cong (h : hasR M o len A) (he : ∀ q, q < len → ∀ j, j < 4 → A q j = B q j) : hasR M o len B := by
  refine ⟨h.1, fun p hp0 => ?_⟩
  obtain ⟨a, b, c, d⟩ := h.2 p hp0
  exact ⟨a.trans (he p hp0 0 (by omega)), b.trans (he p hp0 1 (by omega)), c.trans (he p hp0 2 (by omega)), d.trans (he p hp0 3 (by omega))⟩
theorem hasM_cong (h : hasM M r len A) (he : ∀ q, q < len → ∀ j, j < 4 → A q j = B q j) : hasM M r len B := ⟨h.1, fun p hp0 j hj => (h.2 p hp0 j hj).trans (he p hp0 j hj)⟩
theorem puA_o {a x y z : Int32} {i k : Nat} (h : ¬ (o + 1 ≤ i ∧ i ≤ o + 4 ∧ k = p)) : rI (puA M o p a x y z) i k = rI M i k := by
  unfold puA
  rw [rI_wI, if_neg (by omega), rI_wI, if_neg (by omega), rI_wI, if_neg (by omega), rI_wI, if_neg (by omega)]
theorem puA_1 {a x y z : Int32} : rI (puA M o p a x y z) (o + 1) p = a ∧ rI (puA M o p a x y z) (o + 2) p = x ∧ rI (puA M o p a x y z) (o + 3) p = y ∧ rI (puA M o p a x y z) (o + 4) p = z := by
  unfold puA
  refine ⟨?_, ?_, ?_, ?_⟩
  · rw [rI_wI, if_neg (by omega), rI_wI, if_neg (by omega), rI_wI, if_neg (by omega), rI_wI, if_pos ⟨rfl, rfl⟩]
  · rw [rI_wI, if_neg (by omega), rI_wI, if_neg (by omega), rI_wI, if_pos ⟨rfl, rfl⟩]
  · rw [rI_wI, if_neg (by omega), rI_wI, if_pos ⟨rfl, rfl⟩]
  · rw [rI_wI, if_pos ⟨rfl, rfl⟩]
theorem hasR_pu {a x y z : Int32} (h : hasR M o len B) : hasR (puA M o p a x y z) o len (upA B p a x y z) := by
  refine ⟨(puA_o (by omega)).trans h.1, fun q hq => ?_⟩
  unfold upA
  by_cases e : q = p
  · subst e
    simp only [if_true]
    exact puA_1
  · simp only [if_neg e]
    obtain ⟨a1, a2, a3, a4⟩ := h.2 q hq
    exact ⟨(puA_o (by omega)).trans a1, (puA_o (by omega)).trans a2, (puA_o (by omega)).trans a3, (puA_o (by omega)).trans a4⟩
abbrev rtP (o i _k : Nat) : Prop := o ≤ i ∧ i ≤ o + 4
theorem sv_puA {a x y z : Int32} : sv (rtP o) M (puA M o p a x y z) := by
  unfold puA
  exact sv_wI (sv_wI (sv_wI (sv_wI sv_refl (by unfold rtP; omega)) (by unfold rtP; omega)) (by unfold rtP; omega)) (by unfold rtP; omega)
theorem hasR_cp {o2 : Nat} (hne : o2 + 4 < o ∨ o + 4 < o2) (h : hasR M o2 len A) : hasR (cpR M o o2 len) o len A ∧ sv (rtP o) M (cpR M o o2 len) := by
  have e : ∀ i k, rI (cpA M o o2 len) i k = (if o + 1 ≤ i ∧ i ≤ o + 4 ∧ k < len then rI M (o2 + (i - o)) k else rI M i k) := fun _ _ => rfl
  have hs : sv (rtP o) M (cpA M o o2 len) := ⟨fun i k hi => ⟨by rw [e, if_neg (by unfold rtP at hi; omega)], rfl, rfl⟩, rfl⟩
  unfold cpR
  refine ⟨⟨by rw [rI_wI, if_pos ⟨rfl, rfl⟩], fun p hp0 => ?_⟩, sv_wI hs (by unfold rtP; omega)⟩
  · obtain ⟨a1, a2, a3, a4⟩ := h.2 p hp0
    refine ⟨?_, ?_, ?_, ?_⟩
    · rw [rI_wI, if_neg (by omega), e, if_pos (by omega), show o + 1 - o = 1 by omega]; exact a1
    · rw [rI_wI, if_neg (by omega), e, if_pos (by omega), show o + 2 - o = 2 by omega]; exact a2
    · rw [rI_wI, if_neg (by omega), e, if_pos (by omega), show o + 3 - o = 3 by omega]; exact a3
    · rw [rI_wI, if_neg (by omega), e, if_pos (by omega), show o + 4 - o = 4 by omega]; exact a4
theorem sv_hasR {P : Nat → Nat → Prop} (h : sv P M M') (hP : ∀ j k, j ≤ 4 → ¬ P (o + j) k) (hR : hasR M o len A) : hasR M' o len A := by
  refine ⟨(sv_I h (hP 0 _ (by omega))).trans hR.1, fun p hp0 => ?_⟩
  obtain ⟨b1, b2, b3, b4⟩ := hR.2 p hp0
  exact ⟨(sv_I h (hP 1 _ (by omega))).trans b1, (sv_I h (hP 2 _ (by omega))).trans b2, (sv_I h (hP 3 _ (by omega))).trans b3, (sv_I h (hP 4 _ (by omega))).trans b4⟩
abbrev wtP (n i k : Nat) : Prop := i = 231 ∧ k = 6 ∨ 232 ≤ i ∧ i ≤ 235 ∧ k = n ∨ 236 ≤ i ∧ i ≤ 237 ∧ n * 8 ≤ k ∧ k < n * 8 + 8
abbrev wiP (i _k : Nat) : Prop := 231 ≤ i ∧ i ≤ 237
/-- a pair more in the class's witness -/
theorem hasW_ap (h : hasW M W) (hv : sv (wtP W.1) M M') (h6 : rI M' 231 6 = nI (W.1 + 1)) (a : rI M' 232 W.1 = nI x.1) (b : rI M' 233 W.1 = nI x.2.1) (c : rI M' 234 W.1 = nI x.2.2.1) (e : rI M' 235 W.1 = nI x.2.2.2.1) (f : ∀ r, r < 8 → rI M' 236 (W.1 * 8 + r) = nI (x.2.2.2.2.1 r) ∧ rL M' 237 (W.1 * 8 + r) = x.2.2.2.2.2 r) : hasW M' (wap W x) := by
  refine ⟨h6, fun i hi => ?_⟩
  have hi : i < W.1 + 1 := hi
  unfold wap
  by_cases e1 : i = W.1
  · subst e1
    simp only [if_true]
    exact ⟨a, b, c, e, f⟩
  · simp only [if_neg e1]
    obtain ⟨a1, a2, a3, a4, a5⟩ := h.2 i (by omega)
    exact ⟨(sv_I hv (by unfold wtP; omega)).trans a1, (sv_I hv (by unfold wtP; omega)).trans a2, (sv_I hv (by unfold wtP; omega)).trans a3, (sv_I hv (by unfold wtP; omega)).trans a4, fun r hr => ⟨(sv_I hv (by unfold wtP; omega)).trans (a5 r hr).1, (sv_L hv (by unfold wtP; omega)).trans (a5 r hr).2⟩⟩
theorem wt_wi (hn : n < 200) (h : sv (wtP n) M M') : sv wiP M M' := sv_mono h (fun i k h => by unfold wtP at h; unfold wiP; omega)
/-- the witness's cells after append -/
theorem sv_wA {w : Nat} {f s m e : Int32} : sv (wtP w) M (wA w f s m e M) := by
  unfold wA
  exact sv_wI (sv_wI (sv_wI (sv_wI (sv_wI sv_refl (by unfold wtP; omega)) (by unfold wtP; omega)) (by unfold wtP; omega)) (by unfold wtP; omega)) (by unfold wtP; omega)
theorem wA_v {w : Nat} {f s m e : Int32} : rI (wA w f s m e M) 231 6 = nI (w + 1) ∧ rI (wA w f s m e M) 232 w = f ∧ rI (wA w f s m e M) 233 w = s ∧ rI (wA w f s m e M) 234 w = m ∧ rI (wA w f s m e M) 235 w = e := by
  unfold wA
  refine ⟨?_, ?_, ?_, ?_, ?_⟩
  · rw [rI_wI, if_neg (by omega), rI_wI, if_neg (by omega), rI_wI, if_neg (by omega), rI_wI, if_neg (by omega), rI_wI, if_pos ⟨rfl, rfl⟩]
  · rw [rI_wI, if_neg (by omega), rI_wI, if_neg (by omega), rI_wI, if_neg (by omega), rI_wI, if_pos ⟨rfl, rfl⟩]
  · rw [rI_wI, if_neg (by omega), rI_wI, if_neg (by omega), rI_wI, if_pos ⟨rfl, rfl⟩]
  · rw [rI_wI, if_neg (by omega), rI_wI, if_pos ⟨rfl, rfl⟩]
  · rw [rI_wI, if_pos ⟨rfl, rfl⟩]
abbrev wcP (n i k : Nat) : Prop := 236 ≤ i ∧ i ≤ 237 ∧ n * 8 ≤ k ∧ k < n * 8 + 8
theorem sv_cS {w : Nat} {c : Nat → Int32} {v : Nat → Int64} : ∀ j, j ≤ 8 → sv (wcP w) M (itr (fun r => cS w r (c r) (v r)) j M) ∧ ∀ r, r < j → rI (itr (fun r => cS w r (c r) (v r)) j M) 236 (w * 8 + r) = c r ∧ rL (itr (fun r => cS w r (c r) (v r)) j M) 237 (w * 8 + r) = if c r = nI 2 then v r else 0 := by
  intro j
  induction j with
  | zero => intro _; exact ⟨sv_refl, fun r hr => by omega⟩
  | succ j ih =>
    intro hj
    obtain ⟨h1, h2⟩ := ih (by omega)
    show sv (wcP w) M (cS w j (c j) (v j) (itr (fun r => cS w r (c r) (v r)) j M)) ∧ ∀ r, r < j + 1 → rI (cS w j (c j) (v j) (itr (fun r => cS w r (c r) (v r)) j M)) 236 (w * 8 + r) = c r ∧ rL (cS w j (c j) (v j) (itr (fun r => cS w r (c r) (v r)) j M)) 237 (w * 8 + r) = if c r = nI 2 then v r else 0
    unfold cS
    refine ⟨sv_wL (sv_wI h1 (by unfold wcP; omega)) (by unfold wcP; omega), fun r hr => ?_⟩
    by_cases e : r = j
    · subst e
      exact ⟨by rw [rI_wL, rI_wI, if_pos ⟨rfl, rfl⟩], by rw [rL_wL, if_pos ⟨rfl, rfl⟩]⟩
    · obtain ⟨g1, g2⟩ := h2 r (by omega)
      exact ⟨by rw [rI_wL, rI_wI, if_neg (by omega)]; exact g1, by rw [rL_wL, if_neg (by omega), rL_wI]; exact g2⟩
/-- append and then claims -/
theorem hasW_cl (h : hasW M W) {f s m e : Nat} {c c0 : Nat → Int32} {v v0 : Nat → Int64} (hx : x.1 = f ∧ x.2.1 = s ∧ x.2.2.1 = m ∧ x.2.2.2.1 = e) (hc : ∀ r, r < 8 → c r = nI (x.2.2.2.2.1 r) ∧ (if c r = nI 2 then v r else 0) = x.2.2.2.2.2 r) : hasW (itr (fun r => cS W.1 r (c r) (v r)) 8 (itr (fun r => cS W.1 r (c0 r) (v0 r)) 8 (wA W.1 (nI f) (nI s) (nI m) (nI e) M))) (wap W x) ∧ sv (wtP W.1) M (itr (fun r => cS W.1 r (c r) (v r)) 8 (itr (fun r => cS W.1 r (c0 r) (v0 r)) 8 (wA W.1 (nI f) (nI s) (nI m) (nI e) M))) := by
  obtain ⟨rfl, rfl, rfl, rfl⟩ := hx
  obtain ⟨a1, a2⟩ := sv_cS (M := wA W.1 (nI x.1) (nI x.2.1) (nI x.2.2.1) (nI x.2.2.2.1) M) (w := W.1) (c := c0) (v := v0) 8 (by omega)
  obtain ⟨b1, b2⟩ := sv_cS (M := itr (fun r => cS W.1 r (c0 r) (v0 r)) 8 (wA W.1 (nI x.1) (nI x.2.1) (nI x.2.2.1) (nI x.2.2.2.1) M)) (w := W.1) (c := c) (v := v) 8 (by omega)
  obtain ⟨e1, e2, e3, e4, e5⟩ := wA_v (M := M) (w := W.1) (f := nI x.1) (s := nI x.2.1) (m := nI x.2.2.1) (e := nI x.2.2.2.1)
  have hv := sv_trans a1 b1
  have hv2 : sv (wtP W.1) M (itr (fun r => cS W.1 r (c r) (v r)) 8 (itr (fun r => cS W.1 r (c0 r) (v0 r)) 8 (wA W.1 (nI x.1) (nI x.2.1) (nI x.2.2.1) (nI x.2.2.2.1) M))) := sv_trans sv_wA (sv_mono hv (fun i k h => by unfold wcP at h; unfold wtP; omega))
  refine ⟨hasW_ap h hv2 ((sv_I hv (by unfold wcP; omega)).trans e1) ((sv_I hv (by unfold wcP; omega)).trans e2) ((sv_I hv (by unfold wcP; omega)).trans e3) ((sv_I hv (by unfold wcP; omega)).trans e4) ((sv_I hv (by unfold wcP; omega)).trans e5) (fun r hr => ?_), hv2⟩
  exact ⟨(b2 r hr).1.trans (hc r hr).1, (b2 r hr).2.trans (hc r hr).2⟩
end C80
