/-! the memory: the cells' fixed shape, what they hold -/
abbrev mm : Type := (Nat → Nat → Int32) × (Nat → Nat → Int64) × (Nat → Nat → Nat) × Nat × (Nat → Int32)
def rI (M : mm) (i k : Nat) : Int32 := M.1 i k
def rL (M : mm) (i k : Nat) : Int64 := M.2.1 i k
def rR (M : mm) (i k : Nat) : Nat := M.2.2.1 i k
def u2 {α : Type} (f : Nat → Nat → α) (i k : Nat) (v : α) : Nat → Nat → α := fun i2 k2 => if i2 = i ∧ k2 = k then v else f i2 k2
def wI (M : mm) (i k : Nat) (v : Int32) : mm := (u2 M.1 i k v, M.2)
def wL (M : mm) (i k : Nat) (v : Int64) : mm := (M.1, u2 M.2.1 i k v, M.2.2)
def wR (M : mm) (i k : Nat) (v : Nat) : mm := (M.1, M.2.1, u2 M.2.2.1 i k v, M.2.2.2)
theorem rI_wI (M : mm) (i k : Nat) (v : Int32) (i2 k2 : Nat) : rI (wI M i k v) i2 k2 = if i2 = i ∧ k2 = k then v else rI M i2 k2 := rfl
theorem rI_wL (M : mm) (i k : Nat) (v : Int64) (i2 k2 : Nat) : rI (wL M i k v) i2 k2 = rI M i2 k2 := rfl
theorem rI_wR (M : mm) (i k : Nat) (v : Nat) (i2 k2 : Nat) : rI (wR M i k v) i2 k2 = rI M i2 k2 := rfl
theorem rL_wL (M : mm) (i k : Nat) (v : Int64) (i2 k2 : Nat) : rL (wL M i k v) i2 k2 = if i2 = i ∧ k2 = k then v else rL M i2 k2 := rfl
theorem rL_wI (M : mm) (i k : Nat) (v : Int32) (i2 k2 : Nat) : rL (wI M i k v) i2 k2 = rL M i2 k2 := rfl
theorem rL_wR (M : mm) (i k : Nat) (v : Nat) (i2 k2 : Nat) : rL (wR M i k v) i2 k2 = rL M i2 k2 := rfl
theorem rR_wR (M : mm) (i k : Nat) (v : Nat) (i2 k2 : Nat) : rR (wR M i k v) i2 k2 = if i2 = i ∧ k2 = k then v else rR M i2 k2 := rfl
theorem rR_wI (M : mm) (i k : Nat) (v : Int32) (i2 k2 : Nat) : rR (wI M i k v) i2 k2 = rR M i2 k2 := rfl
theorem rR_wL (M : mm) (i k : Nat) (v : Int64) (i2 k2 : Nat) : rR (wL M i k v) i2 k2 = rR M i2 k2 := rfl
def hs (W : Nat × (Nat → Int32)) (i : Nat) (fi : Nat → Int32) (fl : Nat → Int64) (fr : Nat → Nat) : mj_X :=
  if i = 0 then .inl (.int, W.1, .inl W.2) else if i < 3 then (if i = 1 then .inr (9, [.ref 2, .int (fi 1), .ref 203, .ref 210, .ref 212, .ref 227, .ref 231, .ref 238]) else .inl (.object "PassCourt$Routine", 40, .inr (.inr (.inr (.inr (fun j => if j < 40 then some (3 + 5 * j) else none)))))) else if i < 203 then (if (i - 3) % 5 = 0 then .inr (6, [.ref (i + 1), .ref (i + 2), .ref (i + 3), .ref (i + 4), .int (fi 4)]) else .inl (.int, 50, .inl fi)) else match i - 203 with
  | 0 => .inr (1, [.ref 204, .ref 205, .ref 206, .ref 207, .int (fi 4), .ref 208, .ref 209])
  | 1 => .inl (.boolean, 51, .inl fi)
  | 2 => .inl (.boolean, 408, .inl fi)
  | 3 => .inl (.long, 408, .inr (.inl fl))
  | 4 => .inl (.boolean, 51, .inl fi)
  | 5 => .inl (.boolean, 8, .inl fi)
  | 6 => .inl (.long, 8, .inr (.inl fl))
  | 7 => .inr (3, [.ref 211])
  | 8 => .inl (.int, 51, .inl fi)
  | 9 => .inr (4, [.ref 203, .ref 210, .ref 213, .ref 216, .ref 217, .ref 222])
  | 10 => .inr (2, [.ref 214, .ref 215])
  | 11 => .inl (.int, 51, .inl fi)
  | 12 => .inl (.int, 51, .inl fi)
  | 13 => .inl (.int, 51, .inl fi)
  | 14 => .inr (6, [.ref 218, .ref 219, .ref 220, .ref 221, .int (fi 4)])
  | 15 => .inl (.int, 50, .inl fi)
  | 16 => .inl (.int, 50, .inl fi)
  | 17 => .inl (.int, 50, .inl fi)
  | 18 => .inl (.int, 50, .inl fi)
  | 19 => .inr (6, [.ref 223, .ref 224, .ref 225, .ref 226, .int (fi 4)])
  | 20 => .inl (.int, 50, .inl fi)
  | 21 => .inl (.int, 50, .inl fi)
  | 22 => .inl (.int, 50, .inl fi)
  | 23 => .inl (.int, 50, .inl fi)
  | 24 => .inr (5, [.ref 228, .int (fi 1), .ref 229, .ref 230, .int (fi 4), .int (fi 5), .int (fi 6)])
  | 25 => .inl (.long, 16, .inr (.inl fl))
  | 26 => .inl (.long, 8, .inr (.inl fl))
  | 27 => .inl (.long, 200, .inr (.inl fl))
  | 28 => .inr (8, [.ref 232, .ref 233, .ref 234, .ref 235, .ref 236, .ref 237, .int (fi 6)])
  | 29 => .inl (.int, 200, .inl fi)
  | 30 => .inl (.int, 200, .inl fi)
  | 31 => .inl (.int, 200, .inl fi)
  | 32 => .inl (.int, 200, .inl fi)
  | 33 => .inl (.int, 1600, .inl fi)
  | 34 => .inl (.long, 1600, .inr (.inl fl))
  | 35 => .inr (0, [.ref 231, .ref 239, .ref 247, .ref 255, .int (fi 4)])
  | 36 => .inr (7, [.int (fi 0), .ref (fr 1), .int (fi 2), .ref 245, .ref 246, .int (fi 5), .int (fi 6), .long (fl 7), .int (fi 8), .long (fl 9)])
  | 37 => .inr (6, [.ref 241, .ref 242, .ref 243, .ref 244, .int (fi 4)])
  | 38 => .inl (.int, 50, .inl fi)
  | 39 => .inl (.int, 50, .inl fi)
  | 40 => .inl (.int, 50, .inl fi)
  | 41 => .inl (.int, 50, .inl fi)
  | 42 => .inl (.int, 8, .inl fi)
  | 43 => .inl (.long, 8, .inr (.inl fl))
  | 44 => .inr (7, [.int (fi 0), .ref (fr 1), .int (fi 2), .ref 253, .ref 254, .int (fi 5), .int (fi 6), .long (fl 7), .int (fi 8), .long (fl 9)])
  | 45 => .inr (6, [.ref 249, .ref 250, .ref 251, .ref 252, .int (fi 4)])
  | 46 => .inl (.int, 50, .inl fi)
  | 47 => .inl (.int, 50, .inl fi)
  | 48 => .inl (.int, 50, .inl fi)
  | 49 => .inl (.int, 50, .inl fi)
  | 50 => .inl (.int, 8, .inl fi)
  | 51 => .inl (.long, 8, .inr (.inl fl))
  | 52 => .inl (.int, 2601, .inl fi)
  | 53 => .inr (10, [.int (fi 0), .ref 257, .ref 258, .ref 259, .int (fi 4), .ref 260, .ref 261, .int (fi 7), .int (fi 8), .int (fi 9), .int (fi 10), .ref 262, .ref 263, .ref 264, .ref 265, .ref 266, .ref 267, .int (fi 17), .int (fi 18), .ref 268, .ref 269, .ref 270, .int (fi 22), .long (fl 23), .ref 271, .int (fi 25), .int (fi 26), .int (fi 27), .int (fi 28), .ref 272, .ref 273, .ref 274, .ref 275, .ref 276, .ref 277])
  | 54 => .inl (.int, 44, .inl fi)
  | 55 => .inl (.int, 8800, .inl fi)
  | 56 => .inl (.long, 16, .inr (.inl fl))
  | 57 => .inl (.long, 8, .inr (.inl fl))
  | 58 => .inl (.long, 200, .inr (.inl fl))
  | 59 => .inl (.int, 200, .inl fi)
  | 60 => .inl (.int, 200, .inl fi)
  | 61 => .inl (.int, 200, .inl fi)
  | 62 => .inl (.int, 200, .inl fi)
  | 63 => .inl (.int, 1600, .inl fi)
  | 64 => .inl (.long, 1600, .inr (.inl fl))
  | 65 => .inl (.boolean, 51, .inl fi)
  | 66 => .inl (.int, 408, .inl fi)
  | 67 => .inl (.long, 408, .inr (.inl fl))
  | 68 => .inl (.boolean, 408, .inl fi)
  | 69 => .inl (.int, 2, .inl fi)
  | 70 => .inl (.int, 2, .inl fi)
  | 71 => .inl (.int, 2, .inl fi)
  | 72 => .inl (.int, 2, .inl fi)
  | 73 => .inl (.int, 2, .inl fi)
  | 74 => .inl (.long, 2, .inr (.inl fl))
  | _ => mj_dd
def hp (M : mm) : mj_H := (277, 31508, fun i => hs M.2.2.2 i (rI M i) (rL M i) (rR M i))
theorem hp_at (M : mm) (a : Nat) : (hp M).2.2 a = hs M.2.2.2 a (rI M a) (rL M a) (rR M a) := rfl
theorem hp_1 (M : mm) : (hp M).1 = 277 := rfl
theorem hp_2 (M : mm) : (hp M).2.1 = 31508 := rfl
theorem hp_up {M : mm} {a : Nat} {x : mj_X} (M' : mm) (h1 : hs M'.2.2.2 a (rI M' a) (rL M' a) (rR M' a) = x) (h2 : ∀ i, i ≠ a → hs M'.2.2.2 i (rI M' i) (rL M' i) (rR M' i) = hs M.2.2.2 i (rI M i) (rL M i) (rR M i)) : mj_up (hp M) a x = hp M' := by
  refine congrArg (fun z => ((hp M).1, (hp M).2.1, z)) (funext fun i => ?_)
  by_cases h : i = a
  · subst h
    simp only [va_up, if_true]
    exact h1.symm
  · simp only [va_up, h, if_false]
    exact (h2 i h).symm
theorem rI_row {M : mm} {a k i : Nat} {v : Int32} (h : i ≠ a) : rI (wI M a k v) i = rI M i := funext fun j => by simp [rI_wI, h]
theorem rL_row {M : mm} {a k i : Nat} {v : Int64} (h : i ≠ a) : rL (wL M a k v) i = rL M i := funext fun j => by simp [rL_wL, h]
theorem rR_row {M : mm} {a k i : Nat} {v : Nat} (h : i ≠ a) : rR (wR M a k v) i = rR M i := funext fun j => by simp [rR_wR, h]
theorem rI_own {M : mm} {a k : Nat} {v : Int32} : rI (wI M a k v) a = upd (rI M a) k v := funext fun j => by simp [rI_wI, upd]
theorem rL_own {M : mm} {a k : Nat} {v : Int64} : rL (wL M a k v) a = vp_updL (rL M a) k v := funext fun j => by simp [rL_wL, vp_updL]
theorem rR_own {M : mm} {a k : Nat} {v : Nat} : rR (wR M a k v) a = va_up (rR M a) k v := funext fun j => by simp [rR_wR, va_up]
def zv (x : Int32) : Int32 := vp_nar .boolean x
theorem zv_0 : zv (nI 0) = nI 0 := by decide
theorem zv_1 : zv (nI 1) = nI 1 := by decide
theorem zv_b (P : Prop) [Decidable P] : zv (bI P) = bI P := by unfold bI; split <;> decide
theorem zb_0 : mj_zb (nI 0) := by unfold mj_zb mj_nr; decide
theorem zb_1 : mj_zb (nI 1) := by unfold mj_zb mj_nr; decide
theorem zb_b (P : Prop) [Decidable P] : mj_zb (bI P) := by unfold bI; split; exact zb_1; exact zb_0
theorem zv_of {x : Int32} (h : mj_zb x) : zv x = x := by
  have h : narrow .boolean (.int x) = .int x := h
  unfold zv vp_nar
  rw [h]
theorem bI_0 {P : Prop} [Decidable P] : (bI P = nI 0) ↔ ¬ P := by unfold bI; by_cases h : P <;> simp [h] <;> decide
theorem bI_1 {P : Prop} [Decidable P] : (bI P = nI 1) ↔ P := by unfold bI; by_cases h : P <;> simp [h] <;> decide
theorem bI_t {P : Prop} [Decidable P] (h : P) : bI P = nI 1 := if_pos h
theorem bI_f {P : Prop} [Decidable P] (h : ¬ P) : bI P = nI 0 := if_neg h
theorem nI_1_0 : (nI 1 = nI 0) ↔ False := by decide
theorem zb_or {x : Int32} (h : mj_zb x) : x = nI 0 ∨ x = nI 1 := by
  have h : narrow .boolean (.int x) = .int x := h
  have h2 : x &&& 1 = x := by simpa [narrow] using h
  have h3 := pk_and x (m := 1) 1 (by decide)
  rw [h2] at h3
  rcases (show x.toBitVec.toNat % 2 ^ 1 = 0 ∨ x.toBitVec.toNat % 2 ^ 1 = 1 by omega) with e | e
  · left; rw [h3, e]
  · right; rw [h3, e]
theorem mj_ok_i {t : FieldType} {v : Int32} (h : t = .int) : mj_ok t (.int v) = true := by subst h; simp [mj_ok, narrow, fits]
theorem mj_ok_l {t : FieldType} {v : Int64} (h : t = .long) : mj_ok t (.long v) = true := by subst h; simp [mj_ok, narrow, fits]
theorem mj_ok_r {t : FieldType} {v : Nat} {n : String} (h : t = .object n) : mj_ok t (.ref v) = true := by subst h; simp [mj_ok, narrow, fits]
section HP
variable {M : mm} {a n k : Nat}
theorem ai_of (hc : (hp M).2.2 a = .inl (.int, n, .inl (rI M a))) (hn : n ≤ 10000) (h : k < n) : mj_ai (hp M) a (nI k) = some (rI M a k) := by
  have e := nI_clamp (n := k) (by omega)
  unfold mj_ai
  rw [hc]
  show (if nI k < 0 ∨ n ≤ (nI k).toNatClampNeg then none else some (rI M a (nI k).toNatClampNeg)) = _
  rw [if_neg (fun z => z.elim (nI_pos (by omega)) (fun z => by omega)), e]
theorem az_of (hc : (hp M).2.2 a = .inl (.boolean, n, .inl (rI M a))) (hn : n ≤ 10000) (h : k < n) : mj_az (hp M) a (nI k) = some (rI M a k) := by
  have e := nI_clamp (n := k) (by omega)
  unfold mj_az
  rw [hc]
  show (if nI k < 0 ∨ n ≤ (nI k).toNatClampNeg then none else some (rI M a (nI k).toNatClampNeg)) = _
  rw [if_neg (fun z => z.elim (nI_pos (by omega)) (fun z => by omega)), e]
theorem al_of (hc : (hp M).2.2 a = .inl (.long, n, .inr (.inl (rL M a)))) (hn : n ≤ 10000) (h : k < n) : mj_al (hp M) a (nI k) = some (rL M a k) := by
  have e := nI_clamp (n := k) (by omega)
  unfold mj_al
  rw [hc]
  show (if nI k < 0 ∨ n ≤ (nI k).toNatClampNeg then none else some (rL M a (nI k).toNatClampNeg)) = _
  rw [if_neg (fun z => z.elim (nI_pos (by omega)) (fun z => by omega)), e]
theorem wi_of {v : Int32} (ha : a ≠ 0) (hc : ∀ fi fl fr, hs M.2.2.2 a fi fl fr = .inl (.int, n, .inl fi)) (hn : n ≤ 10000) (h : k < n) : mj_wi (hp M) a (nI k) v = some (hp (wI M a k v)) := by
  have e := nI_clamp (n := k) (by omega)
  unfold mj_wi
  rw [hp_at, hc]
  show (if a = 0 ∨ nI k < 0 ∨ n ≤ (nI k).toNatClampNeg then none else some (mj_up (hp M) a (.inl (.int, n, .inl (upd (rI M a) (nI k).toNatClampNeg v))))) = _
  rw [if_neg (fun z => z.elim ha (fun z => z.elim (nI_pos (by omega)) (fun z => by omega))), e]
  refine congrArg some (hp_up (wI M a k v) ?_ (fun i hi => ?_))
  · rw [rI_own]; exact hc _ _ _
  · rw [rI_row hi]; rfl
theorem wz_of {v : Int32} (ha : a ≠ 0) (hc : ∀ fi fl fr, hs M.2.2.2 a fi fl fr = .inl (.boolean, n, .inl fi)) (hn : n ≤ 10000) (h : k < n) : mj_wz (hp M) a (nI k) v = some (hp (wI M a k (zv v))) := by
  have e := nI_clamp (n := k) (by omega)
  unfold mj_wz
  rw [hp_at, hc]
  show (if a = 0 ∨ nI k < 0 ∨ n ≤ (nI k).toNatClampNeg then none else some (mj_up (hp M) a (.inl (.boolean, n, .inl (upd (rI M a) (nI k).toNatClampNeg (vp_nar .boolean v)))))) = _
  rw [if_neg (fun z => z.elim ha (fun z => z.elim (nI_pos (by omega)) (fun z => by omega))), e]
  refine congrArg some (hp_up (wI M a k (zv v)) ?_ (fun i hi => ?_))
  · rw [rI_own]; exact hc _ _ _
  · rw [rI_row hi]; rfl
theorem wl_of {v : Int64} (ha : a ≠ 0) (hc : ∀ fi fl fr, hs M.2.2.2 a fi fl fr = .inl (.long, n, .inr (.inl fl))) (hn : n ≤ 10000) (h : k < n) : mj_wl (hp M) a (nI k) v = some (hp (wL M a k v)) := by
  have e := nI_clamp (n := k) (by omega)
  unfold mj_wl
  rw [hp_at, hc]
  show (if a = 0 ∨ nI k < 0 ∨ n ≤ (nI k).toNatClampNeg then none else some (mj_up (hp M) a (.inl (.long, n, .inr (.inl (vp_updL (rL M a) (nI k).toNatClampNeg v)))))) = _
  rw [if_neg (fun z => z.elim ha (fun z => z.elim (nI_pos (by omega)) (fun z => by omega))), e]
  refine congrArg some (hp_up (wL M a k v) ?_ (fun i hi => ?_))
  · rw [rL_own]; exact hc _ _ _
  · rw [rL_row hi]; rfl
theorem aa_2 (h : k < 40) : mj_aa (hp M) 2 (nI k) = some (some (3 + 5 * k)) := by
  have e := nI_clamp (n := k) (by omega)
  unfold mj_aa
  rw [show (hp M).2.2 2 = .inl (.object "PassCourt$Routine", 40, .inr (.inr (.inr (.inr (fun j => if j < 40 then some (3 + 5 * j) else none))))) from rfl]
  show (if nI k < 0 ∨ 40 ≤ (nI k).toNatClampNeg then none else some (if (nI k).toNatClampNeg < 40 then some (3 + 5 * (nI k).toNatClampNeg) else none)) = _
  rw [if_neg (fun z => z.elim (nI_pos (by omega)) (fun z => by omega)), e, if_pos h]
theorem pf_of {o ci k : Nat} {v : Value} {fs : List Value} (M' : mm) (hc : (hp M).2.2 o = .inr (ci, fs)) (hk : k < fs.length) (hv : mj_ok (mj_ty ci k) v = true) (h1 : hs M'.2.2.2 o (rI M' o) (rL M' o) (rR M' o) = .inr (ci, fs.set k v)) (h2 : ∀ i, i ≠ o → hs M'.2.2.2 i (rI M' i) (rL M' i) (rR M' i) = hs M.2.2.2 i (rI M i) (rL M i) (rR M i)) : mj_pf (hp M) o ci k v = some (hp M') := by
  unfold mj_pf
  rw [hc]
  show (if ci = ci ∧ k < fs.length ∧ mj_ok (mj_ty ci k) v = true then some (mj_up (hp M) o (.inr (ci, fs.set k v))) else none) = _
  rw [if_pos ⟨rfl, hk, hv⟩]
  exact congrArg some (hp_up M' h1 h2)
def isRt (o : Nat) : Prop := (3 ≤ o ∧ o < 203 ∧ (o - 3) % 5 = 0) ∨ o = 217 ∨ o = 222 ∨ o = 240 ∨ o = 248
theorem isRt_n {r : Nat} (h : r < 40) : isRt (3 + 5 * r) := Or.inl ⟨by omega, by omega, by omega⟩
theorem hs_rt {W : Nat × (Nat → Int32)} {o : Nat} {fi : Nat → Int32} {fl : Nat → Int64} {fr : Nat → Nat} (h : isRt o) : hs W o fi fl fr = .inr (6, [.ref (o + 1), .ref (o + 2), .ref (o + 3), .ref (o + 4), .int (fi 4)]) := by
  rcases h with ⟨h1, h2, h3⟩ | rfl | rfl | rfl | rfl
  · unfold hs
    rw [if_neg (by omega), if_neg (by omega), if_pos h2, if_pos h3]
  · rfl
  · rfl
  · rfl
  · rfl
theorem hs_ra {W : Nat × (Nat → Int32)} {o j : Nat} {fi : Nat → Int32} {fl : Nat → Int64} {fr : Nat → Nat} (h : isRt o) (hj : 1 ≤ j ∧ j ≤ 4) : hs W (o + j) fi fl fr = .inl (.int, 50, .inl fi) := by
  have hj' : j = 1 ∨ j = 2 ∨ j = 3 ∨ j = 4 := by omega
  rcases h with ⟨h1, h2, h3⟩ | rfl | rfl | rfl | rfl
  · unfold hs
    rw [if_neg (by omega), if_neg (by omega), if_pos (by omega), if_neg (by omega)]
  · rcases hj' with rfl | rfl | rfl | rfl <;> rfl
  · rcases hj' with rfl | rfl | rfl | rfl <;> rfl
  · rcases hj' with rfl | rfl | rfl | rfl <;> rfl
  · rcases hj' with rfl | rfl | rfl | rfl <;> rfl
variable {o : Nat}
theorem io_rt (h : isRt o) : mj_io (hp M) o 6 = true := by
  unfold mj_io
  rw [hp_at, hs_rt h]
  rfl
theorem gf_rt_0 (h : isRt o) : mj_gf (hp M) o 6 0 = some (.ref (o + 1)) := by
  unfold mj_gf
  rw [hp_at, hs_rt h]
  rfl
theorem ai_rt_0 (h : isRt o) (hk : k < 50) : mj_ai (hp M) (o + 1) (nI k) = some (rI M (o + 1) k) := ai_of ((hp_at M _).trans (hs_ra (j := 1) h (by omega))) (by omega) hk
theorem wi_rt_0 {v : Int32} (h : isRt o) (hk : k < 50) : mj_wi (hp M) (o + 1) (nI k) v = some (hp (wI M (o + 1) k v)) := wi_of (by omega) (fun _ _ _ => hs_ra (j := 1) h (by omega)) (by omega) hk
theorem gf_rt_1 (h : isRt o) : mj_gf (hp M) o 6 1 = some (.ref (o + 2)) := by
  unfold mj_gf
  rw [hp_at, hs_rt h]
  rfl
theorem ai_rt_1 (h : isRt o) (hk : k < 50) : mj_ai (hp M) (o + 2) (nI k) = some (rI M (o + 2) k) := ai_of ((hp_at M _).trans (hs_ra (j := 2) h (by omega))) (by omega) hk
theorem wi_rt_1 {v : Int32} (h : isRt o) (hk : k < 50) : mj_wi (hp M) (o + 2) (nI k) v = some (hp (wI M (o + 2) k v)) := wi_of (by omega) (fun _ _ _ => hs_ra (j := 2) h (by omega)) (by omega) hk
theorem gf_rt_2 (h : isRt o) : mj_gf (hp M) o 6 2 = some (.ref (o + 3)) := by
  unfold mj_gf
  rw [hp_at, hs_rt h]
  rfl
theorem ai_rt_2 (h : isRt o) (hk : k < 50) : mj_ai (hp M) (o + 3) (nI k) = some (rI M (o + 3) k) := ai_of ((hp_at M _).trans (hs_ra (j := 3) h (by omega))) (by omega) hk
theorem wi_rt_2 {v : Int32} (h : isRt o) (hk : k < 50) : mj_wi (hp M) (o + 3) (nI k) v = some (hp (wI M (o + 3) k v)) := wi_of (by omega) (fun _ _ _ => hs_ra (j := 3) h (by omega)) (by omega) hk
theorem gf_rt_3 (h : isRt o) : mj_gf (hp M) o 6 3 = some (.ref (o + 4)) := by
  unfold mj_gf
  rw [hp_at, hs_rt h]
  rfl
theorem ai_rt_3 (h : isRt o) (hk : k < 50) : mj_ai (hp M) (o + 4) (nI k) = some (rI M (o + 4) k) := ai_of ((hp_at M _).trans (hs_ra (j := 4) h (by omega))) (by omega) hk
theorem wi_rt_3 {v : Int32} (h : isRt o) (hk : k < 50) : mj_wi (hp M) (o + 4) (nI k) v = some (hp (wI M (o + 4) k v)) := wi_of (by omega) (fun _ _ _ => hs_ra (j := 4) h (by omega)) (by omega) hk
theorem gf_rt_4 (h : isRt o) : mj_gf (hp M) o 6 4 = some (.int (rI M o 4)) := by
  unfold mj_gf
  rw [hp_at, hs_rt h]
  rfl
theorem pf_rt {v : Int32} (h : isRt o) : mj_pf (hp M) o 6 4 (.int v) = some (hp (wI M o 4 v)) := pf_of (wI M o 4 v) ((hp_at M o).trans (hs_rt h)) (Nat.le_of_ble_eq_true rfl) (mj_ok_i rfl) (by rw [rI_own]; exact hs_rt h) (fun i hi => by rw [rI_row hi]; rfl)
set_option maxRecDepth 40000 in
theorem hs_1 {W : Nat × (Nat → Int32)} {fi : Nat → Int32} {fl : Nat → Int64} {fr : Nat → Nat} : hs W 1 fi fl fr = .inr (9, [.ref 2, .int (fi 1), .ref 203, .ref 210, .ref 212, .ref 227, .ref 231, .ref 238]) := rfl
theorem io_1 : mj_io (hp M) 1 9 = true := by
  unfold mj_io
  rw [hp_at, hs_1]
  rfl
theorem gf_1_0 : mj_gf (hp M) 1 9 0 = some (.ref 2) := by
  unfold mj_gf
  rw [hp_at, hs_1]
  rfl
theorem gf_1_1 : mj_gf (hp M) 1 9 1 = some (.int (rI M 1 1)) := by
  unfold mj_gf
  rw [hp_at, hs_1]
  rfl
theorem pf_1_1 {v : Int32} : mj_pf (hp M) 1 9 1 (.int v) = some (hp (wI M 1 1 v)) := pf_of (wI M 1 1 v) ((hp_at M _).trans hs_1) (Nat.le_of_ble_eq_true rfl) (mj_ok_i rfl) (by rw [rI_own]; exact hs_1) (fun i hi => by rw [rI_row hi]; rfl)
theorem gf_1_2 : mj_gf (hp M) 1 9 2 = some (.ref 203) := by
  unfold mj_gf
  rw [hp_at, hs_1]
  rfl
theorem gf_1_3 : mj_gf (hp M) 1 9 3 = some (.ref 210) := by
  unfold mj_gf
  rw [hp_at, hs_1]
  rfl
theorem gf_1_4 : mj_gf (hp M) 1 9 4 = some (.ref 212) := by
  unfold mj_gf
  rw [hp_at, hs_1]
  rfl
theorem gf_1_5 : mj_gf (hp M) 1 9 5 = some (.ref 227) := by
  unfold mj_gf
  rw [hp_at, hs_1]
  rfl
theorem gf_1_6 : mj_gf (hp M) 1 9 6 = some (.ref 231) := by
  unfold mj_gf
  rw [hp_at, hs_1]
  rfl
theorem gf_1_7 : mj_gf (hp M) 1 9 7 = some (.ref 238) := by
  unfold mj_gf
  rw [hp_at, hs_1]
  rfl
set_option maxRecDepth 40000 in
theorem hs_203 {W : Nat × (Nat → Int32)} {fi : Nat → Int32} {fl : Nat → Int64} {fr : Nat → Nat} : hs W 203 fi fl fr = .inr (1, [.ref 204, .ref 205, .ref 206, .ref 207, .int (fi 4), .ref 208, .ref 209]) := rfl
theorem io_203 : mj_io (hp M) 203 1 = true := by
  unfold mj_io
  rw [hp_at, hs_203]
  rfl
theorem gf_203_0 : mj_gf (hp M) 203 1 0 = some (.ref 204) := by
  unfold mj_gf
  rw [hp_at, hs_203]
  rfl
theorem gf_203_1 : mj_gf (hp M) 203 1 1 = some (.ref 205) := by
  unfold mj_gf
  rw [hp_at, hs_203]
  rfl
theorem gf_203_2 : mj_gf (hp M) 203 1 2 = some (.ref 206) := by
  unfold mj_gf
  rw [hp_at, hs_203]
  rfl
theorem gf_203_3 : mj_gf (hp M) 203 1 3 = some (.ref 207) := by
  unfold mj_gf
  rw [hp_at, hs_203]
  rfl
theorem gf_203_4 : mj_gf (hp M) 203 1 4 = some (.int (rI M 203 4)) := by
  unfold mj_gf
  rw [hp_at, hs_203]
  rfl
theorem pf_203_4_0 : mj_pf (hp M) 203 1 4 (.int (nI 0)) = some (hp (wI M 203 4 (nI 0))) := pf_of (wI M 203 4 (nI 0)) ((hp_at M _).trans hs_203) (Nat.le_of_ble_eq_true rfl) (by decide +kernel) (by rw [rI_own]; exact hs_203) (fun i hi => by rw [rI_row hi]; rfl)
theorem pf_203_4_1 : mj_pf (hp M) 203 1 4 (.int (nI 1)) = some (hp (wI M 203 4 (nI 1))) := pf_of (wI M 203 4 (nI 1)) ((hp_at M _).trans hs_203) (Nat.le_of_ble_eq_true rfl) (by decide +kernel) (by rw [rI_own]; exact hs_203) (fun i hi => by rw [rI_row hi]; rfl)
theorem gf_203_5 : mj_gf (hp M) 203 1 5 = some (.ref 208) := by
  unfold mj_gf
  rw [hp_at, hs_203]
  rfl
theorem gf_203_6 : mj_gf (hp M) 203 1 6 = some (.ref 209) := by
  unfold mj_gf
  rw [hp_at, hs_203]
  rfl
set_option maxRecDepth 40000 in
theorem hs_204 {W : Nat × (Nat → Int32)} {fi : Nat → Int32} {fl : Nat → Int64} {fr : Nat → Nat} : hs W 204 fi fl fr = .inl (.boolean, 51, .inl fi) := rfl
theorem az_204 (hk : k < 51) : mj_az (hp M) 204 (nI k) = some (rI M 204 k) := az_of ((hp_at M _).trans hs_204) (by omega) hk
theorem wz_204 {v : Int32} (hk : k < 51) : mj_wz (hp M) 204 (nI k) v = some (hp (wI M 204 k (zv v))) := wz_of (by omega) (fun _ _ _ => hs_204) (by omega) hk
set_option maxRecDepth 40000 in
theorem hs_205 {W : Nat × (Nat → Int32)} {fi : Nat → Int32} {fl : Nat → Int64} {fr : Nat → Nat} : hs W 205 fi fl fr = .inl (.boolean, 408, .inl fi) := rfl
theorem az_205 (hk : k < 408) : mj_az (hp M) 205 (nI k) = some (rI M 205 k) := az_of ((hp_at M _).trans hs_205) (by omega) hk
theorem wz_205 {v : Int32} (hk : k < 408) : mj_wz (hp M) 205 (nI k) v = some (hp (wI M 205 k (zv v))) := wz_of (by omega) (fun _ _ _ => hs_205) (by omega) hk
set_option maxRecDepth 40000 in
theorem hs_206 {W : Nat × (Nat → Int32)} {fi : Nat → Int32} {fl : Nat → Int64} {fr : Nat → Nat} : hs W 206 fi fl fr = .inl (.long, 408, .inr (.inl fl)) := rfl
theorem al_206 (hk : k < 408) : mj_al (hp M) 206 (nI k) = some (rL M 206 k) := al_of ((hp_at M _).trans hs_206) (by omega) hk
theorem wl_206 {v : Int64} (hk : k < 408) : mj_wl (hp M) 206 (nI k) v = some (hp (wL M 206 k v)) := wl_of (by omega) (fun _ _ _ => hs_206) (by omega) hk
set_option maxRecDepth 40000 in
theorem hs_207 {W : Nat × (Nat → Int32)} {fi : Nat → Int32} {fl : Nat → Int64} {fr : Nat → Nat} : hs W 207 fi fl fr = .inl (.boolean, 51, .inl fi) := rfl
theorem az_207 (hk : k < 51) : mj_az (hp M) 207 (nI k) = some (rI M 207 k) := az_of ((hp_at M _).trans hs_207) (by omega) hk
theorem wz_207 {v : Int32} (hk : k < 51) : mj_wz (hp M) 207 (nI k) v = some (hp (wI M 207 k (zv v))) := wz_of (by omega) (fun _ _ _ => hs_207) (by omega) hk
set_option maxRecDepth 40000 in
theorem hs_208 {W : Nat × (Nat → Int32)} {fi : Nat → Int32} {fl : Nat → Int64} {fr : Nat → Nat} : hs W 208 fi fl fr = .inl (.boolean, 8, .inl fi) := rfl
theorem az_208 (hk : k < 8) : mj_az (hp M) 208 (nI k) = some (rI M 208 k) := az_of ((hp_at M _).trans hs_208) (by omega) hk
theorem wz_208 {v : Int32} (hk : k < 8) : mj_wz (hp M) 208 (nI k) v = some (hp (wI M 208 k (zv v))) := wz_of (by omega) (fun _ _ _ => hs_208) (by omega) hk
set_option maxRecDepth 40000 in
theorem hs_209 {W : Nat × (Nat → Int32)} {fi : Nat → Int32} {fl : Nat → Int64} {fr : Nat → Nat} : hs W 209 fi fl fr = .inl (.long, 8, .inr (.inl fl)) := rfl
theorem al_209 (hk : k < 8) : mj_al (hp M) 209 (nI k) = some (rL M 209 k) := al_of ((hp_at M _).trans hs_209) (by omega) hk
theorem wl_209 {v : Int64} (hk : k < 8) : mj_wl (hp M) 209 (nI k) v = some (hp (wL M 209 k v)) := wl_of (by omega) (fun _ _ _ => hs_209) (by omega) hk
set_option maxRecDepth 40000 in
theorem hs_210 {W : Nat × (Nat → Int32)} {fi : Nat → Int32} {fl : Nat → Int64} {fr : Nat → Nat} : hs W 210 fi fl fr = .inr (3, [.ref 211]) := rfl
theorem io_210 : mj_io (hp M) 210 3 = true := by
  unfold mj_io
  rw [hp_at, hs_210]
  rfl
theorem gf_210_0 : mj_gf (hp M) 210 3 0 = some (.ref 211) := by
  unfold mj_gf
  rw [hp_at, hs_210]
  rfl
set_option maxRecDepth 40000 in
theorem hs_211 {W : Nat × (Nat → Int32)} {fi : Nat → Int32} {fl : Nat → Int64} {fr : Nat → Nat} : hs W 211 fi fl fr = .inl (.int, 51, .inl fi) := rfl
theorem ai_211 (hk : k < 51) : mj_ai (hp M) 211 (nI k) = some (rI M 211 k) := ai_of ((hp_at M _).trans hs_211) (by omega) hk
theorem wi_211 {v : Int32} (hk : k < 51) : mj_wi (hp M) 211 (nI k) v = some (hp (wI M 211 k v)) := wi_of (by omega) (fun _ _ _ => hs_211) (by omega) hk
set_option maxRecDepth 40000 in
theorem hs_212 {W : Nat × (Nat → Int32)} {fi : Nat → Int32} {fl : Nat → Int64} {fr : Nat → Nat} : hs W 212 fi fl fr = .inr (4, [.ref 203, .ref 210, .ref 213, .ref 216, .ref 217, .ref 222]) := rfl
theorem io_212 : mj_io (hp M) 212 4 = true := by
  unfold mj_io
  rw [hp_at, hs_212]
  rfl
theorem gf_212_0 : mj_gf (hp M) 212 4 0 = some (.ref 203) := by
  unfold mj_gf
  rw [hp_at, hs_212]
  rfl
theorem gf_212_1 : mj_gf (hp M) 212 4 1 = some (.ref 210) := by
  unfold mj_gf
  rw [hp_at, hs_212]
  rfl
theorem gf_212_2 : mj_gf (hp M) 212 4 2 = some (.ref 213) := by
  unfold mj_gf
  rw [hp_at, hs_212]
  rfl
theorem gf_212_3 : mj_gf (hp M) 212 4 3 = some (.ref 216) := by
  unfold mj_gf
  rw [hp_at, hs_212]
  rfl
theorem gf_212_4 : mj_gf (hp M) 212 4 4 = some (.ref 217) := by
  unfold mj_gf
  rw [hp_at, hs_212]
  rfl
theorem gf_212_5 : mj_gf (hp M) 212 4 5 = some (.ref 222) := by
  unfold mj_gf
  rw [hp_at, hs_212]
  rfl
set_option maxRecDepth 40000 in
theorem hs_213 {W : Nat × (Nat → Int32)} {fi : Nat → Int32} {fl : Nat → Int64} {fr : Nat → Nat} : hs W 213 fi fl fr = .inr (2, [.ref 214, .ref 215]) := rfl
theorem io_213 : mj_io (hp M) 213 2 = true := by
  unfold mj_io
  rw [hp_at, hs_213]
  rfl
theorem gf_213_0 : mj_gf (hp M) 213 2 0 = some (.ref 214) := by
  unfold mj_gf
  rw [hp_at, hs_213]
  rfl
theorem gf_213_1 : mj_gf (hp M) 213 2 1 = some (.ref 215) := by
  unfold mj_gf
  rw [hp_at, hs_213]
  rfl
set_option maxRecDepth 40000 in
theorem hs_214 {W : Nat × (Nat → Int32)} {fi : Nat → Int32} {fl : Nat → Int64} {fr : Nat → Nat} : hs W 214 fi fl fr = .inl (.int, 51, .inl fi) := rfl
theorem ai_214 (hk : k < 51) : mj_ai (hp M) 214 (nI k) = some (rI M 214 k) := ai_of ((hp_at M _).trans hs_214) (by omega) hk
theorem wi_214 {v : Int32} (hk : k < 51) : mj_wi (hp M) 214 (nI k) v = some (hp (wI M 214 k v)) := wi_of (by omega) (fun _ _ _ => hs_214) (by omega) hk
set_option maxRecDepth 40000 in
theorem hs_215 {W : Nat × (Nat → Int32)} {fi : Nat → Int32} {fl : Nat → Int64} {fr : Nat → Nat} : hs W 215 fi fl fr = .inl (.int, 51, .inl fi) := rfl
theorem ai_215 (hk : k < 51) : mj_ai (hp M) 215 (nI k) = some (rI M 215 k) := ai_of ((hp_at M _).trans hs_215) (by omega) hk
theorem wi_215 {v : Int32} (hk : k < 51) : mj_wi (hp M) 215 (nI k) v = some (hp (wI M 215 k v)) := wi_of (by omega) (fun _ _ _ => hs_215) (by omega) hk
set_option maxRecDepth 40000 in
theorem hs_216 {W : Nat × (Nat → Int32)} {fi : Nat → Int32} {fl : Nat → Int64} {fr : Nat → Nat} : hs W 216 fi fl fr = .inl (.int, 51, .inl fi) := rfl
theorem ai_216 (hk : k < 51) : mj_ai (hp M) 216 (nI k) = some (rI M 216 k) := ai_of ((hp_at M _).trans hs_216) (by omega) hk
theorem wi_216 {v : Int32} (hk : k < 51) : mj_wi (hp M) 216 (nI k) v = some (hp (wI M 216 k v)) := wi_of (by omega) (fun _ _ _ => hs_216) (by omega) hk
theorem rt_217 : isRt 217 := by unfold isRt; omega
theorem rt_222 : isRt 222 := by unfold isRt; omega
set_option maxRecDepth 40000 in
theorem hs_227 {W : Nat × (Nat → Int32)} {fi : Nat → Int32} {fl : Nat → Int64} {fr : Nat → Nat} : hs W 227 fi fl fr = .inr (5, [.ref 228, .int (fi 1), .ref 229, .ref 230, .int (fi 4), .int (fi 5), .int (fi 6)]) := rfl
theorem io_227 : mj_io (hp M) 227 5 = true := by
  unfold mj_io
  rw [hp_at, hs_227]
  rfl
theorem gf_227_0 : mj_gf (hp M) 227 5 0 = some (.ref 228) := by
  unfold mj_gf
  rw [hp_at, hs_227]
  rfl
theorem gf_227_1 : mj_gf (hp M) 227 5 1 = some (.int (rI M 227 1)) := by
  unfold mj_gf
  rw [hp_at, hs_227]
  rfl
theorem pf_227_1 {v : Int32} : mj_pf (hp M) 227 5 1 (.int v) = some (hp (wI M 227 1 v)) := pf_of (wI M 227 1 v) ((hp_at M _).trans hs_227) (Nat.le_of_ble_eq_true rfl) (mj_ok_i rfl) (by rw [rI_own]; exact hs_227) (fun i hi => by rw [rI_row hi]; rfl)
theorem gf_227_2 : mj_gf (hp M) 227 5 2 = some (.ref 229) := by
  unfold mj_gf
  rw [hp_at, hs_227]
  rfl
theorem gf_227_3 : mj_gf (hp M) 227 5 3 = some (.ref 230) := by
  unfold mj_gf
  rw [hp_at, hs_227]
  rfl
theorem gf_227_4 : mj_gf (hp M) 227 5 4 = some (.int (rI M 227 4)) := by
  unfold mj_gf
  rw [hp_at, hs_227]
  rfl
theorem pf_227_4 {v : Int32} : mj_pf (hp M) 227 5 4 (.int v) = some (hp (wI M 227 4 v)) := pf_of (wI M 227 4 v) ((hp_at M _).trans hs_227) (Nat.le_of_ble_eq_true rfl) (mj_ok_i rfl) (by rw [rI_own]; exact hs_227) (fun i hi => by rw [rI_row hi]; rfl)
theorem gf_227_5 : mj_gf (hp M) 227 5 5 = some (.int (rI M 227 5)) := by
  unfold mj_gf
  rw [hp_at, hs_227]
  rfl
theorem pf_227_5 {v : Int32} : mj_pf (hp M) 227 5 5 (.int v) = some (hp (wI M 227 5 v)) := pf_of (wI M 227 5 v) ((hp_at M _).trans hs_227) (Nat.le_of_ble_eq_true rfl) (mj_ok_i rfl) (by rw [rI_own]; exact hs_227) (fun i hi => by rw [rI_row hi]; rfl)
theorem gf_227_6 : mj_gf (hp M) 227 5 6 = some (.int (rI M 227 6)) := by
  unfold mj_gf
  rw [hp_at, hs_227]
  rfl
theorem pf_227_6 {v : Int32} : mj_pf (hp M) 227 5 6 (.int v) = some (hp (wI M 227 6 v)) := pf_of (wI M 227 6 v) ((hp_at M _).trans hs_227) (Nat.le_of_ble_eq_true rfl) (mj_ok_i rfl) (by rw [rI_own]; exact hs_227) (fun i hi => by rw [rI_row hi]; rfl)
set_option maxRecDepth 40000 in
theorem hs_228 {W : Nat × (Nat → Int32)} {fi : Nat → Int32} {fl : Nat → Int64} {fr : Nat → Nat} : hs W 228 fi fl fr = .inl (.long, 16, .inr (.inl fl)) := rfl
theorem al_228 (hk : k < 16) : mj_al (hp M) 228 (nI k) = some (rL M 228 k) := al_of ((hp_at M _).trans hs_228) (by omega) hk
theorem wl_228 {v : Int64} (hk : k < 16) : mj_wl (hp M) 228 (nI k) v = some (hp (wL M 228 k v)) := wl_of (by omega) (fun _ _ _ => hs_228) (by omega) hk
set_option maxRecDepth 40000 in
theorem hs_229 {W : Nat × (Nat → Int32)} {fi : Nat → Int32} {fl : Nat → Int64} {fr : Nat → Nat} : hs W 229 fi fl fr = .inl (.long, 8, .inr (.inl fl)) := rfl
theorem al_229 (hk : k < 8) : mj_al (hp M) 229 (nI k) = some (rL M 229 k) := al_of ((hp_at M _).trans hs_229) (by omega) hk
theorem wl_229 {v : Int64} (hk : k < 8) : mj_wl (hp M) 229 (nI k) v = some (hp (wL M 229 k v)) := wl_of (by omega) (fun _ _ _ => hs_229) (by omega) hk
set_option maxRecDepth 40000 in
theorem hs_230 {W : Nat × (Nat → Int32)} {fi : Nat → Int32} {fl : Nat → Int64} {fr : Nat → Nat} : hs W 230 fi fl fr = .inl (.long, 200, .inr (.inl fl)) := rfl
theorem al_230 (hk : k < 200) : mj_al (hp M) 230 (nI k) = some (rL M 230 k) := al_of ((hp_at M _).trans hs_230) (by omega) hk
theorem wl_230 {v : Int64} (hk : k < 200) : mj_wl (hp M) 230 (nI k) v = some (hp (wL M 230 k v)) := wl_of (by omega) (fun _ _ _ => hs_230) (by omega) hk
set_option maxRecDepth 40000 in
theorem hs_231 {W : Nat × (Nat → Int32)} {fi : Nat → Int32} {fl : Nat → Int64} {fr : Nat → Nat} : hs W 231 fi fl fr = .inr (8, [.ref 232, .ref 233, .ref 234, .ref 235, .ref 236, .ref 237, .int (fi 6)]) := rfl
theorem io_231 : mj_io (hp M) 231 8 = true := by
  unfold mj_io
  rw [hp_at, hs_231]
  rfl
theorem gf_231_0 : mj_gf (hp M) 231 8 0 = some (.ref 232) := by
  unfold mj_gf
  rw [hp_at, hs_231]
  rfl
theorem gf_231_1 : mj_gf (hp M) 231 8 1 = some (.ref 233) := by
  unfold mj_gf
  rw [hp_at, hs_231]
  rfl
theorem gf_231_2 : mj_gf (hp M) 231 8 2 = some (.ref 234) := by
  unfold mj_gf
  rw [hp_at, hs_231]
  rfl
theorem gf_231_3 : mj_gf (hp M) 231 8 3 = some (.ref 235) := by
  unfold mj_gf
  rw [hp_at, hs_231]
  rfl
theorem gf_231_4 : mj_gf (hp M) 231 8 4 = some (.ref 236) := by
  unfold mj_gf
  rw [hp_at, hs_231]
  rfl
theorem gf_231_5 : mj_gf (hp M) 231 8 5 = some (.ref 237) := by
  unfold mj_gf
  rw [hp_at, hs_231]
  rfl
theorem gf_231_6 : mj_gf (hp M) 231 8 6 = some (.int (rI M 231 6)) := by
  unfold mj_gf
  rw [hp_at, hs_231]
  rfl
theorem pf_231_6 {v : Int32} : mj_pf (hp M) 231 8 6 (.int v) = some (hp (wI M 231 6 v)) := pf_of (wI M 231 6 v) ((hp_at M _).trans hs_231) (Nat.le_of_ble_eq_true rfl) (mj_ok_i rfl) (by rw [rI_own]; exact hs_231) (fun i hi => by rw [rI_row hi]; rfl)
set_option maxRecDepth 40000 in
theorem hs_232 {W : Nat × (Nat → Int32)} {fi : Nat → Int32} {fl : Nat → Int64} {fr : Nat → Nat} : hs W 232 fi fl fr = .inl (.int, 200, .inl fi) := rfl
theorem ai_232 (hk : k < 200) : mj_ai (hp M) 232 (nI k) = some (rI M 232 k) := ai_of ((hp_at M _).trans hs_232) (by omega) hk
theorem wi_232 {v : Int32} (hk : k < 200) : mj_wi (hp M) 232 (nI k) v = some (hp (wI M 232 k v)) := wi_of (by omega) (fun _ _ _ => hs_232) (by omega) hk
set_option maxRecDepth 40000 in
theorem hs_233 {W : Nat × (Nat → Int32)} {fi : Nat → Int32} {fl : Nat → Int64} {fr : Nat → Nat} : hs W 233 fi fl fr = .inl (.int, 200, .inl fi) := rfl
theorem ai_233 (hk : k < 200) : mj_ai (hp M) 233 (nI k) = some (rI M 233 k) := ai_of ((hp_at M _).trans hs_233) (by omega) hk
theorem wi_233 {v : Int32} (hk : k < 200) : mj_wi (hp M) 233 (nI k) v = some (hp (wI M 233 k v)) := wi_of (by omega) (fun _ _ _ => hs_233) (by omega) hk
set_option maxRecDepth 40000 in
theorem hs_234 {W : Nat × (Nat → Int32)} {fi : Nat → Int32} {fl : Nat → Int64} {fr : Nat → Nat} : hs W 234 fi fl fr = .inl (.int, 200, .inl fi) := rfl
theorem ai_234 (hk : k < 200) : mj_ai (hp M) 234 (nI k) = some (rI M 234 k) := ai_of ((hp_at M _).trans hs_234) (by omega) hk
theorem wi_234 {v : Int32} (hk : k < 200) : mj_wi (hp M) 234 (nI k) v = some (hp (wI M 234 k v)) := wi_of (by omega) (fun _ _ _ => hs_234) (by omega) hk
set_option maxRecDepth 40000 in
theorem hs_235 {W : Nat × (Nat → Int32)} {fi : Nat → Int32} {fl : Nat → Int64} {fr : Nat → Nat} : hs W 235 fi fl fr = .inl (.int, 200, .inl fi) := rfl
theorem ai_235 (hk : k < 200) : mj_ai (hp M) 235 (nI k) = some (rI M 235 k) := ai_of ((hp_at M _).trans hs_235) (by omega) hk
theorem wi_235 {v : Int32} (hk : k < 200) : mj_wi (hp M) 235 (nI k) v = some (hp (wI M 235 k v)) := wi_of (by omega) (fun _ _ _ => hs_235) (by omega) hk
set_option maxRecDepth 40000 in
theorem hs_236 {W : Nat × (Nat → Int32)} {fi : Nat → Int32} {fl : Nat → Int64} {fr : Nat → Nat} : hs W 236 fi fl fr = .inl (.int, 1600, .inl fi) := rfl
theorem ai_236 (hk : k < 1600) : mj_ai (hp M) 236 (nI k) = some (rI M 236 k) := ai_of ((hp_at M _).trans hs_236) (by omega) hk
theorem wi_236 {v : Int32} (hk : k < 1600) : mj_wi (hp M) 236 (nI k) v = some (hp (wI M 236 k v)) := wi_of (by omega) (fun _ _ _ => hs_236) (by omega) hk
set_option maxRecDepth 40000 in
theorem hs_237 {W : Nat × (Nat → Int32)} {fi : Nat → Int32} {fl : Nat → Int64} {fr : Nat → Nat} : hs W 237 fi fl fr = .inl (.long, 1600, .inr (.inl fl)) := rfl
theorem al_237 (hk : k < 1600) : mj_al (hp M) 237 (nI k) = some (rL M 237 k) := al_of ((hp_at M _).trans hs_237) (by omega) hk
theorem wl_237 {v : Int64} (hk : k < 1600) : mj_wl (hp M) 237 (nI k) v = some (hp (wL M 237 k v)) := wl_of (by omega) (fun _ _ _ => hs_237) (by omega) hk
set_option maxRecDepth 40000 in
theorem hs_238 {W : Nat × (Nat → Int32)} {fi : Nat → Int32} {fl : Nat → Int64} {fr : Nat → Nat} : hs W 238 fi fl fr = .inr (0, [.ref 231, .ref 239, .ref 247, .ref 255, .int (fi 4)]) := rfl
theorem io_238 : mj_io (hp M) 238 0 = true := by
  unfold mj_io
  rw [hp_at, hs_238]
  rfl
theorem gf_238_0 : mj_gf (hp M) 238 0 0 = some (.ref 231) := by
  unfold mj_gf
  rw [hp_at, hs_238]
  rfl
theorem gf_238_1 : mj_gf (hp M) 238 0 1 = some (.ref 239) := by
  unfold mj_gf
  rw [hp_at, hs_238]
  rfl
theorem gf_238_2 : mj_gf (hp M) 238 0 2 = some (.ref 247) := by
  unfold mj_gf
  rw [hp_at, hs_238]
  rfl
theorem gf_238_3 : mj_gf (hp M) 238 0 3 = some (.ref 255) := by
  unfold mj_gf
  rw [hp_at, hs_238]
  rfl
theorem gf_238_4 : mj_gf (hp M) 238 0 4 = some (.int (rI M 238 4)) := by
  unfold mj_gf
  rw [hp_at, hs_238]
  rfl
theorem pf_238_4 {v : Int32} : mj_pf (hp M) 238 0 4 (.int v) = some (hp (wI M 238 4 v)) := pf_of (wI M 238 4 v) ((hp_at M _).trans hs_238) (Nat.le_of_ble_eq_true rfl) (mj_ok_i rfl) (by rw [rI_own]; exact hs_238) (fun i hi => by rw [rI_row hi]; rfl)
set_option maxRecDepth 40000 in
theorem hs_239 {W : Nat × (Nat → Int32)} {fi : Nat → Int32} {fl : Nat → Int64} {fr : Nat → Nat} : hs W 239 fi fl fr = .inr (7, [.int (fi 0), .ref (fr 1), .int (fi 2), .ref 245, .ref 246, .int (fi 5), .int (fi 6), .long (fl 7), .int (fi 8), .long (fl 9)]) := rfl
theorem io_239 : mj_io (hp M) 239 7 = true := by
  unfold mj_io
  rw [hp_at, hs_239]
  rfl
theorem gf_239_0 : mj_gf (hp M) 239 7 0 = some (.int (rI M 239 0)) := by
  unfold mj_gf
  rw [hp_at, hs_239]
  rfl
theorem pf_239_0 {v : Int32} : mj_pf (hp M) 239 7 0 (.int v) = some (hp (wI M 239 0 v)) := pf_of (wI M 239 0 v) ((hp_at M _).trans hs_239) (Nat.le_of_ble_eq_true rfl) (mj_ok_i rfl) (by rw [rI_own]; exact hs_239) (fun i hi => by rw [rI_row hi]; rfl)
theorem gf_239_1 : mj_gf (hp M) 239 7 1 = some (.ref (rR M 239 1)) := by
  unfold mj_gf
  rw [hp_at, hs_239]
  rfl
theorem pf_239_1 {v : Nat} : mj_pf (hp M) 239 7 1 (.ref v) = some (hp (wR M 239 1 v)) := pf_of (wR M 239 1 v) ((hp_at M _).trans hs_239) (Nat.le_of_ble_eq_true rfl) (mj_ok_r rfl) (by rw [rR_own]; exact hs_239) (fun i hi => by rw [rR_row hi]; rfl)
theorem gf_239_2 : mj_gf (hp M) 239 7 2 = some (.int (rI M 239 2)) := by
  unfold mj_gf
  rw [hp_at, hs_239]
  rfl
theorem pf_239_2 {v : Int32} : mj_pf (hp M) 239 7 2 (.int v) = some (hp (wI M 239 2 v)) := pf_of (wI M 239 2 v) ((hp_at M _).trans hs_239) (Nat.le_of_ble_eq_true rfl) (mj_ok_i rfl) (by rw [rI_own]; exact hs_239) (fun i hi => by rw [rI_row hi]; rfl)
theorem gf_239_3 : mj_gf (hp M) 239 7 3 = some (.ref 245) := by
  unfold mj_gf
  rw [hp_at, hs_239]
  rfl
theorem gf_239_4 : mj_gf (hp M) 239 7 4 = some (.ref 246) := by
  unfold mj_gf
  rw [hp_at, hs_239]
  rfl
theorem gf_239_5 : mj_gf (hp M) 239 7 5 = some (.int (rI M 239 5)) := by
  unfold mj_gf
  rw [hp_at, hs_239]
  rfl
theorem pf_239_5 {v : Int32} : mj_pf (hp M) 239 7 5 (.int v) = some (hp (wI M 239 5 v)) := pf_of (wI M 239 5 v) ((hp_at M _).trans hs_239) (Nat.le_of_ble_eq_true rfl) (mj_ok_i rfl) (by rw [rI_own]; exact hs_239) (fun i hi => by rw [rI_row hi]; rfl)
theorem gf_239_6 : mj_gf (hp M) 239 7 6 = some (.int (rI M 239 6)) := by
  unfold mj_gf
  rw [hp_at, hs_239]
  rfl
theorem pf_239_6 {v : Int32} : mj_pf (hp M) 239 7 6 (.int v) = some (hp (wI M 239 6 v)) := pf_of (wI M 239 6 v) ((hp_at M _).trans hs_239) (Nat.le_of_ble_eq_true rfl) (mj_ok_i rfl) (by rw [rI_own]; exact hs_239) (fun i hi => by rw [rI_row hi]; rfl)
theorem gf_239_7 : mj_gf (hp M) 239 7 7 = some (.long (rL M 239 7)) := by
  unfold mj_gf
  rw [hp_at, hs_239]
  rfl
theorem pf_239_7 {v : Int64} : mj_pf (hp M) 239 7 7 (.long v) = some (hp (wL M 239 7 v)) := pf_of (wL M 239 7 v) ((hp_at M _).trans hs_239) (Nat.le_of_ble_eq_true rfl) (mj_ok_l rfl) (by rw [rL_own]; exact hs_239) (fun i hi => by rw [rL_row hi]; rfl)
theorem gf_239_8 : mj_gf (hp M) 239 7 8 = some (.int (rI M 239 8)) := by
  unfold mj_gf
  rw [hp_at, hs_239]
  rfl
theorem pf_239_8 {v : Int32} : mj_pf (hp M) 239 7 8 (.int v) = some (hp (wI M 239 8 v)) := pf_of (wI M 239 8 v) ((hp_at M _).trans hs_239) (Nat.le_of_ble_eq_true rfl) (mj_ok_i rfl) (by rw [rI_own]; exact hs_239) (fun i hi => by rw [rI_row hi]; rfl)
theorem gf_239_9 : mj_gf (hp M) 239 7 9 = some (.long (rL M 239 9)) := by
  unfold mj_gf
  rw [hp_at, hs_239]
  rfl
theorem pf_239_9 {v : Int64} : mj_pf (hp M) 239 7 9 (.long v) = some (hp (wL M 239 9 v)) := pf_of (wL M 239 9 v) ((hp_at M _).trans hs_239) (Nat.le_of_ble_eq_true rfl) (mj_ok_l rfl) (by rw [rL_own]; exact hs_239) (fun i hi => by rw [rL_row hi]; rfl)
theorem rt_240 : isRt 240 := by unfold isRt; omega
set_option maxRecDepth 40000 in
theorem hs_245 {W : Nat × (Nat → Int32)} {fi : Nat → Int32} {fl : Nat → Int64} {fr : Nat → Nat} : hs W 245 fi fl fr = .inl (.int, 8, .inl fi) := rfl
theorem ai_245 (hk : k < 8) : mj_ai (hp M) 245 (nI k) = some (rI M 245 k) := ai_of ((hp_at M _).trans hs_245) (by omega) hk
theorem wi_245 {v : Int32} (hk : k < 8) : mj_wi (hp M) 245 (nI k) v = some (hp (wI M 245 k v)) := wi_of (by omega) (fun _ _ _ => hs_245) (by omega) hk
set_option maxRecDepth 40000 in
theorem hs_246 {W : Nat × (Nat → Int32)} {fi : Nat → Int32} {fl : Nat → Int64} {fr : Nat → Nat} : hs W 246 fi fl fr = .inl (.long, 8, .inr (.inl fl)) := rfl
theorem al_246 (hk : k < 8) : mj_al (hp M) 246 (nI k) = some (rL M 246 k) := al_of ((hp_at M _).trans hs_246) (by omega) hk
theorem wl_246 {v : Int64} (hk : k < 8) : mj_wl (hp M) 246 (nI k) v = some (hp (wL M 246 k v)) := wl_of (by omega) (fun _ _ _ => hs_246) (by omega) hk
set_option maxRecDepth 40000 in
theorem hs_247 {W : Nat × (Nat → Int32)} {fi : Nat → Int32} {fl : Nat → Int64} {fr : Nat → Nat} : hs W 247 fi fl fr = .inr (7, [.int (fi 0), .ref (fr 1), .int (fi 2), .ref 253, .ref 254, .int (fi 5), .int (fi 6), .long (fl 7), .int (fi 8), .long (fl 9)]) := rfl
theorem io_247 : mj_io (hp M) 247 7 = true := by
  unfold mj_io
  rw [hp_at, hs_247]
  rfl
theorem gf_247_0 : mj_gf (hp M) 247 7 0 = some (.int (rI M 247 0)) := by
  unfold mj_gf
  rw [hp_at, hs_247]
  rfl
theorem pf_247_0 {v : Int32} : mj_pf (hp M) 247 7 0 (.int v) = some (hp (wI M 247 0 v)) := pf_of (wI M 247 0 v) ((hp_at M _).trans hs_247) (Nat.le_of_ble_eq_true rfl) (mj_ok_i rfl) (by rw [rI_own]; exact hs_247) (fun i hi => by rw [rI_row hi]; rfl)
theorem gf_247_1 : mj_gf (hp M) 247 7 1 = some (.ref (rR M 247 1)) := by
  unfold mj_gf
  rw [hp_at, hs_247]
  rfl
theorem pf_247_1 {v : Nat} : mj_pf (hp M) 247 7 1 (.ref v) = some (hp (wR M 247 1 v)) := pf_of (wR M 247 1 v) ((hp_at M _).trans hs_247) (Nat.le_of_ble_eq_true rfl) (mj_ok_r rfl) (by rw [rR_own]; exact hs_247) (fun i hi => by rw [rR_row hi]; rfl)
theorem gf_247_2 : mj_gf (hp M) 247 7 2 = some (.int (rI M 247 2)) := by
  unfold mj_gf
  rw [hp_at, hs_247]
  rfl
theorem pf_247_2 {v : Int32} : mj_pf (hp M) 247 7 2 (.int v) = some (hp (wI M 247 2 v)) := pf_of (wI M 247 2 v) ((hp_at M _).trans hs_247) (Nat.le_of_ble_eq_true rfl) (mj_ok_i rfl) (by rw [rI_own]; exact hs_247) (fun i hi => by rw [rI_row hi]; rfl)
theorem gf_247_3 : mj_gf (hp M) 247 7 3 = some (.ref 253) := by
  unfold mj_gf
  rw [hp_at, hs_247]
  rfl
theorem gf_247_4 : mj_gf (hp M) 247 7 4 = some (.ref 254) := by
  unfold mj_gf
  rw [hp_at, hs_247]
  rfl
theorem gf_247_5 : mj_gf (hp M) 247 7 5 = some (.int (rI M 247 5)) := by
  unfold mj_gf
  rw [hp_at, hs_247]
  rfl
theorem pf_247_5 {v : Int32} : mj_pf (hp M) 247 7 5 (.int v) = some (hp (wI M 247 5 v)) := pf_of (wI M 247 5 v) ((hp_at M _).trans hs_247) (Nat.le_of_ble_eq_true rfl) (mj_ok_i rfl) (by rw [rI_own]; exact hs_247) (fun i hi => by rw [rI_row hi]; rfl)
theorem gf_247_6 : mj_gf (hp M) 247 7 6 = some (.int (rI M 247 6)) := by
  unfold mj_gf
  rw [hp_at, hs_247]
  rfl
theorem pf_247_6 {v : Int32} : mj_pf (hp M) 247 7 6 (.int v) = some (hp (wI M 247 6 v)) := pf_of (wI M 247 6 v) ((hp_at M _).trans hs_247) (Nat.le_of_ble_eq_true rfl) (mj_ok_i rfl) (by rw [rI_own]; exact hs_247) (fun i hi => by rw [rI_row hi]; rfl)
theorem gf_247_7 : mj_gf (hp M) 247 7 7 = some (.long (rL M 247 7)) := by
  unfold mj_gf
  rw [hp_at, hs_247]
  rfl
theorem pf_247_7 {v : Int64} : mj_pf (hp M) 247 7 7 (.long v) = some (hp (wL M 247 7 v)) := pf_of (wL M 247 7 v) ((hp_at M _).trans hs_247) (Nat.le_of_ble_eq_true rfl) (mj_ok_l rfl) (by rw [rL_own]; exact hs_247) (fun i hi => by rw [rL_row hi]; rfl)
theorem gf_247_8 : mj_gf (hp M) 247 7 8 = some (.int (rI M 247 8)) := by
  unfold mj_gf
  rw [hp_at, hs_247]
  rfl
theorem pf_247_8 {v : Int32} : mj_pf (hp M) 247 7 8 (.int v) = some (hp (wI M 247 8 v)) := pf_of (wI M 247 8 v) ((hp_at M _).trans hs_247) (Nat.le_of_ble_eq_true rfl) (mj_ok_i rfl) (by rw [rI_own]; exact hs_247) (fun i hi => by rw [rI_row hi]; rfl)
theorem gf_247_9 : mj_gf (hp M) 247 7 9 = some (.long (rL M 247 9)) := by
  unfold mj_gf
  rw [hp_at, hs_247]
  rfl
theorem pf_247_9 {v : Int64} : mj_pf (hp M) 247 7 9 (.long v) = some (hp (wL M 247 9 v)) := pf_of (wL M 247 9 v) ((hp_at M _).trans hs_247) (Nat.le_of_ble_eq_true rfl) (mj_ok_l rfl) (by rw [rL_own]; exact hs_247) (fun i hi => by rw [rL_row hi]; rfl)
theorem rt_248 : isRt 248 := by unfold isRt; omega
set_option maxRecDepth 40000 in
theorem hs_253 {W : Nat × (Nat → Int32)} {fi : Nat → Int32} {fl : Nat → Int64} {fr : Nat → Nat} : hs W 253 fi fl fr = .inl (.int, 8, .inl fi) := rfl
theorem ai_253 (hk : k < 8) : mj_ai (hp M) 253 (nI k) = some (rI M 253 k) := ai_of ((hp_at M _).trans hs_253) (by omega) hk
theorem wi_253 {v : Int32} (hk : k < 8) : mj_wi (hp M) 253 (nI k) v = some (hp (wI M 253 k v)) := wi_of (by omega) (fun _ _ _ => hs_253) (by omega) hk
set_option maxRecDepth 40000 in
theorem hs_254 {W : Nat × (Nat → Int32)} {fi : Nat → Int32} {fl : Nat → Int64} {fr : Nat → Nat} : hs W 254 fi fl fr = .inl (.long, 8, .inr (.inl fl)) := rfl
theorem al_254 (hk : k < 8) : mj_al (hp M) 254 (nI k) = some (rL M 254 k) := al_of ((hp_at M _).trans hs_254) (by omega) hk
theorem wl_254 {v : Int64} (hk : k < 8) : mj_wl (hp M) 254 (nI k) v = some (hp (wL M 254 k v)) := wl_of (by omega) (fun _ _ _ => hs_254) (by omega) hk
set_option maxRecDepth 40000 in
theorem hs_255 {W : Nat × (Nat → Int32)} {fi : Nat → Int32} {fl : Nat → Int64} {fr : Nat → Nat} : hs W 255 fi fl fr = .inl (.int, 2601, .inl fi) := rfl
theorem ai_255 (hk : k < 2601) : mj_ai (hp M) 255 (nI k) = some (rI M 255 k) := ai_of ((hp_at M _).trans hs_255) (by omega) hk
theorem wi_255 {v : Int32} (hk : k < 2601) : mj_wi (hp M) 255 (nI k) v = some (hp (wI M 255 k v)) := wi_of (by omega) (fun _ _ _ => hs_255) (by omega) hk
set_option maxRecDepth 40000 in
theorem hs_256 {W : Nat × (Nat → Int32)} {fi : Nat → Int32} {fl : Nat → Int64} {fr : Nat → Nat} : hs W 256 fi fl fr = .inr (10, [.int (fi 0), .ref 257, .ref 258, .ref 259, .int (fi 4), .ref 260, .ref 261, .int (fi 7), .int (fi 8), .int (fi 9), .int (fi 10), .ref 262, .ref 263, .ref 264, .ref 265, .ref 266, .ref 267, .int (fi 17), .int (fi 18), .ref 268, .ref 269, .ref 270, .int (fi 22), .long (fl 23), .ref 271, .int (fi 25), .int (fi 26), .int (fi 27), .int (fi 28), .ref 272, .ref 273, .ref 274, .ref 275, .ref 276, .ref 277]) := rfl
theorem io_256 : mj_io (hp M) 256 10 = true := by
  unfold mj_io
  rw [hp_at, hs_256]
  rfl
theorem gf_256_0 : mj_gf (hp M) 256 10 0 = some (.int (rI M 256 0)) := by
  unfold mj_gf
  rw [hp_at, hs_256]
  rfl
theorem pf_256_0 {v : Int32} : mj_pf (hp M) 256 10 0 (.int v) = some (hp (wI M 256 0 v)) := pf_of (wI M 256 0 v) ((hp_at M _).trans hs_256) (Nat.le_of_ble_eq_true rfl) (mj_ok_i rfl) (by rw [rI_own]; exact hs_256) (fun i hi => by rw [rI_row hi]; rfl)
theorem gf_256_1 : mj_gf (hp M) 256 10 1 = some (.ref 257) := by
  unfold mj_gf
  rw [hp_at, hs_256]
  rfl
theorem gf_256_2 : mj_gf (hp M) 256 10 2 = some (.ref 258) := by
  unfold mj_gf
  rw [hp_at, hs_256]
  rfl
theorem gf_256_3 : mj_gf (hp M) 256 10 3 = some (.ref 259) := by
  unfold mj_gf
  rw [hp_at, hs_256]
  rfl
theorem gf_256_4 : mj_gf (hp M) 256 10 4 = some (.int (rI M 256 4)) := by
  unfold mj_gf
  rw [hp_at, hs_256]
  rfl
theorem pf_256_4 {v : Int32} : mj_pf (hp M) 256 10 4 (.int v) = some (hp (wI M 256 4 v)) := pf_of (wI M 256 4 v) ((hp_at M _).trans hs_256) (Nat.le_of_ble_eq_true rfl) (mj_ok_i rfl) (by rw [rI_own]; exact hs_256) (fun i hi => by rw [rI_row hi]; rfl)
theorem gf_256_5 : mj_gf (hp M) 256 10 5 = some (.ref 260) := by
  unfold mj_gf
  rw [hp_at, hs_256]
  rfl
theorem gf_256_6 : mj_gf (hp M) 256 10 6 = some (.ref 261) := by
  unfold mj_gf
  rw [hp_at, hs_256]
  rfl
theorem gf_256_7 : mj_gf (hp M) 256 10 7 = some (.int (rI M 256 7)) := by
  unfold mj_gf
  rw [hp_at, hs_256]
  rfl
theorem pf_256_7 {v : Int32} : mj_pf (hp M) 256 10 7 (.int v) = some (hp (wI M 256 7 v)) := pf_of (wI M 256 7 v) ((hp_at M _).trans hs_256) (Nat.le_of_ble_eq_true rfl) (mj_ok_i rfl) (by rw [rI_own]; exact hs_256) (fun i hi => by rw [rI_row hi]; rfl)
theorem gf_256_8 : mj_gf (hp M) 256 10 8 = some (.int (rI M 256 8)) := by
  unfold mj_gf
  rw [hp_at, hs_256]
  rfl
theorem pf_256_8 {v : Int32} : mj_pf (hp M) 256 10 8 (.int v) = some (hp (wI M 256 8 v)) := pf_of (wI M 256 8 v) ((hp_at M _).trans hs_256) (Nat.le_of_ble_eq_true rfl) (mj_ok_i rfl) (by rw [rI_own]; exact hs_256) (fun i hi => by rw [rI_row hi]; rfl)
theorem gf_256_9 : mj_gf (hp M) 256 10 9 = some (.int (rI M 256 9)) := by
  unfold mj_gf
  rw [hp_at, hs_256]
  rfl
theorem pf_256_9 {v : Int32} : mj_pf (hp M) 256 10 9 (.int v) = some (hp (wI M 256 9 v)) := pf_of (wI M 256 9 v) ((hp_at M _).trans hs_256) (Nat.le_of_ble_eq_true rfl) (mj_ok_i rfl) (by rw [rI_own]; exact hs_256) (fun i hi => by rw [rI_row hi]; rfl)
theorem gf_256_10 : mj_gf (hp M) 256 10 10 = some (.int (rI M 256 10)) := by
  unfold mj_gf
  rw [hp_at, hs_256]
  rfl
theorem pf_256_10 {v : Int32} : mj_pf (hp M) 256 10 10 (.int v) = some (hp (wI M 256 10 v)) := pf_of (wI M 256 10 v) ((hp_at M _).trans hs_256) (Nat.le_of_ble_eq_true rfl) (mj_ok_i rfl) (by rw [rI_own]; exact hs_256) (fun i hi => by rw [rI_row hi]; rfl)
theorem gf_256_11 : mj_gf (hp M) 256 10 11 = some (.ref 262) := by
  unfold mj_gf
  rw [hp_at, hs_256]
  rfl
theorem gf_256_12 : mj_gf (hp M) 256 10 12 = some (.ref 263) := by
  unfold mj_gf
  rw [hp_at, hs_256]
  rfl
theorem gf_256_13 : mj_gf (hp M) 256 10 13 = some (.ref 264) := by
  unfold mj_gf
  rw [hp_at, hs_256]
  rfl
theorem gf_256_14 : mj_gf (hp M) 256 10 14 = some (.ref 265) := by
  unfold mj_gf
  rw [hp_at, hs_256]
  rfl
theorem gf_256_15 : mj_gf (hp M) 256 10 15 = some (.ref 266) := by
  unfold mj_gf
  rw [hp_at, hs_256]
  rfl
theorem gf_256_16 : mj_gf (hp M) 256 10 16 = some (.ref 267) := by
  unfold mj_gf
  rw [hp_at, hs_256]
  rfl
theorem gf_256_17 : mj_gf (hp M) 256 10 17 = some (.int (rI M 256 17)) := by
  unfold mj_gf
  rw [hp_at, hs_256]
  rfl
theorem pf_256_17 {v : Int32} : mj_pf (hp M) 256 10 17 (.int v) = some (hp (wI M 256 17 v)) := pf_of (wI M 256 17 v) ((hp_at M _).trans hs_256) (Nat.le_of_ble_eq_true rfl) (mj_ok_i rfl) (by rw [rI_own]; exact hs_256) (fun i hi => by rw [rI_row hi]; rfl)
theorem gf_256_18 : mj_gf (hp M) 256 10 18 = some (.int (rI M 256 18)) := by
  unfold mj_gf
  rw [hp_at, hs_256]
  rfl
theorem pf_256_18 {v : Int32} : mj_pf (hp M) 256 10 18 (.int v) = some (hp (wI M 256 18 v)) := pf_of (wI M 256 18 v) ((hp_at M _).trans hs_256) (Nat.le_of_ble_eq_true rfl) (mj_ok_i rfl) (by rw [rI_own]; exact hs_256) (fun i hi => by rw [rI_row hi]; rfl)
theorem gf_256_19 : mj_gf (hp M) 256 10 19 = some (.ref 268) := by
  unfold mj_gf
  rw [hp_at, hs_256]
  rfl
theorem gf_256_20 : mj_gf (hp M) 256 10 20 = some (.ref 269) := by
  unfold mj_gf
  rw [hp_at, hs_256]
  rfl
theorem gf_256_21 : mj_gf (hp M) 256 10 21 = some (.ref 270) := by
  unfold mj_gf
  rw [hp_at, hs_256]
  rfl
theorem gf_256_22 : mj_gf (hp M) 256 10 22 = some (.int (rI M 256 22)) := by
  unfold mj_gf
  rw [hp_at, hs_256]
  rfl
theorem pf_256_22_0 : mj_pf (hp M) 256 10 22 (.int (nI 0)) = some (hp (wI M 256 22 (nI 0))) := pf_of (wI M 256 22 (nI 0)) ((hp_at M _).trans hs_256) (Nat.le_of_ble_eq_true rfl) (by decide +kernel) (by rw [rI_own]; exact hs_256) (fun i hi => by rw [rI_row hi]; rfl)
theorem pf_256_22_1 : mj_pf (hp M) 256 10 22 (.int (nI 1)) = some (hp (wI M 256 22 (nI 1))) := pf_of (wI M 256 22 (nI 1)) ((hp_at M _).trans hs_256) (Nat.le_of_ble_eq_true rfl) (by decide +kernel) (by rw [rI_own]; exact hs_256) (fun i hi => by rw [rI_row hi]; rfl)
theorem gf_256_23 : mj_gf (hp M) 256 10 23 = some (.long (rL M 256 23)) := by
  unfold mj_gf
  rw [hp_at, hs_256]
  rfl
theorem pf_256_23 {v : Int64} : mj_pf (hp M) 256 10 23 (.long v) = some (hp (wL M 256 23 v)) := pf_of (wL M 256 23 v) ((hp_at M _).trans hs_256) (Nat.le_of_ble_eq_true rfl) (mj_ok_l rfl) (by rw [rL_own]; exact hs_256) (fun i hi => by rw [rL_row hi]; rfl)
theorem gf_256_24 : mj_gf (hp M) 256 10 24 = some (.ref 271) := by
  unfold mj_gf
  rw [hp_at, hs_256]
  rfl
theorem gf_256_25 : mj_gf (hp M) 256 10 25 = some (.int (rI M 256 25)) := by
  unfold mj_gf
  rw [hp_at, hs_256]
  rfl
theorem pf_256_25_0 : mj_pf (hp M) 256 10 25 (.int (nI 0)) = some (hp (wI M 256 25 (nI 0))) := pf_of (wI M 256 25 (nI 0)) ((hp_at M _).trans hs_256) (Nat.le_of_ble_eq_true rfl) (by decide +kernel) (by rw [rI_own]; exact hs_256) (fun i hi => by rw [rI_row hi]; rfl)
theorem pf_256_25_1 : mj_pf (hp M) 256 10 25 (.int (nI 1)) = some (hp (wI M 256 25 (nI 1))) := pf_of (wI M 256 25 (nI 1)) ((hp_at M _).trans hs_256) (Nat.le_of_ble_eq_true rfl) (by decide +kernel) (by rw [rI_own]; exact hs_256) (fun i hi => by rw [rI_row hi]; rfl)
theorem gf_256_26 : mj_gf (hp M) 256 10 26 = some (.int (rI M 256 26)) := by
  unfold mj_gf
  rw [hp_at, hs_256]
  rfl
theorem pf_256_26 {v : Int32} : mj_pf (hp M) 256 10 26 (.int v) = some (hp (wI M 256 26 v)) := pf_of (wI M 256 26 v) ((hp_at M _).trans hs_256) (Nat.le_of_ble_eq_true rfl) (mj_ok_i rfl) (by rw [rI_own]; exact hs_256) (fun i hi => by rw [rI_row hi]; rfl)
theorem gf_256_27 : mj_gf (hp M) 256 10 27 = some (.int (rI M 256 27)) := by
  unfold mj_gf
  rw [hp_at, hs_256]
  rfl
theorem pf_256_27 {v : Int32} : mj_pf (hp M) 256 10 27 (.int v) = some (hp (wI M 256 27 v)) := pf_of (wI M 256 27 v) ((hp_at M _).trans hs_256) (Nat.le_of_ble_eq_true rfl) (mj_ok_i rfl) (by rw [rI_own]; exact hs_256) (fun i hi => by rw [rI_row hi]; rfl)
theorem gf_256_28 : mj_gf (hp M) 256 10 28 = some (.int (rI M 256 28)) := by
  unfold mj_gf
  rw [hp_at, hs_256]
  rfl
theorem pf_256_28 {v : Int32} : mj_pf (hp M) 256 10 28 (.int v) = some (hp (wI M 256 28 v)) := pf_of (wI M 256 28 v) ((hp_at M _).trans hs_256) (Nat.le_of_ble_eq_true rfl) (mj_ok_i rfl) (by rw [rI_own]; exact hs_256) (fun i hi => by rw [rI_row hi]; rfl)
theorem gf_256_29 : mj_gf (hp M) 256 10 29 = some (.ref 272) := by
  unfold mj_gf
  rw [hp_at, hs_256]
  rfl
theorem gf_256_30 : mj_gf (hp M) 256 10 30 = some (.ref 273) := by
  unfold mj_gf
  rw [hp_at, hs_256]
  rfl
theorem gf_256_31 : mj_gf (hp M) 256 10 31 = some (.ref 274) := by
  unfold mj_gf
  rw [hp_at, hs_256]
  rfl
theorem gf_256_32 : mj_gf (hp M) 256 10 32 = some (.ref 275) := by
  unfold mj_gf
  rw [hp_at, hs_256]
  rfl
theorem gf_256_33 : mj_gf (hp M) 256 10 33 = some (.ref 276) := by
  unfold mj_gf
  rw [hp_at, hs_256]
  rfl
theorem gf_256_34 : mj_gf (hp M) 256 10 34 = some (.ref 277) := by
  unfold mj_gf
  rw [hp_at, hs_256]
  rfl
set_option maxRecDepth 40000 in
theorem hs_257 {W : Nat × (Nat → Int32)} {fi : Nat → Int32} {fl : Nat → Int64} {fr : Nat → Nat} : hs W 257 fi fl fr = .inl (.int, 44, .inl fi) := rfl
theorem ai_257 (hk : k < 44) : mj_ai (hp M) 257 (nI k) = some (rI M 257 k) := ai_of ((hp_at M _).trans hs_257) (by omega) hk
theorem wi_257 {v : Int32} (hk : k < 44) : mj_wi (hp M) 257 (nI k) v = some (hp (wI M 257 k v)) := wi_of (by omega) (fun _ _ _ => hs_257) (by omega) hk
set_option maxRecDepth 40000 in
theorem hs_258 {W : Nat × (Nat → Int32)} {fi : Nat → Int32} {fl : Nat → Int64} {fr : Nat → Nat} : hs W 258 fi fl fr = .inl (.int, 8800, .inl fi) := rfl
theorem ai_258 (hk : k < 8800) : mj_ai (hp M) 258 (nI k) = some (rI M 258 k) := ai_of ((hp_at M _).trans hs_258) (by omega) hk
theorem wi_258 {v : Int32} (hk : k < 8800) : mj_wi (hp M) 258 (nI k) v = some (hp (wI M 258 k v)) := wi_of (by omega) (fun _ _ _ => hs_258) (by omega) hk
set_option maxRecDepth 40000 in
theorem hs_259 {W : Nat × (Nat → Int32)} {fi : Nat → Int32} {fl : Nat → Int64} {fr : Nat → Nat} : hs W 259 fi fl fr = .inl (.long, 16, .inr (.inl fl)) := rfl
theorem al_259 (hk : k < 16) : mj_al (hp M) 259 (nI k) = some (rL M 259 k) := al_of ((hp_at M _).trans hs_259) (by omega) hk
theorem wl_259 {v : Int64} (hk : k < 16) : mj_wl (hp M) 259 (nI k) v = some (hp (wL M 259 k v)) := wl_of (by omega) (fun _ _ _ => hs_259) (by omega) hk
set_option maxRecDepth 40000 in
theorem hs_260 {W : Nat × (Nat → Int32)} {fi : Nat → Int32} {fl : Nat → Int64} {fr : Nat → Nat} : hs W 260 fi fl fr = .inl (.long, 8, .inr (.inl fl)) := rfl
theorem al_260 (hk : k < 8) : mj_al (hp M) 260 (nI k) = some (rL M 260 k) := al_of ((hp_at M _).trans hs_260) (by omega) hk
theorem wl_260 {v : Int64} (hk : k < 8) : mj_wl (hp M) 260 (nI k) v = some (hp (wL M 260 k v)) := wl_of (by omega) (fun _ _ _ => hs_260) (by omega) hk
set_option maxRecDepth 40000 in
theorem hs_261 {W : Nat × (Nat → Int32)} {fi : Nat → Int32} {fl : Nat → Int64} {fr : Nat → Nat} : hs W 261 fi fl fr = .inl (.long, 200, .inr (.inl fl)) := rfl
theorem al_261 (hk : k < 200) : mj_al (hp M) 261 (nI k) = some (rL M 261 k) := al_of ((hp_at M _).trans hs_261) (by omega) hk
theorem wl_261 {v : Int64} (hk : k < 200) : mj_wl (hp M) 261 (nI k) v = some (hp (wL M 261 k v)) := wl_of (by omega) (fun _ _ _ => hs_261) (by omega) hk
set_option maxRecDepth 40000 in
theorem hs_262 {W : Nat × (Nat → Int32)} {fi : Nat → Int32} {fl : Nat → Int64} {fr : Nat → Nat} : hs W 262 fi fl fr = .inl (.int, 200, .inl fi) := rfl
theorem ai_262 (hk : k < 200) : mj_ai (hp M) 262 (nI k) = some (rI M 262 k) := ai_of ((hp_at M _).trans hs_262) (by omega) hk
theorem wi_262 {v : Int32} (hk : k < 200) : mj_wi (hp M) 262 (nI k) v = some (hp (wI M 262 k v)) := wi_of (by omega) (fun _ _ _ => hs_262) (by omega) hk
set_option maxRecDepth 40000 in
theorem hs_263 {W : Nat × (Nat → Int32)} {fi : Nat → Int32} {fl : Nat → Int64} {fr : Nat → Nat} : hs W 263 fi fl fr = .inl (.int, 200, .inl fi) := rfl
theorem ai_263 (hk : k < 200) : mj_ai (hp M) 263 (nI k) = some (rI M 263 k) := ai_of ((hp_at M _).trans hs_263) (by omega) hk
theorem wi_263 {v : Int32} (hk : k < 200) : mj_wi (hp M) 263 (nI k) v = some (hp (wI M 263 k v)) := wi_of (by omega) (fun _ _ _ => hs_263) (by omega) hk
set_option maxRecDepth 40000 in
theorem hs_264 {W : Nat × (Nat → Int32)} {fi : Nat → Int32} {fl : Nat → Int64} {fr : Nat → Nat} : hs W 264 fi fl fr = .inl (.int, 200, .inl fi) := rfl
theorem ai_264 (hk : k < 200) : mj_ai (hp M) 264 (nI k) = some (rI M 264 k) := ai_of ((hp_at M _).trans hs_264) (by omega) hk
theorem wi_264 {v : Int32} (hk : k < 200) : mj_wi (hp M) 264 (nI k) v = some (hp (wI M 264 k v)) := wi_of (by omega) (fun _ _ _ => hs_264) (by omega) hk
set_option maxRecDepth 40000 in
theorem hs_265 {W : Nat × (Nat → Int32)} {fi : Nat → Int32} {fl : Nat → Int64} {fr : Nat → Nat} : hs W 265 fi fl fr = .inl (.int, 200, .inl fi) := rfl
theorem ai_265 (hk : k < 200) : mj_ai (hp M) 265 (nI k) = some (rI M 265 k) := ai_of ((hp_at M _).trans hs_265) (by omega) hk
theorem wi_265 {v : Int32} (hk : k < 200) : mj_wi (hp M) 265 (nI k) v = some (hp (wI M 265 k v)) := wi_of (by omega) (fun _ _ _ => hs_265) (by omega) hk
set_option maxRecDepth 40000 in
theorem hs_266 {W : Nat × (Nat → Int32)} {fi : Nat → Int32} {fl : Nat → Int64} {fr : Nat → Nat} : hs W 266 fi fl fr = .inl (.int, 1600, .inl fi) := rfl
theorem ai_266 (hk : k < 1600) : mj_ai (hp M) 266 (nI k) = some (rI M 266 k) := ai_of ((hp_at M _).trans hs_266) (by omega) hk
theorem wi_266 {v : Int32} (hk : k < 1600) : mj_wi (hp M) 266 (nI k) v = some (hp (wI M 266 k v)) := wi_of (by omega) (fun _ _ _ => hs_266) (by omega) hk
set_option maxRecDepth 40000 in
theorem hs_267 {W : Nat × (Nat → Int32)} {fi : Nat → Int32} {fl : Nat → Int64} {fr : Nat → Nat} : hs W 267 fi fl fr = .inl (.long, 1600, .inr (.inl fl)) := rfl
theorem al_267 (hk : k < 1600) : mj_al (hp M) 267 (nI k) = some (rL M 267 k) := al_of ((hp_at M _).trans hs_267) (by omega) hk
theorem wl_267 {v : Int64} (hk : k < 1600) : mj_wl (hp M) 267 (nI k) v = some (hp (wL M 267 k v)) := wl_of (by omega) (fun _ _ _ => hs_267) (by omega) hk
set_option maxRecDepth 40000 in
theorem hs_268 {W : Nat × (Nat → Int32)} {fi : Nat → Int32} {fl : Nat → Int64} {fr : Nat → Nat} : hs W 268 fi fl fr = .inl (.boolean, 51, .inl fi) := rfl
theorem az_268 (hk : k < 51) : mj_az (hp M) 268 (nI k) = some (rI M 268 k) := az_of ((hp_at M _).trans hs_268) (by omega) hk
theorem wz_268 {v : Int32} (hk : k < 51) : mj_wz (hp M) 268 (nI k) v = some (hp (wI M 268 k (zv v))) := wz_of (by omega) (fun _ _ _ => hs_268) (by omega) hk
set_option maxRecDepth 40000 in
theorem hs_269 {W : Nat × (Nat → Int32)} {fi : Nat → Int32} {fl : Nat → Int64} {fr : Nat → Nat} : hs W 269 fi fl fr = .inl (.int, 408, .inl fi) := rfl
theorem ai_269 (hk : k < 408) : mj_ai (hp M) 269 (nI k) = some (rI M 269 k) := ai_of ((hp_at M _).trans hs_269) (by omega) hk
theorem wi_269 {v : Int32} (hk : k < 408) : mj_wi (hp M) 269 (nI k) v = some (hp (wI M 269 k v)) := wi_of (by omega) (fun _ _ _ => hs_269) (by omega) hk
set_option maxRecDepth 40000 in
theorem hs_270 {W : Nat × (Nat → Int32)} {fi : Nat → Int32} {fl : Nat → Int64} {fr : Nat → Nat} : hs W 270 fi fl fr = .inl (.long, 408, .inr (.inl fl)) := rfl
theorem al_270 (hk : k < 408) : mj_al (hp M) 270 (nI k) = some (rL M 270 k) := al_of ((hp_at M _).trans hs_270) (by omega) hk
theorem wl_270 {v : Int64} (hk : k < 408) : mj_wl (hp M) 270 (nI k) v = some (hp (wL M 270 k v)) := wl_of (by omega) (fun _ _ _ => hs_270) (by omega) hk
set_option maxRecDepth 40000 in
theorem hs_271 {W : Nat × (Nat → Int32)} {fi : Nat → Int32} {fl : Nat → Int64} {fr : Nat → Nat} : hs W 271 fi fl fr = .inl (.boolean, 408, .inl fi) := rfl
theorem az_271 (hk : k < 408) : mj_az (hp M) 271 (nI k) = some (rI M 271 k) := az_of ((hp_at M _).trans hs_271) (by omega) hk
theorem wz_271 {v : Int32} (hk : k < 408) : mj_wz (hp M) 271 (nI k) v = some (hp (wI M 271 k (zv v))) := wz_of (by omega) (fun _ _ _ => hs_271) (by omega) hk
set_option maxRecDepth 40000 in
theorem hs_272 {W : Nat × (Nat → Int32)} {fi : Nat → Int32} {fl : Nat → Int64} {fr : Nat → Nat} : hs W 272 fi fl fr = .inl (.int, 2, .inl fi) := rfl
theorem ai_272 (hk : k < 2) : mj_ai (hp M) 272 (nI k) = some (rI M 272 k) := ai_of ((hp_at M _).trans hs_272) (by omega) hk
theorem wi_272 {v : Int32} (hk : k < 2) : mj_wi (hp M) 272 (nI k) v = some (hp (wI M 272 k v)) := wi_of (by omega) (fun _ _ _ => hs_272) (by omega) hk
set_option maxRecDepth 40000 in
theorem hs_273 {W : Nat × (Nat → Int32)} {fi : Nat → Int32} {fl : Nat → Int64} {fr : Nat → Nat} : hs W 273 fi fl fr = .inl (.int, 2, .inl fi) := rfl
theorem ai_273 (hk : k < 2) : mj_ai (hp M) 273 (nI k) = some (rI M 273 k) := ai_of ((hp_at M _).trans hs_273) (by omega) hk
theorem wi_273 {v : Int32} (hk : k < 2) : mj_wi (hp M) 273 (nI k) v = some (hp (wI M 273 k v)) := wi_of (by omega) (fun _ _ _ => hs_273) (by omega) hk
set_option maxRecDepth 40000 in
theorem hs_274 {W : Nat × (Nat → Int32)} {fi : Nat → Int32} {fl : Nat → Int64} {fr : Nat → Nat} : hs W 274 fi fl fr = .inl (.int, 2, .inl fi) := rfl
theorem ai_274 (hk : k < 2) : mj_ai (hp M) 274 (nI k) = some (rI M 274 k) := ai_of ((hp_at M _).trans hs_274) (by omega) hk
theorem wi_274 {v : Int32} (hk : k < 2) : mj_wi (hp M) 274 (nI k) v = some (hp (wI M 274 k v)) := wi_of (by omega) (fun _ _ _ => hs_274) (by omega) hk
set_option maxRecDepth 40000 in
theorem hs_275 {W : Nat × (Nat → Int32)} {fi : Nat → Int32} {fl : Nat → Int64} {fr : Nat → Nat} : hs W 275 fi fl fr = .inl (.int, 2, .inl fi) := rfl
theorem ai_275 (hk : k < 2) : mj_ai (hp M) 275 (nI k) = some (rI M 275 k) := ai_of ((hp_at M _).trans hs_275) (by omega) hk
theorem wi_275 {v : Int32} (hk : k < 2) : mj_wi (hp M) 275 (nI k) v = some (hp (wI M 275 k v)) := wi_of (by omega) (fun _ _ _ => hs_275) (by omega) hk
set_option maxRecDepth 40000 in
theorem hs_276 {W : Nat × (Nat → Int32)} {fi : Nat → Int32} {fl : Nat → Int64} {fr : Nat → Nat} : hs W 276 fi fl fr = .inl (.int, 2, .inl fi) := rfl
theorem ai_276 (hk : k < 2) : mj_ai (hp M) 276 (nI k) = some (rI M 276 k) := ai_of ((hp_at M _).trans hs_276) (by omega) hk
theorem wi_276 {v : Int32} (hk : k < 2) : mj_wi (hp M) 276 (nI k) v = some (hp (wI M 276 k v)) := wi_of (by omega) (fun _ _ _ => hs_276) (by omega) hk
set_option maxRecDepth 40000 in
theorem hs_277 {W : Nat × (Nat → Int32)} {fi : Nat → Int32} {fl : Nat → Int64} {fr : Nat → Nat} : hs W 277 fi fl fr = .inl (.long, 2, .inr (.inl fl)) := rfl
theorem al_277 (hk : k < 2) : mj_al (hp M) 277 (nI k) = some (rL M 277 k) := al_of ((hp_at M _).trans hs_277) (by omega) hk
theorem wl_277 {v : Int64} (hk : k < 2) : mj_wl (hp M) 277 (nI k) v = some (hp (wL M 277 k v)) := wl_of (by omega) (fun _ _ _ => hs_277) (by omega) hk
theorem oaa_2 {f : Option Nat → Prop} (h : k < 40) : mj_op (mj_aa (hp M) 2 (nI k)) f = f (some (3 + 5 * k)) := by rw [aa_2 h]; rfl
theorem ogf_rt_0 {f : Value → Prop} (h : isRt o) : mj_op (mj_gf (hp M) o 6 0) f = f (.ref (o + 1)) := by rw [gf_rt_0 h]; rfl
theorem oai_rt_0 {f : Int32 → Prop} (h : isRt o) (hk : k < 50) : mj_op (mj_ai (hp M) (o + 1) (nI k)) f = f (rI M (o + 1) k) := by rw [ai_rt_0 h hk]; rfl
theorem owi_rt_0 {f : mj_H → Prop} {v : Int32} (h : isRt o) (hk : k < 50) : mj_op (mj_wi (hp M) (o + 1) (nI k) v) f = f (hp (wI M (o + 1) k v)) := by rw [wi_rt_0 h hk]; rfl
theorem ogf_rt_1 {f : Value → Prop} (h : isRt o) : mj_op (mj_gf (hp M) o 6 1) f = f (.ref (o + 2)) := by rw [gf_rt_1 h]; rfl
theorem oai_rt_1 {f : Int32 → Prop} (h : isRt o) (hk : k < 50) : mj_op (mj_ai (hp M) (o + 2) (nI k)) f = f (rI M (o + 2) k) := by rw [ai_rt_1 h hk]; rfl
theorem owi_rt_1 {f : mj_H → Prop} {v : Int32} (h : isRt o) (hk : k < 50) : mj_op (mj_wi (hp M) (o + 2) (nI k) v) f = f (hp (wI M (o + 2) k v)) := by rw [wi_rt_1 h hk]; rfl
theorem ogf_rt_2 {f : Value → Prop} (h : isRt o) : mj_op (mj_gf (hp M) o 6 2) f = f (.ref (o + 3)) := by rw [gf_rt_2 h]; rfl
theorem oai_rt_2 {f : Int32 → Prop} (h : isRt o) (hk : k < 50) : mj_op (mj_ai (hp M) (o + 3) (nI k)) f = f (rI M (o + 3) k) := by rw [ai_rt_2 h hk]; rfl
theorem owi_rt_2 {f : mj_H → Prop} {v : Int32} (h : isRt o) (hk : k < 50) : mj_op (mj_wi (hp M) (o + 3) (nI k) v) f = f (hp (wI M (o + 3) k v)) := by rw [wi_rt_2 h hk]; rfl
theorem ogf_rt_3 {f : Value → Prop} (h : isRt o) : mj_op (mj_gf (hp M) o 6 3) f = f (.ref (o + 4)) := by rw [gf_rt_3 h]; rfl
theorem oai_rt_3 {f : Int32 → Prop} (h : isRt o) (hk : k < 50) : mj_op (mj_ai (hp M) (o + 4) (nI k)) f = f (rI M (o + 4) k) := by rw [ai_rt_3 h hk]; rfl
theorem owi_rt_3 {f : mj_H → Prop} {v : Int32} (h : isRt o) (hk : k < 50) : mj_op (mj_wi (hp M) (o + 4) (nI k) v) f = f (hp (wI M (o + 4) k v)) := by rw [wi_rt_3 h hk]; rfl
theorem ogf_rt_4 {f : Value → Prop} (h : isRt o) : mj_op (mj_gf (hp M) o 6 4) f = f (.int (rI M o 4)) := by rw [gf_rt_4 h]; rfl
theorem opf_rt {f : mj_H → Prop} {v : Int32} (h : isRt o) : mj_op (mj_pf (hp M) o 6 4 (.int v)) f = f (hp (wI M o 4 v)) := by rw [pf_rt h]; rfl
theorem ogf_1_0 {f : Value → Prop}  : mj_op (mj_gf (hp M) 1 9 0) f = f (.ref 2) := by rw [gf_1_0]; rfl
theorem ogf_1_1 {f : Value → Prop}  : mj_op (mj_gf (hp M) 1 9 1) f = f (.int (rI M 1 1)) := by rw [gf_1_1]; rfl
theorem opf_1_1 {f : mj_H → Prop} {v : Int32} : mj_op (mj_pf (hp M) 1 9 1 (.int v)) f = f (hp (wI M 1 1 v)) := by rw [pf_1_1]; rfl
theorem ogf_1_2 {f : Value → Prop}  : mj_op (mj_gf (hp M) 1 9 2) f = f (.ref 203) := by rw [gf_1_2]; rfl
theorem ogf_1_3 {f : Value → Prop}  : mj_op (mj_gf (hp M) 1 9 3) f = f (.ref 210) := by rw [gf_1_3]; rfl
theorem ogf_1_4 {f : Value → Prop}  : mj_op (mj_gf (hp M) 1 9 4) f = f (.ref 212) := by rw [gf_1_4]; rfl
theorem ogf_1_5 {f : Value → Prop}  : mj_op (mj_gf (hp M) 1 9 5) f = f (.ref 227) := by rw [gf_1_5]; rfl
theorem ogf_1_6 {f : Value → Prop}  : mj_op (mj_gf (hp M) 1 9 6) f = f (.ref 231) := by rw [gf_1_6]; rfl
theorem ogf_1_7 {f : Value → Prop}  : mj_op (mj_gf (hp M) 1 9 7) f = f (.ref 238) := by rw [gf_1_7]; rfl
theorem ogf_203_0 {f : Value → Prop}  : mj_op (mj_gf (hp M) 203 1 0) f = f (.ref 204) := by rw [gf_203_0]; rfl
theorem ogf_203_1 {f : Value → Prop}  : mj_op (mj_gf (hp M) 203 1 1) f = f (.ref 205) := by rw [gf_203_1]; rfl
theorem ogf_203_2 {f : Value → Prop}  : mj_op (mj_gf (hp M) 203 1 2) f = f (.ref 206) := by rw [gf_203_2]; rfl
theorem ogf_203_3 {f : Value → Prop}  : mj_op (mj_gf (hp M) 203 1 3) f = f (.ref 207) := by rw [gf_203_3]; rfl
theorem ogf_203_4 {f : Value → Prop}  : mj_op (mj_gf (hp M) 203 1 4) f = f (.int (rI M 203 4)) := by rw [gf_203_4]; rfl
theorem opf_203_4_0 {f : mj_H → Prop}  : mj_op (mj_pf (hp M) 203 1 4 (.int (nI 0))) f = f (hp (wI M 203 4 (nI 0))) := by rw [pf_203_4_0]; rfl
theorem opf_203_4_1 {f : mj_H → Prop}  : mj_op (mj_pf (hp M) 203 1 4 (.int (nI 1))) f = f (hp (wI M 203 4 (nI 1))) := by rw [pf_203_4_1]; rfl
theorem ogf_203_5 {f : Value → Prop}  : mj_op (mj_gf (hp M) 203 1 5) f = f (.ref 208) := by rw [gf_203_5]; rfl
theorem ogf_203_6 {f : Value → Prop}  : mj_op (mj_gf (hp M) 203 1 6) f = f (.ref 209) := by rw [gf_203_6]; rfl
theorem oaz_204 {f : Int32 → Prop} (hk : k < 51) : mj_op (mj_az (hp M) 204 (nI k)) f = f (rI M 204 k) := by rw [az_204 hk]; rfl
theorem owz_204 {f : mj_H → Prop} {v : Int32} (hk : k < 51) : mj_op (mj_wz (hp M) 204 (nI k) v) f = f (hp (wI M 204 k (zv v))) := by rw [wz_204 hk]; rfl
theorem oaz_205 {f : Int32 → Prop} (hk : k < 408) : mj_op (mj_az (hp M) 205 (nI k)) f = f (rI M 205 k) := by rw [az_205 hk]; rfl
theorem owz_205 {f : mj_H → Prop} {v : Int32} (hk : k < 408) : mj_op (mj_wz (hp M) 205 (nI k) v) f = f (hp (wI M 205 k (zv v))) := by rw [wz_205 hk]; rfl
theorem oal_206 {f : Int64 → Prop} (hk : k < 408) : mj_op (mj_al (hp M) 206 (nI k)) f = f (rL M 206 k) := by rw [al_206 hk]; rfl
theorem owl_206 {f : mj_H → Prop} {v : Int64} (hk : k < 408) : mj_op (mj_wl (hp M) 206 (nI k) v) f = f (hp (wL M 206 k v)) := by rw [wl_206 hk]; rfl
theorem oaz_207 {f : Int32 → Prop} (hk : k < 51) : mj_op (mj_az (hp M) 207 (nI k)) f = f (rI M 207 k) := by rw [az_207 hk]; rfl
theorem owz_207 {f : mj_H → Prop} {v : Int32} (hk : k < 51) : mj_op (mj_wz (hp M) 207 (nI k) v) f = f (hp (wI M 207 k (zv v))) := by rw [wz_207 hk]; rfl
theorem oaz_208 {f : Int32 → Prop} (hk : k < 8) : mj_op (mj_az (hp M) 208 (nI k)) f = f (rI M 208 k) := by rw [az_208 hk]; rfl
theorem owz_208 {f : mj_H → Prop} {v : Int32} (hk : k < 8) : mj_op (mj_wz (hp M) 208 (nI k) v) f = f (hp (wI M 208 k (zv v))) := by rw [wz_208 hk]; rfl
theorem oal_209 {f : Int64 → Prop} (hk : k < 8) : mj_op (mj_al (hp M) 209 (nI k)) f = f (rL M 209 k) := by rw [al_209 hk]; rfl
theorem owl_209 {f : mj_H → Prop} {v : Int64} (hk : k < 8) : mj_op (mj_wl (hp M) 209 (nI k) v) f = f (hp (wL M 209 k v)) := by rw [wl_209 hk]; rfl
theorem ogf_210_0 {f : Value → Prop}  : mj_op (mj_gf (hp M) 210 3 0) f = f (.ref 211) := by rw [gf_210_0]; rfl
theorem oai_211 {f : Int32 → Prop} (hk : k < 51) : mj_op (mj_ai (hp M) 211 (nI k)) f = f (rI M 211 k) := by rw [ai_211 hk]; rfl
theorem owi_211 {f : mj_H → Prop} {v : Int32} (hk : k < 51) : mj_op (mj_wi (hp M) 211 (nI k) v) f = f (hp (wI M 211 k v)) := by rw [wi_211 hk]; rfl
theorem ogf_212_0 {f : Value → Prop}  : mj_op (mj_gf (hp M) 212 4 0) f = f (.ref 203) := by rw [gf_212_0]; rfl
theorem ogf_212_1 {f : Value → Prop}  : mj_op (mj_gf (hp M) 212 4 1) f = f (.ref 210) := by rw [gf_212_1]; rfl
theorem ogf_212_2 {f : Value → Prop}  : mj_op (mj_gf (hp M) 212 4 2) f = f (.ref 213) := by rw [gf_212_2]; rfl
theorem ogf_212_3 {f : Value → Prop}  : mj_op (mj_gf (hp M) 212 4 3) f = f (.ref 216) := by rw [gf_212_3]; rfl
theorem ogf_212_4 {f : Value → Prop}  : mj_op (mj_gf (hp M) 212 4 4) f = f (.ref 217) := by rw [gf_212_4]; rfl
theorem ogf_212_5 {f : Value → Prop}  : mj_op (mj_gf (hp M) 212 4 5) f = f (.ref 222) := by rw [gf_212_5]; rfl
theorem ogf_213_0 {f : Value → Prop}  : mj_op (mj_gf (hp M) 213 2 0) f = f (.ref 214) := by rw [gf_213_0]; rfl
theorem ogf_213_1 {f : Value → Prop}  : mj_op (mj_gf (hp M) 213 2 1) f = f (.ref 215) := by rw [gf_213_1]; rfl
theorem oai_214 {f : Int32 → Prop} (hk : k < 51) : mj_op (mj_ai (hp M) 214 (nI k)) f = f (rI M 214 k) := by rw [ai_214 hk]; rfl
theorem owi_214 {f : mj_H → Prop} {v : Int32} (hk : k < 51) : mj_op (mj_wi (hp M) 214 (nI k) v) f = f (hp (wI M 214 k v)) := by rw [wi_214 hk]; rfl
theorem oai_215 {f : Int32 → Prop} (hk : k < 51) : mj_op (mj_ai (hp M) 215 (nI k)) f = f (rI M 215 k) := by rw [ai_215 hk]; rfl
theorem owi_215 {f : mj_H → Prop} {v : Int32} (hk : k < 51) : mj_op (mj_wi (hp M) 215 (nI k) v) f = f (hp (wI M 215 k v)) := by rw [wi_215 hk]; rfl
theorem oai_216 {f : Int32 → Prop} (hk : k < 51) : mj_op (mj_ai (hp M) 216 (nI k)) f = f (rI M 216 k) := by rw [ai_216 hk]; rfl
theorem owi_216 {f : mj_H → Prop} {v : Int32} (hk : k < 51) : mj_op (mj_wi (hp M) 216 (nI k) v) f = f (hp (wI M 216 k v)) := by rw [wi_216 hk]; rfl
theorem ogf_227_0 {f : Value → Prop}  : mj_op (mj_gf (hp M) 227 5 0) f = f (.ref 228) := by rw [gf_227_0]; rfl
theorem ogf_227_1 {f : Value → Prop}  : mj_op (mj_gf (hp M) 227 5 1) f = f (.int (rI M 227 1)) := by rw [gf_227_1]; rfl
theorem opf_227_1 {f : mj_H → Prop} {v : Int32} : mj_op (mj_pf (hp M) 227 5 1 (.int v)) f = f (hp (wI M 227 1 v)) := by rw [pf_227_1]; rfl
theorem ogf_227_2 {f : Value → Prop}  : mj_op (mj_gf (hp M) 227 5 2) f = f (.ref 229) := by rw [gf_227_2]; rfl
theorem ogf_227_3 {f : Value → Prop}  : mj_op (mj_gf (hp M) 227 5 3) f = f (.ref 230) := by rw [gf_227_3]; rfl
theorem ogf_227_4 {f : Value → Prop}  : mj_op (mj_gf (hp M) 227 5 4) f = f (.int (rI M 227 4)) := by rw [gf_227_4]; rfl
theorem opf_227_4 {f : mj_H → Prop} {v : Int32} : mj_op (mj_pf (hp M) 227 5 4 (.int v)) f = f (hp (wI M 227 4 v)) := by rw [pf_227_4]; rfl
theorem ogf_227_5 {f : Value → Prop}  : mj_op (mj_gf (hp M) 227 5 5) f = f (.int (rI M 227 5)) := by rw [gf_227_5]; rfl
theorem opf_227_5 {f : mj_H → Prop} {v : Int32} : mj_op (mj_pf (hp M) 227 5 5 (.int v)) f = f (hp (wI M 227 5 v)) := by rw [pf_227_5]; rfl
theorem ogf_227_6 {f : Value → Prop}  : mj_op (mj_gf (hp M) 227 5 6) f = f (.int (rI M 227 6)) := by rw [gf_227_6]; rfl
theorem opf_227_6 {f : mj_H → Prop} {v : Int32} : mj_op (mj_pf (hp M) 227 5 6 (.int v)) f = f (hp (wI M 227 6 v)) := by rw [pf_227_6]; rfl
theorem oal_228 {f : Int64 → Prop} (hk : k < 16) : mj_op (mj_al (hp M) 228 (nI k)) f = f (rL M 228 k) := by rw [al_228 hk]; rfl
theorem owl_228 {f : mj_H → Prop} {v : Int64} (hk : k < 16) : mj_op (mj_wl (hp M) 228 (nI k) v) f = f (hp (wL M 228 k v)) := by rw [wl_228 hk]; rfl
theorem oal_229 {f : Int64 → Prop} (hk : k < 8) : mj_op (mj_al (hp M) 229 (nI k)) f = f (rL M 229 k) := by rw [al_229 hk]; rfl
theorem owl_229 {f : mj_H → Prop} {v : Int64} (hk : k < 8) : mj_op (mj_wl (hp M) 229 (nI k) v) f = f (hp (wL M 229 k v)) := by rw [wl_229 hk]; rfl
theorem oal_230 {f : Int64 → Prop} (hk : k < 200) : mj_op (mj_al (hp M) 230 (nI k)) f = f (rL M 230 k) := by rw [al_230 hk]; rfl
theorem owl_230 {f : mj_H → Prop} {v : Int64} (hk : k < 200) : mj_op (mj_wl (hp M) 230 (nI k) v) f = f (hp (wL M 230 k v)) := by rw [wl_230 hk]; rfl
theorem ogf_231_0 {f : Value → Prop}  : mj_op (mj_gf (hp M) 231 8 0) f = f (.ref 232) := by rw [gf_231_0]; rfl
theorem ogf_231_1 {f : Value → Prop}  : mj_op (mj_gf (hp M) 231 8 1) f = f (.ref 233) := by rw [gf_231_1]; rfl
theorem ogf_231_2 {f : Value → Prop}  : mj_op (mj_gf (hp M) 231 8 2) f = f (.ref 234) := by rw [gf_231_2]; rfl
theorem ogf_231_3 {f : Value → Prop}  : mj_op (mj_gf (hp M) 231 8 3) f = f (.ref 235) := by rw [gf_231_3]; rfl
theorem ogf_231_4 {f : Value → Prop}  : mj_op (mj_gf (hp M) 231 8 4) f = f (.ref 236) := by rw [gf_231_4]; rfl
theorem ogf_231_5 {f : Value → Prop}  : mj_op (mj_gf (hp M) 231 8 5) f = f (.ref 237) := by rw [gf_231_5]; rfl
theorem ogf_231_6 {f : Value → Prop}  : mj_op (mj_gf (hp M) 231 8 6) f = f (.int (rI M 231 6)) := by rw [gf_231_6]; rfl
theorem opf_231_6 {f : mj_H → Prop} {v : Int32} : mj_op (mj_pf (hp M) 231 8 6 (.int v)) f = f (hp (wI M 231 6 v)) := by rw [pf_231_6]; rfl
theorem oai_232 {f : Int32 → Prop} (hk : k < 200) : mj_op (mj_ai (hp M) 232 (nI k)) f = f (rI M 232 k) := by rw [ai_232 hk]; rfl
theorem owi_232 {f : mj_H → Prop} {v : Int32} (hk : k < 200) : mj_op (mj_wi (hp M) 232 (nI k) v) f = f (hp (wI M 232 k v)) := by rw [wi_232 hk]; rfl
theorem oai_233 {f : Int32 → Prop} (hk : k < 200) : mj_op (mj_ai (hp M) 233 (nI k)) f = f (rI M 233 k) := by rw [ai_233 hk]; rfl
theorem owi_233 {f : mj_H → Prop} {v : Int32} (hk : k < 200) : mj_op (mj_wi (hp M) 233 (nI k) v) f = f (hp (wI M 233 k v)) := by rw [wi_233 hk]; rfl
theorem oai_234 {f : Int32 → Prop} (hk : k < 200) : mj_op (mj_ai (hp M) 234 (nI k)) f = f (rI M 234 k) := by rw [ai_234 hk]; rfl
theorem owi_234 {f : mj_H → Prop} {v : Int32} (hk : k < 200) : mj_op (mj_wi (hp M) 234 (nI k) v) f = f (hp (wI M 234 k v)) := by rw [wi_234 hk]; rfl
theorem oai_235 {f : Int32 → Prop} (hk : k < 200) : mj_op (mj_ai (hp M) 235 (nI k)) f = f (rI M 235 k) := by rw [ai_235 hk]; rfl
theorem owi_235 {f : mj_H → Prop} {v : Int32} (hk : k < 200) : mj_op (mj_wi (hp M) 235 (nI k) v) f = f (hp (wI M 235 k v)) := by rw [wi_235 hk]; rfl
theorem oai_236 {f : Int32 → Prop} (hk : k < 1600) : mj_op (mj_ai (hp M) 236 (nI k)) f = f (rI M 236 k) := by rw [ai_236 hk]; rfl
theorem owi_236 {f : mj_H → Prop} {v : Int32} (hk : k < 1600) : mj_op (mj_wi (hp M) 236 (nI k) v) f = f (hp (wI M 236 k v)) := by rw [wi_236 hk]; rfl
theorem oal_237 {f : Int64 → Prop} (hk : k < 1600) : mj_op (mj_al (hp M) 237 (nI k)) f = f (rL M 237 k) := by rw [al_237 hk]; rfl
theorem owl_237 {f : mj_H → Prop} {v : Int64} (hk : k < 1600) : mj_op (mj_wl (hp M) 237 (nI k) v) f = f (hp (wL M 237 k v)) := by rw [wl_237 hk]; rfl
theorem ogf_238_0 {f : Value → Prop}  : mj_op (mj_gf (hp M) 238 0 0) f = f (.ref 231) := by rw [gf_238_0]; rfl
theorem ogf_238_1 {f : Value → Prop}  : mj_op (mj_gf (hp M) 238 0 1) f = f (.ref 239) := by rw [gf_238_1]; rfl
theorem ogf_238_2 {f : Value → Prop}  : mj_op (mj_gf (hp M) 238 0 2) f = f (.ref 247) := by rw [gf_238_2]; rfl
theorem ogf_238_3 {f : Value → Prop}  : mj_op (mj_gf (hp M) 238 0 3) f = f (.ref 255) := by rw [gf_238_3]; rfl
theorem ogf_238_4 {f : Value → Prop}  : mj_op (mj_gf (hp M) 238 0 4) f = f (.int (rI M 238 4)) := by rw [gf_238_4]; rfl
theorem opf_238_4 {f : mj_H → Prop} {v : Int32} : mj_op (mj_pf (hp M) 238 0 4 (.int v)) f = f (hp (wI M 238 4 v)) := by rw [pf_238_4]; rfl
theorem ogf_239_0 {f : Value → Prop}  : mj_op (mj_gf (hp M) 239 7 0) f = f (.int (rI M 239 0)) := by rw [gf_239_0]; rfl
theorem opf_239_0 {f : mj_H → Prop} {v : Int32} : mj_op (mj_pf (hp M) 239 7 0 (.int v)) f = f (hp (wI M 239 0 v)) := by rw [pf_239_0]; rfl
theorem ogf_239_1 {f : Value → Prop}  : mj_op (mj_gf (hp M) 239 7 1) f = f (.ref (rR M 239 1)) := by rw [gf_239_1]; rfl
theorem opf_239_1 {f : mj_H → Prop} {v : Nat} : mj_op (mj_pf (hp M) 239 7 1 (.ref v)) f = f (hp (wR M 239 1 v)) := by rw [pf_239_1]; rfl
theorem ogf_239_2 {f : Value → Prop}  : mj_op (mj_gf (hp M) 239 7 2) f = f (.int (rI M 239 2)) := by rw [gf_239_2]; rfl
theorem opf_239_2 {f : mj_H → Prop} {v : Int32} : mj_op (mj_pf (hp M) 239 7 2 (.int v)) f = f (hp (wI M 239 2 v)) := by rw [pf_239_2]; rfl
theorem ogf_239_3 {f : Value → Prop}  : mj_op (mj_gf (hp M) 239 7 3) f = f (.ref 245) := by rw [gf_239_3]; rfl
theorem ogf_239_4 {f : Value → Prop}  : mj_op (mj_gf (hp M) 239 7 4) f = f (.ref 246) := by rw [gf_239_4]; rfl
theorem ogf_239_5 {f : Value → Prop}  : mj_op (mj_gf (hp M) 239 7 5) f = f (.int (rI M 239 5)) := by rw [gf_239_5]; rfl
theorem opf_239_5 {f : mj_H → Prop} {v : Int32} : mj_op (mj_pf (hp M) 239 7 5 (.int v)) f = f (hp (wI M 239 5 v)) := by rw [pf_239_5]; rfl
theorem ogf_239_6 {f : Value → Prop}  : mj_op (mj_gf (hp M) 239 7 6) f = f (.int (rI M 239 6)) := by rw [gf_239_6]; rfl
theorem opf_239_6 {f : mj_H → Prop} {v : Int32} : mj_op (mj_pf (hp M) 239 7 6 (.int v)) f = f (hp (wI M 239 6 v)) := by rw [pf_239_6]; rfl
theorem ogf_239_7 {f : Value → Prop}  : mj_op (mj_gf (hp M) 239 7 7) f = f (.long (rL M 239 7)) := by rw [gf_239_7]; rfl
theorem opf_239_7 {f : mj_H → Prop} {v : Int64} : mj_op (mj_pf (hp M) 239 7 7 (.long v)) f = f (hp (wL M 239 7 v)) := by rw [pf_239_7]; rfl
theorem ogf_239_8 {f : Value → Prop}  : mj_op (mj_gf (hp M) 239 7 8) f = f (.int (rI M 239 8)) := by rw [gf_239_8]; rfl
theorem opf_239_8 {f : mj_H → Prop} {v : Int32} : mj_op (mj_pf (hp M) 239 7 8 (.int v)) f = f (hp (wI M 239 8 v)) := by rw [pf_239_8]; rfl
theorem ogf_239_9 {f : Value → Prop}  : mj_op (mj_gf (hp M) 239 7 9) f = f (.long (rL M 239 9)) := by rw [gf_239_9]; rfl
theorem opf_239_9 {f : mj_H → Prop} {v : Int64} : mj_op (mj_pf (hp M) 239 7 9 (.long v)) f = f (hp (wL M 239 9 v)) := by rw [pf_239_9]; rfl
theorem oai_245 {f : Int32 → Prop} (hk : k < 8) : mj_op (mj_ai (hp M) 245 (nI k)) f = f (rI M 245 k) := by rw [ai_245 hk]; rfl
theorem owi_245 {f : mj_H → Prop} {v : Int32} (hk : k < 8) : mj_op (mj_wi (hp M) 245 (nI k) v) f = f (hp (wI M 245 k v)) := by rw [wi_245 hk]; rfl
theorem oal_246 {f : Int64 → Prop} (hk : k < 8) : mj_op (mj_al (hp M) 246 (nI k)) f = f (rL M 246 k) := by rw [al_246 hk]; rfl
theorem owl_246 {f : mj_H → Prop} {v : Int64} (hk : k < 8) : mj_op (mj_wl (hp M) 246 (nI k) v) f = f (hp (wL M 246 k v)) := by rw [wl_246 hk]; rfl
theorem ogf_247_0 {f : Value → Prop}  : mj_op (mj_gf (hp M) 247 7 0) f = f (.int (rI M 247 0)) := by rw [gf_247_0]; rfl
theorem opf_247_0 {f : mj_H → Prop} {v : Int32} : mj_op (mj_pf (hp M) 247 7 0 (.int v)) f = f (hp (wI M 247 0 v)) := by rw [pf_247_0]; rfl
theorem ogf_247_1 {f : Value → Prop}  : mj_op (mj_gf (hp M) 247 7 1) f = f (.ref (rR M 247 1)) := by rw [gf_247_1]; rfl
theorem opf_247_1 {f : mj_H → Prop} {v : Nat} : mj_op (mj_pf (hp M) 247 7 1 (.ref v)) f = f (hp (wR M 247 1 v)) := by rw [pf_247_1]; rfl
theorem ogf_247_2 {f : Value → Prop}  : mj_op (mj_gf (hp M) 247 7 2) f = f (.int (rI M 247 2)) := by rw [gf_247_2]; rfl
theorem opf_247_2 {f : mj_H → Prop} {v : Int32} : mj_op (mj_pf (hp M) 247 7 2 (.int v)) f = f (hp (wI M 247 2 v)) := by rw [pf_247_2]; rfl
theorem ogf_247_3 {f : Value → Prop}  : mj_op (mj_gf (hp M) 247 7 3) f = f (.ref 253) := by rw [gf_247_3]; rfl
theorem ogf_247_4 {f : Value → Prop}  : mj_op (mj_gf (hp M) 247 7 4) f = f (.ref 254) := by rw [gf_247_4]; rfl
theorem ogf_247_5 {f : Value → Prop}  : mj_op (mj_gf (hp M) 247 7 5) f = f (.int (rI M 247 5)) := by rw [gf_247_5]; rfl
theorem opf_247_5 {f : mj_H → Prop} {v : Int32} : mj_op (mj_pf (hp M) 247 7 5 (.int v)) f = f (hp (wI M 247 5 v)) := by rw [pf_247_5]; rfl
theorem ogf_247_6 {f : Value → Prop}  : mj_op (mj_gf (hp M) 247 7 6) f = f (.int (rI M 247 6)) := by rw [gf_247_6]; rfl
theorem opf_247_6 {f : mj_H → Prop} {v : Int32} : mj_op (mj_pf (hp M) 247 7 6 (.int v)) f = f (hp (wI M 247 6 v)) := by rw [pf_247_6]; rfl
theorem ogf_247_7 {f : Value → Prop}  : mj_op (mj_gf (hp M) 247 7 7) f = f (.long (rL M 247 7)) := by rw [gf_247_7]; rfl
theorem opf_247_7 {f : mj_H → Prop} {v : Int64} : mj_op (mj_pf (hp M) 247 7 7 (.long v)) f = f (hp (wL M 247 7 v)) := by rw [pf_247_7]; rfl
theorem ogf_247_8 {f : Value → Prop}  : mj_op (mj_gf (hp M) 247 7 8) f = f (.int (rI M 247 8)) := by rw [gf_247_8]; rfl
theorem opf_247_8 {f : mj_H → Prop} {v : Int32} : mj_op (mj_pf (hp M) 247 7 8 (.int v)) f = f (hp (wI M 247 8 v)) := by rw [pf_247_8]; rfl
theorem ogf_247_9 {f : Value → Prop}  : mj_op (mj_gf (hp M) 247 7 9) f = f (.long (rL M 247 9)) := by rw [gf_247_9]; rfl
theorem opf_247_9 {f : mj_H → Prop} {v : Int64} : mj_op (mj_pf (hp M) 247 7 9 (.long v)) f = f (hp (wL M 247 9 v)) := by rw [pf_247_9]; rfl
theorem oai_253 {f : Int32 → Prop} (hk : k < 8) : mj_op (mj_ai (hp M) 253 (nI k)) f = f (rI M 253 k) := by rw [ai_253 hk]; rfl
theorem owi_253 {f : mj_H → Prop} {v : Int32} (hk : k < 8) : mj_op (mj_wi (hp M) 253 (nI k) v) f = f (hp (wI M 253 k v)) := by rw [wi_253 hk]; rfl
theorem oal_254 {f : Int64 → Prop} (hk : k < 8) : mj_op (mj_al (hp M) 254 (nI k)) f = f (rL M 254 k) := by rw [al_254 hk]; rfl
theorem owl_254 {f : mj_H → Prop} {v : Int64} (hk : k < 8) : mj_op (mj_wl (hp M) 254 (nI k) v) f = f (hp (wL M 254 k v)) := by rw [wl_254 hk]; rfl
theorem oai_255 {f : Int32 → Prop} (hk : k < 2601) : mj_op (mj_ai (hp M) 255 (nI k)) f = f (rI M 255 k) := by rw [ai_255 hk]; rfl
theorem owi_255 {f : mj_H → Prop} {v : Int32} (hk : k < 2601) : mj_op (mj_wi (hp M) 255 (nI k) v) f = f (hp (wI M 255 k v)) := by rw [wi_255 hk]; rfl
theorem ogf_256_0 {f : Value → Prop}  : mj_op (mj_gf (hp M) 256 10 0) f = f (.int (rI M 256 0)) := by rw [gf_256_0]; rfl
theorem opf_256_0 {f : mj_H → Prop} {v : Int32} : mj_op (mj_pf (hp M) 256 10 0 (.int v)) f = f (hp (wI M 256 0 v)) := by rw [pf_256_0]; rfl
theorem ogf_256_1 {f : Value → Prop}  : mj_op (mj_gf (hp M) 256 10 1) f = f (.ref 257) := by rw [gf_256_1]; rfl
theorem ogf_256_2 {f : Value → Prop}  : mj_op (mj_gf (hp M) 256 10 2) f = f (.ref 258) := by rw [gf_256_2]; rfl
theorem ogf_256_3 {f : Value → Prop}  : mj_op (mj_gf (hp M) 256 10 3) f = f (.ref 259) := by rw [gf_256_3]; rfl
theorem ogf_256_4 {f : Value → Prop}  : mj_op (mj_gf (hp M) 256 10 4) f = f (.int (rI M 256 4)) := by rw [gf_256_4]; rfl
theorem opf_256_4 {f : mj_H → Prop} {v : Int32} : mj_op (mj_pf (hp M) 256 10 4 (.int v)) f = f (hp (wI M 256 4 v)) := by rw [pf_256_4]; rfl
theorem ogf_256_5 {f : Value → Prop}  : mj_op (mj_gf (hp M) 256 10 5) f = f (.ref 260) := by rw [gf_256_5]; rfl
theorem ogf_256_6 {f : Value → Prop}  : mj_op (mj_gf (hp M) 256 10 6) f = f (.ref 261) := by rw [gf_256_6]; rfl
theorem ogf_256_7 {f : Value → Prop}  : mj_op (mj_gf (hp M) 256 10 7) f = f (.int (rI M 256 7)) := by rw [gf_256_7]; rfl
theorem opf_256_7 {f : mj_H → Prop} {v : Int32} : mj_op (mj_pf (hp M) 256 10 7 (.int v)) f = f (hp (wI M 256 7 v)) := by rw [pf_256_7]; rfl
theorem ogf_256_8 {f : Value → Prop}  : mj_op (mj_gf (hp M) 256 10 8) f = f (.int (rI M 256 8)) := by rw [gf_256_8]; rfl
theorem opf_256_8 {f : mj_H → Prop} {v : Int32} : mj_op (mj_pf (hp M) 256 10 8 (.int v)) f = f (hp (wI M 256 8 v)) := by rw [pf_256_8]; rfl
theorem ogf_256_9 {f : Value → Prop}  : mj_op (mj_gf (hp M) 256 10 9) f = f (.int (rI M 256 9)) := by rw [gf_256_9]; rfl
theorem opf_256_9 {f : mj_H → Prop} {v : Int32} : mj_op (mj_pf (hp M) 256 10 9 (.int v)) f = f (hp (wI M 256 9 v)) := by rw [pf_256_9]; rfl
theorem ogf_256_10 {f : Value → Prop}  : mj_op (mj_gf (hp M) 256 10 10) f = f (.int (rI M 256 10)) := by rw [gf_256_10]; rfl
theorem opf_256_10 {f : mj_H → Prop} {v : Int32} : mj_op (mj_pf (hp M) 256 10 10 (.int v)) f = f (hp (wI M 256 10 v)) := by rw [pf_256_10]; rfl
theorem ogf_256_11 {f : Value → Prop}  : mj_op (mj_gf (hp M) 256 10 11) f = f (.ref 262) := by rw [gf_256_11]; rfl
theorem ogf_256_12 {f : Value → Prop}  : mj_op (mj_gf (hp M) 256 10 12) f = f (.ref 263) := by rw [gf_256_12]; rfl
theorem ogf_256_13 {f : Value → Prop}  : mj_op (mj_gf (hp M) 256 10 13) f = f (.ref 264) := by rw [gf_256_13]; rfl
theorem ogf_256_14 {f : Value → Prop}  : mj_op (mj_gf (hp M) 256 10 14) f = f (.ref 265) := by rw [gf_256_14]; rfl
theorem ogf_256_15 {f : Value → Prop}  : mj_op (mj_gf (hp M) 256 10 15) f = f (.ref 266) := by rw [gf_256_15]; rfl
theorem ogf_256_16 {f : Value → Prop}  : mj_op (mj_gf (hp M) 256 10 16) f = f (.ref 267) := by rw [gf_256_16]; rfl
theorem ogf_256_17 {f : Value → Prop}  : mj_op (mj_gf (hp M) 256 10 17) f = f (.int (rI M 256 17)) := by rw [gf_256_17]; rfl
theorem opf_256_17 {f : mj_H → Prop} {v : Int32} : mj_op (mj_pf (hp M) 256 10 17 (.int v)) f = f (hp (wI M 256 17 v)) := by rw [pf_256_17]; rfl
theorem ogf_256_18 {f : Value → Prop}  : mj_op (mj_gf (hp M) 256 10 18) f = f (.int (rI M 256 18)) := by rw [gf_256_18]; rfl
theorem opf_256_18 {f : mj_H → Prop} {v : Int32} : mj_op (mj_pf (hp M) 256 10 18 (.int v)) f = f (hp (wI M 256 18 v)) := by rw [pf_256_18]; rfl
theorem ogf_256_19 {f : Value → Prop}  : mj_op (mj_gf (hp M) 256 10 19) f = f (.ref 268) := by rw [gf_256_19]; rfl
theorem ogf_256_20 {f : Value → Prop}  : mj_op (mj_gf (hp M) 256 10 20) f = f (.ref 269) := by rw [gf_256_20]; rfl
theorem ogf_256_21 {f : Value → Prop}  : mj_op (mj_gf (hp M) 256 10 21) f = f (.ref 270) := by rw [gf_256_21]; rfl
theorem ogf_256_22 {f : Value → Prop}  : mj_op (mj_gf (hp M) 256 10 22) f = f (.int (rI M 256 22)) := by rw [gf_256_22]; rfl
theorem opf_256_22_0 {f : mj_H → Prop}  : mj_op (mj_pf (hp M) 256 10 22 (.int (nI 0))) f = f (hp (wI M 256 22 (nI 0))) := by rw [pf_256_22_0]; rfl
theorem opf_256_22_1 {f : mj_H → Prop}  : mj_op (mj_pf (hp M) 256 10 22 (.int (nI 1))) f = f (hp (wI M 256 22 (nI 1))) := by rw [pf_256_22_1]; rfl
theorem ogf_256_23 {f : Value → Prop}  : mj_op (mj_gf (hp M) 256 10 23) f = f (.long (rL M 256 23)) := by rw [gf_256_23]; rfl
theorem opf_256_23 {f : mj_H → Prop} {v : Int64} : mj_op (mj_pf (hp M) 256 10 23 (.long v)) f = f (hp (wL M 256 23 v)) := by rw [pf_256_23]; rfl
theorem ogf_256_24 {f : Value → Prop}  : mj_op (mj_gf (hp M) 256 10 24) f = f (.ref 271) := by rw [gf_256_24]; rfl
theorem ogf_256_25 {f : Value → Prop}  : mj_op (mj_gf (hp M) 256 10 25) f = f (.int (rI M 256 25)) := by rw [gf_256_25]; rfl
theorem opf_256_25_0 {f : mj_H → Prop}  : mj_op (mj_pf (hp M) 256 10 25 (.int (nI 0))) f = f (hp (wI M 256 25 (nI 0))) := by rw [pf_256_25_0]; rfl
theorem opf_256_25_1 {f : mj_H → Prop}  : mj_op (mj_pf (hp M) 256 10 25 (.int (nI 1))) f = f (hp (wI M 256 25 (nI 1))) := by rw [pf_256_25_1]; rfl
theorem ogf_256_26 {f : Value → Prop}  : mj_op (mj_gf (hp M) 256 10 26) f = f (.int (rI M 256 26)) := by rw [gf_256_26]; rfl
theorem opf_256_26 {f : mj_H → Prop} {v : Int32} : mj_op (mj_pf (hp M) 256 10 26 (.int v)) f = f (hp (wI M 256 26 v)) := by rw [pf_256_26]; rfl
theorem ogf_256_27 {f : Value → Prop}  : mj_op (mj_gf (hp M) 256 10 27) f = f (.int (rI M 256 27)) := by rw [gf_256_27]; rfl
theorem opf_256_27 {f : mj_H → Prop} {v : Int32} : mj_op (mj_pf (hp M) 256 10 27 (.int v)) f = f (hp (wI M 256 27 v)) := by rw [pf_256_27]; rfl
theorem ogf_256_28 {f : Value → Prop}  : mj_op (mj_gf (hp M) 256 10 28) f = f (.int (rI M 256 28)) := by rw [gf_256_28]; rfl
theorem opf_256_28 {f : mj_H → Prop} {v : Int32} : mj_op (mj_pf (hp M) 256 10 28 (.int v)) f = f (hp (wI M 256 28 v)) := by rw [pf_256_28]; rfl
theorem ogf_256_29 {f : Value → Prop}  : mj_op (mj_gf (hp M) 256 10 29) f = f (.ref 272) := by rw [gf_256_29]; rfl
theorem ogf_256_30 {f : Value → Prop}  : mj_op (mj_gf (hp M) 256 10 30) f = f (.ref 273) := by rw [gf_256_30]; rfl
theorem ogf_256_31 {f : Value → Prop}  : mj_op (mj_gf (hp M) 256 10 31) f = f (.ref 274) := by rw [gf_256_31]; rfl
theorem ogf_256_32 {f : Value → Prop}  : mj_op (mj_gf (hp M) 256 10 32) f = f (.ref 275) := by rw [gf_256_32]; rfl
theorem ogf_256_33 {f : Value → Prop}  : mj_op (mj_gf (hp M) 256 10 33) f = f (.ref 276) := by rw [gf_256_33]; rfl
theorem ogf_256_34 {f : Value → Prop}  : mj_op (mj_gf (hp M) 256 10 34) f = f (.ref 277) := by rw [gf_256_34]; rfl
theorem oai_257 {f : Int32 → Prop} (hk : k < 44) : mj_op (mj_ai (hp M) 257 (nI k)) f = f (rI M 257 k) := by rw [ai_257 hk]; rfl
theorem owi_257 {f : mj_H → Prop} {v : Int32} (hk : k < 44) : mj_op (mj_wi (hp M) 257 (nI k) v) f = f (hp (wI M 257 k v)) := by rw [wi_257 hk]; rfl
theorem oai_258 {f : Int32 → Prop} (hk : k < 8800) : mj_op (mj_ai (hp M) 258 (nI k)) f = f (rI M 258 k) := by rw [ai_258 hk]; rfl
theorem owi_258 {f : mj_H → Prop} {v : Int32} (hk : k < 8800) : mj_op (mj_wi (hp M) 258 (nI k) v) f = f (hp (wI M 258 k v)) := by rw [wi_258 hk]; rfl
theorem oal_259 {f : Int64 → Prop} (hk : k < 16) : mj_op (mj_al (hp M) 259 (nI k)) f = f (rL M 259 k) := by rw [al_259 hk]; rfl
theorem owl_259 {f : mj_H → Prop} {v : Int64} (hk : k < 16) : mj_op (mj_wl (hp M) 259 (nI k) v) f = f (hp (wL M 259 k v)) := by rw [wl_259 hk]; rfl
theorem oal_260 {f : Int64 → Prop} (hk : k < 8) : mj_op (mj_al (hp M) 260 (nI k)) f = f (rL M 260 k) := by rw [al_260 hk]; rfl
theorem owl_260 {f : mj_H → Prop} {v : Int64} (hk : k < 8) : mj_op (mj_wl (hp M) 260 (nI k) v) f = f (hp (wL M 260 k v)) := by rw [wl_260 hk]; rfl
theorem oal_261 {f : Int64 → Prop} (hk : k < 200) : mj_op (mj_al (hp M) 261 (nI k)) f = f (rL M 261 k) := by rw [al_261 hk]; rfl
theorem owl_261 {f : mj_H → Prop} {v : Int64} (hk : k < 200) : mj_op (mj_wl (hp M) 261 (nI k) v) f = f (hp (wL M 261 k v)) := by rw [wl_261 hk]; rfl
theorem oai_262 {f : Int32 → Prop} (hk : k < 200) : mj_op (mj_ai (hp M) 262 (nI k)) f = f (rI M 262 k) := by rw [ai_262 hk]; rfl
theorem owi_262 {f : mj_H → Prop} {v : Int32} (hk : k < 200) : mj_op (mj_wi (hp M) 262 (nI k) v) f = f (hp (wI M 262 k v)) := by rw [wi_262 hk]; rfl
theorem oai_263 {f : Int32 → Prop} (hk : k < 200) : mj_op (mj_ai (hp M) 263 (nI k)) f = f (rI M 263 k) := by rw [ai_263 hk]; rfl
theorem owi_263 {f : mj_H → Prop} {v : Int32} (hk : k < 200) : mj_op (mj_wi (hp M) 263 (nI k) v) f = f (hp (wI M 263 k v)) := by rw [wi_263 hk]; rfl
theorem oai_264 {f : Int32 → Prop} (hk : k < 200) : mj_op (mj_ai (hp M) 264 (nI k)) f = f (rI M 264 k) := by rw [ai_264 hk]; rfl
theorem owi_264 {f : mj_H → Prop} {v : Int32} (hk : k < 200) : mj_op (mj_wi (hp M) 264 (nI k) v) f = f (hp (wI M 264 k v)) := by rw [wi_264 hk]; rfl
theorem oai_265 {f : Int32 → Prop} (hk : k < 200) : mj_op (mj_ai (hp M) 265 (nI k)) f = f (rI M 265 k) := by rw [ai_265 hk]; rfl
theorem owi_265 {f : mj_H → Prop} {v : Int32} (hk : k < 200) : mj_op (mj_wi (hp M) 265 (nI k) v) f = f (hp (wI M 265 k v)) := by rw [wi_265 hk]; rfl
theorem oai_266 {f : Int32 → Prop} (hk : k < 1600) : mj_op (mj_ai (hp M) 266 (nI k)) f = f (rI M 266 k) := by rw [ai_266 hk]; rfl
theorem owi_266 {f : mj_H → Prop} {v : Int32} (hk : k < 1600) : mj_op (mj_wi (hp M) 266 (nI k) v) f = f (hp (wI M 266 k v)) := by rw [wi_266 hk]; rfl
theorem oal_267 {f : Int64 → Prop} (hk : k < 1600) : mj_op (mj_al (hp M) 267 (nI k)) f = f (rL M 267 k) := by rw [al_267 hk]; rfl
theorem owl_267 {f : mj_H → Prop} {v : Int64} (hk : k < 1600) : mj_op (mj_wl (hp M) 267 (nI k) v) f = f (hp (wL M 267 k v)) := by rw [wl_267 hk]; rfl
theorem oaz_268 {f : Int32 → Prop} (hk : k < 51) : mj_op (mj_az (hp M) 268 (nI k)) f = f (rI M 268 k) := by rw [az_268 hk]; rfl
theorem owz_268 {f : mj_H → Prop} {v : Int32} (hk : k < 51) : mj_op (mj_wz (hp M) 268 (nI k) v) f = f (hp (wI M 268 k (zv v))) := by rw [wz_268 hk]; rfl
theorem oai_269 {f : Int32 → Prop} (hk : k < 408) : mj_op (mj_ai (hp M) 269 (nI k)) f = f (rI M 269 k) := by rw [ai_269 hk]; rfl
theorem owi_269 {f : mj_H → Prop} {v : Int32} (hk : k < 408) : mj_op (mj_wi (hp M) 269 (nI k) v) f = f (hp (wI M 269 k v)) := by rw [wi_269 hk]; rfl
theorem oal_270 {f : Int64 → Prop} (hk : k < 408) : mj_op (mj_al (hp M) 270 (nI k)) f = f (rL M 270 k) := by rw [al_270 hk]; rfl
theorem owl_270 {f : mj_H → Prop} {v : Int64} (hk : k < 408) : mj_op (mj_wl (hp M) 270 (nI k) v) f = f (hp (wL M 270 k v)) := by rw [wl_270 hk]; rfl
theorem oaz_271 {f : Int32 → Prop} (hk : k < 408) : mj_op (mj_az (hp M) 271 (nI k)) f = f (rI M 271 k) := by rw [az_271 hk]; rfl
theorem owz_271 {f : mj_H → Prop} {v : Int32} (hk : k < 408) : mj_op (mj_wz (hp M) 271 (nI k) v) f = f (hp (wI M 271 k (zv v))) := by rw [wz_271 hk]; rfl
theorem oai_272 {f : Int32 → Prop} (hk : k < 2) : mj_op (mj_ai (hp M) 272 (nI k)) f = f (rI M 272 k) := by rw [ai_272 hk]; rfl
theorem owi_272 {f : mj_H → Prop} {v : Int32} (hk : k < 2) : mj_op (mj_wi (hp M) 272 (nI k) v) f = f (hp (wI M 272 k v)) := by rw [wi_272 hk]; rfl
theorem oai_273 {f : Int32 → Prop} (hk : k < 2) : mj_op (mj_ai (hp M) 273 (nI k)) f = f (rI M 273 k) := by rw [ai_273 hk]; rfl
theorem owi_273 {f : mj_H → Prop} {v : Int32} (hk : k < 2) : mj_op (mj_wi (hp M) 273 (nI k) v) f = f (hp (wI M 273 k v)) := by rw [wi_273 hk]; rfl
theorem oai_274 {f : Int32 → Prop} (hk : k < 2) : mj_op (mj_ai (hp M) 274 (nI k)) f = f (rI M 274 k) := by rw [ai_274 hk]; rfl
theorem owi_274 {f : mj_H → Prop} {v : Int32} (hk : k < 2) : mj_op (mj_wi (hp M) 274 (nI k) v) f = f (hp (wI M 274 k v)) := by rw [wi_274 hk]; rfl
theorem oai_275 {f : Int32 → Prop} (hk : k < 2) : mj_op (mj_ai (hp M) 275 (nI k)) f = f (rI M 275 k) := by rw [ai_275 hk]; rfl
theorem owi_275 {f : mj_H → Prop} {v : Int32} (hk : k < 2) : mj_op (mj_wi (hp M) 275 (nI k) v) f = f (hp (wI M 275 k v)) := by rw [wi_275 hk]; rfl
theorem oai_276 {f : Int32 → Prop} (hk : k < 2) : mj_op (mj_ai (hp M) 276 (nI k)) f = f (rI M 276 k) := by rw [ai_276 hk]; rfl
theorem owi_276 {f : mj_H → Prop} {v : Int32} (hk : k < 2) : mj_op (mj_wi (hp M) 276 (nI k) v) f = f (hp (wI M 276 k v)) := by rw [wi_276 hk]; rfl
theorem oal_277 {f : Int64 → Prop} (hk : k < 2) : mj_op (mj_al (hp M) 277 (nI k)) f = f (rL M 277 k) := by rw [al_277 hk]; rfl
theorem owl_277 {f : mj_H → Prop} {v : Int64} (hk : k < 2) : mj_op (mj_wl (hp M) 277 (nI k) v) f = f (hp (wL M 277 k v)) := by rw [wl_277 hk]; rfl
end HP
