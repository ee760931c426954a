/-! V, instruction by instruction -/
def mj_op {α : Type} (o : Option α) (f : α → Prop) : Prop := match o with
  | some a => f a
  | none => False
theorem mj_op_s {α : Type} (a : α) (f : α → Prop) : mj_op (some a) f = f a := rfl
def bI (P : Prop) [Decidable P] : Int32 := if P then nI 1 else nI 0
section GO
variable {d : Nat} {lim : Nat × Nat} {q : mj_M} {pc : Nat} {L st : List Value} {G : mj_H} {Q : mj_Q}
theorem mj_V_st {S : mj_S} (h : mj_st q lim pc L st G = some S) : mj_V d lim q pc L st G Q ↔ mj_V d lim q S.1 S.2.1 S.2.2.1 S.2.2.2 Q := by
  rw [mj_V_eq]
  unfold mj_ex
  rw [h]
theorem mj_go {i : Instr} {len pc' : Nat} {L' st' : List Value} {G' : mj_H} (hd : decode (mj_B q) pc = .ok (i, len)) (hl : len = mj_ln i len) (h : mj_in q lim i pc L st G = some (pc', L', st', G')) : mj_V d lim q pc L st G Q ↔ mj_V d lim q pc' L' st' G' Q := by
  have e : mj_st q lim pc L st G = some (pc', L', st', G') := by
    unfold mj_st
    rw [hd]
    exact (if_pos hl).trans h
  exact mj_V_st e
theorem mj_ng {i : Instr} {len : Nat} (hd : decode (mj_B q) pc = .ok (i, len)) (hl : len = mj_ln i len) (h : mj_in q lim i pc L st G = none) (hc : ¬ mj_cr (mj_ca d) lim q Q (fun pc L st G => mj_V d lim q pc L st G Q) pc L st G) : mj_V d lim q pc L st G Q ↔ False := by
  have e : mj_st q lim pc L st G = none := by
    unfold mj_st
    rw [hd]
    exact (if_pos hl).trans h
  rw [mj_V_eq]
  unfold mj_ex
  rw [e]
  exact ⟨hc, False.elim⟩
/-- an instruction that asks the heap -/
theorem mj_gh {α : Type} {i : Instr} {len : Nat} {o : Option α} {f : α → mj_S} (hd : decode (mj_B q) pc = .ok (i, len)) (hl : len = mj_ln i len) (h : mj_in q lim i pc L st G = o.map f) (hc : ¬ mj_cr (mj_ca d) lim q Q (fun pc L st G => mj_V d lim q pc L st G Q) pc L st G) : mj_V d lim q pc L st G Q ↔ mj_op o (fun a => mj_V d lim q (f a).1 (f a).2.1 (f a).2.2.1 (f a).2.2.2 Q) := by
  cases o with
  | none => exact mj_ng hd hl h hc
  | some a => exact mj_go hd hl h
theorem mj_V_ite {c : Prop} [Decidable c] {a b : Nat} : mj_V d lim q (if c then a else b) L st G Q ↔ if c then mj_V d lim q a L st G Q else mj_V d lim q b L st G Q := by
  split <;> rfl
theorem mj_tg_of {off : Int} {t : Nat} (ht : (pc : Int) + off = (t : Int)) : mj_tg pc off = some t := by
  unfold mj_tg
  rw [if_pos (by omega)]
  congr 1
  omega
theorem mj_br_of {off : Int} {t : Nat} {c : Prop} [Decidable c] (ht : (pc : Int) + off = (t : Int)) : mj_br pc off c = some (if c then t else pc + 3) := by
  unfold mj_br
  rw [mj_tg_of ht]
  rfl
theorem mj_iteS {c c' : Prop} [Decidable c] [Decidable c'] (h : c ↔ ¬ c') {A B : Prop} : (if c then A else B) ↔ (if c' then B else A) := by
  by_cases hc : c'
  · rw [if_pos hc, if_neg (fun z => h.mp z hc)]
  · rw [if_neg hc, if_pos (h.mpr hc)]
theorem go_goto {off : Int} {t : Nat} (hd : decode (mj_B q) pc = .ok (.goto off, 3)) (ht : (pc : Int) + off = (t : Int)) : mj_V d lim q pc L st G Q ↔ mj_V d lim q t L st G Q := mj_go hd rfl (by show (mj_tg pc off).map _ = _; rw [mj_tg_of ht]; rfl)
variable {a b : Int32} {r : List Value} {off : Int} {t : Nat}
theorem go_ieq (hd : decode (mj_B q) pc = .ok (.ifCond .eq off, 3)) (ht : (pc : Int) + off = (t : Int)) : mj_V d lim q pc L (.int a :: r) G Q ↔ if a = nI 0 then mj_V d lim q t L r G Q else mj_V d lim q (pc + 3) L r G Q :=
  (mj_go hd rfl (by show (mj_br pc off (a = 0)).map _ = _; rw [mj_br_of ht]; rfl)).trans mj_V_ite
theorem go_ine (hd : decode (mj_B q) pc = .ok (.ifCond .ne off, 3)) (ht : (pc : Int) + off = (t : Int)) : mj_V d lim q pc L (.int a :: r) G Q ↔ if a = nI 0 then mj_V d lim q (pc + 3) L r G Q else mj_V d lim q t L r G Q :=
  ((mj_go hd rfl (by show (mj_br pc off (¬ a = 0)).map _ = _; rw [mj_br_of ht]; rfl)).trans mj_V_ite).trans (mj_iteS Iff.rfl)
theorem go_ilt (hd : decode (mj_B q) pc = .ok (.ifCond .lt off, 3)) (ht : (pc : Int) + off = (t : Int)) : mj_V d lim q pc L (.int a :: r) G Q ↔ if a < nI 0 then mj_V d lim q t L r G Q else mj_V d lim q (pc + 3) L r G Q :=
  (mj_go hd rfl (by show (mj_br pc off (a < 0)).map _ = _; rw [mj_br_of ht]; rfl)).trans mj_V_ite
theorem go_ige (hd : decode (mj_B q) pc = .ok (.ifCond .ge off, 3)) (ht : (pc : Int) + off = (t : Int)) : mj_V d lim q pc L (.int a :: r) G Q ↔ if a < nI 0 then mj_V d lim q (pc + 3) L r G Q else mj_V d lim q t L r G Q :=
  ((mj_go hd rfl (by show (mj_br pc off (0 ≤ a)).map _ = _; rw [mj_br_of ht]; rfl)).trans mj_V_ite).trans (mj_iteS Int32.not_lt.symm)
theorem go_igt (hd : decode (mj_B q) pc = .ok (.ifCond .gt off, 3)) (ht : (pc : Int) + off = (t : Int)) : mj_V d lim q pc L (.int a :: r) G Q ↔ if nI 0 < a then mj_V d lim q t L r G Q else mj_V d lim q (pc + 3) L r G Q :=
  (mj_go hd rfl (by show (mj_br pc off (0 < a)).map _ = _; rw [mj_br_of ht]; rfl)).trans mj_V_ite
theorem go_ile (hd : decode (mj_B q) pc = .ok (.ifCond .le off, 3)) (ht : (pc : Int) + off = (t : Int)) : mj_V d lim q pc L (.int a :: r) G Q ↔ if nI 0 < a then mj_V d lim q (pc + 3) L r G Q else mj_V d lim q t L r G Q :=
  ((mj_go hd rfl (by show (mj_br pc off (a ≤ 0)).map _ = _; rw [mj_br_of ht]; rfl)).trans mj_V_ite).trans (mj_iteS Int32.not_lt.symm)
theorem go_ceq (hd : decode (mj_B q) pc = .ok (.if_icmp .eq off, 3)) (ht : (pc : Int) + off = (t : Int)) : mj_V d lim q pc L (.int b :: .int a :: r) G Q ↔ if a = b then mj_V d lim q t L r G Q else mj_V d lim q (pc + 3) L r G Q :=
  (mj_go hd rfl (by show (mj_br pc off (a = b)).map _ = _; rw [mj_br_of ht]; rfl)).trans mj_V_ite
theorem go_cne (hd : decode (mj_B q) pc = .ok (.if_icmp .ne off, 3)) (ht : (pc : Int) + off = (t : Int)) : mj_V d lim q pc L (.int b :: .int a :: r) G Q ↔ if a = b then mj_V d lim q (pc + 3) L r G Q else mj_V d lim q t L r G Q :=
  ((mj_go hd rfl (by show (mj_br pc off (¬ a = b)).map _ = _; rw [mj_br_of ht]; rfl)).trans mj_V_ite).trans (mj_iteS Iff.rfl)
theorem go_clt (hd : decode (mj_B q) pc = .ok (.if_icmp .lt off, 3)) (ht : (pc : Int) + off = (t : Int)) : mj_V d lim q pc L (.int b :: .int a :: r) G Q ↔ if a < b then mj_V d lim q t L r G Q else mj_V d lim q (pc + 3) L r G Q :=
  (mj_go hd rfl (by show (mj_br pc off (a < b)).map _ = _; rw [mj_br_of ht]; rfl)).trans mj_V_ite
theorem go_cge (hd : decode (mj_B q) pc = .ok (.if_icmp .ge off, 3)) (ht : (pc : Int) + off = (t : Int)) : mj_V d lim q pc L (.int b :: .int a :: r) G Q ↔ if a < b then mj_V d lim q (pc + 3) L r G Q else mj_V d lim q t L r G Q :=
  ((mj_go hd rfl (by show (mj_br pc off (b ≤ a)).map _ = _; rw [mj_br_of ht]; rfl)).trans mj_V_ite).trans (mj_iteS Int32.not_lt.symm)
theorem go_cgt (hd : decode (mj_B q) pc = .ok (.if_icmp .gt off, 3)) (ht : (pc : Int) + off = (t : Int)) : mj_V d lim q pc L (.int b :: .int a :: r) G Q ↔ if b < a then mj_V d lim q t L r G Q else mj_V d lim q (pc + 3) L r G Q :=
  (mj_go hd rfl (by show (mj_br pc off (b < a)).map _ = _; rw [mj_br_of ht]; rfl)).trans mj_V_ite
theorem go_cle (hd : decode (mj_B q) pc = .ok (.if_icmp .le off, 3)) (ht : (pc : Int) + off = (t : Int)) : mj_V d lim q pc L (.int b :: .int a :: r) G Q ↔ if b < a then mj_V d lim q (pc + 3) L r G Q else mj_V d lim q t L r G Q :=
  ((mj_go hd rfl (by show (mj_br pc off (a ≤ b)).map _ = _; rw [mj_br_of ht]; rfl)).trans mj_V_ite).trans (mj_iteS Int32.not_lt.symm)
theorem go_nullr {o : Nat} (hd : decode (mj_B q) pc = .ok (.ifnull off, 3)) : mj_V d lim q pc L (.ref o :: r) G Q ↔ mj_V d lim q (pc + 3) L r G Q := mj_go hd rfl rfl
theorem go_nulln (hd : decode (mj_B q) pc = .ok (.ifnull off, 3)) (ht : (pc : Int) + off = (t : Int)) : mj_V d lim q pc L (.null :: r) G Q ↔ mj_V d lim q t L r G Q := mj_go hd rfl (by show (mj_tg pc off).map _ = _; rw [mj_tg_of ht]; rfl)
theorem go_nonr {o : Nat} (hd : decode (mj_B q) pc = .ok (.ifnonnull off, 3)) (ht : (pc : Int) + off = (t : Int)) : mj_V d lim q pc L (.ref o :: r) G Q ↔ mj_V d lim q t L r G Q := mj_go hd rfl (by show (mj_tg pc off).map _ = _; rw [mj_tg_of ht]; rfl)
theorem go_nonn (hd : decode (mj_B q) pc = .ok (.ifnonnull off, 3)) : mj_V d lim q pc L (.null :: r) G Q ↔ mj_V d lim q (pc + 3) L r G Q := mj_go hd rfl rfl
theorem go_const {n : Int} {v : Int32} (hd : decode (mj_B q) pc = .ok (.iconst n, 1)) (hv : Int32.ofInt n = v) : mj_V d lim q pc L st G Q ↔ mj_V d lim q (pc + 1) L (.int v :: st) G Q := mj_go hd rfl (by rw [← hv]; rfl)
theorem go_bipush {n : Int} {v : Int32} (hd : decode (mj_B q) pc = .ok (.bipush n, 2)) (hv : (Int8.ofInt n).toInt32 = v) : mj_V d lim q pc L st G Q ↔ mj_V d lim q (pc + 2) L (.int v :: st) G Q := mj_go hd rfl (by rw [← hv]; rfl)
theorem go_sipush {n : Int} {v : Int32} (hd : decode (mj_B q) pc = .ok (.sipush n, 3)) (hv : (Int16.ofInt n).toInt32 = v) : mj_V d lim q pc L st G Q ↔ mj_V d lim q (pc + 3) L (.int v :: st) G Q := mj_go hd rfl (by rw [← hv]; rfl)
theorem go_lconst {n : Fin 2} {v : Int64} (hd : decode (mj_B q) pc = .ok (.lconst n, 1)) (hv : Int64.ofNat (n : Nat) = v) : mj_V d lim q pc L st G Q ↔ mj_V d lim q (pc + 1) L (.long v :: st) G Q := mj_go hd rfl (by rw [← hv]; rfl)
theorem go_ldc {x : Nat} {v : Int32} (hd : decode (mj_B q) pc = .ok (.ldc x, 2)) (hv : mj_kI (mj_C q) x = some v) : mj_V d lim q pc L st G Q ↔ mj_V d lim q (pc + 2) L (.int v :: st) G Q := mj_go hd rfl (by show (mj_kI (mj_C q) x).map _ = _; rw [hv]; rfl)
theorem go_ldc2 {x : Nat} {v : Int64} (hd : decode (mj_B q) pc = .ok (.ldc2_w x, 3)) (hv : mj_kJ (mj_C q) x = some v) : mj_V d lim q pc L st G Q ↔ mj_V d lim q (pc + 3) L (.long v :: st) G Q := mj_go hd rfl (by show (mj_kJ (mj_C q) x).map _ = _; rw [hv]; rfl)
theorem go_iinc {k : Nat} {n : Int} {v : Int32} {L' : List Value} (hd : decode (mj_B q) pc = .ok (.iinc k n, 3)) (hv : Int32.ofInt n = v) (ha : mj_li L k = some a) (hs : mj_s1 (mj_L q) L k (.int (a + v)) = some L') : mj_V d lim q pc L st G Q ↔ mj_V d lim q (pc + 3) L' st G Q := mj_go hd rfl (by
  show (mj_li L k).bind _ = _
  rw [ha]
  show (mj_s1 (mj_L q) L k (.int (a + Int32.ofInt n))).map _ = _
  rw [hv, hs]
  rfl)
theorem go_getf {x ci k o : Nat} (hd : decode (mj_B q) pc = .ok (.getfield x, 3)) (hf : mj_fl (mj_C q) x = some (ci, k)) : mj_V d lim q pc L (.ref o :: r) G Q ↔ mj_op (mj_gf G o ci k) (fun v => mj_V d lim q (pc + 3) L (v :: r) G Q) :=
  mj_gh hd rfl (f := fun v => (pc + 3, L, v :: r, G)) (by show (mj_fl (mj_C q) x).bind _ = _; rw [hf]; rfl) (by unfold mj_cr; rw [hd]; exact fun z => z)
theorem go_putf {x ci k o : Nat} {v : Value} {w : vw_C} (hd : decode (mj_B q) pc = .ok (.putfield x, 3)) (hf : mj_fl (mj_C q) x = some (ci, k)) (hw : mj_cs[ci]? = some w) (hk : ¬ ((w.2.1 k).2.2.2 = true ∧ ¬ ((mj_N q).name = "<init>" ∧ (w.2.1 k).1 = (mj_N q).cls))) : mj_V d lim q pc L (v :: .ref o :: r) G Q ↔ mj_op (mj_pf G o ci k v) (fun G' => mj_V d lim q (pc + 3) L r G' Q) :=
  mj_gh hd rfl (f := fun G' => (pc + 3, L, r, G')) (by
    show (mj_fl (mj_C q) x).bind _ = _
    rw [hf]
    show (match mj_cs[ci]? with | some w => if (w.2.1 k).2.2.2 = true ∧ ¬ ((mj_N q).name = "<init>" ∧ (w.2.1 k).1 = (mj_N q).cls) then none else (mj_pf G o ci k v).map fun G' => (pc + 3, L, r, G') | none => none) = _
    rw [hw]
    exact if_neg hk) (by unfold mj_cr; rw [hd]; exact fun z => z)
theorem go_iald {o : Nat} (hd : decode (mj_B q) pc = .ok (.iaload, 1)) : mj_V d lim q pc L (.int a :: .ref o :: r) G Q ↔ mj_op (mj_ai G o a) (fun v => mj_V d lim q (pc + 1) L (.int v :: r) G Q) :=
  mj_gh hd rfl (f := fun v => (pc + 1, L, .int v :: r, G)) rfl (by unfold mj_cr; rw [hd]; exact fun z => z)
theorem go_bald {o : Nat} (hd : decode (mj_B q) pc = .ok (.baload, 1)) : mj_V d lim q pc L (.int a :: .ref o :: r) G Q ↔ mj_op (mj_az G o a) (fun v => mj_V d lim q (pc + 1) L (.int v :: r) G Q) :=
  mj_gh hd rfl (f := fun v => (pc + 1, L, .int v :: r, G)) rfl (by unfold mj_cr; rw [hd]; exact fun z => z)
theorem go_lald {o : Nat} (hd : decode (mj_B q) pc = .ok (.laload, 1)) : mj_V d lim q pc L (.int a :: .ref o :: r) G Q ↔ mj_op (mj_al G o a) (fun v => mj_V d lim q (pc + 1) L (.long v :: r) G Q) :=
  mj_gh hd rfl (f := fun v => (pc + 1, L, .long v :: r, G)) rfl (by unfold mj_cr; rw [hd]; exact fun z => z)
theorem go_aald {o : Nat} (hd : decode (mj_B q) pc = .ok (.aaload, 1)) : mj_V d lim q pc L (.int a :: .ref o :: r) G Q ↔ mj_op (mj_aa G o a) (fun v => mj_V d lim q (pc + 1) L (va_rf v :: r) G Q) :=
  mj_gh hd rfl (f := fun v => (pc + 1, L, va_rf v :: r, G)) rfl (by unfold mj_cr; rw [hd]; exact fun z => z)
theorem go_iast {o : Nat} (hd : decode (mj_B q) pc = .ok (.iastore, 1)) : mj_V d lim q pc L (.int b :: .int a :: .ref o :: r) G Q ↔ mj_op (mj_wi G o a b) (fun G' => mj_V d lim q (pc + 1) L r G' Q) :=
  mj_gh hd rfl (f := fun G' => (pc + 1, L, r, G')) rfl (by unfold mj_cr; rw [hd]; exact fun z => z)
theorem go_bast {o : Nat} (hd : decode (mj_B q) pc = .ok (.bastore, 1)) : mj_V d lim q pc L (.int b :: .int a :: .ref o :: r) G Q ↔ mj_op (mj_wz G o a b) (fun G' => mj_V d lim q (pc + 1) L r G' Q) :=
  mj_gh hd rfl (f := fun G' => (pc + 1, L, r, G')) rfl (by unfold mj_cr; rw [hd]; exact fun z => z)
theorem go_last {o : Nat} {x : Int64} (hd : decode (mj_B q) pc = .ok (.lastore, 1)) : mj_V d lim q pc L (.long x :: .int a :: .ref o :: r) G Q ↔ mj_op (mj_wl G o a x) (fun G' => mj_V d lim q (pc + 1) L r G' Q) :=
  mj_gh hd rfl (f := fun G' => (pc + 1, L, r, G')) rfl (by unfold mj_cr; rw [hd]; exact fun z => z)
theorem go_aast {o x : Nat} (hd : decode (mj_B q) pc = .ok (.aastore, 1)) : mj_V d lim q pc L (.ref x :: .int a :: .ref o :: r) G Q ↔ mj_op (mj_wa G o a x) (fun G' => mj_V d lim q (pc + 1) L r G' Q) :=
  mj_gh hd rfl (f := fun G' => (pc + 1, L, r, G')) rfl (by unfold mj_cr; rw [hd]; exact fun z => z)
theorem go_ldiv {x y : Int64} (hd : decode (mj_B q) pc = .ok (.ldiv, 1)) (hy : ¬ y = 0) : mj_V d lim q pc L (.long y :: .long x :: r) G Q ↔ mj_V d lim q (pc + 1) L (.long (x / y) :: r) G Q := mj_go hd rfl (if_neg hy)
theorem go_lrem {x y : Int64} (hd : decode (mj_B q) pc = .ok (.lrem, 1)) (hy : ¬ y = 0) : mj_V d lim q pc L (.long y :: .long x :: r) G Q ↔ mj_V d lim q (pc + 1) L (.long (x - x / y * y) :: r) G Q := mj_go hd rfl (if_neg hy)
theorem go_new {x ci : Nat} (hd : decode (mj_B q) pc = .ok (.new x, 3)) (hc : mj_nw (mj_C q) x = some ci) : mj_V d lim q pc L st G Q ↔ mj_op (mj_ad G lim (mj_fs ci).length (.inr (ci, mj_fs ci))) (fun G' => mj_V d lim q (pc + 3) L (.ref (G.1 + 1) :: st) G' Q) :=
  mj_gh hd rfl (f := fun G' => (pc + 3, L, .ref (G.1 + 1) :: st, G')) (by show (mj_nw (mj_C q) x).bind _ = _; rw [hc]; rfl) (by unfold mj_cr; rw [hd]; exact fun z => z)
theorem go_tsw {df lo hi : Int} {offs : Array Int} {len : Nat} (hd : decode (mj_B q) pc = .ok (.tableswitch df lo hi offs, len)) (ht : mj_sw pc df lo hi offs a = some t) : mj_V d lim q pc L (.int a :: r) G Q ↔ mj_V d lim q t L r G Q := mj_go hd rfl (by show (mj_sw pc df lo hi offs a).map _ = _; rw [ht]; rfl)
theorem go_lsw {df : Int} {ps : Array (Int × Int)} {len : Nat} (hd : decode (mj_B q) pc = .ok (.lookupswitch df ps, len)) (hp : (ps.toList.zip (ps.toList.drop 1)).all (fun (a, next) => a.1 < next.1) = true) (ht : (pc : Int) + Op.lookupswitch.offset ps.toList df a.toInt = (t : Int)) : mj_V d lim q pc L (.int a :: r) G Q ↔ mj_V d lim q t L r G Q := mj_go hd rfl (by
  show (if (ps.toList.zip (ps.toList.drop 1)).all (fun (a, next) => a.1 < next.1) = true then (mj_tg pc (Op.lookupswitch.offset ps.toList df a.toInt)).map fun t => (t, L, r, G) else none) = _
  rw [if_pos hp, mj_tg_of ht]
  rfl)
end GO
section GOC
variable {d : Nat} {lim : Nat × Nat} {q q' : mj_M} {pc x : Nat} {L st r : List Value} {G : mj_H} {Q : mj_Q}
theorem mj_V_cr {i : Instr} {len : Nat} (hd : decode (mj_B q) pc = .ok (i, len)) (h : mj_in q lim i pc L st G = none) : mj_V d lim q pc L st G Q ↔ mj_cr (mj_ca d) lim q Q (fun pc L st G => mj_V d lim q pc L st G Q) pc L st G := by
  have e : mj_st q lim pc L st G = none := by
    unfold mj_st
    rw [hd]
    show (if len = mj_ln i len then mj_in q lim i pc L st G else none) = none
    split
    · exact h
    · rfl
  rw [mj_V_eq]
  unfold mj_ex
  rw [e]
theorem go_iv {o : Nat} (hd : decode (mj_B q) pc = .ok (.invokevirtual x, 3)) (hlk : mj_lk (mj_C q) x = some (0, q')) (hst : st.drop (mj_A q') = .ref o :: r) (hl : mj_A q' ≤ st.length) (hs : (r.map fun v => v.category).sum ≤ 8) (har : (mj_ar (.ref o :: (st.take (mj_A q')).reverse)).length ≤ mj_L q') :
    mj_V (d + 1) lim q pc L st G Q ↔ mj_io G o (mj_C q') = true ∧ mj_V d (G.1, G.2.1) q' 0 (mj_en (.ref o :: (st.take (mj_A q')).reverse) (mj_L q')) [] G (fun v G' => G'.1 = G.1 ∧ G'.2.1 = G.2.1 ∧ mj_V (d + 1) lim q (pc + 3) L (v.toList ++ r) G' Q) := by
  rw [mj_V_cr hd rfl]
  unfold mj_cr
  rw [hd]
  constructor
  · rintro ⟨q2, h1, o2, r2, h2, -, -, h5, -, h6⟩
    cases hlk.symm.trans h1
    cases hst.symm.trans h2
    exact ⟨h5, h6⟩
  · rintro ⟨h1, h2⟩
    exact ⟨q', hlk, o, r, hst, hl, hs, h1, har, h2⟩
theorem go_is (hd : decode (mj_B q) pc = .ok (.invokestatic x, 3)) (hlk : mj_lk (mj_C q) x = some (1, q')) (hl : mj_A q' ≤ st.length) (hs : ((st.drop (mj_A q')).map fun v => v.category).sum ≤ 8) (har : (mj_ar (st.take (mj_A q')).reverse).length ≤ mj_L q') :
    mj_V (d + 1) lim q pc L st G Q ↔ mj_V d (G.1, G.2.1) q' 0 (mj_en (st.take (mj_A q')).reverse (mj_L q')) [] G (fun v G' => G'.1 = G.1 ∧ G'.2.1 = G.2.1 ∧ mj_V (d + 1) lim q (pc + 3) L (v.toList ++ st.drop (mj_A q')) G' Q) := by
  rw [mj_V_cr hd rfl]
  unfold mj_cr
  rw [hd]
  constructor
  · rintro ⟨q2, h1, -, -, -, h6⟩
    cases hlk.symm.trans h1
    exact h6
  · intro h
    exact ⟨q', hlk, hl, hs, har, h⟩
/-- a constructor: it makes mc cells of ms slots -/
theorem go_sp {o : Nat} (mc ms : Nat) (hd : decode (mj_B q) pc = .ok (.invokespecial x, 3)) (hlk : mj_lk (mj_C q) x = some (2, q')) (hoi : mj_oi (mj_C q) x = none) (hst : st.drop (mj_A q') = .ref o :: r) (hl : mj_A q' ≤ st.length) (hs : (r.map fun v => v.category).sum ≤ 8) (har : (mj_ar (.ref o :: (st.take (mj_A q')).reverse)).length ≤ mj_L q')
    (h1 : G.1 + mc ≤ lim.1) (h2 : G.2.1 + ms ≤ lim.2) (h : mj_V d (G.1 + mc, G.2.1 + ms) q' 0 (mj_en (.ref o :: (st.take (mj_A q')).reverse) (mj_L q')) [] G (fun v G' => G'.1 = G.1 + mc ∧ G'.2.1 = G.2.1 + ms ∧ mj_V (d + 1) lim q (pc + 3) L (v.toList ++ r) G' Q)) : mj_V (d + 1) lim q pc L st G Q := by
  rw [mj_V_cr hd (by
    show (match st with | .ref _ :: r => (mj_oi (mj_C q) x).bind fun _ => if (r.map fun v => v.category).sum ≤ 8 then some (pc + 3, L, r, G) else none | _ => none) = none
    split
    · rw [hoi]; rfl
    · rfl)]
  unfold mj_cr
  rw [hd]
  exact ⟨q', hlk, o, r, mc, ms, hst, hl, hs, h1, h2, har, h⟩
theorem go_ir {v : Int32} (hd : decode (mj_B q) pc = .ok (.ireturn, 1)) : mj_V d lim q pc L [.int v] G Q ↔ mj_nr (mj_R q) (.int v) ∧ Q (some (.int v)) G := by
  rw [mj_V_cr hd rfl]
  unfold mj_cr
  rw [hd]
  constructor
  · rintro ⟨v2, h1, h2, h3⟩
    cases h1
    exact ⟨h2, h3⟩
  · rintro ⟨h1, h2⟩
    exact ⟨v, rfl, h1, h2⟩
theorem go_iri {v : Int32} (hd : decode (mj_B q) pc = .ok (.ireturn, 1)) (hr : mj_R q = some .int) : mj_V d lim q pc L [.int v] G Q ↔ Q (some (.int v)) G := by
  rw [go_ir hd, hr]
  exact ⟨fun h => h.2, fun h => ⟨rfl, h⟩⟩
theorem go_lr {v : Int64} (hd : decode (mj_B q) pc = .ok (.lreturn, 1)) (hr : mj_R q = some .long) : mj_V d lim q pc L [.long v] G Q ↔ Q (some (.long v)) G := by
  rw [mj_V_cr hd rfl]
  unfold mj_cr
  rw [hd]
  constructor
  · rintro ⟨v2, h1, h2, h3⟩
    cases h1
    exact h3
  · intro h2
    exact ⟨v, rfl, hr, h2⟩
theorem go_ar {v : Value} (hd : decode (mj_B q) pc = .ok (.areturn, 1)) (hv : v = .null ∨ ∃ a, v = .ref a) (hr : ∃ n, mj_R q = some (.object n)) : mj_V d lim q pc L [v] G Q ↔ Q (some v) G := by
  rw [mj_V_cr hd rfl]
  unfold mj_cr
  rw [hd]
  constructor
  · rintro ⟨v2, h1, h2, h3, h4⟩
    cases h1
    exact h4
  · intro h2
    exact ⟨v, rfl, hv, hr, h2⟩
theorem go_vr (hd : decode (mj_B q) pc = .ok (.return_, 1)) (hr : mj_R q = none) : mj_V d lim q pc L [] G Q ↔ Q none G := by
  rw [mj_V_cr hd rfl]
  unfold mj_cr
  rw [hd]
  exact ⟨fun h => h.2.2, fun h => ⟨rfl, hr, h⟩⟩
end GOC
