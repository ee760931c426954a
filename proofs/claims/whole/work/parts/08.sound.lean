/-! new cells, calls, returns: the small machine's V is the machine's own way -/
theorem mj_sum_tr (E : mj_E) (r : List Value) : ((r.map (mj_tr E)).map fun v => v.category).sum = (r.map fun v => v.category).sum := by
  rw [List.map_map]
  exact congrArg List.sum (List.map_congr_left fun v _ => mj_tr_cat E v)
section MJN
variable {E : mj_E} {p : Program} {l : Launch} {e : Env} {R : Room} {s : State} {m : MethodId} {args : Array Value} {below : List Frame} {meth : Method} {c : Code} {d n0 s0 : Nat} {Qk : State → Prop} {q : mj_M} {lim : Nat × Nat} {pc : Nat} {L st : List Value} {G : mj_H} {S : mj_S}
theorem mj_i_new {x : Nat} (hC : mj_Cx d lim n0 s0 q p R s m args meth c) (hd : decode (mj_B q) pc = .ok (.new x, 3)) (h : mj_in q lim (.new x) pc L st G = some S) (k : mj_Y E p l e R s m args below meth c n0 s0 q Qk S.1 S.2.1 S.2.2.1 S.2.2.2) : mj_Y E p l e R s m args below meth c n0 s0 q Qk pc L st G := by
  obtain ⟨ci, hci, h⟩ := mj_bind_some h
  obtain ⟨G', hG', rfl⟩ := mj_map_some h
  obtain ⟨a1, a2, rfl⟩ := mj_ad_some hG'
  obtain ⟨w, hw, w1, w2, w3⟩ := mj_nw_ok hC.2.2.2.2.2.2.1 hci
  rw [mj_fs_len hw] at a2 k
  intro H locs ls hR hl hlo h1 h2
  have hts := hC.2.2.2.2.1
  obtain ⟨hin0, hty, -, -⟩ := mj_okC_all ci w hw
  have hKn := hR.1.1 ci _ hw
  have c1 := hC.2.2.2.2.2.2.2.2.2.2.1
  have c2 := hC.2.2.2.2.2.2.2.2.2.2.2
  refine W.newcK hC.1 hC.2.1 hC.2.2.2.1 (hts _ (mj_tb_in w1 rfl)) (hts _ (mj_tb_in w2 rfl)) (hts _ (mj_tb_in w3 rfl)) rfl hd (by omega) (by omega) hKn.2.1 hR.2.1 fun H1 kC hkC e1 z1 o1 => ?_
  refine W.cs (cells' := G.1 + 1 - n0) (slots' := G.2.1 + w.2.2 - s0) (by omega) (by omega) ?_
  refine k H1 locs ls (hR.push ⟨w, hw, mj_fs_len hw, ?_⟩ (by rw [z1, hR.2.1]) (fun z hz => o1 z (by rw [← hR.2.1]; exact hz))) hl hlo (by show n0 ≤ G.1 + 1 ∧ G.1 + 1 ≤ R.cells + n0; omega) (by show s0 ≤ G.2.1 + w.2.2 ∧ G.2.1 + w.2.2 ≤ R.slots + s0; omega)
  refine (u_born (mj_ty ci) hts (mj_lay_in hw) hKn hkC e1 hty).to (fun j hj => ?_)
  simp [vp_V, mj_fs, hw, hj, mj_tr_default]
theorem mj_i_newa {at_ : ArrayType} {ty : FieldType} {cont : (Nat → Int32) ⊕ (Nat → Int64) ⊕ (Nat → UInt32) ⊕ (Nat → UInt64) ⊕ (Nat → Option Nat)} (hC : mj_Cx d lim n0 s0 q p R s m args meth c) (hd : decode (mj_B q) pc = .ok (.newarray at_, 2)) (hty : newarray.typeOf at_ = ty) (hac : Cond.arrayClass ty ∈ lw_tbl) (hin : ty ∈ mj_tys) (hob : ∀ cA, s.vm.findClass ("[" ++ ty.toString) = some cA → va_RA s (mj_eA E ty) ty → cA = mj_eA E ty) (hcb : componentBytes ty ≤ 8)
    (hcell : ∀ cA n, vp_cell cA (mj_ta E (n, cont)) = arrV cA n (fun _ => defaultValue ty))
    (h : mj_p1 st (fun n r => if n < 0 ∨ 100000 < n.toNatClampNeg then none else (mj_ad G lim n.toNatClampNeg (.inl (ty, n.toNatClampNeg, cont))).map fun G' => (pc + 2, L, .ref (G.1 + 1) :: r, G')) = some S) (k : mj_Y E p l e R s m args below meth c n0 s0 q Qk S.1 S.2.1 S.2.2.1 S.2.2.2) : mj_Y E p l e R s m args below meth c n0 s0 q Qk pc L st G := by
  subst hty
  obtain ⟨n, r, rfl, hh⟩ := mj_p1_some h
  by_cases hz : n < 0 ∨ 100000 < n.toNatClampNeg
  · have hh := (if_pos hz).symm.trans hh
    cases hh
  have hh := (if_neg hz).symm.trans hh
  obtain ⟨G', hG', rfl⟩ := mj_map_some hh
  obtain ⟨a1, a2, rfl⟩ := mj_ad_some hG'
  intro H locs ls hR hl hlo h1 h2
  have hts := hC.2.2.2.2.1
  have c1 := hC.2.2.2.2.2.2.2.2.2.2.1
  have c2 := hC.2.2.2.2.2.2.2.2.2.2.2
  have hb : n.toNatClampNeg * componentBytes (newarray.typeOf at_) ≤ 100000 * 8 := Nat.mul_le_mul (by omega) hcb
  refine va_newaK hC.1 hC.2.1 (hts _ (mj_tb_in hac rfl)) rfl hd rfl (fun z => hz (Or.inl z)) rfl (by omega) (by omega) (by omega) hR.2.1 fun H1 cA e1 z1 o1 hAr hNm => ?_
  cases hob cA hNm (hR.1.2.1 _ hin).2
  refine W.cs (cells' := G.1 + 1 - n0) (slots' := G.2.1 + n.toNatClampNeg - s0) (by omega) (by omega) ?_
  refine k H1 locs ls (hR.push (Or.inr ?_) (by rw [z1, hR.2.1]) (fun z hz => o1 z (by rw [← hR.2.1]; exact hz))) hl hlo (by show n0 ≤ G.1 + 1 ∧ G.1 + 1 ≤ R.cells + n0; omega) (by show s0 ≤ G.2.1 + n.toNatClampNeg ∧ G.2.1 + n.toNatClampNeg ≤ R.slots + s0; omega)
  rw [hcell]
  exact e1
theorem mj_i_anew {x : Nat} (hC : mj_Cx d lim n0 s0 q p R s m args meth c) (hd : decode (mj_B q) pc = .ok (.anewarray x, 3)) (h : mj_in q lim (.anewarray x) pc L st G = some S) (k : mj_Y E p l e R s m args below meth c n0 s0 q Qk S.1 S.2.1 S.2.2.1 S.2.2.2) : mj_Y E p l e R s m args below meth c n0 s0 q Qk pc L st G := by
  obtain ⟨n, r, rfl, hh⟩ := mj_p1_some h
  obtain ⟨ci, hci, hh⟩ := mj_bind_some hh
  by_cases hz : n < 0 ∨ 100000 < n.toNatClampNeg
  · have hh := (if_pos hz).symm.trans hh
    cases hh
  have hh := (if_neg hz).symm.trans hh
  obtain ⟨G', hG', rfl⟩ := mj_map_some hh
  obtain ⟨a1, a2, rfl⟩ := mj_ad_some hG'
  obtain ⟨w1, w2, rfl⟩ := mj_an_ok hC.2.2.2.2.2.2.1 hci
  intro H locs ls hR hl hlo h1 h2
  have hts := hC.2.2.2.2.1
  have c1 := hC.2.2.2.2.2.2.2.2.2.2.1
  have c2 := hC.2.2.2.2.2.2.2.2.2.2.2
  refine W.anew (C := "PassCourt$Routine") hC.1 hC.2.1 hC.2.2.2.1 (hts _ (mj_tb_in w1 rfl)) (va_AO.use hR.1.2.2) rfl hd rfl (fun z => hz (Or.inl z)) (by omega) (by omega) (by omega) fun cA kA comp f1 f2 f3 f4 => ?_
  have hra : va_RA s (mj_eA E (.object "PassCourt$Routine")) (.object "PassCourt$Routine") := (hR.1.2.1 _ (by simp [mj_tys])).2
  obtain ⟨kA', comp', r1, r2, r3, r4⟩ := hra
  have hcA : cA = mj_eA E (.object "PassCourt$Routine") := Option.some.inj (f1.symm.trans r4)
  subst hcA
  generalize hH1 : H.push ({ cls := mj_eA E (.object "PassCourt$Routine"), slots := Array.replicate n.toNatClampNeg .null, vm := .none } : Cell) = H1
  have z1 : H1.size = H.size + 1 := by rw [← hH1, Array.size_push]
  have e1 : H1[H.size]? = some (arrV (mj_eA E (.object "PassCourt$Routine")) n.toNatClampNeg (fun _ => .null)) := by rw [← hH1, Array.getElem?_push_size, ← arrV_new]
  have o1 : ∀ z : Nat, z < H.size → H1[z]? = H[z]? := fun z hz => by rw [← hH1, Array.getElem?_push, if_neg (Nat.ne_of_lt hz)]
  refine W.cs (cells' := G.1 + 1 - n0) (slots' := G.2.1 + n.toNatClampNeg - s0) (by omega) (by omega) ?_
  have kk := k H1 locs ls (hR.push (Or.inr (by rw [hR.2.1] at e1; exact e1)) z1 o1) hl hlo (by show n0 ≤ G.1 + 1 ∧ G.1 + 1 ≤ R.cells + n0; omega) (by show s0 ≤ G.2.1 + n.toNatClampNeg ∧ G.2.1 + n.toNatClampNeg ≤ R.slots + s0; omega)
  rw [hR.2.1]
  exact kk
theorem mj_i_oinit {x : Nat} (hC : mj_Cx d lim n0 s0 q p R s m args meth c) (hd : decode (mj_B q) pc = .ok (.invokespecial x, 3)) (h : mj_in q lim (.invokespecial x) pc L st G = some S) (k : mj_Y E p l e R s m args below meth c n0 s0 q Qk S.1 S.2.1 S.2.2.1 S.2.2.2) : mj_Y E p l e R s m args below meth c n0 s0 q Qk pc L st G := by
  match st, h with
  | .ref a :: r, h =>
    obtain ⟨ci, hci, h⟩ := mj_bind_some h
    by_cases hz : (r.map fun v => v.category).sum ≤ 8
    · have h := (if_pos hz).symm.trans h
      cases h
      intro H locs ls hR hl hlo h1 h2
      have hts := hC.2.2.2.2.1
      have c1 := hC.2.2.2.2.2.2.2.2.1
      have c2 := hC.2.2.2.2.2.2.2.2.2.1
      have hroom := lv_room (m := m) (pc := pc) (ls := ls) (rest := (Value.ref a :: r).map (mj_tr E)) (st := r.map (mj_tr E)) (by rw [mj_sum_tr]; exact hz)
      refine W.objInit hC.1 hC.2.1 hC.2.2.2.1 (hts _ (mj_tb_in (mj_oi_ok hC.2.2.2.2.2.2.1 hci) rfl)) (hts _ (mj_tb_in mj_oj rfl)) (hts _ (mj_tb_in mj_oc rfl)) rfl (by rw [hC.2.2.1]; exact hl.1) rfl hd (by omega) (by omega) ?_
      exact k H locs ls hR hl hlo h1 h2
    · have h := (if_neg hz).symm.trans h
      cases h
end MJN
