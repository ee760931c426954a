/-! the steps that read or change the heap -/
theorem mj_gf_some {G : mj_H} {o ci k : Nat} {v : Value} (h : mj_gf G o ci k = some v) : ∃ fs, G.2.2 o = .inr (ci, fs) ∧ fs[k]? = some v := by
  unfold mj_gf at h
  split at h
  · rename_i c fs e
    split at h
    · rename_i hc; subst hc; exact ⟨fs, e, h⟩
    · cases h
  · cases h
theorem mj_pf_some {G G' : mj_H} {o ci k : Nat} {v : Value} (h : mj_pf G o ci k v = some G') : ∃ fs, G.2.2 o = .inr (ci, fs) ∧ k < fs.length ∧ mj_ok (mj_ty ci k) v = true ∧ G' = mj_up G o (.inr (ci, fs.set k v)) := by
  unfold mj_pf at h
  split at h
  · rename_i c fs e
    split at h
    · rename_i hc; obtain ⟨rfl, h1, h2⟩ := hc; cases h; exact ⟨fs, e, h1, h2, rfl⟩
    · cases h
  · cases h
theorem mj_ai_some {G : mj_H} {a : Nat} {i v : Int32} (h : mj_ai G a i = some v) : ∃ n f, G.2.2 a = .inl (.int, n, .inl f) ∧ vp_in i n ∧ v = f i.toNatClampNeg := by
  unfold mj_ai at h
  split at h
  · rename_i n f e
    split at h
    · cases h
    · rename_i hc; cases h; exact ⟨n, f, e, hc, rfl⟩
  · cases h
theorem mj_az_some {G : mj_H} {a : Nat} {i v : Int32} (h : mj_az G a i = some v) : ∃ n f, G.2.2 a = .inl (.boolean, n, .inl f) ∧ vp_in i n ∧ v = f i.toNatClampNeg := by
  unfold mj_az at h
  split at h
  · rename_i n f e
    split at h
    · cases h
    · rename_i hc; cases h; exact ⟨n, f, e, hc, rfl⟩
  · cases h
theorem mj_al_some {G : mj_H} {a : Nat} {i : Int32} {v : Int64} (h : mj_al G a i = some v) : ∃ n f, G.2.2 a = .inl (.long, n, .inr (.inl f)) ∧ vp_in i n ∧ v = f i.toNatClampNeg := by
  unfold mj_al at h
  split at h
  · rename_i n f e
    split at h
    · cases h
    · rename_i hc; cases h; exact ⟨n, f, e, hc, rfl⟩
  · cases h
theorem mj_aa_some {G : mj_H} {a : Nat} {i : Int32} {v : Option Nat} (h : mj_aa G a i = some v) : ∃ n f, G.2.2 a = .inl (.object "PassCourt$Routine", n, .inr (.inr (.inr (.inr f)))) ∧ vp_in i n ∧ v = f i.toNatClampNeg := by
  unfold mj_aa at h
  split at h
  · rename_i n f e
    split at h
    · cases h
    · rename_i hc; cases h; exact ⟨n, f, e, hc, rfl⟩
  · cases h
theorem mj_wi_some {G G' : mj_H} {a : Nat} {i x : Int32} (h : mj_wi G a i x = some G') : ∃ n f, G.2.2 a = .inl (.int, n, .inl f) ∧ a ≠ 0 ∧ vp_in i n ∧ G' = mj_up G a (.inl (.int, n, .inl (upd f i.toNatClampNeg x))) := by
  unfold mj_wi at h
  split at h
  · rename_i n f e
    split at h
    · cases h
    · rename_i hc; cases h; exact ⟨n, f, e, fun z => hc (Or.inl z), fun z => hc (Or.inr z), rfl⟩
  · cases h
theorem mj_wz_some {G G' : mj_H} {a : Nat} {i x : Int32} (h : mj_wz G a i x = some G') : ∃ n f, G.2.2 a = .inl (.boolean, n, .inl f) ∧ a ≠ 0 ∧ vp_in i n ∧ G' = mj_up G a (.inl (.boolean, n, .inl (upd f i.toNatClampNeg (vp_nar .boolean x)))) := by
  unfold mj_wz at h
  split at h
  · rename_i n f e
    split at h
    · cases h
    · rename_i hc; cases h; exact ⟨n, f, e, fun z => hc (Or.inl z), fun z => hc (Or.inr z), rfl⟩
  · cases h
theorem mj_wl_some {G G' : mj_H} {a : Nat} {i : Int32} {x : Int64} (h : mj_wl G a i x = some G') : ∃ n f, G.2.2 a = .inl (.long, n, .inr (.inl f)) ∧ a ≠ 0 ∧ vp_in i n ∧ G' = mj_up G a (.inl (.long, n, .inr (.inl (vp_updL f i.toNatClampNeg x)))) := by
  unfold mj_wl at h
  split at h
  · rename_i n f e
    split at h
    · cases h
    · rename_i hc; cases h; exact ⟨n, f, e, fun z => hc (Or.inl z), fun z => hc (Or.inr z), rfl⟩
  · cases h
theorem mj_io_some {G : mj_H} {o ci : Nat} (h : mj_io G o ci = true) : ∃ fs, G.2.2 o = .inr (ci, fs) := by
  unfold mj_io at h
  split at h
  · rename_i c fs e
    have hc : c = ci := by simpa using h
    subst hc; exact ⟨fs, e⟩
  · cases h
theorem mj_wa_some {G G' : mj_H} {a : Nat} {i : Int32} {x : Nat} (h : mj_wa G a i x = some G') : ∃ n f fs, G.2.2 a = .inl (.object "PassCourt$Routine", n, .inr (.inr (.inr (.inr f)))) ∧ a ≠ 0 ∧ vp_in i n ∧ G.2.2 x = .inr (6, fs) ∧ G' = mj_up G a (.inl (.object "PassCourt$Routine", n, .inr (.inr (.inr (.inr (va_up f i.toNatClampNeg (some x))))))) := by
  unfold mj_wa at h
  split at h
  · rename_i n f e
    split at h
    · cases h
    · rename_i hc; cases h
      have hx : mj_io G x 6 = true := by
        cases hh : mj_io G x 6 with
        | true => rfl
        | false => exact absurd (Or.inr (Or.inr (Or.inr hh))) hc
      obtain ⟨fs, hfs⟩ := mj_io_some hx
      exact ⟨n, f, fs, e, fun z => hc (Or.inl z), fun z => z.elim (fun z => hc (Or.inr (Or.inl z))) (fun z => hc (Or.inr (Or.inr (Or.inl z)))), hfs, rfl⟩
  · cases h
theorem mj_ad_some {G G' : mj_H} {lim : Nat × Nat} {k : Nat} {x : mj_X} (h : mj_ad G lim k x = some G') : G.1 + 1 ≤ lim.1 ∧ G.2.1 + k ≤ lim.2 ∧ G' = (G.1 + 1, G.2.1 + k, va_up G.2.2 (G.1 + 1) x) := by
  unfold mj_ad at h
  split at h
  · rename_i hc; cases h; exact ⟨hc.1, hc.2, rfl⟩
  · cases h
theorem mj_fs_len {ci : Nat} {r : vw_C} (h : mj_cs[ci]? = some r) : (mj_fs ci).length = r.2.2 := by
  simp [mj_fs, h]
theorem mj_lay_good (C : String) (T : u_T) (k : Nat) : goodWord (u_lay C T k) = true := by
  unfold u_lay
  split <;> rfl
theorem mj_lay_in {ci : Nat} {r : vw_C} (h : mj_cs[ci]? = some r) : ∀ w ∈ u_ws r.1 r.2.1 r.2.2, w ∈ mj_tb := by
  intro w hw
  refine mj_tb_in ((mj_okC_all ci r h).1 w hw) ?_
  obtain ⟨k, -, rfl⟩ := List.mem_map.mp hw
  exact mj_lay_good _ _ _
theorem mj_ok_tr (E : mj_E) {t : FieldType} {v : Value} (h : mj_ok t v = true) : narrow t (mj_tr E v) = mj_tr E v ∧ fits t (mj_tr E v) = true := by
  unfold mj_ok at h
  simp only [Bool.and_eq_true, decide_eq_true_eq] at h
  cases v with
  | ref a => exact ⟨by cases t <;> rfl, by cases t <;> first | exact h.2 | exact absurd h.2 (by simp [fits]) | rfl⟩
  | _ => exact h
theorem mj_tr_default (E : mj_E) (t : FieldType) : mj_tr E (defaultValue t) = defaultValue t := by cases t <;> rfl
section MJH
variable {E : mj_E} {p : Program} {l : Launch} {e : Env} {R : Room} {s : State} {m : MethodId} {args : Array Value} {below : List Frame} {meth : Method} {c : Code} {d n0 s0 : Nat} {Qk : State → Prop} {q : mj_M} {lim : Nat × Nat} {pc : Nat} {L st : List Value} {G : mj_H} {S : mj_S}
theorem mj_obj {H : Heap} {o ci : Nat} {fs : List Value} (hR : mj_Rp E s G H) (ho : G.2.2 o = .inr (ci, fs)) : ∃ a r, o = a + 1 ∧ mj_cs[ci]? = some r ∧ fs.length = r.2.2 ∧ t_OB (mj_e0 E + a) ((mj_eD E).1 ci) r.2.2 ((mj_eD E).2 ci) H (vp_V (fs.map (mj_tr E))) := by
  cases o with
  | zero => rw [hR.2.2.2.1] at ho; cases ho
  | succ a =>
    have h := hR.2.2.1 a
    rw [ho] at h
    obtain ⟨r, h1, h2, h3⟩ := h
    exact ⟨a, r, rfl, h1, h2, h3⟩
theorem mj_i_getfield {x : Nat} (hC : mj_Cx d lim n0 s0 q p R s m args meth c) (hd : decode (mj_B q) pc = .ok (.getfield x, 3)) (h : mj_in q lim (.getfield x) pc L st G = some S) (k : mj_Y E p l e R s m args below meth c n0 s0 q Qk S.1 S.2.1 S.2.2.1 S.2.2.2) : mj_Y E p l e R s m args below meth c n0 s0 q Qk pc L st G := by
  match st, h with
  | .ref o :: r, h =>
    obtain ⟨⟨ci, k0⟩, hf, h⟩ := mj_bind_some h
    obtain ⟨v, hv, rfl⟩ := mj_map_some h
    obtain ⟨fs, ho, hfk⟩ := mj_gf_some hv
    obtain ⟨w, hw, hk, hlink⟩ := mj_fl_ok hC.2.2.2.2.2.2.1 hf
    intro H locs ls hR hl hlo h1 h2
    obtain ⟨a, w2, rfl, hw2, hlen, hob⟩ := mj_obj hR ho
    cases hw.symm.trans hw2
    have hP : va_P (mj_eD E) mj_cs [(mj_e0 E + a, .inr (ci, fs.map (mj_tr E)))] H := by
      intro j z hz
      cases j with
      | zero => cases hz; exact ⟨w, hw, hob⟩
      | succ j => simp at hz
    have hK : va_K (mj_eD E) mj_cs [] s := ⟨hR.1.1, fun j z hz => by simp at hz⟩
    exact va_get (C := w.1) (T := w.2.1) (N := w.2.2) (v := mj_tr E v) hC.1 hC.2.1 hC.2.2.2.2.1 (mj_lay_in hw) hC.2.2.2.1 hK hP 0 rfl hw k0 hk (hC.2.2.2.2.1 _ (mj_tb_in hlink rfl)) (fun _ z => z) (by rw [List.getElem?_map, hfk]; rfl) hd (k H locs ls hR hl hlo h1 h2)
theorem mj_i_putfield {x : Nat} (hC : mj_Cx d lim n0 s0 q p R s m args meth c) (hd : decode (mj_B q) pc = .ok (.putfield x, 3)) (h : mj_in q lim (.putfield x) pc L st G = some S) (k : mj_Y E p l e R s m args below meth c n0 s0 q Qk S.1 S.2.1 S.2.2.1 S.2.2.2) : mj_Y E p l e R s m args below meth c n0 s0 q Qk pc L st G := by
  match st, h with
  | v :: .ref o :: r, h =>
    obtain ⟨⟨ci, k0⟩, hf, h⟩ := mj_bind_some h
    obtain ⟨w, hw, hk, hlink⟩ := mj_fl_ok hC.2.2.2.2.2.2.1 hf
    simp only at hw hk hlink
    simp only [hw] at h
    split at h
    · cases h
    rename_i hfin
    obtain ⟨G', hG', rfl⟩ := mj_map_some h
    obtain ⟨fs, ho, hlt, hok, rfl⟩ := mj_pf_some hG'
    intro H locs ls hR hl hlo h1 h2
    obtain ⟨a, w2, rfl, hw2, hlen, cell, q1, q2, q3, q4⟩ := mj_obj hR ho
    cases hw.symm.trans hw2
    obtain ⟨hin, hty, hnm, hnmC⟩ := mj_okC_all ci w hw
    have hin := mj_lay_in hw
    have hts := hC.2.2.2.2.1
    have hK : va_K (mj_eD E) mj_cs [] s := ⟨hR.1.1, fun j z hz => by simp at hz⟩
    have hap := va_apart (own := w.1) (C := w.1) (T := w.2.1) (N := w.2.2) hts hin (mj_ty ci) hty hnm hK hw
    obtain ⟨hS, hfc, kC, hkC, hkind⟩ := hR.1.1 ci _ hw
    obtain ⟨cf, kf, fi, f, hi, hsl⟩ := hS k0 hk
    have hlay := hts _ (hin _ (u_in_lay hk))
    have hst := (u_facts hfc hkC (u_lays hts hin hk) hi).1
    obtain ⟨hn, hfit⟩ := mj_ok_tr E hok
    have hd0 := hty k0 hk
    have hlk := hts _ (mj_tb_in hlink rfl)
    have fin : ∀ H' : Heap, H'[mj_e0 E + a]? = some (cell.setSlot ((mj_eD E).2 ci k0) (mj_tr E v)) → H'.size = H.size → (∀ z, z ≠ mj_e0 E + a → H'[z]? = H[z]?) → W p l e R s m args below meth c H' (locs ++ [⟨mj_e0 E + a, (mj_eD E).2 ci k0⟩]) (G.1 - n0) (G.2.1 - s0) Qk (F0 m (pc + 3) ls (r.map (mj_tr E))) := by
      intro H' e1 e2 e3
      refine k H' _ ls (hR.set ⟨w, hw, by rw [List.length_set]; exact hlen, ?_⟩ e2 e3) hl ?_ h1 h2
      · rw [List.map_set]
        exact t_OB.to (V := updV (vp_V (fs.map (mj_tr E))) k0 (mj_tr E v)) ⟨_, e1, q2, q3, t_set q4 hap hk (mj_tr E v)⟩ (fun j _ => vp_updV_set (by rw [List.length_map]; exact hlt) _ j)
      · intro y hy
        rcases List.mem_append.mp hy with h | h
        · exact hlo y h
        · rw [List.mem_singleton.mp h]; exact Nat.le_add_right _ _
    by_cases hf2 : (w.2.1 k0).2.2.2 = true
    · have hh : (mj_N q).name = "<init>" ∧ (w.2.1 k0).1 = (mj_N q).cls := Decidable.not_not.mp (fun z => hfin ⟨hf2, z⟩)
      unfold u_lay at hlay
      rw [if_pos hf2] at hlay
      have hcf : m.cls = cf := by
        obtain ⟨_, _, c', _, _, _, -, -, hf', -, -, -, hown2, -⟩ := Cond.laysFinal_spec hlay
        have e1 : c' = cf := by have := hi.symm.trans hf'; simp at this; exact this.1.symm
        rw [hh.2, ← hC.2.2.2.2.2.1] at hown2
        rw [← e1]; exact Option.some.inj (hC.2.2.2.1.symm.trans hown2)
      have h6 := u_fits hfc hkC hkind (Or.inr hlay) hi hd0 hn hfit
      refine W.putFinK hC.1 hC.2.1 hC.2.2.2.1 hlk hi hst hcf (hC.2.2.2.2.2.2.2.1 hh.1) (by rw [q2]; exact h6) q1 q3 (by rw [hsl]; exact k2_hasslot (q4 k0 hk)) rfl rfl hd fun H' e1 e2 e3 => ?_
      rw [hsl] at e1 ⊢
      exact fin H' e1 e2 e3
    · unfold u_lay at hlay
      rw [if_neg hf2] at hlay
      have h6 := u_store hfc hkC hkind hlay hi hd0 hn hfit
      refine W.putK hC.1 hC.2.1 (f := f) ⟨hC.2.2.2.1, hlk, ⟨_, _, _, hi⟩, hst⟩ (by rw [q2]; exact h6) q1 q3 (by rw [hsl]; exact k2_hasslot (q4 k0 hk)) rfl rfl hd fun H' e1 e2 e3 => ?_
      rw [hsl] at e1 ⊢
      exact fin H' e1 e2 e3
theorem mj_arr {H : Heap} {a : Nat} {ty : FieldType} {x : vp_A} (hR : mj_Rp E s G H) (ht : ty ≠ .byte) (ho : G.2.2 (a + 1) = .inl (ty, x)) : H[mj_e0 E + a]? = some (vp_cell (mj_eA E ty) (mj_ta E x)) := by
  have h := hR.2.2.1 a
  rw [ho] at h
  exact h.resolve_left ht
theorem mj_i_iaload (hC : mj_Cx d lim n0 s0 q p R s m args meth c) (hd : decode (mj_B q) pc = .ok (.iaload, 1)) (h : mj_in q lim (.iaload) pc L st G = some S) (k : mj_Y E p l e R s m args below meth c n0 s0 q Qk S.1 S.2.1 S.2.2.1 S.2.2.2) : mj_Y E p l e R s m args below meth c n0 s0 q Qk pc L st G := by
  match st, h with
  | .int i :: .ref a :: r, h =>
    obtain ⟨v, hv, rfl⟩ := mj_map_some h
    obtain ⟨n, f, ho, hin, rfl⟩ := mj_ai_some hv
    have hlt : i.toNatClampNeg < n := Nat.not_le.mp fun z => hin (Or.inr z)
    intro H locs ls hR hl hlo h1 h2
    cases a with
    | zero =>
      rw [hR.2.2.2.1] at ho
      cases ho
      obtain ⟨scr, g1, g2, g3, g4, g5⟩ := hR.2.2.2.2.1
      exact W.iald (v := .int (mj_ei E i.toNatClampNeg)) hC.1 hC.2.1 g1 g2 g3 (by rw [g4]; exact hin) (g5 _ hlt) rfl rfl hd (k H locs ls hR hl hlo h1 h2)
    | succ a =>
      have hc : H[mj_e0 E + a]? = some (arrV (mj_eA E .int) n (fun j => .int (f j))) := mj_arr hR (by intro z; cases z) ho
      exact W.iald (v := .int (f i.toNatClampNeg)) hC.1 hC.2.1 hc ((hR.1.2.1 .int (by simp [mj_tys])).1 n (fun j => .int (f j))) (fun z => by cases z) (by show ¬ (i < 0 ∨ (arrV _ _ _).slots.size ≤ _); rw [arrV_size]; exact hin) (by rw [arrV_read _ _ hlt]) rfl rfl hd (k H locs ls hR hl hlo h1 h2)
theorem mj_i_baload (hC : mj_Cx d lim n0 s0 q p R s m args meth c) (hd : decode (mj_B q) pc = .ok (.baload, 1)) (h : mj_in q lim (.baload) pc L st G = some S) (k : mj_Y E p l e R s m args below meth c n0 s0 q Qk S.1 S.2.1 S.2.2.1 S.2.2.2) : mj_Y E p l e R s m args below meth c n0 s0 q Qk pc L st G := by
  match st, h with
  | .int i :: .ref a :: r, h =>
    obtain ⟨v, hv, rfl⟩ := mj_map_some h
    obtain ⟨n, f, ho, hin, rfl⟩ := mj_az_some hv
    have hlt : i.toNatClampNeg < n := Nat.not_le.mp fun z => hin (Or.inr z)
    intro H locs ls hR hl hlo h1 h2
    cases a with
    | zero => rw [hR.2.2.2.1] at ho; cases ho
    | succ a =>
      have hc : H[mj_e0 E + a]? = some (arrV (mj_eA E .boolean) n (fun j => .int (f j))) := mj_arr hR (by intro z; cases z) ho
      exact W.zald (v := .int (f i.toNatClampNeg)) hC.1 hC.2.1 hc ((hR.1.2.1 .boolean (by simp [mj_tys])).1 n (fun j => .int (f j))) (fun z => by cases z) (by show ¬ (i < 0 ∨ (arrV _ _ _).slots.size ≤ _); rw [arrV_size]; exact hin) (by rw [arrV_read _ _ hlt]) rfl rfl hd (k H locs ls hR hl hlo h1 h2)
theorem mj_i_laload (hC : mj_Cx d lim n0 s0 q p R s m args meth c) (hd : decode (mj_B q) pc = .ok (.laload, 1)) (h : mj_in q lim (.laload) pc L st G = some S) (k : mj_Y E p l e R s m args below meth c n0 s0 q Qk S.1 S.2.1 S.2.2.1 S.2.2.2) : mj_Y E p l e R s m args below meth c n0 s0 q Qk pc L st G := by
  match st, h with
  | .int i :: .ref a :: r, h =>
    obtain ⟨v, hv, rfl⟩ := mj_map_some h
    obtain ⟨n, f, ho, hin, rfl⟩ := mj_al_some hv
    have hlt : i.toNatClampNeg < n := Nat.not_le.mp fun z => hin (Or.inr z)
    intro H locs ls hR hl hlo h1 h2
    cases a with
    | zero => rw [hR.2.2.2.1] at ho; cases ho
    | succ a =>
      have hc : H[mj_e0 E + a]? = some (arrV (mj_eA E .long) n (fun j => .long (f j))) := mj_arr hR (by intro z; cases z) ho
      exact W.lald (v := .long (f i.toNatClampNeg)) hC.1 hC.2.1 hc ((hR.1.2.1 .long (by simp [mj_tys])).1 n (fun j => .long (f j))) (fun z => by cases z) (by show ¬ (i < 0 ∨ (arrV _ _ _).slots.size ≤ _); rw [arrV_size]; exact hin) (by rw [arrV_read _ _ hlt]) rfl rfl hd (k H locs ls hR hl hlo h1 h2)
theorem mj_i_aaload (hC : mj_Cx d lim n0 s0 q p R s m args meth c) (hd : decode (mj_B q) pc = .ok (.aaload, 1)) (h : mj_in q lim (.aaload) pc L st G = some S) (k : mj_Y E p l e R s m args below meth c n0 s0 q Qk S.1 S.2.1 S.2.2.1 S.2.2.2) : mj_Y E p l e R s m args below meth c n0 s0 q Qk pc L st G := by
  match st, h with
  | .int i :: .ref a :: r, h =>
    obtain ⟨v, hv, rfl⟩ := mj_map_some h
    obtain ⟨n, f, ho, hin, rfl⟩ := mj_aa_some hv
    have hlt : i.toNatClampNeg < n := Nat.not_le.mp fun z => hin (Or.inr z)
    intro H locs ls hR hl hlo h1 h2
    cases a with
    | zero => rw [hR.2.2.2.1] at ho; cases ho
    | succ a =>
      have hc : H[mj_e0 E + a]? = some (arrV (mj_eA E (.object "PassCourt$Routine")) n (fun j => va_rf ((f j).map (mj_ra E)))) := mj_arr hR (by intro z; cases z) ho
      exact W.aald (v := mj_tr E (va_rf (f i.toNatClampNeg))) (ty := .object "PassCourt$Routine") hC.1 hC.2.1 hc ((hR.1.2.1 (.object "PassCourt$Routine") (by simp [mj_tys])).1 n (fun j => va_rf ((f j).map (mj_ra E)))) rfl (fun z => by cases z) (by show ¬ (i < 0 ∨ (arrV _ _ _).slots.size ≤ _); rw [arrV_size]; exact hin) (by rw [arrV_read _ _ hlt]; exact congrArg some (mj_tr_rf E _)) rfl rfl hd (k H locs ls hR hl hlo h1 h2)
theorem mj_lo {locs : List Loc} {a i : Nat} (hlo : ∀ x ∈ locs, mj_e0 E ≤ x.base) : ∀ x ∈ locs ++ [⟨mj_e0 E + a, i⟩], mj_e0 E ≤ x.base := by
  intro y hy
  rcases List.mem_append.mp hy with h | h
  · exact hlo y h
  · rw [List.mem_singleton.mp h]; exact Nat.le_add_right _ _
theorem mj_i_iastore (hC : mj_Cx d lim n0 s0 q p R s m args meth c) (hd : decode (mj_B q) pc = .ok (.iastore, 1)) (h : mj_in q lim (.iastore) pc L st G = some S) (k : mj_Y E p l e R s m args below meth c n0 s0 q Qk S.1 S.2.1 S.2.2.1 S.2.2.2) : mj_Y E p l e R s m args below meth c n0 s0 q Qk pc L st G := by
  match st, h with
  | .int x :: .int i :: .ref a :: r, h =>
    obtain ⟨v, hv, rfl⟩ := mj_map_some h
    obtain ⟨n, f, ho, ha0, hin, rfl⟩ := mj_wi_some hv
    intro H locs ls hR hl hlo h1 h2
    cases a with
    | zero => exact absurd rfl ha0
    | succ a =>
      have hc : H[mj_e0 E + a]? = some (arrV (mj_eA E .int) n (fun j => .int (f j))) := mj_arr hR (by intro z; cases z) ho
      refine W.iast hC.1 hC.2.1 hc ((hR.1.2.1 .int (by simp [mj_tys])).1 n (fun j => .int (f j))) (fun z => by cases z) (by show ¬ (i < 0 ∨ (arrV _ _ _).slots.size ≤ _); rw [arrV_size]; exact hin) rfl rfl hd fun H1 e1 z oq => ?_
      refine k H1 _ ls (hR.set (Or.inr ?_) z oq) hl (mj_lo hlo) h1 h2
      rw [e1]
      show some ((arrV _ n (fun j => .int (f j))).setSlot _ _) = some (arrV _ n (fun j => .int (upd f i.toNatClampNeg x j)))
      rw [arrV_store]
      congr 2
      funext z
      by_cases hq : z = i.toNatClampNeg
      · subst hq; simp [updV, upd]
      · simp [updV, upd, hq]
theorem mj_i_bastore (hC : mj_Cx d lim n0 s0 q p R s m args meth c) (hd : decode (mj_B q) pc = .ok (.bastore, 1)) (h : mj_in q lim (.bastore) pc L st G = some S) (k : mj_Y E p l e R s m args below meth c n0 s0 q Qk S.1 S.2.1 S.2.2.1 S.2.2.2) : mj_Y E p l e R s m args below meth c n0 s0 q Qk pc L st G := by
  match st, h with
  | .int x :: .int i :: .ref a :: r, h =>
    obtain ⟨v, hv, rfl⟩ := mj_map_some h
    obtain ⟨n, f, ho, ha0, hin, rfl⟩ := mj_wz_some hv
    intro H locs ls hR hl hlo h1 h2
    cases a with
    | zero => exact absurd rfl ha0
    | succ a =>
      have hc : H[mj_e0 E + a]? = some (arrV (mj_eA E .boolean) n (fun j => .int (f j))) := mj_arr hR (by intro z; cases z) ho
      refine W.zast hC.1 hC.2.1 hc ((hR.1.2.1 .boolean (by simp [mj_tys])).1 n (fun j => .int (f j))) (fun z => by cases z) (by show ¬ (i < 0 ∨ (arrV _ _ _).slots.size ≤ _); rw [arrV_size]; exact hin) rfl rfl hd fun H1 e1 z oq => ?_
      refine k H1 _ ls (hR.set (Or.inr ?_) z oq) hl (mj_lo hlo) h1 h2
      rw [e1]
      show some ((arrV _ n (fun j => .int (f j))).setSlot _ _) = some (arrV _ n (fun j => .int (upd f i.toNatClampNeg (vp_nar .boolean x) j)))
      rw [arrV_store]
      congr 2
      funext z
      by_cases hq : z = i.toNatClampNeg
      · subst hq
        simp [updV, upd, vp_nar]
        try rfl
      · simp [updV, upd, hq]
theorem mj_i_lastore (hC : mj_Cx d lim n0 s0 q p R s m args meth c) (hd : decode (mj_B q) pc = .ok (.lastore, 1)) (h : mj_in q lim (.lastore) pc L st G = some S) (k : mj_Y E p l e R s m args below meth c n0 s0 q Qk S.1 S.2.1 S.2.2.1 S.2.2.2) : mj_Y E p l e R s m args below meth c n0 s0 q Qk pc L st G := by
  match st, h with
  | .long x :: .int i :: .ref a :: r, h =>
    obtain ⟨v, hv, rfl⟩ := mj_map_some h
    obtain ⟨n, f, ho, ha0, hin, rfl⟩ := mj_wl_some hv
    intro H locs ls hR hl hlo h1 h2
    cases a with
    | zero => exact absurd rfl ha0
    | succ a =>
      have hc : H[mj_e0 E + a]? = some (arrV (mj_eA E .long) n (fun j => .long (f j))) := mj_arr hR (by intro z; cases z) ho
      refine W.last hC.1 hC.2.1 hc ((hR.1.2.1 .long (by simp [mj_tys])).1 n (fun j => .long (f j))) (fun z => by cases z) (by show ¬ (i < 0 ∨ (arrV _ _ _).slots.size ≤ _); rw [arrV_size]; exact hin) rfl rfl hd fun H1 e1 z oq => ?_
      refine k H1 _ ls (hR.set (Or.inr ?_) z oq) hl (mj_lo hlo) h1 h2
      rw [e1]
      show some ((arrV _ n (fun j => .long (f j))).setSlot _ _) = some (arrV _ n (fun j => .long (vp_updL f i.toNatClampNeg x j)))
      rw [arrV_store]
      congr 2
      funext z
      by_cases hq : z = i.toNatClampNeg
      · subst hq; simp [updV, vp_updL]
      · simp [updV, vp_updL, hq]
theorem mj_i_aastore (hC : mj_Cx d lim n0 s0 q p R s m args meth c) (hd : decode (mj_B q) pc = .ok (.aastore, 1)) (h : mj_in q lim (.aastore) pc L st G = some S) (k : mj_Y E p l e R s m args below meth c n0 s0 q Qk S.1 S.2.1 S.2.2.1 S.2.2.2) : mj_Y E p l e R s m args below meth c n0 s0 q Qk pc L st G := by
  match st, h with
  | .ref x :: .int i :: .ref a :: r, h =>
    obtain ⟨v, hv, rfl⟩ := mj_map_some h
    obtain ⟨n, f, fs, ho, ha0, hin, hx, rfl⟩ := mj_wa_some hv
    intro H locs ls hR hl hlo h1 h2
    have hlt : i.toNatClampNeg < n := Nat.not_le.mp fun z => hin (Or.inr z)
    have h0 : ¬ i < 0 := fun z => hin (Or.inl z)
    cases a with
    | zero => exact absurd rfl ha0
    | succ a =>
      have hc : H[mj_e0 E + a]? = some (arrV (mj_eA E (.object "PassCourt$Routine")) n (fun j => va_rf ((f j).map (mj_ra E)))) := mj_arr hR (by intro z; cases z) ho
      obtain ⟨b, w, rfl, hw, hlen, cellV, g1, g2, g3, -⟩ := mj_obj hR hx
      have hcls := (hR.1.1 6 w hw).2
      obtain ⟨kA, comp, k1, k2, k3, -⟩ := (hR.1.2.1 (.object "PassCourt$Routine") (by simp [mj_tys])).2
      have hwn : w.1 = "PassCourt$Routine" := (mj_okC_all 6 w hw).2.2.2
      rw [hwn] at hcls
      have hcomp : comp = (mj_eD E).1 6 := Option.some.inj (k3.symm.trans hcls.1)
      subst hcomp
      obtain ⟨kC, hkC, -⟩ := hcls.2
      refine W.aast hC.1 hC.2.1 hc (fun z h => by cases h) (fun h => by cases h) k1 k2 rfl hkC ⟨h0, by show _ < (arrV _ _ _).slots.size; rw [arrV_size]; exact hlt⟩ g1 (fun z h => by rw [g3] at h; cases h) (by rw [g2]; exact hkC) (by rw [g2]; exact va_assign hcls) rfl rfl hd fun H1 e1 z oq => ?_
      refine k H1 _ ls (hR.set (Or.inr ?_) z oq) hl (mj_lo hlo) h1 h2
      rw [e1]
      show some ((arrV _ n (fun j => va_rf ((f j).map (mj_ra E)))).setSlot _ _) = some (arrV _ n (fun j => va_rf ((va_up f i.toNatClampNeg (some (b + 1)) j).map (mj_ra E))))
      rw [arrV_store]
      congr 2
      funext z
      by_cases hq : z = i.toNatClampNeg
      · subst hq; simp [updV, va_up, va_rf, mj_ra]
      · simp [updV, va_up, hq]
theorem mj_i_alen (hC : mj_Cx d lim n0 s0 q p R s m args meth c) (hd : decode (mj_B q) pc = .ok (.arraylength, 1)) (h : mj_in q lim (.arraylength) pc L st G = some S) (k : mj_Y E p l e R s m args below meth c n0 s0 q Qk S.1 S.2.1 S.2.2.1 S.2.2.2) : mj_Y E p l e R s m args below meth c n0 s0 q Qk pc L st G := by
  match st, h with
  | .ref a :: r, h =>
    have h : (match G.2.2 a with | .inl (.int, n, .inl _) => some (pc + 1, L, .int (Int32.ofNat n) :: r, G) | _ => none) = some S := h
    split at h
    · rename_i n f ho
      cases h
      intro H locs ls hR hl hlo h1 h2
      cases a with
      | zero =>
        rw [hR.2.2.2.1] at ho
        cases ho
        obtain ⟨scr, g1, g2, g3, g4, g5⟩ := hR.2.2.2.2.1
        exact W.alen (n := Int32.ofNat (mj_el E)) hC.1 hC.2.1 g1 g2 (by rw [g4] <;> rfl) rfl rfl hd (k H locs ls hR hl hlo h1 h2)
      | succ a =>
        have hc : H[mj_e0 E + a]? = some (arrV (mj_eA E .int) n (fun j => .int (f j))) := mj_arr hR (by intro z; cases z) ho
        exact W.alen (n := Int32.ofNat n) hC.1 hC.2.1 hc ((hR.1.2.1 .int (by simp [mj_tys])).1 n (fun j => .int (f j))) (by show (arrV _ _ _).slots.size.toInt32 = _; rw [arrV_size] <;> rfl) rfl rfl hd (k H locs ls hR hl hlo h1 h2)
    · cases h
end MJH
