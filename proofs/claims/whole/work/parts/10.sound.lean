set_option maxHeartbeats 4000000 in
theorem mj_sound : ∀ d, mj_Snd d := by
  intro d
  induction d using Nat.rec with
  | zero =>
    intro lim q pc L st G Q h E p l e R s m args below meth c n0 s0 Qk hC hT
    rw [mj_V_def] at h
    refine h (mj_Y E p l e R s m args below meth c n0 s0 q Qk) ?_
    intro pc L st G hx
    unfold mj_ex at hx
    split at hx
    · rename_i S hS
      exact mj_step hC hS hx
    · unfold mj_cr at hx
      split at hx
      · obtain ⟨q', -, o, r, -, -, -, -, -, hcall⟩ := hx; exact hcall.elim
      · obtain ⟨q', -, -, -, -, hcall⟩ := hx; exact hcall.elim
      · obtain ⟨q', -, o, r, mc, ms, -, -, -, -, -, -, hcall⟩ := hx; exact hcall.elim
      · rename_i hd
        obtain ⟨v, rfl, hn, hQ⟩ := hx
        exact fun H locs ls hR hl hlo h1 h2 => hT _ G H locs _ ls _ (Or.inl ⟨v, hd, rfl, hn, rfl⟩) hQ hR hlo h1 h2
      · rename_i hd
        obtain ⟨v, rfl, hn, hQ⟩ := hx
        exact fun H locs ls hR hl hlo h1 h2 => hT _ G H locs _ ls _ (Or.inr (Or.inl ⟨v, hd, rfl, hn, rfl⟩)) hQ hR hlo h1 h2
      · rename_i hd
        obtain ⟨v, rfl, hv, hn, hQ⟩ := hx
        exact fun H locs ls hR hl hlo h1 h2 => hT _ G H locs _ ls _ (Or.inr (Or.inr (Or.inl ⟨v, hd, rfl, hv, hn, rfl⟩))) hQ hR hlo h1 h2
      · rename_i hd
        obtain ⟨rfl, hn, hQ⟩ := hx
        exact fun H locs ls hR hl hlo h1 h2 => hT _ G H locs _ ls _ (Or.inr (Or.inr (Or.inr ⟨hd, rfl, hn, rfl⟩))) hQ hR hlo h1 h2
      · exact hx.elim
  | succ d ih =>
    intro lim q pc L st G Q h E p l e R s m args below meth c n0 s0 Qk hC hT
    rw [mj_V_def] at h
    refine h (mj_Y E p l e R s m args below meth c n0 s0 q Qk) ?_
    intro pc L st G hx
    unfold mj_ex at hx
    split at hx
    · rename_i S hS
      exact mj_step hC hS hx
    · unfold mj_cr at hx
      have hts := hC.2.2.2.2.1
      have hfr := hC.2.2.2.2.2.2.2.2.1
      have hlc := hC.2.2.2.2.2.2.2.2.2.1
      split at hx
      · rename_i x hd
        obtain ⟨q', hlk, o, r, hst, hlen, hsum, hio, har, hcall⟩ := hx
        obtain ⟨hok, hml, hv0, -, -⟩ := mj_lk_ok hC.2.2.2.2.2.2.1 hlk
        obtain ⟨hin, hsel⟩ := hv0 rfl
        simp only at hok hml hin hsel
        intro H locs ls hR hl hlo h1 h2
        obtain ⟨fs, hfs⟩ := mj_io_some hio
        obtain ⟨a, w, rfl, hw, -, cellB, g1, g2, g3, -⟩ := mj_obj hR hfs
        have hwn : w.1 = (mj_N q').cls := (mj_okC_all _ w hw).2.2.2.trans hok.2.2.2.2.2.1
        have hfc := (hR.1.1 _ w hw).2.1
        have hM := mj_met ih (l := l) (E := E) (mc := 0) (ms := 0) hok hok.2.2.2.2.2.2.2 har (fun r G' hP => ⟨by rw [hP.1]; omega, by rw [hP.2.1]; omega⟩) hcall
        have hstk : st.map (mj_tr E) = ((st.take (mj_A q')).reverse.map (mj_tr E)).reverse ++ .ref (mj_e0 E + a) :: r.map (mj_tr E) := by
          conv => lhs; rw [← List.take_append_drop (mj_A q') st, hst]
          simp [mj_tr, mj_ra]
        refine mj_callW (mc := 0) (ms := 0) (va_runV (As := (st.take (mj_A q')).reverse.map (mj_tr E)) (rest := r.map (mj_tr E)) (Ts := mj_tb) ⟨hC.1, hC.2.1, hC.2.2.1, hC.2.2.2.1, hts⟩ hM ⟨callB_of (mj_A q') hts (mj_good_in q' hok) rfl rfl rfl (hts _ (mj_tb_in hok.2.1 rfl)) (hts _ (mj_tb_in hml rfl)) ⟨hok.2.2.2.1.1, hok.2.2.2.1.2, hok.2.2.2.2.1⟩ ⟨by show d + 1 + 1 ≤ R.frames; omega, by have := hok.2.2.2.2.2.2.1; show 8 + (mj_L q' + 11) + 34 * (d + 1) ≤ R.locals; omega⟩, hts _ (mj_tb_in hin rfl), hts _ (mj_tb_in hsel rfl)⟩ ⟨mj_blind, ⟨cellB, g1, by rw [g3]; rfl, by rw [← hwn, hfc, g2]⟩, fun U hU hW => ⟨rfl, by show mj_Rp E U G U.heap; rw [hU]; exact hR.moved hW.alike⟩⟩ rfl (by simp; omega) hl.1 hstk (lv_room (by rw [mj_sum_tr]; exact hsum)) hd ⟨by omega, by omega⟩) ?_
        intro v t LL hLL hvm ⟨st₀, v', G', hv', ⟨e1, e2, hY⟩, hR'⟩
        cases hv'
        rw [mj_toList]
        refine W.cs (cells' := G'.1 - n0) (slots' := G'.2.1 - s0) (by rw [e1]; rfl) (by rw [e2]; rfl) ?_
        exact hY t.heap _ ls (hR'.moved hvm.symm) hl (fun x hx => (List.mem_append.mp hx).elim (hlo x) (hLL x)) (by rw [e1]; exact h1) (by rw [e2]; exact h2)
      · rename_i x hd
        obtain ⟨q', hlk, hlen, hsum, har, hcall⟩ := hx
        obtain ⟨hok, hml, -, hv1, -⟩ := mj_lk_ok hC.2.2.2.2.2.2.1 hlk
        have hsta := hv1 rfl
        simp only at hok hml hsta
        intro H locs ls hR hl hlo h1 h2
        have hM := mj_met ih (l := l) (E := E) (mc := 0) (ms := 0) hok hok.2.2.2.2.2.2.2 har (fun r G' hP => ⟨by rw [hP.1]; omega, by rw [hP.2.1]; omega⟩) hcall
        have hstk : st.map (mj_tr E) = ((st.take (mj_A q')).reverse.map (mj_tr E)).reverse ++ (st.drop (mj_A q')).map (mj_tr E) := by
          conv => lhs; rw [← List.take_append_drop (mj_A q') st]
          simp
        refine mj_callW (mc := 0) (ms := 0) (va_runS (As := (st.take (mj_A q')).reverse.map (mj_tr E)) (rest := (st.drop (mj_A q')).map (mj_tr E)) (Ts := mj_tb) ⟨hC.1, hC.2.1, hC.2.2.1, hC.2.2.2.1, hts⟩ hM ⟨callB_of (mj_A q') hts (mj_good_in q' hok) rfl rfl rfl (hts _ (mj_tb_in hok.2.1 rfl)) (hts _ (mj_tb_in hml rfl)) ⟨hok.2.2.2.1.1, hok.2.2.2.1.2, hok.2.2.2.2.1⟩ ⟨by show d + 1 + 1 ≤ R.frames; omega, by have := hok.2.2.2.2.2.2.1; show 8 + (mj_L q' + 11) + 34 * (d + 1) ≤ R.locals; omega⟩, hts _ (mj_tb_in hsta rfl)⟩ ⟨mj_blind, fun U hU hW => ⟨rfl, by show mj_Rp E U G U.heap; rw [hU]; exact hR.moved hW.alike⟩⟩ rfl (by simp; omega) hl.1 hstk (lv_room (by rw [mj_sum_tr]; exact hsum)) hd ⟨by omega, by omega⟩) ?_
        intro v t LL hLL hvm ⟨st₀, v', G', hv', ⟨e1, e2, hY⟩, hR'⟩
        cases hv'
        rw [mj_toList]
        refine W.cs (cells' := G'.1 - n0) (slots' := G'.2.1 - s0) (by rw [e1]; rfl) (by rw [e2]; rfl) ?_
        exact hY t.heap _ ls (hR'.moved hvm.symm) hl (fun x hx => (List.mem_append.mp hx).elim (hlo x) (hLL x)) (by rw [e1]; exact h1) (by rw [e2]; exact h2)
      · rename_i x hd
        obtain ⟨q', hlk, o, r, mc, ms, hst, hlen, hsum, hl1, hl2, har, hcall⟩ := hx
        obtain ⟨hok, hml, -, -, hv2⟩ := mj_lk_ok hC.2.2.2.2.2.2.1 hlk
        obtain ⟨hin, hnm, hret⟩ := hv2 rfl
        simp only at hok hml hin hnm hret
        intro H locs ls hR hl hlo h1 h2
        have c1 := hC.2.2.2.2.2.2.2.2.2.2.1
        have c2 := hC.2.2.2.2.2.2.2.2.2.2.2
        have hM := mj_met ih (l := l) (E := E) (mc := mc) (ms := ms) hok hok.2.2.2.2.2.2.2 har (fun r G' hP => ⟨by rw [hP.1]; omega, by rw [hP.2.1]; omega⟩) hcall
        have hstk : st.map (mj_tr E) = ((st.take (mj_A q')).reverse.map (mj_tr E)).reverse ++ .ref (mj_ra E o) :: r.map (mj_tr E) := by
          conv => lhs; rw [← List.take_append_drop (mj_A q') st, hst]
          simp [mj_tr]
        refine mj_callW (mc := mc) (ms := ms) (va_runI (As := (st.take (mj_A q')).reverse.map (mj_tr E)) (rest := r.map (mj_tr E)) (Ts := mj_tb) ⟨hC.1, hC.2.1, hC.2.2.1, hC.2.2.2.1, hts⟩ hM ⟨callB_of (mj_A q') hts (mj_good_in q' hok) (by unfold mj_ws; rw [hret]) rfl rfl (hts _ (mj_tb_in hok.2.1 rfl)) (hts _ (mj_tb_in hml rfl)) ⟨hok.2.2.2.1.1, hok.2.2.2.1.2, hok.2.2.2.2.1⟩ ⟨by show d + 1 + 1 ≤ R.frames; omega, by have := hok.2.2.2.2.2.2.1; show 8 + (mj_L q' + 11) + 34 * (d + 1) ≤ R.locals; omega⟩, hnm, hts _ (mj_tb_in hin rfl)⟩ ⟨mj_blind, fun U hU hW => ⟨rfl, by show mj_Rp E U G U.heap; rw [hU]; exact hR.moved hW.alike⟩⟩ rfl (by simp; omega) hl.1 hstk (lv_room (by rw [mj_sum_tr]; exact hsum)) hd ⟨by omega, by omega⟩) ?_
        intro v t LL hLL hvm ⟨st₀, v', G', hv', ⟨e1, e2, hY⟩, hR'⟩
        cases hv'
        rw [mj_toList]
        refine W.cs (cells' := G'.1 - n0) (slots' := G'.2.1 - s0) (by rw [e1]; omega) (by rw [e2]; omega) ?_
        exact hY t.heap _ ls (hR'.moved hvm.symm) hl (fun x hx => (List.mem_append.mp hx).elim (hlo x) (hLL x)) (by rw [e1]; omega) (by rw [e2]; omega)
      · rename_i hd
        obtain ⟨v, rfl, hn, hQ⟩ := hx
        exact fun H locs ls hR hl hlo h1 h2 => hT _ G H locs _ ls _ (Or.inl ⟨v, hd, rfl, hn, rfl⟩) hQ hR hlo h1 h2
      · rename_i hd
        obtain ⟨v, rfl, hn, hQ⟩ := hx
        exact fun H locs ls hR hl hlo h1 h2 => hT _ G H locs _ ls _ (Or.inr (Or.inl ⟨v, hd, rfl, hn, rfl⟩)) hQ hR hlo h1 h2
      · rename_i hd
        obtain ⟨v, rfl, hv, hn, hQ⟩ := hx
        exact fun H locs ls hR hl hlo h1 h2 => hT _ G H locs _ ls _ (Or.inr (Or.inr (Or.inl ⟨v, hd, rfl, hv, hn, rfl⟩))) hQ hR hlo h1 h2
      · rename_i hd
        obtain ⟨rfl, hn, hQ⟩ := hx
        exact fun H locs ls hR hl hlo h1 h2 => hT _ G H locs _ ls _ (Or.inr (Or.inr (Or.inr ⟨hd, rfl, hn, rfl⟩))) hQ hR hlo h1 h2
      · exact hx.elim
