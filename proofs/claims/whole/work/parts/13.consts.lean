/-! small rows for the instructions -/
def mj_zb (v : Int32) : Prop := mj_nr (some .boolean) (.int v)
theorem zcb_m2 : (Int8.ofInt (-2)).toInt32 = (-2) := by decide +kernel
theorem zcb_6 : (Int8.ofInt 6).toInt32 = nI 6 := by decide +kernel
theorem zcb_7 : (Int8.ofInt 7).toInt32 = nI 7 := by decide +kernel
theorem zcb_8 : (Int8.ofInt 8).toInt32 = nI 8 := by decide +kernel
theorem zcb_9 : (Int8.ofInt 9).toInt32 = nI 9 := by decide +kernel
theorem zcb_10 : (Int8.ofInt 10).toInt32 = nI 10 := by decide +kernel
theorem zcb_11 : (Int8.ofInt 11).toInt32 = nI 11 := by decide +kernel
theorem zcb_12 : (Int8.ofInt 12).toInt32 = nI 12 := by decide +kernel
theorem zcb_13 : (Int8.ofInt 13).toInt32 = nI 13 := by decide +kernel
theorem zcb_14 : (Int8.ofInt 14).toInt32 = nI 14 := by decide +kernel
theorem zcb_16 : (Int8.ofInt 16).toInt32 = nI 16 := by decide +kernel
theorem zcb_31 : (Int8.ofInt 31).toInt32 = nI 31 := by decide +kernel
theorem zcb_32 : (Int8.ofInt 32).toInt32 = nI 32 := by decide +kernel
theorem zcb_40 : (Int8.ofInt 40).toInt32 = nI 40 := by decide +kernel
theorem zcb_41 : (Int8.ofInt 41).toInt32 = nI 41 := by decide +kernel
theorem zcb_44 : (Int8.ofInt 44).toInt32 = nI 44 := by decide +kernel
theorem zcb_50 : (Int8.ofInt 50).toInt32 = nI 50 := by decide +kernel
theorem zcb_51 : (Int8.ofInt 51).toInt32 = nI 51 := by decide +kernel
theorem zcc_m1 : Int32.ofInt (-1) = (-1) := by decide +kernel
theorem zcc_0 : Int32.ofInt 0 = nI 0 := by decide +kernel
theorem zcc_1 : Int32.ofInt 1 = nI 1 := by decide +kernel
theorem zcc_2 : Int32.ofInt 2 = nI 2 := by decide +kernel
theorem zcc_3 : Int32.ofInt 3 = nI 3 := by decide +kernel
theorem zcc_4 : Int32.ofInt 4 = nI 4 := by decide +kernel
theorem zcc_5 : Int32.ofInt 5 = nI 5 := by decide +kernel
theorem zcc_6 : Int32.ofInt 6 = nI 6 := by decide +kernel
theorem zcs_200 : (Int16.ofInt 200).toInt32 = nI 200 := by decide +kernel
theorem zcs_408 : (Int16.ofInt 408).toInt32 = nI 408 := by decide +kernel
theorem zcs_1000 : (Int16.ofInt 1000).toInt32 = nI 1000 := by decide +kernel
theorem zcs_1001 : (Int16.ofInt 1001).toInt32 = nI 1001 := by decide +kernel
theorem zcs_1600 : (Int16.ofInt 1600).toInt32 = nI 1600 := by decide +kernel
theorem zcs_2601 : (Int16.ofInt 2601).toInt32 = nI 2601 := by decide +kernel
theorem zcs_8800 : (Int16.ofInt 8800).toInt32 = nI 8800 := by decide +kernel
theorem zcs_10000 : (Int16.ofInt 10000).toInt32 = nI 10000 := by decide +kernel
theorem mj_out {x : Int32} {lo hi : Nat} (hh : hi < 2 ^ 31) (h : ∀ k, lo ≤ k → k ≤ hi → x ≠ nI k) : x.toInt < (lo : Int) ∨ (hi : Int) < x.toInt := by
  by_cases h1 : x.toInt < (lo : Int)
  · exact Or.inl h1
  by_cases h2 : (hi : Int) < x.toInt
  · exact Or.inr h2
  exfalso
  have hx : x = nI x.toInt.toNat := Int32.toInt_inj.mp (by rw [nI_toInt (by omega)]; omega)
  exact h x.toInt.toNat (by omega) (by omega) hx
theorem mj_nI_ok {N : Nat} (hN : N ≤ 100000) : ¬ (nI N < 0 ∨ 100000 < (nI N).toNatClampNeg) ∧ (nI N).toNatClampNeg = N := by
  have h := nI_clamp (n := N) (by omega)
  refine ⟨fun z => z.elim (nI_pos (by omega)) (fun z => by omega), h⟩
section GON
variable {d : Nat} {lim : Nat × Nat} {q : mj_M} {pc : Nat} {L r : List Value} {G : mj_H} {Q : mj_Q} {N : Nat}
theorem go_newa_int (hd : decode (mj_B q) pc = .ok (.newarray .int, 2)) (hN : N ≤ 100000) : mj_V d lim q pc L (.int (nI N) :: r) G Q ↔ mj_op (mj_ad G lim N (.inl (.int, N, .inl (fun _ => 0)))) (fun G' => mj_V d lim q (pc + 2) L (.ref (G.1 + 1) :: r) G' Q) :=
  mj_gh hd rfl (f := fun G' => (pc + 2, L, .ref (G.1 + 1) :: r, G')) (by
    have h := mj_nI_ok hN
    refine (if_neg h.1).trans ?_
    rw [h.2]) (by unfold mj_cr; rw [hd]; exact fun z => z)
theorem go_newa_boolean (hd : decode (mj_B q) pc = .ok (.newarray .boolean, 2)) (hN : N ≤ 100000) : mj_V d lim q pc L (.int (nI N) :: r) G Q ↔ mj_op (mj_ad G lim N (.inl (.boolean, N, .inl (fun _ => 0)))) (fun G' => mj_V d lim q (pc + 2) L (.ref (G.1 + 1) :: r) G' Q) :=
  mj_gh hd rfl (f := fun G' => (pc + 2, L, .ref (G.1 + 1) :: r, G')) (by
    have h := mj_nI_ok hN
    refine (if_neg h.1).trans ?_
    rw [h.2]) (by unfold mj_cr; rw [hd]; exact fun z => z)
theorem go_newa_long (hd : decode (mj_B q) pc = .ok (.newarray .long, 2)) (hN : N ≤ 100000) : mj_V d lim q pc L (.int (nI N) :: r) G Q ↔ mj_op (mj_ad G lim N (.inl (.long, N, .inr (.inl (fun _ => 0))))) (fun G' => mj_V d lim q (pc + 2) L (.ref (G.1 + 1) :: r) G' Q) :=
  mj_gh hd rfl (f := fun G' => (pc + 2, L, .ref (G.1 + 1) :: r, G')) (by
    have h := mj_nI_ok hN
    refine (if_neg h.1).trans ?_
    rw [h.2]) (by unfold mj_cr; rw [hd]; exact fun z => z)
theorem go_anew {x ci : Nat} (hd : decode (mj_B q) pc = .ok (.anewarray x, 3)) (hc : mj_an (mj_C q) x = some ci) (hN : N ≤ 100000) : mj_V d lim q pc L (.int (nI N) :: r) G Q ↔ mj_op (mj_ad G lim N (.inl (.object "PassCourt$Routine", N, .inr (.inr (.inr (.inr (fun _ => none))))))) (fun G' => mj_V d lim q (pc + 3) L (.ref (G.1 + 1) :: r) G' Q) :=
  mj_gh hd rfl (f := fun G' => (pc + 3, L, .ref (G.1 + 1) :: r, G')) (by
    have h := mj_nI_ok hN
    show (mj_an (mj_C q) x).bind _ = _
    rw [hc]
    refine (if_neg h.1).trans ?_
    rw [h.2]) (by unfold mj_cr; rw [hd]; exact fun z => z)
end GON
