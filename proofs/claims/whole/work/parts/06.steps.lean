/-! each step of the small machine is one of the machine's -/
theorem mj_p1_some {st : List Value} {k : Int32 → List Value → Option mj_S} {S : mj_S} (h : mj_p1 st k = some S) : ∃ a r, st = .int a :: r ∧ k a r = some S := by
  unfold mj_p1 at h
  split at h
  · exact ⟨_, _, rfl, h⟩
  · cases h
theorem mj_p2_some {st : List Value} {k : Int32 → Int32 → List Value → Option mj_S} {S : mj_S} (h : mj_p2 st k = some S) : ∃ a b r, st = .int b :: .int a :: r ∧ k a b r = some S := by
  unfold mj_p2 at h
  split at h
  · exact ⟨_, _, _, rfl, h⟩
  · cases h
theorem mj_q1_some {st : List Value} {k : Int64 → List Value → Option mj_S} {S : mj_S} (h : mj_q1 st k = some S) : ∃ a r, st = .long a :: r ∧ k a r = some S := by
  unfold mj_q1 at h
  split at h
  · exact ⟨_, _, rfl, h⟩
  · cases h
theorem mj_q2_some {st : List Value} {k : Int64 → Int64 → List Value → Option mj_S} {S : mj_S} (h : mj_q2 st k = some S) : ∃ a b r, st = .long b :: .long a :: r ∧ k a b r = some S := by
  unfold mj_q2 at h
  split at h
  · exact ⟨_, _, _, rfl, h⟩
  · cases h
theorem mj_li_some {L : List Value} {i : Nat} {a : Int32} (h : mj_li L i = some a) : L[i]? = some (.int a) := by
  unfold mj_li at h
  split at h
  · rename_i hh; cases h; exact hh
  · cases h
theorem mj_ll_some {L : List Value} {i : Nat} {a : Int64} (h : mj_ll L i = some a) : L[i]? = some (.long a) := by
  unfold mj_ll at h
  split at h
  · rename_i hh; cases h; exact hh
  · cases h
theorem mj_la_some {L : List Value} {i : Nat} {a : Value} (h : mj_la L i = some a) : L[i]? = some a ∧ (a = .null ∨ ∃ b, a = .ref b) := by
  unfold mj_la at h
  split at h
  · rename_i hh; cases h; exact ⟨hh, Or.inr ⟨_, rfl⟩⟩
  · rename_i hh; cases h; exact ⟨hh, Or.inl rfl⟩
  · cases h
theorem mj_tg_some {pc : Nat} {off : Int} {t : Nat} (h : mj_tg pc off = some t) : (pc : Int) + off = (t : Int) := by
  unfold mj_tg at h
  split at h
  · cases h; omega
  · cases h
theorem mj_s1_some {n : Nat} {L L' : List Value} {i : Nat} {v : Value} (h : mj_s1 n L i v = some L') : i < n ∧ L' = (mj_cl L i).set i v := by
  unfold mj_s1 at h
  split at h
  · cases h; exact ⟨by assumption, rfl⟩
  · cases h
theorem mj_s2_some {n : Nat} {L L' : List Value} {i : Nat} {v : Value} (h : mj_s2 n L i v = some L') : i + 1 < n ∧ L' = ((mj_cl L i).set i v).set (i + 1) mj_j := by
  unfold mj_s2 at h
  split at h
  · cases h; exact ⟨by assumption, rfl⟩
  · cases h
theorem mj_map_some {α β : Type} {o : Option α} {f : α → β} {y : β} (h : o.map f = some y) : ∃ a, o = some a ∧ f a = y := by
  cases o with
  | none => cases h
  | some a => exact ⟨a, rfl, Option.some.inj h⟩
theorem mj_bind_some {α β : Type} {o : Option α} {f : α → Option β} {y : β} (h : o.bind f = some y) : ∃ a, o = some a ∧ f a = some y := by
  cases o with
  | none => cases h
  | some a => exact ⟨a, rfl, h⟩
def mj_tb : List Cond := lw_tbl.filter goodWord
theorem mj_tb_in {w : Cond} (h : w ∈ lw_tbl) (hg : goodWord w = true) : w ∈ mj_tb := List.mem_filter.mpr ⟨h, hg⟩
def mj_Cx (d : Nat) (lim : Nat × Nat) (n0 s0 : Nat) (q : mj_M) (p : Program) (R : Room) (s : State) (m : MethodId) (args : Array Value) (meth : Method) (c : Code) : Prop :=
  p.tables.exec = Jvm.exec ∧ c.code = mj_B q ∧ c.maxLocals = mj_L q ∧ s.vm.findClass (mj_cn (mj_C q)) = some m.cls ∧ (∀ w ∈ mj_tb, w.before args s = true) ∧ mj_cn (mj_C q) = (mj_N q).cls ∧ mj_C q < 13 ∧ ((mj_N q).name = "<init>" → meth.name = "<init>") ∧ d + 1 ≤ R.frames ∧ 34 * (d + 1) ≤ R.locals ∧ lim.1 ≤ R.cells + n0 ∧ lim.2 ≤ R.slots + s0
def mj_Y (E : mj_E) (p : Program) (l : Launch) (e : Env) (R : Room) (s : State) (m : MethodId) (args : Array Value) (below : List Frame) (meth : Method) (c : Code) (n0 s0 : Nat) (q : mj_M) (Qk : State → Prop) (pc : Nat) (L st : List Value) (G : mj_H) : Prop :=
  ∀ (H : Heap) (locs : List Loc) (ls : Array Slot), mj_Rp E s G H → mj_lh E (mj_L q) ls L → (∀ x ∈ locs, mj_e0 E ≤ x.base) → (n0 ≤ G.1 ∧ G.1 ≤ R.cells + n0) → (s0 ≤ G.2.1 ∧ G.2.1 ≤ R.slots + s0) → W p l e R s m args below meth c H locs (G.1 - n0) (G.2.1 - s0) Qk (F0 m pc ls (st.map (mj_tr E)))
section MJI
variable {E : mj_E} {p : Program} {l : Launch} {e : Env} {R : Room} {s : State} {m : MethodId} {args : Array Value} {below : List Frame} {meth : Method} {c : Code} {d n0 s0 : Nat} {Qk : State → Prop} {q : mj_M} {lim : Nat × Nat} {pc : Nat} {L st : List Value} {G : mj_H} {S : mj_S}
theorem mj_i_iconst {n : Int} (hC : mj_Cx d lim n0 s0 q p R s m args meth c) (hd : decode (mj_B q) pc = .ok (.iconst n, 1)) (h : mj_in q lim (.iconst n) pc L st G = some S) (k : mj_Y E p l e R s m args below meth c n0 s0 q Qk S.1 S.2.1 S.2.2.1 S.2.2.2) : mj_Y E p l e R s m args below meth c n0 s0 q Qk pc L st G := by
  cases h
  intro H locs ls hR hl hlo h1 h2
  exact lv_iconst hC.1 hC.2.1 hd rfl (k H locs ls hR hl hlo h1 h2)
theorem mj_i_bipush {n : Int} (hC : mj_Cx d lim n0 s0 q p R s m args meth c) (hd : decode (mj_B q) pc = .ok (.bipush n, 2)) (h : mj_in q lim (.bipush n) pc L st G = some S) (k : mj_Y E p l e R s m args below meth c n0 s0 q Qk S.1 S.2.1 S.2.2.1 S.2.2.2) : mj_Y E p l e R s m args below meth c n0 s0 q Qk pc L st G := by
  cases h
  intro H locs ls hR hl hlo h1 h2
  exact lv_bipush hC.1 hC.2.1 hd rfl (k H locs ls hR hl hlo h1 h2)
theorem mj_i_sipush {n : Int} (hC : mj_Cx d lim n0 s0 q p R s m args meth c) (hd : decode (mj_B q) pc = .ok (.sipush n, 3)) (h : mj_in q lim (.sipush n) pc L st G = some S) (k : mj_Y E p l e R s m args below meth c n0 s0 q Qk S.1 S.2.1 S.2.2.1 S.2.2.2) : mj_Y E p l e R s m args below meth c n0 s0 q Qk pc L st G := by
  cases h
  intro H locs ls hR hl hlo h1 h2
  exact lv_sipush hC.1 hC.2.1 hd rfl (k H locs ls hR hl hlo h1 h2)
theorem mj_i_lconst {n : Fin 2} (hC : mj_Cx d lim n0 s0 q p R s m args meth c) (hd : decode (mj_B q) pc = .ok (.lconst n, 1)) (h : mj_in q lim (.lconst n) pc L st G = some S) (k : mj_Y E p l e R s m args below meth c n0 s0 q Qk S.1 S.2.1 S.2.2.1 S.2.2.2) : mj_Y E p l e R s m args below meth c n0 s0 q Qk pc L st G := by
  cases h
  intro H locs ls hR hl hlo h1 h2
  exact lv_lconst hC.1 hC.2.1 hd rfl (k H locs ls hR hl hlo h1 h2)
theorem mj_i_null (hC : mj_Cx d lim n0 s0 q p R s m args meth c) (hd : decode (mj_B q) pc = .ok (.aconst_null, 1)) (h : mj_in q lim (.aconst_null) pc L st G = some S) (k : mj_Y E p l e R s m args below meth c n0 s0 q Qk S.1 S.2.1 S.2.2.1 S.2.2.2) : mj_Y E p l e R s m args below meth c n0 s0 q Qk pc L st G := by
  cases h
  intro H locs ls hR hl hlo h1 h2
  exact lv_null hC.1 hC.2.1 hd (k H locs ls hR hl hlo h1 h2)
theorem mj_i_ldc {x : Nat} (hC : mj_Cx d lim n0 s0 q p R s m args meth c) (hd : decode (mj_B q) pc = .ok (.ldc x, 2)) (h : mj_in q lim (.ldc x) pc L st G = some S) (k : mj_Y E p l e R s m args below meth c n0 s0 q Qk S.1 S.2.1 S.2.2.1 S.2.2.2) : mj_Y E p l e R s m args below meth c n0 s0 q Qk pc L st G := by
  obtain ⟨v, hv, rfl⟩ := mj_map_some h
  intro H locs ls hR hl hlo h1 h2
  exact lv_ldc hC.1 hC.2.1 hC.2.2.2.1 (hC.2.2.2.2.1 _ (mj_tb_in (mj_kI_ok hC.2.2.2.2.2.2.1 hv) rfl)) hd (k H locs ls hR hl hlo h1 h2)
theorem mj_i_ldc2 {x : Nat} (hC : mj_Cx d lim n0 s0 q p R s m args meth c) (hd : decode (mj_B q) pc = .ok (.ldc2_w x, 3)) (h : mj_in q lim (.ldc2_w x) pc L st G = some S) (k : mj_Y E p l e R s m args below meth c n0 s0 q Qk S.1 S.2.1 S.2.2.1 S.2.2.2) : mj_Y E p l e R s m args below meth c n0 s0 q Qk pc L st G := by
  obtain ⟨v, hv, rfl⟩ := mj_map_some h
  intro H locs ls hR hl hlo h1 h2
  exact lv_ldc2 hC.1 hC.2.1 hC.2.2.2.1 (hC.2.2.2.2.1 _ (mj_tb_in (mj_kJ_ok hC.2.2.2.2.2.2.1 hv) rfl)) hd (k H locs ls hR hl hlo h1 h2)
theorem mj_i_iload_n {x : Fin 4} (hC : mj_Cx d lim n0 s0 q p R s m args meth c) (hd : decode (mj_B q) pc = .ok (.iload_n x, 1)) (h : mj_in q lim (.iload_n x) pc L st G = some S) (k : mj_Y E p l e R s m args below meth c n0 s0 q Qk S.1 S.2.1 S.2.2.1 S.2.2.2) : mj_Y E p l e R s m args below meth c n0 s0 q Qk pc L st G := by
  obtain ⟨a, ha, rfl⟩ := mj_map_some h
  intro H locs ls hR hl hlo h1 h2
  exact lv_iload_n hC.1 hC.2.1 hd rfl (hl.2.2.2 _ _ (mj_li_some ha) (by intro h; cases h)) (k H locs ls hR hl hlo h1 h2)
theorem mj_i_iload {x : Nat} (hC : mj_Cx d lim n0 s0 q p R s m args meth c) (hd : decode (mj_B q) pc = .ok (.iload x, 2)) (h : mj_in q lim (.iload x) pc L st G = some S) (k : mj_Y E p l e R s m args below meth c n0 s0 q Qk S.1 S.2.1 S.2.2.1 S.2.2.2) : mj_Y E p l e R s m args below meth c n0 s0 q Qk pc L st G := by
  obtain ⟨a, ha, rfl⟩ := mj_map_some h
  intro H locs ls hR hl hlo h1 h2
  exact lv_iload hC.1 hC.2.1 hd (hl.2.2.2 _ _ (mj_li_some ha) (by intro h; cases h)) (k H locs ls hR hl hlo h1 h2)
theorem mj_i_lload_n {x : Fin 4} (hC : mj_Cx d lim n0 s0 q p R s m args meth c) (hd : decode (mj_B q) pc = .ok (.lload_n x, 1)) (h : mj_in q lim (.lload_n x) pc L st G = some S) (k : mj_Y E p l e R s m args below meth c n0 s0 q Qk S.1 S.2.1 S.2.2.1 S.2.2.2) : mj_Y E p l e R s m args below meth c n0 s0 q Qk pc L st G := by
  obtain ⟨a, ha, rfl⟩ := mj_map_some h
  intro H locs ls hR hl hlo h1 h2
  exact lv_lload_n hC.1 hC.2.1 hd rfl (hl.2.2.2 _ _ (mj_ll_some ha) (by intro h; cases h)) (k H locs ls hR hl hlo h1 h2)
theorem mj_i_lload {x : Nat} (hC : mj_Cx d lim n0 s0 q p R s m args meth c) (hd : decode (mj_B q) pc = .ok (.lload x, 2)) (h : mj_in q lim (.lload x) pc L st G = some S) (k : mj_Y E p l e R s m args below meth c n0 s0 q Qk S.1 S.2.1 S.2.2.1 S.2.2.2) : mj_Y E p l e R s m args below meth c n0 s0 q Qk pc L st G := by
  obtain ⟨a, ha, rfl⟩ := mj_map_some h
  intro H locs ls hR hl hlo h1 h2
  exact lv_lload hC.1 hC.2.1 hd (hl.2.2.2 _ _ (mj_ll_some ha) (by intro h; cases h)) (k H locs ls hR hl hlo h1 h2)
theorem mj_i_aload_n {x : Fin 4} (hC : mj_Cx d lim n0 s0 q p R s m args meth c) (hd : decode (mj_B q) pc = .ok (.aload_n x, 1)) (h : mj_in q lim (.aload_n x) pc L st G = some S) (k : mj_Y E p l e R s m args below meth c n0 s0 q Qk S.1 S.2.1 S.2.2.1 S.2.2.2) : mj_Y E p l e R s m args below meth c n0 s0 q Qk pc L st G := by
  obtain ⟨a, ha, rfl⟩ := mj_map_some h
  intro H locs ls hR hl hlo h1 h2
  obtain ⟨e1, rfl | ⟨b, rfl⟩⟩ := mj_la_some ha
  · exact lv_aload_nN hC.1 hC.2.1 hd rfl (hl.2.2.2 _ _ e1 (by intro h; cases h)) (k H locs ls hR hl hlo h1 h2)
  · exact lv_aload_n hC.1 hC.2.1 hd rfl (hl.2.2.2 _ _ e1 (by intro h; cases h)) (k H locs ls hR hl hlo h1 h2)
theorem mj_i_aload {x : Nat} (hC : mj_Cx d lim n0 s0 q p R s m args meth c) (hd : decode (mj_B q) pc = .ok (.aload x, 2)) (h : mj_in q lim (.aload x) pc L st G = some S) (k : mj_Y E p l e R s m args below meth c n0 s0 q Qk S.1 S.2.1 S.2.2.1 S.2.2.2) : mj_Y E p l e R s m args below meth c n0 s0 q Qk pc L st G := by
  obtain ⟨a, ha, rfl⟩ := mj_map_some h
  intro H locs ls hR hl hlo h1 h2
  obtain ⟨e1, rfl | ⟨b, rfl⟩⟩ := mj_la_some ha
  · exact lv_aloadN hC.1 hC.2.1 hd (hl.2.2.2 _ _ e1 (by intro h; cases h)) (k H locs ls hR hl hlo h1 h2)
  · exact lv_aload hC.1 hC.2.1 hd (hl.2.2.2 _ _ e1 (by intro h; cases h)) (k H locs ls hR hl hlo h1 h2)
theorem mj_i_istore_n {x : Fin 4} (hC : mj_Cx d lim n0 s0 q p R s m args meth c) (hd : decode (mj_B q) pc = .ok (.istore_n x, 1)) (h : mj_in q lim (.istore_n x) pc L st G = some S) (k : mj_Y E p l e R s m args below meth c n0 s0 q Qk S.1 S.2.1 S.2.2.1 S.2.2.2) : mj_Y E p l e R s m args below meth c n0 s0 q Qk pc L st G := by
  obtain ⟨a, r, rfl, h⟩ := mj_p1_some h
  obtain ⟨L2, hL, rfl⟩ := mj_map_some h
  obtain ⟨hi, rfl⟩ := mj_s1_some hL
  intro H locs ls hR hl hlo h1 h2
  exact lv_istore_n hC.1 hC.2.1 hd rfl hl.has hi rfl (fun ls2 h2s => k H locs ls2 hR (hl.s1 hi h2s) hlo h1 h2)
theorem mj_i_istore {x : Nat} (hC : mj_Cx d lim n0 s0 q p R s m args meth c) (hd : decode (mj_B q) pc = .ok (.istore x, 2)) (h : mj_in q lim (.istore x) pc L st G = some S) (k : mj_Y E p l e R s m args below meth c n0 s0 q Qk S.1 S.2.1 S.2.2.1 S.2.2.2) : mj_Y E p l e R s m args below meth c n0 s0 q Qk pc L st G := by
  obtain ⟨a, r, rfl, h⟩ := mj_p1_some h
  obtain ⟨L2, hL, rfl⟩ := mj_map_some h
  obtain ⟨hi, rfl⟩ := mj_s1_some hL
  intro H locs ls hR hl hlo h1 h2
  exact lv_istore hC.1 hC.2.1 hd hl.has hi rfl (fun ls2 h2s => k H locs ls2 hR (hl.s1 hi h2s) hlo h1 h2)
theorem mj_i_lstore_n {x : Fin 4} (hC : mj_Cx d lim n0 s0 q p R s m args meth c) (hd : decode (mj_B q) pc = .ok (.lstore_n x, 1)) (h : mj_in q lim (.lstore_n x) pc L st G = some S) (k : mj_Y E p l e R s m args below meth c n0 s0 q Qk S.1 S.2.1 S.2.2.1 S.2.2.2) : mj_Y E p l e R s m args below meth c n0 s0 q Qk pc L st G := by
  obtain ⟨a, r, rfl, h⟩ := mj_q1_some h
  obtain ⟨L2, hL, rfl⟩ := mj_map_some h
  obtain ⟨hi, rfl⟩ := mj_s2_some hL
  intro H locs ls hR hl hlo h1 h2
  exact lv_lstore_n hC.1 hC.2.1 hd rfl hl.has hi rfl (fun ls2 h2s => k H locs ls2 hR (hl.s2 hi h2s) hlo h1 h2)
theorem mj_i_lstore {x : Nat} (hC : mj_Cx d lim n0 s0 q p R s m args meth c) (hd : decode (mj_B q) pc = .ok (.lstore x, 2)) (h : mj_in q lim (.lstore x) pc L st G = some S) (k : mj_Y E p l e R s m args below meth c n0 s0 q Qk S.1 S.2.1 S.2.2.1 S.2.2.2) : mj_Y E p l e R s m args below meth c n0 s0 q Qk pc L st G := by
  obtain ⟨a, r, rfl, h⟩ := mj_q1_some h
  obtain ⟨L2, hL, rfl⟩ := mj_map_some h
  obtain ⟨hi, rfl⟩ := mj_s2_some hL
  intro H locs ls hR hl hlo h1 h2
  exact lv_lstore hC.1 hC.2.1 hd hl.has hi rfl (fun ls2 h2s => k H locs ls2 hR (hl.s2 hi h2s) hlo h1 h2)
theorem mj_i_astore_n {x : Fin 4} (hC : mj_Cx d lim n0 s0 q p R s m args meth c) (hd : decode (mj_B q) pc = .ok (.astore_n x, 1)) (h : mj_in q lim (.astore_n x) pc L st G = some S) (k : mj_Y E p l e R s m args below meth c n0 s0 q Qk S.1 S.2.1 S.2.2.1 S.2.2.2) : mj_Y E p l e R s m args below meth c n0 s0 q Qk pc L st G := by
  match st, h with
  | .ref a :: r, h =>
    obtain ⟨L2, hL, rfl⟩ := mj_map_some h
    obtain ⟨hi, rfl⟩ := mj_s1_some hL
    intro H locs ls hR hl hlo h1 h2
    exact lv_astore_n hC.1 hC.2.1 hd rfl hl.has hi rfl (fun ls2 h2s => k H locs ls2 hR (hl.s1 hi h2s) hlo h1 h2)
  | .null :: r, h =>
    obtain ⟨L2, hL, rfl⟩ := mj_map_some h
    obtain ⟨hi, rfl⟩ := mj_s1_some hL
    intro H locs ls hR hl hlo h1 h2
    exact lv_astore_nN hC.1 hC.2.1 hd rfl hl.has hi rfl (fun ls2 h2s => k H locs ls2 hR (hl.s1 hi h2s) hlo h1 h2)
theorem mj_i_astore {x : Nat} (hC : mj_Cx d lim n0 s0 q p R s m args meth c) (hd : decode (mj_B q) pc = .ok (.astore x, 2)) (h : mj_in q lim (.astore x) pc L st G = some S) (k : mj_Y E p l e R s m args below meth c n0 s0 q Qk S.1 S.2.1 S.2.2.1 S.2.2.2) : mj_Y E p l e R s m args below meth c n0 s0 q Qk pc L st G := by
  match st, h with
  | .ref a :: r, h =>
    obtain ⟨L2, hL, rfl⟩ := mj_map_some h
    obtain ⟨hi, rfl⟩ := mj_s1_some hL
    intro H locs ls hR hl hlo h1 h2
    exact lv_astore hC.1 hC.2.1 hd hl.has hi rfl (fun ls2 h2s => k H locs ls2 hR (hl.s1 hi h2s) hlo h1 h2)
  | .null :: r, h =>
    obtain ⟨L2, hL, rfl⟩ := mj_map_some h
    obtain ⟨hi, rfl⟩ := mj_s1_some hL
    intro H locs ls hR hl hlo h1 h2
    exact lv_astoreN hC.1 hC.2.1 hd hl.has hi rfl (fun ls2 h2s => k H locs ls2 hR (hl.s1 hi h2s) hlo h1 h2)
theorem mj_i_iinc {x : Nat} {n : Int} (hC : mj_Cx d lim n0 s0 q p R s m args meth c) (hd : decode (mj_B q) pc = .ok (.iinc x n, 3)) (h : mj_in q lim (.iinc x n) pc L st G = some S) (k : mj_Y E p l e R s m args below meth c n0 s0 q Qk S.1 S.2.1 S.2.2.1 S.2.2.2) : mj_Y E p l e R s m args below meth c n0 s0 q Qk pc L st G := by
  obtain ⟨a, ha, h⟩ := mj_bind_some h
  obtain ⟨L2, hL, rfl⟩ := mj_map_some h
  obtain ⟨hi, rfl⟩ := mj_s1_some hL
  intro H locs ls hR hl hlo h1 h2
  have hm : (x, mj_tr E (.int a)) ∈ mj_as E L := mj_as_mem.mpr ⟨.int a, mj_li_some ha, (by intro h; cases h), rfl⟩
  obtain ⟨kk, hk⟩ := List.getElem?_of_mem hm
  exact lv_iinc hC.1 hC.2.1 hd hl.has hk rfl hi rfl (fun ls2 h2s => k H locs ls2 hR (hl.s1 (v := .int (a + Int32.ofInt n)) hi h2s) hlo h1 h2)
theorem mj_i_iadd (hC : mj_Cx d lim n0 s0 q p R s m args meth c) (hd : decode (mj_B q) pc = .ok (.iadd, 1)) (h : mj_in q lim (.iadd) pc L st G = some S) (k : mj_Y E p l e R s m args below meth c n0 s0 q Qk S.1 S.2.1 S.2.2.1 S.2.2.2) : mj_Y E p l e R s m args below meth c n0 s0 q Qk pc L st G := by
  obtain ⟨a, b, r, rfl, h⟩ := mj_p2_some h
  cases h
  intro H locs ls hR hl hlo h1 h2
  exact lv_iadd hC.1 hC.2.1 hd (k H locs ls hR hl hlo h1 h2)
theorem mj_i_isub (hC : mj_Cx d lim n0 s0 q p R s m args meth c) (hd : decode (mj_B q) pc = .ok (.isub, 1)) (h : mj_in q lim (.isub) pc L st G = some S) (k : mj_Y E p l e R s m args below meth c n0 s0 q Qk S.1 S.2.1 S.2.2.1 S.2.2.2) : mj_Y E p l e R s m args below meth c n0 s0 q Qk pc L st G := by
  obtain ⟨a, b, r, rfl, h⟩ := mj_p2_some h
  cases h
  intro H locs ls hR hl hlo h1 h2
  exact lv_isub hC.1 hC.2.1 hd (k H locs ls hR hl hlo h1 h2)
theorem mj_i_imul (hC : mj_Cx d lim n0 s0 q p R s m args meth c) (hd : decode (mj_B q) pc = .ok (.imul, 1)) (h : mj_in q lim (.imul) pc L st G = some S) (k : mj_Y E p l e R s m args below meth c n0 s0 q Qk S.1 S.2.1 S.2.2.1 S.2.2.2) : mj_Y E p l e R s m args below meth c n0 s0 q Qk pc L st G := by
  obtain ⟨a, b, r, rfl, h⟩ := mj_p2_some h
  cases h
  intro H locs ls hR hl hlo h1 h2
  exact lv_imul hC.1 hC.2.1 hd (k H locs ls hR hl hlo h1 h2)
theorem mj_i_iand (hC : mj_Cx d lim n0 s0 q p R s m args meth c) (hd : decode (mj_B q) pc = .ok (.iand, 1)) (h : mj_in q lim (.iand) pc L st G = some S) (k : mj_Y E p l e R s m args below meth c n0 s0 q Qk S.1 S.2.1 S.2.2.1 S.2.2.2) : mj_Y E p l e R s m args below meth c n0 s0 q Qk pc L st G := by
  obtain ⟨a, b, r, rfl, h⟩ := mj_p2_some h
  cases h
  intro H locs ls hR hl hlo h1 h2
  exact lv_iand hC.1 hC.2.1 hd (k H locs ls hR hl hlo h1 h2)
theorem mj_i_ior (hC : mj_Cx d lim n0 s0 q p R s m args meth c) (hd : decode (mj_B q) pc = .ok (.ior, 1)) (h : mj_in q lim (.ior) pc L st G = some S) (k : mj_Y E p l e R s m args below meth c n0 s0 q Qk S.1 S.2.1 S.2.2.1 S.2.2.2) : mj_Y E p l e R s m args below meth c n0 s0 q Qk pc L st G := by
  obtain ⟨a, b, r, rfl, h⟩ := mj_p2_some h
  cases h
  intro H locs ls hR hl hlo h1 h2
  exact lv_ior hC.1 hC.2.1 hd (k H locs ls hR hl hlo h1 h2)
theorem mj_i_ixor (hC : mj_Cx d lim n0 s0 q p R s m args meth c) (hd : decode (mj_B q) pc = .ok (.ixor, 1)) (h : mj_in q lim (.ixor) pc L st G = some S) (k : mj_Y E p l e R s m args below meth c n0 s0 q Qk S.1 S.2.1 S.2.2.1 S.2.2.2) : mj_Y E p l e R s m args below meth c n0 s0 q Qk pc L st G := by
  obtain ⟨a, b, r, rfl, h⟩ := mj_p2_some h
  cases h
  intro H locs ls hR hl hlo h1 h2
  exact lv_ixor hC.1 hC.2.1 hd (k H locs ls hR hl hlo h1 h2)
theorem mj_i_ishl (hC : mj_Cx d lim n0 s0 q p R s m args meth c) (hd : decode (mj_B q) pc = .ok (.ishl, 1)) (h : mj_in q lim (.ishl) pc L st G = some S) (k : mj_Y E p l e R s m args below meth c n0 s0 q Qk S.1 S.2.1 S.2.2.1 S.2.2.2) : mj_Y E p l e R s m args below meth c n0 s0 q Qk pc L st G := by
  obtain ⟨a, b, r, rfl, h⟩ := mj_p2_some h
  cases h
  intro H locs ls hR hl hlo h1 h2
  exact lv_ishl hC.1 hC.2.1 hd (k H locs ls hR hl hlo h1 h2)
theorem mj_i_ishr (hC : mj_Cx d lim n0 s0 q p R s m args meth c) (hd : decode (mj_B q) pc = .ok (.ishr, 1)) (h : mj_in q lim (.ishr) pc L st G = some S) (k : mj_Y E p l e R s m args below meth c n0 s0 q Qk S.1 S.2.1 S.2.2.1 S.2.2.2) : mj_Y E p l e R s m args below meth c n0 s0 q Qk pc L st G := by
  obtain ⟨a, b, r, rfl, h⟩ := mj_p2_some h
  cases h
  intro H locs ls hR hl hlo h1 h2
  exact lv_ishr hC.1 hC.2.1 hd (k H locs ls hR hl hlo h1 h2)
theorem mj_i_ladd (hC : mj_Cx d lim n0 s0 q p R s m args meth c) (hd : decode (mj_B q) pc = .ok (.ladd, 1)) (h : mj_in q lim (.ladd) pc L st G = some S) (k : mj_Y E p l e R s m args below meth c n0 s0 q Qk S.1 S.2.1 S.2.2.1 S.2.2.2) : mj_Y E p l e R s m args below meth c n0 s0 q Qk pc L st G := by
  obtain ⟨a, b, r, rfl, h⟩ := mj_q2_some h
  cases h
  intro H locs ls hR hl hlo h1 h2
  exact lv_ladd hC.1 hC.2.1 hd (k H locs ls hR hl hlo h1 h2)
theorem mj_i_lsub (hC : mj_Cx d lim n0 s0 q p R s m args meth c) (hd : decode (mj_B q) pc = .ok (.lsub, 1)) (h : mj_in q lim (.lsub) pc L st G = some S) (k : mj_Y E p l e R s m args below meth c n0 s0 q Qk S.1 S.2.1 S.2.2.1 S.2.2.2) : mj_Y E p l e R s m args below meth c n0 s0 q Qk pc L st G := by
  obtain ⟨a, b, r, rfl, h⟩ := mj_q2_some h
  cases h
  intro H locs ls hR hl hlo h1 h2
  exact lv_lsub hC.1 hC.2.1 hd (k H locs ls hR hl hlo h1 h2)
theorem mj_i_lmul (hC : mj_Cx d lim n0 s0 q p R s m args meth c) (hd : decode (mj_B q) pc = .ok (.lmul, 1)) (h : mj_in q lim (.lmul) pc L st G = some S) (k : mj_Y E p l e R s m args below meth c n0 s0 q Qk S.1 S.2.1 S.2.2.1 S.2.2.2) : mj_Y E p l e R s m args below meth c n0 s0 q Qk pc L st G := by
  obtain ⟨a, b, r, rfl, h⟩ := mj_q2_some h
  cases h
  intro H locs ls hR hl hlo h1 h2
  exact lv_lmul hC.1 hC.2.1 hd (k H locs ls hR hl hlo h1 h2)
theorem mj_i_land (hC : mj_Cx d lim n0 s0 q p R s m args meth c) (hd : decode (mj_B q) pc = .ok (.land, 1)) (h : mj_in q lim (.land) pc L st G = some S) (k : mj_Y E p l e R s m args below meth c n0 s0 q Qk S.1 S.2.1 S.2.2.1 S.2.2.2) : mj_Y E p l e R s m args below meth c n0 s0 q Qk pc L st G := by
  obtain ⟨a, b, r, rfl, h⟩ := mj_q2_some h
  cases h
  intro H locs ls hR hl hlo h1 h2
  exact lv_land hC.1 hC.2.1 hd (k H locs ls hR hl hlo h1 h2)
theorem mj_i_lor (hC : mj_Cx d lim n0 s0 q p R s m args meth c) (hd : decode (mj_B q) pc = .ok (.lor, 1)) (h : mj_in q lim (.lor) pc L st G = some S) (k : mj_Y E p l e R s m args below meth c n0 s0 q Qk S.1 S.2.1 S.2.2.1 S.2.2.2) : mj_Y E p l e R s m args below meth c n0 s0 q Qk pc L st G := by
  obtain ⟨a, b, r, rfl, h⟩ := mj_q2_some h
  cases h
  intro H locs ls hR hl hlo h1 h2
  exact lv_lor hC.1 hC.2.1 hd (k H locs ls hR hl hlo h1 h2)
theorem mj_i_ldiv (hC : mj_Cx d lim n0 s0 q p R s m args meth c) (hd : decode (mj_B q) pc = .ok (.ldiv, 1)) (h : mj_in q lim (.ldiv) pc L st G = some S) (k : mj_Y E p l e R s m args below meth c n0 s0 q Qk S.1 S.2.1 S.2.2.1 S.2.2.2) : mj_Y E p l e R s m args below meth c n0 s0 q Qk pc L st G := by
  obtain ⟨a, b, r, rfl, hh⟩ := mj_q2_some h
  by_cases hz : b = 0
  · have hh := (if_pos hz).symm.trans hh
    cases hh
  have hh := (if_neg hz).symm.trans hh
  cases hh
  intro H locs ls hR hl hlo h1 h2
  exact lv_ldiv hC.1 hC.2.1 hd hz (k H locs ls hR hl hlo h1 h2)
theorem mj_i_lrem (hC : mj_Cx d lim n0 s0 q p R s m args meth c) (hd : decode (mj_B q) pc = .ok (.lrem, 1)) (h : mj_in q lim (.lrem) pc L st G = some S) (k : mj_Y E p l e R s m args below meth c n0 s0 q Qk S.1 S.2.1 S.2.2.1 S.2.2.2) : mj_Y E p l e R s m args below meth c n0 s0 q Qk pc L st G := by
  obtain ⟨a, b, r, rfl, hh⟩ := mj_q2_some h
  by_cases hz : b = 0
  · have hh := (if_pos hz).symm.trans hh
    cases hh
  have hh := (if_neg hz).symm.trans hh
  cases hh
  intro H locs ls hR hl hlo h1 h2
  exact lv_lrem hC.1 hC.2.1 hd hz (k H locs ls hR hl hlo h1 h2)
theorem mj_i_lcmp (hC : mj_Cx d lim n0 s0 q p R s m args meth c) (hd : decode (mj_B q) pc = .ok (.lcmp, 1)) (h : mj_in q lim (.lcmp) pc L st G = some S) (k : mj_Y E p l e R s m args below meth c n0 s0 q Qk S.1 S.2.1 S.2.2.1 S.2.2.2) : mj_Y E p l e R s m args below meth c n0 s0 q Qk pc L st G := by
  obtain ⟨a, b, r, rfl, h⟩ := mj_q2_some h
  cases h
  intro H locs ls hR hl hlo h1 h2
  exact W.lcmp hC.1 hC.2.1 hd (k H locs ls hR hl hlo h1 h2)
theorem mj_i_lshl (hC : mj_Cx d lim n0 s0 q p R s m args meth c) (hd : decode (mj_B q) pc = .ok (.lshl, 1)) (h : mj_in q lim (.lshl) pc L st G = some S) (k : mj_Y E p l e R s m args below meth c n0 s0 q Qk S.1 S.2.1 S.2.2.1 S.2.2.2) : mj_Y E p l e R s m args below meth c n0 s0 q Qk pc L st G := by
  match st, h with
  | .int b :: .long a :: r, h =>
    cases h
    intro H locs ls hR hl hlo h1 h2
    exact lv_lshl hC.1 hC.2.1 hd rfl (k H locs ls hR hl hlo h1 h2)
theorem mj_i_i2l (hC : mj_Cx d lim n0 s0 q p R s m args meth c) (hd : decode (mj_B q) pc = .ok (.i2l, 1)) (h : mj_in q lim (.i2l) pc L st G = some S) (k : mj_Y E p l e R s m args below meth c n0 s0 q Qk S.1 S.2.1 S.2.2.1 S.2.2.2) : mj_Y E p l e R s m args below meth c n0 s0 q Qk pc L st G := by
  obtain ⟨a, r, rfl, h⟩ := mj_p1_some h
  cases h
  intro H locs ls hR hl hlo h1 h2
  exact lv_i2l hC.1 hC.2.1 hd rfl (k H locs ls hR hl hlo h1 h2)
theorem mj_i_l2i (hC : mj_Cx d lim n0 s0 q p R s m args meth c) (hd : decode (mj_B q) pc = .ok (.l2i, 1)) (h : mj_in q lim (.l2i) pc L st G = some S) (k : mj_Y E p l e R s m args below meth c n0 s0 q Qk S.1 S.2.1 S.2.2.1 S.2.2.2) : mj_Y E p l e R s m args below meth c n0 s0 q Qk pc L st G := by
  obtain ⟨a, r, rfl, h⟩ := mj_q1_some h
  cases h
  intro H locs ls hR hl hlo h1 h2
  exact lv_l2i hC.1 hC.2.1 hd rfl (k H locs ls hR hl hlo h1 h2)
theorem mj_i_dup (hC : mj_Cx d lim n0 s0 q p R s m args meth c) (hd : decode (mj_B q) pc = .ok (.dup, 1)) (h : mj_in q lim (.dup) pc L st G = some S) (k : mj_Y E p l e R s m args below meth c n0 s0 q Qk S.1 S.2.1 S.2.2.1 S.2.2.2) : mj_Y E p l e R s m args below meth c n0 s0 q Qk pc L st G := by
  match st, h with
  | v :: r, h =>
    by_cases hz : v.category = 1
    · have h := (if_pos hz).symm.trans h
      cases h
      intro H locs ls hR hl hlo h1 h2
      exact lv_dup hC.1 hC.2.1 hd ((mj_tr_cat E v).trans hz) (k H locs ls hR hl hlo h1 h2)
    · have h := (if_neg hz).symm.trans h
      cases h
theorem mj_i_pop (hC : mj_Cx d lim n0 s0 q p R s m args meth c) (hd : decode (mj_B q) pc = .ok (.pop, 1)) (h : mj_in q lim (.pop) pc L st G = some S) (k : mj_Y E p l e R s m args below meth c n0 s0 q Qk S.1 S.2.1 S.2.2.1 S.2.2.2) : mj_Y E p l e R s m args below meth c n0 s0 q Qk pc L st G := by
  match st, h with
  | v :: r, h =>
    by_cases hz : v.category = 1
    · have h := (if_pos hz).symm.trans h
      cases h
      intro H locs ls hR hl hlo h1 h2
      exact lv_pop hC.1 hC.2.1 hd ((mj_tr_cat E v).trans hz) (k H locs ls hR hl hlo h1 h2)
    · have h := (if_neg hz).symm.trans h
      cases h
theorem mj_i_dup_x1 (hC : mj_Cx d lim n0 s0 q p R s m args meth c) (hd : decode (mj_B q) pc = .ok (.dup_x1, 1)) (h : mj_in q lim (.dup_x1) pc L st G = some S) (k : mj_Y E p l e R s m args below meth c n0 s0 q Qk S.1 S.2.1 S.2.2.1 S.2.2.2) : mj_Y E p l e R s m args below meth c n0 s0 q Qk pc L st G := by
  match st, h with
  | v :: u :: r, h =>
    by_cases hz : v.category = 1 ∧ u.category = 1
    · have h := (if_pos hz).symm.trans h
      cases h
      intro H locs ls hR hl hlo h1 h2
      exact lv_dup_x1 hC.1 hC.2.1 hd ((mj_tr_cat E v).trans hz.1) ((mj_tr_cat E u).trans hz.2) (k H locs ls hR hl hlo h1 h2)
    · have h := (if_neg hz).symm.trans h
      cases h
theorem mj_i_dup2 (hC : mj_Cx d lim n0 s0 q p R s m args meth c) (hd : decode (mj_B q) pc = .ok (.dup2, 1)) (h : mj_in q lim (.dup2) pc L st G = some S) (k : mj_Y E p l e R s m args below meth c n0 s0 q Qk S.1 S.2.1 S.2.2.1 S.2.2.2) : mj_Y E p l e R s m args below meth c n0 s0 q Qk pc L st G := by
  match st, h with
  | v :: u :: r, h =>
    by_cases hz : v.category = 1 ∧ u.category = 1
    · have h := (if_pos hz).symm.trans h
      cases h
      intro H locs ls hR hl hlo h1 h2
      exact lv_dup2_11 hC.1 hC.2.1 hd ((mj_tr_cat E v).trans hz.1) ((mj_tr_cat E u).trans hz.2) (k H locs ls hR hl hlo h1 h2)
    · have h := (if_neg hz).symm.trans h
      cases h
theorem mj_i_goto {off : Int} (hC : mj_Cx d lim n0 s0 q p R s m args meth c) (hd : decode (mj_B q) pc = .ok (.goto off, 3)) (h : mj_in q lim (.goto off) pc L st G = some S) (k : mj_Y E p l e R s m args below meth c n0 s0 q Qk S.1 S.2.1 S.2.2.1 S.2.2.2) : mj_Y E p l e R s m args below meth c n0 s0 q Qk pc L st G := by
  obtain ⟨t, ht, rfl⟩ := mj_map_some h
  intro H locs ls hR hl hlo h1 h2
  exact lv_goto hC.1 hC.2.1 hd (mj_tg_some ht) (k H locs ls hR hl hlo h1 h2)
theorem mj_i_if_eq {off : Int} (hC : mj_Cx d lim n0 s0 q p R s m args meth c) (hd : decode (mj_B q) pc = .ok (.ifCond .eq off, 3)) (h : mj_in q lim (.ifCond .eq off) pc L st G = some S) (k : mj_Y E p l e R s m args below meth c n0 s0 q Qk S.1 S.2.1 S.2.2.1 S.2.2.2) : mj_Y E p l e R s m args below meth c n0 s0 q Qk pc L st G := by
  obtain ⟨a, r, rfl, h⟩ := mj_p1_some h
  obtain ⟨t, ht, rfl⟩ := mj_map_some h
  obtain ⟨t2, ht2, rfl⟩ := mj_map_some ht
  intro H locs ls hR hl hlo h1 h2
  have k := k H locs ls hR hl hlo h1 h2
  exact lv_if_eq hC.1 hC.2.1 hd (mj_tg_some ht2) (fun hc => by simp only [if_pos hc] at k; exact k) (fun hc => by simp only [if_neg hc] at k; exact k)
theorem mj_i_icmp_eq {off : Int} (hC : mj_Cx d lim n0 s0 q p R s m args meth c) (hd : decode (mj_B q) pc = .ok (.if_icmp .eq off, 3)) (h : mj_in q lim (.if_icmp .eq off) pc L st G = some S) (k : mj_Y E p l e R s m args below meth c n0 s0 q Qk S.1 S.2.1 S.2.2.1 S.2.2.2) : mj_Y E p l e R s m args below meth c n0 s0 q Qk pc L st G := by
  obtain ⟨a, b, r, rfl, h⟩ := mj_p2_some h
  obtain ⟨t, ht, rfl⟩ := mj_map_some h
  obtain ⟨t2, ht2, rfl⟩ := mj_map_some ht
  intro H locs ls hR hl hlo h1 h2
  have k := k H locs ls hR hl hlo h1 h2
  exact lv_icmp_eq hC.1 hC.2.1 hd (mj_tg_some ht2) (fun hc => by simp only [if_pos hc] at k; exact k) (fun hc => by simp only [if_neg hc] at k; exact k)
theorem mj_i_if_ne {off : Int} (hC : mj_Cx d lim n0 s0 q p R s m args meth c) (hd : decode (mj_B q) pc = .ok (.ifCond .ne off, 3)) (h : mj_in q lim (.ifCond .ne off) pc L st G = some S) (k : mj_Y E p l e R s m args below meth c n0 s0 q Qk S.1 S.2.1 S.2.2.1 S.2.2.2) : mj_Y E p l e R s m args below meth c n0 s0 q Qk pc L st G := by
  obtain ⟨a, r, rfl, h⟩ := mj_p1_some h
  obtain ⟨t, ht, rfl⟩ := mj_map_some h
  obtain ⟨t2, ht2, rfl⟩ := mj_map_some ht
  intro H locs ls hR hl hlo h1 h2
  have k := k H locs ls hR hl hlo h1 h2
  exact lv_if_ne hC.1 hC.2.1 hd (mj_tg_some ht2) (fun hc => by simp only [if_pos hc] at k; exact k) (fun hc => by simp only [if_neg (fun z : ¬ _ => z hc)] at k; exact k)
theorem mj_i_icmp_ne {off : Int} (hC : mj_Cx d lim n0 s0 q p R s m args meth c) (hd : decode (mj_B q) pc = .ok (.if_icmp .ne off, 3)) (h : mj_in q lim (.if_icmp .ne off) pc L st G = some S) (k : mj_Y E p l e R s m args below meth c n0 s0 q Qk S.1 S.2.1 S.2.2.1 S.2.2.2) : mj_Y E p l e R s m args below meth c n0 s0 q Qk pc L st G := by
  obtain ⟨a, b, r, rfl, h⟩ := mj_p2_some h
  obtain ⟨t, ht, rfl⟩ := mj_map_some h
  obtain ⟨t2, ht2, rfl⟩ := mj_map_some ht
  intro H locs ls hR hl hlo h1 h2
  have k := k H locs ls hR hl hlo h1 h2
  exact lv_icmp_ne hC.1 hC.2.1 hd (mj_tg_some ht2) (fun hc => by simp only [if_pos hc] at k; exact k) (fun hc => by simp only [if_neg (fun z : ¬ _ => z hc)] at k; exact k)
theorem mj_i_if_lt {off : Int} (hC : mj_Cx d lim n0 s0 q p R s m args meth c) (hd : decode (mj_B q) pc = .ok (.ifCond .lt off, 3)) (h : mj_in q lim (.ifCond .lt off) pc L st G = some S) (k : mj_Y E p l e R s m args below meth c n0 s0 q Qk S.1 S.2.1 S.2.2.1 S.2.2.2) : mj_Y E p l e R s m args below meth c n0 s0 q Qk pc L st G := by
  obtain ⟨a, r, rfl, h⟩ := mj_p1_some h
  obtain ⟨t, ht, rfl⟩ := mj_map_some h
  obtain ⟨t2, ht2, rfl⟩ := mj_map_some ht
  intro H locs ls hR hl hlo h1 h2
  have k := k H locs ls hR hl hlo h1 h2
  exact lv_if_lt hC.1 hC.2.1 hd (mj_tg_some ht2) (fun hc => by simp only [if_pos hc] at k; exact k) (fun hc => by simp only [if_neg hc] at k; exact k)
theorem mj_i_icmp_lt {off : Int} (hC : mj_Cx d lim n0 s0 q p R s m args meth c) (hd : decode (mj_B q) pc = .ok (.if_icmp .lt off, 3)) (h : mj_in q lim (.if_icmp .lt off) pc L st G = some S) (k : mj_Y E p l e R s m args below meth c n0 s0 q Qk S.1 S.2.1 S.2.2.1 S.2.2.2) : mj_Y E p l e R s m args below meth c n0 s0 q Qk pc L st G := by
  obtain ⟨a, b, r, rfl, h⟩ := mj_p2_some h
  obtain ⟨t, ht, rfl⟩ := mj_map_some h
  obtain ⟨t2, ht2, rfl⟩ := mj_map_some ht
  intro H locs ls hR hl hlo h1 h2
  have k := k H locs ls hR hl hlo h1 h2
  exact lv_icmp_lt hC.1 hC.2.1 hd (mj_tg_some ht2) (fun hc => by simp only [if_pos hc] at k; exact k) (fun hc => by simp only [if_neg hc] at k; exact k)
theorem mj_i_if_ge {off : Int} (hC : mj_Cx d lim n0 s0 q p R s m args meth c) (hd : decode (mj_B q) pc = .ok (.ifCond .ge off, 3)) (h : mj_in q lim (.ifCond .ge off) pc L st G = some S) (k : mj_Y E p l e R s m args below meth c n0 s0 q Qk S.1 S.2.1 S.2.2.1 S.2.2.2) : mj_Y E p l e R s m args below meth c n0 s0 q Qk pc L st G := by
  obtain ⟨a, r, rfl, h⟩ := mj_p1_some h
  obtain ⟨t, ht, rfl⟩ := mj_map_some h
  obtain ⟨t2, ht2, rfl⟩ := mj_map_some ht
  intro H locs ls hR hl hlo h1 h2
  have k := k H locs ls hR hl hlo h1 h2
  exact lv_if_ge hC.1 hC.2.1 hd (mj_tg_some ht2) (fun hc => by simp only [if_pos hc] at k; exact k) (fun hc => by simp only [if_neg hc] at k; exact k)
theorem mj_i_icmp_ge {off : Int} (hC : mj_Cx d lim n0 s0 q p R s m args meth c) (hd : decode (mj_B q) pc = .ok (.if_icmp .ge off, 3)) (h : mj_in q lim (.if_icmp .ge off) pc L st G = some S) (k : mj_Y E p l e R s m args below meth c n0 s0 q Qk S.1 S.2.1 S.2.2.1 S.2.2.2) : mj_Y E p l e R s m args below meth c n0 s0 q Qk pc L st G := by
  obtain ⟨a, b, r, rfl, h⟩ := mj_p2_some h
  obtain ⟨t, ht, rfl⟩ := mj_map_some h
  obtain ⟨t2, ht2, rfl⟩ := mj_map_some ht
  intro H locs ls hR hl hlo h1 h2
  have k := k H locs ls hR hl hlo h1 h2
  exact lv_icmp_ge hC.1 hC.2.1 hd (mj_tg_some ht2) (fun hc => by simp only [if_pos hc] at k; exact k) (fun hc => by simp only [if_neg hc] at k; exact k)
theorem mj_i_if_gt {off : Int} (hC : mj_Cx d lim n0 s0 q p R s m args meth c) (hd : decode (mj_B q) pc = .ok (.ifCond .gt off, 3)) (h : mj_in q lim (.ifCond .gt off) pc L st G = some S) (k : mj_Y E p l e R s m args below meth c n0 s0 q Qk S.1 S.2.1 S.2.2.1 S.2.2.2) : mj_Y E p l e R s m args below meth c n0 s0 q Qk pc L st G := by
  obtain ⟨a, r, rfl, h⟩ := mj_p1_some h
  obtain ⟨t, ht, rfl⟩ := mj_map_some h
  obtain ⟨t2, ht2, rfl⟩ := mj_map_some ht
  intro H locs ls hR hl hlo h1 h2
  have k := k H locs ls hR hl hlo h1 h2
  exact lv_if_gt hC.1 hC.2.1 hd (mj_tg_some ht2) (fun hc => by simp only [if_pos hc] at k; exact k) (fun hc => by simp only [if_neg hc] at k; exact k)
theorem mj_i_icmp_gt {off : Int} (hC : mj_Cx d lim n0 s0 q p R s m args meth c) (hd : decode (mj_B q) pc = .ok (.if_icmp .gt off, 3)) (h : mj_in q lim (.if_icmp .gt off) pc L st G = some S) (k : mj_Y E p l e R s m args below meth c n0 s0 q Qk S.1 S.2.1 S.2.2.1 S.2.2.2) : mj_Y E p l e R s m args below meth c n0 s0 q Qk pc L st G := by
  obtain ⟨a, b, r, rfl, h⟩ := mj_p2_some h
  obtain ⟨t, ht, rfl⟩ := mj_map_some h
  obtain ⟨t2, ht2, rfl⟩ := mj_map_some ht
  intro H locs ls hR hl hlo h1 h2
  have k := k H locs ls hR hl hlo h1 h2
  exact lv_icmp_gt hC.1 hC.2.1 hd (mj_tg_some ht2) (fun hc => by simp only [if_pos hc] at k; exact k) (fun hc => by simp only [if_neg hc] at k; exact k)
theorem mj_i_if_le {off : Int} (hC : mj_Cx d lim n0 s0 q p R s m args meth c) (hd : decode (mj_B q) pc = .ok (.ifCond .le off, 3)) (h : mj_in q lim (.ifCond .le off) pc L st G = some S) (k : mj_Y E p l e R s m args below meth c n0 s0 q Qk S.1 S.2.1 S.2.2.1 S.2.2.2) : mj_Y E p l e R s m args below meth c n0 s0 q Qk pc L st G := by
  obtain ⟨a, r, rfl, h⟩ := mj_p1_some h
  obtain ⟨t, ht, rfl⟩ := mj_map_some h
  obtain ⟨t2, ht2, rfl⟩ := mj_map_some ht
  intro H locs ls hR hl hlo h1 h2
  have k := k H locs ls hR hl hlo h1 h2
  exact lv_if_le hC.1 hC.2.1 hd (mj_tg_some ht2) (fun hc => by simp only [if_pos hc] at k; exact k) (fun hc => by simp only [if_neg hc] at k; exact k)
theorem mj_i_icmp_le {off : Int} (hC : mj_Cx d lim n0 s0 q p R s m args meth c) (hd : decode (mj_B q) pc = .ok (.if_icmp .le off, 3)) (h : mj_in q lim (.if_icmp .le off) pc L st G = some S) (k : mj_Y E p l e R s m args below meth c n0 s0 q Qk S.1 S.2.1 S.2.2.1 S.2.2.2) : mj_Y E p l e R s m args below meth c n0 s0 q Qk pc L st G := by
  obtain ⟨a, b, r, rfl, h⟩ := mj_p2_some h
  obtain ⟨t, ht, rfl⟩ := mj_map_some h
  obtain ⟨t2, ht2, rfl⟩ := mj_map_some ht
  intro H locs ls hR hl hlo h1 h2
  have k := k H locs ls hR hl hlo h1 h2
  exact lv_icmp_le hC.1 hC.2.1 hd (mj_tg_some ht2) (fun hc => by simp only [if_pos hc] at k; exact k) (fun hc => by simp only [if_neg hc] at k; exact k)
theorem mj_i_ifnull {off : Int} (hC : mj_Cx d lim n0 s0 q p R s m args meth c) (hd : decode (mj_B q) pc = .ok (.ifnull off, 3)) (h : mj_in q lim (.ifnull off) pc L st G = some S) (k : mj_Y E p l e R s m args below meth c n0 s0 q Qk S.1 S.2.1 S.2.2.1 S.2.2.2) : mj_Y E p l e R s m args below meth c n0 s0 q Qk pc L st G := by
  match st, h with
  | .ref a :: r, h =>
    cases h
    intro H locs ls hR hl hlo h1 h2
    exact lv_ifnull hC.1 hC.2.1 hd (k H locs ls hR hl hlo h1 h2)
  | .null :: r, h =>
    obtain ⟨t, ht, rfl⟩ := mj_map_some h
    intro H locs ls hR hl hlo h1 h2
    exact lv_ifnullN hC.1 hC.2.1 hd (mj_tg_some ht) (k H locs ls hR hl hlo h1 h2)
theorem mj_i_ifnonnull {off : Int} (hC : mj_Cx d lim n0 s0 q p R s m args meth c) (hd : decode (mj_B q) pc = .ok (.ifnonnull off, 3)) (h : mj_in q lim (.ifnonnull off) pc L st G = some S) (k : mj_Y E p l e R s m args below meth c n0 s0 q Qk S.1 S.2.1 S.2.2.1 S.2.2.2) : mj_Y E p l e R s m args below meth c n0 s0 q Qk pc L st G := by
  match st, h with
  | .ref a :: r, h =>
    obtain ⟨t, ht, rfl⟩ := mj_map_some h
    intro H locs ls hR hl hlo h1 h2
    exact lv_ifnonnull hC.1 hC.2.1 hd (mj_tg_some ht) (k H locs ls hR hl hlo h1 h2)
  | .null :: r, h =>
    cases h
    intro H locs ls hR hl hlo h1 h2
    exact lv_ifnonnullN hC.1 hC.2.1 hd (k H locs ls hR hl hlo h1 h2)
theorem mj_i_tswitch {df lo hi : Int} {offs : Array Int} {len : Nat} (hC : mj_Cx d lim n0 s0 q p R s m args meth c) (hd : decode (mj_B q) pc = .ok (.tableswitch df lo hi offs, len)) (h : mj_in q lim (.tableswitch df lo hi offs) pc L st G = some S) (k : mj_Y E p l e R s m args below meth c n0 s0 q Qk S.1 S.2.1 S.2.2.1 S.2.2.2) : mj_Y E p l e R s m args below meth c n0 s0 q Qk pc L st G := by
  obtain ⟨a, r, rfl, h⟩ := mj_p1_some h
  obtain ⟨t, ht, rfl⟩ := mj_map_some h
  intro H locs ls hR hl hlo h1 h2
  unfold mj_sw at ht
  split at ht
  · rename_i hc
    exact lv_tableOut hC.1 hC.2.1 hd hc (mj_tg_some ht) (k H locs ls hR hl hlo h1 h2)
  · rename_i hc
    split at ht
    · rename_i off ho
      exact lv_tableIn hC.1 hC.2.1 hd (fun z => hc (Or.inl z)) (fun z => hc (Or.inr z)) ho (mj_tg_some ht) (k H locs ls hR hl hlo h1 h2)
    · cases ht
theorem mj_i_lswitch {df : Int} {ps : Array (Int × Int)} {len : Nat} (hC : mj_Cx d lim n0 s0 q p R s m args meth c) (hd : decode (mj_B q) pc = .ok (.lookupswitch df ps, len)) (h : mj_in q lim (.lookupswitch df ps) pc L st G = some S) (k : mj_Y E p l e R s m args below meth c n0 s0 q Qk S.1 S.2.1 S.2.2.1 S.2.2.2) : mj_Y E p l e R s m args below meth c n0 s0 q Qk pc L st G := by
  obtain ⟨a, r, rfl, hh⟩ := mj_p1_some h
  split at hh
  · rename_i hp
    obtain ⟨t, ht, rfl⟩ := mj_map_some hh
    intro H locs ls hR hl hlo h1 h2
    exact lv_lookup hC.1 hC.2.1 hd hp rfl (mj_tg_some ht) (k H locs ls hR hl hlo h1 h2)
  · cases hh
end MJI
