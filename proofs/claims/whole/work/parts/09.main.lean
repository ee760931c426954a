/-! the small machine's V gives the machine's W: steps, calls, returns -/
section MJT
variable {E : mj_E} {p : Program} {l : Launch} {e : Env} {R : Room} {s : State} {m : MethodId} {args : Array Value} {below : List Frame} {meth : Method} {c : Code} {d n0 s0 : Nat} {Qk : State → Prop} {q : mj_M} {lim : Nat × Nat} {pc : Nat} {L st : List Value} {G : mj_H} {S : mj_S}
set_option maxHeartbeats 4000000 in
theorem mj_step (hC : mj_Cx d lim n0 s0 q p R s m args meth c) (h : mj_st q lim pc L st G = some S) (k : mj_Y E p l e R s m args below meth c n0 s0 q Qk S.1 S.2.1 S.2.2.1 S.2.2.2) : mj_Y E p l e R s m args below meth c n0 s0 q Qk pc L st G := by
  unfold mj_st at h
  split at h
  · rename_i i len hd
    split at h
    · rename_i hlen
      cases i with
      | iconst n => rw [hlen] at hd; exact mj_i_iconst hC hd h k
      | bipush n => rw [hlen] at hd; exact mj_i_bipush hC hd h k
      | sipush n => rw [hlen] at hd; exact mj_i_sipush hC hd h k
      | lconst n => rw [hlen] at hd; exact mj_i_lconst hC hd h k
      | ldc n => rw [hlen] at hd; exact mj_i_ldc hC hd h k
      | ldc2_w n => rw [hlen] at hd; exact mj_i_ldc2 hC hd h k
      | aconst_null => rw [hlen] at hd; exact mj_i_null hC hd h k
      | iload_n n => rw [hlen] at hd; exact mj_i_iload_n hC hd h k
      | iload n => rw [hlen] at hd; exact mj_i_iload hC hd h k
      | lload_n n => rw [hlen] at hd; exact mj_i_lload_n hC hd h k
      | lload n => rw [hlen] at hd; exact mj_i_lload hC hd h k
      | aload_n n => rw [hlen] at hd; exact mj_i_aload_n hC hd h k
      | aload n => rw [hlen] at hd; exact mj_i_aload hC hd h k
      | istore_n n => rw [hlen] at hd; exact mj_i_istore_n hC hd h k
      | istore n => rw [hlen] at hd; exact mj_i_istore hC hd h k
      | lstore_n n => rw [hlen] at hd; exact mj_i_lstore_n hC hd h k
      | lstore n => rw [hlen] at hd; exact mj_i_lstore hC hd h k
      | astore_n n => rw [hlen] at hd; exact mj_i_astore_n hC hd h k
      | astore n => rw [hlen] at hd; exact mj_i_astore hC hd h k
      | iinc n z => rw [hlen] at hd; exact mj_i_iinc hC hd h k
      | iadd => rw [hlen] at hd; exact mj_i_iadd hC hd h k
      | isub => rw [hlen] at hd; exact mj_i_isub hC hd h k
      | imul => rw [hlen] at hd; exact mj_i_imul hC hd h k
      | iand => rw [hlen] at hd; exact mj_i_iand hC hd h k
      | ior => rw [hlen] at hd; exact mj_i_ior hC hd h k
      | ixor => rw [hlen] at hd; exact mj_i_ixor hC hd h k
      | ishl => rw [hlen] at hd; exact mj_i_ishl hC hd h k
      | ishr => rw [hlen] at hd; exact mj_i_ishr hC hd h k
      | ladd => rw [hlen] at hd; exact mj_i_ladd hC hd h k
      | lsub => rw [hlen] at hd; exact mj_i_lsub hC hd h k
      | lmul => rw [hlen] at hd; exact mj_i_lmul hC hd h k
      | land => rw [hlen] at hd; exact mj_i_land hC hd h k
      | lor => rw [hlen] at hd; exact mj_i_lor hC hd h k
      | ldiv => rw [hlen] at hd; exact mj_i_ldiv hC hd h k
      | lrem => rw [hlen] at hd; exact mj_i_lrem hC hd h k
      | lshl => rw [hlen] at hd; exact mj_i_lshl hC hd h k
      | lcmp => rw [hlen] at hd; exact mj_i_lcmp hC hd h k
      | i2l => rw [hlen] at hd; exact mj_i_i2l hC hd h k
      | l2i => rw [hlen] at hd; exact mj_i_l2i hC hd h k
      | dup => rw [hlen] at hd; exact mj_i_dup hC hd h k
      | pop => rw [hlen] at hd; exact mj_i_pop hC hd h k
      | dup_x1 => rw [hlen] at hd; exact mj_i_dup_x1 hC hd h k
      | dup2 => rw [hlen] at hd; exact mj_i_dup2 hC hd h k
      | goto off => rw [hlen] at hd; exact mj_i_goto hC hd h k
      | ifCond cd off =>
        rw [hlen] at hd
        cases cd with
        | eq => exact mj_i_if_eq hC hd h k
        | ne => exact mj_i_if_ne hC hd h k
        | lt => exact mj_i_if_lt hC hd h k
        | ge => exact mj_i_if_ge hC hd h k
        | gt => exact mj_i_if_gt hC hd h k
        | le => exact mj_i_if_le hC hd h k
      | if_icmp cd off =>
        rw [hlen] at hd
        cases cd with
        | eq => exact mj_i_icmp_eq hC hd h k
        | ne => exact mj_i_icmp_ne hC hd h k
        | lt => exact mj_i_icmp_lt hC hd h k
        | ge => exact mj_i_icmp_ge hC hd h k
        | gt => exact mj_i_icmp_gt hC hd h k
        | le => exact mj_i_icmp_le hC hd h k
      | ifnull off => rw [hlen] at hd; exact mj_i_ifnull hC hd h k
      | ifnonnull off => rw [hlen] at hd; exact mj_i_ifnonnull hC hd h k
      | tableswitch a1 a2 a3 a4 => exact mj_i_tswitch hC hd h k
      | lookupswitch a1 a2 => exact mj_i_lswitch hC hd h k
      | getfield x => rw [hlen] at hd; exact mj_i_getfield hC hd h k
      | putfield x => rw [hlen] at hd; exact mj_i_putfield hC hd h k
      | iaload => rw [hlen] at hd; exact mj_i_iaload hC hd h k
      | baload => rw [hlen] at hd; exact mj_i_baload hC hd h k
      | laload => rw [hlen] at hd; exact mj_i_laload hC hd h k
      | aaload => rw [hlen] at hd; exact mj_i_aaload hC hd h k
      | iastore => rw [hlen] at hd; exact mj_i_iastore hC hd h k
      | bastore => rw [hlen] at hd; exact mj_i_bastore hC hd h k
      | lastore => rw [hlen] at hd; exact mj_i_lastore hC hd h k
      | aastore => rw [hlen] at hd; exact mj_i_aastore hC hd h k
      | arraylength => rw [hlen] at hd; exact mj_i_alen hC hd h k
      | new x => rw [hlen] at hd; exact mj_i_new hC hd h k
      | newarray t =>
        rw [hlen] at hd
        cases t with
        | int => exact mj_i_newa (ty := .int) (cont := .inl (fun _ => 0)) hC hd rfl mj_ac_int (by simp [mj_tys]) (fun cA h1 h2 => Option.some.inj (h1.symm.trans h2)) (by decide) (fun _ _ => rfl) h k
        | boolean => exact mj_i_newa (ty := .boolean) (cont := .inl (fun _ => 0)) hC hd rfl mj_ac_boolean (by simp [mj_tys]) (fun cA h1 h2 => Option.some.inj (h1.symm.trans h2)) (by decide) (fun _ _ => rfl) h k
        | long => exact mj_i_newa (ty := .long) (cont := .inr (.inl (fun _ => 0))) hC hd rfl mj_ac_long (by simp [mj_tys]) (fun cA h1 h2 => Option.some.inj (h1.symm.trans h2)) (by decide) (fun _ _ => rfl) h k
        | _ => exact absurd h (by intro z; cases z)
      | anewarray x => rw [hlen] at hd; exact mj_i_anew hC hd h k
      | invokespecial x => rw [hlen] at hd; exact mj_i_oinit hC hd h k
      | _ => exact absurd h (by intro z; cases z)
    · cases h
  · cases h
end MJT
/-- a return -/
def mj_rs (q : mj_M) (pc : Nat) (st : List Value) (r : Option Value) : Prop :=
  (∃ v : Int32, decode (mj_B q) pc = .ok (.ireturn, 1) ∧ st = [.int v] ∧ mj_nr (mj_R q) (.int v) ∧ r = some (.int v)) ∨
  (∃ v : Int64, decode (mj_B q) pc = .ok (.lreturn, 1) ∧ st = [.long v] ∧ mj_R q = some .long ∧ r = some (.long v)) ∨
  (∃ v : Value, decode (mj_B q) pc = .ok (.areturn, 1) ∧ st = [v] ∧ (v = .null ∨ ∃ a, v = .ref a) ∧ (∃ n, mj_R q = some (.object n)) ∧ r = some v) ∨
  (decode (mj_B q) pc = .ok (.return_, 1) ∧ st = [] ∧ mj_R q = none ∧ r = none)
def mj_Rt (E : mj_E) (p : Program) (l : Launch) (e : Env) (R : Room) (s : State) (m : MethodId) (args : Array Value) (below : List Frame) (meth : Method) (c : Code) (n0 s0 : Nat) (q : mj_M) (Q : mj_Q) (Qk : State → Prop) : Prop :=
  ∀ (r : Option Value) (G : mj_H) (H : Heap) (locs : List Loc) (pc : Nat) (ls : Array Slot) (st : List Value), mj_rs q pc st r → Q r G → mj_Rp E s G H → (∀ x ∈ locs, mj_e0 E ≤ x.base) → (n0 ≤ G.1 ∧ G.1 ≤ R.cells + n0) → (s0 ≤ G.2.1 ∧ G.2.1 ≤ R.slots + s0) → W p l e R s m args below meth c H locs (G.1 - n0) (G.2.1 - s0) Qk (F0 m pc ls (st.map (mj_tr E)))
def mj_ws (q : mj_M) : List Cond := Cond.code (mj_N q) (mj_B q) (mj_L q) (mj_R q) :: mj_tb
def mj_rm (d mc ms : Nat) : Room := { frames := d + 1, cells := mc, slots := ms, locals := 34 * (d + 1) }
def mj_Po (E : mj_E) (P : mj_Q) : Array Value → State → Outcome → State → Prop := fun _ _ oc t => ∃ r G', oc = .returned (r.map (mj_tr E)) ∧ P r G' ∧ mj_Rp E t G' t.heap
def mj_Snd (d : Nat) : Prop := ∀ (lim : Nat × Nat) (q : mj_M) (pc : Nat) (L st : List Value) (G : mj_H) (Q : mj_Q), mj_V d lim q pc L st G Q → ∀ (E : mj_E) (p : Program) (l : Launch) (e : Env) (R : Room) (s : State) (m : MethodId) (args : Array Value) (below : List Frame) (meth : Method) (c : Code) (n0 s0 : Nat) (Qk : State → Prop), mj_Cx d lim n0 s0 q p R s m args meth c → mj_Rt E p l e R s m args below meth c n0 s0 q Q Qk → mj_Y E p l e R s m args below meth c n0 s0 q Qk pc L st G
theorem mj_good_in (q : mj_M) (h : mj_okM q) : GoodIn mj_tb (mj_ws q) := by
  intro w hw
  rcases List.mem_cons.mp hw with rfl | hw
  · exact ⟨mj_tb_in h.1 rfl, good_of_word rfl⟩
  · exact ⟨hw, good_of_word (List.mem_filter.mp hw).2⟩
theorem mj_met {d : Nat} (hS : mj_Snd d) {l : Launch} {E : mj_E} {q : mj_M} {a : List Value} {G : mj_H} {P : mj_Q} {mc ms : Nat} (hq : mj_okM q) (h13 : mj_C q < 13) (hlen : (mj_ar a).length ≤ mj_L q) (hP : ∀ r G', P r G' → G'.1 ≤ G.1 + mc ∧ G'.2.1 ≤ G.2.1 + ms) (h : mj_V d (G.1 + mc, G.2.1 + ms) q 0 (mj_en a (mj_L q)) [] G P) :
    Met l (mj_N q) (mj_ws q) (mj_rm d mc ms) (va_Pc (a.map (mj_tr E)) (fun U => mj_Rp E U G U.heap)) (mj_Po E P) mc ms (fun x => mj_e0 E ≤ x) := by
  refine Met.ofW (cc := mj_B q) (maxL := mj_L q) (ret := mj_R q) hq.2.2.1 rfl ?_
  intro p e s m args below meth c s₁ B hml hv
  obtain ⟨rfl, hR⟩ := hv
  have hts0 := atoms_spec (ws := mj_ws q) B.pre
  have hts : ∀ w ∈ mj_tb, w.before (a.map (mj_tr E)).toArray s = true := fun w hw => hts0 w (List.mem_cons_of_mem _ hw)
  have hown : s.vm.findClass (mj_N q).cls = some m.cls := findClass_of_methodNamed B.named
  have hlocks := B.notSynchronized
  have hr := B.returns
  rw [lg_entry_eq]
  have hC : mj_Cx d (G.1 + mc, G.2.1 + ms) G.1 G.2.1 q p (headSpec (mj_ws q) (mj_rm d mc ms)).room s m (a.map (mj_tr E)).toArray meth c :=
    ⟨B.exec, B.bytes, hml, by rw [hq.2.2.2.2.2.1]; exact hown, hts, hq.2.2.2.2.2.1, h13, fun hn => (name_of_methodNamed B.named B.method).1.trans hn, Nat.le_refl _, Nat.le_refl _, by show G.1 + mc ≤ mc + G.1; omega, by show G.2.1 + ms ≤ ms + G.2.1; omega⟩
  refine W.cs (Nat.sub_self G.1).symm (Nat.sub_self G.2.1).symm ?_
  refine hS _ q 0 _ [] G P h E p l e _ s m _ below meth c G.1 G.2.1 _ hC ?_ s.heap [] _ hR (mj_lh.entry E a hlen) (fun _ h => by cases h) ⟨Nat.le_refl _, Nat.le_add_left _ _⟩ ⟨Nat.le_refl _, Nat.le_add_left _ _⟩
  intro r G' H locs pc ls st hrs hPr hR' hlo h1 h2
  obtain ⟨b1, b2⟩ := hP r G' hPr
  refine W.widen (k := mc) (n := ms) (by omega) (by omega) ?_
  have hend : ∀ t : State, t.heap = H → s.WarmedH t.vm → mj_Po E P (a.map (mj_tr E)).toArray s (.returned (r.map (mj_tr E))) t := by
    intro t ht hW
    exact ⟨r, G', rfl, hPr, by rw [ht]; exact hR'.moved hW.alike⟩
  rcases hrs with ⟨v, hd, rfl, hn, rfl⟩ | ⟨v, hd, rfl, hn, rfl⟩ | ⟨v, hd, rfl, hv, ⟨nm, hn⟩, rfl⟩ | ⟨hd, rfl, hn, rfl⟩
  · cases hty : mj_R q with
    | none => rw [hty] at hn; exact hn.elim
    | some ty =>
      rw [hty] at hn
      exact W.zret B.exec B.bytes (hr.trans hty) hn hend hlo hd hlocks
  · exact W.lret B.exec B.bytes (hr.trans hn) hend hlo hd hlocks
  · refine W.aret B.exec B.bytes (hr.trans hn) (Or.inl ⟨nm, rfl⟩) ?_ hend hlo hd hlocks
    rcases hv with rfl | ⟨b, rfl⟩
    · exact Or.inl rfl
    · exact Or.inr ⟨_, rfl⟩
  · exact W.vret B.exec B.bytes (hr.trans hn) hend hlo hd hlocks
section MJC
variable {p : Program} {l : Launch} {e : Env} {R : Room} {s : State} {m : MethodId} {args : Array Value} {below : List Frame} {meth : Method} {c : Code} {H : Heap} {locs : List Loc} {cells slots mc ms : Nat} {Q : State → Prop} {pc : Nat} {ls : Array Slot} {st0 rest : List Value} {free : Addr → Prop} {Qa : State → Outcome → State → Prop}
theorem mj_callW (hr : va_Run p l e R s m args below meth c H locs cells slots mc ms (F0 m pc ls st0) rest Qa free)
    (kk : ∀ (v : Option Value) (t : State) (L : List Loc), (∀ x ∈ L, free x.base) → s.vm.Alike t.vm → (∃ st₀, Qa st₀ (.returned v) t) → W p l e R s m args below meth c t.heap (locs ++ L) (cells + mc) (slots + ms) Q (F0 m (pc + 3) ls (v.toList ++ rest))) : W p l e R s m args below meth c H locs cells slots Q (F0 m pc ls st0) := by
  intro T hT X
  obtain ⟨v, st₀, t, T', L, h0, X', hL, e1, e2, hq, st⟩ := hr T hT X
  obtain ⟨t2, a1, b1⟩ := kk v t L hL (by rw [← e2]; exact X'.warmed.alike) ⟨st₀, hq⟩ T' e1 X'
  exact ⟨t2, st t2 a1, b1⟩
end MJC
theorem mj_blind {E : mj_E} {G : mj_H} {a : List Value} : FrameBlind (va_Pc (a.map (mj_tr E)) (fun U => mj_Rp E U G U.heap)) := fun b U g mk z => ⟨z.1, mj_Rp.moved (u := U) (U := U.calling g mk b) (Vm.Alike.refl U.vm) z.2⟩
theorem mj_toList (E : mj_E) (v : Option Value) (r : List Value) : (v.map (mj_tr E)).toList ++ r.map (mj_tr E) = (v.toList ++ r).map (mj_tr E) := by cases v <;> rfl
