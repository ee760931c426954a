def R_law : String := "PassCourtLaw"
def lw_P (b : Addr) (xs : List Int32) (args : Array Value) (s : State) : Prop := args = #[.ref b] ∧ s.IntsAt b xs ∧ xs.length ≤ 3072 ∧ (Jvm.Cond.and given_1 narrow_1).before args s = true
def lw_Q (_ : Array Value) (s : State) (o : Outcome) (t : State) : Prop := o = .returned (some (.int 1)) ∧ Framed s o t [] 600000 7302250
def lw_Z (below : List Frame) (a : Array Value) (s : State) : State → Prop := fun t => ∃ o, t.status = .running ∧ Ended t below o ∧ lw_Q a s o t
/-- the law's own end, with 1 on the stack, nothing written that was there before, its room as the claim has it -/
theorem lw_ret {p : Program} {l : Launch} {e : Env} {s : State} {m : MethodId} {below : List Frame} {meth : Method} {c : Code} {b : Nat} (hx : p.tables.exec = Jvm.exec) (hb : c.code = code) (hr : meth.sig.returnType = ret) (hlocks : meth.locks = false) {pc : Nat} {H : Heap} {ls : Array Slot} (hdg : decode code pc = .ok (.ireturn, 1)) : W p l e room_1 s m #[Value.ref b] below meth c H [] 600000 7302250 (lw_Z below #[Value.ref b] s) (F0 m pc ls [.int 1]) := by
  intro T hT X
  obtain ⟨fs, hret, hrun, hended, hW, hframe⟩ := X.leave (v := some (.int 1)) (hlocks := hlocks) (fun h => by rw [hr] at h; cases h)
  have hmeth' : T.vm.method? m = some meth := X.method'
  refine ⟨T.setFrames fs, ?_, .returned (some (.int 1)), hrun, hended, rfl, ⟨_, rfl⟩, hW, hframe⟩
  jvm_step X.here [X.here.top, hx, hb, hdg, hmeth', hr, ret, narrow_b1]
  (try refine ⟨rfl, ?_⟩); (try refine ⟨rfl, ?_⟩)
  first | (intro acts; rw [hret _ acts rfl rfl rfl]) | rw [hret _ _ rfl rfl rfl]
  exact Steps.refl _
/-- what holds at the law's entry: the machine, the code, the tables' words (any of lw_tbl by 'hts w (by decide +kernel)'), the script of L ints xs at the cell b, what the Statement gives of the start (any of its parts by flat_of_before) -/
def lw_At (p : Program) (s : State) (m : MethodId) (meth : Method) (c : Code) (b L : Nat) (xs : Nat → Int32) : Prop :=
  p.tables.exec = Jvm.exec ∧ c.code = code ∧ meth.sig.returnType = ret ∧ c.maxLocals = 4 ∧ s.vm.findClass R_law = some m.cls ∧ (∀ w ∈ lw_tbl, w.before #[Value.ref b] s = true) ∧ va_X b L xs s s.heap ∧ b < s.heap.size ∧ meth.locks = false ∧ (Jvm.Cond.and given_1 narrow_1).before #[Value.ref b] s = true
def mj_dd : mj_X := .inl (.byte, 0, .inl (fun _ => 0))
def mj_G0 (L : Nat) (xs : Nat → Int32) : mj_H := (0, 0, fun i => if i = 0 then .inl (.int, L, .inl xs) else mj_dd)
theorem mj_arrs {s : State} {args : Array Value} {ty : FieldType} (h : (Cond.arrayClass ty).before args s = true) : ∃ cA, ArrOfT s cA ty ∧ s.vm.findClass ("[" ++ ty.toString) = some cA := by
  obtain ⟨cA, kA, comp, h1, h2, h3⟩ := Cond.arrayClass_spec h
  exact ⟨cA, fun n z => ⟨fun k h => (by cases h), kA, h2, comp, h3⟩, h1⟩
set_option maxHeartbeats 4000000 in
theorem mj_start {p : Program} {e : Env} {s : State} {m : MethodId} {below : List Frame} {meth : Method} {c : Code} (l : Launch) {b L : Nat} {xs : Nat → Int32} (C0 : lw_At p s m meth c b L xs) (hV : mj_V 9 (600000, 7302250) mq_Law_law 0 (mj_en [.ref 0] 4) [] (mj_G0 L xs) (fun r _ => r = some (.int 1))) : W p l e room_1 s m #[Value.ref b] below meth c s.heap [] 0 0 (lw_Z below #[Value.ref b] s) (entryFrame m ([Value.ref b] : List Value).toArray 4) := by
  obtain ⟨hx, hb, hr, hml, hown, hts, hX, hbl, hlocks, hgv⟩ := id C0
  have htb : ∀ w ∈ mj_tb, w.before #[Value.ref b] s = true := fun w hw => hts w (List.mem_filter.mp hw).1
  have hkn : ∀ ci : Nat, ∃ (cC : ClassId) (iS : Nat → Nat), ∀ r, mj_cs[ci]? = some r → u_Kn s r.1 r.2.1 r.2.2 cC iS := by
    intro ci
    cases hr : mj_cs[ci]? with
    | none => exact ⟨0, fun _ => 0, fun r h => by cases h⟩
    | some r =>
      have hin := mj_lay_in hr
      have hi : ∃ n, Cond.instantiable r.1 n ∈ lw_tbl := by
        match ci, hr with
        | 0, h => cases h; exact ⟨_, mj_is_0⟩
        | 1, h => cases h; exact ⟨_, mj_is_1⟩
        | 2, h => cases h; exact ⟨_, mj_is_2⟩
        | 3, h => cases h; exact ⟨_, mj_is_3⟩
        | 4, h => cases h; exact ⟨_, mj_is_4⟩
        | 5, h => cases h; exact ⟨_, mj_is_5⟩
        | 6, h => cases h; exact ⟨_, mj_is_6⟩
        | 7, h => cases h; exact ⟨_, mj_is_7⟩
        | 8, h => cases h; exact ⟨_, mj_is_8⟩
        | 9, h => cases h; exact ⟨_, mj_is_9⟩
        | 10, h => cases h; exact ⟨_, mj_is_10⟩
        | k + 11, h => exact absurd h (by simp [mj_cs])
      obtain ⟨n, hi⟩ := hi
      obtain ⟨cC, iS, hK⟩ := u_known htb hin (hts _ hi)
      exact ⟨cC, iS, fun r' h => by cases h; exact hK⟩
  obtain ⟨dC, dI, hKn⟩ : ∃ (dC : Nat → ClassId) (dI : Nat → Nat → Nat), ∀ ci r, mj_cs[ci]? = some r → u_Kn s r.1 r.2.1 r.2.2 (dC ci) (dI ci) :=
    ⟨fun ci => (hkn ci).choose, fun ci => (hkn ci).choose_spec.choose, fun ci => (hkn ci).choose_spec.choose_spec⟩
  obtain ⟨cI, hI1, hI2⟩ := mj_arrs (hts _ mj_ac_int)
  obtain ⟨cZ, hZ1, hZ2⟩ := mj_arrs (hts _ mj_ac_boolean)
  obtain ⟨cJ, hJ1, hJ2⟩ := mj_arrs (hts _ mj_ac_long)
  have hao := hts _ mj_ao
  obtain ⟨comp, cR, kR, r1, r2, r3, r4, r5⟩ := Cond.arrayOver_spec hao
  obtain ⟨E, hE⟩ : ∃ E : mj_E, E = (s.heap.size, b, L, xs, (dC, dI), fun ty => match ty with | .int => cI | .boolean => cZ | .long => cJ | _ => cR) := ⟨_, rfl⟩
  have hWd : mj_Wd E s := by
    subst hE
    refine ⟨hKn, fun ty ht => ?_, va_AO.of hao⟩
    simp only [mj_tys, List.mem_cons, List.not_mem_nil, or_false] at ht
    rcases ht with rfl | rfl | rfl | rfl
    · exact ⟨hI1, hI2⟩
    · exact ⟨hZ1, hZ2⟩
    · exact ⟨hJ1, hJ2⟩
    · exact ⟨fun N z => ⟨(fun k h => by cases h), kR, r3, comp, r4⟩, kR, comp, r3, r4, r1, r5⟩
  have hRp : mj_Rp E s (mj_G0 L xs) s.heap := by
    subst hE
    refine ⟨hWd, rfl, fun i => Or.inl rfl, rfl, hX, hbl⟩
  have hC : mj_Cx 9 (600000, 7302250) 0 0 mq_Law_law p room_1 s m #[Value.ref b] meth c :=
    ⟨hx, hb, hml, hown, htb, rfl, by decide, fun h => absurd h (by decide), by decide, by decide, by decide, by decide⟩
  have hm : ([Value.ref 0].map (mj_tr E)) = [Value.ref b] := by subst hE; rfl
  rw [lg_entry_eq]
  have hlh := mj_lh.entry E [.ref 0] (n := 4) (by decide)
  rw [hm] at hlh
  refine mj_sound 9 (600000, 7302250) mq_Law_law 0 _ [] (mj_G0 L xs) _ hV E p l e room_1 s m _ below meth c 0 0 _ hC ?_ s.heap [] _ hRp hlh (fun _ h => by cases h) ⟨Nat.le_refl _, Nat.zero_le _⟩ ⟨Nat.le_refl _, Nat.zero_le _⟩
  intro r G' H locs pc ls st hrs hQ hR' hlo h1 h2
  refine W.widen (k := 600000) (n := 7302250) (by have := h1.2; have e : room_1.cells = 600000 := rfl; omega) (by have := h2.2; have e : room_1.slots = 7302250 := rfl; omega) ?_
  refine va_forget (fun x hx => by have := hlo x hx; subst hE; exact this) ?_
  rcases hrs with ⟨v, hd, rfl, hn, rfl⟩ | ⟨v, hd, rfl, hn, rfl⟩ | ⟨v, hd, rfl, hv, ⟨nm, hn⟩, rfl⟩ | ⟨hd, rfl, hn, rfl⟩
  · cases hQ
    exact lw_ret hx hb hr hlocks hd
  · exact absurd hn (by decide)
  · exact absurd hn (by intro z; cases z)
  · exact absurd hn (by decide)
