/-! a small machine over numbered cells: its step, and V, the least way of going on by it -/
abbrev mj_X : Type := (FieldType × vp_A) ⊕ (Nat × List Value)
abbrev mj_H : Type := Nat × Nat × (Nat → mj_X)
def mj_j : Value := .retAddr 0
def mj_cl (L : List Value) : Nat → List Value
  | 0 => L
  | j + 1 => match L[j]? with
    | some v => if v.category = 2 then L.set j mj_j else L
    | none => L
def mj_s1 (n : Nat) (L : List Value) (i : Nat) (v : Value) : Option (List Value) := if i < n then some ((mj_cl L i).set i v) else none
def mj_s2 (n : Nat) (L : List Value) (i : Nat) (v : Value) : Option (List Value) := if i + 1 < n then some (((mj_cl L i).set i v).set (i + 1) mj_j) else none
def mj_ar : List Value → List Value
  | [] => []
  | v :: t => if v.category = 2 then v :: mj_j :: mj_ar t else v :: mj_ar t
def mj_en (a : List Value) (n : Nat) : List Value := mj_ar a ++ List.replicate (n - (mj_ar a).length) mj_j
def mj_gf (G : mj_H) (o ci k : Nat) : Option Value := match G.2.2 o with
  | .inr (c, fs) => if c = ci then fs[k]? else none
  | .inl _ => none
def mj_up (G : mj_H) (o : Nat) (x : mj_X) : mj_H := (G.1, G.2.1, va_up G.2.2 o x)
def mj_ok (t : FieldType) (v : Value) : Bool := decide (narrow t v = v) && fits t v
def mj_pf (G : mj_H) (o ci k : Nat) (v : Value) : Option mj_H := match G.2.2 o with
  | .inr (c, fs) => if c = ci ∧ k < fs.length ∧ mj_ok (mj_ty ci k) v = true then some (mj_up G o (.inr (c, fs.set k v))) else none
  | .inl _ => none
def mj_ai (G : mj_H) (a : Nat) (i : Int32) : Option Int32 := match G.2.2 a with
  | .inl (.int, n, .inl f) => if i < 0 ∨ n ≤ i.toNatClampNeg then none else some (f i.toNatClampNeg)
  | _ => none
def mj_az (G : mj_H) (a : Nat) (i : Int32) : Option Int32 := match G.2.2 a with
  | .inl (.boolean, n, .inl f) => if i < 0 ∨ n ≤ i.toNatClampNeg then none else some (f i.toNatClampNeg)
  | _ => none
def mj_al (G : mj_H) (a : Nat) (i : Int32) : Option Int64 := match G.2.2 a with
  | .inl (.long, n, .inr (.inl f)) => if i < 0 ∨ n ≤ i.toNatClampNeg then none else some (f i.toNatClampNeg)
  | _ => none
def mj_aa (G : mj_H) (a : Nat) (i : Int32) : Option (Option Nat) := match G.2.2 a with
  | .inl (.object "PassCourt$Routine", n, .inr (.inr (.inr (.inr f)))) => if i < 0 ∨ n ≤ i.toNatClampNeg then none else some (f i.toNatClampNeg)
  | _ => none
def mj_wi (G : mj_H) (a : Nat) (i : Int32) (x : Int32) : Option mj_H := match G.2.2 a with
  | .inl (.int, n, .inl f) => if a = 0 ∨ i < 0 ∨ n ≤ i.toNatClampNeg then none else some (mj_up G a (.inl (.int, n, .inl (upd f i.toNatClampNeg x))))
  | _ => none
def mj_wz (G : mj_H) (a : Nat) (i : Int32) (x : Int32) : Option mj_H := match G.2.2 a with
  | .inl (.boolean, n, .inl f) => if a = 0 ∨ i < 0 ∨ n ≤ i.toNatClampNeg then none else some (mj_up G a (.inl (.boolean, n, .inl (upd f i.toNatClampNeg (vp_nar .boolean x)))))
  | _ => none
def mj_wl (G : mj_H) (a : Nat) (i : Int32) (x : Int64) : Option mj_H := match G.2.2 a with
  | .inl (.long, n, .inr (.inl f)) => if a = 0 ∨ i < 0 ∨ n ≤ i.toNatClampNeg then none else some (mj_up G a (.inl (.long, n, .inr (.inl (vp_updL f i.toNatClampNeg x)))))
  | _ => none
def mj_io (G : mj_H) (o ci : Nat) : Bool := match G.2.2 o with
  | .inr (c, _) => decide (c = ci)
  | .inl _ => false
def mj_wa (G : mj_H) (a : Nat) (i : Int32) (x : Nat) : Option mj_H := match G.2.2 a with
  | .inl (.object "PassCourt$Routine", n, .inr (.inr (.inr (.inr f)))) => if a = 0 ∨ i < 0 ∨ n ≤ i.toNatClampNeg ∨ mj_io G x 6 = false then none else some (mj_up G a (.inl (.object "PassCourt$Routine", n, .inr (.inr (.inr (.inr (va_up f i.toNatClampNeg (some x))))))))
  | _ => none
def mj_ad (G : mj_H) (lim : Nat × Nat) (k : Nat) (x : mj_X) : Option mj_H := if G.1 + 1 ≤ lim.1 ∧ G.2.1 + k ≤ lim.2 then some (G.1 + 1, G.2.1 + k, va_up G.2.2 (G.1 + 1) x) else none
def mj_fs (ci : Nat) : List Value := match mj_cs[ci]? with
  | some r => (List.range r.2.2).map (fun k => defaultValue (mj_ty ci k))
  | none => []
/-- a jump's target -/
def mj_tg (pc : Nat) (off : Int) : Option Nat := if 0 ≤ (pc : Int) + off then some ((pc : Int) + off).toNat else none
def mj_br (pc : Nat) (off : Int) (c : Prop) [Decidable c] : Option Nat := (mj_tg pc off).map fun t => if c then t else pc + 3
abbrev mj_S : Type := Nat × List Value × List Value × mj_H
def mj_p1 (st : List Value) (k : Int32 → List Value → Option mj_S) : Option mj_S := match st with
  | .int a :: r => k a r
  | _ => none
def mj_p2 (st : List Value) (k : Int32 → Int32 → List Value → Option mj_S) : Option mj_S := match st with
  | .int b :: .int a :: r => k a b r
  | _ => none
def mj_q1 (st : List Value) (k : Int64 → List Value → Option mj_S) : Option mj_S := match st with
  | .long a :: r => k a r
  | _ => none
def mj_q2 (st : List Value) (k : Int64 → Int64 → List Value → Option mj_S) : Option mj_S := match st with
  | .long b :: .long a :: r => k a b r
  | _ => none
def mj_li (L : List Value) (i : Nat) : Option Int32 := match L[i]? with
  | some (.int a) => some a
  | _ => none
def mj_ll (L : List Value) (i : Nat) : Option Int64 := match L[i]? with
  | some (.long a) => some a
  | _ => none
def mj_la (L : List Value) (i : Nat) : Option Value := match L[i]? with
  | some (.ref a) => some (.ref a)
  | some .null => some .null
  | _ => none
/-- an int compare, its jump taken -/
def mj_sw (pc : Nat) (d lo hi : Int) (offs : Array Int) (x : Int32) : Option Nat := if x.toInt < lo ∨ hi < x.toInt then mj_tg pc d else match offs[(x.toInt - lo).toNat]? with
  | some off => mj_tg pc off
  | none => none
def mj_in (q : mj_M) (lim : Nat × Nat) (i : Instr) (pc : Nat) (L st : List Value) (G : mj_H) : Option mj_S := match i with
  | .iconst n => some (pc + 1, L, .int (Int32.ofInt n) :: st, G)
  | .bipush n => some (pc + 2, L, .int (Int8.ofInt n).toInt32 :: st, G)
  | .sipush n => some (pc + 3, L, .int (Int16.ofInt n).toInt32 :: st, G)
  | .lconst n => some (pc + 1, L, .long (Int64.ofNat (n : Nat)) :: st, G)
  | .ldc x => (mj_kI (mj_C q) x).map fun v => (pc + 2, L, .int v :: st, G)
  | .ldc2_w x => (mj_kJ (mj_C q) x).map fun v => (pc + 3, L, .long v :: st, G)
  | .aconst_null => some (pc + 1, L, .null :: st, G)
  | .iload_n k => (mj_li L (k : Nat)).map fun a => (pc + 1, L, .int a :: st, G)
  | .iload k => (mj_li L k).map fun a => (pc + 2, L, .int a :: st, G)
  | .lload_n k => (mj_ll L (k : Nat)).map fun a => (pc + 1, L, .long a :: st, G)
  | .lload k => (mj_ll L k).map fun a => (pc + 2, L, .long a :: st, G)
  | .aload_n k => (mj_la L (k : Nat)).map fun a => (pc + 1, L, a :: st, G)
  | .aload k => (mj_la L k).map fun a => (pc + 2, L, a :: st, G)
  | .istore_n k => mj_p1 st fun a r => (mj_s1 (mj_L q) L (k : Nat) (.int a)).map fun L' => (pc + 1, L', r, G)
  | .istore k => mj_p1 st fun a r => (mj_s1 (mj_L q) L k (.int a)).map fun L' => (pc + 2, L', r, G)
  | .lstore_n k => mj_q1 st fun a r => (mj_s2 (mj_L q) L (k : Nat) (.long a)).map fun L' => (pc + 1, L', r, G)
  | .lstore k => mj_q1 st fun a r => (mj_s2 (mj_L q) L k (.long a)).map fun L' => (pc + 2, L', r, G)
  | .astore_n k => match st with
    | .ref a :: r => (mj_s1 (mj_L q) L (k : Nat) (.ref a)).map fun L' => (pc + 1, L', r, G)
    | .null :: r => (mj_s1 (mj_L q) L (k : Nat) .null).map fun L' => (pc + 1, L', r, G)
    | _ => none
  | .astore k => match st with
    | .ref a :: r => (mj_s1 (mj_L q) L k (.ref a)).map fun L' => (pc + 2, L', r, G)
    | .null :: r => (mj_s1 (mj_L q) L k .null).map fun L' => (pc + 2, L', r, G)
    | _ => none
  | .iinc k n => (mj_li L k).bind fun a => (mj_s1 (mj_L q) L k (.int (a + Int32.ofInt n))).map fun L' => (pc + 3, L', st, G)
  | .iadd => mj_p2 st fun a b r => some (pc + 1, L, .int (a + b) :: r, G)
  | .isub => mj_p2 st fun a b r => some (pc + 1, L, .int (a - b) :: r, G)
  | .imul => mj_p2 st fun a b r => some (pc + 1, L, .int (a * b) :: r, G)
  | .iand => mj_p2 st fun a b r => some (pc + 1, L, .int (a &&& b) :: r, G)
  | .ior => mj_p2 st fun a b r => some (pc + 1, L, .int (a ||| b) :: r, G)
  | .ixor => mj_p2 st fun a b r => some (pc + 1, L, .int (a ^^^ b) :: r, G)
  | .ishl => mj_p2 st fun a b r => some (pc + 1, L, .int (a <<< (b &&& 31)) :: r, G)
  | .ishr => mj_p2 st fun a b r => some (pc + 1, L, .int (a >>> (b &&& 31)) :: r, G)
  | .ladd => mj_q2 st fun a b r => some (pc + 1, L, .long (a + b) :: r, G)
  | .lsub => mj_q2 st fun a b r => some (pc + 1, L, .long (a - b) :: r, G)
  | .lmul => mj_q2 st fun a b r => some (pc + 1, L, .long (a * b) :: r, G)
  | .land => mj_q2 st fun a b r => some (pc + 1, L, .long (a &&& b) :: r, G)
  | .lor => mj_q2 st fun a b r => some (pc + 1, L, .long (a ||| b) :: r, G)
  | .ldiv => mj_q2 st fun a b r => if b = 0 then none else some (pc + 1, L, .long (a / b) :: r, G)
  | .lrem => mj_q2 st fun a b r => if b = 0 then none else some (pc + 1, L, .long (a - a / b * b) :: r, G)
  | .lshl => match st with
    | .int b :: .long a :: r => some (pc + 1, L, .long (a <<< (b.toInt64 &&& 63)) :: r, G)
    | _ => none
  | .lcmp => mj_q2 st fun a b r => some (pc + 1, L, .int (lg_cmp a b) :: r, G)
  | .i2l => mj_p1 st fun a r => some (pc + 1, L, .long a.toInt64 :: r, G)
  | .l2i => mj_q1 st fun a r => some (pc + 1, L, .int a.toInt32 :: r, G)
  | .dup => match st with
    | v :: r => if v.category = 1 then some (pc + 1, L, v :: v :: r, G) else none
    | _ => none
  | .pop => match st with
    | v :: r => if v.category = 1 then some (pc + 1, L, r, G) else none
    | _ => none
  | .dup_x1 => match st with
    | v :: u :: r => if v.category = 1 ∧ u.category = 1 then some (pc + 1, L, v :: u :: v :: r, G) else none
    | _ => none
  | .dup2 => match st with
    | v :: u :: r => if v.category = 1 ∧ u.category = 1 then some (pc + 1, L, v :: u :: v :: u :: r, G) else none
    | _ => none
  | .goto off => (mj_tg pc off).map fun t => (t, L, st, G)
  | .ifCond .eq off => mj_p1 st fun a r => (mj_br pc off (a = 0)).map fun t => (t, L, r, G)
  | .ifCond .ne off => mj_p1 st fun a r => (mj_br pc off (¬ a = 0)).map fun t => (t, L, r, G)
  | .ifCond .lt off => mj_p1 st fun a r => (mj_br pc off (a < 0)).map fun t => (t, L, r, G)
  | .ifCond .ge off => mj_p1 st fun a r => (mj_br pc off (0 ≤ a)).map fun t => (t, L, r, G)
  | .ifCond .gt off => mj_p1 st fun a r => (mj_br pc off (0 < a)).map fun t => (t, L, r, G)
  | .ifCond .le off => mj_p1 st fun a r => (mj_br pc off (a ≤ 0)).map fun t => (t, L, r, G)
  | .if_icmp .eq off => mj_p2 st fun a b r => (mj_br pc off (a = b)).map fun t => (t, L, r, G)
  | .if_icmp .ne off => mj_p2 st fun a b r => (mj_br pc off (¬ a = b)).map fun t => (t, L, r, G)
  | .if_icmp .lt off => mj_p2 st fun a b r => (mj_br pc off (a < b)).map fun t => (t, L, r, G)
  | .if_icmp .ge off => mj_p2 st fun a b r => (mj_br pc off (b ≤ a)).map fun t => (t, L, r, G)
  | .if_icmp .gt off => mj_p2 st fun a b r => (mj_br pc off (b < a)).map fun t => (t, L, r, G)
  | .if_icmp .le off => mj_p2 st fun a b r => (mj_br pc off (a ≤ b)).map fun t => (t, L, r, G)
  | .ifnull off => match st with
    | .ref _ :: r => some (pc + 3, L, r, G)
    | .null :: r => (mj_tg pc off).map fun t => (t, L, r, G)
    | _ => none
  | .ifnonnull off => match st with
    | .ref _ :: r => (mj_tg pc off).map fun t => (t, L, r, G)
    | .null :: r => some (pc + 3, L, r, G)
    | _ => none
  | .tableswitch d lo hi offs => mj_p1 st fun a r => (mj_sw pc d lo hi offs a).map fun t => (t, L, r, G)
  | .lookupswitch d ps => mj_p1 st fun a r => if (ps.toList.zip (ps.toList.drop 1)).all (fun (a, next) => a.1 < next.1) = true then (mj_tg pc (Op.lookupswitch.offset ps.toList d a.toInt)).map fun t => (t, L, r, G) else none
  | .getfield x => match st with
    | .ref o :: r => (mj_fl (mj_C q) x).bind fun f => (mj_gf G o f.1 f.2).map fun v => (pc + 3, L, v :: r, G)
    | _ => none
  | .putfield x => match st with
    | v :: .ref o :: r => (mj_fl (mj_C q) x).bind fun f => match mj_cs[f.1]? with
      | some w => if (w.2.1 f.2).2.2.2 = true ∧ ¬ ((mj_N q).name = "<init>" ∧ (w.2.1 f.2).1 = (mj_N q).cls) then none else (mj_pf G o f.1 f.2 v).map fun G' => (pc + 3, L, r, G')
      | none => none
    | _ => none
  | .iaload => match st with
    | .int i :: .ref a :: r => (mj_ai G a i).map fun v => (pc + 1, L, .int v :: r, G)
    | _ => none
  | .baload => match st with
    | .int i :: .ref a :: r => (mj_az G a i).map fun v => (pc + 1, L, .int v :: r, G)
    | _ => none
  | .laload => match st with
    | .int i :: .ref a :: r => (mj_al G a i).map fun v => (pc + 1, L, .long v :: r, G)
    | _ => none
  | .aaload => match st with
    | .int i :: .ref a :: r => (mj_aa G a i).map fun v => (pc + 1, L, va_rf v :: r, G)
    | _ => none
  | .iastore => match st with
    | .int x :: .int i :: .ref a :: r => (mj_wi G a i x).map fun G' => (pc + 1, L, r, G')
    | _ => none
  | .bastore => match st with
    | .int x :: .int i :: .ref a :: r => (mj_wz G a i x).map fun G' => (pc + 1, L, r, G')
    | _ => none
  | .lastore => match st with
    | .long x :: .int i :: .ref a :: r => (mj_wl G a i x).map fun G' => (pc + 1, L, r, G')
    | _ => none
  | .aastore => match st with
    | .ref x :: .int i :: .ref a :: r => (mj_wa G a i x).map fun G' => (pc + 1, L, r, G')
    | _ => none
  | .arraylength => match st with
    | .ref a :: r => match G.2.2 a with
      | .inl (.int, n, .inl _) => some (pc + 1, L, .int (Int32.ofNat n) :: r, G)
      | _ => none
    | _ => none
  | .new x => (mj_nw (mj_C q) x).bind fun ci => (mj_ad G lim (mj_fs ci).length (.inr (ci, mj_fs ci))).map fun G' => (pc + 3, L, .ref (G.1 + 1) :: st, G')
  | .newarray .int => mj_p1 st fun n r => if n < 0 ∨ 100000 < n.toNatClampNeg then none else (mj_ad G lim n.toNatClampNeg (.inl (.int, n.toNatClampNeg, .inl (fun _ => 0)))).map fun G' => (pc + 2, L, .ref (G.1 + 1) :: r, G')
  | .newarray .boolean => mj_p1 st fun n r => if n < 0 ∨ 100000 < n.toNatClampNeg then none else (mj_ad G lim n.toNatClampNeg (.inl (.boolean, n.toNatClampNeg, .inl (fun _ => 0)))).map fun G' => (pc + 2, L, .ref (G.1 + 1) :: r, G')
  | .newarray .long => mj_p1 st fun n r => if n < 0 ∨ 100000 < n.toNatClampNeg then none else (mj_ad G lim n.toNatClampNeg (.inl (.long, n.toNatClampNeg, .inr (.inl (fun _ => 0))))).map fun G' => (pc + 2, L, .ref (G.1 + 1) :: r, G')
  | .anewarray x => mj_p1 st fun n r => (mj_an (mj_C q) x).bind fun _ => if n < 0 ∨ 100000 < n.toNatClampNeg then none else (mj_ad G lim n.toNatClampNeg (.inl (.object "PassCourt$Routine", n.toNatClampNeg, .inr (.inr (.inr (.inr (fun _ => none))))))).map fun G' => (pc + 3, L, .ref (G.1 + 1) :: r, G')
  | .invokespecial x => match st with
    | .ref _ :: r => (mj_oi (mj_C q) x).bind fun _ => if (r.map fun v => v.category).sum ≤ 8 then some (pc + 3, L, r, G) else none
    | _ => none
  | _ => none
def mj_ln (i : Instr) (len : Nat) : Nat := match i with
  | .iconst _ | .lconst _ | .aconst_null | .iload_n _ | .lload_n _ | .aload_n _ | .istore_n _ | .lstore_n _ | .astore_n _ => 1
  | .iadd | .isub | .imul | .iand | .ior | .ixor | .ishl | .ishr | .ladd | .lsub | .lmul | .land | .lor | .ldiv | .lrem | .lshl | .lcmp | .i2l | .l2i | .dup | .pop | .dup_x1 | .dup2 => 1
  | .iaload | .baload | .laload | .aaload | .iastore | .bastore | .lastore | .aastore | .arraylength => 1
  | .bipush _ | .ldc _ | .iload _ | .lload _ | .aload _ | .istore _ | .lstore _ | .astore _ | .newarray _ => 2
  | .tableswitch .. | .lookupswitch .. => len
  | _ => 3
def mj_st (q : mj_M) (lim : Nat × Nat) (pc : Nat) (L st : List Value) (G : mj_H) : Option mj_S := match decode (mj_B q) pc with
  | .ok (i, len) => if len = mj_ln i len then mj_in q lim i pc L st G else none
  | .error _ => none
abbrev mj_Q : Type := Option Value → mj_H → Prop
abbrev mj_K : Type := Nat × Nat → mj_M → List Value → mj_H → mj_Q → Prop
def mj_nr (t : Option FieldType) (v : Value) : Prop := match t with
  | some ty => narrow ty v = v
  | none => False
/-- calls and returns -/
def mj_cr (call : mj_K) (lim : Nat × Nat) (q : mj_M) (Q : mj_Q) (Y : Nat → List Value → List Value → mj_H → Prop) (pc : Nat) (L st : List Value) (G : mj_H) : Prop := match decode (mj_B q) pc with
  | .ok (.invokevirtual x, 3) => ∃ q', mj_lk (mj_C q) x = some (0, q') ∧ ∃ (o : Nat) (r : List Value), st.drop (mj_A q') = .ref o :: r ∧ mj_A q' ≤ st.length ∧ (r.map fun v => v.category).sum ≤ 8 ∧ mj_io G o (mj_C q') = true ∧ (mj_ar (.ref o :: (st.take (mj_A q')).reverse)).length ≤ mj_L q' ∧ call (G.1, G.2.1) q' (.ref o :: (st.take (mj_A q')).reverse) G (fun v G' => G'.1 = G.1 ∧ G'.2.1 = G.2.1 ∧ Y (pc + 3) L (v.toList ++ r) G')
  | .ok (.invokestatic x, 3) => ∃ q', mj_lk (mj_C q) x = some (1, q') ∧ mj_A q' ≤ st.length ∧ ((st.drop (mj_A q')).map fun v => v.category).sum ≤ 8 ∧ (mj_ar (st.take (mj_A q')).reverse).length ≤ mj_L q' ∧ call (G.1, G.2.1) q' (st.take (mj_A q')).reverse G (fun v G' => G'.1 = G.1 ∧ G'.2.1 = G.2.1 ∧ Y (pc + 3) L (v.toList ++ st.drop (mj_A q')) G')
  | .ok (.invokespecial x, 3) => ∃ q', mj_lk (mj_C q) x = some (2, q') ∧ ∃ (o : Nat) (r : List Value) (mc ms : Nat), st.drop (mj_A q') = .ref o :: r ∧ mj_A q' ≤ st.length ∧ (r.map fun v => v.category).sum ≤ 8 ∧ G.1 + mc ≤ lim.1 ∧ G.2.1 + ms ≤ lim.2 ∧ (mj_ar (.ref o :: (st.take (mj_A q')).reverse)).length ≤ mj_L q' ∧ call (G.1 + mc, G.2.1 + ms) q' (.ref o :: (st.take (mj_A q')).reverse) G (fun v G' => G'.1 = G.1 + mc ∧ G'.2.1 = G.2.1 + ms ∧ Y (pc + 3) L (v.toList ++ r) G')
  | .ok (.ireturn, 1) => ∃ v : Int32, st = [.int v] ∧ mj_nr (mj_R q) (.int v) ∧ Q (some (.int v)) G
  | .ok (.lreturn, 1) => ∃ v : Int64, st = [.long v] ∧ mj_R q = some .long ∧ Q (some (.long v)) G
  | .ok (.areturn, 1) => ∃ v : Value, st = [v] ∧ (v = .null ∨ ∃ a, v = .ref a) ∧ (∃ n, mj_R q = some (.object n)) ∧ Q (some v) G
  | .ok (.return_, 1) => st = [] ∧ mj_R q = none ∧ Q none G
  | _ => False
def mj_ex (call : mj_K) (lim : Nat × Nat) (q : mj_M) (Q : mj_Q) (Y : Nat → List Value → List Value → mj_H → Prop) (pc : Nat) (L st : List Value) (G : mj_H) : Prop := match mj_st q lim pc L st G with
  | some s => Y s.1 s.2.1 s.2.2.1 s.2.2.2
  | none => mj_cr call lim q Q Y pc L st G
def mj_lf (call : mj_K) (lim : Nat × Nat) (q : mj_M) (pc : Nat) (L st : List Value) (G : mj_H) (Q : mj_Q) : Prop := ∀ Y : Nat → List Value → List Value → mj_H → Prop, (∀ pc L st G, mj_ex call lim q Q Y pc L st G → Y pc L st G) → Y pc L st G
def mj_V : Nat → Nat × Nat → mj_M → Nat → List Value → List Value → mj_H → mj_Q → Prop
  | 0 => mj_lf (fun _ _ _ _ _ => False)
  | d + 1 => mj_lf (fun lim q a G Q => mj_V d lim q 0 (mj_en a (mj_L q)) [] G Q)
def mj_ca : Nat → mj_K
  | 0 => fun _ _ _ _ _ => False
  | d + 1 => fun lim q a G Q => mj_V d lim q 0 (mj_en a (mj_L q)) [] G Q
theorem mj_V_def (d : Nat) : mj_V d = mj_lf (mj_ca d) := by cases d <;> rfl
def mj_mono (call : mj_K) : Prop := ∀ lim q a G (P P' : mj_Q), (∀ r g, P r g → P' r g) → call lim q a G P → call lim q a G P'
theorem mj_cr_mono {call : mj_K} (hc : mj_mono call) {lim : Nat × Nat} {q : mj_M} {Q Q' : mj_Q} {Y Y' : Nat → List Value → List Value → mj_H → Prop} (hQ : ∀ r g, Q r g → Q' r g) (hY : ∀ pc L st G, Y pc L st G → Y' pc L st G) {pc : Nat} {L st : List Value} {G : mj_H} (h : mj_cr call lim q Q Y pc L st G) : mj_cr call lim q Q' Y' pc L st G := by
  unfold mj_cr at h ⊢
  split at h
  · obtain ⟨q', h1, o, r, h2, h3, h4, h5, h5a, h6⟩ := h
    exact ⟨q', h1, o, r, h2, h3, h4, h5, h5a, hc _ _ _ _ _ _ (fun v g x => ⟨x.1, x.2.1, hY _ _ _ _ x.2.2⟩) h6⟩
  · obtain ⟨q', h1, h2, h3, h3a, h4⟩ := h
    exact ⟨q', h1, h2, h3, h3a, hc _ _ _ _ _ _ (fun v g x => ⟨x.1, x.2.1, hY _ _ _ _ x.2.2⟩) h4⟩
  · obtain ⟨q', h1, o, r, mc, ms, h2, h3, h4, h5, h6, h6a, h7⟩ := h
    exact ⟨q', h1, o, r, mc, ms, h2, h3, h4, h5, h6, h6a, hc _ _ _ _ _ _ (fun v g x => ⟨x.1, x.2.1, hY _ _ _ _ x.2.2⟩) h7⟩
  · obtain ⟨v, h1, h2, h3⟩ := h
    exact ⟨v, h1, h2, hQ _ _ h3⟩
  · obtain ⟨v, h1, h2, h3⟩ := h
    exact ⟨v, h1, h2, hQ _ _ h3⟩
  · obtain ⟨v, h1, h2, h3, h4⟩ := h
    exact ⟨v, h1, h2, h3, hQ _ _ h4⟩
  · exact ⟨h.1, h.2.1, hQ _ _ h.2.2⟩
  · exact h
theorem mj_ex_mono {call : mj_K} (hc : mj_mono call) {lim : Nat × Nat} {q : mj_M} {Q Q' : mj_Q} {Y Y' : Nat → List Value → List Value → mj_H → Prop} (hQ : ∀ r g, Q r g → Q' r g) (hY : ∀ pc L st G, Y pc L st G → Y' pc L st G) {pc : Nat} {L st : List Value} {G : mj_H} (h : mj_ex call lim q Q Y pc L st G) : mj_ex call lim q Q' Y' pc L st G := by
  unfold mj_ex at h ⊢
  split at h
  · exact hY _ _ _ _ h
  · exact mj_cr_mono hc hQ hY h
theorem mj_lf_mono {call : mj_K} (hc : mj_mono call) : mj_mono (fun lim q a G Q => mj_lf call lim q 0 (mj_en a (mj_L q)) [] G Q) := by
  intro lim q a G P P' hP h
  exact fun Y hY => h Y (fun pc L st G x => hY pc L st G (mj_ex_mono hc hP (fun _ _ _ _ y => y) x))
theorem mj_ca_mono : ∀ d, mj_mono (mj_ca d)
  | 0 => fun _ _ _ _ _ _ _ h => h
  | d + 1 => by
    have h := mj_lf_mono (mj_ca_mono d)
    rw [← mj_V_def] at h
    exact h
theorem mj_V_mono {d : Nat} {lim : Nat × Nat} {q : mj_M} {pc : Nat} {L st : List Value} {G : mj_H} {Q Q' : mj_Q} (hQ : ∀ r g, Q r g → Q' r g) (h : mj_V d lim q pc L st G Q) : mj_V d lim q pc L st G Q' := by
  rw [mj_V_def] at h ⊢
  exact fun Y hY => h Y (fun pc L st G x => hY pc L st G (mj_ex_mono (mj_ca_mono d) hQ (fun _ _ _ _ y => y) x))
theorem mj_V_eq (d : Nat) (lim : Nat × Nat) (q : mj_M) (pc : Nat) (L st : List Value) (G : mj_H) (Q : mj_Q) : mj_V d lim q pc L st G Q ↔ mj_ex (mj_ca d) lim q Q (fun pc L st G => mj_V d lim q pc L st G Q) pc L st G := by
  have le : ∀ pc L st G, mj_ex (mj_ca d) lim q Q (fun pc L st G => mj_V d lim q pc L st G Q) pc L st G → mj_V d lim q pc L st G Q := by
    intro pc L st G h
    rw [mj_V_def]
    intro Y hY
    refine hY _ _ _ _ (mj_ex_mono (mj_ca_mono d) (fun _ _ y => y) (fun pc L st G h2 => ?_) h)
    rw [mj_V_def] at h2
    exact h2 Y hY
  refine ⟨fun h => ?_, le pc L st G⟩
  rw [mj_V_def] at h
  exact h _ (fun pc L st G h2 => mj_ex_mono (mj_ca_mono d) (fun _ _ y => y) le h2)
