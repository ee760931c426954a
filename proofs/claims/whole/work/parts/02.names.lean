/-! names: the classes with their fields, the methods, the tables of links; by program (wip/whole/gen.py) -/
abbrev mj_M : Type := MethodName × ByteArray × Nat × Option FieldType × Nat × Nat
def mj_N (q : mj_M) : MethodName := q.1
def mj_B (q : mj_M) : ByteArray := q.2.1
def mj_L (q : mj_M) : Nat := q.2.2.1
def mj_R (q : mj_M) : Option FieldType := q.2.2.2.1
def mj_A (q : mj_M) : Nat := q.2.2.2.2.1
def mj_C (q : mj_M) : Nat := q.2.2.2.2.2
theorem mj_tn {p : Nat} {w : Cond} (h : lw_tbl[p]? = some w) : w ∈ lw_tbl := List.mem_of_getElem? h
def mj_F0 : u_T := fun k => match k with
  | 0 => ("PassCourt$Judge", "witness", "LPassCourt$Witness;", true)
  | 1 => ("PassCourt$Judge", "first", "LPassCourt$Side;", true)
  | 2 => ("PassCourt$Judge", "second", "LPassCourt$Side;", true)
  | 3 => ("PassCourt$Judge", "pairsAt", "[I", true)
  | _ => ("PassCourt$Judge", "faultyPair", "I", false)
def mj_T0 : Nat → FieldType := fun k => match k with
  | 0 => (.object "PassCourt$Witness")
  | 1 => (.object "PassCourt$Side")
  | 2 => (.object "PassCourt$Side")
  | 3 => (.array .int)
  | _ => .int
def mj_F1 : u_T := fun k => match k with
  | 0 => ("PassCourt$Knowledge", "comeTo", "[Z", true)
  | 1 => ("PassCourt$Knowledge", "knowns", "[Z", true)
  | 2 => ("PassCourt$Knowledge", "numbers", "[J", true)
  | 3 => ("PassCourt$Knowledge", "waiting", "[Z", true)
  | 4 => ("PassCourt$Knowledge", "someWait", "Z", false)
  | 5 => ("PassCourt$Knowledge", "knownsBehind", "[Z", true)
  | _ => ("PassCourt$Knowledge", "numbersBehind", "[J", true)
def mj_T1 : Nat → FieldType := fun k => match k with
  | 0 => (.array .boolean)
  | 1 => (.array .boolean)
  | 2 => (.array .long)
  | 3 => (.array .boolean)
  | 4 => .boolean
  | 5 => (.array .boolean)
  | _ => (.array .long)
def mj_F2 : u_T := fun k => match k with
  | 0 => ("PassCourt$Leads", "ends", "[I", true)
  | _ => ("PassCourt$Leads", "steps", "[I", true)
def mj_T2 : Nat → FieldType := fun k => match k with
  | 0 => (.array .int)
  | _ => (.array .int)
def mj_F3 : u_T := fun k => match k with
  | _ => ("PassCourt$Liveness", "masks", "[I", true)
def mj_T3 : Nat → FieldType := fun k => match k with
  | _ => (.array .int)
def mj_F4 : u_T := fun k => match k with
  | 0 => ("PassCourt$Passes", "knowledge", "LPassCourt$Knowledge;", true)
  | 1 => ("PassCourt$Passes", "liveness", "LPassCourt$Liveness;", true)
  | 2 => ("PassCourt$Passes", "leads", "LPassCourt$Leads;", true)
  | 3 => ("PassCourt$Passes", "passesAhead", "[I", true)
  | 4 => ("PassCourt$Passes", "before", "LPassCourt$Routine;", true)
  | _ => ("PassCourt$Passes", "after", "LPassCourt$Routine;", true)
def mj_T4 : Nat → FieldType := fun k => match k with
  | 0 => (.object "PassCourt$Knowledge")
  | 1 => (.object "PassCourt$Liveness")
  | 2 => (.object "PassCourt$Leads")
  | 3 => (.array .int)
  | 4 => (.object "PassCourt$Routine")
  | _ => (.object "PassCourt$Routine")
def mj_F5 : u_T := fun k => match k with
  | 0 => ("PassCourt$Runner", "feedNumbers", "[J", true)
  | 1 => ("PassCourt$Runner", "feedSize", "I", false)
  | 2 => ("PassCourt$Runner", "registers", "[J", true)
  | 3 => ("PassCourt$Runner", "told", "[J", true)
  | 4 => ("PassCourt$Runner", "given", "I", false)
  | 5 => ("PassCourt$Runner", "done", "I", false)
  | _ => ("PassCourt$Runner", "place", "I", false)
def mj_T5 : Nat → FieldType := fun k => match k with
  | 0 => (.array .long)
  | 1 => .int
  | 2 => (.array .long)
  | 3 => (.array .long)
  | 4 => .int
  | 5 => .int
  | _ => .int
def mj_F6 : u_T := fun k => match k with
  | 0 => ("PassCourt$Routine", "kinds", "[I", true)
  | 1 => ("PassCourt$Routine", "xs", "[I", true)
  | 2 => ("PassCourt$Routine", "ys", "[I", true)
  | 3 => ("PassCourt$Routine", "zs", "[I", true)
  | _ => ("PassCourt$Routine", "size", "I", false)
def mj_T6 : Nat → FieldType := fun k => match k with
  | 0 => (.array .int)
  | 1 => (.array .int)
  | 2 => (.array .int)
  | 3 => (.array .int)
  | _ => .int
def mj_F7 : u_T := fun k => match k with
  | 0 => ("PassCourt$Side", "ownSort", "I", true)
  | 1 => ("PassCourt$Side", "routine", "LPassCourt$Routine;", false)
  | 2 => ("PassCourt$Side", "place", "I", false)
  | 3 => ("PassCourt$Side", "sorts", "[I", true)
  | 4 => ("PassCourt$Side", "values", "[J", true)
  | 5 => ("PassCourt$Side", "madeKind", "I", false)
  | 6 => ("PassCourt$Side", "leftSort", "I", false)
  | 7 => ("PassCourt$Side", "leftValue", "J", false)
  | 8 => ("PassCourt$Side", "rightSort", "I", false)
  | _ => ("PassCourt$Side", "rightValue", "J", false)
def mj_T7 : Nat → FieldType := fun k => match k with
  | 0 => .int
  | 1 => (.object "PassCourt$Routine")
  | 2 => .int
  | 3 => (.array .int)
  | 4 => (.array .long)
  | 5 => .int
  | 6 => .int
  | 7 => .long
  | 8 => .int
  | _ => .long
def mj_F8 : u_T := fun k => match k with
  | 0 => ("PassCourt$Witness", "firsts", "[I", true)
  | 1 => ("PassCourt$Witness", "seconds", "[I", true)
  | 2 => ("PassCourt$Witness", "modes", "[I", true)
  | 3 => ("PassCourt$Witness", "measures", "[I", true)
  | 4 => ("PassCourt$Witness", "claims", "[I", true)
  | 5 => ("PassCourt$Witness", "numbers", "[J", true)
  | _ => ("PassCourt$Witness", "size", "I", false)
def mj_T8 : Nat → FieldType := fun k => match k with
  | 0 => (.array .int)
  | 1 => (.array .int)
  | 2 => (.array .int)
  | 3 => (.array .int)
  | 4 => (.array .int)
  | 5 => (.array .long)
  | _ => .int
def mj_F9 : u_T := fun k => match k with
  | 0 => ("PassCourt", "routines", "[LPassCourt$Routine;", true)
  | 1 => ("PassCourt", "routineCount", "I", false)
  | 2 => ("PassCourt", "knowledge", "LPassCourt$Knowledge;", true)
  | 3 => ("PassCourt", "liveness", "LPassCourt$Liveness;", true)
  | 4 => ("PassCourt", "passes", "LPassCourt$Passes;", true)
  | 5 => ("PassCourt", "runner", "LPassCourt$Runner;", true)
  | 6 => ("PassCourt", "witness", "LPassCourt$Witness;", true)
  | _ => ("PassCourt", "court", "LPassCourt$Judge;", true)
def mj_T9 : Nat → FieldType := fun k => match k with
  | 0 => (.array (.object "PassCourt$Routine"))
  | 1 => .int
  | 2 => (.object "PassCourt$Knowledge")
  | 3 => (.object "PassCourt$Liveness")
  | 4 => (.object "PassCourt$Passes")
  | 5 => (.object "PassCourt$Runner")
  | 6 => (.object "PassCourt$Witness")
  | _ => (.object "PassCourt$Judge")
def mj_F10 : u_T := fun k => match k with
  | 0 => ("PassCourtModel", "routines", "I", false)
  | 1 => ("PassCourtModel", "lengths", "[I", true)
  | 2 => ("PassCourtModel", "acts", "[I", true)
  | 3 => ("PassCourtModel", "feed", "[J", true)
  | 4 => ("PassCourtModel", "fed", "I", false)
  | 5 => ("PassCourtModel", "registers", "[J", true)
  | 6 => ("PassCourtModel", "out", "[J", true)
  | 7 => ("PassCourtModel", "outs", "I", false)
  | 8 => ("PassCourtModel", "did", "I", false)
  | 9 => ("PassCourtModel", "stoppedAt", "I", false)
  | 10 => ("PassCourtModel", "pairs", "I", false)
  | 11 => ("PassCourtModel", "pairFirst", "[I", true)
  | 12 => ("PassCourtModel", "pairSecond", "[I", true)
  | 13 => ("PassCourtModel", "pairMode", "[I", true)
  | 14 => ("PassCourtModel", "pairMeasure", "[I", true)
  | 15 => ("PassCourtModel", "claims", "[I", true)
  | 16 => ("PassCourtModel", "numbers", "[J", true)
  | 17 => ("PassCourtModel", "fault", "I", false)
  | 18 => ("PassCourtModel", "faultAt", "I", false)
  | 19 => ("PassCourtModel", "comes", "[Z", true)
  | 20 => ("PassCourtModel", "isKnown", "[I", true)
  | 21 => ("PassCourtModel", "knownAs", "[J", true)
  | 22 => ("PassCourtModel", "changed", "Z", false)
  | 23 => ("PassCourtModel", "behind", "J", false)
  | 24 => ("PassCourtModel", "lives", "[Z", true)
  | 25 => ("PassCourtModel", "witnesses", "Z", false)
  | 26 => ("PassCourtModel", "steps", "I", false)
  | 27 => ("PassCourtModel", "one", "I", false)
  | 28 => ("PassCourtModel", "two", "I", false)
  | 29 => ("PassCourtModel", "sort", "[I", true)
  | 30 => ("PassCourtModel", "from", "[I", true)
  | 31 => ("PassCourtModel", "madeBy", "[I", true)
  | 32 => ("PassCourtModel", "left", "[I", true)
  | 33 => ("PassCourtModel", "right", "[I", true)
  | _ => ("PassCourtModel", "is", "[J", true)
def mj_T10 : Nat → FieldType := fun k => match k with
  | 0 => .int
  | 1 => (.array .int)
  | 2 => (.array .int)
  | 3 => (.array .long)
  | 4 => .int
  | 5 => (.array .long)
  | 6 => (.array .long)
  | 7 => .int
  | 8 => .int
  | 9 => .int
  | 10 => .int
  | 11 => (.array .int)
  | 12 => (.array .int)
  | 13 => (.array .int)
  | 14 => (.array .int)
  | 15 => (.array .int)
  | 16 => (.array .long)
  | 17 => .int
  | 18 => .int
  | 19 => (.array .boolean)
  | 20 => (.array .int)
  | 21 => (.array .long)
  | 22 => .boolean
  | 23 => .long
  | 24 => (.array .boolean)
  | 25 => .boolean
  | 26 => .int
  | 27 => .int
  | 28 => .int
  | 29 => (.array .int)
  | 30 => (.array .int)
  | 31 => (.array .int)
  | 32 => (.array .int)
  | 33 => (.array .int)
  | _ => (.array .long)
def mj_cn (c : Nat) : String := match c with
  | 0 => "PassCourt$Judge"
  | 1 => "PassCourt$Knowledge"
  | 2 => "PassCourt$Leads"
  | 3 => "PassCourt$Liveness"
  | 4 => "PassCourt$Passes"
  | 5 => "PassCourt$Runner"
  | 6 => "PassCourt$Routine"
  | 7 => "PassCourt$Side"
  | 8 => "PassCourt$Witness"
  | 9 => "PassCourt"
  | 10 => "PassCourtModel"
  | 11 => "PassCourt$Code"
  | _ => "PassCourtLaw"
def mj_cs : List vw_C := [("PassCourt$Judge", mj_F0, 5), ("PassCourt$Knowledge", mj_F1, 7), ("PassCourt$Leads", mj_F2, 2), ("PassCourt$Liveness", mj_F3, 1), ("PassCourt$Passes", mj_F4, 6), ("PassCourt$Runner", mj_F5, 7), ("PassCourt$Routine", mj_F6, 5), ("PassCourt$Side", mj_F7, 10), ("PassCourt$Witness", mj_F8, 7), ("PassCourt", mj_F9, 8), ("PassCourtModel", mj_F10, 35)]
def mj_ty (c : Nat) : Nat → FieldType := match c with
  | 0 => mj_T0
  | 1 => mj_T1
  | 2 => mj_T2
  | 3 => mj_T3
  | 4 => mj_T4
  | 5 => mj_T5
  | 6 => mj_T6
  | 7 => mj_T7
  | 8 => mj_T8
  | 9 => mj_T9
  | _ => mj_T10
def mj_okC (ci : Nat) (r : vw_C) : Prop := (∀ w ∈ u_ws r.1 r.2.1 r.2.2, w ∈ lw_tbl) ∧ (∀ k, k < r.2.2 → parseFieldDescriptor (r.2.1 k).2.2.1 = some (mj_ty ci k)) ∧ (∀ a, a < r.2.2 → ∀ b, b < r.2.2 → a ≠ b → (r.2.1 a).2.1 ≠ (r.2.1 b).2.1) ∧ r.1 = mj_cn ci
set_option maxRecDepth 20000 in
theorem mj_okC_0 : mj_okC 0 ("PassCourt$Judge", mj_F0, 5) := by
  refine ⟨?_, ?_, by decide +kernel, rfl⟩
  · intro w hw
    obtain ⟨k, hk, rfl⟩ := List.mem_map.mp hw
    have hk := List.mem_range.mp hk
    match k, hk with
    | 0, _ => exact mj_tn (p := 355) (by decide +kernel)
    | 1, _ => exact mj_tn (p := 357) (by decide +kernel)
    | 2, _ => exact mj_tn (p := 359) (by decide +kernel)
    | 3, _ => exact mj_tn (p := 361) (by decide +kernel)
    | 4, _ => exact mj_tn (p := 363) (by decide +kernel)
    | k + 5, h => exact absurd h (by show ¬ (k + 5 < 5); omega)
  · show ∀ k, k < 5 → parseFieldDescriptor (mj_F0 k).2.2.1 = some (mj_T0 k)
    decide +kernel
set_option maxRecDepth 20000 in
theorem mj_okC_1 : mj_okC 1 ("PassCourt$Knowledge", mj_F1, 7) := by
  refine ⟨?_, ?_, by decide +kernel, rfl⟩
  · intro w hw
    obtain ⟨k, hk, rfl⟩ := List.mem_map.mp hw
    have hk := List.mem_range.mp hk
    match k, hk with
    | 0, _ => exact mj_tn (p := 161) (by decide +kernel)
    | 1, _ => exact mj_tn (p := 163) (by decide +kernel)
    | 2, _ => exact mj_tn (p := 165) (by decide +kernel)
    | 3, _ => exact mj_tn (p := 167) (by decide +kernel)
    | 4, _ => exact mj_tn (p := 169) (by decide +kernel)
    | 5, _ => exact mj_tn (p := 171) (by decide +kernel)
    | 6, _ => exact mj_tn (p := 173) (by decide +kernel)
    | k + 7, h => exact absurd h (by show ¬ (k + 7 < 7); omega)
  · show ∀ k, k < 7 → parseFieldDescriptor (mj_F1 k).2.2.1 = some (mj_T1 k)
    decide +kernel
set_option maxRecDepth 20000 in
theorem mj_okC_2 : mj_okC 2 ("PassCourt$Leads", mj_F2, 2) := by
  refine ⟨?_, ?_, by decide +kernel, rfl⟩
  · intro w hw
    obtain ⟨k, hk, rfl⟩ := List.mem_map.mp hw
    have hk := List.mem_range.mp hk
    match k, hk with
    | 0, _ => exact mj_tn (p := 204) (by decide +kernel)
    | 1, _ => exact mj_tn (p := 206) (by decide +kernel)
    | k + 2, h => exact absurd h (by show ¬ (k + 2 < 2); omega)
  · show ∀ k, k < 2 → parseFieldDescriptor (mj_F2 k).2.2.1 = some (mj_T2 k)
    decide +kernel
set_option maxRecDepth 20000 in
theorem mj_okC_3 : mj_okC 3 ("PassCourt$Liveness", mj_F3, 1) := by
  refine ⟨?_, ?_, by decide +kernel, rfl⟩
  · intro w hw
    obtain ⟨k, hk, rfl⟩ := List.mem_map.mp hw
    have hk := List.mem_range.mp hk
    match k, hk with
    | 0, _ => exact mj_tn (p := 185) (by decide +kernel)
    | k + 1, h => exact absurd h (by show ¬ (k + 1 < 1); omega)
  · show ∀ k, k < 1 → parseFieldDescriptor (mj_F3 k).2.2.1 = some (mj_T3 k)
    decide +kernel
set_option maxRecDepth 20000 in
theorem mj_okC_4 : mj_okC 4 ("PassCourt$Passes", mj_F4, 6) := by
  refine ⟨?_, ?_, by decide +kernel, rfl⟩
  · intro w hw
    obtain ⟨k, hk, rfl⟩ := List.mem_map.mp hw
    have hk := List.mem_range.mp hk
    match k, hk with
    | 0, _ => exact mj_tn (p := 217) (by decide +kernel)
    | 1, _ => exact mj_tn (p := 219) (by decide +kernel)
    | 2, _ => exact mj_tn (p := 221) (by decide +kernel)
    | 3, _ => exact mj_tn (p := 223) (by decide +kernel)
    | 4, _ => exact mj_tn (p := 225) (by decide +kernel)
    | 5, _ => exact mj_tn (p := 227) (by decide +kernel)
    | k + 6, h => exact absurd h (by show ¬ (k + 6 < 6); omega)
  · show ∀ k, k < 6 → parseFieldDescriptor (mj_F4 k).2.2.1 = some (mj_T4 k)
    decide +kernel
set_option maxRecDepth 20000 in
theorem mj_okC_5 : mj_okC 5 ("PassCourt$Runner", mj_F5, 7) := by
  refine ⟨?_, ?_, by decide +kernel, rfl⟩
  · intro w hw
    obtain ⟨k, hk, rfl⟩ := List.mem_map.mp hw
    have hk := List.mem_range.mp hk
    match k, hk with
    | 0, _ => exact mj_tn (p := 249) (by decide +kernel)
    | 1, _ => exact mj_tn (p := 251) (by decide +kernel)
    | 2, _ => exact mj_tn (p := 253) (by decide +kernel)
    | 3, _ => exact mj_tn (p := 255) (by decide +kernel)
    | 4, _ => exact mj_tn (p := 257) (by decide +kernel)
    | 5, _ => exact mj_tn (p := 259) (by decide +kernel)
    | 6, _ => exact mj_tn (p := 261) (by decide +kernel)
    | k + 7, h => exact absurd h (by show ¬ (k + 7 < 7); omega)
  · show ∀ k, k < 7 → parseFieldDescriptor (mj_F5 k).2.2.1 = some (mj_T5 k)
    decide +kernel
set_option maxRecDepth 20000 in
theorem mj_okC_6 : mj_okC 6 ("PassCourt$Routine", mj_F6, 5) := by
  refine ⟨?_, ?_, by decide +kernel, rfl⟩
  · intro w hw
    obtain ⟨k, hk, rfl⟩ := List.mem_map.mp hw
    have hk := List.mem_range.mp hk
    match k, hk with
    | 0, _ => exact mj_tn (p := 134) (by decide +kernel)
    | 1, _ => exact mj_tn (p := 136) (by decide +kernel)
    | 2, _ => exact mj_tn (p := 138) (by decide +kernel)
    | 3, _ => exact mj_tn (p := 140) (by decide +kernel)
    | 4, _ => exact mj_tn (p := 142) (by decide +kernel)
    | k + 5, h => exact absurd h (by show ¬ (k + 5 < 5); omega)
  · show ∀ k, k < 5 → parseFieldDescriptor (mj_F6 k).2.2.1 = some (mj_T6 k)
    decide +kernel
set_option maxRecDepth 20000 in
theorem mj_okC_7 : mj_okC 7 ("PassCourt$Side", mj_F7, 10) := by
  refine ⟨?_, ?_, by decide +kernel, rfl⟩
  · intro w hw
    obtain ⟨k, hk, rfl⟩ := List.mem_map.mp hw
    have hk := List.mem_range.mp hk
    match k, hk with
    | 0, _ => exact mj_tn (p := 328) (by decide +kernel)
    | 1, _ => exact mj_tn (p := 330) (by decide +kernel)
    | 2, _ => exact mj_tn (p := 332) (by decide +kernel)
    | 3, _ => exact mj_tn (p := 334) (by decide +kernel)
    | 4, _ => exact mj_tn (p := 336) (by decide +kernel)
    | 5, _ => exact mj_tn (p := 338) (by decide +kernel)
    | 6, _ => exact mj_tn (p := 340) (by decide +kernel)
    | 7, _ => exact mj_tn (p := 342) (by decide +kernel)
    | 8, _ => exact mj_tn (p := 344) (by decide +kernel)
    | 9, _ => exact mj_tn (p := 346) (by decide +kernel)
    | k + 10, h => exact absurd h (by show ¬ (k + 10 < 10); omega)
  · show ∀ k, k < 10 → parseFieldDescriptor (mj_F7 k).2.2.1 = some (mj_T7 k)
    decide +kernel
set_option maxRecDepth 20000 in
theorem mj_okC_8 : mj_okC 8 ("PassCourt$Witness", mj_F8, 7) := by
  refine ⟨?_, ?_, by decide +kernel, rfl⟩
  · intro w hw
    obtain ⟨k, hk, rfl⟩ := List.mem_map.mp hw
    have hk := List.mem_range.mp hk
    match k, hk with
    | 0, _ => exact mj_tn (p := 288) (by decide +kernel)
    | 1, _ => exact mj_tn (p := 290) (by decide +kernel)
    | 2, _ => exact mj_tn (p := 292) (by decide +kernel)
    | 3, _ => exact mj_tn (p := 294) (by decide +kernel)
    | 4, _ => exact mj_tn (p := 296) (by decide +kernel)
    | 5, _ => exact mj_tn (p := 298) (by decide +kernel)
    | 6, _ => exact mj_tn (p := 300) (by decide +kernel)
    | k + 7, h => exact absurd h (by show ¬ (k + 7 < 7); omega)
  · show ∀ k, k < 7 → parseFieldDescriptor (mj_F8 k).2.2.1 = some (mj_T8 k)
    decide +kernel
set_option maxRecDepth 20000 in
theorem mj_okC_9 : mj_okC 9 ("PassCourt", mj_F9, 8) := by
  refine ⟨?_, ?_, by decide +kernel, rfl⟩
  · intro w hw
    obtain ⟨k, hk, rfl⟩ := List.mem_map.mp hw
    have hk := List.mem_range.mp hk
    match k, hk with
    | 0, _ => exact mj_tn (p := 374) (by decide +kernel)
    | 1, _ => exact mj_tn (p := 376) (by decide +kernel)
    | 2, _ => exact mj_tn (p := 378) (by decide +kernel)
    | 3, _ => exact mj_tn (p := 380) (by decide +kernel)
    | 4, _ => exact mj_tn (p := 382) (by decide +kernel)
    | 5, _ => exact mj_tn (p := 384) (by decide +kernel)
    | 6, _ => exact mj_tn (p := 386) (by decide +kernel)
    | 7, _ => exact mj_tn (p := 388) (by decide +kernel)
    | k + 8, h => exact absurd h (by show ¬ (k + 8 < 8); omega)
  · show ∀ k, k < 8 → parseFieldDescriptor (mj_F9 k).2.2.1 = some (mj_T9 k)
    decide +kernel
set_option maxRecDepth 20000 in
theorem mj_okC_10 : mj_okC 10 ("PassCourtModel", mj_F10, 35) := by
  refine ⟨?_, ?_, by decide +kernel, rfl⟩
  · intro w hw
    obtain ⟨k, hk, rfl⟩ := List.mem_map.mp hw
    have hk := List.mem_range.mp hk
    match k, hk with
    | 0, _ => exact mj_tn (p := 947) (by decide +kernel)
    | 1, _ => exact mj_tn (p := 949) (by decide +kernel)
    | 2, _ => exact mj_tn (p := 951) (by decide +kernel)
    | 3, _ => exact mj_tn (p := 953) (by decide +kernel)
    | 4, _ => exact mj_tn (p := 955) (by decide +kernel)
    | 5, _ => exact mj_tn (p := 957) (by decide +kernel)
    | 6, _ => exact mj_tn (p := 959) (by decide +kernel)
    | 7, _ => exact mj_tn (p := 961) (by decide +kernel)
    | 8, _ => exact mj_tn (p := 963) (by decide +kernel)
    | 9, _ => exact mj_tn (p := 965) (by decide +kernel)
    | 10, _ => exact mj_tn (p := 967) (by decide +kernel)
    | 11, _ => exact mj_tn (p := 969) (by decide +kernel)
    | 12, _ => exact mj_tn (p := 971) (by decide +kernel)
    | 13, _ => exact mj_tn (p := 973) (by decide +kernel)
    | 14, _ => exact mj_tn (p := 975) (by decide +kernel)
    | 15, _ => exact mj_tn (p := 977) (by decide +kernel)
    | 16, _ => exact mj_tn (p := 979) (by decide +kernel)
    | 17, _ => exact mj_tn (p := 981) (by decide +kernel)
    | 18, _ => exact mj_tn (p := 983) (by decide +kernel)
    | 19, _ => exact mj_tn (p := 985) (by decide +kernel)
    | 20, _ => exact mj_tn (p := 987) (by decide +kernel)
    | 21, _ => exact mj_tn (p := 989) (by decide +kernel)
    | 22, _ => exact mj_tn (p := 991) (by decide +kernel)
    | 23, _ => exact mj_tn (p := 993) (by decide +kernel)
    | 24, _ => exact mj_tn (p := 995) (by decide +kernel)
    | 25, _ => exact mj_tn (p := 997) (by decide +kernel)
    | 26, _ => exact mj_tn (p := 999) (by decide +kernel)
    | 27, _ => exact mj_tn (p := 1001) (by decide +kernel)
    | 28, _ => exact mj_tn (p := 1003) (by decide +kernel)
    | 29, _ => exact mj_tn (p := 1005) (by decide +kernel)
    | 30, _ => exact mj_tn (p := 1007) (by decide +kernel)
    | 31, _ => exact mj_tn (p := 1009) (by decide +kernel)
    | 32, _ => exact mj_tn (p := 1011) (by decide +kernel)
    | 33, _ => exact mj_tn (p := 1013) (by decide +kernel)
    | 34, _ => exact mj_tn (p := 1015) (by decide +kernel)
    | k + 35, h => exact absurd h (by show ¬ (k + 35 < 35); omega)
  · show ∀ k, k < 35 → parseFieldDescriptor (mj_F10 k).2.2.1 = some (mj_T10 k)
    decide +kernel
theorem mj_okC_all : ∀ (ci : Nat) (r : vw_C), mj_cs[ci]? = some r → mj_okC ci r := by
  intro ci r h
  match ci, h with
  | 0, h => exact Option.some.inj h ▸ mj_okC_0
  | 1, h => exact Option.some.inj h ▸ mj_okC_1
  | 2, h => exact Option.some.inj h ▸ mj_okC_2
  | 3, h => exact Option.some.inj h ▸ mj_okC_3
  | 4, h => exact Option.some.inj h ▸ mj_okC_4
  | 5, h => exact Option.some.inj h ▸ mj_okC_5
  | 6, h => exact Option.some.inj h ▸ mj_okC_6
  | 7, h => exact Option.some.inj h ▸ mj_okC_7
  | 8, h => exact Option.some.inj h ▸ mj_okC_8
  | 9, h => exact Option.some.inj h ▸ mj_okC_9
  | 10, h => exact Option.some.inj h ▸ mj_okC_10
  | n + 11, h => exact absurd h (by simp [mj_cs])
theorem mj_is_0 : Cond.instantiable "PassCourt$Judge" 5 ∈ lw_tbl := mj_tn (p := 304) (by decide +kernel)
theorem mj_is_1 : Cond.instantiable "PassCourt$Knowledge" 7 ∈ lw_tbl := mj_tn (p := 147) (by decide +kernel)
theorem mj_is_2 : Cond.instantiable "PassCourt$Leads" 2 ∈ lw_tbl := mj_tn (p := 195) (by decide +kernel)
theorem mj_is_3 : Cond.instantiable "PassCourt$Liveness" 1 ∈ lw_tbl := mj_tn (p := 179) (by decide +kernel)
theorem mj_is_4 : Cond.instantiable "PassCourt$Passes" 6 ∈ lw_tbl := mj_tn (p := 189) (by decide +kernel)
theorem mj_is_5 : Cond.instantiable "PassCourt$Runner" 7 ∈ lw_tbl := mj_tn (p := 231) (by decide +kernel)
theorem mj_is_6 : Cond.instantiable "PassCourt$Routine" 5 ∈ lw_tbl := mj_tn (p := 92) (by decide +kernel)
theorem mj_is_7 : Cond.instantiable "PassCourt$Side" 10 ∈ lw_tbl := mj_tn (p := 310) (by decide +kernel)
theorem mj_is_8 : Cond.instantiable "PassCourt$Witness" 7 ∈ lw_tbl := mj_tn (p := 265) (by decide +kernel)
theorem mj_is_9 : Cond.instantiable "PassCourt" 8 ∈ lw_tbl := mj_tn (p := 83) (by decide +kernel)
theorem mj_is_10 : Cond.instantiable "PassCourtModel" 35 ∈ lw_tbl := mj_tn (p := 907) (by decide +kernel)
def mq_Court_init : mj_M := (⟨"PassCourt", "<init>", "()V"⟩, prog_1_method_1_code, 2, none, 0, 9)
def mq_Court_routine : mj_M := (⟨"PassCourt", "routine", "()I"⟩, prog_1_method_2_code, 1, (some .int), 0, 9)
def mq_Court_act : mj_M := (⟨"PassCourt", "act", "(IIIII)I"⟩, prog_1_method_3_code, 7, (some .int), 5, 9)
def mq_Court_at : mj_M := (⟨"PassCourt", "at", "(III)I"⟩, prog_1_method_4_code, 5, (some .int), 3, 9)
def mq_Court_length : mj_M := (⟨"PassCourt", "length", "(I)I"⟩, prog_1_method_5_code, 3, (some .int), 1, 9)
def mq_Court_pass : mj_M := (⟨"PassCourt", "pass", "(II)I"⟩, prog_1_method_6_code, 4, (some .int), 2, 9)
def mq_Court_best : mj_M := (⟨"PassCourt", "best", "(I)I"⟩, prog_1_method_7_code, 3, (some .int), 1, 9)
def mq_Court_same : mj_M := (⟨"PassCourt", "same", "(II)I"⟩, prog_1_method_8_code, 5, (some .int), 2, 9)
def mq_Court_known : mj_M := (⟨"PassCourt", "known", "(III)I"⟩, prog_1_method_9_code, 5, (some .int), 3, 9)
def mq_Court_value : mj_M := (⟨"PassCourt", "value", "(III)J"⟩, prog_1_method_10_code, 5, (some .long), 3, 9)
def mq_Court_live : mj_M := (⟨"PassCourt", "live", "(III)I"⟩, prog_1_method_11_code, 5, (some .int), 3, 9)
def mq_Court_feed : mj_M := (⟨"PassCourt", "feed", "(J)I"⟩, prog_1_method_12_code, 3, (some .int), 1, 9)
def mq_Court_dry : mj_M := (⟨"PassCourt", "dry", "()I"⟩, prog_1_method_13_code, 2, (some .int), 0, 9)
def mq_Court_run : mj_M := (⟨"PassCourt", "run", "(II)I"⟩, prog_1_method_14_code, 4, (some .int), 2, 9)
def mq_Court_outs : mj_M := (⟨"PassCourt", "outs", "()I"⟩, prog_1_method_15_code, 1, (some .int), 0, 9)
def mq_Court_out : mj_M := (⟨"PassCourt", "out", "(I)J"⟩, prog_1_method_16_code, 2, (some .long), 1, 9)
def mq_Court_ran : mj_M := (⟨"PassCourt", "ran", "(I)I"⟩, prog_1_method_17_code, 2, (some .int), 1, 9)
def mq_Court_register : mj_M := (⟨"PassCourt", "register", "(I)J"⟩, prog_1_method_18_code, 2, (some .long), 1, 9)
def mq_Court_clear : mj_M := (⟨"PassCourt", "clear", "()I"⟩, prog_1_method_19_code, 2, (some .int), 0, 9)
def mq_Court_pair : mj_M := (⟨"PassCourt", "pair", "(IIII)I"⟩, prog_1_method_20_code, 5, (some .int), 4, 9)
def mq_Court_claim : mj_M := (⟨"PassCourt", "claim", "(IIIJ)I"⟩, prog_1_method_21_code, 7, (some .int), 4, 9)
def mq_Court_of : mj_M := (⟨"PassCourt", "of", "(II)I"⟩, prog_1_method_22_code, 3, (some .int), 2, 9)
def mq_Court_number : mj_M := (⟨"PassCourt", "number", "(II)J"⟩, prog_1_method_23_code, 3, (some .long), 2, 9)
def mq_Court_judge : mj_M := (⟨"PassCourt", "judge", "(II)I"⟩, prog_1_method_24_code, 5, (some .int), 2, 9)
def mq_Court_where : mj_M := (⟨"PassCourt", "where", "()I"⟩, prog_1_method_25_code, 1, (some .int), 0, 9)
def mq_Court_count : mj_M := (⟨"PassCourt", "count", "(I)I"⟩, prog_1_method_26_code, 2, (some .int), 1, 9)
def mq_Court_find : mj_M := (⟨"PassCourt", "find", "(I)LPassCourt$Routine;"⟩, prog_1_method_27_code, 2, (some (.object "PassCourt$Routine")), 1, 9)
def mq_Court_findWith : mj_M := (⟨"PassCourt", "findWith", "(III)LPassCourt$Routine;"⟩, prog_1_method_28_code, 5, (some (.object "PassCourt$Routine")), 3, 9)
def mq_Model_init : mj_M := (⟨"PassCourtModel", "<init>", "()V"⟩, prog_13_method_1_code, 1, none, 0, 10)
def mq_Model_in : mj_M := (⟨"PassCourtModel", "in", "(III)Z"⟩, prog_13_method_3_code, 3, (some .boolean), 3, 10)
def mq_Model_isRoutine : mj_M := (⟨"PassCourtModel", "isRoutine", "(I)Z"⟩, prog_13_method_4_code, 2, (some .boolean), 1, 10)
def mq_Model_num : mj_M := (⟨"PassCourtModel", "num", "(III)I"⟩, prog_13_method_5_code, 4, (some .int), 3, 10)
def mq_Model_kind : mj_M := (⟨"PassCourtModel", "kind", "(II)I"⟩, prog_13_method_6_code, 3, (some .int), 2, 10)
def mq_Model_put : mj_M := (⟨"PassCourtModel", "put", "(IIIIII)V"⟩, prog_13_method_7_code, 8, none, 6, 10)
def mq_Model_place : mj_M := (⟨"PassCourtModel", "place", "(II)I"⟩, prog_13_method_8_code, 3, (some .int), 2, 10)
def mq_Model_routine : mj_M := (⟨"PassCourtModel", "routine", "()I"⟩, prog_13_method_9_code, 1, (some .int), 0, 10)
def mq_Model_isMade : mj_M := (⟨"PassCourtModel", "isMade", "(I)Z"⟩, prog_13_method_10_code, 1, (some .boolean), 1, 10)
def mq_Model_isAct : mj_M := (⟨"PassCourtModel", "isAct", "(IIII)Z"⟩, prog_13_method_11_code, 7, (some .boolean), 4, 10)
def mq_Model_act : mj_M := (⟨"PassCourtModel", "act", "(IIIII)I"⟩, prog_13_method_12_code, 6, (some .int), 5, 10)
def mq_Model_at : mj_M := (⟨"PassCourtModel", "at", "(III)I"⟩, prog_13_method_13_code, 4, (some .int), 3, 10)
def mq_Model_length : mj_M := (⟨"PassCourtModel", "length", "(I)I"⟩, prog_13_method_14_code, 2, (some .int), 1, 10)
def mq_Model_same : mj_M := (⟨"PassCourtModel", "same", "(II)I"⟩, prog_13_method_15_code, 3, (some .int), 2, 10)
def mq_Model_areSame : mj_M := (⟨"PassCourtModel", "areSame", "(II)Z"⟩, prog_13_method_16_code, 5, (some .boolean), 2, 10)
def mq_Model_copy : mj_M := (⟨"PassCourtModel", "copy", "(II)V"⟩, prog_13_method_17_code, 4, none, 2, 10)
def mq_Model_made : mj_M := (⟨"PassCourtModel", "made", "(IJJ)J"⟩, prog_13_method_18_code, 5, (some .long), 3, 10)
def mq_Model_meet : mj_M := (⟨"PassCourtModel", "meet", "(IIZJ)V"⟩, prog_13_method_19_code, 8, none, 4, 10)
def mq_Model_knows : mj_M := (⟨"PassCourtModel", "knows", "(II)Z"⟩, prog_13_method_20_code, 3, (some .boolean), 2, 10)
def mq_Model_as : mj_M := (⟨"PassCourtModel", "as", "(II)J"⟩, prog_13_method_21_code, 3, (some .long), 2, 10)
def mq_Model_knowsBehind : mj_M := (⟨"PassCourtModel", "knowsBehind", "(II)Z"⟩, prog_13_method_22_code, 6, (some .boolean), 2, 10)
def mq_Model_makes : mj_M := (⟨"PassCourtModel", "makes", "(I)Z"⟩, prog_13_method_23_code, 1, (some .boolean), 1, 10)
def mq_Model_lead : mj_M := (⟨"PassCourtModel", "lead", "(III)V"⟩, prog_13_method_24_code, 6, none, 3, 10)
def mq_Model_stops : mj_M := (⟨"PassCourtModel", "stops", "(II)Z"⟩, prog_13_method_25_code, 6, (some .boolean), 2, 10)
def mq_Model_know : mj_M := (⟨"PassCourtModel", "know", "(I)V"⟩, prog_13_method_26_code, 7, none, 1, 10)
def mq_Model_asks : mj_M := (⟨"PassCourtModel", "asks", "(IIIII)Z"⟩, prog_13_method_27_code, 5, (some .boolean), 5, 10)
def mq_Model_livens : mj_M := (⟨"PassCourtModel", "livens", "(I)V"⟩, prog_13_method_28_code, 8, none, 1, 10)
def mq_Model_isPlace : mj_M := (⟨"PassCourtModel", "isPlace", "(III)Z"⟩, prog_13_method_29_code, 4, (some .boolean), 3, 10)
def mq_Model_known : mj_M := (⟨"PassCourtModel", "known", "(III)I"⟩, prog_13_method_30_code, 4, (some .int), 3, 10)
def mq_Model_value : mj_M := (⟨"PassCourtModel", "value", "(III)J"⟩, prog_13_method_31_code, 4, (some .long), 3, 10)
def mq_Model_live : mj_M := (⟨"PassCourtModel", "live", "(III)I"⟩, prog_13_method_32_code, 4, (some .int), 3, 10)
def mq_Model_add : mj_M := (⟨"PassCourtModel", "add", "(IIIII)V"⟩, prog_13_method_33_code, 7, none, 5, 10)
def mq_Model_fold : mj_M := (⟨"PassCourtModel", "fold", "(II)V"⟩, prog_13_method_34_code, 6, none, 2, 10)
def mq_Model_drop : mj_M := (⟨"PassCourtModel", "drop", "(II)V"⟩, prog_13_method_35_code, 6, none, 2, 10)
def mq_Model_leads : mj_M := (⟨"PassCourtModel", "leads", "(II)I"⟩, prog_13_method_36_code, 4, (some .int), 2, 10)
def mq_Model_thread : mj_M := (⟨"PassCourtModel", "thread", "(II)V"⟩, prog_13_method_37_code, 5, none, 2, 10)
def mq_Model_packed : mj_M := (⟨"PassCourtModel", "packed", "(II)I"⟩, prog_13_method_38_code, 5, (some .int), 2, 10)
def mq_Model_pack : mj_M := (⟨"PassCourtModel", "pack", "(II)V"⟩, prog_13_method_39_code, 7, none, 2, 10)
def mq_Model_does : mj_M := (⟨"PassCourtModel", "does", "(III)V"⟩, prog_13_method_40_code, 4, none, 3, 10)
def mq_Model_pass : mj_M := (⟨"PassCourtModel", "pass", "(II)I"⟩, prog_13_method_41_code, 3, (some .int), 2, 10)
def mq_Model_best : mj_M := (⟨"PassCourtModel", "best", "(I)I"⟩, prog_13_method_42_code, 4, (some .int), 1, 10)
def mq_Model_feed : mj_M := (⟨"PassCourtModel", "feed", "(J)I"⟩, prog_13_method_43_code, 3, (some .int), 1, 10)
def mq_Model_dry : mj_M := (⟨"PassCourtModel", "dry", "()I"⟩, prog_13_method_44_code, 2, (some .int), 0, 10)
def mq_Model_run : mj_M := (⟨"PassCourtModel", "run", "(II)I"⟩, prog_13_method_45_code, 10, (some .int), 2, 10)
def mq_Model_outs : mj_M := (⟨"PassCourtModel", "outs", "()I"⟩, prog_13_method_46_code, 1, (some .int), 0, 10)
def mq_Model_out : mj_M := (⟨"PassCourtModel", "out", "(I)J"⟩, prog_13_method_47_code, 2, (some .long), 1, 10)
def mq_Model_ran : mj_M := (⟨"PassCourtModel", "ran", "(I)I"⟩, prog_13_method_48_code, 2, (some .int), 1, 10)
def mq_Model_register : mj_M := (⟨"PassCourtModel", "register", "(I)J"⟩, prog_13_method_49_code, 2, (some .long), 1, 10)
def mq_Model_clear : mj_M := (⟨"PassCourtModel", "clear", "()I"⟩, prog_13_method_50_code, 2, (some .int), 0, 10)
def mq_Model_pair : mj_M := (⟨"PassCourtModel", "pair", "(IIII)I"⟩, prog_13_method_51_code, 5, (some .int), 4, 10)
def mq_Model_claim : mj_M := (⟨"PassCourtModel", "claim", "(IIIJ)I"⟩, prog_13_method_52_code, 7, (some .int), 4, 10)
def mq_Model_of : mj_M := (⟨"PassCourtModel", "of", "(II)I"⟩, prog_13_method_53_code, 3, (some .int), 2, 10)
def mq_Model_number : mj_M := (⟨"PassCourtModel", "number", "(II)J"⟩, prog_13_method_54_code, 3, (some .long), 2, 10)
def mq_Model_find : mj_M := (⟨"PassCourtModel", "find", "(II)I"⟩, prog_13_method_55_code, 4, (some .int), 2, 10)
def mq_Model_isNumber : mj_M := (⟨"PassCourtModel", "isNumber", "(II)Z"⟩, prog_13_method_56_code, 3, (some .boolean), 2, 10)
def mq_Model_number0 : mj_M := (⟨"PassCourtModel", "number0", "(II)J"⟩, prog_13_method_57_code, 3, (some .long), 2, 10)
def mq_Model_areAlike : mj_M := (⟨"PassCourtModel", "areAlike", "(III)Z"⟩, prog_13_method_58_code, 4, (some .boolean), 3, 10)
def mq_Model_isQuiet : mj_M := (⟨"PassCourtModel", "isQuiet", "(III)Z"⟩, prog_13_method_59_code, 5, (some .boolean), 3, 10)
def mq_Model_goesTo : mj_M := (⟨"PassCourtModel", "goesTo", "(III)I"⟩, prog_13_method_60_code, 6, (some .int), 3, 10)
def mq_Model_look : mj_M := (⟨"PassCourtModel", "look", "(IIIII)V"⟩, prog_13_method_61_code, 11, none, 5, 10)
def mq_Model_isSame : mj_M := (⟨"PassCourtModel", "isSame", "(I)Z"⟩, prog_13_method_62_code, 2, (some .boolean), 1, 10)
def mq_Model_follow : mj_M := (⟨"PassCourtModel", "follow", "(IIIIII)Z"⟩, prog_13_method_63_code, 9, (some .boolean), 6, 10)
def mq_Model_wants : mj_M := (⟨"PassCourtModel", "wants", "(IIIIIII)I"⟩, prog_13_method_64_code, 9, (some .int), 7, 10)
def mq_Model_judged : mj_M := (⟨"PassCourtModel", "judged", "(I)I"⟩, prog_13_method_65_code, 13, (some .int), 1, 10)
def mq_Model_judge : mj_M := (⟨"PassCourtModel", "judge", "(II)I"⟩, prog_13_method_66_code, 5, (some .int), 2, 10)
def mq_Model_where : mj_M := (⟨"PassCourtModel", "where", "()I"⟩, prog_13_method_67_code, 1, (some .int), 0, 10)
def mq_Model_count : mj_M := (⟨"PassCourtModel", "count", "(I)I"⟩, prog_13_method_68_code, 2, (some .int), 1, 10)
def mq_Code_isRegister : mj_M := (⟨"PassCourt$Code", "isRegister", "(I)Z"⟩, prog_2_method_2_code, 1, (some .boolean), 1, 11)
def mq_Code_isPlace : mj_M := (⟨"PassCourt$Code", "isPlace", "(I)Z"⟩, prog_2_method_3_code, 1, (some .boolean), 1, 11)
def mq_Code_isAct : mj_M := (⟨"PassCourt$Code", "isAct", "(IIII)Z"⟩, prog_2_method_4_code, 4, (some .boolean), 4, 11)
def mq_Code_isReckoning : mj_M := (⟨"PassCourt$Code", "isReckoning", "(I)Z"⟩, prog_2_method_5_code, 1, (some .boolean), 1, 11)
def mq_Code_isDivision : mj_M := (⟨"PassCourt$Code", "isDivision", "(I)Z"⟩, prog_2_method_6_code, 1, (some .boolean), 1, 11)
def mq_Code_makesX : mj_M := (⟨"PassCourt$Code", "makesX", "(I)Z"⟩, prog_2_method_7_code, 1, (some .boolean), 1, 11)
def mq_Code_goesToNext : mj_M := (⟨"PassCourt$Code", "goesToNext", "(I)Z"⟩, prog_2_method_8_code, 1, (some .boolean), 1, 11)
def mq_Code_goesToY : mj_M := (⟨"PassCourt$Code", "goesToY", "(I)Z"⟩, prog_2_method_9_code, 1, (some .boolean), 1, 11)
def mq_Code_reckon : mj_M := (⟨"PassCourt$Code", "reckon", "(IJJ)J"⟩, prog_2_method_10_code, 5, (some .long), 3, 11)
def mq_Judge_init : mj_M := (⟨"PassCourt$Judge", "<init>", "(LPassCourt$Witness;)V"⟩, prog_3_method_1_code, 2, none, 1, 0)
def mq_Judge_hear : mj_M := (⟨"PassCourt$Judge", "hear", "(LPassCourt$Routine;LPassCourt$Routine;)I"⟩, prog_3_method_2_code, 6, (some .int), 2, 0)
def mq_Judge_listPairs : mj_M := (⟨"PassCourt$Judge", "listPairs", "()V"⟩, prog_3_method_3_code, 2, none, 0, 0)
def mq_Judge_spot : mj_M := (⟨"PassCourt$Judge", "spot", "(II)I"⟩, prog_3_method_4_code, 2, (some .int), 2, 0)
def mq_Judge_isSoAtFirst : mj_M := (⟨"PassCourt$Judge", "isSoAtFirst", "(I)Z"⟩, prog_3_method_5_code, 3, (some .boolean), 1, 0)
def mq_Judge_lookAt : mj_M := (⟨"PassCourt$Judge", "lookAt", "(I)I"⟩, prog_3_method_6_code, 3, (some .int), 1, 0)
def mq_Judge_lookAtOne : mj_M := (⟨"PassCourt$Judge", "lookAtOne", "(LPassCourt$Side;I)I"⟩, prog_3_method_7_code, 3, (some .int), 2, 0)
def mq_Judge_lookAtQuiet : mj_M := (⟨"PassCourt$Judge", "lookAtQuiet", "()I"⟩, prog_3_method_8_code, 1, (some .int), 0, 0)
def mq_Judge_lookAtLoud : mj_M := (⟨"PassCourt$Judge", "lookAtLoud", "()I"⟩, prog_3_method_9_code, 3, (some .int), 0, 0)
def mq_Judge_isLoudKind : mj_M := (⟨"PassCourt$Judge", "isLoudKind", "(I)Z"⟩, prog_3_method_10_code, 1, (some .boolean), 1, 0)
def mq_Judge_asksSame : mj_M := (⟨"PassCourt$Judge", "asksSame", "(I)Z"⟩, prog_3_method_11_code, 3, (some .boolean), 1, 0)
def mq_Judge_goOn : mj_M := (⟨"PassCourt$Judge", "goOn", "(III)I"⟩, prog_3_method_12_code, 6, (some .int), 3, 0)
def mq_Judge_follows : mj_M := (⟨"PassCourt$Judge", "follows", "(II)Z"⟩, prog_3_method_13_code, 6, (some .boolean), 2, 0)
def mq_Knowledge_init : mj_M := (⟨"PassCourt$Knowledge", "<init>", "()V"⟩, prog_4_method_1_code, 1, none, 0, 1)
def mq_Knowledge_isKnown : mj_M := (⟨"PassCourt$Knowledge", "isKnown", "(II)Z"⟩, prog_4_method_2_code, 3, (some .boolean), 2, 1)
def mq_Knowledge_numberIn : mj_M := (⟨"PassCourt$Knowledge", "numberIn", "(II)J"⟩, prog_4_method_3_code, 3, (some .long), 2, 1)
def mq_Knowledge_isKnownAsZero : mj_M := (⟨"PassCourt$Knowledge", "isKnownAsZero", "(II)Z"⟩, prog_4_method_4_code, 4, (some .boolean), 2, 1)
def mq_Knowledge_study : mj_M := (⟨"PassCourt$Knowledge", "study", "(LPassCourt$Routine;)V"⟩, prog_4_method_5_code, 4, none, 1, 1)
def mq_Knowledge_begin : mj_M := (⟨"PassCourt$Knowledge", "begin", "()V"⟩, prog_4_method_6_code, 2, none, 0, 1)
def mq_Knowledge_goOn : mj_M := (⟨"PassCourt$Knowledge", "goOn", "(LPassCourt$Routine;I)V"⟩, prog_4_method_7_code, 6, none, 2, 1)
def mq_Knowledge_stopsSurely : mj_M := (⟨"PassCourt$Knowledge", "stopsSurely", "(LPassCourt$Routine;I)Z"⟩, prog_4_method_8_code, 5, (some .boolean), 2, 1)
def mq_Knowledge_keepAhead : mj_M := (⟨"PassCourt$Knowledge", "keepAhead", "(I)V"⟩, prog_4_method_9_code, 3, none, 1, 1)
def mq_Knowledge_knowsResult : mj_M := (⟨"PassCourt$Knowledge", "knowsResult", "(LPassCourt$Routine;I)Z"⟩, prog_4_method_10_code, 6, (some .boolean), 2, 1)
def mq_Knowledge_resultOf : mj_M := (⟨"PassCourt$Knowledge", "resultOf", "(LPassCourt$Routine;I)J"⟩, prog_4_method_11_code, 5, (some .long), 2, 1)
def mq_Knowledge_arrive : mj_M := (⟨"PassCourt$Knowledge", "arrive", "(I)V"⟩, prog_4_method_12_code, 6, none, 1, 1)
def mq_Leads_init : mj_M := (⟨"PassCourt$Leads", "<init>", "()V"⟩, prog_5_method_1_code, 1, none, 0, 2)
def mq_Leads_study : mj_M := (⟨"PassCourt$Leads", "study", "(LPassCourt$Routine;)V"⟩, prog_5_method_2_code, 3, none, 1, 2)
def mq_Leads_follow : mj_M := (⟨"PassCourt$Leads", "follow", "(LPassCourt$Routine;I)V"⟩, prog_5_method_3_code, 6, none, 2, 2)
def mq_Leads_leadsOn : mj_M := (⟨"PassCourt$Leads", "leadsOn", "(LPassCourt$Routine;I)Z"⟩, prog_5_method_4_code, 2, (some .boolean), 2, 2)
def mq_Liveness_init : mj_M := (⟨"PassCourt$Liveness", "<init>", "()V"⟩, prog_6_method_1_code, 1, none, 0, 3)
def mq_Liveness_isLive : mj_M := (⟨"PassCourt$Liveness", "isLive", "(II)Z"⟩, prog_6_method_2_code, 3, (some .boolean), 2, 3)
def mq_Liveness_study : mj_M := (⟨"PassCourt$Liveness", "study", "(LPassCourt$Routine;)V"⟩, prog_6_method_3_code, 6, none, 1, 3)
def mq_Liveness_maskAhead : mj_M := (⟨"PassCourt$Liveness", "maskAhead", "(LPassCourt$Routine;I)I"⟩, prog_6_method_4_code, 5, (some .int), 2, 3)
def mq_Liveness_askedBy : mj_M := (⟨"PassCourt$Liveness", "askedBy", "(LPassCourt$Routine;I)I"⟩, prog_6_method_5_code, 3, (some .int), 2, 3)
def mq_Passes_init : mj_M := (⟨"PassCourt$Passes", "<init>", "(LPassCourt$Knowledge;LPassCourt$Liveness;)V"⟩, prog_7_method_1_code, 3, none, 2, 4)
def mq_Passes_study : mj_M := (⟨"PassCourt$Passes", "study", "(LPassCourt$Routine;I)V"⟩, prog_7_method_2_code, 3, none, 2, 4)
def mq_Passes_make : mj_M := (⟨"PassCourt$Passes", "make", "(LPassCourt$Routine;LPassCourt$Routine;I)V"⟩, prog_7_method_3_code, 4, none, 3, 4)
def mq_Passes_testify : mj_M := (⟨"PassCourt$Passes", "testify", "(LPassCourt$Routine;LPassCourt$Witness;I)V"⟩, prog_7_method_4_code, 4, none, 3, 4)
def mq_Passes_improve : mj_M := (⟨"PassCourt$Passes", "improve", "(LPassCourt$Routine;LPassCourt$Routine;)V"⟩, prog_7_method_5_code, 6, none, 2, 4)
def mq_Passes_fold : mj_M := (⟨"PassCourt$Passes", "fold", "(LPassCourt$Routine;LPassCourt$Routine;)V"⟩, prog_7_method_6_code, 4, none, 2, 4)
def mq_Passes_foldAct : mj_M := (⟨"PassCourt$Passes", "foldAct", "(LPassCourt$Routine;LPassCourt$Routine;I)V"⟩, prog_7_method_7_code, 8, none, 3, 4)
def mq_Passes_testifyFold : mj_M := (⟨"PassCourt$Passes", "testifyFold", "(LPassCourt$Routine;LPassCourt$Witness;)V"⟩, prog_7_method_8_code, 7, none, 2, 4)
def mq_Passes_drop : mj_M := (⟨"PassCourt$Passes", "drop", "(LPassCourt$Routine;LPassCourt$Routine;)V"⟩, prog_7_method_9_code, 4, none, 2, 4)
def mq_Passes_isDroppable : mj_M := (⟨"PassCourt$Passes", "isDroppable", "(I)Z"⟩, prog_7_method_10_code, 1, (some .boolean), 1, 4)
def mq_Passes_testifyDrop : mj_M := (⟨"PassCourt$Passes", "testifyDrop", "(LPassCourt$Routine;LPassCourt$Witness;)V"⟩, prog_7_method_11_code, 7, none, 2, 4)
def mq_Passes_thread : mj_M := (⟨"PassCourt$Passes", "thread", "(LPassCourt$Routine;LPassCourt$Routine;)V"⟩, prog_7_method_12_code, 4, none, 2, 4)
def mq_Passes_testifyThread : mj_M := (⟨"PassCourt$Passes", "testifyThread", "(LPassCourt$Routine;LPassCourt$Witness;)V"⟩, prog_7_method_13_code, 4, none, 2, 4)
def mq_Passes_countPasses : mj_M := (⟨"PassCourt$Passes", "countPasses", "(LPassCourt$Routine;)V"⟩, prog_7_method_14_code, 4, none, 1, 4)
def mq_Passes_packedPlace : mj_M := (⟨"PassCourt$Passes", "packedPlace", "(I)I"⟩, prog_7_method_15_code, 2, (some .int), 1, 4)
def mq_Passes_pack : mj_M := (⟨"PassCourt$Passes", "pack", "(LPassCourt$Routine;LPassCourt$Routine;)V"⟩, prog_7_method_16_code, 6, none, 2, 4)
def mq_Passes_testifyPack : mj_M := (⟨"PassCourt$Passes", "testifyPack", "(LPassCourt$Routine;LPassCourt$Witness;)V"⟩, prog_7_method_17_code, 5, none, 2, 4)
def mq_Passes_passesInRow : mj_M := (⟨"PassCourt$Passes", "passesInRow", "(LPassCourt$Routine;I)I"⟩, prog_7_method_18_code, 3, (some .int), 2, 4)
def mq_Routine_init : mj_M := (⟨"PassCourt$Routine", "<init>", "()V"⟩, prog_8_method_1_code, 1, none, 0, 6)
def mq_Routine_hasPlace : mj_M := (⟨"PassCourt$Routine", "hasPlace", "(I)Z"⟩, prog_8_method_2_code, 2, (some .boolean), 1, 6)
def mq_Routine_placeFor : mj_M := (⟨"PassCourt$Routine", "placeFor", "(I)I"⟩, prog_8_method_3_code, 2, (some .int), 1, 6)
def mq_Routine_target : mj_M := (⟨"PassCourt$Routine", "target", "(I)I"⟩, prog_8_method_4_code, 2, (some .int), 1, 6)
def mq_Routine_append : mj_M := (⟨"PassCourt$Routine", "append", "(IIII)I"⟩, prog_8_method_5_code, 6, (some .int), 4, 6)
def mq_Routine_put : mj_M := (⟨"PassCourt$Routine", "put", "(IIIII)V"⟩, prog_8_method_6_code, 6, none, 5, 6)
def mq_Routine_copyFrom : mj_M := (⟨"PassCourt$Routine", "copyFrom", "(LPassCourt$Routine;)V"⟩, prog_8_method_7_code, 3, none, 1, 6)
def mq_Routine_hasActsOf : mj_M := (⟨"PassCourt$Routine", "hasActsOf", "(LPassCourt$Routine;)Z"⟩, prog_8_method_8_code, 3, (some .boolean), 1, 6)
def mq_Runner_init : mj_M := (⟨"PassCourt$Runner", "<init>", "()V"⟩, prog_9_method_1_code, 1, none, 0, 5)
def mq_Runner_addToFeed : mj_M := (⟨"PassCourt$Runner", "addToFeed", "(J)Z"⟩, prog_9_method_2_code, 3, (some .boolean), 1, 5)
def mq_Runner_go : mj_M := (⟨"PassCourt$Runner", "go", "(LPassCourt$Routine;I)I"⟩, prog_9_method_3_code, 4, (some .int), 2, 5)
def mq_Runner_doAct : mj_M := (⟨"PassCourt$Runner", "doAct", "(LPassCourt$Routine;)I"⟩, prog_9_method_4_code, 5, (some .int), 1, 5)
def mq_Runner_readInto : mj_M := (⟨"PassCourt$Runner", "readInto", "(IJ)I"⟩, prog_9_method_5_code, 4, (some .int), 2, 5)
def mq_Runner_reckonInto : mj_M := (⟨"PassCourt$Runner", "reckonInto", "(IIJJ)I"⟩, prog_9_method_6_code, 7, (some .int), 4, 5)
def mq_Runner_giveOut : mj_M := (⟨"PassCourt$Runner", "giveOut", "(J)V"⟩, prog_9_method_7_code, 3, none, 1, 5)
def mq_Side_init : mj_M := (⟨"PassCourt$Side", "<init>", "(I)V"⟩, prog_10_method_1_code, 2, none, 1, 7)
def mq_Side_take : mj_M := (⟨"PassCourt$Side", "take", "(LPassCourt$Routine;)V"⟩, prog_10_method_2_code, 2, none, 1, 7)
def mq_Side_placeFor : mj_M := (⟨"PassCourt$Side", "placeFor", "(I)I"⟩, prog_10_method_3_code, 2, (some .int), 1, 7)
def mq_Side_stand : mj_M := (⟨"PassCourt$Side", "stand", "(ILPassCourt$Witness;I)V"⟩, prog_10_method_4_code, 6, none, 3, 7)
def mq_Side_isAtEnd : mj_M := (⟨"PassCourt$Side", "isAtEnd", "()Z"⟩, prog_10_method_5_code, 1, (some .boolean), 0, 7)
def mq_Side_kindHere : mj_M := (⟨"PassCourt$Side", "kindHere", "()I"⟩, prog_10_method_6_code, 1, (some .int), 0, 7)
def mq_Side_xHere : mj_M := (⟨"PassCourt$Side", "xHere", "()I"⟩, prog_10_method_7_code, 1, (some .int), 0, 7)
def mq_Side_yHere : mj_M := (⟨"PassCourt$Side", "yHere", "()I"⟩, prog_10_method_8_code, 1, (some .int), 0, 7)
def mq_Side_zHere : mj_M := (⟨"PassCourt$Side", "zHere", "()I"⟩, prog_10_method_9_code, 1, (some .int), 0, 7)
def mq_Side_hasNumber : mj_M := (⟨"PassCourt$Side", "hasNumber", "(I)Z"⟩, prog_10_method_10_code, 2, (some .boolean), 1, 7)
def mq_Side_isQuiet : mj_M := (⟨"PassCourt$Side", "isQuiet", "()Z"⟩, prog_10_method_11_code, 2, (some .boolean), 0, 7)
def mq_Side_stopsSurely : mj_M := (⟨"PassCourt$Side", "stopsSurely", "()Z"⟩, prog_10_method_12_code, 2, (some .boolean), 0, 7)
def mq_Side_doQuietAct : mj_M := (⟨"PassCourt$Side", "doQuietAct", "()V"⟩, prog_10_method_13_code, 4, none, 0, 7)
def mq_Side_targetHere : mj_M := (⟨"PassCourt$Side", "targetHere", "()I"⟩, prog_10_method_14_code, 1, (some .int), 0, 7)
def mq_Side_changeX : mj_M := (⟨"PassCourt$Side", "changeX", "()V"⟩, prog_10_method_15_code, 6, none, 0, 7)
def mq_Side_makeThing : mj_M := (⟨"PassCourt$Side", "makeThing", "(IIII)V"⟩, prog_10_method_16_code, 6, none, 4, 7)
def mq_Side_hasAsNumber : mj_M := (⟨"PassCourt$Side", "hasAsNumber", "(IJ)Z"⟩, prog_10_method_17_code, 4, (some .boolean), 2, 7)
def mq_Side_hasSame : mj_M := (⟨"PassCourt$Side", "hasSame", "(ILPassCourt$Side;I)Z"⟩, prog_10_method_18_code, 4, (some .boolean), 3, 7)
def mq_Witness_init : mj_M := (⟨"PassCourt$Witness", "<init>", "()V"⟩, prog_11_method_1_code, 1, none, 0, 8)
def mq_Witness_hasPair : mj_M := (⟨"PassCourt$Witness", "hasPair", "(I)Z"⟩, prog_11_method_2_code, 2, (some .boolean), 1, 8)
def mq_Witness_claimOn : mj_M := (⟨"PassCourt$Witness", "claimOn", "(II)I"⟩, prog_11_method_3_code, 3, (some .int), 2, 8)
def mq_Witness_numberOn : mj_M := (⟨"PassCourt$Witness", "numberOn", "(II)J"⟩, prog_11_method_4_code, 3, (some .long), 2, 8)
def mq_Witness_setClaim : mj_M := (⟨"PassCourt$Witness", "setClaim", "(IIIJ)V"⟩, prog_11_method_5_code, 6, none, 4, 8)
def mq_Witness_append : mj_M := (⟨"PassCourt$Witness", "append", "(IIII)I"⟩, prog_11_method_6_code, 7, (some .int), 4, 8)
def mq_Witness_appendAllSame : mj_M := (⟨"PassCourt$Witness", "appendAllSame", "(IIII)V"⟩, prog_11_method_7_code, 7, none, 4, 8)
def mq_Law_law : mj_M := (⟨"PassCourtLaw", "law", "([I)Z"⟩, code, 4, (some .boolean), 1, 12)
def mj_okM (q : mj_M) : Prop := Cond.code (mj_N q) (mj_B q) (mj_L q) (mj_R q) ∈ lw_tbl ∧ Cond.initialized (mj_N q).cls ∈ lw_tbl ∧ plainName (mj_N q).cls = true ∧ ((mj_N q).cls ≠ "java/lang/invoke/MethodHandle" ∧ (mj_N q).cls ≠ "java/lang/invoke/VarHandle") ∧ (parseMethodDescriptor (mj_N q).desc).map (fun d => d.parameters.length) = some (mj_A q) ∧ mj_cn (mj_C q) = (mj_N q).cls ∧ mj_L q ≤ 15 ∧ mj_C q < 13
