/-! the constructors -/
def M0 (W : Nat × (Nat → Int32)) : mm := (fun i k => if i = 239 ∧ k = 0 then nI 3 else if i = 247 ∧ k = 0 then nI 4 else if i = 238 ∧ k = 4 then -1 else if i = 256 ∧ k = 18 then -1 else nI 0, fun _ _ => 0, fun i _ => if i = 239 then 240 else 248, W)
def Tg (W : Nat × (Nat → Int32)) (i : Nat) : mj_X := hs W i (rI (M0 W) i) (rL (M0 W) i) (rR (M0 W) i)
def isRy (t : FieldType) : Bool := match t with
  | .object _ => true
  | .array _ => true
  | _ => false
/-- an object at n and what is made for it -/
def bd (T f : Nat → mj_X) (n : Nat) (g : Nat → mj_X) (x : mj_X) (c : Nat) : Prop := (∀ i, i < n → g i = f i) ∧ g n = x ∧ (∀ i, n < i → i ≤ n + c → g i = T i) ∧ ∀ i, n + c < i → g i = f i
section C9L
variable {d : Nat} {lim : Nat × Nat} {Q : mj_Q} {T f g g2 : Nat → mj_X} {n c m s N ci k r c2 ci2 : Nat} {x y : mj_X} {fs : List Value} {F : mj_H → Prop} {W : Nat × (Nat → Int32)} {v : Value}
theorem ok_ry {t : FieldType} (h : isRy t = true) {v : Nat} : mj_ok t (.ref v) = true := by
  cases t with
  | object n => simp [mj_ok, narrow, fits]
  | array a => simp [mj_ok, narrow, fits]
  | _ => cases h
theorem va_1 {i : Nat} : va_up g i x i = x := by simp [va_up]
theorem va_2 {i j : Nat} (h : j ≠ i) : va_up g i x j = g j := by simp [va_up, h]
theorem bd_0 (h : f n = x) : bd T f n f x 0 := ⟨fun _ _ => rfl, h, fun i h1 h2 => by omega, fun _ _ => rfl⟩
theorem bd_ar (hS : bd T f n g x c) (hx : T (n + c + 1) = y) : bd T f n (va_up g (n + c + 1) y) x (c + 1) := by
  obtain ⟨a1, a2, a3, a4⟩ := hS
  refine ⟨fun i hi => (va_2 (by omega)).trans (a1 i hi), (va_2 (by omega)).trans a2, fun i h1 h2 => ?_, fun i hi => (va_2 (by omega)).trans (a4 i (by omega))⟩
  by_cases e : i = n + c + 1
  · subst e; rw [va_1, hx]
  · exact (va_2 e).trans (a3 i h1 (by omega))
theorem bd_pf (hS : bd T f n g x c) : bd T f n (va_up g n y) y c := by
  obtain ⟨a1, a2, a3, a4⟩ := hS
  exact ⟨fun i hi => (va_2 (by omega)).trans (a1 i hi), va_1, fun i h1 h2 => (va_2 (by omega)).trans (a3 i h1 h2), fun i hi => (va_2 (by omega)).trans (a4 i hi)⟩
theorem pf_go (hS : bd T f n g (.inr (ci, fs)) c) (hk : k < fs.length) (hok : mj_ok (mj_ty ci k) v = true) (hF : ∀ g', bd T f n g' (.inr (ci, fs.set k v)) c → F (m, s, g')) : mj_op (mj_pf (m, s, g) n ci k v) F := by
  have e : mj_pf (m, s, g) n ci k v = some (m, s, va_up g n (.inr (ci, fs.set k v))) := by
    unfold mj_pf
    show (match g n with
      | .inr (c, fs) => if c = ci ∧ k < fs.length ∧ mj_ok (mj_ty ci k) v = true then some (mj_up (m, s, g) n (.inr (c, fs.set k v))) else none
      | .inl _ => none) = _
    rw [hS.2.1]
    exact if_pos ⟨rfl, hk, hok⟩
  rw [e]
  exact hF _ (bd_pf hS)
theorem ad_go (h1 : m + 1 ≤ lim.1) (h2 : s + N ≤ lim.2) (hF : F (m + 1, s + N, va_up g (m + 1) x)) : mj_op (mj_ad (m, s, g) lim N x) F := by
  have e : mj_ad (m, s, g) lim N x = some (m + 1, s + N, va_up g (m + 1) x) := if_pos ⟨h1, h2⟩
  rw [e]
  exact hF
theorem arr_go (hS : bd T f n g (.inr (ci, fs)) c) (hm : m = n + c) (hx : T (n + c + 1) = x) (h1 : n + c + 1 ≤ lim.1) (h2 : s + N ≤ lim.2) (hk : k < fs.length) (hok : isRy (mj_ty ci k) = true) (hr : r = n + c + 1) (hF : ∀ g', bd T f n g' (.inr (ci, fs.set k (.ref (n + c + 1)))) (c + 1) → F (n + (c + 1), s + N, g')) : mj_op (mj_ad (m, s, g) lim N x) (fun G' => mj_op (mj_pf G' n ci k (.ref r)) F) := by
  subst hm hr
  refine ad_go h1 h2 ?_
  exact pf_go (bd_ar hS hx) hk (ok_ry hok) hF
/-- a new object -/
theorem new_go (hS : bd T f n g x c) (hm : m = n + c) (h1 : n + c + 1 ≤ lim.1) (h2 : s + N ≤ lim.2) (hF : ∀ g', g' (n + c + 1) = y → (∀ i, i ≠ n + c + 1 → g' i = g i) → F (n + c + 1, s + N, g')) : mj_op (mj_ad (m, s, g) lim N y) F := by
  subst hm
  exact ad_go h1 h2 (hF _ va_1 (fun i hi => va_2 hi))
theorem bd_new {g' g2 : Nat → mj_X} (hS : bd T f n g x c) (hg : ∀ i, i ≠ n + c + 1 → g' i = g i) (h2 : bd T g' (n + c + 1) g2 y c2) (hy : T (n + c + 1) = y) : bd T f n g2 x (c + 1 + c2) := by
  obtain ⟨a1, a2, a3, a4⟩ := hS
  obtain ⟨b1, b2, b3, b4⟩ := h2
  refine ⟨fun i hi => (b1 i (by omega)).trans ((hg i (by omega)).trans (a1 i hi)), (b1 n (by omega)).trans ((hg n (by omega)).trans a2), fun i h1 h2 => ?_, fun i hi => (b4 i (by omega)).trans ((hg i (by omega)).trans (a4 i (by omega)))⟩
  by_cases e1 : i ≤ n + c
  · exact (b1 i (by omega)).trans ((hg i (by omega)).trans (a3 i h1 e1))
  · by_cases e2 : i = n + c + 1
    · subst e2; rw [b2, hy]
    · exact b3 i (by omega) (by omega)
theorem M0_0 {i : Nat} (h : i ≠ 239 ∧ i ≠ 247 ∧ i ≠ 238 ∧ i ≠ 256) : rI (M0 W) i = fun _ => 0 := by
  funext k
  show (if i = 239 ∧ k = 0 then nI 3 else if i = 247 ∧ k = 0 then nI 4 else if i = 238 ∧ k = 4 then -1 else if i = 256 ∧ k = 18 then -1 else nI 0) = 0
  rw [if_neg (fun z => h.1 z.1), if_neg (fun z => h.2.1 z.1), if_neg (fun z => h.2.2.1 z.1), if_neg (fun z => h.2.2.2 z.1), nI_0]
theorem Tg_ra (h : isRt n) {j : Nat} (hj : 1 ≤ j ∧ j ≤ 4) : Tg W (n + j) = .inl (.int, 50, .inl (fun _ => 0)) := by
  unfold Tg
  rw [hs_ra h hj, M0_0]
  rcases h with h | h | h | h | h <;> omega
theorem Tg_rt (h : isRt n) : Tg W n = .inr (6, [.ref (n + 1), .ref (n + 2), .ref (n + 3), .ref (n + 4), .int (nI 0)]) := by
  unfold Tg
  rw [hs_rt h, M0_0 (by rcases h with h | h | h | h | h <;> omega), nI_0]
theorem Tg_204 : Tg W 204 = .inl (.boolean, 51, .inl (fun _ => 0)) := rfl
theorem Tg_205 : Tg W 205 = .inl (.boolean, 408, .inl (fun _ => 0)) := rfl
theorem Tg_206 : Tg W 206 = .inl (.long, 408, .inr (.inl (fun _ => 0))) := rfl
theorem Tg_207 : Tg W 207 = .inl (.boolean, 51, .inl (fun _ => 0)) := rfl
theorem Tg_208 : Tg W 208 = .inl (.boolean, 8, .inl (fun _ => 0)) := rfl
theorem Tg_209 : Tg W 209 = .inl (.long, 8, .inr (.inl (fun _ => 0))) := rfl
theorem Tg_211 : Tg W 211 = .inl (.int, 51, .inl (fun _ => 0)) := rfl
theorem Tg_214 : Tg W 214 = .inl (.int, 51, .inl (fun _ => 0)) := rfl
theorem Tg_215 : Tg W 215 = .inl (.int, 51, .inl (fun _ => 0)) := rfl
theorem Tg_216 : Tg W 216 = .inl (.int, 51, .inl (fun _ => 0)) := rfl
theorem Tg_228 : Tg W 228 = .inl (.long, 16, .inr (.inl (fun _ => 0))) := rfl
theorem Tg_229 : Tg W 229 = .inl (.long, 8, .inr (.inl (fun _ => 0))) := rfl
theorem Tg_230 : Tg W 230 = .inl (.long, 200, .inr (.inl (fun _ => 0))) := rfl
theorem Tg_232 : Tg W 232 = .inl (.int, 200, .inl (fun _ => 0)) := rfl
theorem Tg_233 : Tg W 233 = .inl (.int, 200, .inl (fun _ => 0)) := rfl
theorem Tg_234 : Tg W 234 = .inl (.int, 200, .inl (fun _ => 0)) := rfl
theorem Tg_235 : Tg W 235 = .inl (.int, 200, .inl (fun _ => 0)) := rfl
theorem Tg_236 : Tg W 236 = .inl (.int, 1600, .inl (fun _ => 0)) := rfl
theorem Tg_237 : Tg W 237 = .inl (.long, 1600, .inr (.inl (fun _ => 0))) := rfl
theorem Tg_245 : Tg W 245 = .inl (.int, 8, .inl (fun _ => 0)) := rfl
theorem Tg_246 : Tg W 246 = .inl (.long, 8, .inr (.inl (fun _ => 0))) := rfl
theorem Tg_253 : Tg W 253 = .inl (.int, 8, .inl (fun _ => 0)) := rfl
theorem Tg_254 : Tg W 254 = .inl (.long, 8, .inr (.inl (fun _ => 0))) := rfl
theorem Tg_255 : Tg W 255 = .inl (.int, 2601, .inl (fun _ => 0)) := rfl
theorem Tg_257 : Tg W 257 = .inl (.int, 44, .inl (fun _ => 0)) := rfl
theorem Tg_258 : Tg W 258 = .inl (.int, 8800, .inl (fun _ => 0)) := rfl
theorem Tg_259 : Tg W 259 = .inl (.long, 16, .inr (.inl (fun _ => 0))) := rfl
theorem Tg_260 : Tg W 260 = .inl (.long, 8, .inr (.inl (fun _ => 0))) := rfl
theorem Tg_261 : Tg W 261 = .inl (.long, 200, .inr (.inl (fun _ => 0))) := rfl
theorem Tg_262 : Tg W 262 = .inl (.int, 200, .inl (fun _ => 0)) := rfl
theorem Tg_263 : Tg W 263 = .inl (.int, 200, .inl (fun _ => 0)) := rfl
theorem Tg_264 : Tg W 264 = .inl (.int, 200, .inl (fun _ => 0)) := rfl
theorem Tg_265 : Tg W 265 = .inl (.int, 200, .inl (fun _ => 0)) := rfl
theorem Tg_266 : Tg W 266 = .inl (.int, 1600, .inl (fun _ => 0)) := rfl
theorem Tg_267 : Tg W 267 = .inl (.long, 1600, .inr (.inl (fun _ => 0))) := rfl
theorem Tg_268 : Tg W 268 = .inl (.boolean, 51, .inl (fun _ => 0)) := rfl
theorem Tg_269 : Tg W 269 = .inl (.int, 408, .inl (fun _ => 0)) := rfl
theorem Tg_270 : Tg W 270 = .inl (.long, 408, .inr (.inl (fun _ => 0))) := rfl
theorem Tg_271 : Tg W 271 = .inl (.boolean, 408, .inl (fun _ => 0)) := rfl
theorem Tg_272 : Tg W 272 = .inl (.int, 2, .inl (fun _ => 0)) := rfl
theorem Tg_273 : Tg W 273 = .inl (.int, 2, .inl (fun _ => 0)) := rfl
theorem Tg_274 : Tg W 274 = .inl (.int, 2, .inl (fun _ => 0)) := rfl
theorem Tg_275 : Tg W 275 = .inl (.int, 2, .inl (fun _ => 0)) := rfl
theorem Tg_276 : Tg W 276 = .inl (.int, 2, .inl (fun _ => 0)) := rfl
theorem Tg_277 : Tg W 277 = .inl (.long, 2, .inr (.inl (fun _ => 0))) := rfl
theorem k_Routine (hn : isRt n) (hf : f n = .inr (6, mj_fs 6)) (h1 : n + 4 ≤ lim.1) (h2 : s + 200 ≤ lim.2) (hend : ∀ g s2, s2 = s + 200 → bd (Tg W) f n g (Tg W n) 4 → Q none (n + 4, s2, g)) : mj_V d lim mq_Routine_init 0 [.ref n] [] (n, s, f) Q := by
  rw [Tg_rt hn] at hend
  have hS := bd_0 (T := Tg W) hf
  simp (decide := true) (disch := omega) only [zi_Routine_init_0, zi_Routine_init_1, zi_Routine_init_4, zi_Routine_init_5, zi_Routine_init_7, zi_Routine_init_9, zi_Routine_init_12, zi_Routine_init_13, zi_Routine_init_15, zi_Routine_init_17, zi_Routine_init_20, zi_Routine_init_21, zi_Routine_init_23, zi_Routine_init_25, zi_Routine_init_28, zi_Routine_init_29, zi_Routine_init_31, zi_Routine_init_33, zi_Routine_init_36, zi_Routine_init_37, zi_Routine_init_38, zi_Routine_init_41, ↓reduceIte, mj_op_s, Option.toList_some, Option.toList_none, List.cons_append, List.nil_append, hp_1, hp_2, true_and, and_true, zb_0, zb_1, zb_b, va_rf]
  refine arr_go hS rfl (Tg_ra hn (j := 1) (by omega)) (by omega) (by omega) (Nat.le_of_ble_eq_true rfl) rfl rfl (fun g hS => ?_)
  refine arr_go hS rfl (Tg_ra hn (j := 2) (by omega)) (by omega) (by omega) (Nat.le_of_ble_eq_true rfl) rfl rfl (fun g hS => ?_)
  refine arr_go hS rfl (Tg_ra hn (j := 3) (by omega)) (by omega) (by omega) (Nat.le_of_ble_eq_true rfl) rfl rfl (fun g hS => ?_)
  refine arr_go hS rfl (Tg_ra hn (j := 4) (by omega)) (by omega) (by omega) (Nat.le_of_ble_eq_true rfl) rfl rfl (fun g hS => ?_)
  refine pf_go hS (Nat.le_of_ble_eq_true rfl) rfl (fun g hS => ?_)
  exact hend g _ (by omega) hS
theorem k_Knowledge (hf : f 203 = .inr (1, mj_fs 1)) (h1 : 209 ≤ lim.1) (h2 : s + 934 ≤ lim.2) (hend : ∀ g s2, s2 = s + 934 → bd (Tg W) f 203 g (Tg W 203) 6 → Q none (209, s2, g)) : mj_V d lim mq_Knowledge_init 0 [.ref 203] [] (203, s, f) Q := by
  have hS := bd_0 (T := Tg W) hf
  simp (decide := true) (disch := omega) only [zi_Knowledge_init_0, zi_Knowledge_init_1, zi_Knowledge_init_4, zi_Knowledge_init_5, zi_Knowledge_init_7, zi_Knowledge_init_9, zi_Knowledge_init_12, zi_Knowledge_init_13, zi_Knowledge_init_16, zi_Knowledge_init_18, zi_Knowledge_init_21, zi_Knowledge_init_22, zi_Knowledge_init_25, zi_Knowledge_init_27, zi_Knowledge_init_30, zi_Knowledge_init_31, zi_Knowledge_init_33, zi_Knowledge_init_35, zi_Knowledge_init_38, zi_Knowledge_init_39, zi_Knowledge_init_40, zi_Knowledge_init_43, zi_Knowledge_init_44, zi_Knowledge_init_46, zi_Knowledge_init_48, zi_Knowledge_init_51, zi_Knowledge_init_52, zi_Knowledge_init_54, zi_Knowledge_init_56, zi_Knowledge_init_59, ↓reduceIte, mj_op_s, Option.toList_some, Option.toList_none, List.cons_append, List.nil_append, hp_1, hp_2, true_and, and_true, zb_0, zb_1, zb_b, va_rf]
  refine arr_go (n := 203) hS rfl Tg_204 (by omega) (by omega) (Nat.le_of_ble_eq_true rfl) rfl rfl (fun g hS => ?_)
  refine arr_go (n := 203) hS rfl Tg_205 (by omega) (by omega) (Nat.le_of_ble_eq_true rfl) rfl rfl (fun g hS => ?_)
  refine arr_go (n := 203) hS rfl Tg_206 (by omega) (by omega) (Nat.le_of_ble_eq_true rfl) rfl rfl (fun g hS => ?_)
  refine arr_go (n := 203) hS rfl Tg_207 (by omega) (by omega) (Nat.le_of_ble_eq_true rfl) rfl rfl (fun g hS => ?_)
  refine pf_go (n := 203) hS (Nat.le_of_ble_eq_true rfl) rfl (fun g hS => ?_)
  refine arr_go (n := 203) hS rfl Tg_208 (by omega) (by omega) (Nat.le_of_ble_eq_true rfl) rfl rfl (fun g hS => ?_)
  refine arr_go (n := 203) hS rfl Tg_209 (by omega) (by omega) (Nat.le_of_ble_eq_true rfl) rfl rfl (fun g hS => ?_)
  exact hend g _ (by omega) hS
theorem k_Liveness (hf : f 210 = .inr (3, mj_fs 3)) (h1 : 211 ≤ lim.1) (h2 : s + 51 ≤ lim.2) (hend : ∀ g s2, s2 = s + 51 → bd (Tg W) f 210 g (Tg W 210) 1 → Q none (211, s2, g)) : mj_V d lim mq_Liveness_init 0 [.ref 210] [] (210, s, f) Q := by
  have hS := bd_0 (T := Tg W) hf
  simp (decide := true) (disch := omega) only [zi_Liveness_init_0, zi_Liveness_init_1, zi_Liveness_init_4, zi_Liveness_init_5, zi_Liveness_init_7, zi_Liveness_init_9, zi_Liveness_init_12, ↓reduceIte, mj_op_s, Option.toList_some, Option.toList_none, List.cons_append, List.nil_append, hp_1, hp_2, true_and, and_true, zb_0, zb_1, zb_b, va_rf]
  refine arr_go (n := 210) hS rfl Tg_211 (by omega) (by omega) (Nat.le_of_ble_eq_true rfl) rfl rfl (fun g hS => ?_)
  exact hend g _ (by omega) hS
theorem k_Leads (hf : f 213 = .inr (2, mj_fs 2)) (h1 : 215 ≤ lim.1) (h2 : s + 102 ≤ lim.2) (hend : ∀ g s2, s2 = s + 102 → bd (Tg W) f 213 g (Tg W 213) 2 → Q none (215, s2, g)) : mj_V d lim mq_Leads_init 0 [.ref 213] [] (213, s, f) Q := by
  have hS := bd_0 (T := Tg W) hf
  simp (decide := true) (disch := omega) only [zi_Leads_init_0, zi_Leads_init_1, zi_Leads_init_4, zi_Leads_init_5, zi_Leads_init_7, zi_Leads_init_9, zi_Leads_init_12, zi_Leads_init_13, zi_Leads_init_15, zi_Leads_init_17, zi_Leads_init_20, ↓reduceIte, mj_op_s, Option.toList_some, Option.toList_none, List.cons_append, List.nil_append, hp_1, hp_2, true_and, and_true, zb_0, zb_1, zb_b, va_rf]
  refine arr_go (n := 213) hS rfl Tg_214 (by omega) (by omega) (Nat.le_of_ble_eq_true rfl) rfl rfl (fun g hS => ?_)
  refine arr_go (n := 213) hS rfl Tg_215 (by omega) (by omega) (Nat.le_of_ble_eq_true rfl) rfl rfl (fun g hS => ?_)
  exact hend g _ (by omega) hS
theorem k_Runner (hf : f 227 = .inr (5, mj_fs 5)) (h1 : 230 ≤ lim.1) (h2 : s + 224 ≤ lim.2) (hend : ∀ g s2, s2 = s + 224 → bd (Tg W) f 227 g (Tg W 227) 3 → Q none (230, s2, g)) : mj_V d lim mq_Runner_init 0 [.ref 227] [] (227, s, f) Q := by
  have hS := bd_0 (T := Tg W) hf
  simp (decide := true) (disch := omega) only [zi_Runner_init_0, zi_Runner_init_1, zi_Runner_init_4, zi_Runner_init_5, zi_Runner_init_7, zi_Runner_init_9, zi_Runner_init_12, zi_Runner_init_13, zi_Runner_init_14, zi_Runner_init_17, zi_Runner_init_18, zi_Runner_init_20, zi_Runner_init_22, zi_Runner_init_25, zi_Runner_init_26, zi_Runner_init_29, zi_Runner_init_31, zi_Runner_init_34, zi_Runner_init_35, zi_Runner_init_36, zi_Runner_init_39, zi_Runner_init_40, zi_Runner_init_41, zi_Runner_init_44, zi_Runner_init_45, zi_Runner_init_46, zi_Runner_init_49, ↓reduceIte, mj_op_s, Option.toList_some, Option.toList_none, List.cons_append, List.nil_append, hp_1, hp_2, true_and, and_true, zb_0, zb_1, zb_b, va_rf]
  refine arr_go (n := 227) hS rfl Tg_228 (by omega) (by omega) (Nat.le_of_ble_eq_true rfl) rfl rfl (fun g hS => ?_)
  refine pf_go (n := 227) hS (Nat.le_of_ble_eq_true rfl) rfl (fun g hS => ?_)
  refine arr_go (n := 227) hS rfl Tg_229 (by omega) (by omega) (Nat.le_of_ble_eq_true rfl) rfl rfl (fun g hS => ?_)
  refine arr_go (n := 227) hS rfl Tg_230 (by omega) (by omega) (Nat.le_of_ble_eq_true rfl) rfl rfl (fun g hS => ?_)
  refine pf_go (n := 227) hS (Nat.le_of_ble_eq_true rfl) rfl (fun g hS => ?_)
  refine pf_go (n := 227) hS (Nat.le_of_ble_eq_true rfl) rfl (fun g hS => ?_)
  refine pf_go (n := 227) hS (Nat.le_of_ble_eq_true rfl) rfl (fun g hS => ?_)
  exact hend g _ (by omega) hS
theorem k_Witness (hf : f 231 = .inr (8, mj_fs 8)) (h1 : 237 ≤ lim.1) (h2 : s + 4000 ≤ lim.2) (hend : ∀ g s2, s2 = s + 4000 → bd (Tg W) f 231 g (Tg W 231) 6 → Q none (237, s2, g)) : mj_V d lim mq_Witness_init 0 [.ref 231] [] (231, s, f) Q := by
  have hS := bd_0 (T := Tg W) hf
  simp (decide := true) (disch := omega) only [zi_Witness_init_0, zi_Witness_init_1, zi_Witness_init_4, zi_Witness_init_5, zi_Witness_init_8, zi_Witness_init_10, zi_Witness_init_13, zi_Witness_init_14, zi_Witness_init_17, zi_Witness_init_19, zi_Witness_init_22, zi_Witness_init_23, zi_Witness_init_26, zi_Witness_init_28, zi_Witness_init_31, zi_Witness_init_32, zi_Witness_init_35, zi_Witness_init_37, zi_Witness_init_40, zi_Witness_init_41, zi_Witness_init_44, zi_Witness_init_46, zi_Witness_init_49, zi_Witness_init_50, zi_Witness_init_53, zi_Witness_init_55, zi_Witness_init_58, zi_Witness_init_59, zi_Witness_init_60, zi_Witness_init_63, ↓reduceIte, mj_op_s, Option.toList_some, Option.toList_none, List.cons_append, List.nil_append, hp_1, hp_2, true_and, and_true, zb_0, zb_1, zb_b, va_rf]
  refine arr_go (n := 231) hS rfl Tg_232 (by omega) (by omega) (Nat.le_of_ble_eq_true rfl) rfl rfl (fun g hS => ?_)
  refine arr_go (n := 231) hS rfl Tg_233 (by omega) (by omega) (Nat.le_of_ble_eq_true rfl) rfl rfl (fun g hS => ?_)
  refine arr_go (n := 231) hS rfl Tg_234 (by omega) (by omega) (Nat.le_of_ble_eq_true rfl) rfl rfl (fun g hS => ?_)
  refine arr_go (n := 231) hS rfl Tg_235 (by omega) (by omega) (Nat.le_of_ble_eq_true rfl) rfl rfl (fun g hS => ?_)
  refine arr_go (n := 231) hS rfl Tg_236 (by omega) (by omega) (Nat.le_of_ble_eq_true rfl) rfl rfl (fun g hS => ?_)
  refine arr_go (n := 231) hS rfl Tg_237 (by omega) (by omega) (Nat.le_of_ble_eq_true rfl) rfl rfl (fun g hS => ?_)
  refine pf_go (n := 231) hS (Nat.le_of_ble_eq_true rfl) rfl (fun g hS => ?_)
  exact hend g _ (by omega) hS
set_option maxRecDepth 20000 in
theorem k_Model (hf : f 256 = .inr (10, mj_fs 10)) (h1 : 277 ≤ lim.1) (h2 : s + 14355 ≤ lim.2) (hend : ∀ g s2, s2 = s + 14355 → bd (Tg W) f 256 g (Tg W 256) 21 → Q none (277, s2, g)) : mj_V d lim mq_Model_init 0 [.ref 256] [] (256, s, f) Q := by
  have hS := bd_0 (T := Tg W) hf
  simp (decide := true) (disch := omega) only [zi_Model_init_0, zi_Model_init_1, zi_Model_init_4, zi_Model_init_5, zi_Model_init_7, zi_Model_init_9, zi_Model_init_12, zi_Model_init_13, zi_Model_init_16, zi_Model_init_18, zi_Model_init_21, zi_Model_init_22, zi_Model_init_24, zi_Model_init_26, zi_Model_init_29, zi_Model_init_30, zi_Model_init_32, zi_Model_init_34, zi_Model_init_37, zi_Model_init_38, zi_Model_init_41, zi_Model_init_43, zi_Model_init_46, zi_Model_init_47, zi_Model_init_50, zi_Model_init_52, zi_Model_init_55, zi_Model_init_56, zi_Model_init_59, zi_Model_init_61, zi_Model_init_64, zi_Model_init_65, zi_Model_init_68, zi_Model_init_70, zi_Model_init_73, zi_Model_init_74, zi_Model_init_77, zi_Model_init_79, zi_Model_init_82, zi_Model_init_83, zi_Model_init_86, zi_Model_init_88, zi_Model_init_91, zi_Model_init_92, zi_Model_init_95, zi_Model_init_97, zi_Model_init_100, zi_Model_init_101, zi_Model_init_102, zi_Model_init_105, zi_Model_init_106, zi_Model_init_108, zi_Model_init_110, zi_Model_init_113, zi_Model_init_114, zi_Model_init_117, zi_Model_init_119, zi_Model_init_122, zi_Model_init_123, zi_Model_init_126, zi_Model_init_128, zi_Model_init_131, zi_Model_init_132, zi_Model_init_135, zi_Model_init_137, zi_Model_init_140, zi_Model_init_141, zi_Model_init_142, zi_Model_init_144, zi_Model_init_147, zi_Model_init_148, zi_Model_init_149, zi_Model_init_151, zi_Model_init_154, zi_Model_init_155, zi_Model_init_156, zi_Model_init_158, zi_Model_init_161, zi_Model_init_162, zi_Model_init_163, zi_Model_init_165, zi_Model_init_168, zi_Model_init_169, zi_Model_init_170, zi_Model_init_172, zi_Model_init_175, zi_Model_init_176, zi_Model_init_177, zi_Model_init_179, zi_Model_init_182, ↓reduceIte, mj_op_s, Option.toList_some, Option.toList_none, List.cons_append, List.nil_append, hp_1, hp_2, true_and, and_true, zb_0, zb_1, zb_b, va_rf]
  refine arr_go (n := 256) hS rfl Tg_257 (by omega) (by omega) (Nat.le_of_ble_eq_true rfl) rfl rfl (fun g hS => ?_)
  refine arr_go (n := 256) hS rfl Tg_258 (by omega) (by omega) (Nat.le_of_ble_eq_true rfl) rfl rfl (fun g hS => ?_)
  refine arr_go (n := 256) hS rfl Tg_259 (by omega) (by omega) (Nat.le_of_ble_eq_true rfl) rfl rfl (fun g hS => ?_)
  refine arr_go (n := 256) hS rfl Tg_260 (by omega) (by omega) (Nat.le_of_ble_eq_true rfl) rfl rfl (fun g hS => ?_)
  refine arr_go (n := 256) hS rfl Tg_261 (by omega) (by omega) (Nat.le_of_ble_eq_true rfl) rfl rfl (fun g hS => ?_)
  refine arr_go (n := 256) hS rfl Tg_262 (by omega) (by omega) (Nat.le_of_ble_eq_true rfl) rfl rfl (fun g hS => ?_)
  refine arr_go (n := 256) hS rfl Tg_263 (by omega) (by omega) (Nat.le_of_ble_eq_true rfl) rfl rfl (fun g hS => ?_)
  refine arr_go (n := 256) hS rfl Tg_264 (by omega) (by omega) (Nat.le_of_ble_eq_true rfl) rfl rfl (fun g hS => ?_)
  refine arr_go (n := 256) hS rfl Tg_265 (by omega) (by omega) (Nat.le_of_ble_eq_true rfl) rfl rfl (fun g hS => ?_)
  refine arr_go (n := 256) hS rfl Tg_266 (by omega) (by omega) (Nat.le_of_ble_eq_true rfl) rfl rfl (fun g hS => ?_)
  refine arr_go (n := 256) hS rfl Tg_267 (by omega) (by omega) (Nat.le_of_ble_eq_true rfl) rfl rfl (fun g hS => ?_)
  refine pf_go (n := 256) hS (Nat.le_of_ble_eq_true rfl) rfl (fun g hS => ?_)
  refine arr_go (n := 256) hS rfl Tg_268 (by omega) (by omega) (Nat.le_of_ble_eq_true rfl) rfl rfl (fun g hS => ?_)
  refine arr_go (n := 256) hS rfl Tg_269 (by omega) (by omega) (Nat.le_of_ble_eq_true rfl) rfl rfl (fun g hS => ?_)
  refine arr_go (n := 256) hS rfl Tg_270 (by omega) (by omega) (Nat.le_of_ble_eq_true rfl) rfl rfl (fun g hS => ?_)
  refine arr_go (n := 256) hS rfl Tg_271 (by omega) (by omega) (Nat.le_of_ble_eq_true rfl) rfl rfl (fun g hS => ?_)
  refine arr_go (n := 256) hS rfl Tg_272 (by omega) (by omega) (Nat.le_of_ble_eq_true rfl) rfl rfl (fun g hS => ?_)
  refine arr_go (n := 256) hS rfl Tg_273 (by omega) (by omega) (Nat.le_of_ble_eq_true rfl) rfl rfl (fun g hS => ?_)
  refine arr_go (n := 256) hS rfl Tg_274 (by omega) (by omega) (Nat.le_of_ble_eq_true rfl) rfl rfl (fun g hS => ?_)
  refine arr_go (n := 256) hS rfl Tg_275 (by omega) (by omega) (Nat.le_of_ble_eq_true rfl) rfl rfl (fun g hS => ?_)
  refine arr_go (n := 256) hS rfl Tg_276 (by omega) (by omega) (Nat.le_of_ble_eq_true rfl) rfl rfl (fun g hS => ?_)
  refine arr_go (n := 256) hS rfl Tg_277 (by omega) (by omega) (Nat.le_of_ble_eq_true rfl) rfl rfl (fun g hS => ?_)
  exact hend g _ (by omega) hS
end C9L
