/-! the two sides: rows for both -/
abbrev isSd (s : Nat) : Prop := s = 239 ∨ s = 247
section C96
variable {M : mm} {s k : Nat}
theorem io_sd  (h : isSd s) : mj_io (hp M) s 7 = true := by
  rcases h with rfl | rfl
  · exact io_239
  · exact io_247
theorem ogf_sd_0 {f : Value → Prop} (h : isSd s) : mj_op (mj_gf (hp M) s 7 0) f = f (.int (rI M s 0)) := by
  rcases h with rfl | rfl
  · exact ogf_239_0
  · exact ogf_247_0
theorem ogf_sd_1 {f : Value → Prop} (h : isSd s) : mj_op (mj_gf (hp M) s 7 1) f = f (.ref (rR M s 1)) := by
  rcases h with rfl | rfl
  · exact ogf_239_1
  · exact ogf_247_1
theorem ogf_sd_2 {f : Value → Prop} (h : isSd s) : mj_op (mj_gf (hp M) s 7 2) f = f (.int (rI M s 2)) := by
  rcases h with rfl | rfl
  · exact ogf_239_2
  · exact ogf_247_2
theorem ogf_sd_3 {f : Value → Prop} (h : isSd s) : mj_op (mj_gf (hp M) s 7 3) f = f (.ref (s + 6)) := by
  rcases h with rfl | rfl
  · exact ogf_239_3
  · exact ogf_247_3
theorem ogf_sd_4 {f : Value → Prop} (h : isSd s) : mj_op (mj_gf (hp M) s 7 4) f = f (.ref (s + 7)) := by
  rcases h with rfl | rfl
  · exact ogf_239_4
  · exact ogf_247_4
theorem ogf_sd_5 {f : Value → Prop} (h : isSd s) : mj_op (mj_gf (hp M) s 7 5) f = f (.int (rI M s 5)) := by
  rcases h with rfl | rfl
  · exact ogf_239_5
  · exact ogf_247_5
theorem ogf_sd_6 {f : Value → Prop} (h : isSd s) : mj_op (mj_gf (hp M) s 7 6) f = f (.int (rI M s 6)) := by
  rcases h with rfl | rfl
  · exact ogf_239_6
  · exact ogf_247_6
theorem ogf_sd_7 {f : Value → Prop} (h : isSd s) : mj_op (mj_gf (hp M) s 7 7) f = f (.long (rL M s 7)) := by
  rcases h with rfl | rfl
  · exact ogf_239_7
  · exact ogf_247_7
theorem ogf_sd_8 {f : Value → Prop} (h : isSd s) : mj_op (mj_gf (hp M) s 7 8) f = f (.int (rI M s 8)) := by
  rcases h with rfl | rfl
  · exact ogf_239_8
  · exact ogf_247_8
theorem ogf_sd_9 {f : Value → Prop} (h : isSd s) : mj_op (mj_gf (hp M) s 7 9) f = f (.long (rL M s 9)) := by
  rcases h with rfl | rfl
  · exact ogf_239_9
  · exact ogf_247_9
theorem opf_sd_2 {f : mj_H → Prop} {v : Int32} (h : isSd s) : mj_op (mj_pf (hp M) s 7 2 (.int v)) f = f (hp (wI M s 2 v)) := by
  rcases h with rfl | rfl
  · exact opf_239_2
  · exact opf_247_2
theorem opf_sd_5 {f : mj_H → Prop} {v : Int32} (h : isSd s) : mj_op (mj_pf (hp M) s 7 5 (.int v)) f = f (hp (wI M s 5 v)) := by
  rcases h with rfl | rfl
  · exact opf_239_5
  · exact opf_247_5
theorem opf_sd_6 {f : mj_H → Prop} {v : Int32} (h : isSd s) : mj_op (mj_pf (hp M) s 7 6 (.int v)) f = f (hp (wI M s 6 v)) := by
  rcases h with rfl | rfl
  · exact opf_239_6
  · exact opf_247_6
theorem opf_sd_8 {f : mj_H → Prop} {v : Int32} (h : isSd s) : mj_op (mj_pf (hp M) s 7 8 (.int v)) f = f (hp (wI M s 8 v)) := by
  rcases h with rfl | rfl
  · exact opf_239_8
  · exact opf_247_8
theorem opf_sd_7 {f : mj_H → Prop} {v : Int64} (h : isSd s) : mj_op (mj_pf (hp M) s 7 7 (.long v)) f = f (hp (wL M s 7 v)) := by
  rcases h with rfl | rfl
  · exact opf_239_7
  · exact opf_247_7
theorem opf_sd_9 {f : mj_H → Prop} {v : Int64} (h : isSd s) : mj_op (mj_pf (hp M) s 7 9 (.long v)) f = f (hp (wL M s 9 v)) := by
  rcases h with rfl | rfl
  · exact opf_239_9
  · exact opf_247_9
theorem opf_sd_1 {f : mj_H → Prop} {v : Nat} (h : isSd s) : mj_op (mj_pf (hp M) s 7 1 (.ref v)) f = f (hp (wR M s 1 v)) := by
  rcases h with rfl | rfl
  · exact opf_239_1
  · exact opf_247_1
theorem oai_sd {f : Int32 → Prop} (h : isSd s) (hk : k < 8) : mj_op (mj_ai (hp M) (s + 6) (nI k)) f = f (rI M (s + 6) k) := by
  rcases h with rfl | rfl
  · exact oai_245 hk
  · exact oai_253 hk
theorem owi_sd {f : mj_H → Prop} {v : Int32} (h : isSd s) (hk : k < 8) : mj_op (mj_wi (hp M) (s + 6) (nI k) v) f = f (hp (wI M (s + 6) k v)) := by
  rcases h with rfl | rfl
  · exact owi_245 hk
  · exact owi_253 hk
theorem oal_sd {f : Int64 → Prop} (h : isSd s) (hk : k < 8) : mj_op (mj_al (hp M) (s + 7) (nI k)) f = f (rL M (s + 7) k) := by
  rcases h with rfl | rfl
  · exact oal_246 hk
  · exact oal_254 hk
theorem owl_sd {f : mj_H → Prop} {v : Int64} (h : isSd s) (hk : k < 8) : mj_op (mj_wl (hp M) (s + 7) (nI k) v) f = f (hp (wL M (s + 7) k v)) := by
  rcases h with rfl | rfl
  · exact owl_246 hk
  · exact owl_254 hk
end C96
