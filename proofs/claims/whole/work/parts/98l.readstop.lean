/-! THE REFERENCE reads: tokens and row in one world; a stop is read -/
theorem sq_ex {α : Type} (a : α) : ∃ b : α, b = a := ⟨a, rfl⟩
/-- the same, but nobody looks into it -/
noncomputable def sq_op {α : Type} (a : α) : α := Classical.choose (sq_ex a)
theorem sq_op_eq {α : Type} {a : α} : sq_op a = a := Classical.choose_spec (sq_ex a)
section LW
variable {w : xW} {l : Nat → Nat → Int64} {t : Nat} {sc : xm_Sc} {d n : Nat} {T : xTk} {r : Nat → Int32}
theorem zl_R : xR (xPw (xRs w r) T) = r := by rw [xR_Pw, xR_s]
theorem zl_Rs {r' : Nat → Int32} : xRs (xPw (xRs w r) T) r' = xPw (xRs w r') T := by rw [xRs_Pw, xRs_s]
theorem zl_0 : xm_aI (xem (xPw (xRs w r) T) l t) (xm (xri (xPw (xRs w r) T 3))) 0 0 = some (r 0) := by rw [zRa_0, zl_R]
theorem zl_1 : xm_aI (xem (xPw (xRs w r) T) l t) (xm (xri (xPw (xRs w r) T 3))) 0 1 = some (r 1) := by rw [zRa_1, zl_R]
theorem zl_2 : xm_aI (xem (xPw (xRs w r) T) l t) (xm (xri (xPw (xRs w r) T 3))) 0 2 = some (r 2) := by rw [zRa_2, zl_R]
theorem zl_3 : xm_aI (xem (xPw (xRs w r) T) l t) (xm (xri (xPw (xRs w r) T 3))) 0 3 = some (r 3) := by rw [zRa_3, zl_R]
theorem zl_w5 {x : Int32} : xm_wI (xem (xPw (xRs w r) T) l t) (xm (xri (xPw (xRs w r) T 3))) 0 5 x = some (xem (xPw (xRs w (upd r 5 x)) T) l t) := by rw [zRw_5, zl_R, zl_Rs]
theorem zl_161_1 {v : Nat} (hv : v < 4) : xm_C sc xt_M (d + 1) 161 [.ref 191, .int (nI v), .int 1] (xem (xPw (xRs w r) T) l t) = some (.inl (some (.int (r (13 + 11 * v)))), xem (xPw (xRs w r) T) l t) := by rw [zc_161_1 hv, zl_R]
theorem zl_161_s {v s : Nat} (hv : v < 4) (hs : s < 8) : xm_C sc xt_M (d + 1) 161 [.ref 191, .int (nI v), .int (3 + nI s)] (xem (xPw (xRs w r) T) l t) = some (.inl (some (.int (r (15 + 11 * v + s)))), xem (xPw (xRs w r) T) l t) := by rw [zc_161_s hv hs, zl_R]
theorem zl_172 {v : Nat} {x : Int32} (hv : r 1 = nI v) (h4 : v < 4) : xm_C sc xt_M (d + 2) 172 [.ref 191, .int x] (xem (xPw (xRs w r) T) l t) = some (.inl none, xem (xPw (xRs w (sp_addV r v x)) T) l t) := by rw [zc_172 (by rw [zl_R]; exact hv) h4, zl_R, zl_Rs]
theorem zl_173 {v s : Nat} {x : Int32} (hv : r 1 = nI (v + 1)) (h4 : v < 4) (hs : r (13 + 11 * v) = nI s) (h8 : s < 8) : xm_C sc xt_M (d + 2) 173 [.ref 191, .int x] (xem (xPw (xRs w r) T) l t) = some (.inl none, xem (xPw (xRs w (sp_addS r v s x)) T) l t) := by rw [zc_173 (by rw [zl_R]; exact hv) h4 (by rw [zl_R]; exact hs) h8, zl_R, zl_Rs]
theorem zl_174 {k : Nat} {x : Int32} (hk : r 2 = nI k) (h20 : k < 20) : xm_C sc xt_M (d + 4) 174 [.ref 191, .int x] (xem (xPw (xRs w r) T) l t) = some (.inl none, xem (xPw (xRs w (sp_addB r k x)) T) l t) := by rw [zc_174 (by rw [zl_R]; exact hk) h20, zl_R, zl_Rs]
theorem zl_171 {b : Nat} (h0 : 1 ≤ b) (hb : b ≤ 6) : xm_C sc xt_M (d + 1) 171 [.ref 191, .int (nI b)] (xem (xPw (xRs w r) T) l t) = some (.inl none, xem (xPw (xRs w (sp_beg r b)) T) l t) := by rw [zc_171 (h0 := h0) hb, zl_R, zl_Rs]
theorem zl_175 {a rd b : Int32} (hB : xBd r) (hq : xnq r < 40) : xm_C sc xt_M (d + 1) 175 [.ref 191, .int a, .int rd, .int b] (xem (xPw (xRs w r) T) l t) = some (.inl none, xem (xPw (xRs w (sp_addq r a rd b)) T) l t) := by rw [zc_175 (by rw [zl_R]; exact hB) (by rw [zl_R]; exact hq), zl_R, zl_Rs]
theorem zl_177 {b rd : Int32} (hB : xBd r) : xm_C sc xt_M (d + 2) 177 [.ref 191, .int b, .int rd] (xem (xPw (xRs w r) T) l t) = some (.inl (some (.int (toJ (sp_by r b rd)))), xem (xPw (xRs w r) T) l t) := by rw [zc_177 (by rw [zl_R]; exact hB), zl_R]
theorem zl_276 {k : Nat} (hk : k < 43) (h8 : n ≤ 800) (hT : sp_tw ((w 3).2 8) n T) : xm_C sc xt_M (d + 5) 276 [.ref 191, .retAddr k] (xem (xPw (xRs w r) T) l t) = some (.inl (some (.int (zB (sp_wrd ((w 3).2 8) T k)))), xem (xPw (xRs w r) T) l t) := by
  have h := @zc_276 (xRs w r) l t sc d n T k hk h8 (by rw [xRs_f]; exact hT)
  rw [xRs_f] at h
  exact h
theorem zl_274 (hn : (w 3).1 7 = nI n) (h8 : n ≤ 800) (hp : T.1 ≤ n) : xm_C sc xt_M (d + 4) 274 [.ref 191] (xem (xPw (xRs w r) T) l t) = some (.inl none, xem (xPw (xRs w r) (sp_adv ((w 3).2 8) n T)) l t) := by
  have h := @zc_274 (xRs w r) l t sc d n T (by rw [xRs_7]; exact hn) h8 hp
  rw [xRs_f] at h
  exact h
theorem zl_275 {c : Int32} (h8 : n ≤ 800) (hT : sp_tw ((w 3).2 8) n T) : xm_C sc xt_M (d + 1) 275 [.ref 191, .int c] (xem (xPw (xRs w r) T) l t) = some (.inl (some (.int (zB (sp_sym ((w 3).2 8) T c)))), xem (xPw (xRs w r) T) l t) := by
  have h := @zc_275t (xRs w r) l t sc d n T c h8 (by rw [xRs_f]; exact hT)
  rw [xRs_f] at h
  exact h
theorem zl_277 {k : Nat} (hn : (w 3).1 7 = nI n) (hk : k < 43) (h8 : n ≤ 800) (hT : sp_tw ((w 3).2 8) n T) : xm_C sc xt_M (d + 6) 277 [.ref 191, .retAddr k] (xem (xPw (xRs w r) T) l t) = some (.inl (some (.int (zB (sp_wrd ((w 3).2 8) T k)))), xem (xPw (xRs w r) (sp_acc ((w 3).2 8) n T k)) l t) := by
  have h := @zc_277 (xRs w r) l t sc d n T k (by rw [xRs_7]; exact hn) hk h8 (by rw [xRs_f]; exact hT)
  rw [xRs_f] at h
  exact h
theorem zl_278 {k : Nat} (hn : (w 3).1 7 = nI n) (hk : k < 43) (h8 : n ≤ 800) (hT : sp_tw ((w 3).2 8) n T) : xm_C sc xt_M (d + 6) 278 [.ref 191, .retAddr k] (xem (xPw (xRs w r) T) l t) = some (.inl none, xem (xPw (xRs w r) (sp_expW ((w 3).2 8) n T k)) l t) := by
  have h := @zc_278 (xRs w r) l t sc d n T k (by rw [xRs_7]; exact hn) hk h8 (by rw [xRs_f]; exact hT)
  rw [xRs_f] at h
  exact h
theorem zl_279 {c : Int32} (hn : (w 3).1 7 = nI n) (h8 : n ≤ 800) (hT : sp_tw ((w 3).2 8) n T) : xm_C sc xt_M (d + 5) 279 [.ref 191, .int c] (xem (xPw (xRs w r) T) l t) = some (.inl none, xem (xPw (xRs w r) (sp_exp2 ((w 3).2 8) n T c)) l t) := by
  have h := @zc_279t (xRs w r) l t sc d n T c (by rw [xRs_7]; exact hn) h8 (by rw [xRs_f]; exact hT)
  rw [xRs_f] at h
  exact h
theorem zl_280 (h8 : n ≤ 800) (hT : sp_tw ((w 3).2 8) n T) : xm_C sc xt_M (d + 1) 280 [.ref 191] (xem (xPw (xRs w r) T) l t) = some (.inl (some (.int (sp_val ((w 3).2 8) T))), xem (xPw (xRs w r) T) l t) := by
  have h := @zc_280 (xRs w r) l t sc d n T h8 (by rw [xRs_f]; exact hT)
  rw [xRs_f] at h
  exact h
theorem zl_281 {lo hi : Int32} (hn : (w 3).1 7 = nI n) (h8 : n ≤ 800) (hT : sp_tw ((w 3).2 8) n T) : xm_C sc xt_M (d + 5) 281 [.ref 191, .int lo, .int hi] (xem (xPw (xRs w r) T) l t) = some (.inl (some (.int (sp_rnV ((w 3).2 8) n T lo hi))), xem (xPw (xRs w r) (sp_rnT ((w 3).2 8) n T lo hi)) l t) := by
  have h := @zc_281 (xRs w r) l t sc d n T lo hi (by rw [xRs_7]; exact hn) h8 (by rw [xRs_f]; exact hT)
  rw [xRs_f] at h
  exact h
end LW
/-- tokens and row while a text is read -/
abbrev xLk : Type := xTk × (Nat → Int32)
theorem sp_val_flaw {f : Nat → Int32} {T : xTk} {c : Int32} : sp_val f (sp_flaw T c) = sp_val f T := by
  unfold sp_flaw
  split <;> rfl
theorem sp_val_check {f : Nat → Int32} {T : xTk} {b c : Int32} : sp_val f (sp_check T b c) = sp_val f T := by
  unfold sp_check
  split
  · exact sp_val_flaw
  · rfl
/-- what is known of a row under way: counts, rooms, routes, homes in bounds, all else as at the start -/
def kSn (r : Nat → Int32) : Prop := xBd r ∧ (2 ≤ xnb r ∧ xWo r) ∧ (∀ u, u < xnv r → xil (r (12 + 11 * u)) 10 ∧ ¬ r (12 + 11 * u) = 0 ∧ xil (r (13 + 11 * u)) 9 ∧ ∀ s, s < xst r u → xil (r (15 + 11 * u + s)) (xnb r)) ∧ (∀ u, xnv r ≤ u → u < 4 → r (13 + 11 * u) = 0 ∧ r (14 + 11 * u) = 0) ∧ (∀ k, k < xnk r → xil (r (58 + 6 * k)) (xnb r)) ∧ (∀ k, xnk r ≤ k → k < 20 → r (59 + 6 * k) = 0) ∧ sp_new r
noncomputable def sp_st2_z (f : Nat → Int32) (T : xTk) (r : Nat → Int32) : xTk := sp_rn2 f T 0 (r 0 - 1)
noncomputable def sp_st2 : (Nat → Int32) → xTk → (Nat → Int32) → xTk := sq_op sp_st2_z
theorem sp_st2_u {f : Nat → Int32} {T : xTk} {r : Nat → Int32} : sp_st2 f T r = sp_rn2 f T 0 (r 0 - 1) := congrFun (congrFun (congrFun (sq_op_eq (a := sp_st2_z)) f) T) r
noncomputable def sp_st3_z (f : Nat → Int32) (T : xTk) (r : Nat → Int32) : xTk := sp_check (sp_st2 f T r) (if (sp_st2 f T r).2.2.2.1 = 0 ∧ 8 ≤ xst r (xnv r - 1) then 0 else 1) 3
noncomputable def sp_st3 : (Nat → Int32) → xTk → (Nat → Int32) → xTk := sq_op sp_st3_z
theorem sp_st3_u {f : Nat → Int32} {T : xTk} {r : Nat → Int32} : sp_st3 f T r = sp_check (sp_st2 f T r) (if (sp_st2 f T r).2.2.2.1 = 0 ∧ 8 ≤ xst r (xnv r - 1) then 0 else 1) 3 := congrFun (congrFun (congrFun (sq_op_eq (a := sp_st3_z)) f) T) r
noncomputable def sp_st4_z (f : Nat → Int32) (T : xTk) (r : Nat → Int32) : xTk := sp_check (sp_st3 f T r) (if (sp_st3 f T r).2.2.2.1 = 0 ∧ ¬ xst r (xnv r - 1) = 0 ∧ r (14 + 11 * (xnv r - 1) + xst r (xnv r - 1)) = sp_val f T then 0 else 1) 4
noncomputable def sp_st4 : (Nat → Int32) → xTk → (Nat → Int32) → xTk := sq_op sp_st4_z
theorem sp_st4_u {f : Nat → Int32} {T : xTk} {r : Nat → Int32} : sp_st4 f T r = sp_check (sp_st3 f T r) (if (sp_st3 f T r).2.2.2.1 = 0 ∧ ¬ xst r (xnv r - 1) = 0 ∧ r (14 + 11 * (xnv r - 1) + xst r (xnv r - 1)) = sp_val f T then 0 else 1) 4 := congrFun (congrFun (congrFun (sq_op_eq (a := sp_st4_z)) f) T) r
noncomputable def sq_stop_z (f : Nat → Int32) (n : Nat) (P : xLk) : xLk := (sp_adv f n (sp_st4 f P.1 P.2), if (sp_st4 f P.1 P.2).2.2.2.1 = 0 then sp_addS P.2 (xnv P.2 - 1) (xst P.2 (xnv P.2 - 1)) (sp_val f P.1) else P.2)
noncomputable def sq_stop : (Nat → Int32) → Nat → xLk → xLk := sq_op sq_stop_z
theorem sq_stop_u {f : Nat → Int32} {n : Nat} {P : xLk} : sq_stop f n P = (sp_adv f n (sp_st4 f P.1 P.2), if (sp_st4 f P.1 P.2).2.2.2.1 = 0 then sp_addS P.2 (xnv P.2 - 1) (xst P.2 (xnv P.2 - 1)) (sp_val f P.1) else P.2) := congrFun (congrFun (congrFun (sq_op_eq (a := sq_stop_z)) f) n) P
theorem sq_stop_a {f : Nat → Int32} {n : Nat} {T : xTk} {r : Nat → Int32} : (sq_stop f n (T, r)).1 = sp_adv f n (sp_st4 f T r) := congrArg Prod.fst sq_stop_u
theorem sq_stop_b {f : Nat → Int32} {n : Nat} {T : xTk} {r : Nat → Int32} : (sq_stop f n (T, r)).2 = if (sp_st4 f T r).2.2.2.1 = 0 then sp_addS r (xnv r - 1) (xst r (xnv r - 1)) (sp_val f T) else r := congrArg Prod.snd sq_stop_u
theorem sp_tw_st2 {f : Nat → Int32} {n : Nat} {T : xTk} {r : Nat → Int32} (h : sp_tw f n T) : sp_tw f n (sp_st2 f T r) := by
  rw [sp_st2_u]
  exact sp_tw_check (sp_tw_check h)
theorem sp_tw_st3 {f : Nat → Int32} {n : Nat} {T : xTk} {r : Nat → Int32} (h : sp_tw f n T) : sp_tw f n (sp_st3 f T r) := by
  rw [sp_st3_u]
  exact sp_tw_check (sp_tw_st2 h)
theorem sp_tw_st4 {f : Nat → Int32} {n : Nat} {T : xTk} {r : Nat → Int32} (h : sp_tw f n T) : sp_tw f n (sp_st4 f T r) := by
  rw [sp_st4_u]
  exact sp_tw_check (sp_tw_st3 h)
theorem sp_val_st2 {f : Nat → Int32} {T : xTk} {r : Nat → Int32} : sp_val f (sp_st2 f T r) = sp_val f T := by
  rw [sp_st2_u]
  exact sp_val_check.trans sp_val_check
theorem sp_val_st3 {f : Nat → Int32} {T : xTk} {r : Nat → Int32} : sp_val f (sp_st3 f T r) = sp_val f T := by
  rw [sp_st3_u]
  exact sp_val_check.trans sp_val_st2
section RS
variable {w : xW} {l : Nat → Nat → Int64} {t : Nat} {sc : xm_Sc} {d n : Nat} {T : xTk} {r : Nat → Int32}
theorem z283_153 {i1 i2 : Int32} (hn : (w 3).1 7 = nI n) (h8 : n ≤ 800) (hT : sp_tw ((w 3).2 8) n T) : xm_R sc xt_M (d + 4) 283 153 [.ref 191, .int i1, .int i2] [] (xem (xPw (xRs w r) T) l t) = some (.inl none, xem (xPw (xRs w r) (sp_adv ((w 3).2 8) n T)) l t) := by
  rw [yb_283_153, if_pos xiM, zl_274 hn h8 hT.1, zbs, xk_v]
theorem z283_134 {b : Int32} {v m : Nat} (hn : (w 3).1 7 = nI n) (h8 : n ≤ 800) (hT : sp_tw ((w 3).2 8) n T) (hv : r 1 = nI (v + 1)) (h4 : v < 4) (hm : r (13 + 11 * v) = nI m) (hm8 : (sp_check T b 4).2.2.2.1 = 0 → m < 8) : xm_R sc xt_M (d + 4) 283 134 [.ref 191, .int (nI v), .int (nI m)] [.int b, .ref 191] (xem (xPw (xRs w r) T) l t) = some (.inl none, xem (xPw (xRs w (if (sp_check T b 4).2.2.2.1 = 0 then sp_addS r v m (sp_val ((w 3).2 8) T) else r)) (sp_adv ((w 3).2 8) n (sp_check T b 4))) l t) := by
  have c2 := @zc_273 (xRs w r) l t sc (d + 2) T b 4
  have ev : sp_val ((w 3).2 8) (sp_check T b 4) = sp_val ((w 3).2 8) T := sp_val_check
  have hT4 : sp_tw ((w 3).2 8) n (sp_check T b 4) := sp_tw_check hT
  rw [yb_283_134, if_pos xiM, c2, zbs, xk_v]
  generalize sp_check T b 4 = T4 at *
  rw [xgPb, zbs]
  by_cases h : T4.2.2.2.1 = 0
  · rw [if_pos h, if_pos h, if_pos xiM, zl_280 h8 hT4, zbs, xk_I, if_pos xiM, zl_173 hv h4 hm (hm8 h), zbs, xk_v, z283_153 hn h8 hT4, ev]
  · rw [if_neg h, if_neg h, z283_153 hn h8 hT4]
theorem z283_96 {b : Int32} {v m : Nat} (hn : (w 3).1 7 = nI n) (h8 : n ≤ 800) (hT : sp_tw ((w 3).2 8) n T) (h4 : v < 4) (hm : m < 9) : xm_R sc xt_M (d + 4) 283 96 [.ref 191, .int (nI v), .int (nI m)] [.int b, .ref 191] (xem (xPw (xRs w r) T) l t) = xm_R sc xt_M (d + 4) 283 134 [.ref 191, .int (nI v), .int (nI m)] [.int (if (sp_check T b 3).2.2.2.1 = 0 ∧ ¬ m = 0 ∧ r (14 + 11 * v + m) = sp_val ((w 3).2 8) T then 0 else 1), .ref 191] (xem (xPw (xRs w r) (sp_check T b 3)) l t) := by
  have c2 := @zc_273 (xRs w r) l t sc (d + 2) T b 3
  have ev : sp_val ((w 3).2 8) (sp_check T b 3) = sp_val ((w 3).2 8) T := sp_val_check
  have hT4 : sp_tw ((w 3).2 8) n (sp_check T b 3) := sp_tw_check hT
  rw [yb_283_96, if_pos xiM, c2, zbs, xk_v]
  generalize sp_check T b 3 = T4 at *
  rw [xgPb, zbs]
  by_cases h : T4.2.2.2.1 = 0
  · rw [if_pos h]
    cases m with
    | zero =>
      rw [if_pos (show nI 0 = (0 : Int32) from rfl), yb_283_129, if_neg (c := T4.2.2.2.1 = 0 ∧ ¬ 0 = 0 ∧ r (14 + 11 * v + 0) = sp_val ((w 3).2 8) T) (fun z => z.2.1 rfl)]
    | succ q =>
      have e1 : (3 + nI (q + 1)) - 1 = 3 + nI q := by
        rw [show (3 : Int32) + nI (q + 1) = nI (3 + q + 1) from zA (a := 3) (b := q + 1), nI_pred, show (3 : Int32) + nI q = nI (3 + q) from zA (a := 3) (b := q)]
      have e2 : 15 + 11 * v + q = 14 + 11 * v + (q + 1) := by omega
      have e0 : ¬ nI (q + 1) = (0 : Int32) := fun z => absurd (nI_inj (a := q + 1) (b := 0) (by omega) (by omega) z) (by omega)
      rw [if_neg e0, if_pos xiM, e1, zl_161_s h4 (by omega), zbs, xk_I, if_pos xiM, zl_280 h8 hT4, zbs, xk_I, ev, e2]
      by_cases h2 : r (14 + 11 * v + (q + 1)) = sp_val ((w 3).2 8) T
      · rw [if_pos h2, if_pos (c := T4.2.2.2.1 = 0 ∧ ¬ q + 1 = 0 ∧ r (14 + 11 * v + (q + 1)) = sp_val ((w 3).2 8) T) ⟨h, by omega, h2⟩]
      · rw [if_neg h2, yb_283_129, if_neg (c := T4.2.2.2.1 = 0 ∧ ¬ q + 1 = 0 ∧ r (14 + 11 * v + (q + 1)) = sp_val ((w 3).2 8) T) (fun z => h2 z.2.2)]
  · rw [if_neg h, yb_283_129, if_neg (c := T4.2.2.2.1 = 0 ∧ ¬ m = 0 ∧ r (14 + 11 * v + m) = sp_val ((w 3).2 8) T) (fun z => h z.1)]
theorem z283_73 {b : Int32} {v m : Nat} (hm : m < 9) : xm_R sc xt_M (d + 4) 283 73 [.ref 191, .int (nI v), .int (nI m)] [.int b, .ref 191] (xem (xPw (xRs w r) T) l t) = xm_R sc xt_M (d + 4) 283 96 [.ref 191, .int (nI v), .int (nI m)] [.int (if (sp_check T b 2).2.2.2.1 = 0 ∧ 8 ≤ m then 0 else 1), .ref 191] (xem (xPw (xRs w r) (sp_check T b 2)) l t) := by
  have c2 := @zc_273 (xRs w r) l t sc (d + 2) T b 2
  rw [yb_283_73, if_pos xiM, c2, zbs, xk_v]
  generalize sp_check T b 2 = T4 at *
  rw [xgPb, zbs]
  by_cases h : T4.2.2.2.1 = 0
  · rw [if_pos h]
    by_cases h2 : 8 ≤ m
    · rw [if_pos (show (8 : Int32) ≤ nI m from nI_le (a := 8) h2 (by omega)), if_pos (c := T4.2.2.2.1 = 0 ∧ 8 ≤ m) ⟨h, h2⟩]
    · rw [if_neg (show ¬ (8 : Int32) ≤ nI m from nI_ge (a := m) (b := 8) (by omega) (by omega)), yb_283_91, if_neg (c := T4.2.2.2.1 = 0 ∧ 8 ≤ m) (fun z => h2 z.2)]
  · rw [if_neg h, yb_283_91, if_neg (c := T4.2.2.2.1 = 0 ∧ 8 ≤ m) (fun z => h z.1)]
theorem z283_37 {b i1 i2 : Int32} (h8 : n ≤ 800) (hT : sp_tw ((w 3).2 8) n T) : xm_R sc xt_M (d + 4) 283 37 [.ref 191, .int i1, .int i2] [.int b, .ref 191] (xem (xPw (xRs w r) T) l t) = xm_R sc xt_M (d + 4) 283 73 [.ref 191, .int i1, .int i2] [.int (if (sp_check T b 1).2.2.2.1 = 0 ∧ ¬ (0 ≤ sp_val ((w 3).2 8) (sp_check T b 1) ∧ sp_val ((w 3).2 8) (sp_check T b 1) ≤ r 0 - 1) then 0 else 1), .ref 191] (xem (xPw (xRs w r) (sp_check T b 1)) l t) := by
  have c2 := @zc_273 (xRs w r) l t sc (d + 2) T b 1
  have hT4 : sp_tw ((w 3).2 8) n (sp_check T b 1) := sp_tw_check hT
  rw [yb_283_37, if_pos xiM, c2, zbs, xk_v]
  generalize sp_check T b 1 = T4 at *
  rw [xgPb, zbs]
  by_cases h : T4.2.2.2.1 = 0
  · rw [if_pos h, if_pos xiM, zl_280 h8 hT4, zbs, xk_I, xgM_5, zbs, zl_0, zbs, rd_160, zbs, xk_I]
    by_cases h2 : 0 ≤ sp_val ((w 3).2 8) T4 ∧ sp_val ((w 3).2 8) T4 ≤ r 0 - 1
    · rw [zB_tt h2, if_neg (show ¬ (1 : Int32) = 0 by decide), yb_283_68, if_neg (c := T4.2.2.2.1 = 0 ∧ ¬ (0 ≤ sp_val ((w 3).2 8) T4 ∧ sp_val ((w 3).2 8) T4 ≤ r 0 - 1)) (fun z => z.2 h2)]
    · rw [zB_ff h2, if_pos rfl, if_pos (c := T4.2.2.2.1 = 0 ∧ ¬ (0 ≤ sp_val ((w 3).2 8) T4 ∧ sp_val ((w 3).2 8) T4 ≤ r 0 - 1)) ⟨h, h2⟩]
  · rw [if_neg h, yb_283_68, if_neg (c := T4.2.2.2.1 = 0 ∧ ¬ (0 ≤ sp_val ((w 3).2 8) T4 ∧ sp_val ((w 3).2 8) T4 ≤ r 0 - 1)) (fun z => h z.1)]
theorem zc_283 (hn : (w 3).1 7 = nI n) (h8 : n ≤ 800) (hT : sp_tw ((w 3).2 8) n T) (hS : kSn r) (h1 : 1 ≤ xnv r) : xm_C sc xt_M (d + 5) 283 [.ref 191] (xem (xPw (xRs w r) T) l t) = some (.inl none, xem (xPw (xRs w (sq_stop ((w 3).2 8) n (T, r)).2) (sq_stop ((w 3).2 8) n (T, r)).1) l t) := by
  have hB := hS.1
  have hv4 := hB.v4
  have hx := (hS.2.2.1 (xnv r - 1) (by omega)).2.2.1
  have hv : r 1 = nI ((xnv r - 1) + 1) := by rw [show xnv r - 1 + 1 = xnv r by omega]; exact hB.v
  have hm : r (13 + 11 * (xnv r - 1)) = nI (xst r (xnv r - 1)) := hx.1
  have hm9 : xst r (xnv r - 1) < 9 := hx.2
  have g : ∀ b : Int32, b = (if T.2.2.2.1 = 0 ∧ ¬ T.2.2.1 = 2 then 0 else 1) → xm_R sc xt_M (d + 4) 283 37 [.ref 191, .int (nI (xnv r - 1)), .int (nI (xst r (xnv r - 1)))] [.int b, .ref 191] (xem (xPw (xRs w r) T) l t) = some (.inl none, xem (xPw (xRs w (sq_stop ((w 3).2 8) n (T, r)).2) (sq_stop ((w 3).2 8) n (T, r)).1) l t) := by
    intro b hb
    have hT1 : sp_tw ((w 3).2 8) n (sp_check T b 1) := sp_tw_check hT
    have e1 : sp_check T b 1 = sp_rn1 T := by rw [hb]; rfl
    have e2 : sp_check (sp_rn1 T) (if (sp_rn1 T).2.2.2.1 = 0 ∧ ¬ (0 ≤ sp_val ((w 3).2 8) (sp_rn1 T) ∧ sp_val ((w 3).2 8) (sp_rn1 T) ≤ r 0 - 1) then 0 else 1) 2 = sp_st2 ((w 3).2 8) T r := sp_st2_u.symm
    have hT2 : sp_tw ((w 3).2 8) n (sp_st2 ((w 3).2 8) T r) := sp_tw_st2 hT
    have hT3 : sp_tw ((w 3).2 8) n (sp_st3 ((w 3).2 8) T r) := sp_tw_st3 hT
    have ev2 : sp_val ((w 3).2 8) (sp_st2 ((w 3).2 8) T r) = sp_val ((w 3).2 8) T := sp_val_st2
    have ev3 : sp_val ((w 3).2 8) (sp_st3 ((w 3).2 8) T r) = sp_val ((w 3).2 8) T := sp_val_st3
    have e3 : sp_check (sp_st2 ((w 3).2 8) T r) (if (sp_st2 ((w 3).2 8) T r).2.2.2.1 = 0 ∧ 8 ≤ xst r (xnv r - 1) then 0 else 1) 3 = sp_st3 ((w 3).2 8) T r := sp_st3_u.symm
    have hlt : (sp_st4 ((w 3).2 8) T r).2.2.2.1 = 0 → xst r (xnv r - 1) < 8 := by
      intro z
      apply Decidable.byContradiction
      intro z8
      have : ¬ (sp_st3 ((w 3).2 8) T r).2.2.2.1 = 0 := by
        rw [sp_st3_u]
        unfold sp_check
        by_cases y : (sp_st2 ((w 3).2 8) T r).2.2.2.1 = 0
        · rw [if_pos (c := (sp_st2 ((w 3).2 8) T r).2.2.2.1 = 0 ∧ 8 ≤ xst r (xnv r - 1)) ⟨y, by omega⟩, if_pos rfl]
          unfold sp_flaw
          rw [if_pos y]
          show ¬ (3 : Int32) = 0
          decide
        · rw [if_neg (c := (sp_st2 ((w 3).2 8) T r).2.2.2.1 = 0 ∧ 8 ≤ xst r (xnv r - 1)) (fun u => y u.1), if_neg (by decide)]
          exact y
      rw [sp_st4_u] at z
      unfold sp_check at z
      rw [if_neg (c := (sp_st3 ((w 3).2 8) T r).2.2.2.1 = 0 ∧ ¬ xst r (xnv r - 1) = 0 ∧ r (14 + 11 * (xnv r - 1) + xst r (xnv r - 1)) = sp_val ((w 3).2 8) T) (fun u => this u.1), if_neg (by decide)] at z
      exact this z
    rw [z283_37 h8 hT, e1, z283_73 hm9, e2, z283_96 hn h8 hT2 (by omega) hm9, e3, ev2]
    have e4 : sp_check (sp_st3 ((w 3).2 8) T r) (if (sp_st3 ((w 3).2 8) T r).2.2.2.1 = 0 ∧ ¬ xst r (xnv r - 1) = 0 ∧ r (14 + 11 * (xnv r - 1) + xst r (xnv r - 1)) = sp_val ((w 3).2 8) T then 0 else 1) 4 = sp_st4 ((w 3).2 8) T r := sp_st4_u.symm
    have z := @z283_134 w l t sc d n (sp_st3 ((w 3).2 8) T r) r (if (sp_st3 ((w 3).2 8) T r).2.2.2.1 = 0 ∧ ¬ xst r (xnv r - 1) = 0 ∧ r (14 + 11 * (xnv r - 1) + xst r (xnv r - 1)) = sp_val ((w 3).2 8) T then 0 else 1) (xnv r - 1) (xst r (xnv r - 1)) hn h8 hT3 hv (by omega) hm (by rw [e4]; exact hlt)
    rw [e4, ev3] at z
    rw [z, sq_stop_a, sq_stop_b]
  rw [yc_283, xgM_5, zbs, zl_1, zbs, hv, nI_pred, if_pos xiM, zl_161_1 (by omega), zbs, xk_I, xgPb, zbs, hm]
  by_cases h : T.2.2.2.1 = 0
  · rw [if_pos h, xgPa, zbs]
    by_cases h2 : T.2.2.1 = 2
    · rw [if_pos h2, yb_283_32]
      exact g 1 (if_neg (fun z => z.2 h2)).symm
    · rw [if_neg h2]
      exact g 0 (if_pos ⟨h, h2⟩).symm
  · rw [if_neg h, yb_283_32]
    exact g 1 (if_neg (fun z => h z.1)).symm
end RS
