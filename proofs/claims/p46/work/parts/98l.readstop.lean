/-! THE REFERENCE reads: tokens and row in one world; a stop is read -/
theorem sq_ex {α : Type} (a : α) : ∃ b : α, b = a := ⟨a, rfl⟩
/-- the same, but nobody looks into it -/
noncomputable def sq_op {α : Type} (a : α) : α := Classical.choose (sq_ex a)
theorem sq_op_eq {α : Type} {a : α} : sq_op a = a := Classical.choose_spec (sq_ex a)
section LW
variable {w : xW} {l : Nat → Nat → Int64} {t : Nat} {sc : xm_Sc} {d n : Nat} {T : xTk} {r : Nat → Int32}
theorem zl_R : xR (xPw (xRs w r) T) = r := by rw [xR_Pw, xR_s]
theorem zl_Rs {r' : Nat → Int32} : xRs (xPw (xRs w r) T) r' = xPw (xRs w r') T := by rw [xRs_Pw, xRs_s]
end LW
/-- tokens and row while a text is read -/
abbrev xLk : Type := xTk × (Nat → Int32)
theorem sp_val_flaw {f : Nat → Int32} {T : xTk} {c : Int32} : sp_val f (sp_flaw T c) = sp_val f T := by
  unfold sp_flaw
  split <;> rfl
theorem sp_val_check {f : Nat → Int32} {T : xTk} {b c : Int32} : sp_val f (sp_check T b c) = sp_val f T := by
  unfold sp_check
  split
  · exact sp_val_flaw
  · rfl
/-- what is known of a row under way: counts, rooms, routes, homes in bounds, all else as at the start -/
def kSn (r : Nat → Int32) : Prop := xBd r ∧ (2 ≤ xnb r ∧ xWo r) ∧ (∀ u, u < xnv r → xil (r (12 + 11 * u)) 10 ∧ ¬ r (12 + 11 * u) = 0 ∧ xil (r (13 + 11 * u)) 9 ∧ ∀ s, s < xst r u → xil (r (15 + 11 * u + s)) (xnb r)) ∧ (∀ u, xnv r ≤ u → u < 4 → r (13 + 11 * u) = 0 ∧ r (14 + 11 * u) = 0) ∧ (∀ k, k < xnk r → xil (r (58 + 6 * k)) (xnb r)) ∧ (∀ k, xnk r ≤ k → k < 20 → r (59 + 6 * k) = 0) ∧ sp_new r
noncomputable def sp_st2_z (f : Nat → Int32) (T : xTk) (r : Nat → Int32) : xTk := sp_rn2 f T 0 (r 0 - 1)
noncomputable def sp_st2 : (Nat → Int32) → xTk → (Nat → Int32) → xTk := sq_op sp_st2_z
theorem sp_st2_u {f : Nat → Int32} {T : xTk} {r : Nat → Int32} : sp_st2 f T r = sp_rn2 f T 0 (r 0 - 1) := congrFun (congrFun (congrFun (sq_op_eq (a := sp_st2_z)) f) T) r
noncomputable def sp_st3_z (f : Nat → Int32) (T : xTk) (r : Nat → Int32) : xTk := sp_check (sp_st2 f T r) (if (sp_st2 f T r).2.2.2.1 = 0 ∧ 8 ≤ xst r (xnv r - 1) then 0 else 1) 3
noncomputable def sp_st3 : (Nat → Int32) → xTk → (Nat → Int32) → xTk := sq_op sp_st3_z
theorem sp_st3_u {f : Nat → Int32} {T : xTk} {r : Nat → Int32} : sp_st3 f T r = sp_check (sp_st2 f T r) (if (sp_st2 f T r).2.2.2.1 = 0 ∧ 8 ≤ xst r (xnv r - 1) then 0 else 1) 3 := congrFun (congrFun (congrFun (sq_op_eq (a := sp_st3_z)) f) T) r
noncomputable def sp_st4_z (f : Nat → Int32) (T : xTk) (r : Nat → Int32) : xTk := sp_check (sp_st3 f T r) (if (sp_st3 f T r).2.2.2.1 = 0 ∧ ¬ xst r (xnv r - 1) = 0 ∧ r (14 + 11 * (xnv r - 1) + xst r (xnv r - 1)) = sp_val f T then 0 else 1) 4
noncomputable def sp_st4 : (Nat → Int32) → xTk → (Nat → Int32) → xTk := sq_op sp_st4_z
theorem sp_st4_u {f : Nat → Int32} {T : xTk} {r : Nat → Int32} : sp_st4 f T r = sp_check (sp_st3 f T r) (if (sp_st3 f T r).2.2.2.1 = 0 ∧ ¬ xst r (xnv r - 1) = 0 ∧ r (14 + 11 * (xnv r - 1) + xst r (xnv r - 1)) = sp_val f T then 0 else 1) 4 := congrFun (congrFun (congrFun (sq_op_eq (a := sp_st4_z)) f) T) r
noncomputable def sq_stop_z (f : Nat → Int32) (n : Nat) (P : xLk) : xLk := (sp_adv f n (sp_st4 f P.1 P.2), if (sp_st4 f P.1 P.2).2.2.2.1 = 0 then sp_addS P.2 (xnv P.2 - 1) (xst P.2 (xnv P.2 - 1)) (sp_val f P.1) else P.2)
noncomputable def sq_stop : (Nat → Int32) → Nat → xLk → xLk := sq_op sq_stop_z
theorem sq_stop_u {f : Nat → Int32} {n : Nat} {P : xLk} : sq_stop f n P = (sp_adv f n (sp_st4 f P.1 P.2), if (sp_st4 f P.1 P.2).2.2.2.1 = 0 then sp_addS P.2 (xnv P.2 - 1) (xst P.2 (xnv P.2 - 1)) (sp_val f P.1) else P.2) := congrFun (congrFun (congrFun (sq_op_eq (a := sq_stop_z)) f) n) P
theorem sq_stop_a {f : Nat → Int32} {n : Nat} {T : xTk} {r : Nat → Int32} : (sq_stop f n (T, r)).1 = sp_adv f n (sp_st4 f T r) := congrArg Prod.fst sq_stop_u
theorem sq_stop_b {f : Nat → Int32} {n : Nat} {T : xTk} {r : Nat → Int32} : (sq_stop f n (T, r)).2 = if (sp_st4 f T r).2.2.2.1 = 0 then sp_addS r (xnv r - 1) (xst r (xnv r - 1)) (sp_val f T) else r := congrArg Prod.snd sq_stop_u
theorem sp_tw_st2 {f : Nat → Int32} {n : Nat} {T : xTk} {r : Nat → Int32} (h : sp_tw f n T) : sp_tw f n (sp_st2 f T r) := by
  rw [sp_st2_u]
  exact sp_tw_check (sp_tw_check h)
theorem sp_tw_st3 {f : Nat → Int32} {n : Nat} {T : xTk} {r : Nat → Int32} (h : sp_tw f n T) : sp_tw f n (sp_st3 f T r) := by
  rw [sp_st3_u]
  exact sp_tw_check (sp_tw_st2 h)
theorem sp_tw_st4 {f : Nat → Int32} {n : Nat} {T : xTk} {r : Nat → Int32} (h : sp_tw f n T) : sp_tw f n (sp_st4 f T r) := by
  rw [sp_st4_u]
  exact sp_tw_check (sp_tw_st3 h)
theorem sp_val_st2 {f : Nat → Int32} {T : xTk} {r : Nat → Int32} : sp_val f (sp_st2 f T r) = sp_val f T := by
  rw [sp_st2_u]
  exact sp_val_check.trans sp_val_check
theorem sp_val_st3 {f : Nat → Int32} {T : xTk} {r : Nat → Int32} : sp_val f (sp_st3 f T r) = sp_val f T := by
  rw [sp_st3_u]
  exact sp_val_check.trans sp_val_st2
section RS
variable {w : xW} {l : Nat → Nat → Int64} {t : Nat} {sc : xm_Sc} {d n : Nat} {T : xTk} {r : Nat → Int32}
end RS
