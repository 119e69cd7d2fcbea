/-! THE REFERENCE reads: a van, a book -/
noncomputable def sp_vn1_z (f : Nat → Int32) (T : xTk) : xTk := sp_check T (zB (sp_wrd f T 2)) 1
noncomputable def sp_vn1 : (Nat → Int32) → xTk → xTk := sq_op sp_vn1_z
theorem sp_vn1_u {f : Nat → Int32} {T : xTk} : sp_vn1 f T = sp_check T (zB (sp_wrd f T 2)) 1 := congrFun (congrFun (sq_op_eq (a := sp_vn1_z)) f) T
noncomputable def sp_vn2_z (f : Nat → Int32) (T : xTk) (r : Nat → Int32) : xTk := sp_check (sp_vn1 f T) (if (sp_vn1 f T).2.2.2.1 = 0 ∧ 4 ≤ xnv r then 0 else 1) 3
noncomputable def sp_vn2 : (Nat → Int32) → xTk → (Nat → Int32) → xTk := sq_op sp_vn2_z
theorem sp_vn2_u {f : Nat → Int32} {T : xTk} {r : Nat → Int32} : sp_vn2 f T r = sp_check (sp_vn1 f T) (if (sp_vn1 f T).2.2.2.1 = 0 ∧ 4 ≤ xnv r then 0 else 1) 3 := congrFun (congrFun (congrFun (sq_op_eq (a := sp_vn2_z)) f) T) r
noncomputable def sp_vn3_z (f : Nat → Int32) (n : Nat) (T : xTk) (r : Nat → Int32) : xTk := sp_adv f n (sp_vn2 f T r)
noncomputable def sp_vn3 : (Nat → Int32) → Nat → xTk → (Nat → Int32) → xTk := sq_op sp_vn3_z
theorem sp_vn3_u {f : Nat → Int32} {n : Nat} {T : xTk} {r : Nat → Int32} : sp_vn3 f n T r = sp_adv f n (sp_vn2 f T r) := congrFun (congrFun (congrFun (congrFun (sq_op_eq (a := sp_vn3_z)) f) n) T) r
noncomputable def sp_vn4_z (f : Nat → Int32) (n : Nat) (T : xTk) (r : Nat → Int32) : xTk := sp_rnT f n (sp_vn3 f n T r) 1 9
noncomputable def sp_vn4 : (Nat → Int32) → Nat → xTk → (Nat → Int32) → xTk := sq_op sp_vn4_z
theorem sp_vn4_u {f : Nat → Int32} {n : Nat} {T : xTk} {r : Nat → Int32} : sp_vn4 f n T r = sp_rnT f n (sp_vn3 f n T r) 1 9 := congrFun (congrFun (congrFun (congrFun (sq_op_eq (a := sp_vn4_z)) f) n) T) r
noncomputable def sp_vn5_z (f : Nat → Int32) (n : Nat) (T : xTk) (r : Nat → Int32) : Nat → Int32 := sp_addV r (xnv r) (sp_rnV f n (sp_vn3 f n T r) 1 9)
noncomputable def sp_vn5 : (Nat → Int32) → Nat → xTk → (Nat → Int32) → Nat → Int32 := sq_op sp_vn5_z
theorem sp_vn5_u {f : Nat → Int32} {n : Nat} {T : xTk} {r : Nat → Int32} : sp_vn5 f n T r = sp_addV r (xnv r) (sp_rnV f n (sp_vn3 f n T r) 1 9) := congrFun (congrFun (congrFun (congrFun (sq_op_eq (a := sp_vn5_z)) f) n) T) r
noncomputable def sp_vn8_z (f : Nat → Int32) (n : Nat) (T : xTk) (r : Nat → Int32) : xLk := sp_stops f n 7 (sq_stop f n (sq_stop f n (sp_vn4 f n T r, sp_vn5 f n T r)))
noncomputable def sp_vn8 : (Nat → Int32) → Nat → xTk → (Nat → Int32) → xLk := sq_op sp_vn8_z
theorem sp_vn8_u {f : Nat → Int32} {n : Nat} {T : xTk} {r : Nat → Int32} : sp_vn8 f n T r = sp_stops f n 7 (sq_stop f n (sq_stop f n (sp_vn4 f n T r, sp_vn5 f n T r))) := congrFun (congrFun (congrFun (congrFun (sq_op_eq (a := sp_vn8_z)) f) n) T) r
noncomputable def sp_vn9_z (f : Nat → Int32) (P : xLk) : xTk := sp_check P.1 (if sp_sym f P.1 59 ∧ P.2 (15 + 11 * (xnv P.2 - 1)) = P.2 (14 + 11 * (xnv P.2 - 1) + xst P.2 (xnv P.2 - 1)) then 0 else 1) 4
noncomputable def sp_vn9 : (Nat → Int32) → xLk → xTk := sq_op sp_vn9_z
theorem sp_vn9_u {f : Nat → Int32} {P : xLk} : sp_vn9 f P = sp_check P.1 (if sp_sym f P.1 59 ∧ P.2 (15 + 11 * (xnv P.2 - 1)) = P.2 (14 + 11 * (xnv P.2 - 1) + xst P.2 (xnv P.2 - 1)) then 0 else 1) 4 := congrFun (congrFun (sq_op_eq (a := sp_vn9_z)) f) P
noncomputable def sp_rte_z (f : Nat → Int32) (n : Nat) (P : xLk) : xLk := (sp_exp2 f n (sp_vn9 f P) 59, P.2)
noncomputable def sp_rte : (Nat → Int32) → Nat → xLk → xLk := sq_op sp_rte_z
theorem sp_rte_u {f : Nat → Int32} {n : Nat} {P : xLk} : sp_rte f n P = (sp_exp2 f n (sp_vn9 f P) 59, P.2) := congrFun (congrFun (congrFun (sq_op_eq (a := sp_rte_z)) f) n) P
noncomputable def sq_van_z (f : Nat → Int32) (n : Nat) (P : xLk) : xLk := if (sp_vn4 f n P.1 P.2).2.2.2.1 = 0 then sp_rte f n (sp_vn8 f n P.1 P.2) else (sp_vn4 f n P.1 P.2, P.2)
noncomputable def sq_van : (Nat → Int32) → Nat → xLk → xLk := sq_op sq_van_z
theorem sq_van_u {f : Nat → Int32} {n : Nat} {P : xLk} : sq_van f n P = if (sp_vn4 f n P.1 P.2).2.2.2.1 = 0 then sp_rte f n (sp_vn8 f n P.1 P.2) else (sp_vn4 f n P.1 P.2, P.2) := congrFun (congrFun (congrFun (sq_op_eq (a := sq_van_z)) f) n) P
theorem sp_rte_a {f : Nat → Int32} {n : Nat} {P : xLk} : (sp_rte f n P).1 = sp_exp2 f n (sp_vn9 f P) 59 := congrArg Prod.fst sp_rte_u
theorem sp_rte_b {f : Nat → Int32} {n : Nat} {P : xLk} : (sp_rte f n P).2 = P.2 := by rw [sp_rte_u]
theorem kSn_cnt {r : Nat → Int32} (hS : kSn r) (h1 : 1 ≤ xnv r) : r 1 = nI ((xnv r - 1) + 1) ∧ r (13 + 11 * (xnv r - 1)) = nI (xst r (xnv r - 1)) ∧ xst r (xnv r - 1) < 9 ∧ xnv r - 1 < 4 := by
  have hB := hS.1
  have hv4 := hB.v4
  have hx := (hS.2.2.1 (xnv r - 1) (by omega)).2.2.1
  refine ⟨?_, hx.1, hx.2, by omega⟩
  rw [show xnv r - 1 + 1 = xnv r by omega]
  exact hB.v
section RV
variable {w : xW} {l : Nat → Nat → Int64} {t : Nat} {sc : xm_Sc} {d n : Nat} {T : xTk} {r : Nat → Int32}
/-- without an error a van's counts fit -/
theorem sp_vn4_ok {f : Nat → Int32} (hT : sp_tw f n T) (hS : kSn r) (h : (sp_vn4 f n T r).2.2.2.1 = 0) : xnv r < 4 ∧ T.2.2.2.1 = 0 ∧ sp_wrd f T 2 ∧ sp_vn3 f n T r = sp_adv f n T ∧ (sp_adv f n T).2.2.1 = 2 ∧ xil (sp_rnV f n (sp_vn3 f n T r) 1 9) 10 ∧ ¬ sp_rnV f n (sp_vn3 f n T r) 1 9 = 0 ∧ sp_vn4 f n T r = sp_adv f n (sp_adv f n T) := by
  rw [sp_vn4_u] at h
  obtain ⟨h1, h2, h3, h4, h5⟩ := sp_rnT_ok h
  have h1' := h1
  rw [sp_vn3_u] at h1'
  rw [sp_adv_err] at h1'
  rw [sp_vn2_u] at h1'
  obtain ⟨g1, g2, g3⟩ := sp_check_ok (by decide) h1'
  have g1' := g1
  rw [sp_vn1_u] at g1'
  obtain ⟨k1, k2, k3⟩ := sp_check_ok (by decide) g1'
  have e1 : sp_vn1 f T = T := sp_vn1_u.trans k3
  have e3 : sp_vn3 f n T r = sp_adv f n T := by
    rw [sp_vn3_u, sp_vn2_u]
    rw [g3, e1]
  have r0 := @sp_rnV_rng f n (sp_vn3 f n T r) 1 9 (by decide)
  refine ⟨Decidable.byContradiction fun z => g2 (if_pos ⟨g1, by omega⟩), k1, Decidable.byContradiction fun z => k2 (zB_ff z), e3, by rw [← e3]; exact h2, ?_, ?_, ?_⟩
  · exact zrg2 (m := 10) (by omega) ⟨Int32.le_trans (by decide) r0.1, Int32.le_trans r0.2 (by decide)⟩
  · intro z
    rw [z] at r0
    exact absurd r0.1 (by decide)
  · rw [sp_vn4_u]
    rw [h4, e3]
theorem sp_vn2_tw {f : Nat → Int32} (hT : sp_tw f n T) : sp_tw f n (sp_vn2 f T r) := by
  rw [sp_vn2_u, sp_vn1_u]
  exact sp_tw_check (sp_tw_check hT)
theorem sp_vn3_tw {f : Nat → Int32} (hT : sp_tw f n T) : sp_tw f n (sp_vn3 f n T r) := by
  rw [sp_vn3_u]
  exact sp_tw_adv (sp_vn2_tw hT)
theorem sp_vn4_tw {f : Nat → Int32} (hT : sp_tw f n T) : sp_tw f n (sp_vn4 f n T r) := by
  rw [sp_vn4_u]
  exact sp_tw_rn (sp_vn3_tw hT)
/-- the two first stops -/
theorem sp_two {f : Nat → Int32} {v : Nat} (hS : kSn r) (hv : xnv r = v + 1) (h0 : xst r v = 0) (hT : sp_tw f n T) : kSn (sq_stop f n (sq_stop f n (T, r))).2 ∧ sp_tw f n (sq_stop f n (sq_stop f n (T, r))).1 ∧ xnv (sq_stop f n (sq_stop f n (T, r))).2 = v + 1 ∧ (∀ u, u ≠ v → u < 4 → xst (sq_stop f n (sq_stop f n (T, r))).2 u = xst r u) ∧ ((sq_stop f n (sq_stop f n (T, r))).1.2.2.2.1 = 0 → xst (sq_stop f n (sq_stop f n (T, r))).2 v = 2) := by
  obtain ⟨a1, a2, a3, a4, a5, a6⟩ := @sp_stop_ok f n T r hS (by omega) hT
  have ev : xnv r - 1 = v := by omega
  rw [ev] at a4 a5 a6
  have hprev : (sq_stop f n (sq_stop f n (T, r))).1.2.2.2.1 = 0 → (sq_stop f n (T, r)).1.2.2.2.1 = 0 := fun z => Decidable.byContradiction fun y => by
    have := @sp_stop_e f n (sq_stop f n (T, r)).1 (sq_stop f n (T, r)).2 y
    rw [xLe (sq_stop f n (T, r))] at this
    rw [this] at z
    exact y z
  generalize sq_stop f n (T, r) = P at *
  obtain ⟨b1, b2, b3, b4, b5, b6⟩ := @sp_stop_ok f n P.1 P.2 a1 (by omega) a2
  have ev2 : xnv P.2 - 1 = v := by omega
  rw [ev2] at b4 b5 b6
  refine ⟨b1, b2, by rw [show sq_stop f n P = sq_stop f n (P.1, P.2) from rfl, b3, a3, hv], fun u h1 h2 => (b4 u h1 h2).trans (a4 u h1 h2), fun z => ?_⟩
  rw [show sq_stop f n P = sq_stop f n (P.1, P.2) from rfl, b6 z, a6 (hprev z), h0]
end RV
