/-! THE REFERENCE reads: a van, a book -/
noncomputable def sp_vn1_z (f : Nat → Int32) (T : xTk) : xTk := sp_check T (zB (sp_wrd f T 35)) 1
noncomputable def sp_vn1 : (Nat → Int32) → xTk → xTk := sq_op sp_vn1_z
theorem sp_vn1_u {f : Nat → Int32} {T : xTk} : sp_vn1 f T = sp_check T (zB (sp_wrd f T 35)) 1 := congrFun (congrFun (sq_op_eq (a := sp_vn1_z)) f) T
noncomputable def sp_vn2_z (f : Nat → Int32) (T : xTk) (r : Nat → Int32) : xTk := sp_check (sp_vn1 f T) (if (sp_vn1 f T).2.2.2.1 = 0 ∧ 4 ≤ xnv r then 0 else 1) 3
noncomputable def sp_vn2 : (Nat → Int32) → xTk → (Nat → Int32) → xTk := sq_op sp_vn2_z
theorem sp_vn2_u {f : Nat → Int32} {T : xTk} {r : Nat → Int32} : sp_vn2 f T r = sp_check (sp_vn1 f T) (if (sp_vn1 f T).2.2.2.1 = 0 ∧ 4 ≤ xnv r then 0 else 1) 3 := congrFun (congrFun (congrFun (sq_op_eq (a := sp_vn2_z)) f) T) r
noncomputable def sp_vn3_z (f : Nat → Int32) (n : Nat) (T : xTk) (r : Nat → Int32) : xTk := sp_adv f n (sp_vn2 f T r)
noncomputable def sp_vn3 : (Nat → Int32) → Nat → xTk → (Nat → Int32) → xTk := sq_op sp_vn3_z
theorem sp_vn3_u {f : Nat → Int32} {n : Nat} {T : xTk} {r : Nat → Int32} : sp_vn3 f n T r = sp_adv f n (sp_vn2 f T r) := congrFun (congrFun (congrFun (congrFun (sq_op_eq (a := sp_vn3_z)) f) n) T) r
noncomputable def sp_vn4_z (f : Nat → Int32) (n : Nat) (T : xTk) (r : Nat → Int32) : xTk := sp_rnT f n (sp_vn3 f n T r) 1 9
noncomputable def sp_vn4 : (Nat → Int32) → Nat → xTk → (Nat → Int32) → xTk := sq_op sp_vn4_z
theorem sp_vn4_u {f : Nat → Int32} {n : Nat} {T : xTk} {r : Nat → Int32} : sp_vn4 f n T r = sp_rnT f n (sp_vn3 f n T r) 1 9 := congrFun (congrFun (congrFun (congrFun (sq_op_eq (a := sp_vn4_z)) f) n) T) r
noncomputable def sp_vn5_z (f : Nat → Int32) (n : Nat) (T : xTk) (r : Nat → Int32) : Nat → Int32 := sp_addV r (xnv r) (sp_rnV f n (sp_vn3 f n T r) 1 9)
noncomputable def sp_vn5 : (Nat → Int32) → Nat → xTk → (Nat → Int32) → Nat → Int32 := sq_op sp_vn5_z
theorem sp_vn5_u {f : Nat → Int32} {n : Nat} {T : xTk} {r : Nat → Int32} : sp_vn5 f n T r = sp_addV r (xnv r) (sp_rnV f n (sp_vn3 f n T r) 1 9) := congrFun (congrFun (congrFun (congrFun (sq_op_eq (a := sp_vn5_z)) f) n) T) r
noncomputable def sp_vn8_z (f : Nat → Int32) (n : Nat) (T : xTk) (r : Nat → Int32) : xLk := sp_stops f n 7 (sq_stop f n (sq_stop f n (sp_vn4 f n T r, sp_vn5 f n T r)))
noncomputable def sp_vn8 : (Nat → Int32) → Nat → xTk → (Nat → Int32) → xLk := sq_op sp_vn8_z
theorem sp_vn8_u {f : Nat → Int32} {n : Nat} {T : xTk} {r : Nat → Int32} : sp_vn8 f n T r = sp_stops f n 7 (sq_stop f n (sq_stop f n (sp_vn4 f n T r, sp_vn5 f n T r))) := congrFun (congrFun (congrFun (congrFun (sq_op_eq (a := sp_vn8_z)) f) n) T) r
noncomputable def sp_vn9_z (f : Nat → Int32) (P : xLk) : xTk := sp_check P.1 (if sp_sym f P.1 59 ∧ P.2 (15 + 11 * (xnv P.2 - 1)) = P.2 (14 + 11 * (xnv P.2 - 1) + xst P.2 (xnv P.2 - 1)) then 0 else 1) 4
noncomputable def sp_vn9 : (Nat → Int32) → xLk → xTk := sq_op sp_vn9_z
theorem sp_vn9_u {f : Nat → Int32} {P : xLk} : sp_vn9 f P = sp_check P.1 (if sp_sym f P.1 59 ∧ P.2 (15 + 11 * (xnv P.2 - 1)) = P.2 (14 + 11 * (xnv P.2 - 1) + xst P.2 (xnv P.2 - 1)) then 0 else 1) 4 := congrFun (congrFun (sq_op_eq (a := sp_vn9_z)) f) P
noncomputable def sp_rte_z (f : Nat → Int32) (n : Nat) (P : xLk) : xLk := (sp_exp2 f n (sp_vn9 f P) 59, P.2)
noncomputable def sp_rte : (Nat → Int32) → Nat → xLk → xLk := sq_op sp_rte_z
theorem sp_rte_u {f : Nat → Int32} {n : Nat} {P : xLk} : sp_rte f n P = (sp_exp2 f n (sp_vn9 f P) 59, P.2) := congrFun (congrFun (congrFun (sq_op_eq (a := sp_rte_z)) f) n) P
noncomputable def sq_van_z (f : Nat → Int32) (n : Nat) (P : xLk) : xLk := if (sp_vn4 f n P.1 P.2).2.2.2.1 = 0 then sp_rte f n (sp_vn8 f n P.1 P.2) else (sp_vn4 f n P.1 P.2, P.2)
noncomputable def sq_van : (Nat → Int32) → Nat → xLk → xLk := sq_op sq_van_z
theorem sq_van_u {f : Nat → Int32} {n : Nat} {P : xLk} : sq_van f n P = if (sp_vn4 f n P.1 P.2).2.2.2.1 = 0 then sp_rte f n (sp_vn8 f n P.1 P.2) else (sp_vn4 f n P.1 P.2, P.2) := congrFun (congrFun (congrFun (sq_op_eq (a := sq_van_z)) f) n) P
theorem sp_rte_a {f : Nat → Int32} {n : Nat} {P : xLk} : (sp_rte f n P).1 = sp_exp2 f n (sp_vn9 f P) 59 := congrArg Prod.fst sp_rte_u
theorem sp_rte_b {f : Nat → Int32} {n : Nat} {P : xLk} : (sp_rte f n P).2 = P.2 := by rw [sp_rte_u]
theorem kSn_cnt {r : Nat → Int32} (hS : kSn r) (h1 : 1 ≤ xnv r) : r 1 = nI ((xnv r - 1) + 1) ∧ r (13 + 11 * (xnv r - 1)) = nI (xst r (xnv r - 1)) ∧ xst r (xnv r - 1) < 9 ∧ xnv r - 1 < 4 := by
  have hB := hS.1
  have hv4 := hB.v4
  have hx := (hS.2.2.1 (xnv r - 1) (by omega)).2.2.1
  refine ⟨?_, hx.1, hx.2, by omega⟩
  rw [show xnv r - 1 + 1 = xnv r by omega]
  exact hB.v
section RV
variable {w : xW} {l : Nat → Nat → Int64} {t : Nat} {sc : xm_Sc} {d n : Nat} {T : xTk} {r : Nat → Int32}
theorem z282_72 (hn : (w 3).1 7 = nI n) (h8 : n ≤ 800) {i1 : Int32} {v2 v3 : Value} : ∀ k (T : xTk) (r : Nat → Int32), kSn r → 1 ≤ xnv r → sp_tw ((w 3).2 8) n T → (T.2.2.2.1 = 0 → xst r (xnv r - 1) + k = 9) → xm_R sc xt_M (d + 5) 282 72 [.ref 191, .int i1, v2, v3] [] (xem (xPw (xRs w r) T) l t) = xm_R sc xt_M (d + 5) 282 94 [.ref 191, .int i1, v2, v3] [] (xem (xPw (xRs w (sp_stops ((w 3).2 8) n k (T, r)).2) (sp_stops ((w 3).2 8) n k (T, r)).1) l t) := by
  intro k
  induction k with
  | zero =>
    intro T r hS h1 hT hk
    obtain ⟨_, _, h9, _⟩ := kSn_cnt hS h1
    rw [sp_stops_0, yb_282_72, xgPb, zbs, if_neg (fun z => absurd (hk z) (by omega))]
  | succ k ih =>
    intro T r hS h1 hT hk
    rw [sp_stops_s, yb_282_72, xgPb, zbs]
    by_cases h : T.2.2.2.1 = 0
    · rw [if_pos h, xgPa, zbs]
      by_cases h2 : T.2.2.1 = 2
      · obtain ⟨a1, a2, a3, a4, a5, a6⟩ := @sp_stop_ok ((w 3).2 8) n T r hS h1 hT
        rw [if_pos h2, if_pos xiM, zc_283 hn h8 hT hS h1, zbs, xk_v, if_pos (show (T, r).1.2.2.2.1 = 0 ∧ (T, r).1.2.2.1 = 2 from ⟨h, h2⟩)]
        have := hk h
        have z := ih _ _ a1 (by rw [a3]; exact h1) a2 (fun z => by rw [a3, a6 z]; omega)
        rw [xLe (sq_stop ((w 3).2 8) n (T, r))] at z
        exact z
      · rw [if_neg h2, if_neg (show ¬ ((T, r).1.2.2.2.1 = 0 ∧ (T, r).1.2.2.1 = 2) from fun z => h2 z.2)]
    · rw [if_neg h, if_neg (show ¬ ((T, r).1.2.2.2.1 = 0 ∧ (T, r).1.2.2.1 = 2) from fun z => h z.1)]
theorem z282_94 (hn : (w 3).1 7 = nI n) (h8 : n ≤ 800) {i1 : Int32} {v2 v3 : Value} (hS : kSn r) (h1 : 1 ≤ xnv r) (hT : sp_tw ((w 3).2 8) n T) (hm1 : T.2.2.2.1 = 0 → 1 ≤ xst r (xnv r - 1)) : xm_R sc xt_M (d + 5) 282 94 [.ref 191, .int i1, v2, v3] [] (xem (xPw (xRs w r) T) l t) = some (.inl none, xem (xPw (xRs w (sp_rte ((w 3).2 8) n (T, r)).2) (sp_rte ((w 3).2 8) n (T, r)).1) l t) := by
  obtain ⟨hv, hm, h9, h4⟩ := kSn_cnt hS h1
  rw [sp_rte_u]
  dsimp only
  have c273 := fun b => @zc_273 (xRs w r) l t sc (d + 3) T b 4
  have c279 := fun b => @zl_279 w l t sc d n (sp_check T b 4) r 59 hn h8 (sp_tw_check hT)
  rw [yb_282_94, xgM_5, zbs, zl_1, zbs, hv, nI_pred, if_pos xiM, zl_275 h8 hT, zbs, xk_I]
  rw [sp_vn9_u]
  dsimp only
  by_cases hs : sp_sym ((w 3).2 8) T 59
  · have g1 := hm1 hs.1
    obtain ⟨q, hq⟩ : ∃ q, xst r (xnv r - 1) = q + 1 := ⟨xst r (xnv r - 1) - 1, by omega⟩
    have e1 : (3 + nI (q + 1)) - 1 = 3 + nI q := by
      rw [show (3 : Int32) + nI (q + 1) = nI (3 + q + 1) from zA (a := 3) (b := q + 1), nI_pred, show (3 : Int32) + nI q = nI (3 + q) from zA (a := 3) (b := q)]
    have e2 : 15 + 11 * (xnv r - 1) + q = 14 + 11 * (xnv r - 1) + (q + 1) := by omega
    have c0 := @zl_161_s w l t sc (d + 4) T r (xnv r - 1) 0 h4 (by omega)
    rw [show (3 : Int32) + nI 0 = 3 by decide] at c0
    rw [zB_tt hs, if_neg (show ¬ (1 : Int32) = 0 by decide), if_pos xiM, c0, zbs, xk_I, if_pos xiM, zl_161_1 h4, zbs, xk_I, hm, hq, e1, if_pos xiM, zl_161_s h4 (by omega), zbs, xk_I, e2, Nat.add_zero]
    by_cases h : r (15 + 11 * (xnv r - 1)) = r (14 + 11 * (xnv r - 1) + (q + 1))
    · rw [if_pos h, if_pos (c := sp_sym ((w 3).2 8) T 59 ∧ r (15 + 11 * (xnv r - 1)) = r (14 + 11 * (xnv r - 1) + (q + 1))) ⟨hs, h⟩, if_pos xiM, c273, zbs, xk_v, if_pos xiM, c279, zbs, xk_v]
    · rw [if_neg h, if_neg (c := sp_sym ((w 3).2 8) T 59 ∧ r (15 + 11 * (xnv r - 1)) = r (14 + 11 * (xnv r - 1) + (q + 1))) (fun z => h z.2), if_pos xiM, c273, zbs, xk_v, if_pos xiM, c279, zbs, xk_v]
  · rw [zB_ff hs, if_pos rfl, if_neg (c := sp_sym ((w 3).2 8) T 59 ∧ r (15 + 11 * (xnv r - 1)) = r (14 + 11 * (xnv r - 1) + xst r (xnv r - 1))) (fun z => hs z.1), if_pos xiM, c273, zbs, xk_v, if_pos xiM, c279, zbs, xk_v]
/-- without an error a van's counts fit -/
theorem sp_vn4_ok {f : Nat → Int32} (hT : sp_tw f n T) (hS : kSn r) (h : (sp_vn4 f n T r).2.2.2.1 = 0) : xnv r < 4 ∧ T.2.2.2.1 = 0 ∧ sp_wrd f T 35 ∧ sp_vn3 f n T r = sp_adv f n T ∧ (sp_adv f n T).2.2.1 = 2 ∧ xil (sp_rnV f n (sp_vn3 f n T r) 1 9) 10 ∧ ¬ sp_rnV f n (sp_vn3 f n T r) 1 9 = 0 ∧ sp_vn4 f n T r = sp_adv f n (sp_adv f n T) := by
  rw [sp_vn4_u] at h
  obtain ⟨h1, h2, h3, h4, h5⟩ := sp_rnT_ok h
  have h1' := h1
  rw [sp_vn3_u] at h1'
  rw [sp_adv_err] at h1'
  rw [sp_vn2_u] at h1'
  obtain ⟨g1, g2, g3⟩ := sp_check_ok (by decide) h1'
  have g1' := g1
  rw [sp_vn1_u] at g1'
  obtain ⟨k1, k2, k3⟩ := sp_check_ok (by decide) g1'
  have e1 : sp_vn1 f T = T := sp_vn1_u.trans k3
  have e3 : sp_vn3 f n T r = sp_adv f n T := by
    rw [sp_vn3_u, sp_vn2_u]
    rw [g3, e1]
  have r0 := @sp_rnV_rng f n (sp_vn3 f n T r) 1 9 (by decide)
  refine ⟨Decidable.byContradiction fun z => g2 (if_pos ⟨g1, by omega⟩), k1, Decidable.byContradiction fun z => k2 (zB_ff z), e3, by rw [← e3]; exact h2, ?_, ?_, ?_⟩
  · exact zrg2 (m := 10) (by omega) ⟨Int32.le_trans (by decide) r0.1, Int32.le_trans r0.2 (by decide)⟩
  · intro z
    rw [z] at r0
    exact absurd r0.1 (by decide)
  · rw [sp_vn4_u]
    rw [h4, e3]
theorem sp_vn2_tw {f : Nat → Int32} (hT : sp_tw f n T) : sp_tw f n (sp_vn2 f T r) := by
  rw [sp_vn2_u, sp_vn1_u]
  exact sp_tw_check (sp_tw_check hT)
theorem sp_vn3_tw {f : Nat → Int32} (hT : sp_tw f n T) : sp_tw f n (sp_vn3 f n T r) := by
  rw [sp_vn3_u]
  exact sp_tw_adv (sp_vn2_tw hT)
theorem sp_vn4_tw {f : Nat → Int32} (hT : sp_tw f n T) : sp_tw f n (sp_vn4 f n T r) := by
  rw [sp_vn4_u]
  exact sp_tw_rn (sp_vn3_tw hT)
/-- the two first stops -/
theorem sp_two {f : Nat → Int32} {v : Nat} (hS : kSn r) (hv : xnv r = v + 1) (h0 : xst r v = 0) (hT : sp_tw f n T) : kSn (sq_stop f n (sq_stop f n (T, r))).2 ∧ sp_tw f n (sq_stop f n (sq_stop f n (T, r))).1 ∧ xnv (sq_stop f n (sq_stop f n (T, r))).2 = v + 1 ∧ (∀ u, u ≠ v → u < 4 → xst (sq_stop f n (sq_stop f n (T, r))).2 u = xst r u) ∧ ((sq_stop f n (sq_stop f n (T, r))).1.2.2.2.1 = 0 → xst (sq_stop f n (sq_stop f n (T, r))).2 v = 2) := by
  obtain ⟨a1, a2, a3, a4, a5, a6⟩ := @sp_stop_ok f n T r hS (by omega) hT
  have ev : xnv r - 1 = v := by omega
  rw [ev] at a4 a5 a6
  have hprev : (sq_stop f n (sq_stop f n (T, r))).1.2.2.2.1 = 0 → (sq_stop f n (T, r)).1.2.2.2.1 = 0 := fun z => Decidable.byContradiction fun y => by
    have := @sp_stop_e f n (sq_stop f n (T, r)).1 (sq_stop f n (T, r)).2 y
    rw [xLe (sq_stop f n (T, r))] at this
    rw [this] at z
    exact y z
  generalize sq_stop f n (T, r) = P at *
  obtain ⟨b1, b2, b3, b4, b5, b6⟩ := @sp_stop_ok f n P.1 P.2 a1 (by omega) a2
  have ev2 : xnv P.2 - 1 = v := by omega
  rw [ev2] at b4 b5 b6
  refine ⟨b1, b2, by rw [show sq_stop f n P = sq_stop f n (P.1, P.2) from rfl, b3, a3, hv], fun u h1 h2 => (b4 u h1 h2).trans (a4 u h1 h2), fun z => ?_⟩
  rw [show sq_stop f n P = sq_stop f n (P.1, P.2) from rfl, b6 z, a6 (hprev z), h0]
theorem zc_282 (hn : (w 3).1 7 = nI n) (h8 : n ≤ 800) (hT : sp_tw ((w 3).2 8) n T) (hS : kSn r) : xm_C sc xt_M (d + 6) 282 [.ref 191] (xem (xPw (xRs w r) T) l t) = some (.inl none, xem (xPw (xRs w (sq_van ((w 3).2 8) n (T, r)).2) (sq_van ((w 3).2 8) n (T, r)).1) l t) := by
  have hB := hS.1
  have hv4 := hB.v4
  have c1 := @zc_273 (xRs w r) l t sc (d + 3) T (zB (sp_wrd ((w 3).2 8) T 35)) 1
  have c3 := fun b => @zc_273 (xRs w r) l t sc (d + 3) (sp_vn1 ((w 3).2 8) T) b 3
  have hT2 := @sp_vn2_tw n T r ((w 3).2 8) hT
  have hT3 := @sp_vn3_tw n T r ((w 3).2 8) hT
  have hT4 := @sp_vn4_tw n T r ((w 3).2 8) hT
  have e1 : sp_check T (zB (sp_wrd ((w 3).2 8) T 35)) 1 = sp_vn1 ((w 3).2 8) T := sp_vn1_u.symm
  rw [e1] at c1
  have e2 : ∀ b, b = (if (sp_vn1 ((w 3).2 8) T).2.2.2.1 = 0 ∧ 4 ≤ xnv r then 0 else 1) → sp_check (sp_vn1 ((w 3).2 8) T) b 3 = sp_vn2 ((w 3).2 8) T r := fun b hb => by rw [hb]; exact sp_vn2_u.symm
  have c5 := @zl_274 w l t sc (d + 1) n (sp_vn2 ((w 3).2 8) T r) r hn h8 hT2.1
  have e3 : sp_adv ((w 3).2 8) n (sp_vn2 ((w 3).2 8) T r) = sp_vn3 ((w 3).2 8) n T r := sp_vn3_u.symm
  rw [e3] at c5
  have c6 := @zl_281 w l t sc d n (sp_vn3 ((w 3).2 8) n T r) r 1 9 hn h8 hT3
  have e4 : sp_rnT ((w 3).2 8) n (sp_vn3 ((w 3).2 8) n T r) 1 9 = sp_vn4 ((w 3).2 8) n T r := sp_vn4_u.symm
  rw [e4] at c6
  rw [yc_282, if_pos xiM, zl_276 (by decide) h8 hT, zbs, xk_I, if_pos xiM, c1, zbs, xk_v, xgPb, zbs]
  by_cases h : (sp_vn1 ((w 3).2 8) T).2.2.2.1 = 0
  · rw [if_pos h, xgM_5, zbs, zl_1, zbs, hB.v]
    by_cases h2 : 4 ≤ xnv r
    · have hne : ¬ (sp_vn4 ((w 3).2 8) n T r).2.2.2.1 = 0 := fun z => absurd (sp_vn4_ok hT hS z).1 (by omega)
      rw [if_pos (show (4 : Int32) ≤ nI (xnv r) from nI_le (a := 4) h2 (by omega)), if_pos xiM, c3, e2 0 (if_pos ⟨h, h2⟩).symm, zbs, xk_v, if_pos xiM, c5, zbs, xk_v, if_pos xiM, c6, zbs, xk_I, xgPb, zbs, if_neg hne]
      rw [sq_van_u]
      rw [if_neg (show ¬ (sp_vn4 ((w 3).2 8) n (T, r).1 (T, r).2).2.2.2.1 = 0 from hne)]
    · rw [if_neg (show ¬ (4 : Int32) ≤ nI (xnv r) from nI_ge (a := xnv r) (b := 4) (by omega) (by omega)), if_pos xiM, c3, e2 1 (if_neg (fun z => h2 z.2)).symm, zbs, xk_v, if_pos xiM, c5, zbs, xk_v, if_pos xiM, c6, zbs, xk_I, xgPb, zbs]
      rw [sq_van_u]
      dsimp only
      by_cases h0 : (sp_vn4 ((w 3).2 8) n T r).2.2.2.1 = 0
      · obtain ⟨o1, o2, o3, o4, o5, o6, o7, o8⟩ := sp_vn4_ok hT hS h0
        obtain ⟨s1, s2, s3, s4, s5, s6⟩ := kSn_V hS rfl o1 o6 o7
        have e5 : sp_addV r (xnv r) (sp_rnV ((w 3).2 8) n (sp_vn3 ((w 3).2 8) n T r) 1 9) = sp_vn5 ((w 3).2 8) n T r := sp_vn5_u.symm
        have c7 := @zl_172 w l t sc (d + 3) (sp_vn4 ((w 3).2 8) n T r) r (xnv r) (sp_rnV ((w 3).2 8) n (sp_vn3 ((w 3).2 8) n T r) 1 9) hB.v o1
        rw [e5] at c7 s1 s2 s3
        obtain ⟨a1, a2, a3, a4, a5, a6⟩ := @sp_stop_ok ((w 3).2 8) n (sp_vn4 ((w 3).2 8) n T r) (sp_vn5 ((w 3).2 8) n T r) s1 (by omega) hT4
        obtain ⟨b1, b2, b3, b4, b5⟩ := @sp_two n (sp_vn4 ((w 3).2 8) n T r) (sp_vn5 ((w 3).2 8) n T r) ((w 3).2 8) (xnv r) s1 s2 s3 hT4
        have c8 := @zc_283 w l t sc d n (sp_vn4 ((w 3).2 8) n T r) (sp_vn5 ((w 3).2 8) n T r) hn h8 hT4 s1 (by omega)
        have c9 := @zc_283 w l t sc d n (sq_stop ((w 3).2 8) n (sp_vn4 ((w 3).2 8) n T r, sp_vn5 ((w 3).2 8) n T r)).1 (sq_stop ((w 3).2 8) n (sp_vn4 ((w 3).2 8) n T r, sp_vn5 ((w 3).2 8) n T r)).2 hn h8 a2 a1 (by omega)
        rw [if_pos h0, if_pos h0, if_pos xiM, c7, zbs, xk_v, if_pos xiM, c8, zbs, xk_v, if_pos xiM, c9, zbs, xk_v]
        have e6 := xLe (sq_stop ((w 3).2 8) n (sp_vn4 ((w 3).2 8) n T r, sp_vn5 ((w 3).2 8) n T r))
        have e7 : sp_stops ((w 3).2 8) n 7 (sq_stop ((w 3).2 8) n (sq_stop ((w 3).2 8) n (sp_vn4 ((w 3).2 8) n T r, sp_vn5 ((w 3).2 8) n T r))) = sp_vn8 ((w 3).2 8) n T r := sp_vn8_u.symm
        rw [e6]
        generalize hP : sq_stop ((w 3).2 8) n (sq_stop ((w 3).2 8) n (sp_vn4 ((w 3).2 8) n T r, sp_vn5 ((w 3).2 8) n T r)) = P at *
        obtain ⟨P1, P2⟩ := P
        have hv1 : xnv P2 - 1 = xnv r := by have : xnv P2 = xnv r + 1 := b3; omega
        obtain ⟨q1, q2, q3, q4, q5⟩ := @sp_stops_ok ((w 3).2 8) n 7 P1 P2 b1 (by have : xnv P2 = xnv r + 1 := b3; omega) b2
        have z := @z282_72 w l t sc d n hn h8 (sp_rnV ((w 3).2 8) n (sp_vn3 ((w 3).2 8) n T r) 1 9) .null .null 7 P1 P2 b1 (by have : xnv P2 = xnv r + 1 := b3; omega) b2 (fun y => by rw [hv1, b5 y])
        have hz : (sp_vn8 ((w 3).2 8) n T r).1.2.2.2.1 = 0 → 1 ≤ xst (sp_vn8 ((w 3).2 8) n T r).2 (xnv (sp_vn8 ((w 3).2 8) n T r).2 - 1) := by
          intro y
          rw [← e7] at y ⊢
          have p0 : P1.2.2.2.1 = 0 := Decidable.byContradiction fun x => by
            have : sp_stops ((w 3).2 8) n 7 (P1, P2) = (P1, P2) := by
              rw [sp_stops_s, if_neg (show ¬ ((P1, P2).1.2.2.2.1 = 0 ∧ (P1, P2).1.2.2.1 = 2) from fun g => x g.1)]
            rw [this] at y
            exact x y
          have := b5 p0
          have h2 : xst P2 (xnv r) = 2 := this
          rw [q3, hv1]
          rw [hv1] at q5
          omega
        rw [e7] at z q1 q2 q3
        refine z.trans (z282_94 hn h8 q1 ?_ q2 hz)
        have : xnv P2 = xnv r + 1 := b3
        omega
      · rw [if_neg h0, if_neg h0]
  · have hne : ¬ (sp_vn4 ((w 3).2 8) n T r).2.2.2.1 = 0 := fun z => by
      obtain ⟨_, k1, k2, _⟩ := sp_vn4_ok hT hS z
      apply h
      rw [sp_vn1_u]
      rw [zB_tt k2]
      exact k1
    rw [if_neg h, if_pos xiM, c3, e2 1 (if_neg (fun z => h z.1)).symm, zbs, xk_v, if_pos xiM, c5, zbs, xk_v, if_pos xiM, c6, zbs, xk_I, xgPb, zbs, if_neg hne]
    rw [sq_van_u]
    rw [if_neg (show ¬ (sp_vn4 ((w 3).2 8) n (T, r).1 (T, r).2).2.2.2.1 = 0 from hne)]
end RV
