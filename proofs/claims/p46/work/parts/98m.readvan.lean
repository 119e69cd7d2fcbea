/-! THE REFERENCE reads: what an error leaves, a van -/
theorem xLe (P : xLk) : (P.1, P.2) = P := rfl
section ER
variable {f : Nat → Int32} {n : Nat} {T : xTk} {r : Nat → Int32} {b c lo hi : Int32}
theorem sp_flaw_e (h : ¬ T.2.2.2.1 = 0) : sp_flaw T c = T := if_neg h
theorem sp_check_e (h : ¬ T.2.2.2.1 = 0) : sp_check T b c = T := by
  unfold sp_check
  split
  · exact sp_flaw_e h
  · rfl
theorem sp_adv_e (h : ¬ T.2.2.2.1 = 0) : sp_adv f n T = T := if_neg h
theorem sp_rn1_e (h : ¬ T.2.2.2.1 = 0) : sp_rn1 T = T := sp_check_e h
theorem sp_rn2_e (h : ¬ T.2.2.2.1 = 0) : sp_rn2 f T lo hi = T := by
  unfold sp_rn2
  rw [sp_rn1_e h, sp_check_e h]
theorem sp_rnT_e (h : ¬ T.2.2.2.1 = 0) : sp_rnT f n T lo hi = T := by
  unfold sp_rnT
  rw [sp_rn2_e h, sp_adv_e h]
theorem sp_exp2_e (h : ¬ T.2.2.2.1 = 0) : sp_exp2 f n T c = T := by
  unfold sp_exp2
  rw [sp_check_e h, sp_adv_e h]
theorem sp_stop_e (h : ¬ T.2.2.2.1 = 0) : sq_stop f n (T, r) = (T, r) := by
  have e2 : sp_st2 f T r = T := sp_st2_u.trans (sp_rn2_e h)
  have e3 : sp_st3 f T r = T := by
    rw [sp_st3_u]
    rw [e2, sp_check_e h]
  have e4 : sp_st4 f T r = T := by
    rw [sp_st4_u]
    rw [e3, sp_check_e h]
  rw [sq_stop_u]
  dsimp only
  rw [e4, sp_adv_e h, if_neg h]
theorem sp_check_ok (hc : ¬ c = 0) (h : (sp_check T b c).2.2.2.1 = 0) : T.2.2.2.1 = 0 ∧ ¬ b = 0 ∧ sp_check T b c = T := by
  unfold sp_check sp_flaw at h
  by_cases hb : b = 0
  · rw [if_pos hb] at h
    by_cases h0 : T.2.2.2.1 = 0
    · rw [if_pos h0] at h
      exact absurd h hc
    · rw [if_neg h0] at h
      exact absurd h h0
  · rw [if_neg hb] at h
    exact ⟨h, hb, if_neg hb⟩
theorem sp_adv_err : (sp_adv f n T).2.2.2 = T.2.2.2 := by
  unfold sp_adv
  split
  · unfold sp_scan sp_scS
    split
    · split
      · rfl
      · split <;> rfl
    · rfl
  · rfl
theorem sp_rn2_ok (h : (sp_rn2 f T lo hi).2.2.2.1 = 0) : T.2.2.2.1 = 0 ∧ T.2.2.1 = 2 ∧ (lo ≤ sp_val f T ∧ sp_val f T ≤ hi) ∧ sp_rn2 f T lo hi = T := by
  unfold sp_rn2 at h
  obtain ⟨h1, h2, h3⟩ := sp_check_ok (by decide) h
  have h1' := h1
  unfold sp_rn1 at h1'
  obtain ⟨g1, g2, g3⟩ := sp_check_ok (by decide) h1'
  have e : sp_rn1 T = T := g3
  rw [e] at h2
  have k2 : T.2.2.1 = 2 := Decidable.byContradiction fun z => g2 (if_pos ⟨g1, z⟩)
  have k3 : lo ≤ sp_val f T ∧ sp_val f T ≤ hi := Decidable.byContradiction fun z => h2 (if_pos ⟨g1, z⟩)
  exact ⟨g1, k2, k3, h3.trans e⟩
theorem sp_rnT_ok (h : (sp_rnT f n T lo hi).2.2.2.1 = 0) : T.2.2.2.1 = 0 ∧ T.2.2.1 = 2 ∧ (lo ≤ sp_val f T ∧ sp_val f T ≤ hi) ∧ sp_rnT f n T lo hi = sp_adv f n T ∧ sp_rnV f n T lo hi = sp_val f T := by
  have h0 := h
  unfold sp_rnT at h
  rw [sp_adv_err] at h
  obtain ⟨h1, h2, h3, h4⟩ := sp_rn2_ok h
  refine ⟨h1, h2, h3, ?_, ?_⟩
  · unfold sp_rnT
    rw [h4]
  · unfold sp_rnV
    rw [if_pos h0]
    exact sp_val_check
theorem sp_rnV_rng (hl : lo ≤ hi) : lo ≤ sp_rnV f n T lo hi ∧ sp_rnV f n T lo hi ≤ hi := by
  by_cases h : (sp_rnT f n T lo hi).2.2.2.1 = 0
  · obtain ⟨_, _, h3, _, h5⟩ := sp_rnT_ok h
    rw [h5]
    exact h3
  · unfold sp_rnV
    rw [if_neg h]
    exact ⟨Int32.le_refl _, hl⟩
theorem sp_exp2_ok (h : (sp_exp2 f n T c).2.2.2.1 = 0) : sp_sym f T c ∧ sp_exp2 f n T c = sp_adv f n T := by
  unfold sp_exp2 at h ⊢
  rw [sp_adv_err] at h
  obtain ⟨h1, h2, h3⟩ := sp_check_ok (by decide) h
  refine ⟨Decidable.byContradiction fun z => h2 (zB_ff z), ?_⟩
  rw [h3]
/-- a stop without an error -/
theorem sp_st4_ok (h : (sp_st4 f T r).2.2.2.1 = 0) : T.2.2.2.1 = 0 ∧ T.2.2.1 = 2 ∧ (0 ≤ sp_val f T ∧ sp_val f T ≤ r 0 - 1) ∧ xst r (xnv r - 1) < 8 ∧ (xst r (xnv r - 1) = 0 ∨ ¬ r (14 + 11 * (xnv r - 1) + xst r (xnv r - 1)) = sp_val f T) ∧ sp_st4 f T r = T := by
  rw [sp_st4_u] at h
  obtain ⟨h1, h2, h3⟩ := sp_check_ok (by decide) h
  have h1' := h1
  rw [sp_st3_u] at h1'
  obtain ⟨g1, g2, g3⟩ := sp_check_ok (by decide) h1'
  have g1' := g1
  rw [sp_st2_u] at g1'
  obtain ⟨k1, k2, k3, k4⟩ := sp_rn2_ok g1'
  refine ⟨k1, k2, k3, Decidable.byContradiction fun z => g2 (if_pos ⟨g1, by omega⟩), ?_, sp_st4_u.trans (h3.trans (sp_st3_u.trans (g3.trans (sp_st2_u.trans k4))))⟩
  by_cases z : xst r (xnv r - 1) = 0
  · exact Or.inl z
  · exact Or.inr (fun y => h2 (if_pos ⟨h1, z, y⟩))
theorem zrg2 {x : Int32} {m : Nat} (hm : m < 2 ^ 31) (h : 0 ≤ x ∧ x ≤ nI m - 1) : xil x m := by
  obtain ⟨i, hi, e⟩ := zrg hm h
  rw [e]
  exact xil_nI hi hm
/-- a stop more, a van more: the row stays sound -/
theorem kSn_S {v m : Nat} {x : Int32} (hS : kSn r) (hv : xnv r = v + 1) (hm : xst r v = m) (h8 : m < 8) (hx : xil x (xnb r)) : kSn (sp_addS r v m x) ∧ xnv (sp_addS r v m x) = xnv r ∧ xst (sp_addS r v m x) v = m + 1 ∧ (∀ u, u ≠ v → u < 4 → xst (sp_addS r v m x) u = xst r u) ∧ xnk (sp_addS r v m x) = xnk r ∧ xnb (sp_addS r v m x) = xnb r ∧ sp_addS r v m x (15 + 11 * v + m) = x ∧ (∀ s, s < m → sp_addS r v m x (15 + 11 * v + s) = r (15 + 11 * v + s)) := by
  obtain ⟨hB, hb2, h3, h4, h5, h6, n3, n4, n5, nb, nv, nk⟩ := hS
  have hv4 := hB.v4
  have hk20 := hB.k20
  have e : ∀ j, j ≠ 13 + 11 * v → j ≠ 15 + 11 * v + m → sp_addS r v m x j = r j := fun j h1 h2 => (zun h1).trans (zun h2)
  have ex : sp_addS r v m x (15 + 11 * v + m) = x := (zun (by omega)).trans zu1
  have es' : sp_addS r v m x (13 + 11 * v) = nI (m + 1) := zu1
  have e0 : xnb (sp_addS r v m x) = xnb r := by unfold xnb; rw [e 0 (by omega) (by omega)]
  have e1 : xnv (sp_addS r v m x) = xnv r := by unfold xnv; rw [e 1 (by omega) (by omega)]
  have e2 : xnk (sp_addS r v m x) = xnk r := by unfold xnk; rw [e 2 (by omega) (by omega)]
  have e3 : xnq (sp_addS r v m x) = xnq r := by unfold xnq; rw [e 3 (by omega) (by omega)]
  have ev : xst (sp_addS r v m x) v = m + 1 := by unfold xst; rw [es', nI_clamp (by omega)]
  have eu : ∀ u, u ≠ v → u < 4 → xst (sp_addS r v m x) u = xst r u := fun u h1 h2 => by unfold xst; rw [e (13 + 11 * u) (by omega) (by omega)]
  refine ⟨⟨?_, ⟨by rw [e0]; exact hb2.1, fun b hb => by rw [e (6 + b) (by omega) (by omega)]; exact hb2.2 b hb⟩, fun u hu => ?_, fun u h1 h2 => ?_, fun k hk => ?_, fun k h1 h2 => ?_, ?_, ?_, ?_, fun b hb => ?_, fun u hu => ?_, fun k hk => ?_⟩, e1, ev, eu, e2, e0, ex, fun s hs => e _ (by omega) (by omega)⟩
  · unfold xBd
    rw [e0, e1, e2, e3, e 0 (by omega) (by omega), e 1 (by omega) (by omega), e 2 (by omega) (by omega), e 3 (by omega) (by omega)]
    exact hB
  · rw [e1] at hu
    obtain ⟨a1, a2, a3, a4⟩ := h3 u hu
    rw [e0, e (12 + 11 * u) (by omega) (by omega)]
    by_cases g : u = v
    · subst g
      rw [es', ev]
      refine ⟨a1, a2, xil_nI (by omega) (by omega), fun s hs => ?_⟩
      by_cases z : s = m
      · subst z
        rw [ex]
        exact hx
      · rw [e (15 + 11 * u + s) (by omega) (by omega)]
        exact a4 s (by omega)
    · rw [e (13 + 11 * u) (by omega) (by omega), eu u g (by omega)]
      refine ⟨a1, a2, a3, fun s hs => ?_⟩
      have : xst r u < 9 := a3.2
      rw [e (15 + 11 * u + s) (by omega) (by omega)]
      exact a4 s hs
  · rw [e1] at h1
    rw [e (13 + 11 * u) (by omega) (by omega), e (14 + 11 * u) (by omega) (by omega)]
    exact h4 u h1 h2
  · rw [e2] at hk
    rw [e0, e (58 + 6 * k) (by omega) (by omega)]
    exact h5 k hk
  · rw [e2] at h1
    rw [e (59 + 6 * k) (by omega) (by omega)]
    exact h6 k h1 h2
  · rw [e 3 (by omega) (by omega)]; exact n3
  · rw [e 4 (by omega) (by omega)]; exact n4
  · rw [e 5 (by omega) (by omega)]; exact n5
  · rw [e0] at hb
    have := hB.b6
    rw [e (6 + b) (by omega) (by omega)]
    exact nb b hb
  · rw [e1] at hu
    rw [e (14 + 11 * u) (by omega) (by omega)]
    exact nv u hu
  · rw [e2] at hk
    rw [e (56 + 6 * k) (by omega) (by omega), e (57 + 6 * k) (by omega) (by omega), e (58 + 6 * k) (by omega) (by omega), e (59 + 6 * k) (by omega) (by omega), e (60 + 6 * k) (by omega) (by omega), e (61 + 6 * k) (by omega) (by omega)]
    exact nk k hk
theorem kSn_V {v : Nat} {x : Int32} (hS : kSn r) (hv : xnv r = v) (h4v : v < 4) (hx : xil x 10) (hx0 : ¬ x = 0) : kSn (sp_addV r v x) ∧ xnv (sp_addV r v x) = v + 1 ∧ xst (sp_addV r v x) v = 0 ∧ (∀ u, u < v → xst (sp_addV r v x) u = xst r u) ∧ xnk (sp_addV r v x) = xnk r ∧ xnb (sp_addV r v x) = xnb r := by
  obtain ⟨hB, hb2, h3, h4, h5, h6, n3, n4, n5, nb, nv, nk⟩ := hS
  have hk20 := hB.k20
  have e : ∀ j, j ≠ 1 → j ≠ 12 + 11 * v → sp_addV r v x j = r j := fun j h1 h2 => (zun h1).trans (zun h2)
  have e1' : sp_addV r v x 1 = nI (v + 1) := zu1
  have ex : sp_addV r v x (12 + 11 * v) = x := (zun (by omega)).trans zu1
  have e0 : xnb (sp_addV r v x) = xnb r := by unfold xnb; rw [e 0 (by omega) (by omega)]
  have e1 : xnv (sp_addV r v x) = v + 1 := by unfold xnv; rw [e1', nI_clamp (by omega)]
  have e2 : xnk (sp_addV r v x) = xnk r := by unfold xnk; rw [e 2 (by omega) (by omega)]
  have e3 : xnq (sp_addV r v x) = xnq r := by unfold xnq; rw [e 3 (by omega) (by omega)]
  have es0 : r (13 + 11 * v) = 0 ∧ r (14 + 11 * v) = 0 := h4 v (by omega) h4v
  have ev : xst (sp_addV r v x) v = 0 := by unfold xst; rw [e (13 + 11 * v) (by omega) (by omega), es0.1]; rfl
  have eu : ∀ u, xst (sp_addV r v x) u = xst r u := fun u => by unfold xst; rw [e (13 + 11 * u) (by omega) (by omega)]
  refine ⟨⟨?_, ⟨by rw [e0]; exact hb2.1, fun b hb => by rw [e (6 + b) (by omega) (by omega)]; exact hb2.2 b hb⟩, fun u hu => ?_, fun u h1 h2 => ?_, fun k hk => ?_, fun k h1 h2 => ?_, ?_, ?_, ?_, fun b hb => ?_, fun u hu => ?_, fun k hk => ?_⟩, e1, ev, fun u hu => eu u, e2, e0⟩
  · unfold xBd
    rw [e0, e1, e2, e3, e 0 (by omega) (by omega), e1', e 2 (by omega) (by omega), e 3 (by omega) (by omega)]
    exact ⟨hB.1, ⟨rfl, by omega⟩, hB.2.2⟩
  · rw [e1] at hu
    rw [e0, e (13 + 11 * u) (by omega) (by omega)]
    by_cases g : u = v
    · subst g
      rw [ex, es0.1, ev]
      exact ⟨hx, hx0, xil_nI (n := 0) (by omega) (by omega), fun s hs => absurd hs (Nat.not_lt_zero s)⟩
    · obtain ⟨a1, a2, a3, a4⟩ := h3 u (by omega)
      rw [e (12 + 11 * u) (by omega) (by omega), eu u]
      refine ⟨a1, a2, a3, fun s hs => ?_⟩
      have : xst r u < 9 := a3.2
      rw [e (15 + 11 * u + s) (by omega) (by omega)]
      exact a4 s hs
  · rw [e1] at h1
    rw [e (13 + 11 * u) (by omega) (by omega), e (14 + 11 * u) (by omega) (by omega)]
    exact h4 u (by omega) h2
  · rw [e2] at hk
    rw [e0, e (58 + 6 * k) (by omega) (by omega)]
    exact h5 k hk
  · rw [e2] at h1
    rw [e (59 + 6 * k) (by omega) (by omega)]
    exact h6 k h1 h2
  · rw [e 3 (by omega) (by omega)]; exact n3
  · rw [e 4 (by omega) (by omega)]; exact n4
  · rw [e 5 (by omega) (by omega)]; exact n5
  · rw [e0] at hb
    have := hB.b6
    rw [e (6 + b) (by omega) (by omega)]
    exact nb b hb
  · rw [e1] at hu
    rw [e (14 + 11 * u) (by omega) (by omega)]
    by_cases g : u = v
    · subst g
      exact es0.2
    · exact nv u (by omega)
  · rw [e2] at hk
    rw [e (56 + 6 * k) (by omega) (by omega), e (57 + 6 * k) (by omega) (by omega), e (58 + 6 * k) (by omega) (by omega), e (59 + 6 * k) (by omega) (by omega), e (60 + 6 * k) (by omega) (by omega), e (61 + 6 * k) (by omega) (by omega)]
    exact nk k hk
/-- what reading a stop leaves -/
theorem sp_stop_ok (hS : kSn r) (h1 : 1 ≤ xnv r) (hT : sp_tw f n T) : kSn (sq_stop f n (T, r)).2 ∧ sp_tw f n (sq_stop f n (T, r)).1 ∧ xnv (sq_stop f n (T, r)).2 = xnv r ∧ (∀ u, u ≠ xnv r - 1 → u < 4 → xst (sq_stop f n (T, r)).2 u = xst r u) ∧ xst r (xnv r - 1) ≤ xst (sq_stop f n (T, r)).2 (xnv r - 1) ∧ ((sq_stop f n (T, r)).1.2.2.2.1 = 0 → xst (sq_stop f n (T, r)).2 (xnv r - 1) = xst r (xnv r - 1) + 1) := by
  have hB := hS.1
  have hb6 := hB.b6
  rw [sq_stop_u]
  dsimp only
  refine ⟨?_, sp_tw_adv (sp_tw_st4 hT), ?_⟩
  · by_cases h : (sp_st4 f T r).2.2.2.1 = 0
    · rw [if_pos h]
      obtain ⟨_, _, k3, k4, _, _⟩ := sp_st4_ok h
      rw [hB.b] at k3
      exact (kSn_S hS (by omega) rfl k4 (zrg2 (by omega) k3)).1
    · rw [if_neg h]
      exact hS
  · by_cases h : (sp_st4 f T r).2.2.2.1 = 0
    · rw [if_pos h]
      obtain ⟨_, _, k3, k4, _, _⟩ := sp_st4_ok h
      rw [hB.b] at k3
      obtain ⟨_, q2, q3, q4, _⟩ := kSn_S hS (show xnv r = (xnv r - 1) + 1 by omega) rfl k4 (zrg2 (by omega) k3)
      exact ⟨q2, q4, by omega, fun _ => q3⟩
    · rw [if_neg h]
      exact ⟨rfl, fun _ _ _ => rfl, Nat.le_refl _, fun z => absurd ((congrArg Prod.fst (@sp_adv_err f n (sp_st4 f T r))).symm.trans z) h⟩
end ER
noncomputable def sp_stops_z (f : Nat → Int32) (n : Nat) : Nat → xLk → xLk
  | 0, P => P
  | k + 1, P => if P.1.2.2.2.1 = 0 ∧ P.1.2.2.1 = 2 then sp_stops_z f n k (sq_stop f n P) else P
noncomputable def sp_stops : (Nat → Int32) → Nat → Nat → xLk → xLk := sq_op sp_stops_z
theorem sp_stops_0 {f : Nat → Int32} {n : Nat} {P : xLk} : sp_stops f n 0 P = P := by
  unfold sp_stops
  rw [sq_op_eq]
  rfl
theorem sp_stops_s {f : Nat → Int32} {n k : Nat} {P : xLk} : sp_stops f n (k + 1) P = if P.1.2.2.2.1 = 0 ∧ P.1.2.2.1 = 2 then sp_stops f n k (sq_stop f n P) else P := by
  unfold sp_stops
  rw [sq_op_eq]
  rfl
theorem sp_stops_ok {f : Nat → Int32} {n : Nat} : ∀ k (T : xTk) (r : Nat → Int32), kSn r → 1 ≤ xnv r → sp_tw f n T → kSn (sp_stops f n k (T, r)).2 ∧ sp_tw f n (sp_stops f n k (T, r)).1 ∧ xnv (sp_stops f n k (T, r)).2 = xnv r ∧ (∀ u, u ≠ xnv r - 1 → u < 4 → xst (sp_stops f n k (T, r)).2 u = xst r u) ∧ xst r (xnv r - 1) ≤ xst (sp_stops f n k (T, r)).2 (xnv r - 1) := by
  intro k
  induction k with
  | zero =>
    intro T r hS h1 hT
    rw [sp_stops_0]
    exact ⟨hS, hT, rfl, fun _ _ _ => rfl, Nat.le_refl _⟩
  | succ k ih =>
    intro T r hS h1 hT
    rw [sp_stops_s]
    by_cases h : T.2.2.2.1 = 0 ∧ T.2.2.1 = 2
    · rw [if_pos (show (T, r).1.2.2.2.1 = 0 ∧ (T, r).1.2.2.1 = 2 from h)]
      obtain ⟨a1, a2, a3, a4, a5, a6⟩ := @sp_stop_ok f n T r hS h1 hT
      obtain ⟨b1, b2, b3, b4, b5⟩ := ih (sq_stop f n (T, r)).1 (sq_stop f n (T, r)).2 a1 (by rw [a3]; exact h1) a2
      rw [xLe (sq_stop f n (T, r))] at b1 b2 b3 b4 b5
      rw [a3] at b3 b4 b5
      exact ⟨b1, b2, b3, fun u h1 h2 => (b4 u h1 h2).trans (a4 u h1 h2), Nat.le_trans a5 b5⟩
    · rw [if_neg (show ¬ ((T, r).1.2.2.2.1 = 0 ∧ (T, r).1.2.2.1 = 2) from h)]
      exact ⟨hS, hT, rfl, fun _ _ _ => rfl, Nat.le_refl _⟩
