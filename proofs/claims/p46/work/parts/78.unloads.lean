/-! THE CLASS: a tick: time, places of vans, unloading -/
theorem sp_goal_cg {r r' : Nat → Int32} {k : Nat} (hb : ∀ q, q < xnq r → xib (r (178 + 3 * q))) (hh : xib (r (58 + 6 * k))) (h3 : xnq r' = xnq r) (hq : ∀ i, 176 ≤ i → i < 176 + 3 * xnq r → r' i = r i) (ho : ∀ b, b < 6 → r' (6 + b) = r (6 + b)) (e8 : r' (58 + 6 * k) = r (58 + 6 * k)) (e9 : r' (59 + 6 * k) = r (59 + 6 * k)) : sp_goal r' k = sp_goal r k := by
  unfold sp_goal
  rw [sp_want_cg e9 (sp_first_cg hb h3 hq ho)]
  cases e : sp_want r k with
  | none =>
    dsimp only
    rw [e8]
    unfold xop
    rw [ho _ hh.2]
  | some q =>
    dsimp only
    have := (sp_want_lt e).1
    exact hq _ (by omega) (by omega)
theorem sp_goal_put {r : Nat → Int32} {k q : Nat} {st pl : Int32} (hW : xWF r) (hk : k < xnk r) (hq : q < xnk r) : sp_goal (sp_put r q st pl) k = sp_goal r k := by
  have hk20 := hW.bd.k20
  refine sp_goal_cg (fun p hp => hW.qb hp) (hW.hm hk) ?_ (fun i h1 _ => sp_put_h (by omega) (by omega)) (fun b hb => sp_put_h (by omega) (by omega)) ?_ ?_
  · unfold xnq
    rw [sp_put_h (by omega) (by omega)]
  · by_cases e : k = q
    · subst e; exact sp_put_2
    · exact sp_put_ne (by omega)
  · by_cases e : k = q
    · subst e; exact sp_put_3
    · exact sp_put_ne (by omega)
theorem xhd.geo {r r' : Nat → Int32} (h : xhd r r') : kGeo r r' := kGeo_head (fun i hi _ _ _ _ => h i (by omega))
theorem kFar_geo {f r r' : Nat → Int32} (hW : xLt r) (g : kGeo r r') (h : kFar f r) : kFar f r' := by
  intro a b ha hb
  rw [g.nb] at ha hb
  rw [g.D hW]
  exact h a b ha hb
theorem sp_goes_put {f r : Nat → Int32} {k q v : Nat} {st pl b : Int32} (hW : xWF r) (hk : k < xnk r) (hq : q < xnk r) (hv : v < xnv r) : sp_goes f (sp_put r q st pl) k v b = sp_goes f r k v b := by
  have hk20 := hW.bd.k20
  have hv4 := hW.bd.v4
  have h9 := hW.st9 hv
  have es : xst (sp_put r q st pl) v = xst r v := by unfold xst; rw [sp_put_h (by omega) (by omega)]
  unfold sp_goes
  rw [sp_goal_put hW hk hq, es]
  have : xany (fun s => decide (xfx f (sp_put r q st pl (15 + 11 * v + s)) (sp_goal r k) = xfx f b (sp_goal r k) - 1)) (xst r v) = xany (fun s => decide (xfx f (r (15 + 11 * v + s)) (sp_goal r k) = xfx f b (sp_goal r k) - 1)) (xst r v) := xany_cg (fun s hs => by rw [sp_put_h (by omega) (by omega)])
  rw [this]
/-- who leaves does not go on with the same van -/
theorem kLeft {f r : Nat → Int32} (hW : xWF r) (hf : kFar f r) {v b q : Nat} (hv : v < xnv r) (hb : b < xnb r) (hq : q < xnk r) (hh : sp_has r v (nI b) = true) (h : sp_leaves f r q v (nI b)) : ¬ sp_goes f r q v (nI b) = true := by
  have hB := hW.bd
  rcases kGoal hW hq with hg | ⟨g, hg, eg, _⟩
  · unfold sp_goes
    rw [if_pos hg]
    exact fun h => Bool.noConfusion h
  · intro z
    have h1 := (kLeaves hW hf hv hb hg eg hh).mp h
    have h2 := (kGoes hW hf hv hb hg eg hh).mp z
    rcases kD_s hB hb hg with ⟨c, _⟩ | ⟨m, hm, c, _⟩
    · exact h1.1 c
    · cases m with
      | zero => exact h2.1 (by rw [c]; decide)
      | succ m =>
        refine h1.2 ?_
        rw [h2.2, c, nI_pred]
        exact nI_lt (by omega) (by omega)
def kJk (f : Nat → Int32) (v : Nat) (b : Int32) (r j : Nat → Int32) (n : Nat) : Prop := ∀ k, k < n → j k = 0 ∨ ¬ sp_goes f r k v b = true
theorem kJk_unl {f r j : Nat → Int32} {v b : Nat} (hW : xWF r) (hf : kFar f r) (hv : v < xnv r) (hb : b < xnb r) (hh : sp_has r v (nI b) = true) : ∀ n, n ≤ xnk r → kJk f v (nI b) (sp_unl f v (nI b) (r, j) n).1 (sp_unl f v (nI b) (r, j) n).2 n := by
  have hv4 := hW.bd.v4
  have hb6 := hW.bd.b6
  have hk20 := hW.bd.k20
  intro n
  induction n with
  | zero => intro _ k hk; exact absurd hk (Nat.not_lt_zero _)
  | succ n ih =>
    intro hn
    have hJ := ih (by omega)
    obtain ⟨h1, h2⟩ := @sp_unl_ok f r j v (nI b) hW (xil_nI hb (by omega)) n (by omega)
    show kJk f v (nI b) (sp_unl1 f v (nI b) n (sp_unl f v (nI b) (r, j) n)).1 (sp_unl1 f v (nI b) n (sp_unl f v (nI b) (r, j) n)).2 (n + 1)
    have hf' : kFar f (sp_unl f v (nI b) (r, j) n).1 := kFar_geo hW.lt h2.geo hf
    have hk' := h2.k
    have hv' : v < xnv (sp_unl f v (nI b) (r, j) n).1 := by rw [h2.v]; exact hv
    have hb' : b < xnb (sp_unl f v (nI b) (r, j) n).1 := by rw [h2.b]; exact hb
    have hh' : sp_has (sp_unl f v (nI b) (r, j) n).1 v (nI b) = true := by rw [h2.geo.has (by omega) (hW.st9 hv)]; exact hh
    generalize sp_unl f v (nI b) (r, j) n = u at *
    unfold sp_unl1
    by_cases hc : sp_isIn u.1 1 n (nI v) ∧ sp_leaves f u.1 n v (nI b)
    · rw [if_pos hc]
      intro k hk
      dsimp only
      by_cases e : k = n
      · subst e
        refine Or.inr ?_
        rw [sp_goes_put h1 (by omega) (by omega) hv']
        exact kLeft h1 hf' hv' hb' (by omega) hh' hc.2
      · rw [zun e, sp_goes_put h1 (by omega) (by omega) hv']
        exact hJ k (by omega)
    · rw [if_neg hc]
      intro k hk
      dsimp only
      by_cases e : k = n
      · subst e
        exact Or.inl zu1
      · rw [zun e]
        exact hJ k (by omega)
section TK
variable {w : xW} {l : Nat → Nat → Int64} {t : Nat} {sc : xm_Sc} {d k : Nat} {r : Nat → Int32}
theorem kRl_time {x : Int32} (hW : xLt r) (hR : kRl w k r) : kRl (xu w (k + 5) (xs1 (w (k + 5)) 1 x)) k (upd r 4 x) := by
  have hv4 := hW.bd.v4
  have hk20 := hW.bd.k20
  have e : ∀ i, i ≠ 4 → upd r 4 x i = r i := fun i hi => zun hi
  have e0 : xnb (upd r 4 x) = xnb r := by unfold xnb; rw [e 0 (by omega)]
  have e1 : xnv (upd r 4 x) = xnv r := by unfold xnv; rw [e 1 (by omega)]
  have e2 : xnk (upd r 4 x) = xnk r := by unfold xnk; rw [e 2 (by omega)]
  have e3 : xnq (upd r 4 x) = xnq r := by unfold xnq; rw [e 3 (by omega)]
  obtain ⟨p, s1, s2, s3, s4⟩ := hR
  have geo : kGeo r (upd r 4 x) := kGeo_head (fun i _ _ h4 _ _ => e i h4)
  refine kRl_xu rfl (kPl_cg hW (fun i _ _ h4 _ _ _ => e i h4) (fun i _ => e _ (by omega)) p) ?_ ?_ ?_ ?_
  · refine ⟨zu1.symm, s1.2.1.trans (e 5 (by omega)).symm, fun i hi => ?_, fun i hi => ?_, s1.2.2.2.2.trans (e 3 (by omega)).symm⟩
    · rw [e0, e (6 + i) (by omega)]
      exact s1.2.2.1 i hi
    · rw [e2, e (59 + 6 * i) (by omega)]
      exact s1.2.2.2.1 i hi
  · refine ⟨fun v hv => ?_, fun i hi => ?_⟩
    · rw [e1] at hv
      rw [e _ (by omega)]
      exact s2.1 v hv
    · rw [e2] at hi
      rw [e _ (by omega), e _ (by omega), e _ (by omega), e _ (by omega)]
      exact s2.2 i hi
  · refine ⟨fun i hi => ?_, fun i hi => ?_⟩
    · rw [e3] at hi
      rw [e _ (by omega), e _ (by omega), e _ (by omega)]
      exact s3.1 i hi
    · rw [sp_first_cg (fun p hp => hW.qb hp) e3 (fun i h _ => e i (by omega)) (fun b hb => e _ (by omega))]
      exact s3.2 i hi
  · intro a b ha hb
    rw [geo.D hW]
    exact s4 a b ha hb
theorem kRl_at {v : Nat} {x : Int32} (hW : xLt r) (hv : v < xnv r) (hR : kRl w k r) : kRl (xu w (k + 5) (xs2 (w (k + 5)) 0 (upd ((w (k + 5)).2 0) v x))) k (upd r (14 + 11 * v) x) := by
  have hv4 := hW.bd.v4
  have hk20 := hW.bd.k20
  have e : ∀ i, i ≠ 14 + 11 * v → upd r (14 + 11 * v) x i = r i := fun i hi => zun hi
  have e0 : xnb (upd r (14 + 11 * v) x) = xnb r := by unfold xnb; rw [e 0 (by omega)]
  have e1 : xnv (upd r (14 + 11 * v) x) = xnv r := by unfold xnv; rw [e 1 (by omega)]
  have e2 : xnk (upd r (14 + 11 * v) x) = xnk r := by unfold xnk; rw [e 2 (by omega)]
  have e3 : xnq (upd r (14 + 11 * v) x) = xnq r := by unfold xnq; rw [e 3 (by omega)]
  obtain ⟨p, s1, s2, s3, s4⟩ := hR
  have geo : kGeo r (upd r (14 + 11 * v) x) := kGeo_head (fun i _ _ _ _ h => e i (h v (by omega)))
  refine kRl_xu rfl (kPl_cg hW (fun i _ _ _ _ _ h => e i (h v (by omega))) (fun i _ => e _ (by omega)) p) ?_ ?_ ?_ ?_
  · refine ⟨s1.1.trans (e 4 (by omega)).symm, s1.2.1.trans (e 5 (by omega)).symm, fun i hi => ?_, fun i hi => ?_, s1.2.2.2.2.trans (e 3 (by omega)).symm⟩
    · rw [e0]
      have := s1.2.2.1 i hi
      by_cases h : i < xnb r
      · have := hW.bd.b6
        rw [e (6 + i) (by omega)]
        exact s1.2.2.1 i hi
      · show bt ((w (k + 5)).1 3) i = _
        rw [this]
        simp [h]
    · rw [e2, e (59 + 6 * i) (by omega)]
      exact s1.2.2.2.1 i hi
  · refine ⟨fun v' hv' => ?_, fun i hi => ?_⟩
    · rw [e1] at hv'
      rw [xs2_same]
      by_cases z : v' = v
      · subst z
        rw [zu1, zu1]
      · rw [zun z, e _ (by omega)]
        exact s2.1 v' hv'
    · rw [e2] at hi
      rw [e _ (by omega), e _ (by omega), e _ (by omega), e _ (by omega)]
      exact s2.2 i hi
  · refine ⟨fun i hi => ?_, fun i hi => ?_⟩
    · rw [e3] at hi
      rw [e _ (by omega), e _ (by omega), e _ (by omega)]
      exact s3.1 i hi
    · rw [sp_first_cg (fun p hp => hW.qb hp) e3 (fun i h _ => e i (by omega)) (fun b hb => e _ (by omega))]
      exact s3.2 i hi
  · intro a b ha hb
    rw [geo.D hW]
    exact s4 a b ha hb
theorem kRl_w {s s' : xG} (h : kRl (xu (xu w (k + 5) s) (k + 5) s') k r) : kRl (xu w (k + 5) s') k r := by
  rw [xu_xu] at h
  exact h
theorem kc_77 {f j : Nat → Int32} {v b : Nat} (hk : k < 13) (hR : kRel w k r) (hf : kFar f r) (hv : v < xnv r) (hb : b < xnb r) (hh : sp_has r v (nI b) = true) : ∃ s', xm_C sc xt_M (d + 5) 77 [.ref (xh k), .int (nI v), .int (nI b)] (xem w l t) = some (.inl none, xem (xu w (k + 5) s') l t) ∧ s'.1 0 = (w (k + 5)).1 0 ∧ kRl (xu w (k + 5) s') k (sp_unl f v (nI b) (r, j) (xnk r)).1 := by
  have hv4 := hR.W.bd.v4
  have hb6 := hR.W.bd.b6
  have hk20 := hR.W.bd.k20
  obtain ⟨s', ⟨i1, i2⟩, i3⟩ := xlpE (fun i (s : xG) => xm_R sc xt_M (d + 4) 77 2 [.ref (xh k), .int (nI v), .int (nI b), .int (nI i)] [] (xem (xu w (k + 5) s) l t)) (fun i s => s.1 0 = (w (k + 5)).1 0 ∧ kRl (xu w (k + 5) s) k (sp_unl f v (nI b) (r, j) i).1) (xnk r) (by
    intro i s hi hI
    obtain ⟨z0, hl⟩ := hI
    obtain ⟨h1, h2⟩ := @sp_unl_ok f r j v (nI b) hR.W (xil_nI hb (by omega)) i (by omega)
    have hf' : kFar f (sp_unl f v (nI b) (r, j) i).1 := kFar_geo hR.W.lt h2.geo hf
    have hk' := h2.k
    have hv' : v < xnv (sp_unl f v (nI b) (r, j) i).1 := by rw [h2.v]; exact hv
    have hb' : b < xnb (sp_unl f v (nI b) (r, j) i).1 := by rw [h2.b]; exact hb
    have hh' : sp_has (sp_unl f v (nI b) (r, j) i).1 v (nI b) = true := by rw [h2.geo.has (by omega) (hR.W.st9 hv)]; exact hh
    have hq : i < xnk (sp_unl f v (nI b) (r, j) i).1 := by omega
    rw [show sp_unl f v (nI b) (r, j) (i + 1) = sp_unl1 f v (nI b) i (sp_unl f v (nI b) (r, j) i) from rfl]
    generalize sp_unl f v (nI b) (r, j) i = u at *
    have hR' : kRel (xu w (k + 5) s) k u.1 := kRel_of h1 hl
    have hpk := hR'.pk
    have c63 := @kc_63 (xu w (k + 5) s) l t sc (d + 3) k i 1 (nI v) hk u.1 hR' hq
    have c70 := @kc_70 (xu w (k + 5) s) l t sc (d + 1) k u.1 f i v b hk hR' hf' hq hv' hb' hh'
    have c59 := @kc_59 (xu w (k + 5) s) l t sc (d + 2) k i (nI b) hk (by omega)
    rw [hk'] at hpk
    unfold sp_unl1
    by_cases hc1 : sp_isIn u.1 1 i (nI v)
    · by_cases hc2 : sp_leaves f u.1 i v (nI b)
      · rw [if_pos ⟨hc1, hc2⟩]
        have hput := @kRl_sput (xu w (k + 5) s) k u.1 i 0 (nI b) h1.lt hl hq
        rw [xu_same] at hput hpk
        refine ⟨_, ⟨?_, kRl_w hput⟩, ?_⟩
        · exact z0
        · rw [yb_77_2]
          simp (disch := first | omega | assumption | exact xpi_lt | decide) only [↓zbE, zbd_some, ↓xk_I, ↓xk_v, zB_0, zB_1, ite_not, ↓reduceIte, zS, zSa_0, zSa_1, zSa_2, zSa_3, zSa_4, zSa_5, zSa_6, zSa_7, zSa_8, zSa_9, zPa_0, zPa_1, zPa_2, zPa_3, zPa_4, xgS_0, xgS_1, xgS_2, xgS_3, xgS_4, xgS_5, xgS_6, xgS_7, xgS_8, xgS_9, xgS_10, xgS_11, xgQ_0, xgQ_1, xgQ_2, xgQ_3, xgQ_4, xgP_0, xgP_1, xgP_2, xgP_3, xgP_4, xgP_5, xgP_6, xgP_7, xgY_0, xiS, xiQ, xiY, xiP, eq_true hc1, eq_true hc2, hpk, c63, c70, c59, nI_ge, yb_77_39, xu_same, xu_xu, xs2_1, xs2_same, xs2_ne, xs1_2, xs1_ne, xs1_same, xs2_2]
      · rw [if_neg (fun z => hc2 z.2)]
        refine ⟨s, ⟨z0, hl⟩, ?_⟩
        rw [yb_77_2]
        simp (disch := first | omega | assumption | exact xpi_lt | decide) only [↓zbE, zbd_some, ↓xk_I, ↓xk_v, zB_0, zB_1, ite_not, ↓reduceIte, zS, zSa_0, zSa_1, zSa_2, zSa_3, zSa_4, zSa_5, zSa_6, zSa_7, zSa_8, zSa_9, zPa_0, zPa_1, zPa_2, zPa_3, zPa_4, xgS_0, xgS_1, xgS_2, xgS_3, xgS_4, xgS_5, xgS_6, xgS_7, xgS_8, xgS_9, xgS_10, xgS_11, xgQ_0, xgQ_1, xgQ_2, xgQ_3, xgQ_4, xgP_0, xgP_1, xgP_2, xgP_3, xgP_4, xgP_5, xgP_6, xgP_7, xgY_0, xiS, xiQ, xiY, xiP, eq_true hc1, eq_false hc2, hpk, c63, c70, c59, nI_ge, yb_77_39]
    · rw [if_neg (fun z => hc1 z.1)]
      refine ⟨s, ⟨z0, hl⟩, ?_⟩
      rw [yb_77_2]
      simp (disch := first | omega | assumption | exact xpi_lt | decide) only [↓zbE, zbd_some, ↓xk_I, ↓xk_v, zB_0, zB_1, ite_not, ↓reduceIte, zS, zSa_0, zSa_1, zSa_2, zSa_3, zSa_4, zSa_5, zSa_6, zSa_7, zSa_8, zSa_9, zPa_0, zPa_1, zPa_2, zPa_3, zPa_4, xgS_0, xgS_1, xgS_2, xgS_3, xgS_4, xgS_5, xgS_6, xgS_7, xgS_8, xgS_9, xgS_10, xgS_11, xgQ_0, xgQ_1, xgQ_2, xgQ_3, xgQ_4, xgP_0, xgP_1, xgP_2, xgP_3, xgP_4, xgP_5, xgP_6, xgP_7, xgY_0, xiS, xiQ, xiY, xiP, eq_false hc1, hpk, c63, c70, c59, nI_ge, yb_77_39]) (w (k + 5)) ⟨rfl, by rw [xu_self]; exact hR.l⟩
  rw [xu_self] at i3
  refine ⟨s', yc_77.trans (i3.trans ?_), i1, i2⟩
  obtain ⟨h1, h2⟩ := @sp_unl_ok f r j v (nI b) hR.W (xil_nI hb (by omega)) (xnk r) (by omega)
  have hpk := (kRel_of h1 i2).pk
  rw [h2.k] at hpk
  rw [yb_77_2]
  simp (disch := first | omega | assumption | exact xpi_lt | decide) only [↓zbE, zbd_some, ↓xk_I, ↓xk_v, zB_0, zB_1, ite_not, ↓reduceIte, zS, zSa_0, zSa_1, zSa_2, zSa_3, zSa_4, zSa_5, zSa_6, zSa_7, zSa_8, zSa_9, zPa_0, zPa_1, zPa_2, zPa_3, zPa_4, xgS_0, xgS_1, xgS_2, xgS_3, xgS_4, xgS_5, xgS_6, xgS_7, xgS_8, xgS_9, xgS_10, xgS_11, xgQ_0, xgQ_1, xgQ_2, xgQ_3, xgQ_4, xgP_0, xgP_1, xgP_2, xgP_3, xgP_4, xgP_5, xgP_6, xgP_7, xgY_0, xiS, xiQ, xiY, xiP, hpk, nI_le]
end TK
