/-! THE CLASS: a tick: loading -/
section FL
variable {w : xW} {l : Nat → Nat → Int64} {t : Nat} {sc : xm_Sc} {d k : Nat} {r : Nat → Int32}
theorem kc_79 {q : Nat} (hk : k < 13) (hR : kRel w k r) (hq : q < xnk r) : xm_C sc xt_M (d + 2) 79 [.ref (xh k), .int (nI q)] (xem w l t) = some (.inl (some (.int (sp_class r q))), xem w l t) := by
  have hk20 := hR.W.bd.k20
  rw [yc_79]
  unfold sp_class
  by_cases h1 : r (59 + 6 * q) = 1
  · simp (disch := first | omega | assumption | exact xpi_lt) only [↓zbE, zbd_some, ↓xk_I, ↓xk_v, zB_0, zB_1, ite_not, ↓reduceIte, zS, zSa_0, zSa_1, zSa_2, zSa_3, zSa_4, zSa_5, zSa_6, zSa_7, zSa_8, zSa_9, zPa_0, zPa_1, zPa_2, zPa_3, zPa_4, xgS_0, xgS_1, xgS_2, xgS_3, xgS_4, xgS_5, xgS_6, xgS_7, xgS_8, xgS_9, xgS_10, xgS_11, xgQ_0, xgQ_1, xgQ_2, xgQ_3, xgQ_4, xgP_0, xgP_1, xgP_2, xgP_3, xgP_4, xgP_5, xgP_6, xgP_7, xgY_0, xiS, xiQ, xiY, xiP, eq_true h1, hk, not_true_eq_false, zBT, kc_62 hk hR, kc_41 hk hR, z10, z00, z20]
  · cases h2 : sp_first r (nI q) with
    | none => simp (disch := first | omega | assumption | exact xpi_lt) only [↓zbE, zbd_some, ↓xk_I, ↓xk_v, zB_0, zB_1, ite_not, ↓reduceIte, zS, zSa_0, zSa_1, zSa_2, zSa_3, zSa_4, zSa_5, zSa_6, zSa_7, zSa_8, zSa_9, zPa_0, zPa_1, zPa_2, zPa_3, zPa_4, xgS_0, xgS_1, xgS_2, xgS_3, xgS_4, xgS_5, xgS_6, xgS_7, xgS_8, xgS_9, xgS_10, xgS_11, xgQ_0, xgQ_1, xgQ_2, xgQ_3, xgQ_4, xgP_0, xgP_1, xgP_2, xgP_3, xgP_4, xgP_5, xgP_6, xgP_7, xgY_0, xiS, xiQ, xiY, xiP, eq_false h1, h2, not_true_eq_false, zBF, hk, kc_62 hk hR, kc_41 hk hR, z10, z00, z20]
    | some p => simp (disch := first | omega | assumption | exact xpi_lt) only [↓zbE, zbd_some, ↓xk_I, ↓xk_v, zB_0, zB_1, ite_not, ↓reduceIte, zS, zSa_0, zSa_1, zSa_2, zSa_3, zSa_4, zSa_5, zSa_6, zSa_7, zSa_8, zSa_9, zPa_0, zPa_1, zPa_2, zPa_3, zPa_4, xgS_0, xgS_1, xgS_2, xgS_3, xgS_4, xgS_5, xgS_6, xgS_7, xgS_8, xgS_9, xgS_10, xgS_11, xgQ_0, xgQ_1, xgQ_2, xgQ_3, xgQ_4, xgP_0, xgP_1, xgP_2, xgP_3, xgP_4, xgP_5, xgP_6, xgP_7, xgY_0, xiS, xiQ, xiY, xiP, eq_false h1, h2, reduceCtorEq, not_false_eq_true, zBT, hk, kc_62 hk hR, kc_41 hk hR, z10, z00, z20]
/-- what stays on the way of a loading -/
def kFi (w : xW) (k : Nat) (r0 f j : Nat → Int32) (v : Nat) (b : Int32) (s : xG) (r : Nat → Int32) : Prop := s.1 0 = (w (k + 5)).1 0 ∧ kRl (xu w (k + 5) s) k r ∧ xWF r ∧ xhd r0 r ∧ kJk f v b r j (xnk r0)
theorem kJk_tk {f j r0 : Nat → Int32} {v i : Nat} {b sort : Int32} {u : (Nat → Int32) × Int32} (h1 : xWF u.1) (h2 : xhd r0 u.1) (hv : v < xnv r0) (hi : i < xnk r0) (hJ : kJk f v b u.1 j (xnk r0)) : kJk f v b (sp_tk1 f j v b sort i u).1 j (xnk r0) := by
  have ek := h2.k
  have ev := h2.v
  unfold sp_tk1
  split
  · intro q hq
    dsimp only
    rw [sp_goes_put h1 (by omega) (by omega) (by omega)]
    exact hJ q hq
  · exact hJ
theorem k78s {r0 f j : Nat → Int32} {v b i : Nat} {sort room : Int32} {s : xG} {u : Nat → Int32} (hk : k < 13) (hf : kFar f r0) (hW0 : xWF r0) (hv : v < xnv r0) (hb : b < xnb r0) (hh : sp_has r0 v (nI b) = true) (hi : i < xnk r0) (hr : ¬ room ≤ 0) (hI : kFi w k r0 f j v (nI b) s u) :
    ∃ s', kFi w k r0 f j v (nI b) s' (sp_tk1 f j v (nI b) sort i (u, room)).1 ∧ xm_R sc xt_M (d + 4) 78 33 [.ref (xh k), .int (nI v), .int (nI b), .int room, .int sort, .int (nI i)] [] (xem (xu w (k + 5) s) l t) = xm_R sc xt_M (d + 4) 78 33 [.ref (xh k), .int (nI v), .int (nI b), .int (sp_tk1 f j v (nI b) sort i (u, room)).2, .int sort, .int (nI (i + 1))] [] (xem (xu w (k + 5) s') l t) := by
  obtain ⟨z0, hl, h1, h2, hJ⟩ := hI
  have hv4 := hW0.bd.v4
  have hb6 := hW0.bd.b6
  have hk20 := hW0.bd.k20
  have hf' : kFar f u := kFar_geo hW0.lt h2.geo hf
  have hk' := h2.k
  have hv' : v < xnv u := by rw [h2.v]; exact hv
  have hb' : b < xnb u := by rw [h2.b]; exact hb
  have hh' : sp_has u v (nI b) = true := by rw [h2.geo.has (by omega) (hW0.st9 hv)]; exact hh
  have hq : i < xnk u := by omega
  have hR' : kRel (xu w (k + 5) s) k u := kRel_of h1 hl
  have hpk := hR'.pk
  have c63 := @kc_63 (xu w (k + 5) s) l t sc (d + 3) k i 0 (nI b) hk u hR' hq
  have c79 := @kc_79 (xu w (k + 5) s) l t sc (d + 2) k u i hk hR' hq
  have c69 := @kc_69 (xu w (k + 5) s) l t sc (d + 1) k u f i v b hk hR' hf' hq hv' hb' hh'
  have c58 := @kc_58 (xu w (k + 5) s) l t sc (d + 3) k i 1 (nI v) (-1) (-1) hk (by omega)
  rw [hk'] at hpk
  have hJ' := @kJk_tk f j r0 v i (nI b) sort (u, room) h1 h2 hv hi hJ
  obtain ⟨g1, g2⟩ := @sp_tk1_ok f j r0 v i (nI b) sort (u, room) h1 h2 hv hi
  have hno : ¬ sp_tkc f j v (nI b) sort i (u, room) → sp_tk1 f j v (nI b) sort i (u, room) = (u, room) := fun h => if_neg h
  by_cases hc1 : sp_isIn u 0 i (nI b)
  · by_cases hc2 : sp_class u i = sort
    · by_cases hc3 : sp_goes f u i v (nI b) = true
      · have hj : j i = 0 := (hJ i hi).elim id (fun z => absurd hc3 z)
        have hp : sp_tkc f j v (nI b) sort i (u, room) := ⟨hr, hc1, hj, hc2, hc3⟩
        have hyes : sp_tk1 f j v (nI b) sort i (u, room) = (sp_put u i 1 (nI v), room + (-1)) := if_pos hp
        rw [hyes] at hJ' g1 g2 ⊢
        have hput := @kRl_sput (xu w (k + 5) s) k u i 1 (nI v) h1.lt hl hq
        rw [xu_same] at hput hpk
        refine ⟨_, ⟨?_, kRl_w hput, g1, g2, hJ'⟩, ?_⟩
        · exact z0
        · rw [yb_78_33]
          simp (disch := first | omega | assumption | exact xpi_lt | decide) only [↓zbE, zbd_some, ↓xk_I, ↓xk_v, zB_0, zB_1, ite_not, ↓reduceIte, zS, zSa_0, zSa_1, zSa_2, zSa_3, zSa_4, zSa_5, zSa_6, zSa_7, zSa_8, zSa_9, zPa_0, zPa_1, zPa_2, zPa_3, zPa_4, xgS_0, xgS_1, xgS_2, xgS_3, xgS_4, xgS_5, xgS_6, xgS_7, xgS_8, xgS_9, xgS_10, xgS_11, xgQ_0, xgQ_1, xgQ_2, xgQ_3, xgQ_4, xgP_0, xgP_1, xgP_2, xgP_3, xgP_4, xgP_5, xgP_6, xgP_7, xgY_0, xiS, xiQ, xiY, xiP, eq_true hc1, eq_true hc2, eq_true hc3, hpk, c63, c79, c69, c58, nI_ge, eq_false hr, yb_78_95, xu_same, xu_xu, xs2_1, xs2_same, xs2_ne, xs1_2, xs1_ne, xs1_same, xs2_2]
      · rw [hno (fun z => hc3 z.2.2.2.2)]
        refine ⟨s, ⟨z0, hl, h1, h2, hJ⟩, ?_⟩
        rw [yb_78_33]
        simp (disch := first | omega | assumption | exact xpi_lt | decide) only [↓zbE, zbd_some, ↓xk_I, ↓xk_v, zB_0, zB_1, ite_not, ↓reduceIte, zS, zSa_0, zSa_1, zSa_2, zSa_3, zSa_4, zSa_5, zSa_6, zSa_7, zSa_8, zSa_9, zPa_0, zPa_1, zPa_2, zPa_3, zPa_4, xgS_0, xgS_1, xgS_2, xgS_3, xgS_4, xgS_5, xgS_6, xgS_7, xgS_8, xgS_9, xgS_10, xgS_11, xgQ_0, xgQ_1, xgQ_2, xgQ_3, xgQ_4, xgP_0, xgP_1, xgP_2, xgP_3, xgP_4, xgP_5, xgP_6, xgP_7, xgY_0, xiS, xiQ, xiY, xiP, eq_true hc1, eq_true hc2, eq_false hc3, hpk, c63, c79, c69, c58, nI_ge, eq_false hr, yb_78_95]
    · rw [hno (fun z => hc2 z.2.2.2.1)]
      refine ⟨s, ⟨z0, hl, h1, h2, hJ⟩, ?_⟩
      rw [yb_78_33]
      simp (disch := first | omega | assumption | exact xpi_lt | decide) only [↓zbE, zbd_some, ↓xk_I, ↓xk_v, zB_0, zB_1, ite_not, ↓reduceIte, zS, zSa_0, zSa_1, zSa_2, zSa_3, zSa_4, zSa_5, zSa_6, zSa_7, zSa_8, zSa_9, zPa_0, zPa_1, zPa_2, zPa_3, zPa_4, xgS_0, xgS_1, xgS_2, xgS_3, xgS_4, xgS_5, xgS_6, xgS_7, xgS_8, xgS_9, xgS_10, xgS_11, xgQ_0, xgQ_1, xgQ_2, xgQ_3, xgQ_4, xgP_0, xgP_1, xgP_2, xgP_3, xgP_4, xgP_5, xgP_6, xgP_7, xgY_0, xiS, xiQ, xiY, xiP, eq_true hc1, eq_false hc2, hpk, c63, c79, c69, c58, nI_ge, eq_false hr, yb_78_95]
  · rw [hno (fun z => hc1 z.2.1)]
    refine ⟨s, ⟨z0, hl, h1, h2, hJ⟩, ?_⟩
    rw [yb_78_33]
    simp (disch := first | omega | assumption | exact xpi_lt | decide) only [↓zbE, zbd_some, ↓xk_I, ↓xk_v, zB_0, zB_1, ite_not, ↓reduceIte, zS, zSa_0, zSa_1, zSa_2, zSa_3, zSa_4, zSa_5, zSa_6, zSa_7, zSa_8, zSa_9, zPa_0, zPa_1, zPa_2, zPa_3, zPa_4, xgS_0, xgS_1, xgS_2, xgS_3, xgS_4, xgS_5, xgS_6, xgS_7, xgS_8, xgS_9, xgS_10, xgS_11, xgQ_0, xgQ_1, xgQ_2, xgQ_3, xgQ_4, xgP_0, xgP_1, xgP_2, xgP_3, xgP_4, xgP_5, xgP_6, xgP_7, xgY_0, xiS, xiQ, xiY, xiP, eq_false hc1, hpk, c63, c79, c69, c58, nI_ge, eq_false hr, yb_78_95]
theorem k78f {r0 f j : Nat → Int32} {v b : Nat} {sort : Int32} (hk : k < 13) (hf : kFar f r0) (hW0 : xWF r0) (hv : v < xnv r0) (hb : b < xnb r0) (hh : sp_has r0 v (nI b) = true) : ∀ m i (u : (Nat → Int32) × Int32) (s : xG), i + m = xnk r0 → kFi w k r0 f j v (nI b) s u.1 →
    ∃ (s' : xG) (jk : Value), kFi w k r0 f j v (nI b) s' (xfm (fun k u => sp_tk1 f j v (nI b) sort k u) i m u).1 ∧ xm_R sc xt_M (d + 4) 78 33 [.ref (xh k), .int (nI v), .int (nI b), .int u.2, .int sort, .int (nI i)] [] (xem (xu w (k + 5) s) l t) = xm_R sc xt_M (d + 4) 78 20 [.ref (xh k), .int (nI v), .int (nI b), .int (xfm (fun k u => sp_tk1 f j v (nI b) sort k u) i m u).2, .int (sort + 1), jk] [] (xem (xu w (k + 5) s') l t) := by
  have hk20 := hW0.bd.k20
  intro m
  induction m with
  | zero =>
    intro i u s hi hI
    refine ⟨s, .int (nI i), hI, ?_⟩
    have hpk := (kRel_of hI.2.2.1 hI.2.1).pk
    rw [hI.2.2.2.1.k] at hpk
    rw [yb_78_33]
    simp (disch := first | omega | assumption | exact xpi_lt | decide) only [↓zbE, zbd_some, ↓xk_I, ↓xk_v, zB_0, zB_1, ite_not, ↓reduceIte, zS, zSa_0, zSa_1, zSa_2, zSa_3, zSa_4, zSa_5, zSa_6, zSa_7, zSa_8, zSa_9, zPa_0, zPa_1, zPa_2, zPa_3, zPa_4, xgS_0, xgS_1, xgS_2, xgS_3, xgS_4, xgS_5, xgS_6, xgS_7, xgS_8, xgS_9, xgS_10, xgS_11, xgQ_0, xgQ_1, xgQ_2, xgQ_3, xgQ_4, xgP_0, xgP_1, xgP_2, xgP_3, xgP_4, xgP_5, xgP_6, xgP_7, xgY_0, xiS, xiQ, xiY, xiP, hpk, nI_le, yb_78_101]
    rfl
  | succ m ih =>
    intro i u s hi hI
    by_cases hr : u.2 ≤ 0
    · refine ⟨s, .int (nI i), ?_, ?_⟩
      · rw [xfm_stop hr]
        exact hI
      · have hpk := (kRel_of hI.2.2.1 hI.2.1).pk
        rw [hI.2.2.2.1.k] at hpk
        rw [xfm_stop hr, yb_78_33]
        simp (disch := first | omega | assumption | exact xpi_lt | decide) only [↓zbE, zbd_some, ↓xk_I, ↓xk_v, zB_0, zB_1, ite_not, ↓reduceIte, zS, zSa_0, zSa_1, zSa_2, zSa_3, zSa_4, zSa_5, zSa_6, zSa_7, zSa_8, zSa_9, zPa_0, zPa_1, zPa_2, zPa_3, zPa_4, xgS_0, xgS_1, xgS_2, xgS_3, xgS_4, xgS_5, xgS_6, xgS_7, xgS_8, xgS_9, xgS_10, xgS_11, xgQ_0, xgQ_1, xgQ_2, xgQ_3, xgQ_4, xgP_0, xgP_1, xgP_2, xgP_3, xgP_4, xgP_5, xgP_6, xgP_7, xgY_0, xiS, xiQ, xiY, xiP, hpk, nI_ge, eq_true hr, yb_78_101]
    · obtain ⟨s1, h1, h2⟩ := @k78s w l t sc d k r0 f j v b i sort u.2 s u.1 hk hf hW0 hv hb hh (by omega) hr hI
      obtain ⟨s', jk, h3, h4⟩ := ih (i + 1) (sp_tk1 f j v (nI b) sort i u) s1 (by omega) h1
      exact ⟨s', jk, h3, h2.trans h4⟩
theorem kTake_stop {f j r : Nat → Int32} {v : Nat} {b : Int32} {s : Nat} (h : (sp_takeU f j v b r s).2 ≤ 0) : ∀ n, sp_takeU f j v b r (s + n) = sp_takeU f j v b r s := by
  intro n
  induction n with
  | zero => rfl
  | succ n ih =>
    show sp_tk f j v b (nI (s + n)) (xnk r) (sp_takeU f j v b r (s + n)) = _
    rw [ih]
    exact xfm_stop h _ _
theorem kc_78 {f j : Nat → Int32} {v b : Nat} (hk : k < 13) (hR : kRel w k r) (hf : kFar f r) (hv : v < xnv r) (hb : b < xnb r) (hh : sp_has r v (nI b) = true) (hJ : kJk f v (nI b) r j (xnk r)) : ∃ s', xm_C sc xt_M (d + 5) 78 [.ref (xh k), .int (nI v), .int (nI b)] (xem w l t) = some (.inl none, xem (xu w (k + 5) s') l t) ∧ s'.1 0 = (w (k + 5)).1 0 ∧ kRl (xu w (k + 5) s') k (sp_take f j v (nI b) r) := by
  have hv4 := hR.W.bd.v4
  have main : ∀ n s (sg : xG) (jk : Value), n + s = 3 → kFi w k r f j v (nI b) sg (sp_takeU f j v (nI b) r s).1 → ∃ s', s'.1 0 = (w (k + 5)).1 0 ∧ kRl (xu w (k + 5) s') k (sp_takeU f j v (nI b) r 3).1 ∧ xm_R sc xt_M (d + 4) 78 20 [.ref (xh k), .int (nI v), .int (nI b), .int (sp_takeU f j v (nI b) r s).2, .int (nI s), jk] [] (xem (xu w (k + 5) sg) l t) = some (.inl none, xem (xu w (k + 5) s') l t) := by
    intro n
    induction n with
    | zero =>
      intro s sg jk hs hI
      have e : s = 3 := by omega
      subst e
      refine ⟨sg, hI.1, hI.2.1, ?_⟩
      rw [yb_78_20, if_pos (show (3 : Int32) ≤ nI 3 from nI_le (Nat.le_refl 3) (by omega)), yb_78_107]
    | succ n ih =>
      intro s sg jk hs hI
      have h3 : ¬ (3 : Int32) ≤ nI s := nI_ge (b := 3) (by omega) (by omega)
      by_cases hr : (sp_takeU f j v (nI b) r s).2 ≤ 0
      · have e := kTake_stop hr (3 - s)
        rw [show s + (3 - s) = 3 by omega] at e
        refine ⟨sg, hI.1, ?_, ?_⟩
        · rw [e]
          exact hI.2.1
        · rw [yb_78_20, if_neg h3, if_pos hr, yb_78_107]
      · obtain ⟨s1, jk1, h1, h2⟩ := @k78f w l t sc d k r f j v b (nI s) hk hf hR.W hv hb hh (xnk r) 0 (sp_takeU f j v (nI b) r s) sg (by omega) hI
        obtain ⟨s', g1, g2, g3⟩ := ih (s + 1) s1 jk1 (by omega) h1
        refine ⟨s', g1, g2, ?_⟩
        rw [yb_78_20, if_neg h3, if_neg hr]
        refine Eq.trans ?_ (h2.trans ?_)
        · rfl
        · rw [← nI_succ]
          exact g3
  obtain ⟨s', g1, g2, g3⟩ := main 3 0 (w (k + 5)) .null rfl ⟨rfl, by rw [xu_self]; exact hR.l, hR.W, fun _ _ => rfl, hJ⟩
  rw [xu_self] at g3
  refine ⟨s', ?_, g1, g2⟩
  refine Eq.trans ?_ g3
  have hrm := hR.room hv
  rw [yc_78]
  simp (disch := first | omega | assumption | exact xpi_lt) only [↓zbE, zbd_some, ↓xk_I, ↓xk_v, zB_0, zB_1, ite_not, ↓reduceIte, zS, zSa_0, zSa_1, zSa_2, zSa_3, zSa_4, zSa_5, zSa_6, zSa_7, zSa_8, zSa_9, zPa_0, zPa_1, zPa_2, zPa_3, zPa_4, xgS_0, xgS_1, xgS_2, xgS_3, xgS_4, xgS_5, xgS_6, xgS_7, xgS_8, xgS_9, xgS_10, xgS_11, xgQ_0, xgQ_1, xgQ_2, xgQ_3, xgQ_4, xgP_0, xgP_1, xgP_2, xgP_3, xgP_4, xgP_5, xgP_6, xgP_7, xgY_0, xiS, xiQ, xiY, xiP, hrm, kc_73 hk hR]
  rfl
end FL
