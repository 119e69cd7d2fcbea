/-! THE CLASS: a plan is laid -/
def kP18 (p : xG) (v : Nat) (x : Int32) : xG := xs1 (xs2 (xs2 (xs2 p 0 (upd (p.2 0) v x)) 1 (upd (p.2 1) v 0)) 2 (upd (p.2 2) v 0)) 1 (nI (v + 1))
def kP20 (p : xG) (k : Nat) (x : Int32) : xG := xs1 (xs2 p 3 (upd (p.2 3) k x)) 2 (nI (k + 1))
def kP19 (p : xG) (v s : Nat) (x : Int32) : xG := xs2 (xs2 (xs2 p 4 (upd (p.2 4) (8 * v + s) x)) 2 (upd (p.2 2) v (p.2 2 v ||| ((1 : Int32) <<< (x &&& 31))))) 1 (upd (p.2 1) v (p.2 1 v + 1))
section PL
variable {w : xW} {l : Nat → Nat → Int64} {t : Nat} {sc : xm_Sc} {d i : Nat}
theorem kc_17 {x : Int32} (hi : i < 2) : xm_C sc xt_M (d + 1) 17 [.ref (xp i), .int x] (xem w l t) = some (.inl none, xem (xu w (i + 1) (xs1 (xs1 (xs1 (w (i + 1)) 0 x) 1 0) 2 0)) l t) := by
  rw [yc_17]
  simp (disch := first | omega | assumption | exact xpi_lt) only [↓zbE, zbd_some, ↓xk_I, ↓xk_v, zB_0, zB_1, ite_not, ↓reduceIte, zS, zSa_0, zSa_1, zSa_2, zSa_3, zSa_4, zSa_5, zSa_6, zSa_7, zSa_8, zSa_9, zPa_0, zPa_1, zPa_2, zPa_3, zPa_4, xgS_0, xgS_1, xgS_2, xgS_3, xgS_4, xgS_5, xgS_6, xgS_7, xgS_8, xgS_9, xgS_10, xgS_11, xgQ_0, xgQ_1, xgQ_2, xgQ_3, xgQ_4, xgP_0, xgP_1, xgP_2, xgP_3, xgP_4, xgP_5, xgP_6, xgP_7, xgY_0, xiS, xiQ, xiY, xiP, xsP_0, xsP_1, xsP_2, zPw_0, zPw_1, zPw_2, zPw_3, zPw_4, xu_same, xu_xu, xs2_1]
theorem kc_18 {v : Nat} {x : Int32} (hi : i < 2) (hv : (w (i + 1)).1 1 = nI v) (h4 : v < 4) : xm_C sc xt_M (d + 1) 18 [.ref (xp i), .int x] (xem w l t) = some (.inl none, xem (xu w (i + 1) (kP18 (w (i + 1)) v x)) l t) := by
  have g : ¬ (4 : Int32) ≤ nI v := nI_ge (a := v) (b := 4) h4 (by omega)
  rw [yc_18]
  simp (disch := first | omega | assumption | exact xpi_lt) only [↓zbE, zbd_some, ↓xk_I, ↓xk_v, zB_0, zB_1, ite_not, ↓reduceIte, zS, zSa_0, zSa_1, zSa_2, zSa_3, zSa_4, zSa_5, zSa_6, zSa_7, zSa_8, zSa_9, zPa_0, zPa_1, zPa_2, zPa_3, zPa_4, xgS_0, xgS_1, xgS_2, xgS_3, xgS_4, xgS_5, xgS_6, xgS_7, xgS_8, xgS_9, xgS_10, xgS_11, xgQ_0, xgQ_1, xgQ_2, xgQ_3, xgQ_4, xgP_0, xgP_1, xgP_2, xgP_3, xgP_4, xgP_5, xgP_6, xgP_7, xgY_0, xiS, xiQ, xiY, xiP, hv, eq_false g, yb_18_48, xsP_0, xsP_1, xsP_2, zPw_0, zPw_1, zPw_2, zPw_3, zPw_4, xu_same, xu_xu, xs2_1]
  rfl
theorem kc_20 {k : Nat} {x : Int32} (hi : i < 2) (hk : (w (i + 1)).1 2 = nI k) (h20 : k < 20) : xm_C sc xt_M (d + 1) 20 [.ref (xp i), .int x] (xem w l t) = some (.inl none, xem (xu w (i + 1) (kP20 (w (i + 1)) k x)) l t) := by
  have g : ¬ (20 : Int32) ≤ nI k := nI_ge (a := k) (b := 20) h20 (by omega)
  rw [yc_20]
  simp (disch := first | omega | assumption | exact xpi_lt) only [↓zbE, zbd_some, ↓xk_I, ↓xk_v, zB_0, zB_1, ite_not, ↓reduceIte, zS, zSa_0, zSa_1, zSa_2, zSa_3, zSa_4, zSa_5, zSa_6, zSa_7, zSa_8, zSa_9, zPa_0, zPa_1, zPa_2, zPa_3, zPa_4, xgS_0, xgS_1, xgS_2, xgS_3, xgS_4, xgS_5, xgS_6, xgS_7, xgS_8, xgS_9, xgS_10, xgS_11, xgQ_0, xgQ_1, xgQ_2, xgQ_3, xgQ_4, xgP_0, xgP_1, xgP_2, xgP_3, xgP_4, xgP_5, xgP_6, xgP_7, xgY_0, xiS, xiQ, xiY, xiP, hk, eq_false g, yb_20_29, xsP_0, xsP_1, xsP_2, zPw_0, zPw_1, zPw_2, zPw_3, zPw_4, xu_same, xu_xu, xs2_1]
  rfl
theorem kc_19 {v s : Nat} {x : Int32} (hi : i < 2) (hv : (w (i + 1)).1 1 = nI (v + 1)) (h4 : v < 4) (hs : (w (i + 1)).2 1 v = nI s) (h8 : s < 8) : xm_C sc xt_M (d + 1) 19 [.ref (xp i), .int x] (xem w l t) = some (.inl none, xem (xu w (i + 1) (kP19 (w (i + 1)) v s x)) l t) := by
  have e1 : nI (v + 1) - 1 = nI v := nI_pred v
  have g0 : ¬ nI v < 0 := nI_pos (by omega)
  have g : ¬ (8 : Int32) ≤ nI s := nI_ge (a := s) (b := 8) h8 (by omega)
  have p0 : xm_aI (xem w l t) (xp i + 2) 0 (nI v) = some (nI s) := by rw [zPa_1 hi h4, hs]
  rw [yc_19]
  simp (disch := first | omega | assumption | exact xpi_lt) only [↓zbE, zbd_some, ↓xk_I, ↓xk_v, zB_0, zB_1, ite_not, ↓reduceIte, zS, zSa_0, zSa_1, zSa_2, zSa_3, zSa_4, zSa_5, zSa_6, zSa_7, zSa_8, zSa_9, zPa_0, zPa_1, zPa_2, zPa_3, zPa_4, xgS_0, xgS_1, xgS_2, xgS_3, xgS_4, xgS_5, xgS_6, xgS_7, xgS_8, xgS_9, xgS_10, xgS_11, xgQ_0, xgQ_1, xgQ_2, xgQ_3, xgQ_4, xgP_0, xgP_1, xgP_2, xgP_3, xgP_4, xgP_5, xgP_6, xgP_7, xgY_0, xiS, xiQ, xiY, xiP, hv, hs, e1, eq_false g0, eq_false g, kM8, p0, yb_19_61, xsP_0, xsP_1, xsP_2, zPw_0, zPw_1, zPw_2, zPw_3, zPw_4, xu_same, xu_xu, xs2_1]
  rfl
theorem sp_beg_h {r : Nat → Int32} {n : Nat} {j : Nat} (hj : j < 296) (h0 : j ≠ 0) (h5 : j ≠ 5) (h6 : ¬ (6 ≤ j ∧ j < 6 + n)) : sp_beg r n j = 0 := by
  unfold sp_beg sp_begO
  rw [if_neg h6, zun h5, zun h0]
  exact if_pos hj
theorem kPl_17 {p : xG} {r : Nat → Int32} {n : Nat} : kPl (xs1 (xs1 (xs1 p 0 (nI n)) 1 0) 2 0) (sp_beg r n) := by
  have e1 : sp_beg r n 1 = 0 := sp_beg_h (by omega) (by omega) (by omega) (by omega)
  have e2 : sp_beg r n 2 = 0 := sp_beg_h (by omega) (by omega) (by omega) (by omega)
  have e0 : sp_beg r n 0 = nI n := by
    unfold sp_beg sp_begO
    rw [if_neg (by omega), zun (by omega), zu1]
  refine ⟨⟨e0.symm, e1.symm, e2.symm⟩, fun v hv => ?_, fun k hk => ?_⟩
  · unfold xnv at hv
    rw [e1] at hv
    exact absurd hv (Nat.not_lt_zero v)
  · unfold xnk at hk
    rw [e2] at hk
    exact absurd hk (Nat.not_lt_zero k)
theorem xany_f {p : Nat → Bool} : xany p 0 = false := rfl
/-- a van is added: it has no stop yet -/
theorem kPl_18 {p : xG} {r : Nat → Int32} {v : Nat} {x : Int32} (h : kPl p r) (hv : r 1 = nI v) (h4 : v < 4) (h20 : xnk r ≤ 20) (hst : ∀ u, u < v → xst r u < 9) (h0 : r (13 + 11 * v) = 0) : kPl (kP18 p v x) (sp_addV r v x) := by
  obtain ⟨⟨a0, a1, a2⟩, a3, a4⟩ := h
  have e : ∀ j, j ≠ 1 → j ≠ 12 + 11 * v → sp_addV r v x j = r j := fun j h1 h2 => (zun h1).trans (zun h2)
  have e1 : sp_addV r v x 1 = nI (v + 1) := zu1
  have ex : sp_addV r v x (12 + 11 * v) = x := (zun (by omega)).trans zu1
  have ev : xnv r = v := by unfold xnv; rw [hv, nI_clamp (by omega)]
  have ev' : xnv (sp_addV r v x) = v + 1 := by unfold xnv; rw [e1, nI_clamp (by omega)]
  have ek : xnk (sp_addV r v x) = xnk r := by unfold xnk; rw [e 2 (by omega) (by omega)]
  refine ⟨⟨?_, e1.symm, ?_⟩, fun u hu => ?_, fun k hk => ?_⟩
  · rw [e 0 (by omega) (by omega)]
    exact a0
  · rw [e 2 (by omega) (by omega)]
    exact a2
  · rw [ev'] at hu
    by_cases g : u = v
    · subst g
      have es : xst (sp_addV r u x) u = 0 := by
        unfold xst
        rw [e (13 + 11 * u) (by omega) (by omega), h0]
        rfl
      refine ⟨?_, ?_, fun i hi => ?_, fun s hs => ?_⟩
      · rw [ex]
        exact zu1
      · rw [e (13 + 11 * u) (by omega) (by omega), h0]
        exact zu1
      · have e6 : sp_has (sp_addV r u x) u (nI i) = false := by
          unfold sp_has
          rw [es]
          rfl
        rw [e6]
        have : (kP18 p u x).2 2 u = 0 := zu1
        rw [this]
        simp [b_0 i]
      · rw [es] at hs
        exact absurd hs (Nat.not_lt_zero s)
    · obtain ⟨b1, b2, b3, b4⟩ := a3 u (by omega)
      have h9 := hst u (by omega)
      have es : xst (sp_addV r v x) u = xst r u := by
        unfold xst
        rw [e (13 + 11 * u) (by omega) (by omega)]
      refine ⟨?_, ?_, fun i hi => ?_, fun s hs => ?_⟩
      · rw [e (12 + 11 * u) (by omega) (by omega)]
        exact (zun g).trans b1
      · rw [e (13 + 11 * u) (by omega) (by omega)]
        exact (zun g).trans b2
      · have e6 : sp_has (sp_addV r v x) u (nI i) = sp_has r u (nI i) := by
          unfold sp_has
          rw [es]
          exact xany_cg (fun s hs => by rw [e (15 + 11 * u + s) (by omega) (by omega)])
        have : (kP18 p v x).2 2 u = p.2 2 u := zun g
        rw [this, e6]
        exact b3 i hi
      · rw [es] at hs
        rw [e (15 + 11 * u + s) (by omega) (by omega)]
        exact b4 s hs
  · rw [ek] at hk
    rw [e (58 + 6 * k) (by omega) (by omega)]
    exact a4 k hk
/-- a book is added -/
theorem kPl_20 {p : xG} {r : Nat → Int32} {k : Nat} {x : Int32} (h : kPl p r) (hk : r 2 = nI k) (h20 : k < 20) (h4 : xnv r ≤ 4) (hst : ∀ u, u < xnv r → xst r u < 9) : kPl (kP20 p k x) (sp_addB r k x) := by
  obtain ⟨⟨a0, a1, a2⟩, a3, a4⟩ := h
  have e : ∀ j, j < 56 → j ≠ 2 → sp_addB r k x j = r j := fun j h1 h2 => (sp_put_h h20 (by omega)).trans ((zun (by omega)).trans (zun h2))
  have e2 : sp_addB r k x 2 = nI (k + 1) := (sp_put_h h20 (by omega)).trans ((zun (by omega)).trans zu1)
  have ex : sp_addB r k x (58 + 6 * k) = x := sp_put_2.trans zu1
  have ev : xnv (sp_addB r k x) = xnv r := by unfold xnv; rw [e 1 (by omega) (by omega)]
  have ek0 : xnk r = k := by unfold xnk; rw [hk, nI_clamp (by omega)]
  have ek : xnk (sp_addB r k x) = k + 1 := by unfold xnk; rw [e2, nI_clamp (by omega)]
  refine ⟨⟨?_, ?_, e2.symm⟩, fun u hu => ?_, fun q hq => ?_⟩
  · rw [e 0 (by omega) (by omega)]
    exact a0
  · rw [e 1 (by omega) (by omega)]
    exact a1
  · rw [ev] at hu
    obtain ⟨b1, b2, b3, b4⟩ := a3 u hu
    have h9 := hst u hu
    have es : xst (sp_addB r k x) u = xst r u := by
      unfold xst
      rw [e (13 + 11 * u) (by omega) (by omega)]
    refine ⟨?_, ?_, fun i hi => ?_, fun s hs => ?_⟩
    · rw [e (12 + 11 * u) (by omega) (by omega)]
      exact b1
    · rw [e (13 + 11 * u) (by omega) (by omega)]
      exact b2
    · have e6 : sp_has (sp_addB r k x) u (nI i) = sp_has r u (nI i) := by
        unfold sp_has
        rw [es]
        exact xany_cg (fun s hs => by rw [e (15 + 11 * u + s) (by omega) (by omega)])
      rw [e6]
      exact b3 i hi
    · rw [es] at hs
      rw [e (15 + 11 * u + s) (by omega) (by omega)]
      exact b4 s hs
  · rw [ek] at hq
    by_cases g : q = k
    · subst g
      rw [ex]
      exact zu1
    · have e8 : sp_addB r k x (58 + 6 * q) = r (58 + 6 * q) := (sp_put_ne (by omega)).trans ((zun (by omega)).trans (zun (by omega)))
      rw [e8]
      exact (zun g).trans (a4 q (by omega))
end PL
