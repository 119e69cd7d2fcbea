/-! THE CLASS: the line -/
def kby (c : Int32) : Int32 := c.toInt8.toInt32.toInt8.toInt32
theorem kby_d : ∀ n, n < 100 → kby (48 + nI n / 10) = 48 + nI n / 10 ∧ kby (48 + (nI n - nI n / 10 * 10)) = 48 + (nI n - nI n / 10 * 10) ∧ (nI n < 10 ↔ nI n ≤ 9) := by decide +kernel
theorem kby_k : kby 64 = 64 ∧ kby 62 = 62 ∧ kby 33 = 33 ∧ kby 45 = 45 ∧ kby 63 = 63 ∧ kby 114 = 114 ∧ kby 32 = 32 ∧ kby 58 = 58 := by decide +kernel
def kFg (s : xG) (u : xFt) : xG := (upd s.1 12 (nI u.1), fun a => if a = 2 then u.2 else s.2 a)
def kFw (w : xW) (u : xFt) : xW := xu w 0 (kFg (w 0) u)
section LF
variable {w : xW} {u u' : xFt}
theorem kFw_ne {g : Nat} (h : g ≠ 0) : kFw w u g = w g := xu_ne h
theorem kFw_c : (kFw w u 0).1 12 = nI u.1 := by
  unfold kFw
  rw [xu_same]
  rfl
theorem kFw_f : (kFw w u 0).2 2 = u.2 := by
  unfold kFw
  rw [xu_same]
  rfl
theorem kFw_w : xu (kFw w u) 0 (xs1 (xs2 (kFw w u 0) 2 u'.2) 12 (nI u'.1)) = kFw w u' := by
  unfold kFw
  rw [xu_xu, xu_same]
  congr 1
  refine Prod.ext (funext fun i => ?_) (funext fun a => ?_)
  · show (if i = 12 then nI u'.1 else if i = 12 then nI u.1 else (w 0).1 i) = if i = 12 then nI u'.1 else (w 0).1 i
    split <;> rfl
  · show (if a = 2 then u'.2 else if a = 2 then u.2 else (w 0).2 a) = if a = 2 then u'.2 else (w 0).2 a
    split <;> rfl
theorem kFw_0 : xu w 0 (xs1 (w 0) 12 0) = kFw w (0, (w 0).2 2) := by
  unfold kFw
  congr 1
  refine Prod.ext rfl (funext fun a => ?_)
  show (w 0).2 a = if a = 2 then (w 0).2 2 else (w 0).2 a
  split
  · next h => rw [h]
  · rfl
theorem kFw_R {k : Nat} {r : Nat → Int32} (h : kRel w k r) : kRel (kFw w u) k r := kRel_g0 h
end LF
section LN
variable {w : xW} {l : Nat → Nat → Int64} {t : Nat} {sc : xm_Sc} {d : Nat} {r : Nat → Int32}
theorem kc_15 {u : xFt} {c : Int32} (hu : u.1 < 256) (hc : kby c = c) : xm_C sc xt_M (d + 1) 15 [.ref 23, .int c] (xem (kFw w u) l t) = some (.inl none, xem (kFw w (sp_wc u c)) l t) := by
  have g : ¬ (256 : Int32) ≤ nI u.1 := nI_ge (b := 256) hu (by omega)
  have e : c.toInt8.toInt32.toInt8.toInt32 = c := hc
  rw [yc_15, xgL_0, zbs, kFw_c, if_neg g, xgL_1, zbs, zbs, e, xwA_X, if_pos (xin hu (by decide)), nI_clamp (by omega), zbs, kFw_f, xgL_0, zbs, xu_same, xs2_1, kFw_c, xsL_0, zbs, xu_xu, xu_same, zS, yb_15_31]
  exact congrArg (fun a => some (Sum.inl none, xem a l t)) (@kFw_w w u (sp_wc u c))
theorem kc_14 {u : xFt} {x : Int32} (hu : u.1 < 250) (hx : xil x 100) : xm_C sc xt_M (d + 2) 14 [.ref 23, .int x] (xem (kFw w u) l t) = some (.inl none, xem (kFw w (sp_wn u x)) l t) := by
  obtain ⟨h1, h2⟩ := hx
  generalize x.toNatClampNeg = n at *
  subst h1
  obtain ⟨b1, b2, b3⟩ := kby_d n h2
  have e1 : ∀ c, (sp_wc u c).1 < 256 := fun c => by show u.1 + 1 < 256; omega
  have c1 := @kc_15 w l t sc d u (48 + nI n / 10) (by omega) b1
  have c2 := @kc_15 w l t sc d u (48 + (nI n - nI n / 10 * 10)) (by omega) b2
  have c3 := @kc_15 w l t sc d (sp_wc u (48 + nI n / 10)) (48 + (nI n - nI n / 10 * 10)) (e1 _) b2
  rw [yc_14]
  unfold sp_wn
  by_cases h : nI n ≤ 9
  · rw [if_pos h]
    have h' := b3.mpr h
    simp (disch := first | omega | assumption | exact xpi_lt) only [↓zbE, zbd_some, ↓xk_I, ↓xk_v, zB_0, zB_1, ite_not, ↓reduceIte, zS, zSa_0, zSa_1, zSa_2, zSa_3, zSa_4, zSa_5, zSa_6, zSa_7, zSa_8, zSa_9, zPa_0, zPa_1, zPa_2, zPa_3, zPa_4, xgS_0, xgS_1, xgS_2, xgS_3, xgS_4, xgS_5, xgS_6, xgS_7, xgS_8, xgS_9, xgS_10, xgS_11, xgQ_0, xgQ_1, xgQ_2, xgQ_3, xgQ_4, xgP_0, xgP_1, xgP_2, xgP_3, xgP_4, xgP_5, xgP_6, xgP_7, xgY_0, xiS, xiQ, xiY, xiP, eq_true h', c2, yb_14_17, xgL_0, xgL_1, xiL, z10f]
  · rw [if_neg h]
    have h' : ¬ nI n < 10 := fun z => h (b3.mp z)
    simp (disch := first | omega | assumption | exact xpi_lt) only [↓zbE, zbd_some, ↓xk_I, ↓xk_v, zB_0, zB_1, ite_not, ↓reduceIte, zS, zSa_0, zSa_1, zSa_2, zSa_3, zSa_4, zSa_5, zSa_6, zSa_7, zSa_8, zSa_9, zPa_0, zPa_1, zPa_2, zPa_3, zPa_4, xgS_0, xgS_1, xgS_2, xgS_3, xgS_4, xgS_5, xgS_6, xgS_7, xgS_8, xgS_9, xgS_10, xgS_11, xgQ_0, xgQ_1, xgQ_2, xgQ_3, xgQ_4, xgP_0, xgP_1, xgP_2, xgP_3, xgP_4, xgP_5, xgP_6, xgP_7, xgY_0, xiS, xiQ, xiY, xiP, eq_false h', c1, c3, yb_14_17, xgL_0, xgL_1, xiL, z10f]
theorem kc_13 {u : xFt} {i : Nat} (hR : kRel w 0 r) (hi : i < xnk r) (hu : u.1 < 240) : xm_C sc xt_M (d + 3) 13 [.ref 23, .ref (xh 0), .int (nI i)] (xem (kFw w u) l t) = some (.inl none, xem (kFw w (sp_ws r i u)) l t) := by
  have hB := hR.W.bd
  have hk20 := hB.k20
  have hq40 := hB.q40
  have hv4 := hB.v4
  have hb6 := hB.b6
  obtain ⟨k0, k1, k2, k3, k4, k5, k6, k7⟩ := kby_k
  have hp := hR.W.k i hi
  have e1 : ∀ c, (sp_wc u c).1 < 250 := fun c => by show u.1 + 1 < 250; omega
  have hkd := fun v => (@kFw_R w v 0 r hR).kind hi
  have hpl := fun v => (@kFw_R w v 0 r hR).place hi
  have hrd := fun v => (@kFw_R w v 0 r hR).reader hi
  rw [yc_13]
  unfold sp_ws sp_wp
  by_cases h0 : r (56 + 6 * i) = 0
  · have hx : xil (r (57 + 6 * i)) 100 := xil_le (hp.2.2.2.1 (Or.inl h0)) (by omega)
    have c15 := @kc_15 w l t sc (d + 1) u 64 (by omega) k0
    have c14 := @kc_14 w l t sc d (sp_wc u 64) _ (e1 _) hx
    simp (disch := first | omega | assumption | exact xpi_lt) only [↓zbE, zbd_some, ↓xk_I, ↓xk_v, zB_0, zB_1, ite_not, ↓reduceIte, zS, zSa_0, zSa_1, zSa_2, zSa_3, zSa_4, zSa_5, zSa_6, zSa_7, zSa_8, zSa_9, zPa_0, zPa_1, zPa_2, zPa_3, zPa_4, xgS_0, xgS_1, xgS_2, xgS_3, xgS_4, xgS_5, xgS_6, xgS_7, xgS_8, xgS_9, xgS_10, xgS_11, xgQ_0, xgQ_1, xgQ_2, xgQ_3, xgQ_4, xgP_0, xgP_1, xgP_2, xgP_3, xgP_4, xgP_5, xgP_6, xgP_7, xgY_0, xiS, xiQ, xiY, xiP, h0, hkd, hpl, hrd, zt0, zt1, zt2, zt3, c15, c14, yb_13_118, xgL_0, xgL_1, xiL, z10f]
  by_cases h1 : r (56 + 6 * i) = 1
  · have hx : xil (r (57 + 6 * i)) 100 := xil_le (hp.2.2.2.2.1 h1) (by omega)
    have c15 := @kc_15 w l t sc (d + 1) u 62 (by omega) k1
    have c14 := @kc_14 w l t sc d (sp_wc u 62) _ (e1 _) hx
    simp (disch := first | omega | assumption | exact xpi_lt) only [↓zbE, zbd_some, ↓xk_I, ↓xk_v, zB_0, zB_1, ite_not, ↓reduceIte, zS, zSa_0, zSa_1, zSa_2, zSa_3, zSa_4, zSa_5, zSa_6, zSa_7, zSa_8, zSa_9, zPa_0, zPa_1, zPa_2, zPa_3, zPa_4, xgS_0, xgS_1, xgS_2, xgS_3, xgS_4, xgS_5, xgS_6, xgS_7, xgS_8, xgS_9, xgS_10, xgS_11, xgQ_0, xgQ_1, xgQ_2, xgQ_3, xgQ_4, xgP_0, xgP_1, xgP_2, xgP_3, xgP_4, xgP_5, xgP_6, xgP_7, xgY_0, xiS, xiQ, xiY, xiP, h1, z10, hkd, hpl, hrd, zt0, zt1, zt2, zt3, c15, c14, yb_13_118, xgL_0, xgL_1, xiL, z10f]
  by_cases h2 : r (56 + 6 * i) = 2
  · have hx : xil (r (57 + 6 * i)) 100 := xil_le (hp.2.2.2.1 (Or.inr h2)) (by omega)
    have c15 := @kc_15 w l t sc (d + 1) u 33 (by omega) k2
    have c14 := @kc_14 w l t sc d (sp_wc u 33) _ (e1 _) hx
    simp (disch := first | omega | assumption | exact xpi_lt) only [↓zbE, zbd_some, ↓xk_I, ↓xk_v, zB_0, zB_1, ite_not, ↓reduceIte, zS, zSa_0, zSa_1, zSa_2, zSa_3, zSa_4, zSa_5, zSa_6, zSa_7, zSa_8, zSa_9, zPa_0, zPa_1, zPa_2, zPa_3, zPa_4, xgS_0, xgS_1, xgS_2, xgS_3, xgS_4, xgS_5, xgS_6, xgS_7, xgS_8, xgS_9, xgS_10, xgS_11, xgQ_0, xgQ_1, xgQ_2, xgQ_3, xgQ_4, xgP_0, xgP_1, xgP_2, xgP_3, xgP_4, xgP_5, xgP_6, xgP_7, xgY_0, xiS, xiQ, xiY, xiP, h2, z20, z21, hkd, hpl, hrd, zt0, zt1, zt2, zt3, c15, c14, yb_13_118, xgL_0, xgL_1, xiL, z10f]
  by_cases h3 : r (56 + 6 * i) = 3
  · have hx : xil (r (60 + 6 * i)) 100 := hp.2.2.2.2.2.2.2 h3
    have c15 := @kc_15 w l t sc (d + 1) u 45 (by omega) k3
    have c14 := @kc_14 w l t sc d (sp_wc u 45) _ (e1 _) hx
    simp (disch := first | omega | assumption | exact xpi_lt) only [↓zbE, zbd_some, ↓xk_I, ↓xk_v, zB_0, zB_1, ite_not, ↓reduceIte, zS, zSa_0, zSa_1, zSa_2, zSa_3, zSa_4, zSa_5, zSa_6, zSa_7, zSa_8, zSa_9, zPa_0, zPa_1, zPa_2, zPa_3, zPa_4, xgS_0, xgS_1, xgS_2, xgS_3, xgS_4, xgS_5, xgS_6, xgS_7, xgS_8, xgS_9, xgS_10, xgS_11, xgQ_0, xgQ_1, xgQ_2, xgQ_3, xgQ_4, xgP_0, xgP_1, xgP_2, xgP_3, xgP_4, xgP_5, xgP_6, xgP_7, xgY_0, xiS, xiQ, xiY, xiP, h3, z30, z31, z32, hkd, hpl, hrd, zt0, zt1, zt2, zt3, c15, c14, yb_13_118, xgL_0, xgL_1, xiL, z10f]
  · have c15 := @kc_15 w l t sc (d + 1) u 63 (by omega) k4
    simp (disch := first | omega | assumption | exact xpi_lt) only [↓zbE, zbd_some, ↓xk_I, ↓xk_v, zB_0, zB_1, ite_not, ↓reduceIte, zS, zSa_0, zSa_1, zSa_2, zSa_3, zSa_4, zSa_5, zSa_6, zSa_7, zSa_8, zSa_9, zPa_0, zPa_1, zPa_2, zPa_3, zPa_4, xgS_0, xgS_1, xgS_2, xgS_3, xgS_4, xgS_5, xgS_6, xgS_7, xgS_8, xgS_9, xgS_10, xgS_11, xgQ_0, xgQ_1, xgQ_2, xgQ_3, xgQ_4, xgP_0, xgP_1, xgP_2, xgP_3, xgP_4, xgP_5, xgP_6, xgP_7, xgY_0, xiS, xiQ, xiY, xiP, h0, h1, h2, h3, hkd, hpl, hrd, zt0, zt1, zt2, zt3, c15, yb_13_118, xgL_0, xgL_1, xiL, z10f]
theorem kc_12 {i : Nat} (hR : kRel w 0 r) (hi : i < xnk r) : xm_C sc xt_M (d + 4) 12 [.ref 23, .ref (xh 0), .int (nI i)] (xem w l t) = some (.inl none, xem (kFw w (sp_fmt r i ((w 0).2 2))) l t) := by
  have hB := hR.W.bd
  have hk20 := hB.k20
  have hq40 := hB.q40
  have hv4 := hB.v4
  have hb6 := hB.b6
  obtain ⟨k0, k1, k2, k3, k4, k5, k6, k7⟩ := kby_k
  generalize ef : (w 0).2 2 = f
  have b1 := @sp_wn_le (0, f) (nI i)
  have b2 := @sp_ws_le r i (sp_wn (0, f) (nI i))
  have b3 := @sp_wr_le r i (sp_ws r i (sp_wn (0, f) (nI i)))
  have b4 := @sp_wq_le r i (sp_wr r i (sp_ws r i (sp_wn (0, f) (nI i))))
  dsimp only at b1
  have c14 := @kc_14 w l t sc (d + 1) (0, f) (nI i) (by show 0 < 250; omega) (xil_nI (by omega) (by omega))
  have c13 := @kc_13 w l t sc d r (sp_wn (0, f) (nI i)) i hR hi (by omega)
  unfold sp_fmt
  have e := xlp (fun q => xm_R sc xt_M (d + 3) 12 38 [.ref 23, .ref (xh 0), .int (nI i), .ref (xh 0 + 6), .int (nI q)] [] (xem (kFw w (sp_wq r i (sp_wr r i (sp_ws r i (sp_wn (0, f) (nI i)))) q)) l t)) (K := some (.inl none, xem (kFw w (sp_wq r i (sp_wr r i (sp_ws r i (sp_wn (0, f) (nI i)))) (xnq r))) l t)) (xnq r) (by
    intro q hq
    have b5 := b4 q
    rw [show sp_wq r i (sp_wr r i (sp_ws r i (sp_wn (0, f) (nI i)))) (q + 1) = sp_wq1 r i q (sp_wq r i (sp_wr r i (sp_ws r i (sp_wn (0, f) (nI i)))) q) from rfl]
    have h380 : (sp_wq r i (sp_wr r i (sp_ws r i (sp_wn (0, f) (nI i)))) q).1 < 241 := by omega
    clear b5
    generalize sp_wq r i (sp_wr r i (sp_ws r i (sp_wn (0, f) (nI i)))) q = u at *
    have hq1 := fun v => (@kFw_R w v 0 r hR).qb hq
    have hq2 := fun v => (@kFw_R w v 0 r hR).qr hq
    have hq3 := fun v => (@kFw_R w v 0 r hR).qw hq
    have hcn := (@kFw_R w u 0 r hR).cnt
    have hx1 : xil (r (177 + 3 * q)) 100 := (hR.W.q.1 q hq).2.1
    have hx2 : xil (r (178 + 3 * q)) 100 := xil_le (hR.W.qb hq) (by omega)
    have n1 := @sp_wn_le (sp_wc u 32) (r (177 + 3 * q))
    have n2 : (sp_wc u 32).1 = u.1 + 1 := rfl
    have n3 : (sp_wc (sp_wn (sp_wc u 32) (r (177 + 3 * q))) 58).1 = (sp_wn (sp_wc u 32) (r (177 + 3 * q))).1 + 1 := rfl
    have g1 := @kc_15 w l t sc (d + 2) u 32 (by omega) k6
    have g2 := @kc_14 w l t sc (d + 1) (sp_wc u 32) _ (by omega) hx1
    have g3 := @kc_15 w l t sc (d + 2) (sp_wn (sp_wc u 32) (r (177 + 3 * q))) 58 (by omega) k7
    have g4 := @kc_14 w l t sc (d + 1) (sp_wc (sp_wn (sp_wc u 32) (r (177 + 3 * q))) 58) _ (by omega) hx2
    rw [yb_12_38]
    unfold sp_wq1 sp_wp
    by_cases h : r (176 + 3 * q) = nI i
    · rw [if_pos h]
      simp (disch := first | omega | assumption | exact xpi_lt) only [↓zbE, zbd_some, ↓xk_I, ↓xk_v, zB_0, zB_1, ite_not, ↓reduceIte, zS, zSa_0, zSa_1, zSa_2, zSa_3, zSa_4, zSa_5, zSa_6, zSa_7, zSa_8, zSa_9, zPa_0, zPa_1, zPa_2, zPa_3, zPa_4, xgS_0, xgS_1, xgS_2, xgS_3, xgS_4, xgS_5, xgS_6, xgS_7, xgS_8, xgS_9, xgS_10, xgS_11, xgQ_0, xgQ_1, xgQ_2, xgQ_3, xgQ_4, xgP_0, xgP_1, xgP_2, xgP_3, xgP_4, xgP_5, xgP_6, xgP_7, xgY_0, xiS, xiQ, xiY, xiP, hcn, nI_ge, hq1, hq2, hq3, eq_true h, g1, g2, g3, g4, yb_12_92, xgL_0, xgL_1, xiL, z10f]
    · rw [if_neg h]
      simp (disch := first | omega | assumption | exact xpi_lt) only [↓zbE, zbd_some, ↓xk_I, ↓xk_v, zB_0, zB_1, ite_not, ↓reduceIte, zS, zSa_0, zSa_1, zSa_2, zSa_3, zSa_4, zSa_5, zSa_6, zSa_7, zSa_8, zSa_9, zPa_0, zPa_1, zPa_2, zPa_3, zPa_4, xgS_0, xgS_1, xgS_2, xgS_3, xgS_4, xgS_5, xgS_6, xgS_7, xgS_8, xgS_9, xgS_10, xgS_11, xgQ_0, xgQ_1, xgQ_2, xgQ_3, xgQ_4, xgP_0, xgP_1, xgP_2, xgP_3, xgP_4, xgP_5, xgP_6, xgP_7, xgY_0, xiS, xiQ, xiY, xiP, hcn, nI_ge, hq1, hq2, hq3, eq_false h, yb_12_92, xgL_0, xgL_1, xiL, z10f]) (by
    generalize sp_wq r i (sp_wr r i (sp_ws r i (sp_wn (0, f) (nI i)))) (xnq r) = u at *
    have hcn := (@kFw_R w u 0 r hR).cnt
    rw [yb_12_38]
    simp (disch := first | omega | assumption | exact xpi_lt) only [↓zbE, zbd_some, ↓xk_I, ↓xk_v, zB_0, zB_1, ite_not, ↓reduceIte, zS, zSa_0, zSa_1, zSa_2, zSa_3, zSa_4, zSa_5, zSa_6, zSa_7, zSa_8, zSa_9, zPa_0, zPa_1, zPa_2, zPa_3, zPa_4, xgS_0, xgS_1, xgS_2, xgS_3, xgS_4, xgS_5, xgS_6, xgS_7, xgS_8, xgS_9, xgS_10, xgS_11, xgQ_0, xgQ_1, xgQ_2, xgQ_3, xgQ_4, xgP_0, xgP_1, xgP_2, xgP_3, xgP_4, xgP_5, xgP_6, xgP_7, xgY_0, xiS, xiQ, xiY, xiP, hcn, nI_le, xgL_0, xgL_1, xiL, z10f])
  refine Eq.trans ?_ e
  have c62 := @kc_62 (kFw w (sp_ws r i (sp_wn (0, f) (nI i)))) l t sc (d + 2) 0 i (by omega) r (kFw_R hR) hi
  have c15 := @kc_15 w l t sc (d + 2) (sp_ws r i (sp_wn (0, f) (nI i))) 114 (by omega) k5
  have h0 : xu w 0 (xs1 (w 0) 12 0) = kFw w (0, f) := by rw [← ef]; exact kFw_0
  rw [yc_12]
  rw [show sp_wq r i (sp_wr r i (sp_ws r i (sp_wn (0, f) (nI i)))) 0 = sp_wr r i (sp_ws r i (sp_wn (0, f) (nI i))) from rfl]
  unfold sp_wr
  by_cases h : r (59 + 6 * i) = 1
  · rw [if_pos h]
    rw [zB_tt (c := r (59 + 6 * i) = 1) h] at c62
    simp (disch := first | omega | assumption | exact xpi_lt) only [↓zbE, zbd_some, ↓xk_I, ↓xk_v, zB_0, zB_1, ite_not, ↓reduceIte, zS, zSa_0, zSa_1, zSa_2, zSa_3, zSa_4, zSa_5, zSa_6, zSa_7, zSa_8, zSa_9, zPa_0, zPa_1, zPa_2, zPa_3, zPa_4, xgS_0, xgS_1, xgS_2, xgS_3, xgS_4, xgS_5, xgS_6, xgS_7, xgS_8, xgS_9, xgS_10, xgS_11, xgQ_0, xgQ_1, xgQ_2, xgQ_3, xgQ_4, xgP_0, xgP_1, xgP_2, xgP_3, xgP_4, xgP_5, xgP_6, xgP_7, xgY_0, xiS, xiQ, xiY, xiP, xsL_0, h0, c14, c13, c62, z10, c15, yb_12_30, xgL_0, xgL_1, xiL, z10f]
    rfl
  · rw [if_neg h]
    rw [zB_ff (c := r (59 + 6 * i) = 1) h] at c62
    simp (disch := first | omega | assumption | exact xpi_lt) only [↓zbE, zbd_some, ↓xk_I, ↓xk_v, zB_0, zB_1, ite_not, ↓reduceIte, zS, zSa_0, zSa_1, zSa_2, zSa_3, zSa_4, zSa_5, zSa_6, zSa_7, zSa_8, zSa_9, zPa_0, zPa_1, zPa_2, zPa_3, zPa_4, xgS_0, xgS_1, xgS_2, xgS_3, xgS_4, xgS_5, xgS_6, xgS_7, xgS_8, xgS_9, xgS_10, xgS_11, xgQ_0, xgQ_1, xgQ_2, xgQ_3, xgQ_4, xgP_0, xgP_1, xgP_2, xgP_3, xgP_4, xgP_5, xgP_6, xgP_7, xgY_0, xiS, xiQ, xiY, xiP, xsL_0, h0, c14, c13, c62, z00, yb_12_30, xgL_0, xgL_1, xiL, z10f]
    rfl
theorem kd_145 {i : Nat} (hR : kRel w 0 r) (hi : i < xnk r) : xm_C sc xt_M (d + 5) 145 [.ref 0, .int (nI i)] (xem w l t) = some (.inl (some (.int (nI (sp_fmt r i ((w 0).2 2)).1))), xem (kFw w (sp_fmt r i ((w 0).2 2))) l t) := by
  have c152 := @kn_152 w l t sc (d + 3) r i hR hi
  have c12 := @kc_12 w l t sc d r i hR hi
  rw [yc_145]
  simp (disch := first | omega | assumption | exact xpi_lt) only [↓zbE, zbd_some, ↓xk_I, ↓xk_v, zB_0, zB_1, ite_not, ↓reduceIte, zS, zSa_0, zSa_1, zSa_2, zSa_3, zSa_4, zSa_5, zSa_6, zSa_7, zSa_8, zSa_9, zPa_0, zPa_1, zPa_2, zPa_3, zPa_4, xgS_0, xgS_1, xgS_2, xgS_3, xgS_4, xgS_5, xgS_6, xgS_7, xgS_8, xgS_9, xgS_10, xgS_11, xgQ_0, xgQ_1, xgQ_2, xgQ_3, xgQ_4, xgP_0, xgP_1, xgP_2, xgP_3, xgP_4, xgP_5, xgP_6, xgP_7, xgY_0, xiS, xiQ, xiY, xiP, xiA, c152, xgA_4, xgA_5, c12, kFw_c, xgL_0, xgL_1, xiL, z10f]
theorem kd_145_x {a : Int32} (hR : kRel w 0 r) (ha : ¬ sp_bk r a) : xm_C sc xt_M (d + 5) 145 [.ref 0, .int a] (xem w l t) = some (.inr 0, xem w l (t + 1)) := by
  have c152 := @kx_152 w l t sc (d + 3) r a hR ha
  rw [yc_145]
  simp (disch := first | omega | assumption | exact xpi_lt) only [↓zbE, zbd_some, ↓xk_I, ↓xk_v, zB_0, zB_1, ite_not, ↓reduceIte, zS, zSa_0, zSa_1, zSa_2, zSa_3, zSa_4, zSa_5, zSa_6, zSa_7, zSa_8, zSa_9, zPa_0, zPa_1, zPa_2, zPa_3, zPa_4, xgS_0, xgS_1, xgS_2, xgS_3, xgS_4, xgS_5, xgS_6, xgS_7, xgS_8, xgS_9, xgS_10, xgS_11, xgQ_0, xgQ_1, xgQ_2, xgQ_3, xgQ_4, xgP_0, xgP_1, xgP_2, xgP_3, xgP_4, xgP_5, xgP_6, xgP_7, xgY_0, xiS, xiQ, xiY, xiP, xiA, c152, ↓xk_vx]
theorem kd_146 {n : Nat} {x : Int32} (hn : n ≤ 256) (hc : (w 0).1 12 = nI n) : xm_C sc xt_M (d + 1) 146 [.ref 0, .int x] (xem w l t) = some (.inl (some (.int (if x < 0 then -1 else if x < nI n then (w 0).2 2 x.toNatClampNeg else -1))), xem w l t) := by
  rw [yc_146]
  by_cases h0 : x < 0
  · simp (disch := first | omega | assumption | exact xpi_lt) only [↓zbE, zbd_some, ↓xk_I, ↓xk_v, zB_0, zB_1, ite_not, ↓reduceIte, zS, zSa_0, zSa_1, zSa_2, zSa_3, zSa_4, zSa_5, zSa_6, zSa_7, zSa_8, zSa_9, zPa_0, zPa_1, zPa_2, zPa_3, zPa_4, xgS_0, xgS_1, xgS_2, xgS_3, xgS_4, xgS_5, xgS_6, xgS_7, xgS_8, xgS_9, xgS_10, xgS_11, xgQ_0, xgQ_1, xgQ_2, xgQ_3, xgQ_4, xgP_0, xgP_1, xgP_2, xgP_3, xgP_4, xgP_5, xgP_6, xgP_7, xgY_0, xiS, xiQ, xiY, xiP, eq_true h0, yb_146_15]
  · obtain ⟨m, hm, rfl⟩ := nI_of h0
    rw [if_neg h0]
    by_cases h1 : nI m < nI n
    · have h2 : m < 256 := by have := (nI_ltI hm (by omega)).mp h1; omega
      have h3 : xm_aI (xem w l t) 24 1 (nI m) = some ((w 0).2 2 m) := by rw [xaA_X, if_pos (xin h2 (by decide)), nI_clamp (by omega)]
      rw [nI_clamp hm]
      simp (disch := first | omega | assumption | exact xpi_lt) only [↓zbE, zbd_some, ↓xk_I, ↓xk_v, zB_0, zB_1, ite_not, ↓reduceIte, zS, zSa_0, zSa_1, zSa_2, zSa_3, zSa_4, zSa_5, zSa_6, zSa_7, zSa_8, zSa_9, zPa_0, zPa_1, zPa_2, zPa_3, zPa_4, xgS_0, xgS_1, xgS_2, xgS_3, xgS_4, xgS_5, xgS_6, xgS_7, xgS_8, xgS_9, xgS_10, xgS_11, xgQ_0, xgQ_1, xgQ_2, xgQ_3, xgQ_4, xgP_0, xgP_1, xgP_2, xgP_3, xgP_4, xgP_5, xgP_6, xgP_7, xgY_0, xiS, xiQ, xiY, xiP, eq_false h0, eq_true h1, xgA_4, hc, h3, xgL_0, xgL_1, xiL, z10f]
    · simp (disch := first | omega | assumption | exact xpi_lt) only [↓zbE, zbd_some, ↓xk_I, ↓xk_v, zB_0, zB_1, ite_not, ↓reduceIte, zS, zSa_0, zSa_1, zSa_2, zSa_3, zSa_4, zSa_5, zSa_6, zSa_7, zSa_8, zSa_9, zPa_0, zPa_1, zPa_2, zPa_3, zPa_4, xgS_0, xgS_1, xgS_2, xgS_3, xgS_4, xgS_5, xgS_6, xgS_7, xgS_8, xgS_9, xgS_10, xgS_11, xgQ_0, xgQ_1, xgQ_2, xgQ_3, xgQ_4, xgP_0, xgP_1, xgP_2, xgP_3, xgP_4, xgP_5, xgP_6, xgP_7, xgY_0, xiS, xiQ, xiY, xiP, eq_false h0, eq_false h1, xgA_4, hc, yb_146_15, xgL_0, xgL_1, xiL, z10f]
end LN
