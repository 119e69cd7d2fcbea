/-! THE CLASS: counts and searches -/
section KH
variable {w : xW} {l : Nat → Nat → Int64} {t : Nat} {sc : xm_Sc} {d k : Nat} {r : Nat → Int32}
theorem kc_24 {b : Nat} (hk : k < 13) (hR : kRel w k r) (hb : b < 6) : xm_C sc xt_M (d + 2) 24 [.ref (xp (xpi (w (k + 5)))), .int (nI b)] (xem w l t) = some (.inl (some (.int (sp_vansAt r (nI b)))), xem w l t) := by
  have hB := hR.W.bd
  have hk20 := hB.k20
  have hq40 := hB.q40
  have hv4 := hB.v4
  have hb6 := hB.b6
  rw [yc_24]
  refine xlp (fun i => xm_R sc xt_M (d + 1) 24 4 [.ref (xp (xpi (w (k + 5)))), .int (nI b), .int (xsum (fun q => zB (sp_has r q (nI b) = true)) i), .int (nI i)] [] (xem w l t)) (xnv r) ?_ ?_
  · intro i hi
    rw [yb_24_4, show xsum (fun q => zB (sp_has r q (nI b) = true)) (i + 1) = xsum (fun q => zB (sp_has r q (nI b) = true)) i + zB (sp_has r i (nI b) = true) from rfl]
    by_cases h : sp_has r i (nI b) = true
    · rw [zB_tt (c := sp_has r i (nI b) = true) h]
      simp (disch := first | omega | assumption | exact xpi_lt) only [↓zbE, zbd_some, ↓xk_I, ↓xk_v, zB_0, zB_1, ite_not, ↓reduceIte, zS, zSa_0, zSa_1, zSa_2, zSa_3, zSa_4, zSa_5, zSa_6, zSa_7, zSa_8, zSa_9, zPa_0, zPa_1, zPa_2, zPa_3, zPa_4, xgS_0, xgS_1, xgS_2, xgS_3, xgS_4, xgS_5, xgS_6, xgS_7, xgS_8, xgS_9, xgS_10, xgS_11, xgQ_0, xgQ_1, xgQ_2, xgQ_3, xgQ_4, xgP_0, xgP_1, xgP_2, xgP_3, xgP_4, xgP_5, xgP_6, xgP_7, xgY_0, xiS, xiQ, xiY, xiP, eq_true h, yb_24_24, nI_ge, hk, hR.pv, kc_23 hk hR]
    · rw [zB_ff (c := sp_has r i (nI b) = true) h, Int32.add_zero]
      simp (disch := first | omega | assumption | exact xpi_lt) only [↓zbE, zbd_some, ↓xk_I, ↓xk_v, zB_0, zB_1, ite_not, ↓reduceIte, zS, zSa_0, zSa_1, zSa_2, zSa_3, zSa_4, zSa_5, zSa_6, zSa_7, zSa_8, zSa_9, zPa_0, zPa_1, zPa_2, zPa_3, zPa_4, xgS_0, xgS_1, xgS_2, xgS_3, xgS_4, xgS_5, xgS_6, xgS_7, xgS_8, xgS_9, xgS_10, xgS_11, xgQ_0, xgQ_1, xgQ_2, xgQ_3, xgQ_4, xgP_0, xgP_1, xgP_2, xgP_3, xgP_4, xgP_5, xgP_6, xgP_7, xgY_0, xiS, xiQ, xiY, xiP, eq_false h, yb_24_24, nI_ge, hk, hR.pv, kc_23 hk hR]
  · rw [yb_24_4]
    simp (disch := first | omega | assumption | exact xpi_lt) only [↓zbE, zbd_some, ↓xk_I, ↓xk_v, zB_0, zB_1, ite_not, ↓reduceIte, zS, zSa_0, zSa_1, zSa_2, zSa_3, zSa_4, zSa_5, zSa_6, zSa_7, zSa_8, zSa_9, zPa_0, zPa_1, zPa_2, zPa_3, zPa_4, xgS_0, xgS_1, xgS_2, xgS_3, xgS_4, xgS_5, xgS_6, xgS_7, xgS_8, xgS_9, xgS_10, xgS_11, xgQ_0, xgQ_1, xgQ_2, xgQ_3, xgQ_4, xgP_0, xgP_1, xgP_2, xgP_3, xgP_4, xgP_5, xgP_6, xgP_7, xgY_0, xiS, xiQ, xiY, xiP, nI_le, hR.pk, hR.pv, hR.cnt]
    rfl
theorem kc_25 {b : Int32} (hk : k < 13) (hR : kRel w k r) : xm_C sc xt_M (d + 1) 25 [.ref (xp (xpi (w (k + 5)))), .int b] (xem w l t) = some (.inl (some (.int (sp_homes r b))), xem w l t) := by
  have hB := hR.W.bd
  have hk20 := hB.k20
  have hq40 := hB.q40
  have hv4 := hB.v4
  have hb6 := hB.b6
  rw [yc_25]
  refine xlp (fun i => xm_R sc xt_M (d + 0) 25 4 [.ref (xp (xpi (w (k + 5)))), .int b, .int (xsum (fun q => zB (r (58 + 6 * q) = b)) i), .int (nI i)] [] (xem w l t)) (xnk r) ?_ ?_
  · intro i hi
    rw [yb_25_4, show xsum (fun q => zB (r (58 + 6 * q) = b)) (i + 1) = xsum (fun q => zB (r (58 + 6 * q) = b)) i + zB (r (58 + 6 * i) = b) from rfl]
    by_cases h : r (58 + 6 * i) = b
    · rw [zB_tt (c := r (58 + 6 * i) = b) h]
      simp (disch := first | omega | assumption | exact xpi_lt) only [↓zbE, zbd_some, ↓xk_I, ↓xk_v, zB_0, zB_1, ite_not, ↓reduceIte, zS, zSa_0, zSa_1, zSa_2, zSa_3, zSa_4, zSa_5, zSa_6, zSa_7, zSa_8, zSa_9, zPa_0, zPa_1, zPa_2, zPa_3, zPa_4, xgS_0, xgS_1, xgS_2, xgS_3, xgS_4, xgS_5, xgS_6, xgS_7, xgS_8, xgS_9, xgS_10, xgS_11, xgQ_0, xgQ_1, xgQ_2, xgQ_3, xgQ_4, xgP_0, xgP_1, xgP_2, xgP_3, xgP_4, xgP_5, xgP_6, xgP_7, xgY_0, xiS, xiQ, xiY, xiP, eq_true h, yb_25_25, nI_ge, hk, hR.pk, hR.home hi]
    · rw [zB_ff (c := r (58 + 6 * i) = b) h, Int32.add_zero]
      simp (disch := first | omega | assumption | exact xpi_lt) only [↓zbE, zbd_some, ↓xk_I, ↓xk_v, zB_0, zB_1, ite_not, ↓reduceIte, zS, zSa_0, zSa_1, zSa_2, zSa_3, zSa_4, zSa_5, zSa_6, zSa_7, zSa_8, zSa_9, zPa_0, zPa_1, zPa_2, zPa_3, zPa_4, xgS_0, xgS_1, xgS_2, xgS_3, xgS_4, xgS_5, xgS_6, xgS_7, xgS_8, xgS_9, xgS_10, xgS_11, xgQ_0, xgQ_1, xgQ_2, xgQ_3, xgQ_4, xgP_0, xgP_1, xgP_2, xgP_3, xgP_4, xgP_5, xgP_6, xgP_7, xgY_0, xiS, xiQ, xiY, xiP, eq_false h, yb_25_25, nI_ge, hk, hR.pk, hR.home hi]
  · rw [yb_25_4]
    simp (disch := first | omega | assumption | exact xpi_lt) only [↓zbE, zbd_some, ↓xk_I, ↓xk_v, zB_0, zB_1, ite_not, ↓reduceIte, zS, zSa_0, zSa_1, zSa_2, zSa_3, zSa_4, zSa_5, zSa_6, zSa_7, zSa_8, zSa_9, zPa_0, zPa_1, zPa_2, zPa_3, zPa_4, xgS_0, xgS_1, xgS_2, xgS_3, xgS_4, xgS_5, xgS_6, xgS_7, xgS_8, xgS_9, xgS_10, xgS_11, xgQ_0, xgQ_1, xgQ_2, xgQ_3, xgQ_4, xgP_0, xgP_1, xgP_2, xgP_3, xgP_4, xgP_5, xgP_6, xgP_7, xgY_0, xiS, xiQ, xiY, xiP, nI_le, hR.pk, hR.pv, hR.cnt]
    rfl
theorem kc_72 {b : Int32} (hk : k < 13) (hR : kRel w k r) : xm_C sc xt_M (d + 1) 72 [.ref (xh k), .int b] (xem w l t) = some (.inl (some (.int (sp_inState r b))), xem w l t) := by
  have hB := hR.W.bd
  have hk20 := hB.k20
  have hq40 := hB.q40
  have hv4 := hB.v4
  have hb6 := hB.b6
  rw [yc_72]
  refine xlp (fun i => xm_R sc xt_M (d + 0) 72 4 [.ref (xh k), .int b, .int (xsum (fun q => zB (r (56 + 6 * q) = b)) i), .int (nI i)] [] (xem w l t)) (xnk r) ?_ ?_
  · intro i hi
    rw [yb_72_4, show xsum (fun q => zB (r (56 + 6 * q) = b)) (i + 1) = xsum (fun q => zB (r (56 + 6 * q) = b)) i + zB (r (56 + 6 * i) = b) from rfl]
    by_cases h : r (56 + 6 * i) = b
    · rw [zB_tt (c := r (56 + 6 * i) = b) h]
      simp (disch := first | omega | assumption | exact xpi_lt) only [↓zbE, zbd_some, ↓xk_I, ↓xk_v, zB_0, zB_1, ite_not, ↓reduceIte, zS, zSa_0, zSa_1, zSa_2, zSa_3, zSa_4, zSa_5, zSa_6, zSa_7, zSa_8, zSa_9, zPa_0, zPa_1, zPa_2, zPa_3, zPa_4, xgS_0, xgS_1, xgS_2, xgS_3, xgS_4, xgS_5, xgS_6, xgS_7, xgS_8, xgS_9, xgS_10, xgS_11, xgQ_0, xgQ_1, xgQ_2, xgQ_3, xgQ_4, xgP_0, xgP_1, xgP_2, xgP_3, xgP_4, xgP_5, xgP_6, xgP_7, xgY_0, xiS, xiQ, xiY, xiP, eq_true h, yb_72_28, nI_ge, hk, hR.pk, hR.kind hi]
    · rw [zB_ff (c := r (56 + 6 * i) = b) h, Int32.add_zero]
      simp (disch := first | omega | assumption | exact xpi_lt) only [↓zbE, zbd_some, ↓xk_I, ↓xk_v, zB_0, zB_1, ite_not, ↓reduceIte, zS, zSa_0, zSa_1, zSa_2, zSa_3, zSa_4, zSa_5, zSa_6, zSa_7, zSa_8, zSa_9, zPa_0, zPa_1, zPa_2, zPa_3, zPa_4, xgS_0, xgS_1, xgS_2, xgS_3, xgS_4, xgS_5, xgS_6, xgS_7, xgS_8, xgS_9, xgS_10, xgS_11, xgQ_0, xgQ_1, xgQ_2, xgQ_3, xgQ_4, xgP_0, xgP_1, xgP_2, xgP_3, xgP_4, xgP_5, xgP_6, xgP_7, xgY_0, xiS, xiQ, xiY, xiP, eq_false h, yb_72_28, nI_ge, hk, hR.pk, hR.kind hi]
  · rw [yb_72_4]
    simp (disch := first | omega | assumption | exact xpi_lt) only [↓zbE, zbd_some, ↓xk_I, ↓xk_v, zB_0, zB_1, ite_not, ↓reduceIte, zS, zSa_0, zSa_1, zSa_2, zSa_3, zSa_4, zSa_5, zSa_6, zSa_7, zSa_8, zSa_9, zPa_0, zPa_1, zPa_2, zPa_3, zPa_4, xgS_0, xgS_1, xgS_2, xgS_3, xgS_4, xgS_5, xgS_6, xgS_7, xgS_8, xgS_9, xgS_10, xgS_11, xgQ_0, xgQ_1, xgQ_2, xgQ_3, xgQ_4, xgP_0, xgP_1, xgP_2, xgP_3, xgP_4, xgP_5, xgP_6, xgP_7, xgY_0, xiS, xiQ, xiY, xiP, nI_le, hR.pk, hR.pv, hR.cnt]
    rfl
theorem kc_73 {st b : Int32} (hk : k < 13) (hR : kRel w k r) : xm_C sc xt_M (d + 2) 73 [.ref (xh k), .int st, .int b] (xem w l t) = some (.inl (some (.int (sp_booksIn r st b))), xem w l t) := by
  have hB := hR.W.bd
  have hk20 := hB.k20
  have hq40 := hB.q40
  have hv4 := hB.v4
  have hb6 := hB.b6
  rw [yc_73]
  refine xlp (fun i => xm_R sc xt_M (d + 1) 73 5 [.ref (xh k), .int st, .int b, .int (xsum (fun q => zB (r (56 + 6 * q) = st ∧ r (57 + 6 * q) = b)) i), .int (nI i)] [] (xem w l t)) (xnk r) ?_ ?_
  · intro i hi
    rw [yb_73_5, show xsum (fun q => zB (r (56 + 6 * q) = st ∧ r (57 + 6 * q) = b)) (i + 1) = xsum (fun q => zB (r (56 + 6 * q) = st ∧ r (57 + 6 * q) = b)) i + zB (r (56 + 6 * i) = st ∧ r (57 + 6 * i) = b) from rfl]
    by_cases h : r (56 + 6 * i) = st ∧ r (57 + 6 * i) = b
    · rw [zB_tt (c := r (56 + 6 * i) = st ∧ r (57 + 6 * i) = b) h]
      simp (disch := first | omega | assumption | exact xpi_lt) only [↓zbE, zbd_some, ↓xk_I, ↓xk_v, zB_0, zB_1, ite_not, ↓reduceIte, zS, zSa_0, zSa_1, zSa_2, zSa_3, zSa_4, zSa_5, zSa_6, zSa_7, zSa_8, zSa_9, zPa_0, zPa_1, zPa_2, zPa_3, zPa_4, xgS_0, xgS_1, xgS_2, xgS_3, xgS_4, xgS_5, xgS_6, xgS_7, xgS_8, xgS_9, xgS_10, xgS_11, xgQ_0, xgQ_1, xgQ_2, xgQ_3, xgQ_4, xgP_0, xgP_1, xgP_2, xgP_3, xgP_4, xgP_5, xgP_6, xgP_7, xgY_0, xiS, xiQ, xiY, xiP, eq_true h, yb_73_31, nI_ge, hk, hR.pk, kc_63 hk hR]
    · rw [zB_ff (c := r (56 + 6 * i) = st ∧ r (57 + 6 * i) = b) h, Int32.add_zero]
      simp (disch := first | omega | assumption | exact xpi_lt) only [↓zbE, zbd_some, ↓xk_I, ↓xk_v, zB_0, zB_1, ite_not, ↓reduceIte, zS, zSa_0, zSa_1, zSa_2, zSa_3, zSa_4, zSa_5, zSa_6, zSa_7, zSa_8, zSa_9, zPa_0, zPa_1, zPa_2, zPa_3, zPa_4, xgS_0, xgS_1, xgS_2, xgS_3, xgS_4, xgS_5, xgS_6, xgS_7, xgS_8, xgS_9, xgS_10, xgS_11, xgQ_0, xgQ_1, xgQ_2, xgQ_3, xgQ_4, xgP_0, xgP_1, xgP_2, xgP_3, xgP_4, xgP_5, xgP_6, xgP_7, xgY_0, xiS, xiQ, xiY, xiP, eq_false h, yb_73_31, nI_ge, hk, hR.pk, kc_63 hk hR]
  · rw [yb_73_5]
    simp (disch := first | omega | assumption | exact xpi_lt) only [↓zbE, zbd_some, ↓xk_I, ↓xk_v, zB_0, zB_1, ite_not, ↓reduceIte, zS, zSa_0, zSa_1, zSa_2, zSa_3, zSa_4, zSa_5, zSa_6, zSa_7, zSa_8, zSa_9, zPa_0, zPa_1, zPa_2, zPa_3, zPa_4, xgS_0, xgS_1, xgS_2, xgS_3, xgS_4, xgS_5, xgS_6, xgS_7, xgS_8, xgS_9, xgS_10, xgS_11, xgQ_0, xgQ_1, xgQ_2, xgQ_3, xgQ_4, xgP_0, xgP_1, xgP_2, xgP_3, xgP_4, xgP_5, xgP_6, xgP_7, xgY_0, xiS, xiQ, xiY, xiP, nI_le, hR.pk, hR.pv, hR.cnt]
    rfl
theorem kc_50_7 {b : Int32} (hk : k < 13) (hR : kRel w k r) : xm_C sc xt_M (d + 1) 50 [.ref (xh k + 6), .ref (xh k + 7), .int b] (xem w l t) = some (.inl (some (.int (sp_queue r b))), xem w l t) := by
  have hB := hR.W.bd
  have hk20 := hB.k20
  have hq40 := hB.q40
  have hv4 := hB.v4
  have hb6 := hB.b6
  rw [yc_50]
  refine xlp (fun i => xm_R sc xt_M (d + 0) 50 5 [.ref (xh k + 6), .ref (xh k + 7), .int b, .int (xsum (fun q => zB (r (176 + 3 * q) = b)) i), .int (nI i)] [] (xem w l t)) (xnq r) ?_ ?_
  · intro i hi
    rw [yb_50_5, show xsum (fun q => zB (r (176 + 3 * q) = b)) (i + 1) = xsum (fun q => zB (r (176 + 3 * q) = b)) i + zB (r (176 + 3 * i) = b) from rfl]
    by_cases h : r (176 + 3 * i) = b
    · rw [zB_tt (c := r (176 + 3 * i) = b) h]
      simp (disch := first | omega | assumption | exact xpi_lt) only [↓zbE, zbd_some, ↓xk_I, ↓xk_v, zB_0, zB_1, ite_not, ↓reduceIte, zS, zSa_0, zSa_1, zSa_2, zSa_3, zSa_4, zSa_5, zSa_6, zSa_7, zSa_8, zSa_9, zPa_0, zPa_1, zPa_2, zPa_3, zPa_4, xgS_0, xgS_1, xgS_2, xgS_3, xgS_4, xgS_5, xgS_6, xgS_7, xgS_8, xgS_9, xgS_10, xgS_11, xgQ_0, xgQ_1, xgQ_2, xgQ_3, xgQ_4, xgP_0, xgP_1, xgP_2, xgP_3, xgP_4, xgP_5, xgP_6, xgP_7, xgY_0, xiS, xiQ, xiY, xiP, eq_true h, yb_50_25, nI_ge, hk, hR.cnt, hR.qb hi]
    · rw [zB_ff (c := r (176 + 3 * i) = b) h, Int32.add_zero]
      simp (disch := first | omega | assumption | exact xpi_lt) only [↓zbE, zbd_some, ↓xk_I, ↓xk_v, zB_0, zB_1, ite_not, ↓reduceIte, zS, zSa_0, zSa_1, zSa_2, zSa_3, zSa_4, zSa_5, zSa_6, zSa_7, zSa_8, zSa_9, zPa_0, zPa_1, zPa_2, zPa_3, zPa_4, xgS_0, xgS_1, xgS_2, xgS_3, xgS_4, xgS_5, xgS_6, xgS_7, xgS_8, xgS_9, xgS_10, xgS_11, xgQ_0, xgQ_1, xgQ_2, xgQ_3, xgQ_4, xgP_0, xgP_1, xgP_2, xgP_3, xgP_4, xgP_5, xgP_6, xgP_7, xgY_0, xiS, xiQ, xiY, xiP, eq_false h, yb_50_25, nI_ge, hk, hR.cnt, hR.qb hi]
  · rw [yb_50_5]
    simp (disch := first | omega | assumption | exact xpi_lt) only [↓zbE, zbd_some, ↓xk_I, ↓xk_v, zB_0, zB_1, ite_not, ↓reduceIte, zS, zSa_0, zSa_1, zSa_2, zSa_3, zSa_4, zSa_5, zSa_6, zSa_7, zSa_8, zSa_9, zPa_0, zPa_1, zPa_2, zPa_3, zPa_4, xgS_0, xgS_1, xgS_2, xgS_3, xgS_4, xgS_5, xgS_6, xgS_7, xgS_8, xgS_9, xgS_10, xgS_11, xgQ_0, xgQ_1, xgQ_2, xgQ_3, xgQ_4, xgP_0, xgP_1, xgP_2, xgP_3, xgP_4, xgP_5, xgP_6, xgP_7, xgY_0, xiS, xiQ, xiY, xiP, nI_le, hR.pk, hR.pv, hR.cnt]
    rfl
theorem kc_50_8 {b : Int32} (hk : k < 13) (hR : kRel w k r) : xm_C sc xt_M (d + 1) 50 [.ref (xh k + 6), .ref (xh k + 8), .int b] (xem w l t) = some (.inl (some (.int (sp_reqOf r b))), xem w l t) := by
  have hB := hR.W.bd
  have hk20 := hB.k20
  have hq40 := hB.q40
  have hv4 := hB.v4
  have hb6 := hB.b6
  rw [yc_50]
  refine xlp (fun i => xm_R sc xt_M (d + 0) 50 5 [.ref (xh k + 6), .ref (xh k + 8), .int b, .int (xsum (fun q => zB (r (177 + 3 * q) = b)) i), .int (nI i)] [] (xem w l t)) (xnq r) ?_ ?_
  · intro i hi
    rw [yb_50_5, show xsum (fun q => zB (r (177 + 3 * q) = b)) (i + 1) = xsum (fun q => zB (r (177 + 3 * q) = b)) i + zB (r (177 + 3 * i) = b) from rfl]
    by_cases h : r (177 + 3 * i) = b
    · rw [zB_tt (c := r (177 + 3 * i) = b) h]
      simp (disch := first | omega | assumption | exact xpi_lt) only [↓zbE, zbd_some, ↓xk_I, ↓xk_v, zB_0, zB_1, ite_not, ↓reduceIte, zS, zSa_0, zSa_1, zSa_2, zSa_3, zSa_4, zSa_5, zSa_6, zSa_7, zSa_8, zSa_9, zPa_0, zPa_1, zPa_2, zPa_3, zPa_4, xgS_0, xgS_1, xgS_2, xgS_3, xgS_4, xgS_5, xgS_6, xgS_7, xgS_8, xgS_9, xgS_10, xgS_11, xgQ_0, xgQ_1, xgQ_2, xgQ_3, xgQ_4, xgP_0, xgP_1, xgP_2, xgP_3, xgP_4, xgP_5, xgP_6, xgP_7, xgY_0, xiS, xiQ, xiY, xiP, eq_true h, yb_50_25, nI_ge, hk, hR.cnt, hR.qr hi]
    · rw [zB_ff (c := r (177 + 3 * i) = b) h, Int32.add_zero]
      simp (disch := first | omega | assumption | exact xpi_lt) only [↓zbE, zbd_some, ↓xk_I, ↓xk_v, zB_0, zB_1, ite_not, ↓reduceIte, zS, zSa_0, zSa_1, zSa_2, zSa_3, zSa_4, zSa_5, zSa_6, zSa_7, zSa_8, zSa_9, zPa_0, zPa_1, zPa_2, zPa_3, zPa_4, xgS_0, xgS_1, xgS_2, xgS_3, xgS_4, xgS_5, xgS_6, xgS_7, xgS_8, xgS_9, xgS_10, xgS_11, xgQ_0, xgQ_1, xgQ_2, xgQ_3, xgQ_4, xgP_0, xgP_1, xgP_2, xgP_3, xgP_4, xgP_5, xgP_6, xgP_7, xgY_0, xiS, xiQ, xiY, xiP, eq_false h, yb_50_25, nI_ge, hk, hR.cnt, hR.qr hi]
  · rw [yb_50_5]
    simp (disch := first | omega | assumption | exact xpi_lt) only [↓zbE, zbd_some, ↓xk_I, ↓xk_v, zB_0, zB_1, ite_not, ↓reduceIte, zS, zSa_0, zSa_1, zSa_2, zSa_3, zSa_4, zSa_5, zSa_6, zSa_7, zSa_8, zSa_9, zPa_0, zPa_1, zPa_2, zPa_3, zPa_4, xgS_0, xgS_1, xgS_2, xgS_3, xgS_4, xgS_5, xgS_6, xgS_7, xgS_8, xgS_9, xgS_10, xgS_11, xgQ_0, xgQ_1, xgQ_2, xgQ_3, xgQ_4, xgP_0, xgP_1, xgP_2, xgP_3, xgP_4, xgP_5, xgP_6, xgP_7, xgY_0, xiS, xiQ, xiY, xiP, nI_le, hR.pk, hR.pv, hR.cnt]
    rfl
theorem kc_50_9 {b : Int32} (hk : k < 13) (hR : kRel w k r) : xm_C sc xt_M (d + 1) 50 [.ref (xh k + 6), .ref (xh k + 9), .int b] (xem w l t) = some (.inl (some (.int (sp_reqAt r b))), xem w l t) := by
  have hB := hR.W.bd
  have hk20 := hB.k20
  have hq40 := hB.q40
  have hv4 := hB.v4
  have hb6 := hB.b6
  rw [yc_50]
  refine xlp (fun i => xm_R sc xt_M (d + 0) 50 5 [.ref (xh k + 6), .ref (xh k + 9), .int b, .int (xsum (fun q => zB (r (178 + 3 * q) = b)) i), .int (nI i)] [] (xem w l t)) (xnq r) ?_ ?_
  · intro i hi
    rw [yb_50_5, show xsum (fun q => zB (r (178 + 3 * q) = b)) (i + 1) = xsum (fun q => zB (r (178 + 3 * q) = b)) i + zB (r (178 + 3 * i) = b) from rfl]
    by_cases h : r (178 + 3 * i) = b
    · rw [zB_tt (c := r (178 + 3 * i) = b) h]
      simp (disch := first | omega | assumption | exact xpi_lt) only [↓zbE, zbd_some, ↓xk_I, ↓xk_v, zB_0, zB_1, ite_not, ↓reduceIte, zS, zSa_0, zSa_1, zSa_2, zSa_3, zSa_4, zSa_5, zSa_6, zSa_7, zSa_8, zSa_9, zPa_0, zPa_1, zPa_2, zPa_3, zPa_4, xgS_0, xgS_1, xgS_2, xgS_3, xgS_4, xgS_5, xgS_6, xgS_7, xgS_8, xgS_9, xgS_10, xgS_11, xgQ_0, xgQ_1, xgQ_2, xgQ_3, xgQ_4, xgP_0, xgP_1, xgP_2, xgP_3, xgP_4, xgP_5, xgP_6, xgP_7, xgY_0, xiS, xiQ, xiY, xiP, eq_true h, yb_50_25, nI_ge, hk, hR.cnt, hR.qw hi]
    · rw [zB_ff (c := r (178 + 3 * i) = b) h, Int32.add_zero]
      simp (disch := first | omega | assumption | exact xpi_lt) only [↓zbE, zbd_some, ↓xk_I, ↓xk_v, zB_0, zB_1, ite_not, ↓reduceIte, zS, zSa_0, zSa_1, zSa_2, zSa_3, zSa_4, zSa_5, zSa_6, zSa_7, zSa_8, zSa_9, zPa_0, zPa_1, zPa_2, zPa_3, zPa_4, xgS_0, xgS_1, xgS_2, xgS_3, xgS_4, xgS_5, xgS_6, xgS_7, xgS_8, xgS_9, xgS_10, xgS_11, xgQ_0, xgQ_1, xgQ_2, xgQ_3, xgQ_4, xgP_0, xgP_1, xgP_2, xgP_3, xgP_4, xgP_5, xgP_6, xgP_7, xgY_0, xiS, xiQ, xiY, xiP, eq_false h, yb_50_25, nI_ge, hk, hR.cnt, hR.qw hi]
  · rw [yb_50_5]
    simp (disch := first | omega | assumption | exact xpi_lt) only [↓zbE, zbd_some, ↓xk_I, ↓xk_v, zB_0, zB_1, ite_not, ↓reduceIte, zS, zSa_0, zSa_1, zSa_2, zSa_3, zSa_4, zSa_5, zSa_6, zSa_7, zSa_8, zSa_9, zPa_0, zPa_1, zPa_2, zPa_3, zPa_4, xgS_0, xgS_1, xgS_2, xgS_3, xgS_4, xgS_5, xgS_6, xgS_7, xgS_8, xgS_9, xgS_10, xgS_11, xgQ_0, xgQ_1, xgQ_2, xgQ_3, xgQ_4, xgP_0, xgP_1, xgP_2, xgP_3, xgP_4, xgP_5, xgP_6, xgP_7, xgY_0, xiS, xiQ, xiY, xiP, nI_le, hR.pk, hR.pv, hR.cnt]
    rfl
theorem kc_47 {b : Int32} (hk : k < 13) (hR : kRel w k r) : xm_C sc xt_M (d + 2) 47 [.ref (xh k + 6), .int b] (xem w l t) = some (.inl (some (.int (sp_queue r b))), xem w l t) := by
  rw [yc_47]
  simp (disch := first | omega | assumption | exact xpi_lt) only [↓zbE, zbd_some, ↓xk_I, ↓xk_v, zB_0, zB_1, ite_not, ↓reduceIte, zS, zSa_0, zSa_1, zSa_2, zSa_3, zSa_4, zSa_5, zSa_6, zSa_7, zSa_8, zSa_9, zPa_0, zPa_1, zPa_2, zPa_3, zPa_4, xgS_0, xgS_1, xgS_2, xgS_3, xgS_4, xgS_5, xgS_6, xgS_7, xgS_8, xgS_9, xgS_10, xgS_11, xgQ_0, xgQ_1, xgQ_2, xgQ_3, xgQ_4, xgP_0, xgP_1, xgP_2, xgP_3, xgP_4, xgP_5, xgP_6, xgP_7, xgY_0, xiS, xiQ, xiY, xiP, kc_50_7 hk hR]
theorem kc_49 {b : Int32} (hk : k < 13) (hR : kRel w k r) : xm_C sc xt_M (d + 2) 49 [.ref (xh k + 6), .int b] (xem w l t) = some (.inl (some (.int (sp_reqAt r b))), xem w l t) := by
  rw [yc_49]
  simp (disch := first | omega | assumption | exact xpi_lt) only [↓zbE, zbd_some, ↓xk_I, ↓xk_v, zB_0, zB_1, ite_not, ↓reduceIte, zS, zSa_0, zSa_1, zSa_2, zSa_3, zSa_4, zSa_5, zSa_6, zSa_7, zSa_8, zSa_9, zPa_0, zPa_1, zPa_2, zPa_3, zPa_4, xgS_0, xgS_1, xgS_2, xgS_3, xgS_4, xgS_5, xgS_6, xgS_7, xgS_8, xgS_9, xgS_10, xgS_11, xgQ_0, xgQ_1, xgQ_2, xgQ_3, xgQ_4, xgP_0, xgP_1, xgP_2, xgP_3, xgP_4, xgP_5, xgP_6, xgP_7, xgY_0, xiS, xiQ, xiY, xiP, kc_50_9 hk hR]
theorem z01 : ((0 : Int32) = 1) = False := eq_false (by decide)
theorem kc_44 {b rd : Int32} (hk : k < 13) (hR : kRel w k r) : xm_C sc xt_M (d + 1) 44 [.ref (xh k + 6), .int b, .int rd] (xem w l t) = some (.inl (some (.int (toJ (sp_by r b rd)))), xem w l t) := by
  have hB := hR.W.bd
  have hk20 := hB.k20
  have hq40 := hB.q40
  have hv4 := hB.v4
  have hb6 := hB.b6
  rw [yc_44]
  refine (xlf (fun i => xm_R sc xt_M d 44 2 [.ref (xh k + 6), .int b, .int rd, .int (nI i)] [] (xem w l t)) (p := fun q => r (176 + 3 * q) = b ∧ r (177 + 3 * q) = rd) (K := fun i => some (.inl (some (.int (nI i))), xem w l t)) (E := some (.inl (some (.int (-1))), xem w l t)) (xnq r) ?_ ?_).trans ?_
  · intro i hi
    rw [yb_44_2]
    by_cases h1 : r (176 + 3 * i) = b
    · by_cases h2 : r (177 + 3 * i) = rd
      · rw [if_pos (c := r (176 + 3 * i) = b ∧ r (177 + 3 * i) = rd) ⟨h1, h2⟩]
        simp (disch := first | omega | assumption | exact xpi_lt) only [↓zbE, zbd_some, ↓xk_I, ↓xk_v, zB_0, zB_1, ite_not, ↓reduceIte, zS, zSa_0, zSa_1, zSa_2, zSa_3, zSa_4, zSa_5, zSa_6, zSa_7, zSa_8, zSa_9, zPa_0, zPa_1, zPa_2, zPa_3, zPa_4, xgS_0, xgS_1, xgS_2, xgS_3, xgS_4, xgS_5, xgS_6, xgS_7, xgS_8, xgS_9, xgS_10, xgS_11, xgQ_0, xgQ_1, xgQ_2, xgQ_3, xgQ_4, xgP_0, xgP_1, xgP_2, xgP_3, xgP_4, xgP_5, xgP_6, xgP_7, xgY_0, xiS, xiQ, xiY, xiP, eq_true h1, eq_true h2, yb_44_32, hR.cnt, hR.qb hi, hR.qr hi, nI_ge]
      · rw [if_neg (c := r (176 + 3 * i) = b ∧ r (177 + 3 * i) = rd) (fun h => h2 h.2)]
        simp (disch := first | omega | assumption | exact xpi_lt) only [↓zbE, zbd_some, ↓xk_I, ↓xk_v, zB_0, zB_1, ite_not, ↓reduceIte, zS, zSa_0, zSa_1, zSa_2, zSa_3, zSa_4, zSa_5, zSa_6, zSa_7, zSa_8, zSa_9, zPa_0, zPa_1, zPa_2, zPa_3, zPa_4, xgS_0, xgS_1, xgS_2, xgS_3, xgS_4, xgS_5, xgS_6, xgS_7, xgS_8, xgS_9, xgS_10, xgS_11, xgQ_0, xgQ_1, xgQ_2, xgQ_3, xgQ_4, xgP_0, xgP_1, xgP_2, xgP_3, xgP_4, xgP_5, xgP_6, xgP_7, xgY_0, xiS, xiQ, xiY, xiP, eq_true h1, h2, yb_44_32, hR.cnt, hR.qb hi, hR.qr hi, nI_ge]
    · rw [if_neg (c := r (176 + 3 * i) = b ∧ r (177 + 3 * i) = rd) (fun h => h1 h.1)]
      simp (disch := first | omega | assumption | exact xpi_lt) only [↓zbE, zbd_some, ↓xk_I, ↓xk_v, zB_0, zB_1, ite_not, ↓reduceIte, zS, zSa_0, zSa_1, zSa_2, zSa_3, zSa_4, zSa_5, zSa_6, zSa_7, zSa_8, zSa_9, zPa_0, zPa_1, zPa_2, zPa_3, zPa_4, xgS_0, xgS_1, xgS_2, xgS_3, xgS_4, xgS_5, xgS_6, xgS_7, xgS_8, xgS_9, xgS_10, xgS_11, xgQ_0, xgQ_1, xgQ_2, xgQ_3, xgQ_4, xgP_0, xgP_1, xgP_2, xgP_3, xgP_4, xgP_5, xgP_6, xgP_7, xgY_0, xiS, xiQ, xiY, xiP, h1, yb_44_32, hR.cnt, hR.qb hi, hR.qr hi, nI_ge]
  · rw [yb_44_2]
    simp (disch := first | omega | assumption | exact xpi_lt) only [↓zbE, zbd_some, ↓xk_I, ↓xk_v, zB_0, zB_1, ite_not, ↓reduceIte, zS, zSa_0, zSa_1, zSa_2, zSa_3, zSa_4, zSa_5, zSa_6, zSa_7, zSa_8, zSa_9, zPa_0, zPa_1, zPa_2, zPa_3, zPa_4, xgS_0, xgS_1, xgS_2, xgS_3, xgS_4, xgS_5, xgS_6, xgS_7, xgS_8, xgS_9, xgS_10, xgS_11, xgQ_0, xgQ_1, xgQ_2, xgQ_3, xgQ_4, xgP_0, xgP_1, xgP_2, xgP_3, xgP_4, xgP_5, xgP_6, xgP_7, xgY_0, xiS, xiQ, xiY, xiP, hR.cnt, nI_le]
  · unfold sp_by
    split <;> rename_i h <;> rw [h] <;> rfl
def kRk (r : Nat → Int32) (b : Int32) (q : Nat) : Int32 := xsum (fun p => zB (r (176 + 3 * p) = b)) q
theorem kRk_s {b : Int32} {q : Nat} : kRk r b (q + 1) = kRk r b q + zB (r (176 + 3 * q) = b) := rfl
theorem kRk_e {b : Int32} {q : Nat} (h : r (176 + 3 * q) = b) : kRk r b q = sp_rank r q := by rw [← h]; rfl
theorem kc_46 {b rd : Int32} (hk : k < 13) (hR : kRel w k r) : xm_C sc xt_M (d + 1) 46 [.ref (xh k + 6), .int b, .int rd] (xem w l t) = some (.inl (some (.int (match sp_by r b rd with | some q => sp_rank r q | none => -1))), xem w l t) := by
  have hB := hR.W.bd
  have hk20 := hB.k20
  have hq40 := hB.q40
  have hv4 := hB.v4
  have hb6 := hB.b6
  rw [yc_46]
  refine (xlf (fun i => xm_R sc xt_M d 46 5 [.ref (xh k + 6), .int b, .int rd, .int (kRk r b i), .int (nI i)] [] (xem w l t)) (p := fun q => r (176 + 3 * q) = b ∧ r (177 + 3 * q) = rd) (K := fun i => some (.inl (some (.int (kRk r b i))), xem w l t)) (E := some (.inl (some (.int (-1))), xem w l t)) (xnq r) ?_ ?_).trans ?_
  · intro i hi
    rw [yb_46_5, kRk_s]
    by_cases h1 : r (176 + 3 * i) = b
    · by_cases h2 : r (177 + 3 * i) = rd
      · rw [if_pos (c := r (176 + 3 * i) = b ∧ r (177 + 3 * i) = rd) ⟨h1, h2⟩]
        simp (disch := first | omega | assumption | exact xpi_lt) only [↓zbE, zbd_some, ↓xk_I, ↓xk_v, zB_0, zB_1, ite_not, ↓reduceIte, zS, zSa_0, zSa_1, zSa_2, zSa_3, zSa_4, zSa_5, zSa_6, zSa_7, zSa_8, zSa_9, zPa_0, zPa_1, zPa_2, zPa_3, zPa_4, xgS_0, xgS_1, xgS_2, xgS_3, xgS_4, xgS_5, xgS_6, xgS_7, xgS_8, xgS_9, xgS_10, xgS_11, xgQ_0, xgQ_1, xgQ_2, xgQ_3, xgQ_4, xgP_0, xgP_1, xgP_2, xgP_3, xgP_4, xgP_5, xgP_6, xgP_7, xgY_0, xiS, xiQ, xiY, xiP, eq_true h1, eq_true h2, yb_46_41, hR.cnt, hR.qb hi, hR.qr hi, nI_ge]
      · rw [if_neg (c := r (176 + 3 * i) = b ∧ r (177 + 3 * i) = rd) (fun h => h2 h.2), zB_tt (c := r (176 + 3 * i) = b) h1]
        simp (disch := first | omega | assumption | exact xpi_lt) only [↓zbE, zbd_some, ↓xk_I, ↓xk_v, zB_0, zB_1, ite_not, ↓reduceIte, zS, zSa_0, zSa_1, zSa_2, zSa_3, zSa_4, zSa_5, zSa_6, zSa_7, zSa_8, zSa_9, zPa_0, zPa_1, zPa_2, zPa_3, zPa_4, xgS_0, xgS_1, xgS_2, xgS_3, xgS_4, xgS_5, xgS_6, xgS_7, xgS_8, xgS_9, xgS_10, xgS_11, xgQ_0, xgQ_1, xgQ_2, xgQ_3, xgQ_4, xgP_0, xgP_1, xgP_2, xgP_3, xgP_4, xgP_5, xgP_6, xgP_7, xgY_0, xiS, xiQ, xiY, xiP, eq_true h1, h2, yb_46_41, hR.cnt, hR.qb hi, hR.qr hi, nI_ge]
    · rw [if_neg (c := r (176 + 3 * i) = b ∧ r (177 + 3 * i) = rd) (fun h => h1 h.1), zB_ff (c := r (176 + 3 * i) = b) h1, Int32.add_zero]
      simp (disch := first | omega | assumption | exact xpi_lt) only [↓zbE, zbd_some, ↓xk_I, ↓xk_v, zB_0, zB_1, ite_not, ↓reduceIte, zS, zSa_0, zSa_1, zSa_2, zSa_3, zSa_4, zSa_5, zSa_6, zSa_7, zSa_8, zSa_9, zPa_0, zPa_1, zPa_2, zPa_3, zPa_4, xgS_0, xgS_1, xgS_2, xgS_3, xgS_4, xgS_5, xgS_6, xgS_7, xgS_8, xgS_9, xgS_10, xgS_11, xgQ_0, xgQ_1, xgQ_2, xgQ_3, xgQ_4, xgP_0, xgP_1, xgP_2, xgP_3, xgP_4, xgP_5, xgP_6, xgP_7, xgY_0, xiS, xiQ, xiY, xiP, h1, yb_46_41, hR.cnt, hR.qb hi, hR.qr hi, nI_ge]
  · rw [yb_46_5]
    simp (disch := first | omega | assumption | exact xpi_lt) only [↓zbE, zbd_some, ↓xk_I, ↓xk_v, zB_0, zB_1, ite_not, ↓reduceIte, zS, zSa_0, zSa_1, zSa_2, zSa_3, zSa_4, zSa_5, zSa_6, zSa_7, zSa_8, zSa_9, zPa_0, zPa_1, zPa_2, zPa_3, zPa_4, xgS_0, xgS_1, xgS_2, xgS_3, xgS_4, xgS_5, xgS_6, xgS_7, xgS_8, xgS_9, xgS_10, xgS_11, xgQ_0, xgQ_1, xgQ_2, xgQ_3, xgQ_4, xgP_0, xgP_1, xgP_2, xgP_3, xgP_4, xgP_5, xgP_6, xgP_7, xgY_0, xiS, xiQ, xiY, xiP, hR.cnt, nI_le]
  · unfold sp_by
    split
    · next i h =>
      rw [h, kRk_e (xfst_some h).1.1]
    · next h => rw [h]
theorem kc_45 {b n : Int32} (hk : k < 13) (hR : kRel w k r) : xm_C sc xt_M (d + 1) 45 [.ref (xh k + 6), .int b, .int n] (xem w l t) = some (.inl (some (.int (toJ (sp_at r b n)))), xem w l t) := by
  have hB := hR.W.bd
  have hk20 := hB.k20
  have hq40 := hB.q40
  have hv4 := hB.v4
  have hb6 := hB.b6
  rw [yc_45]
  refine (xlf (fun i => xm_R sc xt_M d 45 5 [.ref (xh k + 6), .int b, .int n, .int (kRk r b i), .int (nI i)] [] (xem w l t)) (p := fun q => r (176 + 3 * q) = b ∧ sp_rank r q = n) (K := fun i => some (.inl (some (.int (nI i))), xem w l t)) (E := some (.inl (some (.int (-1))), xem w l t)) (xnq r) ?_ ?_).trans ?_
  · intro i hi
    rw [yb_45_5, kRk_s]
    by_cases h1 : r (176 + 3 * i) = b
    · have h3 := kRk_e h1
      by_cases h2 : sp_rank r i = n
      · rw [if_pos (c := r (176 + 3 * i) = b ∧ sp_rank r i = n) ⟨h1, h2⟩]
        simp (disch := first | omega | assumption | exact xpi_lt) only [↓zbE, zbd_some, ↓xk_I, ↓xk_v, zB_0, zB_1, ite_not, ↓reduceIte, zS, zSa_0, zSa_1, zSa_2, zSa_3, zSa_4, zSa_5, zSa_6, zSa_7, zSa_8, zSa_9, zPa_0, zPa_1, zPa_2, zPa_3, zPa_4, xgS_0, xgS_1, xgS_2, xgS_3, xgS_4, xgS_5, xgS_6, xgS_7, xgS_8, xgS_9, xgS_10, xgS_11, xgQ_0, xgQ_1, xgQ_2, xgQ_3, xgQ_4, xgP_0, xgP_1, xgP_2, xgP_3, xgP_4, xgP_5, xgP_6, xgP_7, xgY_0, xiS, xiQ, xiY, xiP, eq_true h1, h3, eq_true h2, yb_45_36, hR.cnt, hR.qb hi, hR.qr hi, nI_ge]
      · rw [if_neg (c := r (176 + 3 * i) = b ∧ sp_rank r i = n) (fun h => h2 h.2), zB_tt (c := r (176 + 3 * i) = b) h1]
        simp (disch := first | omega | assumption | exact xpi_lt) only [↓zbE, zbd_some, ↓xk_I, ↓xk_v, zB_0, zB_1, ite_not, ↓reduceIte, zS, zSa_0, zSa_1, zSa_2, zSa_3, zSa_4, zSa_5, zSa_6, zSa_7, zSa_8, zSa_9, zPa_0, zPa_1, zPa_2, zPa_3, zPa_4, xgS_0, xgS_1, xgS_2, xgS_3, xgS_4, xgS_5, xgS_6, xgS_7, xgS_8, xgS_9, xgS_10, xgS_11, xgQ_0, xgQ_1, xgQ_2, xgQ_3, xgQ_4, xgP_0, xgP_1, xgP_2, xgP_3, xgP_4, xgP_5, xgP_6, xgP_7, xgY_0, xiS, xiQ, xiY, xiP, eq_true h1, h3, h2, yb_45_36, hR.cnt, hR.qb hi, hR.qr hi, nI_ge]
    · rw [if_neg (c := r (176 + 3 * i) = b ∧ sp_rank r i = n) (fun h => h1 h.1), zB_ff (c := r (176 + 3 * i) = b) h1, Int32.add_zero]
      simp (disch := first | omega | assumption | exact xpi_lt) only [↓zbE, zbd_some, ↓xk_I, ↓xk_v, zB_0, zB_1, ite_not, ↓reduceIte, zS, zSa_0, zSa_1, zSa_2, zSa_3, zSa_4, zSa_5, zSa_6, zSa_7, zSa_8, zSa_9, zPa_0, zPa_1, zPa_2, zPa_3, zPa_4, xgS_0, xgS_1, xgS_2, xgS_3, xgS_4, xgS_5, xgS_6, xgS_7, xgS_8, xgS_9, xgS_10, xgS_11, xgQ_0, xgQ_1, xgQ_2, xgQ_3, xgQ_4, xgP_0, xgP_1, xgP_2, xgP_3, xgP_4, xgP_5, xgP_6, xgP_7, xgY_0, xiS, xiQ, xiY, xiP, h1, yb_45_36, hR.cnt, hR.qb hi, hR.qr hi, nI_ge]
  · rw [yb_45_5]
    simp (disch := first | omega | assumption | exact xpi_lt) only [↓zbE, zbd_some, ↓xk_I, ↓xk_v, zB_0, zB_1, ite_not, ↓reduceIte, zS, zSa_0, zSa_1, zSa_2, zSa_3, zSa_4, zSa_5, zSa_6, zSa_7, zSa_8, zSa_9, zPa_0, zPa_1, zPa_2, zPa_3, zPa_4, xgS_0, xgS_1, xgS_2, xgS_3, xgS_4, xgS_5, xgS_6, xgS_7, xgS_8, xgS_9, xgS_10, xgS_11, xgQ_0, xgQ_1, xgQ_2, xgQ_3, xgQ_4, xgP_0, xgP_1, xgP_2, xgP_3, xgP_4, xgP_5, xgP_6, xgP_7, xgY_0, xiS, xiQ, xiY, xiP, hR.cnt, nI_le]
  · unfold sp_at
    split <;> rename_i h <;> rw [h] <;> rfl
theorem kc_74 {v m : Nat} (hk : k < 13) (hR : kRel w k r) (hm : m < 2 ^ 31) : xm_C sc xt_M (d + 2) 74 [.ref (xh k), .int (nI v), .int (nI m)] (xem w l t) = some (.inl (some (.int (toJ (xfst (fun q => sp_inp r v m q) 0 (xnk r))))), xem w l t) := by
  have hB := hR.W.bd
  have hk20 := hB.k20
  have hq40 := hB.q40
  have hv4 := hB.v4
  have hb6 := hB.b6
  rw [yc_74]
  refine (xlf (fun i => xm_R sc xt_M (d + 1) 74 5 [.ref (xh k), .int (nI v), .int (nI m), .int (nI (xcnt (fun q => sp_isIn r 1 q (nI v)) i)), .int (nI i)] [] (xem w l t)) (p := fun q => sp_inp r v m q) (K := fun i => some (.inl (some (.int (nI i))), xem w l t)) (E := some (.inl (some (.int (-1))), xem w l t)) (xnk r) ?_ ?_).trans ?_
  · intro i hi
    have hle := @xcnt_le (fun q => sp_isIn r 1 q (nI v)) _ i
    rw [yb_74_5, xcnt_s]
    by_cases h1 : sp_isIn r 1 i (nI v)
    · rw [if_pos (c := sp_isIn r 1 i (nI v)) h1]
      by_cases h2 : xcnt (fun q => sp_isIn r 1 q (nI v)) i = m
      · rw [if_pos (c := sp_inp r v m i) ⟨h1, h2⟩]
        have h3 : nI (xcnt (fun q => sp_isIn r 1 q (nI v)) i) = nI m := by rw [h2]
        simp (disch := first | omega | assumption | exact xpi_lt) only [↓zbE, zbd_some, ↓xk_I, ↓xk_v, zB_0, zB_1, ite_not, ↓reduceIte, zS, zSa_0, zSa_1, zSa_2, zSa_3, zSa_4, zSa_5, zSa_6, zSa_7, zSa_8, zSa_9, zPa_0, zPa_1, zPa_2, zPa_3, zPa_4, xgS_0, xgS_1, xgS_2, xgS_3, xgS_4, xgS_5, xgS_6, xgS_7, xgS_8, xgS_9, xgS_10, xgS_11, xgQ_0, xgQ_1, xgQ_2, xgQ_3, xgQ_4, xgP_0, xgP_1, xgP_2, xgP_3, xgP_4, xgP_5, xgP_6, xgP_7, xgY_0, xiS, xiQ, xiY, xiP, kc_63 hk hR, hR.pk, nI_ge, eq_true h1, eq_true h3, yb_74_39]
      · rw [if_neg (c := sp_inp r v m i) (fun h => h2 h.2)]
        have h3 : ¬ nI (xcnt (fun q => sp_isIn r 1 q (nI v)) i) = nI m := fun h => h2 (nI_inj (by omega) hm h)
        simp (disch := first | omega | assumption | exact xpi_lt) only [↓zbE, zbd_some, ↓xk_I, ↓xk_v, zB_0, zB_1, ite_not, ↓reduceIte, zS, zSa_0, zSa_1, zSa_2, zSa_3, zSa_4, zSa_5, zSa_6, zSa_7, zSa_8, zSa_9, zPa_0, zPa_1, zPa_2, zPa_3, zPa_4, xgS_0, xgS_1, xgS_2, xgS_3, xgS_4, xgS_5, xgS_6, xgS_7, xgS_8, xgS_9, xgS_10, xgS_11, xgQ_0, xgQ_1, xgQ_2, xgQ_3, xgQ_4, xgP_0, xgP_1, xgP_2, xgP_3, xgP_4, xgP_5, xgP_6, xgP_7, xgY_0, xiS, xiQ, xiY, xiP, kc_63 hk hR, hR.pk, nI_ge, eq_true h1, h3, yb_74_39]
    · rw [if_neg (c := sp_isIn r 1 i (nI v)) h1, if_neg (c := sp_inp r v m i) (fun h => h1 h.1)]
      simp (disch := first | omega | assumption | exact xpi_lt) only [↓zbE, zbd_some, ↓xk_I, ↓xk_v, zB_0, zB_1, ite_not, ↓reduceIte, zS, zSa_0, zSa_1, zSa_2, zSa_3, zSa_4, zSa_5, zSa_6, zSa_7, zSa_8, zSa_9, zPa_0, zPa_1, zPa_2, zPa_3, zPa_4, xgS_0, xgS_1, xgS_2, xgS_3, xgS_4, xgS_5, xgS_6, xgS_7, xgS_8, xgS_9, xgS_10, xgS_11, xgQ_0, xgQ_1, xgQ_2, xgQ_3, xgQ_4, xgP_0, xgP_1, xgP_2, xgP_3, xgP_4, xgP_5, xgP_6, xgP_7, xgY_0, xiS, xiQ, xiY, xiP, kc_63 hk hR, hR.pk, nI_ge, eq_false h1, yb_74_39]
  · rw [yb_74_5]
    simp (disch := first | omega | assumption | exact xpi_lt) only [↓zbE, zbd_some, ↓xk_I, ↓xk_v, zB_0, zB_1, ite_not, ↓reduceIte, zS, zSa_0, zSa_1, zSa_2, zSa_3, zSa_4, zSa_5, zSa_6, zSa_7, zSa_8, zSa_9, zPa_0, zPa_1, zPa_2, zPa_3, zPa_4, xgS_0, xgS_1, xgS_2, xgS_3, xgS_4, xgS_5, xgS_6, xgS_7, xgS_8, xgS_9, xgS_10, xgS_11, xgQ_0, xgQ_1, xgQ_2, xgQ_3, xgQ_4, xgP_0, xgP_1, xgP_2, xgP_3, xgP_4, xgP_5, xgP_6, xgP_7, xgY_0, xiS, xiQ, xiY, xiP, hR.pk, nI_le]
  · split <;> rename_i h <;> rw [h] <;> rfl
theorem kc_75 {f : Nat → Int32} {q : Nat} {x : Int32} (hk : k < 13) (hR : kRel w k r) (hq : q < xnk r) : xm_C sc xt_M (d + 4) 75 [.ref (xh k), .int (nI q), .int x] (xem w l t) = some (.inl (some (.int (sp_num f r q x).1)), xem w l t) := by
  have hB := hR.W.bd
  have hk20 := hB.k20
  have hq40 := hB.q40
  have hv4 := hB.v4
  have hb6 := hB.b6
  have hll := @kLL_eq r f hR.W q hq
  rw [yc_75]
  unfold sp_num
  by_cases h0 : x.toInt = 0
  · obtain rfl : x = 0 := zti h0
    simp (disch := first | omega | assumption | exact xpi_lt) only [↓zbE, zbd_some, ↓xk_I, ↓xk_v, zB_0, zB_1, ite_not, ↓reduceIte, zS, zSa_0, zSa_1, zSa_2, zSa_3, zSa_4, zSa_5, zSa_6, zSa_7, zSa_8, zSa_9, zPa_0, zPa_1, zPa_2, zPa_3, zPa_4, xgS_0, xgS_1, xgS_2, xgS_3, xgS_4, xgS_5, xgS_6, xgS_7, xgS_8, xgS_9, xgS_10, xgS_11, xgQ_0, xgQ_1, xgQ_2, xgQ_3, xgQ_4, xgP_0, xgP_1, xgP_2, xgP_3, xgP_4, xgP_5, xgP_6, xgP_7, xgY_0, xiS, xiQ, xiY, xiP, Int32.reduceToInt, Int.reduceEq, hR.kind hq, hR.place hq, hR.home hq, hR.reader hq, hR.limit hq, kc_67 hk hR, kc_47 hk hR]
    
  by_cases h1 : x.toInt = 1
  · obtain rfl : x = 1 := zti h1
    simp (disch := first | omega | assumption | exact xpi_lt) only [↓zbE, zbd_some, ↓xk_I, ↓xk_v, zB_0, zB_1, ite_not, ↓reduceIte, zS, zSa_0, zSa_1, zSa_2, zSa_3, zSa_4, zSa_5, zSa_6, zSa_7, zSa_8, zSa_9, zPa_0, zPa_1, zPa_2, zPa_3, zPa_4, xgS_0, xgS_1, xgS_2, xgS_3, xgS_4, xgS_5, xgS_6, xgS_7, xgS_8, xgS_9, xgS_10, xgS_11, xgQ_0, xgQ_1, xgQ_2, xgQ_3, xgQ_4, xgP_0, xgP_1, xgP_2, xgP_3, xgP_4, xgP_5, xgP_6, xgP_7, xgY_0, xiS, xiQ, xiY, xiP, Int32.reduceToInt, Int.reduceEq, hR.kind hq, hR.place hq, hR.home hq, hR.reader hq, hR.limit hq, kc_67 hk hR, kc_47 hk hR]
    
  by_cases h2 : x.toInt = 2
  · obtain rfl : x = 2 := zti h2
    simp (disch := first | omega | assumption | exact xpi_lt) only [↓zbE, zbd_some, ↓xk_I, ↓xk_v, zB_0, zB_1, ite_not, ↓reduceIte, zS, zSa_0, zSa_1, zSa_2, zSa_3, zSa_4, zSa_5, zSa_6, zSa_7, zSa_8, zSa_9, zPa_0, zPa_1, zPa_2, zPa_3, zPa_4, xgS_0, xgS_1, xgS_2, xgS_3, xgS_4, xgS_5, xgS_6, xgS_7, xgS_8, xgS_9, xgS_10, xgS_11, xgQ_0, xgQ_1, xgQ_2, xgQ_3, xgQ_4, xgP_0, xgP_1, xgP_2, xgP_3, xgP_4, xgP_5, xgP_6, xgP_7, xgY_0, xiS, xiQ, xiY, xiP, Int32.reduceToInt, Int.reduceEq, hR.kind hq, hR.place hq, hR.home hq, hR.reader hq, hR.limit hq, kc_67 hk hR, kc_47 hk hR]
    
  by_cases h3 : x.toInt = 3
  · obtain rfl : x = 3 := zti h3
    simp (disch := first | omega | assumption | exact xpi_lt) only [↓zbE, zbd_some, ↓xk_I, ↓xk_v, zB_0, zB_1, ite_not, ↓reduceIte, zS, zSa_0, zSa_1, zSa_2, zSa_3, zSa_4, zSa_5, zSa_6, zSa_7, zSa_8, zSa_9, zPa_0, zPa_1, zPa_2, zPa_3, zPa_4, xgS_0, xgS_1, xgS_2, xgS_3, xgS_4, xgS_5, xgS_6, xgS_7, xgS_8, xgS_9, xgS_10, xgS_11, xgQ_0, xgQ_1, xgQ_2, xgQ_3, xgQ_4, xgP_0, xgP_1, xgP_2, xgP_3, xgP_4, xgP_5, xgP_6, xgP_7, xgY_0, xiS, xiQ, xiY, xiP, Int32.reduceToInt, Int.reduceEq, hR.kind hq, hR.place hq, hR.home hq, hR.reader hq, hR.limit hq, kc_67 hk hR, kc_47 hk hR]
    
  by_cases h4 : x.toInt = 4
  · obtain rfl : x = 4 := zti h4
    simp (disch := first | omega | assumption | exact xpi_lt) only [↓zbE, zbd_some, ↓xk_I, ↓xk_v, zB_0, zB_1, ite_not, ↓reduceIte, zS, zSa_0, zSa_1, zSa_2, zSa_3, zSa_4, zSa_5, zSa_6, zSa_7, zSa_8, zSa_9, zPa_0, zPa_1, zPa_2, zPa_3, zPa_4, xgS_0, xgS_1, xgS_2, xgS_3, xgS_4, xgS_5, xgS_6, xgS_7, xgS_8, xgS_9, xgS_10, xgS_11, xgQ_0, xgQ_1, xgQ_2, xgQ_3, xgQ_4, xgP_0, xgP_1, xgP_2, xgP_3, xgP_4, xgP_5, xgP_6, xgP_7, xgY_0, xiS, xiQ, xiY, xiP, Int32.reduceToInt, Int.reduceEq, hR.kind hq, hR.place hq, hR.home hq, hR.reader hq, hR.limit hq, kc_67 hk hR, kc_47 hk hR]
    
  by_cases h5 : x.toInt = 5
  · obtain rfl : x = 5 := zti h5
    rcases (hR.W.k q hq).2.2.1 with g | g
    · simp (disch := first | omega | assumption | exact xpi_lt) only [↓zbE, zbd_some, ↓xk_I, ↓xk_v, zB_0, zB_1, ite_not, ↓reduceIte, zS, zSa_0, zSa_1, zSa_2, zSa_3, zSa_4, zSa_5, zSa_6, zSa_7, zSa_8, zSa_9, zPa_0, zPa_1, zPa_2, zPa_3, zPa_4, xgS_0, xgS_1, xgS_2, xgS_3, xgS_4, xgS_5, xgS_6, xgS_7, xgS_8, xgS_9, xgS_10, xgS_11, xgQ_0, xgQ_1, xgQ_2, xgQ_3, xgQ_4, xgP_0, xgP_1, xgP_2, xgP_3, xgP_4, xgP_5, xgP_6, xgP_7, xgY_0, xiS, xiQ, xiY, xiP, Int32.reduceToInt, Int.reduceEq, kc_62 hk hR, g, z01, zBF]
    · simp (disch := first | omega | assumption | exact xpi_lt) only [↓zbE, zbd_some, ↓xk_I, ↓xk_v, zB_0, zB_1, ite_not, ↓reduceIte, zS, zSa_0, zSa_1, zSa_2, zSa_3, zSa_4, zSa_5, zSa_6, zSa_7, zSa_8, zSa_9, zPa_0, zPa_1, zPa_2, zPa_3, zPa_4, xgS_0, xgS_1, xgS_2, xgS_3, xgS_4, xgS_5, xgS_6, xgS_7, xgS_8, xgS_9, xgS_10, xgS_11, xgQ_0, xgQ_1, xgQ_2, xgQ_3, xgQ_4, xgP_0, xgP_1, xgP_2, xgP_3, xgP_4, xgP_5, xgP_6, xgP_7, xgY_0, xiS, xiQ, xiY, xiP, Int32.reduceToInt, Int.reduceEq, kc_62 hk hR, g, zBT, z10, not_true_eq_false]
    
  by_cases h6 : x.toInt = 6
  · obtain rfl : x = 6 := zti h6
    simp (disch := first | omega | assumption | exact xpi_lt) only [↓zbE, zbd_some, ↓xk_I, ↓xk_v, zB_0, zB_1, ite_not, ↓reduceIte, zS, zSa_0, zSa_1, zSa_2, zSa_3, zSa_4, zSa_5, zSa_6, zSa_7, zSa_8, zSa_9, zPa_0, zPa_1, zPa_2, zPa_3, zPa_4, xgS_0, xgS_1, xgS_2, xgS_3, xgS_4, xgS_5, xgS_6, xgS_7, xgS_8, xgS_9, xgS_10, xgS_11, xgQ_0, xgQ_1, xgQ_2, xgQ_3, xgQ_4, xgP_0, xgP_1, xgP_2, xgP_3, xgP_4, xgP_5, xgP_6, xgP_7, xgY_0, xiS, xiQ, xiY, xiP, Int32.reduceToInt, Int.reduceEq, hR.kind hq, hR.place hq, hR.home hq, hR.reader hq, hR.limit hq, kc_67 hk hR, kc_47 hk hR]
    
  by_cases h7 : x.toInt = 7
  · obtain rfl : x = 7 := zti h7
    simp (disch := first | omega | assumption | exact xpi_lt) only [↓zbE, zbd_some, ↓xk_I, ↓xk_v, zB_0, zB_1, ite_not, ↓reduceIte, zS, zSa_0, zSa_1, zSa_2, zSa_3, zSa_4, zSa_5, zSa_6, zSa_7, zSa_8, zSa_9, zPa_0, zPa_1, zPa_2, zPa_3, zPa_4, xgS_0, xgS_1, xgS_2, xgS_3, xgS_4, xgS_5, xgS_6, xgS_7, xgS_8, xgS_9, xgS_10, xgS_11, xgQ_0, xgQ_1, xgQ_2, xgQ_3, xgQ_4, xgP_0, xgP_1, xgP_2, xgP_3, xgP_4, xgP_5, xgP_6, xgP_7, xgY_0, xiS, xiQ, xiY, xiP, Int32.reduceToInt, Int.reduceEq, hR.kind hq, hR.place hq, hR.home hq, hR.reader hq, hR.limit hq, kc_67 hk hR, kc_47 hk hR]
    
  simp (disch := first | omega | assumption | exact xpi_lt) only [↓zbE, zbd_some, ↓xk_I, ↓xk_v, zB_0, zB_1, ite_not, ↓reduceIte, zS, zSa_0, zSa_1, zSa_2, zSa_3, zSa_4, zSa_5, zSa_6, zSa_7, zSa_8, zSa_9, zPa_0, zPa_1, zPa_2, zPa_3, zPa_4, xgS_0, xgS_1, xgS_2, xgS_3, xgS_4, xgS_5, xgS_6, xgS_7, xgS_8, xgS_9, xgS_10, xgS_11, xgQ_0, xgQ_1, xgQ_2, xgQ_3, xgQ_4, xgP_0, xgP_1, xgP_2, xgP_3, xgP_4, xgP_5, xgP_6, xgP_7, xgY_0, xiS, xiQ, xiY, xiP, h0, h1, h2, h3, h4, h5, h6, h7, kc_68 hk hR, hll]
end KH
