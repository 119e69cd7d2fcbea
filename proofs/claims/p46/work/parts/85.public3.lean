/-! THE CLASS's public methods (3) -/
section PUB3
variable {w : xW} {l : Nat → Nat → Int64} {t : Nat} {sc : xm_Sc} {d : Nat} {r : Nat → Int32}
theorem kd_113 {a x : Int32} (hR : kRel w 0 r) : kAn (xm_C sc xt_M (d + 4) 113 [.ref 0, .int a, .int x] (xem w l t)) w l t 0 (sp_van r a x) := by
  have hB := hR.W.bd
  have hk20 := hB.k20
  have hq40 := hB.q40
  have hv4 := hB.v4
  have hb6 := hB.b6
  rw [yc_113]
  unfold sp_van
  by_cases ha : sp_vn (r) a
  · rw [if_pos ha]
    have ha' := ha
    rw [sp_vn, hB.v] at ha'
    obtain ⟨n, hnn, rfl⟩ := zrg (by omega) ha'
    rw [nI_clamp (by omega)]
    unfold sp_vanN
    have c153 := @kn_153 w l t sc (d + 2) r n hR hnn
    obtain ⟨p1, p2, p3, p4, p5⟩ := hR.W.v n hnn
    obtain ⟨p, hp, ep⟩ : ∃ p, p < xst r n ∧ r (14 + 11 * n) = nI p := ⟨_, p4.2, p4.1⟩
    have ep2 : (r (14 + 11 * n)).toNatClampNeg = p := by
      have := hR.W.st9 hnn
      rw [ep, nI_clamp (by omega)]
    have hst : (w (xpi (w (0 + 5)) + 1)).2 1 n = r (13 + 11 * n) := (hR.P.2.1 n hnn).2.1
    have hat := hR.at hnn
    have c73 := @kc_73 w l t sc (d + 1) 0 r 1 (nI n) (by omega) hR
    have c61 := @kc_61v w l t sc (d + 1) r n hR hnn
    have c21 := @kc_21 w l t sc (d + 2) 0 n p (by omega) r hR hnn hp
    rw [ep2]
    by_cases h0 : x.toInt = 0
    · simp only [h0, ↓reduceIte, Int.reduceEq]
      obtain rfl : x = 0 := zti h0
      refine kAn_o ?_
      simp (disch := first | omega | assumption | exact xpi_lt) only [↓zbE, zbd_some, ↓xk_I, ↓xk_v, zB_0, zB_1, ite_not, ↓reduceIte, zS, zSa_0, zSa_1, zSa_2, zSa_3, zSa_4, zSa_5, zSa_6, zSa_7, zSa_8, zSa_9, zPa_0, zPa_1, zPa_2, zPa_3, zPa_4, xgS_0, xgS_1, xgS_2, xgS_3, xgS_4, xgS_5, xgS_6, xgS_7, xgS_8, xgS_9, xgS_10, xgS_11, xgQ_0, xgQ_1, xgQ_2, xgQ_3, xgQ_4, xgP_0, xgP_1, xgP_2, xgP_3, xgP_4, xgP_5, xgP_6, xgP_7, xgY_0, xiS, xiQ, xiY, xiP, xiA, Int32.reduceToInt, Int.reduceEq, Int32.reduceLT, Int32.reduceLE, yc_155, if_false, not_false_eq_true, xgA_5, c153, hR.room hnn, hat, hst, c73, c61]
      
    by_cases h1 : x.toInt = 1
    · simp only [h1, ↓reduceIte, Int.reduceEq]
      obtain rfl : x = 1 := zti h1
      refine kAn_o ?_
      simp (disch := first | omega | assumption | exact xpi_lt) only [↓zbE, zbd_some, ↓xk_I, ↓xk_v, zB_0, zB_1, ite_not, ↓reduceIte, zS, zSa_0, zSa_1, zSa_2, zSa_3, zSa_4, zSa_5, zSa_6, zSa_7, zSa_8, zSa_9, zPa_0, zPa_1, zPa_2, zPa_3, zPa_4, xgS_0, xgS_1, xgS_2, xgS_3, xgS_4, xgS_5, xgS_6, xgS_7, xgS_8, xgS_9, xgS_10, xgS_11, xgQ_0, xgQ_1, xgQ_2, xgQ_3, xgQ_4, xgP_0, xgP_1, xgP_2, xgP_3, xgP_4, xgP_5, xgP_6, xgP_7, xgY_0, xiS, xiQ, xiY, xiP, xiA, Int32.reduceToInt, Int.reduceEq, Int32.reduceLT, Int32.reduceLE, yc_155, if_false, not_false_eq_true, xgA_5, c153, hR.room hnn, hat, hst, c73, c61]
      
    by_cases h2 : x.toInt = 2
    · simp only [h2, ↓reduceIte, Int.reduceEq]
      obtain rfl : x = 2 := zti h2
      refine kAn_o ?_
      simp (disch := first | omega | assumption | exact xpi_lt) only [↓zbE, zbd_some, ↓xk_I, ↓xk_v, zB_0, zB_1, ite_not, ↓reduceIte, zS, zSa_0, zSa_1, zSa_2, zSa_3, zSa_4, zSa_5, zSa_6, zSa_7, zSa_8, zSa_9, zPa_0, zPa_1, zPa_2, zPa_3, zPa_4, xgS_0, xgS_1, xgS_2, xgS_3, xgS_4, xgS_5, xgS_6, xgS_7, xgS_8, xgS_9, xgS_10, xgS_11, xgQ_0, xgQ_1, xgQ_2, xgQ_3, xgQ_4, xgP_0, xgP_1, xgP_2, xgP_3, xgP_4, xgP_5, xgP_6, xgP_7, xgY_0, xiS, xiQ, xiY, xiP, xiA, Int32.reduceToInt, Int.reduceEq, Int32.reduceLT, Int32.reduceLE, yc_155, if_false, not_false_eq_true, xgA_5, c153, hR.room hnn, hat, hst, c73, c61]
      
    by_cases h3 : x.toInt = 3
    · simp only [h3, ↓reduceIte, Int.reduceEq]
      obtain rfl : x = 3 := zti h3
      refine kAn_o ?_
      simp (disch := first | omega | assumption | exact xpi_lt) only [↓zbE, zbd_some, ↓xk_I, ↓xk_v, zB_0, zB_1, ite_not, ↓reduceIte, zS, zSa_0, zSa_1, zSa_2, zSa_3, zSa_4, zSa_5, zSa_6, zSa_7, zSa_8, zSa_9, zPa_0, zPa_1, zPa_2, zPa_3, zPa_4, xgS_0, xgS_1, xgS_2, xgS_3, xgS_4, xgS_5, xgS_6, xgS_7, xgS_8, xgS_9, xgS_10, xgS_11, xgQ_0, xgQ_1, xgQ_2, xgQ_3, xgQ_4, xgP_0, xgP_1, xgP_2, xgP_3, xgP_4, xgP_5, xgP_6, xgP_7, xgY_0, xiS, xiQ, xiY, xiP, xiA, Int32.reduceToInt, Int.reduceEq, Int32.reduceLT, Int32.reduceLE, yc_155, if_false, not_false_eq_true, xgA_5, c153, hR.room hnn, hat, hst, c73, c61, ep, c21]
      
    by_cases h4 : x.toInt = 4
    · simp only [h4, ↓reduceIte, Int.reduceEq]
      obtain rfl : x = 4 := zti h4
      refine kAn_o ?_
      simp (disch := first | omega | assumption | exact xpi_lt) only [↓zbE, zbd_some, ↓xk_I, ↓xk_v, zB_0, zB_1, ite_not, ↓reduceIte, zS, zSa_0, zSa_1, zSa_2, zSa_3, zSa_4, zSa_5, zSa_6, zSa_7, zSa_8, zSa_9, zPa_0, zPa_1, zPa_2, zPa_3, zPa_4, xgS_0, xgS_1, xgS_2, xgS_3, xgS_4, xgS_5, xgS_6, xgS_7, xgS_8, xgS_9, xgS_10, xgS_11, xgQ_0, xgQ_1, xgQ_2, xgQ_3, xgQ_4, xgP_0, xgP_1, xgP_2, xgP_3, xgP_4, xgP_5, xgP_6, xgP_7, xgY_0, xiS, xiQ, xiY, xiP, xiA, Int32.reduceToInt, Int.reduceEq, Int32.reduceLT, Int32.reduceLE, yc_155, if_false, not_false_eq_true, xgA_5, c153, hR.room hnn, hat, hst, c73, c61]
      
    by_cases h5 : x.toInt = 5
    · simp only [h5, ↓reduceIte, Int.reduceEq]
      obtain rfl : x = 5 := zti h5
      refine kAn_o ?_
      simp (disch := first | omega | assumption | exact xpi_lt) only [↓zbE, zbd_some, ↓xk_I, ↓xk_v, zB_0, zB_1, ite_not, ↓reduceIte, zS, zSa_0, zSa_1, zSa_2, zSa_3, zSa_4, zSa_5, zSa_6, zSa_7, zSa_8, zSa_9, zPa_0, zPa_1, zPa_2, zPa_3, zPa_4, xgS_0, xgS_1, xgS_2, xgS_3, xgS_4, xgS_5, xgS_6, xgS_7, xgS_8, xgS_9, xgS_10, xgS_11, xgQ_0, xgQ_1, xgQ_2, xgQ_3, xgQ_4, xgP_0, xgP_1, xgP_2, xgP_3, xgP_4, xgP_5, xgP_6, xgP_7, xgY_0, xiS, xiQ, xiY, xiP, xiA, Int32.reduceToInt, Int.reduceEq, Int32.reduceLT, Int32.reduceLE, yc_155, if_false, not_false_eq_true, xgA_5, c153, hR.room hnn, hat, hst, c73, c61]
      
    have hx : x < 0 ∨ ¬ x < 6 := by
      rw [fa_lt, fa_lt]
      show x.toInt < 0 ∨ ¬ x.toInt < 6
      omega
    have c155 := @kx_155 w l t sc (d + 2) x 6 hx
    simp only [h0, h1, h2, h3, h4, h5, ↓reduceIte]
    refine kAn_x ?_
    simp (disch := first | omega | assumption | exact xpi_lt) only [↓zbE, zbd_some, ↓xk_I, ↓xk_v, zB_0, zB_1, ite_not, ↓reduceIte, zS, zSa_0, zSa_1, zSa_2, zSa_3, zSa_4, zSa_5, zSa_6, zSa_7, zSa_8, zSa_9, zPa_0, zPa_1, zPa_2, zPa_3, zPa_4, xgS_0, xgS_1, xgS_2, xgS_3, xgS_4, xgS_5, xgS_6, xgS_7, xgS_8, xgS_9, xgS_10, xgS_11, xgQ_0, xgQ_1, xgQ_2, xgQ_3, xgQ_4, xgP_0, xgP_1, xgP_2, xgP_3, xgP_4, xgP_5, xgP_6, xgP_7, xgY_0, xiS, xiQ, xiY, xiP, xiA, c153, c155, ↓xk_vx]

  · rw [if_neg ha]
    refine kAn_x ?_
    have c153 := @kx_153 w l t sc (d + 2) r a hR ha
    simp (disch := first | omega | assumption | exact xpi_lt) only [↓zbE, zbd_some, ↓xk_I, ↓xk_v, zB_0, zB_1, ite_not, ↓reduceIte, zS, zSa_0, zSa_1, zSa_2, zSa_3, zSa_4, zSa_5, zSa_6, zSa_7, zSa_8, zSa_9, zPa_0, zPa_1, zPa_2, zPa_3, zPa_4, xgS_0, xgS_1, xgS_2, xgS_3, xgS_4, xgS_5, xgS_6, xgS_7, xgS_8, xgS_9, xgS_10, xgS_11, xgQ_0, xgQ_1, xgQ_2, xgQ_3, xgQ_4, xgP_0, xgP_1, xgP_2, xgP_3, xgP_4, xgP_5, xgP_6, xgP_7, xgY_0, xiS, xiQ, xiY, xiP, xiA, c153, ↓xk_vx]
theorem kd_116 {a x : Int32} (hR : kRel w 0 r) : kAn (xm_C sc xt_M (d + 4) 116 [.ref 0, .int a, .int x] (xem w l t)) w l t 0 (sp_branch r a x) := by
  have hB := hR.W.bd
  have hk20 := hB.k20
  have hq40 := hB.q40
  have hv4 := hB.v4
  have hb6 := hB.b6
  rw [yc_116]
  unfold sp_branch
  by_cases ha : sp_br (r) a
  · rw [if_pos ha]
    have ha' := ha
    rw [sp_br, hB.b] at ha'
    obtain ⟨n, hnn, rfl⟩ := zrg (by omega) ha'
    rw [nI_clamp (by omega)]
    unfold sp_branchN
    have c154 := @kn_154 w l t sc (d + 2) r n hR hnn
    have c60 := @kc_60 w l t sc (d + 2) 0 n (by omega) r hR hnn
    have c24 := @kc_24 w l t sc (d + 1) 0 r n (by omega) hR (by omega)
    by_cases h0 : x.toInt = 0
    · simp only [h0, ↓reduceIte, Int.reduceEq]
      obtain rfl : x = 0 := zti h0
      refine kAn_o ?_
      rcases hR.W.o n (by omega) with g | g
      · simp (disch := first | omega | assumption | exact xpi_lt) only [↓zbE, zbd_some, ↓xk_I, ↓xk_v, zB_0, zB_1, ite_not, ↓reduceIte, zS, zSa_0, zSa_1, zSa_2, zSa_3, zSa_4, zSa_5, zSa_6, zSa_7, zSa_8, zSa_9, zPa_0, zPa_1, zPa_2, zPa_3, zPa_4, xgS_0, xgS_1, xgS_2, xgS_3, xgS_4, xgS_5, xgS_6, xgS_7, xgS_8, xgS_9, xgS_10, xgS_11, xgQ_0, xgQ_1, xgQ_2, xgQ_3, xgQ_4, xgP_0, xgP_1, xgP_2, xgP_3, xgP_4, xgP_5, xgP_6, xgP_7, xgY_0, xiS, xiQ, xiY, xiP, xiA, Int32.reduceToInt, Int.reduceEq, Int32.reduceLT, Int32.reduceLE, yc_155, if_false, not_false_eq_true, xgA_5, c154, c60, g, z01, zBF]
      · simp (disch := first | omega | assumption | exact xpi_lt) only [↓zbE, zbd_some, ↓xk_I, ↓xk_v, zB_0, zB_1, ite_not, ↓reduceIte, zS, zSa_0, zSa_1, zSa_2, zSa_3, zSa_4, zSa_5, zSa_6, zSa_7, zSa_8, zSa_9, zPa_0, zPa_1, zPa_2, zPa_3, zPa_4, xgS_0, xgS_1, xgS_2, xgS_3, xgS_4, xgS_5, xgS_6, xgS_7, xgS_8, xgS_9, xgS_10, xgS_11, xgQ_0, xgQ_1, xgQ_2, xgQ_3, xgQ_4, xgP_0, xgP_1, xgP_2, xgP_3, xgP_4, xgP_5, xgP_6, xgP_7, xgY_0, xiS, xiQ, xiY, xiP, xiA, Int32.reduceToInt, Int.reduceEq, Int32.reduceLT, Int32.reduceLE, yc_155, if_false, not_false_eq_true, xgA_5, c154, c60, g, zBT, z10, not_true_eq_false]
      
    by_cases h1 : x.toInt = 1
    · simp only [h1, ↓reduceIte, Int.reduceEq]
      obtain rfl : x = 1 := zti h1
      refine kAn_o ?_
      simp (disch := first | omega | assumption | exact xpi_lt) only [↓zbE, zbd_some, ↓xk_I, ↓xk_v, zB_0, zB_1, ite_not, ↓reduceIte, zS, zSa_0, zSa_1, zSa_2, zSa_3, zSa_4, zSa_5, zSa_6, zSa_7, zSa_8, zSa_9, zPa_0, zPa_1, zPa_2, zPa_3, zPa_4, xgS_0, xgS_1, xgS_2, xgS_3, xgS_4, xgS_5, xgS_6, xgS_7, xgS_8, xgS_9, xgS_10, xgS_11, xgQ_0, xgQ_1, xgQ_2, xgQ_3, xgQ_4, xgP_0, xgP_1, xgP_2, xgP_3, xgP_4, xgP_5, xgP_6, xgP_7, xgY_0, xiS, xiQ, xiY, xiP, xiA, Int32.reduceToInt, Int.reduceEq, Int32.reduceLT, Int32.reduceLE, yc_155, if_false, not_false_eq_true, xgA_5, c154, kc_73 (by omega) hR, kc_49 (by omega) hR, kc_25 (by omega) hR, c24]
      
    by_cases h2 : x.toInt = 2
    · simp only [h2, ↓reduceIte, Int.reduceEq]
      obtain rfl : x = 2 := zti h2
      refine kAn_o ?_
      simp (disch := first | omega | assumption | exact xpi_lt) only [↓zbE, zbd_some, ↓xk_I, ↓xk_v, zB_0, zB_1, ite_not, ↓reduceIte, zS, zSa_0, zSa_1, zSa_2, zSa_3, zSa_4, zSa_5, zSa_6, zSa_7, zSa_8, zSa_9, zPa_0, zPa_1, zPa_2, zPa_3, zPa_4, xgS_0, xgS_1, xgS_2, xgS_3, xgS_4, xgS_5, xgS_6, xgS_7, xgS_8, xgS_9, xgS_10, xgS_11, xgQ_0, xgQ_1, xgQ_2, xgQ_3, xgQ_4, xgP_0, xgP_1, xgP_2, xgP_3, xgP_4, xgP_5, xgP_6, xgP_7, xgY_0, xiS, xiQ, xiY, xiP, xiA, Int32.reduceToInt, Int.reduceEq, Int32.reduceLT, Int32.reduceLE, yc_155, if_false, not_false_eq_true, xgA_5, c154, kc_73 (by omega) hR, kc_49 (by omega) hR, kc_25 (by omega) hR, c24]
      
    by_cases h3 : x.toInt = 3
    · simp only [h3, ↓reduceIte, Int.reduceEq]
      obtain rfl : x = 3 := zti h3
      refine kAn_o ?_
      simp (disch := first | omega | assumption | exact xpi_lt) only [↓zbE, zbd_some, ↓xk_I, ↓xk_v, zB_0, zB_1, ite_not, ↓reduceIte, zS, zSa_0, zSa_1, zSa_2, zSa_3, zSa_4, zSa_5, zSa_6, zSa_7, zSa_8, zSa_9, zPa_0, zPa_1, zPa_2, zPa_3, zPa_4, xgS_0, xgS_1, xgS_2, xgS_3, xgS_4, xgS_5, xgS_6, xgS_7, xgS_8, xgS_9, xgS_10, xgS_11, xgQ_0, xgQ_1, xgQ_2, xgQ_3, xgQ_4, xgP_0, xgP_1, xgP_2, xgP_3, xgP_4, xgP_5, xgP_6, xgP_7, xgY_0, xiS, xiQ, xiY, xiP, xiA, Int32.reduceToInt, Int.reduceEq, Int32.reduceLT, Int32.reduceLE, yc_155, if_false, not_false_eq_true, xgA_5, c154, kc_73 (by omega) hR, kc_49 (by omega) hR, kc_25 (by omega) hR, c24]
      
    by_cases h4 : x.toInt = 4
    · simp only [h4, ↓reduceIte, Int.reduceEq]
      obtain rfl : x = 4 := zti h4
      refine kAn_o ?_
      simp (disch := first | omega | assumption | exact xpi_lt) only [↓zbE, zbd_some, ↓xk_I, ↓xk_v, zB_0, zB_1, ite_not, ↓reduceIte, zS, zSa_0, zSa_1, zSa_2, zSa_3, zSa_4, zSa_5, zSa_6, zSa_7, zSa_8, zSa_9, zPa_0, zPa_1, zPa_2, zPa_3, zPa_4, xgS_0, xgS_1, xgS_2, xgS_3, xgS_4, xgS_5, xgS_6, xgS_7, xgS_8, xgS_9, xgS_10, xgS_11, xgQ_0, xgQ_1, xgQ_2, xgQ_3, xgQ_4, xgP_0, xgP_1, xgP_2, xgP_3, xgP_4, xgP_5, xgP_6, xgP_7, xgY_0, xiS, xiQ, xiY, xiP, xiA, Int32.reduceToInt, Int.reduceEq, Int32.reduceLT, Int32.reduceLE, yc_155, if_false, not_false_eq_true, xgA_5, c154, kc_73 (by omega) hR, kc_49 (by omega) hR, kc_25 (by omega) hR, c24]
      
    by_cases h5 : x.toInt = 5
    · simp only [h5, ↓reduceIte, Int.reduceEq]
      obtain rfl : x = 5 := zti h5
      refine kAn_o ?_
      simp (disch := first | omega | assumption | exact xpi_lt) only [↓zbE, zbd_some, ↓xk_I, ↓xk_v, zB_0, zB_1, ite_not, ↓reduceIte, zS, zSa_0, zSa_1, zSa_2, zSa_3, zSa_4, zSa_5, zSa_6, zSa_7, zSa_8, zSa_9, zPa_0, zPa_1, zPa_2, zPa_3, zPa_4, xgS_0, xgS_1, xgS_2, xgS_3, xgS_4, xgS_5, xgS_6, xgS_7, xgS_8, xgS_9, xgS_10, xgS_11, xgQ_0, xgQ_1, xgQ_2, xgQ_3, xgQ_4, xgP_0, xgP_1, xgP_2, xgP_3, xgP_4, xgP_5, xgP_6, xgP_7, xgY_0, xiS, xiQ, xiY, xiP, xiA, Int32.reduceToInt, Int.reduceEq, Int32.reduceLT, Int32.reduceLE, yc_155, if_false, not_false_eq_true, xgA_5, c154, kc_73 (by omega) hR, kc_49 (by omega) hR, kc_25 (by omega) hR, c24]
      
    have hx : x < 0 ∨ ¬ x < 6 := by
      rw [fa_lt, fa_lt]
      show x.toInt < 0 ∨ ¬ x.toInt < 6
      omega
    have c155 := @kx_155 w l t sc (d + 2) x 6 hx
    simp only [h0, h1, h2, h3, h4, h5, ↓reduceIte]
    refine kAn_x ?_
    simp (disch := first | omega | assumption | exact xpi_lt) only [↓zbE, zbd_some, ↓xk_I, ↓xk_v, zB_0, zB_1, ite_not, ↓reduceIte, zS, zSa_0, zSa_1, zSa_2, zSa_3, zSa_4, zSa_5, zSa_6, zSa_7, zSa_8, zSa_9, zPa_0, zPa_1, zPa_2, zPa_3, zPa_4, xgS_0, xgS_1, xgS_2, xgS_3, xgS_4, xgS_5, xgS_6, xgS_7, xgS_8, xgS_9, xgS_10, xgS_11, xgQ_0, xgQ_1, xgQ_2, xgQ_3, xgQ_4, xgP_0, xgP_1, xgP_2, xgP_3, xgP_4, xgP_5, xgP_6, xgP_7, xgY_0, xiS, xiQ, xiY, xiP, xiA, c154, c155, ↓xk_vx]

  · rw [if_neg ha]
    refine kAn_x ?_
    have c154 := @kx_154 w l t sc (d + 2) r a hR ha
    simp (disch := first | omega | assumption | exact xpi_lt) only [↓zbE, zbd_some, ↓xk_I, ↓xk_v, zB_0, zB_1, ite_not, ↓reduceIte, zS, zSa_0, zSa_1, zSa_2, zSa_3, zSa_4, zSa_5, zSa_6, zSa_7, zSa_8, zSa_9, zPa_0, zPa_1, zPa_2, zPa_3, zPa_4, xgS_0, xgS_1, xgS_2, xgS_3, xgS_4, xgS_5, xgS_6, xgS_7, xgS_8, xgS_9, xgS_10, xgS_11, xgQ_0, xgQ_1, xgQ_2, xgQ_3, xgQ_4, xgP_0, xgP_1, xgP_2, xgP_3, xgP_4, xgP_5, xgP_6, xgP_7, xgY_0, xiS, xiQ, xiY, xiP, xiA, c154, ↓xk_vx]
theorem kd_127 (hR : kRel w 0 r) : xm_C sc xt_M (d + 3) 127 [.ref 0] (xem w l t) = some (.inl (some (.int (nI (sp_fullN r (xnv r - 1))))), xem w l t) := by
  have hB := hR.W.bd
  have hk20 := hB.k20
  have hq40 := hB.q40
  have hv4 := hB.v4
  have hb6 := hB.b6
  have hn1 := hR.W.n.2.1
  have c73 := fun p => @kc_73 w l t sc d 0 r 1 p (by omega) hR
  have hpv := hR.pv
  rw [yc_127]
  refine xlp (fun i => xm_R sc xt_M (d + 2) 127 4 [.ref 0, .int (nI (sp_fullN r i)), .int (nI (i + 1))] [] (xem w l t)) (xnv r - 1) ?_ ?_
  · intro i hi
    rw [yb_127_4]
    by_cases h : sp_booksIn r 1 (nI (sp_fullN r i)) < sp_booksIn r 1 (nI (i + 1))
    · have e : sp_fullN r (i + 1) = i + 1 := if_pos h
      have h' : ¬ sp_booksIn r 1 (nI (i + 1)) ≤ sp_booksIn r 1 (nI (sp_fullN r i)) := Int32.not_le.mpr h
      rw [e]
      simp (disch := first | omega | assumption | exact xpi_lt) only [↓zbE, zbd_some, ↓xk_I, ↓xk_v, zB_0, zB_1, ite_not, ↓reduceIte, zS, zSa_0, zSa_1, zSa_2, zSa_3, zSa_4, zSa_5, zSa_6, zSa_7, zSa_8, zSa_9, zPa_0, zPa_1, zPa_2, zPa_3, zPa_4, xgS_0, xgS_1, xgS_2, xgS_3, xgS_4, xgS_5, xgS_6, xgS_7, xgS_8, xgS_9, xgS_10, xgS_11, xgQ_0, xgQ_1, xgQ_2, xgQ_3, xgQ_4, xgP_0, xgP_1, xgP_2, xgP_3, xgP_4, xgP_5, xgP_6, xgP_7, xgY_0, xiS, xiQ, xiY, xiP, xgA_5, hpv, c73, nI_ge, eq_false h', yb_127_41]
    · have e : sp_fullN r (i + 1) = sp_fullN r i := if_neg h
      have h' : sp_booksIn r 1 (nI (i + 1)) ≤ sp_booksIn r 1 (nI (sp_fullN r i)) := Int32.not_lt.mp h
      rw [e]
      simp (disch := first | omega | assumption | exact xpi_lt) only [↓zbE, zbd_some, ↓xk_I, ↓xk_v, zB_0, zB_1, ite_not, ↓reduceIte, zS, zSa_0, zSa_1, zSa_2, zSa_3, zSa_4, zSa_5, zSa_6, zSa_7, zSa_8, zSa_9, zPa_0, zPa_1, zPa_2, zPa_3, zPa_4, xgS_0, xgS_1, xgS_2, xgS_3, xgS_4, xgS_5, xgS_6, xgS_7, xgS_8, xgS_9, xgS_10, xgS_11, xgQ_0, xgQ_1, xgQ_2, xgQ_3, xgQ_4, xgP_0, xgP_1, xgP_2, xgP_3, xgP_4, xgP_5, xgP_6, xgP_7, xgY_0, xiS, xiQ, xiY, xiP, xgA_5, hpv, c73, nI_ge, eq_true h', yb_127_41]
  · rw [yb_127_4]
    simp (disch := first | omega | assumption | exact xpi_lt) only [↓zbE, zbd_some, ↓xk_I, ↓xk_v, zB_0, zB_1, ite_not, ↓reduceIte, zS, zSa_0, zSa_1, zSa_2, zSa_3, zSa_4, zSa_5, zSa_6, zSa_7, zSa_8, zSa_9, zPa_0, zPa_1, zPa_2, zPa_3, zPa_4, xgS_0, xgS_1, xgS_2, xgS_3, xgS_4, xgS_5, xgS_6, xgS_7, xgS_8, xgS_9, xgS_10, xgS_11, xgQ_0, xgQ_1, xgQ_2, xgQ_3, xgQ_4, xgP_0, xgP_1, xgP_2, xgP_3, xgP_4, xgP_5, xgP_6, xgP_7, xgY_0, xiS, xiQ, xiY, xiP, xgA_5, hpv, nI_le]
theorem kStr {f : Nat → Int32} (hW : xWF r) (hf : kFar f r) {q : Nat} (hq : q < xnk r) (h0 : r (56 + 6 * q) = 0) : sp_strc f r q ↔ kLL r q = -1 := by
  have hB := hW.bd
  have hb6 := hB.b6
  obtain ⟨p, hp, ep⟩ : ∃ p, p < xnb r ∧ r (57 + 6 * q) = nI p := ⟨_, ((hW.k q hq).2.2.2.1 (Or.inl h0)).2, ((hW.k q hq).2.2.2.1 (Or.inl h0)).1⟩
  unfold sp_strc kLL
  rcases kGoal hW hq with hg | ⟨g, hg, eg, og⟩
  · rw [if_neg (c := sp_llc r q) (fun z => z.2 hg)]
    exact ⟨fun _ => rfl, fun _ => ⟨h0, Or.inl hg⟩⟩
  · have hn : ¬ nI g = -1 := toJ_ne (by omega)
    rw [if_pos (c := sp_llc r q) ⟨Or.inl h0, by rw [eg]; exact hn⟩, eg, ep, nI_clamp (by omega), nI_clamp (by omega), kxfx hf hB hp hg]
    constructor
    · rintro ⟨_, z | ⟨_, z⟩⟩
      · exact absurd z hn
      · exact z
    · intro z
      refine ⟨h0, Or.inr ⟨fun e => ?_, z⟩⟩
      have e' := nI_inj (by omega) (by omega) e
      subst e'
      rcases kD_s hB hp hg with ⟨_, c⟩ | ⟨m, _, c, _⟩
      · exact c 0 ⟨rfl, hg, og⟩
      · rw [c] at z
        exact absurd z (toJ_ne (by omega))
theorem kd_129 {f : Nat → Int32} (hR : kRel w 0 r) (hf : kFar f r) : xm_C sc xt_M (d + 4) 129 [.ref 0] (xem w l t) = some (.inl (some (.int (sp_str f r (xnk r)))), xem w l t) := by
  have hB := hR.W.bd
  have hk20 := hB.k20
  have hq40 := hB.q40
  have hv4 := hB.v4
  have hb6 := hB.b6
  have hpk := hR.pk
  rw [yc_129]
  refine xlp (fun i => xm_R sc xt_M (d + 3) 129 4 [.ref 0, .int (sp_str f r i), .int (nI i)] [] (xem w l t)) (xnk r) ?_ ?_
  · intro i hi
    rw [yb_129_4, show sp_str f r (i + 1) = sp_str f r i + zB (sp_strc f r i) from rfl]
    have hki := hR.kind hi
    by_cases h0 : r (56 + 6 * i) = 0
    · have c68 := @kc_68 w l t sc d 0 r i (by omega) hR hi
      have key := kStr hR.W hf hi h0
      by_cases h1 : kLL r i = -1
      · rw [zB_tt (key.mpr h1)]
        simp (disch := first | omega | assumption | exact xpi_lt) only [↓zbE, zbd_some, ↓xk_I, ↓xk_v, zB_0, zB_1, ite_not, ↓reduceIte, zS, zSa_0, zSa_1, zSa_2, zSa_3, zSa_4, zSa_5, zSa_6, zSa_7, zSa_8, zSa_9, zPa_0, zPa_1, zPa_2, zPa_3, zPa_4, xgS_0, xgS_1, xgS_2, xgS_3, xgS_4, xgS_5, xgS_6, xgS_7, xgS_8, xgS_9, xgS_10, xgS_11, xgQ_0, xgQ_1, xgQ_2, xgQ_3, xgQ_4, xgP_0, xgP_1, xgP_2, xgP_3, xgP_4, xgP_5, xgP_6, xgP_7, xgY_0, xiS, xiQ, xiY, xiP, xgA_5, hpk, nI_ge, hki, h0, c68, h1, yb_129_45]
      · rw [zB_ff (fun z => h1 (key.mp z)), Int32.add_zero]
        simp (disch := first | omega | assumption | exact xpi_lt) only [↓zbE, zbd_some, ↓xk_I, ↓xk_v, zB_0, zB_1, ite_not, ↓reduceIte, zS, zSa_0, zSa_1, zSa_2, zSa_3, zSa_4, zSa_5, zSa_6, zSa_7, zSa_8, zSa_9, zPa_0, zPa_1, zPa_2, zPa_3, zPa_4, xgS_0, xgS_1, xgS_2, xgS_3, xgS_4, xgS_5, xgS_6, xgS_7, xgS_8, xgS_9, xgS_10, xgS_11, xgQ_0, xgQ_1, xgQ_2, xgQ_3, xgQ_4, xgP_0, xgP_1, xgP_2, xgP_3, xgP_4, xgP_5, xgP_6, xgP_7, xgY_0, xiS, xiQ, xiY, xiP, xgA_5, hpk, nI_ge, hki, h0, c68, h1, yb_129_45]
    · rw [zB_ff (c := sp_strc f r i) (fun z => h0 z.1), Int32.add_zero]
      simp (disch := first | omega | assumption | exact xpi_lt) only [↓zbE, zbd_some, ↓xk_I, ↓xk_v, zB_0, zB_1, ite_not, ↓reduceIte, zS, zSa_0, zSa_1, zSa_2, zSa_3, zSa_4, zSa_5, zSa_6, zSa_7, zSa_8, zSa_9, zPa_0, zPa_1, zPa_2, zPa_3, zPa_4, xgS_0, xgS_1, xgS_2, xgS_3, xgS_4, xgS_5, xgS_6, xgS_7, xgS_8, xgS_9, xgS_10, xgS_11, xgQ_0, xgQ_1, xgQ_2, xgQ_3, xgQ_4, xgP_0, xgP_1, xgP_2, xgP_3, xgP_4, xgP_5, xgP_6, xgP_7, xgY_0, xiS, xiQ, xiY, xiP, xgA_5, hpk, nI_ge, hki, h0, yb_129_45]
  · rw [yb_129_4]
    simp (disch := first | omega | assumption | exact xpi_lt) only [↓zbE, zbd_some, ↓xk_I, ↓xk_v, zB_0, zB_1, ite_not, ↓reduceIte, zS, zSa_0, zSa_1, zSa_2, zSa_3, zSa_4, zSa_5, zSa_6, zSa_7, zSa_8, zSa_9, zPa_0, zPa_1, zPa_2, zPa_3, zPa_4, xgS_0, xgS_1, xgS_2, xgS_3, xgS_4, xgS_5, xgS_6, xgS_7, xgS_8, xgS_9, xgS_10, xgS_11, xgQ_0, xgQ_1, xgQ_2, xgQ_3, xgQ_4, xgP_0, xgP_1, xgP_2, xgP_3, xgP_4, xgP_5, xgP_6, xgP_7, xgY_0, xiS, xiQ, xiY, xiP, xgA_5, hpk, nI_le]
end PUB3
