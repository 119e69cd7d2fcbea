/-! THE CLASS: operations (2) -/
section KO2
variable {w : xW} {l : Nat → Nat → Int64} {t : Nat} {sc : xm_Sc} {d : Nat} {r : Nat → Int32}
theorem kc_55o {k b : Nat} {x m : Int32} (hk : k < 13) (hR : kRel w k r) (hb : b < xnb r) (hx : x = 0 ∨ x = 1) (hm : ∀ i, i < 32 → bt m i = if i = b then decide (x = 1) else bt ((w (k + 5)).1 3) i) : ∃ s', xm_C sc xt_M (d + 4) 55 [.ref (xh k), .int m] (xem w l t) = some (.inl none, xem (xu w (k + 5) s') l t) ∧ s'.1 0 = (w (k + 5)).1 0 ∧ kRel (xu w (k + 5) s') k (upd r (6 + b) x) := by
  have hB := hR.W.bd
  have hk20 := hB.k20
  have hq40 := hB.q40
  have hv4 := hB.v4
  have hb6 := hB.b6
  have hW := hR.W.lt
  have e : ∀ i, i ≠ 6 + b → upd r (6 + b) x i = r i := fun i hi => zun hi
  have e0 : xnb (upd r (6 + b) x) = xnb r := by unfold xnb; rw [e 0 (by omega)]
  have e1 : xnv (upd r (6 + b) x) = xnv r := by unfold xnv; rw [e 1 (by omega)]
  have e2 : xnk (upd r (6 + b) x) = xnk r := by unfold xnk; rw [e 2 (by omega)]
  have e3 : xnq (upd r (6 + b) x) = xnq r := by unfold xnq; rw [e 3 (by omega)]
  have hW2 : xWF (upd r (6 + b) x) := xWF_open hR.W (by omega) hx
  have hp2 : kPl (w (xpi (w (k + 5)) + 1)) (upd r (6 + b) x) := kPl_cg hW (fun i hi _ _ _ h6 _ => e i (by omega)) (fun i _ => e _ (by omega)) hR.P
  have hbit : ∀ i, i < 32 → bt m i = decide (i < xnb (upd r (6 + b) x) ∧ upd r (6 + b) x (6 + i) = 1) := fun i hi => by
    rw [hm i hi, e0]
    by_cases h : i = b
    · subst h
      rw [if_pos rfl, zu1]
      simp [hb]
    · rw [if_neg h, e (6 + i) (by omega), hR.s1.2.2.1 i hi]
  obtain ⟨f, g, c55, hf, hg⟩ := @kc_55 w l t sc d k (upd r (6 + b) x) m hk hW2.bd (kQ_W hW2) hp2 (hR.cnt.trans (by rw [e3])) (fun q hq => by
    rw [e3] at hq
    rw [e _ (by omega), e _ (by omega)]
    exact ⟨hR.qb hq, hR.qw hq⟩) hbit
  obtain ⟨s1, s2, s3, s4⟩ := hR.2.2
  refine ⟨_, c55, rfl, kRel_of hW2 (kRl_xu rfl hp2 ?_ ?_ ?_ ?_)⟩
  · refine ⟨s1.1.trans (e 4 (by omega)).symm, s1.2.1.trans (e 5 (by omega)).symm, hbit, fun i hi => ?_, s1.2.2.2.2.trans (e 3 (by omega)).symm⟩
    show bt ((w (k + 5)).1 4) i = _
    rw [e2, e (59 + 6 * i) (by omega)]
    exact s1.2.2.2.1 i hi
  · refine ⟨fun v hv => ?_, fun i hi => ?_⟩
    · rw [e1] at hv
      rw [e _ (by omega)]
      exact s2.1 v hv
    · rw [e2] at hi
      rw [e _ (by omega), e _ (by omega), e _ (by omega), e _ (by omega)]
      exact s2.2 i hi
  · refine ⟨fun i hi => ?_, fun i hi => ?_⟩
    · rw [e3] at hi
      rw [e _ (by omega), e _ (by omega), e _ (by omega)]
      exact s3.1 i hi
    · rw [xs2_same]
      exact hg i hi
  · intro a c ha hc
    rw [xs2_ne (by omega), xs2_same]
    exact hf a c ha hc
theorem kd_139 {n m : Nat} {a : Int32} (hR : kRel w 0 r) (hn : n ≤ 10) (hm : m < 10) (h13 : (w 0).1 13 = nI n) (h14 : (w 0).1 14 = nI m) : kOpA (xm_C sc xt_M (d + 5) 139 [.ref 0, .int a] (xem w l t)) w l t n m (fun _ => 0) (sp_lose r a) := by
  have hB := hR.W.bd
  have hk20 := hB.k20
  have hq40 := hB.q40
  have hv4 := hB.v4
  have hb6 := hB.b6
  obtain ⟨w1, e2, kr⟩ := @kc_2 w l t sc (d + 1) n m hn hm h13 h14
  have hR1 := kr.R hR
  rw [yc_139]
  unfold sp_lose
  by_cases ha : sp_vn r a
  · rw [if_pos ha]
    have ha' := ha
    rw [sp_vn, hB.v] at ha'
    obtain ⟨v, hnv, rfl⟩ := zrg (by omega) ha'
    have ca := @kn_153 w l t sc (d + 3) r v hR hnv
    obtain ⟨s, ⟨i1, i2⟩, i3⟩ := xlpE (fun k (s : xG) => xm_R sc xt_M (d + 4) 139 20 [.ref 0, .int (nI v), .int (sp_loseU r (nI v) k).2, .int (nI k)] [] (xem (xu w1 (0 + 5) s) l t)) (fun k s => s.1 0 = (w1 5).1 0 ∧ kRl (xu w1 (0 + 5) s) 0 (sp_loseU r (nI v) k).1) (xnk r) (by
      intro k s hk hI
      obtain ⟨z0, hl⟩ := hI
      obtain ⟨g1, g2⟩ := @sp_loseU_ok r (nI v) hR.W k (by omega)
      have gk := g2.k
      rw [show sp_loseU r (nI v) (k + 1) = sp_lose1 (nI v) k (sp_loseU r (nI v) k) from rfl]
      generalize sp_loseU r (nI v) k = u at *
      have hR2 := kRel_of g1 hl
      have hpk := hR2.pk
      rw [gk] at hpk
      have hk2 : k < xnk u.1 := by omega
      have c63 := @kc_63 (xu w1 (0 + 5) s) l t sc (d + 3) 0 k 1 (nI v) (by omega) u.1 hR2 hk2
      unfold sp_lose1
      by_cases h : sp_isIn u.1 1 k (nI v)
      · rw [if_pos h]
        rw [zB_tt (c := u.1 (56 + 6 * k) = 1 ∧ u.1 (57 + 6 * k) = nI v) h] at c63
        have c58 := @kc_58 (xu w1 (0 + 5) s) l t sc (d + 3) 0 k 4 (-1) (-1) (-1) (by omega) (by omega)
        have hl2 := @kRl_sput (xu w1 (0 + 5) s) 0 u.1 k 4 (-1) g1.lt hl hk2
        rw [xu_same, xu_xu] at c58 hl2
        refine ⟨kPut s k 4 (-1) (-1) (-1), ⟨z0, hl2⟩, ?_⟩
        rw [yb_139_20]
        simp (disch := first | omega | assumption | exact xpi_lt) only [↓zbE, zbd_some, ↓xk_I, ↓xk_v, zB_0, zB_1, ite_not, ↓reduceIte, zS, zSa_0, zSa_1, zSa_2, zSa_3, zSa_4, zSa_5, zSa_6, zSa_7, zSa_8, zSa_9, zPa_0, zPa_1, zPa_2, zPa_3, zPa_4, xgS_0, xgS_1, xgS_2, xgS_3, xgS_4, xgS_5, xgS_6, xgS_7, xgS_8, xgS_9, xgS_10, xgS_11, xgQ_0, xgQ_1, xgQ_2, xgQ_3, xgQ_4, xgP_0, xgP_1, xgP_2, xgP_3, xgP_4, xgP_5, xgP_6, xgP_7, xgY_0, xiS, xiQ, xiY, xiP, hpk, nI_ge, c63, z10, c58, yb_139_62, xiA, xgA_5, xgA_11, xiH, e2]
      · rw [if_neg h]
        rw [zB_ff (c := u.1 (56 + 6 * k) = 1 ∧ u.1 (57 + 6 * k) = nI v) h] at c63
        refine ⟨s, ⟨z0, hl⟩, ?_⟩
        rw [yb_139_20]
        simp (disch := first | omega | assumption | exact xpi_lt) only [↓zbE, zbd_some, ↓xk_I, ↓xk_v, zB_0, zB_1, ite_not, ↓reduceIte, zS, zSa_0, zSa_1, zSa_2, zSa_3, zSa_4, zSa_5, zSa_6, zSa_7, zSa_8, zSa_9, zPa_0, zPa_1, zPa_2, zPa_3, zPa_4, xgS_0, xgS_1, xgS_2, xgS_3, xgS_4, xgS_5, xgS_6, xgS_7, xgS_8, xgS_9, xgS_10, xgS_11, xgQ_0, xgQ_1, xgQ_2, xgQ_3, xgQ_4, xgP_0, xgP_1, xgP_2, xgP_3, xgP_4, xgP_5, xgP_6, xgP_7, xgY_0, xiS, xiQ, xiY, xiP, hpk, nI_ge, c63, z00, yb_139_62, xiA, xgA_5, xgA_11, xiH, e2]) (w1 5) ⟨rfl, by rw [show xu w1 (0 + 5) (w1 5) = w1 from xu_self]; exact hR1.l⟩
    obtain ⟨g1, g2⟩ := @sp_loseU_ok r (nI v) hR.W (xnk r) (by omega)
    have gk := g2.k
    have hR2 := kRel_of g1 i2
    have hpk := hR2.pk
    rw [gk] at hpk
    refine kOp_s kr i1 hR2 ?_
    refine Eq.trans ?_ (i3.trans ?_)
    · skip
      rw [show xu w1 (0 + 5) (w1 5) = w1 from xu_self]
      simp (disch := first | omega | assumption | exact xpi_lt) only [↓zbE, zbd_some, ↓xk_I, ↓xk_v, zB_0, zB_1, ite_not, ↓reduceIte, zS, zSa_0, zSa_1, zSa_2, zSa_3, zSa_4, zSa_5, zSa_6, zSa_7, zSa_8, zSa_9, zPa_0, zPa_1, zPa_2, zPa_3, zPa_4, xgS_0, xgS_1, xgS_2, xgS_3, xgS_4, xgS_5, xgS_6, xgS_7, xgS_8, xgS_9, xgS_10, xgS_11, xgQ_0, xgQ_1, xgQ_2, xgQ_3, xgQ_4, xgP_0, xgP_1, xgP_2, xgP_3, xgP_4, xgP_5, xgP_6, xgP_7, xgY_0, xiS, xiQ, xiY, xiP, ca, xiA, xgA_5, xgA_11, xiH, e2]
      rfl
    · skip
      rw [yb_139_20]
      simp (disch := first | omega | assumption | exact xpi_lt) only [↓zbE, zbd_some, ↓xk_I, ↓xk_v, zB_0, zB_1, ite_not, ↓reduceIte, zS, zSa_0, zSa_1, zSa_2, zSa_3, zSa_4, zSa_5, zSa_6, zSa_7, zSa_8, zSa_9, zPa_0, zPa_1, zPa_2, zPa_3, zPa_4, xgS_0, xgS_1, xgS_2, xgS_3, xgS_4, xgS_5, xgS_6, xgS_7, xgS_8, xgS_9, xgS_10, xgS_11, xgQ_0, xgQ_1, xgQ_2, xgQ_3, xgQ_4, xgP_0, xgP_1, xgP_2, xgP_3, xgP_4, xgP_5, xgP_6, xgP_7, xgY_0, xiS, xiQ, xiY, xiP, hpk, nI_le, xiA, xgA_5, xgA_11, xiH, e2]
  · rw [if_neg ha]
    refine kOp_x (show ¬ (1 : Int32) = 0 by decide) ?_
    have ca := @kx_153 w l t sc (d + 3) r a hR ha
    simp (disch := first | omega | assumption | exact xpi_lt) only [↓zbE, zbd_some, ↓xk_I, ↓xk_v, zB_0, zB_1, ite_not, ↓reduceIte, zS, zSa_0, zSa_1, zSa_2, zSa_3, zSa_4, zSa_5, zSa_6, zSa_7, zSa_8, zSa_9, zPa_0, zPa_1, zPa_2, zPa_3, zPa_4, xgS_0, xgS_1, xgS_2, xgS_3, xgS_4, xgS_5, xgS_6, xgS_7, xgS_8, xgS_9, xgS_10, xgS_11, xgQ_0, xgQ_1, xgQ_2, xgQ_3, xgQ_4, xgP_0, xgP_1, xgP_2, xgP_3, xgP_4, xgP_5, xgP_6, xgP_7, xgY_0, xiS, xiQ, xiY, xiP, ca, ↓xk_vx, xiA, xgA_5, xgA_11, xiH, e2]
theorem kd_141 {n m : Nat} {a : Int32} (hR : kRel w 0 r) (hn : n ≤ 10) (hm : m < 10) (h13 : (w 0).1 13 = nI n) (h14 : (w 0).1 14 = nI m) : kOpA (xm_C sc xt_M (d + 5) 141 [.ref 0, .int a] (xem w l t)) w l t n m (fun _ => 0) (sp_close r a) := by
  have hB := hR.W.bd
  have hk20 := hB.k20
  have hq40 := hB.q40
  have hv4 := hB.v4
  have hb6 := hB.b6
  obtain ⟨w1, e2, kr⟩ := @kc_2 w l t sc (d + 1) n m hn hm h13 h14
  have hR1 := kr.R hR
  rw [yc_141]
  unfold sp_close
  by_cases ha : sp_br r a
  · rw [if_pos ha]
    have ha' := ha
    rw [sp_br, hB.b] at ha'
    obtain ⟨b, hnb, rfl⟩ := zrg (by omega) ha'
    have ca := @kn_154 w l t sc (d + 3) r b hR hnb
    have c60 := @kc_60 w l t sc (d + 3) 0 b (by omega) r hR hnb
    by_cases ho : r (6 + b) = 1
    · rw [if_pos (c := xop r (nI b)) (by unfold xop; rw [nI_clamp (by omega)]; exact ho)]
      rw [zB_tt (c := r (6 + b) = 1) ho] at c60
      obtain ⟨s0, c55, y0, hR55⟩ := @kc_55o w1 l t sc d r 0 b 0 _ (by omega) hR1 hnb (Or.inl rfl) (fun i hi => b_clr (by omega) hi)
      obtain ⟨s, ⟨i1, i2⟩, i3⟩ := xlpE (fun k (s : xG) => xm_R sc xt_M (d + 4) 141 52 [.ref 0, .int (nI b), .int (nI k)] [] (xem (xu w1 (0 + 5) s) l t)) (fun k s => s.1 0 = (w1 5).1 0 ∧ kRl (xu w1 (0 + 5) s) 0 (sp_closeU r (nI b) k)) (xnk r) (by
        intro k s hk hI
        obtain ⟨z0, hl⟩ := hI
        obtain ⟨g1, g2⟩ := @sp_closeU_ok r b hR.W hnb k (by omega)
        have e2' := (g2 2 (by omega)).trans (zun (by omega))
        have gk : xnk (sp_closeU r (nI b) k) = xnk r := by unfold xnk; rw [e2']
        rw [show sp_closeU r (nI b) (k + 1) = sp_close1 (nI b) k (sp_closeU r (nI b) k) from rfl]
        generalize sp_closeU r (nI b) k = u at *
        have hR2 := kRel_of g1 hl
        have hpk := hR2.pk
        rw [gk] at hpk
        have hk2 : k < xnk u := by omega
        have c63 := @kc_63 (xu w1 (0 + 5) s) l t sc (d + 3) 0 k 2 (nI b) (by omega) u hR2 hk2
        unfold sp_close1
        by_cases h : u (56 + 6 * k) = 2 ∧ u (57 + 6 * k) = nI b
        · rw [if_pos h]
          rw [zB_tt h] at c63
          have c59 := @kc_59 (xu w1 (0 + 5) s) l t sc (d + 2) 0 k (nI b) (by omega) (by omega)
          have hl2 := @kRl_sput (xu w1 (0 + 5) s) 0 u k 0 (nI b) g1.lt hl hk2
          rw [xu_same, xu_xu] at c59 hl2
          refine ⟨kPut s k 0 (nI b) (-1) (-1), ⟨z0, hl2⟩, ?_⟩
          rw [yb_141_52]
          simp (disch := first | omega | assumption | exact xpi_lt) only [↓zbE, zbd_some, ↓xk_I, ↓xk_v, zB_0, zB_1, ite_not, ↓reduceIte, zS, zSa_0, zSa_1, zSa_2, zSa_3, zSa_4, zSa_5, zSa_6, zSa_7, zSa_8, zSa_9, zPa_0, zPa_1, zPa_2, zPa_3, zPa_4, xgS_0, xgS_1, xgS_2, xgS_3, xgS_4, xgS_5, xgS_6, xgS_7, xgS_8, xgS_9, xgS_10, xgS_11, xgQ_0, xgQ_1, xgQ_2, xgQ_3, xgQ_4, xgP_0, xgP_1, xgP_2, xgP_3, xgP_4, xgP_5, xgP_6, xgP_7, xgY_0, xiS, xiQ, xiY, xiP, hpk, nI_ge, c63, z10, c59, yb_141_88, xiA, xgA_5, xgA_11, xiH, e2]
        · rw [if_neg h]
          rw [zB_ff h] at c63
          refine ⟨s, ⟨z0, hl⟩, ?_⟩
          rw [yb_141_52]
          simp (disch := first | omega | assumption | exact xpi_lt) only [↓zbE, zbd_some, ↓xk_I, ↓xk_v, zB_0, zB_1, ite_not, ↓reduceIte, zS, zSa_0, zSa_1, zSa_2, zSa_3, zSa_4, zSa_5, zSa_6, zSa_7, zSa_8, zSa_9, zPa_0, zPa_1, zPa_2, zPa_3, zPa_4, xgS_0, xgS_1, xgS_2, xgS_3, xgS_4, xgS_5, xgS_6, xgS_7, xgS_8, xgS_9, xgS_10, xgS_11, xgQ_0, xgQ_1, xgQ_2, xgQ_3, xgQ_4, xgP_0, xgP_1, xgP_2, xgP_3, xgP_4, xgP_5, xgP_6, xgP_7, xgY_0, xiS, xiQ, xiY, xiP, hpk, nI_ge, c63, z00, yb_141_88, xiA, xgA_5, xgA_11, xiH, e2]) s0 ⟨y0, by
        rw [show sp_closeU r (nI b) 0 = upd r (6 + b) 0 by unfold sp_closeU xfold; rw [nI_clamp (by omega)]]
        exact hR55.l⟩
      obtain ⟨g1, g2⟩ := @sp_closeU_ok r b hR.W hnb (xnk r) (by omega)
      have e2' := (g2 2 (by omega)).trans (zun (by omega))
      have gk : xnk (sp_closeU r (nI b) (xnk r)) = xnk r := congrArg Int32.toNatClampNeg e2'
      have hR2 := kRel_of g1 i2
      have hpk := hR2.pk
      rw [gk] at hpk
      have c73 := @kc_73 (xu w1 (0 + 5) s) l t sc (d + 2) 0 _ 0 (nI b) (by omega) hR2
      refine kOp_s kr i1 hR2 ?_
      refine Eq.trans ?_ (i3.trans ?_)
      · skip
        simp (disch := first | omega | assumption | exact xpi_lt) only [↓zbE, zbd_some, ↓xk_I, ↓xk_v, zB_0, zB_1, ite_not, ↓reduceIte, zS, zSa_0, zSa_1, zSa_2, zSa_3, zSa_4, zSa_5, zSa_6, zSa_7, zSa_8, zSa_9, zPa_0, zPa_1, zPa_2, zPa_3, zPa_4, xgS_0, xgS_1, xgS_2, xgS_3, xgS_4, xgS_5, xgS_6, xgS_7, xgS_8, xgS_9, xgS_10, xgS_11, xgQ_0, xgQ_1, xgQ_2, xgQ_3, xgQ_4, xgP_0, xgP_1, xgP_2, xgP_3, xgP_4, xgP_5, xgP_6, xgP_7, xgY_0, xiS, xiQ, xiY, xiP, ca, c60, z10, c55, xiA, xgA_5, xgA_11, xiH, e2]
        rfl
      · skip
        rw [yb_141_52]
        simp (disch := first | omega | assumption | exact xpi_lt) only [↓zbE, zbd_some, ↓xk_I, ↓xk_v, zB_0, zB_1, ite_not, ↓reduceIte, zS, zSa_0, zSa_1, zSa_2, zSa_3, zSa_4, zSa_5, zSa_6, zSa_7, zSa_8, zSa_9, zPa_0, zPa_1, zPa_2, zPa_3, zPa_4, xgS_0, xgS_1, xgS_2, xgS_3, xgS_4, xgS_5, xgS_6, xgS_7, xgS_8, xgS_9, xgS_10, xgS_11, xgQ_0, xgQ_1, xgQ_2, xgQ_3, xgQ_4, xgP_0, xgP_1, xgP_2, xgP_3, xgP_4, xgP_5, xgP_6, xgP_7, xgY_0, xiS, xiQ, xiY, xiP, hpk, nI_le, c73, xiA, xgA_5, xgA_11, xiH, e2]
    · rw [if_neg (c := xop r (nI b)) (by unfold xop; rw [nI_clamp (by omega)]; exact ho)]
      rw [zB_ff (c := r (6 + b) = 1) ho] at c60
      refine kOp_o ?_
      simp (disch := first | omega | assumption | exact xpi_lt) only [↓zbE, zbd_some, ↓xk_I, ↓xk_v, zB_0, zB_1, ite_not, ↓reduceIte, zS, zSa_0, zSa_1, zSa_2, zSa_3, zSa_4, zSa_5, zSa_6, zSa_7, zSa_8, zSa_9, zPa_0, zPa_1, zPa_2, zPa_3, zPa_4, xgS_0, xgS_1, xgS_2, xgS_3, xgS_4, xgS_5, xgS_6, xgS_7, xgS_8, xgS_9, xgS_10, xgS_11, xgQ_0, xgQ_1, xgQ_2, xgQ_3, xgQ_4, xgP_0, xgP_1, xgP_2, xgP_3, xgP_4, xgP_5, xgP_6, xgP_7, xgY_0, xiS, xiQ, xiY, xiP, ca, c60, z00, xiA, xgA_5, xgA_11, xiH, e2]
  · rw [if_neg ha]
    refine kOp_x (show ¬ (1 : Int32) = 0 by decide) ?_
    have ca := @kx_154 w l t sc (d + 3) r a hR ha
    simp (disch := first | omega | assumption | exact xpi_lt) only [↓zbE, zbd_some, ↓xk_I, ↓xk_v, zB_0, zB_1, ite_not, ↓reduceIte, zS, zSa_0, zSa_1, zSa_2, zSa_3, zSa_4, zSa_5, zSa_6, zSa_7, zSa_8, zSa_9, zPa_0, zPa_1, zPa_2, zPa_3, zPa_4, xgS_0, xgS_1, xgS_2, xgS_3, xgS_4, xgS_5, xgS_6, xgS_7, xgS_8, xgS_9, xgS_10, xgS_11, xgQ_0, xgQ_1, xgQ_2, xgQ_3, xgQ_4, xgP_0, xgP_1, xgP_2, xgP_3, xgP_4, xgP_5, xgP_6, xgP_7, xgY_0, xiS, xiQ, xiY, xiP, ca, ↓xk_vx, xiA, xgA_5, xgA_11, xiH, e2]
theorem kd_142 {n m : Nat} {a : Int32} (hR : kRel w 0 r) (hn : n ≤ 10) (hm : m < 10) (h13 : (w 0).1 13 = nI n) (h14 : (w 0).1 14 = nI m) : kOpA (xm_C sc xt_M (d + 5) 142 [.ref 0, .int a] (xem w l t)) w l t n m (fun _ => 0) (sp_open r a) := by
  have hB := hR.W.bd
  have hk20 := hB.k20
  have hq40 := hB.q40
  have hv4 := hB.v4
  have hb6 := hB.b6
  obtain ⟨w1, e2, kr⟩ := @kc_2 w l t sc (d + 1) n m hn hm h13 h14
  have hR1 := kr.R hR
  rw [yc_142]
  unfold sp_open
  by_cases ha : sp_br r a
  · rw [if_pos ha]
    have ha' := ha
    rw [sp_br, hB.b] at ha'
    obtain ⟨b, hnb, rfl⟩ := zrg (by omega) ha'
    have ca := @kn_154 w l t sc (d + 3) r b hR hnb
    have c60 := @kc_60 w l t sc (d + 3) 0 b (by omega) r hR hnb
    by_cases ho : r (6 + b) = 1
    · rw [if_pos (c := xop r (nI b)) (by unfold xop; rw [nI_clamp (by omega)]; exact ho)]
      rw [zB_tt (c := r (6 + b) = 1) ho] at c60
      refine kOp_o ?_
      simp (disch := first | omega | assumption | exact xpi_lt) only [↓zbE, zbd_some, ↓xk_I, ↓xk_v, zB_0, zB_1, ite_not, ↓reduceIte, zS, zSa_0, zSa_1, zSa_2, zSa_3, zSa_4, zSa_5, zSa_6, zSa_7, zSa_8, zSa_9, zPa_0, zPa_1, zPa_2, zPa_3, zPa_4, xgS_0, xgS_1, xgS_2, xgS_3, xgS_4, xgS_5, xgS_6, xgS_7, xgS_8, xgS_9, xgS_10, xgS_11, xgQ_0, xgQ_1, xgQ_2, xgQ_3, xgQ_4, xgP_0, xgP_1, xgP_2, xgP_3, xgP_4, xgP_5, xgP_6, xgP_7, xgY_0, xiS, xiQ, xiY, xiP, ca, c60, z10, xiA, xgA_5, xgA_11, xiH, e2]
    · rw [if_neg (c := xop r (nI b)) (by unfold xop; rw [nI_clamp (by omega)]; exact ho)]
      rw [zB_ff (c := r (6 + b) = 1) ho] at c60
      rw [nI_clamp (by omega)]
      obtain ⟨s0, c55, y0, hR2⟩ := @kc_55o w1 l t sc d r 0 b 1 _ (by omega) hR1 hnb (Or.inr rfl) (fun i hi => b_set (by omega) hi)
      have gk : xnk (upd r (6 + b) 1) = xnk r := by unfold xnk; rw [zun (by omega)]
      refine kOp_s kr y0 hR2 ?_
      generalize upd r (6 + b) 1 = u at *
      have hpk := hR2.pk
      rw [gk] at hpk
      have e := xlp (fun k => xm_R sc xt_M (d + 4) 142 52 [.ref 0, .int (nI b), .int (sp_openC u (nI b) k), .int (nI k)] [] (xem (xu w1 (0 + 5) s0) l t)) (K := some (.inl (some (.int (sp_openC u (nI b) (xnk r)))), xem (xu w1 (0 + 5) s0) l t)) (xnk r) (by
        intro k hk
        rw [show sp_openC u (nI b) (k + 1) = sp_openC u (nI b) k + zB (sp_opc u (nI b) k) from rfl]
        have hk2 : k < xnk u := by omega
        have c63 := @kc_63 (xu w1 (0 + 5) s0) l t sc (d + 3) 0 k 0 (nI b) (by omega) u hR2 hk2
        have c67 := @kc_67 (xu w1 (0 + 5) s0) l t sc (d + 2) 0 u k (by omega) hR2 hk2
        rw [yb_142_52]
        by_cases h : sp_isIn u 0 k (nI b)
        · rw [zB_tt (c := u (56 + 6 * k) = 0 ∧ u (57 + 6 * k) = nI b) h] at c63
          by_cases h' : sp_goal u k = nI b
          · rw [zB_tt (c := sp_opc u (nI b) k) ⟨h, h'⟩]
            simp (disch := first | omega | assumption | exact xpi_lt) only [↓zbE, zbd_some, ↓xk_I, ↓xk_v, zB_0, zB_1, ite_not, ↓reduceIte, zS, zSa_0, zSa_1, zSa_2, zSa_3, zSa_4, zSa_5, zSa_6, zSa_7, zSa_8, zSa_9, zPa_0, zPa_1, zPa_2, zPa_3, zPa_4, xgS_0, xgS_1, xgS_2, xgS_3, xgS_4, xgS_5, xgS_6, xgS_7, xgS_8, xgS_9, xgS_10, xgS_11, xgQ_0, xgQ_1, xgQ_2, xgQ_3, xgQ_4, xgP_0, xgP_1, xgP_2, xgP_3, xgP_4, xgP_5, xgP_6, xgP_7, xgY_0, xiS, xiQ, xiY, xiP, hpk, nI_ge, c63, z10, c67, eq_true h', yb_142_94, xiA, xgA_5, xgA_11, xiH, e2]
          · rw [zB_ff (c := sp_opc u (nI b) k) (fun g => h' g.2), Int32.add_zero]
            simp (disch := first | omega | assumption | exact xpi_lt) only [↓zbE, zbd_some, ↓xk_I, ↓xk_v, zB_0, zB_1, ite_not, ↓reduceIte, zS, zSa_0, zSa_1, zSa_2, zSa_3, zSa_4, zSa_5, zSa_6, zSa_7, zSa_8, zSa_9, zPa_0, zPa_1, zPa_2, zPa_3, zPa_4, xgS_0, xgS_1, xgS_2, xgS_3, xgS_4, xgS_5, xgS_6, xgS_7, xgS_8, xgS_9, xgS_10, xgS_11, xgQ_0, xgQ_1, xgQ_2, xgQ_3, xgQ_4, xgP_0, xgP_1, xgP_2, xgP_3, xgP_4, xgP_5, xgP_6, xgP_7, xgY_0, xiS, xiQ, xiY, xiP, hpk, nI_ge, c63, z10, c67, eq_false h', yb_142_94, xiA, xgA_5, xgA_11, xiH, e2]
        · rw [zB_ff (c := u (56 + 6 * k) = 0 ∧ u (57 + 6 * k) = nI b) h] at c63
          rw [zB_ff (c := sp_opc u (nI b) k) (fun g => h g.1), Int32.add_zero]
          simp (disch := first | omega | assumption | exact xpi_lt) only [↓zbE, zbd_some, ↓xk_I, ↓xk_v, zB_0, zB_1, ite_not, ↓reduceIte, zS, zSa_0, zSa_1, zSa_2, zSa_3, zSa_4, zSa_5, zSa_6, zSa_7, zSa_8, zSa_9, zPa_0, zPa_1, zPa_2, zPa_3, zPa_4, xgS_0, xgS_1, xgS_2, xgS_3, xgS_4, xgS_5, xgS_6, xgS_7, xgS_8, xgS_9, xgS_10, xgS_11, xgQ_0, xgQ_1, xgQ_2, xgQ_3, xgQ_4, xgP_0, xgP_1, xgP_2, xgP_3, xgP_4, xgP_5, xgP_6, xgP_7, xgY_0, xiS, xiQ, xiY, xiP, hpk, nI_ge, c63, z00, yb_142_94, xiA, xgA_5, xgA_11, xiH, e2]) (by
        rw [yb_142_52]
        simp (disch := first | omega | assumption | exact xpi_lt) only [↓zbE, zbd_some, ↓xk_I, ↓xk_v, zB_0, zB_1, ite_not, ↓reduceIte, zS, zSa_0, zSa_1, zSa_2, zSa_3, zSa_4, zSa_5, zSa_6, zSa_7, zSa_8, zSa_9, zPa_0, zPa_1, zPa_2, zPa_3, zPa_4, xgS_0, xgS_1, xgS_2, xgS_3, xgS_4, xgS_5, xgS_6, xgS_7, xgS_8, xgS_9, xgS_10, xgS_11, xgQ_0, xgQ_1, xgQ_2, xgQ_3, xgQ_4, xgP_0, xgP_1, xgP_2, xgP_3, xgP_4, xgP_5, xgP_6, xgP_7, xgY_0, xiS, xiQ, xiY, xiP, hpk, nI_le, xiA, xgA_5, xgA_11, xiH, e2])
      refine Eq.trans ?_ e
      simp (disch := first | omega | assumption | exact xpi_lt) only [↓zbE, zbd_some, ↓xk_I, ↓xk_v, zB_0, zB_1, ite_not, ↓reduceIte, zS, zSa_0, zSa_1, zSa_2, zSa_3, zSa_4, zSa_5, zSa_6, zSa_7, zSa_8, zSa_9, zPa_0, zPa_1, zPa_2, zPa_3, zPa_4, xgS_0, xgS_1, xgS_2, xgS_3, xgS_4, xgS_5, xgS_6, xgS_7, xgS_8, xgS_9, xgS_10, xgS_11, xgQ_0, xgQ_1, xgQ_2, xgQ_3, xgQ_4, xgP_0, xgP_1, xgP_2, xgP_3, xgP_4, xgP_5, xgP_6, xgP_7, xgY_0, xiS, xiQ, xiY, xiP, ca, c60, z00, c55, xiA, xgA_5, xgA_11, xiH, e2]
      rfl
  · rw [if_neg ha]
    refine kOp_x (show ¬ (1 : Int32) = 0 by decide) ?_
    have ca := @kx_154 w l t sc (d + 3) r a hR ha
    simp (disch := first | omega | assumption | exact xpi_lt) only [↓zbE, zbd_some, ↓xk_I, ↓xk_v, zB_0, zB_1, ite_not, ↓reduceIte, zS, zSa_0, zSa_1, zSa_2, zSa_3, zSa_4, zSa_5, zSa_6, zSa_7, zSa_8, zSa_9, zPa_0, zPa_1, zPa_2, zPa_3, zPa_4, xgS_0, xgS_1, xgS_2, xgS_3, xgS_4, xgS_5, xgS_6, xgS_7, xgS_8, xgS_9, xgS_10, xgS_11, xgQ_0, xgQ_1, xgQ_2, xgQ_3, xgQ_4, xgP_0, xgP_1, xgP_2, xgP_3, xgP_4, xgP_5, xgP_6, xgP_7, xgY_0, xiS, xiQ, xiY, xiP, ca, ↓xk_vx, xiA, xgA_5, xgA_11, xiH, e2]
theorem kd_144 {n m c : Nat} {a : Int32} {u : xU} (hR : kRel w 0 u.1) (hn : n ≤ 10) (hm : m < 10) (h13 : (w 0).1 13 = nI n) (h14 : (w 0).1 14 = nI m) (h4 : u.1 4 = nI c) (hc2 : c < 10000) : kOpA (xm_C sc xt_M (d + 7) 144 [.ref 0, .int a] (xem w l t)) w l t n m (fun _ => 1) (sp_run u a) := by
  have hB := hR.W.bd
  have hk20 := hB.k20
  have hq40 := hB.q40
  have hv4 := hB.v4
  have hb6 := hB.b6
  obtain ⟨w1, e2, kr⟩ := @kc_2 w l t sc (d + 3) n m hn hm h13 h14
  have hR1 := kr.R hR
  rw [yc_144]
  unfold sp_run
  by_cases ha : 1 ≤ a ∧ a ≤ 99
  · rw [if_pos ha]
    have cr := @kn_156 w l t sc (d + 5) a 1 99 (Int32.not_lt.mpr ha.1) ha.2
    have htm := hR.time
    by_cases ht : u.1 4 + a ≤ 9999
    · rw [if_pos ht]
      obtain ⟨m, hm, rfl⟩ := zrg (m := 100) (by omega) ⟨Int32.le_trans (by decide) ha.1, show a ≤ nI 100 - 1 from ha.2⟩
      rw [nI_clamp (by omega)]
      obtain ⟨s, ⟨i1, i2⟩, i3⟩ := xlpE (fun k (s : xG) => xm_R sc xt_M (d + 6) 144 40 [.ref 0, .int (nI m), .int (sp_us (u.1, u.2.1, u.2.2.1, 0) k).2.2.2, .int (nI k)] [] (xem (xu w1 (0 + 5) s) l t)) (fun k s => s.1 0 = (w1 5).1 0 ∧ kRel (xu w1 (0 + 5) s) 0 (sp_us (u.1, u.2.1, u.2.2.1, 0) k).1) m (by
        intro k s hk hI
        obtain ⟨z0, hRk⟩ := hI
        obtain ⟨g1, g2, g3⟩ := @sp_us_ok (u.1, u.2.1, u.2.2.1, 0) c hR.W h4 k (by omega)
        have ht : xil ((sp_us (u.1, u.2.1, u.2.2.1, 0) k).1 4 + 1) 20000 := by
          rw [g2, zS]
          exact xil_nI (by omega) (by omega)
        rw [show sp_us (u.1, u.2.1, u.2.2.1, 0) (k + 1) = sp_u1 (sp_us (u.1, u.2.1, u.2.2.1, 0) k) from rfl]
        generalize sp_us (u.1, u.2.1, u.2.2.1, 0) k = v at *
        obtain ⟨s', x, e, y0, h, hx⟩ := @kc_76 (xu w1 (0 + 5) s) l t sc d 0 v.1 v.2.1 v.2.2.1 v.2.2.2 (by omega) hRk ht
        rw [xu_xu] at e h
        rw [xu_same] at y0
        refine ⟨s', ⟨y0.trans z0, h⟩, ?_⟩
        have hx' : (sp_u1 v).2.2.2 = v.2.2.2 + x := hx
        rw [yb_144_40, hx']
        simp (disch := first | omega | assumption | exact xpi_lt) only [↓zbE, zbd_some, ↓xk_I, ↓xk_v, zB_0, zB_1, ite_not, ↓reduceIte, zS, zSa_0, zSa_1, zSa_2, zSa_3, zSa_4, zSa_5, zSa_6, zSa_7, zSa_8, zSa_9, zPa_0, zPa_1, zPa_2, zPa_3, zPa_4, xgS_0, xgS_1, xgS_2, xgS_3, xgS_4, xgS_5, xgS_6, xgS_7, xgS_8, xgS_9, xgS_10, xgS_11, xgQ_0, xgQ_1, xgQ_2, xgQ_3, xgQ_4, xgP_0, xgP_1, xgP_2, xgP_3, xgP_4, xgP_5, xgP_6, xgP_7, xgY_0, xiS, xiQ, xiY, xiP, nI_ge, e, xiA, xgA_5, xgA_11, xiH, e2]) (w1 5) ⟨rfl, by rw [show xu w1 (0 + 5) (w1 5) = w1 from xu_self]; exact hR1⟩
      refine kOp_s kr i1 i2 ?_
      refine Eq.trans ?_ (i3.trans ?_)
      · skip
        rw [show xu w1 (0 + 5) (w1 5) = w1 from xu_self]
        simp (disch := first | omega | assumption | exact xpi_lt) only [↓zbE, zbd_some, ↓xk_I, ↓xk_v, zB_0, zB_1, ite_not, ↓reduceIte, zS, zSa_0, zSa_1, zSa_2, zSa_3, zSa_4, zSa_5, zSa_6, zSa_7, zSa_8, zSa_9, zPa_0, zPa_1, zPa_2, zPa_3, zPa_4, xgS_0, xgS_1, xgS_2, xgS_3, xgS_4, xgS_5, xgS_6, xgS_7, xgS_8, xgS_9, xgS_10, xgS_11, xgQ_0, xgQ_1, xgQ_2, xgQ_3, xgQ_4, xgP_0, xgP_1, xgP_2, xgP_3, xgP_4, xgP_5, xgP_6, xgP_7, xgY_0, xiS, xiQ, xiY, xiP, cr, htm, eq_true ht, xiA, xgA_5, xgA_11, xiH, e2]
        rfl
      · skip
        rw [yb_144_40]
        simp (disch := first | omega | assumption | exact xpi_lt) only [↓zbE, zbd_some, ↓xk_I, ↓xk_v, zB_0, zB_1, ite_not, ↓reduceIte, zS, zSa_0, zSa_1, zSa_2, zSa_3, zSa_4, zSa_5, zSa_6, zSa_7, zSa_8, zSa_9, zPa_0, zPa_1, zPa_2, zPa_3, zPa_4, xgS_0, xgS_1, xgS_2, xgS_3, xgS_4, xgS_5, xgS_6, xgS_7, xgS_8, xgS_9, xgS_10, xgS_11, xgQ_0, xgQ_1, xgQ_2, xgQ_3, xgQ_4, xgP_0, xgP_1, xgP_2, xgP_3, xgP_4, xgP_5, xgP_6, xgP_7, xgY_0, xiS, xiQ, xiY, xiP, nI_le, xiA, xgA_5, xgA_11, xiH, e2]
    · rw [if_neg ht]
      refine kOp_o ?_
      simp (disch := first | omega | assumption | exact xpi_lt) only [↓zbE, zbd_some, ↓xk_I, ↓xk_v, zB_0, zB_1, ite_not, ↓reduceIte, zS, zSa_0, zSa_1, zSa_2, zSa_3, zSa_4, zSa_5, zSa_6, zSa_7, zSa_8, zSa_9, zPa_0, zPa_1, zPa_2, zPa_3, zPa_4, xgS_0, xgS_1, xgS_2, xgS_3, xgS_4, xgS_5, xgS_6, xgS_7, xgS_8, xgS_9, xgS_10, xgS_11, xgQ_0, xgQ_1, xgQ_2, xgQ_3, xgQ_4, xgP_0, xgP_1, xgP_2, xgP_3, xgP_4, xgP_5, xgP_6, xgP_7, xgY_0, xiS, xiQ, xiY, xiP, cr, htm, eq_false ht, xiA, xgA_5, xgA_11, xiH, e2]
  · rw [if_neg ha]
    refine kOp_x (show ¬ (1 : Int32) = 0 by decide) ?_
    have cr := @kx_156 w l t sc (d + 5) a 1 99 ha
    simp (disch := first | omega | assumption | exact xpi_lt) only [↓zbE, zbd_some, ↓xk_I, ↓xk_v, zB_0, zB_1, ite_not, ↓reduceIte, zS, zSa_0, zSa_1, zSa_2, zSa_3, zSa_4, zSa_5, zSa_6, zSa_7, zSa_8, zSa_9, zPa_0, zPa_1, zPa_2, zPa_3, zPa_4, xgS_0, xgS_1, xgS_2, xgS_3, xgS_4, xgS_5, xgS_6, xgS_7, xgS_8, xgS_9, xgS_10, xgS_11, xgQ_0, xgQ_1, xgQ_2, xgQ_3, xgQ_4, xgP_0, xgP_1, xgP_2, xgP_3, xgP_4, xgP_5, xgP_6, xgP_7, xgY_0, xiS, xiQ, xiY, xiP, cr, ↓xk_vx, xiA, xgA_5, xgA_11, xiH, e2]
theorem kd_147 {n : Nat} (h13 : (w 0).1 13 = nI n) : xm_C sc xt_M (d + 1) 147 [.ref 0] (xem w l t) = some (.inl (some (.int (nI n))), xem w l t) := by
  rw [yc_147]
  simp (disch := first | omega | assumption | exact xpi_lt) only [↓zbE, zbd_some, ↓xk_I, ↓xk_v, zB_0, zB_1, ite_not, ↓reduceIte, zS, zSa_0, zSa_1, zSa_2, zSa_3, zSa_4, zSa_5, zSa_6, zSa_7, zSa_8, zSa_9, zPa_0, zPa_1, zPa_2, zPa_3, zPa_4, xgS_0, xgS_1, xgS_2, xgS_3, xgS_4, xgS_5, xgS_6, xgS_7, xgS_8, xgS_9, xgS_10, xgS_11, xgQ_0, xgQ_1, xgQ_2, xgQ_3, xgQ_4, xgP_0, xgP_1, xgP_2, xgP_3, xgP_4, xgP_5, xgP_6, xgP_7, xgY_0, xiS, xiQ, xiY, xiP, xgA_11, xgH_0, h13]
theorem kd_148_0 (h13 : (w 0).1 13 = 0) : xm_C sc xt_M (d + 1) 148 [.ref 0] (xem w l t) = some (.inl (some (.int (-1))), xem w l t) := by
  rw [yc_148]
  simp (disch := first | omega | assumption | exact xpi_lt) only [↓zbE, zbd_some, ↓xk_I, ↓xk_v, zB_0, zB_1, ite_not, ↓reduceIte, zS, zSa_0, zSa_1, zSa_2, zSa_3, zSa_4, zSa_5, zSa_6, zSa_7, zSa_8, zSa_9, zPa_0, zPa_1, zPa_2, zPa_3, zPa_4, xgS_0, xgS_1, xgS_2, xgS_3, xgS_4, xgS_5, xgS_6, xgS_7, xgS_8, xgS_9, xgS_10, xgS_11, xgQ_0, xgQ_1, xgQ_2, xgQ_3, xgQ_4, xgP_0, xgP_1, xgP_2, xgP_3, xgP_4, xgP_5, xgP_6, xgP_7, xgY_0, xiS, xiQ, xiY, xiP, xgA_11, xgH_0, h13]
theorem kd_148 {n m : Nat} (hn : n < 10) (hm : m < 10) (h13 : (w 0).1 13 = nI (n + 1)) (h14 : (w 0).1 14 = nI m) : ∃ s, xm_C sc xt_M (d + 4) 148 [.ref 0] (xem w l t) = some (.inl (some (.int (nI n))), xem (xu (xu w 0 (xs1 (xs1 (w 0) 14 (nI ((m + 9) % 10))) 13 (nI n))) 5 s) l t) ∧ kCpd s (w ((m + 9) % 10 + 8)) := by
  obtain ⟨s, e, h⟩ := @kc_3 w l t sc d n m hn hm h13 h14
  refine ⟨s, ?_, h⟩
  have g : ¬ nI (n + 1) = 0 := fun z => by
    have := nI_inj (b := 0) (by omega) (by omega) z
    omega
  rw [yc_148]
  simp (disch := first | omega | assumption | exact xpi_lt) only [↓zbE, zbd_some, ↓xk_I, ↓xk_v, zB_0, zB_1, ite_not, ↓reduceIte, zS, zSa_0, zSa_1, zSa_2, zSa_3, zSa_4, zSa_5, zSa_6, zSa_7, zSa_8, zSa_9, zPa_0, zPa_1, zPa_2, zPa_3, zPa_4, xgS_0, xgS_1, xgS_2, xgS_3, xgS_4, xgS_5, xgS_6, xgS_7, xgS_8, xgS_9, xgS_10, xgS_11, xgQ_0, xgQ_1, xgQ_2, xgQ_3, xgQ_4, xgP_0, xgP_1, xgP_2, xgP_3, xgP_4, xgP_5, xgP_6, xgP_7, xgY_0, xiS, xiQ, xiY, xiP, xgA_11, xgA_5, xgH_0, h13, eq_false g, xiH, e, xu_ne, xu_same, xs1_same]
theorem kd_149 : ∃ s, xm_C sc xt_M (d + 3) 149 [.ref 0] (xem w l t) = some (.inl none, xem (xu (xu w 7 s) 0 (xs1 (w 0) 3 1)) l t) ∧ kCpd s (w 5) := by
  obtain ⟨s, e, h⟩ := @kc_54 w l t sc d 2 0 (by omega) (by omega) (by omega)
  refine ⟨s, ?_, h⟩
  have g0 : xu w (2 + 5) s 0 = w 0 := xu_ne (by omega)
  rw [yc_149]
  simp (disch := first | omega | assumption | exact xpi_lt) only [↓zbE, zbd_some, ↓xk_I, ↓xk_v, zB_0, zB_1, ite_not, ↓reduceIte, zS, zSa_0, zSa_1, zSa_2, zSa_3, zSa_4, zSa_5, zSa_6, zSa_7, zSa_8, zSa_9, zPa_0, zPa_1, zPa_2, zPa_3, zPa_4, xgS_0, xgS_1, xgS_2, xgS_3, xgS_4, xgS_5, xgS_6, xgS_7, xgS_8, xgS_9, xgS_10, xgS_11, xgQ_0, xgQ_1, xgQ_2, xgQ_3, xgQ_4, xgP_0, xgP_1, xgP_2, xgP_3, xgP_4, xgP_5, xgP_6, xgP_7, xgY_0, xiS, xiQ, xiY, xiP, xgA_9, xgA_5, e, xsA_10, g0]
theorem kd_150_0 (h3 : (w 0).1 3 = 0) : xm_C sc xt_M (d + 1) 150 [.ref 0] (xem w l t) = some (.inl (some (.int 0)), xem w l t) := by
  rw [yc_150]
  simp (disch := first | omega | assumption | exact xpi_lt) only [↓zbE, zbd_some, ↓xk_I, ↓xk_v, zB_0, zB_1, ite_not, ↓reduceIte, zS, zSa_0, zSa_1, zSa_2, zSa_3, zSa_4, zSa_5, zSa_6, zSa_7, zSa_8, zSa_9, zPa_0, zPa_1, zPa_2, zPa_3, zPa_4, xgS_0, xgS_1, xgS_2, xgS_3, xgS_4, xgS_5, xgS_6, xgS_7, xgS_8, xgS_9, xgS_10, xgS_11, xgQ_0, xgQ_1, xgQ_2, xgQ_3, xgQ_4, xgP_0, xgP_1, xgP_2, xgP_3, xgP_4, xgP_5, xgP_6, xgP_7, xgY_0, xiS, xiQ, xiY, xiP, xgA_10, h3]
theorem kd_150 (h3 : (w 0).1 3 = 1) : ∃ s, xm_C sc xt_M (d + 3) 150 [.ref 0] (xem w l t) = some (.inl (some (.int 1)), xem (xu (xu w 5 s) 0 (xs1 (w 0) 13 0)) l t) ∧ kCpd s (w 7) := by
  obtain ⟨s, e, h⟩ := @kc_54 w l t sc d 0 2 (by omega) (by omega) (by omega)
  refine ⟨s, ?_, h⟩
  have g0 : xu w (0 + 5) s 0 = w 0 := xu_ne (by omega)
  have c1 := @kc_1 (xu w (0 + 5) s) l t sc (d + 1)
  rw [g0] at c1
  rw [yc_150]
  simp (disch := first | omega | assumption | exact xpi_lt) only [↓zbE, zbd_some, ↓xk_I, ↓xk_v, zB_0, zB_1, ite_not, ↓reduceIte, zS, zSa_0, zSa_1, zSa_2, zSa_3, zSa_4, zSa_5, zSa_6, zSa_7, zSa_8, zSa_9, zPa_0, zPa_1, zPa_2, zPa_3, zPa_4, xgS_0, xgS_1, xgS_2, xgS_3, xgS_4, xgS_5, xgS_6, xgS_7, xgS_8, xgS_9, xgS_10, xgS_11, xgQ_0, xgQ_1, xgQ_2, xgQ_3, xgQ_4, xgP_0, xgP_1, xgP_2, xgP_3, xgP_4, xgP_5, xgP_6, xgP_7, xgY_0, xiS, xiQ, xiY, xiP, xgA_10, h3, xgA_9, xgA_5, xgA_11, xiH, e, c1, z10]
end KO2
