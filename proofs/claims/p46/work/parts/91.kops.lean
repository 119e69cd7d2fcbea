/-! THE CLASS: operations (1) -/
theorem kOp_x {o : Option xm_O} {w : xW} {l : Nat → Nat → Int64} {t n m : Nat} {e : Int32 → Nat} {c v : Int32} (hc : ¬ c = 0) (h : o = some (.inr (e c), xem w l (t + 1))) : kOpA o w l t n m e (c, v, none) := Or.inr ⟨hc, h⟩
theorem kOp_o {o : Option xm_O} {w : xW} {l : Nat → Nat → Int64} {t n m : Nat} {e : Int32 → Nat} {v : Int32} (h : o = some (.inl (some (.int v)), xem w l t)) : kOpA o w l t n m e (0, v, none) := Or.inl ⟨rfl, h⟩
theorem kOp_s {o : Option xm_O} {w w1 : xW} {l : Nat → Nat → Int64} {t n m : Nat} {e : Int32 → Nat} {v : Int32} {s : xG} {r' : Nat → Int32} (k : kRec w w1 n m) (e0 : s.1 0 = (w1 5).1 0) (hR : kRel (xu w1 5 s) 0 r') (h : o = some (.inl (some (.int v)), xem (xu w1 5 s) l t)) : kOpA o w l t n m e (0, v, some r') := ⟨rfl, _, h, kOps_of k e0 hR⟩
theorem sp_queue_addq {r : Nat → Int32} {a rd b : Int32} (hn : xnq r < 40) : sp_queue (sp_addq r a rd b) a = sp_queue r a + 1 := by
  have e3 : xnq (sp_addq r a rd b) = xnq r + 1 := by unfold xnq; rw [sp_addq_3, nI_clamp (by omega)]; rfl
  have q6 : sp_addq r a rd b (176 + 3 * xnq r) = a := by
    unfold sp_addq
    rw [zun (by omega), zun (by omega), zun (by omega), zu1]
  unfold sp_queue
  rw [e3]
  show xsum (fun q => zB (sp_addq r a rd b (176 + 3 * q) = a)) (xnq r) + zB (sp_addq r a rd b (176 + 3 * xnq r) = a) = _
  rw [zB_tt (c := sp_addq r a rd b (176 + 3 * xnq r) = a) q6]
  congr 1
  refine xsum_cg (fun q hq => ?_)
  rw [sp_addq_h (by omega) (by omega)]
theorem kRl_hold {w : xW} {k : Nat} {r : Nat → Int32} {x : Int32} (hW : xLt r) (hR : kRl w k r) : kRl (xu w (k + 5) (xs1 (w (k + 5)) 2 x)) k (upd r 5 x) := by
  have hv4 := hW.bd.v4
  have hk20 := hW.bd.k20
  have e : ∀ i, i ≠ 5 → upd r 5 x i = r i := fun i hi => zun hi
  have e0 : xnb (upd r 5 x) = xnb r := by unfold xnb; rw [e 0 (by omega)]
  have e1 : xnv (upd r 5 x) = xnv r := by unfold xnv; rw [e 1 (by omega)]
  have e2 : xnk (upd r 5 x) = xnk r := by unfold xnk; rw [e 2 (by omega)]
  have e3 : xnq (upd r 5 x) = xnq r := by unfold xnq; rw [e 3 (by omega)]
  obtain ⟨p, s1, s2, s3, s4⟩ := hR
  have geo : kGeo r (upd r 5 x) := kGeo_head (fun i _ _ _ h5 _ => e i h5)
  refine kRl_xu rfl (kPl_cg hW (fun i _ _ _ h5 _ _ => e i h5) (fun i _ => e _ (by omega)) p) ?_ ?_ ?_ ?_
  · refine ⟨s1.1.trans (e 4 (by omega)).symm, zu1.symm, fun i hi => ?_, fun i hi => ?_, s1.2.2.2.2.trans (e 3 (by omega)).symm⟩
    · rw [e0, e (6 + i) (by omega)]
      exact s1.2.2.1 i hi
    · rw [e2, e (59 + 6 * i) (by omega)]
      exact s1.2.2.2.1 i hi
  · refine ⟨fun v hv => ?_, fun i hi => ?_⟩
    · rw [e1] at hv
      rw [e _ (by omega)]
      exact s2.1 v hv
    · rw [e2] at hi
      rw [e _ (by omega), e _ (by omega), e _ (by omega), e _ (by omega)]
      exact s2.2 i hi
  · refine ⟨fun i hi => ?_, fun i hi => ?_⟩
    · rw [e3] at hi
      rw [e _ (by omega), e _ (by omega), e _ (by omega)]
      exact s3.1 i hi
    · rw [sp_first_cg (fun p hp => hW.qb hp) e3 (fun i h _ => e i (by omega)) (fun b hb => e _ (by omega))]
      exact s3.2 i hi
  · intro a b ha hb
    rw [geo.D hW]
    exact s4 a b ha hb
theorem sp_put_upd {r : Nat → Int32} {i : Nat} {x a b : Int32} (hi : i < 20) : sp_put (upd r (59 + 6 * i) x) i a b = upd (sp_put r i a b) (59 + 6 * i) x := by
  funext j
  unfold sp_put
  show (if j = 61 + 6 * i then (-1 : Int32) else if j = 60 + 6 * i then -1 else if j = 57 + 6 * i then b else if j = 56 + 6 * i then a else if j = 59 + 6 * i then x else r j) = (if j = 59 + 6 * i then x else if j = 61 + 6 * i then (-1 : Int32) else if j = 60 + 6 * i then -1 else if j = 57 + 6 * i then b else if j = 56 + 6 * i then a else r j)
  by_cases h : j = 59 + 6 * i
  · rw [if_neg (by omega), if_neg (by omega), if_neg (by omega), if_neg (by omega), if_pos h, if_pos h]
  · rw [if_neg (c := j = 59 + 6 * i) h, if_neg (c := j = 59 + 6 * i) h]
section KO
variable {w : xW} {l : Nat → Nat → Int64} {t : Nat} {sc : xm_Sc} {d : Nat} {r : Nat → Int32}
theorem kd_134 {n m : Nat} {a rd b : Int32} (hR : kRel w 0 r) (hn : n ≤ 10) (hm : m < 10) (h13 : (w 0).1 13 = nI n) (h14 : (w 0).1 14 = nI m) : kOpA (xm_C sc xt_M (d + 5) 134 [.ref 0, .int a, .int rd, .int b] (xem w l t)) w l t n m (fun e => if e = 1 then 0 else 1) (sp_ask r a rd b) := by
  have hB := hR.W.bd
  have hk20 := hB.k20
  have hq40 := hB.q40
  have hv4 := hB.v4
  have hb6 := hB.b6
  obtain ⟨w1, e2, kr⟩ := @kc_2 w l t sc (d + 1) n m hn hm h13 h14
  have hR1 := kr.R hR
  rw [yc_134]
  unfold sp_ask
  by_cases ha : 0 ≤ a ∧ a ≤ r 2 - 1
  · rw [if_pos ha]
    have ha' := ha
    rw [hB.k] at ha'
    obtain ⟨i, hni, rfl⟩ := zrg (by omega) ha'
    have ca := @kn_152 w l t sc (d + 3) r i hR hni
    rw [nI_clamp (by omega)]
    by_cases hb : 0 ≤ b ∧ b ≤ r 0 - 1
    · rw [if_pos hb]
      have hb' := hb
      rw [hB.b] at hb'
      obtain ⟨j, hnj, rfl⟩ := zrg (by omega) hb'
      have cb := @kn_154 w l t sc (d + 3) r j hR hnj
      by_cases hr : 0 ≤ rd ∧ rd ≤ 99
      · rw [if_pos hr]
        have cr := @kn_156 w l t sc (d + 3) rd 0 99 (Int32.not_lt.mpr hr.1) hr.2
        have hrx : xil rd 100 := by
          obtain ⟨z, hz, rfl⟩ := zrg (m := 100) (by omega) ⟨hr.1, show rd ≤ nI 100 - 1 from hr.2⟩
          exact xil_nI hz (by omega)
        have hcn := hR.cnt
        by_cases h40 : xnq r = 40
        · rw [if_pos h40]
          rw [h40] at hcn
          have c40 : ¬ nI 40 < 40 := by decide
          refine kOp_o ?_
          simp (disch := first | omega | assumption | exact xpi_lt) only [↓zbE, zbd_some, ↓xk_I, ↓xk_v, zB_0, zB_1, ite_not, ↓reduceIte, zS, zSa_0, zSa_1, zSa_2, zSa_3, zSa_4, zSa_5, zSa_6, zSa_7, zSa_8, zSa_9, zPa_0, zPa_1, zPa_2, zPa_3, zPa_4, xgS_0, xgS_1, xgS_2, xgS_3, xgS_4, xgS_5, xgS_6, xgS_7, xgS_8, xgS_9, xgS_10, xgS_11, xgQ_0, xgQ_1, xgQ_2, xgQ_3, xgQ_4, xgP_0, xgP_1, xgP_2, xgP_3, xgP_4, xgP_5, xgP_6, xgP_7, xgY_0, xiS, xiQ, xiY, xiP, ca, cb, cr, hcn, eq_false c40, xiA, xgA_5, xgA_11, xiH, e2]
        · rw [if_neg h40]
          have c40 : nI (xnq r) < 40 := nI_lt (b := 40) (by omega) (by omega)
          have c44 := @kc_44 w l t sc (d + 3) 0 r (nI i) rd (by omega) hR
          have c65 := @kc_65 w l t sc (d + 3) 0 i rd (by omega) r hR hni
          cases hby : sp_by r (nI i) rd with
          | some q =>
            rw [hby] at c44
            have h5 := toJ_ne (q := q) (by have := sp_by_lt hby; omega)
            have et : (if r (56 + 6 * i) = 3 ∧ r (60 + 6 * i) = rd then ((0, -3, none) : Int32 × Int32 × Option (Nat → Int32)) else (0, -3, none)) = (0, -3, none) := by split <;> rfl
            refine Eq.mpr (congrArg _ et) (kOp_o ?_)
            simp only [toJ] at c44
            simp (disch := first | omega | assumption | exact xpi_lt) only [↓zbE, zbd_some, ↓xk_I, ↓xk_v, zB_0, zB_1, ite_not, ↓reduceIte, zS, zSa_0, zSa_1, zSa_2, zSa_3, zSa_4, zSa_5, zSa_6, zSa_7, zSa_8, zSa_9, zPa_0, zPa_1, zPa_2, zPa_3, zPa_4, xgS_0, xgS_1, xgS_2, xgS_3, xgS_4, xgS_5, xgS_6, xgS_7, xgS_8, xgS_9, xgS_10, xgS_11, xgQ_0, xgQ_1, xgQ_2, xgQ_3, xgQ_4, xgP_0, xgP_1, xgP_2, xgP_3, xgP_4, xgP_5, xgP_6, xgP_7, xgY_0, xiS, xiQ, xiY, xiP, ca, cb, cr, hcn, eq_true c40, c44, eq_false h5, yb_134_63, xiA, xgA_5, xgA_11, xiH, e2]
          | none =>
            rw [hby] at c44
            simp only [toJ] at c44
            by_cases h3 : r (56 + 6 * i) = 3 ∧ r (60 + 6 * i) = rd
            · rw [if_pos h3]
              rw [zB_tt h3] at c65
              refine kOp_o ?_
              simp (disch := first | omega | assumption | exact xpi_lt) only [↓zbE, zbd_some, ↓xk_I, ↓xk_v, zB_0, zB_1, ite_not, ↓reduceIte, zS, zSa_0, zSa_1, zSa_2, zSa_3, zSa_4, zSa_5, zSa_6, zSa_7, zSa_8, zSa_9, zPa_0, zPa_1, zPa_2, zPa_3, zPa_4, xgS_0, xgS_1, xgS_2, xgS_3, xgS_4, xgS_5, xgS_6, xgS_7, xgS_8, xgS_9, xgS_10, xgS_11, xgQ_0, xgQ_1, xgQ_2, xgQ_3, xgQ_4, xgP_0, xgP_1, xgP_2, xgP_3, xgP_4, xgP_5, xgP_6, xgP_7, xgY_0, xiS, xiQ, xiY, xiP, ca, cb, cr, hcn, eq_true c40, c44, c65, z10, yb_134_63, xiA, xgA_5, xgA_11, xiH, e2]
            · rw [if_neg h3]
              rw [zB_ff h3] at c65
              have c47 := @kc_47 w1 l t sc (d + 2) 0 r (nI i) (by omega) hR1
              obtain ⟨s, c56, z0, hl⟩ := @kc_56 w1 l t sc (d + 2) 0 r i j rd (by omega) hR1 (by omega) hni hnj
              dsimp only
              rw [sp_queue_addq (by omega), Int32.add_sub_cancel]
              refine kOp_s kr z0 (kRel_of (xWF_addq hR.W (by omega) hni hnj hrx hby) hl) ?_
              simp (disch := first | omega | assumption | exact xpi_lt) only [↓zbE, zbd_some, ↓xk_I, ↓xk_v, zB_0, zB_1, ite_not, ↓reduceIte, zS, zSa_0, zSa_1, zSa_2, zSa_3, zSa_4, zSa_5, zSa_6, zSa_7, zSa_8, zSa_9, zPa_0, zPa_1, zPa_2, zPa_3, zPa_4, xgS_0, xgS_1, xgS_2, xgS_3, xgS_4, xgS_5, xgS_6, xgS_7, xgS_8, xgS_9, xgS_10, xgS_11, xgQ_0, xgQ_1, xgQ_2, xgQ_3, xgQ_4, xgP_0, xgP_1, xgP_2, xgP_3, xgP_4, xgP_5, xgP_6, xgP_7, xgY_0, xiS, xiQ, xiY, xiP, ca, cb, cr, hcn, eq_true c40, c44, c65, c47, c56, xiA, xgA_5, xgA_11, xiH, e2]
      · rw [if_neg hr]
        refine kOp_x (show ¬ (2 : Int32) = 0 by decide) ?_
        have cr := @kx_156 w l t sc (d + 3) rd 0 99 hr
        simp (disch := first | omega | assumption | exact xpi_lt) only [↓zbE, zbd_some, ↓xk_I, ↓xk_v, zB_0, zB_1, ite_not, ↓reduceIte, zS, zSa_0, zSa_1, zSa_2, zSa_3, zSa_4, zSa_5, zSa_6, zSa_7, zSa_8, zSa_9, zPa_0, zPa_1, zPa_2, zPa_3, zPa_4, xgS_0, xgS_1, xgS_2, xgS_3, xgS_4, xgS_5, xgS_6, xgS_7, xgS_8, xgS_9, xgS_10, xgS_11, xgQ_0, xgQ_1, xgQ_2, xgQ_3, xgQ_4, xgP_0, xgP_1, xgP_2, xgP_3, xgP_4, xgP_5, xgP_6, xgP_7, xgY_0, xiS, xiQ, xiY, xiP, ca, cb, cr, ↓xk_vx, xiA, xgA_5, xgA_11, xiH, e2]
        all_goals rfl
    · rw [if_neg hb]
      refine kOp_x (show ¬ (1 : Int32) = 0 by decide) ?_
      have cb := @kx_154 w l t sc (d + 3) r b hR hb
      simp (disch := first | omega | assumption | exact xpi_lt) only [↓zbE, zbd_some, ↓xk_I, ↓xk_v, zB_0, zB_1, ite_not, ↓reduceIte, zS, zSa_0, zSa_1, zSa_2, zSa_3, zSa_4, zSa_5, zSa_6, zSa_7, zSa_8, zSa_9, zPa_0, zPa_1, zPa_2, zPa_3, zPa_4, xgS_0, xgS_1, xgS_2, xgS_3, xgS_4, xgS_5, xgS_6, xgS_7, xgS_8, xgS_9, xgS_10, xgS_11, xgQ_0, xgQ_1, xgQ_2, xgQ_3, xgQ_4, xgP_0, xgP_1, xgP_2, xgP_3, xgP_4, xgP_5, xgP_6, xgP_7, xgY_0, xiS, xiQ, xiY, xiP, ca, cb, ↓xk_vx, xiA, xgA_5, xgA_11, xiH, e2]
      all_goals rfl
  · rw [if_neg ha]
    refine kOp_x (show ¬ (1 : Int32) = 0 by decide) ?_
    have ca := @kx_152 w l t sc (d + 3) r a hR ha
    simp (disch := first | omega | assumption | exact xpi_lt) only [↓zbE, zbd_some, ↓xk_I, ↓xk_v, zB_0, zB_1, ite_not, ↓reduceIte, zS, zSa_0, zSa_1, zSa_2, zSa_3, zSa_4, zSa_5, zSa_6, zSa_7, zSa_8, zSa_9, zPa_0, zPa_1, zPa_2, zPa_3, zPa_4, xgS_0, xgS_1, xgS_2, xgS_3, xgS_4, xgS_5, xgS_6, xgS_7, xgS_8, xgS_9, xgS_10, xgS_11, xgQ_0, xgQ_1, xgQ_2, xgQ_3, xgQ_4, xgP_0, xgP_1, xgP_2, xgP_3, xgP_4, xgP_5, xgP_6, xgP_7, xgY_0, xiS, xiQ, xiY, xiP, ca, ↓xk_vx, xiA, xgA_5, xgA_11, xiH, e2]
    all_goals rfl
theorem kd_135 {n m : Nat} {a rd : Int32} (hR : kRel w 0 r) (hn : n ≤ 10) (hm : m < 10) (h13 : (w 0).1 13 = nI n) (h14 : (w 0).1 14 = nI m) : kOpA (xm_C sc xt_M (d + 5) 135 [.ref 0, .int a, .int rd] (xem w l t)) w l t n m (fun _ => 0) (sp_cancel r a rd) := by
  have hB := hR.W.bd
  have hk20 := hB.k20
  have hq40 := hB.q40
  have hv4 := hB.v4
  have hb6 := hB.b6
  obtain ⟨w1, e2, kr⟩ := @kc_2 w l t sc (d + 1) n m hn hm h13 h14
  have hR1 := kr.R hR
  rw [yc_135]
  unfold sp_cancel
  by_cases ha : sp_bk r a
  · rw [if_pos ha]
    have ha' := ha
    rw [sp_bk, hB.k] at ha'
    obtain ⟨i, hni, rfl⟩ := zrg (by omega) ha'
    have ca := @kn_152 w l t sc (d + 3) r i hR hni
    rw [nI_clamp (by omega)]
    have c46 := @kc_46 w l t sc (d + 3) 0 r (nI i) rd (by omega) hR
    unfold sp_cancelN
    cases hby : sp_by r (nI i) rd with
    | none =>
      rw [hby] at c46
      dsimp only at c46
      refine kOp_o ?_
      simp (disch := first | omega | assumption | exact xpi_lt) only [↓zbE, zbd_some, ↓xk_I, ↓xk_v, zB_0, zB_1, ite_not, ↓reduceIte, zS, zSa_0, zSa_1, zSa_2, zSa_3, zSa_4, zSa_5, zSa_6, zSa_7, zSa_8, zSa_9, zPa_0, zPa_1, zPa_2, zPa_3, zPa_4, xgS_0, xgS_1, xgS_2, xgS_3, xgS_4, xgS_5, xgS_6, xgS_7, xgS_8, xgS_9, xgS_10, xgS_11, xgQ_0, xgQ_1, xgQ_2, xgQ_3, xgQ_4, xgP_0, xgP_1, xgP_2, xgP_3, xgP_4, xgP_5, xgP_6, xgP_7, xgY_0, xiS, xiQ, xiY, xiP, ca, c46, xiA, xgA_5, xgA_11, xiH, e2]
    | some q =>
      rw [hby] at c46
      dsimp only at c46
      have hq := sp_by_lt hby
      have hrk : ¬ sp_rank r q = -1 := by
        have e : sp_rank r q = nI (xcnt (fun p => r (176 + 3 * p) = r (176 + 3 * q)) q) := xsum_cnt
        have := @xcnt_le (fun p => r (176 + 3 * p) = r (176 + 3 * q)) _ q
        rw [e]
        exact toJ_ne (by omega)
      have c64 := @kc_64 w1 l t sc (d + 3) 0 i rd (by omega) r hR1 hni
      obtain ⟨g1, g2⟩ := xWF_cancel hR.W hni hby
      by_cases hf : sp_hf r i rd
      · rw [zB_tt (c := r (56 + 6 * i) = 2 ∧ r (60 + 6 * i) = rd) hf] at c64
        rw [if_pos hf] at g1 g2
        dsimp only
        rw [if_pos hf]
        have c59 := @kc_59 w1 l t sc (d + 2) 0 i (r (57 + 6 * i)) (by omega) (by omega)
        have hl1 := @kRl_sput w1 0 r i 0 (r (57 + 6 * i)) hR.W.lt hR1.l hni
        have hby2 : sp_by (sp_put r i 0 (r (57 + 6 * i))) (nI i) rd = some q := by
          rw [← hby]
          unfold sp_by
          rw [show xnq (sp_put r i 0 (r (57 + 6 * i))) = xnq r by unfold xnq; rw [sp_put_h (by omega) (by omega)]]
          refine xfst_cg (fun p _ _ => ?_)
          rw [sp_put_h (by omega) (by omega), sp_put_h (by omega) (by omega)]
        obtain ⟨s, c57, z0, hl⟩ := @kc_57 (xu w1 (0 + 5) (kPut (w1 (0 + 5)) i 0 (r (57 + 6 * i)) (-1) (-1))) l t sc (d + 2) 0 _ i q rd (by omega) (kRel_of g1 hl1) hby2
        rw [xu_xu] at c57 hl
        rw [xu_same] at z0
        refine kOp_s kr z0 (kRel_of g2 hl) ?_
        simp (disch := first | omega | assumption | exact xpi_lt) only [↓zbE, zbd_some, ↓xk_I, ↓xk_v, zB_0, zB_1, ite_not, ↓reduceIte, zS, zSa_0, zSa_1, zSa_2, zSa_3, zSa_4, zSa_5, zSa_6, zSa_7, zSa_8, zSa_9, zPa_0, zPa_1, zPa_2, zPa_3, zPa_4, xgS_0, xgS_1, xgS_2, xgS_3, xgS_4, xgS_5, xgS_6, xgS_7, xgS_8, xgS_9, xgS_10, xgS_11, xgQ_0, xgQ_1, xgQ_2, xgQ_3, xgQ_4, xgP_0, xgP_1, xgP_2, xgP_3, xgP_4, xgP_5, xgP_6, xgP_7, xgY_0, xiS, xiQ, xiY, xiP, ca, c46, eq_false hrk, c64, z10, hR1.place hni, c59, c57, yb_135_66, xiA, xgA_5, xgA_11, xiH, e2]
      · rw [zB_ff (c := r (56 + 6 * i) = 2 ∧ r (60 + 6 * i) = rd) hf] at c64
        rw [if_neg hf] at g1 g2
        dsimp only
        rw [if_neg hf]
        obtain ⟨s, c57, z0, hl⟩ := @kc_57 w1 l t sc (d + 2) 0 r i q rd (by omega) hR1 hby
        refine kOp_s kr z0 (kRel_of g2 hl) ?_
        simp (disch := first | omega | assumption | exact xpi_lt) only [↓zbE, zbd_some, ↓xk_I, ↓xk_v, zB_0, zB_1, ite_not, ↓reduceIte, zS, zSa_0, zSa_1, zSa_2, zSa_3, zSa_4, zSa_5, zSa_6, zSa_7, zSa_8, zSa_9, zPa_0, zPa_1, zPa_2, zPa_3, zPa_4, xgS_0, xgS_1, xgS_2, xgS_3, xgS_4, xgS_5, xgS_6, xgS_7, xgS_8, xgS_9, xgS_10, xgS_11, xgQ_0, xgQ_1, xgQ_2, xgQ_3, xgQ_4, xgP_0, xgP_1, xgP_2, xgP_3, xgP_4, xgP_5, xgP_6, xgP_7, xgY_0, xiS, xiQ, xiY, xiP, ca, c46, eq_false hrk, c64, z00, c57, yb_135_66, xiA, xgA_5, xgA_11, xiH, e2]
  · rw [if_neg ha]
    refine kOp_x (show ¬ (1 : Int32) = 0 by decide) ?_
    have ca := @kx_152 w l t sc (d + 3) r a hR ha
    simp (disch := first | omega | assumption | exact xpi_lt) only [↓zbE, zbd_some, ↓xk_I, ↓xk_v, zB_0, zB_1, ite_not, ↓reduceIte, zS, zSa_0, zSa_1, zSa_2, zSa_3, zSa_4, zSa_5, zSa_6, zSa_7, zSa_8, zSa_9, zPa_0, zPa_1, zPa_2, zPa_3, zPa_4, xgS_0, xgS_1, xgS_2, xgS_3, xgS_4, xgS_5, xgS_6, xgS_7, xgS_8, xgS_9, xgS_10, xgS_11, xgQ_0, xgQ_1, xgQ_2, xgQ_3, xgQ_4, xgP_0, xgP_1, xgP_2, xgP_3, xgP_4, xgP_5, xgP_6, xgP_7, xgY_0, xiS, xiQ, xiY, xiP, ca, ↓xk_vx, xiA, xgA_5, xgA_11, xiH, e2]
theorem kd_136 {n m : Nat} {a : Int32} (hR : kRel w 0 r) (hn : n ≤ 10) (hm : m < 10) (h13 : (w 0).1 13 = nI n) (h14 : (w 0).1 14 = nI m) : kOpA (xm_C sc xt_M (d + 5) 136 [.ref 0, .int a] (xem w l t)) w l t n m (fun _ => 0) (sp_recall r a) := by
  have hB := hR.W.bd
  have hk20 := hB.k20
  have hq40 := hB.q40
  have hv4 := hB.v4
  have hb6 := hB.b6
  obtain ⟨w1, e2, kr⟩ := @kc_2 w l t sc (d + 1) n m hn hm h13 h14
  have hR1 := kr.R hR
  rw [yc_136]
  unfold sp_recall
  by_cases ha : sp_bk r a
  · rw [if_pos ha]
    have ha' := ha
    rw [sp_bk, hB.k] at ha'
    obtain ⟨i, hni, rfl⟩ := zrg (by omega) ha'
    have ca := @kn_152 w l t sc (d + 3) r i hR hni
    rw [nI_clamp (by omega)]
    have c62 := @kc_62 w l t sc (d + 3) 0 i (by omega) r hR hni
    unfold sp_recallN
    by_cases hr : r (59 + 6 * i) = 1
    · rw [if_pos hr]
      rw [zB_tt (c := r (59 + 6 * i) = 1) hr] at c62
      refine kOp_o ?_
      simp (disch := first | omega | assumption | exact xpi_lt) only [↓zbE, zbd_some, ↓xk_I, ↓xk_v, zB_0, zB_1, ite_not, ↓reduceIte, zS, zSa_0, zSa_1, zSa_2, zSa_3, zSa_4, zSa_5, zSa_6, zSa_7, zSa_8, zSa_9, zPa_0, zPa_1, zPa_2, zPa_3, zPa_4, xgS_0, xgS_1, xgS_2, xgS_3, xgS_4, xgS_5, xgS_6, xgS_7, xgS_8, xgS_9, xgS_10, xgS_11, xgQ_0, xgQ_1, xgQ_2, xgQ_3, xgQ_4, xgP_0, xgP_1, xgP_2, xgP_3, xgP_4, xgP_5, xgP_6, xgP_7, xgY_0, xiS, xiQ, xiY, xiP, ca, c62, hR.kind hni, hR.place hni, hR.home hni, yb_136_60, z10, xiA, xgA_5, xgA_11, xiH, e2]
    · rw [if_neg hr]
      rw [zB_ff (c := r (59 + 6 * i) = 1) hr] at c62
      by_cases hh : sp_isIn r 0 i (r (58 + 6 * i))
      · rw [if_pos hh]
        refine kOp_o ?_
        simp (disch := first | omega | assumption | exact xpi_lt) only [↓zbE, zbd_some, ↓xk_I, ↓xk_v, zB_0, zB_1, ite_not, ↓reduceIte, zS, zSa_0, zSa_1, zSa_2, zSa_3, zSa_4, zSa_5, zSa_6, zSa_7, zSa_8, zSa_9, zPa_0, zPa_1, zPa_2, zPa_3, zPa_4, xgS_0, xgS_1, xgS_2, xgS_3, xgS_4, xgS_5, xgS_6, xgS_7, xgS_8, xgS_9, xgS_10, xgS_11, xgQ_0, xgQ_1, xgQ_2, xgQ_3, xgQ_4, xgP_0, xgP_1, xgP_2, xgP_3, xgP_4, xgP_5, xgP_6, xgP_7, xgY_0, xiS, xiQ, xiY, xiP, ca, c62, hR.kind hni, hR.place hni, hR.home hni, yb_136_60, z00, hh.1, hh.2, xiA, xgA_5, xgA_11, xiH, e2]
      · rw [if_neg hh]
        have g := xWF_rec2 hR.W hni
        obtain ⟨s2, hs2⟩ : ∃ s2, s2 = xs1 (w1 (0 + 5)) 4 ((w1 (0 + 5)).1 4 ||| ((1 : Int32) <<< (nI i &&& 31))) := ⟨_, rfl⟩
        have hl1 := @kRl_rec w1 0 r i ((w1 (0 + 5)).1 4 ||| ((1 : Int32) <<< (nI i &&& 31))) 1 hR.W.lt hni (fun j hj => b_set (by omega) hj) hR1.l
        rw [← hs2] at hl1
        have z2 : s2.1 0 = (w1 5).1 0 := by rw [hs2]; rfl
        have gw : xWF (upd r (59 + 6 * i) 1) := xWF_recall hR.W hni
        by_cases h2 : r (56 + 6 * i) = 2
        · rw [if_pos h2] at g ⊢
          have hni2 : i < xnk (upd r (59 + 6 * i) 1) := by
            unfold xnk
            rw [zun (by omega)]
            exact hni
          have hR2 : kRel (xu w1 (0 + 5) s2) 0 (upd r (59 + 6 * i) 1) := kRel_of gw hl1
          have pl := hR2.place hni2
          rw [zun (by omega)] at pl
          rw [xu_same] at pl
          have hl2 := @kRl_sput (xu w1 (0 + 5) s2) 0 (upd r (59 + 6 * i) 1) i 0 (r (57 + 6 * i)) gw.lt hl1 hni2
          have c59 := @kc_59 (xu w1 (0 + 5) s2) l t sc (d + 2) 0 i (r (57 + 6 * i)) (by omega) (by omega)
          rw [xu_same, xu_xu] at c59 hl2
          rw [sp_put_upd (by omega)] at hl2
          refine kOp_s (s := kPut s2 i 0 (r (57 + 6 * i)) (-1) (-1)) kr z2 (kRel_of g hl2) ?_
          by_cases h0 : r (56 + 6 * i) = 0
          · exact absurd (h2.symm.trans h0) (by decide)
          · simp (disch := first | omega | assumption | exact xpi_lt) only [↓zbE, zbd_some, ↓xk_I, ↓xk_v, zB_0, zB_1, ite_not, ↓reduceIte, zS, zSa_0, zSa_1, zSa_2, zSa_3, zSa_4, zSa_5, zSa_6, zSa_7, zSa_8, zSa_9, zPa_0, zPa_1, zPa_2, zPa_3, zPa_4, xgS_0, xgS_1, xgS_2, xgS_3, xgS_4, xgS_5, xgS_6, xgS_7, xgS_8, xgS_9, xgS_10, xgS_11, xgQ_0, xgQ_1, xgQ_2, xgQ_3, xgQ_4, xgP_0, xgP_1, xgP_2, xgP_3, xgP_4, xgP_5, xgP_6, xgP_7, xgY_0, xiS, xiQ, xiY, xiP, ca, c62, hR.kind hni, hR.place hni, hR.home hni, yb_136_60, z00, eq_false h0, xsS_4, hs2.symm, xiA, xgA_5, xgA_11, xiH, e2]
            simp only [eq_true h2, ↓reduceIte]
            simp (disch := first | omega | assumption | exact xpi_lt) only [↓zbE, zbd_some, ↓xk_I, ↓xk_v, zB_0, zB_1, ite_not, ↓reduceIte, zS, zSa_0, zSa_1, zSa_2, zSa_3, zSa_4, zSa_5, zSa_6, zSa_7, zSa_8, zSa_9, zPa_0, zPa_1, zPa_2, zPa_3, zPa_4, xgS_0, xgS_1, xgS_2, xgS_3, xgS_4, xgS_5, xgS_6, xgS_7, xgS_8, xgS_9, xgS_10, xgS_11, xgQ_0, xgQ_1, xgQ_2, xgQ_3, xgQ_4, xgP_0, xgP_1, xgP_2, xgP_3, xgP_4, xgP_5, xgP_6, xgP_7, xgY_0, xiS, xiQ, xiY, xiP, hR1.place hni, pl, xu_same, c59, yb_136_108, xiA, xgA_5, xgA_11, xiH, e2]
        · rw [if_neg h2] at g ⊢
          refine kOp_s kr z2 (kRel_of g hl1) ?_
          by_cases h0 : r (56 + 6 * i) = 0
          · have h1 : ¬ r (57 + 6 * i) = r (58 + 6 * i) := fun z => hh ⟨h0, z⟩
            simp (disch := first | omega | assumption | exact xpi_lt) only [↓zbE, zbd_some, ↓xk_I, ↓xk_v, zB_0, zB_1, ite_not, ↓reduceIte, zS, zSa_0, zSa_1, zSa_2, zSa_3, zSa_4, zSa_5, zSa_6, zSa_7, zSa_8, zSa_9, zPa_0, zPa_1, zPa_2, zPa_3, zPa_4, xgS_0, xgS_1, xgS_2, xgS_3, xgS_4, xgS_5, xgS_6, xgS_7, xgS_8, xgS_9, xgS_10, xgS_11, xgQ_0, xgQ_1, xgQ_2, xgQ_3, xgQ_4, xgP_0, xgP_1, xgP_2, xgP_3, xgP_4, xgP_5, xgP_6, xgP_7, xgY_0, xiS, xiQ, xiY, xiP, ca, c62, hR.kind hni, hR.place hni, hR.home hni, yb_136_60, z00, eq_true h0, eq_false h1, xsS_4, hs2.symm, xiA, xgA_5, xgA_11, xiH, e2]
            simp only [eq_false h2, ↓reduceIte, yb_136_108]
          · simp (disch := first | omega | assumption | exact xpi_lt) only [↓zbE, zbd_some, ↓xk_I, ↓xk_v, zB_0, zB_1, ite_not, ↓reduceIte, zS, zSa_0, zSa_1, zSa_2, zSa_3, zSa_4, zSa_5, zSa_6, zSa_7, zSa_8, zSa_9, zPa_0, zPa_1, zPa_2, zPa_3, zPa_4, xgS_0, xgS_1, xgS_2, xgS_3, xgS_4, xgS_5, xgS_6, xgS_7, xgS_8, xgS_9, xgS_10, xgS_11, xgQ_0, xgQ_1, xgQ_2, xgQ_3, xgQ_4, xgP_0, xgP_1, xgP_2, xgP_3, xgP_4, xgP_5, xgP_6, xgP_7, xgY_0, xiS, xiQ, xiY, xiP, ca, c62, hR.kind hni, hR.place hni, hR.home hni, yb_136_60, z00, eq_false h0, xsS_4, hs2.symm, xiA, xgA_5, xgA_11, xiH, e2]
            simp only [eq_false h2, ↓reduceIte, yb_136_108]
  · rw [if_neg ha]
    refine kOp_x (show ¬ (1 : Int32) = 0 by decide) ?_
    have ca := @kx_152 w l t sc (d + 3) r a hR ha
    simp (disch := first | omega | assumption | exact xpi_lt) only [↓zbE, zbd_some, ↓xk_I, ↓xk_v, zB_0, zB_1, ite_not, ↓reduceIte, zS, zSa_0, zSa_1, zSa_2, zSa_3, zSa_4, zSa_5, zSa_6, zSa_7, zSa_8, zSa_9, zPa_0, zPa_1, zPa_2, zPa_3, zPa_4, xgS_0, xgS_1, xgS_2, xgS_3, xgS_4, xgS_5, xgS_6, xgS_7, xgS_8, xgS_9, xgS_10, xgS_11, xgQ_0, xgQ_1, xgQ_2, xgQ_3, xgQ_4, xgP_0, xgP_1, xgP_2, xgP_3, xgP_4, xgP_5, xgP_6, xgP_7, xgY_0, xiS, xiQ, xiY, xiP, ca, ↓xk_vx, xiA, xgA_5, xgA_11, xiH, e2]
theorem kd_137 {n m : Nat} {a rd : Int32} (hR : kRel w 0 r) (hn : n ≤ 10) (hm : m < 10) (h13 : (w 0).1 13 = nI n) (h14 : (w 0).1 14 = nI m) : kOpA (xm_C sc xt_M (d + 5) 137 [.ref 0, .int a, .int rd] (xem w l t)) w l t n m (fun _ => 0) (sp_takeO r a rd) := by
  have hB := hR.W.bd
  have hk20 := hB.k20
  have hq40 := hB.q40
  have hv4 := hB.v4
  have hb6 := hB.b6
  obtain ⟨w1, e2, kr⟩ := @kc_2 w l t sc (d + 1) n m hn hm h13 h14
  have hR1 := kr.R hR
  rw [yc_137]
  unfold sp_takeO
  by_cases ha : sp_bk r a
  · rw [if_pos ha]
    have ha' := ha
    rw [sp_bk, hB.k] at ha'
    obtain ⟨i, hni, rfl⟩ := zrg (by omega) ha'
    have ca := @kn_152 w l t sc (d + 3) r i hR hni
    rw [nI_clamp (by omega)]
    have c64 := @kc_64 w l t sc (d + 3) 0 i rd (by omega) r hR hni
    unfold sp_takeN
    by_cases hf : sp_hf r i rd
    · rw [if_pos hf]
      rw [zB_tt (c := r (56 + 6 * i) = 2 ∧ r (60 + 6 * i) = rd) hf] at c64
      obtain ⟨q, hby, hq⟩ := sp_by_held hR.W hni hf.1
      rw [hf.2] at hby
      rw [hby]
      dsimp only
      have g := xWF_take hR.W hni hf hby
      obtain ⟨s, c57, z0, hl⟩ := @kc_57 w1 l t sc (d + 2) 0 r i q rd (by omega) hR1 hby
      have c58 := @kc_58 (xu w1 (0 + 5) s) l t sc (d + 3) 0 i 3 (-1) rd (-1) (by omega) (by omega)
      have hd := kDrop_bd hB hq
      have hni2 : i < xnk (sp_drop r q) := by rw [hd.2.2.1]; exact hni
      have hl2 := @kRl_put (xu w1 (0 + 5) s) 0 (sp_drop r q) (upd (sp_put (sp_drop r q) i 3 (-1)) (60 + 6 * i) rd) i 3 (-1) rd (-1) (xLt_drop hR.W hq) hl hni2 (fun j hj => (zun (by omega)).trans (sp_put_ne hj)) ((zun (by omega)).trans sp_put_2) ((zun (by omega)).trans sp_put_3) ((zun (by omega)).trans sp_put_0) ((zun (by omega)).trans sp_put_1) zu1 ((zun (by omega)).trans (by
        show (if 61 + 6 * i = 61 + 6 * i then (-1 : Int32) else _) = -1
        rw [if_pos rfl]))
      rw [xu_same, xu_xu] at c58 hl2
      refine kOp_s kr ?_ (kRel_of g hl2) ?_
      · exact z0
      · simp (disch := first | omega | assumption | exact xpi_lt) only [↓zbE, zbd_some, ↓xk_I, ↓xk_v, zB_0, zB_1, ite_not, ↓reduceIte, zS, zSa_0, zSa_1, zSa_2, zSa_3, zSa_4, zSa_5, zSa_6, zSa_7, zSa_8, zSa_9, zPa_0, zPa_1, zPa_2, zPa_3, zPa_4, xgS_0, xgS_1, xgS_2, xgS_3, xgS_4, xgS_5, xgS_6, xgS_7, xgS_8, xgS_9, xgS_10, xgS_11, xgQ_0, xgQ_1, xgQ_2, xgQ_3, xgQ_4, xgP_0, xgP_1, xgP_2, xgP_3, xgP_4, xgP_5, xgP_6, xgP_7, xgY_0, xiS, xiQ, xiY, xiP, ca, c64, z10, hR1.place hni, c57, c58, xiA, xgA_5, xgA_11, xiH, e2]
    · rw [if_neg hf]
      rw [zB_ff (c := r (56 + 6 * i) = 2 ∧ r (60 + 6 * i) = rd) hf] at c64
      refine kOp_o ?_
      simp (disch := first | omega | assumption | exact xpi_lt) only [↓zbE, zbd_some, ↓xk_I, ↓xk_v, zB_0, zB_1, ite_not, ↓reduceIte, zS, zSa_0, zSa_1, zSa_2, zSa_3, zSa_4, zSa_5, zSa_6, zSa_7, zSa_8, zSa_9, zPa_0, zPa_1, zPa_2, zPa_3, zPa_4, xgS_0, xgS_1, xgS_2, xgS_3, xgS_4, xgS_5, xgS_6, xgS_7, xgS_8, xgS_9, xgS_10, xgS_11, xgQ_0, xgQ_1, xgQ_2, xgQ_3, xgQ_4, xgP_0, xgP_1, xgP_2, xgP_3, xgP_4, xgP_5, xgP_6, xgP_7, xgY_0, xiS, xiQ, xiY, xiP, ca, c64, z00, xiA, xgA_5, xgA_11, xiH, e2]
  · rw [if_neg ha]
    refine kOp_x (show ¬ (1 : Int32) = 0 by decide) ?_
    have ca := @kx_152 w l t sc (d + 3) r a hR ha
    simp (disch := first | omega | assumption | exact xpi_lt) only [↓zbE, zbd_some, ↓xk_I, ↓xk_v, zB_0, zB_1, ite_not, ↓reduceIte, zS, zSa_0, zSa_1, zSa_2, zSa_3, zSa_4, zSa_5, zSa_6, zSa_7, zSa_8, zSa_9, zPa_0, zPa_1, zPa_2, zPa_3, zPa_4, xgS_0, xgS_1, xgS_2, xgS_3, xgS_4, xgS_5, xgS_6, xgS_7, xgS_8, xgS_9, xgS_10, xgS_11, xgQ_0, xgQ_1, xgQ_2, xgQ_3, xgQ_4, xgP_0, xgP_1, xgP_2, xgP_3, xgP_4, xgP_5, xgP_6, xgP_7, xgY_0, xiS, xiQ, xiY, xiP, ca, ↓xk_vx, xiA, xgA_5, xgA_11, xiH, e2]
theorem kd_138 {n m : Nat} {a b : Int32} (hR : kRel w 0 r) (hn : n ≤ 10) (hm : m < 10) (h13 : (w 0).1 13 = nI n) (h14 : (w 0).1 14 = nI m) : kOpA (xm_C sc xt_M (d + 5) 138 [.ref 0, .int a, .int b] (xem w l t)) w l t n m (fun _ => 0) (sp_giveBack r a b) := by
  have hB := hR.W.bd
  have hk20 := hB.k20
  have hq40 := hB.q40
  have hv4 := hB.v4
  have hb6 := hB.b6
  obtain ⟨w1, e2, kr⟩ := @kc_2 w l t sc (d + 1) n m hn hm h13 h14
  have hR1 := kr.R hR
  rw [yc_138]
  unfold sp_giveBack
  by_cases ha : sp_bk r a
  · rw [if_pos ha]
    have ha' := ha
    rw [sp_bk, hB.k] at ha'
    obtain ⟨i, hni, rfl⟩ := zrg (by omega) ha'
    have ca := @kn_152 w l t sc (d + 3) r i hR hni
    rw [nI_clamp (by omega)]
    by_cases hb : sp_br r b
    · rw [if_pos hb]
      have hb' := hb
      rw [sp_br, hB.b] at hb'
      obtain ⟨j, hnj, rfl⟩ := zrg (by omega) hb'
      have cb := @kn_154 w l t sc (d + 3) r j hR hnj
      have c60 := @kc_60 w l t sc (d + 3) 0 j (by omega) r hR hnj
      unfold sp_backN xop
      rw [nI_clamp (by omega)]
      by_cases hk3 : r (56 + 6 * i) = 3
      · rw [if_pos hk3]
        by_cases ho : r (6 + j) = 1
        · rw [if_pos ho]
          rw [zB_tt (c := r (6 + j) = 1) ho] at c60
          have c59 := @kc_59 w1 l t sc (d + 2) 0 i (nI j) (by omega) (by omega)
          have hl := @kRl_sput w1 0 r i 0 (nI j) hR.W.lt hR1.l hni
          refine kOp_s kr ?_ (kRel_of (xWF_put hR.W hni (Or.inl ⟨rfl, xil_nI hnj (by omega)⟩)) hl) ?_
          · rfl
          · simp (disch := first | omega | assumption | exact xpi_lt) only [↓zbE, zbd_some, ↓xk_I, ↓xk_v, zB_0, zB_1, ite_not, ↓reduceIte, zS, zSa_0, zSa_1, zSa_2, zSa_3, zSa_4, zSa_5, zSa_6, zSa_7, zSa_8, zSa_9, zPa_0, zPa_1, zPa_2, zPa_3, zPa_4, xgS_0, xgS_1, xgS_2, xgS_3, xgS_4, xgS_5, xgS_6, xgS_7, xgS_8, xgS_9, xgS_10, xgS_11, xgQ_0, xgQ_1, xgQ_2, xgQ_3, xgQ_4, xgP_0, xgP_1, xgP_2, xgP_3, xgP_4, xgP_5, xgP_6, xgP_7, xgY_0, xiS, xiQ, xiY, xiP, ca, cb, hR.kind hni, eq_true hk3, c60, z10, hR1.reader hni, c59, xiA, xgA_5, xgA_11, xiH, e2]
        · rw [if_neg ho]
          rw [zB_ff (c := r (6 + j) = 1) ho] at c60
          refine kOp_o ?_
          simp (disch := first | omega | assumption | exact xpi_lt) only [↓zbE, zbd_some, ↓xk_I, ↓xk_v, zB_0, zB_1, ite_not, ↓reduceIte, zS, zSa_0, zSa_1, zSa_2, zSa_3, zSa_4, zSa_5, zSa_6, zSa_7, zSa_8, zSa_9, zPa_0, zPa_1, zPa_2, zPa_3, zPa_4, xgS_0, xgS_1, xgS_2, xgS_3, xgS_4, xgS_5, xgS_6, xgS_7, xgS_8, xgS_9, xgS_10, xgS_11, xgQ_0, xgQ_1, xgQ_2, xgQ_3, xgQ_4, xgP_0, xgP_1, xgP_2, xgP_3, xgP_4, xgP_5, xgP_6, xgP_7, xgY_0, xiS, xiQ, xiY, xiP, ca, cb, hR.kind hni, eq_true hk3, c60, z00, xiA, xgA_5, xgA_11, xiH, e2]
      · rw [if_neg hk3]
        refine kOp_o ?_
        simp (disch := first | omega | assumption | exact xpi_lt) only [↓zbE, zbd_some, ↓xk_I, ↓xk_v, zB_0, zB_1, ite_not, ↓reduceIte, zS, zSa_0, zSa_1, zSa_2, zSa_3, zSa_4, zSa_5, zSa_6, zSa_7, zSa_8, zSa_9, zPa_0, zPa_1, zPa_2, zPa_3, zPa_4, xgS_0, xgS_1, xgS_2, xgS_3, xgS_4, xgS_5, xgS_6, xgS_7, xgS_8, xgS_9, xgS_10, xgS_11, xgQ_0, xgQ_1, xgQ_2, xgQ_3, xgQ_4, xgP_0, xgP_1, xgP_2, xgP_3, xgP_4, xgP_5, xgP_6, xgP_7, xgY_0, xiS, xiQ, xiY, xiP, ca, cb, hR.kind hni, eq_false hk3, xiA, xgA_5, xgA_11, xiH, e2]
    · rw [if_neg hb]
      refine kOp_x (show ¬ (1 : Int32) = 0 by decide) ?_
      have cb := @kx_154 w l t sc (d + 3) r b hR hb
      simp (disch := first | omega | assumption | exact xpi_lt) only [↓zbE, zbd_some, ↓xk_I, ↓xk_v, zB_0, zB_1, ite_not, ↓reduceIte, zS, zSa_0, zSa_1, zSa_2, zSa_3, zSa_4, zSa_5, zSa_6, zSa_7, zSa_8, zSa_9, zPa_0, zPa_1, zPa_2, zPa_3, zPa_4, xgS_0, xgS_1, xgS_2, xgS_3, xgS_4, xgS_5, xgS_6, xgS_7, xgS_8, xgS_9, xgS_10, xgS_11, xgQ_0, xgQ_1, xgQ_2, xgQ_3, xgQ_4, xgP_0, xgP_1, xgP_2, xgP_3, xgP_4, xgP_5, xgP_6, xgP_7, xgY_0, xiS, xiQ, xiY, xiP, ca, cb, ↓xk_vx, xiA, xgA_5, xgA_11, xiH, e2]

  · rw [if_neg ha]
    refine kOp_x (show ¬ (1 : Int32) = 0 by decide) ?_
    have ca := @kx_152 w l t sc (d + 3) r a hR ha
    simp (disch := first | omega | assumption | exact xpi_lt) only [↓zbE, zbd_some, ↓xk_I, ↓xk_v, zB_0, zB_1, ite_not, ↓reduceIte, zS, zSa_0, zSa_1, zSa_2, zSa_3, zSa_4, zSa_5, zSa_6, zSa_7, zSa_8, zSa_9, zPa_0, zPa_1, zPa_2, zPa_3, zPa_4, xgS_0, xgS_1, xgS_2, xgS_3, xgS_4, xgS_5, xgS_6, xgS_7, xgS_8, xgS_9, xgS_10, xgS_11, xgQ_0, xgQ_1, xgQ_2, xgQ_3, xgQ_4, xgP_0, xgP_1, xgP_2, xgP_3, xgP_4, xgP_5, xgP_6, xgP_7, xgY_0, xiS, xiQ, xiY, xiP, ca, ↓xk_vx, xiA, xgA_5, xgA_11, xiH, e2]
theorem kd_140 {n m : Nat} {a b : Int32} (hR : kRel w 0 r) (hn : n ≤ 10) (hm : m < 10) (h13 : (w 0).1 13 = nI n) (h14 : (w 0).1 14 = nI m) : kOpA (xm_C sc xt_M (d + 5) 140 [.ref 0, .int a, .int b] (xem w l t)) w l t n m (fun _ => 0) (sp_find r a b) := by
  have hB := hR.W.bd
  have hk20 := hB.k20
  have hq40 := hB.q40
  have hv4 := hB.v4
  have hb6 := hB.b6
  obtain ⟨w1, e2, kr⟩ := @kc_2 w l t sc (d + 1) n m hn hm h13 h14
  have hR1 := kr.R hR
  rw [yc_140]
  unfold sp_find
  by_cases ha : sp_bk r a
  · rw [if_pos ha]
    have ha' := ha
    rw [sp_bk, hB.k] at ha'
    obtain ⟨i, hni, rfl⟩ := zrg (by omega) ha'
    have ca := @kn_152 w l t sc (d + 3) r i hR hni
    rw [nI_clamp (by omega)]
    by_cases hb : sp_br r b
    · rw [if_pos hb]
      have hb' := hb
      rw [sp_br, hB.b] at hb'
      obtain ⟨j, hnj, rfl⟩ := zrg (by omega) hb'
      have cb := @kn_154 w l t sc (d + 3) r j hR hnj
      unfold sp_findN
      by_cases hk4 : r (56 + 6 * i) = 4
      · rw [if_pos hk4]
        have c59 := @kc_59 w1 l t sc (d + 2) 0 i (nI j) (by omega) (by omega)
        have hl := @kRl_sput w1 0 r i 0 (nI j) hR.W.lt hR1.l hni
        have hW2 : xWF (sp_put r i 0 (nI j)) := xWF_put hR.W hni (Or.inl ⟨rfl, xil_nI hnj (by omega)⟩)
        have c67 := @kc_67 (xu w1 (0 + 5) (kPut (w1 (0 + 5)) i 0 (nI j) (-1) (-1))) l t sc (d + 2) 0 (sp_put r i 0 (nI j)) i (by omega) (kRel_of hW2 hl) (by
          unfold xnk
          rw [sp_put_h (by omega) (by omega)]
          exact hni)
        refine kOp_s kr ?_ (kRel_of hW2 hl) ?_
        · rfl
        · simp (disch := first | omega | assumption | exact xpi_lt) only [↓zbE, zbd_some, ↓xk_I, ↓xk_v, zB_0, zB_1, ite_not, ↓reduceIte, zS, zSa_0, zSa_1, zSa_2, zSa_3, zSa_4, zSa_5, zSa_6, zSa_7, zSa_8, zSa_9, zPa_0, zPa_1, zPa_2, zPa_3, zPa_4, xgS_0, xgS_1, xgS_2, xgS_3, xgS_4, xgS_5, xgS_6, xgS_7, xgS_8, xgS_9, xgS_10, xgS_11, xgQ_0, xgQ_1, xgQ_2, xgQ_3, xgQ_4, xgP_0, xgP_1, xgP_2, xgP_3, xgP_4, xgP_5, xgP_6, xgP_7, xgY_0, xiS, xiQ, xiY, xiP, ca, cb, hR.kind hni, eq_true hk4, c59, c67, xiA, xgA_5, xgA_11, xiH, e2]
      · rw [if_neg hk4]
        refine kOp_o ?_
        simp (disch := first | omega | assumption | exact xpi_lt) only [↓zbE, zbd_some, ↓xk_I, ↓xk_v, zB_0, zB_1, ite_not, ↓reduceIte, zS, zSa_0, zSa_1, zSa_2, zSa_3, zSa_4, zSa_5, zSa_6, zSa_7, zSa_8, zSa_9, zPa_0, zPa_1, zPa_2, zPa_3, zPa_4, xgS_0, xgS_1, xgS_2, xgS_3, xgS_4, xgS_5, xgS_6, xgS_7, xgS_8, xgS_9, xgS_10, xgS_11, xgQ_0, xgQ_1, xgQ_2, xgQ_3, xgQ_4, xgP_0, xgP_1, xgP_2, xgP_3, xgP_4, xgP_5, xgP_6, xgP_7, xgY_0, xiS, xiQ, xiY, xiP, ca, cb, hR.kind hni, eq_false hk4, xiA, xgA_5, xgA_11, xiH, e2]
    · rw [if_neg hb]
      refine kOp_x (show ¬ (1 : Int32) = 0 by decide) ?_
      have cb := @kx_154 w l t sc (d + 3) r b hR hb
      simp (disch := first | omega | assumption | exact xpi_lt) only [↓zbE, zbd_some, ↓xk_I, ↓xk_v, zB_0, zB_1, ite_not, ↓reduceIte, zS, zSa_0, zSa_1, zSa_2, zSa_3, zSa_4, zSa_5, zSa_6, zSa_7, zSa_8, zSa_9, zPa_0, zPa_1, zPa_2, zPa_3, zPa_4, xgS_0, xgS_1, xgS_2, xgS_3, xgS_4, xgS_5, xgS_6, xgS_7, xgS_8, xgS_9, xgS_10, xgS_11, xgQ_0, xgQ_1, xgQ_2, xgQ_3, xgQ_4, xgP_0, xgP_1, xgP_2, xgP_3, xgP_4, xgP_5, xgP_6, xgP_7, xgY_0, xiS, xiQ, xiY, xiP, ca, cb, ↓xk_vx, xiA, xgA_5, xgA_11, xiH, e2]

  · rw [if_neg ha]
    refine kOp_x (show ¬ (1 : Int32) = 0 by decide) ?_
    have ca := @kx_152 w l t sc (d + 3) r a hR ha
    simp (disch := first | omega | assumption | exact xpi_lt) only [↓zbE, zbd_some, ↓xk_I, ↓xk_v, zB_0, zB_1, ite_not, ↓reduceIte, zS, zSa_0, zSa_1, zSa_2, zSa_3, zSa_4, zSa_5, zSa_6, zSa_7, zSa_8, zSa_9, zPa_0, zPa_1, zPa_2, zPa_3, zPa_4, xgS_0, xgS_1, xgS_2, xgS_3, xgS_4, xgS_5, xgS_6, xgS_7, xgS_8, xgS_9, xgS_10, xgS_11, xgQ_0, xgQ_1, xgQ_2, xgQ_3, xgQ_4, xgP_0, xgP_1, xgP_2, xgP_3, xgP_4, xgP_5, xgP_6, xgP_7, xgY_0, xiS, xiQ, xiY, xiP, ca, ↓xk_vx, xiA, xgA_5, xgA_11, xiH, e2]
theorem kd_143 {n m : Nat} {x : Int32} (hR : kRel w 0 r) (hn : n ≤ 10) (hm : m < 10) (h13 : (w 0).1 13 = nI n) (h14 : (w 0).1 14 = nI m) : kOpA (xm_C sc xt_M (d + 5) 143 [.ref 0, .int x] (xem w l t)) w l t n m (fun _ => 1) (sp_setHold r x) := by
  have hB := hR.W.bd
  have hk20 := hB.k20
  have hq40 := hB.q40
  have hv4 := hB.v4
  have hb6 := hB.b6
  obtain ⟨w1, e2, kr⟩ := @kc_2 w l t sc (d + 1) n m hn hm h13 h14
  have hR1 := kr.R hR
  rw [yc_143]
  unfold sp_setHold
  by_cases hx : 1 ≤ x ∧ x ≤ 50
  · rw [if_pos hx]
    have cr := @kn_156 w l t sc (d + 3) x 1 50 (Int32.not_lt.mpr hx.1) hx.2
    have hl := @kRl_hold w1 0 r x hR.W.lt hR1.l
    refine kOp_s kr ?_ (kRel_of (xWF_hold hR.W hx) hl) ?_
    · rfl
    · simp (disch := first | omega | assumption | exact xpi_lt) only [↓zbE, zbd_some, ↓xk_I, ↓xk_v, zB_0, zB_1, ite_not, ↓reduceIte, zS, zSa_0, zSa_1, zSa_2, zSa_3, zSa_4, zSa_5, zSa_6, zSa_7, zSa_8, zSa_9, zPa_0, zPa_1, zPa_2, zPa_3, zPa_4, xgS_0, xgS_1, xgS_2, xgS_3, xgS_4, xgS_5, xgS_6, xgS_7, xgS_8, xgS_9, xgS_10, xgS_11, xgQ_0, xgQ_1, xgQ_2, xgQ_3, xgQ_4, xgP_0, xgP_1, xgP_2, xgP_3, xgP_4, xgP_5, xgP_6, xgP_7, xgY_0, xiS, xiQ, xiY, xiP, cr, xsS_2, hR1.hold, xiA, xgA_5, xgA_11, xiH, e2]
  · rw [if_neg hx]
    refine kOp_x (show ¬ (1 : Int32) = 0 by decide) ?_
    have cr := @kx_156 w l t sc (d + 3) x 1 50 hx
    simp (disch := first | omega | assumption | exact xpi_lt) only [↓zbE, zbd_some, ↓xk_I, ↓xk_v, zB_0, zB_1, ite_not, ↓reduceIte, zS, zSa_0, zSa_1, zSa_2, zSa_3, zSa_4, zSa_5, zSa_6, zSa_7, zSa_8, zSa_9, zPa_0, zPa_1, zPa_2, zPa_3, zPa_4, xgS_0, xgS_1, xgS_2, xgS_3, xgS_4, xgS_5, xgS_6, xgS_7, xgS_8, xgS_9, xgS_10, xgS_11, xgQ_0, xgQ_1, xgQ_2, xgQ_3, xgQ_4, xgP_0, xgP_1, xgP_2, xgP_3, xgP_4, xgP_5, xgP_6, xgP_7, xgY_0, xiS, xiQ, xiY, xiP, cr, ↓xk_vx, xiA, xgA_5, xgA_11, xiH, e2]
end KO
