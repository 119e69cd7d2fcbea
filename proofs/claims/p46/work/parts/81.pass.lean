/-! THE CLASS: a tick -/
section PA
variable {w : xW} {l : Nat → Nat → Int64} {t : Nat} {sc : xm_Sc} {d k : Nat} {r : Nat → Int32}
theorem sp_drive_geo {f : Nat → Int32} {v : Nat} {u : (Nat → Int32) × (Nat → Int32)} (hW : xWF u.1) (hv : v < xnv u.1) : kGeo u.1 (sp_drive f v u).1 := by
  obtain ⟨r, j⟩ := u
  obtain ⟨p1, p2, p3, p4, p5⟩ := hW.v v hv
  have h9 := hW.st9 hv
  have hv4 := hW.bd.v4
  have hm : ((r (14 + 11 * v)).toNatClampNeg + 1) % xst r v < xst r v := Nat.mod_lt _ (by have : 2 ≤ xst r v := p3; omega)
  have hbr := p5 _ hm
  unfold sp_drive sp_at1
  dsimp only at *
  generalize ((r (14 + 11 * v)).toNatClampNeg + 1) % xst r v = m at *
  have hW1 : xWF (upd r (14 + 11 * v) (nI m)) := xWF_at hW hv (xil_nI hm (by omega))
  have en : ∀ i, i ≠ 14 + 11 * v → upd r (14 + 11 * v) (nI m) i = r i := fun i hi => if_neg hi
  have ec : xct r (upd r (14 + 11 * v) (nI m)) := ⟨en 0 (by omega), en 1 (by omega), en 2 (by omega)⟩
  have geo : kGeo r (upd r (14 + 11 * v) (nI m)) := kGeo_head (fun i _ _ _ _ h => en i (h v (by omega)))
  split
  · obtain ⟨g1, g2⟩ := @sp_unl_ok f (upd r (14 + 11 * v) (nI m)) j v (r (15 + 11 * v + m)) hW1 (by rw [ec.b]; exact hbr) (xnk r) (by rw [ec.k]; exact Nat.le_refl _)
    obtain ⟨k1, k2⟩ := @sp_takeU_ok f (sp_unl f v (r (15 + 11 * v + m)) (upd r (14 + 11 * v) (nI m), j) (xnk r)).2 _ v (r (15 + 11 * v + m)) g1 (by rw [g2.v, ec.v]; exact hv) 3
    exact kGeo_t geo (kGeo_t g2.geo k2.geo)
  · exact geo
theorem k76s {f : Nat → Int32} {v : Nat} {u : (Nat → Int32) × (Nat → Int32)} {v2 : Value} (hk : k < 13) (hR : kRel w k u.1) (hf : kFar f u.1) (hv : v < xnv u.1) : ∃ (s' : xG) (v2' : Value), s'.1 0 = (w (k + 5)).1 0 ∧ kRl (xu w (k + 5) s') k (sp_drive f v u).1 ∧
    xm_R sc xt_M (d + 5) 76 12 [.ref (xh k), .int (nI v), v2] [] (xem w l t) = xm_R sc xt_M (d + 5) 76 12 [.ref (xh k), .int (nI (v + 1)), v2'] [] (xem (xu w (k + 5) s') l t) := by
  obtain ⟨r, j⟩ := u
  dsimp only at hR hf hv
  have hW := hR.W
  have hv4 := hW.bd.v4
  have hb6 := hW.bd.b6
  have hk20 := hW.bd.k20
  obtain ⟨p1, p2, p3, p4, p5⟩ := hW.v v hv
  have st := hW.st hv
  have h9 := hW.st9 hv
  obtain ⟨p, hp, ep⟩ : ∃ p, p < xst r v ∧ r (14 + 11 * v) = nI p := ⟨_, p4.2, p4.1⟩
  have epm : (p + 1) % xst r v = ((r (14 + 11 * v)).toNatClampNeg + 1) % xst r v := by rw [ep, nI_clamp (by omega)]
  have hm : ((r (14 + 11 * v)).toNatClampNeg + 1) % xst r v < xst r v := Nat.mod_lt _ (by have : 2 ≤ xst r v := p3; omega)
  have hat := hR.at hv
  have c22 := @kc_22 w l t sc (d + 4) k v p hk r hR hv hp
  rw [epm] at c22
  obtain ⟨b, hb, eb⟩ := kRt_at hW hv hm
  unfold sp_drive sp_at1
  dsimp only
  clear p4 p5 epm
  generalize ((r (14 + 11 * v)).toNatClampNeg + 1) % xst r v = m at *
  have hW1 : xWF (upd r (14 + 11 * v) (nI m)) := xWF_at hW hv (xil_nI hm (by omega))
  have en : ∀ i, i ≠ 14 + 11 * v → upd r (14 + 11 * v) (nI m) i = r i := fun i hi => zun hi
  have hl1 := @kRl_at w k r v (nI m) hW.lt hv hR.l
  have geo : kGeo r (upd r (14 + 11 * v) (nI m)) := kGeo_head (fun i _ _ _ _ h => en i (h v (by omega)))
  have e2 : xnk (upd r (14 + 11 * v) (nI m)) = xnk r := by unfold xnk; rw [en 2 (by omega)]
  have ebr : upd r (14 + 11 * v) (nI m) (15 + 11 * v + m) = nI b := by rw [en _ (by omega)]; exact eb
  have est : xst (upd r (14 + 11 * v) (nI m)) v = xst r v := geo.st (by omega)
  have exop : xop (upd r (14 + 11 * v) (nI m)) (nI b) = (upd r (14 + 11 * v) (nI m) (6 + b) = 1) := by unfold xop; rw [nI_clamp (by omega)]
  have hf1 : kFar f (upd r (14 + 11 * v) (nI m)) := kFar_geo hW.lt geo hf
  have hh1 : sp_has (upd r (14 + 11 * v) (nI m)) v (nI b) = true := sp_has_iff.mpr ⟨m, by rw [est]; exact hm, ebr⟩
  have hv1 : v < xnv (upd r (14 + 11 * v) (nI m)) := by rw [geo.nv]; exact hv
  have hb1 : b < xnb (upd r (14 + 11 * v) (nI m)) := by rw [geo.nb]; exact hb
  have hm1 : m < xst (upd r (14 + 11 * v) (nI m)) v := by rw [est]; exact hm
  have enb := geo.nb
  have nn : (nI b).toNatClampNeg = b := nI_clamp (by omega)
  have hat1 : ∀ g : xG, xpi (xs2 (w (k + 5)) 0 g.1) = xpi (w (k + 5)) := fun _ => rfl
  generalize upd r (14 + 11 * v) (nI m) = r1 at *
  generalize hs1 : xs2 (w (k + 5)) 0 (upd ((w (k + 5)).2 0) v (nI m)) = s1 at *
  have hs10 : s1.1 0 = (w (k + 5)).1 0 := by rw [← hs1]; rfl
  have hs1v : s1.2 0 v = nI m := by rw [← hs1, xs2_same, zu1]
  have hpi : xpi s1 = xpi (w (k + 5)) := by unfold xpi; rw [hs10]
  have hR1 : kRel (xu w (k + 5) s1) k r1 := kRel_of hW1 hl1
  have c21 := @kc_21 (xu w (k + 5) s1) l t sc (d + 4) k v m hk r1 hR1 hv1 hm1
  have c60 := @kc_60 (xu w (k + 5) s1) l t sc (d + 4) k b hk r1 hR1 hb1
  rw [xu_same, hpi, ebr] at c21
  have hpv := hR.pv
  have hsw := @zSw_0 w l t k v (nI m) hk (by omega)
  rw [hs1] at hsw
  have exop2 : xop r1 (r (15 + 11 * v + m)) ↔ r1 (6 + b) = 1 := by rw [eb, exop]
  by_cases ho : r1 (6 + b) = 1
  · rw [if_pos (exop2.mpr ho), eb]
    obtain ⟨s2, e77, y0, y1⟩ := @kc_77 (xu w (k + 5) s1) l t sc d k r1 f j v b hk hR1 hf1 hv1 hb1 hh1
    rw [xu_xu] at e77 y1
    rw [xu_same] at y0
    obtain ⟨g1, g2⟩ := @sp_unl_ok f r1 j v (nI b) hW1 (xil_nI hb1 (by omega)) (xnk r1) (Nat.le_refl _)
    have hJ := @kJk_unl f r1 j v b hW1 hf1 hv1 hb1 hh1 (xnk r1) (Nat.le_refl _)
    rw [e2] at hJ g1 g2 y1
    have hR2 := kRel_of g1 y1
    obtain ⟨s3, e78, z0, z1⟩ := @kc_78 (xu w (k + 5) s2) l t sc d k _ f (sp_unl f v (nI b) (r1, j) (xnk r)).2 v b hk hR2 (kFar_geo hW1.lt g2.geo hf1) (by rw [g2.v]; exact hv1) (by rw [g2.b]; exact hb1) (by rw [g2.geo.has (by omega) (by rw [est]; exact h9)]; exact hh1) (by rw [g2.k, e2]; exact hJ)
    rw [xu_xu] at e78 z1
    rw [xu_same] at z0
    refine ⟨s3, .int (nI b), z0.trans (y0.trans hs10), z1, ?_⟩
    rw [yb_76_12]
    simp (disch := first | omega | assumption | exact xpi_lt | decide) only [↓zbE, zbd_some, ↓xk_I, ↓xk_v, zB_0, zB_1, ite_not, ↓reduceIte, zS, zSa_0, zSa_1, zSa_2, zSa_3, zSa_4, zSa_5, zSa_6, zSa_7, zSa_8, zSa_9, zPa_0, zPa_1, zPa_2, zPa_3, zPa_4, xgS_0, xgS_1, xgS_2, xgS_3, xgS_4, xgS_5, xgS_6, xgS_7, xgS_8, xgS_9, xgS_10, xgS_11, xgQ_0, xgQ_1, xgQ_2, xgQ_3, xgQ_4, xgP_0, xgP_1, xgP_2, xgP_3, xgP_4, xgP_5, xgP_6, xgP_7, xgY_0, xiS, xiQ, xiY, xiP, eq_true ho, e77, e78, hat, ep, hpv, c22, hsw, hs1v, hpi, c21, c60, nI_ge, yb_76_78, xu_same]
  · rw [if_neg (fun z => ho (exop2.mp z))]
    refine ⟨s1, .int (nI b), hs10, hl1, ?_⟩
    rw [yb_76_12]
    simp (disch := first | omega | assumption | exact xpi_lt | decide) only [↓zbE, zbd_some, ↓xk_I, ↓xk_v, zB_0, zB_1, ite_not, ↓reduceIte, zS, zSa_0, zSa_1, zSa_2, zSa_3, zSa_4, zSa_5, zSa_6, zSa_7, zSa_8, zSa_9, zPa_0, zPa_1, zPa_2, zPa_3, zPa_4, xgS_0, xgS_1, xgS_2, xgS_3, xgS_4, xgS_5, xgS_6, xgS_7, xgS_8, xgS_9, xgS_10, xgS_11, xgQ_0, xgQ_1, xgQ_2, xgQ_3, xgQ_4, xgP_0, xgP_1, xgP_2, xgP_3, xgP_4, xgP_5, xgP_6, xgP_7, xgY_0, xiS, xiQ, xiY, xiP, eq_false ho, hat, ep, hpv, c22, hsw, hs1v, hpi, c21, c60, nI_ge, yb_76_78, xu_same]
theorem kc_76 {f0 j : Nat → Int32} {h : Int32} (hk : k < 13) (hR : kRel w k r) (ht : xil (r 4 + 1) 20000) : ∃ (s' : xG) (n : Int32), xm_C sc xt_M (d + 6) 76 [.ref (xh k)] (xem w l t) = some (.inl (some (.int n)), xem (xu w (k + 5) s') l t) ∧ s'.1 0 = (w (k + 5)).1 0 ∧ kRel (xu w (k + 5) s') k (sp_tick f0 r j h).1 ∧ (sp_tick f0 r j h).2 = h + n := by
  have hW := hR.W
  have hv4 := hW.bd.v4
  have hk20 := hW.bd.k20
  have hW1 := xWF_time hW ht
  have c1 : xct r (upd r 4 (r 4 + 1)) := ⟨zun (by omega), zun (by omega), zun (by omega)⟩
  have hl1 := @kRl_time w k r (r 4 + 1) hW.lt hR.l
  have fin := (@sp_tick_ok f0 r j h hW ht).1
  unfold sp_tick at fin ⊢
  have htm := hR.time
  generalize upd r 4 (r 4 + 1) = r1 at *
  have hf1 : kFar (sp_far r1 f0) r1 := kFar_s hW1.bd
  generalize sp_far r1 f0 = f1 at *
  have ev := c1.v
  obtain ⟨⟨s2, v2⟩, ⟨i1, i2⟩, i3⟩ := xlpE (fun v (a : xG × Value) => xm_R sc xt_M (d + 5) 76 12 [.ref (xh k), .int (nI v), a.2] [] (xem (xu w (k + 5) a.1) l t)) (fun v a => a.1.1 0 = (w (k + 5)).1 0 ∧ kRl (xu w (k + 5) a.1) k (sp_t2 f1 (r1, j) v).1) (xnv r) (by
    intro v a hv hI
    obtain ⟨s, v2⟩ := a
    obtain ⟨z0, hl⟩ := hI
    dsimp only at z0 hl
    obtain ⟨h1, h2⟩ := @sp_t2_ok f1 (r1, j) hW1 v (by show v ≤ xnv r1; omega)
    have h3 : ∀ i, i < 12 → (sp_t2 f1 (r1, j) v).1 i = r1 i := fun i hi => @sp_t2_h f1 (r1, j) hW1 i hi v (by show v ≤ xnv r1; omega)
    have hgeo : kGeo r1 (sp_t2 f1 (r1, j) v).1 := by
      have g : ∀ n, n ≤ xnv r1 → kGeo r1 (sp_t2 f1 (r1, j) n).1 := by
        intro n
        induction n with
        | zero => intro _; exact kGeo_rfl
        | succ n ih =>
          intro hn
          obtain ⟨q1, q2⟩ := @sp_t2_ok f1 (r1, j) hW1 n (by show n ≤ xnv r1; omega)
          refine kGeo_t (ih (by omega)) ?_
          exact sp_drive_geo q1 (by rw [q2.v]; show n < xnv r1; omega)
      exact g v (by omega)
    have hv' : v < xnv (sp_t2 f1 (r1, j) v).1 := by rw [h2.v]; show v < xnv r1; omega
    obtain ⟨s', v2', y0, y1, y2⟩ := @k76s (xu w (k + 5) s) l t sc d k f1 v (sp_t2 f1 (r1, j) v) v2 hk (kRel_of h1 hl) (kFar_geo hW1.lt hgeo hf1) hv'
    rw [xu_xu] at y1 y2
    rw [xu_same] at y0
    exact ⟨(s', v2'), ⟨y0.trans z0, y1⟩, y2⟩) (xs1 (w (k + 5)) 1 (r 4 + 1), .null) ⟨rfl, hl1⟩
  dsimp only at i1 i2 i3
  obtain ⟨hW2, c2⟩ := @sp_t2_ok f1 (r1, j) hW1 (xnv r) (by show xnv r ≤ xnv r1; omega)
  have c2' := xct_t c1 c2
  generalize sp_t2 f1 (r1, j) (xnv r) = u2 at *
  have hR2 := kRel_of hW2 i2
  have hpv := hR2.pv
  rw [c2'.v] at hpv
  obtain ⟨s3, e80, y0, y1⟩ := @kc_80 (xu w (k + 5) s2) l t sc (d + 1) k u2.1 hk hR2
  rw [xu_xu] at e80 y1
  rw [xu_same] at y0
  rw [c2'.k] at y1
  obtain ⟨hW3, c3⟩ := @sp_t3_ok u2.1 hW2 (xnk r) (by rw [c2'.k]; exact Nat.le_refl _)
  have c3' := xct_t c2' c3
  generalize sp_t3 u2.1 (xnk r) = r3 at *
  obtain ⟨s4, e81, z0, z1⟩ := @kc_81 (xu w (k + 5) s3) l t sc (d + 1) k r3 hk (kRel_of hW3 y1)
  rw [xu_xu] at e81 z1
  rw [xu_same] at z0
  rw [c3'.k] at e81 z1
  rw [@sp_t4_n r3 h (xnk r)] at fin ⊢
  refine ⟨s4, (sp_t4 (r3, 0) (xnk r)).2, ?_, z0.trans (y0.trans i1), kRel_of fin z1, rfl⟩
  have hgt := @xgS_1 w l t k hk
  rw [yc_76]
  refine Eq.trans ?_ (i3.trans ?_)
  · simp (disch := first | omega | assumption | exact xpi_lt) only [↓zbE, zbd_some, ↓xk_I, ↓xk_v, zB_0, zB_1, ite_not, ↓reduceIte, zS, zSa_0, zSa_1, zSa_2, zSa_3, zSa_4, zSa_5, zSa_6, zSa_7, zSa_8, zSa_9, zPa_0, zPa_1, zPa_2, zPa_3, zPa_4, xgS_0, xgS_1, xgS_2, xgS_3, xgS_4, xgS_5, xgS_6, xgS_7, xgS_8, xgS_9, xgS_10, xgS_11, xgQ_0, xgQ_1, xgQ_2, xgQ_3, xgQ_4, xgP_0, xgP_1, xgP_2, xgP_3, xgP_4, xgP_5, xgP_6, xgP_7, xgY_0, xiS, xiQ, xiY, xiP, hgt, htm, xsS_1]
    rfl
  · rw [yb_76_12]
    simp (disch := first | omega | assumption | exact xpi_lt) only [↓zbE, zbd_some, ↓xk_I, ↓xk_v, zB_0, zB_1, ite_not, ↓reduceIte, zS, zSa_0, zSa_1, zSa_2, zSa_3, zSa_4, zSa_5, zSa_6, zSa_7, zSa_8, zSa_9, zPa_0, zPa_1, zPa_2, zPa_3, zPa_4, xgS_0, xgS_1, xgS_2, xgS_3, xgS_4, xgS_5, xgS_6, xgS_7, xgS_8, xgS_9, xgS_10, xgS_11, xgQ_0, xgQ_1, xgQ_2, xgQ_3, xgQ_4, xgP_0, xgP_1, xgP_2, xgP_3, xgP_4, xgP_5, xgP_6, xgP_7, xgY_0, xiS, xiQ, xiY, xiP, hpv, nI_le, e80, e81]
end PA
