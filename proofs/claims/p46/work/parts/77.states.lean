/-! THE CLASS: branches open, requests dropped and added, states copied -/
section OPN
variable {w : xW} {l : Nat → Nat → Int64} {t : Nat} {sc : xm_Sc} {d k : Nat} {r : Nat → Int32}
theorem kWy_S {i nb nv : Nat} {s0 : xG} (hk : k < 13) (hi : i < 2) (hb : (w (i + 1)).1 0 = nI nb) (hv : (w (i + 1)).1 1 = nI nv) (hv4 : nv ≤ 4) : kWy (fun f => xem (xu w (k + 5) (xs2 s0 9 f)) l t) (xh k + 11) (xh k + 12) (xp i) (xp i + 3) nb nv ((w (i + 1)).2 2) := by
  have e : ∀ f, xu w (k + 5) (xs2 s0 9 f) (i + 1) = w (i + 1) := fun f => xu_ne (by omega)
  refine ⟨fun f => xgY_0 hk, fun f => xiY hk, fun f n x hn => ?_, fun f => ?_, fun f => ?_, fun f => xgP_5 hi, fun f v hv => ?_⟩
  · dsimp only
    rw [zSw_9 hk hn, xu_same, xu_xu, xs2_2, xs2_same]
  · dsimp only
    rw [xgP_0 hi, e, hb]
  · dsimp only
    rw [xgP_1 hi, e, hv]
  · dsimp only
    rw [zPa_2 hi (by omega), e]
theorem kWy_Z {i nb nv : Nat} (hi : i < 2) (hb : (w (i + 1)).1 0 = nI nb) (hv : (w (i + 1)).1 1 = nI nv) (hv4 : nv ≤ 4) : kWy (fun f => xem (xu w 0 (xs2 (w 0) 3 f)) l t) 44 45 (xp i) (xp i + 3) nb nv ((w (i + 1)).2 2) := by
  have e : ∀ f, xu w 0 (xs2 (w 0) 3 f) (i + 1) = w (i + 1) := fun f => xu_ne (by omega)
  refine ⟨fun f => xgYs, fun f => xiYs, fun f n x hn => ?_, fun f => ?_, fun f => ?_, fun f => xgP_5 hi, fun f v hv => ?_⟩
  · dsimp only
    rw [xwA_Z, if_pos (xin hn (by decide)), nI_clamp (by omega), xu_same, xu_xu, xs2_2, xs2_same]
  · dsimp only
    rw [xgP_0 hi, e, hb]
  · dsimp only
    rw [xgP_1 hi, e, hv]
  · dsimp only
    rw [zPa_2 hi (by omega), e]
theorem xs2_self {s : xG} {a : Nat} : xs2 s a (s.2 a) = s := by
  refine Prod.ext rfl ?_
  funext x
  show (if x = a then s.2 a else s.2 x) = s.2 x
  split
  · next h => rw [h]
  · rfl
theorem kc_55 {m : Int32} (hk : k < 13) (hB : xBd r) (hQ : kQ r) (hp : kPl (w (xpi (w (k + 5)) + 1)) r) (hc : (w (k + 5)).1 5 = nI (xnq r)) (hq : ∀ q, q < xnq r → (w (k + 5)).2 5 q = r (176 + 3 * q) ∧ (w (k + 5)).2 7 q = r (178 + 3 * q)) (hm : ∀ i, i < 32 → bt m i = decide (i < xnb r ∧ r (6 + i) = 1)) :
    ∃ f g : Nat → Int32, xm_C sc xt_M (d + 4) 55 [.ref (xh k), .int m] (xem w l t) = some (.inl none, xem (xu w (k + 5) (xs2 (xs2 (xs1 (w (k + 5)) 3 m) 9 f) 8 g)) l t) ∧ (∀ a b, a < 6 → b < 6 → f (6 * a + b) = kD r a b) ∧ ∀ b, b < 20 → g b = toJ (sp_first r (nI b)) := by
  have hb6 := hB.b6
  have hm' : ∀ b, b < xnb r → (bt m b = true) = (r (6 + b) = 1) := fun b hb => by
    rw [hm b (by omega), decide_eq_true_eq]
    exact propext ⟨fun z => z.2, fun z => ⟨hb, z⟩⟩
  have hw := @kWy_S w l t k (xpi (w (k + 5))) (xnb r) (xnv r) (xs1 (w (k + 5)) 3 m) hk xpi_lt (hp.1.1.trans hB.b) (hp.1.2.1.trans hB.v) hB.v4
  obtain ⟨f, e1, hf⟩ := @kc_101 _ _ _ _ _ _ sc d r ((w (k + 5)).2 9) m hB hw hm (fun v hv i hi => (hp.2.1 v hv).2.2.1 i hi)
  rw [show xs2 (xs1 (w (k + 5)) 3 m) 9 ((w (k + 5)).2 9) = xs1 (w (k + 5)) 3 m from xs2_self] at e1
  obtain ⟨g, e2, hg⟩ := @kc_40 (xu w (k + 5) (xs2 (xs1 (w (k + 5)) 3 m) 9 f)) l t sc (d + 2) k r m hk hB hQ (by rw [xu_same]; exact hc) (fun q h => by rw [xu_same]; exact hq q h) hm'
  rw [xu_same, xu_xu] at e2
  refine ⟨f, g, ?_, hf, hg⟩
  have hx : xpi (xs1 (w (k + 5)) 3 m) = xpi (w (k + 5)) := rfl
  rw [yc_55]
  simp (disch := first | omega | assumption | exact xpi_lt | decide) only [↓zbE, zbd_some, ↓xk_I, ↓xk_v, zB_0, zB_1, ite_not, ↓reduceIte, zS, zSa_0, zSa_1, zSa_2, zSa_3, zSa_4, zSa_5, zSa_6, zSa_7, zSa_8, zSa_9, zPa_0, zPa_1, zPa_2, zPa_3, zPa_4, xgS_0, xgS_1, xgS_2, xgS_3, xgS_4, xgS_5, xgS_6, xgS_7, xgS_8, xgS_9, xgS_10, xgS_11, xgQ_0, xgQ_1, xgQ_2, xgQ_3, xgQ_4, xgP_0, xgP_1, xgP_2, xgP_3, xgP_4, xgP_5, xgP_6, xgP_7, xgY_0, xiS, xiQ, xiY, xiP, xsS_3, hx, e1, e2, xu_same, xu_xu, xs2_1, xs2_same, xs2_ne, xs1_2, xs1_ne, xs1_same, xs2_2]
/-- a request is dropped: what the state then says -/
theorem kDrop_bd {p : Nat} (hB : xBd r) (hp : p < xnq r) : xBd (sp_drop r p) ∧ xnq (sp_drop r p) = xnq r - 1 ∧ xnk (sp_drop r p) = xnk r ∧ xnb (sp_drop r p) = xnb r ∧ xnv (sp_drop r p) = xnv r := by
  have hq40 := hB.q40
  have e : ∀ i, i ≠ 3 → i < 176 → sp_drop r p i = r i := fun i h1 h2 => sp_drop_h h1 h2
  have e0 : xnb (sp_drop r p) = xnb r := by unfold xnb; rw [e 0 (by omega) (by omega)]
  have e1 : xnv (sp_drop r p) = xnv r := by unfold xnv; rw [e 1 (by omega) (by omega)]
  have e2 : xnk (sp_drop r p) = xnk r := by unfold xnk; rw [e 2 (by omega) (by omega)]
  have e3 : xnq (sp_drop r p) = xnq r - 1 := by unfold xnq; rw [sp_drop_3, nI_clamp (by omega)]; rfl
  refine ⟨?_, e3, e2, e0, e1⟩
  unfold xBd
  rw [e0, e1, e2, e3, e 0 (by omega) (by omega), e 1 (by omega) (by omega), e 2 (by omega) (by omega), sp_drop_3]
  exact ⟨hB.1, hB.2.1, hB.2.2.1, rfl, by omega⟩
theorem kc_57 {q p : Nat} {rd : Int32} (hk : k < 13) (hR : kRel w k r) (hby : sp_by r (nI q) rd = some p) : ∃ s', xm_C sc xt_M (d + 2) 57 [.ref (xh k), .int (nI q), .int rd] (xem w l t) = some (.inl none, xem (xu w (k + 5) s') l t) ∧ s'.1 0 = (w (k + 5)).1 0 ∧ kRl (xu w (k + 5) s') k (sp_drop r p) := by
  have hW := hR.W
  have hB := hW.bd
  have hq40 := hB.q40
  have hb6 := hB.b6
  have hv4 := hB.v4
  have hk20 := hB.k20
  have hp := sp_by_lt hby
  obtain ⟨hB', n', k', b', v'⟩ := kDrop_bd hB hp
  have sl : ∀ q, q < xnq r - 1 → xsg p q < xnq r := fun q h => by unfold xsg; split <;> omega
  have hQ' : kQ (sp_drop r p) := by
    intro i hi
    rw [n'] at hi
    rw [sp_drop_176 hi, sp_drop_178 hi, k', b']
    exact kQ_W hW _ (sl i hi)
  have hc : (w (k + 5)).1 5 = nI ((xnq r - 1) + 1) := by rw [hR.cnt, show xnq r - 1 + 1 = xnq r by omega]
  have e39 := @kc_39 w l t sc d k p (xnq r - 1) hk (by omega) (by omega) hc
  have e44 := @kc_44 w l t sc d k r (nI q) rd hk hR
  rw [hby] at e44
  have bits : ∀ i, i < 32 → bt ((w (k + 5)).1 3) i = decide (i < xnb (sp_drop r p) ∧ sp_drop r p (6 + i) = 1) := fun i hi => by
    rw [hR.s1.2.2.1 i hi, b']
    by_cases h : i < xnb r
    · rw [sp_drop_h (by omega) (by omega)]
    · simp [h]
  obtain ⟨g, e40, hg⟩ := @kc_40 (xu w (k + 5) (kRm (w (k + 5)) p (xnq r - 1 - p) (xnq r - 1))) l t sc d k (sp_drop r p) ((w (k + 5)).1 3) hk hB' hQ' (by rw [xu_same, n']; rfl) (fun i hi => by
    rw [n'] at hi
    rw [xu_same, kRm_5, kRm_7, kSh_q (by omega) hi, kSh_q (by omega) hi, sp_drop_176 hi, sp_drop_178 hi]
    exact ⟨hR.qb (sl i hi), hR.qw (sl i hi)⟩) (fun b hb => by
    rw [bits b (by omega), decide_eq_true_eq]
    exact propext ⟨fun z => z.2, fun z => ⟨hb, z⟩⟩)
  rw [xu_same, xu_xu] at e40
  refine ⟨xs2 (kRm (w (k + 5)) p (xnq r - 1 - p) (xnq r - 1)) 8 g, ?_, ?_, ?_⟩
  · rw [yc_57]
    have z3 : (kRm (w (k + 5)) p (xnq r - 1 - p) (xnq r - 1)).1 3 = (w (k + 5)).1 3 := rfl
    simp only [toJ] at e44
    simp (disch := first | omega | assumption | exact xpi_lt | decide) only [↓zbE, zbd_some, ↓xk_I, ↓xk_v, zB_0, zB_1, ite_not, ↓reduceIte, zS, zSa_0, zSa_1, zSa_2, zSa_3, zSa_4, zSa_5, zSa_6, zSa_7, zSa_8, zSa_9, zPa_0, zPa_1, zPa_2, zPa_3, zPa_4, xgS_0, xgS_1, xgS_2, xgS_3, xgS_4, xgS_5, xgS_6, xgS_7, xgS_8, xgS_9, xgS_10, xgS_11, xgQ_0, xgQ_1, xgQ_2, xgQ_3, xgQ_4, xgP_0, xgP_1, xgP_2, xgP_3, xgP_4, xgP_5, xgP_6, xgP_7, xgY_0, xiS, xiQ, xiY, xiP, e44, e39, z3, e40, xu_same, xu_xu, xs2_1, xs2_same, xs2_ne, xs1_2, xs1_ne, xs1_same, xs2_2]
  · rfl
  · have low : ∀ i, i ≠ 3 → i < 176 → sp_drop r p i = r i := fun i h1 h2 => sp_drop_h h1 h2
    obtain ⟨s1, s2, s3, s4⟩ := hR.2.2
    have geo : kGeo r (sp_drop r p) := kGeo_head (fun i hi h3 _ _ _ => low i h3 (by omega))
    refine kRl_xu rfl (kPl_cg hW.lt (fun i hi h3 _ _ _ _ => low i h3 (by omega)) (fun i hi => low _ (by omega) (by omega)) hR.P) ?_ ?_ ?_ ?_
    · refine ⟨s1.1.trans (low 4 (by omega) (by omega)).symm, s1.2.1.trans (low 5 (by omega) (by omega)).symm, bits, fun i hi => ?_, ?_⟩
      · show bt ((w (k + 5)).1 4) i = _
        rw [s1.2.2.2.1 i hi, k']
        by_cases h : i < xnk r
        · rw [low (59 + 6 * i) (by omega) (by omega)]
        · simp [h]
      · rw [sp_drop_3]
        rfl
    · refine ⟨fun v hv => ?_, fun i hi => ?_⟩
      · rw [v'] at hv
        rw [low (14 + 11 * v) (by omega) (by omega)]
        exact s2.1 v hv
      · rw [k'] at hi
        rw [low (56 + 6 * i) (by omega) (by omega), low (57 + 6 * i) (by omega) (by omega), low (60 + 6 * i) (by omega) (by omega), low (61 + 6 * i) (by omega) (by omega)]
        exact s2.2 i hi
    · refine ⟨fun i hi => ?_, fun i hi => ?_⟩
      · rw [n'] at hi
        rw [xs2_ne (by omega), xs2_ne (by omega), xs2_ne (by omega), kRm_5, kRm_6, kRm_7, kSh_q (by omega) hi, kSh_q (by omega) hi, kSh_q (by omega) hi, sp_drop_176 hi, sp_drop_177 hi, sp_drop_178 hi]
        exact ⟨hR.qb (sl i hi), hR.qr (sl i hi), hR.qw (sl i hi)⟩
      · rw [xs2_same]
        exact hg i hi
    · intro x y hx hy
      rw [geo.D hW.lt]
      exact s4 x y hx hy
theorem sp_addq_at {a rd b : Int32} : sp_addq r a rd b (176 + 3 * xnq r) = a ∧ sp_addq r a rd b (177 + 3 * xnq r) = rd ∧ sp_addq r a rd b (178 + 3 * xnq r) = b := by
  unfold sp_addq
  refine ⟨?_, ?_, ?_⟩
  · rw [zun (by omega), zun (by omega), zun (by omega), zu1]
  · rw [zun (by omega), zun (by omega), zu1]
  · rw [zun (by omega), zu1]
theorem kAddq_c {a rd b : Int32} (hB : xBd r) (hq : xnq r < 40) : xnq (sp_addq r a rd b) = xnq r + 1 ∧ xnk (sp_addq r a rd b) = xnk r ∧ xnb (sp_addq r a rd b) = xnb r ∧ xnv (sp_addq r a rd b) = xnv r := by
  have e : ∀ i, i < 3 → sp_addq r a rd b i = r i := fun i hi => sp_addq_h (by omega) (by omega)
  refine ⟨?_, ?_, ?_, ?_⟩
  · unfold xnq; rw [sp_addq_3, nI_clamp (by omega)]; rfl
  · unfold xnk; rw [e 2 (by omega)]
  · unfold xnb; rw [e 0 (by omega)]
  · unfold xnv; rw [e 1 (by omega)]
theorem kc_56 {a b : Nat} {rd : Int32} (hk : k < 13) (hR : kRel w k r) (hn : xnq r < 40) (ha : a < xnk r) (hb : b < xnb r) : ∃ s', xm_C sc xt_M (d + 2) 56 [.ref (xh k), .int (nI a), .int rd, .int (nI b)] (xem w l t) = some (.inl none, xem (xu w (k + 5) s') l t) ∧ s'.1 0 = (w (k + 5)).1 0 ∧ kRl (xu w (k + 5) s') k (sp_addq r (nI a) rd (nI b)) := by
  have hW := hR.W
  have hB := hW.bd
  have hb6 := hB.b6
  have hv4 := hB.v4
  have hk20 := hB.k20
  have hB' := @sp_addq_bd r (nI a) rd (nI b) hB hn
  obtain ⟨n', k', b', v'⟩ := @kAddq_c r (nI a) rd (nI b) hB hn
  obtain ⟨x1, x2, x3⟩ := @sp_addq_at r (nI a) rd (nI b)
  have low : ∀ i, i ≠ 3 → i < 176 + 3 * xnq r → sp_addq r (nI a) rd (nI b) i = r i := fun i h1 h2 => sp_addq_h h1 h2
  generalize hr' : sp_addq r (nI a) rd (nI b) = r' at *
  have hQ' : kQ r' := by
    intro i hi
    rw [n'] at hi
    rw [k', b']
    by_cases e : i = xnq r
    · subst e
      rw [x1, x3]
      exact ⟨xil_nI ha (by omega), xil_nI hb (by omega)⟩
    · rw [low (176 + 3 * i) (by omega) (by omega), low (178 + 3 * i) (by omega) (by omega)]
      exact kQ_W hW _ (by omega)
  have e38 := @kc_38 w l t sc d k (xnq r) (nI a) rd (nI b) hk hn hR.cnt
  have bits : ∀ i, i < 32 → bt ((w (k + 5)).1 3) i = decide (i < xnb r' ∧ r' (6 + i) = 1) := fun i hi => by
    rw [hR.s1.2.2.1 i hi, b']
    by_cases h : i < xnb r
    · rw [low (6 + i) (by omega) (by omega)]
    · simp [h]
  have arr : ∀ i, i < xnq r' → upd ((w (k + 5)).2 5) (xnq r) (nI a) i = r' (176 + 3 * i) ∧ upd ((w (k + 5)).2 6) (xnq r) rd i = r' (177 + 3 * i) ∧ upd ((w (k + 5)).2 7) (xnq r) (nI b) i = r' (178 + 3 * i) := fun i hi => by
    rw [n'] at hi
    by_cases e : i = xnq r
    · subst e
      rw [zu1, zu1, zu1, x1, x2, x3]
      exact ⟨rfl, rfl, rfl⟩
    · rw [zun e, zun e, zun e, low (176 + 3 * i) (by omega) (by omega), low (177 + 3 * i) (by omega) (by omega), low (178 + 3 * i) (by omega) (by omega)]
      exact ⟨hR.qb (by omega), hR.qr (by omega), hR.qw (by omega)⟩
  obtain ⟨g, e40, hg⟩ := @kc_40 (xu w (k + 5) (kAd (w (k + 5)) (xnq r) (nI a) rd (nI b))) l t sc d k r' ((w (k + 5)).1 3) hk hB' hQ' (by rw [xu_same, n']; rfl) (fun i hi => by
    rw [xu_same]
    exact ⟨(arr i hi).1, (arr i hi).2.2⟩) (fun b hb => by
    rw [bits b (by omega), decide_eq_true_eq]
    exact propext ⟨fun z => z.2, fun z => ⟨hb, z⟩⟩)
  rw [xu_same, xu_xu] at e40
  refine ⟨xs2 (kAd (w (k + 5)) (xnq r) (nI a) rd (nI b)) 8 g, ?_, ?_, ?_⟩
  · rw [yc_56]
    have z3 : (kAd (w (k + 5)) (xnq r) (nI a) rd (nI b)).1 3 = (w (k + 5)).1 3 := rfl
    simp (disch := first | omega | assumption | exact xpi_lt | decide) only [↓zbE, zbd_some, ↓xk_I, ↓xk_v, zB_0, zB_1, ite_not, ↓reduceIte, zS, zSa_0, zSa_1, zSa_2, zSa_3, zSa_4, zSa_5, zSa_6, zSa_7, zSa_8, zSa_9, zPa_0, zPa_1, zPa_2, zPa_3, zPa_4, xgS_0, xgS_1, xgS_2, xgS_3, xgS_4, xgS_5, xgS_6, xgS_7, xgS_8, xgS_9, xgS_10, xgS_11, xgQ_0, xgQ_1, xgQ_2, xgQ_3, xgQ_4, xgP_0, xgP_1, xgP_2, xgP_3, xgP_4, xgP_5, xgP_6, xgP_7, xgY_0, xiS, xiQ, xiY, xiP, e38, z3, e40, xu_same, xu_xu, xs2_1, xs2_same, xs2_ne, xs1_2, xs1_ne, xs1_same, xs2_2]
  · rfl
  · obtain ⟨s1, s2, s3, s4⟩ := hR.2.2
    have geo : kGeo r r' := kGeo_head (fun i hi h3 _ _ _ => low i h3 (by omega))
    refine kRl_xu rfl (kPl_cg hW.lt (fun i hi h3 _ _ _ _ => low i h3 (by omega)) (fun i hi => low _ (by omega) (by omega)) hR.P) ?_ ?_ ?_ ?_
    · refine ⟨s1.1.trans (low 4 (by omega) (by omega)).symm, s1.2.1.trans (low 5 (by omega) (by omega)).symm, bits, fun i hi => ?_, ?_⟩
      · show bt ((w (k + 5)).1 4) i = _
        rw [s1.2.2.2.1 i hi, k']
        by_cases h : i < xnk r
        · rw [low (59 + 6 * i) (by omega) (by omega)]
        · simp [h]
      · rw [hB'.q, n']
        rfl
    · refine ⟨fun v hv => ?_, fun i hi => ?_⟩
      · rw [v'] at hv
        rw [low (14 + 11 * v) (by omega) (by omega)]
        exact s2.1 v hv
      · rw [k'] at hi
        rw [low (56 + 6 * i) (by omega) (by omega), low (57 + 6 * i) (by omega) (by omega), low (60 + 6 * i) (by omega) (by omega), low (61 + 6 * i) (by omega) (by omega)]
        exact s2.2 i hi
    · refine ⟨fun i hi => ?_, fun i hi => ?_⟩
      · rw [xs2_ne (by omega), xs2_ne (by omega), xs2_ne (by omega)]
        exact arr i hi
      · rw [xs2_same]
        exact hg i hi
    · intro x y hx hy
      rw [geo.D hW.lt]
      exact s4 x y hx hy
/-- a state is copied -/
def kCpd (s so : xG) : Prop := s.1 0 = nI (xpi so) ∧ (∀ i, 1 ≤ i → i ≤ 5 → s.1 i = so.1 i) ∧ (∀ q, q < 4 → s.2 0 q = so.2 0 q) ∧ (∀ a q, 1 ≤ a → a ≤ 4 → q < 20 → s.2 a q = so.2 a q) ∧ (∀ a q, 5 ≤ a → a ≤ 7 → q < 40 → s.2 a q = so.2 a q) ∧ (∀ q, q < 20 → s.2 8 q = so.2 8 q) ∧ ∀ q, q < 36 → s.2 9 q = so.2 9 q
theorem kCpd_pi {s so : xG} (h : kCpd s so) : xpi s = xpi so := by
  have e := h.1
  unfold xpi at *
  rw [e]
  by_cases z : so.1 0 = 0
  · rw [if_pos z]
    rfl
  · rw [if_neg z]
    rfl
theorem kCpd_rel {j : Nat} {s : xG} (hB : xBd r) (h : kCpd s (w (j + 5))) (hR : kRl w j r) : kRl (xu w (k + 5) s) k r := by
  have hq40 := hB.q40
  have hb6 := hB.b6
  have hv4 := hB.v4
  have hk20 := hB.k20
  have e := kCpd_pi h
  have hlt := @xpi_lt (w (j + 5))
  obtain ⟨p, s1, s2, s3, s4⟩ := hR
  obtain ⟨_, c1, c2, c3, c4, c5, c6⟩ := h
  unfold kRl
  rw [xu_same, e, xu_ne (by omega)]
  refine ⟨p, ?_, ?_, ?_, ?_⟩
  · unfold kS1
    rw [c1 1 (by omega) (by omega), c1 2 (by omega) (by omega), c1 3 (by omega) (by omega), c1 4 (by omega) (by omega), c1 5 (by omega) (by omega)]
    exact s1
  · refine ⟨fun v hv => ?_, fun i hi => ?_⟩
    · rw [c2 v (by omega)]
      exact s2.1 v hv
    · rw [c3 1 i (by omega) (by omega) (by omega), c3 2 i (by omega) (by omega) (by omega), c3 3 i (by omega) (by omega) (by omega), c3 4 i (by omega) (by omega) (by omega)]
      exact s2.2 i hi
  · refine ⟨fun i hi => ?_, fun i hi => ?_⟩
    · rw [c4 5 i (by omega) (by omega) (by omega), c4 6 i (by omega) (by omega) (by omega), c4 7 i (by omega) (by omega) (by omega)]
      exact s3.1 i hi
    · rw [c5 i hi]
      exact s3.2 i hi
  · intro a b ha hb
    rw [c6 _ (by omega)]
    exact s4 a b ha hb
theorem kc_51 {j : Nat} (hk : k < 13) (hj : j < 13) (hjk : j ≠ k) : xm_C sc xt_M (d + 1) 51 [.ref (xh k + 6), .ref (xh j + 6)] (xem w l t) = some (.inl none, xem (xu w (k + 5) (xs2 (xs2 (xs2 (xs2 (xs1 (w (k + 5)) 5 ((w (j + 5)).1 5)) 5 (fun q => if q < 40 then (w (j + 5)).2 5 q else (w (k + 5)).2 5 q)) 6 (fun q => if q < 40 then (w (j + 5)).2 6 q else (w (k + 5)).2 6 q)) 7 (fun q => if q < 40 then (w (j + 5)).2 7 q else (w (k + 5)).2 7 q)) 8 (fun q => if q < 20 then (w (j + 5)).2 8 q else (w (k + 5)).2 8 q))) l t) := by
  rw [yc_51]
  simp (disch := first | omega | assumption | exact xpi_lt | decide) only [↓zbE, zbd_some, ↓xk_I, ↓xk_v, zB_0, zB_1, ite_not, ↓reduceIte, zS, zSa_0, zSa_1, zSa_2, zSa_3, zSa_4, zSa_5, zSa_6, zSa_7, zSa_8, zSa_9, zPa_0, zPa_1, zPa_2, zPa_3, zPa_4, xgS_0, xgS_1, xgS_2, xgS_3, xgS_4, xgS_5, xgS_6, xgS_7, xgS_8, xgS_9, xgS_10, xgS_11, xgQ_0, xgQ_1, xgQ_2, xgQ_3, xgQ_4, xgP_0, xgP_1, xgP_2, xgP_3, xgP_4, xgP_5, xgP_6, xgP_7, xgY_0, xiS, xiQ, xiY, xiP, xsQ_0, xu_ne, xcS_0, xcS_1, xcS_2, xcS_3, xcS_4, xcS_5, xcS_6, xcS_7, xcS_8, xcS_9, xu_same, xu_xu, xs2_1, xs2_same, xs2_ne, xs1_2, xs1_ne, xs1_same, xs2_2]
theorem kc_105 {j : Nat} (hk : k < 13) (hj : j < 13) (hjk : j ≠ k) : xm_C sc xt_M (d + 1) 105 [.ref (xh k + 11), .ref (xh j + 11)] (xem w l t) = some (.inl none, xem (xu w (k + 5) (xs2 (w (k + 5)) 9 (fun q => if q < 36 then (w (j + 5)).2 9 q else (w (k + 5)).2 9 q))) l t) := by
  rw [yc_105]
  simp (disch := first | omega | assumption | exact xpi_lt | decide) only [↓zbE, zbd_some, ↓xk_I, ↓xk_v, zB_0, zB_1, ite_not, ↓reduceIte, zS, zSa_0, zSa_1, zSa_2, zSa_3, zSa_4, zSa_5, zSa_6, zSa_7, zSa_8, zSa_9, zPa_0, zPa_1, zPa_2, zPa_3, zPa_4, xgS_0, xgS_1, xgS_2, xgS_3, xgS_4, xgS_5, xgS_6, xgS_7, xgS_8, xgS_9, xgS_10, xgS_11, xgQ_0, xgQ_1, xgQ_2, xgQ_3, xgQ_4, xgP_0, xgP_1, xgP_2, xgP_3, xgP_4, xgP_5, xgP_6, xgP_7, xgY_0, xiS, xiQ, xiY, xiP, xu_ne, xcS_0, xcS_1, xcS_2, xcS_3, xcS_4, xcS_5, xcS_6, xcS_7, xcS_8, xcS_9, xu_same, xu_xu, xs2_1, xs2_same, xs2_ne, xs1_2, xs1_ne, xs1_same, xs2_2]
theorem kc_54 {j : Nat} (hk : k < 13) (hj : j < 13) (hjk : j ≠ k) : ∃ s, xm_C sc xt_M (d + 2) 54 [.ref (xh k), .ref (xh j)] (xem w l t) = some (.inl none, xem (xu w (k + 5) s) l t) ∧ kCpd s (w (j + 5)) := by
  rw [yc_54]
  simp (disch := first | omega | assumption | exact xpi_lt | decide) only [↓zbE, zbd_some, ↓xk_I, ↓xk_v, zB_0, zB_1, ite_not, ↓reduceIte, zS, zSa_0, zSa_1, zSa_2, zSa_3, zSa_4, zSa_5, zSa_6, zSa_7, zSa_8, zSa_9, zPa_0, zPa_1, zPa_2, zPa_3, zPa_4, xgS_0, xgS_1, xgS_2, xgS_3, xgS_4, xgS_5, xgS_6, xgS_7, xgS_8, xgS_9, xgS_10, xgS_11, xgQ_0, xgQ_1, xgQ_2, xgQ_3, xgQ_4, xgP_0, xgP_1, xgP_2, xgP_3, xgP_4, xgP_5, xgP_6, xgP_7, xgY_0, xiS, xiQ, xiY, xiP, xsS_0, xsS_1, xsS_2, xsS_3, xsS_4, xu_ne, kc_51, kc_105, xcS_0, xcS_1, xcS_2, xcS_3, xcS_4, xcS_5, xcS_6, xcS_7, xcS_8, xcS_9, xu_same, xu_xu, xs2_1, xs2_same, xs2_ne, xs1_2, xs1_ne, xs1_same, xs2_2]
  refine ⟨_, rfl, rfl, fun i h1 h2 => ?_, fun q hq => if_pos hq, fun a q h1 h2 hq => ?_, fun a q h1 h2 hq => ?_, fun q hq => if_pos hq, fun q hq => if_pos hq⟩
  · match i, h1, h2 with
    | 1, _, _ => rfl
    | 2, _, _ => rfl
    | 3, _, _ => rfl
    | 4, _, _ => rfl
    | 5, _, _ => rfl
    | _ + 6, _, h => omega
  · match a, h1, h2 with
    | 1, _, _ => exact if_pos hq
    | 2, _, _ => exact if_pos hq
    | 3, _, _ => exact if_pos hq
    | 4, _, _ => exact if_pos hq
    | _ + 5, _, h => omega
  · match a, h1, h2 with
    | 5, _, _ => exact if_pos hq
    | 6, _, _ => exact if_pos hq
    | 7, _, _ => exact if_pos hq
    | _ + 8, _, h => omega
end OPN
