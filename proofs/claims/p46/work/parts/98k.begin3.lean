/-! THE CLASS: a state begins (3) -/
theorem kc_53 {w : xW} {l : Nat → Nat → Int64} {t : Nat} {sc : xm_Sc} {d k : Nat} {r : Nat → Int32} (hk : k < 13) (hB : xBd r) (hp : kPl (w (xpi (w (k + 5)) + 1)) r) (hn : sp_new r) : ∃ s', xm_C sc xt_M (d + 5) 53 [.ref (xh k)] (xem w l t) = some (.inl none, xem (xu w (k + 5) s') l t) ∧ s'.1 0 = (w (k + 5)).1 0 ∧ kRl (xu w (k + 5) s') k r := by
  obtain ⟨n3, n4, n5, nb, nv, nk⟩ := hn
  have hb6 := hB.b6
  have hk20 := hB.k20
  have hv4 := hB.v4
  have hlt := @xpi_lt (w (k + 5))
  have hq0 : xnq r = 0 := by
    unfold xnq
    rw [n3]
    rfl
  obtain ⟨s2, e18, z1, z2⟩ := @k53_18 (xu w (k + 5) (xs1 (xs1 (xs1 (w (k + 5)) 1 0) 2 10) 4 0)) l t sc (d + 4) k hk 0
  rw [xu_xu] at e18
  rw [xu_same] at z1
  obtain ⟨s3, e38, y1, y2, y3⟩ := @k53_38 w l t sc d k r s2 hk hB (by rw [z1]; rfl) hp z2
  have y1' := y1.trans z1
  have c37 := @kc_37 (xu w (k + 5) s3) l t sc (d + 3) k hk
  rw [xu_same, xu_xu] at c37
  have epi : ∀ s : xG, s.1 0 = (w (k + 5)).1 0 → xpi s = xpi (w (k + 5)) := fun s h => by
    unfold xpi
    rw [h]
  have h30 : s3.1 0 = (w (k + 5)).1 0 := by rw [y1']; rfl
  have epi3 := epi s3 h30
  have epi4 := epi (xs1 s3 5 0) h30
  have eP : ∀ s : xG, xu w (k + 5) s (xpi (w (k + 5)) + 1) = w (xpi (w (k + 5)) + 1) := fun s => xu_ne (by omega)
  have epk : (xu w (k + 5) s3 (xpi (w (k + 5)) + 1)).1 2 = nI (xnk r) := by rw [eP]; exact hp.1.2.2.trans hB.k
  have epb : (xu w (k + 5) (xs1 s3 5 0) (xpi (w (k + 5)) + 1)).1 0 = nI (xnb r) := by rw [eP]; exact hp.1.1.trans hB.b
  have hm : ∀ i, i < 32 → bt (((1 : Int32) <<< (nI (xnb r) &&& 31)) - 1) i = decide (i < xnb r ∧ r (6 + i) = 1) := fun i hi => by
    rw [b_low (xnb r) (by omega) i hi]
    by_cases g : i < xnb r
    · rw [decide_eq_true g, decide_eq_true ⟨g, nb i g⟩]
    · rw [decide_eq_false g, decide_eq_false (fun z => g z.1)]
  obtain ⟨f, g, c55, hf, hg⟩ := @kc_55 (xu w (k + 5) (xs1 s3 5 0)) l t sc d k r (((1 : Int32) <<< (nI (xnb r) &&& 31)) - 1) hk hB (fun q hq => absurd hq (by omega)) (by rw [xu_same, epi4, eP]; exact hp) (by rw [xu_same, hq0]; rfl) (fun q hq => absurd hq (by omega)) hm
  rw [xu_same, xu_xu] at c55
  refine ⟨xs2 (xs2 (xs1 (xs1 s3 5 0) 3 (((1 : Int32) <<< (nI (xnb r) &&& 31)) - 1)) 9 f) 8 g, ?_, h30, kRl_xu h30 hp ?_ ?_ ?_ ?_⟩
  · rw [yc_53]
    simp (disch := first | omega | assumption | exact xpi_lt) only [↓zbE, zbd_some, ↓xk_I, ↓xk_v, zB_0, zB_1, ite_not, ↓reduceIte, zS, zSa_0, zSa_1, zSa_2, zSa_3, zSa_4, zSa_5, zSa_6, zSa_7, zSa_8, zSa_9, zPa_0, zPa_1, zPa_2, zPa_3, zPa_4, xgS_0, xgS_1, xgS_2, xgS_3, xgS_4, xgS_5, xgS_6, xgS_7, xgS_8, xgS_9, xgS_10, xgS_11, xgQ_0, xgQ_1, xgQ_2, xgQ_3, xgQ_4, xgP_0, xgP_1, xgP_2, xgP_3, xgP_4, xgP_5, xgP_6, xgP_7, xgY_0, xiS, xiQ, xiY, xiP, xsS_1, xsS_2, xsS_4, xu_same, xu_xu]
    refine (Eq.trans ?_ e18).trans (Eq.trans ?_ (e38.trans ?_))
    · rfl
    · rfl
    · rw [yb_53_38]
      simp (disch := first | omega | assumption | exact xpi_lt) only [↓zbE, zbd_some, ↓xk_I, ↓xk_v, zB_0, zB_1, ite_not, ↓reduceIte, zS, zSa_0, zSa_1, zSa_2, zSa_3, zSa_4, zSa_5, zSa_6, zSa_7, zSa_8, zSa_9, zPa_0, zPa_1, zPa_2, zPa_3, zPa_4, xgS_0, xgS_1, xgS_2, xgS_3, xgS_4, xgS_5, xgS_6, xgS_7, xgS_8, xgS_9, xgS_10, xgS_11, xgQ_0, xgQ_1, xgQ_2, xgQ_3, xgQ_4, xgP_0, xgP_1, xgP_2, xgP_3, xgP_4, xgP_5, xgP_6, xgP_7, xgY_0, xiS, xiQ, xiY, xiP, xu_same, epi3, epi4, epk, epb, nI_le, c37, c55]
  · refine ⟨?_, ?_, hm, fun i hi => ?_, n3.symm⟩
    · rw [n4]
      show s3.1 1 = 0
      rw [y1']
      rfl
    · rw [n5]
      show s3.1 2 = 10
      rw [y1']
      rfl
    · have : (xs2 (xs2 (xs1 (xs1 s3 5 0) 3 (((1 : Int32) <<< (nI (xnb r) &&& 31)) - 1)) 9 f) 8 g).1 4 = 0 := by
        show s3.1 4 = 0
        rw [y1']
        rfl
      rw [this, b_0, decide_eq_false (fun z => by have := (nk i z.1).2.2.1; rw [this] at z; exact absurd z.2 (by decide))]
  · refine ⟨fun v hv => ?_, fun q hq => ?_⟩
    · rw [nv v hv]
      exact y2 v (by omega)
    · obtain ⟨a1, a2, a3, a4, a5⟩ := nk q hq
      rw [a1, a2, a4, a5]
      exact y3 q hq
  · exact ⟨fun q hq => absurd hq (by omega), fun b hb => hg b hb⟩
  · exact fun a b ha hb => hf a b ha hb
