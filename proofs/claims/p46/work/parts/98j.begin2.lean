/-! THE CLASS: a state begins (2) -/
section SB2
variable {w : xW} {l : Nat → Nat → Int64} {t : Nat} {sc : xm_Sc} {d k : Nat} {r : Nat → Int32}
theorem k53_38 {s2 : xG} (hk : k < 13) (hB : xBd r) (e2 : s2.1 0 = (w (k + 5)).1 0) (hp : kPl (w (xpi (w (k + 5)) + 1)) r) (h0 : ∀ q, q < 4 → s2.2 0 q = 0) : ∃ s, xm_R sc xt_M (d + 4) 53 38 [.ref (xh k), .int (nI 0)] [] (xem (xu w (k + 5) s2) l t) = xm_R sc xt_M (d + 4) 53 38 [.ref (xh k), .int (nI (xnk r))] [] (xem (xu w (k + 5) s) l t) ∧ s.1 = s2.1 ∧ (∀ q, q < 4 → s.2 0 q = 0) ∧ ∀ q, q < xnk r → s.2 1 q = 0 ∧ s.2 2 q = r (58 + 6 * q) ∧ s.2 3 q = -1 ∧ s.2 4 q = -1 := by
  have hk20 := hB.k20
  have hlt := @xpi_lt (w (k + 5))
  obtain ⟨s, ⟨i1, i2, i3⟩, i4⟩ := xlpE (fun i (s : xG) => xm_R sc xt_M (d + 4) 53 38 [.ref (xh k), .int (nI i)] [] (xem (xu w (k + 5) s) l t)) (fun i s => s.1 = s2.1 ∧ (∀ q, q < 4 → s.2 0 q = 0) ∧ ∀ q, q < i → s.2 1 q = 0 ∧ s.2 2 q = r (58 + 6 * q) ∧ s.2 3 q = -1 ∧ s.2 4 q = -1) (xnk r) (by
    intro i s hi hI
    obtain ⟨z1, z2, z3⟩ := hI
    have epi : xpi s = xpi (w (k + 5)) := by
      unfold xpi
      rw [z1, e2]
    have epk : (xu w (k + 5) s (xpi (w (k + 5)) + 1)).1 2 = nI (xnk r) := by
      rw [xu_ne (by omega)]
      exact hp.1.2.2.trans hB.k
    have eph : (xu w (k + 5) s (xpi (w (k + 5)) + 1)).2 3 i = r (58 + 6 * i) := by
      rw [xu_ne (by omega)]
      exact hp.2.2 i hi
    have c59 := @kc_59 (xu w (k + 5) s) l t sc (d + 2) k i (r (58 + 6 * i)) hk (by omega)
    rw [xu_same, xu_xu] at c59
    refine ⟨kPut s i 0 (r (58 + 6 * i)) (-1) (-1), ⟨z1, z2, fun q hq => ?_⟩, ?_⟩
    · have f1 : (kPut s i 0 (r (58 + 6 * i)) (-1) (-1)).2 1 = upd (s.2 1) i 0 := rfl
      have f2 : (kPut s i 0 (r (58 + 6 * i)) (-1) (-1)).2 2 = upd (s.2 2) i (r (58 + 6 * i)) := rfl
      have f3 : (kPut s i 0 (r (58 + 6 * i)) (-1) (-1)).2 3 = upd (s.2 3) i (-1) := rfl
      have f4 : (kPut s i 0 (r (58 + 6 * i)) (-1) (-1)).2 4 = upd (s.2 4) i (-1) := rfl
      rw [f1, f2, f3, f4]
      by_cases g : q = i
      · subst g
        rw [zu1, zu1, zu1, zu1]
        exact ⟨rfl, rfl, rfl, rfl⟩
      · rw [zun g, zun g, zun g, zun g]
        exact z3 q (by omega)
    · rw [yb_53_38]
      simp (disch := first | omega | assumption | exact xpi_lt) only [↓zbE, zbd_some, ↓xk_I, ↓xk_v, zB_0, zB_1, ite_not, ↓reduceIte, zS, zSa_0, zSa_1, zSa_2, zSa_3, zSa_4, zSa_5, zSa_6, zSa_7, zSa_8, zSa_9, zPa_0, zPa_1, zPa_2, zPa_3, zPa_4, xgS_0, xgS_1, xgS_2, xgS_3, xgS_4, xgS_5, xgS_6, xgS_7, xgS_8, xgS_9, xgS_10, xgS_11, xgQ_0, xgQ_1, xgQ_2, xgQ_3, xgQ_4, xgP_0, xgP_1, xgP_2, xgP_3, xgP_4, xgP_5, xgP_6, xgP_7, xgY_0, xiS, xiQ, xiY, xiP, xu_same, epi, epk, eph, nI_ge, c59]) s2 ⟨rfl, h0, fun q hq => absurd hq (Nat.not_lt_zero q)⟩
  exact ⟨s, i4, i1, i2, i3⟩
end SB2
