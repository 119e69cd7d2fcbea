/-! THE CLASS: a state begins -/
theorem b_low : ∀ n, n < 7 → ∀ i, i < 32 → bt (((1 : Int32) <<< (nI n &&& 31)) - 1) i = decide (i < n) := by decide +kernel
/-- a row whose time begins -/
def sp_new (r : Nat → Int32) : Prop := r 3 = 0 ∧ r 4 = 0 ∧ r 5 = 10 ∧ (∀ b, b < xnb r → r (6 + b) = 1) ∧ (∀ v, v < xnv r → r (14 + 11 * v) = 0) ∧ ∀ k, k < xnk r → r (56 + 6 * k) = 0 ∧ r (57 + 6 * k) = r (58 + 6 * k) ∧ r (59 + 6 * k) = 0 ∧ r (60 + 6 * k) = -1 ∧ r (61 + 6 * k) = -1
section SB
variable {w : xW} {l : Nat → Nat → Int64} {t : Nat} {sc : xm_Sc} {d k : Nat} {r : Nat → Int32}
theorem kc_37 (hk : k < 13) : xm_C sc xt_M (d + 1) 37 [.ref (xh k + 6)] (xem w l t) = some (.inl none, xem (xu w (k + 5) (xs1 (w (k + 5)) 5 0)) l t) := by
  rw [yc_37]
  simp (disch := first | omega | assumption | exact xpi_lt) only [↓zbE, zbd_some, ↓xk_I, ↓xk_v, zB_0, zB_1, ite_not, ↓reduceIte, zS, zSa_0, zSa_1, zSa_2, zSa_3, zSa_4, zSa_5, zSa_6, zSa_7, zSa_8, zSa_9, zPa_0, zPa_1, zPa_2, zPa_3, zPa_4, xgS_0, xgS_1, xgS_2, xgS_3, xgS_4, xgS_5, xgS_6, xgS_7, xgS_8, xgS_9, xgS_10, xgS_11, xgQ_0, xgQ_1, xgQ_2, xgQ_3, xgQ_4, xgP_0, xgP_1, xgP_2, xgP_3, xgP_4, xgP_5, xgP_6, xgP_7, xgY_0, xiS, xiQ, xiY, xiP, xsQ_0]
theorem k53_18 (hk : k < 13) {v1 : Nat} : ∃ s, xm_R sc xt_M d 53 18 [.ref (xh k), .int (nI 0)] [] (xem w l t) = xm_R sc xt_M d 53 38 [.ref (xh k), .int 0] [] (xem (xu w (k + 5) s) l t) ∧ s.1 = (w (k + 5)).1 ∧ ∀ q, q < 4 → s.2 0 q = 0 := by
  obtain ⟨s, ⟨i1, i2⟩, i3⟩ := xlpE (fun i (s : xG) => xm_R sc xt_M d 53 18 [.ref (xh k), .int (nI i)] [] (xem (xu w (k + 5) s) l t)) (fun i s => s.1 = (w (k + 5)).1 ∧ ∀ q, q < i → s.2 0 q = 0) 4 (by
    intro i s hi hI
    obtain ⟨z1, z2⟩ := hI
    refine ⟨xs2 s 0 (upd (s.2 0) i 0), ⟨z1, fun q hq => ?_⟩, ?_⟩
    · rw [xs2_same]
      by_cases g : q = i
      · subst g; exact zu1
      · rw [zun g]; exact z2 q (by omega)
    · rw [yb_53_18, if_neg (show ¬ (4 : Int32) ≤ nI i from nI_ge (a := i) (b := 4) (by omega) (by omega)), xgS_5 hk, zbs, zSw_0 hk (by omega), zbs, xu_same, xu_xu, zS]) (w (k + 5)) ⟨rfl, fun q hq => absurd hq (Nat.not_lt_zero q)⟩
  refine ⟨s, ?_, i1, i2⟩
  rw [xu_self] at i3
  rw [i3, yb_53_18, if_pos (show (4 : Int32) ≤ nI 4 by decide)]
end SB
