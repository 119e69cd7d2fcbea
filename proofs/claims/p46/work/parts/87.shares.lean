/-! loaded, lostShare: the reference and the class -/
def xRm (r : Nat → Int32) : Prop := ∀ v, v < xnv r → ¬ r (12 + 11 * v) = 0
def sp_rooms (r : Nat → Int32) (n : Nat) : Int32 := xsum (fun v => r (12 + 11 * v)) n
def sp_load (r : Nat → Int32) : UInt64 := FP.ddiv (FP.i2d (sp_inState r 1)) (FP.i2d (sp_rooms r (xnv r)))
def sp_lost (r : Nat → Int32) : UInt32 := if r 2 = 0 then FP.fconst0 else FP.fdiv (FP.i2f (sp_inState r 4)) (FP.i2f (r 2))
set_option maxRecDepth 100000 in
theorem k_fpd : ∀ a, a < 21 → ∀ b, b < 37 → 0 < b → (FP.ddiv (FP.i2d (nI a)) (FP.i2d (nI b))) &&& 0x7fffffffffffffff ≤ 0x7ff0000000000000 := by decide +kernel
set_option maxRecDepth 100000 in
theorem k_fpf : ∀ a, a < 21 → ∀ b, b < 21 → 0 < b → (FP.fdiv (FP.i2f (nI a)) (FP.i2f (nI b))) &&& 0x7fffffff ≤ 0x7f800000 := by decide +kernel
theorem k_inState {r : Nat → Int32} {st : Int32} : ∃ a, a ≤ xnk r ∧ sp_inState r st = nI a := ⟨_, xcnt_le, xsum_cnt⟩
theorem k_rooms {r : Nat → Int32} (hW : xWF r) (hm : xRm r) : ∀ n, n ≤ xnv r → ∃ b, n ≤ b ∧ b ≤ 9 * n ∧ sp_rooms r n = nI b := by
  intro n
  induction n with
  | zero => intro _; exact ⟨0, by omega, by omega, rfl⟩
  | succ n ih =>
    intro hn
    obtain ⟨b, h1, h2, h3⟩ := ih (by omega)
    obtain ⟨c, hc, ec⟩ : ∃ c, c < 10 ∧ r (12 + 11 * n) = nI c := ⟨_, (hW.v n (by omega)).1.2, (hW.v n (by omega)).1.1⟩
    have h0 := hm n (by omega)
    rw [ec] at h0
    have : c ≠ 0 := fun z => h0 (by rw [z]; rfl)
    refine ⟨b + c, by omega, by omega, ?_⟩
    show sp_rooms r n + r (12 + 11 * n) = _
    rw [h3, ec, zA]
section LO
variable {w : xW} {l : Nat → Nat → Int64} {t : Nat} {sc : xm_Sc} {d : Nat} {r : Nat → Int32}
theorem kd_132 (hR : kRel w 0 r) (hm : xRm r) : xm_C sc xt_M (d + 3) 132 [.ref 0] (xem w l t) = some (.inl (some (.double (sp_load r))), xem w l t) := by
  have hB := hR.W.bd
  have hk20 := hB.k20
  have hq40 := hB.q40
  have hv4 := hB.v4
  have hb6 := hB.b6
  have hW := hR.W
  obtain ⟨a, ha, ea⟩ := @k_inState r 1
  obtain ⟨b, hb1, hb2, eb⟩ := k_rooms hW hm (xnv r) (Nat.le_refl _)
  have hn1 := hW.n.2.1
  have fp := k_fpd a (by omega) b (by omega) (by omega)
  have hpv := hR.pv
  have c72 := @kc_72 w l t sc (d + 1) 0 r 1 (by omega) hR
  have nz : ¬ nI b = 0 := nI_ne0 (by omega) (by omega)
  rw [yc_132]
  refine xlp (fun i => xm_R sc xt_M (d + 2) 132 4 [.ref 0, .int (sp_rooms r i), .int (nI i)] [] (xem w l t)) (xnv r) ?_ ?_
  · intro i hi
    have hrm := hR.room hi
    rw [yb_132_4, show sp_rooms r (i + 1) = sp_rooms r i + r (12 + 11 * i) from rfl]
    simp (disch := first | omega | assumption | exact xpi_lt) only [↓zbE, zbd_some, ↓xk_I, ↓xk_v, zB_0, zB_1, ite_not, ↓reduceIte, zS, zSa_0, zSa_1, zSa_2, zSa_3, zSa_4, zSa_5, zSa_6, zSa_7, zSa_8, zSa_9, zPa_0, zPa_1, zPa_2, zPa_3, zPa_4, xgS_0, xgS_1, xgS_2, xgS_3, xgS_4, xgS_5, xgS_6, xgS_7, xgS_8, xgS_9, xgS_10, xgS_11, xgQ_0, xgQ_1, xgQ_2, xgQ_3, xgQ_4, xgP_0, xgP_1, xgP_2, xgP_3, xgP_4, xgP_5, xgP_6, xgP_7, xgY_0, xiS, xiQ, xiY, xiP, xgA_5, hpv, nI_ge, hrm]
  · rw [yb_132_4]
    unfold sp_load
    rw [ea] at c72
    rw [eb, ea]
    simp (disch := first | omega | assumption | exact xpi_lt) only [↓zbE, zbd_some, ↓xk_I, ↓xk_v, zB_0, zB_1, ite_not, ↓reduceIte, zS, zSa_0, zSa_1, zSa_2, zSa_3, zSa_4, zSa_5, zSa_6, zSa_7, zSa_8, zSa_9, zPa_0, zPa_1, zPa_2, zPa_3, zPa_4, xgS_0, xgS_1, xgS_2, xgS_3, xgS_4, xgS_5, xgS_6, xgS_7, xgS_8, xgS_9, xgS_10, xgS_11, xgQ_0, xgQ_1, xgQ_2, xgQ_3, xgQ_4, xgP_0, xgP_1, xgP_2, xgP_3, xgP_4, xgP_5, xgP_6, xgP_7, xgY_0, xiS, xiQ, xiY, xiP, xgA_5, hpv, nI_le, eq_false nz, c72, eq_true fp]
theorem kd_133 (hR : kRel w 0 r) : xm_C sc xt_M (d + 3) 133 [.ref 0] (xem w l t) = some (.inl (some (.float (sp_lost r))), xem w l t) := by
  have hB := hR.W.bd
  have hk20 := hB.k20
  have hq40 := hB.q40
  have hv4 := hB.v4
  have hb6 := hB.b6
  obtain ⟨a, ha, ea⟩ := @k_inState r 4
  have hp2 := hR.P.1.2.2
  have c72 := @kc_72 w l t sc (d + 1) 0 r 4 (by omega) hR
  rw [yc_133]
  unfold sp_lost
  by_cases h : r 2 = 0
  · rw [if_pos h]
    simp (disch := first | omega | assumption | exact xpi_lt) only [↓zbE, zbd_some, ↓xk_I, ↓xk_v, zB_0, zB_1, ite_not, ↓reduceIte, zS, zSa_0, zSa_1, zSa_2, zSa_3, zSa_4, zSa_5, zSa_6, zSa_7, zSa_8, zSa_9, zPa_0, zPa_1, zPa_2, zPa_3, zPa_4, xgS_0, xgS_1, xgS_2, xgS_3, xgS_4, xgS_5, xgS_6, xgS_7, xgS_8, xgS_9, xgS_10, xgS_11, xgQ_0, xgQ_1, xgQ_2, xgQ_3, xgQ_4, xgP_0, xgP_1, xgP_2, xgP_3, xgP_4, xgP_5, xgP_6, xgP_7, xgY_0, xiS, xiQ, xiY, xiP, xgA_5, hp2, h]
  · rw [if_neg h, ea]
    have h0 : xnk r ≠ 0 := fun z => h (by rw [hB.k, z]; rfl)
    have fp := k_fpf a (by omega) (xnk r) (by omega) (by omega)
    rw [ea] at c72
    rw [hB.k] at h hp2 ⊢
    simp (disch := first | omega | assumption | exact xpi_lt) only [↓zbE, zbd_some, ↓xk_I, ↓xk_v, zB_0, zB_1, ite_not, ↓reduceIte, zS, zSa_0, zSa_1, zSa_2, zSa_3, zSa_4, zSa_5, zSa_6, zSa_7, zSa_8, zSa_9, zPa_0, zPa_1, zPa_2, zPa_3, zPa_4, xgS_0, xgS_1, xgS_2, xgS_3, xgS_4, xgS_5, xgS_6, xgS_7, xgS_8, xgS_9, xgS_10, xgS_11, xgQ_0, xgQ_1, xgQ_2, xgQ_3, xgQ_4, xgP_0, xgP_1, xgP_2, xgP_3, xgP_4, xgP_5, xgP_6, xgP_7, xgY_0, xiS, xiQ, xiY, xiP, xgA_5, hp2, h, c72, eq_true fp]
end LO
