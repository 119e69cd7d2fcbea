/-! THE CLASS's public methods (4): comesIn, meetIn, loaded, lostShare -/
theorem xfst_s {p : Nat → Prop} [DecidablePred p] {i m : Nat} : xfst p i (m + 1) = if p i then some i else xfst p (i + 1) m := rfl
theorem xfst_app {p : Nat → Prop} [DecidablePred p] : ∀ {a i b : Nat}, xfst p i a = none → xfst p i (a + b) = xfst p (i + a) b := by
  intro a
  induction a with
  | zero =>
    intro i b _
    rw [Nat.zero_add, Nat.add_zero]
  | succ a ih =>
    intro i b h
    rw [show a + 1 + b = (a + b) + 1 by omega]
    rw [xfst_s] at h ⊢
    by_cases hp : p i
    · rw [if_pos hp] at h
      cases h
    · rw [if_neg hp] at h
      rw [if_neg hp, ih h, show i + 1 + a = i + (a + 1) by omega]
theorem xfst_app_s {p : Nat → Prop} [DecidablePred p] : ∀ {a i b k : Nat}, xfst p i a = some k → xfst p i (a + b) = some k := by
  intro a
  induction a with
  | zero => intro i b k h; cases h
  | succ a ih =>
    intro i b k h
    rw [show a + 1 + b = (a + b) + 1 by omega]
    rw [xfst_s] at h ⊢
    by_cases hp : p i
    · rw [if_pos hp] at h ⊢
      exact h
    · rw [if_neg hp] at h ⊢
      exact ih h
theorem xfst_no {p : Nat → Prop} [DecidablePred p] : ∀ {a i : Nat}, (∀ j, ¬ p j) → xfst p i a = none := by
  intro a
  induction a with
  | zero => intro i _; rfl
  | succ a ih =>
    intro i h
    rw [xfst_s, if_neg (h i), ih h]
theorem xfst_per {p : Nat → Prop} [DecidablePred p] {n m : Nat} (h0 : 0 < n) (hnm : n ≤ m) (hp : ∀ i, p i ↔ p (i % n)) : xfst p 0 m = xfst p 0 n := by
  obtain ⟨k, rfl⟩ : ∃ k, m = n + k := ⟨m - n, by omega⟩
  cases e : xfst p 0 n with
  | some i => exact xfst_app_s e
  | none =>
    rw [xfst_app e]
    refine xfst_no (fun j hj => ?_)
    have := Nat.mod_lt j h0
    exact xfst_none e (j % n) (by omega) (by omega) ((hp j).mp hj)
theorem mod_s (p i n : Nat) : ((p + i) % n + 1) % n = (p + (i + 1)) % n := by
  rw [Nat.mod_add_mod, Nat.add_assoc]
section PUB4
variable {w : xW} {l : Nat → Nat → Int64} {t : Nat} {sc : xm_Sc} {d : Nat} {r : Nat → Int32}
theorem kd_122 {a b : Int32} (hR : kRel w 0 r) : kAn (xm_C sc xt_M (d + 3) 122 [.ref 0, .int a, .int b] (xem w l t)) w l t 0 (sp_comes r a b) := by
  have hB := hR.W.bd
  have hk20 := hB.k20
  have hq40 := hB.q40
  have hv4 := hB.v4
  have hb6 := hB.b6
  rw [yc_122]
  unfold sp_comes
  by_cases ha : sp_vn r a
  · have ha' := ha
    rw [sp_vn, hB.v] at ha'
    obtain ⟨v, hnn, rfl⟩ := zrg (by omega) ha'
    rw [nI_clamp (by omega)]
    have c153 := @kn_153 w l t sc (d + 1) r v hR hnn
    by_cases hb : sp_br r b
    · rw [if_pos (c := (0 ≤ nI v ∧ nI v ≤ r 1 - 1) ∧ 0 ≤ b ∧ b ≤ r 0 - 1) ⟨ha, hb⟩]
      have hb' := hb
      rw [sp_br, hB.b] at hb'
      obtain ⟨m, hm, rfl⟩ := zrg (by omega) hb'
      have c154 := @kn_154 w l t sc (d + 1) r m hR hm
      obtain ⟨p1, p2, p3, p4, p5⟩ := hR.W.v v hnn
      have h9 := hR.W.st9 hnn
      obtain ⟨p, hp, ep⟩ : ∃ p, p < xst r v ∧ r (14 + 11 * v) = nI p := ⟨_, p4.2, p4.1⟩
      have hbin : ∀ c, sp_bin r v c = r (15 + 11 * v + (p + c) % xst r v) := fun c => by
        unfold sp_bin
        rw [ep, nI_clamp (by omega)]
      have hat := hR.at hnn
      rw [ep] at hat
      have hst := hR.stops hnn
      have h0 : 0 < xst r v := by have : 2 ≤ xst r v := p3; omega
      have e := xlf (fun i => xm_R sc xt_M (d + 2) 122 37 [.ref 0, .int (nI v), .int (nI m), .int (nI (xst r v)), .int (nI ((p + i) % xst r v)), .int (nI (i + 1))] [] (xem w l t)) (p := fun i => sp_bin r v (i + 1) = nI m) (K := fun i => some (.inl (some (.int (nI (i + 1)))), xem w l t)) (E := some (.inl (some (.int (-1))), xem w l t)) (xst r v) (by
        intro i hi
        have g := nI_nlt (b := i + 1) (a := xst r v) (by omega) (by omega)
        have c22 := @kc_22 w l t sc (d + 1) 0 v ((p + i) % xst r v) (by omega) r hR hnn (Nat.mod_lt _ h0)
        rw [mod_s] at c22
        have c21 := @kc_21 w l t sc (d + 1) 0 v ((p + (i + 1)) % xst r v) (by omega) r hR hnn (Nat.mod_lt _ h0)
        rw [← hbin] at c21
        rw [yb_122_37]
        simp (disch := first | omega | assumption | exact xpi_lt) only [↓zbE, zbd_some, ↓xk_I, ↓xk_v, zB_0, zB_1, ite_not, ↓reduceIte, zS, zSa_0, zSa_1, zSa_2, zSa_3, zSa_4, zSa_5, zSa_6, zSa_7, zSa_8, zSa_9, zPa_0, zPa_1, zPa_2, zPa_3, zPa_4, xgS_0, xgS_1, xgS_2, xgS_3, xgS_4, xgS_5, xgS_6, xgS_7, xgS_8, xgS_9, xgS_10, xgS_11, xgQ_0, xgQ_1, xgQ_2, xgQ_3, xgQ_4, xgP_0, xgP_1, xgP_2, xgP_3, xgP_4, xgP_5, xgP_6, xgP_7, xgY_0, xiS, xiQ, xiY, xiP, xgA_5, eq_false g, c22, c21]) (by
        have g := nI_lt (a := xst r v) (b := xst r v + 1) (by omega) (by omega)
        rw [yb_122_37]
        simp (disch := first | omega | assumption | exact xpi_lt) only [↓zbE, zbd_some, ↓xk_I, ↓xk_v, zB_0, zB_1, ite_not, ↓reduceIte, zS, zSa_0, zSa_1, zSa_2, zSa_3, zSa_4, zSa_5, zSa_6, zSa_7, zSa_8, zSa_9, zPa_0, zPa_1, zPa_2, zPa_3, zPa_4, xgS_0, xgS_1, xgS_2, xgS_3, xgS_4, xgS_5, xgS_6, xgS_7, xgS_8, xgS_9, xgS_10, xgS_11, xgQ_0, xgQ_1, xgQ_2, xgQ_3, xgQ_4, xgP_0, xgP_1, xgP_2, xgP_3, xgP_4, xgP_5, xgP_6, xgP_7, xgY_0, xiS, xiQ, xiY, xiP, eq_true g])
      simp only [Nat.add_zero, Nat.mod_eq_of_lt hp] at e
      have per : xfst (fun i => sp_bin r v (i + 1) = nI m) 0 8 = xfst (fun i => sp_bin r v (i + 1) = nI m) 0 (xst r v) := xfst_per h0 (by omega) (fun i => by
        rw [hbin, hbin]
        have : (p + (i + 1)) % xst r v = (p + (i % xst r v + 1)) % xst r v := by
          rw [show p + (i + 1) = i + (p + 1) by omega, show p + (i % xst r v + 1) = i % xst r v + (p + 1) by omega, Nat.mod_add_mod]
        rw [this])
      rw [per]
      refine kAn_o ?_
      refine Eq.trans ?_ (e.trans ?_)
      · simp (disch := first | omega | assumption | exact xpi_lt) only [↓zbE, zbd_some, ↓xk_I, ↓xk_v, zB_0, zB_1, ite_not, ↓reduceIte, zS, zSa_0, zSa_1, zSa_2, zSa_3, zSa_4, zSa_5, zSa_6, zSa_7, zSa_8, zSa_9, zPa_0, zPa_1, zPa_2, zPa_3, zPa_4, xgS_0, xgS_1, xgS_2, xgS_3, xgS_4, xgS_5, xgS_6, xgS_7, xgS_8, xgS_9, xgS_10, xgS_11, xgQ_0, xgQ_1, xgQ_2, xgQ_3, xgQ_4, xgP_0, xgP_1, xgP_2, xgP_3, xgP_4, xgP_5, xgP_6, xgP_7, xgY_0, xiS, xiQ, xiY, xiP, hst, hat, xiA, xgA_5, c153, c154]
        rfl
      · unfold sp_nextAt
        split <;> rename_i h <;> rw [h]
    · rw [if_neg (c := (0 ≤ nI v ∧ nI v ≤ r 1 - 1) ∧ 0 ≤ b ∧ b ≤ r 0 - 1) (fun z => hb z.2)]
      refine kAn_x ?_
      have c154 := @kx_154 w l t sc (d + 1) r b hR hb
      simp (disch := first | omega | assumption | exact xpi_lt) only [↓zbE, zbd_some, ↓xk_I, ↓xk_v, zB_0, zB_1, ite_not, ↓reduceIte, zS, zSa_0, zSa_1, zSa_2, zSa_3, zSa_4, zSa_5, zSa_6, zSa_7, zSa_8, zSa_9, zPa_0, zPa_1, zPa_2, zPa_3, zPa_4, xgS_0, xgS_1, xgS_2, xgS_3, xgS_4, xgS_5, xgS_6, xgS_7, xgS_8, xgS_9, xgS_10, xgS_11, xgQ_0, xgQ_1, xgQ_2, xgQ_3, xgQ_4, xgP_0, xgP_1, xgP_2, xgP_3, xgP_4, xgP_5, xgP_6, xgP_7, xgY_0, xiS, xiQ, xiY, xiP, xiA, xgA_5, c153, c154, ↓xk_vx]
  · rw [if_neg (c := (0 ≤ a ∧ a ≤ r 1 - 1) ∧ 0 ≤ b ∧ b ≤ r 0 - 1) (fun z => ha z.1)]
    refine kAn_x ?_
    have c153 := @kx_153 w l t sc (d + 1) r a hR ha
    simp (disch := first | omega | assumption | exact xpi_lt) only [↓zbE, zbd_some, ↓xk_I, ↓xk_v, zB_0, zB_1, ite_not, ↓reduceIte, zS, zSa_0, zSa_1, zSa_2, zSa_3, zSa_4, zSa_5, zSa_6, zSa_7, zSa_8, zSa_9, zPa_0, zPa_1, zPa_2, zPa_3, zPa_4, xgS_0, xgS_1, xgS_2, xgS_3, xgS_4, xgS_5, xgS_6, xgS_7, xgS_8, xgS_9, xgS_10, xgS_11, xgQ_0, xgQ_1, xgQ_2, xgQ_3, xgQ_4, xgP_0, xgP_1, xgP_2, xgP_3, xgP_4, xgP_5, xgP_6, xgP_7, xgY_0, xiS, xiQ, xiY, xiP, xiA, c153, ↓xk_vx]
end PUB4
