/-! THE CLASS's public methods (2) -/
theorem k_lt_le {x : Int32} {m : Nat} (hm : m + 1 < 2 ^ 31) : x < nI (m + 1) ↔ x ≤ nI m := by
  rw [fa_lt, fa_le, nI_toInt hm, nI_toInt (by omega)]
  omega
theorem xcnt_mono {p : Nat → Prop} [DecidablePred p] {m : Nat} : ∀ n, xcnt p m ≤ xcnt p (m + n) := by
  intro n
  induction n with
  | zero => exact Nat.le_refl _
  | succ n ih =>
    show xcnt p m ≤ xcnt p (m + n + 1)
    rw [xcnt_s]
    split <;> omega
theorem xcnt_kth {p : Nat → Prop} [DecidablePred p] {m : Nat} : ∀ {n : Nat}, m < xcnt p n ↔ ∃ k, k < n ∧ p k ∧ xcnt p k = m := by
  intro n
  constructor
  · intro h
    induction n with
    | zero => exact absurd h (Nat.not_lt_zero _)
    | succ n ih =>
      rw [xcnt_s] at h
      by_cases hp : p n
      · rw [if_pos hp] at h
        by_cases e : xcnt p n = m
        · exact ⟨n, by omega, hp, e⟩
        · obtain ⟨k, h1, h2⟩ := ih (by omega)
          exact ⟨k, by omega, h2⟩
      · rw [if_neg hp] at h
        obtain ⟨k, h1, h2⟩ := ih h
        exact ⟨k, by omega, h2⟩
  · rintro ⟨k, h1, h2, h3⟩
    have e : xcnt p (k + 1) = m + 1 := by rw [xcnt_s, if_pos h2, h3]
    have := @xcnt_mono p _ (k + 1) (n - (k + 1))
    rw [show k + 1 + (n - (k + 1)) = n by omega, e] at this
    omega
def sp_bookK (r : Nat → Int32) (a x : Int32) : Int32 × Int32 := if sp_bk r a then (if 0 ≤ x ∧ x ≤ 8 then (0, (sp_num (fun _ => -1) r a.toNatClampNeg x).1) else (1, 0)) else (1, 0)
def sp_legsK (r : Nat → Int32) (a b : Int32) : Int32 × Int32 := if sp_br r a then (if sp_br r b then (0, kD r a.toNatClampNeg b.toNatClampNeg) else (1, 0)) else (1, 0)
def sp_wouldK (f r : Nat → Int32) (a b : Int32) : Int32 × Int32 := if sp_bk r a then (if sp_vn r b then (0, zB (sp_wl f r a.toNatClampNeg b.toNatClampNeg)) else (1, 0)) else (1, 0)
section PUB2
variable {w : xW} {l : Nat → Nat → Int64} {t : Nat} {sc : xm_Sc} {d : Nat} {r : Nat → Int32}
theorem kd_112 {a x : Int32} (hR : kRel w 0 r) : kAn (xm_C sc xt_M (d + 6) 112 [.ref 0, .int a, .int x] (xem w l t)) w l t 0 (sp_bookK r a x) := by
  have hB := hR.W.bd
  have hk20 := hB.k20
  have hq40 := hB.q40
  have hv4 := hB.v4
  have hb6 := hB.b6
  rw [yc_112]
  unfold sp_bookK
  by_cases ha : sp_bk (r) a
  · rw [if_pos ha]
    have ha' := ha
    rw [sp_bk, hB.k] at ha'
    obtain ⟨n, hnn, rfl⟩ := zrg (by omega) ha'
    have c152 := @kn_152 w l t sc (d + 4) r n hR hnn
    rw [nI_clamp (by omega)]
    by_cases hx : 0 ≤ x ∧ x ≤ 8
    · rw [if_pos hx]
      refine kAn_o ?_
      have c155 := @kn_155 w l t sc (d + 4) x 9 (Int32.not_lt.mpr hx.1) ((k_lt_le (m := 8) (by omega)).mpr hx.2)
      have c75 := @kc_75 w l t sc (d + 1) 0 r (fun _ => -1) n x (by omega) hR hnn
      simp (disch := first | omega | assumption | exact xpi_lt) only [↓zbE, zbd_some, ↓xk_I, ↓xk_v, zB_0, zB_1, ite_not, ↓reduceIte, zS, zSa_0, zSa_1, zSa_2, zSa_3, zSa_4, zSa_5, zSa_6, zSa_7, zSa_8, zSa_9, zPa_0, zPa_1, zPa_2, zPa_3, zPa_4, xgS_0, xgS_1, xgS_2, xgS_3, xgS_4, xgS_5, xgS_6, xgS_7, xgS_8, xgS_9, xgS_10, xgS_11, xgQ_0, xgQ_1, xgQ_2, xgQ_3, xgQ_4, xgP_0, xgP_1, xgP_2, xgP_3, xgP_4, xgP_5, xgP_6, xgP_7, xgY_0, xiS, xiQ, xiY, xiP, xiA, c152, c155, xgA_5, c75]
    · rw [if_neg hx]
      refine kAn_x ?_
      have c155 := @kx_155 w l t sc (d + 4) x 9 (by
        by_cases g : x < 0
        · exact Or.inl g
        · exact Or.inr (fun z => hx ⟨Int32.not_lt.mp g, (k_lt_le (m := 8) (by omega)).mp z⟩))
      simp (disch := first | omega | assumption | exact xpi_lt) only [↓zbE, zbd_some, ↓xk_I, ↓xk_v, zB_0, zB_1, ite_not, ↓reduceIte, zS, zSa_0, zSa_1, zSa_2, zSa_3, zSa_4, zSa_5, zSa_6, zSa_7, zSa_8, zSa_9, zPa_0, zPa_1, zPa_2, zPa_3, zPa_4, xgS_0, xgS_1, xgS_2, xgS_3, xgS_4, xgS_5, xgS_6, xgS_7, xgS_8, xgS_9, xgS_10, xgS_11, xgQ_0, xgQ_1, xgQ_2, xgQ_3, xgQ_4, xgP_0, xgP_1, xgP_2, xgP_3, xgP_4, xgP_5, xgP_6, xgP_7, xgY_0, xiS, xiQ, xiY, xiP, xiA, c152, c155, ↓xk_vx]
  · rw [if_neg ha]
    refine kAn_x ?_
    have c152 := @kx_152 w l t sc (d + 4) r a hR ha
    simp (disch := first | omega | assumption | exact xpi_lt) only [↓zbE, zbd_some, ↓xk_I, ↓xk_v, zB_0, zB_1, ite_not, ↓reduceIte, zS, zSa_0, zSa_1, zSa_2, zSa_3, zSa_4, zSa_5, zSa_6, zSa_7, zSa_8, zSa_9, zPa_0, zPa_1, zPa_2, zPa_3, zPa_4, xgS_0, xgS_1, xgS_2, xgS_3, xgS_4, xgS_5, xgS_6, xgS_7, xgS_8, xgS_9, xgS_10, xgS_11, xgQ_0, xgQ_1, xgQ_2, xgQ_3, xgQ_4, xgP_0, xgP_1, xgP_2, xgP_3, xgP_4, xgP_5, xgP_6, xgP_7, xgY_0, xiS, xiQ, xiY, xiP, xiA, c152, ↓xk_vx]
theorem kd_118 {a rd : Int32} (hR : kRel w 0 r) : kAn (xm_C sc xt_M (d + 4) 118 [.ref 0, .int a, .int rd] (xem w l t)) w l t 0 (sp_placeOf r a rd) := by
  have hB := hR.W.bd
  have hk20 := hB.k20
  have hq40 := hB.q40
  have hv4 := hB.v4
  have hb6 := hB.b6
  rw [yc_118]
  unfold sp_placeOf
  by_cases ha : sp_bk r a
  · rw [if_pos ha]
    have ha' := ha
    rw [sp_bk, hB.k] at ha'
    obtain ⟨n, hnn, rfl⟩ := zrg (by omega) ha'
    have c152 := @kn_152 w l t sc (d + 2) r n hR hnn
    have c46 := @kc_46 w l t sc (d + 2) 0 r (nI n) rd (by omega) hR
    cases hb : sp_by r (nI n) rd with
    | none =>
      rw [hb] at c46
      refine kAn_o ?_
      simp (disch := first | omega | assumption | exact xpi_lt) only [↓zbE, zbd_some, ↓xk_I, ↓xk_v, zB_0, zB_1, ite_not, ↓reduceIte, zS, zSa_0, zSa_1, zSa_2, zSa_3, zSa_4, zSa_5, zSa_6, zSa_7, zSa_8, zSa_9, zPa_0, zPa_1, zPa_2, zPa_3, zPa_4, xgS_0, xgS_1, xgS_2, xgS_3, xgS_4, xgS_5, xgS_6, xgS_7, xgS_8, xgS_9, xgS_10, xgS_11, xgQ_0, xgQ_1, xgQ_2, xgQ_3, xgQ_4, xgP_0, xgP_1, xgP_2, xgP_3, xgP_4, xgP_5, xgP_6, xgP_7, xgY_0, xiS, xiQ, xiY, xiP, xiA, c152, xgA_5, c46]
    | some q =>
      rw [hb] at c46
      refine kAn_o ?_
      simp (disch := first | omega | assumption | exact xpi_lt) only [↓zbE, zbd_some, ↓xk_I, ↓xk_v, zB_0, zB_1, ite_not, ↓reduceIte, zS, zSa_0, zSa_1, zSa_2, zSa_3, zSa_4, zSa_5, zSa_6, zSa_7, zSa_8, zSa_9, zPa_0, zPa_1, zPa_2, zPa_3, zPa_4, xgS_0, xgS_1, xgS_2, xgS_3, xgS_4, xgS_5, xgS_6, xgS_7, xgS_8, xgS_9, xgS_10, xgS_11, xgQ_0, xgQ_1, xgQ_2, xgQ_3, xgQ_4, xgP_0, xgP_1, xgP_2, xgP_3, xgP_4, xgP_5, xgP_6, xgP_7, xgY_0, xiS, xiQ, xiY, xiP, xiA, c152, xgA_5, c46]
  · rw [if_neg ha]
    refine kAn_x ?_
    have c152 := @kx_152 w l t sc (d + 2) r a hR ha
    simp (disch := first | omega | assumption | exact xpi_lt) only [↓zbE, zbd_some, ↓xk_I, ↓xk_v, zB_0, zB_1, ite_not, ↓reduceIte, zS, zSa_0, zSa_1, zSa_2, zSa_3, zSa_4, zSa_5, zSa_6, zSa_7, zSa_8, zSa_9, zPa_0, zPa_1, zPa_2, zPa_3, zPa_4, xgS_0, xgS_1, xgS_2, xgS_3, xgS_4, xgS_5, xgS_6, xgS_7, xgS_8, xgS_9, xgS_10, xgS_11, xgQ_0, xgQ_1, xgQ_2, xgQ_3, xgQ_4, xgP_0, xgP_1, xgP_2, xgP_3, xgP_4, xgP_5, xgP_6, xgP_7, xgY_0, xiS, xiQ, xiY, xiP, xiA, c152, ↓xk_vx]
theorem kd_120 {a b : Int32} (hR : kRel w 0 r) : kAn (xm_C sc xt_M (d + 3) 120 [.ref 0, .int a, .int b] (xem w l t)) w l t 0 (sp_legsK r a b) := by
  have hB := hR.W.bd
  have hk20 := hB.k20
  have hq40 := hB.q40
  have hv4 := hB.v4
  have hb6 := hB.b6
  rw [yc_120]
  unfold sp_legsK
  by_cases ha : sp_br (r) a
  · rw [if_pos ha]
    have ha' := ha
    rw [sp_br, hB.b] at ha'
    obtain ⟨n, hnn, rfl⟩ := zrg (by omega) ha'
    have c154 := @kn_154 w l t sc (d + 1) r n hR hnn
    by_cases hb : sp_br (r) b
    · rw [if_pos hb]
      have hb' := hb
      rw [sp_br, hB.b] at hb'
      obtain ⟨m, hnm, rfl⟩ := zrg (by omega) hb'
      have c154b := @kn_154 w l t sc (d + 1) r m hR hnm
      have c104 := @kc_104 w l t sc (d + 1) 0 n m (by omega) r hR (by omega) (by omega)
      rw [nI_clamp (by omega), nI_clamp (by omega)]
      refine kAn_o ?_
      simp (disch := first | omega | assumption | exact xpi_lt) only [↓zbE, zbd_some, ↓xk_I, ↓xk_v, zB_0, zB_1, ite_not, ↓reduceIte, zS, zSa_0, zSa_1, zSa_2, zSa_3, zSa_4, zSa_5, zSa_6, zSa_7, zSa_8, zSa_9, zPa_0, zPa_1, zPa_2, zPa_3, zPa_4, xgS_0, xgS_1, xgS_2, xgS_3, xgS_4, xgS_5, xgS_6, xgS_7, xgS_8, xgS_9, xgS_10, xgS_11, xgQ_0, xgQ_1, xgQ_2, xgQ_3, xgQ_4, xgP_0, xgP_1, xgP_2, xgP_3, xgP_4, xgP_5, xgP_6, xgP_7, xgY_0, xiS, xiQ, xiY, xiP, xiA, c154, c154b, xgA_5, c104]
    · rw [if_neg hb]
      refine kAn_x ?_
      have c154b := @kx_154 w l t sc (d + 1) r b hR hb
      simp (disch := first | omega | assumption | exact xpi_lt) only [↓zbE, zbd_some, ↓xk_I, ↓xk_v, zB_0, zB_1, ite_not, ↓reduceIte, zS, zSa_0, zSa_1, zSa_2, zSa_3, zSa_4, zSa_5, zSa_6, zSa_7, zSa_8, zSa_9, zPa_0, zPa_1, zPa_2, zPa_3, zPa_4, xgS_0, xgS_1, xgS_2, xgS_3, xgS_4, xgS_5, xgS_6, xgS_7, xgS_8, xgS_9, xgS_10, xgS_11, xgQ_0, xgQ_1, xgQ_2, xgQ_3, xgQ_4, xgP_0, xgP_1, xgP_2, xgP_3, xgP_4, xgP_5, xgP_6, xgP_7, xgY_0, xiS, xiQ, xiY, xiP, xiA, c154, c154b, ↓xk_vx]

  · rw [if_neg ha]
    refine kAn_x ?_
    have c154 := @kx_154 w l t sc (d + 1) r a hR ha
    simp (disch := first | omega | assumption | exact xpi_lt) only [↓zbE, zbd_some, ↓xk_I, ↓xk_v, zB_0, zB_1, ite_not, ↓reduceIte, zS, zSa_0, zSa_1, zSa_2, zSa_3, zSa_4, zSa_5, zSa_6, zSa_7, zSa_8, zSa_9, zPa_0, zPa_1, zPa_2, zPa_3, zPa_4, xgS_0, xgS_1, xgS_2, xgS_3, xgS_4, xgS_5, xgS_6, xgS_7, xgS_8, xgS_9, xgS_10, xgS_11, xgQ_0, xgQ_1, xgQ_2, xgQ_3, xgQ_4, xgP_0, xgP_1, xgP_2, xgP_3, xgP_4, xgP_5, xgP_6, xgP_7, xgY_0, xiS, xiQ, xiY, xiP, xiA, c154, ↓xk_vx]
theorem kd_114 {a s : Int32} (hR : kRel w 0 r) : kAn (xm_C sc xt_M (d + 3) 114 [.ref 0, .int a, .int s] (xem w l t)) w l t 0 (sp_stop r a s) := by
  have hB := hR.W.bd
  have hk20 := hB.k20
  have hq40 := hB.q40
  have hv4 := hB.v4
  have hb6 := hB.b6
  rw [yc_114]
  unfold sp_stop
  by_cases ha : sp_vn r a
  · have ha' := ha
    rw [sp_vn, hB.v] at ha'
    obtain ⟨n, hnn, rfl⟩ := zrg (by omega) ha'
    rw [nI_clamp (by omega)]
    have h9 := hR.W.st9 hnn
    have c153 := @kn_153 w l t sc (d + 1) r n hR hnn
    by_cases hs : 0 ≤ s ∧ s ≤ r (13 + 11 * n) - 1
    · rw [if_pos (c := (0 ≤ nI n ∧ nI n ≤ r 1 - 1) ∧ 0 ≤ s ∧ s ≤ r (13 + 11 * n) - 1) ⟨ha, hs⟩]
      have hs' := hs
      rw [hR.W.st hnn] at hs'
      obtain ⟨m, hm, rfl⟩ := zrg (by omega) hs'
      rw [nI_clamp (by omega)]
      have c21 := @kc_21 w l t sc (d + 1) 0 n m (by omega) r hR hnn hm
      have g0 : ¬ nI m < 0 := nI_pos (by omega)
      have g1 : nI m < nI (xst r n) := nI_lt hm (by omega)
      refine kAn_o ?_
      simp (disch := first | omega | assumption | exact xpi_lt) only [↓zbE, zbd_some, ↓xk_I, ↓xk_v, zB_0, zB_1, ite_not, ↓reduceIte, zS, zSa_0, zSa_1, zSa_2, zSa_3, zSa_4, zSa_5, zSa_6, zSa_7, zSa_8, zSa_9, zPa_0, zPa_1, zPa_2, zPa_3, zPa_4, xgS_0, xgS_1, xgS_2, xgS_3, xgS_4, xgS_5, xgS_6, xgS_7, xgS_8, xgS_9, xgS_10, xgS_11, xgQ_0, xgQ_1, xgQ_2, xgQ_3, xgQ_4, xgP_0, xgP_1, xgP_2, xgP_3, xgP_4, xgP_5, xgP_6, xgP_7, xgY_0, xiS, xiQ, xiY, xiP, xiA, c153, xgA_5, eq_false g0, eq_true g1, hR.stops hnn, c21]
    · rw [if_neg (c := (0 ≤ nI n ∧ nI n ≤ r 1 - 1) ∧ 0 ≤ s ∧ s ≤ r (13 + 11 * n) - 1) (fun z => hs z.2)]
      refine kAn_x ?_
      by_cases g0 : s < 0
      · simp (disch := first | omega | assumption | exact xpi_lt) only [↓zbE, zbd_some, ↓xk_I, ↓xk_v, zB_0, zB_1, ite_not, ↓reduceIte, zS, zSa_0, zSa_1, zSa_2, zSa_3, zSa_4, zSa_5, zSa_6, zSa_7, zSa_8, zSa_9, zPa_0, zPa_1, zPa_2, zPa_3, zPa_4, xgS_0, xgS_1, xgS_2, xgS_3, xgS_4, xgS_5, xgS_6, xgS_7, xgS_8, xgS_9, xgS_10, xgS_11, xgQ_0, xgQ_1, xgQ_2, xgQ_3, xgQ_4, xgP_0, xgP_1, xgP_2, xgP_3, xgP_4, xgP_5, xgP_6, xgP_7, xgY_0, xiS, xiQ, xiY, xiP, xiA, c153, eq_true g0, yb_114_25]
        exact k_thr
      · have g1 : ¬ s < nI (xst r n) := fun z => hs (by
          rw [hR.W.st hnn]
          obtain ⟨m, hm, rfl⟩ := nI_of g0
          exact zrg' (by omega) ((nI_ltI hm (by omega)).mp z))
        simp (disch := first | omega | assumption | exact xpi_lt) only [↓zbE, zbd_some, ↓xk_I, ↓xk_v, zB_0, zB_1, ite_not, ↓reduceIte, zS, zSa_0, zSa_1, zSa_2, zSa_3, zSa_4, zSa_5, zSa_6, zSa_7, zSa_8, zSa_9, zPa_0, zPa_1, zPa_2, zPa_3, zPa_4, xgS_0, xgS_1, xgS_2, xgS_3, xgS_4, xgS_5, xgS_6, xgS_7, xgS_8, xgS_9, xgS_10, xgS_11, xgQ_0, xgQ_1, xgQ_2, xgQ_3, xgQ_4, xgP_0, xgP_1, xgP_2, xgP_3, xgP_4, xgP_5, xgP_6, xgP_7, xgY_0, xiS, xiQ, xiY, xiP, xiA, c153, xgA_5, eq_false g0, eq_false g1, hR.stops hnn, yb_114_25]
        exact k_thr
  · rw [if_neg (c := (0 ≤ a ∧ a ≤ r 1 - 1) ∧ 0 ≤ s ∧ s ≤ r (13 + 11 * a.toNatClampNeg) - 1) (fun z => ha z.1)]
    refine kAn_x ?_
    have c153 := @kx_153 w l t sc (d + 1) r a hR ha
    simp (disch := first | omega | assumption | exact xpi_lt) only [↓zbE, zbd_some, ↓xk_I, ↓xk_v, zB_0, zB_1, ite_not, ↓reduceIte, zS, zSa_0, zSa_1, zSa_2, zSa_3, zSa_4, zSa_5, zSa_6, zSa_7, zSa_8, zSa_9, zPa_0, zPa_1, zPa_2, zPa_3, zPa_4, xgS_0, xgS_1, xgS_2, xgS_3, xgS_4, xgS_5, xgS_6, xgS_7, xgS_8, xgS_9, xgS_10, xgS_11, xgQ_0, xgQ_1, xgQ_2, xgQ_3, xgQ_4, xgP_0, xgP_1, xgP_2, xgP_3, xgP_4, xgP_5, xgP_6, xgP_7, xgY_0, xiS, xiQ, xiY, xiP, xiA, c153, ↓xk_vx]
theorem kd_115 {a i : Int32} (hR : kRel w 0 r) : kAn (xm_C sc xt_M (d + 4) 115 [.ref 0, .int a, .int i] (xem w l t)) w l t 0 (sp_inVan r a i) := by
  have hB := hR.W.bd
  have hk20 := hB.k20
  have hq40 := hB.q40
  have hv4 := hB.v4
  have hb6 := hB.b6
  rw [yc_115]
  unfold sp_inVan
  by_cases ha : sp_vn (r) a
  · rw [if_pos ha]
    have ha' := ha
    rw [sp_vn, hB.v] at ha'
    obtain ⟨n, hnn, rfl⟩ := zrg (by omega) ha'
    rw [nI_clamp (by omega)]
    have c153 := @kn_153 w l t sc (d + 2) r n hR hnn
    by_cases g0 : i < 0
    · rw [if_pos g0]
      refine kAn_x ?_
      simp (disch := first | omega | assumption | exact xpi_lt) only [↓zbE, zbd_some, ↓xk_I, ↓xk_v, zB_0, zB_1, ite_not, ↓reduceIte, zS, zSa_0, zSa_1, zSa_2, zSa_3, zSa_4, zSa_5, zSa_6, zSa_7, zSa_8, zSa_9, zPa_0, zPa_1, zPa_2, zPa_3, zPa_4, xgS_0, xgS_1, xgS_2, xgS_3, xgS_4, xgS_5, xgS_6, xgS_7, xgS_8, xgS_9, xgS_10, xgS_11, xgQ_0, xgQ_1, xgQ_2, xgQ_3, xgQ_4, xgP_0, xgP_1, xgP_2, xgP_3, xgP_4, xgP_5, xgP_6, xgP_7, xgY_0, xiS, xiQ, xiY, xiP, xiA, c153, eq_true g0, yb_115_22]
      exact k_thr
    · rw [if_neg g0]
      obtain ⟨m, hm, rfl⟩ := nI_of g0
      rw [nI_clamp hm]
      have c73 := @kc_73 w l t sc (d + 1) 0 r 1 (nI n) (by omega) hR
      have ecnt : sp_booksIn r 1 (nI n) = nI (xcnt (fun k => sp_isIn r 1 k (nI n)) (xnk r)) := xsum_cnt
      have hle := @xcnt_le (fun k => sp_isIn r 1 k (nI n)) _ (xnk r)
      have hkth := @xcnt_kth (fun k => sp_isIn r 1 k (nI n)) _ m (xnk r)
      rw [ecnt] at c73
      have c74 := @kc_74 w l t sc (d + 1) 0 r n m (by omega) hR hm
      cases hx : xfst (fun k => sp_inp r n m k) 0 (xnk r) with
      | none =>
        have hno := xfst_none hx
        have g1 : ¬ nI m < nI (xcnt (fun k => sp_isIn r 1 k (nI n)) (xnk r)) := fun z => by
          obtain ⟨k, k1, k2, k3⟩ := hkth.mp ((nI_ltI hm (by omega)).mp z)
          exact hno k (by omega) (by omega) ⟨k2, k3⟩
        refine kAn_x ?_
        simp (disch := first | omega | assumption | exact xpi_lt) only [↓zbE, zbd_some, ↓xk_I, ↓xk_v, zB_0, zB_1, ite_not, ↓reduceIte, zS, zSa_0, zSa_1, zSa_2, zSa_3, zSa_4, zSa_5, zSa_6, zSa_7, zSa_8, zSa_9, zPa_0, zPa_1, zPa_2, zPa_3, zPa_4, xgS_0, xgS_1, xgS_2, xgS_3, xgS_4, xgS_5, xgS_6, xgS_7, xgS_8, xgS_9, xgS_10, xgS_11, xgQ_0, xgQ_1, xgQ_2, xgQ_3, xgQ_4, xgP_0, xgP_1, xgP_2, xgP_3, xgP_4, xgP_5, xgP_6, xgP_7, xgY_0, xiS, xiQ, xiY, xiP, xiA, c153, xgA_5, eq_false g0, eq_false g1, c73, yb_115_22]
        exact k_thr
      | some k =>
        have hyes := xfst_some hx
        have g1 : nI m < nI (xcnt (fun k => sp_isIn r 1 k (nI n)) (xnk r)) := nI_lt (hkth.mpr ⟨k, by omega, hyes.1.1, hyes.1.2⟩) (by omega)
        rw [hx] at c74
        refine kAn_o ?_
        simp (disch := first | omega | assumption | exact xpi_lt) only [↓zbE, zbd_some, ↓xk_I, ↓xk_v, zB_0, zB_1, ite_not, ↓reduceIte, zS, zSa_0, zSa_1, zSa_2, zSa_3, zSa_4, zSa_5, zSa_6, zSa_7, zSa_8, zSa_9, zPa_0, zPa_1, zPa_2, zPa_3, zPa_4, xgS_0, xgS_1, xgS_2, xgS_3, xgS_4, xgS_5, xgS_6, xgS_7, xgS_8, xgS_9, xgS_10, xgS_11, xgQ_0, xgQ_1, xgQ_2, xgQ_3, xgQ_4, xgP_0, xgP_1, xgP_2, xgP_3, xgP_4, xgP_5, xgP_6, xgP_7, xgY_0, xiS, xiQ, xiY, xiP, xiA, c153, xgA_5, eq_false g0, eq_true g1, c73, c74]
        rfl
  · rw [if_neg ha]
    refine kAn_x ?_
    have c153 := @kx_153 w l t sc (d + 2) r a hR ha
    simp (disch := first | omega | assumption | exact xpi_lt) only [↓zbE, zbd_some, ↓xk_I, ↓xk_v, zB_0, zB_1, ite_not, ↓reduceIte, zS, zSa_0, zSa_1, zSa_2, zSa_3, zSa_4, zSa_5, zSa_6, zSa_7, zSa_8, zSa_9, zPa_0, zPa_1, zPa_2, zPa_3, zPa_4, xgS_0, xgS_1, xgS_2, xgS_3, xgS_4, xgS_5, xgS_6, xgS_7, xgS_8, xgS_9, xgS_10, xgS_11, xgQ_0, xgQ_1, xgQ_2, xgQ_3, xgQ_4, xgP_0, xgP_1, xgP_2, xgP_3, xgP_4, xgP_5, xgP_6, xgP_7, xgY_0, xiS, xiQ, xiY, xiP, xiA, c153, ↓xk_vx]
theorem nI0 : nI 0 = 0 := rfl
theorem nI1 : nI 1 = 1 := rfl
theorem nI2 : nI 2 = 2 := rfl
theorem z12 : ((1 : Int32) = 2) = False := eq_false (by decide)
theorem kd_117 {a i x : Int32} (hR : kRel w 0 r) : kAn (xm_C sc xt_M (d + 4) 117 [.ref 0, .int a, .int i, .int x] (xem w l t)) w l t 0 (sp_request r a i x) := by
  have hB := hR.W.bd
  have hk20 := hB.k20
  have hq40 := hB.q40
  have hv4 := hB.v4
  have hb6 := hB.b6
  rw [yc_117]
  unfold sp_request
  by_cases ha : sp_bk r a
  · have ha' := ha
    rw [sp_bk, hB.k] at ha'
    obtain ⟨n, hnn, rfl⟩ := zrg (by omega) ha'
    rw [nI_clamp (by omega)]
    have c152 := @kn_152 w l t sc (d + 2) r n hR hnn
    by_cases hx : 0 ≤ x ∧ x ≤ 2
    · rw [if_pos (c := (0 ≤ nI n ∧ nI n ≤ r 2 - 1) ∧ 0 ≤ x ∧ x ≤ 2) ⟨ha, hx⟩]
      have c155 := @kn_155 w l t sc (d + 2) x 3 (Int32.not_lt.mpr hx.1) ((k_lt_le (m := 2) (by omega)).mpr hx.2)
      have c45 := @kc_45 w l t sc (d + 2) 0 r (nI n) i (by omega) hR
      cases hb : sp_at r (nI n) i with
      | none =>
        rw [hb] at c45
        refine kAn_x ?_
        simp (disch := first | omega | assumption | exact xpi_lt) only [↓zbE, zbd_some, ↓xk_I, ↓xk_v, zB_0, zB_1, ite_not, ↓reduceIte, zS, zSa_0, zSa_1, zSa_2, zSa_3, zSa_4, zSa_5, zSa_6, zSa_7, zSa_8, zSa_9, zPa_0, zPa_1, zPa_2, zPa_3, zPa_4, xgS_0, xgS_1, xgS_2, xgS_3, xgS_4, xgS_5, xgS_6, xgS_7, xgS_8, xgS_9, xgS_10, xgS_11, xgQ_0, xgQ_1, xgQ_2, xgQ_3, xgQ_4, xgP_0, xgP_1, xgP_2, xgP_3, xgP_4, xgP_5, xgP_6, xgP_7, xgY_0, xiS, xiQ, xiY, xiP, xiA, c152, c155, c45, toJ, xgA_5, z02, z12, z10, z00, zm1]
        exact k_thr
      | some q =>
        rw [hb] at c45
        have hq := sp_at_lt hb
        have h5 := toJ_ne (q := q) (by omega)
        refine kAn_o ?_
        obtain ⟨m, hm, rfl⟩ := zrg (m := 3) (by omega) (show 0 ≤ x ∧ x ≤ nI 3 - 1 from hx)
        have c64 := @kc_64 w l t sc (d + 2) 0 n (r (177 + 3 * q)) (by omega) r hR hnn
        match m, hm with
        | 0, _ => simp (disch := first | omega | assumption | exact xpi_lt) only [↓zbE, zbd_some, ↓xk_I, ↓xk_v, zB_0, zB_1, ite_not, ↓reduceIte, zS, zSa_0, zSa_1, zSa_2, zSa_3, zSa_4, zSa_5, zSa_6, zSa_7, zSa_8, zSa_9, zPa_0, zPa_1, zPa_2, zPa_3, zPa_4, xgS_0, xgS_1, xgS_2, xgS_3, xgS_4, xgS_5, xgS_6, xgS_7, xgS_8, xgS_9, xgS_10, xgS_11, xgQ_0, xgQ_1, xgQ_2, xgQ_3, xgQ_4, xgP_0, xgP_1, xgP_2, xgP_3, xgP_4, xgP_5, xgP_6, xgP_7, xgY_0, xiS, xiQ, xiY, xiP, xiA, c152, c155, c45, toJ, xgA_5, hR.qr hq, hR.qw hq, h5, z02, z12, z10, z00, zm1, yc_155, Int32.reduceLT, nI0, nI1, nI2, Int32.reduceToInt, Int.reduceEq]
        | 1, _ => simp (disch := first | omega | assumption | exact xpi_lt) only [↓zbE, zbd_some, ↓xk_I, ↓xk_v, zB_0, zB_1, ite_not, ↓reduceIte, zS, zSa_0, zSa_1, zSa_2, zSa_3, zSa_4, zSa_5, zSa_6, zSa_7, zSa_8, zSa_9, zPa_0, zPa_1, zPa_2, zPa_3, zPa_4, xgS_0, xgS_1, xgS_2, xgS_3, xgS_4, xgS_5, xgS_6, xgS_7, xgS_8, xgS_9, xgS_10, xgS_11, xgQ_0, xgQ_1, xgQ_2, xgQ_3, xgQ_4, xgP_0, xgP_1, xgP_2, xgP_3, xgP_4, xgP_5, xgP_6, xgP_7, xgY_0, xiS, xiQ, xiY, xiP, xiA, c152, c155, c45, toJ, xgA_5, hR.qr hq, hR.qw hq, h5, z02, z12, z10, z00, zm1, yc_155, Int32.reduceLT, nI0, nI1, nI2, Int32.reduceToInt, Int.reduceEq]
        | 2, _ =>
          by_cases g : sp_hf r n (r (177 + 3 * q))
          · simp (disch := first | omega | assumption | exact xpi_lt) only [↓zbE, zbd_some, ↓xk_I, ↓xk_v, zB_0, zB_1, ite_not, ↓reduceIte, zS, zSa_0, zSa_1, zSa_2, zSa_3, zSa_4, zSa_5, zSa_6, zSa_7, zSa_8, zSa_9, zPa_0, zPa_1, zPa_2, zPa_3, zPa_4, xgS_0, xgS_1, xgS_2, xgS_3, xgS_4, xgS_5, xgS_6, xgS_7, xgS_8, xgS_9, xgS_10, xgS_11, xgQ_0, xgQ_1, xgQ_2, xgQ_3, xgQ_4, xgP_0, xgP_1, xgP_2, xgP_3, xgP_4, xgP_5, xgP_6, xgP_7, xgY_0, xiS, xiQ, xiY, xiP, c64, eq_true g, zBT, xiA, c152, c155, c45, toJ, xgA_5, hR.qr hq, hR.qw hq, h5, z02, z12, z10, z00, zm1, yc_155, Int32.reduceLT, nI0, nI1, nI2, Int32.reduceToInt, Int.reduceEq]
          · simp (disch := first | omega | assumption | exact xpi_lt) only [↓zbE, zbd_some, ↓xk_I, ↓xk_v, zB_0, zB_1, ite_not, ↓reduceIte, zS, zSa_0, zSa_1, zSa_2, zSa_3, zSa_4, zSa_5, zSa_6, zSa_7, zSa_8, zSa_9, zPa_0, zPa_1, zPa_2, zPa_3, zPa_4, xgS_0, xgS_1, xgS_2, xgS_3, xgS_4, xgS_5, xgS_6, xgS_7, xgS_8, xgS_9, xgS_10, xgS_11, xgQ_0, xgQ_1, xgQ_2, xgQ_3, xgQ_4, xgP_0, xgP_1, xgP_2, xgP_3, xgP_4, xgP_5, xgP_6, xgP_7, xgY_0, xiS, xiQ, xiY, xiP, c64, eq_false g, zBF, xiA, c152, c155, c45, toJ, xgA_5, hR.qr hq, hR.qw hq, h5, z02, z12, z10, z00, zm1, yc_155, Int32.reduceLT, nI0, nI1, nI2, Int32.reduceToInt, Int.reduceEq]
        | _ + 3, h => omega
    · rw [if_neg (c := (0 ≤ nI n ∧ nI n ≤ r 2 - 1) ∧ 0 ≤ x ∧ x ≤ 2) (fun z => hx z.2)]
      refine kAn_x ?_
      have c155 := @kx_155 w l t sc (d + 2) x 3 (by
        by_cases g : x < 0
        · exact Or.inl g
        · exact Or.inr (fun z => hx ⟨Int32.not_lt.mp g, (k_lt_le (m := 2) (by omega)).mp z⟩))
      simp (disch := first | omega | assumption | exact xpi_lt) only [↓zbE, zbd_some, ↓xk_I, ↓xk_v, zB_0, zB_1, ite_not, ↓reduceIte, zS, zSa_0, zSa_1, zSa_2, zSa_3, zSa_4, zSa_5, zSa_6, zSa_7, zSa_8, zSa_9, zPa_0, zPa_1, zPa_2, zPa_3, zPa_4, xgS_0, xgS_1, xgS_2, xgS_3, xgS_4, xgS_5, xgS_6, xgS_7, xgS_8, xgS_9, xgS_10, xgS_11, xgQ_0, xgQ_1, xgQ_2, xgQ_3, xgQ_4, xgP_0, xgP_1, xgP_2, xgP_3, xgP_4, xgP_5, xgP_6, xgP_7, xgY_0, xiS, xiQ, xiY, xiP, xiA, c152, c155, ↓xk_vx]
  · rw [if_neg (c := (0 ≤ a ∧ a ≤ r 2 - 1) ∧ 0 ≤ x ∧ x ≤ 2) (fun z => ha z.1)]
    refine kAn_x ?_
    have c152 := @kx_152 w l t sc (d + 2) r a hR ha
    simp (disch := first | omega | assumption | exact xpi_lt) only [↓zbE, zbd_some, ↓xk_I, ↓xk_v, zB_0, zB_1, ite_not, ↓reduceIte, zS, zSa_0, zSa_1, zSa_2, zSa_3, zSa_4, zSa_5, zSa_6, zSa_7, zSa_8, zSa_9, zPa_0, zPa_1, zPa_2, zPa_3, zPa_4, xgS_0, xgS_1, xgS_2, xgS_3, xgS_4, xgS_5, xgS_6, xgS_7, xgS_8, xgS_9, xgS_10, xgS_11, xgQ_0, xgQ_1, xgQ_2, xgQ_3, xgQ_4, xgP_0, xgP_1, xgP_2, xgP_3, xgP_4, xgP_5, xgP_6, xgP_7, xgY_0, xiS, xiQ, xiY, xiP, xiA, c152, ↓xk_vx]
end PUB2
