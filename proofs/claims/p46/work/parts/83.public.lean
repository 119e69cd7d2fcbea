/-! THE CLASS's public methods (1): what a call needs; plain questions -/
/-- a question to the class: told, or thrown (e: what) -/
def kAn (o : Option xm_O) (w : xW) (l : Nat → Nat → Int64) (t : Nat) (e : Nat) (s : Int32 × Int32) : Prop := (s.1 = 0 ∧ o = some (.inl (some (.int s.2)), xem w l t)) ∨ (¬ s.1 = 0 ∧ o = some (.inr e, xem w l (t + 1)))
theorem kAn_o {o : Option xm_O} {w : xW} {l : Nat → Nat → Int64} {t e : Nat} {v : Int32} (h : o = some (.inl (some (.int v)), xem w l t)) : kAn o w l t e (0, v) := Or.inl ⟨rfl, h⟩
theorem kAn_x {o : Option xm_O} {w : xW} {l : Nat → Nat → Int64} {t e : Nat} {v : Int32} (h : o = some (.inr e, xem w l (t + 1))) : kAn o w l t e (1, v) := Or.inr ⟨show ¬ (1 : Int32) = 0 by decide, h⟩
theorem ksum_mask {p : Nat → Prop} [DecidablePred p] {x : Int32} {n : Nat} (hn : n ≤ 24) (h : ∀ i, i < 32 → bt x i = decide (i < n ∧ p i)) : xsum (fun i => zB (bt x i = true)) 24 = xsum (fun i => zB (p i)) n := by
  have e : ∀ m, n + m ≤ 24 → xsum (fun i => zB (bt x i = true)) (n + m) = xsum (fun i => zB (p i)) n := by
    intro m
    induction m with
    | zero =>
      intro _
      refine xsum_cg (fun i hi => ?_)
      have := h i (by omega)
      by_cases g : p i
      · rw [zB_tt g, zB_tt (by rw [this]; exact decide_eq_true ⟨hi, g⟩)]
      · rw [zB_ff g, zB_ff (by rw [this]; exact fun z => g (of_decide_eq_true z).2)]
    | succ m ih =>
      intro hm
      show xsum (fun i => zB (bt x i = true)) (n + m) + zB (bt x (n + m) = true) = _
      rw [ih (by omega), zB_ff (by rw [h (n + m) (by omega)]; exact fun z => absurd (of_decide_eq_true z).1 (by omega)), Int32.add_zero]
  have := e (24 - n) (by omega)
  rw [show n + (24 - n) = 24 by omega] at this
  exact this
section PUB
variable {w : xW} {l : Nat → Nat → Int64} {t : Nat} {sc : xm_Sc} {d : Nat} {r : Nat → Int32}
theorem k_thr {e : Nat} : (if (xem w l t).1 = false ∧ ([] : xm_Hx) = [] ∧ ([] : List Value) = [] then (some (.inr e, ((xem w l t).1, (xem w l t).2.1 + 1, (xem w l t).2.2)) : Option xm_O) else none) = some (.inr e, xem w l (t + 1)) := if_pos ⟨rfl, rfl, rfl⟩
theorem kn_152 {n : Nat} (hR : kRel w 0 r) (h : n < xnk r) : xm_C sc xt_M (d + 1) 152 [.ref 0, .int (nI n)] (xem w l t) = some (.inl none, xem w l t) := by
  have hB := hR.W.bd
  have hk20 := hB.k20
  have hq40 := hB.q40
  have hv4 := hB.v4
  have hb6 := hB.b6
  have h1 := nI_lt h (by omega)
  rw [yc_152, if_neg (nI_pos (by omega))]
  simp (disch := first | omega | assumption | exact xpi_lt) only [↓zbE, zbd_some, ↓xk_I, ↓xk_v, zB_0, zB_1, ite_not, ↓reduceIte, zS, zSa_0, zSa_1, zSa_2, zSa_3, zSa_4, zSa_5, zSa_6, zSa_7, zSa_8, zSa_9, zPa_0, zPa_1, zPa_2, zPa_3, zPa_4, xgS_0, xgS_1, xgS_2, xgS_3, xgS_4, xgS_5, xgS_6, xgS_7, xgS_8, xgS_9, xgS_10, xgS_11, xgQ_0, xgQ_1, xgQ_2, xgQ_3, xgQ_4, xgP_0, xgP_1, xgP_2, xgP_3, xgP_4, xgP_5, xgP_6, xgP_7, xgY_0, xiS, xiQ, xiY, xiP, xgA_5, hR.pk, eq_true h1]
theorem kx_152 {a : Int32} (hR : kRel w 0 r) (h : ¬ (0 ≤ a ∧ a ≤ r 2 - 1)) : xm_C sc xt_M (d + 1) 152 [.ref 0, .int a] (xem w l t) = some (.inr 0, xem w l (t + 1)) := by
  have hB := hR.W.bd
  have hk20 := hB.k20
  have hq40 := hB.q40
  have hv4 := hB.v4
  have hb6 := hB.b6
  rw [yc_152]
  by_cases h0 : a < 0
  · rw [if_pos h0, yb_152_18]
    exact k_thr
  · rw [if_neg h0]
    obtain ⟨n, hn, rfl⟩ := nI_of h0
    have h1 : ¬ nI n < nI (xnk r) := fun z => h (by
      rw [hR.W.bd.k]
      exact zrg' (by omega) ((nI_ltI hn (by omega)).mp z))
    simp (disch := first | omega | assumption | exact xpi_lt) only [↓zbE, zbd_some, ↓xk_I, ↓xk_v, zB_0, zB_1, ite_not, ↓reduceIte, zS, zSa_0, zSa_1, zSa_2, zSa_3, zSa_4, zSa_5, zSa_6, zSa_7, zSa_8, zSa_9, zPa_0, zPa_1, zPa_2, zPa_3, zPa_4, xgS_0, xgS_1, xgS_2, xgS_3, xgS_4, xgS_5, xgS_6, xgS_7, xgS_8, xgS_9, xgS_10, xgS_11, xgQ_0, xgQ_1, xgQ_2, xgQ_3, xgQ_4, xgP_0, xgP_1, xgP_2, xgP_3, xgP_4, xgP_5, xgP_6, xgP_7, xgY_0, xiS, xiQ, xiY, xiP, xgA_5, hR.pk, eq_false h1, yb_152_18]
    exact k_thr
theorem kn_153 {n : Nat} (hR : kRel w 0 r) (h : n < xnv r) : xm_C sc xt_M (d + 1) 153 [.ref 0, .int (nI n)] (xem w l t) = some (.inl none, xem w l t) := by
  have hB := hR.W.bd
  have hk20 := hB.k20
  have hq40 := hB.q40
  have hv4 := hB.v4
  have hb6 := hB.b6
  have h1 := nI_lt h (by omega)
  rw [yc_153, if_neg (nI_pos (by omega))]
  simp (disch := first | omega | assumption | exact xpi_lt) only [↓zbE, zbd_some, ↓xk_I, ↓xk_v, zB_0, zB_1, ite_not, ↓reduceIte, zS, zSa_0, zSa_1, zSa_2, zSa_3, zSa_4, zSa_5, zSa_6, zSa_7, zSa_8, zSa_9, zPa_0, zPa_1, zPa_2, zPa_3, zPa_4, xgS_0, xgS_1, xgS_2, xgS_3, xgS_4, xgS_5, xgS_6, xgS_7, xgS_8, xgS_9, xgS_10, xgS_11, xgQ_0, xgQ_1, xgQ_2, xgQ_3, xgQ_4, xgP_0, xgP_1, xgP_2, xgP_3, xgP_4, xgP_5, xgP_6, xgP_7, xgY_0, xiS, xiQ, xiY, xiP, xgA_5, hR.pv, eq_true h1]
theorem kx_153 {a : Int32} (hR : kRel w 0 r) (h : ¬ (0 ≤ a ∧ a ≤ r 1 - 1)) : xm_C sc xt_M (d + 1) 153 [.ref 0, .int a] (xem w l t) = some (.inr 0, xem w l (t + 1)) := by
  have hB := hR.W.bd
  have hk20 := hB.k20
  have hq40 := hB.q40
  have hv4 := hB.v4
  have hb6 := hB.b6
  rw [yc_153]
  by_cases h0 : a < 0
  · rw [if_pos h0, yb_153_18]
    exact k_thr
  · rw [if_neg h0]
    obtain ⟨n, hn, rfl⟩ := nI_of h0
    have h1 : ¬ nI n < nI (xnv r) := fun z => h (by
      rw [hR.W.bd.v]
      exact zrg' (by omega) ((nI_ltI hn (by omega)).mp z))
    simp (disch := first | omega | assumption | exact xpi_lt) only [↓zbE, zbd_some, ↓xk_I, ↓xk_v, zB_0, zB_1, ite_not, ↓reduceIte, zS, zSa_0, zSa_1, zSa_2, zSa_3, zSa_4, zSa_5, zSa_6, zSa_7, zSa_8, zSa_9, zPa_0, zPa_1, zPa_2, zPa_3, zPa_4, xgS_0, xgS_1, xgS_2, xgS_3, xgS_4, xgS_5, xgS_6, xgS_7, xgS_8, xgS_9, xgS_10, xgS_11, xgQ_0, xgQ_1, xgQ_2, xgQ_3, xgQ_4, xgP_0, xgP_1, xgP_2, xgP_3, xgP_4, xgP_5, xgP_6, xgP_7, xgY_0, xiS, xiQ, xiY, xiP, xgA_5, hR.pv, eq_false h1, yb_153_18]
    exact k_thr
theorem kn_154 {n : Nat} (hR : kRel w 0 r) (h : n < xnb r) : xm_C sc xt_M (d + 1) 154 [.ref 0, .int (nI n)] (xem w l t) = some (.inl none, xem w l t) := by
  have hB := hR.W.bd
  have hk20 := hB.k20
  have hq40 := hB.q40
  have hv4 := hB.v4
  have hb6 := hB.b6
  have h1 := nI_lt h (by omega)
  rw [yc_154, if_neg (nI_pos (by omega))]
  simp (disch := first | omega | assumption | exact xpi_lt) only [↓zbE, zbd_some, ↓xk_I, ↓xk_v, zB_0, zB_1, ite_not, ↓reduceIte, zS, zSa_0, zSa_1, zSa_2, zSa_3, zSa_4, zSa_5, zSa_6, zSa_7, zSa_8, zSa_9, zPa_0, zPa_1, zPa_2, zPa_3, zPa_4, xgS_0, xgS_1, xgS_2, xgS_3, xgS_4, xgS_5, xgS_6, xgS_7, xgS_8, xgS_9, xgS_10, xgS_11, xgQ_0, xgQ_1, xgQ_2, xgQ_3, xgQ_4, xgP_0, xgP_1, xgP_2, xgP_3, xgP_4, xgP_5, xgP_6, xgP_7, xgY_0, xiS, xiQ, xiY, xiP, xgA_5, hR.pb, eq_true h1]
theorem kx_154 {a : Int32} (hR : kRel w 0 r) (h : ¬ (0 ≤ a ∧ a ≤ r 0 - 1)) : xm_C sc xt_M (d + 1) 154 [.ref 0, .int a] (xem w l t) = some (.inr 0, xem w l (t + 1)) := by
  have hB := hR.W.bd
  have hk20 := hB.k20
  have hq40 := hB.q40
  have hv4 := hB.v4
  have hb6 := hB.b6
  rw [yc_154]
  by_cases h0 : a < 0
  · rw [if_pos h0, yb_154_18]
    exact k_thr
  · rw [if_neg h0]
    obtain ⟨n, hn, rfl⟩ := nI_of h0
    have h1 : ¬ nI n < nI (xnb r) := fun z => h (by
      rw [hR.W.bd.b]
      exact zrg' (by omega) ((nI_ltI hn (by omega)).mp z))
    simp (disch := first | omega | assumption | exact xpi_lt) only [↓zbE, zbd_some, ↓xk_I, ↓xk_v, zB_0, zB_1, ite_not, ↓reduceIte, zS, zSa_0, zSa_1, zSa_2, zSa_3, zSa_4, zSa_5, zSa_6, zSa_7, zSa_8, zSa_9, zPa_0, zPa_1, zPa_2, zPa_3, zPa_4, xgS_0, xgS_1, xgS_2, xgS_3, xgS_4, xgS_5, xgS_6, xgS_7, xgS_8, xgS_9, xgS_10, xgS_11, xgQ_0, xgQ_1, xgQ_2, xgQ_3, xgQ_4, xgP_0, xgP_1, xgP_2, xgP_3, xgP_4, xgP_5, xgP_6, xgP_7, xgY_0, xiS, xiQ, xiY, xiP, xgA_5, hR.pb, eq_false h1, yb_154_18]
    exact k_thr
theorem kn_155 {x m : Int32} (h0 : ¬ x < 0) (h : x < m) : xm_C sc xt_M (d + 1) 155 [.int x, .int m] (xem w l t) = some (.inl none, xem w l t) := by
  rw [yc_155, if_neg h0, if_pos h]
theorem kx_155 {x m : Int32} (h : x < 0 ∨ ¬ x < m) : xm_C sc xt_M (d + 1) 155 [.int x, .int m] (xem w l t) = some (.inr 0, xem w l (t + 1)) := by
  rw [yc_155]
  by_cases h0 : x < 0
  · rw [if_pos h0, yb_155_9]
    exact k_thr
  · rw [if_neg h0, if_neg (h.resolve_left h0), yb_155_9]
    exact k_thr
theorem kn_156 {x a b : Int32} (h0 : ¬ x < a) (h : x ≤ b) : xm_C sc xt_M (d + 1) 156 [.int x, .int a, .int b] (xem w l t) = some (.inl none, xem w l t) := by
  rw [yc_156, if_neg h0, if_pos h]
theorem kx_156 {x a b : Int32} (h : ¬ (a ≤ x ∧ x ≤ b)) : xm_C sc xt_M (d + 1) 156 [.int x, .int a, .int b] (xem w l t) = some (.inr 1, xem w l (t + 1)) := by
  rw [yc_156]
  by_cases h0 : x < a
  · rw [if_pos h0, yb_156_10]
    exact k_thr
  · rw [if_neg h0, if_neg (fun z => h ⟨Int32.not_lt.mp h0, z⟩), yb_156_10]
    exact k_thr
theorem kc_61 {m : Int32} {n : Nat} {p : Nat → Prop} [DecidablePred p] (hk : 0 < 13) (hn : n ≤ 24) (h : ∀ i, i < 32 → bt (m &&& (w (0 + 5)).1 3) i = decide (i < n ∧ p i)) : xm_C sc xt_M (d + 2) 61 [.ref (xh 0), .int m] (xem w l t) = some (.inl (some (.int (xsum (fun i => zB (p i)) n))), xem w l t) := by
  have e := @kc_192 sc d (m &&& (w (0 + 5)).1 3) (xem w l t) (fun i h1 h2 => by
    rw [h i h2]
    exact decide_eq_false (fun z => absurd z.1 (by omega)))
  rw [ksum_mask hn h] at e
  rw [yc_61]
  simp (disch := first | omega | assumption | exact xpi_lt) only [↓zbE, zbd_some, ↓xk_I, ↓xk_v, zB_0, zB_1, ite_not, ↓reduceIte, zS, zSa_0, zSa_1, zSa_2, zSa_3, zSa_4, zSa_5, zSa_6, zSa_7, zSa_8, zSa_9, zPa_0, zPa_1, zPa_2, zPa_3, zPa_4, xgS_0, xgS_1, xgS_2, xgS_3, xgS_4, xgS_5, xgS_6, xgS_7, xgS_8, xgS_9, xgS_10, xgS_11, xgQ_0, xgQ_1, xgQ_2, xgQ_3, xgQ_4, xgP_0, xgP_1, xgP_2, xgP_3, xgP_4, xgP_5, xgP_6, xgP_7, xgY_0, xiS, xiQ, xiY, xiP, e]
theorem kc_61o (hR : kRel w 0 r) : xm_C sc xt_M (d + 2) 61 [.ref (xh 0), .int ((w (0 + 5)).1 3)] (xem w l t) = some (.inl (some (.int (sp_openN r))), xem w l t) := by
  have hB := hR.W.bd
  have hk20 := hB.k20
  have hq40 := hB.q40
  have hv4 := hB.v4
  have hb6 := hB.b6
  have e := @kc_61 w l t sc d ((w (0 + 5)).1 3) (xnb r) (fun i => r (6 + i) = 1) _ (by omega) (by omega) (fun i hi => by
    rw [b_and, hR.s1.2.2.1 i hi]
    cases decide (i < xnb r ∧ r (6 + i) = 1) <;> rfl)
  have : sp_openN r = xsum (fun i => zB (r (6 + i) = 1)) (xnb r) := xsum_cg (fun b hb => by
    rcases hR.W.o b (by omega) with h | h <;> rw [h] <;> rfl)
  rw [this]
  exact e
theorem kc_61v {v : Nat} (hR : kRel w 0 r) (hv : v < xnv r) : xm_C sc xt_M (d + 2) 61 [.ref (xh 0), .int ((w (xpi (w (0 + 5)) + 1)).2 2 v)] (xem w l t) = some (.inl (some (.int (sp_openOn r v))), xem w l t) := by
  have hB := hR.W.bd
  have hk20 := hB.k20
  have hq40 := hB.q40
  have hv4 := hB.v4
  have hb6 := hB.b6
  exact @kc_61 w l t sc d ((w (xpi (w (0 + 5)) + 1)).2 2 v) (xnb r) (fun i => r (6 + i) = 1 ∧ sp_has r v (nI i) = true) _ (by omega) (by omega) (fun i hi => by
    rw [b_and, hR.s1.2.2.1 i hi, (hR.P.2.1 v hv).2.2.1 i hi]
    by_cases h1 : i < xnb r
    · by_cases h2 : r (6 + i) = 1
      · cases h3 : sp_has r v (nI i) with
        | true => simp [h1, h2, h3, show i < 6 by omega]
        | false => simp [h1, h2, h3]
      · simp [h1, h2]
    · simp [h1])
theorem kc_192r (hR : kRel w 0 r) : xm_C sc xt_M (d + 1) 192 [.int ((w (0 + 5)).1 4)] (xem w l t) = some (.inl (some (.int (sp_recN r))), xem w l t) := by
  have hB := hR.W.bd
  have hk20 := hB.k20
  have hq40 := hB.q40
  have hv4 := hB.v4
  have hb6 := hB.b6
  have e := @kc_192 sc d ((w (0 + 5)).1 4) (xem w l t) (fun i h1 h2 => by
    rw [hR.s1.2.2.2.1 i h2]
    exact decide_eq_false (fun z => absurd z.1 (by omega)))
  rw [ksum_mask (n := xnk r) (p := fun i => r (59 + 6 * i) = 1) (by omega) (fun i hi => hR.s1.2.2.2.1 i hi)] at e
  have : sp_recN r = xsum (fun i => zB (r (59 + 6 * i) = 1)) (xnk r) := xsum_cg (fun b hb => by
    rcases (hR.W.k b hb).2.2.1 with h | h <;> rw [h] <;> rfl)
  rw [this]
  exact e
theorem kd_111 {x : Int32} (hR : kRel w 0 r) : kAn (xm_C sc xt_M (d + 4) 111 [.ref 0, .int x] (xem w l t)) w l t 0 (sp_size r x) := by
  have hB := hR.W.bd
  have hk20 := hB.k20
  have hq40 := hB.q40
  have hv4 := hB.v4
  have hb6 := hB.b6
  have p0 := hR.P.1.1
  have p1 := hR.P.1.2.1
  have p2 := hR.P.1.2.2
  have p3 := hR.s1.2.2.2.2
  have hopn := @kc_61o w l t sc (d + 1) r hR
  have hrec := @kc_192r w l t sc (d + 2) r hR
  rw [yc_111]
  unfold sp_size
  by_cases h0 : x.toInt = 0
  · simp only [h0, ↓reduceIte, Int.reduceEq]
    obtain rfl : x = 0 := zti h0
    refine kAn_o ?_
    simp (disch := first | omega | assumption | exact xpi_lt) only [↓zbE, zbd_some, ↓xk_I, ↓xk_v, zB_0, zB_1, ite_not, ↓reduceIte, zS, zSa_0, zSa_1, zSa_2, zSa_3, zSa_4, zSa_5, zSa_6, zSa_7, zSa_8, zSa_9, zPa_0, zPa_1, zPa_2, zPa_3, zPa_4, xgS_0, xgS_1, xgS_2, xgS_3, xgS_4, xgS_5, xgS_6, xgS_7, xgS_8, xgS_9, xgS_10, xgS_11, xgQ_0, xgQ_1, xgQ_2, xgQ_3, xgQ_4, xgP_0, xgP_1, xgP_2, xgP_3, xgP_4, xgP_5, xgP_6, xgP_7, xgY_0, xiS, xiQ, xiY, xiP, Int32.reduceToInt, Int.reduceEq, Int32.reduceLT, Int32.reduceLE, yc_155, if_false, not_false_eq_true, xgA_5, xiA, p0, p1, p2, p3, hopn, hrec, hR.time, hR.hold]
    
  by_cases h1 : x.toInt = 1
  · simp only [h1, ↓reduceIte, Int.reduceEq]
    obtain rfl : x = 1 := zti h1
    refine kAn_o ?_
    simp (disch := first | omega | assumption | exact xpi_lt) only [↓zbE, zbd_some, ↓xk_I, ↓xk_v, zB_0, zB_1, ite_not, ↓reduceIte, zS, zSa_0, zSa_1, zSa_2, zSa_3, zSa_4, zSa_5, zSa_6, zSa_7, zSa_8, zSa_9, zPa_0, zPa_1, zPa_2, zPa_3, zPa_4, xgS_0, xgS_1, xgS_2, xgS_3, xgS_4, xgS_5, xgS_6, xgS_7, xgS_8, xgS_9, xgS_10, xgS_11, xgQ_0, xgQ_1, xgQ_2, xgQ_3, xgQ_4, xgP_0, xgP_1, xgP_2, xgP_3, xgP_4, xgP_5, xgP_6, xgP_7, xgY_0, xiS, xiQ, xiY, xiP, Int32.reduceToInt, Int.reduceEq, Int32.reduceLT, Int32.reduceLE, yc_155, if_false, not_false_eq_true, xgA_5, xiA, p0, p1, p2, p3, hopn, hrec, hR.time, hR.hold]
    
  by_cases h2 : x.toInt = 2
  · simp only [h2, ↓reduceIte, Int.reduceEq]
    obtain rfl : x = 2 := zti h2
    refine kAn_o ?_
    simp (disch := first | omega | assumption | exact xpi_lt) only [↓zbE, zbd_some, ↓xk_I, ↓xk_v, zB_0, zB_1, ite_not, ↓reduceIte, zS, zSa_0, zSa_1, zSa_2, zSa_3, zSa_4, zSa_5, zSa_6, zSa_7, zSa_8, zSa_9, zPa_0, zPa_1, zPa_2, zPa_3, zPa_4, xgS_0, xgS_1, xgS_2, xgS_3, xgS_4, xgS_5, xgS_6, xgS_7, xgS_8, xgS_9, xgS_10, xgS_11, xgQ_0, xgQ_1, xgQ_2, xgQ_3, xgQ_4, xgP_0, xgP_1, xgP_2, xgP_3, xgP_4, xgP_5, xgP_6, xgP_7, xgY_0, xiS, xiQ, xiY, xiP, Int32.reduceToInt, Int.reduceEq, Int32.reduceLT, Int32.reduceLE, yc_155, if_false, not_false_eq_true, xgA_5, xiA, p0, p1, p2, p3, hopn, hrec, hR.time, hR.hold]
    
  by_cases h3 : x.toInt = 3
  · simp only [h3, ↓reduceIte, Int.reduceEq]
    obtain rfl : x = 3 := zti h3
    refine kAn_o ?_
    simp (disch := first | omega | assumption | exact xpi_lt) only [↓zbE, zbd_some, ↓xk_I, ↓xk_v, zB_0, zB_1, ite_not, ↓reduceIte, zS, zSa_0, zSa_1, zSa_2, zSa_3, zSa_4, zSa_5, zSa_6, zSa_7, zSa_8, zSa_9, zPa_0, zPa_1, zPa_2, zPa_3, zPa_4, xgS_0, xgS_1, xgS_2, xgS_3, xgS_4, xgS_5, xgS_6, xgS_7, xgS_8, xgS_9, xgS_10, xgS_11, xgQ_0, xgQ_1, xgQ_2, xgQ_3, xgQ_4, xgP_0, xgP_1, xgP_2, xgP_3, xgP_4, xgP_5, xgP_6, xgP_7, xgY_0, xiS, xiQ, xiY, xiP, Int32.reduceToInt, Int.reduceEq, Int32.reduceLT, Int32.reduceLE, yc_155, if_false, not_false_eq_true, xgA_5, xiA, p0, p1, p2, p3, hopn, hrec, hR.time, hR.hold]
    
  by_cases h4 : x.toInt = 4
  · simp only [h4, ↓reduceIte, Int.reduceEq]
    obtain rfl : x = 4 := zti h4
    refine kAn_o ?_
    simp (disch := first | omega | assumption | exact xpi_lt) only [↓zbE, zbd_some, ↓xk_I, ↓xk_v, zB_0, zB_1, ite_not, ↓reduceIte, zS, zSa_0, zSa_1, zSa_2, zSa_3, zSa_4, zSa_5, zSa_6, zSa_7, zSa_8, zSa_9, zPa_0, zPa_1, zPa_2, zPa_3, zPa_4, xgS_0, xgS_1, xgS_2, xgS_3, xgS_4, xgS_5, xgS_6, xgS_7, xgS_8, xgS_9, xgS_10, xgS_11, xgQ_0, xgQ_1, xgQ_2, xgQ_3, xgQ_4, xgP_0, xgP_1, xgP_2, xgP_3, xgP_4, xgP_5, xgP_6, xgP_7, xgY_0, xiS, xiQ, xiY, xiP, Int32.reduceToInt, Int.reduceEq, Int32.reduceLT, Int32.reduceLE, yc_155, if_false, not_false_eq_true, xgA_5, xiA, p0, p1, p2, p3, hopn, hrec, hR.time, hR.hold]
    
  by_cases h5 : x.toInt = 5
  · simp only [h5, ↓reduceIte, Int.reduceEq]
    obtain rfl : x = 5 := zti h5
    refine kAn_o ?_
    simp (disch := first | omega | assumption | exact xpi_lt) only [↓zbE, zbd_some, ↓xk_I, ↓xk_v, zB_0, zB_1, ite_not, ↓reduceIte, zS, zSa_0, zSa_1, zSa_2, zSa_3, zSa_4, zSa_5, zSa_6, zSa_7, zSa_8, zSa_9, zPa_0, zPa_1, zPa_2, zPa_3, zPa_4, xgS_0, xgS_1, xgS_2, xgS_3, xgS_4, xgS_5, xgS_6, xgS_7, xgS_8, xgS_9, xgS_10, xgS_11, xgQ_0, xgQ_1, xgQ_2, xgQ_3, xgQ_4, xgP_0, xgP_1, xgP_2, xgP_3, xgP_4, xgP_5, xgP_6, xgP_7, xgY_0, xiS, xiQ, xiY, xiP, Int32.reduceToInt, Int.reduceEq, Int32.reduceLT, Int32.reduceLE, yc_155, if_false, not_false_eq_true, xgA_5, xiA, p0, p1, p2, p3, hopn, hrec, hR.time, hR.hold]
    
  by_cases h6 : x.toInt = 6
  · simp only [h6, ↓reduceIte, Int.reduceEq]
    obtain rfl : x = 6 := zti h6
    refine kAn_o ?_
    simp (disch := first | omega | assumption | exact xpi_lt) only [↓zbE, zbd_some, ↓xk_I, ↓xk_v, zB_0, zB_1, ite_not, ↓reduceIte, zS, zSa_0, zSa_1, zSa_2, zSa_3, zSa_4, zSa_5, zSa_6, zSa_7, zSa_8, zSa_9, zPa_0, zPa_1, zPa_2, zPa_3, zPa_4, xgS_0, xgS_1, xgS_2, xgS_3, xgS_4, xgS_5, xgS_6, xgS_7, xgS_8, xgS_9, xgS_10, xgS_11, xgQ_0, xgQ_1, xgQ_2, xgQ_3, xgQ_4, xgP_0, xgP_1, xgP_2, xgP_3, xgP_4, xgP_5, xgP_6, xgP_7, xgY_0, xiS, xiQ, xiY, xiP, Int32.reduceToInt, Int.reduceEq, Int32.reduceLT, Int32.reduceLE, yc_155, if_false, not_false_eq_true, xgA_5, xiA, p0, p1, p2, p3, hopn, hrec, hR.time, hR.hold]
    
  by_cases h7 : x.toInt = 7
  · simp only [h7, ↓reduceIte, Int.reduceEq]
    obtain rfl : x = 7 := zti h7
    refine kAn_o ?_
    simp (disch := first | omega | assumption | exact xpi_lt) only [↓zbE, zbd_some, ↓xk_I, ↓xk_v, zB_0, zB_1, ite_not, ↓reduceIte, zS, zSa_0, zSa_1, zSa_2, zSa_3, zSa_4, zSa_5, zSa_6, zSa_7, zSa_8, zSa_9, zPa_0, zPa_1, zPa_2, zPa_3, zPa_4, xgS_0, xgS_1, xgS_2, xgS_3, xgS_4, xgS_5, xgS_6, xgS_7, xgS_8, xgS_9, xgS_10, xgS_11, xgQ_0, xgQ_1, xgQ_2, xgQ_3, xgQ_4, xgP_0, xgP_1, xgP_2, xgP_3, xgP_4, xgP_5, xgP_6, xgP_7, xgY_0, xiS, xiQ, xiY, xiP, Int32.reduceToInt, Int.reduceEq, Int32.reduceLT, Int32.reduceLE, yc_155, if_false, not_false_eq_true, xgA_5, xiA, p0, p1, p2, p3, hopn, hrec, hR.time, hR.hold, yb_111_158, show ((7 : Int32) - 7) = 0 from rfl, kc_72 (by omega) hR]
    
  by_cases h8 : x.toInt = 8
  · simp only [h8, ↓reduceIte, Int.reduceEq]
    obtain rfl : x = 8 := zti h8
    refine kAn_o ?_
    simp (disch := first | omega | assumption | exact xpi_lt) only [↓zbE, zbd_some, ↓xk_I, ↓xk_v, zB_0, zB_1, ite_not, ↓reduceIte, zS, zSa_0, zSa_1, zSa_2, zSa_3, zSa_4, zSa_5, zSa_6, zSa_7, zSa_8, zSa_9, zPa_0, zPa_1, zPa_2, zPa_3, zPa_4, xgS_0, xgS_1, xgS_2, xgS_3, xgS_4, xgS_5, xgS_6, xgS_7, xgS_8, xgS_9, xgS_10, xgS_11, xgQ_0, xgQ_1, xgQ_2, xgQ_3, xgQ_4, xgP_0, xgP_1, xgP_2, xgP_3, xgP_4, xgP_5, xgP_6, xgP_7, xgY_0, xiS, xiQ, xiY, xiP, Int32.reduceToInt, Int.reduceEq, Int32.reduceLT, Int32.reduceLE, yc_155, if_false, not_false_eq_true, xgA_5, xiA, p0, p1, p2, p3, hopn, hrec, hR.time, hR.hold, yb_111_158, show ((8 : Int32) - 7) = 1 from rfl, kc_72 (by omega) hR]
    
  by_cases h9 : x.toInt = 9
  · simp only [h9, ↓reduceIte, Int.reduceEq]
    obtain rfl : x = 9 := zti h9
    refine kAn_o ?_
    simp (disch := first | omega | assumption | exact xpi_lt) only [↓zbE, zbd_some, ↓xk_I, ↓xk_v, zB_0, zB_1, ite_not, ↓reduceIte, zS, zSa_0, zSa_1, zSa_2, zSa_3, zSa_4, zSa_5, zSa_6, zSa_7, zSa_8, zSa_9, zPa_0, zPa_1, zPa_2, zPa_3, zPa_4, xgS_0, xgS_1, xgS_2, xgS_3, xgS_4, xgS_5, xgS_6, xgS_7, xgS_8, xgS_9, xgS_10, xgS_11, xgQ_0, xgQ_1, xgQ_2, xgQ_3, xgQ_4, xgP_0, xgP_1, xgP_2, xgP_3, xgP_4, xgP_5, xgP_6, xgP_7, xgY_0, xiS, xiQ, xiY, xiP, Int32.reduceToInt, Int.reduceEq, Int32.reduceLT, Int32.reduceLE, yc_155, if_false, not_false_eq_true, xgA_5, xiA, p0, p1, p2, p3, hopn, hrec, hR.time, hR.hold, yb_111_158, show ((9 : Int32) - 7) = 2 from rfl, kc_72 (by omega) hR]
    
  by_cases h10 : x.toInt = 10
  · simp only [h10, ↓reduceIte, Int.reduceEq]
    obtain rfl : x = 10 := zti h10
    refine kAn_o ?_
    simp (disch := first | omega | assumption | exact xpi_lt) only [↓zbE, zbd_some, ↓xk_I, ↓xk_v, zB_0, zB_1, ite_not, ↓reduceIte, zS, zSa_0, zSa_1, zSa_2, zSa_3, zSa_4, zSa_5, zSa_6, zSa_7, zSa_8, zSa_9, zPa_0, zPa_1, zPa_2, zPa_3, zPa_4, xgS_0, xgS_1, xgS_2, xgS_3, xgS_4, xgS_5, xgS_6, xgS_7, xgS_8, xgS_9, xgS_10, xgS_11, xgQ_0, xgQ_1, xgQ_2, xgQ_3, xgQ_4, xgP_0, xgP_1, xgP_2, xgP_3, xgP_4, xgP_5, xgP_6, xgP_7, xgY_0, xiS, xiQ, xiY, xiP, Int32.reduceToInt, Int.reduceEq, Int32.reduceLT, Int32.reduceLE, yc_155, if_false, not_false_eq_true, xgA_5, xiA, p0, p1, p2, p3, hopn, hrec, hR.time, hR.hold, yb_111_158, show ((10 : Int32) - 7) = 3 from rfl, kc_72 (by omega) hR]
    
  by_cases h11 : x.toInt = 11
  · simp only [h11, ↓reduceIte, Int.reduceEq]
    obtain rfl : x = 11 := zti h11
    refine kAn_o ?_
    simp (disch := first | omega | assumption | exact xpi_lt) only [↓zbE, zbd_some, ↓xk_I, ↓xk_v, zB_0, zB_1, ite_not, ↓reduceIte, zS, zSa_0, zSa_1, zSa_2, zSa_3, zSa_4, zSa_5, zSa_6, zSa_7, zSa_8, zSa_9, zPa_0, zPa_1, zPa_2, zPa_3, zPa_4, xgS_0, xgS_1, xgS_2, xgS_3, xgS_4, xgS_5, xgS_6, xgS_7, xgS_8, xgS_9, xgS_10, xgS_11, xgQ_0, xgQ_1, xgQ_2, xgQ_3, xgQ_4, xgP_0, xgP_1, xgP_2, xgP_3, xgP_4, xgP_5, xgP_6, xgP_7, xgY_0, xiS, xiQ, xiY, xiP, Int32.reduceToInt, Int.reduceEq, Int32.reduceLT, Int32.reduceLE, yc_155, if_false, not_false_eq_true, xgA_5, xiA, p0, p1, p2, p3, hopn, hrec, hR.time, hR.hold, yb_111_158, show ((11 : Int32) - 7) = 4 from rfl, kc_72 (by omega) hR]
    
  by_cases h12 : x.toInt = 12
  · simp only [h12, ↓reduceIte, Int.reduceEq]
    obtain rfl : x = 12 := zti h12
    refine kAn_o ?_
    simp (disch := first | omega | assumption | exact xpi_lt) only [↓zbE, zbd_some, ↓xk_I, ↓xk_v, zB_0, zB_1, ite_not, ↓reduceIte, zS, zSa_0, zSa_1, zSa_2, zSa_3, zSa_4, zSa_5, zSa_6, zSa_7, zSa_8, zSa_9, zPa_0, zPa_1, zPa_2, zPa_3, zPa_4, xgS_0, xgS_1, xgS_2, xgS_3, xgS_4, xgS_5, xgS_6, xgS_7, xgS_8, xgS_9, xgS_10, xgS_11, xgQ_0, xgQ_1, xgQ_2, xgQ_3, xgQ_4, xgP_0, xgP_1, xgP_2, xgP_3, xgP_4, xgP_5, xgP_6, xgP_7, xgY_0, xiS, xiQ, xiY, xiP, Int32.reduceToInt, Int.reduceEq, Int32.reduceLT, Int32.reduceLE, yc_155, if_false, not_false_eq_true, xgA_5, xiA, p0, p1, p2, p3, hopn, hrec, hR.time, hR.hold]
    
  have hx : x < 0 ∨ ¬ x < 13 := by
    rw [fa_lt, fa_lt]
    show x.toInt < 0 ∨ ¬ x.toInt < 13
    omega
  have c155 := @kx_155 w l t sc (d + 2) x 13 hx
  simp only [h0, h1, h2, h3, h4, h5, h6, h7, h8, h9, h10, h11, h12, ↓reduceIte]
  refine kAn_x ?_
  simp (disch := first | omega | assumption | exact xpi_lt) only [↓zbE, zbd_some, ↓xk_I, ↓xk_v, zB_0, zB_1, ite_not, ↓reduceIte, zS, zSa_0, zSa_1, zSa_2, zSa_3, zSa_4, zSa_5, zSa_6, zSa_7, zSa_8, zSa_9, zPa_0, zPa_1, zPa_2, zPa_3, zPa_4, xgS_0, xgS_1, xgS_2, xgS_3, xgS_4, xgS_5, xgS_6, xgS_7, xgS_8, xgS_9, xgS_10, xgS_11, xgQ_0, xgQ_1, xgQ_2, xgQ_3, xgQ_4, xgP_0, xgP_1, xgP_2, xgP_3, xgP_4, xgP_5, xgP_6, xgP_7, xgY_0, xiS, xiQ, xiY, xiP, c155, ↓xk_vx]
end PUB
