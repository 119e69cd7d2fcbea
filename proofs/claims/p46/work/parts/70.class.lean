/-! THE CLASS over the world: what belongs together -/
theorem b_1 : ∀ i, i < 32 → bt 1 i = decide (i = 0) := by decide +kernel
theorem k_and1 {y : Int32} : (y &&& 1 = 1) = (bt y 0 = true) := by
  refine propext ⟨fun h => ?_, fun h => b_ext fun i hi => ?_⟩
  · have := b_and y 1 0
    rw [h, b_1 0 (by omega)] at this
    simpa using this.symm
  · rw [b_and, b_1 i hi]
    by_cases e : i = 0
    · subst e
      simp [h]
    · simp [e]
theorem kb1 {x : Int32} {n : Nat} (hn : n < 31) : ((x >>> (nI n &&& 31)) &&& 1 = 1) = (bt x n = true) := by
  rw [k_and1, b_sshr n (by omega) x (by omega), if_pos (by omega), Nat.add_zero]
/-- the legs between branches, laid on a clean sheet -/
def kD (r : Nat → Int32) (a b : Nat) : Int32 := sp_far r (fun _ => -1) (6 * a + b)
def kPl (p : xG) (r : Nat → Int32) : Prop := (p.1 0 = r 0 ∧ p.1 1 = r 1 ∧ p.1 2 = r 2) ∧ (∀ v, v < xnv r → p.2 0 v = r (12 + 11 * v) ∧ p.2 1 v = r (13 + 11 * v) ∧ (∀ i, i < 32 → bt (p.2 2 v) i = decide (i < 6 ∧ sp_has r v (nI i) = true)) ∧ ∀ s, s < xst r v → p.2 4 (8 * v + s) = r (15 + 11 * v + s)) ∧
  ∀ k, k < xnk r → p.2 3 k = r (58 + 6 * k)
def kS1 (s : xG) (r : Nat → Int32) : Prop := s.1 1 = r 4 ∧ s.1 2 = r 5 ∧ (∀ i, i < 32 → bt (s.1 3) i = decide (i < xnb r ∧ r (6 + i) = 1)) ∧ (∀ i, i < 32 → bt (s.1 4) i = decide (i < xnk r ∧ r (59 + 6 * i) = 1)) ∧ s.1 5 = r 3
def kS2 (s : xG) (r : Nat → Int32) : Prop := (∀ v, v < xnv r → s.2 0 v = r (14 + 11 * v)) ∧ ∀ k, k < xnk r → s.2 1 k = r (56 + 6 * k) ∧ s.2 2 k = r (57 + 6 * k) ∧ s.2 3 k = r (60 + 6 * k) ∧ s.2 4 k = r (61 + 6 * k)
def kS3 (s : xG) (r : Nat → Int32) : Prop := (∀ q, q < xnq r → s.2 5 q = r (176 + 3 * q) ∧ s.2 6 q = r (177 + 3 * q) ∧ s.2 7 q = r (178 + 3 * q)) ∧ ∀ k, k < 20 → s.2 8 k = toJ (sp_first r (nI k))
def kS4 (s : xG) (r : Nat → Int32) : Prop := ∀ a b, a < 6 → b < 6 → s.2 9 (6 * a + b) = kD r a b
/-- a state of the class and a row of the reference -/
def kRel (w : xW) (k : Nat) (r : Nat → Int32) : Prop := xWF r ∧ kPl (w (xpi (w (k + 5)) + 1)) r ∧ kS1 (w (k + 5)) r ∧ kS2 (w (k + 5)) r ∧ kS3 (w (k + 5)) r ∧ kS4 (w (k + 5)) r
section KR
variable {w : xW} {k : Nat} {r : Nat → Int32}
theorem kRel.W (h : kRel w k r) : xWF r := h.1
theorem kRel.P (h : kRel w k r) : kPl (w (xpi (w (k + 5)) + 1)) r := h.2.1
theorem kRel.s1 (h : kRel w k r) : kS1 (w (k + 5)) r := h.2.2.1
theorem kRel.s2 (h : kRel w k r) : kS2 (w (k + 5)) r := h.2.2.2.1
theorem kRel.s3 (h : kRel w k r) : kS3 (w (k + 5)) r := h.2.2.2.2.1
theorem kRel.s4 (h : kRel w k r) : kS4 (w (k + 5)) r := h.2.2.2.2.2
theorem kRel.pb (h : kRel w k r) : (w (xpi (w (k + 5)) + 1)).1 0 = nI (xnb r) := h.P.1.1.trans h.W.bd.b
theorem kRel.pv (h : kRel w k r) : (w (xpi (w (k + 5)) + 1)).1 1 = nI (xnv r) := h.P.1.2.1.trans h.W.bd.v
theorem kRel.pk (h : kRel w k r) : (w (xpi (w (k + 5)) + 1)).1 2 = nI (xnk r) := h.P.1.2.2.trans h.W.bd.k
theorem kRel.room (h : kRel w k r) {v : Nat} (hv : v < xnv r) : (w (xpi (w (k + 5)) + 1)).2 0 v = r (12 + 11 * v) := (h.P.2.1 v hv).1
theorem kRel.stops (h : kRel w k r) {v : Nat} (hv : v < xnv r) : (w (xpi (w (k + 5)) + 1)).2 1 v = nI (xst r v) := (h.P.2.1 v hv).2.1.trans (h.W.st hv)
theorem kRel.route (h : kRel w k r) {v s : Nat} (hv : v < xnv r) (hs : s < xst r v) : (w (xpi (w (k + 5)) + 1)).2 4 (8 * v + s) = r (15 + 11 * v + s) := (h.P.2.1 v hv).2.2.2 s hs
theorem kRel.mask (h : kRel w k r) {v i : Nat} (hv : v < xnv r) (hi : i < 6) : bt ((w (xpi (w (k + 5)) + 1)).2 2 v) i = sp_has r v (nI i) := by
  rw [(h.P.2.1 v hv).2.2.1 i (by omega)]
  simp [hi]
theorem kRel.home (h : kRel w k r) {q : Nat} (hq : q < xnk r) : (w (xpi (w (k + 5)) + 1)).2 3 q = r (58 + 6 * q) := h.P.2.2 q hq
theorem kRel.time (h : kRel w k r) : (w (k + 5)).1 1 = r 4 := h.s1.1
theorem kRel.hold (h : kRel w k r) : (w (k + 5)).1 2 = r 5 := h.s1.2.1
theorem kRel.opn (h : kRel w k r) {i : Nat} (hi : i < 32) : (bt ((w (k + 5)).1 3) i = true) = (i < xnb r ∧ r (6 + i) = 1) := by rw [h.s1.2.2.1 i hi, decide_eq_true_eq]
theorem kRel.rec (h : kRel w k r) {i : Nat} (hi : i < xnk r) : (bt ((w (k + 5)).1 4) i = true) = (r (59 + 6 * i) = 1) := by
  have := h.W.bd.k20
  rw [h.s1.2.2.2.1 i (by omega), decide_eq_true_eq]
  exact propext ⟨fun g => g.2, fun g => ⟨hi, g⟩⟩
theorem kRel.cnt (h : kRel w k r) : (w (k + 5)).1 5 = nI (xnq r) := h.s1.2.2.2.2.trans h.W.bd.q
theorem kRel.at (h : kRel w k r) {v : Nat} (hv : v < xnv r) : (w (k + 5)).2 0 v = r (14 + 11 * v) := h.s2.1 v hv
theorem kRel.kind (h : kRel w k r) {q : Nat} (hq : q < xnk r) : (w (k + 5)).2 1 q = r (56 + 6 * q) := (h.s2.2 q hq).1
theorem kRel.place (h : kRel w k r) {q : Nat} (hq : q < xnk r) : (w (k + 5)).2 2 q = r (57 + 6 * q) := (h.s2.2 q hq).2.1
theorem kRel.reader (h : kRel w k r) {q : Nat} (hq : q < xnk r) : (w (k + 5)).2 3 q = r (60 + 6 * q) := (h.s2.2 q hq).2.2.1
theorem kRel.limit (h : kRel w k r) {q : Nat} (hq : q < xnk r) : (w (k + 5)).2 4 q = r (61 + 6 * q) := (h.s2.2 q hq).2.2.2
theorem kRel.qb (h : kRel w k r) {q : Nat} (hq : q < xnq r) : (w (k + 5)).2 5 q = r (176 + 3 * q) := (h.s3.1 q hq).1
theorem kRel.qr (h : kRel w k r) {q : Nat} (hq : q < xnq r) : (w (k + 5)).2 6 q = r (177 + 3 * q) := (h.s3.1 q hq).2.1
theorem kRel.qw (h : kRel w k r) {q : Nat} (hq : q < xnq r) : (w (k + 5)).2 7 q = r (178 + 3 * q) := (h.s3.1 q hq).2.2
theorem kRel.first (h : kRel w k r) {q : Nat} (hq : q < 20) : (w (k + 5)).2 8 q = toJ (sp_first r (nI q)) := h.s3.2 q hq
theorem kRel.ways (h : kRel w k r) {a b : Nat} (ha : a < 6) (hb : b < 6) : (w (k + 5)).2 9 (6 * a + b) = kD r a b := h.s4 a b ha hb
end KR
section KA
variable {w : xW} {l : Nat → Nat → Int64} {t : Nat} {sc : xm_Sc} {d k : Nat}
theorem zSa_0 {n : Nat} (hk : k < 13) (hn : n < 4) : xm_aI (xem w l t) (xh k + 1) 0 (nI n) = some ((w (k + 5)).2 0 n) := by rw [xaS_0 hk, if_pos (xin hn (by decide)), nI_clamp (by omega)]
theorem zSw_0 {n : Nat} {x : Int32} (hk : k < 13) (hn : n < 4) : xm_wI (xem w l t) (xh k + 1) 0 (nI n) x = some (xem (xu w (k + 5) (xs2 (w (k + 5)) 0 (upd ((w (k + 5)).2 0) n x))) l t) := by rw [xwS_0 hk, if_pos (xin hn (by decide)), nI_clamp (by omega)]
theorem zSa_1 {n : Nat} (hk : k < 13) (hn : n < 20) : xm_aI (xem w l t) (xh k + 2) 0 (nI n) = some ((w (k + 5)).2 1 n) := by rw [xaS_1 hk, if_pos (xin hn (by decide)), nI_clamp (by omega)]
theorem zSw_1 {n : Nat} {x : Int32} (hk : k < 13) (hn : n < 20) : xm_wI (xem w l t) (xh k + 2) 0 (nI n) x = some (xem (xu w (k + 5) (xs2 (w (k + 5)) 1 (upd ((w (k + 5)).2 1) n x))) l t) := by rw [xwS_1 hk, if_pos (xin hn (by decide)), nI_clamp (by omega)]
theorem zSa_2 {n : Nat} (hk : k < 13) (hn : n < 20) : xm_aI (xem w l t) (xh k + 3) 0 (nI n) = some ((w (k + 5)).2 2 n) := by rw [xaS_2 hk, if_pos (xin hn (by decide)), nI_clamp (by omega)]
theorem zSw_2 {n : Nat} {x : Int32} (hk : k < 13) (hn : n < 20) : xm_wI (xem w l t) (xh k + 3) 0 (nI n) x = some (xem (xu w (k + 5) (xs2 (w (k + 5)) 2 (upd ((w (k + 5)).2 2) n x))) l t) := by rw [xwS_2 hk, if_pos (xin hn (by decide)), nI_clamp (by omega)]
theorem zSa_3 {n : Nat} (hk : k < 13) (hn : n < 20) : xm_aI (xem w l t) (xh k + 4) 0 (nI n) = some ((w (k + 5)).2 3 n) := by rw [xaS_3 hk, if_pos (xin hn (by decide)), nI_clamp (by omega)]
theorem zSw_3 {n : Nat} {x : Int32} (hk : k < 13) (hn : n < 20) : xm_wI (xem w l t) (xh k + 4) 0 (nI n) x = some (xem (xu w (k + 5) (xs2 (w (k + 5)) 3 (upd ((w (k + 5)).2 3) n x))) l t) := by rw [xwS_3 hk, if_pos (xin hn (by decide)), nI_clamp (by omega)]
theorem zSa_4 {n : Nat} (hk : k < 13) (hn : n < 20) : xm_aI (xem w l t) (xh k + 5) 0 (nI n) = some ((w (k + 5)).2 4 n) := by rw [xaS_4 hk, if_pos (xin hn (by decide)), nI_clamp (by omega)]
theorem zSw_4 {n : Nat} {x : Int32} (hk : k < 13) (hn : n < 20) : xm_wI (xem w l t) (xh k + 5) 0 (nI n) x = some (xem (xu w (k + 5) (xs2 (w (k + 5)) 4 (upd ((w (k + 5)).2 4) n x))) l t) := by rw [xwS_4 hk, if_pos (xin hn (by decide)), nI_clamp (by omega)]
theorem zSa_5 {n : Nat} (hk : k < 13) (hn : n < 40) : xm_aI (xem w l t) (xh k + 7) 0 (nI n) = some ((w (k + 5)).2 5 n) := by rw [xaS_5 hk, if_pos (xin hn (by decide)), nI_clamp (by omega)]
theorem zSw_5 {n : Nat} {x : Int32} (hk : k < 13) (hn : n < 40) : xm_wI (xem w l t) (xh k + 7) 0 (nI n) x = some (xem (xu w (k + 5) (xs2 (w (k + 5)) 5 (upd ((w (k + 5)).2 5) n x))) l t) := by rw [xwS_5 hk, if_pos (xin hn (by decide)), nI_clamp (by omega)]
theorem zSa_6 {n : Nat} (hk : k < 13) (hn : n < 40) : xm_aI (xem w l t) (xh k + 8) 0 (nI n) = some ((w (k + 5)).2 6 n) := by rw [xaS_6 hk, if_pos (xin hn (by decide)), nI_clamp (by omega)]
theorem zSw_6 {n : Nat} {x : Int32} (hk : k < 13) (hn : n < 40) : xm_wI (xem w l t) (xh k + 8) 0 (nI n) x = some (xem (xu w (k + 5) (xs2 (w (k + 5)) 6 (upd ((w (k + 5)).2 6) n x))) l t) := by rw [xwS_6 hk, if_pos (xin hn (by decide)), nI_clamp (by omega)]
theorem zSa_7 {n : Nat} (hk : k < 13) (hn : n < 40) : xm_aI (xem w l t) (xh k + 9) 0 (nI n) = some ((w (k + 5)).2 7 n) := by rw [xaS_7 hk, if_pos (xin hn (by decide)), nI_clamp (by omega)]
theorem zSw_7 {n : Nat} {x : Int32} (hk : k < 13) (hn : n < 40) : xm_wI (xem w l t) (xh k + 9) 0 (nI n) x = some (xem (xu w (k + 5) (xs2 (w (k + 5)) 7 (upd ((w (k + 5)).2 7) n x))) l t) := by rw [xwS_7 hk, if_pos (xin hn (by decide)), nI_clamp (by omega)]
theorem zSa_8 {n : Nat} (hk : k < 13) (hn : n < 20) : xm_aI (xem w l t) (xh k + 10) 0 (nI n) = some ((w (k + 5)).2 8 n) := by rw [xaS_8 hk, if_pos (xin hn (by decide)), nI_clamp (by omega)]
theorem zSw_8 {n : Nat} {x : Int32} (hk : k < 13) (hn : n < 20) : xm_wI (xem w l t) (xh k + 10) 0 (nI n) x = some (xem (xu w (k + 5) (xs2 (w (k + 5)) 8 (upd ((w (k + 5)).2 8) n x))) l t) := by rw [xwS_8 hk, if_pos (xin hn (by decide)), nI_clamp (by omega)]
theorem zSa_9 {n : Nat} (hk : k < 13) (hn : n < 36) : xm_aI (xem w l t) (xh k + 12) 0 (nI n) = some ((w (k + 5)).2 9 n) := by rw [xaS_9 hk, if_pos (xin hn (by decide)), nI_clamp (by omega)]
theorem zSw_9 {n : Nat} {x : Int32} (hk : k < 13) (hn : n < 36) : xm_wI (xem w l t) (xh k + 12) 0 (nI n) x = some (xem (xu w (k + 5) (xs2 (w (k + 5)) 9 (upd ((w (k + 5)).2 9) n x))) l t) := by rw [xwS_9 hk, if_pos (xin hn (by decide)), nI_clamp (by omega)]
theorem zPa_0 {i n : Nat} (hi : i < 2) (hn : n < 4) : xm_aI (xem w l t) (xp i + 1) 0 (nI n) = some ((w (i + 1)).2 0 n) := by rw [xaP_0 hi, if_pos (xin hn (by decide)), nI_clamp (by omega)]
theorem zPw_0 {i n : Nat} {x : Int32} (hi : i < 2) (hn : n < 4) : xm_wI (xem w l t) (xp i + 1) 0 (nI n) x = some (xem (xu w (i + 1) (xs2 (w (i + 1)) 0 (upd ((w (i + 1)).2 0) n x))) l t) := by rw [xwP_0 hi, if_pos (xin hn (by decide)), nI_clamp (by omega)]
theorem zPa_1 {i n : Nat} (hi : i < 2) (hn : n < 4) : xm_aI (xem w l t) (xp i + 2) 0 (nI n) = some ((w (i + 1)).2 1 n) := by rw [xaP_1 hi, if_pos (xin hn (by decide)), nI_clamp (by omega)]
theorem zPw_1 {i n : Nat} {x : Int32} (hi : i < 2) (hn : n < 4) : xm_wI (xem w l t) (xp i + 2) 0 (nI n) x = some (xem (xu w (i + 1) (xs2 (w (i + 1)) 1 (upd ((w (i + 1)).2 1) n x))) l t) := by rw [xwP_1 hi, if_pos (xin hn (by decide)), nI_clamp (by omega)]
theorem zPa_2 {i n : Nat} (hi : i < 2) (hn : n < 4) : xm_aI (xem w l t) (xp i + 3) 0 (nI n) = some ((w (i + 1)).2 2 n) := by rw [xaP_2 hi, if_pos (xin hn (by decide)), nI_clamp (by omega)]
theorem zPw_2 {i n : Nat} {x : Int32} (hi : i < 2) (hn : n < 4) : xm_wI (xem w l t) (xp i + 3) 0 (nI n) x = some (xem (xu w (i + 1) (xs2 (w (i + 1)) 2 (upd ((w (i + 1)).2 2) n x))) l t) := by rw [xwP_2 hi, if_pos (xin hn (by decide)), nI_clamp (by omega)]
theorem zPa_3 {i n : Nat} (hi : i < 2) (hn : n < 20) : xm_aI (xem w l t) (xp i + 4) 0 (nI n) = some ((w (i + 1)).2 3 n) := by rw [xaP_3 hi, if_pos (xin hn (by decide)), nI_clamp (by omega)]
theorem zPw_3 {i n : Nat} {x : Int32} (hi : i < 2) (hn : n < 20) : xm_wI (xem w l t) (xp i + 4) 0 (nI n) x = some (xem (xu w (i + 1) (xs2 (w (i + 1)) 3 (upd ((w (i + 1)).2 3) n x))) l t) := by rw [xwP_3 hi, if_pos (xin hn (by decide)), nI_clamp (by omega)]
theorem zPa_4 {i n : Nat} (hi : i < 2) (hn : n < 32) : xm_aI (xem w l t) (xp i + 5) 0 (nI n) = some ((w (i + 1)).2 4 n) := by rw [xaP_4 hi, if_pos (xin hn (by decide)), nI_clamp (by omega)]
theorem zPw_4 {i n : Nat} {x : Int32} (hi : i < 2) (hn : n < 32) : xm_wI (xem w l t) (xp i + 5) 0 (nI n) x = some (xem (xu w (i + 1) (xs2 (w (i + 1)) 4 (upd ((w (i + 1)).2 4) n x))) l t) := by rw [xwP_4 hi, if_pos (xin hn (by decide)), nI_clamp (by omega)]
theorem kM8 {v s : Nat} : nI v * 8 + nI s = nI (8 * v + s) := by
  show nI v * nI 8 + nI s = _
  rw [zM, zA, Nat.mul_comm]
theorem kM6 {a b : Nat} : nI a * 6 + nI b = nI (6 * a + b) := by
  show nI a * nI 6 + nI b = _
  rw [zM, zA, Nat.mul_comm]
theorem kc_21 {v s : Nat} (hk : k < 13) {r : Nat → Int32} (hR : kRel w k r) (hv : v < xnv r) (hs : s < xst r v) : xm_C sc xt_M (d + 1) 21 [.ref (xp (xpi (w (k + 5)))), .int (nI v), .int (nI s)] (xem w l t) = some (.inl (some (.int (r (15 + 11 * v + s)))), xem w l t) := by
  have h9 := hR.W.st9 hv
  have h4 := hR.W.bd.v4
  rw [yc_21]
  simp (disch := first | omega | assumption | exact xpi_lt) only [↓zbE, zbd_some, ↓xk_I, ↓xk_v, zB_0, zB_1, ite_not, ↓reduceIte, zS, zSa_0, zSa_1, zSa_2, zSa_3, zSa_4, zSa_5, zSa_6, zSa_7, zSa_8, zSa_9, zPa_0, zPa_1, zPa_2, zPa_3, zPa_4, xgS_0, xgS_1, xgS_2, xgS_3, xgS_4, xgS_5, xgS_6, xgS_7, xgS_8, xgS_9, xgS_10, xgS_11, xgQ_0, xgQ_1, xgQ_2, xgQ_3, xgQ_4, xgP_0, xgP_1, xgP_2, xgP_3, xgP_4, xgP_5, xgP_6, xgP_7, xgY_0, xiS, xiQ, xiY, xiP, kM8, hR.route hv hs]
theorem kc_22 {v s : Nat} (hk : k < 13) {r : Nat → Int32} (hR : kRel w k r) (hv : v < xnv r) (hs : s < xst r v) : xm_C sc xt_M (d + 1) 22 [.ref (xp (xpi (w (k + 5)))), .int (nI v), .int (nI s)] (xem w l t) = some (.inl (some (.int (nI ((s + 1) % xst r v)))), xem w l t) := by
  have h9 := hR.W.st9 hv
  have h4 := hR.W.bd.v4
  rw [yc_22]
  by_cases h : s + 1 = xst r v
  · rw [h, Nat.mod_self]
    have h' : nI (xst r v) ≤ nI s + 1 := by rw [zS, h]; exact nI_le (Nat.le_refl _) (by omega)
    simp (disch := first | omega | assumption | exact xpi_lt) only [↓zbE, zbd_some, ↓xk_I, ↓xk_v, zB_0, zB_1, ite_not, ↓reduceIte, zSa_0, zSa_1, zSa_2, zSa_3, zSa_4, zSa_5, zSa_6, zSa_7, zSa_8, zSa_9, zPa_0, zPa_1, zPa_2, zPa_3, zPa_4, xgS_0, xgS_1, xgS_2, xgS_3, xgS_4, xgS_5, xgS_6, xgS_7, xgS_8, xgS_9, xgS_10, xgS_11, xgQ_0, xgQ_1, xgQ_2, xgQ_3, xgQ_4, xgP_0, xgP_1, xgP_2, xgP_3, xgP_4, xgP_5, xgP_6, xgP_7, xgY_0, xiS, xiQ, xiY, xiP, hR.stops hv, eq_true h']
    rfl
  · rw [Nat.mod_eq_of_lt (by omega)]
    have h' : ¬ nI (xst r v) ≤ nI (s + 1) := nI_ge (by omega) (by omega)
    simp (disch := first | omega | assumption | exact xpi_lt) only [↓zbE, zbd_some, ↓xk_I, ↓xk_v, zB_0, zB_1, ite_not, ↓reduceIte, zS, zSa_0, zSa_1, zSa_2, zSa_3, zSa_4, zSa_5, zSa_6, zSa_7, zSa_8, zSa_9, zPa_0, zPa_1, zPa_2, zPa_3, zPa_4, xgS_0, xgS_1, xgS_2, xgS_3, xgS_4, xgS_5, xgS_6, xgS_7, xgS_8, xgS_9, xgS_10, xgS_11, xgQ_0, xgQ_1, xgQ_2, xgQ_3, xgQ_4, xgP_0, xgP_1, xgP_2, xgP_3, xgP_4, xgP_5, xgP_6, xgP_7, xgY_0, xiS, xiQ, xiY, xiP, hR.stops hv, h']
theorem kc_23 {v i : Nat} (hk : k < 13) {r : Nat → Int32} (hR : kRel w k r) (hv : v < xnv r) (hi : i < 6) : xm_C sc xt_M (d + 1) 23 [.ref (xp (xpi (w (k + 5)))), .int (nI v), .int (nI i)] (xem w l t) = some (.inl (some (.int (zB (sp_has r v (nI i) = true)))), xem w l t) := by
  have h4 := hR.W.bd.v4
  rw [yc_23]
  simp (disch := first | omega | assumption | exact xpi_lt) only [↓zbE, zbd_some, ↓xk_I, ↓xk_v, zB_0, zB_1, ite_not, ↓reduceIte, zS, zSa_0, zSa_1, zSa_2, zSa_3, zSa_4, zSa_5, zSa_6, zSa_7, zSa_8, zSa_9, zPa_0, zPa_1, zPa_2, zPa_3, zPa_4, xgS_0, xgS_1, xgS_2, xgS_3, xgS_4, xgS_5, xgS_6, xgS_7, xgS_8, xgS_9, xgS_10, xgS_11, xgQ_0, xgQ_1, xgQ_2, xgQ_3, xgQ_4, xgP_0, xgP_1, xgP_2, xgP_3, xgP_4, xgP_5, xgP_6, xgP_7, xgY_0, xiS, xiQ, xiY, xiP, kb1, hR.mask hv hi]
  cases sp_has r v (nI i) <;> rfl
theorem kc_41 {q : Nat} (hk : k < 13) {r : Nat → Int32} (hR : kRel w k r) (hq : q < 20) : xm_C sc xt_M (d + 1) 41 [.ref (xh k + 6), .int (nI q)] (xem w l t) = some (.inl (some (.int (zB (¬ sp_first r (nI q) = none)))), xem w l t) := by
  rw [yc_41]
  have hf := hR.first hq
  cases e : sp_first r (nI q) with
  | none =>
    rw [e] at hf
    simp (disch := first | omega | assumption | exact xpi_lt) only [↓zbE, zbd_some, ↓xk_I, ↓xk_v, zB_0, zB_1, ite_not, ↓reduceIte, zS, zSa_0, zSa_1, zSa_2, zSa_3, zSa_4, zSa_5, zSa_6, zSa_7, zSa_8, zSa_9, zPa_0, zPa_1, zPa_2, zPa_3, zPa_4, xgS_0, xgS_1, xgS_2, xgS_3, xgS_4, xgS_5, xgS_6, xgS_7, xgS_8, xgS_9, xgS_10, xgS_11, xgQ_0, xgQ_1, xgQ_2, xgQ_3, xgQ_4, xgP_0, xgP_1, xgP_2, xgP_3, xgP_4, xgP_5, xgP_6, xgP_7, xgY_0, xiS, xiQ, xiY, xiP, hf, toJ, zm1]
    rfl
  | some p =>
    rw [e] at hf
    have := sp_first_lt e
    have := hR.W.bd.q40
    have h4 := toJ_ne (q := p) (by omega)
    simp (disch := first | omega | assumption | exact xpi_lt) only [↓zbE, zbd_some, ↓xk_I, ↓xk_v, zB_0, zB_1, ite_not, ↓reduceIte, zS, zSa_0, zSa_1, zSa_2, zSa_3, zSa_4, zSa_5, zSa_6, zSa_7, zSa_8, zSa_9, zPa_0, zPa_1, zPa_2, zPa_3, zPa_4, xgS_0, xgS_1, xgS_2, xgS_3, xgS_4, xgS_5, xgS_6, xgS_7, xgS_8, xgS_9, xgS_10, xgS_11, xgQ_0, xgQ_1, xgQ_2, xgQ_3, xgQ_4, xgP_0, xgP_1, xgP_2, xgP_3, xgP_4, xgP_5, xgP_6, xgP_7, xgY_0, xiS, xiQ, xiY, xiP, hf, toJ, h4]
    rfl
theorem kc_42 {q p : Nat} (hk : k < 13) {r : Nat → Int32} (hR : kRel w k r) (hq : q < 20) (e : sp_first r (nI q) = some p) : xm_C sc xt_M (d + 1) 42 [.ref (xh k + 6), .int (nI q)] (xem w l t) = some (.inl (some (.int (r (178 + 3 * p)))), xem w l t) := by
  rw [yc_42]
  have hf := hR.first hq
  rw [e] at hf
  have h1 := sp_first_lt e
  have := hR.W.bd.q40
  have h4 := toJ_ne (q := p) (by omega)
  simp (disch := first | omega | assumption | exact xpi_lt) only [↓zbE, zbd_some, ↓xk_I, ↓xk_v, zB_0, zB_1, ite_not, ↓reduceIte, zS, zSa_0, zSa_1, zSa_2, zSa_3, zSa_4, zSa_5, zSa_6, zSa_7, zSa_8, zSa_9, zPa_0, zPa_1, zPa_2, zPa_3, zPa_4, xgS_0, xgS_1, xgS_2, xgS_3, xgS_4, xgS_5, xgS_6, xgS_7, xgS_8, xgS_9, xgS_10, xgS_11, xgQ_0, xgQ_1, xgQ_2, xgQ_3, xgQ_4, xgP_0, xgP_1, xgP_2, xgP_3, xgP_4, xgP_5, xgP_6, xgP_7, xgY_0, xiS, xiQ, xiY, xiP, hf, toJ, h4, hR.qw h1, hR.qr h1]
theorem kc_42_n {q : Nat} (hk : k < 13) {r : Nat → Int32} (hR : kRel w k r) (hq : q < 20) (e : sp_first r (nI q) = none) : xm_C sc xt_M (d + 1) 42 [.ref (xh k + 6), .int (nI q)] (xem w l t) = some (.inl (some (.int (-1))), xem w l t) := by
  rw [yc_42]
  have hf := hR.first hq
  rw [e] at hf
  simp (disch := first | omega | assumption | exact xpi_lt) only [↓zbE, zbd_some, ↓xk_I, ↓xk_v, zB_0, zB_1, ite_not, ↓reduceIte, zS, zSa_0, zSa_1, zSa_2, zSa_3, zSa_4, zSa_5, zSa_6, zSa_7, zSa_8, zSa_9, zPa_0, zPa_1, zPa_2, zPa_3, zPa_4, xgS_0, xgS_1, xgS_2, xgS_3, xgS_4, xgS_5, xgS_6, xgS_7, xgS_8, xgS_9, xgS_10, xgS_11, xgQ_0, xgQ_1, xgQ_2, xgQ_3, xgQ_4, xgP_0, xgP_1, xgP_2, xgP_3, xgP_4, xgP_5, xgP_6, xgP_7, xgY_0, xiS, xiQ, xiY, xiP, hf, toJ, zm1]
theorem kc_43 {q p : Nat} (hk : k < 13) {r : Nat → Int32} (hR : kRel w k r) (hq : q < 20) (e : sp_first r (nI q) = some p) : xm_C sc xt_M (d + 1) 43 [.ref (xh k + 6), .int (nI q)] (xem w l t) = some (.inl (some (.int (r (177 + 3 * p)))), xem w l t) := by
  rw [yc_43]
  have hf := hR.first hq
  rw [e] at hf
  have h1 := sp_first_lt e
  have := hR.W.bd.q40
  have h4 := toJ_ne (q := p) (by omega)
  simp (disch := first | omega | assumption | exact xpi_lt) only [↓zbE, zbd_some, ↓xk_I, ↓xk_v, zB_0, zB_1, ite_not, ↓reduceIte, zS, zSa_0, zSa_1, zSa_2, zSa_3, zSa_4, zSa_5, zSa_6, zSa_7, zSa_8, zSa_9, zPa_0, zPa_1, zPa_2, zPa_3, zPa_4, xgS_0, xgS_1, xgS_2, xgS_3, xgS_4, xgS_5, xgS_6, xgS_7, xgS_8, xgS_9, xgS_10, xgS_11, xgQ_0, xgQ_1, xgQ_2, xgQ_3, xgQ_4, xgP_0, xgP_1, xgP_2, xgP_3, xgP_4, xgP_5, xgP_6, xgP_7, xgY_0, xiS, xiQ, xiY, xiP, hf, toJ, h4, hR.qw h1, hR.qr h1]
theorem kc_60 {i : Nat} (hk : k < 13) {r : Nat → Int32} (hR : kRel w k r) (hi : i < xnb r) : xm_C sc xt_M (d + 1) 60 [.ref (xh k), .int (nI i)] (xem w l t) = some (.inl (some (.int (zB (r (6 + i) = 1)))), xem w l t) := by
  have hb6 := hR.W.bd.b6
  have e := hR.opn (i := i) (by omega)
  rw [yc_60, if_neg (nI_pos (by omega))]
  by_cases h : r (6 + i) = 1
  · rw [zB_tt (c := r (6 + i) = 1) h]
    simp (disch := first | omega | assumption | exact xpi_lt) only [↓zbE, zbd_some, ↓xk_I, ↓xk_v, zB_0, zB_1, ite_not, ↓reduceIte, zS, zSa_0, zSa_1, zSa_2, zSa_3, zSa_4, zSa_5, zSa_6, zSa_7, zSa_8, zSa_9, zPa_0, zPa_1, zPa_2, zPa_3, zPa_4, xgS_0, xgS_1, xgS_2, xgS_3, xgS_4, xgS_5, xgS_6, xgS_7, xgS_8, xgS_9, xgS_10, xgS_11, xgQ_0, xgQ_1, xgQ_2, xgQ_3, xgQ_4, xgP_0, xgP_1, xgP_2, xgP_3, xgP_4, xgP_5, xgP_6, xgP_7, xgY_0, xiS, xiQ, xiY, xiP, hR.pb, kb1, e, h, hi, and_self, nI_ge]
  · rw [zB_ff (c := r (6 + i) = 1) h]
    simp (disch := first | omega | assumption | exact xpi_lt) only [↓zbE, zbd_some, ↓xk_I, ↓xk_v, zB_0, zB_1, ite_not, ↓reduceIte, zS, zSa_0, zSa_1, zSa_2, zSa_3, zSa_4, zSa_5, zSa_6, zSa_7, zSa_8, zSa_9, zPa_0, zPa_1, zPa_2, zPa_3, zPa_4, xgS_0, xgS_1, xgS_2, xgS_3, xgS_4, xgS_5, xgS_6, xgS_7, xgS_8, xgS_9, xgS_10, xgS_11, xgQ_0, xgQ_1, xgQ_2, xgQ_3, xgQ_4, xgP_0, xgP_1, xgP_2, xgP_3, xgP_4, xgP_5, xgP_6, xgP_7, xgY_0, xiS, xiQ, xiY, xiP, hR.pb, kb1, e, h, and_false, yb_60_31, nI_ge]
theorem kc_62 {q : Nat} (hk : k < 13) {r : Nat → Int32} (hR : kRel w k r) (hq : q < xnk r) : xm_C sc xt_M (d + 1) 62 [.ref (xh k), .int (nI q)] (xem w l t) = some (.inl (some (.int (zB (r (59 + 6 * q) = 1)))), xem w l t) := by
  have hk20 := hR.W.bd.k20
  have e := hR.rec hq
  rw [yc_62]
  by_cases h : r (59 + 6 * q) = 1
  · rw [zB_tt (c := r (59 + 6 * q) = 1) h]
    simp (disch := first | omega | assumption | exact xpi_lt) only [↓zbE, zbd_some, ↓xk_I, ↓xk_v, zB_0, zB_1, ite_not, ↓reduceIte, zS, zSa_0, zSa_1, zSa_2, zSa_3, zSa_4, zSa_5, zSa_6, zSa_7, zSa_8, zSa_9, zPa_0, zPa_1, zPa_2, zPa_3, zPa_4, xgS_0, xgS_1, xgS_2, xgS_3, xgS_4, xgS_5, xgS_6, xgS_7, xgS_8, xgS_9, xgS_10, xgS_11, xgQ_0, xgQ_1, xgQ_2, xgQ_3, xgQ_4, xgP_0, xgP_1, xgP_2, xgP_3, xgP_4, xgP_5, xgP_6, xgP_7, xgY_0, xiS, xiQ, xiY, xiP, kb1, e, eq_true h]
  · rw [zB_ff (c := r (59 + 6 * q) = 1) h]
    simp (disch := first | omega | assumption | exact xpi_lt) only [↓zbE, zbd_some, ↓xk_I, ↓xk_v, zB_0, zB_1, ite_not, ↓reduceIte, zS, zSa_0, zSa_1, zSa_2, zSa_3, zSa_4, zSa_5, zSa_6, zSa_7, zSa_8, zSa_9, zPa_0, zPa_1, zPa_2, zPa_3, zPa_4, xgS_0, xgS_1, xgS_2, xgS_3, xgS_4, xgS_5, xgS_6, xgS_7, xgS_8, xgS_9, xgS_10, xgS_11, xgQ_0, xgQ_1, xgQ_2, xgQ_3, xgQ_4, xgP_0, xgP_1, xgP_2, xgP_3, xgP_4, xgP_5, xgP_6, xgP_7, xgY_0, xiS, xiQ, xiY, xiP, kb1, e, eq_false h]
theorem kc_63 {q : Nat} {x y : Int32} (hk : k < 13) {r : Nat → Int32} (hR : kRel w k r) (hq : q < xnk r) : xm_C sc xt_M (d + 1) 63 [.ref (xh k), .int (nI q), .int x, .int y] (xem w l t) = some (.inl (some (.int (zB (r (56 + 6 * q) = x ∧ r (57 + 6 * q) = y)))), xem w l t) := by
  have hk20 := hR.W.bd.k20
  rw [yc_63]
  by_cases h1 : r (56 + 6 * q) = x
  · by_cases h2 : r (57 + 6 * q) = y
    · rw [zB_tt (c := r (56 + 6 * q) = x ∧ r (57 + 6 * q) = y) ⟨h1, h2⟩]
      simp (disch := first | omega | assumption | exact xpi_lt) only [↓zbE, zbd_some, ↓xk_I, ↓xk_v, zB_0, zB_1, ite_not, ↓reduceIte, zS, zSa_0, zSa_1, zSa_2, zSa_3, zSa_4, zSa_5, zSa_6, zSa_7, zSa_8, zSa_9, zPa_0, zPa_1, zPa_2, zPa_3, zPa_4, xgS_0, xgS_1, xgS_2, xgS_3, xgS_4, xgS_5, xgS_6, xgS_7, xgS_8, xgS_9, xgS_10, xgS_11, xgQ_0, xgQ_1, xgQ_2, xgQ_3, xgQ_4, xgP_0, xgP_1, xgP_2, xgP_3, xgP_4, xgP_5, xgP_6, xgP_7, xgY_0, xiS, xiQ, xiY, xiP, hR.kind hq, hR.place hq, eq_true h1, eq_true h2]
    · rw [zB_ff (c := r (56 + 6 * q) = x ∧ r (57 + 6 * q) = y) (fun h => h2 h.2)]
      simp (disch := first | omega | assumption | exact xpi_lt) only [↓zbE, zbd_some, ↓xk_I, ↓xk_v, zB_0, zB_1, ite_not, ↓reduceIte, zS, zSa_0, zSa_1, zSa_2, zSa_3, zSa_4, zSa_5, zSa_6, zSa_7, zSa_8, zSa_9, zPa_0, zPa_1, zPa_2, zPa_3, zPa_4, xgS_0, xgS_1, xgS_2, xgS_3, xgS_4, xgS_5, xgS_6, xgS_7, xgS_8, xgS_9, xgS_10, xgS_11, xgQ_0, xgQ_1, xgQ_2, xgQ_3, xgQ_4, xgP_0, xgP_1, xgP_2, xgP_3, xgP_4, xgP_5, xgP_6, xgP_7, xgY_0, xiS, xiQ, xiY, xiP, hR.kind hq, hR.place hq, eq_true h1, h2, yb_63_24]
  · rw [zB_ff (c := r (56 + 6 * q) = x ∧ r (57 + 6 * q) = y) (fun h => h1 h.1)]
    simp (disch := first | omega | assumption | exact xpi_lt) only [↓zbE, zbd_some, ↓xk_I, ↓xk_v, zB_0, zB_1, ite_not, ↓reduceIte, zS, zSa_0, zSa_1, zSa_2, zSa_3, zSa_4, zSa_5, zSa_6, zSa_7, zSa_8, zSa_9, zPa_0, zPa_1, zPa_2, zPa_3, zPa_4, xgS_0, xgS_1, xgS_2, xgS_3, xgS_4, xgS_5, xgS_6, xgS_7, xgS_8, xgS_9, xgS_10, xgS_11, xgQ_0, xgQ_1, xgQ_2, xgQ_3, xgQ_4, xgP_0, xgP_1, xgP_2, xgP_3, xgP_4, xgP_5, xgP_6, xgP_7, xgY_0, xiS, xiQ, xiY, xiP, hR.kind hq, h1, yb_63_24]
theorem kc_64 {q : Nat} {x : Int32} (hk : k < 13) {r : Nat → Int32} (hR : kRel w k r) (hq : q < xnk r) : xm_C sc xt_M (d + 1) 64 [.ref (xh k), .int (nI q), .int x] (xem w l t) = some (.inl (some (.int (zB (r (56 + 6 * q) = 2 ∧ r (60 + 6 * q) = x)))), xem w l t) := by
  have hk20 := hR.W.bd.k20
  rw [yc_64]
  by_cases h1 : r (56 + 6 * q) = 2
  · by_cases h2 : r (60 + 6 * q) = x
    · rw [zB_tt (c := r (56 + 6 * q) = 2 ∧ r (60 + 6 * q) = x) ⟨h1, h2⟩]
      simp (disch := first | omega | assumption | exact xpi_lt) only [↓zbE, zbd_some, ↓xk_I, ↓xk_v, zB_0, zB_1, ite_not, ↓reduceIte, zS, zSa_0, zSa_1, zSa_2, zSa_3, zSa_4, zSa_5, zSa_6, zSa_7, zSa_8, zSa_9, zPa_0, zPa_1, zPa_2, zPa_3, zPa_4, xgS_0, xgS_1, xgS_2, xgS_3, xgS_4, xgS_5, xgS_6, xgS_7, xgS_8, xgS_9, xgS_10, xgS_11, xgQ_0, xgQ_1, xgQ_2, xgQ_3, xgQ_4, xgP_0, xgP_1, xgP_2, xgP_3, xgP_4, xgP_5, xgP_6, xgP_7, xgY_0, xiS, xiQ, xiY, xiP, hR.kind hq, hR.reader hq, eq_true h1, eq_true h2]
    · rw [zB_ff (c := r (56 + 6 * q) = 2 ∧ r (60 + 6 * q) = x) (fun h => h2 h.2)]
      simp (disch := first | omega | assumption | exact xpi_lt) only [↓zbE, zbd_some, ↓xk_I, ↓xk_v, zB_0, zB_1, ite_not, ↓reduceIte, zS, zSa_0, zSa_1, zSa_2, zSa_3, zSa_4, zSa_5, zSa_6, zSa_7, zSa_8, zSa_9, zPa_0, zPa_1, zPa_2, zPa_3, zPa_4, xgS_0, xgS_1, xgS_2, xgS_3, xgS_4, xgS_5, xgS_6, xgS_7, xgS_8, xgS_9, xgS_10, xgS_11, xgQ_0, xgQ_1, xgQ_2, xgQ_3, xgQ_4, xgP_0, xgP_1, xgP_2, xgP_3, xgP_4, xgP_5, xgP_6, xgP_7, xgY_0, xiS, xiQ, xiY, xiP, hR.kind hq, hR.reader hq, eq_true h1, h2, yb_64_24]
  · rw [zB_ff (c := r (56 + 6 * q) = 2 ∧ r (60 + 6 * q) = x) (fun h => h1 h.1)]
    simp (disch := first | omega | assumption | exact xpi_lt) only [↓zbE, zbd_some, ↓xk_I, ↓xk_v, zB_0, zB_1, ite_not, ↓reduceIte, zS, zSa_0, zSa_1, zSa_2, zSa_3, zSa_4, zSa_5, zSa_6, zSa_7, zSa_8, zSa_9, zPa_0, zPa_1, zPa_2, zPa_3, zPa_4, xgS_0, xgS_1, xgS_2, xgS_3, xgS_4, xgS_5, xgS_6, xgS_7, xgS_8, xgS_9, xgS_10, xgS_11, xgQ_0, xgQ_1, xgQ_2, xgQ_3, xgQ_4, xgP_0, xgP_1, xgP_2, xgP_3, xgP_4, xgP_5, xgP_6, xgP_7, xgY_0, xiS, xiQ, xiY, xiP, hR.kind hq, h1, yb_64_24]
theorem kc_65 {q : Nat} {x : Int32} (hk : k < 13) {r : Nat → Int32} (hR : kRel w k r) (hq : q < xnk r) : xm_C sc xt_M (d + 1) 65 [.ref (xh k), .int (nI q), .int x] (xem w l t) = some (.inl (some (.int (zB (r (56 + 6 * q) = 3 ∧ r (60 + 6 * q) = x)))), xem w l t) := by
  have hk20 := hR.W.bd.k20
  rw [yc_65]
  by_cases h1 : r (56 + 6 * q) = 3
  · by_cases h2 : r (60 + 6 * q) = x
    · rw [zB_tt (c := r (56 + 6 * q) = 3 ∧ r (60 + 6 * q) = x) ⟨h1, h2⟩]
      simp (disch := first | omega | assumption | exact xpi_lt) only [↓zbE, zbd_some, ↓xk_I, ↓xk_v, zB_0, zB_1, ite_not, ↓reduceIte, zS, zSa_0, zSa_1, zSa_2, zSa_3, zSa_4, zSa_5, zSa_6, zSa_7, zSa_8, zSa_9, zPa_0, zPa_1, zPa_2, zPa_3, zPa_4, xgS_0, xgS_1, xgS_2, xgS_3, xgS_4, xgS_5, xgS_6, xgS_7, xgS_8, xgS_9, xgS_10, xgS_11, xgQ_0, xgQ_1, xgQ_2, xgQ_3, xgQ_4, xgP_0, xgP_1, xgP_2, xgP_3, xgP_4, xgP_5, xgP_6, xgP_7, xgY_0, xiS, xiQ, xiY, xiP, hR.kind hq, hR.reader hq, eq_true h1, eq_true h2]
    · rw [zB_ff (c := r (56 + 6 * q) = 3 ∧ r (60 + 6 * q) = x) (fun h => h2 h.2)]
      simp (disch := first | omega | assumption | exact xpi_lt) only [↓zbE, zbd_some, ↓xk_I, ↓xk_v, zB_0, zB_1, ite_not, ↓reduceIte, zS, zSa_0, zSa_1, zSa_2, zSa_3, zSa_4, zSa_5, zSa_6, zSa_7, zSa_8, zSa_9, zPa_0, zPa_1, zPa_2, zPa_3, zPa_4, xgS_0, xgS_1, xgS_2, xgS_3, xgS_4, xgS_5, xgS_6, xgS_7, xgS_8, xgS_9, xgS_10, xgS_11, xgQ_0, xgQ_1, xgQ_2, xgQ_3, xgQ_4, xgP_0, xgP_1, xgP_2, xgP_3, xgP_4, xgP_5, xgP_6, xgP_7, xgY_0, xiS, xiQ, xiY, xiP, hR.kind hq, hR.reader hq, eq_true h1, h2, yb_65_24]
  · rw [zB_ff (c := r (56 + 6 * q) = 3 ∧ r (60 + 6 * q) = x) (fun h => h1 h.1)]
    simp (disch := first | omega | assumption | exact xpi_lt) only [↓zbE, zbd_some, ↓xk_I, ↓xk_v, zB_0, zB_1, ite_not, ↓reduceIte, zS, zSa_0, zSa_1, zSa_2, zSa_3, zSa_4, zSa_5, zSa_6, zSa_7, zSa_8, zSa_9, zPa_0, zPa_1, zPa_2, zPa_3, zPa_4, xgS_0, xgS_1, xgS_2, xgS_3, xgS_4, xgS_5, xgS_6, xgS_7, xgS_8, xgS_9, xgS_10, xgS_11, xgQ_0, xgQ_1, xgQ_2, xgQ_3, xgQ_4, xgP_0, xgP_1, xgP_2, xgP_3, xgP_4, xgP_5, xgP_6, xgP_7, xgY_0, xiS, xiQ, xiY, xiP, hR.kind hq, h1, yb_65_24]
def kPut (s : xG) (q : Nat) (a b c e : Int32) : xG := xs2 (xs2 (xs2 (xs2 s 1 (upd (s.2 1) q a)) 2 (upd (s.2 2) q b)) 3 (upd (s.2 3) q c)) 4 (upd (s.2 4) q e)
theorem kc_58 {q : Nat} {a b c e : Int32} (hk : k < 13) (hq : q < 20) : xm_C sc xt_M (d + 1) 58 [.ref (xh k), .int (nI q), .int a, .int b, .int c, .int e] (xem w l t) = some (.inl none, xem (xu w (k + 5) (kPut (w (k + 5)) q a b c e)) l t) := by
  rw [yc_58]
  simp (disch := first | omega | assumption | exact xpi_lt) only [↓zbE, zbd_some, ↓xk_I, ↓xk_v, zB_0, zB_1, ite_not, ↓reduceIte, zS, zSa_0, zSa_1, zSa_2, zSa_3, zSa_4, zSa_5, zSa_6, zSa_7, zSa_8, zSa_9, zPa_0, zPa_1, zPa_2, zPa_3, zPa_4, xgS_0, xgS_1, xgS_2, xgS_3, xgS_4, xgS_5, xgS_6, xgS_7, xgS_8, xgS_9, xgS_10, xgS_11, xgQ_0, xgQ_1, xgQ_2, xgQ_3, xgQ_4, xgP_0, xgP_1, xgP_2, xgP_3, xgP_4, xgP_5, xgP_6, xgP_7, xgY_0, xiS, xiQ, xiY, xiP, zSw_1, zSw_2, zSw_3, zSw_4, xu_same, xu_xu]
  rfl
theorem kc_59 {q : Nat} {b : Int32} (hk : k < 13) (hq : q < 20) : xm_C sc xt_M (d + 2) 59 [.ref (xh k), .int (nI q), .int b] (xem w l t) = some (.inl none, xem (xu w (k + 5) (kPut (w (k + 5)) q 0 b (-1) (-1))) l t) := by
  rw [yc_59]
  simp (disch := first | omega | assumption | exact xpi_lt) only [↓zbE, zbd_some, ↓xk_I, ↓xk_v, zB_0, zB_1, ite_not, ↓reduceIte, zS, zSa_0, zSa_1, zSa_2, zSa_3, zSa_4, zSa_5, zSa_6, zSa_7, zSa_8, zSa_9, zPa_0, zPa_1, zPa_2, zPa_3, zPa_4, xgS_0, xgS_1, xgS_2, xgS_3, xgS_4, xgS_5, xgS_6, xgS_7, xgS_8, xgS_9, xgS_10, xgS_11, xgQ_0, xgQ_1, xgQ_2, xgQ_3, xgQ_4, xgP_0, xgP_1, xgP_2, xgP_3, xgP_4, xgP_5, xgP_6, xgP_7, xgY_0, xiS, xiQ, xiY, xiP, kc_58]
theorem kc_104 {a b : Nat} (hk : k < 13) {r : Nat → Int32} (hR : kRel w k r) (ha : a < 6) (hb : b < 6) : xm_C sc xt_M (d + 1) 104 [.ref (xh k + 11), .int (nI a), .int (nI b)] (xem w l t) = some (.inl (some (.int (kD r a b))), xem w l t) := by
  have e := hR.ways ha hb
  rw [yc_104, if_neg (nI_pos (by omega)), if_neg (show ¬ (6 : Int32) ≤ nI a from nI_ge (b := 6) ha (by omega)), if_neg (nI_pos (by omega)), if_pos (show nI b < 6 from nI_lt (b := 6) hb (by omega))]
  simp (disch := first | omega | assumption | exact xpi_lt) only [↓zbE, zbd_some, ↓xk_I, ↓xk_v, zB_0, zB_1, ite_not, ↓reduceIte, zS, zSa_0, zSa_1, zSa_2, zSa_3, zSa_4, zSa_5, zSa_6, zSa_7, zSa_8, zSa_9, zPa_0, zPa_1, zPa_2, zPa_3, zPa_4, xgS_0, xgS_1, xgS_2, xgS_3, xgS_4, xgS_5, xgS_6, xgS_7, xgS_8, xgS_9, xgS_10, xgS_11, xgQ_0, xgQ_1, xgQ_2, xgQ_3, xgQ_4, xgP_0, xgP_1, xgP_2, xgP_3, xgP_4, xgP_5, xgP_6, xgP_7, xgY_0, xiS, xiQ, xiY, xiP, kM6, e]
theorem kc_104_n {a : Nat} (ha : a < 6) {h : Nat} {S : xm_PS} : xm_C sc xt_M (d + 1) 104 [.ref h, .int (nI a), .int (-1)] S = some (.inl (some (.int (-1))), S) := by
  rw [yc_104, if_neg (nI_pos (by omega)), if_neg (show ¬ (6 : Int32) ≤ nI a from nI_ge (b := 6) ha (by omega)), if_pos (by decide), yb_104_20]
end KA
