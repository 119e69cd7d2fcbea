/-! THE CLASS: requests come and go -/
theorem xs2_2 {s : xG} {a : Nat} {f g : Nat → Int32} : xs2 (xs2 s a f) a g = xs2 s a g := by
  refine Prod.ext rfl ?_
  funext x
  show (if x = a then g else if x = a then f else s.2 x) = if x = a then g else s.2 x
  split <;> rfl
def kFO (r : Nat → Int32) (i b : Nat) : Int32 := toJ (xfst (fun q => r (176 + 3 * q) = nI b ∧ xop r (r (178 + 3 * q))) i (xnq r - i))
theorem kFO_0 {r : Nat → Int32} {b : Nat} : kFO r 0 b = toJ (sp_first r (nI b)) := rfl
theorem kFO_n {r : Nat → Int32} {b : Nat} : kFO r (xnq r) b = -1 := by
  unfold kFO
  rw [Nat.sub_self]
  rfl
theorem kFO_s {r : Nat → Int32} {i b : Nat} (hi : i < xnq r) : kFO r i b = if r (176 + 3 * i) = nI b ∧ xop r (r (178 + 3 * i)) then nI i else kFO r (i + 1) b := by
  unfold kFO
  rw [show xnq r - i = (xnq r - (i + 1)) + 1 by omega]
  show toJ (if r (176 + 3 * i) = nI b ∧ xop r (r (178 + 3 * i)) then some i else xfst _ (i + 1) (xnq r - (i + 1))) = _
  split <;> rfl
def kQ (r : Nat → Int32) : Prop := ∀ q, q < xnq r → xil (r (176 + 3 * q)) (xnk r) ∧ xil (r (178 + 3 * q)) (xnb r)
theorem kQ_W {r : Nat → Int32} (hW : xWF r) : kQ r := fun q hq => ⟨(hW.q.1 q hq).1, (hW.q.1 q hq).2.2⟩
section KQ
variable {w : xW} {l : Nat → Nat → Int64} {t : Nat} {sc : xm_Sc} {d k : Nat} {r : Nat → Int32}
theorem kc_40 {m : Int32} (hk : k < 13) (hB : xBd r) (hQ : kQ r) (hc : (w (k + 5)).1 5 = nI (xnq r)) (hq : ∀ q, q < xnq r → (w (k + 5)).2 5 q = r (176 + 3 * q) ∧ (w (k + 5)).2 7 q = r (178 + 3 * q)) (hm : ∀ b, b < xnb r → (bt m b = true) = (r (6 + b) = 1)) :
    ∃ g : Nat → Int32, xm_C sc xt_M (d + 1) 40 [.ref (xh k + 6), .int m] (xem w l t) = some (.inl none, xem (xu w (k + 5) (xs2 (w (k + 5)) 8 g)) l t) ∧ ∀ b, b < 20 → g b = toJ (sp_first r (nI b)) := by
  have hk20 := hB.k20
  have hq40 := hB.q40
  have hb6 := hB.b6
  have all : ∀ i, i ≤ xnq r → ∀ g : Nat → Int32, (∀ b, b < 20 → g b = kFO r i b) → ∃ g' : Nat → Int32, (∀ b, b < 20 → g' b = kFO r 0 b) ∧ xm_R sc xt_M d 40 28 [.ref (xh k + 6), .int m, .int (nI i + (-1))] [] (xem (xu w (k + 5) (xs2 (w (k + 5)) 8 g)) l t) = some (.inl none, xem (xu w (k + 5) (xs2 (w (k + 5)) 8 g')) l t) := by
    intro i
    induction i with
    | zero =>
      intro _ g hg
      refine ⟨g, hg, ?_⟩
      rw [yb_40_28, if_pos (show nI 0 + (-1) < 0 by decide)]
    | succ i ih =>
      intro hi g hg
      obtain ⟨q1, q2⟩ := hq i (by omega)
      obtain ⟨bk, b1, b2⟩ : ∃ bk, r (176 + 3 * i) = nI bk ∧ bk < xnk r := ⟨_, (hQ i (by omega)).1.1, (hQ i (by omega)).1.2⟩
      obtain ⟨br, c1, c2⟩ : ∃ br, r (178 + 3 * i) = nI br ∧ br < xnb r := ⟨_, (hQ i (by omega)).2.1, (hQ i (by omega)).2.2⟩
      have hs := fun b => @kFO_s r i b (by omega)
      have q1' := q1.trans b1
      have q2' := q2.trans c1
      have hmb := hm br c2
      have hxo : xop r (r (178 + 3 * i)) ↔ r (6 + br) = 1 := by unfold xop; rw [c1, nI_clamp (by omega)]
      rw [pk_m1]
      by_cases ho : r (6 + br) = 1
      · obtain ⟨g', h1, h2⟩ := ih (by omega) (upd g bk (nI i)) (fun b hb => by
          rw [hs b]
          by_cases e : b = bk
          · rw [e, zu1, if_pos ⟨b1, hxo.mpr ho⟩]
          · rw [zun e, if_neg (fun z => e (nI_inj (by omega) (by omega) (z.1.symm.trans b1)))]
            exact hg b hb)
        refine ⟨g', h1, Eq.trans ?_ h2⟩
        rw [yb_40_28, if_neg (nI_pos (by omega))]
        simp (disch := first | omega | assumption | exact xpi_lt | decide) only [↓zbE, zbd_some, ↓xk_I, ↓xk_v, zB_0, zB_1, ite_not, ↓reduceIte, zS, zSa_0, zSa_1, zSa_2, zSa_3, zSa_4, zSa_5, zSa_6, zSa_7, zSa_8, zSa_9, zPa_0, zPa_1, zPa_2, zPa_3, zPa_4, xgS_0, xgS_1, xgS_2, xgS_3, xgS_4, xgS_5, xgS_6, xgS_7, xgS_8, xgS_9, xgS_10, xgS_11, xgQ_0, xgQ_1, xgQ_2, xgQ_3, xgQ_4, xgP_0, xgP_1, xgP_2, xgP_3, xgP_4, xgP_5, xgP_6, xgP_7, xgY_0, xiS, xiQ, xiY, xiP, q1', q2', kb1, hmb, eq_true ho, zSw_8, yb_40_58, xu_same, xu_xu, xs2_1, xs2_same, xs2_ne, xs1_2, xs1_ne, xs1_same, xs2_2]
      · obtain ⟨g', h1, h2⟩ := ih (by omega) g (fun b hb => by
          rw [hs b, if_neg (fun z => ho (hxo.mp z.2))]
          exact hg b hb)
        refine ⟨g', h1, Eq.trans ?_ h2⟩
        rw [yb_40_28, if_neg (nI_pos (by omega))]
        simp (disch := first | omega | assumption | exact xpi_lt | decide) only [↓zbE, zbd_some, ↓xk_I, ↓xk_v, zB_0, zB_1, ite_not, ↓reduceIte, zS, zSa_0, zSa_1, zSa_2, zSa_3, zSa_4, zSa_5, zSa_6, zSa_7, zSa_8, zSa_9, zPa_0, zPa_1, zPa_2, zPa_3, zPa_4, xgS_0, xgS_1, xgS_2, xgS_3, xgS_4, xgS_5, xgS_6, xgS_7, xgS_8, xgS_9, xgS_10, xgS_11, xgQ_0, xgQ_1, xgQ_2, xgQ_3, xgQ_4, xgP_0, xgP_1, xgP_2, xgP_3, xgP_4, xgP_5, xgP_6, xgP_7, xgY_0, xiS, xiQ, xiY, xiP, q1', q2', kb1, hmb, eq_false ho, yb_40_58, xu_same, xu_xu, xs2_1, xs2_same, xs2_ne, xs1_2, xs1_ne, xs1_same, xs2_2]
  have first := xlp (fun j => xm_R sc xt_M d 40 2 [.ref (xh k + 6), .int m, .int (nI j)] [] (xem (xu w (k + 5) (xs2 (w (k + 5)) 8 (fun q => if q < j then -1 else (w (k + 5)).2 8 q))) l t)) (K := xm_R sc xt_M d 40 28 [.ref (xh k + 6), .int m, .int (nI (xnq r) + (-1))] [] (xem (xu w (k + 5) (xs2 (w (k + 5)) 8 (fun q => if q < 20 then -1 else (w (k + 5)).2 8 q))) l t)) 20 (by
    intro j hj
    have e : upd (fun q => if q < j then (-1 : Int32) else (w (k + 5)).2 8 q) j (-1) = fun q => if q < j + 1 then -1 else (w (k + 5)).2 8 q := by
      funext q
      unfold upd
      by_cases h : q = j
      · rw [if_pos h, if_pos (by omega)]
      · rw [if_neg h]
        dsimp only
        by_cases h2 : q < j
        · rw [if_pos h2, if_pos (by omega)]
        · rw [if_neg h2, if_neg (by omega)]
    rw [yb_40_2, if_neg (show ¬ (20 : Int32) ≤ nI j from nI_ge (b := 20) hj (by omega))]
    simp (disch := first | omega | assumption | exact xpi_lt | decide) only [↓zbE, zbd_some, ↓xk_I, ↓xk_v, zB_0, zB_1, ite_not, ↓reduceIte, zS, zSa_0, zSa_1, zSa_2, zSa_3, zSa_4, zSa_5, zSa_6, zSa_7, zSa_8, zSa_9, zPa_0, zPa_1, zPa_2, zPa_3, zPa_4, xgS_0, xgS_1, xgS_2, xgS_3, xgS_4, xgS_5, xgS_6, xgS_7, xgS_8, xgS_9, xgS_10, xgS_11, xgQ_0, xgQ_1, xgQ_2, xgQ_3, xgQ_4, xgP_0, xgP_1, xgP_2, xgP_3, xgP_4, xgP_5, xgP_6, xgP_7, xgY_0, xiS, xiQ, xiY, xiP, zSw_8, e, xu_same, xu_xu, xs2_1, xs2_same, xs2_ne, xs1_2, xs1_ne, xs1_same, xs2_2]) (by
    rw [yb_40_2, if_pos (show (20 : Int32) ≤ nI 20 from nI_le (Nat.le_refl _) (by omega))]
    simp (disch := first | omega | assumption | exact xpi_lt | decide) only [↓zbE, zbd_some, ↓xk_I, ↓xk_v, zB_0, zB_1, ite_not, ↓reduceIte, zS, zSa_0, zSa_1, zSa_2, zSa_3, zSa_4, zSa_5, zSa_6, zSa_7, zSa_8, zSa_9, zPa_0, zPa_1, zPa_2, zPa_3, zPa_4, xgS_0, xgS_1, xgS_2, xgS_3, xgS_4, xgS_5, xgS_6, xgS_7, xgS_8, xgS_9, xgS_10, xgS_11, xgQ_0, xgQ_1, xgQ_2, xgQ_3, xgQ_4, xgP_0, xgP_1, xgP_2, xgP_3, xgP_4, xgP_5, xgP_6, xgP_7, xgY_0, xiS, xiQ, xiY, xiP, hc, Int32.sub_eq_add_neg, xu_same, xu_xu, xs2_1, xs2_same, xs2_ne, xs1_2, xs1_ne, xs1_same, xs2_2])
  obtain ⟨g', h1, h2⟩ := all (xnq r) (Nat.le_refl _) (fun q => if q < 20 then -1 else (w (k + 5)).2 8 q) (fun b hb => by
    rw [kFO_n]
    exact if_pos hb)
  refine ⟨g', ?_, h1⟩
  rw [yc_40]
  refine Eq.trans ?_ (first.trans h2)
  have e0 : xu w (k + 5) (xs2 (w (k + 5)) 8 (fun q => if q < 0 then -1 else (w (k + 5)).2 8 q)) = w := by
    have e1 : (fun q => if q < 0 then (-1 : Int32) else (w (k + 5)).2 8 q) = (w (k + 5)).2 8 := by
      funext q
      exact if_neg (by omega)
    have e2 : xs2 (w (k + 5)) 8 ((w (k + 5)).2 8) = w (k + 5) := by
      refine Prod.ext rfl ?_
      funext x
      show (if x = 8 then (w (k + 5)).2 8 else (w (k + 5)).2 x) = (w (k + 5)).2 x
      split
      · next h => rw [h]
      · rfl
    rw [e1, e2, xu_self]
  rw [e0]
  rfl
def kSh (f : Nat → Int32) (p m : Nat) : Nat → Int32 := fun j => if p ≤ j ∧ j < p + m then f (j + 1) else f j
theorem kSh_0 {f : Nat → Int32} {p : Nat} : kSh f p 0 = f := by
  funext j
  exact if_neg (by omega)
theorem kSh_s {f : Nat → Int32} {p m : Nat} : upd (kSh f p m) (p + m) (f (p + m + 1)) = kSh f p (m + 1) := by
  funext j
  unfold kSh upd
  by_cases h : j = p + m
  · rw [if_pos h, if_pos (by omega), h]
  · rw [if_neg h]
    dsimp only
    by_cases g : p ≤ j ∧ j < p + m
    · rw [if_pos g, if_pos (by omega)]
    · rw [if_neg g, if_neg (by omega)]
theorem kSh_n {f : Nat → Int32} {p m : Nat} : kSh f p m (p + m + 1) = f (p + m + 1) := if_neg (by omega)
theorem kSh_q {f : Nat → Int32} {p n q : Nat} (hp : p ≤ n) (hq : q < n) : kSh f p (n - p) q = f (xsg p q) := by
  unfold kSh xsg
  by_cases h : q < p
  · rw [if_neg (by omega), if_pos h]
  · rw [if_pos (by omega), if_neg h]
def kRm (s : xG) (p m n : Nat) : xG := (upd s.1 5 (nI n), fun a => if a = 5 ∨ a = 6 ∨ a = 7 then kSh (s.2 a) p m else s.2 a)
section RM2
variable {s : xG} {p m n : Nat}
theorem kRm_1 : (kRm s p m n).1 5 = nI n := rfl
theorem kRm_5 : (kRm s p m n).2 5 = kSh (s.2 5) p m := rfl
theorem kRm_6 : (kRm s p m n).2 6 = kSh (s.2 6) p m := rfl
theorem kRm_7 : (kRm s p m n).2 7 = kSh (s.2 7) p m := rfl
theorem kRm_s : xs2 (xs2 (xs2 (kRm s p m n) 5 (kSh (s.2 5) p (m + 1))) 6 (kSh (s.2 6) p (m + 1))) 7 (kSh (s.2 7) p (m + 1)) = kRm s p (m + 1) n := by
  refine Prod.ext rfl ?_
  funext a
  show (if a = 7 then kSh (s.2 7) p (m + 1) else if a = 6 then kSh (s.2 6) p (m + 1) else if a = 5 then kSh (s.2 5) p (m + 1) else if a = 5 ∨ a = 6 ∨ a = 7 then kSh (s.2 a) p m else s.2 a) = if a = 5 ∨ a = 6 ∨ a = 7 then kSh (s.2 a) p (m + 1) else s.2 a
  by_cases h7 : a = 7
  · rw [if_pos h7, if_pos (by omega), h7]
  · by_cases h6 : a = 6
    · rw [if_neg h7, if_pos h6, if_pos (by omega), h6]
    · by_cases h5 : a = 5
      · rw [if_neg h7, if_neg h6, if_pos h5, if_pos (by omega), h5]
      · rw [if_neg h7, if_neg h6, if_neg h5, if_neg (by omega), if_neg (by omega)]
theorem kRm_0 : kRm s p 0 n = xs1 s 5 (nI n) := by
  refine Prod.ext rfl ?_
  funext a
  show (if a = 5 ∨ a = 6 ∨ a = 7 then kSh (s.2 a) p 0 else s.2 a) = s.2 a
  rw [kSh_0]
  split <;> rfl
end RM2
theorem kc_39 {p n : Nat} (hk : k < 13) (hp : p < n + 1) (hn : n < 40) (hc : (w (k + 5)).1 5 = nI (n + 1)) : xm_C sc xt_M (d + 1) 39 [.ref (xh k + 6), .int (nI p)] (xem w l t) = some (.inl none, xem (xu w (k + 5) (kRm (w (k + 5)) p (n - p) n)) l t) := by
  have L := xlp (fun m => xm_R sc xt_M d 39 25 [.ref (xh k + 6), .int (nI p), .int (nI (p + m))] [] (xem (xu w (k + 5) (kRm (w (k + 5)) p m n)) l t)) (K := some (.inl none, xem (xu w (k + 5) (kRm (w (k + 5)) p (n - p) n)) l t)) (n - p) (by
    intro m hm
    rw [yb_39_25]
    simp (disch := first | omega | assumption | exact xpi_lt | decide) only [↓zbE, zbd_some, ↓xk_I, ↓xk_v, zB_0, zB_1, ite_not, ↓reduceIte, zS, zSa_0, zSa_1, zSa_2, zSa_3, zSa_4, zSa_5, zSa_6, zSa_7, zSa_8, zSa_9, zPa_0, zPa_1, zPa_2, zPa_3, zPa_4, xgS_0, xgS_1, xgS_2, xgS_3, xgS_4, xgS_5, xgS_6, xgS_7, xgS_8, xgS_9, xgS_10, xgS_11, xgQ_0, xgQ_1, xgQ_2, xgQ_3, xgQ_4, xgP_0, xgP_1, xgP_2, xgP_3, xgP_4, xgP_5, xgP_6, xgP_7, xgY_0, xiS, xiQ, xiY, xiP, kRm_1, kRm_5, kRm_6, kRm_7, kSh_n, kSh_s, kRm_s, zSw_5, zSw_6, zSw_7, nI_ge, xu_same, xu_xu, xs2_1, xs2_same, xs2_ne, xs1_2, xs1_ne, xs1_same, xs2_2]
    rfl) (by
    rw [yb_39_25, show p + (n - p) = n by omega]
    simp (disch := first | omega | assumption | exact xpi_lt | decide) only [↓zbE, zbd_some, ↓xk_I, ↓xk_v, zB_0, zB_1, ite_not, ↓reduceIte, zS, zSa_0, zSa_1, zSa_2, zSa_3, zSa_4, zSa_5, zSa_6, zSa_7, zSa_8, zSa_9, zPa_0, zPa_1, zPa_2, zPa_3, zPa_4, xgS_0, xgS_1, xgS_2, xgS_3, xgS_4, xgS_5, xgS_6, xgS_7, xgS_8, xgS_9, xgS_10, xgS_11, xgQ_0, xgQ_1, xgQ_2, xgQ_3, xgQ_4, xgP_0, xgP_1, xgP_2, xgP_3, xgP_4, xgP_5, xgP_6, xgP_7, xgY_0, xiS, xiQ, xiY, xiP, kRm_1, nI_le, xu_same, xu_xu, xs2_1, xs2_same, xs2_ne, xs1_2, xs1_ne, xs1_same, xs2_2])
  rw [yc_39, if_neg (nI_pos (by omega))]
  refine Eq.trans ?_ L
  rw [kRm_0]
  have hlt : nI p < nI (n + 1) := nI_lt hp (by omega)
  simp (disch := first | omega | assumption | exact xpi_lt | decide) only [↓zbE, zbd_some, ↓xk_I, ↓xk_v, zB_0, zB_1, ite_not, ↓reduceIte, zS, zSa_0, zSa_1, zSa_2, zSa_3, zSa_4, zSa_5, zSa_6, zSa_7, zSa_8, zSa_9, zPa_0, zPa_1, zPa_2, zPa_3, zPa_4, xgS_0, xgS_1, xgS_2, xgS_3, xgS_4, xgS_5, xgS_6, xgS_7, xgS_8, xgS_9, xgS_10, xgS_11, xgQ_0, xgQ_1, xgQ_2, xgQ_3, xgQ_4, xgP_0, xgP_1, xgP_2, xgP_3, xgP_4, xgP_5, xgP_6, xgP_7, xgY_0, xiS, xiQ, xiY, xiP, hc, eq_true hlt, nI_pred, xsQ_0, xu_same, xu_xu, xs2_1, xs2_same, xs2_ne, xs1_2, xs1_ne, xs1_same, xs2_2]
  rfl
def kAd (s : xG) (n : Nat) (a rd b : Int32) : xG := xs1 (xs2 (xs2 (xs2 s 5 (upd (s.2 5) n a)) 6 (upd (s.2 6) n rd)) 7 (upd (s.2 7) n b)) 5 (nI (n + 1))
theorem kc_38 {n : Nat} {a rd b : Int32} (hk : k < 13) (hn : n < 40) (hc : (w (k + 5)).1 5 = nI n) : xm_C sc xt_M (d + 1) 38 [.ref (xh k + 6), .int a, .int rd, .int b] (xem w l t) = some (.inl none, xem (xu w (k + 5) (kAd (w (k + 5)) n a rd b)) l t) := by
  have hlt : ¬ (40 : Int32) ≤ nI n := nI_ge (b := 40) hn (by omega)
  rw [yc_38]
  simp (disch := first | omega | assumption | exact xpi_lt | decide) only [↓zbE, zbd_some, ↓xk_I, ↓xk_v, zB_0, zB_1, ite_not, ↓reduceIte, zS, zSa_0, zSa_1, zSa_2, zSa_3, zSa_4, zSa_5, zSa_6, zSa_7, zSa_8, zSa_9, zPa_0, zPa_1, zPa_2, zPa_3, zPa_4, xgS_0, xgS_1, xgS_2, xgS_3, xgS_4, xgS_5, xgS_6, xgS_7, xgS_8, xgS_9, xgS_10, xgS_11, xgQ_0, xgQ_1, xgQ_2, xgQ_3, xgQ_4, xgP_0, xgP_1, xgP_2, xgP_3, xgP_4, xgP_5, xgP_6, xgP_7, xgY_0, xiS, xiQ, xiY, xiP, hc, eq_false hlt, zSw_5, zSw_6, zSw_7, xsQ_0, yb_38_49, xu_same, xu_xu, xs2_1, xs2_same, xs2_ne, xs1_2, xs1_ne, xs1_same, xs2_2]
  rfl
end KQ
