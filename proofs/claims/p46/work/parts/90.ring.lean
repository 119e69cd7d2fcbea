/-! rows that the operations make -/
theorem xWF_addq {r : Nat → Int32} {a b : Nat} {rd : Int32} (h : xWF r) (hn : xnq r < 40) (ha : a < xnk r) (hb : b < xnb r) (hr : xil rd 100) (hno : sp_by r (nI a) rd = none) : xWF (sp_addq r (nI a) rd (nI b)) := by
  have hv4 := h.bd.v4
  have hk20 := h.bd.k20
  have hb6 := h.bd.b6
  have hB' := @sp_addq_bd r (nI a) rd (nI b) h.bd hn
  have e : ∀ i, i ≠ 3 → i < 176 + 3 * xnq r → sp_addq r (nI a) rd (nI b) i = r i := fun i h1 h2 => sp_addq_h h1 h2
  have e0 : xnb (sp_addq r (nI a) rd (nI b)) = xnb r := by unfold xnb; rw [e 0 (by omega) (by omega)]
  have e1 : xnv (sp_addq r (nI a) rd (nI b)) = xnv r := by unfold xnv; rw [e 1 (by omega) (by omega)]
  have e2 : xnk (sp_addq r (nI a) rd (nI b)) = xnk r := by unfold xnk; rw [e 2 (by omega) (by omega)]
  have e3 : xnq (sp_addq r (nI a) rd (nI b)) = xnq r + 1 := by unfold xnq; rw [sp_addq_3, nI_clamp (by omega)]; rfl
  have q6 : sp_addq r (nI a) rd (nI b) (176 + 3 * xnq r) = nI a := by
    unfold sp_addq
    rw [zun (by omega), zun (by omega), zun (by omega), zu1]
  have q7 : sp_addq r (nI a) rd (nI b) (177 + 3 * xnq r) = rd := by
    unfold sp_addq
    rw [zun (by omega), zun (by omega), zu1]
  have q8 : sp_addq r (nI a) rd (nI b) (178 + 3 * xnq r) = nI b := by
    unfold sp_addq
    rw [zun (by omega), zu1]
  have hno' : ∀ q, q < xnq r → ¬ (r (176 + 3 * q) = nI a ∧ r (177 + 3 * q) = rd) := fun q hq => xfst_none hno q (by omega) (by omega)
  refine ⟨hB', ?_, ?_, ?_, ?_, ?_⟩
  · unfold xWn
    rw [e0, e1, e 4 (by omega) (by omega), e 5 (by omega) (by omega)]
    exact h.n
  · intro c hc
    rw [e (6 + c) (by omega) (by omega)]
    exact h.o c hc
  · intro v hv
    rw [e1] at hv
    obtain ⟨a1, a2, a3, a4, a5⟩ := h.v v hv
    have a2' := a2.2
    unfold xst at *
    rw [e (12 + 11 * v) (by omega) (by omega), e (13 + 11 * v) (by omega) (by omega), e (14 + 11 * v) (by omega) (by omega), e0]
    refine ⟨a1, a2, a3, a4, fun s hs => ?_⟩
    rw [e (15 + 11 * v + s) (by omega) (by omega)]
    exact a5 s hs
  · intro k hk
    rw [e2] at hk
    have c := h.k k hk
    rw [e0, e1, e3, e (56 + 6 * k) (by omega) (by omega), e (57 + 6 * k) (by omega) (by omega), e (58 + 6 * k) (by omega) (by omega), e (59 + 6 * k) (by omega) (by omega), e (60 + 6 * k) (by omega) (by omega)]
    refine ⟨c.1, c.2.1, c.2.2.1, c.2.2.2.1, c.2.2.2.2.1, c.2.2.2.2.2.1, fun z => ?_, c.2.2.2.2.2.2.2⟩
    obtain ⟨q, q1, q2, q3⟩ := c.2.2.2.2.2.2.1 z
    refine ⟨q, by omega, ?_, ?_⟩
    · rw [e (176 + 3 * q) (by omega) (by omega)]; exact q2
    · rw [e (177 + 3 * q) (by omega) (by omega)]; exact q3
  · unfold xWq
    rw [e3, e2, e0]
    refine ⟨fun q hq => ?_, fun p q hp hq => ?_⟩
    · by_cases hx : q = xnq r
      · subst hx
        rw [q6, q7, q8]
        exact ⟨xil_nI ha (by omega), hr, xil_nI hb (by omega)⟩
      · rw [e (176 + 3 * q) (by omega) (by omega), e (177 + 3 * q) (by omega) (by omega), e (178 + 3 * q) (by omega) (by omega)]
        exact h.q.1 q (by omega)
    · rw [e (176 + 3 * p) (by omega) (by omega), e (177 + 3 * p) (by omega) (by omega)]
      by_cases hx : q = xnq r
      · subst hx
        rw [q6, q7]
        exact fun z1 z2 => hno' p hp ⟨z1, z2⟩
      · rw [e (176 + 3 * q) (by omega) (by omega), e (177 + 3 * q) (by omega) (by omega)]
        exact h.q.2 p q hp (by omega)
theorem sp_by_is {r : Nat → Int32} {b rd : Int32} {q : Nat} (h : sp_by r b rd = some q) : q < xnq r ∧ r (176 + 3 * q) = b ∧ r (177 + 3 * q) = rd := ⟨sp_by_lt h, (xfst_some h).1⟩
theorem sp_drop_upd {r : Nat → Int32} {i p : Nat} {x : Int32} (hi : i < 176) (h3 : i ≠ 3) : sp_drop (upd r i x) p = upd (sp_drop r p) i x := by
  have e3 : xnq (upd r i x) = xnq r := by unfold xnq; rw [zun (by omega)]
  funext j
  by_cases h : j < 176
  · by_cases hj : j = 3
    · subst hj
      rw [zun (by omega), sp_drop_3, sp_drop_3, e3]
    · by_cases hji : j = i
      · subst hji
        rw [sp_drop_h hj h, zu1, zu1]
      · rw [sp_drop_h hj h, zun hji, zun hji, sp_drop_h hj h]
  · rw [zun (by omega)]
    unfold sp_drop
    rw [e3]
    show (if 176 + 3 * (xnq r - 1) ≤ j ∧ j < 176 + 3 * (xnq r - 1) + 3 then (0 : Int32) else if j = 3 then nI (xnq r - 1) else if 176 + 3 * p ≤ j ∧ j < 176 + 3 * p + 3 * (xnq r - 1 - p) then upd r i x (j + 3) else upd r i x j) = (if 176 + 3 * (xnq r - 1) ≤ j ∧ j < 176 + 3 * (xnq r - 1) + 3 then (0 : Int32) else if j = 3 then nI (xnq r - 1) else if 176 + 3 * p ≤ j ∧ j < 176 + 3 * p + 3 * (xnq r - 1 - p) then r (j + 3) else r j)
    rw [zun (by omega), zun (by omega)]
theorem xWF_cancel {r : Nat → Int32} {k q : Nat} {rd : Int32} (h : xWF r) (hk : k < xnk r) (hb : sp_by r (nI k) rd = some q) : xWF (if sp_hf r k rd then sp_put r k 0 (r (57 + 6 * k)) else r) ∧ xWF (sp_drop (if sp_hf r k rd then sp_put r k 0 (r (57 + 6 * k)) else r) q) := by
  have hk20 := h.bd.k20
  obtain ⟨b1, b2, b3⟩ := sp_by_is hb
  by_cases g : sp_hf r k rd
  · rw [if_pos g]
    have hpl := (h.k k hk).2.2.2.1 (Or.inr g.1)
    have h1 : xWF (sp_put r k 0 (r (57 + 6 * k))) := xWF_put h hk (Or.inl ⟨rfl, hpl⟩)
    have e : ∀ i, i < 56 ∨ 176 ≤ i → sp_put r k 0 (r (57 + 6 * k)) i = r i := fun i hi => sp_put_h (by omega) hi
    have e2 : xnk (sp_put r k 0 (r (57 + 6 * k))) = xnk r := by unfold xnk; rw [e 2 (by omega)]
    have e3 : xnq (sp_put r k 0 (r (57 + 6 * k))) = xnq r := by unfold xnq; rw [e 3 (by omega)]
    refine ⟨h1, (xWF_drop h1 (by rw [e3]; exact b1) (fun j hj hj2 z => ?_)).1⟩
    rw [e2] at hj
    rw [e _ (by omega), b2] at z
    have ejk := nI_inj (by omega) (by omega) z.1
    subst ejk
    rw [sp_put_0] at hj2
    exact absurd hj2 (by decide)
  · rw [if_neg g]
    refine ⟨h, (xWF_drop h b1 (fun j hj hj2 z => ?_)).1⟩
    rw [b2, b3] at z
    have ejk := nI_inj (by omega) (by omega) z.1
    subst ejk
    exact g ⟨hj2, z.2.symm⟩
theorem xWF_recall {r : Nat → Int32} {k : Nat} (h : xWF r) (hk : k < xnk r) : xWF (upd r (59 + 6 * k) 1) := by
  have hk20 := h.bd.k20
  have e : ∀ i, i ≠ 59 + 6 * k → upd r (59 + 6 * k) 1 i = r i := fun i hi => zun hi
  have c := h.k k hk
  refine xWF_book h hk (fun i hi => e i (by omega)) ?_
  have e0 : xnb (upd r (59 + 6 * k) 1) = xnb r := by unfold xnb; rw [e 0 (by omega)]
  have e1 : xnv (upd r (59 + 6 * k) 1) = xnv r := by unfold xnv; rw [e 1 (by omega)]
  have e3 : xnq (upd r (59 + 6 * k) 1) = xnq r := by unfold xnq; rw [e 3 (by omega)]
  unfold xBk
  rw [e0, e1, e3, e (56 + 6 * k) (by omega), e (57 + 6 * k) (by omega), e (58 + 6 * k) (by omega), zu1, e (60 + 6 * k) (by omega)]
  refine ⟨c.1, c.2.1, Or.inr rfl, c.2.2.2.1, c.2.2.2.2.1, c.2.2.2.2.2.1, fun z => ?_, c.2.2.2.2.2.2.2⟩
  obtain ⟨q, q1, q2, q3⟩ := c.2.2.2.2.2.2.1 z
  refine ⟨q, q1, ?_, ?_⟩
  · rw [e (176 + 3 * q) (by omega)]; exact q2
  · rw [e (177 + 3 * q) (by omega)]; exact q3
theorem xWF_rec2 {r : Nat → Int32} {k : Nat} (h : xWF r) (hk : k < xnk r) : xWF (upd (if r (56 + 6 * k) = 2 then sp_put r k 0 (r (57 + 6 * k)) else r) (59 + 6 * k) 1) := by
  have hk20 := h.bd.k20
  by_cases g : r (56 + 6 * k) = 2
  · rw [if_pos g]
    refine xWF_recall (xWF_put h hk (Or.inl ⟨rfl, (h.k k hk).2.2.2.1 (Or.inr g)⟩)) ?_
    unfold xnk
    rw [sp_put_h (by omega) (by omega)]
    exact hk
  · rw [if_neg g]
    exact xWF_recall h hk
theorem xWF_take {r : Nat → Int32} {k q : Nat} {rd : Int32} (h : xWF r) (hk : k < xnk r) (hf : sp_hf r k rd) (hb : sp_by r (nI k) rd = some q) : xWF (upd (sp_put (sp_drop r q) k 3 (-1)) (60 + 6 * k) rd) := by
  have hk20 := h.bd.k20
  have hk20' : k < 20 := by omega
  obtain ⟨b1, b2, b3⟩ := sp_by_is hb
  have hrd : xil rd 100 := by rw [← b3]; exact (h.q.1 q b1).2.1
  have c := h.k k hk
  have e : ∀ i, i < 56 + 6 * k ∨ 62 + 6 * k ≤ i → upd (sp_put r k 3 (-1)) (60 + 6 * k) rd i = r i := fun i hi => (zun (by omega)).trans (sp_put_ne hi)
  have e0 : xnb (upd (sp_put r k 3 (-1)) (60 + 6 * k) rd) = xnb r := by unfold xnb; rw [e 0 (by omega)]
  have e1 : xnv (upd (sp_put r k 3 (-1)) (60 + 6 * k) rd) = xnv r := by unfold xnv; rw [e 1 (by omega)]
  have e2 : xnk (upd (sp_put r k 3 (-1)) (60 + 6 * k) rd) = xnk r := by unfold xnk; rw [e 2 (by omega)]
  have e3 : xnq (upd (sp_put r k 3 (-1)) (60 + 6 * k) rd) = xnq r := by unfold xnq; rw [e 3 (by omega)]
  have d0 : upd (sp_put r k 3 (-1)) (60 + 6 * k) rd (56 + 6 * k) = 3 := (zun (by omega)).trans sp_put_0
  have d1 : upd (sp_put r k 3 (-1)) (60 + 6 * k) rd (57 + 6 * k) = -1 := (zun (by omega)).trans sp_put_1
  have d2 : upd (sp_put r k 3 (-1)) (60 + 6 * k) rd (58 + 6 * k) = r (58 + 6 * k) := (zun (by omega)).trans sp_put_2
  have d3 : upd (sp_put r k 3 (-1)) (60 + 6 * k) rd (59 + 6 * k) = r (59 + 6 * k) := (zun (by omega)).trans sp_put_3
  have d4 : upd (sp_put r k 3 (-1)) (60 + 6 * k) rd (60 + 6 * k) = rd := zu1
  have h1 : xWF (upd (sp_put r k 3 (-1)) (60 + 6 * k) rd) := by
    refine xWF_book h hk e ?_
    unfold xBk
    rw [e0, e1, e3, d0, d1, d2, d3, d4]
    exact ⟨xil_nI (n := 3) (by omega) (by omega), c.2.1, c.2.2.1, fun z => absurd z (by decide), fun z => absurd z (by decide), fun _ => rfl, fun z => absurd z (by decide), fun _ => hrd⟩
  have h2 := (xWF_drop h1 (by rw [e3]; exact b1) (fun j hj hj2 z => by
    rw [e2] at hj
    rw [e _ (by omega), b2] at z
    have ejk := nI_inj (by omega) (by omega) z.1
    subst ejk
    rw [d0] at hj2
    exact absurd hj2 (by decide))).1
  rw [sp_drop_upd (by omega) (by omega), sp_drop_put hk20'] at h2
  exact h2
theorem xWF_hold {r : Nat → Int32} {x : Int32} (h : xWF r) (hx : 1 ≤ x ∧ x ≤ 50) : xWF (upd r 5 x) := by
  refine xWF_low h (fun i h5 _ => zun h5) ?_ (fun b hb => ?_)
  · rw [zu1]
    obtain ⟨n, hn, rfl⟩ := zrg (m := 51) (by omega) ⟨Int32.le_trans (by decide) hx.1, show x ≤ nI 51 - 1 from hx.2⟩
    exact xil_nI hn (by omega)
  · rw [zun (by omega)]
    exact h.o b hb
/-! THE CLASS: the ring of former states -/
/-- a state recorded: n states were there, the next comes to m -/
def kRec (w w' : xW) (n m : Nat) : Prop := (∀ g, g ≠ 0 → g ≠ m + 8 → w' g = w g) ∧ (w' 0).2 = (w 0).2 ∧ (∀ i, i ≠ 13 → i ≠ 14 → (w' 0).1 i = (w 0).1 i) ∧ (w' 0).1 13 = nI (if n = 10 then 10 else n + 1) ∧ (w' 0).1 14 = nI ((m + 1) % 10) ∧ kCpd (w' (m + 8)) (w 5)
def kOps (w w' : xW) (r' : Nat → Int32) (n m : Nat) : Prop := (∀ g, g ≠ 0 → g ≠ 5 → g ≠ m + 8 → w' g = w g) ∧ (w' 0).2 = (w 0).2 ∧ (∀ i, i ≠ 13 → i ≠ 14 → (w' 0).1 i = (w 0).1 i) ∧ (w' 0).1 13 = nI (if n = 10 then 10 else n + 1) ∧ (w' 0).1 14 = nI ((m + 1) % 10) ∧ kCpd (w' (m + 8)) (w 5) ∧ (w' 5).1 0 = (w 5).1 0 ∧ kRel w' 0 r'
def kOpA (o : Option xm_O) (w : xW) (l : Nat → Nat → Int64) (t n m : Nat) (e : Int32 → Nat) (s : Int32 × Int32 × Option (Nat → Int32)) : Prop := match s.2.2 with
  | none => kAn o w l t (e s.1) (s.1, s.2.1)
  | some r' => s.1 = 0 ∧ ∃ w', o = some (.inl (some (.int s.2.1)), xem w' l t) ∧ kOps w w' r' n m
theorem kRel_cg {w w' : xW} {k : Nat} {r : Nat → Int32} (h5 : w' (k + 5) = w (k + 5)) (hp : ∀ g, 1 ≤ g → g ≤ 2 → w' g = w g) (hR : kRel w k r) : kRel w' k r := by
  have := @xpi_lt (w (k + 5))
  unfold kRel
  rw [h5, hp _ (by omega) (by omega)]
  exact hR
theorem kRec.R {w w' : xW} {n m : Nat} {r : Nat → Int32} (h : kRec w w' n m) (hR : kRel w 0 r) : kRel w' 0 r := kRel_cg (h.1 _ (by omega) (by omega)) (fun g h1 h2 => h.1 g (by omega) (by omega)) hR
theorem kOps_of {w w1 : xW} {n m : Nat} {s : xG} {r' : Nat → Int32} (h : kRec w w1 n m) (e : s.1 0 = (w1 5).1 0) (hR : kRel (xu w1 5 s) 0 r') : kOps w (xu w1 5 s) r' n m := by
  obtain ⟨h1, h2, h3, h4, h5, h6⟩ := h
  refine ⟨fun g g0 g5 g8 => (xu_ne g5).trans (h1 g g0 g8), ?_, fun i i1 i2 => ?_, ?_, ?_, ?_, ?_, hR⟩
  · rw [xu_ne (by omega)]; exact h2
  · rw [xu_ne (by omega)]; exact h3 i i1 i2
  · rw [xu_ne (by omega)]; exact h4
  · rw [xu_ne (by omega)]; exact h5
  · rw [xu_ne (by omega)]; exact h6
  · rw [xu_same, e, h1 5 (by omega) (by omega)]
section RG
variable {w : xW} {l : Nat → Nat → Int64} {t : Nat} {sc : xm_Sc} {d : Nat} {r : Nat → Int32}
theorem kc_2 {n m : Nat} (hn : n ≤ 10) (hm : m < 10) (h13 : (w 0).1 13 = nI n) (h14 : (w 0).1 14 = nI m) : ∃ w', xm_C sc xt_M (d + 3) 2 [.ref 59, .ref (xh 0)] (xem w l t) = some (.inl none, xem w' l t) ∧ kRec w w' n m := by
  obtain ⟨s, e54, hc⟩ := @kc_54 w l t sc d (3 + m) 0 (by omega) (by omega) (by omega)
  have e8 : 3 + m + 5 = m + 8 := by omega
  rw [e8] at e54
  have g0 : xu w (m + 8) s 0 = w 0 := xu_ne (by omega)
  have is : xm_isO (xem w l t) (.ref (xh (3 + m))) 4 = true := xiS (by omega)
  have iH := @xaH w l t m hm
  have hmin : (if (10 : Int32) < nI (n + 1) then (10 : Int32) else nI (n + 1)) = nI (if n = 10 then 10 else n + 1) := by
    by_cases h : n = 10
    · subst h; rfl
    · rw [if_neg h, if_neg (show ¬ (10 : Int32) < nI (n + 1) from nI_nlt (a := 10) (by omega) (by omega))]
  by_cases h9 : m = 9
  · subst h9
    refine ⟨xu (xu w (9 + 8) s) 0 (xs1 (xs1 (w 0) 14 0) 13 (nI (if n = 10 then 10 else n + 1))), ?_, ?_⟩
    · have c1 : (10 : Int32) ≤ nI (9 + 1) := by decide
      rw [yc_2]
      simp (disch := first | omega | assumption | exact xpi_lt) only [↓zbE, zbd_some, ↓xk_I, ↓xk_v, zB_0, zB_1, ite_not, ↓reduceIte, zS, zSa_0, zSa_1, zSa_2, zSa_3, zSa_4, zSa_5, zSa_6, zSa_7, zSa_8, zSa_9, zPa_0, zPa_1, zPa_2, zPa_3, zPa_4, xgS_0, xgS_1, xgS_2, xgS_3, xgS_4, xgS_5, xgS_6, xgS_7, xgS_8, xgS_9, xgS_10, xgS_11, xgQ_0, xgQ_1, xgQ_2, xgQ_3, xgQ_4, xgP_0, xgP_1, xgP_2, xgP_3, xgP_4, xgP_5, xgP_6, xgP_7, xgY_0, xiS, xiQ, xiY, xiP, iH, is, e54, g0, eq_true c1, hmin, xgH_0, xgH_1, xgH_2, xsH_0, xsH_1, xiH, xu_same, xu_xu, h13, h14, xs1_same, xs1_ne]
    · refine ⟨fun g h0 h8 => by rw [xu_ne h0, xu_ne h8], ?_, fun i h1 h2 => ?_, ?_, ?_, ?_⟩
      · rw [xu_same]; rfl
      · rw [xu_same]
        show (if i = 13 then _ else if i = 14 then (0 : Int32) else (w 0).1 i) = _
        rw [if_neg h1, if_neg h2]
      · rw [xu_same]; rfl
      · rw [xu_same]; rfl
      · rw [xu_ne (by omega), xu_same]; exact hc
  · refine ⟨xu (xu w (m + 8) s) 0 (xs1 (xs1 (w 0) 14 (nI (m + 1))) 13 (nI (if n = 10 then 10 else n + 1))), ?_, ?_⟩
    · have c1 : ¬ (10 : Int32) ≤ nI (m + 1) := nI_ge (b := 10) (by omega) (by omega)
      rw [yc_2]
      simp (disch := first | omega | assumption | exact xpi_lt) only [↓zbE, zbd_some, ↓xk_I, ↓xk_v, zB_0, zB_1, ite_not, ↓reduceIte, zS, zSa_0, zSa_1, zSa_2, zSa_3, zSa_4, zSa_5, zSa_6, zSa_7, zSa_8, zSa_9, zPa_0, zPa_1, zPa_2, zPa_3, zPa_4, xgS_0, xgS_1, xgS_2, xgS_3, xgS_4, xgS_5, xgS_6, xgS_7, xgS_8, xgS_9, xgS_10, xgS_11, xgQ_0, xgQ_1, xgQ_2, xgQ_3, xgQ_4, xgP_0, xgP_1, xgP_2, xgP_3, xgP_4, xgP_5, xgP_6, xgP_7, xgY_0, xiS, xiQ, xiY, xiP, iH, is, e54, g0, eq_false c1, hmin, xgH_0, xgH_1, xgH_2, xsH_0, xsH_1, xiH, xu_same, xu_xu, h13, h14, xs1_same, xs1_ne]
    · refine ⟨fun g h0 h8 => by rw [xu_ne h0, xu_ne h8], ?_, fun i h1 h2 => ?_, ?_, ?_, ?_⟩
      · rw [xu_same]; rfl
      · rw [xu_same]
        show (if i = 13 then _ else if i = 14 then (nI (m + 1) : Int32) else (w 0).1 i) = _
        rw [if_neg h1, if_neg h2]
      · rw [xu_same]; rfl
      · rw [xu_same, Nat.mod_eq_of_lt (by omega)]; rfl
      · rw [xu_ne (by omega), xu_same]; exact hc
/-- the last state comes back: n + 1 were there, the next would come to m -/
theorem kc_3 {n m : Nat} (hn : n < 10) (hm : m < 10) (h13 : (w 0).1 13 = nI (n + 1)) (h14 : (w 0).1 14 = nI m) : ∃ s, xm_C sc xt_M (d + 3) 3 [.ref 59, .ref (xh 0)] (xem w l t) = some (.inl none, xem (xu (xu w 0 (xs1 (xs1 (w 0) 14 (nI ((m + 9) % 10))) 13 (nI n))) 5 s) l t) ∧ kCpd s (w ((m + 9) % 10 + 8)) := by
  have g3 : ¬ nI (n + 1) ≤ 0 := nI_ge (a := 0) (b := n + 1) (by omega) (by omega)
  by_cases h0 : m = 0
  · subst h0
    obtain ⟨s, e54, hc⟩ := @kc_54 (xu w 0 (xs1 (xs1 (w 0) 14 (nI ((0 + 9) % 10))) 13 (nI n))) l t sc d 0 (3 + 9) (by omega) (by omega) (by omega)
    rw [xu_ne (by omega)] at hc
    refine ⟨s, ?_, hc⟩
    have iH : ∀ (w : xW), xm_aQ (xem w l t) 60 4 9 = some (xh (3 + 9)) := fun w => @xaH w l t 9 (by omega)
    have e9 : nI ((0 + 9) % 10) = 9 := rfl
    rw [e9] at e54 ⊢
    have g4 : (nI 0 : Int32) ≤ 0 := by decide
    rw [yc_3]
    simp (disch := first | omega | assumption | exact xpi_lt) only [↓zbE, zbd_some, ↓xk_I, ↓xk_v, zB_0, zB_1, ite_not, ↓reduceIte, zS, zSa_0, zSa_1, zSa_2, zSa_3, zSa_4, zSa_5, zSa_6, zSa_7, zSa_8, zSa_9, zPa_0, zPa_1, zPa_2, zPa_3, zPa_4, xgS_0, xgS_1, xgS_2, xgS_3, xgS_4, xgS_5, xgS_6, xgS_7, xgS_8, xgS_9, xgS_10, xgS_11, xgQ_0, xgQ_1, xgQ_2, xgQ_3, xgQ_4, xgP_0, xgP_1, xgP_2, xgP_3, xgP_4, xgP_5, xgP_6, xgP_7, xgY_0, xiS, xiQ, xiY, xiP, iH, e54, g3, eq_true g4, nI_pred, yb_3_52, xgH_0, xgH_1, xgH_2, xsH_0, xsH_1, xiH, xu_same, xu_xu, h13, h14, xs1_same, xs1_ne]
  · obtain ⟨j, rfl⟩ : ∃ j, m = j + 1 := ⟨m - 1, by omega⟩
    have e9 : (j + 1 + 9) % 10 = j := by omega
    rw [e9]
    obtain ⟨s, e54, hc⟩ := @kc_54 (xu w 0 (xs1 (xs1 (w 0) 14 (nI j)) 13 (nI n))) l t sc d 0 (3 + j) (by omega) (by omega) (by omega)
    rw [xu_ne (by omega), show 3 + j + 5 = j + 8 by omega] at hc
    refine ⟨s, ?_, hc⟩
    have iH := fun (w : xW) => @xaH w l t j (by omega)
    have g4 : ¬ nI (j + 1) ≤ 0 := nI_ge (a := 0) (b := j + 1) (by omega) (by omega)
    rw [yc_3]
    simp (disch := first | omega | assumption | exact xpi_lt) only [↓zbE, zbd_some, ↓xk_I, ↓xk_v, zB_0, zB_1, ite_not, ↓reduceIte, zS, zSa_0, zSa_1, zSa_2, zSa_3, zSa_4, zSa_5, zSa_6, zSa_7, zSa_8, zSa_9, zPa_0, zPa_1, zPa_2, zPa_3, zPa_4, xgS_0, xgS_1, xgS_2, xgS_3, xgS_4, xgS_5, xgS_6, xgS_7, xgS_8, xgS_9, xgS_10, xgS_11, xgQ_0, xgQ_1, xgQ_2, xgQ_3, xgQ_4, xgP_0, xgP_1, xgP_2, xgP_3, xgP_4, xgP_5, xgP_6, xgP_7, xgY_0, xiS, xiQ, xiY, xiP, iH, e54, g3, g4, nI_pred, yb_3_52, xgH_0, xgH_1, xgH_2, xsH_0, xsH_1, xiH, xu_same, xu_xu, h13, h14, xs1_same, xs1_ne]
theorem kc_1 : xm_C sc xt_M (d + 1) 1 [.ref 59] (xem w l t) = some (.inl none, xem (xu w 0 (xs1 (w 0) 13 0)) l t) := by
  rw [yc_1]
  simp (disch := first | omega | assumption | exact xpi_lt) only [↓zbE, zbd_some, ↓xk_I, ↓xk_v, zB_0, zB_1, ite_not, ↓reduceIte, zS, zSa_0, zSa_1, zSa_2, zSa_3, zSa_4, zSa_5, zSa_6, zSa_7, zSa_8, zSa_9, zPa_0, zPa_1, zPa_2, zPa_3, zPa_4, xgS_0, xgS_1, xgS_2, xgS_3, xgS_4, xgS_5, xgS_6, xgS_7, xgS_8, xgS_9, xgS_10, xgS_11, xgQ_0, xgQ_1, xgQ_2, xgQ_3, xgQ_4, xgP_0, xgP_1, xgP_2, xgP_3, xgP_4, xgP_5, xgP_6, xgP_7, xgY_0, xiS, xiQ, xiY, xiP, xsH_0]
end RG
