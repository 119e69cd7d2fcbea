/-! THE CLASS: a tick: holding ends and begins -/
theorem sp_drop_put {r : Nat → Int32} {k p : Nat} {st pl : Int32} (hk : k < 20) : sp_drop (sp_put r k st pl) p = sp_put (sp_drop r p) k st pl := by
  have e3 : xnq (sp_put r k st pl) = xnq r := by unfold xnq; rw [sp_put_h hk (by omega)]
  funext i
  unfold sp_drop
  rw [e3]
  show (if 176 + 3 * (xnq r - 1) ≤ i ∧ i < 176 + 3 * (xnq r - 1) + 3 then (0 : Int32) else if i = 3 then nI (xnq r - 1) else if 176 + 3 * p ≤ i ∧ i < 176 + 3 * p + 3 * (xnq r - 1 - p) then sp_put r k st pl (i + 3) else sp_put r k st pl i) =
    (if i = 61 + 6 * k then (-1 : Int32) else if i = 60 + 6 * k then -1 else if i = 57 + 6 * k then pl else if i = 56 + 6 * k then st else if 176 + 3 * (xnq r - 1) ≤ i ∧ i < 176 + 3 * (xnq r - 1) + 3 then (0 : Int32) else if i = 3 then nI (xnq r - 1) else if 176 + 3 * p ≤ i ∧ i < 176 + 3 * p + 3 * (xnq r - 1 - p) then r (i + 3) else r i)
  by_cases h : i < 176
  · rw [if_neg (by omega)]
    by_cases h3 : i = 3
    · rw [if_pos h3, if_neg (by omega), if_neg (by omega), if_neg (by omega), if_neg (by omega), if_neg (by omega), if_pos h3]
    · rw [if_neg h3, if_neg (by omega), if_neg (c := 176 + 3 * (xnq r - 1) ≤ i ∧ i < 176 + 3 * (xnq r - 1) + 3) (by omega), if_neg h3, if_neg (c := 176 + 3 * p ≤ i ∧ i < 176 + 3 * p + 3 * (xnq r - 1 - p)) (by omega)]
      rfl
  · rw [if_neg (c := i = 61 + 6 * k) (by omega), if_neg (c := i = 60 + 6 * k) (by omega), if_neg (c := i = 57 + 6 * k) (by omega), if_neg (c := i = 56 + 6 * k) (by omega), sp_put_h hk (by omega), sp_put_h hk (by omega)]
theorem xLt_drop {r : Nat → Int32} {p : Nat} (hW : xWF r) (hp : p < xnq r) : xLt (sp_drop r p) := by
  obtain ⟨hB, n', k', b', v'⟩ := kDrop_bd hW.bd hp
  have hv4 := hW.bd.v4
  refine ⟨hB, fun v hv => ?_, fun q hq => ?_⟩
  · rw [v'] at hv
    have : xst (sp_drop r p) v = xst r v := by unfold xst; rw [sp_drop_h (by omega) (by omega)]
    rw [this]
    exact hW.st9 hv
  · rw [n'] at hq
    rw [sp_drop_178 hq]
    exact hW.qb (by unfold xsg; split <;> omega)
/-- a tick's held books are counted on -/
theorem sp_settle_n {k : Nat} {r : Nat → Int32} {h : Int32} : sp_settle k (r, h) = ((sp_settle k (r, 0)).1, h + (sp_settle k (r, 0)).2) := by
  unfold sp_settle
  dsimp only
  split
  · unfold sp_set2
    split
    · split
      · show (_, h + 1) = (_, h + (0 + 1))
        rw [Int32.zero_add]
      · show (_, h) = (_, h + 0)
        rw [Int32.add_zero]
    · show (_, h) = (_, h + 0)
      rw [Int32.add_zero]
  · show (_, h) = (_, h + 0)
    rw [Int32.add_zero]
theorem sp_t4_n {r : Nat → Int32} {h : Int32} : ∀ n, sp_t4 (r, h) n = ((sp_t4 (r, 0) n).1, h + (sp_t4 (r, 0) n).2) := by
  intro n
  induction n with
  | zero =>
    show (r, h) = (r, h + 0)
    rw [Int32.add_zero]
  | succ n ih =>
    show sp_settle n (sp_t4 (r, h) n) = ((sp_settle n (sp_t4 (r, 0) n)).1, h + (sp_settle n (sp_t4 (r, 0) n)).2)
    rw [ih]
    generalize sp_t4 (r, 0) n = u
    obtain ⟨a, c⟩ := u
    rw [sp_settle_n, @sp_settle_n n a c]
    dsimp only
    rw [Int32.add_assoc]
section HO
variable {w : xW} {l : Nat → Nat → Int64} {t : Nat} {sc : xm_Sc} {d k : Nat} {r : Nat → Int32}
theorem kc_80 (hk : k < 13) (hR : kRel w k r) : ∃ s', xm_C sc xt_M (d + 4) 80 [.ref (xh k)] (xem w l t) = some (.inl none, xem (xu w (k + 5) s') l t) ∧ s'.1 0 = (w (k + 5)).1 0 ∧ kRl (xu w (k + 5) s') k (sp_t3 r (xnk r)) := by
  have hk20 := hR.W.bd.k20
  obtain ⟨s', ⟨i1, i2⟩, i3⟩ := xlpE (fun i (s : xG) => xm_R sc xt_M (d + 3) 80 2 [.ref (xh k), .int (nI i)] [] (xem (xu w (k + 5) s) l t)) (fun i s => s.1 0 = (w (k + 5)).1 0 ∧ kRl (xu w (k + 5) s) k (sp_t3 r i)) (xnk r) (by
    intro i s hi hI
    obtain ⟨z0, hl⟩ := hI
    obtain ⟨h1, h2⟩ := @sp_t3_ok r hR.W i (by omega)
    have hk' := h2.k
    have hq : i < xnk (sp_t3 r i) := by omega
    rw [show sp_t3 r (i + 1) = sp_exp i (sp_t3 r i) from rfl]
    generalize sp_t3 r i = u at *
    have hR' : kRel (xu w (k + 5) s) k u := kRel_of h1 hl
    have hpk := hR'.pk
    rw [hk'] at hpk
    unfold sp_exp
    by_cases hc1 : u (56 + 6 * i) = 2
    · by_cases hc2 : u 4 ≤ u (61 + 6 * i)
      · rw [if_neg (fun z => z.2 hc2)]
        refine ⟨s, ⟨z0, hl⟩, ?_⟩
        rw [yb_80_2]
        simp (disch := first | omega | assumption | exact xpi_lt) only [↓zbE, zbd_some, ↓xk_I, ↓xk_v, zB_0, zB_1, ite_not, ↓reduceIte, zS, zSa_0, zSa_1, zSa_2, zSa_3, zSa_4, zSa_5, zSa_6, zSa_7, zSa_8, zSa_9, zPa_0, zPa_1, zPa_2, zPa_3, zPa_4, xgS_0, xgS_1, xgS_2, xgS_3, xgS_4, xgS_5, xgS_6, xgS_7, xgS_8, xgS_9, xgS_10, xgS_11, xgQ_0, xgQ_1, xgQ_2, xgQ_3, xgQ_4, xgP_0, xgP_1, xgP_2, xgP_3, xgP_4, xgP_5, xgP_6, xgP_7, xgY_0, xiS, xiQ, xiY, xiP, eq_true hc1, eq_true hc2, yb_80_58, hR'.kind hq, hR'.place hq, hR'.reader hq, hR'.limit hq, hR'.time, hR'.home hq, hpk, nI_ge]
      · rw [if_pos ⟨hc1, hc2⟩]
        obtain ⟨p, hby, hp⟩ := sp_by_held h1 hq hc1
        rw [hby]
        obtain ⟨s1, e57, y0, hl1⟩ := @kc_57 (xu w (k + 5) s) l t sc (d + 1) k u i p (u (60 + 6 * i)) hk hR' hby
        rw [xu_xu] at e57 hl1
        rw [xu_same] at y0
        have hl2 : xLt (sp_drop u p) := xLt_drop h1 hp
        have hq2 : i < xnk (sp_drop u p) := by
          rw [(kDrop_bd h1.bd hp).2.2.1]
          exact hq
        have epl : (xu w (k + 5) s1 (k + 5)).2 2 i = u (57 + 6 * i) := by
          rw [(hl1.2.2.1.2 i hq2).2.1, sp_drop_h (by omega) (by omega)]
        have hput := @kRl_sput (xu w (k + 5) s1) k (sp_drop u p) i 0 (u (57 + 6 * i)) hl2 hl1 hq2
        have c59 := @kc_59 (xu w (k + 5) s1) l t sc (d + 1) k i (u (57 + 6 * i)) hk (by omega)
        rw [← sp_drop_put (by omega)] at hput
        refine ⟨_, ⟨?_, kRl_w hput⟩, ?_⟩
        · rw [xu_same]
          exact y0.trans z0
        · rw [yb_80_2]
          simp (disch := first | omega | assumption | exact xpi_lt) only [↓zbE, zbd_some, ↓xk_I, ↓xk_v, zB_0, zB_1, ite_not, ↓reduceIte, zS, zSa_0, zSa_1, zSa_2, zSa_3, zSa_4, zSa_5, zSa_6, zSa_7, zSa_8, zSa_9, zPa_0, zPa_1, zPa_2, zPa_3, zPa_4, xgS_0, xgS_1, xgS_2, xgS_3, xgS_4, xgS_5, xgS_6, xgS_7, xgS_8, xgS_9, xgS_10, xgS_11, xgQ_0, xgQ_1, xgQ_2, xgQ_3, xgQ_4, xgP_0, xgP_1, xgP_2, xgP_3, xgP_4, xgP_5, xgP_6, xgP_7, xgY_0, xiS, xiQ, xiY, xiP, eq_true hc1, eq_false hc2, e57, epl, c59, yb_80_58, xu_xu, hR'.kind hq, hR'.place hq, hR'.reader hq, hR'.limit hq, hR'.time, hR'.home hq, hpk, nI_ge]
    · rw [if_neg (fun z => hc1 z.1)]
      refine ⟨s, ⟨z0, hl⟩, ?_⟩
      rw [yb_80_2]
      simp (disch := first | omega | assumption | exact xpi_lt) only [↓zbE, zbd_some, ↓xk_I, ↓xk_v, zB_0, zB_1, ite_not, ↓reduceIte, zS, zSa_0, zSa_1, zSa_2, zSa_3, zSa_4, zSa_5, zSa_6, zSa_7, zSa_8, zSa_9, zPa_0, zPa_1, zPa_2, zPa_3, zPa_4, xgS_0, xgS_1, xgS_2, xgS_3, xgS_4, xgS_5, xgS_6, xgS_7, xgS_8, xgS_9, xgS_10, xgS_11, xgQ_0, xgQ_1, xgQ_2, xgQ_3, xgQ_4, xgP_0, xgP_1, xgP_2, xgP_3, xgP_4, xgP_5, xgP_6, xgP_7, xgY_0, xiS, xiQ, xiY, xiP, eq_false hc1, yb_80_58, hR'.kind hq, hR'.place hq, hR'.reader hq, hR'.limit hq, hR'.time, hR'.home hq, hpk, nI_ge]) (w (k + 5)) ⟨rfl, by rw [xu_self]; exact hR.l⟩
  rw [xu_self] at i3
  refine ⟨s', yc_80.trans (i3.trans ?_), i1, i2⟩
  obtain ⟨h1, h2⟩ := @sp_t3_ok r hR.W (xnk r) (by omega)
  have hpk := (kRel_of h1 i2).pk
  rw [h2.k] at hpk
  rw [yb_80_2]
  simp (disch := first | omega | assumption | exact xpi_lt) only [↓zbE, zbd_some, ↓xk_I, ↓xk_v, zB_0, zB_1, ite_not, ↓reduceIte, zS, zSa_0, zSa_1, zSa_2, zSa_3, zSa_4, zSa_5, zSa_6, zSa_7, zSa_8, zSa_9, zPa_0, zPa_1, zPa_2, zPa_3, zPa_4, xgS_0, xgS_1, xgS_2, xgS_3, xgS_4, xgS_5, xgS_6, xgS_7, xgS_8, xgS_9, xgS_10, xgS_11, xgQ_0, xgQ_1, xgQ_2, xgQ_3, xgQ_4, xgP_0, xgP_1, xgP_2, xgP_3, xgP_4, xgP_5, xgP_6, xgP_7, xgY_0, xiS, xiQ, xiY, xiP, hpk, nI_le]
/-- whether a book is recalled is changed -/
theorem kRl_rec {q : Nat} {m x : Int32} (hW : xLt r) (hq : q < xnk r) (hm : ∀ i, i < 32 → bt m i = if i = q then decide (x = 1) else bt ((w (k + 5)).1 4) i) (hR : kRl w k r) : kRl (xu w (k + 5) (xs1 (w (k + 5)) 4 m)) k (upd r (59 + 6 * q) x) := by
  have hv4 := hW.bd.v4
  have hk20 := hW.bd.k20
  have hb6 := hW.bd.b6
  have e : ∀ i, i ≠ 59 + 6 * q → upd r (59 + 6 * q) x i = r i := fun i hi => zun hi
  have e0 : xnb (upd r (59 + 6 * q) x) = xnb r := by unfold xnb; rw [e 0 (by omega)]
  have e1 : xnv (upd r (59 + 6 * q) x) = xnv r := by unfold xnv; rw [e 1 (by omega)]
  have e2 : xnk (upd r (59 + 6 * q) x) = xnk r := by unfold xnk; rw [e 2 (by omega)]
  have e3 : xnq (upd r (59 + 6 * q) x) = xnq r := by unfold xnq; rw [e 3 (by omega)]
  obtain ⟨p, s1, s2, s3, s4⟩ := hR
  have geo : kGeo r (upd r (59 + 6 * q) x) := kGeo_head (fun i hi _ _ _ _ => e i (by omega))
  refine kRl_xu rfl (kPl_cg hW (fun i hi _ _ _ _ _ => e i (by omega)) (fun i _ => e _ (by omega)) p) ?_ ?_ ?_ ?_
  · refine ⟨s1.1.trans (e 4 (by omega)).symm, s1.2.1.trans (e 5 (by omega)).symm, fun i hi => ?_, fun i hi => ?_, s1.2.2.2.2.trans (e 3 (by omega)).symm⟩
    · show bt ((w (k + 5)).1 3) i = _
      rw [e0, s1.2.2.1 i hi]
      by_cases h : i < xnb r
      · rw [e (6 + i) (by omega)]
      · simp [h]
    · show bt m i = _
      rw [hm i hi, e2]
      by_cases h : i = q
      · subst h
        rw [if_pos rfl, zu1]
        simp [hq]
      · rw [if_neg h, e (59 + 6 * i) (by omega)]
        exact s1.2.2.2.1 i hi
  · refine ⟨fun v hv => ?_, fun i hi => ?_⟩
    · rw [e1] at hv
      rw [e _ (by omega)]
      exact s2.1 v hv
    · rw [e2] at hi
      rw [e _ (by omega), e _ (by omega), e _ (by omega), e _ (by omega)]
      exact s2.2 i hi
  · refine ⟨fun i hi => ?_, fun i hi => ?_⟩
    · rw [e3] at hi
      rw [e _ (by omega), e _ (by omega), e _ (by omega)]
      exact s3.1 i hi
    · rw [sp_first_cg (fun p hp => hW.qb hp) e3 (fun i h _ => e i (by omega)) (fun b hb => e _ (by omega))]
      exact s3.2 i hi
  · intro a b ha hb
    rw [geo.D hW]
    exact s4 a b ha hb
theorem b_clr {m : Int32} {q i : Nat} (hq : q < 31) (hi : i < 32) : bt (m &&& (((1 : Int32) <<< (nI q &&& 31)) ^^^ (-1))) i = if i = q then decide ((0 : Int32) = 1) else bt m i := by
  rw [b_and, b_not hi]
  have h := @b_shl1 q i hq hi
  by_cases e : i = q
  · rw [if_pos e, h.mpr e]
    cases bt m i <;> rfl
  · rw [if_neg e]
    have : bt ((1 : Int32) <<< (nI q &&& 31)) i = false := by
      cases z : bt ((1 : Int32) <<< (nI q &&& 31)) i with
      | false => rfl
      | true => exact absurd (h.mp z) e
    rw [this]
    cases bt m i <;> rfl
theorem b_set {m : Int32} {q i : Nat} (hq : q < 31) (hi : i < 32) : bt (m ||| ((1 : Int32) <<< (nI q &&& 31))) i = if i = q then decide ((1 : Int32) = 1) else bt m i := by
  rw [b_or]
  have h := @b_shl1 q i hq hi
  by_cases e : i = q
  · rw [if_pos e, h.mpr e]
    cases bt m i <;> rfl
  · rw [if_neg e]
    have : bt ((1 : Int32) <<< (nI q &&& 31)) i = false := by
      cases z : bt ((1 : Int32) <<< (nI q &&& 31)) i with
      | false => rfl
      | true => exact absurd (h.mp z) e
    rw [this]
    cases bt m i <;> rfl
theorem k81 {q : Nat} {c p : Int32} {v4 : Value} (hk : k < 13) (hR : kRel w k r) (hq : q < xnk r) (h0 : r (56 + 6 * q) = 0) (ep : r (57 + 6 * q) = p) : ∃ (s' : xG) (v4' : Value), s'.1 0 = (w (k + 5)).1 0 ∧ kRl (xu w (k + 5) s') k (sp_set2 q r c).1 ∧
    xm_R sc xt_M (d + 3) 81 58 [.ref (xh k), .int c, .int (nI q), .int p, v4] [] (xem w l t) = xm_R sc xt_M (d + 3) 81 109 [.ref (xh k), .int (sp_set2 q r c).2, .int (nI q), .int p, v4'] [] (xem (xu w (k + 5) s') l t) := by
  have hk20 := hR.W.bd.k20
  obtain ⟨x, hx, ex⟩ : ∃ x, x < xnb r ∧ r (57 + 6 * q) = nI x := ⟨_, ((hR.W.k q hq).2.2.2.1 (Or.inl h0)).2, ((hR.W.k q hq).2.2.2.1 (Or.inl h0)).1⟩
  have hb6 := hR.W.bd.b6
  subst ep
  unfold sp_set2 sp_want
  by_cases h1 : r (59 + 6 * q) = 1
  · rw [if_pos h1]
    refine ⟨w (k + 5), v4, rfl, by rw [xu_self]; exact hR.l, ?_⟩
    rw [xu_self, yb_81_58]
    simp (disch := first | omega | assumption | exact xpi_lt) only [↓zbE, zbd_some, ↓xk_I, ↓xk_v, zB_0, zB_1, ite_not, ↓reduceIte, zS, zSa_0, zSa_1, zSa_2, zSa_3, zSa_4, zSa_5, zSa_6, zSa_7, zSa_8, zSa_9, zPa_0, zPa_1, zPa_2, zPa_3, zPa_4, xgS_0, xgS_1, xgS_2, xgS_3, xgS_4, xgS_5, xgS_6, xgS_7, xgS_8, xgS_9, xgS_10, xgS_11, xgQ_0, xgQ_1, xgQ_2, xgQ_3, xgQ_4, xgP_0, xgP_1, xgP_2, xgP_3, xgP_4, xgP_5, xgP_6, xgP_7, xgY_0, xiS, xiQ, xiY, xiP, eq_true h1, not_true_eq_false, zBT, kc_62 hk hR, hR.time, hR.hold, hk, z10, z00, ex]
  · rw [if_neg h1]
    cases h2 : sp_first r (nI q) with
    | none =>
      refine ⟨w (k + 5), v4, rfl, by rw [xu_self]; exact hR.l, ?_⟩
      have hn : ¬ (-1 : Int32) = nI x := fun z => toJ_ne (by omega) z.symm
      rw [xu_self, yb_81_58]
      simp (disch := first | omega | assumption | exact xpi_lt) only [↓zbE, zbd_some, ↓xk_I, ↓xk_v, zB_0, zB_1, ite_not, ↓reduceIte, zS, zSa_0, zSa_1, zSa_2, zSa_3, zSa_4, zSa_5, zSa_6, zSa_7, zSa_8, zSa_9, zPa_0, zPa_1, zPa_2, zPa_3, zPa_4, xgS_0, xgS_1, xgS_2, xgS_3, xgS_4, xgS_5, xgS_6, xgS_7, xgS_8, xgS_9, xgS_10, xgS_11, xgQ_0, xgQ_1, xgQ_2, xgQ_3, xgQ_4, xgP_0, xgP_1, xgP_2, xgP_3, xgP_4, xgP_5, xgP_6, xgP_7, xgY_0, xiS, xiQ, xiY, xiP, eq_false h1, not_true_eq_false, zBF, kc_42_n hk hR (by omega) h2, hn, kc_62 hk hR, hR.time, hR.hold, hk, z10, z00, ex]
    | some p =>
      dsimp only
      by_cases h3 : r (178 + 3 * p) = r (57 + 6 * q)
      · rw [if_pos h3]
        have c58 := @kc_58 w l t sc (d + 2) k q 2 (r (57 + 6 * q)) (r (177 + 3 * p)) (r 4 + r 5) hk (by omega)
        refine ⟨kPut (w (k + 5)) q 2 (r (57 + 6 * q)) (r (177 + 3 * p)) (r 4 + r 5), .int (r (177 + 3 * p)), rfl, ?_, ?_⟩
        · have f0 : ∀ i, i ≠ 61 + 6 * q → i ≠ 60 + 6 * q → sp_hold q p r i = sp_put r q 2 (r (57 + 6 * q)) i := fun i a b => by
            unfold sp_hold
            rw [zun a, zun b]
          show kRl (xu w (k + 5) (kPut (w (k + 5)) q 2 (r (57 + 6 * q)) (r (177 + 3 * p)) (r 4 + r 5))) k (sp_hold q p r)
          refine kRl_put hR.W.lt hR.l hq (fun i hi => ?_) ?_ ?_ ?_ ?_ ?_ ?_
          · rw [f0 i (by omega) (by omega)]
            exact sp_put_ne hi
          · rw [f0 _ (by omega) (by omega), sp_put_2]
          · rw [f0 _ (by omega) (by omega), sp_put_3]
          · rw [f0 _ (by omega) (by omega), sp_put_0]
          · rw [f0 _ (by omega) (by omega), sp_put_1]
          · unfold sp_hold
            rw [zun (by omega), zu1]
          · unfold sp_hold
            rw [zu1]
        · rw [yb_81_58]
          simp (disch := first | omega | assumption | exact xpi_lt) only [↓zbE, zbd_some, ↓xk_I, ↓xk_v, zB_0, zB_1, ite_not, ↓reduceIte, zS, zSa_0, zSa_1, zSa_2, zSa_3, zSa_4, zSa_5, zSa_6, zSa_7, zSa_8, zSa_9, zPa_0, zPa_1, zPa_2, zPa_3, zPa_4, xgS_0, xgS_1, xgS_2, xgS_3, xgS_4, xgS_5, xgS_6, xgS_7, xgS_8, xgS_9, xgS_10, xgS_11, xgQ_0, xgQ_1, xgQ_2, xgQ_3, xgQ_4, xgP_0, xgP_1, xgP_2, xgP_3, xgP_4, xgP_5, xgP_6, xgP_7, xgY_0, xiS, xiQ, xiY, xiP, eq_false h1, zBF, kc_42 hk hR (by omega) h2, kc_43 hk hR (by omega) h2, eq_true h3, c58, kc_62 hk hR, hR.time, hR.hold, hk, z10, z00]
      · rw [if_neg h3]
        refine ⟨w (k + 5), v4, rfl, by rw [xu_self]; exact hR.l, ?_⟩
        rw [xu_self, yb_81_58]
        simp (disch := first | omega | assumption | exact xpi_lt) only [↓zbE, zbd_some, ↓xk_I, ↓xk_v, zB_0, zB_1, ite_not, ↓reduceIte, zS, zSa_0, zSa_1, zSa_2, zSa_3, zSa_4, zSa_5, zSa_6, zSa_7, zSa_8, zSa_9, zPa_0, zPa_1, zPa_2, zPa_3, zPa_4, xgS_0, xgS_1, xgS_2, xgS_3, xgS_4, xgS_5, xgS_6, xgS_7, xgS_8, xgS_9, xgS_10, xgS_11, xgQ_0, xgQ_1, xgQ_2, xgQ_3, xgQ_4, xgP_0, xgP_1, xgP_2, xgP_3, xgP_4, xgP_5, xgP_6, xgP_7, xgY_0, xiS, xiQ, xiY, xiP, eq_false h1, zBF, kc_42 hk hR (by omega) h2, eq_false h3, kc_62 hk hR, hR.time, hR.hold, hk, z10, z00]
theorem kc_81 (hk : k < 13) (hR : kRel w k r) : ∃ s', xm_C sc xt_M (d + 4) 81 [.ref (xh k)] (xem w l t) = some (.inl (some (.int (sp_t4 (r, 0) (xnk r)).2)), xem (xu w (k + 5) s') l t) ∧ s'.1 0 = (w (k + 5)).1 0 ∧ kRl (xu w (k + 5) s') k (sp_t4 (r, 0) (xnk r)).1 := by
  have hk20 := hR.W.bd.k20
  obtain ⟨⟨s', v3, v4⟩, ⟨i1, i2⟩, i3⟩ := xlpE (fun i (a : xG × Value × Value) => xm_R sc xt_M (d + 3) 81 4 [.ref (xh k), .int (sp_t4 (r, 0) i).2, .int (nI i), a.2.1, a.2.2] [] (xem (xu w (k + 5) a.1) l t)) (fun i a => a.1.1 0 = (w (k + 5)).1 0 ∧ kRl (xu w (k + 5) a.1) k (sp_t4 (r, 0) i).1) (xnk r) (by
    intro i a hi hI
    obtain ⟨s, v3, v4⟩ := a
    obtain ⟨z0, hl⟩ := hI
    dsimp only at z0 hl
    obtain ⟨h1, h2⟩ := @sp_t4_ok (r, 0) hR.W i (by show i ≤ xnk r; omega)
    have hk' := h2.k
    have hq : i < xnk (sp_t4 (r, 0) i).1 := by rw [hk']; exact hi
    rw [show sp_t4 (r, 0) (i + 1) = sp_settle i (sp_t4 (r, 0) i) from rfl]
    generalize sp_t4 (r, 0) i = u at *
    obtain ⟨u, c⟩ := u
    dsimp only at h1 h2 hk' hq hl ⊢
    have hR' : kRel (xu w (k + 5) s) k u := kRel_of h1 hl
    have hpk := hR'.pk
    rw [hk'] at hpk
    unfold sp_settle
    dsimp only
    by_cases hc1 : u (56 + 6 * i) = 0
    · rw [if_pos hc1]
      by_cases hc2 : u (57 + 6 * i) = u (58 + 6 * i)
      · have e1 : sp_set1 i u = upd u (59 + 6 * i) 0 := if_pos hc2
        obtain ⟨g1, g2⟩ := sp_set1_ok h1 hq
        rw [e1] at g1 g2 ⊢
        have hrec := @kRl_rec (xu w (k + 5) s) k u i (((xu w (k + 5) s) (k + 5)).1 4 &&& (((1 : Int32) <<< (nI i &&& 31)) ^^^ (-1))) 0 h1.lt hq (fun j hj => b_clr (by omega) hj) hl
        rw [xu_xu] at hrec
        have hR2 := kRel_of g1 hrec
        have hq2 : i < xnk (upd u (59 + 6 * i) 0) := by
          unfold xnk
          rw [g2 2 (by omega)]
          exact hq
        obtain ⟨s2, v4', y0, y1, y2⟩ := @k81 _ l t sc d k _ i c (u (57 + 6 * i)) v4 hk hR2 hq2 (by rw [g2 _ (by omega)]; exact hc1) (g2 _ (by omega))
        rw [xu_xu] at y1 y2
        rw [xu_same] at y0
        refine ⟨(s2, .int (u (57 + 6 * i)), v4'), ⟨y0.trans ?_, y1⟩, ?_⟩
        · rw [xu_same]
          exact z0
        · dsimp only
          refine Eq.trans ?_ (y2.trans ?_)
          · rw [yb_81_4]
            simp (disch := first | omega | assumption | exact xpi_lt) only [↓zbE, zbd_some, ↓xk_I, ↓xk_v, zB_0, zB_1, ite_not, ↓reduceIte, zS, zSa_0, zSa_1, zSa_2, zSa_3, zSa_4, zSa_5, zSa_6, zSa_7, zSa_8, zSa_9, zPa_0, zPa_1, zPa_2, zPa_3, zPa_4, xgS_0, xgS_1, xgS_2, xgS_3, xgS_4, xgS_5, xgS_6, xgS_7, xgS_8, xgS_9, xgS_10, xgS_11, xgQ_0, xgQ_1, xgQ_2, xgQ_3, xgQ_4, xgP_0, xgP_1, xgP_2, xgP_3, xgP_4, xgP_5, xgP_6, xgP_7, xgY_0, xiS, xiQ, xiY, xiP, eq_true hc1, eq_true hc2, xsS_4, xu_xu, hR'.kind hq, hR'.place hq, hR'.reader hq, hR'.limit hq, hR'.time, hR'.home hq, hpk, nI_ge]
          · rw [yb_81_109, zS]
      · have e1 : sp_set1 i u = u := if_neg hc2
        rw [e1]
        obtain ⟨s2, v4', y0, y1, y2⟩ := @k81 _ l t sc d k _ i c (u (57 + 6 * i)) v4 hk hR' hq hc1 rfl
        rw [xu_xu] at y1 y2
        rw [xu_same] at y0
        refine ⟨(s2, .int (u (57 + 6 * i)), v4'), ⟨y0.trans z0, y1⟩, ?_⟩
        dsimp only
        refine Eq.trans ?_ (y2.trans ?_)
        · rw [yb_81_4]
          simp (disch := first | omega | assumption | exact xpi_lt) only [↓zbE, zbd_some, ↓xk_I, ↓xk_v, zB_0, zB_1, ite_not, ↓reduceIte, zS, zSa_0, zSa_1, zSa_2, zSa_3, zSa_4, zSa_5, zSa_6, zSa_7, zSa_8, zSa_9, zPa_0, zPa_1, zPa_2, zPa_3, zPa_4, xgS_0, xgS_1, xgS_2, xgS_3, xgS_4, xgS_5, xgS_6, xgS_7, xgS_8, xgS_9, xgS_10, xgS_11, xgQ_0, xgQ_1, xgQ_2, xgQ_3, xgQ_4, xgP_0, xgP_1, xgP_2, xgP_3, xgP_4, xgP_5, xgP_6, xgP_7, xgY_0, xiS, xiQ, xiY, xiP, eq_true hc1, eq_false hc2, hR'.kind hq, hR'.place hq, hR'.reader hq, hR'.limit hq, hR'.time, hR'.home hq, hpk, nI_ge]
        · rw [yb_81_109, zS]
    · rw [if_neg hc1]
      refine ⟨(s, v3, v4), ⟨z0, hl⟩, ?_⟩
      rw [yb_81_4]
      simp (disch := first | omega | assumption | exact xpi_lt) only [↓zbE, zbd_some, ↓xk_I, ↓xk_v, zB_0, zB_1, ite_not, ↓reduceIte, zS, zSa_0, zSa_1, zSa_2, zSa_3, zSa_4, zSa_5, zSa_6, zSa_7, zSa_8, zSa_9, zPa_0, zPa_1, zPa_2, zPa_3, zPa_4, xgS_0, xgS_1, xgS_2, xgS_3, xgS_4, xgS_5, xgS_6, xgS_7, xgS_8, xgS_9, xgS_10, xgS_11, xgQ_0, xgQ_1, xgQ_2, xgQ_3, xgQ_4, xgP_0, xgP_1, xgP_2, xgP_3, xgP_4, xgP_5, xgP_6, xgP_7, xgY_0, xiS, xiQ, xiY, xiP, eq_false hc1, yb_81_109, hR'.kind hq, hR'.place hq, hR'.reader hq, hR'.limit hq, hR'.time, hR'.home hq, hpk, nI_ge]) (w (k + 5), .null, .null) ⟨rfl, by rw [xu_self]; exact hR.l⟩
  dsimp only at i1 i2 i3
  rw [xu_self] at i3
  refine ⟨s', yc_81.trans (Eq.trans ?_ (i3.trans ?_)), i1, i2⟩
  · rfl
  · obtain ⟨h1, h2⟩ := @sp_t4_ok (r, 0) hR.W (xnk r) (Nat.le_refl _)
    have hpk := (kRel_of h1 i2).pk
    rw [h2.k] at hpk
    rw [yb_81_4]
    simp (disch := first | omega | assumption | exact xpi_lt) only [↓zbE, zbd_some, ↓xk_I, ↓xk_v, zB_0, zB_1, ite_not, ↓reduceIte, zS, zSa_0, zSa_1, zSa_2, zSa_3, zSa_4, zSa_5, zSa_6, zSa_7, zSa_8, zSa_9, zPa_0, zPa_1, zPa_2, zPa_3, zPa_4, xgS_0, xgS_1, xgS_2, xgS_3, xgS_4, xgS_5, xgS_6, xgS_7, xgS_8, xgS_9, xgS_10, xgS_11, xgQ_0, xgQ_1, xgQ_2, xgQ_3, xgQ_4, xgP_0, xgP_1, xgP_2, xgP_3, xgP_4, xgP_5, xgP_6, xgP_7, xgY_0, xiS, xiQ, xiY, xiP, hpk, nI_le]
end HO
