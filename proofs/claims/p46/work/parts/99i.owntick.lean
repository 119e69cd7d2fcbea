/-! OWN: a tick -/
theorem oLt {r r' : Nat → Int32} (h : xLt r) (e : ∀ i, i < 56 ∨ 176 ≤ i → r' i = r i) : xLt r' := by
  have g : xhd r r' := e
  have hv4 := h.bd.v4
  refine ⟨?_, fun v hv => ?_, fun q hq => ?_⟩
  · unfold xBd
    rw [g.b, g.v, g.k, g.q, e 0 (by omega), e 1 (by omega), e 2 (by omega), e 3 (by omega)]
    exact h.bd
  · rw [g.v] at hv
    rw [show xst r' v = xst r v by unfold xst; rw [e _ (by omega)]]
    exact h.st9 hv
  · rw [g.q] at hq
    rw [e _ (by omega)]
    exact h.qb hq
section OT
variable {S : xm_PS} {L : Nat → Nat} {r : Nat → Int32} {x : Int32} {sc : xm_Sc} {d : Nat} {f j : Nat → Int32}
/-- a hold that ends -/
theorem ot_34 (hW : xWF r) (hI : oI S L r x) {k : Nat} {v2 v3 : Value} (hk : k < xnk r) : ∃ S' L' y2, oM S S' L L' (sp_exp k r) x 1 (xnk r) ∧
    xm_R sc xt_M (d + 1) 171 34 [.ref (L 0), .int (nI k), v2, v3] [] S = xm_R sc xt_M (d + 1) 171 34 [.ref (L' 0), .int (nI (k + 1)), y2, v3] [] S' := by
  have hk20 := hW.bd.k20
  have hq40 := hW.bd.q40
  have self : ∀ r', r' = r → oM S S L L r' x 1 (xnk r) := fun r' e => by subst e; exact oM.nw hI (oF.rf.mo (by omega) (fun _ _ _ => id))
  rw [yb_171_34, hI.g4, zbs, hI.books.len (by decide), zbs, if_neg (nI_ge (by omega) (by omega)), zbs, hI.books.at hk (by omega), zbs, hI.t0 hk, zbs]
  by_cases c1 : r (56 + 6 * k) = 2
  · rw [if_pos c1, hI.g6, zbs, hI.t4 hk, zbs]
    by_cases c2 : r (61 + 6 * k) < r 4
    · rw [if_pos c2, hI.t3 hk, zbs, if_pos hI.is, oc_162 hW hI, zbs, xk_I]
      obtain ⟨q, eq, hq⟩ := sp_by_held hW hk c1
      rw [eq, if_pos hI.is, show toJ (some q) = nI q from rfl]
      obtain ⟨S1, L1, e1, m1⟩ := @oc_165 S L r x sc d hW hI q hq
      have hLt := xLt_drop hW hq
      have hI1 := m1.1
      have ek : xnk (sp_drop r q) = xnk r := by unfold xnk; rw [sp_drop_h (by omega) (by omega)]
      have hk1 : k < xnk (sp_drop r q) := by rw [ek]; exact hk
      have el : L (30 + k) = L1 (30 + k) := (m1.2.2.1 _ (by omega) (by omega)).symm
      have m2 := hI1.put hLt hk1 (r' := sp_put (sp_drop r q) k 0 (r (57 + 6 * k))) (fun i hi => sp_put_o hi)
      rw [ek] at m2
      have t1 := hI1.t1 hk1
      rw [sp_drop_h (by omega) (by omega)] at t1
      have eexp : sp_exp k r = sp_put (sp_drop r q) k 0 (r (57 + 6 * k)) := by
        unfold sp_exp
        rw [if_pos ⟨c1, Int32.not_le.mpr c2⟩, eq]
        exact sp_drop_put (by omega)
      refine ⟨xm_set S1 (L1 (30 + k)) (.inr (9, oTh (sp_put (sp_drop r q) k 0 (r (57 + 6 * k))) k)), L1, .ref (L1 (30 + k)), ?_, ?_⟩
      · rw [eexp]
        exact m1.tr hk20 m2
      · rw [e1, zbs, xk_v, el, t1, zbs, if_pos (og_O (hI1.th hk1)), oc_176 hI1 hk1, zbs, xk_v, yb_171_94, ← nI_succ, ← m1.2.2.1 0 (by omega) (by omega)]
    · rw [if_neg c2, yb_171_94, ← nI_succ]
      exact ⟨S, L, _, self _ (if_neg (fun z => z.2 (Int32.not_lt.mp c2))), rfl⟩
  · rw [if_neg c1, yb_171_94, ← nI_succ]
    exact ⟨S, L, _, self _ (if_neg (fun z => c1 z.1)), rfl⟩
/-- a hold that begins -/
theorem ot_144 (hW : xWF r) (hI : oI S L r x) {k : Nat} {v3 : Value} (hk : k < xnk r) (h0 : r (56 + 6 * k) = 0) : ∃ S' y3, oM S S' L L (sp_set2 k r x).1 (sp_set2 k r x).2 0 (xnk r) ∧
    xm_R sc xt_M (d + 1) 171 144 [.ref (L 0), .int (nI k), .ref (L (30 + k)), v3] [] S = xm_R sc xt_M (d + 1) 171 102 [.ref (L 0), .int (nI (k + 1)), .ref (L (30 + k)), y3] [] S' := by
  have hk20 := hW.bd.k20
  have hq40 := hW.bd.q40
  have self : oM S S L L r x 0 (xnk r) := oM.nw hI oF.rf
  rw [yb_171_144, hI.t5 hk, zbs]
  unfold sp_set2 sp_want
  rcases (hW.k k hk).2.2.1 with c4 | c4
  · rw [if_pos c4, if_pos hI.is, oc_160 hW hI, zbs, xk_I, if_neg (show ¬ r (59 + 6 * k) = 1 by rw [c4]; decide)]
    cases ef : sp_first r (nI k) with
    | none =>
      rw [if_pos (show toJ none < 0 by decide), yb_171_227, ← nI_succ]
      exact ⟨S, _, self, rfl⟩
    | some q =>
      have hq := sp_first_lt ef
      dsimp only
      rw [show toJ (some q) = nI q from rfl, if_neg (nI_pos (by omega)), hI.g5, zbs, hI.asks.at hq (by omega), zbs, hI.q2 hq, zbs, hI.t1 hk, zbs]
      by_cases c5 : r (178 + 3 * q) = r (57 + 6 * k)
      · rw [if_pos c5, if_pos c5, zbs, if_pos (og_O (hI.th hk)), oc_176 hI hk, zbs, xk_v]
        have m1 := hI.put hW.lt hk (r' := sp_put r k 2 (r (57 + 6 * k))) (fun i hi => sp_put_o hi)
        have l1 : xLt (sp_put r k 2 (r (57 + 6 * k))) := oLt hW.lt (fun i hi => sp_put_h (by omega) hi)
        have s176 : ∀ i, 176 ≤ i → sp_put r k 2 (r (57 + 6 * k)) i = r i := fun i hi => sp_put_h (by omega) (by omega)
        have k1 : xnk (sp_put r k 2 (r (57 + 6 * k))) = xnk r := by unfold xnk; rw [sp_put_h (by omega) (by omega)]
        have q1 : xnq (sp_put r k 2 (r (57 + 6 * k))) = xnq r := by unfold xnq; rw [sp_put_h (by omega) (by omega)]
        generalize hS1 : xm_set S (L (30 + k)) (.inr (9, oTh (sp_put r k 2 (r (57 + 6 * k))) k)) = S1 at *
        have e45 : sp_put r k 2 (r (57 + 6 * k)) 4 = r 4 ∧ sp_put r k 2 (r (57 + 6 * k)) 5 = r 5 := ⟨sp_put_h (by omega) (by omega), sp_put_h (by omega) (by omega)⟩
        have hI1 := m1.1
        unfold sp_hold
        generalize sp_put r k 2 (r (57 + 6 * k)) = r1 at *
        have hk1 : k < xnk r1 := by rw [k1]; exact hk
        have hq1 : q < xnq r1 := by rw [q1]; exact hq
        have g1 := hI1.q1 hq1
        rw [s176 _ (by omega)] at g1
        rw [hI1.g5, zbs, hI1.asks.at hq1 (by omega), zbs, g1, zbs, hI1.f3 hk1, zbs]
        have m2 := hI1.put l1 hk1 (r' := upd r1 (60 + 6 * k) (r (177 + 3 * q))) (fun i hi => zun (by omega))
        have l2 : xLt (upd r1 (60 + 6 * k) (r (177 + 3 * q))) := oLt l1 (fun i hi => zun (by omega))
        have k2 : xnk (upd r1 (60 + 6 * k) (r (177 + 3 * q))) = xnk r := by rw [← k1]; unfold xnk; rw [zun (by omega)]
        rw [k1] at m2
        generalize xm_set S1 (L (30 + k)) (.inr (9, oTh (upd r1 (60 + 6 * k) (r (177 + 3 * q))) k)) = S2 at *
        have e45' : upd r1 (60 + 6 * k) (r (177 + 3 * q)) 4 = r 4 ∧ upd r1 (60 + 6 * k) (r (177 + 3 * q)) 5 = r 5 := ⟨(zun (by omega)).trans e45.1, (zun (by omega)).trans e45.2⟩
        generalize upd r1 (60 + 6 * k) (r (177 + 3 * q)) = r2 at *
        have hI2 := m2.1
        have hk2 : k < xnk r2 := by rw [k2]; exact hk
        rw [hI2.g6, zbs, hI2.g7, zbs, e45'.1, e45'.2, hI2.f4 hk2, zbs]
        have m3 := hI2.put l2 hk2 (r' := upd r2 (61 + 6 * k) (r 4 + r 5)) (fun i hi => zun (by omega))
        have k3 : xnk (upd r2 (61 + 6 * k) (r 4 + r 5)) = xnk r := by rw [← k2]; unfold xnk; rw [zun (by omega)]
        have l3 : xLt (upd r2 (61 + 6 * k) (r 4 + r 5)) := oLt l2 (fun i hi => zun (by omega))
        rw [k2] at m3
        generalize xm_set S2 (L (30 + k)) (.inr (9, oTh (upd r2 (61 + 6 * k) (r 4 + r 5)) k)) = S3 at *
        generalize upd r2 (61 + 6 * k) (r 4 + r 5) = r3 at *
        have hI3 := m3.1
        rw [hI3.g8, zbs, hI3.f8, zbs, yb_171_227, ← nI_succ]
        have m4 := hI3.self l3 (r' := r3) (x' := x + 1) (fun _ _ _ => rfl)
        rw [k3] at m4
        exact ⟨_, _, ((m1.tr hk20 m2).tr hk20 m3).tr hk20 m4, rfl⟩
      · rw [if_neg c5, if_neg c5, yb_171_227, ← nI_succ]
        exact ⟨S, _, self, rfl⟩
  · rw [if_neg (show ¬ r (59 + 6 * k) = 0 by rw [c4]; decide), if_pos (show (-1 : Int32) < 0 by decide), if_pos c4, yb_171_227, ← nI_succ]
    exact ⟨S, _, self, rfl⟩
theorem ot_102 (hW : xWF r) (hI : oI S L r x) {k : Nat} {v2 v3 : Value} (hk : k < xnk r) : ∃ S' y2 y3, oM S S' L L (sp_settle k (r, x)).1 (sp_settle k (r, x)).2 0 (xnk r) ∧
    xm_R sc xt_M (d + 1) 171 102 [.ref (L 0), .int (nI k), v2, v3] [] S = xm_R sc xt_M (d + 1) 171 102 [.ref (L 0), .int (nI (k + 1)), y2, y3] [] S' := by
  have hk20 := hW.bd.k20
  rw [yb_171_102, hI.g4, zbs, hI.books.len (by decide), zbs, if_neg (nI_ge (by omega) (by omega)), zbs, hI.books.at hk (by omega), zbs, hI.t0 hk, zbs]
  unfold sp_settle
  dsimp only
  by_cases c1 : r (56 + 6 * k) = 0
  · rw [if_pos c1, if_pos c1, hI.t1 hk, zbs, hI.t2 hk, zbs]
    obtain ⟨w1, w2⟩ := @sp_set1_ok r k hW hk
    by_cases c2 : r (57 + 6 * k) = r (58 + 6 * k)
    · have es : sp_set1 k r = upd r (59 + 6 * k) 0 := if_pos c2
      rw [if_pos c2, hI.f5 hk, zbs]
      have m1 := hI.put hW.lt hk (r' := upd r (59 + 6 * k) 0) (fun i hi => zun (by omega))
      rw [← es] at m1 ⊢
      have k1 : xnk (sp_set1 k r) = xnk r := by unfold xnk; rw [w2 _ (by omega)]
      obtain ⟨S', y3, m2, e2⟩ := @ot_144 _ L (sp_set1 k r) x sc d w1 m1.1 k v3 (by rw [k1]; exact hk) (by rw [w2 _ (by omega)]; exact c1)
      rw [k1] at m2
      exact ⟨S', _, y3, m1.tr hk20 m2, e2⟩
    · have es : sp_set1 k r = r := if_neg c2
      rw [if_neg c2, es]
      obtain ⟨S', y3, m2, e2⟩ := @ot_144 S L r x sc d hW hI k v3 hk c1
      exact ⟨S', _, y3, m2, e2⟩
  · rw [if_neg c1, if_neg c1, yb_171_227, ← nI_succ]
    exact ⟨S, _, _, oM.nw hI oF.rf, rfl⟩
theorem oc_171 {f0 : Nat → Int32} (hW : xWF r) (hI : oI S L r x) (ht : xil (r 4 + 1) 20000) : ∃ S' L', xm_C sc xt_M (d + 5) 171 [.ref (L 0)] S = some (.inl none, S') ∧ oM S S' L L' (sp_tick f0 r j x).1 (sp_tick f0 r j x).2 (xnv r * (1 + 6 * xnk r) + xnk r) (xnk r) := by
  have hv4 := hW.bd.v4
  have hk20 := hW.bd.k20
  have hW1 := xWF_time hW ht
  have c1 : xct r (upd r 4 (r 4 + 1)) := ⟨zun (by omega), zun (by omega), zun (by omega)⟩
  have m1 := hI.self hW.lt (r' := upd r 4 (r 4 + 1)) (x' := x) (fun i h4 _ => zun h4)
  unfold sp_tick
  rw [yc_171, hI.g6, zbs, hI.f6, zbs]
  generalize xm_set S (L 0) (.inr (8, oEf L (upd r 4 (r 4 + 1)) x)) = S1 at *
  generalize upd r 4 (r 4 + 1) = r1 at *
  have hf1 : kFar (sp_far r1 f0) r1 := kFar_s hW1.bd
  generalize sp_far r1 f0 = f1 at *
  -- the vans
  have vans : ∀ n, n ≤ xnv r → ∃ T, oM S1 T L L (sp_t2 f1 (r1, j) n).1 x (n * (1 + 6 * xnk r)) (xnk r) ∧ xm_R sc xt_M (d + 4) 171 12 [.ref (L 0), .int (nI 0), .null, .null] [] S1 = xm_R sc xt_M (d + 4) 171 12 [.ref (L 0), .int (nI n), .null, .null] [] T := by
    intro n
    induction n with
    | zero =>
      intro _
      rw [Nat.zero_mul]
      exact ⟨S1, oM.nw m1.1 oF.rf, rfl⟩
    | succ n ih =>
      intro hn
      obtain ⟨T, t1, t2⟩ := ih (by omega)
      obtain ⟨h1, h2⟩ := @sp_t2_ok f1 (r1, j) hW1 n (by show n ≤ xnv r1; rw [c1.v]; omega)
      have hgeo : kGeo r1 (sp_t2 f1 (r1, j) n).1 := by
        have g : ∀ n, n ≤ xnv r1 → kGeo r1 (sp_t2 f1 (r1, j) n).1 := by
          intro n
          induction n with
          | zero => intro _; exact kGeo_rfl
          | succ n ih =>
            intro hn
            obtain ⟨q1, q2⟩ := @sp_t2_ok f1 (r1, j) hW1 n (by show n ≤ xnv r1; omega)
            refine kGeo_t (ih (by omega)) ?_
            exact sp_drive_geo q1 (by rw [q2.v]; show n < xnv r1; omega)
        exact g n (by rw [c1.v]; omega)
      have ev : xnv (sp_t2 f1 (r1, j) n).1 = xnv r := by rw [h2.v]; exact c1.v
      have ek : xnk (sp_t2 f1 (r1, j) n).1 = xnk r := by rw [h2.k]; exact c1.k
      obtain ⟨T', e1, m2⟩ := @oc_170 T L (sp_t2 f1 (r1, j) n).1 x sc d f1 (sp_t2 f1 (r1, j) n).2 h1 (kFar_geo hW1.lt hgeo hf1) t1.1 n (by rw [ev]; omega)
      rw [ek] at m2
      have m3 := t1.tr hk20 m2
      have eb : n * (1 + 6 * xnk r) + (1 + 6 * xnk r) = (n + 1) * (1 + 6 * xnk r) := by rw [Nat.add_mul, Nat.one_mul]
      rw [eb] at m3
      refine ⟨T', m3, ?_⟩
      rw [t2, yb_171_12, t1.1.g1, zbs, t1.1.rooms.len (by decide), zbs, ev, if_neg (nI_ge (by omega) (by omega)), if_pos t1.1.is, e1, zbs, xk_v, ← nI_succ]
  obtain ⟨T2, t1, t2⟩ := vans (xnv r) (Nat.le_refl _)
  obtain ⟨hW2, c2⟩ := @sp_t2_ok f1 (r1, j) hW1 (xnv r) (by show xnv r ≤ xnv r1; rw [c1.v]; exact Nat.le_refl _)
  have c2' := xct_t c1 c2
  generalize sp_t2 f1 (r1, j) (xnv r) = u2 at *
  -- the holds that end
  have ends : ∀ n, n ≤ xnk r → ∃ T L' y2, oM T2 T L L' (sp_t3 u2.1 n) x n (xnk r) ∧ xm_R sc xt_M (d + 4) 171 34 [.ref (L 0), .int (nI 0), .null, .null] [] T2 = xm_R sc xt_M (d + 4) 171 34 [.ref (L' 0), .int (nI n), y2, .null] [] T := by
    intro n
    induction n with
    | zero => intro _; exact ⟨T2, L, .null, oM.nw t1.1 oF.rf, rfl⟩
    | succ n ih =>
      intro hn
      obtain ⟨T, L', y2, q1, q2⟩ := ih (by omega)
      obtain ⟨h1, h2⟩ := @sp_t3_ok u2.1 hW2 n (by rw [c2'.k]; omega)
      have ek : xnk (sp_t3 u2.1 n) = xnk r := (xct_t c2' h2).k
      obtain ⟨T', L2, z2, m2, e2⟩ := @ot_34 T L' (sp_t3 u2.1 n) x sc (d + 3) h1 q1.1 n y2 .null (by rw [ek]; omega)
      rw [ek] at m2
      exact ⟨T', L2, z2, q1.tr hk20 m2, q2.trans e2⟩
  obtain ⟨T3, L3, y2, q1, q2⟩ := ends (xnk r) (Nat.le_refl _)
  obtain ⟨hW3, c3⟩ := @sp_t3_ok u2.1 hW2 (xnk r) (by rw [c2'.k]; exact Nat.le_refl _)
  have c3' := xct_t c2' c3
  have hpv := c2'.v
  generalize sp_t3 u2.1 (xnk r) = r3 at *
  -- the holds that begin
  have begins : ∀ n, n ≤ xnk r → ∃ T z2 z3, oM T3 T L3 L3 (sp_t4 (r3, x) n).1 (sp_t4 (r3, x) n).2 0 (xnk r) ∧ xm_R sc xt_M (d + 4) 171 102 [.ref (L3 0), .int (nI 0), y2, .null] [] T3 = xm_R sc xt_M (d + 4) 171 102 [.ref (L3 0), .int (nI n), z2, z3] [] T := by
    intro n
    induction n with
    | zero => intro _; exact ⟨T3, y2, .null, oM.nw q1.1 oF.rf, rfl⟩
    | succ n ih =>
      intro hn
      obtain ⟨T, z2, z3, s1, s2⟩ := ih (by omega)
      obtain ⟨h1, h2⟩ := @sp_t4_ok (r3, x) hW3 n (by show n ≤ xnk r3; rw [c3'.k]; omega)
      have ek : xnk (sp_t4 (r3, x) n).1 = xnk r := (xct_t c3' h2).k
      obtain ⟨T', w2, w3, m2, e2⟩ := @ot_102 T L3 (sp_t4 (r3, x) n).1 (sp_t4 (r3, x) n).2 sc (d + 3) h1 s1.1 n z2 z3 (by rw [ek]; omega)
      rw [ek] at m2
      exact ⟨T', w2, w3, s1.tr hk20 m2, s2.trans e2⟩
  obtain ⟨T4, z2, z3, s1, s2⟩ := begins (xnk r) (Nat.le_refl _)
  obtain ⟨hW4, c4⟩ := @sp_t4_ok (r3, x) hW3 (xnk r) (by show xnk r ≤ xnk r3; rw [c3'.k]; exact Nat.le_refl _)
  have ek4 : xnk (sp_t4 (r3, x) (xnk r)).1 = xnk r := (xct_t c3' c4).k
  have ek3 := c3'.k
  have ek2 := c2'.k
  refine ⟨T4, L3, ?_, ?_⟩
  · rw [nI_0] at t2 q2 s2
    rw [t2, yb_171_12, t1.1.g1, zbs, t1.1.rooms.len (by decide), zbs, hpv, if_pos (nI_le (Nat.le_refl _) (by omega)), q2, yb_171_34, q1.1.g4, zbs, q1.1.books.len (by decide), zbs, ek3, if_pos (nI_le (Nat.le_refl _) (by omega)), s2, yb_171_102, s1.1.g4, zbs, s1.1.books.len (by decide), zbs, ek4, if_pos (nI_le (Nat.le_refl _) (by omega))]
  · exact (((m1.tr hk20 t1).tr hk20 q1).tr hk20 s1).mo (by omega)
end OT
