/-! TEXTS being built: append -/
def asc (y : Int32) : Prop := ∃ n, n < 128 ∧ y = nI n
theorem asc_b : ∀ n, n < 128 → (nI n).toInt8.toInt32.toInt8.toInt32 = nI n ∧ xm_byt (nI n) = true ∧ ¬ (255 : Int32) < nI n := by decide +kernel
/-- room for c bytes, before they are there -/
def sbR (S : xm_PS) (p q : Nat) (t : List Int32) (cap : Nat) : Prop := (S.1 = true ∧ S.2.1 = 0) ∧ (∃ m, S.2.2[p]? = some (.inr (11, [.ref q, .int 0, m, .int (nI t.length)]))) ∧ ∃ g, S.2.2[q]? = some (.inl (1, cap, .inl g)) ∧ (∀ i, i < cap → xm_byt (g i) = true) ∧ ∀ i, i < t.length → g i = t.getD i 0
section SA
variable {S S1 : xm_PS} {sc : xm_Sc} {d p q cap : Nat} {t : List Int32}
theorem sb_ens (h : sbI S p q t cap) {c : Nat} (hc : c ≤ 400) (htc : t.length ≤ c) : ∃ S1 q1 cap1, xm_C sc xt_M (d + 3) 29 [.ref p, .int (nI c)] S = some (.inl none, S1) ∧ oF S S1 20 (sbW p q) ∧ (q1 = q ∨ S.2.2.length ≤ q1) ∧ sbR S1 p q1 t cap1 ∧ c ≤ cap1 ∧ cap1 ≤ 2 * c + 40 := by
  obtain ⟨S1, q1, cap1, e, ⟨⟨a, b⟩, f, g, k⟩, m, n⟩ := @sb_29 S sc d p q cap t h c hc htc
  exact ⟨S1, q1, cap1, e, a, b, ⟨f, g, k⟩, m, n⟩
theorem sbR.v (h : sbR S p q t cap) : xm_gR S p 11 0 = some q := by
  obtain ⟨-, ⟨m0, b⟩, -⟩ := h
  exact og_R b rfl
theorem sbR.co (h : sbR S p q t cap) : xm_gI S p 11 1 = some 0 := by
  obtain ⟨-, ⟨m0, b⟩, -⟩ := h
  exact og_I b rfl
theorem sbR.n (h : sbR S p q t cap) : xm_gI S p 11 3 = some (nI t.length) := by
  obtain ⟨-, ⟨m0, b⟩, -⟩ := h
  exact og_I b rfl
theorem sbR.is (h : sbR S p q t cap) : xm_isO S (.ref p) 11 = true := by
  obtain ⟨-, ⟨m0, b⟩, -⟩ := h
  exact og_O b
theorem sb_48 (h : sbR S p q t cap) : xm_C sc xt_M (d + 1) 48 [.ref p] S = some (.inl (some (.int 1)), S) := by
  rw [yc_48, if_neg (by decide), h.co, zbs, if_pos rfl]
/-- the bytes of u, put behind those that are there -/
theorem sbR_put (h : sbR S p q t cap) {u : List Int32} {g' : Nat → Int32} (hcap : t.length + u.length ≤ cap) (hcap2 : cap ≤ 2 * (t.length + u.length) + 40)
    (hg : ∀ g, S.2.2[q]? = some (.inl (1, cap, .inl g)) → (∀ i, i < cap → xm_byt (g i) = true) → (∀ i, i < t.length → g i = t.getD i 0) → (∀ i, i < cap → xm_byt (g' i) = true) ∧ (∀ i, i < t.length → g' i = g i) ∧ ∀ i, i < u.length → g' (t.length + i) = u.getD i 0) :
    ∀ m, S.2.2[p]? = some (.inr (11, [.ref q, .int 0, m, .int (nI t.length)])) → sbI (xm_set (xm_set S p (.inr (11, [.ref q, .int 0, m, .int (nI (t.length + u.length))]))) q (.inl (1, cap, .inl g'))) p q (t ++ u) cap ∧ oF S (xm_set (xm_set S p (.inr (11, [.ref q, .int 0, m, .int (nI (t.length + u.length))]))) q (.inl (1, cap, .inl g'))) 0 (sbW p q) ∧
      sbI (xm_set (xm_set S q (.inl (1, cap, .inl g'))) p (.inr (11, [.ref q, .int 0, m, .int (nI (t.length + u.length))]))) p q (t ++ u) cap ∧ oF S (xm_set (xm_set S q (.inl (1, cap, .inl g'))) p (.inr (11, [.ref q, .int 0, m, .int (nI (t.length + u.length))]))) 0 (sbW p q) := by
  intro m hb
  obtain ⟨⟨f1, f2⟩, -, g, hq, hq2, hq3⟩ := h
  obtain ⟨k1, k2, k3⟩ := hg g hq hq2 hq3
  have hpq : p ≠ q := oK_ne hb hq (by show 111 ≠ 1; decide)
  have el : (t ++ u).length = t.length + u.length := List.length_append
  have eg : ∀ i, i < t.length + u.length → g' i = (t ++ u).getD i 0 := by
    intro i hi
    by_cases c : i < t.length
    · rw [k2 i c, hq3 i c, List.getD_eq_getElem?_getD, List.getD_eq_getElem?_getD, List.getElem?_append_left c]
    · obtain ⟨j, rfl⟩ : ∃ j, i = t.length + j := ⟨i - t.length, by omega⟩
      rw [k3 j (by omega), List.getD_eq_getElem?_getD, List.getD_eq_getElem?_getD, List.getElem?_append_right (by omega), show t.length + j - t.length = j by omega]
  have hb1 : (xm_set S q (.inl (1, cap, .inl g'))).2.2[p]? = some (.inr (11, [.ref q, .int 0, m, .int (nI t.length)])) := by rw [os_ne hpq]; exact hb
  have hq1 : (xm_set S p (.inr (11, [.ref q, .int 0, m, .int (nI (t.length + u.length))]))).2.2[q]? = some (.inl (1, cap, .inl g)) := by rw [os_ne (Ne.symm hpq)]; exact hq
  have A1 : oF S (xm_set S p (.inr (11, [.ref q, .int 0, m, .int (nI (t.length + u.length))]))) 0 (sbW p q) := oF_S hb rfl (Or.inl rfl)
  have A2 : oF (xm_set S p (.inr (11, [.ref q, .int 0, m, .int (nI (t.length + u.length))]))) (xm_set (xm_set S p (.inr (11, [.ref q, .int 0, m, .int (nI (t.length + u.length))]))) q (.inl (1, cap, .inl g'))) 0 (sbW p q) := oF_S hq1 rfl (Or.inr rfl)
  have A3 : oF S (xm_set S q (.inl (1, cap, .inl g'))) 0 (sbW p q) := oF_S hq rfl (Or.inr rfl)
  have A4 : oF (xm_set S q (.inl (1, cap, .inl g'))) (xm_set (xm_set S q (.inl (1, cap, .inl g'))) p (.inr (11, [.ref q, .int 0, m, .int (nI (t.length + u.length))]))) 0 (sbW p q) := oF_S hb1 rfl (Or.inl rfl)
  refine ⟨⟨⟨f1, f2⟩, ⟨m, ?_⟩, ⟨g', oS_get hq1, k1, fun i hi => eg i (by rw [el] at hi; exact hi)⟩, by rw [el]; exact hcap, by rw [el]; exact hcap2⟩, A1.tr A2, ⟨⟨f1, f2⟩, ⟨m, ?_⟩, ⟨g', ?_, k1, fun i hi => eg i (by rw [el] at hi; exact hi)⟩, by rw [el]; exact hcap, by rw [el]; exact hcap2⟩, A3.tr A4⟩
  · rw [os_ne hpq, el]
    exact oS_get hb
  · rw [el]
    exact oS_get hb1
  · rw [os_ne (Ne.symm hpq)]
    exact oS_get hq
theorem upd_byt {g : Nat → Int32} {k cap : Nat} {y : Int32} (h : ∀ i, i < cap → xm_byt (g i) = true) (hy : xm_byt y = true) : ∀ i, i < cap → xm_byt (upd g k y i) = true := by
  intro i hi
  show xm_byt (if i = k then y else g i) = true
  split
  · exact hy
  · exact h i hi
/-- append(char) -/
theorem sb_33 (h : sbI S p q t cap) {y : Int32} (hy : asc y) (ht : t.length < 400) : ∃ S' q' cap', xm_C sc xt_M (d + 4) 33 [.ref p, .int y] S = some (.inl (some (.ref p)), S') ∧ sbM S S' p q q' (t ++ [y]) cap' 20 := by
  obtain ⟨a, ha, ea⟩ := hy
  obtain ⟨b1, b2, b3⟩ := asc_b a ha
  obtain ⟨S1, q1, cap1, e1, hF, hq1, hR, c1, c2⟩ := @sb_ens S sc d p q cap t h (t.length + 1) (by omega) (by omega)
  obtain ⟨f12, ⟨m, hb⟩, g, hg, hg2, hg3⟩ := id hR
  have hpq : p ≠ q1 := oK_ne hb hg (by show 111 ≠ 1; decide)
  obtain ⟨p1, p2, -, -⟩ := @sbR_put S1 p q1 cap1 t hR [y] (upd g t.length y) c1 c2 (fun g0 h0 _ _ => by
    rw [hg] at h0
    cases h0
    refine ⟨upd_byt hg2 (by rw [ea]; exact b2), fun i hi => zun (by omega), fun i hi => ?_⟩
    have : i = 0 := by have : i < 1 := hi; omega
    subst this
    exact zu1) m hb
  refine ⟨_, q1, cap1, ?_, p1, hF.tr2 p2 (fun x c hc z => ?_), hq1⟩
  · have hw : xm_wI (xm_set S1 p (.inr (11, [.ref q1, .int 0, m, .int (nI (t.length + 1))]))) q1 1 (nI t.length) y.toInt8.toInt32.toInt8.toInt32 = some (xm_set (xm_set S1 p (.inr (11, [.ref q1, .int 0, m, .int (nI (t.length + 1))]))) q1 (.inl (1, cap1, .inl (upd g t.length y)))) := by
      unfold xm_wI xm_gA
      rw [os_ne (Ne.symm hpq), hg]
      dsimp only
      rw [if_pos rfl]
      dsimp only
      rw [if_pos (xin (by omega) (by omega)), nI_clamp (by omega), ea, b1]
    rw [yc_33, h.n, zbs, if_pos h.is, ← nI_succ, e1, zbs, xk_v, if_pos hR.is, sb_48 hR, zbs, xk_I, if_neg (by decide), yc_211, if_neg (by rw [ea]; exact b3), zbs, xk_I, if_neg (by decide), hR.v, zbs, hR.n, zbs, ← nI_succ, og_S hb (by show 3 < 4; omega), zbs]
    show ((xm_wI (xm_set S1 p (.inr (11, [.ref q1, .int 0, m, .int (nI (t.length + 1))]))) q1 1 (nI t.length) y.toInt8.toInt32.toInt8.toInt32).bind _) = _
    rw [hw, zbs]
    rfl
  · rcases z with z | z
    · exact Or.inl z
    · rcases hq1 with e | e
      · exact Or.inr (z.trans e)
      · have := os_lt hc
        omega
theorem dig_in : ∀ x, x < 10 → (if (0 : Int32) ≤ nI x then true else false) = true ∧ ¬ nI x < 0 ∧ ¬ (10 : Int32) ≤ 1 ∧ ¬ -nI x ≤ -10 ∧ (-100 : Int32) < -nI x ∧ xm_in (-(-nI x)) (xm_str (1026 - 1000)).length = true ∧ (-9 : Int32) ≤ -nI x ∧ ((xm_str (1026 - 1000)).getD (-(-nI x)).toNatClampNeg 0).toInt8.toInt32 = nI (48 + x) := by decide +kernel
/-- append(int), of one digit -/
theorem sb_34 (h : sbI S p q t cap) {x : Nat} (hx : x < 10) (ht : t.length < 400) : ∃ S' q' cap', xm_C sc xt_M (d + 4) 34 [.ref p, .int (nI x)] S = some (.inl (some (.ref p)), S') ∧ sbM S S' p q q' (t ++ [nI (48 + x)]) cap' 20 := by
  obtain ⟨d0, d1, d2, d3, d4, d5, d6, d7⟩ := dig_in x hx
  obtain ⟨b1, b2, b3⟩ := asc_b (48 + x) (by omega)
  obtain ⟨S1, q1, cap1, e1, hF, hq1, hR, c1, c2⟩ := @sb_ens S sc d p q cap t h (t.length + 1) (by omega) (by omega)
  obtain ⟨f12, ⟨m, hb⟩, g, hg, hg2, hg3⟩ := id hR
  have hpq : p ≠ q1 := oK_ne hb hg (by show 111 ≠ 1; decide)
  obtain ⟨-, -, p1, p2⟩ := @sbR_put S1 p q1 cap1 t hR [nI (48 + x)] (upd g t.length (nI (48 + x))) c1 c2 (fun g0 h0 _ _ => by
    rw [hg] at h0
    cases h0
    refine ⟨upd_byt hg2 b2, fun i hi => zun (by omega), fun i hi => ?_⟩
    have : i = 0 := by have : i < 1 := hi; omega
    subst this
    exact zu1) m hb
  have hb1 : (xm_set S1 q1 (.inl (1, cap1, .inl (upd g t.length (nI (48 + x)))))).2.2[p]? = some (.inr (11, [.ref q1, .int 0, m, .int (nI t.length)])) := by rw [os_ne hpq]; exact hb
  refine ⟨_, q1, cap1, ?_, p1, hF.tr2 p2 (fun x c hc z => ?_), hq1⟩
  · have c191 : xm_C sc xt_M (d + 3) 191 [.int (nI x)] S = some (.inl (some (.int 1)), S) := by
      rw [yc_191, if_neg d1, yb_191_11, yb_191_16, if_neg d2, if_neg d3]
      rfl
    have hw : xm_wI S1 q1 1 (nI (t.length + 1) + (-1)) ((xm_str (1026 - 1000)).getD (-(-nI x)).toNatClampNeg 0).toInt8.toInt32 = some (xm_set S1 q1 (.inl (1, cap1, .inl (upd g t.length (nI (48 + x)))))) := by
      have e2 : nI (t.length + 1) + (-1) = nI t.length := by
        rw [nI_succ, Int32.add_assoc, show (1 : Int32) + (-1) = 0 by decide, Int32.add_zero]
      unfold xm_wI xm_gA
      rw [hg]
      dsimp only
      rw [if_pos rfl]
      dsimp only
      rw [e2, if_pos (xin (by omega) (by omega)), nI_clamp (by omega), d7]
    have c190 : xm_C sc xt_M (d + 3) 190 [.int (nI x), .int (nI (t.length + 1)), .ref q1] S1 = some (.inl (some (.int (nI (t.length + 1) + (-1)))), xm_set S1 q1 (.inl (1, cap1, .inl (upd g t.length (nI (48 + x)))))) := by
      have h0 : (0 : Int32) ≤ nI x := nI_pos' (by omega)
      rw [yc_190, if_pos h0, if_pos rfl, yb_190_22, if_pos d4, if_pos ⟨by decide, by decide, d5⟩, hw, zbs, if_pos d6, if_pos rfl, yb_190_118]
    rw [yc_34, h.n, zbs, c191, zbs, xk_I, if_pos h.is, ← nI_succ, e1, zbs, xk_v, if_pos hR.is, sb_48 hR, zbs, xk_I, if_neg (by decide), hR.v, zbs, c190, zbs, xk_I, og_S hb1 (by show 3 < 4; omega), zbs]
    rfl
  · rcases z with z | z
    · exact Or.inl z
    · rcases hq1 with e | e
      · exact Or.inr (z.trans e)
      · have := os_lt hc
        omega
end SA
