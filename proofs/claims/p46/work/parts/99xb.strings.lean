/-! TEXTS being built: append of a constant, a new builder, its length and characters -/
section SC
variable {S S1 : xm_PS} {sc : xm_Sc} {d p q cap k : Nat} {t : List Int32}
theorem st_is (hk : k < 26) : xm_isO S (.retAddr k) 100 = true := by
  show (Nat.beq 100 100 && Nat.blt k 26) = true
  rw [show Nat.blt k 26 = true by rw [Nat.blt_eq]; exact hk]
  rfl
theorem st_198 (hk : k < 26) : xm_C sc xt_M (d + 1) 198 [.retAddr k] S = some (.inl (some (.int 0)), S) := by
  rw [yc_198 (by omega), if_neg (by decide), if_pos hk, if_pos (by decide)]
theorem st_194 (hk : k < 26) : xm_C sc xt_M (d + 2) 194 [.retAddr k] S = some (.inl (some (.int (nI (xm_str k).length))), S) := by
  rw [yc_194 (by omega), if_pos hk, if_pos ⟨by omega, by omega⟩, if_pos (st_is hk), st_198 hk, zbs, xk_I, i32_s0, Nat.add_sub_cancel]
  rfl
theorem st_217 {i0 i1 : Int32} (h0 : ¬ i0 < 0) (h1 : i0 < i1) : xm_C sc xt_M (d + 1) 217 [.int i0, .int i1, .retAddr 9999] S = some (.inl (some (.int i0)), S) := by
  have z : xm_R sc xt_M d 217 0 [.int i0, .int i1, .retAddr 9999] [] S = some (.inl (some (.int i0)), S) := by
    refine yt_217_0.trans ?_
    simp only [yt_217_1, yt_217_4, yt_217_5, yt_217_6, yt_217_16, yt_217_17, xe_T, xl_I0, xl_I1, xp_I, eq_false h0, eq_true h1, ↓reduceIte]
  exact (xc ym_217 rfl).trans z
theorem sb_32 (h : sbI S p q t cap) (hk : k < 26) (hu : ∀ j, j < (xm_str k).length → asc ((xm_str k).getD j 0)) (hl : t.length + (xm_str k).length ≤ 400) : ∃ S' q' cap', xm_C sc xt_M (d + 4) 32 [.ref p, .retAddr k] S = some (.inl (some (.ref p)), S') ∧ sbM S S' p q q' (t ++ xm_str k) cap' 20 := by
  obtain ⟨S1, q1, cap1, e1, hF, hq1, hR, c1, c2⟩ := @sb_ens S sc d p q cap t h (t.length + (xm_str k).length) hl (by omega)
  obtain ⟨f12, ⟨m, hb⟩, g, hg, hg2, hg3⟩ := id hR
  have hpq : p ≠ q1 := oK_ne hb hg (by show 111 ≠ 1; decide)
  have ub : ∀ j, j < (xm_str k).length → xm_byt ((xm_str k).getD j 0) = true := fun j hj => by
    obtain ⟨a, ha, ea⟩ := hu j hj
    rw [ea]
    exact (asc_b a ha).2.1
  obtain ⟨-, -, p1, p2⟩ := @sbR_put S1 p q1 cap1 t hR (xm_str k) (va_cpy (fun j => (xm_str k).getD j 0) g 0 t.length (xm_str k).length) c1 c2 (fun g0 h0 _ _ => by
    rw [hg] at h0
    cases h0
    refine ⟨fun i hi => ?_, fun i hi => ?_, fun i hi => ?_⟩
    · unfold va_cpy
      split
      · rw [Nat.zero_add]
        exact ub _ (by omega)
      · exact hg2 i hi
    · unfold va_cpy
      rw [if_neg (by omega)]
    · unfold va_cpy
      rw [if_pos (by omega), Nat.zero_add, show t.length + i - t.length = i by omega]) m hb
  have hb1 : (xm_set S1 q1 (.inl (1, cap1, .inl (va_cpy (fun j => (xm_str k).getD j 0) g 0 t.length (xm_str k).length)))).2.2[p]? = some (.inr (11, [.ref q1, .int 0, m, .int (nI t.length)])) := by rw [os_ne hpq]; exact hb
  refine ⟨_, q1, cap1, ?_, p1, hF.tr2 p2 (fun x c hc z => ?_), hq1⟩
  · have hcp : xm_copyT S1 (k + 1000) 0 q1 (nI t.length <<< ((0 : Int32) &&& 31)) (Int32.ofNat (xm_str (k + 1000 - 1000)).length) = some (xm_set S1 q1 (.inl (1, cap1, .inl (va_cpy (fun j => (xm_str k).getD j 0) g 0 t.length (xm_str k).length)))) := by
      have hfit : xm_fitR 1 (fun j => (xm_str k).getD j 0) 0 (xm_str k).length = true := by
        unfold xm_fitR
        rw [List.all_eq_true.mpr (fun i hi => by rw [Nat.zero_add]; exact ub i (List.mem_range.mp hi))]
        rfl
      have z0 : (0 : Int32).toNatClampNeg = 0 := by decide
      have en : (Int32.ofNat (xm_str k).length).toNatClampNeg = (xm_str k).length := nI_clamp (by omega)
      have ep : ¬ Int32.ofNat (xm_str k).length < 0 := nI_pos (by omega)
      rw [i32_l0, Nat.add_sub_cancel]
      unfold xm_copyT xm_gA
      rw [hg]
      dsimp only
      rw [if_pos rfl]
      dsimp only
      rw [Nat.add_sub_cancel, en, nI_clamp (by omega), z0, if_pos ⟨by omega, by omega, by decide, nI_pos (by omega), ep, by omega, by omega, hfit⟩]
    have c196 : xm_C sc xt_M (d + 2) 196 [.retAddr k, .ref q1, .int (nI t.length), .int 0] S1 = some (.inl none, xm_set S1 q1 (.inl (1, cap1, .inl (va_cpy (fun j => (xm_str k).getD j 0) g 0 t.length (xm_str k).length)))) := by
      rw [yc_196 (by omega), if_pos (st_is hk), st_198 hk, zbs, xk_I, if_pos rfl, if_pos hk, if_pos hk, if_pos ⟨by omega, by omega⟩, hcp, zbs]
    have c110 : xm_C sc xt_M (d + 2) 110 [.ref p, .retAddr k] S1 = some (.inl none, S1) := by
      rw [yc_110 (by omega), if_neg (by decide), hR.co, zbs, if_pos (st_is hk), st_198 hk, zbs, xk_I, if_pos rfl, yb_110_21 (by omega)]
    have c119 : xm_C sc xt_M (d + 3) 119 [.ref p, .int (nI t.length), .retAddr k] S1 = some (.inl none, xm_set S1 q1 (.inl (1, cap1, .inl (va_cpy (fun j => (xm_str k).getD j 0) g 0 t.length (xm_str k).length)))) := by
      rw [yc_119 (by omega), if_pos hR.is, c110, zbs, xk_v, hR.v, zbs, hR.co, zbs, if_pos (st_is hk), c196, zbs, xk_v]
    rw [yc_32 (by omega), if_pos (st_is hk), st_194 hk, zbs, xk_I, h.n, zbs, if_pos h.is, zA, e1, zbs, xk_v, hR.n, zbs, if_pos hR.is, c119, zbs, xk_v, show xm_gI (xm_set S1 q1 (.inl (1, cap1, .inl (va_cpy (fun j => (xm_str k).getD j 0) g 0 t.length (xm_str k).length)))) p 11 3 = some (nI t.length) from og_I hb1 rfl, zbs, zA, og_S hb1 (by show 3 < 4; omega), zbs]
    rfl
  · rcases z with z | z
    · exact Or.inl z
    · rcases hq1 with e | e
      · exact Or.inr (z.trans e)
      · have := os_lt hc
        omega
/-- the StringBuilder's own append methods -/
theorem sb_203 (h : sbI S p q t cap) (hk : k < 26) (hu : ∀ j, j < (xm_str k).length → asc ((xm_str k).getD j 0)) (hl : t.length + (xm_str k).length ≤ 400) : ∃ S' q' cap', xm_C sc xt_M (d + 5) 203 [.ref p, .retAddr k] S = some (.inl (some (.ref p)), S') ∧ sbM S S' p q q' (t ++ xm_str k) cap' 20 := by
  obtain ⟨S', q', cap', e, m⟩ := @sb_32 S sc d p q cap k t h hk hu hl
  exact ⟨S', q', cap', by rw [yc_203 (by omega), if_pos h.is, e, zbs, xk_R], m⟩
theorem sb_204 (h : sbI S p q t cap) {y : Int32} (hy : asc y) (ht : t.length < 400) : ∃ S' q' cap', xm_C sc xt_M (d + 5) 204 [.ref p, .int y] S = some (.inl (some (.ref p)), S') ∧ sbM S S' p q q' (t ++ [y]) cap' 20 := by
  obtain ⟨S', q', cap', e, m⟩ := @sb_33 S sc d p q cap t h y hy ht
  exact ⟨S', q', cap', by rw [yc_204, if_pos h.is, e, zbs, xk_R], m⟩
theorem sb_205 (h : sbI S p q t cap) {x : Nat} (hx : x < 10) (ht : t.length < 400) : ∃ S' q' cap', xm_C sc xt_M (d + 5) 205 [.ref p, .int (nI x)] S = some (.inl (some (.ref p)), S') ∧ sbM S S' p q q' (t ++ [nI (48 + x)]) cap' 20 := by
  obtain ⟨S', q', cap', e, m⟩ := @sb_34 S sc d p q cap t h x hx ht
  exact ⟨S', q', cap', by rw [yc_205, if_pos h.is, e, zbs, xk_R], m⟩
theorem sb_209 (h : sbI S p q t cap) : xm_C sc xt_M (d + 2) 209 [.ref p] S = some (.inl (some (.int (nI t.length))), S) := by
  rw [yc_209, if_pos h.is, yc_28, h.n, zbs, zbs, xk_I]
/-- a new one -/
theorem sb_201 (h1 : S.1 = true) (h2 : S.2.1 = 0) {m0 : Value} {x0 : Value} {y0 : Value} {z0 : Value} (hp : S.2.2[p]? = some (.inr (11, [x0, y0, m0, z0]))) (hz : z0 = .int 0) : ∃ S' q', xm_C sc xt_M (d + 2) 201 [.ref p] S = some (.inl none, S') ∧ sbI S' p q' [] 16 ∧ oF S S' 1 (fun z => z = p) ∧ S.2.2.length ≤ q' := by
  subst hz
  have hp1 : (oP S (.inl (1, 16, .inl fun _ => 0))).2.2[p]? = some (.inr (11, [x0, y0, m0, .int 0])) := oP_old hp
  have hF1 : oF S (oP S (.inl (1, 16, .inl fun _ => 0))) 1 (fun z => z = p) := oF_P (by show 16 ≤ 50; omega)
  have hF2 : oF (oP S (.inl (1, 16, .inl fun _ => 0))) (xm_set (oP S (.inl (1, 16, .inl fun _ => 0))) p (.inr (11, [.ref S.2.2.length, y0, m0, .int 0]))) 0 (fun z => z = p) := oF_S hp1 rfl rfl
  have hp2 : (xm_set (oP S (.inl (1, 16, .inl fun _ => 0))) p (.inr (11, [.ref S.2.2.length, y0, m0, .int 0]))).2.2[p]? = some (.inr (11, [.ref S.2.2.length, y0, m0, .int 0])) := oS_get hp1
  have hF3 : oF (xm_set (oP S (.inl (1, 16, .inl fun _ => 0))) p (.inr (11, [.ref S.2.2.length, y0, m0, .int 0]))) (xm_set (xm_set (oP S (.inl (1, 16, .inl fun _ => 0))) p (.inr (11, [.ref S.2.2.length, y0, m0, .int 0]))) p (.inr (11, [.ref S.2.2.length, .int 0, m0, .int 0]))) 0 (fun z => z = p) := oF_S hp2 rfl rfl
  have hpl := os_lt hp
  refine ⟨xm_set (xm_set (oP S (.inl (1, 16, .inl fun _ => 0))) p (.inr (11, [.ref S.2.2.length, y0, m0, .int 0]))) p (.inr (11, [.ref S.2.2.length, .int 0, m0, .int 0])), S.2.2.length, ?_, ⟨⟨h1, h2⟩, ⟨m0, ?_⟩, ⟨fun _ => 0, ?_, fun i _ => show xm_byt 0 = true by decide, fun i hi => absurd hi (Nat.not_lt_zero i)⟩, by show 0 ≤ 16; omega, by show 16 ≤ 2 * 0 + 40; omega⟩, (hF1.tr hF2).tr hF3, Nat.le_refl _⟩
  · rw [yc_201, yc_26, if_neg (by decide), if_neg (by decide), if_pos (by decide), oP_eq h1 h2]
    show ((xm_sF (oP S (.inl (1, 16, .inl fun _ => 0))) p 11 0 (.ref S.2.2.length)).bind _).bind _ = _
    rw [og_S hp1 (by show 0 < 4; omega), zbs]
    show ((xm_sF (xm_set (oP S (.inl (1, 16, .inl fun _ => 0))) p (.inr (11, [.ref S.2.2.length, y0, m0, .int 0]))) p 11 1 (.int 0)).bind _).bind _ = _
    rw [og_S hp2 (by show 1 < 4; omega), zbs, zbs, xk_v]
    rfl
  · rw [show ([] : List Int32).length = 0 from rfl, nI_0]
    exact oS_get hp2
  · rw [os_ne (by omega), os_ne (by omega)]
    exact oP_at
/-- a character -/
theorem sb_208 (h : sbI S p q t cap) {i : Nat} (hi : i < t.length) (hl : t.length ≤ 400) (ha : asc (t.getD i 0)) : xm_C sc xt_M (d + 4) 208 [.ref p, .int (nI i)] S = some (.inl (some (.int (t.getD i 0))), S) := by
  obtain ⟨a, ha, ea⟩ := ha
  have hc := h.2.2.2.1
  have hc2 := h.2.2.2.2
  have hw : xm_aI S q 1 (nI i) = some (t.getD i 0) := by
    obtain ⟨-, -, ⟨g, c, g2, g3⟩, -⟩ := h
    have hA : oA S q 1 t.length (fun j => t.getD j 0) → True := fun _ => trivial
    unfold xm_aI xm_gA
    rw [c]
    dsimp only
    rw [if_pos rfl]
    dsimp only
    rw [if_pos (xin (by omega) (by omega)), nI_clamp (by omega), g3 i hi]
  have e0 : ∀ a, a < 128 → ((nI a &&& 255).toUInt32 % 65536).toInt32 = nI a ∧ nI a = ((nI a).toUInt32 % 65536).toInt32 := by decide +kernel
  obtain ⟨e1, e2⟩ := e0 a ha
  have c31 : xm_C sc xt_M (d + 3) 31 [.ref p, .int (nI i)] S = some (.inl (some (.int (t.getD i 0))), S) := by
    have hmin : (if nI cap < nI t.length then nI cap else nI t.length) = nI t.length := if_neg (nI_nlt hc (by omega))
    rw [yc_31, h.co, zbs, h.v, zbs, h.n, zbs, h.len, zbs, i32_s0, hmin, yc_200, st_217 (nI_pos (by omega)) (nI_lt hi (by omega)), zbs, xk_I, zbs, xk_v, if_pos rfl, hw, zbs, ea, e1, if_pos e2]
  rw [yc_208, if_pos h.is, c31, zbs, xk_I, ea, if_pos e2]
end SC
