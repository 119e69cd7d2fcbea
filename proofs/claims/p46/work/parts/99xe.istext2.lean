/-! THE LAW: isText, from its start -/
section IY
variable {w : xW} {ext : List xm_PC} {sc : xm_Sc} {d n k : Nat} {r : Nat → Int32} {hs : Nat → Nat → Int32} {sn : Option (Nat → Int32)} {L : Nat → Nat} {x : Int32}
theorem txJ.mo {S0 T : xm_PS} {p q m m' : Nat} {t : List Int32} (h : txJ S0 T p q t m) (hm : m ≤ m') : txJ S0 T p q t m' := ⟨h.1, h.2.1.mo hm (fun _ _ _ z => z), h.2.2⟩
/-- the end: the class's line is the text -/
theorem it_end (hI : cI w r n hs sn) (hD : rD r) (hk : k < xnk r) (hk10 : k < 10) {T : xm_PS} {p q m0 : Nat} (hT : txJ (xL w ext) T p q (tX r k) m0) {v8 : Value} : ∃ w' ext', cI w' r n hs sn ∧ oF (xL w ext) (xL w' ext') m0 oC ∧
    xm_R sc xt_M (d + 5) 183 138 [.ref 0, .ref (L 0), .int (nI k), .ref (L (30 + k)), .ref p, .ref (L 6), .int (nI (xnq r)), .int (nI (xnq r)), v8] [] T = some (.inl (some (.int 1)), xL w' ext') := by
  have hW := hI.W
  have hq40 := hW.bd.q40
  have hl := @tX_len r k hW.bd
  obtain ⟨ext1, ex⟩ := oF_to hT.2.1 (fun h z => False.elim z)
  obtain ⟨w', e1, J, g12, gL⟩ := @la_145 w ext1 sc d n k r hs sn hI hD hk hk10
  obtain ⟨⟨cap, hsb⟩, hF, hp, hq⟩ := hT
  rw [xL_len] at hp hq
  rw [ex] at hsb hF
  have hsb2 : sbI (xL w' ext1) p q (tX r k) cap := hsb.fr oF_xL (fun z => absurd z (by show ¬ p < 191; omega)) (fun z => absurd z (by show ¬ q < 191; omega))
  have c146 : ∀ i, i ≤ (tX r k).length → xm_C sc xt_M (d + 5) 146 [.ref 0, .int (nI i)] (xL w' ext1) = some (.inl (some (.int (if i < (tX r k).length then (tX r k).getD i 0 else -1))), xL w' ext1) := by
    intro i hi
    have e := xL_C (ext := ext1) (@kd_146 w' xl0 0 sc (d + 4) (tX r k).length (nI i) (by omega) g12)
    rw [if_neg (nI_pos (by omega))] at e
    rw [e]
    by_cases c : i < (tX r k).length
    · rw [if_pos (nI_lt c (by omega)), if_pos c, nI_clamp (by omega), gL i c]
    · rw [if_neg (nI_nlt (by omega) (by omega)), if_neg c]
  have lp : ∀ m i {i6 i7 : Int32} {v8 : Value}, i + m = (tX r k).length → xm_R sc xt_M (d + 5) 183 224 [.ref 0, .ref (L 0), .int (nI k), .ref (L (30 + k)), .ref p, .int (nI i), .int i6, .int i7, v8] [] (xL w' ext1) = some (.inl (some (.int 1)), xL w' ext1) := by
    intro m
    induction m with
    | zero =>
      intro i i6 i7 v8 hi
      rw [yb_183_224, if_pos hsb2.is, sb_209 hsb2, zbs, xk_I, if_pos (nI_le (by omega) (by omega))]
    | succ m ih =>
      intro i i6 i7 v8 hi
      have hlt : i < (tX r k).length := by omega
      have e2 := c146 i (by omega)
      rw [if_pos hlt] at e2
      rw [yb_183_224, if_pos hsb2.is, sb_209 hsb2, zbs, xk_I, if_neg (nI_ge (by omega) (by omega)), if_pos (cI.is w'), e2, zbs, xk_I, if_pos hsb2.is, sb_208 hsb2 hlt (by omega) (tX_asc hW hD hk hk10 _ (getD_mem hlt)), zbs, xk_I, if_pos rfl, ← nI_succ]
      exact ih (i + 1) (by omega)
  have e3 := c146 (tX r k).length (Nat.le_refl _)
  rw [if_neg (Nat.lt_irrefl _)] at e3
  refine ⟨w', ext1, J, (hF.nw (Nat.le_refl _)).tr oF_xL, ?_⟩
  have z := @lp (tX r k).length 0 (nI (xnq r)) (nI (xnq r)) v8 (Nat.zero_add _)
  rw [nI_0] at z
  rw [ex, yb_183_138, if_pos (nI_le (Nat.le_refl _) (by omega)), if_pos (cI.is w), e1, zbs, xk_I, if_pos hsb2.is, sb_209 hsb2, zbs, xk_I, if_pos rfl, if_pos hsb2.is, sb_209 hsb2, zbs, xk_I, if_pos (cI.is w'), e3, zbs, xk_I, if_pos rfl]
  exact z
theorem oc_183 (hI : cI w r n hs sn) (hD : rD r) (h0 : oI (xL w ext) L r x) (hk : k < xnk r) (hk10 : k < 10) : ∃ w' ext', cI w' r n hs sn ∧ oF (xL w ext) (xL w' ext') 3400 oC ∧ xm_C sc xt_M (d + 6) 183 [.ref 0, .ref (L 0), .int (nI k)] (xL w ext) = some (.inl (some (.int 1)), xL w' ext') := by
  have hW := hI.W
  have hk20 := hW.bd.k20
  have hb6 := hW.bd.b6
  have hv4 := hW.bd.v4
  have hq40 := hW.bd.q40
  obtain ⟨h5, -, h59, h02, h1, -, -, -⟩ := hW.k k hk
  -- from the requests on
  have t124 : ∀ T p q m0 {v5 v6 v7 v8 : Value}, m0 ≤ 150 → txJ (xL w ext) T p q ((tD (nI k) :: tS r k) ++ tR r k) m0 → ∃ w' ext', cI w' r n hs sn ∧ oF (xL w ext) (xL w' ext') 3400 oC ∧ xm_R sc xt_M (d + 5) 183 124 [.ref 0, .ref (L 0), .int (nI k), .ref (L (30 + k)), .ref p, v5, v6, v7, v8] [] T = some (.inl (some (.int 1)), xL w' ext') := by
    intro T p q m0 v5 v6 v7 v8 hm hT
    have hIT := hT.oi h0
    obtain ⟨T', q', v8', j1, j2⟩ := @it_138 w ext sc d n k r hs sn L x hI hD h0 hk hk10 p (xnq r) 0 T q m0 v8 (Nat.zero_add _) (by unfold tQ; rw [List.append_nil]; exact hT)
    obtain ⟨w', ext', J, F, e⟩ := @it_end w ext sc d n k r hs sn L hI hD hk hk10 T' p q' _ j1 v8'
    refine ⟨w', ext', J, F.mo (by omega) (fun _ _ _ z => z), ?_⟩
    rw [nI_0] at j2
    rw [yb_183_124, hIT.g5, zbs, hIT.asks.len (by decide), zbs]
    exact j2.trans e
  have t109 : ∀ T p q m0 {v5 v6 v7 v8 : Value}, m0 ≤ 120 → txJ (xL w ext) T p q (tD (nI k) :: tS r k) m0 → ∃ w' ext', cI w' r n hs sn ∧ oF (xL w ext) (xL w' ext') 3400 oC ∧ xm_R sc xt_M (d + 5) 183 109 [.ref 0, .ref (L 0), .int (nI k), .ref (L (30 + k)), .ref p, v5, v6, v7, v8] [] T = some (.inl (some (.int 1)), xL w' ext') := by
    intro T p q m0 v5 v6 v7 v8 hm hT
    have hIT := hT.oi h0
    rw [yb_183_109, hIT.t5 hk, zbs]
    rcases h59 with z | z
    · rw [if_pos z]
      refine t124 T p q m0 (by omega) ?_
      unfold tR
      rw [if_neg (by rw [z]; decide), List.append_nil]
      exact hT
    · rw [if_neg (by rw [z]; decide)]
      obtain ⟨cap, hsb⟩ := hT.1
      have hl := @tS_len r k
      obtain ⟨T1, q1, c1, e1, m1⟩ := @sb_204 T sc d p q cap _ hsb 114 ⟨114, by omega, by decide⟩ (by rw [List.length_cons]; omega)
      have J1 := txJ_s hT m1
      rw [if_pos hsb.is, e1, zbs, xk_R]
      refine t124 T1 p q1 (m0 + 20) (by omega) ?_
      unfold tR
      rw [if_pos z]
      exact J1
  have t71 : ∀ T p q m0 kk c {v4 v5 v6 v7 v8 : Value}, m0 ≤ 40 → kk < 26 → xm_str kk = [c] → asc c → txJ (xL w ext) T p q [tD (nI k)] m0 → ((¬ (4 : Int32) ≤ r (56 + 6 * k) ∧ ∃ y, (if r (56 + 6 * k) = 3 then r (60 + 6 * k) else r (57 + 6 * k)) = y ∧ xil y 10 ∧ tS r k = [c, tD y]) ∨ ((4 : Int32) ≤ r (56 + 6 * k) ∧ tS r k = [c])) → ∃ w' ext', cI w' r n hs sn ∧ oF (xL w ext) (xL w' ext') 3400 oC ∧ xm_R sc xt_M (d + 5) 183 71 [.ref 0, .ref (L 0), .int (nI k), .ref (L (30 + k)), v4, v5, v6, v7, v8] [.retAddr kk, .ref p] T = some (.inl (some (.int 1)), xL w' ext') := by
    intro T p q m0 kk c v4 v5 v6 v7 v8 hm hkk ec ac hT hc
    obtain ⟨cap, hsb⟩ := hT.1
    obtain ⟨T1, q1, c1, e1, m1⟩ := @sb_203 T sc d p q cap kk _ hsb hkk (fun j hj => by
      rw [ec] at hj ⊢
      have : j = 0 := by have : j < 1 := hj; omega
      subst this
      exact ac) (by rw [ec]; show 1 + 1 ≤ 400; omega)
    have J1 := txJ_s hT m1
    rw [ec] at J1
    have hIT := J1.oi h0
    rw [yb_183_71, if_pos hsb.is, e1, zbs, xk_R, hIT.t0 hk, zbs]
    rcases hc with ⟨hn4, y, ey, xy, et⟩ | ⟨h4, et⟩
    · rw [if_neg hn4, zbs]
      have t105 : ∀ {v5 v6 v7 v8 : Value}, ∃ w' ext', cI w' r n hs sn ∧ oF (xL w ext) (xL w' ext') 3400 oC ∧ xm_R sc xt_M (d + 5) 183 105 [.ref 0, .ref (L 0), .int (nI k), .ref (L (30 + k)), .ref p, v5, v6, v7, v8] [.int y, .ref p] T1 = some (.inl (some (.int 1)), xL w' ext') := by
        intro v5 v6 v7 v8
        obtain ⟨cap1, hsb1⟩ := J1.1
        obtain ⟨T2, q2, c2, e2, m2⟩ := @sb_205 T1 sc d p q1 cap1 _ hsb1 y.toNatClampNeg xy.2 (by show 1 + 1 < 400; omega)
        rw [← xy.1] at e2
        have J2 := txJ_s J1 m2
        rw [yb_183_105, if_pos hsb1.is, e2, zbs, xk_R]
        have u := t109 T2 p q2
        rw [et] at u
        exact u _ (by omega) J2
      by_cases c3 : r (56 + 6 * k) = 3
      · rw [if_pos c3] at ey
        rw [if_pos c3, hIT.t3 hk, zbs, ey]
        exact t105
      · rw [if_neg c3] at ey
        rw [if_neg c3, hIT.t1 hk, zbs, ey]
        exact t105
    · rw [if_pos h4]
      have u := t109 T1 p q1
      rw [et] at u
      exact u _ (by omega) J1
  obtain ⟨S1, q1, e1, b1, F1, l1⟩ := @sb_201 (oP (xL w ext) (.inr (11, xm_new 11))) sc (d + 3) (xL w ext).2.2.length h0.fl h0.f0 _ _ _ _ oP_at rfl
  have J0 : txJ (xL w ext) S1 (xL w ext).2.2.length q1 [] (1 + 1) := ⟨⟨16, b1⟩, (oF_P (W := oN) (by decide)).tr2 F1 (fun h c hc z => by
    have := os_lt hc
    omega), Nat.le_refl _, by
    have : (oP (xL w ext) (.inr (11, xm_new 11))).2.2.length = (xL w ext).2.2.length + 1 := by
      show List.length (_ ++ [_]) = _
      rw [List.length_append]; rfl
    omega⟩
  obtain ⟨S2, q2, c2, e2, m2⟩ := @sb_205 S1 sc d _ q1 16 [] b1 k hk10 (by decide)
  have J1 := txJ_s J0 m2
  have et : ([] : List Int32) ++ [nI (48 + k)] = [tD (nI k)] := by
    unfold tD
    rw [nI_clamp (by omega)]
    rfl
  rw [et] at J1
  have hIT := J1.oi h0
  rw [yc_183, h0.g4, zbs, h0.books.at hk (by omega), zbs, oP_eq h0.fl h0.f0, e1, zbs, xk_0 rfl, if_pos b1.is, e2, zbs, xk_R, hIT.t0 hk, zbs]
  have u := fun kk c hkk ec ac => @t71 S2 (xL w ext).2.2.length q2 _ kk c .null .null .null .null .null (by decide) hkk ec ac J1
  by_cases c0 : r (56 + 6 * k) = 0
  · rw [if_pos c0]
    refine u 16 64 (by omega) (by decide) ⟨64, by omega, by decide⟩ (Or.inl ⟨by rw [c0]; decide, r (57 + 6 * k), if_neg (by rw [c0]; decide), xil_le (h02 (Or.inl c0)) (by omega), ?_⟩)
    unfold tS
    rw [if_pos c0]
  rw [if_neg c0, zbs]
  by_cases c1 : r (56 + 6 * k) = 1
  · rw [if_pos c1]
    refine u 17 62 (by omega) (by decide) ⟨62, by omega, by decide⟩ (Or.inl ⟨by rw [c1]; decide, r (57 + 6 * k), if_neg (by rw [c1]; decide), xil_le (h1 c1) (by omega), ?_⟩)
    unfold tS
    rw [if_neg c0, if_pos c1]
  rw [if_neg c1, zbs]
  by_cases c2 : r (56 + 6 * k) = 2
  · rw [if_pos c2]
    refine u 18 33 (by omega) (by decide) ⟨33, by omega, by decide⟩ (Or.inl ⟨by rw [c2]; decide, r (57 + 6 * k), if_neg (by rw [c2]; decide), xil_le (h02 (Or.inr c2)) (by omega), ?_⟩)
    unfold tS
    rw [if_neg c0, if_neg c1, if_pos c2]
  rw [if_neg c2, zbs]
  by_cases c3 : r (56 + 6 * k) = 3
  · rw [if_pos c3]
    refine u 19 45 (by omega) (by decide) ⟨45, by omega, by decide⟩ (Or.inl ⟨by rw [c3]; decide, r (60 + 6 * k), if_pos c3, hD.2 k hk c3, ?_⟩)
    unfold tS
    rw [if_neg c0, if_neg c1, if_neg c2, if_pos c3]
  rw [if_neg c3]
  have c4 : r (56 + 6 * k) = 4 := by
    obtain ⟨e5, l5⟩ := h5
    generalize (r (56 + 6 * k)).toNatClampNeg = v at e5 l5
    have hv : v = 0 ∨ v = 1 ∨ v = 2 ∨ v = 3 ∨ v = 4 := by omega
    rcases hv with z | z | z | z | z <;> subst z
    · exact absurd e5 c0
    · exact absurd e5 c1
    · exact absurd e5 c2
    · exact absurd e5 c3
    · exact e5
  refine u 20 63 (by omega) (by decide) ⟨63, by omega, by decide⟩ (Or.inr ⟨by rw [c4]; decide, ?_⟩)
  unfold tS
  rw [if_neg c0, if_neg c1, if_neg c2, if_neg c3]
end IY
