/-! TEXTS made: toString, and what is read of a made String -/
def stI (S : xm_PS) (s q : Nat) (t : List Int32) : Prop := (∃ m1 m2, S.2.2[s]? = some (.inr (10, [.ref q, .int 0, m1, m2]))) ∧ ∃ g, S.2.2[q]? = some (.inl (1, t.length, .inl g)) ∧ (∀ i, i < t.length → xm_byt (g i) = true) ∧ ∀ i, i < t.length → g i = t.getD i 0
section MS
variable {S S1 : xm_PS} {sc : xm_Sc} {d p q cap s k : Nat} {t : List Int32}
theorem stI.fr {S' : xm_PS} {m : Nat} {W : Nat → Prop} (h : stI S s q t) (hF : oF S S' m W) (hs : ¬ W s) (hq : ¬ W q) : stI S' s q t := by
  obtain ⟨⟨m1, m2, b⟩, g, c1, c2⟩ := h
  exact ⟨⟨m1, m2, hF.2.2.2.2 _ _ b hs⟩, g, hF.2.2.2.2 _ _ c1 hq, c2⟩
theorem stI.v (h : stI S s q t) : xm_gR S s 10 0 = some q := by
  obtain ⟨⟨m1, m2, b⟩, -⟩ := h
  exact og_R b rfl
theorem stI.co (h : stI S s q t) : xm_gI S s 10 1 = some 0 := by
  obtain ⟨⟨m1, m2, b⟩, -⟩ := h
  exact og_I b rfl
theorem stI.len (h : stI S s q t) : xm_len S q = some (nI t.length) := by
  obtain ⟨-, g, c, -⟩ := h
  unfold xm_len
  rw [c]
  dsimp only
  rw [if_pos (by decide)]
  rfl
theorem stI.is (h : stI S s q t) : xm_isO S (.ref s) 100 = true := by
  obtain ⟨⟨m1, m2, b⟩, -⟩ := h
  unfold xm_isO
  dsimp only
  rw [b]
  rfl
theorem ms_198 (h : stI S s q t) : xm_C sc xt_M (d + 1) 198 [.ref s] S = some (.inl (some (.int 0)), S) := by
  rw [yc_198R, if_neg (by decide), h.co, zbs, if_pos (by decide)]
theorem ms_194 (h : stI S s q t) : xm_C sc xt_M (d + 2) 194 [.ref s] S = some (.inl (some (.int (nI t.length))), S) := by
  rw [yc_194R, h.v, zbs, h.len, zbs, if_pos h.is, ms_198 h, zbs, xk_I, i32_s0]
theorem asc_c : ∀ a, a < 128 → ((nI a &&& 255).toUInt32 % 65536).toInt32 = nI a ∧ nI a = ((nI a).toUInt32 % 65536).toInt32 := by decide +kernel
theorem ms_195 (h : stI S s q t) {i : Nat} (hi : i < t.length) (hl : t.length ≤ 400) (ha : asc (t.getD i 0)) : xm_C sc xt_M (d + 4) 195 [.ref s, .int (nI i)] S = some (.inl (some (.int (t.getD i 0))), S) := by
  obtain ⟨a, ha, ea⟩ := ha
  have hw : xm_aI S q 1 (nI i) = some (t.getD i 0) := by
    obtain ⟨-, g, c, g2, g3⟩ := h
    unfold xm_aI xm_gA
    rw [c]
    dsimp only
    rw [if_pos rfl]
    dsimp only
    rw [if_pos (xin hi (by omega)), nI_clamp (by omega), g3 i hi]
  obtain ⟨e1, e2⟩ := asc_c a ha
  rw [yc_195R, if_pos h.is, yc_199R, if_neg (by decide), h.co, zbs, if_pos rfl, zbs, xk_I, if_neg (by decide), h.v, zbs, yc_210R, h.len, zbs, yc_200, st_217 (nI_pos (by omega)) (nI_lt hi (by omega)), zbs, xk_I, zbs, xk_v, hw, zbs, ea, e1, if_pos e2, zbs, xk_I, if_pos e2]
theorem ms_214 (h : sbI S p q t cap) (hl : t.length ≤ 400) : ∃ g, xm_C sc xt_M (d + 3) 214 [.ref q, .int 0, .int (nI t.length)] S = some (.inl (some (.ref S.2.2.length)), oP S (.inl (1, t.length, .inl g))) ∧ (∀ i, i < t.length → xm_byt (g i) = true) ∧ ∀ i, i < t.length → g i = t.getD i 0 := by
  have hlen := h.len
  obtain ⟨⟨f1, f2⟩, -, ⟨g, hg, g2, g3⟩, h4, h5⟩ := h
  have hgA : xm_gA S q 1 = some (cap, g) := by
    unfold xm_gA
    rw [hg]
    dsimp only
    rw [if_pos rfl]
  by_cases e : t.length = cap
  · subst e
    have hfit : xm_fitR 1 g 0 t.length = true := by
      unfold xm_fitR
      rw [List.all_eq_true.mpr (fun i hi => by rw [Nat.zero_add]; exact g2 i (List.mem_range.mp hi))]
      rfl
    have hgN : xm_gA (oP S (.inl (1, t.length, .inl g))) S.2.2.length 1 = some (t.length, g) := by
      unfold xm_gA
      rw [oP_at]
      dsimp only
      rw [if_pos rfl]
    refine ⟨g, ?_, g2, g3⟩
    rw [yc_214, if_pos rfl, hlen, zbs, if_pos rfl, hgA, zbs]
    dsimp only
    rw [if_pos hfit, oP_eq f1 f2, hgN, zbs]
  · have hfit : xm_fitR 1 g 0 t.length = true := by
      unfold xm_fitR
      rw [List.all_eq_true.mpr (fun i hi => by rw [Nat.zero_add]; exact g2 i (by have := List.mem_range.mp hi; omega))]
      rfl
    have hgO : xm_gA (oP S (.inl (1, t.length, .inl fun _ => 0))) q 1 = some (cap, g) := by
      unfold xm_gA
      rw [oP_old hg]
      dsimp only
      rw [if_pos rfl]
    have hgN : xm_gA (oP S (.inl (1, t.length, .inl fun _ => 0))) S.2.2.length 1 = some (t.length, fun _ => 0) := by
      unfold xm_gA
      rw [oP_at]
      dsimp only
      rw [if_pos rfl]
    have hlen2 : xm_len (oP S (.inl (1, t.length, .inl fun _ => 0))) q = some (nI cap) := by
      unfold xm_len
      rw [oP_old hg]
      dsimp only
      rw [if_pos (by decide)]
      rfl
    have z0 : (0 : Int32).toNatClampNeg = 0 := by decide
    have hcp : xm_copy (oP S (.inl (1, t.length, .inl fun _ => 0))) 1 q 0 S.2.2.length 0 (nI t.length) = some (oP S (.inl (1, t.length, .inl (va_cpy g (fun _ => 0) 0 0 t.length)))) := by
      unfold xm_copy
      rw [hgO, hgN]
      dsimp only
      rw [nI_clamp (by omega), z0, if_pos ⟨by omega, by decide, by decide, nI_pos (by omega), by omega, by omega, hfit⟩, oP_set]
    have hv : ∀ i, i < t.length → va_cpy g (fun _ => 0) 0 0 t.length i = g i := fun i hi => by
      unfold va_cpy
      rw [if_pos (by omega)]
      congr 1
      omega
    refine ⟨va_cpy g (fun _ => 0) 0 0 t.length, ?_, fun i hi => by rw [hv i hi]; exact g2 i (by omega), fun i hi => by rw [hv i hi]; exact g3 i hi⟩
    rw [yc_214, if_pos rfl, hlen, zbs, if_neg (fun z => e (nI_inj (by omega) (by omega) z)), yb_214_10, yc_215, yc_213, if_pos (nI_pos' (by omega)), zbs, xk_v, Int32.sub_zero, if_neg (nI_pos (by omega)), nI_clamp (by omega), if_pos (by omega), oP_eq f1 f2, hlen2, zbs, Int32.sub_zero, if_pos (nI_lt (by omega) (by omega)), hcp, zbs, zbs, xk_R]
/-- toString -/
theorem ms_206 (h : sbI S p q t cap) (hl : t.length ≤ 400) : ∃ S' s' q', xm_C sc xt_M (d + 6) 206 [.ref p] S = some (.inl (some (.ref s')), S') ∧ stI S' s' q' t ∧ oF S S' 20 oN ∧ S.2.2.length ≤ s' ∧ S.2.2.length ≤ q' := by
  have F1 : oF S (oP S (.inr (10, xm_new 10))) 1 oN := oF_P (by decide)
  have h1 := h.fr F1 id id
  have e1 : (oP S (.inr (10, xm_new 10))).2.2[S.2.2.length]? = some (.inr (10, xm_new 10)) := oP_at
  have el : S.2.2.length < (oP S (.inr (10, xm_new 10))).2.2.length := os_lt e1
  have f1 := h.1.1
  have f2 := h.1.2
  have hne : S.2.2.length ≠ p := by
    obtain ⟨-, ⟨m0, b⟩, -⟩ := h
    have := os_lt b
    omega
  have hnq : S.2.2.length ≠ q := by
    obtain ⟨-, -, ⟨g, b, -⟩, -⟩ := h
    have := os_lt b
    omega
  have eP : xm_push S (.inr (10, xm_new 10)) (fun p1 S2 => (xm_C sc xt_M (d + 5) 193 [.ref p1, .ref p] S2).bind fun o4 => xm_r0 o4 (fun S3 => some (.inl (some (.ref p1)), S3)) (fun _ _ => none)) = (xm_C sc xt_M (d + 5) 193 [.ref S.2.2.length, .ref p] (oP S (.inr (10, xm_new 10)))).bind fun o4 => xm_r0 o4 (fun S3 => some (.inl (some (.ref S.2.2.length)), S3)) (fun _ _ => none) := oP_eq f1 f2
  generalize hT : oP S (.inr (10, xm_new 10)) = T at *
  generalize hs : S.2.2.length = s at *
  have F2 : oF T (xm_set T s (.inr (10, (xm_new 10).set 1 (.int 0)))) 0 (fun z => z = s) := oF_S e1 rfl rfl
  have e2 : (xm_set T s (.inr (10, (xm_new 10).set 1 (.int 0)))).2.2[s]? = some (.inr (10, (xm_new 10).set 1 (.int 0))) := oS_get e1
  have h2 := h1.fr F2 (fun z => hne z.symm) (fun z => hnq z.symm)
  have c1 : xm_sF T s 10 1 (.int 0) = some (xm_set T s (.inr (10, (xm_new 10).set 1 (.int 0)))) := og_S e1 (by decide)
  generalize hU : xm_set T s (.inr (10, (xm_new 10).set 1 (.int 0))) = U at *
  obtain ⟨g, e3, g2, g3⟩ := @ms_214 U sc d p q cap t h2 hl
  have F3 : oF U (oP U (.inl (1, t.length, .inl g))) 18 oN := oF_Pn (by omega) (by show t.length ≤ 50 * 18; omega)
  have e4 : (oP U (.inl (1, t.length, .inl g))).2.2[s]? = some (.inr (10, (xm_new 10).set 1 (.int 0))) := oP_old e2
  have e5 : (oP U (.inl (1, t.length, .inl g))).2.2[U.2.2.length]? = some (.inl (1, t.length, .inl g)) := oP_at
  have hUs : s < U.2.2.length := os_lt e2
  have F4 : oF (oP U (.inl (1, t.length, .inl g))) (xm_set (oP U (.inl (1, t.length, .inl g))) s (.inr (10, ((xm_new 10).set 1 (.int 0)).set 0 (.ref U.2.2.length)))) 0 (fun z => z = s) := oF_S e4 rfl rfl
  have c2 : xm_sF (oP U (.inl (1, t.length, .inl g))) s 10 0 (.ref U.2.2.length) = some (xm_set (oP U (.inl (1, t.length, .inl g))) s (.inr (10, ((xm_new 10).set 1 (.int 0)).set 0 (.ref U.2.2.length)))) := og_S e4 (by decide)
  have e6 : (xm_set (oP U (.inl (1, t.length, .inl g))) s (.inr (10, ((xm_new 10).set 1 (.int 0)).set 0 (.ref U.2.2.length)))).2.2[s]? = some (.inr (10, ((xm_new 10).set 1 (.int 0)).set 0 (.ref U.2.2.length))) := oS_get e4
  have e7 : (xm_set (oP U (.inl (1, t.length, .inl g))) s (.inr (10, ((xm_new 10).set 1 (.int 0)).set 0 (.ref U.2.2.length)))).2.2[U.2.2.length]? = some (.inl (1, t.length, .inl g)) := by
    rw [os_ne (by omega)]
    exact e5
  have FF : oF S (xm_set (oP U (.inl (1, t.length, .inl g))) s (.inr (10, ((xm_new 10).set 1 (.int 0)).set 0 (.ref U.2.2.length)))) (1 + (0 + (18 + 0))) oN := F1.tr2 (F2.tr ((F3.nw (Nat.le_refl _)).tr F4)) (fun x c hc z => by
    have := os_lt hc
    have z' : x = s := z
    omega)
  have hU1 : s ≤ U.2.2.length := Nat.le_of_lt hUs
  generalize hV : xm_set (oP U (.inl (1, t.length, .inl g))) s (.inr (10, ((xm_new 10).set 1 (.int 0)).set 0 (.ref U.2.2.length))) = V at *
  have c197 : xm_C sc xt_M (d + 4) 197 [.ref s, .ref p, .null] T = some (.inl none, V) := by
    rw [yc_197, if_pos h1.is, yc_35, h1.v, zbs, zbs, xk_R, if_pos h1.is, sb_209 h1, zbs, xk_I, if_pos h1.is, yc_48, if_neg (by decide), h1.co, zbs, if_pos rfl, zbs, xk_I, if_neg (by decide), c1, zbs, e3, zbs, xk_R, c2, zbs, yb_197_97]
  refine ⟨V, s, U.2.2.length, ?_, ⟨⟨_, _, e6⟩, g, e7, g2, g3⟩, FF.mo (by omega) (fun _ _ _ z => z), Nat.le_refl _, hU1⟩
  rw [yc_206, eP, yc_193, c197, zbs, xk_v, zbs, xk_v]
end MS
