/-! TEXTS being built: a StringBuilder p over its bytes q -/
def sbI (S : xm_PS) (p q : Nat) (t : List Int32) (cap : Nat) : Prop := (S.1 = true ∧ S.2.1 = 0) ∧ (∃ m, S.2.2[p]? = some (.inr (11, [.ref q, .int 0, m, .int (nI t.length)]))) ∧ (∃ g, S.2.2[q]? = some (.inl (1, cap, .inl g)) ∧ (∀ i, i < cap → xm_byt (g i) = true) ∧ ∀ i, i < t.length → g i = t.getD i 0) ∧ t.length ≤ cap ∧ cap ≤ 2 * t.length + 40
def sbW (p q z : Nat) : Prop := z = p ∨ z = q
def sbM (S S' : xm_PS) (p q q' : Nat) (t' : List Int32) (cap' m : Nat) : Prop := sbI S' p q' t' cap' ∧ oF S S' m (sbW p q) ∧ (q' = q ∨ S.2.2.length ≤ q')
theorem sbM.tr {S S1 S2 : xm_PS} {p q q1 q2 : Nat} {t1 t2 : List Int32} {c1 c2 m n : Nat} (h : sbM S S1 p q q1 t1 c1 m) (g : sbM S1 S2 p q1 q2 t2 c2 n) : sbM S S2 p q q2 t2 c2 (m + n) := by
  obtain ⟨-, a2, a3⟩ := h
  obtain ⟨b1, b2, b3⟩ := g
  refine ⟨b1, a2.tr2 b2 (fun h c hc z => ?_), ?_⟩
  · rcases z with z | z
    · exact Or.inl z
    · rcases a3 with e | e
      · exact Or.inr (z.trans e)
      · have := os_lt hc
        omega
  · rcases b3 with e | e
    · rw [e]; exact a3
    · exact Or.inr (Nat.le_trans a2.2.1 e)
theorem sbM.mo {S S' : xm_PS} {p q q' : Nat} {t' : List Int32} {c m n : Nat} (h : sbM S S' p q q' t' c m) (hm : m ≤ n) : sbM S S' p q q' t' c n := ⟨h.1, h.2.1.mo hm (fun _ _ _ z => z), h.2.2⟩
theorem i32_s0 (x : Int32) : x >>> ((0 : Int32) &&& 31) = x := b_ext fun i hi => by
  rw [show (0 : Int32) = nI 0 from nI_0.symm, b_sshr 0 (by omega) x hi, if_pos (by omega), Nat.zero_add]
theorem i32_l0 (x : Int32) : x <<< ((0 : Int32) &&& 31) = x := b_ext fun i hi => by
  rw [show (0 : Int32) = nI 0 from nI_0.symm, b_shl 0 (by omega) x hi, Nat.sub_zero, decide_eq_true (Nat.zero_le i)]
  rfl
theorem i32_sub {a b : Nat} : nI (a + b) - nI b = nI a := by
  rw [← zA, Int32.sub_eq_add_neg, Int32.add_assoc, Int32.add_right_neg, Int32.add_zero]
theorem i32_le0 {c cap : Nat} (hc : c < 2 ^ 30) (hp : cap < 2 ^ 30) : (nI c - nI cap ≤ 0) ↔ c ≤ cap := by
  constructor
  · intro h
    apply Classical.byContradiction
    intro hn
    obtain ⟨e, rfl⟩ : ∃ e, c = e + cap := ⟨c - cap, by omega⟩
    rw [i32_sub] at h
    exact nI_nle (by omega) (by omega) h
  · intro h
    obtain ⟨e, rfl⟩ : ∃ e, cap = e + c := ⟨cap - c, by omega⟩
    have h1 : nI c - nI (e + c) = - nI e := by
      rw [← zA, Int32.sub_eq_add_neg, Int32.neg_add, Int32.sub_eq_add_neg, ← Int32.add_assoc, Int32.add_comm (nI c), Int32.add_assoc, Int32.add_right_neg, Int32.add_zero]
    rw [h1, fa_le, Int32.toInt_neg, nI_toInt (by omega)]
    have e0 : (0 : Int32).toInt = 0 := by decide
    rw [e0, Int.bmod_eq_of_le (by omega) (by omega)]
    omega
section SB
variable {S : xm_PS} {sc : xm_Sc} {d p q cap : Nat} {t : List Int32}
theorem sbI.fr {S' : xm_PS} {m : Nat} {W : Nat → Prop} (h : sbI S p q t cap) (hF : oF S S' m W) (hp : ¬ W p) (hq : ¬ W q) : sbI S' p q t cap := by
  obtain ⟨⟨a1, a2⟩, ⟨m0, b⟩, ⟨g, c1, c2, c3⟩, e⟩ := h
  exact ⟨⟨hF.1.1.trans a1, hF.1.2.trans a2⟩, ⟨m0, hF.2.2.2.2 _ _ b hp⟩, ⟨g, hF.2.2.2.2 _ _ c1 hq, c2, c3⟩, e⟩
theorem sbI.v (h : sbI S p q t cap) : xm_gR S p 11 0 = some q := by
  obtain ⟨-, ⟨m0, b⟩, -⟩ := h
  exact og_R b rfl
theorem sbI.co (h : sbI S p q t cap) : xm_gI S p 11 1 = some 0 := by
  obtain ⟨-, ⟨m0, b⟩, -⟩ := h
  exact og_I b rfl
theorem sbI.n (h : sbI S p q t cap) : xm_gI S p 11 3 = some (nI t.length) := by
  obtain ⟨-, ⟨m0, b⟩, -⟩ := h
  exact og_I b rfl
theorem sbI.is (h : sbI S p q t cap) : xm_isO S (.ref p) 11 = true := by
  obtain ⟨-, ⟨m0, b⟩, -⟩ := h
  exact og_O b
theorem sbI.len (h : sbI S p q t cap) : xm_len S q = some (nI cap) := by
  obtain ⟨-, -, ⟨g, c, -⟩, -⟩ := h
  unfold xm_len
  rw [c]
  dsimp only
  rw [if_pos (by decide)]
  rfl
theorem oF_Pn {c : xm_PC} {m : Nat} {W : Nat → Prop} (hm : 1 ≤ m) (hz : xm_sz c ≤ 50 * m) : oF S (oP S c) m W := by
  refine ⟨⟨rfl, rfl⟩, ?_, ?_, ?_, fun h c' hc _ => oP_old hc⟩
  · show S.2.2.length ≤ (S.2.2 ++ [c]).length
    rw [List.length_append]; omega
  · show (S.2.2 ++ [c]).length ≤ _
    rw [List.length_append]
    show S.2.2.length + 1 ≤ S.2.2.length + m
    omega
  · show ((S.2.2 ++ [c]).map xm_sz).sum + 6 * S.2.1 ≤ (S.2.2.map xm_sz).sum + 6 * S.2.1 + 50 * m
    rw [List.map_append, List.sum_append]
    simp only [List.map_cons, List.map_nil, List.sum_cons, List.sum_nil]
    omega
/-- room for c bytes -/
theorem sb_29 (h : sbI S p q t cap) {c : Nat} (hc : c ≤ 400) (htc : t.length ≤ c) : ∃ S' q' cap', xm_C sc xt_M (d + 3) 29 [.ref p, .int (nI c)] S = some (.inl none, S') ∧ ((oF S S' 20 (sbW p q) ∧ (q' = q ∨ S.2.2.length ≤ q')) ∧ (S'.1 = true ∧ S'.2.1 = 0) ∧ (∃ m, S'.2.2[p]? = some (.inr (11, [.ref q', .int 0, m, .int (nI t.length)]))) ∧ (∃ g, S'.2.2[q']? = some (.inl (1, cap', .inl g)) ∧ (∀ i, i < cap' → xm_byt (g i) = true) ∧ ∀ i, i < t.length → g i = t.getD i 0)) ∧ c ≤ cap' ∧ cap' ≤ 2 * c + 40 := by
  have hcap : cap ≤ 2 * c + 40 := by have := h.2.2.2.2; omega
  rw [yc_29, h.v, zbs, h.len, zbs, h.co, zbs, i32_s0]
  by_cases hle : c ≤ cap
  · rw [if_pos ((i32_le0 (by omega) (by omega)).mpr hle), yb_29_38]
    exact ⟨S, q, cap, rfl, ⟨⟨oF.rf.mo (by omega) (fun _ _ _ z => z), Or.inl rfl⟩, h.1, h.2.1, h.2.2.1⟩, hle, hcap⟩
  · rw [if_neg (fun z => hle ((i32_le0 (by omega) (by omega)).mp z)), zbs, if_pos h.is]
    -- the new capacity: twice the old and two, or what is wanted
    have ec : ∃ n, c ≤ n ∧ n ≤ 2 * c + 2 ∧ cap < n ∧ xm_C sc xt_M (d + 2) 30 [.ref p, .int (nI c)] S = some (.inl (some (.int (nI n))), S) := by
      have hsh : (2 : Int32) <<< ((0 : Int32) &&& 31) = 2 := i32_l0 2
      have hd : nI c - nI cap = nI (c - cap) := by
        rw [show c = (c - cap) + cap by omega, i32_sub, show (c - cap) + cap - cap = c - cap by omega]
      have h2 : nI cap + 2 = nI (cap + 2) := zA (b := 2)
      have gen : ∀ e, e < 2000 → 0 < e → nI cap + nI e = nI (cap + e) ∧ ¬ nI (cap + e) ≤ (0 : Int32) ∧ ¬ (2147483639 : Int32) < nI (cap + e) ∧ ¬ nI (cap + e) = 2147483647 := by
        intro e he h0
        refine ⟨zA, nI_nle (by omega) (by omega), nI_nlt (b := cap + e) (a := 2147483639) (by omega) (by omega), fun z => ?_⟩
        have := nI_inj (a := cap + e) (b := 2147483647) (by omega) (by omega) z
        omega
      by_cases hm : c - cap < cap + 2
      · obtain ⟨g1, g2, g3, g4⟩ := gen (cap + 2) (by omega) (by omega)
        refine ⟨cap + (cap + 2), by omega, by omega, by omega, ?_⟩
        rw [yc_30, h.v, zbs, h.len, zbs, h.co, zbs, zbs, i32_l0, hsh, hd, h2, yc_216, if_pos (nI_lt hm (by omega)), g1, if_neg g2, if_neg g3, zbs, xk_I, if_neg g4, h.co, zbs, i32_s0]
      · obtain ⟨g1, g2, g3, g4⟩ := gen (c - cap) (by omega) (by omega)
        refine ⟨cap + (c - cap), by omega, by omega, by omega, ?_⟩
        rw [yc_30, h.v, zbs, h.len, zbs, h.co, zbs, zbs, i32_l0, hsh, hd, h2, yc_216, if_neg (nI_nlt (by omega) (by omega)), g1, if_neg g2, if_neg g3, zbs, xk_I, if_neg g4, h.co, zbs, i32_s0]
    obtain ⟨n, n1, n2, n3, en⟩ := ec
    obtain ⟨⟨f1, f2⟩, ⟨m0, hb⟩, ⟨g, hg, g2, g3⟩, h4, h5⟩ := h
    have hql : q < S.2.2.length := os_lt hg
    have hpl : p < S.2.2.length := os_lt hb
    have hFP : oF S (oP S (.inl (1, n, .inl fun _ => 0))) 17 oN := oF_Pn (by omega) (by show n ≤ 50 * 17; omega)
    have hgA : xm_gA (oP S (.inl (1, n, .inl fun _ => 0))) q 1 = some (cap, g) := by
      unfold xm_gA
      rw [oP_old hg]
      dsimp only
      rw [if_pos rfl]
    have hgN : xm_gA (oP S (.inl (1, n, .inl fun _ => 0))) S.2.2.length 1 = some (n, fun _ => 0) := by
      unfold xm_gA
      rw [oP_at]
      dsimp only
      rw [if_pos rfl]
    have hfit : xm_fitR 1 g 0 cap = true := by
      unfold xm_fitR
      rw [List.all_eq_true.mpr (fun i hi => by rw [Nat.zero_add]; exact g2 i (List.mem_range.mp hi))]
      rfl
    have hcp : xm_copy (oP S (.inl (1, n, .inl fun _ => 0))) 1 q 0 S.2.2.length 0 (nI cap) = some (oP S (.inl (1, n, .inl (va_cpy g (fun _ => 0) 0 0 cap)))) := by
      unfold xm_copy
      rw [hgA, hgN]
      dsimp only
      have z0 : (0 : Int32).toNatClampNeg = 0 := by decide
      rw [nI_clamp (by omega), z0, if_pos ⟨by omega, by decide, by decide, nI_pos (by omega), by omega, by omega, hfit⟩, oP_set]
    have hlen : xm_len (oP S (.inl (1, n, .inl fun _ => 0))) q = some (nI cap) := by
      unfold xm_len
      rw [oP_old hg]
      dsimp only
      rw [if_pos (by decide)]
      rfl
    have hlen0 : xm_len S q = some (nI cap) := by
      unfold xm_len
      rw [hg]
      dsimp only
      rw [if_pos (by decide)]
      rfl
    have hco : xm_gI S p 11 1 = some 0 := og_I hb rfl
    have c212 : xm_C sc xt_M (d + 2) 212 [.ref q, .int (nI n <<< ((0 : Int32) &&& 31))] S = some (.inl (some (.ref S.2.2.length)), oP S (.inl (1, n, .inl (va_cpy g (fun _ => 0) 0 0 cap)))) := by
      rw [i32_l0, yc_212, hlen0, zbs, if_neg (fun z => absurd (nI_inj (by omega) (by omega) z) (by omega)), if_neg (nI_pos (by omega)), nI_clamp (by omega), if_pos (by omega), oP_eq f1 f2, hlen, zbs, if_neg (nI_nlt (by omega) (by omega)), hcp, zbs]
    have hb2 : (oP S (.inl (1, n, .inl (va_cpy g (fun _ => 0) 0 0 cap)))).2.2[p]? = some (.inr (11, [.ref q, .int 0, m0, .int (nI t.length)])) := oP_old hb
    have hFP2 : oF S (oP S (.inl (1, n, .inl (va_cpy g (fun _ => 0) 0 0 cap)))) 20 (sbW p q) := oF_Pn (by omega) (by show n ≤ 50 * 20; omega)
    have hFS : oF (oP S (.inl (1, n, .inl (va_cpy g (fun _ => 0) 0 0 cap)))) (xm_set (oP S (.inl (1, n, .inl (va_cpy g (fun _ => 0) 0 0 cap)))) p (.inr (11, [.ref S.2.2.length, .int 0, m0, .int (nI t.length)]))) 0 (sbW p q) := oF_S hb2 rfl (Or.inl rfl)
    refine ⟨xm_set (oP S (.inl (1, n, .inl (va_cpy g (fun _ => 0) 0 0 cap)))) p (.inr (11, [.ref S.2.2.length, .int 0, m0, .int (nI t.length)])), S.2.2.length, n, ?_, ⟨⟨hFP2.tr hFS, Or.inr (Nat.le_refl _)⟩, ⟨f1, f2⟩, ⟨m0, oS_get hb2⟩, va_cpy g (fun _ => 0) 0 0 cap, ?_, fun i hi => ?_, fun i hi => ?_⟩, n1, by omega⟩
    · rw [en, zbs, xk_I, hco, zbs, c212, zbs, xk_R, og_S hb2 (by show 0 < 4; omega), zbs, yb_29_38]
      rfl
    · rw [os_ne (by omega)]
      exact oP_at
    · unfold va_cpy
      split
      · rw [Nat.zero_add]; exact g2 _ (by omega)
      · rfl
    · have : va_cpy g (fun _ => 0) 0 0 cap i = g i := by
        unfold va_cpy
        rw [if_pos (by omega)]
        congr 1
        omega
      rw [this]
      exact g3 i hi
end SB
