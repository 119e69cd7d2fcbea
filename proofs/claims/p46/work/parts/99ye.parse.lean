/-! A GIVEN TEXT READ: its tokens, place by place -/
def hat (f : Nat → Int32) (n p : Nat) (l : List Int32) : Prop := p + l.length ≤ n ∧ ∀ i, i < l.length → f (p + i) = l.getD i 0
theorem hat_a {f : Nat → Int32} {n p : Nat} {l1 l2 : List Int32} (h : hat f n p (l1 ++ l2)) : hat f n p l1 ∧ hat f n (p + l1.length) l2 := by
  obtain ⟨h1, h2⟩ := h
  rw [List.length_append] at h1 h2
  refine ⟨⟨by omega, fun i hi => ?_⟩, ⟨by omega, fun i hi => ?_⟩⟩
  · rw [h2 i (by omega), List.getD_eq_getElem?_getD, List.getD_eq_getElem?_getD, List.getElem?_append_left hi]
  · rw [show p + l1.length + i = p + (l1.length + i) by omega, h2 (l1.length + i) (by omega), List.getD_eq_getElem?_getD, List.getD_eq_getElem?_getD, List.getElem?_append_right (by omega), show l1.length + i - l1.length = i by omega]
theorem hat_c {f : Nat → Int32} {n p : Nat} {c : Int32} {l : List Int32} (h : hat f n p (c :: l)) : (p < n ∧ f p = c) ∧ hat f n (p + 1) l := by
  obtain ⟨h1, h2⟩ := @hat_a f n p [c] l h
  have := h1.1
  exact ⟨⟨by have : p + 1 ≤ n := h1.1; omega, h1.2 0 (by show 0 < 1; omega)⟩, h2⟩
def tk (f : Nat → Int32) (n p : Nat) : xTk := sp_scan f n (p, 0, 0, 0, -1)
section TK
variable {f : Nat → Int32} {n p : Nat}
theorem tk_adv {q : Nat} {a b : Int32} : sp_adv f n (q, a, b, 0, -1) = tk f n q := if_pos rfl
theorem tb_at {c : Int32} (h : p < n ∧ f p = c) : sp_b f n p = c := by
  unfold sp_b
  rw [if_neg (by omega), h.2]
/-- a number of one digit, behind one space, ahead of a space or a semicolon -/
theorem tk_num {x : Nat} (hx : x < 10) {c : Int32} {l : List Int32} (h : hat f n p (32 :: nI (48 + x) :: c :: l)) (hc : c = 32 ∨ c = 59) : tk f n p = (p + 2, nI (p + 1), 2, 0, -1) ∧ ∀ T : xTk, T.1 = p + 2 → T.2.1 = nI (p + 1) → T.2.2.1 = 2 → n < 2 ^ 30 → sp_val f T = nI x := by
  obtain ⟨h0, h⟩ := hat_c h
  obtain ⟨h1, h⟩ := hat_c h
  obtain ⟨h2, h⟩ := hat_c h
  have b0 := tb_at h0
  have b1 := tb_at h1
  have b2 := tb_at h2
  have dg : ∀ x, x < 10 → ¬ (nI (48 + x) = 32 ∨ nI (48 + x) = 10) ∧ ¬ (97 ≤ nI (48 + x) ∧ nI (48 + x) ≤ 122) ∧ (48 ≤ nI (48 + x) ∧ nI (48 + x) ≤ 57) := by decide +kernel
  obtain ⟨d1, d2, d3⟩ := dg x hx
  have nd : ¬ (48 ≤ c ∧ c ≤ 57) := by
    rcases hc with e | e <;> rw [e] <;> decide
  refine ⟨?_, fun T e1 e2 e3 hn => ?_⟩
  · obtain ⟨m, em⟩ : ∃ m, n - p = m + 1 := ⟨n - p - 1, by omega⟩
    obtain ⟨m', em'⟩ : ∃ m', m = m' + 1 := ⟨m - 1, by omega⟩
    have x1 : xto (fun j => ¬ sp_spc f n j) p (n - p) = p + 1 := by
      rw [em, xto_n (p := fun j => ¬ sp_spc f n j) (fun z => z (show sp_b f n p = 32 ∨ sp_b f n p = 10 from Or.inl b0)), xto_y (p := fun j => ¬ sp_spc f n j)]
      show ¬ (sp_b f n (p + 1) = 32 ∨ sp_b f n (p + 1) = 10)
      rw [b1]
      exact d1
    have x2 : xto (fun j => ¬ sp_dig f n j) (p + 1) (n - (p + 1)) = p + 2 := by
      rw [show n - (p + 1) = m' + 1 by omega, xto_n (p := fun j => ¬ sp_dig f n j) (fun z => z (show 48 ≤ sp_b f n (p + 1) ∧ sp_b f n (p + 1) ≤ 57 by rw [b1]; exact d3)), xto_y (p := fun j => ¬ sp_dig f n j)]
      show ¬ (48 ≤ sp_b f n (p + 1 + 1) ∧ sp_b f n (p + 1 + 1) ≤ 57)
      rw [b2]
      exact nd
    show sp_scS f n (xto (fun j => ¬ sp_spc f n j) p (n - p)) (0, -1) = _
    rw [x1]
    unfold sp_scS
    rw [if_pos (by omega), if_neg (show ¬ (97 ≤ sp_b f n (p + 1) ∧ sp_b f n (p + 1) ≤ 122) by rw [b1]; exact d2), if_pos (show 48 ≤ sp_b f n (p + 1) ∧ sp_b f n (p + 1) ≤ 57 by rw [b1]; exact d3), x2]
  · unfold sp_val
    rw [if_pos e3, e1, e2, nI_clamp (by omega), show p + 2 - (p + 1) = 1 by omega]
    show nI (min (10 * 0 + (f (p + 1 + 0)).toNatClampNeg - 48) 2000000000) = nI x
    rw [Nat.add_zero, h1.2, nI_clamp (by omega)]
    congr 1
    omega
/-- a semicolon -/
theorem tk_sem {l : List Int32} (h : hat f n p (59 :: l)) : tk f n p = (p + 1, nI p, 3, 0, -1) := by
  obtain ⟨h0, h⟩ := hat_c h
  have b0 := tb_at h0
  obtain ⟨m, em⟩ : ∃ m, n - p = m + 1 := ⟨n - p - 1, by omega⟩
  have x1 : xto (fun j => ¬ sp_spc f n j) p (n - p) = p := by
    rw [em, xto_y (p := fun j => ¬ sp_spc f n j)]
    show ¬ (sp_b f n p = 32 ∨ sp_b f n p = 10)
    rw [b0]
    decide
  show sp_scS f n (xto (fun j => ¬ sp_spc f n j) p (n - p)) (0, -1) = _
  rw [x1]
  unfold sp_scS
  rw [if_pos h0.1, if_neg (show ¬ (97 ≤ sp_b f n p ∧ sp_b f n p ≤ 122) by rw [b0]; decide), if_neg (show ¬ (48 ≤ sp_b f n p ∧ sp_b f n p ≤ 57) by rw [b0]; decide)]
theorem tk_end : tk f n n = (n, nI n, 0, 0, -1) := by
  show sp_scS f n (xto (fun j => ¬ sp_spc f n j) n (n - n)) (0, -1) = _
  rw [Nat.sub_self]
  show sp_scS f n n (0, -1) = _
  unfold sp_scS
  rw [if_neg (Nat.lt_irrefl n)]
theorem xto_run {P : Nat → Prop} [DecidablePred P] : ∀ L p m, L ≤ m → (∀ i, i < L → ¬ P (p + i)) → (L < m → P (p + L)) → xto P p m = p + L := by
  intro L
  induction L with
  | zero =>
    intro p m hm h h2
    cases m with
    | zero => rfl
    | succ m => exact xto_y (h2 (by omega))
  | succ L ih =>
    intro p m hm h h2
    obtain ⟨m', em⟩ : ∃ m', m = m' + 1 := ⟨m - 1, by omega⟩
    subst em
    rw [xto_n (show ¬ P p from h 0 (by omega)), ih (p + 1) m' (by omega) (fun i hi => by rw [show p + 1 + i = p + (i + 1) by omega]; exact h (i + 1) (by omega)) (fun hl => by rw [show p + 1 + L = p + (L + 1) by omega]; exact h2 (by omega))]
    omega
/-- a word of the language, ahead of a space -/
theorem lt_ch : ∀ k, k < 6 → 1 ≤ k → ∀ i, i < sp_ln k → (97 ≤ sp_ch k i ∧ sp_ch k i ≤ 122) ∧ sp_ch k i = (xm_str k).getD i 0 := by decide +kernel
theorem tk_wrd {k : Nat} (hk : k < 6) (hk1 : 1 ≤ k) {l : List Int32} (h : hat f n p (xm_str k ++ 32 :: l)) (hn : n < 2 ^ 30) : tk f n p = (p + sp_ln k, nI p, 1, 0, -1) ∧ sp_wrd f (tk f n p) k := by
  obtain ⟨h0, h1⟩ := hat_a h
  obtain ⟨h2, h3⟩ := hat_c h1
  have b2 := tb_at h2
  have bi : ∀ i, i < sp_ln k → p + i < n ∧ sp_b f n (p + i) = sp_ch k i := fun i hi => by
    have hl : p + i < n := by have := h0.1; have : i < (xm_str k).length := hi; omega
    exact ⟨hl, tb_at ⟨hl, (h0.2 i hi).trans (lt_ch k hk hk1 i hi).2.symm⟩⟩
  have hl0 : 0 < sp_ln k := (by decide +kernel : ∀ k, k < 6 → 1 ≤ k → 0 < sp_ln k) k hk hk1
  have hpn : p + sp_ln k < n := h2.1
  have nsp : ∀ y : Int32, 97 ≤ y ∧ y ≤ 122 → ¬ (y = 32 ∨ y = 10) := by
    intro y hy z
    rcases z with e | e <;> rw [e] at hy <;> exact absurd hy.1 (by decide)
  have e0 := (bi 0 hl0).2
  rw [Nat.add_zero] at e0
  have c0 := (lt_ch k hk hk1 0 hl0).1
  have x1 : xto (fun j => ¬ sp_spc f n j) p (n - p) = p := by
    obtain ⟨m, em⟩ : ∃ m, n - p = m + 1 := ⟨n - p - 1, by omega⟩
    rw [em, xto_y (p := fun j => ¬ sp_spc f n j)]
    show ¬ (sp_b f n p = 32 ∨ sp_b f n p = 10)
    rw [e0]
    exact nsp _ c0
  have x2 : xto (fun j => ¬ sp_let f n j) p (n - p) = p + sp_ln k := by
    refine xto_run (P := fun j => ¬ sp_let f n j) (sp_ln k) p (n - p) (by omega) (fun i hi z => z ?_) (fun _ => ?_)
    · show 97 ≤ sp_b f n (p + i) ∧ sp_b f n (p + i) ≤ 122
      rw [(bi i hi).2]
      exact (lt_ch k hk hk1 i hi).1
    · show ¬ (97 ≤ sp_b f n (p + (xm_str k).length) ∧ sp_b f n (p + (xm_str k).length) ≤ 122)
      rw [b2]
      decide
  have e : tk f n p = (p + sp_ln k, nI p, 1, 0, -1) := by
    show sp_scS f n (xto (fun j => ¬ sp_spc f n j) p (n - p)) (0, -1) = _
    rw [x1]
    unfold sp_scS
    rw [if_pos (by omega), if_pos (show 97 ≤ sp_b f n p ∧ sp_b f n p ≤ 122 by rw [e0]; exact c0), x2]
  refine ⟨e, ?_⟩
  rw [e]
  refine ⟨⟨rfl, rfl, ?_⟩, fun i hi => ?_⟩
  · show sp_ln k = p + sp_ln k - (nI p).toNatClampNeg
    rw [nI_clamp (by omega)]
    omega
  · show sp_ch k i = f ((nI p).toNatClampNeg + i)
    rw [nI_clamp (by omega), h0.2 i hi]
    exact (lt_ch k hk hk1 i hi).2
/-- another word is not that one -/
theorem wrd_ln {k j : Nat} {T : xTk} (h : sp_wrd f T k) (hne : sp_ln j ≠ sp_ln k) : ¬ sp_wrd f T j := fun z => hne (z.1.2.2.trans h.1.2.2.symm)
theorem wrd_ch {k j : Nat} {T : xTk} (h : sp_wrd f T k) (hk : 0 < sp_ln k) (hj : 0 < sp_ln j) (hne : sp_ch j 0 ≠ sp_ch k 0) : ¬ sp_wrd f T j := fun z => hne ((z.2 0 hj).trans (h.2 0 hk).symm)
theorem wrd_no {k : Nat} {T : xTk} (h : ¬ T.2.2.1 = 1) : ¬ sp_wrd f T k := fun z => h z.1.2.1
/-- what goes well, step by step -/
theorem ck_1 {T : xTk} {b c : Int32} (h : ¬ b = 0) : sp_check T b c = T := if_neg h
theorem rn2_ok {T : xTk} {lo hi : Int32} (h2 : T.2.2.1 = 2) (hv : lo ≤ sp_val f T ∧ sp_val f T ≤ hi) : sp_rn2 f T lo hi = T := by
  have e1 : sp_rn1 T = T := ck_1 (by rw [if_neg (fun z => z.2 h2)]; decide)
  unfold sp_rn2
  rw [e1]
  exact ck_1 (by rw [if_neg (fun z => z.2 hv)]; decide)
theorem rnT_ok {T : xTk} {lo hi : Int32} (h2 : T.2.2.1 = 2) (hv : lo ≤ sp_val f T ∧ sp_val f T ≤ hi) (h0 : T.2.2.2.1 = 0) : sp_rnT f n T lo hi = sp_adv f n T ∧ sp_rnV f n T lo hi = sp_val f T := by
  have e : sp_rnT f n T lo hi = sp_adv f n T := by
    unfold sp_rnT
    rw [rn2_ok h2 hv]
  refine ⟨e, ?_⟩
  unfold sp_rnV
  rw [e, sp_adv_err, if_pos h0]
  exact sp_val_check
theorem exp2_ok {l : List Int32} (h : hat f n p (59 :: l)) (hn : n < 2 ^ 30) : sp_exp2 f n (tk f n p) 59 = tk f n (p + 1) := by
  have e := tk_sem h
  obtain ⟨h0, -⟩ := hat_c h
  unfold sp_exp2
  have hs : sp_sym f (tk f n p) 59 := by
    rw [e]
    refine ⟨rfl, rfl, ?_⟩
    show f (nI p).toNatClampNeg = 59
    rw [nI_clamp (by omega)]
    exact h0.2
  rw [zB_tt hs, ck_1 (by decide), e, tk_adv]
/-- a number read, in its range -/
theorem num_ok {x : Nat} (hx : x < 10) {c : Int32} {l : List Int32} (h : hat f n p (32 :: nI (48 + x) :: c :: l)) (hc : c = 32 ∨ c = 59) (hn : n < 2 ^ 30) : (tk f n p).2.2.2.1 = 0 ∧ (tk f n p).2.2.1 = 2 ∧ sp_val f (tk f n p) = nI x ∧ sp_adv f n (tk f n p) = tk f n (p + 2) := by
  obtain ⟨e, v⟩ := tk_num hx h hc
  have ev := v (tk f n p) (by rw [e]) (by rw [e]) (by rw [e]) hn
  refine ⟨by rw [e], by rw [e], ev, ?_⟩
  rw [e, tk_adv]
theorem numT_ok {x : Nat} (hx : x < 10) {c lo hi : Int32} {l : List Int32} (h : hat f n p (32 :: nI (48 + x) :: c :: l)) (hc : c = 32 ∨ c = 59) (hn : n < 2 ^ 30) (hv : lo ≤ nI x ∧ nI x ≤ hi) : sp_rnT f n (tk f n p) lo hi = tk f n (p + 2) ∧ sp_rnV f n (tk f n p) lo hi = nI x := by
  obtain ⟨h1, h2, h3, h4⟩ := num_ok hx h hc hn
  obtain ⟨g1, g2⟩ := @rnT_ok f n (tk f n p) lo hi h2 (by rw [h3]; exact hv) h1
  exact ⟨g1.trans h4, g2.trans h3⟩
end TK
