/-! THE ENTRY: between two calls, at the start -/
theorem er0_n : xnb er0 = 2 ∧ xnv er0 = 1 ∧ xnk er0 = 0 ∧ xnq er0 = 0 ∧ xst er0 0 = 2 := by decide +kernel
theorem er0_W : xWF er0 := by
  obtain ⟨e0, e1, e2, e3, e4⟩ := er0_n
  refine ⟨?_, ?_, fun b hb => (by decide +kernel : ∀ b, b < 6 → er0 (6 + b) = 0 ∨ er0 (6 + b) = 1) b hb, fun v hv => ?_, fun k hk => absurd hk (by omega), fun q hq => absurd hq (by omega), fun p q _ hq => absurd hq (by omega)⟩
  · unfold xBd
    decide +kernel
  · unfold xWn xil
    decide +kernel
  · rw [e1] at hv
    have hv0 : v = 0 := by omega
    subst hv0
    rw [e0, e4]
    unfold xil
    decide +kernel
theorem er0_Rm : xRm er0 := by
  intro v hv
  have hv0 : v = 0 := by have := er0_n.2.1; omega
  subst hv0
  decide +kernel
theorem er0_D : ∀ a, a < 6 → ∀ b, b < 6 → kD er0 a b = if a = b ∧ a < 2 then 0 else if a < 2 ∧ b < 2 then 1 else -1 := by decide +kernel
theorem wv_i {c : List xm_PC} {g i : Nat} : (wv c g).1 i = wsc g i := rfl
theorem wv_a {c : List xm_PC} {g a : Nat} : (wv c g).2 a = fI c (wpo g a) := rfl
theorem cI_begin {c : List xm_PC} (hp : fI c 2 0 = 5 ∧ fI c 3 0 = 2 ∧ fI c 4 0 = 3 ∧ fI c 6 0 = 0 ∧ fI c 6 1 = 1) (ha : fI c 8 0 = 0) (hf : (List.range 20).all (fun i => decide (fI c 17 i = -1)) = true) (hw : (List.range 6).all (fun a => (List.range 6).all (fun b => decide (fI c 19 (6 * a + b) = if a = b ∧ a < 2 then 0 else if a < 2 ∧ b < 2 then 1 else -1))) = true) : cI (wv c) er0 0 (fun _ => er0) none ∧ (wv c 0).1 0 = 0 := by
  obtain ⟨e0, e1, e2, e3, e4⟩ := er0_n
  obtain ⟨p1, p2, p3, p4, p5⟩ := hp
  rw [List.all_eq_true] at hf hw
  have P : kPl (wv c 1) er0 := by
    refine ⟨⟨show wsc 1 0 = er0 0 by decide +kernel, show wsc 1 1 = er0 1 by decide +kernel, show wsc 1 2 = er0 2 by decide +kernel⟩, fun v hv => ?_, fun k hk => absurd hk (by omega)⟩
    have hv0 : v = 0 := by omega
    subst hv0
    rw [e4]
    refine ⟨p1, p2, fun i hi => ?_, fun s hs => ?_⟩
    · rw [show (wv c 1).2 2 0 = 3 from p3]
      exact (by decide +kernel : ∀ i, i < 32 → bt 3 i = decide (i < 6 ∧ sp_has er0 0 (nI i) = true)) i hi
    · rcases (show s = 0 ∨ s = 1 by omega) with h | h
      · subst h
        exact p4
      · subst h
        exact p5
  have S1 : kS1 (wv c 5) er0 := by
    refine ⟨rfl, rfl, fun i hi => ?_, fun i hi => ?_, rfl⟩
    · exact (by decide +kernel : ∀ i, i < 32 → bt 3 i = decide (i < xnb er0 ∧ er0 (6 + i) = 1)) i hi
    · exact (by decide +kernel : ∀ i, i < 32 → bt 0 i = decide (i < xnk er0 ∧ er0 (59 + 6 * i) = 1)) i hi
  have S2 : kS2 (wv c 5) er0 := by
    refine ⟨fun v hv => ?_, fun k hk => absurd hk (by omega)⟩
    have hv0 : v = 0 := by omega
    subst hv0
    exact ha
  have S3 : kS3 (wv c 5) er0 := by
    refine ⟨fun q hq => absurd hq (by omega), fun k hk => ?_⟩
    unfold sp_first
    rw [e3]
    exact of_decide_eq_true (hf k (List.mem_range.2 hk))
  have S4 : kS4 (wv c 5) er0 := by
    intro a b ha hb
    rw [er0_D a ha b hb]
    have h1 := hw a (List.mem_range.2 ha)
    rw [List.all_eq_true] at h1
    exact of_decide_eq_true (h1 b (List.mem_range.2 hb))
  have K : kSt (wv c) 0 er0 := ⟨kRel_of er0_W ⟨P, S1, S2, S3, S4⟩, er0_Rm, 0, by omega, rfl⟩
  refine ⟨⟨K, ?_, ⟨by omega, rfl, 0, by omega, rfl, fun p hp => absurd hp (Nat.not_lt_zero p)⟩, rfl, ⟨0, by omega, rfl⟩, 0, by omega, rfl⟩, rfl⟩
  show (if (1 : Int32) = 0 then 0 else 1) ≠ (if (0 : Int32) = 0 then 0 else 1)
  decide
theorem fQ_app {c : List xm_PC} {y : xm_PC} (h : xm_fQ (true, 0, c)) (hy : xm_okc y) : xm_fQ (true, 0, c ++ [y]) := by
  intro k c' e
  have e' : (c ++ [y])[k]? = some c' := e
  by_cases hk : k < c.length
  · rw [List.getElem?_append_left hk] at e'
    exact h k c' e'
  · rw [List.getElem?_append_right (Nat.le_of_not_lt hk)] at e'
    have : c' = y := by
      cases hz : k - c.length with
      | zero =>
        rw [hz] at e'
        exact (Option.some.inj e').symm
      | succ z =>
        rw [hz] at e'
        cases e'
    rw [this]
    exact hy
theorem fQ_nil : xm_fQ (true, 0, []) := fun k c e => nomatch e
theorem eok_ex {o : Option xm_O} (h : eok o = true) : ∃ c, o = some (.inl none, true, 0, c) := by
  unfold eok at h
  split at h
  · exact ⟨_, rfl⟩
  · cases h
theorem en1_eq : en1 = some (.inl none, true, 0, ec1) := by
  obtain ⟨c, hc⟩ := eok_ex eall_s.1
  have e : ec1 = c := by
    unfold ec1
    rw [hc]
  rw [e]
  exact hc
theorem fQ_run {sc : xm_Sc} {n d i pc : Nat} {ls st : List Value} {S : xm_PS} {v : Option Value ⊕ Nat} {c : List xm_PC} (h : xm_run sc xt_M n d i pc ls st S = some (v, true, 0, c)) (hS : xm_fQ S) : xm_fQ (true, 0, c) := xm_fu_run n d i pc ls st S _ h hS
theorem fQ_7 : xm_fQ (true, 0, [.inr (7, xm_new 7)]) := fQ_app (c := []) fQ_nil xm_okc_r
theorem ec1_Q : xm_fQ (true, 0, ec1) := by
  have h := en1_eq
  unfold en1 at h
  exact fQ_run h fQ_7
theorem skes_eq0 {c d : List xm_PC} (ha : agrs c 0 d) (hs : skes c d = true) (hq : ∀ (i : Nat) (x : xm_PC), c[i]? = some x → xm_okc x) : c = d := skes_eq c d 0 (fun i x h => by rw [Nat.zero_add]; exact h) ha hs hq
theorem ec1_eq : ec1 = xcells (wv ec1) xl0 := by
  have h1 : agrs ec1 0 (xcells (wv ec1) xl0) := wv_agr
  have h2 := eall_s.2.2.1
  have h3 := ec1_Q
  revert h1 h2 h3
  generalize xcells (wv ec1) xl0 = D
  generalize ec1 = C
  exact fun h1 h2 h3 => skes_eq0 h1 h2 h3
theorem en1_C {sc : xm_Sc} : xm_C sc xt_M 10 106 [.ref 0] (true, 0, [.inr (7, xm_new 7)]) = some (.inl none, xL (wv ec1) []) := by
  have h := en1_eq
  unfold en1 at h
  have e : ((true, 0, ec1) : xm_PS) = xL (wv ec1) [] := by
    unfold xL
    rw [List.append_nil]
    exact congrArg (fun q => ((true, 0, q) : xm_PS)) ec1_eq
  rw [← e]
  refine (xc (d := 9) (r := xt_106) rfl rfl).trans (xm_R_iff.2 ⟨8000, ?_⟩)
  exact xm_run_sc (sc := sc) (sc0 := sc0) (by decide) xt_M 8000 9 106 0 _ _ _ _ h
theorem en1_I : cI (wv ec1) er0 0 (fun _ => er0) none ∧ (wv ec1 0).1 0 = 0 := by
  obtain ⟨s1, s2, s3, s4, s5, s6, s7⟩ := eall_s
  exact cI_begin s4 s5 s6 s7
