/-! TEXTS made: a builder begun with a made String -/
section MT
variable {S S1 : xm_PS} {sc : xm_Sc} {d p q cap s qs k : Nat} {t u : List Int32}
theorem ms_32 (h : sbI S p q t cap) (hs : stI S s qs u) (hqq : qs ≠ q) (hl : t.length + u.length ≤ 400) : ∃ S' q' cap', xm_C sc xt_M (d + 4) 32 [.ref p, .ref s] S = some (.inl (some (.ref p)), S') ∧ sbM S S' p q q' (t ++ u) cap' 20 := by
  obtain ⟨S1, q1, cap1, e1, hF, hq1, hR, c1, c2⟩ := @sb_ens S sc d p q cap t h (t.length + u.length) hl (by omega)
  have nsp : s ≠ p := by
    obtain ⟨-, ⟨m0, b⟩, -⟩ := h
    obtain ⟨⟨m1, m2, b'⟩, -⟩ := hs
    exact oK_ne b' b (by show 110 ≠ 111; decide)
  have nsq : s ≠ q := by
    obtain ⟨-, -, ⟨g, b, -⟩, -⟩ := h
    obtain ⟨⟨m1, m2, b'⟩, -⟩ := hs
    exact oK_ne b' b (by show 110 ≠ 1; decide)
  have nqp : qs ≠ p := by
    obtain ⟨-, ⟨m0, b⟩, -⟩ := h
    obtain ⟨-, g, b', -⟩ := hs
    exact oK_ne b' b (by show 1 ≠ 111; decide)
  have hqs : qs < S.2.2.length := by
    obtain ⟨-, g, b', -⟩ := hs
    exact os_lt b'
  have hs1 : stI S1 s qs u := hs.fr hF (fun z => z.elim nsp nsq) (fun z => z.elim nqp hqq)
  have nq1 : qs ≠ q1 := by
    rcases hq1 with e | e
    · rw [e]; exact hqq
    · omega
  obtain ⟨f12, ⟨m, hb⟩, g, hg, hg2, hg3⟩ := id hR
  have hs1' := hs1
  obtain ⟨-, gu, hgu, gu2, gu3⟩ := hs1'
  have hpq : p ≠ q1 := oK_ne hb hg (by show 111 ≠ 1; decide)
  obtain ⟨-, -, p1, p2⟩ := @sbR_put S1 p q1 cap1 t hR u (va_cpy gu g 0 t.length u.length) c1 c2 (fun g0 h0 _ _ => by
    rw [hg] at h0
    cases h0
    refine ⟨fun i hi => ?_, fun i hi => ?_, fun i hi => ?_⟩
    · unfold va_cpy
      split
      · rw [Nat.zero_add]
        exact gu2 _ (by omega)
      · exact hg2 i hi
    · unfold va_cpy
      rw [if_neg (by omega)]
    · unfold va_cpy
      rw [if_pos (by omega), Nat.zero_add, show t.length + i - t.length = i by omega]
      exact gu3 i hi) m hb
  have hb1 : (xm_set S1 q1 (.inl (1, cap1, .inl (va_cpy gu g 0 t.length u.length)))).2.2[p]? = some (.inr (11, [.ref q1, .int 0, m, .int (nI t.length)])) := by rw [os_ne hpq]; exact hb
  refine ⟨_, q1, cap1, ?_, p1, hF.tr2 p2 (fun x c hc z => ?_), hq1⟩
  · have hcp : xm_copy S1 1 qs 0 q1 (nI t.length <<< ((0 : Int32) &&& 31)) (nI u.length) = some (xm_set S1 q1 (.inl (1, cap1, .inl (va_cpy gu g 0 t.length u.length)))) := by
      have hfit : xm_fitR 1 gu 0 u.length = true := by
        unfold xm_fitR
        rw [List.all_eq_true.mpr (fun i hi => by rw [Nat.zero_add]; exact gu2 i (List.mem_range.mp hi))]
        rfl
      have z0 : (0 : Int32).toNatClampNeg = 0 := by decide
      rw [i32_l0]
      unfold xm_copy xm_gA
      rw [hg, hgu]
      dsimp only
      rw [if_pos rfl, if_pos rfl]
      dsimp only
      rw [nI_clamp (by omega), nI_clamp (by omega), z0, if_pos ⟨by omega, by decide, nI_pos (by omega), nI_pos (by omega), by omega, by omega, hfit⟩]
    have c196 : xm_C sc xt_M (d + 2) 196 [.ref s, .ref q1, .int (nI t.length), .int 0] S1 = some (.inl none, xm_set S1 q1 (.inl (1, cap1, .inl (va_cpy gu g 0 t.length u.length)))) := by
      rw [yc_196R, if_pos hs1.is, ms_198 hs1, zbs, xk_I, if_pos rfl, hs1.v, zbs, zbs, hs1.len, zbs, hcp, zbs]
    have c110 : xm_C sc xt_M (d + 2) 110 [.ref p, .ref s] S1 = some (.inl none, S1) := by
      rw [yc_110R, if_neg (by decide), hR.co, zbs, if_pos hs1.is, ms_198 hs1, zbs, xk_I, if_pos rfl, yb_110R_21]
    have c119 : xm_C sc xt_M (d + 3) 119 [.ref p, .int (nI t.length), .ref s] S1 = some (.inl none, xm_set S1 q1 (.inl (1, cap1, .inl (va_cpy gu g 0 t.length u.length)))) := by
      rw [yc_119R, if_pos hR.is, c110, zbs, xk_v, hR.v, zbs, hR.co, zbs, if_pos hs1.is, c196, zbs, xk_v]
    rw [yc_32R, if_pos hs.is, ms_194 hs, zbs, xk_I, h.n, zbs, if_pos h.is, zA, e1, zbs, xk_v, hR.n, zbs, if_pos hR.is, c119, zbs, xk_v, show xm_gI (xm_set S1 q1 (.inl (1, cap1, .inl (va_cpy gu g 0 t.length u.length)))) p 11 3 = some (nI t.length) from og_I hb1 rfl, zbs, zA, og_S hb1 (by show 3 < 4; omega), zbs]
    rfl
  · rcases z with z | z
    · exact Or.inl z
    · rcases hq1 with e | e
      · exact Or.inr (z.trans e)
      · have := os_lt hc
        omega
theorem ms_207 (h : sbI S p q t cap) (hs : stI S s qs u) (hqq : qs ≠ q) (hl : t.length + u.length ≤ 400) : ∃ S' q' cap', xm_C sc xt_M (d + 6) 207 [.ref p, .ref s] S = some (.inl (some (.ref p)), S') ∧ sbM S S' p q q' (t ++ u) cap' 20 := by
  obtain ⟨S', q', cap', e, m⟩ := @ms_32 S sc d p q cap s qs t u h hs hqq hl
  exact ⟨S', q', cap', by rw [yc_207R, if_pos h.is, yc_203R, if_pos h.is, e, zbs, xk_R, zbs, xk_R], m⟩
/-- new StringBuilder(String) -/
theorem ms_202 (h1 : S.1 = true) (h2 : S.2.1 = 0) {x0 y0 m0 : Value} (hp : S.2.2[p]? = some (.inr (11, [x0, y0, m0, .int 0]))) (hs : stI S s qs u) (hl : u.length ≤ 24) : ∃ S' q' cap', xm_C sc xt_M (d + 8) 202 [.ref p, .ref s] S = some (.inl none, S') ∧ sbI S' p q' u cap' ∧ oF S S' 30 (fun z => z = p) ∧ S.2.2.length ≤ q' := by
  have nsp : s ≠ p := by
    obtain ⟨⟨m1, m2, b'⟩, -⟩ := hs
    exact oK_ne b' hp (by show 110 ≠ 111; decide)
  have nqp : qs ≠ p := by
    obtain ⟨-, g, b', -⟩ := hs
    exact oK_ne b' hp (by show 1 ≠ 111; decide)
  have hqs : qs < S.2.2.length := by
    obtain ⟨-, g, b', -⟩ := hs
    exact os_lt b'
  have hpl := os_lt hp
  have F1 : oF S (xm_set S p (.inr (11, [x0, .int 0, m0, .int 0]))) 0 (fun z => z = p) := oF_S hp rfl rfl
  have c1 : xm_sF S p 11 1 (.int 0) = some (xm_set S p (.inr (11, [x0, .int 0, m0, .int 0]))) := og_S hp (by show 1 < 4; omega)
  have p1 : (xm_set S p (.inr (11, [x0, .int 0, m0, .int 0]))).2.2[p]? = some (.inr (11, [x0, .int 0, m0, .int 0])) := oS_get hp
  have g1 : (xm_set S p (.inr (11, [x0, .int 0, m0, .int 0]))).1 = true := h1
  have g2 : (xm_set S p (.inr (11, [x0, .int 0, m0, .int 0]))).2.1 = 0 := h2
  have l1 : (xm_set S p (.inr (11, [x0, .int 0, m0, .int 0]))).2.2.length = S.2.2.length := List.length_set ..
  have s1 := hs.fr F1 (fun z => nsp z) (fun z => nqp z)
  generalize hT : xm_set S p (.inr (11, [x0, .int 0, m0, .int 0])) = T at *
  have F2 : oF T (oP T (.inl (1, u.length + 16, .inl fun _ => 0))) 1 (fun z => z = p) := oF_P (by show u.length + 16 ≤ 50; omega)
  have p2 : (oP T (.inl (1, u.length + 16, .inl fun _ => 0))).2.2[p]? = some (.inr (11, [x0, .int 0, m0, .int 0])) := oP_old p1
  have q2 : (oP T (.inl (1, u.length + 16, .inl fun _ => 0))).2.2[T.2.2.length]? = some (.inl (1, u.length + 16, .inl fun _ => 0)) := oP_at
  have s2 := s1.fr (F2.mo (W' := fun z => z = p) (Nat.le_refl _) (fun _ _ _ z => z)) (fun z => nsp z) (fun z => nqp z)
  have g3 : (oP T (.inl (1, u.length + 16, .inl fun _ => 0))).1 = true := g1
  have g4 : (oP T (.inl (1, u.length + 16, .inl fun _ => 0))).2.1 = 0 := g2
  have eP : ∀ K, xm_push T (.inl (1, u.length + 16, .inl fun _ => 0)) K = K T.2.2.length (oP T (.inl (1, u.length + 16, .inl fun _ => 0))) := fun K => oP_eq g1 g2
  generalize hU : oP T (.inl (1, u.length + 16, .inl fun _ => 0)) = U at *
  have F3 : oF U (xm_set U p (.inr (11, [.ref T.2.2.length, .int 0, m0, .int 0]))) 0 (fun z => z = p) := oF_S p2 rfl rfl
  have c2 : xm_sF U p 11 0 (.ref T.2.2.length) = some (xm_set U p (.inr (11, [.ref T.2.2.length, .int 0, m0, .int 0]))) := og_S p2 (by show 0 < 4; omega)
  have s3 := s2.fr F3 (fun z => nsp z) (fun z => nqp z)
  have p3 : (xm_set U p (.inr (11, [.ref T.2.2.length, .int 0, m0, .int 0]))).2.2[p]? = some (.inr (11, [.ref T.2.2.length, .int 0, m0, .int 0])) := oS_get p2
  have q3 : (xm_set U p (.inr (11, [.ref T.2.2.length, .int 0, m0, .int 0]))).2.2[T.2.2.length]? = some (.inl (1, u.length + 16, .inl fun _ => 0)) := by
    rw [os_ne (by omega)]
    exact q2
  have b3 : sbI (xm_set U p (.inr (11, [.ref T.2.2.length, .int 0, m0, .int 0]))) p T.2.2.length [] (u.length + 16) := by
    refine ⟨⟨g3, g4⟩, ⟨m0, ?_⟩, ⟨fun _ => 0, q3, fun i _ => show xm_byt 0 = true by decide, fun i hi => absurd hi (Nat.not_lt_zero i)⟩, Nat.zero_le _, by show u.length + 16 ≤ 2 * 0 + 40; omega⟩
    rw [show ([] : List Int32).length = 0 from rfl, nI_0]
    exact p3
  obtain ⟨V, q', cap', e4, b4, F4, k4⟩ := @ms_207 _ sc d p T.2.2.length (u.length + 16) s qs [] u b3 s3 (by omega) (by show 0 + u.length ≤ 400; omega)
  have k3 : (xm_set U p (.inr (11, [.ref T.2.2.length, .int 0, m0, .int 0]))).2.2.length = T.2.2.length + 1 := by
    show (U.2.2.set _ _).length = _
    rw [List.length_set, ← hU]
    show (T.2.2 ++ [_]).length = _
    rw [List.length_append]
    rfl
  refine ⟨V, q', cap', ?_, b4, ((F1.tr (F2.tr F3)).tr2 F4 (fun x c hc z => ?_)).mo (by omega) (fun _ _ _ z => z), ?_⟩
  · have c27 : xm_C sc xt_M (d + 7) 27 [.ref p, .ref s] S = some (.inl none, V) := by
      rw [yc_27R, if_pos hs.is, ms_194 hs, zbs, xk_I, if_neg (show ¬ (2147483631 : Int32) ≤ nI u.length from nI_ge (b := 2147483631) (by omega) (by omega)), if_pos hs.is, ms_198 hs, zbs, xk_I, if_pos (by decide), c1, zbs, if_pos rfl, show nI u.length + 16 = nI (u.length + 16) from zA (b := 16), if_neg (nI_pos (by omega)), nI_clamp (by omega), if_pos (by omega), eP, c2, zbs, if_pos b3.is, e4, zbs, xk_R]
    rw [yc_202R, c27, zbs, xk_v]
  · rcases z with z | z
    · exact z
    · have := os_lt hc
      omega
  · rcases k4 with e | e
    · rw [e, l1]
      exact Nat.le_refl _
    · rw [k3] at e
      omega
end MT
