/-! THE ENTRY: between two calls, at the start -/
theorem er0_n : xnb er0 = 2 ∧ xnv er0 = 1 ∧ xnk er0 = 0 ∧ xnq er0 = 0 ∧ xst er0 0 = 2 := by decide +kernel
theorem er0_W : xWF er0 := by
  obtain ⟨e0, e1, e2, e3, e4⟩ := er0_n
  refine ⟨?_, ?_, fun b hb => (by decide +kernel : ∀ b, b < 6 → er0 (6 + b) = 0 ∨ er0 (6 + b) = 1) b hb, fun v hv => ?_, fun k hk => absurd hk (by omega), fun q hq => absurd hq (by omega), fun p q _ hq => absurd hq (by omega)⟩
  · unfold xBd
    decide +kernel
  · unfold xWn xil
    decide +kernel
  · rw [e1] at hv
    have hv0 : v = 0 := by omega
    subst hv0
    rw [e0, e4]
    unfold xil
    decide +kernel
theorem er0_Rm : xRm er0 := by
  intro v hv
  have hv0 : v = 0 := by have := er0_n.2.1; omega
  subst hv0
  decide +kernel
theorem er0_D : ∀ a, a < 6 → ∀ b, b < 6 → kD er0 a b = if a = b ∧ a < 2 then 0 else if a < 2 ∧ b < 2 then 1 else -1 := by decide +kernel
theorem wv_i {c : List xm_PC} {g i : Nat} : (wv c g).1 i = wsc g i := rfl
theorem wv_a {c : List xm_PC} {g a : Nat} : (wv c g).2 a = fI c (wpo g a) := rfl
theorem kInv_begin {c : List xm_PC} (hr : (List.range 296).all (fun i => decide (fI c 192 i = er0 i)) = true) (hp : fI c 2 0 = 5 ∧ fI c 3 0 = 2 ∧ fI c 4 0 = 3 ∧ fI c 6 0 = 0 ∧ fI c 6 1 = 1) (ha : fI c 8 0 = 0) (hf : (List.range 20).all (fun i => decide (fI c 17 i = -1)) = true) (hw : (List.range 6).all (fun a => (List.range 6).all (fun b => decide (fI c 19 (6 * a + b) = if a = b ∧ a < 2 then 0 else if a < 2 ∧ b < 2 then 1 else -1))) = true) : kInv (wv c) := by
  obtain ⟨e0, e1, e2, e3, e4⟩ := er0_n
  obtain ⟨p1, p2, p3, p4, p5⟩ := hp
  rw [List.all_eq_true] at hr hf hw
  have row : ∀ i, i < 296 → (wv c 3).2 0 i = er0 i := fun i hi => of_decide_eq_true (hr i (List.mem_range.2 hi))
  have P : kPl (wv c 1) er0 := by
    refine ⟨⟨show wsc 1 0 = er0 0 by decide +kernel, show wsc 1 1 = er0 1 by decide +kernel, show wsc 1 2 = er0 2 by decide +kernel⟩, fun v hv => ?_, fun k hk => absurd hk (by omega)⟩
    have hv0 : v = 0 := by omega
    subst hv0
    rw [e4]
    refine ⟨p1, p2, fun i hi => ?_, fun s hs => ?_⟩
    · rw [show (wv c 1).2 2 0 = 3 from p3]
      exact (by decide +kernel : ∀ i, i < 32 → bt 3 i = decide (i < 6 ∧ sp_has er0 0 (nI i) = true)) i hi
    · rcases (show s = 0 ∨ s = 1 by omega) with h | h
      · subst h
        exact p4
      · subst h
        exact p5
  have S1 : kS1 (wv c 5) er0 := by
    refine ⟨rfl, rfl, fun i hi => ?_, fun i hi => ?_, rfl⟩
    · exact (by decide +kernel : ∀ i, i < 32 → bt 3 i = decide (i < xnb er0 ∧ er0 (6 + i) = 1)) i hi
    · exact (by decide +kernel : ∀ i, i < 32 → bt 0 i = decide (i < xnk er0 ∧ er0 (59 + 6 * i) = 1)) i hi
  have S2 : kS2 (wv c 5) er0 := by
    refine ⟨fun v hv => ?_, fun k hk => absurd hk (by omega)⟩
    have hv0 : v = 0 := by omega
    subst hv0
    exact ha
  have S3 : kS3 (wv c 5) er0 := by
    refine ⟨fun q hq => absurd hq (by omega), fun k hk => ?_⟩
    unfold sp_first
    rw [e3]
    exact of_decide_eq_true (hf k (List.mem_range.2 hk))
  have S4 : kS4 (wv c 5) er0 := by
    intro a b ha hb
    rw [er0_D a ha b hb]
    have h1 := hw a (List.mem_range.2 ha)
    rw [List.all_eq_true] at h1
    exact of_decide_eq_true (h1 b (List.mem_range.2 hb))
  have K : kSt (wv c) 0 er0 := ⟨kRel_of er0_W ⟨P, S1, S2, S3, S4⟩, er0_Rm, 0, by omega, rfl⟩
  refine ⟨⟨rfl, kSt_ext row K, ?_⟩, ⟨0, 0, by omega, by omega, rfl, rfl, rfl, fun p hp => absurd hp (Nat.not_lt_zero p)⟩, Or.inl ⟨rfl, rfl⟩, ⟨0, by omega, rfl, rfl, fun i hi => absurd hi (Nat.not_lt_zero i)⟩, rfl, ⟨0, by omega, rfl, rfl, fun i hi => absurd hi (Nat.not_lt_zero i)⟩⟩
  show (if (1 : Int32) = 0 then 0 else 1) ≠ (if (0 : Int32) = 0 then 0 else 1)
  decide
section EP
variable {sc : xm_Sc} {d : Nat} {ls r : List Value} {S S' : xm_PS} {c : List xm_PC} {x : Nat}
theorem ep_0 : xm_R sc xt_M d 328 0 ls r (true, 0, c) = xm_R sc xt_M d 328 3 ls (.ref c.length :: r) (true, 0, c ++ [.inr (7, xm_new 7)]) := by
  refine (xi (pc := 0) (p0 := 0) (ins := .new 8) (ln := 3) (a := 7) (b := 0) (c := 0) (d' := 0) (e := 1025) ym_328 rfl).trans ?_
  show xm_push (true, 0, c) (.inr (7, xm_new 7)) (fun h S => xm_R sc xt_M d 328 3 ls (.ref h :: r) S) = _
  unfold xm_push
  exact if_pos ⟨rfl, rfl⟩
theorem ep_8 : xm_R sc xt_M d 328 8 ls r (true, 0, c) = xm_R sc xt_M d 328 11 ls (.ref c.length :: r) (true, 0, c ++ [.inr (8, xm_new 8)]) := by
  refine (xi (pc := 8) (p0 := 8) (ins := .new 105) (ln := 3) (a := 8) (b := 0) (c := 0) (d' := 0) (e := 5230) ym_328 rfl).trans ?_
  show xm_push (true, 0, c) (.inr (8, xm_new 8)) (fun h S => xm_R sc xt_M d 328 11 ls (.ref h :: r) S) = _
  unfold xm_push
  exact if_pos ⟨rfl, rfl⟩
theorem ep_4 (hr : xm_rok r = true) (h : xm_C sc xt_M d 106 [.ref x] S = some (.inl none, S')) : xm_R sc xt_M d 328 4 ls (.ref x :: r) S = xm_R sc xt_M d 328 7 ls r S' := by
  refine (xi (pc := 4) (p0 := 4) (ins := .invokespecial 104) (ln := 3) (a := 106) (b := 0) (c := 0) (d' := 0) (e := 1027) ym_328 rfl).trans ?_
  show (if 0 ≤ (Value.ref x :: r).length then xm_call (xm_C sc xt_M d) (xm_R sc xt_M d 328) (fun _ _ => none) 4 ls r S 106 [.ref x] 0 else none) = _
  rw [if_pos (Nat.zero_le _)]
  unfold xm_call
  rw [if_pos hr, h]
  rfl
theorem ep_12 (hr : xm_rok r = true) (h : xm_C sc xt_M d 157 [.ref x] S = some (.inl none, S')) : xm_R sc xt_M d 328 12 ls (.ref x :: r) S = xm_R sc xt_M d 328 15 ls r S' := by
  refine (xi (pc := 12) (p0 := 12) (ins := .invokespecial 107) (ln := 3) (a := 157) (b := 0) (c := 0) (d' := 0) (e := 5232) ym_328 rfl).trans ?_
  show (if 0 ≤ (Value.ref x :: r).length then xm_call (xm_C sc xt_M d) (xm_R sc xt_M d 328) (fun _ _ => none) 12 ls r S 157 [.ref x] 0 else none) = _
  rw [if_pos (Nat.zero_le _)]
  unfold xm_call
  rw [if_pos hr, h]
  rfl
theorem ep_17 : xm_R sc xt_M d 328 17 ls (.int 1 :: r) (true, 0, c) = xm_R sc xt_M d 328 19 ls (.ref c.length :: r) (true, 0, c ++ [.inl (2, 1, .inr (.inl fun _ => 0))]) := by
  refine (xi (pc := 17) (p0 := 17) (ins := .newarray .long) (ln := 2) (a := 0) (b := 0) (c := 2) (d' := 0) (e := 0) ym_328 rfl).trans ?_
  show (if (1 : Int32) < 0 then none else if (1 : Int32).toNatClampNeg ≤ 1000000 then xm_push (true, 0, c) (.inl (2, (1 : Int32).toNatClampNeg, .inr (.inl fun _ => 0))) (fun h S => xm_R sc xt_M d 328 19 ls (.ref h :: r) S) else none) = _
  rw [if_neg (by decide), if_pos (by decide), show (1 : Int32).toNatClampNeg = 1 by decide]
  unfold xm_push
  exact if_pos ⟨rfl, rfl⟩
theorem ep_7 : xm_R sc xt_M d 328 7 ls (.ref x :: r) S = xm_R sc xt_M d 328 8 (ls.set 1 (.ref x)) r S := yt_328_7
theorem ep_15 : xm_R sc xt_M d 328 15 ls (.ref x :: r) S = xm_R sc xt_M d 328 16 (ls.set 2 (.ref x)) r S := yt_328_15
theorem ep_19 : xm_R sc xt_M d 328 19 ls (.ref x :: r) S = xm_R sc xt_M d 328 20 (ls.set 3 (.ref x)) r S := yt_328_19
theorem ep_21 {i : Int32} : xm_R sc xt_M d 328 21 ls (.int i :: r) S = xm_R sc xt_M d 328 23 (ls.set 4 (.int i)) r S := yt_328_21
theorem ep_23 {v5 v6 v7 v8 : Value} {i : Int32} (h : S.2 = S'.2) : xm_R sc xt_M d 328 23 [.retAddr 5000, .ref 0, .ref 191, .ref 204, .int i, v5, v6, v7, v8] [] S = xm_R sc xt_M d 328 23 [.retAddr 5000, .ref 0, .ref 191, .ref 204, .int i, v5, v6, v7, v8] [] S' := by
  rw [yb_328_23 (by omega), yb_328_23 (by omega), h]
theorem ep_all {c1 c2 : List xm_PC} (h1 : xm_C sc xt_M d 106 [.ref 0] (true, 0, [.inr (7, xm_new 7)]) = some (.inl none, (true, 0, c1))) (n1 : c1.length = 191) (h2 : xm_C sc xt_M d 157 [.ref 191] (true, 0, c1 ++ [.inr (8, xm_new 8)]) = some (.inl none, (true, 0, c2))) (n2 : c2.length = 204) : xm_R sc xt_M d 328 0 (xm_entry 9 [.retAddr 5000]) [] (true, 0, []) = xm_R sc xt_M d 328 23 [.retAddr 5000, .ref 0, .ref 191, .ref 204, .int (nI 0), .null, .null, .null, .null] [] (true, 0, c2 ++ [.inl (2, 1, .inr (.inl fun _ => 0))]) := by
  have e0 : xm_R sc xt_M d 328 0 (xm_entry 9 [.retAddr 5000]) [] (true, 0, []) = xm_R sc xt_M d 328 3 (xm_entry 9 [.retAddr 5000]) [.ref 0] (true, 0, [.inr (7, xm_new 7)]) := ep_0
  rw [e0, yt_328_3, ep_4 rfl h1, ep_7, ep_8, n1, yt_328_11, ep_12 rfl h2, ep_15, yt_328_16, ep_17, n2, ep_19, yt_328_20, ep_21]
  rfl
end EP
theorem fQ_app {c : List xm_PC} {y : xm_PC} (h : xm_fQ (true, 0, c)) (hy : xm_okc y) : xm_fQ (true, 0, c ++ [y]) := by
  intro k c' e
  have e' : (c ++ [y])[k]? = some c' := e
  by_cases hk : k < c.length
  · rw [List.getElem?_append_left hk] at e'
    exact h k c' e'
  · rw [List.getElem?_append_right (Nat.le_of_not_lt hk)] at e'
    have : c' = y := by
      cases hz : k - c.length with
      | zero =>
        rw [hz] at e'
        exact (Option.some.inj e').symm
      | succ z =>
        rw [hz] at e'
        cases e'
    rw [this]
    exact hy
theorem fQ_nil : xm_fQ (true, 0, []) := fun k c e => nomatch e
theorem eok_ex {o : Option xm_O} (h : eok o = true) : ∃ c, o = some (.inl none, true, 0, c) := by
  unfold eok at h
  split at h
  · exact ⟨_, rfl⟩
  · cases h
theorem en1_eq : en1 = some (.inl none, true, 0, ec1) := by
  obtain ⟨c, hc⟩ := eok_ex eall_s.1
  have e : ec1 = c := by
    unfold ec1
    rw [hc]
  rw [e]
  exact hc
theorem en2_eq : en2 = some (.inl none, true, 0, ec2) := by
  obtain ⟨c, hc⟩ := eok_ex eall_s.2.2.1
  have e : ec2 = c := by
    unfold ec2
    rw [hc]
  rw [e]
  exact hc
theorem fQ_run {sc : xm_Sc} {n d i pc : Nat} {ls st : List Value} {S : xm_PS} {v : Option Value ⊕ Nat} {c : List xm_PC} (h : xm_run sc xt_M n d i pc ls st S = some (v, true, 0, c)) (hS : xm_fQ S) : xm_fQ (true, 0, c) := xm_fu_run n d i pc ls st S _ h hS
theorem fQ_7 : xm_fQ (true, 0, [.inr (7, xm_new 7)]) := fQ_app (c := []) fQ_nil xm_okc_r
theorem ec1_Q : xm_fQ (true, 0, ec1) := by
  have h := en1_eq
  unfold en1 at h
  exact fQ_run h fQ_7
theorem ec2_Q : xm_fQ (true, 0, ec2) := by
  have h := en2_eq
  unfold en2 at h
  exact fQ_run h (fQ_app ec1_Q xm_okc_r)
theorem ec3_Q : xm_fQ (true, 0, ec3) := fQ_app ec2_Q xm_okc_l
theorem ec3_eq : ec3 = xcells (wv ec3) (lv ec3) := skes_eq ec3 (xcells (wv ec3) (lv ec3)) 0 (fun i x h => by rw [Nat.zero_add]; exact h) wv_agr eall_s.2.2.2.2.1 ec3_Q
theorem en1_C {sc : xm_Sc} : xm_C sc xt_M 100 106 [.ref 0] (true, 0, [.inr (7, xm_new 7)]) = some (.inl none, (true, 0, ec1)) := by
  have h := en1_eq
  unfold en1 at h
  refine (xc (d := 99) (r := xt_106) rfl rfl).trans (xm_R_iff.2 ⟨8000, ?_⟩)
  exact xm_run_tr (sc := sc) (sc0 := sc0) rfl 8000 99 106 0 _ _ _ _ h rfl
theorem en2_C {sc : xm_Sc} : xm_C sc xt_M 100 157 [.ref 191] (true, 0, ec1 ++ [.inr (8, xm_new 8)]) = some (.inl none, (true, 0, ec2)) := by
  have h := en2_eq
  unfold en2 at h
  refine (xc (d := 99) (r := xt_157) rfl rfl).trans (xm_R_iff.2 ⟨8000, ?_⟩)
  exact xm_run_tr (sc := sc) (sc0 := sc0) rfl 8000 99 157 0 _ _ _ _ h rfl
section SZ
variable {w : xW} {l : Nat → Nat → Int64} {h : Nat} {m : xG}
theorem zz_A : (xcA m).length = 1 ∧ ((xcA m).map xm_sz).sum = 12 := by simp [xcA, xm_sz]
theorem zz_P : (xcP h m).length = 6 ∧ ((xcP h m).map xm_sz).sum = 72 := by simp [xcP, xm_sz]
theorem zz_S : (xcS h m).length = 13 ∧ ((xcS h m).map xm_sz).sum = 278 := by simp [xcS, xm_sz]
theorem zz_B : (xcB m).length = 5 ∧ ((xcB m).map xm_sz).sum = 1066 := by simp [xcB, xm_sz]
theorem zz_C : (xcC m).length = 2 ∧ ((xcC m).map xm_sz).sum = 37 := by simp [xcC, xm_sz]
theorem zz_D : (xcD m).length = 2 ∧ ((xcD m).map xm_sz).sum = 13 := by simp [xcD, xm_sz]
theorem zz_M : (xcM m l).length = 14 ∧ ((xcM m l).map xm_sz).sum = 5836 := by simp [xcM, xm_sz]
theorem xem_sz : ((xcells w l).map xm_sz).sum = 10722 := by
  unfold xcells xcF
  simp only [List.map_append, List.sum_append, zz_A.2, zz_P.2, zz_S.2, zz_B.2, zz_C.2, zz_D.2, zz_M.2]
theorem xem_ln : (xcells w l).length = 205 := by
  unfold xcells xcF
  simp only [List.length_append, zz_A.1, zz_P.1, zz_S.1, zz_B.1, zz_C.1, zz_D.1, zz_M.1]
end SZ
theorem xe_pure_ok : xe_pure := by
  intro L xs hL
  obtain ⟨s1, s2, s3, s4, s5, s6, s7, s8, s9, s10⟩ := eall_s
  have hI : kInv (wv ec3) := kInv_begin s6 s7 s8 s9 s10
  obtain ⟨w', l', t', e, ht⟩ := @kl_loop (L, xs) 60 L hL rfl 512 0 (wv ec3) (lv ec3) 0 .null .null .null .null (by omega) (by omega) hI
  have h := @ep_all (L, xs) 100 ec1 ec2 en1_C s2 en2_C s4
  have h3 : xm_R (L, xs) xt_M 100 328 0 (xm_entry 9 [.retAddr 5000]) [] (true, 0, []) = some (.inl (some (.int 1)), xem w' l' t') := by
    rw [h]
    refine (ep_23 (S' := xem (wv ec3) (lv ec3) 0) ?_).trans e
    exact congrArg (fun q => ((0, q) : Nat × List xm_PC)) ec3_eq
  obtain ⟨n, hn⟩ := xm_R_iff.1 h3
  refine ⟨n, xem w' l' t', hn, ?_, ?_⟩
  · show (xcells w' l').length + t' ≤ 601024
    rw [xem_ln]
    omega
  · show ((xcells w' l').map xm_sz).sum + 6 * t' ≤ 7293034
    rw [xem_sz]
    omega
