/-! TELL: its start -/
theorem oF.nx {S T T' : xm_PS} {m n : Nat} {W : Nat → Prop} (h : oF S T m oN) (g : oF T T' n W) (hw : ∀ z, W z → S.2.2.length ≤ z) : oF S T' (m + n) oN := h.tr2 g (fun x c hc z => by
  have h1 := os_lt hc
  have h2 := hw x z
  omega)
section T0
variable {S : xm_PS} {sc : xm_Sc} {d a : Nat}
theorem e10s : xm_str 10 = xm_str 1 ++ [32] := by decide +kernel
theorem e11s : xm_str 11 = [59] := by decide +kernel
theorem str_asc : ∀ k, k < 26 → ∀ j, j < (xm_str k).length → ((xm_str k).getD j 0).toNatClampNeg < 128 ∧ (xm_str k).getD j 0 = nI ((xm_str k).getD j 0).toNatClampNeg := by decide +kernel
theorem str_a {k : Nat} (hk : k < 26) : ∀ j, j < (xm_str k).length → asc ((xm_str k).getD j 0) := fun j hj => ⟨_, str_asc k hk j hj⟩
theorem str_l : ∀ k, k < 25 → (xm_str k).length ≤ 40 := by decide +kernel
/-- the branches, all open -/
theorem t_38 {e o b cv : Nat} {fs : List Value} {i5 : Int32} {x8 x9 x10 x11 x12 x13 x14 x15 x16 : Value} (hb : b < 100) : ∀ m i T g, i + m = b → T.2.2[e]? = some (.inr (8, .ref o :: fs)) → oA T o 3 b g → (∀ j, j < i → g j = 1) → ∃ T', oA T' o 3 b (fun _ => 1) ∧ oF T T' 0 (fun z => z = o) ∧ xm_R sc xt_M d 182 38 [.ref 0, .ref a, .retAddr 5000, .int 0, .ref e, .int i5, .int (nI b), .int (nI i), x8, x9, x10, x11, x12, x13, x14, x15, x16] [] T = xm_R sc xt_M d 182 38 [.ref 0, .ref a, .retAddr 5000, .int 0, .ref e, .int i5, .int (nI b), .int (nI b), x8, x9, x10, x11, x12, x13, x14, x15, x16] [] T' := by
  intro m
  induction m with
  | zero =>
    intro i T g hi he hA hg
    have ei : i = b := by omega
    subst ei
    exact ⟨T, hA.cg (fun j hj => (hg j hj).symm), oF.rf, rfl⟩
  | succ m ih =>
    intro i T g hi he hA hg
    obtain ⟨T1, e1, A1, F1⟩ := hA.wr2 (i := i) (by omega) (by omega) (y := 1)
    have neo : e ≠ o := by
      obtain ⟨f, hc, -⟩ := hA
      exact oK_ne he hc (by show 108 ≠ 3; decide)
    have he1 := F1.2.2.2.2 _ _ he (fun z => neo z)
    obtain ⟨T2, A2, F2, e2⟩ := ih (i + 1) T1 (upd g i 1) (by omega) he1 A1 (fun j hj => by
      by_cases c : j = i
      · rw [c, zu1]
      · rw [zun c]; exact hg j (by omega))
    refine ⟨T2, A2, F1.tr F2, ?_⟩
    rw [yb_182_38 (by omega), if_neg (nI_ge (by omega) (by omega)), og_R he rfl, zbs, e1, zbs, ← nI_succ]
    exact e2
theorem n1p {m : Nat} : (1 : Int32) + nI m = nI (1 + m) := zA (a := 1)
theorem n2p {m : Nat} : (2 : Int32) + nI m = nI (2 + m) := zA (a := 2)
theorem t_0 (hs : sc.1 ≤ 260) (f1 : S.1 = true) (f2 : S.2.1 = 0) : ∃ b nv cv T E p q m, (2 ≤ b ∧ b ≤ 6) ∧ (1 ≤ nv ∧ nv ≤ 4) ∧ tO T E (sp_beg r0Z b) nv 0 10 ∧ txJ S T p q (xm_str 1 ++ (tDg b ++ [59])) m ∧ m ≤ 150 ∧ (∀ a, S.2.2.length ≤ E a) ∧ (T.1 = true ∧ T.2.1 = 0) ∧ xm_C sc xt_M (d + 10) 182 [.ref 0, .ref a, .retAddr 5000, .int 0] S = xm_R sc xt_M (d + 9) 182 137 [.ref 0, .ref a, .retAddr 5000, .int 0, .ref (E 0), .int cv, .int (nI b), .int (nI nv), .ref p, .int 0, .null, .null, .null, .null, .null, .null, .null] [] T := by
  have hb2 : oMo (oCe sc 0) 5 < 5 := oMo_lt (by omega)
  have hv2 : oMo (oCe sc 0 >>> (3 &&& 31)) 4 < 4 := oMo_lt (by omega)
  have c178 : ∀ S, xm_C sc xt_M (d + 9) 178 [.retAddr 5000, .int 0] S = some (.inl (some (.int (oCe sc 0))), S) := fun S => by
    have z := @oc_178 sc (d + 8) 0 S hs (by omega)
    rw [nI_0] at z
    exact z
  generalize oCe sc 0 = cv at *
  have c177a : ∀ S, xm_C sc xt_M (d + 9) 177 [.int cv, .int 5] S = some (.inl (some (.int (nI (oMo cv 5)))), S) := fun S => oc_177y (k := 5) (by decide) (by omega) (by omega)
  have c177b : ∀ S, xm_C sc xt_M (d + 9) 177 [.int (cv >>> (3 &&& 31)), .int 4] S = some (.inl (some (.int (nI (oMo (cv >>> (3 &&& 31)) 4)))), S) := fun S => oc_177y (k := 4) (by decide) (by omega) (by omega)
  generalize hb : 2 + oMo cv 5 = b at *
  generalize hnv : 1 + oMo (cv >>> (3 &&& 31)) 4 = nv at *
  have heS : (oP S (.inr (8, xm_new 8))).2.2[S.2.2.length]? = some (.inr (8, xm_new 8)) := oP_at
  have FP : oF S (oP S (.inr (8, xm_new 8))) 1 oN := oF_P (by decide)
  obtain ⟨S1, x0, x1, x2, x3, x4, x5, e1, ⟨g1, g2⟩, he1, ⟨f4, h4⟩, ⟨f5, h5⟩, F1, l4, l5⟩ := @oc_157 (oP S (.inr (8, xm_new 8))) sc (d + 8) S.2.2.length f1 f2 heS
  have lP : (oP S (.inr (8, xm_new 8))).2.2.length = S.2.2.length + 1 := by
    show (S.2.2 ++ [_]).length = _
    rw [List.length_append]
    rfl
  rw [lP] at l4 l5
  have O1 : oF S S1 (1 + 7) oN := FP.nx F1 (fun z hz => by rw [hz]; exact Nat.le_refl _)
  rw [yc_182 (by omega), oP_eq f1 f2, e1, zbs, xk_v, c178, zbs, xk_I, c177a, zbs, xk_I, n2p, hb, if_neg (nI_pos (by omega)), nI_clamp (by omega), if_pos (by omega), oP_eq g1 g2]
  generalize hee : S.2.2.length = e at *
  obtain ⟨S2, e2, ⟨k1, k2⟩, he2, ho2, F2, L2⟩ := pg_F g1 g2 he1 (k := 0) (by show 0 < 9; omega) (c := .inl (3, b, .inl fun _ => 0)) (by show b ≤ 50; omega)
  have O2 : oF S S2 (1 + 7 + 1) oN := O1.nx F2 (fun z hz => by rw [hz, hee]; exact Nat.le_refl _)
  have ne4 : x4 ≠ e := oK_ne h4 he1 (by show 45 ≠ 108; decide)
  have ne5 : x5 ≠ e := oK_ne h5 he1 (by show 46 ≠ 108; decide)
  have h42 := F2.2.2.2.2 _ _ h4 (fun z => ne4 z)
  have h52 := F2.2.2.2.2 _ _ h5 (fun z => ne5 z)
  have l5' : x5 < S1.2.2.length := os_lt h5
  have eS1 : e < S1.2.2.length := os_lt he1
  generalize ho : S1.2.2.length = o at *
  have l5o : x5 < o := by
    rw [← ho]
    exact os_lt h5
  have he2' : S2.2.2[e]? = some (.inr (8, .ref o :: [.ref x1, .ref x2, .ref x3, .ref x4, .ref x5, .int 0, .int 10, .int 0])) := he2
  obtain ⟨S3, A3, F3, e3⟩ := @t_38 sc (d + 9) a e o b 0 _ cv .null .null .null .null .null .null .null .null .null (by omega) b 0 S2 (fun _ => 0) (Nat.zero_add _) he2' ⟨fun _ => 0, ho2, fun _ _ => rfl⟩ (fun j hj => absurd hj (Nat.not_lt_zero j))
  rw [nI_0] at e3
  have O3 : oF S S3 (1 + 7 + 1 + 0) oN := O2.nx F3 (fun z hz => by rw [hz, hee]; omega)
  have neo : e ≠ o := by omega
  have he3 := F3.2.2.2.2 _ _ he2' (fun z => neo z)
  have no4 : x4 ≠ o := oK_ne h42 ho2 (by show 45 ≠ 3; decide)
  have no5 : x5 ≠ o := oK_ne h52 ho2 (by show 46 ≠ 3; decide)
  have h43 := F3.2.2.2.2 _ _ h42 (fun z => no4 z)
  have h53 := F3.2.2.2.2 _ _ h52 (fun z => no5 z)
  have m1 : S3.1 = true := F3.1.1.trans k1
  have m2 : S3.2.1 = 0 := F3.1.2.trans k2
  have L3 := F3.2.1
  rw [e2, zbs]
  rw [(show _ = _ from e3), yb_182_38 (by omega), if_pos (nI_le (Nat.le_refl _) (by omega)), c177b, zbs, xk_I, n1p, hnv, if_neg (nI_pos (by omega)), nI_clamp (by omega), if_pos (by omega), oP_eq m1 m2]
  -- rooms, routes, places
  obtain ⟨S4, e4, ⟨n1, n2⟩, he4, hr4, F4, L4⟩ := pg_F m1 m2 he3 (k := 1) (by show 1 < 9; omega) (c := .inl (0, nv, .inl fun _ => 0)) (by show nv ≤ 50; omega)
  have O4 := O3.nx F4 (fun z hz => by rw [hz, hee]; exact Nat.le_refl _)
  have A4 := A3.fr F4 (fun z => neo z.symm)
  have h44 := F4.2.2.2.2 _ _ h43 (fun z => ne4 z)
  have h54 := F4.2.2.2.2 _ _ h53 (fun z => ne5 z)
  have e3l := os_lt he3
  rw [e4, zbs, if_neg (nI_pos (by omega)), if_pos (by omega), oP_eq n1 n2]
  obtain ⟨S5, e5, ⟨o1, o2⟩, he5, hr5, F5, L5⟩ := pg_F n1 n2 he4 (k := 2) (by show 2 < 9; omega) (c := .inl (6, nv, .inr (.inr (.inr (.inr fun _ => none))))) (by show nv ≤ 50; omega)
  have O5 := O4.nx F5 (fun z hz => by rw [hz, hee]; exact Nat.le_refl _)
  have A5 := A4.fr F5 (fun z => neo z.symm)
  have h45 := F5.2.2.2.2 _ _ h44 (fun z => ne4 z)
  have h55 := F5.2.2.2.2 _ _ h54 (fun z => ne5 z)
  have nr : S3.2.2.length ≠ e := by omega
  have r45 := F5.2.2.2.2 _ _ hr4 (fun z => nr z)
  rw [e5, zbs, if_neg (nI_pos (by omega)), if_pos (by omega), oP_eq o1 o2]
  obtain ⟨S6, e6, ⟨p1, p2⟩, he6, hr6, F6, L6⟩ := pg_F o1 o2 he5 (k := 3) (by show 3 < 9; omega) (c := .inl (0, nv, .inl fun _ => 0)) (by show nv ≤ 50; omega)
  have O6 := O5.nx F6 (fun z hz => by rw [hz, hee]; exact Nat.le_refl _)
  have A6 := A5.fr F6 (fun z => neo z.symm)
  have h46 := F6.2.2.2.2 _ _ h45 (fun z => ne4 z)
  have h56 := F6.2.2.2.2 _ _ h55 (fun z => ne5 z)
  have r46 := F6.2.2.2.2 _ _ r45 (fun z => nr z)
  have nr2 : S4.2.2.length ≠ e := by omega
  have r56 := F6.2.2.2.2 _ _ hr5 (fun z => nr2 z)
  rw [e6, zbs, oP_eq p1 p2]
  -- the picture there
  obtain ⟨s1, s2, s3, s4⟩ := @kSn_beg r0Z b (by omega) (by omega)
  have hO6 : tO S6 (fun z => if z = 0 then e else if z = 1 then o else if z = 2 then S3.2.2.length else if z = 3 then S4.2.2.length else if z = 4 then S5.2.2.length else if z = 5 then x4 else if z = 6 then x5 else e) (sp_beg r0Z b) nv 0 10 := by
    refine ⟨⟨⟨p1, p2⟩, he6, ?_⟩, ⟨⟨fun _ => 0, ⟨_, r46, fun _ _ => rfl⟩, fun u hu => absurd hu (by omega)⟩, ⟨_, r56, fun u hu => absurd hu (by omega)⟩, ⟨_, hr6, fun _ _ => rfl⟩, fun u hu => absurd hu (by omega)⟩, ⟨⟨f4, h46, fun k hk => absurd hk (by omega)⟩, ⟨f5, h56⟩, fun k hk => absurd hk (by omega)⟩, ⟨?_, ?_⟩, fun u hu => absurd hu (by omega), fun j k _ hk => absurd hk (by omega)⟩
    · rw [s4]
      exact A6
    · show S3.2.2.length < S5.2.2.length
      omega
    · show S4.2.2.length ≠ x5
      intro hz
      exact absurd hz (Nat.ne_of_gt (Nat.lt_of_lt_of_le (Nat.lt_trans l5o L2) (Nat.le_trans L3 (Nat.le_of_lt L4))))
  have hE : ∀ z, e ≤ (if z = 0 then e else if z = 1 then o else if z = 2 then S3.2.2.length else if z = 3 then S4.2.2.length else if z = 4 then S5.2.2.length else if z = 5 then x4 else if z = 6 then x5 else e) := fun z => by
    split
    · omega
    split
    · omega
    split
    · omega
    split
    · omega
    split
    · omega
    split
    · omega
    split <;> omega
  obtain ⟨E, hEd⟩ : ∃ E : Nat → Nat, E = fun z => if z = 0 then e else if z = 1 then o else if z = 2 then S3.2.2.length else if z = 3 then S4.2.2.length else if z = 4 then S5.2.2.length else if z = 5 then x4 else if z = 6 then x5 else e := ⟨_, rfl⟩
  rw [← hEd] at hO6
  have hE' : ∀ z, e ≤ E z := fun z => by rw [hEd]; exact hE z
  have hE0 : E 0 = e := by rw [hEd]; rfl
  -- the text's head, in a builder of its own
  have hw13 : (oP S6 (.inr (11, xm_new 11))).2.2[S6.2.2.length]? = some (.inr (11, [.null, .int 0, .int 0, .int 0])) := oP_at
  have F7 : oF S6 (oP S6 (.inr (11, xm_new 11))) 1 oN := oF_P (by decide)
  have O7 := O6.nx F7 (fun z hz => False.elim hz)
  have hO7 := hO6.nw F7
  have q1 : (oP S6 (.inr (11, xm_new 11))).1 = true := p1
  have q2 : (oP S6 (.inr (11, xm_new 11))).2.1 = 0 := p2
  have L6e : e ≤ S6.2.2.length := by omega
  generalize hS7 : oP S6 (.inr (11, xm_new 11)) = S7 at *
  generalize hp : S6.2.2.length = p at *
  rw [oP_eq q1 q2]
  have hw15 : (oP S7 (.inr (11, xm_new 11))).2.2[S7.2.2.length]? = some (.inr (11, [.null, .int 0, .int 0, .int 0])) := oP_at
  have F8 : oF S7 (oP S7 (.inr (11, xm_new 11))) 1 oN := oF_P (by decide)
  have O8 := O7.nx F8 (fun z hz => False.elim hz)
  have hO8 := hO7.nw F8
  have w8 := F8.2.2.2.2 _ _ hw13 id
  have r1 : (oP S7 (.inr (11, xm_new 11))).1 = true := q1
  have r2 : (oP S7 (.inr (11, xm_new 11))).2.1 = 0 := q2
  have npp : p ≠ S7.2.2.length := by
    have := os_lt hw13
    omega
  have L7e : e ≤ S7.2.2.length := by
    have := os_lt hw13
    omega
  obtain ⟨T1, y1, c1, b1, G1, k1⟩ := @sb_201 (oP S7 (.inr (11, xm_new 11))) sc (d + 7) S7.2.2.length r1 r2 _ _ _ _ hw15 rfl
  have O9 := O8.nx G1 (fun z hz => by rw [hz, hee]; exact L7e)
  have hO9 : tO T1 E (sp_beg r0Z b) nv 0 10 := hO8.fr G1 (fun z hz hzz => by
    obtain ⟨c, hc, k1, k2⟩ := hO8.cell hz
    exact oK_ne hc hw15 k2 hzz)
  have w9 := G1.2.2.2.2 _ _ w8 (fun z => npp z)
  generalize hv15 : S7.2.2.length = v at *
  have lT1 : e ≤ y1 := by
    have h1 := os_lt w8
    omega
  obtain ⟨T2, y2, z2, c2, M2⟩ := @sb_203 T1 sc (d + 4) v y1 16 10 [] b1 (by omega) (str_a (by omega)) (by have := str_l 10 (by omega); show 0 + _ ≤ 400; omega)
  obtain ⟨T3, y3, z3, c3, M3⟩ := @sb_205 T2 sc (d + 4) v y2 z2 _ M2.1 b (by omega) (by have := str_l 10 (by omega); show (xm_str 10).length < 400; omega)
  obtain ⟨T4, y4, z4, c4, M4⟩ := @sb_203 T3 sc (d + 4) v y3 z3 11 _ M3.1 (by omega) (str_a (by omega)) (by
    have h1 := str_l 10 (by omega)
    have h2 := str_l 11 (by omega)
    rw [List.length_append]
    show (xm_str 10).length + 1 + _ ≤ 400
    omega)
  have M := (M2.tr M3).tr M4
  have et : (([] ++ xm_str 10) ++ [nI (48 + b)]) ++ xm_str 11 = xm_str 1 ++ (tDg b ++ [59]) := by
    rw [e10s, e11s, List.nil_append, List.append_assoc, List.append_assoc]
    rfl
  rw [et] at M
  have hpre : ∀ j, j < (xm_str 1 ++ (tDg b ++ [(59 : Int32)])).length → asc ((xm_str 1 ++ (tDg b ++ [(59 : Int32)])).getD j 0) := by
    intro j hj
    have hj' : j < 11 := hj
    have h : ∀ b, b < 10 → ∀ j, j < 11 → ((xm_str 1 ++ (tDg b ++ [(59 : Int32)])).getD j 0).toNatClampNeg < 128 ∧ (xm_str 1 ++ (tDg b ++ [(59 : Int32)])).getD j 0 = nI ((xm_str 1 ++ (tDg b ++ [(59 : Int32)])).getD j 0).toNatClampNeg := by decide +kernel
    exact ⟨_, h b (by omega) j hj'⟩
  have hl11 : (xm_str 1 ++ (tDg b ++ [(59 : Int32)])).length = 11 := rfl
  have O10 : oF S T4 _ oN := O9.nx M.2.1 (fun z hz => by
    rw [hee]
    rcases hz with hz | hz
    · rw [hz]; exact L7e
    · rw [hz]; exact lT1)
  have hO10 := hO9.sb b1 M.2.1
  have nyp : p ≠ y1 := by
    obtain ⟨-, -, ⟨g, bq, -⟩, -⟩ := b1
    exact oK_ne w9 bq (by show 111 ≠ 1; decide)
  have w10 := M.2.1.2.2.2.2 _ _ w9 (fun z => by
    rcases z with z | z
    · exact npp z
    · exact nyp z)
  obtain ⟨T5, s, qs, c5, st5, G5, ks, kq⟩ := @ms_206 T4 sc (d + 3) v y4 z4 _ M.1 (by rw [hl11]; omega)
  have O11 := O10.nx G5 (fun z hz => False.elim hz)
  have hO11 := hO10.nw G5
  have w11 := G5.2.2.2.2 _ _ w10 id
  have fl5 : T5.1 = true ∧ T5.2.1 = 0 := ⟨G5.1.1.trans M.1.1.1, G5.1.2.trans M.1.1.2⟩
  obtain ⟨T6, q6, cap6, c6, b6, G6, k6⟩ := @ms_202 T5 sc (d + 1) p s qs _ fl5.1 fl5.2 _ _ _ w11 st5 (by rw [hl11]; omega)
  have O12 := O11.nx G6 (fun z hz => by rw [hz, hee]; exact L6e)
  have hO12 : tO T6 E (sp_beg r0Z b) nv 0 10 := hO11.fr G6 (fun z hz hzz => by
    obtain ⟨c, hc, k1, k2⟩ := hO11.cell hz
    exact oK_ne hc w11 k2 hzz)
  have lq6 : e ≤ q6 := by
    have h1 := os_lt w11
    omega
  refine ⟨b, nv, cv, T6, E, p, q6, _, ⟨by omega, by omega⟩, ⟨by omega, by omega⟩, hO12, ⟨⟨cap6, b6⟩, O12, by rw [hee]; exact L6e, by rw [hee]; exact lq6⟩, by omega, hE', b6.1, ?_⟩
  rw [c1, zbs, xk_v, if_pos b1.is, c2, zbs, xk_R, if_pos M2.1.is, c3, zbs, xk_R, if_pos M3.1.is, c4, zbs, xk_R, if_pos M.1.is, c5, zbs, xk_R, c6, zbs, xk_v, hE0]
end T0
