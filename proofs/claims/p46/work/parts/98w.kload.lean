/-! THE CLASS: load -/
def kBe (w : xW) (n : Nat) : xW := xu w 0 (xs1 (xs1 (w 0) 6 1) 7 (nI n))
/-- what load leaves in the class; i: the plan that was spare -/
def kLd (w w' : xW) (A : xLk) (i : Nat) : Prop := (∀ g, g ≠ 0 → g ≠ i + 1 → g ≠ 5 → g ≠ 6 → w' g = w g) ∧ (w' 0).2 = (w 0).2 ∧ (w' 0).1 0 = 0 ∧ (w' 0).1 1 = (if A.1.2.2.2.1 = 0 then -1 else A.1.2.2.2.2) ∧ (w' 0).1 12 = (w 0).1 12 ∧ (w' 0).1 14 = (w 0).1 14 ∧ (A.1.2.2.2.1 = 0 → (w' 0).1 13 = 0 ∧ (w' 0).1 3 = 0 ∧ (w' 0).1 2 = nI (xpi (w 5)) ∧ xpi (w' 5) = i ∧ kRl w' 0 A.2) ∧ (¬ A.1.2.2.2.1 = 0 → (w' 0).1 13 = (w 0).1 13 ∧ (w' 0).1 3 = (w 0).1 3 ∧ (w' 0).1 2 = (w 0).1 2 ∧ w' 5 = w 5)
section KL1
variable {w : xW} {l : Nat → Nat → Int64} {t : Nat} {sc : xm_Sc} {d n i : Nat} {f : Nat → Int32} {T T' : xTk} {v : Int32}
theorem xl_B : xm_len (xem w l t) 20 = some (nI 800) := rfl
theorem sp_scS_e {s : Nat} {e e' : Int32 × Int32} : sp_scS f n s e = ((sp_scS f n s e').1, (sp_scS f n s e').2.1, (sp_scS f n s e').2.2.1, e) := by
  unfold sp_scS
  split
  · split
    · rfl
    · split <;> rfl
  · rfl
theorem kc_83 (hn : n ≤ 800) (hB : kBy (kBe w n) f n) : xm_C sc xt_M (d + 4) 83 [.ref 21, .ref 20, .int (nI n)] (xem w l t) = some (.inl none, xem (kTw (kBe w n) (sp_scan f n (0, (w 0).1 9, 0, 0, -1)) (sp_cv f (sp_scan f n (0, (w 0).1 9, 0, 0, -1)) ((w 0).1 11))) l t) := by
  have e : xu w 0 (xs1 (xs1 (xs1 (xs1 (xs1 (xs1 (w 0) 6 1) 7 (nI n)) 4 0) 5 (-1)) 8 0) 10 0) = kTw (kBe w n) (0, (w 0).1 9, 0, 0, -1) ((w 0).1 11) := by
    unfold kTw kBe
    rw [xu_xu, xu_same]
    congr 1
    refine Prod.ext (funext fun j => ?_) rfl
    show (if j = 10 then (0 : Int32) else if j = 8 then 0 else if j = 5 then -1 else if j = 4 then 0 else if j = 7 then nI n else if j = 6 then 1 else (w 0).1 j) = (if j = 4 then (0 : Int32) else if j = 5 then -1 else if j = 8 then 0 else if j = 9 then (w 0).1 9 else if j = 10 then nI 0 else if j = 11 then (w 0).1 11 else if j = 7 then nI n else if j = 6 then 1 else (w 0).1 j)
    by_cases h10 : j = 10
    · subst h10; rfl
    rw [if_neg h10]
    by_cases h8 : j = 8
    · subst h8; rfl
    rw [if_neg h8]
    by_cases h5 : j = 5
    · subst h5; rfl
    rw [if_neg h5]
    by_cases h4 : j = 4
    · subst h4; rfl
    rw [if_neg h4, if_neg h4, if_neg h5, if_neg h8]
    by_cases h9 : j = 9
    · subst h9; rfl
    rw [if_neg h9, if_neg h10]
    by_cases h11 : j = 11
    · subst h11; rfl
    rw [if_neg h11]
  have c := @kc_86 (kBe w n) l t sc d n f hB (0, (w 0).1 9, 0, 0, -1) ((w 0).1 11) (Nat.zero_le _) (by show ¬ (0 : Int32) = 4; decide)
  have hlen : (if nI 800 < nI n then nI 800 else nI n) = nI n := if_neg (nI_nlt (by omega) (by omega))
  rw [yc_83, xsT_2, zbs, xl_B, zbs, hlen, xsT_3, zbs, xu_xu, xu_same, xsT_0, zbs, xu_xu, xu_same, xsT_1, zbs, xu_xu, xu_same, xsT_4, zbs, xu_xu, xu_same, xsT_6, zbs, xu_xu, xu_same, if_pos xiT, e, c, zbs, xk_v]
/-- class and reference begin alike -/
theorem kTR_begin {s s' k k' ea v0 : Int32} : kTR f (sp_scan f n (0, s, k, 0, ea)) (sp_scan f n (0, s', k', 0, -1)) (sp_cv f (sp_scan f n (0, s', k', 0, -1)) v0) := by
  have e1 : sp_scan f n (0, s, k, 0, ea) = sp_scS f n (xto (fun j => ¬ sp_spc f n j) 0 (n - 0)) (0, ea) := by unfold sp_scan; dsimp only
  have e2 : sp_scan f n (0, s', k', 0, -1) = sp_scS f n (xto (fun j => ¬ sp_spc f n j) 0 (n - 0)) (0, -1) := by unfold sp_scan; dsimp only
  rw [e1, e2, @sp_scS_e n f (xto (fun j => ¬ sp_spc f n j) 0 (n - 0)) (0, ea) (0, -1)]
  have k4 : ¬ (sp_scS f n (xto (fun j => ¬ sp_spc f n j) 0 (n - 0)) (0, -1)).2.2.1 = 4 := by
    unfold sp_scS
    split
    · split
      · show ¬ (1 : Int32) = 4
        decide
      · split
        · show ¬ (2 : Int32) = 4
          decide
        · show ¬ (3 : Int32) = 4
          decide
    · show ¬ (0 : Int32) = 4
      decide
  have ee : (sp_scS f n (xto (fun j => ¬ sp_spc f n j) 0 (n - 0)) (0, -1)).2.2.2 = (0, -1) := by
    rw [@sp_scS_e n f (xto (fun j => ¬ sp_spc f n j) 0 (n - 0)) (0, -1) (0, -1)]
  generalize sp_scS f n (xto (fun j => ¬ sp_spc f n j) 0 (n - 0)) (0, -1) = S at *
  obtain ⟨S1, S2, S3, S4⟩ := S
  have ee' : S4 = (0, -1) := ee
  subst ee'
  refine ⟨rfl, fun _ => ⟨rfl, rfl, rfl, rfl, k4, ?_⟩, fun z => absurd rfl z⟩
  unfold sp_cv
  dsimp only
  split
  · rfl
  · split <;> rfl
theorem kd_109_x {c : Nat} {x : Int32} (hc : (w 0).1 0 = nI c) (hx : ¬ (0 ≤ x ∧ x ≤ nI c)) : xm_C sc xt_M (d + 9) 109 [.ref 0, .int x] (xem w l t) = some (.inr 1, xem w l (t + 1)) := by
  have g12 : xm_R sc xt_M (d + 8) 109 12 [.ref 0, .int x] [] (xem w l t) = some (.inr 1, xem w l (t + 1)) := by
    rw [yb_109_12, if_pos ⟨rfl, rfl, rfl⟩]
    rfl
  rw [yc_109]
  by_cases h0 : x < 0
  · rw [if_pos h0, g12]
  · rw [if_neg h0, xgA_1, zbs, hc, if_neg (fun z => hx ⟨Int32.not_lt.mp h0, z⟩), g12]
theorem kd_109 {c : Nat} {r : Nat → Int32} {s k ea : Int32} (hc : (w 0).1 0 = nI c) (hn : n ≤ c) (hc8 : c ≤ 800) (hi : i < 2) (h2 : (if (w 0).1 2 = 0 then 0 else 1) = i) (h5 : xpi (w 5) ≠ i) (hf : ∀ j, j < n → (w 0).2 0 j = kby (f j) ∧ xil (f j) 256) :
    ∃ w', xm_C sc xt_M (d + 9) 109 [.ref 0, .int (nI n)] (xem w l t) = some (.inl (some (.int (if (sp_all f n (sp_scan f n (0, s, k, 0, ea), r)).1.2.2.2.1 = 0 then (sp_all f n (sp_scan f n (0, s, k, 0, ea), r)).2 2 else (-10) - (sp_all f n (sp_scan f n (0, s, k, 0, ea), r)).1.2.2.2.1))), xem w' l t) ∧ kLd w w' (sp_all f n (sp_scan f n (0, s, k, 0, ea), r)) i := by
  have hx0 : ¬ nI n < 0 := nI_pos (by omega)
  have hx1 : nI n ≤ nI c := nI_le hn (by omega)
  generalize hw1 : xu w 0 (xs1 (w 0) 0 0) = w1
  have a1 : ∀ j, j ≠ 0 → (w1 0).1 j = (w 0).1 j := fun j h => by rw [← hw1, xu_same, xs1_ne h]
  have a0 : (w1 0).1 0 = 0 := by rw [← hw1, xu_same]; exact xs1_same
  have a2 : (w1 0).2 = (w 0).2 := by rw [← hw1, xu_same]; rfl
  have ag : ∀ g, g ≠ 0 → w1 g = w g := fun g h => by rw [← hw1, xu_ne h]
  have hB1 : kBy (kBe w1 n) f n := by
    unfold kBy kBe
    rw [xu_same]
    refine ⟨xs1_same, rfl, by omega, fun j hj => ?_⟩
    show (w1 0).2 0 j = _ ∧ _
    rw [a2]
    exact hf j hj
  have c83 := @kc_83 w1 l t sc (d + 4) n f (by omega) hB1
  have hT0 : sp_tw f n (sp_scan f n (0, s, k, 0, ea)) := sp_tw_scan (Nat.zero_le n)
  have hR0 := @kTR_begin n f s ((w1 0).1 9) k 0 ea ((w1 0).1 11)
  generalize hS : sp_scan f n (0, s, k, 0, ea) = S at *
  generalize hS' : sp_scan f n (0, (w1 0).1 9, 0, 0, -1) = S' at *
  generalize hv' : sp_cv f S' ((w1 0).1 11) = v' at *
  -- the spare plan goes to the spare state
  generalize hw2 : kBe w1 n = w2 at *
  have b1 : ∀ j, j ≠ 6 → j ≠ 7 → (w2 0).1 j = (w1 0).1 j := fun j h6 h7 => by rw [← hw2]; unfold kBe; rw [xu_same, xs1_ne h7, xs1_ne h6]
  have b2 : (w2 0).2 = (w1 0).2 := by rw [← hw2]; unfold kBe; rw [xu_same]; rfl
  have bg : ∀ g, g ≠ 0 → w2 g = w g := fun g h => by rw [← hw2]; unfold kBe; rw [xu_ne h, ag g h]
  have gp : ∀ T0 v0, (if (kTw w2 T0 v0 0).1 2 = 0 then 0 else 1) = i := fun T0 v0 => by
    rw [kTw_1 (by omega), b1 2 (by omega) (by omega), a1 2 (by omega)]
    exact h2
  have s0 : xm_sF (xem (kTw w2 S' v') l t) (xh 1) 4 0 (.ref (xp i)) = some (xem (kTw (xu w2 6 (xs1 (w 6) 0 (nI i))) S' v') l t) := by
    rw [xsS_0 (k := 1) (by omega) hi]
    show some (xem (xu (kTw w2 S' v') 6 (xs1 (kTw w2 S' v' 6) 0 (nI i))) l t) = _
    rw [kTw_ne (by omega), bg 6 (by omega), kTw_xu (by omega)]
  have hB3 : kBy (xu w2 6 (xs1 (w 6) 0 (nI i))) f n := kBy_xu (by omega) hB1
  have h63 : xpi (xu w2 6 (xs1 (w 6) 0 (nI i)) 6) = i := by
    rw [xu_same]
    unfold xpi
    show (if nI i = 0 then 0 else 1) = i
    match i, hi with
    | 0, _ => rfl
    | 1, _ => rfl
    | _ + 2, h => omega
  obtain ⟨T4, v4, p4, s4, c4, r4, o4, k4⟩ := @kR_read (xu w2 6 (xs1 (w 6) 0 (nI i))) l t sc d n i f S S' v' r hi h63 hB3 hT0 hR0
  generalize hA : sp_all f n (S, r) = A at *
  have ew : xu (xu (xu w2 6 (xs1 (w 6) 0 (nI i))) (i + 1) p4) 6 s4 = xu (xu w2 (i + 1) p4) 6 s4 := by
    rw [xu_swap (show (6 : Nat) ≠ i + 1 by omega), xu_xu]
  rw [ew] at c4 k4
  generalize hw5 : xu (xu w2 (i + 1) p4) 6 s4 = w5 at *
  have d0 : w5 0 = w2 0 := by rw [← hw5, xu_ne (by omega), xu_ne (by omega)]
  have dg : ∀ g, g ≠ 0 → g ≠ i + 1 → g ≠ 6 → w5 g = w g := fun g h0 h1 h6 => by rw [← hw5, xu_ne h6, xu_ne h1, bg g h0]
  have d6 : w5 6 = s4 := by rw [← hw5, xu_same]
  have q6 : xpi s4 = i := by
    unfold xpi
    rw [o4]
    exact h63
  -- the error's place
  have eat : (kTw w5 T4 v4 0).1 5 = (if A.1.2.2.2.1 = 0 then -1 else A.1.2.2.2.2) := by
    rw [kTw_g5]
    by_cases z : A.1.2.2.2.1 = 0
    · rw [if_pos z]
      exact (r4.2.1 z).2.2.2.1
    · rw [if_neg z]
      exact (r4.2.2 z).2
  have kw1 : ∀ x, xu (kTw w5 T4 v4) 0 (xs1 (kTw w5 T4 v4 0) 1 x) = kTw (xu w5 0 (xs1 (w5 0) 1 x)) T4 v4 := fun x => by
    unfold kTw
    rw [xu_xu, xu_same, xu_xu, xu_same]
    congr 1
    refine Prod.ext (funext fun j => ?_) rfl
    show (if j = 1 then x else if j = 4 then T4.2.2.2.1 else if j = 5 then T4.2.2.2.2 else if j = 8 then T4.2.2.1 else if j = 9 then T4.2.1 else if j = 10 then nI T4.1 else if j = 11 then v4 else (w5 0).1 j) = (if j = 4 then T4.2.2.2.1 else if j = 5 then T4.2.2.2.2 else if j = 8 then T4.2.2.1 else if j = 9 then T4.2.1 else if j = 10 then nI T4.1 else if j = 11 then v4 else if j = 1 then x else (w5 0).1 j)
    by_cases h : j = 1
    · subst h; rfl
    · rw [if_neg h, if_neg (c := j = 1) h]
  have er4 : T4.2.2.2.1 = A.1.2.2.2.1 := r4.1
  have c84 := @kc_84 (xu w5 0 (xs1 (w5 0) 1 (if A.1.2.2.2.1 = 0 then -1 else A.1.2.2.2.2))) l t sc (d + 7) T4 v4
  have head : xm_C sc xt_M (d + 9) 109 [.ref 0, .int (nI n)] (xem w l t) = (fun S18 => (if zB (¬ A.1.2.2.2.1 = 0) = 0 then (xm_gR S18 0 7 5).bind fun n21 => (xm_gR S18 n21 4 0).bind fun n22 => (xm_sF S18 0 7 7 (.ref n22)).bind fun S23 => (xm_gR S23 0 7 5).bind fun n24 => (xm_gR S23 0 7 6).bind fun n25 => if xm_isO S23 (.ref n24) 4 = true then ((xm_C sc xt_M (d + 8) 54 [.ref n24, .ref n25] S23).bind fun o27 => xm_r0 o27 (fun S26 => (xm_gR S26 0 7 11).bind fun n28 => if xm_isO S26 (.ref n28) 0 = true then ((xm_C sc xt_M (d + 8) 1 [.ref n28] S26).bind fun o30 => xm_r0 o30 (fun S29 => (xm_sF S29 0 7 10 (.int 0)).bind fun S31 => (xm_gR S31 0 7 5).bind fun n32 => (xm_gR S31 n32 4 0).bind fun n33 => (xm_gI S31 n33 2 2).bind fun n34 => some (.inl (some (.int n34)), S31)) (fun e S => some (.inr e, S))) else none) (fun e S => some (.inr e, S))) else none else (xm_gR S18 0 7 3).bind fun n35 => (xm_gI S18 n35 5 0).bind fun n36 => some (.inl (some (.int ((-10) - n36))), S18))) (xem (kTw (xu w5 0 (xs1 (w5 0) 1 (if A.1.2.2.2.1 = 0 then -1 else A.1.2.2.2.2))) T4 v4) l t) := by
    rw [yc_109, if_neg hx0, xgA_1, zbs, hc, if_pos hx1, xsA_1, zbs, hw1, xgA_3, zbs, xgA_0, zbs, if_pos xiT, c83, zbs, xk_v, xgA_6, zbs, xgA_7, zbs, gp, s0, zbs, xgA_3, zbs, xgA_6, zbs, c4, zbs, xk_v, xgA_3, zbs, xgT_1, zbs, eat, xsA_2, zbs, kw1, xgA_3, zbs, if_pos xiT, c84, zbs, xk_I, er4]
  rw [head]
  dsimp only
  generalize hw6 : xu w5 0 (xs1 (w5 0) 1 (if A.1.2.2.2.1 = 0 then -1 else A.1.2.2.2.2)) = w6 at *
  have f1 : ∀ j, j ≠ 1 → (w6 0).1 j = (w2 0).1 j := fun j h => by rw [← hw6, xu_same, xs1_ne h, d0]
  have f11 : (w6 0).1 1 = (if A.1.2.2.2.1 = 0 then -1 else A.1.2.2.2.2) := by rw [← hw6, xu_same]; exact xs1_same
  have f2 : (w6 0).2 = (w2 0).2 := by rw [← hw6, xu_same]; show (w5 0).2 = _; rw [d0]
  have fg : ∀ g, g ≠ 0 → w6 g = w5 g := fun g h => by rw [← hw6, xu_ne h]
  have k6 : A.1.2.2.2.1 = 0 → kRel w6 1 A.2 := fun z => by
    rw [← hw6]
    exact kRel_g0 (k4 z)
  have low : ∀ j, j ≠ 0 → j ≠ 1 → j ≠ 6 → j ≠ 7 → (j < 4 ∨ 11 < j) → (kTw w6 T4 v4 0).1 j = (w 0).1 j := fun j h0 h1 h6' h7 hj => by
    rw [kTw_1 (by omega), f1 j h1, b1 j h6' h7, a1 j h0]
  have low0 : (kTw w6 T4 v4 0).1 0 = 0 := by rw [kTw_1 (by omega), f1 0 (by omega), b1 0 (by omega) (by omega), a0]
  have low1 : (kTw w6 T4 v4 0).1 1 = (if A.1.2.2.2.1 = 0 then -1 else A.1.2.2.2.2) := by rw [kTw_1 (by omega), f11]
  have lowa : (kTw w6 T4 v4 0).2 = (w 0).2 := by rw [kTw_2, f2, b2, a2]
  by_cases z : A.1.2.2.2.1 = 0
  · have m5 : kTw w6 T4 v4 5 = w 5 := by rw [kTw_ne (by omega), fg 5 (by omega), dg 5 (by omega) (by omega) (by omega)]
    have g0 : ∀ W : xW, xm_gR (xem W l t) (xh 0) 4 0 = some (xp (xpi (W 5))) := fun W => xgS_0 (k := 0) (by omega)
    obtain ⟨s5, c54, q5⟩ := @kc_54 (xu (kTw w6 T4 v4) 0 (xs1 (kTw w6 T4 v4 0) 2 (nI (xpi (w 5))))) l t sc (d + 6) 0 1 (by omega) (by omega) (by omega)
    have n6 : xu (kTw w6 T4 v4) 0 (xs1 (kTw w6 T4 v4 0) 2 (nI (xpi (w 5)))) (1 + 5) = s4 := by rw [xu_ne (by omega), kTw_ne (by omega), fg 6 (by omega), d6]
    rw [n6] at q5
    have qp := kCpd_pi q5
    rw [q6] at qp
    have hR7 : kRl (xu (kTw w6 T4 v4) 0 (xs1 (kTw w6 T4 v4 0) 2 (nI (xpi (w 5))))) 1 A.2 := (kRel_g0 (kRel_Tw (k6 z))).2
    have hBA := (k6 z).W.bd
    have hc7 := @kCpd_rel (xu (kTw w6 T4 v4) 0 (xs1 (kTw w6 T4 v4 0) 2 (nI (xpi (w 5))))) 0 A.2 1 s5 hBA (by rw [n6]; exact q5) hR7
    generalize hw7 : xu (kTw w6 T4 v4) 0 (xs1 (kTw w6 T4 v4 0) 2 (nI (xpi (w 5)))) = w7 at *
    have i1 : ∀ j, j ≠ 2 → (w7 0).1 j = (kTw w6 T4 v4 0).1 j := fun j h => by rw [← hw7, xu_same, xs1_ne h]
    have i2 : (w7 0).1 2 = nI (xpi (w 5)) := by rw [← hw7, xu_same]; exact xs1_same
    have ia : (w7 0).2 = (kTw w6 T4 v4 0).2 := by rw [← hw7, xu_same]; rfl
    have ig : ∀ g, g ≠ 0 → w7 g = w5 g := fun g h => by rw [← hw7, xu_ne h, kTw_ne h, fg g h]
    have c1 := @kc_1 (xu w7 5 s5) l t sc (d + 7)
    have e70 : xu w7 5 s5 0 = w7 0 := xu_ne (by omega)
    rw [e70] at c1
    have hc8' : kRl (xu (xu (xu w7 5 s5) 0 (xs1 (w7 0) 13 0)) 0 (xs1 (xu (xu w7 5 s5) 0 (xs1 (w7 0) 13 0) 0) 3 0)) 0 A.2 := by
      have y : kRel (xu w7 5 s5) 0 A.2 := kRel_of (k6 z).W hc7
      exact (kRel_g0 (kRel_g0 y)).2
    refine ⟨xu (xu (xu w7 5 s5) 0 (xs1 (w7 0) 13 0)) 0 (xs1 (xu (xu w7 5 s5) 0 (xs1 (w7 0) 13 0) 0) 3 0), ?_, ?_⟩
    · have k2 : (xu (xu (xu w7 5 s5) 0 (xs1 (w7 0) 13 0)) 0 (xs1 (xu (xu w7 5 s5) 0 (xs1 (w7 0) 13 0) 0) 3 0) (xpi (xu (xu (xu w7 5 s5) 0 (xs1 (w7 0) 13 0)) 0 (xs1 (xu (xu w7 5 s5) 0 (xs1 (w7 0) 13 0) 0) 3 0) 5) + 1)).1 2 = A.2 2 := hc8'.1.1.2.2
      rw [if_pos z, zB_ff (c := ¬ A.1.2.2.2.1 = 0) (fun y => y z), if_pos rfl, xgA_5, zbs, g0, zbs, m5, xsA_7 xpi_lt, zbs, hw7, xgA_5, zbs, xgA_6, zbs, if_pos (xiS (by omega)), c54, zbs, xk_v, xgA_11, zbs, if_pos xiH, c1, zbs, xk_v, xsA_10, zbs, xgA_5, zbs, g0, zbs, xgP_2 xpi_lt, zbs, k2]
    · have j1 : ∀ j, j ≠ 3 → j ≠ 13 → (xu (xu (xu w7 5 s5) 0 (xs1 (w7 0) 13 0)) 0 (xs1 (xu (xu w7 5 s5) 0 (xs1 (w7 0) 13 0) 0) 3 0) 0).1 j = (w7 0).1 j := fun j h3 h13 => by rw [xu_same, xs1_ne h3, xu_same, xs1_ne h13]
      have ja : (xu (xu (xu w7 5 s5) 0 (xs1 (w7 0) 13 0)) 0 (xs1 (xu (xu w7 5 s5) 0 (xs1 (w7 0) 13 0) 0) 3 0) 0).2 = (w7 0).2 := by rw [xu_same, xu_same]; rfl
      have j5 : xu (xu (xu w7 5 s5) 0 (xs1 (w7 0) 13 0)) 0 (xs1 (xu (xu w7 5 s5) 0 (xs1 (w7 0) 13 0) 0) 3 0) 5 = s5 := by rw [xu_ne (by omega), xu_ne (by omega), xu_same]
      refine ⟨fun g h0 h1 h5' h6' => ?_, ?_, ?_, ?_, ?_, ?_, fun _ => ⟨?_, ?_, ?_, ?_, hc8'⟩, fun y => absurd z y⟩
      · rw [xu_ne h0, xu_ne h0, xu_ne h5', ig g h0, dg g h0 h1 h6']
      · rw [ja, ia, lowa]
      · rw [j1 0 (by omega) (by omega), i1 0 (by omega), low0]
      · rw [j1 1 (by omega) (by omega), i1 1 (by omega), low1]
      · rw [j1 12 (by omega) (by omega), i1 12 (by omega), low 12 (by omega) (by omega) (by omega) (by omega) (by omega)]
      · rw [j1 14 (by omega) (by omega), i1 14 (by omega), low 14 (by omega) (by omega) (by omega) (by omega) (by omega)]
      · rw [xu_same, xs1_ne (by omega), xu_same]; exact xs1_same
      · rw [xu_same]; exact xs1_same
      · rw [j1 2 (by omega) (by omega), i2]
      · rw [j5, qp]
  · rw [if_neg z, zB_tt (c := ¬ A.1.2.2.2.1 = 0) z, if_neg (show ¬ (1 : Int32) = 0 by decide), xgA_3, zbs, xgK4, zbs, er4]
    refine ⟨kTw w6 T4 v4, rfl, fun g h0 h1 h5' h6' => ?_, lowa, low0, low1, low 12 (by omega) (by omega) (by omega) (by omega) (by omega), low 14 (by omega) (by omega) (by omega) (by omega) (by omega), fun y => absurd y z, fun _ => ⟨low 13 (by omega) (by omega) (by omega) (by omega) (by omega), low 3 (by omega) (by omega) (by omega) (by omega) (by omega), low 2 (by omega) (by omega) (by omega) (by omega) (by omega), ?_⟩⟩
    · rw [kTw_ne h0, fg g h0, dg g h0 h1 h6']
    · rw [kTw_ne (by omega), fg 5 (by omega), dg 5 (by omega) (by omega) (by omega)]
end KL1
