/-! THE CLASS: query -/
def kQd (w w' : xW) (E : xTk) : Prop := (∀ g, g ≠ 0 → w' g = w g) ∧ (w' 0).2 = (w 0).2 ∧ (w' 0).1 0 = 0 ∧ (w' 0).1 1 = (if E.2.2.2.1 = 0 then -1 else E.2.2.2.2) ∧ ∀ i, i = 2 ∨ i = 3 ∨ i = 12 ∨ i = 13 ∨ i = 14 → (w' 0).1 i = (w 0).1 i
section KQ3
variable {w : xW} {l : Nat → Nat → Int64} {t : Nat} {sc : xm_Sc} {d n : Nat} {f : Nat → Int32} {T T' : xTk} {v : Int32} {r : Nat → Int32}
theorem kc_27 {M : Int32} {S : xm_PS} : xm_C sc xt_M (d + 1) 27 [.int M] S = some (.inl (some (.int (toJ (xfst (fun i => bt M i = true) 0 20)))), S) := by
  have e := xlf (fun i => xm_R sc xt_M d 27 2 [.int M, .int (nI i)] [] S) (p := fun i => bt M i = true) (K := fun i => some (.inl (some (.int (nI i))), S)) (E := some (.inl (some (.int (-1))), S)) 20 (fun i hi => by
    have e1 := @kb1 M i (by omega)
    by_cases h : bt M i = true
    · rw [if_pos h, yb_27_2, if_neg (show ¬ (20 : Int32) ≤ nI i from nI_ge (a := i) (b := 20) hi (by omega)), if_pos (by rw [e1]; exact h)]
    · rw [if_neg h, yb_27_2, if_neg (show ¬ (20 : Int32) ≤ nI i from nI_ge (a := i) (b := 20) hi (by omega)), if_neg (by rw [e1]; exact h), zS]) (by
    rw [yb_27_2, if_pos (show (20 : Int32) ≤ nI 20 by decide)])
  rw [yc_27]
  refine Eq.trans e ?_
  cases xfst (fun i => bt M i = true) 0 20 with
  | none => rfl
  | some k => rfl
theorem qM_fst {M : Int32} {m : Nat → Bool} (hk : xnk r ≤ 20) (h : qM r M m) : xfst (fun i => bt M i = true) 0 20 = xfst (fun i => m i = true) 0 (xnk r) := by
  have e1 : xfst (fun i => bt M i = true) 0 (xnk r) = xfst (fun i => m i = true) 0 (xnk r) := xfst_cg (fun j h1 h2 => by
    rw [h j (by omega), decide_eq_true (show j < xnk r by omega), Bool.true_and])
  rw [← e1, show (20 : Nat) = xnk r + (20 - xnk r) by omega]
  cases e : xfst (fun i => bt M i = true) 0 (xnk r) with
  | none =>
    rw [xfst_app e]
    exact xfst_nn (fun j h1 h2 => by
      rw [h j (by omega), decide_eq_false (by omega), Bool.false_and]
      decide)
  | some k => exact xfst_app_s e
theorem qM_sum {M : Int32} {m : Nat → Bool} (hk : xnk r ≤ 20) (h : qM r M m) : xsum (fun i => zB (bt M i = true)) 24 = xsum (fun i => zB (m i = true)) (xnk r) := by
  have e1 : xsum (fun i => zB (bt M i = true)) (xnk r) = xsum (fun i => zB (m i = true)) (xnk r) := xsum_cg (fun i hi => by
    rw [h i (by omega), decide_eq_true hi, Bool.true_and])
  rw [← e1, show (24 : Nat) = xnk r + (24 - xnk r) by omega]
  exact xsum_cut _ (fun i h1 h2 => by
    rw [h i (by omega), decide_eq_false (by omega), Bool.false_and]
    rfl)
theorem q_no2 (h1 : sp_wrd f T 38) (h2 : sp_wrd f T 39) : False := by
  have a := h1.1.2.2
  have b := h2.1.2.2
  rw [← b] at a
  exact absurd a (by decide)
theorem kR_26 (hB : kBy w f n) (hL : kRel w 0 r) (hn : n ≤ 800) (hT : sp_tw f n T) (hx : sp_tx T) (h : kTR f T T' v) : ∃ T'' v'' A, xm_C sc xt_M (d + 30) 26 [.ref 21, .ref (xh 0)] (xem (kTw w T' v) l t) = some (.inl (some (.int A)), xem (kTw w T'' v'') l t) ∧ kTR f (q_QE f n (q_pv r) T) T'' v'' ∧ ((q_QE f n (q_pv r) T).2.2.2.1 = 0 → A = q_an f n r T) := by
  have hk20 := hL.W.bd.k20
  have m39 := @kR_word w l t sc (d + 24) n f T T' v 39 15 hB (by decide) rfl hT h
  have m38 := @kR_word w l t sc (d + 24) n f T T' v 38 16 hB (by decide) rfl hT h
  have s25 : ∃ T1, xm_C sc xt_M (d + 30) 26 [.ref 21, .ref (xh 0)] (xem (kTw w T' v) l t) = xm_R sc xt_M (d + 29) 26 25 [.ref 21, .ref (xh 0), .int (zB (sp_wrd f T 39)), .null] [] (xem (kTw w T1 v) l t) ∧ kTR f (q_Q1 f T) T1 v := by
    rw [yc_26, if_pos xiT, m39, zbs, xk_I, q_Q1_u]
    by_cases h9 : sp_wrd f T 39
    · rw [zB_tt h9, if_neg (show ¬ (1 : Int32) = 0 by decide), zB_tt (c := sp_wrd f T 38 ∨ sp_wrd f T 39) (Or.inr h9), sp_check_1]
      exact ⟨T', rfl, h⟩
    · rw [zB_ff h9, if_pos rfl, if_pos xiT, m38, zbs, xk_I]
      by_cases h8 : sp_wrd f T 38
      · rw [zB_tt h8, if_neg (show ¬ (1 : Int32) = 0 by decide), zB_tt (c := sp_wrd f T 38 ∨ sp_wrd f T 39) (Or.inl h8), sp_check_1]
        exact ⟨T', rfl, h⟩
      · obtain ⟨T1, c85, hR1⟩ := @kR_flaw w l t sc (d + 27) f T T' v 1 (by decide) h
        rw [zB_ff h8, if_pos rfl, if_pos xiT, c85, zbs, xk_v, zB_ff (c := sp_wrd f T 38 ∨ sp_wrd f T 39) (fun u => u.elim h8 h9), sp_check_0]
        exact ⟨T1, rfl, hR1⟩
  obtain ⟨T1, e25, hR1⟩ := s25
  obtain ⟨g1, g2, g3, g4, gQ⟩ := @q_QT f n T (q_pv r) hn hT hx
  obtain ⟨T2, v2, c86, hR2⟩ := @kR_adv w l t sc (d + 26) n f hB (q_Q1 f T) T1 v g1 hR1
  rw [← q_Q2_u] at hR2
  obtain ⟨T3, v3, M, c28, hR3, hM⟩ := @kR_28 w l t sc (d + 18) n f (q_Q2 f n T) T2 v2 r (q_fac f n (q_pv r) 6) (nI 0) hB hn (fun T a b => q_fac_G hn 6 T a b) (fun T T' v a b c => by
    have z := @kR_30 w l t sc n f r hB hL hn 6 d 0 T T' v (by omega) a b c
    exact z) g3 g4 hR2
  rw [← q_Q_u] at hR3 hM
  rw [show nI 0 = (0 : Int32) from rfl] at c28
  obtain ⟨T4, c97, hR4⟩ := @kR_end w l t sc (d + 26) f (q_Q f n (q_pv r) T).1 T3 v3 hR3
  rw [← q_QE_u] at hR4
  by_cases z : (q_QE f n (q_pv r) T).2.2.2.1 = 0
  · have zQ := (q_QE_ok z).1
    have hM' := hM zQ
    -- one of the words is there
    have hw : sp_wrd f T 38 ∨ sp_wrd f T 39 := by
      have z2 : (q_Q2 f n T).2.2.2.1 = 0 := Decidable.byContradiction fun y => by
        rw [gQ.2.2.2 y] at zQ
        exact y zQ
      rw [q_Q2_u] at z2
      have z1 : (q_Q1 f T).2.2.2.1 = 0 := (congrArg Prod.fst sp_adv_err).symm.trans z2
      rw [q_Q1_u] at z1
      exact Decidable.byContradiction fun y => (sp_check_ok (by decide) z1).2.1 (zB_ff y)
    by_cases h9 : sp_wrd f T 39
    · have h8 : ¬ sp_wrd f T 38 := fun u => q_no2 u h9
      refine ⟨T4, v3, xsum (fun i => zB (bt M i = true)) 24, ?_, hR4, fun _ => ?_⟩
      · have c329 := @kc_329 sc (d + 28) M (xem (kTw w T4 v3) l t) (fun i h1 h2 => by
          rw [hM' i h2, decide_eq_false (by omega), Bool.false_and])
        rw [e25, zB_tt h9, yb_26_25, if_pos xiT, c86, zbs, xk_v, c28, zbs, xk_I, if_pos xiT, c97, zbs, xk_v, if_neg (show ¬ (1 : Int32) = 0 by decide), c329, zbs, xk_I]
      · rw [q_an_u, if_pos z, if_neg h8]
        exact qM_sum hk20 hM'
    · have h8 : sp_wrd f T 38 := hw.resolve_right h9
      refine ⟨T4, v3, toJ (xfst (fun i => bt M i = true) 0 20), ?_, hR4, fun _ => ?_⟩
      · have c27 := @kc_27 sc (d + 28) M (xem (kTw w T4 v3) l t)
        rw [e25, zB_ff h9, yb_26_25, if_pos xiT, c86, zbs, xk_v, c28, zbs, xk_I, if_pos xiT, c97, zbs, xk_v, if_pos rfl, c27, zbs, xk_I]
      · rw [q_an_u, if_pos z, if_pos h8, qM_fst hk20 hM']
  · -- an error: any answer will do
    have tail : ∃ A, xm_R sc xt_M (d + 29) 26 25 [.ref 21, .ref (xh 0), .int (zB (sp_wrd f T 39)), .null] [] (xem (kTw w T1 v) l t) = some (.inl (some (.int A)), xem (kTw w T4 v3) l t) := by
      rw [yb_26_25, if_pos xiT, c86, zbs, xk_v, c28, zbs, xk_I, if_pos xiT, c97, zbs, xk_v]
      by_cases h9 : sp_wrd f T 39
      · rw [zB_tt h9, if_neg (show ¬ (1 : Int32) = 0 by decide), @kc_329q sc (d + 28) M (xem (kTw w T4 v3) l t), zbs, xk_I]
        exact ⟨_, rfl⟩
      · rw [zB_ff h9, if_pos rfl, @kc_27 sc (d + 28) M (xem (kTw w T4 v3) l t), zbs, xk_I]
        exact ⟨_, rfl⟩
    obtain ⟨A, eA⟩ := tail
    exact ⟨T4, v3, A, e25.trans eA, hR4, fun y => absurd y z⟩
theorem kd_151_x {c : Nat} {x : Int32} (hc : (w 0).1 0 = nI c) (hx : ¬ (0 ≤ x ∧ x ≤ (if (200 : Int32) < nI c then 200 else nI c))) : xm_C sc xt_M (d + 31) 151 [.ref 0, .int x] (xem w l t) = some (.inr 1, xem w l (t + 1)) := by
  have g19 : ∀ v2 : Value, xm_R sc xt_M (d + 30) 151 19 [.ref 0, .int x, v2] [] (xem w l t) = some (.inr 1, xem w l (t + 1)) := fun v2 => by
    rw [yb_151_19, if_pos ⟨rfl, rfl, rfl⟩]
    rfl
  rw [yc_151]
  by_cases h0 : x < 0
  · rw [if_pos h0, g19]
  · rw [if_neg h0]
    by_cases h1 : 200 < x
    · rw [if_pos h1, g19]
    · rw [if_neg h1, xgA_1, zbs, hc]
      by_cases h2 : x ≤ nI c
      · refine absurd ⟨Int32.not_lt.mp h0, ?_⟩ hx
        split
        · exact Int32.not_lt.mp h1
        · exact h2
      · rw [if_neg h2, g19]
theorem kd_151 {c : Nat} {s k ea : Int32} (hL : kRel w 0 r) (hc : (w 0).1 0 = nI c) (hn : n ≤ c) (hc8 : c ≤ 800) (h2 : n ≤ 200) (hf : ∀ j, j < n → (w 0).2 0 j = kby (f j) ∧ xil (f j) 256) :
    ∃ w', xm_C sc xt_M (d + 31) 151 [.ref 0, .int (nI n)] (xem w l t) = some (.inl (some (.int (q_an f n r (sp_scan f n (0, s, k, 0, ea))))), xem w' l t) ∧ kQd w w' (q_QE f n (q_pv r) (sp_scan f n (0, s, k, 0, ea))) := by
  have hx0 : ¬ nI n < 0 := nI_pos (by omega)
  have hx2 : ¬ (200 : Int32) < nI n := nI_nlt (a := 200) (b := n) (by omega) (by omega)
  have hx1 : nI n ≤ nI c := nI_le hn (by omega)
  generalize hw1 : xu w 0 (xs1 (w 0) 0 0) = w1
  have a1 : ∀ j, j ≠ 0 → (w1 0).1 j = (w 0).1 j := fun j h => by rw [← hw1, xu_same, xs1_ne h]
  have a0 : (w1 0).1 0 = 0 := by rw [← hw1, xu_same]; exact xs1_same
  have a2 : (w1 0).2 = (w 0).2 := by rw [← hw1, xu_same]; rfl
  have ag : ∀ g, g ≠ 0 → w1 g = w g := fun g h => by rw [← hw1, xu_ne h]
  have hL1 : kRel w1 0 r := by rw [← hw1]; exact kRel_g0 hL
  have hB1 : kBy (kBe w1 n) f n := by
    unfold kBy kBe
    rw [xu_same]
    refine ⟨xs1_same, rfl, by omega, fun j hj => ?_⟩
    show (w1 0).2 0 j = _ ∧ _
    rw [a2]
    exact hf j hj
  have c83 := @kc_83 w1 l t sc (d + 26) n f (by omega) hB1
  have hT0 : sp_tw f n (sp_scan f n (0, s, k, 0, ea)) := sp_tw_scan (Nat.zero_le n)
  have hxx := (@sp_scan_x f n (0, s, k, 0, ea) (by omega) (Nat.zero_le n)).1
  have hR0 := @kTR_begin n f s ((w1 0).1 9) k 0 ea ((w1 0).1 11)
  generalize hS : sp_scan f n (0, s, k, 0, ea) = S at *
  generalize hS' : sp_scan f n (0, (w1 0).1 9, 0, 0, -1) = S' at *
  generalize hv' : sp_cv f S' ((w1 0).1 11) = v' at *
  have hL2 : kRel (kBe w1 n) 0 r := kRel_g0 hL1
  generalize hw2 : kBe w1 n = w2 at *
  have b1 : ∀ j, j ≠ 6 → j ≠ 7 → (w2 0).1 j = (w1 0).1 j := fun j h6 h7 => by rw [← hw2]; unfold kBe; rw [xu_same, xs1_ne h7, xs1_ne h6]
  have b2 : (w2 0).2 = (w1 0).2 := by rw [← hw2]; unfold kBe; rw [xu_same]; rfl
  have bg : ∀ g, g ≠ 0 → w2 g = w g := fun g h => by rw [← hw2]; unfold kBe; rw [xu_ne h, ag g h]
  obtain ⟨T4, v4, A, c26, r4, eA⟩ := @kR_26 w2 l t sc d n f S S' v' r hB1 hL2 (by omega) hT0 hxx hR0
  generalize hE : q_QE f n (q_pv r) S = E at *
  have eat : (kTw w2 T4 v4 0).1 5 = (if E.2.2.2.1 = 0 then -1 else E.2.2.2.2) := by
    rw [kTw_g5]
    by_cases z : E.2.2.2.1 = 0
    · rw [if_pos z]
      exact (r4.2.1 z).2.2.2.1
    · rw [if_neg z]
      exact (r4.2.2 z).2
  have kw1 : ∀ x, xu (kTw w2 T4 v4) 0 (xs1 (kTw w2 T4 v4 0) 1 x) = kTw (xu w2 0 (xs1 (w2 0) 1 x)) T4 v4 := fun x => by
    unfold kTw
    rw [xu_xu, xu_same, xu_xu, xu_same]
    congr 1
    refine Prod.ext (funext fun j => ?_) rfl
    show (if j = 1 then x else if j = 4 then T4.2.2.2.1 else if j = 5 then T4.2.2.2.2 else if j = 8 then T4.2.2.1 else if j = 9 then T4.2.1 else if j = 10 then nI T4.1 else if j = 11 then v4 else (w2 0).1 j) = (if j = 4 then T4.2.2.2.1 else if j = 5 then T4.2.2.2.2 else if j = 8 then T4.2.2.1 else if j = 9 then T4.2.1 else if j = 10 then nI T4.1 else if j = 11 then v4 else if j = 1 then x else (w2 0).1 j)
    by_cases h : j = 1
    · subst h; rfl
    · rw [if_neg h, if_neg (c := j = 1) h]
  have er4 : T4.2.2.2.1 = E.2.2.2.1 := r4.1
  have c84 := @kc_84 (xu w2 0 (xs1 (w2 0) 1 (if E.2.2.2.1 = 0 then -1 else E.2.2.2.2))) l t sc (d + 29) T4 v4
  have low : ∀ j, j ≠ 0 → j ≠ 1 → j ≠ 6 → j ≠ 7 → (j < 4 ∨ 11 < j) → (kTw (xu w2 0 (xs1 (w2 0) 1 (if E.2.2.2.1 = 0 then -1 else E.2.2.2.2))) T4 v4 0).1 j = (w 0).1 j := fun j h0 h1 h6' h7 hj => by
    rw [kTw_1 (by omega), xu_same, xs1_ne h1, b1 j h6' h7, a1 j h0]
  have qd : kQd w (kTw (xu w2 0 (xs1 (w2 0) 1 (if E.2.2.2.1 = 0 then -1 else E.2.2.2.2))) T4 v4) E := by
    refine ⟨fun g hg => by rw [kTw_ne hg, xu_ne hg, bg g hg], ?_, ?_, ?_, fun i hi => low i (by omega) (by omega) (by omega) (by omega) (by omega)⟩
    · rw [kTw_2, xu_same]
      show (w2 0).2 = _
      rw [b2, a2]
    · rw [kTw_1 (by omega), xu_same, xs1_ne (by omega), b1 0 (by omega) (by omega), a0]
    · rw [kTw_1 (by omega), xu_same]
      exact xs1_same
  refine ⟨_, ?_, qd⟩
  rw [yc_151, if_neg hx0, if_neg hx2, xgA_1, zbs, hc, if_pos hx1, xsA_1, zbs, hw1, xgA_3, zbs, xgA_0, zbs, if_pos xiT, c83, zbs, xk_v, xgA_3, zbs, xgA_5, zbs, c26, zbs, xk_I, xgA_3, zbs, xgT_1, zbs, eat, xsA_2, zbs, kw1, xgA_3, zbs, if_pos xiT, c84, zbs, xk_I, er4]
  by_cases z : E.2.2.2.1 = 0
  · rw [zB_ff (c := ¬ E.2.2.2.1 = 0) (fun y => y z), if_pos rfl, eA z]
  · rw [zB_tt (c := ¬ E.2.2.2.1 = 0) z, if_neg (show ¬ (1 : Int32) = 0 by decide), xgA_3, zbs, xgK4, zbs, er4, q_an_u, hE, if_neg z, if_neg z]
end KQ3
