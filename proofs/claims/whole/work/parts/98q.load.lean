/-! THE REFERENCE: load -/
def xLd (w w' : xW) (A : xLk) : Prop := (∀ g, g ≠ 3 → w' g = w g) ∧ (∀ i, i = 4 ∨ i = 5 ∨ 14 < i → (w' 3).1 i = (w 3).1 i) ∧ (w' 3).1 0 = 0 ∧ (w' 3).1 2 = 0 ∧ (w' 3).1 6 = 0 ∧ (w' 3).1 13 = (if A.1.2.2.2.1 = 0 then -1 else A.1.2.2.2.2) ∧ (∀ a, a ≠ 0 → a ≠ 1 → (w' 3).2 a = (w 3).2 a) ∧ (A.1.2.2.2.1 = 0 → (w' 3).1 1 = 0 ∧ (w' 3).1 3 = 0 ∧ ∀ i, i < 296 → (w' 3).2 0 i = A.2 i) ∧ (¬ A.1.2.2.2.1 = 0 → (w' 3).1 1 = (w 3).1 1 ∧ (w' 3).1 3 = (w 3).1 3 ∧ (w' 3).2 0 = (w 3).2 0)
section LD
variable {w : xW} {l : Nat → Nat → Int64} {t : Nat} {sc : xm_Sc} {d n : Nat} {T : xTk}
theorem xPw_f0 {x : Int32} : xu (xPw w T) 3 (xs1 (xPw w T 3) 0 x) = xPw (xu w 3 (xs1 (w 3) 0 x)) T := by
  unfold xPw
  rw [xu_xu, xu_same, xu_same, xu_xu]
  congr 1
  refine Prod.ext (funext fun i => ?_) rfl
  show (if i = 0 then x else if i = 8 then nI T.1 else if i = 9 then T.2.1 else if i = 10 then T.2.2.1 else if i = 11 then T.2.2.2.1 else if i = 12 then T.2.2.2.2 else (w 3).1 i) = (if i = 8 then nI T.1 else if i = 9 then T.2.1 else if i = 10 then T.2.2.1 else if i = 11 then T.2.2.2.1 else if i = 12 then T.2.2.2.2 else if i = 0 then x else (w 3).1 i)
  by_cases h : i = 0
  · rw [if_pos h, if_neg (by omega), if_neg (by omega), if_neg (by omega), if_neg (by omega), if_neg (by omega), if_pos h]
  · rw [if_neg h, if_neg (c := i = 0) h]
theorem xTl_1 {x : Int32} {i : Nat} (h : i ≠ 2) : (xT w x 3).1 i = (w 3).1 i := by
  unfold xT
  rw [xu_same]
  exact xs1_ne h
theorem xTl_2 {x : Int32} : (xT w x 3).2 = (w 3).2 := by
  unfold xT
  rw [xu_same]
  rfl
theorem xT_TT {x y : Int32} : xT (xT w x) y = xT w y := by
  unfold xT
  rw [xu_xu, xu_same]
  congr 1
  refine Prod.ext (funext fun i => ?_) rfl
  show (if i = 2 then y else if i = 2 then x else (w 3).1 i) = (if i = 2 then y else (w 3).1 i)
  split <;> rfl
theorem zc_287_x {c : Nat} {x : Int32} (hc : (w 3).1 6 = nI c) (hx : ¬ (0 ≤ x ∧ x ≤ nI c)) : xm_C sc xt_M (d + 8) 287 [.ref 191, .int x] (xem w l t) = some (.inl (some (.int 0)), xem (xT w 1) l t) := by
  have eT : xu w 3 (xs1 (w 3) 2 0) = xT w 0 := rfl
  rw [yc_287, xsM_7, zbs, eT, xgM_15, zbs, xTl_1 (by omega), hc, rd_160, zbs, xk_I, zB_ff hx, if_pos rfl, if_pos xiM, zc_159, zbs, xk_I, xT_TT]
theorem zc_287 {c : Nat} (hc : (w 3).1 6 = nI c) (hn : n ≤ c) (hc8 : c ≤ 800) : ∃ w', xm_C sc xt_M (d + 8) 287 [.ref 191, .int (nI n)] (xem w l t) = some (.inl (some (.int (if (sp_all ((w 3).2 8) n (sp_scan ((w 3).2 8) n (0, (w 3).1 9, (w 3).1 10, 0, (w 3).1 12), (w 3).2 1)).1.2.2.2.1 = 0 then (sp_all ((w 3).2 8) n (sp_scan ((w 3).2 8) n (0, (w 3).1 9, (w 3).1 10, 0, (w 3).1 12), (w 3).2 1)).2 2 else (-10) - (sp_all ((w 3).2 8) n (sp_scan ((w 3).2 8) n (0, (w 3).1 9, (w 3).1 10, 0, (w 3).1 12), (w 3).2 1)).1.2.2.2.1))), xem w' l t) ∧ xLd w w' (sp_all ((w 3).2 8) n (sp_scan ((w 3).2 8) n (0, (w 3).1 9, (w 3).1 10, 0, (w 3).1 12), (w 3).2 1)) := by
  have eT : xu w 3 (xs1 (w 3) 2 0) = xT w 0 := rfl
  have hx : 0 ≤ nI n ∧ nI n ≤ nI c := ⟨nI_pos' (by omega), nI_le hn (by omega)⟩
  have c270 := @zc_270 (xT w 0) l t sc (d + 3) n (by omega)
  rw [xTl_2, xTl_1 (by omega), xTl_1 (by omega), xTl_1 (by omega)] at c270
  generalize hT0 : sp_scan ((w 3).2 8) n (0, (w 3).1 9, (w 3).1 10, 0, (w 3).1 12) = T0 at *
  have hTw : sp_tw ((w 3).2 8) n T0 := by
    rw [← hT0]
    exact sp_tw_scan (Nat.zero_le n)
  have s1 : ∀ i, i ≠ 7 → i ≠ 14 → (xSw (xT w 0) n 3).1 i = (xT w 0 3).1 i := fun i h1 h2 => by
    unfold xSw
    rw [xu_same, xs1_ne h2, xs1_ne h1]
  have s7 : (xSw (xT w 0) n 3).1 7 = nI n := by
    unfold xSw
    rw [xu_same]
    rfl
  have s2 : (xSw (xT w 0) n 3).2 = (w 3).2 := by
    unfold xSw
    rw [xu_same]
    exact xTl_2 (x := 0)
  have sg : ∀ g, g ≠ 3 → xSw (xT w 0) n g = w g := fun g h => (xu_ne h).trans (xu_ne h)
  generalize hw1 : xSw (xT w 0) n = w1 at *
  have t2 : (xu w1 3 (xs1 (w1 3) 0 (nI 1)) 3).2 = (w 3).2 := by rw [xu_same]; exact s2
  have t7 : (xu w1 3 (xs1 (w1 3) 0 (nI 1)) 3).1 7 = nI n := by rw [xu_same, xs1_ne (by omega)]; exact s7
  have t0 : (xu w1 3 (xs1 (w1 3) 0 (nI 1)) 3).1 0 = nI 1 := by rw [xu_same]; exact xs1_same
  have t1 : ∀ i, i ≠ 0 → (xu w1 3 (xs1 (w1 3) 0 (nI 1)) 3).1 i = (w1 3).1 i := fun i h => by rw [xu_same, xs1_ne h]
  have tg : ∀ g, g ≠ 3 → xu w1 3 (xs1 (w1 3) 0 (nI 1)) g = w g := fun g h => (xu_ne h).trans (sg g h)
  have p0 := @xPw_f0 w1 T0 (nI 1)
  generalize hw2 : xu w1 3 (xs1 (w1 3) 0 (nI 1)) = w2 at *
  have eri : xri (w2 3) = 1 := by
    unfold xri
    rw [t0]
    rfl
  have eR : xR w2 = (w 3).2 1 := by
    unfold xR
    rw [eri, t2]
  have c286 := @zc_286 w2 l t sc d n T0 ((w 3).2 1) t7 (by omega) (by rw [t2]; exact hTw)
  rw [t2] at c286
  have eW : xRs w2 ((w 3).2 1) = w2 := by rw [← eR]; exact xRs_self
  rw [eW] at c286
  generalize hA : sp_all ((w 3).2 8) n (T0, (w 3).2 1) = A at *
  have u1 : ∀ i, (xRs w2 A.2 3).1 i = (w2 3).1 i := fun i => by
    unfold xRs
    rw [xu_same]
    rfl
  have u2 : ∀ a, a ≠ 1 → (xRs w2 A.2 3).2 a = (w 3).2 a := fun a h => by
    unfold xRs
    rw [xu_same, eri, ← t2]
    exact if_neg h
  have u21 : (xRs w2 A.2 3).2 1 = A.2 := by
    unfold xRs
    rw [xu_same, eri]
    exact xs2_same
  have ug : ∀ g, g ≠ 3 → xRs w2 A.2 g = w g := fun g h => (xu_ne h).trans (tg g h)
  have p1 := @xPw_f0 (xRs w2 A.2) A.1 (nI 0)
  have v1 : ∀ i, i ≠ 0 → (xu (xRs w2 A.2) 3 (xs1 (xRs w2 A.2 3) 0 (nI 0)) 3).1 i = (w2 3).1 i := fun i h => by rw [xu_same, xs1_ne h, u1]
  have v0 : (xu (xRs w2 A.2) 3 (xs1 (xRs w2 A.2 3) 0 (nI 0)) 3).1 0 = 0 := by rw [xu_same]; exact xs1_same
  have v2 : (xu (xRs w2 A.2) 3 (xs1 (xRs w2 A.2 3) 0 (nI 0)) 3).2 = (xRs w2 A.2 3).2 := by rw [xu_same]; rfl
  have vg : ∀ g, g ≠ 3 → xu (xRs w2 A.2) 3 (xs1 (xRs w2 A.2 3) 0 (nI 0)) g = w g := fun g h => (xu_ne h).trans (ug g h)
  generalize hw3 : xu (xRs w2 A.2) 3 (xs1 (xRs w2 A.2 3) 0 (nI 0)) = w3 at *
  have c271 := @zc_271 w3 l t sc (d + 6) A.1
  have x1 : ∀ i, i < 8 ∨ 12 < i → i ≠ 6 → i ≠ 13 → (xEw w3 A.1 3).1 i = (w3 3).1 i := fun i h h6 h13 => by
    unfold xEw
    rw [xu_same, xs1_ne h13, xs1_ne h6, xPw_1 h]
  have x6 : (xEw w3 A.1 3).1 6 = 0 := by
    unfold xEw
    rw [xu_same, xs1_ne (by omega)]
    exact xs1_same
  have x11 : (xEw w3 A.1 3).1 11 = A.1.2.2.2.1 := by
    unfold xEw
    rw [xu_same, xs1_ne (by omega), xs1_ne (by omega)]
    exact xPw_b
  have x13 : (xEw w3 A.1 3).1 13 = (if A.1.2.2.2.1 = 0 then -1 else A.1.2.2.2.2) := by
    unfold xEw
    rw [xu_same]
    exact xs1_same
  have x2 : (xEw w3 A.1 3).2 = (w3 3).2 := by
    unfold xEw
    rw [xu_same]
    exact xPw_2 (w := w3) (T := A.1)
  have xg : ∀ g, g ≠ 3 → xEw w3 A.1 g = w g := fun g h => (xu_ne h).trans ((xPw_ne h).trans (vg g h))
  generalize hw4 : xEw w3 A.1 = w4 at *
  have low : ∀ i, i ≠ 0 → i ≠ 2 → i ≠ 6 → i ≠ 7 → i ≠ 13 → i ≠ 14 → (i < 8 ∨ 12 < i) → (w4 3).1 i = (w 3).1 i := fun i h0 h2 h6 h7 h13 h14 h => by
    rw [x1 i h h6 h13, v1 i h0, t1 i h0, s1 i h7 h14, xTl_1 h2]
  have low2 : (w4 3).1 2 = 0 := by
    rw [x1 2 (by omega) (by omega) (by omega), v1 2 (by omega), t1 2 (by omega), s1 2 (by omega) (by omega)]
    unfold xT
    rw [xu_same]
    rfl
  have low0 : (w4 3).1 0 = 0 := (x1 0 (by omega) (by omega) (by omega)).trans v0
  have arr : ∀ a, a ≠ 1 → (w4 3).2 a = (w 3).2 a := fun a h => by rw [x2, v2, u2 a h]
  have arr1 : (w4 3).2 1 = A.2 := by rw [x2, v2, u21]
  have head : xm_C sc xt_M (d + 8) 287 [.ref 191, .int (nI n)] (xem w l t) = (if A.1.2.2.2.1 = 0 then (xm_gR (xem w4 l t) 191 8 1).bind fun n17 => (xm_gR (xem w4 l t) 191 8 0).bind fun n18 => (xm_C sc xt_M (d + 7) 258 [.ref n17, .int 0, .ref n18, .int 0] (xem w4 l t)).bind fun o20 => xm_r0 o20 (fun S19 => (xm_sF S19 191 8 6 (.int 0)).bind fun S21 => (xm_sF S21 191 8 8 (.int 0)).bind fun S22 => (xm_gR S22 191 8 0).bind fun n23 => (xm_aI S22 n23 0 2).bind fun n24 => some (.inl (some (.int n24)), S22)) (fun e S => some (.inr e, S)) else (xm_gI (xem w4 l t) 191 8 20).bind fun n25 => some (.inl (some (.int ((-10) - n25))), xem w4 l t)) := by
    rw [yc_287, xsM_7, zbs, eT, xgM_15, zbs, xTl_1 (by omega), hc, rd_160, zbs, xk_I, zB_tt hx, if_neg (show ¬ (1 : Int32) = 0 by decide), if_pos xiM, c270, zbs, xk_v, xgM_1, zbs, xsM_5 (by omega), zbs, p0, if_pos xiM, c286, zbs, xk_v, xgM_0, zbs, xsM_5 (by omega), zbs, p1, if_pos xiM, c271, zbs, xk_I]
  rw [head]
  by_cases h : A.1.2.2.2.1 = 0
  · rw [if_pos h, if_pos h, xgM_1, zbs, xgM_0, zbs, zc_258_0 (by omega) (by omega) (by omega), zbs, xk_v, xsM_6, zbs, xsM_8, zbs, xgM_0, zbs, xaM_0]
    have ea : ∀ i, i < 296 → (xcp w4 1 0 0 0 296 3).2 0 i = A.2 i := fun i hi => by
      rw [xcp_b, if_pos (by omega), arr1, show 296 * 0 + (i - 296 * 0) = i by omega]
    have e1 : ∀ s : xG, ((xs1 (xs1 s 1 0) 3 0)).2 = s.2 := fun _ => rfl
    refine ⟨xu (xu (xcp w4 1 0 0 0 296) 3 (xs1 (xcp w4 1 0 0 0 296 3) 1 0)) 3 (xs1 (xu (xcp w4 1 0 0 0 296) 3 (xs1 (xcp w4 1 0 0 0 296 3) 1 0) 3) 3 0), ?_, ?_⟩
    · rw [show (2 : Int32) = nI 2 from rfl, if_pos (xin (show 2 < 296 by omega) (by decide)), nI_clamp (by omega), zbs, xu_same]
      show some (Sum.inl (some (Value.int ((xu (xcp w4 1 0 0 0 296) 3 (xs1 (xcp w4 1 0 0 0 296 3) 1 0) 3).2 0 2))), _) = _
      rw [xu_same]
      show some (Sum.inl (some (Value.int ((xcp w4 1 0 0 0 296 3).2 0 2))), _) = _
      rw [ea 2 (by omega)]
    · have g1 : ∀ i, i ≠ 1 → i ≠ 3 → (xu (xu (xcp w4 1 0 0 0 296) 3 (xs1 (xcp w4 1 0 0 0 296 3) 1 0)) 3 (xs1 (xu (xcp w4 1 0 0 0 296) 3 (xs1 (xcp w4 1 0 0 0 296 3) 1 0) 3) 3 0) 3).1 i = (w4 3).1 i := fun i h1 h3 => by
        rw [xu_same, xs1_ne h3, xu_same, xs1_ne h1, xcp_1]
      have g2 : (xu (xu (xcp w4 1 0 0 0 296) 3 (xs1 (xcp w4 1 0 0 0 296 3) 1 0)) 3 (xs1 (xu (xcp w4 1 0 0 0 296) 3 (xs1 (xcp w4 1 0 0 0 296 3) 1 0) 3) 3 0) 3).2 = (xcp w4 1 0 0 0 296 3).2 := by
        rw [xu_same, xu_same]
        rfl
      refine ⟨fun g hg => ?_, fun i hi => ?_, ?_, ?_, ?_, ?_, fun a h0 h1 => ?_, fun _ => ⟨?_, ?_, fun i hi => ?_⟩, fun z => absurd h z⟩
      · rw [xu_ne hg, xu_ne hg, xcp_ne hg, xg g hg]
      · rw [g1 i (by omega) (by omega)]
        exact low i (by omega) (by omega) (by omega) (by omega) (by omega) (by omega) (by omega)
      · rw [g1 0 (by omega) (by omega)]; exact low0
      · rw [g1 2 (by omega) (by omega)]; exact low2
      · rw [g1 6 (by omega) (by omega)]; exact x6
      · rw [g1 13 (by omega) (by omega)]; exact x13
      · rw [g2, xcp_2 h0]; exact arr a h1
      · rw [xu_same, xs1_ne (by omega), xu_same]; exact xs1_same
      · rw [xu_same]; exact xs1_same
      · rw [g2]; exact ea i hi
  · rw [if_neg h, if_neg h, xgM_20, zbs, x11]
    exact ⟨w4, rfl, xg, fun i hi => low i (by omega) (by omega) (by omega) (by omega) (by omega) (by omega) (by omega), low0, low2, x6, x13, fun a _ h1 => arr a h1, fun z => absurd z h, fun _ => ⟨low 1 (by omega) (by omega) (by omega) (by omega) (by omega) (by omega) (by omega), low 3 (by omega) (by omega) (by omega) (by omega) (by omega) (by omega) (by omega), arr 0 (by omega)⟩⟩
end LD
