/-! THE REFERENCE: reading numbers, starting and ending a text -/
def sp_rn1 (T : xTk) : xTk := sp_check T (if T.2.2.2.1 = 0 ∧ ¬ T.2.2.1 = 2 then 0 else 1) 1
def sp_rn2 (f : Nat → Int32) (T : xTk) (lo hi : Int32) : xTk := sp_check (sp_rn1 T) (if (sp_rn1 T).2.2.2.1 = 0 ∧ ¬ (lo ≤ sp_val f (sp_rn1 T) ∧ sp_val f (sp_rn1 T) ≤ hi) then 0 else 1) 2
/-- what reading a number leaves, and what it tells -/
def sp_rnT (f : Nat → Int32) (n : Nat) (T : xTk) (lo hi : Int32) : xTk := sp_adv f n (sp_rn2 f T lo hi)
def sp_rnV (f : Nat → Int32) (n : Nat) (T : xTk) (lo hi : Int32) : Int32 := if (sp_rnT f n T lo hi).2.2.2.1 = 0 then sp_val f (sp_rn1 T) else lo
section RN
variable {w : xW} {l : Nat → Nat → Int64} {t : Nat} {sc : xm_Sc} {d n : Nat} {T : xTk}
theorem zc_275t {c : Int32} (h8 : n ≤ 800) (hT : sp_tw ((w 3).2 8) n T) : xm_C sc xt_M (d + 1) 275 [.ref 191, .int c] (xem (xPw w T) l t) = some (.inl (some (.int (zB (sp_sym ((w 3).2 8) T c)))), xem (xPw w T) l t) := by
  obtain ⟨hp, s, hs, hsp, _, h3⟩ := hT
  by_cases h : T.2.2.1 = 3
  · exact zc_275 (by rw [hs]; exact xil_nI (by have := h3 h; omega) (by omega))
  · rw [zB_ff (c := sp_sym ((w 3).2 8) T c) (fun z => h z.2.1), yc_275, xgPb, zbs]
    by_cases h1 : T.2.2.2.1 = 0
    · rw [if_pos h1, xgPa, zbs, if_neg h, yb_275_32]
    · rw [if_neg h1, yb_275_32]
theorem zc_279t {c : Int32} (hn : (w 3).1 7 = nI n) (h8 : n ≤ 800) (hT : sp_tw ((w 3).2 8) n T) : xm_C sc xt_M (d + 5) 279 [.ref 191, .int c] (xem (xPw w T) l t) = some (.inl none, xem (xPw w (sp_exp2 ((w 3).2 8) n T c)) l t) := by
  have c1 := @zc_275t w l t sc (d + 3) n T c h8 hT
  have c2 := @zc_273 w l t sc (d + 2) T (zB (sp_sym ((w 3).2 8) T c)) 1
  have c3 := @zc_274 w l t sc d n (sp_check T (zB (sp_sym ((w 3).2 8) T c)) 1) hn h8 (sp_tw_check hT).1
  rw [yc_279, if_pos xiM, c1, zbs, xk_I, if_pos xiM, c2, zbs, xk_v, if_pos xiM, c3, zbs, xk_v]
  rfl
theorem z281_52 {b lo hi v : Int32} (hn : (w 3).1 7 = nI n) (h8 : n ≤ 800) (hT : sp_tw ((w 3).2 8) n T) : xm_R sc xt_M (d + 4) 281 52 [.ref 191, .int lo, .int hi, .int v] [.int b, .ref 191] (xem (xPw w T) l t) = some (.inl (some (.int (if (sp_adv ((w 3).2 8) n (sp_check T b 2)).2.2.2.1 = 0 then v else lo))), xem (xPw w (sp_adv ((w 3).2 8) n (sp_check T b 2))) l t) := by
  have c2 := @zc_273 w l t sc (d + 2) T b 2
  have c3 := @zc_274 w l t sc d n (sp_check T b 2) hn h8 (sp_tw_check hT).1
  generalize sp_adv ((w 3).2 8) n (sp_check T b 2) = T2 at *
  rw [yb_281_52, if_pos xiM, c2, zbs, xk_v, if_pos xiM, c3, zbs, xk_v, xgPb, zbs]
  by_cases h : T2.2.2.2.1 = 0
  · rw [if_pos h, if_pos h, yb_281_72]
  · rw [if_neg h, if_neg h, yb_281_72]
theorem rd_160 {v lo hi : Int32} {S : xm_PS} : xm_C sc xt_M (d + 1) 160 [.int v, .int lo, .int hi] S = some (.inl (some (.int (zB (lo ≤ v ∧ v ≤ hi)))), S) := by
  rw [yc_160]
  by_cases h1 : v < lo
  · rw [if_pos h1, yb_160_14, zB_ff (c := lo ≤ v ∧ v ≤ hi) (fun z => absurd h1 (Int32.not_lt.mpr z.1))]
  · rw [if_neg h1]
    by_cases h2 : hi < v
    · rw [if_pos h2, yb_160_14, zB_ff (c := lo ≤ v ∧ v ≤ hi) (fun z => absurd h2 (Int32.not_lt.mpr z.2))]
    · rw [if_neg h2, zB_tt (c := lo ≤ v ∧ v ≤ hi) ⟨Int32.not_lt.mp h1, Int32.not_lt.mp h2⟩]
theorem z281_21 {b lo hi : Int32} {v3 : Value} (hn : (w 3).1 7 = nI n) (h8 : n ≤ 800) (hT : sp_tw ((w 3).2 8) n T) : xm_R sc xt_M (d + 4) 281 21 [.ref 191, .int lo, .int hi, v3] [.int b, .ref 191] (xem (xPw w T) l t) = xm_R sc xt_M (d + 4) 281 52 [.ref 191, .int lo, .int hi, .int (sp_val ((w 3).2 8) (sp_check T b 1))] [.int (if (sp_check T b 1).2.2.2.1 = 0 ∧ ¬ (lo ≤ sp_val ((w 3).2 8) (sp_check T b 1) ∧ sp_val ((w 3).2 8) (sp_check T b 1) ≤ hi) then 0 else 1), .ref 191] (xem (xPw w (sp_check T b 1)) l t) := by
  have c2 := @zc_273 w l t sc (d + 2) T b 1
  have hT1 : sp_tw ((w 3).2 8) n (sp_check T b 1) := sp_tw_check hT
  generalize sp_check T b 1 = T1 at *
  have c3 := @zc_280 w l t sc (d + 3) n T1 h8 hT1
  generalize sp_val ((w 3).2 8) T1 = v at *
  have c4 := @rd_160 sc (d + 3) v lo hi (xem (xPw w T1) l t)
  rw [yb_281_21, if_pos xiM, c2, zbs, xk_v, if_pos xiM, c3, zbs, xk_I, xgPb, zbs]
  by_cases h : T1.2.2.2.1 = 0
  · rw [if_pos h, c4, zbs, xk_I]
    by_cases h2 : lo ≤ v ∧ v ≤ hi
    · rw [zB_tt h2, if_neg (show ¬ (1 : Int32) = 0 by decide), yb_281_47, if_neg (c := T1.2.2.2.1 = 0 ∧ ¬ (lo ≤ v ∧ v ≤ hi)) (fun z => z.2 h2)]
    · rw [zB_ff h2, if_pos rfl, if_pos (c := T1.2.2.2.1 = 0 ∧ ¬ (lo ≤ v ∧ v ≤ hi)) ⟨h, h2⟩]
  · rw [if_neg h, yb_281_47, if_neg (c := T1.2.2.2.1 = 0 ∧ ¬ (lo ≤ v ∧ v ≤ hi)) (fun z => h z.1)]
theorem zc_281 {lo hi : Int32} (hn : (w 3).1 7 = nI n) (h8 : n ≤ 800) (hT : sp_tw ((w 3).2 8) n T) : xm_C sc xt_M (d + 5) 281 [.ref 191, .int lo, .int hi] (xem (xPw w T) l t) = some (.inl (some (.int (sp_rnV ((w 3).2 8) n T lo hi))), xem (xPw w (sp_rnT ((w 3).2 8) n T lo hi)) l t) := by
  have g : ∀ (b : Int32) (v3 : Value), b = (if T.2.2.2.1 = 0 ∧ ¬ T.2.2.1 = 2 then 0 else 1) → xm_R sc xt_M (d + 4) 281 21 [.ref 191, .int lo, .int hi, v3] [.int b, .ref 191] (xem (xPw w T) l t) = some (.inl (some (.int (sp_rnV ((w 3).2 8) n T lo hi))), xem (xPw w (sp_rnT ((w 3).2 8) n T lo hi)) l t) := by
    intro b v3 hb
    rw [z281_21 hn h8 hT, z281_52 hn h8 (sp_tw_check hT)]
    unfold sp_rnV sp_rnT sp_rn2 sp_rn1
    rw [hb]
  rw [yc_281, xgPb, zbs]
  by_cases h : T.2.2.2.1 = 0
  · rw [if_pos h, xgPa, zbs]
    by_cases h2 : T.2.2.1 = 2
    · rw [if_pos h2, yb_281_16]
      exact g 1 _ (if_neg (fun z => z.2 h2)).symm
    · rw [if_neg h2]
      exact g 0 _ (if_pos ⟨h, h2⟩).symm
  · rw [if_neg h, yb_281_16]
    exact g 1 _ (if_neg (fun z => h z.1)).symm
theorem sp_tw_rn {f : Nat → Int32} {lo hi : Int32} (h : sp_tw f n T) : sp_tw f n (sp_rnT f n T lo hi) := sp_tw_adv (sp_tw_check (sp_tw_check h))
/-- where a text starts -/
def xSw (w : xW) (n : Nat) : xW := xu w 3 (xs1 (xs1 (w 3) 7 (nI n)) 14 0)
theorem zc_270 (h8 : n ≤ 800) : xm_C sc xt_M (d + 4) 270 [.ref 191, .int (nI n)] (xem w l t) = some (.inl none, xem (xPw (xSw w n) (sp_scan ((w 3).2 8) n (0, (w 3).1 9, (w 3).1 10, 0, (w 3).1 12))) l t) := by
  have hn : (xSw w n 3).1 7 = nI n := by
    unfold xSw
    rw [xu_same]
    rfl
  have h2 : (xSw w n 3).2 = (w 3).2 := by
    unfold xSw
    rw [xu_same]
    rfl
  have c := @zc_269 (xSw w n) l t sc d n (0, (w 3).1 9, (w 3).1 10, 0, (w 3).1 12) hn h8 (Nat.zero_le _)
  rw [h2] at c
  have e : xu w 3 (xs1 (xs1 (xs1 (xs1 (w 3) 7 (nI n)) 8 0) 11 0) 14 0) = xPw (xSw w n) (0, (w 3).1 9, (w 3).1 10, 0, (w 3).1 12) := by
    unfold xPw xSw
    rw [xu_xu, xu_same]
    congr 1
    refine Prod.ext (funext fun i => ?_) rfl
    show (if i = 14 then (0 : Int32) else if i = 11 then 0 else if i = 8 then 0 else if i = 7 then nI n else (w 3).1 i) = (if i = 8 then nI 0 else if i = 9 then (w 3).1 9 else if i = 10 then (w 3).1 10 else if i = 11 then 0 else if i = 12 then (w 3).1 12 else if i = 14 then 0 else if i = 7 then nI n else (w 3).1 i)
    by_cases h14 : i = 14
    · subst h14; rfl
    rw [if_neg h14]
    by_cases h11 : i = 11
    · subst h11; rfl
    rw [if_neg h11]
    by_cases h8 : i = 8
    · subst h8; rfl
    rw [if_neg h8, if_neg h8]
    by_cases h9 : i = 9
    · subst h9; rfl
    rw [if_neg h9]
    by_cases h10 : i = 10
    · subst h10; rfl
    rw [if_neg h10, if_neg h11]
    by_cases h12 : i = 12
    · subst h12; rfl
    rw [if_neg h12, if_neg h14]
  rw [yc_270, xsM_16, zbs, xsM_17, zbs, xu_xu, xu_same, xsM_20, zbs, xu_xu, xu_same, xsM_23, zbs, xu_xu, xu_same, if_pos xiM, e, c, zbs, xk_v]
/-- where a text ends: nothing is left to load, the error's place -/
def xEw (w : xW) (T : xTk) : xW := xu (xPw w T) 3 (xs1 (xs1 (xPw w T 3) 6 0) 13 (if T.2.2.2.1 = 0 then -1 else T.2.2.2.2))
theorem zc_271 : xm_C sc xt_M (d + 1) 271 [.ref 191] (xem (xPw w T) l t) = some (.inl (some (.int T.2.2.2.1)), xem (xEw w T) l t) := by
  unfold xEw
  rw [yc_271, xsM_15, zbs, xgM_20, zbs, xu_same, xs1_ne (by omega), xPw_b]
  by_cases h : T.2.2.2.1 = 0
  · rw [if_pos h, if_pos h, xsM_22, zbs, xu_xu, xu_same, xgM_20, zbs, xu_same, xs1_ne (by omega), xs1_ne (by omega), xPw_b]
  · rw [if_neg h, if_neg h, xgM_21, zbs, xu_same, xs1_ne (by omega), xPw_c, xsM_22, zbs, xu_xu, xu_same, xgM_20, zbs, xu_same, xs1_ne (by omega), xs1_ne (by omega), xPw_b]
end RN
