/-! THE REFERENCE: a query is compiled -/
def ap (a : Nat → Int32) (c : Nat) (cs : List Int32) : Nat → Int32 := fun i => if c ≤ i ∧ i < c + cs.length then cs.getD (i - c) 0 else a i
theorem ap_0 {a : Nat → Int32} {c : Nat} : ap a c [] = a := by
  funext i
  exact if_neg (fun z => by have := z.2; rw [List.length_nil] at this; omega)
theorem ap_2 {a : Nat → Int32} {c : Nat} {cs ds : List Int32} : ap (ap a c cs) (c + cs.length) ds = ap a c (cs ++ ds) := by
  funext i
  unfold ap
  rw [List.length_append]
  by_cases h1 : c + cs.length ≤ i ∧ i < c + cs.length + ds.length
  · rw [if_pos h1, if_pos (by omega)]
    rw [List.getD_eq_getElem?_getD, List.getD_eq_getElem?_getD, List.getElem?_append_right (by omega), show i - c - cs.length = i - (c + cs.length) by omega]
  · rw [if_neg h1]
    by_cases h2 : c ≤ i ∧ i < c + cs.length
    · rw [if_pos h2, if_pos (by omega), List.getD_eq_getElem?_getD, List.getD_eq_getElem?_getD, List.getElem?_append_left (by omega)]
    · rw [if_neg h2, if_neg (by omega)]
theorem ap_1 {a : Nat → Int32} {c : Nat} {x : Int32} : upd a c x = ap a c [x] := by
  funext i
  show (if i = c then x else a i) = if c ≤ i ∧ i < c + 1 then [x].getD (i - c) 0 else a i
  by_cases h : i = c
  · subst h
    rw [if_pos rfl, if_pos (by omega), Nat.sub_self]
    rfl
  · rw [if_neg h, if_neg (by omega)]
def qE (T : xTk) (x : Int32) : List Int32 := if T.2.2.2.1 = 0 then [x] else []
def xQg (s : xG) (m c : Nat) (a : Nat → Int32) : xG := (fun i => if i = 14 then nI m else if i = 15 then nI c else s.1 i, fun b => if b = 10 then a else s.2 b)
def xQw (w : xW) (m c : Nat) (a : Nat → Int32) : xW := xu w 3 (xQg (w 3) m c a)
section QW
variable {w : xW} {l : Nat → Nat → Int64} {t : Nat} {sc : xm_Sc} {d n m c : Nat} {a : Nat → Int32} {T : xTk}
theorem xQw_1 {i : Nat} (h4 : i ≠ 14) (h5 : i ≠ 15) : (xQw w m c a 3).1 i = (w 3).1 i := by
  unfold xQw
  rw [xu_same]
  show (if i = 14 then _ else if i = 15 then _ else (w 3).1 i) = _
  rw [if_neg h4, if_neg h5]
theorem xQw_14 : (xQw w m c a 3).1 14 = nI m := by
  unfold xQw
  rw [xu_same]
  rfl
theorem xQw_15 : (xQw w m c a 3).1 15 = nI c := by
  unfold xQw
  rw [xu_same]
  rfl
theorem xQw_2 {b : Nat} (h : b ≠ 10) : (xQw w m c a 3).2 b = (w 3).2 b := by
  unfold xQw
  rw [xu_same]
  exact if_neg h
theorem xQw_a : (xQw w m c a 3).2 10 = a := by
  unfold xQw
  rw [xu_same]
  rfl
theorem xQw_ne {g : Nat} (h : g ≠ 3) : xQw w m c a g = w g := xu_ne h
theorem xPw_s2 {W : xW} {b : Nat} {F : Nat → Int32} : xu (xPw W T) 3 (xs2 (xPw W T 3) b F) = xPw (xu W 3 (xs2 (W 3) b F)) T := by
  unfold xPw
  rw [xu_xu, xu_same, xu_same, xu_xu]
  rfl
theorem xPw_s1 {W : xW} {i : Nat} {x : Int32} (h : i < 8 ∨ 12 < i) : xu (xPw W T) 3 (xs1 (xPw W T 3) i x) = xPw (xu W 3 (xs1 (W 3) i x)) T := by
  unfold xPw
  rw [xu_xu, xu_same, xu_same, xu_xu]
  congr 1
  refine Prod.ext (funext fun j => ?_) rfl
  show (if j = i then x else if j = 8 then nI T.1 else if j = 9 then T.2.1 else if j = 10 then T.2.2.1 else if j = 11 then T.2.2.2.1 else if j = 12 then T.2.2.2.2 else (W 3).1 j) = (if j = 8 then nI T.1 else if j = 9 then T.2.1 else if j = 10 then T.2.2.1 else if j = 11 then T.2.2.2.1 else if j = 12 then T.2.2.2.2 else if j = i then x else (W 3).1 j)
  by_cases g : j = i
  · rw [if_pos g, if_neg (by omega), if_neg (by omega), if_neg (by omega), if_neg (by omega), if_neg (by omega), if_pos g]
  · rw [if_neg g, if_neg (c := j = i) g]
theorem xQw_s14 {m' : Nat} : xu (xQw w m c a) 3 (xs1 (xQw w m c a 3) 14 (nI m')) = xQw w m' c a := by
  unfold xQw
  rw [xu_xu, xu_same]
  congr 1
  refine Prod.ext (funext fun j => ?_) rfl
  show (if j = 14 then nI m' else if j = 14 then nI m else if j = 15 then nI c else (w 3).1 j) = (if j = 14 then nI m' else if j = 15 then nI c else (w 3).1 j)
  by_cases g : j = 14
  · rw [if_pos g, if_pos g]
  · rw [if_neg g, if_neg g, if_neg g]
theorem xQw_s15 {c' : Nat} : xu (xQw w m c a) 3 (xs1 (xQw w m c a 3) 15 (nI c')) = xQw w m c' a := by
  unfold xQw
  rw [xu_xu, xu_same]
  congr 1
  refine Prod.ext (funext fun j => ?_) rfl
  show (if j = 15 then nI c' else if j = 14 then nI m else if j = 15 then nI c else (w 3).1 j) = (if j = 14 then nI m else if j = 15 then nI c' else (w 3).1 j)
  by_cases g : j = 15
  · rw [if_pos g, if_neg (by omega), if_pos g]
  · rw [if_neg g, if_neg (c := j = 15) g, if_neg (c := j = 15) g]
theorem xQw_s10 {a' : Nat → Int32} : xu (xQw w m c a) 3 (xs2 (xQw w m c a 3) 10 a') = xQw w m c a' := by
  unfold xQw
  rw [xu_xu, xu_same]
  congr 1
  refine Prod.ext rfl (funext fun j => ?_)
  show (if j = 10 then a' else if j = 10 then a else (w 3).2 j) = (if j = 10 then a' else (w 3).2 j)
  split <;> rfl
theorem zq_276 {k : Nat} (hk : k < 43) (h8 : n ≤ 800) (hT : sp_tw ((w 3).2 8) n T) : xm_C sc xt_M (d + 5) 276 [.ref 191, .retAddr k] (xem (xPw (xQw w m c a) T) l t) = some (.inl (some (.int (zB (sp_wrd ((w 3).2 8) T k)))), xem (xPw (xQw w m c a) T) l t) := by
  have h := @zc_276 (xQw w m c a) l t sc d n T k hk h8 (by rw [xQw_2 (by omega)]; exact hT)
  rw [xQw_2 (by omega)] at h
  exact h
theorem zq_274 (hn : (w 3).1 7 = nI n) (h8 : n ≤ 800) (hp : T.1 ≤ n) : xm_C sc xt_M (d + 4) 274 [.ref 191] (xem (xPw (xQw w m c a) T) l t) = some (.inl none, xem (xPw (xQw w m c a) (sp_adv ((w 3).2 8) n T)) l t) := by
  have h := @zc_274 (xQw w m c a) l t sc d n T (by rw [xQw_1 (by omega) (by omega)]; exact hn) h8 hp
  rw [xQw_2 (by omega)] at h
  exact h
theorem zq_275 {x : Int32} (h8 : n ≤ 800) (hT : sp_tw ((w 3).2 8) n T) : xm_C sc xt_M (d + 1) 275 [.ref 191, .int x] (xem (xPw (xQw w m c a) T) l t) = some (.inl (some (.int (zB (sp_sym ((w 3).2 8) T x)))), xem (xPw (xQw w m c a) T) l t) := by
  have h := @zc_275t (xQw w m c a) l t sc d n T x h8 (by rw [xQw_2 (by omega)]; exact hT)
  rw [xQw_2 (by omega)] at h
  exact h
theorem zq_277 {k : Nat} (hn : (w 3).1 7 = nI n) (hk : k < 43) (h8 : n ≤ 800) (hT : sp_tw ((w 3).2 8) n T) : xm_C sc xt_M (d + 6) 277 [.ref 191, .retAddr k] (xem (xPw (xQw w m c a) T) l t) = some (.inl (some (.int (zB (sp_wrd ((w 3).2 8) T k)))), xem (xPw (xQw w m c a) (sp_acc ((w 3).2 8) n T k)) l t) := by
  have h := @zc_277 (xQw w m c a) l t sc d n T k (by rw [xQw_1 (by omega) (by omega)]; exact hn) hk h8 (by rw [xQw_2 (by omega)]; exact hT)
  rw [xQw_2 (by omega)] at h
  exact h
theorem zq_279 {x : Int32} (hn : (w 3).1 7 = nI n) (h8 : n ≤ 800) (hT : sp_tw ((w 3).2 8) n T) : xm_C sc xt_M (d + 5) 279 [.ref 191, .int x] (xem (xPw (xQw w m c a) T) l t) = some (.inl none, xem (xPw (xQw w m c a) (sp_exp2 ((w 3).2 8) n T x)) l t) := by
  have h := @zc_279t (xQw w m c a) l t sc d n T x (by rw [xQw_1 (by omega) (by omega)]; exact hn) h8 (by rw [xQw_2 (by omega)]; exact hT)
  rw [xQw_2 (by omega)] at h
  exact h
theorem zq_281 {lo hi : Int32} (hn : (w 3).1 7 = nI n) (h8 : n ≤ 800) (hT : sp_tw ((w 3).2 8) n T) : xm_C sc xt_M (d + 5) 281 [.ref 191, .int lo, .int hi] (xem (xPw (xQw w m c a) T) l t) = some (.inl (some (.int (sp_rnV ((w 3).2 8) n T lo hi))), xem (xPw (xQw w m c a) (sp_rnT ((w 3).2 8) n T lo hi)) l t) := by
  have h := @zc_281 (xQw w m c a) l t sc d n T lo hi (by rw [xQw_1 (by omega) (by omega)]; exact hn) h8 (by rw [xQw_2 (by omega)]; exact hT)
  rw [xQw_2 (by omega)] at h
  exact h
theorem zq_290 {x : Int32} (hc : T.2.2.2.1 = 0 → c < 200) : xm_C sc xt_M (d + 1) 290 [.ref 191, .int x] (xem (xPw (xQw w m c a) T) l t) = some (.inl none, xem (xPw (xQw w m (c + (qE T x).length) (ap a c (qE T x))) T) l t) := by
  unfold qE
  rw [yc_290, xgPb, zbs]
  by_cases h : T.2.2.2.1 = 0
  · rw [if_pos h, if_pos h, xgM_25, zbs, xgM_27, zbs, xPw_1 (by omega), xQw_15, xwM_10, if_pos (xin (hc h) (by decide)), zbs, nI_clamp (by have := hc h; omega), xPw_s2, xgM_27, zbs, xPw_1 (by omega), xPw_2, xQw_a, xQw_s10, xQw_15, zS, xsM_27, zbs, xPw_s1 (by omega), xQw_s15, yb_290_27, ap_1]
    rfl
  · rw [if_neg h, if_neg h, yb_290_27, ap_0]
    rfl
theorem zq_291 (hn : (w 3).1 7 = nI n) (h8 : n ≤ 800) (hp : T.1 ≤ n) (hm : m < 6) : xm_C sc xt_M (d + 5) 291 [.ref 191] (xem (xPw (xQw w m c a) T) l t) = some (.inl none, xem (xPw (xQw w (m + 1) c a) (sp_adv ((w 3).2 8) n T)) l t) := by
  have c1 := @zc_273 (xQw w m c a) l t sc (d + 2) T 1 3
  rw [sp_check_1] at c1
  rw [yc_291, xgM_23, zbs, xPw_1 (by omega), xQw_14, if_neg (show ¬ (6 : Int32) ≤ nI m from nI_ge (a := m) (b := 6) hm (by omega)), if_pos xiM, c1, zbs, xk_v, xgM_23, zbs, xPw_1 (by omega), xQw_14, zS, xsM_23, zbs, xPw_s1 (by omega), xQw_s14, if_pos xiM, zq_274 hn h8 hp, zbs, xk_v]
theorem zq_291_6 (hn : (w 3).1 7 = nI n) (h8 : n ≤ 800) (hp : T.1 ≤ n) : xm_C sc xt_M (d + 5) 291 [.ref 191] (xem (xPw (xQw w 6 c a) T) l t) = some (.inl none, xem (xPw (xQw w 7 c a) (sp_flaw T 3)) l t) := by
  have c1 := @zc_273 (xQw w 6 c a) l t sc (d + 2) T 0 3
  rw [sp_check_0] at c1
  have hp3 : (sp_flaw T 3).1 ≤ n := by
    unfold sp_flaw
    split <;> exact hp
  have c2 := @zq_274 w l t sc d n 7 c a (sp_flaw T 3) hn h8 hp3
  rw [sp_adv_e (sp_flaw_err (by decide))] at c2
  rw [yc_291, xgM_23, zbs, xPw_1 (by omega), xQw_14, if_pos (show (6 : Int32) ≤ nI 6 by decide), if_pos xiM, c1, zbs, xk_v, xgM_23, zbs, xPw_1 (by omega), xQw_14, zS, xsM_23, zbs, xPw_s1 (by omega), xQw_s14, if_pos xiM, c2, zbs, xk_v]
theorem xq_len : xm_len (xem w l t) 201 = some (nI 7) := rfl
theorem xq_nm {i : Nat} (hi : i < 7) : xm_aQ (xem w l t) 201 5 (nI i) = some (27 + i) := by
  match i, hi with
  | 0, _ => rfl
  | 1, _ => rfl
  | 2, _ => rfl
  | 3, _ => rfl
  | 4, _ => rfl
  | 5, _ => rfl
  | 6, _ => rfl
  | _ + 7, h => omega
end QW
def q_nm (f : Nat → Int32) (T : xTk) : Nat := if sp_wrd f T 27 then 0 else if sp_wrd f T 28 then 1 else if sp_wrd f T 29 then 2 else if sp_wrd f T 30 then 3 else if sp_wrd f T 31 then 4 else if sp_wrd f T 32 then 5 else if sp_wrd f T 33 then 6 else 7
theorem q_nm_le {f : Nat → Int32} {T : xTk} : q_nm f T ≤ 7 := by
  unfold q_nm
  split
  · omega
  · split
    · omega
    · split
      · omega
      · split
        · omega
        · split
          · omega
          · split
            · omega
            · split <;> omega
noncomputable def q_vT_z (f : Nat → Int32) (n : Nat) (T : xTk) : xTk := if T.2.2.2.1 = 0 ∧ ¬ T.2.2.1 = 2 then sp_adv f n (sp_check T (if q_nm f T = 7 then 0 else 1) 1) else sp_rnT f n T 0 9999
noncomputable def q_vT : (Nat → Int32) → Nat → xTk → xTk := sq_op q_vT_z
theorem q_vT_u {f : Nat → Int32} {n : Nat} {T : xTk} : q_vT f n T = if T.2.2.2.1 = 0 ∧ ¬ T.2.2.1 = 2 then sp_adv f n (sp_check T (if q_nm f T = 7 then 0 else 1) 1) else sp_rnT f n T 0 9999 := congrFun (congrFun (congrFun (sq_op_eq (a := q_vT_z)) f) n) T
noncomputable def q_vC_z (f : Nat → Int32) (n : Nat) (T : xTk) : Int32 := if T.2.2.2.1 = 0 ∧ ¬ T.2.2.1 = 2 then (-1) - nI (q_nm f T) else sp_rnV f n T 0 9999
noncomputable def q_vC : (Nat → Int32) → Nat → xTk → Int32 := sq_op q_vC_z
theorem q_vC_u {f : Nat → Int32} {n : Nat} {T : xTk} : q_vC f n T = if T.2.2.2.1 = 0 ∧ ¬ T.2.2.1 = 2 then (-1) - nI (q_nm f T) else sp_rnV f n T 0 9999 := congrFun (congrFun (congrFun (sq_op_eq (a := q_vC_z)) f) n) T
section QV
variable {w : xW} {l : Nat → Nat → Int64} {t : Nat} {sc : xm_Sc} {d n m c : Nat} {a : Nat → Int32} {T : xTk}
theorem z292_30s {i : Nat} (hi : i < 7) (h8 : n ≤ 800) (hT : sp_tw ((w 3).2 8) n T) : xm_R sc xt_M (d + 5) 292 30 [.ref 191, .int (nI i)] [] (xem (xPw (xQw w m c a) T) l t) = if sp_wrd ((w 3).2 8) T (27 + i) then xm_R sc xt_M (d + 5) 292 58 [.ref 191, .int (nI i)] [] (xem (xPw (xQw w m c a) T) l t) else xm_R sc xt_M (d + 5) 292 30 [.ref 191, .int (nI (i + 1))] [] (xem (xPw (xQw w m c a) T) l t) := by
  rw [yb_292_30, xgM_24, zbs, xq_len, zbs, if_neg (nI_ge (a := i) (b := 7) hi (by omega)), xem_len, xgM_24, zbs, xq_nm hi, zbs, if_pos (show 27 + i < 43 by omega), if_pos xiM, zq_276 (by omega) h8 hT, zbs, xk_I]
  by_cases h : sp_wrd ((w 3).2 8) T (27 + i)
  · rw [zB_tt h, if_pos h, if_neg (show ¬ (1 : Int32) = 0 by decide)]
  · rw [zB_ff h, if_neg h, if_pos rfl, zS]
theorem z292_30 (h8 : n ≤ 800) (hT : sp_tw ((w 3).2 8) n T) : xm_R sc xt_M (d + 5) 292 30 [.ref 191, .int (nI 0)] [] (xem (xPw (xQw w m c a) T) l t) = xm_R sc xt_M (d + 5) 292 58 [.ref 191, .int (nI (q_nm ((w 3).2 8) T))] [] (xem (xPw (xQw w m c a) T) l t) := by
  unfold q_nm
  rw [z292_30s (i := 0) (by omega) h8 hT]
  by_cases h0 : sp_wrd ((w 3).2 8) T (27 + 0)
  · rw [if_pos h0, if_pos (show sp_wrd ((w 3).2 8) T 27 from h0)]
  · rw [if_neg h0, if_neg (show ¬ sp_wrd ((w 3).2 8) T 27 from h0)]
    rw [z292_30s (i := 1) (by omega) h8 hT]
    by_cases h1 : sp_wrd ((w 3).2 8) T (27 + 1)
    · rw [if_pos h1, if_pos (show sp_wrd ((w 3).2 8) T 28 from h1)]
    · rw [if_neg h1, if_neg (show ¬ sp_wrd ((w 3).2 8) T 28 from h1)]
      rw [z292_30s (i := 2) (by omega) h8 hT]
      by_cases h2 : sp_wrd ((w 3).2 8) T (27 + 2)
      · rw [if_pos h2, if_pos (show sp_wrd ((w 3).2 8) T 29 from h2)]
      · rw [if_neg h2, if_neg (show ¬ sp_wrd ((w 3).2 8) T 29 from h2)]
        rw [z292_30s (i := 3) (by omega) h8 hT]
        by_cases h3 : sp_wrd ((w 3).2 8) T (27 + 3)
        · rw [if_pos h3, if_pos (show sp_wrd ((w 3).2 8) T 30 from h3)]
        · rw [if_neg h3, if_neg (show ¬ sp_wrd ((w 3).2 8) T 30 from h3)]
          rw [z292_30s (i := 4) (by omega) h8 hT]
          by_cases h4 : sp_wrd ((w 3).2 8) T (27 + 4)
          · rw [if_pos h4, if_pos (show sp_wrd ((w 3).2 8) T 31 from h4)]
          · rw [if_neg h4, if_neg (show ¬ sp_wrd ((w 3).2 8) T 31 from h4)]
            rw [z292_30s (i := 5) (by omega) h8 hT]
            by_cases h5 : sp_wrd ((w 3).2 8) T (27 + 5)
            · rw [if_pos h5, if_pos (show sp_wrd ((w 3).2 8) T 32 from h5)]
            · rw [if_neg h5, if_neg (show ¬ sp_wrd ((w 3).2 8) T 32 from h5)]
              rw [z292_30s (i := 6) (by omega) h8 hT]
              by_cases h6 : sp_wrd ((w 3).2 8) T (27 + 6)
              · rw [if_pos h6, if_pos (show sp_wrd ((w 3).2 8) T 33 from h6)]
              · rw [if_neg h6, if_neg (show ¬ sp_wrd ((w 3).2 8) T 33 from h6)]
                rw [yb_292_30, xgM_24, zbs, xq_len, zbs, if_pos (show nI 7 ≤ nI (6 + 1) by decide), xem_len]
theorem z292_58 {i : Nat} (hi : i ≤ 7) (hn : (w 3).1 7 = nI n) (h8 : n ≤ 800) (hT : sp_tw ((w 3).2 8) n T) (hc : (sp_check T (if i = 7 then 0 else 1) 1).2.2.2.1 = 0 → c < 200) : xm_R sc xt_M (d + 5) 292 58 [.ref 191, .int (nI i)] [] (xem (xPw (xQw w m c a) T) l t) = some (.inl none, xem (xPw (xQw w m (c + (qE (sp_check T (if i = 7 then 0 else 1) 1) ((-1) - nI i)).length) (ap a c (qE (sp_check T (if i = 7 then 0 else 1) 1) ((-1) - nI i)))) (sp_adv ((w 3).2 8) n (sp_check T (if i = 7 then 0 else 1) 1))) l t) := by
  have c273 := fun b => @zc_273 (xQw w m c a) l t sc (d + 3) T b 1
  have hTc := fun b => @sp_tw_check ((w 3).2 8) n T b 1 hT
  rw [yb_292_58, xgM_24, zbs, xq_len, zbs]
  by_cases h : i = 7
  · rw [if_pos h] at hc ⊢
    rw [h, if_pos (show nI 7 ≤ nI 7 by decide), xem_len, if_pos xiM, c273, zbs, xk_v, if_pos xiM, zq_290 hc, zbs, xk_v, if_pos xiM, zq_274 hn h8 (hTc 0).1, zbs, xk_v]
  · rw [if_neg h] at hc ⊢
    rw [if_neg (nI_ge (a := i) (b := 7) (by omega) (by omega)), xem_len, if_pos xiM, c273, zbs, xk_v, if_pos xiM, zq_290 hc, zbs, xk_v, if_pos xiM, zq_274 hn h8 (hTc 1).1, zbs, xk_v]
theorem qE_err {T1 T2 : xTk} {x : Int32} (h : T1.2.2.2.1 = T2.2.2.2.1) : qE T1 x = qE T2 x := by
  unfold qE
  rw [h]
theorem zq_292 (hn : (w 3).1 7 = nI n) (h8 : n ≤ 800) (hT : sp_tw ((w 3).2 8) n T) (hc : (q_vT ((w 3).2 8) n T).2.2.2.1 = 0 → c < 200) : xm_C sc xt_M (d + 6) 292 [.ref 191] (xem (xPw (xQw w m c a) T) l t) = some (.inl none, xem (xPw (xQw w m (c + (qE (q_vT ((w 3).2 8) n T) (q_vC ((w 3).2 8) n T)).length) (ap a c (qE (q_vT ((w 3).2 8) n T) (q_vC ((w 3).2 8) n T)))) (q_vT ((w 3).2 8) n T)) l t) := by
  have fin : ∀ v1 : Value, ¬ (T.2.2.2.1 = 0 ∧ ¬ T.2.2.1 = 2) → xm_R sc xt_M (d + 5) 292 15 [.ref 191, v1] [] (xem (xPw (xQw w m c a) T) l t) = some (.inl none, xem (xPw (xQw w m (c + (qE (q_vT ((w 3).2 8) n T) (q_vC ((w 3).2 8) n T)).length) (ap a c (qE (q_vT ((w 3).2 8) n T) (q_vC ((w 3).2 8) n T)))) (q_vT ((w 3).2 8) n T)) l t) := by
    intro v1 hz
    have eT : q_vT ((w 3).2 8) n T = sp_rnT ((w 3).2 8) n T 0 9999 := q_vT_u.trans (if_neg hz)
    have eC : q_vC ((w 3).2 8) n T = sp_rnV ((w 3).2 8) n T 0 9999 := q_vC_u.trans (if_neg hz)
    rw [eT] at hc
    rw [eT, eC, yb_292_15, if_pos xiM, zq_281 hn h8 hT, zbs, xk_I, if_pos xiM, zq_290 hc, zbs, xk_v]
  rw [yc_292, xgPb, zbs]
  by_cases h : T.2.2.2.1 = 0
  · rw [if_pos h, xgPa, zbs]
    by_cases h2 : T.2.2.1 = 2
    · rw [if_pos h2]
      exact fin _ (fun z => z.2 h2)
    · have eT : q_vT ((w 3).2 8) n T = sp_adv ((w 3).2 8) n (sp_check T (if q_nm ((w 3).2 8) T = 7 then 0 else 1) 1) := q_vT_u.trans (if_pos ⟨h, h2⟩)
      have eC : q_vC ((w 3).2 8) n T = (-1) - nI (q_nm ((w 3).2 8) T) := q_vC_u.trans (if_pos ⟨h, h2⟩)
      have ee : (sp_adv ((w 3).2 8) n (sp_check T (if q_nm ((w 3).2 8) T = 7 then 0 else 1) 1)).2.2.2.1 = (sp_check T (if q_nm ((w 3).2 8) T = 7 then 0 else 1) 1).2.2.2.1 := congrArg Prod.fst sp_adv_err
      rw [eT] at hc
      rw [eT, eC, qE_err ee, if_neg h2, show (0 : Int32) = nI 0 from rfl, z292_30 h8 hT]
      exact z292_58 q_nm_le hn h8 hT (fun z => hc (ee.trans z))
  · rw [if_neg h]
    exact fin _ (fun z => h z.1)
end QV
