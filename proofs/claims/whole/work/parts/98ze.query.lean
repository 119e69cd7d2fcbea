/-! query: what it answers -/
noncomputable def q_Q1_z (f : Nat → Int32) (T : xTk) : xTk := sp_check T (zB (sp_wrd f T 38 ∨ sp_wrd f T 39)) 1
noncomputable def q_Q1 : (Nat → Int32) → xTk → xTk := sq_op q_Q1_z
theorem q_Q1_u {f : Nat → Int32} {T : xTk} : q_Q1 f T = sp_check T (zB (sp_wrd f T 38 ∨ sp_wrd f T 39)) 1 := congrFun (congrFun (sq_op_eq (a := q_Q1_z)) f) T
noncomputable def q_Q2_z (f : Nat → Int32) (n : Nat) (T : xTk) : xTk := sp_adv f n (q_Q1 f T)
noncomputable def q_Q2 : (Nat → Int32) → Nat → xTk → xTk := sq_op q_Q2_z
theorem q_Q2_u {f : Nat → Int32} {n : Nat} {T : xTk} : q_Q2 f n T = sp_adv f n (q_Q1 f T) := congrFun (congrFun (congrFun (sq_op_eq (a := q_Q2_z)) f) n) T
noncomputable def q_Q_z (f : Nat → Int32) (n : Nat) (pv : Int32 → Nat → Int32) (T : xTk) : xQy := q_ts f n (q_fac f n pv 6) (q_Q2 f n T)
noncomputable def q_Q : (Nat → Int32) → Nat → (Int32 → Nat → Int32) → xTk → xQy := sq_op q_Q_z
theorem q_Q_u {f : Nat → Int32} {n : Nat} {pv : Int32 → Nat → Int32} {T : xTk} : q_Q f n pv T = q_ts f n (q_fac f n pv 6) (q_Q2 f n T) := congrFun (congrFun (congrFun (congrFun (sq_op_eq (a := q_Q_z)) f) n) pv) T
noncomputable def q_QE_z (f : Nat → Int32) (n : Nat) (pv : Int32 → Nat → Int32) (T : xTk) : xTk := if (q_Q f n pv T).1.2.2.1 = 0 then (q_Q f n pv T).1 else sp_flaw (q_Q f n pv T).1 1
noncomputable def q_QE : (Nat → Int32) → Nat → (Int32 → Nat → Int32) → xTk → xTk := sq_op q_QE_z
theorem q_QE_u {f : Nat → Int32} {n : Nat} {pv : Int32 → Nat → Int32} {T : xTk} : q_QE f n pv T = if (q_Q f n pv T).1.2.2.1 = 0 then (q_Q f n pv T).1 else sp_flaw (q_Q f n pv T).1 1 := congrFun (congrFun (congrFun (congrFun (sq_op_eq (a := q_QE_z)) f) n) pv) T
noncomputable def q_an_z (f : Nat → Int32) (n : Nat) (r : Nat → Int32) (T : xTk) : Int32 := if (q_QE f n (q_pv r) T).2.2.2.1 = 0 then (if sp_wrd f T 38 then toJ (xfst (fun i => (q_Q f n (q_pv r) T).2.2 i = true) 0 (xnk r)) else xsum (fun i => zB ((q_Q f n (q_pv r) T).2.2 i = true)) (xnk r)) else (-1000000000) - (q_QE f n (q_pv r) T).2.2.2.1
noncomputable def q_an : (Nat → Int32) → Nat → (Nat → Int32) → xTk → Int32 := sq_op q_an_z
theorem q_an_u {f : Nat → Int32} {n : Nat} {r : Nat → Int32} {T : xTk} : q_an f n r T = if (q_QE f n (q_pv r) T).2.2.2.1 = 0 then (if sp_wrd f T 38 then toJ (xfst (fun i => (q_Q f n (q_pv r) T).2.2 i = true) 0 (xnk r)) else xsum (fun i => zB ((q_Q f n (q_pv r) T).2.2 i = true)) (xnk r)) else (-1000000000) - (q_QE f n (q_pv r) T).2.2.2.1 := congrFun (congrFun (congrFun (congrFun (sq_op_eq (a := q_an_z)) f) n) r) T
theorem xsum_cut {f : Nat → Int32} {a : Nat} : ∀ k, (∀ i, a ≤ i → i < a + k → f i = 0) → xsum f (a + k) = xsum f a := by
  intro k
  induction k with
  | zero => intro _; rfl
  | succ k ih =>
    intro h
    show xsum f (a + k) + f (a + k) = _
    rw [ih (fun i h1 h2 => h i h1 (by omega)), h (a + k) (by omega) (by omega), Int32.add_zero]
theorem xfst_nn {p : Nat → Prop} [DecidablePred p] : ∀ {m i : Nat}, (∀ j, i ≤ j → j < i + m → ¬ p j) → xfst p i m = none := by
  intro m
  induction m with
  | zero => intro i _; rfl
  | succ m ih =>
    intro i h
    rw [xfst_s, if_neg (h i (Nat.le_refl _) (by omega))]
    exact ih (fun j h1 h2 => h j (by omega) (by omega))
section QN
variable {f : Nat → Int32} {n : Nat} {T : xTk} {pv : Int32 → Nat → Int32} {r : Nat → Int32}
theorem q_QT (hn : n ≤ 800) (hT : sp_tw f n T) (hx : sp_tx T) : sp_tw f n (q_Q1 f T) ∧ sp_tx (q_Q1 f T) ∧ sp_tw f n (q_Q2 f n T) ∧ sp_tx (q_Q2 f n T) ∧ qG f n (q_Q2 f n T) (q_Q f n pv T) := by
  have h1 : sp_tw f n (q_Q1 f T) := by rw [q_Q1_u]; exact sp_tw_check hT
  have h2 : sp_tx (q_Q1 f T) := by rw [q_Q1_u]; exact sp_tx_check hx
  have h3 : sp_tw f n (q_Q2 f n T) := by rw [q_Q2_u]; exact sp_tw_adv h1
  have h4 : sp_tx (q_Q2 f n T) := by rw [q_Q2_u]; exact (sp_adv_x hn h1 h2).1
  refine ⟨h1, h2, h3, h4, ?_⟩
  rw [q_Q_u]
  exact q_ts_G hn (fun T a b => q_fac_G hn 6 T a b) h3 h4
theorem q_QE_ok (h : (q_QE f n pv T).2.2.2.1 = 0) : (q_Q f n pv T).1.2.2.2.1 = 0 ∧ (q_Q f n pv T).1.2.2.1 = 0 := by
  rw [q_QE_u] at h
  by_cases z : (q_Q f n pv T).1.2.2.1 = 0
  · rw [if_pos z] at h
    exact ⟨h, z⟩
  · rw [if_neg z] at h
    exact absurd h (sp_flaw_err (by decide))
theorem q_Q_S (hn : n ≤ 800) (hT : sp_tw f n T) (hx : sp_tx T) (h : (q_Q f n pv T).1.2.2.2.1 = 0) : qS pv (q_Q f n pv T) := by
  obtain ⟨h1, h2, h3, h4, _⟩ := @q_QT f n T pv hn hT hx
  rw [q_Q_u] at h ⊢
  exact q_ts_S hn (fun T a b => q_fac_G hn 6 T a b) (fun T a b c => q_fac_S hn 6 T a b c) h3 h4 h
end QN
theorem xQw_self {w : xW} {m c : Nat} {a : Nat → Int32} (h1 : (w 3).1 14 = nI m) (h2 : (w 3).1 15 = nI c) (h3 : (w 3).2 10 = a) : xQw w m c a = w := by
  unfold xQw
  have e : xQg (w 3) m c a = w 3 := by
    refine Prod.ext (funext fun i => ?_) (funext fun b => ?_)
    · show (if i = 14 then nI m else if i = 15 then nI c else (w 3).1 i) = (w 3).1 i
      by_cases g : i = 14
      · subst g; rw [if_pos rfl, h1]
      · rw [if_neg g]
        by_cases g' : i = 15
        · subst g'; rw [if_pos rfl, h2]
        · rw [if_neg g']
    · show (if b = 10 then a else (w 3).2 b) = (w 3).2 b
      by_cases g : b = 10
      · subst g; rw [if_pos rfl, h3]
      · rw [if_neg g]
  rw [e, xu_self]
/-- what a query leaves in the reference -/
def xQd (w w' : xW) (E : xTk) : Prop := (∀ g, g ≠ 3 → w' g = w g) ∧ (∀ i, i = 0 ∨ i = 1 ∨ i = 3 ∨ i = 4 ∨ i = 5 → (w' 3).1 i = (w 3).1 i) ∧ (w' 3).1 2 = 0 ∧ (w' 3).1 6 = 0 ∧ (w' 3).1 13 = (if E.2.2.2.1 = 0 then -1 else E.2.2.2.2) ∧ ∀ a, a ≠ 10 → (w' 3).2 a = (w 3).2 a
section RQ
variable {w : xW} {l : Nat → Nat → Int64} {t : Nat} {sc : xm_Sc} {d n : Nat} {T : xTk}
theorem z298_n (hW : xWF (xR w)) (h0 : (w 3).1 0 = 0) : xm_aI (xem w l t) (xm 0) 0 2 = some (nI (xnk (xR w))) := by
  have e : xR w = (w 3).2 0 := by
    unfold xR xri
    rw [if_pos h0]
  rw [xaM_0, show (2 : Int32) = nI 2 from rfl, if_pos (xin (show 2 < 296 by omega) (by decide)), nI_clamp (by omega), ← e, hW.bd.k]
theorem z298_c {q : xQy} {x : Int32} (hW : xWF (xR w)) (h0 : (w 3).1 0 = 0) (hC : (w 3).1 15 = nI q.2.1.length) (hC2 : q.2.1.length ≤ 200) (ha : ∀ j, j < q.2.1.length → (w 3).2 10 j = q.2.1.getD j 0) (hS : qS (q_pv (xR w)) q) : ∀ k b (l : Nat → Nat → Int64), b + k = xnk (xR w) → ∃ l', xm_R sc xt_M (d + 5) 298 124 [.ref 191, .int x, .int 0, .int (xsum (fun i => zB (q.2.2 i = true)) b), .int (nI b)] [] (xem w l t) = some (.inl (some (.int (xsum (fun i => zB (q.2.2 i = true)) (xnk (xR w))))), xem w l' t) ∧ l' 0 = l 0 := by
  have hk20 := hW.bd.k20
  intro k
  induction k with
  | zero =>
    intro b l hb
    refine ⟨l, ?_, rfl⟩
    rw [yb_298_124, xgM_0, zbs, z298_n hW h0, zbs, if_pos (nI_le (by omega) (by omega)), if_pos rfl, yb_298_172, show b = xnk (xR w) by omega]
  | succ k ih =>
    intro b l hb
    obtain ⟨l1, e1, f1⟩ := @zc_297 w l t sc d b q hW (by omega) hC hC2 ha hS
    obtain ⟨l2, e2, f2⟩ := ih (b + 1) l1 (by omega)
    refine ⟨l2, ?_, f2.trans f1⟩
    rw [yb_298_124, xgM_0, zbs, z298_n hW h0, zbs, if_neg (nI_ge (a := b) (b := xnk (xR w)) (by omega) (by omega)), if_pos xiM, e1, zbs, xk_I]
    have es : xsum (fun i => zB (q.2.2 i = true)) (b + 1) = xsum (fun i => zB (q.2.2 i = true)) b + zB (q.2.2 b = true) := rfl
    by_cases hm : q.2.2 b = true
    · rw [zB_tt hm] at es ⊢
      rw [if_neg (show ¬ (1 : Int32) = 0 by decide), if_pos rfl, yb_298_157, zS, ← es]
      exact e2
    · rw [zB_ff hm] at es ⊢
      rw [Int32.add_zero] at es
      rw [if_pos rfl, yb_298_157, zS, ← es]
      exact e2
theorem z298_f {q : xQy} {x : Int32} (hW : xWF (xR w)) (h0 : (w 3).1 0 = 0) (hC : (w 3).1 15 = nI q.2.1.length) (hC2 : q.2.1.length ≤ 200) (ha : ∀ j, j < q.2.1.length → (w 3).2 10 j = q.2.1.getD j 0) (hS : qS (q_pv (xR w)) q) : ∀ k b (l : Nat → Nat → Int64), b + k = xnk (xR w) → ∃ l', xm_R sc xt_M (d + 5) 298 124 [.ref 191, .int x, .int 1, .int 0, .int (nI b)] [] (xem w l t) = some (.inl (some (.int (toJ (xfst (fun i => q.2.2 i = true) b k)))), xem w l' t) ∧ l' 0 = l 0 := by
  have hk20 := hW.bd.k20
  intro k
  induction k with
  | zero =>
    intro b l hb
    refine ⟨l, ?_, rfl⟩
    rw [yb_298_124, xgM_0, zbs, z298_n hW h0, zbs, if_pos (nI_le (by omega) (by omega)), if_neg (show ¬ (1 : Int32) = 0 by decide), yb_298_172]
    rfl
  | succ k ih =>
    intro b l hb
    obtain ⟨l1, e1, f1⟩ := @zc_297 w l t sc d b q hW (by omega) hC hC2 ha hS
    obtain ⟨l2, e2, f2⟩ := ih (b + 1) l1 (by omega)
    rw [yb_298_124, xgM_0, zbs, z298_n hW h0, zbs, if_neg (nI_ge (a := b) (b := xnk (xR w)) (by omega) (by omega)), if_pos xiM, e1, zbs, xk_I, xfst_s]
    by_cases hm : q.2.2 b = true
    · rw [zB_tt hm, if_neg (show ¬ (1 : Int32) = 0 by decide), if_neg (show ¬ (1 : Int32) = 0 by decide), if_pos hm]
      exact ⟨l1, rfl, f1⟩
    · rw [zB_ff hm, if_pos rfl, yb_298_157, zS, if_neg hm]
      exact ⟨l2, e2, f2.trans f1⟩
theorem zc_298_x {c : Nat} {x : Int32} (hc : (w 3).1 6 = nI c) (hx : ¬ (0 ≤ x ∧ x ≤ (if (200 : Int32) < nI c then 200 else nI c))) : xm_C sc xt_M (d + 28) 298 [.ref 191, .int x] (xem w l t) = some (.inl (some (.int 0)), xem (xT w 1) l t) := by
  have eT : xu w 3 (xs1 (w 3) 2 0) = xT w 0 := rfl
  rw [yc_298, xsM_7, zbs, eT, xgM_15, zbs, xTl_1 (by omega), hc, rd_160, zbs, xk_I, zB_ff hx, if_pos rfl, if_pos xiM, zc_159, zbs, xk_I, xT_TT]
theorem zc_298 {c : Nat} (hW : xWF (xR w)) (h0 : (w 3).1 0 = 0) (hc : (w 3).1 6 = nI c) (hn : n ≤ c) (hc8 : c ≤ 800) (h2 : n ≤ 200) : ∃ w' l', xm_C sc xt_M (d + 28) 298 [.ref 191, .int (nI n)] (xem w l t) = some (.inl (some (.int (q_an ((w 3).2 8) n (xR w) (sp_scan ((w 3).2 8) n (0, (w 3).1 9, (w 3).1 10, 0, (w 3).1 12))))), xem w' l' t) ∧ xQd w w' (q_QE ((w 3).2 8) n (q_pv (xR w)) (sp_scan ((w 3).2 8) n (0, (w 3).1 9, (w 3).1 10, 0, (w 3).1 12))) ∧ l' 0 = l 0 := by
  have eT : xu w 3 (xs1 (w 3) 2 0) = xT w 0 := rfl
  have hx : 0 ≤ nI n ∧ nI n ≤ (if (200 : Int32) < nI c then 200 else nI c) := by
    refine ⟨nI_pos' (by omega), ?_⟩
    split
    · exact (show nI n ≤ nI 200 from nI_le h2 (by omega))
    · exact nI_le hn (by omega)
  have c270 := @zc_270 (xu (xT w 0) 3 (xs1 (xT w 0 3) 15 0)) l t sc (d + 23) n (by omega)
  have t1 : ∀ i, i ≠ 2 → i ≠ 15 → (xu (xT w 0) 3 (xs1 (xT w 0 3) 15 0) 3).1 i = (w 3).1 i := fun i h h' => by rw [xu_same, xs1_ne h', xTl_1 h]
  have t2 : (xu (xT w 0) 3 (xs1 (xT w 0 3) 15 0) 3).2 = (w 3).2 := by
    rw [xu_same]
    exact xTl_2 (x := 0)
  have t15 : (xu (xT w 0) 3 (xs1 (xT w 0 3) 15 0) 3).1 15 = 0 := by rw [xu_same]; exact xs1_same
  have tt2 : (xu (xT w 0) 3 (xs1 (xT w 0 3) 15 0) 3).1 2 = 0 := by
    rw [xu_same, xs1_ne (by omega)]
    unfold xT
    rw [xu_same]
    rfl
  have tg : ∀ g, g ≠ 3 → xu (xT w 0) 3 (xs1 (xT w 0 3) 15 0) g = w g := fun g h => (xu_ne h).trans (xu_ne h)
  rw [t2, t1 9 (by omega) (by omega), t1 10 (by omega) (by omega), t1 12 (by omega) (by omega)] at c270
  generalize hw1 : xu (xT w 0) 3 (xs1 (xT w 0 3) 15 0) = w1 at *
  have hT0 : sp_tw ((w 3).2 8) n (sp_scan ((w 3).2 8) n (0, (w 3).1 9, (w 3).1 10, 0, (w 3).1 12)) := sp_tw_scan (Nat.zero_le n)
  have hx0 := (@sp_scan_x ((w 3).2 8) n (0, (w 3).1 9, (w 3).1 10, 0, (w 3).1 12) (by omega) (Nat.zero_le n)).1
  generalize sp_scan ((w 3).2 8) n (0, (w 3).1 9, (w 3).1 10, 0, (w 3).1 12) = T0 at *
  have u7 : (xSw w1 n 3).1 7 = nI n := by
    unfold xSw
    rw [xu_same]
    rfl
  have u14 : (xSw w1 n 3).1 14 = nI 0 := by
    unfold xSw
    rw [xu_same]
    rfl
  have u1 : ∀ i, i ≠ 7 → i ≠ 14 → (xSw w1 n 3).1 i = (w1 3).1 i := fun i h1 h2 => by
    unfold xSw
    rw [xu_same, xs1_ne h2, xs1_ne h1]
  have u2 : (xSw w1 n 3).2 = (w 3).2 := by
    unfold xSw
    rw [xu_same]
    exact t2
  have ug : ∀ g, g ≠ 3 → xSw w1 n g = w g := fun g h => (xu_ne h).trans (tg g h)
  generalize hw2 : xSw w1 n = w2 at *
  have eQ : xQw w2 0 0 ((w 3).2 10) = w2 := xQw_self u14 (by rw [u1 15 (by omega) (by omega), t15]; rfl) (by rw [u2])
  have ef : (w2 3).2 8 = (w 3).2 8 := by rw [u2]
  obtain ⟨g1, g2, g3, g4, gQ⟩ := @q_QT ((w 3).2 8) n T0 (q_pv (xR w)) (by omega) hT0 hx0
  obtain ⟨p1, p2, p3, p4⟩ := gQ
  have stl := q_st_le (n := n) (by omega) p1
  have top := p1.1
  -- the two words
  have c38 := @zq_276 w2 l t sc (d + 22) n 0 0 ((w 3).2 10) T0 38 (by decide) (by omega) (by rw [ef]; exact hT0)
  have c39 := @zq_276 w2 l t sc (d + 22) n 0 0 ((w 3).2 10) T0 39 (by decide) (by omega) (by rw [ef]; exact hT0)
  rw [ef, eQ] at c38 c39
  -- the compiler
  have c273 := fun b => @zc_273 w2 l t sc (d + 25) T0 b 1
  have c274 := @zq_274 w2 l t sc (d + 23) n 0 0 ((w 3).2 10) (q_Q1 ((w 3).2 8) T0) u7 (by omega) g1.1
  rw [ef, eQ, ← q_Q2_u] at c274
  have c295 := @zq_295 w2 l t sc (d + 19) n 0 0 ((w 3).2 10) (q_Q2 ((w 3).2 8) n T0) (q_fac ((w 3).2 8) n (q_pv (xR w)) 6) u7 h2 (by rw [ef]; exact fun T a b => q_fac_G (by omega) 6 T a b) (fun T c a h1 h2' h3 => by
    have z := @zq_293 w2 l t sc n (q_pv (xR w)) u7 h2 6 d 0 T c a (by omega) h1 h2' h3
    rw [ef] at z
    exact z) (by rw [ef]; exact g3) g4 (Nat.zero_le _)
  rw [ef, eQ, ← q_Q_u, Nat.zero_add] at c295
  have fin : ∀ i2 : Int32, (i2 = zB (sp_wrd ((w 3).2 8) T0 38)) → ∀ b : Int32, b = (if sp_wrd ((w 3).2 8) T0 38 ∨ sp_wrd ((w 3).2 8) T0 39 then 1 else 0) → ∀ v3 v4 : Value, ∃ w' l', xm_R sc xt_M (d + 27) 298 67 [.ref 191, .int (nI n), .int i2, v3, v4] [.int b, .ref 191] (xem (xPw w2 T0) l t) = some (.inl (some (.int (q_an ((w 3).2 8) n (xR w) T0))), xem w' l' t) ∧ xQd w w' (q_QE ((w 3).2 8) n (q_pv (xR w)) T0) ∧ l' 0 = l 0 := by
    intro i2 hi2 b hb v3 v4
    have eq1 : sp_check T0 b 1 = q_Q1 ((w 3).2 8) T0 := by
      rw [q_Q1_u, hb]
      by_cases z : sp_wrd ((w 3).2 8) T0 38 ∨ sp_wrd ((w 3).2 8) T0 39
      · rw [if_pos z, zB_tt z]
      · rw [if_neg z, zB_ff z]
    have fin2 : ∀ b2 : Int32, sp_check (q_Q ((w 3).2 8) n (q_pv (xR w)) T0).1 b2 1 = q_QE ((w 3).2 8) n (q_pv (xR w)) T0 → ∃ w' l', xm_R sc xt_M (d + 27) 298 99 [.ref 191, .int (nI n), .int i2, v3, v4] [.int b2, .ref 191] (xem (xPw (xQw w2 0 (q_Q ((w 3).2 8) n (q_pv (xR w)) T0).2.1.length (ap ((w 3).2 10) 0 (q_Q ((w 3).2 8) n (q_pv (xR w)) T0).2.1)) (q_Q ((w 3).2 8) n (q_pv (xR w)) T0).1) l t) = some (.inl (some (.int (q_an ((w 3).2 8) n (xR w) T0))), xem w' l' t) ∧ xQd w w' (q_QE ((w 3).2 8) n (q_pv (xR w)) T0) ∧ l' 0 = l 0 := by
      intro b2 hb2
      have c273b := @zc_273 (xQw w2 0 (q_Q ((w 3).2 8) n (q_pv (xR w)) T0).2.1.length (ap ((w 3).2 10) 0 (q_Q ((w 3).2 8) n (q_pv (xR w)) T0).2.1)) l t sc (d + 25) (q_Q ((w 3).2 8) n (q_pv (xR w)) T0).1 b2 1
      rw [hb2] at c273b
      have c271 := @zc_271 (xQw w2 0 (q_Q ((w 3).2 8) n (q_pv (xR w)) T0).2.1.length (ap ((w 3).2 10) 0 (q_Q ((w 3).2 8) n (q_pv (xR w)) T0).2.1)) l t sc (d + 26) (q_QE ((w 3).2 8) n (q_pv (xR w)) T0)
      have x1 : ∀ i, i < 8 ∨ 12 < i → i ≠ 6 → i ≠ 13 → (xEw (xQw w2 0 (q_Q ((w 3).2 8) n (q_pv (xR w)) T0).2.1.length (ap ((w 3).2 10) 0 (q_Q ((w 3).2 8) n (q_pv (xR w)) T0).2.1)) (q_QE ((w 3).2 8) n (q_pv (xR w)) T0) 3).1 i = (xQw w2 0 (q_Q ((w 3).2 8) n (q_pv (xR w)) T0).2.1.length (ap ((w 3).2 10) 0 (q_Q ((w 3).2 8) n (q_pv (xR w)) T0).2.1) 3).1 i := fun i h h6 h13 => by
        unfold xEw
        rw [xu_same, xs1_ne h13, xs1_ne h6, xPw_1 h]
      have x6 : (xEw (xQw w2 0 (q_Q ((w 3).2 8) n (q_pv (xR w)) T0).2.1.length (ap ((w 3).2 10) 0 (q_Q ((w 3).2 8) n (q_pv (xR w)) T0).2.1)) (q_QE ((w 3).2 8) n (q_pv (xR w)) T0) 3).1 6 = 0 := by
        unfold xEw
        rw [xu_same, xs1_ne (by omega)]
        exact xs1_same
      have x11 : (xEw (xQw w2 0 (q_Q ((w 3).2 8) n (q_pv (xR w)) T0).2.1.length (ap ((w 3).2 10) 0 (q_Q ((w 3).2 8) n (q_pv (xR w)) T0).2.1)) (q_QE ((w 3).2 8) n (q_pv (xR w)) T0) 3).1 11 = (q_QE ((w 3).2 8) n (q_pv (xR w)) T0).2.2.2.1 := by
        unfold xEw
        rw [xu_same, xs1_ne (by omega), xs1_ne (by omega)]
        exact xPw_b
      have x13 : (xEw (xQw w2 0 (q_Q ((w 3).2 8) n (q_pv (xR w)) T0).2.1.length (ap ((w 3).2 10) 0 (q_Q ((w 3).2 8) n (q_pv (xR w)) T0).2.1)) (q_QE ((w 3).2 8) n (q_pv (xR w)) T0) 3).1 13 = (if (q_QE ((w 3).2 8) n (q_pv (xR w)) T0).2.2.2.1 = 0 then -1 else (q_QE ((w 3).2 8) n (q_pv (xR w)) T0).2.2.2.2) := by
        unfold xEw
        rw [xu_same]
        exact xs1_same
      have x2 : (xEw (xQw w2 0 (q_Q ((w 3).2 8) n (q_pv (xR w)) T0).2.1.length (ap ((w 3).2 10) 0 (q_Q ((w 3).2 8) n (q_pv (xR w)) T0).2.1)) (q_QE ((w 3).2 8) n (q_pv (xR w)) T0) 3).2 = (xQw w2 0 (q_Q ((w 3).2 8) n (q_pv (xR w)) T0).2.1.length (ap ((w 3).2 10) 0 (q_Q ((w 3).2 8) n (q_pv (xR w)) T0).2.1) 3).2 := by
        unfold xEw
        rw [xu_same]
        exact xPw_2 (w := xQw w2 0 (q_Q ((w 3).2 8) n (q_pv (xR w)) T0).2.1.length (ap ((w 3).2 10) 0 (q_Q ((w 3).2 8) n (q_pv (xR w)) T0).2.1)) (T := q_QE ((w 3).2 8) n (q_pv (xR w)) T0)
      have xg : ∀ g, g ≠ 3 → xEw (xQw w2 0 (q_Q ((w 3).2 8) n (q_pv (xR w)) T0).2.1.length (ap ((w 3).2 10) 0 (q_Q ((w 3).2 8) n (q_pv (xR w)) T0).2.1)) (q_QE ((w 3).2 8) n (q_pv (xR w)) T0) g = w g := fun g h => (xu_ne h).trans ((xPw_ne h).trans ((xQw_ne h).trans (ug g h)))
      generalize hw5 : xEw (xQw w2 0 (q_Q ((w 3).2 8) n (q_pv (xR w)) T0).2.1.length (ap ((w 3).2 10) 0 (q_Q ((w 3).2 8) n (q_pv (xR w)) T0).2.1)) (q_QE ((w 3).2 8) n (q_pv (xR w)) T0) = w5 at *
      have y1 : ∀ i, i ≠ 2 → i ≠ 6 → i ≠ 7 → i ≠ 13 → i ≠ 14 → i ≠ 15 → (i < 8 ∨ 12 < i) → (w5 3).1 i = (w 3).1 i := fun i h2 h6 h7 h13 h14 h15 h => by
        rw [x1 i h h6 h13, xQw_1 h14 h15, u1 i h7 h14, t1 i h2 h15]
      have y2 : (w5 3).1 2 = 0 := by rw [x1 2 (by omega) (by omega) (by omega), xQw_1 (by omega) (by omega), u1 2 (by omega) (by omega), tt2]
      have y0 : (w5 3).1 0 = 0 := by rw [y1 0 (by omega) (by omega) (by omega) (by omega) (by omega) (by omega) (by omega), h0]
      have ya : ∀ a, a ≠ 10 → (w5 3).2 a = (w 3).2 a := fun a h => by rw [x2, xQw_2 h, u2]
      have yC : (w5 3).1 15 = nI (q_Q ((w 3).2 8) n (q_pv (xR w)) T0).2.1.length := by rw [x1 15 (by omega) (by omega) (by omega), xQw_15]
      have yA : (w5 3).2 10 = ap ((w 3).2 10) 0 (q_Q ((w 3).2 8) n (q_pv (xR w)) T0).2.1 := by rw [x2, xQw_a]
      have yR : xR w5 = xR w := by
        unfold xR xri
        rw [y0, h0]
        exact ya _ (by rw [if_pos rfl]; omega)
      have qd : xQd w w5 (q_QE ((w 3).2 8) n (q_pv (xR w)) T0) := ⟨xg, fun i hi => y1 i (by omega) (by omega) (by omega) (by omega) (by omega) (by omega) (by omega), y2, x6, x13, ya⟩
      rw [yb_298_99, if_pos xiM, c273b, zbs, xk_v, if_pos xiM, c271, zbs, xk_I, q_an_u]
      by_cases z : (q_QE ((w 3).2 8) n (q_pv (xR w)) T0).2.2.2.1 = 0
      · rw [if_pos z, if_pos z]
        have hS := @q_Q_S ((w 3).2 8) n T0 (q_pv (xR w)) (by omega) hT0 hx0 (q_QE_ok z).1
        have hA : ∀ j, j < (q_Q ((w 3).2 8) n (q_pv (xR w)) T0).2.1.length → (w5 3).2 10 j = (q_Q ((w 3).2 8) n (q_pv (xR w)) T0).2.1.getD j 0 := fun j hj => by
          rw [yA]
          exact if_pos ⟨Nat.zero_le _, by omega⟩
        have hW5 : xWF (xR w5) := by rw [yR]; exact hW
        have hS5 : qS (q_pv (xR w5)) (q_Q ((w 3).2 8) n (q_pv (xR w)) T0) := by rw [yR]; exact hS
        by_cases hf : sp_wrd ((w 3).2 8) T0 38
        · rw [if_pos hf, hi2, zB_tt hf]
          obtain ⟨l2, e2, f2⟩ := @z298_f w5 t sc (d + 22) (q_Q ((w 3).2 8) n (q_pv (xR w)) T0) (nI n) hW5 y0 yC (by omega) hA hS5 (xnk (xR w)) 0 l (by rw [yR]; omega)
          exact ⟨w5, l2, e2, qd, f2⟩
        · rw [if_neg hf, hi2, zB_ff hf]
          obtain ⟨l2, e2, f2⟩ := @z298_c w5 t sc (d + 22) (q_Q ((w 3).2 8) n (q_pv (xR w)) T0) (nI n) hW5 y0 yC (by omega) hA hS5 (xnk (xR w)) 0 l (by rw [yR]; omega)
          rw [yR] at e2
          exact ⟨w5, l2, e2, qd, f2⟩
      · rw [if_neg z, if_neg z, xgM_20, zbs, x11]
        exact ⟨w5, l, rfl, qd, rfl⟩
    rw [yb_298_67, if_pos xiM, c273, eq1, zbs, xk_v, if_pos xiM, c274, zbs, xk_v, if_pos xiM, c295, zbs, xk_v, xgPb, zbs]
    have ee : ∀ b2 : Int32, (b2 = if (q_Q ((w 3).2 8) n (q_pv (xR w)) T0).1.2.2.2.1 = 0 ∧ ¬ (q_Q ((w 3).2 8) n (q_pv (xR w)) T0).1.2.2.1 = 0 then 0 else 1) → sp_check (q_Q ((w 3).2 8) n (q_pv (xR w)) T0).1 b2 1 = q_QE ((w 3).2 8) n (q_pv (xR w)) T0 := fun b2 hb2 => by
      rw [q_QE_u, hb2]
      by_cases z : (q_Q ((w 3).2 8) n (q_pv (xR w)) T0).1.2.2.1 = 0
      · rw [if_neg (fun u => u.2 z), if_pos z, sp_check_1]
      · rw [if_neg z]
        by_cases y : (q_Q ((w 3).2 8) n (q_pv (xR w)) T0).1.2.2.2.1 = 0
        · rw [if_pos ⟨y, z⟩, sp_check_0]
        · rw [if_neg (fun u => y u.1), sp_check_1, sp_flaw_e y]
    by_cases y : (q_Q ((w 3).2 8) n (q_pv (xR w)) T0).1.2.2.2.1 = 0
    · rw [if_pos y, xgPa, zbs]
      by_cases z : (q_Q ((w 3).2 8) n (q_pv (xR w)) T0).1.2.2.1 = 0
      · rw [if_pos z, yb_298_94]
        exact fin2 1 (ee 1 (if_neg (fun u => u.2 z)).symm)
      · rw [if_neg z]
        exact fin2 0 (ee 0 (if_pos ⟨y, z⟩).symm)
    · rw [if_neg y, yb_298_94]
      exact fin2 1 (ee 1 (if_neg (fun u => y u.1)).symm)
  rw [yc_298, xsM_7, zbs, eT, xgM_15, zbs, xTl_1 (by omega), hc, rd_160, zbs, xk_I, zB_tt hx, if_neg (show ¬ (1 : Int32) = 0 by decide), xsM_27, zbs, hw1, if_pos xiM, c270, zbs, xk_v, if_pos xiM, c38, zbs, xk_I]
  by_cases hf : sp_wrd ((w 3).2 8) T0 38
  · rw [zB_tt hf, if_neg (show ¬ (1 : Int32) = 0 by decide), yb_298_62]
    exact fin 1 (zB_tt hf).symm 1 (if_pos (Or.inl hf)).symm _ _
  · rw [zB_ff hf, if_pos rfl, if_pos xiM, c39, zbs, xk_I]
    by_cases hm : sp_wrd ((w 3).2 8) T0 39
    · rw [zB_tt hm, if_neg (show ¬ (1 : Int32) = 0 by decide), yb_298_62]
      exact fin 0 (zB_ff hf).symm 1 (if_pos (Or.inr hm)).symm _ _
    · rw [zB_ff hm, if_pos rfl]
      exact fin 0 (zB_ff hf).symm 0 (if_neg (fun u => u.elim hf hm)).symm _ _
end RQ
