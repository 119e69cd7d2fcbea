/-! THE REFERENCE: undo, snapshot, format -/
def xSs (w : xW) (x : Int32) : xW := xu w 3 (xs1 (w 3) 3 x)
section SS
variable {w : xW} {x : Int32}
theorem xSs_ne {g : Nat} (h : g ≠ 3) : xSs w x g = w g := xu_ne h
theorem xSs_1 {i : Nat} (h : i ≠ 3) : (xSs w x 3).1 i = (w 3).1 i := by
  unfold xSs
  rw [xu_same]
  exact if_neg h
theorem xSs_c : (xSs w x 3).1 3 = x := by
  unfold xSs
  rw [xu_same]
  rfl
theorem xSs_2 {a : Nat} : (xSs w x 3).2 a = (w 3).2 a := by
  unfold xSs
  rw [xu_same]
  rfl
end SS
/-- what is written: how long, the signs -/
abbrev xFt : Type := Nat × (Nat → Int32)
def xFg (m : xG) (u : xFt) : xG := (upd m.1 5 (nI u.1), fun a => if a = 7 then u.2 else m.2 a)
def xFw (w : xW) (u : xFt) : xW := xu w 3 (xFg (w 3) u)
section FW
variable {w : xW} {u u' : xFt}
theorem xFw_ne {g : Nat} (h : g ≠ 3) : xFw w u g = w g := xu_ne h
theorem xFw_1 {i : Nat} (h : i ≠ 5) : (xFw w u 3).1 i = (w 3).1 i := by
  unfold xFw
  rw [xu_same]
  exact if_neg h
theorem xFw_c : (xFw w u 3).1 5 = nI u.1 := by
  unfold xFw
  rw [xu_same]
  rfl
theorem xFw_2 {a : Nat} (h : a ≠ 7) : (xFw w u 3).2 a = (w 3).2 a := by
  unfold xFw
  rw [xu_same]
  exact if_neg h
theorem xFw_f : (xFw w u 3).2 7 = u.2 := by
  unfold xFw
  rw [xu_same]
  rfl
theorem xR_Fw : xR (xFw w u) = xR w := by
  have h : xri (xFw w u 3) = xri (w 3) := by
    unfold xri
    rw [xFw_1 (by omega)]
  unfold xR
  rw [h, xFw_2 (by have := @xri_lt (w 3); omega)]
theorem xFw_w : xu (xFw w u) 3 (xs1 (xs2 (xFw w u 3) 7 u'.2) 5 (nI u'.1)) = xFw w u' := by
  unfold xFw
  rw [xu_xu, xu_same]
  congr 1
  refine Prod.ext ?_ ?_
  · funext i
    show (if i = 5 then nI u'.1 else if i = 5 then nI u.1 else (w 3).1 i) = if i = 5 then nI u'.1 else (w 3).1 i
    split <;> rfl
  · funext a
    show (if a = 7 then u'.2 else if a = 7 then u.2 else (w 3).2 a) = if a = 7 then u'.2 else (w 3).2 a
    split <;> rfl
end FW
def sp_wc (u : xFt) (c : Int32) : xFt := (u.1 + 1, upd u.2 u.1 c)
def sp_wn (u : xFt) (x : Int32) : xFt := if x ≤ 9 then sp_wc u (48 + (x - x / 10 * 10)) else sp_wc (sp_wc u (48 + x / 10)) (48 + (x - x / 10 * 10))
def sp_wp (u : xFt) (c x : Int32) : xFt := sp_wn (sp_wc u c) x
def sp_ws (r : Nat → Int32) (k : Nat) (u : xFt) : xFt := if r (56 + 6 * k) = 0 then sp_wp u 64 (r (57 + 6 * k)) else if r (56 + 6 * k) = 1 then sp_wp u 62 (r (57 + 6 * k)) else if r (56 + 6 * k) = 2 then sp_wp u 33 (r (57 + 6 * k)) else if r (56 + 6 * k) = 3 then sp_wp u 45 (r (60 + 6 * k)) else sp_wc u 63
def sp_wr (r : Nat → Int32) (k : Nat) (u : xFt) : xFt := if r (59 + 6 * k) = 1 then sp_wc u 114 else u
def sp_wq1 (r : Nat → Int32) (k q : Nat) (u : xFt) : xFt := if r (176 + 3 * q) = nI k then sp_wp (sp_wn (sp_wc u 32) (r (177 + 3 * q))) 58 (r (178 + 3 * q)) else u
def sp_wq (r : Nat → Int32) (k : Nat) (u : xFt) (n : Nat) : xFt := xfold (fun q u => sp_wq1 r k q u) u n
def sp_fmt (r : Nat → Int32) (k : Nat) (f : Nat → Int32) : xFt := sp_wq r k (sp_wr r k (sp_ws r k (sp_wn (0, f) (nI k)))) (xnq r)
theorem sp_wn_le {u : xFt} {x : Int32} : (sp_wn u x).1 ≤ u.1 + 2 := by
  unfold sp_wn
  split
  · show u.1 + 1 ≤ _; omega
  · show u.1 + 1 + 1 ≤ _; omega
theorem sp_wp_le {u : xFt} {c x : Int32} : (sp_wp u c x).1 ≤ u.1 + 3 := by
  unfold sp_wp
  have := @sp_wn_le (sp_wc u c) x
  have e : (sp_wc u c).1 = u.1 + 1 := rfl
  omega
theorem sp_ws_le {r : Nat → Int32} {k : Nat} {u : xFt} : (sp_ws r k u).1 ≤ u.1 + 3 := by
  unfold sp_ws
  repeat' split
  all_goals first | exact sp_wp_le | (show u.1 + 1 ≤ _; omega)
theorem sp_wr_le {r : Nat → Int32} {k : Nat} {u : xFt} : (sp_wr r k u).1 ≤ u.1 + 1 := by
  unfold sp_wr
  split
  · exact Nat.le_refl _
  · omega
theorem sp_wq1_le {r : Nat → Int32} {k q : Nat} {u : xFt} : (sp_wq1 r k q u).1 ≤ u.1 + 6 := by
  unfold sp_wq1
  split
  · have h1 := @sp_wp_le (sp_wn (sp_wc u 32) (r (177 + 3 * q))) 58 (r (178 + 3 * q))
    have h2 := @sp_wn_le (sp_wc u 32) (r (177 + 3 * q))
    have e : (sp_wc u 32).1 = u.1 + 1 := rfl
    omega
  · omega
theorem sp_wq_le {r : Nat → Int32} {k : Nat} {u : xFt} : ∀ n, (sp_wq r k u n).1 ≤ u.1 + 6 * n := by
  intro n
  induction n with
  | zero => exact Nat.le_refl _
  | succ n ih =>
    have h : (sp_wq r k u (n + 1)).1 ≤ (sp_wq r k u n).1 + 6 := sp_wq1_le
    omega
section SN
variable {w : xW} {l : Nat → Nat → Int64} {t : Nat} {sc : xm_Sc} {d : Nat}
theorem xgM_8c : xm_gI (xem w l t) 191 8 8 = some ((w 3).1 3) := xgM_8
theorem xsM_8c {x : Int32} : xm_sF (xem w l t) 191 8 8 (.int x) = some (xem (xSs w x) l t) := xsM_8
theorem zc_261_0 (hc : (w 3).1 1 = nI 0) : xm_C sc xt_M (d + 2) 261 [.ref 191] (xem w l t) = some (.inl (some (.int (-1))), xem (xT w 0) l t) := by
  have h1 : (xT w 0 3).1 1 = 0 := by rw [xT_1 (by omega)]; exact hc
  rw [yc_261]
  simp (disch := first | omega | assumption) only [↓zbE, zbd_some, ↓xk_I, ↓xk_v, ↓reduceIte, xsM_7T, xgM_6c, xsM_6c, xgM_8c, xsM_8c, h1, z00, xgM_0, xgM_3, xgM_4, zc_258_0, zc_258_b, xcp_1, nI_pred, xUc_c, z10, h1]
theorem zc_261_s {n : Nat} (hn : n < 10) (hc : (w 3).1 1 = nI (n + 1)) : xm_C sc xt_M (d + 2) 261 [.ref 191] (xem w l t) = some (.inl (some (.int (nI n))), xem (xcp (xUc (xT w 0) (nI n)) 4 n 0 0 296) l t) := by
  have h1 : (xT w 0 3).1 1 = nI (n + 1) := by rw [xT_1 (by omega)]; exact hc
  have h2 : ¬ nI (n + 1) = 0 := nI_ne0 (by omega) (by omega)
  rw [yc_261]
  simp (disch := first | omega | assumption) only [↓zbE, zbd_some, ↓xk_I, ↓xk_v, ↓reduceIte, xsM_7T, xgM_6c, xsM_6c, xgM_8c, xsM_8c, h1, z00, xgM_0, xgM_3, xgM_4, zc_258_0, zc_258_b, xcp_1, nI_pred, xUc_c, z10, h2]
theorem zc_262 : xm_C sc xt_M (d + 2) 262 [.ref 191] (xem w l t) = some (.inl none, xem (xSs (xcp (xT w 0) 0 0 3 0 296) 1) l t) := by
  rw [yc_262]
  simp (disch := first | omega | assumption) only [↓zbE, zbd_some, ↓xk_I, ↓xk_v, ↓reduceIte, xsM_7T, xgM_6c, xsM_6c, xgM_8c, xsM_8c, z00, xgM_0, xgM_3, xgM_4, zc_258_0, zc_258_b, xcp_1, nI_pred, xUc_c, z10]
theorem zc_263_0 (hc : (w 3).1 3 = 0) : xm_C sc xt_M (d + 2) 263 [.ref 191] (xem w l t) = some (.inl (some (.int 0)), xem (xT w 0) l t) := by
  have h1 : (xT w 0 3).1 3 = 0 := by rw [xT_1 (by omega)]; exact hc
  rw [yc_263]
  simp (disch := first | omega | assumption) only [↓zbE, zbd_some, ↓xk_I, ↓xk_v, ↓reduceIte, xsM_7T, xgM_6c, xsM_6c, xgM_8c, xsM_8c, h1, z00, xgM_0, xgM_3, xgM_4, zc_258_0, zc_258_b, xcp_1, nI_pred, xUc_c, z10]
theorem zc_263_1 (hc : (w 3).1 3 = 1) : xm_C sc xt_M (d + 2) 263 [.ref 191] (xem w l t) = some (.inl (some (.int 1)), xem (xUc (xcp (xT w 0) 3 0 0 0 296) 0) l t) := by
  have h1 : (xT w 0 3).1 3 = 1 := by rw [xT_1 (by omega)]; exact hc
  rw [yc_263]
  simp (disch := first | omega | assumption) only [↓zbE, zbd_some, ↓xk_I, ↓xk_v, ↓reduceIte, xsM_7T, xgM_6c, xsM_6c, xgM_8c, xsM_8c, h1, z00, xgM_0, xgM_3, xgM_4, zc_258_0, zc_258_b, xcp_1, nI_pred, xUc_c, z10]
theorem zc_252 {u : xFt} {c : Int32} (hu : u.1 < 400) : xm_C sc xt_M (d + 1) 252 [.ref 191, .int c] (xem (xFw w u) l t) = some (.inl none, xem (xFw w (sp_wc u c)) l t) := by
  rw [yc_252, xgM_12, zbs, xgM_13, zbs, xFw_c, xwM_7, if_pos (xin hu (by decide)), nI_clamp (by omega), zbs, xFw_f, xgM_13, zbs, xu_same, xs2_1, xFw_c, xsM_13, zbs, xu_xu, xu_same, zS]
  exact congrArg (fun a => some (Sum.inl none, xem a l t)) (@xFw_w w u (sp_wc u c))
theorem z10f : ((10 : Int32) = 0) = False := eq_false (by decide)
theorem zc_253 {u : xFt} {x : Int32} (hu : u.1 < 390) : xm_C sc xt_M (d + 2) 253 [.ref 191, .int x] (xem (xFw w u) l t) = some (.inl none, xem (xFw w (sp_wn u x)) l t) := by
  have e1 : ∀ c, (sp_wc u c).1 < 400 := fun c => by show u.1 + 1 < 400; omega
  rw [yc_253]
  unfold sp_wn
  by_cases h : x ≤ 9
  · simp (disch := first | omega | assumption | (rw [xR_T]; first | omega | assumption) | exact e1 _) only [↓zbE, zbd_some, ↓xk_I, ↓xk_v, xgM_5, xiM, zB_0, zB_1, ite_not, ↓reduceIte, zS, zc_252, z10f, xR_T, yb_253_17, h]
  · simp (disch := first | omega | assumption | (rw [xR_T]; first | omega | assumption) | exact e1 _) only [↓zbE, zbd_some, ↓xk_I, ↓xk_v, xgM_5, xiM, zB_0, zB_1, ite_not, ↓reduceIte, zS, zc_252, z10f, xR_T, yb_253_17, h]
theorem zc_254 {u : xFt} {c x : Int32} (hu : u.1 < 380) : xm_C sc xt_M (d + 3) 254 [.ref 191, .int c, .int x] (xem (xFw w u) l t) = some (.inl none, xem (xFw w (sp_wp u c x)) l t) := by
  have e1 : (sp_wc u c).1 < 390 := by show u.1 + 1 < 390; omega
  rw [yc_254]
  unfold sp_wp
  simp (disch := first | omega | assumption | (rw [xR_T]; first | omega | assumption)) only [↓zbE, zbd_some, ↓xk_I, ↓xk_v, xgM_5, xiM, zB_0, zB_1, ite_not, ↓reduceIte, zS, zc_252, zc_253, z10f, xR_T]
theorem zc_163f_0 {u : xFt} {v : Nat} (hv : v < 20) : xm_C sc xt_M (d + 1) 163 [.ref 191, .int (nI v), .int 0] (xem (xFw w u) l t) = some (.inl (some (.int (xR w (56 + 6 * v)))), xem (xFw w u) l t) := by rw [zc_163_0 hv, xR_Fw]
theorem zc_163f_1 {u : xFt} {v : Nat} (hv : v < 20) : xm_C sc xt_M (d + 1) 163 [.ref 191, .int (nI v), .int 1] (xem (xFw w u) l t) = some (.inl (some (.int (xR w (57 + 6 * v)))), xem (xFw w u) l t) := by rw [zc_163_1 hv, xR_Fw]
theorem zc_163f_4 {u : xFt} {v : Nat} (hv : v < 20) : xm_C sc xt_M (d + 1) 163 [.ref 191, .int (nI v), .int 4] (xem (xFw w u) l t) = some (.inl (some (.int (xR w (60 + 6 * v)))), xem (xFw w u) l t) := by rw [zc_163_4 hv, xR_Fw]
theorem z21 : ((2 : Int32) = 1) = False := eq_false (by decide)
theorem z30 : ((3 : Int32) = 0) = False := eq_false (by decide)
theorem z31 : ((3 : Int32) = 1) = False := eq_false (by decide)
theorem z32 : ((3 : Int32) = 2) = False := eq_false (by decide)
theorem zc_163f_3 {u : xFt} {v : Nat} (hv : v < 20) : xm_C sc xt_M (d + 1) 163 [.ref 191, .int (nI v), .int 3] (xem (xFw w u) l t) = some (.inl (some (.int (xR w (59 + 6 * v)))), xem (xFw w u) l t) := by rw [zc_163_3 hv, xR_Fw]
theorem zc_165f_0 {u : xFt} {v : Nat} (hv : v < 40) : xm_C sc xt_M (d + 1) 165 [.ref 191, .int (nI v), .int 0] (xem (xFw w u) l t) = some (.inl (some (.int (xR w (176 + 3 * v)))), xem (xFw w u) l t) := by rw [zc_165_0 hv, xR_Fw]
theorem zc_165f_1 {u : xFt} {v : Nat} (hv : v < 40) : xm_C sc xt_M (d + 1) 165 [.ref 191, .int (nI v), .int 1] (xem (xFw w u) l t) = some (.inl (some (.int (xR w (177 + 3 * v)))), xem (xFw w u) l t) := by rw [zc_165_1 hv, xR_Fw]
theorem zc_165f_2 {u : xFt} {v : Nat} (hv : v < 40) : xm_C sc xt_M (d + 1) 165 [.ref 191, .int (nI v), .int 2] (xem (xFw w u) l t) = some (.inl (some (.int (xR w (178 + 3 * v)))), xem (xFw w u) l t) := by rw [zc_165_2 hv, xR_Fw]
theorem zRa_3q {u : xFt} : xm_aI (xem (xFw w u) l t) (xm (xri (xFw w u 3))) 0 3 = some (xR w 3) := by rw [zRa_3, xR_Fw]
theorem ztI {x : Int32} {n : Nat} (hn : n < 2 ^ 31) : (x.toInt = (n : Int)) = (x = nI n) := propext ⟨fun h => zti (h.trans (nI_toInt hn).symm), fun h => by rw [h, nI_toInt hn]⟩
theorem zt0 {x : Int32} : (x.toInt = 0) = (x = 0) := ztI (n := 0) (by omega)
theorem zt1 {x : Int32} : (x.toInt = 1) = (x = 1) := ztI (n := 1) (by omega)
theorem zt2 {x : Int32} : (x.toInt = 2) = (x = 2) := ztI (n := 2) (by omega)
theorem zt3 {x : Int32} : (x.toInt = 3) = (x = 3) := ztI (n := 3) (by omega)
theorem zc_255 {u : xFt} {k : Nat} (hk : k < 20) (hu : u.1 < 380) : xm_C sc xt_M (d + 4) 255 [.ref 191, .int (nI k)] (xem (xFw w u) l t) = some (.inl none, xem (xFw w (sp_ws (xR w) k u)) l t) := by
  rw [yc_255]
  unfold sp_ws
  by_cases h0 : xR w (56 + 6 * k) = 0
  · simp (disch := first | omega | assumption | (rw [xR_T]; first | omega | assumption)) only [↓zbE, zbd_some, ↓xk_I, ↓xk_v, xgM_5, xiM, zB_0, zB_1, ite_not, ↓reduceIte, zS, zc_252, zc_253, zc_254, z10f, xR_T, h0, zc_163f_0, zc_163f_1, zc_163f_4, zt0, zt1, zt2, zt3, yb_255_102]
  by_cases h1 : xR w (56 + 6 * k) = 1
  · simp (disch := first | omega | assumption | (rw [xR_T]; first | omega | assumption)) only [↓zbE, zbd_some, ↓xk_I, ↓xk_v, xgM_5, xiM, zB_0, zB_1, ite_not, ↓reduceIte, zS, zc_252, zc_253, zc_254, z10f, xR_T, h1, zc_163f_0, zc_163f_1, zc_163f_4, zt0, zt1, zt2, zt3, yb_255_102, z10]
  by_cases h2 : xR w (56 + 6 * k) = 2
  · simp (disch := first | omega | assumption | (rw [xR_T]; first | omega | assumption)) only [↓zbE, zbd_some, ↓xk_I, ↓xk_v, xgM_5, xiM, zB_0, zB_1, ite_not, ↓reduceIte, zS, zc_252, zc_253, zc_254, z10f, xR_T, h2, zc_163f_0, zc_163f_1, zc_163f_4, zt0, zt1, zt2, zt3, yb_255_102, z20, z21]
  by_cases h3 : xR w (56 + 6 * k) = 3
  · simp (disch := first | omega | assumption | (rw [xR_T]; first | omega | assumption)) only [↓zbE, zbd_some, ↓xk_I, ↓xk_v, xgM_5, xiM, zB_0, zB_1, ite_not, ↓reduceIte, zS, zc_252, zc_253, zc_254, z10f, xR_T, h3, zc_163f_0, zc_163f_1, zc_163f_4, zt0, zt1, zt2, zt3, yb_255_102, z30, z31, z32]
  · simp (disch := first | omega | assumption | (rw [xR_T]; first | omega | assumption)) only [↓zbE, zbd_some, ↓xk_I, ↓xk_v, xgM_5, xiM, zB_0, zB_1, ite_not, ↓reduceIte, zS, zc_252, zc_253, zc_254, z10f, xR_T, h0, h1, h2, h3, zc_163f_0, zc_163f_1, zc_163f_4, zt0, zt1, zt2, zt3, yb_255_102]
theorem xFw_0 {f : Nat → Int32} (hf : f = (w 3).2 7) : xu w 3 (xs1 (w 3) 5 0) = xFw w (0, f) := by
  unfold xFw
  congr 1
  refine Prod.ext rfl ?_
  funext a
  show (w 3).2 a = if a = 7 then f else (w 3).2 a
  split
  · next h => rw [h, hf]
  · rfl
def sp_format (r : Nat → Int32) (a : Int32) (f : Nat → Int32) : Int32 × Int32 := if sp_bk r a then (0, nI (sp_fmt r a.toNatClampNeg f).1) else (1, 0)
theorem zc_256_1 {a : Int32} (hW : xWF (xR w)) (ha : ¬ sp_bk (xR w) a) : xm_C sc xt_M (d + 6) 256 [.ref 191, .int a] (xem w l t) = some (.inl (some (.int 0)), xem (xT w 1) l t) := by
  rw [yc_256]
  simp (disch := first | omega | assumption | (rw [xR_T]; first | omega | assumption)) only [↓zbE, zbd_some, ↓xk_I, ↓xk_v, xgM_5, xiM, zB_0, zB_1, ite_not, ↓reduceIte, zS, zc_252, zc_253, zc_254, zc_255, z10f, xR_T, zc_168, zB_ff (c := 0 ≤ a ∧ a ≤ xR w 2 - 1) ha, zc_170_0, zc_170_1, z10]
theorem zc_256 {k : Nat} (hW : xWF (xR w)) (hk : k < xnk (xR w)) : xm_C sc xt_M (d + 6) 256 [.ref 191, .int (nI k)] (xem w l t) = some (.inl (some (.int (nI (sp_fmt (xR w) k ((w 3).2 7)).1))), xem (xFw (xT w 0) (sp_fmt (xR w) k ((w 3).2 7))) l t) := by
  have hB := hW.bd
  have hk20 := hB.k20
  have hq40 := hB.q40
  have hv4 := hB.v4
  have hb6 := hB.b6
  have hW2 : xWF (xR (xT w 0)) := by rw [xR_T]; exact hW
  have hB2 : xBd (xR (xT w 0)) := by rw [xR_T]; exact hW.bd
  have ha := zrg' (m := xnk (xR w)) (by omega) hk
  rw [← hB.k] at ha
  have e0 : ((xT w 0) 3).2 7 = (w 3).2 7 := by
    unfold xT
    rw [xu_same]
    rfl
  have b1 := @sp_wn_le (0, (w 3).2 7) (nI k)
  have b2 := @sp_ws_le (xR w) k (sp_wn (0, (w 3).2 7) (nI k))
  have b3 := @sp_wr_le (xR w) k (sp_ws (xR w) k (sp_wn (0, (w 3).2 7) (nI k)))
  have b4 := @sp_wq_le (xR w) k (sp_wr (xR w) k (sp_ws (xR w) k (sp_wn (0, (w 3).2 7) (nI k))))
  have u0 : ((0, (w 3).2 7) : xFt).1 < 390 := by show 0 < 390; omega
  dsimp only at b1
  unfold sp_fmt
  have e := xlp (fun q => xm_R sc xt_M (d + 5) 256 47 [.ref 191, .int (nI k), .int (nI q)] [] (xem (xFw (xT w 0) (sp_wq (xR w) k (sp_wr (xR w) k (sp_ws (xR w) k (sp_wn (0, (w 3).2 7) (nI k)))) q)) l t)) (K := some (.inl (some (.int (nI (sp_wq (xR w) k (sp_wr (xR w) k (sp_ws (xR w) k (sp_wn (0, (w 3).2 7) (nI k)))) (xnq (xR w))).1))), xem (xFw (xT w 0) (sp_wq (xR w) k (sp_wr (xR w) k (sp_ws (xR w) k (sp_wn (0, (w 3).2 7) (nI k)))) (xnq (xR w)))) l t)) (xnq (xR w)) (by
    intro q hq
    have b5 := b4 q
    rw [show sp_wq (xR w) k (sp_wr (xR w) k (sp_ws (xR w) k (sp_wn (0, (w 3).2 7) (nI k)))) (q + 1) = sp_wq1 (xR w) k q (sp_wq (xR w) k (sp_wr (xR w) k (sp_ws (xR w) k (sp_wn (0, (w 3).2 7) (nI k)))) q) from rfl]
    have h380 : (sp_wq (xR w) k (sp_wr (xR w) k (sp_ws (xR w) k (sp_wn (0, (w 3).2 7) (nI k)))) q).1 < 300 := by omega
    clear b5
    generalize sp_wq (xR w) k (sp_wr (xR w) k (sp_ws (xR w) k (sp_wn (0, (w 3).2 7) (nI k)))) q = u at *
    rw [yb_256_47]
    unfold sp_wq1
    have c1 : (sp_wc u 32).1 < 350 := by show u.1 + 1 < 350; omega
    have c2 : (sp_wn (sp_wc u 32) (xR w (177 + 3 * q))).1 < 380 := by have := @sp_wn_le (sp_wc u 32) (xR w (177 + 3 * q)); omega
    by_cases h : xR w (176 + 3 * q) = nI k
    · simp (disch := first | omega | assumption | (rw [xR_T]; first | omega | assumption)) only [↓zbE, zbd_some, ↓xk_I, ↓xk_v, xgM_5, xiM, zB_0, zB_1, ite_not, ↓reduceIte, zS, zc_252, zc_253, zc_254, zc_255, z10f, xR_T, eq_true h, nI_ge, zRa_3q, zc_165f_0, zc_165f_1, zc_165f_2, yb_256_95, hB.q]
    · simp (disch := first | omega | assumption | (rw [xR_T]; first | omega | assumption)) only [↓zbE, zbd_some, ↓xk_I, ↓xk_v, xgM_5, xiM, zB_0, zB_1, ite_not, ↓reduceIte, zS, zc_252, zc_253, zc_254, zc_255, z10f, xR_T, eq_false h, nI_ge, zRa_3q, zc_165f_0, zc_165f_1, zc_165f_2, yb_256_95, hB.q]) (by
    rw [yb_256_47]
    simp (disch := first | omega | assumption | (rw [xR_T]; first | omega | assumption)) only [↓zbE, zbd_some, ↓xk_I, ↓xk_v, xgM_5, xiM, zB_0, zB_1, ite_not, ↓reduceIte, zS, zc_252, zc_253, zc_254, zc_255, z10f, xR_T, nI_le, xgM_13, xFw_c, zRa_3q, zc_165f_0, zc_165f_1, zc_165f_2, yb_256_95, hB.q])
  refine Eq.trans ?_ e
  show _ = xm_R sc xt_M (d + 5) 256 47 [.ref 191, .int (nI k), .int 0] [] (xem (xFw (xT w 0) (sp_wr (xR w) k (sp_ws (xR w) k (sp_wn (0, (w 3).2 7) (nI k))))) l t)
  rw [yc_256]
  unfold sp_wr
  have h5 : (sp_ws (xR w) k (sp_wn (0, (w 3).2 7) (nI k))).1 < 380 := by omega
  have h6 : (sp_wn (0, (w 3).2 7) (nI k)).1 < 380 := by omega
  by_cases h : xR w (59 + 6 * k) = 1
  · simp (disch := first | omega | assumption | (rw [xR_T]; first | omega | assumption)) only [↓zbE, zbd_some, ↓xk_I, ↓xk_v, xgM_5, xiM, zB_0, zB_1, ite_not, ↓reduceIte, zS, zc_252, zc_253, zc_254, zc_255, z10f, xR_T, h, zc_168, zB_tt ha, zc_170_0, zc_170_1, z00, z10, xsM_7T, xsM_13, zc_163f_3, yb_256_45, xFw_0 e0.symm]
  · simp (disch := first | omega | assumption | (rw [xR_T]; first | omega | assumption)) only [↓zbE, zbd_some, ↓xk_I, ↓xk_v, xgM_5, xiM, zB_0, zB_1, ite_not, ↓reduceIte, zS, zc_252, zc_253, zc_254, zc_255, z10f, xR_T, h, zc_168, zB_tt ha, zc_170_0, zc_170_1, z00, z10, xsM_7T, xsM_13, zc_163f_3, yb_256_45, xFw_0 e0.symm]
theorem zc_257 {x : Int32} {n : Nat} (hn : n < 400) (hc : (w 3).1 5 = nI n) : xm_C sc xt_M (d + 2) 257 [.ref 191, .int x] (xem w l t) = some (.inl (some (.int (if 0 ≤ x ∧ x ≤ nI n - 1 then (w 3).2 7 x.toNatClampNeg else -1))), xem (xT w 0) l t) := by
  have h1 : (xT w 0 3).1 5 = nI n := by rw [xT_1 (by omega)]; exact hc
  have e0 : ((xT w 0) 3).2 7 = (w 3).2 7 := by
    unfold xT
    rw [xu_same]
    rfl
  rw [yc_257, xsM_7T, zbs, xgM_13, zbs, h1]
  by_cases h : 0 ≤ x ∧ x ≤ nI n - 1
  · rw [if_pos h]
    obtain ⟨m, hm, rfl⟩ := zrg (by omega) h
    rw [nI_clamp (by omega)]
    have g7 : ∀ (i : Nat), i < 400 → xm_aI (xem (xT w 0) l t) (xm 7) 0 (nI i) = some ((w 3).2 7 i) := fun i hi => by rw [xaM_7, if_pos (xin hi (by decide)), nI_clamp (by omega), e0]
    simp (disch := first | omega | assumption | (rw [xR_T]; first | omega | assumption)) only [↓zbE, zbd_some, ↓xk_I, ↓xk_v, xgM_5, xiM, zB_0, zB_1, ite_not, ↓reduceIte, zS, zc_252, zc_253, zc_254, zc_255, z10f, xR_T, zc_160, zB_tt h, xgM_12, g7, z10]
  · rw [if_neg h]
    simp (disch := first | omega | assumption | (rw [xR_T]; first | omega | assumption)) only [↓zbE, zbd_some, ↓xk_I, ↓xk_v, xgM_5, xiM, zB_0, zB_1, ite_not, ↓reduceIte, zS, zc_252, zc_253, zc_254, zc_255, z10f, xR_T, zc_160, zB_ff h, z00]
end SN
