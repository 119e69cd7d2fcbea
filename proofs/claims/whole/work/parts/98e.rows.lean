/-! THE REFERENCE: a row is laid -/
def sp_addV (r : Nat → Int32) (v : Nat) (x : Int32) : Nat → Int32 := upd (upd r (12 + 11 * v) x) 1 (nI (v + 1))
def sp_addS (r : Nat → Int32) (v s : Nat) (x : Int32) : Nat → Int32 := upd (upd r (15 + 11 * v + s) x) (13 + 11 * v) (nI (s + 1))
def sp_addB (r : Nat → Int32) (k : Nat) (x : Int32) : Nat → Int32 := sp_put (upd (upd r 2 (nI (k + 1))) (58 + 6 * k) x) k 0 x
def sp_beg0 (r : Nat → Int32) (m : Nat) : Nat → Int32 := fun i => if i < m then 0 else r i
def sp_begO (r : Nat → Int32) (m : Nat) : Nat → Int32 := fun i => if 6 ≤ i ∧ i < 6 + m then 1 else r i
def sp_beg (r : Nat → Int32) (n : Nat) : Nat → Int32 := sp_begO (upd (upd (sp_beg0 r 296) 0 (nI n)) 5 10) n
section LR
variable {w : xW} {l : Nat → Nat → Int64} {t : Nat} {sc : xm_Sc} {d : Nat}
theorem zc_172 {v : Nat} {x : Int32} (hv : xR w 1 = nI v) (h4 : v < 4) : xm_C sc xt_M (d + 2) 172 [.ref 191, .int x] (xem w l t) = some (.inl none, xem (xRs w (sp_addV (xR w) v x)) l t) := by
  have h1 : ∀ y, upd (xR w) (12 + 11 * v) y 1 = nI v := fun y => (zun (by omega)).trans hv
  rw [yc_172]
  simp (disch := omega) only [↓zbE, zbd_some, ↓xk_I, ↓xk_v, xgM_5, xiM, zRa, zRw, xR_s, xRs_s, zB_0, zB_1, zB_b01, ite_not, ↓reduceIte, nI_ge, zRa_0, zRa_1, zRa_2, zRa_3, zRa_4, zRa_5, zRw_0, zRw_1, zRw_2, zRw_3, zRw_4, zRw_5, zxV_0, zxV_1, zxV_2, zxK_0, zxK_1, zxK_2, zxK_3, zxK_4, zxK_5, zxQ_0, zxQ_1, zxQ_2, zxV_s, zxO, zxF, zc_161_0, zc_161_1, zc_161_2, zc_162_0, zc_162_1, zc_162_2, zc_163_0, zc_163_1, zc_163_2, zc_163_3, zc_163_4, zc_163_5, zc_164_0, zc_164_1, zc_164_2, zc_164_3, zc_164_4, zc_164_5, zc_165_0, zc_165_1, zc_165_2, zc_161_s, zc_162_s, zc_160, zc_166, zc_167, zc_168, zc_158, zc_159, zc_170, zc_169, zc_183, zc_184, zc_177, zc_178, zc_179, zc_180, zc_185, zc_186, zc_181, zc_182, zc_187, zc_188, zc_189, zc_190, zc_204, zc_205, zc_210, zc_214, zc_215, zc_216, zc_217, zc_219, zc_206, zFa, zFw, xF_s, xFs_s, xR_F, xgM_9, zc_193, zc_192, zc_191, zc_193x, zc_194, zc_198, zc_195, zc_196, zc_225, zc_229, hv, h1, zS]
  rfl
theorem zc_173 {v s : Nat} {x : Int32} (hv : xR w 1 = nI (v + 1)) (h4 : v < 4) (hs : xR w (13 + 11 * v) = nI s) (h8 : s < 8) : xm_C sc xt_M (d + 2) 173 [.ref 191, .int x] (xem w l t) = some (.inl none, xem (xRs w (sp_addS (xR w) v s x)) l t) := by
  have h1 : ∀ y, upd (xR w) (15 + 11 * v + s) y (13 + 11 * v) = nI s := fun y => (zun (by omega)).trans hs
  have e1 : nI (v + 1) - 1 = nI v := nI_pred v
  rw [yc_173]
  simp (disch := omega) only [↓zbE, zbd_some, ↓xk_I, ↓xk_v, xgM_5, xiM, zRa, zRw, xR_s, xRs_s, zB_0, zB_1, zB_b01, ite_not, ↓reduceIte, nI_ge, zRa_0, zRa_1, zRa_2, zRa_3, zRa_4, zRa_5, zRw_0, zRw_1, zRw_2, zRw_3, zRw_4, zRw_5, zxV_0, zxV_1, zxV_2, zxK_0, zxK_1, zxK_2, zxK_3, zxK_4, zxK_5, zxQ_0, zxQ_1, zxQ_2, zxV_s, zxO, zxF, zc_161_0, zc_161_1, zc_161_2, zc_162_0, zc_162_1, zc_162_2, zc_163_0, zc_163_1, zc_163_2, zc_163_3, zc_163_4, zc_163_5, zc_164_0, zc_164_1, zc_164_2, zc_164_3, zc_164_4, zc_164_5, zc_165_0, zc_165_1, zc_165_2, zc_161_s, zc_162_s, zc_160, zc_166, zc_167, zc_168, zc_158, zc_159, zc_170, zc_169, zc_183, zc_184, zc_177, zc_178, zc_179, zc_180, zc_185, zc_186, zc_181, zc_182, zc_187, zc_188, zc_189, zc_190, zc_204, zc_205, zc_210, zc_214, zc_215, zc_216, zc_217, zc_219, zc_206, zFa, zFw, xF_s, xFs_s, xR_F, xgM_9, zc_193, zc_192, zc_191, zc_193x, zc_194, zc_198, zc_195, zc_196, zc_225, zc_229, hv, hs, h1, e1, zS]
  rfl
theorem zc_174 {k : Nat} {x : Int32} (hk : xR w 2 = nI k) (h20 : k < 20) : xm_C sc xt_M (d + 4) 174 [.ref 191, .int x] (xem w l t) = some (.inl none, xem (xRs w (sp_addB (xR w) k x)) l t) := by
  rw [yc_174]
  simp (disch := omega) only [↓zbE, zbd_some, ↓xk_I, ↓xk_v, xgM_5, xiM, zRa, zRw, xR_s, xRs_s, zB_0, zB_1, zB_b01, ite_not, ↓reduceIte, nI_ge, zRa_0, zRa_1, zRa_2, zRa_3, zRa_4, zRa_5, zRw_0, zRw_1, zRw_2, zRw_3, zRw_4, zRw_5, zxV_0, zxV_1, zxV_2, zxK_0, zxK_1, zxK_2, zxK_3, zxK_4, zxK_5, zxQ_0, zxQ_1, zxQ_2, zxV_s, zxO, zxF, zc_161_0, zc_161_1, zc_161_2, zc_162_0, zc_162_1, zc_162_2, zc_163_0, zc_163_1, zc_163_2, zc_163_3, zc_163_4, zc_163_5, zc_164_0, zc_164_1, zc_164_2, zc_164_3, zc_164_4, zc_164_5, zc_165_0, zc_165_1, zc_165_2, zc_161_s, zc_162_s, zc_160, zc_166, zc_167, zc_168, zc_158, zc_159, zc_170, zc_169, zc_183, zc_184, zc_177, zc_178, zc_179, zc_180, zc_185, zc_186, zc_181, zc_182, zc_187, zc_188, zc_189, zc_190, zc_204, zc_205, zc_210, zc_214, zc_215, zc_216, zc_217, zc_219, zc_206, zFa, zFw, xF_s, xFs_s, xR_F, xgM_9, zc_193, zc_192, zc_191, zc_193x, zc_194, zc_198, zc_195, zc_196, zc_225, zc_229, hk, zS, zc_182, zc_164_2]
  rfl
theorem sp_beg0_s {r : Nat → Int32} {m : Nat} : upd (sp_beg0 r m) m 0 = sp_beg0 r (m + 1) := by
  funext i
  show (if i = m then (0 : Int32) else if i < m then 0 else r i) = if i < m + 1 then 0 else r i
  by_cases h : i = m
  · rw [if_pos h, if_pos (by omega)]
  · rw [if_neg h]
    by_cases h2 : i < m
    · rw [if_pos h2, if_pos (by omega)]
    · rw [if_neg h2, if_neg (by omega)]
theorem sp_begO_s {r : Nat → Int32} {m : Nat} : upd (sp_begO r m) (6 + m) 1 = sp_begO r (m + 1) := by
  funext i
  show (if i = 6 + m then (1 : Int32) else if 6 ≤ i ∧ i < 6 + m then 1 else r i) = if 6 ≤ i ∧ i < 6 + (m + 1) then 1 else r i
  by_cases h : i = 6 + m
  · rw [if_pos h, if_pos (by omega)]
  · rw [if_neg h]
    by_cases h2 : 6 ≤ i ∧ i < 6 + m
    · rw [if_pos h2, if_pos (by omega)]
    · rw [if_neg h2, if_neg (by omega)]
theorem z171_39 {n : Nat} (hn : n ≤ 6) : xm_R sc xt_M d 171 39 [.ref 191, .int (nI n), .int (nI 0)] [] (xem w l t) = some (.inl none, xem (xRs w (sp_begO (xR w) n)) l t) := by
  have e0 : xRs w (sp_begO (xR w) 0) = w := by
    have : sp_begO (xR w) 0 = xR w := by
      funext i
      exact if_neg (by omega)
    rw [this]
    exact xRs_self
  have e := xlp (fun i => xm_R sc xt_M d 171 39 [.ref 191, .int (nI n), .int (nI i)] [] (xem (xRs w (sp_begO (xR w) i)) l t)) (K := some (.inl none, xem (xRs w (sp_begO (xR w) n)) l t)) n (by
    intro i hi
    have hw := @zRw (xRs w (sp_begO (xR w) i)) l t (6 + i) 1 (by omega)
    rw [xR_s, sp_begO_s, xRs_s] at hw
    rw [yb_171_39, if_neg (nI_ge (a := i) (b := n) (by omega) (by omega)), xgM_5, zbs, show (6 : Int32) + nI i = nI (6 + i) from zA (a := 6) (b := i), hw, zbs, zS]) (by
    rw [yb_171_39, if_pos (nI_le (by omega) (by omega))])
  rw [e0] at e
  exact e
theorem zc_171 {n : Nat} {h0 : 1 ≤ n} (hn : n ≤ 6) : xm_C sc xt_M (d + 1) 171 [.ref 191, .int (nI n)] (xem w l t) = some (.inl none, xem (xRs w (sp_beg (xR w) n)) l t) := by
  have e0 : xRs w (sp_beg0 (xR w) 0) = w := by
    have : sp_beg0 (xR w) 0 = xR w := by
      funext i
      exact if_neg (by omega)
    rw [this]
    exact xRs_self
  have e := xlp (fun i => xm_R sc xt_M d 171 2 [.ref 191, .int (nI n), .int (nI i)] [] (xem (xRs w (sp_beg0 (xR w) i)) l t)) (K := some (.inl none, xem (xRs w (sp_beg (xR w) n)) l t)) 296 (by
    intro i hi
    have hw := @zRw (xRs w (sp_beg0 (xR w) i)) l t i 0 (by omega)
    rw [xR_s, sp_beg0_s, xRs_s] at hw
    rw [yb_171_2, if_neg (show ¬ (296 : Int32) ≤ nI i from nI_ge (a := i) (b := 296) (by omega) (by omega)), xgM_5, zbs, hw, zbs, zS]) (by
    have hw0 := @zRw_0 (xRs w (sp_beg0 (xR w) 296)) l t (nI n)
    rw [xR_s, xRs_s] at hw0
    have hw5 := @zRw_5 (xRs w (upd (sp_beg0 (xR w) 296) 0 (nI n))) l t 10
    rw [xR_s, xRs_s] at hw5
    have hf := @z171_39 (xRs w (upd (upd (sp_beg0 (xR w) 296) 0 (nI n)) 5 10)) l t sc d n hn
    rw [xR_s, xRs_s] at hf
    rw [yb_171_2, if_pos (show (296 : Int32) ≤ nI 296 by decide), xgM_5, zbs, hw0, zbs, xgM_5, zbs, hw5, zbs]
    exact hf)
  rw [e0] at e
  rw [yc_171]
  exact e
end LR
