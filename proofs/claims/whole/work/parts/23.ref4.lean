/-! THE REFERENCE: counts -/
section RI
variable {w : xW} {l : Nat → Nat → Int64} {t : Nat} {sc : xm_Sc} {d : Nat}
def sp_openN (r : Nat → Int32) : Int32 := xsum (fun b => r (6 + b)) (xnb r)
def sp_recN (r : Nat → Int32) : Int32 := xsum (fun k => r (59 + 6 * k)) (xnk r)
def sp_openOn (r : Nat → Int32) (v : Nat) : Int32 := xsum (fun b => zB (r (6 + b) = 1 ∧ sp_has r v (nI b) = true)) (xnb r)
def sp_reqAt (r : Nat → Int32) (b : Int32) : Int32 := xsum (fun q => zB (r (178 + 3 * q) = b)) (xnq r)
def sp_homes (r : Nat → Int32) (b : Int32) : Int32 := xsum (fun k => zB (r (58 + 6 * k) = b)) (xnk r)
def sp_vansAt (r : Nat → Int32) (b : Int32) : Int32 := xsum (fun v => zB (sp_has r v b = true)) (xnv r)
def sp_reqOf (r : Nat → Int32) (b : Int32) : Int32 := xsum (fun q => zB (r (177 + 3 * q) = b)) (xnq r)
theorem zc_204 (hB : xBd (xR w)) : xm_C sc xt_M (d + 1) 204 [.ref 191] (xem w l t) = some (.inl (some (.int (sp_openN (xR w)))), xem w l t) := by
  have := hB.b6
  rw [yc_204]
  refine xlp (fun i => xm_R sc xt_M (d + 0) 204 4 [.ref 191, .int (xsum (fun q => xR w (6 + q)) i), .int (nI i)] [] (xem w l t)) (xnb (xR w)) ?_ ?_
  · intro i hi
    rw [yb_204_4]
    simp (disch := omega) only [↓zbE, zbd_some, ↓xk_I, ↓xk_v, xgM_5, xiM, zRa, zRw, xR_s, xRs_s, zB_0, zB_1, zB_b01, ite_not, ↓reduceIte, nI_ge, zRa_0, zRa_1, zRa_2, zRa_3, zRa_4, zRa_5, zRw_0, zRw_1, zRw_2, zRw_3, zRw_4, zRw_5, zxV_0, zxV_1, zxV_2, zxK_0, zxK_1, zxK_2, zxK_3, zxK_4, zxK_5, zxQ_0, zxQ_1, zxQ_2, zxV_s, zxO, zxF, zc_161_0, zc_161_1, zc_161_2, zc_162_0, zc_162_1, zc_162_2, zc_163_0, zc_163_1, zc_163_2, zc_163_3, zc_163_4, zc_163_5, zc_164_0, zc_164_1, zc_164_2, zc_164_3, zc_164_4, zc_164_5, zc_165_0, zc_165_1, zc_165_2, zc_161_s, zc_162_s, zc_160, zc_166, zc_167, zc_168, zc_158, zc_159, zc_170, zc_169, zc_183, zc_184, zc_177, zc_178, zc_179, zc_180, zc_185, zc_186, zc_181, zc_182, zc_187, zc_188, zc_189, zc_190, zS, hB.b]
    rfl
  · rw [yb_204_4]
    simp (disch := omega) only [zbs, xgM_5, zRa_0, zRa_1, zRa_2, zRa_3, nI_le, ↓reduceIte, xR_T, hB.b]
    rfl
theorem zc_205 (hB : xBd (xR w)) : xm_C sc xt_M (d + 2) 205 [.ref 191] (xem w l t) = some (.inl (some (.int (sp_recN (xR w)))), xem w l t) := by
  have := hB.k20
  rw [yc_205]
  refine xlp (fun i => xm_R sc xt_M (d + 1) 205 4 [.ref 191, .int (xsum (fun q => xR w (59 + 6 * q)) i), .int (nI i)] [] (xem w l t)) (xnk (xR w)) ?_ ?_
  · intro i hi
    rw [yb_205_4]
    simp (disch := omega) only [↓zbE, zbd_some, ↓xk_I, ↓xk_v, xgM_5, xiM, zRa, zRw, xR_s, xRs_s, zB_0, zB_1, zB_b01, ite_not, ↓reduceIte, nI_ge, zRa_0, zRa_1, zRa_2, zRa_3, zRa_4, zRa_5, zRw_0, zRw_1, zRw_2, zRw_3, zRw_4, zRw_5, zxV_0, zxV_1, zxV_2, zxK_0, zxK_1, zxK_2, zxK_3, zxK_4, zxK_5, zxQ_0, zxQ_1, zxQ_2, zxV_s, zxO, zxF, zc_161_0, zc_161_1, zc_161_2, zc_162_0, zc_162_1, zc_162_2, zc_163_0, zc_163_1, zc_163_2, zc_163_3, zc_163_4, zc_163_5, zc_164_0, zc_164_1, zc_164_2, zc_164_3, zc_164_4, zc_164_5, zc_165_0, zc_165_1, zc_165_2, zc_161_s, zc_162_s, zc_160, zc_166, zc_167, zc_168, zc_158, zc_159, zc_170, zc_169, zc_183, zc_184, zc_177, zc_178, zc_179, zc_180, zc_185, zc_186, zc_181, zc_182, zc_187, zc_188, zc_189, zc_190, zS, hB.k]
    rfl
  · rw [yb_205_4]
    simp (disch := omega) only [zbs, xgM_5, zRa_0, zRa_1, zRa_2, zRa_3, nI_le, ↓reduceIte, xR_T, hB.k]
    rfl
theorem zc_210 {v : Nat} (hv : v < xnv (xR w)) (hW : xWF (xR w)) : xm_C sc xt_M (d + 3) 210 [.ref 191, .int (nI v)] (xem w l t) = some (.inl (some (.int (sp_openOn (xR w) v))), xem w l t) := by
  have hB := hW.bd
  have hk20 := hB.k20
  have hq40 := hB.q40
  have hv4 := hB.v4
  have hb6 := hB.b6
  rw [yc_210]
  refine xlp (fun i => xm_R sc xt_M (d + 2) 210 4 [.ref 191, .int (nI v), .int (xsum (fun q => zB (xR w (6 + q) = 1 ∧ sp_has (xR w) v (nI q) = true)) i), .int (nI i)] [] (xem w l t)) (xnb (xR w)) ?_ ?_
  · intro i hi
    rw [yb_210_4]
    simp (disch := first | omega | assumption | exact xil_nI (by omega) (by omega)) only [↓zbE, zbd_some, ↓xk_I, ↓xk_v, xgM_5, xiM, zRa, zRw, xR_s, xRs_s, zB_0, zB_1, zB_b01, ite_not, ↓reduceIte, nI_ge, zRa_0, zRa_1, zRa_2, zRa_3, zRa_4, zRa_5, zRw_0, zRw_1, zRw_2, zRw_3, zRw_4, zRw_5, zxV_0, zxV_1, zxV_2, zxK_0, zxK_1, zxK_2, zxK_3, zxK_4, zxK_5, zxQ_0, zxQ_1, zxQ_2, zxV_s, zxO, zxF, zc_161_0, zc_161_1, zc_161_2, zc_162_0, zc_162_1, zc_162_2, zc_163_0, zc_163_1, zc_163_2, zc_163_3, zc_163_4, zc_163_5, zc_164_0, zc_164_1, zc_164_2, zc_164_3, zc_164_4, zc_164_5, zc_165_0, zc_165_1, zc_165_2, zc_161_s, zc_162_s, zc_160, zc_166, zc_167, zc_168, zc_158, zc_159, zc_170, zc_169, zc_183, zc_184, zc_177, zc_178, zc_179, zc_180, zc_185, zc_186, zc_181, zc_182, zc_187, zc_188, zc_189, zc_190, zS, hB.b]
    simp only [xop, nI_clamp (show i < 2 ^ 31 by omega)]
    simp only [xsum]
    by_cases h1 : xR w (6 + i) = 1
    · by_cases h2 : sp_has (xR w) v (nI i) = true
      · simp only [h1, h2, ↓reduceIte, zB, true_and, and_self]
      · simp only [h1, h2, ↓reduceIte, zB, and_false, Bool.false_eq_true]
    · simp only [h1, ↓reduceIte, zB, false_and]
  · rw [yb_210_4]
    simp (disch := omega) only [zbs, xgM_5, zRa_0, zRa_1, zRa_2, zRa_3, nI_le, ↓reduceIte, xR_T, hB.b]
    rfl
theorem zc_214 {b st : Int32} (hB : xBd (xR w)) : xm_C sc xt_M (d + 2) 214 [.ref 191, .int b, .int st] (xem w l t) = some (.inl (some (.int (sp_booksIn (xR w) st b))), xem w l t) := by
  have := hB.k20
  rw [yc_214]
  refine xlp (fun i => xm_R sc xt_M (d + 1) 214 5 [.ref 191, .int b, .int st, .int (xsum (fun q => zB (xR w (56 + 6 * q) = st ∧ xR w (57 + 6 * q) = b)) i), .int (nI i)] [] (xem w l t)) (xnk (xR w)) ?_ ?_
  · intro i hi
    rw [yb_214_5]
    simp (disch := omega) only [↓zbE, zbd_some, ↓xk_I, ↓xk_v, xgM_5, xiM, zRa, zRw, xR_s, xRs_s, zB_0, zB_1, zB_b01, ite_not, ↓reduceIte, nI_ge, zRa_0, zRa_1, zRa_2, zRa_3, zRa_4, zRa_5, zRw_0, zRw_1, zRw_2, zRw_3, zRw_4, zRw_5, zxV_0, zxV_1, zxV_2, zxK_0, zxK_1, zxK_2, zxK_3, zxK_4, zxK_5, zxQ_0, zxQ_1, zxQ_2, zxV_s, zxO, zxF, zc_161_0, zc_161_1, zc_161_2, zc_162_0, zc_162_1, zc_162_2, zc_163_0, zc_163_1, zc_163_2, zc_163_3, zc_163_4, zc_163_5, zc_164_0, zc_164_1, zc_164_2, zc_164_3, zc_164_4, zc_164_5, zc_165_0, zc_165_1, zc_165_2, zc_161_s, zc_162_s, zc_160, zc_166, zc_167, zc_168, zc_158, zc_159, zc_170, zc_169, zc_183, zc_184, zc_177, zc_178, zc_179, zc_180, zc_185, zc_186, zc_181, zc_182, zc_187, zc_188, zc_189, zc_190, zS, hB.k]
    simp only [xsum]
    by_cases h1 : xR w (56 + 6 * i) = st
    · by_cases h2 : xR w (57 + 6 * i) = b
      · simp only [h1, h2, ↓reduceIte, zB, true_and, and_self]
      · simp only [h1, h2, ↓reduceIte, zB, and_false, Bool.false_eq_true]
    · simp only [h1, ↓reduceIte, zB, false_and]
  · rw [yb_214_5]
    simp (disch := omega) only [zbs, xgM_5, zRa_0, zRa_1, zRa_2, zRa_3, nI_le, ↓reduceIte, xR_T, hB.k]
    rfl
theorem zc_215 {b : Int32} (hB : xBd (xR w)) : xm_C sc xt_M (d + 2) 215 [.ref 191, .int b] (xem w l t) = some (.inl (some (.int (sp_reqAt (xR w) b))), xem w l t) := by
  have := hB.q40
  rw [yc_215]
  refine xlp (fun i => xm_R sc xt_M (d + 1) 215 4 [.ref 191, .int b, .int (xsum (fun q => zB (xR w (178 + 3 * q) = b)) i), .int (nI i)] [] (xem w l t)) (xnq (xR w)) ?_ ?_
  · intro i hi
    rw [yb_215_4]
    simp (disch := omega) only [↓zbE, zbd_some, ↓xk_I, ↓xk_v, xgM_5, xiM, zRa, zRw, xR_s, xRs_s, zB_0, zB_1, zB_b01, ite_not, ↓reduceIte, nI_ge, zRa_0, zRa_1, zRa_2, zRa_3, zRa_4, zRa_5, zRw_0, zRw_1, zRw_2, zRw_3, zRw_4, zRw_5, zxV_0, zxV_1, zxV_2, zxK_0, zxK_1, zxK_2, zxK_3, zxK_4, zxK_5, zxQ_0, zxQ_1, zxQ_2, zxV_s, zxO, zxF, zc_161_0, zc_161_1, zc_161_2, zc_162_0, zc_162_1, zc_162_2, zc_163_0, zc_163_1, zc_163_2, zc_163_3, zc_163_4, zc_163_5, zc_164_0, zc_164_1, zc_164_2, zc_164_3, zc_164_4, zc_164_5, zc_165_0, zc_165_1, zc_165_2, zc_161_s, zc_162_s, zc_160, zc_166, zc_167, zc_168, zc_158, zc_159, zc_170, zc_169, zc_183, zc_184, zc_177, zc_178, zc_179, zc_180, zc_185, zc_186, zc_181, zc_182, zc_187, zc_188, zc_189, zc_190, zS, hB.q]
    simp only [xsum, zB]
    split <;> rename_i h <;> simp only [h, ↓reduceIte]
  · rw [yb_215_4]
    simp (disch := omega) only [zbs, xgM_5, zRa_0, zRa_1, zRa_2, zRa_3, nI_le, ↓reduceIte, xR_T, hB.q]
    rfl
theorem zc_216 {b : Int32} (hB : xBd (xR w)) : xm_C sc xt_M (d + 2) 216 [.ref 191, .int b] (xem w l t) = some (.inl (some (.int (sp_homes (xR w) b))), xem w l t) := by
  have := hB.k20
  rw [yc_216]
  refine xlp (fun i => xm_R sc xt_M (d + 1) 216 4 [.ref 191, .int b, .int (xsum (fun q => zB (xR w (58 + 6 * q) = b)) i), .int (nI i)] [] (xem w l t)) (xnk (xR w)) ?_ ?_
  · intro i hi
    rw [yb_216_4]
    simp (disch := omega) only [↓zbE, zbd_some, ↓xk_I, ↓xk_v, xgM_5, xiM, zRa, zRw, xR_s, xRs_s, zB_0, zB_1, zB_b01, ite_not, ↓reduceIte, nI_ge, zRa_0, zRa_1, zRa_2, zRa_3, zRa_4, zRa_5, zRw_0, zRw_1, zRw_2, zRw_3, zRw_4, zRw_5, zxV_0, zxV_1, zxV_2, zxK_0, zxK_1, zxK_2, zxK_3, zxK_4, zxK_5, zxQ_0, zxQ_1, zxQ_2, zxV_s, zxO, zxF, zc_161_0, zc_161_1, zc_161_2, zc_162_0, zc_162_1, zc_162_2, zc_163_0, zc_163_1, zc_163_2, zc_163_3, zc_163_4, zc_163_5, zc_164_0, zc_164_1, zc_164_2, zc_164_3, zc_164_4, zc_164_5, zc_165_0, zc_165_1, zc_165_2, zc_161_s, zc_162_s, zc_160, zc_166, zc_167, zc_168, zc_158, zc_159, zc_170, zc_169, zc_183, zc_184, zc_177, zc_178, zc_179, zc_180, zc_185, zc_186, zc_181, zc_182, zc_187, zc_188, zc_189, zc_190, zS, hB.k]
    simp only [xsum, zB]
    split <;> rename_i h <;> simp only [h, ↓reduceIte]
  · rw [yb_216_4]
    simp (disch := omega) only [zbs, xgM_5, zRa_0, zRa_1, zRa_2, zRa_3, nI_le, ↓reduceIte, xR_T, hB.k]
    rfl
theorem zc_217 {b : Int32} (hW : xWF (xR w)) : xm_C sc xt_M (d + 3) 217 [.ref 191, .int b] (xem w l t) = some (.inl (some (.int (sp_vansAt (xR w) b))), xem w l t) := by
  have hB := hW.bd
  have hk20 := hB.k20
  have hq40 := hB.q40
  have hv4 := hB.v4
  have hb6 := hB.b6
  rw [yc_217]
  refine xlp (fun i => xm_R sc xt_M (d + 2) 217 4 [.ref 191, .int b, .int (xsum (fun q => zB (sp_has (xR w) q b = true)) i), .int (nI i)] [] (xem w l t)) (xnv (xR w)) ?_ ?_
  · intro i hi
    rw [yb_217_4]
    simp (disch := first | omega | assumption) only [↓zbE, zbd_some, ↓xk_I, ↓xk_v, xgM_5, xiM, zRa, zRw, xR_s, xRs_s, zB_0, zB_1, zB_b01, ite_not, ↓reduceIte, nI_ge, zRa_0, zRa_1, zRa_2, zRa_3, zRa_4, zRa_5, zRw_0, zRw_1, zRw_2, zRw_3, zRw_4, zRw_5, zxV_0, zxV_1, zxV_2, zxK_0, zxK_1, zxK_2, zxK_3, zxK_4, zxK_5, zxQ_0, zxQ_1, zxQ_2, zxV_s, zxO, zxF, zc_161_0, zc_161_1, zc_161_2, zc_162_0, zc_162_1, zc_162_2, zc_163_0, zc_163_1, zc_163_2, zc_163_3, zc_163_4, zc_163_5, zc_164_0, zc_164_1, zc_164_2, zc_164_3, zc_164_4, zc_164_5, zc_165_0, zc_165_1, zc_165_2, zc_161_s, zc_162_s, zc_160, zc_166, zc_167, zc_168, zc_158, zc_159, zc_170, zc_169, zc_183, zc_184, zc_177, zc_178, zc_179, zc_180, zc_185, zc_186, zc_181, zc_182, zc_187, zc_188, zc_189, zc_190, zS, hB.v]
    simp only [xsum, zB]
    split <;> rename_i h <;> simp only [h, ↓reduceIte]
  · rw [yb_217_4]
    simp (disch := omega) only [zbs, xgM_5, zRa_0, zRa_1, zRa_2, zRa_3, nI_le, ↓reduceIte, xR_T, hB.v]
    rfl
theorem zc_219 {k : Nat} {rd : Int32} (hk : k < 20) : xm_C sc xt_M (d + 2) 219 [.ref 191, .int (nI k), .int rd] (xem w l t) = some (.inl (some (.int (zB (xR w (56 + 6 * k) = 2 ∧ xR w (60 + 6 * k) = rd)))), xem w l t) := by
  rw [yc_219]
  simp (disch := omega) only [↓zbE, zbd_some, ↓xk_I, ↓xk_v, xgM_5, xiM, zRa, zRw, xR_s, xRs_s, zB_0, zB_1, zB_b01, ite_not, ↓reduceIte, nI_ge, zRa_0, zRa_1, zRa_2, zRa_3, zRa_4, zRa_5, zRw_0, zRw_1, zRw_2, zRw_3, zRw_4, zRw_5, zxV_0, zxV_1, zxV_2, zxK_0, zxK_1, zxK_2, zxK_3, zxK_4, zxK_5, zxQ_0, zxQ_1, zxQ_2, zxV_s, zxO, zxF, zc_161_0, zc_161_1, zc_161_2, zc_162_0, zc_162_1, zc_162_2, zc_163_0, zc_163_1, zc_163_2, zc_163_3, zc_163_4, zc_163_5, zc_164_0, zc_164_1, zc_164_2, zc_164_3, zc_164_4, zc_164_5, zc_165_0, zc_165_1, zc_165_2, zc_161_s, zc_162_s, zc_160, zc_166, zc_167, zc_168, zc_158, zc_159, zc_170, zc_169, zc_183, zc_184, zc_177, zc_178, zc_179, zc_180, zc_185, zc_186, zc_181, zc_182, zc_187, zc_188, zc_189, zc_190, zc_204, zc_205, zc_210, zc_214, zc_215, zc_216, zc_217, yb_219_24]
  by_cases h1 : xR w (56 + 6 * k) = 2
  · by_cases h2 : xR w (60 + 6 * k) = rd
    · simp only [h1, h2, ↓reduceIte, zB, true_and, and_self]
    · simp only [h1, h2, ↓reduceIte, zB, and_false]
  · simp only [h1, ↓reduceIte, zB, false_and]
end RI
