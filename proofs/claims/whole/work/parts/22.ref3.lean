/-! THE REFERENCE: routes and counts -/
section RH
variable {w : xW} {l : Nat → Nat → Int64} {t : Nat} {sc : xm_Sc} {d : Nat}
theorem zB_tt {c : Prop} [Decidable c] (h : c) : zB c = 1 := if_pos h
theorem zB_ff {c : Prop} [Decidable c] (h : ¬ c) : zB c = 0 := if_neg h
theorem zc_189 {v : Nat} {b : Int32} (hv : v < xnv (xR w)) (hW : xWF (xR w)) : xm_C sc xt_M (d + 2) 189 [.ref 191, .int (nI v), .int b] (xem w l t) = some (.inl (some (.int (zB (sp_has (xR w) v b = true)))), xem w l t) := by
  have hB := hW.bd
  have hk20 := hB.k20
  have hq40 := hB.q40
  have hv4 := hB.v4
  have hb6 := hB.b6
  have hs := hW.st hv
  have hs9 := hW.st9 hv
  rw [yc_189]
  refine xlp (fun i => xm_R sc xt_M (d + 1) 189 5 [.ref 191, .int (nI v), .int b, .int (zB (xany (fun s => decide (xR w (15 + 11 * v + s) = b)) i = true)), .int (nI i)] [] (xem w l t)) (xst (xR w) v) ?_ ?_
  · intro i hi
    rw [yb_189_5]
    simp (disch := omega) only [↓zbE, zbd_some, ↓xk_I, ↓xk_v, xgM_5, xiM, zRa, zRw, xR_s, xRs_s, zB_0, zB_1, zB_b01, ite_not, ↓reduceIte, nI_ge, zRa_0, zRa_1, zRa_2, zRa_3, zRa_4, zRa_5, zRw_0, zRw_1, zRw_2, zRw_3, zRw_4, zRw_5, zxV_0, zxV_1, zxV_2, zxK_0, zxK_1, zxK_2, zxK_3, zxK_4, zxK_5, zxQ_0, zxQ_1, zxQ_2, zxV_s, zxO, zxF, zc_161_0, zc_161_1, zc_161_2, zc_162_0, zc_162_1, zc_162_2, zc_163_0, zc_163_1, zc_163_2, zc_163_3, zc_163_4, zc_163_5, zc_164_0, zc_164_1, zc_164_2, zc_164_3, zc_164_4, zc_164_5, zc_165_0, zc_165_1, zc_165_2, zc_161_s, zc_162_s, zc_160, zc_166, zc_167, zc_168, zc_158, zc_159, zc_170, zc_169, zc_183, zc_184, zc_177, zc_178, zc_179, zc_180, zc_185, zc_186, zc_181, zc_182, zc_187, zc_188, zS, hs, yb_189_33]
    cases h1 : xany (fun s => decide (xR w (15 + 11 * v + s) = b)) i <;> by_cases h2 : xR w (15 + 11 * v + i) = b <;> simp [xany, h1, h2, zB]
  · rw [yb_189_5]
    simp (disch := omega) only [↓zbE, zbd_some, ↓xk_I, ↓xk_v, xgM_5, xiM, zRa, zRw, xR_s, xRs_s, zB_0, zB_1, zB_b01, ite_not, ↓reduceIte, nI_ge, zRa_0, zRa_1, zRa_2, zRa_3, zRa_4, zRa_5, zRw_0, zRw_1, zRw_2, zRw_3, zRw_4, zRw_5, zxV_0, zxV_1, zxV_2, zxK_0, zxK_1, zxK_2, zxK_3, zxK_4, zxK_5, zxQ_0, zxQ_1, zxQ_2, zxV_s, zxO, zxF, zc_161_0, zc_161_1, zc_161_2, zc_162_0, zc_162_1, zc_162_2, zc_163_0, zc_163_1, zc_163_2, zc_163_3, zc_163_4, zc_163_5, zc_164_0, zc_164_1, zc_164_2, zc_164_3, zc_164_4, zc_164_5, zc_165_0, zc_165_1, zc_165_2, zc_161_s, zc_162_s, zc_160, zc_166, zc_167, zc_168, zc_158, zc_159, zc_170, zc_169, zc_183, zc_184, zc_177, zc_178, zc_179, zc_180, zc_185, zc_186, zc_181, zc_182, zc_187, zc_188, hs, nI_le]
    rfl
theorem zc_190 {a b : Int32} (hW : xWF (xR w)) : xm_C sc xt_M (d + 3) 190 [.ref 191, .int a, .int b] (xem w l t) = some (.inl (some (.int (zB (sp_link (xR w) a b = true)))), xem w l t) := by
  have hB := hW.bd
  have hk20 := hB.k20
  have hq40 := hB.q40
  have hv4 := hB.v4
  have hb6 := hB.b6
  rw [yc_190]
  refine xlp (fun i => xm_R sc xt_M (d + 2) 190 5 [.ref 191, .int a, .int b, .int (zB (xany (fun v => sp_has (xR w) v a && sp_has (xR w) v b) i = true)), .int (nI i)] [] (xem w l t)) (xnv (xR w)) ?_ ?_
  · intro i hi
    rw [yb_190_5]
    simp (disch := first | omega | assumption) only [↓zbE, zbd_some, ↓xk_I, ↓xk_v, xgM_5, xiM, zRa, zRw, xR_s, xRs_s, zB_0, zB_1, zB_b01, ite_not, ↓reduceIte, nI_ge, zRa_0, zRa_1, zRa_2, zRa_3, zRa_4, zRa_5, zRw_0, zRw_1, zRw_2, zRw_3, zRw_4, zRw_5, zxV_0, zxV_1, zxV_2, zxK_0, zxK_1, zxK_2, zxK_3, zxK_4, zxK_5, zxQ_0, zxQ_1, zxQ_2, zxV_s, zxO, zxF, zc_161_0, zc_161_1, zc_161_2, zc_162_0, zc_162_1, zc_162_2, zc_163_0, zc_163_1, zc_163_2, zc_163_3, zc_163_4, zc_163_5, zc_164_0, zc_164_1, zc_164_2, zc_164_3, zc_164_4, zc_164_5, zc_165_0, zc_165_1, zc_165_2, zc_161_s, zc_162_s, zc_160, zc_166, zc_167, zc_168, zc_158, zc_159, zc_170, zc_169, zc_183, zc_184, zc_177, zc_178, zc_179, zc_180, zc_185, zc_186, zc_181, zc_182, zc_187, zc_188, zS, hB.v, zc_189, yb_190_40, yb_190_44]
    cases h1 : xany (fun v => sp_has (xR w) v a && sp_has (xR w) v b) i <;> cases h2 : sp_has (xR w) i a <;> cases h3 : sp_has (xR w) i b <;> simp [xany, h1, h2, h3, zB]
  · rw [yb_190_5]
    simp (disch := omega) only [↓zbE, zbd_some, ↓xk_I, ↓xk_v, xgM_5, xiM, zRa, zRw, xR_s, xRs_s, zB_0, zB_1, zB_b01, ite_not, ↓reduceIte, nI_ge, zRa_0, zRa_1, zRa_2, zRa_3, zRa_4, zRa_5, zRw_0, zRw_1, zRw_2, zRw_3, zRw_4, zRw_5, zxV_0, zxV_1, zxV_2, zxK_0, zxK_1, zxK_2, zxK_3, zxK_4, zxK_5, zxQ_0, zxQ_1, zxQ_2, zxV_s, zxO, zxF, zc_161_0, zc_161_1, zc_161_2, zc_162_0, zc_162_1, zc_162_2, zc_163_0, zc_163_1, zc_163_2, zc_163_3, zc_163_4, zc_163_5, zc_164_0, zc_164_1, zc_164_2, zc_164_3, zc_164_4, zc_164_5, zc_165_0, zc_165_1, zc_165_2, zc_161_s, zc_162_s, zc_160, zc_166, zc_167, zc_168, zc_158, zc_159, zc_170, zc_169, zc_183, zc_184, zc_177, zc_178, zc_179, zc_180, zc_185, zc_186, zc_181, zc_182, zc_187, zc_188, hB.v, nI_le]
    rfl
end RH
