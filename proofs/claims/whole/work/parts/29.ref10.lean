/-! THE REFERENCE: whether a book leaves a van or goes with it -/
section RO
variable {w : xW} {l : Nat → Nat → Int64} {t : Nat} {sc : xm_Sc} {d : Nat}
theorem z1n : ((-1 : Int32) ≤ 0) = True := eq_true (by decide)
theorem zb00 : (xm_b01 0 = true) = True := eq_true rfl
theorem zBf : zB (false = true) = 0 := rfl
theorem zBF {i : Decidable False} : @zB False i = 0 := if_neg id
theorem zBT {i : Decidable True} : @zB True i = 1 := if_pos trivial
theorem zc_195 {k v : Nat} {b : Int32} (hk : k < xnk (xR w)) (hv : v < xnv (xR w)) (hb : xib b) (hW : xWF (xR w)) : xm_C sc xt_M (d + 4) 195 [.ref 191, .int (nI k), .int (nI v), .int b] (xem w l t) = some (.inl (some (.int (zB (sp_leaves (xF w) (xR w) k v b)))), xem w l t) := by
  have hB := hW.bd
  have hk20 := hB.k20
  have hq40 := hB.q40
  have hv4 := hB.v4
  have hb6 := hB.b6
  rw [yc_195]
  by_cases h1 : sp_goal (xR w) k = -1
  · rw [zB_tt (c := sp_leaves (xF w) (xR w) k v b) (Or.inl h1)]
    simp (disch := first | omega | assumption) only [↓zbE, zbd_some, ↓xk_I, ↓xk_v, xgM_5, xiM, zRa, zRw, xR_s, xRs_s, zB_0, zB_1, zB_b01, ite_not, ↓reduceIte, nI_ge, zRa_0, zRa_1, zRa_2, zRa_3, zRa_4, zRa_5, zRw_0, zRw_1, zRw_2, zRw_3, zRw_4, zRw_5, zxV_0, zxV_1, zxV_2, zxK_0, zxK_1, zxK_2, zxK_3, zxK_4, zxK_5, zxQ_0, zxQ_1, zxQ_2, zxV_s, zxO, zxF, zc_161_0, zc_161_1, zc_161_2, zc_162_0, zc_162_1, zc_162_2, zc_163_0, zc_163_1, zc_163_2, zc_163_3, zc_163_4, zc_163_5, zc_164_0, zc_164_1, zc_164_2, zc_164_3, zc_164_4, zc_164_5, zc_165_0, zc_165_1, zc_165_2, zc_161_s, zc_162_s, zc_160, zc_166, zc_167, zc_168, zc_158, zc_159, zc_170, zc_169, zc_183, zc_184, zc_177, zc_178, zc_179, zc_180, zc_185, zc_186, zc_181, zc_182, zc_187, zc_188, zc_189, zc_190, zc_204, zc_205, zc_210, zc_214, zc_215, zc_216, zc_217, zc_219, zc_206, zFa, zFw, xF_s, xFs_s, xR_F, xgM_9, zc_193, zc_192, zc_191, zc_193x, zc_194, zc_198, zS, z10, zm1, Bool.false_eq_true, h1, zc_188]
  · have hg : xib (sp_goal (xR w) k) := by
      rcases sp_goal_ib hW hk with h | h
      · exact absurd h h1
      · exact xil_le h.1 hb6
    by_cases h2 : xfx (xF w) b (sp_goal (xR w) k) = -1
    · rw [zB_ff (c := sp_leaves (xF w) (xR w) k v b) (fun h => h.elim h1 (fun g => g.1 h2))]
      simp (disch := first | omega | assumption) only [↓zbE, zbd_some, ↓xk_I, ↓xk_v, xgM_5, xiM, zRa, zRw, xR_s, xRs_s, zB_0, zB_1, zB_b01, ite_not, ↓reduceIte, nI_ge, zRa_0, zRa_1, zRa_2, zRa_3, zRa_4, zRa_5, zRw_0, zRw_1, zRw_2, zRw_3, zRw_4, zRw_5, zxV_0, zxV_1, zxV_2, zxK_0, zxK_1, zxK_2, zxK_3, zxK_4, zxK_5, zxQ_0, zxQ_1, zxQ_2, zxV_s, zxO, zxF, zc_161_0, zc_161_1, zc_161_2, zc_162_0, zc_162_1, zc_162_2, zc_163_0, zc_163_1, zc_163_2, zc_163_3, zc_163_4, zc_163_5, zc_164_0, zc_164_1, zc_164_2, zc_164_3, zc_164_4, zc_164_5, zc_165_0, zc_165_1, zc_165_2, zc_161_s, zc_162_s, zc_160, zc_166, zc_167, zc_168, zc_158, zc_159, zc_170, zc_169, zc_183, zc_184, zc_177, zc_178, zc_179, zc_180, zc_185, zc_186, zc_181, zc_182, zc_187, zc_188, zc_189, zc_190, zc_204, zc_205, zc_210, zc_214, zc_215, zc_216, zc_217, zc_219, zc_206, zFa, zFw, xF_s, xFs_s, xR_F, xgM_9, zc_193, zc_192, zc_191, zc_193x, zc_194, zc_198, zS, z10, zm1, Bool.false_eq_true, h1, h2, zc_188, yb_195_46]
    · by_cases h3 : xfx (xF w) b (sp_goal (xR w) k) = sp_least (xF w) (xR w) v (sp_goal (xR w) k) (xst (xR w) v)
      · rw [zB_tt (c := sp_leaves (xF w) (xR w) k v b) (Or.inr ⟨h2, h3⟩)]
        simp (disch := first | omega | assumption) only [↓zbE, zbd_some, ↓xk_I, ↓xk_v, xgM_5, xiM, zRa, zRw, xR_s, xRs_s, zB_0, zB_1, zB_b01, ite_not, ↓reduceIte, nI_ge, zRa_0, zRa_1, zRa_2, zRa_3, zRa_4, zRa_5, zRw_0, zRw_1, zRw_2, zRw_3, zRw_4, zRw_5, zxV_0, zxV_1, zxV_2, zxK_0, zxK_1, zxK_2, zxK_3, zxK_4, zxK_5, zxQ_0, zxQ_1, zxQ_2, zxV_s, zxO, zxF, zc_161_0, zc_161_1, zc_161_2, zc_162_0, zc_162_1, zc_162_2, zc_163_0, zc_163_1, zc_163_2, zc_163_3, zc_163_4, zc_163_5, zc_164_0, zc_164_1, zc_164_2, zc_164_3, zc_164_4, zc_164_5, zc_165_0, zc_165_1, zc_165_2, zc_161_s, zc_162_s, zc_160, zc_166, zc_167, zc_168, zc_158, zc_159, zc_170, zc_169, zc_183, zc_184, zc_177, zc_178, zc_179, zc_180, zc_185, zc_186, zc_181, zc_182, zc_187, zc_188, zc_189, zc_190, zc_204, zc_205, zc_210, zc_214, zc_215, zc_216, zc_217, zc_219, zc_206, zFa, zFw, xF_s, xFs_s, xR_F, xgM_9, zc_193, zc_192, zc_191, zc_193x, zc_194, zc_198, zS, z10, zm1, Bool.false_eq_true, h1, h2, eq_true h3, zc_188, yb_195_46]
      · rw [zB_ff (c := sp_leaves (xF w) (xR w) k v b) (fun h => h.elim h1 (fun g => h3 g.2))]
        simp (disch := first | omega | assumption) only [↓zbE, zbd_some, ↓xk_I, ↓xk_v, xgM_5, xiM, zRa, zRw, xR_s, xRs_s, zB_0, zB_1, zB_b01, ite_not, ↓reduceIte, nI_ge, zRa_0, zRa_1, zRa_2, zRa_3, zRa_4, zRa_5, zRw_0, zRw_1, zRw_2, zRw_3, zRw_4, zRw_5, zxV_0, zxV_1, zxV_2, zxK_0, zxK_1, zxK_2, zxK_3, zxK_4, zxK_5, zxQ_0, zxQ_1, zxQ_2, zxV_s, zxO, zxF, zc_161_0, zc_161_1, zc_161_2, zc_162_0, zc_162_1, zc_162_2, zc_163_0, zc_163_1, zc_163_2, zc_163_3, zc_163_4, zc_163_5, zc_164_0, zc_164_1, zc_164_2, zc_164_3, zc_164_4, zc_164_5, zc_165_0, zc_165_1, zc_165_2, zc_161_s, zc_162_s, zc_160, zc_166, zc_167, zc_168, zc_158, zc_159, zc_170, zc_169, zc_183, zc_184, zc_177, zc_178, zc_179, zc_180, zc_185, zc_186, zc_181, zc_182, zc_187, zc_188, zc_189, zc_190, zc_204, zc_205, zc_210, zc_214, zc_215, zc_216, zc_217, zc_219, zc_206, zFa, zFw, xF_s, xFs_s, xR_F, xgM_9, zc_193, zc_192, zc_191, zc_193x, zc_194, zc_198, zS, z10, zm1, Bool.false_eq_true, h1, h2, h3, zc_188, yb_195_46]
theorem zc_196 {k v : Nat} {b : Int32} (hk : k < xnk (xR w)) (hv : v < xnv (xR w)) (hb : xib b) (hW : xWF (xR w)) : xm_C sc xt_M (d + 4) 196 [.ref 191, .int (nI k), .int (nI v), .int b] (xem w l t) = some (.inl (some (.int (zB (sp_goes (xF w) (xR w) k v b = true)))), xem w l t) := by
  have hB := hW.bd
  have hk20 := hB.k20
  have hq40 := hB.q40
  have hv4 := hB.v4
  have hb6 := hB.b6
  have h9 := hW.st9 hv
  have hst := hW.st hv
  rw [yc_196]
  unfold sp_goes
  by_cases h1 : sp_goal (xR w) k = -1
  · simp (disch := first | omega | assumption) only [↓zbE, zbd_some, ↓xk_I, ↓xk_v, xgM_5, xiM, zRa, zRw, xR_s, xRs_s, zB_0, zB_1, zB_b01, ite_not, ↓reduceIte, nI_ge, zRa_0, zRa_1, zRa_2, zRa_3, zRa_4, zRa_5, zRw_0, zRw_1, zRw_2, zRw_3, zRw_4, zRw_5, zxV_0, zxV_1, zxV_2, zxK_0, zxK_1, zxK_2, zxK_3, zxK_4, zxK_5, zxQ_0, zxQ_1, zxQ_2, zxV_s, zxO, zxF, zc_161_0, zc_161_1, zc_161_2, zc_162_0, zc_162_1, zc_162_2, zc_163_0, zc_163_1, zc_163_2, zc_163_3, zc_163_4, zc_163_5, zc_164_0, zc_164_1, zc_164_2, zc_164_3, zc_164_4, zc_164_5, zc_165_0, zc_165_1, zc_165_2, zc_161_s, zc_162_s, zc_160, zc_166, zc_167, zc_168, zc_158, zc_159, zc_170, zc_169, zc_183, zc_184, zc_177, zc_178, zc_179, zc_180, zc_185, zc_186, zc_181, zc_182, zc_187, zc_188, zc_189, zc_190, zc_204, zc_205, zc_210, zc_214, zc_215, zc_216, zc_217, zc_219, zc_206, zFa, zFw, xF_s, xFs_s, xR_F, xgM_9, zc_193, zc_192, zc_191, zc_193x, zc_194, zc_198, zS, z10, zm1, Bool.false_eq_true, h1, zc_188, yb_196_32, z1n, zb00, zBf, zBF, yb_196_88, yb_196_75]
  · have hg : xib (sp_goal (xR w) k) := by
      rcases sp_goal_ib hW hk with h | h
      · exact absurd h h1
      · exact xil_le h.1 hb6
    by_cases h2 : xfx (xF w) b (sp_goal (xR w) k) ≤ 0
    · simp (disch := first | omega | assumption) only [↓zbE, zbd_some, ↓xk_I, ↓xk_v, xgM_5, xiM, zRa, zRw, xR_s, xRs_s, zB_0, zB_1, zB_b01, ite_not, ↓reduceIte, nI_ge, zRa_0, zRa_1, zRa_2, zRa_3, zRa_4, zRa_5, zRw_0, zRw_1, zRw_2, zRw_3, zRw_4, zRw_5, zxV_0, zxV_1, zxV_2, zxK_0, zxK_1, zxK_2, zxK_3, zxK_4, zxK_5, zxQ_0, zxQ_1, zxQ_2, zxV_s, zxO, zxF, zc_161_0, zc_161_1, zc_161_2, zc_162_0, zc_162_1, zc_162_2, zc_163_0, zc_163_1, zc_163_2, zc_163_3, zc_163_4, zc_163_5, zc_164_0, zc_164_1, zc_164_2, zc_164_3, zc_164_4, zc_164_5, zc_165_0, zc_165_1, zc_165_2, zc_161_s, zc_162_s, zc_160, zc_166, zc_167, zc_168, zc_158, zc_159, zc_170, zc_169, zc_183, zc_184, zc_177, zc_178, zc_179, zc_180, zc_185, zc_186, zc_181, zc_182, zc_187, zc_188, zc_189, zc_190, zc_204, zc_205, zc_210, zc_214, zc_215, zc_216, zc_217, zc_219, zc_206, zFa, zFw, xF_s, xFs_s, xR_F, xgM_9, zc_193, zc_192, zc_191, zc_193x, zc_194, zc_198, zS, z10, zm1, Bool.false_eq_true, h1, h2, zc_188, yb_196_32, zb00, zBf, zBF, yb_196_88, yb_196_75]
    · have e := xlp (fun s => xm_R sc xt_M (d + 3) 196 32 [.ref 191, .int (nI k), .int (nI v), .int b, .int (sp_goal (xR w) k), .int (xfx (xF w) b (sp_goal (xR w) k)), .int (zB (xany (fun s => decide (xfx (xF w) (xR w (15 + 11 * v + s)) (sp_goal (xR w) k) = xfx (xF w) b (sp_goal (xR w) k) - 1)) s = true)), .int (nI s)] [] (xem w l t)) (K := some (.inl (some (.int (zB (xany (fun s => decide (xfx (xF w) (xR w (15 + 11 * v + s)) (sp_goal (xR w) k) = xfx (xF w) b (sp_goal (xR w) k) - 1)) (xst (xR w) v) = true)))), xem w l t)) (xst (xR w) v) (by
        intro s hs
        have hr := hW.rt hv hs
        rw [yb_196_32]
        simp (disch := first | omega | assumption) only [↓zbE, zbd_some, ↓xk_I, ↓xk_v, xgM_5, xiM, zRa, zRw, xR_s, xRs_s, zB_0, zB_1, zB_b01, ite_not, ↓reduceIte, nI_ge, zRa_0, zRa_1, zRa_2, zRa_3, zRa_4, zRa_5, zRw_0, zRw_1, zRw_2, zRw_3, zRw_4, zRw_5, zxV_0, zxV_1, zxV_2, zxK_0, zxK_1, zxK_2, zxK_3, zxK_4, zxK_5, zxQ_0, zxQ_1, zxQ_2, zxV_s, zxO, zxF, zc_161_0, zc_161_1, zc_161_2, zc_162_0, zc_162_1, zc_162_2, zc_163_0, zc_163_1, zc_163_2, zc_163_3, zc_163_4, zc_163_5, zc_164_0, zc_164_1, zc_164_2, zc_164_3, zc_164_4, zc_164_5, zc_165_0, zc_165_1, zc_165_2, zc_161_s, zc_162_s, zc_160, zc_166, zc_167, zc_168, zc_158, zc_159, zc_170, zc_169, zc_183, zc_184, zc_177, zc_178, zc_179, zc_180, zc_185, zc_186, zc_181, zc_182, zc_187, zc_188, zc_189, zc_190, zc_204, zc_205, zc_210, zc_214, zc_215, zc_216, zc_217, zc_219, zc_206, zFa, zFw, xF_s, xFs_s, xR_F, xgM_9, zc_193, zc_192, zc_191, zc_193x, zc_194, zc_198, zS, z10, zm1, Bool.false_eq_true, h2, hst, yb_196_88, yb_196_75]
        cases h3 : xany (fun s => decide (xfx (xF w) (xR w (15 + 11 * v + s)) (sp_goal (xR w) k) = xfx (xF w) b (sp_goal (xR w) k) - 1)) s <;> by_cases h4 : xfx (xF w) (xR w (15 + 11 * v + s)) (sp_goal (xR w) k) = xfx (xF w) b (sp_goal (xR w) k) - 1 <;> simp only [xany, h3, h4, zB, decide_true, decide_false, Bool.or_false, Bool.or_true, Bool.false_eq_true, ↓reduceIte]) (by
        rw [yb_196_32]
        simp (disch := first | omega | assumption) only [↓zbE, zbd_some, ↓xk_I, ↓xk_v, xgM_5, xiM, zRa, zRw, xR_s, xRs_s, zB_0, zB_1, zB_b01, ite_not, ↓reduceIte, nI_ge, zRa_0, zRa_1, zRa_2, zRa_3, zRa_4, zRa_5, zRw_0, zRw_1, zRw_2, zRw_3, zRw_4, zRw_5, zxV_0, zxV_1, zxV_2, zxK_0, zxK_1, zxK_2, zxK_3, zxK_4, zxK_5, zxQ_0, zxQ_1, zxQ_2, zxV_s, zxO, zxF, zc_161_0, zc_161_1, zc_161_2, zc_162_0, zc_162_1, zc_162_2, zc_163_0, zc_163_1, zc_163_2, zc_163_3, zc_163_4, zc_163_5, zc_164_0, zc_164_1, zc_164_2, zc_164_3, zc_164_4, zc_164_5, zc_165_0, zc_165_1, zc_165_2, zc_161_s, zc_162_s, zc_160, zc_166, zc_167, zc_168, zc_158, zc_159, zc_170, zc_169, zc_183, zc_184, zc_177, zc_178, zc_179, zc_180, zc_185, zc_186, zc_181, zc_182, zc_187, zc_188, zc_189, zc_190, zc_204, zc_205, zc_210, zc_214, zc_215, zc_216, zc_217, zc_219, zc_206, zFa, zFw, xF_s, xFs_s, xR_F, xgM_9, zc_193, zc_192, zc_191, zc_193x, zc_194, zc_198, zS, z10, zm1, Bool.false_eq_true, h2, hst, nI_le, yb_196_88, yb_196_75])
      have e0 : zB (xany (fun s => decide (xfx (xF w) (xR w (15 + 11 * v + s)) (sp_goal (xR w) k) = xfx (xF w) b (sp_goal (xR w) k) - 1)) 0 = true) = 0 := rfl
      rw [e0] at e
      rw [if_neg h1, if_neg h2]
      refine Eq.trans ?_ e
      simp (disch := first | omega | assumption) only [↓zbE, zbd_some, ↓xk_I, ↓xk_v, xgM_5, xiM, zRa, zRw, xR_s, xRs_s, zB_0, zB_1, zB_b01, ite_not, ↓reduceIte, nI_ge, zRa_0, zRa_1, zRa_2, zRa_3, zRa_4, zRa_5, zRw_0, zRw_1, zRw_2, zRw_3, zRw_4, zRw_5, zxV_0, zxV_1, zxV_2, zxK_0, zxK_1, zxK_2, zxK_3, zxK_4, zxK_5, zxQ_0, zxQ_1, zxQ_2, zxV_s, zxO, zxF, zc_161_0, zc_161_1, zc_161_2, zc_162_0, zc_162_1, zc_162_2, zc_163_0, zc_163_1, zc_163_2, zc_163_3, zc_163_4, zc_163_5, zc_164_0, zc_164_1, zc_164_2, zc_164_3, zc_164_4, zc_164_5, zc_165_0, zc_165_1, zc_165_2, zc_161_s, zc_162_s, zc_160, zc_166, zc_167, zc_168, zc_158, zc_159, zc_170, zc_169, zc_183, zc_184, zc_177, zc_178, zc_179, zc_180, zc_185, zc_186, zc_181, zc_182, zc_187, zc_188, zc_189, zc_190, zc_204, zc_205, zc_210, zc_214, zc_215, zc_216, zc_217, zc_219, zc_206, zFa, zFw, xF_s, xFs_s, xR_F, xgM_9, zc_193, zc_192, zc_191, zc_193x, zc_194, zc_198, zS, z10, zm1, Bool.false_eq_true, h1, zc_188]
      rfl
end RO
