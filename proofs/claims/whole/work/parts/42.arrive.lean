/-! THE REFERENCE: has a book arrived; where a van will stand -/
abbrev sp_arr (r : Nat → Int32) (k : Nat) : Prop := r (56 + 6 * k) = 2 ∨ (r (56 + 6 * k) = 0 ∧ sp_goal r k = r (57 + 6 * k))
section RZ
variable {w : xW} {l : Nat → Nat → Int64} {t : Nat} {sc : xm_Sc} {d : Nat}
theorem zc_229 {k : Nat} (hW : xWF (xR w)) (hk : k < xnk (xR w)) : xm_C sc xt_M (d + 4) 229 [.ref 191, .int (nI k)] (xem w l t) = some (.inl (some (.int (zB (sp_arr (xR w) k)))), xem w l t) := by
  have hB := hW.bd
  have hk20 := hB.k20
  have hq40 := hB.q40
  have hv4 := hB.v4
  have hb6 := hB.b6
  rw [yc_229]
  by_cases h2 : xR w (56 + 6 * k) = 2
  · rw [zB_tt (c := sp_arr (xR w) k) (Or.inl h2)]
    simp (disch := first | omega | assumption) only [↓zbE, zbd_some, ↓xk_I, ↓xk_v, xgM_5, xiM, zRa, zRw, xR_s, xRs_s, zB_0, zB_1, zB_b01, ite_not, ↓reduceIte, nI_ge, zRa_0, zRa_1, zRa_2, zRa_3, zRa_4, zRa_5, zRw_0, zRw_1, zRw_2, zRw_3, zRw_4, zRw_5, zxV_0, zxV_1, zxV_2, zxK_0, zxK_1, zxK_2, zxK_3, zxK_4, zxK_5, zxQ_0, zxQ_1, zxQ_2, zxV_s, zxO, zxF, zc_161_0, zc_161_1, zc_161_2, zc_162_0, zc_162_1, zc_162_2, zc_163_0, zc_163_1, zc_163_2, zc_163_3, zc_163_4, zc_163_5, zc_164_0, zc_164_1, zc_164_2, zc_164_3, zc_164_4, zc_164_5, zc_165_0, zc_165_1, zc_165_2, zc_161_s, zc_162_s, zc_160, zc_166, zc_167, zc_168, zc_158, zc_159, zc_170, zc_169, zc_183, zc_184, zc_177, zc_178, zc_179, zc_180, zc_185, zc_186, zc_181, zc_182, zc_187, zc_188, zc_189, zc_190, zc_204, zc_205, zc_210, zc_214, zc_215, zc_216, zc_217, zc_219, zc_206, zFa, zFw, xF_s, xFs_s, xR_F, xgM_9, zc_193, zc_192, zc_191, zc_193x, zc_194, zc_198, zc_195, zc_196, zS, z10, zm1, Bool.false_eq_true, h2, zc_188, yb_229_33, yb_229_37, z02]
  · by_cases h0 : xR w (56 + 6 * k) = 0
    · by_cases hg : sp_goal (xR w) k = xR w (57 + 6 * k)
      · rw [zB_tt (c := sp_arr (xR w) k) (Or.inr ⟨h0, hg⟩)]
        simp (disch := first | omega | assumption) only [↓zbE, zbd_some, ↓xk_I, ↓xk_v, xgM_5, xiM, zRa, zRw, xR_s, xRs_s, zB_0, zB_1, zB_b01, ite_not, ↓reduceIte, nI_ge, zRa_0, zRa_1, zRa_2, zRa_3, zRa_4, zRa_5, zRw_0, zRw_1, zRw_2, zRw_3, zRw_4, zRw_5, zxV_0, zxV_1, zxV_2, zxK_0, zxK_1, zxK_2, zxK_3, zxK_4, zxK_5, zxQ_0, zxQ_1, zxQ_2, zxV_s, zxO, zxF, zc_161_0, zc_161_1, zc_161_2, zc_162_0, zc_162_1, zc_162_2, zc_163_0, zc_163_1, zc_163_2, zc_163_3, zc_163_4, zc_163_5, zc_164_0, zc_164_1, zc_164_2, zc_164_3, zc_164_4, zc_164_5, zc_165_0, zc_165_1, zc_165_2, zc_161_s, zc_162_s, zc_160, zc_166, zc_167, zc_168, zc_158, zc_159, zc_170, zc_169, zc_183, zc_184, zc_177, zc_178, zc_179, zc_180, zc_185, zc_186, zc_181, zc_182, zc_187, zc_188, zc_189, zc_190, zc_204, zc_205, zc_210, zc_214, zc_215, zc_216, zc_217, zc_219, zc_206, zFa, zFw, xF_s, xFs_s, xR_F, xgM_9, zc_193, zc_192, zc_191, zc_193x, zc_194, zc_198, zc_195, zc_196, zS, z10, zm1, Bool.false_eq_true, h2, h0, eq_true hg, zc_188, yb_229_33, yb_229_37, z02]
      · rw [zB_ff (c := sp_arr (xR w) k) (fun h => h.elim h2 (fun g => hg g.2))]
        simp (disch := first | omega | assumption) only [↓zbE, zbd_some, ↓xk_I, ↓xk_v, xgM_5, xiM, zRa, zRw, xR_s, xRs_s, zB_0, zB_1, zB_b01, ite_not, ↓reduceIte, nI_ge, zRa_0, zRa_1, zRa_2, zRa_3, zRa_4, zRa_5, zRw_0, zRw_1, zRw_2, zRw_3, zRw_4, zRw_5, zxV_0, zxV_1, zxV_2, zxK_0, zxK_1, zxK_2, zxK_3, zxK_4, zxK_5, zxQ_0, zxQ_1, zxQ_2, zxV_s, zxO, zxF, zc_161_0, zc_161_1, zc_161_2, zc_162_0, zc_162_1, zc_162_2, zc_163_0, zc_163_1, zc_163_2, zc_163_3, zc_163_4, zc_163_5, zc_164_0, zc_164_1, zc_164_2, zc_164_3, zc_164_4, zc_164_5, zc_165_0, zc_165_1, zc_165_2, zc_161_s, zc_162_s, zc_160, zc_166, zc_167, zc_168, zc_158, zc_159, zc_170, zc_169, zc_183, zc_184, zc_177, zc_178, zc_179, zc_180, zc_185, zc_186, zc_181, zc_182, zc_187, zc_188, zc_189, zc_190, zc_204, zc_205, zc_210, zc_214, zc_215, zc_216, zc_217, zc_219, zc_206, zFa, zFw, xF_s, xFs_s, xR_F, xgM_9, zc_193, zc_192, zc_191, zc_193x, zc_194, zc_198, zc_195, zc_196, zS, z10, zm1, Bool.false_eq_true, h2, h0, hg, zc_188, yb_229_33, yb_229_37, z02]
    · rw [zB_ff (c := sp_arr (xR w) k) (fun h => h.elim h2 (fun g => h0 g.1))]
      simp (disch := first | omega | assumption) only [↓zbE, zbd_some, ↓xk_I, ↓xk_v, xgM_5, xiM, zRa, zRw, xR_s, xRs_s, zB_0, zB_1, zB_b01, ite_not, ↓reduceIte, nI_ge, zRa_0, zRa_1, zRa_2, zRa_3, zRa_4, zRa_5, zRw_0, zRw_1, zRw_2, zRw_3, zRw_4, zRw_5, zxV_0, zxV_1, zxV_2, zxK_0, zxK_1, zxK_2, zxK_3, zxK_4, zxK_5, zxQ_0, zxQ_1, zxQ_2, zxV_s, zxO, zxF, zc_161_0, zc_161_1, zc_161_2, zc_162_0, zc_162_1, zc_162_2, zc_163_0, zc_163_1, zc_163_2, zc_163_3, zc_163_4, zc_163_5, zc_164_0, zc_164_1, zc_164_2, zc_164_3, zc_164_4, zc_164_5, zc_165_0, zc_165_1, zc_165_2, zc_161_s, zc_162_s, zc_160, zc_166, zc_167, zc_168, zc_158, zc_159, zc_170, zc_169, zc_183, zc_184, zc_177, zc_178, zc_179, zc_180, zc_185, zc_186, zc_181, zc_182, zc_187, zc_188, zc_189, zc_190, zc_204, zc_205, zc_210, zc_214, zc_215, zc_216, zc_217, zc_219, zc_206, zFa, zFw, xF_s, xFs_s, xR_F, xgM_9, zc_193, zc_192, zc_191, zc_193x, zc_194, zc_198, zc_195, zc_196, zS, z10, zm1, Bool.false_eq_true, h2, h0, zc_188, yb_229_33, yb_229_37, z02]
def sp_bin (r : Nat → Int32) (v c : Nat) : Int32 := r (15 + 11 * v + ((r (14 + 11 * v)).toNatClampNeg + c) % xst r v)
theorem zc_225 {v c : Nat} (hW : xWF (xR w)) (hv : v < xnv (xR w)) (hc : c < 90) : xm_C sc xt_M (d + 2) 225 [.ref 191, .int (nI v), .int (nI c)] (xem w l t) = some (.inl (some (.int (sp_bin (xR w) v c))), xem w l t) := by
  have hB := hW.bd
  have hk20 := hB.k20
  have hq40 := hB.q40
  have hv4 := hB.v4
  have hb6 := hB.b6
  obtain ⟨p1, p2, p3, p4, p5⟩ := hW.v v hv
  have st := hW.st hv
  have h9 := hW.st9 hv
  have hp := p4.1
  have hp2 := p4.2
  have hm : ((xR w (14 + 11 * v)).toNatClampNeg + c) % xst (xR w) v < xst (xR w) v := Nat.mod_lt _ (by omega)
  have hz : nI ((xR w (14 + 11 * v)).toNatClampNeg + c) - nI ((xR w (14 + 11 * v)).toNatClampNeg + c) / nI (xst (xR w) v) * nI (xst (xR w) v) = nI (((xR w (14 + 11 * v)).toNatClampNeg + c) % xst (xR w) v) := zmod _ (by omega) _ (by omega) (by omega)
  have st0 : ¬ nI (xst (xR w) v) = 0 := fun h => by
    have h2 := nI_inj (a := xst (xR w) v) (b := 0) (by omega) (by omega) h
    omega
  have eat : xR w (14 + 11 * v) + nI c = nI ((xR w (14 + 11 * v)).toNatClampNeg + c) := by rw [← zA, ← hp]
  unfold sp_bin
  rw [yc_225]
  simp (disch := first | omega | assumption) only [↓zbE, zbd_some, ↓xk_I, ↓xk_v, xgM_5, xiM, zRa, zRw, xR_s, xRs_s, zB_0, zB_1, zB_b01, ite_not, ↓reduceIte, nI_ge, zRa_0, zRa_1, zRa_2, zRa_3, zRa_4, zRa_5, zRw_0, zRw_1, zRw_2, zRw_3, zRw_4, zRw_5, zxV_0, zxV_1, zxV_2, zxK_0, zxK_1, zxK_2, zxK_3, zxK_4, zxK_5, zxQ_0, zxQ_1, zxQ_2, zxV_s, zxO, zxF, zc_161_0, zc_161_1, zc_161_2, zc_162_0, zc_162_1, zc_162_2, zc_163_0, zc_163_1, zc_163_2, zc_163_3, zc_163_4, zc_163_5, zc_164_0, zc_164_1, zc_164_2, zc_164_3, zc_164_4, zc_164_5, zc_165_0, zc_165_1, zc_165_2, zc_161_s, zc_162_s, zc_160, zc_166, zc_167, zc_168, zc_158, zc_159, zc_170, zc_169, zc_183, zc_184, zc_177, zc_178, zc_179, zc_180, zc_185, zc_186, zc_181, zc_182, zc_187, zc_188, zc_189, zc_190, zc_204, zc_205, zc_210, zc_214, zc_215, zc_216, zc_217, zc_219, zc_206, zFa, zFw, xF_s, xFs_s, xR_F, xgM_9, zc_193, zc_192, zc_191, zc_193x, zc_194, zc_198, zc_195, zc_196, zS, z10, zm1, Bool.false_eq_true, st, st0, eat, hz]
end RZ
