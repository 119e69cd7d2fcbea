/-! THE REFERENCE: mostWanted -/
def sp_most (r : Nat → Int32) (b : Int32) : Int32 := if b = -1 then 0 else sp_queue r b
def sp_mw (r : Nat → Int32) : Nat → Int32
  | 0 => -1
  | i + 1 => if sp_most r (sp_mw r i) < sp_queue r (nI i) then nI i else sp_mw r i
theorem sp_mw_pos {r : Nat → Int32} : ∀ i, i < 2 ^ 31 → sp_mw r i = -1 ∨ 0 < sp_queue r (sp_mw r i) := by
  intro i
  induction i with
  | zero => intro _; exact Or.inl rfl
  | succ i ih =>
    intro hi
    unfold sp_mw
    split
    · next h =>
      refine Or.inr ?_
      rcases ih (by omega) with g | g
      · rw [g] at h
        exact h
      · unfold sp_most at h
        split at h
        · exact h
        · exact Int32.lt_trans g h
    · exact ih (by omega)
section SD
variable {w : xW} {l : Nat → Nat → Int64} {t : Nat} {sc : xm_Sc} {d : Nat}
theorem zc_235 (hW : xWF (xR w)) : xm_C sc xt_M (d + 3) 235 [.ref 191] (xem w l t) = some (.inl (some (.int (sp_mw (xR w) (xnk (xR w))))), xem (xT w 0) l t) := by
  have hB := hW.bd
  have hk20 := hB.k20
  have hq40 := hB.q40
  have hv4 := hB.v4
  have hb6 := hB.b6
  have hW2 : xWF (xR (xT w 0)) := by rw [xR_T]; exact hW
  have hB2 : xBd (xR (xT w 0)) := by rw [xR_T]; exact hW.bd
  rw [yc_235, xsM_7T, zbs]
  refine xlp (fun i => xm_R sc xt_M (d + 2) 235 9 [.ref 191, .int (sp_mw (xR w) i), .int (nI i)] [] (xem (xT w 0) l t)) (xnk (xR w)) ?_ ?_
  · intro i hi
    have hm := @sp_mw_pos (xR w) i (by omega)
    rw [yb_235_9]
    by_cases h1 : sp_queue (xR w) (nI i) ≤ 0
    · have hn : ¬ sp_most (xR w) (sp_mw (xR w) i) < sp_queue (xR w) (nI i) := fun g => by
        unfold sp_most at g
        split at g
        · exact absurd h1 (Int32.not_le.mpr g)
        · next g2 => exact absurd (Int32.lt_of_lt_of_le (Int32.lt_trans (hm.resolve_left g2) g) h1) (by decide)
      rw [show sp_mw (xR w) (i + 1) = sp_mw (xR w) i from if_neg hn]
      simp (disch := first | omega | assumption | (rw [xR_T]; first | omega | assumption)) only [↓zbE, zbd_some, ↓xk_I, ↓xk_v, xgM_5, xiM, zRa, zRw, xR_s, xRs_s, zB_0, zB_1, zB_b01, ite_not, ↓reduceIte, nI_ge, zRa_0, zRa_1, zRa_2, zRa_3, zRa_4, zRa_5, zRw_0, zRw_1, zRw_2, zRw_3, zRw_4, zRw_5, zxV_0, zxV_1, zxV_2, zxK_0, zxK_1, zxK_2, zxK_3, zxK_4, zxK_5, zxQ_0, zxQ_1, zxQ_2, zxV_s, zxO, zxF, zc_161_0, zc_161_1, zc_161_2, zc_162_0, zc_162_1, zc_162_2, zc_163_0, zc_163_1, zc_163_2, zc_163_3, zc_163_4, zc_163_5, zc_164_0, zc_164_1, zc_164_2, zc_164_3, zc_164_4, zc_164_5, zc_165_0, zc_165_1, zc_165_2, zc_161_s, zc_162_s, zc_160, zc_166, zc_167, zc_168, zc_158, zc_159, zc_169, zc_183, zc_184, zc_177, zc_178, zc_179, zc_180, zc_185, zc_186, zc_181, zc_182, zc_187, zc_188, zc_189, zc_190, zc_204, zc_205, zc_210, zc_214, zc_215, zc_216, zc_217, zc_219, zc_206, zc_170_0, zc_170_1, xT_T, xR_T, xsM_7T, z10, zc_211, zc_218, zc_212, zc_220, zc_221, zc_222, zc_234, zFa, zFw, xF_s, xFs_s, xR_F, xF_T, xgM_9, zc_193, zc_192, zc_191, zc_225, zc_229, zc_226, zc_227, h1, zS, hB.k, zc_178, yb_235_45, yb_235_47]
    · by_cases h2 : sp_mw (xR w) i = -1
      · have hn : sp_most (xR w) (sp_mw (xR w) i) < sp_queue (xR w) (nI i) := by
          rw [h2]
          exact Int32.not_le.mp h1
        rw [show sp_mw (xR w) (i + 1) = nI i from if_pos hn]
        simp (disch := first | omega | assumption | (rw [xR_T]; first | omega | assumption)) only [↓zbE, zbd_some, ↓xk_I, ↓xk_v, xgM_5, xiM, zRa, zRw, xR_s, xRs_s, zB_0, zB_1, zB_b01, ite_not, ↓reduceIte, nI_ge, zRa_0, zRa_1, zRa_2, zRa_3, zRa_4, zRa_5, zRw_0, zRw_1, zRw_2, zRw_3, zRw_4, zRw_5, zxV_0, zxV_1, zxV_2, zxK_0, zxK_1, zxK_2, zxK_3, zxK_4, zxK_5, zxQ_0, zxQ_1, zxQ_2, zxV_s, zxO, zxF, zc_161_0, zc_161_1, zc_161_2, zc_162_0, zc_162_1, zc_162_2, zc_163_0, zc_163_1, zc_163_2, zc_163_3, zc_163_4, zc_163_5, zc_164_0, zc_164_1, zc_164_2, zc_164_3, zc_164_4, zc_164_5, zc_165_0, zc_165_1, zc_165_2, zc_161_s, zc_162_s, zc_160, zc_166, zc_167, zc_168, zc_158, zc_159, zc_169, zc_183, zc_184, zc_177, zc_178, zc_179, zc_180, zc_185, zc_186, zc_181, zc_182, zc_187, zc_188, zc_189, zc_190, zc_204, zc_205, zc_210, zc_214, zc_215, zc_216, zc_217, zc_219, zc_206, zc_170_0, zc_170_1, xT_T, xR_T, xsM_7T, z10, zc_211, zc_218, zc_212, zc_220, zc_221, zc_222, zc_234, zFa, zFw, xF_s, xFs_s, xR_F, xF_T, xgM_9, zc_193, zc_192, zc_191, zc_225, zc_229, zc_226, zc_227, h1, h2, zm1, zS, hB.k, zc_178, yb_235_45, yb_235_47]
      · by_cases h3 : sp_queue (xR w) (nI i) ≤ sp_queue (xR w) (sp_mw (xR w) i)
        · have hn : ¬ sp_most (xR w) (sp_mw (xR w) i) < sp_queue (xR w) (nI i) := by
            unfold sp_most
            rw [if_neg h2]
            exact Int32.not_lt.mpr h3
          rw [show sp_mw (xR w) (i + 1) = sp_mw (xR w) i from if_neg hn]
          simp (disch := first | omega | assumption | (rw [xR_T]; first | omega | assumption)) only [↓zbE, zbd_some, ↓xk_I, ↓xk_v, xgM_5, xiM, zRa, zRw, xR_s, xRs_s, zB_0, zB_1, zB_b01, ite_not, ↓reduceIte, nI_ge, zRa_0, zRa_1, zRa_2, zRa_3, zRa_4, zRa_5, zRw_0, zRw_1, zRw_2, zRw_3, zRw_4, zRw_5, zxV_0, zxV_1, zxV_2, zxK_0, zxK_1, zxK_2, zxK_3, zxK_4, zxK_5, zxQ_0, zxQ_1, zxQ_2, zxV_s, zxO, zxF, zc_161_0, zc_161_1, zc_161_2, zc_162_0, zc_162_1, zc_162_2, zc_163_0, zc_163_1, zc_163_2, zc_163_3, zc_163_4, zc_163_5, zc_164_0, zc_164_1, zc_164_2, zc_164_3, zc_164_4, zc_164_5, zc_165_0, zc_165_1, zc_165_2, zc_161_s, zc_162_s, zc_160, zc_166, zc_167, zc_168, zc_158, zc_159, zc_169, zc_183, zc_184, zc_177, zc_178, zc_179, zc_180, zc_185, zc_186, zc_181, zc_182, zc_187, zc_188, zc_189, zc_190, zc_204, zc_205, zc_210, zc_214, zc_215, zc_216, zc_217, zc_219, zc_206, zc_170_0, zc_170_1, xT_T, xR_T, xsM_7T, z10, zc_211, zc_218, zc_212, zc_220, zc_221, zc_222, zc_234, zFa, zFw, xF_s, xFs_s, xR_F, xF_T, xgM_9, zc_193, zc_192, zc_191, zc_225, zc_229, zc_226, zc_227, h1, h2, h3, zS, hB.k, zc_178, yb_235_45, yb_235_47]
        · have hn : sp_most (xR w) (sp_mw (xR w) i) < sp_queue (xR w) (nI i) := by
            unfold sp_most
            rw [if_neg h2]
            exact Int32.not_le.mp h3
          rw [show sp_mw (xR w) (i + 1) = nI i from if_pos hn]
          simp (disch := first | omega | assumption | (rw [xR_T]; first | omega | assumption)) only [↓zbE, zbd_some, ↓xk_I, ↓xk_v, xgM_5, xiM, zRa, zRw, xR_s, xRs_s, zB_0, zB_1, zB_b01, ite_not, ↓reduceIte, nI_ge, zRa_0, zRa_1, zRa_2, zRa_3, zRa_4, zRa_5, zRw_0, zRw_1, zRw_2, zRw_3, zRw_4, zRw_5, zxV_0, zxV_1, zxV_2, zxK_0, zxK_1, zxK_2, zxK_3, zxK_4, zxK_5, zxQ_0, zxQ_1, zxQ_2, zxV_s, zxO, zxF, zc_161_0, zc_161_1, zc_161_2, zc_162_0, zc_162_1, zc_162_2, zc_163_0, zc_163_1, zc_163_2, zc_163_3, zc_163_4, zc_163_5, zc_164_0, zc_164_1, zc_164_2, zc_164_3, zc_164_4, zc_164_5, zc_165_0, zc_165_1, zc_165_2, zc_161_s, zc_162_s, zc_160, zc_166, zc_167, zc_168, zc_158, zc_159, zc_169, zc_183, zc_184, zc_177, zc_178, zc_179, zc_180, zc_185, zc_186, zc_181, zc_182, zc_187, zc_188, zc_189, zc_190, zc_204, zc_205, zc_210, zc_214, zc_215, zc_216, zc_217, zc_219, zc_206, zc_170_0, zc_170_1, xT_T, xR_T, xsM_7T, z10, zc_211, zc_218, zc_212, zc_220, zc_221, zc_222, zc_234, zFa, zFw, xF_s, xFs_s, xR_F, xF_T, xgM_9, zc_193, zc_192, zc_191, zc_225, zc_229, zc_226, zc_227, h1, h2, h3, zS, hB.k, zc_178, yb_235_45, yb_235_47]
  · rw [yb_235_9]
    simp (disch := first | omega | assumption | (rw [xR_T]; first | omega | assumption)) only [↓zbE, zbd_some, ↓xk_I, ↓xk_v, xgM_5, xiM, zRa, zRw, xR_s, xRs_s, zB_0, zB_1, zB_b01, ite_not, ↓reduceIte, nI_ge, zRa_0, zRa_1, zRa_2, zRa_3, zRa_4, zRa_5, zRw_0, zRw_1, zRw_2, zRw_3, zRw_4, zRw_5, zxV_0, zxV_1, zxV_2, zxK_0, zxK_1, zxK_2, zxK_3, zxK_4, zxK_5, zxQ_0, zxQ_1, zxQ_2, zxV_s, zxO, zxF, zc_161_0, zc_161_1, zc_161_2, zc_162_0, zc_162_1, zc_162_2, zc_163_0, zc_163_1, zc_163_2, zc_163_3, zc_163_4, zc_163_5, zc_164_0, zc_164_1, zc_164_2, zc_164_3, zc_164_4, zc_164_5, zc_165_0, zc_165_1, zc_165_2, zc_161_s, zc_162_s, zc_160, zc_166, zc_167, zc_168, zc_158, zc_159, zc_169, zc_183, zc_184, zc_177, zc_178, zc_179, zc_180, zc_185, zc_186, zc_181, zc_182, zc_187, zc_188, zc_189, zc_190, zc_204, zc_205, zc_210, zc_214, zc_215, zc_216, zc_217, zc_219, zc_206, zc_170_0, zc_170_1, xT_T, xR_T, xsM_7T, z10, zc_211, zc_218, zc_212, zc_220, zc_221, zc_222, zc_234, zFa, zFw, xF_s, xFs_s, xR_F, xF_T, xgM_9, zc_193, zc_192, zc_191, zc_225, zc_229, zc_226, zc_227, hB.k, nI_le]
end SD
