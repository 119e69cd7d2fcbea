/-! THE REFERENCE: legs -/
abbrev sp_lgc (r : Nat → Int32) (a b : Int32) : Prop := (0 ≤ a ∧ a ≤ r 0 - 1) ∧ 0 ≤ b ∧ b ≤ r 0 - 1
section SC
variable {w : xW} {l : Nat → Nat → Int64} {t : Nat} {sc : xm_Sc} {d : Nat}
theorem zc_223 {r f j : Nat → Int32} {a b : Int32} (hW : xWF r) : xm_C sc xt_M (d + 5) 223 [.ref 191, .int a, .int b] (xem (xMw w r f j) l t) =
    if sp_lgc r a b then some (.inl (some (.int (xfx (sp_far r f) a b))), xem (xMw (xT w 0) r (sp_far r f) j) l t) else some (.inl (some (.int 0)), xem (xMw (xT w 1) r f j) l t) := by
  have hB := hW.bd
  have hk20 := hB.k20
  have hq40 := hB.q40
  have hv4 := hB.v4
  have hb6 := hB.b6
  rw [yc_223]
  by_cases hc : 0 ≤ a ∧ a ≤ r 0 - 1
  · by_cases hb : 0 ≤ b ∧ b ≤ r 0 - 1
    · have hp : sp_lgc r a b := ⟨hc, hb⟩
      rw [if_pos (c := sp_lgc r a b) hp]
      have hc' := hc
      rw [hB.b] at hc'
      obtain ⟨n, hn, rfl⟩ := zrg (by omega) hc'
      have hb' := hb
      rw [hB.b] at hb'
      obtain ⟨m, hm, rfl⟩ := zrg (by omega) hb'
      have i1 : xib (nI n) := xil_nI (by omega) (by omega)
      have i2 : xib (nI m) := xil_nI (by omega) (by omega)
      simp (disch := first | omega | assumption | (rw [xR_M]; first | omega | assumption)) only [↓zbE, zbd_some, ↓xk_I, ↓xk_v, xgM_5, xiM, zRa, zRw, xR_s, xRs_s, zB_0, zB_1, zB_b01, ite_not, ↓reduceIte, nI_ge, zRa_0, zRa_1, zRa_2, zRa_3, zRa_4, zRa_5, zRw_0, zRw_1, zRw_2, zRw_3, zRw_4, zRw_5, zxV_0, zxV_1, zxV_2, zxK_0, zxK_1, zxK_2, zxK_3, zxK_4, zxK_5, zxQ_0, zxQ_1, zxQ_2, zxV_s, zxO, zxF, zc_161_0, zc_161_1, zc_161_2, zc_162_0, zc_162_1, zc_162_2, zc_163_0, zc_163_1, zc_163_2, zc_163_3, zc_163_4, zc_163_5, zc_164_0, zc_164_1, zc_164_2, zc_164_3, zc_164_4, zc_164_5, zc_165_0, zc_165_1, zc_165_2, zc_161_s, zc_162_s, zc_160, zc_166, zc_167, zc_168, zc_158, zc_159, zc_169, zc_183, zc_184, zc_177, zc_178, zc_179, zc_180, zc_185, zc_186, zc_181, zc_182, zc_187, zc_188, zc_189, zc_190, zc_204, zc_205, zc_210, zc_214, zc_215, zc_216, zc_217, zc_219, zc_206, zFa, zFw, xF_s, xFs_s, xR_F, xgM_9, zc_192, zc_191, zc_193x, zc_194, zc_198, zc_195, zc_196, z10, zS, xR_M, xF_M, xJ_M, xRs_M, xFs_M, xJs_M, zJa, zJw, xgM_11, zu1, zc_197, zc_199, zc_200, zc_176, zc_201, zc_202, zc_203, zc_207, zc_208, zc_225, zc_229, zc_170_0, zc_170_1, xT_M, zB_tt hc, zB_tt hb, zc_193x]
    · have hp := fun (h : sp_lgc r a b) => hb h.2
      rw [if_neg (c := sp_lgc r a b) hp]
      simp (disch := first | omega | assumption | (rw [xR_M]; first | omega | assumption)) only [↓zbE, zbd_some, ↓xk_I, ↓xk_v, xgM_5, xiM, zRa, zRw, xR_s, xRs_s, zB_0, zB_1, zB_b01, ite_not, ↓reduceIte, nI_ge, zRa_0, zRa_1, zRa_2, zRa_3, zRa_4, zRa_5, zRw_0, zRw_1, zRw_2, zRw_3, zRw_4, zRw_5, zxV_0, zxV_1, zxV_2, zxK_0, zxK_1, zxK_2, zxK_3, zxK_4, zxK_5, zxQ_0, zxQ_1, zxQ_2, zxV_s, zxO, zxF, zc_161_0, zc_161_1, zc_161_2, zc_162_0, zc_162_1, zc_162_2, zc_163_0, zc_163_1, zc_163_2, zc_163_3, zc_163_4, zc_163_5, zc_164_0, zc_164_1, zc_164_2, zc_164_3, zc_164_4, zc_164_5, zc_165_0, zc_165_1, zc_165_2, zc_161_s, zc_162_s, zc_160, zc_166, zc_167, zc_168, zc_158, zc_159, zc_169, zc_183, zc_184, zc_177, zc_178, zc_179, zc_180, zc_185, zc_186, zc_181, zc_182, zc_187, zc_188, zc_189, zc_190, zc_204, zc_205, zc_210, zc_214, zc_215, zc_216, zc_217, zc_219, zc_206, zFa, zFw, xF_s, xFs_s, xR_F, xgM_9, zc_192, zc_191, zc_193x, zc_194, zc_198, zc_195, zc_196, z10, zS, xR_M, xF_M, xJ_M, xRs_M, xFs_M, xJs_M, zJa, zJw, xgM_11, zu1, zc_197, zc_199, zc_200, zc_176, zc_201, zc_202, zc_203, zc_207, zc_208, zc_225, zc_229, zc_170_0, zc_170_1, xT_M, zB_tt hc, zB_ff hb]
  · have hp := fun (h : sp_lgc r a b) => hc h.1
    rw [if_neg (c := sp_lgc r a b) hp]
    simp (disch := first | omega | assumption | (rw [xR_M]; first | omega | assumption)) only [↓zbE, zbd_some, ↓xk_I, ↓xk_v, xgM_5, xiM, zRa, zRw, xR_s, xRs_s, zB_0, zB_1, zB_b01, ite_not, ↓reduceIte, nI_ge, zRa_0, zRa_1, zRa_2, zRa_3, zRa_4, zRa_5, zRw_0, zRw_1, zRw_2, zRw_3, zRw_4, zRw_5, zxV_0, zxV_1, zxV_2, zxK_0, zxK_1, zxK_2, zxK_3, zxK_4, zxK_5, zxQ_0, zxQ_1, zxQ_2, zxV_s, zxO, zxF, zc_161_0, zc_161_1, zc_161_2, zc_162_0, zc_162_1, zc_162_2, zc_163_0, zc_163_1, zc_163_2, zc_163_3, zc_163_4, zc_163_5, zc_164_0, zc_164_1, zc_164_2, zc_164_3, zc_164_4, zc_164_5, zc_165_0, zc_165_1, zc_165_2, zc_161_s, zc_162_s, zc_160, zc_166, zc_167, zc_168, zc_158, zc_159, zc_169, zc_183, zc_184, zc_177, zc_178, zc_179, zc_180, zc_185, zc_186, zc_181, zc_182, zc_187, zc_188, zc_189, zc_190, zc_204, zc_205, zc_210, zc_214, zc_215, zc_216, zc_217, zc_219, zc_206, zFa, zFw, xF_s, xFs_s, xR_F, xgM_9, zc_192, zc_191, zc_193x, zc_194, zc_198, zc_195, zc_196, z10, zS, xR_M, xF_M, xJ_M, xRs_M, xFs_M, xJs_M, zJa, zJw, xgM_11, zu1, zc_197, zc_199, zc_200, zc_176, zc_201, zc_202, zc_203, zc_207, zc_208, zc_225, zc_229, zc_170_0, zc_170_1, xT_M, zB_ff hc]
end SC
