/-! THE REFERENCE: the legs a book has left -/
abbrev sp_llc (r : Nat → Int32) (k : Nat) : Prop := (r (56 + 6 * k) = 0 ∨ r (56 + 6 * k) = 2) ∧ ¬ sp_goal r k = -1
def sp_ll (f r : Nat → Int32) (k : Nat) : Int32 × (Nat → Int32) := if sp_llc r k then (xfx (sp_far r f) (r (57 + 6 * k)) (sp_goal r k), sp_far r f) else (-1, f)
section RW
variable {w : xW} {l : Nat → Nat → Int64} {t : Nat} {sc : xm_Sc} {d : Nat}
theorem z00 : ((0 : Int32) = 0) = True := eq_true rfl
theorem z20 : ((2 : Int32) = 0) = False := eq_false (by decide)
theorem zc_207 {r f j : Nat → Int32} {k : Nat} (hW : xWF r) (hk : k < xnk r) : xm_C sc xt_M (d + 5) 207 [.ref 191, .int (nI k)] (xem (xMw w r f j) l t) =
    some (.inl (some (.int (sp_ll f r k).1)), xem (xMw w r (sp_ll f r k).2 j) l t) := by
  have hB := hW.bd
  have hk20 := hB.k20
  have hq40 := hB.q40
  have hv4 := hB.v4
  have hb6 := hB.b6
  have b19 : ∀ (hp : r (56 + 6 * k) = 0 ∨ r (56 + 6 * k) = 2), xm_R sc xt_M (d + 4) 207 19 [.ref 191, .int (nI k), .null] [] (xem (xMw w r f j) l t) = some (.inl (some (.int (sp_ll f r k).1)), xem (xMw w r (sp_ll f r k).2 j) l t) := by
    intro hp
    rw [yb_207_19]
    unfold sp_ll
    by_cases h1 : sp_goal r k = -1
    · have hc := fun (h : sp_llc r k) => h.2 h1
      rw [if_neg (show ¬ (1 : Int32) = 0 by decide), if_neg (c := sp_llc r k) hc]
      simp (disch := first | omega | assumption | (rw [xR_M]; first | omega | assumption)) only [↓zbE, zbd_some, ↓xk_I, ↓xk_v, xgM_5, xiM, zRa, zRw, xR_s, xRs_s, zB_0, zB_1, zB_b01, ite_not, ↓reduceIte, nI_ge, zRa_0, zRa_1, zRa_2, zRa_3, zRa_4, zRa_5, zRw_0, zRw_1, zRw_2, zRw_3, zRw_4, zRw_5, zxV_0, zxV_1, zxV_2, zxK_0, zxK_1, zxK_2, zxK_3, zxK_4, zxK_5, zxQ_0, zxQ_1, zxQ_2, zxV_s, zxO, zxF, zc_161_0, zc_161_1, zc_161_2, zc_162_0, zc_162_1, zc_162_2, zc_163_0, zc_163_1, zc_163_2, zc_163_3, zc_163_4, zc_163_5, zc_164_0, zc_164_1, zc_164_2, zc_164_3, zc_164_4, zc_164_5, zc_165_0, zc_165_1, zc_165_2, zc_161_s, zc_162_s, zc_160, zc_166, zc_167, zc_168, zc_158, zc_159, zc_170, zc_169, zc_183, zc_184, zc_177, zc_178, zc_179, zc_180, zc_185, zc_186, zc_181, zc_182, zc_187, zc_188, zc_189, zc_190, zc_204, zc_205, zc_210, zc_214, zc_215, zc_216, zc_217, zc_219, zc_206, zFa, zFw, xF_s, xFs_s, xR_F, xgM_9, zc_193, zc_192, zc_191, zc_193x, zc_194, zc_198, zc_195, zc_196, z10, zS, xR_M, xF_M, xJ_M, xRs_M, xFs_M, xJs_M, zJa, zJw, xgM_11, zu1, zc_197, zc_199, zc_200, zc_176, zc_201, zc_202, zc_203, h1, zc_188, yb_207_38]
    · have hg : xib (sp_goal r k) := by
        rcases sp_goal_ib hW hk with h | h
        · exact absurd h h1
        · exact xil_le h.1 hb6
      have hpl : xib (r (57 + 6 * k)) := xil_ib hW ((hW.k k hk).2.2.2.1 hp)
      have hc : sp_llc r k := ⟨hp, h1⟩
      rw [if_neg (show ¬ (1 : Int32) = 0 by decide), if_pos (c := sp_llc r k) hc]
      simp (disch := first | omega | assumption | (rw [xR_M]; first | omega | assumption)) only [↓zbE, zbd_some, ↓xk_I, ↓xk_v, xgM_5, xiM, zRa, zRw, xR_s, xRs_s, zB_0, zB_1, zB_b01, ite_not, ↓reduceIte, nI_ge, zRa_0, zRa_1, zRa_2, zRa_3, zRa_4, zRa_5, zRw_0, zRw_1, zRw_2, zRw_3, zRw_4, zRw_5, zxV_0, zxV_1, zxV_2, zxK_0, zxK_1, zxK_2, zxK_3, zxK_4, zxK_5, zxQ_0, zxQ_1, zxQ_2, zxV_s, zxO, zxF, zc_161_0, zc_161_1, zc_161_2, zc_162_0, zc_162_1, zc_162_2, zc_163_0, zc_163_1, zc_163_2, zc_163_3, zc_163_4, zc_163_5, zc_164_0, zc_164_1, zc_164_2, zc_164_3, zc_164_4, zc_164_5, zc_165_0, zc_165_1, zc_165_2, zc_161_s, zc_162_s, zc_160, zc_166, zc_167, zc_168, zc_158, zc_159, zc_170, zc_169, zc_183, zc_184, zc_177, zc_178, zc_179, zc_180, zc_185, zc_186, zc_181, zc_182, zc_187, zc_188, zc_189, zc_190, zc_204, zc_205, zc_210, zc_214, zc_215, zc_216, zc_217, zc_219, zc_206, zFa, zFw, xF_s, xFs_s, xR_F, xgM_9, zc_193, zc_192, zc_191, zc_193x, zc_194, zc_198, zc_195, zc_196, z10, zS, xR_M, xF_M, xJ_M, xRs_M, xFs_M, xJs_M, zJa, zJw, xgM_11, zu1, zc_197, zc_199, zc_200, zc_176, zc_201, zc_202, zc_203, h1, zc_188, yb_207_38]
  rw [yc_207]
  by_cases h0 : r (56 + 6 * k) = 0
  · have e := b19 (Or.inl h0)
    simp (disch := first | omega | assumption | (rw [xR_M]; first | omega | assumption)) only [↓zbE, zbd_some, ↓xk_I, ↓xk_v, xgM_5, xiM, zRa, zRw, xR_s, xRs_s, zB_0, zB_1, zB_b01, ite_not, ↓reduceIte, nI_ge, zRa_0, zRa_1, zRa_2, zRa_3, zRa_4, zRa_5, zRw_0, zRw_1, zRw_2, zRw_3, zRw_4, zRw_5, zxV_0, zxV_1, zxV_2, zxK_0, zxK_1, zxK_2, zxK_3, zxK_4, zxK_5, zxQ_0, zxQ_1, zxQ_2, zxV_s, zxO, zxF, zc_161_0, zc_161_1, zc_161_2, zc_162_0, zc_162_1, zc_162_2, zc_163_0, zc_163_1, zc_163_2, zc_163_3, zc_163_4, zc_163_5, zc_164_0, zc_164_1, zc_164_2, zc_164_3, zc_164_4, zc_164_5, zc_165_0, zc_165_1, zc_165_2, zc_161_s, zc_162_s, zc_160, zc_166, zc_167, zc_168, zc_158, zc_159, zc_170, zc_169, zc_183, zc_184, zc_177, zc_178, zc_179, zc_180, zc_185, zc_186, zc_181, zc_182, zc_187, zc_188, zc_189, zc_190, zc_204, zc_205, zc_210, zc_214, zc_215, zc_216, zc_217, zc_219, zc_206, zFa, zFw, xF_s, xFs_s, xR_F, xgM_9, zc_193, zc_192, zc_191, zc_193x, zc_194, zc_198, zc_195, zc_196, z10, zS, xR_M, xF_M, xJ_M, xRs_M, xFs_M, xJs_M, zJa, zJw, xgM_11, zu1, zc_197, zc_199, zc_200, zc_176, zc_201, zc_202, zc_203, h0, e]
  · by_cases h2 : r (56 + 6 * k) = 2
    · have e := b19 (Or.inr h2)
      simp (disch := first | omega | assumption | (rw [xR_M]; first | omega | assumption)) only [↓zbE, zbd_some, ↓xk_I, ↓xk_v, xgM_5, xiM, zRa, zRw, xR_s, xRs_s, zB_0, zB_1, zB_b01, ite_not, ↓reduceIte, nI_ge, zRa_0, zRa_1, zRa_2, zRa_3, zRa_4, zRa_5, zRw_0, zRw_1, zRw_2, zRw_3, zRw_4, zRw_5, zxV_0, zxV_1, zxV_2, zxK_0, zxK_1, zxK_2, zxK_3, zxK_4, zxK_5, zxQ_0, zxQ_1, zxQ_2, zxV_s, zxO, zxF, zc_161_0, zc_161_1, zc_161_2, zc_162_0, zc_162_1, zc_162_2, zc_163_0, zc_163_1, zc_163_2, zc_163_3, zc_163_4, zc_163_5, zc_164_0, zc_164_1, zc_164_2, zc_164_3, zc_164_4, zc_164_5, zc_165_0, zc_165_1, zc_165_2, zc_161_s, zc_162_s, zc_160, zc_166, zc_167, zc_168, zc_158, zc_159, zc_170, zc_169, zc_183, zc_184, zc_177, zc_178, zc_179, zc_180, zc_185, zc_186, zc_181, zc_182, zc_187, zc_188, zc_189, zc_190, zc_204, zc_205, zc_210, zc_214, zc_215, zc_216, zc_217, zc_219, zc_206, zFa, zFw, xF_s, xFs_s, xR_F, xgM_9, zc_193, zc_192, zc_191, zc_193x, zc_194, zc_198, zc_195, zc_196, z10, zS, xR_M, xF_M, xJ_M, xRs_M, xFs_M, xJs_M, zJa, zJw, xgM_11, zu1, zc_197, zc_199, zc_200, zc_176, zc_201, zc_202, zc_203, h0, h2, e, z20]
    · have hc : ¬ sp_llc r k := fun h => h.1.elim h0 h2
      unfold sp_ll
      simp (disch := first | omega | assumption | (rw [xR_M]; first | omega | assumption)) only [↓zbE, zbd_some, ↓xk_I, ↓xk_v, xgM_5, xiM, zRa, zRw, xR_s, xRs_s, zB_0, zB_1, zB_b01, ite_not, ↓reduceIte, nI_ge, zRa_0, zRa_1, zRa_2, zRa_3, zRa_4, zRa_5, zRw_0, zRw_1, zRw_2, zRw_3, zRw_4, zRw_5, zxV_0, zxV_1, zxV_2, zxK_0, zxK_1, zxK_2, zxK_3, zxK_4, zxK_5, zxQ_0, zxQ_1, zxQ_2, zxV_s, zxO, zxF, zc_161_0, zc_161_1, zc_161_2, zc_162_0, zc_162_1, zc_162_2, zc_163_0, zc_163_1, zc_163_2, zc_163_3, zc_163_4, zc_163_5, zc_164_0, zc_164_1, zc_164_2, zc_164_3, zc_164_4, zc_164_5, zc_165_0, zc_165_1, zc_165_2, zc_161_s, zc_162_s, zc_160, zc_166, zc_167, zc_168, zc_158, zc_159, zc_170, zc_169, zc_183, zc_184, zc_177, zc_178, zc_179, zc_180, zc_185, zc_186, zc_181, zc_182, zc_187, zc_188, zc_189, zc_190, zc_204, zc_205, zc_210, zc_214, zc_215, zc_216, zc_217, zc_219, zc_206, zFa, zFw, xF_s, xFs_s, xR_F, xgM_9, zc_193, zc_192, zc_191, zc_193x, zc_194, zc_198, zc_195, zc_196, z10, zS, xR_M, xF_M, xJ_M, xRs_M, xFs_M, xJs_M, zJa, zJw, xgM_11, zu1, zc_197, zc_199, zc_200, zc_176, zc_201, zc_202, zc_203, h0, h2, eq_false hc, or_self, false_and, zc_188, yb_207_38]
end RW
