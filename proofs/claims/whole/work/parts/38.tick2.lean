/-! THE REFERENCE: tick -/
def sp_tick (f0 : Nat → Int32) (r j : Nat → Int32) (h : Int32) : (Nat → Int32) × Int32 :=
  sp_t4 (sp_t3 (sp_t2 (sp_far (upd r 4 (r 4 + 1)) f0) (upd r 4 (r 4 + 1), j) (xnv r)).1 (xnk r), h) (xnk r)
def sp_tickJ (f0 : Nat → Int32) (r j : Nat → Int32) : Nat → Int32 := (sp_t2 (sp_far (upd r 4 (r 4 + 1)) f0) (upd r 4 (r 4 + 1), j) (xnv r)).2
section RV
variable {w : xW} {l : Nat → Nat → Int64} {t : Nat} {sc : xm_Sc} {d : Nat}
theorem zc_203 {r f j : Nat → Int32} {h : Int32} (hW : xWF r) (ht : xil (r 4 + 1) 20000) : xm_C sc xt_M (d + 7) 203 [.ref 191] (xem (xMw (xHs w h) r f j) l t) =
    some (.inl none, xem (xMw (xHs w (sp_tick f r j h).2) (sp_tick f r j h).1 (sp_far (upd r 4 (r 4 + 1)) f) (sp_tickJ f r j)) l t) := by
  have hW1 := xWF_time hW ht
  have c1 : xct r (upd r 4 (r 4 + 1)) := ⟨zun (by omega), zun (by omega), zun (by omega)⟩
  unfold sp_tick sp_tickJ
  generalize hr1 : upd r 4 (r 4 + 1) = r1 at *
  generalize hf1 : sp_far r1 f = f1 at *
  obtain ⟨hW2, c2⟩ := @sp_t2_ok f1 (r1, j) hW1 (xnv r1) (Nat.le_refl _)
  rw [c1.v] at hW2 c2
  generalize hu : sp_t2 f1 (r1, j) (xnv r) = u2 at *
  have c2' := xct_t c1 c2
  obtain ⟨hW3, c3⟩ := @sp_t3_ok u2.1 hW2 (xnk u2.1) (Nat.le_refl _)
  rw [c2'.k] at hW3 c3
  have c3' := xct_t c2' c3
  have hk20 := hW.bd.k20
  have hv4 := hW.bd.v4
  have L4 := xlp (fun k => xm_R sc xt_M (d + 6) 203 62 [.ref 191, .int (nI k)] [] (xem (xMw (xHs w (sp_t4 (sp_t3 u2.1 (xnk r), h) k).2) (sp_t4 (sp_t3 u2.1 (xnk r), h) k).1 f1 u2.2) l t)) (K := some (.inl none, xem (xMw (xHs w (sp_t4 (sp_t3 u2.1 (xnk r), h) (xnk r)).2) (sp_t4 (sp_t3 u2.1 (xnk r), h) (xnk r)).1 f1 u2.2) l t)) (xnk r) (by
    intro k hk
    obtain ⟨g1, g2⟩ := @sp_t4_ok (sp_t3 u2.1 (xnk r), h) hW3 k (by rw [c3'.k]; omega)
    have g3 := xct_t c3' g2
    have hB := g1.bd
    have hk2 : k < xnk (sp_t4 (sp_t3 u2.1 (xnk r), h) k).1 := by rw [g3.k]; exact hk
    rw [yb_203_62]
    simp (disch := first | omega | assumption | (rw [xR_M]; first | omega | assumption)) only [↓zbE, zbd_some, ↓xk_I, ↓xk_v, xgM_5, xiM, zRa, zRw, xR_s, xRs_s, zB_0, zB_1, zB_b01, ite_not, ↓reduceIte, nI_ge, zRa_0, zRa_1, zRa_2, zRa_3, zRa_4, zRa_5, zRw_0, zRw_1, zRw_2, zRw_3, zRw_4, zRw_5, zxV_0, zxV_1, zxV_2, zxK_0, zxK_1, zxK_2, zxK_3, zxK_4, zxK_5, zxQ_0, zxQ_1, zxQ_2, zxV_s, zxO, zxF, zc_161_0, zc_161_1, zc_161_2, zc_162_0, zc_162_1, zc_162_2, zc_163_0, zc_163_1, zc_163_2, zc_163_3, zc_163_4, zc_163_5, zc_164_0, zc_164_1, zc_164_2, zc_164_3, zc_164_4, zc_164_5, zc_165_0, zc_165_1, zc_165_2, zc_161_s, zc_162_s, zc_160, zc_166, zc_167, zc_168, zc_158, zc_159, zc_170, zc_169, zc_183, zc_184, zc_177, zc_178, zc_179, zc_180, zc_185, zc_186, zc_181, zc_182, zc_187, zc_188, zc_189, zc_190, zc_204, zc_205, zc_210, zc_214, zc_215, zc_216, zc_217, zc_219, zc_206, zFa, zFw, xF_s, xFs_s, xR_F, xgM_9, zc_193, zc_192, zc_191, zc_193x, zc_194, zc_198, zc_195, zc_196, z10, zS, xR_M, xF_M, xJ_M, xRs_M, xFs_M, xJs_M, zJa, zJw, xgM_11, zu1, zc_197, zc_199, zc_200, zc_176, zc_201, zc_202, hB.k, g3.k]
    rfl) (by
    obtain ⟨g1, g2⟩ := @sp_t4_ok (sp_t3 u2.1 (xnk r), h) hW3 (xnk r) (by rw [c3'.k]; exact Nat.le_refl _)
    have g3 := xct_t c3' g2
    rw [yb_203_62, xgM_5, zbs, zRa_2, zbs, xR_M, g1.bd.k, g3.k, if_pos (nI_le (Nat.le_refl _) (by omega))])
  have L3 := xlp (fun k => xm_R sc xt_M (d + 6) 203 39 [.ref 191, .int (nI k)] [] (xem (xMw (xHs w h) (sp_t3 u2.1 k) f1 u2.2) l t)) (K := xm_R sc xt_M (d + 6) 203 62 [.ref 191, .int 0] [] (xem (xMw (xHs w h) (sp_t3 u2.1 (xnk r)) f1 u2.2) l t)) (xnk r) (by
    intro k hk
    obtain ⟨g1, g2⟩ := @sp_t3_ok u2.1 hW2 k (by rw [c2'.k]; omega)
    have g3 := xct_t c2' g2
    have hB := g1.bd
    have hk2 : k < xnk (sp_t3 u2.1 k) := by rw [g3.k]; exact hk
    rw [yb_203_39]
    simp (disch := first | omega | assumption | (rw [xR_M]; first | omega | assumption)) only [↓zbE, zbd_some, ↓xk_I, ↓xk_v, xgM_5, xiM, zRa, zRw, xR_s, xRs_s, zB_0, zB_1, zB_b01, ite_not, ↓reduceIte, nI_ge, zRa_0, zRa_1, zRa_2, zRa_3, zRa_4, zRa_5, zRw_0, zRw_1, zRw_2, zRw_3, zRw_4, zRw_5, zxV_0, zxV_1, zxV_2, zxK_0, zxK_1, zxK_2, zxK_3, zxK_4, zxK_5, zxQ_0, zxQ_1, zxQ_2, zxV_s, zxO, zxF, zc_161_0, zc_161_1, zc_161_2, zc_162_0, zc_162_1, zc_162_2, zc_163_0, zc_163_1, zc_163_2, zc_163_3, zc_163_4, zc_163_5, zc_164_0, zc_164_1, zc_164_2, zc_164_3, zc_164_4, zc_164_5, zc_165_0, zc_165_1, zc_165_2, zc_161_s, zc_162_s, zc_160, zc_166, zc_167, zc_168, zc_158, zc_159, zc_170, zc_169, zc_183, zc_184, zc_177, zc_178, zc_179, zc_180, zc_185, zc_186, zc_181, zc_182, zc_187, zc_188, zc_189, zc_190, zc_204, zc_205, zc_210, zc_214, zc_215, zc_216, zc_217, zc_219, zc_206, zFa, zFw, xF_s, xFs_s, xR_F, xgM_9, zc_193, zc_192, zc_191, zc_193x, zc_194, zc_198, zc_195, zc_196, z10, zS, xR_M, xF_M, xJ_M, xRs_M, xFs_M, xJs_M, zJa, zJw, xgM_11, zu1, zc_197, zc_199, zc_200, zc_176, zc_201, zc_202, hB.k, g3.k]
    rfl) (by
    rw [yb_203_39, xgM_5, zbs, zRa_2, zbs, xR_M, hW3.bd.k, c3'.k, if_pos (nI_le (Nat.le_refl _) (by omega))])
  have L2 := xlp (fun v => xm_R sc xt_M (d + 6) 203 16 [.ref 191, .int (nI v)] [] (xem (xMw (xHs w h) (sp_t2 f1 (r1, j) v).1 f1 (sp_t2 f1 (r1, j) v).2) l t)) (K := xm_R sc xt_M (d + 6) 203 39 [.ref 191, .int 0] [] (xem (xMw (xHs w h) u2.1 f1 u2.2) l t)) (xnv r) (by
    intro v hv
    obtain ⟨g1, g2⟩ := @sp_t2_ok f1 (r1, j) hW1 v (by rw [c1.v]; omega)
    have g3 := xct_t c1 g2
    have hB := g1.bd
    have hv2 : v < xnv (sp_t2 f1 (r1, j) v).1 := by rw [g3.v]; exact hv
    rw [yb_203_16]
    simp (disch := first | omega | assumption | (rw [xR_M]; first | omega | assumption)) only [↓zbE, zbd_some, ↓xk_I, ↓xk_v, xgM_5, xiM, zRa, zRw, xR_s, xRs_s, zB_0, zB_1, zB_b01, ite_not, ↓reduceIte, nI_ge, zRa_0, zRa_1, zRa_2, zRa_3, zRa_4, zRa_5, zRw_0, zRw_1, zRw_2, zRw_3, zRw_4, zRw_5, zxV_0, zxV_1, zxV_2, zxK_0, zxK_1, zxK_2, zxK_3, zxK_4, zxK_5, zxQ_0, zxQ_1, zxQ_2, zxV_s, zxO, zxF, zc_161_0, zc_161_1, zc_161_2, zc_162_0, zc_162_1, zc_162_2, zc_163_0, zc_163_1, zc_163_2, zc_163_3, zc_163_4, zc_163_5, zc_164_0, zc_164_1, zc_164_2, zc_164_3, zc_164_4, zc_164_5, zc_165_0, zc_165_1, zc_165_2, zc_161_s, zc_162_s, zc_160, zc_166, zc_167, zc_168, zc_158, zc_159, zc_170, zc_169, zc_183, zc_184, zc_177, zc_178, zc_179, zc_180, zc_185, zc_186, zc_181, zc_182, zc_187, zc_188, zc_189, zc_190, zc_204, zc_205, zc_210, zc_214, zc_215, zc_216, zc_217, zc_219, zc_206, zFa, zFw, xF_s, xFs_s, xR_F, xgM_9, zc_193, zc_192, zc_191, zc_193x, zc_194, zc_198, zc_195, zc_196, z10, zS, xR_M, xF_M, xJ_M, xRs_M, xFs_M, xJs_M, zJa, zJw, xgM_11, zu1, zc_197, zc_199, zc_200, zc_176, zc_201, zc_202, hB.v, g3.v]
    rfl) (by
    rw [yb_203_16, hu, xgM_5, zbs, zRa_1, zbs, xR_M, hW2.bd.v, c2'.v, if_pos (nI_le (Nat.le_refl _) (by omega))])
  exact (by
    rw [yc_203]
    have hz := L2.trans (L3.trans L4)
    refine Eq.trans ?_ hz
    simp (disch := first | omega | assumption | (rw [xR_M]; first | omega | assumption)) only [↓zbE, zbd_some, ↓xk_I, ↓xk_v, xgM_5, xiM, zRa, zRw, xR_s, xRs_s, zB_0, zB_1, zB_b01, ite_not, ↓reduceIte, nI_ge, zRa_0, zRa_1, zRa_2, zRa_3, zRa_4, zRa_5, zRw_0, zRw_1, zRw_2, zRw_3, zRw_4, zRw_5, zxV_0, zxV_1, zxV_2, zxK_0, zxK_1, zxK_2, zxK_3, zxK_4, zxK_5, zxQ_0, zxQ_1, zxQ_2, zxV_s, zxO, zxF, zc_161_0, zc_161_1, zc_161_2, zc_162_0, zc_162_1, zc_162_2, zc_163_0, zc_163_1, zc_163_2, zc_163_3, zc_163_4, zc_163_5, zc_164_0, zc_164_1, zc_164_2, zc_164_3, zc_164_4, zc_164_5, zc_165_0, zc_165_1, zc_165_2, zc_161_s, zc_162_s, zc_160, zc_166, zc_167, zc_168, zc_158, zc_159, zc_170, zc_169, zc_183, zc_184, zc_177, zc_178, zc_179, zc_180, zc_185, zc_186, zc_181, zc_182, zc_187, zc_188, zc_189, zc_190, zc_204, zc_205, zc_210, zc_214, zc_215, zc_216, zc_217, zc_219, zc_206, zFa, zFw, xF_s, xFs_s, xR_F, xgM_9, zc_193, zc_192, zc_191, zc_193x, zc_194, zc_198, zc_195, zc_196, z10, zS, xR_M, xF_M, xJ_M, xRs_M, xFs_M, xJs_M, zJa, zJw, xgM_11, zu1, zc_197, zc_199, zc_200, zc_176, zc_201, zc_202, hr1, hf1]
    rfl)
end RV
