/-! THE REFERENCE: a request is dropped -/
def sp_dr (r : Nat → Int32) (q n m : Nat) : Nat → Int32 := fun i => if i = 3 then nI n else if 176 + 3 * q ≤ i ∧ i < 176 + 3 * q + m then r (i + 3) else r i
def sp_drz (r : Nat → Int32) (n z : Nat) : Nat → Int32 := fun i => if 176 + 3 * n ≤ i ∧ i < 176 + 3 * n + z then 0 else r i
def sp_drop (r : Nat → Int32) (q : Nat) : Nat → Int32 := sp_drz (sp_dr r q (xnq r - 1) (3 * (xnq r - 1 - q))) (xnq r - 1) 3
theorem sp_dr_0 {r : Nat → Int32} {q n : Nat} : sp_dr r q n 0 = upd r 3 (nI n) := by
  funext i
  unfold sp_dr upd
  by_cases h : i = 3
  · rw [if_pos h, if_pos h]
  · rw [if_neg h, if_neg h, if_neg (by omega)]
theorem sp_dr_s {r : Nat → Int32} {q n m : Nat} : upd (sp_dr r q n m) (176 + 3 * q + m) (r (176 + 3 * q + m + 3)) = sp_dr r q n (m + 1) := by
  funext i
  unfold sp_dr upd
  by_cases h : i = 176 + 3 * q + m
  · rw [if_pos h, if_neg (by omega), if_pos (by omega), h]
  · rw [if_neg h]
    dsimp only
    by_cases h3 : i = 3
    · rw [if_pos h3, if_pos h3]
    · rw [if_neg h3, if_neg h3]
      by_cases h4 : 176 + 3 * q ≤ i ∧ i < 176 + 3 * q + m
      · rw [if_pos h4, if_pos (by omega)]
      · rw [if_neg h4, if_neg (by omega)]
theorem sp_dr_3 {r : Nat → Int32} {q n m : Nat} : sp_dr r q n m 3 = nI n := if_pos rfl
theorem sp_dr_at {r : Nat → Int32} {q n m i : Nat} (h : 176 + 3 * q + m ≤ i) : sp_dr r q n m i = r i := by
  unfold sp_dr
  rw [if_neg (by omega), if_neg (by omega)]
theorem sp_drz_0 {r : Nat → Int32} {n : Nat} : sp_drz r n 0 = r := by
  funext i
  unfold sp_drz
  rw [if_neg (by omega)]
theorem sp_drz_3 {r : Nat → Int32} {n z : Nat} : sp_drz r n z 3 = r 3 := if_neg (by omega)
theorem sp_drz_s {r : Nat → Int32} {n z : Nat} : upd (sp_drz r n z) (176 + 3 * n + z) 0 = sp_drz r n (z + 1) := by
  funext i
  unfold sp_drz upd
  by_cases h : i = 176 + 3 * n + z
  · rw [if_pos h, if_pos (by omega)]
  · rw [if_neg h]
    dsimp only
    by_cases h4 : 176 + 3 * n ≤ i ∧ i < 176 + 3 * n + z
    · rw [if_pos h4, if_pos (by omega)]
    · rw [if_neg h4, if_neg (by omega)]
section RS
variable {w : xW} {l : Nat → Nat → Int64} {t : Nat} {sc : xm_Sc} {d : Nat}
theorem zS3 {a : Nat} : nI a + 3 = nI (a + 3) := zA (b := 3)
theorem zQz {n z : Nat} : (176 + 3 * nI n) + nI z = nI (176 + 3 * n + z) := by rw [zxQ_n, zA]
theorem zc_176 {r f j : Nat → Int32} {q : Nat} (hB : xBd r) (hq : q < xnq r) : xm_C sc xt_M (d + 1) 176 [.ref 191, .int (nI q)] (xem (xMw w r f j) l t) =
    some (.inl none, xem (xMw w (sp_drop r q) f j) l t) := by
  have hq40 := hB.q40
  obtain ⟨n, hn⟩ : ∃ n, xnq r = n + 1 := ⟨xnq r - 1, by omega⟩
  have h3 : r 3 - 1 = nI n := by rw [hB.q, hn, nI_pred]
  have L1 := xlp (fun m => xm_R sc xt_M d 176 18 [.ref 191, .int (nI q), .int (nI (176 + 3 * q + m))] [] (xem (xMw w (sp_dr r q n m) f j) l t)) (K := xm_R sc xt_M d 176 56 [.ref 191, .int (nI q), .int 0] [] (xem (xMw w (sp_dr r q n (3 * (n - q))) f j) l t)) (3 * (n - q)) (by
    intro m hm
    rw [yb_176_18]
    have e := @sp_dr_at r q n m (176 + 3 * q + m + 3) (by omega)
    simp (disch := first | omega | assumption | (rw [xR_M]; first | omega | assumption)) only [↓zbE, zbd_some, ↓xk_I, ↓xk_v, xgM_5, xiM, zRa, zRw, xR_s, xRs_s, zB_0, zB_1, zB_b01, ite_not, ↓reduceIte, nI_ge, zRa_0, zRa_1, zRa_2, zRa_3, zRa_4, zRa_5, zRw_0, zRw_1, zRw_2, zRw_3, zRw_4, zRw_5, zxV_0, zxV_1, zxV_2, zxK_0, zxK_1, zxK_2, zxK_3, zxK_4, zxK_5, zxQ_0, zxQ_1, zxQ_2, zxV_s, zxO, zxF, zc_161_0, zc_161_1, zc_161_2, zc_162_0, zc_162_1, zc_162_2, zc_163_0, zc_163_1, zc_163_2, zc_163_3, zc_163_4, zc_163_5, zc_164_0, zc_164_1, zc_164_2, zc_164_3, zc_164_4, zc_164_5, zc_165_0, zc_165_1, zc_165_2, zc_161_s, zc_162_s, zc_160, zc_166, zc_167, zc_168, zc_158, zc_159, zc_170, zc_169, zc_183, zc_184, zc_177, zc_178, zc_179, zc_180, zc_185, zc_186, zc_181, zc_182, zc_187, zc_188, zc_189, zc_190, zc_204, zc_205, zc_210, zc_214, zc_215, zc_216, zc_217, zc_219, zc_206, zFa, zFw, xF_s, xFs_s, xR_F, xgM_9, zc_193, zc_192, zc_191, zc_193x, zc_194, zc_198, zc_195, zc_196, z10, zS, xR_M, xF_M, xJ_M, xRs_M, xFs_M, xJs_M, zJa, zJw, xgM_11, zu1, zc_197, zc_199, zc_200, zxQ_n, sp_dr_3, zS3, e, sp_dr_s]
    rfl) (by
    rw [yb_176_18]
    simp (disch := first | omega | assumption | (rw [xR_M]; first | omega | assumption)) only [↓zbE, zbd_some, ↓xk_I, ↓xk_v, xgM_5, xiM, zRa, zRw, xR_s, xRs_s, zB_0, zB_1, zB_b01, ite_not, ↓reduceIte, nI_ge, zRa_0, zRa_1, zRa_2, zRa_3, zRa_4, zRa_5, zRw_0, zRw_1, zRw_2, zRw_3, zRw_4, zRw_5, zxV_0, zxV_1, zxV_2, zxK_0, zxK_1, zxK_2, zxK_3, zxK_4, zxK_5, zxQ_0, zxQ_1, zxQ_2, zxV_s, zxO, zxF, zc_161_0, zc_161_1, zc_161_2, zc_162_0, zc_162_1, zc_162_2, zc_163_0, zc_163_1, zc_163_2, zc_163_3, zc_163_4, zc_163_5, zc_164_0, zc_164_1, zc_164_2, zc_164_3, zc_164_4, zc_164_5, zc_165_0, zc_165_1, zc_165_2, zc_161_s, zc_162_s, zc_160, zc_166, zc_167, zc_168, zc_158, zc_159, zc_170, zc_169, zc_183, zc_184, zc_177, zc_178, zc_179, zc_180, zc_185, zc_186, zc_181, zc_182, zc_187, zc_188, zc_189, zc_190, zc_204, zc_205, zc_210, zc_214, zc_215, zc_216, zc_217, zc_219, zc_206, zFa, zFw, xF_s, xFs_s, xR_F, xgM_9, zc_193, zc_192, zc_191, zc_193x, zc_194, zc_198, zc_195, zc_196, z10, zS, xR_M, xF_M, xJ_M, xRs_M, xFs_M, xJs_M, zJa, zJw, xgM_11, zu1, zc_197, zc_199, zc_200, zxQ_n, sp_dr_3, nI_le])
  have L2 := xlp (fun z => xm_R sc xt_M d 176 56 [.ref 191, .int (nI q), .int (nI z)] [] (xem (xMw w (sp_drz (sp_dr r q n (3 * (n - q))) n z) f j) l t)) (K := some (.inl none, xem (xMw w (sp_drz (sp_dr r q n (3 * (n - q))) n 3) f j) l t)) 3 (by
    intro z hz
    rw [yb_176_56, if_neg (show ¬ (3 : Int32) ≤ nI z from nI_ge (b := 3) hz (by omega))]
    simp (disch := first | omega | assumption | (rw [xR_M]; first | omega | assumption)) only [↓zbE, zbd_some, ↓xk_I, ↓xk_v, xgM_5, xiM, zRa, zRw, xR_s, xRs_s, zB_0, zB_1, zB_b01, ite_not, ↓reduceIte, nI_ge, zRa_0, zRa_1, zRa_2, zRa_3, zRa_4, zRa_5, zRw_0, zRw_1, zRw_2, zRw_3, zRw_4, zRw_5, zxV_0, zxV_1, zxV_2, zxK_0, zxK_1, zxK_2, zxK_3, zxK_4, zxK_5, zxQ_0, zxQ_1, zxQ_2, zxV_s, zxO, zxF, zc_161_0, zc_161_1, zc_161_2, zc_162_0, zc_162_1, zc_162_2, zc_163_0, zc_163_1, zc_163_2, zc_163_3, zc_163_4, zc_163_5, zc_164_0, zc_164_1, zc_164_2, zc_164_3, zc_164_4, zc_164_5, zc_165_0, zc_165_1, zc_165_2, zc_161_s, zc_162_s, zc_160, zc_166, zc_167, zc_168, zc_158, zc_159, zc_170, zc_169, zc_183, zc_184, zc_177, zc_178, zc_179, zc_180, zc_185, zc_186, zc_181, zc_182, zc_187, zc_188, zc_189, zc_190, zc_204, zc_205, zc_210, zc_214, zc_215, zc_216, zc_217, zc_219, zc_206, zFa, zFw, xF_s, xFs_s, xR_F, xgM_9, zc_193, zc_192, zc_191, zc_193x, zc_194, zc_198, zc_195, zc_196, z10, zS, xR_M, xF_M, xJ_M, xRs_M, xFs_M, xJs_M, zJa, zJw, xgM_11, zu1, zc_197, zc_199, zc_200, sp_drz_3, sp_dr_3, zQz, sp_drz_s]) (by
    rw [yb_176_56, if_pos (show (3 : Int32) ≤ nI 3 from nI_le (Nat.le_refl 3) (by omega))])
  rw [sp_drz_0] at L2
  have L3 := L1.trans L2
  unfold sp_drop
  rw [show xnq r - 1 = n by omega]
  refine Eq.trans ?_ L3
  rw [yc_176, sp_dr_0]
  simp (disch := first | omega | assumption | (rw [xR_M]; first | omega | assumption)) only [↓zbE, zbd_some, ↓xk_I, ↓xk_v, xgM_5, xiM, zRa, zRw, xR_s, xRs_s, zB_0, zB_1, zB_b01, ite_not, ↓reduceIte, nI_ge, zRa_0, zRa_1, zRa_2, zRa_3, zRa_4, zRa_5, zRw_0, zRw_1, zRw_2, zRw_3, zRw_4, zRw_5, zxV_0, zxV_1, zxV_2, zxK_0, zxK_1, zxK_2, zxK_3, zxK_4, zxK_5, zxQ_0, zxQ_1, zxQ_2, zxV_s, zxO, zxF, zc_161_0, zc_161_1, zc_161_2, zc_162_0, zc_162_1, zc_162_2, zc_163_0, zc_163_1, zc_163_2, zc_163_3, zc_163_4, zc_163_5, zc_164_0, zc_164_1, zc_164_2, zc_164_3, zc_164_4, zc_164_5, zc_165_0, zc_165_1, zc_165_2, zc_161_s, zc_162_s, zc_160, zc_166, zc_167, zc_168, zc_158, zc_159, zc_170, zc_169, zc_183, zc_184, zc_177, zc_178, zc_179, zc_180, zc_185, zc_186, zc_181, zc_182, zc_187, zc_188, zc_189, zc_190, zc_204, zc_205, zc_210, zc_214, zc_215, zc_216, zc_217, zc_219, zc_206, zFa, zFw, xF_s, xFs_s, xR_F, xgM_9, zc_193, zc_192, zc_191, zc_193x, zc_194, zc_198, zc_195, zc_196, z10, zS, xR_M, xF_M, xJ_M, xRs_M, xFs_M, xJs_M, zJa, zJw, xgM_11, zu1, zc_197, zc_199, zc_200, h3, zxQ_n]
  rfl
end RS
