/-! THE REFERENCE: forecasts -/
/-- an answer: what is thrown, what is told; nothing but scratch changes -/
def xAns (o : Option xm_O) (w : xW) (l : Nat → Nat → Int64) (t : Nat) (s : Int32 × Int32) : Prop := ∃ w', o = some (.inl (some (.int s.2)), xem w' l t) ∧ xKp w w' ∧ (w' 3).1 2 = s.1
section CP
variable {w : xW} {a p b q m : Nat}
theorem xcp_ne {g : Nat} (h : g ≠ 3) : xcp w a p b q m g = w g := xu_ne h
theorem xcp_1 : (xcp w a p b q m 3).1 = (w 3).1 := by
  unfold xcp
  rw [xu_same]
  rfl
theorem xcp_2 {c : Nat} (h : c ≠ b) : (xcp w a p b q m 3).2 c = (w 3).2 c := by
  unfold xcp
  rw [xu_same]
  exact if_neg h
theorem xcp_b {i : Nat} : (xcp w a p b q m 3).2 b i = if 296 * q ≤ i ∧ i < 296 * q + m then (w 3).2 a (296 * p + (i - 296 * q)) else (w 3).2 b i := by
  unfold xcp
  rw [xu_same, xs2_same]
theorem xMu_ne {u : xU} {g : Nat} (h : g ≠ 3) : xMu w u g = w g := by
  unfold xMu xHs
  rw [xMw_ne h, xu_ne h]
theorem xMu_1 {u : xU} {i : Nat} (h : i ≠ 4) : (xMu w u 3).1 i = (w 3).1 i := by
  unfold xMu
  rw [xMw_2, xHs_2 h]
theorem xMu_2 {u : xU} {c : Nat} (h6 : c ≠ 6) (h5 : c ≠ 5) (h0 : c ≠ xri (w 3)) : (xMu w u 3).2 c = (w 3).2 c := by
  unfold xMu
  rw [xMw_3]
  have e : xHs w u.2.2.2 3 = xs1 (w 3) 4 u.2.2.2 := xu_same
  rw [e]
  show (if c = 6 then _ else if c = 5 then _ else if c = xri (w 3) then _ else (w 3).2 c) = _
  rw [if_neg h6, if_neg h5, if_neg h0]
theorem xri_cp : xri (xcp w a p b q m 3) = xri (w 3) := by
  unfold xri
  rw [xcp_1]
theorem xMe_cp (h0 : xri (w 3) = 0) : xMe (xcp w 0 0 2 0 296) = xMe w := by
  unfold xMe xR xF xJ xH
  rw [xri_cp, h0, xcp_2 (by omega), xcp_2 (by omega), xcp_2 (by omega), xcp_1]
theorem xMe_T {x : Int32} : xMe (xT w x) = xMe w := by
  unfold xMe
  rw [xR_T, xF_T]
  unfold xJ xH xT
  rw [xu_same]
  rfl
theorem xri_T {x : Int32} : xri (xT w x 3) = xri (w 3) := by
  unfold xT
  rw [xu_same]
  rfl
theorem xKp_back {u : xU} (h0 : xri (w 3) = 0) : xKp w (xcp (xMu (xcp w 0 0 2 0 296) u) 2 0 0 0 296) := by
  refine ⟨fun g hg => ?_, fun i h1 h2 => ?_, fun c h1 h2 h3 h4 => ?_, fun i hi => ?_⟩
  · rw [xcp_ne hg, xMu_ne hg, xcp_ne hg]
  · rw [xcp_1, xMu_1 h2, xcp_1]
  · rw [xcp_2 h1, xMu_2 h4 h3 (by rw [xri_cp]; omega), xcp_2 h2]
  · rw [xcp_b, if_pos (by omega), xMu_2 (by omega) (by omega) (by rw [xri_cp]; omega), xcp_b, if_pos (by omega)]
    simp only [Nat.mul_zero, Nat.zero_add, Nat.sub_zero]
theorem xback_2 {u : xU} : (xcp (xMu (xcp w 0 0 2 0 296) u) 2 0 0 0 296 3).1 2 = (w 3).1 2 := by rw [xcp_1, xMu_1 (by omega), xcp_1]
end CP
abbrev sp_cnd (fl rd : Int32) (r : Nat → Int32) (k : Nat) : Prop := (fl = 0 ∧ sp_arr r k) ∨ (¬ fl = 0 ∧ r (56 + 6 * k) = 2 ∧ r (60 + 6 * k) = rd)
section SH
variable {w : xW} {l : Nat → Nat → Int64} {t : Nat} {sc : xm_Sc} {d : Nat}
theorem xgM_7T : xm_gI (xem w l t) 191 8 7 = some ((w 3).1 2) := xgM_7
theorem zc_258_0 {a b : Nat} (ha : a ≤ 4) (hb : b ≤ 4) (hd : a ≠ b) : xm_C sc xt_M (d + 1) 258 [.ref (xm a), .int 0, .ref (xm b), .int 0] (xem w l t) = some (.inl none, xem (xcp w a 0 b 0 296) l t) :=
  zc_258 (p := 0) (q := 0) ha hb (by unfold xcap; split <;> omega) (by unfold xcap; split <;> omega) (Or.inl hd)
theorem zc_228 {x : Int32} : xm_C sc xt_M (d + 2) 228 [.ref 191, .int x] (xem w l t) = some (.inl (some (.int x)), xem (xcp w 2 0 0 0 296) l t) := by
  rw [yc_228]
  simp (disch := first | omega | assumption | (rw [xR_u]; first | omega | assumption)) only [↓zbE, zbd_some, ↓xk_I, ↓xk_v, xgM_5, xiM, zRa, zRw, xR_s, xRs_s, zB_0, zB_1, zB_b01, ite_not, ↓reduceIte, nI_ge, zRa_0, zRa_1, zRa_2, zRa_3, zRa_4, zRa_5, zRw_0, zRw_1, zRw_2, zRw_3, zRw_4, zRw_5, zxV_0, zxV_1, zxV_2, zxK_0, zxK_1, zxK_2, zxK_3, zxK_4, zxK_5, zxQ_0, zxQ_1, zxQ_2, zxV_s, zxO, zxF, zc_161_0, zc_161_1, zc_161_2, zc_162_0, zc_162_1, zc_162_2, zc_163_0, zc_163_1, zc_163_2, zc_163_3, zc_163_4, zc_163_5, zc_164_0, zc_164_1, zc_164_2, zc_164_3, zc_164_4, zc_164_5, zc_165_0, zc_165_1, zc_165_2, zc_161_s, zc_162_s, zc_160, zc_166, zc_167, zc_168, zc_158, zc_159, zc_169, zc_183, zc_184, zc_177, zc_178, zc_179, zc_180, zc_185, zc_186, zc_181, zc_182, zc_187, zc_188, zc_189, zc_190, zc_204, zc_205, zc_210, zc_214, zc_215, zc_216, zc_217, zc_219, zc_206, zc_170_0, zc_170_1, xT_T, xR_T, xsM_7T, z10, zc_211, zc_218, zc_212, zc_220, zc_221, zc_222, zc_234, zFa, zFw, xF_s, xFs_s, xR_F, xgM_9, zc_193, zc_192, zc_191, zc_225, zc_229, zc_226, zc_227, zc_235, zc_260, zc_265, zc_213, zS, xR_u, zc_203u, zc_228, zc_258_0, xgM_0, xgM_2, xgM_3, xgM_4]
theorem zc_230 {k c : Nat} {fl rd : Int32} (h0 : xri (w 3) = 0) (hW : xWF (xR w)) (hk : k < xnk (xR w)) (hc : xR w 4 = nI c) (hc2 : c < 10000) : ∃ w', xm_C sc xt_M (d + 8) 230 [.ref 191, .int (nI k), .int fl, .int rd] (xem w l t) =
    some (.inl (some (.int (toJ (xfst (fun n => sp_cnd fl rd (sp_us (xMe w) n).1 k) 0 201)))), xem w' l t) ∧ xKp w w' ∧ (w' 3).1 2 = (w 3).1 2 := by
  have hk20 := hW.bd.k20
  have e := xlf (fun n => xm_R sc xt_M (d + 7) 230 16 [.ref 191, .int (nI k), .int fl, .int rd, .int (nI n)] [] (xem (xMu (xcp w 0 0 2 0 296) (sp_us (xMe w) n)) l t)) (p := fun n => sp_cnd fl rd (sp_us (xMe w) n).1 k) (K := fun n => some (.inl (some (.int (nI n))), xem (xcp (xMu (xcp w 0 0 2 0 296) (sp_us (xMe w) n)) 2 0 0 0 296) l t)) (E := some (.inl (some (.int (-1))), xem (xcp (xMu (xcp w 0 0 2 0 296) (sp_us (xMe w) 201)) 2 0 0 0 296) l t)) 201 (by
    intro n hn
    obtain ⟨g1, g2, g3⟩ := @sp_us_ok (xMe w) c hW hc n (by omega)
    have gs : sp_us (xMe w) (n + 1) = sp_u1 (sp_us (xMe w) n) := rfl
    have ht : xil ((sp_us (xMe w) n).1 4 + 1) 20000 := by
      rw [g2, zS]
      exact xil_nI (by omega) (by omega)
    have hk' : k < xnk (sp_us (xMe w) n).1 := by
      unfold xnk
      rw [g3 2 (by omega) (by omega) (by omega)]
      exact hk
    rw [gs]
    generalize sp_us (xMe w) n = u at *
    rw [yb_230_16, if_neg (show ¬ (200 : Int32) < nI n from nI_nlt (a := 200) (by omega) (by omega))]
    by_cases hf : fl = 0
    · by_cases ha : sp_arr u.1 k
      · rw [if_pos (c := sp_cnd fl rd u.1 k) (Or.inl ⟨hf, ha⟩)]
        simp (disch := first | omega | assumption | (rw [xR_u]; first | omega | assumption)) only [↓zbE, zbd_some, ↓xk_I, ↓xk_v, xgM_5, xiM, zRa, zRw, xR_s, xRs_s, zB_0, zB_1, zB_b01, ite_not, ↓reduceIte, nI_ge, zRa_0, zRa_1, zRa_2, zRa_3, zRa_4, zRa_5, zRw_0, zRw_1, zRw_2, zRw_3, zRw_4, zRw_5, zxV_0, zxV_1, zxV_2, zxK_0, zxK_1, zxK_2, zxK_3, zxK_4, zxK_5, zxQ_0, zxQ_1, zxQ_2, zxV_s, zxO, zxF, zc_161_0, zc_161_1, zc_161_2, zc_162_0, zc_162_1, zc_162_2, zc_163_0, zc_163_1, zc_163_2, zc_163_3, zc_163_4, zc_163_5, zc_164_0, zc_164_1, zc_164_2, zc_164_3, zc_164_4, zc_164_5, zc_165_0, zc_165_1, zc_165_2, zc_161_s, zc_162_s, zc_160, zc_166, zc_167, zc_168, zc_158, zc_159, zc_169, zc_183, zc_184, zc_177, zc_178, zc_179, zc_180, zc_185, zc_186, zc_181, zc_182, zc_187, zc_188, zc_189, zc_190, zc_204, zc_205, zc_210, zc_214, zc_215, zc_216, zc_217, zc_219, zc_206, zc_170_0, zc_170_1, xT_T, xR_T, xsM_7T, z10, zc_211, zc_218, zc_212, zc_220, zc_221, zc_222, zc_234, zFa, zFw, xF_s, xFs_s, xR_F, xgM_9, zc_193, zc_192, zc_191, zc_225, zc_229, zc_226, zc_227, zc_235, zc_260, zc_265, zc_213, zS, xR_u, zc_203u, zc_228, zc_258_0, xgM_0, xgM_2, xgM_3, xgM_4, hf, eq_true ha, yb_230_48, yb_230_55, zc_229]
      · rw [if_neg (c := sp_cnd fl rd u.1 k) (fun h => h.elim (fun g => ha g.2) (fun g => g.1 hf))]
        simp (disch := first | omega | assumption | (rw [xR_u]; first | omega | assumption)) only [↓zbE, zbd_some, ↓xk_I, ↓xk_v, xgM_5, xiM, zRa, zRw, xR_s, xRs_s, zB_0, zB_1, zB_b01, ite_not, ↓reduceIte, nI_ge, zRa_0, zRa_1, zRa_2, zRa_3, zRa_4, zRa_5, zRw_0, zRw_1, zRw_2, zRw_3, zRw_4, zRw_5, zxV_0, zxV_1, zxV_2, zxK_0, zxK_1, zxK_2, zxK_3, zxK_4, zxK_5, zxQ_0, zxQ_1, zxQ_2, zxV_s, zxO, zxF, zc_161_0, zc_161_1, zc_161_2, zc_162_0, zc_162_1, zc_162_2, zc_163_0, zc_163_1, zc_163_2, zc_163_3, zc_163_4, zc_163_5, zc_164_0, zc_164_1, zc_164_2, zc_164_3, zc_164_4, zc_164_5, zc_165_0, zc_165_1, zc_165_2, zc_161_s, zc_162_s, zc_160, zc_166, zc_167, zc_168, zc_158, zc_159, zc_169, zc_183, zc_184, zc_177, zc_178, zc_179, zc_180, zc_185, zc_186, zc_181, zc_182, zc_187, zc_188, zc_189, zc_190, zc_204, zc_205, zc_210, zc_214, zc_215, zc_216, zc_217, zc_219, zc_206, zc_170_0, zc_170_1, xT_T, xR_T, xsM_7T, z10, zc_211, zc_218, zc_212, zc_220, zc_221, zc_222, zc_234, zFa, zFw, xF_s, xFs_s, xR_F, xgM_9, zc_193, zc_192, zc_191, zc_225, zc_229, zc_226, zc_227, zc_235, zc_260, zc_265, zc_213, zS, xR_u, zc_203u, zc_228, zc_258_0, xgM_0, xgM_2, xgM_3, xgM_4, hf, eq_false ha, yb_230_48, yb_230_55, zc_229]
    · by_cases ha : u.1 (56 + 6 * k) = 2 ∧ u.1 (60 + 6 * k) = rd
      · rw [if_pos (c := sp_cnd fl rd u.1 k) (Or.inr ⟨hf, ha⟩)]
        simp (disch := first | omega | assumption | (rw [xR_u]; first | omega | assumption)) only [↓zbE, zbd_some, ↓xk_I, ↓xk_v, xgM_5, xiM, zRa, zRw, xR_s, xRs_s, zB_0, zB_1, zB_b01, ite_not, ↓reduceIte, nI_ge, zRa_0, zRa_1, zRa_2, zRa_3, zRa_4, zRa_5, zRw_0, zRw_1, zRw_2, zRw_3, zRw_4, zRw_5, zxV_0, zxV_1, zxV_2, zxK_0, zxK_1, zxK_2, zxK_3, zxK_4, zxK_5, zxQ_0, zxQ_1, zxQ_2, zxV_s, zxO, zxF, zc_161_0, zc_161_1, zc_161_2, zc_162_0, zc_162_1, zc_162_2, zc_163_0, zc_163_1, zc_163_2, zc_163_3, zc_163_4, zc_163_5, zc_164_0, zc_164_1, zc_164_2, zc_164_3, zc_164_4, zc_164_5, zc_165_0, zc_165_1, zc_165_2, zc_161_s, zc_162_s, zc_160, zc_166, zc_167, zc_168, zc_158, zc_159, zc_169, zc_183, zc_184, zc_177, zc_178, zc_179, zc_180, zc_185, zc_186, zc_181, zc_182, zc_187, zc_188, zc_189, zc_190, zc_204, zc_205, zc_210, zc_214, zc_215, zc_216, zc_217, zc_219, zc_206, zc_170_0, zc_170_1, xT_T, xR_T, xsM_7T, z10, zc_211, zc_218, zc_212, zc_220, zc_221, zc_222, zc_234, zFa, zFw, xF_s, xFs_s, xR_F, xgM_9, zc_193, zc_192, zc_191, zc_225, zc_229, zc_226, zc_227, zc_235, zc_260, zc_265, zc_213, zS, xR_u, zc_203u, zc_228, zc_258_0, xgM_0, xgM_2, xgM_3, xgM_4, hf, eq_true ha, zc_219, yb_230_48, yb_230_55, zc_229]
      · rw [if_neg (c := sp_cnd fl rd u.1 k) (fun h => h.elim (fun g => hf g.1) (fun g => ha g.2))]
        simp (disch := first | omega | assumption | (rw [xR_u]; first | omega | assumption)) only [↓zbE, zbd_some, ↓xk_I, ↓xk_v, xgM_5, xiM, zRa, zRw, xR_s, xRs_s, zB_0, zB_1, zB_b01, ite_not, ↓reduceIte, nI_ge, zRa_0, zRa_1, zRa_2, zRa_3, zRa_4, zRa_5, zRw_0, zRw_1, zRw_2, zRw_3, zRw_4, zRw_5, zxV_0, zxV_1, zxV_2, zxK_0, zxK_1, zxK_2, zxK_3, zxK_4, zxK_5, zxQ_0, zxQ_1, zxQ_2, zxV_s, zxO, zxF, zc_161_0, zc_161_1, zc_161_2, zc_162_0, zc_162_1, zc_162_2, zc_163_0, zc_163_1, zc_163_2, zc_163_3, zc_163_4, zc_163_5, zc_164_0, zc_164_1, zc_164_2, zc_164_3, zc_164_4, zc_164_5, zc_165_0, zc_165_1, zc_165_2, zc_161_s, zc_162_s, zc_160, zc_166, zc_167, zc_168, zc_158, zc_159, zc_169, zc_183, zc_184, zc_177, zc_178, zc_179, zc_180, zc_185, zc_186, zc_181, zc_182, zc_187, zc_188, zc_189, zc_190, zc_204, zc_205, zc_210, zc_214, zc_215, zc_216, zc_217, zc_219, zc_206, zc_170_0, zc_170_1, xT_T, xR_T, xsM_7T, z10, zc_211, zc_218, zc_212, zc_220, zc_221, zc_222, zc_234, zFa, zFw, xF_s, xFs_s, xR_F, xgM_9, zc_193, zc_192, zc_191, zc_225, zc_229, zc_226, zc_227, zc_235, zc_260, zc_265, zc_213, zS, xR_u, zc_203u, zc_228, zc_258_0, xgM_0, xgM_2, xgM_3, xgM_4, hf, eq_false ha, zc_219, yb_230_48, yb_230_55, zc_229]) (by
    rw [yb_230_16, if_pos (show (200 : Int32) < nI 201 from nI_lt (a := 200) (by omega) (by omega))]
    simp (disch := first | omega | assumption | (rw [xR_u]; first | omega | assumption)) only [↓zbE, zbd_some, ↓xk_I, ↓xk_v, xgM_5, xiM, zRa, zRw, xR_s, xRs_s, zB_0, zB_1, zB_b01, ite_not, ↓reduceIte, nI_ge, zRa_0, zRa_1, zRa_2, zRa_3, zRa_4, zRa_5, zRw_0, zRw_1, zRw_2, zRw_3, zRw_4, zRw_5, zxV_0, zxV_1, zxV_2, zxK_0, zxK_1, zxK_2, zxK_3, zxK_4, zxK_5, zxQ_0, zxQ_1, zxQ_2, zxV_s, zxO, zxF, zc_161_0, zc_161_1, zc_161_2, zc_162_0, zc_162_1, zc_162_2, zc_163_0, zc_163_1, zc_163_2, zc_163_3, zc_163_4, zc_163_5, zc_164_0, zc_164_1, zc_164_2, zc_164_3, zc_164_4, zc_164_5, zc_165_0, zc_165_1, zc_165_2, zc_161_s, zc_162_s, zc_160, zc_166, zc_167, zc_168, zc_158, zc_159, zc_169, zc_183, zc_184, zc_177, zc_178, zc_179, zc_180, zc_185, zc_186, zc_181, zc_182, zc_187, zc_188, zc_189, zc_190, zc_204, zc_205, zc_210, zc_214, zc_215, zc_216, zc_217, zc_219, zc_206, zc_170_0, zc_170_1, xT_T, xR_T, xsM_7T, z10, zc_211, zc_218, zc_212, zc_220, zc_221, zc_222, zc_234, zFa, zFw, xF_s, xFs_s, xR_F, xgM_9, zc_193, zc_192, zc_191, zc_225, zc_229, zc_226, zc_227, zc_235, zc_260, zc_265, zc_213, zS, xR_u, zc_203u, zc_228, zc_258_0, xgM_0, xgM_2, xgM_3, xgM_4, yb_230_48, yb_230_55, zc_229])
  have e0 : xm_C sc xt_M (d + 8) 230 [.ref 191, .int (nI k), .int fl, .int rd] (xem w l t) = xm_R sc xt_M (d + 7) 230 16 [.ref 191, .int (nI k), .int fl, .int rd, .int (nI 0)] [] (xem (xMu (xcp w 0 0 2 0 296) (sp_us (xMe w) 0)) l t) := by
    rw [show sp_us (xMe w) 0 = xMe (xcp w 0 0 2 0 296) from (xMe_cp h0).symm, xMu_e, yc_230]
    simp (disch := first | omega | assumption | (rw [xR_u]; first | omega | assumption)) only [↓zbE, zbd_some, ↓xk_I, ↓xk_v, xgM_5, xiM, zRa, zRw, xR_s, xRs_s, zB_0, zB_1, zB_b01, ite_not, ↓reduceIte, nI_ge, zRa_0, zRa_1, zRa_2, zRa_3, zRa_4, zRa_5, zRw_0, zRw_1, zRw_2, zRw_3, zRw_4, zRw_5, zxV_0, zxV_1, zxV_2, zxK_0, zxK_1, zxK_2, zxK_3, zxK_4, zxK_5, zxQ_0, zxQ_1, zxQ_2, zxV_s, zxO, zxF, zc_161_0, zc_161_1, zc_161_2, zc_162_0, zc_162_1, zc_162_2, zc_163_0, zc_163_1, zc_163_2, zc_163_3, zc_163_4, zc_163_5, zc_164_0, zc_164_1, zc_164_2, zc_164_3, zc_164_4, zc_164_5, zc_165_0, zc_165_1, zc_165_2, zc_161_s, zc_162_s, zc_160, zc_166, zc_167, zc_168, zc_158, zc_159, zc_169, zc_183, zc_184, zc_177, zc_178, zc_179, zc_180, zc_185, zc_186, zc_181, zc_182, zc_187, zc_188, zc_189, zc_190, zc_204, zc_205, zc_210, zc_214, zc_215, zc_216, zc_217, zc_219, zc_206, zc_170_0, zc_170_1, xT_T, xR_T, xsM_7T, z10, zc_211, zc_218, zc_212, zc_220, zc_221, zc_222, zc_234, zFa, zFw, xF_s, xFs_s, xR_F, xgM_9, zc_193, zc_192, zc_191, zc_225, zc_229, zc_226, zc_227, zc_235, zc_260, zc_265, zc_213, zS, xR_u, zc_203u, zc_228, zc_258_0, xgM_0, xgM_2, xgM_3, xgM_4]
    rfl
  have e1 := e0.trans e
  cases hx : xfst (fun n => sp_cnd fl rd (sp_us (xMe w) n).1 k) 0 201 with
  | none =>
    rw [hx] at e1
    exact ⟨_, e1, xKp_back h0, xback_2⟩
  | some n =>
    rw [hx] at e1
    exact ⟨_, e1, xKp_back h0, xback_2⟩
def sp_until (u : xU) (fl a rd : Int32) : Int32 × Int32 := if 0 ≤ a ∧ a ≤ u.1 2 - 1 then (0, toJ (xfst (fun n => sp_cnd fl rd (sp_us u n).1 a.toNatClampNeg) 0 201)) else (1, 0)
theorem zc_231 {a : Int32} {c : Nat} (h0 : xri (w 3) = 0) (hW : xWF (xR w)) (hc : xR w 4 = nI c) (hc2 : c < 10000) : xAns (xm_C sc xt_M (d + 9) 231 [.ref 191, .int a] (xem w l t)) w l t (sp_until (xMe w) 0 a 0) := by
  have hB := hW.bd
  have hk20 := hB.k20
  have hq40 := hB.q40
  have hv4 := hB.v4
  have hb6 := hB.b6
  unfold sp_until
  rw [yc_231]
  by_cases ha : 0 ≤ a ∧ a ≤ xR w 2 - 1
  · rw [if_pos (c := 0 ≤ a ∧ a ≤ (xMe w).1 2 - 1) ha]
    have hc' := ha
    rw [hB.k] at hc'
    obtain ⟨n, hn, rfl⟩ := zrg (by omega) hc'
    rw [nI_clamp (by omega)]
    obtain ⟨w', e, kp, th⟩ := @zc_230 (xT w 0) l t sc d n c 0 0 (by rw [xri_T]; exact h0) (by rw [xR_T]; exact hW) (by rw [xR_T]; exact hn) (by rw [xR_T]; exact hc) hc2
    rw [xMe_T] at e
    refine ⟨w', ?_, xKp_t xKp_T kp, th.trans xT_2⟩
    simp (disch := first | omega | assumption | (rw [xR_T]; first | omega | assumption)) only [↓zbE, zbd_some, ↓xk_I, ↓xk_v, xgM_5, xiM, zRa, zRw, xR_s, xRs_s, zB_0, zB_1, zB_b01, ite_not, ↓reduceIte, nI_ge, zRa_0, zRa_1, zRa_2, zRa_3, zRa_4, zRa_5, zRw_0, zRw_1, zRw_2, zRw_3, zRw_4, zRw_5, zxV_0, zxV_1, zxV_2, zxK_0, zxK_1, zxK_2, zxK_3, zxK_4, zxK_5, zxQ_0, zxQ_1, zxQ_2, zxV_s, zxO, zxF, zc_161_0, zc_161_1, zc_161_2, zc_162_0, zc_162_1, zc_162_2, zc_163_0, zc_163_1, zc_163_2, zc_163_3, zc_163_4, zc_163_5, zc_164_0, zc_164_1, zc_164_2, zc_164_3, zc_164_4, zc_164_5, zc_165_0, zc_165_1, zc_165_2, zc_161_s, zc_162_s, zc_160, zc_166, zc_167, zc_168, zc_158, zc_159, zc_169, zc_183, zc_184, zc_177, zc_178, zc_179, zc_180, zc_185, zc_186, zc_181, zc_182, zc_187, zc_188, zc_189, zc_190, zc_204, zc_205, zc_210, zc_214, zc_215, zc_216, zc_217, zc_219, zc_206, zc_170_0, zc_170_1, xT_T, xR_T, xsM_7T, z10, zc_211, zc_218, zc_212, zc_220, zc_221, zc_222, zc_234, zFa, zFw, xF_s, xFs_s, xR_F, xF_T, xgM_9, zc_193, zc_192, zc_191, zc_225, zc_229, zc_226, zc_227, zc_235, zc_260, zc_265, zc_213, zB_tt ha, e]
  · rw [if_neg (c := 0 ≤ a ∧ a ≤ (xMe w).1 2 - 1) ha]
    refine ⟨xT w 1, ?_, xKp_T, xT_2⟩
    simp (disch := first | omega | assumption | (rw [xR_T]; first | omega | assumption)) only [↓zbE, zbd_some, ↓xk_I, ↓xk_v, xgM_5, xiM, zRa, zRw, xR_s, xRs_s, zB_0, zB_1, zB_b01, ite_not, ↓reduceIte, nI_ge, zRa_0, zRa_1, zRa_2, zRa_3, zRa_4, zRa_5, zRw_0, zRw_1, zRw_2, zRw_3, zRw_4, zRw_5, zxV_0, zxV_1, zxV_2, zxK_0, zxK_1, zxK_2, zxK_3, zxK_4, zxK_5, zxQ_0, zxQ_1, zxQ_2, zxV_s, zxO, zxF, zc_161_0, zc_161_1, zc_161_2, zc_162_0, zc_162_1, zc_162_2, zc_163_0, zc_163_1, zc_163_2, zc_163_3, zc_163_4, zc_163_5, zc_164_0, zc_164_1, zc_164_2, zc_164_3, zc_164_4, zc_164_5, zc_165_0, zc_165_1, zc_165_2, zc_161_s, zc_162_s, zc_160, zc_166, zc_167, zc_168, zc_158, zc_159, zc_169, zc_183, zc_184, zc_177, zc_178, zc_179, zc_180, zc_185, zc_186, zc_181, zc_182, zc_187, zc_188, zc_189, zc_190, zc_204, zc_205, zc_210, zc_214, zc_215, zc_216, zc_217, zc_219, zc_206, zc_170_0, zc_170_1, xT_T, xR_T, xsM_7T, z10, zc_211, zc_218, zc_212, zc_220, zc_221, zc_222, zc_234, zFa, zFw, xF_s, xFs_s, xR_F, xF_T, xgM_9, zc_193, zc_192, zc_191, zc_225, zc_229, zc_226, zc_227, zc_235, zc_260, zc_265, zc_213, zB_ff ha]
theorem zc_232 {a rd : Int32} {c : Nat} (h0 : xri (w 3) = 0) (hW : xWF (xR w)) (hc : xR w 4 = nI c) (hc2 : c < 10000) : xAns (xm_C sc xt_M (d + 9) 232 [.ref 191, .int a, .int rd] (xem w l t)) w l t (sp_until (xMe w) 1 a rd) := by
  have hB := hW.bd
  have hk20 := hB.k20
  have hq40 := hB.q40
  have hv4 := hB.v4
  have hb6 := hB.b6
  unfold sp_until
  rw [yc_232]
  by_cases ha : 0 ≤ a ∧ a ≤ xR w 2 - 1
  · rw [if_pos (c := 0 ≤ a ∧ a ≤ (xMe w).1 2 - 1) ha]
    have hc' := ha
    rw [hB.k] at hc'
    obtain ⟨n, hn, rfl⟩ := zrg (by omega) hc'
    rw [nI_clamp (by omega)]
    obtain ⟨w', e, kp, th⟩ := @zc_230 (xT w 0) l t sc d n c 1 rd (by rw [xri_T]; exact h0) (by rw [xR_T]; exact hW) (by rw [xR_T]; exact hn) (by rw [xR_T]; exact hc) hc2
    rw [xMe_T] at e
    refine ⟨w', ?_, xKp_t xKp_T kp, th.trans xT_2⟩
    simp (disch := first | omega | assumption | (rw [xR_T]; first | omega | assumption)) only [↓zbE, zbd_some, ↓xk_I, ↓xk_v, xgM_5, xiM, zRa, zRw, xR_s, xRs_s, zB_0, zB_1, zB_b01, ite_not, ↓reduceIte, nI_ge, zRa_0, zRa_1, zRa_2, zRa_3, zRa_4, zRa_5, zRw_0, zRw_1, zRw_2, zRw_3, zRw_4, zRw_5, zxV_0, zxV_1, zxV_2, zxK_0, zxK_1, zxK_2, zxK_3, zxK_4, zxK_5, zxQ_0, zxQ_1, zxQ_2, zxV_s, zxO, zxF, zc_161_0, zc_161_1, zc_161_2, zc_162_0, zc_162_1, zc_162_2, zc_163_0, zc_163_1, zc_163_2, zc_163_3, zc_163_4, zc_163_5, zc_164_0, zc_164_1, zc_164_2, zc_164_3, zc_164_4, zc_164_5, zc_165_0, zc_165_1, zc_165_2, zc_161_s, zc_162_s, zc_160, zc_166, zc_167, zc_168, zc_158, zc_159, zc_169, zc_183, zc_184, zc_177, zc_178, zc_179, zc_180, zc_185, zc_186, zc_181, zc_182, zc_187, zc_188, zc_189, zc_190, zc_204, zc_205, zc_210, zc_214, zc_215, zc_216, zc_217, zc_219, zc_206, zc_170_0, zc_170_1, xT_T, xR_T, xsM_7T, z10, zc_211, zc_218, zc_212, zc_220, zc_221, zc_222, zc_234, zFa, zFw, xF_s, xFs_s, xR_F, xF_T, xgM_9, zc_193, zc_192, zc_191, zc_225, zc_229, zc_226, zc_227, zc_235, zc_260, zc_265, zc_213, zB_tt ha, e]
  · rw [if_neg (c := 0 ≤ a ∧ a ≤ (xMe w).1 2 - 1) ha]
    refine ⟨xT w 1, ?_, xKp_T, xT_2⟩
    simp (disch := first | omega | assumption | (rw [xR_T]; first | omega | assumption)) only [↓zbE, zbd_some, ↓xk_I, ↓xk_v, xgM_5, xiM, zRa, zRw, xR_s, xRs_s, zB_0, zB_1, zB_b01, ite_not, ↓reduceIte, nI_ge, zRa_0, zRa_1, zRa_2, zRa_3, zRa_4, zRa_5, zRw_0, zRw_1, zRw_2, zRw_3, zRw_4, zRw_5, zxV_0, zxV_1, zxV_2, zxK_0, zxK_1, zxK_2, zxK_3, zxK_4, zxK_5, zxQ_0, zxQ_1, zxQ_2, zxV_s, zxO, zxF, zc_161_0, zc_161_1, zc_161_2, zc_162_0, zc_162_1, zc_162_2, zc_163_0, zc_163_1, zc_163_2, zc_163_3, zc_163_4, zc_163_5, zc_164_0, zc_164_1, zc_164_2, zc_164_3, zc_164_4, zc_164_5, zc_165_0, zc_165_1, zc_165_2, zc_161_s, zc_162_s, zc_160, zc_166, zc_167, zc_168, zc_158, zc_159, zc_169, zc_183, zc_184, zc_177, zc_178, zc_179, zc_180, zc_185, zc_186, zc_181, zc_182, zc_187, zc_188, zc_189, zc_190, zc_204, zc_205, zc_210, zc_214, zc_215, zc_216, zc_217, zc_219, zc_206, zc_170_0, zc_170_1, xT_T, xR_T, xsM_7T, z10, zc_211, zc_218, zc_212, zc_220, zc_221, zc_222, zc_234, zFa, zFw, xF_s, xFs_s, xR_F, xF_T, xgM_9, zc_193, zc_192, zc_191, zc_225, zc_229, zc_226, zc_227, zc_235, zc_260, zc_265, zc_213, zB_ff ha]
def sp_bookIn (u : xU) (a x i : Int32) : Int32 × Int32 := if 0 ≤ a ∧ a ≤ u.1 2 - 1 then (if 0 ≤ x ∧ x ≤ 8 then (if 0 ≤ i ∧ i ≤ 200 then (0, (sp_num (sp_us u i.toNatClampNeg).2.1 (sp_us u i.toNatClampNeg).1 a.toNatClampNeg x).1) else (2, 0)) else (1, 0)) else (1, 0)
theorem zc_208u {u : xU} {k : Nat} {x : Int32} (hW : xWF u.1) (hk : k < xnk u.1) : xm_C sc xt_M (d + 6) 208 [.ref 191, .int (nI k), .int x] (xem (xMu w u) l t) = some (.inl (some (.int (sp_num u.2.1 u.1 k x).1)), xem (xMu w (u.1, (sp_num u.2.1 u.1 k x).2, u.2.2.1, u.2.2.2)) l t) := zc_208 hW hk
theorem zc_233 {a x i : Int32} {c : Nat} (h0 : xri (w 3) = 0) (hW : xWF (xR w)) (hc : xR w 4 = nI c) (hc2 : c < 10000) : xAns (xm_C sc xt_M (d + 9) 233 [.ref 191, .int a, .int x, .int i] (xem w l t)) w l t (sp_bookIn (xMe w) a x i) := by
  have hB := hW.bd
  have hk20 := hB.k20
  have hq40 := hB.q40
  have hv4 := hB.v4
  have hb6 := hB.b6
  unfold sp_bookIn
  rw [yc_233]
  by_cases ha : 0 ≤ a ∧ a ≤ xR w 2 - 1
  · rw [if_pos (c := 0 ≤ a ∧ a ≤ (xMe w).1 2 - 1) ha]
    have hc' := ha
    rw [hB.k] at hc'
    obtain ⟨n, hn, rfl⟩ := zrg (by omega) hc'
    rw [nI_clamp (by omega)]
    by_cases hx : 0 ≤ x ∧ x ≤ 8
    · rw [if_pos hx]
      by_cases hi : 0 ≤ i ∧ i ≤ 200
      · rw [if_pos hi]
        obtain ⟨m, hm, rfl⟩ := zrg (m := 201) (by omega) (show 0 ≤ i ∧ i ≤ nI 201 - 1 from hi)
        rw [nI_clamp (by omega)]
        obtain ⟨g1, g2, g3⟩ := @sp_us_ok (xMe w) c hW hc m (by omega)
        have hk' : n < xnk (sp_us (xMe w) m).1 := by
          unfold xnk
          rw [g3 2 (by omega) (by omega) (by omega)]
          exact hn
        have e := xlp (fun q => xm_R sc xt_M (d + 8) 233 67 [.ref 191, .int (nI n), .int x, .int (nI m), .int (nI q)] [] (xem (xMu (xcp (xT w 0) 0 0 2 0 296) (sp_us (xMe w) q)) l t)) (K := some (.inl (some (.int (sp_num (sp_us (xMe w) m).2.1 (sp_us (xMe w) m).1 n x).1)), xem (xcp (xMu (xcp (xT w 0) 0 0 2 0 296) ((sp_us (xMe w) m).1, (sp_num (sp_us (xMe w) m).2.1 (sp_us (xMe w) m).1 n x).2, (sp_us (xMe w) m).2.2.1, (sp_us (xMe w) m).2.2.2)) 2 0 0 0 296) l t)) m (by
          intro q hq
          obtain ⟨g1, g2, g3⟩ := @sp_us_ok (xMe w) c hW hc q (by omega)
          have gs : sp_us (xMe w) (q + 1) = sp_u1 (sp_us (xMe w) q) := rfl
          have ht : xil ((sp_us (xMe w) q).1 4 + 1) 20000 := by
            rw [g2, zS]
            exact xil_nI (by omega) (by omega)
          rw [gs]
          generalize sp_us (xMe w) q = u at *
          rw [yb_233_67]
          simp (disch := first | omega | assumption | (rw [xR_u]; first | omega | assumption)) only [↓zbE, zbd_some, ↓xk_I, ↓xk_v, xgM_5, xiM, zRa, zRw, xR_s, xRs_s, zB_0, zB_1, zB_b01, ite_not, ↓reduceIte, nI_ge, zRa_0, zRa_1, zRa_2, zRa_3, zRa_4, zRa_5, zRw_0, zRw_1, zRw_2, zRw_3, zRw_4, zRw_5, zxV_0, zxV_1, zxV_2, zxK_0, zxK_1, zxK_2, zxK_3, zxK_4, zxK_5, zxQ_0, zxQ_1, zxQ_2, zxV_s, zxO, zxF, zc_161_0, zc_161_1, zc_161_2, zc_162_0, zc_162_1, zc_162_2, zc_163_0, zc_163_1, zc_163_2, zc_163_3, zc_163_4, zc_163_5, zc_164_0, zc_164_1, zc_164_2, zc_164_3, zc_164_4, zc_164_5, zc_165_0, zc_165_1, zc_165_2, zc_161_s, zc_162_s, zc_160, zc_166, zc_167, zc_168, zc_158, zc_159, zc_169, zc_183, zc_184, zc_177, zc_178, zc_179, zc_180, zc_185, zc_186, zc_181, zc_182, zc_187, zc_188, zc_189, zc_190, zc_204, zc_205, zc_210, zc_214, zc_215, zc_216, zc_217, zc_219, zc_206, zc_170_0, zc_170_1, xT_T, xR_T, xsM_7T, z10, zc_211, zc_218, zc_212, zc_220, zc_221, zc_222, zc_234, zFa, zFw, xF_s, xFs_s, xR_F, xgM_9, zc_193, zc_192, zc_191, zc_225, zc_229, zc_226, zc_227, zc_235, zc_260, zc_265, zc_213, zS, xR_u, zc_203u, zc_228, zc_258_0, xgM_0, xgM_2, xgM_3, xgM_4, nI_ge, yb_230_48, yb_230_55, zc_229]) (by
          generalize sp_us (xMe w) m = u at *
          rw [yb_233_67]
          simp (disch := first | omega | assumption | (rw [xR_u]; first | omega | assumption)) only [↓zbE, zbd_some, ↓xk_I, ↓xk_v, xgM_5, xiM, zRa, zRw, xR_s, xRs_s, zB_0, zB_1, zB_b01, ite_not, ↓reduceIte, nI_ge, zRa_0, zRa_1, zRa_2, zRa_3, zRa_4, zRa_5, zRw_0, zRw_1, zRw_2, zRw_3, zRw_4, zRw_5, zxV_0, zxV_1, zxV_2, zxK_0, zxK_1, zxK_2, zxK_3, zxK_4, zxK_5, zxQ_0, zxQ_1, zxQ_2, zxV_s, zxO, zxF, zc_161_0, zc_161_1, zc_161_2, zc_162_0, zc_162_1, zc_162_2, zc_163_0, zc_163_1, zc_163_2, zc_163_3, zc_163_4, zc_163_5, zc_164_0, zc_164_1, zc_164_2, zc_164_3, zc_164_4, zc_164_5, zc_165_0, zc_165_1, zc_165_2, zc_161_s, zc_162_s, zc_160, zc_166, zc_167, zc_168, zc_158, zc_159, zc_169, zc_183, zc_184, zc_177, zc_178, zc_179, zc_180, zc_185, zc_186, zc_181, zc_182, zc_187, zc_188, zc_189, zc_190, zc_204, zc_205, zc_210, zc_214, zc_215, zc_216, zc_217, zc_219, zc_206, zc_170_0, zc_170_1, xT_T, xR_T, xsM_7T, z10, zc_211, zc_218, zc_212, zc_220, zc_221, zc_222, zc_234, zFa, zFw, xF_s, xFs_s, xR_F, xgM_9, zc_193, zc_192, zc_191, zc_225, zc_229, zc_226, zc_227, zc_235, zc_260, zc_265, zc_213, zS, xR_u, zc_203u, zc_228, zc_258_0, xgM_0, xgM_2, xgM_3, xgM_4, nI_le, zc_208u])
        have e0 : xMu (xcp (xT w 0) 0 0 2 0 296) (sp_us (xMe w) 0) = xcp (xT w 0) 0 0 2 0 296 := by
          rw [show sp_us (xMe w) 0 = xMe (xcp (xT w 0) 0 0 2 0 296) from by rw [xMe_cp (by rw [xri_T]; exact h0), xMe_T]; rfl, xMu_e]
        rw [e0] at e
        refine ⟨_, Eq.trans ?_ e, xKp_t xKp_T (xKp_back (by rw [xri_T]; exact h0)), xback_2.trans xT_2⟩
        simp (disch := first | omega | assumption | (rw [xR_u]; first | omega | assumption)) only [↓zbE, zbd_some, ↓xk_I, ↓xk_v, xgM_5, xiM, zRa, zRw, xR_s, xRs_s, zB_0, zB_1, zB_b01, ite_not, ↓reduceIte, nI_ge, zRa_0, zRa_1, zRa_2, zRa_3, zRa_4, zRa_5, zRw_0, zRw_1, zRw_2, zRw_3, zRw_4, zRw_5, zxV_0, zxV_1, zxV_2, zxK_0, zxK_1, zxK_2, zxK_3, zxK_4, zxK_5, zxQ_0, zxQ_1, zxQ_2, zxV_s, zxO, zxF, zc_161_0, zc_161_1, zc_161_2, zc_162_0, zc_162_1, zc_162_2, zc_163_0, zc_163_1, zc_163_2, zc_163_3, zc_163_4, zc_163_5, zc_164_0, zc_164_1, zc_164_2, zc_164_3, zc_164_4, zc_164_5, zc_165_0, zc_165_1, zc_165_2, zc_161_s, zc_162_s, zc_160, zc_166, zc_167, zc_168, zc_158, zc_159, zc_169, zc_183, zc_184, zc_177, zc_178, zc_179, zc_180, zc_185, zc_186, zc_181, zc_182, zc_187, zc_188, zc_189, zc_190, zc_204, zc_205, zc_210, zc_214, zc_215, zc_216, zc_217, zc_219, zc_206, zc_170_0, zc_170_1, xT_T, xR_T, xsM_7T, z10, zc_211, zc_218, zc_212, zc_220, zc_221, zc_222, zc_234, zFa, zFw, xF_s, xFs_s, xR_F, xgM_9, zc_193, zc_192, zc_191, zc_225, zc_229, zc_226, zc_227, zc_235, zc_260, zc_265, zc_213, zS, xR_u, zc_203u, zc_228, zc_258_0, xgM_0, xgM_2, xgM_3, xgM_4, zB_tt ha, zB_tt hx, zB_tt hi, xgM_7T, xT_2, z10, z20]
        rfl
      · rw [if_neg hi]
        refine ⟨xT w 2, ?_, xKp_T, xT_2⟩
        simp (disch := first | omega | assumption | (rw [xR_u]; first | omega | assumption)) only [↓zbE, zbd_some, ↓xk_I, ↓xk_v, xgM_5, xiM, zRa, zRw, xR_s, xRs_s, zB_0, zB_1, zB_b01, ite_not, ↓reduceIte, nI_ge, zRa_0, zRa_1, zRa_2, zRa_3, zRa_4, zRa_5, zRw_0, zRw_1, zRw_2, zRw_3, zRw_4, zRw_5, zxV_0, zxV_1, zxV_2, zxK_0, zxK_1, zxK_2, zxK_3, zxK_4, zxK_5, zxQ_0, zxQ_1, zxQ_2, zxV_s, zxO, zxF, zc_161_0, zc_161_1, zc_161_2, zc_162_0, zc_162_1, zc_162_2, zc_163_0, zc_163_1, zc_163_2, zc_163_3, zc_163_4, zc_163_5, zc_164_0, zc_164_1, zc_164_2, zc_164_3, zc_164_4, zc_164_5, zc_165_0, zc_165_1, zc_165_2, zc_161_s, zc_162_s, zc_160, zc_166, zc_167, zc_168, zc_158, zc_159, zc_169, zc_183, zc_184, zc_177, zc_178, zc_179, zc_180, zc_185, zc_186, zc_181, zc_182, zc_187, zc_188, zc_189, zc_190, zc_204, zc_205, zc_210, zc_214, zc_215, zc_216, zc_217, zc_219, zc_206, zc_170_0, zc_170_1, xT_T, xR_T, xsM_7T, z10, zc_211, zc_218, zc_212, zc_220, zc_221, zc_222, zc_234, zFa, zFw, xF_s, xFs_s, xR_F, xgM_9, zc_193, zc_192, zc_191, zc_225, zc_229, zc_226, zc_227, zc_235, zc_260, zc_265, zc_213, zS, xR_u, zc_203u, zc_228, zc_258_0, xgM_0, xgM_2, xgM_3, xgM_4, zB_tt ha, zB_tt hx, zB_ff hi, xgM_7T, xT_2, z10, z20]
    · rw [if_neg hx]
      refine ⟨xT w 1, ?_, xKp_T, xT_2⟩
      simp (disch := first | omega | assumption | (rw [xR_u]; first | omega | assumption)) only [↓zbE, zbd_some, ↓xk_I, ↓xk_v, xgM_5, xiM, zRa, zRw, xR_s, xRs_s, zB_0, zB_1, zB_b01, ite_not, ↓reduceIte, nI_ge, zRa_0, zRa_1, zRa_2, zRa_3, zRa_4, zRa_5, zRw_0, zRw_1, zRw_2, zRw_3, zRw_4, zRw_5, zxV_0, zxV_1, zxV_2, zxK_0, zxK_1, zxK_2, zxK_3, zxK_4, zxK_5, zxQ_0, zxQ_1, zxQ_2, zxV_s, zxO, zxF, zc_161_0, zc_161_1, zc_161_2, zc_162_0, zc_162_1, zc_162_2, zc_163_0, zc_163_1, zc_163_2, zc_163_3, zc_163_4, zc_163_5, zc_164_0, zc_164_1, zc_164_2, zc_164_3, zc_164_4, zc_164_5, zc_165_0, zc_165_1, zc_165_2, zc_161_s, zc_162_s, zc_160, zc_166, zc_167, zc_168, zc_158, zc_159, zc_169, zc_183, zc_184, zc_177, zc_178, zc_179, zc_180, zc_185, zc_186, zc_181, zc_182, zc_187, zc_188, zc_189, zc_190, zc_204, zc_205, zc_210, zc_214, zc_215, zc_216, zc_217, zc_219, zc_206, zc_170_0, zc_170_1, xT_T, xR_T, xsM_7T, z10, zc_211, zc_218, zc_212, zc_220, zc_221, zc_222, zc_234, zFa, zFw, xF_s, xFs_s, xR_F, xgM_9, zc_193, zc_192, zc_191, zc_225, zc_229, zc_226, zc_227, zc_235, zc_260, zc_265, zc_213, zS, xR_u, zc_203u, zc_228, zc_258_0, xgM_0, xgM_2, xgM_3, xgM_4, zB_tt ha, zB_ff hx, xgM_7T, xT_2, z10, z20]
  · rw [if_neg (c := 0 ≤ a ∧ a ≤ (xMe w).1 2 - 1) ha]
    refine ⟨xT w 1, ?_, xKp_T, xT_2⟩
    simp (disch := first | omega | assumption | (rw [xR_u]; first | omega | assumption)) only [↓zbE, zbd_some, ↓xk_I, ↓xk_v, xgM_5, xiM, zRa, zRw, xR_s, xRs_s, zB_0, zB_1, zB_b01, ite_not, ↓reduceIte, nI_ge, zRa_0, zRa_1, zRa_2, zRa_3, zRa_4, zRa_5, zRw_0, zRw_1, zRw_2, zRw_3, zRw_4, zRw_5, zxV_0, zxV_1, zxV_2, zxK_0, zxK_1, zxK_2, zxK_3, zxK_4, zxK_5, zxQ_0, zxQ_1, zxQ_2, zxV_s, zxO, zxF, zc_161_0, zc_161_1, zc_161_2, zc_162_0, zc_162_1, zc_162_2, zc_163_0, zc_163_1, zc_163_2, zc_163_3, zc_163_4, zc_163_5, zc_164_0, zc_164_1, zc_164_2, zc_164_3, zc_164_4, zc_164_5, zc_165_0, zc_165_1, zc_165_2, zc_161_s, zc_162_s, zc_160, zc_166, zc_167, zc_168, zc_158, zc_159, zc_169, zc_183, zc_184, zc_177, zc_178, zc_179, zc_180, zc_185, zc_186, zc_181, zc_182, zc_187, zc_188, zc_189, zc_190, zc_204, zc_205, zc_210, zc_214, zc_215, zc_216, zc_217, zc_219, zc_206, zc_170_0, zc_170_1, xT_T, xR_T, xsM_7T, z10, zc_211, zc_218, zc_212, zc_220, zc_221, zc_222, zc_234, zFa, zFw, xF_s, xFs_s, xR_F, xgM_9, zc_193, zc_192, zc_191, zc_225, zc_229, zc_226, zc_227, zc_235, zc_260, zc_265, zc_213, zS, xR_u, zc_203u, zc_228, zc_258_0, xgM_0, xgM_2, xgM_3, xgM_4, zB_ff ha, xgM_7T, xT_2, z10, z20]
end SH
