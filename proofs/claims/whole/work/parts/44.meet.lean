/-! THE REFERENCE: meetIn -/
abbrev sp_meetc (r : Nat → Int32) (a b : Int32) : Prop := (0 ≤ a ∧ a ≤ r 1 - 1) ∧ (0 ≤ b ∧ b ≤ r 1 - 1) ∧ ¬ a = b
def sp_meet (r : Nat → Int32) (a b : Int32) : Int32 × Int32 := if sp_meetc r a b then (0, sp_nextAt (xfst (fun i => sp_bin r a.toNatClampNeg (i + 1) = sp_bin r b.toNatClampNeg (i + 1)) 0 (xst r a.toNatClampNeg * xst r b.toNatClampNeg))) else (1, 0)
section SB
variable {w : xW} {l : Nat → Nat → Int64} {t : Nat} {sc : xm_Sc} {d : Nat}
theorem zc_227 {a b : Int32} (hW : xWF (xR w)) : xm_C sc xt_M (d + 3) 227 [.ref 191, .int a, .int b] (xem w l t) = some (.inl (some (.int (sp_meet (xR w) a b).2)), xem (xT w (sp_meet (xR w) a b).1) l t) := by
  have hB := hW.bd
  have hk20 := hB.k20
  have hq40 := hB.q40
  have hv4 := hB.v4
  have hb6 := hB.b6
  have hW2 : xWF (xR (xT w 0)) := by rw [xR_T]; exact hW
  have hB2 : xBd (xR (xT w 0)) := by rw [xR_T]; exact hW.bd
  unfold sp_meet
  rw [yc_227]
  by_cases hc : 0 ≤ a ∧ a ≤ xR w 1 - 1
  · by_cases hb : 0 ≤ b ∧ b ≤ xR w 1 - 1
    · by_cases hn : a = b
      · have hp := fun (h : sp_meetc (xR w) a b) => h.2.2 hn
        rw [if_neg (c := sp_meetc (xR w) a b) hp]
        simp (disch := first | omega | assumption | (rw [xR_T]; first | omega | assumption)) only [↓zbE, zbd_some, ↓xk_I, ↓xk_v, xgM_5, xiM, zRa, zRw, xR_s, xRs_s, zB_0, zB_1, zB_b01, ite_not, ↓reduceIte, nI_ge, zRa_0, zRa_1, zRa_2, zRa_3, zRa_4, zRa_5, zRw_0, zRw_1, zRw_2, zRw_3, zRw_4, zRw_5, zxV_0, zxV_1, zxV_2, zxK_0, zxK_1, zxK_2, zxK_3, zxK_4, zxK_5, zxQ_0, zxQ_1, zxQ_2, zxV_s, zxO, zxF, zc_161_0, zc_161_1, zc_161_2, zc_162_0, zc_162_1, zc_162_2, zc_163_0, zc_163_1, zc_163_2, zc_163_3, zc_163_4, zc_163_5, zc_164_0, zc_164_1, zc_164_2, zc_164_3, zc_164_4, zc_164_5, zc_165_0, zc_165_1, zc_165_2, zc_161_s, zc_162_s, zc_160, zc_166, zc_167, zc_168, zc_158, zc_159, zc_169, zc_183, zc_184, zc_177, zc_178, zc_179, zc_180, zc_185, zc_186, zc_181, zc_182, zc_187, zc_188, zc_189, zc_190, zc_204, zc_205, zc_210, zc_214, zc_215, zc_216, zc_217, zc_219, zc_206, zc_170_0, zc_170_1, xT_T, xR_T, xsM_7T, z10, zc_211, zc_218, zc_212, zc_220, zc_221, zc_222, zc_234, zFa, zFw, xF_s, xFs_s, xR_F, xF_T, xgM_9, zc_193, zc_192, zc_191, zc_225, zc_229, zB_tt hc, zB_tt hb, eq_true hn]
      · have hp : sp_meetc (xR w) a b := ⟨hc, hb, hn⟩
        rw [if_pos (c := sp_meetc (xR w) a b) hp]
        have hc' := hc
        rw [hB.v] at hc'
        obtain ⟨n, hn1, rfl⟩ := zrg (by omega) hc'
        have hb' := hb
        rw [hB.v] at hb'
        obtain ⟨m, hm1, rfl⟩ := zrg (by omega) hb'
        rw [nI_clamp (by omega), nI_clamp (by omega)]
        have s1 := hW.st hn1
        have s2 := hW.st hm1
        have t1 := hW.st9 hn1
        have t2 := hW.st9 hm1
        have hle : xst (xR w) n * xst (xR w) m ≤ 8 * 8 := Nat.mul_le_mul (by omega) (by omega)
        generalize hN : xst (xR w) n * xst (xR w) m = N at *
        have hN' : nI (xst (xR w) n) * nI (xst (xR w) m) = nI N := by rw [zM, hN]
        have e := xlf (fun i => xm_R sc xt_M (d + 2) 227 37 [.ref 191, .int (nI n), .int (nI m), .int (nI (i + 1))] [] (xem (xT w 0) l t)) (p := fun i => sp_bin (xR w) n (i + 1) = sp_bin (xR w) m (i + 1)) (K := fun i => some (.inl (some (.int (nI (i + 1)))), xem (xT w 0) l t)) (E := some (.inl (some (.int (-1))), xem (xT w 0) l t)) N (by
          intro i hi
          have g := nI_nlt (b := i + 1) (a := N) (by omega) (by omega)
          rw [yb_227_37]
          simp (disch := first | omega | assumption | (rw [xR_T]; first | omega | assumption)) only [↓zbE, zbd_some, ↓xk_I, ↓xk_v, xgM_5, xiM, zRa, zRw, xR_s, xRs_s, zB_0, zB_1, zB_b01, ite_not, ↓reduceIte, nI_ge, zRa_0, zRa_1, zRa_2, zRa_3, zRa_4, zRa_5, zRw_0, zRw_1, zRw_2, zRw_3, zRw_4, zRw_5, zxV_0, zxV_1, zxV_2, zxK_0, zxK_1, zxK_2, zxK_3, zxK_4, zxK_5, zxQ_0, zxQ_1, zxQ_2, zxV_s, zxO, zxF, zc_161_0, zc_161_1, zc_161_2, zc_162_0, zc_162_1, zc_162_2, zc_163_0, zc_163_1, zc_163_2, zc_163_3, zc_163_4, zc_163_5, zc_164_0, zc_164_1, zc_164_2, zc_164_3, zc_164_4, zc_164_5, zc_165_0, zc_165_1, zc_165_2, zc_161_s, zc_162_s, zc_160, zc_166, zc_167, zc_168, zc_158, zc_159, zc_169, zc_183, zc_184, zc_177, zc_178, zc_179, zc_180, zc_185, zc_186, zc_181, zc_182, zc_187, zc_188, zc_189, zc_190, zc_204, zc_205, zc_210, zc_214, zc_215, zc_216, zc_217, zc_219, zc_206, zc_170_0, zc_170_1, xT_T, xR_T, xsM_7T, z10, zc_211, zc_218, zc_212, zc_220, zc_221, zc_222, zc_234, zFa, zFw, xF_s, xFs_s, xR_F, xF_T, xgM_9, zc_193, zc_192, zc_191, zc_225, zc_229, zS, s1, s2, hN', g]) (by
          have g := nI_lt (a := N) (b := N + 1) (by omega) (by omega)
          rw [yb_227_37]
          simp (disch := first | omega | assumption | (rw [xR_T]; first | omega | assumption)) only [↓zbE, zbd_some, ↓xk_I, ↓xk_v, xgM_5, xiM, zRa, zRw, xR_s, xRs_s, zB_0, zB_1, zB_b01, ite_not, ↓reduceIte, nI_ge, zRa_0, zRa_1, zRa_2, zRa_3, zRa_4, zRa_5, zRw_0, zRw_1, zRw_2, zRw_3, zRw_4, zRw_5, zxV_0, zxV_1, zxV_2, zxK_0, zxK_1, zxK_2, zxK_3, zxK_4, zxK_5, zxQ_0, zxQ_1, zxQ_2, zxV_s, zxO, zxF, zc_161_0, zc_161_1, zc_161_2, zc_162_0, zc_162_1, zc_162_2, zc_163_0, zc_163_1, zc_163_2, zc_163_3, zc_163_4, zc_163_5, zc_164_0, zc_164_1, zc_164_2, zc_164_3, zc_164_4, zc_164_5, zc_165_0, zc_165_1, zc_165_2, zc_161_s, zc_162_s, zc_160, zc_166, zc_167, zc_168, zc_158, zc_159, zc_169, zc_183, zc_184, zc_177, zc_178, zc_179, zc_180, zc_185, zc_186, zc_181, zc_182, zc_187, zc_188, zc_189, zc_190, zc_204, zc_205, zc_210, zc_214, zc_215, zc_216, zc_217, zc_219, zc_206, zc_170_0, zc_170_1, xT_T, xR_T, xsM_7T, z10, zc_211, zc_218, zc_212, zc_220, zc_221, zc_222, zc_234, zFa, zFw, xF_s, xFs_s, xR_F, xF_T, xgM_9, zc_193, zc_192, zc_191, zc_225, zc_229, s1, s2, hN', g])
        refine Eq.trans ?_ (e.trans ?_)
        · simp (disch := first | omega | assumption | (rw [xR_T]; first | omega | assumption)) only [↓zbE, zbd_some, ↓xk_I, ↓xk_v, xgM_5, xiM, zRa, zRw, xR_s, xRs_s, zB_0, zB_1, zB_b01, ite_not, ↓reduceIte, nI_ge, zRa_0, zRa_1, zRa_2, zRa_3, zRa_4, zRa_5, zRw_0, zRw_1, zRw_2, zRw_3, zRw_4, zRw_5, zxV_0, zxV_1, zxV_2, zxK_0, zxK_1, zxK_2, zxK_3, zxK_4, zxK_5, zxQ_0, zxQ_1, zxQ_2, zxV_s, zxO, zxF, zc_161_0, zc_161_1, zc_161_2, zc_162_0, zc_162_1, zc_162_2, zc_163_0, zc_163_1, zc_163_2, zc_163_3, zc_163_4, zc_163_5, zc_164_0, zc_164_1, zc_164_2, zc_164_3, zc_164_4, zc_164_5, zc_165_0, zc_165_1, zc_165_2, zc_161_s, zc_162_s, zc_160, zc_166, zc_167, zc_168, zc_158, zc_159, zc_169, zc_183, zc_184, zc_177, zc_178, zc_179, zc_180, zc_185, zc_186, zc_181, zc_182, zc_187, zc_188, zc_189, zc_190, zc_204, zc_205, zc_210, zc_214, zc_215, zc_216, zc_217, zc_219, zc_206, zc_170_0, zc_170_1, xT_T, xR_T, xsM_7T, z10, zc_211, zc_218, zc_212, zc_220, zc_221, zc_222, zc_234, zFa, zFw, xF_s, xFs_s, xR_F, xF_T, xgM_9, zc_193, zc_192, zc_191, zc_225, zc_229, zB_tt hc, zB_tt hb, hn]
          rfl
        · unfold sp_nextAt
          split <;> rename_i h <;> rw [h]
    · have hp := fun (h : sp_meetc (xR w) a b) => hb h.2.1
      rw [if_neg (c := sp_meetc (xR w) a b) hp]
      simp (disch := first | omega | assumption | (rw [xR_T]; first | omega | assumption)) only [↓zbE, zbd_some, ↓xk_I, ↓xk_v, xgM_5, xiM, zRa, zRw, xR_s, xRs_s, zB_0, zB_1, zB_b01, ite_not, ↓reduceIte, nI_ge, zRa_0, zRa_1, zRa_2, zRa_3, zRa_4, zRa_5, zRw_0, zRw_1, zRw_2, zRw_3, zRw_4, zRw_5, zxV_0, zxV_1, zxV_2, zxK_0, zxK_1, zxK_2, zxK_3, zxK_4, zxK_5, zxQ_0, zxQ_1, zxQ_2, zxV_s, zxO, zxF, zc_161_0, zc_161_1, zc_161_2, zc_162_0, zc_162_1, zc_162_2, zc_163_0, zc_163_1, zc_163_2, zc_163_3, zc_163_4, zc_163_5, zc_164_0, zc_164_1, zc_164_2, zc_164_3, zc_164_4, zc_164_5, zc_165_0, zc_165_1, zc_165_2, zc_161_s, zc_162_s, zc_160, zc_166, zc_167, zc_168, zc_158, zc_159, zc_169, zc_183, zc_184, zc_177, zc_178, zc_179, zc_180, zc_185, zc_186, zc_181, zc_182, zc_187, zc_188, zc_189, zc_190, zc_204, zc_205, zc_210, zc_214, zc_215, zc_216, zc_217, zc_219, zc_206, zc_170_0, zc_170_1, xT_T, xR_T, xsM_7T, z10, zc_211, zc_218, zc_212, zc_220, zc_221, zc_222, zc_234, zFa, zFw, xF_s, xFs_s, xR_F, xF_T, xgM_9, zc_193, zc_192, zc_191, zc_225, zc_229, zB_tt hc, zB_ff hb]
  · have hp := fun (h : sp_meetc (xR w) a b) => hc h.1
    rw [if_neg (c := sp_meetc (xR w) a b) hp]
    simp (disch := first | omega | assumption | (rw [xR_T]; first | omega | assumption)) only [↓zbE, zbd_some, ↓xk_I, ↓xk_v, xgM_5, xiM, zRa, zRw, xR_s, xRs_s, zB_0, zB_1, zB_b01, ite_not, ↓reduceIte, nI_ge, zRa_0, zRa_1, zRa_2, zRa_3, zRa_4, zRa_5, zRw_0, zRw_1, zRw_2, zRw_3, zRw_4, zRw_5, zxV_0, zxV_1, zxV_2, zxK_0, zxK_1, zxK_2, zxK_3, zxK_4, zxK_5, zxQ_0, zxQ_1, zxQ_2, zxV_s, zxO, zxF, zc_161_0, zc_161_1, zc_161_2, zc_162_0, zc_162_1, zc_162_2, zc_163_0, zc_163_1, zc_163_2, zc_163_3, zc_163_4, zc_163_5, zc_164_0, zc_164_1, zc_164_2, zc_164_3, zc_164_4, zc_164_5, zc_165_0, zc_165_1, zc_165_2, zc_161_s, zc_162_s, zc_160, zc_166, zc_167, zc_168, zc_158, zc_159, zc_169, zc_183, zc_184, zc_177, zc_178, zc_179, zc_180, zc_185, zc_186, zc_181, zc_182, zc_187, zc_188, zc_189, zc_190, zc_204, zc_205, zc_210, zc_214, zc_215, zc_216, zc_217, zc_219, zc_206, zc_170_0, zc_170_1, xT_T, xR_T, xsM_7T, z10, zc_211, zc_218, zc_212, zc_220, zc_221, zc_222, zc_234, zFa, zFw, xF_s, xFs_s, xR_F, xF_T, xgM_9, zc_193, zc_192, zc_191, zc_225, zc_229, zB_ff hc]
end SB
