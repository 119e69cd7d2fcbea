/-! THE REFERENCE: operations (1) -/
/-- what an operation leaves: the row r', the history one longer -/
def xOps (w w' : xW) (r' : Nat → Int32) (n : Nat) : Prop := (∀ g, g ≠ 3 → w' g = w g) ∧ (∀ i, i ≠ 1 → i ≠ 2 → i ≠ 4 → (w' 3).1 i = (w 3).1 i) ∧ (∀ a, a ≠ 0 → a ≠ 2 → a ≠ 4 → a ≠ 5 → a ≠ 6 → (w' 3).2 a = (w 3).2 a) ∧ (∀ i, i < 296 → (w' 3).2 0 i = r' i) ∧ (w' 3).1 2 = 0 ∧ xHist w w' n
/-- an operation: what is thrown, what is told, the new row if it is recorded -/
def xOpA (o : Option xm_O) (w : xW) (l : Nat → Nat → Int64) (t n : Nat) (s : Int32 × Int32 × Option (Nat → Int32)) : Prop := match s.2.2 with
  | none => xAns o w l t (s.1, s.2.1)
  | some r' => s.1 = 0 ∧ ∃ w', o = some (.inl (some (.int s.2.1)), xem w' l t) ∧ xOps w w' r' n
section OP
variable {w w1 : xW} {n : Nat} {r' : Nat → Int32}
theorem xRs_eq : xRs w r' = xMw w r' (xF w) (xJ w) := by
  have := @xRs_M w (xR w) (xF w) (xJ w) r'
  rw [xMw_self] at this
  exact this
theorem xHist_T (hh : xHist (xT w 0) w1 n) : xHist w w1 n := by
  have e : ∀ a, (xT w 0 3).2 a = (w 3).2 a := fun a => by
    unfold xT
    rw [xu_same]
    rfl
  unfold xHist at *
  rw [e, e] at hh
  exact hh
theorem xOps_Rs (kr : xKr (xT w 0) w1) (hh : xHist (xT w 0) w1 n) (h0 : xri (w 3) = 0) : xOps w (xRs w1 r') r' n := by
  have hri : xri (w1 3) = 0 := by rw [kr.ri, xri_T]; exact h0
  have e1 : (xRs w1 r' 3).1 = (w1 3).1 := by unfold xRs; rw [xu_same]; rfl
  have e2 : ∀ a, a ≠ 0 → (xRs w1 r' 3).2 a = (w1 3).2 a := fun a ha => by
    unfold xRs
    rw [xu_same]
    exact if_neg (by omega)
  have e3 : (xRs w1 r' 3).2 0 = r' := by
    unfold xRs
    rw [xu_same, hri]
    exact xs2_same
  refine ⟨fun g hg => ?_, fun i h1 h2 h4 => ?_, fun a a0 a2 a4 a5 a6 => ?_, fun i _ => ?_, ?_, ?_⟩
  · unfold xRs
    rw [xu_ne hg, kr.1 g hg]
    unfold xT
    exact xu_ne hg
  · rw [e1, kr.2.1 i h1, xT_1 h2]
  · rw [e2 a a0, kr.2.2 a a4]
    unfold xT
    rw [xu_same]
    rfl
  · rw [e3]
  · rw [e1, kr.2.1 2 (by omega), xT_2]
  · have h := xHist_T hh
    unfold xHist at *
    rw [e1, e2 4 (by omega)]
    exact h
theorem xAns_e {o : Option xm_O} {l : Nat → Nat → Int64} {t : Nat} {e v : Int32} (h : o = some (.inl (some (.int v)), xem (xT w e) l t)) : xOpA o w l t n (e, v, none) := ⟨xT w e, h, xKp_T, xT_2⟩
theorem xOpA_s {o : Option xm_O} {l : Nat → Nat → Int64} {t : Nat} {v : Int32} (kr : xKr (xT w 0) w1) (hh : xHist (xT w 0) w1 n) (h0 : xri (w 3) = 0) (h : o = some (.inl (some (.int v)), xem (xRs w1 r') l t)) : xOpA o w l t n (0, v, some r') := ⟨rfl, _, h, xOps_Rs kr hh h0⟩
end OP
def sp_addq (r : Nat → Int32) (a rd b : Int32) : Nat → Int32 := upd (upd (upd (upd r (176 + 3 * xnq r) a) (177 + 3 * xnq r) rd) (178 + 3 * xnq r) b) 3 (nI (xnq r + 1))
theorem sp_addq_3 {r : Nat → Int32} {a rd b : Int32} : sp_addq r a rd b 3 = nI (xnq r + 1) := zu1
theorem sp_addq_h {r : Nat → Int32} {a rd b : Int32} {i : Nat} (h3 : i ≠ 3) (hi : i < 176 + 3 * xnq r) : sp_addq r a rd b i = r i := by
  unfold sp_addq
  rw [zun h3, zun (by omega), zun (by omega), zun (by omega)]
theorem sp_addq_bd {r : Nat → Int32} {a rd b : Int32} (hB : xBd r) (hq : xnq r < 40) : xBd (sp_addq r a rd b) := by
  have e : ∀ i, i < 3 → sp_addq r a rd b i = r i := fun i hi => sp_addq_h (by omega) (by omega)
  have e0 : xnb (sp_addq r a rd b) = xnb r := by unfold xnb; rw [e 0 (by omega)]
  have e1 : xnv (sp_addq r a rd b) = xnv r := by unfold xnv; rw [e 1 (by omega)]
  have e2 : xnk (sp_addq r a rd b) = xnk r := by unfold xnk; rw [e 2 (by omega)]
  have e3 : xnq (sp_addq r a rd b) = xnq r + 1 := by unfold xnq; rw [sp_addq_3, nI_clamp (by omega)]; rfl
  unfold xBd
  rw [e0, e1, e2, e3, e 0 (by omega), e 1 (by omega), e 2 (by omega), sp_addq_3]
  exact ⟨hB.1, hB.2.1, hB.2.2.1, rfl, by omega⟩
def sp_ask (r : Nat → Int32) (a rd b : Int32) : Int32 × Int32 × Option (Nat → Int32) := if 0 ≤ a ∧ a ≤ r 2 - 1 then (if 0 ≤ b ∧ b ≤ r 0 - 1 then (if 0 ≤ rd ∧ rd ≤ 99 then (if xnq r = 40 then (0, -2, none) else
  if r (56 + 6 * a.toNatClampNeg) = 3 ∧ r (60 + 6 * a.toNatClampNeg) = rd then (0, -3, none) else match sp_by r a rd with
  | some _ => (0, -3, none)
  | none => (0, sp_queue (sp_addq r a rd b) a - 1, some (sp_addq r a rd b))) else (2, 0, none)) else (1, 0, none)) else (1, 0, none)
section SK
variable {w : xW} {l : Nat → Nat → Int64} {t : Nat} {sc : xm_Sc} {d : Nat}
theorem zc_176r {q : Nat} (hB : xBd (xR w)) (hq : q < xnq (xR w)) : xm_C sc xt_M (d + 1) 176 [.ref 191, .int (nI q)] (xem w l t) = some (.inl none, xem (xRs w (sp_drop (xR w) q)) l t) := by
  rw [xem_M, zc_176 hB hq, ← xRs_eq]
theorem zc_175 {a rd b : Int32} (hB : xBd (xR w)) (hq : xnq (xR w) < 40) : xm_C sc xt_M (d + 1) 175 [.ref 191, .int a, .int rd, .int b] (xem w l t) = some (.inl none, xem (xRs w (sp_addq (xR w) a rd b)) l t) := by
  rw [yc_175]
  simp (disch := omega) only [↓zbE, zbd_some, ↓xk_I, ↓xk_v, xgM_5, xiM, zRa, zRw, xR_s, xRs_s, zB_0, zB_1, zB_b01, ite_not, ↓reduceIte, nI_ge, zRa_0, zRa_1, zRa_2, zRa_3, zRa_4, zRa_5, zRw_0, zRw_1, zRw_2, zRw_3, zRw_4, zRw_5, zxV_0, zxV_1, zxV_2, zxK_0, zxK_1, zxK_2, zxK_3, zxK_4, zxK_5, zxQ_0, zxQ_1, zxQ_2, zxV_s, zxO, zxF, zc_161_0, zc_161_1, zc_161_2, zc_162_0, zc_162_1, zc_162_2, zc_163_0, zc_163_1, zc_163_2, zc_163_3, zc_163_4, zc_163_5, zc_164_0, zc_164_1, zc_164_2, zc_164_3, zc_164_4, zc_164_5, zc_165_0, zc_165_1, zc_165_2, zc_161_s, zc_162_s, zc_160, zc_166, zc_167, zc_168, zc_158, zc_159, zc_170, zc_169, zc_183, zc_184, zc_177, zc_178, zc_179, zc_180, zc_185, zc_186, zc_181, zc_182, zc_187, zc_188, zc_189, zc_190, zc_204, zc_205, zc_210, zc_214, zc_215, zc_216, zc_217, zc_219, zc_206, zFa, zFw, xF_s, xFs_s, xR_F, xgM_9, zc_193, zc_192, zc_191, zc_193x, zc_194, zc_198, zc_195, zc_196, zc_225, zc_229, hB.q, zun, zS]
  rfl
theorem zc_241 {a rd b : Int32} {n : Nat} (h0 : xri (w 3) = 0) (hW : xWF (xR w)) (hn : n ≤ 10) (hc : (w 3).1 1 = nI n) : xOpA (xm_C sc xt_M (d + 4) 241 [.ref 191, .int a, .int rd, .int b] (xem w l t)) w l t n (sp_ask (xR w) a rd b) := by
  have hB := hW.bd
  have hk20 := hB.k20
  have hq40 := hB.q40
  have hv4 := hB.v4
  have hb6 := hB.b6
  have hW2 : xWF (xR (xT w 0)) := by rw [xR_T]; exact hW
  have hB2 : xBd (xR (xT w 0)) := by rw [xR_T]; exact hW.bd
  obtain ⟨w1, e1, kr, hh⟩ : ∃ w1, xm_C sc xt_M (d + 3) 259 [.ref 191] (xem (xT w 0) l t) = some (.inl none, xem w1 l t) ∧ xKr (xT w 0) w1 ∧ xHist (xT w 0) w1 n := zc_259 hn (by rw [xT_1 (by omega)]; exact hc)
  have hR : xR w1 = xR w := kr.R.trans xR_T
  have hB1 : xBd (xR w1) := by rw [hR]; exact hB
  unfold sp_ask
  rw [yc_241]
  by_cases ha : 0 ≤ a ∧ a ≤ xR w 2 - 1
  · rw [if_pos ha]
    by_cases hb : 0 ≤ b ∧ b ≤ xR w 0 - 1
    · rw [if_pos hb]
      by_cases hr : 0 ≤ rd ∧ rd ≤ 99
      · rw [if_pos hr]
        have ha' := ha
        rw [hB.k] at ha'
        obtain ⟨k, hk, rfl⟩ := zrg (by omega) ha'
        rw [nI_clamp (by omega)]
        by_cases h40 : xnq (xR w) = 40
        · rw [if_pos h40]
          refine xAns_e ?_
          have h40' : xR w 3 = 40 := by rw [hB.q, h40]; rfl
          simp (disch := first | omega | assumption | (rw [xR_s]; first | omega | assumption) | (rw [xR_T]; first | omega | assumption)) only [↓zbE, zbd_some, ↓xk_I, ↓xk_v, xgM_5, xiM, zRa, zRw, xR_s, xRs_s, zB_0, zB_1, zB_b01, ite_not, ↓reduceIte, nI_ge, zRa_0, zRa_1, zRa_2, zRa_3, zRa_4, zRa_5, zRw_0, zRw_1, zRw_2, zRw_3, zRw_4, zRw_5, zxV_0, zxV_1, zxV_2, zxK_0, zxK_1, zxK_2, zxK_3, zxK_4, zxK_5, zxQ_0, zxQ_1, zxQ_2, zxV_s, zxO, zxF, zc_161_0, zc_161_1, zc_161_2, zc_162_0, zc_162_1, zc_162_2, zc_163_0, zc_163_1, zc_163_2, zc_163_3, zc_163_4, zc_163_5, zc_164_0, zc_164_1, zc_164_2, zc_164_3, zc_164_4, zc_164_5, zc_165_0, zc_165_1, zc_165_2, zc_161_s, zc_162_s, zc_160, zc_166, zc_167, zc_168, zc_158, zc_159, zc_169, zc_183, zc_184, zc_177, zc_178, zc_179, zc_180, zc_185, zc_186, zc_181, zc_182, zc_187, zc_188, zc_189, zc_190, zc_204, zc_205, zc_210, zc_214, zc_215, zc_216, zc_217, zc_219, zc_206, zc_170_0, zc_170_1, xT_T, xR_T, xsM_7T, z10, zc_211, zc_218, zc_212, zc_220, zc_221, zc_222, zc_234, zFa, zFw, xF_s, xFs_s, xR_F, xF_T, xgM_9, zc_193, zc_192, zc_191, zc_225, zc_229, zc_226, zc_227, zc_235, zc_260, zc_265, zc_213, zS, xgM_6c, xsM_6c, xgM_7T, xT_2, zc_175, zc_176r, h40', zB_tt ha, zB_tt hb, zB_tt hr, z00, yb_241_17, yb_241_36, yb_241_86, yb_241_87, yb_241_104, z20, toJ, zm1, e1, hR]
        · rw [if_neg h40]
          have h40' : ¬ xR w 3 = 40 := by rw [hB.q]; exact fun g => h40 (nI_inj (b := 40) (by omega) (by omega) g)
          by_cases h3 : xR w (56 + 6 * k) = 3 ∧ xR w (60 + 6 * k) = rd
          · rw [if_pos h3]
            refine xAns_e ?_
            have h3a := h3.1
            have h3b := h3.2
            simp (disch := first | omega | assumption | (rw [xR_s]; first | omega | assumption) | (rw [xR_T]; first | omega | assumption)) only [↓zbE, zbd_some, ↓xk_I, ↓xk_v, xgM_5, xiM, zRa, zRw, xR_s, xRs_s, zB_0, zB_1, zB_b01, ite_not, ↓reduceIte, nI_ge, zRa_0, zRa_1, zRa_2, zRa_3, zRa_4, zRa_5, zRw_0, zRw_1, zRw_2, zRw_3, zRw_4, zRw_5, zxV_0, zxV_1, zxV_2, zxK_0, zxK_1, zxK_2, zxK_3, zxK_4, zxK_5, zxQ_0, zxQ_1, zxQ_2, zxV_s, zxO, zxF, zc_161_0, zc_161_1, zc_161_2, zc_162_0, zc_162_1, zc_162_2, zc_163_0, zc_163_1, zc_163_2, zc_163_3, zc_163_4, zc_163_5, zc_164_0, zc_164_1, zc_164_2, zc_164_3, zc_164_4, zc_164_5, zc_165_0, zc_165_1, zc_165_2, zc_161_s, zc_162_s, zc_160, zc_166, zc_167, zc_168, zc_158, zc_159, zc_169, zc_183, zc_184, zc_177, zc_178, zc_179, zc_180, zc_185, zc_186, zc_181, zc_182, zc_187, zc_188, zc_189, zc_190, zc_204, zc_205, zc_210, zc_214, zc_215, zc_216, zc_217, zc_219, zc_206, zc_170_0, zc_170_1, xT_T, xR_T, xsM_7T, z10, zc_211, zc_218, zc_212, zc_220, zc_221, zc_222, zc_234, zFa, zFw, xF_s, xFs_s, xR_F, xF_T, xgM_9, zc_193, zc_192, zc_191, zc_225, zc_229, zc_226, zc_227, zc_235, zc_260, zc_265, zc_213, zS, xgM_6c, xsM_6c, xgM_7T, xT_2, zc_175, zc_176r, h40', h3a, h3b, zB_tt ha, zB_tt hb, zB_tt hr, z00, yb_241_17, yb_241_36, yb_241_86, yb_241_87, yb_241_104, z20, toJ, zm1, e1, hR]
          · rw [if_neg h3]
            cases hby : sp_by (xR w) (nI k) rd with
            | some q =>
              have h5 := toJ_ne (q := q) (by have := sp_by_lt hby; omega)
              refine xAns_e ?_
              by_cases g1 : xR w (56 + 6 * k) = 3
              · have g2 : ¬ xR w (60 + 6 * k) = rd := fun g2 => h3 ⟨g1, g2⟩
                simp (disch := first | omega | assumption | (rw [xR_s]; first | omega | assumption) | (rw [xR_T]; first | omega | assumption)) only [↓zbE, zbd_some, ↓xk_I, ↓xk_v, xgM_5, xiM, zRa, zRw, xR_s, xRs_s, zB_0, zB_1, zB_b01, ite_not, ↓reduceIte, nI_ge, zRa_0, zRa_1, zRa_2, zRa_3, zRa_4, zRa_5, zRw_0, zRw_1, zRw_2, zRw_3, zRw_4, zRw_5, zxV_0, zxV_1, zxV_2, zxK_0, zxK_1, zxK_2, zxK_3, zxK_4, zxK_5, zxQ_0, zxQ_1, zxQ_2, zxV_s, zxO, zxF, zc_161_0, zc_161_1, zc_161_2, zc_162_0, zc_162_1, zc_162_2, zc_163_0, zc_163_1, zc_163_2, zc_163_3, zc_163_4, zc_163_5, zc_164_0, zc_164_1, zc_164_2, zc_164_3, zc_164_4, zc_164_5, zc_165_0, zc_165_1, zc_165_2, zc_161_s, zc_162_s, zc_160, zc_166, zc_167, zc_168, zc_158, zc_159, zc_169, zc_183, zc_184, zc_177, zc_178, zc_179, zc_180, zc_185, zc_186, zc_181, zc_182, zc_187, zc_188, zc_189, zc_190, zc_204, zc_205, zc_210, zc_214, zc_215, zc_216, zc_217, zc_219, zc_206, zc_170_0, zc_170_1, xT_T, xR_T, xsM_7T, z10, zc_211, zc_218, zc_212, zc_220, zc_221, zc_222, zc_234, zFa, zFw, xF_s, xFs_s, xR_F, xF_T, xgM_9, zc_193, zc_192, zc_191, zc_225, zc_229, zc_226, zc_227, zc_235, zc_260, zc_265, zc_213, zS, xgM_6c, xsM_6c, xgM_7T, xT_2, zc_175, zc_176r, h40', g1, g2, hby, h5, zB_tt ha, zB_tt hb, zB_tt hr, z00, yb_241_17, yb_241_36, yb_241_86, yb_241_87, yb_241_104, z20, toJ, zm1, e1, hR]
              · simp (disch := first | omega | assumption | (rw [xR_s]; first | omega | assumption) | (rw [xR_T]; first | omega | assumption)) only [↓zbE, zbd_some, ↓xk_I, ↓xk_v, xgM_5, xiM, zRa, zRw, xR_s, xRs_s, zB_0, zB_1, zB_b01, ite_not, ↓reduceIte, nI_ge, zRa_0, zRa_1, zRa_2, zRa_3, zRa_4, zRa_5, zRw_0, zRw_1, zRw_2, zRw_3, zRw_4, zRw_5, zxV_0, zxV_1, zxV_2, zxK_0, zxK_1, zxK_2, zxK_3, zxK_4, zxK_5, zxQ_0, zxQ_1, zxQ_2, zxV_s, zxO, zxF, zc_161_0, zc_161_1, zc_161_2, zc_162_0, zc_162_1, zc_162_2, zc_163_0, zc_163_1, zc_163_2, zc_163_3, zc_163_4, zc_163_5, zc_164_0, zc_164_1, zc_164_2, zc_164_3, zc_164_4, zc_164_5, zc_165_0, zc_165_1, zc_165_2, zc_161_s, zc_162_s, zc_160, zc_166, zc_167, zc_168, zc_158, zc_159, zc_169, zc_183, zc_184, zc_177, zc_178, zc_179, zc_180, zc_185, zc_186, zc_181, zc_182, zc_187, zc_188, zc_189, zc_190, zc_204, zc_205, zc_210, zc_214, zc_215, zc_216, zc_217, zc_219, zc_206, zc_170_0, zc_170_1, xT_T, xR_T, xsM_7T, z10, zc_211, zc_218, zc_212, zc_220, zc_221, zc_222, zc_234, zFa, zFw, xF_s, xFs_s, xR_F, xF_T, xgM_9, zc_193, zc_192, zc_191, zc_225, zc_229, zc_226, zc_227, zc_235, zc_260, zc_265, zc_213, zS, xgM_6c, xsM_6c, xgM_7T, xT_2, zc_175, zc_176r, h40', g1, hby, h5, zB_tt ha, zB_tt hb, zB_tt hr, z00, yb_241_17, yb_241_36, yb_241_86, yb_241_87, yb_241_104, z20, toJ, zm1, e1, hR]
            | none =>
              have hB2 : xBd (sp_addq (xR w) (nI k) rd b) := sp_addq_bd hB (by omega)
              have h41 : xnq (xR w1) < 40 := by rw [hR]; omega
              refine xOpA_s kr hh h0 ?_
              by_cases g1 : xR w (56 + 6 * k) = 3
              · have g2 : ¬ xR w (60 + 6 * k) = rd := fun g2 => h3 ⟨g1, g2⟩
                simp (disch := first | omega | assumption | (rw [xR_s]; first | omega | assumption) | (rw [xR_T]; first | omega | assumption)) only [↓zbE, zbd_some, ↓xk_I, ↓xk_v, xgM_5, xiM, zRa, zRw, xR_s, xRs_s, zB_0, zB_1, zB_b01, ite_not, ↓reduceIte, nI_ge, zRa_0, zRa_1, zRa_2, zRa_3, zRa_4, zRa_5, zRw_0, zRw_1, zRw_2, zRw_3, zRw_4, zRw_5, zxV_0, zxV_1, zxV_2, zxK_0, zxK_1, zxK_2, zxK_3, zxK_4, zxK_5, zxQ_0, zxQ_1, zxQ_2, zxV_s, zxO, zxF, zc_161_0, zc_161_1, zc_161_2, zc_162_0, zc_162_1, zc_162_2, zc_163_0, zc_163_1, zc_163_2, zc_163_3, zc_163_4, zc_163_5, zc_164_0, zc_164_1, zc_164_2, zc_164_3, zc_164_4, zc_164_5, zc_165_0, zc_165_1, zc_165_2, zc_161_s, zc_162_s, zc_160, zc_166, zc_167, zc_168, zc_158, zc_159, zc_169, zc_183, zc_184, zc_177, zc_178, zc_179, zc_180, zc_185, zc_186, zc_181, zc_182, zc_187, zc_188, zc_189, zc_190, zc_204, zc_205, zc_210, zc_214, zc_215, zc_216, zc_217, zc_219, zc_206, zc_170_0, zc_170_1, xT_T, xR_T, xsM_7T, z10, zc_211, zc_218, zc_212, zc_220, zc_221, zc_222, zc_234, zFa, zFw, xF_s, xFs_s, xR_F, xF_T, xgM_9, zc_193, zc_192, zc_191, zc_225, zc_229, zc_226, zc_227, zc_235, zc_260, zc_265, zc_213, zS, xgM_6c, xsM_6c, xgM_7T, xT_2, zc_175, zc_176r, h40', g1, g2, hby, zB_tt ha, zB_tt hb, zB_tt hr, z00, yb_241_17, yb_241_36, yb_241_86, yb_241_87, yb_241_104, z20, toJ, zm1, e1, hR]
              · simp (disch := first | omega | assumption | (rw [xR_s]; first | omega | assumption) | (rw [xR_T]; first | omega | assumption)) only [↓zbE, zbd_some, ↓xk_I, ↓xk_v, xgM_5, xiM, zRa, zRw, xR_s, xRs_s, zB_0, zB_1, zB_b01, ite_not, ↓reduceIte, nI_ge, zRa_0, zRa_1, zRa_2, zRa_3, zRa_4, zRa_5, zRw_0, zRw_1, zRw_2, zRw_3, zRw_4, zRw_5, zxV_0, zxV_1, zxV_2, zxK_0, zxK_1, zxK_2, zxK_3, zxK_4, zxK_5, zxQ_0, zxQ_1, zxQ_2, zxV_s, zxO, zxF, zc_161_0, zc_161_1, zc_161_2, zc_162_0, zc_162_1, zc_162_2, zc_163_0, zc_163_1, zc_163_2, zc_163_3, zc_163_4, zc_163_5, zc_164_0, zc_164_1, zc_164_2, zc_164_3, zc_164_4, zc_164_5, zc_165_0, zc_165_1, zc_165_2, zc_161_s, zc_162_s, zc_160, zc_166, zc_167, zc_168, zc_158, zc_159, zc_169, zc_183, zc_184, zc_177, zc_178, zc_179, zc_180, zc_185, zc_186, zc_181, zc_182, zc_187, zc_188, zc_189, zc_190, zc_204, zc_205, zc_210, zc_214, zc_215, zc_216, zc_217, zc_219, zc_206, zc_170_0, zc_170_1, xT_T, xR_T, xsM_7T, z10, zc_211, zc_218, zc_212, zc_220, zc_221, zc_222, zc_234, zFa, zFw, xF_s, xFs_s, xR_F, xF_T, xgM_9, zc_193, zc_192, zc_191, zc_225, zc_229, zc_226, zc_227, zc_235, zc_260, zc_265, zc_213, zS, xgM_6c, xsM_6c, xgM_7T, xT_2, zc_175, zc_176r, h40', g1, hby, zB_tt ha, zB_tt hb, zB_tt hr, z00, yb_241_17, yb_241_36, yb_241_86, yb_241_87, yb_241_104, z20, toJ, zm1, e1, hR]
      · rw [if_neg hr]
        refine xAns_e ?_
        simp (disch := first | omega | assumption | (rw [xR_s]; first | omega | assumption) | (rw [xR_T]; first | omega | assumption)) only [↓zbE, zbd_some, ↓xk_I, ↓xk_v, xgM_5, xiM, zRa, zRw, xR_s, xRs_s, zB_0, zB_1, zB_b01, ite_not, ↓reduceIte, nI_ge, zRa_0, zRa_1, zRa_2, zRa_3, zRa_4, zRa_5, zRw_0, zRw_1, zRw_2, zRw_3, zRw_4, zRw_5, zxV_0, zxV_1, zxV_2, zxK_0, zxK_1, zxK_2, zxK_3, zxK_4, zxK_5, zxQ_0, zxQ_1, zxQ_2, zxV_s, zxO, zxF, zc_161_0, zc_161_1, zc_161_2, zc_162_0, zc_162_1, zc_162_2, zc_163_0, zc_163_1, zc_163_2, zc_163_3, zc_163_4, zc_163_5, zc_164_0, zc_164_1, zc_164_2, zc_164_3, zc_164_4, zc_164_5, zc_165_0, zc_165_1, zc_165_2, zc_161_s, zc_162_s, zc_160, zc_166, zc_167, zc_168, zc_158, zc_159, zc_169, zc_183, zc_184, zc_177, zc_178, zc_179, zc_180, zc_185, zc_186, zc_181, zc_182, zc_187, zc_188, zc_189, zc_190, zc_204, zc_205, zc_210, zc_214, zc_215, zc_216, zc_217, zc_219, zc_206, zc_170_0, zc_170_1, xT_T, xR_T, xsM_7T, z10, zc_211, zc_218, zc_212, zc_220, zc_221, zc_222, zc_234, zFa, zFw, xF_s, xFs_s, xR_F, xF_T, xgM_9, zc_193, zc_192, zc_191, zc_225, zc_229, zc_226, zc_227, zc_235, zc_260, zc_265, zc_213, zS, xgM_6c, xsM_6c, xgM_7T, xT_2, zc_175, zc_176r, zB_tt ha, zB_tt hb, zB_ff hr, z00, yb_241_17, yb_241_36, yb_241_86, yb_241_87, yb_241_104, z20, toJ, zm1, e1, hR]
    · rw [if_neg hb]
      refine xAns_e ?_
      simp (disch := first | omega | assumption | (rw [xR_s]; first | omega | assumption) | (rw [xR_T]; first | omega | assumption)) only [↓zbE, zbd_some, ↓xk_I, ↓xk_v, xgM_5, xiM, zRa, zRw, xR_s, xRs_s, zB_0, zB_1, zB_b01, ite_not, ↓reduceIte, nI_ge, zRa_0, zRa_1, zRa_2, zRa_3, zRa_4, zRa_5, zRw_0, zRw_1, zRw_2, zRw_3, zRw_4, zRw_5, zxV_0, zxV_1, zxV_2, zxK_0, zxK_1, zxK_2, zxK_3, zxK_4, zxK_5, zxQ_0, zxQ_1, zxQ_2, zxV_s, zxO, zxF, zc_161_0, zc_161_1, zc_161_2, zc_162_0, zc_162_1, zc_162_2, zc_163_0, zc_163_1, zc_163_2, zc_163_3, zc_163_4, zc_163_5, zc_164_0, zc_164_1, zc_164_2, zc_164_3, zc_164_4, zc_164_5, zc_165_0, zc_165_1, zc_165_2, zc_161_s, zc_162_s, zc_160, zc_166, zc_167, zc_168, zc_158, zc_159, zc_169, zc_183, zc_184, zc_177, zc_178, zc_179, zc_180, zc_185, zc_186, zc_181, zc_182, zc_187, zc_188, zc_189, zc_190, zc_204, zc_205, zc_210, zc_214, zc_215, zc_216, zc_217, zc_219, zc_206, zc_170_0, zc_170_1, xT_T, xR_T, xsM_7T, z10, zc_211, zc_218, zc_212, zc_220, zc_221, zc_222, zc_234, zFa, zFw, xF_s, xFs_s, xR_F, xF_T, xgM_9, zc_193, zc_192, zc_191, zc_225, zc_229, zc_226, zc_227, zc_235, zc_260, zc_265, zc_213, zS, xgM_6c, xsM_6c, xgM_7T, xT_2, zc_175, zc_176r, zB_tt ha, zB_ff hb, z00, yb_241_17, yb_241_36, yb_241_86, yb_241_87, yb_241_104, z20, toJ, zm1, e1, hR]
  · rw [if_neg ha]
    refine xAns_e ?_
    simp (disch := first | omega | assumption | (rw [xR_s]; first | omega | assumption) | (rw [xR_T]; first | omega | assumption)) only [↓zbE, zbd_some, ↓xk_I, ↓xk_v, xgM_5, xiM, zRa, zRw, xR_s, xRs_s, zB_0, zB_1, zB_b01, ite_not, ↓reduceIte, nI_ge, zRa_0, zRa_1, zRa_2, zRa_3, zRa_4, zRa_5, zRw_0, zRw_1, zRw_2, zRw_3, zRw_4, zRw_5, zxV_0, zxV_1, zxV_2, zxK_0, zxK_1, zxK_2, zxK_3, zxK_4, zxK_5, zxQ_0, zxQ_1, zxQ_2, zxV_s, zxO, zxF, zc_161_0, zc_161_1, zc_161_2, zc_162_0, zc_162_1, zc_162_2, zc_163_0, zc_163_1, zc_163_2, zc_163_3, zc_163_4, zc_163_5, zc_164_0, zc_164_1, zc_164_2, zc_164_3, zc_164_4, zc_164_5, zc_165_0, zc_165_1, zc_165_2, zc_161_s, zc_162_s, zc_160, zc_166, zc_167, zc_168, zc_158, zc_159, zc_169, zc_183, zc_184, zc_177, zc_178, zc_179, zc_180, zc_185, zc_186, zc_181, zc_182, zc_187, zc_188, zc_189, zc_190, zc_204, zc_205, zc_210, zc_214, zc_215, zc_216, zc_217, zc_219, zc_206, zc_170_0, zc_170_1, xT_T, xR_T, xsM_7T, z10, zc_211, zc_218, zc_212, zc_220, zc_221, zc_222, zc_234, zFa, zFw, xF_s, xFs_s, xR_F, xF_T, xgM_9, zc_193, zc_192, zc_191, zc_225, zc_229, zc_226, zc_227, zc_235, zc_260, zc_265, zc_213, zS, xgM_6c, xsM_6c, xgM_7T, xT_2, zc_175, zc_176r, zB_ff ha, z00, yb_241_17, yb_241_36, yb_241_86, yb_241_87, yb_241_104, z20, toJ, zm1, e1, hR]
end SK
