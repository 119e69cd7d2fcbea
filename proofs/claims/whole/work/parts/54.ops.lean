/-! THE REFERENCE: operations (2) -/
abbrev sp_hf (r : Nat → Int32) (k : Nat) (rd : Int32) : Prop := r (56 + 6 * k) = 2 ∧ r (60 + 6 * k) = rd
abbrev sp_bk (r : Nat → Int32) (a : Int32) : Prop := 0 ≤ a ∧ a ≤ r 2 - 1
abbrev sp_br (r : Nat → Int32) (a : Int32) : Prop := 0 ≤ a ∧ a ≤ r 0 - 1
abbrev sp_vn (r : Nat → Int32) (a : Int32) : Prop := 0 ≤ a ∧ a ≤ r 1 - 1
def sp_cancelN (r : Nat → Int32) (k : Nat) (rd : Int32) : Int32 × Int32 × Option (Nat → Int32) := match sp_by r (nI k) rd with
  | none => (0, -2, none)
  | some q => (0, sp_rank r q, some (sp_drop (if sp_hf r k rd then sp_put r k 0 (r (57 + 6 * k)) else r) q))
def sp_recallN (r : Nat → Int32) (k : Nat) : Int32 × Int32 × Option (Nat → Int32) := if r (59 + 6 * k) = 1 then (0, -2, none) else if sp_isIn r 0 k (r (58 + 6 * k)) then (0, -3, none) else
  (0, r (56 + 6 * k), some (upd (if r (56 + 6 * k) = 2 then sp_put r k 0 (r (57 + 6 * k)) else r) (59 + 6 * k) 1))
def sp_takeN (r : Nat → Int32) (k : Nat) (rd : Int32) : Int32 × Int32 × Option (Nat → Int32) := if sp_hf r k rd then (match sp_by r (nI k) rd with
  | none => (0, -2, none)
  | some q => (0, r (57 + 6 * k), some (upd (sp_put (sp_drop r q) k 3 (-1)) (60 + 6 * k) rd))) else (0, -2, none)
def sp_backN (r : Nat → Int32) (k : Nat) (b : Int32) : Int32 × Int32 × Option (Nat → Int32) := if r (56 + 6 * k) = 3 then (if xop r b then (0, r (60 + 6 * k), some (sp_put r k 0 b)) else (0, -3, none)) else (0, -2, none)
def sp_findN (r : Nat → Int32) (k : Nat) (b : Int32) : Int32 × Int32 × Option (Nat → Int32) := if r (56 + 6 * k) = 4 then (0, sp_goal (sp_put r k 0 b) k + 1, some (sp_put r k 0 b)) else (0, -2, none)
def sp_cancel (r : Nat → Int32) (a rd : Int32) : Int32 × Int32 × Option (Nat → Int32) := if sp_bk r a then sp_cancelN r a.toNatClampNeg rd else (1, 0, none)
def sp_recall (r : Nat → Int32) (a : Int32) : Int32 × Int32 × Option (Nat → Int32) := if sp_bk r a then sp_recallN r a.toNatClampNeg else (1, 0, none)
def sp_takeO (r : Nat → Int32) (a rd : Int32) : Int32 × Int32 × Option (Nat → Int32) := if sp_bk r a then sp_takeN r a.toNatClampNeg rd else (1, 0, none)
def sp_giveBack (r : Nat → Int32) (a b : Int32) : Int32 × Int32 × Option (Nat → Int32) := if sp_bk r a then (if sp_br r b then sp_backN r a.toNatClampNeg b else (1, 0, none)) else (1, 0, none)
def sp_find (r : Nat → Int32) (a b : Int32) : Int32 × Int32 × Option (Nat → Int32) := if sp_bk r a then (if sp_br r b then sp_findN r a.toNatClampNeg b else (1, 0, none)) else (1, 0, none)
def sp_setHold (r : Nat → Int32) (x : Int32) : Int32 × Int32 × Option (Nat → Int32) := if 1 ≤ x ∧ x ≤ 50 then (0, r 5, some (upd r 5 x)) else (1, 0, none)
section SL
variable {w : xW} {l : Nat → Nat → Int64} {t : Nat} {sc : xm_Sc} {d : Nat}
theorem zc_242 {a rd : Int32} {n : Nat} (h0 : xri (w 3) = 0) (hW : xWF (xR w)) (hn : n ≤ 10) (hc : (w 3).1 1 = nI n) : xOpA (xm_C sc xt_M (d + 5) 242 [.ref 191, .int a, .int rd] (xem w l t)) w l t n (sp_cancel (xR w) a rd) := by
  have hB := hW.bd
  have hk20 := hB.k20
  have hq40 := hB.q40
  have hv4 := hB.v4
  have hb6 := hB.b6
  have hW2 : xWF (xR (xT w 0)) := by rw [xR_T]; exact hW
  have hB2 : xBd (xR (xT w 0)) := by rw [xR_T]; exact hW.bd
  obtain ⟨w1, e1, kr, hh⟩ : ∃ w1, xm_C sc xt_M (d + 4) 259 [.ref 191] (xem (xT w 0) l t) = some (.inl none, xem w1 l t) ∧ xKr (xT w 0) w1 ∧ xHist (xT w 0) w1 n := zc_259 hn (by rw [xT_1 (by omega)]; exact hc)
  have hR : xR w1 = xR w := kr.R.trans xR_T
  have hB1 : xBd (xR w1) := by rw [hR]; exact hB
  have hW1 : xWF (xR w1) := by rw [hR]; exact hW
  unfold sp_cancel
  rw [yc_242]
  by_cases ha : sp_bk (xR w) a
  · rw [if_pos ha]
    have ha' := ha
    rw [sp_bk, hB.k] at ha'
    obtain ⟨k, hk, rfl⟩ := zrg (by omega) ha'
    rw [nI_clamp (by omega)]
    unfold sp_cancelN
    cases hby : sp_by (xR w) (nI k) rd with
    | none =>
      refine xAns_e ?_
      simp (disch := first | omega | assumption | (rw [xR_s]; first | omega | assumption) | (rw [xR_T]; first | omega | assumption)) only [↓zbE, zbd_some, ↓xk_I, ↓xk_v, xgM_5, xiM, zRa, zRw, xR_s, xRs_s, zB_0, zB_1, zB_b01, ite_not, ↓reduceIte, nI_ge, zRa_0, zRa_1, zRa_2, zRa_3, zRa_4, zRa_5, zRw_0, zRw_1, zRw_2, zRw_3, zRw_4, zRw_5, zxV_0, zxV_1, zxV_2, zxK_0, zxK_1, zxK_2, zxK_3, zxK_4, zxK_5, zxQ_0, zxQ_1, zxQ_2, zxV_s, zxO, zxF, zc_161_0, zc_161_1, zc_161_2, zc_162_0, zc_162_1, zc_162_2, zc_163_0, zc_163_1, zc_163_2, zc_163_3, zc_163_4, zc_163_5, zc_164_0, zc_164_1, zc_164_2, zc_164_3, zc_164_4, zc_164_5, zc_165_0, zc_165_1, zc_165_2, zc_161_s, zc_162_s, zc_160, zc_166, zc_167, zc_168, zc_158, zc_159, zc_169, zc_183, zc_184, zc_177, zc_178, zc_179, zc_180, zc_185, zc_186, zc_181, zc_182, zc_187, zc_188, zc_189, zc_190, zc_204, zc_205, zc_210, zc_214, zc_215, zc_216, zc_217, zc_219, zc_206, zc_170_0, zc_170_1, xT_T, xR_T, xsM_7T, z10, zc_211, zc_218, zc_212, zc_220, zc_221, zc_222, zc_234, zFa, zFw, xF_s, xFs_s, xR_F, xF_T, xgM_9, zc_193, zc_192, zc_191, zc_225, zc_229, zc_226, zc_227, zc_235, zc_260, zc_265, zc_213, zS, xgM_6c, xsM_6c, xgM_7T, xT_2, zc_175, zc_176r, zB_tt (c := 0 ≤ nI k ∧ nI k ≤ xR w 2 - 1) ha, z00, z20, toJ, zm1, e1, hR, hby, yb_242_60]
    | some q =>
      have h5 := toJ_ne (q := q) (by have := sp_by_lt hby; omega)
      have hq := sp_by_lt hby
      have hq1 : q < xnq (xR w1) := by rw [hR]; exact hq
      have hx : xhd (xR w) (sp_put (xR w) k 0 (xR w (57 + 6 * k))) := fun i hi => sp_put_h (by omega) hi
      refine xOpA_s kr hh h0 ?_
      by_cases g : sp_hf (xR w) k rd
      · rw [if_pos g]
        have hB2 : xBd (sp_put (xR w) k 0 (xR w (57 + 6 * k))) := (xWF_put hW hk (Or.inl ⟨rfl, (hW.k k hk).2.2.2.1 (Or.inr g.1)⟩)).bd
        have hq2 : q < xnq (sp_put (xR w) k 0 (xR w (57 + 6 * k))) := by rw [hx.q]; exact hq
        simp (disch := first | omega | assumption | (rw [xR_s]; first | omega | assumption) | (rw [xR_T]; first | omega | assumption)) only [↓zbE, zbd_some, ↓xk_I, ↓xk_v, xgM_5, xiM, zRa, zRw, xR_s, xRs_s, zB_0, zB_1, zB_b01, ite_not, ↓reduceIte, nI_ge, zRa_0, zRa_1, zRa_2, zRa_3, zRa_4, zRa_5, zRw_0, zRw_1, zRw_2, zRw_3, zRw_4, zRw_5, zxV_0, zxV_1, zxV_2, zxK_0, zxK_1, zxK_2, zxK_3, zxK_4, zxK_5, zxQ_0, zxQ_1, zxQ_2, zxV_s, zxO, zxF, zc_161_0, zc_161_1, zc_161_2, zc_162_0, zc_162_1, zc_162_2, zc_163_0, zc_163_1, zc_163_2, zc_163_3, zc_163_4, zc_163_5, zc_164_0, zc_164_1, zc_164_2, zc_164_3, zc_164_4, zc_164_5, zc_165_0, zc_165_1, zc_165_2, zc_161_s, zc_162_s, zc_160, zc_166, zc_167, zc_168, zc_158, zc_159, zc_169, zc_183, zc_184, zc_177, zc_178, zc_179, zc_180, zc_185, zc_186, zc_181, zc_182, zc_187, zc_188, zc_189, zc_190, zc_204, zc_205, zc_210, zc_214, zc_215, zc_216, zc_217, zc_219, zc_206, zc_170_0, zc_170_1, xT_T, xR_T, xsM_7T, z10, zc_211, zc_218, zc_212, zc_220, zc_221, zc_222, zc_234, zFa, zFw, xF_s, xFs_s, xR_F, xF_T, xgM_9, zc_193, zc_192, zc_191, zc_225, zc_229, zc_226, zc_227, zc_235, zc_260, zc_265, zc_213, zS, xgM_6c, xsM_6c, xgM_7T, xT_2, zc_175, zc_176r, h5, eq_true g, zB_tt (c := 0 ≤ nI k ∧ nI k ≤ xR w 2 - 1) ha, z00, z20, toJ, zm1, e1, hR, hby, yb_242_60]
      · rw [if_neg g]
        simp (disch := first | omega | assumption | (rw [xR_s]; first | omega | assumption) | (rw [xR_T]; first | omega | assumption)) only [↓zbE, zbd_some, ↓xk_I, ↓xk_v, xgM_5, xiM, zRa, zRw, xR_s, xRs_s, zB_0, zB_1, zB_b01, ite_not, ↓reduceIte, nI_ge, zRa_0, zRa_1, zRa_2, zRa_3, zRa_4, zRa_5, zRw_0, zRw_1, zRw_2, zRw_3, zRw_4, zRw_5, zxV_0, zxV_1, zxV_2, zxK_0, zxK_1, zxK_2, zxK_3, zxK_4, zxK_5, zxQ_0, zxQ_1, zxQ_2, zxV_s, zxO, zxF, zc_161_0, zc_161_1, zc_161_2, zc_162_0, zc_162_1, zc_162_2, zc_163_0, zc_163_1, zc_163_2, zc_163_3, zc_163_4, zc_163_5, zc_164_0, zc_164_1, zc_164_2, zc_164_3, zc_164_4, zc_164_5, zc_165_0, zc_165_1, zc_165_2, zc_161_s, zc_162_s, zc_160, zc_166, zc_167, zc_168, zc_158, zc_159, zc_169, zc_183, zc_184, zc_177, zc_178, zc_179, zc_180, zc_185, zc_186, zc_181, zc_182, zc_187, zc_188, zc_189, zc_190, zc_204, zc_205, zc_210, zc_214, zc_215, zc_216, zc_217, zc_219, zc_206, zc_170_0, zc_170_1, xT_T, xR_T, xsM_7T, z10, zc_211, zc_218, zc_212, zc_220, zc_221, zc_222, zc_234, zFa, zFw, xF_s, xFs_s, xR_F, xF_T, xgM_9, zc_193, zc_192, zc_191, zc_225, zc_229, zc_226, zc_227, zc_235, zc_260, zc_265, zc_213, zS, xgM_6c, xsM_6c, xgM_7T, xT_2, zc_175, zc_176r, h5, eq_false g, zB_tt (c := 0 ≤ nI k ∧ nI k ≤ xR w 2 - 1) ha, z00, z20, toJ, zm1, e1, hR, hby, yb_242_60]
  · rw [if_neg ha]
    refine xAns_e ?_
    simp (disch := first | omega | assumption | (rw [xR_s]; first | omega | assumption) | (rw [xR_T]; first | omega | assumption)) only [↓zbE, zbd_some, ↓xk_I, ↓xk_v, xgM_5, xiM, zRa, zRw, xR_s, xRs_s, zB_0, zB_1, zB_b01, ite_not, ↓reduceIte, nI_ge, zRa_0, zRa_1, zRa_2, zRa_3, zRa_4, zRa_5, zRw_0, zRw_1, zRw_2, zRw_3, zRw_4, zRw_5, zxV_0, zxV_1, zxV_2, zxK_0, zxK_1, zxK_2, zxK_3, zxK_4, zxK_5, zxQ_0, zxQ_1, zxQ_2, zxV_s, zxO, zxF, zc_161_0, zc_161_1, zc_161_2, zc_162_0, zc_162_1, zc_162_2, zc_163_0, zc_163_1, zc_163_2, zc_163_3, zc_163_4, zc_163_5, zc_164_0, zc_164_1, zc_164_2, zc_164_3, zc_164_4, zc_164_5, zc_165_0, zc_165_1, zc_165_2, zc_161_s, zc_162_s, zc_160, zc_166, zc_167, zc_168, zc_158, zc_159, zc_169, zc_183, zc_184, zc_177, zc_178, zc_179, zc_180, zc_185, zc_186, zc_181, zc_182, zc_187, zc_188, zc_189, zc_190, zc_204, zc_205, zc_210, zc_214, zc_215, zc_216, zc_217, zc_219, zc_206, zc_170_0, zc_170_1, xT_T, xR_T, xsM_7T, z10, zc_211, zc_218, zc_212, zc_220, zc_221, zc_222, zc_234, zFa, zFw, xF_s, xFs_s, xR_F, xF_T, xgM_9, zc_193, zc_192, zc_191, zc_225, zc_229, zc_226, zc_227, zc_235, zc_260, zc_265, zc_213, zS, xgM_6c, xsM_6c, xgM_7T, xT_2, zc_175, zc_176r, zB_ff (c := 0 ≤ a ∧ a ≤ xR w 2 - 1) ha, z00, z20, toJ, zm1, e1, hR, yb_242_60]
theorem zc_243 {a : Int32} {n : Nat} (h0 : xri (w 3) = 0) (hW : xWF (xR w)) (hn : n ≤ 10) (hc : (w 3).1 1 = nI n) : xOpA (xm_C sc xt_M (d + 5) 243 [.ref 191, .int a] (xem w l t)) w l t n (sp_recall (xR w) a) := by
  have hB := hW.bd
  have hk20 := hB.k20
  have hq40 := hB.q40
  have hv4 := hB.v4
  have hb6 := hB.b6
  have hW2 : xWF (xR (xT w 0)) := by rw [xR_T]; exact hW
  have hB2 : xBd (xR (xT w 0)) := by rw [xR_T]; exact hW.bd
  obtain ⟨w1, e1, kr, hh⟩ : ∃ w1, xm_C sc xt_M (d + 4) 259 [.ref 191] (xem (xT w 0) l t) = some (.inl none, xem w1 l t) ∧ xKr (xT w 0) w1 ∧ xHist (xT w 0) w1 n := zc_259 hn (by rw [xT_1 (by omega)]; exact hc)
  have hR : xR w1 = xR w := kr.R.trans xR_T
  have hB1 : xBd (xR w1) := by rw [hR]; exact hB
  have hW1 : xWF (xR w1) := by rw [hR]; exact hW
  unfold sp_recall
  rw [yc_243]
  by_cases ha : sp_bk (xR w) a
  · rw [if_pos ha]
    have ha' := ha
    rw [sp_bk, hB.k] at ha'
    obtain ⟨k, hk, rfl⟩ := zrg (by omega) ha'
    rw [nI_clamp (by omega)]
    unfold sp_recallN
    by_cases h1 : xR w (59 + 6 * k) = 1
    · rw [if_pos h1]
      refine xAns_e ?_
      simp (disch := first | omega | assumption | (rw [xR_s]; first | omega | assumption) | (rw [xR_T]; first | omega | assumption)) only [↓zbE, zbd_some, ↓xk_I, ↓xk_v, xgM_5, xiM, zRa, zRw, xR_s, xRs_s, zB_0, zB_1, zB_b01, ite_not, ↓reduceIte, nI_ge, zRa_0, zRa_1, zRa_2, zRa_3, zRa_4, zRa_5, zRw_0, zRw_1, zRw_2, zRw_3, zRw_4, zRw_5, zxV_0, zxV_1, zxV_2, zxK_0, zxK_1, zxK_2, zxK_3, zxK_4, zxK_5, zxQ_0, zxQ_1, zxQ_2, zxV_s, zxO, zxF, zc_161_0, zc_161_1, zc_161_2, zc_162_0, zc_162_1, zc_162_2, zc_163_0, zc_163_1, zc_163_2, zc_163_3, zc_163_4, zc_163_5, zc_164_0, zc_164_1, zc_164_2, zc_164_3, zc_164_4, zc_164_5, zc_165_0, zc_165_1, zc_165_2, zc_161_s, zc_162_s, zc_160, zc_166, zc_167, zc_168, zc_158, zc_159, zc_169, zc_183, zc_184, zc_177, zc_178, zc_179, zc_180, zc_185, zc_186, zc_181, zc_182, zc_187, zc_188, zc_189, zc_190, zc_204, zc_205, zc_210, zc_214, zc_215, zc_216, zc_217, zc_219, zc_206, zc_170_0, zc_170_1, xT_T, xR_T, xsM_7T, z10, zc_211, zc_218, zc_212, zc_220, zc_221, zc_222, zc_234, zFa, zFw, xF_s, xFs_s, xR_F, xF_T, xgM_9, zc_193, zc_192, zc_191, zc_225, zc_229, zc_226, zc_227, zc_235, zc_260, zc_265, zc_213, zS, xgM_6c, xsM_6c, xgM_7T, xT_2, zc_175, zc_176r, h1, zB_tt (c := 0 ≤ nI k ∧ nI k ≤ xR w 2 - 1) ha, z00, z20, toJ, zm1, e1, hR, yb_243_71]
    · rw [if_neg h1]
      by_cases h2 : sp_isIn (xR w) 0 k (xR w (58 + 6 * k))
      · rw [if_pos h2]
        refine xAns_e ?_
        simp (disch := first | omega | assumption | (rw [xR_s]; first | omega | assumption) | (rw [xR_T]; first | omega | assumption)) only [↓zbE, zbd_some, ↓xk_I, ↓xk_v, xgM_5, xiM, zRa, zRw, xR_s, xRs_s, zB_0, zB_1, zB_b01, ite_not, ↓reduceIte, nI_ge, zRa_0, zRa_1, zRa_2, zRa_3, zRa_4, zRa_5, zRw_0, zRw_1, zRw_2, zRw_3, zRw_4, zRw_5, zxV_0, zxV_1, zxV_2, zxK_0, zxK_1, zxK_2, zxK_3, zxK_4, zxK_5, zxQ_0, zxQ_1, zxQ_2, zxV_s, zxO, zxF, zc_161_0, zc_161_1, zc_161_2, zc_162_0, zc_162_1, zc_162_2, zc_163_0, zc_163_1, zc_163_2, zc_163_3, zc_163_4, zc_163_5, zc_164_0, zc_164_1, zc_164_2, zc_164_3, zc_164_4, zc_164_5, zc_165_0, zc_165_1, zc_165_2, zc_161_s, zc_162_s, zc_160, zc_166, zc_167, zc_168, zc_158, zc_159, zc_169, zc_183, zc_184, zc_177, zc_178, zc_179, zc_180, zc_185, zc_186, zc_181, zc_182, zc_187, zc_188, zc_189, zc_190, zc_204, zc_205, zc_210, zc_214, zc_215, zc_216, zc_217, zc_219, zc_206, zc_170_0, zc_170_1, xT_T, xR_T, xsM_7T, z10, zc_211, zc_218, zc_212, zc_220, zc_221, zc_222, zc_234, zFa, zFw, xF_s, xFs_s, xR_F, xF_T, xgM_9, zc_193, zc_192, zc_191, zc_225, zc_229, zc_226, zc_227, zc_235, zc_260, zc_265, zc_213, zS, xgM_6c, xsM_6c, xgM_7T, xT_2, zc_175, zc_176r, h1, eq_true h2, zB_tt (c := 0 ≤ nI k ∧ nI k ≤ xR w 2 - 1) ha, z00, z20, toJ, zm1, e1, hR, yb_243_71]
      · rw [if_neg h2]
        refine xOpA_s kr hh h0 ?_
        by_cases h3 : xR w (56 + 6 * k) = 2
        · rw [if_pos h3]
          simp (disch := first | omega | assumption | (rw [xR_s]; first | omega | assumption) | (rw [xR_T]; first | omega | assumption)) only [↓zbE, zbd_some, ↓xk_I, ↓xk_v, xgM_5, xiM, zRa, zRw, xR_s, xRs_s, zB_0, zB_1, zB_b01, ite_not, ↓reduceIte, nI_ge, zRa_0, zRa_1, zRa_2, zRa_3, zRa_4, zRa_5, zRw_0, zRw_1, zRw_2, zRw_3, zRw_4, zRw_5, zxV_0, zxV_1, zxV_2, zxK_0, zxK_1, zxK_2, zxK_3, zxK_4, zxK_5, zxQ_0, zxQ_1, zxQ_2, zxV_s, zxO, zxF, zc_161_0, zc_161_1, zc_161_2, zc_162_0, zc_162_1, zc_162_2, zc_163_0, zc_163_1, zc_163_2, zc_163_3, zc_163_4, zc_163_5, zc_164_0, zc_164_1, zc_164_2, zc_164_3, zc_164_4, zc_164_5, zc_165_0, zc_165_1, zc_165_2, zc_161_s, zc_162_s, zc_160, zc_166, zc_167, zc_168, zc_158, zc_159, zc_169, zc_183, zc_184, zc_177, zc_178, zc_179, zc_180, zc_185, zc_186, zc_181, zc_182, zc_187, zc_188, zc_189, zc_190, zc_204, zc_205, zc_210, zc_214, zc_215, zc_216, zc_217, zc_219, zc_206, zc_170_0, zc_170_1, xT_T, xR_T, xsM_7T, z10, zc_211, zc_218, zc_212, zc_220, zc_221, zc_222, zc_234, zFa, zFw, xF_s, xFs_s, xR_F, xF_T, xgM_9, zc_193, zc_192, zc_191, zc_225, zc_229, zc_226, zc_227, zc_235, zc_260, zc_265, zc_213, zS, xgM_6c, xsM_6c, xgM_7T, xT_2, zc_175, zc_176r, h1, eq_false h2, h3, zB_tt (c := 0 ≤ nI k ∧ nI k ≤ xR w 2 - 1) ha, z00, z20, toJ, zm1, e1, hR, yb_243_71]
        · rw [if_neg h3]
          simp (disch := first | omega | assumption | (rw [xR_s]; first | omega | assumption) | (rw [xR_T]; first | omega | assumption)) only [↓zbE, zbd_some, ↓xk_I, ↓xk_v, xgM_5, xiM, zRa, zRw, xR_s, xRs_s, zB_0, zB_1, zB_b01, ite_not, ↓reduceIte, nI_ge, zRa_0, zRa_1, zRa_2, zRa_3, zRa_4, zRa_5, zRw_0, zRw_1, zRw_2, zRw_3, zRw_4, zRw_5, zxV_0, zxV_1, zxV_2, zxK_0, zxK_1, zxK_2, zxK_3, zxK_4, zxK_5, zxQ_0, zxQ_1, zxQ_2, zxV_s, zxO, zxF, zc_161_0, zc_161_1, zc_161_2, zc_162_0, zc_162_1, zc_162_2, zc_163_0, zc_163_1, zc_163_2, zc_163_3, zc_163_4, zc_163_5, zc_164_0, zc_164_1, zc_164_2, zc_164_3, zc_164_4, zc_164_5, zc_165_0, zc_165_1, zc_165_2, zc_161_s, zc_162_s, zc_160, zc_166, zc_167, zc_168, zc_158, zc_159, zc_169, zc_183, zc_184, zc_177, zc_178, zc_179, zc_180, zc_185, zc_186, zc_181, zc_182, zc_187, zc_188, zc_189, zc_190, zc_204, zc_205, zc_210, zc_214, zc_215, zc_216, zc_217, zc_219, zc_206, zc_170_0, zc_170_1, xT_T, xR_T, xsM_7T, z10, zc_211, zc_218, zc_212, zc_220, zc_221, zc_222, zc_234, zFa, zFw, xF_s, xFs_s, xR_F, xF_T, xgM_9, zc_193, zc_192, zc_191, zc_225, zc_229, zc_226, zc_227, zc_235, zc_260, zc_265, zc_213, zS, xgM_6c, xsM_6c, xgM_7T, xT_2, zc_175, zc_176r, h1, eq_false h2, h3, zB_tt (c := 0 ≤ nI k ∧ nI k ≤ xR w 2 - 1) ha, z00, z20, toJ, zm1, e1, hR, yb_243_71]
  · rw [if_neg ha]
    refine xAns_e ?_
    simp (disch := first | omega | assumption | (rw [xR_s]; first | omega | assumption) | (rw [xR_T]; first | omega | assumption)) only [↓zbE, zbd_some, ↓xk_I, ↓xk_v, xgM_5, xiM, zRa, zRw, xR_s, xRs_s, zB_0, zB_1, zB_b01, ite_not, ↓reduceIte, nI_ge, zRa_0, zRa_1, zRa_2, zRa_3, zRa_4, zRa_5, zRw_0, zRw_1, zRw_2, zRw_3, zRw_4, zRw_5, zxV_0, zxV_1, zxV_2, zxK_0, zxK_1, zxK_2, zxK_3, zxK_4, zxK_5, zxQ_0, zxQ_1, zxQ_2, zxV_s, zxO, zxF, zc_161_0, zc_161_1, zc_161_2, zc_162_0, zc_162_1, zc_162_2, zc_163_0, zc_163_1, zc_163_2, zc_163_3, zc_163_4, zc_163_5, zc_164_0, zc_164_1, zc_164_2, zc_164_3, zc_164_4, zc_164_5, zc_165_0, zc_165_1, zc_165_2, zc_161_s, zc_162_s, zc_160, zc_166, zc_167, zc_168, zc_158, zc_159, zc_169, zc_183, zc_184, zc_177, zc_178, zc_179, zc_180, zc_185, zc_186, zc_181, zc_182, zc_187, zc_188, zc_189, zc_190, zc_204, zc_205, zc_210, zc_214, zc_215, zc_216, zc_217, zc_219, zc_206, zc_170_0, zc_170_1, xT_T, xR_T, xsM_7T, z10, zc_211, zc_218, zc_212, zc_220, zc_221, zc_222, zc_234, zFa, zFw, xF_s, xFs_s, xR_F, xF_T, xgM_9, zc_193, zc_192, zc_191, zc_225, zc_229, zc_226, zc_227, zc_235, zc_260, zc_265, zc_213, zS, xgM_6c, xsM_6c, xgM_7T, xT_2, zc_175, zc_176r, zB_ff (c := 0 ≤ a ∧ a ≤ xR w 2 - 1) ha, z00, z20, toJ, zm1, e1, hR, yb_243_71]
theorem zc_244 {a rd : Int32} {n : Nat} (h0 : xri (w 3) = 0) (hW : xWF (xR w)) (hn : n ≤ 10) (hc : (w 3).1 1 = nI n) : xOpA (xm_C sc xt_M (d + 5) 244 [.ref 191, .int a, .int rd] (xem w l t)) w l t n (sp_takeO (xR w) a rd) := by
  have hB := hW.bd
  have hk20 := hB.k20
  have hq40 := hB.q40
  have hv4 := hB.v4
  have hb6 := hB.b6
  have hW2 : xWF (xR (xT w 0)) := by rw [xR_T]; exact hW
  have hB2 : xBd (xR (xT w 0)) := by rw [xR_T]; exact hW.bd
  obtain ⟨w1, e1, kr, hh⟩ : ∃ w1, xm_C sc xt_M (d + 4) 259 [.ref 191] (xem (xT w 0) l t) = some (.inl none, xem w1 l t) ∧ xKr (xT w 0) w1 ∧ xHist (xT w 0) w1 n := zc_259 hn (by rw [xT_1 (by omega)]; exact hc)
  have hR : xR w1 = xR w := kr.R.trans xR_T
  have hB1 : xBd (xR w1) := by rw [hR]; exact hB
  have hW1 : xWF (xR w1) := by rw [hR]; exact hW
  unfold sp_takeO
  rw [yc_244]
  by_cases ha : sp_bk (xR w) a
  · rw [if_pos ha]
    have ha' := ha
    rw [sp_bk, hB.k] at ha'
    obtain ⟨k, hk, rfl⟩ := zrg (by omega) ha'
    rw [nI_clamp (by omega)]
    unfold sp_takeN
    by_cases h1 : sp_hf (xR w) k rd
    · rw [if_pos h1]
      obtain ⟨q, hby, hq⟩ := sp_by_held hW hk h1.1
      rw [h1.2] at hby
      have hq1 : q < xnq (xR w1) := by rw [hR]; exact hq
      rw [hby]
      refine xOpA_s kr hh h0 ?_
      simp (disch := first | omega | assumption | (rw [xR_s]; first | omega | assumption) | (rw [xR_T]; first | omega | assumption)) only [↓zbE, zbd_some, ↓xk_I, ↓xk_v, xgM_5, xiM, zRa, zRw, xR_s, xRs_s, zB_0, zB_1, zB_b01, ite_not, ↓reduceIte, nI_ge, zRa_0, zRa_1, zRa_2, zRa_3, zRa_4, zRa_5, zRw_0, zRw_1, zRw_2, zRw_3, zRw_4, zRw_5, zxV_0, zxV_1, zxV_2, zxK_0, zxK_1, zxK_2, zxK_3, zxK_4, zxK_5, zxQ_0, zxQ_1, zxQ_2, zxV_s, zxO, zxF, zc_161_0, zc_161_1, zc_161_2, zc_162_0, zc_162_1, zc_162_2, zc_163_0, zc_163_1, zc_163_2, zc_163_3, zc_163_4, zc_163_5, zc_164_0, zc_164_1, zc_164_2, zc_164_3, zc_164_4, zc_164_5, zc_165_0, zc_165_1, zc_165_2, zc_161_s, zc_162_s, zc_160, zc_166, zc_167, zc_168, zc_158, zc_159, zc_169, zc_183, zc_184, zc_177, zc_178, zc_179, zc_180, zc_185, zc_186, zc_181, zc_182, zc_187, zc_188, zc_189, zc_190, zc_204, zc_205, zc_210, zc_214, zc_215, zc_216, zc_217, zc_219, zc_206, zc_170_0, zc_170_1, xT_T, xR_T, xsM_7T, z10, zc_211, zc_218, zc_212, zc_220, zc_221, zc_222, zc_234, zFa, zFw, xF_s, xFs_s, xR_F, xF_T, xgM_9, zc_193, zc_192, zc_191, zc_225, zc_229, zc_226, zc_227, zc_235, zc_260, zc_265, zc_213, zS, xgM_6c, xsM_6c, xgM_7T, xT_2, zc_175, zc_176r, hby, eq_true h1, zB_tt (c := 0 ≤ nI k ∧ nI k ≤ xR w 2 - 1) ha, z00, z20, toJ, zm1, e1, hR]
    · rw [if_neg h1]
      refine xAns_e ?_
      simp (disch := first | omega | assumption | (rw [xR_s]; first | omega | assumption) | (rw [xR_T]; first | omega | assumption)) only [↓zbE, zbd_some, ↓xk_I, ↓xk_v, xgM_5, xiM, zRa, zRw, xR_s, xRs_s, zB_0, zB_1, zB_b01, ite_not, ↓reduceIte, nI_ge, zRa_0, zRa_1, zRa_2, zRa_3, zRa_4, zRa_5, zRw_0, zRw_1, zRw_2, zRw_3, zRw_4, zRw_5, zxV_0, zxV_1, zxV_2, zxK_0, zxK_1, zxK_2, zxK_3, zxK_4, zxK_5, zxQ_0, zxQ_1, zxQ_2, zxV_s, zxO, zxF, zc_161_0, zc_161_1, zc_161_2, zc_162_0, zc_162_1, zc_162_2, zc_163_0, zc_163_1, zc_163_2, zc_163_3, zc_163_4, zc_163_5, zc_164_0, zc_164_1, zc_164_2, zc_164_3, zc_164_4, zc_164_5, zc_165_0, zc_165_1, zc_165_2, zc_161_s, zc_162_s, zc_160, zc_166, zc_167, zc_168, zc_158, zc_159, zc_169, zc_183, zc_184, zc_177, zc_178, zc_179, zc_180, zc_185, zc_186, zc_181, zc_182, zc_187, zc_188, zc_189, zc_190, zc_204, zc_205, zc_210, zc_214, zc_215, zc_216, zc_217, zc_219, zc_206, zc_170_0, zc_170_1, xT_T, xR_T, xsM_7T, z10, zc_211, zc_218, zc_212, zc_220, zc_221, zc_222, zc_234, zFa, zFw, xF_s, xFs_s, xR_F, xF_T, xgM_9, zc_193, zc_192, zc_191, zc_225, zc_229, zc_226, zc_227, zc_235, zc_260, zc_265, zc_213, zS, xgM_6c, xsM_6c, xgM_7T, xT_2, zc_175, zc_176r, eq_false h1, zB_tt (c := 0 ≤ nI k ∧ nI k ≤ xR w 2 - 1) ha, z00, z20, toJ, zm1, e1, hR]
  · rw [if_neg ha]
    refine xAns_e ?_
    simp (disch := first | omega | assumption | (rw [xR_s]; first | omega | assumption) | (rw [xR_T]; first | omega | assumption)) only [↓zbE, zbd_some, ↓xk_I, ↓xk_v, xgM_5, xiM, zRa, zRw, xR_s, xRs_s, zB_0, zB_1, zB_b01, ite_not, ↓reduceIte, nI_ge, zRa_0, zRa_1, zRa_2, zRa_3, zRa_4, zRa_5, zRw_0, zRw_1, zRw_2, zRw_3, zRw_4, zRw_5, zxV_0, zxV_1, zxV_2, zxK_0, zxK_1, zxK_2, zxK_3, zxK_4, zxK_5, zxQ_0, zxQ_1, zxQ_2, zxV_s, zxO, zxF, zc_161_0, zc_161_1, zc_161_2, zc_162_0, zc_162_1, zc_162_2, zc_163_0, zc_163_1, zc_163_2, zc_163_3, zc_163_4, zc_163_5, zc_164_0, zc_164_1, zc_164_2, zc_164_3, zc_164_4, zc_164_5, zc_165_0, zc_165_1, zc_165_2, zc_161_s, zc_162_s, zc_160, zc_166, zc_167, zc_168, zc_158, zc_159, zc_169, zc_183, zc_184, zc_177, zc_178, zc_179, zc_180, zc_185, zc_186, zc_181, zc_182, zc_187, zc_188, zc_189, zc_190, zc_204, zc_205, zc_210, zc_214, zc_215, zc_216, zc_217, zc_219, zc_206, zc_170_0, zc_170_1, xT_T, xR_T, xsM_7T, z10, zc_211, zc_218, zc_212, zc_220, zc_221, zc_222, zc_234, zFa, zFw, xF_s, xFs_s, xR_F, xF_T, xgM_9, zc_193, zc_192, zc_191, zc_225, zc_229, zc_226, zc_227, zc_235, zc_260, zc_265, zc_213, zS, xgM_6c, xsM_6c, xgM_7T, xT_2, zc_175, zc_176r, zB_ff (c := 0 ≤ a ∧ a ≤ xR w 2 - 1) ha, z00, z20, toJ, zm1, e1, hR]
theorem zc_245 {a b : Int32} {n : Nat} (h0 : xri (w 3) = 0) (hW : xWF (xR w)) (hn : n ≤ 10) (hc : (w 3).1 1 = nI n) : xOpA (xm_C sc xt_M (d + 5) 245 [.ref 191, .int a, .int b] (xem w l t)) w l t n (sp_giveBack (xR w) a b) := by
  have hB := hW.bd
  have hk20 := hB.k20
  have hq40 := hB.q40
  have hv4 := hB.v4
  have hb6 := hB.b6
  have hW2 : xWF (xR (xT w 0)) := by rw [xR_T]; exact hW
  have hB2 : xBd (xR (xT w 0)) := by rw [xR_T]; exact hW.bd
  obtain ⟨w1, e1, kr, hh⟩ : ∃ w1, xm_C sc xt_M (d + 4) 259 [.ref 191] (xem (xT w 0) l t) = some (.inl none, xem w1 l t) ∧ xKr (xT w 0) w1 ∧ xHist (xT w 0) w1 n := zc_259 hn (by rw [xT_1 (by omega)]; exact hc)
  have hR : xR w1 = xR w := kr.R.trans xR_T
  have hB1 : xBd (xR w1) := by rw [hR]; exact hB
  have hW1 : xWF (xR w1) := by rw [hR]; exact hW
  unfold sp_giveBack
  rw [yc_245]
  by_cases ha : sp_bk (xR w) a
  · rw [if_pos ha]
    have ha' := ha
    rw [sp_bk, hB.k] at ha'
    obtain ⟨k, hk, rfl⟩ := zrg (by omega) ha'
    rw [nI_clamp (by omega)]
    by_cases hb : sp_br (xR w) b
    · rw [if_pos hb]
      have hib : xib b := by
        have hb' := hb
        rw [sp_br, hB.b] at hb'
        obtain ⟨m, hm, rfl⟩ := zrg (by omega) hb'
        exact xil_nI (by omega) (by omega)
      have hil : xil b (xnb (xR w)) := by
        have hb' := hb
        rw [sp_br, hB.b] at hb'
        obtain ⟨m, hm, rfl⟩ := zrg (by omega) hb'
        exact xil_nI (by omega) (by omega)
      unfold sp_backN
      by_cases h1 : xR w (56 + 6 * k) = 3
      · rw [if_pos h1]
        by_cases h2 : xop (xR w) b
        · rw [if_pos h2]
          refine xOpA_s kr hh h0 ?_
          simp (disch := first | omega | assumption | (rw [xR_s]; first | omega | assumption) | (rw [xR_T]; first | omega | assumption)) only [↓zbE, zbd_some, ↓xk_I, ↓xk_v, xgM_5, xiM, zRa, zRw, xR_s, xRs_s, zB_0, zB_1, zB_b01, ite_not, ↓reduceIte, nI_ge, zRa_0, zRa_1, zRa_2, zRa_3, zRa_4, zRa_5, zRw_0, zRw_1, zRw_2, zRw_3, zRw_4, zRw_5, zxV_0, zxV_1, zxV_2, zxK_0, zxK_1, zxK_2, zxK_3, zxK_4, zxK_5, zxQ_0, zxQ_1, zxQ_2, zxV_s, zxO, zxF, zc_161_0, zc_161_1, zc_161_2, zc_162_0, zc_162_1, zc_162_2, zc_163_0, zc_163_1, zc_163_2, zc_163_3, zc_163_4, zc_163_5, zc_164_0, zc_164_1, zc_164_2, zc_164_3, zc_164_4, zc_164_5, zc_165_0, zc_165_1, zc_165_2, zc_161_s, zc_162_s, zc_160, zc_166, zc_167, zc_168, zc_158, zc_159, zc_169, zc_183, zc_184, zc_177, zc_178, zc_179, zc_180, zc_185, zc_186, zc_181, zc_182, zc_187, zc_188, zc_189, zc_190, zc_204, zc_205, zc_210, zc_214, zc_215, zc_216, zc_217, zc_219, zc_206, zc_170_0, zc_170_1, xT_T, xR_T, xsM_7T, z10, zc_211, zc_218, zc_212, zc_220, zc_221, zc_222, zc_234, zFa, zFw, xF_s, xFs_s, xR_F, xF_T, xgM_9, zc_193, zc_192, zc_191, zc_225, zc_229, zc_226, zc_227, zc_235, zc_260, zc_265, zc_213, zS, xgM_6c, xsM_6c, xgM_7T, xT_2, zc_175, zc_176r, h1, eq_true h2, zB_tt (c := 0 ≤ nI k ∧ nI k ≤ xR w 2 - 1) ha, zB_tt (c := 0 ≤ b ∧ b ≤ xR w 0 - 1) hb, z00, z20, toJ, zm1, e1, hR, yb_245_21, yb_245_22]
        · rw [if_neg h2]
          refine xAns_e ?_
          simp (disch := first | omega | assumption | (rw [xR_s]; first | omega | assumption) | (rw [xR_T]; first | omega | assumption)) only [↓zbE, zbd_some, ↓xk_I, ↓xk_v, xgM_5, xiM, zRa, zRw, xR_s, xRs_s, zB_0, zB_1, zB_b01, ite_not, ↓reduceIte, nI_ge, zRa_0, zRa_1, zRa_2, zRa_3, zRa_4, zRa_5, zRw_0, zRw_1, zRw_2, zRw_3, zRw_4, zRw_5, zxV_0, zxV_1, zxV_2, zxK_0, zxK_1, zxK_2, zxK_3, zxK_4, zxK_5, zxQ_0, zxQ_1, zxQ_2, zxV_s, zxO, zxF, zc_161_0, zc_161_1, zc_161_2, zc_162_0, zc_162_1, zc_162_2, zc_163_0, zc_163_1, zc_163_2, zc_163_3, zc_163_4, zc_163_5, zc_164_0, zc_164_1, zc_164_2, zc_164_3, zc_164_4, zc_164_5, zc_165_0, zc_165_1, zc_165_2, zc_161_s, zc_162_s, zc_160, zc_166, zc_167, zc_168, zc_158, zc_159, zc_169, zc_183, zc_184, zc_177, zc_178, zc_179, zc_180, zc_185, zc_186, zc_181, zc_182, zc_187, zc_188, zc_189, zc_190, zc_204, zc_205, zc_210, zc_214, zc_215, zc_216, zc_217, zc_219, zc_206, zc_170_0, zc_170_1, xT_T, xR_T, xsM_7T, z10, zc_211, zc_218, zc_212, zc_220, zc_221, zc_222, zc_234, zFa, zFw, xF_s, xFs_s, xR_F, xF_T, xgM_9, zc_193, zc_192, zc_191, zc_225, zc_229, zc_226, zc_227, zc_235, zc_260, zc_265, zc_213, zS, xgM_6c, xsM_6c, xgM_7T, xT_2, zc_175, zc_176r, h1, eq_false h2, zB_tt (c := 0 ≤ nI k ∧ nI k ≤ xR w 2 - 1) ha, zB_tt (c := 0 ≤ b ∧ b ≤ xR w 0 - 1) hb, z00, z20, toJ, zm1, e1, hR, yb_245_21, yb_245_22]
      · rw [if_neg h1]
        refine xAns_e ?_
        simp (disch := first | omega | assumption | (rw [xR_s]; first | omega | assumption) | (rw [xR_T]; first | omega | assumption)) only [↓zbE, zbd_some, ↓xk_I, ↓xk_v, xgM_5, xiM, zRa, zRw, xR_s, xRs_s, zB_0, zB_1, zB_b01, ite_not, ↓reduceIte, nI_ge, zRa_0, zRa_1, zRa_2, zRa_3, zRa_4, zRa_5, zRw_0, zRw_1, zRw_2, zRw_3, zRw_4, zRw_5, zxV_0, zxV_1, zxV_2, zxK_0, zxK_1, zxK_2, zxK_3, zxK_4, zxK_5, zxQ_0, zxQ_1, zxQ_2, zxV_s, zxO, zxF, zc_161_0, zc_161_1, zc_161_2, zc_162_0, zc_162_1, zc_162_2, zc_163_0, zc_163_1, zc_163_2, zc_163_3, zc_163_4, zc_163_5, zc_164_0, zc_164_1, zc_164_2, zc_164_3, zc_164_4, zc_164_5, zc_165_0, zc_165_1, zc_165_2, zc_161_s, zc_162_s, zc_160, zc_166, zc_167, zc_168, zc_158, zc_159, zc_169, zc_183, zc_184, zc_177, zc_178, zc_179, zc_180, zc_185, zc_186, zc_181, zc_182, zc_187, zc_188, zc_189, zc_190, zc_204, zc_205, zc_210, zc_214, zc_215, zc_216, zc_217, zc_219, zc_206, zc_170_0, zc_170_1, xT_T, xR_T, xsM_7T, z10, zc_211, zc_218, zc_212, zc_220, zc_221, zc_222, zc_234, zFa, zFw, xF_s, xFs_s, xR_F, xF_T, xgM_9, zc_193, zc_192, zc_191, zc_225, zc_229, zc_226, zc_227, zc_235, zc_260, zc_265, zc_213, zS, xgM_6c, xsM_6c, xgM_7T, xT_2, zc_175, zc_176r, h1, zB_tt (c := 0 ≤ nI k ∧ nI k ≤ xR w 2 - 1) ha, zB_tt (c := 0 ≤ b ∧ b ≤ xR w 0 - 1) hb, z00, z20, toJ, zm1, e1, hR, yb_245_21, yb_245_22]
    · rw [if_neg hb]
      refine xAns_e ?_
      simp (disch := first | omega | assumption | (rw [xR_s]; first | omega | assumption) | (rw [xR_T]; first | omega | assumption)) only [↓zbE, zbd_some, ↓xk_I, ↓xk_v, xgM_5, xiM, zRa, zRw, xR_s, xRs_s, zB_0, zB_1, zB_b01, ite_not, ↓reduceIte, nI_ge, zRa_0, zRa_1, zRa_2, zRa_3, zRa_4, zRa_5, zRw_0, zRw_1, zRw_2, zRw_3, zRw_4, zRw_5, zxV_0, zxV_1, zxV_2, zxK_0, zxK_1, zxK_2, zxK_3, zxK_4, zxK_5, zxQ_0, zxQ_1, zxQ_2, zxV_s, zxO, zxF, zc_161_0, zc_161_1, zc_161_2, zc_162_0, zc_162_1, zc_162_2, zc_163_0, zc_163_1, zc_163_2, zc_163_3, zc_163_4, zc_163_5, zc_164_0, zc_164_1, zc_164_2, zc_164_3, zc_164_4, zc_164_5, zc_165_0, zc_165_1, zc_165_2, zc_161_s, zc_162_s, zc_160, zc_166, zc_167, zc_168, zc_158, zc_159, zc_169, zc_183, zc_184, zc_177, zc_178, zc_179, zc_180, zc_185, zc_186, zc_181, zc_182, zc_187, zc_188, zc_189, zc_190, zc_204, zc_205, zc_210, zc_214, zc_215, zc_216, zc_217, zc_219, zc_206, zc_170_0, zc_170_1, xT_T, xR_T, xsM_7T, z10, zc_211, zc_218, zc_212, zc_220, zc_221, zc_222, zc_234, zFa, zFw, xF_s, xFs_s, xR_F, xF_T, xgM_9, zc_193, zc_192, zc_191, zc_225, zc_229, zc_226, zc_227, zc_235, zc_260, zc_265, zc_213, zS, xgM_6c, xsM_6c, xgM_7T, xT_2, zc_175, zc_176r, zB_tt (c := 0 ≤ nI k ∧ nI k ≤ xR w 2 - 1) ha, zB_ff (c := 0 ≤ b ∧ b ≤ xR w 0 - 1) hb, z00, z20, toJ, zm1, e1, hR, yb_245_21, yb_245_22]
  · rw [if_neg ha]
    refine xAns_e ?_
    simp (disch := first | omega | assumption | (rw [xR_s]; first | omega | assumption) | (rw [xR_T]; first | omega | assumption)) only [↓zbE, zbd_some, ↓xk_I, ↓xk_v, xgM_5, xiM, zRa, zRw, xR_s, xRs_s, zB_0, zB_1, zB_b01, ite_not, ↓reduceIte, nI_ge, zRa_0, zRa_1, zRa_2, zRa_3, zRa_4, zRa_5, zRw_0, zRw_1, zRw_2, zRw_3, zRw_4, zRw_5, zxV_0, zxV_1, zxV_2, zxK_0, zxK_1, zxK_2, zxK_3, zxK_4, zxK_5, zxQ_0, zxQ_1, zxQ_2, zxV_s, zxO, zxF, zc_161_0, zc_161_1, zc_161_2, zc_162_0, zc_162_1, zc_162_2, zc_163_0, zc_163_1, zc_163_2, zc_163_3, zc_163_4, zc_163_5, zc_164_0, zc_164_1, zc_164_2, zc_164_3, zc_164_4, zc_164_5, zc_165_0, zc_165_1, zc_165_2, zc_161_s, zc_162_s, zc_160, zc_166, zc_167, zc_168, zc_158, zc_159, zc_169, zc_183, zc_184, zc_177, zc_178, zc_179, zc_180, zc_185, zc_186, zc_181, zc_182, zc_187, zc_188, zc_189, zc_190, zc_204, zc_205, zc_210, zc_214, zc_215, zc_216, zc_217, zc_219, zc_206, zc_170_0, zc_170_1, xT_T, xR_T, xsM_7T, z10, zc_211, zc_218, zc_212, zc_220, zc_221, zc_222, zc_234, zFa, zFw, xF_s, xFs_s, xR_F, xF_T, xgM_9, zc_193, zc_192, zc_191, zc_225, zc_229, zc_226, zc_227, zc_235, zc_260, zc_265, zc_213, zS, xgM_6c, xsM_6c, xgM_7T, xT_2, zc_175, zc_176r, zB_ff (c := 0 ≤ a ∧ a ≤ xR w 2 - 1) ha, z00, z20, toJ, zm1, e1, hR, yb_245_21, yb_245_22]
theorem zc_247 {a b : Int32} {n : Nat} (h0 : xri (w 3) = 0) (hW : xWF (xR w)) (hn : n ≤ 10) (hc : (w 3).1 1 = nI n) : xOpA (xm_C sc xt_M (d + 5) 247 [.ref 191, .int a, .int b] (xem w l t)) w l t n (sp_find (xR w) a b) := by
  have hB := hW.bd
  have hk20 := hB.k20
  have hq40 := hB.q40
  have hv4 := hB.v4
  have hb6 := hB.b6
  have hW2 : xWF (xR (xT w 0)) := by rw [xR_T]; exact hW
  have hB2 : xBd (xR (xT w 0)) := by rw [xR_T]; exact hW.bd
  obtain ⟨w1, e1, kr, hh⟩ : ∃ w1, xm_C sc xt_M (d + 4) 259 [.ref 191] (xem (xT w 0) l t) = some (.inl none, xem w1 l t) ∧ xKr (xT w 0) w1 ∧ xHist (xT w 0) w1 n := zc_259 hn (by rw [xT_1 (by omega)]; exact hc)
  have hR : xR w1 = xR w := kr.R.trans xR_T
  have hB1 : xBd (xR w1) := by rw [hR]; exact hB
  have hW1 : xWF (xR w1) := by rw [hR]; exact hW
  unfold sp_find
  rw [yc_247]
  by_cases ha : sp_bk (xR w) a
  · rw [if_pos ha]
    have ha' := ha
    rw [sp_bk, hB.k] at ha'
    obtain ⟨k, hk, rfl⟩ := zrg (by omega) ha'
    rw [nI_clamp (by omega)]
    by_cases hb : sp_br (xR w) b
    · rw [if_pos hb]
      have hib : xib b := by
        have hb' := hb
        rw [sp_br, hB.b] at hb'
        obtain ⟨m, hm, rfl⟩ := zrg (by omega) hb'
        exact xil_nI (by omega) (by omega)
      have hil : xil b (xnb (xR w)) := by
        have hb' := hb
        rw [sp_br, hB.b] at hb'
        obtain ⟨m, hm, rfl⟩ := zrg (by omega) hb'
        exact xil_nI (by omega) (by omega)
      unfold sp_findN
      by_cases h1 : xR w (56 + 6 * k) = 4
      · rw [if_pos h1]
        refine xOpA_s kr hh h0 ?_
        have hW2 : xWF (sp_put (xR w) k 0 b) := xWF_put hW hk (Or.inl ⟨rfl, hil⟩)
        have hk2 : k < xnk (sp_put (xR w) k 0 b) := by
          unfold xnk
          rw [sp_put_h (by omega) (by omega)]
          exact hk
        simp (disch := first | omega | assumption | (rw [xR_s]; first | omega | assumption) | (rw [xR_T]; first | omega | assumption)) only [↓zbE, zbd_some, ↓xk_I, ↓xk_v, xgM_5, xiM, zRa, zRw, xR_s, xRs_s, zB_0, zB_1, zB_b01, ite_not, ↓reduceIte, nI_ge, zRa_0, zRa_1, zRa_2, zRa_3, zRa_4, zRa_5, zRw_0, zRw_1, zRw_2, zRw_3, zRw_4, zRw_5, zxV_0, zxV_1, zxV_2, zxK_0, zxK_1, zxK_2, zxK_3, zxK_4, zxK_5, zxQ_0, zxQ_1, zxQ_2, zxV_s, zxO, zxF, zc_161_0, zc_161_1, zc_161_2, zc_162_0, zc_162_1, zc_162_2, zc_163_0, zc_163_1, zc_163_2, zc_163_3, zc_163_4, zc_163_5, zc_164_0, zc_164_1, zc_164_2, zc_164_3, zc_164_4, zc_164_5, zc_165_0, zc_165_1, zc_165_2, zc_161_s, zc_162_s, zc_160, zc_166, zc_167, zc_168, zc_158, zc_159, zc_169, zc_183, zc_184, zc_177, zc_178, zc_179, zc_180, zc_185, zc_186, zc_181, zc_182, zc_187, zc_188, zc_189, zc_190, zc_204, zc_205, zc_210, zc_214, zc_215, zc_216, zc_217, zc_219, zc_206, zc_170_0, zc_170_1, xT_T, xR_T, xsM_7T, z10, zc_211, zc_218, zc_212, zc_220, zc_221, zc_222, zc_234, zFa, zFw, xF_s, xFs_s, xR_F, xF_T, xgM_9, zc_193, zc_192, zc_191, zc_225, zc_229, zc_226, zc_227, zc_235, zc_260, zc_265, zc_213, zS, xgM_6c, xsM_6c, xgM_7T, xT_2, zc_175, zc_176r, h1, zB_tt (c := 0 ≤ nI k ∧ nI k ≤ xR w 2 - 1) ha, zB_tt (c := 0 ≤ b ∧ b ≤ xR w 0 - 1) hb, z00, z20, toJ, zm1, e1, hR]
      · rw [if_neg h1]
        refine xAns_e ?_
        simp (disch := first | omega | assumption | (rw [xR_s]; first | omega | assumption) | (rw [xR_T]; first | omega | assumption)) only [↓zbE, zbd_some, ↓xk_I, ↓xk_v, xgM_5, xiM, zRa, zRw, xR_s, xRs_s, zB_0, zB_1, zB_b01, ite_not, ↓reduceIte, nI_ge, zRa_0, zRa_1, zRa_2, zRa_3, zRa_4, zRa_5, zRw_0, zRw_1, zRw_2, zRw_3, zRw_4, zRw_5, zxV_0, zxV_1, zxV_2, zxK_0, zxK_1, zxK_2, zxK_3, zxK_4, zxK_5, zxQ_0, zxQ_1, zxQ_2, zxV_s, zxO, zxF, zc_161_0, zc_161_1, zc_161_2, zc_162_0, zc_162_1, zc_162_2, zc_163_0, zc_163_1, zc_163_2, zc_163_3, zc_163_4, zc_163_5, zc_164_0, zc_164_1, zc_164_2, zc_164_3, zc_164_4, zc_164_5, zc_165_0, zc_165_1, zc_165_2, zc_161_s, zc_162_s, zc_160, zc_166, zc_167, zc_168, zc_158, zc_159, zc_169, zc_183, zc_184, zc_177, zc_178, zc_179, zc_180, zc_185, zc_186, zc_181, zc_182, zc_187, zc_188, zc_189, zc_190, zc_204, zc_205, zc_210, zc_214, zc_215, zc_216, zc_217, zc_219, zc_206, zc_170_0, zc_170_1, xT_T, xR_T, xsM_7T, z10, zc_211, zc_218, zc_212, zc_220, zc_221, zc_222, zc_234, zFa, zFw, xF_s, xFs_s, xR_F, xF_T, xgM_9, zc_193, zc_192, zc_191, zc_225, zc_229, zc_226, zc_227, zc_235, zc_260, zc_265, zc_213, zS, xgM_6c, xsM_6c, xgM_7T, xT_2, zc_175, zc_176r, h1, zB_tt (c := 0 ≤ nI k ∧ nI k ≤ xR w 2 - 1) ha, zB_tt (c := 0 ≤ b ∧ b ≤ xR w 0 - 1) hb, z00, z20, toJ, zm1, e1, hR]
    · rw [if_neg hb]
      refine xAns_e ?_
      simp (disch := first | omega | assumption | (rw [xR_s]; first | omega | assumption) | (rw [xR_T]; first | omega | assumption)) only [↓zbE, zbd_some, ↓xk_I, ↓xk_v, xgM_5, xiM, zRa, zRw, xR_s, xRs_s, zB_0, zB_1, zB_b01, ite_not, ↓reduceIte, nI_ge, zRa_0, zRa_1, zRa_2, zRa_3, zRa_4, zRa_5, zRw_0, zRw_1, zRw_2, zRw_3, zRw_4, zRw_5, zxV_0, zxV_1, zxV_2, zxK_0, zxK_1, zxK_2, zxK_3, zxK_4, zxK_5, zxQ_0, zxQ_1, zxQ_2, zxV_s, zxO, zxF, zc_161_0, zc_161_1, zc_161_2, zc_162_0, zc_162_1, zc_162_2, zc_163_0, zc_163_1, zc_163_2, zc_163_3, zc_163_4, zc_163_5, zc_164_0, zc_164_1, zc_164_2, zc_164_3, zc_164_4, zc_164_5, zc_165_0, zc_165_1, zc_165_2, zc_161_s, zc_162_s, zc_160, zc_166, zc_167, zc_168, zc_158, zc_159, zc_169, zc_183, zc_184, zc_177, zc_178, zc_179, zc_180, zc_185, zc_186, zc_181, zc_182, zc_187, zc_188, zc_189, zc_190, zc_204, zc_205, zc_210, zc_214, zc_215, zc_216, zc_217, zc_219, zc_206, zc_170_0, zc_170_1, xT_T, xR_T, xsM_7T, z10, zc_211, zc_218, zc_212, zc_220, zc_221, zc_222, zc_234, zFa, zFw, xF_s, xFs_s, xR_F, xF_T, xgM_9, zc_193, zc_192, zc_191, zc_225, zc_229, zc_226, zc_227, zc_235, zc_260, zc_265, zc_213, zS, xgM_6c, xsM_6c, xgM_7T, xT_2, zc_175, zc_176r, zB_tt (c := 0 ≤ nI k ∧ nI k ≤ xR w 2 - 1) ha, zB_ff (c := 0 ≤ b ∧ b ≤ xR w 0 - 1) hb, z00, z20, toJ, zm1, e1, hR]
  · rw [if_neg ha]
    refine xAns_e ?_
    simp (disch := first | omega | assumption | (rw [xR_s]; first | omega | assumption) | (rw [xR_T]; first | omega | assumption)) only [↓zbE, zbd_some, ↓xk_I, ↓xk_v, xgM_5, xiM, zRa, zRw, xR_s, xRs_s, zB_0, zB_1, zB_b01, ite_not, ↓reduceIte, nI_ge, zRa_0, zRa_1, zRa_2, zRa_3, zRa_4, zRa_5, zRw_0, zRw_1, zRw_2, zRw_3, zRw_4, zRw_5, zxV_0, zxV_1, zxV_2, zxK_0, zxK_1, zxK_2, zxK_3, zxK_4, zxK_5, zxQ_0, zxQ_1, zxQ_2, zxV_s, zxO, zxF, zc_161_0, zc_161_1, zc_161_2, zc_162_0, zc_162_1, zc_162_2, zc_163_0, zc_163_1, zc_163_2, zc_163_3, zc_163_4, zc_163_5, zc_164_0, zc_164_1, zc_164_2, zc_164_3, zc_164_4, zc_164_5, zc_165_0, zc_165_1, zc_165_2, zc_161_s, zc_162_s, zc_160, zc_166, zc_167, zc_168, zc_158, zc_159, zc_169, zc_183, zc_184, zc_177, zc_178, zc_179, zc_180, zc_185, zc_186, zc_181, zc_182, zc_187, zc_188, zc_189, zc_190, zc_204, zc_205, zc_210, zc_214, zc_215, zc_216, zc_217, zc_219, zc_206, zc_170_0, zc_170_1, xT_T, xR_T, xsM_7T, z10, zc_211, zc_218, zc_212, zc_220, zc_221, zc_222, zc_234, zFa, zFw, xF_s, xFs_s, xR_F, xF_T, xgM_9, zc_193, zc_192, zc_191, zc_225, zc_229, zc_226, zc_227, zc_235, zc_260, zc_265, zc_213, zS, xgM_6c, xsM_6c, xgM_7T, xT_2, zc_175, zc_176r, zB_ff (c := 0 ≤ a ∧ a ≤ xR w 2 - 1) ha, z00, z20, toJ, zm1, e1, hR]
theorem zc_250 {a : Int32} {n : Nat} (h0 : xri (w 3) = 0) (hW : xWF (xR w)) (hn : n ≤ 10) (hc : (w 3).1 1 = nI n) : xOpA (xm_C sc xt_M (d + 4) 250 [.ref 191, .int a] (xem w l t)) w l t n (sp_setHold (xR w) a) := by
  have hB := hW.bd
  have hk20 := hB.k20
  have hq40 := hB.q40
  have hv4 := hB.v4
  have hb6 := hB.b6
  have hW2 : xWF (xR (xT w 0)) := by rw [xR_T]; exact hW
  have hB2 : xBd (xR (xT w 0)) := by rw [xR_T]; exact hW.bd
  obtain ⟨w1, e1, kr, hh⟩ : ∃ w1, xm_C sc xt_M (d + 3) 259 [.ref 191] (xem (xT w 0) l t) = some (.inl none, xem w1 l t) ∧ xKr (xT w 0) w1 ∧ xHist (xT w 0) w1 n := zc_259 hn (by rw [xT_1 (by omega)]; exact hc)
  have hR : xR w1 = xR w := kr.R.trans xR_T
  have hB1 : xBd (xR w1) := by rw [hR]; exact hB
  have hW1 : xWF (xR w1) := by rw [hR]; exact hW
  unfold sp_setHold
  rw [yc_250]
  by_cases ha : 1 ≤ a ∧ a ≤ 50
  · rw [if_pos ha]
    refine xOpA_s kr hh h0 ?_
    simp (disch := first | omega | assumption | (rw [xR_s]; first | omega | assumption) | (rw [xR_T]; first | omega | assumption)) only [↓zbE, zbd_some, ↓xk_I, ↓xk_v, xgM_5, xiM, zRa, zRw, xR_s, xRs_s, zB_0, zB_1, zB_b01, ite_not, ↓reduceIte, nI_ge, zRa_0, zRa_1, zRa_2, zRa_3, zRa_4, zRa_5, zRw_0, zRw_1, zRw_2, zRw_3, zRw_4, zRw_5, zxV_0, zxV_1, zxV_2, zxK_0, zxK_1, zxK_2, zxK_3, zxK_4, zxK_5, zxQ_0, zxQ_1, zxQ_2, zxV_s, zxO, zxF, zc_161_0, zc_161_1, zc_161_2, zc_162_0, zc_162_1, zc_162_2, zc_163_0, zc_163_1, zc_163_2, zc_163_3, zc_163_4, zc_163_5, zc_164_0, zc_164_1, zc_164_2, zc_164_3, zc_164_4, zc_164_5, zc_165_0, zc_165_1, zc_165_2, zc_161_s, zc_162_s, zc_160, zc_166, zc_167, zc_168, zc_158, zc_159, zc_169, zc_183, zc_184, zc_177, zc_178, zc_179, zc_180, zc_185, zc_186, zc_181, zc_182, zc_187, zc_188, zc_189, zc_190, zc_204, zc_205, zc_210, zc_214, zc_215, zc_216, zc_217, zc_219, zc_206, zc_170_0, zc_170_1, xT_T, xR_T, xsM_7T, z10, zc_211, zc_218, zc_212, zc_220, zc_221, zc_222, zc_234, zFa, zFw, xF_s, xFs_s, xR_F, xF_T, xgM_9, zc_193, zc_192, zc_191, zc_225, zc_229, zc_226, zc_227, zc_235, zc_260, zc_265, zc_213, zS, xgM_6c, xsM_6c, xgM_7T, xT_2, zc_175, zc_176r, zB_tt ha, z00, z20, toJ, zm1, e1, hR]
  · rw [if_neg ha]
    refine xAns_e ?_
    simp (disch := first | omega | assumption | (rw [xR_s]; first | omega | assumption) | (rw [xR_T]; first | omega | assumption)) only [↓zbE, zbd_some, ↓xk_I, ↓xk_v, xgM_5, xiM, zRa, zRw, xR_s, xRs_s, zB_0, zB_1, zB_b01, ite_not, ↓reduceIte, nI_ge, zRa_0, zRa_1, zRa_2, zRa_3, zRa_4, zRa_5, zRw_0, zRw_1, zRw_2, zRw_3, zRw_4, zRw_5, zxV_0, zxV_1, zxV_2, zxK_0, zxK_1, zxK_2, zxK_3, zxK_4, zxK_5, zxQ_0, zxQ_1, zxQ_2, zxV_s, zxO, zxF, zc_161_0, zc_161_1, zc_161_2, zc_162_0, zc_162_1, zc_162_2, zc_163_0, zc_163_1, zc_163_2, zc_163_3, zc_163_4, zc_163_5, zc_164_0, zc_164_1, zc_164_2, zc_164_3, zc_164_4, zc_164_5, zc_165_0, zc_165_1, zc_165_2, zc_161_s, zc_162_s, zc_160, zc_166, zc_167, zc_168, zc_158, zc_159, zc_169, zc_183, zc_184, zc_177, zc_178, zc_179, zc_180, zc_185, zc_186, zc_181, zc_182, zc_187, zc_188, zc_189, zc_190, zc_204, zc_205, zc_210, zc_214, zc_215, zc_216, zc_217, zc_219, zc_206, zc_170_0, zc_170_1, xT_T, xR_T, xsM_7T, z10, zc_211, zc_218, zc_212, zc_220, zc_221, zc_222, zc_234, zFa, zFw, xF_s, xFs_s, xR_F, xF_T, xgM_9, zc_193, zc_192, zc_191, zc_225, zc_229, zc_226, zc_227, zc_235, zc_260, zc_265, zc_213, zS, xgM_6c, xsM_6c, xgM_7T, xT_2, zc_175, zc_176r, zB_ff ha, z00, z20, toJ, zm1, e1, hR]
end SL
