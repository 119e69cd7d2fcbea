/-! THE REFERENCE: wouldLoad, inVan; what a question keeps -/
abbrev sp_wlc (r : Nat → Int32) (a b : Int32) : Prop := (0 ≤ a ∧ a ≤ r 2 - 1) ∧ 0 ≤ b ∧ b ≤ r 1 - 1
abbrev sp_wl (f r : Nat → Int32) (k v : Nat) : Prop := r (56 + 6 * k) = 0 ∧ sp_has r v (r (57 + 6 * k)) = true ∧ xop r (r (57 + 6 * k)) ∧ sp_goes f r k v (r (57 + 6 * k)) = true
section SF
variable {w : xW} {l : Nat → Nat → Int64} {t : Nat} {sc : xm_Sc} {d : Nat}
theorem zb11 : (xm_b01 1 = true) = True := eq_true rfl
theorem zc_224 {r f j : Nat → Int32} {a b : Int32} (hW : xWF r) : xm_C sc xt_M (d + 5) 224 [.ref 191, .int a, .int b] (xem (xMw w r f j) l t) =
    if sp_wlc r a b then some (.inl (some (.int (zB (sp_wl (sp_far r f) r a.toNatClampNeg b.toNatClampNeg)))), xem (xMw (xT w 0) r (sp_far r f) j) l t) else some (.inl (some (.int 0)), xem (xMw (xT w 1) r f j) l t) := by
  have hB := hW.bd
  have hk20 := hB.k20
  have hq40 := hB.q40
  have hv4 := hB.v4
  have hb6 := hB.b6
  rw [yc_224]
  by_cases hc : 0 ≤ a ∧ a ≤ r 2 - 1
  · by_cases hb : 0 ≤ b ∧ b ≤ r 1 - 1
    · have hp : sp_wlc r a b := ⟨hc, hb⟩
      rw [if_pos (c := sp_wlc r a b) hp]
      have hc' := hc
      rw [hB.k] at hc'
      obtain ⟨n, hn, rfl⟩ := zrg (by omega) hc'
      have hb' := hb
      rw [hB.v] at hb'
      obtain ⟨m, hm, rfl⟩ := zrg (by omega) hb'
      rw [nI_clamp (by omega), nI_clamp (by omega)]
      by_cases h0 : r (56 + 6 * n) = 0
      · have hib : xib (r (57 + 6 * n)) := xil_ib hW ((hW.k n hn).2.2.2.1 (Or.inl h0))
        by_cases h1 : sp_has r m (r (57 + 6 * n)) = true
        · by_cases h2 : xop r (r (57 + 6 * n))
          · by_cases h3 : sp_goes (sp_far r f) r n m (r (57 + 6 * n)) = true
            · rw [zB_tt (c := sp_wl (sp_far r f) r n m) ⟨h0, h1, h2, h3⟩]
              simp (disch := first | omega | assumption | (rw [xR_M]; first | omega | assumption)) only [↓zbE, zbd_some, ↓xk_I, ↓xk_v, xgM_5, xiM, zRa, zRw, xR_s, xRs_s, zB_0, zB_1, zB_b01, ite_not, ↓reduceIte, nI_ge, zRa_0, zRa_1, zRa_2, zRa_3, zRa_4, zRa_5, zRw_0, zRw_1, zRw_2, zRw_3, zRw_4, zRw_5, zxV_0, zxV_1, zxV_2, zxK_0, zxK_1, zxK_2, zxK_3, zxK_4, zxK_5, zxQ_0, zxQ_1, zxQ_2, zxV_s, zxO, zxF, zc_161_0, zc_161_1, zc_161_2, zc_162_0, zc_162_1, zc_162_2, zc_163_0, zc_163_1, zc_163_2, zc_163_3, zc_163_4, zc_163_5, zc_164_0, zc_164_1, zc_164_2, zc_164_3, zc_164_4, zc_164_5, zc_165_0, zc_165_1, zc_165_2, zc_161_s, zc_162_s, zc_160, zc_166, zc_167, zc_168, zc_158, zc_159, zc_169, zc_183, zc_184, zc_177, zc_178, zc_179, zc_180, zc_185, zc_186, zc_181, zc_182, zc_187, zc_188, zc_189, zc_190, zc_204, zc_205, zc_210, zc_214, zc_215, zc_216, zc_217, zc_219, zc_206, zFa, zFw, xF_s, xFs_s, xR_F, xgM_9, zc_192, zc_191, zc_193x, zc_194, zc_198, zc_195, zc_196, z10, zS, xR_M, xF_M, xJ_M, xRs_M, xFs_M, xJs_M, zJa, zJw, xgM_11, zu1, zc_197, zc_199, zc_200, zc_176, zc_201, zc_202, zc_203, zc_207, zc_208, zc_225, zc_229, zc_170_0, zc_170_1, xT_M, zc_223, zB_tt hc, zB_tt hb, h0, eq_true h1, eq_true h2, eq_true h3, yb_224_21, yb_224_22, yb_224_81, yb_224_82, zb00, zb11]
            · rw [zB_ff (c := sp_wl (sp_far r f) r n m) (fun h => h3 h.2.2.2)]
              simp (disch := first | omega | assumption | (rw [xR_M]; first | omega | assumption)) only [↓zbE, zbd_some, ↓xk_I, ↓xk_v, xgM_5, xiM, zRa, zRw, xR_s, xRs_s, zB_0, zB_1, zB_b01, ite_not, ↓reduceIte, nI_ge, zRa_0, zRa_1, zRa_2, zRa_3, zRa_4, zRa_5, zRw_0, zRw_1, zRw_2, zRw_3, zRw_4, zRw_5, zxV_0, zxV_1, zxV_2, zxK_0, zxK_1, zxK_2, zxK_3, zxK_4, zxK_5, zxQ_0, zxQ_1, zxQ_2, zxV_s, zxO, zxF, zc_161_0, zc_161_1, zc_161_2, zc_162_0, zc_162_1, zc_162_2, zc_163_0, zc_163_1, zc_163_2, zc_163_3, zc_163_4, zc_163_5, zc_164_0, zc_164_1, zc_164_2, zc_164_3, zc_164_4, zc_164_5, zc_165_0, zc_165_1, zc_165_2, zc_161_s, zc_162_s, zc_160, zc_166, zc_167, zc_168, zc_158, zc_159, zc_169, zc_183, zc_184, zc_177, zc_178, zc_179, zc_180, zc_185, zc_186, zc_181, zc_182, zc_187, zc_188, zc_189, zc_190, zc_204, zc_205, zc_210, zc_214, zc_215, zc_216, zc_217, zc_219, zc_206, zFa, zFw, xF_s, xFs_s, xR_F, xgM_9, zc_192, zc_191, zc_193x, zc_194, zc_198, zc_195, zc_196, z10, zS, xR_M, xF_M, xJ_M, xRs_M, xFs_M, xJs_M, zJa, zJw, xgM_11, zu1, zc_197, zc_199, zc_200, zc_176, zc_201, zc_202, zc_203, zc_207, zc_208, zc_225, zc_229, zc_170_0, zc_170_1, xT_M, zc_223, zB_tt hc, zB_tt hb, h0, eq_true h1, eq_true h2, eq_false h3, yb_224_21, yb_224_22, yb_224_81, yb_224_82, zb00, zb11]
          · rw [zB_ff (c := sp_wl (sp_far r f) r n m) (fun h => h2 h.2.2.1)]
            simp (disch := first | omega | assumption | (rw [xR_M]; first | omega | assumption)) only [↓zbE, zbd_some, ↓xk_I, ↓xk_v, xgM_5, xiM, zRa, zRw, xR_s, xRs_s, zB_0, zB_1, zB_b01, ite_not, ↓reduceIte, nI_ge, zRa_0, zRa_1, zRa_2, zRa_3, zRa_4, zRa_5, zRw_0, zRw_1, zRw_2, zRw_3, zRw_4, zRw_5, zxV_0, zxV_1, zxV_2, zxK_0, zxK_1, zxK_2, zxK_3, zxK_4, zxK_5, zxQ_0, zxQ_1, zxQ_2, zxV_s, zxO, zxF, zc_161_0, zc_161_1, zc_161_2, zc_162_0, zc_162_1, zc_162_2, zc_163_0, zc_163_1, zc_163_2, zc_163_3, zc_163_4, zc_163_5, zc_164_0, zc_164_1, zc_164_2, zc_164_3, zc_164_4, zc_164_5, zc_165_0, zc_165_1, zc_165_2, zc_161_s, zc_162_s, zc_160, zc_166, zc_167, zc_168, zc_158, zc_159, zc_169, zc_183, zc_184, zc_177, zc_178, zc_179, zc_180, zc_185, zc_186, zc_181, zc_182, zc_187, zc_188, zc_189, zc_190, zc_204, zc_205, zc_210, zc_214, zc_215, zc_216, zc_217, zc_219, zc_206, zFa, zFw, xF_s, xFs_s, xR_F, xgM_9, zc_192, zc_191, zc_193x, zc_194, zc_198, zc_195, zc_196, z10, zS, xR_M, xF_M, xJ_M, xRs_M, xFs_M, xJs_M, zJa, zJw, xgM_11, zu1, zc_197, zc_199, zc_200, zc_176, zc_201, zc_202, zc_203, zc_207, zc_208, zc_225, zc_229, zc_170_0, zc_170_1, xT_M, zc_223, zB_tt hc, zB_tt hb, h0, eq_true h1, eq_false h2, yb_224_21, yb_224_22, yb_224_81, yb_224_82, zb00, zb11]
        · rw [zB_ff (c := sp_wl (sp_far r f) r n m) (fun h => h1 h.2.1)]
          simp (disch := first | omega | assumption | (rw [xR_M]; first | omega | assumption)) only [↓zbE, zbd_some, ↓xk_I, ↓xk_v, xgM_5, xiM, zRa, zRw, xR_s, xRs_s, zB_0, zB_1, zB_b01, ite_not, ↓reduceIte, nI_ge, zRa_0, zRa_1, zRa_2, zRa_3, zRa_4, zRa_5, zRw_0, zRw_1, zRw_2, zRw_3, zRw_4, zRw_5, zxV_0, zxV_1, zxV_2, zxK_0, zxK_1, zxK_2, zxK_3, zxK_4, zxK_5, zxQ_0, zxQ_1, zxQ_2, zxV_s, zxO, zxF, zc_161_0, zc_161_1, zc_161_2, zc_162_0, zc_162_1, zc_162_2, zc_163_0, zc_163_1, zc_163_2, zc_163_3, zc_163_4, zc_163_5, zc_164_0, zc_164_1, zc_164_2, zc_164_3, zc_164_4, zc_164_5, zc_165_0, zc_165_1, zc_165_2, zc_161_s, zc_162_s, zc_160, zc_166, zc_167, zc_168, zc_158, zc_159, zc_169, zc_183, zc_184, zc_177, zc_178, zc_179, zc_180, zc_185, zc_186, zc_181, zc_182, zc_187, zc_188, zc_189, zc_190, zc_204, zc_205, zc_210, zc_214, zc_215, zc_216, zc_217, zc_219, zc_206, zFa, zFw, xF_s, xFs_s, xR_F, xgM_9, zc_192, zc_191, zc_193x, zc_194, zc_198, zc_195, zc_196, z10, zS, xR_M, xF_M, xJ_M, xRs_M, xFs_M, xJs_M, zJa, zJw, xgM_11, zu1, zc_197, zc_199, zc_200, zc_176, zc_201, zc_202, zc_203, zc_207, zc_208, zc_225, zc_229, zc_170_0, zc_170_1, xT_M, zc_223, zB_tt hc, zB_tt hb, h0, eq_false h1, yb_224_21, yb_224_22, yb_224_81, yb_224_82, zb00, zb11]
      · rw [zB_ff (c := sp_wl (sp_far r f) r n m) (fun h => h0 h.1)]
        simp (disch := first | omega | assumption | (rw [xR_M]; first | omega | assumption)) only [↓zbE, zbd_some, ↓xk_I, ↓xk_v, xgM_5, xiM, zRa, zRw, xR_s, xRs_s, zB_0, zB_1, zB_b01, ite_not, ↓reduceIte, nI_ge, zRa_0, zRa_1, zRa_2, zRa_3, zRa_4, zRa_5, zRw_0, zRw_1, zRw_2, zRw_3, zRw_4, zRw_5, zxV_0, zxV_1, zxV_2, zxK_0, zxK_1, zxK_2, zxK_3, zxK_4, zxK_5, zxQ_0, zxQ_1, zxQ_2, zxV_s, zxO, zxF, zc_161_0, zc_161_1, zc_161_2, zc_162_0, zc_162_1, zc_162_2, zc_163_0, zc_163_1, zc_163_2, zc_163_3, zc_163_4, zc_163_5, zc_164_0, zc_164_1, zc_164_2, zc_164_3, zc_164_4, zc_164_5, zc_165_0, zc_165_1, zc_165_2, zc_161_s, zc_162_s, zc_160, zc_166, zc_167, zc_168, zc_158, zc_159, zc_169, zc_183, zc_184, zc_177, zc_178, zc_179, zc_180, zc_185, zc_186, zc_181, zc_182, zc_187, zc_188, zc_189, zc_190, zc_204, zc_205, zc_210, zc_214, zc_215, zc_216, zc_217, zc_219, zc_206, zFa, zFw, xF_s, xFs_s, xR_F, xgM_9, zc_192, zc_191, zc_193x, zc_194, zc_198, zc_195, zc_196, z10, zS, xR_M, xF_M, xJ_M, xRs_M, xFs_M, xJs_M, zJa, zJw, xgM_11, zu1, zc_197, zc_199, zc_200, zc_176, zc_201, zc_202, zc_203, zc_207, zc_208, zc_225, zc_229, zc_170_0, zc_170_1, xT_M, zc_223, zB_tt hc, zB_tt hb, h0, yb_224_21, yb_224_22, yb_224_81, yb_224_82, zb00, zb11]
    · have hp := fun (h : sp_wlc r a b) => hb h.2
      rw [if_neg (c := sp_wlc r a b) hp]
      simp (disch := first | omega | assumption | (rw [xR_M]; first | omega | assumption)) only [↓zbE, zbd_some, ↓xk_I, ↓xk_v, xgM_5, xiM, zRa, zRw, xR_s, xRs_s, zB_0, zB_1, zB_b01, ite_not, ↓reduceIte, nI_ge, zRa_0, zRa_1, zRa_2, zRa_3, zRa_4, zRa_5, zRw_0, zRw_1, zRw_2, zRw_3, zRw_4, zRw_5, zxV_0, zxV_1, zxV_2, zxK_0, zxK_1, zxK_2, zxK_3, zxK_4, zxK_5, zxQ_0, zxQ_1, zxQ_2, zxV_s, zxO, zxF, zc_161_0, zc_161_1, zc_161_2, zc_162_0, zc_162_1, zc_162_2, zc_163_0, zc_163_1, zc_163_2, zc_163_3, zc_163_4, zc_163_5, zc_164_0, zc_164_1, zc_164_2, zc_164_3, zc_164_4, zc_164_5, zc_165_0, zc_165_1, zc_165_2, zc_161_s, zc_162_s, zc_160, zc_166, zc_167, zc_168, zc_158, zc_159, zc_169, zc_183, zc_184, zc_177, zc_178, zc_179, zc_180, zc_185, zc_186, zc_181, zc_182, zc_187, zc_188, zc_189, zc_190, zc_204, zc_205, zc_210, zc_214, zc_215, zc_216, zc_217, zc_219, zc_206, zFa, zFw, xF_s, xFs_s, xR_F, xgM_9, zc_192, zc_191, zc_193x, zc_194, zc_198, zc_195, zc_196, z10, zS, xR_M, xF_M, xJ_M, xRs_M, xFs_M, xJs_M, zJa, zJw, xgM_11, zu1, zc_197, zc_199, zc_200, zc_176, zc_201, zc_202, zc_203, zc_207, zc_208, zc_225, zc_229, zc_170_0, zc_170_1, xT_M, zc_223, zB_tt hc, zB_ff hb, yb_224_21, yb_224_22, yb_224_81, yb_224_82, zb00, zb11]
  · have hp := fun (h : sp_wlc r a b) => hc h.1
    rw [if_neg (c := sp_wlc r a b) hp]
    simp (disch := first | omega | assumption | (rw [xR_M]; first | omega | assumption)) only [↓zbE, zbd_some, ↓xk_I, ↓xk_v, xgM_5, xiM, zRa, zRw, xR_s, xRs_s, zB_0, zB_1, zB_b01, ite_not, ↓reduceIte, nI_ge, zRa_0, zRa_1, zRa_2, zRa_3, zRa_4, zRa_5, zRw_0, zRw_1, zRw_2, zRw_3, zRw_4, zRw_5, zxV_0, zxV_1, zxV_2, zxK_0, zxK_1, zxK_2, zxK_3, zxK_4, zxK_5, zxQ_0, zxQ_1, zxQ_2, zxV_s, zxO, zxF, zc_161_0, zc_161_1, zc_161_2, zc_162_0, zc_162_1, zc_162_2, zc_163_0, zc_163_1, zc_163_2, zc_163_3, zc_163_4, zc_163_5, zc_164_0, zc_164_1, zc_164_2, zc_164_3, zc_164_4, zc_164_5, zc_165_0, zc_165_1, zc_165_2, zc_161_s, zc_162_s, zc_160, zc_166, zc_167, zc_168, zc_158, zc_159, zc_169, zc_183, zc_184, zc_177, zc_178, zc_179, zc_180, zc_185, zc_186, zc_181, zc_182, zc_187, zc_188, zc_189, zc_190, zc_204, zc_205, zc_210, zc_214, zc_215, zc_216, zc_217, zc_219, zc_206, zFa, zFw, xF_s, xFs_s, xR_F, xgM_9, zc_192, zc_191, zc_193x, zc_194, zc_198, zc_195, zc_196, z10, zS, xR_M, xF_M, xJ_M, xRs_M, xFs_M, xJs_M, zJa, zJw, xgM_11, zu1, zc_197, zc_199, zc_200, zc_176, zc_201, zc_202, zc_203, zc_207, zc_208, zc_225, zc_229, zc_170_0, zc_170_1, xT_M, zc_223, zB_ff hc, yb_224_21, yb_224_22, yb_224_81, yb_224_82, zb00, zb11]
/-- a search with what stays true on the way -/
theorem xlfI (R : Nat → Option xm_O) (I : Nat → Prop) {p : Nat → Prop} [DecidablePred p] {K : Nat → Option xm_O} {E : Option xm_O} (n : Nat) (h0 : I 0) (hi : ∀ i, i < n → I i → ¬ p i → I (i + 1)) (hs : ∀ i, i < n → I i → R i = if p i then K i else R (i + 1)) (he : I n → R n = E) : R 0 = (match xfst p 0 n with | some i => K i | none => E) := by
  have h : ∀ m i, i + m = n → I i → R i = (match xfst p i m with | some i => K i | none => E) := by
    intro m
    induction m with
    | zero =>
      intro i e g
      have : i = n := by omega
      subst this
      rw [he g]
      rfl
    | succ m ih =>
      intro i e g
      rw [hs i (by omega) g]
      unfold xfst
      by_cases hp : p i
      · rw [if_pos hp, if_pos hp]
      · rw [if_neg hp, if_neg hp, ih (i + 1) (by omega) (hi i (by omega) g hp)]
  exact h n 0 (by omega) h0
def xcnt (p : Nat → Prop) [DecidablePred p] : Nat → Nat
  | 0 => 0
  | n + 1 => if p n then xcnt p n + 1 else xcnt p n
theorem xcnt_le {p : Nat → Prop} [DecidablePred p] {n : Nat} : xcnt p n ≤ n := by
  induction n with
  | zero => exact Nat.le_refl _
  | succ n ih =>
    unfold xcnt
    split <;> omega
theorem xcnt_s {p : Nat → Prop} [DecidablePred p] {n : Nat} : xcnt p (n + 1) = if p n then xcnt p n + 1 else xcnt p n := rfl
theorem z0lt : ((0 : Int32) < 0) = False := eq_false (by decide)
theorem xsum_cnt {p : Nat → Prop} [DecidablePred p] {n : Nat} : xsum (fun k => zB (p k)) n = nI (xcnt p n) := by
  induction n with
  | zero => rfl
  | succ n ih =>
    show xsum (fun k => zB (p k)) n + zB (p n) = _
    rw [ih, xcnt_s]
    by_cases h : p n
    · rw [zB_tt h, if_pos h, nI_succ]
    · rw [zB_ff h, if_neg h, Int32.add_zero]
abbrev sp_inp (r : Nat → Int32) (v m k : Nat) : Prop := sp_isIn r 1 k (nI v) ∧ xcnt (fun k => sp_isIn r 1 k (nI v)) k = m
def sp_inVan (r : Nat → Int32) (a i : Int32) : Int32 × Int32 := if 0 ≤ a ∧ a ≤ r 1 - 1 then (if i < 0 then (1, 0) else match xfst (fun k => sp_inp r a.toNatClampNeg i.toNatClampNeg k) 0 (xnk r) with
  | some k => (0, nI k)
  | none => (1, 0)) else (1, 0)
theorem zc_213 {a i : Int32} (hW : xWF (xR w)) : xm_C sc xt_M (d + 4) 213 [.ref 191, .int a, .int i] (xem w l t) = some (.inl (some (.int (sp_inVan (xR w) a i).2)), xem (xT w (sp_inVan (xR w) a i).1) l t) := by
  have hB := hW.bd
  have hk20 := hB.k20
  have hq40 := hB.q40
  have hv4 := hB.v4
  have hb6 := hB.b6
  have hW2 : xWF (xR (xT w 0)) := by rw [xR_T]; exact hW
  have hB2 : xBd (xR (xT w 0)) := by rw [xR_T]; exact hW.bd
  unfold sp_inVan
  rw [yc_213]
  by_cases hc : 0 ≤ a ∧ a ≤ xR w 1 - 1
  · rw [if_pos hc]
    have hc' := hc
    rw [hB.v] at hc'
    obtain ⟨n, hn, rfl⟩ := zrg (by omega) hc'
    rw [nI_clamp (by omega)]
    by_cases hi : i < 0
    · rw [if_pos hi]
      by_cases hk : xnk (xR w) = 0
      · simp (disch := first | omega | assumption | (rw [xR_T]; first | omega | assumption)) only [↓zbE, zbd_some, ↓xk_I, ↓xk_v, xgM_5, xiM, zRa, zRw, xR_s, xRs_s, zB_0, zB_1, zB_b01, ite_not, ↓reduceIte, nI_ge, zRa_0, zRa_1, zRa_2, zRa_3, zRa_4, zRa_5, zRw_0, zRw_1, zRw_2, zRw_3, zRw_4, zRw_5, zxV_0, zxV_1, zxV_2, zxK_0, zxK_1, zxK_2, zxK_3, zxK_4, zxK_5, zxQ_0, zxQ_1, zxQ_2, zxV_s, zxO, zxF, zc_161_0, zc_161_1, zc_161_2, zc_162_0, zc_162_1, zc_162_2, zc_163_0, zc_163_1, zc_163_2, zc_163_3, zc_163_4, zc_163_5, zc_164_0, zc_164_1, zc_164_2, zc_164_3, zc_164_4, zc_164_5, zc_165_0, zc_165_1, zc_165_2, zc_161_s, zc_162_s, zc_160, zc_166, zc_167, zc_168, zc_158, zc_159, zc_169, zc_183, zc_184, zc_177, zc_178, zc_179, zc_180, zc_185, zc_186, zc_181, zc_182, zc_187, zc_188, zc_189, zc_190, zc_204, zc_205, zc_210, zc_214, zc_215, zc_216, zc_217, zc_219, zc_206, zc_170_0, zc_170_1, xT_T, xR_T, xsM_7T, z10, zc_211, zc_218, zc_212, zc_220, zc_221, zc_222, zc_234, zFa, zFw, xF_s, xFs_s, xR_F, xF_T, xgM_9, zc_193, zc_192, zc_191, zc_225, zc_229, zc_226, zc_227, zc_235, zc_260, zc_265, zB_tt hc, yb_213_19, hk, nI_0, Int32.le_refl, hB.k, yb_213_54, yb_213_60]
      · simp (disch := first | omega | assumption | (rw [xR_T]; first | omega | assumption)) only [↓zbE, zbd_some, ↓xk_I, ↓xk_v, xgM_5, xiM, zRa, zRw, xR_s, xRs_s, zB_0, zB_1, zB_b01, ite_not, ↓reduceIte, nI_ge, zRa_0, zRa_1, zRa_2, zRa_3, zRa_4, zRa_5, zRw_0, zRw_1, zRw_2, zRw_3, zRw_4, zRw_5, zxV_0, zxV_1, zxV_2, zxK_0, zxK_1, zxK_2, zxK_3, zxK_4, zxK_5, zxQ_0, zxQ_1, zxQ_2, zxV_s, zxO, zxF, zc_161_0, zc_161_1, zc_161_2, zc_162_0, zc_162_1, zc_162_2, zc_163_0, zc_163_1, zc_163_2, zc_163_3, zc_163_4, zc_163_5, zc_164_0, zc_164_1, zc_164_2, zc_164_3, zc_164_4, zc_164_5, zc_165_0, zc_165_1, zc_165_2, zc_161_s, zc_162_s, zc_160, zc_166, zc_167, zc_168, zc_158, zc_159, zc_169, zc_183, zc_184, zc_177, zc_178, zc_179, zc_180, zc_185, zc_186, zc_181, zc_182, zc_187, zc_188, zc_189, zc_190, zc_204, zc_205, zc_210, zc_214, zc_215, zc_216, zc_217, zc_219, zc_206, zc_170_0, zc_170_1, xT_T, xR_T, xsM_7T, z10, zc_211, zc_218, zc_212, zc_220, zc_221, zc_222, zc_234, zFa, zFw, xF_s, xFs_s, xR_F, xF_T, xgM_9, zc_193, zc_192, zc_191, zc_225, zc_229, zc_226, zc_227, zc_235, zc_260, zc_265, zB_tt hc, yb_213_19, eq_true hi, nI_nle, hB.k, yb_213_54, yb_213_60]
    · rw [if_neg hi]
      obtain ⟨m, hm, rfl⟩ := nI_of hi
      rw [nI_clamp hm]
      have e := xlfI (fun k => xm_R sc xt_M (d + 3) 213 19 [.ref 191, .int (nI n), .int (nI m), .int (nI (m - xcnt (fun k => sp_isIn (xR w) 1 k (nI n)) k)), .int (nI k)] [] (xem (xT w 0) l t)) (fun k => xcnt (fun k => sp_isIn (xR w) 1 k (nI n)) k ≤ m) (p := fun k => sp_inp (xR w) n m k) (K := fun k => some (.inl (some (.int (nI k))), xem (xT w 0) l t)) (E := some (.inl (some (.int 0)), xem (xT w 1) l t)) (xnk (xR w)) (Nat.zero_le _) (by
        intro k hk hI hnp
        show xcnt (fun k => sp_isIn (xR w) 1 k (nI n)) (k + 1) ≤ m
        rw [xcnt_s]
        split
        · next h =>
          have h9 : ¬ xcnt (fun k => sp_isIn (xR w) 1 k (nI n)) k = m := fun g => hnp ⟨h, g⟩
          have hI' : xcnt (fun k => sp_isIn (xR w) 1 k (nI n)) k ≤ m := hI
          omega
        · exact hI) (by
        intro k hk hI
        rw [yb_213_19]
        have g0 : ¬ nI (m - xcnt (fun k => sp_isIn (xR w) 1 k (nI n)) k) < 0 := nI_pos (by omega)
        by_cases h1 : sp_isIn (xR w) 1 k (nI n)
        · by_cases h2 : xcnt (fun k => sp_isIn (xR w) 1 k (nI n)) k = m
          · have hp : sp_inp (xR w) n m k := ⟨h1, h2⟩
            have z0 : nI (m - xcnt (fun k => sp_isIn (xR w) 1 k (nI n)) k) = 0 := by rw [h2, Nat.sub_self]; rfl
            rw [if_pos (c := sp_inp (xR w) n m k) hp]
            simp (disch := first | omega | assumption | (rw [xR_T]; first | omega | assumption)) only [↓zbE, zbd_some, ↓xk_I, ↓xk_v, xgM_5, xiM, zRa, zRw, xR_s, xRs_s, zB_0, zB_1, zB_b01, ite_not, ↓reduceIte, nI_ge, zRa_0, zRa_1, zRa_2, zRa_3, zRa_4, zRa_5, zRw_0, zRw_1, zRw_2, zRw_3, zRw_4, zRw_5, zxV_0, zxV_1, zxV_2, zxK_0, zxK_1, zxK_2, zxK_3, zxK_4, zxK_5, zxQ_0, zxQ_1, zxQ_2, zxV_s, zxO, zxF, zc_161_0, zc_161_1, zc_161_2, zc_162_0, zc_162_1, zc_162_2, zc_163_0, zc_163_1, zc_163_2, zc_163_3, zc_163_4, zc_163_5, zc_164_0, zc_164_1, zc_164_2, zc_164_3, zc_164_4, zc_164_5, zc_165_0, zc_165_1, zc_165_2, zc_161_s, zc_162_s, zc_160, zc_166, zc_167, zc_168, zc_158, zc_159, zc_169, zc_183, zc_184, zc_177, zc_178, zc_179, zc_180, zc_185, zc_186, zc_181, zc_182, zc_187, zc_188, zc_189, zc_190, zc_204, zc_205, zc_210, zc_214, zc_215, zc_216, zc_217, zc_219, zc_206, zc_170_0, zc_170_1, xT_T, xR_T, xsM_7T, z10, zc_211, zc_218, zc_212, zc_220, zc_221, zc_222, zc_234, zFa, zFw, xF_s, xFs_s, xR_F, xF_T, xgM_9, zc_193, zc_192, zc_191, zc_225, zc_229, zc_226, zc_227, zc_235, zc_260, zc_265, zS, z0, z0lt, eq_true h1, hB.k, yb_213_54, yb_213_60]
          · have hp : ¬ sp_inp (xR w) n m k := fun h => h2 h.2
            have z0 : ¬ nI (m - xcnt (fun k => sp_isIn (xR w) 1 k (nI n)) k) = 0 := fun h => h2 (by have := nI_inj (b := 0) (by omega) (by omega) h; omega)
            have z1 : nI (m - xcnt (fun k => sp_isIn (xR w) 1 k (nI n)) k) + -1 = nI (m - xcnt (fun k => sp_isIn (xR w) 1 k (nI n)) (k + 1)) := by
              rw [show xcnt (fun k => sp_isIn (xR w) 1 k (nI n)) (k + 1) = xcnt (fun k => sp_isIn (xR w) 1 k (nI n)) k + 1 from if_pos h1, show m - xcnt (fun k => sp_isIn (xR w) 1 k (nI n)) k = (m - (xcnt (fun k => sp_isIn (xR w) 1 k (nI n)) k + 1)) + 1 by omega]
              exact pk_m1 _
            rw [if_neg (c := sp_inp (xR w) n m k) hp]
            simp (disch := first | omega | assumption | (rw [xR_T]; first | omega | assumption)) only [↓zbE, zbd_some, ↓xk_I, ↓xk_v, xgM_5, xiM, zRa, zRw, xR_s, xRs_s, zB_0, zB_1, zB_b01, ite_not, ↓reduceIte, nI_ge, zRa_0, zRa_1, zRa_2, zRa_3, zRa_4, zRa_5, zRw_0, zRw_1, zRw_2, zRw_3, zRw_4, zRw_5, zxV_0, zxV_1, zxV_2, zxK_0, zxK_1, zxK_2, zxK_3, zxK_4, zxK_5, zxQ_0, zxQ_1, zxQ_2, zxV_s, zxO, zxF, zc_161_0, zc_161_1, zc_161_2, zc_162_0, zc_162_1, zc_162_2, zc_163_0, zc_163_1, zc_163_2, zc_163_3, zc_163_4, zc_163_5, zc_164_0, zc_164_1, zc_164_2, zc_164_3, zc_164_4, zc_164_5, zc_165_0, zc_165_1, zc_165_2, zc_161_s, zc_162_s, zc_160, zc_166, zc_167, zc_168, zc_158, zc_159, zc_169, zc_183, zc_184, zc_177, zc_178, zc_179, zc_180, zc_185, zc_186, zc_181, zc_182, zc_187, zc_188, zc_189, zc_190, zc_204, zc_205, zc_210, zc_214, zc_215, zc_216, zc_217, zc_219, zc_206, zc_170_0, zc_170_1, xT_T, xR_T, xsM_7T, z10, zc_211, zc_218, zc_212, zc_220, zc_221, zc_222, zc_234, zFa, zFw, xF_s, xFs_s, xR_F, xF_T, xgM_9, zc_193, zc_192, zc_191, zc_225, zc_229, zc_226, zc_227, zc_235, zc_260, zc_265, zS, g0, z0, z1, eq_true h1, hB.k, yb_213_54, yb_213_60]
        · have hp : ¬ sp_inp (xR w) n m k := fun h => h1 h.1
          have z1 : xcnt (fun k => sp_isIn (xR w) 1 k (nI n)) (k + 1) = xcnt (fun k => sp_isIn (xR w) 1 k (nI n)) k := if_neg h1
          rw [if_neg (c := sp_inp (xR w) n m k) hp, z1]
          simp (disch := first | omega | assumption | (rw [xR_T]; first | omega | assumption)) only [↓zbE, zbd_some, ↓xk_I, ↓xk_v, xgM_5, xiM, zRa, zRw, xR_s, xRs_s, zB_0, zB_1, zB_b01, ite_not, ↓reduceIte, nI_ge, zRa_0, zRa_1, zRa_2, zRa_3, zRa_4, zRa_5, zRw_0, zRw_1, zRw_2, zRw_3, zRw_4, zRw_5, zxV_0, zxV_1, zxV_2, zxK_0, zxK_1, zxK_2, zxK_3, zxK_4, zxK_5, zxQ_0, zxQ_1, zxQ_2, zxV_s, zxO, zxF, zc_161_0, zc_161_1, zc_161_2, zc_162_0, zc_162_1, zc_162_2, zc_163_0, zc_163_1, zc_163_2, zc_163_3, zc_163_4, zc_163_5, zc_164_0, zc_164_1, zc_164_2, zc_164_3, zc_164_4, zc_164_5, zc_165_0, zc_165_1, zc_165_2, zc_161_s, zc_162_s, zc_160, zc_166, zc_167, zc_168, zc_158, zc_159, zc_169, zc_183, zc_184, zc_177, zc_178, zc_179, zc_180, zc_185, zc_186, zc_181, zc_182, zc_187, zc_188, zc_189, zc_190, zc_204, zc_205, zc_210, zc_214, zc_215, zc_216, zc_217, zc_219, zc_206, zc_170_0, zc_170_1, xT_T, xR_T, xsM_7T, z10, zc_211, zc_218, zc_212, zc_220, zc_221, zc_222, zc_234, zFa, zFw, xF_s, xFs_s, xR_F, xF_T, xgM_9, zc_193, zc_192, zc_191, zc_225, zc_229, zc_226, zc_227, zc_235, zc_260, zc_265, zS, g0, eq_false h1, hB.k, yb_213_54, yb_213_60]) (by
        intro _
        rw [yb_213_19]
        simp (disch := first | omega | assumption | (rw [xR_T]; first | omega | assumption)) only [↓zbE, zbd_some, ↓xk_I, ↓xk_v, xgM_5, xiM, zRa, zRw, xR_s, xRs_s, zB_0, zB_1, zB_b01, ite_not, ↓reduceIte, nI_ge, zRa_0, zRa_1, zRa_2, zRa_3, zRa_4, zRa_5, zRw_0, zRw_1, zRw_2, zRw_3, zRw_4, zRw_5, zxV_0, zxV_1, zxV_2, zxK_0, zxK_1, zxK_2, zxK_3, zxK_4, zxK_5, zxQ_0, zxQ_1, zxQ_2, zxV_s, zxO, zxF, zc_161_0, zc_161_1, zc_161_2, zc_162_0, zc_162_1, zc_162_2, zc_163_0, zc_163_1, zc_163_2, zc_163_3, zc_163_4, zc_163_5, zc_164_0, zc_164_1, zc_164_2, zc_164_3, zc_164_4, zc_164_5, zc_165_0, zc_165_1, zc_165_2, zc_161_s, zc_162_s, zc_160, zc_166, zc_167, zc_168, zc_158, zc_159, zc_169, zc_183, zc_184, zc_177, zc_178, zc_179, zc_180, zc_185, zc_186, zc_181, zc_182, zc_187, zc_188, zc_189, zc_190, zc_204, zc_205, zc_210, zc_214, zc_215, zc_216, zc_217, zc_219, zc_206, zc_170_0, zc_170_1, xT_T, xR_T, xsM_7T, z10, zc_211, zc_218, zc_212, zc_220, zc_221, zc_222, zc_234, zFa, zFw, xF_s, xFs_s, xR_F, xF_T, xgM_9, zc_193, zc_192, zc_191, zc_225, zc_229, zc_226, zc_227, zc_235, zc_260, zc_265, nI_le, hB.k, yb_213_54, yb_213_60])
      refine Eq.trans ?_ (e.trans ?_)
      · simp (disch := first | omega | assumption | (rw [xR_T]; first | omega | assumption)) only [↓zbE, zbd_some, ↓xk_I, ↓xk_v, xgM_5, xiM, zRa, zRw, xR_s, xRs_s, zB_0, zB_1, zB_b01, ite_not, ↓reduceIte, nI_ge, zRa_0, zRa_1, zRa_2, zRa_3, zRa_4, zRa_5, zRw_0, zRw_1, zRw_2, zRw_3, zRw_4, zRw_5, zxV_0, zxV_1, zxV_2, zxK_0, zxK_1, zxK_2, zxK_3, zxK_4, zxK_5, zxQ_0, zxQ_1, zxQ_2, zxV_s, zxO, zxF, zc_161_0, zc_161_1, zc_161_2, zc_162_0, zc_162_1, zc_162_2, zc_163_0, zc_163_1, zc_163_2, zc_163_3, zc_163_4, zc_163_5, zc_164_0, zc_164_1, zc_164_2, zc_164_3, zc_164_4, zc_164_5, zc_165_0, zc_165_1, zc_165_2, zc_161_s, zc_162_s, zc_160, zc_166, zc_167, zc_168, zc_158, zc_159, zc_169, zc_183, zc_184, zc_177, zc_178, zc_179, zc_180, zc_185, zc_186, zc_181, zc_182, zc_187, zc_188, zc_189, zc_190, zc_204, zc_205, zc_210, zc_214, zc_215, zc_216, zc_217, zc_219, zc_206, zc_170_0, zc_170_1, xT_T, xR_T, xsM_7T, z10, zc_211, zc_218, zc_212, zc_220, zc_221, zc_222, zc_234, zFa, zFw, xF_s, xFs_s, xR_F, xF_T, xgM_9, zc_193, zc_192, zc_191, zc_225, zc_229, zc_226, zc_227, zc_235, zc_260, zc_265, zB_tt hc]
        rfl
      · split <;> rfl
  · rw [if_neg hc]
    simp (disch := first | omega | assumption | (rw [xR_T]; first | omega | assumption)) only [↓zbE, zbd_some, ↓xk_I, ↓xk_v, xgM_5, xiM, zRa, zRw, xR_s, xRs_s, zB_0, zB_1, zB_b01, ite_not, ↓reduceIte, nI_ge, zRa_0, zRa_1, zRa_2, zRa_3, zRa_4, zRa_5, zRw_0, zRw_1, zRw_2, zRw_3, zRw_4, zRw_5, zxV_0, zxV_1, zxV_2, zxK_0, zxK_1, zxK_2, zxK_3, zxK_4, zxK_5, zxQ_0, zxQ_1, zxQ_2, zxV_s, zxO, zxF, zc_161_0, zc_161_1, zc_161_2, zc_162_0, zc_162_1, zc_162_2, zc_163_0, zc_163_1, zc_163_2, zc_163_3, zc_163_4, zc_163_5, zc_164_0, zc_164_1, zc_164_2, zc_164_3, zc_164_4, zc_164_5, zc_165_0, zc_165_1, zc_165_2, zc_161_s, zc_162_s, zc_160, zc_166, zc_167, zc_168, zc_158, zc_159, zc_169, zc_183, zc_184, zc_177, zc_178, zc_179, zc_180, zc_185, zc_186, zc_181, zc_182, zc_187, zc_188, zc_189, zc_190, zc_204, zc_205, zc_210, zc_214, zc_215, zc_216, zc_217, zc_219, zc_206, zc_170_0, zc_170_1, xT_T, xR_T, xsM_7T, z10, zc_211, zc_218, zc_212, zc_220, zc_221, zc_222, zc_234, zFa, zFw, xF_s, xFs_s, xR_F, xF_T, xgM_9, zc_193, zc_192, zc_191, zc_225, zc_229, zc_226, zc_227, zc_235, zc_260, zc_265, zB_ff hc]
end SF
