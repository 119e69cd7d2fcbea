/-! THE REFERENCE: takeIn -/
def xfm {α : Type} (f : Nat → α → α) : Nat → Nat → α → α
  | _, 0, a => a
  | k, m + 1, a => xfm f (k + 1) m (f k a)
abbrev sp_tkc (f j : Nat → Int32) (v : Nat) (b sort : Int32) (k : Nat) (u : (Nat → Int32) × Int32) : Prop := ¬ u.2 ≤ 0 ∧ sp_isIn u.1 0 k b ∧ j k = 0 ∧ sp_class u.1 k = sort ∧ sp_goes f u.1 k v b = true
def sp_tk1 (f j : Nat → Int32) (v : Nat) (b sort : Int32) (k : Nat) (u : (Nat → Int32) × Int32) : (Nat → Int32) × Int32 := if sp_tkc f j v b sort k u then (sp_put u.1 k 1 (nI v), u.2 + (-1)) else u
def sp_tk (f j : Nat → Int32) (v : Nat) (b sort : Int32) (n : Nat) (u : (Nat → Int32) × Int32) : (Nat → Int32) × Int32 := xfm (fun k u => sp_tk1 f j v b sort k u) 0 n u
theorem sp_tk1_ok {f j r : Nat → Int32} {v k : Nat} {b sort : Int32} {u : (Nat → Int32) × Int32} (h1 : xWF u.1) (h2 : xhd r u.1) (hv : v < xnv r) (hk : k < xnk r) : xWF (sp_tk1 f j v b sort k u).1 ∧ xhd r (sp_tk1 f j v b sort k u).1 := by
  have hk20 := h1.bd.k20
  have hv4 := h1.bd.v4
  rw [h2.k] at hk20
  rw [h2.v] at hv4
  unfold sp_tk1
  split
  · exact ⟨xWF_put h1 (by rw [h2.k]; omega) (Or.inr (Or.inl ⟨rfl, by rw [h2.v]; exact xil_nI hv (by omega)⟩)), xhd_put (by omega) h2⟩
  · exact ⟨h1, h2⟩
theorem xfm_ok {f j r : Nat → Int32} {v : Nat} {b sort : Int32} (hv : v < xnv r) : ∀ m k u, k + m ≤ xnk r → xWF u.1 → xhd r u.1 → xWF (xfm (fun k u => sp_tk1 f j v b sort k u) k m u).1 ∧ xhd r (xfm (fun k u => sp_tk1 f j v b sort k u) k m u).1 := by
  intro m
  induction m with
  | zero => intro k u _ h1 h2; exact ⟨h1, h2⟩
  | succ m ih =>
    intro k u hk h1 h2
    obtain ⟨g1, g2⟩ := @sp_tk1_ok f j r v k b sort u h1 h2 hv (by omega)
    exact ih (k + 1) _ (by omega) g1 g2
theorem xfm_stop {f j : Nat → Int32} {v : Nat} {b sort : Int32} {u : (Nat → Int32) × Int32} (h : u.2 ≤ 0) : ∀ m k, xfm (fun k u => sp_tk1 f j v b sort k u) k m u = u := by
  intro m
  induction m with
  | zero => intro k; rfl
  | succ m ih =>
    intro k
    show xfm _ (k + 1) m (sp_tk1 f j v b sort k u) = u
    have : sp_tk1 f j v b sort k u = u := if_neg (fun g => g.1 h)
    rw [this]
    exact ih (k + 1)
section RQ
variable {w : xW} {l : Nat → Nat → Int64} {t : Nat} {sc : xm_Sc} {d : Nat}
theorem z199s {r f j : Nat → Int32} {v k : Nat} {b sort room : Int32} (hW : xWF r) (hv : v < xnv r) (hk : k < xnk r) (hb : xil b (xnb r)) (hr : ¬ room ≤ 0) : xm_R sc xt_M (d + 4) 199 25 [.ref 191, .int (nI v), .int b, .int room, .int sort, .int (nI k)] [] (xem (xMw w r f j) l t) =
    xm_R sc xt_M (d + 4) 199 25 [.ref 191, .int (nI v), .int b, .int (sp_tk1 f j v b sort k (r, room)).2, .int sort, .int (nI (k + 1))] [] (xem (xMw w (sp_tk1 f j v b sort k (r, room)).1 f j) l t) := by
  have hB := hW.bd
  have hk20 := hB.k20
  have hq40 := hB.q40
  have hv4 := hB.v4
  have hb6 := hB.b6
  have hib := xil_ib hW hb
  rw [yb_199_25]
  unfold sp_tk1
  by_cases h1 : sp_isIn r 0 k b
  · by_cases h2 : j k = 0
    · by_cases h3 : sp_class r k = sort
      · by_cases h4 : sp_goes f r k v b = true
        · have hp : sp_tkc f j v b sort k (r, room) := ⟨hr, h1, h2, h3, h4⟩
          rw [if_pos hp]
          simp (disch := first | omega | assumption | (rw [xR_M]; first | omega | assumption)) only [↓zbE, zbd_some, ↓xk_I, ↓xk_v, xgM_5, xiM, zRa, zRw, xR_s, xRs_s, zB_0, zB_1, zB_b01, ite_not, ↓reduceIte, nI_ge, zRa_0, zRa_1, zRa_2, zRa_3, zRa_4, zRa_5, zRw_0, zRw_1, zRw_2, zRw_3, zRw_4, zRw_5, zxV_0, zxV_1, zxV_2, zxK_0, zxK_1, zxK_2, zxK_3, zxK_4, zxK_5, zxQ_0, zxQ_1, zxQ_2, zxV_s, zxO, zxF, zc_161_0, zc_161_1, zc_161_2, zc_162_0, zc_162_1, zc_162_2, zc_163_0, zc_163_1, zc_163_2, zc_163_3, zc_163_4, zc_163_5, zc_164_0, zc_164_1, zc_164_2, zc_164_3, zc_164_4, zc_164_5, zc_165_0, zc_165_1, zc_165_2, zc_161_s, zc_162_s, zc_160, zc_166, zc_167, zc_168, zc_158, zc_159, zc_170, zc_169, zc_183, zc_184, zc_177, zc_178, zc_179, zc_180, zc_185, zc_186, zc_181, zc_182, zc_187, zc_188, zc_189, zc_190, zc_204, zc_205, zc_210, zc_214, zc_215, zc_216, zc_217, zc_219, zc_206, zFa, zFw, xF_s, xFs_s, xR_F, xgM_9, zc_193, zc_192, zc_191, zc_193x, zc_194, zc_198, zc_195, zc_196, z10, zS, xR_M, xF_M, xJ_M, xRs_M, xFs_M, xJs_M, zJa, zJw, xgM_11, zu1, zc_197, eq_true h1, h2, eq_true h3, eq_true h4, hB.k, hr, yb_199_93]
        · have hp : ¬ sp_tkc f j v b sort k (r, room) := fun h => h4 h.2.2.2.2
          rw [if_neg hp]
          simp (disch := first | omega | assumption | (rw [xR_M]; first | omega | assumption)) only [↓zbE, zbd_some, ↓xk_I, ↓xk_v, xgM_5, xiM, zRa, zRw, xR_s, xRs_s, zB_0, zB_1, zB_b01, ite_not, ↓reduceIte, nI_ge, zRa_0, zRa_1, zRa_2, zRa_3, zRa_4, zRa_5, zRw_0, zRw_1, zRw_2, zRw_3, zRw_4, zRw_5, zxV_0, zxV_1, zxV_2, zxK_0, zxK_1, zxK_2, zxK_3, zxK_4, zxK_5, zxQ_0, zxQ_1, zxQ_2, zxV_s, zxO, zxF, zc_161_0, zc_161_1, zc_161_2, zc_162_0, zc_162_1, zc_162_2, zc_163_0, zc_163_1, zc_163_2, zc_163_3, zc_163_4, zc_163_5, zc_164_0, zc_164_1, zc_164_2, zc_164_3, zc_164_4, zc_164_5, zc_165_0, zc_165_1, zc_165_2, zc_161_s, zc_162_s, zc_160, zc_166, zc_167, zc_168, zc_158, zc_159, zc_170, zc_169, zc_183, zc_184, zc_177, zc_178, zc_179, zc_180, zc_185, zc_186, zc_181, zc_182, zc_187, zc_188, zc_189, zc_190, zc_204, zc_205, zc_210, zc_214, zc_215, zc_216, zc_217, zc_219, zc_206, zFa, zFw, xF_s, xFs_s, xR_F, xgM_9, zc_193, zc_192, zc_191, zc_193x, zc_194, zc_198, zc_195, zc_196, z10, zS, xR_M, xF_M, xJ_M, xRs_M, xFs_M, xJs_M, zJa, zJw, xgM_11, zu1, zc_197, eq_true h1, h2, eq_true h3, eq_false h4, hB.k, hr, yb_199_93]
      · have hp : ¬ sp_tkc f j v b sort k (r, room) := fun h => h3 h.2.2.2.1
        rw [if_neg hp]
        simp (disch := first | omega | assumption | (rw [xR_M]; first | omega | assumption)) only [↓zbE, zbd_some, ↓xk_I, ↓xk_v, xgM_5, xiM, zRa, zRw, xR_s, xRs_s, zB_0, zB_1, zB_b01, ite_not, ↓reduceIte, nI_ge, zRa_0, zRa_1, zRa_2, zRa_3, zRa_4, zRa_5, zRw_0, zRw_1, zRw_2, zRw_3, zRw_4, zRw_5, zxV_0, zxV_1, zxV_2, zxK_0, zxK_1, zxK_2, zxK_3, zxK_4, zxK_5, zxQ_0, zxQ_1, zxQ_2, zxV_s, zxO, zxF, zc_161_0, zc_161_1, zc_161_2, zc_162_0, zc_162_1, zc_162_2, zc_163_0, zc_163_1, zc_163_2, zc_163_3, zc_163_4, zc_163_5, zc_164_0, zc_164_1, zc_164_2, zc_164_3, zc_164_4, zc_164_5, zc_165_0, zc_165_1, zc_165_2, zc_161_s, zc_162_s, zc_160, zc_166, zc_167, zc_168, zc_158, zc_159, zc_170, zc_169, zc_183, zc_184, zc_177, zc_178, zc_179, zc_180, zc_185, zc_186, zc_181, zc_182, zc_187, zc_188, zc_189, zc_190, zc_204, zc_205, zc_210, zc_214, zc_215, zc_216, zc_217, zc_219, zc_206, zFa, zFw, xF_s, xFs_s, xR_F, xgM_9, zc_193, zc_192, zc_191, zc_193x, zc_194, zc_198, zc_195, zc_196, z10, zS, xR_M, xF_M, xJ_M, xRs_M, xFs_M, xJs_M, zJa, zJw, xgM_11, zu1, zc_197, eq_true h1, h2, h3, hB.k, hr, yb_199_93]
    · have hp : ¬ sp_tkc f j v b sort k (r, room) := fun h => h2 h.2.2.1
      rw [if_neg hp]
      simp (disch := first | omega | assumption | (rw [xR_M]; first | omega | assumption)) only [↓zbE, zbd_some, ↓xk_I, ↓xk_v, xgM_5, xiM, zRa, zRw, xR_s, xRs_s, zB_0, zB_1, zB_b01, ite_not, ↓reduceIte, nI_ge, zRa_0, zRa_1, zRa_2, zRa_3, zRa_4, zRa_5, zRw_0, zRw_1, zRw_2, zRw_3, zRw_4, zRw_5, zxV_0, zxV_1, zxV_2, zxK_0, zxK_1, zxK_2, zxK_3, zxK_4, zxK_5, zxQ_0, zxQ_1, zxQ_2, zxV_s, zxO, zxF, zc_161_0, zc_161_1, zc_161_2, zc_162_0, zc_162_1, zc_162_2, zc_163_0, zc_163_1, zc_163_2, zc_163_3, zc_163_4, zc_163_5, zc_164_0, zc_164_1, zc_164_2, zc_164_3, zc_164_4, zc_164_5, zc_165_0, zc_165_1, zc_165_2, zc_161_s, zc_162_s, zc_160, zc_166, zc_167, zc_168, zc_158, zc_159, zc_170, zc_169, zc_183, zc_184, zc_177, zc_178, zc_179, zc_180, zc_185, zc_186, zc_181, zc_182, zc_187, zc_188, zc_189, zc_190, zc_204, zc_205, zc_210, zc_214, zc_215, zc_216, zc_217, zc_219, zc_206, zFa, zFw, xF_s, xFs_s, xR_F, xgM_9, zc_193, zc_192, zc_191, zc_193x, zc_194, zc_198, zc_195, zc_196, z10, zS, xR_M, xF_M, xJ_M, xRs_M, xFs_M, xJs_M, zJa, zJw, xgM_11, zu1, zc_197, eq_true h1, h2, hB.k, hr, yb_199_93]
  · have hp : ¬ sp_tkc f j v b sort k (r, room) := fun h => h1 h.2.1
    rw [if_neg hp]
    simp (disch := first | omega | assumption | (rw [xR_M]; first | omega | assumption)) only [↓zbE, zbd_some, ↓xk_I, ↓xk_v, xgM_5, xiM, zRa, zRw, xR_s, xRs_s, zB_0, zB_1, zB_b01, ite_not, ↓reduceIte, nI_ge, zRa_0, zRa_1, zRa_2, zRa_3, zRa_4, zRa_5, zRw_0, zRw_1, zRw_2, zRw_3, zRw_4, zRw_5, zxV_0, zxV_1, zxV_2, zxK_0, zxK_1, zxK_2, zxK_3, zxK_4, zxK_5, zxQ_0, zxQ_1, zxQ_2, zxV_s, zxO, zxF, zc_161_0, zc_161_1, zc_161_2, zc_162_0, zc_162_1, zc_162_2, zc_163_0, zc_163_1, zc_163_2, zc_163_3, zc_163_4, zc_163_5, zc_164_0, zc_164_1, zc_164_2, zc_164_3, zc_164_4, zc_164_5, zc_165_0, zc_165_1, zc_165_2, zc_161_s, zc_162_s, zc_160, zc_166, zc_167, zc_168, zc_158, zc_159, zc_170, zc_169, zc_183, zc_184, zc_177, zc_178, zc_179, zc_180, zc_185, zc_186, zc_181, zc_182, zc_187, zc_188, zc_189, zc_190, zc_204, zc_205, zc_210, zc_214, zc_215, zc_216, zc_217, zc_219, zc_206, zFa, zFw, xF_s, xFs_s, xR_F, xgM_9, zc_193, zc_192, zc_191, zc_193x, zc_194, zc_198, zc_195, zc_196, z10, zS, xR_M, xF_M, xJ_M, xRs_M, xFs_M, xJs_M, zJa, zJw, xgM_11, zu1, zc_197, eq_false h1, hB.k, hr, yb_199_93]
theorem z199f {r0 f j : Nat → Int32} {v : Nat} {b sort : Int32} (hv : v < xnv r0) (hb : xil b (xnb r0)) : ∀ m k (u : (Nat → Int32) × Int32), k + m = xnk r0 → xWF u.1 → xhd r0 u.1 → ∃ jk, xm_R sc xt_M (d + 4) 199 25 [.ref 191, .int (nI v), .int b, .int u.2, .int sort, .int (nI k)] [] (xem (xMw w u.1 f j) l t) =
    xm_R sc xt_M (d + 4) 199 16 [.ref 191, .int (nI v), .int b, .int (xfm (fun k u => sp_tk1 f j v b sort k u) k m u).2, .int (sort + 1), jk] [] (xem (xMw w (xfm (fun k u => sp_tk1 f j v b sort k u) k m u).1 f j) l t) := by
  intro m
  induction m with
  | zero =>
    intro k u hk hW hh
    have hk20 := hW.bd.k20
    have ek := hh.k
    refine ⟨.int (nI k), ?_⟩
    rw [yb_199_25, xgM_5, zbs, zRa_2, zbs, xR_M, hW.bd.k, if_pos (nI_le (by omega) (by omega)), yb_199_99]
    rfl
  | succ m ih =>
    intro k u hk hW hh
    have hk20 := hW.bd.k20
    have ek := hh.k
    by_cases hr : u.2 ≤ 0
    · refine ⟨.int (nI k), ?_⟩
      rw [xfm_stop hr, yb_199_25, xgM_5, zbs, zRa_2, zbs, xR_M, hW.bd.k, if_neg (nI_ge (by omega) (by omega)), if_pos hr, yb_199_99]
    · obtain ⟨g1, g2⟩ := @sp_tk1_ok f j r0 v k b sort u hW hh hv (by omega)
      obtain ⟨jk, e⟩ := ih (k + 1) (sp_tk1 f j v b sort k u) (by omega) g1 g2
      refine ⟨jk, ?_⟩
      rw [z199s hW (by rw [hh.v]; exact hv) (by omega) (by rw [hh.b]; exact hb) hr]
      exact e
end RQ
