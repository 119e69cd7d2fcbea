/-! THE REFERENCE: goals and ways -/
section RN
variable {w : xW} {l : Nat → Nat → Int64} {t : Nat} {sc : xm_Sc} {d : Nat}
abbrev xfx (f : Nat → Int32) (x y : Int32) : Int32 := f (6 * x.toNatClampNeg + y.toNatClampNeg)
theorem zc_193x {x y : Int32} (hx : xib x) (hy : xib y) : xm_C sc xt_M (d + 1) 193 [.ref 191, .int x, .int y] (xem w l t) = some (.inl (some (.int (xfx (xF w) x y))), xem w l t) := by
  have h := @zc_193 w l t sc d x.toNatClampNeg y.toNatClampNeg hx.2 hy.2
  rw [← hx.1, ← hy.1] at h
  exact h
theorem xWF.rt {r : Nat → Int32} (h : xWF r) {v s : Nat} (hv : v < xnv r) (hs : s < xst r v) : xib (r (15 + 11 * v + s)) := xil_le ((h.v v hv).2.2.2.2 s hs) h.bd.b6
theorem sp_goal_ib {r : Nat → Int32} (h : xWF r) {k : Nat} (hk : k < xnk r) : sp_goal r k = -1 ∨ (xil (sp_goal r k) (xnb r) ∧ xop r (sp_goal r k)) := by
  unfold sp_goal
  split
  · next q hq =>
    unfold sp_want at hq
    split at hq
    · cases hq
    · have h1 := xfst_some hq
      exact Or.inr ⟨(h.q.1 q (by omega)).2.2, h1.1.2⟩
  · split
    · next h1 => exact Or.inr ⟨(h.k k hk).2.1, h1⟩
    · exact Or.inl rfl
def sp_least (f r : Nat → Int32) (v : Nat) (g : Int32) : Nat → Int32
  | 0 => -1
  | s + 1 => if xfx f (r (15 + 11 * v + s)) g = -1 then sp_least f r v g s else if sp_least f r v g s = -1 then xfx f (r (15 + 11 * v + s)) g else
    if sp_least f r v g s ≤ xfx f (r (15 + 11 * v + s)) g then sp_least f r v g s else xfx f (r (15 + 11 * v + s)) g
theorem zc_194 {v : Nat} {g : Int32} (hv : v < xnv (xR w)) (hg : xib g) (hW : xWF (xR w)) : xm_C sc xt_M (d + 2) 194 [.ref 191, .int (nI v), .int g] (xem w l t) = some (.inl (some (.int (sp_least (xF w) (xR w) v g (xst (xR w) v)))), xem w l t) := by
  have hB := hW.bd
  have hk20 := hB.k20
  have hq40 := hB.q40
  have hv4 := hB.v4
  have hb6 := hB.b6
  have h9 := hW.st9 hv
  have hst := hW.st hv
  obtain ⟨j, e⟩ := xlpJ (fun s (j : Value) => xm_R sc xt_M (d + 1) 194 5 [.ref 191, .int (nI v), .int g, .int (sp_least (xF w) (xR w) v g s), .int (nI s), j] [] (xem w l t)) (xst (xR w) v) (by
    intro s j hs
    have hr := hW.rt hv hs
    by_cases h1 : xfx (xF w) (xR w (15 + 11 * v + s)) g = -1
    · exact ⟨_, by rw [yb_194_5]; simp (disch := first | omega | assumption) only [↓zbE, zbd_some, ↓xk_I, ↓xk_v, xgM_5, xiM, zRa, zRw, xR_s, xRs_s, zB_0, zB_1, zB_b01, ite_not, ↓reduceIte, nI_ge, zRa_0, zRa_1, zRa_2, zRa_3, zRa_4, zRa_5, zRw_0, zRw_1, zRw_2, zRw_3, zRw_4, zRw_5, zxV_0, zxV_1, zxV_2, zxK_0, zxK_1, zxK_2, zxK_3, zxK_4, zxK_5, zxQ_0, zxQ_1, zxQ_2, zxV_s, zxO, zxF, zc_161_0, zc_161_1, zc_161_2, zc_162_0, zc_162_1, zc_162_2, zc_163_0, zc_163_1, zc_163_2, zc_163_3, zc_163_4, zc_163_5, zc_164_0, zc_164_1, zc_164_2, zc_164_3, zc_164_4, zc_164_5, zc_165_0, zc_165_1, zc_165_2, zc_161_s, zc_162_s, zc_160, zc_166, zc_167, zc_168, zc_158, zc_159, zc_170, zc_169, zc_183, zc_184, zc_177, zc_178, zc_179, zc_180, zc_185, zc_186, zc_181, zc_182, zc_187, zc_188, zc_189, zc_190, zc_204, zc_205, zc_210, zc_214, zc_215, zc_216, zc_217, zc_219, zc_206, zFa, zFw, xF_s, xFs_s, xR_F, xgM_9, zc_193, zc_192, zc_191, zS, z10, zm1, Bool.false_eq_true, h1, yb_194_49, yb_194_54, zc_193x, hst, sp_least]; rfl⟩
    by_cases h2 : sp_least (xF w) (xR w) v g s = -1
    · exact ⟨_, by rw [yb_194_5]; simp (disch := first | omega | assumption) only [↓zbE, zbd_some, ↓xk_I, ↓xk_v, xgM_5, xiM, zRa, zRw, xR_s, xRs_s, zB_0, zB_1, zB_b01, ite_not, ↓reduceIte, nI_ge, zRa_0, zRa_1, zRa_2, zRa_3, zRa_4, zRa_5, zRw_0, zRw_1, zRw_2, zRw_3, zRw_4, zRw_5, zxV_0, zxV_1, zxV_2, zxK_0, zxK_1, zxK_2, zxK_3, zxK_4, zxK_5, zxQ_0, zxQ_1, zxQ_2, zxV_s, zxO, zxF, zc_161_0, zc_161_1, zc_161_2, zc_162_0, zc_162_1, zc_162_2, zc_163_0, zc_163_1, zc_163_2, zc_163_3, zc_163_4, zc_163_5, zc_164_0, zc_164_1, zc_164_2, zc_164_3, zc_164_4, zc_164_5, zc_165_0, zc_165_1, zc_165_2, zc_161_s, zc_162_s, zc_160, zc_166, zc_167, zc_168, zc_158, zc_159, zc_170, zc_169, zc_183, zc_184, zc_177, zc_178, zc_179, zc_180, zc_185, zc_186, zc_181, zc_182, zc_187, zc_188, zc_189, zc_190, zc_204, zc_205, zc_210, zc_214, zc_215, zc_216, zc_217, zc_219, zc_206, zFa, zFw, xF_s, xFs_s, xR_F, xgM_9, zc_193, zc_192, zc_191, zS, z10, zm1, Bool.false_eq_true, h1, h2, yb_194_49, yb_194_54, zc_193x, hst, sp_least]; rfl⟩
    by_cases h3 : sp_least (xF w) (xR w) v g s ≤ xfx (xF w) (xR w (15 + 11 * v + s)) g
    · exact ⟨_, by rw [yb_194_5]; simp (disch := first | omega | assumption) only [↓zbE, zbd_some, ↓xk_I, ↓xk_v, xgM_5, xiM, zRa, zRw, xR_s, xRs_s, zB_0, zB_1, zB_b01, ite_not, ↓reduceIte, nI_ge, zRa_0, zRa_1, zRa_2, zRa_3, zRa_4, zRa_5, zRw_0, zRw_1, zRw_2, zRw_3, zRw_4, zRw_5, zxV_0, zxV_1, zxV_2, zxK_0, zxK_1, zxK_2, zxK_3, zxK_4, zxK_5, zxQ_0, zxQ_1, zxQ_2, zxV_s, zxO, zxF, zc_161_0, zc_161_1, zc_161_2, zc_162_0, zc_162_1, zc_162_2, zc_163_0, zc_163_1, zc_163_2, zc_163_3, zc_163_4, zc_163_5, zc_164_0, zc_164_1, zc_164_2, zc_164_3, zc_164_4, zc_164_5, zc_165_0, zc_165_1, zc_165_2, zc_161_s, zc_162_s, zc_160, zc_166, zc_167, zc_168, zc_158, zc_159, zc_170, zc_169, zc_183, zc_184, zc_177, zc_178, zc_179, zc_180, zc_185, zc_186, zc_181, zc_182, zc_187, zc_188, zc_189, zc_190, zc_204, zc_205, zc_210, zc_214, zc_215, zc_216, zc_217, zc_219, zc_206, zFa, zFw, xF_s, xFs_s, xR_F, xgM_9, zc_193, zc_192, zc_191, zS, z10, zm1, Bool.false_eq_true, h1, h2, h3, yb_194_49, yb_194_54, zc_193x, hst, sp_least]; rfl⟩
    · exact ⟨_, by rw [yb_194_5]; simp (disch := first | omega | assumption) only [↓zbE, zbd_some, ↓xk_I, ↓xk_v, xgM_5, xiM, zRa, zRw, xR_s, xRs_s, zB_0, zB_1, zB_b01, ite_not, ↓reduceIte, nI_ge, zRa_0, zRa_1, zRa_2, zRa_3, zRa_4, zRa_5, zRw_0, zRw_1, zRw_2, zRw_3, zRw_4, zRw_5, zxV_0, zxV_1, zxV_2, zxK_0, zxK_1, zxK_2, zxK_3, zxK_4, zxK_5, zxQ_0, zxQ_1, zxQ_2, zxV_s, zxO, zxF, zc_161_0, zc_161_1, zc_161_2, zc_162_0, zc_162_1, zc_162_2, zc_163_0, zc_163_1, zc_163_2, zc_163_3, zc_163_4, zc_163_5, zc_164_0, zc_164_1, zc_164_2, zc_164_3, zc_164_4, zc_164_5, zc_165_0, zc_165_1, zc_165_2, zc_161_s, zc_162_s, zc_160, zc_166, zc_167, zc_168, zc_158, zc_159, zc_170, zc_169, zc_183, zc_184, zc_177, zc_178, zc_179, zc_180, zc_185, zc_186, zc_181, zc_182, zc_187, zc_188, zc_189, zc_190, zc_204, zc_205, zc_210, zc_214, zc_215, zc_216, zc_217, zc_219, zc_206, zFa, zFw, xF_s, xFs_s, xR_F, xgM_9, zc_193, zc_192, zc_191, zS, z10, zm1, Bool.false_eq_true, h1, h2, h3, yb_194_49, yb_194_54, zc_193x, hst, sp_least]; rfl⟩) .null
  rw [yc_194]
  refine e.trans ?_
  rw [yb_194_5]
  simp (disch := first | omega | assumption) only [↓zbE, zbd_some, ↓xk_I, ↓xk_v, xgM_5, xiM, zRa, zRw, xR_s, xRs_s, zB_0, zB_1, zB_b01, ite_not, ↓reduceIte, nI_ge, zRa_0, zRa_1, zRa_2, zRa_3, zRa_4, zRa_5, zRw_0, zRw_1, zRw_2, zRw_3, zRw_4, zRw_5, zxV_0, zxV_1, zxV_2, zxK_0, zxK_1, zxK_2, zxK_3, zxK_4, zxK_5, zxQ_0, zxQ_1, zxQ_2, zxV_s, zxO, zxF, zc_161_0, zc_161_1, zc_161_2, zc_162_0, zc_162_1, zc_162_2, zc_163_0, zc_163_1, zc_163_2, zc_163_3, zc_163_4, zc_163_5, zc_164_0, zc_164_1, zc_164_2, zc_164_3, zc_164_4, zc_164_5, zc_165_0, zc_165_1, zc_165_2, zc_161_s, zc_162_s, zc_160, zc_166, zc_167, zc_168, zc_158, zc_159, zc_170, zc_169, zc_183, zc_184, zc_177, zc_178, zc_179, zc_180, zc_185, zc_186, zc_181, zc_182, zc_187, zc_188, zc_189, zc_190, zc_204, zc_205, zc_210, zc_214, zc_215, zc_216, zc_217, zc_219, zc_206, zFa, zFw, xF_s, xFs_s, xR_F, xgM_9, zc_193, zc_192, zc_191, zS, z10, zm1, Bool.false_eq_true, hst, nI_le]
abbrev sp_leaves (f r : Nat → Int32) (k v : Nat) (b : Int32) : Prop := sp_goal r k = -1 ∨ (¬ xfx f b (sp_goal r k) = -1 ∧ xfx f b (sp_goal r k) = sp_least f r v (sp_goal r k) (xst r v))
def sp_goes (f r : Nat → Int32) (k v : Nat) (b : Int32) : Bool := if sp_goal r k = -1 then false else if xfx f b (sp_goal r k) ≤ 0 then false else xany (fun s => decide (xfx f (r (15 + 11 * v + s)) (sp_goal r k) = xfx f b (sp_goal r k) - 1)) (xst r v)
def sp_class (r : Nat → Int32) (k : Nat) : Int32 := if r (59 + 6 * k) = 1 then 0 else if sp_first r (nI k) = none then 2 else 1
theorem zc_198 {k : Nat} (hk : k < xnk (xR w)) (hW : xWF (xR w)) : xm_C sc xt_M (d + 3) 198 [.ref 191, .int (nI k)] (xem w l t) = some (.inl (some (.int (sp_class (xR w) k))), xem w l t) := by
  have hB := hW.bd
  have hk20 := hB.k20
  have hq40 := hB.q40
  have hv4 := hB.v4
  have hb6 := hB.b6
  rw [yc_198]
  unfold sp_class
  by_cases h1 : xR w (59 + 6 * k) = 1
  · simp (disch := first | omega | assumption) only [↓zbE, zbd_some, ↓xk_I, ↓xk_v, xgM_5, xiM, zRa, zRw, xR_s, xRs_s, zB_0, zB_1, zB_b01, ite_not, ↓reduceIte, nI_ge, zRa_0, zRa_1, zRa_2, zRa_3, zRa_4, zRa_5, zRw_0, zRw_1, zRw_2, zRw_3, zRw_4, zRw_5, zxV_0, zxV_1, zxV_2, zxK_0, zxK_1, zxK_2, zxK_3, zxK_4, zxK_5, zxQ_0, zxQ_1, zxQ_2, zxV_s, zxO, zxF, zc_161_0, zc_161_1, zc_161_2, zc_162_0, zc_162_1, zc_162_2, zc_163_0, zc_163_1, zc_163_2, zc_163_3, zc_163_4, zc_163_5, zc_164_0, zc_164_1, zc_164_2, zc_164_3, zc_164_4, zc_164_5, zc_165_0, zc_165_1, zc_165_2, zc_161_s, zc_162_s, zc_160, zc_166, zc_167, zc_168, zc_158, zc_159, zc_170, zc_169, zc_183, zc_184, zc_177, zc_178, zc_179, zc_180, zc_185, zc_186, zc_181, zc_182, zc_187, zc_188, zc_189, zc_190, zc_204, zc_205, zc_210, zc_214, zc_215, zc_216, zc_217, zc_219, zc_206, zFa, zFw, xF_s, xFs_s, xR_F, xgM_9, zc_193, zc_192, zc_191, zS, z10, zm1, Bool.false_eq_true, h1]
  · cases h2 : sp_first (xR w) (nI k) with
    | none => simp (disch := first | omega | assumption) only [↓zbE, zbd_some, ↓xk_I, ↓xk_v, xgM_5, xiM, zRa, zRw, xR_s, xRs_s, zB_0, zB_1, zB_b01, ite_not, ↓reduceIte, nI_ge, zRa_0, zRa_1, zRa_2, zRa_3, zRa_4, zRa_5, zRw_0, zRw_1, zRw_2, zRw_3, zRw_4, zRw_5, zxV_0, zxV_1, zxV_2, zxK_0, zxK_1, zxK_2, zxK_3, zxK_4, zxK_5, zxQ_0, zxQ_1, zxQ_2, zxV_s, zxO, zxF, zc_161_0, zc_161_1, zc_161_2, zc_162_0, zc_162_1, zc_162_2, zc_163_0, zc_163_1, zc_163_2, zc_163_3, zc_163_4, zc_163_5, zc_164_0, zc_164_1, zc_164_2, zc_164_3, zc_164_4, zc_164_5, zc_165_0, zc_165_1, zc_165_2, zc_161_s, zc_162_s, zc_160, zc_166, zc_167, zc_168, zc_158, zc_159, zc_170, zc_169, zc_183, zc_184, zc_177, zc_178, zc_179, zc_180, zc_185, zc_186, zc_181, zc_182, zc_187, zc_188, zc_189, zc_190, zc_204, zc_205, zc_210, zc_214, zc_215, zc_216, zc_217, zc_219, zc_206, zFa, zFw, xF_s, xFs_s, xR_F, xgM_9, zc_193, zc_192, zc_191, zS, z10, zm1, Bool.false_eq_true, h1, zc_187, h2, toJ]
    | some q =>
      have h3 := sp_first_lt h2
      have h4 := toJ_ne (q := q) (by omega)
      simp (disch := first | omega | assumption) only [↓zbE, zbd_some, ↓xk_I, ↓xk_v, xgM_5, xiM, zRa, zRw, xR_s, xRs_s, zB_0, zB_1, zB_b01, ite_not, ↓reduceIte, nI_ge, zRa_0, zRa_1, zRa_2, zRa_3, zRa_4, zRa_5, zRw_0, zRw_1, zRw_2, zRw_3, zRw_4, zRw_5, zxV_0, zxV_1, zxV_2, zxK_0, zxK_1, zxK_2, zxK_3, zxK_4, zxK_5, zxQ_0, zxQ_1, zxQ_2, zxV_s, zxO, zxF, zc_161_0, zc_161_1, zc_161_2, zc_162_0, zc_162_1, zc_162_2, zc_163_0, zc_163_1, zc_163_2, zc_163_3, zc_163_4, zc_163_5, zc_164_0, zc_164_1, zc_164_2, zc_164_3, zc_164_4, zc_164_5, zc_165_0, zc_165_1, zc_165_2, zc_161_s, zc_162_s, zc_160, zc_166, zc_167, zc_168, zc_158, zc_159, zc_170, zc_169, zc_183, zc_184, zc_177, zc_178, zc_179, zc_180, zc_185, zc_186, zc_181, zc_182, zc_187, zc_188, zc_189, zc_190, zc_204, zc_205, zc_210, zc_214, zc_215, zc_216, zc_217, zc_219, zc_206, zFa, zFw, xF_s, xFs_s, xR_F, xgM_9, zc_193, zc_192, zc_191, zS, z10, zm1, Bool.false_eq_true, h1, zc_187, h2, toJ, h4, reduceCtorEq]
end RN
