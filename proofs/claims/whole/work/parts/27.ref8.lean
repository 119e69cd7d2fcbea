/-! THE REFERENCE: the legs -/
theorem xlpJ {α : Type} (R : Nat → α → Option xm_O) (n : Nat) (hs : ∀ i j, i < n → ∃ j', R i j = R (i + 1) j') : ∀ j, ∃ j', R 0 j = R n j' := by
  have h : ∀ i, i ≤ n → ∀ j, ∃ j', R 0 j = R i j' := by
    intro i
    induction i with
    | zero => intro _ j; exact ⟨j, rfl⟩
    | succ i ih =>
      intro hi j
      obtain ⟨j1, h1⟩ := ih (by omega) j
      obtain ⟨j2, h2⟩ := hs i j1 (by omega)
      exact ⟨j2, h1.trans h2⟩
  exact h n (Nat.le_refl n)
def xF (w : xW) : Nat → Int32 := (w 3).2 5
def xFs (w : xW) (f : Nat → Int32) : xW := xu w 3 (xs2 (w 3) 5 f)
theorem xF_s {w : xW} {f : Nat → Int32} : xF (xFs w f) = f := by
  unfold xF xFs
  rw [xu_same]
  rfl
theorem xFs_s {w : xW} {f g : Nat → Int32} : xFs (xFs w f) g = xFs w g := by
  unfold xFs
  rw [xu_xu, xu_same]
  congr 1
  show ((w 3).1, _) = ((w 3).1, _)
  congr 1
  funext a
  show (if a = 5 then g else if a = 5 then f else (w 3).2 a) = if a = 5 then g else (w 3).2 a
  split <;> rfl
theorem xFs_self {w : xW} : xFs w (xF w) = w := by
  unfold xFs xF
  have : xs2 (w 3) 5 ((w 3).2 5) = w 3 := by
    show ((w 3).1, _) = _
    have : (fun a => if a = 5 then (w 3).2 5 else (w 3).2 a) = (w 3).2 := by
      funext a
      split
      · next h => rw [h]
      · rfl
    exact Prod.ext rfl this
  rw [this, xu_self]
theorem xR_F {w : xW} {f : Nat → Int32} : xR (xFs w f) = xR w := by
  unfold xR xFs
  rw [xu_same]
  show (if xri (w 3) = 5 then f else (w 3).2 (xri (w 3))) = _
  rw [if_neg (by have := @xri_lt (w 3); omega)]
theorem xF_T {w : xW} {x : Int32} : xF (xT w x) = xF w := by
  unfold xF xT
  rw [xu_same]
  rfl
def sp_i0 (r : Nat → Int32) (a b : Nat) : Int32 := if xop r (nI a) then (if xop r (nI b) then (if nI a = nI b then 0 else if sp_link r (nI a) (nI b) = true then 1 else -1) else -1) else -1
def sp_iB (r : Nat → Int32) (a : Nat) (f : Nat → Int32) (n : Nat) : Nat → Int32 := xfold (fun b g => upd g (6 * a + b) (sp_i0 r a b)) f n
def sp_iA (r : Nat → Int32) (f : Nat → Int32) (n : Nat) : Nat → Int32 := xfold (fun a g => sp_iB r a g (xnb r)) f n
def sp_sh (a y b : Nat) (f : Nat → Int32) : Nat → Int32 := if f (6 * a + y) = -1 then f else if f (6 * y + b) = -1 then f else
  if f (6 * a + b) = -1 then upd f (6 * a + b) (f (6 * a + y) + f (6 * y + b)) else if f (6 * a + b) ≤ f (6 * a + y) + f (6 * y + b) then f else upd f (6 * a + b) (f (6 * a + y) + f (6 * y + b))
def sp_sB (a y : Nat) (f : Nat → Int32) (n : Nat) : Nat → Int32 := xfold (fun b g => sp_sh a y b g) f n
def sp_sA (nb y : Nat) (f : Nat → Int32) (n : Nat) : Nat → Int32 := xfold (fun a g => sp_sB a y g nb) f n
def sp_sY (nb : Nat) (f : Nat → Int32) (n : Nat) : Nat → Int32 := xfold (fun y g => sp_sA nb y g nb) f n
def sp_far (r : Nat → Int32) (f : Nat → Int32) : Nat → Int32 := sp_sY (xnb r) (sp_iA r f (xnb r)) (xnb r)
section RM
variable {w : xW} {l : Nat → Nat → Int64} {t : Nat} {sc : xm_Sc} {d : Nat}
theorem zFa {n : Nat} (hn : n < 36) : xm_aI (xem w l t) (xm 5) 0 (nI n) = some (xF w n) := by
  rw [xaM_5, if_pos (xin hn (by decide)), nI_clamp (by omega)]
  rfl
theorem zFw {n : Nat} {x : Int32} (hn : n < 36) : xm_wI (xem w l t) (xm 5) 0 (nI n) x = some (xem (xFs w (upd (xF w) n x)) l t) := by
  rw [xwM_5, if_pos (xin hn (by decide)), nI_clamp (by omega)]
  rfl
theorem zc_193 {a b : Nat} (ha : a < 6) (hb : b < 6) : xm_C sc xt_M (d + 1) 193 [.ref 191, .int (nI a), .int (nI b)] (xem w l t) = some (.inl (some (.int (xF w (6 * a + b)))), xem w l t) := by
  rw [yc_193]
  simp (disch := first | omega | assumption | (rw [xR_F]; first | omega | assumption)) only [↓zbE, zbd_some, ↓xk_I, ↓xk_v, xgM_5, xiM, zRa, zRw, xR_s, xRs_s, zB_0, zB_1, zB_b01, ite_not, ↓reduceIte, nI_ge, zRa_0, zRa_1, zRa_2, zRa_3, zRa_4, zRa_5, zRw_0, zRw_1, zRw_2, zRw_3, zRw_4, zRw_5, zxV_0, zxV_1, zxV_2, zxK_0, zxK_1, zxK_2, zxK_3, zxK_4, zxK_5, zxQ_0, zxQ_1, zxQ_2, zxV_s, zxO, zxF, zc_161_0, zc_161_1, zc_161_2, zc_162_0, zc_162_1, zc_162_2, zc_163_0, zc_163_1, zc_163_2, zc_163_3, zc_163_4, zc_163_5, zc_164_0, zc_164_1, zc_164_2, zc_164_3, zc_164_4, zc_164_5, zc_165_0, zc_165_1, zc_165_2, zc_161_s, zc_162_s, zc_160, zc_166, zc_167, zc_168, zc_158, zc_159, zc_170, zc_169, zc_183, zc_184, zc_177, zc_178, zc_179, zc_180, zc_185, zc_186, zc_181, zc_182, zc_187, zc_188, zc_189, zc_190, zc_204, zc_205, zc_210, zc_214, zc_215, zc_216, zc_217, zc_219, zc_206, zFa, zFw, xF_s, xFs_s, xR_F, xgM_9, z10, zEq]
theorem zc_192 {a y b : Nat} (ha : a < 6) (hy : y < 6) (hb : b < 6) : xm_C sc xt_M (d + 2) 192 [.ref 191, .int (nI a), .int (nI y), .int (nI b)] (xem w l t) = some (.inl none, xem (xFs w (sp_sh a y b (xF w))) l t) := by
  rw [yc_192]
  unfold sp_sh
  by_cases h1 : xF w (6 * a + y) = -1
  · simp (disch := first | omega | assumption | (rw [xR_F]; first | omega | assumption)) only [↓zbE, zbd_some, ↓xk_I, ↓xk_v, xgM_5, xiM, zRa, zRw, xR_s, xRs_s, zB_0, zB_1, zB_b01, ite_not, ↓reduceIte, nI_ge, zRa_0, zRa_1, zRa_2, zRa_3, zRa_4, zRa_5, zRw_0, zRw_1, zRw_2, zRw_3, zRw_4, zRw_5, zxV_0, zxV_1, zxV_2, zxK_0, zxK_1, zxK_2, zxK_3, zxK_4, zxK_5, zxQ_0, zxQ_1, zxQ_2, zxV_s, zxO, zxF, zc_161_0, zc_161_1, zc_161_2, zc_162_0, zc_162_1, zc_162_2, zc_163_0, zc_163_1, zc_163_2, zc_163_3, zc_163_4, zc_163_5, zc_164_0, zc_164_1, zc_164_2, zc_164_3, zc_164_4, zc_164_5, zc_165_0, zc_165_1, zc_165_2, zc_161_s, zc_162_s, zc_160, zc_166, zc_167, zc_168, zc_158, zc_159, zc_170, zc_169, zc_183, zc_184, zc_177, zc_178, zc_179, zc_180, zc_185, zc_186, zc_181, zc_182, zc_187, zc_188, zc_189, zc_190, zc_204, zc_205, zc_210, zc_214, zc_215, zc_216, zc_217, zc_219, zc_206, zFa, zFw, xF_s, xFs_s, xR_F, xgM_9, zc_193, z10, zEq, yb_192_52, yb_192_68, xFs_self, zm1, h1]
  by_cases h2 : xF w (6 * y + b) = -1
  · simp (disch := first | omega | assumption | (rw [xR_F]; first | omega | assumption)) only [↓zbE, zbd_some, ↓xk_I, ↓xk_v, xgM_5, xiM, zRa, zRw, xR_s, xRs_s, zB_0, zB_1, zB_b01, ite_not, ↓reduceIte, nI_ge, zRa_0, zRa_1, zRa_2, zRa_3, zRa_4, zRa_5, zRw_0, zRw_1, zRw_2, zRw_3, zRw_4, zRw_5, zxV_0, zxV_1, zxV_2, zxK_0, zxK_1, zxK_2, zxK_3, zxK_4, zxK_5, zxQ_0, zxQ_1, zxQ_2, zxV_s, zxO, zxF, zc_161_0, zc_161_1, zc_161_2, zc_162_0, zc_162_1, zc_162_2, zc_163_0, zc_163_1, zc_163_2, zc_163_3, zc_163_4, zc_163_5, zc_164_0, zc_164_1, zc_164_2, zc_164_3, zc_164_4, zc_164_5, zc_165_0, zc_165_1, zc_165_2, zc_161_s, zc_162_s, zc_160, zc_166, zc_167, zc_168, zc_158, zc_159, zc_170, zc_169, zc_183, zc_184, zc_177, zc_178, zc_179, zc_180, zc_185, zc_186, zc_181, zc_182, zc_187, zc_188, zc_189, zc_190, zc_204, zc_205, zc_210, zc_214, zc_215, zc_216, zc_217, zc_219, zc_206, zFa, zFw, xF_s, xFs_s, xR_F, xgM_9, zc_193, z10, zEq, yb_192_52, yb_192_68, xFs_self, zm1, h1, h2]
  by_cases h3 : xF w (6 * a + b) = -1
  · simp (disch := first | omega | assumption | (rw [xR_F]; first | omega | assumption)) only [↓zbE, zbd_some, ↓xk_I, ↓xk_v, xgM_5, xiM, zRa, zRw, xR_s, xRs_s, zB_0, zB_1, zB_b01, ite_not, ↓reduceIte, nI_ge, zRa_0, zRa_1, zRa_2, zRa_3, zRa_4, zRa_5, zRw_0, zRw_1, zRw_2, zRw_3, zRw_4, zRw_5, zxV_0, zxV_1, zxV_2, zxK_0, zxK_1, zxK_2, zxK_3, zxK_4, zxK_5, zxQ_0, zxQ_1, zxQ_2, zxV_s, zxO, zxF, zc_161_0, zc_161_1, zc_161_2, zc_162_0, zc_162_1, zc_162_2, zc_163_0, zc_163_1, zc_163_2, zc_163_3, zc_163_4, zc_163_5, zc_164_0, zc_164_1, zc_164_2, zc_164_3, zc_164_4, zc_164_5, zc_165_0, zc_165_1, zc_165_2, zc_161_s, zc_162_s, zc_160, zc_166, zc_167, zc_168, zc_158, zc_159, zc_170, zc_169, zc_183, zc_184, zc_177, zc_178, zc_179, zc_180, zc_185, zc_186, zc_181, zc_182, zc_187, zc_188, zc_189, zc_190, zc_204, zc_205, zc_210, zc_214, zc_215, zc_216, zc_217, zc_219, zc_206, zFa, zFw, xF_s, xFs_s, xR_F, xgM_9, zc_193, z10, zEq, yb_192_52, yb_192_68, xFs_self, zm1, h1, h2, h3]
  by_cases h4 : xF w (6 * a + b) ≤ xF w (6 * a + y) + xF w (6 * y + b)
  · simp (disch := first | omega | assumption | (rw [xR_F]; first | omega | assumption)) only [↓zbE, zbd_some, ↓xk_I, ↓xk_v, xgM_5, xiM, zRa, zRw, xR_s, xRs_s, zB_0, zB_1, zB_b01, ite_not, ↓reduceIte, nI_ge, zRa_0, zRa_1, zRa_2, zRa_3, zRa_4, zRa_5, zRw_0, zRw_1, zRw_2, zRw_3, zRw_4, zRw_5, zxV_0, zxV_1, zxV_2, zxK_0, zxK_1, zxK_2, zxK_3, zxK_4, zxK_5, zxQ_0, zxQ_1, zxQ_2, zxV_s, zxO, zxF, zc_161_0, zc_161_1, zc_161_2, zc_162_0, zc_162_1, zc_162_2, zc_163_0, zc_163_1, zc_163_2, zc_163_3, zc_163_4, zc_163_5, zc_164_0, zc_164_1, zc_164_2, zc_164_3, zc_164_4, zc_164_5, zc_165_0, zc_165_1, zc_165_2, zc_161_s, zc_162_s, zc_160, zc_166, zc_167, zc_168, zc_158, zc_159, zc_170, zc_169, zc_183, zc_184, zc_177, zc_178, zc_179, zc_180, zc_185, zc_186, zc_181, zc_182, zc_187, zc_188, zc_189, zc_190, zc_204, zc_205, zc_210, zc_214, zc_215, zc_216, zc_217, zc_219, zc_206, zFa, zFw, xF_s, xFs_s, xR_F, xgM_9, zc_193, z10, zEq, yb_192_52, yb_192_68, xFs_self, zm1, h1, h2, h3, h4]
  · simp (disch := first | omega | assumption | (rw [xR_F]; first | omega | assumption)) only [↓zbE, zbd_some, ↓xk_I, ↓xk_v, xgM_5, xiM, zRa, zRw, xR_s, xRs_s, zB_0, zB_1, zB_b01, ite_not, ↓reduceIte, nI_ge, zRa_0, zRa_1, zRa_2, zRa_3, zRa_4, zRa_5, zRw_0, zRw_1, zRw_2, zRw_3, zRw_4, zRw_5, zxV_0, zxV_1, zxV_2, zxK_0, zxK_1, zxK_2, zxK_3, zxK_4, zxK_5, zxQ_0, zxQ_1, zxQ_2, zxV_s, zxO, zxF, zc_161_0, zc_161_1, zc_161_2, zc_162_0, zc_162_1, zc_162_2, zc_163_0, zc_163_1, zc_163_2, zc_163_3, zc_163_4, zc_163_5, zc_164_0, zc_164_1, zc_164_2, zc_164_3, zc_164_4, zc_164_5, zc_165_0, zc_165_1, zc_165_2, zc_161_s, zc_162_s, zc_160, zc_166, zc_167, zc_168, zc_158, zc_159, zc_170, zc_169, zc_183, zc_184, zc_177, zc_178, zc_179, zc_180, zc_185, zc_186, zc_181, zc_182, zc_187, zc_188, zc_189, zc_190, zc_204, zc_205, zc_210, zc_214, zc_215, zc_216, zc_217, zc_219, zc_206, zFa, zFw, xF_s, xFs_s, xR_F, xgM_9, zc_193, z10, zEq, yb_192_52, yb_192_68, xFs_self, zm1, h1, h2, h3, h4]
theorem zc_191 (hW : xWF (xR w)) : xm_C sc xt_M (d + 4) 191 [.ref 191] (xem w l t) = some (.inl none, xem (xFs w (sp_far (xR w) (xF w))) l t) := by
  have hB := hW.bd
  have hk20 := hB.k20
  have hq40 := hB.q40
  have hv4 := hB.v4
  have hb6 := hB.b6
  have hWF : ∀ f, xWF (xR (xFs w f)) := fun f => by rw [xR_F]; exact hW
  have hib : ∀ i, i < xnb (xR w) → xib (nI i) := fun i hi => xil_nI (by omega) (by omega)
  -- one row of the first laying
  have row : ∀ a, a < xnb (xR w) → ∀ f v4, ∃ v4', xm_R sc xt_M (d + 3) 191 16 [.ref 191, .int (nI (xnb (xR w))), .int (nI a), .int (nI 0), v4] [] (xem (xFs w f) l t) =
      xm_R sc xt_M (d + 3) 191 16 [.ref 191, .int (nI (xnb (xR w))), .int (nI a), .int (nI (xnb (xR w))), v4'] [] (xem (xFs w (sp_iB (xR w) a f (xnb (xR w)))) l t) := by
    intro a ha f
    refine xlpJ (fun b v4 => xm_R sc xt_M (d + 3) 191 16 [.ref 191, .int (nI (xnb (xR w))), .int (nI a), .int (nI b), v4] [] (xem (xFs w (sp_iB (xR w) a f b)) l t)) (xnb (xR w)) ?_
    intro b v4 hb
    have ia := hib a ha
    have ib := hib b hb
    rw [yb_191_16, show sp_iB (xR w) a f (b + 1) = upd (sp_iB (xR w) a f b) (6 * a + b) (sp_i0 (xR w) a b) from rfl]
    unfold sp_i0
    by_cases h1 : xop (xR w) (nI a)
    · by_cases h2 : xop (xR w) (nI b)
      · by_cases h3 : a = b
        · subst h3
          exact ⟨_, by simp (disch := first | omega | assumption | exact hWF _) only [↓zbE, zbd_some, ↓xk_I, ↓xk_v, xgM_5, xiM, zRa, zRw, xR_s, xRs_s, zB_0, zB_1, zB_b01, ite_not, ↓reduceIte, nI_ge, zRa_0, zRa_1, zRa_2, zRa_3, zRa_4, zRa_5, zRw_0, zRw_1, zRw_2, zRw_3, zRw_4, zRw_5, zxV_0, zxV_1, zxV_2, zxK_0, zxK_1, zxK_2, zxK_3, zxK_4, zxK_5, zxQ_0, zxQ_1, zxQ_2, zxV_s, zxO, zxF, zc_161_0, zc_161_1, zc_161_2, zc_162_0, zc_162_1, zc_162_2, zc_163_0, zc_163_1, zc_163_2, zc_163_3, zc_163_4, zc_163_5, zc_164_0, zc_164_1, zc_164_2, zc_164_3, zc_164_4, zc_164_5, zc_165_0, zc_165_1, zc_165_2, zc_161_s, zc_162_s, zc_160, zc_166, zc_167, zc_168, zc_158, zc_159, zc_170, zc_169, zc_183, zc_184, zc_177, zc_178, zc_179, zc_180, zc_185, zc_186, zc_181, zc_182, zc_187, zc_188, zc_189, zc_190, zc_204, zc_205, zc_210, zc_214, zc_215, zc_216, zc_217, zc_219, zc_206, zFa, zFw, xF_s, xFs_s, xR_F, xgM_9, zc_193, zc_192, z10, zS, yb_191_41, Bool.false_eq_true, eq_true h1]; rfl⟩
        · have h3' : ¬ nI a = nI b := fun h => h3 (nI_inj (by omega) (by omega) h)
          cases h4 : sp_link (xR w) (nI a) (nI b) with
          | true => exact ⟨_, by simp (disch := first | omega | assumption | exact hWF _) only [↓zbE, zbd_some, ↓xk_I, ↓xk_v, xgM_5, xiM, zRa, zRw, xR_s, xRs_s, zB_0, zB_1, zB_b01, ite_not, ↓reduceIte, nI_ge, zRa_0, zRa_1, zRa_2, zRa_3, zRa_4, zRa_5, zRw_0, zRw_1, zRw_2, zRw_3, zRw_4, zRw_5, zxV_0, zxV_1, zxV_2, zxK_0, zxK_1, zxK_2, zxK_3, zxK_4, zxK_5, zxQ_0, zxQ_1, zxQ_2, zxV_s, zxO, zxF, zc_161_0, zc_161_1, zc_161_2, zc_162_0, zc_162_1, zc_162_2, zc_163_0, zc_163_1, zc_163_2, zc_163_3, zc_163_4, zc_163_5, zc_164_0, zc_164_1, zc_164_2, zc_164_3, zc_164_4, zc_164_5, zc_165_0, zc_165_1, zc_165_2, zc_161_s, zc_162_s, zc_160, zc_166, zc_167, zc_168, zc_158, zc_159, zc_170, zc_169, zc_183, zc_184, zc_177, zc_178, zc_179, zc_180, zc_185, zc_186, zc_181, zc_182, zc_187, zc_188, zc_189, zc_190, zc_204, zc_205, zc_210, zc_214, zc_215, zc_216, zc_217, zc_219, zc_206, zFa, zFw, xF_s, xFs_s, xR_F, xgM_9, zc_193, zc_192, z10, zS, yb_191_41, Bool.false_eq_true, eq_true h1, eq_true h2, h3', h4]; rfl⟩
          | false => exact ⟨_, by simp (disch := first | omega | assumption | exact hWF _) only [↓zbE, zbd_some, ↓xk_I, ↓xk_v, xgM_5, xiM, zRa, zRw, xR_s, xRs_s, zB_0, zB_1, zB_b01, ite_not, ↓reduceIte, nI_ge, zRa_0, zRa_1, zRa_2, zRa_3, zRa_4, zRa_5, zRw_0, zRw_1, zRw_2, zRw_3, zRw_4, zRw_5, zxV_0, zxV_1, zxV_2, zxK_0, zxK_1, zxK_2, zxK_3, zxK_4, zxK_5, zxQ_0, zxQ_1, zxQ_2, zxV_s, zxO, zxF, zc_161_0, zc_161_1, zc_161_2, zc_162_0, zc_162_1, zc_162_2, zc_163_0, zc_163_1, zc_163_2, zc_163_3, zc_163_4, zc_163_5, zc_164_0, zc_164_1, zc_164_2, zc_164_3, zc_164_4, zc_164_5, zc_165_0, zc_165_1, zc_165_2, zc_161_s, zc_162_s, zc_160, zc_166, zc_167, zc_168, zc_158, zc_159, zc_170, zc_169, zc_183, zc_184, zc_177, zc_178, zc_179, zc_180, zc_185, zc_186, zc_181, zc_182, zc_187, zc_188, zc_189, zc_190, zc_204, zc_205, zc_210, zc_214, zc_215, zc_216, zc_217, zc_219, zc_206, zFa, zFw, xF_s, xFs_s, xR_F, xgM_9, zc_193, zc_192, z10, zS, yb_191_41, Bool.false_eq_true, eq_true h1, eq_true h2, h3', h4]; rfl⟩
      · exact ⟨_, by simp (disch := first | omega | assumption | exact hWF _) only [↓zbE, zbd_some, ↓xk_I, ↓xk_v, xgM_5, xiM, zRa, zRw, xR_s, xRs_s, zB_0, zB_1, zB_b01, ite_not, ↓reduceIte, nI_ge, zRa_0, zRa_1, zRa_2, zRa_3, zRa_4, zRa_5, zRw_0, zRw_1, zRw_2, zRw_3, zRw_4, zRw_5, zxV_0, zxV_1, zxV_2, zxK_0, zxK_1, zxK_2, zxK_3, zxK_4, zxK_5, zxQ_0, zxQ_1, zxQ_2, zxV_s, zxO, zxF, zc_161_0, zc_161_1, zc_161_2, zc_162_0, zc_162_1, zc_162_2, zc_163_0, zc_163_1, zc_163_2, zc_163_3, zc_163_4, zc_163_5, zc_164_0, zc_164_1, zc_164_2, zc_164_3, zc_164_4, zc_164_5, zc_165_0, zc_165_1, zc_165_2, zc_161_s, zc_162_s, zc_160, zc_166, zc_167, zc_168, zc_158, zc_159, zc_170, zc_169, zc_183, zc_184, zc_177, zc_178, zc_179, zc_180, zc_185, zc_186, zc_181, zc_182, zc_187, zc_188, zc_189, zc_190, zc_204, zc_205, zc_210, zc_214, zc_215, zc_216, zc_217, zc_219, zc_206, zFa, zFw, xF_s, xFs_s, xR_F, xgM_9, zc_193, zc_192, z10, zS, yb_191_41, Bool.false_eq_true, eq_true h1, eq_false h2]; rfl⟩
    · exact ⟨_, by simp (disch := first | omega | assumption | exact hWF _) only [↓zbE, zbd_some, ↓xk_I, ↓xk_v, xgM_5, xiM, zRa, zRw, xR_s, xRs_s, zB_0, zB_1, zB_b01, ite_not, ↓reduceIte, nI_ge, zRa_0, zRa_1, zRa_2, zRa_3, zRa_4, zRa_5, zRw_0, zRw_1, zRw_2, zRw_3, zRw_4, zRw_5, zxV_0, zxV_1, zxV_2, zxK_0, zxK_1, zxK_2, zxK_3, zxK_4, zxK_5, zxQ_0, zxQ_1, zxQ_2, zxV_s, zxO, zxF, zc_161_0, zc_161_1, zc_161_2, zc_162_0, zc_162_1, zc_162_2, zc_163_0, zc_163_1, zc_163_2, zc_163_3, zc_163_4, zc_163_5, zc_164_0, zc_164_1, zc_164_2, zc_164_3, zc_164_4, zc_164_5, zc_165_0, zc_165_1, zc_165_2, zc_161_s, zc_162_s, zc_160, zc_166, zc_167, zc_168, zc_158, zc_159, zc_170, zc_169, zc_183, zc_184, zc_177, zc_178, zc_179, zc_180, zc_185, zc_186, zc_181, zc_182, zc_187, zc_188, zc_189, zc_190, zc_204, zc_205, zc_210, zc_214, zc_215, zc_216, zc_217, zc_219, zc_206, zFa, zFw, xF_s, xFs_s, xR_F, xgM_9, zc_193, zc_192, z10, zS, yb_191_41, Bool.false_eq_true, eq_false h1]; rfl⟩
  have first : ∀ f (j : Value × Value), ∃ j' : Value × Value, xm_R sc xt_M (d + 3) 191 9 [.ref 191, .int (nI (xnb (xR w))), .int (nI 0), j.1, j.2] [] (xem (xFs w f) l t) =
      xm_R sc xt_M (d + 3) 191 9 [.ref 191, .int (nI (xnb (xR w))), .int (nI (xnb (xR w))), j'.1, j'.2] [] (xem (xFs w (sp_iA (xR w) f (xnb (xR w)))) l t) := by
    intro f
    refine xlpJ (fun a (j : Value × Value) => xm_R sc xt_M (d + 3) 191 9 [.ref 191, .int (nI (xnb (xR w))), .int (nI a), j.1, j.2] [] (xem (xFs w (sp_iA (xR w) f a)) l t)) (xnb (xR w)) ?_
    intro a j ha
    obtain ⟨v4', hv4'⟩ := row a ha (sp_iA (xR w) f a) j.2
    refine ⟨(.int (nI (xnb (xR w))), v4'), ?_⟩
    rw [yb_191_9, if_neg (nI_ge ha (by omega))]
    refine hv4'.trans ?_
    rw [yb_191_16, if_pos (nI_le (Nat.le_refl _) (by omega)), ← nI_succ]
    rfl
  have in1 : ∀ y a, y < xnb (xR w) → a < xnb (xR w) → ∀ f, xm_R sc xt_M (d + 3) 191 116 [.ref 191, .int (nI (xnb (xR w))), .int (nI y), .int (nI a), .int (nI 0)] [] (xem (xFs w f) l t) =
      xm_R sc xt_M (d + 3) 191 108 [.ref 191, .int (nI (xnb (xR w))), .int (nI y), .int (nI (a + 1)), .int (nI (xnb (xR w)))] [] (xem (xFs w (sp_sB a y f (xnb (xR w)))) l t) := by
    intro y a hy ha f
    refine xlp (fun b => xm_R sc xt_M (d + 3) 191 116 [.ref 191, .int (nI (xnb (xR w))), .int (nI y), .int (nI a), .int (nI b)] [] (xem (xFs w (sp_sB a y f b)) l t)) (xnb (xR w)) ?_ ?_
    · intro b hb
      rw [yb_191_116]
      simp (disch := first | omega | assumption | exact hWF _) only [↓zbE, zbd_some, ↓xk_I, ↓xk_v, xgM_5, xiM, zRa, zRw, xR_s, xRs_s, zB_0, zB_1, zB_b01, ite_not, ↓reduceIte, nI_ge, zRa_0, zRa_1, zRa_2, zRa_3, zRa_4, zRa_5, zRw_0, zRw_1, zRw_2, zRw_3, zRw_4, zRw_5, zxV_0, zxV_1, zxV_2, zxK_0, zxK_1, zxK_2, zxK_3, zxK_4, zxK_5, zxQ_0, zxQ_1, zxQ_2, zxV_s, zxO, zxF, zc_161_0, zc_161_1, zc_161_2, zc_162_0, zc_162_1, zc_162_2, zc_163_0, zc_163_1, zc_163_2, zc_163_3, zc_163_4, zc_163_5, zc_164_0, zc_164_1, zc_164_2, zc_164_3, zc_164_4, zc_164_5, zc_165_0, zc_165_1, zc_165_2, zc_161_s, zc_162_s, zc_160, zc_166, zc_167, zc_168, zc_158, zc_159, zc_170, zc_169, zc_183, zc_184, zc_177, zc_178, zc_179, zc_180, zc_185, zc_186, zc_181, zc_182, zc_187, zc_188, zc_189, zc_190, zc_204, zc_205, zc_210, zc_214, zc_215, zc_216, zc_217, zc_219, zc_206, zFa, zFw, xF_s, xFs_s, xR_F, xgM_9, zc_193, zc_192, z10, zS, yb_191_41, Bool.false_eq_true]
      rfl
    · rw [yb_191_116, if_pos (nI_le (Nat.le_refl _) (by omega)), ← nI_succ]
  have in2 : ∀ y, y < xnb (xR w) → ∀ f v4, ∃ v4', xm_R sc xt_M (d + 3) 191 108 [.ref 191, .int (nI (xnb (xR w))), .int (nI y), .int (nI 0), v4] [] (xem (xFs w f) l t) =
      xm_R sc xt_M (d + 3) 191 108 [.ref 191, .int (nI (xnb (xR w))), .int (nI y), .int (nI (xnb (xR w))), v4'] [] (xem (xFs w (sp_sA (xnb (xR w)) y f (xnb (xR w)))) l t) := by
    intro y hy f
    refine xlpJ (fun a v4 => xm_R sc xt_M (d + 3) 191 108 [.ref 191, .int (nI (xnb (xR w))), .int (nI y), .int (nI a), v4] [] (xem (xFs w (sp_sA (xnb (xR w)) y f a)) l t)) (xnb (xR w)) ?_
    intro a v4 ha
    refine ⟨.int (nI (xnb (xR w))), ?_⟩
    rw [yb_191_108, if_neg (nI_ge ha (by omega))]
    exact in1 y a hy ha _
  have in3 : ∀ f (j : Value × Value), ∃ j' : Value × Value, xm_R sc xt_M (d + 3) 191 101 [.ref 191, .int (nI (xnb (xR w))), .int (nI 0), j.1, j.2] [] (xem (xFs w f) l t) =
      xm_R sc xt_M (d + 3) 191 101 [.ref 191, .int (nI (xnb (xR w))), .int (nI (xnb (xR w))), j'.1, j'.2] [] (xem (xFs w (sp_sY (xnb (xR w)) f (xnb (xR w)))) l t) := by
    intro f
    refine xlpJ (fun y (j : Value × Value) => xm_R sc xt_M (d + 3) 191 101 [.ref 191, .int (nI (xnb (xR w))), .int (nI y), j.1, j.2] [] (xem (xFs w (sp_sY (xnb (xR w)) f y)) l t)) (xnb (xR w)) ?_
    intro y j hy
    obtain ⟨v4', hv4'⟩ := in2 y hy (sp_sY (xnb (xR w)) f y) j.2
    refine ⟨(.int (nI (xnb (xR w))), v4'), ?_⟩
    rw [yb_191_101, if_neg (nI_ge hy (by omega))]
    refine hv4'.trans ?_
    rw [yb_191_108, if_pos (nI_le (Nat.le_refl _) (by omega)), ← nI_succ]
    rfl
  rw [yc_191, xgM_5, zbs, zRa_0, zbs, hB.b]
  obtain ⟨j1, e1⟩ := first (xF w) (.null, .null)
  rw [xFs_self] at e1
  refine e1.trans ?_
  rw [yb_191_9, if_pos (nI_le (Nat.le_refl _) (by omega))]
  obtain ⟨j2, e2⟩ := in3 (sp_iA (xR w) (xF w) (xnb (xR w))) j1
  refine e2.trans ?_
  rw [yb_191_101, if_pos (nI_le (Nat.le_refl _) (by omega))]
  rfl
end RM
