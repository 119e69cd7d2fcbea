/-! THE REFERENCE: unload -/
theorem zu1 {g : Nat → Int32} {k : Nat} {x : Int32} : upd g k x k = x := if_pos rfl
theorem xil_ib {x : Int32} {r : Nat → Int32} (h : xWF r) (hx : xil x (xnb r)) : xib x := xil_le hx h.bd.b6
def xhd (r r' : Nat → Int32) : Prop := ∀ i, i < 56 ∨ 176 ≤ i → r' i = r i
theorem xhd.k {r r' : Nat → Int32} (h : xhd r r') : xnk r' = xnk r := by unfold xnk; rw [h 2 (by omega)]
theorem xhd.v {r r' : Nat → Int32} (h : xhd r r') : xnv r' = xnv r := by unfold xnv; rw [h 1 (by omega)]
theorem xhd.b {r r' : Nat → Int32} (h : xhd r r') : xnb r' = xnb r := by unfold xnb; rw [h 0 (by omega)]
theorem xhd.q {r r' : Nat → Int32} (h : xhd r r') : xnq r' = xnq r := by unfold xnq; rw [h 3 (by omega)]
theorem xhd_put {r0 r : Nat → Int32} {k : Nat} {st pl : Int32} (hk : k < 20) (h : xhd r0 r) : xhd r0 (sp_put r k st pl) := fun i hi => (sp_put_h hk hi).trans (h i hi)
def sp_unl1 (f : Nat → Int32) (v : Nat) (b : Int32) (k : Nat) (u : (Nat → Int32) × (Nat → Int32)) : (Nat → Int32) × (Nat → Int32) := if sp_isIn u.1 1 k (nI v) ∧ sp_leaves f u.1 k v b then (sp_put u.1 k 0 b, upd u.2 k 1) else (u.1, upd u.2 k 0)
def sp_unl (f : Nat → Int32) (v : Nat) (b : Int32) (u : (Nat → Int32) × (Nat → Int32)) (n : Nat) : (Nat → Int32) × (Nat → Int32) := xfold (fun k u => sp_unl1 f v b k u) u n
theorem sp_unl_ok {f r j : Nat → Int32} {v : Nat} {b : Int32} (h : xWF r) (hb : xil b (xnb r)) : ∀ n, n ≤ xnk r → xWF (sp_unl f v b (r, j) n).1 ∧ xhd r (sp_unl f v b (r, j) n).1 := by
  intro n
  induction n with
  | zero => intro _; exact ⟨h, fun _ _ => rfl⟩
  | succ n ih =>
    intro hn
    obtain ⟨h1, h2⟩ := ih (by omega)
    have hk20 := h.bd.k20
    show xWF (sp_unl1 f v b n (sp_unl f v b (r, j) n)).1 ∧ xhd r (sp_unl1 f v b n (sp_unl f v b (r, j) n)).1
    unfold sp_unl1
    split
    · exact ⟨xWF_put h1 (by rw [h2.k]; omega) (Or.inl ⟨rfl, by rw [h2.b]; exact hb⟩), xhd_put (by omega) h2⟩
    · exact ⟨h1, h2⟩
section RP
variable {w : xW} {l : Nat → Nat → Int64} {t : Nat} {sc : xm_Sc} {d : Nat}
theorem zJa {n : Nat} (hn : n < 20) : xm_aI (xem w l t) (xm 6) 3 (nI n) = some (xJ w n) := by
  rw [xaM_6, if_pos (xin hn (by decide)), nI_clamp (by omega)]
  rfl
theorem zJw {n : Nat} {x : Int32} (hn : n < 20) : xm_wI (xem w l t) (xm 6) 3 (nI n) x = some (xem (xJs w (upd (xJ w) n x)) l t) := by
  rw [xwM_6, if_pos (xin hn (by decide)), nI_clamp (by omega)]
  rfl
theorem z197s {r f j : Nat → Int32} {v k : Nat} {b : Int32} (hW : xWF r) (hv : v < xnv r) (hk : k < xnk r) (hb : xil b (xnb r)) : xm_R sc xt_M (d + 4) 197 2 [.ref 191, .int (nI v), .int b, .int (nI k)] [] (xem (xMw w r f j) l t) =
    xm_R sc xt_M (d + 4) 197 2 [.ref 191, .int (nI v), .int b, .int (nI (k + 1))] [] (xem (xMw w (sp_unl1 f v b k (r, j)).1 f (sp_unl1 f v b k (r, j)).2) l t) := by
  have hB := hW.bd
  have hk20 := hB.k20
  have hq40 := hB.q40
  have hv4 := hB.v4
  have hb6 := hB.b6
  have hib := xil_ib hW hb
  rw [yb_197_2]
  unfold sp_unl1
  by_cases h1 : sp_isIn r 1 k (nI v)
  · by_cases h2 : sp_leaves f r k v b
    · have hp := And.intro h1 h2
      rw [if_pos hp]
      simp (disch := first | omega | assumption | (rw [xR_M]; first | omega | assumption)) only [↓zbE, zbd_some, ↓xk_I, ↓xk_v, xgM_5, xiM, zRa, zRw, xR_s, xRs_s, zB_0, zB_1, zB_b01, ite_not, ↓reduceIte, nI_ge, zRa_0, zRa_1, zRa_2, zRa_3, zRa_4, zRa_5, zRw_0, zRw_1, zRw_2, zRw_3, zRw_4, zRw_5, zxV_0, zxV_1, zxV_2, zxK_0, zxK_1, zxK_2, zxK_3, zxK_4, zxK_5, zxQ_0, zxQ_1, zxQ_2, zxV_s, zxO, zxF, zc_161_0, zc_161_1, zc_161_2, zc_162_0, zc_162_1, zc_162_2, zc_163_0, zc_163_1, zc_163_2, zc_163_3, zc_163_4, zc_163_5, zc_164_0, zc_164_1, zc_164_2, zc_164_3, zc_164_4, zc_164_5, zc_165_0, zc_165_1, zc_165_2, zc_161_s, zc_162_s, zc_160, zc_166, zc_167, zc_168, zc_158, zc_159, zc_170, zc_169, zc_183, zc_184, zc_177, zc_178, zc_179, zc_180, zc_185, zc_186, zc_181, zc_182, zc_187, zc_188, zc_189, zc_190, zc_204, zc_205, zc_210, zc_214, zc_215, zc_216, zc_217, zc_219, zc_206, zFa, zFw, xF_s, xFs_s, xR_F, xgM_9, zc_193, zc_192, zc_191, zc_193x, zc_194, zc_198, zc_195, zc_196, z10, zS, xR_M, xF_M, xJ_M, xRs_M, xFs_M, xJs_M, zJa, zJw, xgM_11, zu1, hB.k, yb_197_57, eq_true h1, eq_true h2, not_true_eq_false]
    · have hp := fun (h : sp_isIn r 1 k (nI v) ∧ sp_leaves f r k v b) => h2 h.2
      rw [if_neg hp]
      simp (disch := first | omega | assumption | (rw [xR_M]; first | omega | assumption)) only [↓zbE, zbd_some, ↓xk_I, ↓xk_v, xgM_5, xiM, zRa, zRw, xR_s, xRs_s, zB_0, zB_1, zB_b01, ite_not, ↓reduceIte, nI_ge, zRa_0, zRa_1, zRa_2, zRa_3, zRa_4, zRa_5, zRw_0, zRw_1, zRw_2, zRw_3, zRw_4, zRw_5, zxV_0, zxV_1, zxV_2, zxK_0, zxK_1, zxK_2, zxK_3, zxK_4, zxK_5, zxQ_0, zxQ_1, zxQ_2, zxV_s, zxO, zxF, zc_161_0, zc_161_1, zc_161_2, zc_162_0, zc_162_1, zc_162_2, zc_163_0, zc_163_1, zc_163_2, zc_163_3, zc_163_4, zc_163_5, zc_164_0, zc_164_1, zc_164_2, zc_164_3, zc_164_4, zc_164_5, zc_165_0, zc_165_1, zc_165_2, zc_161_s, zc_162_s, zc_160, zc_166, zc_167, zc_168, zc_158, zc_159, zc_170, zc_169, zc_183, zc_184, zc_177, zc_178, zc_179, zc_180, zc_185, zc_186, zc_181, zc_182, zc_187, zc_188, zc_189, zc_190, zc_204, zc_205, zc_210, zc_214, zc_215, zc_216, zc_217, zc_219, zc_206, zFa, zFw, xF_s, xFs_s, xR_F, xgM_9, zc_193, zc_192, zc_191, zc_193x, zc_194, zc_198, zc_195, zc_196, z10, zS, xR_M, xF_M, xJ_M, xRs_M, xFs_M, xJs_M, zJa, zJw, xgM_11, zu1, hB.k, yb_197_57, eq_true h1, eq_false h2]
  · have hp := fun (h : sp_isIn r 1 k (nI v) ∧ sp_leaves f r k v b) => h1 h.1
    rw [if_neg hp]
    simp (disch := first | omega | assumption | (rw [xR_M]; first | omega | assumption)) only [↓zbE, zbd_some, ↓xk_I, ↓xk_v, xgM_5, xiM, zRa, zRw, xR_s, xRs_s, zB_0, zB_1, zB_b01, ite_not, ↓reduceIte, nI_ge, zRa_0, zRa_1, zRa_2, zRa_3, zRa_4, zRa_5, zRw_0, zRw_1, zRw_2, zRw_3, zRw_4, zRw_5, zxV_0, zxV_1, zxV_2, zxK_0, zxK_1, zxK_2, zxK_3, zxK_4, zxK_5, zxQ_0, zxQ_1, zxQ_2, zxV_s, zxO, zxF, zc_161_0, zc_161_1, zc_161_2, zc_162_0, zc_162_1, zc_162_2, zc_163_0, zc_163_1, zc_163_2, zc_163_3, zc_163_4, zc_163_5, zc_164_0, zc_164_1, zc_164_2, zc_164_3, zc_164_4, zc_164_5, zc_165_0, zc_165_1, zc_165_2, zc_161_s, zc_162_s, zc_160, zc_166, zc_167, zc_168, zc_158, zc_159, zc_170, zc_169, zc_183, zc_184, zc_177, zc_178, zc_179, zc_180, zc_185, zc_186, zc_181, zc_182, zc_187, zc_188, zc_189, zc_190, zc_204, zc_205, zc_210, zc_214, zc_215, zc_216, zc_217, zc_219, zc_206, zFa, zFw, xF_s, xFs_s, xR_F, xgM_9, zc_193, zc_192, zc_191, zc_193x, zc_194, zc_198, zc_195, zc_196, z10, zS, xR_M, xF_M, xJ_M, xRs_M, xFs_M, xJs_M, zJa, zJw, xgM_11, zu1, hB.k, yb_197_57, eq_false h1]
theorem zc_197 {r f j : Nat → Int32} {v : Nat} {b : Int32} (hW : xWF r) (hv : v < xnv r) (hb : xil b (xnb r)) : xm_C sc xt_M (d + 5) 197 [.ref 191, .int (nI v), .int b] (xem (xMw w r f j) l t) =
    some (.inl none, xem (xMw w (sp_unl f v b (r, j) (xnk r)).1 f (sp_unl f v b (r, j) (xnk r)).2) l t) := by
  have hB := hW.bd
  have hk20 := hB.k20
  have hq40 := hB.q40
  have hv4 := hB.v4
  have hb6 := hB.b6
  rw [yc_197]
  refine xlp (fun k => xm_R sc xt_M (d + 4) 197 2 [.ref 191, .int (nI v), .int b, .int (nI k)] [] (xem (xMw w (sp_unl f v b (r, j) k).1 f (sp_unl f v b (r, j) k).2) l t)) (xnk r) ?_ ?_
  · intro k hk
    obtain ⟨h1, h2⟩ := @sp_unl_ok f r j v b hW hb k (by omega)
    exact z197s h1 (by rw [h2.v]; exact hv) (by rw [h2.k]; exact hk) (by rw [h2.b]; exact hb)
  · obtain ⟨h1, h2⟩ := @sp_unl_ok f r j v b hW hb (xnk r) (Nat.le_refl _)
    rw [yb_197_2, xgM_5, zbs, zRa_2, zbs, xR_M, h1.bd.k, h2.k, if_pos (nI_le (Nat.le_refl _) (by omega))]
end RP
