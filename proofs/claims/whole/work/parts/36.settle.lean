/-! THE REFERENCE: settle -/
theorem zun {g : Nat → Int32} {k i : Nat} {x : Int32} (h : i ≠ k) : upd g k x i = g i := if_neg h
def xH (w : xW) : Int32 := (w 3).1 4
def xHs (w : xW) (x : Int32) : xW := xu w 3 (xs1 (w 3) 4 x)
section HS
variable {w : xW} {r f j : Nat → Int32} {x y : Int32}
theorem xH_s : xH (xHs w x) = x := by
  unfold xH xHs
  rw [xu_same]
  rfl
theorem xHs_s : xHs (xHs w x) y = xHs w y := by
  unfold xHs
  rw [xu_xu, xu_same]
  congr 1
  show (_, (w 3).2) = (_, (w 3).2)
  congr 1
  funext a
  unfold upd
  show (if a = 4 then y else if a = 4 then x else (w 3).1 a) = if a = 4 then y else (w 3).1 a
  split <;> rfl
theorem xH_M : xH (xMw w r f j) = xH w := by
  unfold xH
  rw [xMw_3]
  rfl
theorem xHs_M : xHs (xMw w r f j) x = xMw (xHs w x) r f j := by
  unfold xHs
  rw [xMw_3]
  unfold xMw
  rw [xu_xu, xu_xu, xu_same]
  rfl
end HS
def sp_set1 (k : Nat) (r : Nat → Int32) : Nat → Int32 := if r (57 + 6 * k) = r (58 + 6 * k) then upd r (59 + 6 * k) 0 else r
def sp_hold (k q : Nat) (r : Nat → Int32) : Nat → Int32 := upd (upd (sp_put r k 2 (r (57 + 6 * k))) (60 + 6 * k) (r (177 + 3 * q))) (61 + 6 * k) (r 4 + r 5)
def sp_set2 (k : Nat) (r : Nat → Int32) (h : Int32) : (Nat → Int32) × Int32 := match sp_want r k with
  | some q => if r (178 + 3 * q) = r (57 + 6 * k) then (sp_hold k q r, h + 1) else (r, h)
  | none => (r, h)
def sp_settle (k : Nat) (u : (Nat → Int32) × Int32) : (Nat → Int32) × Int32 := if u.1 (56 + 6 * k) = 0 then sp_set2 k (sp_set1 k u.1) u.2 else u
theorem sp_want_lt {r : Nat → Int32} {k q : Nat} (h : sp_want r k = some q) : q < xnq r ∧ r (176 + 3 * q) = nI k := by
  unfold sp_want at h
  split at h
  · cases h
  · have := xfst_some h
    exact ⟨by omega, this.1.1⟩
theorem sp_set1_ok {r : Nat → Int32} {k : Nat} (hW : xWF r) (hk : k < xnk r) : xWF (sp_set1 k r) ∧ (∀ i, i ≠ 59 + 6 * k → sp_set1 k r i = r i) := by
  have hk20 := hW.bd.k20
  unfold sp_set1
  split
  · have e : ∀ i, i ≠ 59 + 6 * k → upd r (59 + 6 * k) 0 i = r i := fun i hi => if_neg hi
    refine ⟨xWF_book hW hk (fun i hi => e i (by omega)) ?_, e⟩
    have c := hW.k k hk
    have e0 : xnb (upd r (59 + 6 * k) 0) = xnb r := by unfold xnb; rw [e 0 (by omega)]
    have e1 : xnv (upd r (59 + 6 * k) 0) = xnv r := by unfold xnv; rw [e 1 (by omega)]
    have e3 : xnq (upd r (59 + 6 * k) 0) = xnq r := by unfold xnq; rw [e 3 (by omega)]
    unfold xBk
    rw [e0, e1, e3, zu1, e (56 + 6 * k) (by omega), e (57 + 6 * k) (by omega), e (58 + 6 * k) (by omega), e (60 + 6 * k) (by omega)]
    refine ⟨c.1, c.2.1, Or.inl rfl, c.2.2.2.1, c.2.2.2.2.1, c.2.2.2.2.2.1, fun z => ?_, c.2.2.2.2.2.2.2⟩
    obtain ⟨q, q1, q2, q3⟩ := c.2.2.2.2.2.2.1 z
    refine ⟨q, q1, ?_, ?_⟩
    · rw [e (176 + 3 * q) (by omega)]; exact q2
    · rw [e (177 + 3 * q) (by omega)]; exact q3
  · exact ⟨hW, fun _ _ => rfl⟩
theorem sp_hold_ok {r : Nat → Int32} {k q : Nat} (hW : xWF r) (hk : k < xnk r) (hq : q < xnq r) (hb : r (176 + 3 * q) = nI k) (h0 : r (56 + 6 * k) = 0) : xWF (sp_hold k q r) ∧ (∀ i, i < 56 + 6 * k ∨ 62 + 6 * k ≤ i → sp_hold k q r i = r i) := by
  have hk20 := hW.bd.k20
  have e : ∀ i, i < 56 + 6 * k ∨ 62 + 6 * k ≤ i → sp_hold k q r i = r i := fun i hi => by
    show (if i = 61 + 6 * k then r 4 + r 5 else if i = 60 + 6 * k then r (177 + 3 * q) else sp_put r k 2 (r (57 + 6 * k)) i) = r i
    rw [if_neg (by omega), if_neg (by omega), sp_put_ne hi]
  have f0 : ∀ i, i ≠ 61 + 6 * k → i ≠ 60 + 6 * k → sp_hold k q r i = sp_put r k 2 (r (57 + 6 * k)) i := fun i h1 h2 => by
    show (if i = 61 + 6 * k then r 4 + r 5 else if i = 60 + 6 * k then r (177 + 3 * q) else sp_put r k 2 (r (57 + 6 * k)) i) = _
    rw [if_neg h1, if_neg h2]
  have f60 : sp_hold k q r (60 + 6 * k) = r (177 + 3 * q) := by
    show (if 60 + 6 * k = 61 + 6 * k then r 4 + r 5 else if 60 + 6 * k = 60 + 6 * k then r (177 + 3 * q) else sp_put r k 2 (r (57 + 6 * k)) (60 + 6 * k)) = _
    rw [if_neg (by omega), if_pos rfl]
  refine ⟨xWF_book hW hk e ?_, e⟩
  have c := hW.k k hk
  have e0 : xnb (sp_hold k q r) = xnb r := by unfold xnb; rw [e 0 (by omega)]
  have e1 : xnv (sp_hold k q r) = xnv r := by unfold xnv; rw [e 1 (by omega)]
  have e3 : xnq (sp_hold k q r) = xnq r := by unfold xnq; rw [e 3 (by omega)]
  unfold xBk
  rw [e0, e1, e3, f60, f0 (56 + 6 * k) (by omega) (by omega), f0 (57 + 6 * k) (by omega) (by omega), f0 (58 + 6 * k) (by omega) (by omega), f0 (59 + 6 * k) (by omega) (by omega), sp_put_0, sp_put_1, sp_put_2, sp_put_3]
  refine ⟨xil_nI (n := 2) (by omega) (by omega), c.2.1, c.2.2.1, fun _ => c.2.2.2.1 (Or.inl h0), fun z => absurd z (by decide), fun z => absurd z (by decide), fun _ => ⟨q, hq, ?_, ?_⟩, fun z => absurd z (by decide)⟩
  · rw [e (176 + 3 * q) (by omega)]; exact hb
  · rw [e (177 + 3 * q) (by omega)]
section RU
variable {w : xW} {l : Nat → Nat → Int64} {t : Nat} {sc : xm_Sc} {d : Nat}
theorem xgM_10H : xm_gI (xem w l t) 191 8 10 = some (xH w) := xgM_10
theorem xsM_10H {x : Int32} : xm_sF (xem w l t) 191 8 10 (.int x) = some (xem (xHs w x) l t) := xsM_10
theorem z202 {r f j : Nat → Int32} {k : Nat} {h : Int32} {v2 : Value} (hW : xWF r) (hk : k < xnk r) : xm_R sc xt_M (d + 3) 202 32 [.ref 191, .int (nI k), v2] [] (xem (xMw (xHs w h) r f j) l t) = some (.inl none, xem (xMw (xHs w (sp_set2 k r h).2) (sp_set2 k r h).1 f j) l t) := by
  have hB := hW.bd
  have hk20 := hB.k20
  have hq40 := hB.q40
  have hv4 := hB.v4
  have hb6 := hB.b6
  rw [yb_202_32]
  unfold sp_set2 sp_want
  by_cases h1 : r (59 + 6 * k) = 1
  · simp (disch := first | omega | assumption | (rw [xR_M]; first | omega | assumption)) only [↓zbE, zbd_some, ↓xk_I, ↓xk_v, xgM_5, xiM, zRa, zRw, xR_s, xRs_s, zB_0, zB_1, zB_b01, ite_not, ↓reduceIte, nI_ge, zRa_0, zRa_1, zRa_2, zRa_3, zRa_4, zRa_5, zRw_0, zRw_1, zRw_2, zRw_3, zRw_4, zRw_5, zxV_0, zxV_1, zxV_2, zxK_0, zxK_1, zxK_2, zxK_3, zxK_4, zxK_5, zxQ_0, zxQ_1, zxQ_2, zxV_s, zxO, zxF, zc_161_0, zc_161_1, zc_161_2, zc_162_0, zc_162_1, zc_162_2, zc_163_0, zc_163_1, zc_163_2, zc_163_3, zc_163_4, zc_163_5, zc_164_0, zc_164_1, zc_164_2, zc_164_3, zc_164_4, zc_164_5, zc_165_0, zc_165_1, zc_165_2, zc_161_s, zc_162_s, zc_160, zc_166, zc_167, zc_168, zc_158, zc_159, zc_170, zc_169, zc_183, zc_184, zc_177, zc_178, zc_179, zc_180, zc_185, zc_186, zc_181, zc_182, zc_187, zc_188, zc_189, zc_190, zc_204, zc_205, zc_210, zc_214, zc_215, zc_216, zc_217, zc_219, zc_206, zFa, zFw, xF_s, xFs_s, xR_F, xgM_9, zc_193, zc_192, zc_191, zc_193x, zc_194, zc_198, zc_195, zc_196, z10, zS, xR_M, xF_M, xJ_M, xRs_M, xFs_M, xJs_M, zJa, zJw, xgM_11, zu1, zc_197, zc_199, zc_200, zc_176, zc_201, h1, xgM_10H, xsM_10H, xH_M, xH_s, xHs_M, xHs_s, zc_187, toJ, zm1, yb_202_125, sp_put_h, zun]
  · simp only [h1, ↓reduceIte]
    cases h2 : sp_first r (nI k) with
    | none => simp (disch := first | omega | assumption | (rw [xR_M]; first | omega | assumption)) only [↓zbE, zbd_some, ↓xk_I, ↓xk_v, xgM_5, xiM, zRa, zRw, xR_s, xRs_s, zB_0, zB_1, zB_b01, ite_not, ↓reduceIte, nI_ge, zRa_0, zRa_1, zRa_2, zRa_3, zRa_4, zRa_5, zRw_0, zRw_1, zRw_2, zRw_3, zRw_4, zRw_5, zxV_0, zxV_1, zxV_2, zxK_0, zxK_1, zxK_2, zxK_3, zxK_4, zxK_5, zxQ_0, zxQ_1, zxQ_2, zxV_s, zxO, zxF, zc_161_0, zc_161_1, zc_161_2, zc_162_0, zc_162_1, zc_162_2, zc_163_0, zc_163_1, zc_163_2, zc_163_3, zc_163_4, zc_163_5, zc_164_0, zc_164_1, zc_164_2, zc_164_3, zc_164_4, zc_164_5, zc_165_0, zc_165_1, zc_165_2, zc_161_s, zc_162_s, zc_160, zc_166, zc_167, zc_168, zc_158, zc_159, zc_170, zc_169, zc_183, zc_184, zc_177, zc_178, zc_179, zc_180, zc_185, zc_186, zc_181, zc_182, zc_187, zc_188, zc_189, zc_190, zc_204, zc_205, zc_210, zc_214, zc_215, zc_216, zc_217, zc_219, zc_206, zFa, zFw, xF_s, xFs_s, xR_F, xgM_9, zc_193, zc_192, zc_191, zc_193x, zc_194, zc_198, zc_195, zc_196, z10, zS, xR_M, xF_M, xJ_M, xRs_M, xFs_M, xJs_M, zJa, zJw, xgM_11, zu1, zc_197, zc_199, zc_200, zc_176, zc_201, h1, h2, xgM_10H, xsM_10H, xH_M, xH_s, xHs_M, xHs_s, zc_187, toJ, zm1, yb_202_125, sp_put_h, zun]
    | some q =>
      have h3 := sp_first_lt h2
      have h4 := toJ_ne (q := q) (by omega)
      by_cases h5 : r (178 + 3 * q) = r (57 + 6 * k)
      · simp (disch := first | omega | assumption | (rw [xR_M]; first | omega | assumption)) only [↓zbE, zbd_some, ↓xk_I, ↓xk_v, xgM_5, xiM, zRa, zRw, xR_s, xRs_s, zB_0, zB_1, zB_b01, ite_not, ↓reduceIte, nI_ge, zRa_0, zRa_1, zRa_2, zRa_3, zRa_4, zRa_5, zRw_0, zRw_1, zRw_2, zRw_3, zRw_4, zRw_5, zxV_0, zxV_1, zxV_2, zxK_0, zxK_1, zxK_2, zxK_3, zxK_4, zxK_5, zxQ_0, zxQ_1, zxQ_2, zxV_s, zxO, zxF, zc_161_0, zc_161_1, zc_161_2, zc_162_0, zc_162_1, zc_162_2, zc_163_0, zc_163_1, zc_163_2, zc_163_3, zc_163_4, zc_163_5, zc_164_0, zc_164_1, zc_164_2, zc_164_3, zc_164_4, zc_164_5, zc_165_0, zc_165_1, zc_165_2, zc_161_s, zc_162_s, zc_160, zc_166, zc_167, zc_168, zc_158, zc_159, zc_170, zc_169, zc_183, zc_184, zc_177, zc_178, zc_179, zc_180, zc_185, zc_186, zc_181, zc_182, zc_187, zc_188, zc_189, zc_190, zc_204, zc_205, zc_210, zc_214, zc_215, zc_216, zc_217, zc_219, zc_206, zFa, zFw, xF_s, xFs_s, xR_F, xgM_9, zc_193, zc_192, zc_191, zc_193x, zc_194, zc_198, zc_195, zc_196, z10, zS, xR_M, xF_M, xJ_M, xRs_M, xFs_M, xJs_M, zJa, zJw, xgM_11, zu1, zc_197, zc_199, zc_200, zc_176, zc_201, h1, h2, h4, eq_true h5, xgM_10H, xsM_10H, xH_M, xH_s, xHs_M, xHs_s, zc_187, toJ, zm1, yb_202_125, sp_put_h, zun]
        rfl
      · simp (disch := first | omega | assumption | (rw [xR_M]; first | omega | assumption)) only [↓zbE, zbd_some, ↓xk_I, ↓xk_v, xgM_5, xiM, zRa, zRw, xR_s, xRs_s, zB_0, zB_1, zB_b01, ite_not, ↓reduceIte, nI_ge, zRa_0, zRa_1, zRa_2, zRa_3, zRa_4, zRa_5, zRw_0, zRw_1, zRw_2, zRw_3, zRw_4, zRw_5, zxV_0, zxV_1, zxV_2, zxK_0, zxK_1, zxK_2, zxK_3, zxK_4, zxK_5, zxQ_0, zxQ_1, zxQ_2, zxV_s, zxO, zxF, zc_161_0, zc_161_1, zc_161_2, zc_162_0, zc_162_1, zc_162_2, zc_163_0, zc_163_1, zc_163_2, zc_163_3, zc_163_4, zc_163_5, zc_164_0, zc_164_1, zc_164_2, zc_164_3, zc_164_4, zc_164_5, zc_165_0, zc_165_1, zc_165_2, zc_161_s, zc_162_s, zc_160, zc_166, zc_167, zc_168, zc_158, zc_159, zc_170, zc_169, zc_183, zc_184, zc_177, zc_178, zc_179, zc_180, zc_185, zc_186, zc_181, zc_182, zc_187, zc_188, zc_189, zc_190, zc_204, zc_205, zc_210, zc_214, zc_215, zc_216, zc_217, zc_219, zc_206, zFa, zFw, xF_s, xFs_s, xR_F, xgM_9, zc_193, zc_192, zc_191, zc_193x, zc_194, zc_198, zc_195, zc_196, z10, zS, xR_M, xF_M, xJ_M, xRs_M, xFs_M, xJs_M, zJa, zJw, xgM_11, zu1, zc_197, zc_199, zc_200, zc_176, zc_201, h1, h2, h4, h5, xgM_10H, xsM_10H, xH_M, xH_s, xHs_M, xHs_s, zc_187, toJ, zm1, yb_202_125, sp_put_h, zun]
theorem zc_202 {r f j : Nat → Int32} {k : Nat} {h : Int32} (hW : xWF r) (hk : k < xnk r) : xm_C sc xt_M (d + 4) 202 [.ref 191, .int (nI k)] (xem (xMw (xHs w h) r f j) l t) = some (.inl none, xem (xMw (xHs w (sp_settle k (r, h)).2) (sp_settle k (r, h)).1 f j) l t) := by
  have hB := hW.bd
  have hk20 := hB.k20
  have hq40 := hB.q40
  have hv4 := hB.v4
  have hb6 := hB.b6
  rw [yc_202]
  unfold sp_settle
  have hs := (sp_set1_ok hW hk).1
  have hk2 : k < xnk (sp_set1 k r) := by
    unfold xnk
    rw [(sp_set1_ok hW hk).2 2 (by omega)]
    exact hk
  by_cases h1 : r (56 + 6 * k) = 0
  · rw [if_pos h1]
    unfold sp_set1 at *
    by_cases h2 : r (57 + 6 * k) = r (58 + 6 * k)
    · rw [if_pos h2] at *
      simp (disch := first | omega | assumption | (rw [xR_M]; first | omega | assumption)) only [↓zbE, zbd_some, ↓xk_I, ↓xk_v, xgM_5, xiM, zRa, zRw, xR_s, xRs_s, zB_0, zB_1, zB_b01, ite_not, ↓reduceIte, nI_ge, zRa_0, zRa_1, zRa_2, zRa_3, zRa_4, zRa_5, zRw_0, zRw_1, zRw_2, zRw_3, zRw_4, zRw_5, zxV_0, zxV_1, zxV_2, zxK_0, zxK_1, zxK_2, zxK_3, zxK_4, zxK_5, zxQ_0, zxQ_1, zxQ_2, zxV_s, zxO, zxF, zc_161_0, zc_161_1, zc_161_2, zc_162_0, zc_162_1, zc_162_2, zc_163_0, zc_163_1, zc_163_2, zc_163_3, zc_163_4, zc_163_5, zc_164_0, zc_164_1, zc_164_2, zc_164_3, zc_164_4, zc_164_5, zc_165_0, zc_165_1, zc_165_2, zc_161_s, zc_162_s, zc_160, zc_166, zc_167, zc_168, zc_158, zc_159, zc_170, zc_169, zc_183, zc_184, zc_177, zc_178, zc_179, zc_180, zc_185, zc_186, zc_181, zc_182, zc_187, zc_188, zc_189, zc_190, zc_204, zc_205, zc_210, zc_214, zc_215, zc_216, zc_217, zc_219, zc_206, zFa, zFw, xF_s, xFs_s, xR_F, xgM_9, zc_193, zc_192, zc_191, zc_193x, zc_194, zc_198, zc_195, zc_196, z10, zS, xR_M, xF_M, xJ_M, xRs_M, xFs_M, xJs_M, zJa, zJw, xgM_11, zu1, zc_197, zc_199, zc_200, zc_176, zc_201, h1, eq_true h2, z202]
    · rw [if_neg h2] at *
      simp (disch := first | omega | assumption | (rw [xR_M]; first | omega | assumption)) only [↓zbE, zbd_some, ↓xk_I, ↓xk_v, xgM_5, xiM, zRa, zRw, xR_s, xRs_s, zB_0, zB_1, zB_b01, ite_not, ↓reduceIte, nI_ge, zRa_0, zRa_1, zRa_2, zRa_3, zRa_4, zRa_5, zRw_0, zRw_1, zRw_2, zRw_3, zRw_4, zRw_5, zxV_0, zxV_1, zxV_2, zxK_0, zxK_1, zxK_2, zxK_3, zxK_4, zxK_5, zxQ_0, zxQ_1, zxQ_2, zxV_s, zxO, zxF, zc_161_0, zc_161_1, zc_161_2, zc_162_0, zc_162_1, zc_162_2, zc_163_0, zc_163_1, zc_163_2, zc_163_3, zc_163_4, zc_163_5, zc_164_0, zc_164_1, zc_164_2, zc_164_3, zc_164_4, zc_164_5, zc_165_0, zc_165_1, zc_165_2, zc_161_s, zc_162_s, zc_160, zc_166, zc_167, zc_168, zc_158, zc_159, zc_170, zc_169, zc_183, zc_184, zc_177, zc_178, zc_179, zc_180, zc_185, zc_186, zc_181, zc_182, zc_187, zc_188, zc_189, zc_190, zc_204, zc_205, zc_210, zc_214, zc_215, zc_216, zc_217, zc_219, zc_206, zFa, zFw, xF_s, xFs_s, xR_F, xgM_9, zc_193, zc_192, zc_191, zc_193x, zc_194, zc_198, zc_195, zc_196, z10, zS, xR_M, xF_M, xJ_M, xRs_M, xFs_M, xJs_M, zJa, zJw, xgM_11, zu1, zc_197, zc_199, zc_200, zc_176, zc_201, h1, h2, z202]
  · rw [if_neg h1]
    simp (disch := first | omega | assumption | (rw [xR_M]; first | omega | assumption)) only [↓zbE, zbd_some, ↓xk_I, ↓xk_v, xgM_5, xiM, zRa, zRw, xR_s, xRs_s, zB_0, zB_1, zB_b01, ite_not, ↓reduceIte, nI_ge, zRa_0, zRa_1, zRa_2, zRa_3, zRa_4, zRa_5, zRw_0, zRw_1, zRw_2, zRw_3, zRw_4, zRw_5, zxV_0, zxV_1, zxV_2, zxK_0, zxK_1, zxK_2, zxK_3, zxK_4, zxK_5, zxQ_0, zxQ_1, zxQ_2, zxV_s, zxO, zxF, zc_161_0, zc_161_1, zc_161_2, zc_162_0, zc_162_1, zc_162_2, zc_163_0, zc_163_1, zc_163_2, zc_163_3, zc_163_4, zc_163_5, zc_164_0, zc_164_1, zc_164_2, zc_164_3, zc_164_4, zc_164_5, zc_165_0, zc_165_1, zc_165_2, zc_161_s, zc_162_s, zc_160, zc_166, zc_167, zc_168, zc_158, zc_159, zc_170, zc_169, zc_183, zc_184, zc_177, zc_178, zc_179, zc_180, zc_185, zc_186, zc_181, zc_182, zc_187, zc_188, zc_189, zc_190, zc_204, zc_205, zc_210, zc_214, zc_215, zc_216, zc_217, zc_219, zc_206, zFa, zFw, xF_s, xFs_s, xR_F, xgM_9, zc_193, zc_192, zc_191, zc_193x, zc_194, zc_198, zc_195, zc_196, z10, zS, xR_M, xF_M, xJ_M, xRs_M, xFs_M, xJs_M, zJa, zJw, xgM_11, zu1, zc_197, zc_199, zc_200, zc_176, zc_201, h1]
end RU
