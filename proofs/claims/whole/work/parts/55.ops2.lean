/-! THE REFERENCE: operations (3) -/
theorem xRs_self {w : xW} : xRs w (xR w) = w := by rw [xRs_eq, xMw_self]
theorem xBd_hd {r r' : Nat → Int32} (e : ∀ i, i < 4 → r' i = r i) (h : xBd r) : xBd r' := by
  have e0 : xnb r' = xnb r := by unfold xnb; rw [e 0 (by omega)]
  have e1 : xnv r' = xnv r := by unfold xnv; rw [e 1 (by omega)]
  have e2 : xnk r' = xnk r := by unfold xnk; rw [e 2 (by omega)]
  have e3 : xnq r' = xnq r := by unfold xnq; rw [e 3 (by omega)]
  unfold xBd
  rw [e0, e1, e2, e3, e 0 (by omega), e 1 (by omega), e 2 (by omega), e 3 (by omega)]
  exact h
theorem xWF_low {r r' : Nat → Int32} (h : xWF r) (e : ∀ i, i ≠ 5 → (i < 6 ∨ 12 ≤ i) → r' i = r i) (h5 : xil (r' 5) 51) (ho : xWo r') : xWF r' := by
  have hv4 := h.bd.v4
  have hk20 := h.bd.k20
  have e0 : xnb r' = xnb r := by unfold xnb; rw [e 0 (by omega) (by omega)]
  have e1 : xnv r' = xnv r := by unfold xnv; rw [e 1 (by omega) (by omega)]
  have e2 : xnk r' = xnk r := by unfold xnk; rw [e 2 (by omega) (by omega)]
  have e3 : xnq r' = xnq r := by unfold xnq; rw [e 3 (by omega) (by omega)]
  refine ⟨xBd_hd (fun i hi => e i (by omega) (by omega)) h.bd, ?_, ho, ?_, ?_, ?_⟩
  · unfold xWn
    rw [e0, e1, e 4 (by omega) (by omega)]
    exact ⟨h.n.1, h.n.2.1, h.n.2.2.1, h5⟩
  · intro v hv
    rw [e1] at hv
    obtain ⟨a1, a2, a3, a4, a5⟩ := h.v v hv
    unfold xst at *
    rw [e (12 + 11 * v) (by omega) (by omega), e (13 + 11 * v) (by omega) (by omega), e (14 + 11 * v) (by omega) (by omega), e0]
    refine ⟨a1, a2, a3, a4, fun s hs => ?_⟩
    rw [e (15 + 11 * v + s) (by omega) (by omega)]
    exact a5 s hs
  · intro k hk
    rw [e2] at hk
    have c := h.k k hk
    rw [e0, e1, e3, e (56 + 6 * k) (by omega) (by omega), e (57 + 6 * k) (by omega) (by omega), e (58 + 6 * k) (by omega) (by omega), e (59 + 6 * k) (by omega) (by omega), e (60 + 6 * k) (by omega) (by omega)]
    refine ⟨c.1, c.2.1, c.2.2.1, c.2.2.2.1, c.2.2.2.2.1, c.2.2.2.2.2.1, fun z => ?_, c.2.2.2.2.2.2.2⟩
    obtain ⟨q, q1, q2, q3⟩ := c.2.2.2.2.2.2.1 z
    refine ⟨q, q1, ?_, ?_⟩
    · rw [e (176 + 3 * q) (by omega) (by omega)]; exact q2
    · rw [e (177 + 3 * q) (by omega) (by omega)]; exact q3
  · unfold xWq
    rw [e3, e2, e0]
    refine ⟨fun q hq => ?_, fun p q hp hq => ?_⟩
    · rw [e (176 + 3 * q) (by omega) (by omega), e (177 + 3 * q) (by omega) (by omega), e (178 + 3 * q) (by omega) (by omega)]
      exact h.q.1 q hq
    · rw [e (176 + 3 * q) (by omega) (by omega), e (177 + 3 * q) (by omega) (by omega), e (176 + 3 * p) (by omega) (by omega), e (177 + 3 * p) (by omega) (by omega)]
      exact h.q.2 p q hp hq
theorem xWF_open {r : Nat → Int32} {b : Nat} {x : Int32} (h : xWF r) (hb : b < 6) (hx : x = 0 ∨ x = 1) : xWF (upd r (6 + b) x) := by
  refine xWF_low h (fun i h5 hi => zun (by omega)) (by rw [zun (by omega)]; exact h.n.2.2.2) (fun c hc => ?_)
  by_cases e : c = b
  · subst e
    rw [zu1]
    exact hx
  · rw [zun (by omega)]
    exact h.o c hc
def sp_lose1 (v : Int32) (k : Nat) (u : (Nat → Int32) × Int32) : (Nat → Int32) × Int32 := if sp_isIn u.1 1 k v then (sp_put u.1 k 4 (-1), u.2 + 1) else u
def sp_loseU (r : Nat → Int32) (v : Int32) (n : Nat) : (Nat → Int32) × Int32 := xfold (fun k u => sp_lose1 v k u) (r, 0) n
theorem sp_loseU_ok {r : Nat → Int32} {v : Int32} (hW : xWF r) : ∀ n, n ≤ xnk r → xWF (sp_loseU r v n).1 ∧ xhd r (sp_loseU r v n).1 := by
  have hk20 := hW.bd.k20
  intro n
  induction n with
  | zero => intro _; exact ⟨hW, fun _ _ => rfl⟩
  | succ n ih =>
    intro hn
    obtain ⟨h1, h2⟩ := ih (by omega)
    show xWF (sp_lose1 v n (sp_loseU r v n)).1 ∧ xhd r (sp_lose1 v n (sp_loseU r v n)).1
    unfold sp_lose1
    split
    · exact ⟨xWF_put h1 (by rw [h2.k]; omega) (Or.inr (Or.inr ⟨rfl, rfl⟩)), xhd_put (by omega) h2⟩
    · exact ⟨h1, h2⟩
def sp_close1 (b : Int32) (k : Nat) (r : Nat → Int32) : Nat → Int32 := if r (56 + 6 * k) = 2 ∧ r (57 + 6 * k) = b then sp_put r k 0 b else r
def sp_closeU (r : Nat → Int32) (b : Int32) (n : Nat) : Nat → Int32 := xfold (fun k u => sp_close1 b k u) (upd r (6 + b.toNatClampNeg) 0) n
theorem sp_closeU_ok {r : Nat → Int32} {b : Nat} (hW : xWF r) (hb : b < xnb r) : ∀ n, n ≤ xnk r → xWF (sp_closeU r (nI b) n) ∧ xhd (upd r (6 + b) 0) (sp_closeU r (nI b) n) := by
  have hk20 := hW.bd.k20
  have hb6 := hW.bd.b6
  have e : ∀ i, i < 6 → upd r (6 + b) 0 i = r i := fun i hi => zun (by omega)
  have eb : xnb (upd r (6 + b) 0) = xnb r := by unfold xnb; rw [e 0 (by omega)]
  have ek : xnk (upd r (6 + b) 0) = xnk r := by unfold xnk; rw [e 2 (by omega)]
  intro n
  induction n with
  | zero =>
    intro _
    show xWF (upd r (6 + (nI b).toNatClampNeg) 0) ∧ xhd (upd r (6 + b) 0) (upd r (6 + (nI b).toNatClampNeg) 0)
    rw [nI_clamp (by omega)]
    exact ⟨xWF_open hW (by omega) (Or.inl rfl), fun _ _ => rfl⟩
  | succ n ih =>
    intro hn
    obtain ⟨h1, h2⟩ := ih (by omega)
    show xWF (sp_close1 (nI b) n (sp_closeU r (nI b) n)) ∧ xhd (upd r (6 + b) 0) (sp_close1 (nI b) n (sp_closeU r (nI b) n))
    unfold sp_close1
    split
    · exact ⟨xWF_put h1 (by rw [h2.k]; omega) (Or.inl ⟨rfl, by rw [h2.b, eb]; exact xil_nI hb (by omega)⟩), xhd_put (by omega) h2⟩
    · exact ⟨h1, h2⟩
def sp_lose (r : Nat → Int32) (a : Int32) : Int32 × Int32 × Option (Nat → Int32) := if sp_vn r a then (0, (sp_loseU r a (xnk r)).2, some (sp_loseU r a (xnk r)).1) else (1, 0, none)
def sp_close (r : Nat → Int32) (a : Int32) : Int32 × Int32 × Option (Nat → Int32) := if sp_br r a then (if xop r a then (0, sp_booksIn (sp_closeU r a (xnk r)) 0 a, some (sp_closeU r a (xnk r))) else (0, -2, none)) else (1, 0, none)
abbrev sp_opc (r : Nat → Int32) (a : Int32) (k : Nat) : Prop := sp_isIn r 0 k a ∧ sp_goal r k = a
def sp_openC (r : Nat → Int32) (a : Int32) (n : Nat) : Int32 := xsum (fun k => zB (sp_opc r a k)) n
def sp_open (r : Nat → Int32) (a : Int32) : Int32 × Int32 × Option (Nat → Int32) := if sp_br r a then (if xop r a then (0, -2, none) else (0, sp_openC (upd r (6 + a.toNatClampNeg) 1) a (xnk r), some (upd r (6 + a.toNatClampNeg) 1))) else (1, 0, none)
def sp_run (u : xU) (x : Int32) : Int32 × Int32 × Option (Nat → Int32) := if 1 ≤ x ∧ x ≤ 99 then (if u.1 4 + x ≤ 9999 then (0, (sp_us (u.1, u.2.1, u.2.2.1, 0) x.toNatClampNeg).2.2.2, some (sp_us (u.1, u.2.1, u.2.2.1, 0) x.toNatClampNeg).1) else (0, -2, none)) else (1, 0, none)
section SM
variable {w : xW} {l : Nat → Nat → Int64} {t : Nat} {sc : xm_Sc} {d : Nat}
theorem xOps_Mu {w1 : xW} {n : Nat} {u : xU} (kr : xKr (xT w 0) w1) (hh : xHist (xT w 0) w1 n) (h0 : xri (w 3) = 0) : xOps w (xMu w1 u) u.1 n := by
  have hri : xri (w1 3) = 0 := by rw [kr.ri, xri_T]; exact h0
  refine ⟨fun g hg => ?_, fun i h1 h2 h4 => ?_, fun a a0 a2 a4 a5 a6 => ?_, fun i _ => ?_, ?_, ?_⟩
  · rw [xMu_ne hg, kr.1 g hg]
    unfold xT
    exact xu_ne hg
  · rw [xMu_1 h4, kr.2.1 i h1, xT_1 h2]
  · rw [xMu_2 a6 a5 (by omega), kr.2.2 a a4]
    unfold xT
    rw [xu_same]
    rfl
  · have := @xR_u w1 u
    unfold xR at this
    have e : xri (xMu w1 u 3) = 0 := by
      unfold xri
      rw [xMu_1 (by omega)]
      exact hri
    rw [e] at this
    rw [this]
  · rw [xMu_1 (by omega), kr.2.1 2 (by omega), xT_2]
  · have h := xHist_T hh
    unfold xHist at *
    rw [xMu_1 (by omega), xMu_2 (by omega) (by omega) (by omega)]
    exact h
theorem zc_246 {a : Int32} {n : Nat} (h0 : xri (w 3) = 0) (hW : xWF (xR w)) (hn : n ≤ 10) (hc : (w 3).1 1 = nI n) : xOpA (xm_C sc xt_M (d + 5) 246 [.ref 191, .int a] (xem w l t)) w l t n (sp_lose (xR w) a) := by
  have hB := hW.bd
  have hk20 := hB.k20
  have hq40 := hB.q40
  have hv4 := hB.v4
  have hb6 := hB.b6
  have hW2 : xWF (xR (xT w 0)) := by rw [xR_T]; exact hW
  have hB2 : xBd (xR (xT w 0)) := by rw [xR_T]; exact hW.bd
  obtain ⟨w1, e1, kr, hh⟩ : ∃ w1, xm_C sc xt_M (d + 4) 259 [.ref 191] (xem (xT w 0) l t) = some (.inl none, xem w1 l t) ∧ xKr (xT w 0) w1 ∧ xHist (xT w 0) w1 n := zc_259 hn (by rw [xT_1 (by omega)]; exact hc)
  have hR : xR w1 = xR w := kr.R.trans xR_T
  have hB1 : xBd (xR w1) := by rw [hR]; exact hB
  have hW1 : xWF (xR w1) := by rw [hR]; exact hW
  unfold sp_lose
  rw [yc_246]
  by_cases ha : sp_vn (xR w) a
  · rw [if_pos ha]
    have ha' := ha
    rw [sp_vn, hB.v] at ha'
    obtain ⟨v, hv, rfl⟩ := zrg (by omega) ha'
    refine xOpA_s kr hh h0 ?_
    have e := xlp (fun k => xm_R sc xt_M (d + 4) 246 22 [.ref 191, .int (nI v), .int (sp_loseU (xR w) (nI v) k).2, .int (nI k)] [] (xem (xRs w1 (sp_loseU (xR w) (nI v) k).1) l t)) (K := some (.inl (some (.int (sp_loseU (xR w) (nI v) (xnk (xR w))).2)), xem (xRs w1 (sp_loseU (xR w) (nI v) (xnk (xR w))).1) l t)) (xnk (xR w)) (by
      intro k hk
      obtain ⟨g1, g2⟩ := @sp_loseU_ok (xR w) (nI v) hW k (by omega)
      have e2 := g2 2 (by omega)
      rw [show sp_loseU (xR w) (nI v) (k + 1) = sp_lose1 (nI v) k (sp_loseU (xR w) (nI v) k) from rfl]
      generalize sp_loseU (xR w) (nI v) k = u at *
      rw [yb_246_22]
      unfold sp_lose1
      by_cases h : sp_isIn u.1 1 k (nI v)
      · rw [if_pos h]
        simp (disch := first | omega | assumption | (rw [xR_s]; first | omega | assumption) | (rw [xR_T]; first | omega | assumption)) only [↓zbE, zbd_some, ↓xk_I, ↓xk_v, xgM_5, xiM, zRa, zRw, xR_s, xRs_s, zB_0, zB_1, zB_b01, ite_not, ↓reduceIte, nI_ge, zRa_0, zRa_1, zRa_2, zRa_3, zRa_4, zRa_5, zRw_0, zRw_1, zRw_2, zRw_3, zRw_4, zRw_5, zxV_0, zxV_1, zxV_2, zxK_0, zxK_1, zxK_2, zxK_3, zxK_4, zxK_5, zxQ_0, zxQ_1, zxQ_2, zxV_s, zxO, zxF, zc_161_0, zc_161_1, zc_161_2, zc_162_0, zc_162_1, zc_162_2, zc_163_0, zc_163_1, zc_163_2, zc_163_3, zc_163_4, zc_163_5, zc_164_0, zc_164_1, zc_164_2, zc_164_3, zc_164_4, zc_164_5, zc_165_0, zc_165_1, zc_165_2, zc_161_s, zc_162_s, zc_160, zc_166, zc_167, zc_168, zc_158, zc_159, zc_169, zc_183, zc_184, zc_177, zc_178, zc_179, zc_180, zc_185, zc_186, zc_181, zc_182, zc_187, zc_188, zc_189, zc_190, zc_204, zc_205, zc_210, zc_214, zc_215, zc_216, zc_217, zc_219, zc_206, zc_170_0, zc_170_1, xT_T, xR_T, xsM_7T, z10, zc_211, zc_218, zc_212, zc_220, zc_221, zc_222, zc_234, zFa, zFw, xF_s, xFs_s, xR_F, xF_T, xgM_9, zc_193, zc_192, zc_191, zc_225, zc_229, zc_226, zc_227, zc_235, zc_260, zc_265, zc_213, zS, xgM_6c, xsM_6c, xgM_7T, xT_2, zc_175, zc_176r, eq_true h, z00, z20, toJ, zm1, yb_246_51, hB.k, e2]
      · rw [if_neg h]
        simp (disch := first | omega | assumption | (rw [xR_s]; first | omega | assumption) | (rw [xR_T]; first | omega | assumption)) only [↓zbE, zbd_some, ↓xk_I, ↓xk_v, xgM_5, xiM, zRa, zRw, xR_s, xRs_s, zB_0, zB_1, zB_b01, ite_not, ↓reduceIte, nI_ge, zRa_0, zRa_1, zRa_2, zRa_3, zRa_4, zRa_5, zRw_0, zRw_1, zRw_2, zRw_3, zRw_4, zRw_5, zxV_0, zxV_1, zxV_2, zxK_0, zxK_1, zxK_2, zxK_3, zxK_4, zxK_5, zxQ_0, zxQ_1, zxQ_2, zxV_s, zxO, zxF, zc_161_0, zc_161_1, zc_161_2, zc_162_0, zc_162_1, zc_162_2, zc_163_0, zc_163_1, zc_163_2, zc_163_3, zc_163_4, zc_163_5, zc_164_0, zc_164_1, zc_164_2, zc_164_3, zc_164_4, zc_164_5, zc_165_0, zc_165_1, zc_165_2, zc_161_s, zc_162_s, zc_160, zc_166, zc_167, zc_168, zc_158, zc_159, zc_169, zc_183, zc_184, zc_177, zc_178, zc_179, zc_180, zc_185, zc_186, zc_181, zc_182, zc_187, zc_188, zc_189, zc_190, zc_204, zc_205, zc_210, zc_214, zc_215, zc_216, zc_217, zc_219, zc_206, zc_170_0, zc_170_1, xT_T, xR_T, xsM_7T, z10, zc_211, zc_218, zc_212, zc_220, zc_221, zc_222, zc_234, zFa, zFw, xF_s, xFs_s, xR_F, xF_T, xgM_9, zc_193, zc_192, zc_191, zc_225, zc_229, zc_226, zc_227, zc_235, zc_260, zc_265, zc_213, zS, xgM_6c, xsM_6c, xgM_7T, xT_2, zc_175, zc_176r, eq_false h, z00, z20, toJ, zm1, yb_246_51, hB.k, e2]) (by
      obtain ⟨g1, g2⟩ := @sp_loseU_ok (xR w) (nI v) hW (xnk (xR w)) (by omega)
      have e2 := g2 2 (by omega)
      generalize sp_loseU (xR w) (nI v) (xnk (xR w)) = u at *
      rw [yb_246_22]
      simp (disch := first | omega | assumption | (rw [xR_s]; first | omega | assumption) | (rw [xR_T]; first | omega | assumption)) only [↓zbE, zbd_some, ↓xk_I, ↓xk_v, xgM_5, xiM, zRa, zRw, xR_s, xRs_s, zB_0, zB_1, zB_b01, ite_not, ↓reduceIte, nI_ge, zRa_0, zRa_1, zRa_2, zRa_3, zRa_4, zRa_5, zRw_0, zRw_1, zRw_2, zRw_3, zRw_4, zRw_5, zxV_0, zxV_1, zxV_2, zxK_0, zxK_1, zxK_2, zxK_3, zxK_4, zxK_5, zxQ_0, zxQ_1, zxQ_2, zxV_s, zxO, zxF, zc_161_0, zc_161_1, zc_161_2, zc_162_0, zc_162_1, zc_162_2, zc_163_0, zc_163_1, zc_163_2, zc_163_3, zc_163_4, zc_163_5, zc_164_0, zc_164_1, zc_164_2, zc_164_3, zc_164_4, zc_164_5, zc_165_0, zc_165_1, zc_165_2, zc_161_s, zc_162_s, zc_160, zc_166, zc_167, zc_168, zc_158, zc_159, zc_169, zc_183, zc_184, zc_177, zc_178, zc_179, zc_180, zc_185, zc_186, zc_181, zc_182, zc_187, zc_188, zc_189, zc_190, zc_204, zc_205, zc_210, zc_214, zc_215, zc_216, zc_217, zc_219, zc_206, zc_170_0, zc_170_1, xT_T, xR_T, xsM_7T, z10, zc_211, zc_218, zc_212, zc_220, zc_221, zc_222, zc_234, zFa, zFw, xF_s, xFs_s, xR_F, xF_T, xgM_9, zc_193, zc_192, zc_191, zc_225, zc_229, zc_226, zc_227, zc_235, zc_260, zc_265, zc_213, zS, xgM_6c, xsM_6c, xgM_7T, xT_2, zc_175, zc_176r, nI_le, z00, z20, toJ, zm1, yb_246_51, hB.k, e2])
    refine Eq.trans ?_ e
    show _ = xm_R sc xt_M (d + 4) 246 22 [.ref 191, .int (nI v), .int 0, .int 0] [] (xem (xRs w1 (xR w)) l t)
    rw [← hR, xRs_self]
    simp (disch := first | omega | assumption | (rw [xR_s]; first | omega | assumption) | (rw [xR_T]; first | omega | assumption)) only [↓zbE, zbd_some, ↓xk_I, ↓xk_v, xgM_5, xiM, zRa, zRw, xR_s, xRs_s, zB_0, zB_1, zB_b01, ite_not, ↓reduceIte, nI_ge, zRa_0, zRa_1, zRa_2, zRa_3, zRa_4, zRa_5, zRw_0, zRw_1, zRw_2, zRw_3, zRw_4, zRw_5, zxV_0, zxV_1, zxV_2, zxK_0, zxK_1, zxK_2, zxK_3, zxK_4, zxK_5, zxQ_0, zxQ_1, zxQ_2, zxV_s, zxO, zxF, zc_161_0, zc_161_1, zc_161_2, zc_162_0, zc_162_1, zc_162_2, zc_163_0, zc_163_1, zc_163_2, zc_163_3, zc_163_4, zc_163_5, zc_164_0, zc_164_1, zc_164_2, zc_164_3, zc_164_4, zc_164_5, zc_165_0, zc_165_1, zc_165_2, zc_161_s, zc_162_s, zc_160, zc_166, zc_167, zc_168, zc_158, zc_159, zc_169, zc_183, zc_184, zc_177, zc_178, zc_179, zc_180, zc_185, zc_186, zc_181, zc_182, zc_187, zc_188, zc_189, zc_190, zc_204, zc_205, zc_210, zc_214, zc_215, zc_216, zc_217, zc_219, zc_206, zc_170_0, zc_170_1, xT_T, xR_T, xsM_7T, z10, zc_211, zc_218, zc_212, zc_220, zc_221, zc_222, zc_234, zFa, zFw, xF_s, xFs_s, xR_F, xF_T, xgM_9, zc_193, zc_192, zc_191, zc_225, zc_229, zc_226, zc_227, zc_235, zc_260, zc_265, zc_213, zS, xgM_6c, xsM_6c, xgM_7T, xT_2, zc_175, zc_176r, zB_tt (c := 0 ≤ nI v ∧ nI v ≤ xR w 1 - 1) ha, z00, z20, toJ, zm1, e1, yb_246_51, hB.k]
  · rw [if_neg ha]
    refine xAns_e ?_
    simp (disch := first | omega | assumption | (rw [xR_s]; first | omega | assumption) | (rw [xR_T]; first | omega | assumption)) only [↓zbE, zbd_some, ↓xk_I, ↓xk_v, xgM_5, xiM, zRa, zRw, xR_s, xRs_s, zB_0, zB_1, zB_b01, ite_not, ↓reduceIte, nI_ge, zRa_0, zRa_1, zRa_2, zRa_3, zRa_4, zRa_5, zRw_0, zRw_1, zRw_2, zRw_3, zRw_4, zRw_5, zxV_0, zxV_1, zxV_2, zxK_0, zxK_1, zxK_2, zxK_3, zxK_4, zxK_5, zxQ_0, zxQ_1, zxQ_2, zxV_s, zxO, zxF, zc_161_0, zc_161_1, zc_161_2, zc_162_0, zc_162_1, zc_162_2, zc_163_0, zc_163_1, zc_163_2, zc_163_3, zc_163_4, zc_163_5, zc_164_0, zc_164_1, zc_164_2, zc_164_3, zc_164_4, zc_164_5, zc_165_0, zc_165_1, zc_165_2, zc_161_s, zc_162_s, zc_160, zc_166, zc_167, zc_168, zc_158, zc_159, zc_169, zc_183, zc_184, zc_177, zc_178, zc_179, zc_180, zc_185, zc_186, zc_181, zc_182, zc_187, zc_188, zc_189, zc_190, zc_204, zc_205, zc_210, zc_214, zc_215, zc_216, zc_217, zc_219, zc_206, zc_170_0, zc_170_1, xT_T, xR_T, xsM_7T, z10, zc_211, zc_218, zc_212, zc_220, zc_221, zc_222, zc_234, zFa, zFw, xF_s, xFs_s, xR_F, xF_T, xgM_9, zc_193, zc_192, zc_191, zc_225, zc_229, zc_226, zc_227, zc_235, zc_260, zc_265, zc_213, zS, xgM_6c, xsM_6c, xgM_7T, xT_2, zc_175, zc_176r, zB_ff (c := 0 ≤ a ∧ a ≤ xR w 1 - 1) ha, z00, z20, toJ, zm1, e1, hR, yb_246_51, hB.k]
theorem zc_248 {a : Int32} {n : Nat} (h0 : xri (w 3) = 0) (hW : xWF (xR w)) (hn : n ≤ 10) (hc : (w 3).1 1 = nI n) : xOpA (xm_C sc xt_M (d + 5) 248 [.ref 191, .int a] (xem w l t)) w l t n (sp_close (xR w) a) := by
  have hB := hW.bd
  have hk20 := hB.k20
  have hq40 := hB.q40
  have hv4 := hB.v4
  have hb6 := hB.b6
  have hW2 : xWF (xR (xT w 0)) := by rw [xR_T]; exact hW
  have hB2 : xBd (xR (xT w 0)) := by rw [xR_T]; exact hW.bd
  obtain ⟨w1, e1, kr, hh⟩ : ∃ w1, xm_C sc xt_M (d + 4) 259 [.ref 191] (xem (xT w 0) l t) = some (.inl none, xem w1 l t) ∧ xKr (xT w 0) w1 ∧ xHist (xT w 0) w1 n := zc_259 hn (by rw [xT_1 (by omega)]; exact hc)
  have hR : xR w1 = xR w := kr.R.trans xR_T
  have hB1 : xBd (xR w1) := by rw [hR]; exact hB
  have hW1 : xWF (xR w1) := by rw [hR]; exact hW
  unfold sp_close
  rw [yc_248]
  by_cases ha : sp_br (xR w) a
  · rw [if_pos ha]
    have ha' := ha
    rw [sp_br, hB.b] at ha'
    obtain ⟨b, hb, rfl⟩ := zrg (by omega) ha'
    have hib : xib (nI b) := xil_nI (by omega) (by omega)
    by_cases ho : xop (xR w) (nI b)
    · rw [if_pos ho]
      refine xOpA_s kr hh h0 ?_
      have e := xlp (fun k => xm_R sc xt_M (d + 4) 248 41 [.ref 191, .int (nI b), .int (nI k)] [] (xem (xRs w1 (sp_closeU (xR w) (nI b) k)) l t)) (K := some (.inl (some (.int (sp_booksIn (sp_closeU (xR w) (nI b) (xnk (xR w))) 0 (nI b)))), xem (xRs w1 (sp_closeU (xR w) (nI b) (xnk (xR w)))) l t)) (xnk (xR w)) (by
        intro k hk
        obtain ⟨g1, g2⟩ := @sp_closeU_ok (xR w) b hW hb k (by omega)
        have e2 := (g2 2 (by omega)).trans (zun (by omega))
        rw [show sp_closeU (xR w) (nI b) (k + 1) = sp_close1 (nI b) k (sp_closeU (xR w) (nI b) k) from rfl]
        generalize sp_closeU (xR w) (nI b) k = u at *
        rw [yb_248_41]
        unfold sp_close1
        by_cases h : u (56 + 6 * k) = 2
        · by_cases h' : u (57 + 6 * k) = nI b
          · rw [if_pos (c := u (56 + 6 * k) = 2 ∧ u (57 + 6 * k) = nI b) ⟨h, h'⟩]
            simp (disch := first | omega | assumption | (rw [xR_s]; first | omega | assumption) | (rw [xR_T]; first | omega | assumption)) only [↓zbE, zbd_some, ↓xk_I, ↓xk_v, xgM_5, xiM, zRa, zRw, xR_s, xRs_s, zB_0, zB_1, zB_b01, ite_not, ↓reduceIte, nI_ge, zRa_0, zRa_1, zRa_2, zRa_3, zRa_4, zRa_5, zRw_0, zRw_1, zRw_2, zRw_3, zRw_4, zRw_5, zxV_0, zxV_1, zxV_2, zxK_0, zxK_1, zxK_2, zxK_3, zxK_4, zxK_5, zxQ_0, zxQ_1, zxQ_2, zxV_s, zxO, zxF, zc_161_0, zc_161_1, zc_161_2, zc_162_0, zc_162_1, zc_162_2, zc_163_0, zc_163_1, zc_163_2, zc_163_3, zc_163_4, zc_163_5, zc_164_0, zc_164_1, zc_164_2, zc_164_3, zc_164_4, zc_164_5, zc_165_0, zc_165_1, zc_165_2, zc_161_s, zc_162_s, zc_160, zc_166, zc_167, zc_168, zc_158, zc_159, zc_169, zc_183, zc_184, zc_177, zc_178, zc_179, zc_180, zc_185, zc_186, zc_181, zc_182, zc_187, zc_188, zc_189, zc_190, zc_204, zc_205, zc_210, zc_214, zc_215, zc_216, zc_217, zc_219, zc_206, zc_170_0, zc_170_1, xT_T, xR_T, xsM_7T, z10, zc_211, zc_218, zc_212, zc_220, zc_221, zc_222, zc_234, zFa, zFw, xF_s, xFs_s, xR_F, xF_T, xgM_9, zc_193, zc_192, zc_191, zc_225, zc_229, zc_226, zc_227, zc_235, zc_260, zc_265, zc_213, zS, xgM_6c, xsM_6c, xgM_7T, xT_2, zc_175, zc_176r, h, eq_true h', e2, z00, z20, toJ, zm1, yb_248_77, hB.k]
          · rw [if_neg (c := u (56 + 6 * k) = 2 ∧ u (57 + 6 * k) = nI b) (fun g => h' g.2)]
            simp (disch := first | omega | assumption | (rw [xR_s]; first | omega | assumption) | (rw [xR_T]; first | omega | assumption)) only [↓zbE, zbd_some, ↓xk_I, ↓xk_v, xgM_5, xiM, zRa, zRw, xR_s, xRs_s, zB_0, zB_1, zB_b01, ite_not, ↓reduceIte, nI_ge, zRa_0, zRa_1, zRa_2, zRa_3, zRa_4, zRa_5, zRw_0, zRw_1, zRw_2, zRw_3, zRw_4, zRw_5, zxV_0, zxV_1, zxV_2, zxK_0, zxK_1, zxK_2, zxK_3, zxK_4, zxK_5, zxQ_0, zxQ_1, zxQ_2, zxV_s, zxO, zxF, zc_161_0, zc_161_1, zc_161_2, zc_162_0, zc_162_1, zc_162_2, zc_163_0, zc_163_1, zc_163_2, zc_163_3, zc_163_4, zc_163_5, zc_164_0, zc_164_1, zc_164_2, zc_164_3, zc_164_4, zc_164_5, zc_165_0, zc_165_1, zc_165_2, zc_161_s, zc_162_s, zc_160, zc_166, zc_167, zc_168, zc_158, zc_159, zc_169, zc_183, zc_184, zc_177, zc_178, zc_179, zc_180, zc_185, zc_186, zc_181, zc_182, zc_187, zc_188, zc_189, zc_190, zc_204, zc_205, zc_210, zc_214, zc_215, zc_216, zc_217, zc_219, zc_206, zc_170_0, zc_170_1, xT_T, xR_T, xsM_7T, z10, zc_211, zc_218, zc_212, zc_220, zc_221, zc_222, zc_234, zFa, zFw, xF_s, xFs_s, xR_F, xF_T, xgM_9, zc_193, zc_192, zc_191, zc_225, zc_229, zc_226, zc_227, zc_235, zc_260, zc_265, zc_213, zS, xgM_6c, xsM_6c, xgM_7T, xT_2, zc_175, zc_176r, h, h', e2, z00, z20, toJ, zm1, yb_248_77, hB.k]
        · rw [if_neg (c := u (56 + 6 * k) = 2 ∧ u (57 + 6 * k) = nI b) (fun g => h g.1)]
          simp (disch := first | omega | assumption | (rw [xR_s]; first | omega | assumption) | (rw [xR_T]; first | omega | assumption)) only [↓zbE, zbd_some, ↓xk_I, ↓xk_v, xgM_5, xiM, zRa, zRw, xR_s, xRs_s, zB_0, zB_1, zB_b01, ite_not, ↓reduceIte, nI_ge, zRa_0, zRa_1, zRa_2, zRa_3, zRa_4, zRa_5, zRw_0, zRw_1, zRw_2, zRw_3, zRw_4, zRw_5, zxV_0, zxV_1, zxV_2, zxK_0, zxK_1, zxK_2, zxK_3, zxK_4, zxK_5, zxQ_0, zxQ_1, zxQ_2, zxV_s, zxO, zxF, zc_161_0, zc_161_1, zc_161_2, zc_162_0, zc_162_1, zc_162_2, zc_163_0, zc_163_1, zc_163_2, zc_163_3, zc_163_4, zc_163_5, zc_164_0, zc_164_1, zc_164_2, zc_164_3, zc_164_4, zc_164_5, zc_165_0, zc_165_1, zc_165_2, zc_161_s, zc_162_s, zc_160, zc_166, zc_167, zc_168, zc_158, zc_159, zc_169, zc_183, zc_184, zc_177, zc_178, zc_179, zc_180, zc_185, zc_186, zc_181, zc_182, zc_187, zc_188, zc_189, zc_190, zc_204, zc_205, zc_210, zc_214, zc_215, zc_216, zc_217, zc_219, zc_206, zc_170_0, zc_170_1, xT_T, xR_T, xsM_7T, z10, zc_211, zc_218, zc_212, zc_220, zc_221, zc_222, zc_234, zFa, zFw, xF_s, xFs_s, xR_F, xF_T, xgM_9, zc_193, zc_192, zc_191, zc_225, zc_229, zc_226, zc_227, zc_235, zc_260, zc_265, zc_213, zS, xgM_6c, xsM_6c, xgM_7T, xT_2, zc_175, zc_176r, h, e2, z00, z20, toJ, zm1, yb_248_77, hB.k]) (by
        obtain ⟨g1, g2⟩ := @sp_closeU_ok (xR w) b hW hb (xnk (xR w)) (by omega)
        have e2 := (g2 2 (by omega)).trans (zun (by omega))
        have g3 := g1.bd
        generalize sp_closeU (xR w) (nI b) (xnk (xR w)) = u at *
        rw [yb_248_41]
        simp (disch := first | omega | assumption | (rw [xR_s]; first | omega | assumption) | (rw [xR_T]; first | omega | assumption)) only [↓zbE, zbd_some, ↓xk_I, ↓xk_v, xgM_5, xiM, zRa, zRw, xR_s, xRs_s, zB_0, zB_1, zB_b01, ite_not, ↓reduceIte, nI_ge, zRa_0, zRa_1, zRa_2, zRa_3, zRa_4, zRa_5, zRw_0, zRw_1, zRw_2, zRw_3, zRw_4, zRw_5, zxV_0, zxV_1, zxV_2, zxK_0, zxK_1, zxK_2, zxK_3, zxK_4, zxK_5, zxQ_0, zxQ_1, zxQ_2, zxV_s, zxO, zxF, zc_161_0, zc_161_1, zc_161_2, zc_162_0, zc_162_1, zc_162_2, zc_163_0, zc_163_1, zc_163_2, zc_163_3, zc_163_4, zc_163_5, zc_164_0, zc_164_1, zc_164_2, zc_164_3, zc_164_4, zc_164_5, zc_165_0, zc_165_1, zc_165_2, zc_161_s, zc_162_s, zc_160, zc_166, zc_167, zc_168, zc_158, zc_159, zc_169, zc_183, zc_184, zc_177, zc_178, zc_179, zc_180, zc_185, zc_186, zc_181, zc_182, zc_187, zc_188, zc_189, zc_190, zc_204, zc_205, zc_210, zc_214, zc_215, zc_216, zc_217, zc_219, zc_206, zc_170_0, zc_170_1, xT_T, xR_T, xsM_7T, z10, zc_211, zc_218, zc_212, zc_220, zc_221, zc_222, zc_234, zFa, zFw, xF_s, xFs_s, xR_F, xF_T, xgM_9, zc_193, zc_192, zc_191, zc_225, zc_229, zc_226, zc_227, zc_235, zc_260, zc_265, zc_213, zS, xgM_6c, xsM_6c, xgM_7T, xT_2, zc_175, zc_176r, nI_le, e2, z00, z20, toJ, zm1, yb_248_77, hB.k])
      refine Eq.trans ?_ e
      rw [show sp_closeU (xR w) (nI b) 0 = upd (xR w) (6 + b) 0 by unfold sp_closeU xfold; rw [nI_clamp (by omega)], ← hR]
      have ho1 : xop (xR w1) (nI b) := by rw [hR]; exact ho
      simp (disch := first | omega | assumption | (rw [xR_s]; first | omega | assumption) | (rw [xR_T]; first | omega | assumption)) only [↓zbE, zbd_some, ↓xk_I, ↓xk_v, xgM_5, xiM, zRa, zRw, xR_s, xRs_s, zB_0, zB_1, zB_b01, ite_not, ↓reduceIte, nI_ge, zRa_0, zRa_1, zRa_2, zRa_3, zRa_4, zRa_5, zRw_0, zRw_1, zRw_2, zRw_3, zRw_4, zRw_5, zxV_0, zxV_1, zxV_2, zxK_0, zxK_1, zxK_2, zxK_3, zxK_4, zxK_5, zxQ_0, zxQ_1, zxQ_2, zxV_s, zxO, zxF, zc_161_0, zc_161_1, zc_161_2, zc_162_0, zc_162_1, zc_162_2, zc_163_0, zc_163_1, zc_163_2, zc_163_3, zc_163_4, zc_163_5, zc_164_0, zc_164_1, zc_164_2, zc_164_3, zc_164_4, zc_164_5, zc_165_0, zc_165_1, zc_165_2, zc_161_s, zc_162_s, zc_160, zc_166, zc_167, zc_168, zc_158, zc_159, zc_169, zc_183, zc_184, zc_177, zc_178, zc_179, zc_180, zc_185, zc_186, zc_181, zc_182, zc_187, zc_188, zc_189, zc_190, zc_204, zc_205, zc_210, zc_214, zc_215, zc_216, zc_217, zc_219, zc_206, zc_170_0, zc_170_1, xT_T, xR_T, xsM_7T, z10, zc_211, zc_218, zc_212, zc_220, zc_221, zc_222, zc_234, zFa, zFw, xF_s, xFs_s, xR_F, xF_T, xgM_9, zc_193, zc_192, zc_191, zc_225, zc_229, zc_226, zc_227, zc_235, zc_260, zc_265, zc_213, zS, xgM_6c, xsM_6c, xgM_7T, xT_2, zc_175, zc_176r, eq_true ho, e1, zB_tt (c := 0 ≤ nI b ∧ nI b ≤ xR w 0 - 1) ha, z00, z20, toJ, zm1, yb_248_77, hB.k]
      rfl
    · rw [if_neg ho]
      refine xAns_e ?_
      simp (disch := first | omega | assumption | (rw [xR_s]; first | omega | assumption) | (rw [xR_T]; first | omega | assumption)) only [↓zbE, zbd_some, ↓xk_I, ↓xk_v, xgM_5, xiM, zRa, zRw, xR_s, xRs_s, zB_0, zB_1, zB_b01, ite_not, ↓reduceIte, nI_ge, zRa_0, zRa_1, zRa_2, zRa_3, zRa_4, zRa_5, zRw_0, zRw_1, zRw_2, zRw_3, zRw_4, zRw_5, zxV_0, zxV_1, zxV_2, zxK_0, zxK_1, zxK_2, zxK_3, zxK_4, zxK_5, zxQ_0, zxQ_1, zxQ_2, zxV_s, zxO, zxF, zc_161_0, zc_161_1, zc_161_2, zc_162_0, zc_162_1, zc_162_2, zc_163_0, zc_163_1, zc_163_2, zc_163_3, zc_163_4, zc_163_5, zc_164_0, zc_164_1, zc_164_2, zc_164_3, zc_164_4, zc_164_5, zc_165_0, zc_165_1, zc_165_2, zc_161_s, zc_162_s, zc_160, zc_166, zc_167, zc_168, zc_158, zc_159, zc_169, zc_183, zc_184, zc_177, zc_178, zc_179, zc_180, zc_185, zc_186, zc_181, zc_182, zc_187, zc_188, zc_189, zc_190, zc_204, zc_205, zc_210, zc_214, zc_215, zc_216, zc_217, zc_219, zc_206, zc_170_0, zc_170_1, xT_T, xR_T, xsM_7T, z10, zc_211, zc_218, zc_212, zc_220, zc_221, zc_222, zc_234, zFa, zFw, xF_s, xFs_s, xR_F, xF_T, xgM_9, zc_193, zc_192, zc_191, zc_225, zc_229, zc_226, zc_227, zc_235, zc_260, zc_265, zc_213, zS, xgM_6c, xsM_6c, xgM_7T, xT_2, zc_175, zc_176r, eq_false ho, zB_tt (c := 0 ≤ nI b ∧ nI b ≤ xR w 0 - 1) ha, z00, z20, toJ, zm1, yb_248_77, hB.k]
  · rw [if_neg ha]
    refine xAns_e ?_
    simp (disch := first | omega | assumption | (rw [xR_s]; first | omega | assumption) | (rw [xR_T]; first | omega | assumption)) only [↓zbE, zbd_some, ↓xk_I, ↓xk_v, xgM_5, xiM, zRa, zRw, xR_s, xRs_s, zB_0, zB_1, zB_b01, ite_not, ↓reduceIte, nI_ge, zRa_0, zRa_1, zRa_2, zRa_3, zRa_4, zRa_5, zRw_0, zRw_1, zRw_2, zRw_3, zRw_4, zRw_5, zxV_0, zxV_1, zxV_2, zxK_0, zxK_1, zxK_2, zxK_3, zxK_4, zxK_5, zxQ_0, zxQ_1, zxQ_2, zxV_s, zxO, zxF, zc_161_0, zc_161_1, zc_161_2, zc_162_0, zc_162_1, zc_162_2, zc_163_0, zc_163_1, zc_163_2, zc_163_3, zc_163_4, zc_163_5, zc_164_0, zc_164_1, zc_164_2, zc_164_3, zc_164_4, zc_164_5, zc_165_0, zc_165_1, zc_165_2, zc_161_s, zc_162_s, zc_160, zc_166, zc_167, zc_168, zc_158, zc_159, zc_169, zc_183, zc_184, zc_177, zc_178, zc_179, zc_180, zc_185, zc_186, zc_181, zc_182, zc_187, zc_188, zc_189, zc_190, zc_204, zc_205, zc_210, zc_214, zc_215, zc_216, zc_217, zc_219, zc_206, zc_170_0, zc_170_1, xT_T, xR_T, xsM_7T, z10, zc_211, zc_218, zc_212, zc_220, zc_221, zc_222, zc_234, zFa, zFw, xF_s, xFs_s, xR_F, xF_T, xgM_9, zc_193, zc_192, zc_191, zc_225, zc_229, zc_226, zc_227, zc_235, zc_260, zc_265, zc_213, zS, xgM_6c, xsM_6c, xgM_7T, xT_2, zc_175, zc_176r, zB_ff (c := 0 ≤ a ∧ a ≤ xR w 0 - 1) ha, z00, z20, toJ, zm1, yb_248_77, hB.k]
theorem zc_249 {a : Int32} {n : Nat} (h0 : xri (w 3) = 0) (hW : xWF (xR w)) (hn : n ≤ 10) (hc : (w 3).1 1 = nI n) : xOpA (xm_C sc xt_M (d + 5) 249 [.ref 191, .int a] (xem w l t)) w l t n (sp_open (xR w) a) := by
  have hB := hW.bd
  have hk20 := hB.k20
  have hq40 := hB.q40
  have hv4 := hB.v4
  have hb6 := hB.b6
  have hW2 : xWF (xR (xT w 0)) := by rw [xR_T]; exact hW
  have hB2 : xBd (xR (xT w 0)) := by rw [xR_T]; exact hW.bd
  obtain ⟨w1, e1, kr, hh⟩ : ∃ w1, xm_C sc xt_M (d + 4) 259 [.ref 191] (xem (xT w 0) l t) = some (.inl none, xem w1 l t) ∧ xKr (xT w 0) w1 ∧ xHist (xT w 0) w1 n := zc_259 hn (by rw [xT_1 (by omega)]; exact hc)
  have hR : xR w1 = xR w := kr.R.trans xR_T
  have hB1 : xBd (xR w1) := by rw [hR]; exact hB
  have hW1 : xWF (xR w1) := by rw [hR]; exact hW
  unfold sp_open
  rw [yc_249]
  by_cases ha : sp_br (xR w) a
  · rw [if_pos ha]
    have ha' := ha
    rw [sp_br, hB.b] at ha'
    obtain ⟨b, hb, rfl⟩ := zrg (by omega) ha'
    have hib : xib (nI b) := xil_nI (by omega) (by omega)
    by_cases ho : xop (xR w) (nI b)
    · rw [if_pos ho]
      refine xAns_e ?_
      simp (disch := first | omega | assumption | (rw [xR_s]; first | omega | assumption) | (rw [xR_T]; first | omega | assumption)) only [↓zbE, zbd_some, ↓xk_I, ↓xk_v, xgM_5, xiM, zRa, zRw, xR_s, xRs_s, zB_0, zB_1, zB_b01, ite_not, ↓reduceIte, nI_ge, zRa_0, zRa_1, zRa_2, zRa_3, zRa_4, zRa_5, zRw_0, zRw_1, zRw_2, zRw_3, zRw_4, zRw_5, zxV_0, zxV_1, zxV_2, zxK_0, zxK_1, zxK_2, zxK_3, zxK_4, zxK_5, zxQ_0, zxQ_1, zxQ_2, zxV_s, zxO, zxF, zc_161_0, zc_161_1, zc_161_2, zc_162_0, zc_162_1, zc_162_2, zc_163_0, zc_163_1, zc_163_2, zc_163_3, zc_163_4, zc_163_5, zc_164_0, zc_164_1, zc_164_2, zc_164_3, zc_164_4, zc_164_5, zc_165_0, zc_165_1, zc_165_2, zc_161_s, zc_162_s, zc_160, zc_166, zc_167, zc_168, zc_158, zc_159, zc_169, zc_183, zc_184, zc_177, zc_178, zc_179, zc_180, zc_185, zc_186, zc_181, zc_182, zc_187, zc_188, zc_189, zc_190, zc_204, zc_205, zc_210, zc_214, zc_215, zc_216, zc_217, zc_219, zc_206, zc_170_0, zc_170_1, xT_T, xR_T, xsM_7T, z10, zc_211, zc_218, zc_212, zc_220, zc_221, zc_222, zc_234, zFa, zFw, xF_s, xFs_s, xR_F, xF_T, xgM_9, zc_193, zc_192, zc_191, zc_225, zc_229, zc_226, zc_227, zc_235, zc_260, zc_265, zc_213, zS, xgM_6c, xsM_6c, xgM_7T, xT_2, zc_175, zc_176r, eq_true ho, zB_tt (c := 0 ≤ nI b ∧ nI b ≤ xR w 0 - 1) ha, z00, z20, toJ, zm1, hB.k]
    · rw [if_neg ho]
      rw [nI_clamp (by omega)]
      refine xOpA_s kr hh h0 ?_
      have hW2 : xWF (upd (xR w) (6 + b) 1) := xWF_open hW (by omega) (Or.inr rfl)
      have e2 : upd (xR w) (6 + b) 1 2 = xR w 2 := zun (by omega)
      have ek : xnk (upd (xR w) (6 + b) 1) = xnk (xR w) := by unfold xnk; rw [e2]
      have e := xlp (fun k => xm_R sc xt_M (d + 4) 249 43 [.ref 191, .int (nI b), .int (sp_openC (upd (xR w) (6 + b) 1) (nI b) k), .int (nI k)] [] (xem (xRs w1 (upd (xR w) (6 + b) 1)) l t)) (K := some (.inl (some (.int (sp_openC (upd (xR w) (6 + b) 1) (nI b) (xnk (xR w))))), xem (xRs w1 (upd (xR w) (6 + b) 1)) l t)) (xnk (xR w)) (by
        intro k hk
        rw [show sp_openC (upd (xR w) (6 + b) 1) (nI b) (k + 1) = sp_openC (upd (xR w) (6 + b) 1) (nI b) k + zB (sp_opc (upd (xR w) (6 + b) 1) (nI b) k) from rfl]
        generalize upd (xR w) (6 + b) 1 = r at *
        rw [yb_249_43]
        by_cases h : sp_isIn r 0 k (nI b)
        · by_cases h' : sp_goal r k = nI b
          · rw [zB_tt (c := sp_opc r (nI b) k) ⟨h, h'⟩]
            simp (disch := first | omega | assumption | (rw [xR_s]; first | omega | assumption) | (rw [xR_T]; first | omega | assumption)) only [↓zbE, zbd_some, ↓xk_I, ↓xk_v, xgM_5, xiM, zRa, zRw, xR_s, xRs_s, zB_0, zB_1, zB_b01, ite_not, ↓reduceIte, nI_ge, zRa_0, zRa_1, zRa_2, zRa_3, zRa_4, zRa_5, zRw_0, zRw_1, zRw_2, zRw_3, zRw_4, zRw_5, zxV_0, zxV_1, zxV_2, zxK_0, zxK_1, zxK_2, zxK_3, zxK_4, zxK_5, zxQ_0, zxQ_1, zxQ_2, zxV_s, zxO, zxF, zc_161_0, zc_161_1, zc_161_2, zc_162_0, zc_162_1, zc_162_2, zc_163_0, zc_163_1, zc_163_2, zc_163_3, zc_163_4, zc_163_5, zc_164_0, zc_164_1, zc_164_2, zc_164_3, zc_164_4, zc_164_5, zc_165_0, zc_165_1, zc_165_2, zc_161_s, zc_162_s, zc_160, zc_166, zc_167, zc_168, zc_158, zc_159, zc_169, zc_183, zc_184, zc_177, zc_178, zc_179, zc_180, zc_185, zc_186, zc_181, zc_182, zc_187, zc_188, zc_189, zc_190, zc_204, zc_205, zc_210, zc_214, zc_215, zc_216, zc_217, zc_219, zc_206, zc_170_0, zc_170_1, xT_T, xR_T, xsM_7T, z10, zc_211, zc_218, zc_212, zc_220, zc_221, zc_222, zc_234, zFa, zFw, xF_s, xFs_s, xR_F, xF_T, xgM_9, zc_193, zc_192, zc_191, zc_225, zc_229, zc_226, zc_227, zc_235, zc_260, zc_265, zc_213, zS, xgM_6c, xsM_6c, xgM_7T, xT_2, zc_175, zc_176r, eq_true h, eq_true h', e2, z00, z20, toJ, zm1, hB.k]
          · rw [zB_ff (c := sp_opc r (nI b) k) (fun g => h' g.2)]
            simp (disch := first | omega | assumption | (rw [xR_s]; first | omega | assumption) | (rw [xR_T]; first | omega | assumption)) only [↓zbE, zbd_some, ↓xk_I, ↓xk_v, xgM_5, xiM, zRa, zRw, xR_s, xRs_s, zB_0, zB_1, zB_b01, ite_not, ↓reduceIte, nI_ge, zRa_0, zRa_1, zRa_2, zRa_3, zRa_4, zRa_5, zRw_0, zRw_1, zRw_2, zRw_3, zRw_4, zRw_5, zxV_0, zxV_1, zxV_2, zxK_0, zxK_1, zxK_2, zxK_3, zxK_4, zxK_5, zxQ_0, zxQ_1, zxQ_2, zxV_s, zxO, zxF, zc_161_0, zc_161_1, zc_161_2, zc_162_0, zc_162_1, zc_162_2, zc_163_0, zc_163_1, zc_163_2, zc_163_3, zc_163_4, zc_163_5, zc_164_0, zc_164_1, zc_164_2, zc_164_3, zc_164_4, zc_164_5, zc_165_0, zc_165_1, zc_165_2, zc_161_s, zc_162_s, zc_160, zc_166, zc_167, zc_168, zc_158, zc_159, zc_169, zc_183, zc_184, zc_177, zc_178, zc_179, zc_180, zc_185, zc_186, zc_181, zc_182, zc_187, zc_188, zc_189, zc_190, zc_204, zc_205, zc_210, zc_214, zc_215, zc_216, zc_217, zc_219, zc_206, zc_170_0, zc_170_1, xT_T, xR_T, xsM_7T, z10, zc_211, zc_218, zc_212, zc_220, zc_221, zc_222, zc_234, zFa, zFw, xF_s, xFs_s, xR_F, xF_T, xgM_9, zc_193, zc_192, zc_191, zc_225, zc_229, zc_226, zc_227, zc_235, zc_260, zc_265, zc_213, zS, xgM_6c, xsM_6c, xgM_7T, xT_2, zc_175, zc_176r, eq_true h, h', e2, z00, z20, toJ, zm1, hB.k]
        · rw [zB_ff (c := sp_opc r (nI b) k) (fun g => h g.1)]
          simp (disch := first | omega | assumption | (rw [xR_s]; first | omega | assumption) | (rw [xR_T]; first | omega | assumption)) only [↓zbE, zbd_some, ↓xk_I, ↓xk_v, xgM_5, xiM, zRa, zRw, xR_s, xRs_s, zB_0, zB_1, zB_b01, ite_not, ↓reduceIte, nI_ge, zRa_0, zRa_1, zRa_2, zRa_3, zRa_4, zRa_5, zRw_0, zRw_1, zRw_2, zRw_3, zRw_4, zRw_5, zxV_0, zxV_1, zxV_2, zxK_0, zxK_1, zxK_2, zxK_3, zxK_4, zxK_5, zxQ_0, zxQ_1, zxQ_2, zxV_s, zxO, zxF, zc_161_0, zc_161_1, zc_161_2, zc_162_0, zc_162_1, zc_162_2, zc_163_0, zc_163_1, zc_163_2, zc_163_3, zc_163_4, zc_163_5, zc_164_0, zc_164_1, zc_164_2, zc_164_3, zc_164_4, zc_164_5, zc_165_0, zc_165_1, zc_165_2, zc_161_s, zc_162_s, zc_160, zc_166, zc_167, zc_168, zc_158, zc_159, zc_169, zc_183, zc_184, zc_177, zc_178, zc_179, zc_180, zc_185, zc_186, zc_181, zc_182, zc_187, zc_188, zc_189, zc_190, zc_204, zc_205, zc_210, zc_214, zc_215, zc_216, zc_217, zc_219, zc_206, zc_170_0, zc_170_1, xT_T, xR_T, xsM_7T, z10, zc_211, zc_218, zc_212, zc_220, zc_221, zc_222, zc_234, zFa, zFw, xF_s, xFs_s, xR_F, xF_T, xgM_9, zc_193, zc_192, zc_191, zc_225, zc_229, zc_226, zc_227, zc_235, zc_260, zc_265, zc_213, zS, xgM_6c, xsM_6c, xgM_7T, xT_2, zc_175, zc_176r, eq_false h, e2, z00, z20, toJ, zm1, hB.k]) (by
        generalize upd (xR w) (6 + b) 1 = r at *
        rw [yb_249_43]
        simp (disch := first | omega | assumption | (rw [xR_s]; first | omega | assumption) | (rw [xR_T]; first | omega | assumption)) only [↓zbE, zbd_some, ↓xk_I, ↓xk_v, xgM_5, xiM, zRa, zRw, xR_s, xRs_s, zB_0, zB_1, zB_b01, ite_not, ↓reduceIte, nI_ge, zRa_0, zRa_1, zRa_2, zRa_3, zRa_4, zRa_5, zRw_0, zRw_1, zRw_2, zRw_3, zRw_4, zRw_5, zxV_0, zxV_1, zxV_2, zxK_0, zxK_1, zxK_2, zxK_3, zxK_4, zxK_5, zxQ_0, zxQ_1, zxQ_2, zxV_s, zxO, zxF, zc_161_0, zc_161_1, zc_161_2, zc_162_0, zc_162_1, zc_162_2, zc_163_0, zc_163_1, zc_163_2, zc_163_3, zc_163_4, zc_163_5, zc_164_0, zc_164_1, zc_164_2, zc_164_3, zc_164_4, zc_164_5, zc_165_0, zc_165_1, zc_165_2, zc_161_s, zc_162_s, zc_160, zc_166, zc_167, zc_168, zc_158, zc_159, zc_169, zc_183, zc_184, zc_177, zc_178, zc_179, zc_180, zc_185, zc_186, zc_181, zc_182, zc_187, zc_188, zc_189, zc_190, zc_204, zc_205, zc_210, zc_214, zc_215, zc_216, zc_217, zc_219, zc_206, zc_170_0, zc_170_1, xT_T, xR_T, xsM_7T, z10, zc_211, zc_218, zc_212, zc_220, zc_221, zc_222, zc_234, zFa, zFw, xF_s, xFs_s, xR_F, xF_T, xgM_9, zc_193, zc_192, zc_191, zc_225, zc_229, zc_226, zc_227, zc_235, zc_260, zc_265, zc_213, zS, xgM_6c, xsM_6c, xgM_7T, xT_2, zc_175, zc_176r, nI_le, e2, z00, z20, toJ, zm1, hB.k])
      refine Eq.trans ?_ e
      rw [← hR]
      have ho1 : ¬ xop (xR w1) (nI b) := by rw [hR]; exact ho
      simp (disch := first | omega | assumption | (rw [xR_s]; first | omega | assumption) | (rw [xR_T]; first | omega | assumption)) only [↓zbE, zbd_some, ↓xk_I, ↓xk_v, xgM_5, xiM, zRa, zRw, xR_s, xRs_s, zB_0, zB_1, zB_b01, ite_not, ↓reduceIte, nI_ge, zRa_0, zRa_1, zRa_2, zRa_3, zRa_4, zRa_5, zRw_0, zRw_1, zRw_2, zRw_3, zRw_4, zRw_5, zxV_0, zxV_1, zxV_2, zxK_0, zxK_1, zxK_2, zxK_3, zxK_4, zxK_5, zxQ_0, zxQ_1, zxQ_2, zxV_s, zxO, zxF, zc_161_0, zc_161_1, zc_161_2, zc_162_0, zc_162_1, zc_162_2, zc_163_0, zc_163_1, zc_163_2, zc_163_3, zc_163_4, zc_163_5, zc_164_0, zc_164_1, zc_164_2, zc_164_3, zc_164_4, zc_164_5, zc_165_0, zc_165_1, zc_165_2, zc_161_s, zc_162_s, zc_160, zc_166, zc_167, zc_168, zc_158, zc_159, zc_169, zc_183, zc_184, zc_177, zc_178, zc_179, zc_180, zc_185, zc_186, zc_181, zc_182, zc_187, zc_188, zc_189, zc_190, zc_204, zc_205, zc_210, zc_214, zc_215, zc_216, zc_217, zc_219, zc_206, zc_170_0, zc_170_1, xT_T, xR_T, xsM_7T, z10, zc_211, zc_218, zc_212, zc_220, zc_221, zc_222, zc_234, zFa, zFw, xF_s, xFs_s, xR_F, xF_T, xgM_9, zc_193, zc_192, zc_191, zc_225, zc_229, zc_226, zc_227, zc_235, zc_260, zc_265, zc_213, zS, xgM_6c, xsM_6c, xgM_7T, xT_2, zc_175, zc_176r, eq_false ho, e1, zB_tt (c := 0 ≤ nI b ∧ nI b ≤ xR w 0 - 1) ha, z00, z20, toJ, zm1, hB.k]
      rfl
  · rw [if_neg ha]
    refine xAns_e ?_
    simp (disch := first | omega | assumption | (rw [xR_s]; first | omega | assumption) | (rw [xR_T]; first | omega | assumption)) only [↓zbE, zbd_some, ↓xk_I, ↓xk_v, xgM_5, xiM, zRa, zRw, xR_s, xRs_s, zB_0, zB_1, zB_b01, ite_not, ↓reduceIte, nI_ge, zRa_0, zRa_1, zRa_2, zRa_3, zRa_4, zRa_5, zRw_0, zRw_1, zRw_2, zRw_3, zRw_4, zRw_5, zxV_0, zxV_1, zxV_2, zxK_0, zxK_1, zxK_2, zxK_3, zxK_4, zxK_5, zxQ_0, zxQ_1, zxQ_2, zxV_s, zxO, zxF, zc_161_0, zc_161_1, zc_161_2, zc_162_0, zc_162_1, zc_162_2, zc_163_0, zc_163_1, zc_163_2, zc_163_3, zc_163_4, zc_163_5, zc_164_0, zc_164_1, zc_164_2, zc_164_3, zc_164_4, zc_164_5, zc_165_0, zc_165_1, zc_165_2, zc_161_s, zc_162_s, zc_160, zc_166, zc_167, zc_168, zc_158, zc_159, zc_169, zc_183, zc_184, zc_177, zc_178, zc_179, zc_180, zc_185, zc_186, zc_181, zc_182, zc_187, zc_188, zc_189, zc_190, zc_204, zc_205, zc_210, zc_214, zc_215, zc_216, zc_217, zc_219, zc_206, zc_170_0, zc_170_1, xT_T, xR_T, xsM_7T, z10, zc_211, zc_218, zc_212, zc_220, zc_221, zc_222, zc_234, zFa, zFw, xF_s, xFs_s, xR_F, xF_T, xgM_9, zc_193, zc_192, zc_191, zc_225, zc_229, zc_226, zc_227, zc_235, zc_260, zc_265, zc_213, zS, xgM_6c, xsM_6c, xgM_7T, xT_2, zc_175, zc_176r, zB_ff (c := 0 ≤ a ∧ a ≤ xR w 0 - 1) ha, z00, z20, toJ, zm1, hB.k]
theorem xgM_10u {u : xU} : xm_gI (xem (xMu w u) l t) 191 8 10 = some u.2.2.2 := by
  rw [xgM_10H]
  unfold xMu
  rw [xH_M, xH_s]
theorem zc_251 {a : Int32} {n c : Nat} (h0 : xri (w 3) = 0) (hW : xWF (xR w)) (hn : n ≤ 10) (hc : (w 3).1 1 = nI n) (h4 : xR w 4 = nI c) (hc2 : c < 10000) : xOpA (xm_C sc xt_M (d + 8) 251 [.ref 191, .int a] (xem w l t)) w l t n (sp_run (xMe w) a) := by
  have hB := hW.bd
  have hk20 := hB.k20
  have hq40 := hB.q40
  have hv4 := hB.v4
  have hb6 := hB.b6
  have hW2 : xWF (xR (xT w 0)) := by rw [xR_T]; exact hW
  have hB2 : xBd (xR (xT w 0)) := by rw [xR_T]; exact hW.bd
  obtain ⟨w1, e1, kr, hh⟩ : ∃ w1, xm_C sc xt_M (d + 7) 259 [.ref 191] (xem (xT w 0) l t) = some (.inl none, xem w1 l t) ∧ xKr (xT w 0) w1 ∧ xHist (xT w 0) w1 n := zc_259 hn (by rw [xT_1 (by omega)]; exact hc)
  have hR : xR w1 = xR w := kr.R.trans xR_T
  have hB1 : xBd (xR w1) := by rw [hR]; exact hB
  have hW1 : xWF (xR w1) := by rw [hR]; exact hW
  have hF : xF w1 = xF w := by
    unfold xF
    rw [kr.2.2 5 (by omega)]
    unfold xT
    rw [xu_same]
    rfl
  have hJ : xJ w1 = xJ w := by
    unfold xJ
    rw [kr.2.2 6 (by omega)]
    unfold xT
    rw [xu_same]
    rfl
  unfold sp_run
  rw [yc_251]
  by_cases ha : 1 ≤ a ∧ a ≤ 99
  · rw [if_pos ha]
    by_cases ht : xR w 4 + a ≤ 9999
    · rw [if_pos (c := (xMe w).1 4 + a ≤ 9999) ht]
      obtain ⟨m, hm, rfl⟩ := zrg (m := 100) (by omega) ⟨Int32.le_trans (by decide) ha.1, show a ≤ nI 100 - 1 from ha.2⟩
      rw [nI_clamp (by omega)]
      have e := xlp (fun k => xm_R sc xt_M (d + 7) 251 56 [.ref 191, .int (nI m), .int (nI k)] [] (xem (xMu w1 (sp_us (xR w, xF w, xJ w, 0) k)) l t)) (K := some (.inl (some (.int (sp_us (xR w, xF w, xJ w, 0) m).2.2.2)), xem (xMu w1 (sp_us (xR w, xF w, xJ w, 0) m)) l t)) m (by
        intro k hk
        obtain ⟨g1, g2, g3⟩ := @sp_us_ok (xR w, xF w, xJ w, 0) c hW h4 k (by omega)
        have ht : xil ((sp_us (xR w, xF w, xJ w, 0) k).1 4 + 1) 20000 := by
          rw [g2, zS]
          exact xil_nI (by omega) (by omega)
        rw [show sp_us (xR w, xF w, xJ w, 0) (k + 1) = sp_u1 (sp_us (xR w, xF w, xJ w, 0) k) from rfl]
        generalize sp_us (xR w, xF w, xJ w, 0) k = u at *
        rw [yb_251_56]
        simp (disch := first | omega | assumption | (rw [xR_s]; first | omega | assumption) | (rw [xR_T]; first | omega | assumption)) only [↓zbE, zbd_some, ↓xk_I, ↓xk_v, xgM_5, xiM, zRa, zRw, xR_s, xRs_s, zB_0, zB_1, zB_b01, ite_not, ↓reduceIte, nI_ge, zRa_0, zRa_1, zRa_2, zRa_3, zRa_4, zRa_5, zRw_0, zRw_1, zRw_2, zRw_3, zRw_4, zRw_5, zxV_0, zxV_1, zxV_2, zxK_0, zxK_1, zxK_2, zxK_3, zxK_4, zxK_5, zxQ_0, zxQ_1, zxQ_2, zxV_s, zxO, zxF, zc_161_0, zc_161_1, zc_161_2, zc_162_0, zc_162_1, zc_162_2, zc_163_0, zc_163_1, zc_163_2, zc_163_3, zc_163_4, zc_163_5, zc_164_0, zc_164_1, zc_164_2, zc_164_3, zc_164_4, zc_164_5, zc_165_0, zc_165_1, zc_165_2, zc_161_s, zc_162_s, zc_160, zc_166, zc_167, zc_168, zc_158, zc_159, zc_169, zc_183, zc_184, zc_177, zc_178, zc_179, zc_180, zc_185, zc_186, zc_181, zc_182, zc_187, zc_188, zc_189, zc_190, zc_204, zc_205, zc_210, zc_214, zc_215, zc_216, zc_217, zc_219, zc_206, zc_170_0, zc_170_1, xT_T, xR_T, xsM_7T, z10, zc_211, zc_218, zc_212, zc_220, zc_221, zc_222, zc_234, zFa, zFw, xF_s, xFs_s, xR_F, xF_T, xgM_9, zc_193, zc_192, zc_191, zc_225, zc_229, zc_226, zc_227, zc_235, zc_260, zc_265, zc_213, zS, xgM_6c, xsM_6c, xgM_7T, xT_2, zc_175, zc_176r, zc_203u, z00, z20, toJ, zm1]) (by
        generalize sp_us (xR w, xF w, xJ w, 0) m = u at *
        rw [yb_251_56]
        simp (disch := first | omega | assumption | (rw [xR_s]; first | omega | assumption) | (rw [xR_T]; first | omega | assumption)) only [↓zbE, zbd_some, ↓xk_I, ↓xk_v, xgM_5, xiM, zRa, zRw, xR_s, xRs_s, zB_0, zB_1, zB_b01, ite_not, ↓reduceIte, nI_ge, zRa_0, zRa_1, zRa_2, zRa_3, zRa_4, zRa_5, zRw_0, zRw_1, zRw_2, zRw_3, zRw_4, zRw_5, zxV_0, zxV_1, zxV_2, zxK_0, zxK_1, zxK_2, zxK_3, zxK_4, zxK_5, zxQ_0, zxQ_1, zxQ_2, zxV_s, zxO, zxF, zc_161_0, zc_161_1, zc_161_2, zc_162_0, zc_162_1, zc_162_2, zc_163_0, zc_163_1, zc_163_2, zc_163_3, zc_163_4, zc_163_5, zc_164_0, zc_164_1, zc_164_2, zc_164_3, zc_164_4, zc_164_5, zc_165_0, zc_165_1, zc_165_2, zc_161_s, zc_162_s, zc_160, zc_166, zc_167, zc_168, zc_158, zc_159, zc_169, zc_183, zc_184, zc_177, zc_178, zc_179, zc_180, zc_185, zc_186, zc_181, zc_182, zc_187, zc_188, zc_189, zc_190, zc_204, zc_205, zc_210, zc_214, zc_215, zc_216, zc_217, zc_219, zc_206, zc_170_0, zc_170_1, xT_T, xR_T, xsM_7T, z10, zc_211, zc_218, zc_212, zc_220, zc_221, zc_222, zc_234, zFa, zFw, xF_s, xFs_s, xR_F, xF_T, xgM_9, zc_193, zc_192, zc_191, zc_225, zc_229, zc_226, zc_227, zc_235, zc_260, zc_265, zc_213, zS, xgM_6c, xsM_6c, xgM_7T, xT_2, zc_175, zc_176r, nI_le, xgM_10u, z00, z20, toJ, zm1])
      refine ⟨rfl, _, Eq.trans ?_ e, xOps_Mu kr hh h0⟩
      have eH : xMu w1 (sp_us (xR w, xF w, xJ w, 0) 0) = xHs w1 0 := by
        show xMw (xHs w1 0) (xR w) (xF w) (xJ w) = _
        have e := @xMw_self (xHs w1 0)
        have g1 : xR (xHs w1 0) = xR w := by
          rw [← hR]
          unfold xR xri xHs
          rw [xu_same]
          rfl
        have g2 : xF (xHs w1 0) = xF w := by
          rw [← hF]
          unfold xF xHs
          rw [xu_same]
          rfl
        have g3 : xJ (xHs w1 0) = xJ w := by
          rw [← hJ]
          unfold xJ xHs
          rw [xu_same]
          rfl
        rw [g1, g2, g3] at e
        exact e
      rw [eH]
      simp (disch := first | omega | assumption | (rw [xR_s]; first | omega | assumption) | (rw [xR_T]; first | omega | assumption)) only [↓zbE, zbd_some, ↓xk_I, ↓xk_v, xgM_5, xiM, zRa, zRw, xR_s, xRs_s, zB_0, zB_1, zB_b01, ite_not, ↓reduceIte, nI_ge, zRa_0, zRa_1, zRa_2, zRa_3, zRa_4, zRa_5, zRw_0, zRw_1, zRw_2, zRw_3, zRw_4, zRw_5, zxV_0, zxV_1, zxV_2, zxK_0, zxK_1, zxK_2, zxK_3, zxK_4, zxK_5, zxQ_0, zxQ_1, zxQ_2, zxV_s, zxO, zxF, zc_161_0, zc_161_1, zc_161_2, zc_162_0, zc_162_1, zc_162_2, zc_163_0, zc_163_1, zc_163_2, zc_163_3, zc_163_4, zc_163_5, zc_164_0, zc_164_1, zc_164_2, zc_164_3, zc_164_4, zc_164_5, zc_165_0, zc_165_1, zc_165_2, zc_161_s, zc_162_s, zc_160, zc_166, zc_167, zc_168, zc_158, zc_159, zc_169, zc_183, zc_184, zc_177, zc_178, zc_179, zc_180, zc_185, zc_186, zc_181, zc_182, zc_187, zc_188, zc_189, zc_190, zc_204, zc_205, zc_210, zc_214, zc_215, zc_216, zc_217, zc_219, zc_206, zc_170_0, zc_170_1, xT_T, xR_T, xsM_7T, z10, zc_211, zc_218, zc_212, zc_220, zc_221, zc_222, zc_234, zFa, zFw, xF_s, xFs_s, xR_F, xF_T, xgM_9, zc_193, zc_192, zc_191, zc_225, zc_229, zc_226, zc_227, zc_235, zc_260, zc_265, zc_213, zS, xgM_6c, xsM_6c, xgM_7T, xT_2, zc_175, zc_176r, zB_tt ha, eq_true ht, e1, xsM_10H, z00, z20, toJ, zm1]
      rfl
    · rw [if_neg (c := (xMe w).1 4 + a ≤ 9999) ht]
      refine xAns_e ?_
      simp (disch := first | omega | assumption | (rw [xR_s]; first | omega | assumption) | (rw [xR_T]; first | omega | assumption)) only [↓zbE, zbd_some, ↓xk_I, ↓xk_v, xgM_5, xiM, zRa, zRw, xR_s, xRs_s, zB_0, zB_1, zB_b01, ite_not, ↓reduceIte, nI_ge, zRa_0, zRa_1, zRa_2, zRa_3, zRa_4, zRa_5, zRw_0, zRw_1, zRw_2, zRw_3, zRw_4, zRw_5, zxV_0, zxV_1, zxV_2, zxK_0, zxK_1, zxK_2, zxK_3, zxK_4, zxK_5, zxQ_0, zxQ_1, zxQ_2, zxV_s, zxO, zxF, zc_161_0, zc_161_1, zc_161_2, zc_162_0, zc_162_1, zc_162_2, zc_163_0, zc_163_1, zc_163_2, zc_163_3, zc_163_4, zc_163_5, zc_164_0, zc_164_1, zc_164_2, zc_164_3, zc_164_4, zc_164_5, zc_165_0, zc_165_1, zc_165_2, zc_161_s, zc_162_s, zc_160, zc_166, zc_167, zc_168, zc_158, zc_159, zc_169, zc_183, zc_184, zc_177, zc_178, zc_179, zc_180, zc_185, zc_186, zc_181, zc_182, zc_187, zc_188, zc_189, zc_190, zc_204, zc_205, zc_210, zc_214, zc_215, zc_216, zc_217, zc_219, zc_206, zc_170_0, zc_170_1, xT_T, xR_T, xsM_7T, z10, zc_211, zc_218, zc_212, zc_220, zc_221, zc_222, zc_234, zFa, zFw, xF_s, xFs_s, xR_F, xF_T, xgM_9, zc_193, zc_192, zc_191, zc_225, zc_229, zc_226, zc_227, zc_235, zc_260, zc_265, zc_213, zS, xgM_6c, xsM_6c, xgM_7T, xT_2, zc_175, zc_176r, zB_tt ha, eq_false ht, z00, z20, toJ, zm1]
  · rw [if_neg ha]
    refine xAns_e ?_
    simp (disch := first | omega | assumption | (rw [xR_s]; first | omega | assumption) | (rw [xR_T]; first | omega | assumption)) only [↓zbE, zbd_some, ↓xk_I, ↓xk_v, xgM_5, xiM, zRa, zRw, xR_s, xRs_s, zB_0, zB_1, zB_b01, ite_not, ↓reduceIte, nI_ge, zRa_0, zRa_1, zRa_2, zRa_3, zRa_4, zRa_5, zRw_0, zRw_1, zRw_2, zRw_3, zRw_4, zRw_5, zxV_0, zxV_1, zxV_2, zxK_0, zxK_1, zxK_2, zxK_3, zxK_4, zxK_5, zxQ_0, zxQ_1, zxQ_2, zxV_s, zxO, zxF, zc_161_0, zc_161_1, zc_161_2, zc_162_0, zc_162_1, zc_162_2, zc_163_0, zc_163_1, zc_163_2, zc_163_3, zc_163_4, zc_163_5, zc_164_0, zc_164_1, zc_164_2, zc_164_3, zc_164_4, zc_164_5, zc_165_0, zc_165_1, zc_165_2, zc_161_s, zc_162_s, zc_160, zc_166, zc_167, zc_168, zc_158, zc_159, zc_169, zc_183, zc_184, zc_177, zc_178, zc_179, zc_180, zc_185, zc_186, zc_181, zc_182, zc_187, zc_188, zc_189, zc_190, zc_204, zc_205, zc_210, zc_214, zc_215, zc_216, zc_217, zc_219, zc_206, zc_170_0, zc_170_1, xT_T, xR_T, xsM_7T, z10, zc_211, zc_218, zc_212, zc_220, zc_221, zc_222, zc_234, zFa, zFw, xF_s, xFs_s, xR_F, xF_T, xgM_9, zc_193, zc_192, zc_191, zc_225, zc_229, zc_226, zc_227, zc_235, zc_260, zc_265, zc_213, zS, xgM_6c, xsM_6c, xgM_7T, xT_2, zc_175, zc_176r, zB_ff ha, z00, z20, toJ, zm1]
end SM
