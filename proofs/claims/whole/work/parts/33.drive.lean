/-! THE REFERENCE: takeIn and drive -/
def sp_takeU (f j : Nat → Int32) (v : Nat) (b : Int32) (r : Nat → Int32) (s : Nat) : (Nat → Int32) × Int32 := xfold (fun s u => sp_tk f j v b (nI s) (xnk r) u) (r, r (12 + 11 * v) - sp_booksIn r 1 (nI v)) s
def sp_take (f j : Nat → Int32) (v : Nat) (b : Int32) (r : Nat → Int32) : Nat → Int32 := (sp_takeU f j v b r 3).1
theorem sp_takeU_ok {f j r : Nat → Int32} {v : Nat} {b : Int32} (hW : xWF r) (hv : v < xnv r) : ∀ s, xWF (sp_takeU f j v b r s).1 ∧ xhd r (sp_takeU f j v b r s).1 := by
  intro s
  induction s with
  | zero => exact ⟨hW, fun _ _ => rfl⟩
  | succ s ih => exact xfm_ok hv (xnk r) 0 _ (by omega) ih.1 ih.2
theorem xWF_at {r : Nat → Int32} {v : Nat} {x : Int32} (h : xWF r) (hv : v < xnv r) (hx : xil x (xst r v)) : xWF (upd r (14 + 11 * v) x) := by
  have hv4 := h.bd.v4
  have hk20 := h.bd.k20
  have e : ∀ i, i ≠ 14 + 11 * v → upd r (14 + 11 * v) x i = r i := fun i hi => if_neg hi
  have e0 : xnb (upd r (14 + 11 * v) x) = xnb r := by unfold xnb; rw [e 0 (by omega)]
  have e1 : xnv (upd r (14 + 11 * v) x) = xnv r := by unfold xnv; rw [e 1 (by omega)]
  have e2 : xnk (upd r (14 + 11 * v) x) = xnk r := by unfold xnk; rw [e 2 (by omega)]
  have e3 : xnq (upd r (14 + 11 * v) x) = xnq r := by unfold xnq; rw [e 3 (by omega)]
  refine ⟨?_, ?_, ?_, ?_, ?_, ?_⟩
  · unfold xBd
    rw [e0, e1, e2, e3, e 0 (by omega), e 1 (by omega), e 2 (by omega), e 3 (by omega)]
    exact h.bd
  · unfold xWn
    rw [e0, e1, e 4 (by omega), e 5 (by omega)]
    exact h.n
  · intro b hb6
    rw [e (6 + b) (by omega)]
    exact h.o b hb6
  · intro v' hv'
    rw [e1] at hv'
    obtain ⟨a1, a2, a3, a4, a5⟩ := h.v v' hv'
    have a9 := a2.2
    unfold xst at *
    rw [e (12 + 11 * v') (by omega), e (13 + 11 * v') (by omega), e0]
    refine ⟨a1, a2, a3, ?_, fun s hs => ?_⟩
    · by_cases g : v' = v
      · subst g
        rw [zu1]
        exact hx
      · rw [e (14 + 11 * v') (by omega)]
        exact a4
    · rw [e (15 + 11 * v' + s) (by omega)]
      exact a5 s hs
  · intro k hk
    rw [e2] at hk
    have c := h.k k hk
    rw [e0, e1, e3, e (56 + 6 * k) (by omega), e (57 + 6 * k) (by omega), e (58 + 6 * k) (by omega), e (59 + 6 * k) (by omega), e (60 + 6 * k) (by omega)]
    refine ⟨c.1, c.2.1, c.2.2.1, c.2.2.2.1, c.2.2.2.2.1, c.2.2.2.2.2.1, fun z => ?_, c.2.2.2.2.2.2.2⟩
    obtain ⟨q, q1, q2, q3⟩ := c.2.2.2.2.2.2.1 z
    refine ⟨q, q1, ?_, ?_⟩
    · rw [e (176 + 3 * q) (by omega)]; exact q2
    · rw [e (177 + 3 * q) (by omega)]; exact q3
  · unfold xWq
    rw [e3, e2, e0]
    refine ⟨fun q hq => ?_, fun p q hp hq => ?_⟩
    · rw [e (176 + 3 * q) (by omega), e (177 + 3 * q) (by omega), e (178 + 3 * q) (by omega)]
      exact h.q.1 q hq
    · rw [e (176 + 3 * q) (by omega), e (177 + 3 * q) (by omega), e (176 + 3 * p) (by omega), e (177 + 3 * p) (by omega)]
      exact h.q.2 p q hp hq
theorem zmod : ∀ a, a < 100 → ∀ b, b < 9 → 0 < b → nI a - nI a / nI b * nI b = nI (a % b) := by decide +kernel
def sp_at1 (r : Nat → Int32) (v : Nat) : Nat → Int32 := upd r (14 + 11 * v) (nI (((r (14 + 11 * v)).toNatClampNeg + 1) % xst r v))
def sp_drive (f : Nat → Int32) (v : Nat) (u : (Nat → Int32) × (Nat → Int32)) : (Nat → Int32) × (Nat → Int32) :=
  if xop (sp_at1 u.1 v) (u.1 (15 + 11 * v + ((u.1 (14 + 11 * v)).toNatClampNeg + 1) % xst u.1 v)) then
    (sp_take f (sp_unl f v (u.1 (15 + 11 * v + ((u.1 (14 + 11 * v)).toNatClampNeg + 1) % xst u.1 v)) (sp_at1 u.1 v, u.2) (xnk u.1)).2 v (u.1 (15 + 11 * v + ((u.1 (14 + 11 * v)).toNatClampNeg + 1) % xst u.1 v))
      (sp_unl f v (u.1 (15 + 11 * v + ((u.1 (14 + 11 * v)).toNatClampNeg + 1) % xst u.1 v)) (sp_at1 u.1 v, u.2) (xnk u.1)).1,
     (sp_unl f v (u.1 (15 + 11 * v + ((u.1 (14 + 11 * v)).toNatClampNeg + 1) % xst u.1 v)) (sp_at1 u.1 v, u.2) (xnk u.1)).2)
  else (sp_at1 u.1 v, u.2)
section RR
variable {w : xW} {l : Nat → Nat → Int64} {t : Nat} {sc : xm_Sc} {d : Nat}
theorem zc_199 {r f j : Nat → Int32} {v : Nat} {b : Int32} (hW : xWF r) (hv : v < xnv r) (hb : xil b (xnb r)) : xm_C sc xt_M (d + 5) 199 [.ref 191, .int (nI v), .int b] (xem (xMw w r f j) l t) =
    some (.inl none, xem (xMw w (sp_take f j v b r) f j) l t) := by
  have hB := hW.bd
  have hk20 := hB.k20
  have hq40 := hB.q40
  have hv4 := hB.v4
  have hb6 := hB.b6
  obtain ⟨jk, e⟩ := xlpJ (fun s (jk : Value) => xm_R sc xt_M (d + 4) 199 16 [.ref 191, .int (nI v), .int b, .int (sp_takeU f j v b r s).2, .int (nI s), jk] [] (xem (xMw w (sp_takeU f j v b r s).1 f j) l t)) 3 (by
    intro s jk hs
    obtain ⟨h1, h2⟩ := @sp_takeU_ok f j r v b hW hv s
    obtain ⟨jk', e⟩ := @z199f w l t sc d r f j v b (nI s) hv hb (xnk r) 0 (sp_takeU f j v b r s) (by omega) h1 h2
    refine ⟨jk', ?_⟩
    rw [yb_199_16, if_neg (show ¬ (3 : Int32) ≤ nI s from nI_ge (b := 3) hs (by omega))]
    rw [← nI_succ] at e
    exact e) .null
  rw [yc_199]
  have e2 := e.trans yb_199_16
  rw [if_pos (show (3 : Int32) ≤ nI 3 from nI_le (Nat.le_refl 3) (by omega))] at e2
  refine Eq.trans ?_ e2
  simp (disch := first | omega | assumption | (rw [xR_M]; first | omega | assumption)) only [↓zbE, zbd_some, ↓xk_I, ↓xk_v, xgM_5, xiM, zRa, zRw, xR_s, xRs_s, zB_0, zB_1, zB_b01, ite_not, ↓reduceIte, nI_ge, zRa_0, zRa_1, zRa_2, zRa_3, zRa_4, zRa_5, zRw_0, zRw_1, zRw_2, zRw_3, zRw_4, zRw_5, zxV_0, zxV_1, zxV_2, zxK_0, zxK_1, zxK_2, zxK_3, zxK_4, zxK_5, zxQ_0, zxQ_1, zxQ_2, zxV_s, zxO, zxF, zc_161_0, zc_161_1, zc_161_2, zc_162_0, zc_162_1, zc_162_2, zc_163_0, zc_163_1, zc_163_2, zc_163_3, zc_163_4, zc_163_5, zc_164_0, zc_164_1, zc_164_2, zc_164_3, zc_164_4, zc_164_5, zc_165_0, zc_165_1, zc_165_2, zc_161_s, zc_162_s, zc_160, zc_166, zc_167, zc_168, zc_158, zc_159, zc_170, zc_169, zc_183, zc_184, zc_177, zc_178, zc_179, zc_180, zc_185, zc_186, zc_181, zc_182, zc_187, zc_188, zc_189, zc_190, zc_204, zc_205, zc_210, zc_214, zc_215, zc_216, zc_217, zc_219, zc_206, zFa, zFw, xF_s, xFs_s, xR_F, xgM_9, zc_193, zc_192, zc_191, zc_193x, zc_194, zc_198, zc_195, zc_196, z10, zS, xR_M, xF_M, xJ_M, xRs_M, xFs_M, xJs_M, zJa, zJw, xgM_11, zu1, zc_197]
  rfl
theorem zc_200 {r f j : Nat → Int32} {v : Nat} (hW : xWF r) (hv : v < xnv r) : xm_C sc xt_M (d + 6) 200 [.ref 191, .int (nI v)] (xem (xMw w r f j) l t) =
    some (.inl none, xem (xMw w (sp_drive f v (r, j)).1 f (sp_drive f v (r, j)).2) l t) := by
  have hB := hW.bd
  have hk20 := hB.k20
  have hq40 := hB.q40
  have hv4 := hB.v4
  have hb6 := hB.b6
  obtain ⟨p1, p2, p3, p4, p5⟩ := hW.v v hv
  have st := hW.st hv
  have h9 := hW.st9 hv
  have hp := p4.1
  have hp2 := p4.2
  have hm : ((r (14 + 11 * v)).toNatClampNeg + 1) % xst r v < xst r v := Nat.mod_lt _ (by omega)
  have hz : nI ((r (14 + 11 * v)).toNatClampNeg + 1) - nI ((r (14 + 11 * v)).toNatClampNeg + 1) / nI (xst r v) * nI (xst r v) = nI (((r (14 + 11 * v)).toNatClampNeg + 1) % xst r v) := zmod _ (by omega) _ (by omega) (by omega)
  have hbr := p5 _ hm
  unfold sp_drive sp_at1
  generalize ((r (14 + 11 * v)).toNatClampNeg + 1) % xst r v = m at *
  have hW1 : xWF (upd r (14 + 11 * v) (nI m)) := xWF_at hW hv (xil_nI hm (by omega))
  have hib : xib (r (15 + 11 * v + m)) := xil_ib hW hbr
  have st0 : ¬ nI (xst r v) = 0 := fun h => by
    have h2 := nI_inj (a := xst r v) (b := 0) (by omega) (by omega) h
    omega
  have en : ∀ i, i ≠ 14 + 11 * v → upd r (14 + 11 * v) (nI m) i = r i := fun i hi => if_neg hi
  have eb : xnb (upd r (14 + 11 * v) (nI m)) = xnb r := by unfold xnb; rw [en 0 (by omega)]
  have ev : xnv (upd r (14 + 11 * v) (nI m)) = xnv r := by unfold xnv; rw [en 1 (by omega)]
  have ek : xnk (upd r (14 + 11 * v) (nI m)) = xnk r := by unfold xnk; rw [en 2 (by omega)]
  have eat : r (14 + 11 * v) + 1 = nI ((r (14 + 11 * v)).toNatClampNeg + 1) := by rw [nI_succ, ← hp]
  rw [yc_200]
  by_cases ho : xop (upd r (14 + 11 * v) (nI m)) (r (15 + 11 * v + m))
  · rw [if_pos ho]
    obtain ⟨g1, g2⟩ := @sp_unl_ok f (upd r (14 + 11 * v) (nI m)) j v (r (15 + 11 * v + m)) hW1 (by rw [eb]; exact hbr) (xnk r) (by omega)
    have hv1 : v < xnv (upd r (14 + 11 * v) (nI m)) := by omega
    have hb1 : xil (r (15 + 11 * v + m)) (xnb (upd r (14 + 11 * v) (nI m))) := by rw [eb]; exact hbr
    have hv2 := hv1
    rw [← g2.v] at hv2
    have hb2 := hb1
    rw [← g2.b] at hb2
    simp (disch := first | omega | assumption | (rw [xR_M]; first | omega | assumption)) only [↓zbE, zbd_some, ↓xk_I, ↓xk_v, xgM_5, xiM, zRa, zRw, xR_s, xRs_s, zB_0, zB_1, zB_b01, ite_not, ↓reduceIte, nI_ge, zRa_0, zRa_1, zRa_2, zRa_3, zRa_4, zRa_5, zRw_0, zRw_1, zRw_2, zRw_3, zRw_4, zRw_5, zxV_0, zxV_1, zxV_2, zxK_0, zxK_1, zxK_2, zxK_3, zxK_4, zxK_5, zxQ_0, zxQ_1, zxQ_2, zxV_s, zxO, zxF, zc_161_0, zc_161_1, zc_161_2, zc_162_0, zc_162_1, zc_162_2, zc_163_0, zc_163_1, zc_163_2, zc_163_3, zc_163_4, zc_163_5, zc_164_0, zc_164_1, zc_164_2, zc_164_3, zc_164_4, zc_164_5, zc_165_0, zc_165_1, zc_165_2, zc_161_s, zc_162_s, zc_160, zc_166, zc_167, zc_168, zc_158, zc_159, zc_170, zc_169, zc_183, zc_184, zc_177, zc_178, zc_179, zc_180, zc_185, zc_186, zc_181, zc_182, zc_187, zc_188, zc_189, zc_190, zc_204, zc_205, zc_210, zc_214, zc_215, zc_216, zc_217, zc_219, zc_206, zFa, zFw, xF_s, xFs_s, xR_F, xgM_9, zc_193, zc_192, zc_191, zc_193x, zc_194, zc_198, zc_195, zc_196, z10, zS, xR_M, xF_M, xJ_M, xRs_M, xFs_M, xJs_M, zJa, zJw, xgM_11, zu1, zc_197, eq_true ho, zu1, hz, st, st0, en, eat, ek, yb_200_55, zc_199]
  · rw [if_neg ho]
    simp (disch := first | omega | assumption | (rw [xR_M]; first | omega | assumption)) only [↓zbE, zbd_some, ↓xk_I, ↓xk_v, xgM_5, xiM, zRa, zRw, xR_s, xRs_s, zB_0, zB_1, zB_b01, ite_not, ↓reduceIte, nI_ge, zRa_0, zRa_1, zRa_2, zRa_3, zRa_4, zRa_5, zRw_0, zRw_1, zRw_2, zRw_3, zRw_4, zRw_5, zxV_0, zxV_1, zxV_2, zxK_0, zxK_1, zxK_2, zxK_3, zxK_4, zxK_5, zxQ_0, zxQ_1, zxQ_2, zxV_s, zxO, zxF, zc_161_0, zc_161_1, zc_161_2, zc_162_0, zc_162_1, zc_162_2, zc_163_0, zc_163_1, zc_163_2, zc_163_3, zc_163_4, zc_163_5, zc_164_0, zc_164_1, zc_164_2, zc_164_3, zc_164_4, zc_164_5, zc_165_0, zc_165_1, zc_165_2, zc_161_s, zc_162_s, zc_160, zc_166, zc_167, zc_168, zc_158, zc_159, zc_170, zc_169, zc_183, zc_184, zc_177, zc_178, zc_179, zc_180, zc_185, zc_186, zc_181, zc_182, zc_187, zc_188, zc_189, zc_190, zc_204, zc_205, zc_210, zc_214, zc_215, zc_216, zc_217, zc_219, zc_206, zFa, zFw, xF_s, xFs_s, xR_F, xgM_9, zc_193, zc_192, zc_191, zc_193x, zc_194, zc_198, zc_195, zc_196, z10, zS, xR_M, xF_M, xJ_M, xRs_M, xFs_M, xJs_M, zJa, zJw, xgM_11, zu1, zc_197, eq_false ho, zu1, hz, st, st0, en, eat, ek, yb_200_55, zc_199]
end RR
