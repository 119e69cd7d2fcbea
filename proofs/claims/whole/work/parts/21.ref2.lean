/-! THE REFERENCE's middle methods -/
/-- a row as it stands between two calls -/
def xWn (r : Nat → Int32) : Prop := 2 ≤ xnb r ∧ 1 ≤ xnv r ∧ xil (r 4) 20000 ∧ xil (r 5) 51
def xWo (r : Nat → Int32) : Prop := ∀ b, b < 6 → r (6 + b) = 0 ∨ r (6 + b) = 1
abbrev xst (r : Nat → Int32) (v : Nat) : Nat := (r (13 + 11 * v)).toNatClampNeg
def xWv (r : Nat → Int32) : Prop := ∀ v, v < xnv r → xil (r (12 + 11 * v)) 10 ∧ xil (r (13 + 11 * v)) 9 ∧ 2 ≤ xst r v ∧ xil (r (14 + 11 * v)) (xst r v) ∧ ∀ s, s < xst r v → xil (r (15 + 11 * v + s)) (xnb r)
def xWk (r : Nat → Int32) : Prop := ∀ k, k < xnk r → xil (r (56 + 6 * k)) 5 ∧ xil (r (58 + 6 * k)) (xnb r) ∧ (r (59 + 6 * k) = 0 ∨ r (59 + 6 * k) = 1) ∧
  (r (56 + 6 * k) = 0 ∨ r (56 + 6 * k) = 2 → xil (r (57 + 6 * k)) (xnb r)) ∧ (r (56 + 6 * k) = 1 → xil (r (57 + 6 * k)) (xnv r)) ∧ (r (56 + 6 * k) = 3 ∨ r (56 + 6 * k) = 4 → r (57 + 6 * k) = -1) ∧
  (r (56 + 6 * k) = 2 → ∃ q, q < xnq r ∧ r (176 + 3 * q) = nI k ∧ r (177 + 3 * q) = r (60 + 6 * k)) ∧ (r (56 + 6 * k) = 3 → xil (r (60 + 6 * k)) 100)
def xWq (r : Nat → Int32) : Prop := (∀ q, q < xnq r → xil (r (176 + 3 * q)) (xnk r) ∧ xil (r (177 + 3 * q)) 100 ∧ xil (r (178 + 3 * q)) (xnb r)) ∧
  ∀ p q, p < q → q < xnq r → r (176 + 3 * p) = r (176 + 3 * q) → r (177 + 3 * p) = r (177 + 3 * q) → False
def xWF (r : Nat → Int32) : Prop := xBd r ∧ xWn r ∧ xWo r ∧ xWv r ∧ xWk r ∧ xWq r
def xany (p : Nat → Bool) : Nat → Bool
  | 0 => false
  | n + 1 => xany p n || p n
theorem xany_iff {p : Nat → Bool} {n : Nat} : xany p n = true ↔ ∃ i, i < n ∧ p i = true := by
  induction n with
  | zero => exact ⟨fun h => (by cases h), fun ⟨i, h, _⟩ => absurd h (Nat.not_lt_zero i)⟩
  | succ n ih =>
    unfold xany
    rw [Bool.or_eq_true, ih]
    constructor
    · rintro (⟨i, h1, h2⟩ | h)
      · exact ⟨i, by omega, h2⟩
      · exact ⟨n, by omega, h⟩
    · rintro ⟨i, h1, h2⟩
      by_cases e : i = n
      · exact Or.inr (e ▸ h2)
      · exact Or.inl ⟨i, by omega, h2⟩
def sp_has (r : Nat → Int32) (v : Nat) (b : Int32) : Bool := xany (fun s => decide (r (15 + 11 * v + s) = b)) (xst r v)
def sp_link (r : Nat → Int32) (a b : Int32) : Bool := xany (fun v => sp_has r v a && sp_has r v b) (xnv r)
section WF
variable {r : Nat → Int32}
theorem xWF.bd (h : xWF r) : xBd r := h.1
theorem xWF.n (h : xWF r) : xWn r := h.2.1
theorem xWF.o (h : xWF r) : xWo r := h.2.2.1
theorem xWF.v (h : xWF r) : xWv r := h.2.2.2.1
theorem xWF.k (h : xWF r) : xWk r := h.2.2.2.2.1
theorem xWF.q (h : xWF r) : xWq r := h.2.2.2.2.2
theorem xWF.qb (h : xWF r) {q : Nat} (hq : q < xnq r) : xib (r (178 + 3 * q)) := xil_le (h.q.1 q hq).2.2 h.bd.b6
theorem xWF.hm (h : xWF r) {k : Nat} (hk : k < xnk r) : xib (r (58 + 6 * k)) := xil_le (h.k k hk).2.1 h.bd.b6
theorem xWF.st (h : xWF r) {v : Nat} (hv : v < xnv r) : r (13 + 11 * v) = nI (xst r v) := (h.v v hv).2.1.1
theorem xWF.st9 (h : xWF r) {v : Nat} (hv : v < xnv r) : xst r v < 9 := (h.v v hv).2.1.2
end WF
section RG
variable {w : xW} {l : Nat → Nat → Int64} {t : Nat} {sc : xm_Sc} {d : Nat}
theorem zc_177 {b rd : Int32} (hB : xBd (xR w)) : xm_C sc xt_M (d + 2) 177 [.ref 191, .int b, .int rd] (xem w l t) = some (.inl (some (.int (toJ (sp_by (xR w) b rd)))), xem w l t) := by
  have hq40 := hB.q40
  rw [yc_177]
  refine (xlf (fun i => xm_R sc xt_M (d + 1) 177 2 [.ref 191, .int b, .int rd, .int (nI i)] [] (xem w l t)) (p := fun q => xR w (176 + 3 * q) = b ∧ xR w (177 + 3 * q) = rd) (K := fun i => some (.inl (some (.int (nI i))), xem w l t)) (E := some (.inl (some (.int (-1))), xem w l t)) (xnq (xR w)) ?_ ?_).trans ?_
  · intro i hi
    rw [yb_177_2]
    simp (disch := omega) only [↓zbE, zbd_some, ↓xk_I, ↓xk_v, xgM_5, xiM, zRa, zRw, xR_s, xRs_s, zB_0, zB_1, zB_b01, ite_not, ↓reduceIte, nI_ge, zRa_0, zRa_1, zRa_2, zRa_3, zRa_4, zRa_5, zRw_0, zRw_1, zRw_2, zRw_3, zRw_4, zRw_5, zxV_0, zxV_1, zxV_2, zxK_0, zxK_1, zxK_2, zxK_3, zxK_4, zxK_5, zxQ_0, zxQ_1, zxQ_2, zxV_s, zxO, zxF, zc_161_0, zc_161_1, zc_161_2, zc_162_0, zc_162_1, zc_162_2, zc_163_0, zc_163_1, zc_163_2, zc_163_3, zc_163_4, zc_163_5, zc_164_0, zc_164_1, zc_164_2, zc_164_3, zc_164_4, zc_164_5, zc_165_0, zc_165_1, zc_165_2, zc_161_s, zc_162_s, zc_160, zc_166, zc_167, zc_168, zc_158, zc_159, zc_170, zc_169, zc_183, zc_184, zS, yb_177_34, hB.q]
    by_cases h1 : xR w (176 + 3 * i) = b
    · rw [if_pos h1]
      by_cases h2 : xR w (177 + 3 * i) = rd
      · rw [if_pos h2, if_pos ⟨h1, h2⟩]
      · rw [if_neg h2, if_neg (fun h => h2 h.2)]
    · rw [if_neg h1, if_neg (fun h => h1 h.1)]
  · rw [yb_177_2]
    simp (disch := omega) only [zbs, xgM_5, zRa_0, zRa_1, zRa_2, zRa_3, nI_le, ↓reduceIte, hB.q]
  · unfold sp_by
    split <;> rename_i h <;> rw [h] <;> rfl
theorem zc_180 {b pl : Int32} (hB : xBd (xR w)) : xm_C sc xt_M (d + 3) 180 [.ref 191, .int b, .int pl] (xem w l t) = some (.inl (some (.int (toJ (sp_at (xR w) b pl)))), xem w l t) := by
  have hq40 := hB.q40
  rw [yc_180]
  refine (xlf (fun i => xm_R sc xt_M (d + 2) 180 2 [.ref 191, .int b, .int pl, .int (nI i)] [] (xem w l t)) (p := fun q => xR w (176 + 3 * q) = b ∧ sp_rank (xR w) q = pl) (K := fun i => some (.inl (some (.int (nI i))), xem w l t)) (E := some (.inl (some (.int (-1))), xem w l t)) (xnq (xR w)) ?_ ?_).trans ?_
  · intro i hi
    rw [yb_180_2]
    simp (disch := omega) only [↓zbE, zbd_some, ↓xk_I, ↓xk_v, xgM_5, xiM, zRa, zRw, xR_s, xRs_s, zB_0, zB_1, zB_b01, ite_not, ↓reduceIte, nI_ge, zRa_0, zRa_1, zRa_2, zRa_3, zRa_4, zRa_5, zRw_0, zRw_1, zRw_2, zRw_3, zRw_4, zRw_5, zxV_0, zxV_1, zxV_2, zxK_0, zxK_1, zxK_2, zxK_3, zxK_4, zxK_5, zxQ_0, zxQ_1, zxQ_2, zxV_s, zxO, zxF, zc_161_0, zc_161_1, zc_161_2, zc_162_0, zc_162_1, zc_162_2, zc_163_0, zc_163_1, zc_163_2, zc_163_3, zc_163_4, zc_163_5, zc_164_0, zc_164_1, zc_164_2, zc_164_3, zc_164_4, zc_164_5, zc_165_0, zc_165_1, zc_165_2, zc_161_s, zc_162_s, zc_160, zc_166, zc_167, zc_168, zc_158, zc_159, zc_170, zc_169, zc_183, zc_184, zS, yb_180_33, hB.q, zc_179]
    by_cases h1 : xR w (176 + 3 * i) = b
    · rw [if_pos h1]
      by_cases h2 : sp_rank (xR w) i = pl
      · rw [if_pos h2, if_pos ⟨h1, h2⟩]
      · rw [if_neg h2, if_neg (fun h => h2 h.2)]
    · rw [if_neg h1, if_neg (fun h => h1 h.1)]
  · rw [yb_180_2]
    simp (disch := omega) only [zbs, xgM_5, zRa_0, zRa_1, zRa_2, zRa_3, nI_le, ↓reduceIte, hB.q]
  · unfold sp_at
    split <;> rename_i h <;> rw [h] <;> rfl
theorem zc_187 {b : Int32} (hW : xWF (xR w)) : xm_C sc xt_M (d + 2) 187 [.ref 191, .int b] (xem w l t) = some (.inl (some (.int (toJ (sp_first (xR w) b)))), xem w l t) := by
  have hB := hW.bd
  have hk20 := hB.k20
  have hq40 := hB.q40
  have hv4 := hB.v4
  have hb6 := hB.b6
  rw [yc_187]
  refine (xlf (fun i => xm_R sc xt_M (d + 1) 187 2 [.ref 191, .int b, .int (nI i)] [] (xem w l t)) (p := fun q => xR w (176 + 3 * q) = b ∧ xop (xR w) (xR w (178 + 3 * q))) (K := fun i => some (.inl (some (.int (nI i))), xem w l t)) (E := some (.inl (some (.int (-1))), xem w l t)) (xnq (xR w)) ?_ ?_).trans ?_
  · intro i hi
    rw [yb_187_2]
    simp (disch := first | omega | exact hW.qb (by omega)) only [↓zbE, zbd_some, ↓xk_I, ↓xk_v, xgM_5, xiM, zRa, zRw, xR_s, xRs_s, zB_0, zB_1, zB_b01, ite_not, ↓reduceIte, nI_ge, zRa_0, zRa_1, zRa_2, zRa_3, zRa_4, zRa_5, zRw_0, zRw_1, zRw_2, zRw_3, zRw_4, zRw_5, zxV_0, zxV_1, zxV_2, zxK_0, zxK_1, zxK_2, zxK_3, zxK_4, zxK_5, zxQ_0, zxQ_1, zxQ_2, zxV_s, zxO, zxF, zc_161_0, zc_161_1, zc_161_2, zc_162_0, zc_162_1, zc_162_2, zc_163_0, zc_163_1, zc_163_2, zc_163_3, zc_163_4, zc_163_5, zc_164_0, zc_164_1, zc_164_2, zc_164_3, zc_164_4, zc_164_5, zc_165_0, zc_165_1, zc_165_2, zc_161_s, zc_162_s, zc_160, zc_166, zc_167, zc_168, zc_158, zc_159, zc_170, zc_169, zc_183, zc_184, zS, yb_187_37, hB.q]
    by_cases h1 : xR w (176 + 3 * i) = b
    · rw [if_pos h1]
      by_cases h2 : xop (xR w) (xR w (178 + 3 * i))
      · rw [if_pos h2, if_pos ⟨h1, h2⟩]
      · rw [if_neg h2, if_neg (fun h => h2 h.2)]
    · rw [if_neg h1, if_neg (fun h => h1 h.1)]
  · rw [yb_187_2]
    simp (disch := omega) only [zbs, xgM_5, zRa_0, zRa_1, zRa_2, zRa_3, nI_le, ↓reduceIte, hB.q]
  · unfold sp_first
    split <;> rename_i h <;> rw [h] <;> rfl
theorem zc_181 {k : Nat} {st pl : Int32} (hk : k < 20) : xm_C sc xt_M (d + 2) 181 [.ref 191, .int (nI k), .int st, .int pl] (xem w l t) = some (.inl none, xem (xRs w (sp_put (xR w) k st pl)) l t) := by
  rw [yc_181]
  simp (disch := omega) only [↓zbE, zbd_some, ↓xk_I, ↓xk_v, xgM_5, xiM, zRa, zRw, xR_s, xRs_s, zB_0, zB_1, zB_b01, ite_not, ↓reduceIte, nI_ge, zRa_0, zRa_1, zRa_2, zRa_3, zRa_4, zRa_5, zRw_0, zRw_1, zRw_2, zRw_3, zRw_4, zRw_5, zxV_0, zxV_1, zxV_2, zxK_0, zxK_1, zxK_2, zxK_3, zxK_4, zxK_5, zxQ_0, zxQ_1, zxQ_2, zxV_s, zxO, zxF, zc_161_0, zc_161_1, zc_161_2, zc_162_0, zc_162_1, zc_162_2, zc_163_0, zc_163_1, zc_163_2, zc_163_3, zc_163_4, zc_163_5, zc_164_0, zc_164_1, zc_164_2, zc_164_3, zc_164_4, zc_164_5, zc_165_0, zc_165_1, zc_165_2, zc_161_s, zc_162_s, zc_160, zc_166, zc_167, zc_168, zc_158, zc_159, zc_170, zc_169, zc_183, zc_184, zc_177, zc_178, zc_179, zc_180, zc_185, zc_186]
  rfl
theorem zc_182 {k : Nat} {pl : Int32} (hk : k < 20) : xm_C sc xt_M (d + 3) 182 [.ref 191, .int (nI k), .int pl] (xem w l t) = some (.inl none, xem (xRs w (sp_put (xR w) k 0 pl)) l t) := by
  rw [yc_182]
  simp (disch := omega) only [↓zbE, zbd_some, ↓xk_I, ↓xk_v, xgM_5, xiM, zRa, zRw, xR_s, xRs_s, zB_0, zB_1, zB_b01, ite_not, ↓reduceIte, nI_ge, zRa_0, zRa_1, zRa_2, zRa_3, zRa_4, zRa_5, zRw_0, zRw_1, zRw_2, zRw_3, zRw_4, zRw_5, zxV_0, zxV_1, zxV_2, zxK_0, zxK_1, zxK_2, zxK_3, zxK_4, zxK_5, zxQ_0, zxQ_1, zxQ_2, zxV_s, zxO, zxF, zc_161_0, zc_161_1, zc_161_2, zc_162_0, zc_162_1, zc_162_2, zc_163_0, zc_163_1, zc_163_2, zc_163_3, zc_163_4, zc_163_5, zc_164_0, zc_164_1, zc_164_2, zc_164_3, zc_164_4, zc_164_5, zc_165_0, zc_165_1, zc_165_2, zc_161_s, zc_162_s, zc_160, zc_166, zc_167, zc_168, zc_158, zc_159, zc_170, zc_169, zc_183, zc_184, zc_177, zc_178, zc_179, zc_180, zc_185, zc_186, zc_181]
theorem sp_first_lt {r : Nat → Int32} {b : Int32} {q : Nat} (h : sp_first r b = some q) : q < xnq r := by
  have := xfst_some h
  omega
theorem toJ_ne {q : Nat} (h : q < 2 ^ 31) : ¬ nI q = -1 := by
  intro e
  have h1 := nI_pos (n := q) h
  rw [e] at h1
  exact h1 (by decide)
theorem zc_188 {k : Nat} (hk : k < xnk (xR w)) (hW : xWF (xR w)) : xm_C sc xt_M (d + 3) 188 [.ref 191, .int (nI k)] (xem w l t) = some (.inl (some (.int (sp_goal (xR w) k))), xem w l t) := by
  have hB := hW.bd
  have hk20 := hB.k20
  have hq40 := hB.q40
  have hv4 := hB.v4
  have hb6 := hB.b6
  have hh := hW.hm hk
  rw [yc_188]
  unfold sp_goal sp_want
  by_cases h1 : xR w (59 + 6 * k) = 1
  · simp (disch := first | omega | assumption) only [↓zbE, zbd_some, ↓xk_I, ↓xk_v, xgM_5, xiM, zRa, zRw, xR_s, xRs_s, zB_0, zB_1, zB_b01, ite_not, ↓reduceIte, nI_ge, zRa_0, zRa_1, zRa_2, zRa_3, zRa_4, zRa_5, zRw_0, zRw_1, zRw_2, zRw_3, zRw_4, zRw_5, zxV_0, zxV_1, zxV_2, zxK_0, zxK_1, zxK_2, zxK_3, zxK_4, zxK_5, zxQ_0, zxQ_1, zxQ_2, zxV_s, zxO, zxF, zc_161_0, zc_161_1, zc_161_2, zc_162_0, zc_162_1, zc_162_2, zc_163_0, zc_163_1, zc_163_2, zc_163_3, zc_163_4, zc_163_5, zc_164_0, zc_164_1, zc_164_2, zc_164_3, zc_164_4, zc_164_5, zc_165_0, zc_165_1, zc_165_2, zc_161_s, zc_162_s, zc_160, zc_166, zc_167, zc_168, zc_158, zc_159, zc_170, zc_169, zc_183, zc_184, zc_177, zc_178, zc_179, zc_180, zc_185, zc_186, zc_181, zc_182, h1, hh]
    split <;> rfl
  · simp only [h1, ↓reduceIte]
    cases h2 : sp_first (xR w) (nI k) with
    | none =>
      simp (disch := first | omega | assumption) only [↓zbE, zbd_some, ↓xk_I, ↓xk_v, xgM_5, xiM, zRa, zRw, xR_s, xRs_s, zB_0, zB_1, zB_b01, ite_not, ↓reduceIte, nI_ge, zRa_0, zRa_1, zRa_2, zRa_3, zRa_4, zRa_5, zRw_0, zRw_1, zRw_2, zRw_3, zRw_4, zRw_5, zxV_0, zxV_1, zxV_2, zxK_0, zxK_1, zxK_2, zxK_3, zxK_4, zxK_5, zxQ_0, zxQ_1, zxQ_2, zxV_s, zxO, zxF, zc_161_0, zc_161_1, zc_161_2, zc_162_0, zc_162_1, zc_162_2, zc_163_0, zc_163_1, zc_163_2, zc_163_3, zc_163_4, zc_163_5, zc_164_0, zc_164_1, zc_164_2, zc_164_3, zc_164_4, zc_164_5, zc_165_0, zc_165_1, zc_165_2, zc_161_s, zc_162_s, zc_160, zc_166, zc_167, zc_168, zc_158, zc_159, zc_170, zc_169, zc_183, zc_184, zc_177, zc_178, zc_179, zc_180, zc_185, zc_186, zc_181, zc_182, h1, zc_187, h2, toJ]
      split <;> rfl
    | some q =>
      have h3 := sp_first_lt h2
      have h4 := toJ_ne (q := q) (by omega)
      simp (disch := first | omega | assumption) only [↓zbE, zbd_some, ↓xk_I, ↓xk_v, xgM_5, xiM, zRa, zRw, xR_s, xRs_s, zB_0, zB_1, zB_b01, ite_not, ↓reduceIte, nI_ge, zRa_0, zRa_1, zRa_2, zRa_3, zRa_4, zRa_5, zRw_0, zRw_1, zRw_2, zRw_3, zRw_4, zRw_5, zxV_0, zxV_1, zxV_2, zxK_0, zxK_1, zxK_2, zxK_3, zxK_4, zxK_5, zxQ_0, zxQ_1, zxQ_2, zxV_s, zxO, zxF, zc_161_0, zc_161_1, zc_161_2, zc_162_0, zc_162_1, zc_162_2, zc_163_0, zc_163_1, zc_163_2, zc_163_3, zc_163_4, zc_163_5, zc_164_0, zc_164_1, zc_164_2, zc_164_3, zc_164_4, zc_164_5, zc_165_0, zc_165_1, zc_165_2, zc_161_s, zc_162_s, zc_160, zc_166, zc_167, zc_168, zc_158, zc_159, zc_170, zc_169, zc_183, zc_184, zc_177, zc_178, zc_179, zc_180, zc_185, zc_186, zc_181, zc_182, h1, zc_187, h2, toJ, h4]
end RG
