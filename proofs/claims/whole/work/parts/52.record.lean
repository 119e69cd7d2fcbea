/-! THE REFERENCE: record -/
def xUc (w : xW) (x : Int32) : xW := xu w 3 (xs1 (w 3) 1 x)
section UC
variable {w : xW} {x : Int32}
theorem xUc_ne {g : Nat} (h : g ≠ 3) : xUc w x g = w g := xu_ne h
theorem xUc_1 {i : Nat} (h : i ≠ 1) : (xUc w x 3).1 i = (w 3).1 i := by
  unfold xUc
  rw [xu_same]
  exact if_neg h
theorem xUc_c : (xUc w x 3).1 1 = x := by
  unfold xUc
  rw [xu_same]
  rfl
theorem xUc_2 {a : Nat} : (xUc w x 3).2 a = (w 3).2 a := by
  unfold xUc
  rw [xu_same]
  rfl
end UC
/-- the history after a record; n: how many there were -/
def xHist (w w' : xW) (n : Nat) : Prop := (w' 3).1 1 = nI (if n = 10 then 10 else n + 1) ∧ (∀ p i, p < (if n = 10 then 9 else n) → i < 296 → (w' 3).2 4 (296 * p + i) = (w 3).2 4 (296 * (if n = 10 then p + 1 else p) + i)) ∧
  ∀ i, i < 296 → (w' 3).2 4 (296 * (if n = 10 then 9 else n) + i) = (w 3).2 0 i
/-- all but the history is kept -/
def xKr (w w' : xW) : Prop := (∀ g, g ≠ 3 → w' g = w g) ∧ (∀ i, i ≠ 1 → (w' 3).1 i = (w 3).1 i) ∧ ∀ a, a ≠ 4 → (w' 3).2 a = (w 3).2 a
theorem xKr.ri {w w' : xW} (h : xKr w w') : xri (w' 3) = xri (w 3) := by
  unfold xri
  rw [h.2.1 0 (by omega)]
theorem xKr.R {w w' : xW} (h : xKr w w') : xR w' = xR w := by
  unfold xR
  rw [h.ri, h.2.2 _ (by have := @xri_lt (w 3); omega)]
def xSh (w : xW) : Nat → xW
  | 0 => w
  | i + 1 => xcp (xSh w i) 4 (i + 1) 4 i 296
theorem xSh_ok {w : xW} : ∀ i, (∀ g, g ≠ 3 → xSh w i g = w g) ∧ (xSh w i 3).1 = (w 3).1 ∧ (∀ a, a ≠ 4 → (xSh w i 3).2 a = (w 3).2 a) ∧ ∀ p q, q < 296 → (xSh w i 3).2 4 (296 * p + q) = (w 3).2 4 (296 * (if p < i then p + 1 else p) + q) := by
  intro i
  induction i with
  | zero => exact ⟨fun _ _ => rfl, rfl, fun _ _ => rfl, fun p q _ => rfl⟩
  | succ i ih =>
    obtain ⟨h1, h2, h3, h4⟩ := ih
    refine ⟨fun g hg => (xcp_ne hg).trans (h1 g hg), xcp_1.trans h2, fun a ha => (xcp_2 ha).trans (h3 a ha), fun p q hq => ?_⟩
    show (xcp (xSh w i) 4 (i + 1) 4 i 296 3).2 4 (296 * p + q) = _
    rw [xcp_b]
    by_cases hp : p = i
    · subst hp
      rw [if_pos (by omega), if_pos (by omega), show 296 * (p + 1) + (296 * p + q - 296 * p) = 296 * (p + 1) + q by omega, h4 (p + 1) q hq, if_neg (by omega)]
    · rw [if_neg (by omega), h4 p q hq]
      by_cases h : p < i
      · rw [if_pos h, if_pos (by omega)]
      · rw [if_neg h, if_neg (by omega)]
section SJ
variable {w : xW} {l : Nat → Nat → Int64} {t : Nat} {sc : xm_Sc} {d : Nat}
theorem xgM_6c : xm_gI (xem w l t) 191 8 6 = some ((w 3).1 1) := xgM_6
theorem xsM_6c {x : Int32} : xm_sF (xem w l t) 191 8 6 (.int x) = some (xem (xUc w x) l t) := xsM_6
theorem zc_258_h {n : Nat} (hn : n < 10) : xm_C sc xt_M (d + 1) 258 [.ref (xm 0), .int 0, .ref (xm 4), .int (nI n)] (xem w l t) = some (.inl none, xem (xcp w 0 0 4 n 296) l t) :=
  zc_258 (p := 0) (by omega) (by omega) (by unfold xcap; split <;> omega) (by unfold xcap; split <;> omega) (Or.inl (by omega))
theorem zc_258_b {n : Nat} (hn : n < 10) : xm_C sc xt_M (d + 1) 258 [.ref (xm 4), .int (nI n), .ref (xm 0), .int 0] (xem w l t) = some (.inl none, xem (xcp w 4 n 0 0 296) l t) :=
  zc_258 (q := 0) (by omega) (by omega) (by unfold xcap; split <;> omega) (by unfold xcap; split <;> omega) (Or.inl (by omega))
theorem zc_258_4 {p q : Nat} (hp : p < 10) (hq : q < 10) (hd : p ≠ q) : xm_C sc xt_M (d + 1) 258 [.ref (xm 4), .int (nI p), .ref (xm 4), .int (nI q)] (xem w l t) = some (.inl none, xem (xcp w 4 p 4 q 296) l t) :=
  zc_258 (by omega) (by omega) (by unfold xcap; split <;> omega) (by unfold xcap; split <;> omega) (Or.inr hd)
theorem z259 {n : Nat} {v1 : Value} (hn : n < 10) (hc : (w 3).1 1 = nI n) : xm_R sc xt_M (d + 1) 259 48 [.ref 191, v1] [] (xem w l t) = some (.inl none, xem (xUc (xcp w 0 0 4 n 296) (nI (n + 1))) l t) := by
  have h1 : (xcp w 0 0 4 n 296 3).1 1 = nI n := by rw [xcp_1]; exact hc
  rw [yb_259_48]
  simp (disch := first | omega | assumption | (rw [xR_u]; first | omega | assumption)) only [↓zbE, zbd_some, ↓xk_I, ↓xk_v, xgM_5, xiM, zRa, zRw, xR_s, xRs_s, zB_0, zB_1, zB_b01, ite_not, ↓reduceIte, nI_ge, zRa_0, zRa_1, zRa_2, zRa_3, zRa_4, zRa_5, zRw_0, zRw_1, zRw_2, zRw_3, zRw_4, zRw_5, zxV_0, zxV_1, zxV_2, zxK_0, zxK_1, zxK_2, zxK_3, zxK_4, zxK_5, zxQ_0, zxQ_1, zxQ_2, zxV_s, zxO, zxF, zc_161_0, zc_161_1, zc_161_2, zc_162_0, zc_162_1, zc_162_2, zc_163_0, zc_163_1, zc_163_2, zc_163_3, zc_163_4, zc_163_5, zc_164_0, zc_164_1, zc_164_2, zc_164_3, zc_164_4, zc_164_5, zc_165_0, zc_165_1, zc_165_2, zc_161_s, zc_162_s, zc_160, zc_166, zc_167, zc_168, zc_158, zc_159, zc_169, zc_183, zc_184, zc_177, zc_178, zc_179, zc_180, zc_185, zc_186, zc_181, zc_182, zc_187, zc_188, zc_189, zc_190, zc_204, zc_205, zc_210, zc_214, zc_215, zc_216, zc_217, zc_219, zc_206, zc_170_0, zc_170_1, xT_T, xR_T, xsM_7T, z10, zc_211, zc_218, zc_212, zc_220, zc_221, zc_222, zc_234, zFa, zFw, xF_s, xFs_s, xR_F, xgM_9, zc_193, zc_192, zc_191, zc_225, zc_229, zc_226, zc_227, zc_235, zc_260, zc_265, zc_213, zS, xR_u, zc_203u, zc_228, zc_258_0, xgM_0, xgM_2, xgM_3, xgM_4, xgM_6c, xsM_6c, hc, h1, zc_258_h]
theorem zc_259 {n : Nat} (hn : n ≤ 10) (hc : (w 3).1 1 = nI n) : ∃ w', xm_C sc xt_M (d + 2) 259 [.ref 191] (xem w l t) = some (.inl none, xem w' l t) ∧ xKr w w' ∧ xHist w w' n := by
  by_cases h : n = 10
  · subst h
    have e := xlp (fun i => xm_R sc xt_M (d + 1) 259 11 [.ref 191, .int (nI (i + 1))] [] (xem (xSh w i) l t)) (K := some (.inl none, xem (xUc (xcp (xUc (xSh w 9) (nI 9)) 0 0 4 9 296) (nI (9 + 1))) l t)) 9 (by
      intro i hi
      show _ = xm_R sc xt_M (d + 1) 259 11 [.ref 191, .int (nI (i + 1 + 1))] [] (xem (xcp (xSh w i) 4 (i + 1) 4 i 296) l t)
      rw [yb_259_11, if_neg (show ¬ (10 : Int32) ≤ nI (i + 1) from nI_ge (b := 10) (by omega) (by omega)), nI_pred]
      simp (disch := first | omega | assumption | (rw [xR_u]; first | omega | assumption)) only [↓zbE, zbd_some, ↓xk_I, ↓xk_v, xgM_5, xiM, zRa, zRw, xR_s, xRs_s, zB_0, zB_1, zB_b01, ite_not, ↓reduceIte, nI_ge, zRa_0, zRa_1, zRa_2, zRa_3, zRa_4, zRa_5, zRw_0, zRw_1, zRw_2, zRw_3, zRw_4, zRw_5, zxV_0, zxV_1, zxV_2, zxK_0, zxK_1, zxK_2, zxK_3, zxK_4, zxK_5, zxQ_0, zxQ_1, zxQ_2, zxV_s, zxO, zxF, zc_161_0, zc_161_1, zc_161_2, zc_162_0, zc_162_1, zc_162_2, zc_163_0, zc_163_1, zc_163_2, zc_163_3, zc_163_4, zc_163_5, zc_164_0, zc_164_1, zc_164_2, zc_164_3, zc_164_4, zc_164_5, zc_165_0, zc_165_1, zc_165_2, zc_161_s, zc_162_s, zc_160, zc_166, zc_167, zc_168, zc_158, zc_159, zc_169, zc_183, zc_184, zc_177, zc_178, zc_179, zc_180, zc_185, zc_186, zc_181, zc_182, zc_187, zc_188, zc_189, zc_190, zc_204, zc_205, zc_210, zc_214, zc_215, zc_216, zc_217, zc_219, zc_206, zc_170_0, zc_170_1, xT_T, xR_T, xsM_7T, z10, zc_211, zc_218, zc_212, zc_220, zc_221, zc_222, zc_234, zFa, zFw, xF_s, xFs_s, xR_F, xgM_9, zc_193, zc_192, zc_191, zc_225, zc_229, zc_226, zc_227, zc_235, zc_260, zc_265, zc_213, zS, xR_u, zc_203u, zc_228, zc_258_0, xgM_0, xgM_2, xgM_3, xgM_4, xgM_6c, xsM_6c, zc_258_4]) (by
      rw [yb_259_11, if_pos (show (10 : Int32) ≤ nI (9 + 1) from nI_le (a := 10) (by omega) (by omega)), xgM_6c, zbs, xsM_6c, zbs, (xSh_ok 9).2.1, hc, show nI 10 - 1 = nI 9 from nI_pred 9]
      exact z259 (by omega) xUc_c)
    refine ⟨_, Eq.trans ?_ e, ?_, ?_⟩
    · rw [yc_259, xgM_6c, zbs, hc, if_pos (show nI 10 = 10 from rfl)]
      rfl
    · obtain ⟨h1, h2, h3, h4⟩ := @xSh_ok w 9
      refine ⟨fun g hg => ?_, fun i hi => ?_, fun a ha => ?_⟩
      · rw [xUc_ne hg, xcp_ne hg, xUc_ne hg, h1 g hg]
      · rw [xUc_1 hi, xcp_1, xUc_1 hi, h2]
      · rw [xUc_2, xcp_2 ha, xUc_2, h3 a ha]
    · obtain ⟨h1, h2, h3, h4⟩ := @xSh_ok w 9
      refine ⟨xUc_c, fun p i hp hi => ?_, fun i hi => ?_⟩
      · rw [if_pos rfl] at hp
        rw [if_pos rfl, xUc_2, xcp_b, if_neg (by omega), xUc_2, h4 p i hi, if_pos hp]
      · rw [if_pos rfl, xUc_2, xcp_b, if_pos (by omega), xUc_2, h3 0 (by omega), show 296 * 0 + (296 * 9 + i - 296 * 9) = i by omega]
  · refine ⟨_, Eq.trans ?_ (z259 (sc := sc) (d := d) (v1 := .null) (by omega) hc), ?_, ?_⟩
    · rw [yc_259, xgM_6c, zbs, hc]
      exact if_neg (fun (g : nI n = 10) => h (nI_inj (b := 10) (by omega) (by omega) g))
    · refine ⟨fun g hg => ?_, fun i hi => ?_, fun a ha => ?_⟩
      · rw [xUc_ne hg, xcp_ne hg]
      · rw [xUc_1 hi, xcp_1]
      · rw [xUc_2, xcp_2 ha]
    · refine ⟨?_, fun p i hp hi => ?_, fun i hi => ?_⟩
      · rw [xUc_c, if_neg h]
      · rw [if_neg h] at hp
        rw [if_neg h, xUc_2, xcp_b, if_neg (by omega)]
      · rw [if_neg h, xUc_2, xcp_b, if_pos (by omega), show 296 * 0 + (296 * n + i - 296 * n) = i by omega]
end SJ
