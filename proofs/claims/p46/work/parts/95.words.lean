/-! the words of both -/
theorem xe_lk (k : Nat) (hk : k < 26) : ∀ i, i < (xm_str k).length → ∃ c, c < 128 ∧ ((((xm_str k).getD i 0) &&& 255).toUInt32 % 65536).toInt32 = nI c ∧ ((((xm_str k).getD i 0) &&& 255).toUInt32 % 65536).toInt32 = (((((xm_str k).getD i 0) &&& 255).toUInt32 % 65536).toInt32.toUInt32 % 65536).toInt32 := by
  have h : ∀ k, k < 26 → ∀ i, i < (xm_str k).length → ((((xm_str k).getD i 0) &&& 255).toUInt32 % 65536).toInt32.toNatClampNeg < 128 ∧ ((((xm_str k).getD i 0) &&& 255).toUInt32 % 65536).toInt32 = nI (((((xm_str k).getD i 0) &&& 255).toUInt32 % 65536).toInt32.toNatClampNeg) ∧ ((((xm_str k).getD i 0) &&& 255).toUInt32 % 65536).toInt32 = (((((xm_str k).getD i 0) &&& 255).toUInt32 % 65536).toInt32.toUInt32 % 65536).toInt32 := by decide +kernel
  intro i hi
  obtain ⟨h1, h2, h3⟩ := h k hk i hi
  exact ⟨_, h1, h2, h3⟩
theorem xe_ll : ∀ k, k < 26 → 0 < (xm_str k).length ∧ (xm_str k).length < 100 ∧ (Int32.ofNat (xm_str k).length) >>> ((0 : Int32) &&& 31) = nI (xm_str k).length := by decide +kernel
/-- letter i of word k -/
def sp_ch (k i : Nat) : Int32 := ((((xm_str k).getD i 0) &&& 255).toUInt32 % 65536).toInt32
abbrev sp_ln (k : Nat) : Nat := (xm_str k).length
section SG
variable {sc : xm_Sc} {d : Nat} {S : xm_PS}
theorem xiK {k : Nat} (hk : k < 26) {S : xm_PS} : xm_isO S (.retAddr k) 100 = true := by
  show (Nat.beq 100 100 && Nat.blt k 26) = true
  have : Nat.blt k 26 = true := Nat.ble_eq_true_of_le (show k + 1 ≤ 26 by omega)
  rw [this]
  rfl
theorem ze_217 {i : Nat} {n k2 : Nat} {S : xm_PS} (h : i < n) (hn : n < 100) : xm_C sc xt_M (d + 1) 217 [.int (nI i), .int (nI n), .retAddr k2] S = some (.inl (some (.int (nI i))), S) := by
  have g1 : ¬ nI i < 0 := nI_pos (by omega)
  have g2 : nI i < nI n := nI_lt h (by omega)
  have h0 : xm_R sc xt_M d 217 0 [.int (nI i), .int (nI n), .retAddr k2] [] S = some (.inl (some (.int (nI i))), S) := by
    refine yt_217_0.trans ?_
    simp only [yt_217_1, yt_217_4, yt_217_5, yt_217_6, yt_217_16, yt_217_17, xe_T, xl_I0, xl_I1, xp_I, eq_false g1, eq_true g2, ↓reduceIte]
  exact (xc ym_217 rfl).trans h0
theorem ze_194 {k : Nat} (hk : k < 26) : xm_C sc xt_M (d + 2) 194 [.retAddr k] S = some (.inl (some (.int (nI (sp_ln k)))), S) := by
  have e := (xe_ll k hk).2.2
  have i1 : xm_isO S (.retAddr k) 100 = true := xiK hk
  have c : xm_C sc xt_M (d + 1) 198 [.retAddr k] S = some (.inl (some (.int 0)), S) := by
    rw [yc_198 (by omega), if_neg (by decide), if_pos hk, if_pos (by decide)]
  rw [yc_194 (by omega), if_pos hk, if_pos (by omega), if_pos i1, c]
  show some (Sum.inl (some (Value.int (Int32.ofNat (xm_str (k + 1000 - 1000)).length >>> ((0 : Int32) &&& 31)))), _) = _
  rw [Nat.add_sub_cancel, e]
theorem ze_195 {k i : Nat} (hk : k < 26) (hi : i < sp_ln k) : xm_C sc xt_M (d + 4) 195 [.retAddr k, .int (nI i)] S = some (.inl (some (.int (sp_ch k i))), S) := by
  obtain ⟨c, hc, h1, h2⟩ := xe_lk k hk i hi
  obtain ⟨l0, hl, l2⟩ := xe_ll k hk
  have hi2 : i < 100 := Nat.lt_trans hi hl
  have el : Int32.ofNat (xm_str k).length = nI (sp_ln k) := rfl
  have c333 : xm_C sc xt_M (d + 3) 199 [.retAddr k] S = some (.inl (some (.int 1)), S) := by
    rw [yc_199 (by omega), if_neg (by decide), if_pos hk, if_pos (by decide)]
  have c334 : xm_C sc xt_M (d + 2) 200 [.int (nI i), .int (nI (sp_ln k))] S = some (.inl none, S) := by
    rw [yc_200, ze_217 hi hl]
    rfl
  have hin : xm_in (nI i) (xm_str k).length = true := xin hi (by omega)
  have c335 : xm_C sc xt_M (d + 3) 210 [.retAddr (k + 1000), .int (nI i)] S = some (.inl (some (.int (sp_ch k i))), S) := by
    rw [yc_210 (by omega), if_pos (by omega), Nat.add_sub_cancel, el]
    rw [c334]
    have g3 : 1000 ≤ k + 1000 ∧ k + 1000 < 1027 ∧ xm_in (nI i) (xm_str k).length = true := ⟨by omega, by omega, hin⟩
    simp only [↓zbE, zbd_some, ↓xk_v]
    rw [if_pos g3, nI_clamp (by omega), if_pos h2]
    rfl
  rw [yc_195 (by omega), if_pos (xiK hk), c333]
  simp only [↓zbE, zbd_some, ↓xk_I]
  rw [if_neg (by decide), if_pos hk, c335]
  simp only [zbd_some, ↓xk_I]
  have h3 : sp_ch k i = ((sp_ch k i).toUInt32 % 65536).toInt32 := h2
  rw [if_pos h3]
end SG
