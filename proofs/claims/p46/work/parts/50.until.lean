/-! THE REFERENCE: forecasts -/
/-- an answer: what is thrown, what is told; nothing but scratch changes -/
def xAns (o : Option xm_O) (w : xW) (l : Nat → Nat → Int64) (t : Nat) (s : Int32 × Int32) : Prop := ∃ w', o = some (.inl (some (.int s.2)), xem w' l t) ∧ xKp w w' ∧ (w' 3).1 2 = s.1
section CP
variable {w : xW} {a p b q m : Nat}
theorem xcp_ne {g : Nat} (h : g ≠ 3) : xcp w a p b q m g = w g := xu_ne h
theorem xcp_1 : (xcp w a p b q m 3).1 = (w 3).1 := by
  unfold xcp
  rw [xu_same]
  rfl
theorem xcp_2 {c : Nat} (h : c ≠ b) : (xcp w a p b q m 3).2 c = (w 3).2 c := by
  unfold xcp
  rw [xu_same]
  exact if_neg h
theorem xcp_b {i : Nat} : (xcp w a p b q m 3).2 b i = if 296 * q ≤ i ∧ i < 296 * q + m then (w 3).2 a (296 * p + (i - 296 * q)) else (w 3).2 b i := by
  unfold xcp
  rw [xu_same, xs2_same]
theorem xMu_ne {u : xU} {g : Nat} (h : g ≠ 3) : xMu w u g = w g := by
  unfold xMu xHs
  rw [xMw_ne h, xu_ne h]
theorem xMu_1 {u : xU} {i : Nat} (h : i ≠ 4) : (xMu w u 3).1 i = (w 3).1 i := by
  unfold xMu
  rw [xMw_2, xHs_2 h]
theorem xMu_2 {u : xU} {c : Nat} (h6 : c ≠ 6) (h5 : c ≠ 5) (h0 : c ≠ xri (w 3)) : (xMu w u 3).2 c = (w 3).2 c := by
  unfold xMu
  rw [xMw_3]
  have e : xHs w u.2.2.2 3 = xs1 (w 3) 4 u.2.2.2 := xu_same
  rw [e]
  show (if c = 6 then _ else if c = 5 then _ else if c = xri (w 3) then _ else (w 3).2 c) = _
  rw [if_neg h6, if_neg h5, if_neg h0]
theorem xri_cp : xri (xcp w a p b q m 3) = xri (w 3) := by
  unfold xri
  rw [xcp_1]
theorem xMe_cp (h0 : xri (w 3) = 0) : xMe (xcp w 0 0 2 0 296) = xMe w := by
  unfold xMe xR xF xJ xH
  rw [xri_cp, h0, xcp_2 (by omega), xcp_2 (by omega), xcp_2 (by omega), xcp_1]
theorem xMe_T {x : Int32} : xMe (xT w x) = xMe w := by
  unfold xMe
  rw [xR_T, xF_T]
  unfold xJ xH xT
  rw [xu_same]
  rfl
theorem xri_T {x : Int32} : xri (xT w x 3) = xri (w 3) := by
  unfold xT
  rw [xu_same]
  rfl
theorem xKp_back {u : xU} (h0 : xri (w 3) = 0) : xKp w (xcp (xMu (xcp w 0 0 2 0 296) u) 2 0 0 0 296) := by
  refine ⟨fun g hg => ?_, fun i h1 h2 => ?_, fun c h1 h2 h3 h4 => ?_, fun i hi => ?_⟩
  · rw [xcp_ne hg, xMu_ne hg, xcp_ne hg]
  · rw [xcp_1, xMu_1 h2, xcp_1]
  · rw [xcp_2 h1, xMu_2 h4 h3 (by rw [xri_cp]; omega), xcp_2 h2]
  · rw [xcp_b, if_pos (by omega), xMu_2 (by omega) (by omega) (by rw [xri_cp]; omega), xcp_b, if_pos (by omega)]
    simp only [Nat.mul_zero, Nat.zero_add, Nat.sub_zero]
theorem xback_2 {u : xU} : (xcp (xMu (xcp w 0 0 2 0 296) u) 2 0 0 0 296 3).1 2 = (w 3).1 2 := by rw [xcp_1, xMu_1 (by omega), xcp_1]
end CP
abbrev sp_cnd (fl rd : Int32) (r : Nat → Int32) (k : Nat) : Prop := (fl = 0 ∧ sp_arr r k) ∨ (¬ fl = 0 ∧ r (56 + 6 * k) = 2 ∧ r (60 + 6 * k) = rd)
section SH
variable {w : xW} {l : Nat → Nat → Int64} {t : Nat} {sc : xm_Sc} {d : Nat}
def sp_until (u : xU) (fl a rd : Int32) : Int32 × Int32 := if 0 ≤ a ∧ a ≤ u.1 2 - 1 then (0, toJ (xfst (fun n => sp_cnd fl rd (sp_us u n).1 a.toNatClampNeg) 0 201)) else (1, 0)
def sp_bookIn (u : xU) (a x i : Int32) : Int32 × Int32 := if 0 ≤ a ∧ a ≤ u.1 2 - 1 then (if 0 ≤ x ∧ x ≤ 8 then (if 0 ≤ i ∧ i ≤ 200 then (0, (sp_num (sp_us u i.toNatClampNeg).2.1 (sp_us u i.toNatClampNeg).1 a.toNatClampNeg x).1) else (2, 0)) else (1, 0)) else (1, 0)
end SH
