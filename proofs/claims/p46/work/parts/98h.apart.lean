/-! tokens and rows lie apart -/
section CM
variable {w : xW} {T : xTk} {v : Int32} {r f : Nat → Int32} {n g : Nat}
theorem xri_Pw : xri (xPw w T 3) = xri (w 3) := by
  unfold xri
  rw [xPw_1 (by omega)]
theorem xR_Pw : xR (xPw w T) = xR w := by
  unfold xR
  rw [xri_Pw, xPw_2]
theorem xRs_Pw : xRs (xPw w T) r = xPw (xRs w r) T := by
  have h := @xri_Pw w T
  unfold xRs
  rw [h]
  unfold xPw
  rw [xu_xu, xu_same, xu_xu, xu_same]
  rfl
theorem xRs_f : (xRs w r 3).2 8 = (w 3).2 8 := by
  have := @xri_lt (w 3)
  unfold xRs
  rw [xu_same]
  exact if_neg (by omega)
theorem xRs_7 : (xRs w r 3).1 7 = (w 3).1 7 := by
  unfold xRs
  rw [xu_same]
  rfl
theorem kTw_xu {p : xG} (h : g ≠ 0) : xu (kTw w T v) g p = kTw (xu w g p) T v := by
  unfold kTw
  rw [xu_ne (Ne.symm h)]
  funext x
  unfold xu
  by_cases hx : x = g
  · subst hx
    rw [if_pos rfl, if_neg h, if_pos rfl]
  · rw [if_neg hx]
    by_cases h0 : x = 0
    · rw [if_pos h0, if_pos h0]
    · rw [if_neg h0, if_neg h0, if_neg hx]
theorem kBy_xu {p : xG} (h : g ≠ 0) (hB : kBy w f n) : kBy (xu w g p) f n := by
  unfold kBy
  rw [xu_ne (Ne.symm h)]
  exact hB
theorem kRel_Tw {k : Nat} (h : kRel w k r) : kRel (kTw w T v) k r := kRel_g0 h
end CM
section PE
variable {w : xW} {l : Nat → Nat → Int64} {t : Nat} {sc : xm_Sc} {d n : Nat} {f : Nat → Int32} {T T' : xTk} {v : Int32}
/-- the text must be at its end -/
theorem kR_end (h : kTR f T T' v) : ∃ T'', xm_C sc xt_M (d + 3) 97 [.ref 21] (xem (kTw w T' v) l t) = some (.inl none, xem (kTw w T'' v) l t) ∧ kTR f (if T.2.2.1 = 0 then T else sp_flaw T 1) T'' v := by
  obtain ⟨h1, h2, h3⟩ := h
  obtain ⟨T1, c85, hR1⟩ := @kR_flaw w l t sc d f T T' v 1 (by decide) ⟨h1, h2, h3⟩
  by_cases h0 : T.2.2.2.1 = 0
  · obtain ⟨a1, a2, a3, a4, a5, a6⟩ := h2 h0
    by_cases z : T.2.2.1 = 0
    · rw [if_pos z]
      refine ⟨T', ?_, h1, h2, h3⟩
      rw [yc_97, xgK8, zbs, a3, if_pos z, yb_97_12]
    · rw [if_neg z]
      refine ⟨T1, ?_, hR1⟩
      rw [yc_97, xgK8, zbs, a3, if_neg z, if_pos xiT, c85, zbs, xk_v, yb_97_12]
  · have er : sp_flaw T 1 = T := if_neg h0
    rw [er] at hR1 ⊢
    have e : (if T.2.2.1 = 0 then T else T) = T := by split <;> rfl
    rw [e]
    refine ⟨T1, ?_, hR1⟩
    rw [yc_97, xgK8, zbs, (h3 h0).1, if_neg (by decide), if_pos xiT, c85, zbs, xk_v, yb_97_12]
end PE
