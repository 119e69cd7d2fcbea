/-! THE REFERENCE: undoCount, errorPosition -/
section SE
variable {w : xW} {l : Nat → Nat → Int64} {t : Nat} {sc : xm_Sc} {d : Nat}
theorem xT_1 {x : Int32} {i : Nat} (h : i ≠ 2) : (xT w x 3).1 i = (w 3).1 i := by
  unfold xT
  rw [xu_same]
  exact if_neg h
theorem zc_260 : xm_C sc xt_M (d + 1) 260 [.ref 191] (xem w l t) = some (.inl (some (.int ((w 3).1 1))), xem (xT w 0) l t) := by
  rw [yc_260, xsM_7T, zbs, xgM_6, zbs, xT_1 (by omega)]
theorem zc_265 : xm_C sc xt_M (d + 1) 265 [.ref 191] (xem w l t) = some (.inl (some (.int ((w 3).1 13))), xem (xT w 0) l t) := by
  rw [yc_265, xsM_7T, zbs, xgM_22, zbs, xT_1 (by omega)]
end SE
