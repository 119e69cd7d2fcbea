/-! THE REFERENCE: undoCount, errorPosition -/
section SE
variable {w : xW} {l : Nat → Nat → Int64} {t : Nat} {sc : xm_Sc} {d : Nat}
theorem xT_1 {x : Int32} {i : Nat} (h : i ≠ 2) : (xT w x 3).1 i = (w 3).1 i := by
  unfold xT
  rw [xu_same]
  exact if_neg h
end SE
