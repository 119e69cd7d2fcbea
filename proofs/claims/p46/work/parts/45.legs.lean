/-! THE REFERENCE: legs -/
abbrev sp_lgc (r : Nat → Int32) (a b : Int32) : Prop := (0 ≤ a ∧ a ≤ r 0 - 1) ∧ 0 ≤ b ∧ b ≤ r 0 - 1
section SC
variable {w : xW} {l : Nat → Nat → Int64} {t : Nat} {sc : xm_Sc} {d : Nat}
end SC
