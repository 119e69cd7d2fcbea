/-! THE REFERENCE: whether a book leaves a van or goes with it -/
section RO
variable {w : xW} {l : Nat → Nat → Int64} {t : Nat} {sc : xm_Sc} {d : Nat}
theorem z1n : ((-1 : Int32) ≤ 0) = True := eq_true (by decide)
theorem zb00 : (xm_b01 0 = true) = True := eq_true rfl
theorem zBf : zB (false = true) = 0 := rfl
theorem zBF {i : Decidable False} : @zB False i = 0 := if_neg id
theorem zBT {i : Decidable True} : @zB True i = 1 := if_pos trivial
end RO
