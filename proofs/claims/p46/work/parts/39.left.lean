/-! THE REFERENCE: the legs a book has left -/
abbrev sp_llc (r : Nat → Int32) (k : Nat) : Prop := (r (56 + 6 * k) = 0 ∨ r (56 + 6 * k) = 2) ∧ ¬ sp_goal r k = -1
def sp_ll (f r : Nat → Int32) (k : Nat) : Int32 × (Nat → Int32) := if sp_llc r k then (xfx (sp_far r f) (r (57 + 6 * k)) (sp_goal r k), sp_far r f) else (-1, f)
section RW
variable {w : xW} {l : Nat → Nat → Int64} {t : Nat} {sc : xm_Sc} {d : Nat}
theorem z00 : ((0 : Int32) = 0) = True := eq_true rfl
theorem z20 : ((2 : Int32) = 0) = False := eq_false (by decide)
end RW
