/-! THE REFERENCE: has a book arrived; where a van will stand -/
abbrev sp_arr (r : Nat → Int32) (k : Nat) : Prop := r (56 + 6 * k) = 2 ∨ (r (56 + 6 * k) = 0 ∧ sp_goal r k = r (57 + 6 * k))
section RZ
variable {w : xW} {l : Nat → Nat → Int64} {t : Nat} {sc : xm_Sc} {d : Nat}
def sp_bin (r : Nat → Int32) (v c : Nat) : Int32 := r (15 + 11 * v + ((r (14 + 11 * v)).toNatClampNeg + c) % xst r v)
end RZ
