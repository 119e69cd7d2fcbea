/-! THE REFERENCE: meetIn -/
abbrev sp_meetc (r : Nat → Int32) (a b : Int32) : Prop := (0 ≤ a ∧ a ≤ r 1 - 1) ∧ (0 ≤ b ∧ b ≤ r 1 - 1) ∧ ¬ a = b
def sp_meet (r : Nat → Int32) (a b : Int32) : Int32 × Int32 := if sp_meetc r a b then (0, sp_nextAt (xfst (fun i => sp_bin r a.toNatClampNeg (i + 1) = sp_bin r b.toNatClampNeg (i + 1)) 0 (xst r a.toNatClampNeg * xst r b.toNatClampNeg))) else (1, 0)
section SB
variable {w : xW} {l : Nat → Nat → Int64} {t : Nat} {sc : xm_Sc} {d : Nat}
end SB
