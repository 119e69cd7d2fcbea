/-! THE REFERENCE: comesIn, meetIn -/
def sp_nextAt (o : Option Nat) : Int32 := match o with
  | some i => nI (i + 1)
  | none => -1
def sp_comes (r : Nat → Int32) (a b : Int32) : Int32 × Int32 := if (0 ≤ a ∧ a ≤ r 1 - 1) ∧ 0 ≤ b ∧ b ≤ r 0 - 1 then (0, sp_nextAt (xfst (fun i => sp_bin r a.toNatClampNeg (i + 1) = b) 0 8)) else (1, 0)
section SA
variable {w : xW} {l : Nat → Nat → Int64} {t : Nat} {sc : xm_Sc} {d : Nat}
end SA
