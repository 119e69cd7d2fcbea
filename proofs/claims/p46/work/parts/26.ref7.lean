/-! THE REFERENCE: what can be asked (3) -/
section RL
variable {w : xW} {l : Nat → Nat → Int64} {t : Nat} {sc : xm_Sc} {d : Nat}
def sp_request (r : Nat → Int32) (a i x : Int32) : Int32 × Int32 := if (0 ≤ a ∧ a ≤ r 2 - 1) ∧ 0 ≤ x ∧ x ≤ 2 then (match sp_at r a i with
  | none => (1, 0)
  | some q => (0, if x = 2 then zB (r (56 + 6 * a.toNatClampNeg) = 2 ∧ r (60 + 6 * a.toNatClampNeg) = r (177 + 3 * q)) else if x = 0 then r (177 + 3 * q) else r (178 + 3 * q))) else (1, 0)
theorem sp_at_lt {r : Nat → Int32} {b pl : Int32} {q : Nat} (h : sp_at r b pl = some q) : q < xnq r := by
  have := xfst_some h
  omega
theorem sp_by_lt {r : Nat → Int32} {b rd : Int32} {q : Nat} (h : sp_by r b rd = some q) : q < xnq r := by
  have := xfst_some h
  omega
theorem zm1 : ((-1 : Int32) = -1) = True := eq_true rfl
theorem z02 : ((0 : Int32) = 2) = False := eq_false (by decide)
def sp_fullN (r : Nat → Int32) : Nat → Nat
  | 0 => 0
  | i + 1 => if sp_booksIn r 1 (nI (sp_fullN r i)) < sp_booksIn r 1 (nI (i + 1)) then i + 1 else sp_fullN r i
theorem sp_fullN_le {r : Nat → Int32} {i : Nat} : sp_fullN r i ≤ i := by
  induction i with
  | zero => exact Nat.le_refl _
  | succ i ih =>
    unfold sp_fullN
    split <;> omega
end RL
