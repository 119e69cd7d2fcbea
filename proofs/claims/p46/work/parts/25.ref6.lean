/-! THE REFERENCE: what can be asked (2) -/
section RK
variable {w : xW} {l : Nat → Nat → Int64} {t : Nat} {sc : xm_Sc} {d : Nat}
theorem z10 : ((1 : Int32) = 0) = False := eq_false (by decide)
def sp_vanN (r : Nat → Int32) (v : Nat) (x : Int32) : Int32 × Int32 :=
  if x.toInt = 0 then (0, r (12 + 11 * v)) else if x.toInt = 1 then (0, r (13 + 11 * v)) else if x.toInt = 2 then (0, r (14 + 11 * v)) else
  if x.toInt = 3 then (0, r (15 + 11 * v + (r (14 + 11 * v)).toNatClampNeg)) else if x.toInt = 4 then (0, sp_booksIn r 1 (nI v)) else if x.toInt = 5 then (0, sp_openOn r v) else (1, 0)
def sp_van (r : Nat → Int32) (a x : Int32) : Int32 × Int32 := if 0 ≤ a ∧ a ≤ r 1 - 1 then sp_vanN r a.toNatClampNeg x else (1, 0)
def sp_stop (r : Nat → Int32) (a s : Int32) : Int32 × Int32 := if (0 ≤ a ∧ a ≤ r 1 - 1) ∧ 0 ≤ s ∧ s ≤ r (13 + 11 * a.toNatClampNeg) - 1 then (0, r (15 + 11 * a.toNatClampNeg + s.toNatClampNeg)) else (1, 0)
def sp_branchN (r : Nat → Int32) (b : Nat) (x : Int32) : Int32 × Int32 :=
  if x.toInt = 0 then (0, r (6 + b)) else if x.toInt = 1 then (0, sp_booksIn r 0 (nI b)) else if x.toInt = 2 then (0, sp_booksIn r 2 (nI b)) else
  if x.toInt = 3 then (0, sp_reqAt r (nI b)) else if x.toInt = 4 then (0, sp_homes r (nI b)) else if x.toInt = 5 then (0, sp_vansAt r (nI b)) else (1, 0)
def sp_branch (r : Nat → Int32) (a x : Int32) : Int32 × Int32 := if 0 ≤ a ∧ a ≤ r 0 - 1 then sp_branchN r a.toNatClampNeg x else (1, 0)
def sp_placeOf (r : Nat → Int32) (a rd : Int32) : Int32 × Int32 := if 0 ≤ a ∧ a ≤ r 2 - 1 then (match sp_by r a rd with | some q => (0, sp_rank r q) | none => (0, -1)) else (1, 0)
theorem xWF.at (h : xWF (xR w)) {v : Nat} (hv : v < xnv (xR w)) : ∃ p, p < 8 ∧ xR w (14 + 11 * v) = nI p ∧ p < xst (xR w) v := by
  obtain ⟨_, h2, _, h4, _⟩ := h.v v hv
  exact ⟨(xR w (14 + 11 * v)).toNatClampNeg, Nat.lt_of_lt_of_le h4.2 (Nat.le_of_lt_succ h2.2), h4.1, h4.2⟩
end RK
