/-! THE REFERENCE: a number of a book -/
def sp_num (f r : Nat → Int32) (k : Nat) (x : Int32) : Int32 × (Nat → Int32) :=
  if x.toInt = 0 then (r (56 + 6 * k), f) else if x.toInt = 1 then (r (57 + 6 * k), f) else if x.toInt = 2 then (r (58 + 6 * k), f) else if x.toInt = 3 then (sp_goal r k, f) else if x.toInt = 4 then (sp_queue r (nI k), f) else
  if x.toInt = 5 then (r (59 + 6 * k), f) else if x.toInt = 6 then (r (60 + 6 * k), f) else if x.toInt = 7 then (r (61 + 6 * k), f) else sp_ll f r k
abbrev sp_bkc (r : Nat → Int32) (a x : Int32) : Prop := (0 ≤ a ∧ a ≤ r 2 - 1) ∧ 0 ≤ x ∧ x ≤ 8
section RX
variable {w : xW} {l : Nat → Nat → Int64} {t : Nat} {sc : xm_Sc} {d : Nat}
theorem xT_M {r f j : Nat → Int32} {x : Int32} : xT (xMw w r f j) x = xMw (xT w x) r f j := by
  unfold xT
  rw [xMw_3]
  unfold xMw
  rw [xu_xu, xu_xu, xu_same]
  rfl
end RX
