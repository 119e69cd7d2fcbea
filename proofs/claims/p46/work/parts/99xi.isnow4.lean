/-! THE LAW: isNow, the sizes gathered -/
section IN
variable {r : Nat → Int32}
def oSz (r : Nat → Int32) : Nat → Int32 := upd (upd (upd (upd (upd (upd (upd (upd (upd (upd (upd (upd (upd (fun _ => 0) 0 (r 0)) 1 (sp_openN r)) 2 (r 1)) 3 (r 2)) 4 (r 3)) 5 (r 4)) 6 (r 5)) 7 (sp_inState r 0)) 8 (sp_inState r 1)) 9 (sp_inState r 2)) 10 (sp_inState r 3)) 11 (sp_inState r 4)) 12 (sp_recN r)
theorem oSz_ok : ∀ i, i < 13 → sp_size r (nI i) = (0, oSz r i) := by
  intro i hi
  have h : i = 0 ∨ i = 1 ∨ i = 2 ∨ i = 3 ∨ i = 4 ∨ i = 5 ∨ i = 6 ∨ i = 7 ∨ i = 8 ∨ i = 9 ∨ i = 10 ∨ i = 11 ∨ i = 12 := by omega
  rcases h with z | z | z | z | z | z | z | z | z | z | z | z | z <;> subst z
  · exact sz_0
  · exact sz_1
  · exact sz_2
  · exact sz_3
  · exact sz_4
  · exact sz_5
  · exact sz_6
  · exact sz_7
  · exact sz_8
  · exact sz_9
  · exact sz_10
  · exact sz_11
  · exact sz_12
end IN
