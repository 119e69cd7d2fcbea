/-! THE REFERENCE: mostWanted -/
def sp_most (r : Nat → Int32) (b : Int32) : Int32 := if b = -1 then 0 else sp_queue r b
def sp_mw (r : Nat → Int32) : Nat → Int32
  | 0 => -1
  | i + 1 => if sp_most r (sp_mw r i) < sp_queue r (nI i) then nI i else sp_mw r i
theorem sp_mw_pos {r : Nat → Int32} : ∀ i, i < 2 ^ 31 → sp_mw r i = -1 ∨ 0 < sp_queue r (sp_mw r i) := by
  intro i
  induction i with
  | zero => intro _; exact Or.inl rfl
  | succ i ih =>
    intro hi
    unfold sp_mw
    split
    · next h =>
      refine Or.inr ?_
      rcases ih (by omega) with g | g
      · rw [g] at h
        exact h
      · unfold sp_most at h
        split at h
        · exact h
        · exact Int32.lt_trans g h
    · exact ih (by omega)
section SD
variable {w : xW} {l : Nat → Nat → Int64} {t : Nat} {sc : xm_Sc} {d : Nat}
end SD
