/-! THE REFERENCE: what can be asked (1) -/
section RJ
variable {w : xW} {l : Nat → Nat → Int64} {t : Nat} {sc : xm_Sc} {d : Nat}
theorem zrg {a : Int32} {m : Nat} (hm : m < 2 ^ 31) (h : 0 ≤ a ∧ a ≤ nI m - 1) : ∃ n, n < m ∧ a = nI n := by
  obtain ⟨j, hj, rfl⟩ := nI_of (x := a) (Int32.not_lt.mpr h.1)
  refine ⟨j, ?_, rfl⟩
  cases m with
  | zero => exact absurd (Int32.le_trans h.1 h.2) (by decide)
  | succ k =>
    have h2 := h.2
    rw [nI_pred] at h2
    by_cases g : j < k + 1
    · exact g
    · exact absurd h2 (nI_ge (by omega) hj)
theorem zrg' {n m : Nat} (hm : m < 2 ^ 31) (h : n < m) : 0 ≤ nI n ∧ nI n ≤ nI m - 1 := by
  refine ⟨nI_pos' (by omega), ?_⟩
  cases m with
  | zero => omega
  | succ k =>
    rw [nI_pred]
    exact nI_le (by omega) (by omega)
theorem zti {x y : Int32} (h : x.toInt = y.toInt) : x = y := Int32.toInt_inj.mp h
def sp_size (r : Nat → Int32) (x : Int32) : Int32 × Int32 :=
  if x.toInt = 0 then (0, r 0) else if x.toInt = 1 then (0, sp_openN r) else if x.toInt = 2 then (0, r 1) else if x.toInt = 3 then (0, r 2) else if x.toInt = 4 then (0, r 3) else if x.toInt = 5 then (0, r 4) else if x.toInt = 6 then (0, r 5) else
  if x.toInt = 7 then (0, sp_inState r 0) else if x.toInt = 8 then (0, sp_inState r 1) else if x.toInt = 9 then (0, sp_inState r 2) else if x.toInt = 10 then (0, sp_inState r 3) else if x.toInt = 11 then (0, sp_inState r 4) else if x.toInt = 12 then (0, sp_recN r) else (1, 0)
end RJ
