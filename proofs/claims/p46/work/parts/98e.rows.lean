/-! THE REFERENCE: a row is laid -/
def sp_addV (r : Nat → Int32) (v : Nat) (x : Int32) : Nat → Int32 := upd (upd r (12 + 11 * v) x) 1 (nI (v + 1))
def sp_addS (r : Nat → Int32) (v s : Nat) (x : Int32) : Nat → Int32 := upd (upd r (15 + 11 * v + s) x) (13 + 11 * v) (nI (s + 1))
def sp_addB (r : Nat → Int32) (k : Nat) (x : Int32) : Nat → Int32 := sp_put (upd (upd r 2 (nI (k + 1))) (58 + 6 * k) x) k 0 x
def sp_beg0 (r : Nat → Int32) (m : Nat) : Nat → Int32 := fun i => if i < m then 0 else r i
def sp_begO (r : Nat → Int32) (m : Nat) : Nat → Int32 := fun i => if 6 ≤ i ∧ i < 6 + m then 1 else r i
def sp_beg (r : Nat → Int32) (n : Nat) : Nat → Int32 := sp_begO (upd (upd (sp_beg0 r 296) 0 (nI n)) 5 10) n
section LR
variable {w : xW} {l : Nat → Nat → Int64} {t : Nat} {sc : xm_Sc} {d : Nat}
theorem sp_beg0_s {r : Nat → Int32} {m : Nat} : upd (sp_beg0 r m) m 0 = sp_beg0 r (m + 1) := by
  funext i
  show (if i = m then (0 : Int32) else if i < m then 0 else r i) = if i < m + 1 then 0 else r i
  by_cases h : i = m
  · rw [if_pos h, if_pos (by omega)]
  · rw [if_neg h]
    by_cases h2 : i < m
    · rw [if_pos h2, if_pos (by omega)]
    · rw [if_neg h2, if_neg (by omega)]
theorem sp_begO_s {r : Nat → Int32} {m : Nat} : upd (sp_begO r m) (6 + m) 1 = sp_begO r (m + 1) := by
  funext i
  show (if i = 6 + m then (1 : Int32) else if 6 ≤ i ∧ i < 6 + m then 1 else r i) = if 6 ≤ i ∧ i < 6 + (m + 1) then 1 else r i
  by_cases h : i = 6 + m
  · rw [if_pos h, if_pos (by omega)]
  · rw [if_neg h]
    by_cases h2 : 6 ≤ i ∧ i < 6 + m
    · rw [if_pos h2, if_pos (by omega)]
    · rw [if_neg h2, if_neg (by omega)]
end LR
