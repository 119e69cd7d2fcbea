/-! THE ENTRY: what the constructor leaves, evaluated -/
def er0 (i : Nat) : Int32 := if i = 0 then 2 else if i = 1 then 1 else if i = 5 then 10 else if i = 6 then 1 else if i = 7 then 1 else if i = 12 then 5 else if i = 13 then 2 else if i = 16 then 1 else 0
def eall : Bool := eok en1 && (decide (ec1.length = 191) && (skes ec1 (xcells (wv ec1) xl0) && ((decide (fI ec1 2 0 = 5) && (decide (fI ec1 3 0 = 2) && (decide (fI ec1 4 0 = 3) && (decide (fI ec1 6 0 = 0) && decide (fI ec1 6 1 = 1))))) && (decide (fI ec1 8 0 = 0) && ((List.range 20).all (fun i => decide (fI ec1 17 i = -1)) && (List.range 6).all (fun a => (List.range 6).all (fun b => decide (fI ec1 19 (6 * a + b) = if a = b ∧ a < 2 then 0 else if a < 2 ∧ b < 2 then 1 else -1))))))))
theorem eall_ok : eall = true := by decide +kernel
theorem eall_s : eok en1 = true ∧ ec1.length = 191 ∧ skes ec1 (xcells (wv ec1) xl0) = true ∧ (fI ec1 2 0 = 5 ∧ fI ec1 3 0 = 2 ∧ fI ec1 4 0 = 3 ∧ fI ec1 6 0 = 0 ∧ fI ec1 6 1 = 1) ∧ fI ec1 8 0 = 0 ∧ (List.range 20).all (fun i => decide (fI ec1 17 i = -1)) = true ∧ (List.range 6).all (fun a => (List.range 6).all (fun b => decide (fI ec1 19 (6 * a + b) = if a = b ∧ a < 2 then 0 else if a < 2 ∧ b < 2 then 1 else -1))) = true := by
  have h := eall_ok
  unfold eall at h
  rw [Bool.and_eq_true, Bool.and_eq_true, Bool.and_eq_true, Bool.and_eq_true, Bool.and_eq_true, Bool.and_eq_true, Bool.and_eq_true, Bool.and_eq_true, Bool.and_eq_true, Bool.and_eq_true, decide_eq_true_iff, decide_eq_true_iff, decide_eq_true_iff, decide_eq_true_iff, decide_eq_true_iff, decide_eq_true_iff, decide_eq_true_iff] at h
  exact h
