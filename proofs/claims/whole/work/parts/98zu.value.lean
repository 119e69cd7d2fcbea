/-! THE ENTRY: what the constructors leave, evaluated -/
theorem en1_ok : eok en1 = true := by decide +kernel
theorem en2_ok : eok en2 = true := by decide +kernel
theorem en1_len : decide (ec1.length = 191) = true := by decide +kernel
theorem en2_len : decide (ec2.length = 204) = true := by decide +kernel
theorem ec3_ske : skes ec3 (xcells (wv ec3) (lv ec3)) = true := by decide +kernel
def er0 (i : Nat) : Int32 := if i = 0 then 2 else if i = 1 then 1 else if i = 5 then 10 else if i = 6 then 1 else if i = 7 then 1 else if i = 12 then 5 else if i = 13 then 2 else if i = 16 then 1 else 0
theorem ec3_row : (List.range 296).all (fun i => decide (fI ec3 192 i = er0 i)) = true := by decide +kernel
theorem ec3_plan : (decide (fI ec3 2 0 = 5) && (decide (fI ec3 3 0 = 2) && (decide (fI ec3 4 0 = 3) && (decide (fI ec3 6 0 = 0) && decide (fI ec3 6 1 = 1))))) = true := by decide +kernel
theorem ec3_at : decide (fI ec3 8 0 = 0) = true := by decide +kernel
theorem ec3_first : (List.range 20).all (fun i => decide (fI ec3 17 i = -1)) = true := by decide +kernel
theorem ec3_ways : (List.range 6).all (fun a => (List.range 6).all (fun b => decide (fI ec3 19 (6 * a + b) = if a = b ∧ a < 2 then 0 else if a < 2 ∧ b < 2 then 1 else -1))) = true := by decide +kernel
