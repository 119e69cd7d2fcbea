/-! THE LAW'S FIRST TEXT: its row, and what is read of it -/
def fxL : Nat → Int32 := fun i => if i = 0 then 4 else if i = 1 then 2 else if i = 2 then 2 else if i = 3 then 2 else if i = 5 then 10 else if i = 6 then 1 else if i = 7 then 1 else if i = 8 then 1 else if i = 9 then 1 else if i = 12 then 9 else if i = 13 then 3 else if i = 16 then 1 else if i = 17 then 2 else if i = 23 then 1 else if i = 24 then 2 else if i = 26 then 2 else if i = 27 then 3 else if i = 60 then -1 else if i = 61 then -1 else if i = 63 then 3 else if i = 64 then 3 else if i = 66 then -1 else if i = 67 then -1 else if i = 177 then 1 else if i = 178 then 3 else if i = 180 then 2 else if i = 181 then 1 else 0
def fxC : Nat → Int32 := fun i => if i = 9 then 0 else fxL i
def fxT : List Int32 := dTx 4 (9, [0, 1, 2]) [(1, [2, 3])] [0, 3] none [(0, 1, 3), (0, 2, 1)]
def fxR : Nat → Int32 := dRQ 4 (9, [0, 1, 2]) [(1, [2, 3])] [0, 3] none [(0, 1, 3), (0, 2, 1)]
theorem fx_t : fxT = xm_str 25 := by decide +kernel
theorem fx_r : ∀ i, i < 296 → fxL i = fxR i := by decide +kernel
def fxU : xU := (fxC, fun _ => -1, fun _ => 0, 0)
theorem fx_a : sp_until fxU 0 0 0 = (0, 4) := by decide +kernel
theorem fx_h : sp_until fxU 1 0 2 = (0, 4) := by decide +kernel
