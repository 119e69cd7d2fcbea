/-! RUNNING THE PURE MACHINE: one instruction by its row of the table; what stands on the stack and in the locals -/
section EX
variable {sc : xm_Sc} {d i pc : Nat} {ls st : List Value} {S : xm_PS}
theorem xi {q : xm_MI} (hq : xt_M i = some q) {p0 ln a b c d' e : Nat} {ins : Instr} (hf : xm_fetch q.2.2.2.2.2 pc = some (p0, ins, ln, a, b, c, d', e)) : xm_R sc xt_M d i pc ls st S = xm_op sc q.2.2.2.2.2 q.2.2.2.2.1 (xm_C sc xt_M d) (xm_R sc xt_M d i) pc a b c d' ls st S ins := by
  rw [xm_R_step hq]
  unfold xm_step
  rw [hf]
theorem xc {j : Nat} {r : xm_MI} {as : List Value} (hr : xt_M j = some r) (hl : xm_lo r as = true) : xm_C sc xt_M (d + 1) j as S = xm_R sc xt_M d j 0 (xm_entry r.2.2.1 as) [] S := by
  show (match xt_M j with
    | none => none
    | some r => if xm_lo r as = true then xm_R sc xt_M d j 0 (xm_entry r.2.2.1 as) [] S else none) = _
  rw [hr]
  exact if_pos hl
end EX
theorem xl_A0 {x : Nat} {l : List Value} {K : Value → Option xm_O} : xm_lA (.ref x :: l) 0 K = K (.ref x) := rfl
theorem xl_T0 {x : Nat} {l : List Value} {K : Value → Option xm_O} : xm_lA (.retAddr x :: l) 0 K = if x < 6000 then K (.retAddr x) else none := rfl
theorem xl_I0 {x : Int32} {l : List Value} {K : Int32 → Option xm_O} : xm_lI (.int x :: l) 0 K = K x := rfl
theorem xl_F0 {x : UInt32} {l : List Value} {K : UInt32 → Option xm_O} : xm_lF (.float x :: l) 0 K = K x := rfl
theorem xl_L0 {x : Int64} {l : List Value} {K : Int64 → Option xm_O} : xm_lL (.long x :: .null :: l) 0 K = K x := rfl
theorem xl_D0 {x : UInt64} {l : List Value} {K : UInt64 → Option xm_O} : xm_lD (.double x :: .null :: l) 0 K = K x := rfl
theorem xl_A1 {v0 : Value} {x : Nat} {l : List Value} {K : Value → Option xm_O} : xm_lA (v0 :: .ref x :: l) 1 K = K (.ref x) := rfl
theorem xl_T1 {v0 : Value} {x : Nat} {l : List Value} {K : Value → Option xm_O} : xm_lA (v0 :: .retAddr x :: l) 1 K = if x < 6000 then K (.retAddr x) else none := rfl
theorem xl_I1 {v0 : Value} {x : Int32} {l : List Value} {K : Int32 → Option xm_O} : xm_lI (v0 :: .int x :: l) 1 K = K x := rfl
theorem xl_F1 {v0 : Value} {x : UInt32} {l : List Value} {K : UInt32 → Option xm_O} : xm_lF (v0 :: .float x :: l) 1 K = K x := rfl
theorem xl_L1 {v0 : Value} {x : Int64} {l : List Value} {K : Int64 → Option xm_O} : xm_lL (v0 :: .long x :: .null :: l) 1 K = K x := rfl
theorem xl_D1 {v0 : Value} {x : UInt64} {l : List Value} {K : UInt64 → Option xm_O} : xm_lD (v0 :: .double x :: .null :: l) 1 K = K x := rfl
theorem xl_A2 {v0 v1 : Value} {x : Nat} {l : List Value} {K : Value → Option xm_O} : xm_lA (v0 :: v1 :: .ref x :: l) 2 K = K (.ref x) := rfl
theorem xl_T2 {v0 v1 : Value} {x : Nat} {l : List Value} {K : Value → Option xm_O} : xm_lA (v0 :: v1 :: .retAddr x :: l) 2 K = if x < 6000 then K (.retAddr x) else none := rfl
theorem xl_I2 {v0 v1 : Value} {x : Int32} {l : List Value} {K : Int32 → Option xm_O} : xm_lI (v0 :: v1 :: .int x :: l) 2 K = K x := rfl
theorem xl_F2 {v0 v1 : Value} {x : UInt32} {l : List Value} {K : UInt32 → Option xm_O} : xm_lF (v0 :: v1 :: .float x :: l) 2 K = K x := rfl
theorem xl_L2 {v0 v1 : Value} {x : Int64} {l : List Value} {K : Int64 → Option xm_O} : xm_lL (v0 :: v1 :: .long x :: .null :: l) 2 K = K x := rfl
theorem xl_D2 {v0 v1 : Value} {x : UInt64} {l : List Value} {K : UInt64 → Option xm_O} : xm_lD (v0 :: v1 :: .double x :: .null :: l) 2 K = K x := rfl
theorem xl_A3 {v0 v1 v2 : Value} {x : Nat} {l : List Value} {K : Value → Option xm_O} : xm_lA (v0 :: v1 :: v2 :: .ref x :: l) 3 K = K (.ref x) := rfl
theorem xl_T3 {v0 v1 v2 : Value} {x : Nat} {l : List Value} {K : Value → Option xm_O} : xm_lA (v0 :: v1 :: v2 :: .retAddr x :: l) 3 K = if x < 6000 then K (.retAddr x) else none := rfl
theorem xl_I3 {v0 v1 v2 : Value} {x : Int32} {l : List Value} {K : Int32 → Option xm_O} : xm_lI (v0 :: v1 :: v2 :: .int x :: l) 3 K = K x := rfl
theorem xl_F3 {v0 v1 v2 : Value} {x : UInt32} {l : List Value} {K : UInt32 → Option xm_O} : xm_lF (v0 :: v1 :: v2 :: .float x :: l) 3 K = K x := rfl
theorem xl_L3 {v0 v1 v2 : Value} {x : Int64} {l : List Value} {K : Int64 → Option xm_O} : xm_lL (v0 :: v1 :: v2 :: .long x :: .null :: l) 3 K = K x := rfl
theorem xl_D3 {v0 v1 v2 : Value} {x : UInt64} {l : List Value} {K : UInt64 → Option xm_O} : xm_lD (v0 :: v1 :: v2 :: .double x :: .null :: l) 3 K = K x := rfl
theorem xl_A4 {v0 v1 v2 v3 : Value} {x : Nat} {l : List Value} {K : Value → Option xm_O} : xm_lA (v0 :: v1 :: v2 :: v3 :: .ref x :: l) 4 K = K (.ref x) := rfl
theorem xl_T4 {v0 v1 v2 v3 : Value} {x : Nat} {l : List Value} {K : Value → Option xm_O} : xm_lA (v0 :: v1 :: v2 :: v3 :: .retAddr x :: l) 4 K = if x < 6000 then K (.retAddr x) else none := rfl
theorem xl_I4 {v0 v1 v2 v3 : Value} {x : Int32} {l : List Value} {K : Int32 → Option xm_O} : xm_lI (v0 :: v1 :: v2 :: v3 :: .int x :: l) 4 K = K x := rfl
theorem xl_F4 {v0 v1 v2 v3 : Value} {x : UInt32} {l : List Value} {K : UInt32 → Option xm_O} : xm_lF (v0 :: v1 :: v2 :: v3 :: .float x :: l) 4 K = K x := rfl
theorem xl_L4 {v0 v1 v2 v3 : Value} {x : Int64} {l : List Value} {K : Int64 → Option xm_O} : xm_lL (v0 :: v1 :: v2 :: v3 :: .long x :: .null :: l) 4 K = K x := rfl
theorem xl_D4 {v0 v1 v2 v3 : Value} {x : UInt64} {l : List Value} {K : UInt64 → Option xm_O} : xm_lD (v0 :: v1 :: v2 :: v3 :: .double x :: .null :: l) 4 K = K x := rfl
theorem xl_A5 {v0 v1 v2 v3 v4 : Value} {x : Nat} {l : List Value} {K : Value → Option xm_O} : xm_lA (v0 :: v1 :: v2 :: v3 :: v4 :: .ref x :: l) 5 K = K (.ref x) := rfl
theorem xl_T5 {v0 v1 v2 v3 v4 : Value} {x : Nat} {l : List Value} {K : Value → Option xm_O} : xm_lA (v0 :: v1 :: v2 :: v3 :: v4 :: .retAddr x :: l) 5 K = if x < 6000 then K (.retAddr x) else none := rfl
theorem xl_I5 {v0 v1 v2 v3 v4 : Value} {x : Int32} {l : List Value} {K : Int32 → Option xm_O} : xm_lI (v0 :: v1 :: v2 :: v3 :: v4 :: .int x :: l) 5 K = K x := rfl
theorem xl_F5 {v0 v1 v2 v3 v4 : Value} {x : UInt32} {l : List Value} {K : UInt32 → Option xm_O} : xm_lF (v0 :: v1 :: v2 :: v3 :: v4 :: .float x :: l) 5 K = K x := rfl
theorem xl_L5 {v0 v1 v2 v3 v4 : Value} {x : Int64} {l : List Value} {K : Int64 → Option xm_O} : xm_lL (v0 :: v1 :: v2 :: v3 :: v4 :: .long x :: .null :: l) 5 K = K x := rfl
theorem xl_D5 {v0 v1 v2 v3 v4 : Value} {x : UInt64} {l : List Value} {K : UInt64 → Option xm_O} : xm_lD (v0 :: v1 :: v2 :: v3 :: v4 :: .double x :: .null :: l) 5 K = K x := rfl
theorem xl_A6 {v0 v1 v2 v3 v4 v5 : Value} {x : Nat} {l : List Value} {K : Value → Option xm_O} : xm_lA (v0 :: v1 :: v2 :: v3 :: v4 :: v5 :: .ref x :: l) 6 K = K (.ref x) := rfl
theorem xl_T6 {v0 v1 v2 v3 v4 v5 : Value} {x : Nat} {l : List Value} {K : Value → Option xm_O} : xm_lA (v0 :: v1 :: v2 :: v3 :: v4 :: v5 :: .retAddr x :: l) 6 K = if x < 6000 then K (.retAddr x) else none := rfl
theorem xl_I6 {v0 v1 v2 v3 v4 v5 : Value} {x : Int32} {l : List Value} {K : Int32 → Option xm_O} : xm_lI (v0 :: v1 :: v2 :: v3 :: v4 :: v5 :: .int x :: l) 6 K = K x := rfl
theorem xl_F6 {v0 v1 v2 v3 v4 v5 : Value} {x : UInt32} {l : List Value} {K : UInt32 → Option xm_O} : xm_lF (v0 :: v1 :: v2 :: v3 :: v4 :: v5 :: .float x :: l) 6 K = K x := rfl
theorem xl_L6 {v0 v1 v2 v3 v4 v5 : Value} {x : Int64} {l : List Value} {K : Int64 → Option xm_O} : xm_lL (v0 :: v1 :: v2 :: v3 :: v4 :: v5 :: .long x :: .null :: l) 6 K = K x := rfl
theorem xl_D6 {v0 v1 v2 v3 v4 v5 : Value} {x : UInt64} {l : List Value} {K : UInt64 → Option xm_O} : xm_lD (v0 :: v1 :: v2 :: v3 :: v4 :: v5 :: .double x :: .null :: l) 6 K = K x := rfl
theorem xl_A7 {v0 v1 v2 v3 v4 v5 v6 : Value} {x : Nat} {l : List Value} {K : Value → Option xm_O} : xm_lA (v0 :: v1 :: v2 :: v3 :: v4 :: v5 :: v6 :: .ref x :: l) 7 K = K (.ref x) := rfl
theorem xl_T7 {v0 v1 v2 v3 v4 v5 v6 : Value} {x : Nat} {l : List Value} {K : Value → Option xm_O} : xm_lA (v0 :: v1 :: v2 :: v3 :: v4 :: v5 :: v6 :: .retAddr x :: l) 7 K = if x < 6000 then K (.retAddr x) else none := rfl
theorem xl_I7 {v0 v1 v2 v3 v4 v5 v6 : Value} {x : Int32} {l : List Value} {K : Int32 → Option xm_O} : xm_lI (v0 :: v1 :: v2 :: v3 :: v4 :: v5 :: v6 :: .int x :: l) 7 K = K x := rfl
theorem xl_F7 {v0 v1 v2 v3 v4 v5 v6 : Value} {x : UInt32} {l : List Value} {K : UInt32 → Option xm_O} : xm_lF (v0 :: v1 :: v2 :: v3 :: v4 :: v5 :: v6 :: .float x :: l) 7 K = K x := rfl
theorem xl_L7 {v0 v1 v2 v3 v4 v5 v6 : Value} {x : Int64} {l : List Value} {K : Int64 → Option xm_O} : xm_lL (v0 :: v1 :: v2 :: v3 :: v4 :: v5 :: v6 :: .long x :: .null :: l) 7 K = K x := rfl
theorem xl_D7 {v0 v1 v2 v3 v4 v5 v6 : Value} {x : UInt64} {l : List Value} {K : UInt64 → Option xm_O} : xm_lD (v0 :: v1 :: v2 :: v3 :: v4 :: v5 :: v6 :: .double x :: .null :: l) 7 K = K x := rfl
theorem xl_A8 {v0 v1 v2 v3 v4 v5 v6 v7 : Value} {x : Nat} {l : List Value} {K : Value → Option xm_O} : xm_lA (v0 :: v1 :: v2 :: v3 :: v4 :: v5 :: v6 :: v7 :: .ref x :: l) 8 K = K (.ref x) := rfl
theorem xl_T8 {v0 v1 v2 v3 v4 v5 v6 v7 : Value} {x : Nat} {l : List Value} {K : Value → Option xm_O} : xm_lA (v0 :: v1 :: v2 :: v3 :: v4 :: v5 :: v6 :: v7 :: .retAddr x :: l) 8 K = if x < 6000 then K (.retAddr x) else none := rfl
theorem xl_I8 {v0 v1 v2 v3 v4 v5 v6 v7 : Value} {x : Int32} {l : List Value} {K : Int32 → Option xm_O} : xm_lI (v0 :: v1 :: v2 :: v3 :: v4 :: v5 :: v6 :: v7 :: .int x :: l) 8 K = K x := rfl
theorem xl_F8 {v0 v1 v2 v3 v4 v5 v6 v7 : Value} {x : UInt32} {l : List Value} {K : UInt32 → Option xm_O} : xm_lF (v0 :: v1 :: v2 :: v3 :: v4 :: v5 :: v6 :: v7 :: .float x :: l) 8 K = K x := rfl
theorem xl_L8 {v0 v1 v2 v3 v4 v5 v6 v7 : Value} {x : Int64} {l : List Value} {K : Int64 → Option xm_O} : xm_lL (v0 :: v1 :: v2 :: v3 :: v4 :: v5 :: v6 :: v7 :: .long x :: .null :: l) 8 K = K x := rfl
theorem xl_D8 {v0 v1 v2 v3 v4 v5 v6 v7 : Value} {x : UInt64} {l : List Value} {K : UInt64 → Option xm_O} : xm_lD (v0 :: v1 :: v2 :: v3 :: v4 :: v5 :: v6 :: v7 :: .double x :: .null :: l) 8 K = K x := rfl
theorem xl_A9 {v0 v1 v2 v3 v4 v5 v6 v7 v8 : Value} {x : Nat} {l : List Value} {K : Value → Option xm_O} : xm_lA (v0 :: v1 :: v2 :: v3 :: v4 :: v5 :: v6 :: v7 :: v8 :: .ref x :: l) 9 K = K (.ref x) := rfl
theorem xl_T9 {v0 v1 v2 v3 v4 v5 v6 v7 v8 : Value} {x : Nat} {l : List Value} {K : Value → Option xm_O} : xm_lA (v0 :: v1 :: v2 :: v3 :: v4 :: v5 :: v6 :: v7 :: v8 :: .retAddr x :: l) 9 K = if x < 6000 then K (.retAddr x) else none := rfl
theorem xl_I9 {v0 v1 v2 v3 v4 v5 v6 v7 v8 : Value} {x : Int32} {l : List Value} {K : Int32 → Option xm_O} : xm_lI (v0 :: v1 :: v2 :: v3 :: v4 :: v5 :: v6 :: v7 :: v8 :: .int x :: l) 9 K = K x := rfl
theorem xl_F9 {v0 v1 v2 v3 v4 v5 v6 v7 v8 : Value} {x : UInt32} {l : List Value} {K : UInt32 → Option xm_O} : xm_lF (v0 :: v1 :: v2 :: v3 :: v4 :: v5 :: v6 :: v7 :: v8 :: .float x :: l) 9 K = K x := rfl
theorem xl_L9 {v0 v1 v2 v3 v4 v5 v6 v7 v8 : Value} {x : Int64} {l : List Value} {K : Int64 → Option xm_O} : xm_lL (v0 :: v1 :: v2 :: v3 :: v4 :: v5 :: v6 :: v7 :: v8 :: .long x :: .null :: l) 9 K = K x := rfl
theorem xl_D9 {v0 v1 v2 v3 v4 v5 v6 v7 v8 : Value} {x : UInt64} {l : List Value} {K : UInt64 → Option xm_O} : xm_lD (v0 :: v1 :: v2 :: v3 :: v4 :: v5 :: v6 :: v7 :: v8 :: .double x :: .null :: l) 9 K = K x := rfl
theorem xl_A10 {v0 v1 v2 v3 v4 v5 v6 v7 v8 v9 : Value} {x : Nat} {l : List Value} {K : Value → Option xm_O} : xm_lA (v0 :: v1 :: v2 :: v3 :: v4 :: v5 :: v6 :: v7 :: v8 :: v9 :: .ref x :: l) 10 K = K (.ref x) := rfl
theorem xl_T10 {v0 v1 v2 v3 v4 v5 v6 v7 v8 v9 : Value} {x : Nat} {l : List Value} {K : Value → Option xm_O} : xm_lA (v0 :: v1 :: v2 :: v3 :: v4 :: v5 :: v6 :: v7 :: v8 :: v9 :: .retAddr x :: l) 10 K = if x < 6000 then K (.retAddr x) else none := rfl
theorem xl_I10 {v0 v1 v2 v3 v4 v5 v6 v7 v8 v9 : Value} {x : Int32} {l : List Value} {K : Int32 → Option xm_O} : xm_lI (v0 :: v1 :: v2 :: v3 :: v4 :: v5 :: v6 :: v7 :: v8 :: v9 :: .int x :: l) 10 K = K x := rfl
theorem xl_F10 {v0 v1 v2 v3 v4 v5 v6 v7 v8 v9 : Value} {x : UInt32} {l : List Value} {K : UInt32 → Option xm_O} : xm_lF (v0 :: v1 :: v2 :: v3 :: v4 :: v5 :: v6 :: v7 :: v8 :: v9 :: .float x :: l) 10 K = K x := rfl
theorem xl_L10 {v0 v1 v2 v3 v4 v5 v6 v7 v8 v9 : Value} {x : Int64} {l : List Value} {K : Int64 → Option xm_O} : xm_lL (v0 :: v1 :: v2 :: v3 :: v4 :: v5 :: v6 :: v7 :: v8 :: v9 :: .long x :: .null :: l) 10 K = K x := rfl
theorem xl_D10 {v0 v1 v2 v3 v4 v5 v6 v7 v8 v9 : Value} {x : UInt64} {l : List Value} {K : UInt64 → Option xm_O} : xm_lD (v0 :: v1 :: v2 :: v3 :: v4 :: v5 :: v6 :: v7 :: v8 :: v9 :: .double x :: .null :: l) 10 K = K x := rfl
theorem xl_A11 {v0 v1 v2 v3 v4 v5 v6 v7 v8 v9 v10 : Value} {x : Nat} {l : List Value} {K : Value → Option xm_O} : xm_lA (v0 :: v1 :: v2 :: v3 :: v4 :: v5 :: v6 :: v7 :: v8 :: v9 :: v10 :: .ref x :: l) 11 K = K (.ref x) := rfl
theorem xl_T11 {v0 v1 v2 v3 v4 v5 v6 v7 v8 v9 v10 : Value} {x : Nat} {l : List Value} {K : Value → Option xm_O} : xm_lA (v0 :: v1 :: v2 :: v3 :: v4 :: v5 :: v6 :: v7 :: v8 :: v9 :: v10 :: .retAddr x :: l) 11 K = if x < 6000 then K (.retAddr x) else none := rfl
theorem xl_I11 {v0 v1 v2 v3 v4 v5 v6 v7 v8 v9 v10 : Value} {x : Int32} {l : List Value} {K : Int32 → Option xm_O} : xm_lI (v0 :: v1 :: v2 :: v3 :: v4 :: v5 :: v6 :: v7 :: v8 :: v9 :: v10 :: .int x :: l) 11 K = K x := rfl
theorem xl_F11 {v0 v1 v2 v3 v4 v5 v6 v7 v8 v9 v10 : Value} {x : UInt32} {l : List Value} {K : UInt32 → Option xm_O} : xm_lF (v0 :: v1 :: v2 :: v3 :: v4 :: v5 :: v6 :: v7 :: v8 :: v9 :: v10 :: .float x :: l) 11 K = K x := rfl
theorem xl_L11 {v0 v1 v2 v3 v4 v5 v6 v7 v8 v9 v10 : Value} {x : Int64} {l : List Value} {K : Int64 → Option xm_O} : xm_lL (v0 :: v1 :: v2 :: v3 :: v4 :: v5 :: v6 :: v7 :: v8 :: v9 :: v10 :: .long x :: .null :: l) 11 K = K x := rfl
theorem xl_D11 {v0 v1 v2 v3 v4 v5 v6 v7 v8 v9 v10 : Value} {x : UInt64} {l : List Value} {K : UInt64 → Option xm_O} : xm_lD (v0 :: v1 :: v2 :: v3 :: v4 :: v5 :: v6 :: v7 :: v8 :: v9 :: v10 :: .double x :: .null :: l) 11 K = K x := rfl
theorem xl_A12 {v0 v1 v2 v3 v4 v5 v6 v7 v8 v9 v10 v11 : Value} {x : Nat} {l : List Value} {K : Value → Option xm_O} : xm_lA (v0 :: v1 :: v2 :: v3 :: v4 :: v5 :: v6 :: v7 :: v8 :: v9 :: v10 :: v11 :: .ref x :: l) 12 K = K (.ref x) := rfl
theorem xl_T12 {v0 v1 v2 v3 v4 v5 v6 v7 v8 v9 v10 v11 : Value} {x : Nat} {l : List Value} {K : Value → Option xm_O} : xm_lA (v0 :: v1 :: v2 :: v3 :: v4 :: v5 :: v6 :: v7 :: v8 :: v9 :: v10 :: v11 :: .retAddr x :: l) 12 K = if x < 6000 then K (.retAddr x) else none := rfl
theorem xl_I12 {v0 v1 v2 v3 v4 v5 v6 v7 v8 v9 v10 v11 : Value} {x : Int32} {l : List Value} {K : Int32 → Option xm_O} : xm_lI (v0 :: v1 :: v2 :: v3 :: v4 :: v5 :: v6 :: v7 :: v8 :: v9 :: v10 :: v11 :: .int x :: l) 12 K = K x := rfl
theorem xl_F12 {v0 v1 v2 v3 v4 v5 v6 v7 v8 v9 v10 v11 : Value} {x : UInt32} {l : List Value} {K : UInt32 → Option xm_O} : xm_lF (v0 :: v1 :: v2 :: v3 :: v4 :: v5 :: v6 :: v7 :: v8 :: v9 :: v10 :: v11 :: .float x :: l) 12 K = K x := rfl
theorem xl_L12 {v0 v1 v2 v3 v4 v5 v6 v7 v8 v9 v10 v11 : Value} {x : Int64} {l : List Value} {K : Int64 → Option xm_O} : xm_lL (v0 :: v1 :: v2 :: v3 :: v4 :: v5 :: v6 :: v7 :: v8 :: v9 :: v10 :: v11 :: .long x :: .null :: l) 12 K = K x := rfl
theorem xl_D12 {v0 v1 v2 v3 v4 v5 v6 v7 v8 v9 v10 v11 : Value} {x : UInt64} {l : List Value} {K : UInt64 → Option xm_O} : xm_lD (v0 :: v1 :: v2 :: v3 :: v4 :: v5 :: v6 :: v7 :: v8 :: v9 :: v10 :: v11 :: .double x :: .null :: l) 12 K = K x := rfl
theorem xl_A13 {v0 v1 v2 v3 v4 v5 v6 v7 v8 v9 v10 v11 v12 : Value} {x : Nat} {l : List Value} {K : Value → Option xm_O} : xm_lA (v0 :: v1 :: v2 :: v3 :: v4 :: v5 :: v6 :: v7 :: v8 :: v9 :: v10 :: v11 :: v12 :: .ref x :: l) 13 K = K (.ref x) := rfl
theorem xl_T13 {v0 v1 v2 v3 v4 v5 v6 v7 v8 v9 v10 v11 v12 : Value} {x : Nat} {l : List Value} {K : Value → Option xm_O} : xm_lA (v0 :: v1 :: v2 :: v3 :: v4 :: v5 :: v6 :: v7 :: v8 :: v9 :: v10 :: v11 :: v12 :: .retAddr x :: l) 13 K = if x < 6000 then K (.retAddr x) else none := rfl
theorem xl_I13 {v0 v1 v2 v3 v4 v5 v6 v7 v8 v9 v10 v11 v12 : Value} {x : Int32} {l : List Value} {K : Int32 → Option xm_O} : xm_lI (v0 :: v1 :: v2 :: v3 :: v4 :: v5 :: v6 :: v7 :: v8 :: v9 :: v10 :: v11 :: v12 :: .int x :: l) 13 K = K x := rfl
theorem xl_F13 {v0 v1 v2 v3 v4 v5 v6 v7 v8 v9 v10 v11 v12 : Value} {x : UInt32} {l : List Value} {K : UInt32 → Option xm_O} : xm_lF (v0 :: v1 :: v2 :: v3 :: v4 :: v5 :: v6 :: v7 :: v8 :: v9 :: v10 :: v11 :: v12 :: .float x :: l) 13 K = K x := rfl
theorem xl_L13 {v0 v1 v2 v3 v4 v5 v6 v7 v8 v9 v10 v11 v12 : Value} {x : Int64} {l : List Value} {K : Int64 → Option xm_O} : xm_lL (v0 :: v1 :: v2 :: v3 :: v4 :: v5 :: v6 :: v7 :: v8 :: v9 :: v10 :: v11 :: v12 :: .long x :: .null :: l) 13 K = K x := rfl
theorem xl_D13 {v0 v1 v2 v3 v4 v5 v6 v7 v8 v9 v10 v11 v12 : Value} {x : UInt64} {l : List Value} {K : UInt64 → Option xm_O} : xm_lD (v0 :: v1 :: v2 :: v3 :: v4 :: v5 :: v6 :: v7 :: v8 :: v9 :: v10 :: v11 :: v12 :: .double x :: .null :: l) 13 K = K x := rfl
theorem xl_A14 {v0 v1 v2 v3 v4 v5 v6 v7 v8 v9 v10 v11 v12 v13 : Value} {x : Nat} {l : List Value} {K : Value → Option xm_O} : xm_lA (v0 :: v1 :: v2 :: v3 :: v4 :: v5 :: v6 :: v7 :: v8 :: v9 :: v10 :: v11 :: v12 :: v13 :: .ref x :: l) 14 K = K (.ref x) := rfl
theorem xl_T14 {v0 v1 v2 v3 v4 v5 v6 v7 v8 v9 v10 v11 v12 v13 : Value} {x : Nat} {l : List Value} {K : Value → Option xm_O} : xm_lA (v0 :: v1 :: v2 :: v3 :: v4 :: v5 :: v6 :: v7 :: v8 :: v9 :: v10 :: v11 :: v12 :: v13 :: .retAddr x :: l) 14 K = if x < 6000 then K (.retAddr x) else none := rfl
theorem xl_I14 {v0 v1 v2 v3 v4 v5 v6 v7 v8 v9 v10 v11 v12 v13 : Value} {x : Int32} {l : List Value} {K : Int32 → Option xm_O} : xm_lI (v0 :: v1 :: v2 :: v3 :: v4 :: v5 :: v6 :: v7 :: v8 :: v9 :: v10 :: v11 :: v12 :: v13 :: .int x :: l) 14 K = K x := rfl
theorem xl_F14 {v0 v1 v2 v3 v4 v5 v6 v7 v8 v9 v10 v11 v12 v13 : Value} {x : UInt32} {l : List Value} {K : UInt32 → Option xm_O} : xm_lF (v0 :: v1 :: v2 :: v3 :: v4 :: v5 :: v6 :: v7 :: v8 :: v9 :: v10 :: v11 :: v12 :: v13 :: .float x :: l) 14 K = K x := rfl
theorem xl_L14 {v0 v1 v2 v3 v4 v5 v6 v7 v8 v9 v10 v11 v12 v13 : Value} {x : Int64} {l : List Value} {K : Int64 → Option xm_O} : xm_lL (v0 :: v1 :: v2 :: v3 :: v4 :: v5 :: v6 :: v7 :: v8 :: v9 :: v10 :: v11 :: v12 :: v13 :: .long x :: .null :: l) 14 K = K x := rfl
theorem xl_D14 {v0 v1 v2 v3 v4 v5 v6 v7 v8 v9 v10 v11 v12 v13 : Value} {x : UInt64} {l : List Value} {K : UInt64 → Option xm_O} : xm_lD (v0 :: v1 :: v2 :: v3 :: v4 :: v5 :: v6 :: v7 :: v8 :: v9 :: v10 :: v11 :: v12 :: v13 :: .double x :: .null :: l) 14 K = K x := rfl
theorem xl_A15 {v0 v1 v2 v3 v4 v5 v6 v7 v8 v9 v10 v11 v12 v13 v14 : Value} {x : Nat} {l : List Value} {K : Value → Option xm_O} : xm_lA (v0 :: v1 :: v2 :: v3 :: v4 :: v5 :: v6 :: v7 :: v8 :: v9 :: v10 :: v11 :: v12 :: v13 :: v14 :: .ref x :: l) 15 K = K (.ref x) := rfl
theorem xl_T15 {v0 v1 v2 v3 v4 v5 v6 v7 v8 v9 v10 v11 v12 v13 v14 : Value} {x : Nat} {l : List Value} {K : Value → Option xm_O} : xm_lA (v0 :: v1 :: v2 :: v3 :: v4 :: v5 :: v6 :: v7 :: v8 :: v9 :: v10 :: v11 :: v12 :: v13 :: v14 :: .retAddr x :: l) 15 K = if x < 6000 then K (.retAddr x) else none := rfl
theorem xl_I15 {v0 v1 v2 v3 v4 v5 v6 v7 v8 v9 v10 v11 v12 v13 v14 : Value} {x : Int32} {l : List Value} {K : Int32 → Option xm_O} : xm_lI (v0 :: v1 :: v2 :: v3 :: v4 :: v5 :: v6 :: v7 :: v8 :: v9 :: v10 :: v11 :: v12 :: v13 :: v14 :: .int x :: l) 15 K = K x := rfl
theorem xl_F15 {v0 v1 v2 v3 v4 v5 v6 v7 v8 v9 v10 v11 v12 v13 v14 : Value} {x : UInt32} {l : List Value} {K : UInt32 → Option xm_O} : xm_lF (v0 :: v1 :: v2 :: v3 :: v4 :: v5 :: v6 :: v7 :: v8 :: v9 :: v10 :: v11 :: v12 :: v13 :: v14 :: .float x :: l) 15 K = K x := rfl
theorem xl_L15 {v0 v1 v2 v3 v4 v5 v6 v7 v8 v9 v10 v11 v12 v13 v14 : Value} {x : Int64} {l : List Value} {K : Int64 → Option xm_O} : xm_lL (v0 :: v1 :: v2 :: v3 :: v4 :: v5 :: v6 :: v7 :: v8 :: v9 :: v10 :: v11 :: v12 :: v13 :: v14 :: .long x :: .null :: l) 15 K = K x := rfl
theorem xl_D15 {v0 v1 v2 v3 v4 v5 v6 v7 v8 v9 v10 v11 v12 v13 v14 : Value} {x : UInt64} {l : List Value} {K : UInt64 → Option xm_O} : xm_lD (v0 :: v1 :: v2 :: v3 :: v4 :: v5 :: v6 :: v7 :: v8 :: v9 :: v10 :: v11 :: v12 :: v13 :: v14 :: .double x :: .null :: l) 15 K = K x := rfl
theorem xl_A16 {v0 v1 v2 v3 v4 v5 v6 v7 v8 v9 v10 v11 v12 v13 v14 v15 : Value} {x : Nat} {l : List Value} {K : Value → Option xm_O} : xm_lA (v0 :: v1 :: v2 :: v3 :: v4 :: v5 :: v6 :: v7 :: v8 :: v9 :: v10 :: v11 :: v12 :: v13 :: v14 :: v15 :: .ref x :: l) 16 K = K (.ref x) := rfl
theorem xl_T16 {v0 v1 v2 v3 v4 v5 v6 v7 v8 v9 v10 v11 v12 v13 v14 v15 : Value} {x : Nat} {l : List Value} {K : Value → Option xm_O} : xm_lA (v0 :: v1 :: v2 :: v3 :: v4 :: v5 :: v6 :: v7 :: v8 :: v9 :: v10 :: v11 :: v12 :: v13 :: v14 :: v15 :: .retAddr x :: l) 16 K = if x < 6000 then K (.retAddr x) else none := rfl
theorem xl_I16 {v0 v1 v2 v3 v4 v5 v6 v7 v8 v9 v10 v11 v12 v13 v14 v15 : Value} {x : Int32} {l : List Value} {K : Int32 → Option xm_O} : xm_lI (v0 :: v1 :: v2 :: v3 :: v4 :: v5 :: v6 :: v7 :: v8 :: v9 :: v10 :: v11 :: v12 :: v13 :: v14 :: v15 :: .int x :: l) 16 K = K x := rfl
theorem xl_F16 {v0 v1 v2 v3 v4 v5 v6 v7 v8 v9 v10 v11 v12 v13 v14 v15 : Value} {x : UInt32} {l : List Value} {K : UInt32 → Option xm_O} : xm_lF (v0 :: v1 :: v2 :: v3 :: v4 :: v5 :: v6 :: v7 :: v8 :: v9 :: v10 :: v11 :: v12 :: v13 :: v14 :: v15 :: .float x :: l) 16 K = K x := rfl
theorem xl_L16 {v0 v1 v2 v3 v4 v5 v6 v7 v8 v9 v10 v11 v12 v13 v14 v15 : Value} {x : Int64} {l : List Value} {K : Int64 → Option xm_O} : xm_lL (v0 :: v1 :: v2 :: v3 :: v4 :: v5 :: v6 :: v7 :: v8 :: v9 :: v10 :: v11 :: v12 :: v13 :: v14 :: v15 :: .long x :: .null :: l) 16 K = K x := rfl
theorem xl_D16 {v0 v1 v2 v3 v4 v5 v6 v7 v8 v9 v10 v11 v12 v13 v14 v15 : Value} {x : UInt64} {l : List Value} {K : UInt64 → Option xm_O} : xm_lD (v0 :: v1 :: v2 :: v3 :: v4 :: v5 :: v6 :: v7 :: v8 :: v9 :: v10 :: v11 :: v12 :: v13 :: v14 :: v15 :: .double x :: .null :: l) 16 K = K x := rfl
theorem xl_A17 {v0 v1 v2 v3 v4 v5 v6 v7 v8 v9 v10 v11 v12 v13 v14 v15 v16 : Value} {x : Nat} {l : List Value} {K : Value → Option xm_O} : xm_lA (v0 :: v1 :: v2 :: v3 :: v4 :: v5 :: v6 :: v7 :: v8 :: v9 :: v10 :: v11 :: v12 :: v13 :: v14 :: v15 :: v16 :: .ref x :: l) 17 K = K (.ref x) := rfl
theorem xl_T17 {v0 v1 v2 v3 v4 v5 v6 v7 v8 v9 v10 v11 v12 v13 v14 v15 v16 : Value} {x : Nat} {l : List Value} {K : Value → Option xm_O} : xm_lA (v0 :: v1 :: v2 :: v3 :: v4 :: v5 :: v6 :: v7 :: v8 :: v9 :: v10 :: v11 :: v12 :: v13 :: v14 :: v15 :: v16 :: .retAddr x :: l) 17 K = if x < 6000 then K (.retAddr x) else none := rfl
theorem xl_I17 {v0 v1 v2 v3 v4 v5 v6 v7 v8 v9 v10 v11 v12 v13 v14 v15 v16 : Value} {x : Int32} {l : List Value} {K : Int32 → Option xm_O} : xm_lI (v0 :: v1 :: v2 :: v3 :: v4 :: v5 :: v6 :: v7 :: v8 :: v9 :: v10 :: v11 :: v12 :: v13 :: v14 :: v15 :: v16 :: .int x :: l) 17 K = K x := rfl
theorem xl_F17 {v0 v1 v2 v3 v4 v5 v6 v7 v8 v9 v10 v11 v12 v13 v14 v15 v16 : Value} {x : UInt32} {l : List Value} {K : UInt32 → Option xm_O} : xm_lF (v0 :: v1 :: v2 :: v3 :: v4 :: v5 :: v6 :: v7 :: v8 :: v9 :: v10 :: v11 :: v12 :: v13 :: v14 :: v15 :: v16 :: .float x :: l) 17 K = K x := rfl
theorem xl_L17 {v0 v1 v2 v3 v4 v5 v6 v7 v8 v9 v10 v11 v12 v13 v14 v15 v16 : Value} {x : Int64} {l : List Value} {K : Int64 → Option xm_O} : xm_lL (v0 :: v1 :: v2 :: v3 :: v4 :: v5 :: v6 :: v7 :: v8 :: v9 :: v10 :: v11 :: v12 :: v13 :: v14 :: v15 :: v16 :: .long x :: .null :: l) 17 K = K x := rfl
theorem xl_D17 {v0 v1 v2 v3 v4 v5 v6 v7 v8 v9 v10 v11 v12 v13 v14 v15 v16 : Value} {x : UInt64} {l : List Value} {K : UInt64 → Option xm_O} : xm_lD (v0 :: v1 :: v2 :: v3 :: v4 :: v5 :: v6 :: v7 :: v8 :: v9 :: v10 :: v11 :: v12 :: v13 :: v14 :: v15 :: v16 :: .double x :: .null :: l) 17 K = K x := rfl
theorem xl_A18 {v0 v1 v2 v3 v4 v5 v6 v7 v8 v9 v10 v11 v12 v13 v14 v15 v16 v17 : Value} {x : Nat} {l : List Value} {K : Value → Option xm_O} : xm_lA (v0 :: v1 :: v2 :: v3 :: v4 :: v5 :: v6 :: v7 :: v8 :: v9 :: v10 :: v11 :: v12 :: v13 :: v14 :: v15 :: v16 :: v17 :: .ref x :: l) 18 K = K (.ref x) := rfl
theorem xl_T18 {v0 v1 v2 v3 v4 v5 v6 v7 v8 v9 v10 v11 v12 v13 v14 v15 v16 v17 : Value} {x : Nat} {l : List Value} {K : Value → Option xm_O} : xm_lA (v0 :: v1 :: v2 :: v3 :: v4 :: v5 :: v6 :: v7 :: v8 :: v9 :: v10 :: v11 :: v12 :: v13 :: v14 :: v15 :: v16 :: v17 :: .retAddr x :: l) 18 K = if x < 6000 then K (.retAddr x) else none := rfl
theorem xl_I18 {v0 v1 v2 v3 v4 v5 v6 v7 v8 v9 v10 v11 v12 v13 v14 v15 v16 v17 : Value} {x : Int32} {l : List Value} {K : Int32 → Option xm_O} : xm_lI (v0 :: v1 :: v2 :: v3 :: v4 :: v5 :: v6 :: v7 :: v8 :: v9 :: v10 :: v11 :: v12 :: v13 :: v14 :: v15 :: v16 :: v17 :: .int x :: l) 18 K = K x := rfl
theorem xl_F18 {v0 v1 v2 v3 v4 v5 v6 v7 v8 v9 v10 v11 v12 v13 v14 v15 v16 v17 : Value} {x : UInt32} {l : List Value} {K : UInt32 → Option xm_O} : xm_lF (v0 :: v1 :: v2 :: v3 :: v4 :: v5 :: v6 :: v7 :: v8 :: v9 :: v10 :: v11 :: v12 :: v13 :: v14 :: v15 :: v16 :: v17 :: .float x :: l) 18 K = K x := rfl
theorem xl_L18 {v0 v1 v2 v3 v4 v5 v6 v7 v8 v9 v10 v11 v12 v13 v14 v15 v16 v17 : Value} {x : Int64} {l : List Value} {K : Int64 → Option xm_O} : xm_lL (v0 :: v1 :: v2 :: v3 :: v4 :: v5 :: v6 :: v7 :: v8 :: v9 :: v10 :: v11 :: v12 :: v13 :: v14 :: v15 :: v16 :: v17 :: .long x :: .null :: l) 18 K = K x := rfl
theorem xl_D18 {v0 v1 v2 v3 v4 v5 v6 v7 v8 v9 v10 v11 v12 v13 v14 v15 v16 v17 : Value} {x : UInt64} {l : List Value} {K : UInt64 → Option xm_O} : xm_lD (v0 :: v1 :: v2 :: v3 :: v4 :: v5 :: v6 :: v7 :: v8 :: v9 :: v10 :: v11 :: v12 :: v13 :: v14 :: v15 :: v16 :: v17 :: .double x :: .null :: l) 18 K = K x := rfl
theorem xl_A19 {v0 v1 v2 v3 v4 v5 v6 v7 v8 v9 v10 v11 v12 v13 v14 v15 v16 v17 v18 : Value} {x : Nat} {l : List Value} {K : Value → Option xm_O} : xm_lA (v0 :: v1 :: v2 :: v3 :: v4 :: v5 :: v6 :: v7 :: v8 :: v9 :: v10 :: v11 :: v12 :: v13 :: v14 :: v15 :: v16 :: v17 :: v18 :: .ref x :: l) 19 K = K (.ref x) := rfl
theorem xl_T19 {v0 v1 v2 v3 v4 v5 v6 v7 v8 v9 v10 v11 v12 v13 v14 v15 v16 v17 v18 : Value} {x : Nat} {l : List Value} {K : Value → Option xm_O} : xm_lA (v0 :: v1 :: v2 :: v3 :: v4 :: v5 :: v6 :: v7 :: v8 :: v9 :: v10 :: v11 :: v12 :: v13 :: v14 :: v15 :: v16 :: v17 :: v18 :: .retAddr x :: l) 19 K = if x < 6000 then K (.retAddr x) else none := rfl
theorem xl_I19 {v0 v1 v2 v3 v4 v5 v6 v7 v8 v9 v10 v11 v12 v13 v14 v15 v16 v17 v18 : Value} {x : Int32} {l : List Value} {K : Int32 → Option xm_O} : xm_lI (v0 :: v1 :: v2 :: v3 :: v4 :: v5 :: v6 :: v7 :: v8 :: v9 :: v10 :: v11 :: v12 :: v13 :: v14 :: v15 :: v16 :: v17 :: v18 :: .int x :: l) 19 K = K x := rfl
theorem xl_F19 {v0 v1 v2 v3 v4 v5 v6 v7 v8 v9 v10 v11 v12 v13 v14 v15 v16 v17 v18 : Value} {x : UInt32} {l : List Value} {K : UInt32 → Option xm_O} : xm_lF (v0 :: v1 :: v2 :: v3 :: v4 :: v5 :: v6 :: v7 :: v8 :: v9 :: v10 :: v11 :: v12 :: v13 :: v14 :: v15 :: v16 :: v17 :: v18 :: .float x :: l) 19 K = K x := rfl
theorem xl_L19 {v0 v1 v2 v3 v4 v5 v6 v7 v8 v9 v10 v11 v12 v13 v14 v15 v16 v17 v18 : Value} {x : Int64} {l : List Value} {K : Int64 → Option xm_O} : xm_lL (v0 :: v1 :: v2 :: v3 :: v4 :: v5 :: v6 :: v7 :: v8 :: v9 :: v10 :: v11 :: v12 :: v13 :: v14 :: v15 :: v16 :: v17 :: v18 :: .long x :: .null :: l) 19 K = K x := rfl
theorem xl_D19 {v0 v1 v2 v3 v4 v5 v6 v7 v8 v9 v10 v11 v12 v13 v14 v15 v16 v17 v18 : Value} {x : UInt64} {l : List Value} {K : UInt64 → Option xm_O} : xm_lD (v0 :: v1 :: v2 :: v3 :: v4 :: v5 :: v6 :: v7 :: v8 :: v9 :: v10 :: v11 :: v12 :: v13 :: v14 :: v15 :: v16 :: v17 :: v18 :: .double x :: .null :: l) 19 K = K x := rfl
theorem xp_I {x : Int32} {r : List Value} {K : Int32 → List Value → Option xm_O} : xm_pI (.int x :: r) K = K x r := rfl
theorem xp_L {x : Int64} {r : List Value} {K : Int64 → List Value → Option xm_O} : xm_pL (.long x :: r) K = K x r := rfl
theorem xp_F {x : UInt32} {r : List Value} {K : UInt32 → List Value → Option xm_O} : xm_pF (.float x :: r) K = K x r := rfl
theorem xp_D {x : UInt64} {r : List Value} {K : UInt64 → List Value → Option xm_O} : xm_pD (.double x :: r) K = K x r := rfl
theorem xp_R {x : Nat} {r : List Value} {K : Nat → List Value → Option xm_O} : xm_pR (.ref x :: r) K = K x r := rfl
theorem xp_S {x : Nat} {r : List Value} {K : Nat → List Value → Option xm_O} : xm_pS (.retAddr x :: r) K = K x r := rfl
theorem xp_RS {x : Nat} {r : List Value} {K : Value → List Value → Option xm_O} : xm_pRS (.ref x :: r) K = K (.ref x) r := rfl
theorem xp_RT {x : Nat} {r : List Value} {K : Value → List Value → Option xm_O} : xm_pRS (.retAddr x :: r) K = K (.retAddr x) r := rfl
theorem xk_0 {v : Option Value ⊕ Nat} {S : xm_PS} {K : xm_PS → Option xm_O} {kx : Nat → xm_PS → Option xm_O} (h : v = .inl none) : xm_r0 (v, S) K kx = K S := by subst h; rfl
theorem xk_v {S : xm_PS} {K : xm_PS → Option xm_O} {kx : Nat → xm_PS → Option xm_O} : xm_r0 (.inl none, S) K kx = K S := rfl
theorem xk_I {x : Int32} {S : xm_PS} {K : Int32 → xm_PS → Option xm_O} {kx : Nat → xm_PS → Option xm_O} : xm_rI (.inl (some (.int x)), S) K kx = K x S := rfl
theorem xk_L {x : Int64} {S : xm_PS} {K : Int64 → xm_PS → Option xm_O} {kx : Nat → xm_PS → Option xm_O} : xm_rL (.inl (some (.long x)), S) K kx = K x S := rfl
theorem xk_F {x : UInt32} {S : xm_PS} {K : UInt32 → xm_PS → Option xm_O} {kx : Nat → xm_PS → Option xm_O} : xm_rF (.inl (some (.float x)), S) K kx = K x S := rfl
theorem xk_D {x : UInt64} {S : xm_PS} {K : UInt64 → xm_PS → Option xm_O} {kx : Nat → xm_PS → Option xm_O} : xm_rD (.inl (some (.double x)), S) K kx = K x S := rfl
theorem xk_R {x : Nat} {S : xm_PS} {K : Nat → xm_PS → Option xm_O} {kx : Nat → xm_PS → Option xm_O} : xm_rR (.inl (some (.ref x)), S) K kx = K x S := rfl
theorem xk_vx {e : Nat} {S : xm_PS} {K : xm_PS → Option xm_O} {kx : Nat → xm_PS → Option xm_O} : xm_r0 (.inr e, S) K kx = kx e S := rfl
theorem xk_Ix {e : Nat} {S : xm_PS} {K : Int32 → xm_PS → Option xm_O} {kx : Nat → xm_PS → Option xm_O} : xm_rI (.inr e, S) K kx = kx e S := rfl
theorem xk_Dx {e : Nat} {S : xm_PS} {K : UInt64 → xm_PS → Option xm_O} {kx : Nat → xm_PS → Option xm_O} : xm_rD (.inr e, S) K kx = kx e S := rfl
theorem xk_Fx {e : Nat} {S : xm_PS} {K : UInt32 → xm_PS → Option xm_O} {kx : Nat → xm_PS → Option xm_O} : xm_rF (.inr e, S) K kx = kx e S := rfl
theorem xr_0 {o : xm_O} {K : List Value → xm_PS → Option xm_O} {kx : Nat → xm_PS → Option xm_O} : xm_rr 0 o K kx = xm_r0 o (fun S => K [] S) kx := rfl
theorem xr_1 {o : xm_O} {K : List Value → xm_PS → Option xm_O} {kx : Nat → xm_PS → Option xm_O} : xm_rr 1 o K kx = xm_rI o (fun x S => K [.int x] S) kx := rfl
theorem xr_2 {o : xm_O} {K : List Value → xm_PS → Option xm_O} {kx : Nat → xm_PS → Option xm_O} : xm_rr 2 o K kx = xm_rL o (fun x S => K [.long x] S) kx := rfl
theorem xr_3 {o : xm_O} {K : List Value → xm_PS → Option xm_O} {kx : Nat → xm_PS → Option xm_O} : xm_rr 3 o K kx = xm_rF o (fun x S => K [.float x] S) kx := rfl
theorem xr_4 {o : xm_O} {K : List Value → xm_PS → Option xm_O} {kx : Nat → xm_PS → Option xm_O} : xm_rr 4 o K kx = xm_rD o (fun x S => K [.double x] S) kx := rfl
theorem xr_5 {o : xm_O} {K : List Value → xm_PS → Option xm_O} {kx : Nat → xm_PS → Option xm_O} : xm_rr 5 o K kx = xm_rR o (fun x S => K [.ref x] S) kx := rfl
theorem xk_x {tab : xm_Segs} {K : Nat → List Value → List Value → xm_PS → Option xm_O} {pc : Nat} {ls : List Value} {e : Nat} {S : xm_PS} : xm_kx tab [] K pc ls e S = some (.inr e, S) := rfl
theorem xk_xf {tab : xm_Segs} {K : Nat → List Value → List Value → xm_PS → Option xm_O} {pc : Nat} {ls : List Value} : xm_kx tab [] K pc ls = fun e S => some (.inr e, S) := rfl
theorem xe_T {c : Decidable True} {A B : Option xm_O} : @ite _ True c A B = A := if_pos trivial
theorem xb_0 {A B : Option xm_O} : (if xm_b01 0 = true then A else B) = A := rfl
theorem xb_1 {A B : Option xm_O} : (if xm_b01 1 = true then A else B) = A := rfl
theorem xe_nil {A B : Option xm_O} : (if ([] : List Value) = [] then A else B) = A := rfl
theorem xq_c0 {call : Nat → List Value → xm_PS → Option xm_O} {kont : Nat → List Value → List Value → xm_PS → Option xm_O} {kx : Nat → xm_PS → Option xm_O} {pc : Nat} {ls : List Value} {S : xm_PS} {j : Nat} {as : List Value} {c : Nat} : xm_call call kont kx pc ls [] S j as c = (call j as S).bind fun o => xm_rr c o (fun l S => kont (pc + 3) ls (l ++ []) S) kx := rfl
theorem xq_c1 {a0 : Value} {call : Nat → List Value → xm_PS → Option xm_O} {kont : Nat → List Value → List Value → xm_PS → Option xm_O} {kx : Nat → xm_PS → Option xm_O} {pc : Nat} {ls : List Value} {S : xm_PS} {j : Nat} {as : List Value} {c : Nat} : xm_call call kont kx pc ls [a0] S j as c = (call j as S).bind fun o => xm_rr c o (fun l S => kont (pc + 3) ls (l ++ [a0]) S) kx := rfl
theorem xq_c2 {a0 a1 : Value} {call : Nat → List Value → xm_PS → Option xm_O} {kont : Nat → List Value → List Value → xm_PS → Option xm_O} {kx : Nat → xm_PS → Option xm_O} {pc : Nat} {ls : List Value} {S : xm_PS} {j : Nat} {as : List Value} {c : Nat} : xm_call call kont kx pc ls [a0, a1] S j as c = (call j as S).bind fun o => xm_rr c o (fun l S => kont (pc + 3) ls (l ++ [a0, a1]) S) kx := rfl
theorem xq_c3 {a0 a1 a2 : Value} {call : Nat → List Value → xm_PS → Option xm_O} {kont : Nat → List Value → List Value → xm_PS → Option xm_O} {kx : Nat → xm_PS → Option xm_O} {pc : Nat} {ls : List Value} {S : xm_PS} {j : Nat} {as : List Value} {c : Nat} : xm_call call kont kx pc ls [a0, a1, a2] S j as c = (call j as S).bind fun o => xm_rr c o (fun l S => kont (pc + 3) ls (l ++ [a0, a1, a2]) S) kx := rfl
theorem xq_c4 {a0 a1 a2 a3 : Value} {call : Nat → List Value → xm_PS → Option xm_O} {kont : Nat → List Value → List Value → xm_PS → Option xm_O} {kx : Nat → xm_PS → Option xm_O} {pc : Nat} {ls : List Value} {S : xm_PS} {j : Nat} {as : List Value} {c : Nat} : xm_call call kont kx pc ls [a0, a1, a2, a3] S j as c = (call j as S).bind fun o => xm_rr c o (fun l S => kont (pc + 3) ls (l ++ [a0, a1, a2, a3]) S) kx := rfl
theorem xq_c5 {a0 a1 a3 : Int32} {a2 a4 : Nat} {call : Nat → List Value → xm_PS → Option xm_O} {kont : Nat → List Value → List Value → xm_PS → Option xm_O} {kx : Nat → xm_PS → Option xm_O} {pc : Nat} {ls : List Value} {S : xm_PS} {j : Nat} {as : List Value} {c : Nat} : xm_call call kont kx pc ls [.int a0, .int a1, .ref a2, .int a3, .ref a4] S j as c = (call j as S).bind fun o => xm_rr c o (fun l S => kont (pc + 3) ls (l ++ [.int a0, .int a1, .ref a2, .int a3, .ref a4]) S) kx := rfl
theorem xq_s0 {r : List Value} {X : Option xm_O} : (if 0 ≤ (r).length then X else none) = X := if_pos (by omega)
theorem xq_s1 {a0 : Value} {r : List Value} {X : Option xm_O} : (if 1 ≤ (a0 :: r).length then X else none) = X := if_pos (by simp only [List.length_cons]; omega)
theorem xq_s2 {a0 a1 : Value} {r : List Value} {X : Option xm_O} : (if 2 ≤ (a0 :: a1 :: r).length then X else none) = X := if_pos (by simp only [List.length_cons]; omega)
theorem xq_s3 {a0 a1 a2 : Value} {r : List Value} {X : Option xm_O} : (if 3 ≤ (a0 :: a1 :: a2 :: r).length then X else none) = X := if_pos (by simp only [List.length_cons]; omega)
theorem xq_s4 {a0 a1 a2 a3 : Value} {r : List Value} {X : Option xm_O} : (if 4 ≤ (a0 :: a1 :: a2 :: a3 :: r).length then X else none) = X := if_pos (by simp only [List.length_cons]; omega)
theorem xq_s5 {a0 a1 a2 a3 a4 : Value} {r : List Value} {X : Option xm_O} : (if 5 ≤ (a0 :: a1 :: a2 :: a3 :: a4 :: r).length then X else none) = X := if_pos (by simp only [List.length_cons]; omega)
theorem xq_s6 {a0 a1 a2 a3 a4 a5 : Value} {r : List Value} {X : Option xm_O} : (if 6 ≤ (a0 :: a1 :: a2 :: a3 :: a4 :: a5 :: r).length then X else none) = X := if_pos (by simp only [List.length_cons]; omega)
theorem xq_s7 {a0 a1 a2 a3 a4 a5 a6 : Value} {r : List Value} {X : Option xm_O} : (if 7 ≤ (a0 :: a1 :: a2 :: a3 :: a4 :: a5 :: a6 :: r).length then X else none) = X := if_pos (by simp only [List.length_cons]; omega)
theorem xb_y0 {A B : Option xm_O} : (if xm_byt 0 = true then A else B) = A := rfl
theorem xb_y1 {A B : Option xm_O} : (if xm_byt 1 = true then A else B) = A := rfl
theorem xq_r0 {X : Option xm_O} : (if ([] : List Value).length ≤ 4 then X else none) = X := rfl
theorem xq_t0 {p : Prop} {i0 : Decidable p} {X : Option xm_O} : (if ([] : List Value).length ≤ 4 ∧ p then X else none) = if p then X else none := by by_cases h : p <;> simp [h]
theorem xq_r1 {a0 : Value} {X : Option xm_O} : (if ([a0] : List Value).length ≤ 4 then X else none) = X := rfl
theorem xq_t1 {a0 : Value} {p : Prop} {i0 : Decidable p} {X : Option xm_O} : (if ([a0] : List Value).length ≤ 4 ∧ p then X else none) = if p then X else none := by by_cases h : p <;> simp [h]
theorem xq_r2 {a0 a1 : Value} {X : Option xm_O} : (if ([a0, a1] : List Value).length ≤ 4 then X else none) = X := rfl
theorem xq_t2 {a0 a1 : Value} {p : Prop} {i0 : Decidable p} {X : Option xm_O} : (if ([a0, a1] : List Value).length ≤ 4 ∧ p then X else none) = if p then X else none := by by_cases h : p <;> simp [h]
theorem xq_r3 {a0 a1 a2 : Value} {X : Option xm_O} : (if ([a0, a1, a2] : List Value).length ≤ 4 then X else none) = X := rfl
theorem xq_t3 {a0 a1 a2 : Value} {p : Prop} {i0 : Decidable p} {X : Option xm_O} : (if ([a0, a1, a2] : List Value).length ≤ 4 ∧ p then X else none) = if p then X else none := by by_cases h : p <;> simp [h]
theorem xq_r4 {a0 a1 a2 a3 : Value} {X : Option xm_O} : (if ([a0, a1, a2, a3] : List Value).length ≤ 4 then X else none) = X := rfl
theorem xq_t4 {a0 a1 a2 a3 : Value} {p : Prop} {i0 : Decidable p} {X : Option xm_O} : (if ([a0, a1, a2, a3] : List Value).length ≤ 4 ∧ p then X else none) = if p then X else none := by by_cases h : p <;> simp [h]
