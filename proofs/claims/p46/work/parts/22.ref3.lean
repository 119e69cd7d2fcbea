/-! THE REFERENCE: routes and counts -/
section RH
variable {w : xW} {l : Nat → Nat → Int64} {t : Nat} {sc : xm_Sc} {d : Nat}
theorem zB_tt {c : Prop} [Decidable c] (h : c) : zB c = 1 := if_pos h
theorem zB_ff {c : Prop} [Decidable c] (h : ¬ c) : zB c = 0 := if_neg h
end RH
