/-! THE REFERENCE: load -/
def xLd (w w' : xW) (A : xLk) : Prop := (∀ g, g ≠ 3 → w' g = w g) ∧ (∀ i, i = 4 ∨ i = 5 ∨ 14 < i → (w' 3).1 i = (w 3).1 i) ∧ (w' 3).1 0 = 0 ∧ (w' 3).1 2 = 0 ∧ (w' 3).1 6 = 0 ∧ (w' 3).1 13 = (if A.1.2.2.2.1 = 0 then -1 else A.1.2.2.2.2) ∧ (∀ a, a ≠ 0 → a ≠ 1 → (w' 3).2 a = (w 3).2 a) ∧ (A.1.2.2.2.1 = 0 → (w' 3).1 1 = 0 ∧ (w' 3).1 3 = 0 ∧ ∀ i, i < 296 → (w' 3).2 0 i = A.2 i) ∧ (¬ A.1.2.2.2.1 = 0 → (w' 3).1 1 = (w 3).1 1 ∧ (w' 3).1 3 = (w 3).1 3 ∧ (w' 3).2 0 = (w 3).2 0)
section LD
variable {w : xW} {l : Nat → Nat → Int64} {t : Nat} {sc : xm_Sc} {d n : Nat} {T : xTk}
theorem xPw_f0 {x : Int32} : xu (xPw w T) 3 (xs1 (xPw w T 3) 0 x) = xPw (xu w 3 (xs1 (w 3) 0 x)) T := by
  unfold xPw
  rw [xu_xu, xu_same, xu_same, xu_xu]
  congr 1
  refine Prod.ext (funext fun i => ?_) rfl
  show (if i = 0 then x else if i = 8 then nI T.1 else if i = 9 then T.2.1 else if i = 10 then T.2.2.1 else if i = 11 then T.2.2.2.1 else if i = 12 then T.2.2.2.2 else (w 3).1 i) = (if i = 8 then nI T.1 else if i = 9 then T.2.1 else if i = 10 then T.2.2.1 else if i = 11 then T.2.2.2.1 else if i = 12 then T.2.2.2.2 else if i = 0 then x else (w 3).1 i)
  by_cases h : i = 0
  · rw [if_pos h, if_neg (by omega), if_neg (by omega), if_neg (by omega), if_neg (by omega), if_neg (by omega), if_pos h]
  · rw [if_neg h, if_neg (c := i = 0) h]
theorem xTl_1 {x : Int32} {i : Nat} (h : i ≠ 2) : (xT w x 3).1 i = (w 3).1 i := by
  unfold xT
  rw [xu_same]
  exact xs1_ne h
theorem xTl_2 {x : Int32} : (xT w x 3).2 = (w 3).2 := by
  unfold xT
  rw [xu_same]
  rfl
theorem xT_TT {x y : Int32} : xT (xT w x) y = xT w y := by
  unfold xT
  rw [xu_xu, xu_same]
  congr 1
  refine Prod.ext (funext fun i => ?_) rfl
  show (if i = 2 then y else if i = 2 then x else (w 3).1 i) = (if i = 2 then y else (w 3).1 i)
  split <;> rfl
end LD
