/-! THE REFERENCE: stranded, pairsBut -/
abbrev sp_strc (f r : Nat → Int32) (k : Nat) : Prop := r (56 + 6 * k) = 0 ∧ (sp_goal r k = -1 ∨ (¬ sp_goal r k = r (57 + 6 * k) ∧ xfx f (r (57 + 6 * k)) (sp_goal r k) = -1))
def sp_str (f r : Nat → Int32) (n : Nat) : Int32 := xsum (fun k => zB (sp_strc f r k)) n
abbrev sp_prc (f : Nat → Int32) (x a b : Nat) : Prop := ¬ a = b ∧ ¬ a = x ∧ ¬ b = x ∧ ¬ f (6 * a + b) = -1
def sp_pr (f : Nat → Int32) (x nb a : Nat) : Int32 := xsum (fun a => xsum (fun b => zB (sp_prc f x a b)) nb) a
section SI
variable {w : xW} {l : Nat → Nat → Int64} {t : Nat} {sc : xm_Sc} {d : Nat}
end SI
