/-! THE REFERENCE: goals and ways -/
section RN
variable {w : xW} {l : Nat → Nat → Int64} {t : Nat} {sc : xm_Sc} {d : Nat}
abbrev xfx (f : Nat → Int32) (x y : Int32) : Int32 := f (6 * x.toNatClampNeg + y.toNatClampNeg)
theorem xWF.rt {r : Nat → Int32} (h : xWF r) {v s : Nat} (hv : v < xnv r) (hs : s < xst r v) : xib (r (15 + 11 * v + s)) := xil_le ((h.v v hv).2.2.2.2 s hs) h.bd.b6
theorem sp_goal_ib {r : Nat → Int32} (h : xWF r) {k : Nat} (hk : k < xnk r) : sp_goal r k = -1 ∨ (xil (sp_goal r k) (xnb r) ∧ xop r (sp_goal r k)) := by
  unfold sp_goal
  split
  · next q hq =>
    unfold sp_want at hq
    split at hq
    · cases hq
    · have h1 := xfst_some hq
      exact Or.inr ⟨(h.q.1 q (by omega)).2.2, h1.1.2⟩
  · split
    · next h1 => exact Or.inr ⟨(h.k k hk).2.1, h1⟩
    · exact Or.inl rfl
def sp_least (f r : Nat → Int32) (v : Nat) (g : Int32) : Nat → Int32
  | 0 => -1
  | s + 1 => if xfx f (r (15 + 11 * v + s)) g = -1 then sp_least f r v g s else if sp_least f r v g s = -1 then xfx f (r (15 + 11 * v + s)) g else
    if sp_least f r v g s ≤ xfx f (r (15 + 11 * v + s)) g then sp_least f r v g s else xfx f (r (15 + 11 * v + s)) g
abbrev sp_leaves (f r : Nat → Int32) (k v : Nat) (b : Int32) : Prop := sp_goal r k = -1 ∨ (¬ xfx f b (sp_goal r k) = -1 ∧ xfx f b (sp_goal r k) = sp_least f r v (sp_goal r k) (xst r v))
def sp_goes (f r : Nat → Int32) (k v : Nat) (b : Int32) : Bool := if sp_goal r k = -1 then false else if xfx f b (sp_goal r k) ≤ 0 then false else xany (fun s => decide (xfx f (r (15 + 11 * v + s)) (sp_goal r k) = xfx f b (sp_goal r k) - 1)) (xst r v)
def sp_class (r : Nat → Int32) (k : Nat) : Int32 := if r (59 + 6 * k) = 1 then 0 else if sp_first r (nI k) = none then 2 else 1
end RN
