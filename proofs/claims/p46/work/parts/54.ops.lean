/-! THE REFERENCE: operations (2) -/
abbrev sp_hf (r : Nat → Int32) (k : Nat) (rd : Int32) : Prop := r (56 + 6 * k) = 2 ∧ r (60 + 6 * k) = rd
abbrev sp_bk (r : Nat → Int32) (a : Int32) : Prop := 0 ≤ a ∧ a ≤ r 2 - 1
abbrev sp_br (r : Nat → Int32) (a : Int32) : Prop := 0 ≤ a ∧ a ≤ r 0 - 1
abbrev sp_vn (r : Nat → Int32) (a : Int32) : Prop := 0 ≤ a ∧ a ≤ r 1 - 1
def sp_cancelN (r : Nat → Int32) (k : Nat) (rd : Int32) : Int32 × Int32 × Option (Nat → Int32) := match sp_by r (nI k) rd with
  | none => (0, -2, none)
  | some q => (0, sp_rank r q, some (sp_drop (if sp_hf r k rd then sp_put r k 0 (r (57 + 6 * k)) else r) q))
def sp_recallN (r : Nat → Int32) (k : Nat) : Int32 × Int32 × Option (Nat → Int32) := if r (59 + 6 * k) = 1 then (0, -2, none) else if sp_isIn r 0 k (r (58 + 6 * k)) then (0, -3, none) else
  (0, r (56 + 6 * k), some (upd (if r (56 + 6 * k) = 2 then sp_put r k 0 (r (57 + 6 * k)) else r) (59 + 6 * k) 1))
def sp_takeN (r : Nat → Int32) (k : Nat) (rd : Int32) : Int32 × Int32 × Option (Nat → Int32) := if sp_hf r k rd then (match sp_by r (nI k) rd with
  | none => (0, -2, none)
  | some q => (0, r (57 + 6 * k), some (upd (sp_put (sp_drop r q) k 3 (-1)) (60 + 6 * k) rd))) else (0, -2, none)
def sp_backN (r : Nat → Int32) (k : Nat) (b : Int32) : Int32 × Int32 × Option (Nat → Int32) := if r (56 + 6 * k) = 3 then (if xop r b then (0, r (60 + 6 * k), some (sp_put r k 0 b)) else (0, -3, none)) else (0, -2, none)
def sp_findN (r : Nat → Int32) (k : Nat) (b : Int32) : Int32 × Int32 × Option (Nat → Int32) := if r (56 + 6 * k) = 4 then (0, sp_goal (sp_put r k 0 b) k + 1, some (sp_put r k 0 b)) else (0, -2, none)
def sp_cancel (r : Nat → Int32) (a rd : Int32) : Int32 × Int32 × Option (Nat → Int32) := if sp_bk r a then sp_cancelN r a.toNatClampNeg rd else (1, 0, none)
def sp_recall (r : Nat → Int32) (a : Int32) : Int32 × Int32 × Option (Nat → Int32) := if sp_bk r a then sp_recallN r a.toNatClampNeg else (1, 0, none)
def sp_takeO (r : Nat → Int32) (a rd : Int32) : Int32 × Int32 × Option (Nat → Int32) := if sp_bk r a then sp_takeN r a.toNatClampNeg rd else (1, 0, none)
def sp_giveBack (r : Nat → Int32) (a b : Int32) : Int32 × Int32 × Option (Nat → Int32) := if sp_bk r a then (if sp_br r b then sp_backN r a.toNatClampNeg b else (1, 0, none)) else (1, 0, none)
def sp_find (r : Nat → Int32) (a b : Int32) : Int32 × Int32 × Option (Nat → Int32) := if sp_bk r a then (if sp_br r b then sp_findN r a.toNatClampNeg b else (1, 0, none)) else (1, 0, none)
def sp_setHold (r : Nat → Int32) (x : Int32) : Int32 × Int32 × Option (Nat → Int32) := if 1 ≤ x ∧ x ≤ 50 then (0, r 5, some (upd r 5 x)) else (1, 0, none)
section SL
variable {w : xW} {l : Nat → Nat → Int64} {t : Nat} {sc : xm_Sc} {d : Nat}
end SL
