/-! THE REFERENCE: the legs -/
theorem xlpJ {α : Type} (R : Nat → α → Option xm_O) (n : Nat) (hs : ∀ i j, i < n → ∃ j', R i j = R (i + 1) j') : ∀ j, ∃ j', R 0 j = R n j' := by
  have h : ∀ i, i ≤ n → ∀ j, ∃ j', R 0 j = R i j' := by
    intro i
    induction i with
    | zero => intro _ j; exact ⟨j, rfl⟩
    | succ i ih =>
      intro hi j
      obtain ⟨j1, h1⟩ := ih (by omega) j
      obtain ⟨j2, h2⟩ := hs i j1 (by omega)
      exact ⟨j2, h1.trans h2⟩
  exact h n (Nat.le_refl n)
def xF (w : xW) : Nat → Int32 := (w 3).2 5
def xFs (w : xW) (f : Nat → Int32) : xW := xu w 3 (xs2 (w 3) 5 f)
theorem xF_s {w : xW} {f : Nat → Int32} : xF (xFs w f) = f := by
  unfold xF xFs
  rw [xu_same]
  rfl
theorem xFs_s {w : xW} {f g : Nat → Int32} : xFs (xFs w f) g = xFs w g := by
  unfold xFs
  rw [xu_xu, xu_same]
  congr 1
  show ((w 3).1, _) = ((w 3).1, _)
  congr 1
  funext a
  show (if a = 5 then g else if a = 5 then f else (w 3).2 a) = if a = 5 then g else (w 3).2 a
  split <;> rfl
theorem xFs_self {w : xW} : xFs w (xF w) = w := by
  unfold xFs xF
  have : xs2 (w 3) 5 ((w 3).2 5) = w 3 := by
    show ((w 3).1, _) = _
    have : (fun a => if a = 5 then (w 3).2 5 else (w 3).2 a) = (w 3).2 := by
      funext a
      split
      · next h => rw [h]
      · rfl
    exact Prod.ext rfl this
  rw [this, xu_self]
theorem xR_F {w : xW} {f : Nat → Int32} : xR (xFs w f) = xR w := by
  unfold xR xFs
  rw [xu_same]
  show (if xri (w 3) = 5 then f else (w 3).2 (xri (w 3))) = _
  rw [if_neg (by have := @xri_lt (w 3); omega)]
theorem xF_T {w : xW} {x : Int32} : xF (xT w x) = xF w := by
  unfold xF xT
  rw [xu_same]
  rfl
def sp_i0 (r : Nat → Int32) (a b : Nat) : Int32 := if xop r (nI a) then (if xop r (nI b) then (if nI a = nI b then 0 else if sp_link r (nI a) (nI b) = true then 1 else -1) else -1) else -1
def sp_iB (r : Nat → Int32) (a : Nat) (f : Nat → Int32) (n : Nat) : Nat → Int32 := xfold (fun b g => upd g (6 * a + b) (sp_i0 r a b)) f n
def sp_iA (r : Nat → Int32) (f : Nat → Int32) (n : Nat) : Nat → Int32 := xfold (fun a g => sp_iB r a g (xnb r)) f n
def sp_sh (a y b : Nat) (f : Nat → Int32) : Nat → Int32 := if f (6 * a + y) = -1 then f else if f (6 * y + b) = -1 then f else
  if f (6 * a + b) = -1 then upd f (6 * a + b) (f (6 * a + y) + f (6 * y + b)) else if f (6 * a + b) ≤ f (6 * a + y) + f (6 * y + b) then f else upd f (6 * a + b) (f (6 * a + y) + f (6 * y + b))
def sp_sB (a y : Nat) (f : Nat → Int32) (n : Nat) : Nat → Int32 := xfold (fun b g => sp_sh a y b g) f n
def sp_sA (nb y : Nat) (f : Nat → Int32) (n : Nat) : Nat → Int32 := xfold (fun a g => sp_sB a y g nb) f n
def sp_sY (nb : Nat) (f : Nat → Int32) (n : Nat) : Nat → Int32 := xfold (fun y g => sp_sA nb y g nb) f n
def sp_far (r : Nat → Int32) (f : Nat → Int32) : Nat → Int32 := sp_sY (xnb r) (sp_iA r f (xnb r)) (xnb r)
section RM
variable {w : xW} {l : Nat → Nat → Int64} {t : Nat} {sc : xm_Sc} {d : Nat}
end RM
