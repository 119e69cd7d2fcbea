/-! THE REFERENCE: record -/
def xUc (w : xW) (x : Int32) : xW := xu w 3 (xs1 (w 3) 1 x)
section UC
variable {w : xW} {x : Int32}
theorem xUc_ne {g : Nat} (h : g ≠ 3) : xUc w x g = w g := xu_ne h
theorem xUc_1 {i : Nat} (h : i ≠ 1) : (xUc w x 3).1 i = (w 3).1 i := by
  unfold xUc
  rw [xu_same]
  exact if_neg h
theorem xUc_c : (xUc w x 3).1 1 = x := by
  unfold xUc
  rw [xu_same]
  rfl
theorem xUc_2 {a : Nat} : (xUc w x 3).2 a = (w 3).2 a := by
  unfold xUc
  rw [xu_same]
  rfl
end UC
/-- the history after a record; n: how many there were -/
def xHist (w w' : xW) (n : Nat) : Prop := (w' 3).1 1 = nI (if n = 10 then 10 else n + 1) ∧ (∀ p i, p < (if n = 10 then 9 else n) → i < 296 → (w' 3).2 4 (296 * p + i) = (w 3).2 4 (296 * (if n = 10 then p + 1 else p) + i)) ∧
  ∀ i, i < 296 → (w' 3).2 4 (296 * (if n = 10 then 9 else n) + i) = (w 3).2 0 i
/-- all but the history is kept -/
def xKr (w w' : xW) : Prop := (∀ g, g ≠ 3 → w' g = w g) ∧ (∀ i, i ≠ 1 → (w' 3).1 i = (w 3).1 i) ∧ ∀ a, a ≠ 4 → (w' 3).2 a = (w 3).2 a
theorem xKr.ri {w w' : xW} (h : xKr w w') : xri (w' 3) = xri (w 3) := by
  unfold xri
  rw [h.2.1 0 (by omega)]
theorem xKr.R {w w' : xW} (h : xKr w w') : xR w' = xR w := by
  unfold xR
  rw [h.ri, h.2.2 _ (by have := @xri_lt (w 3); omega)]
def xSh (w : xW) : Nat → xW
  | 0 => w
  | i + 1 => xcp (xSh w i) 4 (i + 1) 4 i 296
theorem xSh_ok {w : xW} : ∀ i, (∀ g, g ≠ 3 → xSh w i g = w g) ∧ (xSh w i 3).1 = (w 3).1 ∧ (∀ a, a ≠ 4 → (xSh w i 3).2 a = (w 3).2 a) ∧ ∀ p q, q < 296 → (xSh w i 3).2 4 (296 * p + q) = (w 3).2 4 (296 * (if p < i then p + 1 else p) + q) := by
  intro i
  induction i with
  | zero => exact ⟨fun _ _ => rfl, rfl, fun _ _ => rfl, fun p q _ => rfl⟩
  | succ i ih =>
    obtain ⟨h1, h2, h3, h4⟩ := ih
    refine ⟨fun g hg => (xcp_ne hg).trans (h1 g hg), xcp_1.trans h2, fun a ha => (xcp_2 ha).trans (h3 a ha), fun p q hq => ?_⟩
    show (xcp (xSh w i) 4 (i + 1) 4 i 296 3).2 4 (296 * p + q) = _
    rw [xcp_b]
    by_cases hp : p = i
    · subst hp
      rw [if_pos (by omega), if_pos (by omega), show 296 * (p + 1) + (296 * p + q - 296 * p) = 296 * (p + 1) + q by omega, h4 (p + 1) q hq, if_neg (by omega)]
    · rw [if_neg (by omega), h4 p q hq]
      by_cases h : p < i
      · rw [if_pos h, if_pos (by omega)]
      · rw [if_neg h, if_neg (by omega)]
section SJ
variable {w : xW} {l : Nat → Nat → Int64} {t : Nat} {sc : xm_Sc} {d : Nat}
end SJ
