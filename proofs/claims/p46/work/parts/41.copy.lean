/-! THE REFERENCE: a row is copied -/
def xcap (a : Nat) : Nat := if a = 4 then 2960 else 296
def xcp (w : xW) (a p b q m : Nat) : xW := xu w 3 (xs2 (w 3) b (fun i => if 296 * q ≤ i ∧ i < 296 * q + m then (w 3).2 a (296 * p + (i - 296 * q)) else (w 3).2 b i))
section RY
variable {w : xW} {l : Nat → Nat → Int64} {t : Nat} {sc : xm_Sc} {d : Nat}
theorem xcp_0 {a p b q : Nat} : xcp w a p b q 0 = w := by
  unfold xcp
  have : xs2 (w 3) b (fun i => if 296 * q ≤ i ∧ i < 296 * q + 0 then (w 3).2 a (296 * p + (i - 296 * q)) else (w 3).2 b i) = w 3 := by
    refine Prod.ext rfl ?_
    funext c
    show (if c = b then (fun i => if 296 * q ≤ i ∧ i < 296 * q + 0 then (w 3).2 a (296 * p + (i - 296 * q)) else (w 3).2 b i) else (w 3).2 c) = (w 3).2 c
    by_cases h : c = b
    · subst h
      rw [if_pos rfl]
      funext i
      rw [if_neg (by omega)]
    · rw [if_neg h]
  rw [this, xu_self]
theorem xcp_a {a p b q m : Nat} (hd : a ≠ b ∨ p ≠ q) (hm : m < 296) : (xcp w a p b q m 3).2 a (296 * p + m) = (w 3).2 a (296 * p + m) := by
  unfold xcp
  rw [xu_same]
  show (if a = b then (fun i => if 296 * q ≤ i ∧ i < 296 * q + m then (w 3).2 a (296 * p + (i - 296 * q)) else (w 3).2 b i) else (w 3).2 a) (296 * p + m) = _
  by_cases h : a = b
  · subst h
    rw [if_pos rfl, if_neg (by omega)]
  · rw [if_neg h]
theorem xcp_s {a p b q m : Nat} : xu (xcp w a p b q m) 3 (xs2 (xcp w a p b q m 3) b (upd ((xcp w a p b q m 3).2 b) (296 * q + m) ((w 3).2 a (296 * p + m)))) = xcp w a p b q (m + 1) := by
  unfold xcp
  rw [xu_xu, xu_same]
  congr 1
  refine Prod.ext rfl ?_
  funext c
  by_cases h : c = b
  · subst h
    rw [xs2_same, xs2_same, xs2_same]
    funext i
    unfold upd
    by_cases h1 : i = 296 * q + m
    · rw [if_pos h1, if_pos (by omega), h1, show 296 * q + m - 296 * q = m by omega]
    · rw [if_neg h1]
      dsimp only
      by_cases h2 : 296 * q ≤ i ∧ i < 296 * q + m
      · rw [if_pos h2, if_pos (by omega)]
      · rw [if_neg h2, if_neg (by omega)]
  · rw [xs2_ne h, xs2_ne h, xs2_ne h]
theorem z296 {p m : Nat} : (296 : Int32) * nI p + nI m = nI (296 * p + m) := by
  show nI 296 * nI p + nI m = _
  rw [zM, zA]
end RY
