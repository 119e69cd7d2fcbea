/-! THE REFERENCE: a request is dropped -/
def sp_dr (r : Nat → Int32) (q n m : Nat) : Nat → Int32 := fun i => if i = 3 then nI n else if 176 + 3 * q ≤ i ∧ i < 176 + 3 * q + m then r (i + 3) else r i
def sp_drz (r : Nat → Int32) (n z : Nat) : Nat → Int32 := fun i => if 176 + 3 * n ≤ i ∧ i < 176 + 3 * n + z then 0 else r i
def sp_drop (r : Nat → Int32) (q : Nat) : Nat → Int32 := sp_drz (sp_dr r q (xnq r - 1) (3 * (xnq r - 1 - q))) (xnq r - 1) 3
theorem sp_dr_0 {r : Nat → Int32} {q n : Nat} : sp_dr r q n 0 = upd r 3 (nI n) := by
  funext i
  unfold sp_dr upd
  by_cases h : i = 3
  · rw [if_pos h, if_pos h]
  · rw [if_neg h, if_neg h, if_neg (by omega)]
theorem sp_dr_s {r : Nat → Int32} {q n m : Nat} : upd (sp_dr r q n m) (176 + 3 * q + m) (r (176 + 3 * q + m + 3)) = sp_dr r q n (m + 1) := by
  funext i
  unfold sp_dr upd
  by_cases h : i = 176 + 3 * q + m
  · rw [if_pos h, if_neg (by omega), if_pos (by omega), h]
  · rw [if_neg h]
    dsimp only
    by_cases h3 : i = 3
    · rw [if_pos h3, if_pos h3]
    · rw [if_neg h3, if_neg h3]
      by_cases h4 : 176 + 3 * q ≤ i ∧ i < 176 + 3 * q + m
      · rw [if_pos h4, if_pos (by omega)]
      · rw [if_neg h4, if_neg (by omega)]
theorem sp_dr_3 {r : Nat → Int32} {q n m : Nat} : sp_dr r q n m 3 = nI n := if_pos rfl
theorem sp_dr_at {r : Nat → Int32} {q n m i : Nat} (h : 176 + 3 * q + m ≤ i) : sp_dr r q n m i = r i := by
  unfold sp_dr
  rw [if_neg (by omega), if_neg (by omega)]
theorem sp_drz_0 {r : Nat → Int32} {n : Nat} : sp_drz r n 0 = r := by
  funext i
  unfold sp_drz
  rw [if_neg (by omega)]
theorem sp_drz_3 {r : Nat → Int32} {n z : Nat} : sp_drz r n z 3 = r 3 := if_neg (by omega)
theorem sp_drz_s {r : Nat → Int32} {n z : Nat} : upd (sp_drz r n z) (176 + 3 * n + z) 0 = sp_drz r n (z + 1) := by
  funext i
  unfold sp_drz upd
  by_cases h : i = 176 + 3 * n + z
  · rw [if_pos h, if_pos (by omega)]
  · rw [if_neg h]
    dsimp only
    by_cases h4 : 176 + 3 * n ≤ i ∧ i < 176 + 3 * n + z
    · rw [if_pos h4, if_pos (by omega)]
    · rw [if_neg h4, if_neg (by omega)]
section RS
variable {w : xW} {l : Nat → Nat → Int64} {t : Nat} {sc : xm_Sc} {d : Nat}
theorem zS3 {a : Nat} : nI a + 3 = nI (a + 3) := zA (b := 3)
theorem zQz {n z : Nat} : (176 + 3 * nI n) + nI z = nI (176 + 3 * n + z) := by rw [zxQ_n, zA]
end RS
