/-! THE REFERENCE: words and numbers of a text -/
theorem rd_sub {a b : Nat} (h : b ≤ a) (ha : a < 2 ^ 31) : nI a - nI b = nI (a - b) := by
  have e : nI (a - b) + nI b = nI a := by rw [zA, Nat.sub_add_cancel h]
  rw [← e, Int32.add_sub_cancel]
theorem xto_all {p : Nat → Prop} [DecidablePred p] : ∀ {m i : Nat}, ∀ j, i ≤ j → j < xto p i m → ¬ p j := by
  intro m
  induction m with
  | zero => intro i j h1 h2; exact absurd h2 (by show ¬ j < i; omega)
  | succ m ih =>
    intro i j h1 h2
    rw [xto_s] at h2
    by_cases h : p i
    · rw [if_pos h] at h2
      omega
    · rw [if_neg h] at h2
      by_cases e : j = i
      · subst e; exact h
      · exact ih j (by omega) h2
/-- what a token is -/
def sp_tw (f : Nat → Int32) (n : Nat) (T : xTk) : Prop := T.1 ≤ n ∧ ∃ s, T.2.1 = nI s ∧ s ≤ T.1 ∧ (T.2.2.1 = 2 → ∀ j, s ≤ j → j < T.1 → sp_dig f n j) ∧ (T.2.2.1 = 3 → s < n)
theorem sp_tw_scan {f : Nat → Int32} {n : Nat} {T : xTk} (h : T.1 ≤ n) : sp_tw f n (sp_scan f n T) := by
  unfold sp_scan
  have h1 := @xto_le (fun j => ¬ sp_spc f n j) _ (n - T.1) T.1
  generalize xto (fun j => ¬ sp_spc f n j) T.1 (n - T.1) = s at *
  unfold sp_scS
  by_cases h2 : s < n
  · rw [if_pos h2]
    by_cases h3 : sp_let f n s
    · rw [if_pos h3]
      have h4 := @xto_le (fun j => ¬ sp_let f n j) _ (n - s) s
      exact ⟨by show xto (fun j => ¬ sp_let f n j) s (n - s) ≤ n; omega, s, rfl, h4.1, fun z => absurd z (show ¬ (1 : Int32) = 2 by decide), fun _ => h2⟩
    · rw [if_neg h3]
      by_cases h5 : sp_dig f n s
      · rw [if_pos h5]
        have h4 := @xto_le (fun j => ¬ sp_dig f n j) _ (n - s) s
        exact ⟨by show xto (fun j => ¬ sp_dig f n j) s (n - s) ≤ n; omega, s, rfl, h4.1, fun _ j j1 j2 => Decidable.byContradiction fun z => xto_all (p := fun j => ¬ sp_dig f n j) j j1 j2 z, fun _ => h2⟩
      · rw [if_neg h5]
        exact ⟨by show s + 1 ≤ n; omega, s, rfl, by show s ≤ s + 1; omega, fun z => absurd z (show ¬ (3 : Int32) = 2 by decide), fun _ => h2⟩
  · rw [if_neg h2]
    exact ⟨by show s ≤ n; omega, s, rfl, Nat.le_refl _, fun z => absurd z (show ¬ (0 : Int32) = 2 by decide), fun z => absurd z (show ¬ (0 : Int32) = 3 by decide)⟩
theorem sp_tw_check {f : Nat → Int32} {n : Nat} {T : xTk} {b c : Int32} (h : sp_tw f n T) : sp_tw f n (sp_check T b c) := by
  unfold sp_check sp_flaw
  split
  · split
    · exact h
    · exact h
  · exact h
theorem sp_tw_adv {f : Nat → Int32} {n : Nat} {T : xTk} (h : sp_tw f n T) : sp_tw f n (sp_adv f n T) := by
  unfold sp_adv
  split
  · exact sp_tw_scan h.1
  · exact h
def sp_vl (f : Nat → Int32) (s : Nat) : Nat → Nat
  | 0 => 0
  | m + 1 => min (10 * sp_vl f s m + (f (s + m)).toNatClampNeg - 48) 2000000000
theorem sp_vl_le {f : Nat → Int32} {s : Nat} : ∀ m, sp_vl f s m ≤ 2000000000 := by
  intro m
  cases m with
  | zero => exact Nat.zero_le _
  | succ m => exact Nat.min_le_right _ _
def sp_val (f : Nat → Int32) (T : xTk) : Int32 := if T.2.2.1 = 2 then nI (sp_vl f T.2.1.toNatClampNeg (T.1 - T.2.1.toNatClampNeg)) else 0
theorem rd_step {V b : Nat} (hV : V ≤ 2000000000) (h1 : 48 ≤ b) (h2 : b ≤ 57) : (if (((10 : Int64) * (nI V).toInt64) + (nI b).toInt64) - 48 < 2000000000 then (((10 * (nI V).toInt64) + (nI b).toInt64) - 48) else 2000000000).toInt32 = nI (min (10 * V + b - 48) 2000000000) := by
  have e1 : (nI V).toInt64.toInt = V := by rw [Int32.toInt_toInt64, nI_toInt (by omega)]
  have e2 : (nI b).toInt64.toInt = b := by rw [Int32.toInt_toInt64, nI_toInt (by omega)]
  generalize (nI V).toInt64 = x at *
  generalize (nI b).toInt64 = y at *
  have m1 : (10 * x).toInt = 10 * V := by
    rw [Int64.toInt_mul, e1, show (10 : Int64).toInt = 10 from rfl]
    exact Int.bmod_eq_of_le (by omega) (by omega)
  have m2 : (10 * x + y).toInt = 10 * V + b := by
    rw [Int64.toInt_add, m1, e2]
    exact Int.bmod_eq_of_le (by omega) (by omega)
  have e3 : (10 * x + y - 48).toInt = 10 * V + b - 48 := by
    rw [Int64.toInt_sub, m2, show (48 : Int64).toInt = 48 from rfl]
    exact Int.bmod_eq_of_le (by omega) (by omega)
  by_cases h : 10 * V + b - 48 < 2000000000
  · rw [if_pos (Int64.lt_iff_toInt_lt.mpr (by rw [e3, show (2000000000 : Int64).toInt = 2000000000 from rfl]; omega)), Nat.min_eq_left (by omega)]
    refine zti ?_
    rw [Int64.toInt_toInt32, e3, nI_toInt (by omega)]
    rw [Int.bmod_eq_of_le (by omega) (by omega)]
    omega
  · rw [if_neg (fun z => h (by have := Int64.lt_iff_toInt_lt.mp z; rw [e3, show (2000000000 : Int64).toInt = 2000000000 from rfl] at this; omega)), Nat.min_eq_right (by omega)]
    rfl
def toJ2 (b : Bool) : Int32 := if b = true then 1 else 0
section RW
variable {w : xW} {l : Nat → Nat → Int64} {t : Nat} {sc : xm_Sc} {d n : Nat} {T : xTk}
def sp_acc (f : Nat → Int32) (n : Nat) (T : xTk) (k : Nat) : xTk := if sp_wrd f T k then sp_scan f n T else T
def sp_expW (f : Nat → Int32) (n : Nat) (T : xTk) (k : Nat) : xTk := sp_adv f n (sp_check T (zB (sp_wrd f T k)) 1)
def sp_exp2 (f : Nat → Int32) (n : Nat) (T : xTk) (c : Int32) : xTk := sp_adv f n (sp_check T (zB (sp_sym f T c)) 1)
end RW
