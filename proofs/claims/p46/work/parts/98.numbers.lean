/-! THE REFERENCE: reading numbers, starting and ending a text -/
def sp_rn1 (T : xTk) : xTk := sp_check T (if T.2.2.2.1 = 0 ∧ ¬ T.2.2.1 = 2 then 0 else 1) 1
def sp_rn2 (f : Nat → Int32) (T : xTk) (lo hi : Int32) : xTk := sp_check (sp_rn1 T) (if (sp_rn1 T).2.2.2.1 = 0 ∧ ¬ (lo ≤ sp_val f (sp_rn1 T) ∧ sp_val f (sp_rn1 T) ≤ hi) then 0 else 1) 2
/-- what reading a number leaves, and what it tells -/
def sp_rnT (f : Nat → Int32) (n : Nat) (T : xTk) (lo hi : Int32) : xTk := sp_adv f n (sp_rn2 f T lo hi)
def sp_rnV (f : Nat → Int32) (n : Nat) (T : xTk) (lo hi : Int32) : Int32 := if (sp_rnT f n T lo hi).2.2.2.1 = 0 then sp_val f (sp_rn1 T) else lo
section RN
variable {w : xW} {l : Nat → Nat → Int64} {t : Nat} {sc : xm_Sc} {d n : Nat} {T : xTk}
theorem sp_tw_rn {f : Nat → Int32} {lo hi : Int32} (h : sp_tw f n T) : sp_tw f n (sp_rnT f n T lo hi) := sp_tw_adv (sp_tw_check (sp_tw_check h))
/-- where a text starts -/
def xSw (w : xW) (n : Nat) : xW := xu w 3 (xs1 (xs1 (w 3) 7 (nI n)) 14 0)
/-- where a text ends: nothing is left to load, the error's place -/
def xEw (w : xW) (T : xTk) : xW := xu (xPw w T) 3 (xs1 (xs1 (xPw w T 3) 6 0) 13 (if T.2.2.2.1 = 0 then -1 else T.2.2.2.2))
end RN
