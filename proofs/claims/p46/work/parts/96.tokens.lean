/-! THE REFERENCE: tokens -/
/-- the first place from i on, at most m further, where p holds -/
def xto (p : Nat → Prop) [DecidablePred p] : Nat → Nat → Nat
  | i, 0 => i
  | i, m + 1 => if p i then i else xto p (i + 1) m
theorem xto_s {p : Nat → Prop} [DecidablePred p] {i m : Nat} : xto p i (m + 1) = if p i then i else xto p (i + 1) m := rfl
theorem xto_y {p : Nat → Prop} [DecidablePred p] {i m : Nat} (h : p i) : xto p i m = i := by
  cases m with
  | zero => rfl
  | succ m => rw [xto_s, if_pos h]
theorem xto_n {p : Nat → Prop} [DecidablePred p] {i m : Nat} (h : ¬ p i) : xto p i (m + 1) = xto p (i + 1) m := by rw [xto_s, if_neg h]
theorem xto_le {p : Nat → Prop} [DecidablePred p] : ∀ {m i : Nat}, i ≤ xto p i m ∧ xto p i m ≤ i + m := by
  intro m
  induction m with
  | zero => intro i; exact ⟨Nat.le_refl _, Nat.le_refl _⟩
  | succ m ih =>
    intro i
    rw [xto_s]
    split
    · omega
    · have := @ih (i + 1)
      omega
/-- place, start, kind, error, where -/
abbrev xTk : Type := Nat × Int32 × Int32 × Int32 × Int32
def xPg (s : xG) (T : xTk) : xG := (fun i => if i = 8 then nI T.1 else if i = 9 then T.2.1 else if i = 10 then T.2.2.1 else if i = 11 then T.2.2.2.1 else if i = 12 then T.2.2.2.2 else s.1 i, s.2)
def xPw (w : xW) (T : xTk) : xW := xu w 3 (xPg (w 3) T)
def sp_b (f : Nat → Int32) (n i : Nat) : Int32 := if n ≤ i then -1 else f i
abbrev sp_let (f : Nat → Int32) (n i : Nat) : Prop := 97 ≤ sp_b f n i ∧ sp_b f n i ≤ 122
abbrev sp_dig (f : Nat → Int32) (n i : Nat) : Prop := 48 ≤ sp_b f n i ∧ sp_b f n i ≤ 57
abbrev sp_spc (f : Nat → Int32) (n i : Nat) : Prop := sp_b f n i = 32 ∨ sp_b f n i = 10
def sp_scS (f : Nat → Int32) (n : Nat) (s : Nat) (e : Int32 × Int32) : xTk := if s < n then (if sp_let f n s then (xto (fun j => ¬ sp_let f n j) s (n - s), nI s, 1, e) else if sp_dig f n s then (xto (fun j => ¬ sp_dig f n j) s (n - s), nI s, 2, e) else (s + 1, nI s, 3, e)) else (s, nI s, 0, e)
def sp_scan (f : Nat → Int32) (n : Nat) (T : xTk) : xTk := sp_scS f n (xto (fun j => ¬ sp_spc f n j) T.1 (n - T.1)) T.2.2.2
def sp_flaw (T : xTk) (c : Int32) : xTk := if T.2.2.2.1 = 0 then (T.1, T.2.1, T.2.2.1, c, T.2.1) else T
def sp_check (T : xTk) (b c : Int32) : xTk := if b = 0 then sp_flaw T c else T
def sp_adv (f : Nat → Int32) (n : Nat) (T : xTk) : xTk := if T.2.2.2.1 = 0 then sp_scan f n T else T
abbrev sp_sym (f : Nat → Int32) (T : xTk) (c : Int32) : Prop := T.2.2.2.1 = 0 ∧ T.2.2.1 = 3 ∧ f T.2.1.toNatClampNeg = c
abbrev sp_wrd (f : Nat → Int32) (T : xTk) (k : Nat) : Prop := (T.2.2.2.1 = 0 ∧ T.2.2.1 = 1 ∧ sp_ln k = T.1 - T.2.1.toNatClampNeg) ∧ ∀ i, i < sp_ln k → sp_ch k i = f (T.2.1.toNatClampNeg + i)
section PW
variable {w : xW} {T : xTk}
theorem xPw_1 {i : Nat} (h : i < 8 ∨ 12 < i) : (xPw w T 3).1 i = (w 3).1 i := by
  unfold xPw
  rw [xu_same]
  show (if i = 8 then _ else if i = 9 then _ else if i = 10 then _ else if i = 11 then _ else if i = 12 then _ else (w 3).1 i) = _
  rw [if_neg (by omega), if_neg (by omega), if_neg (by omega), if_neg (by omega), if_neg (by omega)]
theorem xPw_2 : (xPw w T 3).2 = (w 3).2 := by
  unfold xPw
  rw [xu_same]
  rfl
theorem xPw_ne {g : Nat} (h : g ≠ 3) : xPw w T g = w g := xu_ne h
theorem xPw_8 : (xPw w T 3).1 8 = nI T.1 := by
  unfold xPw
  rw [xu_same]
  rfl
theorem xPw_9 : (xPw w T 3).1 9 = T.2.1 := by
  unfold xPw
  rw [xu_same]
  rfl
theorem xPw_a : (xPw w T 3).1 10 = T.2.2.1 := by
  unfold xPw
  rw [xu_same]
  rfl
theorem xPw_b : (xPw w T 3).1 11 = T.2.2.2.1 := by
  unfold xPw
  rw [xu_same]
  rfl
theorem xPw_c : (xPw w T 3).1 12 = T.2.2.2.2 := by
  unfold xPw
  rw [xu_same]
  rfl
theorem xPw_w8 {p : Nat} : xu (xPw w T) 3 (xs1 (xPw w T 3) 8 (nI p)) = xPw w (p, T.2) := by
  unfold xPw
  rw [xu_xu, xu_same]
  congr 1
  refine Prod.ext (funext fun i => ?_) rfl
  show (if i = 8 then nI p else if i = 8 then nI T.1 else if i = 9 then T.2.1 else if i = 10 then T.2.2.1 else if i = 11 then T.2.2.2.1 else if i = 12 then T.2.2.2.2 else (w 3).1 i) = (if i = 8 then nI p else if i = 9 then T.2.1 else if i = 10 then T.2.2.1 else if i = 11 then T.2.2.2.1 else if i = 12 then T.2.2.2.2 else (w 3).1 i)
  split <;> rfl
theorem xPw_w9 {x : Int32} : xu (xPw w T) 3 (xs1 (xPw w T 3) 9 x) = xPw w (T.1, x, T.2.2) := by
  unfold xPw
  rw [xu_xu, xu_same]
  congr 1
  refine Prod.ext (funext fun i => ?_) rfl
  show (if i = 9 then x else if i = 8 then nI T.1 else if i = 9 then T.2.1 else if i = 10 then T.2.2.1 else if i = 11 then T.2.2.2.1 else if i = 12 then T.2.2.2.2 else (w 3).1 i) = (if i = 8 then nI T.1 else if i = 9 then x else if i = 10 then T.2.2.1 else if i = 11 then T.2.2.2.1 else if i = 12 then T.2.2.2.2 else (w 3).1 i)
  by_cases h : i = 9
  · rw [if_pos h, if_neg (by omega), if_pos h]
  · rw [if_neg h, if_neg (c := i = 9) h, if_neg (c := i = 9) h]
theorem xPw_wa {x : Int32} : xu (xPw w T) 3 (xs1 (xPw w T 3) 10 x) = xPw w (T.1, T.2.1, x, T.2.2.2) := by
  unfold xPw
  rw [xu_xu, xu_same]
  congr 1
  refine Prod.ext (funext fun i => ?_) rfl
  show (if i = 10 then x else if i = 8 then nI T.1 else if i = 9 then T.2.1 else if i = 10 then T.2.2.1 else if i = 11 then T.2.2.2.1 else if i = 12 then T.2.2.2.2 else (w 3).1 i) = (if i = 8 then nI T.1 else if i = 9 then T.2.1 else if i = 10 then x else if i = 11 then T.2.2.2.1 else if i = 12 then T.2.2.2.2 else (w 3).1 i)
  by_cases h : i = 10
  · rw [if_pos h, if_neg (by omega), if_neg (by omega), if_pos h]
  · rw [if_neg h, if_neg (c := i = 10) h, if_neg (c := i = 10) h]
theorem xPw_wb {x : Int32} : xu (xPw w T) 3 (xs1 (xPw w T 3) 11 x) = xPw w (T.1, T.2.1, T.2.2.1, x, T.2.2.2.2) := by
  unfold xPw
  rw [xu_xu, xu_same]
  congr 1
  refine Prod.ext (funext fun i => ?_) rfl
  show (if i = 11 then x else if i = 8 then nI T.1 else if i = 9 then T.2.1 else if i = 10 then T.2.2.1 else if i = 11 then T.2.2.2.1 else if i = 12 then T.2.2.2.2 else (w 3).1 i) = (if i = 8 then nI T.1 else if i = 9 then T.2.1 else if i = 10 then T.2.2.1 else if i = 11 then x else if i = 12 then T.2.2.2.2 else (w 3).1 i)
  by_cases h : i = 11
  · rw [if_pos h, if_neg (by omega), if_neg (by omega), if_neg (by omega), if_pos h]
  · rw [if_neg h, if_neg (c := i = 11) h, if_neg (c := i = 11) h]
theorem xPw_wc {x : Int32} : xu (xPw w T) 3 (xs1 (xPw w T 3) 12 x) = xPw w (T.1, T.2.1, T.2.2.1, T.2.2.2.1, x) := by
  unfold xPw
  rw [xu_xu, xu_same]
  congr 1
  refine Prod.ext (funext fun i => ?_) rfl
  show (if i = 12 then x else if i = 8 then nI T.1 else if i = 9 then T.2.1 else if i = 10 then T.2.2.1 else if i = 11 then T.2.2.2.1 else if i = 12 then T.2.2.2.2 else (w 3).1 i) = (if i = 8 then nI T.1 else if i = 9 then T.2.1 else if i = 10 then T.2.2.1 else if i = 11 then T.2.2.2.1 else if i = 12 then x else (w 3).1 i)
  by_cases h : i = 12
  · rw [if_pos h, if_neg (by omega), if_neg (by omega), if_neg (by omega), if_neg (by omega), if_pos h]
  · rw [if_neg h, if_neg (c := i = 12) h, if_neg (c := i = 12) h]
end PW
section TO
variable {w : xW} {l : Nat → Nat → Int64} {t : Nat} {sc : xm_Sc} {d n : Nat} {T : xTk}
theorem sp_b_n {f : Nat → Int32} : sp_b f n n = -1 := if_pos (Nat.le_refl _)
end TO
