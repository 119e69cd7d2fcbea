/-! THE REFERENCE: tokens -/
/-- the first place from i on, at most m further, where p holds -/
def xto (p : Nat → Prop) [DecidablePred p] : Nat → Nat → Nat
  | i, 0 => i
  | i, m + 1 => if p i then i else xto p (i + 1) m
theorem xto_s {p : Nat → Prop} [DecidablePred p] {i m : Nat} : xto p i (m + 1) = if p i then i else xto p (i + 1) m := rfl
theorem xto_y {p : Nat → Prop} [DecidablePred p] {i m : Nat} (h : p i) : xto p i m = i := by
  cases m with
  | zero => rfl
  | succ m => rw [xto_s, if_pos h]
theorem xto_n {p : Nat → Prop} [DecidablePred p] {i m : Nat} (h : ¬ p i) : xto p i (m + 1) = xto p (i + 1) m := by rw [xto_s, if_neg h]
theorem xto_le {p : Nat → Prop} [DecidablePred p] : ∀ {m i : Nat}, i ≤ xto p i m ∧ xto p i m ≤ i + m := by
  intro m
  induction m with
  | zero => intro i; exact ⟨Nat.le_refl _, Nat.le_refl _⟩
  | succ m ih =>
    intro i
    rw [xto_s]
    split
    · omega
    · have := @ih (i + 1)
      omega
/-- place, start, kind, error, where -/
abbrev xTk : Type := Nat × Int32 × Int32 × Int32 × Int32
def xPg (s : xG) (T : xTk) : xG := (fun i => if i = 8 then nI T.1 else if i = 9 then T.2.1 else if i = 10 then T.2.2.1 else if i = 11 then T.2.2.2.1 else if i = 12 then T.2.2.2.2 else s.1 i, s.2)
def xPw (w : xW) (T : xTk) : xW := xu w 3 (xPg (w 3) T)
def sp_b (f : Nat → Int32) (n i : Nat) : Int32 := if n ≤ i then -1 else f i
abbrev sp_let (f : Nat → Int32) (n i : Nat) : Prop := 97 ≤ sp_b f n i ∧ sp_b f n i ≤ 122
abbrev sp_dig (f : Nat → Int32) (n i : Nat) : Prop := 48 ≤ sp_b f n i ∧ sp_b f n i ≤ 57
abbrev sp_spc (f : Nat → Int32) (n i : Nat) : Prop := sp_b f n i = 32 ∨ sp_b f n i = 10
def sp_scS (f : Nat → Int32) (n : Nat) (s : Nat) (e : Int32 × Int32) : xTk := if s < n then (if sp_let f n s then (xto (fun j => ¬ sp_let f n j) s (n - s), nI s, 1, e) else if sp_dig f n s then (xto (fun j => ¬ sp_dig f n j) s (n - s), nI s, 2, e) else (s + 1, nI s, 3, e)) else (s, nI s, 0, e)
def sp_scan (f : Nat → Int32) (n : Nat) (T : xTk) : xTk := sp_scS f n (xto (fun j => ¬ sp_spc f n j) T.1 (n - T.1)) T.2.2.2
def sp_flaw (T : xTk) (c : Int32) : xTk := if T.2.2.2.1 = 0 then (T.1, T.2.1, T.2.2.1, c, T.2.1) else T
def sp_check (T : xTk) (b c : Int32) : xTk := if b = 0 then sp_flaw T c else T
def sp_adv (f : Nat → Int32) (n : Nat) (T : xTk) : xTk := if T.2.2.2.1 = 0 then sp_scan f n T else T
abbrev sp_sym (f : Nat → Int32) (T : xTk) (c : Int32) : Prop := T.2.2.2.1 = 0 ∧ T.2.2.1 = 3 ∧ f T.2.1.toNatClampNeg = c
abbrev sp_wrd (f : Nat → Int32) (T : xTk) (k : Nat) : Prop := (T.2.2.2.1 = 0 ∧ T.2.2.1 = 1 ∧ sp_ln k = T.1 - T.2.1.toNatClampNeg) ∧ ∀ i, i < sp_ln k → sp_ch k i = f (T.2.1.toNatClampNeg + i)
section PW
variable {w : xW} {T : xTk}
theorem xPw_1 {i : Nat} (h : i < 8 ∨ 12 < i) : (xPw w T 3).1 i = (w 3).1 i := by
  unfold xPw
  rw [xu_same]
  show (if i = 8 then _ else if i = 9 then _ else if i = 10 then _ else if i = 11 then _ else if i = 12 then _ else (w 3).1 i) = _
  rw [if_neg (by omega), if_neg (by omega), if_neg (by omega), if_neg (by omega), if_neg (by omega)]
theorem xPw_2 : (xPw w T 3).2 = (w 3).2 := by
  unfold xPw
  rw [xu_same]
  rfl
theorem xPw_ne {g : Nat} (h : g ≠ 3) : xPw w T g = w g := xu_ne h
theorem xPw_8 : (xPw w T 3).1 8 = nI T.1 := by
  unfold xPw
  rw [xu_same]
  rfl
theorem xPw_9 : (xPw w T 3).1 9 = T.2.1 := by
  unfold xPw
  rw [xu_same]
  rfl
theorem xPw_a : (xPw w T 3).1 10 = T.2.2.1 := by
  unfold xPw
  rw [xu_same]
  rfl
theorem xPw_b : (xPw w T 3).1 11 = T.2.2.2.1 := by
  unfold xPw
  rw [xu_same]
  rfl
theorem xPw_c : (xPw w T 3).1 12 = T.2.2.2.2 := by
  unfold xPw
  rw [xu_same]
  rfl
theorem xPw_w8 {p : Nat} : xu (xPw w T) 3 (xs1 (xPw w T 3) 8 (nI p)) = xPw w (p, T.2) := by
  unfold xPw
  rw [xu_xu, xu_same]
  congr 1
  refine Prod.ext (funext fun i => ?_) rfl
  show (if i = 8 then nI p else if i = 8 then nI T.1 else if i = 9 then T.2.1 else if i = 10 then T.2.2.1 else if i = 11 then T.2.2.2.1 else if i = 12 then T.2.2.2.2 else (w 3).1 i) = (if i = 8 then nI p else if i = 9 then T.2.1 else if i = 10 then T.2.2.1 else if i = 11 then T.2.2.2.1 else if i = 12 then T.2.2.2.2 else (w 3).1 i)
  split <;> rfl
theorem xPw_w9 {x : Int32} : xu (xPw w T) 3 (xs1 (xPw w T 3) 9 x) = xPw w (T.1, x, T.2.2) := by
  unfold xPw
  rw [xu_xu, xu_same]
  congr 1
  refine Prod.ext (funext fun i => ?_) rfl
  show (if i = 9 then x else if i = 8 then nI T.1 else if i = 9 then T.2.1 else if i = 10 then T.2.2.1 else if i = 11 then T.2.2.2.1 else if i = 12 then T.2.2.2.2 else (w 3).1 i) = (if i = 8 then nI T.1 else if i = 9 then x else if i = 10 then T.2.2.1 else if i = 11 then T.2.2.2.1 else if i = 12 then T.2.2.2.2 else (w 3).1 i)
  by_cases h : i = 9
  · rw [if_pos h, if_neg (by omega), if_pos h]
  · rw [if_neg h, if_neg (c := i = 9) h, if_neg (c := i = 9) h]
theorem xPw_wa {x : Int32} : xu (xPw w T) 3 (xs1 (xPw w T 3) 10 x) = xPw w (T.1, T.2.1, x, T.2.2.2) := by
  unfold xPw
  rw [xu_xu, xu_same]
  congr 1
  refine Prod.ext (funext fun i => ?_) rfl
  show (if i = 10 then x else if i = 8 then nI T.1 else if i = 9 then T.2.1 else if i = 10 then T.2.2.1 else if i = 11 then T.2.2.2.1 else if i = 12 then T.2.2.2.2 else (w 3).1 i) = (if i = 8 then nI T.1 else if i = 9 then T.2.1 else if i = 10 then x else if i = 11 then T.2.2.2.1 else if i = 12 then T.2.2.2.2 else (w 3).1 i)
  by_cases h : i = 10
  · rw [if_pos h, if_neg (by omega), if_neg (by omega), if_pos h]
  · rw [if_neg h, if_neg (c := i = 10) h, if_neg (c := i = 10) h]
theorem xPw_wb {x : Int32} : xu (xPw w T) 3 (xs1 (xPw w T 3) 11 x) = xPw w (T.1, T.2.1, T.2.2.1, x, T.2.2.2.2) := by
  unfold xPw
  rw [xu_xu, xu_same]
  congr 1
  refine Prod.ext (funext fun i => ?_) rfl
  show (if i = 11 then x else if i = 8 then nI T.1 else if i = 9 then T.2.1 else if i = 10 then T.2.2.1 else if i = 11 then T.2.2.2.1 else if i = 12 then T.2.2.2.2 else (w 3).1 i) = (if i = 8 then nI T.1 else if i = 9 then T.2.1 else if i = 10 then T.2.2.1 else if i = 11 then x else if i = 12 then T.2.2.2.2 else (w 3).1 i)
  by_cases h : i = 11
  · rw [if_pos h, if_neg (by omega), if_neg (by omega), if_neg (by omega), if_pos h]
  · rw [if_neg h, if_neg (c := i = 11) h, if_neg (c := i = 11) h]
theorem xPw_wc {x : Int32} : xu (xPw w T) 3 (xs1 (xPw w T 3) 12 x) = xPw w (T.1, T.2.1, T.2.2.1, T.2.2.2.1, x) := by
  unfold xPw
  rw [xu_xu, xu_same]
  congr 1
  refine Prod.ext (funext fun i => ?_) rfl
  show (if i = 12 then x else if i = 8 then nI T.1 else if i = 9 then T.2.1 else if i = 10 then T.2.2.1 else if i = 11 then T.2.2.2.1 else if i = 12 then T.2.2.2.2 else (w 3).1 i) = (if i = 8 then nI T.1 else if i = 9 then T.2.1 else if i = 10 then T.2.2.1 else if i = 11 then T.2.2.2.1 else if i = 12 then x else (w 3).1 i)
  by_cases h : i = 12
  · rw [if_pos h, if_neg (by omega), if_neg (by omega), if_neg (by omega), if_neg (by omega), if_pos h]
  · rw [if_neg h, if_neg (c := i = 12) h, if_neg (c := i = 12) h]
end PW
section TO
variable {w : xW} {l : Nat → Nat → Int64} {t : Nat} {sc : xm_Sc} {d n : Nat} {T : xTk}
theorem xgP8 : xm_gI (xem (xPw w T) l t) 191 8 17 = some (nI T.1) := by rw [xgM_17, xPw_8]
theorem xgP9 : xm_gI (xem (xPw w T) l t) 191 8 18 = some T.2.1 := by rw [xgM_18, xPw_9]
theorem xgPa : xm_gI (xem (xPw w T) l t) 191 8 19 = some T.2.2.1 := by rw [xgM_19, xPw_a]
theorem xgPb : xm_gI (xem (xPw w T) l t) 191 8 20 = some T.2.2.2.1 := by rw [xgM_20, xPw_b]
theorem xgPc : xm_gI (xem (xPw w T) l t) 191 8 21 = some T.2.2.2.2 := by rw [xgM_21, xPw_c]
theorem xgP7 (hn : (w 3).1 7 = nI n) : xm_gI (xem (xPw w T) l t) 191 8 16 = some (nI n) := by rw [xgM_16, xPw_1 (by omega), hn]
theorem xsP8 {p : Nat} : xm_sF (xem (xPw w T) l t) 191 8 17 (.int (nI p)) = some (xem (xPw w (p, T.2)) l t) := by rw [xsM_17, xPw_w8]
theorem xsP9 {x : Int32} : xm_sF (xem (xPw w T) l t) 191 8 18 (.int x) = some (xem (xPw w (T.1, x, T.2.2)) l t) := by rw [xsM_18, xPw_w9]
theorem xsPa {x : Int32} : xm_sF (xem (xPw w T) l t) 191 8 19 (.int x) = some (xem (xPw w (T.1, T.2.1, x, T.2.2.2)) l t) := by rw [xsM_19, xPw_wa]
theorem xsPb {x : Int32} : xm_sF (xem (xPw w T) l t) 191 8 20 (.int x) = some (xem (xPw w (T.1, T.2.1, T.2.2.1, x, T.2.2.2.2)) l t) := by rw [xsM_20, xPw_wb]
theorem xsPc {x : Int32} : xm_sF (xem (xPw w T) l t) 191 8 21 (.int x) = some (xem (xPw w (T.1, T.2.1, T.2.2.1, T.2.2.2.1, x)) l t) := by rw [xsM_21, xPw_wc]
theorem xaP8 {i : Nat} (hi : i < 800) : xm_aI (xem (xPw w T) l t) (xm 8) 0 (nI i) = some ((w 3).2 8 i) := by rw [xaM_8, if_pos (xin hi (by decide)), nI_clamp (by omega), xPw_2]
theorem zc_266 {i : Nat} (hn : (w 3).1 7 = nI n) (h8 : n ≤ 800) (hi : i < 2000) : xm_C sc xt_M (d + 1) 266 [.ref 191, .int (nI i)] (xem (xPw w T) l t) = some (.inl (some (.int (sp_b ((w 3).2 8) n i))), xem (xPw w T) l t) := by
  rw [yc_266, xgP7 hn, zbs]
  unfold sp_b
  by_cases h : n ≤ i
  · rw [if_pos h, if_pos (nI_le h (by omega))]
  · rw [if_neg h, if_neg (nI_ge (a := i) (b := n) (by omega) (by omega)), xgM_14, zbs, xaP8 (by omega), zbs]
theorem zc_267 {i : Nat} (hn : (w 3).1 7 = nI n) (h8 : n ≤ 800) (hi : i < 2000) : xm_C sc xt_M (d + 2) 267 [.ref 191, .int (nI i)] (xem (xPw w T) l t) = some (.inl (some (.int (zB (sp_let ((w 3).2 8) n i)))), xem (xPw w T) l t) := by
  have c := @zc_266 w l t sc d n T i hn h8 hi
  rw [yc_267]
  unfold sp_let
  generalize sp_b ((w 3).2 8) n i = b at *
  by_cases h1 : b < 97
  · rw [zB_ff (c := 97 ≤ b ∧ b ≤ 122) (fun z => absurd h1 (Int32.not_lt.mpr z.1))]
    simp (disch := first | omega | assumption) only [↓zbE, zbd_some, ↓xk_I, ↓xk_v, zB_0, zB_1, ite_not, ↓reduceIte, zS, xiM, xgP8, xgP9, xgPa, xgPb, xgPc, xsP8, xsP9, xsPa, xsPb, xsPc, xgM_14, c, eq_true h1, yb_267_24]
  · by_cases h2 : 122 < b
    · rw [zB_ff (c := 97 ≤ b ∧ b ≤ 122) (fun z => absurd h2 (Int32.not_lt.mpr z.2))]
      simp (disch := first | omega | assumption) only [↓zbE, zbd_some, ↓xk_I, ↓xk_v, zB_0, zB_1, ite_not, ↓reduceIte, zS, xiM, xgP8, xgP9, xgPa, xgPb, xgPc, xsP8, xsP9, xsPa, xsPb, xsPc, xgM_14, c, eq_false h1, eq_true h2, yb_267_24]
    · rw [zB_tt (c := 97 ≤ b ∧ b ≤ 122) ⟨Int32.not_lt.mp h1, Int32.not_lt.mp h2⟩]
      simp (disch := first | omega | assumption) only [↓zbE, zbd_some, ↓xk_I, ↓xk_v, zB_0, zB_1, ite_not, ↓reduceIte, zS, xiM, xgP8, xgP9, xgPa, xgPb, xgPc, xsP8, xsP9, xsPa, xsPb, xsPc, xgM_14, c, eq_false h1, eq_false h2]
theorem zc_268 {i : Nat} (hn : (w 3).1 7 = nI n) (h8 : n ≤ 800) (hi : i < 2000) : xm_C sc xt_M (d + 2) 268 [.ref 191, .int (nI i)] (xem (xPw w T) l t) = some (.inl (some (.int (zB (sp_dig ((w 3).2 8) n i)))), xem (xPw w T) l t) := by
  have c := @zc_266 w l t sc d n T i hn h8 hi
  rw [yc_268]
  unfold sp_dig
  generalize sp_b ((w 3).2 8) n i = b at *
  by_cases h1 : b < 48
  · rw [zB_ff (c := 48 ≤ b ∧ b ≤ 57) (fun z => absurd h1 (Int32.not_lt.mpr z.1))]
    simp (disch := first | omega | assumption) only [↓zbE, zbd_some, ↓xk_I, ↓xk_v, zB_0, zB_1, ite_not, ↓reduceIte, zS, xiM, xgP8, xgP9, xgPa, xgPb, xgPc, xsP8, xsP9, xsPa, xsPb, xsPc, xgM_14, c, eq_true h1, yb_268_24]
  · by_cases h2 : 57 < b
    · rw [zB_ff (c := 48 ≤ b ∧ b ≤ 57) (fun z => absurd h2 (Int32.not_lt.mpr z.2))]
      simp (disch := first | omega | assumption) only [↓zbE, zbd_some, ↓xk_I, ↓xk_v, zB_0, zB_1, ite_not, ↓reduceIte, zS, xiM, xgP8, xgP9, xgPa, xgPb, xgPc, xsP8, xsP9, xsPa, xsPb, xsPc, xgM_14, c, eq_false h1, eq_true h2, yb_268_24]
    · rw [zB_tt (c := 48 ≤ b ∧ b ≤ 57) ⟨Int32.not_lt.mp h1, Int32.not_lt.mp h2⟩]
      simp (disch := first | omega | assumption) only [↓zbE, zbd_some, ↓xk_I, ↓xk_v, zB_0, zB_1, ite_not, ↓reduceIte, zS, xiM, xgP8, xgP9, xgPa, xgPb, xgPc, xsP8, xsP9, xsPa, xsPb, xsPc, xgM_14, c, eq_false h1, eq_false h2]
theorem sp_b_n {f : Nat → Int32} : sp_b f n n = -1 := if_pos (Nat.le_refl _)
theorem z269_77 (hn : (w 3).1 7 = nI n) (h8 : n ≤ 800) {s k : Int32} {e : Int32 × Int32} : ∀ m p, p + m = n → xm_R sc xt_M (d + 2) 269 77 [.ref 191] [] (xem (xPw w (p, s, k, e)) l t) = some (.inl none, xem (xPw w (xto (fun j => ¬ sp_let ((w 3).2 8) n j) p m, s, 1, e)) l t) := by
  intro m
  induction m with
  | zero =>
    intro p hp
    have c := @zc_267 w l t sc d n (p, s, k, e) p hn h8 (by omega)
    have hz : ¬ sp_let ((w 3).2 8) n p := fun z => by
      have h := z.1
      rw [show p = n by omega, sp_b_n] at h
      exact absurd h (by decide)
    rw [zB_ff hz] at c
    rw [yb_269_77]
    simp (disch := first | omega | assumption) only [↓zbE, zbd_some, ↓xk_I, ↓xk_v, zB_0, zB_1, ite_not, ↓reduceIte, zS, xiM, xgP8, xgP9, xgPa, xgPb, xgPc, xsP8, xsP9, xsPa, xsPb, xsPc, xgM_14, c, z00, yb_269_167]
    rfl
  | succ m ih =>
    intro p hp
    have c := @zc_267 w l t sc d n (p, s, k, e) p hn h8 (by omega)
    rw [yb_269_77]
    by_cases hz : sp_let ((w 3).2 8) n p
    · rw [zB_tt hz] at c
      rw [xto_n (fun z => z hz)]
      refine Eq.trans ?_ (ih (p + 1) (by omega))
      simp (disch := first | omega | assumption) only [↓zbE, zbd_some, ↓xk_I, ↓xk_v, zB_0, zB_1, ite_not, ↓reduceIte, zS, xiM, xgP8, xgP9, xgPa, xgPb, xgPc, xsP8, xsP9, xsPa, xsPb, xsPc, xgM_14, c, z10]
    · rw [zB_ff hz] at c
      rw [xto_y hz]
      simp (disch := first | omega | assumption) only [↓zbE, zbd_some, ↓xk_I, ↓xk_v, zB_0, zB_1, ite_not, ↓reduceIte, zS, xiM, xgP8, xgP9, xgPa, xgPb, xgPc, xsP8, xsP9, xsPa, xsPb, xsPc, xgM_14, c, z00, yb_269_167]
theorem z269_120 (hn : (w 3).1 7 = nI n) (h8 : n ≤ 800) {s k : Int32} {e : Int32 × Int32} : ∀ m p, p + m = n → xm_R sc xt_M (d + 2) 269 120 [.ref 191] [] (xem (xPw w (p, s, k, e)) l t) = some (.inl none, xem (xPw w (xto (fun j => ¬ sp_dig ((w 3).2 8) n j) p m, s, 2, e)) l t) := by
  intro m
  induction m with
  | zero =>
    intro p hp
    have c := @zc_268 w l t sc d n (p, s, k, e) p hn h8 (by omega)
    have hz : ¬ sp_dig ((w 3).2 8) n p := fun z => by
      have h := z.1
      rw [show p = n by omega, sp_b_n] at h
      exact absurd h (by decide)
    rw [zB_ff hz] at c
    rw [yb_269_120]
    simp (disch := first | omega | assumption) only [↓zbE, zbd_some, ↓xk_I, ↓xk_v, zB_0, zB_1, ite_not, ↓reduceIte, zS, xiM, xgP8, xgP9, xgPa, xgPb, xgPc, xsP8, xsP9, xsPa, xsPb, xsPc, xgM_14, c, z00, yb_269_167]
    rfl
  | succ m ih =>
    intro p hp
    have c := @zc_268 w l t sc d n (p, s, k, e) p hn h8 (by omega)
    rw [yb_269_120]
    by_cases hz : sp_dig ((w 3).2 8) n p
    · rw [zB_tt hz] at c
      rw [xto_n (fun z => z hz)]
      refine Eq.trans ?_ (ih (p + 1) (by omega))
      simp (disch := first | omega | assumption) only [↓zbE, zbd_some, ↓xk_I, ↓xk_v, zB_0, zB_1, ite_not, ↓reduceIte, zS, xiM, xgP8, xgP9, xgPa, xgPb, xgPc, xsP8, xsP9, xsPa, xsPb, xsPc, xgM_14, c, z10]
    · rw [zB_ff hz] at c
      rw [xto_y hz]
      simp (disch := first | omega | assumption) only [↓zbE, zbd_some, ↓xk_I, ↓xk_v, zB_0, zB_1, ite_not, ↓reduceIte, zS, xiM, xgP8, xgP9, xgPa, xgPb, xgPc, xsP8, xsP9, xsPa, xsPb, xsPc, xgM_14, c, z00, yb_269_167]
theorem yP8 {p : Nat} {s k : Int32} {e : Int32 × Int32} : xm_gI (xem (xPw w (p, s, k, e)) l t) 191 8 17 = some (nI p) := xgP8
theorem yPs8 {p q : Nat} {s k : Int32} {e : Int32 × Int32} : xm_sF (xem (xPw w (p, s, k, e)) l t) 191 8 17 (.int (nI q)) = some (xem (xPw w (q, s, k, e)) l t) := xsP8
theorem yPs9 {p : Nat} {s k x : Int32} {e : Int32 × Int32} : xm_sF (xem (xPw w (p, s, k, e)) l t) 191 8 18 (.int x) = some (xem (xPw w (p, x, k, e)) l t) := xsP9
theorem yPsa {p : Nat} {s k x : Int32} {e : Int32 × Int32} : xm_sF (xem (xPw w (p, s, k, e)) l t) 191 8 19 (.int x) = some (xem (xPw w (p, s, x, e)) l t) := xsPa
theorem z269_ta (hn : (w 3).1 7 = nI n) (h8 : n ≤ 800) {p : Nat} {s k : Int32} {e : Int32 × Int32} (hp : p ≤ n) (h1 : ¬ sp_b ((w 3).2 8) n p = 32) (h2 : ¬ sp_b ((w 3).2 8) n p = 10) (hpn : p < n) (hl : sp_let ((w 3).2 8) n p) : xm_R sc xt_M (d + 2) 269 0 [.ref 191] [] (xem (xPw w (p, s, k, e)) l t) = some (.inl none, xem (xPw w (xto (fun j => ¬ sp_let ((w 3).2 8) n j) p (n - p), nI p, 1, e)) l t) := by
  have c := @zc_266 w l t sc (d + 1) n (p, s, k, e) p hn h8 (by omega)
  have g7 := fun T => @xgP7 w l t n T hn
  have hpn' : nI p < nI n := nI_lt hpn (by omega)
  have c1 := @zc_267 w l t sc d n (p, nI p, k, e) p hn h8 (by omega)
  have c2 := @zc_268 w l t sc d n (p, nI p, k, e) p hn h8 (by omega)
  rw [zB_tt hl] at c1
  refine Eq.trans ?_ (@z269_77 w l t sc d n hn h8 (nI p) k e (n - p) p (by omega))
  rw [yb_269_0, yP8, zbs, if_pos xiM, c, zbs, xk_I, if_neg h1, yP8, zbs, if_pos xiM, c, zbs, xk_I, if_neg h2, yP8, zbs, yPs9, zbs, yP8, zbs, g7, zbs, if_pos hpn', zbs, if_pos xiM, c1, zbs, xk_I, if_neg (show ¬ (1 : Int32) = 0 by decide)]
theorem z269_tb (hn : (w 3).1 7 = nI n) (h8 : n ≤ 800) {p : Nat} {s k : Int32} {e : Int32 × Int32} (hp : p ≤ n) (h1 : ¬ sp_b ((w 3).2 8) n p = 32) (h2 : ¬ sp_b ((w 3).2 8) n p = 10) (hpn : p < n) (hl : ¬ sp_let ((w 3).2 8) n p) (hd : sp_dig ((w 3).2 8) n p) : xm_R sc xt_M (d + 2) 269 0 [.ref 191] [] (xem (xPw w (p, s, k, e)) l t) = some (.inl none, xem (xPw w (xto (fun j => ¬ sp_dig ((w 3).2 8) n j) p (n - p), nI p, 2, e)) l t) := by
  have c := @zc_266 w l t sc (d + 1) n (p, s, k, e) p hn h8 (by omega)
  have g7 := fun T => @xgP7 w l t n T hn
  have hpn' : nI p < nI n := nI_lt hpn (by omega)
  have c1 := @zc_267 w l t sc d n (p, nI p, k, e) p hn h8 (by omega)
  have c2 := @zc_268 w l t sc d n (p, nI p, k, e) p hn h8 (by omega)
  rw [zB_ff hl] at c1
  rw [zB_tt hd] at c2
  refine Eq.trans ?_ (@z269_120 w l t sc d n hn h8 (nI p) k e (n - p) p (by omega))
  rw [yb_269_0, yP8, zbs, if_pos xiM, c, zbs, xk_I, if_neg h1, yP8, zbs, if_pos xiM, c, zbs, xk_I, if_neg h2, yP8, zbs, yPs9, zbs, yP8, zbs, g7, zbs, if_pos hpn', zbs, if_pos xiM, c1, zbs, xk_I, if_pos rfl, yP8, zbs, if_pos xiM, c2, zbs, xk_I, if_neg (show ¬ (1 : Int32) = 0 by decide)]
theorem z269_tc (hn : (w 3).1 7 = nI n) (h8 : n ≤ 800) {p : Nat} {s k : Int32} {e : Int32 × Int32} (hp : p ≤ n) (h1 : ¬ sp_b ((w 3).2 8) n p = 32) (h2 : ¬ sp_b ((w 3).2 8) n p = 10) (hpn : p < n) (hl : ¬ sp_let ((w 3).2 8) n p) (hd : ¬ sp_dig ((w 3).2 8) n p) : xm_R sc xt_M (d + 2) 269 0 [.ref 191] [] (xem (xPw w (p, s, k, e)) l t) = some (.inl none, xem (xPw w (p + 1, nI p, 3, e)) l t) := by
  have c := @zc_266 w l t sc (d + 1) n (p, s, k, e) p hn h8 (by omega)
  have g7 := fun T => @xgP7 w l t n T hn
  have hpn' : nI p < nI n := nI_lt hpn (by omega)
  have c1 := @zc_267 w l t sc d n (p, nI p, k, e) p hn h8 (by omega)
  have c2 := @zc_268 w l t sc d n (p, nI p, k, e) p hn h8 (by omega)
  rw [zB_ff hl] at c1
  rw [zB_ff hd] at c2
  rw [yb_269_0, yP8, zbs, if_pos xiM, c, zbs, xk_I, if_neg h1, yP8, zbs, if_pos xiM, c, zbs, xk_I, if_neg h2, yP8, zbs, yPs9, zbs, yP8, zbs, g7, zbs, if_pos hpn', zbs, if_pos xiM, c1, zbs, xk_I, if_pos rfl, yP8, zbs, if_pos xiM, c2, zbs, xk_I, if_pos rfl, yP8, zbs, zS, yPs8, zbs, yPsa, zbs, yb_269_167]
theorem z269_td (hn : (w 3).1 7 = nI n) (h8 : n ≤ 800) {p : Nat} {s k : Int32} {e : Int32 × Int32} (hp : p ≤ n) (h1 : ¬ sp_b ((w 3).2 8) n p = 32) (h2 : ¬ sp_b ((w 3).2 8) n p = 10) (hpn : ¬ p < n) : xm_R sc xt_M (d + 2) 269 0 [.ref 191] [] (xem (xPw w (p, s, k, e)) l t) = some (.inl none, xem (xPw w (p, nI p, 0, e)) l t) := by
  have c := @zc_266 w l t sc (d + 1) n (p, s, k, e) p hn h8 (by omega)
  have g7 := fun T => @xgP7 w l t n T hn
  have hpn' : ¬ nI p < nI n := nI_nlt (by omega) (by omega)
  rw [yb_269_0, yP8, zbs, if_pos xiM, c, zbs, xk_I, if_neg h1, yP8, zbs, if_pos xiM, c, zbs, xk_I, if_neg h2, yP8, zbs, yPs9, zbs, yP8, zbs, g7, zbs, if_neg hpn', yPsa, zbs, yb_269_167]
theorem z269_t (hn : (w 3).1 7 = nI n) (h8 : n ≤ 800) {p : Nat} {s k : Int32} {e : Int32 × Int32} (hp : p ≤ n) (hs : ¬ sp_spc ((w 3).2 8) n p) : xm_R sc xt_M (d + 2) 269 0 [.ref 191] [] (xem (xPw w (p, s, k, e)) l t) = some (.inl none, xem (xPw w (sp_scS ((w 3).2 8) n p e)) l t) := by
  have h1 : ¬ sp_b ((w 3).2 8) n p = 32 := fun z => hs (Or.inl z)
  have h2 : ¬ sp_b ((w 3).2 8) n p = 10 := fun z => hs (Or.inr z)
  unfold sp_scS
  by_cases hpn : p < n
  · rw [if_pos hpn]
    by_cases hl : sp_let ((w 3).2 8) n p
    · rw [if_pos hl]
      exact z269_ta hn h8 hp h1 h2 hpn hl
    · rw [if_neg hl]
      by_cases hd : sp_dig ((w 3).2 8) n p
      · rw [if_pos hd]
        exact z269_tb hn h8 hp h1 h2 hpn hl hd
      · rw [if_neg hd]
        exact z269_tc hn h8 hp h1 h2 hpn hl hd
  · rw [if_neg hpn]
    exact z269_td hn h8 hp h1 h2 hpn
theorem z269 (hn : (w 3).1 7 = nI n) (h8 : n ≤ 800) {s k : Int32} {e : Int32 × Int32} : ∀ m p, p + m = n → xm_R sc xt_M (d + 2) 269 0 [.ref 191] [] (xem (xPw w (p, s, k, e)) l t) = some (.inl none, xem (xPw w (sp_scS ((w 3).2 8) n (xto (fun j => ¬ sp_spc ((w 3).2 8) n j) p m) e)) l t) := by
  intro m
  induction m with
  | zero =>
    intro p hp
    refine z269_t hn h8 (by omega) (fun z => ?_)
    have e1 : sp_b ((w 3).2 8) n p = -1 := by rw [show p = n by omega, sp_b_n]
    rcases z with z | z
    · rw [e1] at z; exact absurd z (by decide)
    · rw [e1] at z; exact absurd z (by decide)
  | succ m ih =>
    intro p hp
    by_cases hs : sp_spc ((w 3).2 8) n p
    · rw [xto_n (fun z => z hs)]
      refine Eq.trans ?_ (ih (p + 1) (by omega))
      have c := @zc_266 w l t sc (d + 1) n (p, s, k, e) p hn h8 (by omega)
      have g2 : xm_R sc xt_M (d + 2) 269 26 [.ref 191] [] (xem (xPw w (p, s, k, e)) l t) = xm_R sc xt_M (d + 2) 269 0 [.ref 191] [] (xem (xPw w (p + 1, s, k, e)) l t) := by
        rw [yb_269_26]
        simp (disch := first | omega | assumption) only [↓zbE, zbd_some, ↓xk_I, ↓xk_v, zB_0, zB_1, ite_not, ↓reduceIte, zS, xiM, xgP8, xgP9, xgPa, xgPb, xgPc, xsP8, xsP9, xsPa, xsPb, xsPc, xgM_14]
      refine Eq.trans ?_ g2
      rw [yb_269_0]
      by_cases h1 : sp_b ((w 3).2 8) n p = 32
      · simp (disch := first | omega | assumption) only [↓zbE, zbd_some, ↓xk_I, ↓xk_v, zB_0, zB_1, ite_not, ↓reduceIte, zS, xiM, xgP8, xgP9, xgPa, xgPb, xgPc, xsP8, xsP9, xsPa, xsPb, xsPc, xgM_14, c, h1]
      · have h2 : sp_b ((w 3).2 8) n p = 10 := hs.resolve_left h1
        have h32 : ¬ (10 : Int32) = 32 := by decide
        rw [h2] at c
        simp (disch := first | omega | assumption) only [↓zbE, zbd_some, ↓xk_I, ↓xk_v, zB_0, zB_1, ite_not, ↓reduceIte, zS, xiM, xgP8, xgP9, xgPa, xgPb, xgPc, xsP8, xsP9, xsPa, xsPb, xsPc, xgM_14, c, h32]
    · rw [xto_y hs]
      exact z269_t hn h8 (by omega) hs
theorem zc_269 (hn : (w 3).1 7 = nI n) (h8 : n ≤ 800) (hp : T.1 ≤ n) : xm_C sc xt_M (d + 3) 269 [.ref 191] (xem (xPw w T) l t) = some (.inl none, xem (xPw w (sp_scan ((w 3).2 8) n T)) l t) := by
  obtain ⟨p, s, k, e⟩ := T
  have h := @z269 w l t sc d n hn h8 s k e (n - p) p (by dsimp only at hp; omega)
  have e1 : sp_scan ((w 3).2 8) n (p, s, k, e) = sp_scS ((w 3).2 8) n (xto (fun j => ¬ sp_spc ((w 3).2 8) n j) p (n - p)) e := by
    unfold sp_scan
    dsimp only
  rw [e1]
  rw [yb_269_0] at h
  rw [yc_269]
  exact h
theorem zc_272 {c : Int32} : xm_C sc xt_M (d + 1) 272 [.ref 191, .int c] (xem (xPw w T) l t) = some (.inl none, xem (xPw w (sp_flaw T c)) l t) := by
  rw [yc_272]
  unfold sp_flaw
  by_cases h : T.2.2.2.1 = 0
  · rw [if_pos h]
    simp (disch := first | omega | assumption) only [↓zbE, zbd_some, ↓xk_I, ↓xk_v, zB_0, zB_1, ite_not, ↓reduceIte, zS, xiM, xgP8, xgP9, xgPa, xgPb, xgPc, xsP8, xsP9, xsPa, xsPb, xsPc, xgM_14, h, yb_272_20]
  · rw [if_neg h]
    simp (disch := first | omega | assumption) only [↓zbE, zbd_some, ↓xk_I, ↓xk_v, zB_0, zB_1, ite_not, ↓reduceIte, zS, xiM, xgP8, xgP9, xgPa, xgPb, xgPc, xsP8, xsP9, xsPa, xsPb, xsPc, xgM_14, h, yb_272_20]
theorem zc_273 {b c : Int32} : xm_C sc xt_M (d + 2) 273 [.ref 191, .int b, .int c] (xem (xPw w T) l t) = some (.inl none, xem (xPw w (sp_check T b c)) l t) := by
  rw [yc_273]
  unfold sp_check
  by_cases h : b = 0
  · rw [if_pos h, if_pos h]
    simp (disch := first | omega | assumption) only [↓zbE, zbd_some, ↓xk_I, ↓xk_v, zB_0, zB_1, ite_not, ↓reduceIte, zS, xiM, xgP8, xgP9, xgPa, xgPb, xgPc, xsP8, xsP9, xsPa, xsPb, xsPc, xgM_14, zc_272, yb_273_9]
  · rw [if_neg h, if_neg h, yb_273_9]
theorem zc_274 (hn : (w 3).1 7 = nI n) (h8 : n ≤ 800) (hp : T.1 ≤ n) : xm_C sc xt_M (d + 4) 274 [.ref 191] (xem (xPw w T) l t) = some (.inl none, xem (xPw w (sp_adv ((w 3).2 8) n T)) l t) := by
  have c := @zc_269 w l t sc d n T hn h8 hp
  rw [yc_274]
  unfold sp_adv
  by_cases h : T.2.2.2.1 = 0
  · rw [if_pos h]
    simp (disch := first | omega | assumption) only [↓zbE, zbd_some, ↓xk_I, ↓xk_v, zB_0, zB_1, ite_not, ↓reduceIte, zS, xiM, xgP8, xgP9, xgPa, xgPb, xgPc, xsP8, xsP9, xsPa, xsPb, xsPc, xgM_14, h, c, yb_274_11]
  · rw [if_neg h]
    simp (disch := first | omega | assumption) only [↓zbE, zbd_some, ↓xk_I, ↓xk_v, zB_0, zB_1, ite_not, ↓reduceIte, zS, xiM, xgP8, xgP9, xgPa, xgPb, xgPc, xsP8, xsP9, xsPa, xsPb, xsPc, xgM_14, h, yb_274_11]
theorem zc_275 {c : Int32} (hs : xil T.2.1 800) : xm_C sc xt_M (d + 1) 275 [.ref 191, .int c] (xem (xPw w T) l t) = some (.inl (some (.int (zB (sp_sym ((w 3).2 8) T c)))), xem (xPw w T) l t) := by
  have ha : xm_aI (xem (xPw w T) l t) (xm 8) 0 T.2.1 = some ((w 3).2 8 T.2.1.toNatClampNeg) := by
    conv => lhs; rw [hs.1]
    exact xaP8 hs.2
  rw [yc_275]
  unfold sp_sym
  by_cases h1 : T.2.2.2.1 = 0
  · by_cases h2 : T.2.2.1 = 3
    · by_cases h3 : (w 3).2 8 T.2.1.toNatClampNeg = c
      · rw [zB_tt (c := T.2.2.2.1 = 0 ∧ T.2.2.1 = 3 ∧ (w 3).2 8 T.2.1.toNatClampNeg = c) ⟨h1, h2, h3⟩]
        simp (disch := first | omega | assumption) only [↓zbE, zbd_some, ↓xk_I, ↓xk_v, zB_0, zB_1, ite_not, ↓reduceIte, zS, xiM, xgP8, xgP9, xgPa, xgPb, xgPc, xsP8, xsP9, xsPa, xsPb, xsPc, xgM_14, h1, h2, ha, eq_true h3]
      · rw [zB_ff (c := T.2.2.2.1 = 0 ∧ T.2.2.1 = 3 ∧ (w 3).2 8 T.2.1.toNatClampNeg = c) (fun z => h3 z.2.2)]
        simp (disch := first | omega | assumption) only [↓zbE, zbd_some, ↓xk_I, ↓xk_v, zB_0, zB_1, ite_not, ↓reduceIte, zS, xiM, xgP8, xgP9, xgPa, xgPb, xgPc, xsP8, xsP9, xsPa, xsPb, xsPc, xgM_14, h1, h2, ha, eq_false h3, yb_275_32]
    · rw [zB_ff (c := T.2.2.2.1 = 0 ∧ T.2.2.1 = 3 ∧ (w 3).2 8 T.2.1.toNatClampNeg = c) (fun z => h2 z.2.1)]
      simp (disch := first | omega | assumption) only [↓zbE, zbd_some, ↓xk_I, ↓xk_v, zB_0, zB_1, ite_not, ↓reduceIte, zS, xiM, xgP8, xgP9, xgPa, xgPb, xgPc, xsP8, xsP9, xsPa, xsPb, xsPc, xgM_14, h1, h2, yb_275_32]
  · rw [zB_ff (c := T.2.2.2.1 = 0 ∧ T.2.2.1 = 3 ∧ (w 3).2 8 T.2.1.toNatClampNeg = c) (fun z => h1 z.1)]
    simp (disch := first | omega | assumption) only [↓zbE, zbd_some, ↓xk_I, ↓xk_v, zB_0, zB_1, ite_not, ↓reduceIte, zS, xiM, xgP8, xgP9, xgPa, xgPb, xgPc, xsP8, xsP9, xsPa, xsPb, xsPc, xgM_14, h1, yb_275_32]
end TO
