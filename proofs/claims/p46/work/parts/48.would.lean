/-! THE REFERENCE: wouldLoad, inVan; what a question keeps -/
abbrev sp_wlc (r : Nat → Int32) (a b : Int32) : Prop := (0 ≤ a ∧ a ≤ r 2 - 1) ∧ 0 ≤ b ∧ b ≤ r 1 - 1
abbrev sp_wl (f r : Nat → Int32) (k v : Nat) : Prop := r (56 + 6 * k) = 0 ∧ sp_has r v (r (57 + 6 * k)) = true ∧ xop r (r (57 + 6 * k)) ∧ sp_goes f r k v (r (57 + 6 * k)) = true
section SF
variable {w : xW} {l : Nat → Nat → Int64} {t : Nat} {sc : xm_Sc} {d : Nat}
theorem zb11 : (xm_b01 1 = true) = True := eq_true rfl
/-- a search with what stays true on the way -/
theorem xlfI (R : Nat → Option xm_O) (I : Nat → Prop) {p : Nat → Prop} [DecidablePred p] {K : Nat → Option xm_O} {E : Option xm_O} (n : Nat) (h0 : I 0) (hi : ∀ i, i < n → I i → ¬ p i → I (i + 1)) (hs : ∀ i, i < n → I i → R i = if p i then K i else R (i + 1)) (he : I n → R n = E) : R 0 = (match xfst p 0 n with | some i => K i | none => E) := by
  have h : ∀ m i, i + m = n → I i → R i = (match xfst p i m with | some i => K i | none => E) := by
    intro m
    induction m with
    | zero =>
      intro i e g
      have : i = n := by omega
      subst this
      rw [he g]
      rfl
    | succ m ih =>
      intro i e g
      rw [hs i (by omega) g]
      unfold xfst
      by_cases hp : p i
      · rw [if_pos hp, if_pos hp]
      · rw [if_neg hp, if_neg hp, ih (i + 1) (by omega) (hi i (by omega) g hp)]
  exact h n 0 (by omega) h0
def xcnt (p : Nat → Prop) [DecidablePred p] : Nat → Nat
  | 0 => 0
  | n + 1 => if p n then xcnt p n + 1 else xcnt p n
theorem xcnt_le {p : Nat → Prop} [DecidablePred p] {n : Nat} : xcnt p n ≤ n := by
  induction n with
  | zero => exact Nat.le_refl _
  | succ n ih =>
    unfold xcnt
    split <;> omega
theorem xcnt_s {p : Nat → Prop} [DecidablePred p] {n : Nat} : xcnt p (n + 1) = if p n then xcnt p n + 1 else xcnt p n := rfl
theorem z0lt : ((0 : Int32) < 0) = False := eq_false (by decide)
theorem xsum_cnt {p : Nat → Prop} [DecidablePred p] {n : Nat} : xsum (fun k => zB (p k)) n = nI (xcnt p n) := by
  induction n with
  | zero => rfl
  | succ n ih =>
    show xsum (fun k => zB (p k)) n + zB (p n) = _
    rw [ih, xcnt_s]
    by_cases h : p n
    · rw [zB_tt h, if_pos h, nI_succ]
    · rw [zB_ff h, if_neg h, Int32.add_zero]
abbrev sp_inp (r : Nat → Int32) (v m k : Nat) : Prop := sp_isIn r 1 k (nI v) ∧ xcnt (fun k => sp_isIn r 1 k (nI v)) k = m
def sp_inVan (r : Nat → Int32) (a i : Int32) : Int32 × Int32 := if 0 ≤ a ∧ a ≤ r 1 - 1 then (if i < 0 then (1, 0) else match xfst (fun k => sp_inp r a.toNatClampNeg i.toNatClampNeg k) 0 (xnk r) with
  | some k => (0, nI k)
  | none => (1, 0)) else (1, 0)
end SF
