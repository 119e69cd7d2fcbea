/-! THE REFERENCE's middle methods -/
/-- a row as it stands between two calls -/
def xWn (r : Nat → Int32) : Prop := 2 ≤ xnb r ∧ 1 ≤ xnv r ∧ xil (r 4) 20000 ∧ xil (r 5) 51
def xWo (r : Nat → Int32) : Prop := ∀ b, b < 6 → r (6 + b) = 0 ∨ r (6 + b) = 1
abbrev xst (r : Nat → Int32) (v : Nat) : Nat := (r (13 + 11 * v)).toNatClampNeg
def xWv (r : Nat → Int32) : Prop := ∀ v, v < xnv r → xil (r (12 + 11 * v)) 10 ∧ xil (r (13 + 11 * v)) 9 ∧ 2 ≤ xst r v ∧ xil (r (14 + 11 * v)) (xst r v) ∧ ∀ s, s < xst r v → xil (r (15 + 11 * v + s)) (xnb r)
def xWk (r : Nat → Int32) : Prop := ∀ k, k < xnk r → xil (r (56 + 6 * k)) 5 ∧ xil (r (58 + 6 * k)) (xnb r) ∧ (r (59 + 6 * k) = 0 ∨ r (59 + 6 * k) = 1) ∧
  (r (56 + 6 * k) = 0 ∨ r (56 + 6 * k) = 2 → xil (r (57 + 6 * k)) (xnb r)) ∧ (r (56 + 6 * k) = 1 → xil (r (57 + 6 * k)) (xnv r)) ∧ (r (56 + 6 * k) = 3 ∨ r (56 + 6 * k) = 4 → r (57 + 6 * k) = -1) ∧
  (r (56 + 6 * k) = 2 → ∃ q, q < xnq r ∧ r (176 + 3 * q) = nI k ∧ r (177 + 3 * q) = r (60 + 6 * k)) ∧ (r (56 + 6 * k) = 3 → xil (r (60 + 6 * k)) 100)
def xWq (r : Nat → Int32) : Prop := (∀ q, q < xnq r → xil (r (176 + 3 * q)) (xnk r) ∧ xil (r (177 + 3 * q)) 100 ∧ xil (r (178 + 3 * q)) (xnb r)) ∧
  ∀ p q, p < q → q < xnq r → r (176 + 3 * p) = r (176 + 3 * q) → r (177 + 3 * p) = r (177 + 3 * q) → False
def xWF (r : Nat → Int32) : Prop := xBd r ∧ xWn r ∧ xWo r ∧ xWv r ∧ xWk r ∧ xWq r
def xany (p : Nat → Bool) : Nat → Bool
  | 0 => false
  | n + 1 => xany p n || p n
theorem xany_iff {p : Nat → Bool} {n : Nat} : xany p n = true ↔ ∃ i, i < n ∧ p i = true := by
  induction n with
  | zero => exact ⟨fun h => (by cases h), fun ⟨i, h, _⟩ => absurd h (Nat.not_lt_zero i)⟩
  | succ n ih =>
    unfold xany
    rw [Bool.or_eq_true, ih]
    constructor
    · rintro (⟨i, h1, h2⟩ | h)
      · exact ⟨i, by omega, h2⟩
      · exact ⟨n, by omega, h⟩
    · rintro ⟨i, h1, h2⟩
      by_cases e : i = n
      · exact Or.inr (e ▸ h2)
      · exact Or.inl ⟨i, by omega, h2⟩
def sp_has (r : Nat → Int32) (v : Nat) (b : Int32) : Bool := xany (fun s => decide (r (15 + 11 * v + s) = b)) (xst r v)
def sp_link (r : Nat → Int32) (a b : Int32) : Bool := xany (fun v => sp_has r v a && sp_has r v b) (xnv r)
section WF
variable {r : Nat → Int32}
theorem xWF.bd (h : xWF r) : xBd r := h.1
theorem xWF.n (h : xWF r) : xWn r := h.2.1
theorem xWF.o (h : xWF r) : xWo r := h.2.2.1
theorem xWF.v (h : xWF r) : xWv r := h.2.2.2.1
theorem xWF.k (h : xWF r) : xWk r := h.2.2.2.2.1
theorem xWF.q (h : xWF r) : xWq r := h.2.2.2.2.2
theorem xWF.qb (h : xWF r) {q : Nat} (hq : q < xnq r) : xib (r (178 + 3 * q)) := xil_le (h.q.1 q hq).2.2 h.bd.b6
theorem xWF.hm (h : xWF r) {k : Nat} (hk : k < xnk r) : xib (r (58 + 6 * k)) := xil_le (h.k k hk).2.1 h.bd.b6
theorem xWF.st (h : xWF r) {v : Nat} (hv : v < xnv r) : r (13 + 11 * v) = nI (xst r v) := (h.v v hv).2.1.1
theorem xWF.st9 (h : xWF r) {v : Nat} (hv : v < xnv r) : xst r v < 9 := (h.v v hv).2.1.2
end WF
section RG
variable {w : xW} {l : Nat → Nat → Int64} {t : Nat} {sc : xm_Sc} {d : Nat}
theorem sp_first_lt {r : Nat → Int32} {b : Int32} {q : Nat} (h : sp_first r b = some q) : q < xnq r := by
  have := xfst_some h
  omega
theorem toJ_ne {q : Nat} (h : q < 2 ^ 31) : ¬ nI q = -1 := by
  intro e
  have h1 := nI_pos (n := q) h
  rw [e] at h1
  exact h1 (by decide)
end RG
