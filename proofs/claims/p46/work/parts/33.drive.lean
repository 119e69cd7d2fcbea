/-! THE REFERENCE: takeIn and drive -/
def sp_takeU (f j : Nat → Int32) (v : Nat) (b : Int32) (r : Nat → Int32) (s : Nat) : (Nat → Int32) × Int32 := xfold (fun s u => sp_tk f j v b (nI s) (xnk r) u) (r, r (12 + 11 * v) - sp_booksIn r 1 (nI v)) s
def sp_take (f j : Nat → Int32) (v : Nat) (b : Int32) (r : Nat → Int32) : Nat → Int32 := (sp_takeU f j v b r 3).1
theorem sp_takeU_ok {f j r : Nat → Int32} {v : Nat} {b : Int32} (hW : xWF r) (hv : v < xnv r) : ∀ s, xWF (sp_takeU f j v b r s).1 ∧ xhd r (sp_takeU f j v b r s).1 := by
  intro s
  induction s with
  | zero => exact ⟨hW, fun _ _ => rfl⟩
  | succ s ih => exact xfm_ok hv (xnk r) 0 _ (by omega) ih.1 ih.2
theorem xWF_at {r : Nat → Int32} {v : Nat} {x : Int32} (h : xWF r) (hv : v < xnv r) (hx : xil x (xst r v)) : xWF (upd r (14 + 11 * v) x) := by
  have hv4 := h.bd.v4
  have hk20 := h.bd.k20
  have e : ∀ i, i ≠ 14 + 11 * v → upd r (14 + 11 * v) x i = r i := fun i hi => if_neg hi
  have e0 : xnb (upd r (14 + 11 * v) x) = xnb r := by unfold xnb; rw [e 0 (by omega)]
  have e1 : xnv (upd r (14 + 11 * v) x) = xnv r := by unfold xnv; rw [e 1 (by omega)]
  have e2 : xnk (upd r (14 + 11 * v) x) = xnk r := by unfold xnk; rw [e 2 (by omega)]
  have e3 : xnq (upd r (14 + 11 * v) x) = xnq r := by unfold xnq; rw [e 3 (by omega)]
  refine ⟨?_, ?_, ?_, ?_, ?_, ?_⟩
  · unfold xBd
    rw [e0, e1, e2, e3, e 0 (by omega), e 1 (by omega), e 2 (by omega), e 3 (by omega)]
    exact h.bd
  · unfold xWn
    rw [e0, e1, e 4 (by omega), e 5 (by omega)]
    exact h.n
  · intro b hb6
    rw [e (6 + b) (by omega)]
    exact h.o b hb6
  · intro v' hv'
    rw [e1] at hv'
    obtain ⟨a1, a2, a3, a4, a5⟩ := h.v v' hv'
    have a9 := a2.2
    unfold xst at *
    rw [e (12 + 11 * v') (by omega), e (13 + 11 * v') (by omega), e0]
    refine ⟨a1, a2, a3, ?_, fun s hs => ?_⟩
    · by_cases g : v' = v
      · subst g
        rw [zu1]
        exact hx
      · rw [e (14 + 11 * v') (by omega)]
        exact a4
    · rw [e (15 + 11 * v' + s) (by omega)]
      exact a5 s hs
  · intro k hk
    rw [e2] at hk
    have c := h.k k hk
    rw [e0, e1, e3, e (56 + 6 * k) (by omega), e (57 + 6 * k) (by omega), e (58 + 6 * k) (by omega), e (59 + 6 * k) (by omega), e (60 + 6 * k) (by omega)]
    refine ⟨c.1, c.2.1, c.2.2.1, c.2.2.2.1, c.2.2.2.2.1, c.2.2.2.2.2.1, fun z => ?_, c.2.2.2.2.2.2.2⟩
    obtain ⟨q, q1, q2, q3⟩ := c.2.2.2.2.2.2.1 z
    refine ⟨q, q1, ?_, ?_⟩
    · rw [e (176 + 3 * q) (by omega)]; exact q2
    · rw [e (177 + 3 * q) (by omega)]; exact q3
  · unfold xWq
    rw [e3, e2, e0]
    refine ⟨fun q hq => ?_, fun p q hp hq => ?_⟩
    · rw [e (176 + 3 * q) (by omega), e (177 + 3 * q) (by omega), e (178 + 3 * q) (by omega)]
      exact h.q.1 q hq
    · rw [e (176 + 3 * q) (by omega), e (177 + 3 * q) (by omega), e (176 + 3 * p) (by omega), e (177 + 3 * p) (by omega)]
      exact h.q.2 p q hp hq
theorem zmod : ∀ a, a < 100 → ∀ b, b < 9 → 0 < b → nI a - nI a / nI b * nI b = nI (a % b) := by decide +kernel
def sp_at1 (r : Nat → Int32) (v : Nat) : Nat → Int32 := upd r (14 + 11 * v) (nI (((r (14 + 11 * v)).toNatClampNeg + 1) % xst r v))
def sp_drive (f : Nat → Int32) (v : Nat) (u : (Nat → Int32) × (Nat → Int32)) : (Nat → Int32) × (Nat → Int32) :=
  if xop (sp_at1 u.1 v) (u.1 (15 + 11 * v + ((u.1 (14 + 11 * v)).toNatClampNeg + 1) % xst u.1 v)) then
    (sp_take f (sp_unl f v (u.1 (15 + 11 * v + ((u.1 (14 + 11 * v)).toNatClampNeg + 1) % xst u.1 v)) (sp_at1 u.1 v, u.2) (xnk u.1)).2 v (u.1 (15 + 11 * v + ((u.1 (14 + 11 * v)).toNatClampNeg + 1) % xst u.1 v))
      (sp_unl f v (u.1 (15 + 11 * v + ((u.1 (14 + 11 * v)).toNatClampNeg + 1) % xst u.1 v)) (sp_at1 u.1 v, u.2) (xnk u.1)).1,
     (sp_unl f v (u.1 (15 + 11 * v + ((u.1 (14 + 11 * v)).toNatClampNeg + 1) % xst u.1 v)) (sp_at1 u.1 v, u.2) (xnk u.1)).2)
  else (sp_at1 u.1 v, u.2)
section RR
variable {w : xW} {l : Nat → Nat → Int64} {t : Nat} {sc : xm_Sc} {d : Nat}
end RR
