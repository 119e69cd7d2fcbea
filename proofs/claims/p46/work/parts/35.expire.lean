/-! THE REFERENCE: expire -/
def xsg (q p : Nat) : Nat := if p < q then p else p + 1
section DR
variable {r : Nat → Int32} {q : Nat}
theorem sp_drop_q {p c : Nat} (hp : p < xnq r - 1) (hc : c < 3) : sp_drop r q (176 + 3 * p + c) = r (176 + 3 * xsg q p + c) := by
  unfold sp_drop sp_drz sp_dr xsg
  rw [if_neg (by omega), if_neg (by omega)]
  by_cases h : p < q
  · rw [if_neg (by omega), if_pos h]
  · rw [if_pos (by omega), if_neg h]
    congr 1
    omega
theorem sp_drop_176 {p : Nat} (hp : p < xnq r - 1) : sp_drop r q (176 + 3 * p) = r (176 + 3 * xsg q p) := sp_drop_q (c := 0) hp (by omega)
theorem sp_drop_177 {p : Nat} (hp : p < xnq r - 1) : sp_drop r q (177 + 3 * p) = r (177 + 3 * xsg q p) := by
  have := sp_drop_q (q := q) (c := 1) hp (by omega)
  rw [show 177 + 3 * p = 176 + 3 * p + 1 by omega, show 177 + 3 * xsg q p = 176 + 3 * xsg q p + 1 by omega]
  exact this
theorem sp_drop_178 {p : Nat} (hp : p < xnq r - 1) : sp_drop r q (178 + 3 * p) = r (178 + 3 * xsg q p) := by
  have := sp_drop_q (q := q) (c := 2) hp (by omega)
  rw [show 178 + 3 * p = 176 + 3 * p + 2 by omega, show 178 + 3 * xsg q p = 176 + 3 * xsg q p + 2 by omega]
  exact this
theorem sp_drop_3 : sp_drop r q 3 = nI (xnq r - 1) := by
  unfold sp_drop sp_drz
  rw [if_neg (by omega)]
  exact sp_dr_3
theorem sp_drop_h {i : Nat} (h3 : i ≠ 3) (hi : i < 176) : sp_drop r q i = r i := by
  unfold sp_drop sp_drz sp_dr
  rw [if_neg (by omega), if_neg h3, if_neg (by omega)]
theorem xWF_drop (h : xWF r) (hq : q < xnq r) (hne : ∀ k, k < xnk r → r (56 + 6 * k) = 2 → ¬ (r (176 + 3 * q) = nI k ∧ r (177 + 3 * q) = r (60 + 6 * k))) : xWF (sp_drop r q) ∧ xnq (sp_drop r q) = xnq r - 1 := by
  have hv4 := h.bd.v4
  have hk20 := h.bd.k20
  have hq40 := h.bd.q40
  have e : ∀ i, i ≠ 3 → i < 176 → sp_drop r q i = r i := fun i h1 h2 => sp_drop_h h1 h2
  have e0 : xnb (sp_drop r q) = xnb r := by unfold xnb; rw [e 0 (by omega) (by omega)]
  have e1 : xnv (sp_drop r q) = xnv r := by unfold xnv; rw [e 1 (by omega) (by omega)]
  have e2 : xnk (sp_drop r q) = xnk r := by unfold xnk; rw [e 2 (by omega) (by omega)]
  have e3 : xnq (sp_drop r q) = xnq r - 1 := by unfold xnq; rw [sp_drop_3, nI_clamp (by omega)]; rfl
  refine ⟨⟨?_, ?_, ?_, ?_, ?_, ?_⟩, e3⟩
  · unfold xBd
    rw [e0, e1, e2, e3, e 0 (by omega) (by omega), e 1 (by omega) (by omega), e 2 (by omega) (by omega), sp_drop_3]
    exact ⟨h.bd.1, h.bd.2.1, h.bd.2.2.1, rfl, by omega⟩
  · unfold xWn
    rw [e0, e1, e 4 (by omega) (by omega), e 5 (by omega) (by omega)]
    exact h.n
  · intro b hb6
    rw [e (6 + b) (by omega) (by omega)]
    exact h.o b hb6
  · intro v hv
    rw [e1] at hv
    obtain ⟨a1, a2, a3, a4, a5⟩ := h.v v hv
    have a9 := a2.2
    unfold xst at *
    rw [e (12 + 11 * v) (by omega) (by omega), e (13 + 11 * v) (by omega) (by omega), e (14 + 11 * v) (by omega) (by omega), e0]
    refine ⟨a1, a2, a3, a4, fun s hs => ?_⟩
    rw [e (15 + 11 * v + s) (by omega) (by omega)]
    exact a5 s hs
  · intro k hk
    rw [e2] at hk
    have c := h.k k hk
    rw [e0, e1, e3, e (56 + 6 * k) (by omega) (by omega), e (57 + 6 * k) (by omega) (by omega), e (58 + 6 * k) (by omega) (by omega), e (59 + 6 * k) (by omega) (by omega), e (60 + 6 * k) (by omega) (by omega)]
    refine ⟨c.1, c.2.1, c.2.2.1, c.2.2.2.1, c.2.2.2.2.1, c.2.2.2.2.2.1, fun z => ?_, c.2.2.2.2.2.2.2⟩
    obtain ⟨p, q1, q2, q3⟩ := c.2.2.2.2.2.2.1 z
    have hpq : p ≠ q := fun g => hne k hk z (g ▸ ⟨q2, q3⟩)
    by_cases g : p < q
    · refine ⟨p, by omega, ?_, ?_⟩
      · rw [sp_drop_176 (by omega), show xsg q p = p from if_pos g]; exact q2
      · rw [sp_drop_177 (by omega), show xsg q p = p from if_pos g]; exact q3
    · refine ⟨p - 1, by omega, ?_, ?_⟩
      · rw [sp_drop_176 (by omega), show xsg q (p - 1) = p by unfold xsg; rw [if_neg (by omega)]; omega]; exact q2
      · rw [sp_drop_177 (by omega), show xsg q (p - 1) = p by unfold xsg; rw [if_neg (by omega)]; omega]; exact q3
  · unfold xWq
    rw [e3, e2, e0]
    have sl : ∀ p, p < xnq r - 1 → xsg q p < xnq r := fun p hp => by unfold xsg; split <;> omega
    refine ⟨fun p hp => ?_, fun p p' hp hp' => ?_⟩
    · rw [sp_drop_176 hp, sp_drop_177 hp, sp_drop_178 hp]
      exact h.q.1 _ (sl p hp)
    · rw [sp_drop_176 hp', sp_drop_177 hp', sp_drop_176 (p := p) (by omega), sp_drop_177 (p := p) (by omega)]
      exact h.q.2 _ _ (by unfold xsg; split <;> split <;> omega) (sl p' hp')
end DR
def sp_exp (k : Nat) (r : Nat → Int32) : Nat → Int32 := if r (56 + 6 * k) = 2 ∧ ¬ r 4 ≤ r (61 + 6 * k) then (match sp_by r (nI k) (r (60 + 6 * k)) with
  | some q => sp_drop (sp_put r k 0 (r (57 + 6 * k))) q
  | none => r) else r
section RT
variable {w : xW} {l : Nat → Nat → Int64} {t : Nat} {sc : xm_Sc} {d : Nat}
theorem sp_by_held {r : Nat → Int32} {k : Nat} (hW : xWF r) (hk : k < xnk r) (h : r (56 + 6 * k) = 2) : ∃ q, sp_by r (nI k) (r (60 + 6 * k)) = some q ∧ q < xnq r := by
  obtain ⟨p, p1, p2, p3⟩ := (hW.k k hk).2.2.2.2.2.2.1 h
  cases e : sp_by r (nI k) (r (60 + 6 * k)) with
  | none => exact absurd ⟨p2, p3⟩ (xfst_none e p (by omega) (by omega))
  | some q => exact ⟨q, rfl, sp_by_lt e⟩
theorem sp_exp_ok {r : Nat → Int32} {k : Nat} (hW : xWF r) (hk : k < xnk r) : xWF (sp_exp k r) ∧ xnk (sp_exp k r) = xnk r := by
  have hk20 := hW.bd.k20
  unfold sp_exp
  split
  · next h =>
    obtain ⟨q, e, hq⟩ := sp_by_held hW hk h.1
    rw [e]
    have h1 := (hW.k k hk).2.2.2.1 (Or.inr h.1)
    have hW1 : xWF (sp_put r k 0 (r (57 + 6 * k))) := xWF_put hW hk (Or.inl ⟨rfl, h1⟩)
    have hh : xhd r (sp_put r k 0 (r (57 + 6 * k))) := fun i hi => sp_put_h (by omega) hi
    have hx := xfst_some e
    have := xWF_drop hW1 (q := q) (by rw [hh.q]; exact hq) (fun k' hk' h2 h3 => by
      rw [hh _ (by omega), hx.1.1] at h3
      rw [hh.k] at hk'
      have : k = k' := nI_inj (by omega) (by omega) h3.1
      subst this
      rw [sp_put_0] at h2
      exact absurd h2 (by decide))
    refine ⟨this.1, ?_⟩
    show (sp_drop _ q 2).toNatClampNeg = _
    rw [sp_drop_h (by omega) (by omega), hh 2 (by omega)]
    rfl
  · exact ⟨hW, rfl⟩
end RT
