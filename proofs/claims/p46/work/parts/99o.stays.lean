/-! SOUND ROWS stay sound -/
def rH0 (r : Nat → Int32) (k : Nat) : Prop := r (56 + 6 * k) = 2 → r (59 + 6 * k) = 0 ∧ xop r (r (57 + 6 * k)) ∧ ∃ q, q < xnq r ∧ r (176 + 3 * q) = nI k ∧ r (177 + 3 * q) = r (60 + 6 * k) ∧ r (178 + 3 * q) = r (57 + 6 * k)
def rL (r : Nat → Int32) (k : Nat) : Prop := r (56 + 6 * k) = 2 → r 4 ≤ r (61 + 6 * k)
def rS0 (r : Nat → Int32) : Prop := (∀ k, k < xnk r → rH0 r k) ∧ ∀ v, v < xnv r → rV r v
def rSL (r : Nat → Int32) (n : Nat) : Prop := ∀ k, k < n → rL r k
theorem rS_of {r : Nat → Int32} (h : rS0 r) (g : rSL r (xnk r)) : rS r := ⟨fun k hk h2 => ⟨(h.1 k hk h2).1, (h.1 k hk h2).2.1, g k hk h2, (h.1 k hk h2).2.2⟩, h.2⟩
theorem rS_0 {r : Nat → Int32} (h : rS r) : rS0 r := ⟨fun k hk h2 => ⟨(h.1 k hk h2).1, (h.1 k hk h2).2.1, (h.1 k hk h2).2.2.2⟩, h.2⟩
theorem rS_L {r : Nat → Int32} (h : rS r) : rSL r (xnk r) := fun k hk h2 => (h.1 k hk h2).2.2.1
theorem xcnt_imp {p q : Nat → Prop} [DecidablePred p] [DecidablePred q] : ∀ {n : Nat}, (∀ k, k < n → p k → q k) → xcnt p n ≤ xcnt q n := by
  intro n
  induction n with
  | zero => intro _; exact Nat.le_refl _
  | succ n ih =>
    intro h
    have := ih (fun k hk => h k (by omega))
    rw [xcnt_s, xcnt_s]
    by_cases hp : p n
    · rw [if_pos hp, if_pos (h n (by omega) hp)]; omega
    · rw [if_neg hp]
      split <;> omega
section RS
variable {r r' : Nat → Int32}
def rBk (r r' : Nat → Int32) (n : Nat) : Prop := ∀ k, k < n → (∀ i, 56 + 6 * k ≤ i → i < 62 + 6 * k → r' i = r i) ∨ ¬ r' (56 + 6 * k) = 2
theorem rH0_cg {k : Nat} (hW : xWF r) (hk : k < xnk r) (n3 : xnq r' = xnq r) (ho : r' (56 + 6 * k) = 2 → xop r (r (57 + 6 * k)) → xop r' (r (57 + 6 * k))) (hq : ∀ i, 176 ≤ i → i < 176 + 3 * xnq r → r' i = r i) (hb : (∀ i, 56 + 6 * k ≤ i → i < 62 + 6 * k → r' i = r i) ∨ ¬ r' (56 + 6 * k) = 2) (h : rH0 r k) : rH0 r' k := by
  intro h2
  rcases hb with e | e
  · have h2' : r (56 + 6 * k) = 2 := by rw [← e _ (by omega) (by omega)]; exact h2
    obtain ⟨a, b, q, q1, q2, q3, q4⟩ := h h2'
    rw [e (59 + 6 * k) (by omega) (by omega), e (57 + 6 * k) (by omega) (by omega), e (60 + 6 * k) (by omega) (by omega)]
    exact ⟨a, ho h2 b, q, by rw [n3]; exact q1, by rw [hq _ (by omega) (by omega)]; exact q2, by rw [hq _ (by omega) (by omega)]; exact q3, by rw [hq _ (by omega) (by omega)]; exact q4⟩
  · exact absurd h2 e
theorem rS0_cg (hW : xWF r) (n1 : xnv r' = xnv r) (n2 : xnk r' = xnk r) (n3 : xnq r' = xnq r) (hr : ∀ v, v < xnv r → r' (12 + 11 * v) = r (12 + 11 * v)) (ho : ∀ k, k < xnk r → r' (56 + 6 * k) = 2 → xop r (r (57 + 6 * k)) → xop r' (r (57 + 6 * k))) (hq : ∀ i, 176 ≤ i → i < 176 + 3 * xnq r → r' i = r i) (hb : rBk r r' (xnk r)) (hp : ∀ k v, k < xnk r → v < xnv r → sp_isIn r' 1 k (nI v) → sp_isIn r 1 k (nI v)) (h : rS0 r) : rS0 r' := by
  refine ⟨fun k hk => ?_, fun v hv => ?_⟩
  · rw [n2] at hk
    exact rH0_cg hW hk n3 (ho k hk) hq (hb k hk) (h.1 k hk)
  · rw [n1] at hv
    unfold rV
    rw [n2, hr v hv]
    exact Nat.le_trans (xcnt_imp (fun k hk => hp k v hk hv)) (h.2 v hv)
theorem rSL_cg {n : Nat} (e4 : r' 4 = r 4) (hb : rBk r r' n) (h : rSL r n) : rSL r' n := by
  intro k hk h2
  rcases hb k hk with e | e
  · rw [e4, e _ (by omega) (by omega)]
    exact h k hk (by rw [← e _ (by omega) (by omega)]; exact h2)
  · exact absurd h2 e
/-- a book put anywhere but on hold -/
theorem rBk_put {k n : Nat} {st pl : Int32} (h2 : ¬ st = 2) : rBk r (sp_put r k st pl) n := by
  intro i _
  by_cases e : i = k
  · subst e
    exact Or.inr (by rw [sp_put_0]; exact h2)
  · exact Or.inl (fun x h1 h2 => sp_put_ne (by omega))
theorem rBk_t {r'' : Nat → Int32} {n : Nat} (h : rBk r r' n) (g : rBk r' r'' n) : rBk r r'' n := by
  intro k hk
  rcases g k hk with e | e
  · rcases h k hk with e' | e'
    · exact Or.inl (fun i h1 h2 => (e i h1 h2).trans (e' i h1 h2))
    · exact Or.inr (fun z => e' (by rw [← e _ (by omega) (by omega)]; exact z))
  · exact Or.inr e
theorem rBk_rf {n : Nat} : rBk r r n := fun _ _ => Or.inl (fun _ _ _ => rfl)
theorem put_in {k i v : Nat} {st pl : Int32} (h1 : ¬ st = 1) (h : sp_isIn (sp_put r k st pl) 1 i (nI v)) : sp_isIn r 1 i (nI v) := by
  by_cases e : i = k
  · subst e
    exact absurd (sp_put_0.symm.trans h.1) h1
  · refine ⟨?_, ?_⟩
    · rw [← h.1, sp_put_ne (by omega)]
    · rw [← h.2, sp_put_ne (by omega)]
theorem rS0_put (hW : xWF r) {k : Nat} {st pl : Int32} (hk : k < xnk r) (h1 : ¬ st = 1) (h2 : ¬ st = 2) (h : rS0 r) : rS0 (sp_put r k st pl) := by
  have hk20 := hW.bd.k20
  have hv4 := hW.bd.v4
  have hb6 := hW.bd.b6
  have hh : xhd r (sp_put r k st pl) := fun i hi => sp_put_h (by omega) hi
  refine rS0_cg hW hh.v hh.k hh.q (fun v hv => hh _ (by omega)) (fun i hi _ z => ?_) (fun i h1 _ => hh _ (by omega)) (rBk_put h2) (fun i v _ _ z => put_in h1 z) h
  by_cases h56 : r (56 + 6 * i) = 0 ∨ r (56 + 6 * i) = 2
  · have hp := ((hW.k i hi).2.2.2.1 h56).2
    unfold xop at z ⊢
    rw [hh _ (by omega)]
    exact z
  · -- other states: the place is no branch; it stands on its own number all the same
    unfold xop at z ⊢
    by_cases hlt : 6 + (r (57 + 6 * i)).toNatClampNeg < 56
    · rw [hh _ (by omega)]; exact z
    · exfalso
      obtain ⟨c5, -, -, -, c1, c34, -, -⟩ := hW.k i hi
      have e5 := c5.1
      have l5 := c5.2
      have hs : (r (56 + 6 * i)).toNatClampNeg = 1 ∨ (r (56 + 6 * i)).toNatClampNeg = 3 ∨ (r (56 + 6 * i)).toNatClampNeg = 4 := by
        have : (r (56 + 6 * i)).toNatClampNeg ≠ 0 := fun z => h56 (Or.inl (by rw [e5, z]; exact nI_0))
        have : (r (56 + 6 * i)).toNatClampNeg ≠ 2 := fun z => h56 (Or.inr (by rw [e5, z]; exact o2I))
        omega
      rcases hs with z | z | z
      · have := (c1 (by rw [e5, z]; exact o1I)).2
        omega
      · rw [c34 (Or.inl (by rw [e5, z]; exact o3I))] at hlt
        exact hlt (by decide)
      · rw [c34 (Or.inr (by rw [e5, z]; exact o4I))] at hlt
        exact hlt (by decide)
theorem rS_put (hW : xWF r) {k : Nat} {st pl : Int32} (hk : k < xnk r) (h1 : ¬ st = 1) (h2 : ¬ st = 2) (h : rS r) : rS (sp_put r k st pl) := by
  have hk20 := hW.bd.k20
  have ek : xnk (sp_put r k st pl) = xnk r := by unfold xnk; rw [sp_put_h (by omega) (by omega)]
  refine rS_of (rS0_put hW hk h1 h2 (rS_0 h)) ?_
  rw [ek]
  exact rSL_cg (sp_put_h (by omega) (by omega)) (rBk_put h2) (rS_L h)
/-- a request goes that no held book needs -/
theorem rS0_drop (hW : xWF r) {q : Nat} (hq : q < xnq r) (hne : ∀ k, k < xnk r → r (56 + 6 * k) = 2 → ¬ (r (176 + 3 * q) = nI k ∧ r (177 + 3 * q) = r (60 + 6 * k))) (h : rS0 r) : rS0 (sp_drop r q) := by
  have hk20 := hW.bd.k20
  have hv4 := hW.bd.v4
  have hb6 := hW.bd.b6
  have hq40 := hW.bd.q40
  have e : ∀ i, i ≠ 3 → i < 176 → sp_drop r q i = r i := fun i h3 hi => sp_drop_h h3 hi
  have n1 : xnv (sp_drop r q) = xnv r := by unfold xnv; rw [e 1 (by omega) (by omega)]
  have n2 : xnk (sp_drop r q) = xnk r := by unfold xnk; rw [e 2 (by omega) (by omega)]
  have n3 : xnq (sp_drop r q) = xnq r - 1 := by
    show (sp_drop r q 3).toNatClampNeg = _
    rw [sp_drop_3, nI_clamp (by omega)]
  refine ⟨fun k hk => ?_, fun v hv => ?_⟩
  · rw [n2] at hk
    intro h2
    rw [e _ (by omega) (by omega)] at h2
    obtain ⟨a, b, p, p1, p2, p3, p4⟩ := h.1 k hk h2
    have hpl := ((hW.k k hk).2.2.2.1 (Or.inr h2)).2
    have hpq : p ≠ q := fun z => hne k hk h2 ⟨z ▸ p2, z ▸ p3⟩
    rw [e (59 + 6 * k) (by omega) (by omega), e (57 + 6 * k) (by omega) (by omega), e (60 + 6 * k) (by omega) (by omega), n3]
    refine ⟨a, ?_, if p < q then p else p - 1, ?_, ?_⟩
    · unfold xop at b ⊢
      rw [e _ (by omega) (by omega)]
      exact b
    · split <;> omega
    · have hlt : (if p < q then p else p - 1) < xnq r - 1 := by split <;> omega
      have hx : xsg q (if p < q then p else p - 1) = p := by
        unfold xsg
        by_cases c : p < q
        · rw [if_pos c, if_pos c]
        · rw [if_neg c, if_neg (by omega)]
          omega
      rw [sp_drop_176 hlt, sp_drop_177 hlt, sp_drop_178 hlt, hx]
      exact ⟨p2, p3, p4⟩
  · rw [n1] at hv
    unfold rV
    rw [n2, e _ (by omega) (by omega)]
    refine Nat.le_trans (xcnt_imp (fun k hk z => ?_)) (h.2 v hv)
    exact ⟨by rw [← z.1, e _ (by omega) (by omega)], by rw [← z.2, e _ (by omega) (by omega)]⟩
theorem rBk_drop {q n : Nat} (hn : n ≤ 20) : rBk r (sp_drop r q) n := fun k hk => Or.inl (fun i h1 h2 => sp_drop_h (by omega) (by omega))
theorem rS_drop (hW : xWF r) {q : Nat} (hq : q < xnq r) (hne : ∀ k, k < xnk r → r (56 + 6 * k) = 2 → ¬ (r (176 + 3 * q) = nI k ∧ r (177 + 3 * q) = r (60 + 6 * k))) (h : rS r) : rS (sp_drop r q) := by
  have hk20 := hW.bd.k20
  have ek : xnk (sp_drop r q) = xnk r := by unfold xnk; rw [sp_drop_h (by omega) (by omega)]
  refine rS_of (rS0_drop hW hq hne (rS_0 h)) ?_
  rw [ek]
  exact rSL_cg (sp_drop_h (by omega) (by omega)) (rBk_drop hk20) (rS_L h)
theorem rS_addq (hW : xWF r) {a rd b : Int32} (hn : xnq r < 40) (h : rS r) : rS (sp_addq r a rd b) := by
  have hk20 := hW.bd.k20
  have hv4 := hW.bd.v4
  have hb6 := hW.bd.b6
  have e : ∀ i, i ≠ 3 → i < 176 + 3 * xnq r → sp_addq r a rd b i = r i := fun i h3 hi => by
    unfold sp_addq
    rw [upd_o h3, upd_o (by omega), upd_o (by omega), upd_o (by omega)]
  have n1 : xnv (sp_addq r a rd b) = xnv r := by unfold xnv; rw [e 1 (by omega) (by omega)]
  have n2 : xnk (sp_addq r a rd b) = xnk r := by unfold xnk; rw [e 2 (by omega) (by omega)]
  have n3 : xnq (sp_addq r a rd b) = xnq r + 1 := by
    have e3 : sp_addq r a rd b 3 = nI (xnq r + 1) := by
      unfold sp_addq
      exact if_pos rfl
    show (sp_addq r a rd b 3).toNatClampNeg = _
    rw [e3, nI_clamp (by omega)]
  refine ⟨fun k hk => ?_, fun v hv => ?_⟩
  · rw [n2] at hk
    intro h2
    rw [e _ (by omega) (by omega)] at h2
    obtain ⟨a1, b1, l1, p, p1, p2, p3, p4⟩ := h.1 k hk h2
    have hpl := ((hW.k k hk).2.2.2.1 (Or.inr h2)).2
    rw [e (59 + 6 * k) (by omega) (by omega), e (57 + 6 * k) (by omega) (by omega), e (60 + 6 * k) (by omega) (by omega), e (61 + 6 * k) (by omega) (by omega), e 4 (by omega) (by omega), n3]
    refine ⟨a1, ?_, l1, p, by omega, by rw [e _ (by omega) (by omega)]; exact p2, by rw [e _ (by omega) (by omega)]; exact p3, by rw [e _ (by omega) (by omega)]; exact p4⟩
    unfold xop at b1 ⊢
    rw [e _ (by omega) (by omega)]
    exact b1
  · rw [n1] at hv
    unfold rV
    rw [n2, e _ (by omega) (by omega)]
    refine Nat.le_trans (xcnt_imp (fun k hk z => ?_)) (h.2 v hv)
    exact ⟨by rw [← z.1, e _ (by omega) (by omega)], by rw [← z.2, e _ (by omega) (by omega)]⟩
/-- the number of one book that is not held changes -/
theorem rS_59 (hW : xWF r) {k : Nat} {y : Int32} (hk : k < xnk r) (h0 : ¬ r (56 + 6 * k) = 2) (h : rS r) : rS (upd r (59 + 6 * k) y) := by
  have hk20 := hW.bd.k20
  have hv4 := hW.bd.v4
  have hb6 := hW.bd.b6
  have e : ∀ i, i ≠ 59 + 6 * k → upd r (59 + 6 * k) y i = r i := fun i hi => zun hi
  have n2 : xnk (upd r (59 + 6 * k) y) = xnk r := by unfold xnk; rw [e 2 (by omega)]
  have bk : rBk r (upd r (59 + 6 * k) y) (xnk r) := by
    intro i hi
    by_cases ei : i = k
    · subst ei
      exact Or.inr (by rw [e _ (by omega)]; exact h0)
    · exact Or.inl (fun x h1 h2 => e _ (by omega))
  refine rS_of (rS0_cg hW (by unfold xnv; rw [e 1 (by omega)]) n2 (by unfold xnq; rw [e 3 (by omega)]) (fun v hv => e _ (by omega)) (fun i hi h2 z => ?_) (fun i h1 _ => e _ (by omega)) bk (fun i v _ _ z => ⟨by rw [← z.1, e _ (by omega)], by rw [← z.2, e _ (by omega)]⟩) (rS_0 h)) ?_
  · rw [e _ (by omega)] at h2
    have hp := ((hW.k i hi).2.2.2.1 (Or.inr h2)).2
    unfold xop at z ⊢
    rw [e _ (by omega)]
    exact z
  · rw [n2]
    exact rSL_cg (e 4 (by omega)) bk (rS_L h)
theorem rS_60 (hW : xWF r) {k : Nat} {y : Int32} (hk : k < xnk r) (h0 : ¬ r (56 + 6 * k) = 2) (h : rS r) : rS (upd r (60 + 6 * k) y) := by
  have hk20 := hW.bd.k20
  have hv4 := hW.bd.v4
  have hb6 := hW.bd.b6
  have e : ∀ i, i ≠ 60 + 6 * k → upd r (60 + 6 * k) y i = r i := fun i hi => zun hi
  have n2 : xnk (upd r (60 + 6 * k) y) = xnk r := by unfold xnk; rw [e 2 (by omega)]
  have bk : rBk r (upd r (60 + 6 * k) y) (xnk r) := by
    intro i hi
    by_cases ei : i = k
    · subst ei
      exact Or.inr (by rw [e _ (by omega)]; exact h0)
    · exact Or.inl (fun x h1 h2 => e _ (by omega))
  refine rS_of (rS0_cg hW (by unfold xnv; rw [e 1 (by omega)]) n2 (by unfold xnq; rw [e 3 (by omega)]) (fun v hv => e _ (by omega)) (fun i hi h2 z => ?_) (fun i h1 _ => e _ (by omega)) bk (fun i v _ _ z => ⟨by rw [← z.1, e _ (by omega)], by rw [← z.2, e _ (by omega)]⟩) (rS_0 h)) ?_
  · rw [e _ (by omega)] at h2
    have hp := ((hW.k i hi).2.2.2.1 (Or.inr h2)).2
    unfold xop at z ⊢
    rw [e _ (by omega)]
    exact z
  · rw [n2]
    exact rSL_cg (e 4 (by omega)) bk (rS_L h)
/-- a number of the row's head that says neither rooms nor books nor requests -/
theorem rS0_head (hW : xWF r) {j : Nat} {y : Int32} (hj : j = 4 ∨ j = 5 ∨ (∃ v, v < 4 ∧ j = 14 + 11 * v) ∨ ((∃ b, b < 6 ∧ j = 6 + b) ∧ y = 1)) (h : rS0 r) : rS0 (upd r j y) := by
  have hk20 := hW.bd.k20
  have hv4 := hW.bd.v4
  have hb6 := hW.bd.b6
  have e : ∀ i, i ≠ j → upd r j y i = r i := fun i hi => zun hi
  have hj1 : j < 56 ∧ j ≠ 1 ∧ j ≠ 2 ∧ j ≠ 3 ∧ ∀ v, v < 4 → j ≠ 12 + 11 * v := by
    rcases hj with z | z | ⟨v, z1, z⟩ | ⟨⟨b, z1, z⟩, -⟩
    · subst z; exact ⟨by omega, by omega, by omega, by omega, fun v _ => by omega⟩
    · subst z; exact ⟨by omega, by omega, by omega, by omega, fun v _ => by omega⟩
    · subst z; exact ⟨by omega, by omega, by omega, by omega, fun v _ => by omega⟩
    · subst z; exact ⟨by omega, by omega, by omega, by omega, fun v _ => by omega⟩
  refine rS0_cg hW (by unfold xnv; rw [e 1 (by omega)]) (by unfold xnk; rw [e 2 (by omega)]) (by unfold xnq; rw [e 3 (by omega)]) (fun v hv => e _ (Ne.symm (hj1.2.2.2.2 v (by omega)))) (fun i hi h2 z => ?_) (fun i h1 _ => e _ (by omega)) (fun i hi => Or.inl (fun x h1 h2 => e _ (by omega))) (fun i v _ _ z => ⟨by rw [← z.1, e _ (by omega)], by rw [← z.2, e _ (by omega)]⟩) h
  rw [e _ (by omega)] at h2
  have hp := ((hW.k i hi).2.2.2.1 (Or.inr h2)).2
  unfold xop at z ⊢
  by_cases ej : 6 + (r (57 + 6 * i)).toNatClampNeg = j
  · rcases hj with z' | z' | ⟨v, z1, z'⟩ | ⟨-, z'⟩
    · omega
    · omega
    · omega
    · rw [ej, zu1]; exact z'
  · rw [e _ ej]; exact z
end RS
