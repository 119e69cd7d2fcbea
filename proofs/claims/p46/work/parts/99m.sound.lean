/-! SOUND ROWS: the counts, what is held -/
def sumN (f : Nat → Nat) : Nat → Nat
  | 0 => 0
  | n + 1 => sumN f n + f n
theorem sumN_one {f g : Nat → Nat} {v : Nat} : ∀ m, (∀ i, i < m → g i = f i + if i = v then 1 else 0) → sumN g m = sumN f m + if v < m then 1 else 0 := by
  intro m
  induction m with
  | zero => intro _; rfl
  | succ m ih =>
    intro h
    show sumN g m + g m = sumN f m + f m + _
    rw [ih (fun i hi => h i (by omega)), h m (by omega)]
    by_cases e : m = v
    · subst e
      rw [if_neg (Nat.lt_irrefl m), if_pos rfl, if_pos (Nat.lt_succ_self m)]
      omega
    · rw [if_neg e]
      by_cases e2 : v < m
      · rw [if_pos e2, if_pos (by omega)]
        omega
      · rw [if_neg e2, if_neg (by omega)]
        omega
theorem sumN_same {f g : Nat → Nat} : ∀ m, (∀ i, i < m → g i = f i) → sumN g m = sumN f m := by
  intro m
  induction m with
  | zero => intro _; rfl
  | succ m ih =>
    intro h
    show sumN g m + g m = sumN f m + f m
    rw [ih (fun i hi => h i (by omega)), h m (by omega)]
theorem sumN_0 {f : Nat → Nat} : ∀ m, (∀ i, i < m → f i = 0) → sumN f m = 0 := by
  intro m
  induction m with
  | zero => intro _; rfl
  | succ m ih =>
    intro h
    show sumN f m + f m = 0
    rw [ih (fun i hi => h i (by omega)), h m (by omega)]
section SR
variable {r : Nat → Int32}
/-- the books of a state, and of a state at a place -/
def cS (r : Nat → Int32) (st : Int32) (n : Nat) : Nat := xcnt (fun k => r (56 + 6 * k) = st) n
def cP (r : Nat → Int32) (st : Int32) (v n : Nat) : Nat := xcnt (fun k => sp_isIn r st k (nI v)) n
theorem cS_n {st : Int32} : sp_inState r st = nI (cS r st (xnk r)) := xsum_cnt
theorem cP_n {st : Int32} {v : Nat} : sp_booksIn r st (nI v) = nI (cP r st v (xnk r)) := xsum_cnt
theorem cS_s {st : Int32} {n : Nat} : cS r st (n + 1) = cS r st n + if r (56 + 6 * n) = st then 1 else 0 := by
  unfold cS
  rw [xcnt_s]
  split <;> rfl
theorem cP_s {st : Int32} {v n : Nat} : cP r st v (n + 1) = cP r st v n + if sp_isIn r st n (nI v) then 1 else 0 := by
  unfold cP
  rw [xcnt_s]
  split <;> rfl
def cAll (r : Nat → Int32) (n : Nat) : Nat := cS r 3 n + cS r 4 n + sumN (fun v => cP r 1 v n) (xnv r) + sumN (fun b => cP r 0 b n + cP r 2 b n) (xnb r)
/-- each book is at one place, in one van, with a reader, or lost -/
theorem cAll_n (hW : xWF r) : ∀ n, n ≤ xnk r → cAll r n = n := by
  have hb6 := hW.bd.b6
  have hv4 := hW.bd.v4
  intro n
  induction n with
  | zero =>
    intro _
    unfold cAll
    rw [sumN_0 (f := fun v => cP r 1 v 0) _ (fun i _ => rfl), sumN_0 (f := fun b => cP r 0 b 0 + cP r 2 b 0) _ (fun i _ => rfl)]
    rfl
  | succ n ih =>
    intro hn
    have hi := ih (by omega)
    obtain ⟨h5, -, -, h02, h1, -, -, -⟩ := hW.k n (by omega)
    have e5 := h5.1
    have l5 := h5.2
    unfold cAll at *
    have nv : (∀ v, v < xnv r → ¬ sp_isIn r 1 n (nI v)) → sumN (fun v => cP r 1 v (n + 1)) (xnv r) = sumN (fun v => cP r 1 v n) (xnv r) := fun h => sumN_same _ (fun v hv => by rw [cP_s, if_neg (h v hv)]; rfl)
    have nb : (∀ b, b < xnb r → ¬ sp_isIn r 0 n (nI b) ∧ ¬ sp_isIn r 2 n (nI b)) → sumN (fun b => cP r 0 b (n + 1) + cP r 2 b (n + 1)) (xnb r) = sumN (fun b => cP r 0 b n + cP r 2 b n) (xnb r) := fun h => sumN_same _ (fun b hb => by rw [cP_s, cP_s, if_neg (h b hb).1, if_neg (h b hb).2]; rfl)
    rw [cS_s, cS_s]
    generalize hg : (r (56 + 6 * n)).toNatClampNeg = s at *
    have hs : s = 0 ∨ s = 1 ∨ s = 2 ∨ s = 3 ∨ s = 4 := by omega
    rcases hs with e | e | e | e | e <;> subst e
    · have h0 : r (56 + 6 * n) = 0 := e5.trans nI_0
      obtain ⟨p1, p2⟩ := h02 (Or.inl h0)
      have one := @sumN_one (fun b => cP r 0 b n + cP r 2 b n) (fun b => cP r 0 b (n + 1) + cP r 2 b (n + 1)) (r (57 + 6 * n)).toNatClampNeg (xnb r) (fun b hb => by
        show cP r 0 b (n + 1) + cP r 2 b (n + 1) = cP r 0 b n + cP r 2 b n + _
        rw [cP_s, cP_s, if_neg (c := sp_isIn r 2 n (nI b)) (fun z => absurd (h0.symm.trans z.1) (by decide))]
        by_cases eb : b = (r (57 + 6 * n)).toNatClampNeg
        · rw [if_pos ⟨h0, by rw [eb]; exact p1⟩, if_pos eb]; omega
        · rw [if_neg (fun z => eb (nI_inj (by omega) (by omega) (z.2.symm.trans p1))), if_neg eb]; omega)
      rw [if_pos p2] at one
      rw [one, nv (fun v _ z => absurd (h0.symm.trans z.1) (by decide)), if_neg (by rw [h0]; decide), if_neg (by rw [h0]; decide)]
      omega
    · have h0 : r (56 + 6 * n) = 1 := e5
      obtain ⟨p1, p2⟩ := h1 h0
      have one := @sumN_one (fun v => cP r 1 v n) (fun v => cP r 1 v (n + 1)) (r (57 + 6 * n)).toNatClampNeg (xnv r) (fun v hv => by
        show cP r 1 v (n + 1) = cP r 1 v n + _
        rw [cP_s]
        by_cases eb : v = (r (57 + 6 * n)).toNatClampNeg
        · rw [if_pos ⟨h0, by rw [eb]; exact p1⟩, if_pos eb]
        · rw [if_neg (fun z => eb (nI_inj (by omega) (by omega) (z.2.symm.trans p1))), if_neg eb])
      rw [if_pos p2] at one
      rw [one, nb (fun b _ => ⟨fun z => absurd (h0.symm.trans z.1) (by decide), fun z => absurd (h0.symm.trans z.1) (by decide)⟩), if_neg (by rw [h0]; decide), if_neg (by rw [h0]; decide)]
      omega
    · have h0 : r (56 + 6 * n) = 2 := e5
      obtain ⟨p1, p2⟩ := h02 (Or.inr h0)
      have one := @sumN_one (fun b => cP r 0 b n + cP r 2 b n) (fun b => cP r 0 b (n + 1) + cP r 2 b (n + 1)) (r (57 + 6 * n)).toNatClampNeg (xnb r) (fun b hb => by
        show cP r 0 b (n + 1) + cP r 2 b (n + 1) = cP r 0 b n + cP r 2 b n + _
        rw [cP_s, cP_s, if_neg (c := sp_isIn r 0 n (nI b)) (fun z => absurd (h0.symm.trans z.1) (by decide))]
        by_cases eb : b = (r (57 + 6 * n)).toNatClampNeg
        · rw [if_pos ⟨h0, by rw [eb]; exact p1⟩, if_pos eb]; omega
        · rw [if_neg (fun z => eb (nI_inj (by omega) (by omega) (z.2.symm.trans p1))), if_neg eb]; omega)
      rw [if_pos p2] at one
      rw [one, nv (fun v _ z => absurd (h0.symm.trans z.1) (by decide)), if_neg (by rw [h0]; decide), if_neg (by rw [h0]; decide)]
      omega
    · have h0 : r (56 + 6 * n) = 3 := e5
      rw [nv (fun v _ z => absurd (h0.symm.trans z.1) (by decide)), nb (fun b _ => ⟨fun z => absurd (h0.symm.trans z.1) (by decide), fun z => absurd (h0.symm.trans z.1) (by decide)⟩), if_pos h0, if_neg (by rw [h0]; decide)]
      omega
    · have h0 : r (56 + 6 * n) = 4 := e5
      rw [nv (fun v _ z => absurd (h0.symm.trans z.1) (by decide)), nb (fun b _ => ⟨fun z => absurd (h0.symm.trans z.1) (by decide), fun z => absurd (h0.symm.trans z.1) (by decide)⟩), if_pos h0, if_neg (by rw [h0]; decide)]
      omega
/-- each request is one book's -/
theorem cQ_n (hW : xWF r) : ∀ n, n ≤ xnq r → sumN (fun k => xcnt (fun q => r (176 + 3 * q) = nI k) n) (xnk r) = n := by
  have hk20 := hW.bd.k20
  intro n
  induction n with
  | zero => intro _; exact sumN_0 _ (fun i _ => rfl)
  | succ n ih =>
    intro hn
    obtain ⟨p1, p2⟩ := (hW.q.1 n (by omega)).1
    have one := @sumN_one (fun k => xcnt (fun q => r (176 + 3 * q) = nI k) n) (fun k => xcnt (fun q => r (176 + 3 * q) = nI k) (n + 1)) (r (176 + 3 * n)).toNatClampNeg (xnk r) (fun k hk => by
      show xcnt (fun q => r (176 + 3 * q) = nI k) (n + 1) = xcnt (fun q => r (176 + 3 * q) = nI k) n + _
      rw [xcnt_s]
      by_cases ek : k = (r (176 + 3 * n)).toNatClampNeg
      · rw [if_pos (show r (176 + 3 * n) = nI k by rw [ek]; exact p1), if_pos ek]
      · rw [if_neg (fun z => ek (nI_inj (by omega) (by omega) (z.symm.trans p1))), if_neg ek]; rfl)
    rw [if_pos p2] at one
    rw [one, ih (by omega)]
/-- what is held is held for a request at its branch, not recalled, the branch open, not beyond its limit; no van has more than its room -/
def rH (r : Nat → Int32) (k : Nat) : Prop := r (56 + 6 * k) = 2 → r (59 + 6 * k) = 0 ∧ xop r (r (57 + 6 * k)) ∧ r 4 ≤ r (61 + 6 * k) ∧ ∃ q, q < xnq r ∧ r (176 + 3 * q) = nI k ∧ r (177 + 3 * q) = r (60 + 6 * k) ∧ r (178 + 3 * q) = r (57 + 6 * k)
def rV (r : Nat → Int32) (v : Nat) : Prop := cP r 1 v (xnk r) ≤ (r (12 + 11 * v)).toNatClampNeg
def rS (r : Nat → Int32) : Prop := (∀ k, k < xnk r → rH r k) ∧ ∀ v, v < xnv r → rV r v
theorem xcnt_inj {p : Nat → Prop} [DecidablePred p] {a b : Nat} (ha : p a) (hb : p b) (h : xcnt p a = xcnt p b) : a = b := by
  have mono : ∀ {a b : Nat}, p a → a < b → xcnt p a < xcnt p b := by
    intro a b ha hab
    have h1 := xcnt_mono (p := p) (m := a + 1) (b - (a + 1))
    rw [show a + 1 + (b - (a + 1)) = b by omega, xcnt_s, if_pos ha] at h1
    omega
  by_cases e : a < b
  · have := mono ha e; omega
  · by_cases e2 : b < a
    · have := mono hb e2; omega
    · omega
theorem kD_self (hB : xBd r) {b : Nat} (hb : b < xnb r) : kD r b b = if r (6 + b) = 1 then 0 else -1 := by
  by_cases h : r (6 + b) = 1
  · rw [if_pos h]
    rcases kD_s hB hb hb with ⟨h1, h2⟩ | ⟨n, h0, h1, h2, h3⟩
    · exact absurd (show kWk r 0 b b from ⟨rfl, hb, h⟩) (h2 0)
    · have := h3 0 ⟨rfl, hb, h⟩
      rw [h1, show n = 0 by omega, nI_0]
  · rw [if_neg h]
    rcases kD_s hB hb hb with ⟨h1, h2⟩ | ⟨n, h0, h1, h2, h3⟩
    · exact h1
    · exact absurd (kWk_o h2).1.2 h
/-- the held request of a held book -/
theorem rH_one (hW : xWF r) {k : Nat} (hk : k < xnk r) (h2 : r (56 + 6 * k) = 2) (hH : rH r k) : ∃ q, q < xnq r ∧ r (176 + 3 * q) = nI k ∧ r (177 + 3 * q) = r (60 + 6 * k) ∧ r (178 + 3 * q) = r (57 + 6 * k) ∧ sp_by r (nI k) (r (60 + 6 * k)) = some q ∧ xcnt (fun p => r (176 + 3 * p) = nI k) q < qN r k ∧ ∀ p, p < xnq r → r (176 + 3 * p) = nI k → r (177 + 3 * p) = r (60 + 6 * k) → p = q := by
  obtain ⟨-, -, -, q, q1, q2, q3, q4⟩ := hH h2
  have uq : ∀ p, p < xnq r → r (176 + 3 * p) = nI k → r (177 + 3 * p) = r (60 + 6 * k) → p = q := by
    intro p p1 p2 p3
    by_cases e : p < q
    · exact (hW.q.2 p q e q1 (p2.trans q2.symm) (p3.trans q3.symm)).elim
    · by_cases e2 : q < p
      · exact (hW.q.2 q p e2 p1 (q2.trans p2.symm) (q3.trans p3.symm)).elim
      · omega
  refine ⟨q, q1, q2, q3, q4, ?_, xcnt_kth.mpr ⟨q, q1, q2, rfl⟩, uq⟩
  obtain ⟨p, e, hp⟩ := sp_by_held hW hk h2
  obtain ⟨⟨p1, p2⟩, -⟩ := xfst_some e
  rw [e, uq p hp p1 p2]
/-- of a book's requests the held one alone says so -/
theorem rq_2 (hW : xWF r) {k i : Nat} (hk : k < xnk r) (hi : i < qN r k) (hH : rH r k) : (sp_request r (nI k) (nI i) 2).2 = zB (r (56 + 6 * k) = 2 ∧ ∀ q, sp_by r (nI k) (r (60 + 6 * k)) = some q → xcnt (fun p => r (176 + 3 * p) = nI k) q = i) := by
  obtain ⟨q, q1, q2, q3, e⟩ := rz_ok (x := 2) hW.bd hk hi ⟨by decide, by decide⟩
  rw [e]
  dsimp only
  rw [if_pos rfl]
  by_cases h2 : r (56 + 6 * k) = 2
  · obtain ⟨p, p1, p2, p3, p4, p5, p6, p7⟩ := rH_one hW hk h2 hH
    by_cases c : r (60 + 6 * k) = r (177 + 3 * q)
    · rw [zB_tt ⟨h2, c⟩, zB_tt]
      refine ⟨h2, fun q' e' => ?_⟩
      rw [p5] at e'
      cases e'
      rw [← p7 q q1 q2 c.symm]
      exact q3
    · rw [zB_ff (fun z => c z.2), zB_ff]
      rintro ⟨_, z⟩
      have := xcnt_inj (p := fun p => r (176 + 3 * p) = nI k) p2 q2 ((z p p5).trans q3.symm)
      subst this
      exact c p3.symm
  · rw [zB_ff (fun z => h2 z.1), zB_ff (fun z => h2 z.1)]
/-- how many of the first i requests say that they are held -/
def hU (r : Nat → Int32) (k : Nat) : Nat → Int32
  | 0 => 0
  | i + 1 => hU r k i + (sp_request r (nI k) (nI i) 2).2
theorem hU_n (hW : xWF r) {k : Nat} (hk : k < xnk r) (hH : rH r k) : hU r k (qN r k) = zB (r (56 + 6 * k) = 2) := by
  by_cases h2 : r (56 + 6 * k) = 2
  · obtain ⟨p, p1, p2, p3, p4, p5, p6, p7⟩ := rH_one hW hk h2 hH
    have h : ∀ i, i ≤ qN r k → hU r k i = zB (xcnt (fun p => r (176 + 3 * p) = nI k) p < i) := by
      intro i
      induction i with
      | zero => intro _; exact (zB_ff (Nat.not_lt_zero _)).symm
      | succ i ih =>
        intro hi
        show hU r k i + (sp_request r (nI k) (nI i) 2).2 = _
        rw [ih (by omega), rq_2 hW hk (by omega) hH]
        by_cases c : xcnt (fun p => r (176 + 3 * p) = nI k) p = i
        · rw [zB_ff (by omega), zB_tt (c := (r (56 + 6 * k) = 2 ∧ ∀ q, sp_by r (nI k) (r (60 + 6 * k)) = some q → xcnt (fun p => r (176 + 3 * p) = nI k) q = i)) ⟨h2, fun q e => by rw [p5] at e; cases e; exact c⟩, zB_tt (by omega)]
          rfl
        · rw [zB_ff (c := (r (56 + 6 * k) = 2 ∧ ∀ q, sp_by r (nI k) (r (60 + 6 * k)) = some q → xcnt (fun p => r (176 + 3 * p) = nI k) q = i)) (fun z => c (z.2 p p5))]
          by_cases c2 : xcnt (fun p => r (176 + 3 * p) = nI k) p < i
          · rw [zB_tt c2, zB_tt (by omega)]; rfl
          · rw [zB_ff c2, zB_ff (by omega)]; rfl
    rw [h _ (Nat.le_refl _), zB_tt p6, zB_tt h2]
  · have h : ∀ i, i ≤ qN r k → hU r k i = 0 := by
      intro i
      induction i with
      | zero => intro _; rfl
      | succ i ih =>
        intro hi
        show hU r k i + (sp_request r (nI k) (nI i) 2).2 = _
        rw [ih (by omega), rq_2 hW hk (by omega) hH, zB_ff (fun z => h2 z.1)]
        rfl
    rw [h _ (Nat.le_refl _), zB_ff h2]
end SR
