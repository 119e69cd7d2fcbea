/-! THE REFERENCE: a tick -/
theorem xWF_time {r : Nat → Int32} {x : Int32} (h : xWF r) (hx : xil x 20000) : xWF (upd r 4 x) := by
  have hv4 := h.bd.v4
  have e : ∀ i, i ≠ 4 → upd r 4 x i = r i := fun i hi => if_neg hi
  have e0 : xnb (upd r 4 x) = xnb r := by unfold xnb; rw [e 0 (by omega)]
  have e1 : xnv (upd r 4 x) = xnv r := by unfold xnv; rw [e 1 (by omega)]
  have e2 : xnk (upd r 4 x) = xnk r := by unfold xnk; rw [e 2 (by omega)]
  have e3 : xnq (upd r 4 x) = xnq r := by unfold xnq; rw [e 3 (by omega)]
  refine ⟨?_, ?_, ?_, ?_, ?_, ?_⟩
  · unfold xBd
    rw [e0, e1, e2, e3, e 0 (by omega), e 1 (by omega), e 2 (by omega), e 3 (by omega)]
    exact h.bd
  · unfold xWn
    rw [e0, e1, zu1, e 5 (by omega)]
    exact ⟨h.n.1, h.n.2.1, hx, h.n.2.2.2⟩
  · intro b hb6
    rw [e (6 + b) (by omega)]
    exact h.o b hb6
  · intro v hv
    rw [e1] at hv
    obtain ⟨a1, a2, a3, a4, a5⟩ := h.v v hv
    unfold xst at *
    rw [e (12 + 11 * v) (by omega), e (13 + 11 * v) (by omega), e (14 + 11 * v) (by omega), e0]
    refine ⟨a1, a2, a3, a4, fun s hs => ?_⟩
    rw [e (15 + 11 * v + s) (by omega)]
    exact a5 s hs
  · intro k hk
    rw [e2] at hk
    have c := h.k k hk
    rw [e0, e1, e3, e (56 + 6 * k) (by omega), e (57 + 6 * k) (by omega), e (58 + 6 * k) (by omega), e (59 + 6 * k) (by omega), e (60 + 6 * k) (by omega)]
    refine ⟨c.1, c.2.1, c.2.2.1, c.2.2.2.1, c.2.2.2.2.1, c.2.2.2.2.2.1, fun z => ?_, c.2.2.2.2.2.2.2⟩
    obtain ⟨q, q1, q2, q3⟩ := c.2.2.2.2.2.2.1 z
    refine ⟨q, q1, ?_, ?_⟩
    · rw [e (176 + 3 * q) (by omega)]; exact q2
    · rw [e (177 + 3 * q) (by omega)]; exact q3
  · unfold xWq
    rw [e3, e2, e0]
    refine ⟨fun q hq => ?_, fun p q hp hq => ?_⟩
    · rw [e (176 + 3 * q) (by omega), e (177 + 3 * q) (by omega), e (178 + 3 * q) (by omega)]
      exact h.q.1 q hq
    · rw [e (176 + 3 * q) (by omega), e (177 + 3 * q) (by omega), e (176 + 3 * p) (by omega), e (177 + 3 * p) (by omega)]
      exact h.q.2 p q hp hq
/-- the same counts of vans, books, branches -/
def xct (r r' : Nat → Int32) : Prop := r' 0 = r 0 ∧ r' 1 = r 1 ∧ r' 2 = r 2
theorem xct.b {r r' : Nat → Int32} (h : xct r r') : xnb r' = xnb r := by unfold xnb; rw [h.1]
theorem xct.v {r r' : Nat → Int32} (h : xct r r') : xnv r' = xnv r := by unfold xnv; rw [h.2.1]
theorem xct.k {r r' : Nat → Int32} (h : xct r r') : xnk r' = xnk r := by unfold xnk; rw [h.2.2]
theorem xct_t {r r' r'' : Nat → Int32} (h : xct r r') (g : xct r' r'') : xct r r'' := ⟨g.1.trans h.1, g.2.1.trans h.2.1, g.2.2.trans h.2.2⟩
theorem xct_h {r r' : Nat → Int32} (h : xhd r r') : xct r r' := ⟨h 0 (by omega), h 1 (by omega), h 2 (by omega)⟩
theorem sp_drive_ok {f : Nat → Int32} {v : Nat} {u : (Nat → Int32) × (Nat → Int32)} (hW : xWF u.1) (hv : v < xnv u.1) : xWF (sp_drive f v u).1 ∧ xct u.1 (sp_drive f v u).1 := by
  obtain ⟨r, j⟩ := u
  obtain ⟨p1, p2, p3, p4, p5⟩ := hW.v v hv
  have h9 := hW.st9 hv
  have hv4 := hW.bd.v4
  have hm : ((r (14 + 11 * v)).toNatClampNeg + 1) % xst r v < xst r v := Nat.mod_lt _ (by have : 2 ≤ xst r v := p3; omega)
  have hbr := p5 _ hm
  unfold sp_drive sp_at1
  dsimp only at *
  generalize ((r (14 + 11 * v)).toNatClampNeg + 1) % xst r v = m at *
  have hW1 : xWF (upd r (14 + 11 * v) (nI m)) := xWF_at hW hv (xil_nI hm (by omega))
  have en : ∀ i, i ≠ 14 + 11 * v → upd r (14 + 11 * v) (nI m) i = r i := fun i hi => if_neg hi
  have ec : xct r (upd r (14 + 11 * v) (nI m)) := ⟨en 0 (by omega), en 1 (by omega), en 2 (by omega)⟩
  split
  · obtain ⟨g1, g2⟩ := @sp_unl_ok f (upd r (14 + 11 * v) (nI m)) j v (r (15 + 11 * v + m)) hW1 (by rw [ec.b]; exact hbr) (xnk r) (by rw [ec.k]; exact Nat.le_refl _)
    obtain ⟨k1, k2⟩ := @sp_takeU_ok f (sp_unl f v (r (15 + 11 * v + m)) (upd r (14 + 11 * v) (nI m), j) (xnk r)).2 _ v (r (15 + 11 * v + m)) g1 (by rw [g2.v, ec.v]; exact hv) 3
    exact ⟨k1, xct_t ec (xct_t (xct_h g2) (xct_h k2))⟩
  · exact ⟨hW1, ec⟩
theorem sp_exp_ct {r : Nat → Int32} {k : Nat} (hk : k < 20) : xct r (sp_exp k r) := by
  unfold sp_exp
  split
  · split
    · refine ⟨?_, ?_, ?_⟩ <;> rw [sp_drop_h (by omega) (by omega), sp_put_h hk (by omega)]
    · exact ⟨rfl, rfl, rfl⟩
  · exact ⟨rfl, rfl, rfl⟩
theorem sp_settle_ok {k : Nat} {u : (Nat → Int32) × Int32} (hW : xWF u.1) (hk : k < xnk u.1) : xWF (sp_settle k u).1 ∧ xct u.1 (sp_settle k u).1 := by
  have hk20 := hW.bd.k20
  unfold sp_settle
  split
  · next h0 =>
    obtain ⟨h1, h2⟩ := sp_set1_ok hW hk
    have c1 : xct u.1 (sp_set1 k u.1) := ⟨h2 0 (by omega), h2 1 (by omega), h2 2 (by omega)⟩
    unfold sp_set2
    split
    · next q hq =>
      obtain ⟨q1, q2⟩ := sp_want_lt hq
      split
      · obtain ⟨g1, g2⟩ := sp_hold_ok h1 (by rw [c1.k]; exact hk) q1 q2 (by rw [h2 _ (by omega)]; exact h0)
        exact ⟨g1, xct_t c1 ⟨g2 0 (by omega), g2 1 (by omega), g2 2 (by omega)⟩⟩
      · exact ⟨h1, c1⟩
    · exact ⟨h1, c1⟩
  · exact ⟨hW, rfl, rfl, rfl⟩
def sp_t2 (f : Nat → Int32) (u : (Nat → Int32) × (Nat → Int32)) (n : Nat) : (Nat → Int32) × (Nat → Int32) := xfold (fun v u => sp_drive f v u) u n
def sp_t3 (r : Nat → Int32) (n : Nat) : Nat → Int32 := xfold (fun k r => sp_exp k r) r n
def sp_t4 (u : (Nat → Int32) × Int32) (n : Nat) : (Nat → Int32) × Int32 := xfold (fun k u => sp_settle k u) u n
theorem sp_t2_ok {f : Nat → Int32} {u : (Nat → Int32) × (Nat → Int32)} (hW : xWF u.1) : ∀ n, n ≤ xnv u.1 → xWF (sp_t2 f u n).1 ∧ xct u.1 (sp_t2 f u n).1 := by
  intro n
  induction n with
  | zero => intro _; exact ⟨hW, rfl, rfl, rfl⟩
  | succ n ih =>
    intro hn
    obtain ⟨h1, h2⟩ := ih (by omega)
    obtain ⟨g1, g2⟩ := @sp_drive_ok f n (sp_t2 f u n) h1 (by rw [h2.v]; omega)
    exact ⟨g1, xct_t h2 g2⟩
theorem sp_t3_ok {r : Nat → Int32} (hW : xWF r) : ∀ n, n ≤ xnk r → xWF (sp_t3 r n) ∧ xct r (sp_t3 r n) := by
  have hk20 := hW.bd.k20
  intro n
  induction n with
  | zero => intro _; exact ⟨hW, rfl, rfl, rfl⟩
  | succ n ih =>
    intro hn
    obtain ⟨h1, h2⟩ := ih (by omega)
    exact ⟨(sp_exp_ok h1 (k := n) (by rw [h2.k]; omega)).1, xct_t h2 (sp_exp_ct (by omega))⟩
theorem sp_t4_ok {u : (Nat → Int32) × Int32} (hW : xWF u.1) : ∀ n, n ≤ xnk u.1 → xWF (sp_t4 u n).1 ∧ xct u.1 (sp_t4 u n).1 := by
  intro n
  induction n with
  | zero => intro _; exact ⟨hW, rfl, rfl, rfl⟩
  | succ n ih =>
    intro hn
    obtain ⟨h1, h2⟩ := ih (by omega)
    obtain ⟨g1, g2⟩ := @sp_settle_ok n (sp_t4 u n) h1 (by rw [h2.k]; omega)
    exact ⟨g1, xct_t h2 g2⟩
