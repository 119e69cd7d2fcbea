/-! THE REFERENCE: what a question keeps; ticks one behind another -/
/-- the reference's scratch may differ -/
def xKp (w w' : xW) : Prop := (∀ g, g ≠ 3 → w' g = w g) ∧ (∀ i, i ≠ 2 → i ≠ 4 → (w' 3).1 i = (w 3).1 i) ∧ (∀ a, a ≠ 0 → a ≠ 2 → a ≠ 5 → a ≠ 6 → (w' 3).2 a = (w 3).2 a) ∧ ∀ i, i < 296 → (w' 3).2 0 i = (w 3).2 0 i
theorem xKp_rfl {w : xW} : xKp w w := ⟨fun _ _ => rfl, fun _ _ _ => rfl, fun _ _ _ _ _ => rfl, fun _ _ => rfl⟩
theorem xKp_t {w w' w'' : xW} (h : xKp w w') (g : xKp w' w'') : xKp w w'' := ⟨fun i hi => (g.1 i hi).trans (h.1 i hi), fun i h1 h2 => (g.2.1 i h1 h2).trans (h.2.1 i h1 h2), fun a h1 h2 h3 h4 => (g.2.2.1 a h1 h2 h3 h4).trans (h.2.2.1 a h1 h2 h3 h4), fun i hi => (g.2.2.2 i hi).trans (h.2.2.2 i hi)⟩
theorem xKp_T {w : xW} {x : Int32} : xKp w (xT w x) := by
  unfold xT
  refine ⟨fun g hg => xu_ne hg, fun i h1 h2 => ?_, fun a _ _ _ _ => ?_, fun i hi => ?_⟩ <;> rw [xu_same]
  · exact if_neg h1
  · rfl
  · rfl
theorem xT_2 {w : xW} {x : Int32} : (xT w x 3).1 2 = x := by
  unfold xT
  rw [xu_same]
  rfl
theorem xKp_M {w : xW} {r f j : Nat → Int32} (h0 : xri (w 3) = 0) (hr : ∀ i, i < 296 → r i = xR w i) : xKp w (xMw w r f j) := by
  unfold xMw
  refine ⟨fun g hg => xu_ne hg, fun i h1 h2 => ?_, fun a h1 h2 h3 h4 => ?_, fun i hi => ?_⟩ <;> rw [xu_same]
  · rfl
  · show (if a = 6 then j else if a = 5 then f else if a = xri (w 3) then r else (w 3).2 a) = _
    rw [if_neg h4, if_neg h3, if_neg (by omega)]
  · show (if 0 = 6 then j else if 0 = 5 then f else if 0 = xri (w 3) then r else (w 3).2 0) i = _
    rw [if_neg (by omega), if_neg (by omega), if_pos h0.symm, hr i hi]
    unfold xR
    rw [h0]
theorem xKp_Hs {w : xW} {x : Int32} : xKp w (xHs w x) := by
  unfold xHs
  refine ⟨fun g hg => xu_ne hg, fun i h1 h2 => ?_, fun a _ _ _ _ => ?_, fun i hi => ?_⟩ <;> rw [xu_same]
  · exact if_neg h2
  · rfl
  · rfl
theorem xMw_2 {w : xW} {r f j : Nat → Int32} {i : Nat} : (xMw w r f j 3).1 i = (w 3).1 i := by rw [xMw_3]; rfl
theorem xHs_2 {w : xW} {x : Int32} {i : Nat} (h : i ≠ 4) : (xHs w x 3).1 i = (w 3).1 i := by
  unfold xHs
  rw [xu_same]
  exact if_neg h
theorem xem_M {w : xW} {l : Nat → Nat → Int64} {t : Nat} : xem w l t = xem (xMw w (xR w) (xF w) (xJ w)) l t := by rw [xMw_self]
theorem xHs_H {w : xW} : xHs w (xH w) = w := by
  unfold xHs
  have : xs1 (w 3) 4 (xH w) = w 3 := by
    refine Prod.ext ?_ rfl
    funext a
    show (if a = 4 then (w 3).1 4 else (w 3).1 a) = _
    split
    · next h => rw [h]
    · rfl
  rw [this, xu_self]
/-- the head of a row stays -/
theorem sp_drive_h {f : Nat → Int32} {v : Nat} {u : (Nat → Int32) × (Nat → Int32)} (hW : xWF u.1) (hv : v < xnv u.1) {i : Nat} (hi : i < 12) : (sp_drive f v u).1 i = u.1 i := by
  obtain ⟨r, j⟩ := u
  obtain ⟨p1, p2, p3, p4, p5⟩ := hW.v v hv
  have h9 := hW.st9 hv
  have hv4 := hW.bd.v4
  have hm : ((r (14 + 11 * v)).toNatClampNeg + 1) % xst r v < xst r v := Nat.mod_lt _ (by have : 2 ≤ xst r v := p3; omega)
  have hbr := p5 _ hm
  unfold sp_drive sp_at1
  dsimp only at *
  generalize ((r (14 + 11 * v)).toNatClampNeg + 1) % xst r v = m at *
  have hW1 : xWF (upd r (14 + 11 * v) (nI m)) := xWF_at hW hv (xil_nI hm (by omega))
  have en : ∀ i, i ≠ 14 + 11 * v → upd r (14 + 11 * v) (nI m) i = r i := fun i hi => if_neg hi
  have ec : xct r (upd r (14 + 11 * v) (nI m)) := ⟨en 0 (by omega), en 1 (by omega), en 2 (by omega)⟩
  split
  · obtain ⟨g1, g2⟩ := @sp_unl_ok f (upd r (14 + 11 * v) (nI m)) j v (r (15 + 11 * v + m)) hW1 (by rw [ec.b]; exact hbr) (xnk r) (by rw [ec.k]; exact Nat.le_refl _)
    obtain ⟨k1, k2⟩ := @sp_takeU_ok f (sp_unl f v (r (15 + 11 * v + m)) (upd r (14 + 11 * v) (nI m), j) (xnk r)).2 _ v (r (15 + 11 * v + m)) g1 (by rw [g2.v, ec.v]; exact hv) 3
    exact (k2 i (by omega)).trans ((g2 i (by omega)).trans (en i (by omega)))
  · exact en i (by omega)
theorem sp_exp_h {r : Nat → Int32} {k i : Nat} (hk : k < 20) (h3 : i ≠ 3) (hi : i < 12) : sp_exp k r i = r i := by
  unfold sp_exp
  split
  · cases sp_by r (nI k) (r (60 + 6 * k)) with
    | some q =>
      show sp_drop (sp_put r k 0 (r (57 + 6 * k))) q i = r i
      rw [sp_drop_h h3 (by omega), sp_put_h hk (by omega)]
    | none => rfl
  · rfl
theorem sp_settle_h {k i : Nat} {u : (Nat → Int32) × Int32} (hW : xWF u.1) (hk : k < xnk u.1) (hi : i < 12) : (sp_settle k u).1 i = u.1 i := by
  have hk20 := hW.bd.k20
  unfold sp_settle
  split
  · next h0 =>
    obtain ⟨h1, h2⟩ := sp_set1_ok hW hk
    have c1 : xct u.1 (sp_set1 k u.1) := ⟨h2 0 (by omega), h2 1 (by omega), h2 2 (by omega)⟩
    unfold sp_set2
    split
    · next q hq =>
      obtain ⟨q1, q2⟩ := sp_want_lt hq
      split
      · obtain ⟨g1, g2⟩ := sp_hold_ok h1 (by rw [c1.k]; exact hk) q1 q2 (by rw [h2 _ (by omega)]; exact h0)
        exact (g2 i (by omega)).trans (h2 i (by omega))
      · exact h2 i (by omega)
    · exact h2 i (by omega)
  · rfl
theorem sp_t2_h {f : Nat → Int32} {u : (Nat → Int32) × (Nat → Int32)} (hW : xWF u.1) {i : Nat} (hi : i < 12) : ∀ n, n ≤ xnv u.1 → (sp_t2 f u n).1 i = u.1 i := by
  intro n
  induction n with
  | zero => intro _; rfl
  | succ n ih =>
    intro hn
    obtain ⟨h1, h2⟩ := @sp_t2_ok f u hW n (by omega)
    exact (sp_drive_h h1 (by rw [h2.v]; omega) hi).trans (ih (by omega))
theorem sp_t3_h {r : Nat → Int32} (hW : xWF r) {i : Nat} (h3 : i ≠ 3) (hi : i < 12) : ∀ n, n ≤ xnk r → sp_t3 r n i = r i := by
  have hk20 := hW.bd.k20
  intro n
  induction n with
  | zero => intro _; rfl
  | succ n ih =>
    intro hn
    exact (sp_exp_h (k := n) (by omega) h3 hi).trans (ih (by omega))
theorem sp_t4_h {u : (Nat → Int32) × Int32} (hW : xWF u.1) {i : Nat} (hi : i < 12) : ∀ n, n ≤ xnk u.1 → (sp_t4 u n).1 i = u.1 i := by
  intro n
  induction n with
  | zero => intro _; rfl
  | succ n ih =>
    intro hn
    obtain ⟨h1, h2⟩ := @sp_t4_ok u hW n (by omega)
    exact (sp_settle_h h1 (by rw [h2.k]; omega) hi).trans (ih (by omega))
theorem sp_tick_ok {f r j : Nat → Int32} {h : Int32} (hW : xWF r) (ht : xil (r 4 + 1) 20000) : xWF (sp_tick f r j h).1 ∧ (sp_tick f r j h).1 4 = r 4 + 1 ∧ ∀ i, i < 12 → i ≠ 3 → i ≠ 4 → (sp_tick f r j h).1 i = r i := by
  have hW1 := xWF_time hW ht
  have c1 : xct r (upd r 4 (r 4 + 1)) := ⟨zun (by omega), zun (by omega), zun (by omega)⟩
  have e4 : upd r 4 (r 4 + 1) 4 = r 4 + 1 := zu1
  have eo : ∀ i, i ≠ 4 → upd r 4 (r 4 + 1) i = r i := fun i hi => zun hi
  unfold sp_tick
  generalize upd r 4 (r 4 + 1) = r1 at *
  generalize sp_far r1 f = f1 at *
  obtain ⟨hW2, c2⟩ := @sp_t2_ok f1 (r1, j) hW1 (xnv r1) (Nat.le_refl _)
  have g2 := fun i hi => @sp_t2_h f1 (r1, j) hW1 i hi (xnv r1) (Nat.le_refl _)
  rw [c1.v] at hW2 c2 g2
  generalize sp_t2 f1 (r1, j) (xnv r) = u2 at *
  have c2' := xct_t c1 c2
  obtain ⟨hW3, c3⟩ := @sp_t3_ok u2.1 hW2 (xnk u2.1) (Nat.le_refl _)
  have g3 := fun i h3 hi => @sp_t3_h u2.1 hW2 i h3 hi (xnk u2.1) (Nat.le_refl _)
  rw [c2'.k] at hW3 c3 g3
  have c3' := xct_t c2' c3
  obtain ⟨hW4, c4⟩ := @sp_t4_ok (sp_t3 u2.1 (xnk r), h) hW3 (xnk (sp_t3 u2.1 (xnk r))) (Nat.le_refl _)
  have g4 := fun i hi => @sp_t4_h (sp_t3 u2.1 (xnk r), h) hW3 i hi (xnk (sp_t3 u2.1 (xnk r))) (Nat.le_refl _)
  rw [c3'.k] at hW4 g4
  refine ⟨hW4, ?_, fun i hi h3 h4 => ?_⟩
  · rw [g4 4 (by omega)]
    dsimp only
    rw [g3 4 (by omega) (by omega), g2 4 (by omega)]
    exact e4
  · rw [g4 i hi]
    dsimp only
    rw [g3 i h3 hi, g2 i hi]
    exact eo i h4
/-- row, legs, who has just left, how many are held anew -/
abbrev xU : Type := (Nat → Int32) × (Nat → Int32) × (Nat → Int32) × Int32
def sp_u1 (u : xU) : xU := ((sp_tick u.2.1 u.1 u.2.2.1 u.2.2.2).1, sp_far (upd u.1 4 (u.1 4 + 1)) u.2.1, sp_tickJ u.2.1 u.1 u.2.2.1, (sp_tick u.2.1 u.1 u.2.2.1 u.2.2.2).2)
def sp_us (u : xU) (n : Nat) : xU := xfold (fun _ u => sp_u1 u) u n
theorem sp_us_ok {u : xU} {c : Nat} (hW : xWF u.1) (hc : u.1 4 = nI c) : ∀ n, c + n < 20000 → xWF (sp_us u n).1 ∧ (sp_us u n).1 4 = nI (c + n) ∧ ∀ i, i < 12 → i ≠ 3 → i ≠ 4 → (sp_us u n).1 i = u.1 i := by
  intro n
  induction n with
  | zero => intro _; exact ⟨hW, hc, fun _ _ _ _ => rfl⟩
  | succ n ih =>
    intro hn
    obtain ⟨h1, h2, h3⟩ := ih (by omega)
    have ht : xil ((sp_us u n).1 4 + 1) 20000 := by
      rw [h2, zS]
      exact xil_nI (by omega) (by omega)
    obtain ⟨g1, g2, g3⟩ := @sp_tick_ok (sp_us u n).2.1 (sp_us u n).1 (sp_us u n).2.2.1 (sp_us u n).2.2.2 h1 ht
    refine ⟨g1, ?_, fun i hi e3 e4 => (g3 i hi e3 e4).trans (h3 i hi e3 e4)⟩
    show (sp_tick (sp_us u n).2.1 (sp_us u n).1 (sp_us u n).2.2.1 (sp_us u n).2.2.2).1 4 = _
    rw [g2, h2, zS]
    rfl
def xMu (w : xW) (u : xU) : xW := xMw (xHs w u.2.2.2) u.1 u.2.1 u.2.2.1
def xMe (w : xW) : xU := (xR w, xF w, xJ w, xH w)
theorem xMu_e {w : xW} : xMu w (xMe w) = w := by
  unfold xMu xMe
  rw [xHs_H, xMw_self]
theorem xR_u {w : xW} {u : xU} : xR (xMu w u) = u.1 := xR_M
section SG
variable {w : xW} {l : Nat → Nat → Int64} {t : Nat} {sc : xm_Sc} {d : Nat}
end SG
