/-! ROWS of one-digit readers: a tick -/
section RD2
variable {r : Nat → Int32} {f j : Nat → Int32} {v b : Nat}
theorem rD_unl (hW : xWF r) (hb : b < xnb r) (h : rD r) : ∀ n, n ≤ xnk r → rD (sp_unl f v (nI b) (r, j) n).1 := by
  have hb6 := hW.bd.b6
  intro n
  induction n with
  | zero => intro _; exact h
  | succ n ih =>
    intro hn
    obtain ⟨h1, h2⟩ := @sp_unl_ok f r j v (nI b) hW (xil_nI hb (by omega)) n (by omega)
    show rD (sp_unl1 f v (nI b) n (sp_unl f v (nI b) (r, j) n)).1
    unfold sp_unl1
    split
    · exact rD_put h1 (by rw [h2.k]; omega) (by decide) (ih (by omega))
    · exact ih (by omega)
theorem rD_tk {sort : Int32} (hv : v < xnv r) : ∀ m k (u : (Nat → Int32) × Int32), k + m ≤ xnk r → xWF u.1 → xhd r u.1 → rD u.1 → rD (xfm (fun k u => sp_tk1 f j v (nI b) sort k u) k m u).1 := by
  intro m
  induction m with
  | zero => intro k u _ _ _ h; exact h
  | succ m ih =>
    intro k u hk h1 h2 h
    obtain ⟨g1, g2⟩ := @sp_tk1_ok f j r v k (nI b) sort u h1 h2 hv (by omega)
    refine ih (k + 1) _ (by omega) g1 g2 ?_
    show rD (sp_tk1 f j v (nI b) sort k u).1
    unfold sp_tk1
    split
    · exact rD_put h1 (by rw [h2.k]; omega) (by decide) h
    · exact h
theorem rD_take (hW : xWF r) (hv : v < xnv r) (h : rD r) : ∀ s, rD (sp_takeU f j v (nI b) r s).1 := by
  intro s
  induction s with
  | zero => exact h
  | succ s ih =>
    obtain ⟨g1, g2⟩ := @sp_takeU_ok f j r v (nI b) hW hv s
    exact @rD_tk r f j v b (nI s) hv (xnk r) 0 _ (by omega) g1 g2 ih
theorem rD_drive {u : (Nat → Int32) × (Nat → Int32)} (hW : xWF u.1) (hv : v < xnv u.1) (h : rD u.1) : rD (sp_drive f v u).1 := by
  obtain ⟨r, j⟩ := u
  obtain ⟨p1, p2, p3, p4, p5⟩ := hW.v v hv
  have h9 := hW.st9 hv
  have hv4 := hW.bd.v4
  have hm : ((r (14 + 11 * v)).toNatClampNeg + 1) % xst r v < xst r v := Nat.mod_lt _ (by have : 2 ≤ xst r v := p3; omega)
  obtain ⟨b, hb, eb⟩ := kRt_at hW hv hm
  unfold sp_drive sp_at1
  dsimp only at *
  generalize ((r (14 + 11 * v)).toNatClampNeg + 1) % xst r v = m at *
  have hW1 : xWF (upd r (14 + 11 * v) (nI m)) := xWF_at hW hv (xil_nI hm (by omega))
  have en : ∀ i, i ≠ 14 + 11 * v → upd r (14 + 11 * v) (nI m) i = r i := fun i hi => if_neg hi
  have ec : xct r (upd r (14 + 11 * v) (nI m)) := ⟨en 0 (by omega), en 1 (by omega), en 2 (by omega)⟩
  have hS1 : rD (upd r (14 + 11 * v) (nI m)) := rD_upd (by omega) (by omega) (by omega) hW.bd.k20 (fun i _ => ⟨by omega, by omega⟩) h
  split
  · rw [eb]
    obtain ⟨g1, g2⟩ := @sp_unl_ok f (upd r (14 + 11 * v) (nI m)) j v (nI b) hW1 (by rw [ec.b]; exact xil_nI hb (by have := hW.bd.b6; omega)) (xnk r) (by rw [ec.k]; exact Nat.le_refl _)
    have q1 := @rD_unl _ f j v b hW1 (by rw [ec.b]; exact hb) hS1 (xnk r) (by rw [ec.k]; exact Nat.le_refl _)
    exact rD_take g1 (by rw [g2.v, ec.v]; exact hv) q1 3
  · exact hS1
theorem rD_exp (hW : xWF r) {k : Nat} (hk : k < xnk r) (h : rD r) : rD (sp_exp k r) := by
  have hk20 := hW.bd.k20
  unfold sp_exp
  by_cases c : r (56 + 6 * k) = 2 ∧ ¬ r 4 ≤ r (61 + 6 * k)
  · rw [if_pos c]
    obtain ⟨q, e, hq⟩ := sp_by_held hW hk c.1
    rw [e]
    dsimp only
    have h1 := (hW.k k hk).2.2.2.1 (Or.inr c.1)
    have hW1 : xWF (sp_put r k 0 (r (57 + 6 * k))) := xWF_put hW hk (Or.inl ⟨rfl, h1⟩)
    exact rD_drop hW1 (by unfold xnq; rw [sp_put_h (by omega) (by omega)]; exact hq) (rD_put hW hk (by decide) h)
  · rw [if_neg c]
    exact h
theorem rD_settle {u : (Nat → Int32) × Int32} {k : Nat} (hW : xWF u.1) (hk : k < xnk u.1) (h : rD u.1) : rD (sp_settle k u).1 := by
  have hk20 := hW.bd.k20
  unfold sp_settle
  by_cases c : u.1 (56 + 6 * k) = 0
  · rw [if_pos c]
    obtain ⟨w1, w2⟩ := @sp_set1_ok u.1 k hW hk
    have h1 : rD (sp_set1 k u.1) := by
      unfold sp_set1
      split
      · exact rD_59 hk20 hk h
      · exact h
    have k1 : xnk (sp_set1 k u.1) = xnk u.1 := by unfold xnk; rw [w2 _ (by omega)]
    have c1 : sp_set1 k u.1 (56 + 6 * k) = 0 := by rw [w2 _ (by omega)]; exact c
    generalize sp_set1 k u.1 = r1 at *
    unfold sp_set2
    split
    · next q e =>
      by_cases c5 : r1 (178 + 3 * q) = r1 (57 + 6 * k)
      · rw [if_pos c5]
        obtain ⟨hq, hb⟩ := sp_want_lt e
        obtain ⟨-, en⟩ := @sp_hold_ok r1 k q w1 (by rw [k1]; exact hk) hq hb c1
        have hk1 := w1.bd.k20
        have f56 : sp_hold k q r1 (56 + 6 * k) = 2 := by
          show (if 56 + 6 * k = 61 + 6 * k then r1 4 + r1 5 else if 56 + 6 * k = 60 + 6 * k then r1 (177 + 3 * q) else sp_put r1 k 2 (r1 (57 + 6 * k)) (56 + 6 * k)) = 2
          rw [if_neg (by omega), if_neg (by omega), sp_put_0]
        refine rD_hd (fun i hi => en i (by omega)) (fun i hi => ?_) h1
        by_cases ei : i = k
        · subst ei
          exact Or.inr (show ¬ sp_hold i q r1 (56 + 6 * i) = 3 by rw [f56]; decide)
        · exact Or.inl ⟨en _ (by omega), en _ (by omega)⟩
      · rw [if_neg c5]
        exact h1
    · exact h1
  · rw [if_neg c]
    exact h
theorem rD_tick {f0 : Nat → Int32} {x : Int32} (hW : xWF r) (ht : xil (r 4 + 1) 20000) (h : rD r) : rD (sp_tick f0 r j x).1 := by
  have hW1 := xWF_time hW ht
  have c1 : xct r (upd r 4 (r 4 + 1)) := ⟨zun (by omega), zun (by omega), zun (by omega)⟩
  have hS1 : rD (upd r 4 (r 4 + 1)) := rD_upd (by omega) (by omega) (by omega) hW.bd.k20 (fun i _ => ⟨by omega, by omega⟩) h
  unfold sp_tick
  generalize upd r 4 (r 4 + 1) = r1 at *
  generalize sp_far r1 f0 = f1
  have hn : xnv r ≤ xnv r1 := by rw [c1.v]; exact Nat.le_refl _
  have t2 : ∀ n, n ≤ xnv r1 → rD (sp_t2 f1 (r1, j) n).1 := by
    intro n
    induction n with
    | zero => intro _; exact hS1
    | succ n ih =>
      intro hn
      obtain ⟨h1, h2⟩ := @sp_t2_ok f1 (r1, j) hW1 n (by show n ≤ xnv r1; omega)
      have hv' : n < xnv (sp_t2 f1 (r1, j) n).1 := by rw [h2.v]; show n < xnv r1; omega
      exact rD_drive h1 hv' (ih (by omega))
  obtain ⟨hW2, c2⟩ := @sp_t2_ok f1 (r1, j) hW1 (xnv r) hn
  have hS2 := t2 (xnv r) hn
  have c2' := xct_t c1 c2
  generalize (sp_t2 f1 (r1, j) (xnv r)).1 = r2 at *
  have t3 : ∀ n, n ≤ xnk r2 → rD (sp_t3 r2 n) := by
    intro n
    induction n with
    | zero => intro _; exact hS2
    | succ n ih =>
      intro hn
      obtain ⟨h1, h2⟩ := @sp_t3_ok r2 hW2 n (by omega)
      exact rD_exp h1 (by rw [h2.k]; omega) (ih (by omega))
  have hk2 : xnk r ≤ xnk r2 := by rw [c2'.k]; exact Nat.le_refl _
  obtain ⟨hW3, c3⟩ := @sp_t3_ok r2 hW2 (xnk r) hk2
  have hS3 := t3 (xnk r) hk2
  have c3' := xct_t c2' c3
  generalize sp_t3 r2 (xnk r) = r3 at *
  have t4 : ∀ n, n ≤ xnk r3 → rD (sp_t4 (r3, x) n).1 := by
    intro n
    induction n with
    | zero => intro _; exact hS3
    | succ n ih =>
      intro hn
      obtain ⟨h1, h2⟩ := @sp_t4_ok (r3, x) hW3 n (by show n ≤ xnk r3; omega)
      have hk' : n < xnk (sp_t4 (r3, x) n).1 := by rw [h2.k]; show n < xnk r3; omega
      exact rD_settle h1 hk' (ih (by omega))
  exact t4 (xnk r) (by rw [c3'.k]; exact Nat.le_refl _)
theorem rD_us {u : xU} {c : Nat} (hW : xWF u.1) (hc : u.1 4 = nI c) (hS : rD u.1) : ∀ n, c + n < 20000 → rD (sp_us u n).1 := by
  intro n
  induction n with
  | zero => intro _; exact hS
  | succ n ih =>
    intro hn
    obtain ⟨h1, h2, h3⟩ := @sp_us_ok u c hW hc n (by omega)
    have ht : xil ((sp_us u n).1 4 + 1) 20000 := by
      rw [h2, ← nI_succ]
      exact xil_nI (by omega) (by omega)
    exact rD_tick h1 ht (ih (by omega))
end RD2
