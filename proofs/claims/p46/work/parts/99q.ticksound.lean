/-! SOUND ROWS: a tick -/
section TS
variable {r : Nat → Int32} {f j : Nat → Int32} {v b : Nat}
theorem rS0_unl (hW : xWF r) (hb : b < xnb r) (h : rS0 r) : ∀ n, n ≤ xnk r → rS0 (sp_unl f v (nI b) (r, j) n).1 := by
  have hb6 := hW.bd.b6
  intro n
  induction n with
  | zero => intro _; exact h
  | succ n ih =>
    intro hn
    obtain ⟨h1, h2⟩ := @sp_unl_ok f r j v (nI b) hW (xil_nI hb (by omega)) n (by omega)
    show rS0 (sp_unl1 f v (nI b) n (sp_unl f v (nI b) (r, j) n)).1
    unfold sp_unl1
    split
    · exact rS0_put h1 (by rw [h2.k]; omega) (by decide) (by decide) (ih (by omega))
    · exact ih (by omega)
def rRm (v : Nat) (u : (Nat → Int32) × Int32) : Prop := u.2 = u.1 (12 + 11 * v) - sp_booksIn u.1 1 (nI v)
theorem rS0_tk1 {sort : Int32} {k : Nat} {u : (Nat → Int32) × Int32} (hW : xWF u.1) (hv : v < xnv u.1) (hk : k < xnk u.1) (hr : rRm v u) (h : rS0 u.1) : rS0 (sp_tk1 f j v (nI b) sort k u).1 ∧ rRm v (sp_tk1 f j v (nI b) sort k u) := by
  have hk20 := hW.bd.k20
  have hv4 := hW.bd.v4
  have hb6 := hW.bd.b6
  unfold sp_tk1
  by_cases c : sp_tkc f j v (nI b) sort k u
  · rw [if_pos c]
    dsimp only
    obtain ⟨c1, c2, -⟩ := c
    have hh : xhd u.1 (sp_put u.1 k 1 (nI v)) := fun i hi => sp_put_h (by omega) hi
    have bk : rBk u.1 (sp_put u.1 k 1 (nI v)) (xnk u.1) := rBk_put (by decide)
    have hn1 : ¬ u.1 (56 + 6 * k) = 1 := by rw [c2.1]; decide
    refine ⟨⟨fun i hi => ?_, fun v' hv' => ?_⟩, ?_⟩
    · rw [hh.k] at hi
      refine rH0_cg hW hi hh.q (fun h2 z => ?_) (fun x h1 _ => hh _ (by omega)) (bk i hi) (h.1 i hi)
      by_cases ei : i = k
      · subst ei
        rw [sp_put_0] at h2
        exact absurd h2 (by decide)
      · rw [sp_put_ne (by omega)] at h2
        have hp := ((hW.k i hi).2.2.2.1 (Or.inr h2)).2
        unfold xop at z ⊢
        rw [hh _ (by omega)]
        exact z
    · rw [hh.v] at hv'
      unfold rV
      rw [hh.k, hh _ (by omega)]
      by_cases ev : v' = v
      · subst ev
        -- one more, and there was room
        obtain ⟨a, ha, ea⟩ : ∃ a, a < 10 ∧ u.1 (12 + 11 * v') = nI a := ⟨_, (hW.v v' hv').1.2, (hW.v v' hv').1.1⟩
        have hc : cP u.1 1 v' (xnk u.1) < 21 := by have : cP u.1 1 v' (xnk u.1) ≤ xnk u.1 := xcnt_le; omega
        have hf : ¬ nI a ≤ nI (cP u.1 1 v' (xnk u.1)) := fun z => c1 (by rw [hr, ea, cP_n]; exact (oFull a ha _ hc).mp z)
        have hlt : cP u.1 1 v' (xnk u.1) < a := by
          apply Classical.byContradiction
          intro z
          exact hf (nI_le (by omega) (by omega))
        rw [ea, nI_clamp (by omega)]
        have e1 := @oIn1 u.1 v' k hk (by omega) hn1
        rw [cP_n, cP_n, ← nI_succ, hh.k] at e1
        have h21 : cP (sp_put u.1 k 1 (nI v')) 1 v' (xnk u.1) ≤ xnk u.1 := xcnt_le
        have := nI_inj (by omega) (by omega) e1
        omega
      · refine Nat.le_trans (xcnt_imp (fun i hi z => ?_)) (h.2 v' hv')
        by_cases ei : i = k
        · subst ei
          have := sp_put_1.symm.trans z.2
          exact absurd (nI_inj (by omega) (by omega) this).symm ev
        · exact ⟨by rw [← z.1, sp_put_ne (by omega)], by rw [← z.2, sp_put_ne (by omega)]⟩
    · unfold rRm
      dsimp only
      rw [oIn1 hk (by omega) hn1, sp_put_h (by omega) (by omega), oRoom, hr]
  · rw [if_neg c]
    exact ⟨h, hr⟩
theorem rS0_tk {sort : Int32} (hv : v < xnv r) : ∀ m k (u : (Nat → Int32) × Int32), k + m ≤ xnk r → xWF u.1 → xhd r u.1 → rRm v u → rS0 u.1 → rS0 (xfm (fun k u => sp_tk1 f j v (nI b) sort k u) k m u).1 ∧ rRm v (xfm (fun k u => sp_tk1 f j v (nI b) sort k u) k m u) := by
  intro m
  induction m with
  | zero => intro k u _ _ _ hr h; exact ⟨h, hr⟩
  | succ m ih =>
    intro k u hk h1 h2 hr h
    obtain ⟨g1, g2⟩ := @sp_tk1_ok f j r v k (nI b) sort u h1 h2 hv (by omega)
    obtain ⟨q1, q2⟩ := @rS0_tk1 f j v b sort k u h1 (by rw [h2.v]; exact hv) (by rw [h2.k]; omega) hr h
    exact ih (k + 1) _ (by omega) g1 g2 q2 q1
theorem rS0_take (hW : xWF r) (hv : v < xnv r) (h : rS0 r) : ∀ s, rS0 (sp_takeU f j v (nI b) r s).1 ∧ rRm v (sp_takeU f j v (nI b) r s) := by
  intro s
  induction s with
  | zero => exact ⟨h, rfl⟩
  | succ s ih =>
    obtain ⟨g1, g2⟩ := @sp_takeU_ok f j r v (nI b) hW hv s
    exact @rS0_tk r f j v b (nI s) hv (xnk r) 0 _ (by omega) g1 g2 ih.2 ih.1
theorem rS0_drive {u : (Nat → Int32) × (Nat → Int32)} (hW : xWF u.1) (hv : v < xnv u.1) (h : rS0 u.1) : rS0 (sp_drive f v u).1 := by
  obtain ⟨r, j⟩ := u
  obtain ⟨p1, p2, p3, p4, p5⟩ := hW.v v hv
  have h9 := hW.st9 hv
  have hv4 := hW.bd.v4
  have hm : ((r (14 + 11 * v)).toNatClampNeg + 1) % xst r v < xst r v := Nat.mod_lt _ (by have : 2 ≤ xst r v := p3; omega)
  obtain ⟨b, hb, eb⟩ := kRt_at hW hv hm
  unfold sp_drive sp_at1
  dsimp only at *
  generalize ((r (14 + 11 * v)).toNatClampNeg + 1) % xst r v = m at *
  have hW1 : xWF (upd r (14 + 11 * v) (nI m)) := xWF_at hW hv (xil_nI hm (by omega))
  have en : ∀ i, i ≠ 14 + 11 * v → upd r (14 + 11 * v) (nI m) i = r i := fun i hi => if_neg hi
  have ec : xct r (upd r (14 + 11 * v) (nI m)) := ⟨en 0 (by omega), en 1 (by omega), en 2 (by omega)⟩
  have hS1 : rS0 (upd r (14 + 11 * v) (nI m)) := rS0_head hW (Or.inr (Or.inr (Or.inl ⟨v, by omega, rfl⟩))) h
  split
  · rw [eb]
    obtain ⟨g1, g2⟩ := @sp_unl_ok f (upd r (14 + 11 * v) (nI m)) j v (nI b) hW1 (by rw [ec.b]; exact xil_nI hb (by have := hW.bd.b6; omega)) (xnk r) (by rw [ec.k]; exact Nat.le_refl _)
    have q1 := @rS0_unl _ f j v b hW1 (by rw [ec.b]; exact hb) hS1 (xnk r) (by rw [ec.k]; exact Nat.le_refl _)
    exact (rS0_take g1 (by rw [g2.v, ec.v]; exact hv) q1 3).1
  · exact hS1
theorem rS0_t2 {u : (Nat → Int32) × (Nat → Int32)} (hW : xWF u.1) (h : rS0 u.1) : ∀ n, n ≤ xnv u.1 → rS0 (sp_t2 f u n).1 := by
  intro n
  induction n with
  | zero => intro _; exact h
  | succ n ih =>
    intro hn
    obtain ⟨h1, h2⟩ := @sp_t2_ok f u hW n (by omega)
    have hv' : n < xnv (sp_t2 f u n).1 := by rw [h2.v]; omega
    exact rS0_drive h1 hv' (ih (by omega))
/-- a hold that ends -/
theorem rS0_exp (hW : xWF r) {k : Nat} (hk : k < xnk r) (h : rS0 r) (hl : rSL r k) : rS0 (sp_exp k r) ∧ rSL (sp_exp k r) (k + 1) := by
  have hk20 := hW.bd.k20
  have last : ∀ (r' : Nat → Int32), r' 4 = r 4 → rBk r r' k → rL r' k → rSL r' (k + 1) := by
    intro r' e4 bk hk' i hi
    by_cases ei : i = k
    · subst ei; exact hk'
    · exact rSL_cg e4 bk hl i (by omega)
  unfold sp_exp
  by_cases c : r (56 + 6 * k) = 2 ∧ ¬ r 4 ≤ r (61 + 6 * k)
  · rw [if_pos c]
    obtain ⟨q, e, hq⟩ := sp_by_held hW hk c.1
    rw [e]
    dsimp only
    have h1 := (hW.k k hk).2.2.2.1 (Or.inr c.1)
    have hW1 : xWF (sp_put r k 0 (r (57 + 6 * k))) := xWF_put hW hk (Or.inl ⟨rfl, h1⟩)
    have hh : xhd r (sp_put r k 0 (r (57 + 6 * k))) := fun i hi => sp_put_h (by omega) hi
    have hx := xfst_some e
    refine ⟨rS0_drop hW1 (by rw [hh.q]; exact hq) (fun k' hk' h2 h3 => ?_) (rS0_put hW hk (by decide) (by decide) h), last _ ?_ ?_ ?_⟩
    · rw [hh _ (by omega), hx.1.1] at h3
      rw [hh.k] at hk'
      have : k = k' := nI_inj (by omega) (by omega) h3.1
      subst this
      rw [sp_put_0] at h2
      exact absurd h2 (by decide)
    · rw [sp_drop_h (by omega) (by omega), hh _ (by omega)]
    · exact rBk_t (rBk_put (by decide)) (rBk_drop (by omega))
    · intro z
      rw [sp_drop_h (by omega) (by omega), sp_put_0] at z
      exact absurd z (by decide)
  · rw [if_neg c]
    exact ⟨h, last r rfl rBk_rf (fun z => Decidable.byContradiction fun g => c ⟨z, g⟩)⟩
theorem rS0_t3 (hW : xWF r) (h : rS0 r) : ∀ n, n ≤ xnk r → rS0 (sp_t3 r n) ∧ rSL (sp_t3 r n) n := by
  intro n
  induction n with
  | zero => intro _; exact ⟨h, fun k hk => absurd hk (Nat.not_lt_zero k)⟩
  | succ n ih =>
    intro hn
    obtain ⟨h1, h2⟩ := @sp_t3_ok r hW n (by omega)
    obtain ⟨g1, g2⟩ := ih (by omega)
    exact rS0_exp h1 (by rw [h2.k]; omega) g1 g2
/-- a hold that begins -/
theorem rS_hold (hW : xWF r) {k q : Nat} (hk : k < xnk r) (h0 : r (56 + 6 * k) = 0) (hw : sp_want r k = some q) (hp : r (178 + 3 * q) = r (57 + 6 * k)) (h : rS r) : rS (sp_hold k q r) := by
  have hk20 := hW.bd.k20
  have hv4 := hW.bd.v4
  have hb6 := hW.bd.b6
  obtain ⟨hq, hb⟩ := sp_want_lt hw
  obtain ⟨-, e⟩ := @sp_hold_ok r k q hW hk hq hb h0
  have f0 : ∀ i, i ≠ 61 + 6 * k → i ≠ 60 + 6 * k → sp_hold k q r i = sp_put r k 2 (r (57 + 6 * k)) i := fun i h1 h2 => by
    show (if i = 61 + 6 * k then r 4 + r 5 else if i = 60 + 6 * k then r (177 + 3 * q) else sp_put r k 2 (r (57 + 6 * k)) i) = _
    rw [if_neg h1, if_neg h2]
  have f56 : sp_hold k q r (56 + 6 * k) = 2 := by rw [f0 _ (by omega) (by omega), sp_put_0]
  have f57 : sp_hold k q r (57 + 6 * k) = r (57 + 6 * k) := by rw [f0 _ (by omega) (by omega), sp_put_1]
  have f59 : sp_hold k q r (59 + 6 * k) = r (59 + 6 * k) := by rw [f0 _ (by omega) (by omega), sp_put_3]
  have f60 : sp_hold k q r (60 + 6 * k) = r (177 + 3 * q) := by
    show (if 60 + 6 * k = 61 + 6 * k then r 4 + r 5 else if 60 + 6 * k = 60 + 6 * k then r (177 + 3 * q) else sp_put r k 2 (r (57 + 6 * k)) (60 + 6 * k)) = _
    rw [if_neg (by omega), if_pos rfl]
  have f61 : sp_hold k q r (61 + 6 * k) = r 4 + r 5 := if_pos rfl
  have n1 : xnv (sp_hold k q r) = xnv r := by unfold xnv; rw [e 1 (by omega)]
  have n2 : xnk (sp_hold k q r) = xnk r := by unfold xnk; rw [e 2 (by omega)]
  have n3 : xnq (sp_hold k q r) = xnq r := by unfold xnq; rw [e 3 (by omega)]
  have oth : ∀ i, i < xnk r → i ≠ k → ∀ x, 56 + 6 * i ≤ x → x < 62 + 6 * i → sp_hold k q r x = r x := fun i hi hn x h1 h2 => e x (by omega)
  have hop : ∀ i, i < xnk r → (r (56 + 6 * i) = 0 ∨ r (56 + 6 * i) = 2) → xop r (r (57 + 6 * i)) → xop (sp_hold k q r) (r (57 + 6 * i)) := fun i hi h2 z => by
    have := ((hW.k i hi).2.2.2.1 h2).2
    unfold xop at z ⊢
    rw [e _ (by omega)]
    exact z
  refine rS_of ⟨fun i hi => ?_, fun v hv => ?_⟩ (fun i hi => ?_)
  · rw [n2] at hi
    by_cases ei : i = k
    · subst ei
      intro _
      have hr59 : r (59 + 6 * i) = 0 := by
        rcases (hW.k i hk).2.2.1 with z | z
        · exact z
        · exfalso
          unfold sp_want at hw
          rw [if_pos z] at hw
          cases hw
      have hfs : sp_first r (nI i) = some q := by
        unfold sp_want at hw
        rw [if_neg (by rw [hr59]; decide)] at hw
        exact hw
      have hx := (xfst_some hfs).1.2
      rw [hp] at hx
      rw [f59, f57, f60, n3]
      refine ⟨hr59, hop i hk (Or.inl h0) hx, q, hq, ?_, ?_, ?_⟩
      · rw [e _ (by omega)]; exact hb
      · rw [e _ (by omega)]
      · rw [e _ (by omega)]; exact hp
    · refine rH0_cg hW hi n3 (fun h2 z => ?_) (fun x h1 _ => e _ (by omega)) (Or.inl (oth i hi ei)) ((rS_0 h).1 i hi)
      rw [oth i hi ei _ (by omega) (by omega)] at h2
      exact hop i hi (Or.inr h2) z
  · rw [n1] at hv
    unfold rV
    rw [n2, e _ (by omega)]
    refine Nat.le_trans (xcnt_imp (fun i hi z => ?_)) (h.2 v hv)
    by_cases ei : i = k
    · subst ei
      exact absurd (f56.symm.trans z.1) (by decide)
    · exact ⟨by rw [← z.1, oth i hi ei _ (by omega) (by omega)], by rw [← z.2, oth i hi ei _ (by omega) (by omega)]⟩
  · rw [n2] at hi
    intro h2
    rw [e 4 (by omega)]
    by_cases ei : i = k
    · subst ei
      rw [f61]
      obtain ⟨-, -, t1, t2⟩ := hW.n
      have z1 := t1.2
      have z2 := t2.2
      rw [t1.1, t2.1, zA]
      exact nI_le (by omega) (by omega)
    · rw [oth i hi ei _ (by omega) (by omega)]
      rw [oth i hi ei _ (by omega) (by omega)] at h2
      exact rS_L h i hi h2
theorem rS_settle {u : (Nat → Int32) × Int32} {k : Nat} (hW : xWF u.1) (hk : k < xnk u.1) (h : rS u.1) : rS (sp_settle k u).1 ∧ ((sp_settle k u).2 = u.2 ∨ (sp_settle k u).2 = u.2 + 1) := by
  have hk20 := hW.bd.k20
  unfold sp_settle
  by_cases c : u.1 (56 + 6 * k) = 0
  · rw [if_pos c]
    obtain ⟨w1, w2⟩ := @sp_set1_ok u.1 k hW hk
    have h1 : rS (sp_set1 k u.1) := by
      unfold sp_set1
      split
      · exact rS_59 hW hk (by rw [c]; decide) h
      · exact h
    have k1 : xnk (sp_set1 k u.1) = xnk u.1 := by unfold xnk; rw [w2 _ (by omega)]
    have c1 : sp_set1 k u.1 (56 + 6 * k) = 0 := by rw [w2 _ (by omega)]; exact c
    generalize sp_set1 k u.1 = r1 at *
    unfold sp_set2
    split
    · next q e =>
      by_cases c5 : r1 (178 + 3 * q) = r1 (57 + 6 * k)
      · rw [if_pos c5]
        exact ⟨rS_hold w1 (by rw [k1]; exact hk) c1 e c5 h1, Or.inr rfl⟩
      · rw [if_neg c5]
        exact ⟨h1, Or.inl rfl⟩
    · exact ⟨h1, Or.inl rfl⟩
  · rw [if_neg c]
    exact ⟨h, Or.inl rfl⟩
theorem rS_t4 {c : Nat} (hW : xWF r) (h : rS r) : ∀ n, n ≤ xnk r → rS (sp_t4 (r, nI c) n).1 ∧ ∃ c', c' ≤ c + n ∧ (sp_t4 (r, nI c) n).2 = nI c' := by
  intro n
  induction n with
  | zero => intro _; exact ⟨h, c, by omega, rfl⟩
  | succ n ih =>
    intro hn
    obtain ⟨h1, h2⟩ := @sp_t4_ok (r, nI c) hW n (by show n ≤ xnk r; omega)
    obtain ⟨g1, c', g2, g3⟩ := ih (by omega)
    obtain ⟨q1, q2⟩ := @rS_settle (sp_t4 (r, nI c) n) n h1 (by rw [h2.k]; show n < xnk r; omega) g1
    refine ⟨q1, ?_⟩
    rcases q2 with z | z
    · exact ⟨c', by omega, z.trans g3⟩
    · exact ⟨c' + 1, by omega, z.trans (by rw [g3, nI_succ])⟩
theorem rS_tick {f0 : Nat → Int32} {c : Nat} (hW : xWF r) (ht : xil (r 4 + 1) 20000) (h : rS r) : rS (sp_tick f0 r j (nI c)).1 ∧ ∃ c', c' ≤ c + xnk r ∧ (sp_tick f0 r j (nI c)).2 = nI c' := by
  have hW1 := xWF_time hW ht
  have c1 : xct r (upd r 4 (r 4 + 1)) := ⟨zun (by omega), zun (by omega), zun (by omega)⟩
  have hS1 : rS0 (upd r 4 (r 4 + 1)) := rS0_head hW (Or.inl rfl) (rS_0 h)
  unfold sp_tick
  generalize upd r 4 (r 4 + 1) = r1 at *
  generalize sp_far r1 f0 = f1
  have hn : xnv r ≤ xnv r1 := by rw [c1.v]; exact Nat.le_refl _
  obtain ⟨hW2, c2⟩ := @sp_t2_ok f1 (r1, j) hW1 (xnv r) hn
  have hS2 := @rS0_t2 f1 (r1, j) hW1 hS1 (xnv r) hn
  have c2' := xct_t c1 c2
  generalize (sp_t2 f1 (r1, j) (xnv r)).1 = r2 at *
  obtain ⟨hW3, c3⟩ := @sp_t3_ok r2 hW2 (xnk r) (by rw [c2'.k]; exact Nat.le_refl _)
  obtain ⟨hS3, hL3⟩ := @rS0_t3 r2 hW2 hS2 (xnk r) (by rw [c2'.k]; exact Nat.le_refl _)
  have c3' := xct_t c2' c3
  generalize sp_t3 r2 (xnk r) = r3 at *
  have ek := c3'.k
  exact rS_t4 hW3 (rS_of hS3 (by rw [ek]; exact hL3)) (xnk r) (by rw [ek]; exact Nat.le_refl _)
theorem rS_us {u : xU} {c h : Nat} (hW : xWF u.1) (hc : u.1 4 = nI c) (hh : u.2.2.2 = nI h) (hS : rS u.1) : ∀ n, c + n < 20000 → rS (sp_us u n).1 ∧ xnk (sp_us u n).1 = xnk u.1 ∧ ∃ x, x ≤ h + n * xnk u.1 ∧ (sp_us u n).2.2.2 = nI x := by
  intro n
  induction n with
  | zero => intro _; exact ⟨hS, rfl, h, by omega, hh⟩
  | succ n ih =>
    intro hn
    obtain ⟨g1, g2, x, g3, g4⟩ := ih (by omega)
    obtain ⟨h1, h2, h3⟩ := @sp_us_ok u c hW hc n (by omega)
    have ht : xil ((sp_us u n).1 4 + 1) 20000 := by
      rw [h2, ← nI_succ]
      exact xil_nI (by omega) (by omega)
    obtain ⟨t1, x', t2, t3⟩ := @rS_tick (sp_us u n).1 (sp_us u n).2.2.1 (sp_us u n).2.1 x h1 ht g1
    obtain ⟨-, -, t5⟩ := @sp_us_ok u c hW hc (n + 1) (by omega)
    rw [← g4] at t1 t3
    refine ⟨t1, by unfold xnk; rw [t5 2 (by omega) (by omega) (by omega)], x', ?_, t3⟩
    rw [g2] at t2
    rw [Nat.add_mul, Nat.one_mul]
    omega
end TS
