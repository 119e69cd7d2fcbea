/-! THE REFERENCE reads a whole text -/
noncomputable def sp_vans_z (f : Nat → Int32) (n : Nat) : Nat → xLk → xLk
  | 0, P => P
  | k + 1, P => if sp_wrd f P.1 2 then sp_vans_z f n k (sq_van f n P) else P
noncomputable def sp_vans : (Nat → Int32) → Nat → Nat → xLk → xLk := sq_op sp_vans_z
theorem sp_vans_0 {f : Nat → Int32} {n : Nat} {P : xLk} : sp_vans f n 0 P = P := by
  unfold sp_vans
  rw [sq_op_eq]
  rfl
noncomputable def sp_books_z (f : Nat → Int32) (n : Nat) : Nat → xLk → xLk
  | 0, P => P
  | k + 1, P => if sp_wrd f P.1 3 then sp_books_z f n k (sp_book1 f n P) else P
noncomputable def sp_books : (Nat → Int32) → Nat → Nat → xLk → xLk := sq_op sp_books_z
theorem sp_books_0 {f : Nat → Int32} {n : Nat} {P : xLk} : sp_books f n 0 P = P := by
  unfold sp_books
  rw [sq_op_eq]
  rfl
noncomputable def sp_asks_z (f : Nat → Int32) (n : Nat) : Nat → xLk → xLk
  | 0, P => P
  | k + 1, P => if P.1.2.2.2.1 = 0 ∧ ¬ P.1.2.2.1 = 0 then sp_asks_z f n k (sp_ask1 f n P) else P
noncomputable def sp_asks : (Nat → Int32) → Nat → Nat → xLk → xLk := sq_op sp_asks_z
theorem sp_asks_0 {f : Nat → Int32} {n : Nat} {P : xLk} : sp_asks f n 0 P = P := by
  unfold sp_asks
  rw [sq_op_eq]
  rfl
theorem sp_vans_s {f : Nat → Int32} {n k : Nat} {P : xLk} : sp_vans f n (k + 1) P = if sp_wrd f P.1 2 then sp_vans f n k (sq_van f n P) else P := by
  unfold sp_vans
  rw [sq_op_eq]
  rfl
theorem sp_books_s {f : Nat → Int32} {n k : Nat} {P : xLk} : sp_books f n (k + 1) P = if sp_wrd f P.1 3 then sp_books f n k (sp_book1 f n P) else P := by
  unfold sp_books
  rw [sq_op_eq]
  rfl
theorem sp_asks_s {f : Nat → Int32} {n k : Nat} {P : xLk} : sp_asks f n (k + 1) P = if P.1.2.2.2.1 = 0 ∧ ¬ P.1.2.2.1 = 0 then sp_asks f n k (sp_ask1 f n P) else P := by
  unfold sp_asks
  rw [sq_op_eq]
  rfl
noncomputable def sp_hl1_z (f : Nat → Int32) (n : Nat) (T : xTk) : xTk := sp_rnT f n (sp_scan f n T) 1 50
noncomputable def sp_hl1 : (Nat → Int32) → Nat → xTk → xTk := sq_op sp_hl1_z
theorem sp_hl1_u {f : Nat → Int32} {n : Nat} {T : xTk} : sp_hl1 f n T = sp_rnT f n (sp_scan f n T) 1 50 := congrFun (congrFun (congrFun (sq_op_eq (a := sp_hl1_z)) f) n) T
noncomputable def sp_hlV_z (f : Nat → Int32) (n : Nat) (T : xTk) : Int32 := sp_rnV f n (sp_scan f n T) 1 50
noncomputable def sp_hlV : (Nat → Int32) → Nat → xTk → Int32 := sq_op sp_hlV_z
theorem sp_hlV_u {f : Nat → Int32} {n : Nat} {T : xTk} : sp_hlV f n T = sp_rnV f n (sp_scan f n T) 1 50 := congrFun (congrFun (congrFun (sq_op_eq (a := sp_hlV_z)) f) n) T
noncomputable def sq_hold_z (f : Nat → Int32) (n : Nat) (P : xLk) : xLk := if sp_wrd f P.1 4 then (sp_exp2 f n (sp_hl1 f n P.1) 59, upd P.2 5 (sp_hlV f n P.1)) else P
noncomputable def sq_hold : (Nat → Int32) → Nat → xLk → xLk := sq_op sq_hold_z
theorem sq_hold_u {f : Nat → Int32} {n : Nat} {P : xLk} : sq_hold f n P = if sp_wrd f P.1 4 then (sp_exp2 f n (sp_hl1 f n P.1) 59, upd P.2 5 (sp_hlV f n P.1)) else P := congrFun (congrFun (congrFun (sq_op_eq (a := sq_hold_z)) f) n) P
noncomputable def sp_h1_z (f : Nat → Int32) (n : Nat) (T : xTk) : xTk := sp_expW f n T 1
noncomputable def sp_h1 : (Nat → Int32) → Nat → xTk → xTk := sq_op sp_h1_z
theorem sp_h1_u {f : Nat → Int32} {n : Nat} {T : xTk} : sp_h1 f n T = sp_expW f n T 1 := congrFun (congrFun (congrFun (sq_op_eq (a := sp_h1_z)) f) n) T
noncomputable def sp_h2_z (f : Nat → Int32) (n : Nat) (T : xTk) : xTk := sp_rnT f n (sp_h1 f n T) 2 6
noncomputable def sp_h2 : (Nat → Int32) → Nat → xTk → xTk := sq_op sp_h2_z
theorem sp_h2_u {f : Nat → Int32} {n : Nat} {T : xTk} : sp_h2 f n T = sp_rnT f n (sp_h1 f n T) 2 6 := congrFun (congrFun (congrFun (sq_op_eq (a := sp_h2_z)) f) n) T
noncomputable def sp_hb_z (f : Nat → Int32) (n : Nat) (T : xTk) : Nat := (sp_rnV f n (sp_h1 f n T) 2 6).toNatClampNeg
noncomputable def sp_hb : (Nat → Int32) → Nat → xTk → Nat := sq_op sp_hb_z
theorem sp_hb_u {f : Nat → Int32} {n : Nat} {T : xTk} : sp_hb f n T = (sp_rnV f n (sp_h1 f n T) 2 6).toNatClampNeg := congrFun (congrFun (congrFun (sq_op_eq (a := sp_hb_z)) f) n) T
noncomputable def sp_h3_z (f : Nat → Int32) (n : Nat) (T : xTk) : xTk := sp_exp2 f n (sp_h2 f n T) 59
noncomputable def sp_h3 : (Nat → Int32) → Nat → xTk → xTk := sq_op sp_h3_z
theorem sp_h3_u {f : Nat → Int32} {n : Nat} {T : xTk} : sp_h3 f n T = sp_exp2 f n (sp_h2 f n T) 59 := congrFun (congrFun (congrFun (sq_op_eq (a := sp_h3_z)) f) n) T
noncomputable def sp_h4_z (f : Nat → Int32) (n : Nat) (P : xLk) : xLk := sq_van f n (sp_h3 f n P.1, sp_beg P.2 (sp_hb f n P.1))
noncomputable def sp_h4 : (Nat → Int32) → Nat → xLk → xLk := sq_op sp_h4_z
theorem sp_h4_u {f : Nat → Int32} {n : Nat} {P : xLk} : sp_h4 f n P = sq_van f n (sp_h3 f n P.1, sp_beg P.2 (sp_hb f n P.1)) := congrFun (congrFun (congrFun (sq_op_eq (a := sp_h4_z)) f) n) P
noncomputable def sp_h5_z (f : Nat → Int32) (n : Nat) (P : xLk) : xLk := sp_vans f n 4 (sp_h4 f n P)
noncomputable def sp_h5 : (Nat → Int32) → Nat → xLk → xLk := sq_op sp_h5_z
theorem sp_h5_u {f : Nat → Int32} {n : Nat} {P : xLk} : sp_h5 f n P = sp_vans f n 4 (sp_h4 f n P) := congrFun (congrFun (congrFun (sq_op_eq (a := sp_h5_z)) f) n) P
noncomputable def sp_h6_z (f : Nat → Int32) (n : Nat) (P : xLk) : xLk := sp_books f n 21 (sp_h5 f n P)
noncomputable def sp_h6 : (Nat → Int32) → Nat → xLk → xLk := sq_op sp_h6_z
theorem sp_h6_u {f : Nat → Int32} {n : Nat} {P : xLk} : sp_h6 f n P = sp_books f n 21 (sp_h5 f n P) := congrFun (congrFun (congrFun (sq_op_eq (a := sp_h6_z)) f) n) P
noncomputable def sp_h7_z (f : Nat → Int32) (n : Nat) (P : xLk) : xLk := sq_hold f n (sp_h6 f n P)
noncomputable def sp_h7 : (Nat → Int32) → Nat → xLk → xLk := sq_op sp_h7_z
theorem sp_h7_u {f : Nat → Int32} {n : Nat} {P : xLk} : sp_h7 f n P = sq_hold f n (sp_h6 f n P) := congrFun (congrFun (congrFun (sq_op_eq (a := sp_h7_z)) f) n) P
noncomputable def sp_all_z (f : Nat → Int32) (n : Nat) (P : xLk) : xLk := sp_asks f n 41 (sp_h7 f n P)
noncomputable def sp_all : (Nat → Int32) → Nat → xLk → xLk := sq_op sp_all_z
theorem sp_all_u {f : Nat → Int32} {n : Nat} {P : xLk} : sp_all f n P = sp_asks f n 41 (sp_h7 f n P) := congrFun (congrFun (congrFun (sq_op_eq (a := sp_all_z)) f) n) P
theorem sp_all_eq {f : Nat → Int32} {n : Nat} {P : xLk} : sp_asks f n 41 ((sp_h7 f n P).1, (sp_h7 f n P).2) = sp_all f n P := by
  rw [sp_all_u, xLe]
theorem sp_hb_ok {f : Nat → Int32} {n : Nat} {T : xTk} : sp_rnV f n (sp_h1 f n T) 2 6 = nI (sp_hb f n T) ∧ 2 ≤ sp_hb f n T ∧ sp_hb f n T ≤ 6 := by
  rw [sp_hb_u]
  have h := @sp_rnV_rng f n (sp_h1 f n T) 2 6 (by decide)
  obtain ⟨e, hl⟩ := zrg2 (m := 7) (by omega) ⟨Int32.le_trans (by decide) h.1, Int32.le_trans h.2 (by decide)⟩
  refine ⟨e, Decidable.byContradiction fun z => ?_, by omega⟩
  have h1 := h.1
  rw [e] at h1
  exact nI_ge (a := (sp_rnV f n (sp_h1 f n T) 2 6).toNatClampNeg) (b := 2) (by omega) (by omega) h1
theorem sp_tw_h1 {f : Nat → Int32} {n : Nat} {T : xTk} (h : sp_tw f n T) : sp_tw f n (sp_h1 f n T) := by
  rw [sp_h1_u]
  exact sp_tw_adv (sp_tw_check h)
theorem sp_tw_h2 {f : Nat → Int32} {n : Nat} {T : xTk} (h : sp_tw f n T) : sp_tw f n (sp_h2 f n T) := by
  rw [sp_h2_u]
  exact sp_tw_rn (sp_tw_h1 h)
theorem sp_tw_h3 {f : Nat → Int32} {n : Nat} {T : xTk} (h : sp_tw f n T) : sp_tw f n (sp_h3 f n T) := by
  rw [sp_h3_u]
  exact sp_tw_exp2 (sp_tw_h2 h)
theorem kSn_beg {r : Nat → Int32} {b : Nat} (h2 : 2 ≤ b) (h6 : b ≤ 6) : kSn (sp_beg r b) ∧ xnv (sp_beg r b) = 0 ∧ xnk (sp_beg r b) = 0 ∧ xnb (sp_beg r b) = b := by
  have z : ∀ j, j < 296 → j ≠ 0 → j ≠ 5 → ¬ (6 ≤ j ∧ j < 6 + b) → sp_beg r b j = 0 := fun j h1 h2 h3 h4 => sp_beg_h h1 h2 h3 h4
  have e0 : sp_beg r b 0 = nI b := by
    unfold sp_beg sp_begO
    rw [if_neg (by omega), zun (by omega), zu1]
  have e5 : sp_beg r b 5 = 10 := by
    unfold sp_beg sp_begO
    rw [if_neg (by omega), zu1]
  have eo : ∀ i, i < b → sp_beg r b (6 + i) = 1 := fun i hi => by
    unfold sp_beg sp_begO
    rw [if_pos (by omega)]
  have xb : xnb (sp_beg r b) = b := by unfold xnb; rw [e0, nI_clamp (by omega)]
  have x1 : sp_beg r b 1 = 0 := z 1 (by omega) (by omega) (by omega) (by omega)
  have x2 : sp_beg r b 2 = 0 := z 2 (by omega) (by omega) (by omega) (by omega)
  have x3 : sp_beg r b 3 = 0 := z 3 (by omega) (by omega) (by omega) (by omega)
  have xv : xnv (sp_beg r b) = 0 := by unfold xnv; rw [x1]; rfl
  have xk : xnk (sp_beg r b) = 0 := by unfold xnk; rw [x2]; rfl
  have xq : xnq (sp_beg r b) = 0 := by unfold xnq; rw [x3]; rfl
  refine ⟨⟨?_, ⟨by omega, fun i hi => ?_⟩, fun u hu => absurd hu (by omega), fun u _ hu => ⟨z _ (by omega) (by omega) (by omega) (by omega), z _ (by omega) (by omega) (by omega) (by omega)⟩, fun k hk => absurd hk (by omega), fun k _ hk => z _ (by omega) (by omega) (by omega) (by omega), x3, z 4 (by omega) (by omega) (by omega) (by omega), e5, fun i hi => eo i (by omega), fun u hu => absurd hu (by omega), fun k hk => absurd hk (by omega)⟩, xv, xk, xb⟩
  · unfold xBd
    rw [xb, xv, xk, xq, e0, x1, x2, x3]
    exact ⟨⟨rfl, h6⟩, ⟨rfl, by omega⟩, ⟨rfl, by omega⟩, rfl, by omega⟩
  · by_cases g : i < b
    · exact Or.inr (eo i g)
    · exact Or.inl (z (6 + i) (by omega) (by omega) (by omega) (by omega))
theorem sp_tw_acc {f : Nat → Int32} {n : Nat} {T : xTk} (h : sp_tw f n T) : sp_tw f n (sp_scan f n T) := sp_tw_scan h.1
def kTw2 (r : Nat → Int32) : Prop := ∀ u, u < xnv r → 2 ≤ xst r u
theorem sp_vans_ok {f : Nat → Int32} {n : Nat} : ∀ k (T : xTk) (r : Nat → Int32), kSn r → sp_tw f n T → kSn (sp_vans f n k (T, r)).2 ∧ sp_tw f n (sp_vans f n k (T, r)).1 ∧ ((sp_vans f n k (T, r)).1.2.2.2.1 = 0 → T.2.2.2.1 = 0 ∧ (kTw2 r → kTw2 (sp_vans f n k (T, r)).2) ∧ xnv r ≤ xnv (sp_vans f n k (T, r)).2) := by
  intro k
  induction k with
  | zero =>
    intro T r hS hT
    rw [sp_vans_0]
    exact ⟨hS, hT, fun z => ⟨z, id, Nat.le_refl _⟩⟩
  | succ k ih =>
    intro T r hS hT
    rw [sp_vans_s]
    by_cases h : sp_wrd f T 2
    · rw [if_pos (show sp_wrd f (T, r).1 2 from h)]
      obtain ⟨a1, a2, a3⟩ := @sp_van_ok f n T r hS hT
      obtain ⟨b1, b2, b3⟩ := ih (sq_van f n (T, r)).1 (sq_van f n (T, r)).2 a1 a2
      rw [xLe (sq_van f n (T, r))] at b1 b2 b3
      refine ⟨b1, b2, fun z => ?_⟩
      obtain ⟨c1, c2, c3⟩ := b3 z
      obtain ⟨d1, d2, d3, d4⟩ := a3 c1
      refine ⟨d1, fun g => c2 fun u hu => ?_, by omega⟩
      rw [d2] at hu
      by_cases e : u = xnv r
      · subst e
        exact d4
      · rw [d3 u (by omega)]
        exact g u (by omega)
    · rw [if_neg (show ¬ sp_wrd f (T, r).1 2 from h)]
      exact ⟨hS, hT, fun z => ⟨z, id, Nat.le_refl _⟩⟩
theorem sp_books_ok {f : Nat → Int32} {n : Nat} : ∀ k (T : xTk) (r : Nat → Int32), kSn r → sp_tw f n T → kSn (sp_books f n k (T, r)).2 ∧ sp_tw f n (sp_books f n k (T, r)).1 ∧ xnv (sp_books f n k (T, r)).2 = xnv r ∧ (∀ u, u < 4 → xst (sp_books f n k (T, r)).2 u = xst r u) ∧ ((sp_books f n k (T, r)).1.2.2.2.1 = 0 → T.2.2.2.1 = 0) := by
  intro k
  induction k with
  | zero =>
    intro T r hS hT
    rw [sp_books_0]
    exact ⟨hS, hT, rfl, fun _ _ => rfl, id⟩
  | succ k ih =>
    intro T r hS hT
    rw [sp_books_s]
    by_cases h : sp_wrd f T 3
    · rw [if_pos (show sp_wrd f (T, r).1 3 from h)]
      obtain ⟨a1, a2, a3, a4, a5⟩ := @sp_book1_ok n T r f hS hT
      obtain ⟨b1, b2, b3, b4, b5⟩ := ih (sp_book1 f n (T, r)).1 (sp_book1 f n (T, r)).2 a1 a2
      rw [xLe (sp_book1 f n (T, r))] at b1 b2 b3 b4 b5
      exact ⟨b1, b2, b3.trans a3, fun u hu => (b4 u hu).trans (a4 u hu), fun z => (a5 (b5 z)).1⟩
    · rw [if_neg (show ¬ sp_wrd f (T, r).1 3 from h)]
      exact ⟨hS, hT, rfl, fun _ _ => rfl, id⟩
/-- a row that begins stands between two calls -/
theorem kSn_W {r : Nat → Int32} (hS : kSn r) (h2 : kTw2 r) (h1 : 1 ≤ xnv r) : xWF r := by
  obtain ⟨hB, hb2, h3, h4, h5, h6, n3, n4, n5, nb, nv, nk⟩ := hS
  have hb6 := hB.b6
  have hq0 : xnq r = 0 := by unfold xnq; rw [n3]; rfl
  refine ⟨hB, ⟨hb2.1, h1, ?_, ?_⟩, hb2.2, fun v hv => ?_, fun k hk => ?_, fun q hq => absurd hq (by omega), fun p q _ hq => absurd hq (by omega)⟩
  · rw [n4]; exact xil_nI (n := 0) (by omega) (by omega)
  · rw [n5]; exact xil_nI (n := 10) (by omega) (by omega)
  · obtain ⟨a1, a2, a3, a4⟩ := h3 v hv
    have := h2 v hv
    have a39 : xst r v < 9 := a3.2
    refine ⟨a1, a3, this, ?_, a4⟩
    rw [nv v hv]
    exact xil_nI (n := 0) (by omega) (by omega)
  · obtain ⟨a1, a2, a3, a4, a5⟩ := nk k hk
    have hh := h5 k hk
    rw [a1, a2, a3]
    refine ⟨xil_nI (n := 0) (by omega) (by omega), hh, Or.inl rfl, fun _ => hh, fun z => absurd z (by decide), fun z => absurd z (by decide), fun z => absurd z (by decide), fun z => absurd z (by decide)⟩
def xTm0 (r : Nat → Int32) : Prop := r 4 = 0
theorem sp_asks_ok {f : Nat → Int32} {n : Nat} : ∀ k (T : xTk) (r : Nat → Int32), xWF r → sp_tw f n T → xWF (sp_asks f n k (T, r)).2 ∧ sp_tw f n (sp_asks f n k (T, r)).1 ∧ (∀ i, i ≠ 3 → i < 176 → (sp_asks f n k (T, r)).2 i = r i) := by
  intro k
  induction k with
  | zero =>
    intro T r hS hT
    rw [sp_asks_0]
    exact ⟨hS, hT, fun _ _ _ => rfl⟩
  | succ k ih =>
    intro T r hS hT
    rw [sp_asks_s]
    by_cases h : T.2.2.2.1 = 0 ∧ ¬ T.2.2.1 = 0
    · rw [if_pos (show (T, r).1.2.2.2.1 = 0 ∧ ¬ (T, r).1.2.2.1 = 0 from h)]
      obtain ⟨a1, a2, a3, a4⟩ := @sp_ask1_ok n T r f hS hT
      obtain ⟨b1, b2, b3⟩ := ih (sp_ask1 f n (T, r)).1 (sp_ask1 f n (T, r)).2 a1 a2
      rw [xLe (sp_ask1 f n (T, r))] at b1 b2 b3
      exact ⟨b1, b2, fun i h1 h2 => (b3 i h1 h2).trans (a4 i h1 h2)⟩
    · rw [if_neg (show ¬ ((T, r).1.2.2.2.1 = 0 ∧ ¬ (T, r).1.2.2.1 = 0) from h)]
      exact ⟨hS, hT, fun _ _ _ => rfl⟩
theorem sp_asks_e {f : Nat → Int32} {n k : Nat} {T : xTk} {r : Nat → Int32} (h : ¬ T.2.2.2.1 = 0) : sp_asks f n k (T, r) = (T, r) := by
  cases k with
  | zero => exact sp_asks_0
  | succ k => rw [sp_asks_s, if_neg (show ¬ ((T, r).1.2.2.2.1 = 0 ∧ ¬ (T, r).1.2.2.1 = 0) from fun z => h z.1)]
theorem sp_ask1_bd {f : Nat → Int32} {n : Nat} {T : xTk} {r : Nat → Int32} (hB : xBd r) (hT : sp_tw f n T) : xBd (sp_ask1 f n (T, r)).2 ∧ sp_tw f n (sp_ask1 f n (T, r)).1 ∧ ((sp_ask1 f n (T, r)).1.2.2.2.1 = 0 → xnq (sp_ask1 f n (T, r)).2 = xnq r + 1) := by
  have hT9 : sp_tw f n (sp_ak9 f n T r) := sp_tw_ak9 hT
  rw [sp_ask1_a, sp_ask1_b]
  by_cases h : (sp_ak9 f n T r).2.2.2.1 = 0
  · obtain ⟨h1, h2, h3, h4, h5, h6⟩ := sp_ak9_ok hB h
    rw [if_pos h]
    exact ⟨sp_addq_bd hB h2, sp_tw_exp2 hT9, fun _ => (kAddq_c hB h2).1⟩
  · rw [if_neg h]
    exact ⟨hB, sp_tw_exp2 hT9, fun z => by rw [sp_exp2_e h] at z; exact absurd z h⟩
theorem xBd_5 {r : Nat → Int32} {x : Int32} (h : xBd r) : xBd (upd r 5 x) := by
  have e : ∀ i, i < 5 → upd r 5 x i = r i := fun i hi => zun (by omega)
  unfold xBd xnb xnv xnk xnq
  rw [e 0 (by omega), e 1 (by omega), e 2 (by omega), e 3 (by omega)]
  exact h
theorem sq_hold_ok {f : Nat → Int32} {n : Nat} {T : xTk} {r : Nat → Int32} (hT : sp_tw f n T) : sp_tw f n (sq_hold f n (T, r)).1 ∧ (xWF r → xWF (sq_hold f n (T, r)).2) ∧ (xBd r → xBd (sq_hold f n (T, r)).2) ∧ (∀ i, i ≠ 5 → (sq_hold f n (T, r)).2 i = r i) ∧ ((sq_hold f n (T, r)).1.2.2.2.1 = 0 → T.2.2.2.1 = 0) := by
  rw [sq_hold_u]
  by_cases h : sp_wrd f T 4
  · rw [if_pos (show sp_wrd f (T, r).1 4 from h), sp_hl1_u, sp_hlV_u]
    have hv := @sp_rnV_rng f n (sp_scan f n T) 1 50 (by decide)
    dsimp only
    exact ⟨sp_tw_exp2 (sp_tw_rn (sp_tw_acc hT)), fun hW => xWF_hold hW hv, fun hB => xBd_5 hB, fun i hi => zun hi, fun _ => h.1.1⟩
  · rw [if_neg (show ¬ sp_wrd f (T, r).1 4 from h)]
    exact ⟨hT, id, id, fun _ _ => rfl, id⟩
theorem sp_stop_2 {f : Nat → Int32} {n : Nat} {P : xLk} : (sq_stop f n P).2 2 = P.2 2 := by
  rw [sq_stop_u]
  dsimp only
  split
  · exact (zun (by omega)).trans (zun (by omega))
  · rfl
theorem sp_stops_2 {f : Nat → Int32} {n : Nat} : ∀ k (P : xLk), (sp_stops f n k P).2 2 = P.2 2 := by
  intro k
  induction k with
  | zero => exact fun P => by rw [sp_stops_0]
  | succ k ih =>
    intro P
    rw [sp_stops_s]
    split
    · exact (ih _).trans sp_stop_2
    · rfl
theorem sp_van_2 {f : Nat → Int32} {n : Nat} {P : xLk} : (sq_van f n P).2 2 = P.2 2 := by
  rw [sq_van_u]
  split
  · rw [sp_rte_b, sp_vn8_u, sp_stops_2, sp_stop_2, sp_stop_2, sp_vn5_u]
    show sp_addV P.2 (xnv P.2) (sp_rnV f n (sp_vn3 f n P.1 P.2) 1 9) 2 = P.2 2
    unfold sp_addV
    rw [zun (by omega), zun (by omega)]
  · rfl
theorem sp_vans_2 {f : Nat → Int32} {n : Nat} : ∀ k (P : xLk), (sp_vans f n k P).2 2 = P.2 2 := by
  intro k
  induction k with
  | zero => exact fun P => by rw [sp_vans_0]
  | succ k ih =>
    intro P
    rw [sp_vans_s]
    split
    · exact (ih _).trans sp_van_2
    · rfl
section RL
variable {w : xW} {l : Nat → Nat → Int64} {t : Nat} {sc : xm_Sc} {d n : Nat} {T : xTk} {r : Nat → Int32}
/-- a text without an error gives a row that stands between two calls -/
theorem sp_all_ok {f : Nat → Int32} (hT : sp_tw f n T) (h : (sp_all f n (T, r)).1.2.2.2.1 = 0) : xWF (sp_all f n (T, r)).2 ∧ xRm (sp_all f n (T, r)).2 ∧ (sp_all f n (T, r)).2 4 = 0 := by
  have hT3 : sp_tw f n (sp_h3 f n T) := sp_tw_h3 hT
  obtain ⟨eb, b2, b6⟩ := @sp_hb_ok f n T
  obtain ⟨s1, s2, s3, s4⟩ := @kSn_beg r (sp_hb f n T) b2 b6
  obtain ⟨v1, v2, v3⟩ := @sp_van_ok f n (sp_h3 f n T) (sp_beg r (sp_hb f n T)) s1 hT3
  have e4 : sq_van f n (sp_h3 f n T, sp_beg r (sp_hb f n T)) = sp_h4 f n (T, r) := (sp_h4_u (P := (T, r))).symm
  rw [e4] at v1 v2 v3
  obtain ⟨u1, u2, u3⟩ := @sp_vans_ok f n 4 (sp_h4 f n (T, r)).1 (sp_h4 f n (T, r)).2 v1 v2
  have e5 : sp_vans f n 4 ((sp_h4 f n (T, r)).1, (sp_h4 f n (T, r)).2) = sp_h5 f n (T, r) := by rw [sp_h5_u]
  rw [e5] at u1 u2 u3
  obtain ⟨q1, q2, q3, q4, q5⟩ := @sp_books_ok f n 21 (sp_h5 f n (T, r)).1 (sp_h5 f n (T, r)).2 u1 u2
  have e6 : sp_books f n 21 ((sp_h5 f n (T, r)).1, (sp_h5 f n (T, r)).2) = sp_h6 f n (T, r) := by rw [sp_h6_u]
  rw [e6] at q1 q2 q3 q4 q5
  obtain ⟨p1, p2, p3, p4, p5⟩ := @sq_hold_ok f n (sp_h6 f n (T, r)).1 (sp_h6 f n (T, r)).2 q2
  have e7 : sq_hold f n ((sp_h6 f n (T, r)).1, (sp_h6 f n (T, r)).2) = sp_h7 f n (T, r) := by rw [sp_h7_u]
  rw [e7] at p1 p2 p3 p4 p5
  have h7 : (sp_h7 f n (T, r)).1.2.2.2.1 = 0 := Decidable.byContradiction fun z => by
    have := @sp_asks_e f n 41 (sp_h7 f n (T, r)).1 (sp_h7 f n (T, r)).2 z
    rw [← sp_all_eq, this] at h
    exact z h
  have h6 := p5 h7
  have h5 := q5 h6
  obtain ⟨h4, t5, x5⟩ := u3 h5
  obtain ⟨h3, x4, y4, g4⟩ := v3 h4
  have hW6 : xWF (sp_h6 f n (T, r)).2 := by
    refine kSn_W q1 (fun u hu => ?_) ?_
    · have hu' : u < xnv (sp_h5 f n (T, r)).2 := by rw [← q3]; exact hu
      have h5v := u1.1.v4
      have e := q4 u (by have := u1.1.v4; exact Nat.lt_of_lt_of_le hu' this)
      have t := t5 (fun y hy => by
        have hy' : y < xnv (sp_beg r (sp_hb f n T)) + 1 := by rw [← x4]; exact hy
        have : y = xnv (sp_beg r (sp_hb f n T)) := by omega
        rw [this]
        exact g4) u hu'
      exact Nat.le_trans t (Nat.le_of_eq e.symm)
    · have e : xnv (sp_h6 f n (T, r)).2 = xnv (sp_h5 f n (T, r)).2 := q3
      have e' : xnv (sp_h4 f n (T, r)).2 = xnv (sp_beg r (sp_hb f n T)) + 1 := x4
      have : xnv (sp_h4 f n (T, r)).2 ≤ xnv (sp_h5 f n (T, r)).2 := x5
      omega
  have hW7 : xWF (sp_h7 f n (T, r)).2 := p2 hW6
  obtain ⟨a1, a2, a3⟩ := @sp_asks_ok f n 41 (sp_h7 f n (T, r)).1 (sp_h7 f n (T, r)).2 hW7 p1
  rw [sp_all_eq] at a1 a2 a3
  have low : ∀ i, i ≠ 3 → i ≠ 5 → i < 176 → (sp_all f n (T, r)).2 i = (sp_h6 f n (T, r)).2 i := fun i h1 h2 h3 => (a3 i h1 h3).trans (p4 i h2)
  refine ⟨a1, fun v hv => ?_, ?_⟩
  · have e1 : xnv (sp_all f n (T, r)).2 = xnv (sp_h6 f n (T, r)).2 := by unfold xnv; rw [low 1 (by omega) (by omega) (by omega)]
    have hB6 : xBd (sp_h6 f n (T, r)).2 := q1.1
    have := hB6.v4
    rw [e1] at hv
    rw [low (12 + 11 * v) (by omega) (by omega) (by omega)]
    exact (q1.2.2.1 v hv).2.1
  · rw [low 4 (by omega) (by omega) (by omega)]
    exact q1.2.2.2.2.2.2.2.1
end RL
