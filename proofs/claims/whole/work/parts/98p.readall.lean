/-! THE REFERENCE reads a whole text -/
def sp_vans (f : Nat → Int32) (n : Nat) : Nat → xLk → xLk
  | 0, P => P
  | k + 1, P => if sp_wrd f P.1 35 then sp_vans f n k (sp_van f n P) else P
def sp_books (f : Nat → Int32) (n : Nat) : Nat → xLk → xLk
  | 0, P => P
  | k + 1, P => if sp_wrd f P.1 27 then sp_books f n k (sp_book1 f n P) else P
def sp_asks (f : Nat → Int32) (n : Nat) : Nat → xLk → xLk
  | 0, P => P
  | k + 1, P => if P.1.2.2.2.1 = 0 ∧ ¬ P.1.2.2.1 = 0 then sp_asks f n k (sp_ask1 f n P) else P
theorem sp_vans_s {f : Nat → Int32} {n k : Nat} {P : xLk} : sp_vans f n (k + 1) P = if sp_wrd f P.1 35 then sp_vans f n k (sp_van f n P) else P := rfl
theorem sp_books_s {f : Nat → Int32} {n k : Nat} {P : xLk} : sp_books f n (k + 1) P = if sp_wrd f P.1 27 then sp_books f n k (sp_book1 f n P) else P := rfl
theorem sp_asks_s {f : Nat → Int32} {n k : Nat} {P : xLk} : sp_asks f n (k + 1) P = if P.1.2.2.2.1 = 0 ∧ ¬ P.1.2.2.1 = 0 then sp_asks f n k (sp_ask1 f n P) else P := rfl
def sp_hl1 (f : Nat → Int32) (n : Nat) (T : xTk) : xTk := sp_rnT f n (sp_scan f n T) 1 50
def sp_hlV (f : Nat → Int32) (n : Nat) (T : xTk) : Int32 := sp_rnV f n (sp_scan f n T) 1 50
def sp_hold (f : Nat → Int32) (n : Nat) (P : xLk) : xLk := if sp_wrd f P.1 36 then (sp_exp2 f n (sp_hl1 f n P.1) 59, upd P.2 5 (sp_hlV f n P.1)) else P
def sp_h1 (f : Nat → Int32) (n : Nat) (T : xTk) : xTk := sp_expW f n T 34
def sp_h2 (f : Nat → Int32) (n : Nat) (T : xTk) : xTk := sp_rnT f n (sp_h1 f n T) 2 6
def sp_hb (f : Nat → Int32) (n : Nat) (T : xTk) : Nat := (sp_rnV f n (sp_h1 f n T) 2 6).toNatClampNeg
def sp_h3 (f : Nat → Int32) (n : Nat) (T : xTk) : xTk := sp_exp2 f n (sp_h2 f n T) 59
def sp_h4 (f : Nat → Int32) (n : Nat) (P : xLk) : xLk := sp_van f n (sp_h3 f n P.1, sp_beg P.2 (sp_hb f n P.1))
def sp_h5 (f : Nat → Int32) (n : Nat) (P : xLk) : xLk := sp_vans f n 4 (sp_h4 f n P)
def sp_h6 (f : Nat → Int32) (n : Nat) (P : xLk) : xLk := sp_books f n 21 (sp_h5 f n P)
def sp_h7 (f : Nat → Int32) (n : Nat) (P : xLk) : xLk := sp_hold f n (sp_h6 f n P)
def sp_all (f : Nat → Int32) (n : Nat) (P : xLk) : xLk := sp_asks f n 41 (sp_h7 f n P)
theorem sp_hb_ok {f : Nat → Int32} {n : Nat} {T : xTk} : sp_rnV f n (sp_h1 f n T) 2 6 = nI (sp_hb f n T) ∧ 2 ≤ sp_hb f n T ∧ sp_hb f n T ≤ 6 := by
  have h := @sp_rnV_rng f n (sp_h1 f n T) 2 6 (by decide)
  obtain ⟨e, hl⟩ := zrg2 (m := 7) (by omega) ⟨Int32.le_trans (by decide) h.1, Int32.le_trans h.2 (by decide)⟩
  refine ⟨e, Decidable.byContradiction fun z => ?_, ?_⟩
  · have h1 := h.1
    rw [e] at h1
    exact nI_ge (a := (sp_rnV f n (sp_h1 f n T) 2 6).toNatClampNeg) (b := 2) (by unfold sp_hb at z; omega) (by omega) h1
  · unfold sp_hb
    omega
theorem kSn_beg {r : Nat → Int32} {b : Nat} (h2 : 2 ≤ b) (h6 : b ≤ 6) : kSn (sp_beg r b) ∧ xnv (sp_beg r b) = 0 ∧ xnk (sp_beg r b) = 0 ∧ xnb (sp_beg r b) = b := by
  have z : ∀ j, j < 296 → j ≠ 0 → j ≠ 5 → ¬ (6 ≤ j ∧ j < 6 + b) → sp_beg r b j = 0 := fun j h1 h2 h3 h4 => sp_beg_h h1 h2 h3 h4
  have e0 : sp_beg r b 0 = nI b := by
    unfold sp_beg sp_begO
    rw [if_neg (by omega), zun (by omega), zu1]
  have e5 : sp_beg r b 5 = 10 := by
    unfold sp_beg sp_begO
    rw [if_neg (by omega), zu1]
  have eo : ∀ i, i < b → sp_beg r b (6 + i) = 1 := fun i hi => by
    unfold sp_beg sp_begO
    rw [if_pos (by omega)]
  have xb : xnb (sp_beg r b) = b := by unfold xnb; rw [e0, nI_clamp (by omega)]
  have x1 : sp_beg r b 1 = 0 := z 1 (by omega) (by omega) (by omega) (by omega)
  have x2 : sp_beg r b 2 = 0 := z 2 (by omega) (by omega) (by omega) (by omega)
  have x3 : sp_beg r b 3 = 0 := z 3 (by omega) (by omega) (by omega) (by omega)
  have xv : xnv (sp_beg r b) = 0 := by unfold xnv; rw [x1]; rfl
  have xk : xnk (sp_beg r b) = 0 := by unfold xnk; rw [x2]; rfl
  have xq : xnq (sp_beg r b) = 0 := by unfold xnq; rw [x3]; rfl
  refine ⟨⟨?_, ⟨by omega, fun i hi => ?_⟩, fun u hu => absurd hu (by omega), fun u _ hu => ⟨z _ (by omega) (by omega) (by omega) (by omega), z _ (by omega) (by omega) (by omega) (by omega)⟩, fun k hk => absurd hk (by omega), fun k _ hk => z _ (by omega) (by omega) (by omega) (by omega), x3, z 4 (by omega) (by omega) (by omega) (by omega), e5, fun i hi => eo i (by omega), fun u hu => absurd hu (by omega), fun k hk => absurd hk (by omega)⟩, xv, xk, xb⟩
  · unfold xBd
    rw [xb, xv, xk, xq, e0, x1, x2, x3]
    exact ⟨⟨rfl, h6⟩, ⟨rfl, by omega⟩, ⟨rfl, by omega⟩, rfl, by omega⟩
  · by_cases g : i < b
    · exact Or.inr (eo i g)
    · exact Or.inl (z (6 + i) (by omega) (by omega) (by omega) (by omega))
theorem sp_tw_acc {f : Nat → Int32} {n : Nat} {T : xTk} (h : sp_tw f n T) : sp_tw f n (sp_scan f n T) := sp_tw_scan h.1
def kTw2 (r : Nat → Int32) : Prop := ∀ u, u < xnv r → 2 ≤ xst r u
theorem sp_vans_ok {f : Nat → Int32} {n : Nat} : ∀ k (T : xTk) (r : Nat → Int32), kSn r → sp_tw f n T → kSn (sp_vans f n k (T, r)).2 ∧ sp_tw f n (sp_vans f n k (T, r)).1 ∧ ((sp_vans f n k (T, r)).1.2.2.2.1 = 0 → T.2.2.2.1 = 0 ∧ (kTw2 r → kTw2 (sp_vans f n k (T, r)).2) ∧ xnv r ≤ xnv (sp_vans f n k (T, r)).2) := by
  intro k
  induction k with
  | zero => exact fun T r hS hT => ⟨hS, hT, fun z => ⟨z, id, Nat.le_refl _⟩⟩
  | succ k ih =>
    intro T r hS hT
    rw [sp_vans_s]
    by_cases h : sp_wrd f T 35
    · rw [if_pos (show sp_wrd f (T, r).1 35 from h)]
      obtain ⟨a1, a2, a3⟩ := @sp_van_ok f n T r hS hT
      obtain ⟨b1, b2, b3⟩ := ih (sp_van f n (T, r)).1 (sp_van f n (T, r)).2 a1 a2
      refine ⟨b1, b2, fun z => ?_⟩
      obtain ⟨c1, c2, c3⟩ := b3 z
      obtain ⟨d1, d2, d3, d4⟩ := a3 c1
      refine ⟨d1, fun g => c2 fun u hu => ?_, by omega⟩
      rw [d2] at hu
      by_cases e : u = xnv r
      · subst e
        exact d4
      · rw [d3 u (by omega)]
        exact g u (by omega)
    · rw [if_neg (show ¬ sp_wrd f (T, r).1 35 from h)]
      exact ⟨hS, hT, fun z => ⟨z, id, Nat.le_refl _⟩⟩
theorem sp_books_ok {f : Nat → Int32} {n : Nat} : ∀ k (T : xTk) (r : Nat → Int32), kSn r → sp_tw f n T → kSn (sp_books f n k (T, r)).2 ∧ sp_tw f n (sp_books f n k (T, r)).1 ∧ xnv (sp_books f n k (T, r)).2 = xnv r ∧ (∀ u, u < 4 → xst (sp_books f n k (T, r)).2 u = xst r u) ∧ ((sp_books f n k (T, r)).1.2.2.2.1 = 0 → T.2.2.2.1 = 0) := by
  intro k
  induction k with
  | zero => exact fun T r hS hT => ⟨hS, hT, rfl, fun _ _ => rfl, id⟩
  | succ k ih =>
    intro T r hS hT
    rw [sp_books_s]
    by_cases h : sp_wrd f T 27
    · rw [if_pos (show sp_wrd f (T, r).1 27 from h)]
      obtain ⟨a1, a2, a3, a4, a5⟩ := @sp_book1_ok n T r f hS hT
      obtain ⟨b1, b2, b3, b4, b5⟩ := ih (sp_book1 f n (T, r)).1 (sp_book1 f n (T, r)).2 a1 a2
      exact ⟨b1, b2, b3.trans a3, fun u hu => (b4 u hu).trans (a4 u hu), fun z => (a5 (b5 z)).1⟩
    · rw [if_neg (show ¬ sp_wrd f (T, r).1 27 from h)]
      exact ⟨hS, hT, rfl, fun _ _ => rfl, id⟩
/-- a row that begins stands between two calls -/
theorem kSn_W {r : Nat → Int32} (hS : kSn r) (h2 : kTw2 r) (h1 : 1 ≤ xnv r) : xWF r := by
  obtain ⟨hB, hb2, h3, h4, h5, h6, n3, n4, n5, nb, nv, nk⟩ := hS
  have hb6 := hB.b6
  have hq0 : xnq r = 0 := by unfold xnq; rw [n3]; rfl
  refine ⟨hB, ⟨hb2.1, h1, ?_, ?_⟩, hb2.2, fun v hv => ?_, fun k hk => ?_, fun q hq => absurd hq (by omega), fun p q _ hq => absurd hq (by omega)⟩
  · rw [n4]; exact xil_nI (n := 0) (by omega) (by omega)
  · rw [n5]; exact xil_nI (n := 10) (by omega) (by omega)
  · obtain ⟨a1, a2, a3, a4⟩ := h3 v hv
    have := h2 v hv
    refine ⟨a1, a3, this, ?_, a4⟩
    rw [nv v hv]
    exact xil_nI (n := 0) (by omega) (by omega)
  · obtain ⟨a1, a2, a3, a4, a5⟩ := nk k hk
    have hh := h5 k hk
    rw [a1, a2, a3]
    refine ⟨xil_nI (n := 0) (by omega) (by omega), hh, Or.inl rfl, fun _ => hh, fun z => absurd z (by decide), fun z => absurd z (by decide), fun z => absurd z (by decide), fun z => absurd z (by decide)⟩
def xTm0 (r : Nat → Int32) : Prop := r 4 = 0
theorem sp_asks_ok {f : Nat → Int32} {n : Nat} : ∀ k (T : xTk) (r : Nat → Int32), xWF r → sp_tw f n T → xWF (sp_asks f n k (T, r)).2 ∧ sp_tw f n (sp_asks f n k (T, r)).1 ∧ (∀ i, i ≠ 3 → i < 176 → (sp_asks f n k (T, r)).2 i = r i) := by
  intro k
  induction k with
  | zero => exact fun T r hS hT => ⟨hS, hT, fun _ _ _ => rfl⟩
  | succ k ih =>
    intro T r hS hT
    rw [sp_asks_s]
    by_cases h : T.2.2.2.1 = 0 ∧ ¬ T.2.2.1 = 0
    · rw [if_pos (show (T, r).1.2.2.2.1 = 0 ∧ ¬ (T, r).1.2.2.1 = 0 from h)]
      obtain ⟨a1, a2, a3, a4⟩ := @sp_ask1_ok n T r f hS hT
      obtain ⟨b1, b2, b3⟩ := ih (sp_ask1 f n (T, r)).1 (sp_ask1 f n (T, r)).2 a1 a2
      exact ⟨b1, b2, fun i h1 h2 => (b3 i h1 h2).trans (a4 i h1 h2)⟩
    · rw [if_neg (show ¬ ((T, r).1.2.2.2.1 = 0 ∧ ¬ (T, r).1.2.2.1 = 0) from h)]
      exact ⟨hS, hT, fun _ _ _ => rfl⟩
theorem sp_asks_e {f : Nat → Int32} {n k : Nat} {T : xTk} {r : Nat → Int32} (h : ¬ T.2.2.2.1 = 0) : sp_asks f n k (T, r) = (T, r) := by
  cases k with
  | zero => rfl
  | succ k => rw [sp_asks_s, if_neg (show ¬ ((T, r).1.2.2.2.1 = 0 ∧ ¬ (T, r).1.2.2.1 = 0) from fun z => h z.1)]
theorem sp_ask1_bd {f : Nat → Int32} {n : Nat} {T : xTk} {r : Nat → Int32} (hB : xBd r) (hT : sp_tw f n T) : xBd (sp_ask1 f n (T, r)).2 ∧ sp_tw f n (sp_ask1 f n (T, r)).1 ∧ ((sp_ask1 f n (T, r)).1.2.2.2.1 = 0 → xnq (sp_ask1 f n (T, r)).2 = xnq r + 1) := by
  have hT9 : sp_tw f n (sp_ak9 f n T r) := sp_tw_rn (sp_tw_adv (sp_tw_check (sp_tw_check (sp_tw_check (sp_tw_rn (sp_tw_adv (sp_tw_check (sp_tw_check hT))))))))
  unfold sp_ask1 sp_akr
  dsimp only
  by_cases h : (sp_ak9 f n T r).2.2.2.1 = 0
  · obtain ⟨h1, h2, h3, h4, h5, h6⟩ := sp_ak9_ok hB h
    rw [if_pos h]
    exact ⟨sp_addq_bd hB h2, sp_tw_exp2 hT9, fun _ => (kAddq_c hB h2).1⟩
  · rw [if_neg h]
    exact ⟨hB, sp_tw_exp2 hT9, fun z => by rw [sp_exp2_e h] at z; exact absurd z h⟩
theorem xBd_5 {r : Nat → Int32} {x : Int32} (h : xBd r) : xBd (upd r 5 x) := by
  have e : ∀ i, i < 5 → upd r 5 x i = r i := fun i hi => zun (by omega)
  unfold xBd xnb xnv xnk xnq
  rw [e 0 (by omega), e 1 (by omega), e 2 (by omega), e 3 (by omega)]
  exact h
theorem sp_hold_ok {f : Nat → Int32} {n : Nat} {T : xTk} {r : Nat → Int32} (hT : sp_tw f n T) : sp_tw f n (sp_hold f n (T, r)).1 ∧ (xWF r → xWF (sp_hold f n (T, r)).2) ∧ (xBd r → xBd (sp_hold f n (T, r)).2) ∧ (∀ i, i ≠ 5 → (sp_hold f n (T, r)).2 i = r i) ∧ ((sp_hold f n (T, r)).1.2.2.2.1 = 0 → T.2.2.2.1 = 0) := by
  unfold sp_hold
  by_cases h : sp_wrd f T 36
  · rw [if_pos (show sp_wrd f (T, r).1 36 from h)]
    have hv := @sp_rnV_rng f n (sp_scan f n T) 1 50 (by decide)
    exact ⟨sp_tw_exp2 (sp_tw_rn (sp_tw_acc hT)), fun hW => xWF_hold hW hv, fun hB => xBd_5 hB, fun i hi => zun hi, fun _ => h.1.1⟩
  · rw [if_neg (show ¬ sp_wrd f (T, r).1 36 from h)]
    exact ⟨hT, id, id, fun _ _ => rfl, id⟩
theorem sp_stop_2 {f : Nat → Int32} {n : Nat} {P : xLk} : (sp_stop f n P).2 2 = P.2 2 := by
  unfold sp_stop
  dsimp only
  split
  · exact (zun (by omega)).trans (zun (by omega))
  · rfl
theorem sp_stops_2 {f : Nat → Int32} {n : Nat} : ∀ k (P : xLk), (sp_stops f n k P).2 2 = P.2 2 := by
  intro k
  induction k with
  | zero => exact fun P => rfl
  | succ k ih =>
    intro P
    rw [sp_stops_s]
    split
    · exact (ih _).trans sp_stop_2
    · rfl
theorem sp_van_2 {f : Nat → Int32} {n : Nat} {P : xLk} : (sp_van f n P).2 2 = P.2 2 := by
  unfold sp_van
  split
  · show (sp_vn8 f n P.1 P.2).2 2 = _
    unfold sp_vn8
    rw [sp_stops_2, sp_stop_2, sp_stop_2]
    exact (zun (by omega)).trans (zun (by omega))
  · rfl
theorem sp_vans_2 {f : Nat → Int32} {n : Nat} : ∀ k (P : xLk), (sp_vans f n k P).2 2 = P.2 2 := by
  intro k
  induction k with
  | zero => exact fun P => rfl
  | succ k ih =>
    intro P
    rw [sp_vans_s]
    split
    · exact (ih _).trans sp_van_2
    · rfl
section RL
variable {w : xW} {l : Nat → Nat → Int64} {t : Nat} {sc : xm_Sc} {d n : Nat} {T : xTk} {r : Nat → Int32}
theorem z286_30 (hn : (w 3).1 7 = nI n) (h8 : n ≤ 800) {i1 : Int32} : ∀ k (T : xTk) (r : Nat → Int32), kSn r → sp_tw ((w 3).2 8) n T → (T.2.2.2.1 = 0 → xnv r + k = 5) → xm_R sc xt_M (d + 6) 286 30 [.ref 191, .int i1] [] (xem (xPw (xRs w r) T) l t) = xm_R sc xt_M (d + 6) 286 54 [.ref 191, .int i1] [] (xem (xPw (xRs w (sp_vans ((w 3).2 8) n k (T, r)).2) (sp_vans ((w 3).2 8) n k (T, r)).1) l t) := by
  intro k
  induction k with
  | zero =>
    intro T r hS hT hk
    have := hS.1.v4
    rw [yb_286_30, xgPb, zbs, if_neg (fun z => absurd (hk z) (by omega))]
    rfl
  | succ k ih =>
    intro T r hS hT hk
    rw [sp_vans_s, yb_286_30, xgPb, zbs]
    by_cases h0 : T.2.2.2.1 = 0
    · rw [if_pos h0, if_pos xiM, zl_276 (by decide) h8 hT, zbs, xk_I]
      by_cases h : sp_wrd ((w 3).2 8) T 35
      · obtain ⟨a1, a2, a3⟩ := @sp_van_ok ((w 3).2 8) n T r hS hT
        rw [zB_tt h, if_neg (show ¬ (1 : Int32) = 0 by decide), if_pos xiM, zc_282 hn h8 hT hS, zbs, xk_v, if_pos (show sp_wrd ((w 3).2 8) (T, r).1 35 from h)]
        have := hk h0
        exact ih _ _ a1 a2 (fun z => by rw [(a3 z).2.1]; omega)
      · rw [zB_ff h, if_pos rfl, if_neg (show ¬ sp_wrd ((w 3).2 8) (T, r).1 35 from h)]
    · rw [if_neg h0, if_neg (show ¬ sp_wrd ((w 3).2 8) (T, r).1 35 from fun z => h0 z.1.1)]
theorem z286_54 (hn : (w 3).1 7 = nI n) (h8 : n ≤ 800) {i1 : Int32} : ∀ k (T : xTk) (r : Nat → Int32), kSn r → sp_tw ((w 3).2 8) n T → (T.2.2.2.1 = 0 → xnk r + k = 21) → xm_R sc xt_M (d + 6) 286 54 [.ref 191, .int i1] [] (xem (xPw (xRs w r) T) l t) = xm_R sc xt_M (d + 6) 286 77 [.ref 191, .int i1] [] (xem (xPw (xRs w (sp_books ((w 3).2 8) n k (T, r)).2) (sp_books ((w 3).2 8) n k (T, r)).1) l t) := by
  intro k
  induction k with
  | zero =>
    intro T r hS hT hk
    have := hS.1.k20
    rw [yb_286_54, xgPb, zbs, if_neg (fun z => absurd (hk z) (by omega))]
    rfl
  | succ k ih =>
    intro T r hS hT hk
    rw [sp_books_s, yb_286_54, xgPb, zbs]
    by_cases h0 : T.2.2.2.1 = 0
    · rw [if_pos h0, if_pos xiM, zl_276 (by decide) h8 hT, zbs, xk_I]
      by_cases h : sp_wrd ((w 3).2 8) T 27
      · obtain ⟨a1, a2, a3, a4, a5⟩ := @sp_book1_ok n T r ((w 3).2 8) hS hT
        rw [zB_tt h, if_neg (show ¬ (1 : Int32) = 0 by decide), if_pos xiM, zc_284 hn h8 hT hS, zbs, xk_v, if_pos (show sp_wrd ((w 3).2 8) (T, r).1 27 from h)]
        have := hk h0
        exact ih _ _ a1 a2 (fun z => by rw [(a5 z).2]; omega)
      · rw [zB_ff h, if_pos rfl, if_neg (show ¬ sp_wrd ((w 3).2 8) (T, r).1 27 from h)]
    · rw [if_neg h0, if_neg (show ¬ sp_wrd ((w 3).2 8) (T, r).1 27 from fun z => h0 z.1.1)]
theorem z286_106 (hn : (w 3).1 7 = nI n) (h8 : n ≤ 800) {i1 : Int32} : ∀ k (T : xTk) (r : Nat → Int32), xBd r → sp_tw ((w 3).2 8) n T → (T.2.2.2.1 = 0 → xnq r + k = 41) → xm_R sc xt_M (d + 6) 286 106 [.ref 191, .int i1] [] (xem (xPw (xRs w r) T) l t) = some (.inl none, xem (xPw (xRs w (sp_asks ((w 3).2 8) n k (T, r)).2) (sp_asks ((w 3).2 8) n k (T, r)).1) l t) := by
  intro k
  induction k with
  | zero =>
    intro T r hS hT hk
    have := hS.q40
    rw [yb_286_106, xgPb, zbs, if_neg (fun z => absurd (hk z) (by omega)), yb_286_127]
    rfl
  | succ k ih =>
    intro T r hS hT hk
    rw [sp_asks_s, yb_286_106, xgPb, zbs]
    by_cases h0 : T.2.2.2.1 = 0
    · rw [if_pos h0, xgPa, zbs]
      by_cases h : T.2.2.1 = 0
      · rw [if_pos h, yb_286_127, if_neg (show ¬ ((T, r).1.2.2.2.1 = 0 ∧ ¬ (T, r).1.2.2.1 = 0) from fun z => z.2 h)]
      · obtain ⟨a1, a2, a3⟩ := @sp_ask1_bd ((w 3).2 8) n T r hS hT
        rw [if_neg h, if_pos xiM, zc_285 hn h8 hT hS, zbs, xk_v, if_pos (show (T, r).1.2.2.2.1 = 0 ∧ ¬ (T, r).1.2.2.1 = 0 from ⟨h0, h⟩)]
        have := hk h0
        exact ih _ _ a1 a2 (fun z => by rw [a3 z]; omega)
    · rw [if_neg h0, yb_286_127, if_neg (show ¬ ((T, r).1.2.2.2.1 = 0 ∧ ¬ (T, r).1.2.2.1 = 0) from fun z => h0 z.1)]
theorem z286_77 (hn : (w 3).1 7 = nI n) (h8 : n ≤ 800) {i1 : Int32} (hB : xBd r) (hT : sp_tw ((w 3).2 8) n T) : xm_R sc xt_M (d + 6) 286 77 [.ref 191, .int i1] [] (xem (xPw (xRs w r) T) l t) = xm_R sc xt_M (d + 6) 286 106 [.ref 191, .int i1] [] (xem (xPw (xRs w (sp_hold ((w 3).2 8) n (T, r)).2) (sp_hold ((w 3).2 8) n (T, r)).1) l t) := by
  have hTs := @sp_tw_acc ((w 3).2 8) n T hT
  rw [yb_286_77, if_pos xiM, zl_277 hn (by decide) h8 hT, zbs, xk_I]
  unfold sp_acc sp_hold
  by_cases h : sp_wrd ((w 3).2 8) T 36
  · rw [zB_tt h, if_neg (show ¬ (1 : Int32) = 0 by decide), if_pos h, if_pos (show sp_wrd ((w 3).2 8) (T, r).1 36 from h), xgM_5, zbs, if_pos xiM, zl_281 hn h8 hTs, zbs, xk_I]
    have e5 : ∀ T' x, xm_wI (xem (xPw (xRs w r) T') l t) (xm (xri (xPw (xRs w r) (sp_scan ((w 3).2 8) n T) 3))) 0 5 x = some (xem (xPw (xRs w (upd r 5 x)) T') l t) := fun T' x => by
      rw [xri_Pw]
      have := @zl_w5 w l t T' r x
      rw [xri_Pw] at this
      exact this
    rw [e5, zbs, if_pos xiM, zl_279 hn h8 (sp_tw_rn hTs), zbs, xk_v]
    rfl
  · rw [zB_ff h, if_pos rfl, if_neg h, if_neg (show ¬ sp_wrd ((w 3).2 8) (T, r).1 36 from h)]
theorem zc_286 (hn : (w 3).1 7 = nI n) (h8 : n ≤ 800) (hT : sp_tw ((w 3).2 8) n T) : xm_C sc xt_M (d + 7) 286 [.ref 191] (xem (xPw (xRs w r) T) l t) = some (.inl none, xem (xPw (xRs w (sp_all ((w 3).2 8) n (T, r)).2) (sp_all ((w 3).2 8) n (T, r)).1) l t) := by
  have hT1 : sp_tw ((w 3).2 8) n (sp_h1 ((w 3).2 8) n T) := sp_tw_adv (sp_tw_check hT)
  have hT2 : sp_tw ((w 3).2 8) n (sp_h2 ((w 3).2 8) n T) := sp_tw_rn hT1
  have hT3 : sp_tw ((w 3).2 8) n (sp_h3 ((w 3).2 8) n T) := sp_tw_exp2 hT2
  obtain ⟨eb, b2, b6⟩ := @sp_hb_ok ((w 3).2 8) n T
  obtain ⟨s1, s2, s3, s4⟩ := @kSn_beg r (sp_hb ((w 3).2 8) n T) b2 b6
  have c1 := @zl_278 w l t sc d n T r 34 hn (by decide) h8 hT
  have c2 := @zl_281 w l t sc (d + 1) n (sp_h1 ((w 3).2 8) n T) r 2 6 hn h8 hT1
  have c3 := @zl_279 w l t sc (d + 1) n (sp_h2 ((w 3).2 8) n T) r 59 hn h8 hT2
  have c4 := @zl_171 w l t sc (d + 5) (sp_h3 ((w 3).2 8) n T) r (sp_hb ((w 3).2 8) n T) (by omega) b6
  have c5 := @zc_282 w l t sc d n (sp_h3 ((w 3).2 8) n T) (sp_beg r (sp_hb ((w 3).2 8) n T)) hn h8 hT3 s1
  have e1 : sp_expW ((w 3).2 8) n T 34 = sp_h1 ((w 3).2 8) n T := rfl
  have e2 : sp_rnT ((w 3).2 8) n (sp_h1 ((w 3).2 8) n T) 2 6 = sp_h2 ((w 3).2 8) n T := rfl
  have e3 : sp_exp2 ((w 3).2 8) n (sp_h2 ((w 3).2 8) n T) 59 = sp_h3 ((w 3).2 8) n T := rfl
  rw [e1] at c1
  rw [e2, eb] at c2
  rw [e3] at c3
  rw [yc_286, if_pos xiM, c1, zbs, xk_v, if_pos xiM, c2, zbs, xk_I, if_pos xiM, c3, zbs, xk_v, if_pos xiM, c4, zbs, xk_v, if_pos xiM, c5, zbs, xk_v]
  obtain ⟨v1, v2, v3⟩ := @sp_van_ok ((w 3).2 8) n (sp_h3 ((w 3).2 8) n T) (sp_beg r (sp_hb ((w 3).2 8) n T)) s1 hT3
  have e4 : sp_van ((w 3).2 8) n (sp_h3 ((w 3).2 8) n T, sp_beg r (sp_hb ((w 3).2 8) n T)) = sp_h4 ((w 3).2 8) n (T, r) := rfl
  rw [e4] at v1 v2 v3 ⊢
  have k4 : xnk (sp_h4 ((w 3).2 8) n (T, r)).2 = 0 := (congrArg Int32.toNatClampNeg sp_van_2).trans s3
  have z30 := @z286_30 w l t sc d n hn h8 (nI (sp_hb ((w 3).2 8) n T)) 4 (sp_h4 ((w 3).2 8) n (T, r)).1 (sp_h4 ((w 3).2 8) n (T, r)).2 v1 v2 (fun z => by rw [(v3 z).2.1, s2])
  obtain ⟨u1, u2, u3⟩ := @sp_vans_ok ((w 3).2 8) n 4 (sp_h4 ((w 3).2 8) n (T, r)).1 (sp_h4 ((w 3).2 8) n (T, r)).2 v1 v2
  have e5 : sp_vans ((w 3).2 8) n 4 ((sp_h4 ((w 3).2 8) n (T, r)).1, (sp_h4 ((w 3).2 8) n (T, r)).2) = sp_h5 ((w 3).2 8) n (T, r) := rfl
  rw [e5] at z30 u1 u2
  have k5 : xnk (sp_h5 ((w 3).2 8) n (T, r)).2 = 0 := (congrArg Int32.toNatClampNeg (sp_vans_2 4 (sp_h4 ((w 3).2 8) n (T, r)))).trans k4
  have z54 := @z286_54 w l t sc d n hn h8 (nI (sp_hb ((w 3).2 8) n T)) 21 (sp_h5 ((w 3).2 8) n (T, r)).1 (sp_h5 ((w 3).2 8) n (T, r)).2 u1 u2 (fun z => by rw [k5])
  obtain ⟨q1, q2, q3, q4, q5⟩ := @sp_books_ok ((w 3).2 8) n 21 (sp_h5 ((w 3).2 8) n (T, r)).1 (sp_h5 ((w 3).2 8) n (T, r)).2 u1 u2
  have e6 : sp_books ((w 3).2 8) n 21 ((sp_h5 ((w 3).2 8) n (T, r)).1, (sp_h5 ((w 3).2 8) n (T, r)).2) = sp_h6 ((w 3).2 8) n (T, r) := rfl
  rw [e6] at z54 q1 q2
  have z77 := @z286_77 w l t sc d n (sp_h6 ((w 3).2 8) n (T, r)).1 (sp_h6 ((w 3).2 8) n (T, r)).2 hn h8 (nI (sp_hb ((w 3).2 8) n T)) q1.1 q2
  obtain ⟨p1, p2, p3, p4, p5⟩ := @sp_hold_ok ((w 3).2 8) n (sp_h6 ((w 3).2 8) n (T, r)).1 (sp_h6 ((w 3).2 8) n (T, r)).2 q2
  have e7 : sp_hold ((w 3).2 8) n ((sp_h6 ((w 3).2 8) n (T, r)).1, (sp_h6 ((w 3).2 8) n (T, r)).2) = sp_h7 ((w 3).2 8) n (T, r) := rfl
  rw [e7] at z77 p1 p3 p4
  have k7 : xnq (sp_h7 ((w 3).2 8) n (T, r)).2 = 0 := by
    unfold xnq
    rw [p4 3 (by omega), q1.2.2.2.2.2.2.1]
    rfl
  have z106 := @z286_106 w l t sc d n hn h8 (nI (sp_hb ((w 3).2 8) n T)) 41 (sp_h7 ((w 3).2 8) n (T, r)).1 (sp_h7 ((w 3).2 8) n (T, r)).2 (p3 q1.1) p1 (fun z => by rw [k7])
  exact z30.trans (z54.trans (z77.trans z106))
/-- a text without an error gives a row that stands between two calls -/
theorem sp_all_ok {f : Nat → Int32} (hT : sp_tw f n T) (h : (sp_all f n (T, r)).1.2.2.2.1 = 0) : xWF (sp_all f n (T, r)).2 ∧ xRm (sp_all f n (T, r)).2 ∧ (sp_all f n (T, r)).2 4 = 0 := by
  have hT3 : sp_tw f n (sp_h3 f n T) := sp_tw_exp2 (sp_tw_rn (sp_tw_adv (sp_tw_check hT)))
  obtain ⟨eb, b2, b6⟩ := @sp_hb_ok f n T
  obtain ⟨s1, s2, s3, s4⟩ := @kSn_beg r (sp_hb f n T) b2 b6
  obtain ⟨v1, v2, v3⟩ := @sp_van_ok f n (sp_h3 f n T) (sp_beg r (sp_hb f n T)) s1 hT3
  obtain ⟨u1, u2, u3⟩ := @sp_vans_ok f n 4 (sp_h4 f n (T, r)).1 (sp_h4 f n (T, r)).2 v1 v2
  obtain ⟨q1, q2, q3, q4, q5⟩ := @sp_books_ok f n 21 (sp_h5 f n (T, r)).1 (sp_h5 f n (T, r)).2 u1 u2
  obtain ⟨p1, p2, p3, p4, p5⟩ := @sp_hold_ok f n (sp_h6 f n (T, r)).1 (sp_h6 f n (T, r)).2 q2
  have h7 : (sp_h7 f n (T, r)).1.2.2.2.1 = 0 := Decidable.byContradiction fun z => by
    have := @sp_asks_e f n 41 (sp_h7 f n (T, r)).1 (sp_h7 f n (T, r)).2 z
    rw [show sp_all f n (T, r) = sp_asks f n 41 ((sp_h7 f n (T, r)).1, (sp_h7 f n (T, r)).2) from rfl, this] at h
    exact z h
  have h6 := p5 h7
  have h5 := q5 h6
  obtain ⟨h4, t5, x5⟩ := u3 h5
  obtain ⟨h3, x4, y4, g4⟩ := v3 h4
  have hW6 : xWF (sp_h6 f n (T, r)).2 := by
    refine kSn_W q1 (fun u hu => ?_) ?_
    · have hu' : u < xnv (sp_h5 f n (T, r)).2 := by rw [← q3]; exact hu
      have h5v := u1.1.v4
      have e := q4 u (by have := u1.1.v4; exact Nat.lt_of_lt_of_le hu' this)
      have t := t5 (fun y hy => by
        have hy' : y < xnv (sp_beg r (sp_hb f n T)) + 1 := by rw [← x4]; exact hy
        have : y = xnv (sp_beg r (sp_hb f n T)) := by omega
        rw [this]
        exact g4) u hu'
      exact Nat.le_of_le_of_eq t e.symm
    · have e : xnv (sp_h6 f n (T, r)).2 = xnv (sp_h5 f n (T, r)).2 := q3
      have e' : xnv (sp_h4 f n (T, r)).2 = xnv (sp_beg r (sp_hb f n T)) + 1 := x4
      have : xnv (sp_h4 f n (T, r)).2 ≤ xnv (sp_h5 f n (T, r)).2 := x5
      omega
  have hW7 : xWF (sp_h7 f n (T, r)).2 := p2 hW6
  obtain ⟨a1, a2, a3⟩ := @sp_asks_ok f n 41 (sp_h7 f n (T, r)).1 (sp_h7 f n (T, r)).2 hW7 p1
  have low : ∀ i, i ≠ 3 → i ≠ 5 → i < 176 → (sp_all f n (T, r)).2 i = (sp_h6 f n (T, r)).2 i := fun i h1 h2 h3 => (a3 i h1 h3).trans (p4 i h2)
  refine ⟨a1, fun v hv => ?_, ?_⟩
  · have e1 : xnv (sp_all f n (T, r)).2 = xnv (sp_h6 f n (T, r)).2 := by unfold xnv; rw [low 1 (by omega) (by omega) (by omega)]
    have hB6 : xBd (sp_h6 f n (T, r)).2 := q1.1
    have := hB6.v4
    rw [e1] at hv
    rw [low (12 + 11 * v) (by omega) (by omega) (by omega)]
    exact (q1.2.2.1 v hv).2.1
  · rw [low 4 (by omega) (by omega) (by omega)]
    exact q1.2.2.2.2.2.2.2.1
end RL
