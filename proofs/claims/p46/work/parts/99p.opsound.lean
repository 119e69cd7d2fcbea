/-! SOUND ROWS: the operations -/
def qS (s : Int32 × Int32 × Option (Nat → Int32)) : Prop := ∀ r', s.2.2 = some r' → rS r'
section QS
variable {r : Nat → Int32} {a b rd x y z : Int32}
theorem qS_none : qS (y, z, none) := fun _ h => by cases h
theorem qS_some {r0 : Nat → Int32} (e : rS r0) : qS (y, z, some r0) := fun r' h => by
  have h' : r0 = r' := Option.some.inj h
  rw [← h']
  exact e
theorem qS_if {c : Prop} [Decidable c] {p q : Int32 × Int32 × Option (Nat → Int32)} (hp : c → qS p) (hq : ¬ c → qS q) : qS (if c then p else q) := by
  by_cases h : c
  · rw [if_pos h]; exact hp h
  · rw [if_neg h]; exact hq h
theorem bk_nat (hB : xBd r) (h : sp_bk r a) : ∃ k, k < xnk r ∧ a = nI k ∧ a.toNatClampNeg = k := by
  have hk20 := hB.k20
  rw [sp_bk, hB.k] at h
  obtain ⟨n, hn, e⟩ := zrg (by omega) h
  exact ⟨n, hn, e, by rw [e, nI_clamp (by omega)]⟩
theorem br_nat (hB : xBd r) (h : sp_br r a) : ∃ k, k < xnb r ∧ a = nI k ∧ a.toNatClampNeg = k := by
  have hb6 := hB.b6
  rw [sp_br, hB.b] at h
  obtain ⟨n, hn, e⟩ := zrg (by omega) h
  exact ⟨n, hn, e, by rw [e, nI_clamp (by omega)]⟩
/-- a hold given up: the book first, then its request -/
theorem rS_free (hW : xWF r) {k q : Nat} {rd : Int32} (hk : k < xnk r) (hb : sp_by r (nI k) rd = some q) (h : rS r) : rS (sp_drop (if sp_hf r k rd then sp_put r k 0 (r (57 + 6 * k)) else r) q) := by
  have hk20 := hW.bd.k20
  have hx := xfst_some hb
  have hq : q < xnq r := sp_by_lt hb
  by_cases hf : sp_hf r k rd
  · rw [if_pos hf]
    have h1 := (hW.k k hk).2.2.2.1 (Or.inr hf.1)
    have hW1 : xWF (sp_put r k 0 (r (57 + 6 * k))) := xWF_put hW hk (Or.inl ⟨rfl, h1⟩)
    have hh : xhd r (sp_put r k 0 (r (57 + 6 * k))) := fun i hi => sp_put_h (by omega) hi
    refine rS_drop hW1 (by rw [hh.q]; exact hq) (fun k' hk' h2 h3 => ?_) (rS_put hW hk (by decide) (by decide) h)
    rw [hh _ (by omega), hx.1.1] at h3
    rw [hh.k] at hk'
    have : k = k' := nI_inj (by omega) (by omega) h3.1
    subst this
    rw [sp_put_0] at h2
    exact absurd h2 (by decide)
  · rw [if_neg hf]
    refine rS_drop hW hq (fun k' hk' h2 h3 => ?_) h
    rw [hx.1.1, hx.1.2] at h3
    have : k = k' := nI_inj (by omega) (by omega) h3.1
    subst this
    exact hf ⟨h2, h3.2.symm⟩
theorem qS_ask (hW : xWF r) (h : rS r) : qS (sp_ask r a rd b) := by
  unfold sp_ask
  refine qS_if (fun _ => qS_if (fun _ => qS_if (fun _ => qS_if (fun _ => qS_none) (fun hn => qS_if (fun _ => qS_none) (fun _ => ?_))) (fun _ => qS_none)) (fun _ => qS_none)) (fun _ => qS_none)
  split
  · exact qS_none
  · have := hW.bd.q40
    exact qS_some (rS_addq hW (by omega) h)
theorem qS_cancel (hW : xWF r) (h : rS r) : qS (sp_cancel r a rd) := by
  unfold sp_cancel
  refine qS_if (fun hb => ?_) (fun _ => qS_none)
  obtain ⟨k, hk, -, ek⟩ := bk_nat hW.bd hb
  rw [ek]
  unfold sp_cancelN
  split
  · exact qS_none
  · next q e => exact qS_some (rS_free hW hk e h)
theorem qS_recall (hW : xWF r) (h : rS r) : qS (sp_recall r a) := by
  unfold sp_recall
  refine qS_if (fun hb => ?_) (fun _ => qS_none)
  obtain ⟨k, hk, -, ek⟩ := bk_nat hW.bd hb
  have hk20 := hW.bd.k20
  rw [ek]
  unfold sp_recallN
  refine qS_if (fun _ => qS_none) (fun _ => qS_if (fun _ => qS_none) (fun _ => qS_some ?_))
  by_cases h2 : r (56 + 6 * k) = 2
  · rw [if_pos h2]
    have h1 := (hW.k k hk).2.2.2.1 (Or.inr h2)
    have hW1 : xWF (sp_put r k 0 (r (57 + 6 * k))) := xWF_put hW hk (Or.inl ⟨rfl, h1⟩)
    have ek1 : xnk (sp_put r k 0 (r (57 + 6 * k))) = xnk r := by unfold xnk; rw [sp_put_h (by omega) (by omega)]
    exact rS_59 hW1 (by rw [ek1]; exact hk) (by rw [sp_put_0]; decide) (rS_put hW hk (by decide) (by decide) h)
  · rw [if_neg h2]
    exact rS_59 hW hk h2 h
theorem sp_put_put {k : Nat} {s1 p1 s2 p2 : Int32} : sp_put (sp_put r k s1 p1) k s2 p2 = sp_put r k s2 p2 := by
  funext i
  by_cases h0 : i = 56 + 6 * k
  · subst h0; rw [sp_put_0, sp_put_0]
  by_cases h1 : i = 57 + 6 * k
  · subst h1; rw [sp_put_1, sp_put_1]
  by_cases h2 : i = 58 + 6 * k
  · subst h2; rw [sp_put_2, sp_put_2, sp_put_2]
  by_cases h3 : i = 59 + 6 * k
  · subst h3; rw [sp_put_3, sp_put_3, sp_put_3]
  by_cases h4 : i = 60 + 6 * k
  · subst h4; rw [sp_put_4, sp_put_4]
  by_cases h5 : i = 61 + 6 * k
  · subst h5
    show (if 61 + 6 * k = 61 + 6 * k then (-1 : Int32) else _) = if 61 + 6 * k = 61 + 6 * k then (-1 : Int32) else _
    rw [if_pos rfl, if_pos rfl]
  · rw [sp_put_ne (by omega), sp_put_ne (by omega), sp_put_ne (by omega)]
theorem qS_take (hW : xWF r) (h : rS r) : qS (sp_takeO r a rd) := by
  unfold sp_takeO
  refine qS_if (fun hb => ?_) (fun _ => qS_none)
  obtain ⟨k, hk, -, ek⟩ := bk_nat hW.bd hb
  have hk20 := hW.bd.k20
  have hv4 := hW.bd.v4
  have hb6 := hW.bd.b6
  rw [ek]
  unfold sp_takeN
  refine qS_if (fun hf => ?_) (fun _ => qS_none)
  split
  · exact qS_none
  · next q e =>
    refine qS_some ?_
    have h1 := rS_free hW hk e h
    have hW1 := (xWF_cancel hW hk e).2
    rw [if_pos hf] at h1 hW1
    have es : sp_put (sp_drop r q) k 3 (-1) = sp_put (sp_drop (sp_put r k 0 (r (57 + 6 * k))) q) k 3 (-1) := by
      rw [sp_drop_put (by omega), sp_put_put]
    rw [es]
    have ek1 : xnk (sp_drop (sp_put r k 0 (r (57 + 6 * k))) q) = xnk r := by unfold xnk; rw [sp_drop_h (by omega) (by omega), sp_put_h (by omega) (by omega)]
    generalize sp_drop (sp_put r k 0 (r (57 + 6 * k))) q = r1 at *
    have en : ∀ i, i < 56 + 6 * k ∨ 62 + 6 * k ≤ i → upd (sp_put r1 k 3 (-1)) (60 + 6 * k) rd i = r1 i := fun i hi => (zun (by omega)).trans (sp_put_ne hi)
    have e3 : upd (sp_put r1 k 3 (-1)) (60 + 6 * k) rd (56 + 6 * k) = 3 := (zun (by omega)).trans sp_put_0
    have hk1 := hW1.bd.k20
    have hv1 := hW1.bd.v4
    have hb1 := hW1.bd.b6
    have bk : rBk r1 (upd (sp_put r1 k 3 (-1)) (60 + 6 * k) rd) (xnk r1) := by
      intro i hi
      by_cases ei : i = k
      · subst ei
        exact Or.inr (by rw [e3]; decide)
      · exact Or.inl (fun x h1 h2 => en _ (by omega))
    refine rS_of (rS0_cg hW1 (by unfold xnv; rw [en 1 (by omega)]) (by unfold xnk; rw [en 2 (by omega)]) (by unfold xnq; rw [en 3 (by omega)]) (fun v hv => en _ (by omega)) (fun i hi h2 z => ?_) (fun i h1 _ => en _ (by omega)) bk (fun i v _ _ z => ?_) (rS_0 h1)) ?_
    · by_cases ei : i = k
      · subst ei
        rw [e3] at h2
        exact absurd h2 (by decide)
      · rw [en _ (by omega)] at h2
        have hp := ((hW1.k i hi).2.2.2.1 (Or.inr h2)).2
        unfold xop at z ⊢
        rw [en _ (by omega)]
        exact z
    · by_cases ei : i = k
      · subst ei
        exact absurd (e3.symm.trans z.1) (by decide)
      · exact ⟨by rw [← z.1, en _ (by omega)], by rw [← z.2, en _ (by omega)]⟩
    · rw [show xnk (upd (sp_put r1 k 3 (-1)) (60 + 6 * k) rd) = xnk r1 by unfold xnk; rw [en 2 (by omega)]]
      exact rSL_cg (en 4 (by omega)) bk (rS_L h1)
theorem qS_back (hW : xWF r) (h : rS r) : qS (sp_giveBack r a b) := by
  unfold sp_giveBack
  refine qS_if (fun hb => qS_if (fun _ => ?_) (fun _ => qS_none)) (fun _ => qS_none)
  obtain ⟨k, hk, -, ek⟩ := bk_nat hW.bd hb
  rw [ek]
  unfold sp_backN
  exact qS_if (fun _ => qS_if (fun _ => qS_some (rS_put hW hk (by decide) (by decide) h)) (fun _ => qS_none)) (fun _ => qS_none)
theorem qS_find (hW : xWF r) (h : rS r) : qS (sp_find r a b) := by
  unfold sp_find
  refine qS_if (fun hb => qS_if (fun _ => ?_) (fun _ => qS_none)) (fun _ => qS_none)
  obtain ⟨k, hk, -, ek⟩ := bk_nat hW.bd hb
  rw [ek]
  unfold sp_findN
  exact qS_if (fun _ => qS_some (rS_put hW hk (by decide) (by decide) h)) (fun _ => qS_none)
theorem qS_hold (hW : xWF r) (h : rS r) : qS (sp_setHold r x) := by
  unfold sp_setHold
  refine qS_if (fun _ => qS_some ?_) (fun _ => qS_none)
  have e : ∀ i, i ≠ 5 → upd r 5 x i = r i := fun i hi => zun hi
  refine rS_of (rS0_head hW (Or.inr (Or.inl rfl)) (rS_0 h)) ?_
  rw [show xnk (upd r 5 x) = xnk r by unfold xnk; rw [e 2 (by omega)]]
  exact rSL_cg (e 4 (by omega)) (fun i _ => Or.inl (fun y h1 h2 => e _ (by omega))) (rS_L h)
theorem qS_open (hW : xWF r) (h : rS r) : qS (sp_open r a) := by
  have hb6 := hW.bd.b6
  unfold sp_open
  refine qS_if (fun hb => qS_if (fun _ => qS_none) (fun _ => qS_some ?_)) (fun _ => qS_none)
  obtain ⟨k, hk, -, ek⟩ := br_nat hW.bd hb
  rw [ek]
  have e : ∀ i, i ≠ 6 + k → upd r (6 + k) 1 i = r i := fun i hi => zun hi
  refine rS_of (rS0_head hW (Or.inr (Or.inr (Or.inr ⟨⟨k, by omega, rfl⟩, rfl⟩))) (rS_0 h)) ?_
  rw [show xnk (upd r (6 + k) 1) = xnk r by unfold xnk; rw [e 2 (by omega)]]
  exact rSL_cg (e 4 (by omega)) (fun i _ => Or.inl (fun y h1 h2 => e _ (by omega))) (rS_L h)
theorem qS_lose (hW : xWF r) (h : rS r) : qS (sp_lose r a) := by
  unfold sp_lose
  refine qS_if (fun _ => qS_some ?_) (fun _ => qS_none)
  have g : ∀ n, n ≤ xnk r → rS (sp_loseU r a n).1 := by
    intro n
    induction n with
    | zero => intro _; exact h
    | succ n ih =>
      intro hn
      obtain ⟨h1, h2⟩ := @sp_loseU_ok r a hW n (by omega)
      show rS (sp_lose1 a n (sp_loseU r a n)).1
      unfold sp_lose1
      split
      · exact rS_put h1 (by rw [h2.k]; omega) (by decide) (by decide) (ih (by omega))
      · exact ih (by omega)
  exact g _ (Nat.le_refl _)
theorem qS_close (hW : xWF r) (h : rS r) : qS (sp_close r a) := by
  have hb6 := hW.bd.b6
  have hk20 := hW.bd.k20
  have hv4 := hW.bd.v4
  unfold sp_close
  refine qS_if (fun hb => qS_if (fun _ => qS_some ?_) (fun _ => qS_none)) (fun _ => qS_none)
  obtain ⟨c, hc, ec, -⟩ := br_nat hW.bd hb
  rw [ec]
  have g : ∀ n, n ≤ xnk r → ∀ k, k < xnk r → ((∀ i, 56 + 6 * k ≤ i → i < 62 + 6 * k → sp_closeU r (nI c) n i = r i) ∧ (k < n → ¬ (r (56 + 6 * k) = 2 ∧ r (57 + 6 * k) = nI c))) ∨ sp_closeU r (nI c) n (56 + 6 * k) = 0 := by
    intro n
    induction n with
    | zero =>
      intro _ k hk
      refine Or.inl ⟨fun i h1 h2 => ?_, fun z => absurd z (Nat.not_lt_zero _)⟩
      show upd r (6 + (nI c).toNatClampNeg) 0 i = r i
      rw [nI_clamp (by omega)]
      exact zun (by omega)
    | succ n ih =>
      intro hn k hk
      have hi := ih (by omega) k hk
      have hin := ih (by omega) n (by omega)
      show ((∀ i, 56 + 6 * k ≤ i → i < 62 + 6 * k → sp_close1 (nI c) n (sp_closeU r (nI c) n) i = r i) ∧ _) ∨ sp_close1 (nI c) n (sp_closeU r (nI c) n) (56 + 6 * k) = 0
      unfold sp_close1
      by_cases hcn : sp_closeU r (nI c) n (56 + 6 * n) = 2 ∧ sp_closeU r (nI c) n (57 + 6 * n) = nI c
      · rw [if_pos hcn]
        by_cases ek : k = n
        · subst ek
          exact Or.inr sp_put_0
        · rcases hi with ⟨e1, e2⟩ | e1
          · exact Or.inl ⟨fun i h1 h2 => (sp_put_ne (by omega)).trans (e1 i h1 h2), fun z => e2 (by omega)⟩
          · exact Or.inr ((sp_put_ne (by omega)).trans e1)
      · rw [if_neg hcn]
        rcases hi with ⟨e1, e2⟩ | e1
        · refine Or.inl ⟨e1, fun z => ?_⟩
          by_cases ek : k = n
          · subst ek
            rw [e1 _ (by omega) (by omega), e1 _ (by omega) (by omega)] at hcn
            exact hcn
          · exact e2 (by omega)
        · exact Or.inr e1
  have g := g (xnk r) (Nat.le_refl _)
  obtain ⟨hWF, hh⟩ := @sp_closeU_ok r c hW hc (xnk r) (Nat.le_refl _)
  generalize sp_closeU r (nI c) (xnk r) = rF at *
  have eh : ∀ i, i ≠ 6 + c → (i < 56 ∨ 176 ≤ i) → rF i = r i := fun i h1 h2 => (hh i h2).trans (zun h1)
  have bk : rBk r rF (xnk r) := fun k hk => (g k hk).elim (fun z => Or.inl z.1) (fun z => Or.inr (by rw [z]; decide))
  refine rS_of (rS0_cg hW (by unfold xnv; rw [eh 1 (by omega) (by omega)]) (by unfold xnk; rw [eh 2 (by omega) (by omega)]) (by unfold xnq; rw [eh 3 (by omega) (by omega)]) (fun v hv => eh _ (by omega) (by omega)) (fun i hi h2 z => ?_) (fun i h1 _ => eh _ (by omega) (by omega)) bk (fun i v hi _ z => ?_) (rS_0 h)) ?_
  · rcases g i hi with ⟨e1, e2⟩ | e1
    · rw [e1 _ (by omega) (by omega)] at h2
      obtain ⟨p1, p2⟩ := (hW.k i hi).2.2.2.1 (Or.inr h2)
      have hne := e2 hi
      unfold xop at z ⊢
      rw [eh _ (fun e => hne ⟨h2, by rw [p1, show (r (57 + 6 * i)).toNatClampNeg = c by omega]⟩) (by omega)]
      exact z
    · rw [e1] at h2
      exact absurd h2 (by decide)
  · rcases g i hi with ⟨e1, e2⟩ | e1
    · exact ⟨by rw [← z.1, e1 _ (by omega) (by omega)], by rw [← z.2, e1 _ (by omega) (by omega)]⟩
    · exact absurd (e1.symm.trans z.1) (by decide)
  · rw [show xnk rF = xnk r by unfold xnk; rw [eh 2 (by omega) (by omega)]]
    exact rSL_cg (eh 4 (by omega) (by omega)) bk (rS_L h)
end QS
