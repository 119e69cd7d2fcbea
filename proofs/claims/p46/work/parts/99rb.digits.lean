/-! ROWS of one-digit readers stay so -/
def rD (r : Nat → Int32) : Prop := (∀ q, q < xnq r → xil (r (177 + 3 * q)) 10) ∧ ∀ k, k < xnk r → r (56 + 6 * k) = 3 → xil (r (60 + 6 * k)) 10
def rD3 (r r' : Nat → Int32) (n : Nat) : Prop := ∀ k, k < n → (r' (56 + 6 * k) = r (56 + 6 * k) ∧ r' (60 + 6 * k) = r (60 + 6 * k)) ∨ ¬ r' (56 + 6 * k) = 3
def qD (s : Int32 × Int32 × Option (Nat → Int32)) : Prop := ∀ r', s.2.2 = some r' → rD r'
section RD
variable {r r' : Nat → Int32} {a b rd x y z : Int32} {f j : Nat → Int32} {v : Nat}
theorem rD_cg (n2 : xnk r' = xnk r) (n3 : xnq r' = xnq r) (hq : ∀ i, 176 ≤ i → i < 176 + 3 * xnq r → r' i = r i) (hb : rD3 r r' (xnk r)) (h : rD r) : rD r' := by
  refine ⟨fun q hq' => ?_, fun k hk h3 => ?_⟩
  · rw [n3] at hq'
    rw [hq _ (by omega) (by omega)]
    exact h.1 q hq'
  · rw [n2] at hk
    rcases hb k hk with ⟨e1, e2⟩ | e
    · rw [e2]
      exact h.2 k hk (by rw [← e1]; exact h3)
    · exact absurd h3 e
theorem rD_hd (hh : xhd r r') (hb : rD3 r r' (xnk r)) (h : rD r) : rD r' := rD_cg hh.k hh.q (fun i h1 _ => hh i (by omega)) hb h
theorem rD_put (hW : xWF r) {k : Nat} {st pl : Int32} (hk : k < xnk r) (h3 : ¬ st = 3) (h : rD r) : rD (sp_put r k st pl) := by
  have hk20 := hW.bd.k20
  refine rD_hd (fun i hi => sp_put_h (by omega) hi) (fun i hi => ?_) h
  by_cases e : i = k
  · subst e
    exact Or.inr (by rw [sp_put_0]; exact h3)
  · exact Or.inl ⟨sp_put_ne (by omega), sp_put_ne (by omega)⟩
theorem rD_drop (hW : xWF r) {q : Nat} (hq : q < xnq r) (h : rD r) : rD (sp_drop r q) := by
  have hk20 := hW.bd.k20
  have hq40 := hW.bd.q40
  have n3 : xnq (sp_drop r q) = xnq r - 1 := by
    show (sp_drop r q 3).toNatClampNeg = _
    rw [sp_drop_3, nI_clamp (by omega)]
  have n2 : xnk (sp_drop r q) = xnk r := by unfold xnk; rw [sp_drop_h (by omega) (by omega)]
  refine ⟨fun p hp => ?_, fun k hk h3 => ?_⟩
  · rw [n3] at hp
    rw [sp_drop_177 hp]
    exact h.1 _ (by unfold xsg; split <;> omega)
  · rw [n2] at hk
    rw [sp_drop_h (by omega) (by omega)] at h3 ⊢
    exact h.2 k hk h3
theorem rD_upd {i : Nat} {y : Int32} (hi : i < 176) (h2 : i ≠ 2) (h3 : i ≠ 3) (hk20 : xnk r ≤ 20) (hb : ∀ k, k < xnk r → i ≠ 56 + 6 * k ∧ i ≠ 60 + 6 * k) (h : rD r) : rD (upd r i y) := by
  refine rD_cg (by unfold xnk; rw [zun (Ne.symm h2)]) (by unfold xnq; rw [zun (Ne.symm h3)]) (fun j h1 _ => zun (by omega)) (fun k hk => Or.inl ⟨zun (Ne.symm (hb k hk).1), zun (Ne.symm (hb k hk).2)⟩) h
theorem rD_addq (hW : xWF r) (hn : xnq r < 40) (hr : xil rd 10) (h : rD r) : rD (sp_addq r a rd b) := by
  have hk20 := hW.bd.k20
  have e : ∀ i, i ≠ 3 → i < 176 + 3 * xnq r → sp_addq r a rd b i = r i := fun i h3 hi => by
    unfold sp_addq
    rw [upd_o h3, upd_o (by omega), upd_o (by omega), upd_o (by omega)]
  have n2 : xnk (sp_addq r a rd b) = xnk r := by unfold xnk; rw [e 2 (by omega) (by omega)]
  have n3 : xnq (sp_addq r a rd b) = xnq r + 1 := by
    have e3 : sp_addq r a rd b 3 = nI (xnq r + 1) := by
      unfold sp_addq
      exact if_pos rfl
    show (sp_addq r a rd b 3).toNatClampNeg = _
    rw [e3, nI_clamp (by omega)]
  refine ⟨fun q hq => ?_, fun k hk h3 => ?_⟩
  · rw [n3] at hq
    by_cases eq : q = xnq r
    · subst eq
      have : sp_addq r a rd b (177 + 3 * xnq r) = rd := by
        unfold sp_addq
        rw [upd_o (by omega), upd_o (by omega)]
        exact if_pos rfl
      rw [this]
      exact hr
    · rw [e _ (by omega) (by omega)]
      exact h.1 q (by omega)
  · rw [n2] at hk
    rw [e _ (by omega) (by omega)] at h3 ⊢
    exact h.2 k hk h3
theorem qD_none : qD (y, z, none) := fun _ h => by cases h
theorem qD_some {r0 : Nat → Int32} (e : rD r0) : qD (y, z, some r0) := fun r' h => by
  have h' : r0 = r' := Option.some.inj h
  rw [← h']
  exact e
theorem qD_if {c : Prop} [Decidable c] {p q : Int32 × Int32 × Option (Nat → Int32)} (hp : c → qD p) (hq : ¬ c → qD q) : qD (if c then p else q) := by
  by_cases h : c
  · rw [if_pos h]; exact hp h
  · rw [if_neg h]; exact hq h
theorem rD_59 (hk20 : xnk r ≤ 20) {k : Nat} (hk : k < xnk r) (h : rD r) : rD (upd r (59 + 6 * k) y) := rD_upd (by omega) (by omega) (by omega) hk20 (fun i _ => ⟨by omega, by omega⟩) h
theorem rD_free (hW : xWF r) {k q : Nat} (hk : k < xnk r) (hb : sp_by r (nI k) rd = some q) (h : rD r) : rD (sp_drop (if sp_hf r k rd then sp_put r k 0 (r (57 + 6 * k)) else r) q) := by
  have hk20 := hW.bd.k20
  have hq : q < xnq r := sp_by_lt hb
  obtain ⟨hW1, -⟩ := xWF_cancel hW hk hb
  refine rD_drop hW1 ?_ ?_
  · split
    · unfold xnq; rw [sp_put_h (by omega) (by omega)]; exact hq
    · exact hq
  · split
    · exact rD_put hW hk (by decide) h
    · exact h
theorem qD_ask (hW : xWF r) (hr : xil rd 10) (h : rD r) : qD (sp_ask r a rd b) := by
  have hq40 := hW.bd.q40
  unfold sp_ask
  refine qD_if (fun _ => qD_if (fun _ => qD_if (fun _ => qD_if (fun _ => qD_none) (fun hn => qD_if (fun _ => qD_none) (fun _ => ?_))) (fun _ => qD_none)) (fun _ => qD_none)) (fun _ => qD_none)
  split
  · exact qD_none
  · exact qD_some (rD_addq hW (by omega) hr h)
theorem qD_cancel (hW : xWF r) (h : rD r) : qD (sp_cancel r a rd) := by
  unfold sp_cancel
  refine qD_if (fun hb => ?_) (fun _ => qD_none)
  obtain ⟨k, hk, -, ek⟩ := bk_nat hW.bd hb
  rw [ek]
  unfold sp_cancelN
  split
  · exact qD_none
  · next q e => exact qD_some (rD_free hW hk e h)
theorem qD_recall (hW : xWF r) (h : rD r) : qD (sp_recall r a) := by
  have hk20 := hW.bd.k20
  unfold sp_recall
  refine qD_if (fun hb => ?_) (fun _ => qD_none)
  obtain ⟨k, hk, -, ek⟩ := bk_nat hW.bd hb
  rw [ek]
  unfold sp_recallN
  refine qD_if (fun _ => qD_none) (fun _ => qD_if (fun _ => qD_none) (fun _ => qD_some ?_))
  split
  · have ek1 : xnk (sp_put r k 0 (r (57 + 6 * k))) = xnk r := by unfold xnk; rw [sp_put_h (by omega) (by omega)]
    exact rD_59 (by rw [ek1]; exact hk20) (by rw [ek1]; exact hk) (rD_put hW hk (by decide) h)
  · exact rD_59 hk20 hk h
theorem qD_take (hW : xWF r) (h : rD r) : qD (sp_takeO r a rd) := by
  have hk20 := hW.bd.k20
  unfold sp_takeO
  refine qD_if (fun hb => ?_) (fun _ => qD_none)
  obtain ⟨k, hk, -, ek⟩ := bk_nat hW.bd hb
  rw [ek]
  unfold sp_takeN
  refine qD_if (fun hf => ?_) (fun _ => qD_none)
  split
  · exact qD_none
  · next q e =>
    refine qD_some ?_
    have hq : q < xnq r := sp_by_lt e
    have hx := (xfst_some e).1.2
    have h1 := rD_drop hW hq h
    have k1 : xnk (sp_drop r q) = xnk r := by unfold xnk; rw [sp_drop_h (by omega) (by omega)]
    have en : ∀ i, i < 56 + 6 * k ∨ 62 + 6 * k ≤ i → upd (sp_put (sp_drop r q) k 3 (-1)) (60 + 6 * k) rd i = sp_drop r q i := fun i hi => (zun (by omega)).trans (sp_put_ne hi)
    have n3 : xnq (upd (sp_put (sp_drop r q) k 3 (-1)) (60 + 6 * k) rd) = xnq (sp_drop r q) := by unfold xnq; rw [en 3 (by omega)]
    have n2 : xnk (upd (sp_put (sp_drop r q) k 3 (-1)) (60 + 6 * k) rd) = xnk (sp_drop r q) := by unfold xnk; rw [en 2 (by omega)]
    refine ⟨fun p hp => ?_, fun i hi h3 => ?_⟩
    · rw [n3] at hp
      rw [en _ (by omega)]
      exact h1.1 p hp
    · rw [n2] at hi
      by_cases ei : i = k
      · subst ei
        rw [zu1, ← hx]
        exact h.1 q hq
      · rw [en _ (by omega)] at h3 ⊢
        exact h1.2 i hi h3
theorem qD_back (hW : xWF r) (h : rD r) : qD (sp_giveBack r a b) := by
  unfold sp_giveBack
  refine qD_if (fun hb => qD_if (fun _ => ?_) (fun _ => qD_none)) (fun _ => qD_none)
  obtain ⟨k, hk, -, ek⟩ := bk_nat hW.bd hb
  rw [ek]
  unfold sp_backN
  exact qD_if (fun _ => qD_if (fun _ => qD_some (rD_put hW hk (by decide) h)) (fun _ => qD_none)) (fun _ => qD_none)
theorem qD_find (hW : xWF r) (h : rD r) : qD (sp_find r a b) := by
  unfold sp_find
  refine qD_if (fun hb => qD_if (fun _ => ?_) (fun _ => qD_none)) (fun _ => qD_none)
  obtain ⟨k, hk, -, ek⟩ := bk_nat hW.bd hb
  rw [ek]
  unfold sp_findN
  exact qD_if (fun _ => qD_some (rD_put hW hk (by decide) h)) (fun _ => qD_none)
theorem qD_hold (hW : xWF r) (h : rD r) : qD (sp_setHold r x) := by
  unfold sp_setHold
  exact qD_if (fun _ => qD_some (rD_upd (by omega) (by omega) (by omega) hW.bd.k20 (fun i _ => ⟨by omega, by omega⟩) h)) (fun _ => qD_none)
theorem qD_open (hW : xWF r) (h : rD r) : qD (sp_open r a) := by
  have hb6 := hW.bd.b6
  unfold sp_open
  refine qD_if (fun hb => qD_if (fun _ => qD_none) (fun _ => qD_some ?_)) (fun _ => qD_none)
  obtain ⟨k, hk, -, ek⟩ := br_nat hW.bd hb
  rw [ek]
  exact rD_upd (by omega) (by omega) (by omega) hW.bd.k20 (fun i _ => ⟨by omega, by omega⟩) h
theorem qD_lose (hW : xWF r) (h : rD r) : qD (sp_lose r a) := by
  unfold sp_lose
  refine qD_if (fun _ => qD_some ?_) (fun _ => qD_none)
  have g : ∀ n, n ≤ xnk r → rD (sp_loseU r a n).1 := by
    intro n
    induction n with
    | zero => intro _; exact h
    | succ n ih =>
      intro hn
      obtain ⟨h1, h2⟩ := @sp_loseU_ok r a hW n (by omega)
      show rD (sp_lose1 a n (sp_loseU r a n)).1
      unfold sp_lose1
      split
      · exact rD_put h1 (by rw [h2.k]; omega) (by decide) (ih (by omega))
      · exact ih (by omega)
  exact g _ (Nat.le_refl _)
theorem qD_close (hW : xWF r) (h : rD r) : qD (sp_close r a) := by
  have hb6 := hW.bd.b6
  unfold sp_close
  refine qD_if (fun hb => qD_if (fun _ => qD_some ?_) (fun _ => qD_none)) (fun _ => qD_none)
  obtain ⟨c, hc, ec, -⟩ := br_nat hW.bd hb
  rw [ec]
  have k1 : xnk (upd r (6 + c) 0) = xnk r := by unfold xnk; rw [zun (by omega)]
  have g : ∀ n, n ≤ xnk r → rD (sp_closeU r (nI c) n) := by
    intro n
    induction n with
    | zero =>
      intro _
      show rD (upd r (6 + (nI c).toNatClampNeg) 0)
      rw [nI_clamp (by omega)]
      exact rD_upd (by omega) (by omega) (by omega) hW.bd.k20 (fun i _ => ⟨by omega, by omega⟩) h
    | succ n ih =>
      intro hn
      obtain ⟨h1, h2⟩ := @sp_closeU_ok r c hW hc n (by omega)
      show rD (sp_close1 (nI c) n (sp_closeU r (nI c) n))
      unfold sp_close1
      split
      · exact rD_put h1 (by rw [h2.k, k1]; omega) (by decide) (ih (by omega))
      · exact ih (by omega)
  exact g _ (Nat.le_refl _)
end RD
