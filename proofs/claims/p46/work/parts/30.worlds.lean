/-! WORLDS with the row, the legs and who has just left at once; rows stay well-formed -/
def xJ (w : xW) : Nat → Int32 := (w 3).2 6
def xMg (m : xG) (r f j : Nat → Int32) : xG := (m.1, fun a => if a = 6 then j else if a = 5 then f else if a = xri m then r else m.2 a)
def xMw (w : xW) (r f j : Nat → Int32) : xW := xu w 3 (xMg (w 3) r f j)
section MW
variable {w : xW} {r f j r' f' j' : Nat → Int32}
theorem xMw_3 : xMw w r f j 3 = xMg (w 3) r f j := xu_same
theorem xMw_ne {g : Nat} (h : g ≠ 3) : xMw w r f j g = w g := xu_ne h
theorem xri_M : xri (xMg (w 3) r f j) = xri (w 3) := rfl
theorem xR_M : xR (xMw w r f j) = r := by
  unfold xR
  rw [xMw_3, xri_M]
  have := @xri_lt (w 3)
  show (if xri (w 3) = 6 then j else if xri (w 3) = 5 then f else if xri (w 3) = xri (w 3) then r else (w 3).2 (xri (w 3))) = r
  rw [if_neg (by omega), if_neg (by omega), if_pos rfl]
theorem xF_M : xF (xMw w r f j) = f := by
  unfold xF
  rw [xMw_3]
  rfl
theorem xJ_M : xJ (xMw w r f j) = j := by
  unfold xJ
  rw [xMw_3]
  rfl
theorem xRs_M : xRs (xMw w r f j) r' = xMw w r' f j := by
  unfold xRs
  rw [xMw_3, xri_M]
  unfold xMw
  rw [xu_xu]
  congr 1
  show ((w 3).1, _) = ((w 3).1, _)
  congr 1
  funext a
  have := @xri_lt (w 3)
  show (if a = xri (w 3) then r' else if a = 6 then j else if a = 5 then f else if a = xri (w 3) then r else (w 3).2 a) = if a = 6 then j else if a = 5 then f else if a = xri (w 3) then r' else (w 3).2 a
  by_cases h : a = xri (w 3)
  · rw [if_pos h, if_neg (by omega), if_neg (by omega), if_pos h]
  · rw [if_neg h, if_neg h, if_neg h]
theorem xFs_M : xFs (xMw w r f j) f' = xMw w r f' j := by
  unfold xFs
  rw [xMw_3]
  unfold xMw
  rw [xu_xu]
  congr 1
  show ((w 3).1, _) = ((w 3).1, _)
  congr 1
  funext a
  show (if a = 5 then f' else if a = 6 then j else if a = 5 then f else if a = xri (w 3) then r else (w 3).2 a) = if a = 6 then j else if a = 5 then f' else if a = xri (w 3) then r else (w 3).2 a
  by_cases h : a = 5
  · rw [if_pos h, if_neg (by omega), if_pos h]
  · rw [if_neg h, if_neg h, if_neg h]
def xJs (w : xW) (j : Nat → Int32) : xW := xu w 3 (xs2 (w 3) 6 j)
theorem xJs_M : xJs (xMw w r f j) j' = xMw w r f j' := by
  unfold xJs
  rw [xMw_3]
  unfold xMw
  rw [xu_xu]
  congr 1
  show ((w 3).1, _) = ((w 3).1, _)
  congr 1
  funext a
  show (if a = 6 then j' else if a = 6 then j else if a = 5 then f else if a = xri (w 3) then r else (w 3).2 a) = if a = 6 then j' else if a = 5 then f else if a = xri (w 3) then r else (w 3).2 a
  by_cases h : a = 6
  · rw [if_pos h, if_pos h]
  · rw [if_neg h, if_neg h, if_neg h]
theorem xMw_self : xMw w (xR w) (xF w) (xJ w) = w := by
  unfold xMw
  have : xMg (w 3) (xR w) (xF w) (xJ w) = w 3 := by
    refine Prod.ext rfl ?_
    funext a
    show (if a = 6 then (w 3).2 6 else if a = 5 then (w 3).2 5 else if a = xri (w 3) then (w 3).2 (xri (w 3)) else (w 3).2 a) = (w 3).2 a
    split
    · next h => rw [h]
    · split
      · next h => rw [h]
      · split
        · next h => rw [← h]
        · rfl
  rw [this, xu_self]
end MW
abbrev xBk (r : Nat → Int32) (k : Nat) : Prop := xil (r (56 + 6 * k)) 5 ∧ xil (r (58 + 6 * k)) (xnb r) ∧ (r (59 + 6 * k) = 0 ∨ r (59 + 6 * k) = 1) ∧
  (r (56 + 6 * k) = 0 ∨ r (56 + 6 * k) = 2 → xil (r (57 + 6 * k)) (xnb r)) ∧ (r (56 + 6 * k) = 1 → xil (r (57 + 6 * k)) (xnv r)) ∧ (r (56 + 6 * k) = 3 ∨ r (56 + 6 * k) = 4 → r (57 + 6 * k) = -1) ∧
  (r (56 + 6 * k) = 2 → ∃ q, q < xnq r ∧ r (176 + 3 * q) = nI k ∧ r (177 + 3 * q) = r (60 + 6 * k)) ∧ (r (56 + 6 * k) = 3 → xil (r (60 + 6 * k)) 100)
theorem xWF_book {r r' : Nat → Int32} {k : Nat} (h : xWF r) (hk : k < xnk r) (e : ∀ i, i < 56 + 6 * k ∨ 62 + 6 * k ≤ i → r' i = r i) (hb : xBk r' k) : xWF r' := by
  have hk20 := h.bd.k20
  have hv4 := h.bd.v4
  have e0 : xnb r' = xnb r := by unfold xnb; rw [e 0 (by omega)]
  have e1 : xnv r' = xnv r := by unfold xnv; rw [e 1 (by omega)]
  have e2 : xnk r' = xnk r := by unfold xnk; rw [e 2 (by omega)]
  have e3 : xnq r' = xnq r := by unfold xnq; rw [e 3 (by omega)]
  refine ⟨?_, ?_, ?_, ?_, ?_, ?_⟩
  · unfold xBd
    rw [e0, e1, e2, e3, e 0 (by omega), e 1 (by omega), e 2 (by omega), e 3 (by omega)]
    exact h.bd
  · unfold xWn
    rw [e0, e1, e 4 (by omega), e 5 (by omega)]
    exact h.n
  · intro b hb6
    rw [e (6 + b) (by omega)]
    exact h.o b hb6
  · intro v hv
    rw [e1] at hv
    obtain ⟨a1, a2, a3, a4, a5⟩ := h.v v hv
    have a9 := a2.2
    unfold xst at *
    rw [e (12 + 11 * v) (by omega), e (13 + 11 * v) (by omega), e (14 + 11 * v) (by omega), e0]
    refine ⟨a1, a2, a3, a4, fun s hs => ?_⟩
    rw [e (15 + 11 * v + s) (by omega)]
    exact a5 s hs
  · intro k' hk'
    by_cases g : k' = k
    · subst g
      exact hb
    · rw [e2] at hk'
      have c := h.k k' hk'
      rw [e0, e1, e3, e (56 + 6 * k') (by omega), e (57 + 6 * k') (by omega), e (58 + 6 * k') (by omega), e (59 + 6 * k') (by omega), e (60 + 6 * k') (by omega)]
      refine ⟨c.1, c.2.1, c.2.2.1, c.2.2.2.1, c.2.2.2.2.1, c.2.2.2.2.2.1, fun z => ?_, c.2.2.2.2.2.2.2⟩
      obtain ⟨q, q1, q2, q3⟩ := c.2.2.2.2.2.2.1 z
      refine ⟨q, q1, ?_, ?_⟩
      · rw [e (176 + 3 * q) (by omega)]; exact q2
      · rw [e (177 + 3 * q) (by omega)]; exact q3
  · unfold xWq
    rw [e3, e2, e0]
    refine ⟨fun q hq => ?_, fun p q hp hq => ?_⟩
    · rw [e (176 + 3 * q) (by omega), e (177 + 3 * q) (by omega), e (178 + 3 * q) (by omega)]
      exact h.q.1 q hq
    · rw [e (176 + 3 * q) (by omega), e (177 + 3 * q) (by omega), e (176 + 3 * p) (by omega), e (177 + 3 * p) (by omega)]
      exact h.q.2 p q hp hq
theorem sp_put_ne {r : Nat → Int32} {k i : Nat} {st pl : Int32} (h : i < 56 + 6 * k ∨ 62 + 6 * k ≤ i) : sp_put r k st pl i = r i := by
  show (if i = 61 + 6 * k then (-1 : Int32) else if i = 60 + 6 * k then -1 else if i = 57 + 6 * k then pl else if i = 56 + 6 * k then st else r i) = r i
  rw [if_neg (by omega), if_neg (by omega), if_neg (by omega), if_neg (by omega)]
section PT
variable {r : Nat → Int32} {k : Nat} {st pl : Int32}
theorem sp_put_0 : sp_put r k st pl (56 + 6 * k) = st := by
  show (if 56 + 6 * k = 61 + 6 * k then (-1 : Int32) else if 56 + 6 * k = 60 + 6 * k then -1 else if 56 + 6 * k = 57 + 6 * k then pl else if 56 + 6 * k = 56 + 6 * k then st else r (56 + 6 * k)) = st
  rw [if_neg (by omega), if_neg (by omega), if_neg (by omega), if_pos rfl]
theorem sp_put_1 : sp_put r k st pl (57 + 6 * k) = pl := by
  show (if 57 + 6 * k = 61 + 6 * k then (-1 : Int32) else if 57 + 6 * k = 60 + 6 * k then -1 else if 57 + 6 * k = 57 + 6 * k then pl else if 57 + 6 * k = 56 + 6 * k then st else r (57 + 6 * k)) = pl
  rw [if_neg (by omega), if_neg (by omega), if_pos rfl]
theorem sp_put_2 : sp_put r k st pl (58 + 6 * k) = r (58 + 6 * k) := by
  show (if 58 + 6 * k = 61 + 6 * k then (-1 : Int32) else if 58 + 6 * k = 60 + 6 * k then -1 else if 58 + 6 * k = 57 + 6 * k then pl else if 58 + 6 * k = 56 + 6 * k then st else r (58 + 6 * k)) = r (58 + 6 * k)
  rw [if_neg (by omega), if_neg (by omega), if_neg (by omega), if_neg (by omega)]
theorem sp_put_3 : sp_put r k st pl (59 + 6 * k) = r (59 + 6 * k) := by
  show (if 59 + 6 * k = 61 + 6 * k then (-1 : Int32) else if 59 + 6 * k = 60 + 6 * k then -1 else if 59 + 6 * k = 57 + 6 * k then pl else if 59 + 6 * k = 56 + 6 * k then st else r (59 + 6 * k)) = r (59 + 6 * k)
  rw [if_neg (by omega), if_neg (by omega), if_neg (by omega), if_neg (by omega)]
theorem sp_put_4 : sp_put r k st pl (60 + 6 * k) = -1 := by
  show (if 60 + 6 * k = 61 + 6 * k then (-1 : Int32) else if 60 + 6 * k = 60 + 6 * k then -1 else _) = -1
  rw [if_neg (by omega), if_pos rfl]
theorem sp_put_h (hk : k < 20) {i : Nat} (hi : i < 56 ∨ 176 ≤ i) : sp_put r k st pl i = r i := sp_put_ne (by omega)
theorem xWF_put (h : xWF r) (hk : k < xnk r) (hp : (st = 0 ∧ xil pl (xnb r)) ∨ (st = 1 ∧ xil pl (xnv r)) ∨ (st = 4 ∧ pl = -1)) : xWF (sp_put r k st pl) := by
  have hk20 := h.bd.k20
  refine xWF_book h hk (fun i hi => sp_put_ne hi) ?_
  have e0 : xnb (sp_put r k st pl) = xnb r := by unfold xnb; rw [sp_put_h (by omega) (by omega)]
  have e1 : xnv (sp_put r k st pl) = xnv r := by unfold xnv; rw [sp_put_h (by omega) (by omega)]
  have c := h.k k hk
  unfold xBk
  rw [sp_put_0, sp_put_1, sp_put_2, sp_put_3, sp_put_4, e0, e1]
  rcases hp with ⟨h1, h2⟩ | ⟨h1, h2⟩ | ⟨h1, h2⟩ <;> subst h1
  · exact ⟨xil_nI (n := 0) (by omega) (by omega), c.2.1, c.2.2.1, fun _ => h2, fun z => absurd z (by decide), fun z => absurd z (by decide), fun z => absurd z (by decide), fun z => absurd z (by decide)⟩
  · exact ⟨xil_nI (n := 1) (by omega) (by omega), c.2.1, c.2.2.1, fun z => absurd z (by decide), fun _ => h2, fun z => absurd z (by decide), fun z => absurd z (by decide), fun z => absurd z (by decide)⟩
  · exact ⟨xil_nI (n := 4) (by omega) (by omega), c.2.1, c.2.2.1, fun z => absurd z (by decide), fun z => absurd z (by decide), fun _ => h2, fun z => absurd z (by decide), fun z => absurd z (by decide)⟩
end PT
