/-! THE REFERENCE: settle -/
theorem zun {g : Nat → Int32} {k i : Nat} {x : Int32} (h : i ≠ k) : upd g k x i = g i := if_neg h
def xH (w : xW) : Int32 := (w 3).1 4
def xHs (w : xW) (x : Int32) : xW := xu w 3 (xs1 (w 3) 4 x)
section HS
variable {w : xW} {r f j : Nat → Int32} {x y : Int32}
theorem xH_s : xH (xHs w x) = x := by
  unfold xH xHs
  rw [xu_same]
  rfl
theorem xHs_s : xHs (xHs w x) y = xHs w y := by
  unfold xHs
  rw [xu_xu, xu_same]
  congr 1
  show (_, (w 3).2) = (_, (w 3).2)
  congr 1
  funext a
  unfold upd
  show (if a = 4 then y else if a = 4 then x else (w 3).1 a) = if a = 4 then y else (w 3).1 a
  split <;> rfl
theorem xH_M : xH (xMw w r f j) = xH w := by
  unfold xH
  rw [xMw_3]
  rfl
theorem xHs_M : xHs (xMw w r f j) x = xMw (xHs w x) r f j := by
  unfold xHs
  rw [xMw_3]
  unfold xMw
  rw [xu_xu, xu_xu, xu_same]
  rfl
end HS
def sp_set1 (k : Nat) (r : Nat → Int32) : Nat → Int32 := if r (57 + 6 * k) = r (58 + 6 * k) then upd r (59 + 6 * k) 0 else r
def sp_hold (k q : Nat) (r : Nat → Int32) : Nat → Int32 := upd (upd (sp_put r k 2 (r (57 + 6 * k))) (60 + 6 * k) (r (177 + 3 * q))) (61 + 6 * k) (r 4 + r 5)
def sp_set2 (k : Nat) (r : Nat → Int32) (h : Int32) : (Nat → Int32) × Int32 := match sp_want r k with
  | some q => if r (178 + 3 * q) = r (57 + 6 * k) then (sp_hold k q r, h + 1) else (r, h)
  | none => (r, h)
def sp_settle (k : Nat) (u : (Nat → Int32) × Int32) : (Nat → Int32) × Int32 := if u.1 (56 + 6 * k) = 0 then sp_set2 k (sp_set1 k u.1) u.2 else u
theorem sp_want_lt {r : Nat → Int32} {k q : Nat} (h : sp_want r k = some q) : q < xnq r ∧ r (176 + 3 * q) = nI k := by
  unfold sp_want at h
  split at h
  · cases h
  · have := xfst_some h
    exact ⟨by omega, this.1.1⟩
theorem sp_set1_ok {r : Nat → Int32} {k : Nat} (hW : xWF r) (hk : k < xnk r) : xWF (sp_set1 k r) ∧ (∀ i, i ≠ 59 + 6 * k → sp_set1 k r i = r i) := by
  have hk20 := hW.bd.k20
  unfold sp_set1
  split
  · have e : ∀ i, i ≠ 59 + 6 * k → upd r (59 + 6 * k) 0 i = r i := fun i hi => if_neg hi
    refine ⟨xWF_book hW hk (fun i hi => e i (by omega)) ?_, e⟩
    have c := hW.k k hk
    have e0 : xnb (upd r (59 + 6 * k) 0) = xnb r := by unfold xnb; rw [e 0 (by omega)]
    have e1 : xnv (upd r (59 + 6 * k) 0) = xnv r := by unfold xnv; rw [e 1 (by omega)]
    have e3 : xnq (upd r (59 + 6 * k) 0) = xnq r := by unfold xnq; rw [e 3 (by omega)]
    unfold xBk
    rw [e0, e1, e3, zu1, e (56 + 6 * k) (by omega), e (57 + 6 * k) (by omega), e (58 + 6 * k) (by omega), e (60 + 6 * k) (by omega)]
    refine ⟨c.1, c.2.1, Or.inl rfl, c.2.2.2.1, c.2.2.2.2.1, c.2.2.2.2.2.1, fun z => ?_, c.2.2.2.2.2.2.2⟩
    obtain ⟨q, q1, q2, q3⟩ := c.2.2.2.2.2.2.1 z
    refine ⟨q, q1, ?_, ?_⟩
    · rw [e (176 + 3 * q) (by omega)]; exact q2
    · rw [e (177 + 3 * q) (by omega)]; exact q3
  · exact ⟨hW, fun _ _ => rfl⟩
theorem sp_hold_ok {r : Nat → Int32} {k q : Nat} (hW : xWF r) (hk : k < xnk r) (hq : q < xnq r) (hb : r (176 + 3 * q) = nI k) (h0 : r (56 + 6 * k) = 0) : xWF (sp_hold k q r) ∧ (∀ i, i < 56 + 6 * k ∨ 62 + 6 * k ≤ i → sp_hold k q r i = r i) := by
  have hk20 := hW.bd.k20
  have e : ∀ i, i < 56 + 6 * k ∨ 62 + 6 * k ≤ i → sp_hold k q r i = r i := fun i hi => by
    show (if i = 61 + 6 * k then r 4 + r 5 else if i = 60 + 6 * k then r (177 + 3 * q) else sp_put r k 2 (r (57 + 6 * k)) i) = r i
    rw [if_neg (by omega), if_neg (by omega), sp_put_ne hi]
  have f0 : ∀ i, i ≠ 61 + 6 * k → i ≠ 60 + 6 * k → sp_hold k q r i = sp_put r k 2 (r (57 + 6 * k)) i := fun i h1 h2 => by
    show (if i = 61 + 6 * k then r 4 + r 5 else if i = 60 + 6 * k then r (177 + 3 * q) else sp_put r k 2 (r (57 + 6 * k)) i) = _
    rw [if_neg h1, if_neg h2]
  have f60 : sp_hold k q r (60 + 6 * k) = r (177 + 3 * q) := by
    show (if 60 + 6 * k = 61 + 6 * k then r 4 + r 5 else if 60 + 6 * k = 60 + 6 * k then r (177 + 3 * q) else sp_put r k 2 (r (57 + 6 * k)) (60 + 6 * k)) = _
    rw [if_neg (by omega), if_pos rfl]
  refine ⟨xWF_book hW hk e ?_, e⟩
  have c := hW.k k hk
  have e0 : xnb (sp_hold k q r) = xnb r := by unfold xnb; rw [e 0 (by omega)]
  have e1 : xnv (sp_hold k q r) = xnv r := by unfold xnv; rw [e 1 (by omega)]
  have e3 : xnq (sp_hold k q r) = xnq r := by unfold xnq; rw [e 3 (by omega)]
  unfold xBk
  rw [e0, e1, e3, f60, f0 (56 + 6 * k) (by omega) (by omega), f0 (57 + 6 * k) (by omega) (by omega), f0 (58 + 6 * k) (by omega) (by omega), f0 (59 + 6 * k) (by omega) (by omega), sp_put_0, sp_put_1, sp_put_2, sp_put_3]
  refine ⟨xil_nI (n := 2) (by omega) (by omega), c.2.1, c.2.2.1, fun _ => c.2.2.2.1 (Or.inl h0), fun z => absurd z (by decide), fun z => absurd z (by decide), fun _ => ⟨q, hq, ?_, ?_⟩, fun z => absurd z (by decide)⟩
  · rw [e (176 + 3 * q) (by omega)]; exact hb
  · rw [e (177 + 3 * q) (by omega)]
section RU
variable {w : xW} {l : Nat → Nat → Int64} {t : Nat} {sc : xm_Sc} {d : Nat}
end RU
