/-! THE REFERENCE: unload -/
theorem zu1 {g : Nat → Int32} {k : Nat} {x : Int32} : upd g k x k = x := if_pos rfl
theorem xil_ib {x : Int32} {r : Nat → Int32} (h : xWF r) (hx : xil x (xnb r)) : xib x := xil_le hx h.bd.b6
def xhd (r r' : Nat → Int32) : Prop := ∀ i, i < 56 ∨ 176 ≤ i → r' i = r i
theorem xhd.k {r r' : Nat → Int32} (h : xhd r r') : xnk r' = xnk r := by unfold xnk; rw [h 2 (by omega)]
theorem xhd.v {r r' : Nat → Int32} (h : xhd r r') : xnv r' = xnv r := by unfold xnv; rw [h 1 (by omega)]
theorem xhd.b {r r' : Nat → Int32} (h : xhd r r') : xnb r' = xnb r := by unfold xnb; rw [h 0 (by omega)]
theorem xhd.q {r r' : Nat → Int32} (h : xhd r r') : xnq r' = xnq r := by unfold xnq; rw [h 3 (by omega)]
theorem xhd_put {r0 r : Nat → Int32} {k : Nat} {st pl : Int32} (hk : k < 20) (h : xhd r0 r) : xhd r0 (sp_put r k st pl) := fun i hi => (sp_put_h hk hi).trans (h i hi)
def sp_unl1 (f : Nat → Int32) (v : Nat) (b : Int32) (k : Nat) (u : (Nat → Int32) × (Nat → Int32)) : (Nat → Int32) × (Nat → Int32) := if sp_isIn u.1 1 k (nI v) ∧ sp_leaves f u.1 k v b then (sp_put u.1 k 0 b, upd u.2 k 1) else (u.1, upd u.2 k 0)
def sp_unl (f : Nat → Int32) (v : Nat) (b : Int32) (u : (Nat → Int32) × (Nat → Int32)) (n : Nat) : (Nat → Int32) × (Nat → Int32) := xfold (fun k u => sp_unl1 f v b k u) u n
theorem sp_unl_ok {f r j : Nat → Int32} {v : Nat} {b : Int32} (h : xWF r) (hb : xil b (xnb r)) : ∀ n, n ≤ xnk r → xWF (sp_unl f v b (r, j) n).1 ∧ xhd r (sp_unl f v b (r, j) n).1 := by
  intro n
  induction n with
  | zero => intro _; exact ⟨h, fun _ _ => rfl⟩
  | succ n ih =>
    intro hn
    obtain ⟨h1, h2⟩ := ih (by omega)
    have hk20 := h.bd.k20
    show xWF (sp_unl1 f v b n (sp_unl f v b (r, j) n)).1 ∧ xhd r (sp_unl1 f v b n (sp_unl f v b (r, j) n)).1
    unfold sp_unl1
    split
    · exact ⟨xWF_put h1 (by rw [h2.k]; omega) (Or.inl ⟨rfl, by rw [h2.b]; exact hb⟩), xhd_put (by omega) h2⟩
    · exact ⟨h1, h2⟩
section RP
variable {w : xW} {l : Nat → Nat → Int64} {t : Nat} {sc : xm_Sc} {d : Nat}
end RP
