/-! THE REFERENCE: takeIn -/
def xfm {α : Type} (f : Nat → α → α) : Nat → Nat → α → α
  | _, 0, a => a
  | k, m + 1, a => xfm f (k + 1) m (f k a)
abbrev sp_tkc (f j : Nat → Int32) (v : Nat) (b sort : Int32) (k : Nat) (u : (Nat → Int32) × Int32) : Prop := ¬ u.2 ≤ 0 ∧ sp_isIn u.1 0 k b ∧ j k = 0 ∧ sp_class u.1 k = sort ∧ sp_goes f u.1 k v b = true
def sp_tk1 (f j : Nat → Int32) (v : Nat) (b sort : Int32) (k : Nat) (u : (Nat → Int32) × Int32) : (Nat → Int32) × Int32 := if sp_tkc f j v b sort k u then (sp_put u.1 k 1 (nI v), u.2 + (-1)) else u
def sp_tk (f j : Nat → Int32) (v : Nat) (b sort : Int32) (n : Nat) (u : (Nat → Int32) × Int32) : (Nat → Int32) × Int32 := xfm (fun k u => sp_tk1 f j v b sort k u) 0 n u
theorem sp_tk1_ok {f j r : Nat → Int32} {v k : Nat} {b sort : Int32} {u : (Nat → Int32) × Int32} (h1 : xWF u.1) (h2 : xhd r u.1) (hv : v < xnv r) (hk : k < xnk r) : xWF (sp_tk1 f j v b sort k u).1 ∧ xhd r (sp_tk1 f j v b sort k u).1 := by
  have hk20 := h1.bd.k20
  have hv4 := h1.bd.v4
  rw [h2.k] at hk20
  rw [h2.v] at hv4
  unfold sp_tk1
  split
  · exact ⟨xWF_put h1 (by rw [h2.k]; omega) (Or.inr (Or.inl ⟨rfl, by rw [h2.v]; exact xil_nI hv (by omega)⟩)), xhd_put (by omega) h2⟩
  · exact ⟨h1, h2⟩
theorem xfm_ok {f j r : Nat → Int32} {v : Nat} {b sort : Int32} (hv : v < xnv r) : ∀ m k u, k + m ≤ xnk r → xWF u.1 → xhd r u.1 → xWF (xfm (fun k u => sp_tk1 f j v b sort k u) k m u).1 ∧ xhd r (xfm (fun k u => sp_tk1 f j v b sort k u) k m u).1 := by
  intro m
  induction m with
  | zero => intro k u _ h1 h2; exact ⟨h1, h2⟩
  | succ m ih =>
    intro k u hk h1 h2
    obtain ⟨g1, g2⟩ := @sp_tk1_ok f j r v k b sort u h1 h2 hv (by omega)
    exact ih (k + 1) _ (by omega) g1 g2
theorem xfm_stop {f j : Nat → Int32} {v : Nat} {b sort : Int32} {u : (Nat → Int32) × Int32} (h : u.2 ≤ 0) : ∀ m k, xfm (fun k u => sp_tk1 f j v b sort k u) k m u = u := by
  intro m
  induction m with
  | zero => intro k; rfl
  | succ m ih =>
    intro k
    show xfm _ (k + 1) m (sp_tk1 f j v b sort k u) = u
    have : sp_tk1 f j v b sort k u = u := if_neg (fun g => g.1 h)
    rw [this]
    exact ih (k + 1)
section RQ
variable {w : xW} {l : Nat → Nat → Int64} {t : Nat} {sc : xm_Sc} {d : Nat}
end RQ
