/-! THE REFERENCE: operations (3) -/
theorem xRs_self {w : xW} : xRs w (xR w) = w := by rw [xRs_eq, xMw_self]
theorem xBd_hd {r r' : Nat → Int32} (e : ∀ i, i < 4 → r' i = r i) (h : xBd r) : xBd r' := by
  have e0 : xnb r' = xnb r := by unfold xnb; rw [e 0 (by omega)]
  have e1 : xnv r' = xnv r := by unfold xnv; rw [e 1 (by omega)]
  have e2 : xnk r' = xnk r := by unfold xnk; rw [e 2 (by omega)]
  have e3 : xnq r' = xnq r := by unfold xnq; rw [e 3 (by omega)]
  unfold xBd
  rw [e0, e1, e2, e3, e 0 (by omega), e 1 (by omega), e 2 (by omega), e 3 (by omega)]
  exact h
theorem xWF_low {r r' : Nat → Int32} (h : xWF r) (e : ∀ i, i ≠ 5 → (i < 6 ∨ 12 ≤ i) → r' i = r i) (h5 : xil (r' 5) 51) (ho : xWo r') : xWF r' := by
  have hv4 := h.bd.v4
  have hk20 := h.bd.k20
  have e0 : xnb r' = xnb r := by unfold xnb; rw [e 0 (by omega) (by omega)]
  have e1 : xnv r' = xnv r := by unfold xnv; rw [e 1 (by omega) (by omega)]
  have e2 : xnk r' = xnk r := by unfold xnk; rw [e 2 (by omega) (by omega)]
  have e3 : xnq r' = xnq r := by unfold xnq; rw [e 3 (by omega) (by omega)]
  refine ⟨xBd_hd (fun i hi => e i (by omega) (by omega)) h.bd, ?_, ho, ?_, ?_, ?_⟩
  · unfold xWn
    rw [e0, e1, e 4 (by omega) (by omega)]
    exact ⟨h.n.1, h.n.2.1, h.n.2.2.1, h5⟩
  · intro v hv
    rw [e1] at hv
    obtain ⟨a1, a2, a3, a4, a5⟩ := h.v v hv
    unfold xst at *
    rw [e (12 + 11 * v) (by omega) (by omega), e (13 + 11 * v) (by omega) (by omega), e (14 + 11 * v) (by omega) (by omega), e0]
    refine ⟨a1, a2, a3, a4, fun s hs => ?_⟩
    rw [e (15 + 11 * v + s) (by omega) (by omega)]
    exact a5 s hs
  · intro k hk
    rw [e2] at hk
    have c := h.k k hk
    rw [e0, e1, e3, e (56 + 6 * k) (by omega) (by omega), e (57 + 6 * k) (by omega) (by omega), e (58 + 6 * k) (by omega) (by omega), e (59 + 6 * k) (by omega) (by omega), e (60 + 6 * k) (by omega) (by omega)]
    refine ⟨c.1, c.2.1, c.2.2.1, c.2.2.2.1, c.2.2.2.2.1, c.2.2.2.2.2.1, fun z => ?_, c.2.2.2.2.2.2.2⟩
    obtain ⟨q, q1, q2, q3⟩ := c.2.2.2.2.2.2.1 z
    refine ⟨q, q1, ?_, ?_⟩
    · rw [e (176 + 3 * q) (by omega) (by omega)]; exact q2
    · rw [e (177 + 3 * q) (by omega) (by omega)]; exact q3
  · unfold xWq
    rw [e3, e2, e0]
    refine ⟨fun q hq => ?_, fun p q hp hq => ?_⟩
    · rw [e (176 + 3 * q) (by omega) (by omega), e (177 + 3 * q) (by omega) (by omega), e (178 + 3 * q) (by omega) (by omega)]
      exact h.q.1 q hq
    · rw [e (176 + 3 * q) (by omega) (by omega), e (177 + 3 * q) (by omega) (by omega), e (176 + 3 * p) (by omega) (by omega), e (177 + 3 * p) (by omega) (by omega)]
      exact h.q.2 p q hp hq
theorem xWF_open {r : Nat → Int32} {b : Nat} {x : Int32} (h : xWF r) (hb : b < 6) (hx : x = 0 ∨ x = 1) : xWF (upd r (6 + b) x) := by
  refine xWF_low h (fun i h5 hi => zun (by omega)) (by rw [zun (by omega)]; exact h.n.2.2.2) (fun c hc => ?_)
  by_cases e : c = b
  · subst e
    rw [zu1]
    exact hx
  · rw [zun (by omega)]
    exact h.o c hc
def sp_lose1 (v : Int32) (k : Nat) (u : (Nat → Int32) × Int32) : (Nat → Int32) × Int32 := if sp_isIn u.1 1 k v then (sp_put u.1 k 4 (-1), u.2 + 1) else u
def sp_loseU (r : Nat → Int32) (v : Int32) (n : Nat) : (Nat → Int32) × Int32 := xfold (fun k u => sp_lose1 v k u) (r, 0) n
theorem sp_loseU_ok {r : Nat → Int32} {v : Int32} (hW : xWF r) : ∀ n, n ≤ xnk r → xWF (sp_loseU r v n).1 ∧ xhd r (sp_loseU r v n).1 := by
  have hk20 := hW.bd.k20
  intro n
  induction n with
  | zero => intro _; exact ⟨hW, fun _ _ => rfl⟩
  | succ n ih =>
    intro hn
    obtain ⟨h1, h2⟩ := ih (by omega)
    show xWF (sp_lose1 v n (sp_loseU r v n)).1 ∧ xhd r (sp_lose1 v n (sp_loseU r v n)).1
    unfold sp_lose1
    split
    · exact ⟨xWF_put h1 (by rw [h2.k]; omega) (Or.inr (Or.inr ⟨rfl, rfl⟩)), xhd_put (by omega) h2⟩
    · exact ⟨h1, h2⟩
def sp_close1 (b : Int32) (k : Nat) (r : Nat → Int32) : Nat → Int32 := if r (56 + 6 * k) = 2 ∧ r (57 + 6 * k) = b then sp_put r k 0 b else r
def sp_closeU (r : Nat → Int32) (b : Int32) (n : Nat) : Nat → Int32 := xfold (fun k u => sp_close1 b k u) (upd r (6 + b.toNatClampNeg) 0) n
theorem sp_closeU_ok {r : Nat → Int32} {b : Nat} (hW : xWF r) (hb : b < xnb r) : ∀ n, n ≤ xnk r → xWF (sp_closeU r (nI b) n) ∧ xhd (upd r (6 + b) 0) (sp_closeU r (nI b) n) := by
  have hk20 := hW.bd.k20
  have hb6 := hW.bd.b6
  have e : ∀ i, i < 6 → upd r (6 + b) 0 i = r i := fun i hi => zun (by omega)
  have eb : xnb (upd r (6 + b) 0) = xnb r := by unfold xnb; rw [e 0 (by omega)]
  have ek : xnk (upd r (6 + b) 0) = xnk r := by unfold xnk; rw [e 2 (by omega)]
  intro n
  induction n with
  | zero =>
    intro _
    show xWF (upd r (6 + (nI b).toNatClampNeg) 0) ∧ xhd (upd r (6 + b) 0) (upd r (6 + (nI b).toNatClampNeg) 0)
    rw [nI_clamp (by omega)]
    exact ⟨xWF_open hW (by omega) (Or.inl rfl), fun _ _ => rfl⟩
  | succ n ih =>
    intro hn
    obtain ⟨h1, h2⟩ := ih (by omega)
    show xWF (sp_close1 (nI b) n (sp_closeU r (nI b) n)) ∧ xhd (upd r (6 + b) 0) (sp_close1 (nI b) n (sp_closeU r (nI b) n))
    unfold sp_close1
    split
    · exact ⟨xWF_put h1 (by rw [h2.k]; omega) (Or.inl ⟨rfl, by rw [h2.b, eb]; exact xil_nI hb (by omega)⟩), xhd_put (by omega) h2⟩
    · exact ⟨h1, h2⟩
def sp_lose (r : Nat → Int32) (a : Int32) : Int32 × Int32 × Option (Nat → Int32) := if sp_vn r a then (0, (sp_loseU r a (xnk r)).2, some (sp_loseU r a (xnk r)).1) else (1, 0, none)
def sp_close (r : Nat → Int32) (a : Int32) : Int32 × Int32 × Option (Nat → Int32) := if sp_br r a then (if xop r a then (0, sp_booksIn (sp_closeU r a (xnk r)) 0 a, some (sp_closeU r a (xnk r))) else (0, -2, none)) else (1, 0, none)
abbrev sp_opc (r : Nat → Int32) (a : Int32) (k : Nat) : Prop := sp_isIn r 0 k a ∧ sp_goal r k = a
def sp_openC (r : Nat → Int32) (a : Int32) (n : Nat) : Int32 := xsum (fun k => zB (sp_opc r a k)) n
def sp_open (r : Nat → Int32) (a : Int32) : Int32 × Int32 × Option (Nat → Int32) := if sp_br r a then (if xop r a then (0, -2, none) else (0, sp_openC (upd r (6 + a.toNatClampNeg) 1) a (xnk r), some (upd r (6 + a.toNatClampNeg) 1))) else (1, 0, none)
def sp_run (u : xU) (x : Int32) : Int32 × Int32 × Option (Nat → Int32) := if 1 ≤ x ∧ x ≤ 99 then (if u.1 4 + x ≤ 9999 then (0, (sp_us (u.1, u.2.1, u.2.2.1, 0) x.toNatClampNeg).2.2.2, some (sp_us (u.1, u.2.1, u.2.2.1, 0) x.toNatClampNeg).1) else (0, -2, none)) else (1, 0, none)
section SM
variable {w : xW} {l : Nat → Nat → Int64} {t : Nat} {sc : xm_Sc} {d : Nat}
theorem xOps_Mu {w1 : xW} {n : Nat} {u : xU} (kr : xKr (xT w 0) w1) (hh : xHist (xT w 0) w1 n) (h0 : xri (w 3) = 0) : xOps w (xMu w1 u) u.1 n := by
  have hri : xri (w1 3) = 0 := by rw [kr.ri, xri_T]; exact h0
  refine ⟨fun g hg => ?_, fun i h1 h2 h4 => ?_, fun a a0 a2 a4 a5 a6 => ?_, fun i _ => ?_, ?_, ?_⟩
  · rw [xMu_ne hg, kr.1 g hg]
    unfold xT
    exact xu_ne hg
  · rw [xMu_1 h4, kr.2.1 i h1, xT_1 h2]
  · rw [xMu_2 a6 a5 (by omega), kr.2.2 a a4]
    unfold xT
    rw [xu_same]
    rfl
  · have := @xR_u w1 u
    unfold xR at this
    have e : xri (xMu w1 u 3) = 0 := by
      unfold xri
      rw [xMu_1 (by omega)]
      exact hri
    rw [e] at this
    rw [this]
  · rw [xMu_1 (by omega), kr.2.1 2 (by omega), xT_2]
  · have h := xHist_T hh
    unfold xHist at *
    rw [xMu_1 (by omega), xMu_2 (by omega) (by omega) (by omega)]
    exact h
end SM
