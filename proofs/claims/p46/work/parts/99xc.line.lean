/-! THE LAW: a book's text -/
def tD (x : Int32) : Int32 := nI (48 + x.toNatClampNeg)
def tS (r : Nat → Int32) (k : Nat) : List Int32 := if r (56 + 6 * k) = 0 then [64, tD (r (57 + 6 * k))] else if r (56 + 6 * k) = 1 then [62, tD (r (57 + 6 * k))] else if r (56 + 6 * k) = 2 then [33, tD (r (57 + 6 * k))] else if r (56 + 6 * k) = 3 then [45, tD (r (60 + 6 * k))] else [63]
def tR (r : Nat → Int32) (k : Nat) : List Int32 := if r (59 + 6 * k) = 1 then [114] else []
def tQ1 (r : Nat → Int32) (k q : Nat) : List Int32 := if r (176 + 3 * q) = nI k then [32, tD (r (177 + 3 * q)), 58, tD (r (178 + 3 * q))] else []
def tQ (r : Nat → Int32) (k : Nat) : Nat → List Int32
  | 0 => []
  | q + 1 => tQ r k q ++ tQ1 r k q
def tX (r : Nat → Int32) (k : Nat) : List Int32 := ((tD (nI k) :: tS r k) ++ tR r k) ++ tQ r k (xnq r)
def fOK (u : xFt) (t : List Int32) : Prop := u.1 = t.length ∧ ∀ i, i < t.length → u.2 i = t.getD i 0
section TX
variable {r : Nat → Int32} {u : xFt} {t : List Int32} {k : Nat}
theorem fOK_c {c : Int32} (h : fOK u t) : fOK (sp_wc u c) (t ++ [c]) := by
  obtain ⟨h1, h2⟩ := h
  have el : (t ++ [c]).length = t.length + 1 := List.length_append
  refine ⟨by rw [el, ← h1]; rfl, fun i hi => ?_⟩
  rw [el] at hi
  show (if i = u.1 then c else u.2 i) = _
  rw [h1]
  by_cases e : i = t.length
  · subst e
    rw [if_pos rfl, List.getD_eq_getElem?_getD, List.getElem?_append_right (Nat.le_refl _), Nat.sub_self]
    rfl
  · have hi' : i < t.length := by omega
    rw [if_neg e, h2 i hi', List.getD_eq_getElem?_getD, List.getD_eq_getElem?_getD, List.getElem?_append_left hi']
theorem dig_w : ∀ n, n < 10 → nI n ≤ 9 ∧ 48 + (nI n - nI n / 10 * 10) = nI (48 + n) := by decide +kernel
theorem fOK_n {x : Int32} (h : fOK u t) (hx : xil x 10) : fOK (sp_wn u x) (t ++ [tD x]) := by
  obtain ⟨d1, d2⟩ := dig_w x.toNatClampNeg hx.2
  rw [← hx.1] at d1 d2
  unfold sp_wn tD
  rw [if_pos d1, d2]
  exact fOK_c h
theorem fOK_p {c x : Int32} (h : fOK u t) (hx : xil x 10) : fOK (sp_wp u c x) (t ++ [c, tD x]) := by
  have z := fOK_n (fOK_c (c := c) h) hx
  rw [List.append_assoc] at z
  exact z
theorem fOK_fmt (hW : xWF r) (hD : rD r) (hk : k < xnk r) (hk10 : k < 10) {f : Nat → Int32} : fOK (sp_fmt r k f) (tX r k) := by
  have hb6 := hW.bd.b6
  have hv4 := hW.bd.v4
  obtain ⟨h5, -, h59, h02, h1, -, -, -⟩ := hW.k k hk
  have hs : fOK (sp_ws r k (sp_wn (0, f) (nI k))) (tD (nI k) :: tS r k) := by
    have z0 : fOK (0, f) [] := ⟨rfl, fun i hi => absurd hi (Nat.not_lt_zero i)⟩
    have z := fOK_n z0 (xil_nI hk10 (by omega))
    unfold sp_ws tS
    by_cases c0 : r (56 + 6 * k) = 0
    · rw [if_pos c0, if_pos c0]
      exact fOK_p z (xil_le (h02 (Or.inl c0)) (by omega))
    rw [if_neg c0, if_neg c0]
    by_cases c1 : r (56 + 6 * k) = 1
    · rw [if_pos c1, if_pos c1]
      exact fOK_p z (xil_le (h1 c1) (by omega))
    rw [if_neg c1, if_neg c1]
    by_cases c2 : r (56 + 6 * k) = 2
    · rw [if_pos c2, if_pos c2]
      exact fOK_p z (xil_le (h02 (Or.inr c2)) (by omega))
    rw [if_neg c2, if_neg c2]
    by_cases c3 : r (56 + 6 * k) = 3
    · rw [if_pos c3, if_pos c3]
      exact fOK_p z (hD.2 k hk c3)
    rw [if_neg c3, if_neg c3]
    exact fOK_c z
  have hr : fOK (sp_wr r k (sp_ws r k (sp_wn (0, f) (nI k)))) ((tD (nI k) :: tS r k) ++ tR r k) := by
    unfold sp_wr tR
    split
    · exact fOK_c hs
    · rw [List.append_nil]; exact hs
  have hq : ∀ n, n ≤ xnq r → fOK (sp_wq r k (sp_wr r k (sp_ws r k (sp_wn (0, f) (nI k)))) n) (((tD (nI k) :: tS r k) ++ tR r k) ++ tQ r k n) := by
    intro n
    induction n with
    | zero => intro _; unfold tQ; rw [List.append_nil]; exact hr
    | succ n ih =>
      intro hn
      have z := ih (by omega)
      show fOK (sp_wq1 r k n (sp_wq r k _ n)) (_ ++ (tQ r k n ++ tQ1 r k n))
      rw [← List.append_assoc]
      unfold sp_wq1 tQ1
      split
      · have z1 := fOK_n (fOK_c (c := 32) z) (hD.1 n (by omega))
        have z2 := fOK_p (c := 58) z1 (xil_le (hW.q.1 n (by omega)).2.2 (by omega))
        rw [List.append_assoc, List.append_assoc] at z2
        exact z2
      · rw [List.append_nil]; exact z
  exact hq (xnq r) (Nat.le_refl _)
theorem tS_len : (tS r k).length ≤ 2 := by
  unfold tS
  split
  · exact Nat.le_refl _
  split
  · exact Nat.le_refl _
  split
  · exact Nat.le_refl _
  split
  · exact Nat.le_refl _
  · show 1 ≤ 2; omega
theorem tQ_len : ∀ n, (tQ r k n).length ≤ 4 * n := by
  intro n
  induction n with
  | zero => exact Nat.le_refl _
  | succ n ih =>
    unfold tQ
    rw [List.length_append]
    have : (tQ1 r k n).length ≤ 4 := by
      unfold tQ1
      split
      · exact Nat.le_refl _
      · show 0 ≤ 4; omega
    omega
theorem tX_len (hB : xBd r) : (tX r k).length ≤ 164 := by
  have := hB.q40
  have h1 := @tS_len r k
  have h2 := @tQ_len r k (xnq r)
  have h3 : (tR r k).length ≤ 1 := by
    unfold tR
    split
    · exact Nat.le_refl _
    · show 0 ≤ 1; omega
  unfold tX
  rw [List.length_append, List.length_append, List.length_cons]
  omega
theorem tD_asc {x : Int32} (h : xil x 10) : asc (tD x) := ⟨48 + x.toNatClampNeg, by have := h.2; omega, rfl⟩
end TX
/-- a text that grows behind S0: its builder and bytes are new -/
def txJ (S0 T : xm_PS) (p q : Nat) (t : List Int32) (m : Nat) : Prop := (∃ cap, sbI T p q t cap) ∧ oF S0 T m oN ∧ S0.2.2.length ≤ p ∧ S0.2.2.length ≤ q
theorem txJ_s {S0 T T' : xm_PS} {p q q' cap' m : Nat} {t t' : List Int32} (h : txJ S0 T p q t m) (g : sbM T T' p q q' t' cap' 20) : txJ S0 T' p q' t' (m + 20) := by
  obtain ⟨-, h2, h3, h4⟩ := h
  obtain ⟨g1, g2, g3⟩ := g
  refine ⟨⟨cap', g1⟩, h2.tr2 g2 (fun x c hc z => ?_), h3, ?_⟩
  · have := os_lt hc
    rcases z with z | z <;> omega
  · rcases g3 with e | e
    · rw [e]; exact h4
    · exact Nat.le_trans h2.2.1 (by omega)
section CL
variable {w : xW} {ext : List xm_PC} {sc : xm_Sc} {d n k : Nat} {r : Nat → Int32} {hs : Nat → Nat → Int32} {sn : Option (Nat → Int32)}
/-- the class's line -/
theorem la_145 (hI : cI w r n hs sn) (hD : rD r) (hk : k < xnk r) (hk10 : k < 10) : ∃ w', xm_C sc xt_M (d + 5) 145 [.ref 0, .int (nI k)] (xL w ext) = some (.inl (some (.int (nI (tX r k).length))), xL w' ext) ∧ cI w' r n hs sn ∧ (w' 0).1 12 = nI (tX r k).length ∧ ∀ i, i < (tX r k).length → (w' 0).2 2 i = (tX r k).getD i 0 := by
  have e := @kd_145 w xl0 0 sc d r k hI.R hk
  obtain ⟨f1, f2⟩ := @fOK_fmt r k hI.W hD hk hk10 ((w 0).2 2)
  have hl := @tX_len r k hI.W.bd
  obtain ⟨⟨c0, c1, c2⟩, -⟩ := hI.2.2.2.2
  refine ⟨xu w 0 (kFg (w 0) (sp_fmt r k ((w 0).2 2))), ?_, cI_0 hI (fun i hi => ?_) ⟨c0, c1, ?_⟩ ⟨(tX r k).length, by omega, ?_⟩, ?_, fun i hi => ?_⟩
  · rw [f1] at e
    exact xL_C e
  · show upd (w 0).1 12 (nI (sp_fmt r k ((w 0).2 2)).1) i = _
    exact zun (by omega)
  · show upd (w 0).1 12 (nI (sp_fmt r k ((w 0).2 2)).1) 0 = _
    rw [zun (by omega)]
    exact c2
  · show upd (w 0).1 12 (nI (sp_fmt r k ((w 0).2 2)).1) 12 = _
    rw [zu1, f1]
  · rw [xu_same]
    show upd (w 0).1 12 (nI (sp_fmt r k ((w 0).2 2)).1) 12 = _
    rw [zu1, f1]
  · rw [xu_same]
    show (if 2 = 2 then (sp_fmt r k ((w 0).2 2)).2 else (w 0).2 2) i = _
    rw [if_pos rfl]
    exact f2 i hi
end CL
