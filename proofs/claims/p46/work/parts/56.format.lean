/-! THE REFERENCE: undo, snapshot, format -/
def xSs (w : xW) (x : Int32) : xW := xu w 3 (xs1 (w 3) 3 x)
section SS
variable {w : xW} {x : Int32}
theorem xSs_ne {g : Nat} (h : g ≠ 3) : xSs w x g = w g := xu_ne h
theorem xSs_1 {i : Nat} (h : i ≠ 3) : (xSs w x 3).1 i = (w 3).1 i := by
  unfold xSs
  rw [xu_same]
  exact if_neg h
theorem xSs_c : (xSs w x 3).1 3 = x := by
  unfold xSs
  rw [xu_same]
  rfl
theorem xSs_2 {a : Nat} : (xSs w x 3).2 a = (w 3).2 a := by
  unfold xSs
  rw [xu_same]
  rfl
end SS
/-- what is written: how long, the signs -/
abbrev xFt : Type := Nat × (Nat → Int32)
def xFg (m : xG) (u : xFt) : xG := (upd m.1 5 (nI u.1), fun a => if a = 7 then u.2 else m.2 a)
def xFw (w : xW) (u : xFt) : xW := xu w 3 (xFg (w 3) u)
section FW
variable {w : xW} {u u' : xFt}
theorem xFw_ne {g : Nat} (h : g ≠ 3) : xFw w u g = w g := xu_ne h
theorem xFw_1 {i : Nat} (h : i ≠ 5) : (xFw w u 3).1 i = (w 3).1 i := by
  unfold xFw
  rw [xu_same]
  exact if_neg h
theorem xFw_c : (xFw w u 3).1 5 = nI u.1 := by
  unfold xFw
  rw [xu_same]
  rfl
theorem xFw_2 {a : Nat} (h : a ≠ 7) : (xFw w u 3).2 a = (w 3).2 a := by
  unfold xFw
  rw [xu_same]
  exact if_neg h
theorem xFw_f : (xFw w u 3).2 7 = u.2 := by
  unfold xFw
  rw [xu_same]
  rfl
theorem xR_Fw : xR (xFw w u) = xR w := by
  have h : xri (xFw w u 3) = xri (w 3) := by
    unfold xri
    rw [xFw_1 (by omega)]
  unfold xR
  rw [h, xFw_2 (by have := @xri_lt (w 3); omega)]
theorem xFw_w : xu (xFw w u) 3 (xs1 (xs2 (xFw w u 3) 7 u'.2) 5 (nI u'.1)) = xFw w u' := by
  unfold xFw
  rw [xu_xu, xu_same]
  congr 1
  refine Prod.ext ?_ ?_
  · funext i
    show (if i = 5 then nI u'.1 else if i = 5 then nI u.1 else (w 3).1 i) = if i = 5 then nI u'.1 else (w 3).1 i
    split <;> rfl
  · funext a
    show (if a = 7 then u'.2 else if a = 7 then u.2 else (w 3).2 a) = if a = 7 then u'.2 else (w 3).2 a
    split <;> rfl
end FW
def sp_wc (u : xFt) (c : Int32) : xFt := (u.1 + 1, upd u.2 u.1 c)
def sp_wn (u : xFt) (x : Int32) : xFt := if x ≤ 9 then sp_wc u (48 + (x - x / 10 * 10)) else sp_wc (sp_wc u (48 + x / 10)) (48 + (x - x / 10 * 10))
def sp_wp (u : xFt) (c x : Int32) : xFt := sp_wn (sp_wc u c) x
def sp_ws (r : Nat → Int32) (k : Nat) (u : xFt) : xFt := if r (56 + 6 * k) = 0 then sp_wp u 64 (r (57 + 6 * k)) else if r (56 + 6 * k) = 1 then sp_wp u 62 (r (57 + 6 * k)) else if r (56 + 6 * k) = 2 then sp_wp u 33 (r (57 + 6 * k)) else if r (56 + 6 * k) = 3 then sp_wp u 45 (r (60 + 6 * k)) else sp_wc u 63
def sp_wr (r : Nat → Int32) (k : Nat) (u : xFt) : xFt := if r (59 + 6 * k) = 1 then sp_wc u 114 else u
def sp_wq1 (r : Nat → Int32) (k q : Nat) (u : xFt) : xFt := if r (176 + 3 * q) = nI k then sp_wp (sp_wn (sp_wc u 32) (r (177 + 3 * q))) 58 (r (178 + 3 * q)) else u
def sp_wq (r : Nat → Int32) (k : Nat) (u : xFt) (n : Nat) : xFt := xfold (fun q u => sp_wq1 r k q u) u n
def sp_fmt (r : Nat → Int32) (k : Nat) (f : Nat → Int32) : xFt := sp_wq r k (sp_wr r k (sp_ws r k (sp_wn (0, f) (nI k)))) (xnq r)
theorem sp_wn_le {u : xFt} {x : Int32} : (sp_wn u x).1 ≤ u.1 + 2 := by
  unfold sp_wn
  split
  · show u.1 + 1 ≤ _; omega
  · show u.1 + 1 + 1 ≤ _; omega
theorem sp_wp_le {u : xFt} {c x : Int32} : (sp_wp u c x).1 ≤ u.1 + 3 := by
  unfold sp_wp
  have := @sp_wn_le (sp_wc u c) x
  have e : (sp_wc u c).1 = u.1 + 1 := rfl
  omega
theorem sp_ws_le {r : Nat → Int32} {k : Nat} {u : xFt} : (sp_ws r k u).1 ≤ u.1 + 3 := by
  unfold sp_ws
  repeat' split
  all_goals first | exact sp_wp_le | (show u.1 + 1 ≤ _; omega)
theorem sp_wr_le {r : Nat → Int32} {k : Nat} {u : xFt} : (sp_wr r k u).1 ≤ u.1 + 1 := by
  unfold sp_wr
  split
  · exact Nat.le_refl _
  · omega
theorem sp_wq1_le {r : Nat → Int32} {k q : Nat} {u : xFt} : (sp_wq1 r k q u).1 ≤ u.1 + 6 := by
  unfold sp_wq1
  split
  · have h1 := @sp_wp_le (sp_wn (sp_wc u 32) (r (177 + 3 * q))) 58 (r (178 + 3 * q))
    have h2 := @sp_wn_le (sp_wc u 32) (r (177 + 3 * q))
    have e : (sp_wc u 32).1 = u.1 + 1 := rfl
    omega
  · omega
theorem sp_wq_le {r : Nat → Int32} {k : Nat} {u : xFt} : ∀ n, (sp_wq r k u n).1 ≤ u.1 + 6 * n := by
  intro n
  induction n with
  | zero => exact Nat.le_refl _
  | succ n ih =>
    have h : (sp_wq r k u (n + 1)).1 ≤ (sp_wq r k u n).1 + 6 := sp_wq1_le
    omega
section SN
variable {w : xW} {l : Nat → Nat → Int64} {t : Nat} {sc : xm_Sc} {d : Nat}
theorem z10f : ((10 : Int32) = 0) = False := eq_false (by decide)
theorem z21 : ((2 : Int32) = 1) = False := eq_false (by decide)
theorem z30 : ((3 : Int32) = 0) = False := eq_false (by decide)
theorem z31 : ((3 : Int32) = 1) = False := eq_false (by decide)
theorem z32 : ((3 : Int32) = 2) = False := eq_false (by decide)
theorem ztI {x : Int32} {n : Nat} (hn : n < 2 ^ 31) : (x.toInt = (n : Int)) = (x = nI n) := propext ⟨fun h => zti (h.trans (nI_toInt hn).symm), fun h => by rw [h, nI_toInt hn]⟩
theorem zt0 {x : Int32} : (x.toInt = 0) = (x = 0) := ztI (n := 0) (by omega)
theorem zt1 {x : Int32} : (x.toInt = 1) = (x = 1) := ztI (n := 1) (by omega)
theorem zt2 {x : Int32} : (x.toInt = 2) = (x = 2) := ztI (n := 2) (by omega)
theorem zt3 {x : Int32} : (x.toInt = 3) = (x = 3) := ztI (n := 3) (by omega)
theorem xFw_0 {f : Nat → Int32} (hf : f = (w 3).2 7) : xu w 3 (xs1 (w 3) 5 0) = xFw w (0, f) := by
  unfold xFw
  congr 1
  refine Prod.ext rfl ?_
  funext a
  show (w 3).2 a = if a = 7 then f else (w 3).2 a
  split
  · next h => rw [h, hf]
  · rfl
def sp_format (r : Nat → Int32) (a : Int32) (f : Nat → Int32) : Int32 × Int32 := if sp_bk r a then (0, nI (sp_fmt r a.toNatClampNeg f).1) else (1, 0)
end SN
