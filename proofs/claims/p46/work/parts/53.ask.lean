/-! THE REFERENCE: operations (1) -/
/-- what an operation leaves: the row r', the history one longer -/
def xOps (w w' : xW) (r' : Nat → Int32) (n : Nat) : Prop := (∀ g, g ≠ 3 → w' g = w g) ∧ (∀ i, i ≠ 1 → i ≠ 2 → i ≠ 4 → (w' 3).1 i = (w 3).1 i) ∧ (∀ a, a ≠ 0 → a ≠ 2 → a ≠ 4 → a ≠ 5 → a ≠ 6 → (w' 3).2 a = (w 3).2 a) ∧ (∀ i, i < 296 → (w' 3).2 0 i = r' i) ∧ (w' 3).1 2 = 0 ∧ xHist w w' n
/-- an operation: what is thrown, what is told, the new row if it is recorded -/
def xOpA (o : Option xm_O) (w : xW) (l : Nat → Nat → Int64) (t n : Nat) (s : Int32 × Int32 × Option (Nat → Int32)) : Prop := match s.2.2 with
  | none => xAns o w l t (s.1, s.2.1)
  | some r' => s.1 = 0 ∧ ∃ w', o = some (.inl (some (.int s.2.1)), xem w' l t) ∧ xOps w w' r' n
section OP
variable {w w1 : xW} {n : Nat} {r' : Nat → Int32}
theorem xRs_eq : xRs w r' = xMw w r' (xF w) (xJ w) := by
  have := @xRs_M w (xR w) (xF w) (xJ w) r'
  rw [xMw_self] at this
  exact this
theorem xHist_T (hh : xHist (xT w 0) w1 n) : xHist w w1 n := by
  have e : ∀ a, (xT w 0 3).2 a = (w 3).2 a := fun a => by
    unfold xT
    rw [xu_same]
    rfl
  unfold xHist at *
  rw [e, e] at hh
  exact hh
theorem xOps_Rs (kr : xKr (xT w 0) w1) (hh : xHist (xT w 0) w1 n) (h0 : xri (w 3) = 0) : xOps w (xRs w1 r') r' n := by
  have hri : xri (w1 3) = 0 := by rw [kr.ri, xri_T]; exact h0
  have e1 : (xRs w1 r' 3).1 = (w1 3).1 := by unfold xRs; rw [xu_same]; rfl
  have e2 : ∀ a, a ≠ 0 → (xRs w1 r' 3).2 a = (w1 3).2 a := fun a ha => by
    unfold xRs
    rw [xu_same]
    exact if_neg (by omega)
  have e3 : (xRs w1 r' 3).2 0 = r' := by
    unfold xRs
    rw [xu_same, hri]
    exact xs2_same
  refine ⟨fun g hg => ?_, fun i h1 h2 h4 => ?_, fun a a0 a2 a4 a5 a6 => ?_, fun i _ => ?_, ?_, ?_⟩
  · unfold xRs
    rw [xu_ne hg, kr.1 g hg]
    unfold xT
    exact xu_ne hg
  · rw [e1, kr.2.1 i h1, xT_1 h2]
  · rw [e2 a a0, kr.2.2 a a4]
    unfold xT
    rw [xu_same]
    rfl
  · rw [e3]
  · rw [e1, kr.2.1 2 (by omega), xT_2]
  · have h := xHist_T hh
    unfold xHist at *
    rw [e1, e2 4 (by omega)]
    exact h
theorem xAns_e {o : Option xm_O} {l : Nat → Nat → Int64} {t : Nat} {e v : Int32} (h : o = some (.inl (some (.int v)), xem (xT w e) l t)) : xOpA o w l t n (e, v, none) := ⟨xT w e, h, xKp_T, xT_2⟩
theorem xOpA_s {o : Option xm_O} {l : Nat → Nat → Int64} {t : Nat} {v : Int32} (kr : xKr (xT w 0) w1) (hh : xHist (xT w 0) w1 n) (h0 : xri (w 3) = 0) (h : o = some (.inl (some (.int v)), xem (xRs w1 r') l t)) : xOpA o w l t n (0, v, some r') := ⟨rfl, _, h, xOps_Rs kr hh h0⟩
end OP
def sp_addq (r : Nat → Int32) (a rd b : Int32) : Nat → Int32 := upd (upd (upd (upd r (176 + 3 * xnq r) a) (177 + 3 * xnq r) rd) (178 + 3 * xnq r) b) 3 (nI (xnq r + 1))
theorem sp_addq_3 {r : Nat → Int32} {a rd b : Int32} : sp_addq r a rd b 3 = nI (xnq r + 1) := zu1
theorem sp_addq_h {r : Nat → Int32} {a rd b : Int32} {i : Nat} (h3 : i ≠ 3) (hi : i < 176 + 3 * xnq r) : sp_addq r a rd b i = r i := by
  unfold sp_addq
  rw [zun h3, zun (by omega), zun (by omega), zun (by omega)]
theorem sp_addq_bd {r : Nat → Int32} {a rd b : Int32} (hB : xBd r) (hq : xnq r < 40) : xBd (sp_addq r a rd b) := by
  have e : ∀ i, i < 3 → sp_addq r a rd b i = r i := fun i hi => sp_addq_h (by omega) (by omega)
  have e0 : xnb (sp_addq r a rd b) = xnb r := by unfold xnb; rw [e 0 (by omega)]
  have e1 : xnv (sp_addq r a rd b) = xnv r := by unfold xnv; rw [e 1 (by omega)]
  have e2 : xnk (sp_addq r a rd b) = xnk r := by unfold xnk; rw [e 2 (by omega)]
  have e3 : xnq (sp_addq r a rd b) = xnq r + 1 := by unfold xnq; rw [sp_addq_3, nI_clamp (by omega)]; rfl
  unfold xBd
  rw [e0, e1, e2, e3, e 0 (by omega), e 1 (by omega), e 2 (by omega), sp_addq_3]
  exact ⟨hB.1, hB.2.1, hB.2.2.1, rfl, by omega⟩
def sp_ask (r : Nat → Int32) (a rd b : Int32) : Int32 × Int32 × Option (Nat → Int32) := if 0 ≤ a ∧ a ≤ r 2 - 1 then (if 0 ≤ b ∧ b ≤ r 0 - 1 then (if 0 ≤ rd ∧ rd ≤ 99 then (if xnq r = 40 then (0, -2, none) else
  if r (56 + 6 * a.toNatClampNeg) = 3 ∧ r (60 + 6 * a.toNatClampNeg) = rd then (0, -3, none) else match sp_by r a rd with
  | some _ => (0, -3, none)
  | none => (0, sp_queue (sp_addq r a rd b) a - 1, some (sp_addq r a rd b))) else (2, 0, none)) else (1, 0, none)) else (1, 0, none)
section SK
variable {w : xW} {l : Nat → Nat → Int64} {t : Nat} {sc : xm_Sc} {d : Nat}
end SK
