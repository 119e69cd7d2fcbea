/-! THE REFERENCE over the world: its row, loops, small methods -/
def zB (c : Prop) [Decidable c] : Int32 := if c then 1 else 0
theorem zB_b01 {c : Prop} [Decidable c] : xm_b01 (zB c) = true := by
  unfold zB
  split <;> rfl
theorem zB_0 {c : Prop} [Decidable c] : (zB c = 0) = ¬ c := by
  unfold zB
  by_cases h : c
  · simp [h]
  · simp [h]
theorem zB_1 {c : Prop} [Decidable c] : (zB c = 1) = c := by
  unfold zB
  by_cases h : c
  · simp [h]
  · simp [h]
theorem zB_t {c : Prop} [Decidable c] (h : c) : (1 : Int32) = zB c := (if_pos h).symm
theorem zB_f {c : Prop} [Decidable c] (h : ¬ c) : (0 : Int32) = zB c := (if_neg h).symm
theorem zbs {α β : Type} {a : α} {f : α → Option β} : (some a).bind f = f a := rfl
abbrev zTy {α β : Type} (_ : α → Option β) : Type := Option β
def zbd {α β : Type} (a : Option α) (f : α → Option β) : zTy f := a.bind f
theorem zbE {α β : Type} {a : Option α} {f : α → Option β} : a.bind f = zbd a f := rfl
theorem zbd_some {α β : Type} {a : α} {f : α → Option β} : zbd (some a) f = f a := rfl
theorem zA {a b : Nat} : nI a + nI b = nI (a + b) := (Int32.ofNat_add a b).symm
theorem zM {a b : Nat} : nI a * nI b = nI (a * b) := (Int32.ofNat_mul a b).symm
theorem zS {a : Nat} : nI a + 1 = nI (a + 1) := (nI_succ a).symm
theorem nI_inj {a b : Nat} (ha : a < 2 ^ 31) (hb : b < 2 ^ 31) (h : nI a = nI b) : a = b := by
  rw [← nI_clamp ha, h, nI_clamp hb]
theorem zEq {a b : Nat} (ha : a < 2 ^ 31) (hb : b < 2 ^ 31) : (nI a = nI b) = (a = b) := propext ⟨nI_inj ha hb, fun h => by rw [h]⟩
/-- a sum, a first place, a fold -/
def xsum (f : Nat → Int32) : Nat → Int32
  | 0 => 0
  | n + 1 => xsum f n + f n
def xfst (p : Nat → Prop) [DecidablePred p] : Nat → Nat → Option Nat
  | _, 0 => none
  | i, m + 1 => if p i then some i else xfst p (i + 1) m
def xfold {α : Type} (f : Nat → α → α) (a : α) : Nat → α
  | 0 => a
  | n + 1 => f n (xfold f a n)
def toJ : Option Nat → Int32
  | none => -1
  | some i => nI i
theorem xlp (R : Nat → Option xm_O) {K : Option xm_O} (n : Nat) (hs : ∀ i, i < n → R i = R (i + 1)) (he : R n = K) : R 0 = K := by
  have h : ∀ i, i ≤ n → R 0 = R i := by
    intro i
    induction i with
    | zero => intro _; rfl
    | succ i ih => intro hi; rw [ih (by omega), hs i (by omega)]
  rw [h n (Nat.le_refl n), he]
theorem xlf (R : Nat → Option xm_O) {p : Nat → Prop} [DecidablePred p] {K : Nat → Option xm_O} {E : Option xm_O} (n : Nat) (hs : ∀ i, i < n → R i = if p i then K i else R (i + 1)) (he : R n = E) : R 0 = (match xfst p 0 n with | some i => K i | none => E) := by
  have h : ∀ m i, i + m = n → R i = (match xfst p i m with | some i => K i | none => E) := by
    intro m
    induction m with
    | zero =>
      intro i hi
      rw [show i = n by omega, he]
      rfl
    | succ m ih =>
      intro i hi
      rw [hs i (by omega)]
      unfold xfst
      by_cases hp : p i
      · rw [if_pos hp, if_pos hp]
      · rw [if_neg hp, if_neg hp, ih (i + 1) (by omega)]
  exact h n 0 (by omega)
theorem xfst_some {p : Nat → Prop} [DecidablePred p] {n i m : Nat} (h : xfst p i m = some n) : p n ∧ i ≤ n ∧ n < i + m ∧ ∀ j, i ≤ j → j < n → ¬ p j := by
  induction m generalizing i with
  | zero => cases h
  | succ m ih =>
    unfold xfst at h
    by_cases hp : p i
    · rw [if_pos hp] at h
      cases h
      exact ⟨hp, Nat.le_refl _, by omega, fun j h1 h2 => by omega⟩
    · rw [if_neg hp] at h
      obtain ⟨h1, h2, h3, h4⟩ := ih h
      refine ⟨h1, by omega, by omega, fun j g1 g2 => ?_⟩
      by_cases e : j = i
      · rw [e]; exact hp
      · exact h4 j (by omega) g2
theorem xfst_none {p : Nat → Prop} [DecidablePred p] {i m : Nat} (h : xfst p i m = none) : ∀ j, i ≤ j → j < i + m → ¬ p j := by
  induction m generalizing i with
  | zero => intro j h1 h2; omega
  | succ m ih =>
    unfold xfst at h
    by_cases hp : p i
    · rw [if_pos hp] at h
      cases h
    · rw [if_neg hp] at h
      intro j g1 g2
      by_cases e : j = i
      · rw [e]; exact hp
      · exact ih h j (by omega) (by omega)
/-- the reference's row -/
def xR (w : xW) : Nat → Int32 := (w 3).2 (xri (w 3))
def xRs (w : xW) (r : Nat → Int32) : xW := xu w 3 (xs2 (w 3) (xri (w 3)) r)
/-- what it has thrown -/
def xT (w : xW) (x : Int32) : xW := xu w 3 (xs1 (w 3) 2 x)
theorem xR_s {w : xW} {r : Nat → Int32} : xR (xRs w r) = r := by
  unfold xR xRs
  rw [xu_same]
  exact if_pos rfl
theorem xRs_s {w : xW} {r r' : Nat → Int32} : xRs (xRs w r) r' = xRs w r' := by
  unfold xRs
  rw [xu_xu, xu_same]
  congr 1
  show ((w 3).1, _) = ((w 3).1, _)
  congr 1
  funext a
  show (if a = xri (w 3) then r' else if a = xri (w 3) then r else (w 3).2 a) = if a = xri (w 3) then r' else (w 3).2 a
  split <;> rfl
theorem xR_T {w : xW} {x : Int32} : xR (xT w x) = xR w := by
  unfold xR xT
  rw [xu_same]
  rfl
theorem xT_T {w : xW} {x y : Int32} : xT (xT w x) y = xT w y := by
  unfold xT
  rw [xu_xu, xu_same]
  congr 1
  show (_, (w 3).2) = (_, (w 3).2)
  congr 1
  funext a
  unfold upd
  show (if a = 2 then y else if a = 2 then x else (w 3).1 a) = if a = 2 then y else (w 3).1 a
  split <;> rfl
section RF
variable {w : xW} {l : Nat → Nat → Int64} {t : Nat} {sc : xm_Sc} {d : Nat}
theorem zxV_0 {v : Nat} : ((12 : Int32) + 11 * nI v) + 0 = nI (12 + 11 * v) := by
  show nI 12 + nI 11 * nI v + nI 0 = _
  rw [zM, zA, zA, show 12 + 11 * v + 0 = 12 + 11 * v by omega]
theorem zxV_1 {v : Nat} : ((12 : Int32) + 11 * nI v) + 1 = nI (13 + 11 * v) := by
  show nI 12 + nI 11 * nI v + nI 1 = _
  rw [zM, zA, zA, show 12 + 11 * v + 1 = 13 + 11 * v by omega]
theorem zxV_2 {v : Nat} : ((12 : Int32) + 11 * nI v) + 2 = nI (14 + 11 * v) := by
  show nI 12 + nI 11 * nI v + nI 2 = _
  rw [zM, zA, zA, show 12 + 11 * v + 2 = 14 + 11 * v by omega]
theorem zxK_0 {v : Nat} : ((56 : Int32) + 6 * nI v) + 0 = nI (56 + 6 * v) := by
  show nI 56 + nI 6 * nI v + nI 0 = _
  rw [zM, zA, zA, show 56 + 6 * v + 0 = 56 + 6 * v by omega]
theorem zxK_1 {v : Nat} : ((56 : Int32) + 6 * nI v) + 1 = nI (57 + 6 * v) := by
  show nI 56 + nI 6 * nI v + nI 1 = _
  rw [zM, zA, zA, show 56 + 6 * v + 1 = 57 + 6 * v by omega]
theorem zxK_2 {v : Nat} : ((56 : Int32) + 6 * nI v) + 2 = nI (58 + 6 * v) := by
  show nI 56 + nI 6 * nI v + nI 2 = _
  rw [zM, zA, zA, show 56 + 6 * v + 2 = 58 + 6 * v by omega]
theorem zxK_3 {v : Nat} : ((56 : Int32) + 6 * nI v) + 3 = nI (59 + 6 * v) := by
  show nI 56 + nI 6 * nI v + nI 3 = _
  rw [zM, zA, zA, show 56 + 6 * v + 3 = 59 + 6 * v by omega]
theorem zxK_4 {v : Nat} : ((56 : Int32) + 6 * nI v) + 4 = nI (60 + 6 * v) := by
  show nI 56 + nI 6 * nI v + nI 4 = _
  rw [zM, zA, zA, show 56 + 6 * v + 4 = 60 + 6 * v by omega]
theorem zxK_5 {v : Nat} : ((56 : Int32) + 6 * nI v) + 5 = nI (61 + 6 * v) := by
  show nI 56 + nI 6 * nI v + nI 5 = _
  rw [zM, zA, zA, show 56 + 6 * v + 5 = 61 + 6 * v by omega]
theorem zxQ_0 {v : Nat} : ((176 : Int32) + 3 * nI v) + 0 = nI (176 + 3 * v) := by
  show nI 176 + nI 3 * nI v + nI 0 = _
  rw [zM, zA, zA, show 176 + 3 * v + 0 = 176 + 3 * v by omega]
theorem zxQ_1 {v : Nat} : ((176 : Int32) + 3 * nI v) + 1 = nI (177 + 3 * v) := by
  show nI 176 + nI 3 * nI v + nI 1 = _
  rw [zM, zA, zA, show 176 + 3 * v + 1 = 177 + 3 * v by omega]
theorem zxQ_2 {v : Nat} : ((176 : Int32) + 3 * nI v) + 2 = nI (178 + 3 * v) := by
  show nI 176 + nI 3 * nI v + nI 2 = _
  rw [zM, zA, zA, show 176 + 3 * v + 2 = 178 + 3 * v by omega]
theorem zxV_s {v s : Nat} : ((12 : Int32) + 11 * nI v) + (3 + nI s) = nI (15 + 11 * v + s) := by
  show nI 12 + nI 11 * nI v + (nI 3 + nI s) = _
  rw [zM, zA, zA, zA, show 12 + 11 * v + (3 + s) = 15 + 11 * v + s by omega]
theorem zxQ_n {v : Nat} : (176 : Int32) + 3 * nI v = nI (176 + 3 * v) := by
  show nI 176 + nI 3 * nI v = _
  rw [zM, zA]
theorem zxO {b : Nat} : (6 : Int32) + nI b = nI (6 + b) := zA (a := 6)
theorem zxF {a b : Nat} : (6 : Int32) * nI a + nI b = nI (6 * a + b) := by
  show nI 6 * nI a + nI b = _
  rw [zM, zA]
/-- a number that is a branch's -/
def xil (x : Int32) (n : Nat) : Prop := x = nI x.toNatClampNeg ∧ x.toNatClampNeg < n
abbrev xib (x : Int32) : Prop := xil x 6
theorem xil_nI {n m : Nat} (h : n < m) (hm : m < 2 ^ 31) : xil (nI n) m := by
  unfold xil
  rw [nI_clamp (by omega)]
  exact ⟨rfl, h⟩
theorem xil_le {x : Int32} {n m : Nat} (h : xil x n) (hm : n ≤ m) : xil x m := ⟨h.1, Nat.lt_of_lt_of_le h.2 hm⟩
abbrev xop (r : Nat → Int32) (x : Int32) : Prop := r (6 + x.toNatClampNeg) = 1
/-- counts are in bounds -/
def xnb (r : Nat → Int32) : Nat := (r 0).toNatClampNeg
def xnv (r : Nat → Int32) : Nat := (r 1).toNatClampNeg
def xnk (r : Nat → Int32) : Nat := (r 2).toNatClampNeg
def xnq (r : Nat → Int32) : Nat := (r 3).toNatClampNeg
def xBd (r : Nat → Int32) : Prop := (r 0 = nI (xnb r) ∧ xnb r ≤ 6) ∧ (r 1 = nI (xnv r) ∧ xnv r ≤ 4) ∧ (r 2 = nI (xnk r) ∧ xnk r ≤ 20) ∧ r 3 = nI (xnq r) ∧ xnq r ≤ 40
theorem xBd.b {r : Nat → Int32} (h : xBd r) : r 0 = nI (xnb r) := h.1.1
theorem xBd.b6 {r : Nat → Int32} (h : xBd r) : xnb r ≤ 6 := h.1.2
theorem xBd.v {r : Nat → Int32} (h : xBd r) : r 1 = nI (xnv r) := h.2.1.1
theorem xBd.v4 {r : Nat → Int32} (h : xBd r) : xnv r ≤ 4 := h.2.1.2
theorem xBd.k {r : Nat → Int32} (h : xBd r) : r 2 = nI (xnk r) := h.2.2.1.1
theorem xBd.k20 {r : Nat → Int32} (h : xBd r) : xnk r ≤ 20 := h.2.2.1.2
theorem xBd.q {r : Nat → Int32} (h : xBd r) : r 3 = nI (xnq r) := h.2.2.2.1
theorem xBd.q40 {r : Nat → Int32} (h : xBd r) : xnq r ≤ 40 := h.2.2.2.2
def sp_queue (r : Nat → Int32) (b : Int32) : Int32 := xsum (fun q => zB (r (176 + 3 * q) = b)) (xnq r)
def sp_by (r : Nat → Int32) (b rd : Int32) : Option Nat := xfst (fun q => r (176 + 3 * q) = b ∧ r (177 + 3 * q) = rd) 0 (xnq r)
def sp_rank (r : Nat → Int32) (q : Nat) : Int32 := xsum (fun p => zB (r (176 + 3 * p) = r (176 + 3 * q))) q
def sp_at (r : Nat → Int32) (b pl : Int32) : Option Nat := xfst (fun q => r (176 + 3 * q) = b ∧ sp_rank r q = pl) 0 (xnq r)
abbrev sp_isIn (r : Nat → Int32) (st : Int32) (k : Nat) (v : Int32) : Prop := r (56 + 6 * k) = st ∧ r (57 + 6 * k) = v
def sp_booksIn (r : Nat → Int32) (st v : Int32) : Int32 := xsum (fun k => zB (sp_isIn r st k v)) (xnk r)
def sp_inState (r : Nat → Int32) (st : Int32) : Int32 := xsum (fun k => zB (r (56 + 6 * k) = st)) (xnk r)
def sp_first (r : Nat → Int32) (b : Int32) : Option Nat := xfst (fun q => r (176 + 3 * q) = b ∧ xop r (r (178 + 3 * q))) 0 (xnq r)
def sp_want (r : Nat → Int32) (k : Nat) : Option Nat := if r (59 + 6 * k) = 1 then none else sp_first r (nI k)
def sp_goal (r : Nat → Int32) (k : Nat) : Int32 := match sp_want r k with
  | some q => r (178 + 3 * q)
  | none => if xop r (r (58 + 6 * k)) then r (58 + 6 * k) else -1
def sp_put (r : Nat → Int32) (k : Nat) (st pl : Int32) : Nat → Int32 := upd (upd (upd (upd r (56 + 6 * k) st) (57 + 6 * k) pl) (60 + 6 * k) (-1)) (61 + 6 * k) (-1)
end RF
