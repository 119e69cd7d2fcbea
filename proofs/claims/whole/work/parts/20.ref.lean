/-! THE REFERENCE over the world: its row, loops, small methods -/
def zB (c : Prop) [Decidable c] : Int32 := if c then 1 else 0
theorem zB_b01 {c : Prop} [Decidable c] : xm_b01 (zB c) = true := by
  unfold zB
  split <;> rfl
theorem zB_0 {c : Prop} [Decidable c] : (zB c = 0) = ¬ c := by
  unfold zB
  by_cases h : c
  · simp [h]
  · simp [h]
theorem zB_1 {c : Prop} [Decidable c] : (zB c = 1) = c := by
  unfold zB
  by_cases h : c
  · simp [h]
  · simp [h]
theorem zB_t {c : Prop} [Decidable c] (h : c) : (1 : Int32) = zB c := (if_pos h).symm
theorem zB_f {c : Prop} [Decidable c] (h : ¬ c) : (0 : Int32) = zB c := (if_neg h).symm
theorem zbs {α β : Type} {a : α} {f : α → Option β} : (some a).bind f = f a := rfl
abbrev zTy {α β : Type} (_ : α → Option β) : Type := Option β
def zbd {α β : Type} (a : Option α) (f : α → Option β) : zTy f := a.bind f
theorem zbE {α β : Type} {a : Option α} {f : α → Option β} : a.bind f = zbd a f := rfl
theorem zbd_some {α β : Type} {a : α} {f : α → Option β} : zbd (some a) f = f a := rfl
theorem zA {a b : Nat} : nI a + nI b = nI (a + b) := (Int32.ofNat_add a b).symm
theorem zM {a b : Nat} : nI a * nI b = nI (a * b) := (Int32.ofNat_mul a b).symm
theorem zS {a : Nat} : nI a + 1 = nI (a + 1) := (nI_succ a).symm
theorem nI_inj {a b : Nat} (ha : a < 2 ^ 31) (hb : b < 2 ^ 31) (h : nI a = nI b) : a = b := by
  rw [← nI_clamp ha, h, nI_clamp hb]
theorem zEq {a b : Nat} (ha : a < 2 ^ 31) (hb : b < 2 ^ 31) : (nI a = nI b) = (a = b) := propext ⟨nI_inj ha hb, fun h => by rw [h]⟩
/-- a sum, a first place, a fold -/
def xsum (f : Nat → Int32) : Nat → Int32
  | 0 => 0
  | n + 1 => xsum f n + f n
def xfst (p : Nat → Prop) [DecidablePred p] : Nat → Nat → Option Nat
  | _, 0 => none
  | i, m + 1 => if p i then some i else xfst p (i + 1) m
def xfold {α : Type} (f : Nat → α → α) (a : α) : Nat → α
  | 0 => a
  | n + 1 => f n (xfold f a n)
def toJ : Option Nat → Int32
  | none => -1
  | some i => nI i
theorem xlp (R : Nat → Option xm_O) {K : Option xm_O} (n : Nat) (hs : ∀ i, i < n → R i = R (i + 1)) (he : R n = K) : R 0 = K := by
  have h : ∀ i, i ≤ n → R 0 = R i := by
    intro i
    induction i with
    | zero => intro _; rfl
    | succ i ih => intro hi; rw [ih (by omega), hs i (by omega)]
  rw [h n (Nat.le_refl n), he]
theorem xlf (R : Nat → Option xm_O) {p : Nat → Prop} [DecidablePred p] {K : Nat → Option xm_O} {E : Option xm_O} (n : Nat) (hs : ∀ i, i < n → R i = if p i then K i else R (i + 1)) (he : R n = E) : R 0 = (match xfst p 0 n with | some i => K i | none => E) := by
  have h : ∀ m i, i + m = n → R i = (match xfst p i m with | some i => K i | none => E) := by
    intro m
    induction m with
    | zero =>
      intro i hi
      rw [show i = n by omega, he]
      rfl
    | succ m ih =>
      intro i hi
      rw [hs i (by omega)]
      unfold xfst
      by_cases hp : p i
      · rw [if_pos hp, if_pos hp]
      · rw [if_neg hp, if_neg hp, ih (i + 1) (by omega)]
  exact h n 0 (by omega)
theorem xfst_some {p : Nat → Prop} [DecidablePred p] {n i m : Nat} (h : xfst p i m = some n) : p n ∧ i ≤ n ∧ n < i + m ∧ ∀ j, i ≤ j → j < n → ¬ p j := by
  induction m generalizing i with
  | zero => cases h
  | succ m ih =>
    unfold xfst at h
    by_cases hp : p i
    · rw [if_pos hp] at h
      cases h
      exact ⟨hp, Nat.le_refl _, by omega, fun j h1 h2 => by omega⟩
    · rw [if_neg hp] at h
      obtain ⟨h1, h2, h3, h4⟩ := ih h
      refine ⟨h1, by omega, by omega, fun j g1 g2 => ?_⟩
      by_cases e : j = i
      · rw [e]; exact hp
      · exact h4 j (by omega) g2
theorem xfst_none {p : Nat → Prop} [DecidablePred p] {i m : Nat} (h : xfst p i m = none) : ∀ j, i ≤ j → j < i + m → ¬ p j := by
  induction m generalizing i with
  | zero => intro j h1 h2; omega
  | succ m ih =>
    unfold xfst at h
    by_cases hp : p i
    · rw [if_pos hp] at h
      cases h
    · rw [if_neg hp] at h
      intro j g1 g2
      by_cases e : j = i
      · rw [e]; exact hp
      · exact ih h j (by omega) (by omega)
/-- the reference's row -/
def xR (w : xW) : Nat → Int32 := (w 3).2 (xri (w 3))
def xRs (w : xW) (r : Nat → Int32) : xW := xu w 3 (xs2 (w 3) (xri (w 3)) r)
/-- what it has thrown -/
def xT (w : xW) (x : Int32) : xW := xu w 3 (xs1 (w 3) 2 x)
theorem xR_s {w : xW} {r : Nat → Int32} : xR (xRs w r) = r := by
  unfold xR xRs
  rw [xu_same]
  exact if_pos rfl
theorem xRs_s {w : xW} {r r' : Nat → Int32} : xRs (xRs w r) r' = xRs w r' := by
  unfold xRs
  rw [xu_xu, xu_same]
  congr 1
  show ((w 3).1, _) = ((w 3).1, _)
  congr 1
  funext a
  show (if a = xri (w 3) then r' else if a = xri (w 3) then r else (w 3).2 a) = if a = xri (w 3) then r' else (w 3).2 a
  split <;> rfl
theorem xR_T {w : xW} {x : Int32} : xR (xT w x) = xR w := by
  unfold xR xT
  rw [xu_same]
  rfl
theorem xT_T {w : xW} {x y : Int32} : xT (xT w x) y = xT w y := by
  unfold xT
  rw [xu_xu, xu_same]
  congr 1
  show (_, (w 3).2) = (_, (w 3).2)
  congr 1
  funext a
  unfold upd
  show (if a = 2 then y else if a = 2 then x else (w 3).1 a) = if a = 2 then y else (w 3).1 a
  split <;> rfl
section RF
variable {w : xW} {l : Nat → Nat → Int64} {t : Nat} {sc : xm_Sc} {d : Nat}
theorem zRa {n : Nat} (hn : n < 296) : xm_aI (xem w l t) (xm (xri (w 3))) 0 (nI n) = some (xR w n) := by
  rw [xaM_r (by have := @xri_lt (w 3); omega), if_pos (xin hn (by decide)), nI_clamp (by omega)]
  rfl
theorem zRw {n : Nat} {x : Int32} (hn : n < 296) : xm_wI (xem w l t) (xm (xri (w 3))) 0 (nI n) x = some (xem (xRs w (upd (xR w) n x)) l t) := by
  rw [xwM_r (by have := @xri_lt (w 3); omega), if_pos (xin hn (by decide)), nI_clamp (by omega)]
  rfl
theorem zRa_0 : xm_aI (xem w l t) (xm (xri (w 3))) 0 0 = some (xR w 0) := zRa (n := 0) (by decide)
theorem zRw_0 {x : Int32} : xm_wI (xem w l t) (xm (xri (w 3))) 0 0 x = some (xem (xRs w (upd (xR w) 0 x)) l t) := zRw (n := 0) (by decide)
theorem zRa_1 : xm_aI (xem w l t) (xm (xri (w 3))) 0 1 = some (xR w 1) := zRa (n := 1) (by decide)
theorem zRw_1 {x : Int32} : xm_wI (xem w l t) (xm (xri (w 3))) 0 1 x = some (xem (xRs w (upd (xR w) 1 x)) l t) := zRw (n := 1) (by decide)
theorem zRa_2 : xm_aI (xem w l t) (xm (xri (w 3))) 0 2 = some (xR w 2) := zRa (n := 2) (by decide)
theorem zRw_2 {x : Int32} : xm_wI (xem w l t) (xm (xri (w 3))) 0 2 x = some (xem (xRs w (upd (xR w) 2 x)) l t) := zRw (n := 2) (by decide)
theorem zRa_3 : xm_aI (xem w l t) (xm (xri (w 3))) 0 3 = some (xR w 3) := zRa (n := 3) (by decide)
theorem zRw_3 {x : Int32} : xm_wI (xem w l t) (xm (xri (w 3))) 0 3 x = some (xem (xRs w (upd (xR w) 3 x)) l t) := zRw (n := 3) (by decide)
theorem zRa_4 : xm_aI (xem w l t) (xm (xri (w 3))) 0 4 = some (xR w 4) := zRa (n := 4) (by decide)
theorem zRw_4 {x : Int32} : xm_wI (xem w l t) (xm (xri (w 3))) 0 4 x = some (xem (xRs w (upd (xR w) 4 x)) l t) := zRw (n := 4) (by decide)
theorem zRa_5 : xm_aI (xem w l t) (xm (xri (w 3))) 0 5 = some (xR w 5) := zRa (n := 5) (by decide)
theorem zRw_5 {x : Int32} : xm_wI (xem w l t) (xm (xri (w 3))) 0 5 x = some (xem (xRs w (upd (xR w) 5 x)) l t) := zRw (n := 5) (by decide)
theorem zxV_0 {v : Nat} : ((12 : Int32) + 11 * nI v) + 0 = nI (12 + 11 * v) := by
  show nI 12 + nI 11 * nI v + nI 0 = _
  rw [zM, zA, zA, show 12 + 11 * v + 0 = 12 + 11 * v by omega]
theorem zxV_1 {v : Nat} : ((12 : Int32) + 11 * nI v) + 1 = nI (13 + 11 * v) := by
  show nI 12 + nI 11 * nI v + nI 1 = _
  rw [zM, zA, zA, show 12 + 11 * v + 1 = 13 + 11 * v by omega]
theorem zxV_2 {v : Nat} : ((12 : Int32) + 11 * nI v) + 2 = nI (14 + 11 * v) := by
  show nI 12 + nI 11 * nI v + nI 2 = _
  rw [zM, zA, zA, show 12 + 11 * v + 2 = 14 + 11 * v by omega]
theorem zxK_0 {v : Nat} : ((56 : Int32) + 6 * nI v) + 0 = nI (56 + 6 * v) := by
  show nI 56 + nI 6 * nI v + nI 0 = _
  rw [zM, zA, zA, show 56 + 6 * v + 0 = 56 + 6 * v by omega]
theorem zxK_1 {v : Nat} : ((56 : Int32) + 6 * nI v) + 1 = nI (57 + 6 * v) := by
  show nI 56 + nI 6 * nI v + nI 1 = _
  rw [zM, zA, zA, show 56 + 6 * v + 1 = 57 + 6 * v by omega]
theorem zxK_2 {v : Nat} : ((56 : Int32) + 6 * nI v) + 2 = nI (58 + 6 * v) := by
  show nI 56 + nI 6 * nI v + nI 2 = _
  rw [zM, zA, zA, show 56 + 6 * v + 2 = 58 + 6 * v by omega]
theorem zxK_3 {v : Nat} : ((56 : Int32) + 6 * nI v) + 3 = nI (59 + 6 * v) := by
  show nI 56 + nI 6 * nI v + nI 3 = _
  rw [zM, zA, zA, show 56 + 6 * v + 3 = 59 + 6 * v by omega]
theorem zxK_4 {v : Nat} : ((56 : Int32) + 6 * nI v) + 4 = nI (60 + 6 * v) := by
  show nI 56 + nI 6 * nI v + nI 4 = _
  rw [zM, zA, zA, show 56 + 6 * v + 4 = 60 + 6 * v by omega]
theorem zxK_5 {v : Nat} : ((56 : Int32) + 6 * nI v) + 5 = nI (61 + 6 * v) := by
  show nI 56 + nI 6 * nI v + nI 5 = _
  rw [zM, zA, zA, show 56 + 6 * v + 5 = 61 + 6 * v by omega]
theorem zxQ_0 {v : Nat} : ((176 : Int32) + 3 * nI v) + 0 = nI (176 + 3 * v) := by
  show nI 176 + nI 3 * nI v + nI 0 = _
  rw [zM, zA, zA, show 176 + 3 * v + 0 = 176 + 3 * v by omega]
theorem zxQ_1 {v : Nat} : ((176 : Int32) + 3 * nI v) + 1 = nI (177 + 3 * v) := by
  show nI 176 + nI 3 * nI v + nI 1 = _
  rw [zM, zA, zA, show 176 + 3 * v + 1 = 177 + 3 * v by omega]
theorem zxQ_2 {v : Nat} : ((176 : Int32) + 3 * nI v) + 2 = nI (178 + 3 * v) := by
  show nI 176 + nI 3 * nI v + nI 2 = _
  rw [zM, zA, zA, show 176 + 3 * v + 2 = 178 + 3 * v by omega]
theorem zxV_s {v s : Nat} : ((12 : Int32) + 11 * nI v) + (3 + nI s) = nI (15 + 11 * v + s) := by
  show nI 12 + nI 11 * nI v + (nI 3 + nI s) = _
  rw [zM, zA, zA, zA, show 12 + 11 * v + (3 + s) = 15 + 11 * v + s by omega]
theorem zxQ_n {v : Nat} : (176 : Int32) + 3 * nI v = nI (176 + 3 * v) := by
  show nI 176 + nI 3 * nI v = _
  rw [zM, zA]
theorem zxO {b : Nat} : (6 : Int32) + nI b = nI (6 + b) := zA (a := 6)
theorem zxF {a b : Nat} : (6 : Int32) * nI a + nI b = nI (6 * a + b) := by
  show nI 6 * nI a + nI b = _
  rw [zM, zA]
theorem zc_161_0 {v : Nat} (hv : v < 4) : xm_C sc xt_M (d + 1) 161 [.ref 191, .int (nI v), .int 0] (xem w l t) = some (.inl (some (.int (xR w (12 + 11 * v)))), xem w l t) := by
  rw [yc_161]
  simp (disch := omega) only [↓zbE, zbd_some, ↓xk_I, ↓xk_v, xgM_5, xiM, zRa, zRw, xR_s, xRs_s, zB_0, zB_1, zB_b01, ite_not, ↓reduceIte, nI_ge, zRa_0, zRa_1, zRa_2, zRa_3, zRa_4, zRa_5, zRw_0, zRw_1, zRw_2, zRw_3, zRw_4, zRw_5, zxV_0, zxV_1, zxV_2, zxK_0, zxK_1, zxK_2, zxK_3, zxK_4, zxK_5, zxQ_0, zxQ_1, zxQ_2, zxV_s, zxO, zxF]
theorem zc_162_0 {v : Nat} {x : Int32} (hv : v < 4) : xm_C sc xt_M (d + 1) 162 [.ref 191, .int (nI v), .int 0, .int x] (xem w l t) = some (.inl none, xem (xRs w (upd (xR w) (12 + 11 * v) x)) l t) := by
  rw [yc_162]
  simp (disch := omega) only [↓zbE, zbd_some, ↓xk_I, ↓xk_v, xgM_5, xiM, zRa, zRw, xR_s, xRs_s, zB_0, zB_1, zB_b01, ite_not, ↓reduceIte, nI_ge, zRa_0, zRa_1, zRa_2, zRa_3, zRa_4, zRa_5, zRw_0, zRw_1, zRw_2, zRw_3, zRw_4, zRw_5, zxV_0, zxV_1, zxV_2, zxK_0, zxK_1, zxK_2, zxK_3, zxK_4, zxK_5, zxQ_0, zxQ_1, zxQ_2, zxV_s, zxO, zxF]
theorem zc_161_1 {v : Nat} (hv : v < 4) : xm_C sc xt_M (d + 1) 161 [.ref 191, .int (nI v), .int 1] (xem w l t) = some (.inl (some (.int (xR w (13 + 11 * v)))), xem w l t) := by
  rw [yc_161]
  simp (disch := omega) only [↓zbE, zbd_some, ↓xk_I, ↓xk_v, xgM_5, xiM, zRa, zRw, xR_s, xRs_s, zB_0, zB_1, zB_b01, ite_not, ↓reduceIte, nI_ge, zRa_0, zRa_1, zRa_2, zRa_3, zRa_4, zRa_5, zRw_0, zRw_1, zRw_2, zRw_3, zRw_4, zRw_5, zxV_0, zxV_1, zxV_2, zxK_0, zxK_1, zxK_2, zxK_3, zxK_4, zxK_5, zxQ_0, zxQ_1, zxQ_2, zxV_s, zxO, zxF]
theorem zc_162_1 {v : Nat} {x : Int32} (hv : v < 4) : xm_C sc xt_M (d + 1) 162 [.ref 191, .int (nI v), .int 1, .int x] (xem w l t) = some (.inl none, xem (xRs w (upd (xR w) (13 + 11 * v) x)) l t) := by
  rw [yc_162]
  simp (disch := omega) only [↓zbE, zbd_some, ↓xk_I, ↓xk_v, xgM_5, xiM, zRa, zRw, xR_s, xRs_s, zB_0, zB_1, zB_b01, ite_not, ↓reduceIte, nI_ge, zRa_0, zRa_1, zRa_2, zRa_3, zRa_4, zRa_5, zRw_0, zRw_1, zRw_2, zRw_3, zRw_4, zRw_5, zxV_0, zxV_1, zxV_2, zxK_0, zxK_1, zxK_2, zxK_3, zxK_4, zxK_5, zxQ_0, zxQ_1, zxQ_2, zxV_s, zxO, zxF]
theorem zc_161_2 {v : Nat} (hv : v < 4) : xm_C sc xt_M (d + 1) 161 [.ref 191, .int (nI v), .int 2] (xem w l t) = some (.inl (some (.int (xR w (14 + 11 * v)))), xem w l t) := by
  rw [yc_161]
  simp (disch := omega) only [↓zbE, zbd_some, ↓xk_I, ↓xk_v, xgM_5, xiM, zRa, zRw, xR_s, xRs_s, zB_0, zB_1, zB_b01, ite_not, ↓reduceIte, nI_ge, zRa_0, zRa_1, zRa_2, zRa_3, zRa_4, zRa_5, zRw_0, zRw_1, zRw_2, zRw_3, zRw_4, zRw_5, zxV_0, zxV_1, zxV_2, zxK_0, zxK_1, zxK_2, zxK_3, zxK_4, zxK_5, zxQ_0, zxQ_1, zxQ_2, zxV_s, zxO, zxF]
theorem zc_162_2 {v : Nat} {x : Int32} (hv : v < 4) : xm_C sc xt_M (d + 1) 162 [.ref 191, .int (nI v), .int 2, .int x] (xem w l t) = some (.inl none, xem (xRs w (upd (xR w) (14 + 11 * v) x)) l t) := by
  rw [yc_162]
  simp (disch := omega) only [↓zbE, zbd_some, ↓xk_I, ↓xk_v, xgM_5, xiM, zRa, zRw, xR_s, xRs_s, zB_0, zB_1, zB_b01, ite_not, ↓reduceIte, nI_ge, zRa_0, zRa_1, zRa_2, zRa_3, zRa_4, zRa_5, zRw_0, zRw_1, zRw_2, zRw_3, zRw_4, zRw_5, zxV_0, zxV_1, zxV_2, zxK_0, zxK_1, zxK_2, zxK_3, zxK_4, zxK_5, zxQ_0, zxQ_1, zxQ_2, zxV_s, zxO, zxF]
theorem zc_163_0 {v : Nat} (hv : v < 20) : xm_C sc xt_M (d + 1) 163 [.ref 191, .int (nI v), .int 0] (xem w l t) = some (.inl (some (.int (xR w (56 + 6 * v)))), xem w l t) := by
  rw [yc_163]
  simp (disch := omega) only [↓zbE, zbd_some, ↓xk_I, ↓xk_v, xgM_5, xiM, zRa, zRw, xR_s, xRs_s, zB_0, zB_1, zB_b01, ite_not, ↓reduceIte, nI_ge, zRa_0, zRa_1, zRa_2, zRa_3, zRa_4, zRa_5, zRw_0, zRw_1, zRw_2, zRw_3, zRw_4, zRw_5, zxV_0, zxV_1, zxV_2, zxK_0, zxK_1, zxK_2, zxK_3, zxK_4, zxK_5, zxQ_0, zxQ_1, zxQ_2, zxV_s, zxO, zxF]
theorem zc_164_0 {v : Nat} {x : Int32} (hv : v < 20) : xm_C sc xt_M (d + 1) 164 [.ref 191, .int (nI v), .int 0, .int x] (xem w l t) = some (.inl none, xem (xRs w (upd (xR w) (56 + 6 * v) x)) l t) := by
  rw [yc_164]
  simp (disch := omega) only [↓zbE, zbd_some, ↓xk_I, ↓xk_v, xgM_5, xiM, zRa, zRw, xR_s, xRs_s, zB_0, zB_1, zB_b01, ite_not, ↓reduceIte, nI_ge, zRa_0, zRa_1, zRa_2, zRa_3, zRa_4, zRa_5, zRw_0, zRw_1, zRw_2, zRw_3, zRw_4, zRw_5, zxV_0, zxV_1, zxV_2, zxK_0, zxK_1, zxK_2, zxK_3, zxK_4, zxK_5, zxQ_0, zxQ_1, zxQ_2, zxV_s, zxO, zxF]
theorem zc_163_1 {v : Nat} (hv : v < 20) : xm_C sc xt_M (d + 1) 163 [.ref 191, .int (nI v), .int 1] (xem w l t) = some (.inl (some (.int (xR w (57 + 6 * v)))), xem w l t) := by
  rw [yc_163]
  simp (disch := omega) only [↓zbE, zbd_some, ↓xk_I, ↓xk_v, xgM_5, xiM, zRa, zRw, xR_s, xRs_s, zB_0, zB_1, zB_b01, ite_not, ↓reduceIte, nI_ge, zRa_0, zRa_1, zRa_2, zRa_3, zRa_4, zRa_5, zRw_0, zRw_1, zRw_2, zRw_3, zRw_4, zRw_5, zxV_0, zxV_1, zxV_2, zxK_0, zxK_1, zxK_2, zxK_3, zxK_4, zxK_5, zxQ_0, zxQ_1, zxQ_2, zxV_s, zxO, zxF]
theorem zc_164_1 {v : Nat} {x : Int32} (hv : v < 20) : xm_C sc xt_M (d + 1) 164 [.ref 191, .int (nI v), .int 1, .int x] (xem w l t) = some (.inl none, xem (xRs w (upd (xR w) (57 + 6 * v) x)) l t) := by
  rw [yc_164]
  simp (disch := omega) only [↓zbE, zbd_some, ↓xk_I, ↓xk_v, xgM_5, xiM, zRa, zRw, xR_s, xRs_s, zB_0, zB_1, zB_b01, ite_not, ↓reduceIte, nI_ge, zRa_0, zRa_1, zRa_2, zRa_3, zRa_4, zRa_5, zRw_0, zRw_1, zRw_2, zRw_3, zRw_4, zRw_5, zxV_0, zxV_1, zxV_2, zxK_0, zxK_1, zxK_2, zxK_3, zxK_4, zxK_5, zxQ_0, zxQ_1, zxQ_2, zxV_s, zxO, zxF]
theorem zc_163_2 {v : Nat} (hv : v < 20) : xm_C sc xt_M (d + 1) 163 [.ref 191, .int (nI v), .int 2] (xem w l t) = some (.inl (some (.int (xR w (58 + 6 * v)))), xem w l t) := by
  rw [yc_163]
  simp (disch := omega) only [↓zbE, zbd_some, ↓xk_I, ↓xk_v, xgM_5, xiM, zRa, zRw, xR_s, xRs_s, zB_0, zB_1, zB_b01, ite_not, ↓reduceIte, nI_ge, zRa_0, zRa_1, zRa_2, zRa_3, zRa_4, zRa_5, zRw_0, zRw_1, zRw_2, zRw_3, zRw_4, zRw_5, zxV_0, zxV_1, zxV_2, zxK_0, zxK_1, zxK_2, zxK_3, zxK_4, zxK_5, zxQ_0, zxQ_1, zxQ_2, zxV_s, zxO, zxF]
theorem zc_164_2 {v : Nat} {x : Int32} (hv : v < 20) : xm_C sc xt_M (d + 1) 164 [.ref 191, .int (nI v), .int 2, .int x] (xem w l t) = some (.inl none, xem (xRs w (upd (xR w) (58 + 6 * v) x)) l t) := by
  rw [yc_164]
  simp (disch := omega) only [↓zbE, zbd_some, ↓xk_I, ↓xk_v, xgM_5, xiM, zRa, zRw, xR_s, xRs_s, zB_0, zB_1, zB_b01, ite_not, ↓reduceIte, nI_ge, zRa_0, zRa_1, zRa_2, zRa_3, zRa_4, zRa_5, zRw_0, zRw_1, zRw_2, zRw_3, zRw_4, zRw_5, zxV_0, zxV_1, zxV_2, zxK_0, zxK_1, zxK_2, zxK_3, zxK_4, zxK_5, zxQ_0, zxQ_1, zxQ_2, zxV_s, zxO, zxF]
theorem zc_163_3 {v : Nat} (hv : v < 20) : xm_C sc xt_M (d + 1) 163 [.ref 191, .int (nI v), .int 3] (xem w l t) = some (.inl (some (.int (xR w (59 + 6 * v)))), xem w l t) := by
  rw [yc_163]
  simp (disch := omega) only [↓zbE, zbd_some, ↓xk_I, ↓xk_v, xgM_5, xiM, zRa, zRw, xR_s, xRs_s, zB_0, zB_1, zB_b01, ite_not, ↓reduceIte, nI_ge, zRa_0, zRa_1, zRa_2, zRa_3, zRa_4, zRa_5, zRw_0, zRw_1, zRw_2, zRw_3, zRw_4, zRw_5, zxV_0, zxV_1, zxV_2, zxK_0, zxK_1, zxK_2, zxK_3, zxK_4, zxK_5, zxQ_0, zxQ_1, zxQ_2, zxV_s, zxO, zxF]
theorem zc_164_3 {v : Nat} {x : Int32} (hv : v < 20) : xm_C sc xt_M (d + 1) 164 [.ref 191, .int (nI v), .int 3, .int x] (xem w l t) = some (.inl none, xem (xRs w (upd (xR w) (59 + 6 * v) x)) l t) := by
  rw [yc_164]
  simp (disch := omega) only [↓zbE, zbd_some, ↓xk_I, ↓xk_v, xgM_5, xiM, zRa, zRw, xR_s, xRs_s, zB_0, zB_1, zB_b01, ite_not, ↓reduceIte, nI_ge, zRa_0, zRa_1, zRa_2, zRa_3, zRa_4, zRa_5, zRw_0, zRw_1, zRw_2, zRw_3, zRw_4, zRw_5, zxV_0, zxV_1, zxV_2, zxK_0, zxK_1, zxK_2, zxK_3, zxK_4, zxK_5, zxQ_0, zxQ_1, zxQ_2, zxV_s, zxO, zxF]
theorem zc_163_4 {v : Nat} (hv : v < 20) : xm_C sc xt_M (d + 1) 163 [.ref 191, .int (nI v), .int 4] (xem w l t) = some (.inl (some (.int (xR w (60 + 6 * v)))), xem w l t) := by
  rw [yc_163]
  simp (disch := omega) only [↓zbE, zbd_some, ↓xk_I, ↓xk_v, xgM_5, xiM, zRa, zRw, xR_s, xRs_s, zB_0, zB_1, zB_b01, ite_not, ↓reduceIte, nI_ge, zRa_0, zRa_1, zRa_2, zRa_3, zRa_4, zRa_5, zRw_0, zRw_1, zRw_2, zRw_3, zRw_4, zRw_5, zxV_0, zxV_1, zxV_2, zxK_0, zxK_1, zxK_2, zxK_3, zxK_4, zxK_5, zxQ_0, zxQ_1, zxQ_2, zxV_s, zxO, zxF]
theorem zc_164_4 {v : Nat} {x : Int32} (hv : v < 20) : xm_C sc xt_M (d + 1) 164 [.ref 191, .int (nI v), .int 4, .int x] (xem w l t) = some (.inl none, xem (xRs w (upd (xR w) (60 + 6 * v) x)) l t) := by
  rw [yc_164]
  simp (disch := omega) only [↓zbE, zbd_some, ↓xk_I, ↓xk_v, xgM_5, xiM, zRa, zRw, xR_s, xRs_s, zB_0, zB_1, zB_b01, ite_not, ↓reduceIte, nI_ge, zRa_0, zRa_1, zRa_2, zRa_3, zRa_4, zRa_5, zRw_0, zRw_1, zRw_2, zRw_3, zRw_4, zRw_5, zxV_0, zxV_1, zxV_2, zxK_0, zxK_1, zxK_2, zxK_3, zxK_4, zxK_5, zxQ_0, zxQ_1, zxQ_2, zxV_s, zxO, zxF]
theorem zc_163_5 {v : Nat} (hv : v < 20) : xm_C sc xt_M (d + 1) 163 [.ref 191, .int (nI v), .int 5] (xem w l t) = some (.inl (some (.int (xR w (61 + 6 * v)))), xem w l t) := by
  rw [yc_163]
  simp (disch := omega) only [↓zbE, zbd_some, ↓xk_I, ↓xk_v, xgM_5, xiM, zRa, zRw, xR_s, xRs_s, zB_0, zB_1, zB_b01, ite_not, ↓reduceIte, nI_ge, zRa_0, zRa_1, zRa_2, zRa_3, zRa_4, zRa_5, zRw_0, zRw_1, zRw_2, zRw_3, zRw_4, zRw_5, zxV_0, zxV_1, zxV_2, zxK_0, zxK_1, zxK_2, zxK_3, zxK_4, zxK_5, zxQ_0, zxQ_1, zxQ_2, zxV_s, zxO, zxF]
theorem zc_164_5 {v : Nat} {x : Int32} (hv : v < 20) : xm_C sc xt_M (d + 1) 164 [.ref 191, .int (nI v), .int 5, .int x] (xem w l t) = some (.inl none, xem (xRs w (upd (xR w) (61 + 6 * v) x)) l t) := by
  rw [yc_164]
  simp (disch := omega) only [↓zbE, zbd_some, ↓xk_I, ↓xk_v, xgM_5, xiM, zRa, zRw, xR_s, xRs_s, zB_0, zB_1, zB_b01, ite_not, ↓reduceIte, nI_ge, zRa_0, zRa_1, zRa_2, zRa_3, zRa_4, zRa_5, zRw_0, zRw_1, zRw_2, zRw_3, zRw_4, zRw_5, zxV_0, zxV_1, zxV_2, zxK_0, zxK_1, zxK_2, zxK_3, zxK_4, zxK_5, zxQ_0, zxQ_1, zxQ_2, zxV_s, zxO, zxF]
theorem zc_165_0 {v : Nat} (hv : v < 40) : xm_C sc xt_M (d + 1) 165 [.ref 191, .int (nI v), .int 0] (xem w l t) = some (.inl (some (.int (xR w (176 + 3 * v)))), xem w l t) := by
  rw [yc_165]
  simp (disch := omega) only [↓zbE, zbd_some, ↓xk_I, ↓xk_v, xgM_5, xiM, zRa, zRw, xR_s, xRs_s, zB_0, zB_1, zB_b01, ite_not, ↓reduceIte, nI_ge, zRa_0, zRa_1, zRa_2, zRa_3, zRa_4, zRa_5, zRw_0, zRw_1, zRw_2, zRw_3, zRw_4, zRw_5, zxV_0, zxV_1, zxV_2, zxK_0, zxK_1, zxK_2, zxK_3, zxK_4, zxK_5, zxQ_0, zxQ_1, zxQ_2, zxV_s, zxO, zxF]
theorem zc_165_1 {v : Nat} (hv : v < 40) : xm_C sc xt_M (d + 1) 165 [.ref 191, .int (nI v), .int 1] (xem w l t) = some (.inl (some (.int (xR w (177 + 3 * v)))), xem w l t) := by
  rw [yc_165]
  simp (disch := omega) only [↓zbE, zbd_some, ↓xk_I, ↓xk_v, xgM_5, xiM, zRa, zRw, xR_s, xRs_s, zB_0, zB_1, zB_b01, ite_not, ↓reduceIte, nI_ge, zRa_0, zRa_1, zRa_2, zRa_3, zRa_4, zRa_5, zRw_0, zRw_1, zRw_2, zRw_3, zRw_4, zRw_5, zxV_0, zxV_1, zxV_2, zxK_0, zxK_1, zxK_2, zxK_3, zxK_4, zxK_5, zxQ_0, zxQ_1, zxQ_2, zxV_s, zxO, zxF]
theorem zc_165_2 {v : Nat} (hv : v < 40) : xm_C sc xt_M (d + 1) 165 [.ref 191, .int (nI v), .int 2] (xem w l t) = some (.inl (some (.int (xR w (178 + 3 * v)))), xem w l t) := by
  rw [yc_165]
  simp (disch := omega) only [↓zbE, zbd_some, ↓xk_I, ↓xk_v, xgM_5, xiM, zRa, zRw, xR_s, xRs_s, zB_0, zB_1, zB_b01, ite_not, ↓reduceIte, nI_ge, zRa_0, zRa_1, zRa_2, zRa_3, zRa_4, zRa_5, zRw_0, zRw_1, zRw_2, zRw_3, zRw_4, zRw_5, zxV_0, zxV_1, zxV_2, zxK_0, zxK_1, zxK_2, zxK_3, zxK_4, zxK_5, zxQ_0, zxQ_1, zxQ_2, zxV_s, zxO, zxF]
theorem zc_161_s {v s : Nat} (hv : v < 4) (hs : s < 8) : xm_C sc xt_M (d + 1) 161 [.ref 191, .int (nI v), .int (3 + nI s)] (xem w l t) = some (.inl (some (.int (xR w (15 + 11 * v + s)))), xem w l t) := by
  rw [yc_161]
  simp (disch := omega) only [↓zbE, zbd_some, ↓xk_I, ↓xk_v, xgM_5, xiM, zRa, zRw, xR_s, xRs_s, zB_0, zB_1, zB_b01, ite_not, ↓reduceIte, nI_ge, zRa_0, zRa_1, zRa_2, zRa_3, zRa_4, zRa_5, zRw_0, zRw_1, zRw_2, zRw_3, zRw_4, zRw_5, zxV_0, zxV_1, zxV_2, zxK_0, zxK_1, zxK_2, zxK_3, zxK_4, zxK_5, zxQ_0, zxQ_1, zxQ_2, zxV_s, zxO, zxF]
theorem zc_162_s {v s : Nat} {x : Int32} (hv : v < 4) (hs : s < 8) : xm_C sc xt_M (d + 1) 162 [.ref 191, .int (nI v), .int (3 + nI s), .int x] (xem w l t) = some (.inl none, xem (xRs w (upd (xR w) (15 + 11 * v + s) x)) l t) := by
  rw [yc_162]
  simp (disch := omega) only [↓zbE, zbd_some, ↓xk_I, ↓xk_v, xgM_5, xiM, zRa, zRw, xR_s, xRs_s, zB_0, zB_1, zB_b01, ite_not, ↓reduceIte, nI_ge, zRa_0, zRa_1, zRa_2, zRa_3, zRa_4, zRa_5, zRw_0, zRw_1, zRw_2, zRw_3, zRw_4, zRw_5, zxV_0, zxV_1, zxV_2, zxK_0, zxK_1, zxK_2, zxK_3, zxK_4, zxK_5, zxQ_0, zxQ_1, zxQ_2, zxV_s, zxO, zxF]
theorem zc_160 {a b c : Int32} : xm_C sc xt_M (d + 1) 160 [.int a, .int b, .int c] (xem w l t) = some (.inl (some (.int (zB (b ≤ a ∧ a ≤ c)))), xem w l t) := by
  rw [yc_160]
  by_cases h1 : a < b
  · rw [if_pos h1, yb_160_14, zB_f (c := b ≤ a ∧ a ≤ c) (fun h => absurd h.1 (Int32.not_le.mpr h1))]
  · rw [if_neg h1]
    by_cases h2 : c < a
    · rw [if_pos h2, yb_160_14, zB_f (c := b ≤ a ∧ a ≤ c) (fun h => absurd h.2 (Int32.not_le.mpr h2))]
    · rw [if_neg h2, zB_t (c := b ≤ a ∧ a ≤ c) ⟨Int32.not_lt.mp h1, Int32.not_lt.mp h2⟩]
theorem zc_166 {a : Int32} : xm_C sc xt_M (d + 2) 166 [.ref 191, .int a] (xem w l t) = some (.inl (some (.int (zB (0 ≤ a ∧ a ≤ xR w 0 - 1)))), xem w l t) := by
  rw [yc_166]
  simp (disch := omega) only [↓zbE, zbd_some, ↓xk_I, ↓xk_v, xgM_5, xiM, zRa, zRw, xR_s, xRs_s, zB_0, zB_1, zB_b01, ite_not, ↓reduceIte, nI_ge, zRa_0, zRa_1, zRa_2, zRa_3, zRa_4, zRa_5, zRw_0, zRw_1, zRw_2, zRw_3, zRw_4, zRw_5, zxV_0, zxV_1, zxV_2, zxK_0, zxK_1, zxK_2, zxK_3, zxK_4, zxK_5, zxQ_0, zxQ_1, zxQ_2, zxV_s, zxO, zxF, zc_161_0, zc_161_1, zc_161_2, zc_162_0, zc_162_1, zc_162_2, zc_163_0, zc_163_1, zc_163_2, zc_163_3, zc_163_4, zc_163_5, zc_164_0, zc_164_1, zc_164_2, zc_164_3, zc_164_4, zc_164_5, zc_165_0, zc_165_1, zc_165_2, zc_161_s, zc_162_s, zc_160]
theorem zc_167 {a : Int32} : xm_C sc xt_M (d + 2) 167 [.ref 191, .int a] (xem w l t) = some (.inl (some (.int (zB (0 ≤ a ∧ a ≤ xR w 1 - 1)))), xem w l t) := by
  rw [yc_167]
  simp (disch := omega) only [↓zbE, zbd_some, ↓xk_I, ↓xk_v, xgM_5, xiM, zRa, zRw, xR_s, xRs_s, zB_0, zB_1, zB_b01, ite_not, ↓reduceIte, nI_ge, zRa_0, zRa_1, zRa_2, zRa_3, zRa_4, zRa_5, zRw_0, zRw_1, zRw_2, zRw_3, zRw_4, zRw_5, zxV_0, zxV_1, zxV_2, zxK_0, zxK_1, zxK_2, zxK_3, zxK_4, zxK_5, zxQ_0, zxQ_1, zxQ_2, zxV_s, zxO, zxF, zc_161_0, zc_161_1, zc_161_2, zc_162_0, zc_162_1, zc_162_2, zc_163_0, zc_163_1, zc_163_2, zc_163_3, zc_163_4, zc_163_5, zc_164_0, zc_164_1, zc_164_2, zc_164_3, zc_164_4, zc_164_5, zc_165_0, zc_165_1, zc_165_2, zc_161_s, zc_162_s, zc_160]
theorem zc_168 {a : Int32} : xm_C sc xt_M (d + 2) 168 [.ref 191, .int a] (xem w l t) = some (.inl (some (.int (zB (0 ≤ a ∧ a ≤ xR w 2 - 1)))), xem w l t) := by
  rw [yc_168]
  simp (disch := omega) only [↓zbE, zbd_some, ↓xk_I, ↓xk_v, xgM_5, xiM, zRa, zRw, xR_s, xRs_s, zB_0, zB_1, zB_b01, ite_not, ↓reduceIte, nI_ge, zRa_0, zRa_1, zRa_2, zRa_3, zRa_4, zRa_5, zRw_0, zRw_1, zRw_2, zRw_3, zRw_4, zRw_5, zxV_0, zxV_1, zxV_2, zxK_0, zxK_1, zxK_2, zxK_3, zxK_4, zxK_5, zxQ_0, zxQ_1, zxQ_2, zxV_s, zxO, zxF, zc_161_0, zc_161_1, zc_161_2, zc_162_0, zc_162_1, zc_162_2, zc_163_0, zc_163_1, zc_163_2, zc_163_3, zc_163_4, zc_163_5, zc_164_0, zc_164_1, zc_164_2, zc_164_3, zc_164_4, zc_164_5, zc_165_0, zc_165_1, zc_165_2, zc_161_s, zc_162_s, zc_160]
theorem zc_158 : xm_C sc xt_M (d + 1) 158 [.ref 191] (xem w l t) = some (.inl (some (.int ((w 3).1 2))), xem w l t) := by
  rw [yc_158, xgM_7]
  rfl
theorem zc_159 {x : Int32} : xm_C sc xt_M (d + 1) 159 [.ref 191, .int x] (xem w l t) = some (.inl (some (.int 0)), xem (xT w x) l t) := by
  rw [yc_159, xsM_7]
  rfl
theorem zc_170 {c : Prop} [Decidable c] : xm_C sc xt_M (d + 1) 170 [.ref 191, .int (zB c)] (xem w l t) = some (.inl (some (.int (zB (¬ c)))), xem (xT w (zB (¬ c))) l t) := by
  rw [yc_170]
  by_cases h : c
  · rw [← zB_t h, if_neg (by decide), xsM_7, zbs, if_neg (by decide), zB_f (c := ¬ c) (fun g => g h)]
    rfl
  · rw [← zB_f h, if_pos rfl, xsM_7, zbs, if_pos rfl, zB_t (c := ¬ c) h]
    rfl
/-- a number that is a branch's -/
def xil (x : Int32) (n : Nat) : Prop := x = nI x.toNatClampNeg ∧ x.toNatClampNeg < n
abbrev xib (x : Int32) : Prop := xil x 6
theorem xil_nI {n m : Nat} (h : n < m) (hm : m < 2 ^ 31) : xil (nI n) m := by
  unfold xil
  rw [nI_clamp (by omega)]
  exact ⟨rfl, h⟩
theorem xil_le {x : Int32} {n m : Nat} (h : xil x n) (hm : n ≤ m) : xil x m := ⟨h.1, Nat.lt_of_lt_of_le h.2 hm⟩
abbrev xop (r : Nat → Int32) (x : Int32) : Prop := r (6 + x.toNatClampNeg) = 1
theorem zc_169 {x : Int32} (hx : xib x) : xm_C sc xt_M (d + 1) 169 [.ref 191, .int x] (xem w l t) = some (.inl (some (.int (zB (xop (xR w) x)))), xem w l t) := by
  obtain ⟨h1, h2⟩ := hx
  unfold xop
  generalize x.toNatClampNeg = p at h1 h2
  subst h1
  rw [yc_169]
  simp (disch := omega) only [↓zbE, zbd_some, ↓xk_I, ↓xk_v, xgM_5, xiM, zRa, zRw, xR_s, xRs_s, zB_0, zB_1, zB_b01, ite_not, ↓reduceIte, nI_ge, zRa_0, zRa_1, zRa_2, zRa_3, zRa_4, zRa_5, zRw_0, zRw_1, zRw_2, zRw_3, zRw_4, zRw_5, zxV_0, zxV_1, zxV_2, zxK_0, zxK_1, zxK_2, zxK_3, zxK_4, zxK_5, zxQ_0, zxQ_1, zxQ_2, zxV_s, zxO, zxF, zc_161_0, zc_161_1, zc_161_2, zc_162_0, zc_162_1, zc_162_2, zc_163_0, zc_163_1, zc_163_2, zc_163_3, zc_163_4, zc_163_5, zc_164_0, zc_164_1, zc_164_2, zc_164_3, zc_164_4, zc_164_5, zc_165_0, zc_165_1, zc_165_2, zc_161_s, zc_162_s]
  split
  · next h => rw [← zB_t h]
  · next h => rw [← zB_f h]
/-- counts are in bounds -/
def xnb (r : Nat → Int32) : Nat := (r 0).toNatClampNeg
def xnv (r : Nat → Int32) : Nat := (r 1).toNatClampNeg
def xnk (r : Nat → Int32) : Nat := (r 2).toNatClampNeg
def xnq (r : Nat → Int32) : Nat := (r 3).toNatClampNeg
def xBd (r : Nat → Int32) : Prop := (r 0 = nI (xnb r) ∧ xnb r ≤ 6) ∧ (r 1 = nI (xnv r) ∧ xnv r ≤ 4) ∧ (r 2 = nI (xnk r) ∧ xnk r ≤ 20) ∧ r 3 = nI (xnq r) ∧ xnq r ≤ 40
theorem xBd.b {r : Nat → Int32} (h : xBd r) : r 0 = nI (xnb r) := h.1.1
theorem xBd.b6 {r : Nat → Int32} (h : xBd r) : xnb r ≤ 6 := h.1.2
theorem xBd.v {r : Nat → Int32} (h : xBd r) : r 1 = nI (xnv r) := h.2.1.1
theorem xBd.v4 {r : Nat → Int32} (h : xBd r) : xnv r ≤ 4 := h.2.1.2
theorem xBd.k {r : Nat → Int32} (h : xBd r) : r 2 = nI (xnk r) := h.2.2.1.1
theorem xBd.k20 {r : Nat → Int32} (h : xBd r) : xnk r ≤ 20 := h.2.2.1.2
theorem xBd.q {r : Nat → Int32} (h : xBd r) : r 3 = nI (xnq r) := h.2.2.2.1
theorem xBd.q40 {r : Nat → Int32} (h : xBd r) : xnq r ≤ 40 := h.2.2.2.2
def sp_queue (r : Nat → Int32) (b : Int32) : Int32 := xsum (fun q => zB (r (176 + 3 * q) = b)) (xnq r)
def sp_by (r : Nat → Int32) (b rd : Int32) : Option Nat := xfst (fun q => r (176 + 3 * q) = b ∧ r (177 + 3 * q) = rd) 0 (xnq r)
def sp_rank (r : Nat → Int32) (q : Nat) : Int32 := xsum (fun p => zB (r (176 + 3 * p) = r (176 + 3 * q))) q
def sp_at (r : Nat → Int32) (b pl : Int32) : Option Nat := xfst (fun q => r (176 + 3 * q) = b ∧ sp_rank r q = pl) 0 (xnq r)
abbrev sp_isIn (r : Nat → Int32) (st : Int32) (k : Nat) (v : Int32) : Prop := r (56 + 6 * k) = st ∧ r (57 + 6 * k) = v
def sp_booksIn (r : Nat → Int32) (st v : Int32) : Int32 := xsum (fun k => zB (sp_isIn r st k v)) (xnk r)
def sp_inState (r : Nat → Int32) (st : Int32) : Int32 := xsum (fun k => zB (r (56 + 6 * k) = st)) (xnk r)
def sp_first (r : Nat → Int32) (b : Int32) : Option Nat := xfst (fun q => r (176 + 3 * q) = b ∧ xop r (r (178 + 3 * q))) 0 (xnq r)
def sp_want (r : Nat → Int32) (k : Nat) : Option Nat := if r (59 + 6 * k) = 1 then none else sp_first r (nI k)
def sp_goal (r : Nat → Int32) (k : Nat) : Int32 := match sp_want r k with
  | some q => r (178 + 3 * q)
  | none => if xop r (r (58 + 6 * k)) then r (58 + 6 * k) else -1
def sp_put (r : Nat → Int32) (k : Nat) (st pl : Int32) : Nat → Int32 := upd (upd (upd (upd r (56 + 6 * k) st) (57 + 6 * k) pl) (60 + 6 * k) (-1)) (61 + 6 * k) (-1)
theorem zc_178 {b : Int32} (hB : xBd (xR w)) : xm_C sc xt_M (d + 2) 178 [.ref 191, .int b] (xem w l t) = some (.inl (some (.int (sp_queue (xR w) b))), xem w l t) := by
  have hk := hB.k20
  have hq4 := hB.q40
  rw [yc_178]
  refine xlp (fun i => xm_R sc xt_M (d + 1) 178 4 [.ref 191, .int b, .int (xsum (fun q => zB (xR w (176 + 3 * q) = b)) i), .int (nI i)] [] (xem w l t)) (xnq (xR w)) ?_ ?_
  · intro i hi
    rw [yb_178_4]
    simp (disch := omega) only [↓zbE, zbd_some, ↓xk_I, ↓xk_v, xgM_5, xiM, zRa, zRw, xR_s, xRs_s, zB_0, zB_1, zB_b01, ite_not, ↓reduceIte, nI_ge, zRa_0, zRa_1, zRa_2, zRa_3, zRa_4, zRa_5, zRw_0, zRw_1, zRw_2, zRw_3, zRw_4, zRw_5, zxV_0, zxV_1, zxV_2, zxK_0, zxK_1, zxK_2, zxK_3, zxK_4, zxK_5, zxQ_0, zxQ_1, zxQ_2, zxV_s, zxO, zxF, zc_161_0, zc_161_1, zc_161_2, zc_162_0, zc_162_1, zc_162_2, zc_163_0, zc_163_1, zc_163_2, zc_163_3, zc_163_4, zc_163_5, zc_164_0, zc_164_1, zc_164_2, zc_164_3, zc_164_4, zc_164_5, zc_165_0, zc_165_1, zc_165_2, zc_161_s, zc_162_s, zc_160, zc_166, zc_167, zc_168, zc_158, zc_159, zc_170, zc_169, zS, hB.q]
    simp only [xsum, zB]
    split <;> rename_i h <;> simp only [h, ↓reduceIte]
  · rw [yb_178_4]
    simp (disch := omega) only [zbs, xgM_5, zRa_0, zRa_1, zRa_2, zRa_3, nI_le, ↓reduceIte, hB.q]
    rfl
theorem zc_179 {n : Nat} (hn : n < 40) : xm_C sc xt_M (d + 2) 179 [.ref 191, .int (nI n)] (xem w l t) = some (.inl (some (.int (sp_rank (xR w) n))), xem w l t) := by
  rw [yc_179]
  refine xlp (fun i => xm_R sc xt_M (d + 1) 179 4 [.ref 191, .int (nI n), .int (xsum (fun q => zB (xR w (176 + 3 * q) = xR w (176 + 3 * n))) i), .int (nI i)] [] (xem w l t)) (n) ?_ ?_
  · intro i hi
    rw [yb_179_4]
    simp (disch := omega) only [↓zbE, zbd_some, ↓xk_I, ↓xk_v, xgM_5, xiM, zRa, zRw, xR_s, xRs_s, zB_0, zB_1, zB_b01, ite_not, ↓reduceIte, nI_ge, zRa_0, zRa_1, zRa_2, zRa_3, zRa_4, zRa_5, zRw_0, zRw_1, zRw_2, zRw_3, zRw_4, zRw_5, zxV_0, zxV_1, zxV_2, zxK_0, zxK_1, zxK_2, zxK_3, zxK_4, zxK_5, zxQ_0, zxQ_1, zxQ_2, zxV_s, zxO, zxF, zc_161_0, zc_161_1, zc_161_2, zc_162_0, zc_162_1, zc_162_2, zc_163_0, zc_163_1, zc_163_2, zc_163_3, zc_163_4, zc_163_5, zc_164_0, zc_164_1, zc_164_2, zc_164_3, zc_164_4, zc_164_5, zc_165_0, zc_165_1, zc_165_2, zc_161_s, zc_162_s, zc_160, zc_166, zc_167, zc_168, zc_158, zc_159, zc_170, zc_169, zS]
    simp only [xsum, zB]
    split <;> rename_i h <;> simp only [h, ↓reduceIte]
  · rw [yb_179_4]
    simp (disch := omega) only [zbs, xgM_5, zRa_0, zRa_1, zRa_2, zRa_3, nI_le, ↓reduceIte]
    rfl
theorem zc_183 {k : Nat} {v : Int32} (hk : k < 20) : xm_C sc xt_M (d + 2) 183 [.ref 191, .int (nI k), .int v] (xem w l t) = some (.inl (some (.int (zB (sp_isIn (xR w) 0 k v)))), xem w l t) := by
  rw [yc_183]
  simp (disch := omega) only [↓zbE, zbd_some, ↓xk_I, ↓xk_v, xgM_5, xiM, zRa, zRw, xR_s, xRs_s, zB_0, zB_1, zB_b01, ite_not, ↓reduceIte, nI_ge, zRa_0, zRa_1, zRa_2, zRa_3, zRa_4, zRa_5, zRw_0, zRw_1, zRw_2, zRw_3, zRw_4, zRw_5, zxV_0, zxV_1, zxV_2, zxK_0, zxK_1, zxK_2, zxK_3, zxK_4, zxK_5, zxQ_0, zxQ_1, zxQ_2, zxV_s, zxO, zxF, zc_161_0, zc_161_1, zc_161_2, zc_162_0, zc_162_1, zc_162_2, zc_163_0, zc_163_1, zc_163_2, zc_163_3, zc_163_4, zc_163_5, zc_164_0, zc_164_1, zc_164_2, zc_164_3, zc_164_4, zc_164_5, zc_165_0, zc_165_1, zc_165_2, zc_161_s, zc_162_s, zc_160, zc_166, zc_167, zc_168, zc_158, zc_159, zc_170, zc_169, yb_183_23]
  unfold sp_isIn
  by_cases h1 : xR w (56 + 6 * k) = 0
  · rw [if_pos h1]
    by_cases h2 : xR w (57 + 6 * k) = v
    · rw [if_pos h2, ← zB_t ⟨h1, h2⟩]
    · rw [if_neg h2, ← zB_f (fun h => h2 h.2)]
  · rw [if_neg h1, ← zB_f (fun h => h1 h.1)]
theorem zc_184 {k : Nat} {v : Int32} (hk : k < 20) : xm_C sc xt_M (d + 2) 184 [.ref 191, .int (nI k), .int v] (xem w l t) = some (.inl (some (.int (zB (sp_isIn (xR w) 1 k v)))), xem w l t) := by
  rw [yc_184]
  simp (disch := omega) only [↓zbE, zbd_some, ↓xk_I, ↓xk_v, xgM_5, xiM, zRa, zRw, xR_s, xRs_s, zB_0, zB_1, zB_b01, ite_not, ↓reduceIte, nI_ge, zRa_0, zRa_1, zRa_2, zRa_3, zRa_4, zRa_5, zRw_0, zRw_1, zRw_2, zRw_3, zRw_4, zRw_5, zxV_0, zxV_1, zxV_2, zxK_0, zxK_1, zxK_2, zxK_3, zxK_4, zxK_5, zxQ_0, zxQ_1, zxQ_2, zxV_s, zxO, zxF, zc_161_0, zc_161_1, zc_161_2, zc_162_0, zc_162_1, zc_162_2, zc_163_0, zc_163_1, zc_163_2, zc_163_3, zc_163_4, zc_163_5, zc_164_0, zc_164_1, zc_164_2, zc_164_3, zc_164_4, zc_164_5, zc_165_0, zc_165_1, zc_165_2, zc_161_s, zc_162_s, zc_160, zc_166, zc_167, zc_168, zc_158, zc_159, zc_170, zc_169, yb_184_24]
  unfold sp_isIn
  by_cases h1 : xR w (56 + 6 * k) = 1
  · rw [if_pos h1]
    by_cases h2 : xR w (57 + 6 * k) = v
    · rw [if_pos h2, ← zB_t ⟨h1, h2⟩]
    · rw [if_neg h2, ← zB_f (fun h => h2 h.2)]
  · rw [if_neg h1, ← zB_f (fun h => h1 h.1)]
theorem zc_185 {v : Int32} (hB : xBd (xR w)) : xm_C sc xt_M (d + 3) 185 [.ref 191, .int v] (xem w l t) = some (.inl (some (.int (sp_booksIn (xR w) 1 v))), xem w l t) := by
  have hk := hB.k20
  have hq4 := hB.q40
  rw [yc_185]
  refine xlp (fun i => xm_R sc xt_M (d + 2) 185 4 [.ref 191, .int v, .int (xsum (fun q => zB (sp_isIn (xR w) 1 q v)) i), .int (nI i)] [] (xem w l t)) (xnk (xR w)) ?_ ?_
  · intro i hi
    rw [yb_185_4]
    simp (disch := omega) only [↓zbE, zbd_some, ↓xk_I, ↓xk_v, xgM_5, xiM, zRa, zRw, xR_s, xRs_s, zB_0, zB_1, zB_b01, ite_not, ↓reduceIte, nI_ge, zRa_0, zRa_1, zRa_2, zRa_3, zRa_4, zRa_5, zRw_0, zRw_1, zRw_2, zRw_3, zRw_4, zRw_5, zxV_0, zxV_1, zxV_2, zxK_0, zxK_1, zxK_2, zxK_3, zxK_4, zxK_5, zxQ_0, zxQ_1, zxQ_2, zxV_s, zxO, zxF, zc_161_0, zc_161_1, zc_161_2, zc_162_0, zc_162_1, zc_162_2, zc_163_0, zc_163_1, zc_163_2, zc_163_3, zc_163_4, zc_163_5, zc_164_0, zc_164_1, zc_164_2, zc_164_3, zc_164_4, zc_164_5, zc_165_0, zc_165_1, zc_165_2, zc_161_s, zc_162_s, zc_160, zc_166, zc_167, zc_168, zc_158, zc_159, zc_170, zc_169, zc_183, zc_184, zS, hB.k]
    simp only [xsum, zB]
    split <;> rename_i h <;> simp only [h, ↓reduceIte]
  · rw [yb_185_4]
    simp (disch := omega) only [zbs, xgM_5, zRa_0, zRa_1, zRa_2, zRa_3, nI_le, ↓reduceIte, hB.k]
    rfl
theorem zc_186 {st : Int32} (hB : xBd (xR w)) : xm_C sc xt_M (d + 2) 186 [.ref 191, .int st] (xem w l t) = some (.inl (some (.int (sp_inState (xR w) st))), xem w l t) := by
  have hk := hB.k20
  have hq4 := hB.q40
  rw [yc_186]
  refine xlp (fun i => xm_R sc xt_M (d + 1) 186 4 [.ref 191, .int st, .int (xsum (fun q => zB (xR w (56 + 6 * q) = st)) i), .int (nI i)] [] (xem w l t)) (xnk (xR w)) ?_ ?_
  · intro i hi
    rw [yb_186_4]
    simp (disch := omega) only [↓zbE, zbd_some, ↓xk_I, ↓xk_v, xgM_5, xiM, zRa, zRw, xR_s, xRs_s, zB_0, zB_1, zB_b01, ite_not, ↓reduceIte, nI_ge, zRa_0, zRa_1, zRa_2, zRa_3, zRa_4, zRa_5, zRw_0, zRw_1, zRw_2, zRw_3, zRw_4, zRw_5, zxV_0, zxV_1, zxV_2, zxK_0, zxK_1, zxK_2, zxK_3, zxK_4, zxK_5, zxQ_0, zxQ_1, zxQ_2, zxV_s, zxO, zxF, zc_161_0, zc_161_1, zc_161_2, zc_162_0, zc_162_1, zc_162_2, zc_163_0, zc_163_1, zc_163_2, zc_163_3, zc_163_4, zc_163_5, zc_164_0, zc_164_1, zc_164_2, zc_164_3, zc_164_4, zc_164_5, zc_165_0, zc_165_1, zc_165_2, zc_161_s, zc_162_s, zc_160, zc_166, zc_167, zc_168, zc_158, zc_159, zc_170, zc_169, zc_183, zc_184, zS, hB.k]
    simp only [xsum, zB]
    split <;> rename_i h <;> simp only [h, ↓reduceIte]
  · rw [yb_186_4]
    simp (disch := omega) only [zbs, xgM_5, zRa_0, zRa_1, zRa_2, zRa_3, nI_le, ↓reduceIte, hB.k]
    rfl
end RF
