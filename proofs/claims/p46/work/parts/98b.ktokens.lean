/-! THE CLASS: tokens -/
def kTg (s : xG) (T : xTk) (v : Int32) : xG := (fun i => if i = 4 then T.2.2.2.1 else if i = 5 then T.2.2.2.2 else if i = 8 then T.2.2.1 else if i = 9 then T.2.1 else if i = 10 then nI T.1 else if i = 11 then v else s.1 i, s.2)
def kTw (w : xW) (T : xTk) (v : Int32) : xW := xu w 0 (kTg (w 0) T v)
theorem kby_t : ∀ x, x < 256 → (kby (nI x) = 32 ↔ nI x = 32) ∧ (kby (nI x) = 10 ↔ nI x = 10) ∧ ((97 ≤ kby (nI x) ∧ kby (nI x) ≤ 122) ↔ (97 ≤ nI x ∧ nI x ≤ 122)) ∧ ((48 ≤ kby (nI x) ∧ kby (nI x) ≤ 57) ↔ (48 ≤ nI x ∧ nI x ≤ 57)) ∧ (kby (nI x) = 59 ↔ nI x = 59) ∧ (x < 128 → kby (nI x) = nI x) := by decide +kernel
/-- the bytes that both hold -/
def kBy (w : xW) (f : Nat → Int32) (n : Nat) : Prop := (w 0).1 7 = nI n ∧ xbh (w 0) = 20 ∧ n ≤ 800 ∧ ∀ i, i < n → (w 0).2 0 i = kby (f i) ∧ xil (f i) 256
def sp_vk (f : Nat → Int32) (s : Nat) : Nat → Nat
  | 0 => 0
  | m + 1 => min (10 * sp_vk f s m + (f (s + m)).toNatClampNeg - 48) 1000000
theorem sp_vk_le {f : Nat → Int32} {s : Nat} : ∀ m, sp_vk f s m ≤ 1000000 := by
  intro m
  cases m with
  | zero => exact Nat.zero_le _
  | succ m => exact Nat.min_le_right _ _
section KT
variable {w : xW} {T : xTk} {v : Int32}
theorem kTw_1 {i : Nat} (h : i < 4 ∨ 5 < i ∧ i < 8 ∨ 11 < i) : (kTw w T v 0).1 i = (w 0).1 i := by
  unfold kTw
  rw [xu_same]
  show (if i = 4 then T.2.2.2.1 else if i = 5 then T.2.2.2.2 else if i = 8 then T.2.2.1 else if i = 9 then T.2.1 else if i = 10 then nI T.1 else if i = 11 then v else (w 0).1 i) = _
  rw [if_neg (by omega), if_neg (by omega), if_neg (by omega), if_neg (by omega), if_neg (by omega), if_neg (by omega)]
theorem kTw_2 : (kTw w T v 0).2 = (w 0).2 := by
  unfold kTw
  rw [xu_same]
  rfl
theorem kTw_ne {g : Nat} (h : g ≠ 0) : kTw w T v g = w g := xu_ne h
theorem kTw_g4 : (kTw w T v 0).1 4 = T.2.2.2.1 := by
  unfold kTw
  rw [xu_same]
  rfl
theorem kTw_w4 {x : Int32} : xu (kTw w T v) 0 (xs1 (kTw w T v 0) 4 x) = kTw w (T.1, T.2.1, T.2.2.1, x, T.2.2.2.2) v := by
  unfold kTw
  rw [xu_xu, xu_same]
  congr 1
  refine Prod.ext (funext fun i => ?_) rfl
  show (if i = 4 then x else if i = 4 then T.2.2.2.1 else if i = 5 then T.2.2.2.2 else if i = 8 then T.2.2.1 else if i = 9 then T.2.1 else if i = 10 then nI T.1 else if i = 11 then v else (w 0).1 i) = (if i = 4 then x else if i = 5 then T.2.2.2.2 else if i = 8 then T.2.2.1 else if i = 9 then T.2.1 else if i = 10 then nI T.1 else if i = 11 then v else (w 0).1 i)
  by_cases h : i = 4
  · rw [if_pos h, if_pos h]
  · rw [if_neg h, if_neg (c := i = 4) h, if_neg (c := i = 4) h]
theorem kTw_g5 : (kTw w T v 0).1 5 = T.2.2.2.2 := by
  unfold kTw
  rw [xu_same]
  rfl
theorem kTw_w5 {x : Int32} : xu (kTw w T v) 0 (xs1 (kTw w T v 0) 5 x) = kTw w (T.1, T.2.1, T.2.2.1, T.2.2.2.1, x) v := by
  unfold kTw
  rw [xu_xu, xu_same]
  congr 1
  refine Prod.ext (funext fun i => ?_) rfl
  show (if i = 5 then x else if i = 4 then T.2.2.2.1 else if i = 5 then T.2.2.2.2 else if i = 8 then T.2.2.1 else if i = 9 then T.2.1 else if i = 10 then nI T.1 else if i = 11 then v else (w 0).1 i) = (if i = 4 then T.2.2.2.1 else if i = 5 then x else if i = 8 then T.2.2.1 else if i = 9 then T.2.1 else if i = 10 then nI T.1 else if i = 11 then v else (w 0).1 i)
  by_cases h : i = 5
  · rw [if_pos h, if_neg (c := i = 4) (by omega), if_pos h]
  · rw [if_neg h, if_neg (c := i = 5) h, if_neg (c := i = 5) h]
theorem kTw_g8 : (kTw w T v 0).1 8 = T.2.2.1 := by
  unfold kTw
  rw [xu_same]
  rfl
theorem kTw_w8 {x : Int32} : xu (kTw w T v) 0 (xs1 (kTw w T v 0) 8 x) = kTw w (T.1, T.2.1, x, T.2.2.2) v := by
  unfold kTw
  rw [xu_xu, xu_same]
  congr 1
  refine Prod.ext (funext fun i => ?_) rfl
  show (if i = 8 then x else if i = 4 then T.2.2.2.1 else if i = 5 then T.2.2.2.2 else if i = 8 then T.2.2.1 else if i = 9 then T.2.1 else if i = 10 then nI T.1 else if i = 11 then v else (w 0).1 i) = (if i = 4 then T.2.2.2.1 else if i = 5 then T.2.2.2.2 else if i = 8 then x else if i = 9 then T.2.1 else if i = 10 then nI T.1 else if i = 11 then v else (w 0).1 i)
  by_cases h : i = 8
  · rw [if_pos h, if_neg (c := i = 4) (by omega), if_neg (c := i = 5) (by omega), if_pos h]
  · rw [if_neg h, if_neg (c := i = 8) h, if_neg (c := i = 8) h]
theorem kTw_g9 : (kTw w T v 0).1 9 = T.2.1 := by
  unfold kTw
  rw [xu_same]
  rfl
theorem kTw_w9 {x : Int32} : xu (kTw w T v) 0 (xs1 (kTw w T v 0) 9 x) = kTw w (T.1, x, T.2.2) v := by
  unfold kTw
  rw [xu_xu, xu_same]
  congr 1
  refine Prod.ext (funext fun i => ?_) rfl
  show (if i = 9 then x else if i = 4 then T.2.2.2.1 else if i = 5 then T.2.2.2.2 else if i = 8 then T.2.2.1 else if i = 9 then T.2.1 else if i = 10 then nI T.1 else if i = 11 then v else (w 0).1 i) = (if i = 4 then T.2.2.2.1 else if i = 5 then T.2.2.2.2 else if i = 8 then T.2.2.1 else if i = 9 then x else if i = 10 then nI T.1 else if i = 11 then v else (w 0).1 i)
  by_cases h : i = 9
  · rw [if_pos h, if_neg (c := i = 4) (by omega), if_neg (c := i = 5) (by omega), if_neg (c := i = 8) (by omega), if_pos h]
  · rw [if_neg h, if_neg (c := i = 9) h, if_neg (c := i = 9) h]
theorem kTw_g10 : (kTw w T v 0).1 10 = nI T.1 := by
  unfold kTw
  rw [xu_same]
  rfl
theorem kTw_w10 {p : Nat} : xu (kTw w T v) 0 (xs1 (kTw w T v 0) 10 (nI p)) = kTw w (p, T.2) v := by
  unfold kTw
  rw [xu_xu, xu_same]
  congr 1
  refine Prod.ext (funext fun i => ?_) rfl
  show (if i = 10 then nI p else if i = 4 then T.2.2.2.1 else if i = 5 then T.2.2.2.2 else if i = 8 then T.2.2.1 else if i = 9 then T.2.1 else if i = 10 then nI T.1 else if i = 11 then v else (w 0).1 i) = (if i = 4 then T.2.2.2.1 else if i = 5 then T.2.2.2.2 else if i = 8 then T.2.2.1 else if i = 9 then T.2.1 else if i = 10 then nI p else if i = 11 then v else (w 0).1 i)
  by_cases h : i = 10
  · rw [if_pos h, if_neg (c := i = 4) (by omega), if_neg (c := i = 5) (by omega), if_neg (c := i = 8) (by omega), if_neg (c := i = 9) (by omega), if_pos h]
  · rw [if_neg h, if_neg (c := i = 10) h, if_neg (c := i = 10) h]
theorem kTw_g11 : (kTw w T v 0).1 11 = v := by
  unfold kTw
  rw [xu_same]
  rfl
theorem kTw_w11 {x : Int32} : xu (kTw w T v) 0 (xs1 (kTw w T v 0) 11 x) = kTw w T x := by
  unfold kTw
  rw [xu_xu, xu_same]
  congr 1
  refine Prod.ext (funext fun i => ?_) rfl
  show (if i = 11 then x else if i = 4 then T.2.2.2.1 else if i = 5 then T.2.2.2.2 else if i = 8 then T.2.2.1 else if i = 9 then T.2.1 else if i = 10 then nI T.1 else if i = 11 then v else (w 0).1 i) = (if i = 4 then T.2.2.2.1 else if i = 5 then T.2.2.2.2 else if i = 8 then T.2.2.1 else if i = 9 then T.2.1 else if i = 10 then nI T.1 else if i = 11 then x else (w 0).1 i)
  by_cases h : i = 11
  · rw [if_pos h, if_neg (c := i = 4) (by omega), if_neg (c := i = 5) (by omega), if_neg (c := i = 8) (by omega), if_neg (c := i = 9) (by omega), if_neg (c := i = 10) (by omega), if_pos h]
  · rw [if_neg h, if_neg (c := i = 11) h, if_neg (c := i = 11) h]
end KT
section KU
variable {w : xW} {l : Nat → Nat → Int64} {t : Nat} {sc : xm_Sc} {d n : Nat} {T : xTk} {v : Int32} {f : Nat → Int32}
theorem xgK4 : xm_gI (xem (kTw w T v) l t) 21 5 0 = some (T.2.2.2.1) := by rw [xgT_0, kTw_g4]
theorem xsK4 {x : Int32} : xm_sF (xem (kTw w T v) l t) 21 5 0 (.int x) = some (xem (kTw w (T.1, T.2.1, T.2.2.1, x, T.2.2.2.2) v) l t) := by rw [xsT_0, kTw_w4]
theorem xgK5 : xm_gI (xem (kTw w T v) l t) 21 5 1 = some (T.2.2.2.2) := by rw [xgT_1, kTw_g5]
theorem xsK5 {x : Int32} : xm_sF (xem (kTw w T v) l t) 21 5 1 (.int x) = some (xem (kTw w (T.1, T.2.1, T.2.2.1, T.2.2.2.1, x) v) l t) := by rw [xsT_1, kTw_w5]
theorem xgK8 : xm_gI (xem (kTw w T v) l t) 21 5 4 = some (T.2.2.1) := by rw [xgT_4, kTw_g8]
theorem xsK8 {x : Int32} : xm_sF (xem (kTw w T v) l t) 21 5 4 (.int x) = some (xem (kTw w (T.1, T.2.1, x, T.2.2.2) v) l t) := by rw [xsT_4, kTw_w8]
theorem xgK9 : xm_gI (xem (kTw w T v) l t) 21 5 5 = some (T.2.1) := by rw [xgT_5, kTw_g9]
theorem xsK9 {x : Int32} : xm_sF (xem (kTw w T v) l t) 21 5 5 (.int x) = some (xem (kTw w (T.1, x, T.2.2) v) l t) := by rw [xsT_5, kTw_w9]
theorem xgK10 : xm_gI (xem (kTw w T v) l t) 21 5 6 = some (nI T.1) := by rw [xgT_6, kTw_g10]
theorem xsK10 {p : Nat} : xm_sF (xem (kTw w T v) l t) 21 5 6 (.int (nI p)) = some (xem (kTw w (p, T.2) v) l t) := by rw [xsT_6, kTw_w10]
theorem xgK11 : xm_gI (xem (kTw w T v) l t) 21 5 7 = some (v) := by rw [xgT_7, kTw_g11]
theorem xsK11 {x : Int32} : xm_sF (xem (kTw w T v) l t) 21 5 7 (.int x) = some (xem (kTw w T x) l t) := by rw [xsT_7, kTw_w11]
theorem xgK7 (hB : kBy w f n) : xm_gI (xem (kTw w T v) l t) 21 5 3 = some (nI n) := by rw [xgT_3, kTw_1 (by omega), hB.1]
theorem xgKb (hB : kBy w f n) : xm_gR (xem (kTw w T v) l t) 21 5 2 = some 20 := by
  have e : xbh (kTw w T v 0) = xbh (w 0) := by
    unfold xbh
    rw [kTw_1 (by omega)]
  rw [xgT_2, e, hB.2.1]
theorem xaKb {i : Nat} (hB : kBy w f n) (hi : i < n) : xm_aI (xem (kTw w T v) l t) 20 1 (nI i) = some (kby (f i)) := by
  have h8 := hB.2.2.1
  rw [xaA_B, if_pos (xin (show i < 800 by omega) (by decide)), nI_clamp (by omega), kTw_2, (hB.2.2.2 i hi).1]
theorem kc_89 {i : Nat} {S : xm_PS} (hB : kBy w f n) (hi : i < n) : xm_C sc xt_M (d + 1) 89 [.int (kby (f i))] S = some (.inl (some (.int (zB (sp_spc f n i)))), S) := by
  have hx := (hB.2.2.2 i hi).2
  obtain ⟨t1, t2, t3, t4, t5, t6⟩ := kby_t (f i).toNatClampNeg hx.2
  rw [← hx.1] at t1 t2 t3 t4 t5 t6
  have hb : sp_b f n i = f i := if_neg (by omega)
  rw [yc_89]
  unfold sp_spc
  rw [hb]
  by_cases h1 : f i = 32
  · rw [zB_tt (c := f i = 32 ∨ f i = 10) (Or.inl h1), if_pos (t1.mpr h1), yb_89_12]
  · rw [if_neg (fun z => h1 (t1.mp z))]
    by_cases h2 : f i = 10
    · rw [zB_tt (c := f i = 32 ∨ f i = 10) (Or.inr h2), if_pos (t2.mpr h2), yb_89_12]
    · rw [zB_ff (c := f i = 32 ∨ f i = 10) (fun z => z.elim h1 h2), if_neg (fun z => h2 (t2.mp z))]
theorem kc_90 {i : Nat} {S : xm_PS} (hB : kBy w f n) (hi : i < n) : xm_C sc xt_M (d + 1) 90 [.int (kby (f i))] S = some (.inl (some (.int (zB (sp_let f n i)))), S) := by
  have hx := (hB.2.2.2 i hi).2
  obtain ⟨t1, t2, t3, t4, t5, t6⟩ := kby_t (f i).toNatClampNeg hx.2
  rw [← hx.1] at t1 t2 t3 t4 t5 t6
  have hb : sp_b f n i = f i := if_neg (by omega)
  rw [yc_90]
  unfold sp_let
  rw [hb]
  by_cases h1 : kby (f i) < 97
  · rw [if_pos h1, yb_90_16, zB_ff (c := 97 ≤ f i ∧ f i ≤ 122) (fun z => absurd h1 (Int32.not_lt.mpr (t3.mpr z).1))]
  · rw [if_neg h1]
    by_cases h2 : 122 < kby (f i)
    · rw [if_pos h2, yb_90_16, zB_ff (c := 97 ≤ f i ∧ f i ≤ 122) (fun z => absurd h2 (Int32.not_lt.mpr (t3.mpr z).2))]
    · rw [if_neg h2, zB_tt (c := 97 ≤ f i ∧ f i ≤ 122) (t3.mp ⟨Int32.not_lt.mp h1, Int32.not_lt.mp h2⟩)]
theorem kc_91 {i : Nat} {S : xm_PS} (hB : kBy w f n) (hi : i < n) : xm_C sc xt_M (d + 1) 91 [.int (kby (f i))] S = some (.inl (some (.int (zB (sp_dig f n i)))), S) := by
  have hx := (hB.2.2.2 i hi).2
  obtain ⟨t1, t2, t3, t4, t5, t6⟩ := kby_t (f i).toNatClampNeg hx.2
  rw [← hx.1] at t1 t2 t3 t4 t5 t6
  have hb : sp_b f n i = f i := if_neg (by omega)
  rw [yc_91]
  unfold sp_dig
  rw [hb]
  by_cases h1 : kby (f i) < 48
  · rw [if_pos h1, yb_91_16, zB_ff (c := 48 ≤ f i ∧ f i ≤ 57) (fun z => absurd h1 (Int32.not_lt.mpr (t4.mpr z).1))]
  · rw [if_neg h1]
    by_cases h2 : 57 < kby (f i)
    · rw [if_pos h2, yb_91_16, zB_ff (c := 48 ≤ f i ∧ f i ≤ 57) (fun z => absurd h2 (Int32.not_lt.mpr (t4.mpr z).2))]
    · rw [if_neg h2, zB_tt (c := 48 ≤ f i ∧ f i ≤ 57) (t4.mp ⟨Int32.not_lt.mp h1, Int32.not_lt.mp h2⟩)]
theorem k87 (hB : kBy w f n) {s k v : Int32} {e : Int32 × Int32} : ∀ m p, p + m = n → xm_R sc xt_M (d + 1) 87 5 [.ref 21] [] (xem (kTw w (p, s, k, e) v) l t) = some (.inl none, xem (kTw w (xto (fun j => ¬ sp_let f n j) p m, s, k, e) v) l t) := by
  have h8 := hB.2.2.1
  intro m
  induction m with
  | zero =>
    intro p hp
    rw [yb_87_5, xgK10, zbs, xgK7 hB, zbs, if_pos (nI_le (show n ≤ p by omega) (by show p < 2 ^ 31; omega)), yb_87_44]
    rfl
  | succ m ih =>
    intro p hp
    have c := @kc_90 w sc d n f p (xem (kTw w (p, s, k, e) v) l t) hB (by omega)
    have ha := @xaKb w l t n (p, s, k, e) v f p hB (by omega)
    rw [yb_87_5, xgK10, zbs, xgK7 hB, zbs, if_neg (nI_ge (a := p) (b := n) (by omega) (by omega)), xgKb hB, zbs, zbs, ha, zbs, c, zbs, xk_I]
    by_cases h : sp_let f n p
    · rw [zB_tt h, if_neg (by decide), xto_n (fun z => z h), xgK10, zbs, zS, xsK10, zbs]
      exact ih (p + 1) (by omega)
    · rw [zB_ff h, if_pos rfl, xto_y h, yb_87_44]
theorem k_cap {V b : Nat} (hV : V ≤ 1000000) (h1 : 48 ≤ b) (h2 : b ≤ 57) : (if (1000000 : Int32) < nI V * 10 + nI b - 48 then (1000000 : Int32) else nI V * 10 + nI b - 48) = nI (min (10 * V + b - 48) 1000000) := by
  have e : nI V * 10 + nI b - 48 = nI (10 * V + b - 48) := by
    have e1 : nI V * 10 = nI (10 * V) := by
      show nI V * nI 10 = _
      rw [zM, Nat.mul_comm]
    rw [e1, zA]
    exact rd_sub (b := 48) (by omega) (by omega)
  rw [e]
  by_cases h : 1000000 < 10 * V + b - 48
  · rw [if_pos (show (1000000 : Int32) < nI (10 * V + b - 48) from nI_lt (a := 1000000) h (by omega)), Nat.min_eq_right (by omega)]
    rfl
  · rw [if_neg (show ¬ (1000000 : Int32) < nI (10 * V + b - 48) from nI_nlt (a := 1000000) (by omega) (by omega)), Nat.min_eq_left (by omega)]
theorem k88 (hB : kBy w f n) {s : Nat} {sx k : Int32} {e : Int32 × Int32} : ∀ m i, s + i + m = n → xm_R sc xt_M (d + 1) 88 10 [.ref 21] [] (xem (kTw w (s + i, sx, k, e) (nI (sp_vk f s i))) l t) = some (.inl none, xem (kTw w (xto (fun j => ¬ sp_dig f n j) (s + i) m, sx, k, e) (nI (sp_vk f s (xto (fun j => ¬ sp_dig f n j) (s + i) m - s)))) l t) := by
  have h8 := hB.2.2.1
  intro m
  induction m with
  | zero =>
    intro i hp
    rw [yb_88_10, xgK10, zbs, xgK7 hB, zbs, if_pos (nI_le (show n ≤ s + i by omega) (by show s + i < 2 ^ 31; omega)), yb_88_78, show xto (fun j => ¬ sp_dig f n j) (s + i) 0 = s + i from rfl, Nat.add_sub_cancel_left]
  | succ m ih =>
    intro i hp
    have c := @kc_91 w sc d n f (s + i) (xem (kTw w (s + i, sx, k, e) (nI (sp_vk f s i))) l t) hB (by omega)
    have ha := @xaKb w l t n (s + i, sx, k, e) (nI (sp_vk f s i)) f (s + i) hB (by omega)
    rw [yb_88_10, xgK10, zbs, xgK7 hB, zbs, if_neg (nI_ge (a := s + i) (b := n) (by omega) (by omega)), xgKb hB, zbs, zbs, ha, zbs, c, zbs, xk_I]
    by_cases h : sp_dig f n (s + i)
    · have hx := (hB.2.2.2 (s + i) (by omega)).2
      have hb : sp_b f n (s + i) = f (s + i) := if_neg (by omega)
      have hd := h
      unfold sp_dig at hd
      rw [hb] at hd
      obtain ⟨t1, t2, t3, t4, t5, t6⟩ := kby_t (f (s + i)).toNatClampNeg hx.2
      rw [← hx.1] at t6
      obtain ⟨b, hb58, eb⟩ := zrg (m := 58) (by omega) ⟨Int32.le_trans (by decide) hd.1, show f (s + i) ≤ nI 58 - 1 from hd.2⟩
      have hb48 : 48 ≤ b := by
        have := hd.1
        rw [eb] at this
        exact Decidable.byContradiction fun z => nI_ge (a := b) (b := 48) (by omega) (by omega) this
      have ev : sp_vk f s (i + 1) = min (10 * sp_vk f s i + b - 48) 1000000 := by
        show min (10 * sp_vk f s i + (f (s + i)).toNatClampNeg - 48) 1000000 = _
        rw [eb, nI_clamp (by omega)]
      have ek : kby (f (s + i)) = nI b := by
        rw [t6 (by rw [eb, nI_clamp (by omega)]; omega), eb]
      have hcap := @k_cap (sp_vk f s i) b (sp_vk_le i) hb48 (by omega)
      rw [← ev] at hcap
      rw [ek] at ha
      rw [zB_tt h, if_neg (by decide), xto_n (fun z => z h), xgK11, zbs, xgKb hB, zbs, xgK10, zbs, ha, zbs, hcap, xsK11, zbs, xgK10, zbs, zS, xsK10, zbs]
      exact ih (i + 1) (by omega)
    · rw [zB_ff h, if_pos rfl, xto_y h, yb_88_78, Nat.add_sub_cancel_left]
end KU
