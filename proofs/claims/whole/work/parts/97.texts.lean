/-! THE REFERENCE: words and numbers of a text -/
theorem rd_sub {a b : Nat} (h : b ≤ a) (ha : a < 2 ^ 31) : nI a - nI b = nI (a - b) := by
  have e : nI (a - b) + nI b = nI a := by rw [zA, Nat.sub_add_cancel h]
  rw [← e, Int32.add_sub_cancel]
theorem xto_all {p : Nat → Prop} [DecidablePred p] : ∀ {m i : Nat}, ∀ j, i ≤ j → j < xto p i m → ¬ p j := by
  intro m
  induction m with
  | zero => intro i j h1 h2; exact absurd h2 (by show ¬ j < i; omega)
  | succ m ih =>
    intro i j h1 h2
    rw [xto_s] at h2
    by_cases h : p i
    · rw [if_pos h] at h2
      omega
    · rw [if_neg h] at h2
      by_cases e : j = i
      · subst e; exact h
      · exact ih j (by omega) h2
/-- what a token is -/
def sp_tw (f : Nat → Int32) (n : Nat) (T : xTk) : Prop := T.1 ≤ n ∧ ∃ s, T.2.1 = nI s ∧ s ≤ T.1 ∧ (T.2.2.1 = 2 → ∀ j, s ≤ j → j < T.1 → sp_dig f n j) ∧ (T.2.2.1 = 3 → s < n)
theorem sp_tw_scan {f : Nat → Int32} {n : Nat} {T : xTk} (h : T.1 ≤ n) : sp_tw f n (sp_scan f n T) := by
  unfold sp_scan
  have h1 := @xto_le (fun j => ¬ sp_spc f n j) _ (n - T.1) T.1
  generalize xto (fun j => ¬ sp_spc f n j) T.1 (n - T.1) = s at *
  unfold sp_scS
  by_cases h2 : s < n
  · rw [if_pos h2]
    by_cases h3 : sp_let f n s
    · rw [if_pos h3]
      have h4 := @xto_le (fun j => ¬ sp_let f n j) _ (n - s) s
      exact ⟨by show xto (fun j => ¬ sp_let f n j) s (n - s) ≤ n; omega, s, rfl, h4.1, fun z => absurd z (show ¬ (1 : Int32) = 2 by decide), fun _ => h2⟩
    · rw [if_neg h3]
      by_cases h5 : sp_dig f n s
      · rw [if_pos h5]
        have h4 := @xto_le (fun j => ¬ sp_dig f n j) _ (n - s) s
        exact ⟨by show xto (fun j => ¬ sp_dig f n j) s (n - s) ≤ n; omega, s, rfl, h4.1, fun _ j j1 j2 => Decidable.byContradiction fun z => xto_all (p := fun j => ¬ sp_dig f n j) j j1 j2 z, fun _ => h2⟩
      · rw [if_neg h5]
        exact ⟨by show s + 1 ≤ n; omega, s, rfl, by show s ≤ s + 1; omega, fun z => absurd z (show ¬ (3 : Int32) = 2 by decide), fun _ => h2⟩
  · rw [if_neg h2]
    exact ⟨by show s ≤ n; omega, s, rfl, Nat.le_refl _, fun z => absurd z (show ¬ (0 : Int32) = 2 by decide), fun z => absurd z (show ¬ (0 : Int32) = 3 by decide)⟩
theorem sp_tw_check {f : Nat → Int32} {n : Nat} {T : xTk} {b c : Int32} (h : sp_tw f n T) : sp_tw f n (sp_check T b c) := by
  unfold sp_check sp_flaw
  split
  · split
    · exact h
    · exact h
  · exact h
theorem sp_tw_adv {f : Nat → Int32} {n : Nat} {T : xTk} (h : sp_tw f n T) : sp_tw f n (sp_adv f n T) := by
  unfold sp_adv
  split
  · exact sp_tw_scan h.1
  · exact h
def sp_vl (f : Nat → Int32) (s : Nat) : Nat → Nat
  | 0 => 0
  | m + 1 => min (10 * sp_vl f s m + (f (s + m)).toNatClampNeg - 48) 2000000000
theorem sp_vl_le {f : Nat → Int32} {s : Nat} : ∀ m, sp_vl f s m ≤ 2000000000 := by
  intro m
  cases m with
  | zero => exact Nat.zero_le _
  | succ m => exact Nat.min_le_right _ _
def sp_val (f : Nat → Int32) (T : xTk) : Int32 := if T.2.2.1 = 2 then nI (sp_vl f T.2.1.toNatClampNeg (T.1 - T.2.1.toNatClampNeg)) else 0
theorem rd_step {V b : Nat} (hV : V ≤ 2000000000) (h1 : 48 ≤ b) (h2 : b ≤ 57) : (if (((10 : Int64) * (nI V).toInt64) + (nI b).toInt64) - 48 < 2000000000 then (((10 * (nI V).toInt64) + (nI b).toInt64) - 48) else 2000000000).toInt32 = nI (min (10 * V + b - 48) 2000000000) := by
  have e1 : (nI V).toInt64.toInt = V := by rw [Int32.toInt_toInt64, nI_toInt (by omega)]
  have e2 : (nI b).toInt64.toInt = b := by rw [Int32.toInt_toInt64, nI_toInt (by omega)]
  generalize (nI V).toInt64 = x at *
  generalize (nI b).toInt64 = y at *
  have m1 : (10 * x).toInt = 10 * V := by
    rw [Int64.toInt_mul, e1, show (10 : Int64).toInt = 10 from rfl]
    exact Int.bmod_eq_of_le (by omega) (by omega)
  have m2 : (10 * x + y).toInt = 10 * V + b := by
    rw [Int64.toInt_add, m1, e2]
    exact Int.bmod_eq_of_le (by omega) (by omega)
  have e3 : (10 * x + y - 48).toInt = 10 * V + b - 48 := by
    rw [Int64.toInt_sub, m2, show (48 : Int64).toInt = 48 from rfl]
    exact Int.bmod_eq_of_le (by omega) (by omega)
  by_cases h : 10 * V + b - 48 < 2000000000
  · rw [if_pos (Int64.lt_iff_toInt_lt.mpr (by rw [e3, show (2000000000 : Int64).toInt = 2000000000 from rfl]; omega)), Nat.min_eq_left (by omega)]
    refine zti ?_
    rw [Int64.toInt_toInt32, e3, nI_toInt (by omega)]
    rw [Int.bmod_eq_of_le (by omega) (by omega)]
    omega
  · rw [if_neg (fun z => h (by have := Int64.lt_iff_toInt_lt.mp z; rw [e3, show (2000000000 : Int64).toInt = 2000000000 from rfl] at this; omega)), Nat.min_eq_right (by omega)]
    rfl
def toJ2 (b : Bool) : Int32 := if b = true then 1 else 0
section RW
variable {w : xW} {l : Nat → Nat → Int64} {t : Nat} {sc : xm_Sc} {d n : Nat} {T : xTk}
theorem z276_0 {k : Nat} {x : Int32} (hk : k < 43) : xm_R sc xt_M (d + 4) 276 39 [.ref 191, .retAddr k, .int 0, .int x] [] (xem (xPw w T) l t) = some (.inl (some (.int 0)), xem (xPw w T) l t) := by
  rw [yb_276_39 (by omega), if_pos rfl, yb_276_82 (by omega), if_pos (show xm_b01 0 = true from rfl)]
theorem z276 {k s : Nat} (hk : k < 43) (hs : T.2.1 = nI s) (h8 : s + sp_ln k ≤ 800) : ∀ m i, i + m = sp_ln k → xm_R sc xt_M (d + 4) 276 39 [.ref 191, .retAddr k, .int 1, .int (nI i)] [] (xem (xPw w T) l t) = some (.inl (some (.int (toJ2 (decide (∀ j, j < m → sp_ch k (i + j) = (w 3).2 8 (s + (i + j))))))), xem (xPw w T) l t) := by
  have hl : sp_ln k < 100 := (xe_ll k hk).2.1
  have c330 := @ze_330 (xPw w T) l t sc (d + 2) k hk
  intro m
  induction m with
  | zero =>
    intro i hi
    rw [yb_276_39 (by omega), if_neg (by decide), if_pos (xiK hk), c330, zbs, xk_I, if_pos (nI_le (by omega) (by omega)), yb_276_82 (by omega), if_pos (show xm_b01 1 = true from rfl)]
    refine congrArg (fun x => some (Sum.inl (some (Value.int x)), xem (xPw w T) l t)) ?_
    unfold toJ2
    exact Eq.symm (if_pos (decide_eq_true fun j h => absurd h (Nat.not_lt_zero j)))
  | succ m ih =>
    intro i hi
    have c331 := @ze_331 (xPw w T) l t sc d k i hk (by show i < sp_ln k; omega)
    have ha : xm_aI (xem (xPw w T) l t) (xm 8) 0 (nI s + nI i) = some ((w 3).2 8 (s + i)) := by
      rw [zA]
      exact xaP8 (by omega)
    rw [yb_276_39 (by omega), if_neg (by decide), if_pos (xiK hk), c330, zbs, xk_I, if_neg (nI_ge (a := i) (b := sp_ln k) (by omega) (by omega)), if_pos (xiK hk), c331, zbs, xk_I, xgM_14, zbs, xgP9, zbs, hs, ha, zbs]
    by_cases h : sp_ch k i = (w 3).2 8 (s + i)
    · rw [if_pos h, zS, ih (i + 1) (by omega)]
      congr 5
      refine congrArg toJ2 (decide_eq_decide.mpr ⟨fun z j hj => ?_, fun z j hj => ?_⟩)
      · cases j with
        | zero => exact h
        | succ j =>
          have := z j (by omega)
          rw [show i + 1 + j = i + (j + 1) by omega] at this
          exact this
      · have := z (j + 1) (by omega)
        rw [show i + (j + 1) = i + 1 + j by omega] at this
        exact this
    · rw [if_neg h, z276_0 hk]
      rw [show decide (∀ j, j < m + 1 → sp_ch k (i + j) = (w 3).2 8 (s + (i + j))) = false from decide_eq_false (fun z => h (z 0 (by omega)))]
      rfl
theorem zc_276 {k : Nat} (hk : k < 43) (h8 : n ≤ 800) (hT : sp_tw ((w 3).2 8) n T) : xm_C sc xt_M (d + 5) 276 [.ref 191, .retAddr k] (xem (xPw w T) l t) = some (.inl (some (.int (zB (sp_wrd ((w 3).2 8) T k)))), xem (xPw w T) l t) := by
  obtain ⟨hp, s, hs, hsp, _, _⟩ := hT
  have hl : sp_ln k < 100 := (xe_ll k hk).2.1
  have c330 := @ze_330 (xPw w T) l t sc (d + 2) k hk
  have es : T.2.1.toNatClampNeg = s := by rw [hs, nI_clamp (by omega)]
  unfold sp_wrd
  rw [es]
  rw [yc_276 (by omega), xgPb, zbs]
  by_cases h1 : T.2.2.2.1 = 0
  · rw [if_pos h1, xgPa, zbs]
    by_cases h2 : T.2.2.1 = 1
    · rw [if_pos h2, if_pos (xiK hk), c330, zbs, xk_I, xgP8, zbs, xgP9, zbs, hs, rd_sub hsp (by omega)]
      by_cases h3 : sp_ln k = T.1 - s
      · have z0 := @z276 w l t sc d T k s hk hs (by omega) (sp_ln k) 0 (by omega)
        rw [show nI 0 = (0 : Int32) from rfl] at z0
        rw [if_pos (by rw [h3]), z0]
        by_cases h4 : ∀ i, i < sp_ln k → sp_ch k i = (w 3).2 8 (s + i)
        · rw [zB_tt ⟨⟨h1, h2, h3⟩, h4⟩, decide_eq_true (fun j hj => by rw [Nat.zero_add]; exact h4 j hj)]
          rfl
        · rw [zB_ff (fun z => h4 z.2), decide_eq_false (fun z => h4 fun j hj => by have := z j hj; rw [Nat.zero_add] at this; exact this)]
          rfl
      · rw [if_neg (fun z => h3 (nI_inj (by omega) (by omega) z)), yb_276_35 (by omega), z276_0 hk, zB_ff (fun z => h3 z.1.2.2)]
    · rw [if_neg h2, yb_276_35 (by omega), z276_0 hk, zB_ff (fun z => h2 z.1.2.1)]
  · rw [if_neg h1, yb_276_35 (by omega), z276_0 hk, zB_ff (fun z => h1 z.1.1)]
def sp_acc (f : Nat → Int32) (n : Nat) (T : xTk) (k : Nat) : xTk := if sp_wrd f T k then sp_scan f n T else T
def sp_expW (f : Nat → Int32) (n : Nat) (T : xTk) (k : Nat) : xTk := sp_adv f n (sp_check T (zB (sp_wrd f T k)) 1)
def sp_exp2 (f : Nat → Int32) (n : Nat) (T : xTk) (c : Int32) : xTk := sp_adv f n (sp_check T (zB (sp_sym f T c)) 1)
theorem zc_277 {k : Nat} (hn : (w 3).1 7 = nI n) (hk : k < 43) (h8 : n ≤ 800) (hT : sp_tw ((w 3).2 8) n T) : xm_C sc xt_M (d + 6) 277 [.ref 191, .retAddr k] (xem (xPw w T) l t) = some (.inl (some (.int (zB (sp_wrd ((w 3).2 8) T k)))), xem (xPw w (sp_acc ((w 3).2 8) n T k)) l t) := by
  have c1 := @zc_276 w l t sc d n T k hk h8 hT
  have c2 := @zc_269 w l t sc (d + 2) n T hn h8 hT.1
  unfold sp_acc
  rw [yc_277 (by omega), if_pos xiM, c1, zbs, xk_I]
  by_cases h : sp_wrd ((w 3).2 8) T k
  · rw [zB_tt h, if_pos h, if_neg (by decide), if_pos xiM, c2, zbs, xk_v, yb_277_14 (by omega), if_pos (show xm_b01 1 = true from rfl)]
  · rw [zB_ff h, if_neg h, if_pos rfl, yb_277_14 (by omega), if_pos (show xm_b01 0 = true from rfl)]
theorem zc_278 {k : Nat} (hn : (w 3).1 7 = nI n) (hk : k < 43) (h8 : n ≤ 800) (hT : sp_tw ((w 3).2 8) n T) : xm_C sc xt_M (d + 6) 278 [.ref 191, .retAddr k] (xem (xPw w T) l t) = some (.inl none, xem (xPw w (sp_expW ((w 3).2 8) n T k)) l t) := by
  have c1 := @zc_276 w l t sc d n T k hk h8 hT
  have c2 := @zc_273 w l t sc (d + 3) T (zB (sp_wrd ((w 3).2 8) T k)) 1
  have c3 := @zc_274 w l t sc (d + 1) n (sp_check T (zB (sp_wrd ((w 3).2 8) T k)) 1) hn h8 (sp_tw_check hT).1
  rw [yc_278 (by omega), if_pos xiM, c1, zbs, xk_I, if_pos xiM, c2, zbs, xk_v, if_pos xiM, c3, zbs, xk_v]
  rfl
theorem zc_279 {c : Int32} (hn : (w 3).1 7 = nI n) (h8 : n ≤ 800) (hs : xil T.2.1 800) (hT : sp_tw ((w 3).2 8) n T) : xm_C sc xt_M (d + 5) 279 [.ref 191, .int c] (xem (xPw w T) l t) = some (.inl none, xem (xPw w (sp_exp2 ((w 3).2 8) n T c)) l t) := by
  have c1 := @zc_275 w l t sc (d + 3) T c hs
  have c2 := @zc_273 w l t sc (d + 2) T (zB (sp_sym ((w 3).2 8) T c)) 1
  have c3 := @zc_274 w l t sc d n (sp_check T (zB (sp_sym ((w 3).2 8) T c)) 1) hn h8 (sp_tw_check hT).1
  rw [yc_279, if_pos xiM, c1, zbs, xk_I, if_pos xiM, c2, zbs, xk_v, if_pos xiM, c3, zbs, xk_v]
  rfl
theorem z280 {s : Nat} (hs : T.2.1 = nI s) (h2 : T.2.2.1 = 2) (hsp : s ≤ T.1) (hp : T.1 ≤ n) (h8 : n ≤ 800) (hd : ∀ j, s ≤ j → j < T.1 → sp_dig ((w 3).2 8) n j) : ∀ m i, i + m = T.1 - s → xm_R sc xt_M d 280 7 [.ref 191, .int (nI (sp_vl ((w 3).2 8) s i)), .int (nI (s + i))] [] (xem (xPw w T) l t) = some (.inl (some (.int (nI (sp_vl ((w 3).2 8) s (T.1 - s))))), xem (xPw w T) l t) := by
  intro m
  induction m with
  | zero =>
    intro i hi
    rw [yb_280_7, xgP8, zbs, if_pos (nI_le (by omega) (by omega)), yb_280_55, show i = T.1 - s by omega]
  | succ m ih =>
    intro i hi
    have hdj := hd (s + i) (by omega) (by omega)
    have hb : sp_b ((w 3).2 8) n (s + i) = (w 3).2 8 (s + i) := if_neg (by omega)
    unfold sp_dig at hdj
    rw [hb] at hdj
    obtain ⟨b, hb58, eb⟩ := zrg (m := 58) (by omega) ⟨Int32.le_trans (by decide) hdj.1, show (w 3).2 8 (s + i) ≤ nI 58 - 1 from hdj.2⟩
    have hb48 : 48 ≤ b := by
      have := hdj.1
      rw [eb] at this
      exact Decidable.byContradiction fun z => nI_ge (a := b) (b := 48) (by omega) (by omega) this
    have ev : sp_vl ((w 3).2 8) s (i + 1) = min (10 * sp_vl ((w 3).2 8) s i + b - 48) 2000000000 := by
      show min (10 * sp_vl ((w 3).2 8) s i + ((w 3).2 8 (s + i)).toNatClampNeg - 48) 2000000000 = _
      rw [eb, nI_clamp (by omega)]
    have hst := @rd_step (sp_vl ((w 3).2 8) s i) b (sp_vl_le i) hb48 (by omega)
    rw [yb_280_7, xgP8, zbs, if_neg (nI_ge (a := s + i) (b := T.1) (by omega) (by omega)), xgPa, zbs, if_pos h2, xgM_14, zbs, xaP8 (by omega), zbs, eb, hst, zS, ← ev, Nat.add_assoc]
    exact ih (i + 1) (by omega)
theorem zc_280 (h8 : n ≤ 800) (hT : sp_tw ((w 3).2 8) n T) : xm_C sc xt_M (d + 1) 280 [.ref 191] (xem (xPw w T) l t) = some (.inl (some (.int (sp_val ((w 3).2 8) T))), xem (xPw w T) l t) := by
  obtain ⟨hp, s, hs, hsp, hd, _⟩ := hT
  have es : T.2.1.toNatClampNeg = s := by rw [hs, nI_clamp (by omega)]
  unfold sp_val
  rw [es, yc_280, xgP9, zbs, hs]
  by_cases h2 : T.2.2.1 = 2
  · rw [if_pos h2]
    exact @z280 w l t sc d n T s hs h2 hsp hp h8 (hd h2) (T.1 - s) 0 (by omega)
  · rw [if_neg h2, yb_280_7, xgP8, zbs]
    by_cases h3 : nI T.1 ≤ nI s
    · rw [if_pos h3, yb_280_55]
    · rw [if_neg h3, xgPa, zbs, if_neg h2, yb_280_55]
end RW
