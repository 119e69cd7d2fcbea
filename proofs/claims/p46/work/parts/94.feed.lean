/-! feeding bytes -/
/-- the word that holds byte i of what is fed -/
def sp_w (a b c e f : Int32) (i : Nat) : Int32 := if 4 ≤ i then (if 8 ≤ i then (if 12 ≤ i then (if 16 ≤ i then f else e) else c) else b) else a
def sp_fs (x : Int32) (i : Nat) : Int32 := x >>> (nI (24 - 8 * (i % 4)) &&& 31)
def sp_fd (n : Nat) (g : Nat → Int32) (f : Nat → Int32) (j : Nat) : Int32 := if n ≤ j ∧ j < n + 20 then g (j - n) else f j
theorem fd_sh : ∀ i, i < 20 → 24 - 8 * (nI i - nI i / 4 * 4) = nI (24 - 8 * (i % 4)) := by decide +kernel
theorem fd_le {b i : Nat} (hb : b < 2 ^ 31) (hi : i < 2 ^ 31) : (nI b ≤ nI i) = (b ≤ i) := propext ⟨fun h => Decidable.byContradiction fun z => nI_ge (a := i) (b := b) (by omega) (by omega) h, fun h => nI_le h (by omega)⟩
theorem fd_4 {i : Nat} (h : i < 100) : ((4 : Int32) ≤ nI i) = (4 ≤ i) := fd_le (b := 4) (by omega) (by omega)
theorem fd_8 {i : Nat} (h : i < 100) : ((8 : Int32) ≤ nI i) = (8 ≤ i) := fd_le (b := 8) (by omega) (by omega)
theorem fd_12 {i : Nat} (h : i < 100) : ((12 : Int32) ≤ nI i) = (12 ≤ i) := fd_le (b := 12) (by omega) (by omega)
theorem fd_16 {i : Nat} (h : i < 100) : ((16 : Int32) ≤ nI i) = (16 ≤ i) := fd_le (b := 16) (by omega) (by omega)
theorem fd_20 {i : Nat} (h : i < 100) : ((20 : Int32) ≤ nI i) = (20 ≤ i) := fd_le (b := 20) (by omega) (by omega)
theorem kby_and {y : Int32} : kby (y &&& 255) = kby y := by
  unfold kby
  rw [Int32.toInt8_and, show Int32.toInt8 255 = -1 from by decide, Int8.and_neg_one]
def xBg (s : xG) (u : xFt) : xG := (upd s.1 6 (nI u.1), fun a => if a = 8 then u.2 else s.2 a)
def xBw (w : xW) (u : xFt) : xW := xu w 3 (xBg (w 3) u)
def kBg (s : xG) (u : xFt) : xG := (upd s.1 0 (nI u.1), fun a => if a = 0 then u.2 else s.2 a)
def kBw (w : xW) (u : xFt) : xW := xu w 0 (kBg (w 0) u)
section FB
variable {w : xW} {u u' : xFt}
theorem xBw_c : (xBw w u 3).1 6 = nI u.1 := by
  unfold xBw
  rw [xu_same]
  rfl
theorem xBw_f : (xBw w u 3).2 8 = u.2 := by
  unfold xBw
  rw [xu_same]
  rfl
theorem kBw_c : (kBw w u 0).1 0 = nI u.1 := by
  unfold kBw
  rw [xu_same]
  rfl
theorem kBw_f : (kBw w u 0).2 0 = u.2 := by
  unfold kBw
  rw [xu_same]
  rfl
theorem xBw_w : xu (xBw w u) 3 (xs1 (xs2 (xBw w u 3) 8 u'.2) 6 (nI u'.1)) = xBw w u' := by
  unfold xBw
  rw [xu_xu, xu_same]
  congr 1
  refine Prod.ext (funext fun i => ?_) (funext fun a => ?_)
  · show (if i = 6 then nI u'.1 else if i = 6 then nI u.1 else (w 3).1 i) = if i = 6 then nI u'.1 else (w 3).1 i
    split <;> rfl
  · show (if a = 8 then u'.2 else if a = 8 then u.2 else (w 3).2 a) = if a = 8 then u'.2 else (w 3).2 a
    split <;> rfl
theorem kBw_w : xu (kBw w u) 0 (xs1 (xs2 (kBw w u 0) 0 u'.2) 0 (nI u'.1)) = kBw w u' := by
  unfold kBw
  rw [xu_xu, xu_same]
  congr 1
  refine Prod.ext (funext fun i => ?_) (funext fun a => ?_)
  · show (if i = 0 then nI u'.1 else if i = 0 then nI u.1 else (w 0).1 i) = if i = 0 then nI u'.1 else (w 0).1 i
    split <;> rfl
  · show (if a = 0 then u'.2 else if a = 0 then u.2 else (w 0).2 a) = if a = 0 then u'.2 else (w 0).2 a
    split <;> rfl
theorem xBw_self {n : Nat} (h : (w 3).1 6 = nI n) : xBw w (n, (w 3).2 8) = w := by
  unfold xBw
  have e : xBg (w 3) (n, (w 3).2 8) = w 3 := by
    refine Prod.ext (funext fun i => ?_) (funext fun a => ?_)
    · show (if i = 6 then nI n else (w 3).1 i) = (w 3).1 i
      split
      · next e => rw [e, h]
      · rfl
    · show (if a = 8 then (w 3).2 8 else (w 3).2 a) = (w 3).2 a
      split
      · next e => rw [e]
      · rfl
  rw [e]
  exact xu_self
theorem kBw_self {n : Nat} (h : (w 0).1 0 = nI n) : kBw w (n, (w 0).2 0) = w := by
  unfold kBw
  have e : kBg (w 0) (n, (w 0).2 0) = w 0 := by
    refine Prod.ext (funext fun i => ?_) (funext fun a => ?_)
    · show (if i = 0 then nI n else (w 0).1 i) = (w 0).1 i
      split
      · next e => rw [e, h]
      · rfl
    · show (if a = 0 then (w 0).2 0 else (w 0).2 a) = (w 0).2 a
      split
      · next e => rw [e]
      · rfl
  rw [e]
  exact xu_self
end FB
theorem fd_step {n i : Nat} {g f : Nat → Int32} (F : Nat → Int32) (h : ∀ j, F j = if n ≤ j ∧ j < n + i then g (j - n) else f j) : ∀ j, upd F (n + i) (g i) j = if n ≤ j ∧ j < n + (i + 1) then g (j - n) else f j := by
  intro j
  by_cases e : j = n + i
  · subst e
    rw [zu1, if_pos (by omega), show n + i - n = i by omega]
  · rw [zun e, h j]
    by_cases c : n ≤ j ∧ j < n + i
    · rw [if_pos c, if_pos (by omega)]
    · rw [if_neg c, if_neg (by omega)]
theorem z4f : ((4 : Int32) = 0) = False := eq_false (by decide)
section FS
variable {w : xW} {l : Nat → Nat → Int64} {t : Nat} {sc : xm_Sc} {d : Nat}
theorem xwK {u : xFt} {x : Int32} (hu : u.1 < 800) : xm_wI (xem (kBw w u) l t) 20 1 (nI u.1) x = some (xem (xu (kBw w u) 0 (xs2 (kBw w u 0) 0 (upd u.2 u.1 x))) l t) := by rw [xwA_B, if_pos (xin hu (by decide)), nI_clamp (by omega), kBw_f]
theorem xgK {u : xFt} : xm_gI (xem (kBw w u) l t) 0 7 1 = some (nI u.1) := by rw [xgA_1, kBw_c]
theorem xgK2 {u : xFt} {f : Nat → Int32} : xm_gI (xem (xu (kBw w u) 0 (xs2 (kBw w u 0) 0 f)) l t) 0 7 1 = some (nI u.1) := by rw [xgA_1, xu_same, xs2_1, kBw_c]
theorem xsK {u : xFt} {f : Nat → Int32} : xm_sF (xem (xu (kBw w u) 0 (xs2 (kBw w u 0) 0 f)) l t) 0 7 1 (.int (nI (u.1 + 1))) = some (xem (kBw w (u.1 + 1, f)) l t) := by
  rw [xsA_1, xu_same, xu_xu]
  exact congrArg (fun a => some (xem a l t)) (@kBw_w w u (u.1 + 1, f))
theorem kc_108 {x : Int32} {u : xFt} (hu : u.1 + 4 ≤ 800) : ∃ F, xm_C sc xt_M (d + 1) 108 [.ref 0, .int x] (xem (kBw w u) l t) = some (.inl none, xem (kBw w (u.1 + 4, F)) l t) ∧ ∀ j, F j = if u.1 ≤ j ∧ j < u.1 + 4 then kby (sp_fs x (j - u.1)) else u.2 j := by
  obtain ⟨n, f⟩ := u
  dsimp only at hu ⊢
  obtain ⟨F, i1, i2⟩ := xlpE (fun k (F : Nat → Int32) => xm_R sc xt_M d 108 3 [.ref 0, .int x, .int (24 - 8 * nI k)] [] (xem (kBw w (n + k, F)) l t)) (fun k F => ∀ j, F j = if n ≤ j ∧ j < n + k then kby (sp_fs x (j - n)) else f j) 4 (by
    intro k F hk hI
    refine ⟨upd F (n + k) (kby (sp_fs x k)), @fd_step n k (fun i => kby (sp_fs x i)) f F hI, ?_⟩
    have hnk : n + k < 800 := by omega
    have w8 := fun x => @xwK w l t (n + k, F) x hnk
    have g15 := @xgK w l t (n + k, F)
    have g152 := fun x => @xgK2 w l t (n + k, F) x
    have s15 := fun x => @xsK w l t (n + k, F) x
    have en : n + (k + 1) = n + k + 1 := by omega
    have q0 : (24 - 8 * nI k < 0) = False ∧ (24 - 8 * nI k) + -8 = 24 - 8 * nI (k + 1) ∧ (24 - 8 * nI k) = nI (24 - 8 * (k % 4)) := by
      match k, hk with
      | 0, _ | 1, _ | 2, _ | 3, _ => exact ⟨eq_false (by decide), by decide, by decide⟩
      | _ + 4, h => omega
    obtain ⟨q1, q2, q3⟩ := q0
    have g8 : ¬ (800 : Int32) ≤ nI (n + k) := fun z => nI_ge (a := n + k) (b := 800) hnk (by omega) z
    dsimp only at w8 g15 g152 s15 ⊢
    rw [yb_108_3, en]
    unfold sp_fs kby
    rw [← q3]
    simp (disch := first | omega | assumption | exact xpi_lt) only [↓zbE, zbd_some, ↓xk_I, ↓xk_v, zB_0, zB_1, ite_not, ↓reduceIte, zS, zSa_0, zSa_1, zSa_2, zSa_3, zSa_4, zSa_5, zSa_6, zSa_7, zSa_8, zSa_9, zPa_0, zPa_1, zPa_2, zPa_3, zPa_4, xgS_0, xgS_1, xgS_2, xgS_3, xgS_4, xgS_5, xgS_6, xgS_7, xgS_8, xgS_9, xgS_10, xgS_11, xgQ_0, xgQ_1, xgQ_2, xgQ_3, xgQ_4, xgP_0, xgP_1, xgP_2, xgP_3, xgP_4, xgP_5, xgP_6, xgP_7, xgY_0, xiS, xiQ, xiY, xiP, q1, q2, g15, g8, xgA_0, w8, g152, s15, yb_108_40]) f (fun j => by rw [if_neg (by omega)])
  refine ⟨F, ?_, i1⟩
  refine Eq.trans ?_ (i2.trans ?_)
  · rw [yc_108]
    rfl
  · rw [yb_108_3, if_pos (show (24 - 8 * nI 4 : Int32) < 0 by decide)]
theorem kd_107_1 {a b c e f : Int32} {n : Nat} (hn : n ≤ 800) (h20 : ¬ n + 20 ≤ 800) (hc : (w 0).1 0 = nI n) : xm_C sc xt_M (d + 2) 107 [.ref 0, .int a, .int b, .int c, .int e, .int f] (xem w l t) = some (.inl (some (.int (-1))), xem w l t) := by
  have g : ¬ nI (n + 20) ≤ 800 := nI_ge (a := 800) (b := n + 20) (by omega) (by omega)
  have e20 : nI n + 20 = nI (n + 20) := zA (a := n) (b := 20)
  rw [yc_107]
  simp (disch := first | omega | assumption | exact xpi_lt) only [↓zbE, zbd_some, ↓xk_I, ↓xk_v, zB_0, zB_1, ite_not, ↓reduceIte, zS, zSa_0, zSa_1, zSa_2, zSa_3, zSa_4, zSa_5, zSa_6, zSa_7, zSa_8, zSa_9, zPa_0, zPa_1, zPa_2, zPa_3, zPa_4, xgS_0, xgS_1, xgS_2, xgS_3, xgS_4, xgS_5, xgS_6, xgS_7, xgS_8, xgS_9, xgS_10, xgS_11, xgQ_0, xgQ_1, xgQ_2, xgQ_3, xgQ_4, xgP_0, xgP_1, xgP_2, xgP_3, xgP_4, xgP_5, xgP_6, xgP_7, xgY_0, xiS, xiQ, xiY, xiP, xgA_1, hc, e20, eq_false g]
theorem kd_107 {a b c e f : Int32} {n : Nat} (h20 : n + 20 ≤ 800) (hc : (w 0).1 0 = nI n) : ∃ F, xm_C sc xt_M (d + 2) 107 [.ref 0, .int a, .int b, .int c, .int e, .int f] (xem w l t) = some (.inl (some (.int (nI (n + 20)))), xem (kBw w (n + 20, F)) l t) ∧ ∀ j, F j = sp_fd n (fun i => kby (sp_fs (sp_w a b c e f i) i)) ((w 0).2 0) j := by
  have g : nI (n + 20) ≤ 800 := nI_le (b := 800) (by omega) (by omega)
  have e20 : nI n + 20 = nI (n + 20) := zA (a := n) (b := 20)
  obtain ⟨F1, c1, f1⟩ := @kc_108 w l t sc d a (n, (w 0).2 0) (by show n + 4 ≤ 800; omega)
  obtain ⟨F2, c2, f2⟩ := @kc_108 w l t sc d b (n + 4, F1) (by show n + 4 + 4 ≤ 800; omega)
  obtain ⟨F3, c3, f3⟩ := @kc_108 w l t sc d c (n + 4 + 4, F2) (by show n + 4 + 4 + 4 ≤ 800; omega)
  obtain ⟨F4, c4, f4⟩ := @kc_108 w l t sc d e (n + 4 + 4 + 4, F3) (by show n + 4 + 4 + 4 + 4 ≤ 800; omega)
  obtain ⟨F5, c5, f5⟩ := @kc_108 w l t sc d f (n + 4 + 4 + 4 + 4, F4) (by show n + 4 + 4 + 4 + 4 + 4 ≤ 800; omega)
  rw [kBw_self hc] at c1
  dsimp only at c1 c2 c3 c4 c5 f1 f2 f3 f4 f5
  have q := @xgK w l t (n + 4 + 4 + 4 + 4 + 4, F5)
  dsimp only at q
  have en : n + 4 + 4 + 4 + 4 + 4 = n + 20 := by omega
  refine ⟨F5, ?_, fun j => ?_⟩
  · rw [yc_107]
    rw [← en] at g e20 ⊢
    simp (disch := first | omega | assumption | exact xpi_lt) only [↓zbE, zbd_some, ↓xk_I, ↓xk_v, zB_0, zB_1, ite_not, ↓reduceIte, zS, zSa_0, zSa_1, zSa_2, zSa_3, zSa_4, zSa_5, zSa_6, zSa_7, zSa_8, zSa_9, zPa_0, zPa_1, zPa_2, zPa_3, zPa_4, xgS_0, xgS_1, xgS_2, xgS_3, xgS_4, xgS_5, xgS_6, xgS_7, xgS_8, xgS_9, xgS_10, xgS_11, xgQ_0, xgQ_1, xgQ_2, xgQ_3, xgQ_4, xgP_0, xgP_1, xgP_2, xgP_3, xgP_4, xgP_5, xgP_6, xgP_7, xgY_0, xiS, xiQ, xiY, xiP, xiA, xgA_1, hc, e20, eq_true g, c1, c2, c3, c4, c5, q]
  · have s4 : ∀ x i k, 4 ∣ k → sp_fs x (i - (n + k)) = sp_fs x (i - n) ∨ ¬ n + k ≤ i := by
      intro x i k hk
      by_cases h : n + k ≤ i
      · refine Or.inl ?_
        unfold sp_fs
        rw [show (i - (n + k)) % 4 = (i - n) % 4 by omega]
      · exact Or.inr h
    unfold sp_fd sp_w
    rw [f5 j, f4 j, f3 j, f2 j, f1 j]
    by_cases h0 : n ≤ j ∧ j < n + 20
    · rw [if_pos h0]
      dsimp only
      by_cases h16 : n + 16 ≤ j
      · rw [if_pos (by omega), if_pos (by omega), if_pos (by omega), if_pos (by omega), if_pos (by omega)]
        rcases s4 f j 16 (by omega) with h | h
        · rw [← h]
        · omega
      rw [if_neg (by omega)]
      by_cases h12 : n + 12 ≤ j
      · rw [if_pos (by omega), if_pos (by omega), if_pos (by omega), if_pos (by omega), if_neg (by omega)]
        rcases s4 e j 12 (by omega) with h | h
        · rw [← h]
        · omega
      rw [if_neg (by omega)]
      by_cases h8 : n + 8 ≤ j
      · rw [if_pos (by omega), if_pos (by omega), if_pos (by omega), if_neg (by omega)]
        rcases s4 c j 8 (by omega) with h | h
        · rw [← h]
        · omega
      rw [if_neg (by omega)]
      by_cases h4 : n + 4 ≤ j
      · rw [if_pos (by omega), if_pos (by omega), if_neg (by omega)]
        rcases s4 b j 4 (by omega) with h | h
        · rw [← h]
        · omega
      rw [if_neg (by omega), if_pos (by omega), if_neg (by omega)]
    · rw [if_neg h0, if_neg (by omega), if_neg (by omega), if_neg (by omega), if_neg (by omega), if_neg (by omega)]
end FS
