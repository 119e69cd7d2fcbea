/-! THE CLASS: the legs are measured -/
theorem xlpE {α : Type} (R : Nat → α → Option xm_O) (I : Nat → α → Prop) (n : Nat) (hs : ∀ i a, i < n → I i a → ∃ a', I (i + 1) a' ∧ R i a = R (i + 1) a') : ∀ a, I 0 a → ∃ a', I n a' ∧ R 0 a = R n a' := by
  have h : ∀ i, i ≤ n → ∀ a, I 0 a → ∃ a', I i a' ∧ R 0 a = R i a' := by
    intro i
    induction i with
    | zero => intro _ a ha; exact ⟨a, ha, rfl⟩
    | succ i ih =>
      intro hi a ha
      obtain ⟨a1, h1, h2⟩ := ih (by omega) a ha
      obtain ⟨a2, h3, h4⟩ := hs i a1 (by omega) h1
      exact ⟨a2, h3, h2.trans h4⟩
  exact h n (Nat.le_refl n)
theorem b_shl1 {n i : Nat} (hn : n < 31) (hi : i < 32) : (bt ((1 : Int32) <<< (nI n &&& 31)) i = true) = (i = n) := by
  rw [b_shl n (by omega) _ hi, Bool.and_eq_true, decide_eq_true_eq]
  refine propext ⟨fun ⟨h1, h2⟩ => ?_, fun h => ?_⟩
  · rw [b_1 _ (by omega)] at h2
    have := of_decide_eq_true h2
    omega
  · subst h
    refine ⟨Nat.le_refl _, ?_⟩
    rw [Nat.sub_self, b_1 0 (by omega)]
    rfl
theorem b_not {x : Int32} {i : Nat} (hi : i < 32) : bt (x ^^^ (-1)) i = !bt x i := by
  rw [b_xor, b_m1 i hi]
  cases bt x i <;> rfl
theorem b_zero {x : Int32} : (x = 0) = (∀ i, i < 32 → ¬ bt x i = true) := by
  refine propext ⟨fun h i _ => ?_, fun h => b_ext fun i hi => ?_⟩
  · rw [h, b_0]
    exact fun h => Bool.noConfusion h
  · rw [b_0]
    cases e : bt x i with
    | false => rfl
    | true => exact absurd e (h i hi)
def kMk (f : Nat → Int32) (a : Nat) (m x : Int32) (n : Nat) : Nat → Int32 := xfold (fun b g => if bt m b = true then upd g (6 * a + b) x else g) f n
theorem kMk_s {f : Nat → Int32} {a n : Nat} {m x : Int32} : kMk f a m x (n + 1) = if bt m n = true then upd (kMk f a m x n) (6 * a + n) x else kMk f a m x n := rfl
theorem kMk_at {f : Nat → Int32} {a : Nat} {m x : Int32} : ∀ n, n ≤ 6 → ∀ i, kMk f a m x n i = if 6 * a ≤ i ∧ i < 6 * a + n ∧ bt m (i - 6 * a) = true then x else f i := by
  intro n
  induction n with
  | zero => intro _ i; rw [if_neg (by omega)]; rfl
  | succ n ih =>
    intro hn i
    rw [kMk_s]
    by_cases h : i = 6 * a + n
    · have e : i - 6 * a = n := by omega
      by_cases hb : bt m n = true
      · rw [if_pos hb, h, zu1, if_pos ⟨by omega, by omega, by rw [← h, e]; exact hb⟩]
      · rw [if_neg hb, ih (by omega), if_neg (by omega), if_neg (fun z => hb (by rw [← e]; exact z.2.2))]
    · have g : (if bt m n = true then upd (kMk f a m x n) (6 * a + n) x else kMk f a m x n) i = kMk f a m x n i := by
        split
        · exact zun h
        · rfl
      rw [g, ih (by omega)]
      by_cases z : 6 * a ≤ i ∧ i < 6 * a + n ∧ bt m (i - 6 * a) = true
      · rw [if_pos z, if_pos ⟨z.1, by omega, z.2.2⟩]
      · rw [if_neg z, if_neg (fun y => z ⟨y.1, by omega, y.2.2⟩)]
/-- a sheet of legs somewhere in the world, a plan beside it -/
def kWy (W : (Nat → Int32) → xm_PS) (h h' p pm nb nv : Nat) (rm : Nat → Int32) : Prop := (∀ f, xm_gR (W f) h 6 0 = some h') ∧ (∀ f, xm_isO (W f) (.ref h) 6 = true) ∧ (∀ f n x, n < 36 → xm_wI (W f) h' 0 (nI n) x = some (W (upd f n x))) ∧
  (∀ f, xm_gI (W f) p 2 0 = some (nI nb)) ∧ (∀ f, xm_gI (W f) p 2 1 = some (nI nv)) ∧ (∀ f, xm_gR (W f) p 2 5 = some pm) ∧ ∀ f v, v < nv → xm_aI (W f) pm 0 (nI v) = some (rm v)
section WY
variable {W : (Nat → Int32) → xm_PS} {h h' p pm : Nat} {rm : Nat → Int32} {sc : xm_Sc} {d : Nat} {r : Nat → Int32}
theorem kc_103 {nb nv a : Nat} {f : Nat → Int32} {m x : Int32} (hw : kWy W h h' p pm nb nv rm) (ha : a < 6) : xm_C sc xt_M (d + 1) 103 [.ref h, .int (nI a), .int m, .int x] (W f) = some (.inl none, W (kMk f a m x 6)) := by
  obtain ⟨w1, w2, w3, _⟩ := hw
  rw [yc_103]
  refine xlp (fun b => xm_R sc xt_M d 103 3 [.ref h, .int (nI a), .int m, .int x, .int (nI b)] [] (W (kMk f a m x b))) 6 ?_ ?_
  · intro b hb
    rw [yb_103_3, if_neg (show ¬ (6 : Int32) ≤ nI b from nI_ge (b := 6) hb (by omega)), kMk_s]
    by_cases e : bt m b = true
    · rw [if_pos e]
      simp (disch := first | omega | assumption) only [↓zbE, zbd_some, ↓xk_I, ↓xk_v, zB_0, zB_1, ite_not, ↓reduceIte, zS, w1, w3, kM6, kb1, eq_true e, yb_103_33]
    · rw [if_neg e]
      simp (disch := first | omega | assumption) only [↓zbE, zbd_some, ↓xk_I, ↓xk_v, zB_0, zB_1, ite_not, ↓reduceIte, zS, kb1, eq_false e, yb_103_33]
  · rw [yb_103_3, if_pos (show (6 : Int32) ≤ nI 6 from nI_le (Nat.le_refl _) (by omega))]
theorem kc_102 {a : Nat} {f0 : Nat → Int32} {om : Int32} (hB : xBd r) (hw : kWy W h h' p pm (xnb r) (xnv r) rm) (ha : a < xnb r) (ho : r (6 + a) = 1) (hom : ∀ i, i < 32 → bt om i = decide (i < xnb r ∧ r (6 + i) = 1))
    (hrm : ∀ v, v < xnv r → ∀ i, i < 32 → bt (rm v) i = decide (i < 6 ∧ sp_has r v (nI i) = true)) (hf : ∀ b, b < 6 → f0 (6 * a + b) = -1) :
    ∃ f : Nat → Int32, xm_C sc xt_M (d + 2) 102 [.ref h, .int (nI a), .ref p, .int om] (W f0) = some (.inl none, W f) ∧ (∀ b, b < 6 → f (6 * a + b) = kD r a b) ∧ ∀ i, i < 6 * a ∨ 6 * a + 6 ≤ i → f i = f0 i := by
  have hb6 := hB.b6
  have hv4 := hB.v4
  obtain ⟨w1, w2, w3, w4, w5, w6, w7⟩ := id hw
  have oa : kO r a := ⟨ha, ho⟩
  have lt6 : ∀ t b, kRt r a t b → b < 6 := fun t b hb => by
    obtain ⟨n, _, hn⟩ := hb
    have := (kWk_o hn).2.1
    omega
  -- what a van links among open branches
  have hlk : ∀ v, v < xnv r → ∀ i, i < 32 → (bt (rm v &&& om) i = true ↔ kO r i ∧ sp_has r v (nI i) = true) := by
    intro v hv i hi
    rw [b_and, hrm v hv i hi, hom i hi, Bool.and_eq_true, decide_eq_true_eq, decide_eq_true_eq]
    exact ⟨fun z => ⟨z.2, z.1.2⟩, fun z => ⟨⟨by have := z.1.1; omega, z.2⟩, z.1⟩⟩
  have van : ∀ t, t < 4 → ∀ (m4 : Int32) (f : Nat → Int32), (∀ b, b < 32 → (bt m4 b = true ↔ kRt r a t b)) → ∀ j8 : Value, ∃ (m6 : Int32) (j : Value), (∀ b, b < 32 → (bt m6 b = true ↔ kRt r a (t + 1) b)) ∧
      xm_R sc xt_M (d + 1) 102 29 [.ref h, .int (nI a), .ref p, .int om, .int m4, .int (nI (t + 1)), .int m4, .int (nI 0), j8] [] (W f) = xm_R sc xt_M (d + 1) 102 29 [.ref h, .int (nI a), .ref p, .int om, .int m4, .int (nI (t + 1)), .int m6, .int (nI (xnv r)), j] [] (W f) := by
    intro t ht m4 f hm4 j8
    obtain ⟨⟨m6, j⟩, i1, i2⟩ := xlpE (fun v (u : Int32 × Value) => xm_R sc xt_M (d + 1) 102 29 [.ref h, .int (nI a), .ref p, .int om, .int m4, .int (nI (t + 1)), .int u.1, .int (nI v), u.2] [] (W f)) (fun v u => ∀ b, b < 32 → (bt u.1 b = true ↔ kRt r a t b ∨ (kO r b ∧ ∃ v', v' < v ∧ kTv r a t v' ∧ sp_has r v' (nI b) = true))) (xnv r) (by
      intro v u hv hI
      have hl := hlk v hv
      have touch : ((rm v &&& om) &&& m4 = 0) = ¬ kTv r a t v := by
        rw [b_zero]
        refine propext ⟨fun z ⟨c, c1, c2⟩ => ?_, fun z i hi g => ?_⟩
        · have c6 := lt6 t c c1
          refine z c (by omega) ?_
          rw [b_and, Bool.and_eq_true]
          obtain ⟨n, _, hn⟩ := id c1
          exact ⟨(hl c (by omega)).mpr ⟨(kWk_o hn).2, c2⟩, (hm4 c (by omega)).mpr c1⟩
        · rw [b_and, Bool.and_eq_true] at g
          exact z ⟨i, (hm4 i hi).mp g.2, ((hl i hi).mp g.1).2⟩
      have w7' := w7 f v hv
      have w5' := w5 f
      have w6' := w6 f
      by_cases ht2 : kTv r a t v
      · refine ⟨(u.1 ||| (rm v &&& om), .int (rm v &&& om)), fun b hb => ?_, ?_⟩
        · show bt (u.1 ||| (rm v &&& om)) b = true ↔ _
          rw [b_or, Bool.or_eq_true, hI b hb, hl b hb]
          constructor
          · rintro ((z | ⟨z, v', y1, y2⟩) | ⟨z1, z2⟩)
            · exact Or.inl z
            · exact Or.inr ⟨z, v', by omega, y2⟩
            · exact Or.inr ⟨z1, v, by omega, ht2, z2⟩
          · rintro (z | ⟨z, v', y1, y2⟩)
            · exact Or.inl (Or.inl z)
            · by_cases e : v' = v
              · subst e
                exact Or.inr ⟨z, y2.2⟩
              · exact Or.inl (Or.inr ⟨z, v', by omega, y2⟩)
        · rw [yb_102_29]
          simp (disch := first | omega | assumption) only [↓zbE, zbd_some, ↓xk_I, ↓xk_v, zB_0, zB_1, ite_not, ↓reduceIte, zS, w5', w6', w7', nI_ge, touch, eq_true ht2, not_true_eq_false, yb_102_64]
      · refine ⟨(u.1, .int (rm v &&& om)), fun b hb => ?_, ?_⟩
        · show bt u.1 b = true ↔ _
          rw [hI b hb]
          constructor
          · rintro (z | ⟨z, v', y1, y2⟩)
            · exact Or.inl z
            · exact Or.inr ⟨z, v', by omega, y2⟩
          · rintro (z | ⟨z, v', y1, y2⟩)
            · exact Or.inl z
            · by_cases e : v' = v
              · subst e
                exact absurd y2.1 ht2
              · exact Or.inr ⟨z, v', by omega, y2⟩
        · rw [yb_102_29]
          simp (disch := first | omega | assumption) only [↓zbE, zbd_some, ↓xk_I, ↓xk_v, zB_0, zB_1, ite_not, ↓reduceIte, zS, w5', w6', w7', nI_ge, touch, eq_false ht2, not_false_eq_true, yb_102_64]) (m4, j8) (fun b hb => by
      rw [hm4 b hb]
      exact ⟨Or.inl, fun z => z.elim id (fun ⟨_, v', y, _⟩ => absurd y (Nat.not_lt_zero _))⟩)
    refine ⟨m6, j, fun b hb => ?_, i2⟩
    rw [i1 b hb, kRt_s]
  obtain ⟨⟨m4, f, j6, j7, j8⟩, i1, i2⟩ := xlpE (fun t (u : Int32 × (Nat → Int32) × Value × Value × Value) => xm_R sc xt_M (d + 1) 102 16 [.ref h, .int (nI a), .ref p, .int om, .int u.1, .int (nI (t + 1)), u.2.2.1, u.2.2.2.1, u.2.2.2.2] [] (W u.2.1)) (fun t u => (∀ b, b < 32 → (bt u.1 b = true ↔ kRt r a t b)) ∧ (∀ b, b < 6 → (kRt r a t b → u.2.1 (6 * a + b) = kD r a b) ∧ (¬ kRt r a t b → u.2.1 (6 * a + b) = -1)) ∧ ∀ i, i < 6 * a ∨ 6 * a + 6 ≤ i → u.2.1 i = f0 i) 4 (by
    intro t u ht hI
    obtain ⟨m4, f, j6, j7, j8⟩ := u
    obtain ⟨g1, g2, g3⟩ := hI
    dsimp only at g1 g2 g3
    obtain ⟨m6, j, h1, h2⟩ := van t ht m4 f g1 j8
    have hmb : ∀ b, b < 32 → (bt (m6 &&& (m4 ^^^ (-1))) b = true ↔ kRt r a (t + 1) b ∧ ¬ kRt r a t b) := by
      intro b hb
      rw [b_and, Bool.and_eq_true, b_not hb, h1 b hb]
      refine and_congr_right (fun _ => ?_)
      rw [Bool.not_eq_true', ← Bool.not_eq_true, g1 b hb]
    refine ⟨(m6, kMk f a (m6 &&& (m4 ^^^ (-1))) (nI (t + 1)) 6, .int m6, .int (nI (xnv r)), j), ⟨h1, fun b hb => ?_, fun i hi => ?_⟩, ?_⟩
    · dsimp only
      rw [kMk_at 6 (by omega), show 6 * a + b - 6 * a = b by omega]
      have hm := hmb b (by omega)
      refine ⟨fun z => ?_, fun z => ?_⟩
      · by_cases y : kRt r a t b
        · rw [if_neg (fun x => (hm.mp x.2.2).2 y)]
          exact (g2 b hb).1 y
        · rw [if_pos ⟨by omega, by omega, hm.mpr ⟨z, y⟩⟩]
          obtain ⟨n, n1, n2⟩ := z
          have hbn := (kWk_o n2).2.1
          have hn : n = t + 1 := Classical.byContradiction fun c => y ⟨n, by omega, n2⟩
          subst hn
          rcases kD_s hB ha hbn with ⟨_, c⟩ | ⟨m, c1, c2, c3, c4⟩
          · exact absurd n2 (c _)
          · have := c4 _ n2
            have e : m = t + 1 := Classical.byContradiction fun c => y ⟨m, by omega, c3⟩
            rw [c2, e]
      · rw [if_neg (fun x => z (hm.mp x.2.2).1)]
        refine (g2 b hb).2 (fun y => z ?_)
        obtain ⟨n, n1, n2⟩ := y
        exact ⟨n, by omega, n2⟩
    · dsimp only
      rw [kMk_at 6 (by omega), if_neg (by omega)]
      exact g3 i hi
    · dsimp only
      rw [yb_102_16, if_neg (show ¬ (4 : Int32) < nI (t + 1) from nI_nlt (a := 4) (by omega) (by omega))]
      refine h2.trans ?_
      have w5' := w5 f
      have c103 := @kc_103 W h h' p pm rm sc d (xnb r) (xnv r) a f (m6 &&& (m4 ^^^ (-1))) (nI (t + 1)) hw (by omega)
      rw [yb_102_29]
      simp (disch := first | omega | assumption) only [↓zbE, zbd_some, ↓xk_I, ↓xk_v, zB_0, zB_1, ite_not, ↓reduceIte, zS, w5', nI_le, c103, w2]) ((1 : Int32) <<< (nI a &&& 31), kMk f0 a ((1 : Int32) <<< (nI a &&& 31)) 0 6, .null, .null, .null) (by
    refine ⟨fun b hb => ?_, fun b hb => ?_, fun i hi => ?_⟩
    · dsimp only
      rw [b_shl1 (by omega) hb]
      refine ⟨fun e => ⟨0, by omega, e.symm, oa⟩, fun ⟨n, n1, n2⟩ => ?_⟩
      have : n = 0 := by omega
      subst this
      exact n2.1.symm
    · dsimp only
      rw [kMk_at 6 (by omega), show 6 * a + b - 6 * a = b by omega]
      have hbt : bt ((1 : Int32) <<< (nI a &&& 31)) b = true ↔ b = a := by rw [b_shl1 (by omega) (by omega)]
      refine ⟨fun ⟨n, n1, n2⟩ => ?_, fun z => ?_⟩
      · have : n = 0 := by omega
        subst this
        have e := n2.1
        subst e
        rw [if_pos ⟨by omega, by omega, hbt.mpr rfl⟩]
        rcases kD_s hB ha ha with ⟨_, c⟩ | ⟨m, c1, c2, c3, c4⟩
        · exact absurd n2 (c _)
        · have := c4 _ n2
          rw [c2, show m = 0 by omega]
          rfl
      · rw [if_neg (fun y => z ⟨0, by omega, (hbt.mp y.2.2).symm, oa⟩)]
        exact hf b hb
    · dsimp only
      rw [kMk_at 6 (by omega), if_neg (by omega)])
  refine ⟨f, ?_, fun b hb => ?_, i1.2.2⟩
  · have c103 := @kc_103 W h h' p pm rm sc d (xnb r) (xnv r) a f0 ((1 : Int32) <<< (nI a &&& 31)) 0 hw (by omega)
    rw [yc_102]
    refine Eq.trans ?_ (i2.trans ?_)
    · simp (disch := first | omega | assumption) only [↓zbE, zbd_some, ↓xk_I, ↓xk_v, zB_0, zB_1, ite_not, ↓reduceIte, zS, w2, c103]
      rfl
    · dsimp only
      rw [yb_102_16, if_pos (show (4 : Int32) < nI (4 + 1) from nI_lt (a := 4) (by omega) (by omega))]
  · obtain ⟨g1, g2⟩ := i1.2.1 b hb
    dsimp only at g1 g2
    by_cases hbn : b < xnb r
    · rcases kD_s hB ha hbn with ⟨c1, c⟩ | ⟨m, c1, c2, c3, c4⟩
      · rw [c1]
        exact g2 (fun ⟨n, _, n2⟩ => c n n2)
      · exact g1 ⟨m, c1, c3⟩
    · rw [kD_out hb6 (by omega) hb (fun z => hbn z.2)]
      refine g2 (fun ⟨n, _, n2⟩ => hbn (kWk_o n2).2.1)
theorem kc_101 {f0 : Nat → Int32} {om : Int32} (hB : xBd r) (hw : kWy W h h' p pm (xnb r) (xnv r) rm) (hom : ∀ i, i < 32 → bt om i = decide (i < xnb r ∧ r (6 + i) = 1))
    (hrm : ∀ v, v < xnv r → ∀ i, i < 32 → bt (rm v) i = decide (i < 6 ∧ sp_has r v (nI i) = true)) :
    ∃ f : Nat → Int32, xm_C sc xt_M (d + 3) 101 [.ref h, .ref p, .int om] (W f0) = some (.inl none, W f) ∧ ∀ a b, a < 6 → b < 6 → f (6 * a + b) = kD r a b := by
  have hb6 := hB.b6
  obtain ⟨w1, w2, w3, w4, w5, w6, w7⟩ := id hw
  have clr := xlp (fun i => xm_R sc xt_M (d + 2) 101 2 [.ref h, .ref p, .int om, .int (nI i)] [] (W (fun q => if q < i then -1 else f0 q))) (K := xm_R sc xt_M (d + 2) 101 23 [.ref h, .ref p, .int om, .int (nI 0)] [] (W (fun q => if q < 36 then -1 else f0 q))) 36 (by
    intro i hi
    have e : upd (fun q => if q < i then (-1 : Int32) else f0 q) i (-1) = fun q => if q < i + 1 then -1 else f0 q := by
      funext q
      unfold upd
      by_cases h : q = i
      · rw [if_pos h, if_pos (by omega)]
      · rw [if_neg h]
        dsimp only
        by_cases h2 : q < i
        · rw [if_pos h2, if_pos (by omega)]
        · rw [if_neg h2, if_neg (by omega)]
    rw [yb_101_2, if_neg (show ¬ (36 : Int32) ≤ nI i from nI_ge (b := 36) hi (by omega))]
    simp (disch := first | omega | assumption) only [↓zbE, zbd_some, ↓xk_I, ↓xk_v, zB_0, zB_1, ite_not, ↓reduceIte, zS, w1, w3, e]) (by
    rw [yb_101_2, if_pos (show (36 : Int32) ≤ nI 36 from nI_le (Nat.le_refl _) (by omega))]
    rfl)
  obtain ⟨f, i1, i2⟩ := xlpE (fun a (f : Nat → Int32) => xm_R sc xt_M (d + 2) 101 23 [.ref h, .ref p, .int om, .int (nI a)] [] (W f)) (fun a f => ∀ x b, x < 6 → b < 6 → f (6 * x + b) = if x < a then kD r x b else -1) (xnb r) (by
    intro a f ha hI
    have w4' := w4 f
    have e : (bt om a = true) = (r (6 + a) = 1) := by
      rw [hom a (by omega), decide_eq_true_eq]
      exact propext ⟨fun z => z.2, fun z => ⟨ha, z⟩⟩
    by_cases ho : r (6 + a) = 1
    · obtain ⟨f', g1, g2, g3⟩ := @kc_102 W h h' p pm rm sc d r a f om hB hw ha ho hom hrm (fun b hb => by rw [hI a b (by omega) hb, if_neg (by omega)])
      refine ⟨f', fun x b hx hb => ?_, ?_⟩
      · by_cases z : x = a
        · subst z
          rw [if_pos (by omega)]
          exact g2 b hb
        · rw [g3 _ (by omega), hI x b hx hb]
          by_cases y : x < a
          · rw [if_pos y, if_pos (by omega)]
          · rw [if_neg y, if_neg (by omega)]
      · rw [yb_101_23]
        simp (disch := first | omega | assumption) only [↓zbE, zbd_some, ↓xk_I, ↓xk_v, zB_0, zB_1, ite_not, ↓reduceIte, zS, w4', w2, nI_ge, kb1, e, eq_true ho, g1, yb_101_47]
    · refine ⟨f, fun x b hx hb => ?_, ?_⟩
      · rw [hI x b hx hb]
        by_cases z : x = a
        · subst z
          rw [if_neg (by omega), if_pos (by omega)]
          by_cases hbn : b < xnb r
          · rcases kD_s hB ha hbn with ⟨c1, c⟩ | ⟨m, c1, c2, c3, c4⟩
            · exact c1.symm
            · exact absurd (kWk_o c3).1.2 ho
          · exact (kD_out hb6 hx hb (fun z => hbn z.2)).symm
        · by_cases y : x < a
          · rw [if_pos y, if_pos (by omega)]
          · rw [if_neg y, if_neg (by omega)]
      · rw [yb_101_23]
        simp (disch := first | omega | assumption) only [↓zbE, zbd_some, ↓xk_I, ↓xk_v, zB_0, zB_1, ite_not, ↓reduceIte, zS, w4', nI_ge, kb1, e, eq_false ho, yb_101_47]) (fun q => if q < 36 then -1 else f0 q) (fun x b hx hb => by
    rw [if_neg (by omega)]
    exact if_pos (by omega))
  refine ⟨f, ?_, fun a b ha hb => ?_⟩
  · have w4' := w4 f
    rw [yc_101]
    have e0 : (fun q => if q < 0 then -1 else f0 q) = f0 := by
      funext q
      exact if_neg (by omega)
    rw [e0] at clr
    refine (clr.trans i2).trans ?_
    rw [yb_101_23]
    simp (disch := first | omega | assumption) only [↓zbE, zbd_some, ↓xk_I, ↓xk_v, zB_0, zB_1, ite_not, ↓reduceIte, zS, w4', nI_le]
  · rw [i1 a b ha hb]
    by_cases y : a < xnb r
    · rw [if_pos y]
    · rw [if_neg y]
      exact (kD_out hb6 ha hb (fun z => y z.1)).symm
end WY
