/-! THE CLASS: goals and ways -/
theorem kHome {r : Nat → Int32} (hW : xWF r) {q : Nat} (hq : q < xnk r) : ∃ h, h < xnb r ∧ r (58 + 6 * q) = nI h := ⟨_, (hW.k q hq).2.1.2, (hW.k q hq).2.1.1⟩
theorem kGoal {r : Nat → Int32} (hW : xWF r) {q : Nat} (hq : q < xnk r) : sp_goal r q = -1 ∨ ∃ g, g < xnb r ∧ sp_goal r q = nI g ∧ r (6 + g) = 1 := by
  rcases sp_goal_ib hW hq with h | ⟨h1, h2⟩
  · exact Or.inl h
  · exact Or.inr ⟨_, h1.2, h1.1, h2⟩
def kFar (f r : Nat → Int32) : Prop := ∀ a b, a < xnb r → b < xnb r → f (6 * a + b) = kD r a b
theorem kFar_s {r f : Nat → Int32} (hB : xBd r) : kFar (sp_far r f) r := fun _ _ ha hb => kfar_eq hB.b6 ha hb
/-- the least legs along a route -/
def kMin (r : Nat → Int32) (v g : Nat) (x : Option Nat) : Prop := match x with
  | none => ∀ i, i < xnb r → sp_has r v (nI i) = true → kD r i g = -1
  | some m => m ≤ 4 ∧ (∃ i, i < xnb r ∧ sp_has r v (nI i) = true ∧ kD r i g = nI m) ∧ ∀ i, i < xnb r → sp_has r v (nI i) = true → ∀ m', m' ≤ 4 → kD r i g = nI m' → m ≤ m'
def kFA (r : Nat → Int32) (v g : Nat) : Nat → Int32
  | 0 => 6
  | i + 1 => if sp_has r v (nI i) = true then (if kD r i g = -1 then kFA r v g i else if kFA r v g i ≤ kD r i g then kFA r v g i else kD r i g) else kFA r v g i
def kJ6 (x : Option Nat) : Int32 := match x with
  | none => 6
  | some m => nI m
theorem kFA_s {r : Nat → Int32} (hB : xBd r) {v g : Nat} (hg : g < xnb r) : ∃ x, kMin r v g x ∧ kFA r v g (xnb r) = kJ6 x := by
  have hb6 := hB.b6
  have h : ∀ n, n ≤ xnb r → ∃ x : Option Nat, kFA r v g n = kJ6 x ∧ match x with
    | none => ∀ i, i < n → sp_has r v (nI i) = true → kD r i g = -1
    | some m => m ≤ 4 ∧ (∃ i, i < n ∧ sp_has r v (nI i) = true ∧ kD r i g = nI m) ∧ ∀ i, i < n → sp_has r v (nI i) = true → ∀ m', m' ≤ 4 → kD r i g = nI m' → m ≤ m' := by
    intro n
    induction n with
    | zero => intro _; exact ⟨none, rfl, fun i hi => by omega⟩
    | succ n ih =>
      intro hn
      obtain ⟨x, e, hx⟩ := ih (by omega)
      unfold kFA
      rw [e]
      by_cases h1 : sp_has r v (nI n) = true
      · rw [if_pos h1]
        rcases kD_s hB (a := n) (b := g) (by omega) hg with ⟨h2, _⟩ | ⟨m, hm, h2, _⟩
        · rw [if_pos h2]
          refine ⟨x, rfl, ?_⟩
          cases x with
          | none =>
            intro i hi h3
            by_cases e : i = n
            · rw [e]; exact h2
            · exact hx i (by omega) h3
          | some p =>
            obtain ⟨p1, ⟨i, i1, i2, i3⟩, p2⟩ := hx
            refine ⟨p1, ⟨i, by omega, i2, i3⟩, fun i' hi' h3 m' hm' h4 => ?_⟩
            by_cases e : i' = n
            · rw [e, h2] at h4
              exact absurd h4.symm (toJ_ne (by omega))
            · exact p2 i' (by omega) h3 m' hm' h4
        · rw [if_neg (by rw [h2]; exact toJ_ne (by omega)), h2]
          cases x with
          | none =>
            rw [if_neg (show ¬ kJ6 none ≤ nI m from nI_ge (b := 6) (by omega) (by omega))]
            refine ⟨some m, rfl, hm, ⟨n, by omega, h1, h2⟩, fun i hi h3 m' hm' h4 => ?_⟩
            by_cases e : i = n
            · rw [e, h2] at h4
              have := nI_inj (by omega) (by omega) h4
              omega
            · rw [hx i (by omega) h3] at h4
              exact absurd h4.symm (toJ_ne (by omega))
          | some p =>
            obtain ⟨p1, ⟨i, i1, i2, i3⟩, p2⟩ := hx
            by_cases h5 : p ≤ m
            · rw [if_pos (show kJ6 (some p) ≤ nI m from nI_le h5 (by omega))]
              refine ⟨some p, rfl, p1, ⟨i, by omega, i2, i3⟩, fun i' hi' h3 m' hm' h4 => ?_⟩
              by_cases e : i' = n
              · rw [e, h2] at h4
                have := nI_inj (by omega) (by omega) h4
                omega
              · exact p2 i' (by omega) h3 m' hm' h4
            · rw [if_neg (show ¬ kJ6 (some p) ≤ nI m from nI_ge (by omega) (by omega))]
              refine ⟨some m, rfl, hm, ⟨n, by omega, h1, h2⟩, fun i' hi' h3 m' hm' h4 => ?_⟩
              by_cases e : i' = n
              · rw [e, h2] at h4
                have := nI_inj (by omega) (by omega) h4
                omega
              · have := p2 i' (by omega) h3 m' hm' h4
                omega
      · rw [if_neg h1]
        refine ⟨x, rfl, ?_⟩
        cases x with
        | none =>
          intro i hi h3
          by_cases e : i = n
          · rw [e] at h3
            exact absurd h3 h1
          · exact hx i (by omega) h3
        | some p =>
          obtain ⟨p1, ⟨i, i1, i2, i3⟩, p2⟩ := hx
          refine ⟨p1, ⟨i, by omega, i2, i3⟩, fun i' hi' h3 m' hm' h4 => ?_⟩
          by_cases e : i' = n
          · rw [e] at h3
            exact absurd h3 h1
          · exact p2 i' (by omega) h3 m' hm' h4
  obtain ⟨x, e, hx⟩ := h (xnb r) (Nat.le_refl _)
  exact ⟨x, hx, e⟩
theorem sp_has_iff {r : Nat → Int32} {v : Nat} {b : Int32} : sp_has r v b = true ↔ ∃ s, s < xst r v ∧ r (15 + 11 * v + s) = b := by
  unfold sp_has
  rw [xany_iff]
  constructor
  · rintro ⟨s, h1, h2⟩
    exact ⟨s, h1, of_decide_eq_true h2⟩
  · rintro ⟨s, h1, h2⟩
    exact ⟨s, h1, decide_eq_true h2⟩
theorem kRt_at {r : Nat → Int32} (hW : xWF r) {v s : Nat} (hv : v < xnv r) (hs : s < xst r v) : ∃ i, i < xnb r ∧ r (15 + 11 * v + s) = nI i := ⟨_, ((hW.v v hv).2.2.2.2 s hs).2, ((hW.v v hv).2.2.2.2 s hs).1⟩
theorem kxfx {f r : Nat → Int32} (hf : kFar f r) (hB : xBd r) {a b : Nat} (ha : a < xnb r) (hb : b < xnb r) : xfx f (nI a) (nI b) = kD r a b := by
  have := hB.b6
  unfold xfx
  rw [nI_clamp (by omega), nI_clamp (by omega)]
  exact hf a b ha hb
theorem kLeast {f r : Nat → Int32} (hW : xWF r) (hf : kFar f r) {v g : Nat} (hv : v < xnv r) (hg : g < xnb r) : ∃ x, kMin r v g x ∧ sp_least f r v (nI g) (xst r v) = toJ x := by
  have hB := hW.bd
  have hb6 := hB.b6
  have h : ∀ n, n ≤ xst r v → ∃ x : Option Nat, sp_least f r v (nI g) n = toJ x ∧ match x with
    | none => ∀ s, s < n → ∀ i, i < xnb r → r (15 + 11 * v + s) = nI i → kD r i g = -1
    | some m => m ≤ 4 ∧ (∃ s i, s < n ∧ i < xnb r ∧ r (15 + 11 * v + s) = nI i ∧ kD r i g = nI m) ∧ ∀ s, s < n → ∀ i, i < xnb r → r (15 + 11 * v + s) = nI i → ∀ m', m' ≤ 4 → kD r i g = nI m' → m ≤ m' := by
    intro n
    induction n with
    | zero => intro _; exact ⟨none, rfl, fun s hs => by omega⟩
    | succ n ih =>
      intro hn
      obtain ⟨x, e, hx⟩ := ih (by omega)
      obtain ⟨c, hc, ec⟩ := kRt_at hW hv (s := n) (by omega)
      have inj : ∀ i, i < xnb r → r (15 + 11 * v + n) = nI i → i = c := fun i hi h => (nI_inj (by omega) (by omega) (ec.symm.trans h)).symm
      unfold sp_least
      rw [e, ec, kxfx hf hB hc hg]
      rcases kD_s hB (a := c) (b := g) hc hg with ⟨h2, _⟩ | ⟨m, hm, h2, _⟩
      · rw [if_pos h2]
        refine ⟨x, rfl, ?_⟩
        cases x with
        | none =>
          intro s hs i hi h3
          by_cases e : s = n
          · subst e
            rw [inj i hi h3]
            exact h2
          · exact hx s (by omega) i hi h3
        | some p =>
          obtain ⟨p1, ⟨s, i, i0, i1, i2, i3⟩, p2⟩ := hx
          refine ⟨p1, ⟨s, i, by omega, i1, i2, i3⟩, fun s' hs' i' hi' h3 m' hm' h4 => ?_⟩
          by_cases e : s' = n
          · subst e
            rw [inj i' hi' h3, h2] at h4
            exact absurd h4.symm (toJ_ne (by omega))
          · exact p2 s' (by omega) i' hi' h3 m' hm' h4
      · rw [if_neg (by rw [h2]; exact toJ_ne (by omega)), h2]
        cases x with
        | none =>
          rw [if_pos (show toJ none = -1 from rfl)]
          refine ⟨some m, rfl, hm, ⟨n, c, by omega, hc, ec, h2⟩, fun s hs i hi h3 m' hm' h4 => ?_⟩
          by_cases e : s = n
          · subst e
            rw [inj i hi h3, h2] at h4
            have := nI_inj (by omega) (by omega) h4
            omega
          · rw [hx s (by omega) i hi h3] at h4
            exact absurd h4.symm (toJ_ne (by omega))
        | some p =>
          obtain ⟨p1, ⟨s, i, i0, i1, i2, i3⟩, p2⟩ := hx
          rw [if_neg (show ¬ toJ (some p) = -1 from toJ_ne (by omega))]
          by_cases h5 : p ≤ m
          · rw [if_pos (show toJ (some p) ≤ nI m from nI_le h5 (by omega))]
            refine ⟨some p, rfl, p1, ⟨s, i, by omega, i1, i2, i3⟩, fun s' hs' i' hi' h3 m' hm' h4 => ?_⟩
            by_cases e : s' = n
            · subst e
              rw [inj i' hi' h3, h2] at h4
              have := nI_inj (by omega) (by omega) h4
              omega
            · exact p2 s' (by omega) i' hi' h3 m' hm' h4
          · rw [if_neg (show ¬ toJ (some p) ≤ nI m from nI_ge (by omega) (by omega))]
            refine ⟨some m, rfl, hm, ⟨n, c, by omega, hc, ec, h2⟩, fun s' hs' i' hi' h3 m' hm' h4 => ?_⟩
            by_cases e : s' = n
            · subst e
              rw [inj i' hi' h3, h2] at h4
              have := nI_inj (by omega) (by omega) h4
              omega
            · have := p2 s' (by omega) i' hi' h3 m' hm' h4
              omega
  obtain ⟨x, e, hx⟩ := h (xst r v) (Nat.le_refl _)
  refine ⟨x, ?_, e⟩
  cases x with
  | none =>
    intro i hi h1
    obtain ⟨s, s1, s2⟩ := sp_has_iff.mp h1
    exact hx s s1 i hi s2
  | some m =>
    obtain ⟨p1, ⟨s, i, i0, i1, i2, i3⟩, p2⟩ := hx
    refine ⟨p1, ⟨i, i1, sp_has_iff.mpr ⟨s, i0, i2⟩, i3⟩, fun i' hi' h1 => ?_⟩
    obtain ⟨s', s1, s2⟩ := sp_has_iff.mp h1
    exact p2 s' s1 i' hi' s2
theorem kMin_one {r : Nat → Int32} {v g : Nat} {x y : Option Nat} (hx : kMin r v g x) (hy : kMin r v g y) : x = y := by
  cases x with
  | none =>
    cases y with
    | none => rfl
    | some m =>
      obtain ⟨h1, ⟨i, h2, h3, h4⟩, _⟩ := hy
      rw [hx i h2 h3] at h4
      exact absurd h4.symm (toJ_ne (by omega))
  | some p =>
    cases y with
    | none =>
      obtain ⟨h1, ⟨i, h2, h3, h4⟩, _⟩ := hx
      rw [hy i h2 h3] at h4
      exact absurd h4.symm (toJ_ne (by omega))
    | some m =>
      obtain ⟨h1, ⟨i, h2, h3, h4⟩, h5⟩ := hx
      obtain ⟨g1, ⟨j, g2, g3, g4⟩, g5⟩ := hy
      have := h5 j g2 g3 m g1 g4
      have := g5 i h2 h3 p h1 h4
      rw [show p = m by omega]
/-- the class leaves where the reference does -/
theorem kLeaves {f r : Nat → Int32} (hW : xWF r) (hf : kFar f r) {v b q g : Nat} (hv : v < xnv r) (hb : b < xnb r) (hg : g < xnb r) (eg : sp_goal r q = nI g) (hh : sp_has r v (nI b) = true) : sp_leaves f r q v (nI b) ↔ ¬ kD r b g = -1 ∧ ¬ kFA r v g (xnb r) < kD r b g := by
  have hB := hW.bd
  have hb6 := hB.b6
  obtain ⟨x, hx, ex⟩ := kFA_s (v := v) hB hg
  obtain ⟨y, hy, ey⟩ := kLeast hW hf hv hg
  have := kMin_one hx hy
  subst this
  unfold sp_leaves
  rw [eg, kxfx hf hB hb hg, ey, ex]
  have hn : ¬ nI g = -1 := toJ_ne (by omega)
  rcases kD_s hB hb hg with ⟨h2, _⟩ | ⟨m, hm, h2, _⟩
  · rw [h2]
    exact ⟨fun h => h.elim (fun z => absurd z hn) (fun z => absurd rfl z.1), fun h => absurd rfl h.1⟩
  · cases x with
    | none =>
      rw [hx b hb hh] at h2
      exact absurd h2.symm (toJ_ne (by omega))
    | some p =>
      obtain ⟨h1, _, h5⟩ := hx
      have h6 := h5 b hb hh m hm h2
      rw [h2]
      have e1 : ¬ nI m = -1 := toJ_ne (by omega)
      constructor
      · rintro (z | ⟨_, z⟩)
        · exact absurd z hn
        · have := nI_inj (b := p) (by omega) (by omega) z
          subst this
          exact ⟨e1, nI_nlt (Nat.le_refl _) (by omega)⟩
      · rintro ⟨_, z⟩
        refine Or.inr ⟨e1, ?_⟩
        by_cases e : p = m
        · rw [e]; rfl
        · exact absurd (show kJ6 (some p) < nI m from nI_lt (by omega) (by omega)) z
/-- the class takes what the reference takes -/
theorem kGoes {f r : Nat → Int32} (hW : xWF r) (hf : kFar f r) {v b q g : Nat} (hv : v < xnv r) (hb : b < xnb r) (hg : g < xnb r) (eg : sp_goal r q = nI g) (hh : sp_has r v (nI b) = true) : sp_goes f r q v (nI b) = true ↔ ¬ kD r b g < 1 ∧ kFA r v g (xnb r) = kD r b g - 1 := by
  have hB := hW.bd
  have hb6 := hB.b6
  obtain ⟨x, hx, ex⟩ := kFA_s (v := v) hB hg
  have hn : ¬ nI g = -1 := toJ_ne (by omega)
  unfold sp_goes
  rw [eg, if_neg hn, kxfx hf hB hb hg, ex]
  rcases kD_s hB hb hg with ⟨h2, _⟩ | ⟨m, hm, h2, _⟩
  · rw [h2, if_pos (show (-1 : Int32) ≤ 0 by decide)]
    exact ⟨fun h => Bool.noConfusion h, fun h => absurd (show (-1 : Int32) < 1 by decide) h.1⟩
  · rw [h2]
    cases m with
    | zero =>
      rw [if_pos (show nI 0 ≤ 0 by decide)]
      exact ⟨fun h => Bool.noConfusion h, fun h => absurd (show nI 0 < 1 by decide) h.1⟩
    | succ m =>
      rw [if_neg (nI_nle (by omega) (by omega)), nI_pred, xany_iff]
      have ob : kO r b := (kD_ro hB hb hg (by omega) h2).2.1
      have nlt : ¬ nI (m + 1) < 1 := nI_nlt (b := 1) (by omega) (by omega)
      constructor
      · rintro ⟨s, hs, h3⟩
        obtain ⟨c, hc, ec⟩ := kRt_at hW hv hs
        have h4 := of_decide_eq_true h3
        rw [ec, kxfx hf hB hc hg] at h4
        refine ⟨nlt, ?_⟩
        cases x with
        | none =>
          rw [hx c hc (sp_has_iff.mpr ⟨s, hs, ec⟩)] at h4
          exact absurd h4.symm (toJ_ne (by omega))
        | some p =>
          obtain ⟨h1, ⟨i, i1, i2, i3⟩, h5⟩ := hx
          have h6 := h5 c hc (sp_has_iff.mpr ⟨s, hs, ec⟩) m (by omega) h4
          obtain ⟨m', hm', h7⟩ := kD_tri hB hb hg i1 ob ⟨v, hv, hh, i2⟩ (n := p) (by omega) i3
          have := nI_inj (by omega) (by omega) (h2.symm.trans h7)
          rw [show p = m by omega]
          rfl
      · rintro ⟨_, h3⟩
        cases x with
        | none => exact absurd (nI_inj (a := 6) (by omega) (by omega) h3) (by omega)
        | some p =>
          obtain ⟨h1, ⟨i, i1, i2, i3⟩, h5⟩ := hx
          have := nI_inj (a := p) (by omega) (by omega) h3
          subst this
          obtain ⟨s, s1, s2⟩ := sp_has_iff.mp i2
          refine ⟨s, s1, decide_eq_true ?_⟩
          rw [s2, kxfx hf hB i1 hg]
          exact i3
section KG
variable {w : xW} {l : Nat → Nat → Int64} {t : Nat} {sc : xm_Sc} {d k : Nat} {r : Nat → Int32}
theorem zm11 : ((-1 : Int32) < 1) = True := eq_true (by decide)
theorem kc_67 {q : Nat} (hk : k < 13) (hR : kRel w k r) (hq : q < xnk r) : xm_C sc xt_M (d + 2) 67 [.ref (xh k), .int (nI q)] (xem w l t) = some (.inl (some (.int (sp_goal r q))), xem w l t) := by
  have hk20 := hR.W.bd.k20
  obtain ⟨h, hh, eh⟩ := kHome hR.W hq
  have hb6 := hR.W.bd.b6
  have b28 : sp_want r q = none → xm_R sc xt_M (d + 1) 67 28 [.ref (xh k), .int (nI q)] [] (xem w l t) = some (.inl (some (.int (sp_goal r q))), xem w l t) := by
    intro e
    unfold sp_goal
    rw [e, yb_67_28]
    dsimp only
    unfold xop
    rw [eh, nI_clamp (by omega)]
    by_cases ho : r (6 + h) = 1
    · rw [if_pos ho]
      simp (disch := first | omega | assumption | exact xpi_lt) only [↓zbE, zbd_some, ↓xk_I, ↓xk_v, zB_0, zB_1, ite_not, ↓reduceIte, zS, zSa_0, zSa_1, zSa_2, zSa_3, zSa_4, zSa_5, zSa_6, zSa_7, zSa_8, zSa_9, zPa_0, zPa_1, zPa_2, zPa_3, zPa_4, xgS_0, xgS_1, xgS_2, xgS_3, xgS_4, xgS_5, xgS_6, xgS_7, xgS_8, xgS_9, xgS_10, xgS_11, xgQ_0, xgQ_1, xgQ_2, xgQ_3, xgQ_4, xgP_0, xgP_1, xgP_2, xgP_3, xgP_4, xgP_5, xgP_6, xgP_7, xgY_0, xiS, xiQ, xiY, xiP, eh, eq_true ho, hR.home hq, hR.kind hq, hR.place hq, hR.pb, kc_60 hk hR, kc_62 hk hR, kc_41 hk hR, z10, z00, z20, zm1, hk]
    · rw [if_neg ho]
      simp (disch := first | omega | assumption | exact xpi_lt) only [↓zbE, zbd_some, ↓xk_I, ↓xk_v, zB_0, zB_1, ite_not, ↓reduceIte, zS, zSa_0, zSa_1, zSa_2, zSa_3, zSa_4, zSa_5, zSa_6, zSa_7, zSa_8, zSa_9, zPa_0, zPa_1, zPa_2, zPa_3, zPa_4, xgS_0, xgS_1, xgS_2, xgS_3, xgS_4, xgS_5, xgS_6, xgS_7, xgS_8, xgS_9, xgS_10, xgS_11, xgQ_0, xgQ_1, xgQ_2, xgQ_3, xgQ_4, xgP_0, xgP_1, xgP_2, xgP_3, xgP_4, xgP_5, xgP_6, xgP_7, xgY_0, xiS, xiQ, xiY, xiP, eh, eq_false ho, hR.home hq, hR.kind hq, hR.place hq, hR.pb, kc_60 hk hR, kc_62 hk hR, kc_41 hk hR, z10, z00, z20, zm1, hk]
  rw [yc_67]
  by_cases h1 : r (59 + 6 * q) = 1
  · have e := b28 (if_pos h1)
    simp (disch := first | omega | assumption | exact xpi_lt) only [↓zbE, zbd_some, ↓xk_I, ↓xk_v, zB_0, zB_1, ite_not, ↓reduceIte, zS, zSa_0, zSa_1, zSa_2, zSa_3, zSa_4, zSa_5, zSa_6, zSa_7, zSa_8, zSa_9, zPa_0, zPa_1, zPa_2, zPa_3, zPa_4, xgS_0, xgS_1, xgS_2, xgS_3, xgS_4, xgS_5, xgS_6, xgS_7, xgS_8, xgS_9, xgS_10, xgS_11, xgQ_0, xgQ_1, xgQ_2, xgQ_3, xgQ_4, xgP_0, xgP_1, xgP_2, xgP_3, xgP_4, xgP_5, xgP_6, xgP_7, xgY_0, xiS, xiQ, xiY, xiP, eq_true h1, e, hR.home hq, hR.kind hq, hR.place hq, hR.pb, kc_60 hk hR, kc_62 hk hR, kc_41 hk hR, z10, z00, z20, zm1, hk]
  · cases h2 : sp_first r (nI q) with
    | none =>
      have e := b28 ((if_neg h1).trans h2)
      simp (disch := first | omega | assumption | exact xpi_lt) only [↓zbE, zbd_some, ↓xk_I, ↓xk_v, zB_0, zB_1, ite_not, ↓reduceIte, zS, zSa_0, zSa_1, zSa_2, zSa_3, zSa_4, zSa_5, zSa_6, zSa_7, zSa_8, zSa_9, zPa_0, zPa_1, zPa_2, zPa_3, zPa_4, xgS_0, xgS_1, xgS_2, xgS_3, xgS_4, xgS_5, xgS_6, xgS_7, xgS_8, xgS_9, xgS_10, xgS_11, xgQ_0, xgQ_1, xgQ_2, xgQ_3, xgQ_4, xgP_0, xgP_1, xgP_2, xgP_3, xgP_4, xgP_5, xgP_6, xgP_7, xgY_0, xiS, xiQ, xiY, xiP, eq_false h1, h2, not_true_eq_false, zBF, e, hR.home hq, hR.kind hq, hR.place hq, hR.pb, kc_60 hk hR, kc_62 hk hR, kc_41 hk hR, z10, z00, z20, zm1, hk]
    | some p =>
      have e : sp_goal r q = r (178 + 3 * p) := by
        unfold sp_goal sp_want
        rw [if_neg h1, h2]
      simp (disch := first | omega | assumption | exact xpi_lt) only [↓zbE, zbd_some, ↓xk_I, ↓xk_v, zB_0, zB_1, ite_not, ↓reduceIte, zS, zSa_0, zSa_1, zSa_2, zSa_3, zSa_4, zSa_5, zSa_6, zSa_7, zSa_8, zSa_9, zPa_0, zPa_1, zPa_2, zPa_3, zPa_4, xgS_0, xgS_1, xgS_2, xgS_3, xgS_4, xgS_5, xgS_6, xgS_7, xgS_8, xgS_9, xgS_10, xgS_11, xgQ_0, xgQ_1, xgQ_2, xgQ_3, xgQ_4, xgP_0, xgP_1, xgP_2, xgP_3, xgP_4, xgP_5, xgP_6, xgP_7, xgY_0, xiS, xiQ, xiY, xiP, eq_false h1, h2, reduceCtorEq, not_false_eq_true, zBT, e, kc_42 hk hR (by omega) h2, hR.home hq, hR.kind hq, hR.place hq, hR.pb, kc_60 hk hR, kc_62 hk hR, kc_41 hk hR, z10, z00, z20, zm1, hk]
theorem kc_66 {q : Nat} (hk : k < 13) (hR : kRel w k r) (hq : q < xnk r) : xm_C sc xt_M (d + 3) 66 [.ref (xh k), .int (nI q)] (xem w l t) = some (.inl (some (.int (zB (sp_arr r q)))), xem w l t) := by
  have hk20 := hR.W.bd.k20
  rw [yc_66]
  by_cases h2 : r (56 + 6 * q) = 2
  · rw [zB_tt (c := sp_arr r q) (Or.inl h2)]
    simp (disch := first | omega | assumption | exact xpi_lt) only [↓zbE, zbd_some, ↓xk_I, ↓xk_v, zB_0, zB_1, ite_not, ↓reduceIte, zS, zSa_0, zSa_1, zSa_2, zSa_3, zSa_4, zSa_5, zSa_6, zSa_7, zSa_8, zSa_9, zPa_0, zPa_1, zPa_2, zPa_3, zPa_4, xgS_0, xgS_1, xgS_2, xgS_3, xgS_4, xgS_5, xgS_6, xgS_7, xgS_8, xgS_9, xgS_10, xgS_11, xgQ_0, xgQ_1, xgQ_2, xgQ_3, xgQ_4, xgP_0, xgP_1, xgP_2, xgP_3, xgP_4, xgP_5, xgP_6, xgP_7, xgY_0, xiS, xiQ, xiY, xiP, h2, hR.home hq, hR.kind hq, hR.place hq, hR.pb, kc_60 hk hR, kc_62 hk hR, kc_41 hk hR, z10, z00, z20, zm1, hk, z02, yb_66_33, yb_66_37, kc_67 hk hR]
  · by_cases h0 : r (56 + 6 * q) = 0
    · by_cases hg : sp_goal r q = r (57 + 6 * q)
      · rw [zB_tt (c := sp_arr r q) (Or.inr ⟨h0, hg⟩)]
        simp (disch := first | omega | assumption | exact xpi_lt) only [↓zbE, zbd_some, ↓xk_I, ↓xk_v, zB_0, zB_1, ite_not, ↓reduceIte, zS, zSa_0, zSa_1, zSa_2, zSa_3, zSa_4, zSa_5, zSa_6, zSa_7, zSa_8, zSa_9, zPa_0, zPa_1, zPa_2, zPa_3, zPa_4, xgS_0, xgS_1, xgS_2, xgS_3, xgS_4, xgS_5, xgS_6, xgS_7, xgS_8, xgS_9, xgS_10, xgS_11, xgQ_0, xgQ_1, xgQ_2, xgQ_3, xgQ_4, xgP_0, xgP_1, xgP_2, xgP_3, xgP_4, xgP_5, xgP_6, xgP_7, xgY_0, xiS, xiQ, xiY, xiP, h2, h0, eq_true hg, eq_true hg.symm, hR.home hq, hR.kind hq, hR.place hq, hR.pb, kc_60 hk hR, kc_62 hk hR, kc_41 hk hR, z10, z00, z20, zm1, hk, z02, yb_66_33, yb_66_37, kc_67 hk hR]
      · rw [zB_ff (c := sp_arr r q) (fun h => h.elim h2 (fun g => hg g.2))]
        simp (disch := first | omega | assumption | exact xpi_lt) only [↓zbE, zbd_some, ↓xk_I, ↓xk_v, zB_0, zB_1, ite_not, ↓reduceIte, zS, zSa_0, zSa_1, zSa_2, zSa_3, zSa_4, zSa_5, zSa_6, zSa_7, zSa_8, zSa_9, zPa_0, zPa_1, zPa_2, zPa_3, zPa_4, xgS_0, xgS_1, xgS_2, xgS_3, xgS_4, xgS_5, xgS_6, xgS_7, xgS_8, xgS_9, xgS_10, xgS_11, xgQ_0, xgQ_1, xgQ_2, xgQ_3, xgQ_4, xgP_0, xgP_1, xgP_2, xgP_3, xgP_4, xgP_5, xgP_6, xgP_7, xgY_0, xiS, xiQ, xiY, xiP, h2, h0, eq_false (fun e => hg (Eq.symm e)), hR.home hq, hR.kind hq, hR.place hq, hR.pb, kc_60 hk hR, kc_62 hk hR, kc_41 hk hR, z10, z00, z20, zm1, hk, z02, yb_66_33, yb_66_37, kc_67 hk hR]
    · rw [zB_ff (c := sp_arr r q) (fun h => h.elim h2 (fun g => h0 g.1))]
      simp (disch := first | omega | assumption | exact xpi_lt) only [↓zbE, zbd_some, ↓xk_I, ↓xk_v, zB_0, zB_1, ite_not, ↓reduceIte, zS, zSa_0, zSa_1, zSa_2, zSa_3, zSa_4, zSa_5, zSa_6, zSa_7, zSa_8, zSa_9, zPa_0, zPa_1, zPa_2, zPa_3, zPa_4, xgS_0, xgS_1, xgS_2, xgS_3, xgS_4, xgS_5, xgS_6, xgS_7, xgS_8, xgS_9, xgS_10, xgS_11, xgQ_0, xgQ_1, xgQ_2, xgQ_3, xgQ_4, xgP_0, xgP_1, xgP_2, xgP_3, xgP_4, xgP_5, xgP_6, xgP_7, xgY_0, xiS, xiQ, xiY, xiP, h2, h0, hR.home hq, hR.kind hq, hR.place hq, hR.pb, kc_60 hk hR, kc_62 hk hR, kc_41 hk hR, z10, z00, z20, zm1, hk, z02, yb_66_33, yb_66_37, kc_67 hk hR]
theorem kc_71 {v g : Nat} (hk : k < 13) (hR : kRel w k r) (hv : v < xnv r) (hg : g < xnb r) : xm_C sc xt_M (d + 2) 71 [.ref (xh k), .int (nI v), .int (nI g)] (xem w l t) = some (.inl (some (.int (kFA r v g (xnb r)))), xem w l t) := by
  have hb6 := hR.W.bd.b6
  obtain ⟨j, e⟩ := xlpJ (fun i (j : Value) => xm_R sc xt_M (d + 1) 71 6 [.ref (xh k), .int (nI v), .int (nI g), .int (kFA r v g i), .int (nI i), j] [] (xem w l t)) (xnb r) (by
    intro i j hi
    rw [yb_71_6]
    by_cases h1 : sp_has r v (nI i) = true
    · by_cases h2 : kD r i g = -1
      · exact ⟨_, by simp (disch := first | omega | assumption | exact xpi_lt) only [↓zbE, zbd_some, ↓xk_I, ↓xk_v, zB_0, zB_1, ite_not, ↓reduceIte, zS, zSa_0, zSa_1, zSa_2, zSa_3, zSa_4, zSa_5, zSa_6, zSa_7, zSa_8, zSa_9, zPa_0, zPa_1, zPa_2, zPa_3, zPa_4, xgS_0, xgS_1, xgS_2, xgS_3, xgS_4, xgS_5, xgS_6, xgS_7, xgS_8, xgS_9, xgS_10, xgS_11, xgQ_0, xgQ_1, xgQ_2, xgQ_3, xgQ_4, xgP_0, xgP_1, xgP_2, xgP_3, xgP_4, xgP_5, xgP_6, xgP_7, xgY_0, xiS, xiQ, xiY, xiP, eq_true h1, h2, kc_23 hk hR, kc_104 hk hR, yb_71_62, kFA, hR.pb, nI_ge, Bool.false_eq_true, z10, z00, zm1]; rfl⟩
      · by_cases h3 : kFA r v g i ≤ kD r i g
        · exact ⟨_, by simp (disch := first | omega | assumption | exact xpi_lt) only [↓zbE, zbd_some, ↓xk_I, ↓xk_v, zB_0, zB_1, ite_not, ↓reduceIte, zS, zSa_0, zSa_1, zSa_2, zSa_3, zSa_4, zSa_5, zSa_6, zSa_7, zSa_8, zSa_9, zPa_0, zPa_1, zPa_2, zPa_3, zPa_4, xgS_0, xgS_1, xgS_2, xgS_3, xgS_4, xgS_5, xgS_6, xgS_7, xgS_8, xgS_9, xgS_10, xgS_11, xgQ_0, xgQ_1, xgQ_2, xgQ_3, xgQ_4, xgP_0, xgP_1, xgP_2, xgP_3, xgP_4, xgP_5, xgP_6, xgP_7, xgY_0, xiS, xiQ, xiY, xiP, eq_true h1, h2, h3, kc_23 hk hR, kc_104 hk hR, yb_71_62, kFA, hR.pb, nI_ge, Bool.false_eq_true, z10, z00, zm1]; rfl⟩
        · exact ⟨_, by simp (disch := first | omega | assumption | exact xpi_lt) only [↓zbE, zbd_some, ↓xk_I, ↓xk_v, zB_0, zB_1, ite_not, ↓reduceIte, zS, zSa_0, zSa_1, zSa_2, zSa_3, zSa_4, zSa_5, zSa_6, zSa_7, zSa_8, zSa_9, zPa_0, zPa_1, zPa_2, zPa_3, zPa_4, xgS_0, xgS_1, xgS_2, xgS_3, xgS_4, xgS_5, xgS_6, xgS_7, xgS_8, xgS_9, xgS_10, xgS_11, xgQ_0, xgQ_1, xgQ_2, xgQ_3, xgQ_4, xgP_0, xgP_1, xgP_2, xgP_3, xgP_4, xgP_5, xgP_6, xgP_7, xgY_0, xiS, xiQ, xiY, xiP, eq_true h1, h2, h3, kc_23 hk hR, kc_104 hk hR, yb_71_62, kFA, hR.pb, nI_ge, Bool.false_eq_true, z10, z00, zm1]; rfl⟩
    · exact ⟨_, by simp (disch := first | omega | assumption | exact xpi_lt) only [↓zbE, zbd_some, ↓xk_I, ↓xk_v, zB_0, zB_1, ite_not, ↓reduceIte, zS, zSa_0, zSa_1, zSa_2, zSa_3, zSa_4, zSa_5, zSa_6, zSa_7, zSa_8, zSa_9, zPa_0, zPa_1, zPa_2, zPa_3, zPa_4, xgS_0, xgS_1, xgS_2, xgS_3, xgS_4, xgS_5, xgS_6, xgS_7, xgS_8, xgS_9, xgS_10, xgS_11, xgQ_0, xgQ_1, xgQ_2, xgQ_3, xgQ_4, xgP_0, xgP_1, xgP_2, xgP_3, xgP_4, xgP_5, xgP_6, xgP_7, xgY_0, xiS, xiQ, xiY, xiP, eq_false h1, kc_23 hk hR, kc_104 hk hR, yb_71_62, kFA, hR.pb, nI_ge, Bool.false_eq_true, z10, z00, zm1]; rfl⟩) .null
  rw [yc_71]
  refine e.trans ?_
  rw [yb_71_6]
  simp (disch := first | omega | assumption | exact xpi_lt) only [↓zbE, zbd_some, ↓xk_I, ↓xk_v, zB_0, zB_1, ite_not, ↓reduceIte, zS, zSa_0, zSa_1, zSa_2, zSa_3, zSa_4, zSa_5, zSa_6, zSa_7, zSa_8, zSa_9, zPa_0, zPa_1, zPa_2, zPa_3, zPa_4, xgS_0, xgS_1, xgS_2, xgS_3, xgS_4, xgS_5, xgS_6, xgS_7, xgS_8, xgS_9, xgS_10, xgS_11, xgQ_0, xgQ_1, xgQ_2, xgQ_3, xgQ_4, xgP_0, xgP_1, xgP_2, xgP_3, xgP_4, xgP_5, xgP_6, xgP_7, xgY_0, xiS, xiQ, xiY, xiP, hR.pb, nI_le]
theorem kc_70 {f : Nat → Int32} {q v b : Nat} (hk : k < 13) (hR : kRel w k r) (hf : kFar f r) (hq : q < xnk r) (hv : v < xnv r) (hb : b < xnb r) (hh : sp_has r v (nI b) = true) : xm_C sc xt_M (d + 3) 70 [.ref (xh k), .int (nI q), .int (nI v), .int (nI b)] (xem w l t) = some (.inl (some (.int (zB (sp_leaves f r q v (nI b))))), xem w l t) := by
  have hb6 := hR.W.bd.b6
  rw [yc_70]
  rcases kGoal hR.W hq with hg | ⟨g, hg, eg, _⟩
  · rw [zB_tt (c := sp_leaves f r q v (nI b)) (Or.inl hg)]
    simp (disch := first | omega | assumption | exact xpi_lt) only [↓zbE, zbd_some, ↓xk_I, ↓xk_v, zB_0, zB_1, ite_not, ↓reduceIte, zS, zSa_0, zSa_1, zSa_2, zSa_3, zSa_4, zSa_5, zSa_6, zSa_7, zSa_8, zSa_9, zPa_0, zPa_1, zPa_2, zPa_3, zPa_4, xgS_0, xgS_1, xgS_2, xgS_3, xgS_4, xgS_5, xgS_6, xgS_7, xgS_8, xgS_9, xgS_10, xgS_11, xgQ_0, xgQ_1, xgQ_2, xgQ_3, xgQ_4, xgP_0, xgP_1, xgP_2, xgP_3, xgP_4, xgP_5, xgP_6, xgP_7, xgY_0, xiS, xiQ, xiY, xiP, hg, kc_67 hk hR, kc_104 hk hR, kc_104_n, kc_71 hk hR, yb_70_49, yb_69_43, zm1]
  · have key := kLeaves hR.W hf hv hb hg eg hh
    have hn : ¬ nI g = -1 := toJ_ne (by omega)
    by_cases h1 : kD r b g = -1
    · rw [zB_ff (c := sp_leaves f r q v (nI b)) (fun h => (key.mp h).1 h1)]
      simp (disch := first | omega | assumption | exact xpi_lt) only [↓zbE, zbd_some, ↓xk_I, ↓xk_v, zB_0, zB_1, ite_not, ↓reduceIte, zS, zSa_0, zSa_1, zSa_2, zSa_3, zSa_4, zSa_5, zSa_6, zSa_7, zSa_8, zSa_9, zPa_0, zPa_1, zPa_2, zPa_3, zPa_4, xgS_0, xgS_1, xgS_2, xgS_3, xgS_4, xgS_5, xgS_6, xgS_7, xgS_8, xgS_9, xgS_10, xgS_11, xgQ_0, xgQ_1, xgQ_2, xgQ_3, xgQ_4, xgP_0, xgP_1, xgP_2, xgP_3, xgP_4, xgP_5, xgP_6, xgP_7, xgY_0, xiS, xiQ, xiY, xiP, eg, hn, h1, kc_67 hk hR, kc_104 hk hR, kc_104_n, kc_71 hk hR, yb_70_49, yb_69_43, zm1]
    · by_cases h2 : kFA r v g (xnb r) < kD r b g
      · rw [zB_ff (c := sp_leaves f r q v (nI b)) (fun h => (key.mp h).2 h2)]
        simp (disch := first | omega | assumption | exact xpi_lt) only [↓zbE, zbd_some, ↓xk_I, ↓xk_v, zB_0, zB_1, ite_not, ↓reduceIte, zS, zSa_0, zSa_1, zSa_2, zSa_3, zSa_4, zSa_5, zSa_6, zSa_7, zSa_8, zSa_9, zPa_0, zPa_1, zPa_2, zPa_3, zPa_4, xgS_0, xgS_1, xgS_2, xgS_3, xgS_4, xgS_5, xgS_6, xgS_7, xgS_8, xgS_9, xgS_10, xgS_11, xgQ_0, xgQ_1, xgQ_2, xgQ_3, xgQ_4, xgP_0, xgP_1, xgP_2, xgP_3, xgP_4, xgP_5, xgP_6, xgP_7, xgY_0, xiS, xiQ, xiY, xiP, eg, hn, h1, h2, kc_67 hk hR, kc_104 hk hR, kc_104_n, kc_71 hk hR, yb_70_49, yb_69_43, zm1]
      · rw [zB_tt (c := sp_leaves f r q v (nI b)) (key.mpr ⟨h1, h2⟩)]
        simp (disch := first | omega | assumption | exact xpi_lt) only [↓zbE, zbd_some, ↓xk_I, ↓xk_v, zB_0, zB_1, ite_not, ↓reduceIte, zS, zSa_0, zSa_1, zSa_2, zSa_3, zSa_4, zSa_5, zSa_6, zSa_7, zSa_8, zSa_9, zPa_0, zPa_1, zPa_2, zPa_3, zPa_4, xgS_0, xgS_1, xgS_2, xgS_3, xgS_4, xgS_5, xgS_6, xgS_7, xgS_8, xgS_9, xgS_10, xgS_11, xgQ_0, xgQ_1, xgQ_2, xgQ_3, xgQ_4, xgP_0, xgP_1, xgP_2, xgP_3, xgP_4, xgP_5, xgP_6, xgP_7, xgY_0, xiS, xiQ, xiY, xiP, eg, hn, h1, h2, kc_67 hk hR, kc_104 hk hR, kc_104_n, kc_71 hk hR, yb_70_49, yb_69_43, zm1]
theorem kc_69 {f : Nat → Int32} {q v b : Nat} (hk : k < 13) (hR : kRel w k r) (hf : kFar f r) (hq : q < xnk r) (hv : v < xnv r) (hb : b < xnb r) (hh : sp_has r v (nI b) = true) : xm_C sc xt_M (d + 3) 69 [.ref (xh k), .int (nI q), .int (nI v), .int (nI b)] (xem w l t) = some (.inl (some (.int (zB (sp_goes f r q v (nI b) = true)))), xem w l t) := by
  have hb6 := hR.W.bd.b6
  rw [yc_69]
  rcases kGoal hR.W hq with hg | ⟨g, hg, eg, _⟩
  · have : ¬ sp_goes f r q v (nI b) = true := by
      unfold sp_goes
      rw [if_pos hg]
      exact fun h => by cases h
    rw [zB_ff this]
    simp (disch := first | omega | assumption | exact xpi_lt) only [↓zbE, zbd_some, ↓xk_I, ↓xk_v, zB_0, zB_1, ite_not, ↓reduceIte, zS, zSa_0, zSa_1, zSa_2, zSa_3, zSa_4, zSa_5, zSa_6, zSa_7, zSa_8, zSa_9, zPa_0, zPa_1, zPa_2, zPa_3, zPa_4, xgS_0, xgS_1, xgS_2, xgS_3, xgS_4, xgS_5, xgS_6, xgS_7, xgS_8, xgS_9, xgS_10, xgS_11, xgQ_0, xgQ_1, xgQ_2, xgQ_3, xgQ_4, xgP_0, xgP_1, xgP_2, xgP_3, xgP_4, xgP_5, xgP_6, xgP_7, xgY_0, xiS, xiQ, xiY, xiP, hg, zm11, kc_67 hk hR, kc_104 hk hR, kc_104_n, kc_71 hk hR, yb_70_49, yb_69_43, zm1]
  · have key := kGoes hR.W hf hv hb hg eg hh
    by_cases h1 : kD r b g < 1
    · rw [zB_ff (c := sp_goes f r q v (nI b) = true) (fun h => (key.mp h).1 h1)]
      simp (disch := first | omega | assumption | exact xpi_lt) only [↓zbE, zbd_some, ↓xk_I, ↓xk_v, zB_0, zB_1, ite_not, ↓reduceIte, zS, zSa_0, zSa_1, zSa_2, zSa_3, zSa_4, zSa_5, zSa_6, zSa_7, zSa_8, zSa_9, zPa_0, zPa_1, zPa_2, zPa_3, zPa_4, xgS_0, xgS_1, xgS_2, xgS_3, xgS_4, xgS_5, xgS_6, xgS_7, xgS_8, xgS_9, xgS_10, xgS_11, xgQ_0, xgQ_1, xgQ_2, xgQ_3, xgQ_4, xgP_0, xgP_1, xgP_2, xgP_3, xgP_4, xgP_5, xgP_6, xgP_7, xgY_0, xiS, xiQ, xiY, xiP, eg, h1, kc_67 hk hR, kc_104 hk hR, kc_104_n, kc_71 hk hR, yb_70_49, yb_69_43, zm1]
    · by_cases h2 : kFA r v g (xnb r) = kD r b g - 1
      · rw [zB_tt (c := sp_goes f r q v (nI b) = true) (key.mpr ⟨h1, h2⟩)]
        simp (disch := first | omega | assumption | exact xpi_lt) only [↓zbE, zbd_some, ↓xk_I, ↓xk_v, zB_0, zB_1, ite_not, ↓reduceIte, zS, zSa_0, zSa_1, zSa_2, zSa_3, zSa_4, zSa_5, zSa_6, zSa_7, zSa_8, zSa_9, zPa_0, zPa_1, zPa_2, zPa_3, zPa_4, xgS_0, xgS_1, xgS_2, xgS_3, xgS_4, xgS_5, xgS_6, xgS_7, xgS_8, xgS_9, xgS_10, xgS_11, xgQ_0, xgQ_1, xgQ_2, xgQ_3, xgQ_4, xgP_0, xgP_1, xgP_2, xgP_3, xgP_4, xgP_5, xgP_6, xgP_7, xgY_0, xiS, xiQ, xiY, xiP, eg, h1, eq_true h2, kc_67 hk hR, kc_104 hk hR, kc_104_n, kc_71 hk hR, yb_70_49, yb_69_43, zm1]
      · rw [zB_ff (c := sp_goes f r q v (nI b) = true) (fun h => h2 (key.mp h).2)]
        simp (disch := first | omega | assumption | exact xpi_lt) only [↓zbE, zbd_some, ↓xk_I, ↓xk_v, zB_0, zB_1, ite_not, ↓reduceIte, zS, zSa_0, zSa_1, zSa_2, zSa_3, zSa_4, zSa_5, zSa_6, zSa_7, zSa_8, zSa_9, zPa_0, zPa_1, zPa_2, zPa_3, zPa_4, xgS_0, xgS_1, xgS_2, xgS_3, xgS_4, xgS_5, xgS_6, xgS_7, xgS_8, xgS_9, xgS_10, xgS_11, xgQ_0, xgQ_1, xgQ_2, xgQ_3, xgQ_4, xgP_0, xgP_1, xgP_2, xgP_3, xgP_4, xgP_5, xgP_6, xgP_7, xgY_0, xiS, xiQ, xiY, xiP, eg, h1, h2, kc_67 hk hR, kc_104 hk hR, kc_104_n, kc_71 hk hR, yb_70_49, yb_69_43, zm1]
def kLL (r : Nat → Int32) (q : Nat) : Int32 := if sp_llc r q then kD r (r (57 + 6 * q)).toNatClampNeg (sp_goal r q).toNatClampNeg else -1
theorem kLL_eq {f : Nat → Int32} (hW : xWF r) {q : Nat} (hq : q < xnk r) : (sp_ll f r q).1 = kLL r q := by
  have hb6 := hW.bd.b6
  unfold sp_ll kLL
  by_cases h : sp_llc r q
  · rw [if_pos h, if_pos h]
    have hp := (hW.k q hq).2.2.2.1 h.1
    rcases kGoal hW hq with hg | ⟨g, hg, eg, _⟩
    · exact absurd hg h.2
    · show xfx (sp_far r f) (r (57 + 6 * q)) (sp_goal r q) = _
      unfold xfx
      exact kfar_eq hb6 hp.2 (by rw [eg, nI_clamp (by omega)]; exact hg)
  · rw [if_neg h, if_neg h]
theorem kc_68 {q : Nat} (hk : k < 13) (hR : kRel w k r) (hq : q < xnk r) : xm_C sc xt_M (d + 3) 68 [.ref (xh k), .int (nI q)] (xem w l t) = some (.inl (some (.int (kLL r q))), xem w l t) := by
  have hb6 := hR.W.bd.b6
  have hk20 := hR.W.bd.k20
  have b19 : (r (56 + 6 * q) = 0 ∨ r (56 + 6 * q) = 2) → ∀ v2, xm_R sc xt_M (d + 2) 68 19 [.ref (xh k), .int (nI q), v2] [] (xem w l t) = some (.inl (some (.int (kLL r q))), xem w l t) := by
    intro h v2
    obtain ⟨p, hp, ep⟩ : ∃ p, p < xnb r ∧ r (57 + 6 * q) = nI p := ⟨_, ((hR.W.k q hq).2.2.2.1 h).2, ((hR.W.k q hq).2.2.2.1 h).1⟩
    rw [yb_68_19]
    unfold kLL
    rcases kGoal hR.W hq with hg | ⟨g, hg, eg, _⟩
    · rw [if_neg (c := sp_llc r q) (fun z => z.2 hg)]
      simp (disch := first | omega | assumption | exact xpi_lt) only [↓zbE, zbd_some, ↓xk_I, ↓xk_v, zB_0, zB_1, ite_not, ↓reduceIte, zS, zSa_0, zSa_1, zSa_2, zSa_3, zSa_4, zSa_5, zSa_6, zSa_7, zSa_8, zSa_9, zPa_0, zPa_1, zPa_2, zPa_3, zPa_4, xgS_0, xgS_1, xgS_2, xgS_3, xgS_4, xgS_5, xgS_6, xgS_7, xgS_8, xgS_9, xgS_10, xgS_11, xgQ_0, xgQ_1, xgQ_2, xgQ_3, xgQ_4, xgP_0, xgP_1, xgP_2, xgP_3, xgP_4, xgP_5, xgP_6, xgP_7, xgY_0, xiS, xiQ, xiY, xiP, hg, ep, kc_67 hk hR, kc_104 hk hR, kc_104_n, hR.kind hq, hR.place hq, z10, z00, z20]
    · have hn : ¬ nI g = -1 := toJ_ne (by omega)
      rw [if_pos (c := sp_llc r q) ⟨h, by rw [eg]; exact hn⟩, eg, ep, nI_clamp (by omega), nI_clamp (by omega)]
      simp (disch := first | omega | assumption | exact xpi_lt) only [↓zbE, zbd_some, ↓xk_I, ↓xk_v, zB_0, zB_1, ite_not, ↓reduceIte, zS, zSa_0, zSa_1, zSa_2, zSa_3, zSa_4, zSa_5, zSa_6, zSa_7, zSa_8, zSa_9, zPa_0, zPa_1, zPa_2, zPa_3, zPa_4, xgS_0, xgS_1, xgS_2, xgS_3, xgS_4, xgS_5, xgS_6, xgS_7, xgS_8, xgS_9, xgS_10, xgS_11, xgQ_0, xgQ_1, xgQ_2, xgQ_3, xgQ_4, xgP_0, xgP_1, xgP_2, xgP_3, xgP_4, xgP_5, xgP_6, xgP_7, xgY_0, xiS, xiQ, xiY, xiP, eg, ep, kc_67 hk hR, kc_104 hk hR, kc_104_n, hR.kind hq, hR.place hq, z10, z00, z20]
  rw [yc_68]
  by_cases h0 : r (56 + 6 * q) = 0
  · have e := b19 (Or.inl h0)
    simp (disch := first | omega | assumption | exact xpi_lt) only [↓zbE, zbd_some, ↓xk_I, ↓xk_v, zB_0, zB_1, ite_not, ↓reduceIte, zS, zSa_0, zSa_1, zSa_2, zSa_3, zSa_4, zSa_5, zSa_6, zSa_7, zSa_8, zSa_9, zPa_0, zPa_1, zPa_2, zPa_3, zPa_4, xgS_0, xgS_1, xgS_2, xgS_3, xgS_4, xgS_5, xgS_6, xgS_7, xgS_8, xgS_9, xgS_10, xgS_11, xgQ_0, xgQ_1, xgQ_2, xgQ_3, xgQ_4, xgP_0, xgP_1, xgP_2, xgP_3, xgP_4, xgP_5, xgP_6, xgP_7, xgY_0, xiS, xiQ, xiY, xiP, h0, e, kc_67 hk hR, kc_104 hk hR, kc_104_n, hR.kind hq, hR.place hq, z10, z00, z20]
  · by_cases h2 : r (56 + 6 * q) = 2
    · have e := b19 (Or.inr h2)
      simp (disch := first | omega | assumption | exact xpi_lt) only [↓zbE, zbd_some, ↓xk_I, ↓xk_v, zB_0, zB_1, ite_not, ↓reduceIte, zS, zSa_0, zSa_1, zSa_2, zSa_3, zSa_4, zSa_5, zSa_6, zSa_7, zSa_8, zSa_9, zPa_0, zPa_1, zPa_2, zPa_3, zPa_4, xgS_0, xgS_1, xgS_2, xgS_3, xgS_4, xgS_5, xgS_6, xgS_7, xgS_8, xgS_9, xgS_10, xgS_11, xgQ_0, xgQ_1, xgQ_2, xgQ_3, xgQ_4, xgP_0, xgP_1, xgP_2, xgP_3, xgP_4, xgP_5, xgP_6, xgP_7, xgY_0, xiS, xiQ, xiY, xiP, h0, h2, e, kc_67 hk hR, kc_104 hk hR, kc_104_n, hR.kind hq, hR.place hq, z10, z00, z20]
    · unfold kLL
      rw [if_neg (c := sp_llc r q) (fun z => z.1.elim h0 h2)]
      simp (disch := first | omega | assumption | exact xpi_lt) only [↓zbE, zbd_some, ↓xk_I, ↓xk_v, zB_0, zB_1, ite_not, ↓reduceIte, zS, zSa_0, zSa_1, zSa_2, zSa_3, zSa_4, zSa_5, zSa_6, zSa_7, zSa_8, zSa_9, zPa_0, zPa_1, zPa_2, zPa_3, zPa_4, xgS_0, xgS_1, xgS_2, xgS_3, xgS_4, xgS_5, xgS_6, xgS_7, xgS_8, xgS_9, xgS_10, xgS_11, xgQ_0, xgQ_1, xgQ_2, xgQ_3, xgQ_4, xgP_0, xgP_1, xgP_2, xgP_3, xgP_4, xgP_5, xgP_6, xgP_7, xgY_0, xiS, xiQ, xiY, xiP, h0, h2, kc_67 hk hR, kc_104 hk hR, kc_104_n, hR.kind hq, hR.place hq, z10, z00, z20]
end KG
