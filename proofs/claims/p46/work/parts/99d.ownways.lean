/-! OWN: the least way, who boards, the numbers of a book -/
def oJ9 (x : Option Nat) : Int32 := match x with
  | none => 99
  | some m => nI m
def oMi (r : Nat → Int32) (v g s : Nat) (x : Option Nat) : Prop := match x with
  | none => ∀ s', s' < s → ∀ i, i < xnb r → r (15 + 11 * v + s') = nI i → kD r i g = -1
  | some m => m ≤ 4 ∧ (∃ i, i < xnb r ∧ sp_has r v (nI i) = true ∧ kD r i g = nI m) ∧ ∀ s', s' < s → ∀ i, i < xnb r → r (15 + 11 * v + s') = nI i → ∀ m', m' ≤ 4 → kD r i g = nI m' → m ≤ m'
section OB
variable {S : xm_PS} {L : Nat → Nat} {r : Nat → Int32} {x : Int32} {sc : xm_Sc} {d g : Nat} {f : Nat → Int32}
theorem oMi_e {v : Nat} {y : Option Nat} (h : oMi r v g (xst r v) y) : kMin r v g y := by
  cases y with
  | none =>
    intro i hi h1
    obtain ⟨s, s1, s2⟩ := sp_has_iff.mp h1
    exact h s s1 i hi s2
  | some m =>
    obtain ⟨h1, h2, h3⟩ := h
    refine ⟨h1, h2, fun i hi h4 m' h5 h6 => ?_⟩
    obtain ⟨s, s1, s2⟩ := sp_has_iff.mp h4
    exact h3 s s1 i hi s2 m' h5 h6
theorem oc_168 (hW : xWF r) (hI : oI S L r x) {v p : Nat} (hv : v < xnv r) (hg : g < xnb r) (hA : oA S p 0 (xnb r) f) (hf : ∀ b, b < xnb r → f b = kD r b g) : ∃ y, kMin r v g y ∧ xm_C sc xt_M (d + 1) 168 [.ref (L 0), .int (nI v), .ref p] S = some (.inl (some (.int (oJ9 y))), S) := by
  have hb6 := hW.bd.b6
  have hst := hW.st9 hv
  have hv4 := hW.bd.v4
  have lp : ∀ m s y v7, s + m = xst r v → oMi r v g s y → ∃ y', kMin r v g y' ∧ xm_R sc xt_M d 168 19 [.ref (L 0), .int (nI v), .ref p, .int (oJ9 y), .ref (L (20 + v)), .int (nI (xst r v)), .int (nI s), v7] [] S = some (.inl (some (.int (oJ9 y'))), S) := by
    intro m
    induction m with
    | zero =>
      intro s y v7 hs hy
      have e : s = xst r v := by omega
      subst e
      refine ⟨y, oMi_e hy, ?_⟩
      rw [yb_168_19, if_pos (nI_le (Nat.le_refl _) (by omega))]
    | succ m ih =>
      intro s y v7 hs hy
      have hs' : s < xst r v := by omega
      obtain ⟨b, hb, eb⟩ := kRt_at hW hv hs'
      have hi : sp_has r v (nI b) = true := sp_has_iff.mpr ⟨s, hs', eb⟩
      have one : ∀ s', s' < s + 1 → ∀ i, i < xnb r → r (15 + 11 * v + s') = nI i → (s' < s ∨ i = b) := by
        intro s' h1 i h2 h3
        by_cases e : s' = s
        · subst e
          exact Or.inr (nI_inj (by omega) (by omega) (h3.symm.trans eb))
        · exact Or.inl (by omega)
      rw [yb_168_19, if_neg (nI_ge (by omega) (by omega)), (hI.route hv).at hs' (by omega), zbs, eb, hA.at hb (by omega), zbs, hf b hb]
      rcases kD_s hW.bd hb hg with ⟨h1, h2⟩ | ⟨n, h0, h1, h2, h3⟩
      · rw [h1, if_pos (by decide), ← nI_succ]
        refine ih (s + 1) y _ (by omega) ?_
        cases y with
        | none =>
          intro s' k1 i k2 k3
          rcases one s' k1 i k2 k3 with k4 | k4
          · exact hy s' k4 i k2 k3
          · rw [k4]; exact h1
        | some q =>
          obtain ⟨y1, y2, y3⟩ := hy
          refine ⟨y1, y2, fun s' k1 i k2 k3 m' k5 k6 => ?_⟩
          rcases one s' k1 i k2 k3 with k4 | k4
          · exact y3 s' k4 i k2 k3 m' k5 k6
          · rw [k4, h1] at k6
            exact absurd k6.symm (toJ_ne (by omega))
      · rw [h1, if_neg (nI_pos (by omega)), zbs, ← nI_succ]
        cases y with
        | none =>
          rw [show (if nI n < oJ9 none then nI n else oJ9 none) = oJ9 (some n) from if_pos (nI_lt (b := 99) (by omega) (by omega))]
          refine ih (s + 1) (some n) _ (by omega) ⟨h0, ⟨b, hb, hi, h1⟩, fun s' k1 i k2 k3 m' k5 k6 => ?_⟩
          rcases one s' k1 i k2 k3 with k4 | k4
          · rw [hy s' k4 i k2 k3] at k6
            exact absurd k6.symm (toJ_ne (by omega))
          · rw [k4, h1] at k6
            exact Nat.le_of_eq (nI_inj (by omega) (by omega) k6)
        | some q =>
          obtain ⟨y1, y2, y3⟩ := hy
          by_cases hlt : n < q
          · rw [show (if nI n < oJ9 (some q) then nI n else oJ9 (some q)) = oJ9 (some n) from if_pos (nI_lt hlt (by omega))]
            refine ih (s + 1) (some n) _ (by omega) ⟨h0, ⟨b, hb, hi, h1⟩, fun s' k1 i k2 k3 m' k5 k6 => ?_⟩
            rcases one s' k1 i k2 k3 with k4 | k4
            · have := y3 s' k4 i k2 k3 m' k5 k6
              omega
            · rw [k4, h1] at k6
              exact Nat.le_of_eq (nI_inj (by omega) (by omega) k6)
          · rw [show (if nI n < oJ9 (some q) then nI n else oJ9 (some q)) = oJ9 (some q) from if_neg (nI_nlt (by omega) (by omega))]
            refine ih (s + 1) (some q) _ (by omega) ⟨y1, y2, fun s' k1 i k2 k3 m' k5 k6 => ?_⟩
            rcases one s' k1 i k2 k3 with k4 | k4
            · exact y3 s' k4 i k2 k3 m' k5 k6
            · rw [k4, h1] at k6
              have := nI_inj (by omega) (by omega) k6
              omega
  obtain ⟨y', j1, j2⟩ := lp (xst r v) 0 none .null (Nat.zero_add _) (fun s' hs' => absurd hs' (Nat.not_lt_zero s'))
  refine ⟨y', j1, ?_⟩
  rw [nI_0] at j2
  rw [yc_168, hI.g2, zbs, hI.routes.at hv (by omega), zbs, (hI.route hv).len (by decide), zbs]
  exact j2
/-- who stays in a van, who boards it -/
theorem oLeaves (hW : xWF r) (hf : kFar f r) {v b q : Nat} (hv : v < xnv r) (hb : b < xnb r) (hg : g < xnb r) (eg : sp_goal r q = nI g) (hh : sp_has r v (nI b) = true) {y : Option Nat} (hy : kMin r v g y) : sp_leaves f r q v (nI b) ↔ ¬ kD r b g < 0 ∧ ¬ oJ9 y < kD r b g := by
  rw [kLeaves hW hf hv hb hg eg hh]
  obtain ⟨z, hz, ez⟩ := kFA_s (v := v) hW.bd hg
  have := kMin_one hy hz
  subst this
  rw [ez]
  rcases kD_s hW.bd hb hg with ⟨h2, _⟩ | ⟨m, hm, h2, _⟩
  · rw [h2]
    exact ⟨fun h => absurd rfl h.1, fun h => absurd (by decide) h.1⟩
  · cases y with
    | none =>
      rw [hy b hb hh] at h2
      exact absurd h2.symm (toJ_ne (by omega))
    | some p =>
      rw [h2]
      exact ⟨fun h => ⟨nI_pos (by omega), h.2⟩, fun h => ⟨toJ_ne (by omega), h.2⟩⟩
theorem oGoes (hW : xWF r) (hf : kFar f r) {v b q : Nat} (hv : v < xnv r) (hb : b < xnb r) (hg : g < xnb r) (eg : sp_goal r q = nI g) (hh : sp_has r v (nI b) = true) {y : Option Nat} (hy : kMin r v g y) : sp_goes f r q v (nI b) = true ↔ ¬ kD r b g ≤ 0 ∧ ¬ kD r b g ≤ oJ9 y := by
  rw [kGoes hW hf hv hb hg eg hh]
  obtain ⟨z, hz, ez⟩ := kFA_s (v := v) hW.bd hg
  have := kMin_one hy hz
  subst this
  rw [ez]
  rcases kD_s hW.bd hb hg with ⟨h2, _⟩ | ⟨m, hm, h2, _⟩
  · rw [h2]
    exact ⟨fun h => absurd (by decide) h.1, fun h => absurd (by decide) h.1⟩
  · cases y with
    | none =>
      rw [hy b hb hh] at h2
      exact absurd h2.symm (toJ_ne (by omega))
    | some p =>
      rw [h2]
      obtain ⟨h1, ⟨i, i1, i2, i3⟩, h5⟩ := hy
      have h6 := h5 b hb hh m hm h2
      have ob : kO r b := (kD_ro hW.bd hb hg (by omega) h2).2.1
      obtain ⟨m', hm', h7⟩ := kD_tri hW.bd hb hg i1 ob ⟨v, hv, hh, i2⟩ (n := p) (by omega) i3
      have e7 := nI_inj (by omega) (by omega) (h2.symm.trans h7)
      cases m with
      | zero => exact ⟨fun h => absurd (show nI 0 < 1 by decide) h.1, fun h => absurd (show nI 0 ≤ 0 by decide) h.1⟩
      | succ m =>
        rw [nI_pred]
        constructor
        · rintro ⟨_, h⟩
          have e : p = m := nI_inj (by omega) (by omega) h
          exact ⟨nI_nle (by omega) (by omega), nI_ge (by omega) (by omega)⟩
        · rintro ⟨_, h⟩
          refine ⟨nI_nlt (b := 1) (by omega) (by omega), ?_⟩
          have : ¬ m + 1 ≤ p := fun z => h (nI_le z (by omega))
          show nI p = nI m
          rw [show p = m by omega]
theorem oc_169 (hW : xWF r) (hf : kFar f r) (hI : oI S L r x) {k v b : Nat} (hk : k < xnk r) (hv : v < xnv r) (hb : b < xnb r) (hh : sp_has r v (nI b) = true) : ∃ S', oF S S' 1 oN ∧ xm_C sc xt_M (d + 3) 169 [.ref (L 0), .int (nI k), .int (nI v), .int (nI b)] S = some (.inl (some (.int (zB (sp_goes f r k v (nI b) = true)))), S') := by
  have hb6 := hW.bd.b6
  rcases kGoal hW hk with hg | ⟨g, hg, eg, _⟩
  · refine ⟨S, oF.rf.mo (by omega) (fun _ _ _ => id), ?_⟩
    rw [yc_169, if_pos hI.is, oc_161 hW hI hk, zbs, xk_I, hg, if_neg (by decide), zB_ff (by unfold sp_goes; rw [if_pos hg]; exact Bool.noConfusion)]
  · obtain ⟨f', e1, e2⟩ := @oc_159 S L r x sc d g hW hI hg
    have hIT : oI (oTf S (xnb r) f') L r x := oTf_I hI (by omega)
    have e3 : ∀ b, b < xnb r → f' b = kD r b g := fun b hb => (e2 b hb).trans (kD_sym hW.bd hg hb)
    obtain ⟨y, hy, e4⟩ := @oc_168 (oTf S (xnb r) f') L r x sc (d + 1) g f' hW hIT v S.2.2.length hv hg oTf_A e3
    refine ⟨oTf S (xnb r) f', oF_P (by show xnb r ≤ 50; omega), ?_⟩
    have key := oGoes hW hf hv hb hg eg hh hy
    rw [yc_169, if_pos hI.is, oc_161 hW hI hk, zbs, xk_I, eg, if_pos (nI_pos' (by omega)), if_pos hI.is, e1, zbs, xk_R, oTf_A.at hb (by omega), zbs, e3 b hb]
    by_cases c1 : kD r b g ≤ 0
    · rw [if_pos c1, yb_169_47, zB_ff (fun z => (key.mp z).1 c1)]
    · rw [if_neg c1, if_pos hIT.is, e4, zbs, xk_I, oTf_A.at hb (by omega), zbs, e3 b hb]
      by_cases c2 : kD r b g ≤ oJ9 y
      · rw [if_pos c2, yb_169_47, zB_ff (fun z => (key.mp z).2 c2)]
      · rw [if_neg c2, zB_tt (key.mpr ⟨c1, c2⟩)]
theorem oc_172 (hW : xWF r) (hI : oI S L r x) {k i : Nat} (hk : k < xnk r) (hi : i < 9) : ∃ S', oF S S' 1 oN ∧ xm_C sc xt_M (d + 3) 172 [.ref (L 0), .int (nI k), .int (nI i)] S = some (.inl (some (.int (sp_num f r k (nI i)).1)), S') := by
  have hb6 := hW.bd.b6
  have hk20 := hW.bd.k20
  obtain ⟨h56, hh, h59, k02, k1, k34, -, -⟩ := hW.k k hk
  have self : oF S S 1 oN := oF.rf.mo (by omega) (fun _ _ _ => id)
  by_cases h8 : i = 8
  · subst h8
    have e0 : (sp_num f r k (nI 8)).1 = kLL r k := kLL_eq hW hk
    rw [e0]
    have c0 : ¬ (nI 8).toInt = 0 := by decide
    have c1 : ¬ (nI 8).toInt = 1 := by decide
    have c2 : ¬ (nI 8).toInt = 2 := by decide
    have c3 : ¬ (nI 8).toInt = 3 := by decide
    have c4 : ¬ (nI 8).toInt = 4 := by decide
    have c5 : ¬ (nI 8).toInt = 5 := by decide
    have c6 : ¬ (nI 8).toInt = 6 := by decide
    have c7 : ¬ (nI 8).toInt = 7 := by decide
    rcases kGoal hW hk with hg | ⟨g, hg, eg, _⟩
    · refine ⟨S, self, ?_⟩
      rw [yc_172, hI.g4, zbs, hI.books.at hk (by omega), zbs, if_neg c0, if_neg c1, if_neg c2, if_neg c3, if_neg c4, if_neg c5, if_neg c6, if_neg c7, if_pos hI.is, oc_161 hW hI hk, zbs, xk_I, hg, if_pos (by decide), yb_172_141]
      unfold kLL
      rw [if_neg (fun z => z.2 hg)]
    · have hgn : ¬ sp_goal r k = -1 := by rw [eg]; exact toJ_ne (by omega)
      have tail : (r (56 + 6 * k) = 0 ∨ r (56 + 6 * k) = 2) → ∃ S', oF S S' 1 oN ∧ xm_R sc xt_M (d + 2) 172 145 [.ref (L 0), .int (nI k), .int (nI 8), .ref (L (30 + k))] [] S = some (.inl (some (.int (kLL r k))), S') := fun h02 => by
        obtain ⟨f', e1, e2⟩ := @oc_159 S L r x sc d g hW hI hg
        have hIT : oI (oTf S (xnb r) f') L r x := oTf_I hI (by omega)
        have hp := k02 h02
        refine ⟨oTf S (xnb r) f', oF_P (by show xnb r ≤ 50; omega), ?_⟩
        rw [yb_172_145, if_pos hI.is, oc_161 hW hI hk, zbs, xk_I, eg, if_pos hI.is, e1, zbs, xk_R, hIT.t1 hk, zbs, oTf_A.atx hp (by omega), zbs, e2 _ hp.2, kD_sym hW.bd hg hp.2]
        unfold kLL
        rw [if_pos ⟨h02, hgn⟩, eg, nI_clamp (by omega)]
      by_cases h0 : r (56 + 6 * k) = 0
      · obtain ⟨S', t1, t2⟩ := tail (Or.inl h0)
        refine ⟨S', t1, ?_⟩
        rw [yc_172, hI.g4, zbs, hI.books.at hk (by omega), zbs, if_neg c0, if_neg c1, if_neg c2, if_neg c3, if_neg c4, if_neg c5, if_neg c6, if_neg c7, if_pos hI.is, oc_161 hW hI hk, zbs, xk_I, eg, if_neg (nI_pos (by omega)), hI.t0 hk, zbs, if_pos h0, t2]
      · by_cases h2 : r (56 + 6 * k) = 2
        · obtain ⟨S', t1, t2⟩ := tail (Or.inr h2)
          refine ⟨S', t1, ?_⟩
          rw [yc_172, hI.g4, zbs, hI.books.at hk (by omega), zbs, if_neg c0, if_neg c1, if_neg c2, if_neg c3, if_neg c4, if_neg c5, if_neg c6, if_neg c7, if_pos hI.is, oc_161 hW hI hk, zbs, xk_I, eg, if_neg (nI_pos (by omega)), hI.t0 hk, zbs, if_neg h0, zbs, if_pos h2, t2]
        · refine ⟨S, self, ?_⟩
          rw [yc_172, hI.g4, zbs, hI.books.at hk (by omega), zbs, if_neg c0, if_neg c1, if_neg c2, if_neg c3, if_neg c4, if_neg c5, if_neg c6, if_neg c7, if_pos hI.is, oc_161 hW hI hk, zbs, xk_I, eg, if_neg (nI_pos (by omega)), hI.t0 hk, zbs, if_neg h0, zbs, if_neg h2, yb_172_141]
          unfold kLL
          rw [if_neg (fun z => z.1.elim h0 h2)]
  · refine ⟨S, self, ?_⟩
    rw [yc_172, hI.g4, zbs, hI.books.at hk (by omega), zbs]
    have hcs : i = 0 ∨ i = 1 ∨ i = 2 ∨ i = 3 ∨ i = 4 ∨ i = 5 ∨ i = 6 ∨ i = 7 := by omega
    rcases hcs with e | e | e | e | e | e | e | e <;> subst e
    · rw [if_pos (by decide), hI.t0 hk, zbs]; rfl
    · rw [if_neg (by decide), if_pos (by decide), hI.t0 hk, zbs]
      show _ = (some (.inl (some (.int (r (57 + 6 * k)))), S) : Option xm_O)
      have h5 := h56.2
      have e5 := h56.1
      by_cases h3 : r (56 + 6 * k) = 3 ∨ r (56 + 6 * k) = 4
      · rw [k34 h3, if_neg (by rcases h3 with z | z <;> rw [z] <;> decide)]
      · rw [if_pos, hI.t1 hk, zbs]
        rw [e5] at h3 ⊢
        refine nI_le (b := 2) ?_ (by omega)
        apply Classical.byContradiction
        intro hn
        have : (r (56 + 6 * k)).toNatClampNeg = 3 ∨ (r (56 + 6 * k)).toNatClampNeg = 4 := by omega
        rcases this with z | z <;> rw [z] at h3
        · exact h3 (Or.inl rfl)
        · exact h3 (Or.inr rfl)
    · rw [if_neg (by decide), if_neg (by decide), if_pos (by decide), hI.t2 hk, zbs]; rfl
    · rw [if_neg (by decide), if_neg (by decide), if_neg (by decide), if_pos (by decide), if_pos hI.is, oc_161 hW hI hk, zbs, xk_I]; rfl
    · rw [if_neg (by decide), if_neg (by decide), if_neg (by decide), if_neg (by decide), if_pos (by decide), if_pos hI.is, oc_164 hW hI, zbs, xk_I]; rfl
    · rw [if_neg (by decide), if_neg (by decide), if_neg (by decide), if_neg (by decide), if_neg (by decide), if_pos (by decide), hI.t5 hk, zbs]
      show _ = (some (.inl (some (.int (r (59 + 6 * k)))), S) : Option xm_O)
      rcases h59 with z | z
      · rw [if_pos z, z]
      · rw [if_neg (by rw [z]; decide), z]
    · rw [if_neg (by decide), if_neg (by decide), if_neg (by decide), if_neg (by decide), if_neg (by decide), if_neg (by decide), if_pos (by decide), hI.t3 hk, zbs]; rfl
    · rw [if_neg (by decide), if_neg (by decide), if_neg (by decide), if_neg (by decide), if_neg (by decide), if_neg (by decide), if_neg (by decide), if_pos (by decide), hI.t4 hk, zbs]; rfl
end OB
