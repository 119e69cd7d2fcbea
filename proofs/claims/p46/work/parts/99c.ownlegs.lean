/-! OWN: the legs -/
def oTf (S : xm_PS) (n : Nat) (f : Nat → Int32) : xm_PS := oP S (.inl (0, n, .inl f))
def oPd (r : Nat → Int32) (g dd : Nat) (f : Nat → Int32) : Prop := ∀ b, b < xnb r → (f b = -1 ∧ ¬ kRt r g dd b) ∨ ∃ n, n ≤ dd ∧ f b = nI n ∧ kWk r n g b ∧ ∀ m, kWk r m g b → n ≤ m
def oLv (r : Nat → Int32) (g dd : Nat) (f0 f : Nat → Int32) : Prop := ∀ b, b < xnb r → f b = f0 b ∨ (f0 b = -1 ∧ f b = nI (dd + 1) ∧ kWk r (dd + 1) g b)
def oPs (r : Nat → Int32) (v s : Nat) (f : Nat → Int32) : Prop := ∀ s', s' < s → ∀ b, b < xnb r → r (15 + 11 * v + s') = nI b → r (6 + b) = 1 → ¬ f b = -1
def oPv (r : Nat → Int32) (a v : Nat) (f : Nat → Int32) : Prop := ∀ v', v' < v → ∀ b, b < xnb r → sp_has r v' (nI a) = true → sp_has r v' (nI b) = true → r (6 + b) = 1 → ¬ f b = -1
def oPa (r : Nat → Int32) (dd : Nat) (f0 : Nat → Int32) (a : Nat) (f : Nat → Int32) : Prop := ∀ a', a' < a → f0 a' = nI dd → oPv r a' (xnv r) f
def oMn (r f f' : Nat → Int32) : Prop := ∀ b, b < xnb r → ¬ f b = -1 → ¬ f' b = -1
theorem kL_sym {r : Nat → Int32} {a b : Nat} (h : kL r a b) : kL r b a := by
  obtain ⟨h1, h2, h3, h4⟩ := h
  obtain ⟨v, v1, v2, v3⟩ := sp_link_iff.mp h4
  exact ⟨h2, h1, Ne.symm h3, sp_link_iff.mpr ⟨v, v1, v3, v2⟩⟩
theorem kWk_sym {r : Nat → Int32} : ∀ n a b, kWk r n a b → kWk r n b a := by
  intro n
  induction n with
  | zero =>
    rintro a b ⟨rfl, h⟩
    exact ⟨rfl, h⟩
  | succ n ih =>
    rintro a b ⟨c, h1, h2⟩
    exact kWk_app n 1 b c a (ih c b h2) (kWk_one (kL_sym h1))
theorem kD_sym {r : Nat → Int32} (hB : xBd r) {a b : Nat} (ha : a < xnb r) (hb : b < xnb r) : kD r a b = kD r b a := by
  rcases kD_s hB ha hb with ⟨h1, h2⟩ | ⟨n, h0, h1, h2, h3⟩
  · rcases kD_s hB hb ha with ⟨g1, g2⟩ | ⟨m, g0, g1, g2, g3⟩
    · rw [h1, g1]
    · exact absurd (kWk_sym m b a g2) (h2 m)
  · rcases kD_s hB hb ha with ⟨g1, g2⟩ | ⟨m, g0, g1, g2, g3⟩
    · exact absurd (kWk_sym n a b h2) (g2 n)
    · have := h3 m (kWk_sym m b a g2)
      have := g3 n (kWk_sym n a b h2)
      rw [h1, g1, show n = m by omega]
/-- no more steps than branches -/
theorem kShort {r : Nat → Int32} (h2 : 2 ≤ xnb r) {n a b : Nat} (h4 : n ≤ 4) (h : kWk r n a b) (hm : ∀ m, kWk r m a b → n ≤ m) : n ≤ xnb r := by
  apply Classical.byContradiction
  intro hn
  obtain ⟨k, rfl⟩ : ∃ k, n = k + 3 := ⟨n - 3, by omega⟩
  obtain ⟨c1, l1, c2, l2, c3, l3, w⟩ := h
  have a1 := l1.1.1
  have a2 := l2.1.1
  have a3 := l3.1.1
  have a4 := l3.2.1.1
  have n1 := l1.2.2.1
  have n2 := l2.2.2.1
  have n3 := l3.2.2.1
  have e : a = c2 ∨ a = c3 ∨ c1 = c3 := by omega
  rcases e with e | e | e
  · subst e
    have := hm (k + 1) ⟨c3, l3, w⟩
    omega
  · subst e
    have := hm k w
    omega
  · subst e
    have := hm (k + 1) ⟨c1, l1, w⟩
    omega
section OL
variable {S : xm_PS} {L : Nat → Nat} {r : Nat → Int32} {x : Int32} {sc : xm_Sc} {d g dd : Nat} {f0 f f1 : Nat → Int32}
theorem oPd_s (hdd : dd < 6) (h0 : oPd r g dd f0) (hL : oLv r g dd f0 f) (hA : oPa r dd f0 (xnb r) f) : oPd r g (dd + 1) f := by
  intro b hb
  rcases hL b hb with e | ⟨e0, e1, w⟩
  · rcases h0 b hb with ⟨h1, h2⟩ | ⟨n, n1, n2, n3, n4⟩
    · refine Or.inl ⟨e.trans h1, ?_⟩
      rintro ⟨n, hn, w⟩
      by_cases hd : n ≤ dd
      · exact h2 ⟨n, hd, w⟩
      · have hn1 : n = dd + 1 := by omega
        subst hn1
        obtain ⟨c, w1, l⟩ := kWk_end dd g b w
        have hc := l.1.1
        rcases h0 c hc with ⟨c1, c2⟩ | ⟨m, m1, m2, m3, m4⟩
        · exact c2 ⟨dd, Nat.le_refl _, w1⟩
        · by_cases hm : m = dd
          · subst hm
            obtain ⟨v, v1, v2, v3⟩ := sp_link_iff.mp l.2.2.2
            exact hA c hc m2 v v1 b hb v2 v3 l.2.1.2 (e.trans h1)
          · exact h2 ⟨m + 1, by omega, kWk_app m 1 g c b m3 (kWk_one l)⟩
    · exact Or.inr ⟨n, by omega, e.trans n2, n3, n4⟩
  · refine Or.inr ⟨dd + 1, Nat.le_refl _, e1, w, fun m hm => ?_⟩
    apply Classical.byContradiction
    intro hlt
    rcases h0 b hb with ⟨h1, h2⟩ | ⟨n, n1, n2, n3, n4⟩
    · exact h2 ⟨m, by omega, hm⟩
    · rw [e0] at n2
      have := n4 m hm
      have := n4 (dd + 1) w
      exact toJ_ne (by omega) n2.symm
theorem oPd_e (hW : xWF r) (hg : g < xnb r) (h : oPd r g (xnb r) f) {b : Nat} (hb : b < xnb r) : f b = kD r g b := by
  rcases kD_s hW.bd hg hb with ⟨h1, h2⟩ | ⟨n, h0, h1, h2, h3⟩
  · rcases h b hb with ⟨g1, g2⟩ | ⟨m, g0, g1, g2, g3⟩
    · rw [h1, g1]
    · exact absurd g2 (h2 m)
  · rcases h b hb with ⟨g1, g2⟩ | ⟨m, g0, g1, g2, g3⟩
    · exact absurd ⟨n, kShort hW.n.1 h0 h2 h3, h2⟩ g2
    · have := h3 m g2
      have := g3 n h2
      rw [h1, g1, show n = m by omega]
theorem oTf_A {n : Nat} : oA (oTf S n f) S.2.2.length 0 n f := ⟨f, oP_at, fun _ _ => rfl⟩
theorem oTf_w {n i : Nat} {y : Int32} (hi : i < n) (hn : n < 2 ^ 31) : xm_wI (oTf S n f) S.2.2.length 0 (nI i) y = some (oTf S n (upd f i y)) := by
  unfold xm_wI xm_gA
  rw [show (oTf S n f).2.2[S.2.2.length]? = some (.inl (0, n, .inl f)) from oP_at]
  dsimp only
  rw [if_pos rfl]
  dsimp only
  rw [if_pos (xin hi hn), nI_clamp (by omega)]
  unfold xm_set oTf oP
  dsimp only
  rw [List.set_append_right _ _ (Nat.le_refl _), Nat.sub_self]
  rfl
theorem oTf_I {n : Nat} (hI : oI S L r x) (hn : n ≤ 50) : oI (oTf S n f) L r x := hI.nw (m := 1) (oF_P hn)
/-- along a route -/
theorem ol_117 (hW : xWF r) (hI : oI S L r x) (hdd : dd < 6) {a v : Nat} (ha : a < xnb r) (hv : v < xnv r) (hP : oPd r g dd f0) (fa : f0 a = nI dd) (hav : sp_has r v (nI a) = true) (h1 : oLv r g dd f0 f1) {v9 : Value} :
    ∃ f', (oLv r g dd f0 f' ∧ oMn r f1 f' ∧ oPs r v (xst r v) f') ∧ ∃ y6 y7 y8 y9, xm_R sc xt_M d 159 117 [.ref (L 0), .int (nI g), .ref S.2.2.length, .int (nI dd), .int (nI a), .int (nI v), .ref (L (20 + v)), .int (nI (xst r v)), .int (nI 0), v9] [] (oTf S (xnb r) f1) = xm_R sc xt_M d 159 161 [.ref (L 0), .int (nI g), .ref S.2.2.length, .int (nI dd), .int (nI a), .int (nI v), y6, y7, y8, y9] [] (oTf S (xnb r) f') := by
  have hb6 := hW.bd.b6
  have hst := hW.st9 hv
  have wa : kWk r dd g a := by
    rcases hP a ha with ⟨e, -⟩ | ⟨n, n1, n2, n3, -⟩
    · rw [fa] at e
      exact absurd e (toJ_ne (by omega))
    · have := nI_inj (by omega) (by omega) (fa.symm.trans n2)
      subst this
      exact n3
  have stp : ∀ (s : Nat) (u : (Nat → Int32) × Value), s < xst r v → (oLv r g dd f0 u.1 ∧ oMn r f1 u.1 ∧ oPs r v s u.1) → ∃ u' : (Nat → Int32) × Value, (oLv r g dd f0 u'.1 ∧ oMn r f1 u'.1 ∧ oPs r v (s + 1) u'.1) ∧
      xm_R sc xt_M d 159 117 [.ref (L 0), .int (nI g), .ref S.2.2.length, .int (nI dd), .int (nI a), .int (nI v), .ref (L (20 + v)), .int (nI (xst r v)), .int (nI s), u.2] [] (oTf S (xnb r) u.1) = xm_R sc xt_M d 159 117 [.ref (L 0), .int (nI g), .ref S.2.2.length, .int (nI dd), .int (nI a), .int (nI v), .ref (L (20 + v)), .int (nI (xst r v)), .int (nI (s + 1)), u'.2] [] (oTf S (xnb r) u'.1) := by
    rintro s ⟨f, y9⟩ hs ⟨i1, i2, i3⟩
    dsimp only at i1 i2 i3 ⊢
    have hIT : oI (oTf S (xnb r) f) L r x := oTf_I hI (by omega)
    obtain ⟨b, hb, eb⟩ := kRt_at hW hv hs
    have keep : ∀ f' : Nat → Int32, (r (6 + b) = 1 → ¬ f' b = -1) → oMn r f f' → oPs r v (s + 1) f' := by
      intro f' hf' hmn s' hs' b' hb' e ho
      by_cases es : s' = s
      · subst es
        have : b' = b := nI_inj (by omega) (by omega) (e.symm.trans eb)
        subst this
        exact hf' ho
      · exact hmn b' hb' (i3 s' (by omega) b' hb' e ho)
    rw [yb_159_117, if_neg (nI_ge (by omega) (by omega)), (hIT.route hv).at hs (by omega), zbs, hIT.g0, zbs, eb, hIT.op.at hb (by omega), zbs]
    rcases hW.o b (by omega) with h | h
    · rw [if_pos h, yb_159_155, ← nI_succ]
      exact ⟨(f, .int (nI b)), ⟨i1, i2, keep f (fun z => absurd (h.symm.trans z) (by decide)) (fun _ _ z => z)⟩, rfl⟩
    · rw [if_neg (by rw [h]; decide), oTf_A.at hb (by omega), zbs]
      by_cases hf : 0 ≤ f b
      · rw [if_pos hf, yb_159_155, ← nI_succ]
        refine ⟨(f, .int (nI b)), ⟨i1, i2, keep f (fun _ z => ?_) (fun _ _ z => z)⟩, rfl⟩
        rw [z] at hf
        exact absurd hf (by decide)
      · have fb : f b = -1 ∧ f0 b = -1 := by
          rcases i1 b hb with e | ⟨e0, e1, w⟩
          · rcases hP b hb with ⟨e2, -⟩ | ⟨n, n1, n2, n3, -⟩
            · exact ⟨e.trans e2, e2⟩
            · exact absurd (show 0 ≤ f b by rw [e, n2]; exact nI_pos' (by omega)) hf
          · exact absurd (show 0 ≤ f b by rw [e1]; exact nI_pos' (by omega)) hf
        rw [if_neg hf, ← nI_succ, oTf_w hb (by omega), zbs, yb_159_155, ← nI_succ]
        have hab : a ≠ b := fun e => by
          subst e
          rw [fa] at fb
          exact toJ_ne (by omega) fb.2
        have hw : kWk r (dd + 1) g b := kWk_app dd 1 g a b wa (kWk_one ⟨(kWk_o wa).2, ⟨hb, h⟩, hab, sp_link_iff.mpr ⟨v, hv, hav, sp_has_iff.mpr ⟨s, hs, eb⟩⟩⟩)
        have nb1 : ∀ b', upd f b (nI (dd + 1)) b' = if b' = b then nI (dd + 1) else f b' := fun _ => rfl
        have mn : oMn r f (upd f b (nI (dd + 1))) := by
          intro b' _ hz
          rw [nb1]
          split
          · exact toJ_ne (by omega)
          · exact hz
        refine ⟨(upd f b (nI (dd + 1)), .int (nI b)), ⟨fun b' hb' => ?_, fun b' hb' hz => mn b' hb' (i2 b' hb' hz), keep _ (fun _ => ?_) mn⟩, rfl⟩
        · show upd f b (nI (dd + 1)) b' = _ ∨ (_ ∧ upd f b (nI (dd + 1)) b' = _ ∧ _)
          rw [nb1]
          by_cases e : b' = b
          · subst e
            rw [if_pos rfl]
            exact Or.inr ⟨fb.2, rfl, hw⟩
          · rw [if_neg e]
            exact i1 b' hb'
        · show ¬ upd f b (nI (dd + 1)) b = -1
          rw [nb1, if_pos rfl]
          exact toJ_ne (by omega)
  obtain ⟨u, ⟨u1, u2, u3⟩, eu⟩ := xlpE (fun s (u : (Nat → Int32) × Value) => xm_R sc xt_M d 159 117 [.ref (L 0), .int (nI g), .ref S.2.2.length, .int (nI dd), .int (nI a), .int (nI v), .ref (L (20 + v)), .int (nI (xst r v)), .int (nI s), u.2] [] (oTf S (xnb r) u.1)) (fun s u => oLv r g dd f0 u.1 ∧ oMn r f1 u.1 ∧ oPs r v s u.1) (xst r v) stp (f1, v9) ⟨h1, fun _ _ z => z, fun s' hs' => absurd hs' (Nat.not_lt_zero s')⟩
  refine ⟨u.1, ⟨u1, u2, u3⟩, .ref (L (20 + v)), .int (nI (xst r v)), .int (nI (xst r v)), u.2, ?_⟩
  dsimp only at eu
  rw [eu, yb_159_117, if_pos (nI_le (Nat.le_refl _) (by omega))]
/-- over the vans -/
theorem ol_76 (hW : xWF r) (hI : oI S L r x) (hdd : dd < 6) {a : Nat} (ha : a < xnb r) (hP : oPd r g dd f0) (fa : f0 a = nI dd) (h1 : oLv r g dd f0 f1) {v6 v7 v8 v9 : Value} :
    ∃ f', (oLv r g dd f0 f' ∧ oMn r f1 f' ∧ oPv r a (xnv r) f') ∧ ∃ y5 y6 y7 y8 y9, xm_R sc xt_M (d + 1) 159 76 [.ref (L 0), .int (nI g), .ref S.2.2.length, .int (nI dd), .int (nI a), .int (nI 0), v6, v7, v8, v9] [] (oTf S (xnb r) f1) = xm_R sc xt_M (d + 1) 159 167 [.ref (L 0), .int (nI g), .ref S.2.2.length, .int (nI dd), .int (nI a), y5, y6, y7, y8, y9] [] (oTf S (xnb r) f') := by
  have hb6 := hW.bd.b6
  have hv4 := hW.bd.v4
  have stp : ∀ (v : Nat) (u : (Nat → Int32) × Value × Value × Value × Value), v < xnv r → (oLv r g dd f0 u.1 ∧ oMn r f1 u.1 ∧ oPv r a v u.1) → ∃ u' : (Nat → Int32) × Value × Value × Value × Value, (oLv r g dd f0 u'.1 ∧ oMn r f1 u'.1 ∧ oPv r a (v + 1) u'.1) ∧
      xm_R sc xt_M (d + 1) 159 76 [.ref (L 0), .int (nI g), .ref S.2.2.length, .int (nI dd), .int (nI a), .int (nI v), u.2.1, u.2.2.1, u.2.2.2.1, u.2.2.2.2] [] (oTf S (xnb r) u.1) = xm_R sc xt_M (d + 1) 159 76 [.ref (L 0), .int (nI g), .ref S.2.2.length, .int (nI dd), .int (nI a), .int (nI (v + 1)), u'.2.1, u'.2.2.1, u'.2.2.2.1, u'.2.2.2.2] [] (oTf S (xnb r) u'.1) := by
    rintro v ⟨f, y6, y7, y8, y9⟩ hv ⟨i1, i2, i3⟩
    dsimp only at i1 i2 i3 ⊢
    have hst := hW.st9 hv
    have hIT : oI (oTf S (xnb r) f) L r x := oTf_I hI (by omega)
    rw [yb_159_76, hIT.g2, zbs, hIT.routes.len (by decide), zbs, if_neg (nI_ge (by omega) (by omega)), if_pos hIT.is, oc_158 hW hIT hv, zbs, xk_I]
    by_cases hav : sp_has r v (nI a) = true
    · rw [zB_tt hav, if_neg (by decide), hIT.g2, zbs, hIT.routes.at hv (by omega), zbs, (hIT.route hv).len (by decide), zbs]
      obtain ⟨f', ⟨j1, j2, j3⟩, z6, z7, z8, z9, ej⟩ := @ol_117 S L r x sc (d + 1) g dd f0 f hW hI hdd a v ha hv hP fa hav i1 y9
      rw [nI_0] at ej
      rw [ej, yb_159_161, ← nI_succ]
      refine ⟨(f', z6, z7, z8, z9), ⟨j1, fun b hb z => j2 b hb (i2 b hb z), fun v' hv' b hb e1 e2 ho => ?_⟩, rfl⟩
      by_cases ev : v' = v
      · subst ev
        obtain ⟨s, s1, s2⟩ := sp_has_iff.mp e2
        exact j3 s s1 b hb s2 ho
      · exact j2 b hb (i3 v' (by omega) b hb e1 e2 ho)
    · rw [zB_ff hav, if_pos rfl, yb_159_161, ← nI_succ]
      refine ⟨(f, y6, y7, y8, y9), ⟨i1, i2, fun v' hv' b hb e1 e2 ho => ?_⟩, rfl⟩
      by_cases ev : v' = v
      · subst ev
        exact absurd e1 hav
      · exact i3 v' (by omega) b hb e1 e2 ho
  obtain ⟨u, ⟨u1, u2, u3⟩, eu⟩ := xlpE (fun v (u : (Nat → Int32) × Value × Value × Value × Value) => xm_R sc xt_M (d + 1) 159 76 [.ref (L 0), .int (nI g), .ref S.2.2.length, .int (nI dd), .int (nI a), .int (nI v), u.2.1, u.2.2.1, u.2.2.2.1, u.2.2.2.2] [] (oTf S (xnb r) u.1)) (fun v u => oLv r g dd f0 u.1 ∧ oMn r f1 u.1 ∧ oPv r a v u.1) (xnv r) stp (f1, v6, v7, v8, v9) ⟨h1, fun _ _ z => z, fun s' hs' => absurd hs' (Nat.not_lt_zero s')⟩
  refine ⟨u.1, ⟨u1, u2, u3⟩, .int (nI (xnv r)), u.2.1, u.2.2.1, u.2.2.2.1, u.2.2.2.2, ?_⟩
  dsimp only at eu
  have hIT : oI (oTf S (xnb r) u.1) L r x := oTf_I hI (by omega)
  rw [eu, yb_159_76, hIT.g2, zbs, hIT.routes.len (by decide), zbs, if_pos (nI_le (Nat.le_refl _) (by omega))]
/-- over the branches -/
theorem ol_55 (hW : xWF r) (hI : oI S L r x) (hdd : dd < 6) (hP : oPd r g dd f0) {v5 v6 v7 v8 v9 : Value} :
    ∃ f', oPd r g (dd + 1) f' ∧ ∃ y4 y5 y6 y7 y8 y9, xm_R sc xt_M (d + 1) 159 55 [.ref (L 0), .int (nI g), .ref S.2.2.length, .int (nI dd), .int (nI 0), v5, v6, v7, v8, v9] [] (oTf S (xnb r) f0) = xm_R sc xt_M (d + 1) 159 46 [.ref (L 0), .int (nI g), .ref S.2.2.length, .int (nI (dd + 1)), y4, y5, y6, y7, y8, y9] [] (oTf S (xnb r) f') := by
  have hb6 := hW.bd.b6
  have stp : ∀ (a : Nat) (u : (Nat → Int32) × Value × Value × Value × Value × Value), a < xnb r → (oLv r g dd f0 u.1 ∧ oPa r dd f0 a u.1) → ∃ u' : (Nat → Int32) × Value × Value × Value × Value × Value, (oLv r g dd f0 u'.1 ∧ oPa r dd f0 (a + 1) u'.1) ∧
      xm_R sc xt_M (d + 1) 159 55 [.ref (L 0), .int (nI g), .ref S.2.2.length, .int (nI dd), .int (nI a), u.2.1, u.2.2.1, u.2.2.2.1, u.2.2.2.2.1, u.2.2.2.2.2] [] (oTf S (xnb r) u.1) = xm_R sc xt_M (d + 1) 159 55 [.ref (L 0), .int (nI g), .ref S.2.2.length, .int (nI dd), .int (nI (a + 1)), u'.2.1, u'.2.2.1, u'.2.2.2.1, u'.2.2.2.2.1, u'.2.2.2.2.2] [] (oTf S (xnb r) u'.1) := by
    rintro a ⟨f, y5, y6, y7, y8, y9⟩ ha ⟨i1, i3⟩
    dsimp only at i1 i3 ⊢
    rw [yb_159_55, oTf_A.len (by decide), zbs, if_neg (nI_ge (by omega) (by omega)), oTf_A.at ha (by omega), zbs]
    have hfa : f a = nI dd ↔ f0 a = nI dd := by
      rcases i1 a ha with e | ⟨e0, e1, w⟩
      · rw [e]
      · rw [e0, e1]
        exact ⟨fun z => absurd (nI_inj (by omega) (by omega) z) (by omega), fun z => absurd z.symm (toJ_ne (by omega))⟩
    by_cases hf : f a = nI dd
    · rw [if_pos hf]
      obtain ⟨f', ⟨j1, j2, j3⟩, z5, z6, z7, z8, z9, ej⟩ := @ol_76 S L r x sc d g dd f0 f hW hI hdd a ha hP (hfa.mp hf) i1 y6 y7 y8 y9
      rw [nI_0] at ej
      rw [ej, yb_159_167, ← nI_succ]
      refine ⟨(f', z5, z6, z7, z8, z9), ⟨j1, fun a' ha' e => ?_⟩, rfl⟩
      by_cases ea : a' = a
      · subst ea
        exact j3
      · exact fun v' hv' b hb e1 e2 ho => j2 b hb (i3 a' (by omega) e v' hv' b hb e1 e2 ho)
    · rw [if_neg hf, yb_159_167, ← nI_succ]
      refine ⟨(f, y5, y6, y7, y8, y9), ⟨i1, fun a' ha' e => ?_⟩, rfl⟩
      by_cases ea : a' = a
      · subst ea
        exact absurd (hfa.mpr e) hf
      · exact i3 a' (by omega) e
  obtain ⟨u, ⟨u1, u2⟩, eu⟩ := xlpE (fun a (u : (Nat → Int32) × Value × Value × Value × Value × Value) => xm_R sc xt_M (d + 1) 159 55 [.ref (L 0), .int (nI g), .ref S.2.2.length, .int (nI dd), .int (nI a), u.2.1, u.2.2.1, u.2.2.2.1, u.2.2.2.2.1, u.2.2.2.2.2] [] (oTf S (xnb r) u.1)) (fun a u => oLv r g dd f0 u.1 ∧ oPa r dd f0 a u.1) (xnb r) stp (f0, v5, v6, v7, v8, v9) ⟨fun _ _ => Or.inl rfl, fun s' hs' => absurd hs' (Nat.not_lt_zero s')⟩
  refine ⟨u.1, oPd_s hdd hP u1 u2, .int (nI (xnb r)), u.2.1, u.2.2.1, u.2.2.2.1, u.2.2.2.2.1, u.2.2.2.2.2, ?_⟩
  dsimp only at eu
  rw [eu, yb_159_55, oTf_A.len (by decide), zbs, if_pos (nI_le (Nat.le_refl _) (by omega)), ← nI_succ]
/-- level by level -/
theorem ol_46 (hW : xWF r) (hI : oI S L r x) (hP : oPd r g 0 f0) {v4 v5 v6 v7 v8 v9 : Value} :
    ∃ f', oPd r g (xnb r) f' ∧ xm_R sc xt_M (d + 1) 159 46 [.ref (L 0), .int (nI g), .ref S.2.2.length, .int (nI 0), v4, v5, v6, v7, v8, v9] [] (oTf S (xnb r) f0) = some (.inl (some (.ref S.2.2.length)), oTf S (xnb r) f') := by
  have hb6 := hW.bd.b6
  have lp : ∀ m dd f v4 v5 v6 v7 v8 v9, dd + m = xnb r → oPd r g dd f → ∃ f', oPd r g (xnb r) f' ∧ xm_R sc xt_M (d + 1) 159 46 [.ref (L 0), .int (nI g), .ref S.2.2.length, .int (nI dd), v4, v5, v6, v7, v8, v9] [] (oTf S (xnb r) f) = some (.inl (some (.ref S.2.2.length)), oTf S (xnb r) f') := by
    intro m
    induction m with
    | zero =>
      intro dd f v4 v5 v6 v7 v8 v9 hm hf
      have e : dd = xnb r := by omega
      refine ⟨f, e ▸ hf, ?_⟩
      rw [yb_159_46, oTf_A.len (by decide), zbs, if_pos (nI_le (by omega) (by omega))]
    | succ m ih =>
      intro dd f v4 v5 v6 v7 v8 v9 hm hf
      obtain ⟨f', j1, z4, z5, z6, z7, z8, z9, ej⟩ := @ol_55 S L r x sc d g dd f hW hI (by omega) hf v5 v6 v7 v8 v9
      rw [nI_0] at ej
      obtain ⟨f'', k1, ek⟩ := ih (dd + 1) f' z4 z5 z6 z7 z8 z9 (by omega) j1
      refine ⟨f'', k1, ?_⟩
      rw [yb_159_46, oTf_A.len (by decide), zbs, if_neg (nI_ge (by omega) (by omega)), ej, ek]
  exact lp (xnb r) 0 f0 v4 v5 v6 v7 v8 v9 (Nat.zero_add _) hP
theorem oc_159 (hW : xWF r) (hI : oI S L r x) (hg : g < xnb r) : ∃ f, xm_C sc xt_M (d + 2) 159 [.ref (L 0), .int (nI g)] S = some (.inl (some (.ref S.2.2.length)), oTf S (xnb r) f) ∧ ∀ b, b < xnb r → f b = kD r g b := by
  have hb6 := hW.bd.b6
  have lp : ∀ m k f, k + m = xnb r → (∀ j, j < k → f j = if j = g ∧ r (6 + j) = 1 then 0 else -1) → ∃ f', oPd r g (xnb r) f' ∧ xm_R sc xt_M (d + 1) 159 10 [.ref (L 0), .int (nI g), .ref S.2.2.length, .int (nI k), .null, .null, .null, .null, .null, .null] [] (oTf S (xnb r) f) = some (.inl (some (.ref S.2.2.length)), oTf S (xnb r) f') := by
    intro m
    induction m with
    | zero =>
      intro k f hk hf
      have hP : oPd r g 0 f := by
        intro b hb
        rw [hf b (by omega)]
        by_cases e : b = g ∧ r (6 + b) = 1
        · rw [if_pos e]
          obtain ⟨e1, e2⟩ := e
          subst e1
          exact Or.inr ⟨0, Nat.le_refl _, nI_0.symm, ⟨rfl, hb, e2⟩, fun m _ => Nat.zero_le m⟩
        · rw [if_neg e]
          refine Or.inl ⟨rfl, ?_⟩
          rintro ⟨n, hn, w⟩
          have : n = 0 := by omega
          subst this
          exact e ⟨w.1.symm, w.1 ▸ w.2.2⟩
      obtain ⟨f', j1, ej⟩ := @ol_46 S L r x sc d g f hW hI hP .null .null .null .null .null .null
      refine ⟨f', j1, ?_⟩
      rw [nI_0] at ej
      rw [yb_159_10, oTf_A.len (by decide), zbs, if_pos (nI_le (by omega) (by omega)), ej]
    | succ m ih =>
      intro k f hk hf
      have hk' : k < xnb r := by omega
      have hIT : oI (oTf S (xnb r) f) L r x := oTf_I hI (by omega)
      have nx : ∀ y : Int32, y = (if k = g ∧ r (6 + k) = 1 then 0 else -1) → ∀ j, j < k + 1 → upd f k y j = if j = g ∧ r (6 + j) = 1 then 0 else -1 := by
        intro y hy j hj
        show (if j = k then y else f j) = _
        by_cases e : j = k
        · subst e
          rw [if_pos rfl, hy]
        · rw [if_neg e]
          exact hf j (by omega)
      rw [yb_159_10, oTf_A.len (by decide), zbs, if_neg (nI_ge (by omega) (by omega))]
      by_cases e : k = g
      · rw [if_pos (by rw [e]), hIT.g0, zbs, hIT.op.at hk' (by omega), zbs]
        rcases hW.o k (by omega) with h | h
        · rw [if_pos h, oTf_w hk' (by omega), zbs, ← nI_succ]
          exact ih (k + 1) _ (by omega) (nx _ (by rw [if_neg (fun z => absurd (h.symm.trans z.2) (by decide))]))
        · rw [if_neg (by rw [h]; decide), oTf_w hk' (by omega), zbs, ← nI_succ]
          exact ih (k + 1) _ (by omega) (nx _ (by rw [if_pos ⟨e, h⟩]))
      · rw [if_neg (fun z => e (nI_inj (by omega) (by omega) z)), oTf_w hk' (by omega), zbs, ← nI_succ]
        exact ih (k + 1) _ (by omega) (nx _ (by rw [if_neg (fun z => e z.1)]))
  obtain ⟨f', j1, ej⟩ := lp (xnb r) 0 (fun _ => 0) (Nat.zero_add _) (fun j hj => absurd hj (Nat.not_lt_zero j))
  refine ⟨f', ?_, fun b hb => oPd_e hW hg j1 hb⟩
  rw [nI_0] at ej
  rw [yc_159, hI.g0, zbs, hI.op.len (by decide), zbs, if_neg (nI_pos (by omega)), nI_clamp (by omega), if_pos (by omega), oP_eq hI.fl hI.f0]
  exact ej
end OL
