/-! THE LAW: what was, in its array; the undoing -/
def oG (S : xm_PS) (h : Nat) (g : Nat → Int64) (n : Nat) : Prop := ∃ f, S.2.2[h]? = some (.inl (2, 10, .inr (.inl f))) ∧ ∀ p, p < n → f p = g p
def szB (S : xm_PS) (a b : Nat) : Prop := S.2.2.length ≤ a ∧ xm_sn S ≤ b
section WE
variable {S S' : xm_PS} {h m n a b : Nat} {g : Nat → Int64} {W : Nat → Prop}
theorem szB.oF (hz : szB S a b) (hF : oF S S' m W) : szB S' (a + m) (b + 50 * m) := by
  obtain ⟨z1, z2⟩ := hz
  have f1 := hF.2.2.1
  have f2 := hF.2.2.2.1
  exact ⟨Nat.le_trans f1 (Nat.add_le_add_right z1 m), Nat.le_trans f2 (Nat.add_le_add_right z2 (50 * m))⟩
theorem szB.mo {a' b' : Nat} (hz : szB S a b) (ha : a ≤ a') (hb : b ≤ b') : szB S a' b' := ⟨Nat.le_trans hz.1 ha, Nat.le_trans hz.2 hb⟩
theorem oG.fr (hg : oG S h g n) (hF : oF S S' m W) (hw : ∀ c, S.2.2[h]? = some c → oK c = 22 → ¬ W h) : oG S' h g n := by
  obtain ⟨f, hc, hf⟩ := hg
  exact ⟨f, hF.2.2.2.2 _ _ hc (hw _ hc rfl), hf⟩
theorem oG.at (hg : oG S h g n) {p : Nat} (hp : p < n) (hn : n ≤ 10) : xm_aL S h (nI p) = some (g p) := by
  obtain ⟨f, hc, hf⟩ := hg
  unfold xm_aL xm_gG
  rw [hc]
  dsimp only
  rw [if_pos rfl]
  dsimp only
  rw [if_pos (xin (by omega) (by omega)), nI_clamp (by omega), hf p hp]
theorem oG.wr (hg : oG S h g n) {i : Nat} (hi : i < 10) {y : Int64} : ∃ S', xm_wL S h (nI i) y = some S' ∧ oF S S' 0 (fun z => z = h) ∧ ∃ f, S'.2.2[h]? = some (.inl (2, 10, .inr (.inl (vp_updL f i y)))) ∧ ∀ p, p < n → f p = g p := by
  obtain ⟨f, hc, hf⟩ := hg
  refine ⟨xm_set S h (.inl (2, 10, .inr (.inl (vp_updL f i y)))), ?_, oF_S hc rfl rfl, f, oS_get hc, hf⟩
  unfold xm_wL xm_gG
  rw [hc]
  dsimp only
  rw [if_pos rfl]
  dsimp only
  rw [if_pos (xin hi (by omega)), nI_clamp (by omega)]
/-- the law's own picture stays when its array of what was is written -/
theorem oI.wg {L : Nat → Nat} {r : Nat → Int32} {x : Int32} (hI : oI S L r x) (hg : oG S h g n) (hF : oF S S' m (fun z => z = h)) : oI S' L r x := by
  obtain ⟨f, hc, -⟩ := hg
  have hA : ∀ {y t n : Nat} {gg : Nat → Int32}, oA S y t n gg → t < 20 → ¬ y = h := fun {y t n gg} ho h1 z => by
    obtain ⟨f', hc', -⟩ := ho
    exact oK_ne hc' hc (show t ≠ 22 by omega) z
  have hQ : ∀ {y t n : Nat} {gg : Nat → Nat}, oQ S y t n gg → ¬ y = h := fun {y t n gg} ho z => by
    obtain ⟨f', hc', -⟩ := ho
    exact oK_ne hc' hc (show 40 + t ≠ 22 by omega) z
  refine hI.fr hF (fun a ha z => ?_)
  have z' : L a = h := z
  rcases ha with ha | ⟨h1, h2⟩ | ⟨h1, h2⟩ | ⟨h1, h2⟩
  · have hc0 : a = 0 ∨ a = 1 ∨ a = 2 ∨ a = 3 ∨ a = 4 ∨ a = 5 ∨ a = 6 := by omega
    rcases hc0 with e | e | e | e | e | e | e <;> subst e
    · exact oK_ne hI.e hc (show 108 ≠ 22 by decide) z'
    · exact hA hI.op (by decide) z'
    · exact hA hI.rooms (by decide) z'
    · exact hQ hI.routes z'
    · exact hA hI.ats (by decide) z'
    · exact hQ hI.books z'
    · exact hQ hI.asks z'
  · obtain ⟨u, rfl⟩ : ∃ u, a = 20 + u := ⟨a - 20, by omega⟩
    exact hA (hI.route (by omega)) (by decide) z'
  · obtain ⟨k, rfl⟩ : ∃ k, a = 30 + k := ⟨a - 30, by omega⟩
    exact oK_ne (hI.th (show k < xnk r by omega)) hc (show 109 ≠ 22 by decide) z'
  · obtain ⟨k, rfl⟩ : ∃ k, a = 100 + k := ⟨a - 100, by omega⟩
    exact hA (hI.ask (by omega)) (by decide) z'
end WE
section UN
variable {sc : xm_Sc} {h6 : Nat} {h2 h3 : Nat} {l4 : Int64}
/-- all undone, then the snapshot back -/
theorem lw_undo {r0 : Nat → Int32} {i7 : Int32} {v9 v10 v11 v12 v13 : Value} (hl4 : l4 = aAll r0) : ∀ (n : Nat) (w : xW) (ext : List xm_PC) (r : Nat → Int32) (hs : Nat → Nat → Int32) (A B : Nat), n ≤ 10 → cI w r n hs (some r0) → oG (xL w ext) h6 (fun p => aAll (hs p)) n → 191 ≤ h6 → szB (xL w ext) A B → ∃ w', xm_R sc xt_M 10 189 409 [.retAddr 5000, .ref 0, .ref h2, .ref h3, .long l4, .null, .ref h6, .int i7, .int (nI n - 1), v9, v10, v11, v12, v13] [] (xL w ext) = some (.inl (some (.int 1)), xL w' ext) ∧ szB (xL w' ext) A B := by
  intro n
  induction n with
  | zero =>
    intro w ext r hs A B hn hI hg h6l hz
    have e1 := @la_148_0 w ext sc 9 r hs (some r0) hI
    obtain ⟨w1, e2, I1⟩ := @la_150 w ext sc 7 0 r hs r0 hI
    have e3 := @oc_186 w1 ext sc 3 0 r0 hs (some r0) I1
    have e4 := @la_147 w1 ext sc 9 0 r0 hs (some r0) I1
    refine ⟨w1, ?_, ((hz.oF (oF_xL (w := w) (w' := w1) (ext := ext))).mo (Nat.le_refl _) (Nat.le_refl _))⟩
    rw [yb_189_409 (by omega), if_pos (by decide), if_pos (cI.is w), e1, zbs, xk_I, if_pos rfl, if_pos (cI.is w), e2, zbs, xk_I, if_neg (by decide), e3, zbs, xk_L, hl4, lg_self, if_pos rfl, if_pos (cI.is w1), e4, zbs, xk_I, if_pos nI_0, yb_189_483 (by omega), if_pos (by decide)]
  | succ n ih =>
    intro w ext r hs A B hn hI hg h6l hz
    obtain ⟨w1, e1, I1⟩ := @la_148 w ext sc 6 n r hs (some r0) hI
    have e3 := @oc_186 w1 ext sc 3 n (hs n) hs (some r0) I1
    have F1 : oF (xL w ext) (xL w1 ext) 0 oC := oF_xL
    have hg1 : oG (xL w1 ext) h6 (fun p => aAll (hs p)) (n + 1) := hg.fr F1 (fun _ _ _ z => by have : h6 < 191 := z; omega)
    have e5 := hg1.at (p := n) (by omega) hn
    have hz1 : szB (xL w1 ext) A B := (hz.oF F1).mo (Nat.le_refl _) (Nat.le_refl _)
    obtain ⟨w2, e2, hz2⟩ := ih w1 ext (hs n) hs A B (by omega) I1 (by
      obtain ⟨f, f1, f2⟩ := hg1
      exact ⟨f, f1, fun p hp => f2 p (by omega)⟩) h6l hz1
    refine ⟨w2, ?_, hz2⟩
    have ep : nI (n + 1) - 1 = nI n := nI_pred n
    have em : nI n + (-1) = nI n - 1 := (Int32.sub_eq_add_neg ..).symm
    rw [yb_189_409 (by omega), ep, if_neg (nI_pos (by omega)), if_pos (cI.is w), e1, zbs, xk_I, if_pos rfl, e3, zbs, xk_L, e5, zbs, lg_self, if_pos rfl, em]
    exact e2
/-- the array of what was, moved by one -/
theorem lw_292 {g : Nat → Int64} {w : xW} {i8 i9 i12 : Int32} {l10 : Int64} (h6l : 191 ≤ h6) : ∀ (m j : Nat) (ext : List xm_PC) (f : Nat → Int64), j + m = 10 → 1 ≤ j → (xL w ext).2.2[h6]? = some (.inl (2, 10, .inr (.inl f))) → (∀ p, p + 1 < j → f p = g (p + 1)) → (∀ p, j ≤ p + 1 → p < 10 → f p = g p) → ∃ (ext' : List xm_PC), oG (xL w ext') h6 (fun p => g (p + 1)) 9 ∧ oF (xL w ext) (xL w ext') 0 (fun z => z = h6) ∧ xm_R sc xt_M 10 189 292 [.retAddr 5000, .ref 0, .ref h2, .ref h3, .long l4, .null, .ref h6, .int (nI 10), .int i8, .int i9, .long l10, .null, .int i12, .int (nI j)] [] (xL w ext) = xm_R sc xt_M 10 189 320 [.retAddr 5000, .ref 0, .ref h2, .ref h3, .long l4, .null, .ref h6, .int (nI 9), .int i8, .int i9, .long l10, .null, .int i12, .int (nI 10)] [] (xL w ext') := by
  intro m
  induction m with
  | zero =>
    intro j ext f hj hj1 hc h1 h2
    have e : j = 10 := by omega
    subst e
    refine ⟨ext, ⟨f, hc, fun p hp => h1 p (by omega)⟩, oF.rf, ?_⟩
    rw [yb_189_292 (by omega), if_pos (by decide), show nI 10 + (-1) = nI 9 by decide]
  | succ m ih =>
    intro j ext f hj hj1 hc h1 h2
    have hG : oG (xL w ext) h6 f 10 := ⟨f, hc, fun _ _ => rfl⟩
    have a1 := hG.at (p := j) (by omega) (Nat.le_refl _)
    obtain ⟨S1, e1, F1, f1, c1, c2⟩ := hG.wr (i := j - 1) (by omega) (y := f j)
    obtain ⟨ext1, ex⟩ := oF_to F1 (fun z hz => by rw [hz]; exact h6l)
    subst ex
    obtain ⟨ext2, g2, F2, e2⟩ := ih (j + 1) ext1 (vp_updL f1 (j - 1) (f j)) (by omega) (by omega) c1 (fun p hp => by
      by_cases c : p = j - 1
      · rw [c, pk_uLs, h2 j (by omega) (by omega), show j - 1 + 1 = j by omega]
      · rw [pk_uLn c, c2 p (by omega)]
        exact h1 p (by omega)) (fun p hp1 hp2 => by
      rw [pk_uLn (by omega), c2 p hp2]
      exact h2 p (by omega) hp2)
    refine ⟨ext2, g2, F1.tr F2, ?_⟩
    have ej : nI j - 1 = nI (j - 1) := by rw [show j = (j - 1) + 1 by omega, nI_pred, Nat.add_sub_cancel]
    rw [yb_189_292 (by omega), if_neg (show ¬ (10 : Int32) ≤ nI j from nI_ge (b := 10) (by omega) (by omega)), a1, zbs, ej, e1, zbs, ← nI_succ]
    exact e2
end UN
