/-! THE LAW: one act; its loop -/
section AL
variable {sc : xm_Sc} {h6 c : Nat} {l4 : Int64} {r r0 : Nat → Int32} {hs : Nat → Nat → Int32} {sn : Option (Nat → Int32)} {L : Nat → Nat} {x : Int32} {g : Nat → Int64} {w : xW} {ext : List xm_PC}
theorem h6W (h0 : oI (xL w ext) L r x) (hg : oG (xL w ext) h6 g 0) (h6l : 191 ≤ h6) : ¬ (oC h6 ∨ oW L (xnk r) h6) := by
  obtain ⟨f, hc, -⟩ := hg
  have hA : ∀ {y t n : Nat} {gg : Nat → Int32}, oA (xL w ext) y t n gg → t < 20 → ¬ h6 = y := fun {y t n gg} ho h1 z => by
    obtain ⟨f', hc', -⟩ := ho
    exact oK_ne hc' hc (show t ≠ 22 by omega) z.symm
  rintro (z | z | z | z | ⟨k, hk, z⟩)
  · have : h6 < 191 := z
    omega
  · exact oK_ne h0.e hc (show 108 ≠ 22 by decide) z.symm
  · exact hA h0.op (by decide) z
  · exact hA h0.ats (by decide) z
  · exact oK_ne (h0.th hk) hc (show 109 ≠ 22 by decide) z.symm
theorem oG.le {S : xm_PS} {a b : Nat} (hg : oG S h6 g a) (h : b ≤ a) : oG S h6 g b := by
  obtain ⟨f, f1, f2⟩ := hg
  exact ⟨f, f1, fun p hp => f2 p (by omega)⟩
theorem oF_toG {T : xm_PS} {m : Nat} (hF : oF (xL w ext) T m (fun z => z = h6)) (h6l : 191 ≤ h6) : ∃ ext', T = xL w ext' := oF_to hF (fun z hz => by rw [hz]; exact h6l)
/-- what was goes into its array, and the foreseen is asked -/
theorem lp_put {p : Nat} {i8 v : Int32} {l10 : Int64} {i12 : Int32} {v13 : Value} {A B : Nat} (hp : p < 10) (hI : cI w r (p + 1) hs sn) (hS : rS r) (h0 : oI (xL w ext) L r x) (hL : ∀ a, 191 ≤ L a) (hc : r 4 = nI c) (hc2 : c < 9000) (hk1 : 0 < xnk r) (hk5 : xnk r ≤ 5) (hg : oG (xL w ext) h6 g p) (h6l : 191 ≤ h6) (hz : szB (xL w ext) A B) :
    ∃ w' ext', xm_R sc xt_M 10 189 320 [.retAddr 5000, .ref 0, .ref 191, .ref (L 0), .long l4, .null, .ref h6, .int (nI p), .int i8, .int v, .long l10, .null, .int i12, v13] [] (xL w ext) = xm_R sc xt_M 10 189 387 [.retAddr 5000, .ref 0, .ref 191, .ref (L 0), .long l4, .null, .ref h6, .int (nI (p + 1)), .int i8, .int v, .long l10, .null, .int i12, v13] [] (xL w' ext') ∧ cI w' r (p + 1) hs sn ∧ oI (xL w' ext') L r x ∧ oG (xL w' ext') h6 (fun q => if q = p then l10 else g q) (p + 1) ∧ szB (xL w' ext') (A + 1) (B + 50) := by
  obtain ⟨S1, e1, F1, f1, c1, c2⟩ := hg.wr hp (y := l10)
  obtain ⟨ext1, ex⟩ := oF_toG F1 h6l
  subst ex
  have h1 := h0.wg hg F1
  have hz1 : szB (xL w ext1) A B := (hz.oF F1).mo (Nat.le_refl _) (Nat.le_refl _)
  have hg1 : oG (xL w ext1) h6 (fun q => if q = p then l10 else g q) (p + 1) := ⟨_, c1, fun q hq => by
    show vp_updL f1 p l10 q = if q = p then l10 else g q
    by_cases e : q = p
    · rw [e, pk_uLs, if_pos rfl]
    · rw [pk_uLn e, if_neg e, c2 q (by omega)]⟩
  have e2 := @la_147 w ext1 sc 9 (p + 1) r hs sn hI
  have e3 := @oc_187 w ext1 sc 3 (p + 1) r hs sn hI hS
  have es : nI p + 1 = nI (p + 1) := (nI_succ p).symm
  by_cases h10 : p + 1 = 10
  · refine ⟨w, ext1, ?_, hI, h1, hg1, hz1.mo (by omega) (by omega)⟩
    rw [yb_189_320 (by omega), e1, zbs, if_pos (cI.is w), e2, zbs, xk_I, es, if_pos rfl, e3, zbs, xk_I, if_neg (by decide), if_pos (by rw [h10]; decide)]
  · have a1 := h1.g4
    have a2 := h1.books.len (by omega)
    have a3 := @oc_177 sc 9 (xnk r) (v >>> (3 &&& 31)) (xL w ext1) hk1 (by omega)
    have a4 := @oc_177y sc 9 30 (v >>> (5 &&& 31)) 30 (xL w ext1) rfl (by omega) (by omega)
    have hb := @oMo_lt (v >>> (3 &&& 31)) (xnk r) hk1
    have ht := @oMo_lt (v >>> (5 &&& 31)) 30 (by omega)
    obtain ⟨w2, f, e4, I2⟩ := @oc_188 w ext1 sc 2 (p + 1) r hs sn hI (by omega) hS c (oMo (v >>> (3 &&& 31)) (xnk r)) (1 + oMo (v >>> (5 &&& 31)) 30) hc hc2 hb (by omega) (by omega)
    have F2 : oF (xL w ext1) (xL w2 ext1) 0 oC := oF_xL
    have F3 : oF (xL w2 ext1) (xL w2 (ext1 ++ [.inl (0, 9, .inl f)])) 1 oN := by
      rw [← xL_P]
      exact oF_P (by show 9 ≤ 50; omega)
    have hg2 : oG (xL w2 ext1) h6 (fun q => if q = p then l10 else g q) (p + 1) := hg1.fr F2 (fun _ _ _ z => Nat.not_le_of_lt z h6l)
    have hz2 : szB (xL w2 ext1) A B := (hz1.oF F2).mo (Nat.le_refl _) (Nat.le_refl _)
    have h2 : oI (xL w2 ext1) L r x := h1.cls hL
    generalize hex : ext1 ++ [.inl (0, 9, .inl f)] = ext2 at F3
    have hg3 : oG (xL w2 ext2) h6 (fun q => if q = p then l10 else g q) (p + 1) := hg2.fr F3 (fun _ _ _ z => z)
    have hz3 : szB (xL w2 ext2) (A + 1) (B + 50) := (hz2.oF F3).mo (Nat.le_refl _) (Nat.le_refl _)
    have e4' : xm_C sc xt_M 10 188 [.ref 0, .int (nI (oMo (v >>> (3 &&& 31)) (xnk r))), .int (nI (1 + oMo (v >>> (5 &&& 31)) 30))] (xL w ext1) = some (.inl (some (.int 1)), xL w2 ext2) := by
      rw [← hex]
      exact e4
    refine ⟨w2, ext2, ?_, I2, h2.nw F3, hg3, hz3⟩
    rw [yb_189_320 (by omega), e1, zbs, if_pos (cI.is w), e2, zbs, xk_I, es, if_pos rfl, e3, zbs, xk_I, if_neg (by decide), if_neg (show ¬ (10 : Int32) ≤ nI (p + 1) from nI_ge (b := 10) (by omega) (by omega)), a1, zbs, a2, zbs, a3, zbs, xk_I, a4, zbs, xk_I, n1p, e4', zbs, xk_I, if_neg (by decide)]
/-- room for one more -/
theorem lp_shift {n : Nat} {i8 i9 : Int32} {l10 : Int64} {v13 : Value} {A B : Nat} (hn : n ≤ 10) (hg : oG (xL w ext) h6 g n) (h6l : 191 ≤ h6) (h0 : oI (xL w ext) L r x) (hz : szB (xL w ext) A B) :
    ∃ ext' v', xm_R sc xt_M 10 189 274 [.retAddr 5000, .ref 0, .ref 191, .ref (L 0), .long l4, .null, .ref h6, .int (nI n), .int i8, .int i9, .long l10, .null, .int 1, v13] [] (xL w ext) = xm_R sc xt_M 10 189 320 [.retAddr 5000, .ref 0, .ref 191, .ref (L 0), .long l4, .null, .ref h6, .int (nI (if n = 10 then 9 else n)), .int i8, .int i9, .long l10, .null, .int 1, v'] [] (xL w ext') ∧ oI (xL w ext') L r x ∧ oG (xL w ext') h6 (fun q => if n = 10 then g (q + 1) else g q) (if n = 10 then 9 else n) ∧ szB (xL w ext') A B := by
  by_cases e : n = 10
  · subst e
    obtain ⟨f, f1, f2⟩ := id hg
    obtain ⟨ext', g', F', e'⟩ := @lw_292 sc h6 191 (L 0) l4 g w i8 i9 1 l10 h6l 9 1 ext f rfl (by omega) f1 (fun q hq => absurd hq (by omega)) (fun q _ hq => f2 q hq)
    refine ⟨ext', .int (nI 10), ?_, h0.wg hg F', g', (hz.oF F').mo (Nat.le_refl _) (Nat.le_refl _)⟩
    rw [yb_189_274 (by omega), if_neg (by decide), if_pos (by decide)]
    exact e'
  · refine ⟨ext, v13, ?_, h0, ?_, hz⟩
    · rw [yb_189_274 (by omega), if_neg (by decide), if_neg (fun z => e (nI_inj (by omega) (by omega) (z.trans (show (10 : Int32) = nI 10 by decide)))), if_neg e]
    · rw [if_neg e]
      obtain ⟨f, f1, f2⟩ := hg
      exact ⟨f, f1, fun p hp => by rw [f2 p hp]; exact (if_neg e).symm⟩
end AL
