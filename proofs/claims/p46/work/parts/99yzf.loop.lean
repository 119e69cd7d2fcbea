/-! THE LAW: its loop -/
def lpI (w : xW) (ext : List xm_PC) (L : Nat → Nat) (r r0 : Nat → Int32) (n : Nat) (hs : Nat → Nat → Int32) (x : Int32) (c h6 k A B : Nat) : Prop := (cI w r n hs (some r0) ∧ n ≤ 10) ∧ oI (xL w ext) L r x ∧ (∀ a, 191 ≤ L a) ∧ (rS r ∧ rD r) ∧ (r 4 = nI c ∧ c ≤ 12 * k) ∧ (0 < xnk r ∧ xnk r ≤ 5) ∧ oG (xL w ext) h6 (fun p => aAll (hs p)) n ∧ szB (xL w ext) A B
section LL
variable {sc : xm_Sc} {h6 c k n A B : Nat} {l4 : Int64} {r r0 : Nat → Int32} {hs : Nat → Nat → Int32} {L : Nat → Nat} {x : Int32} {w : xW} {ext : List xm_PC} {v9 v10 v11 v12 v13 : Value}
theorem lp_step (hsc : sc.1 ≤ 260) (hk : k < 38) (h6l : 191 ≤ h6) (hJ : lpI w ext L r r0 n hs x c h6 k A B) : ∃ w' ext' L' r' n' hs' x' c' y9 y10 y12 y13, L' 0 = L 0 ∧ lpI w' ext' L' r' r0 n' hs' x' c' h6 (k + 1) (A + 1601) (B + 80050) ∧ xm_R sc xt_M 10 189 208 [.retAddr 5000, .ref 0, .ref 191, .ref (L 0), .long l4, .null, .ref h6, .int (nI n), .int (nI k), v9, v10, v11, v12, v13] [] (xL w ext) = xm_R sc xt_M 10 189 208 [.retAddr 5000, .ref 0, .ref 191, .ref (L 0), .long l4, .null, .ref h6, .int (nI n'), .int (nI (k + 1)), y9, y10, .null, y12, y13] [] (xL w' ext') := by
  obtain ⟨⟨hI, hn⟩, h0, hL, ⟨hS, hD⟩, ⟨hc, hc2⟩, ⟨hk1, hk5⟩, hg, hz⟩ := hJ
  have b1 := @oc_178 sc 9 (10 + k % 24) (xL w ext) hsc (by omega)
  have b2 := @oc_186 w ext sc 3 n r hs (some r0) hI
  have e24 : (10 : Int32) + (nI k - nI k / 24 * 24) = nI (10 + k % 24) := by
    rw [show nI k - nI k / 24 * 24 = nI (k % 24) from pk_rem (d := 24) (by omega) (by omega) (by omega)]
    exact zA (a := 10)
  have hk38 : ¬ (38 : Int32) ≤ nI k := nI_ge (b := 38) hk (by omega)
  have es : nI k + 1 = nI (k + 1) := (nI_succ k).symm
  have hW6 := h6W h0 (hg.le (Nat.zero_le _)) h6l
  rw [yb_189_208 (by omega), if_neg hk38, if_neg (by decide), e24, b1, zbs, xk_I, if_neg (by decide), b2, zbs, xk_L]
  generalize oCe sc (10 + k % 24) >>> (nI k / 24 * 3 &&& 31) = v
  obtain ⟨o, w1, ext1, L1, x1, er, h1, hL1, hE, F1, hm, ⟨hS1, hD1⟩, ⟨-, -, ek⟩, c', hc', e4⟩ := @oc_185 w ext sc 2 n c r hs (some r0) L x v hI hS hD hc (by omega) h0 hL hk5 hk1
  have hL0 : L1 0 = L 0 := hE 0 (by omega) (by omega)
  have hg1 : oG (xL w1 ext1) h6 (fun p => aAll (hs p)) n := hg.fr F1 (fun _ _ _ z => hW6 z)
  have hz1 : szB (xL w1 ext1) (A + 1600) (B + 80000) := (hz.oF F1).mo (Nat.le_refl _) (Nat.le_refl _)
  rw [er, zbs, xk_I]
  cases o with
  | none =>
    have hI1 : cI w1 r n hs (some r0) := hm
    have b3 := @oc_186 w1 ext1 sc 3 n r hs (some r0) hI1
    refine ⟨w1, ext1, L1, r, n, hs, x1, c', .int v, .long (aAll r), .int 0, v13, hL0, ⟨⟨hI1, hn⟩, h1, hL1, ⟨hS1, hD1⟩, ⟨e4, by omega⟩, ⟨hk1, hk5⟩, hg1, hz1.mo (by omega) (by omega)⟩, ?_⟩
    rw [show aRet none = 0 from rfl, if_neg (by decide), if_pos rfl, b3, zbs, xk_L, lg_self, if_pos rfl, yb_189_274 (by omega), if_pos rfl, yb_189_387 (by omega), es]
  | some r' =>
    have hI1 : cI w1 r' (cN n) (cPush n hs r) (some r0) := hm
    have h1' : oI (xL w1 ext1) L1 r' x1 := h1
    have ek' : xnk r' = xnk r := ek
    obtain ⟨ext2, v', e2, h2, hg2, hz2⟩ := @lp_shift sc h6 l4 r' L1 x1 (fun p => aAll (hs p)) w1 ext1 n (nI k) v (aAll r) v13 (A + 1600) (B + 80000) hn hg1 h6l h1' hz1
    have hp10 : (if n = 10 then 9 else n) < 10 := by
      by_cases e : n = 10
      · rw [if_pos e]; omega
      · rw [if_neg e]; omega
    have hcN : cN n = (if n = 10 then 9 else n) + 1 := by
      unfold cN
      by_cases e : n = 10
      · rw [if_pos e, if_pos e]
      · rw [if_neg e, if_neg e]
    have hcP : cPush n hs r = fun p => if p = (if n = 10 then 9 else n) then r else if n = 10 then hs (p + 1) else hs p := rfl
    generalize (if n = 10 then 9 else n) = p at *
    rw [hcN] at hI1
    obtain ⟨w3, ext3, e3, I3, h3, hg3, hz3⟩ := @lp_put sc h6 c' l4 r' (cPush n hs r) (some r0) L1 x1 _ w1 ext2 p (nI k) v (aAll r) 1 v' (A + 1600) (B + 80000) hp10 hI1 hS1 h2 hL1 e4 (by omega) (by omega) (by omega) hg2 h6l hz2
    rw [hL0] at e2 e3
    have hf : (fun q => if q = p then aAll r else if n = 10 then aAll (hs (q + 1)) else aAll (hs q)) = fun q => aAll (cPush n hs r q) := by
      funext q
      rw [hcP]
      dsimp only
      by_cases e : q = p
      · rw [if_pos e, if_pos e]
      · rw [if_neg e, if_neg e]
        by_cases e' : n = 10
        · rw [if_pos e', if_pos e']
        · rw [if_neg e', if_neg e']
    have hg3' : oG (xL w3 ext3) h6 (fun q => aAll (cPush n hs r q)) (p + 1) := by
      rw [← hf]
      exact hg3
    refine ⟨w3, ext3, L1, r', p + 1, cPush n hs r, x1, c', .int v, .long (aAll r), .int 1, v', hL0, ⟨⟨I3, by omega⟩, h3, hL1, ⟨hS1, hD1⟩, ⟨e4, by omega⟩, ⟨by omega, by omega⟩, hg3', hz3.mo (by omega) (by omega)⟩, ?_⟩
    rw [show aRet (some r') = 1 from rfl, if_neg (by decide), if_neg (by decide), e2, e3, yb_189_387 (by omega), es]
theorem lp_loop (hsc : sc.1 ≤ 260) (h6l : 191 ≤ h6) (hl4 : l4 = aAll r0) : ∀ (m k : Nat) (w : xW) (ext : List xm_PC) (L : Nat → Nat) (r : Nat → Int32) (n : Nat) (hs : Nat → Nat → Int32) (x : Int32) (c A B : Nat) (v9 v10 v11 v12 v13 : Value), k + m = 38 → lpI w ext L r r0 n hs x c h6 k A B → ∃ S', xm_R sc xt_M 10 189 208 [.retAddr 5000, .ref 0, .ref 191, .ref (L 0), .long l4, .null, .ref h6, .int (nI n), .int (nI k), v9, v10, v11, v12, v13] [] (xL w ext) = some (.inl (some (.int 1)), S') ∧ szB S' (A + 1601 * m + 17100) (B + 80050 * m + 855000) ∧ S'.2.1 = 0 := by
  intro m
  induction m with
  | zero =>
    intro k w ext L r n hs x c A B v9 v10 v11 v12 v13 hk hJ
    obtain ⟨⟨hI, hn⟩, h0, hL, ⟨hS, hD⟩, ⟨hc, hc2⟩, ⟨hk1, hk5⟩, hg, hz⟩ := hJ
    have e : k = 38 := by omega
    subst e
    obtain ⟨w1, ext1, I1, F1, e1⟩ := @oc_184 w ext sc 3 n r hs (some r0) L x hI hD h0 hL hk5 hk1
    have hg1 : oG (xL w1 ext1) h6 (fun p => aAll (hs p)) n := hg.fr F1 (fun _ _ _ z => Nat.not_le_of_lt z h6l)
    have hz1 : szB (xL w1 ext1) (A + 17100) (B + 855000) := (hz.oF F1).mo (Nat.le_refl _) (Nat.le_refl _)
    obtain ⟨w2, e2, hz2⟩ := @lw_undo sc h6 191 (L 0) l4 r0 (nI n) v9 v10 v11 v12 v13 hl4 n w1 ext1 r hs (A + 17100) (B + 855000) hn I1 hg1 h6l hz1
    refine ⟨xL w2 ext1, ?_, hz2.mo (by omega) (by omega), rfl⟩
    rw [yb_189_208 (by omega), if_pos (by decide), e1, zbs, xk_I, if_neg (by decide), e2]
  | succ m ih =>
    intro k w ext L r n hs x c A B v9 v10 v11 v12 v13 hk hJ
    obtain ⟨w1, ext1, L1, r1, n1, hs1, x1, c1, y9, y10, y12, y13, hL0, J1, e1⟩ := @lp_step sc h6 c k n A B l4 r r0 hs L x w ext v9 v10 v11 v12 v13 hsc (by omega) h6l hJ
    obtain ⟨S', e2, hz2, t2⟩ := ih (k + 1) w1 ext1 L1 r1 n1 hs1 x1 c1 (A + 1601) (B + 80050) y9 y10 .null y12 y13 (by omega) J1
    rw [hL0] at e2
    exact ⟨S', e1.trans e2, hz2.mo (by omega) (by omega), t2⟩
end LL
