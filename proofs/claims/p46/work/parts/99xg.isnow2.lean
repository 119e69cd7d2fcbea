/-! THE LAW: isNow, the books -/
section IN
variable {w : xW} {ext : List xm_PC} {sc : xm_Sc} {d n k : Nat} {r : Nat → Int32} {hs : Nat → Nat → Int32} {sn : Option (Nat → Int32)} {L : Nat → Nat} {x : Int32}
theorem oI.oc {S S' : xm_PS} {m : Nat} (h : oI S L r x) (hL : ∀ a, 191 ≤ L a) (F : oF S S' m oC) : oI S' L r x := h.fr F (fun a _ z => by
  have h1 := hL a
  have h2 : L a < 191 := z
  omega)
/-- the books, one by one -/
theorem in_4 (hD : rD r) (hL : ∀ a, 191 ≤ L a) (hk10 : xnk r ≤ 10) {v5 v6 v7 v8 v9 v10 : Value} : ∀ m k w ext v4, k + m = xnk r → cI w r n hs sn → oI (xL w ext) L r x → ∃ w' ext' v4', cI w' r n hs sn ∧ oF (xL w ext) (xL w' ext') (3409 * m) oC ∧ xm_R sc xt_M (d + 6) 184 4 [.ref 0, .ref (L 0), .int (xsum (fun k => r (59 + 6 * k)) k), .int (nI k), v4, v5, v6, v7, v8, v9, v10] [] (xL w ext) = xm_R sc xt_M (d + 6) 184 4 [.ref 0, .ref (L 0), .int (sp_recN r), .int (nI (xnk r)), v4', v5, v6, v7, v8, v9, v10] [] (xL w' ext') := by
  intro m
  induction m with
  | zero =>
    intro k w ext v4 hk hI h0
    have e : k = xnk r := by omega
    subst e
    exact ⟨w, ext, v4, hI, oF.rf, rfl⟩
  | succ m ih =>
    intro k w ext v4 hk hI h0
    have hkk : k < xnk r := by omega
    obtain ⟨h5, -, h59, h02, h1, -, -, -⟩ := hI.W.k k hkk
    obtain ⟨ext1, F1, e1⟩ := @in_16 w sc d n k r hs sn L x hI hkk (xsum (fun k => r (59 + 6 * k)) k) v5 v6 v7 v8 v9 v10 9 0 ext rfl h0
    rw [nI_0] at e1
    have h01 := h0.nw F1
    obtain ⟨w2, ext2, hI2, F2, e2⟩ := @oc_183 w ext1 sc d n k r hs sn L x hI hD h01 hkk (by omega)
    have h02 := h01.oc hL F2
    obtain ⟨w3, ext3, v4', hI3, F3, e3⟩ := ih (k + 1) w2 ext2 (.int (nI 9)) (by omega) hI2 h02
    refine ⟨w3, ext3, v4', hI3, (((F1.mo (Nat.le_refl _) (fun _ _ _ z => False.elim z)).tr F2).tr F3).mo (by omega) (fun _ _ _ z => z), ?_⟩
    rw [yb_184_4, h0.g4, zbs, h0.books.len (by decide), zbs, if_neg (nI_ge (by omega) (by omega)), e1, yb_184_16, if_pos (by decide), h01.g4, zbs, h01.books.at hkk (by omega), zbs, h01.t5 hkk, zbs]
    refine Eq.trans ?_ e3
    rw [@nI_succ k]
    have es : xsum (fun k => r (59 + 6 * k)) (k + 1) = xsum (fun k => r (59 + 6 * k)) k + r (59 + 6 * k) := rfl
    rw [es]
    rcases h59 with z | z
    · rw [if_pos z, e2, zbs, xk_I, if_neg (by decide), z]
    · rw [if_neg (by rw [z]; decide), e2, zbs, xk_I, if_neg (by decide), z]
end IN
