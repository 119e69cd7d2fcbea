/-! THE LAW: isNow -/
section IN
variable {w : xW} {ext : List xm_PC} {sc : xm_Sc} {d n k : Nat} {r : Nat → Int32} {hs : Nat → Nat → Int32} {sn : Option (Nat → Int32)} {L : Nat → Nat} {x : Int32}
/-- a book's numbers -/
theorem in_16 (hI : cI w r n hs sn) (hk : k < xnk r) {c : Int32} {v5 v6 v7 v8 v9 v10 : Value} : ∀ m i ext0, i + m = 9 → oI (xL w ext0) L r x → ∃ ext1, oF (xL w ext0) (xL w ext1) m oN ∧ xm_R sc xt_M (d + 6) 184 16 [.ref 0, .ref (L 0), .int c, .int (nI k), .int (nI i), v5, v6, v7, v8, v9, v10] [] (xL w ext0) = xm_R sc xt_M (d + 6) 184 16 [.ref 0, .ref (L 0), .int c, .int (nI k), .int (nI 9), v5, v6, v7, v8, v9, v10] [] (xL w ext1) := by
  intro m
  induction m with
  | zero =>
    intro i ext0 hi h0
    have e : i = 9 := by omega
    subst e
    exact ⟨ext0, oF.rf, rfl⟩
  | succ m ih =>
    intro i ext0 hi h0
    obtain ⟨S', F1, e1⟩ := oc_172 (S := xL w ext0) (sc := sc) (d := d + 3) (f := fun _ => -1) hI.W h0 hk (show i < 9 by omega)
    obtain ⟨ext1, ex⟩ := oF_to F1 (fun h z => False.elim z)
    subst ex
    obtain ⟨ext2, F2, e2⟩ := ih (i + 1) ext1 (by omega) (h0.nw F1)
    refine ⟨ext2, (F1.tr F2).mo (by omega) (fun _ _ _ z => z), ?_⟩
    rw [yb_184_16, if_neg (show ¬ (9 : Int32) ≤ nI i from nI_ge (b := 9) (by omega) (by omega)), if_pos (cI.is w), lz_112 hI hk (by omega), zbs, xk_I, if_pos h0.is, e1, zbs, xk_I, if_pos rfl, ← nI_succ]
    exact e2
end IN
