/-! THE LAW: isNow, the sizes -/
section IN
variable {w : xW} {ext : List xm_PC} {sc : xm_Sc} {d n k : Nat} {r : Nat → Int32} {hs : Nat → Nat → Int32} {sn : Option (Nat → Int32)} {L : Nat → Nat} {x : Int32}
/-- the thirteen sizes, compared -/
theorem in_202 (hI : cI w r n hs sn) {c : Int32} {p : Nat} {f : Nat → Int32} (hA : oA (xL w ext) p 0 13 f) (hf : ∀ i, i < 13 → sp_size r (nI i) = (0, f i)) {h1 : Nat} {v5 v6 v7 v8 v9 v10 : Value} : ∀ m i, i + m = 13 → xm_R sc xt_M (d + 6) 184 202 [.ref 0, .ref h1, .int c, .ref p, .int (nI i), v5, v6, v7, v8, v9, v10] [] (xL w ext) = xm_R sc xt_M (d + 6) 184 202 [.ref 0, .ref h1, .int c, .ref p, .int (nI 13), v5, v6, v7, v8, v9, v10] [] (xL w ext) := by
  intro m
  induction m with
  | zero =>
    intro i hi
    have e : i = 13 := by omega
    subst e
    rfl
  | succ m ih =>
    intro i hi
    have e111 := @lz_111 w ext sc (d + 2) n r hs sn hI i (f i) (by omega) (hf i (by omega))
    rw [yb_184_202, if_neg (show ¬ (13 : Int32) ≤ nI i from nI_ge (b := 13) (by omega) (by omega)), if_pos (cI.is w), e111, zbs, xk_I, hA.at (by omega) (by omega), zbs, if_pos rfl, ← nI_succ]
    exact ih (i + 1) (by omega)
end IN
