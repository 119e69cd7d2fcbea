/-! THE LAW: isNow, the requests -/
section IN
variable {w : xW} {ext : List xm_PC} {sc : xm_Sc} {d n k : Nat} {r : Nat → Int32} {hs : Nat → Nat → Int32} {sn : Option (Nat → Int32)} {L : Nat → Nat} {x : Int32}
/-- a request is the first of its book and reader -/
theorem sp_by_self (hW : xWF r) {q : Nat} (hq : q < xnq r) {k : Nat} (ek : r (176 + 3 * q) = nI k) : sp_by r (nI k) (r (177 + 3 * q)) = some q := by
  cases e : sp_by r (nI k) (r (177 + 3 * q)) with
  | none => exact absurd ⟨ek, rfl⟩ (xfst_none (p := fun q' => r (176 + 3 * q') = nI k ∧ r (177 + 3 * q') = r (177 + 3 * q)) e q (Nat.zero_le _) (by omega))
  | some p =>
    obtain ⟨p1, p2, p3⟩ := sp_by_is e
    by_cases c : p < q
    · exact (hW.q.2 p q c hq (p2.trans ek.symm) p3).elim
    · by_cases c2 : q < p
      · exact (hW.q.2 q p c2 p1 (ek.trans p2.symm) p3.symm).elim
      · rw [show p = q by omega]
theorem in_233 (hI : cI w r n hs sn) (h0 : oI (xL w ext) L r x) {c : Int32} {p : Nat} {v8 v9 v10 : Value} : ∀ m q (v5 v6 v7 : Value), q + m = xnq r → ∃ v7', xm_R sc xt_M (d + 6) 184 233 [.ref 0, .ref (L 0), .int c, .ref p, .int (nI q), v5, v6, v7, v8, v9, v10] [] (xL w ext) = xm_R sc xt_M (d + 6) 184 381 [.ref 0, .ref (L 0), .int c, .ref p, .int 0, .int 0, .int 0, v7', v8, v9, v10] [] (xL w ext) := by
  have hW := hI.W
  have hB := hW.bd
  have hk20 := hB.k20
  have hq40 := hB.q40
  have is := cI.is (ext := ext) w
  intro m
  induction m with
  | zero =>
    intro q v5 v6 v7 hq
    refine ⟨v7, ?_⟩
    rw [yb_184_233, h0.g5, zbs, h0.asks.len (by decide), zbs, if_pos (nI_le (by omega) (by omega))]
  | succ m ih =>
    intro q v5 v6 v7 hq
    have hq' : q < xnq r := by omega
    obtain ⟨k, hk, ek⟩ : ∃ k, k < xnk r ∧ r (176 + 3 * q) = nI k := ⟨_, (hW.q.1 q hq').1.2, (hW.q.1 q hq').1.1⟩
    have er := sp_rank_c (r := r) ek
    have hi : xcnt (fun p => r (176 + 3 * p) = nI k) q < qN r k := xcnt_kth.mpr ⟨q, hq', ek, rfl⟩
    have e163 := @oc_163 (xL w ext) L r x sc (d + 5) hW h0 q hq'
    rw [er] at e163
    generalize hgi : xcnt (fun p => r (176 + 3 * p) = nI k) q = i at *
    have P : ∀ y : Int32, 0 ≤ y ∧ y ≤ 2 → xm_C sc xt_M (d + 6) 117 [.ref 0, .int (nI k), .int (nI i), .int y] (xL w ext) = some (.inl (some (.int (if y = 2 then zB (r (56 + 6 * k) = 2 ∧ r (60 + 6 * k) = r (177 + 3 * q)) else if y = 0 then r (177 + 3 * q) else r (178 + 3 * q)))), xL w ext) := by
      intro y hy
      obtain ⟨q', u1, u2, u3, u4⟩ := rz_ok (x := y) hB hk hi hy
      have eq' : q' = q := xcnt_inj (p := fun p => r (176 + 3 * p) = nI k) u2 ek (u3.trans hgi.symm)
      have e := @lz_117 w ext sc (d + 2) n r hs sn hI k i y hk hi hy
      rw [u4, eq'] at e
      exact e
    have p0 := P 0 (by decide)
    have p1 := P 1 (by decide)
    have p2 := P 2 (by decide)
    rw [if_neg (by decide), if_pos rfl] at p0
    rw [if_neg (by decide), if_neg (by decide)] at p1
    rw [if_pos rfl] at p2
    have p8 := @lz_118 w ext sc (d + 2) n r hs sn hI k q (r (177 + 3 * q)) hk (sp_by_self hW hq' ek)
    rw [er] at p8
    obtain ⟨v7', z⟩ := ih (q + 1) (.ref (L (100 + q))) (.int (nI i)) (.ref (L (30 + k))) (by omega)
    refine ⟨v7', ?_⟩
    rw [yb_184_233, h0.g5, zbs, h0.asks.len (by decide), zbs, if_neg (nI_ge (by omega) (by omega)), zbs, h0.asks.at hq' (by omega), zbs, if_pos h0.is, e163, zbs, xk_I, h0.g4, zbs, h0.q0 hq', zbs, ek, h0.books.at hk (by omega), zbs, zbs, if_pos is, p0, zbs, xk_I, h0.q1 hq', zbs, if_pos rfl, h0.q0 hq', zbs, ek, if_pos is, p1, zbs, xk_I, h0.q2 hq', zbs, if_pos rfl, h0.q0 hq', zbs, ek, if_pos is, p2, zbs, xk_I, h0.t0 hk, zbs]
    by_cases h2 : r (56 + 6 * k) = 2
    · rw [if_pos h2, h0.t3 hk, zbs, h0.q1 hq', zbs]
      by_cases h3 : r (60 + 6 * k) = r (177 + 3 * q)
      · rw [if_pos h3, zB_tt ⟨h2, h3⟩, if_pos rfl, h0.q0 hq', zbs, ek, zbs, if_pos is, p8, zbs, xk_I, if_pos rfl, ← nI_succ]
        exact z
      · rw [if_neg h3, zB_ff (fun z => h3 z.2), if_pos rfl, h0.q0 hq', zbs, ek, zbs, if_pos is, p8, zbs, xk_I, if_pos rfl, ← nI_succ]
        exact z
    · rw [if_neg h2, zB_ff (fun z => h2 z.1), if_pos rfl, h0.q0 hq', zbs, ek, h0.q1 hq', zbs, if_pos is, p8, zbs, xk_I, if_pos rfl, ← nI_succ]
      exact z
end IN
