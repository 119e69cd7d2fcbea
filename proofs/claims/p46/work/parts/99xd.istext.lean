/-! THE LAW: isText -/
theorem tX_asc {r : Nat → Int32} (hW : xWF r) (hD : rD r) {k : Nat} (hk : k < xnk r) (hk10 : k < 10) : ∀ y, y ∈ tX r k → asc y := by
  have hb6 := hW.bd.b6
  have hv4 := hW.bd.v4
  obtain ⟨h5, -, h59, h02, h1, -, -, -⟩ := hW.k k hk
  have c : ∀ n, n < 128 → asc (nI n) := fun n h => ⟨n, h, rfl⟩
  have hS : ∀ y, y ∈ tS r k → asc y := by
    intro y hy
    unfold tS at hy
    by_cases c0 : r (56 + 6 * k) = 0
    · rw [if_pos c0] at hy
      simp only [List.mem_cons, List.mem_nil_iff, or_false] at hy
      rcases hy with z | z <;> subst z
      · exact ⟨64, by omega, by decide⟩
      · exact tD_asc (xil_le (h02 (Or.inl c0)) (by omega))
    rw [if_neg c0] at hy
    by_cases c1 : r (56 + 6 * k) = 1
    · rw [if_pos c1] at hy
      simp only [List.mem_cons, List.mem_nil_iff, or_false] at hy
      rcases hy with z | z <;> subst z
      · exact ⟨62, by omega, by decide⟩
      · exact tD_asc (xil_le (h1 c1) (by omega))
    rw [if_neg c1] at hy
    by_cases c2 : r (56 + 6 * k) = 2
    · rw [if_pos c2] at hy
      simp only [List.mem_cons, List.mem_nil_iff, or_false] at hy
      rcases hy with z | z <;> subst z
      · exact ⟨33, by omega, by decide⟩
      · exact tD_asc (xil_le (h02 (Or.inr c2)) (by omega))
    rw [if_neg c2] at hy
    by_cases c3 : r (56 + 6 * k) = 3
    · rw [if_pos c3] at hy
      simp only [List.mem_cons, List.mem_nil_iff, or_false] at hy
      rcases hy with z | z <;> subst z
      · exact ⟨45, by omega, by decide⟩
      · exact tD_asc (hD.2 k hk c3)
    rw [if_neg c3] at hy
    simp only [List.mem_cons, List.mem_nil_iff, or_false] at hy
    subst hy
    exact ⟨63, by omega, by decide⟩
  have hQ : ∀ n, n ≤ xnq r → ∀ y, y ∈ tQ r k n → asc y := by
    intro n
    induction n with
    | zero => intro _ y hy; cases hy
    | succ n ih =>
      intro hn y hy
      unfold tQ at hy
      rcases List.mem_append.mp hy with z | z
      · exact ih (by omega) y z
      · unfold tQ1 at z
        split at z
        · simp only [List.mem_cons, List.mem_nil_iff, or_false] at z
          rcases z with z | z | z | z <;> subst z
          · exact ⟨32, by omega, by decide⟩
          · exact tD_asc (hD.1 n (by omega))
          · exact ⟨58, by omega, by decide⟩
          · exact tD_asc (xil_le (hW.q.1 n (by omega)).2.2 (by omega))
        · cases z
  intro y hy
  unfold tX at hy
  rcases List.mem_append.mp hy with z | z
  · rcases List.mem_append.mp z with z | z
    · rcases List.mem_cons.mp z with z | z
      · subst z; exact tD_asc (xil_nI hk10 (by omega))
      · exact hS y z
    · unfold tR at z
      split at z
      · simp only [List.mem_cons, List.mem_nil_iff, or_false] at z
        subst z
        exact ⟨114, by omega, by decide⟩
      · cases z
  · exact hQ _ (Nat.le_refl _) y z
theorem getD_mem {t : List Int32} {i : Nat} (h : i < t.length) : t.getD i 0 ∈ t := by
  rw [List.getD_eq_getElem?_getD, List.getElem?_eq_getElem h]
  exact List.getElem_mem h
section IX
variable {w : xW} {ext : List xm_PC} {sc : xm_Sc} {d n k : Nat} {r : Nat → Int32} {hs : Nat → Nat → Int32} {sn : Option (Nat → Int32)} {L : Nat → Nat} {x : Int32}
theorem txJ.oi {S0 T : xm_PS} {p q m : Nat} {t : List Int32} (h : txJ S0 T p q t m) (h0 : oI S0 L r x) : oI T L r x := h0.nw h.2.1
/-- the requests, and the comparison -/
theorem it_138 (hI : cI w r n hs sn) (hD : rD r) (h0 : oI (xL w ext) L r x) (hk : k < xnk r) (hk10 : k < 10) {p : Nat} : ∀ m i T q m0 v8, i + m = xnq r → txJ (xL w ext) T p q (((tD (nI k) :: tS r k) ++ tR r k) ++ tQ r k i) m0 → ∃ T' q' v8', txJ (xL w ext) T' p q' (tX r k) (m0 + 80 * m) ∧ xm_R sc xt_M (d + 5) 183 138 [.ref 0, .ref (L 0), .int (nI k), .ref (L (30 + k)), .ref p, .ref (L 6), .int (nI (xnq r)), .int (nI i), v8] [] T = xm_R sc xt_M (d + 5) 183 138 [.ref 0, .ref (L 0), .int (nI k), .ref (L (30 + k)), .ref p, .ref (L 6), .int (nI (xnq r)), .int (nI (xnq r)), v8'] [] T' := by
  have hW := hI.W
  have hq40 := hW.bd.q40
  have hb6 := hW.bd.b6
  intro m
  induction m with
  | zero =>
    intro i T q m0 v8 hi hT
    have e : i = xnq r := by omega
    subst e
    exact ⟨T, q, v8, hT, rfl⟩
  | succ m ih =>
    intro i T q m0 v8 hi hT
    have hiq : i < xnq r := by omega
    have hIT := hT.oi h0
    have hl := @tX_len r k hW.bd
    have hlen : (((tD (nI k) :: tS r k) ++ tR r k) ++ tQ r k i).length + 4 ≤ 170 := by
      have h1 := @tS_len r k
      have h2 := @tQ_len r k i
      have h3 : (tR r k).length ≤ 1 := by
        unfold tR
        split
        · exact Nat.le_refl _
        · show 0 ≤ 1; omega
      rw [List.length_append, List.length_append, List.length_cons]
      omega
    rw [yb_183_138 (i7 := nI i), if_neg (nI_ge (by omega) (by omega)), hIT.asks.at hiq (by omega), zbs, hIT.q0 hiq, zbs]
    have un : tQ r k (i + 1) = tQ r k i ++ tQ1 r k i := rfl
    by_cases c : r (176 + 3 * i) = nI k
    · obtain ⟨cap, hsb⟩ := hT.1
      have xd := hD.1 i hiq
      have xb : xil (r (178 + 3 * i)) 10 := xil_le (hW.q.1 i hiq).2.2 (by omega)
      obtain ⟨T1, q1, c1, e1, m1⟩ := @sb_204 T sc d p q cap _ hsb 32 ⟨32, by omega, by decide⟩ (by omega)
      have J1 := txJ_s hT m1
      obtain ⟨T2, q2, c2, e2, m2⟩ := @sb_205 T1 sc d p q1 c1 _ m1.1 (r (177 + 3 * i)).toNatClampNeg xd.2 (by rw [List.length_append]; show _ + 1 < 400; omega)
      rw [← xd.1] at e2
      have J2 := txJ_s J1 m2
      obtain ⟨T3, q3, c3, e3, m3⟩ := @sb_204 T2 sc d p q2 c2 _ m2.1 58 ⟨58, by omega, by decide⟩ (by rw [List.length_append, List.length_append]; show _ + 1 + 1 < 400; omega)
      have J3 := txJ_s J2 m3
      obtain ⟨T4, q4, c4, e4, m4⟩ := @sb_205 T3 sc d p q3 c3 _ m3.1 (r (178 + 3 * i)).toNatClampNeg xb.2 (by rw [List.length_append, List.length_append, List.length_append]; show _ + 1 + 1 + 1 < 400; omega)
      rw [← xb.1] at e4
      have J4 := txJ_s J3 m4
      rw [if_pos c, if_pos hsb.is, e1, zbs, xk_R, (J1.oi h0).q1 hiq, zbs, if_pos m1.1.is, e2, zbs, xk_R, if_pos m2.1.is, e3, zbs, xk_R, (J3.oi h0).q2 hiq, zbs, if_pos m3.1.is, e4, zbs, xk_R, yb_183_187, ← nI_succ]
      have et : ((((((tD (nI k) :: tS r k) ++ tR r k) ++ tQ r k i) ++ [32]) ++ [nI (48 + (r (177 + 3 * i)).toNatClampNeg)]) ++ [58]) ++ [nI (48 + (r (178 + 3 * i)).toNatClampNeg)] = ((tD (nI k) :: tS r k) ++ tR r k) ++ tQ r k (i + 1) := by
        rw [un]
        unfold tQ1
        rw [if_pos c]
        simp only [List.append_assoc]
        rfl
      rw [et] at J4
      obtain ⟨T', q', v8', j1, j2⟩ := ih (i + 1) T4 q4 _ _ (by omega) J4
      exact ⟨T', q', v8', by rw [show m0 + 80 * (m + 1) = m0 + 20 + 20 + 20 + 20 + 80 * m by omega]; exact j1, j2⟩
    · rw [if_neg c, yb_183_187, ← nI_succ]
      have et : tQ r k (i + 1) = tQ r k i := by
        rw [un]
        unfold tQ1
        rw [if_neg c, List.append_nil]
      obtain ⟨T', q', v8', j1, j2⟩ := ih (i + 1) T q m0 _ (by omega) (by rw [et]; exact hT)
      exact ⟨T', q', v8', ⟨j1.1, j1.2.1.mo (by omega) (fun _ _ _ z => z), j1.2.2⟩, j2⟩
end IX
