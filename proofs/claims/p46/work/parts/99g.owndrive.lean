/-! OWN: a van drives -/
section OD
variable {S : xm_PS} {L : Nat → Nat} {r : Nat → Int32} {x : Int32} {sc : xm_Sc} {d : Nat} {f g : Nat → Int32} {p : Nat}
theorem oI.kd (hI : oI S L r x) : ∀ a, (a < 7 ∨ (20 ≤ a ∧ a < 20 + xnv r) ∨ (30 ≤ a ∧ a < 30 + xnk r) ∨ (100 ≤ a ∧ a < 100 + xnq r)) → a = 1 ∨ ∃ i, i ≠ 3 ∧ oKd S (L a) i := by
  intro a ha
  have h7 : a = 0 ∨ a = 1 ∨ a = 2 ∨ a = 3 ∨ a = 4 ∨ a = 5 ∨ a = 6 ∨ (∃ v, v < xnv r ∧ a = 20 + v) ∨ (∃ k, k < xnk r ∧ a = 30 + k) ∨ ∃ q, q < xnq r ∧ a = 100 + q := by
    rcases ha with h | h | h | h
    · omega
    · exact Or.inr (Or.inr (Or.inr (Or.inr (Or.inr (Or.inr (Or.inr (Or.inl ⟨a - 20, by omega, by omega⟩)))))))
    · exact Or.inr (Or.inr (Or.inr (Or.inr (Or.inr (Or.inr (Or.inr (Or.inr (Or.inl ⟨a - 30, by omega, by omega⟩))))))))
    · exact Or.inr (Or.inr (Or.inr (Or.inr (Or.inr (Or.inr (Or.inr (Or.inr (Or.inr ⟨a - 100, by omega, by omega⟩))))))))
  rcases h7 with e | e | e | e | e | e | e | ⟨v, hv, e⟩ | ⟨v, hv, e⟩ | ⟨v, hv, e⟩ <;> subst e
  · exact Or.inr ⟨_, by decide, hI.k0⟩
  · exact Or.inl rfl
  · exact Or.inr ⟨_, by decide, hI.rooms.kd⟩
  · exact Or.inr ⟨_, by decide, hI.routes.kd⟩
  · exact Or.inr ⟨_, by decide, hI.ats.kd⟩
  · exact Or.inr ⟨_, by decide, hI.books.kd⟩
  · exact Or.inr ⟨_, by decide, hI.asks.kd⟩
  · exact Or.inr ⟨_, by decide, (hI.route hv).kd⟩
  · exact Or.inr ⟨_, by decide, hI.kt hv⟩
  · exact Or.inr ⟨_, by decide, (hI.ask hv).kd⟩
theorem oI.np (hI : oI S L r x) (hp : oKd S p 3) (h1 : p ≠ L 1) : ∀ a, (a < 7 ∨ (20 ≤ a ∧ a < 20 + xnv r) ∨ (30 ≤ a ∧ a < 30 + xnk r) ∨ (100 ≤ a ∧ a < 100 + xnq r)) → L a ≠ p := by
  intro a ha
  rcases hI.kd a ha with e | ⟨i, hi, e⟩
  · subst e
    exact Ne.symm h1
  · exact e.ne hp hi
theorem oW_p (hI : oI S L r x) (hp : oKd S p 3) (h1 : p ≠ L 1) : ¬ oW L (xnk r) p := by
  rintro (z | z | z | ⟨k, hk, z⟩)
  · exact hI.np hp h1 0 (by omega) z.symm
  · exact h1 z
  · exact hI.np hp h1 4 (by omega) z.symm
  · exact hI.np hp h1 (30 + k) (by omega) z.symm
def oWp (L : Nat → Nat) (n p z : Nat) : Prop := oW L n z ∨ z = p
theorem od_147 (hW : xWF r) (hI : oI S L r x) (hA : oA S p 3 (xnk r) g) (h1 : p ≠ L 1) {k b : Nat} {i1 i5 : Int32} {v6 : Value} (hk : k < xnk r) : ∃ S', oI S' L (sp_put r k 0 (nI b)) x ∧ oA S' p 3 (xnk r) (upd g k 1) ∧ oF S S' 0 (oWp L (xnk r) p) ∧
    xm_R sc xt_M (d + 1) 170 147 [.ref (L 0), .int i1, .int (nI b), .ref p, .int (nI k), .int i5, v6] [] S = xm_R sc xt_M (d + 1) 170 57 [.ref (L 0), .int i1, .int (nI b), .ref p, .int (nI (k + 1)), .int i5, v6] [] S' := by
  have hk20 := hW.bd.k20
  obtain ⟨f0, c, hf, ew⟩ := hA.wr hk (by omega) (y := 1)
  have hF : oF S (xm_set S p (.inl (3, xnk r, .inl (upd f0 k 1)))) 0 (fun z => z = p) := oF_S c rfl rfl
  have hI1 : oI (xm_set S p (.inl (3, xnk r, .inl (upd f0 k 1)))) L r x := hI.fr hF (hI.np hA.kd h1)
  have hA1 : oA (xm_set S p (.inl (3, xnk r, .inl (upd f0 k 1)))) p 3 (xnk r) (upd g k 1) := by
    refine ⟨_, oS_get c, fun i hi => ?_⟩
    show (if i = k then 1 else f0 i) = if i = k then 1 else g i
    rw [hf i hi]
  obtain ⟨m1, m2, -⟩ := hI1.put hW.lt hk (r' := sp_put r k 0 (nI b)) (fun i hi => sp_put_o hi)
  refine ⟨_, m1, hA1.fr m2 (oW_p hI1 hA1.kd h1), (hF.mo (Nat.le_refl _) (fun _ _ _ z => Or.inr z)).tr (m2.mo (Nat.le_refl _) (fun _ _ _ z => Or.inl z)), ?_⟩
  rw [yb_170_147, ew, zbs, hI1.g4, zbs, hI1.books.at hk (by omega), zbs, if_pos (og_O (hI1.th hk)), oc_176 hI1 hk, zbs, xk_v, yb_170_164, ← nI_succ]
/-- one book's leaving -/
theorem od_57 (hW : xWF r) (hf : kFar f r) (hI : oI S L r x) {j : Nat → Int32} (hA : oA S p 3 (xnk r) g) (h1 : p ≠ L 1) {k v b : Nat} {v5 v6 : Value} (hk : k < xnk r) (hv : v < xnv r) (hb : b < xnb r) (hh : sp_has r v (nI b) = true) (g0 : g k = 0) :
    ∃ S' y5 y6, oI S' L (sp_unl1 f v (nI b) k (r, j)).1 x ∧ oA S' p 3 (xnk r) (upd g k ((sp_unl1 f v (nI b) k (r, j)).2 k)) ∧ oF S S' 3 (oWp L (xnk r) p) ∧
    xm_R sc xt_M (d + 2) 170 57 [.ref (L 0), .int (nI v), .int (nI b), .ref p, .int (nI k), v5, v6] [] S = xm_R sc xt_M (d + 2) 170 57 [.ref (L 0), .int (nI v), .int (nI b), .ref p, .int (nI (k + 1)), y5, y6] [] S' := by
  have hk20 := hW.bd.k20
  have hb6 := hW.bd.b6
  have hv4 := hW.bd.v4
  have stay : ¬ (sp_isIn r 1 k (nI v) ∧ sp_leaves f r k v (nI b)) → sp_unl1 f v (nI b) k (r, j) = (r, upd j k 0) := fun h => if_neg h
  have go : (sp_isIn r 1 k (nI v) ∧ sp_leaves f r k v (nI b)) → sp_unl1 f v (nI b) k (r, j) = (sp_put r k 0 (nI b), upd j k 1) := fun h => if_pos h
  have gs : upd g k 0 = g := by rw [← g0]; exact k_upds
  have rest : ∀ T m, oF S T m oN → m ≤ 3 → ¬ (sp_isIn r 1 k (nI v) ∧ sp_leaves f r k v (nI b)) → (oI T L (sp_unl1 f v (nI b) k (r, j)).1 x ∧ oA T p 3 (xnk r) (upd g k ((sp_unl1 f v (nI b) k (r, j)).2 k)) ∧ oF S T 3 (oWp L (xnk r) p)) := by
    intro T m hT hm hn
    rw [stay hn]
    dsimp only
    rw [zu1, gs]
    exact ⟨hI.nw hT, hA.fr hT id, hT.nw hm⟩
  rw [yb_170_57, hI.g4, zbs, hI.books.len (by decide), zbs, if_neg (nI_ge (by omega) (by omega)), zbs, hI.books.at hk (by omega), zbs, hI.t0 hk, zbs]
  by_cases c1 : r (56 + 6 * k) = 1
  · rw [if_pos c1, zbs, hI.books.at hk (by omega), zbs, hI.t1 hk, zbs]
    by_cases c2 : r (57 + 6 * k) = nI v
    · rw [if_pos c2, if_pos hI.is, oc_161 hW hI hk, zbs, xk_I]
      rcases kGoal hW hk with hg | ⟨w, hw, eg, _⟩
      · rw [hg, if_pos (by decide)]
        obtain ⟨S', s1, s2, s3, s4⟩ := @od_147 S L r x sc (d + 1) g p hW hI hA h1 k b (nI v) (-1) v6 hk
        rw [go ⟨⟨c1, c2⟩, Or.inl hg⟩]
        dsimp only
        rw [zu1]
        exact ⟨S', .int (-1), v6, s1, s2, s3.mo (by omega) (fun _ _ _ z => z), s4⟩
      · obtain ⟨f1, e1, e2⟩ := @oc_159 S L r x sc d w hW hI hw
        have hI1 : oI (oTf S (xnb r) f1) L r x := oTf_I hI (by omega)
        have hA1 : oA (oTf S (xnb r) f1) p 3 (xnk r) g := hA.fr (oF_P (W := oN) (show xnb r ≤ 50 by omega)) id
        have hF1 : oF S (oTf S (xnb r) f1) 1 oN := oF_P (by show xnb r ≤ 50; omega)
        obtain ⟨f2, e3, e4⟩ := @oc_159 (oTf S (xnb r) f1) L r x sc d w hW hI1 hw
        have hI2 : oI (oTf (oTf S (xnb r) f1) (xnb r) f2) L r x := oTf_I hI1 (by omega)
        have hF2 : oF (oTf S (xnb r) f1) (oTf (oTf S (xnb r) f1) (xnb r) f2) 1 oN := oF_P (by show xnb r ≤ 50; omega)
        have hA2 := hA1.fr hF2 id
        obtain ⟨y, hy, e5⟩ := @oc_168 (oTf (oTf S (xnb r) f1) (xnb r) f2) L r x sc (d + 1) w f2 hW hI2 v (oTf S (xnb r) f1).2.2.length hv hw oTf_A (fun b hb => (e4 b hb).trans (kD_sym hW.bd hw hb))
        obtain ⟨f3, e6, e7⟩ := @oc_159 (oTf (oTf S (xnb r) f1) (xnb r) f2) L r x sc d w hW hI2 hw
        have hI3 : oI (oTf (oTf (oTf S (xnb r) f1) (xnb r) f2) (xnb r) f3) L r x := oTf_I hI2 (by omega)
        have hF3 : oF (oTf (oTf S (xnb r) f1) (xnb r) f2) (oTf (oTf (oTf S (xnb r) f1) (xnb r) f2) (xnb r) f3) 1 oN := oF_P (by show xnb r ≤ 50; omega)
        have hA3 := hA2.fr hF3 id
        have key := oLeaves hW hf hv hb hw eg hh hy
        rw [eg, if_neg (nI_pos (by omega)), if_pos hI.is, e1, zbs, xk_R, oTf_A.at hb (by omega), zbs, e2 b hb, kD_sym hW.bd hw hb]
        by_cases c3 : kD r b w < 0
        · rw [if_pos c3, yb_170_164, ← nI_succ]
          obtain ⟨q1, q2, q3⟩ := rest _ 1 hF1 (by omega) (fun z => (key.mp z.2).1 c3)
          exact ⟨_, .int (nI w), v6, q1, q2, q3, rfl⟩
        · rw [if_neg c3, if_pos hI1.is, e3, zbs, xk_R, if_pos hI2.is, e5, zbs, xk_I, if_pos hI2.is, e6, zbs, xk_R, oTf_A.at hb (by omega), zbs, e7 b hb, kD_sym hW.bd hw hb]
          by_cases c4 : kD r b w ≤ oJ9 y
          · rw [if_pos c4]
            obtain ⟨S', s1, s2, s3, s4⟩ := @od_147 (oTf (oTf (oTf S (xnb r) f1) (xnb r) f2) (xnb r) f3) L r x sc (d + 1) g p hW hI3 hA3 h1 k b (nI v) (nI w) v6 hk
            rw [go ⟨⟨c1, c2⟩, key.mpr ⟨c3, Int32.not_lt.mpr c4⟩⟩]
            dsimp only
            rw [zu1]
            exact ⟨S', .int (nI w), v6, s1, s2, ((((hF1.tr hF2).tr hF3).nw (Nat.le_refl _)).tr s3), s4⟩
          · rw [if_neg c4, yb_170_164, ← nI_succ]
            obtain ⟨q1, q2, q3⟩ := rest _ 3 ((hF1.tr hF2).tr hF3) (by omega) (fun z => (key.mp z.2).2 (Int32.not_le.mp c4))
            exact ⟨_, .int (nI w), v6, q1, q2, q3, rfl⟩
    · rw [if_neg c2, yb_170_164, ← nI_succ]
      obtain ⟨q1, q2, q3⟩ := rest S 0 oF.rf (by omega) (fun z => c2 z.1.2)
      exact ⟨_, v5, v6, q1, q2, q3, rfl⟩
  · rw [if_neg c1, yb_170_164, ← nI_succ]
    obtain ⟨q1, q2, q3⟩ := rest S 0 oF.rf (by omega) (fun z => c1 z.1.1)
    exact ⟨_, v5, v6, q1, q2, q3, rfl⟩
/-- the leaving of all -/
theorem od_unl {r0 j : Nat → Int32} (hW : xWF r0) (hf : kFar f r0) (h1 : p ≠ L 1) {v b : Nat} (hv : v < xnv r0) (hb : b < xnb r0) (hh : sp_has r0 v (nI b) = true) : ∀ m n S v5 v6, n + m = xnk r0 → oI S L (sp_unl f v (nI b) (r0, j) n).1 x → oA S p 3 (xnk r0) (fun i => if i < n then (sp_unl f v (nI b) (r0, j) n).2 i else 0) →
    ∃ S' y5 y6, oI S' L (sp_unl f v (nI b) (r0, j) (xnk r0)).1 x ∧ oA S' p 3 (xnk r0) (sp_unl f v (nI b) (r0, j) (xnk r0)).2 ∧ oF S S' (3 * m) (oWp L (xnk r0) p) ∧
    xm_R sc xt_M (d + 2) 170 57 [.ref (L 0), .int (nI v), .int (nI b), .ref p, .int (nI n), v5, v6] [] S = xm_R sc xt_M (d + 2) 170 173 [.ref (L 0), .int (nI v), .int (nI b), .ref p, .int (nI 0), y5, y6] [] S' := by
  have hk20 := hW.bd.k20
  have hb6 := hW.bd.b6
  have hv4 := hW.bd.v4
  intro m
  induction m with
  | zero =>
    intro n S v5 v6 hn hI hA
    have e : n = xnk r0 := by omega
    subst e
    obtain ⟨k1, k2⟩ := @sp_unl_ok f r0 j v (nI b) hW (xil_nI hb (by omega)) (xnk r0) (Nat.le_refl _)
    refine ⟨S, v5, v6, hI, hA.cg (fun i hi => by rw [if_pos hi]), oF.rf, ?_⟩
    rw [nI_0, yb_170_57, hI.g4, zbs, hI.books.len (by decide), zbs, k2.k, if_pos (nI_le (Nat.le_refl _) (by omega))]
  | succ m ih =>
    intro n S v5 v6 hn hI hA
    obtain ⟨k1, k2⟩ := @sp_unl_ok f r0 j v (nI b) hW (xil_nI hb (by omega)) n (by omega)
    have un : sp_unl f v (nI b) (r0, j) (n + 1) = sp_unl1 f v (nI b) n (sp_unl f v (nI b) (r0, j) n) := rfl
    have ek := k2.k
    have hh' : sp_has (sp_unl f v (nI b) (r0, j) n).1 v (nI b) = true := by rw [k2.geo.has (by omega) (hW.st9 hv)]; exact hh
    have hA' : oA S p 3 (xnk (sp_unl f v (nI b) (r0, j) n).1) (fun i => if i < n then (sp_unl f v (nI b) (r0, j) n).2 i else 0) := by rw [ek]; exact hA
    obtain ⟨S', y5, y6, s1, s2, s3, s4⟩ := @od_57 S L (sp_unl f v (nI b) (r0, j) n).1 x sc d f _ p k1 (kFar_geo hW.lt k2.geo hf) hI (sp_unl f v (nI b) (r0, j) n).2 hA' h1 n v b v5 v6 (by omega) (by rw [k2.v]; exact hv) (by rw [k2.b]; exact hb) hh' (if_neg (Nat.lt_irrefl n))
    rw [ek] at s2 s3
    have s1' : oI S' L (sp_unl f v (nI b) (r0, j) (n + 1)).1 x := s1
    obtain ⟨T, z5, z6, t1, t2, t3, t4⟩ := ih (n + 1) S' y5 y6 (by omega) s1' (s2.cg (fun i hi => by
      show (if i < n + 1 then (sp_unl f v (nI b) (r0, j) (n + 1)).2 i else 0) = if i = n then (sp_unl1 f v (nI b) n (sp_unl f v (nI b) (r0, j) n)).2 n else if i < n then (sp_unl f v (nI b) (r0, j) n).2 i else 0
      rw [un]
      by_cases e : i = n
      · subst e
        rw [if_pos (by omega), if_pos rfl]
      · rw [if_neg e]
        by_cases e2 : i < n
        · rw [if_pos (by omega), if_pos e2]
          unfold sp_unl1
          split
          · exact zun e
          · exact zun e
        · rw [if_neg (by omega), if_neg e2]))
    exact ⟨T, z5, z6, t1, t2, (s3.tr t3).mo (by omega) (fun _ _ _ z => z), s4.trans t4⟩
theorem oSum1 {a c : Nat → Int32} {k : Nat} (h0 : a k = 0) (h1 : c k = 1) (he : ∀ i, i ≠ k → c i = a i) : ∀ n, xsum c n = if k < n then xsum a n + 1 else xsum a n := by
  intro n
  induction n with
  | zero => rfl
  | succ n ih =>
    show xsum c n + c n = if k < n + 1 then xsum a n + a n + 1 else xsum a n + a n
    rw [ih]
    by_cases e : n = k
    · subst e
      rw [if_neg (Nat.lt_irrefl _), if_pos (Nat.lt_succ_self _), h1, h0, Int32.add_zero]
    · rw [he n e]
      by_cases e2 : k < n
      · rw [if_pos e2, if_pos (by omega), Int32.add_assoc, Int32.add_comm 1, ← Int32.add_assoc]
      · rw [if_neg e2, if_neg (by omega)]
theorem oRoom {a y : Int32} : a - (y + 1) = a - y + (-1) := by
  rw [Int32.sub_eq_add_neg, Int32.sub_eq_add_neg, Int32.neg_add, Int32.sub_eq_add_neg, Int32.add_assoc]
theorem oIn1 {v k : Nat} (hk : k < xnk r) (h20 : k < 20) (h0 : ¬ r (56 + 6 * k) = 1) : sp_booksIn (sp_put r k 1 (nI v)) 1 (nI v) = sp_booksIn r 1 (nI v) + 1 := by
  unfold sp_booksIn
  have e2 : xnk (sp_put r k 1 (nI v)) = xnk r := by unfold xnk; rw [sp_put_h h20 (by omega)]
  rw [e2, oSum1 (a := fun i => zB (sp_isIn r 1 i (nI v))) (k := k) (zB_ff (fun z => h0 z.1)) (zB_tt ⟨sp_put_0, sp_put_1⟩) (fun i hi => by
    show zB _ = zB _
    unfold sp_isIn
    rw [sp_put_ne (i := 56 + 6 * i) (by omega), sp_put_ne (i := 57 + 6 * i) (by omega)]), if_pos hk]
theorem oFull : ∀ a, a < 10 → ∀ c, c < 21 → ((nI a ≤ nI c) ↔ (nI a - nI c ≤ 0)) := by decide +kernel
end OD
