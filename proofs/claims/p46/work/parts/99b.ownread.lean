/-! OWN: what only reads -/
theorem o1I : nI 1 = 1 := by decide +kernel
theorem o2I : nI 2 = 2 := by decide +kernel
theorem oA.atx {S : xm_PS} {h t n : Nat} {g : Nat → Int32} {y : Int32} (ha : oA S h t n g) (hy : xil y n) (hn : n < 2 ^ 31) : xm_aI S h t y = some (g y.toNatClampNeg) := by
  have z := ha.at hy.2 hn
  rw [← hy.1] at z
  exact z
section OR
variable {S : xm_PS} {L : Nat → Nat} {r : Nat → Int32} {x : Int32} {sc : xm_Sc} {d : Nat}
theorem oI.q0 (hI : oI S L r x) {q : Nat} (hq : q < xnq r) : xm_aI S (L (100 + q)) 0 0 = some (r (176 + 3 * q)) := by
  have z := (hI.ask hq).at (i := 0) (by omega) (by omega)
  rw [nI_0] at z
  exact z
theorem oI.q1 (hI : oI S L r x) {q : Nat} (hq : q < xnq r) : xm_aI S (L (100 + q)) 0 1 = some (r (177 + 3 * q)) := by
  have z := (hI.ask hq).at (i := 1) (by omega) (by omega)
  rw [o1I, show 176 + 3 * q + 1 = 177 + 3 * q by omega] at z
  exact z
theorem oI.q2 (hI : oI S L r x) {q : Nat} (hq : q < xnq r) : xm_aI S (L (100 + q)) 0 2 = some (r (178 + 3 * q)) := by
  have z := (hI.ask hq).at (i := 2) (by omega) (by omega)
  rw [o2I, show 176 + 3 * q + 2 = 178 + 3 * q by omega] at z
  exact z
theorem oI.ox (hI : oI S L r x) (hW : xWF r) {y : Int32} (hy : xil y (xnb r)) : xm_aI S (L 1) 3 y = some (r (6 + y.toNatClampNeg)) := hI.op.atx hy (by have := hW.bd.b6; omega)
theorem op_0 {r : Nat → Int32} (hW : xWF r) {y : Int32} (hy : xil y (xnb r)) : (r (6 + y.toNatClampNeg) = 0) = ¬ xop r y := by
  have hb := hW.bd.b6
  have h2 := hy.2
  rcases hW.o y.toNatClampNeg (by omega) with h | h
  · exact propext ⟨fun _ z => absurd (h.symm.trans z) (by decide), fun _ => h⟩
  · exact propext ⟨fun z => absurd (h.symm.trans z) (by decide), fun z => absurd h z⟩
theorem oc_158 (hW : xWF r) (hI : oI S L r x) {v : Nat} {b : Int32} (hv : v < xnv r) : xm_C sc xt_M (d + 1) 158 [.ref (L 0), .int (nI v), .int b] S = some (.inl (some (.int (zB (sp_has r v b = true)))), S) := by
  have hst := hW.st9 hv
  have hv4 := hW.bd.v4
  have lp : ∀ m k v6, k + m = xst r v → (∀ s, s < k → ¬ r (15 + 11 * v + s) = b) → xm_R sc xt_M d 158 14 [.ref (L 0), .int (nI v), .int b, .ref (L (20 + v)), .int (nI (xst r v)), .int (nI k), v6] [] S = some (.inl (some (.int (zB (sp_has r v b = true)))), S) := by
    intro m
    induction m with
    | zero =>
      intro k v6 hk hn
      rw [yb_158_14, if_pos (nI_le (by omega) (by omega)), zB_ff]
      rw [sp_has_iff]
      rintro ⟨s, h1, h2⟩
      exact hn s (by omega) h2
    | succ m ih =>
      intro k v6 hk hn
      rw [yb_158_14, if_neg (nI_ge (by omega) (by omega)), (hI.route hv).at (by omega) (by omega), zbs]
      by_cases e : r (15 + 11 * v + k) = b
      · rw [if_pos e, zB_tt (sp_has_iff.mpr ⟨k, by omega, e⟩)]
      · rw [if_neg e, ← nI_succ]
        refine ih (k + 1) _ (by omega) (fun s hs => ?_)
        by_cases e2 : s = k
        · rw [e2]; exact e
        · exact hn s (by omega)
  have z := lp (xst r v) 0 .null (Nat.zero_add _) (fun s hs => absurd hs (Nat.not_lt_zero s))
  rw [nI_0] at z
  rw [yc_158, hI.g2, zbs, hI.routes.at hv (by omega), zbs, (hI.route hv).len (by decide), zbs]
  exact z
theorem oc_160 (hW : xWF r) (hI : oI S L r x) {b : Int32} : xm_C sc xt_M (d + 1) 160 [.ref (L 0), .int b] S = some (.inl (some (.int (toJ (sp_first r b)))), S) := by
  have hq40 := hW.bd.q40
  have lp : ∀ m k, k + m = xnq r → xm_R sc xt_M d 160 2 [.ref (L 0), .int b, .int (nI k)] [] S = some (.inl (some (.int (toJ (xfst (fun q => r (176 + 3 * q) = b ∧ xop r (r (178 + 3 * q))) k m)))), S) := by
    intro m
    induction m with
    | zero =>
      intro k hk
      rw [yb_160_2, hI.g5, zbs, hI.asks.len (by decide), zbs, if_pos (nI_le (by omega) (by omega))]
      rfl
    | succ m ih =>
      intro k hk
      have hk' : k < xnq r := by omega
      have hx := (hW.q.1 k hk').2.2
      rw [yb_160_2, hI.g5, zbs, hI.asks.len (by decide), zbs, if_neg (nI_ge (by omega) (by omega)), zbs, hI.asks.at hk' (by omega), zbs, hI.q0 hk', zbs, xfst_s]
      by_cases e : r (176 + 3 * k) = b
      · rw [if_pos e, hI.g0, zbs, zbs, hI.asks.at hk' (by omega), zbs, hI.q2 hk', zbs, hI.ox hW hx, zbs]
        by_cases e2 : xop r (r (178 + 3 * k))
        · rw [if_neg (by rw [op_0 hW hx]; exact fun z => z e2), if_pos ⟨e, e2⟩]
          rfl
        · rw [if_pos (by rw [op_0 hW hx]; exact e2), if_neg (fun z => e2 z.2), yb_160_41, ← nI_succ]
          exact ih (k + 1) (by omega)
      · rw [if_neg e, if_neg (fun z => e z.1), yb_160_41, ← nI_succ]
        exact ih (k + 1) (by omega)
  have z := lp (xnq r) 0 (Nat.zero_add _)
  rw [nI_0] at z
  rw [yc_160]
  exact z
theorem oc_162 (hW : xWF r) (hI : oI S L r x) {b rd : Int32} : xm_C sc xt_M (d + 1) 162 [.ref (L 0), .int b, .int rd] S = some (.inl (some (.int (toJ (sp_by r b rd)))), S) := by
  have hq40 := hW.bd.q40
  have lp : ∀ m k, k + m = xnq r → xm_R sc xt_M d 162 2 [.ref (L 0), .int b, .int rd, .int (nI k)] [] S = some (.inl (some (.int (toJ (xfst (fun q => r (176 + 3 * q) = b ∧ r (177 + 3 * q) = rd) k m)))), S) := by
    intro m
    induction m with
    | zero =>
      intro k hk
      rw [yb_162_2, hI.g5, zbs, hI.asks.len (by decide), zbs, if_pos (nI_le (by omega) (by omega))]
      rfl
    | succ m ih =>
      intro k hk
      have hk' : k < xnq r := by omega
      rw [yb_162_2, hI.g5, zbs, hI.asks.len (by decide), zbs, if_neg (nI_ge (by omega) (by omega)), zbs, hI.asks.at hk' (by omega), zbs, hI.q0 hk', zbs, xfst_s]
      by_cases e : r (176 + 3 * k) = b
      · rw [if_pos e, zbs, hI.asks.at hk' (by omega), zbs, hI.q1 hk', zbs]
        by_cases e2 : r (177 + 3 * k) = rd
        · rw [if_pos e2, if_pos ⟨e, e2⟩]
          rfl
        · rw [if_neg e2, if_neg (fun z => e2 z.2), yb_162_37, ← nI_succ]
          exact ih (k + 1) (by omega)
      · rw [if_neg e, if_neg (fun z => e z.1), yb_162_37, ← nI_succ]
        exact ih (k + 1) (by omega)
  have z := lp (xnq r) 0 (Nat.zero_add _)
  rw [nI_0] at z
  rw [yc_162]
  exact z
theorem oc_163 (hW : xWF r) (hI : oI S L r x) {q : Nat} (hq : q < xnq r) : xm_C sc xt_M (d + 1) 163 [.ref (L 0), .int (nI q)] S = some (.inl (some (.int (sp_rank r q))), S) := by
  have hq40 := hW.bd.q40
  have lp : ∀ m k, k + m = q → xm_R sc xt_M d 163 4 [.ref (L 0), .int (nI q), .int (xsum (fun p => zB (r (176 + 3 * p) = r (176 + 3 * q))) k), .int (nI k)] [] S = some (.inl (some (.int (sp_rank r q))), S) := by
    intro m
    induction m with
    | zero =>
      intro k hk
      rw [yb_163_4, if_pos (nI_le (by omega) (by omega)), show k = q by omega]
      rfl
    | succ m ih =>
      intro k hk
      have hk' : k < xnq r := by omega
      rw [yb_163_4, if_neg (nI_ge (by omega) (by omega)), hI.g5, zbs, hI.asks.at hk' (by omega), zbs, hI.q0 hk', zbs, zbs, hI.asks.at hq (by omega), zbs, hI.q0 hq, zbs]
      by_cases e : r (176 + 3 * k) = r (176 + 3 * q)
      · rw [if_pos e, ← nI_succ]
        have z := ih (k + 1) (by omega)
        rw [show xsum (fun p => zB (r (176 + 3 * p) = r (176 + 3 * q))) (k + 1) = xsum (fun p => zB (r (176 + 3 * p) = r (176 + 3 * q))) k + zB (r (176 + 3 * k) = r (176 + 3 * q)) from rfl, zB_tt e] at z
        exact z
      · rw [if_neg e, ← nI_succ]
        have z := ih (k + 1) (by omega)
        rw [show xsum (fun p => zB (r (176 + 3 * p) = r (176 + 3 * q))) (k + 1) = xsum (fun p => zB (r (176 + 3 * p) = r (176 + 3 * q))) k + zB (r (176 + 3 * k) = r (176 + 3 * q)) from rfl, zB_ff e] at z
        exact z
  have z := lp q 0 (Nat.zero_add _)
  rw [nI_0] at z
  rw [yc_163]
  exact z
theorem oc_164 (hW : xWF r) (hI : oI S L r x) {b : Int32} : xm_C sc xt_M (d + 1) 164 [.ref (L 0), .int b] S = some (.inl (some (.int (sp_queue r b))), S) := by
  have hq40 := hW.bd.q40
  have lp : ∀ m k v6, k + m = xnq r → xm_R sc xt_M d 164 14 [.ref (L 0), .int b, .int (xsum (fun q => zB (r (176 + 3 * q) = b)) k), .ref (L 6), .int (nI (xnq r)), .int (nI k), v6] [] S = some (.inl (some (.int (sp_queue r b))), S) := by
    intro m
    induction m with
    | zero =>
      intro k v6 hk
      rw [yb_164_14, if_pos (nI_le (by omega) (by omega)), show k = xnq r by omega]
      rfl
    | succ m ih =>
      intro k v6 hk
      have hk' : k < xnq r := by omega
      rw [yb_164_14, if_neg (nI_ge (by omega) (by omega)), hI.asks.at hk' (by omega), zbs, hI.q0 hk', zbs]
      by_cases e : r (176 + 3 * k) = b
      · rw [if_pos e, ← nI_succ]
        have z := ih (k + 1) (.ref (L (100 + k))) (by omega)
        rw [show xsum (fun q => zB (r (176 + 3 * q) = b)) (k + 1) = xsum (fun q => zB (r (176 + 3 * q) = b)) k + zB (r (176 + 3 * k) = b) from rfl, zB_tt e] at z
        exact z
      · rw [if_neg e, ← nI_succ]
        have z := ih (k + 1) (.ref (L (100 + k))) (by omega)
        rw [show xsum (fun q => zB (r (176 + 3 * q) = b)) (k + 1) = xsum (fun q => zB (r (176 + 3 * q) = b)) k + zB (r (176 + 3 * k) = b) from rfl, zB_ff e] at z
        exact z
  have z := lp (xnq r) 0 .null (Nat.zero_add _)
  rw [nI_0] at z
  rw [yc_164, hI.g5, zbs, hI.asks.len (by decide), zbs]
  exact z
theorem oc_167 (hW : xWF r) (hI : oI S L r x) {b : Int32} : xm_C sc xt_M (d + 1) 167 [.ref (L 0), .int b] S = some (.inl (some (.int (sp_booksIn r 1 b))), S) := by
  have hk20 := hW.bd.k20
  have lp : ∀ m k v6, k + m = xnk r → xm_R sc xt_M d 167 14 [.ref (L 0), .int b, .int (xsum (fun k => zB (sp_isIn r 1 k b)) k), .ref (L 5), .int (nI (xnk r)), .int (nI k), v6] [] S = some (.inl (some (.int (sp_booksIn r 1 b))), S) := by
    intro m
    induction m with
    | zero =>
      intro k v6 hk
      rw [yb_167_14, if_pos (nI_le (by omega) (by omega)), show k = xnk r by omega]
      rfl
    | succ m ih =>
      intro k v6 hk
      have hk' : k < xnk r := by omega
      rw [yb_167_14, if_neg (nI_ge (by omega) (by omega)), hI.books.at hk' (by omega), zbs, hI.t0 hk', zbs]
      have z := ih (k + 1) (.ref (L (30 + k))) (by omega)
      rw [show xsum (fun k => zB (sp_isIn r 1 k b)) (k + 1) = xsum (fun k => zB (sp_isIn r 1 k b)) k + zB (sp_isIn r 1 k b) from rfl] at z
      by_cases e : r (56 + 6 * k) = 1
      · rw [if_pos e, hI.t1 hk', zbs]
        by_cases e2 : r (57 + 6 * k) = b
        · rw [if_pos e2, ← nI_succ]
          rw [zB_tt ⟨e, e2⟩] at z
          exact z
        · rw [if_neg e2, ← nI_succ]
          rw [zB_ff (fun y => e2 y.2)] at z
          exact z
      · rw [if_neg e, ← nI_succ]
        rw [zB_ff (fun y => e y.1)] at z
        exact z
  have z := lp (xnk r) 0 .null (Nat.zero_add _)
  rw [nI_0] at z
  rw [yc_167, hI.g4, zbs, hI.books.len (by decide), zbs]
  exact z
/-- count: with a place, and with none -/
theorem oc_173 (hW : xWF r) (hI : oI S L r x) {st b : Int32} (hb : ¬ b < 0) : xm_C sc xt_M (d + 1) 173 [.ref (L 0), .int st, .int b] S = some (.inl (some (.int (sp_booksIn r st b))), S) := by
  have hk20 := hW.bd.k20
  have lp : ∀ m k v6, k + m = xnk r → xm_R sc xt_M d 173 16 [.ref (L 0), .int st, .int b, .int (xsum (fun k => zB (sp_isIn r st k b)) k), .ref (L 5), .int (nI (xnk r)), .int (nI k), v6] [] S = some (.inl (some (.int (sp_booksIn r st b))), S) := by
    intro m
    induction m with
    | zero =>
      intro k v6 hk
      rw [yb_173_16, if_pos (nI_le (by omega) (by omega)), show k = xnk r by omega]
      rfl
    | succ m ih =>
      intro k v6 hk
      have hk' : k < xnk r := by omega
      rw [yb_173_16, if_neg (nI_ge (by omega) (by omega)), hI.books.at hk' (by omega), zbs, hI.t0 hk', zbs]
      have z := ih (k + 1) (.ref (L (30 + k))) (by omega)
      rw [show xsum (fun k => zB (sp_isIn r st k b)) (k + 1) = xsum (fun k => zB (sp_isIn r st k b)) k + zB (sp_isIn r st k b) from rfl] at z
      by_cases e : r (56 + 6 * k) = st
      · rw [if_pos e, if_neg hb, hI.t1 hk', zbs]
        by_cases e2 : r (57 + 6 * k) = b
        · rw [if_pos e2, ← nI_succ]
          rw [zB_tt ⟨e, e2⟩] at z
          exact z
        · rw [if_neg e2, ← nI_succ]
          rw [zB_ff (fun y => e2 y.2)] at z
          exact z
      · rw [if_neg e, ← nI_succ]
        rw [zB_ff (fun y => e y.1)] at z
        exact z
  have z := lp (xnk r) 0 .null (Nat.zero_add _)
  rw [nI_0] at z
  rw [yc_173, hI.g4, zbs, hI.books.len (by decide), zbs]
  exact z
theorem oc_173_n (hW : xWF r) (hI : oI S L r x) {st : Int32} : xm_C sc xt_M (d + 1) 173 [.ref (L 0), .int st, .int (-1)] S = some (.inl (some (.int (sp_inState r st))), S) := by
  have hk20 := hW.bd.k20
  have lp : ∀ m k v6, k + m = xnk r → xm_R sc xt_M d 173 16 [.ref (L 0), .int st, .int (-1), .int (xsum (fun k => zB (r (56 + 6 * k) = st)) k), .ref (L 5), .int (nI (xnk r)), .int (nI k), v6] [] S = some (.inl (some (.int (sp_inState r st))), S) := by
    intro m
    induction m with
    | zero =>
      intro k v6 hk
      rw [yb_173_16, if_pos (nI_le (by omega) (by omega)), show k = xnk r by omega]
      rfl
    | succ m ih =>
      intro k v6 hk
      have hk' : k < xnk r := by omega
      rw [yb_173_16, if_neg (nI_ge (by omega) (by omega)), hI.books.at hk' (by omega), zbs, hI.t0 hk', zbs]
      have z := ih (k + 1) (.ref (L (30 + k))) (by omega)
      rw [show xsum (fun k => zB (r (56 + 6 * k) = st)) (k + 1) = xsum (fun k => zB (r (56 + 6 * k) = st)) k + zB (r (56 + 6 * k) = st) from rfl] at z
      by_cases e : r (56 + 6 * k) = st
      · rw [if_pos e, if_pos (show (-1 : Int32) < 0 by decide), ← nI_succ]
        rw [zB_tt e] at z
        exact z
      · rw [if_neg e, ← nI_succ]
        rw [zB_ff e] at z
        exact z
  have z := lp (xnk r) 0 .null (Nat.zero_add _)
  rw [nI_0] at z
  rw [yc_173, hI.g4, zbs, hI.books.len (by decide), zbs]
  exact z
theorem oc_174 (hW : xWF r) (hI : oI S L r x) : xm_C sc xt_M (d + 1) 174 [.ref (L 0)] S = some (.inl (some (.int (sp_openN r))), S) := by
  have hb6 := hW.bd.b6
  have lp : ∀ m k v6, k + m = xnb r → xm_R sc xt_M d 174 13 [.ref (L 0), .int (xsum (fun b => r (6 + b)) k), .ref (L 1), .int (nI (xnb r)), .int (nI k), v6] [] S = some (.inl (some (.int (sp_openN r))), S) := by
    intro m
    induction m with
    | zero =>
      intro k v6 hk
      rw [yb_174_13, if_pos (nI_le (by omega) (by omega)), show k = xnb r by omega]
      rfl
    | succ m ih =>
      intro k v6 hk
      have hk' : k < xnb r := by omega
      rw [yb_174_13, if_neg (nI_ge (by omega) (by omega)), hI.op.at hk' (by omega), zbs]
      have z := ih (k + 1) (.int (r (6 + k))) (by omega)
      rw [show xsum (fun b => r (6 + b)) (k + 1) = xsum (fun b => r (6 + b)) k + r (6 + k) from rfl] at z
      rcases hW.o k (by omega) with h | h
      · rw [if_pos h, ← nI_succ]
        rw [h] at z ⊢
        exact z
      · rw [if_neg (by rw [h]; decide), ← nI_succ]
        rw [h] at z ⊢
        exact z
  have z := lp (xnb r) 0 .null (Nat.zero_add _)
  rw [nI_0] at z
  rw [yc_174, hI.g0, zbs, hI.op.len (by decide), zbs]
  exact z
theorem oc_161 (hW : xWF r) (hI : oI S L r x) {k : Nat} (hk : k < xnk r) : xm_C sc xt_M (d + 2) 161 [.ref (L 0), .int (nI k)] S = some (.inl (some (.int (sp_goal r k))), S) := by
  have hk20 := hW.bd.k20
  have hq40 := hW.bd.q40
  obtain ⟨-, hh, h59, -⟩ := hW.k k hk
  have e31 : ∀ y : Int32, xm_R sc xt_M (d + 1) 161 31 [.ref (L 0), .int (nI k), .int y] [] S = some (.inl (some (.int (if xop r (r (58 + 6 * k)) then r (58 + 6 * k) else -1))), S) := fun y => by
    rw [yb_161_31, hI.g0, zbs, hI.g4, zbs, hI.books.at hk (by omega), zbs, hI.t2 hk, zbs, hI.ox hW hh, zbs]
    by_cases e : xop r (r (58 + 6 * k))
    · rw [if_neg (by rw [op_0 hW hh]; exact fun z => z e), if_pos e, zbs, hI.books.at hk (by omega), zbs, hI.t2 hk, zbs]
    · rw [if_pos (by rw [op_0 hW hh]; exact e), if_neg e]
  rw [yc_161, if_pos hI.is, oc_160 hW hI, zbs, xk_I]
  unfold sp_goal sp_want
  cases ef : sp_first r (nI k) with
  | none =>
    rw [if_pos (show toJ none < 0 by decide), e31]
    have e : (if r (59 + 6 * k) = 1 then (none : Option Nat) else none) = none := by split <;> rfl
    rw [e]
  | some q =>
    have hq := sp_first_lt ef
    rw [if_neg (show ¬ toJ (some q) < 0 from nI_pos (by omega)), hI.g4, zbs, hI.books.at hk (by omega), zbs, hI.t5 hk, zbs]
    rcases h59 with e | e
    · rw [if_pos e, hI.g5, zbs, if_neg (by rw [e]; decide)]
      show (xm_aQ S (L 6) 6 (nI q)).bind _ = _
      rw [hI.asks.at hq (by omega), zbs, hI.q2 hq, zbs]
    · rw [if_neg (by rw [e]; decide), e31, if_pos e]
end OR
