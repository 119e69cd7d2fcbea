/-! OWN: requests come and go -/
def oTq (S : xm_PS) (n : Nat) (f : Nat → Option Nat) : xm_PS := oP S (.inl (6, n, .inr (.inr (.inr (.inr f)))))
def oLd (L : Nat → Nat) (p q : Nat) : Nat → Nat := fun a => if a = 6 then p else if 100 ≤ a then L (100 + xsg q (a - 100)) else L a
def oLa (L : Nat → Nat) (p p2 n : Nat) : Nat → Nat := fun a => if a = 6 then p else if a = 100 + n then p2 else L a
theorem oLd_6 {L : Nat → Nat} {p q : Nat} : oLd L p q 6 = p := if_pos rfl
theorem oLd_o {L : Nat → Nat} {p q a : Nat} (h : a < 100) (h6 : a ≠ 6) : oLd L p q a = L a := by
  unfold oLd
  rw [if_neg h6, if_neg (by omega)]
theorem oLd_q {L : Nat → Nat} {p q i : Nat} : oLd L p q (100 + i) = L (100 + xsg q i) := by
  unfold oLd
  rw [if_neg (by omega), if_pos (by omega), show 100 + i - 100 = i by omega]
theorem oLa_6 {L : Nat → Nat} {p p2 n : Nat} : oLa L p p2 n 6 = p := if_pos rfl
theorem oLa_n {L : Nat → Nat} {p p2 n : Nat} : oLa L p p2 n (100 + n) = p2 := by
  unfold oLa
  rw [if_neg (by omega), if_pos rfl]
theorem oLa_o {L : Nat → Nat} {p p2 n a : Nat} (h : a ≠ 100 + n) (h6 : a ≠ 6) : oLa L p p2 n a = L a := by
  unfold oLa
  rw [if_neg h6, if_neg h]
theorem og_wQ {S : xm_PS} {h t n i y : Nat} {f : Nat → Option Nat} (hc : S.2.2[h]? = some (.inl (t, n, .inr (.inr (.inr (.inr f)))))) (hi : i < n) (hn : n < 2 ^ 31) : xm_wQ S h t (nI i) y = some (xm_set S h (.inl (t, n, .inr (.inr (.inr (.inr (va_up f i (some y)))))))) := by
  unfold xm_wQ xm_gQ
  rw [hc]
  dsimp only
  rw [if_pos rfl]
  dsimp only
  rw [if_pos (xin hi hn), nI_clamp (by omega)]
theorem oP_set {S : xm_PS} {c c' : xm_PC} : xm_set (oP S c) S.2.2.length c' = oP S c' := by
  unfold xm_set oP
  dsimp only
  rw [List.set_append_right _ _ (Nat.le_refl _), Nat.sub_self]
  rfl
theorem oTq_w {S : xm_PS} {n i y : Nat} {f : Nat → Option Nat} (hi : i < n) (hn : n < 2 ^ 31) : xm_wQ (oTq S n f) S.2.2.length 6 (nI i) y = some (oTq S n (va_up f i (some y))) := by
  rw [og_wQ (S := oTq S n f) oP_at hi hn]
  exact congrArg some oP_set
theorem oTq_len {S : xm_PS} {n : Nat} {f : Nat → Option Nat} : xm_len (oTq S n f) S.2.2.length = some (nI n) := by
  unfold xm_len
  rw [show (oTq S n f).2.2[S.2.2.length]? = some (.inl (6, n, .inr (.inr (.inr (.inr f))))) from oP_at]
  dsimp only
  rw [if_pos (by decide)]
  rfl
section OA
variable {S : xm_PS} {L : Nat → Nat} {r : Nat → Int32} {x : Int32} {sc : xm_Sc} {d : Nat}
theorem oTq_I {n : Nat} {f : Nat → Option Nat} (hI : oI S L r x) (hn : n ≤ 50) : oI (oTq S n f) L r x := hI.nw (m := 1) (oF_P hn)
theorem oc_165 (hB : xWF r) (hI : oI S L r x) {q : Nat} (hq : q < xnq r) : ∃ S' L', xm_C sc xt_M (d + 1) 165 [.ref (L 0), .int (nI q)] S = some (.inl none, S') ∧ oM S S' L L' (sp_drop r q) x 1 (xnk r) := by
  have hq40 := hB.bd.q40
  have hv4 := hB.bd.v4
  have hk20 := hB.bd.k20
  have hb6 := hB.bd.b6
  have lp : ∀ m i f, i + m = xnq r - 1 → (∀ j, j < i → f j = some (L (100 + xsg q j))) → ∃ f', (∀ j, j < xnq r - 1 → f' j = some (L (100 + xsg q j))) ∧
      xm_R sc xt_M d 165 13 [.ref (L 0), .int (nI q), .ref S.2.2.length, .int (nI i)] [] (oTq S (xnq r - 1) f) = some (.inl none, xm_set (oTq S (xnq r - 1) f') (L 0) (.inr (8, oEf (oLd L S.2.2.length q) r x))) := by
    intro m
    induction m with
    | zero =>
      intro i f hi hf
      have hIT : oI (oTq S (xnq r - 1) f) L r x := oTq_I hI (by omega)
      refine ⟨f, fun j hj => hf j (by omega), ?_⟩
      rw [yb_165_13, oTq_len, zbs, if_pos (nI_le (by omega) (by omega)), og_S hIT.e (by show 5 < 9; omega), zbs]
      rfl
    | succ m ih =>
      intro i f hi hf
      have hIT : oI (oTq S (xnq r - 1) f) L r x := oTq_I hI (by omega)
      have nx : ∀ y, y = L (100 + xsg q i) → ∀ j, j < i + 1 → va_up f i (some y) j = some (L (100 + xsg q j)) := by
        intro y hy j hj
        by_cases ej : j = i
        · subst ej
          rw [va_up_self, hy]
        · rw [va_up_ne _ _ ej]
          exact hf j (by omega)
      rw [yb_165_13, oTq_len, zbs, if_neg (nI_ge (by omega) (by omega)), hIT.g5, zbs]
      by_cases c : q ≤ i
      · have c1 : i + 1 < xnq r := by omega
        rw [if_pos (nI_le c (by omega)), ← nI_succ, hIT.asks.at c1 (by omega), zbs, if_pos (hIT.ask c1).sm, oTq_w (by omega) (by omega), zbs]
        exact ih (i + 1) _ (by omega) (nx _ (by unfold xsg; rw [if_neg (by omega)]))
      · have c1 : i < xnq r := by omega
        rw [if_neg (nI_ge (by omega) (by omega)), hIT.asks.at c1 (by omega), zbs, if_pos (hIT.ask c1).sm, oTq_w (by omega) (by omega), zbs, ← nI_succ]
        exact ih (i + 1) _ (by omega) (nx _ (by unfold xsg; rw [if_pos (by omega)]))
  obtain ⟨f', hf, ef⟩ := lp (xnq r - 1) 0 (fun _ => none) (Nat.zero_add _) (fun j hj => absurd hj (Nat.not_lt_zero j))
  have hIT : oI (oTq S (xnq r - 1) f') L r x := oTq_I hI (by omega)
  have hF0 : oF S (oTq S (xnq r - 1) f') 1 oN := oF_P (by show xnq r - 1 ≤ 50; omega)
  have hF : oF (oTq S (xnq r - 1) f') (xm_set (oTq S (xnq r - 1) f') (L 0) (.inr (8, oEf (oLd L S.2.2.length q) r x))) 0 (fun z => z = L 0) := oF_S hIT.e rfl rfl
  refine ⟨_, oLd L S.2.2.length q, ?_, ?_, (hF0.nw (Nat.le_refl _)).tr (hF.mo (Nat.le_refl _) (fun _ _ _ z => Or.inl z)), fun a h1 h2 => oLd_o h1 h2, fun B hB hL a => ?_⟩
  · rw [nI_0] at ef
    rw [yc_165, hI.g5, zbs, hI.asks.len (by decide), zbs, show nI (xnq r) - 1 = nI (xnq r - 1) by rw [show xnq r = (xnq r - 1) + 1 by omega, nI_pred]; rfl, if_neg (nI_pos (by omega)), nI_clamp (by omega), if_pos (by omega), oP_eq hI.fl hI.f0]
    exact ef
  · have e : ∀ i, i ≠ 3 → i < 176 → sp_drop r q i = r i := fun i h3 hi => sp_drop_h h3 hi
    have n0 : xnb (sp_drop r q) = xnb r := by unfold xnb; rw [e 0 (by omega) (by omega)]
    have n1 : xnv (sp_drop r q) = xnv r := by unfold xnv; rw [e 1 (by omega) (by omega)]
    have n2 : xnk (sp_drop r q) = xnk r := by unfold xnk; rw [e 2 (by omega) (by omega)]
    have n3 : xnq (sp_drop r q) = xnq r - 1 := by 
      show (sp_drop r q 3).toNatClampNeg = _
      rw [sp_drop_3, nI_clamp (by omega)]
    have ek := hIT.k0
    have xs : ∀ i, i < xnq r - 1 → xsg q i < xnq r := fun i hi => by unfold xsg; split <;> omega
    obtain ⟨d1, d2, d3, d4⟩ := hIT.2.2.2
    refine ⟨⟨⟨hIT.fl, hIT.f0⟩, ?_⟩, ⟨?_, ?_, ?_, ?_, ?_, ?_⟩, ⟨fun v hv => ?_, fun k hk => ?_, fun i hi => ?_⟩, fun j k hj hk => ?_, ?_, fun v hv => ?_, fun i hi => ?_⟩
    · rw [oLd_o (by omega) (by omega), oEf_cg (r := r) (e 4 (by omega) (by omega)) (e 5 (by omega) (by omega))]
      exact oS_get hIT.e
    · rw [n0, oLd_o (by omega) (by omega)]
      exact (hIT.op.fr hF (hIT.op.kd.ne ek (by decide))).cg (fun b hb => e _ (by omega) (by omega))
    · rw [n1, oLd_o (by omega) (by omega)]
      exact (hIT.rooms.fr hF (hIT.rooms.kd.ne ek (by decide))).cg (fun v hv => e _ (by omega) (by omega))
    · rw [n1, oLd_o (by omega) (by omega)]
      obtain ⟨g, g1, g2⟩ := hIT.routes.fr hF (hIT.routes.kd.ne ek (by decide))
      exact ⟨g, g1, fun v hv => (g2 v hv).trans (congrArg some (oLd_o (by omega) (by omega)).symm)⟩
    · rw [n1, oLd_o (by omega) (by omega)]
      exact (hIT.ats.fr hF (hIT.ats.kd.ne ek (by decide))).cg (fun v hv => e _ (by omega) (by omega))
    · rw [n2, oLd_o (by omega) (by omega)]
      obtain ⟨g, g1, g2⟩ := hIT.books.fr hF (hIT.books.kd.ne ek (by decide))
      exact ⟨g, g1, fun v hv => (g2 v hv).trans (congrArg some (oLd_o (by omega) (by omega)).symm)⟩
    · rw [n3, oLd_6]
      refine ⟨f', hF.2.2.2.2 _ _ oP_at (fun z => ?_), fun i hi => (hf i hi).trans (congrArg some oLd_q.symm)⟩
      have := os_lt hI.e
      omega
    · rw [n1] at hv
      have hst := hB.st9 hv
      rw [show xst (sp_drop r q) v = xst r v by unfold xst; rw [e _ (by omega) (by omega)], oLd_o (by omega) (by omega)]
      exact ((hIT.route hv).fr hF ((hIT.route hv).kd.ne ek (by decide))).cg (fun s hs => e _ (by omega) (by omega))
    · rw [n2] at hk
      rw [oLd_o (by omega) (by omega), oTh_cg (k := k) (r := r) (fun i h1 h2 => e i (by omega) (by omega))]
      exact hF.2.2.2.2 _ _ (hIT.th hk) ((hIT.kt hk).ne ek (by decide))
    · rw [n3] at hi
      rw [oLd_q]
      exact ((hIT.ask (xs i hi)).fr hF ((hIT.ask (xs i hi)).kd.ne ek (by decide))).cg (fun c hc => sp_drop_q hi hc)
    · rw [n2] at hk
      rw [oLd_o (by omega) (by omega), oLd_o (by omega) (by omega)]
      exact d1 j k hj hk
    · rw [oLd_o (by omega) (by omega), oLd_o (by omega) (by omega)]
      exact d2
    · rw [n1] at hv
      rw [oLd_o (by omega) (by omega), oLd_o (by omega) (by omega)]
      exact d3 v hv
    · rw [n3] at hi
      rw [oLd_o (by omega) (by omega), oLd_q]
      exact d4 _ (xs i hi)
  · unfold oLd
    split
    · exact hB
    · split
      · exact hL _
      · exact hL _
theorem oc_166 (hB : xWF r) (hI : oI S L r x) {a rd b : Int32} (hn : xnq r < 40) : ∃ S' L', xm_C sc xt_M (d + 1) 166 [.ref (L 0), .int a, .int rd, .int b] S = some (.inl none, S') ∧ oM S S' L L' (sp_addq r a rd b) x 2 (xnk r) := by
  have hv4 := hB.bd.v4
  have hk20 := hB.bd.k20
  have hb6 := hB.bd.b6
  have lp : ∀ m i f, i + m = xnq r → (∀ j, j < i → f j = some (L (100 + j))) → ∃ f', (∀ j, j < xnq r → f' j = some (L (100 + j))) ∧
      xm_R sc xt_M d 166 15 [.ref (L 0), .int a, .int rd, .int b, .ref S.2.2.length, .int (nI i)] [] (oTq S (xnq r + 1) f) = xm_R sc xt_M d 166 15 [.ref (L 0), .int a, .int rd, .int b, .ref S.2.2.length, .int (nI (xnq r))] [] (oTq S (xnq r + 1) f') := by
    intro m
    induction m with
    | zero =>
      intro i f hi hf
      rw [show i = xnq r by omega]
      exact ⟨f, fun j hj => hf j (by omega), rfl⟩
    | succ m ih =>
      intro i f hi hf
      have hIT : oI (oTq S (xnq r + 1) f) L r x := oTq_I hI (by omega)
      have c1 : i < xnq r := by omega
      rw [yb_166_15 (i5 := nI i), hIT.g5, zbs, hIT.asks.len (by decide), zbs, if_neg (nI_ge (by omega) (by omega)), zbs, hIT.asks.at c1 (by omega), zbs, if_pos (hIT.ask c1).sm, oTq_w (by omega) (by omega), zbs, ← nI_succ]
      refine ih (i + 1) _ (by omega) (fun j hj => ?_)
      by_cases ej : j = i
      · subst ej
        rw [va_up_self]
      · rw [va_up_ne _ _ ej]
        exact hf j (by omega)
  obtain ⟨f, hf, ef⟩ := lp (xnq r) 0 (fun _ => none) (Nat.zero_add _) (fun j hj => absurd hj (Nat.not_lt_zero j))
  have hI1 : oI (oTq S (xnq r + 1) f) L r x := oTq_I hI (by omega)
  have hF1 : oF S (oTq S (xnq r + 1) f) 1 oN := oF_P (by show xnq r + 1 ≤ 50; omega)
  generalize hT : oTq S (xnq r + 1) f = T at *
  have hTp : T.2.2[S.2.2.length]? = some (.inl (6, xnq r + 1, .inr (.inr (.inr (.inr f))))) := by rw [← hT]; exact oP_at
  have hTl : T.2.2.length = S.2.2.length + 1 := by
    rw [← hT]
    show (S.2.2 ++ [_]).length = _
    rw [List.length_append]
    rfl
  generalize hfr : upd (upd (upd (fun _ => (0 : Int32)) 0 a) 1 rd) 2 b = fr
  have fr0 : fr 0 = a := by rw [← hfr]; rfl
  have fr1 : fr 1 = rd := by rw [← hfr]; rfl
  have fr2 : fr 2 = b := by rw [← hfr]; rfl
  have hI2 : oI (oTf T 3 fr) L r x := oTf_I hI1 (by omega)
  have hF2 : oF T (oTf T 3 fr) 1 oN := oF_P (by show 3 ≤ 50; omega)
  have hp2 : (oTf T 3 fr).2.2[S.2.2.length]? = some (.inl (6, xnq r + 1, .inr (.inr (.inr (.inr f))))) := oP_old hTp
  have hF3 : oF (oTf T 3 fr) (xm_set (oTf T 3 fr) S.2.2.length (.inl (6, xnq r + 1, .inr (.inr (.inr (.inr (va_up f (xnq r) (some T.2.2.length)))))))) 0 (fun z => z = S.2.2.length) := oF_S hp2 rfl rfl
  have old : ∀ {h c}, S.2.2[h]? = some c → h ≠ S.2.2.length := fun hc => by have := os_lt hc; omega
  have hI3 : oI (xm_set (oTf T 3 fr) S.2.2.length (.inl (6, xnq r + 1, .inr (.inr (.inr (.inr (va_up f (xnq r) (some T.2.2.length)))))))) L r x := by
    refine hI2.fr hF3 (fun a ha => ?_)
    have cl : ∀ {i}, oKd S (L a) i → L a ≠ S.2.2.length := fun z => old z.choose_spec.1
    have h7 : a = 0 ∨ a = 1 ∨ a = 2 ∨ a = 3 ∨ a = 4 ∨ a = 5 ∨ a = 6 ∨ (∃ v, v < xnv r ∧ a = 20 + v) ∨ (∃ k, k < xnk r ∧ a = 30 + k) ∨ ∃ q, q < xnq r ∧ a = 100 + q := by
      rcases ha with h | h | h | h
      · omega
      · exact Or.inr (Or.inr (Or.inr (Or.inr (Or.inr (Or.inr (Or.inr (Or.inl ⟨a - 20, by omega, by omega⟩)))))))
      · exact Or.inr (Or.inr (Or.inr (Or.inr (Or.inr (Or.inr (Or.inr (Or.inr (Or.inl ⟨a - 30, by omega, by omega⟩))))))))
      · exact Or.inr (Or.inr (Or.inr (Or.inr (Or.inr (Or.inr (Or.inr (Or.inr (Or.inr ⟨a - 100, by omega, by omega⟩))))))))
    rcases h7 with e | e | e | e | e | e | e | ⟨v, hv, e⟩ | ⟨v, hv, e⟩ | ⟨v, hv, e⟩ <;> subst e
    · exact cl hI.k0
    · exact cl hI.op.kd
    · exact cl hI.rooms.kd
    · exact cl hI.routes.kd
    · exact cl hI.ats.kd
    · exact cl hI.books.kd
    · exact cl hI.asks.kd
    · exact cl (hI.route hv).kd
    · exact cl (hI.kt hv)
    · exact cl (hI.ask hv).kd
  generalize hU : xm_set (oTf T 3 fr) S.2.2.length (.inl (6, xnq r + 1, .inr (.inr (.inr (.inr (va_up f (xnq r) (some T.2.2.length))))))) = U at *
  have hUp : U.2.2[S.2.2.length]? = some (.inl (6, xnq r + 1, .inr (.inr (.inr (.inr (va_up f (xnq r) (some T.2.2.length))))))) := by rw [← hU]; exact oS_get hp2
  have hUr : U.2.2[T.2.2.length]? = some (.inl (0, 3, .inl fr)) := hF3.2.2.2.2 _ _ oP_at (by show T.2.2.length ≠ S.2.2.length; omega)
  have hF : oF U (xm_set U (L 0) (.inr (8, oEf (oLa L S.2.2.length T.2.2.length (xnq r)) r x))) 0 (fun z => z = L 0) := oF_S hI3.e rfl rfl
  refine ⟨xm_set U (L 0) (.inr (8, oEf (oLa L S.2.2.length T.2.2.length (xnq r)) r x)), oLa L S.2.2.length T.2.2.length (xnq r), ?_, ?_, ?_, fun a h1 h2 => oLa_o (by omega) h2, fun B hB hL a => ?_⟩
  · rw [nI_0] at ef
    rw [yc_166, hI.g5, zbs, hI.asks.len (by decide), zbs, ← nI_succ, if_neg (nI_pos (by omega)), nI_clamp (by omega), if_pos (by omega), oP_eq hI.fl hI.f0]
    refine ef.trans ?_
    have w0 : ∀ g : Nat → Int32, xm_wI (oTf T 3 g) T.2.2.length 0 0 a = some (oTf T 3 (upd g 0 a)) := fun g => by
      have z := oTf_w (S := T) (f := g) (n := 3) (i := 0) (y := a) (by omega) (by omega)
      rw [nI_0] at z
      exact z
    have w1 : ∀ g : Nat → Int32, xm_wI (oTf T 3 g) T.2.2.length 0 1 rd = some (oTf T 3 (upd g 1 rd)) := fun g => by
      have z := oTf_w (S := T) (f := g) (n := 3) (i := 1) (y := rd) (by omega) (by omega)
      rw [o1I] at z
      exact z
    have w2 : ∀ g : Nat → Int32, xm_wI (oTf T 3 g) T.2.2.length 0 2 b = some (oTf T 3 (upd g 2 b)) := fun g => by
      have z := oTf_w (S := T) (f := g) (n := 3) (i := 2) (y := b) (by omega) (by omega)
      rw [o2I] at z
      exact z
    rw [yb_166_15, hI1.g5, zbs, hI1.asks.len (by decide), zbs, if_pos (nI_le (Nat.le_refl _) (by omega)), if_neg (by decide), if_pos (by decide), oP_eq hI1.fl hI1.f0]
    show (xm_wI (oTf T 3 fun _ => 0) T.2.2.length 0 0 a).bind _ = _
    rw [w0, zbs, w1, zbs, w2, zbs, hfr, hI2.g5, zbs, hI2.asks.len (by decide), zbs, if_pos oTf_A.sm, og_wQ hp2 (by omega) (by omega), zbs, hU, og_S hI3.e (by show 5 < 9; omega), zbs]
    have eo : (oEf L r x).set 5 (.ref S.2.2.length) = oEf (oLa L S.2.2.length T.2.2.length (xnq r)) r x := by
      unfold oEf
      rw [oLa_6, oLa_o (a := 1) (by omega) (by omega), oLa_o (a := 2) (by omega) (by omega), oLa_o (a := 3) (by omega) (by omega), oLa_o (a := 4) (by omega) (by omega), oLa_o (a := 5) (by omega) (by omega)]
      rfl
    rw [eo]
  · have e : ∀ i, i ≠ 3 → (i < 176 + 3 * xnq r ∨ 179 + 3 * xnq r ≤ i) → sp_addq r a rd b i = r i := fun i h3 hi => by
      unfold sp_addq
      rw [upd_o h3, upd_o (by omega), upd_o (by omega), upd_o (by omega)]
    have a0 : sp_addq r a rd b (176 + 3 * xnq r) = a := by
      unfold sp_addq
      rw [upd_o (by omega), upd_o (by omega), upd_o (by omega)]
      exact if_pos rfl
    have a1 : sp_addq r a rd b (177 + 3 * xnq r) = rd := by
      unfold sp_addq
      rw [upd_o (by omega), upd_o (by omega)]
      exact if_pos rfl
    have a2 : sp_addq r a rd b (178 + 3 * xnq r) = b := by
      unfold sp_addq
      rw [upd_o (by omega)]
      exact if_pos rfl
    have n0 : xnb (sp_addq r a rd b) = xnb r := by unfold xnb; rw [e 0 (by omega) (by omega)]
    have n1 : xnv (sp_addq r a rd b) = xnv r := by unfold xnv; rw [e 1 (by omega) (by omega)]
    have n2 : xnk (sp_addq r a rd b) = xnk r := by unfold xnk; rw [e 2 (by omega) (by omega)]
    have n3 : xnq (sp_addq r a rd b) = xnq r + 1 := by
      have e3 : sp_addq r a rd b 3 = nI (xnq r + 1) := by
        unfold sp_addq
        exact if_pos rfl
      show (sp_addq r a rd b 3).toNatClampNeg = _
      rw [e3, nI_clamp (by omega)]
    have ek := hI3.k0
    obtain ⟨d1, d2, d3, d4⟩ := hI3.2.2.2
    have lo : ∀ {c}, c < 100 → c ≠ 6 → oLa L S.2.2.length T.2.2.length (xnq r) c = L c := fun h h6 => oLa_o (by omega) h6
    refine ⟨⟨⟨hI3.fl, hI3.f0⟩, ?_⟩, ⟨?_, ?_, ?_, ?_, ?_, ?_⟩, ⟨fun v hv => ?_, fun k hk => ?_, fun i hi => ?_⟩, fun j k hj hk => ?_, ?_, fun v hv => ?_, fun i hi => ?_⟩
    · rw [lo (by omega) (by omega), oEf_cg (r := r) (e 4 (by omega) (by omega)) (e 5 (by omega) (by omega))]
      exact oS_get hI3.e
    · rw [n0, lo (by omega) (by omega)]
      exact (hI3.op.fr hF (hI3.op.kd.ne ek (by decide))).cg (fun b hb => e _ (by omega) (by omega))
    · rw [n1, lo (by omega) (by omega)]
      exact (hI3.rooms.fr hF (hI3.rooms.kd.ne ek (by decide))).cg (fun v hv => e _ (by omega) (by omega))
    · rw [n1, lo (by omega) (by omega)]
      obtain ⟨g, g1, g2⟩ := hI3.routes.fr hF (hI3.routes.kd.ne ek (by decide))
      exact ⟨g, g1, fun v hv => (g2 v hv).trans (congrArg some (lo (by omega) (by omega)).symm)⟩
    · rw [n1, lo (by omega) (by omega)]
      exact (hI3.ats.fr hF (hI3.ats.kd.ne ek (by decide))).cg (fun v hv => e _ (by omega) (by omega))
    · rw [n2, lo (by omega) (by omega)]
      obtain ⟨g, g1, g2⟩ := hI3.books.fr hF (hI3.books.kd.ne ek (by decide))
      exact ⟨g, g1, fun v hv => (g2 v hv).trans (congrArg some (lo (by omega) (by omega)).symm)⟩
    · rw [n3, oLa_6]
      refine ⟨_, hF.2.2.2.2 _ _ hUp (fun z => old hI.e z.symm), fun i hi => ?_⟩
      by_cases ei : i = xnq r
      · subst ei
        rw [va_up_self]
        exact congrArg some oLa_n.symm
      · rw [va_up_ne _ _ ei, hf i (by omega)]
        exact congrArg some (oLa_o (by omega) (by omega)).symm
    · rw [n1] at hv
      have hst := hB.st9 hv
      rw [show xst (sp_addq r a rd b) v = xst r v by unfold xst; rw [e _ (by omega) (by omega)], lo (by omega) (by omega)]
      exact ((hI3.route hv).fr hF ((hI3.route hv).kd.ne ek (by decide))).cg (fun s hs => e _ (by omega) (by omega))
    · rw [n2] at hk
      rw [lo (by omega) (by omega), oTh_cg (k := k) (r := r) (fun i h1 h2 => e i (by omega) (by omega))]
      exact hF.2.2.2.2 _ _ (hI3.th hk) ((hI3.kt hk).ne ek (by decide))
    · rw [n3] at hi
      by_cases ei : i = xnq r
      · subst ei
        rw [oLa_n]
        refine ⟨fr, hF.2.2.2.2 _ _ hUr (fun z => ?_), fun c hc => ?_⟩
        · have := os_lt hI.e
          have z' : T.2.2.length = L 0 := z
          omega
        · have h3 : c = 0 ∨ c = 1 ∨ c = 2 := by omega
          rcases h3 with e3 | e3 | e3 <;> subst e3
          · rw [fr0]; exact a0.symm
          · rw [fr1]; show rd = sp_addq r a rd b (176 + 3 * xnq r + 1); rw [show 176 + 3 * xnq r + 1 = 177 + 3 * xnq r by omega]; exact a1.symm
          · rw [fr2]; show b = sp_addq r a rd b (176 + 3 * xnq r + 2); rw [show 176 + 3 * xnq r + 2 = 178 + 3 * xnq r by omega]; exact a2.symm
      · have hi' : i < xnq r := by omega
        rw [oLa_o (by omega) (by omega)]
        exact ((hI3.ask hi').fr hF ((hI3.ask hi').kd.ne ek (by decide))).cg (fun c hc => e _ (by omega) (by omega))
    · rw [n2] at hk
      rw [lo (by omega) (by omega), lo (by omega) (by omega)]
      exact d1 j k hj hk
    · rw [lo (by omega) (by omega), lo (by omega) (by omega)]
      exact d2
    · rw [n1] at hv
      rw [lo (by omega) (by omega), lo (by omega) (by omega)]
      exact d3 v hv
    · rw [n3] at hi
      rw [lo (by omega) (by omega)]
      by_cases ei : i = xnq r
      · subst ei
        rw [oLa_n]
        have := hI.ats.lt
        omega
      · rw [oLa_o (by omega) (by omega)]
        exact d4 _ (by omega)
  · exact (((hF1.nw (Nat.le_refl _)).tr (hF2.nw (Nat.le_refl _))).tr2 hF3 (fun h c hc z => absurd z (old hc))).tr (hF.mo (Nat.le_refl _) (fun _ _ _ z => Or.inl z))
  · unfold oLa
    split
    · exact hB
    · split
      · omega
      · exact hL _
end OA
