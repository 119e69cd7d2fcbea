/-! A GIVEN TEXT READ: hold, a request, the lists, the whole -/
def tHold : Option Nat → List Int32
  | none => []
  | some h => xm_str 4 ++ (tDg h ++ [59])
def aHold (r : Nat → Int32) : Option Nat → Nat → Int32
  | none => r
  | some h => upd r 5 (nI h)
section PA
variable {f : Nat → Int32} {n p : Nat} {r : Nat → Int32}
theorem tVan_len {V : Nat × List Nat} : (tVan V).length = 6 + 2 * V.2.length := by
  unfold tVan
  rw [List.length_append, List.length_append, List.length_append, tSt_len]
  show 3 + (2 + (2 * V.2.length + 1)) = _
  omega
theorem van_w {V : Nat × List Nat} {b : List Int32} (hn : n < 2 ^ 30) (h : hat f n p (tVan V ++ b)) : sp_wrd f (tk f n p) 2 := by
  have h0 : hat f n p (xm_str 2 ++ 32 :: (nI (48 + V.1) :: (tSt V.2 ++ 59 :: b))) := by
    have e : tVan V ++ b = xm_str 2 ++ 32 :: (nI (48 + V.1) :: (tSt V.2 ++ 59 :: b)) := by
      show (xm_str 2 ++ (tDg V.1 ++ (tSt V.2 ++ [59]))) ++ b = _
      rw [List.append_assoc, List.append_assoc, List.append_assoc]
      rfl
    rw [← e]
    exact h
  exact (tk_wrd (k := 2) (by omega) (by omega) h0 hn).2
theorem vans_ok (hn : n < 2 ^ 30) {b : List Int32} : ∀ (Vs : List (Nat × List Nat)) (k p : Nat) (r : Nat → Int32), Vs.length ≤ k → hat f n p (Vs.flatMap tVan ++ b) → kSn r → xnv r + Vs.length ≤ 4 → (∀ V ∈ Vs, vG (xnb r) V) → ¬ sp_wrd f (tk f n (p + (Vs.flatMap tVan).length)) 2 → (sp_vans f n k (tk f n p, r) = (tk f n (p + (Vs.flatMap tVan).length), Vs.foldl aVan r) ∧ hat f n (p + (Vs.flatMap tVan).length) b) ∧ kSn (Vs.foldl aVan r) ∧ xnv (Vs.foldl aVan r) = xnv r + Vs.length ∧ xnk (Vs.foldl aVan r) = xnk r ∧ xnb (Vs.foldl aVan r) = xnb r := by
  intro Vs
  induction Vs with
  | nil =>
    intro k p r hk h hS h4 hG hne
    have hne' : ¬ sp_wrd f (tk f n p) 2 := hne
    refine ⟨⟨?_, h⟩, hS, rfl, rfl, rfl⟩
    cases k with
    | zero => rw [sp_vans_0]; rfl
    | succ k =>
      rw [sp_vans_s, if_neg hne']
      rfl
  | cons V Vs ih =>
    intro k p r hk h hS h4 hG hne
    rw [List.length_cons] at hk h4
    rw [List.flatMap_cons, List.length_append, tVan_len] at hne
    rw [List.flatMap_cons, List.append_assoc] at h
    obtain ⟨k', ek⟩ : ∃ k', k = k' + 1 := ⟨k - 1, by omega⟩
    subst ek
    have hV := hG V (List.mem_cons_self)
    obtain ⟨v1, v2⟩ := van_ok hn h hS (by omega) hV
    obtain ⟨a1, a2, -, -, a5, a6, -⟩ := aVan_ok hS (by omega) hV
    obtain ⟨⟨z1, z2⟩, z3, z4, z5, z6⟩ := ih k' (p + (6 + 2 * V.2.length)) (aVan r V) (by omega) v2 a1 (by omega) (fun V' hV' => by rw [a6]; exact hG V' (List.mem_cons_of_mem _ hV')) (by rw [Nat.add_assoc]; exact hne)
    rw [List.flatMap_cons, List.length_append, tVan_len, List.foldl_cons, List.length_cons]
    refine ⟨⟨?_, by rw [← Nat.add_assoc]; exact z2⟩, z3, by omega, z5.trans a5, z6.trans a6⟩
    rw [sp_vans_s, if_pos (van_w hn h), v1, z1, Nat.add_assoc]
theorem books_ok (hn : n < 2 ^ 30) {b : List Int32} : ∀ (Ks : List Nat) (k p : Nat) (r : Nat → Int32), Ks.length ≤ k → hat f n p (Ks.flatMap tBook ++ b) → kSn r → xnk r + Ks.length ≤ 20 → (∀ x ∈ Ks, x < xnb r) → ¬ sp_wrd f (tk f n (p + 7 * Ks.length)) 3 → (sp_books f n k (tk f n p, r) = (tk f n (p + 7 * Ks.length), Ks.foldl aBook r) ∧ hat f n (p + 7 * Ks.length) b) ∧ kSn (Ks.foldl aBook r) ∧ xnk (Ks.foldl aBook r) = xnk r + Ks.length ∧ xnv (Ks.foldl aBook r) = xnv r ∧ xnb (Ks.foldl aBook r) = xnb r := by
  intro Ks
  induction Ks with
  | nil =>
    intro k p r hk h hS h4 hG hne
    have hne' : ¬ sp_wrd f (tk f n p) 3 := hne
    refine ⟨⟨?_, h⟩, hS, rfl, rfl, rfl⟩
    cases k with
    | zero => rw [sp_books_0]; rfl
    | succ k =>
      rw [sp_books_s, if_neg hne']
      rfl
  | cons x Ks ih =>
    intro k p r hk h hS h4 hG hne
    rw [List.length_cons] at hk h4 hne
    rw [List.flatMap_cons, List.append_assoc] at h
    obtain ⟨k', ek⟩ : ∃ k', k = k' + 1 := ⟨k - 1, by omega⟩
    subst ek
    have hx := hG x (List.mem_cons_self)
    obtain ⟨⟨v0, v1⟩, v2⟩ := book_ok hn h hS (by omega) hx
    obtain ⟨a1, a2, -, a4, a5⟩ := aBook_ok hS (by omega) hx
    obtain ⟨⟨z1, z2⟩, z3, z4, z5, z6⟩ := ih k' (p + 7) (aBook r x) (by omega) v2 a1 (by omega) (fun y hy => by rw [a5]; exact hG y (List.mem_cons_of_mem _ hy)) (by rw [show p + 7 + 7 * Ks.length = p + 7 * (Ks.length + 1) by omega]; exact hne)
    rw [show p + 7 + 7 * Ks.length = p + 7 * (Ks.length + 1) by omega] at z1 z2
    rw [List.foldl_cons, List.length_cons]
    refine ⟨⟨?_, z2⟩, z3, by omega, z5.trans a2, z6.trans a5⟩
    rw [sp_books_s, if_pos v0, v1, z1]
/-- a request -/
theorem ask_ok {q : Nat × Nat × Nat} {b : List Int32} (hn : n < 2 ^ 30) (h : hat f n p (tAsk q ++ b)) (hB : xBd r) (h40 : xnq r < 40) (ha : q.1 < xnk r) (ha10 : q.1 < 10) (hb : q.2.1 < 10) (hc : q.2.2 < xnb r) (hno : sp_by r (nI q.1) (nI q.2.1) = none) : (sp_wrd f (tk f n p) 5 ∧ ((tk f n p).2.2.2.1 = 0 ∧ ¬ (tk f n p).2.2.1 = 0) ∧ sp_ask1 f n (tk f n p, r) = (tk f n (p + 10), aAsk r q)) ∧ hat f n (p + 10) b := by
  have hb6 := hB.b6
  have hk20 := hB.k20
  obtain ⟨a, y, c⟩ := q
  have hb' : y < 10 := hb
  have hno' : sp_by r (nI a) (nI y) = none := hno
  have h0 : hat f n p (xm_str 5 ++ 32 :: (nI (48 + a) :: (tDg y ++ (tDg c ++ 59 :: b)))) := by
    have e : tAsk (a, y, c) ++ b = xm_str 5 ++ 32 :: (nI (48 + a) :: (tDg y ++ (tDg c ++ 59 :: b))) := by
      show (xm_str 5 ++ (tDg a ++ (tDg y ++ (tDg c ++ [59])))) ++ b = _
      rw [List.append_assoc, List.append_assoc, List.append_assoc, List.append_assoc]
      rfl
    rw [← e]
    exact h
  obtain ⟨w1, w2⟩ := tk_wrd (k := 5) (by omega) (by omega) h0 hn
  obtain ⟨-, h1⟩ := hat_a h0
  have h1' : hat f n (p + 3) (32 :: nI (48 + a) :: 32 :: (nI (48 + y) :: (tDg c ++ 59 :: b))) := h1
  obtain ⟨-, h2⟩ := @hat_a f n (p + 3) (tDg a) (tDg y ++ (tDg c ++ 59 :: b)) h1'
  have h2' : hat f n (p + 5) (32 :: nI (48 + y) :: 32 :: (nI (48 + c) :: 59 :: b)) := h2
  obtain ⟨-, h3⟩ := @hat_a f n (p + 5) (tDg y) (tDg c ++ 59 :: b) h2'
  have h3' : hat f n (p + 7) (32 :: nI (48 + c) :: 59 :: b) := h3
  obtain ⟨-, h4⟩ := @hat_a f n (p + 7) (tDg c) (59 :: b) h3'
  have h4' : hat f n (p + 9) (59 :: b) := h4
  obtain ⟨-, h5⟩ := hat_c h4'
  obtain ⟨n1, n2⟩ := numT_ok (f := f) (n := n) (p := p + 3) (x := a) (lo := 0) (hi := r 2 - 1) ha10 h1' (Or.inl rfl) hn (by rw [hB.k]; exact zrg' (by omega) ha)
  obtain ⟨m1, m2, m3, m4⟩ := num_ok (f := f) (n := n) (p := p + 5) (x := y) hb h2' (Or.inl rfl) hn
  obtain ⟨l1, l2⟩ := numT_ok (f := f) (n := n) (p := p + 7) (x := c) (lo := 0) (hi := r 0 - 1) (by have : c < xnb r := hc; omega) h3' (Or.inr rfl) hn (by rw [hB.b]; exact zrg' (by omega) hc)
  have e1 : sp_ak1 f (tk f n p) = tk f n p := by
    rw [sp_ak1_u, zB_tt w2]
    exact ck_1 (by decide)
  have e2 : sp_ak2 f (tk f n p) r = tk f n p := by
    rw [sp_ak2_u, e1]
    exact ck_1 (by rw [if_neg (fun z => by omega)]; decide)
  have e3 : sp_ak3 f n (tk f n p) r = tk f n (p + 3) := by
    rw [sp_ak3_u, e2, w1, tk_adv]
    rfl
  have e4 : sp_ak4 f n (tk f n p) r = tk f n (p + 5) := by rw [sp_ak4_u, e3, n1]
  have eB : sp_akB f n (tk f n p) r = nI a := by rw [sp_akB_u, e3, n2]
  have e6 : sp_ak6 f n (tk f n p) r = tk f n (p + 5) := by
    rw [sp_ak6_u, e4]
    exact rn2_ok m2 (by rw [m3]; exact ⟨nI_pos' (by omega), nI_le (b := 99) (by omega) (by omega)⟩)
  have e7 : sp_ak7 f n (tk f n p) r = tk f n (p + 5) := by
    rw [sp_ak7_u, e6, eB, e4, m3]
    exact ck_1 (by rw [if_neg (fun z => z.2 hno')]; decide)
  have eR : sp_akR f n (tk f n p) r = nI y := by rw [sp_akR_u, e7, if_pos m1, e4, m3]
  have e8 : sp_ak8 f n (tk f n p) r = tk f n (p + 7) := by rw [sp_ak8_u, e7, m4]
  have e9 : sp_ak9 f n (tk f n p) r = tk f n (p + 9) := by rw [sp_ak9_u, e8, l1]
  have eW : sp_akW f n (tk f n p) r = nI c := by rw [sp_akW_u, e8, l2]
  refine ⟨⟨w2, ⟨by rw [w1], ?_⟩, ?_⟩, h5⟩
  · rw [w1]
    show ¬ (1 : Int32) = 0
    decide
  · rw [sp_ask1_u]
    dsimp only
    rw [sp_akr_u, e9, if_pos (by rw [tk_sem h4']), eB, eR, eW, exp2_ok h4' hn]
    rfl
def akG : (Nat → Int32) → List (Nat × Nat × Nat) → Prop
  | _, [] => True
  | r, q :: l => (q.1 < xnk r ∧ q.1 < 10 ∧ q.2.1 < 10 ∧ q.2.2 < xnb r ∧ sp_by r (nI q.1) (nI q.2.1) = none) ∧ akG (aAsk r q) l
theorem asks_ok (hn : n < 2 ^ 30) : ∀ (Qs : List (Nat × Nat × Nat)) (k p : Nat) (r : Nat → Int32), Qs.length ≤ k → hat f n p (Qs.flatMap tAsk) → p + 10 * Qs.length = n → xBd r → xnq r + Qs.length ≤ 40 → akG r Qs → sp_asks f n k (tk f n p, r) = (tk f n n, Qs.foldl aAsk r) := by
  intro Qs
  induction Qs with
  | nil =>
    intro k p r hk h hp hB h4 hG
    have hp' : p = n := hp
    subst hp'
    cases k with
    | zero => rw [sp_asks_0]; rfl
    | succ k =>
      rw [sp_asks_s, if_neg]
      · rfl
      · rintro ⟨-, z⟩
        exact z (by rw [tk_end])
  | cons q Qs ih =>
    intro k p r hk h hp hB h4 hG
    rw [List.length_cons] at hk hp h4
    rw [List.flatMap_cons] at h
    obtain ⟨k', ek⟩ : ∃ k', k = k' + 1 := ⟨k - 1, by omega⟩
    subst ek
    obtain ⟨⟨g1, g2, g3, g4, g5⟩, g6⟩ := hG
    obtain ⟨⟨v0, v1, v2⟩, v3⟩ := ask_ok hn h hB (by omega) g1 g2 g3 g4 g5
    have c := kAddq_c (r := r) (a := nI q.1) (rd := nI q.2.1) (b := nI q.2.2) hB (by omega)
    have z := ih k' (p + 10) (aAsk r q) (by omega) v3 (by omega) (sp_addq_bd hB (by omega)) (by
      have : xnq (aAsk r q) = xnq r + 1 := c.1
      omega) g6
    rw [sp_asks_s, if_pos v1, v2, z, List.foldl_cons]
theorem hold_ok {H : Option Nat} {b : List Int32} (hn : n < 2 ^ 30) (h : hat f n p (tHold H ++ b)) (hH : ∀ x, H = some x → 1 ≤ x ∧ x ≤ 9) (hno : H = none → ¬ sp_wrd f (tk f n p) 4) : sq_hold f n (tk f n p, r) = (tk f n (p + (tHold H).length), aHold r H) ∧ hat f n (p + (tHold H).length) b := by
  cases H with
  | none =>
    refine ⟨?_, h⟩
    rw [sq_hold_u, if_neg (show ¬ sp_wrd f (tk f n p, r).1 4 from hno rfl)]
    rfl
  | some x =>
    obtain ⟨x1, x9⟩ := hH x rfl
    have h0 : hat f n p (xm_str 4 ++ 32 :: (nI (48 + x) :: 59 :: b)) := by
      have e : tHold (some x) ++ b = xm_str 4 ++ 32 :: (nI (48 + x) :: 59 :: b) := by
        show (xm_str 4 ++ (tDg x ++ [59])) ++ b = _
        rw [List.append_assoc, List.append_assoc]
        rfl
      rw [← e]
      exact h
    obtain ⟨w1, w2⟩ := tk_wrd (k := 4) (by omega) (by omega) h0 hn
    obtain ⟨-, h1⟩ := hat_a h0
    have h1' : hat f n (p + 4) (32 :: nI (48 + x) :: 59 :: b) := h1
    obtain ⟨n1, n2⟩ := numT_ok (f := f) (n := n) (p := p + 4) (x := x) (lo := 1) (hi := 50) (by omega) h1' (Or.inr rfl) hn ⟨nI_le (a := 1) (by omega) (by omega), nI_le (b := 50) (by omega) (by omega)⟩
    have es : sp_scan f n (tk f n p) = tk f n (p + 4) := by
      rw [w1]
      rfl
    obtain ⟨-, h2⟩ := @hat_a f n (p + 4) (tDg x) (59 :: b) h1'
    have h2' : hat f n (p + 6) (59 :: b) := h2
    obtain ⟨-, h3⟩ := hat_c h2'
    refine ⟨?_, h3⟩
    rw [sq_hold_u, if_pos (show sp_wrd f (tk f n p, r).1 4 from w2)]
    dsimp only
    rw [sp_hl1_u, sp_hlV_u, es, n1, n2, exp2_ok h2' hn]
    rfl
end PA
