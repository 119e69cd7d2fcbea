/-! A GIVEN TEXT READ: a van, a book, hold, a request -/
section PV
variable {f : Nat → Int32} {n p : Nat} {r : Nat → Int32}
theorem tSt_len : ∀ l : List Nat, (tSt l).length = 2 * l.length := by
  intro l
  induction l with
  | nil => rfl
  | cons s l ih =>
    show (tDg s ++ tSt l).length = _
    rw [List.length_append, ih, List.length_cons]
    show 2 + 2 * l.length = _
    omega
theorem st_1 {s : Nat} {l : List Nat} {b : List Int32} {v : Nat} {w : Option Nat} (hn : n < 2 ^ 30) (h : hat f n p (tSt (s :: l) ++ 59 :: b)) (hS : kSn r) (hv : xnv r = v + 1) (h8 : xst r v < 8) (hs : s < xnb r) (hne : w ≠ some s) (hW : stW r v w) : sq_stop f n (tk f n p, r) = (tk f n (p + 2), aStop r s) ∧ hat f n (p + 2) (tSt l ++ 59 :: b) := by
  have hb6 := hS.1.b6
  have h' : hat f n p (tDg s ++ (tSt l ++ 59 :: b)) := by
    have e : tSt (s :: l) ++ 59 :: b = tDg s ++ (tSt l ++ 59 :: b) := by
      show (tDg s ++ tSt l) ++ 59 :: b = _
      rw [List.append_assoc]
    rw [← e]
    exact h
  obtain ⟨-, hnext⟩ := hat_a h'
  have hN : ∃ c l', (c = 32 ∨ c = 59) ∧ hat f n p (32 :: nI (48 + s) :: c :: l') := by
    cases l with
    | nil => exact ⟨59, b, Or.inr rfl, h'⟩
    | cons s' l' => exact ⟨32, nI (48 + s') :: (tSt l' ++ 59 :: b), Or.inl rfl, by
        have e : tDg s ++ (tSt (s' :: l') ++ 59 :: b) = 32 :: nI (48 + s) :: 32 :: (nI (48 + s') :: (tSt l' ++ 59 :: b)) := by
          show tDg s ++ ((tDg s' ++ tSt l') ++ 59 :: b) = _
          rw [List.append_assoc]
          rfl
        rw [← e]
        exact h'⟩
  obtain ⟨c, l', hc, hh⟩ := hN
  exact ⟨st_ok (s := s) hh hc hn hS (by omega) hs (by rw [hv, Nat.add_sub_cancel]; omega) (by rw [hv, Nat.add_sub_cancel]; exact stW_d hW hne (by omega)), hnext⟩
/-- a van's words are good -/
def vG (b : Nat) (V : Nat × List Nat) : Prop := (1 ≤ V.1 ∧ V.1 ≤ 9) ∧ (2 ≤ V.2.length ∧ V.2.length ≤ 8) ∧ stG b none V.2 ∧ V.2.getD 0 0 ≠ V.2.getD (V.2.length - 1) 0
theorem aVan_ok {V : Nat × List Nat} (hS : kSn r) (h4 : xnv r < 4) (hG : vG (xnb r) V) : kSn (aVan r V) ∧ xnv (aVan r V) = xnv r + 1 ∧ xst (aVan r V) (xnv r) = V.2.length ∧ (∀ u, u < xnv r → xst (aVan r V) u = xst r u) ∧ xnk (aVan r V) = xnk r ∧ xnb (aVan r V) = xnb r ∧ (∀ i, i < V.2.length → aVan r V (15 + 11 * xnv r + i) = nI (V.2.getD i 0)) ∧ aVan r V (12 + 11 * xnv r) = nI V.1 ∧ (∀ j, j ≠ 1 → ¬ (12 + 11 * xnv r ≤ j ∧ j < 23 + 11 * xnv r) → aVan r V j = r j) := by
  obtain ⟨g1, g2, g3, g4⟩ := hG
  obtain ⟨a1, a2, a3, a4, a5, a6⟩ := @kSn_V r (xnv r) (nI V.1) hS rfl h4 (xil_nI (by omega) (by omega)) (nI_ne0 (by omega) (by omega))
  obtain ⟨b1, b2, b3, b4, b5, b6, b7, b8⟩ := @stops_r (xnv r) V.2 (sp_addV r (xnv r) (nI V.1)) none a1 a2 (by omega) (by rw [a6]; exact g3) a3
  rw [a3, Nat.add_zero] at b7 b8
  refine ⟨b1, b2, b3.trans (by omega), fun u hu => (b4 u (by omega) (by omega)).trans (a4 u hu), b5.trans a5, b6.trans a6, b7, ?_, fun j h1 h2 => ?_⟩
  · show V.2.foldl aStop (sp_addV r (xnv r) (nI V.1)) (12 + 11 * xnv r) = _
    rw [b8 _ (by omega) (by omega)]
    unfold sp_addV
    rw [zun (by omega), zu1]
  · show V.2.foldl aStop (sp_addV r (xnv r) (nI V.1)) j = _
    rw [b8 j (by omega) (by omega)]
    unfold sp_addV
    rw [zun h1, zun (by omega)]
theorem van_ok {V : Nat × List Nat} {b : List Int32} (hn : n < 2 ^ 30) (h : hat f n p (tVan V ++ b)) (hS : kSn r) (h4 : xnv r < 4) (hG : vG (xnb r) V) : sq_van f n (tk f n p, r) = (tk f n (p + (6 + 2 * V.2.length)), aVan r V) ∧ hat f n (p + (6 + 2 * V.2.length)) b := by
  obtain ⟨g1, g2, g3, g4⟩ := id hG
  obtain ⟨-, -, v3, -, -, -, v7, -⟩ := aVan_ok hS h4 hG
  have h0 : hat f n p (xm_str 2 ++ 32 :: (nI (48 + V.1) :: (tSt V.2 ++ 59 :: b))) := by
    have e : tVan V ++ b = xm_str 2 ++ 32 :: (nI (48 + V.1) :: (tSt V.2 ++ 59 :: b)) := by
      show (xm_str 2 ++ (tDg V.1 ++ (tSt V.2 ++ [59]))) ++ b = _
      rw [List.append_assoc, List.append_assoc, List.append_assoc]
      rfl
    rw [← e]
    exact h
  obtain ⟨w1, w2⟩ := tk_wrd (k := 2) (by omega) (by omega) h0 hn
  obtain ⟨-, h1⟩ := hat_a h0
  have h1' : hat f n (p + 3) (32 :: nI (48 + V.1) :: (tSt V.2 ++ 59 :: b)) := h1
  have hV2 : ∃ s1 s2 l, V.2 = s1 :: s2 :: l := by
    match hh : V.2 with
    | [] => rw [hh] at g2; exact absurd g2.1 (by decide)
    | [_] => rw [hh] at g2; exact absurd g2.1 (show ¬ 2 ≤ 1 by omega)
    | s1 :: s2 :: l => exact ⟨s1, s2, l, rfl⟩
  obtain ⟨s1, s2, l, eV⟩ := hV2
  have e1 : sp_vn1 f (tk f n p) = tk f n p := by
    rw [sp_vn1_u, zB_tt w2]
    exact ck_1 (by decide)
  have e2 : sp_vn2 f (tk f n p) r = tk f n p := by
    rw [sp_vn2_u, e1]
    exact ck_1 (by rw [if_neg (fun z => by omega)]; decide)
  have e3 : sp_vn3 f n (tk f n p) r = tk f n (p + 3) := by
    rw [sp_vn3_u, e2, w1, tk_adv]
    rfl
  have hnum : hat f n (p + 3) (32 :: nI (48 + V.1) :: 32 :: (nI (48 + s1) :: (tSt (s2 :: l) ++ 59 :: b))) := by
    have e : 32 :: nI (48 + V.1) :: (tSt V.2 ++ 59 :: b) = 32 :: nI (48 + V.1) :: 32 :: (nI (48 + s1) :: (tSt (s2 :: l) ++ 59 :: b)) := by
      rw [eV]
      show 32 :: nI (48 + V.1) :: ((tDg s1 ++ tSt (s2 :: l)) ++ 59 :: b) = _
      rw [List.append_assoc]
      rfl
    rw [← e]
    exact h1'
  obtain ⟨n1, n2⟩ := numT_ok (f := f) (n := n) (p := p + 3) (x := V.1) (lo := 1) (hi := 9) (by omega) hnum (Or.inl rfl) hn ⟨nI_le (a := 1) (by omega) (by omega), nI_le (b := 9) (by omega) (by omega)⟩
  have e4 : sp_vn4 f n (tk f n p) r = tk f n (p + 3 + 2) := by
    rw [sp_vn4_u, e3, n1]
  have e5 : sp_vn5 f n (tk f n p) r = sp_addV r (xnv r) (nI V.1) := by
    rw [sp_vn5_u, e3, n2]
  obtain ⟨-, h2⟩ := @hat_a f n (p + 3) (tDg V.1) (tSt V.2 ++ 59 :: b) h1'
  have h2' : hat f n (p + 3 + 2) (tSt (s1 :: s2 :: l) ++ 59 :: b) := by rw [← eV]; exact h2
  obtain ⟨a1, a2, a3, a4, a5, a6⟩ := @kSn_V r (xnv r) (nI V.1) hS rfl h4 (xil_nI (by omega) (by omega)) (nI_ne0 (by omega) (by omega))
  have hst := g3
  rw [eV] at hst g2
  obtain ⟨i1, i2, i3, i4, i5⟩ := (show s1 < xnb r ∧ none ≠ some s1 ∧ s2 < xnb r ∧ some s1 ≠ some s2 ∧ stG (xnb r) (some s2) l from hst)
  have hl6 : l.length ≤ 6 := by have : l.length + 1 + 1 ≤ 8 := g2.2; omega
  obtain ⟨q1, q2⟩ := st_1 hn h2' a1 a2 (by omega) (by rw [a6]; exact i1) i2 a3
  obtain ⟨b1, b2, b3, b4, b5, b6, -, -⟩ := aStop_ok (s := s1) a1 a2 (by omega) (by rw [a6]; exact i1)
  have bw := stW_s (s := s1) a1 a2 (by omega) (by rw [a6]; exact i1)
  obtain ⟨q3, q4⟩ := st_1 hn q2 b1 b2 (by omega) (by rw [b6, a6]; exact i3) i4 bw
  obtain ⟨c1, c2, c3, c4, c5, c6, -, -⟩ := aStop_ok (s := s2) b1 b2 (by omega) (by rw [b6, a6]; exact i3)
  have cw := stW_s (s := s2) b1 b2 (by omega) (by rw [b6, a6]; exact i3)
  have q5 := stops_ok hn l 7 _ _ (some s2) (by omega) q4 c1 c2 (by omega) (by rw [c6, b6, a6]; exact i5) cw
  have eR : l.foldl aStop (aStop (aStop (sp_addV r (xnv r) (nI V.1)) s1) s2) = aVan r V := by
    show _ = V.2.foldl aStop (sp_addV r (xnv r) (nI V.1))
    rw [eV, List.foldl_cons, List.foldl_cons]
  have el : V.2.length = l.length + 2 := by rw [eV]; rfl
  have e8 : sp_vn8 f n (tk f n p) r = (tk f n (p + (5 + 2 * V.2.length)), aVan r V) := by
    rw [sp_vn8_u, e4, e5, q1, q3, q5, eR, show p + 3 + 2 + 2 + 2 + 2 * l.length = p + (5 + 2 * V.2.length) by omega]
  obtain ⟨-, h5⟩ := @hat_a f n (p + 3 + 2) (tSt V.2) (59 :: b) h2
  rw [tSt_len, show p + 3 + 2 + 2 * V.2.length = p + (5 + 2 * V.2.length) by omega] at h5
  have ts := tk_sem h5
  have nvv : xnv (aVan r V) - 1 = xnv r := by
    rw [(aVan_ok hS h4 hG).2.1]
    omega
  have fl : ¬ aVan r V (15 + 11 * xnv r) = aVan r V (14 + 11 * xnv r + V.2.length) := by
    have f1 := v7 0 (by omega)
    have f2 := v7 (V.2.length - 1) (by omega)
    rw [Nat.add_zero] at f1
    rw [show 15 + 11 * xnv r + (V.2.length - 1) = 14 + 11 * xnv r + V.2.length by omega] at f2
    rw [f1, f2]
    have hb6 := hS.1.b6
    have bd : ∀ i, i < V.2.length → V.2.getD i 0 < 6 := by
      have key : ∀ (l : List Nat) (w : Option Nat), stG (xnb r) w l → ∀ i, i < l.length → l.getD i 0 < xnb r := by
        intro l
        induction l with
        | nil => exact fun _ _ i hi => absurd hi (Nat.not_lt_zero i)
        | cons s l ih =>
          intro w hG i hi
          obtain ⟨k1, k2, k3⟩ := (show s < xnb r ∧ w ≠ some s ∧ stG (xnb r) (some s) l from hG)
          cases i with
          | zero => exact k1
          | succ i => exact ih (some s) k3 i (by rw [List.length_cons] at hi; omega)
      intro i hi
      have := key V.2 none g3 i hi
      omega
    have d1 := bd 0 (by omega)
    have d2 := bd (V.2.length - 1) (by omega)
    exact fun z => g4 (nI_inj (by omega) (by omega) z)
  have e9 : sp_vn9 f (tk f n (p + (5 + 2 * V.2.length)), aVan r V) = tk f n (p + (5 + 2 * V.2.length)) := by
    rw [sp_vn9_u]
    dsimp only
    rw [nvv, v3]
    exact ck_1 (by rw [if_neg (fun z => fl z.2)]; decide)
  obtain ⟨-, h6⟩ := hat_c h5
  rw [show p + (5 + 2 * V.2.length) + 1 = p + (6 + 2 * V.2.length) by omega] at h6
  refine ⟨?_, h6⟩
  rw [sq_van_u]
  dsimp only
  rw [e4, if_pos (num_ok (x := s1) (by have := hS.1.b6; omega) (show hat f n (p + 3 + 2) (32 :: nI (48 + s1) :: 32 :: (nI (48 + s2) :: (tSt l ++ 59 :: b))) from by
    have e : tSt (s1 :: s2 :: l) ++ 59 :: b = 32 :: nI (48 + s1) :: 32 :: (nI (48 + s2) :: (tSt l ++ 59 :: b)) := by
      show (tDg s1 ++ (tDg s2 ++ tSt l)) ++ 59 :: b = _
      rw [List.append_assoc, List.append_assoc]
      rfl
    rw [← e]
    exact h2') (Or.inl rfl) hn).1, e8, sp_rte_u, e9, exp2_ok h5 hn, show p + (5 + 2 * V.2.length) + 1 = p + (6 + 2 * V.2.length) by omega]
/-- a book -/
theorem aBook_ok {x : Nat} (hS : kSn r) (h20 : xnk r < 20) (hx : x < xnb r) : kSn (aBook r x) ∧ xnv (aBook r x) = xnv r ∧ (∀ u, u < 4 → xst (aBook r x) u = xst r u) ∧ xnk (aBook r x) = xnk r + 1 ∧ xnb (aBook r x) = xnb r := kSn_B hS rfl h20 (xil_nI hx (by have := hS.1.b6; omega))
theorem book_ok {x : Nat} {b : List Int32} (hn : n < 2 ^ 30) (h : hat f n p (tBook x ++ b)) (hS : kSn r) (h20 : xnk r < 20) (hx : x < xnb r) : (sp_wrd f (tk f n p) 3 ∧ sp_book1 f n (tk f n p, r) = (tk f n (p + 7), aBook r x)) ∧ hat f n (p + 7) b := by
  have hb6 := hS.1.b6
  have h0 : hat f n p (xm_str 3 ++ 32 :: (nI (48 + x) :: 59 :: b)) := by
    have e : tBook x ++ b = xm_str 3 ++ 32 :: (nI (48 + x) :: 59 :: b) := by
      show (xm_str 3 ++ (tDg x ++ [59])) ++ b = _
      rw [List.append_assoc, List.append_assoc]
      rfl
    rw [← e]
    exact h
  obtain ⟨w1, w2⟩ := tk_wrd (k := 3) (by omega) (by omega) h0 hn
  obtain ⟨-, h1⟩ := hat_a h0
  have h1' : hat f n (p + 4) (32 :: nI (48 + x) :: 59 :: b) := h1
  obtain ⟨n1, n2⟩ := numT_ok (f := f) (n := n) (p := p + 4) (x := x) (lo := 0) (hi := r 0 - 1) (by omega) h1' (Or.inr rfl) hn (by rw [hS.1.b]; exact zrg' (by omega) hx)
  have e0 : sp_bk0 (tk f n p) r = tk f n p := by
    rw [sp_bk0_u]
    exact ck_1 (by rw [if_neg (by omega)]; decide)
  have e1 : sp_bk1 f n (tk f n p) r = tk f n (p + 4) := by
    rw [sp_bk1_u, e0, w1, tk_adv]
    rfl
  have e2 : sp_bk2 f n (tk f n p) r = tk f n (p + 4 + 2) := by rw [sp_bk2_u, e1, n1]
  obtain ⟨-, h2⟩ := @hat_a f n (p + 4) (tDg x) (59 :: b) h1'
  have h2' : hat f n (p + 4 + 2) (59 :: b) := h2
  obtain ⟨-, h3⟩ := hat_c h2'
  refine ⟨⟨w2, ?_⟩, h3⟩
  rw [sp_book1_u]
  dsimp only
  rw [sp_bkr_u, e2, if_pos (by rw [tk_sem h2']), e1, n2, exp2_ok h2' hn]
  rfl
end PV
