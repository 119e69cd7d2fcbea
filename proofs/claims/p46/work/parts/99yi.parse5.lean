/-! A GIVEN TEXT READ: the whole -/
def dTx (b : Nat) (V : Nat × List Nat) (Vs : List (Nat × List Nat)) (Ks : List Nat) (H : Option Nat) (Qs : List (Nat × Nat × Nat)) : List Int32 := xm_str 1 ++ (tDg b ++ 59 :: (tVan V ++ (Vs.flatMap tVan ++ (Ks.flatMap tBook ++ (tHold H ++ Qs.flatMap tAsk)))))
def r0Z : Nat → Int32 := fun _ => 0
def dRV (b : Nat) (V : Nat × List Nat) (Vs : List (Nat × List Nat)) : Nat → Int32 := Vs.foldl aVan (aVan (sp_beg r0Z b) V)
def dRK (b : Nat) (V : Nat × List Nat) (Vs : List (Nat × List Nat)) (Ks : List Nat) : Nat → Int32 := Ks.foldl aBook (dRV b V Vs)
def dRH (b : Nat) (V : Nat × List Nat) (Vs : List (Nat × List Nat)) (Ks : List Nat) (H : Option Nat) : Nat → Int32 := aHold (dRK b V Vs Ks) H
def dRQ (b : Nat) (V : Nat × List Nat) (Vs : List (Nat × List Nat)) (Ks : List Nat) (H : Option Nat) (Qs : List (Nat × Nat × Nat)) : Nat → Int32 := Qs.foldl aAsk (dRH b V Vs Ks H)
/-- what a good text's words keep -/
def dG (b : Nat) (V : Nat × List Nat) (Vs : List (Nat × List Nat)) (Ks : List Nat) (H : Option Nat) (Qs : List (Nat × Nat × Nat)) : Prop := (2 ≤ b ∧ b ≤ 6) ∧ (vG b V ∧ ∀ W ∈ Vs, vG b W) ∧ Vs.length ≤ 3 ∧ (Ks ≠ [] ∧ Ks.length ≤ 10 ∧ ∀ x ∈ Ks, x < b) ∧ (∀ x, H = some x → 1 ≤ x ∧ x ≤ 9) ∧ Qs.length ≤ 40 ∧ akG (dRH b V Vs Ks H) Qs
theorem dRK_ok {b : Nat} {V : Nat × List Nat} {Vs : List (Nat × List Nat)} {Ks : List Nat} (hb : 2 ≤ b ∧ b ≤ 6) (hV : vG b V) (hVs : ∀ W ∈ Vs, vG b W) (h3 : Vs.length ≤ 3) (hK : Ks.length ≤ 10 ∧ ∀ x ∈ Ks, x < b) : kSn (dRK b V Vs Ks) ∧ xnb (dRK b V Vs Ks) = b ∧ xnv (dRK b V Vs Ks) = Vs.length + 1 ∧ xnk (dRK b V Vs Ks) = Ks.length := by
  obtain ⟨s1, s2, s3, s4⟩ := @kSn_beg r0Z b hb.1 hb.2
  obtain ⟨a1, a2, -, -, a5, a6, -⟩ := aVan_ok s1 (by omega) (V := V) (by rw [s4]; exact hV)
  have vs : ∀ (Vs : List (Nat × List Nat)) (r : Nat → Int32), kSn r → xnv r + Vs.length ≤ 4 → (∀ W ∈ Vs, vG (xnb r) W) → kSn (Vs.foldl aVan r) ∧ xnv (Vs.foldl aVan r) = xnv r + Vs.length ∧ xnk (Vs.foldl aVan r) = xnk r ∧ xnb (Vs.foldl aVan r) = xnb r := by
    intro Vs
    induction Vs with
    | nil => exact fun r hS _ _ => ⟨hS, rfl, rfl, rfl⟩
    | cons W Vs ih =>
      intro r hS h4 hG
      rw [List.length_cons] at h4
      obtain ⟨b1, b2, -, -, b5, b6, -⟩ := aVan_ok hS (by omega) (hG W List.mem_cons_self)
      obtain ⟨c1, c2, c3, c4⟩ := ih (aVan r W) b1 (by omega) (fun W' hW' => by rw [b6]; exact hG W' (List.mem_cons_of_mem _ hW'))
      rw [List.foldl_cons, List.length_cons]
      exact ⟨c1, by omega, c3.trans b5, c4.trans b6⟩
  have ks : ∀ (Ks : List Nat) (r : Nat → Int32), kSn r → xnk r + Ks.length ≤ 20 → (∀ x ∈ Ks, x < xnb r) → kSn (Ks.foldl aBook r) ∧ xnk (Ks.foldl aBook r) = xnk r + Ks.length ∧ xnv (Ks.foldl aBook r) = xnv r ∧ xnb (Ks.foldl aBook r) = xnb r := by
    intro Ks
    induction Ks with
    | nil => exact fun r hS _ _ => ⟨hS, rfl, rfl, rfl⟩
    | cons x Ks ih =>
      intro r hS h4 hG
      rw [List.length_cons] at h4
      obtain ⟨b1, b2, -, b4, b5⟩ := aBook_ok hS (by omega) (hG x List.mem_cons_self)
      obtain ⟨c1, c2, c3, c4⟩ := ih (aBook r x) b1 (by omega) (fun y hy => by rw [b5]; exact hG y (List.mem_cons_of_mem _ hy))
      rw [List.foldl_cons, List.length_cons]
      exact ⟨c1, by omega, c3.trans b2, c4.trans b5⟩
  obtain ⟨b1, b2, b3, b4⟩ := vs Vs (aVan (sp_beg r0Z b) V) a1 (by omega) (fun W hW => by rw [a6, s4]; exact hVs W hW)
  obtain ⟨c1, c2, c3, c4⟩ := ks Ks (Vs.foldl aVan (aVan (sp_beg r0Z b) V)) b1 (by omega) (fun x hx => by rw [b4, a6, s4]; exact hK.2 x hx)
  exact ⟨c1, c4.trans (b4.trans (a6.trans s4)), c3.trans (b2.trans (by omega)), c2.trans (by omega)⟩
theorem aHold_c {r : Nat → Int32} {H : Option Nat} (hB : xBd r) : xBd (aHold r H) ∧ (∀ i, i ≠ 5 → aHold r H i = r i) := by
  cases H with
  | none => exact ⟨hB, fun _ _ => rfl⟩
  | some h => exact ⟨xBd_5 hB, fun i hi => zun hi⟩
theorem xn_cg {r r' : Nat → Int32} (h : ∀ i, i < 4 → r' i = r i) : xnb r' = xnb r ∧ xnv r' = xnv r ∧ xnk r' = xnk r ∧ xnq r' = xnq r := by
  unfold xnb xnv xnk xnq
  rw [h 0 (by omega), h 1 (by omega), h 2 (by omega), h 3 (by omega)]
  exact ⟨rfl, rfl, rfl, rfl⟩
theorem hat_all (t : List Int32) : hat (fun i => t.getD i 0) t.length 0 t := ⟨by omega, fun i _ => by rw [Nat.zero_add]⟩
theorem all_ok {b : Nat} {V : Nat × List Nat} {Vs : List (Nat × List Nat)} {Ks : List Nat} {H : Option Nat} {Qs : List (Nat × Nat × Nat)} (hG : dG b V Vs Ks H Qs) {f : Nat → Int32} {n : Nat} (hn : n < 2 ^ 30) (h : hat f n 0 (dTx b V Vs Ks H Qs)) (hl : (dTx b V Vs Ks H Qs).length = n) : sp_all f n (tk f n 0, r0Z) = (tk f n n, dRQ b V Vs Ks H Qs) := by
  obtain ⟨hb, ⟨hV, hVs⟩, h3, ⟨hK0, hK1, hK2⟩, hH, hQ, hA⟩ := hG
  have h0 : hat f n 0 (xm_str 1 ++ 32 :: (nI (48 + b) :: 59 :: (tVan V ++ (Vs.flatMap tVan ++ (Ks.flatMap tBook ++ (tHold H ++ Qs.flatMap tAsk)))))) := h
  obtain ⟨w1, w2⟩ := tk_wrd (k := 1) (by omega) (by omega) h0 hn
  obtain ⟨-, h1⟩ := hat_a h0
  have h1' : hat f n 8 (32 :: nI (48 + b) :: 59 :: (tVan V ++ (Vs.flatMap tVan ++ (Ks.flatMap tBook ++ (tHold H ++ Qs.flatMap tAsk))))) := h1
  obtain ⟨n1, n2⟩ := numT_ok (f := f) (n := n) (p := 8) (x := b) (lo := 2) (hi := 6) (by omega) h1' (Or.inr rfl) hn ⟨nI_le (a := 2) (by omega) (by omega), nI_le (b := 6) (by omega) (by omega)⟩
  obtain ⟨-, h2⟩ := @hat_a f n 8 (tDg b) (59 :: (tVan V ++ (Vs.flatMap tVan ++ (Ks.flatMap tBook ++ (tHold H ++ Qs.flatMap tAsk))))) h1'
  have h2' : hat f n 10 (59 :: (tVan V ++ (Vs.flatMap tVan ++ (Ks.flatMap tBook ++ (tHold H ++ Qs.flatMap tAsk))))) := h2
  obtain ⟨-, h4⟩ := hat_c h2'
  have e1 : sp_h1 f n (tk f n 0) = tk f n 8 := by
    rw [sp_h1_u]
    unfold sp_expW
    rw [zB_tt w2, ck_1 (by decide), w1, tk_adv]
    rfl
  have e2 : sp_h2 f n (tk f n 0) = tk f n 10 := by rw [sp_h2_u, e1, n1]
  have eb : sp_hb f n (tk f n 0) = b := by
    rw [sp_hb_u, e1, n2, nI_clamp (by omega)]
  have e3 : sp_h3 f n (tk f n 0) = tk f n 11 := by rw [sp_h3_u, e2, exp2_ok h2' hn]
  obtain ⟨s1, s2, s3, s4⟩ := @kSn_beg r0Z b hb.1 hb.2
  obtain ⟨v1, v2⟩ := van_ok hn h4 s1 (by omega) (V := V) (by rw [s4]; exact hV)
  obtain ⟨a1, a2, -, -, a5, a6, -⟩ := aVan_ok s1 (by omega) (V := V) (by rw [s4]; exact hV)
  have e4 : sp_h4 f n (tk f n 0, r0Z) = (tk f n (11 + (6 + 2 * V.2.length)), aVan (sp_beg r0Z b) V) := by
    rw [sp_h4_u]
    dsimp only
    rw [e3, eb, v1]
  -- vans
  obtain ⟨x, Ks', eK⟩ : ∃ x Ks', Ks = x :: Ks' := by
    cases Ks with
    | nil => exact absurd rfl hK0
    | cons x Ks' => exact ⟨x, Ks', rfl⟩
  have nv : ¬ sp_wrd f (tk f n (11 + (6 + 2 * V.2.length) + (Vs.flatMap tVan).length)) 2 := by
    obtain ⟨-, g⟩ := hat_a v2
    have g' : hat f n (11 + (6 + 2 * V.2.length) + (Vs.flatMap tVan).length) (xm_str 3 ++ 32 :: (nI (48 + x) :: 59 :: (Ks'.flatMap tBook ++ (tHold H ++ Qs.flatMap tAsk)))) := by
      have e : Ks.flatMap tBook ++ (tHold H ++ Qs.flatMap tAsk) = xm_str 3 ++ 32 :: (nI (48 + x) :: 59 :: (Ks'.flatMap tBook ++ (tHold H ++ Qs.flatMap tAsk))) := by
        rw [eK, List.flatMap_cons]
        show ((xm_str 3 ++ (tDg x ++ [59])) ++ Ks'.flatMap tBook) ++ (tHold H ++ Qs.flatMap tAsk) = _
        rw [List.append_assoc, List.append_assoc, List.append_assoc]
        rfl
      rw [← e]
      exact g
    exact wrd_ln (tk_wrd (k := 3) (by omega) (by omega) g' hn).2 (by decide)
  obtain ⟨⟨z1, z2⟩, z3, z4, z5, z6⟩ := vans_ok hn Vs 4 _ (aVan (sp_beg r0Z b) V) (by omega) v2 a1 (by omega) (fun W hW => by rw [a6, s4]; exact hVs W hW) nv
  generalize hp1 : 11 + (6 + 2 * V.2.length) + (Vs.flatMap tVan).length = p1 at *
  have e5 : sp_h5 f n (tk f n 0, r0Z) = (tk f n p1, dRV b V Vs) := by
    rw [sp_h5_u, e4, z1]
    rfl
  -- how long it all is
  have hlen : p1 + 7 * Ks.length + (tHold H).length + 10 * Qs.length = n := by
    have k7 : ∀ l : List Nat, (l.flatMap tBook).length = 7 * l.length := by
      intro l
      induction l with
      | nil => rfl
      | cons y l ih =>
        rw [List.flatMap_cons, List.length_append, ih, List.length_cons]
        show 7 + 7 * l.length = _
        omega
    have q10 : ∀ l : List (Nat × Nat × Nat), (l.flatMap tAsk).length = 10 * l.length := by
      intro l
      induction l with
      | nil => rfl
      | cons y l ih =>
        rw [List.flatMap_cons, List.length_append, ih, List.length_cons]
        show 10 + 10 * l.length = _
        omega
    rw [← hl, ← hp1]
    unfold dTx
    rw [List.length_append, List.length_append, List.length_cons, List.length_append, List.length_append, List.length_append, List.length_append, k7, q10, tVan_len]
    show _ = 8 + (2 + _)
    omega
  -- what stands behind the books
  obtain ⟨-, g2⟩ := hat_a z2
  have kb : (Ks.flatMap tBook).length = 7 * Ks.length := by
    have k7 : ∀ l : List Nat, (l.flatMap tBook).length = 7 * l.length := by
      intro l
      induction l with
      | nil => rfl
      | cons y l ih =>
        rw [List.flatMap_cons, List.length_append, ih, List.length_cons]
        show 7 + 7 * l.length = _
        omega
    exact k7 Ks
  rw [kb] at g2
  have aw : ∀ p, hat f n p (Qs.flatMap tAsk) → p + 10 * Qs.length = n → ¬ sp_wrd f (tk f n p) 3 ∧ ¬ sp_wrd f (tk f n p) 4 := by
    intro p hp hpn
    cases hQs : Qs with
    | nil =>
      rw [hQs] at hpn
      have : p = n := hpn
      rw [this, tk_end]
      exact ⟨wrd_no (show ¬ (0 : Int32) = 1 by decide), wrd_no (show ¬ (0 : Int32) = 1 by decide)⟩
    | cons q Qs' =>
      rw [hQs, List.flatMap_cons] at hp
      obtain ⟨qa, qb, qc⟩ := q
      have hp' : hat f n p (xm_str 5 ++ 32 :: (nI (48 + qa) :: (tDg qb ++ (tDg qc ++ 59 :: Qs'.flatMap tAsk)))) := by
        have e : tAsk (qa, qb, qc) ++ Qs'.flatMap tAsk = xm_str 5 ++ 32 :: (nI (48 + qa) :: (tDg qb ++ (tDg qc ++ 59 :: Qs'.flatMap tAsk))) := by
          show (xm_str 5 ++ (tDg qa ++ (tDg qb ++ (tDg qc ++ [59])))) ++ Qs'.flatMap tAsk = _
          rw [List.append_assoc, List.append_assoc, List.append_assoc, List.append_assoc]
          rfl
        rw [← e]
        exact hp
      have ww := (tk_wrd (k := 5) (by omega) (by omega) hp' hn).2
      exact ⟨wrd_ln ww (by decide), wrd_ln ww (by decide)⟩
  have nb : ¬ sp_wrd f (tk f n (p1 + 7 * Ks.length)) 3 := by
    cases hH' : H with
    | none =>
      rw [hH'] at g2 hlen
      exact (aw _ g2 (by rw [← hlen]; rfl)).1
    | some y =>
      rw [hH'] at g2
      have g2' : hat f n (p1 + 7 * Ks.length) (xm_str 4 ++ 32 :: (nI (48 + y) :: 59 :: Qs.flatMap tAsk)) := by
        have e : tHold (some y) ++ Qs.flatMap tAsk = xm_str 4 ++ 32 :: (nI (48 + y) :: 59 :: Qs.flatMap tAsk) := by
          show (xm_str 4 ++ (tDg y ++ [59])) ++ Qs.flatMap tAsk = _
          rw [List.append_assoc, List.append_assoc]
          rfl
        rw [← e]
        exact g2
      exact wrd_ch (tk_wrd (k := 4) (by omega) (by omega) g2' hn).2 (by decide) (by decide) (by decide)
  obtain ⟨⟨y1, y2⟩, y3, y4, y5, y6⟩ := books_ok hn Ks 21 p1 (dRV b V Vs) (by omega) z2 z3 (by
    have : xnk (dRV b V Vs) = 0 := z5.trans (a5.trans s3)
    omega) (fun x hx => by
    have : xnb (dRV b V Vs) = b := z6.trans (a6.trans s4)
    rw [this]
    exact hK2 x hx) nb
  have e6 : sp_h6 f n (tk f n 0, r0Z) = (tk f n (p1 + 7 * Ks.length), dRK b V Vs Ks) := by
    rw [sp_h6_u, e5, y1]
    rfl
  obtain ⟨t1, t2⟩ := hold_ok (r := dRK b V Vs Ks) hn y2 hH (fun e => by
    subst e
    exact (aw _ y2 (by rw [← hlen]; rfl)).2)
  have e7 : sp_h7 f n (tk f n 0, r0Z) = (tk f n (p1 + 7 * Ks.length + (tHold H).length), dRH b V Vs Ks H) := by
    rw [sp_h7_u, e6, t1]
    rfl
  have hB : xBd (dRH b V Vs Ks H) := (aHold_c y3.1).1
  have hq0 : xnq (dRH b V Vs Ks H) = 0 := by
    have e := (xn_cg (r := dRK b V Vs Ks) (r' := dRH b V Vs Ks H) (fun i hi => (aHold_c y3.1).2 i (by omega))).2.2.2
    rw [e]
    unfold xnq
    rw [show dRK b V Vs Ks 3 = 0 from y3.2.2.2.2.2.2.1]
    rfl
  rw [sp_all_u, e7, asks_ok hn Qs 41 _ _ (by omega) t2 hlen hB (by omega) hA]
  rfl
