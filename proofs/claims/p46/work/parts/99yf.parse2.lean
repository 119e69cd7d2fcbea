/-! A GIVEN TEXT READ: stops, vans, books, hold, requests -/
def aStop (r : Nat → Int32) (s : Nat) : Nat → Int32 := sp_addS r (xnv r - 1) (xst r (xnv r - 1)) (nI s)
def aVan (r : Nat → Int32) (V : Nat × List Nat) : Nat → Int32 := V.2.foldl aStop (sp_addV r (xnv r) (nI V.1))
def aBook (r : Nat → Int32) (h : Nat) : Nat → Int32 := sp_addB r (xnk r) (nI h)
def aAsk (r : Nat → Int32) (q : Nat × Nat × Nat) : Nat → Int32 := sp_addq r (nI q.1) (nI q.2.1) (nI q.2.2)
def tDg (x : Nat) : List Int32 := [32, nI (48 + x)]
def tSt (l : List Nat) : List Int32 := l.flatMap tDg
def tVan (V : Nat × List Nat) : List Int32 := xm_str 2 ++ (tDg V.1 ++ (tSt V.2 ++ [59]))
def tBook (h : Nat) : List Int32 := xm_str 3 ++ (tDg h ++ [59])
def tAsk (q : Nat × Nat × Nat) : List Int32 := xm_str 5 ++ (tDg q.1 ++ (tDg q.2.1 ++ (tDg q.2.2 ++ [59])))
/-- a route under way: after m stops the last is w -/
def rtE (r : Nat → Int32) (v : Nat) : Prop := xnv r = v + 1 ∧ kSn r
theorem hat_1 {f : Nat → Int32} {n p : Nat} {l : List Int32} {c : Int32} {b : List Int32} (h : hat f n p (l ++ c :: b)) : hat f n p (l ++ c :: []) := by
  obtain ⟨h1, h2⟩ := hat_a h
  obtain ⟨h3, -⟩ := hat_c h2
  refine ⟨by rw [List.length_append]; have := h1.1; show p + (l.length + 1) ≤ n; omega, fun i hi => ?_⟩
  rw [List.length_append] at hi
  have hi' : i < l.length + 1 := hi
  rw [List.getD_eq_getElem?_getD]
  by_cases e : i < l.length
  · rw [List.getElem?_append_left e, ← List.getD_eq_getElem?_getD]
    exact h1.2 i e
  · rw [show i = l.length by omega, List.getElem?_append_right (Nat.le_refl _), Nat.sub_self]
    exact h3.2
section PS
variable {f : Nat → Int32} {n p : Nat} {r : Nat → Int32}
/-- one stop -/
theorem st_ok {s : Nat} {c : Int32} {l : List Int32} (h : hat f n p (32 :: nI (48 + s) :: c :: l)) (hc : c = 32 ∨ c = 59) (hn : n < 2 ^ 30) (hS : kSn r) (hv : 1 ≤ xnv r) (hs : s < xnb r) (h8 : xst r (xnv r - 1) < 8) (hd : xst r (xnv r - 1) = 0 ∨ ¬ r (14 + 11 * (xnv r - 1) + xst r (xnv r - 1)) = nI s) : sq_stop f n (tk f n p, r) = (tk f n (p + 2), aStop r s) := by
  have hb6 := hS.1.b6
  obtain ⟨h1, h2, h3, h4⟩ := num_ok (by omega) h hc hn
  have e2 : sp_st2 f (tk f n p) r = tk f n p := by
    rw [sp_st2_u, hS.1.b]
    exact rn2_ok h2 (by rw [h3]; exact zrg' (by omega) hs)
  have e3 : sp_st3 f (tk f n p) r = tk f n p := by
    rw [sp_st3_u, e2]
    exact ck_1 (by rw [if_neg (fun z => by omega)]; decide)
  have e4 : sp_st4 f (tk f n p) r = tk f n p := by
    rw [sp_st4_u, e3]
    refine ck_1 ?_
    rw [if_neg (fun z => ?_)]
    · decide
    · rw [h3] at z
      rcases hd with e | e
      · exact z.2.1 e
      · exact e z.2.2
  rw [sq_stop_u]
  dsimp only
  rw [e4, h4, if_pos h1, h3]
  rfl
/-- a list of stops is good behind the last one w -/
def stG (b : Nat) : Option Nat → List Nat → Prop
  | _, [] => True
  | w, s :: l => s < b ∧ w ≠ some s ∧ stG b (some s) l
def stW (r : Nat → Int32) (v : Nat) (w : Option Nat) : Prop := match w with
  | none => xst r v = 0
  | some s => 0 < xst r v ∧ r (14 + 11 * v + xst r v) = nI s ∧ s < 10
theorem aStop_ok {s v : Nat} (hS : kSn r) (hv : xnv r = v + 1) (h8 : xst r v < 8) (hs : s < xnb r) : kSn (aStop r s) ∧ xnv (aStop r s) = v + 1 ∧ xst (aStop r s) v = xst r v + 1 ∧ (∀ u, u ≠ v → u < 4 → xst (aStop r s) u = xst r u) ∧ xnk (aStop r s) = xnk r ∧ xnb (aStop r s) = xnb r ∧ aStop r s (15 + 11 * v + xst r v) = nI s ∧ (∀ j, j ≠ 13 + 11 * v → j ≠ 15 + 11 * v + xst r v → aStop r s j = r j) := by
  have hb6 := hS.1.b6
  have e : aStop r s = sp_addS r v (xst r v) (nI s) := by
    unfold aStop
    rw [hv, Nat.add_sub_cancel]
  obtain ⟨a1, a2, a3, a4, a5, a6, a7, -⟩ := kSn_S hS hv rfl h8 (xil_nI hs (by omega))
  rw [e]
  exact ⟨a1, a2.trans hv, a3, a4, a5, a6, a7, fun j h1 h2 => (zun h1).trans (zun h2)⟩
theorem stW_s {s v : Nat} (hS : kSn r) (hv : xnv r = v + 1) (h8 : xst r v < 8) (hs : s < xnb r) : stW (aStop r s) v (some s) := by
  obtain ⟨a1, a2, a3, a4, a5, a6, a7, -⟩ := aStop_ok hS hv h8 hs
  have hb6 := hS.1.b6
  refine ⟨by omega, ?_, by omega⟩
  rw [a3, show 14 + 11 * v + (xst r v + 1) = 15 + 11 * v + xst r v by omega]
  exact a7
theorem stW_d {s v : Nat} {w : Option Nat} (h : stW r v w) (hne : w ≠ some s) (hs : s < 10) : xst r v = 0 ∨ ¬ r (14 + 11 * v + xst r v) = nI s := by
  cases w with
  | none => exact Or.inl h
  | some y =>
    obtain ⟨_, h2, h3⟩ := h
    refine Or.inr fun z => hne ?_
    rw [h2] at z
    rw [nI_inj (by omega) (by omega) z]
/-- what the stops make of the row -/
theorem stops_r {v : Nat} : ∀ (l : List Nat) (r : Nat → Int32) (w : Option Nat), kSn r → xnv r = v + 1 → xst r v + l.length ≤ 8 → stG (xnb r) w l → stW r v w → kSn (l.foldl aStop r) ∧ xnv (l.foldl aStop r) = v + 1 ∧ xst (l.foldl aStop r) v = xst r v + l.length ∧ (∀ u, u ≠ v → u < 4 → xst (l.foldl aStop r) u = xst r u) ∧ xnk (l.foldl aStop r) = xnk r ∧ xnb (l.foldl aStop r) = xnb r ∧ (∀ i, i < l.length → l.foldl aStop r (15 + 11 * v + xst r v + i) = nI (l.getD i 0)) ∧ (∀ j, j ≠ 13 + 11 * v → ¬ (15 + 11 * v + xst r v ≤ j ∧ j < 15 + 11 * v + xst r v + l.length) → l.foldl aStop r j = r j) := by
  intro l
  induction l with
  | nil => exact fun r w hS hv _ _ _ => ⟨hS, hv, rfl, fun _ _ _ => rfl, rfl, rfl, fun i hi => absurd hi (Nat.not_lt_zero i), fun _ _ _ => rfl⟩
  | cons s l ih =>
    intro r w hS hv h8 hG hW
    rw [List.length_cons] at h8
    obtain ⟨g1, g2, g3⟩ := (show s < xnb r ∧ w ≠ some s ∧ stG (xnb r) (some s) l from hG)
    obtain ⟨a1, a2, a3, a4, a5, a6, a7, a8⟩ := aStop_ok hS hv (by omega) g1
    obtain ⟨b1, b2, b3, b4, b5, b6, b7, b8⟩ := ih (aStop r s) (some s) a1 a2 (by omega) (by rw [a6]; exact g3) (stW_s hS hv (by omega) g1)
    show kSn (l.foldl aStop (aStop r s)) ∧ _
    refine ⟨b1, b2, by show xst (l.foldl aStop (aStop r s)) v = _; rw [b3, a3, List.length_cons]; omega, fun u h1 h2 => (b4 u h1 h2).trans (a4 u h1 h2), b5.trans a5, b6.trans a6, fun i hi => ?_, fun j h1 h2 => ?_⟩
    · show l.foldl aStop (aStop r s) (15 + 11 * v + xst r v + i) = nI ((s :: l).getD i 0)
      cases i with
      | zero =>
        rw [Nat.add_zero, b8 _ (by omega) (by omega)]
        exact a7
      | succ i =>
        have hi' : i < l.length := by rw [List.length_cons] at hi; omega
        have e := b7 i hi'
        rw [a3] at e
        rw [show 15 + 11 * v + xst r v + (i + 1) = 15 + 11 * v + (xst r v + 1) + i by omega, e]
        rfl
    · show l.foldl aStop (aStop r s) j = r j
      rw [List.length_cons] at h2
      rw [b8 j h1 (by omega)]
      exact a8 j h1 (by omega)
theorem stops_ok {v : Nat} (hn : n < 2 ^ 30) {b : List Int32} : ∀ (l : List Nat) (k p : Nat) (r : Nat → Int32) (w : Option Nat), l.length ≤ k → hat f n p (tSt l ++ 59 :: b) → kSn r → xnv r = v + 1 → xst r v + l.length ≤ 8 → stG (xnb r) w l → stW r v w → sp_stops f n k (tk f n p, r) = (tk f n (p + 2 * l.length), l.foldl aStop r) := by
  intro l
  induction l with
  | nil =>
    intro k p r w hk h hS hv h8 hG hW
    have e := tk_sem (l := b) h
    cases k with
    | zero => rw [sp_stops_0]; rfl
    | succ k =>
      rw [sp_stops_s, if_neg]
      · rfl
      · rintro ⟨-, z⟩
        have z' : (tk f n p).2.2.1 = 2 := z
        rw [e] at z'
        exact absurd (show (3 : Int32) = 2 from z') (by decide)
  | cons s l ih =>
    intro k p r w hk h hS hv h8 hG hW
    rw [List.length_cons] at hk h8
    have hb6 := hS.1.b6
    obtain ⟨k', ek⟩ : ∃ k', k = k' + 1 := ⟨k - 1, by omega⟩
    subst ek
    obtain ⟨g1, g2, g3⟩ := (show s < xnb r ∧ w ≠ some s ∧ stG (xnb r) (some s) l from hG)
    obtain ⟨a1, a2, a3, a4, a5, a6, a7, a8⟩ := aStop_ok hS hv (by omega) g1
    have h' : hat f n p (tDg s ++ (tSt l ++ 59 :: b)) := by
      have e : tSt (s :: l) ++ 59 :: b = tDg s ++ (tSt l ++ 59 :: b) := by
        show (tDg s ++ tSt l) ++ 59 :: b = _
        rw [List.append_assoc]
      rw [← e]
      exact h
    obtain ⟨-, hnext⟩ := hat_a h'
    have hN : ∃ c l', (c = 32 ∨ c = 59) ∧ hat f n p (32 :: nI (48 + s) :: c :: l') := by
      cases l with
      | nil => exact ⟨59, b, Or.inr rfl, h'⟩
      | cons s' l' => exact ⟨32, nI (48 + s') :: (tSt l' ++ 59 :: b), Or.inl rfl, by
          have e : tDg s ++ (tSt (s' :: l') ++ 59 :: b) = 32 :: nI (48 + s) :: 32 :: (nI (48 + s') :: (tSt l' ++ 59 :: b)) := by
            show tDg s ++ ((tDg s' ++ tSt l') ++ 59 :: b) = _
            rw [List.append_assoc]
            rfl
          rw [← e]
          exact h'⟩
    obtain ⟨c, l', hc, hh⟩ := hN
    obtain ⟨k1, k2, -, -⟩ := num_ok (by omega) hh hc hn
    have hst := st_ok (s := s) hh hc hn hS (by omega) g1 (by rw [hv, Nat.add_sub_cancel]; omega) (by rw [hv, Nat.add_sub_cancel]; exact stW_d hW g2 (by omega))
    have z := ih k' (p + 2) (aStop r s) (some s) (by omega) hnext a1 a2 (by omega) (by rw [a6]; exact g3) (stW_s hS hv (by omega) g1)
    rw [sp_stops_s, if_pos ⟨k1, k2⟩, hst, z, List.length_cons, show p + 2 + 2 * l.length = p + 2 * (l.length + 1) by omega]
    rfl
end PS
