/-! THE LAW LOADS a given text: the class holds its row, which is sound -/
theorem asks_r : ∀ (Qs : List (Nat × Nat × Nat)) (r : Nat → Int32), xBd r → xnq r + Qs.length ≤ 40 → xBd (Qs.foldl aAsk r) ∧ xnq (Qs.foldl aAsk r) = xnq r + Qs.length ∧ (∀ i, i ≠ 3 → i < 176 + 3 * xnq r → Qs.foldl aAsk r i = r i) ∧ (akG r Qs → ∀ i, i < Qs.length → xil (Qs.foldl aAsk r (177 + 3 * (xnq r + i))) 10) := by
  intro Qs
  induction Qs with
  | nil => exact fun r hB _ => ⟨hB, rfl, fun _ _ _ => rfl, fun _ i hi => absurd hi (Nat.not_lt_zero i)⟩
  | cons q Qs ih =>
    intro r hB h40
    rw [List.length_cons] at h40
    obtain ⟨c1, c2, c3, c4⟩ := kAddq_c (r := r) (a := nI q.1) (rd := nI q.2.1) (b := nI q.2.2) hB (by omega)
    have c1' : xnq (aAsk r q) = xnq r + 1 := c1
    obtain ⟨b1, b2, b3, b4⟩ := ih (aAsk r q) (sp_addq_bd hB (by omega)) (by omega)
    rw [List.foldl_cons, List.length_cons]
    refine ⟨b1, by omega, fun i h3 hi => (b3 i h3 (by omega)).trans (sp_addq_h h3 hi), fun hA i hi => ?_⟩
    obtain ⟨⟨g1, g2, g3, g4, g5⟩, g6⟩ := (show (q.1 < xnk r ∧ q.1 < 10 ∧ q.2.1 < 10 ∧ q.2.2 < xnb r ∧ sp_by r (nI q.1) (nI q.2.1) = none) ∧ akG (aAsk r q) Qs from hA)
    cases i with
    | zero =>
      rw [Nat.add_zero, b3 _ (by omega) (by omega)]
      have e : aAsk r q (177 + 3 * xnq r) = nI q.2.1 := by
        unfold aAsk sp_addq
        rw [zun (by omega), zun (by omega), zu1]
      rw [e]
      exact xil_nI g3 (by omega)
    | succ i =>
      have e := b4 g6 i (by omega)
      rw [c1'] at e
      rw [show xnq r + (i + 1) = xnq r + 1 + i by omega]
      exact e
section LO
variable {b : Nat} {V : Nat × List Nat} {Vs : List (Nat × List Nat)} {Ks : List Nat} {H : Option Nat} {Qs : List (Nat × Nat × Nat)}
theorem dRQ_ok (hG : dG b V Vs Ks H Qs) : (xnb (dRQ b V Vs Ks H Qs) = b ∧ xnv (dRQ b V Vs Ks H Qs) = Vs.length + 1 ∧ xnk (dRQ b V Vs Ks H Qs) = Ks.length ∧ xnq (dRQ b V Vs Ks H Qs) = Qs.length) ∧ (∀ i, i ≠ 3 → i ≠ 5 → i < 176 → dRQ b V Vs Ks H Qs i = dRK b V Vs Ks i) ∧ rS (dRQ b V Vs Ks H Qs) ∧ rD (dRQ b V Vs Ks H Qs) := by
  obtain ⟨hb, ⟨hV, hVs⟩, h3, ⟨hK0, hK1, hK2⟩, hH, hQ, hA⟩ := hG
  obtain ⟨s1, s2, s3, s4⟩ := dRK_ok hb hV hVs h3 ⟨hK1, hK2⟩
  have hB : xBd (dRH b V Vs Ks H) := (aHold_c s1.1).1
  have hc := xn_cg (r := dRK b V Vs Ks) (r' := dRH b V Vs Ks H) (fun i hi => (aHold_c s1.1).2 i (by omega))
  have hq0 : xnq (dRH b V Vs Ks H) = 0 := by
    rw [hc.2.2.2]
    unfold xnq
    rw [show dRK b V Vs Ks 3 = 0 from s1.2.2.2.2.2.2.1]
    rfl
  obtain ⟨a1, a2, a3, a4⟩ := asks_r Qs (dRH b V Vs Ks H) hB (by omega)
  have low : ∀ i, i ≠ 3 → i ≠ 5 → i < 176 → dRQ b V Vs Ks H Qs i = dRK b V Vs Ks i := fun i h1 h2 h3 => (a3 i h1 (by omega)).trans ((aHold_c s1.1).2 i h2)
  have eb : xnb (dRQ b V Vs Ks H Qs) = b := by
    refine Eq.trans ?_ s2
    show (dRQ b V Vs Ks H Qs 0).toNatClampNeg = (dRK b V Vs Ks 0).toNatClampNeg
    rw [low 0 (by omega) (by omega) (by omega)]
  have ev : xnv (dRQ b V Vs Ks H Qs) = Vs.length + 1 := by
    rw [← s3]
    unfold xnv
    rw [low 1 (by omega) (by omega) (by omega)]
  have ek : xnk (dRQ b V Vs Ks H Qs) = Ks.length := by
    rw [← s4]
    unfold xnk
    rw [low 2 (by omega) (by omega) (by omega)]
  have hk := s1.2.2.2.2.2.2.2.2.2.2.2
  rw [s4] at hk
  have st0 : ∀ k, k < Ks.length → dRQ b V Vs Ks H Qs (56 + 6 * k) = 0 := fun k hkk => by
    rw [low _ (by omega) (by omega) (by omega)]
    exact (hk k hkk).1
  refine ⟨⟨eb, ev, ek, by rw [hq0] at a2; exact a2.trans (Nat.zero_add _)⟩, low, ⟨fun k hkk h2 => ?_, fun v hv => ?_⟩, fun q hq => ?_, fun k hkk h2 => ?_⟩
  · rw [ek] at hkk
    exact absurd ((st0 k hkk).symm.trans h2) (by decide)
  · unfold rV
    have : cP (dRQ b V Vs Ks H Qs) 1 v (xnk (dRQ b V Vs Ks H Qs)) = 0 := by
      apply Classical.byContradiction
      intro hne
      obtain ⟨k, k1, k2, -⟩ := (xcnt_kth (p := fun k => sp_isIn (dRQ b V Vs Ks H Qs) 1 k (nI v)) (m := 0)).mp (show 0 < cP (dRQ b V Vs Ks H Qs) 1 v (xnk (dRQ b V Vs Ks H Qs)) by omega)
      rw [ek] at k1
      exact absurd ((st0 k k1).symm.trans k2.1) (by decide)
    omega
  · have e : xnq (dRQ b V Vs Ks H Qs) = Qs.length := by rw [hq0] at a2; exact a2.trans (Nat.zero_add _)
    rw [e] at hq
    have z := a4 hA q hq
    rw [hq0, Nat.zero_add] at z
    exact z
  · rw [ek] at hkk
    exact absurd ((st0 k hkk).symm.trans h2) (by decide)
variable {w : xW} {ext : List xm_PC} {sc : xm_Sc} {d n a : Nat} {r : Nat → Int32} {hs : Nat → Nat → Int32} {sn : Option (Nat → Int32)}
/-- load, of a text that was said -/
theorem ld_ok (hG : dG b V Vs Ks H Qs) (hI : cI w r n hs sn) (ha : 191 ≤ a) {t : List Int32} (et : t = dTx b V Vs Ks H Qs) (hT : sdT t) (hE : sdE w (xL w ext) a t) : ∃ w', xm_C sc xt_M (d + 9) 109 [.ref 0, .int (nI t.length)] (xL w ext) = some (.inl (some (.int (nI Ks.length))), xL w' ext) ∧ cI w' (dRQ b V Vs Ks H Qs) 0 hs none ∧ sdI w' (xL w' ext) a [] := by
  obtain ⟨hA, ⟨c, c1, c2, c3⟩, hb⟩ := hE
  have ei : ∃ i, i < 2 ∧ (if (w 0).1 2 = 0 then 0 else 1) = i := by
    by_cases h : (w 0).1 2 = 0
    · exact ⟨0, by omega, if_pos h⟩
    · exact ⟨1, by omega, if_neg h⟩
  obtain ⟨i, hi, h2⟩ := ei
  have h5 : xpi (w 5) ≠ i := fun z => hI.2.1 (h2.trans z.symm)
  have hat0 : hat (fun i => t.getD i 0) t.length 0 (dTx b V Vs Ks H Qs) := by
    rw [← et]
    exact hat_all t
  have hp := all_ok hG (f := fun i => t.getD i 0) (n := t.length) (by have := hT.1; omega) hat0 (by rw [← et])
  obtain ⟨w', e1, hL⟩ := @kd_109 w xl0 0 sc d t.length i (fun i => t.getD i 0) c r0Z 0 0 (-1) c3 c1 c2 hi h2 h5 (fun j hj => ⟨hb j hj, by
    obtain ⟨y, hy, ey⟩ := hT.2 j hj
    show xil (t.getD j 0) 256
    rw [ey]
    exact xil_nI (by omega) (by omega)⟩)
  have tw : sp_tw (fun i => t.getD i 0) t.length (tk (fun i => t.getD i 0) t.length 0) := sp_tw_scan (Nat.zero_le _)
  have e0 : (sp_all (fun i => t.getD i 0) t.length (tk (fun i => t.getD i 0) t.length 0, r0Z)).1.2.2.2.1 = 0 := by rw [hp, tk_end]
  obtain ⟨k1, k2, k3⟩ := sp_all_ok (r := r0Z) tw e0
  have e1' : xm_C sc xt_M (d + 9) 109 [.ref 0, .int (nI t.length)] (xem w xl0 0) = some (.inl (some (.int (if (sp_all (fun i => t.getD i 0) t.length (tk (fun i => t.getD i 0) t.length 0, r0Z)).1.2.2.2.1 = 0 then (sp_all (fun i => t.getD i 0) t.length (tk (fun i => t.getD i 0) t.length 0, r0Z)).2 2 else (-10) - (sp_all (fun i => t.getD i 0) t.length (tk (fun i => t.getD i 0) t.length 0, r0Z)).1.2.2.2.1))), xem w' xl0 0) := e1
  have hL' : kLd w w' (sp_all (fun i => t.getD i 0) t.length (tk (fun i => t.getD i 0) t.length 0, r0Z)) i := hL
  rw [if_pos e0] at e1'
  have J := cI_load hI hi h5 hL' e0 k1 ⟨k2, 0, by omega, by rw [nI_0]; exact k3⟩
  rw [hp] at e1' J hL'
  dsimp only at e1' J
  obtain ⟨⟨q1, q2, q3, q4⟩, -⟩ := dRQ_ok hG
  have e2 : dRQ b V Vs Ks H Qs 2 = nI Ks.length := by
    rw [J.W.bd.k, q3]
  rw [e2] at e1'
  refine ⟨w', xL_C e1', J, (hA.cg (fun j hj => ?_)).fr oF_xL (fun z => by have : a < 191 := z; omega), ?_, fun i hi => absurd hi (Nat.not_lt_zero i)⟩
  · show (if j = 5 then nI 0 else pW _ 0 j) = 0
    by_cases e : j = 5
    · rw [if_pos e, nI_0]
    · rw [if_neg e]
      rfl
  · obtain ⟨l1, l2, l3, -⟩ := hL'
    rw [l3]
    rfl
end LO
