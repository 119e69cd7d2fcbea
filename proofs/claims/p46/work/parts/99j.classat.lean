/-! THE CLASS between two calls of the law: r its row, n undoable rows hs (the oldest first), a snapshot or none -/
def cSn (w : xW) (sn : Option (Nat → Int32)) : Prop := match sn with
  | none => (w 0).1 3 = 0
  | some s => (w 0).1 3 = 1 ∧ kSt w 2 s ∧ xpi (w 7) = xpi (w 5)
def cHs (w : xW) (n : Nat) (hs : Nat → Nat → Int32) : Prop := n ≤ 10 ∧ (w 0).1 13 = nI n ∧ ∃ m, m < 10 ∧ (w 0).1 14 = nI m ∧ ∀ p, p < n → kSt w (3 + (m + 10 - n + p) % 10) (hs p) ∧ xpi (w (8 + (m + 10 - n + p) % 10)) = xpi (w 5)
def cBf (w : xW) : Prop := (∃ c, c ≤ 800 ∧ (w 0).1 0 = nI c) ∧ ∃ q, q ≤ 256 ∧ (w 0).1 12 = nI q
def cI (w : xW) (r : Nat → Int32) (n : Nat) (hs : Nat → Nat → Int32) (sn : Option (Nat → Int32)) : Prop := kSt w 0 r ∧ (if (w 0).1 2 = 0 then 0 else 1) ≠ xpi (w 5) ∧ cHs w n hs ∧ cSn w sn ∧ cBf w
def cN (n : Nat) : Nat := if n = 10 then 10 else n + 1
def cPush (n : Nat) (hs : Nat → Nat → Int32) (r : Nat → Int32) : Nat → Nat → Int32 := fun p => if p = (if n = 10 then 9 else n) then r else if n = 10 then hs (p + 1) else hs p
section CI
variable {w w' : xW} {r r' : Nat → Int32} {n : Nat} {hs : Nat → Nat → Int32} {sn : Option (Nat → Int32)}
theorem cI.st (h : cI w r n hs sn) : kSt w 0 r := h.1
theorem cI.R (h : cI w r n hs sn) : kRel w 0 r := h.1.1
theorem cI.W (h : cI w r n hs sn) : xWF r := h.1.1.W
theorem cI.tm (h : cI w r n hs sn) : kTm r := h.1.2
theorem cHs_cg (hg : ∀ g, g = 1 ∨ g = 2 ∨ 8 ≤ g → w' g = w g) (h13 : (w' 0).1 13 = (w 0).1 13) (h14 : (w' 0).1 14 = (w 0).1 14) (h5 : xpi (w' 5) = xpi (w 5)) (h : cHs w n hs) : cHs w' n hs := by
  obtain ⟨a, b, m, c, e, f⟩ := h
  refine ⟨a, h13.trans b, m, c, h14.trans e, fun p hp => ?_⟩
  obtain ⟨g1, g2⟩ := f p hp
  rw [h5, hg (8 + (m + 10 - n + p) % 10) (by omega)]
  exact ⟨kSt_cg (hg _ (by omega)) (fun x h1 h2 => hg x (by omega)) g1, g2⟩
theorem cSn_cg (hg : ∀ g, g = 1 ∨ g = 2 ∨ g = 7 → w' g = w g) (h3 : (w' 0).1 3 = (w 0).1 3) (h5 : xpi (w' 5) = xpi (w 5)) (h : cSn w sn) : cSn w' sn := by
  cases sn with
  | none => exact h3.trans h
  | some s =>
    obtain ⟨a, c, e⟩ := h
    refine ⟨h3.trans a, kSt_cg (hg _ (by omega)) (fun x h1 h2 => hg x (by omega)) c, ?_⟩
    rw [h5, hg 7 (by omega)]
    exact e
theorem cBf_cg (h0 : (w' 0).1 0 = (w 0).1 0) (h12 : (w' 0).1 12 = (w 0).1 12) (h : cBf w) : cBf w' := by
  unfold cBf
  rw [h0, h12]
  exact h
theorem cI_keep (hI : cI w r n hs sn) (hK : kKeep w w') : cI w' r n hs sn := by
  obtain ⟨a, b, c, e, f⟩ := hI
  obtain ⟨k1, k2, k3⟩ := hK
  have h5 : w' 5 = w 5 := k1 5 (by omega) (by omega)
  refine ⟨kSt_cg h5 (fun g h1 h2 => k1 g (by omega) (by omega)) a, by rw [k2, h5]; exact b, cHs_cg (fun g h => k1 g (by omega) (by omega)) (by rw [k2]) (by rw [k2]) (by rw [h5]) c, cSn_cg (fun g h => k1 g (by omega) (by omega)) (by rw [k2]) (by rw [h5]) e, cBf_cg (by rw [k2]) (by rw [k2]) f⟩
/-- the class's own numbers change, but not those that count -/
theorem cI_0 {s : xG} (hI : cI w r n hs sn) (h : ∀ i, i = 2 ∨ i = 3 ∨ i = 13 ∨ i = 14 → s.1 i = (w 0).1 i) (h0 : ∃ c, c ≤ 800 ∧ s.1 0 = nI c) (h12 : ∃ q, q ≤ 256 ∧ s.1 12 = nI q) : cI (xu w 0 s) r n hs sn := by
  obtain ⟨a, b, c, e, f⟩ := hI
  have wg : ∀ g, g ≠ 0 → xu w 0 s g = w g := fun g hg => xu_ne hg
  have w0 : xu w 0 s 0 = s := xu_same
  refine ⟨kSt_cg (wg _ (by omega)) (fun g h1 h2 => wg g (by omega)) a, by rw [w0, wg 5 (by omega), h 2 (by omega)]; exact b, cHs_cg (fun g h => wg g (by omega)) (by rw [w0, h 13 (by omega)]) (by rw [w0, h 14 (by omega)]) (by rw [wg 5 (by omega)]) c, cSn_cg (fun g h => wg g (by omega)) (by rw [w0, h 3 (by omega)]) (by rw [wg 5 (by omega)]) e, ?_⟩
  unfold cBf
  rw [w0]
  exact ⟨h0, h12⟩
theorem kSt_cpd {j k : Nat} {s : xG} (h : kCpd s (w (j + 5))) (hS : kSt w j r) : kSt (xu w (k + 5) s) k r := ⟨kRel_of hS.1.W (kCpd_rel hS.1.W.bd h hS.1.l), hS.2⟩
theorem cI_op {m : Nat} (hI : cI w r n hs sn) (hm : m < 10) (h14 : (w 0).1 14 = nI m) (hK : kOps w w' r' n m) (h4 : ∃ c, c < 10000 ∧ r' 4 = nI c) : cI w' r' (cN n) (cPush n hs r) sn := by
  obtain ⟨a2, a3, ⟨b1, b3, m', b2, b5, b6⟩, i3, i4⟩ := hI
  have em : m' = m := nI_inj (by omega) (by omega) (b5.symm.trans h14)
  subst em
  obtain ⟨k1, k2, k3, k4, k5, k6, k7, k8⟩ := hK
  have h5 : xpi (w' 5) = xpi (w 5) := by
    unfold xpi
    rw [k7]
  have hRm : xRm r' := by
    have P1 := a2.1.P
    have P2 := k8.P
    have e : w' (xpi (w' (0 + 5)) + 1) = w (xpi (w (0 + 5)) + 1) := by
      have e5 : xpi (w' (0 + 5)) = xpi (w (0 + 5)) := h5
      have := @xpi_lt (w (0 + 5))
      rw [e5, k1 _ (by omega) (by omega) (by omega)]
    rw [e] at P2
    have ev : xnv r' = xnv r := by
      unfold xnv
      rw [← P2.1.2.1, ← P1.1.2.1]
    intro v hv
    rw [← (P2.2.1 v hv).1, (P1.2.1 v (by rw [← ev]; exact hv)).1]
    exact a2.2.1 v (by rw [← ev]; exact hv)
  have hT : kTm r' := ⟨hRm, h4⟩
  have hp : ∀ g, 1 ≤ g → g ≤ 2 → w' g = w g := fun g h1 h2 => k1 g (by omega) (by omega) (by omega)
  refine ⟨⟨k8, hT⟩, by rw [h5, k3 2 (by omega) (by omega)]; exact a3, ⟨by unfold cN; split <;> omega, by unfold cN; exact k4, (m' + 1) % 10, by omega, k5, fun p hp' => ?_⟩, cSn_cg (fun g h => k1 g (by omega) (by omega) (by omega)) (k3 3 (by omega) (by omega)) h5 i3, cBf_cg (k3 0 (by omega) (by omega)) (k3 12 (by omega) (by omega)) i4⟩
  unfold cN cPush at *
  by_cases hpe : p = (if n = 10 then 9 else n)
  · rw [if_pos hpe]
    have ei : ((m' + 1) % 10 + 10 - (if n = 10 then 10 else n + 1) + p) % 10 = m' := by
      rw [hpe]
      by_cases h10 : n = 10
      · rw [if_pos h10, if_pos h10]; omega
      · rw [if_neg h10, if_neg h10]; omega
    rw [ei, h5, Nat.add_comm 8 m']
    have hS := @kSt_cpd w r 0 (3 + m') (w' (m' + 8)) k6 a2
    refine ⟨kSt_cg ?_ (fun g h1 h2 => ?_) hS, kCpd_pi k6⟩
    · rw [show 3 + m' + 5 = m' + 8 by omega, xu_same]
    · rw [hp g h1 h2, xu_ne (by omega)]
  · rw [if_neg hpe]
    have hpo : p < (if n = 10 then 9 else n) := by
      by_cases h10 : n = 10
      · rw [if_pos h10] at hp' hpe ⊢
        omega
      · rw [if_neg h10] at hp' hpe ⊢
        omega
    have ei : ((m' + 1) % 10 + 10 - (if n = 10 then 10 else n + 1) + p) % 10 = (m' + 10 - n + (if n = 10 then p + 1 else p)) % 10 := by
      by_cases h10 : n = 10
      · rw [if_pos h10, if_pos h10]
        omega
      · rw [if_neg h10, if_neg h10]
        omega
    have elt : (if n = 10 then p + 1 else p) < n := by
      by_cases h10 : n = 10
      · rw [if_pos h10] at hpo ⊢
        omega
      · rw [if_neg h10] at hpo ⊢
        omega
    have hne : (m' + 10 - n + (if n = 10 then p + 1 else p)) % 10 ≠ m' := by
      by_cases h10 : n = 10
      · rw [if_pos h10] at hpo ⊢
        omega
      · rw [if_neg h10] at hpo ⊢
        omega
    obtain ⟨g1, g2⟩ := b6 _ elt
    have eh : (if n = 10 then hs (p + 1) else hs p) = hs (if n = 10 then p + 1 else p) := by split <;> rfl
    rw [ei, eh, h5, k1 _ (by omega) (by omega) (show 8 + (m' + 10 - n + (if n = 10 then p + 1 else p)) % 10 ≠ m' + 8 by omega)]
    exact ⟨kSt_cg (k1 _ (by omega) (by omega) (show 3 + (m' + 10 - n + (if n = 10 then p + 1 else p)) % 10 + 5 ≠ m' + 8 by omega)) hp g1, g2⟩
/-- an operation leaves the counts of branches, vans and books -/
theorem kOps_c {m : Nat} (hI : cI w r n hs sn) (hm : m < 10) (hK : kOps w w' r' n m) : xnb r' = xnb r ∧ xnv r' = xnv r ∧ xnk r' = xnk r := by
  obtain ⟨k1, k2, k3, k4, k5, k6, k7, k8⟩ := hK
  have P1 := hI.R.P
  have P2 := k8.P
  have e : w' (xpi (w' (0 + 5)) + 1) = w (xpi (w (0 + 5)) + 1) := by
    have e5 : xpi (w' (0 + 5)) = xpi (w (0 + 5)) := by
      show (if (w' 5).1 0 = 0 then 0 else 1) = if (w 5).1 0 = 0 then 0 else 1
      rw [k7]
    have := @xpi_lt (w (0 + 5))
    rw [e5, k1 _ (by omega) (by omega) (by omega)]
  rw [e] at P2
  refine ⟨?_, ?_, ?_⟩
  · unfold xnb; rw [← P2.1.1, ← P1.1.1]
  · unfold xnv; rw [← P2.1.2.1, ← P1.1.2.1]
  · unfold xnk; rw [← P2.1.2.2, ← P1.1.2.2]
theorem cI_undo {m : Nat} {s : xG} (hI : cI w r (n + 1) hs sn) (hm : m < 10) (h14 : (w 0).1 14 = nI m) (hc : kCpd s (w ((m + 9) % 10 + 8))) : cI (xu (xu w 0 (xs1 (xs1 (w 0) 14 (nI ((m + 9) % 10))) 13 (nI n))) 5 s) (hs n) n hs sn := by
  obtain ⟨a2, a3, ⟨b1, b3, m', b2, b5, b6⟩, i3, i4⟩ := hI
  have em : m' = m := nI_inj (by omega) (by omega) (b5.symm.trans h14)
  subst em
  obtain ⟨q1, q2⟩ := b6 n (by omega)
  have em : (m' + 10 - (n + 1) + n) % 10 = (m' + 9) % 10 := by
    congr 1
    omega
  rw [em] at q1 q2
  have hs' : kCpd s (w (3 + (m' + 9) % 10 + 5)) := by
    rw [show 3 + (m' + 9) % 10 + 5 = (m' + 9) % 10 + 8 by omega]
    exact hc
  have hS := @kSt_cpd w _ (3 + (m' + 9) % 10) 0 s hs' q1
  have hpi : xpi s = xpi (w 5) := by
    rw [kCpd_pi hc, ← q2, Nat.add_comm]
  have wg : ∀ g, g ≠ 0 → g ≠ 5 → xu (xu w 0 (xs1 (xs1 (w 0) 14 (nI ((m' + 9) % 10))) 13 (nI n))) 5 s g = w g := fun g h0 h5 => by rw [xu_ne h5, xu_ne h0]
  have w5 : xu (xu w 0 (xs1 (xs1 (w 0) 14 (nI ((m' + 9) % 10))) 13 (nI n))) 5 s 5 = s := xu_same
  have w0 : xu (xu w 0 (xs1 (xs1 (w 0) 14 (nI ((m' + 9) % 10))) 13 (nI n))) 5 s 0 = xs1 (xs1 (w 0) 14 (nI ((m' + 9) % 10))) 13 (nI n) := by rw [xu_ne (by omega), xu_same]
  generalize xu (xu w 0 (xs1 (xs1 (w 0) 14 (nI ((m' + 9) % 10))) 13 (nI n))) 5 s = W at *
  have h5 : xpi (W 5) = xpi (w 5) := by rw [w5, hpi]
  have z : ∀ i, i ≠ 13 → i ≠ 14 → (W 0).1 i = (w 0).1 i := fun i h1 h2 => by rw [w0, xs1_ne h1, xs1_ne h2]
  refine ⟨kSt_cg (by rw [w5, xu_same]) (fun g h1 h2 => by rw [wg g (by omega) (by omega), xu_ne (by omega)]) hS, by rw [h5, z 2 (by omega) (by omega)]; exact a3, ⟨by omega, by rw [w0, xs1_same], (m' + 9) % 10, by omega, by rw [w0, xs1_ne (by omega), xs1_same], fun p hp => ?_⟩, cSn_cg (fun g h => wg g (by omega) (by omega)) (z 3 (by omega) (by omega)) h5 i3, cBf_cg (z 0 (by omega) (by omega)) (z 12 (by omega) (by omega)) i4⟩
  obtain ⟨g1, g2⟩ := b6 p (by omega)
  have ep : (m' + 10 - (n + 1) + p) % 10 = ((m' + 9) % 10 + 10 - n + p) % 10 := by omega
  rw [ep] at g1 g2
  rw [h5, wg (8 + ((m' + 9) % 10 + 10 - n + p) % 10) (by omega) (by omega)]
  exact ⟨kSt_cg (wg _ (by omega) (by omega)) (fun x h1 h2 => wg x (by omega) (by omega)) g1, g2⟩
theorem cI_snap {s : xG} (hI : cI w r n hs sn) (hc : kCpd s (w 5)) : cI (xu (xu w 7 s) 0 (xs1 (w 0) 3 1)) r n hs (some r) := by
  obtain ⟨a2, a3, b, i3, i4⟩ := hI
  have hS := @kSt_cpd w _ 0 2 s hc a2
  have hpi : xpi s = xpi (w 5) := kCpd_pi hc
  have wg : ∀ g, g ≠ 0 → g ≠ 7 → xu (xu w 7 s) 0 (xs1 (w 0) 3 1) g = w g := fun g h0 h7 => by rw [xu_ne h0, xu_ne h7]
  have w7 : xu (xu w 7 s) 0 (xs1 (w 0) 3 1) 7 = s := by rw [xu_ne (by omega), xu_same]
  have w0 : xu (xu w 7 s) 0 (xs1 (w 0) 3 1) 0 = xs1 (w 0) 3 1 := xu_same
  generalize xu (xu w 7 s) 0 (xs1 (w 0) 3 1) = W at *
  have h5 : xpi (W 5) = xpi (w 5) := by rw [wg 5 (by omega) (by omega)]
  have z : ∀ i, i ≠ 3 → (W 0).1 i = (w 0).1 i := fun i h => by rw [w0, xs1_ne h]
  refine ⟨kSt_cg (wg _ (by omega) (by omega)) (fun g h1 h2 => wg g (by omega) (by omega)) a2, by rw [h5, z 2 (by omega)]; exact a3, cHs_cg (fun g h => wg g (by omega) (by omega)) (z 13 (by omega)) (z 14 (by omega)) h5 b, ⟨by rw [w0, xs1_same], kSt_cg (by rw [w7, xu_same]) (fun g h1 h2 => by rw [wg g (by omega) (by omega), xu_ne (by omega)]) hS, by rw [w7, h5]; exact hpi⟩, cBf_cg (z 0 (by omega)) (z 12 (by omega)) i4⟩
theorem cI_rest {s : xG} {r0 : Nat → Int32} (hI : cI w r n hs (some r0)) (hc : kCpd s (w 7)) : cI (xu (xu w 5 s) 0 (xs1 (w 0) 13 0)) r0 0 hs (some r0) := by
  obtain ⟨a2, a3, ⟨b1, b3, m, b2, b5, b6⟩, ⟨c1, c3, c4⟩, i4⟩ := hI
  have hS := @kSt_cpd w _ 2 0 s hc c3
  have hpi : xpi s = xpi (w 5) := by rw [kCpd_pi hc, c4]
  have wg : ∀ g, g ≠ 0 → g ≠ 5 → xu (xu w 5 s) 0 (xs1 (w 0) 13 0) g = w g := fun g h0 h7 => by rw [xu_ne h0, xu_ne h7]
  have w5 : xu (xu w 5 s) 0 (xs1 (w 0) 13 0) 5 = s := by rw [xu_ne (by omega), xu_same]
  have w0 : xu (xu w 5 s) 0 (xs1 (w 0) 13 0) 0 = xs1 (w 0) 13 0 := xu_same
  generalize xu (xu w 5 s) 0 (xs1 (w 0) 13 0) = W at *
  have h5 : xpi (W 5) = xpi (w 5) := by rw [w5, hpi]
  have z : ∀ i, i ≠ 13 → (W 0).1 i = (w 0).1 i := fun i h => by rw [w0, xs1_ne h]
  refine ⟨kSt_cg (by rw [w5, xu_same]) (fun g h1 h2 => by rw [wg g (by omega) (by omega), xu_ne (by omega)]) hS, by rw [h5, z 2 (by omega)]; exact a3, ⟨by omega, by rw [w0, xs1_same]; rfl, m, b2, (z 14 (by omega)).trans b5, fun p hp => absurd hp (by omega)⟩, cSn_cg (sn := some r0) (fun g h => wg g (by omega) (by omega)) (z 3 (by omega)) h5 ⟨c1, c3, c4⟩, cBf_cg (z 0 (by omega)) (z 12 (by omega)) i4⟩
/-- a load that succeeds -/
theorem cI_load {A : xLk} {i : Nat} (hI : cI w r n hs sn) (hi : i < 2) (h5 : xpi (w 5) ≠ i) (hL : kLd w w' A i) (h0 : A.1.2.2.2.1 = 0) (hW : xWF A.2) (hT : kTm A.2) : cI w' A.2 0 hs none := by
  obtain ⟨a2, a3, ⟨b1, b3, m, b2, b5, b6⟩, i3, i4⟩ := hI
  obtain ⟨l1, l2, l3, l4, l5, l6, l7, l8⟩ := hL
  obtain ⟨m1, m2, m3, m4, m5⟩ := l7 h0
  refine ⟨⟨kRel_of hW m5, hT⟩, ?_, ⟨by omega, m1, m, b2, l6.trans b5, fun p hp => absurd hp (by omega)⟩, m2, ⟨⟨0, by omega, l3.trans nI_0.symm⟩, by rw [l5]; exact i4.2⟩⟩
  rw [m3, m4]
  have := @xpi_lt (w 5)
  intro z
  apply h5
  rw [← z]
  by_cases e : xpi (w 5) = 0
  · rw [e, nI_0, if_pos rfl]
  · rw [if_neg (nI_ne0 (by omega) (by omega))]
    omega
end CI
