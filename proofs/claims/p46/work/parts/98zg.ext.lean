/-! rows count below 296 alone -/
section EX
variable {r r' : Nat → Int32}
theorem xWF_ext (h : ∀ i, i < 296 → r' i = r i) (hW : xWF r) : xWF r' := by
  obtain ⟨hB, ⟨n1, n2, n3, n4⟩, hO, hV, hK, hQ1, hQ2⟩ := hW
  have hb6 := hB.b6
  have hv4 := hB.v4
  have hk20 := hB.k20
  have hq40 := hB.q40
  have e0 : xnb r' = xnb r := by unfold xnb; rw [h 0 (by omega)]
  have e1 : xnv r' = xnv r := by unfold xnv; rw [h 1 (by omega)]
  have e2 : xnk r' = xnk r := by unfold xnk; rw [h 2 (by omega)]
  have e3 : xnq r' = xnq r := by unfold xnq; rw [h 3 (by omega)]
  have es : ∀ v, v < 4 → xst r' v = xst r v := fun v hv => by unfold xst; rw [h (13 + 11 * v) (by omega)]
  refine ⟨?_, ⟨by rw [e0]; exact n1, by rw [e1]; exact n2, by rw [h 4 (by omega)]; exact n3, by rw [h 5 (by omega)]; exact n4⟩, fun b hb => by rw [h (6 + b) (by omega)]; exact hO b hb, fun v hv => ?_, fun k hk => ?_, fun q hq => ?_, fun p q hpq hq => ?_⟩
  · unfold xBd
    rw [e0, e1, e2, e3, h 0 (by omega), h 1 (by omega), h 2 (by omega), h 3 (by omega)]
    exact hB
  · rw [e1] at hv
    obtain ⟨a1, a2, a3, a4, a5⟩ := hV v hv
    have a29 : xst r v < 9 := a2.2
    rw [h (12 + 11 * v) (by omega), h (13 + 11 * v) (by omega), h (14 + 11 * v) (by omega), es v (by omega), e0]
    refine ⟨a1, a2, a3, a4, fun s hs => ?_⟩
    rw [h (15 + 11 * v + s) (by omega)]
    exact a5 s hs
  · rw [e2] at hk
    obtain ⟨a1, a2, a3, a4, a5, a6, a7, a8⟩ := hK k hk
    rw [h (56 + 6 * k) (by omega), h (57 + 6 * k) (by omega), h (58 + 6 * k) (by omega), h (59 + 6 * k) (by omega), h (60 + 6 * k) (by omega), e0, e1, e3]
    refine ⟨a1, a2, a3, a4, a5, a6, fun z => ?_, a8⟩
    obtain ⟨q, q1, q2, q3⟩ := a7 z
    exact ⟨q, q1, by rw [h (176 + 3 * q) (by omega)]; exact q2, by rw [h (177 + 3 * q) (by omega)]; exact q3⟩
  · rw [e3] at hq
    rw [h (176 + 3 * q) (by omega), h (177 + 3 * q) (by omega), h (178 + 3 * q) (by omega), e2, e0]
    exact hQ1 q hq
  · rw [e3] at hq
    rw [h (176 + 3 * p) (by omega), h (176 + 3 * q) (by omega), h (177 + 3 * p) (by omega), h (177 + 3 * q) (by omega)]
    exact hQ2 p q hpq hq
theorem kRl_ext {w : xW} {k : Nat} (h : ∀ i, i < 296 → r' i = r i) (hW : xWF r) (hR : kRl w k r) : kRl w k r' := by
  obtain ⟨p, s1, s2, s3, s4⟩ := hR
  have hB := hW.bd
  have hb6 := hB.b6
  have hv4 := hB.v4
  have hk20 := hB.k20
  have hq40 := hB.q40
  have e0 : xnb r' = xnb r := by unfold xnb; rw [h 0 (by omega)]
  have e1 : xnv r' = xnv r := by unfold xnv; rw [h 1 (by omega)]
  have e2 : xnk r' = xnk r := by unfold xnk; rw [h 2 (by omega)]
  have e3 : xnq r' = xnq r := by unfold xnq; rw [h 3 (by omega)]
  have geo : kGeo r r' := kGeo_head (fun i hi _ _ _ _ => h i (by omega))
  refine ⟨kPl_cg hW.lt (fun i hi _ _ _ _ _ => h i (by omega)) (fun q hq => h _ (by omega)) p, ?_, ?_, ?_, ?_⟩
  · refine ⟨s1.1.trans (h 4 (by omega)).symm, s1.2.1.trans (h 5 (by omega)).symm, fun i hi => ?_, fun i hi => ?_, s1.2.2.2.2.trans (h 3 (by omega)).symm⟩
    · rw [s1.2.2.1 i hi, e0]
      by_cases g : i < xnb r
      · rw [h (6 + i) (by omega)]
      · rw [decide_eq_false (fun z => g z.1), decide_eq_false (fun z => g z.1)]
    · rw [s1.2.2.2.1 i hi, e2]
      by_cases g : i < xnk r
      · rw [h (59 + 6 * i) (by omega)]
      · rw [decide_eq_false (fun z => g z.1), decide_eq_false (fun z => g z.1)]
  · refine ⟨fun v hv => ?_, fun q hq => ?_⟩
    · rw [e1] at hv
      rw [h (14 + 11 * v) (by omega)]
      exact s2.1 v hv
    · rw [e2] at hq
      rw [h (56 + 6 * q) (by omega), h (57 + 6 * q) (by omega), h (60 + 6 * q) (by omega), h (61 + 6 * q) (by omega)]
      exact s2.2 q hq
  · refine ⟨fun q hq => ?_, fun q hq => ?_⟩
    · rw [e3] at hq
      rw [h (176 + 3 * q) (by omega), h (177 + 3 * q) (by omega), h (178 + 3 * q) (by omega)]
      exact s3.1 q hq
    · rw [s3.2 q hq, sp_first_cg (fun q hq => hW.qb hq) e3 (fun i h1 h2 => h i (by omega)) (fun b hb => h _ (by omega))]
  · intro a b ha hb
    rw [s4 a b ha hb, geo.D hW.lt]
theorem kRel_ext {w : xW} {k : Nat} (h : ∀ i, i < 296 → r' i = r i) (hR : kRel w k r) : kRel w k r' := kRel_of (xWF_ext h hR.W) (kRl_ext h hR.W hR.l)
/-- rooms hold something, the time is below its end -/
def kTm (r : Nat → Int32) : Prop := xRm r ∧ ∃ c, c < 10000 ∧ r 4 = nI c
theorem kTm_ext (hW : xWF r) (h : ∀ i, i < 296 → r' i = r i) (hT : kTm r) : kTm r' := by
  have hv4 := hW.bd.v4
  have e1 : xnv r' = xnv r := by unfold xnv; rw [h 1 (by omega)]
  obtain ⟨a, c, c1, c2⟩ := hT
  refine ⟨fun v hv => ?_, c, c1, by rw [h 4 (by omega)]; exact c2⟩
  rw [e1] at hv
  rw [h (12 + 11 * v) (by omega)]
  exact a v hv
end EX
def kSt (w : xW) (k : Nat) (r : Nat → Int32) : Prop := kRel w k r ∧ kTm r
theorem kSt_ext {w : xW} {k : Nat} {r r' : Nat → Int32} (h : ∀ i, i < 296 → r' i = r i) (hS : kSt w k r) : kSt w k r' := ⟨kRel_ext h hS.1, kTm_ext hS.1.W h hS.2⟩
theorem kSt_cg {w w' : xW} {k : Nat} {r : Nat → Int32} (h5 : w' (k + 5) = w (k + 5)) (hp : ∀ g, 1 ≤ g → g ≤ 2 → w' g = w g) (hS : kSt w k r) : kSt w' k r := ⟨kRel_cg h5 hp hS.1, hS.2⟩
/-- class and reference between two calls -/
def kIv1 (w : xW) : Prop := (w 3).1 0 = 0 ∧ kSt w 0 ((w 3).2 0) ∧ (if (w 0).1 2 = 0 then 0 else 1) ≠ xpi (w 5)
def kIv2 (w : xW) : Prop := ∃ n m, n ≤ 10 ∧ m < 10 ∧ (w 0).1 13 = nI n ∧ (w 3).1 1 = nI n ∧ (w 0).1 14 = nI m ∧ ∀ p, p < n → kSt w (3 + (m + 10 - n + p) % 10) (fun i => (w 3).2 4 (296 * p + i)) ∧ xpi (w (8 + (m + 10 - n + p) % 10)) = xpi (w 5)
def kIv3 (w : xW) : Prop := ((w 0).1 3 = 0 ∧ (w 3).1 3 = 0) ∨ ((w 0).1 3 = 1 ∧ (w 3).1 3 = 1 ∧ kSt w 2 ((w 3).2 3) ∧ xpi (w 7) = xpi (w 5))
def kIv4 (w : xW) : Prop := ∃ c, c ≤ 800 ∧ (w 0).1 0 = nI c ∧ (w 3).1 6 = nI c ∧ ∀ i, i < c → (w 0).2 0 i = kby ((w 3).2 8 i) ∧ xil ((w 3).2 8 i) 256
def kIv5 (w : xW) : Prop := (w 0).1 1 = (w 3).1 13
def kIv6 (w : xW) : Prop := ∃ n, n ≤ 256 ∧ (w 0).1 12 = nI n ∧ (w 3).1 5 = nI n ∧ ∀ i, i < n → (w 0).2 2 i = (w 3).2 7 i
def kInv (w : xW) : Prop := kIv1 w ∧ kIv2 w ∧ kIv3 w ∧ kIv4 w ∧ kIv5 w ∧ kIv6 w
/-- nothing that counts has changed -/
def kSm (w w' : xW) : Prop := (∀ g, g ≠ 0 → g ≠ 3 → g ≠ 6 → w' g = w g) ∧ (∀ i, i = 0 ∨ i = 1 ∨ i = 2 ∨ i = 3 ∨ i = 12 ∨ i = 13 ∨ i = 14 → (w' 0).1 i = (w 0).1 i) ∧ (w' 0).2 0 = (w 0).2 0 ∧ (w' 0).2 2 = (w 0).2 2 ∧ (∀ i, i = 0 ∨ i = 1 ∨ i = 3 ∨ i = 5 ∨ i = 6 ∨ i = 13 → (w' 3).1 i = (w 3).1 i) ∧ (∀ a, a = 3 ∨ a = 4 ∨ a = 7 ∨ a = 8 → (w' 3).2 a = (w 3).2 a) ∧ ∀ i, i < 296 → (w' 3).2 0 i = (w 3).2 0 i
theorem kSm_rfl {w : xW} : kSm w w := ⟨fun _ _ _ _ => rfl, fun _ _ => rfl, rfl, rfl, fun _ _ => rfl, fun _ _ => rfl, fun _ _ => rfl⟩
theorem kSm_t {w w' w'' : xW} (h : kSm w w') (g : kSm w' w'') : kSm w w'' := ⟨fun x a b c => (g.1 x a b c).trans (h.1 x a b c), fun i hi => (g.2.1 i hi).trans (h.2.1 i hi), g.2.2.1.trans h.2.2.1, g.2.2.2.1.trans h.2.2.2.1, fun i hi => (g.2.2.2.2.1 i hi).trans (h.2.2.2.2.1 i hi), fun a ha => (g.2.2.2.2.2.1 a ha).trans (h.2.2.2.2.2.1 a ha), fun i hi => (g.2.2.2.2.2.2 i hi).trans (h.2.2.2.2.2.2 i hi)⟩
theorem kSm_inv {w w' : xW} (h : kSm w w') (hI : kInv w) : kInv w' := by
  obtain ⟨hg, h0, h00, h02, h3, h3a, hr⟩ := h
  obtain ⟨⟨a1, a2, a3⟩, ⟨n, m, b1, b2, b3, b4, b5, b6⟩, c, ⟨e, e1, e2, e3, e4⟩, f, ⟨g, g1, g2, g3, g4⟩⟩ := hI
  have hp : ∀ g, 1 ≤ g → g ≤ 2 → w' g = w g := fun g h1 h2 => hg g (by omega) (by omega) (by omega)
  refine ⟨⟨?_, ?_, ?_⟩, ⟨n, m, b1, b2, ?_, ?_, ?_, fun p hp' => ?_⟩, ?_, ⟨e, e1, ?_, ?_, fun i hi => ?_⟩, ?_, ⟨g, g1, ?_, ?_, fun i hi => ?_⟩⟩
  · rw [h3 0 (by omega)]; exact a1
  · exact kSt_ext hr (kSt_cg (hg 5 (by omega) (by omega) (by omega)) hp a2)
  · rw [h0 2 (by omega), hg 5 (by omega) (by omega) (by omega)]; exact a3
  · rw [h0 13 (by omega)]; exact b3
  · rw [h3 1 (by omega)]; exact b4
  · rw [h0 14 (by omega)]; exact b5
  · obtain ⟨q1, q2⟩ := b6 p hp'
    rw [h3a 4 (by omega), hg 5 (by omega) (by omega) (by omega), hg (8 + (m + 10 - n + p) % 10) (by omega) (by omega) (by omega)]
    exact ⟨kSt_cg (hg _ (by omega) (by omega) (by omega)) hp q1, q2⟩
  · rcases c with ⟨c1, c2⟩ | ⟨c1, c2, c3, c4⟩
    · exact Or.inl ⟨by rw [h0 3 (by omega)]; exact c1, by rw [h3 3 (by omega)]; exact c2⟩
    · refine Or.inr ⟨by rw [h0 3 (by omega)]; exact c1, by rw [h3 3 (by omega)]; exact c2, ?_, ?_⟩
      · rw [h3a 3 (by omega)]
        exact kSt_cg (hg _ (by omega) (by omega) (by omega)) hp c3
      · rw [hg 7 (by omega) (by omega) (by omega), hg 5 (by omega) (by omega) (by omega)]; exact c4
  · rw [h0 0 (by omega)]; exact e2
  · rw [h3 6 (by omega)]; exact e3
  · rw [h00, h3a 8 (by omega)]; exact e4 i hi
  · unfold kIv5
    rw [h0 1 (by omega), h3 13 (by omega)]; exact f
  · rw [h0 12 (by omega)]; exact g2
  · rw [h3 5 (by omega)]; exact g3
  · rw [h02, h3a 7 (by omega)]; exact g4 i hi
