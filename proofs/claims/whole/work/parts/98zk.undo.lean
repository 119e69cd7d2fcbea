/-! THE LAW: undo, snapshot, restore, feed -/
section UD
variable {w w' : xW} {l : Nat → Nat → Int64} {t : Nat} {sc : xm_Sc} {d : Nat} {r : Nat → Int32}
theorem kIv2_cg (hg : ∀ g, g = 1 ∨ g = 2 ∨ 8 ≤ g → w' g = w g) (h0 : (w' 0).1 13 = (w 0).1 13 ∧ (w' 0).1 14 = (w 0).1 14) (h3 : (w' 3).1 1 = (w 3).1 1) (h4 : (w' 3).2 4 = (w 3).2 4) (h5 : xpi (w' 5) = xpi (w 5)) (h : kIv2 w) : kIv2 w' := by
  obtain ⟨n, m, a, b, c, e, f, g⟩ := h
  refine ⟨n, m, a, b, h0.1.trans c, h3.trans e, h0.2.trans f, fun p hp => ?_⟩
  obtain ⟨g1, g2⟩ := g p hp
  rw [h4, h5, hg (8 + (m + 10 - n + p) % 10) (by omega)]
  exact ⟨kSt_cg (hg _ (by omega)) (fun x h1 h2 => hg x (by omega)) g1, g2⟩
theorem kIv3_cg (hg : ∀ g, g = 1 ∨ g = 2 ∨ g = 7 → w' g = w g) (h0 : (w' 0).1 3 = (w 0).1 3) (h3 : (w' 3).1 3 = (w 3).1 3) (h4 : (w' 3).2 3 = (w 3).2 3) (h5 : xpi (w' 5) = xpi (w 5)) (h : kIv3 w) : kIv3 w' := by
  rcases h with ⟨a, b⟩ | ⟨a, b, c, e⟩
  · exact Or.inl ⟨h0.trans a, h3.trans b⟩
  · refine Or.inr ⟨h0.trans a, h3.trans b, ?_, ?_⟩
    · rw [h4]
      exact kSt_cg (hg _ (by omega)) (fun x h1 h2 => hg x (by omega)) c
    · rw [h5, hg 7 (by omega)]
      exact e
theorem kIv4_cg (h0 : (w' 0).1 0 = (w 0).1 0) (h1 : (w' 0).2 0 = (w 0).2 0) (h3 : (w' 3).1 6 = (w 3).1 6) (h4 : (w' 3).2 8 = (w 3).2 8) (h : kIv4 w) : kIv4 w' := by
  obtain ⟨c, a, b, e, f⟩ := h
  refine ⟨c, a, h0.trans b, h3.trans e, fun i hi => ?_⟩
  rw [h1, h4]
  exact f i hi
theorem kIv5_cg (h0 : (w' 0).1 1 = (w 0).1 1) (h3 : (w' 3).1 13 = (w 3).1 13) (h : kIv5 w) : kIv5 w' := h0.trans (h.trans h3.symm)
theorem kIv6_cg (h0 : (w' 0).1 12 = (w 0).1 12) (h1 : (w' 0).2 2 = (w 0).2 2) (h3 : (w' 3).1 5 = (w 3).1 5) (h4 : (w' 3).2 7 = (w 3).2 7) (h : kIv6 w) : kIv6 w' := by
  obtain ⟨n, a, b, e, f⟩ := h
  refine ⟨n, a, h0.trans b, h3.trans e, fun i hi => ?_⟩
  rw [h1, h4]
  exact f i hi
theorem zj_g {a p b q m g : Nat} (h : g ≠ 3) : xcp w a p b q m g = w g := xu_ne h
theorem zj_c1 {a p b q m : Nat} : (xcp w a p b q m 3).1 = (w 3).1 := by
  unfold xcp
  rw [xu_same]
  rfl
theorem zj_c2 {a p b q m b' : Nat} (h : b' ≠ b) : (xcp w a p b q m 3).2 b' = (w 3).2 b' := by
  unfold xcp
  rw [xu_same, xs2_ne h]
theorem zj_cb {a p b i : Nat} (h : i < 296) : (xcp w a p b 0 296 3).2 b i = (w 3).2 a (296 * p + i) := by
  unfold xcp
  rw [xu_same, xs2_same]
  show (if 296 * 0 ≤ i ∧ i < 296 * 0 + 296 then (w 3).2 a (296 * p + (i - 296 * 0)) else (w 3).2 b i) = _
  rw [if_pos (by omega), Nat.mul_zero, Nat.sub_zero]
theorem zj_ug {g : Nat} {x : Int32} (h : g ≠ 3) : xUc w x g = w g := xu_ne h
theorem zj_u1 {x : Int32} : (xUc w x 3).1 1 = x := by
  unfold xUc
  rw [xu_same]
  exact xs1_same
theorem zj_ui {x : Int32} {i : Nat} (h : i ≠ 1) : (xUc w x 3).1 i = (w 3).1 i := by
  unfold xUc
  rw [xu_same]
  exact xs1_ne h
theorem zj_u2 {x : Int32} : (xUc w x 3).2 = (w 3).2 := by
  unfold xUc
  rw [xu_same]
  rfl
theorem zj_sg {g : Nat} {x : Int32} (h : g ≠ 3) : xSs w x g = w g := xu_ne h
theorem zj_s1 {x : Int32} : (xSs w x 3).1 3 = x := by
  unfold xSs
  rw [xu_same]
  exact xs1_same
theorem zj_si {x : Int32} {i : Nat} (h : i ≠ 3) : (xSs w x 3).1 i = (w 3).1 i := by
  unfold xSs
  rw [xu_same]
  exact xs1_ne h
theorem zj_s2 {x : Int32} : (xSs w x 3).2 = (w 3).2 := by
  unfold xSs
  rw [xu_same]
  rfl
theorem zj_tg {g : Nat} {x : Int32} (h : g ≠ 3) : xT w x g = w g := xu_ne h
/-- a copied state stands for the same row -/
theorem kSt_cpd {j k : Nat} {s : xG} (h : kCpd s (w (j + 5))) (hS : kSt w j r) : kSt (xu w (k + 5) s) k r := ⟨kRel_of hS.1.W (kCpd_rel hS.1.W.bd h hS.1.l), hS.2⟩
theorem ke_148 (hI : kInv w) : kE t (xm_C sc xt_M (d + 40) 148 [.ref 0] (xem w l t)) (xm_C sc xt_M (d + 40) 261 [.ref 191]) := by
  obtain ⟨⟨a1, a2, a3⟩, ⟨n, m, b1, b2, b3, b4, b5, b6⟩, i3, i4, i5, i6⟩ := id hI
  cases n with
  | zero => exact kE_s (@kd_148_0 w l t sc (d + 39) b3) (@zc_261_0 w l t sc (d + 38) b4) (kSm_inv kSm_T hI)
  | succ n =>
    obtain ⟨s, e, hs⟩ := @kd_148 w l t sc (d + 36) n m (by omega) b2 b3 b5
    refine kE_s e (@zc_261_s _ l t sc (d + 38) n (by omega) (by rw [xu_ne (by omega), xu_ne (by omega)]; exact b4)) ?_
    obtain ⟨q1, q2⟩ := b6 n (by omega)
    have em : (m + 10 - (n + 1) + n) % 10 = (m + 9) % 10 := by
      congr 1
      omega
    rw [em] at q1 q2
    have hs' : kCpd s (w (3 + (m + 9) % 10 + 5)) := by
      rw [show 3 + (m + 9) % 10 + 5 = (m + 9) % 10 + 8 by omega]
      exact hs
    have hS := @kSt_cpd w _ (3 + (m + 9) % 10) 0 s hs' q1
    have hpi : xpi s = xpi (w 5) := by
      rw [kCpd_pi hs, ← q2, Nat.add_comm]
    have wg : ∀ g, g ≠ 0 → g ≠ 3 → g ≠ 5 → xcp (xUc (xT (xu (xu w 0 (xs1 (xs1 (w 0) 14 (nI ((m + 9) % 10))) 13 (nI n))) 5 s) 0) (nI n)) 4 n 0 0 296 g = w g := fun g h0 h3 h5 => by rw [zj_g h3, zj_ug h3, zj_tg h3, xu_ne h5, xu_ne h0]
    have w5 : xcp (xUc (xT (xu (xu w 0 (xs1 (xs1 (w 0) 14 (nI ((m + 9) % 10))) 13 (nI n))) 5 s) 0) (nI n)) 4 n 0 0 296 5 = s := by rw [zj_g (by omega), zj_ug (by omega), zj_tg (by omega), xu_same]
    have w0 : xcp (xUc (xT (xu (xu w 0 (xs1 (xs1 (w 0) 14 (nI ((m + 9) % 10))) 13 (nI n))) 5 s) 0) (nI n)) 4 n 0 0 296 0 = xs1 (xs1 (w 0) 14 (nI ((m + 9) % 10))) 13 (nI n) := by rw [zj_g (by omega), zj_ug (by omega), zj_tg (by omega), xu_ne (by omega), xu_same]
    have w3 : ∀ i, i ≠ 1 → i ≠ 2 → (xcp (xUc (xT (xu (xu w 0 (xs1 (xs1 (w 0) 14 (nI ((m + 9) % 10))) 13 (nI n))) 5 s) 0) (nI n)) 4 n 0 0 296 3).1 i = (w 3).1 i := fun i h1 h2 => by rw [zj_c1, zj_ui h1, xTl_1 h2, xu_ne (by omega), xu_ne (by omega)]
    have w31 : (xcp (xUc (xT (xu (xu w 0 (xs1 (xs1 (w 0) 14 (nI ((m + 9) % 10))) 13 (nI n))) 5 s) 0) (nI n)) 4 n 0 0 296 3).1 1 = nI n := by rw [zj_c1, zj_u1]
    have w32 : ∀ a, a ≠ 0 → (xcp (xUc (xT (xu (xu w 0 (xs1 (xs1 (w 0) 14 (nI ((m + 9) % 10))) 13 (nI n))) 5 s) 0) (nI n)) 4 n 0 0 296 3).2 a = (w 3).2 a := fun a h => by rw [zj_c2 h, zj_u2, xTl_2, xu_ne (by omega), xu_ne (by omega)]
    have wr : ∀ i, i < 296 → (xcp (xUc (xT (xu (xu w 0 (xs1 (xs1 (w 0) 14 (nI ((m + 9) % 10))) 13 (nI n))) 5 s) 0) (nI n)) 4 n 0 0 296 3).2 0 i = (w 3).2 4 (296 * n + i) := fun i h => by rw [zj_cb h, zj_u2, xTl_2, xu_ne (by omega), xu_ne (by omega)]
    generalize xcp (xUc (xT (xu (xu w 0 (xs1 (xs1 (w 0) 14 (nI ((m + 9) % 10))) 13 (nI n))) 5 s) 0) (nI n)) 4 n 0 0 296 = W at wg w5 w0 w3 w31 w32 wr
    have h5 : xpi (W 5) = xpi (w 5) := by rw [w5, hpi]
    have z2 : (W 0).1 2 = (w 0).1 2 := by rw [w0, xs1_ne (by omega), xs1_ne (by omega)]
    refine ⟨⟨(w3 0 (by omega) (by omega)).trans a1, ?_, by rw [h5, z2]; exact a3⟩, ⟨n, (m + 9) % 10, by omega, by omega, by rw [w0, xs1_same], w31, by rw [w0, xs1_ne (by omega), xs1_same], fun p hp => ?_⟩, ?_, ?_, ?_, ?_⟩
    · exact kSt_ext wr (kSt_cg (by rw [w5, xu_same]) (fun g h1 h2 => by rw [wg g (by omega) (by omega) (by omega), xu_ne (by omega)]) hS)
    · obtain ⟨g1, g2⟩ := b6 p (by omega)
      have ep : (m + 10 - (n + 1) + p) % 10 = ((m + 9) % 10 + 10 - n + p) % 10 := by omega
      rw [ep] at g1 g2
      rw [w32 4 (by omega), h5, wg (8 + ((m + 9) % 10 + 10 - n + p) % 10) (by omega) (by omega) (by omega)]
      exact ⟨kSt_cg (wg _ (by omega) (by omega) (by omega)) (fun x h1 h2 => wg x (by omega) (by omega) (by omega)) g1, g2⟩
    · exact kIv3_cg (fun g h => wg g (by omega) (by omega) (by omega)) (by rw [w0, xs1_ne (by omega), xs1_ne (by omega)]) (w3 3 (by omega) (by omega)) (w32 3 (by omega)) h5 i3
    · exact kIv4_cg (by rw [w0, xs1_ne (by omega), xs1_ne (by omega)]) (by rw [w0]; rfl) (w3 6 (by omega) (by omega)) (w32 8 (by omega)) i4
    · exact kIv5_cg (by rw [w0, xs1_ne (by omega), xs1_ne (by omega)]) (w3 13 (by omega) (by omega)) i5
    · exact kIv6_cg (by rw [w0, xs1_ne (by omega), xs1_ne (by omega)]) (by rw [w0]; rfl) (w3 5 (by omega) (by omega)) (w32 7 (by omega)) i6
def kN (t : Nat) (oK : Option xm_O) (rf : xm_PS → Option xm_O) : Prop := ∃ w1 l1 t1 w2 l2, oK = some (.inl none, xem w1 l1 t1) ∧ rf (xem w1 l1 t1) = some (.inl none, xem w2 l2 t1) ∧ kInv w2 ∧ t1 ≤ t + 1
theorem ke_149 (hI : kInv w) : kN t (xm_C sc xt_M (d + 40) 149 [.ref 0] (xem w l t)) (xm_C sc xt_M (d + 40) 262 [.ref 191]) := by
  obtain ⟨⟨a1, a2, a3⟩, i2, i3, i4, i5, i6⟩ := id hI
  obtain ⟨s, e, hs⟩ := @kd_149 w l t sc (d + 37)
  refine ⟨_, l, t, _, l, e, @zc_262 _ l t sc (d + 38), ?_, Nat.le_succ t⟩
  have hS := @kSt_cpd w _ 0 2 s hs a2
  have hpi : xpi s = xpi (w 5) := kCpd_pi hs
  have wg : ∀ g, g ≠ 0 → g ≠ 3 → g ≠ 7 → xSs (xcp (xT (xu (xu w 7 s) 0 (xs1 (w 0) 3 1)) 0) 0 0 3 0 296) 1 g = w g := fun g h0 h3 h7 => by rw [zj_sg h3, zj_g h3, zj_tg h3, xu_ne h0, xu_ne h7]
  have w7 : xSs (xcp (xT (xu (xu w 7 s) 0 (xs1 (w 0) 3 1)) 0) 0 0 3 0 296) 1 7 = s := by rw [zj_sg (by omega), zj_g (by omega), zj_tg (by omega), xu_ne (by omega), xu_same]
  have w0 : xSs (xcp (xT (xu (xu w 7 s) 0 (xs1 (w 0) 3 1)) 0) 0 0 3 0 296) 1 0 = xs1 (w 0) 3 1 := by rw [zj_sg (by omega), zj_g (by omega), zj_tg (by omega), xu_same]
  have w3 : ∀ i, i ≠ 3 → i ≠ 2 → (xSs (xcp (xT (xu (xu w 7 s) 0 (xs1 (w 0) 3 1)) 0) 0 0 3 0 296) 1 3).1 i = (w 3).1 i := fun i h1 h2 => by rw [zj_si h1, zj_c1, xTl_1 h2, xu_ne (by omega), xu_ne (by omega)]
  have w31 : (xSs (xcp (xT (xu (xu w 7 s) 0 (xs1 (w 0) 3 1)) 0) 0 0 3 0 296) 1 3).1 3 = 1 := zj_s1
  have w32 : ∀ a, a ≠ 3 → (xSs (xcp (xT (xu (xu w 7 s) 0 (xs1 (w 0) 3 1)) 0) 0 0 3 0 296) 1 3).2 a = (w 3).2 a := fun a h => by rw [zj_s2, zj_c2 h, xTl_2, xu_ne (by omega), xu_ne (by omega)]
  have wr : ∀ i, i < 296 → (xSs (xcp (xT (xu (xu w 7 s) 0 (xs1 (w 0) 3 1)) 0) 0 0 3 0 296) 1 3).2 3 i = (w 3).2 0 i := fun i h => by rw [zj_s2, zj_cb h, xTl_2, xu_ne (by omega), xu_ne (by omega), Nat.mul_zero, Nat.zero_add]
  generalize xSs (xcp (xT (xu (xu w 7 s) 0 (xs1 (w 0) 3 1)) 0) 0 0 3 0 296) 1 = W at wg w7 w0 w3 w31 w32 wr
  have h5 : xpi (W 5) = xpi (w 5) := by rw [wg 5 (by omega) (by omega) (by omega)]
  have z2 : ∀ i, i ≠ 3 → (W 0).1 i = (w 0).1 i := fun i h => by rw [w0, xs1_ne h]
  refine ⟨⟨(w3 0 (by omega) (by omega)).trans a1, ?_, by rw [h5, z2 2 (by omega)]; exact a3⟩, ?_, Or.inr ⟨by rw [w0, xs1_same], w31, ?_, by rw [w7, h5]; exact hpi⟩, ?_, ?_, ?_⟩
  · rw [w32 0 (by omega)]
    exact kSt_cg (wg 5 (by omega) (by omega) (by omega)) (fun g h1 h2 => wg g (by omega) (by omega) (by omega)) a2
  · exact kIv2_cg (fun g h => wg g (by omega) (by omega) (by omega)) ⟨z2 13 (by omega), z2 14 (by omega)⟩ (w3 1 (by omega) (by omega)) (w32 4 (by omega)) h5 i2
  · exact kSt_ext wr (kSt_cg (by rw [w7, xu_same]) (fun g h1 h2 => by rw [wg g (by omega) (by omega) (by omega), xu_ne (by omega)]) hS)
  · exact kIv4_cg (z2 0 (by omega)) (by rw [w0]; rfl) (w3 6 (by omega) (by omega)) (w32 8 (by omega)) i4
  · exact kIv5_cg (z2 1 (by omega)) (w3 13 (by omega) (by omega)) i5
  · exact kIv6_cg (z2 12 (by omega)) (by rw [w0]; rfl) (w3 5 (by omega) (by omega)) (w32 7 (by omega)) i6
theorem ke_150 (hI : kInv w) : kE t (xm_C sc xt_M (d + 40) 150 [.ref 0] (xem w l t)) (xm_C sc xt_M (d + 40) 263 [.ref 191]) := by
  obtain ⟨⟨a1, a2, a3⟩, i2, i3, i4, i5, i6⟩ := id hI
  rcases id i3 with ⟨c1, c2⟩ | ⟨c1, c2, c3, c4⟩
  · exact kE_s (@kd_150_0 w l t sc (d + 39) c1) (@zc_263_0 w l t sc (d + 38) c2) (kSm_inv kSm_T hI)
  obtain ⟨s, e, hs⟩ := @kd_150 w l t sc (d + 37) c1
  refine kE_s e (@zc_263_1 _ l t sc (d + 38) (by rw [xu_ne (by omega), xu_ne (by omega)]; exact c2)) ?_
  have hS := @kSt_cpd w _ 2 0 s hs c3
  have hpi : xpi s = xpi (w 5) := by rw [kCpd_pi hs, c4]
  obtain ⟨n, m, b1, b2, b3, b4, b5, b6⟩ := i2
  have wg : ∀ g, g ≠ 0 → g ≠ 3 → g ≠ 5 → xUc (xcp (xT (xu (xu w 5 s) 0 (xs1 (w 0) 13 0)) 0) 3 0 0 0 296) 0 g = w g := fun g h0 h3 h7 => by rw [zj_ug h3, zj_g h3, zj_tg h3, xu_ne h0, xu_ne h7]
  have w5 : xUc (xcp (xT (xu (xu w 5 s) 0 (xs1 (w 0) 13 0)) 0) 3 0 0 0 296) 0 5 = s := by rw [zj_ug (by omega), zj_g (by omega), zj_tg (by omega), xu_ne (by omega), xu_same]
  have w0 : xUc (xcp (xT (xu (xu w 5 s) 0 (xs1 (w 0) 13 0)) 0) 3 0 0 0 296) 0 0 = xs1 (w 0) 13 0 := by rw [zj_ug (by omega), zj_g (by omega), zj_tg (by omega), xu_same]
  have w3 : ∀ i, i ≠ 1 → i ≠ 2 → (xUc (xcp (xT (xu (xu w 5 s) 0 (xs1 (w 0) 13 0)) 0) 3 0 0 0 296) 0 3).1 i = (w 3).1 i := fun i h1 h2 => by rw [zj_ui h1, zj_c1, xTl_1 h2, xu_ne (by omega), xu_ne (by omega)]
  have w31 : (xUc (xcp (xT (xu (xu w 5 s) 0 (xs1 (w 0) 13 0)) 0) 3 0 0 0 296) 0 3).1 1 = 0 := zj_u1
  have w32 : ∀ a, a ≠ 0 → (xUc (xcp (xT (xu (xu w 5 s) 0 (xs1 (w 0) 13 0)) 0) 3 0 0 0 296) 0 3).2 a = (w 3).2 a := fun a h => by rw [zj_u2, zj_c2 h, xTl_2, xu_ne (by omega), xu_ne (by omega)]
  have wr : ∀ i, i < 296 → (xUc (xcp (xT (xu (xu w 5 s) 0 (xs1 (w 0) 13 0)) 0) 3 0 0 0 296) 0 3).2 0 i = (w 3).2 3 i := fun i h => by rw [zj_u2, zj_cb h, xTl_2, xu_ne (by omega), xu_ne (by omega), Nat.mul_zero, Nat.zero_add]
  generalize xUc (xcp (xT (xu (xu w 5 s) 0 (xs1 (w 0) 13 0)) 0) 3 0 0 0 296) 0 = W at wg w5 w0 w3 w31 w32 wr
  have h5 : xpi (W 5) = xpi (w 5) := by rw [w5, hpi]
  have z2 : ∀ i, i ≠ 13 → (W 0).1 i = (w 0).1 i := fun i h => by rw [w0, xs1_ne h]
  refine ⟨⟨(w3 0 (by omega) (by omega)).trans a1, ?_, by rw [h5, z2 2 (by omega)]; exact a3⟩, ⟨0, m, by omega, b2, by rw [w0, xs1_same]; rfl, w31.trans rfl, (z2 14 (by omega)).trans b5, fun p hp => absurd hp (by omega)⟩, ?_, ?_, ?_, ?_⟩
  · exact kSt_ext wr (kSt_cg (by rw [w5, xu_same]) (fun g h1 h2 => by rw [wg g (by omega) (by omega) (by omega), xu_ne (by omega)]) hS)
  · exact kIv3_cg (fun g h => wg g (by omega) (by omega) (by omega)) (z2 3 (by omega)) (w3 3 (by omega) (by omega)) (w32 3 (by omega)) h5 i3
  · exact kIv4_cg (z2 0 (by omega)) (by rw [w0]; rfl) (w3 6 (by omega) (by omega)) (w32 8 (by omega)) i4
  · exact kIv5_cg (z2 1 (by omega)) (w3 13 (by omega) (by omega)) i5
  · exact kIv6_cg (z2 12 (by omega)) (by rw [w0]; rfl) (w3 5 (by omega) (by omega)) (w32 7 (by omega)) i6
end UD
