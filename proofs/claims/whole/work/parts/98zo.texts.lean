/-! THE LAW: format, load, query -/
def fq (u v : xFt) : Prop := u.1 = v.1 ∧ ∀ i, i < u.1 → u.2 i = v.2 i
section FQ
variable {u v : xFt} {r : Nat → Int32} {k q : Nat} {c x : Int32}
theorem fq_wc (h : fq u v) : fq (sp_wc u c) (sp_wc v c) := by
  refine ⟨congrArg (· + 1) h.1, fun i hi => ?_⟩
  show (if i = u.1 then c else u.2 i) = if i = v.1 then c else v.2 i
  rw [← h.1]
  by_cases e : i = u.1
  · rw [if_pos e, if_pos e]
  · rw [if_neg e, if_neg e]
    have hi' : i < u.1 + 1 := hi
    exact h.2 i (by omega)
theorem fq_wn (h : fq u v) : fq (sp_wn u x) (sp_wn v x) := by
  unfold sp_wn
  by_cases e : x ≤ 9
  · rw [if_pos e, if_pos e]; exact fq_wc h
  · rw [if_neg e, if_neg e]; exact fq_wc (fq_wc h)
theorem fq_wp (h : fq u v) : fq (sp_wp u c x) (sp_wp v c x) := fq_wn (fq_wc h)
theorem fq_if {p : Prop} [Decidable p] {u1 v1 u2 v2 : xFt} (h1 : fq u1 v1) (h2 : fq u2 v2) : fq (if p then u1 else u2) (if p then v1 else v2) := by
  by_cases e : p
  · rw [if_pos e, if_pos e]; exact h1
  · rw [if_neg e, if_neg e]; exact h2
theorem fq_ws (h : fq u v) : fq (sp_ws r k u) (sp_ws r k v) := by
  unfold sp_ws
  exact fq_if (fq_wp h) (fq_if (fq_wp h) (fq_if (fq_wp h) (fq_if (fq_wp h) (fq_wc h))))
theorem fq_wr (h : fq u v) : fq (sp_wr r k u) (sp_wr r k v) := by
  unfold sp_wr
  exact fq_if (fq_wc h) h
theorem fq_wq1 (h : fq u v) : fq (sp_wq1 r k q u) (sp_wq1 r k q v) := by
  unfold sp_wq1
  exact fq_if (fq_wp (fq_wn (fq_wc h))) h
theorem fq_wq (h : fq u v) : ∀ n, fq (sp_wq r k u n) (sp_wq r k v n) := by
  intro n
  induction n with
  | zero => exact h
  | succ n ih => exact fq_wq1 ih
theorem fq_fmt {f g : Nat → Int32} : fq (sp_fmt r k f) (sp_fmt r k g) := by
  have h0 : fq (0, f) (0, g) := ⟨rfl, fun i hi => absurd hi (Nat.not_lt_zero i)⟩
  unfold sp_fmt
  exact fq_wq (fq_wr (fq_ws (fq_wn h0))) _
theorem sp_fmt_le {f : Nat → Int32} (h : xnq r ≤ 40) : (sp_fmt r k f).1 ≤ 256 := by
  have h1 := @sp_wq_le r k (sp_wr r k (sp_ws r k (sp_wn (0, f) (nI k)))) (xnq r)
  have h2 := @sp_wr_le r k (sp_ws r k (sp_wn (0, f) (nI k)))
  have h3 := @sp_ws_le r k (sp_wn (0, f) (nI k))
  have h4 := @sp_wn_le (0, f) (nI k)
  have e : ((0, f) : xFt).1 = 0 := rfl
  show (sp_wq r k (sp_wr r k (sp_ws r k (sp_wn (0, f) (nI k)))) (xnq r)).1 ≤ 256
  omega
end FQ
section TX
variable {w w' : xW} {l : Nat → Nat → Int64} {t : Nat} {sc : xm_Sc} {d : Nat} {r : Nat → Int32}
theorem kSt_cgp {k : Nat} (h5 : w' (k + 5) = w (k + 5)) (hp : w' (xpi (w (k + 5)) + 1) = w (xpi (w (k + 5)) + 1)) (hS : kSt w k r) : kSt w' k r := ⟨by
  have h := hS.1
  unfold kRel at *
  rw [h5, hp]
  exact h, hS.2⟩
theorem kb_326 {a : Int32} (hI : kInv w) : kB t (xm_C sc xt_M (d + 40) 326 [.ref 0, .int a, .ref 204] (xem w l t)) (xm_C sc xt_M (d + 40) 256 [.ref 191, .int a]) := by
  have hR := hI.R
  have hk20 := hR.W.bd.k20
  have hq40 := hR.W.bd.q40
  by_cases h : sp_bk (xR w) a
  · have h' := h
    rw [sp_bk, hR.W.bd.k] at h'
    obtain ⟨k, hk, rfl⟩ := zrg (by omega) h'
    obtain ⟨⟨a1, a2, a3⟩, i2, i3, i4, i5, i6⟩ := id hI
    have e1 := kh_326 (@kd_145 w l t sc (d + 34) (xR w) k hR hk)
    generalize hF : sp_fmt (xR w) k ((w 0).2 2) = F at e1
    have g3 : kFw w F 3 = w 3 := xu_ne (by omega)
    have eR : xR (kFw w F) = xR w := xR_3 g3
    have e2 := @zc_256 (kFw w F) (lo l (nI F.1)) t sc (d + 34) k (by rw [eR]; exact hR.W) (by rw [eR]; exact hk)
    rw [eR, g3] at e2
    have hq : fq F (sp_fmt (xR w) k ((w 3).2 7)) := by rw [← hF]; exact fq_fmt
    have hle : F.1 ≤ 256 := by rw [← hF]; exact sp_fmt_le hq40
    generalize sp_fmt (xR w) k ((w 3).2 7) = G at e2 hq
    refine ⟨kFw w F, lo l (nI F.1), t, xFw (xT (kFw w F) 0) G, lo l (nI F.1), 0, nI G.1, e1, e2, ?_, fun _ => by rw [lo_0, hq.1], ?_, Nat.le_succ t⟩
    · unfold xFw
      rw [xu_same]
      show upd (xT (kFw w F) 0 3).1 5 (nI G.1) 2 = 0
      rw [show upd (xT (kFw w F) 0 3).1 5 (nI G.1) 2 = (xT (kFw w F) 0 3).1 2 from if_neg (by omega)]
      exact xT_t
    have wg : ∀ g, g ≠ 0 → g ≠ 3 → xFw (xT (kFw w F) 0) G g = w g := fun g h0 h3 => ((xu_ne h3).trans (xu_ne h3)).trans (xu_ne h0)
    have w0 : xFw (xT (kFw w F) 0) G 0 = kFg (w 0) F := ((xu_ne (by omega)).trans (xu_ne (by omega))).trans xu_same
    have z1 : ∀ i, i ≠ 12 → (xFw (xT (kFw w F) 0) G 0).1 i = (w 0).1 i := fun i h => by
      rw [w0]
      exact if_neg h
    have z2 : ∀ a, a ≠ 2 → (xFw (xT (kFw w F) 0) G 0).2 a = (w 0).2 a := fun a h => by
      rw [w0]
      exact if_neg h
    have w3 : ∀ i, i ≠ 2 → i ≠ 5 → (xFw (xT (kFw w F) 0) G 3).1 i = (w 3).1 i := fun i h2 h6 => by
      unfold xFw
      rw [xu_same]
      show upd (xT (kFw w F) 0 3).1 5 (nI G.1) i = _
      rw [show upd (xT (kFw w F) 0 3).1 5 (nI G.1) i = (xT (kFw w F) 0 3).1 i from if_neg h6, xTl_1 h2, g3]
    have w32 : ∀ a, a ≠ 7 → (xFw (xT (kFw w F) 0) G 3).2 a = (w 3).2 a := fun a h => by
      unfold xFw
      rw [xu_same]
      show (if a = 7 then G.2 else (xT (kFw w F) 0 3).2 a) = _
      rw [if_neg h, xTl_2, g3]
    refine ⟨⟨(w3 0 (by omega) (by omega)).trans a1, ?_, by rw [wg 5 (by omega) (by omega), z1 2 (by omega)]; exact a3⟩, ?_, ?_, ?_, ?_, ⟨F.1, hle, ?_, ?_, fun i hi => ?_⟩⟩
    · rw [w32 0 (by omega)]
      exact kSt_cg (wg 5 (by omega) (by omega)) (fun g h1 h2 => wg g (by omega) (by omega)) a2
    · exact kIv2_cg (fun g h => wg g (by omega) (by omega)) ⟨z1 13 (by omega), z1 14 (by omega)⟩ (w3 1 (by omega) (by omega)) (w32 4 (by omega)) (by rw [wg 5 (by omega) (by omega)]) i2
    · exact kIv3_cg (fun g h => wg g (by omega) (by omega)) (z1 3 (by omega)) (w3 3 (by omega) (by omega)) (w32 3 (by omega)) (by rw [wg 5 (by omega) (by omega)]) i3
    · exact kIv4_cg (z1 0 (by omega)) (z2 0 (by omega)) (w3 6 (by omega) (by omega)) (w32 8 (by omega)) i4
    · exact kIv5_cg (z1 1 (by omega)) (w3 13 (by omega) (by omega)) i5
    · rw [w0]
      rfl
    · rw [hq.1]
      unfold xFw
      rw [xu_same]
      rfl
    · rw [w0]
      unfold xFw
      rw [xu_same]
      exact hq.2 i hi
  · exact ⟨w, l, t + 1, xT w 1, l, 1, 0, kh_326_1 (@kd_145_x w l t sc (d + 34) (xR w) a hR h), @zc_256_1 w l (t + 1) sc (d + 34) a hR.W h, xT_t, fun z => absurd z (by decide), kSm_inv kSm_T hI, Nat.le_refl _⟩
theorem kb_327 {x : Int32} (hI : kInv w) : kB t (xm_C sc xt_M (d + 40) 327 [.ref 0, .int x, .ref 204] (xem w l t)) (xm_C sc xt_M (d + 40) 298 [.ref 191, .int x]) := by
  have hR := hI.R
  obtain ⟨⟨a1, a2, a3⟩, i2, i3, ⟨c, c8, c0, c3, cb⟩, i5, i6⟩ := id hI
  by_cases h : 0 ≤ x ∧ x ≤ (if (200 : Int32) < nI c then 200 else nI c)
  · have h0 : ¬ x < 0 := Int32.not_lt.2 h.1
    obtain ⟨n, hn, rfl⟩ := nI_of (x := x) h0
    have hb : n ≤ c ∧ n ≤ 200 := by
      by_cases g : (200 : Int32) < nI c
      · rw [if_pos g] at h
        have g' : ¬ c ≤ 200 := fun y => nI_nlt (a := 200) (b := c) y (by omega) g
        have := Nat.le_of_not_lt fun y => nI_ge (a := 200) (b := n) y hn h.2
        omega
      · rw [if_neg g] at h
        have g' : c ≤ 200 := Nat.le_of_not_lt fun y => g (nI_lt (a := 200) y (by omega))
        have := Nat.le_of_not_lt fun y => nI_ge (a := c) (b := n) y hn h.2
        omega
    obtain ⟨w1, e1, k1, k2, k3, k4, k5⟩ := @kd_151 w l t sc (d + 8) n ((w 3).2 8) (xR w) c ((w 3).1 9) ((w 3).1 10) ((w 3).1 12) hR c0 hb.1 c8 hb.2 (fun j hj => cb j (by omega))
    have g3 : w1 3 = w 3 := k1 3 (by omega)
    have eR : xR w1 = xR w := xR_3 g3
    obtain ⟨w2, l2, e2, ⟨x1, x2, x3, x4, x5, x6⟩, el⟩ := @zc_298 w1 (lo l (q_an ((w 3).2 8) n (xR w) (sp_scan ((w 3).2 8) n (0, (w 3).1 9, (w 3).1 10, 0, (w 3).1 12)))) t sc (d + 12) n c (by rw [eR]; exact hR.W) (by rw [g3]; exact a1) (by rw [g3]; exact c3) hb.1 c8 hb.2
    rw [g3, eR] at e2 x5
    refine ⟨w1, _, t, w2, l2, 0, _, kh_327 e1, e2, x3, fun _ => by rw [el, lo_0], ?_, Nat.le_succ t⟩
    have z0 : w2 0 = w1 0 := x1 0 (by omega)
    have wg : ∀ g, g ≠ 0 → g ≠ 3 → w2 g = w g := fun g h0 h3 => (x1 g h3).trans (k1 g h0)
    refine ⟨⟨(x2 0 (by omega)).trans (by rw [g3]; exact a1), ?_, by rw [wg 5 (by omega) (by omega), z0, k5 2 (by omega)]; exact a3⟩, ?_, ?_, ⟨0, by omega, ?_, x4, fun i hi => absurd hi (Nat.not_lt_zero i)⟩, ?_, ?_⟩
    · rw [x6 0 (by omega), g3]
      exact kSt_cg (wg 5 (by omega) (by omega)) (fun g h1 h2 => wg g (by omega) (by omega)) a2
    · exact kIv2_cg (fun g h => wg g (by omega) (by omega)) ⟨by rw [z0]; exact k5 13 (by omega), by rw [z0]; exact k5 14 (by omega)⟩ ((x2 1 (by omega)).trans (by rw [g3])) ((x6 4 (by omega)).trans (by rw [g3])) (by rw [wg 5 (by omega) (by omega)]) i2
    · exact kIv3_cg (fun g h => wg g (by omega) (by omega)) (by rw [z0]; exact k5 3 (by omega)) ((x2 3 (by omega)).trans (by rw [g3])) ((x6 3 (by omega)).trans (by rw [g3])) (by rw [wg 5 (by omega) (by omega)]) i3
    · rw [z0]
      exact k3
    · unfold kIv5
      rw [z0, k4, x5]
    · exact kIv6_cg (by rw [z0]; exact k5 12 (by omega)) (by rw [z0, k2]) ((x2 5 (by omega)).trans (by rw [g3])) ((x6 7 (by omega)).trans (by rw [g3])) i6
  · exact ⟨w, l, t + 1, xT w 1, l, 1, 0, kh_327_1 (@kd_151_x w l t sc (d + 8) c x c0 h), @zc_298_x w l (t + 1) sc (d + 12) c x c3 h, xT_t, fun z => absurd z (by decide), kSm_inv kSm_T hI, Nat.le_refl _⟩
theorem kb_299 {x : Int32} (hI : kInv w) : kB t (xm_C sc xt_M (d + 40) 299 [.ref 0, .int x, .ref 204] (xem w l t)) (xm_C sc xt_M (d + 40) 287 [.ref 191, .int x]) := by
  have hR := hI.R
  obtain ⟨⟨a1, a2, a3⟩, i2, i3, ⟨c, c8, c0, c3, cb⟩, i5, i6⟩ := id hI
  by_cases h : 0 ≤ x ∧ x ≤ nI c
  · have h0 : ¬ x < 0 := Int32.not_lt.2 h.1
    obtain ⟨n, hn, rfl⟩ := nI_of (x := x) h0
    have hb : n ≤ c := Nat.le_of_not_lt fun y => nI_ge (a := c) (b := n) y hn h.2
    have hpi := @xpi_lt (w 5)
    generalize hi : (if (w 0).1 2 = 0 then 0 else 1) = i at a3
    have hi2 : i < 2 := by
      rw [← hi]
      split <;> omega
    have hok := @sp_all_ok
    obtain ⟨w1, e1, k1, k2, k3, k4, k5, k6, k7, k8⟩ := @kd_109 w l t sc (d + 30) n i ((w 3).2 8) c ((w 3).2 1) ((w 3).1 9) ((w 3).1 10) ((w 3).1 12) c0 hb c8 hi2 hi (Ne.symm a3) (fun j hj => cb j (by omega))
    have g3 : w1 3 = w 3 := k1 3 (by omega) (by omega) (by omega) (by omega)
    obtain ⟨w2, e2, x1, x2, x3, x4, x5, x6, x7, x8, x9⟩ := @zc_287 w1 (lo l (if (sp_all ((w 3).2 8) n (sp_scan ((w 3).2 8) n (0, (w 3).1 9, (w 3).1 10, 0, (w 3).1 12), (w 3).2 1)).1.2.2.2.1 = 0 then (sp_all ((w 3).2 8) n (sp_scan ((w 3).2 8) n (0, (w 3).1 9, (w 3).1 10, 0, (w 3).1 12), (w 3).2 1)).2 2 else (-10) - (sp_all ((w 3).2 8) n (sp_scan ((w 3).2 8) n (0, (w 3).1 9, (w 3).1 10, 0, (w 3).1 12), (w 3).2 1)).1.2.2.2.1)) t sc (d + 32) n c (by rw [g3]; exact c3) hb c8
    rw [g3] at e2 x6 x8 x9
    have hok := @sp_all_ok n (sp_scan ((w 3).2 8) n (0, (w 3).1 9, (w 3).1 10, 0, (w 3).1 12)) ((w 3).2 1) ((w 3).2 8) (sp_tw_scan (Nat.zero_le n))
    generalize sp_all ((w 3).2 8) n (sp_scan ((w 3).2 8) n (0, (w 3).1 9, (w 3).1 10, 0, (w 3).1 12), (w 3).2 1) = A at e1 e2 k4 k7 k8 x6 x8 x9 hok
    refine ⟨w1, _, t, w2, _, 0, _, kh_299 e1, e2, x4, fun _ => lo_0, ?_, Nat.le_succ t⟩
    have z0 : w2 0 = w1 0 := x1 0 (by omega)
    have I5 : kIv5 w2 := by
      unfold kIv5
      rw [z0, k4, x6]
    have I4 : kIv4 w2 := ⟨0, by omega, by rw [z0]; exact k3, x5, fun i hi => absurd hi (Nat.not_lt_zero i)⟩
    have I6 : kIv6 w2 := kIv6_cg (by rw [z0]; exact k5) (by rw [z0, k2]) ((x2 5 (by omega)).trans (by rw [g3])) ((x7 7 (by omega) (by omega)).trans (by rw [g3])) i6
    obtain ⟨N, m, b1, b2, b3, b4, b5, b6⟩ := i2
    by_cases hz : A.1.2.2.2.1 = 0
    · obtain ⟨o1, o2, o3⟩ := hok hz
      obtain ⟨p1, p2, p3, p4, p5⟩ := k7 hz
      obtain ⟨y1, y2, y3⟩ := x8 hz
      refine ⟨⟨x3, ?_, ?_⟩, ⟨0, m, by omega, b2, by rw [z0]; exact p1, y1, by rw [z0]; exact k6.trans b5, fun p hp => absurd hp (Nat.not_lt_zero p)⟩, Or.inl ⟨by rw [z0]; exact p2, y2⟩, I4, I5, I6⟩
      · exact kSt_ext y3 (kSt_cg (w := w1) (x1 5 (by omega)) (fun g h1 h2 => x1 g (by omega)) ⟨kRel_of o1 p5, o2, 0, by omega, o3⟩)
      · rw [z0, p3, x1 5 (by omega), p4]
        intro y
        apply a3
        rw [← y]
        rcases (show xpi (w 5) = 0 ∨ xpi (w 5) = 1 by omega) with z | z
        · rw [z]; rfl
        · rw [z]; rfl
    · obtain ⟨p1, p2, p3, p4⟩ := k8 hz
      obtain ⟨y1, y2, y3⟩ := x9 hz
      have wg : ∀ g, g = xpi (w 5) + 1 ∨ 7 ≤ g → w2 g = w g := fun g h => (x1 g (by omega)).trans (k1 g (by omega) (by omega) (by omega) (by omega))
      have w5 : w2 5 = w 5 := (x1 5 (by omega)).trans p4
      refine ⟨⟨x3, ?_, by rw [z0, p3, w5, hi]; exact a3⟩, ⟨N, m, b1, b2, by rw [z0, p1]; exact b3, y1.trans b4, by rw [z0]; exact k6.trans b5, fun p hp => ?_⟩, ?_, I4, I5, I6⟩
      · rw [y3]
        exact kSt_cgp w5 (wg _ (Or.inl rfl)) a2
      · obtain ⟨q1, q2⟩ := b6 p hp
        rw [x7 4 (by omega) (by omega), g3, w5, wg (8 + (m + 10 - N + p) % 10) (by omega)]
        refine ⟨kSt_cgp (wg _ (by omega)) (wg _ (Or.inl ?_)) q1, q2⟩
        rw [← q2, show 3 + (m + 10 - N + p) % 10 + 5 = 8 + (m + 10 - N + p) % 10 by omega]
      · rcases i3 with ⟨j1, j2⟩ | ⟨j1, j2, j3, j4⟩
        · exact Or.inl ⟨by rw [z0, p2]; exact j1, y2.trans j2⟩
        · refine Or.inr ⟨by rw [z0, p2]; exact j1, y2.trans j2, ?_, by rw [w5, wg 7 (by omega)]; exact j4⟩
          rw [x7 3 (by omega) (by omega), g3]
          exact kSt_cgp (wg _ (by omega)) (wg _ (Or.inl (by rw [← j4]))) j3
  · exact ⟨w, l, t + 1, xT w 1, l, 1, 0, kh_299_1 (@kd_109_x w l t sc (d + 30) c x c0 h), @zc_287_x w l (t + 1) sc (d + 32) c x c3 h, xT_t, fun z => absurd z (by decide), kSm_inv kSm_T hI, Nat.le_refl _⟩
end TX
