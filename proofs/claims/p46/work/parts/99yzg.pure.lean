/-! THE LAW: what is owed of the pure machine -/
theorem sz_end {S : xm_PS} {a b : Nat} (hz : szB S a b) (t : S.2.1 = 0) (ha : a ≤ 400000) (hb : b ≤ 6500000) : xm_cn S ≤ 400000 ∧ xm_sn S ≤ 6500000 := by
  obtain ⟨z1, z2⟩ := hz
  refine ⟨?_, Nat.le_trans z2 hb⟩
  unfold xm_cn
  rw [t]
  exact Nat.le_trans z1 ha
theorem xe_pure_ok : xe_pure := by
  intro L xs hL
  obtain ⟨w9, ext2, n9, hs9, J9, S9, q1, q2, run⟩ := @lw_a (L, xs)
  obtain ⟨wt, extt, wn, extn, wp, extp, Lw, r, h6, et, es, en, ep, ea, eG, I, I0, hLw, hrS, hrD, hr4, ⟨hk1, hk5⟩, ⟨f, hc⟩, h6l, F⟩ := @lw_b (L, xs) w9 ext2 n9 fxD hs9 hL J9 S9
  have e1 := run et es en (cI.is wn) ep ea eG
  have hz0 : szB (xL w9 ext2) 192 4892 := ⟨q1, q2⟩
  have hz1 : szB (xL wp extp) 21293 1059942 := (hz0.oF F).mo (Nat.le_refl _) (Nat.le_refl _)
  have hg : oG (xL wp extp) h6 (fun p => aAll (hs9 p)) 0 := ⟨f, hc, fun p hp => absurd hp (Nat.not_lt_zero p)⟩
  obtain ⟨S', e2, hz2, t2⟩ := @lp_loop (L, xs) h6 (aAll r) r hL h6l rfl 38 0 wp extp Lw r 0 hs9 0 0 21293 1059942 .null .null .null .null .null rfl ⟨⟨I, by omega⟩, I0, hLw, ⟨hrS, hrD⟩, ⟨hr4, by omega⟩, ⟨by omega, hk5⟩, hg, hz1⟩
  obtain ⟨n, hn⟩ := xm_R_iff.1 (e1.trans e2)
  obtain ⟨z1, z2⟩ := sz_end hz2 t2 (by omega) (by omega)
  exact ⟨n, S', hn, z1, z2⟩
