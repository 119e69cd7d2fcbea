/-! THE LAW: feed, shares -/
section FE
variable {w : xW} {l : Nat → Nat → Int64} {t : Nat} {sc : xm_Sc} {d : Nat} {r : Nat → Int32}
theorem xil_255 {y : Int32} : xil (y &&& 255) 256 := by
  have e : y &&& 255 = nI (y.toBitVec.toNat % 256) := by
    apply Int32.toBitVec_inj.1
    apply BitVec.eq_of_toNat_eq
    rw [Int32.toBitVec_and, BitVec.toNat_and]
    show y.toBitVec.toNat &&& (2 ^ 8 - 1) = (y.toBitVec.toNat % 256) % 2 ^ 32
    rw [Nat.and_two_pow_sub_one_eq_mod]
    omega
  rw [e]
  exact xil_nI (by omega) (by omega)
theorem ke_107 {a b c e f : Int32} (hI : kInv w) : kE t (xm_C sc xt_M (d + 40) 107 [.ref 0, .int a, .int b, .int c, .int e, .int f] (xem w l t)) (xm_C sc xt_M (d + 40) 264 [.ref 191, .int a, .int b, .int c, .int e, .int f]) := by
  obtain ⟨⟨a1, a2, a3⟩, i2, i3, ⟨n, n1, n2, n3, n4⟩, i5, i6⟩ := id hI
  by_cases h20 : n + 20 ≤ 800
  · obtain ⟨F, e1, hF⟩ := @kd_107 w l t sc (d + 38) a b c e f n h20 n2
    have g3 : kBw w (n + 20, F) 3 = w 3 := xu_ne (by omega)
    obtain ⟨G, e2, hG⟩ := @zc_264 (kBw w (n + 20, F)) l t sc (d + 39) a b c e f n h20 (by rw [g3]; exact n3)
    refine kE_s e1 e2 ?_
    rw [g3] at hG
    have wg : ∀ g, g ≠ 0 → g ≠ 3 → xBw (xT (kBw w (n + 20, F)) 0) (n + 20, G) g = w g := fun g h0 h3 => ((xu_ne h3).trans (xu_ne h3)).trans (xu_ne h0)
    have w0 : xBw (xT (kBw w (n + 20, F)) 0) (n + 20, G) 0 = kBg (w 0) (n + 20, F) := ((xu_ne (by omega)).trans (xu_ne (by omega))).trans xu_same
    have z1 : ∀ i, i ≠ 0 → (xBw (xT (kBw w (n + 20, F)) 0) (n + 20, G) 0).1 i = (w 0).1 i := fun i h => by
      rw [w0]
      exact if_neg h
    have z2 : (xBw (xT (kBw w (n + 20, F)) 0) (n + 20, G) 0).2 2 = (w 0).2 2 := by
      rw [w0]
      rfl
    have w3 : ∀ i, i ≠ 2 → i ≠ 6 → (xBw (xT (kBw w (n + 20, F)) 0) (n + 20, G) 3).1 i = (w 3).1 i := fun i h2 h6 => by
      unfold xBw
      rw [xu_same]
      show upd (xT (kBw w (n + 20, F)) 0 3).1 6 _ i = _
      rw [show upd (xT (kBw w (n + 20, F)) 0 3).1 6 (nI (n + 20)) i = (xT (kBw w (n + 20, F)) 0 3).1 i from if_neg h6, xTl_1 h2, g3]
    have w32 : ∀ a, a ≠ 8 → (xBw (xT (kBw w (n + 20, F)) 0) (n + 20, G) 3).2 a = (w 3).2 a := fun a h => by
      unfold xBw
      rw [xu_same]
      show (if a = 8 then G else (xT (kBw w (n + 20, F)) 0 3).2 a) = _
      rw [if_neg h, xTl_2, g3]
    refine ⟨⟨(w3 0 (by omega) (by omega)).trans a1, ?_, by rw [wg 5 (by omega) (by omega), z1 2 (by omega)]; exact a3⟩, ?_, ?_, ⟨n + 20, h20, ?_, ?_, fun i hi => ?_⟩, ?_, ?_⟩
    · rw [w32 0 (by omega)]
      exact kSt_cg (wg 5 (by omega) (by omega)) (fun g h1 h2 => wg g (by omega) (by omega)) a2
    · exact kIv2_cg (fun g h => wg g (by omega) (by omega)) ⟨z1 13 (by omega), z1 14 (by omega)⟩ (w3 1 (by omega) (by omega)) (w32 4 (by omega)) (by rw [wg 5 (by omega) (by omega)]) i2
    · exact kIv3_cg (fun g h => wg g (by omega) (by omega)) (z1 3 (by omega)) (w3 3 (by omega) (by omega)) (w32 3 (by omega)) (by rw [wg 5 (by omega) (by omega)]) i3
    · rw [w0]
      rfl
    · exact xBw_c
    · have q1 : (xBw (xT (kBw w (n + 20, F)) 0) (n + 20, G) 0).2 0 i = F i := by
        rw [w0]
        rfl
      have q2 : (xBw (xT (kBw w (n + 20, F)) 0) (n + 20, G) 3).2 8 i = G i := by
        unfold xBw
        rw [xu_same]
        rfl
      rw [q1, q2, hF, hG]
      unfold sp_fd
      by_cases h : n ≤ i ∧ i < n + 20
      · rw [if_pos h, if_pos h]
        exact ⟨kby_and.symm, xil_255⟩
      · rw [if_neg h, if_neg h]
        exact n4 i (by omega)
    · exact kIv5_cg (z1 1 (by omega)) (w3 13 (by omega) (by omega)) i5
    · exact kIv6_cg (z1 12 (by omega)) z2 (w3 5 (by omega) (by omega)) (w32 7 (by omega)) i6
  · exact kE_s (@kd_107_1 w l t sc (d + 38) a b c e f n n1 h20 n2) (@zc_264_1 w l t sc (d + 39) a b c e f n n1 h20 n3) (kSm_inv kSm_T hI)
theorem ke_132 (hI : kInv w) : ∃ v w2, xm_C sc xt_M (d + 40) 132 [.ref 0] (xem w l t) = some (.inl (some (.double v)), xem w l t) ∧ xm_C sc xt_M (d + 40) 239 [.ref 191] (xem w l t) = some (.inl (some (.double v)), xem w2 l t) ∧ kInv w2 := ⟨_, _, @kd_132 w l t sc (d + 37) (xR w) hI.R hI.m, @zc_239 w l t sc (d + 37) hI.R.W hI.m, kSm_inv kSm_T hI⟩
set_option maxRecDepth 100000 in
theorem k_fpw : ∀ a, a < 21 → ∀ b, b < 21 → 0 < b → (FP.f2d (FP.fdiv (FP.i2f (nI a)) (FP.i2f (nI b)))) &&& 0x7fffffffffffffff ≤ 0x7ff0000000000000 := by decide +kernel
theorem k_fp0 : (FP.f2d FP.fconst0) &&& 0x7fffffffffffffff ≤ 0x7ff0000000000000 := by decide +kernel
theorem k_lost {r : Nat → Int32} (hW : xWF r) : (FP.f2d (sp_lost r)) &&& 0x7fffffffffffffff ≤ 0x7ff0000000000000 := by
  have hB := hW.bd
  have hk20 := hB.k20
  unfold sp_lost
  by_cases h : r 2 = 0
  · rw [if_pos h]
    exact k_fp0
  · rw [if_neg h]
    obtain ⟨a, ha, ea⟩ := @k_inState r 4
    rw [ea, hB.k]
    refine k_fpw a (by omega) (xnk r) (by omega) (Nat.pos_of_ne_zero fun z => h ?_)
    rw [hB.k, z]
    rfl
theorem ke_133 (hI : kInv w) : ∃ v w2, xm_C sc xt_M (d + 40) 133 [.ref 0] (xem w l t) = some (.inl (some (.float v)), xem w l t) ∧ xm_C sc xt_M (d + 40) 240 [.ref 191] (xem w l t) = some (.inl (some (.float v)), xem w2 l t) ∧ kInv w2 ∧ (FP.f2d v) &&& 0x7fffffffffffffff ≤ 0x7ff0000000000000 := ⟨_, _, @kd_133 w l t sc (d + 37) (xR w) hI.R, @zc_240 w l t sc (d + 37) hI.R.W, kSm_inv kSm_T hI, k_lost hI.R.W⟩
end FE
