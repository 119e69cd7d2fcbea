/-! THE LAW: equal answers of both sides -/
def kE (t : Nat) (oK : Option xm_O) (rf : xm_PS → Option xm_O) : Prop := ∃ w1 l1 t1 w2 l2 v, oK = some (.inl (some (.int v)), xem w1 l1 t1) ∧ rf (xem w1 l1 t1) = some (.inl (some (.int v)), xem w2 l2 t1) ∧ kInv w2 ∧ t1 ≤ t + 1
section SM
variable {w w1 w2 : xW} {l : Nat → Nat → Int64} {t : Nat} {sc : xm_Sc} {d : Nat} {r : Nat → Int32}
theorem kE_s {oK : Option xm_O} {rf : xm_PS → Option xm_O} {v : Int32} (hK : oK = some (.inl (some (.int v)), xem w1 l t)) (hr : rf (xem w1 l t) = some (.inl (some (.int v)), xem w2 l t)) (hI : kInv w2) : kE t oK rf := ⟨w1, l, t, w2, l, v, hK, hr, hI, Nat.le_succ t⟩
theorem ke_119 {x : Int32} (hI : kInv w) : kE t (xm_C sc xt_M (d + 40) 119 [.ref 0, .int x] (xem w l t)) (xm_C sc xt_M (d + 40) 222 [.ref 191, .int x]) := kE_s (@kd_119 w l t sc (d + 37) (xR w) x hI.R) (@zc_222 w l t sc (d + 38) x hI.R.W) (kSm_inv kSm_T hI)
theorem ke_127 (hI : kInv w) : kE t (xm_C sc xt_M (d + 40) 127 [.ref 0] (xem w l t)) (xm_C sc xt_M (d + 40) 234 [.ref 191]) := kE_s (@kd_127 w l t sc (d + 37) (xR w) hI.R) (@zc_234 w l t sc (d + 36) hI.R.W) (kSm_inv kSm_T hI)
theorem ke_128 (hI : kInv w) : kE t (xm_C sc xt_M (d + 40) 128 [.ref 0] (xem w l t)) (xm_C sc xt_M (d + 40) 235 [.ref 191]) := kE_s (@kd_128 w l t sc (d + 37) (xR w) hI.R) (@zc_235 w l t sc (d + 37) hI.R.W) (kSm_inv kSm_T hI)
theorem ke_129 (hI : kInv w) : kE t (xm_C sc xt_M (d + 40) 129 [.ref 0] (xem w l t)) (xm_C sc xt_M (d + 40) 236 [.ref 191]) := by
  have z := @zc_236 w l t sc (d + 35) (xR w) (xF w) (xJ w) hI.R.W
  rw [xMw_self] at z
  exact kE_s (@kd_129 w l t sc (d + 36) (xR w) (sp_far (xR w) (xF w)) hI.R (kFar_s hI.R.W.bd)) z (kSm_inv (kSm_M hI.1.1) hI)
theorem ke_130 (hI : kInv w) : kE t (xm_C sc xt_M (d + 40) 130 [.ref 0] (xem w l t)) (xm_C sc xt_M (d + 40) 238 [.ref 191]) := by
  obtain ⟨f, e⟩ := @kd_130 w l t sc (d + 34) (xR w) hI.R
  have hs : kSm w (xu w 0 (xs2 (w 0) 3 f)) := ⟨fun g h0 _ _ => xu_ne h0, fun i _ => by rw [xu_same, xs2_1], by rw [xu_same, xs2_ne (by omega)], by rw [xu_same, xs2_ne (by omega)], fun i _ => by rw [xu_ne (by omega)], fun a _ => by rw [xu_ne (by omega)], fun i _ => by rw [xu_ne (by omega)]⟩
  have hI1 := kSm_inv hs hI
  have eR : xR (xu w 0 (xs2 (w 0) 3 f)) = xR w := by
    unfold xR
    rw [xu_ne (by omega)]
  obtain ⟨f', e2⟩ := @zc_238 (xu w 0 (xs2 (w 0) 3 f)) l t sc (d + 34) (xR (xu w 0 (xs2 (w 0) 3 f))) (xF (xu w 0 (xs2 (w 0) 3 f))) (xJ (xu w 0 (xs2 (w 0) 3 f))) hI1.R.W
  rw [xMw_self, eR] at e2
  have h9 := @kSm_M (xu w 0 (xs2 (w 0) 3 f)) 0 f' (xJ (xu w 0 (xs2 (w 0) 3 f))) hI1.1.1
  rw [eR] at h9
  exact kE_s e e2 (kSm_inv h9 hI1)
theorem ke_110 (hI : kInv w) : kE t (xm_C sc xt_M (d + 40) 110 [.ref 0] (xem w l t)) (xm_C sc xt_M (d + 40) 265 [.ref 191]) := by
  refine kE_s (v := (w 3).1 13) (w1 := w) (l := l) (t := t) ?_ (@zc_265 w l t sc (d + 39)) (kSm_inv kSm_T hI)
  rw [yc_110, xgA_2, zbs, hI.2.2.2.2.1]
theorem ke_147 (hI : kInv w) : kE t (xm_C sc xt_M (d + 40) 147 [.ref 0] (xem w l t)) (xm_C sc xt_M (d + 40) 260 [.ref 191]) := by
  obtain ⟨n, m, _, _, b3, b4, _⟩ := hI.2.1
  have z := @zc_260 w l t sc (d + 39)
  rw [b4] at z
  exact kE_s (@kd_147 w l t sc (d + 39) n b3) z (kSm_inv kSm_T hI)
theorem ke_146 {x : Int32} (hI : kInv w) : kE t (xm_C sc xt_M (d + 40) 146 [.ref 0, .int x] (xem w l t)) (xm_C sc xt_M (d + 40) 257 [.ref 191, .int x]) := by
  obtain ⟨n, n1, n2, n3, n4⟩ := hI.2.2.2.2.2
  have z := @zc_257 w l t sc (d + 38) x n (by omega) n3
  have c := @kd_146 w l t sc (d + 39) n x n1 n2
  have hS := kSm_inv (@kSm_T w 0) hI
  by_cases h0 : x < 0
  · rw [if_pos h0] at c
    rw [if_neg (fun y => absurd y.1 (Int32.not_le.2 h0))] at z
    exact kE_s c z hS
  rw [if_neg h0] at c
  obtain ⟨k, hk, rfl⟩ := nI_of (x := x) h0
  have ek : nI k < nI n ↔ k < n := nI_ltI hk (by omega)
  by_cases h1 : k < n
  · rw [if_pos (ek.2 h1)] at c
    rw [if_pos (zrg' (by omega) h1)] at z
    rw [n4 (nI k).toNatClampNeg (by rw [nI_clamp (by omega)]; exact h1)] at c
    exact kE_s c z hS
  · rw [if_neg (fun y => h1 (ek.1 y))] at c
    rw [if_neg (fun y => ?_)] at z
    · exact kE_s c z hS
    · obtain ⟨j, hj, ej⟩ := zrg (by omega) y
      have := nI_inj hk (by omega) ej
      omega
end SM
