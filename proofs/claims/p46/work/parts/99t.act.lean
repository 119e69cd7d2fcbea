/-! THE LAW: act -/
theorem oAddQ {r : Nat → Int32} {k rd b : Int32} (hn : xnq r ≤ 40) : sp_queue (sp_addq r k rd b) k - 1 = sp_queue r k := by
  have e : ∀ i, i ≠ 3 → i < 176 + 3 * xnq r → sp_addq r k rd b i = r i := fun i h3 hi => by
    unfold sp_addq
    rw [upd_o h3, upd_o (by omega), upd_o (by omega), upd_o (by omega)]
  have e3 : sp_addq r k rd b 3 = nI (xnq r + 1) := by
    unfold sp_addq
    exact if_pos rfl
  have a0 : sp_addq r k rd b (176 + 3 * xnq r) = k := by
    unfold sp_addq
    rw [upd_o (by omega), upd_o (by omega), upd_o (by omega)]
    exact if_pos rfl
  have n3 : xnq (sp_addq r k rd b) = xnq r + 1 := by
    show (sp_addq r k rd b 3).toNatClampNeg = _
    rw [e3, nI_clamp (by omega)]
  unfold sp_queue
  rw [n3]
  show xsum (fun q => zB (sp_addq r k rd b (176 + 3 * q) = k)) (xnq r) + zB (sp_addq r k rd b (176 + 3 * xnq r) = k) - 1 = _
  rw [zB_tt a0, xsum_cg (g := fun q => zB (r (176 + 3 * q) = k)) (fun i hi => by rw [e _ (by omega) (by omega)]), Int32.sub_eq_add_neg, Int32.add_assoc, Int32.add_right_neg, Int32.add_zero]
section ACT
variable {w : xW} {ext : List xm_PC} {sc : xm_Sc} {d n c : Nat} {r : Nat → Int32} {hs : Nat → Nat → Int32} {sn : Option (Nat → Int32)} {L : Nat → Nat} {x v : Int32}
/-- so many ticks on the law's own picture -/
theorem at_101 (hI : cI w r n hs sn) (hc : r 4 = nI c) (hc2 : c < 9000) (h0 : oI (xL w ext) L r x) {u : xU} (hu1 : u.1 = r) (hu2 : u.2.2.2 = 0) {S1 : xm_PS} (hS1 : oM (xL w ext) S1 L L r 0 0 (xnk r)) {N : Nat} (hN : N ≤ 12) {i2 i3 i4 i5 i6 i7 i9 : Int32} {p8 : Nat} {v12 v13 v14 v15 : Value} :
    ∃ T L', oM (xL w ext) T L L' (sp_us u N).1 (sp_us u N).2.2.2 (N * (xnv r * (1 + 6 * xnk r) + xnk r)) (xnk r) ∧ xm_R sc xt_M (d + 5) 185 101 [.ref 0, .ref (L 0), .int i2, .int i3, .int i4, .int i5, .int i6, .int i7, .ref p8, .int i9, .int (nI N), .int 0, v12, v13, v14, v15] [] S1 = xm_R sc xt_M (d + 5) 185 101 [.ref 0, .ref (L 0), .int i2, .int i3, .int i4, .int i5, .int i6, .int i7, .ref p8, .int i9, .int (nI N), .int (nI N), v12, v13, v14, v15] [] T := by
  have hW := hI.W
  have hk20 := hW.bd.k20
  have hWu : xWF u.1 := by rw [hu1]; exact hW
  have hcu : u.1 4 = nI c := by rw [hu1]; exact hc
  have lp : ∀ m, m ≤ N → ∃ T L', oM (xL w ext) T L L' (sp_us u m).1 (sp_us u m).2.2.2 (m * (xnv r * (1 + 6 * xnk r) + xnk r)) (xnk r) ∧ xm_R sc xt_M (d + 5) 185 101 [.ref 0, .ref (L 0), .int i2, .int i3, .int i4, .int i5, .int i6, .int i7, .ref p8, .int i9, .int (nI N), .int 0, v12, v13, v14, v15] [] S1 = xm_R sc xt_M (d + 5) 185 101 [.ref 0, .ref (L 0), .int i2, .int i3, .int i4, .int i5, .int i6, .int i7, .ref p8, .int i9, .int (nI N), .int (nI m), v12, v13, v14, v15] [] T := by
    intro m
    induction m with
    | zero =>
      intro _
      refine ⟨S1, L, ?_, by rw [nI_0]⟩
      rw [Nat.zero_mul]
      show oM _ _ _ _ u.1 u.2.2.2 _ _
      rw [hu1, hu2]
      exact hS1
    | succ m ih =>
      intro hm
      obtain ⟨T, L', t1, t2⟩ := ih (by omega)
      obtain ⟨g1, g2, g3⟩ := @sp_us_ok u c hWu hcu m (by omega)
      have ht : xil ((sp_us u m).1 4 + 1) 20000 := by
        rw [g2, ← nI_succ]
        exact xil_nI (by omega) (by omega)
      have ek : xnk (sp_us u m).1 = xnk r := by unfold xnk; rw [g3 2 (by omega) (by omega) (by omega), hu1]
      have ev : xnv (sp_us u m).1 = xnv r := by unfold xnv; rw [g3 1 (by omega) (by omega) (by omega), hu1]
      obtain ⟨T', L2, e1, m2⟩ := @oc_171 T L' (sp_us u m).1 (sp_us u m).2.2.2 sc d (sp_us u m).2.2.1 (sp_us u m).2.1 g1 t1.1 ht
      rw [ek, ev] at m2
      have m3 := t1.tr hk20 m2
      have eb : m * (xnv r * (1 + 6 * xnk r) + xnk r) + (xnv r * (1 + 6 * xnk r) + xnk r) = (m + 1) * (xnv r * (1 + 6 * xnk r) + xnk r) := by rw [Nat.add_mul m 1, Nat.one_mul]
      rw [eb] at m3
      have l0 : L' 0 = L 0 := t1.2.2.1 0 (by omega) (by omega)
      rw [l0] at e1
      have is' := t1.1.is
      rw [l0] at is'
      refine ⟨T', L2, m3, ?_⟩
      rw [t2, yb_185_101, if_neg (nI_ge (by omega) (by omega)), if_pos is', e1, zbs, xk_v, ← nI_succ]
  exact lp N (Nat.le_refl _)
theorem act_run (hI : cI w r n hs sn) (hS : rS r) (hD : rD r) (hc : r 4 = nI c) (hc2 : c < 9000) (h0 : oI (xL w ext) L r x) (hL : ∀ a, 191 ≤ L a) (hk5 : xnk r ≤ 5) (hk1 : 0 < xnk r) (hw : oMo v 18 < 6) : aPost (xm_C sc xt_M (d + 8) 185 [.ref 0, .ref (L 0), .int v] (xL w ext)) w ext L r n hs sn c := by
  have hW := hI.W
  have hb6 := hW.bd.b6
  have hv4 := hW.bd.v4
  have hq40 := hW.bd.q40
  have hnb : 0 < xnb r := by have := hW.n.1; omega
  have hkk : oMo (v >>> (4 &&& 31)) (xnk r) < xnk r := oMo_lt hk1
  have hqq : oMo ((v >>> (4 &&& 31)) >>> (3 &&& 31)) 4 < 4 := oMo_lt (by omega)
  have hbb : oMo ((v >>> (4 &&& 31)) >>> (5 &&& 31)) (xnb r) < xnb r := oMo_lt hnb
  have is := cI.is (ext := ext) w
  have nw : ∀ y, (y = 3 ∨ y = 12) → ∀ {i9 : Int32} {p8 : Nat} {i2 i3 i5 i6 i7 : Int32} {v10 v11 v12 v13 v14 v15 : Value}, aPost (xm_R sc xt_M (d + 7) 185 87 [.ref 0, .ref (L 0), .int i2, .int i3, .int (v >>> (4 &&& 31)), .int i5, .int i6, .int i7, .ref p8, .int i9, v10, v11, v12, v13, v14, v15] [.int (nI y), .int (v >>> (4 &&& 31)), .int 1] (xL w ext)) w ext L r n hs sn c := by
    intro y hy i9 p8 i2 i3 i5 i6 i7 v10 v11 v12 v13 v14 v15
    have hy0 : 0 < y ∧ y ≤ 12 := by omega
    have hlt : oMo (v >>> (4 &&& 31)) y < y := oMo_lt hy0.1
    generalize hu : (((r, fun _ => -1, fun _ => 0, 0) : xU)) = u
    have u1 : u.1 = r := by rw [← hu]
    have u2 : u.2.2.2 = 0 := by rw [← hu]
    have eu : (u.1, u.2.1, u.2.2.1, (0 : Int32)) = u := by rw [← hu]
    have hWu : xWF u.1 := by rw [u1]; exact hW
    have hcu : u.1 4 = nI c := by rw [u1]; exact hc
    have m0 := h0.self hW.lt (r' := r) (x' := 0) (fun _ _ _ => rfl)
    have f8 := @oI.f8 (xL w ext) L r x h0 0
    generalize xm_set (xL w ext) (L 0) (.inr (8, oEf L r 0)) = S1 at *
    obtain ⟨T, L', t1, t2⟩ := @at_101 w ext sc (d + 2) n c r hs sn L x hI hc hc2 h0 u u1 u2 S1 m0 (1 + oMo (v >>> (4 &&& 31)) y) (by omega) i2 i3 (v >>> (4 &&& 31)) i5 i6 i7 i9 p8 v12 v13 v14 v15
    have hB : (1 + oMo (v >>> (4 &&& 31)) y) * (xnv r * (1 + 6 * xnk r) + xnk r) ≤ 1600 := by
      have hb : xnv r * (1 + 6 * xnk r) + xnk r ≤ 129 := by
        have : xnv r * (1 + 6 * xnk r) ≤ 4 * (1 + 6 * xnk r) := Nat.mul_le_mul_right _ hv4
        omega
      exact Nat.le_trans (Nat.mul_le_mul (show 1 + oMo (v >>> (4 &&& 31)) y ≤ 12 by omega) hb) (by decide)
    obtain ⟨ext1, e1, hI1, hL1, hF1, hE1⟩ := oM_to t1 hL
    obtain ⟨g1, g2, xx, g3, g4⟩ := @rS_us u c 0 hWu hcu (by rw [u2, nI_0]) (by rw [u1]; exact hS) (1 + oMo (v >>> (4 &&& 31)) y) (by omega)
    obtain ⟨q1, q2, q3⟩ := @sp_us_ok u c hWu hcu (1 + oMo (v >>> (4 &&& 31)) y) (by omega)
    have g1d := @rD_us u c hWu hcu (by rw [u1]; exact hD) (1 + oMo (v >>> (4 &&& 31)) y) (by omega)
    generalize hNN : 1 + oMo (v >>> (4 &&& 31)) y = N at *
    have hN12 : N ≤ 12 := by omega
    have eR : sp_run u (nI N) = (0, (sp_us u N).2.2.2, some (sp_us u N).1) := by
      unfold sp_run
      rw [if_pos ⟨nI_le (a := 1) (by omega) (by omega), nI_le (b := 99) (by omega) (by omega)⟩, if_pos (by rw [hcu, zA]; exact nI_le (b := 9999) (by omega) (by omega)), eu, nI_clamp (by omega)]
    have hIu : cI w u.1 n hs sn := by rw [u1]; exact hI
    have hO := @la_144 w ext1 sc d n hs sn u (nI N) hIu (by rw [eR])
    rw [eR, u1] at hO
    obtain ⟨w', e2, post⟩ := @aFin w ext ext1 sc (d + 7) n _ c r hs sn L L' (sp_us u N).2.2.2 144 [.ref 0, .int (nI N)] (sp_us u N).2.2.2 (some (sp_us u N).1) hI hS hD hc hO (fun r' e => by cases e; exact g1) (fun r' e => by cases e; exact g1d) (fun r' e => by cases e; exact ⟨c + N, by omega, q2⟩) hI1 hL1 hF1 hB hE1
    refine ⟨_, w', ext1, L', _, ?_, post⟩
    have g8 := (hI1.cls (w' := w') hL1).g8
    rw [hE1 0 (by omega) (by omega)] at g8
    rw [yb_185_87, oc_177 hy0.1 (by omega), zbs, xk_I, f8, zbs, show (1 : Int32) + nI (oMo (v >>> (4 &&& 31)) y) = nI N by rw [← hNN, ← zA, o1I], t2, e1, yb_185_101, if_pos (nI_le (Nat.le_refl _) (by omega)), if_pos (cI.is w), e2, zbs, xk_I, g8, zbs, if_pos rfl, yb_185_136]
    rfl
  rw [yc_185, oc_177y (y := 18) (k := 18) (by decide +kernel) (by decide) (by decide), zbs, xk_I, h0.g4, zbs, h0.books.len (by decide), zbs, oc_177 hk1 (by omega), zbs, xk_I, oc_177y (y := 4) (k := 4) (by decide +kernel) (by decide) (by decide), zbs, xk_I, h0.g0, zbs, h0.op.len (by decide), zbs, oc_177 hnb (by omega), zbs, xk_I, h0.g4, zbs, h0.books.at hkk (by omega), zbs, if_pos h0.is, oc_162 hW h0, zbs, xk_I, if_neg (show ¬ (6 : Int32) ≤ nI (oMo v 18) from nI_ge (b := 6) hw (by omega))]
  by_cases h4 : 4 ≤ oMo v 18
  · rw [if_pos (show (4 : Int32) ≤ nI (oMo v 18) from nI_le (a := 4) h4 (by omega))]
    exact nw 12 (Or.inr rfl)
  · rw [if_neg (show ¬ (4 : Int32) ≤ nI (oMo v 18) from nI_ge (b := 4) (by omega) (by omega))]
    exact nw 3 (Or.inl rfl)
end ACT
