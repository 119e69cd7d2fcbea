/-! THE CLASS reads: the vans, the books -/
section KV3
variable {w : xW} {l : Nat → Nat → Int64} {t : Nat} {sc : xm_Sc} {d n i : Nat} {f : Nat → Int32} {T T' : xTk} {v : Int32} {p : xG} {r r' : Nat → Int32}
theorem sp_check_1 {T : xTk} {c : Int32} : sp_check T 1 c = T := if_neg (by decide)
theorem sp_check_0 {T : xTk} {c : Int32} : sp_check T 0 c = sp_flaw T c := if_pos rfl
theorem sp_vn3_w (h : sp_wrd f T 2) (h4 : xnv r < 4) : sp_vn3 f n T r = sp_adv f n T := by
  have e1 : sp_vn1 f T = T := by
    rw [sp_vn1_u]
    rw [zB_tt h, sp_check_1]
  rw [sp_vn3_u, sp_vn2_u]
  rw [e1, if_neg (fun z => by omega), sp_check_1]
theorem sp_van_4 (h : sp_wrd f T 2) (h4 : 4 ≤ xnv r) : sq_van f n (T, r) = (sp_flaw T 3, r) := by
  have e1 : sp_vn1 f T = T := by
    rw [sp_vn1_u]
    rw [zB_tt h, sp_check_1]
  have e2 : sp_vn2 f T r = sp_flaw T 3 := by
    rw [sp_vn2_u]
    rw [e1, if_pos ⟨h.1.1, h4⟩, sp_check_0]
  have ne := @sp_flaw_err T 3 (by decide)
  have e4 : sp_vn4 f n T r = sp_flaw T 3 := by
    rw [sp_vn4_u, sp_vn3_u]
    rw [e2, sp_adv_e ne, sp_rnT_e ne]
  rw [sq_van_u]
  dsimp only
  rw [e4, if_neg ne]
theorem sp_van_n (h : ¬ sp_wrd f T 2) : sq_van f n (T, r) = (sp_flaw T 1, r) := by
  have ne := @sp_flaw_err T 1 (by decide)
  have e1 : sp_vn1 f T = sp_flaw T 1 := by
    rw [sp_vn1_u]
    rw [zB_ff h, sp_check_0]
  have e2 : sp_vn2 f T r = sp_flaw T 1 := by
    rw [sp_vn2_u]
    rw [e1, sp_check_e ne]
  have e4 : sp_vn4 f n T r = sp_flaw T 1 := by
    rw [sp_vn4_u, sp_vn3_u]
    rw [e2, sp_adv_e ne, sp_rnT_e ne]
  rw [sq_van_u]
  dsimp only
  rw [e4, if_neg ne]
theorem sp_wrd_e {k : Nat} (h : ¬ T.2.2.2.1 = 0) : ¬ sp_wrd f T k := fun z => h z.1.1
theorem sp_vans_e {k : Nat} (h : ¬ T.2.2.2.1 = 0) : sp_vans f n k (T, r) = (T, r) := by
  cases k with
  | zero => exact sp_vans_0
  | succ k => rw [sp_vans_s, if_neg (show ¬ sp_wrd f (T, r).1 2 from sp_wrd_e h)]
theorem sp_rte_e (h : ¬ T.2.2.2.1 = 0) : sp_rte f n (T, r) = (T, r) := by
  rw [sp_rte_u, sp_vn9_u]
  dsimp only
  rw [sp_check_e h, sp_exp2_e h]
/-- one van in lock-step -/
theorem kR_van (hi : i < 2) (hB : kBy w f n) (h : kLk f n T T' v p r r') (hw : sp_wrd f T 2) (h4 : xnv r' < 4) {j : Int32} :
    ∃ T'' v'' p' r'', xm_R sc xt_M (d + 6) 5 16 [.ref 21, .ref (xp i), .int (nI (xnv r'))] [] (xem (kTw (xu w (i + 1) p) T' v) l t) = xm_R sc xt_M (d + 6) 5 16 [.ref 21, .ref (xp i), .int (nI (xnv r' + 1))] [] (xem (kTw (xu w (i + 1) p') T'' v'') l t) ∧ kLk f n (sq_van f n (T, r)).1 T'' v'' p' (sq_van f n (T, r)).2 r'' ∧ xnv r'' = xnv r' + 1 ∧ xnk r'' = xnk r' := by
  obtain ⟨hT, hR, hP, hS, hr⟩ := h
  have hBd := hS.1
  have hk20 := hBd.k20
  have hB' : kBy (xu w (i + 1) p) f n := kBy_xu (by omega) hB
  have er := hr hw.1.1
  have c94 := @kR_word (xu w (i + 1) p) l t sc (d + 1) n f T T' v 2 2 hB' (by decide) rfl hT hR
  obtain ⟨T1, v1, c86, hR1⟩ := @kR_adv (xu w (i + 1) p) l t sc (d + 3) n f hB' T T' v hT hR
  have hT1 : sp_tw f n (sp_adv f n T) := sp_tw_adv hT
  obtain ⟨T2, v2, c99, hR2⟩ := @kR_passNumber (xu w (i + 1) p) l t sc (d + 2) n f (sp_adv f n T) T1 v1 1 9 hB' (by decide) hT1 hR1
  rw [← @sp_rnV_eq n f (sp_adv f n T) 1 9] at c99
  have hT2 : sp_tw f n (sp_rnT f n (sp_adv f n T) 1 9) := sp_tw_rn hT1
  have rg := @sp_rnV_rng f n (sp_adv f n T) 1 9 (by decide)
  have xg : xil (sp_rnV f n (sp_adv f n T) 1 9) 10 := zrg2 (m := 10) (by omega) ⟨Int32.le_trans (by decide) rg.1, Int32.le_trans rg.2 (by decide)⟩
  have x0 : ¬ sp_rnV f n (sp_adv f n T) 1 9 = 0 := fun z => by
    rw [z] at rg
    exact absurd rg.1 (by decide)
  have e3 : sp_vn3 f n T r = sp_adv f n T := sp_vn3_w hw (by rw [← er]; exact h4)
  have e4 : sp_rnT f n (sp_adv f n T) 1 9 = sp_vn4 f n T r := by rw [sp_vn4_u]; rw [e3]
  have e5 : sp_addV r (xnv r) (sp_rnV f n (sp_adv f n T) 1 9) = sp_vn5 f n T r := by rw [sp_vn5_u]; rw [e3]
  rw [e4] at hR2 hT2
  generalize hx : sp_rnV f n (sp_adv f n T) 1 9 = x at *
  have hst : ∀ u, u < xnv r' → xst r' u < 9 := fun u hu => (hS.2.2.1 u hu).2.2.1.2
  have c18 := @kl_18 w l t sc (d + 5) i T2 v2 p (xnv r') x hi (hP.1.2.1.trans hBd.v) h4
  obtain ⟨s1, s2, s3, s4, s5, s6⟩ := kSn_V hS rfl h4 xg x0
  have hL : kLk f n (sp_vn4 f n T r) T2 v2 (kP18 p (xnv r') x) (sp_vn5 f n T r) (sp_addV r' (xnv r') x) := by
    refine ⟨hT2, hR2, ?_, s1, fun _ => by rw [er]; exact e5⟩
    exact kPl_18 hP hBd.v h4 hk20 hst (hS.2.2.2.1 (xnv r') (Nat.le_refl _) h4).1
  obtain ⟨T3, v3, p3, r3, c6, g3, n3, k3⟩ := @kR_route w l t sc d n i f (sp_vn4 f n T r) T2 v2 (kP18 p (xnv r') x) (sp_vn5 f n T r) (sp_addV r' (xnv r') x) hi hB hL (by omega) (fun _ => by rw [← e5, ← er, s2, Nat.add_sub_cancel]; exact s3)
  refine ⟨T3, v3, p3, r3, ?_, ?_, n3.trans s2, k3.trans s5⟩
  · rw [yb_5_16, if_neg (show ¬ (4 : Int32) ≤ nI (xnv r') from nI_ge (a := xnv r') (b := 4) h4 (by omega)), if_pos xiT, c94, zbs, xk_I, zB_tt hw, if_neg (show ¬ (1 : Int32) = 0 by decide), if_pos xiT, c86, zbs, xk_v, if_pos xiT, c99, zbs, xk_I, if_pos (xiP hi), c18, zbs, xk_v, c6, zbs, xk_v, zS]
  · have es : sp_stops f n 7 (sq_stop f n (sq_stop f n (sp_vn4 f n T r, sp_vn5 f n T r))) = sp_vn8 f n T r := sp_vn8_u.symm
    rw [sq_van_u]
    dsimp only
    by_cases z : (sp_vn4 f n T r).2.2.2.1 = 0
    · rw [if_pos z, ← es]
      exact g3
    · rw [if_neg z]
      rw [sp_stop_e z, sp_stop_e z, sp_stops_e z, sp_rte_e z] at g3
      exact kLk_r z g3
theorem kR_vloop (hi : i < 2) (hB : kBy w f n) : ∀ k (T T' : xTk) (v : Int32) (p : xG) (r r' : Nat → Int32), xnv r' + k = 4 → kLk f n T T' v p r r' →
    ∃ T'' v'' p' r'', xm_R sc xt_M (d + 6) 5 16 [.ref 21, .ref (xp i), .int (nI (xnv r'))] [] (xem (kTw (xu w (i + 1) p) T' v) l t) = some (.inl none, xem (kTw (xu w (i + 1) p') T'' v'') l t) ∧ kLk f n (sp_vans f n (k + 1) (T, r)).1 T'' v'' p' (sp_vans f n (k + 1) (T, r)).2 r'' ∧ xnk r'' = xnk r' := by
  intro k
  induction k with
  | zero =>
    intro T T' v p r r' hk h
    have hB' : kBy (xu w (i + 1) p) f n := kBy_xu (by omega) hB
    have c94 := @kR_word (xu w (i + 1) p) l t sc (d + 1) n f T T' v 2 2 hB' (by decide) rfl h.1 h.2.1
    rw [sp_vans_s, yb_5_16, if_pos (show (4 : Int32) ≤ nI (xnv r') from nI_le (a := 4) (by omega) (by omega)), yb_5_56, if_pos xiT, c94, zbs, xk_I]
    by_cases hw : sp_wrd f T 2
    · obtain ⟨T3, c85, hR3⟩ := @kR_flaw (xu w (i + 1) p) l t sc (d + 4) f T T' v 3 (by decide) h.2.1
      have er := h.2.2.2.2 hw.1.1
      rw [zB_tt hw, if_neg (show ¬ (1 : Int32) = 0 by decide), if_pos xiT, c85, zbs, xk_v, yb_5_70, if_pos (show sp_wrd f (T, r).1 2 from hw), sp_vans_0, sp_van_4 hw (by rw [← er]; omega)]
      refine ⟨T3, v, p, r', rfl, ⟨?_, hR3, h.2.2.1, h.2.2.2.1, fun z => absurd z (sp_flaw_err (by decide))⟩, rfl⟩
      have := @sp_tw_check f n T 0 3 h.1
      rw [sp_check_0] at this
      exact this
    · rw [zB_ff hw, if_pos rfl, yb_5_70, if_neg (show ¬ sp_wrd f (T, r).1 2 from hw)]
      exact ⟨T', v, p, r', rfl, h, rfl⟩
  | succ k ih =>
    intro T T' v p r r' hk h
    by_cases hw : sp_wrd f T 2
    · obtain ⟨T1, v1, p1, r1, e1, g1, n1, k1⟩ := @kR_van w l t sc d n i f T T' v p r r' hi hB h hw (by omega) 0
      obtain ⟨T2, v2, p2, r2, e2, g2, k2⟩ := ih (sq_van f n (T, r)).1 T1 v1 p1 (sq_van f n (T, r)).2 r1 (by omega) g1
      rw [xLe (sq_van f n (T, r))] at g2
      rw [sp_vans_s, if_pos (show sp_wrd f (T, r).1 2 from hw)]
      rw [n1] at e2
      exact ⟨T2, v2, p2, r2, e1.trans e2, g2, k2.trans k1⟩
    · have hB' : kBy (xu w (i + 1) p) f n := kBy_xu (by omega) hB
      have c94 := @kR_word (xu w (i + 1) p) l t sc (d + 1) n f T T' v 2 2 hB' (by decide) rfl h.1 h.2.1
      rw [zB_ff hw] at c94
      rw [sp_vans_s, yb_5_16, if_neg (show ¬ (4 : Int32) ≤ nI (xnv r') from nI_ge (a := xnv r') (b := 4) (by omega) (by omega)), if_pos xiT, c94, zbs, xk_I, if_pos rfl, yb_5_56, if_pos xiT, c94, zbs, xk_I, if_pos rfl, yb_5_70, if_neg (show ¬ sp_wrd f (T, r).1 2 from hw)]
      exact ⟨T', v, p, r', rfl, h, rfl⟩
theorem kR_vans (hi : i < 2) (hB : kBy w f n) (h : kLk f n T T' v p r r') (h0 : xnv r' = 0) :
    ∃ T'' v'' p' r'', xm_C sc xt_M (d + 7) 5 [.ref 21, .ref (xp i)] (xem (kTw (xu w (i + 1) p) T' v) l t) = some (.inl none, xem (kTw (xu w (i + 1) p') T'' v'') l t) ∧ kLk f n (sp_vans f n 4 (sq_van f n (T, r))).1 T'' v'' p' (sp_vans f n 4 (sq_van f n (T, r))).2 r'' ∧ xnk r'' = xnk r' := by
  have hB' : kBy (xu w (i + 1) p) f n := kBy_xu (by omega) hB
  have c94 := @kR_word (xu w (i + 1) p) l t sc (d + 1) n f T T' v 2 2 hB' (by decide) rfl h.1 h.2.1
  rw [yc_5, if_pos xiT, c94, zbs, xk_I]
  by_cases hw : sp_wrd f T 2
  · obtain ⟨T2, v2, p2, r2, e2, g2, k2⟩ := @kR_vloop w l t sc d n i f hi hB 4 T T' v p r r' (by omega) h
    rw [sp_vans_s, if_pos (show sp_wrd f (T, r).1 2 from hw)] at g2
    rw [h0, show nI 0 = (0 : Int32) from rfl] at e2
    rw [zB_tt hw, if_neg (show ¬ (1 : Int32) = 0 by decide), yb_5_14]
    exact ⟨T2, v2, p2, r2, e2, g2, k2⟩
  · obtain ⟨T3, c85, hR3⟩ := @kR_flaw (xu w (i + 1) p) l t sc (d + 4) f T T' v 1 (by decide) h.2.1
    have hT3 : sp_tw f n (sp_flaw T 1) := by
      have := @sp_tw_check f n T 0 1 h.1
      rw [sp_check_0] at this
      exact this
    have ne := @sp_flaw_err T 1 (by decide)
    obtain ⟨T2, v2, p2, r2, e2, g2, k2⟩ := @kR_vloop w l t sc d n i f hi hB 4 (sp_flaw T 1) T3 v p r r' (by omega) ⟨hT3, hR3, h.2.2.1, h.2.2.2.1, fun z => absurd z ne⟩
    rw [sp_vans_e ne] at g2
    rw [h0, show nI 0 = (0 : Int32) from rfl] at e2
    rw [zB_ff hw, if_pos rfl, if_pos xiT, c85, zbs, xk_v, yb_5_14, sp_van_n hw, sp_vans_e ne]
    exact ⟨T2, v2, p2, r2, e2, g2, k2⟩
theorem sp_bk0_w (h : xnk r < 20) : sp_bk0 T r = T := by
  rw [sp_bk0_u]
  rw [if_neg (by omega), sp_check_1]
theorem sp_book1_20 (h : 20 ≤ xnk r) : sp_book1 f n (T, r) = (sp_flaw T 3, r) := by
  have ne := @sp_flaw_err T 3 (by decide)
  have e0 : sp_bk0 T r = sp_flaw T 3 := by
    rw [sp_bk0_u]
    rw [if_pos h, sp_check_0]
  have e2 : sp_bk2 f n T r = sp_flaw T 3 := by
    rw [sp_bk2_u, sp_bk1_u]
    rw [e0, sp_adv_e ne, sp_rnT_e ne]
  rw [sp_book1_u, sp_bkr_u]
  dsimp only
  rw [e2, sp_exp2_e ne, if_neg ne]
theorem kR_book (hi : i < 2) (hB : kBy w f n) (h : kLk f n T T' v p r r') (hw : sp_wrd f T 3) (h20 : xnk r' < 20) :
    ∃ T'' v'' p' r'', xm_R sc xt_M (d + 5) 8 2 [.ref 21, .ref (xp i), .int (nI (xnk r'))] [] (xem (kTw (xu w (i + 1) p) T' v) l t) = xm_R sc xt_M (d + 5) 8 2 [.ref 21, .ref (xp i), .int (nI (xnk r' + 1))] [] (xem (kTw (xu w (i + 1) p') T'' v'') l t) ∧ kLk f n (sp_book1 f n (T, r)).1 T'' v'' p' (sp_book1 f n (T, r)).2 r'' ∧ xnk r'' = xnk r' + 1 := by
  obtain ⟨hT, hR, hP, hS, hr⟩ := h
  have hBd := hS.1
  have hb6 := hBd.b6
  have hb2 := hS.2.1.1
  have hB' : kBy (xu w (i + 1) p) f n := kBy_xu (by omega) hB
  have er := hr hw.1.1
  have c94 := @kR_word (xu w (i + 1) p) l t sc d n f T T' v 3 3 hB' (by decide) rfl hT hR
  obtain ⟨T1, v1, c86, hR1⟩ := @kR_adv (xu w (i + 1) p) l t sc (d + 2) n f hB' T T' v hT hR
  have hT1 : sp_tw f n (sp_adv f n T) := sp_tw_adv hT
  obtain ⟨T2, v2, c99, hR2⟩ := @kR_passNumber (xu w (i + 1) p) l t sc (d + 1) n f (sp_adv f n T) T1 v1 0 (r' 0 - 1) hB' (by
    rw [hBd.b, show xnb r' = (xnb r' - 1) + 1 by omega, nI_pred]
    exact nI_lt (b := 1000000) (by omega) (by omega)) hT1 hR1
  rw [← @sp_rnV_eq n f (sp_adv f n T) 0 (r' 0 - 1)] at c99
  have hT2 : sp_tw f n (sp_rnT f n (sp_adv f n T) 0 (r' 0 - 1)) := sp_tw_rn hT1
  have h01 : 0 ≤ r' 0 - 1 := by
    rw [hBd.b, show xnb r' = (xnb r' - 1) + 1 by omega, nI_pred]
    exact nI_pos' (by omega)
  have rg := @sp_rnV_rng f n (sp_adv f n T) 0 (r' 0 - 1) h01
  have xg : xil (sp_rnV f n (sp_adv f n T) 0 (r' 0 - 1)) (xnb r') := by
    rw [hBd.b] at rg ⊢
    exact zrg2 (by omega) rg
  have e1 : sp_bk1 f n T r = sp_adv f n T := by rw [sp_bk1_u]; rw [sp_bk0_w (by rw [← er]; exact h20)]
  have e2 : sp_bk2 f n T r = sp_rnT f n (sp_adv f n T) 0 (r' 0 - 1) := by rw [sp_bk2_u]; rw [e1, er]
  have c20 := @kl_20 w l t sc (d + 4) i T2 v2 p (xnk r') (sp_rnV f n (sp_adv f n T) 0 (r' 0 - 1)) hi (hP.1.2.2.trans hBd.k) h20
  have hB2 : ∀ q : xG, kBy (xu w (i + 1) q) f n := fun q => kBy_xu (by omega) hB
  obtain ⟨T3, v3, c96, hR3⟩ := @kR_passSign (xu w (i + 1) (kP20 p (xnk r') (sp_rnV f n (sp_adv f n T) 0 (r' 0 - 1)))) l t sc (d + 1) n f (sp_rnT f n (sp_adv f n T) 0 (r' 0 - 1)) T2 v2 (hB2 _) hT2 hR2
  obtain ⟨s1, s2, s3, s4, s5⟩ := kSn_B hS rfl h20 xg
  refine ⟨T3, v3, kP20 p (xnk r') (sp_rnV f n (sp_adv f n T) 0 (r' 0 - 1)), sp_addB r' (xnk r') (sp_rnV f n (sp_adv f n T) 0 (r' 0 - 1)), ?_, ⟨?_, ?_, ?_, s1, fun z => ?_⟩, s4⟩
  · rw [yb_8_2, if_neg (show ¬ (20 : Int32) ≤ nI (xnk r') from nI_ge (a := xnk r') (b := 20) h20 (by omega)), if_pos xiT, c94, zbs, xk_I, zB_tt hw, if_neg (show ¬ (1 : Int32) = 0 by decide), if_pos xiT, c86, zbs, xk_v, kl_P0 hi, zbs, hP.1.1, if_pos xiT, c99, zbs, xk_I, if_pos (xiP hi), c20, zbs, xk_v, if_pos xiT, c96, zbs, xk_v, zS]
  · rw [sp_book1_a, e2]
    exact sp_tw_exp2 hT2
  · rw [sp_book1_a, e2]
    exact hR3
  · exact kPl_20 hP hBd.k h20 hBd.v4 (fun u hu => (hS.2.2.1 u hu).2.2.1.2)
  · rw [sp_book1_a] at z
    have z1 := (sp_exp2_ok z).1.1
    rw [sp_book1_b]
    rw [sp_bkr_u]
    rw [if_pos z1, e1, ← er]
theorem kR_bloop (hi : i < 2) (hB : kBy w f n) : ∀ k (T T' : xTk) (v : Int32) (p : xG) (r r' : Nat → Int32), xnk r' + k = 20 → kLk f n T T' v p r r' →
    ∃ T'' v'' p' r'', xm_R sc xt_M (d + 5) 8 2 [.ref 21, .ref (xp i), .int (nI (xnk r'))] [] (xem (kTw (xu w (i + 1) p) T' v) l t) = some (.inl none, xem (kTw (xu w (i + 1) p') T'' v'') l t) ∧ kLk f n (sp_books f n (k + 1) (T, r)).1 T'' v'' p' (sp_books f n (k + 1) (T, r)).2 r'' := by
  intro k
  induction k with
  | zero =>
    intro T T' v p r r' hk h
    have hB' : kBy (xu w (i + 1) p) f n := kBy_xu (by omega) hB
    have c94 := @kR_word (xu w (i + 1) p) l t sc d n f T T' v 3 3 hB' (by decide) rfl h.1 h.2.1
    rw [sp_books_s, yb_8_2, if_pos (show (20 : Int32) ≤ nI (xnk r') from nI_le (a := 20) (by omega) (by omega)), yb_8_48, if_pos xiT, c94, zbs, xk_I]
    by_cases hw : sp_wrd f T 3
    · obtain ⟨T3, c85, hR3⟩ := @kR_flaw (xu w (i + 1) p) l t sc (d + 3) f T T' v 3 (by decide) h.2.1
      have er := h.2.2.2.2 hw.1.1
      rw [zB_tt hw, if_neg (show ¬ (1 : Int32) = 0 by decide), if_pos xiT, c85, zbs, xk_v, yb_8_62, if_pos (show sp_wrd f (T, r).1 3 from hw), sp_books_0, sp_book1_20 (by rw [← er]; omega)]
      refine ⟨T3, v, p, r', rfl, ⟨?_, hR3, h.2.2.1, h.2.2.2.1, fun z => absurd z (sp_flaw_err (by decide))⟩⟩
      have := @sp_tw_check f n T 0 3 h.1
      rw [sp_check_0] at this
      exact this
    · rw [zB_ff hw, if_pos rfl, yb_8_62, if_neg (show ¬ sp_wrd f (T, r).1 3 from hw)]
      exact ⟨T', v, p, r', rfl, h⟩
  | succ k ih =>
    intro T T' v p r r' hk h
    by_cases hw : sp_wrd f T 3
    · obtain ⟨T1, v1, p1, r1, e1, g1, k1⟩ := @kR_book w l t sc d n i f T T' v p r r' hi hB h hw (by omega)
      obtain ⟨T2, v2, p2, r2, e2, g2⟩ := ih (sp_book1 f n (T, r)).1 T1 v1 p1 (sp_book1 f n (T, r)).2 r1 (by omega) g1
      rw [xLe (sp_book1 f n (T, r))] at g2
      rw [sp_books_s, if_pos (show sp_wrd f (T, r).1 3 from hw)]
      rw [k1] at e2
      exact ⟨T2, v2, p2, r2, e1.trans e2, g2⟩
    · have hB' : kBy (xu w (i + 1) p) f n := kBy_xu (by omega) hB
      have c94 := @kR_word (xu w (i + 1) p) l t sc d n f T T' v 3 3 hB' (by decide) rfl h.1 h.2.1
      rw [zB_ff hw] at c94
      rw [sp_books_s, yb_8_2, if_neg (show ¬ (20 : Int32) ≤ nI (xnk r') from nI_ge (a := xnk r') (b := 20) (by omega) (by omega)), if_pos xiT, c94, zbs, xk_I, if_pos rfl, yb_8_48, if_pos xiT, c94, zbs, xk_I, if_pos rfl, yb_8_62, if_neg (show ¬ sp_wrd f (T, r).1 3 from hw)]
      exact ⟨T', v, p, r', rfl, h⟩
theorem kR_books (hi : i < 2) (hB : kBy w f n) (h : kLk f n T T' v p r r') (h0 : xnk r' = 0) :
    ∃ T'' v'' p' r'', xm_C sc xt_M (d + 6) 8 [.ref 21, .ref (xp i)] (xem (kTw (xu w (i + 1) p) T' v) l t) = some (.inl none, xem (kTw (xu w (i + 1) p') T'' v'') l t) ∧ kLk f n (sp_books f n 21 (T, r)).1 T'' v'' p' (sp_books f n 21 (T, r)).2 r'' := by
  obtain ⟨T2, v2, p2, r2, e2, g2⟩ := @kR_bloop w l t sc d n i f hi hB 20 T T' v p r r' (by omega) h
  rw [h0, show nI 0 = (0 : Int32) from rfl] at e2
  rw [yc_8]
  exact ⟨T2, v2, p2, r2, e2, g2⟩
end KV3
