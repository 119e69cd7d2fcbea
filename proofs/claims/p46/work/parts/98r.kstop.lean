/-! THE CLASS reads: a plan and tokens in one world; a stop, a route -/
def kLk (f : Nat → Int32) (n : Nat) (T T' : xTk) (v : Int32) (p : xG) (r r' : Nat → Int32) : Prop := sp_tw f n T ∧ kTR f T T' v ∧ kPl p r' ∧ kSn r' ∧ (T.2.2.2.1 = 0 → r' = r)
theorem kLk_r {f : Nat → Int32} {n : Nat} {T T' : xTk} {v : Int32} {p : xG} {r r2 r' : Nat → Int32} (h : ¬ T.2.2.2.1 = 0) (hk : kLk f n T T' v p r r') : kLk f n T T' v p r2 r' := ⟨hk.1, hk.2.1, hk.2.2.1, hk.2.2.2.1, fun z => absurd z h⟩
section KW
variable {w : xW} {l : Nat → Nat → Int64} {t : Nat} {sc : xm_Sc} {d n i : Nat} {f : Nat → Int32} {T T' : xTk} {v : Int32} {p : xG} {r r' : Nat → Int32}
theorem kl_g : kTw (xu w (i + 1) p) T v (i + 1) = p := by rw [kTw_ne (by omega), xu_same]
theorem kl_s {q : xG} : xu (kTw (xu w (i + 1) p) T v) (i + 1) q = kTw (xu w (i + 1) q) T v := by rw [kTw_xu (by omega), xu_xu]
theorem kl_P0 (hi : i < 2) : xm_gI (xem (kTw (xu w (i + 1) p) T v) l t) (xp i) 2 0 = some (p.1 0) := by rw [xgP_0 hi, kl_g]
theorem kl_17 {x : Int32} (hi : i < 2) : xm_C sc xt_M (d + 1) 17 [.ref (xp i), .int x] (xem (kTw (xu w (i + 1) p) T v) l t) = some (.inl none, xem (kTw (xu w (i + 1) (xs1 (xs1 (xs1 p 0 x) 1 0) 2 0)) T v) l t) := by rw [kc_17 hi, kl_g, kl_s]
theorem kl_18 {u : Nat} {x : Int32} (hi : i < 2) (hv : p.1 1 = nI u) (h4 : u < 4) : xm_C sc xt_M (d + 1) 18 [.ref (xp i), .int x] (xem (kTw (xu w (i + 1) p) T v) l t) = some (.inl none, xem (kTw (xu w (i + 1) (kP18 p u x)) T v) l t) := by rw [kc_18 hi (by rw [kl_g]; exact hv) h4, kl_g, kl_s]
theorem kl_20 {k : Nat} {x : Int32} (hi : i < 2) (hk : p.1 2 = nI k) (h20 : k < 20) : xm_C sc xt_M (d + 1) 20 [.ref (xp i), .int x] (xem (kTw (xu w (i + 1) p) T v) l t) = some (.inl none, xem (kTw (xu w (i + 1) (kP20 p k x)) T v) l t) := by rw [kc_20 hi (by rw [kl_g]; exact hk) h20, kl_g, kl_s]
theorem kl_19 {u s : Nat} {x : Int32} (hi : i < 2) (hv : p.1 1 = nI (u + 1)) (h4 : u < 4) (hs : p.2 1 u = nI s) (h8 : s < 8) : xm_C sc xt_M (d + 1) 19 [.ref (xp i), .int x] (xem (kTw (xu w (i + 1) p) T v) l t) = some (.inl none, xem (kTw (xu w (i + 1) (kP19 p u s x)) T v) l t) := by rw [kc_19 hi (by rw [kl_g]; exact hv) h4 (by rw [kl_g]; exact hs) h8, kl_g, kl_s]
theorem kl_19n {u s : Nat} {x : Int32} (hi : i < 2) (hv : p.1 1 = nI (u + 1)) (h4 : u < 4) (hs : p.2 1 u = nI s) (h8 : 8 ≤ s) (h9 : s < 9) : xm_C sc xt_M (d + 1) 19 [.ref (xp i), .int x] (xem (kTw (xu w (i + 1) p) T v) l t) = some (.inl none, xem (kTw (xu w (i + 1) p) T v) l t) := by
  have e1 : nI (u + 1) - 1 = nI u := nI_pred u
  have p0 : xm_aI (xem (kTw (xu w (i + 1) p) T v) l t) (xp i + 2) 0 (nI u) = some (nI s) := by rw [zPa_1 hi h4, kl_g, hs]
  rw [yc_19, xgP_1 hi, zbs, kl_g, hv, e1, if_neg (show ¬ nI u < 0 from nI_pos (by omega)), xgP_4 hi, zbs, p0, zbs, if_pos (show (8 : Int32) ≤ nI s from nI_le (a := 8) h8 (by omega)), yb_19_61]
/-- a stop without an error, once more -/
theorem sp_stop_ok2 (h : (sq_stop f n (T, r)).1.2.2.2.1 = 0) : T.2.2.2.1 = 0 ∧ (0 ≤ sp_val f T ∧ sp_val f T ≤ r 0 - 1) ∧ xst r (xnv r - 1) < 8 ∧ (xst r (xnv r - 1) = 0 ∨ ¬ r (14 + 11 * (xnv r - 1) + xst r (xnv r - 1)) = sp_val f T) ∧ (sq_stop f n (T, r)).2 = sp_addS r (xnv r - 1) (xst r (xnv r - 1)) (sp_val f T) := by
  rw [sq_stop_u] at h ⊢
  dsimp only at h ⊢
  rw [sp_adv_err] at h
  obtain ⟨h1, h2, h3, h4, h5, h6⟩ := sp_st4_ok h
  exact ⟨h1, h3, h4, h5, if_pos h⟩
theorem sp_flaw_err {c : Int32} (hc : ¬ c = 0) : ¬ (sp_flaw T c).2.2.2.1 = 0 := by
  unfold sp_flaw
  by_cases h : T.2.2.2.1 = 0
  · rw [if_pos h]
    exact hc
  · rw [if_neg h]
    exact h
/-- what a stop's number tells the class -/
noncomputable def kSv_z (f : Nat → Int32) (T : xTk) (r : Nat → Int32) : Int32 := if (sp_st2 f T r).2.2.2.1 = 0 then sp_val f T else 0
noncomputable def kSv : (Nat → Int32) → xTk → (Nat → Int32) → Int32 := sq_op kSv_z
theorem kSv_u {f : Nat → Int32} {T : xTk} {r : Nat → Int32} : kSv f T r = if (sp_st2 f T r).2.2.2.1 = 0 then sp_val f T else 0 := congrFun (congrFun (congrFun (sq_op_eq (a := kSv_z)) f) T) r
theorem kR_stop {st : Nat} {ah : Int32} (hi : i < 2) (hB : kBy w f n) (h : kLk f n T T' v p r r') (hst : st < 100) (h1 : 1 ≤ xnv r') (hy : T.2.2.2.1 = 0 → st = xst r (xnv r - 1) ∧ ah = if st = 0 then -1 else r (14 + 11 * (xnv r - 1) + st)) :
    ∃ T'' v'' p' r'', xm_C sc xt_M (d + 4) 7 [.ref 21, .ref (xp i), .int (nI st), .int ah] (xem (kTw (xu w (i + 1) p) T' v) l t) = some (.inl (some (.int (kSv f T r))), xem (kTw (xu w (i + 1) p') T'' v'') l t) ∧ kLk f n (sq_stop f n (T, r)).1 T'' v'' p' (sq_stop f n (T, r)).2 r'' ∧ xnv r'' = xnv r' ∧ xnk r'' = xnk r' := by
  obtain ⟨hT, hR, hP, hS, hr⟩ := h
  have hBd := hS.1
  have hb6 := hBd.b6
  have hv4 := hBd.v4
  have hk20 := hBd.k20
  have hb2 := hS.2.1.1
  have hB' : kBy (xu w (i + 1) p) f n := kBy_xu (by omega) hB
  have e20 : sp_rn2 f T 0 (r' 0 - 1) = sp_st2 f T r := by
    rw [sp_st2_u]
    by_cases z : T.2.2.2.1 = 0
    · rw [hr z]
    · rw [sp_rn2_e z, sp_rn2_e z]
  have hx := (hS.2.2.1 (xnv r' - 1) (by omega)).2.2.1
  obtain ⟨T1, c98, hR1⟩ := @kR_peek (xu w (i + 1) p) l t sc d n f T T' v 0 (r' 0 - 1) hB' (by
    rw [hBd.b, show xnb r' = (xnb r' - 1) + 1 by omega, nI_pred]
    exact nI_lt (b := 1000000) (by omega) (by omega)) hT hR
  rw [e20, show sp_val f (sp_rn1 T) = sp_val f T from sp_val_check] at c98
  rw [e20] at hR1
  have ekv : (if (sp_st2 f T r).2.2.2.1 = 0 then sp_val f T else 0) = kSv f T r := kSv_u.symm
  rw [ekv] at c98
  have hT4 : sp_tw f n (sp_st4 f T r) := sp_tw_st4 hT
  have hsv : ∃ b, b < xnb r' ∧ kSv f T r = nI b := by
    rw [kSv_u]
    by_cases z : (sp_st2 f T r).2.2.2.1 = 0
    · rw [if_pos z]
      have z' := z
      rw [sp_st2_u] at z'
      obtain ⟨k1, k2, k3, k4⟩ := sp_rn2_ok z'
      rw [← hr k1, hBd.b] at k3
      obtain ⟨b, hb, e⟩ := zrg (by omega) k3
      exact ⟨b, hb, e⟩
    · rw [if_neg z]
      exact ⟨0, by omega, rfl⟩
  obtain ⟨b, hb, eb⟩ := hsv
  -- the count of stops
  have s24 : ∃ T2, xm_R sc xt_M (d + 3) 7 24 [.ref 21, .ref (xp i), .int (nI st), .int ah, .int (kSv f T r)] [] (xem (kTw (xu w (i + 1) p) T2 v) l t) = xm_C sc xt_M (d + 4) 7 [.ref 21, .ref (xp i), .int (nI st), .int ah] (xem (kTw (xu w (i + 1) p) T' v) l t) ∧ kTR f (sp_st3 f T r) T2 v := by
    by_cases hs8 : st < 8
    · refine ⟨T1, ?_, ?_⟩
      · rw [yc_7, kl_P0 hi, zbs, hP.1.1, if_pos xiT, c98, zbs, xk_I, if_pos (show nI st < 8 from nI_lt (b := 8) hs8 (by omega))]
      · have : sp_st3 f T r = sp_st2 f T r := by
          rw [sp_st3_u]
          by_cases z : (sp_st2 f T r).2.2.2.1 = 0
          · have z' := z
            rw [sp_st2_u] at z'
            have y := hy (sp_rn2_ok z').1
            rw [if_neg (c := (sp_st2 f T r).2.2.2.1 = 0 ∧ 8 ≤ xst r (xnv r - 1)) (fun u => by omega)]
            unfold sp_check
            rw [if_neg (by decide)]
          · exact sp_check_e z
        rw [this]
        exact hR1
    · obtain ⟨T2, c85, hR2⟩ := @kR_flaw (xu w (i + 1) p) l t sc (d + 1) f (sp_st2 f T r) T1 v 3 (by decide) hR1
      refine ⟨T2, ?_, ?_⟩
      · rw [yc_7, kl_P0 hi, zbs, hP.1.1, if_pos xiT, c98, zbs, xk_I, if_neg (show ¬ nI st < 8 from nI_nlt (a := st) (b := 8) (by omega) (by omega)), if_pos xiT, c85, zbs, xk_v]
      · have : sp_st3 f T r = sp_flaw (sp_st2 f T r) 3 := by
          rw [sp_st3_u]
          by_cases z : (sp_st2 f T r).2.2.2.1 = 0
          · have z' := z
            rw [sp_st2_u] at z'
            have y := hy (sp_rn2_ok z').1
            rw [if_pos (c := (sp_st2 f T r).2.2.2.1 = 0 ∧ 8 ≤ xst r (xnv r - 1)) ⟨z, by omega⟩]
            exact if_pos rfl
          · rw [sp_check_e z, sp_flaw_e z]
        rw [this]
        exact hR2
  obtain ⟨T2, e24, hR2⟩ := s24
  have s35 : ∃ T3, xm_R sc xt_M (d + 3) 7 35 [.ref 21, .ref (xp i), .int (nI st), .int ah, .int (kSv f T r)] [] (xem (kTw (xu w (i + 1) p) T3 v) l t) = xm_R sc xt_M (d + 3) 7 24 [.ref 21, .ref (xp i), .int (nI st), .int ah, .int (kSv f T r)] [] (xem (kTw (xu w (i + 1) p) T2 v) l t) ∧ kTR f (sp_st4 f T r) T3 v := by
    have okv : (sp_st3 f T r).2.2.2.1 = 0 → T.2.2.2.1 = 0 ∧ kSv f T r = sp_val f T := fun z => by
      rw [sp_st3_u] at z
      have z2 := (sp_check_ok (by decide) z).1
      have z' := z2
      rw [sp_st2_u] at z'
      exact ⟨(sp_rn2_ok z').1, kSv_u.trans (if_pos z2)⟩
    by_cases hba : kSv f T r = ah
    · obtain ⟨T3, c85, hR3⟩ := @kR_flaw (xu w (i + 1) p) l t sc (d + 1) f (sp_st3 f T r) T2 v 4 (by decide) hR2
      refine ⟨T3, ?_, ?_⟩
      · rw [yb_7_24, if_pos hba, if_pos xiT, c85, zbs, xk_v]
      · have : sp_st4 f T r = sp_flaw (sp_st3 f T r) 4 := by
          rw [sp_st4_u]
          by_cases z : (sp_st3 f T r).2.2.2.1 = 0
          · obtain ⟨o1, o2⟩ := okv z
            obtain ⟨y1, y2⟩ := hy o1
            have n0 : ¬ st = 0 := fun u => by
              rw [if_pos u] at y2
              rw [y2, eb] at hba
              exact absurd hba (toJ_ne (by omega))
            rw [if_neg n0, y1] at y2
            rw [y1] at n0
            rw [if_pos (c := (sp_st3 f T r).2.2.2.1 = 0 ∧ ¬ xst r (xnv r - 1) = 0 ∧ r (14 + 11 * (xnv r - 1) + xst r (xnv r - 1)) = sp_val f T) ⟨z, n0, by rw [← y2, ← hba, o2]⟩]
            exact if_pos rfl
          · rw [sp_check_e z, sp_flaw_e z]
        rw [this]
        exact hR3
    · refine ⟨T2, ?_, ?_⟩
      · rw [yb_7_24, if_neg hba]
      · have : sp_st4 f T r = sp_st3 f T r := by
          rw [sp_st4_u]
          by_cases z : (sp_st3 f T r).2.2.2.1 = 0
          · obtain ⟨o1, o2⟩ := okv z
            obtain ⟨y1, y2⟩ := hy o1
            rw [if_neg (c := (sp_st3 f T r).2.2.2.1 = 0 ∧ ¬ xst r (xnv r - 1) = 0 ∧ r (14 + 11 * (xnv r - 1) + xst r (xnv r - 1)) = sp_val f T) (fun u => by
              rw [if_neg (by rw [y1]; exact u.2.1), y1] at y2
              exact hba (by rw [o2, y2, u.2.2]))]
            unfold sp_check
            rw [if_neg (by decide)]
          · exact sp_check_e z
        rw [this]
        exact hR2
  obtain ⟨T3, e35, hR3⟩ := s35
  obtain ⟨T4, v4, c86, hR4⟩ := @kR_adv (xu w (i + 1) p) l t sc d n f hB' (sp_st4 f T r) T3 v hT4 hR3
  have hpv : p.1 1 = nI (xnv r' - 1 + 1) := by rw [hP.1.2.1, hBd.v, show xnv r' - 1 + 1 = xnv r' by omega]
  have hps : p.2 1 (xnv r' - 1) = nI (xst r' (xnv r' - 1)) := (hP.2.1 (xnv r' - 1) (by omega)).2.1.trans hx.1
  have hT5 : sp_tw f n (sq_stop f n (T, r)).1 := by rw [sq_stop_a]; exact sp_tw_adv hT4
  have hR5 : kTR f (sq_stop f n (T, r)).1 T4 v4 := by rw [sq_stop_a]; exact hR4
  by_cases h8 : xst r' (xnv r' - 1) < 8
  · have c19 := @kl_19 w l t sc (d + 2) i T4 v4 p (xnv r' - 1) (xst r' (xnv r' - 1)) (nI b) hi hpv (by omega) hps h8
    obtain ⟨q1, q2, q3, q4, q5, q6, q7, q8⟩ := @kSn_S r' (xnv r' - 1) (xst r' (xnv r' - 1)) (nI b) hS (by omega) rfl h8 (xil_nI hb (by omega))
    refine ⟨T4, v4, kP19 p (xnv r' - 1) (xst r' (xnv r' - 1)) (nI b), sp_addS r' (xnv r' - 1) (xst r' (xnv r' - 1)) (nI b), ?_, ⟨hT5, hR5, ?_, q1, fun z => ?_⟩, q2, q5⟩
    · rw [← e24, ← e35, yb_7_35, if_pos xiT, c86, zbs, xk_v, if_pos (xiP hi), eb, c19, zbs, xk_v]
    · exact kPl_19 hP (by rw [show xnv r' - 1 + 1 = xnv r' by omega]; exact hBd.v) (by omega) hx.1 h8 (by omega) hk20 (fun u hu => (hS.2.2.1 u (by omega)).2.2.1.2)
    · obtain ⟨z1, z2, z3, z4, z5⟩ := sp_stop_ok2 z
      rw [z5, hr z1, ← eb]
      have : kSv f T r = sp_val f T := by
        rw [kSv_u]
        have : (sp_st2 f T r).2.2.2.1 = 0 := by
          have y : (sp_st4 f T r).2.2.2.1 = 0 := by
            have y := z
            rw [sq_stop_u] at y
            dsimp only at y
            rw [sp_adv_err] at y
            exact y
          have e4 := (sp_st4_ok y).2.2.2.2.2
          have y2 : (sp_st3 f T r).2.2.2.1 = 0 := by rw [sp_st4_u] at y; exact (sp_check_ok (by decide) y).1
          rw [sp_st3_u] at y2
          exact (sp_check_ok (by decide) y2).1
        exact if_pos this
      rw [this]
  · have c19 := @kl_19n w l t sc (d + 2) i T4 v4 p (xnv r' - 1) (xst r' (xnv r' - 1)) (kSv f T r) hi hpv (by omega) hps (by omega) hx.2
    refine ⟨T4, v4, p, r', ?_, ⟨hT5, hR5, hP, hS, fun z => ?_⟩, rfl, rfl⟩
    · rw [← e24, ← e35, yb_7_35, if_pos xiT, c86, zbs, xk_v, if_pos (xiP hi), c19, zbs, xk_v]
    · obtain ⟨z1, z2, z3, z4, z5⟩ := sp_stop_ok2 z
      rw [hr z1] at h8
      exact absurd z3 h8
end KW
