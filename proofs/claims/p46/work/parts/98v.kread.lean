/-! THE CLASS reads a whole text -/
theorem sp_h6_ok {f : Nat → Int32} {n : Nat} {T : xTk} {r : Nat → Int32} (hT : sp_tw f n T) : kSn (sp_h6 f n (T, r)).2 ∧ sp_tw f n (sp_h6 f n (T, r)).1 ∧ ((sp_h6 f n (T, r)).1.2.2.2.1 = 0 → xWF (sp_h6 f n (T, r)).2) := by
  have hT3 : sp_tw f n (sp_h3 f n T) := sp_tw_h3 hT
  obtain ⟨eb, b2, b6⟩ := @sp_hb_ok f n T
  obtain ⟨s1, s2, s3, s4⟩ := @kSn_beg r (sp_hb f n T) b2 b6
  obtain ⟨v1, v2, v3⟩ := @sp_van_ok f n (sp_h3 f n T) (sp_beg r (sp_hb f n T)) s1 hT3
  have e4 : sq_van f n (sp_h3 f n T, sp_beg r (sp_hb f n T)) = sp_h4 f n (T, r) := (sp_h4_u (P := (T, r))).symm
  rw [e4] at v1 v2 v3
  obtain ⟨u1, u2, u3⟩ := @sp_vans_ok f n 4 (sp_h4 f n (T, r)).1 (sp_h4 f n (T, r)).2 v1 v2
  have e5 : sp_vans f n 4 ((sp_h4 f n (T, r)).1, (sp_h4 f n (T, r)).2) = sp_h5 f n (T, r) := by rw [sp_h5_u]
  rw [e5] at u1 u2 u3
  obtain ⟨q1, q2, q3, q4, q5⟩ := @sp_books_ok f n 21 (sp_h5 f n (T, r)).1 (sp_h5 f n (T, r)).2 u1 u2
  have e6 : sp_books f n 21 ((sp_h5 f n (T, r)).1, (sp_h5 f n (T, r)).2) = sp_h6 f n (T, r) := by rw [sp_h6_u]
  rw [e6] at q1 q2 q3 q4 q5
  refine ⟨q1, q2, fun h6 => ?_⟩
  have h5 := q5 h6
  obtain ⟨h4, t5, x5⟩ := u3 h5
  obtain ⟨h3, x4, y4, g4⟩ := v3 h4
  refine kSn_W q1 (fun u hu => ?_) ?_
  · have hu' : u < xnv (sp_h5 f n (T, r)).2 := by rw [← q3]; exact hu
    have h5v := u1.1.v4
    have e := q4 u (by have := u1.1.v4; exact Nat.lt_of_lt_of_le hu' this)
    have t := t5 (fun y hy => by
      have hy' : y < xnv (sp_beg r (sp_hb f n T)) + 1 := by rw [← x4]; exact hy
      have : y = xnv (sp_beg r (sp_hb f n T)) := by omega
      rw [this]
      exact g4) u hu'
    exact Nat.le_trans t (Nat.le_of_eq e.symm)
  · have e : xnv (sp_h6 f n (T, r)).2 = xnv (sp_h5 f n (T, r)).2 := q3
    have e' : xnv (sp_h4 f n (T, r)).2 = xnv (sp_beg r (sp_hb f n T)) + 1 := x4
    have : xnv (sp_h4 f n (T, r)).2 ≤ xnv (sp_h5 f n (T, r)).2 := x5
    omega
section KZ
variable {w : xW} {l : Nat → Nat → Int64} {t : Nat} {sc : xm_Sc} {d n i : Nat} {f : Nat → Int32} {T T' : xTk} {v : Int32} {s : xG} {r : Nat → Int32}
theorem kRl_Tw {k : Nat} : kRl (kTw w T v) k r = kRl w k r := by
  have e7 : ∀ g, g ≠ 0 → kTw w T v g = w g := fun g hg => kTw_ne hg
  unfold kRl
  rw [e7 (k + 5) (by omega), e7 (xpi (w (k + 5)) + 1) (by omega)]
/-- the hold that a text may name -/
theorem kR_hold (hB : kBy w f n) (h : kAs w f n T T' v s r) :
    ∃ T'' v'' s'', ((xm_C sc xt_M (d + 7) 94 [.ref 21, .retAddr 4] (xem (kTw (xu w 6 s) T' v) l t)).bind fun o18 => xm_rI o18 (fun n19 S17 => (if n19 = 0 then xm_R sc xt_M (d + 7) 4 72 [.ref 21, .ref (xh 1), .ref (xp i)] [] S17 else if xm_isO S17 (.ref 21) 5 = true then ((xm_C sc xt_M (d + 7) 86 [.ref 21] S17).bind fun o21 => xm_r0 o21 (fun S20 => if xm_isO S20 (.ref 21) 5 = true then ((xm_C sc xt_M (d + 7) 99 [.ref 21, .int 1, .int 50] S20).bind fun o23 => xm_rI o23 (fun n24 S22 => (xm_sF S22 (xh 1) 4 2 (.int n24)).bind fun S25 => if xm_isO S25 (.ref 21) 5 = true then ((xm_C sc xt_M (d + 7) 96 [.ref 21, .int 59] S25).bind fun o27 => xm_r0 o27 (fun S26 => xm_R sc xt_M (d + 7) 4 72 [.ref 21, .ref (xh 1), .ref (xp i)] [] S26) (fun e S => some (.inr e, S))) else none) (fun e S => some (.inr e, S))) else none) (fun e S => some (.inr e, S))) else none)) (fun e S => some (.inr e, S))) = xm_R sc xt_M (d + 7) 4 72 [.ref 21, .ref (xh 1), .ref (xp i)] [] (xem (kTw (xu w 6 s'') T'' v'') l t) ∧ kAs w f n (sq_hold f n (T, r)).1 T'' v'' s'' (sq_hold f n (T, r)).2 := by
  obtain ⟨hT, hR, h0, hrel⟩ := h
  have hBs : ∀ q : xG, kBy (xu w 6 q) f n := fun q => kBy_xu (by omega) hB
  have c94 := @kR_word (xu w 6 s) l t sc (d + 2) n f T T' v 4 4 (hBs s) (by decide) rfl hT hR
  rw [c94, zbs, xk_I]
  by_cases hw : sp_wrd f T 4
  · have hL := hrel hw.1.1
    obtain ⟨T1, v1, c86, hR1⟩ := @kR_adv (xu w 6 s) l t sc (d + 4) n f (hBs s) T T' v hT hR
    have ea : sp_adv f n T = sp_scan f n T := if_pos hw.1.1
    rw [ea] at hR1
    have hTs := @sp_tw_acc f n T hT
    obtain ⟨T2, v2, c99, hR2⟩ := @kR_passNumber (xu w 6 s) l t sc (d + 3) n f (sp_scan f n T) T1 v1 1 50 (hBs s) (by decide) hTs hR1
    rw [← @sp_rnV_eq n f (sp_scan f n T) 1 50, ← sp_hlV_u] at c99
    rw [← sp_hl1_u] at hR2
    have hTh : sp_tw f n (sp_hl1 f n T) := by rw [sp_hl1_u]; exact sp_tw_rn hTs
    obtain ⟨T3, v3, c96, hR3⟩ := @kR_passSign (xu w 6 (xs1 s 2 (sp_hlV f n T))) l t sc (d + 3) n f (sp_hl1 f n T) T2 v2 (hBs _) hTh hR2
    have cs : xm_sF (xem (kTw (xu w 6 s) T2 v2) l t) (xh 1) 4 2 (.int (sp_hlV f n T)) = some (xem (kTw (xu w 6 (xs1 s 2 (sp_hlV f n T))) T2 v2) l t) := by
      rw [xsS_2 (k := 1) (by omega)]
      show some (xem (xu (kTw (xu w 6 s) T2 v2) 6 (xs1 (kTw (xu w 6 s) T2 v2 6) 2 (sp_hlV f n T))) l t) = _
      rw [ks_g, ks_s]
    have ev := @sp_rnV_rng f n (sp_scan f n T) 1 50 (by decide)
    rw [← sp_hlV_u] at ev
    have eh : sq_hold f n (T, r) = (sp_exp2 f n (sp_hl1 f n T) 59, upd r 5 (sp_hlV f n T)) := sq_hold_u.trans (if_pos hw)
    rw [eh]
    refine ⟨T3, v3, xs1 s 2 (sp_hlV f n T), ?_, sp_tw_exp2 hTh, hR3, (xs1_ne (by omega)).trans h0, fun _ => ?_⟩
    · rw [zB_tt hw, if_neg (show ¬ (1 : Int32) = 0 by decide), if_pos xiT, c86, zbs, xk_v, if_pos xiT, c99, zbs, xk_I, cs, zbs, if_pos xiT, c96, zbs, xk_v]
    · have hW := hL.W
      have hlt : xLt r := ⟨hW.bd, fun u hu => hW.st9 hu, fun q hq => hW.qb hq⟩
      have z := @kRl_hold (xu w 6 s) 1 r (sp_hlV f n T) hlt hL.2
      rw [show (1 : Nat) + 5 = 6 from rfl, xu_same, xu_xu] at z
      exact kRel_of (xWF_hold hW ev) z
  · have eh : sq_hold f n (T, r) = (T, r) := sq_hold_u.trans (if_neg hw)
    rw [eh, zB_ff hw, if_pos rfl]
    exact ⟨T', v, s, rfl, hT, hR, h0, hrel⟩
theorem kR_read (hi : i < 2) (h6 : xpi (w 6) = i) (hB : kBy w f n) (hT : sp_tw f n T) (hR : kTR f T T' v) :
    ∃ T'' v'' p s, xm_C sc xt_M (d + 8) 4 [.ref 21, .ref (xh 1)] (xem (kTw w T' v) l t) = some (.inl none, xem (kTw (xu (xu w (i + 1) p) 6 s) T'' v'') l t) ∧ kTR f (sp_all f n (T, r)).1 T'' v'' ∧ s.1 0 = (w 6).1 0 ∧ ((sp_all f n (T, r)).1.2.2.2.1 = 0 → kRel (xu (xu w (i + 1) p) 6 s) 1 (sp_all f n (T, r)).2) := by
  obtain ⟨eb, b2, b6⟩ := @sp_hb_ok f n T
  obtain ⟨s1, s2, s3, s4⟩ := @kSn_beg r (sp_hb f n T) b2 b6
  obtain ⟨T1, v1, c95, hR1⟩ := @kR_passWord w l t sc (d + 1) n f T T' v 1 1 hB (by decide) rfl hT hR
  rw [← sp_h1_u] at hR1
  obtain ⟨T2, v2, c99, hR2⟩ := @kR_passNumber w l t sc (d + 3) n f (sp_h1 f n T) T1 v1 2 6 hB (by decide) (sp_tw_h1 hT) hR1
  rw [← @sp_rnV_eq n f (sp_h1 f n T) 2 6, eb] at c99
  rw [← sp_h2_u] at hR2
  have c17 := @kl_17 w l t sc (d + 6) i T2 v2 (w (i + 1)) (nI (sp_hb f n T)) hi
  rw [xu_self] at c17
  have hPl : kPl (xs1 (xs1 (xs1 (w (i + 1)) 0 (nI (sp_hb f n T))) 1 0) 2 0) (sp_beg r (sp_hb f n T)) := kPl_17
  generalize hp1 : xs1 (xs1 (xs1 (w (i + 1)) 0 (nI (sp_hb f n T))) 1 0) 2 0 = p1 at *
  have hBp : ∀ q : xG, kBy (xu w (i + 1) q) f n := fun q => kBy_xu (by omega) hB
  obtain ⟨T3, v3, c96, hR3⟩ := @kR_passSign (xu w (i + 1) p1) l t sc (d + 3) n f (sp_h2 f n T) T2 v2 (hBp p1) (sp_tw_h2 hT) hR2
  rw [← sp_h3_u] at hR3
  obtain ⟨T4, v4, p2, r2, c5, g5, k5⟩ := @kR_vans w l t sc d n i f (sp_h3 f n T) T3 v3 p1 (sp_beg r (sp_hb f n T)) (sp_beg r (sp_hb f n T)) hi hB ⟨sp_tw_h3 hT, hR3, hPl, s1, fun _ => rfl⟩ s2
  have e4 : sq_van f n (sp_h3 f n T, sp_beg r (sp_hb f n T)) = sp_h4 f n (T, r) := (sp_h4_u (P := (T, r))).symm
  rw [e4, ← sp_h5_u] at g5
  obtain ⟨T5, v5, p3, r3, c8, g8⟩ := @kR_books w l t sc (d + 1) n i f (sp_h5 f n (T, r)).1 T4 v4 p2 (sp_h5 f n (T, r)).2 r2 hi hB g5 (k5.trans s3)
  rw [xLe (sp_h5 f n (T, r)), ← sp_h6_u] at g8
  obtain ⟨q1, q2, q3⟩ := @sp_h6_ok f n T r hT
  obtain ⟨gT, gR, gP, gS, gr⟩ := g8
  have w6 : kTw (xu w (i + 1) p3) T5 v5 6 = w 6 := by rw [kTw_ne (by omega), xu_ne (by omega)]
  obtain ⟨s6, c53, o53, r53⟩ := @kc_53 (kTw (xu w (i + 1) p3) T5 v5) l t sc (d + 2) 1 r3 (by omega) gS.1 (by
    show kPl (kTw (xu w (i + 1) p3) T5 v5 (xpi (kTw (xu w (i + 1) p3) T5 v5 6) + 1)) r3
    rw [w6, h6, kl_g]
    exact gP) gS.2.2.2.2.2.2
  have ew3 : ∀ q, xu (kTw (xu w (i + 1) p3) T5 v5) 6 q = kTw (xu (xu w (i + 1) p3) 6 q) T5 v5 := fun q => kTw_xu (by omega)
  have c53' : xm_C sc xt_M (d + 7) 53 [.ref (xh 1)] (xem (kTw (xu w (i + 1) p3) T5 v5) l t) = some (.inl none, xem (kTw (xu (xu w (i + 1) p3) 6 s6) T5 v5) l t) := by
    rw [c53]
    show some (Sum.inl none, xem (xu (kTw (xu w (i + 1) p3) T5 v5) 6 s6) l t) = _
    rw [ew3]
  have r53' : kRl (xu (xu w (i + 1) p3) 6 s6) 1 r3 := by
    have y : kRl (xu (kTw (xu w (i + 1) p3) T5 v5) 6 s6) 1 r3 := r53
    rw [ew3, kRl_Tw] at y
    exact y
  have o53' : s6.1 0 = (xu w (i + 1) p3 6).1 0 := by
    rw [o53]
    show (kTw (xu w (i + 1) p3) T5 v5 6).1 0 = _
    rw [kTw_ne (by omega)]
  have hA6 : kAs (xu w (i + 1) p3) f n (sp_h6 f n (T, r)).1 T5 v5 s6 (sp_h6 f n (T, r)).2 := ⟨gT, gR, o53', fun z => by
    rw [← gr z] 
    exact kRel_of (by rw [gr z]; exact q3 z) r53'⟩
  obtain ⟨T7, v7, s7, ch, hA7⟩ := @kR_hold (xu w (i + 1) p3) l t sc d n i f (sp_h6 f n (T, r)).1 T5 v5 s6 (sp_h6 f n (T, r)).2 (hBp p3) hA6
  obtain ⟨_, _, _, p4, _⟩ := @sq_hold_ok f n (sp_h6 f n (T, r)).1 (sp_h6 f n (T, r)).2 q2
  rw [xLe (sp_h6 f n (T, r)), ← sp_h7_u] at hA7 p4
  have k7 : xnq (sp_h7 f n (T, r)).2 = 0 := by
    unfold xnq
    rw [p4 3 (by omega), q1.2.2.2.2.2.2.1]
    rfl
  obtain ⟨Tm, T8, v8, s8, rm, c9, hA8, z8⟩ := @kR_qloop (xu w (i + 1) p3) l t sc d n f (hBp p3) 40 (sp_h7 f n (T, r)).1 T7 v7 s7 (sp_h7 f n (T, r)).2 0 (by omega) hA7 (fun _ => k7)
  rw [sp_all_eq] at z8
  obtain ⟨T9, c97, hR9⟩ := @kR_end (xu (xu w (i + 1) p3) 6 s8) l t sc (d + 4) f Tm T8 v8 hA8.2.1
  rw [show nI 0 = (0 : Int32) from rfl] at c9
  have e1 : (sp_all f n (T, r)).1 = if Tm.2.2.1 = 0 then Tm else sp_flaw Tm 1 := congrArg Prod.fst z8
  have e2 : (sp_all f n (T, r)).2 = rm := congrArg Prod.snd z8
  refine ⟨T9, v8, p3, s8, ?_, ?_, ?_, fun z => ?_⟩
  · have g0 : xm_gR (xem (kTw w T' v) l t) (xh 1) 4 0 = some (xp i) := by
      rw [xgS_0 (by omega)]
      show some (xp (xpi (kTw w T' v 6))) = _
      rw [kTw_ne (by omega), h6]
    rw [yc_4, g0, zbs, if_pos xiT, c95, zbs, xk_v, if_pos xiT, c99, zbs, xk_I, if_pos (xiP hi), c17, zbs, xk_v, if_pos xiT, c96, zbs, xk_v, c5, zbs, xk_v, c8, zbs, xk_v, if_pos (xiS (by omega)), c53', zbs, xk_v, if_pos xiT, ch, yb_4_72, yc_9, c9, zbs, xk_v, if_pos xiT, c97, zbs, xk_v]
  · rw [e1]
    exact hR9
  · rw [hA8.2.2.1]
    exact congrArg (fun g : xG => g.1 0) (xu_ne (show (6 : Nat) ≠ i + 1 by omega))
  · rw [e1] at z
    rw [e2]
    by_cases hk : Tm.2.2.1 = 0
    · rw [if_pos hk] at z
      exact hA8.2.2.2 z
    · rw [if_neg hk] at z
      exact absurd z (sp_flaw_err (by decide))
end KZ
