/-! THE CLASS reads: requests -/
section KX
variable {w : xW} {l : Nat → Nat → Int64} {t : Nat} {sc : xm_Sc} {d k : Nat} {r : Nat → Int32}
theorem kc_56x {a b : Nat} {rd : Int32} (hk : k < 13) (hR : kRel w k r) (hn : xnq r < 40) (ha : a < 20) (hb : b < xnb r) : ∃ s', xm_C sc xt_M (d + 2) 56 [.ref (xh k), .int (nI a), .int rd, .int (nI b)] (xem w l t) = some (.inl none, xem (xu w (k + 5) s') l t) ∧ s'.1 0 = (w (k + 5)).1 0 := by
  have hW := hR.W
  have hB := hW.bd
  have hb6 := hB.b6
  have hv4 := hB.v4
  have hk20 := hB.k20
  have lo1 : ∀ i, i ≠ 2 → upd r 2 (nI 20) i = r i := fun i h => zun h
  have k1 : xnk (upd r 2 (nI 20)) = 20 := by unfold xnk; rw [zu1, nI_clamp (by omega)]
  have n1 : xnq (upd r 2 (nI 20)) = xnq r := by unfold xnq; rw [lo1 3 (by omega)]
  have b1 : xnb (upd r 2 (nI 20)) = xnb r := by unfold xnb; rw [lo1 0 (by omega)]
  have v1 : xnv (upd r 2 (nI 20)) = xnv r := by unfold xnv; rw [lo1 1 (by omega)]
  have hB1 : xBd (upd r 2 (nI 20)) := by
    unfold xBd
    rw [k1, n1, b1, v1, lo1 0 (by omega), lo1 1 (by omega), zu1, lo1 3 (by omega)]
    exact ⟨hB.1, hB.2.1, ⟨rfl, by omega⟩, hB.2.2.2⟩
  generalize hr1 : upd r 2 (nI 20) = r1 at *
  have hn1 : xnq r1 < 40 := by omega
  have hB' := @sp_addq_bd r1 (nI a) rd (nI b) hB1 hn1
  obtain ⟨n', k', b', v'⟩ := @kAddq_c r1 (nI a) rd (nI b) hB1 hn1
  obtain ⟨x1, x2, x3⟩ := @sp_addq_at r1 (nI a) rd (nI b)
  have low : ∀ i, i ≠ 3 → i < 176 + 3 * xnq r1 → sp_addq r1 (nI a) rd (nI b) i = r1 i := fun i h1 h2 => sp_addq_h h1 h2
  generalize hr' : sp_addq r1 (nI a) rd (nI b) = r' at *
  rw [n1] at x1 x2 x3 low n'
  have hQ' : kQ r' := by
    intro i hi
    rw [n'] at hi
    rw [k', b', k1, b1]
    by_cases e : i = xnq r
    · subst e
      rw [x1, x3]
      exact ⟨xil_nI ha (by omega), xil_nI hb (by omega)⟩
    · rw [low (176 + 3 * i) (by omega) (by omega), low (178 + 3 * i) (by omega) (by omega), lo1 (176 + 3 * i) (by omega), lo1 (178 + 3 * i) (by omega)]
      exact ⟨xil_le (kQ_W hW _ (by omega)).1 hk20, (kQ_W hW _ (by omega)).2⟩
  have e38 := @kc_38 w l t sc d k (xnq r) (nI a) rd (nI b) hk hn hR.cnt
  have arr : ∀ i, i < xnq r' → upd ((w (k + 5)).2 5) (xnq r) (nI a) i = r' (176 + 3 * i) ∧ upd ((w (k + 5)).2 7) (xnq r) (nI b) i = r' (178 + 3 * i) := fun i hi => by
    rw [n'] at hi
    by_cases e : i = xnq r
    · subst e
      rw [zu1, zu1, x1, x3]
      exact ⟨rfl, rfl⟩
    · rw [zun e, zun e, low (176 + 3 * i) (by omega) (by omega), low (178 + 3 * i) (by omega) (by omega), lo1 (176 + 3 * i) (by omega), lo1 (178 + 3 * i) (by omega)]
      exact ⟨hR.qb (by omega), hR.qw (by omega)⟩
  obtain ⟨g, e40, hg⟩ := @kc_40 (xu w (k + 5) (kAd (w (k + 5)) (xnq r) (nI a) rd (nI b))) l t sc d k r' ((w (k + 5)).1 3) hk hB' hQ' (by rw [xu_same, n']; rfl) (fun i hi => by
    rw [xu_same]
    exact arr i hi) (fun q hq => by
    rw [b', b1] at hq
    rw [hR.opn (by omega), low (6 + q) (by omega) (by omega), lo1 (6 + q) (by omega)]
    exact propext ⟨fun z => z.2, fun z => ⟨hq, z⟩⟩)
  have e3 : (xu w (k + 5) (kAd (w (k + 5)) (xnq r) (nI a) rd (nI b)) (k + 5)).1 3 = (w (k + 5)).1 3 := by
    rw [xu_same]
    rfl
  refine ⟨xs2 (kAd (w (k + 5)) (xnq r) (nI a) rd (nI b)) 8 g, ?_, rfl⟩
  rw [yc_56, xgS_10 hk, zbs, if_pos (xiQ hk), e38, zbs, xk_v, xgS_10 hk, zbs, xgS_3 hk, zbs, e3, if_pos (xiQ hk), e40, zbs, xk_v, xu_same, xu_xu]
end KX
/-- a request where an error stands or comes -/
theorem sp_ask1_f {f : Nat → Int32} {n : Nat} {T X : xTk} {r : Nat → Int32} (h : sp_ak2 f T r = X) (ne : ¬ X.2.2.2.1 = 0) : sp_ask1 f n (T, r) = (X, r) := by
  have e3 : sp_ak3 f n T r = X := by rw [sp_ak3_u, h, sp_adv_e ne]
  have e4 : sp_ak4 f n T r = X := by rw [sp_ak4_u, e3, sp_rnT_e ne]
  have e6 : sp_ak6 f n T r = X := by rw [sp_ak6_u, e4, sp_rn2_e ne]
  have e7 : sp_ak7 f n T r = X := by rw [sp_ak7_u, e6, sp_check_e ne]
  have e8 : sp_ak8 f n T r = X := by rw [sp_ak8_u, e7, sp_adv_e ne]
  have e9 : sp_ak9 f n T r = X := by rw [sp_ak9_u, e8, sp_rnT_e ne]
  rw [← xLe (sp_ask1 f n (T, r)), sp_ask1_a, sp_ask1_b, e9, sp_exp2_e ne, if_neg ne]
theorem sp_ask1_n {f : Nat → Int32} {n : Nat} {T : xTk} {r : Nat → Int32} (h : ¬ sp_wrd f T 5) : sp_ask1 f n (T, r) = (sp_flaw T 1, r) := by
  have ne := @sp_flaw_err T 1 (by decide)
  refine sp_ask1_f ?_ ne
  rw [sp_ak2_u, sp_ak1_u, zB_ff h, sp_check_0, sp_check_e ne]
theorem sp_ask1_40 {f : Nat → Int32} {n : Nat} {T : xTk} {r : Nat → Int32} (h : sp_wrd f T 5) (h4 : 40 ≤ xnq r) : sp_ask1 f n (T, r) = (sp_flaw T 3, r) := by
  have ne := @sp_flaw_err T 3 (by decide)
  refine sp_ask1_f ?_ ne
  rw [sp_ak2_u, sp_ak1_u, zB_tt h, sp_check_1, if_pos ⟨h.1.1, h4⟩, sp_check_0]
theorem sp_ak3_w {f : Nat → Int32} {n : Nat} {T : xTk} {r : Nat → Int32} (h : sp_wrd f T 5) (h4 : xnq r < 40) : sp_ak3 f n T r = sp_adv f n T := by
  rw [sp_ak3_u, sp_ak2_u, sp_ak1_u, zB_tt h, sp_check_1, if_neg (fun z => by omega), sp_check_1]
/-- tokens and the spare state while requests are read -/
def kAs (w : xW) (f : Nat → Int32) (n : Nat) (T T' : xTk) (v : Int32) (s : xG) (r : Nat → Int32) : Prop := sp_tw f n T ∧ kTR f T T' v ∧ s.1 0 = (w 6).1 0 ∧ (T.2.2.2.1 = 0 → kRel (xu w 6 s) 1 r)
section KY
variable {w : xW} {l : Nat → Nat → Int64} {t : Nat} {sc : xm_Sc} {d n : Nat} {f : Nat → Int32} {T T' : xTk} {v : Int32} {s : xG} {r : Nat → Int32}
theorem ks_g : kTw (xu w 6 s) T v 6 = s := by rw [kTw_ne (by omega), xu_same]
theorem ks_s {q : xG} : xu (kTw (xu w 6 s) T v) 6 q = kTw (xu w 6 q) T v := by rw [kTw_xu (by omega), xu_xu]
theorem kR_req (hB : kBy w f n) (h : kAs w f n T T' v s r) (hw : sp_wrd f T 5) (h40 : xnq r < 40) :
    ∃ T'' v'' s'', xm_R sc xt_M (d + 6) 9 2 [.ref 21, .ref (xh 1), .int (nI (xnq r))] [] (xem (kTw (xu w 6 s) T' v) l t) = xm_R sc xt_M (d + 6) 9 2 [.ref 21, .ref (xh 1), .int (nI (xnq r + 1))] [] (xem (kTw (xu w 6 s'') T'' v'') l t) ∧ kAs w f n (sp_ask1 f n (T, r)).1 T'' v'' s'' (sp_ask1 f n (T, r)).2 ∧ ((sp_ask1 f n (T, r)).1.2.2.2.1 = 0 → xnq (sp_ask1 f n (T, r)).2 = xnq r + 1) := by
  obtain ⟨hT, hR, h0, hrel⟩ := h
  have hL := hrel hw.1.1
  have hW := hL.W
  have hBd := hW.bd
  have hb6 := hBd.b6
  have hk20 := hBd.k20
  have hb2 : 2 ≤ xnb r := hW.n.1
  have hBs : ∀ q : xG, kBy (xu w 6 q) f n := fun q => kBy_xu (by omega) hB
  have c94 := @kR_word (xu w 6 s) l t sc (d + 1) n f T T' v 5 5 (hBs s) (by decide) rfl hT hR
  obtain ⟨T1, v1, c86, hR1⟩ := @kR_adv (xu w 6 s) l t sc (d + 3) n f (hBs s) T T' v hT hR
  have e3 : sp_ak3 f n T r = sp_adv f n T := sp_ak3_w hw h40
  rw [← e3] at hR1
  have hT3 : sp_tw f n (sp_ak3 f n T r) := sp_tw_ak3 hT
  have hT4 : sp_tw f n (sp_ak4 f n T r) := sp_tw_ak4 hT
  -- the book
  obtain ⟨T2, v2, c99, hR2⟩ := @kR_passNumber (xu w 6 s) l t sc (d + 1) n f (sp_ak3 f n T r) T1 v1 0 (r 2 - 1) (hBs s) (by
    rw [hBd.k]
    cases hkk : xnk r with
    | zero => decide
    | succ q => rw [nI_pred]; exact nI_lt (b := 1000000) (by omega) (by omega)) hT3 hR1
  rw [← @sp_rnV_eq n f (sp_ak3 f n T r) 0 (r 2 - 1), ← sp_akB_u] at c99
  rw [← sp_ak4_u] at hR2
  have hab : ∃ a, a < 20 ∧ sp_akB f n T r = nI a := by
    rw [sp_akB_u]
    by_cases z : (sp_rnT f n (sp_ak3 f n T r) 0 (r 2 - 1)).2.2.2.1 = 0
    · obtain ⟨_, _, z3, _, z5⟩ := sp_rnT_ok z
      rw [z5]
      rw [hBd.k] at z3
      obtain ⟨a, ha, e⟩ := zrg (by omega) z3
      exact ⟨a, by omega, e⟩
    · unfold sp_rnV
      rw [if_neg z]
      exact ⟨0, by omega, rfl⟩
  obtain ⟨a, ha, ea⟩ := hab
  -- the reader
  obtain ⟨T3, c98, hR3⟩ := @kR_peek (xu w 6 s) l t sc (d + 2) n f (sp_ak4 f n T r) T2 v2 0 99 (hBs s) (by decide) hT4 hR2
  rw [← sp_ak6_u, show sp_val f (sp_rn1 (sp_ak4 f n T r)) = sp_val f (sp_ak4 f n T r) from sp_val_check] at c98
  rw [← sp_ak6_u] at hR3
  have hT6 : sp_tw f n (sp_ak6 f n T r) := sp_tw_ak6 hT
  generalize hrv : (if (sp_ak6 f n T r).2.2.2.1 = 0 then sp_val f (sp_ak4 f n T r) else 0) = rv at *
  have hrelT : ∀ T0 v0, kRel (kTw (xu w 6 s) T0 v0) 1 r := fun T0 v0 => kRel_Tw hL
  have c44 := @kc_44 (kTw (xu w 6 s) T3 v2) l t sc (d + 4) 1 r (sp_akB f n T r) rv (by omega) (hrelT T3 v2)
  have pk : ∀ T0 v0, xm_gI (xem (kTw (xu w 6 s) T0 v0) l t) (xp (xpi ((kTw (xu w 6 s) T0 v0) (1 + 5)))) 2 2 = some (r 2) := fun T0 v0 => by
    rw [xgP_2 xpi_lt, (hrelT T0 v0).pk, hBd.k]
  have pb : ∀ T0 v0, xm_gI (xem (kTw (xu w 6 s) T0 v0) l t) (xp (xpi ((kTw (xu w 6 s) T0 v0) (1 + 5)))) 2 0 = some (r 0) := fun T0 v0 => by
    rw [xgP_0 xpi_lt, (hrelT T0 v0).pb, hBd.b]
  have s41 : ∃ T4, xm_C sc xt_M (d + 6) 10 [.ref 21, .ref (xh 1)] (xem (kTw (xu w 6 s) T1 v1) l t) = xm_R sc xt_M (d + 5) 10 41 [.ref 21, .ref (xh 1), .int (sp_akB f n T r), .int rv, .null] [] (xem (kTw (xu w 6 s) T4 v2) l t) ∧ kTR f (sp_ak7 f n T r) T4 v2 := by
    have hq40 := hBd.q40
    have h10 : xm_C sc xt_M (d + 6) 10 [.ref 21, .ref (xh 1)] (xem (kTw (xu w 6 s) T1 v1) l t) = (if toJ (sp_by r (sp_akB f n T r) rv) = -1 then xm_R sc xt_M (d + 5) 10 41 [.ref 21, .ref (xh 1), .int (sp_akB f n T r), .int rv, .null] [] (xem (kTw (xu w 6 s) T3 v2) l t) else if xm_isO (xem (kTw (xu w 6 s) T3 v2) l t) (.ref 21) 5 = true then (xm_C sc xt_M (d + 5) 85 [.ref 21, .int 4] (xem (kTw (xu w 6 s) T3 v2) l t)).bind fun o14 => xm_r0 o14 (fun S13 => xm_R sc xt_M (d + 5) 10 41 [.ref 21, .ref (xh 1), .int (sp_akB f n T r), .int rv, .null] [] S13) (fun e S => some (.inr e, S)) else none) := by
      rw [yc_10, xgS_0 (by omega), zbs, pk, zbs, if_pos xiT, c99, zbs, xk_I, if_pos xiT, c98, zbs, xk_I, xgS_10 (by omega), zbs, if_pos (xiQ (by omega)), c44, zbs, xk_I]
    rw [h10, sp_ak7_u]
    cases e : sp_by r (sp_akB f n T r) rv with
    | none =>
      rw [if_pos (show toJ none = -1 from rfl)]
      refine ⟨T3, rfl, ?_⟩
      have : sp_check (sp_ak6 f n T r) (if (sp_ak6 f n T r).2.2.2.1 = 0 ∧ ¬ sp_by r (sp_akB f n T r) (sp_val f (sp_ak4 f n T r)) = none then 0 else 1) 4 = sp_ak6 f n T r := by
        by_cases z : (sp_ak6 f n T r).2.2.2.1 = 0
        · rw [if_pos z] at hrv
          rw [hrv, e, if_neg (fun u => u.2 rfl), sp_check_1]
        · exact sp_check_e z
      rw [this]
      exact hR3
    | some q =>
      have hq := sp_by_lt e
      obtain ⟨T4, c85, hR4⟩ := @kR_flaw (xu w 6 s) l t sc (d + 3) f (sp_ak6 f n T r) T3 v2 4 (by decide) hR3
      rw [if_neg (show ¬ toJ (some q) = -1 from toJ_ne (by omega)), if_pos xiT, c85, zbs, xk_v]
      refine ⟨T4, rfl, ?_⟩
      have : sp_check (sp_ak6 f n T r) (if (sp_ak6 f n T r).2.2.2.1 = 0 ∧ ¬ sp_by r (sp_akB f n T r) (sp_val f (sp_ak4 f n T r)) = none then 0 else 1) 4 = sp_flaw (sp_ak6 f n T r) 4 := by
        by_cases z : (sp_ak6 f n T r).2.2.2.1 = 0
        · rw [if_pos z] at hrv
          rw [hrv, e, if_pos ⟨z, fun u => by cases u⟩, sp_check_0]
        · rw [sp_check_e z, sp_flaw_e z]
      rw [this]
      exact hR4
  obtain ⟨T4, e41, hR4⟩ := s41
  have hT7 : sp_tw f n (sp_ak7 f n T r) := sp_tw_ak7 hT
  obtain ⟨T5, v5, c86b, hR5⟩ := @kR_adv (xu w 6 s) l t sc (d + 2) n f (hBs s) (sp_ak7 f n T r) T4 v2 hT7 hR4
  rw [← sp_ak8_u] at hR5
  have hT8 : sp_tw f n (sp_ak8 f n T r) := sp_tw_ak8 hT
  obtain ⟨T6, v6, c99b, hR6⟩ := @kR_passNumber (xu w 6 s) l t sc (d + 1) n f (sp_ak8 f n T r) T5 v5 0 (r 0 - 1) (hBs s) (by
    rw [hBd.b, show xnb r = (xnb r - 1) + 1 by omega, nI_pred]
    exact nI_lt (b := 1000000) (by omega) (by omega)) hT8 hR5
  rw [← @sp_rnV_eq n f (sp_ak8 f n T r) 0 (r 0 - 1), ← sp_akW_u] at c99b
  rw [← sp_ak9_u] at hR6
  have hT9 : sp_tw f n (sp_ak9 f n T r) := sp_tw_ak9 hT
  have hwb : ∃ b, b < xnb r ∧ sp_akW f n T r = nI b := by
    rw [sp_akW_u]
    have h01 : 0 ≤ r 0 - 1 := by
      rw [hBd.b, show xnb r = (xnb r - 1) + 1 by omega, nI_pred]
      exact nI_pos' (by omega)
    have rg := @sp_rnV_rng f n (sp_ak8 f n T r) 0 (r 0 - 1) h01
    rw [hBd.b] at rg ⊢
    obtain ⟨b, hb, e⟩ := zrg (by omega) rg
    exact ⟨b, hb, e⟩
  obtain ⟨b, hb, eb⟩ := hwb
  obtain ⟨T7, v7, c96, hR7⟩ := @kR_passSign (xu w 6 s) l t sc (d + 1) n f (sp_ak9 f n T r) T6 v6 (hBs s) hT9 hR6
  -- the request
  have main : ∃ s'', xm_C sc xt_M (d + 5) 56 [.ref (xh 1), .int (sp_akB f n T r), .int rv, .int (sp_akW f n T r)] (xem (kTw (xu w 6 s) T7 v7) l t) = some (.inl none, xem (kTw (xu w 6 s'') T7 v7) l t) ∧ s''.1 0 = (w 6).1 0 ∧ ((sp_ask1 f n (T, r)).1.2.2.2.1 = 0 → kRel (xu w 6 s'') 1 (sp_ask1 f n (T, r)).2) := by
    by_cases z : (sp_ak9 f n T r).2.2.2.1 = 0
    · obtain ⟨z1, z2, z3, z4, z5, z6⟩ := sp_ak9_ok hBd z
      have ez : sp_akR f n T r = rv := by
        have z7 : (sp_ak7 f n T r).2.2.2.1 = 0 := by
          have y := z
          rw [sp_ak9_u] at y
          have y1 := (sp_rnT_ok y).1
          rw [sp_ak8_u] at y1
          exact (congrArg Prod.fst (@sp_adv_err f n (sp_ak7 f n T r))).symm.trans y1
        have z8 := z7
        rw [sp_ak7_u] at z8
        have z9 := (sp_check_ok (by decide) z8).1
        rw [if_pos z9] at hrv
        rw [sp_akR_u, if_pos z7, hrv]
      rw [ez] at z4 z6
      have ha' : a < xnk r := by
        have := z3.2
        rw [ea, nI_clamp (by omega)] at this
        exact this
      obtain ⟨s2, c56, q1, q2⟩ := @kc_56 (kTw (xu w 6 s) T7 v7) l t sc (d + 3) 1 r a b rv (by omega) (hrelT T7 v7) h40 ha' hb
      rw [ea, eb]
      refine ⟨s2, ?_, ?_, fun _ => ?_⟩
      · rw [c56]
        show some (Sum.inl none, xem (xu (kTw (xu w 6 s) T7 v7) 6 s2) l t) = _
        rw [ks_s]
      · rw [q1]
        show (kTw (xu w 6 s) T7 v7 6).1 0 = _
        rw [ks_g]
        exact h0
      · have e2 : (sp_ask1 f n (T, r)).2 = sp_addq r (nI a) rv (nI b) := by rw [sp_ask1_b, if_pos z, ez, ea, eb]
        rw [e2]
        rw [ea] at z6
        refine kRel_of (xWF_addq hW z2 ha' hb z4 z6) ?_
        have q2' : kRl (xu (kTw (xu w 6 s) T7 v7) 6 s2) 1 (sp_addq r (nI a) rv (nI b)) := q2
        rw [ks_s] at q2'
        have e7 : ∀ g, g ≠ 0 → kTw (xu w 6 s2) T7 v7 g = xu w 6 s2 g := fun g hg => kTw_ne hg
        unfold kRl at q2' ⊢
        rw [e7 (1 + 5) (by omega), e7 (xpi (xu w 6 s2 (1 + 5)) + 1) (by omega)] at q2'
        exact q2'
    · obtain ⟨s2, c56, q1⟩ := @kc_56x (kTw (xu w 6 s) T7 v7) l t sc (d + 3) 1 r a b rv (by omega) (hrelT T7 v7) h40 ha hb
      rw [ea, eb]
      refine ⟨s2, ?_, ?_, fun y => ?_⟩
      · rw [c56]
        show some (Sum.inl none, xem (xu (kTw (xu w 6 s) T7 v7) 6 s2) l t) = _
        rw [ks_s]
      · rw [q1]
        show (kTw (xu w 6 s) T7 v7 6).1 0 = _
        rw [ks_g]
        exact h0
      · rw [sp_ask1_a, sp_exp2_e z] at y
        exact absurd y z
  obtain ⟨s2, c56, q1, q2⟩ := main
  refine ⟨T7, v7, s2, ?_, ⟨?_, ?_, q1, q2⟩, fun y => ?_⟩
  · rw [yb_9_2, if_neg (show ¬ (40 : Int32) ≤ nI (xnq r) from nI_ge (a := xnq r) (b := 40) h40 (by omega)), if_pos xiT, c94, zbs, xk_I, zB_tt hw, if_neg (show ¬ (1 : Int32) = 0 by decide), if_pos xiT, c86, zbs, xk_v, e41, yb_10_41, if_pos xiT, c86b, zbs, xk_v, xgS_0 (by omega), zbs, pb, zbs, if_pos xiT, c99b, zbs, xk_I, if_pos xiT, c96, zbs, xk_v, if_pos (xiS (by omega)), c56, zbs, xk_v, zbs, xk_v, zS]
  · rw [sp_ask1_a]
    exact sp_tw_exp2 hT9
  · rw [sp_ask1_a]
    exact hR7
  · exact (sp_ask1_bd hBd hT).2.2 y
theorem kR_qloop (hB : kBy w f n) : ∀ k (T T' : xTk) (v : Int32) (s : xG) (r : Nat → Int32) (j : Nat), j + k = 40 → kAs w f n T T' v s r → (T.2.2.2.1 = 0 → xnq r = j) →
    ∃ Tm T'' v'' s'' rm, xm_R sc xt_M (d + 6) 9 2 [.ref 21, .ref (xh 1), .int (nI j)] [] (xem (kTw (xu w 6 s) T' v) l t) = some (.inl none, xem (kTw (xu w 6 s'') T'' v'') l t) ∧ kAs w f n Tm T'' v'' s'' rm ∧ sp_asks f n (k + 1) (T, r) = (if Tm.2.2.1 = 0 then Tm else sp_flaw Tm 1, rm) := by
  intro k
  have fin : ∀ (T T' : xTk) (v : Int32) (s : xG) (r : Nat → Int32) (j k : Nat), j ≤ 40 → ¬ sp_wrd f T 5 → kAs w f n T T' v s r → ∃ Tm T'' v'' s'' rm, xm_R sc xt_M (d + 6) 9 2 [.ref 21, .ref (xh 1), .int (nI j)] [] (xem (kTw (xu w 6 s) T' v) l t) = some (.inl none, xem (kTw (xu w 6 s'') T'' v'') l t) ∧ kAs w f n Tm T'' v'' s'' rm ∧ sp_asks f n (k + 1) (T, r) = (if Tm.2.2.1 = 0 then Tm else sp_flaw Tm 1, rm) := by
    intro T T' v s r j k hj hw h
    have c94 := @kR_word (xu w 6 s) l t sc (d + 1) n f T T' v 5 5 (kBy_xu (by omega) hB) (by decide) rfl h.1 h.2.1
    rw [zB_ff hw] at c94
    refine ⟨T, T', v, s, r, ?_, h, ?_⟩
    · rw [yb_9_2]
      by_cases hj4 : 40 ≤ j
      · rw [if_pos (show (40 : Int32) ≤ nI j from nI_le (a := 40) hj4 (by omega)), yb_9_32, if_pos xiT, c94, zbs, xk_I, if_pos rfl, yb_9_46]
      · rw [if_neg (show ¬ (40 : Int32) ≤ nI j from nI_ge (a := j) (b := 40) (by omega) (by omega)), if_pos xiT, c94, zbs, xk_I, if_pos rfl, yb_9_32, if_pos xiT, c94, zbs, xk_I, if_pos rfl, yb_9_46]
    · rw [sp_asks_s]
      by_cases h0 : T.2.2.2.1 = 0
      · by_cases hk : T.2.2.1 = 0
        · rw [if_neg (show ¬ ((T, r).1.2.2.2.1 = 0 ∧ ¬ (T, r).1.2.2.1 = 0) from fun z => z.2 hk), if_pos hk]
        · rw [if_pos (show (T, r).1.2.2.2.1 = 0 ∧ ¬ (T, r).1.2.2.1 = 0 from ⟨h0, hk⟩), sp_ask1_n hw, sp_asks_e (sp_flaw_err (by decide)), if_neg hk]
      · rw [if_neg (show ¬ ((T, r).1.2.2.2.1 = 0 ∧ ¬ (T, r).1.2.2.1 = 0) from fun z => h0 z.1), sp_flaw_e h0]
        split <;> rfl
  induction k with
  | zero =>
    intro T T' v s r j hk h hq
    by_cases hw : sp_wrd f T 5
    · have c94 := @kR_word (xu w 6 s) l t sc (d + 1) n f T T' v 5 5 (kBy_xu (by omega) hB) (by decide) rfl h.1 h.2.1
      rw [zB_tt hw] at c94
      obtain ⟨T3, c85, hR3⟩ := @kR_flaw (xu w 6 s) l t sc (d + 4) f T T' v 3 (by decide) h.2.1
      have ne := @sp_flaw_err T 3 (by decide)
      have hT3 : sp_tw f n (sp_flaw T 3) := by
        have := @sp_tw_check f n T 0 3 h.1
        rw [sp_check_0] at this
        exact this
      refine ⟨sp_flaw T 3, T3, v, s, r, ?_, ⟨hT3, hR3, h.2.2.1, fun z => absurd z ne⟩, ?_⟩
      · rw [yb_9_2, if_pos (show (40 : Int32) ≤ nI j from nI_le (a := 40) (by omega) (by omega)), yb_9_32, if_pos xiT, c94, zbs, xk_I, if_neg (show ¬ (1 : Int32) = 0 by decide), if_pos xiT, c85, zbs, xk_v, yb_9_46]
      · have hk0 : ¬ T.2.2.1 = 0 := fun z => by
          have := hw.1.2.1
          rw [z] at this
          exact absurd this (by decide)
        rw [sp_asks_s, if_pos (show (T, r).1.2.2.2.1 = 0 ∧ ¬ (T, r).1.2.2.1 = 0 from ⟨hw.1.1, hk0⟩), sp_asks_0, sp_ask1_40 hw (by rw [hq hw.1.1]; omega), sp_flaw_e ne]
        split <;> rfl
    · exact fin T T' v s r j 0 (by omega) hw h
  | succ k ih =>
    intro T T' v s r j hk h hq
    by_cases hw : sp_wrd f T 5
    · have hk0 : ¬ T.2.2.1 = 0 := fun z => by
        have := hw.1.2.1
        rw [z] at this
        exact absurd this (by decide)
      have e := hq hw.1.1
      obtain ⟨T1, v1, s1, e1, g1, n1⟩ := @kR_req w l t sc d n f T T' v s r hB h hw (by omega)
      obtain ⟨Tm, T2, v2, s2, rm, e2, g2, z2⟩ := ih (sp_ask1 f n (T, r)).1 T1 v1 s1 (sp_ask1 f n (T, r)).2 (j + 1) (by omega) g1 (fun z => by rw [n1 z, e])
      rw [xLe (sp_ask1 f n (T, r))] at z2
      rw [e] at e1
      refine ⟨Tm, T2, v2, s2, rm, e1.trans e2, g2, ?_⟩
      rw [sp_asks_s, if_pos (show (T, r).1.2.2.2.1 = 0 ∧ ¬ (T, r).1.2.2.1 = 0 from ⟨hw.1.1, hk0⟩)]
      exact z2
    · exact fin T T' v s r j (k + 1) (by omega) hw h
end KY
