/-! THE CLASS: a query: signs, values -/
def q_sh (x : Int32) : Int32 := if x = -1 then 99 else x
def q_pr (r : Nat → Int32) (b : Nat) : Nat → Int32
  | 0 => nI b
  | 1 => r (56 + 6 * b)
  | 2 => q_sh (r (57 + 6 * b))
  | 3 => r (58 + 6 * b)
  | 4 => q_sh (sp_goal r b)
  | 5 => sp_queue r (nI b)
  | _ => r (59 + 6 * b)
/-- what a value tells of a book -/
def q_pv (r : Nat → Int32) (c : Int32) (b : Nat) : Int32 := if c < 0 then q_pr r b ((-1) - c).toNatClampNeg else c
def q_ok (c : Int32) : Prop := (∃ i, i < 7 ∧ c = (-1) - nI i) ∨ (0 ≤ c ∧ c ≤ 9999)
theorem q_pv_n {r : Nat → Int32} {c : Int32} {b : Nat} (h : 0 ≤ c) : q_pv r c b = c := if_neg (Int32.not_lt.mpr h)
theorem q_pv_i {r : Nat → Int32} {i b : Nat} (h : i < 7) : q_pv r ((-1) - nI i) b = q_pr r b i := by
  match i, h with
  | 0, _ => rfl
  | 1, _ => rfl
  | 2, _ => rfl
  | 3, _ => rfl
  | 4, _ => rfl
  | 5, _ => rfl
  | 6, _ => rfl
  | _ + 7, h => omega
theorem q_ti {c : Int32} (h : 0 ≤ c) {k : Int} (hk : k < 0) : ¬ c.toInt = k := by
  have := Int32.le_iff_toInt_le.mp h
  rw [show (0 : Int32).toInt = 0 from rfl] at this
  omega
section KQ1
variable {w : xW} {l : Nat → Nat → Int64} {t : Nat} {sc : xm_Sc} {d n : Nat} {f : Nat → Int32} {T T' : xTk} {v : Int32} {r : Nat → Int32}
theorem kR_signC {c : Nat} (hc : c < 128) (hB : kBy w f n) (hT : sp_tw f n T) (h : kTR f T T' v) : xm_C sc xt_M (d + 1) 93 [.ref 21, .int (nI c)] (xem (kTw w T' v) l t) = some (.inl (some (.int (zB (sp_sym f T (nI c))))), xem (kTw w T' v) l t) := by
  obtain ⟨h1, h2, h3⟩ := h
  rw [yc_93, xgK8, zbs]
  unfold sp_sym
  by_cases h0 : T.2.2.2.1 = 0
  · obtain ⟨a1, a2, a3, a4, a5, a6⟩ := h2 h0
    rw [a3]
    by_cases z : T.2.2.1 = 3
    · obtain ⟨hp, s, hs, hsp, _, hs3⟩ := hT
      have h8 := hB.2.2.1
      have es : T.2.1.toNatClampNeg = s := by rw [hs, nI_clamp (by have := hs3 z; omega)]
      have hx := (hB.2.2.2 s (hs3 z)).2
      have t5 : kby (f s) = nI c ↔ f s = nI c := iff_of_eq (kby_c hx hc)
      unfold sp_cv at a6
      rw [if_neg (by rw [z]; decide), if_pos z, es] at a6
      rw [if_pos z, xgK11, zbs, es, a6]
      by_cases y : f s = nI c
      · rw [if_pos (t5.mpr y), zB_tt (c := T.2.2.2.1 = 0 ∧ T.2.2.1 = 3 ∧ f s = nI c) ⟨h0, z, y⟩]
      · rw [if_neg (fun u => y (t5.mp u)), yb_93_20, zB_ff (c := T.2.2.2.1 = 0 ∧ T.2.2.1 = 3 ∧ f s = nI c) (fun u => y u.2.2)]
    · rw [if_neg z, yb_93_20, zB_ff (c := T.2.2.2.1 = 0 ∧ T.2.2.1 = 3 ∧ f T.2.1.toNatClampNeg = nI c) (fun y => z y.2.1)]
  · rw [(h3 h0).1, if_neg (by decide), yb_93_20, zB_ff (c := T.2.2.2.1 = 0 ∧ T.2.2.1 = 3 ∧ f T.2.1.toNatClampNeg = nI c) (fun y => h0 y.1)]
theorem kR_passSignC {c : Nat} (hc : c < 128) (hB : kBy w f n) (hT : sp_tw f n T) (h : kTR f T T' v) : ∃ T'' v', xm_C sc xt_M (d + 4) 96 [.ref 21, .int (nI c)] (xem (kTw w T' v) l t) = some (.inl none, xem (kTw w T'' v') l t) ∧ kTR f (sp_exp2 f n T (nI c)) T'' v' := by
  have c93 := @kR_signC w l t sc (d + 2) n f T T' v c hc hB hT h
  unfold sp_exp2
  by_cases g : sp_sym f T (nI c)
  · rw [zB_tt g] at c93 ⊢
    rw [sp_check_1]
    obtain ⟨T2, v2, c86, hR⟩ := @kR_adv w l t sc d n f hB T T' v hT h
    refine ⟨T2, v2, ?_, hR⟩
    rw [yc_96, if_pos xiT, c93, zbs, xk_I, if_neg (by decide), yb_96_13, if_pos xiT, c86, zbs, xk_v]
  · rw [zB_ff g] at c93 ⊢
    have hT2 : sp_tw f n (sp_flaw T 1) := by
      have := @sp_tw_check f n T 0 1 hT
      rw [sp_check_0] at this
      exact this
    rw [sp_check_0]
    obtain ⟨T1, c85, hR1⟩ := @kR_flaw w l t sc (d + 1) f T T' v 1 (by decide) h
    obtain ⟨T2, v2, c86, hR⟩ := @kR_adv w l t sc d n f hB (sp_flaw T 1) T1 v hT2 hR1
    refine ⟨T2, v2, ?_, hR⟩
    rw [yc_96, if_pos xiT, c93, zbs, xk_I, if_pos rfl, if_pos xiT, c85, zbs, xk_v, yb_96_13, if_pos xiT, c86, zbs, xk_v]
theorem kc_35 {x : Int32} {S : xm_PS} : xm_C sc xt_M (d + 1) 35 [.int x] S = some (.inl (some (.int (q_sh x))), S) := by
  rw [yc_35]
  unfold q_sh
  split <;> rfl
theorem kc_34 {c : Int32} {b : Nat} (hR : kRel w 0 r) (hb : b < xnk r) (ok : q_ok c) : xm_C sc xt_M (d + 3) 34 [.int c, .ref (xh 0), .int (nI b)] (xem w l t) = some (.inl (some (.int (q_pv r c b))), xem w l t) := by
  have hk20 := hR.W.bd.k20
  have g0 : xm_gR (xem w l t) (xh 0) 4 0 = some (xp (xpi (w 5))) := xgS_0 (k := 0) (by omega)
  have n7 : (-7 : Int32).toInt = -7 := by decide
  have n6 : (-6 : Int32).toInt = -6 := by decide
  have n5 : (-5 : Int32).toInt = -5 := by decide
  have n4 : (-4 : Int32).toInt = -4 := by decide
  have n3 : (-3 : Int32).toInt = -3 := by decide
  have n2 : (-2 : Int32).toInt = -2 := by decide
  have n1 : (-1 : Int32).toInt = -1 := by decide
  rw [yc_34]
  rcases ok with ⟨i, hi, e⟩ | ⟨h1, h2⟩
  · rw [e, q_pv_i hi]
    have hc7 : i = 0 ∨ i = 1 ∨ i = 2 ∨ i = 3 ∨ i = 4 ∨ i = 5 ∨ i = 6 := by omega
    clear e hi
    rcases hc7 with rfl | rfl | rfl | rfl | rfl | rfl | rfl
    · rw [show (-1 : Int32) - nI 0 = -1 from by decide, n1, if_neg (by decide), if_neg (by decide), if_neg (by decide), if_neg (by decide), if_neg (by decide), if_neg (by decide), if_pos rfl]
      rfl
    · rw [show (-1 : Int32) - nI 1 = -2 from by decide, n2, if_neg (by decide), if_neg (by decide), if_neg (by decide), if_neg (by decide), if_neg (by decide), if_pos rfl, xgS_6 (k := 0) (by omega), zbs, zSa_1 (k := 0) (by omega) (by omega), zbs, hR.kind hb]
      rfl
    · rw [show (-1 : Int32) - nI 2 = -3 from by decide, n3, if_neg (by decide), if_neg (by decide), if_neg (by decide), if_neg (by decide), if_pos rfl, xgS_7 (k := 0) (by omega), zbs, zSa_2 (k := 0) (by omega) (by omega), zbs, hR.place hb, kc_35, zbs, xk_I]
      rfl
    · rw [show (-1 : Int32) - nI 3 = -4 from by decide, n4, if_neg (by decide), if_neg (by decide), if_neg (by decide), if_pos rfl, g0, zbs, xgP_6 xpi_lt, zbs, zPa_3 xpi_lt (by omega), zbs, show (w (xpi (w 5) + 1)).2 3 b = r (58 + 6 * b) from hR.home hb]
      rfl
    · rw [show (-1 : Int32) - nI 4 = -5 from by decide, n5, if_neg (by decide), if_neg (by decide), if_pos rfl, if_pos (xiS (by omega)), kc_67 (by omega) hR hb, zbs, xk_I, kc_35, zbs, xk_I]
      rfl
    · rw [show (-1 : Int32) - nI 5 = -6 from by decide, n6, if_neg (by decide), if_pos rfl, xgS_10 (k := 0) (by omega), zbs, if_pos (xiQ (by omega)), kc_47 (by omega) hR, zbs, xk_I]
      rfl
    · rw [show (-1 : Int32) - nI 6 = -7 from by decide, n7, if_pos rfl, if_pos (xiS (by omega)), kc_62 (by omega) hR hb, zbs, xk_I]
      show _ = some (Sum.inl (some (Value.int (r (59 + 6 * b)))), _)
      rcases (hR.W.k b hb).2.2.1 with z | z
      · rw [z, zB_ff (by decide), if_pos rfl]
      · rw [z, zB_tt rfl, if_neg (show ¬ (1 : Int32) = 0 by decide)]
  · rw [q_pv_n h1, if_neg (q_ti h1 (by omega)), if_neg (q_ti h1 (by omega)), if_neg (q_ti h1 (by omega)), if_neg (q_ti h1 (by omega)), if_neg (q_ti h1 (by omega)), if_neg (q_ti h1 (by omega)), if_neg (q_ti h1 (by omega))]
/-- a property's name -/
theorem kR_33 (hB : kBy w f n) (hT : sp_tw f n T) (h : kTR f T T' v) : ∃ T'', xm_C sc xt_M (d + 6) 33 [.ref 21] (xem (kTw w T' v) l t) = some (.inl (some (.int ((-1) - nI (min (q_nm f T) 6)))), xem (kTw w T'' v) l t) ∧ kTR f (sp_check T (if q_nm f T = 7 then 0 else 1) 1) T'' v := by
  have c94 := fun (k k' : Nat) (hk' : k' < 43) (he : xm_str k' = xm_str k) => @kR_word w l t sc d n f T T' v k k' hB hk' he hT h
  rw [yc_33, if_pos xiT, c94 27 18 (by decide) rfl, zbs, xk_I]
  unfold q_nm
  by_cases h0 : sp_wrd f T 27
  · rw [zB_tt h0, if_neg (show ¬ (1 : Int32) = 0 by decide), if_pos h0, if_neg (by decide), sp_check_1]
    exact ⟨T', rfl, h⟩
  rw [zB_ff h0, if_pos rfl, if_neg h0, if_pos xiT, c94 28 19 (by decide) rfl, zbs, xk_I]
  by_cases h1 : sp_wrd f T 28
  · rw [zB_tt h1, if_neg (show ¬ (1 : Int32) = 0 by decide), if_pos h1, if_neg (by decide), sp_check_1]
    exact ⟨T', rfl, h⟩
  rw [zB_ff h1, if_pos rfl, if_neg h1, if_pos xiT, c94 29 20 (by decide) rfl, zbs, xk_I]
  by_cases h2 : sp_wrd f T 29
  · rw [zB_tt h2, if_neg (show ¬ (1 : Int32) = 0 by decide), if_pos h2, if_neg (by decide), sp_check_1]
    exact ⟨T', rfl, h⟩
  rw [zB_ff h2, if_pos rfl, if_neg h2, if_pos xiT, c94 30 21 (by decide) rfl, zbs, xk_I]
  by_cases h3 : sp_wrd f T 30
  · rw [zB_tt h3, if_neg (show ¬ (1 : Int32) = 0 by decide), if_pos h3, if_neg (by decide), sp_check_1]
    exact ⟨T', rfl, h⟩
  rw [zB_ff h3, if_pos rfl, if_neg h3, if_pos xiT, c94 31 22 (by decide) rfl, zbs, xk_I]
  by_cases h4 : sp_wrd f T 31
  · rw [zB_tt h4, if_neg (show ¬ (1 : Int32) = 0 by decide), if_pos h4, if_neg (by decide), sp_check_1]
    exact ⟨T', rfl, h⟩
  rw [zB_ff h4, if_pos rfl, if_neg h4, if_pos xiT, c94 32 23 (by decide) rfl, zbs, xk_I]
  by_cases h5 : sp_wrd f T 32
  · rw [zB_tt h5, if_neg (show ¬ (1 : Int32) = 0 by decide), if_pos h5, if_neg (by decide), sp_check_1]
    exact ⟨T', rfl, h⟩
  rw [zB_ff h5, if_pos rfl, if_neg h5, if_pos xiT, c94 33 24 (by decide) rfl, zbs, xk_I]
  by_cases h6 : sp_wrd f T 33
  · rw [zB_tt h6, if_neg (show ¬ (1 : Int32) = 0 by decide), if_pos h6, if_neg (by decide), sp_check_1, yb_33_85]
    exact ⟨T', rfl, h⟩
  · obtain ⟨T1, c85, hR1⟩ := @kR_flaw w l t sc (d + 3) f T T' v 1 (by decide) h
    rw [zB_ff h6, if_pos rfl, if_neg h6, if_pos rfl, sp_check_0, if_pos xiT, c85, zbs, xk_v, yb_33_85]
    exact ⟨T1, rfl, hR1⟩
theorem kR_32 (hB : kBy w f n) (hT : sp_tw f n T) (h : kTR f T T' v) : ∃ T'' v'' cv, xm_C sc xt_M (d + 7) 32 [.ref 21] (xem (kTw w T' v) l t) = some (.inl (some (.int cv)), xem (kTw w T'' v'') l t) ∧ kTR f (q_vT f n T) T'' v'' ∧ q_ok cv ∧ ((q_vT f n T).2.2.2.1 = 0 → cv = q_vC f n T) := by
  have c92 := @kR_num w l t sc (d + 5) f T T' v h
  rw [yc_32, if_pos xiT, c92, zbs, xk_I]
  by_cases h2 : T.2.2.2.1 = 0 ∧ T.2.2.1 = 2
  · have hz : ¬ (T.2.2.2.1 = 0 ∧ ¬ T.2.2.1 = 2) := fun z => z.2 h2.2
    have eT : q_vT f n T = sp_rnT f n T 0 9999 := q_vT_u.trans (if_neg hz)
    have eC : q_vC f n T = sp_rnV f n T 0 9999 := q_vC_u.trans (if_neg hz)
    obtain ⟨T1, c98, hR1⟩ := @kR_peek w l t sc (d + 3) n f T T' v 0 9999 hB (by decide) hT h
    rw [← @sp_rnV_eq n f T 0 9999] at c98
    obtain ⟨T2, v2, c86, hR2⟩ := @kR_adv w l t sc (d + 3) n f hB (sp_rn2 f T 0 9999) T1 v (sp_tw_check (sp_tw_check hT)) hR1
    rw [zB_tt h2, if_neg (show ¬ (1 : Int32) = 0 by decide), if_pos xiT, c98, zbs, xk_I, if_pos xiT, c86, zbs, xk_v, eT, eC]
    exact ⟨T2, v2, _, rfl, hR2, Or.inr (@sp_rnV_rng f n T 0 9999 (by decide)), fun _ => rfl⟩
  · obtain ⟨T1, c33, hR1⟩ := @kR_33 w l t sc d n f T T' v hB hT h
    obtain ⟨T2, v2, c86, hR2⟩ := @kR_adv w l t sc (d + 3) n f hB (sp_check T (if q_nm f T = 7 then 0 else 1) 1) T1 v (sp_tw_check hT) hR1
    rw [zB_ff h2, if_pos rfl, c33, zbs, xk_I, if_pos xiT, c86, zbs, xk_v]
    refine ⟨T2, v2, _, rfl, ?_, Or.inl ⟨min (q_nm f T) 6, by omega, rfl⟩, fun z => ?_⟩
    · rw [q_vT_u]
      by_cases h0 : T.2.2.2.1 = 0
      · rw [if_pos ⟨h0, fun u => h2 ⟨h0, u⟩⟩]
        exact hR2
      · rw [if_neg (fun u => h0 u.1), sp_rnT_e h0]
        rw [sp_check_e h0, sp_adv_e h0] at hR2
        exact hR2
    · rw [q_vT_u] at z
      rw [q_vC_u]
      by_cases h0 : T.2.2.2.1 = 0
      · rw [if_pos ⟨h0, fun u => h2 ⟨h0, u⟩⟩] at z ⊢
        have z0 : (sp_check T (if q_nm f T = 7 then 0 else 1) 1).2.2.2.1 = 0 := (congrArg Prod.fst sp_adv_err).symm.trans z
        have h7 : ¬ q_nm f T = 7 := fun u => (sp_check_ok (by decide) z0).2.1 (if_pos u)
        have := @q_nm_le f T
        rw [Nat.min_eq_left (by omega)]
      · rw [if_neg (fun u => h0 u.1), sp_rnT_e h0] at z
        exact absurd z h0
end KQ1
