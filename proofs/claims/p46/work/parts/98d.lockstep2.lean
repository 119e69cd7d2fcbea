/-! THE CLASS: words and numbers in lock-step -/
theorem kby_n : ∀ x, x < 256 → ¬ x < 128 → kby (nI x) < 0 := by decide +kernel
theorem kby_c {x : Int32} {c : Nat} (hx : xil x 256) (hc : c < 128) : (kby x = nI c) = (x = nI c) := by
  obtain ⟨h1, h2⟩ := hx
  generalize x.toNatClampNeg = m at *
  subst h1
  by_cases h : m < 128
  · rw [(kby_t m h2).2.2.2.2.2 h]
  · refine propext ⟨fun z => ?_, fun z => ?_⟩
    · have := kby_n m h2 h
      rw [z] at this
      exact absurd this (nI_pos (by omega))
    · exact absurd (nI_inj (by omega) (by omega) z) (by omega)
theorem kR_vk {f : Nat → Int32} {s : Nat} : ∀ m, sp_vk f s m = min (sp_vl f s m) 1000000 := by
  intro m
  induction m with
  | zero => rfl
  | succ m ih =>
    show min (10 * sp_vk f s m + (f (s + m)).toNatClampNeg - 48) 1000000 = min (min (10 * sp_vl f s m + (f (s + m)).toNatClampNeg - 48) 2000000000) 1000000
    rw [ih]
    omega
theorem kR_rng {a : Nat} {lo hi : Int32} (ha : a ≤ 2000000000) (hh : hi < 1000000) : (lo ≤ nI (min a 1000000) ∧ nI (min a 1000000) ≤ hi) = (lo ≤ nI a ∧ nI a ≤ hi) := by
  by_cases h : a ≤ 1000000
  · rw [Nat.min_eq_left h]
  · rw [Nat.min_eq_right (by omega)]
    have e1 : (nI 1000000).toInt = 1000000 := rfl
    have e2 : (nI a).toInt = a := nI_toInt (by omega)
    have e3 : hi.toInt < 1000000 := (fa_lt _ _).mp hh
    refine propext ⟨fun z => ?_, fun z => ?_⟩
    · have := (fa_le _ _).mp z.2
      rw [e1] at this
      omega
    · have := (fa_le _ _).mp z.2
      rw [e2] at this
      omega
section KL
variable {w : xW} {l : Nat → Nat → Int64} {t : Nat} {sc : xm_Sc} {d n : Nat} {f : Nat → Int32} {T T' : xTk} {v : Int32}
theorem k94 {k s : Nat} (hB : kBy w f n) (hk : k < 26) (hs : T'.2.1 = nI s) (hn : s + sp_ln k ≤ n) : ∀ m i, i + m = sp_ln k → xm_R sc xt_M (d + 4) 94 30 [.ref 21, .retAddr k, .int (nI (sp_ln k)), .int (nI i)] [] (xem (kTw w T' v) l t) = some (.inl (some (.int (toJ2 (decide (∀ j, j < m → sp_ch k (i + j) = f (s + (i + j))))))), xem (kTw w T' v) l t) := by
  have hl : sp_ln k < 100 := (xe_ll k hk).2.1
  have h8 := hB.2.2.1
  intro m
  induction m with
  | zero =>
    intro i hi
    rw [yb_94_30 (by omega), if_pos (nI_le (by omega) (by omega))]
    refine congrArg (fun x => some (Sum.inl (some (Value.int x)), xem (kTw w T' v) l t)) ?_
    unfold toJ2
    exact Eq.symm (if_pos (decide_eq_true fun j h => absurd h (Nat.not_lt_zero j)))
  | succ m ih =>
    intro i hi
    have hi2 : i < sp_ln k := by omega
    have c331 := @ze_195 sc d (xem (kTw w T' v) l t) k i hk hi2
    have ha := @xaKb w l t n T' v f (s + i) hB (by omega)
    obtain ⟨c, hc, ec, _⟩ := xe_lk k hk i hi2
    have ec' : sp_ch k i = nI c := ec
    have q := @kby_c (f (s + i)) c (hB.2.2.2 (s + i) (by omega)).2 hc
    rw [yb_94_30 (by omega), if_neg (nI_ge (a := i) (b := sp_ln k) (by omega) (by omega)), xgKb hB, zbs, xgK9, zbs, hs, zA, ha, zbs, if_pos (xiK hk), c331, zbs, xk_I, ec']
    by_cases h : f (s + i) = nI c
    · rw [if_pos (q.symm ▸ h), zS, ih (i + 1) (by omega)]
      congr 5
      refine congrArg toJ2 (decide_eq_decide.mpr ⟨fun z j hj => ?_, fun z j hj => ?_⟩)
      · cases j with
        | zero => exact ec'.trans h.symm
        | succ j =>
          have := z j (by omega)
          rw [show i + 1 + j = i + (j + 1) by omega] at this
          exact this
      · have := z (j + 1) (by omega)
        rw [show i + (j + 1) = i + 1 + j by omega] at this
        exact this
    · rw [if_neg (fun z => h (q ▸ z))]
      rw [show decide (∀ j, j < m + 1 → sp_ch k (i + j) = f (s + (i + j))) = false from decide_eq_false (fun z => h ((z 0 (by omega)).symm.trans ec'))]
      rfl
theorem kR_word {k k' : Nat} (hB : kBy w f n) (hk' : k' < 26) (he : xm_str k' = xm_str k) (hT : sp_tw f n T) (h : kTR f T T' v) : xm_C sc xt_M (d + 5) 94 [.ref 21, .retAddr k'] (xem (kTw w T' v) l t) = some (.inl (some (.int (zB (sp_wrd f T k)))), xem (kTw w T' v) l t) := by
  obtain ⟨h1, h2, h3⟩ := h
  have h8 := hB.2.2.1
  have hl : sp_ln k' < 100 := (xe_ll k' hk').2.1
  have c330 := @ze_194 sc (d + 2) (xem (kTw w T' v) l t) k' hk'
  have ew : sp_wrd f T k = sp_wrd f T k' := by
    unfold sp_wrd sp_ln sp_ch
    rw [he]
  have ez : zB (sp_wrd f T k) = zB (sp_wrd f T k') := by
    by_cases g : sp_wrd f T k'
    · rw [zB_tt g, zB_tt (ew.symm ▸ g)]
    · rw [zB_ff g, zB_ff (fun z => g (ew ▸ z))]
  rw [ez]
  obtain ⟨hp, s, hs, hsp, _, _⟩ := hT
  have es : T.2.1.toNatClampNeg = s := by rw [hs, nI_clamp (by omega)]
  unfold sp_wrd
  rw [es]
  rw [yc_94 (by omega), if_pos (xiK hk'), c330, zbs, xk_I, xgK8, zbs]
  by_cases h0 : T.2.2.2.1 = 0
  · obtain ⟨a1, a2, a3, a4, a5, a6⟩ := h2 h0
    rw [a3]
    by_cases z : T.2.2.1 = 1
    · rw [if_pos z, xgK10, zbs, xgK9, zbs, a1, a2, hs, rd_sub hsp (by omega)]
      by_cases g3 : sp_ln k' = T.1 - s
      · have z0 := @k94 w l t sc d n f T' v k' s hB hk' (a2.trans hs) (by omega) (sp_ln k') 0 (by omega)
        rw [show nI 0 = (0 : Int32) from rfl] at z0
        rw [if_pos (by rw [g3]), z0]
        by_cases g4 : ∀ i, i < sp_ln k' → sp_ch k' i = f (s + i)
        · rw [zB_tt ⟨⟨h0, z, g3⟩, g4⟩, decide_eq_true (fun j hj => by rw [Nat.zero_add]; exact g4 j hj)]
          rfl
        · rw [zB_ff (fun z => g4 z.2), decide_eq_false (fun z => g4 fun j hj => by have := z j hj; rw [Nat.zero_add] at this; exact this)]
          rfl
      · rw [if_neg (fun z => g3 (nI_inj (by omega) (by omega) z).symm), yb_94_26 (by omega), zB_ff (fun z => g3 z.1.2.2)]
    · rw [if_neg z, yb_94_26 (by omega), zB_ff (fun y => z y.1.2.1)]
  · rw [(h3 h0).1, if_neg (by decide), yb_94_26 (by omega), zB_ff (fun y => h0 y.1.1)]
theorem kR_passWord {k k' : Nat} (hB : kBy w f n) (hk' : k' < 26) (he : xm_str k' = xm_str k) (hT : sp_tw f n T) (h : kTR f T T' v) : ∃ T'' v', xm_C sc xt_M (d + 6) 95 [.ref 21, .retAddr k'] (xem (kTw w T' v) l t) = some (.inl none, xem (kTw w T'' v') l t) ∧ kTR f (sp_expW f n T k) T'' v' := by
  have c := @kR_word w l t sc d n f T T' v k k' hB hk' he hT h
  unfold sp_expW
  by_cases g : sp_wrd f T k
  · rw [zB_tt g] at c ⊢
    have e : sp_check T 1 1 = T := if_neg (by decide)
    rw [e]
    obtain ⟨T2, v2, c86, hR⟩ := @kR_adv w l t sc (d + 2) n f hB T T' v hT h
    refine ⟨T2, v2, ?_, hR⟩
    rw [yc_95 (by omega), if_pos xiT, c, zbs, xk_I, if_neg (by decide), yb_95_13 (by omega), if_pos xiT, c86, zbs, xk_v]
  · rw [zB_ff g] at c ⊢
    have e : sp_check T 0 1 = sp_flaw T 1 := if_pos rfl
    have hT2 : sp_tw f n (sp_flaw T 1) := e ▸ sp_tw_check hT
    rw [e]
    obtain ⟨T1, c85, hR1⟩ := @kR_flaw w l t sc (d + 3) f T T' v 1 (by decide) h
    obtain ⟨T2, v2, c86, hR⟩ := @kR_adv w l t sc (d + 2) n f hB (sp_flaw T 1) T1 v hT2 hR1
    refine ⟨T2, v2, ?_, hR⟩
    rw [yc_95 (by omega), if_pos xiT, c, zbs, xk_I, if_pos rfl, if_pos xiT, c85, zbs, xk_v, yb_95_13 (by omega), if_pos xiT, c86, zbs, xk_v]
theorem kR_passSign (hB : kBy w f n) (hT : sp_tw f n T) (h : kTR f T T' v) : ∃ T'' v', xm_C sc xt_M (d + 4) 96 [.ref 21, .int 59] (xem (kTw w T' v) l t) = some (.inl none, xem (kTw w T'' v') l t) ∧ kTR f (sp_exp2 f n T 59) T'' v' := by
  have c := @kR_sign w l t sc (d + 2) n f hB T T' v hT h
  unfold sp_exp2
  by_cases g : sp_sym f T 59
  · rw [zB_tt g] at c ⊢
    have e : sp_check T 1 1 = T := if_neg (by decide)
    rw [e]
    obtain ⟨T2, v2, c86, hR⟩ := @kR_adv w l t sc d n f hB T T' v hT h
    refine ⟨T2, v2, ?_, hR⟩
    rw [yc_96, if_pos xiT, c, zbs, xk_I, if_neg (by decide), yb_96_13, if_pos xiT, c86, zbs, xk_v]
  · rw [zB_ff g] at c ⊢
    have e : sp_check T 0 1 = sp_flaw T 1 := if_pos rfl
    have hT2 : sp_tw f n (sp_flaw T 1) := e ▸ sp_tw_check hT
    rw [e]
    obtain ⟨T1, c85, hR1⟩ := @kR_flaw w l t sc (d + 1) f T T' v 1 (by decide) h
    obtain ⟨T2, v2, c86, hR⟩ := @kR_adv w l t sc d n f hB (sp_flaw T 1) T1 v hT2 hR1
    refine ⟨T2, v2, ?_, hR⟩
    rw [yc_96, if_pos xiT, c, zbs, xk_I, if_pos rfl, if_pos xiT, c85, zbs, xk_v, yb_96_13, if_pos xiT, c86, zbs, xk_v]
theorem kR_peek {lo hi : Int32} (hB : kBy w f n) (hh : hi < 1000000) (hT : sp_tw f n T) (h : kTR f T T' v) : ∃ T'', xm_C sc xt_M (d + 3) 98 [.ref 21, .int lo, .int hi] (xem (kTw w T' v) l t) = some (.inl (some (.int (if (sp_rn2 f T lo hi).2.2.2.1 = 0 then sp_val f (sp_rn1 T) else lo))), xem (kTw w T'' v) l t) ∧ kTR f (sp_rn2 f T lo hi) T'' v := by
  obtain ⟨h1, h2, h3⟩ := h
  have e1 : ∀ X : xTk, ∀ c, sp_check X 1 c = X := fun X c => if_neg (by decide)
  have e0 : ∀ X : xTk, ∀ c, sp_check X 0 c = sp_flaw X c := fun X c => if_pos rfl
  unfold sp_rn2 sp_rn1
  by_cases h0 : T.2.2.2.1 = 0
  · obtain ⟨a1, a2, a3, a4, a5, a6⟩ := h2 h0
    by_cases z : T.2.2.1 = 2
    · rw [if_neg (c := T.2.2.2.1 = 0 ∧ ¬ T.2.2.1 = 2) (fun y => y.2 z), e1]
      have hv : v = nI (min (sp_vl f T.2.1.toNatClampNeg (T.1 - T.2.1.toNatClampNeg)) 1000000) := by
        rw [a6]
        unfold sp_cv
        rw [if_pos z, kR_vk]
      have hval : sp_val f T = nI (sp_vl f T.2.1.toNatClampNeg (T.1 - T.2.1.toNatClampNeg)) := if_pos z
      have hle := @sp_vl_le f T.2.1.toNatClampNeg (T.1 - T.2.1.toNatClampNeg)
      have hr := @kR_rng _ lo hi hle hh
      rw [← hv, ← hval] at hr
      by_cases g : lo ≤ sp_val f T ∧ sp_val f T ≤ hi
      · rw [if_neg (c := T.2.2.2.1 = 0 ∧ ¬ (lo ≤ sp_val f T ∧ sp_val f T ≤ hi)) (fun y => y.2 g), e1, if_pos h0]
        have g' : lo ≤ v ∧ v ≤ hi := hr.symm ▸ g
        refine ⟨T', ?_, h1, h2, h3⟩
        have evv : v = sp_val f T := by
          have u2 := (fa_le _ _).mp g.2
          have u3 : hi.toInt < 1000000 := (fa_lt _ _).mp hh
          rw [hval, nI_toInt (by omega)] at u2
          rw [hv, hval, Nat.min_eq_left (by omega)]
        rw [yc_98, xgK8, zbs, a3, if_pos z, xgK11, zbs, if_neg (Int32.not_lt.mpr g'.1), zbs, if_pos g'.2, zbs, evv]
      · rw [if_pos (c := T.2.2.2.1 = 0 ∧ ¬ (lo ≤ sp_val f T ∧ sp_val f T ≤ hi)) ⟨h0, g⟩, e0]
        have g' : ¬ (lo ≤ v ∧ v ≤ hi) := fun y => g (hr ▸ y)
        obtain ⟨T1, c85, hR1⟩ := @kR_flaw w l t sc d f T T' v 2 (by decide) ⟨h1, h2, h3⟩
        have er : ¬ (sp_flaw T 2).2.2.2.1 = 0 := by
          unfold sp_flaw
          rw [if_pos h0]
          show ¬ (2 : Int32) = 0
          decide
        rw [if_neg er]
        refine ⟨T1, ?_, hR1⟩
        rw [yc_98, xgK8, zbs, a3, if_pos z, xgK11, zbs]
        by_cases y1 : v < lo
        · rw [if_pos y1, yb_98_31, if_pos xiT, c85, zbs, xk_v]
        · rw [if_neg y1, zbs, if_neg (fun y2 => g' ⟨Int32.not_lt.mp y1, y2⟩), yb_98_31, if_pos xiT, c85, zbs, xk_v]
    · rw [if_pos (c := T.2.2.2.1 = 0 ∧ ¬ T.2.2.1 = 2) ⟨h0, z⟩, e0]
      obtain ⟨T1, c85, hR1⟩ := @kR_flaw w l t sc d f T T' v 1 (by decide) ⟨h1, h2, h3⟩
      have er : ¬ (sp_flaw T 1).2.2.2.1 = 0 := by
        unfold sp_flaw
        rw [if_pos h0]
        show ¬ (1 : Int32) = 0
        decide
      rw [if_neg (c := (sp_flaw T 1).2.2.2.1 = 0 ∧ ¬ (lo ≤ sp_val f (sp_flaw T 1) ∧ sp_val f (sp_flaw T 1) ≤ hi)) (fun y => er y.1), e1, if_neg er]
      refine ⟨T1, ?_, hR1⟩
      rw [yc_98, xgK8, zbs, a3, if_neg z, if_pos xiT, c85, zbs, xk_v]
  · rw [if_neg (c := T.2.2.2.1 = 0 ∧ ¬ T.2.2.1 = 2) (fun y => h0 y.1), e1, if_neg (c := T.2.2.2.1 = 0 ∧ ¬ (lo ≤ sp_val f T ∧ sp_val f T ≤ hi)) (fun y => h0 y.1), e1, if_neg h0]
    obtain ⟨T1, c85, hR1⟩ := @kR_flaw w l t sc d f T T' v 1 (by decide) ⟨h1, h2, h3⟩
    have er : sp_flaw T 1 = T := if_neg h0
    rw [er] at hR1
    refine ⟨T1, ?_, hR1⟩
    rw [yc_98, xgK8, zbs, (h3 h0).1, if_neg (by decide), if_pos xiT, c85, zbs, xk_v]
theorem kR_passNumber {lo hi : Int32} (hB : kBy w f n) (hh : hi < 1000000) (hT : sp_tw f n T) (h : kTR f T T' v) : ∃ T'' v', xm_C sc xt_M (d + 4) 99 [.ref 21, .int lo, .int hi] (xem (kTw w T' v) l t) = some (.inl (some (.int (if (sp_rn2 f T lo hi).2.2.2.1 = 0 then sp_val f (sp_rn1 T) else lo))), xem (kTw w T'' v') l t) ∧ kTR f (sp_rnT f n T lo hi) T'' v' := by
  obtain ⟨T1, c98, hR1⟩ := @kR_peek w l t sc d n f T T' v lo hi hB hh hT h
  obtain ⟨T2, v2, c86, hR⟩ := @kR_adv w l t sc d n f hB (sp_rn2 f T lo hi) T1 v (sp_tw_check (sp_tw_check hT)) hR1
  refine ⟨T2, v2, ?_, hR⟩
  rw [yc_99, if_pos xiT, c98, zbs, xk_I, if_pos xiT, c86, zbs, xk_v]
/-- what passing a number tells both -/
theorem sp_rnV_eq {lo hi : Int32} : sp_rnV f n T lo hi = if (sp_rn2 f T lo hi).2.2.2.1 = 0 then sp_val f (sp_rn1 T) else lo := by
  have e : (sp_rnT f n T lo hi).2.2.2.1 = (sp_rn2 f T lo hi).2.2.2.1 := by
    unfold sp_rnT sp_adv
    split
    · unfold sp_scan sp_scS
      split
      · split
        · rfl
        · split <;> rfl
      · rfl
    · rfl
  unfold sp_rnV
  rw [e]
end KL
