/-! THE CLASS: a query (2): comparisons, factors, tests -/
def qM (r : Nat → Int32) (M : Int32) (m : Nat → Bool) : Prop := ∀ i, i < 32 → bt M i = (decide (i < xnk r) && m i)
theorem b_low20 : ∀ n, n < 21 → ∀ i, i < 32 → bt (((1 : Int32) <<< (nI n &&& 31)) - 1) i = decide (i < n) := by decide +kernel
section KQ2
variable {w : xW} {l : Nat → Nat → Int64} {t : Nat} {sc : xm_Sc} {d n : Nat} {f : Nat → Int32} {T T' : xTk} {v : Int32} {r : Nat → Int32}
theorem k31_59 {A B : Prop} [Decidable A] [Decidable B] {c1 c2 op : Int32} (hR : kRel w 0 r) (o1 : q_ok c1) (o2 : q_ok c2) (ho : op = if A then -20 else if B then -21 else -22) : ∀ k b (M : Int32) (v8 v9 v10 : Value), b + k = xnk r → (∀ i, i < 32 → bt M i = (decide (i < b) && q_ho op (q_pv r c1 i) (q_pv r c2 i))) → ∃ M', xm_R sc xt_M (d + 7) 31 59 [.ref 21, .ref (xh 0), .int c1, .int (zB A), .int (zB B), .int c2, .int M, .int (nI b), v8, v9, v10] [] (xem w l t) = some (.inl (some (.int M')), xem w l t) ∧ qM r M' (fun i => q_ho op (q_pv r c1 i) (q_pv r c2 i)) := by
  have hk20 := hR.W.bd.k20
  have g0 : xm_gR (xem w l t) (xh 0) 4 0 = some (xp (xpi (w 5))) := xgS_0 (k := 0) (by omega)
  have g1 : xm_gI (xem w l t) (xp (xpi (w 5))) 2 2 = some (nI (xnk r)) := by rw [xgP_2 xpi_lt, show (w (xpi (w 5) + 1)).1 2 = nI (xnk r) from hR.pk]
  intro k
  induction k with
  | zero =>
    intro b M v8 v9 v10 hb hM
    refine ⟨M, ?_, fun i hi => ?_⟩
    · rw [yb_31_59, g0, zbs, g1, zbs, if_pos (nI_le (by omega) (by omega))]
    · rw [hM i hi, show b = xnk r by omega]
  | succ k ih =>
    intro b M v8 v9 v10 hb hM
    have c1' := @kc_34 w l t sc (d + 4) r c1 b hR (by omega) o1
    have c2' := @kc_34 w l t sc (d + 4) r c2 b hR (by omega) o2
    have eN : nI b + 1 = nI (b + 1) := zS
    have yes : q_ho op (q_pv r c1 b) (q_pv r c2 b) = true → ∀ v8 v9 v10 : Value, ∃ M', xm_R sc xt_M (d + 7) 31 59 [.ref 21, .ref (xh 0), .int c1, .int (zB A), .int (zB B), .int c2, .int (M ||| ((1 : Int32) <<< (nI b &&& 31))), .int (nI (b + 1)), v8, v9, v10] [] (xem w l t) = some (.inl (some (.int M')), xem w l t) ∧ qM r M' (fun i => q_ho op (q_pv r c1 i) (q_pv r c2 i)) := fun hy v8 v9 v10 => ih (b + 1) _ v8 v9 v10 (by omega) (fun i hi => by
      rw [b_set (by omega) hi]
      by_cases e : i = b
      · subst e
        rw [if_pos rfl, hy, decide_eq_true (show i < i + 1 by omega)]
        rfl
      · rw [if_neg e, hM i hi]
        congr 1
        exact decide_eq_decide.mpr ⟨fun _ => by omega, fun _ => by omega⟩)
    have no : q_ho op (q_pv r c1 b) (q_pv r c2 b) = false → ∀ v8 v9 v10 : Value, ∃ M', xm_R sc xt_M (d + 7) 31 59 [.ref 21, .ref (xh 0), .int c1, .int (zB A), .int (zB B), .int c2, .int (M ||| 0), .int (nI (b + 1)), v8, v9, v10] [] (xem w l t) = some (.inl (some (.int M')), xem w l t) ∧ qM r M' (fun i => q_ho op (q_pv r c1 i) (q_pv r c2 i)) := fun hy v8 v9 v10 => ih (b + 1) _ v8 v9 v10 (by omega) (fun i hi => by
      rw [b_or, b_0, Bool.or_false, hM i hi]
      by_cases e : i = b
      · subst e
        rw [hy, Bool.and_false, Bool.and_false]
      · congr 1
        exact decide_eq_decide.mpr ⟨fun _ => by omega, fun _ => by omega⟩)
    rw [yb_31_59, g0, zbs, g1, zbs, if_neg (nI_ge (a := b) (b := xnk r) (by omega) (by omega)), c1', zbs, xk_I, c2', zbs, xk_I, eN]
    generalize q_pv r c1 b = x at *
    generalize q_pv r c2 b = y at *
    by_cases hA : A
    · have hv : q_ho op x y = decide (x < y) := by
        unfold q_ho
        rw [ho, if_pos hA, if_pos rfl]
      rw [zB_tt hA] at yes no ⊢
      rw [if_neg (show ¬ (1 : Int32) = 0 by decide)]
      by_cases h : y ≤ x
      · rw [if_pos h, if_pos rfl]
        exact no (hv.trans (decide_eq_false (Int32.not_lt.mpr h))) _ _ _
      · rw [if_neg h, if_neg (show ¬ (1 : Int32) = 0 by decide)]
        exact yes (hv.trans (decide_eq_true (Int32.not_le.mp h))) _ _ _
    · rw [zB_ff hA] at yes no ⊢
      rw [if_pos rfl]
      by_cases hB : B
      · have hv : q_ho op x y = decide (x = y) := by
          unfold q_ho
          rw [ho, if_neg hA, if_pos hB, if_neg (show ¬ (-21 : Int32) = -20 by decide), if_pos rfl]
        rw [zB_tt hB] at yes no ⊢
        rw [if_neg (show ¬ (1 : Int32) = 0 by decide)]
        by_cases h : x = y
        · rw [if_pos h, if_neg (show ¬ (1 : Int32) = 0 by decide)]
          exact yes (hv.trans (decide_eq_true h)) _ _ _
        · rw [if_neg h, if_pos rfl]
          exact no (hv.trans (decide_eq_false h)) _ _ _
      · have hv : q_ho op x y = decide (y < x) := by
          unfold q_ho
          rw [ho, if_neg hA, if_neg hB, if_neg (show ¬ (-22 : Int32) = -20 by decide), if_neg (show ¬ (-22 : Int32) = -21 by decide)]
        rw [zB_ff hB] at yes no ⊢
        rw [if_pos rfl]
        by_cases h : x ≤ y
        · rw [if_pos h, if_pos rfl]
          exact no (hv.trans (decide_eq_false (Int32.not_lt.mpr h))) _ _ _
        · rw [if_neg h, if_neg (show ¬ (1 : Int32) = 0 by decide)]
          exact yes (hv.trans (decide_eq_true (Int32.not_le.mp h))) _ _ _
theorem kR_31 (hB : kBy w f n) (hL : kRel w 0 r) (hn : n ≤ 800) (hT : sp_tw f n T) (hx : sp_tx T) (h : kTR f T T' v) : ∃ T'' v'' M, xm_C sc xt_M (d + 8) 31 [.ref 21, .ref (xh 0)] (xem (kTw w T' v) l t) = some (.inl (some (.int M)), xem (kTw w T'' v'') l t) ∧ kTR f (q_cmp f n (q_pv r) T).1 T'' v'' ∧ ((q_cmp f n (q_pv r) T).1.2.2.2.1 = 0 → qM r M (q_cmp f n (q_pv r) T).2.2) := by
  obtain ⟨T1, v1, c1, c32, hR1, ok1, e1⟩ := @kR_32 w l t sc d n f T T' v hB hT h
  obtain ⟨a1, a2, a3, a4⟩ := @q_vT_G f n T 0 hn hT hx
  have s60 := @kR_signC w l t sc (d + 6) n f (q_vT f n T) T1 v1 60 (by omega) hB a1 hR1
  have s61 := @kR_signC w l t sc (d + 6) n f (q_vT f n T) T1 v1 61 (by omega) hB a1 hR1
  have s62 := @kR_signC w l t sc (d + 6) n f (q_vT f n T) T1 v1 62 (by omega) hB a1 hR1
  rw [show nI 60 = (60 : Int32) from rfl] at s60
  rw [show nI 61 = (61 : Int32) from rfl] at s61
  rw [show nI 62 = (62 : Int32) from rfl] at s62
  -- the sign
  have s43 : ∃ T2, xm_C sc xt_M (d + 8) 31 [.ref 21, .ref (xh 0)] (xem (kTw w T' v) l t) = xm_R sc xt_M (d + 7) 31 43 [.ref 21, .ref (xh 0), .int c1, .int (zB (sp_sym f (q_vT f n T) 60)), .int (zB (sp_sym f (q_vT f n T) 61)), .null, .null, .null, .null, .null, .null] [] (xem (kTw w T2 v1) l t) ∧ kTR f (sp_check (q_vT f n T) (if q_op f (q_vT f n T) = -22 ∧ ¬ sp_sym f (q_vT f n T) 62 then 0 else 1) 1) T2 v1 := by
    rw [yc_31, c32, zbs, xk_I, if_pos xiT, s60, zbs, xk_I, if_pos xiT, s61, zbs, xk_I]
    unfold q_op
    by_cases h0 : sp_sym f (q_vT f n T) 60
    · rw [zB_tt h0, if_pos h0, if_neg (show ¬ (1 : Int32) = 0 by decide), if_neg (fun z => absurd z.1 (by decide)), sp_check_1]
      exact ⟨T1, rfl, hR1⟩
    · rw [zB_ff h0, if_neg h0, if_pos rfl]
      by_cases h1 : sp_sym f (q_vT f n T) 61
      · rw [zB_tt h1, if_pos h1, if_neg (show ¬ (1 : Int32) = 0 by decide), if_neg (fun z => absurd z.1 (by decide)), sp_check_1]
        exact ⟨T1, rfl, hR1⟩
      · rw [zB_ff h1, if_neg h1, if_pos rfl, if_pos xiT, s62, zbs, xk_I]
        by_cases h2 : sp_sym f (q_vT f n T) 62
        · rw [zB_tt h2, if_neg (show ¬ (1 : Int32) = 0 by decide), if_neg (fun z => z.2 h2), sp_check_1]
          exact ⟨T1, rfl, hR1⟩
        · obtain ⟨T2, c85, hR2⟩ := @kR_flaw w l t sc (d + 5) f (q_vT f n T) T1 v1 1 (by decide) hR1
          rw [zB_ff h2, if_pos rfl, if_pos xiT, c85, zbs, xk_v, if_pos ⟨rfl, h2⟩, sp_check_0]
          exact ⟨T2, rfl, hR2⟩
  obtain ⟨T2, e43, hR2⟩ := s43
  obtain ⟨T3, v3, c86, hR3⟩ := @kR_adv w l t sc (d + 4) n f hB _ T2 v1 (sp_tw_check a1) hR2
  rw [← q_c3_u] at hR3
  obtain ⟨b1, b2, b3, b4, b5⟩ := @q_c3_G f n (q_vT f n T) hn a1 a2
  obtain ⟨T4, v4, c2, c32b, hR4, ok2, e2⟩ := @kR_32 w l t sc d n f (q_c3 f n (q_vT f n T)) T3 v3 hB b1 hR3
  obtain ⟨M, c59, hM⟩ := @k31_59 (kTw w T4 v4) l t sc d r (sp_sym f (q_vT f n T) 60) (sp_sym f (q_vT f n T) 61) _ _ c1 c2 (q_op f (q_vT f n T)) (kRel_Tw hL) ok1 ok2 rfl (xnk r) 0 0 .null .null .null (by omega) (fun i hi => by rw [b_0, decide_eq_false (Nat.not_lt_zero i), Bool.false_and])
  rw [q_cmp_u]
  refine ⟨T4, v4, M, ?_, hR4, fun z => ?_⟩
  · rw [e43, yb_31_43, if_pos xiT, c86, zbs, xk_v, c32b, zbs, xk_I]
    exact c59
  · dsimp only at z ⊢
    have z3 : (q_c3 f n (q_vT f n T)).2.2.2.1 = 0 := Decidable.byContradiction fun y => by
      rw [(@q_vT_G f n (q_c3 f n (q_vT f n T)) 0 hn b1 b2).2.2.2 y] at z
      exact y z
    have z1 : (q_vT f n T).2.2.2.1 = 0 := Decidable.byContradiction fun y => by
      rw [b5 y] at z3
      exact y z3
    rw [e1 z1, e2 z] at hM
    exact hM
/-- a loop of conjunctions or of tests -/
theorem kR_lp (J J2 K K' : Nat) (op : Int32) (cb : Bool → Bool → Bool) (bo : Int32 → Int32 → Int32) (mm : Int32) (g : xTk → xQy) (hB : kBy w f n) (hK : K' < 43) (he : xm_str K' = xm_str K) (hn : n ≤ 800)
    (hcb : ∀ (M N : Int32) (x y : Nat → Bool), qM r M x → qM r N y → qM r (bo M N) (fun i => cb (x i) (y i)))
    (hG : ∀ T, sp_tw f n T → sp_tx T → qG f n T (g T))
    (hb : ∀ (i3 i4 : Int32) (S : xm_PS), xm_R sc xt_M (d + 9) J 10 [.ref 21, .ref (xh 0), .int mm, .int i3, .int i4] [] S = (if 200 ≤ i4 then xm_R sc xt_M (d + 9) J 46 [.ref 21, .ref (xh 0), .int mm, .int i3, .int i4] [] S else if xm_isO S (.ref 21) 5 = true then ((xm_C sc xt_M (d + 9) 94 [.ref 21, .retAddr K'] S).bind fun o2 => xm_rI o2 (fun n3 S1 => (if n3 = 0 then xm_R sc xt_M (d + 9) J 46 [.ref 21, .ref (xh 0), .int mm, .int i3, .int i4] [] S1 else if xm_isO S1 (.ref 21) 5 = true then ((xm_C sc xt_M (d + 9) 86 [.ref 21] S1).bind fun o5 => xm_r0 o5 (fun S4 => (xm_C sc xt_M (d + 9) J2 [.ref 21, .ref (xh 0), .int mm] S4).bind fun o7 => xm_rI o7 (fun n8 S6 => xm_R sc xt_M (d + 9) J 10 [.ref 21, .ref (xh 0), .int mm, .int (bo i3 n8), .int (i4 + 1)] [] S6) (fun e S => some (.inr e, S))) (fun e S => some (.inr e, S))) else none)) (fun e S => some (.inr e, S))) else none))
    (hb2 : ∀ (i3 i4 : Int32) (S : xm_PS), xm_R sc xt_M (d + 9) J 46 [.ref 21, .ref (xh 0), .int mm, .int i3, .int i4] [] S = some (.inl (some (.int i3)), S))
    (hg : ∀ (T T' : xTk) (v : Int32), sp_tw f n T → sp_tx T → kTR f T T' v → ∃ T'' v'' M, xm_C sc xt_M (d + 9) J2 [.ref 21, .ref (xh 0), .int mm] (xem (kTw w T' v) l t) = some (.inl (some (.int M)), xem (kTw w T'' v'') l t) ∧ kTR f (g T).1 T'' v'' ∧ ((g T).1.2.2.2.1 = 0 → qM r M (g T).2.2)) :
    ∀ L i (q : xQy) (T' : xTk) (v M : Int32), i + L = 200 → sp_tw f n q.1 → sp_tx q.1 → kTR f q.1 T' v → (q.1.2.2.2.1 = 0 → qM r M q.2.2) → ∃ T'' v'' M', xm_R sc xt_M (d + 9) J 10 [.ref 21, .ref (xh 0), .int mm, .int M, .int (nI i)] [] (xem (kTw w T' v) l t) = some (.inl (some (.int M')), xem (kTw w T'' v'') l t) ∧ kTR f (q_lp f n K op cb g L q).1 T'' v'' ∧ ((q_lp f n K op cb g L q).1.2.2.2.1 = 0 → qM r M' (q_lp f n K op cb g L q).2.2) := by
  intro L
  induction L with
  | zero =>
    intro i q T' v M hi hT hx hR hM
    rw [q_lp_0, hb, if_pos (show (200 : Int32) ≤ nI i from nI_le (a := 200) (by omega) (by omega)), hb2]
    exact ⟨T', v, M, rfl, hR, hM⟩
  | succ L ih =>
    intro i q T' v M hi hT hx hR hM
    have c94 := @kR_word w l t sc (d + 4) n f q.1 T' v K K' hB hK he hT hR
    rw [q_lp_s, hb, if_neg (show ¬ (200 : Int32) ≤ nI i from nI_ge (a := i) (b := 200) (by omega) (by omega)), if_pos xiT, c94, zbs, xk_I]
    by_cases hw : sp_wrd f q.1 K
    · obtain ⟨T1, v1, c86, hR1⟩ := @kR_adv w l t sc (d + 6) n f hB q.1 T' v hT hR
      have ea : sp_adv f n q.1 = sp_scan f n q.1 := if_pos hw.1.1
      rw [ea] at hR1
      have s1 := (@sp_scan_x f n q.1 hn hT.1).1
      have s3 : sp_tw f n (sp_scan f n q.1) := sp_tw_acc hT
      obtain ⟨T2, v2, N, c2, hR2, hN⟩ := hg _ T1 v1 s3 s1 hR1
      obtain ⟨g1, g2, _, _⟩ := hG _ s3 s1
      rw [zB_tt hw, if_neg (show ¬ (1 : Int32) = 0 by decide), if_pos hw, if_pos xiT, c86, zbs, xk_v, c2, zbs, xk_I, zS]
      exact ih (i + 1) ((g (sp_scan f n q.1)).1, (q.2.1 ++ (g (sp_scan f n q.1)).2.1) ++ qE (g (sp_scan f n q.1)).1 op, fun b => cb (q.2.2 b) ((g (sp_scan f n q.1)).2.2 b)) T2 v2 (bo M N) (by omega) g1 g2 hR2 (fun z => hcb M N _ _ (hM hw.1.1) (hN z))
    · rw [zB_ff hw, if_pos rfl, if_neg hw, hb2]
      exact ⟨T', v, M, rfl, hR, hM⟩
theorem qM_and {M N : Int32} {x y : Nat → Bool} (h1 : qM r M x) (h2 : qM r N y) : qM r (M &&& N) (fun i => x i && y i) := fun i hi => by
  rw [b_and, h1 i hi, h2 i hi]
  cases decide (i < xnk r) <;> simp
theorem qM_or {M N : Int32} {x y : Nat → Bool} (h1 : qM r M x) (h2 : qM r N y) : qM r (M ||| N) (fun i => x i || y i) := fun i hi => by
  rw [b_or, h1 i hi, h2 i hi]
  cases decide (i < xnk r) <;> simp
theorem kR_29 (g : xTk → xQy) (mm : Int32) (hB : kBy w f n) (hn : n ≤ 800) (hG : ∀ T, sp_tw f n T → sp_tx T → qG f n T (g T))
    (hg : ∀ (T T' : xTk) (v : Int32), sp_tw f n T → sp_tx T → kTR f T T' v → ∃ T'' v'' M, xm_C sc xt_M (d + 9) 30 [.ref 21, .ref (xh 0), .int mm] (xem (kTw w T' v) l t) = some (.inl (some (.int M)), xem (kTw w T'' v'') l t) ∧ kTR f (g T).1 T'' v'' ∧ ((g T).1.2.2.2.1 = 0 → qM r M (g T).2.2))
    (hT : sp_tw f n T) (hx : sp_tx T) (h : kTR f T T' v) : ∃ T'' v'' M, xm_C sc xt_M (d + 10) 29 [.ref 21, .ref (xh 0), .int mm] (xem (kTw w T' v) l t) = some (.inl (some (.int M)), xem (kTw w T'' v'') l t) ∧ kTR f (q_cj f n g T).1 T'' v'' ∧ ((q_cj f n g T).1.2.2.2.1 = 0 → qM r M (q_cj f n g T).2.2) := by
  obtain ⟨T1, v1, M1, c30, hR1, hM1⟩ := hg T T' v hT hx h
  obtain ⟨g1, g2, _, _⟩ := hG T hT hx
  rw [yc_29, c30, zbs, xk_I, show (0 : Int32) = nI 0 from rfl]
  exact kR_lp 29 30 41 25 (-24) (fun x y => x && y) (fun x y => x &&& y) mm g hB (by decide) rfl hn (fun M N x y h1 h2 => qM_and h1 h2) hG (fun i3 i4 S => yb_29_10) (fun i3 i4 S => yb_29_46) hg 200 0 (g T) T1 v1 M1 (by omega) g1 g2 hR1 hM1
theorem kR_28 (g : xTk → xQy) (mm : Int32) (hB : kBy w f n) (hn : n ≤ 800) (hG : ∀ T, sp_tw f n T → sp_tx T → qG f n T (g T))
    (hg : ∀ (T T' : xTk) (v : Int32), sp_tw f n T → sp_tx T → kTR f T T' v → ∃ T'' v'' M, xm_C sc xt_M (d + 9) 30 [.ref 21, .ref (xh 0), .int mm] (xem (kTw w T' v) l t) = some (.inl (some (.int M)), xem (kTw w T'' v'') l t) ∧ kTR f (g T).1 T'' v'' ∧ ((g T).1.2.2.2.1 = 0 → qM r M (g T).2.2))
    (hT : sp_tw f n T) (hx : sp_tx T) (h : kTR f T T' v) : ∃ T'' v'' M, xm_C sc xt_M (d + 11) 28 [.ref 21, .ref (xh 0), .int mm] (xem (kTw w T' v) l t) = some (.inl (some (.int M)), xem (kTw w T'' v'') l t) ∧ kTR f (q_ts f n g T).1 T'' v'' ∧ ((q_ts f n g T).1.2.2.2.1 = 0 → qM r M (q_ts f n g T).2.2) := by
  have hG2 : ∀ T, sp_tw f n T → sp_tx T → qG f n T (q_cj f n g T) := fun T h1 h2 => q_cj_G hn hG h1 h2
  have hg2 : ∀ (T T' : xTk) (v : Int32), sp_tw f n T → sp_tx T → kTR f T T' v → ∃ T'' v'' M, xm_C sc xt_M (d + 10) 29 [.ref 21, .ref (xh 0), .int mm] (xem (kTw w T' v) l t) = some (.inl (some (.int M)), xem (kTw w T'' v'') l t) ∧ kTR f (q_cj f n g T).1 T'' v'' ∧ ((q_cj f n g T).1.2.2.2.1 = 0 → qM r M (q_cj f n g T).2.2) := fun T T' v h1 h2 h3 => kR_29 g mm hB hn hG hg h1 h2 h3
  obtain ⟨T1, v1, M1, c29, hR1, hM1⟩ := hg2 T T' v hT hx h
  obtain ⟨g1, g2, _, _⟩ := hG2 T hT hx
  rw [yc_28, c29, zbs, xk_I, show (0 : Int32) = nI 0 from rfl]
  exact kR_lp (d := d + 1) 28 29 42 26 (-25) (fun x y => x || y) (fun x y => x ||| y) mm (q_cj f n g) hB (by decide) rfl hn (fun M N x y h1 h2 => qM_or h1 h2) hG2 (fun i3 i4 S => yb_28_10) (fun i3 i4 S => yb_28_46) hg2 200 0 (q_cj f n g T) T1 v1 M1 (by omega) g1 g2 hR1 hM1
theorem kR_30 (hB : kBy w f n) (hL : kRel w 0 r) (hn : n ≤ 800) : ∀ D d m (T T' : xTk) (v : Int32), m + D = 6 → sp_tw f n T → sp_tx T → kTR f T T' v → ∃ T'' v'' M, xm_C sc xt_M (d + 3 * D + 9) 30 [.ref 21, .ref (xh 0), .int (nI m)] (xem (kTw w T' v) l t) = some (.inl (some (.int M)), xem (kTw w T'' v'') l t) ∧ kTR f (q_fac f n (q_pv r) D T).1 T'' v'' ∧ ((q_fac f n (q_pv r) D T).1.2.2.2.1 = 0 → qM r M (q_fac f n (q_pv r) D T).2.2) := by
  have hk20 := hL.W.bd.k20
  intro D
  induction D with
  | zero =>
    intro d m T T' v hm hT hx h
    show ∃ T'' v'' M, xm_C sc xt_M (d + 9) 30 _ _ = _ ∧ _
    have c94 := @kR_word w l t sc (d + 3) n f T T' v 40 17 hB (by decide) rfl hT h
    have c93 := @kR_signC w l t sc (d + 7) n f T T' v 40 (by omega) hB hT h
    rw [show nI 40 = (40 : Int32) from rfl] at c93
    have h26 : ∀ (i3 : Int32) (v4 : Value), xm_R sc xt_M (d + 8) 30 26 [.ref 21, .ref (xh 0), .int (nI m), .int i3, v4] [] (xem (kTw w T' v) l t) = xm_R sc xt_M (d + 8) 30 26 [.ref 21, .ref (xh 0), .int (nI m), .int i3, v4] [] (xem (kTw w T' v) l t) := fun _ _ => rfl
    obtain ⟨T1, c85, hR1⟩ := @kR_flaw w l t sc (d + 6) f T T' v 3 (by decide) h
    have e26 : ∀ (i3 : Int32) (v4 : Value), xm_R sc xt_M (d + 8) 30 26 [.ref 21, .ref (xh 0), .int (nI m), .int i3, v4] [] (xem (kTw w T' v) l t) = some (.inl (some (.int 0)), xem (kTw w T1 v) l t) := fun i3 v4 => by
      rw [yb_30_26, if_neg (show ¬ nI m < 6 from nI_nlt (a := m) (b := 6) (by omega) (by omega)), if_pos xiT, c85, zbs, xk_v]
    rw [yc_30, if_pos xiT, c94, zbs, xk_I, q_fac_0]
    by_cases hw : sp_wrd f T 40
    · rw [zB_tt hw, if_neg (show ¬ (1 : Int32) = 0 by decide), if_pos (Or.inl hw), e26]
      exact ⟨T1, v, 0, rfl, hR1, fun z => absurd z (sp_flaw_err (by decide))⟩
    · rw [zB_ff hw, if_pos rfl, if_pos xiT, c93, zbs, xk_I]
      by_cases hs : sp_sym f T 40
      · rw [zB_tt hs, if_neg (show ¬ (1 : Int32) = 0 by decide), if_pos (Or.inr hs), e26]
        exact ⟨T1, v, 0, rfl, hR1, fun z => absurd z (sp_flaw_err (by decide))⟩
      · obtain ⟨T2, v2, M, c31, hR2, hM⟩ := @kR_31 w l t sc d n f T T' v r hB hL hn hT hx h
        rw [zB_ff hs, if_pos rfl, if_neg (fun z => z.elim hw hs), c31, zbs, xk_I]
        exact ⟨T2, v2, M, rfl, hR2, hM⟩
  | succ D ih =>
    intro d m T T' v hm hT hx h
    have e3 : d + 3 * (D + 1) + 9 = d + 3 * D + 12 := by omega
    have c94 := @kR_word w l t sc (d + 3 * D + 6) n f T T' v 40 17 hB (by decide) rfl hT h
    have c93 := @kR_signC w l t sc (d + 3 * D + 10) n f T T' v 40 (by omega) hB hT h
    rw [show nI 40 = (40 : Int32) from rfl] at c93
    obtain ⟨T1, v1, c86, hR1⟩ := @kR_adv w l t sc (d + 3 * D + 8) n f hB T T' v hT h
    have hTa : sp_tw f n (sp_adv f n T) := sp_tw_adv hT
    obtain ⟨a1, a2, a3⟩ := @sp_adv_x f n T hn hT hx
    have hG : ∀ T, sp_tw f n T → sp_tx T → qG f n T (q_fac f n (q_pv r) D T) := fun T h1 h2' => q_fac_G hn D T h1 h2'
    have lt6 : nI m < 6 := nI_lt (b := 6) (by omega) (by omega)
    rw [e3, yc_30, if_pos xiT, c94, zbs, xk_I, q_fac_s]
    by_cases hw : sp_wrd f T 40
    · obtain ⟨T2, v2, M, c30, hR2, hM⟩ := ih (d + 2) (m + 1) (sp_adv f n T) T1 v1 (by omega) hTa a1 hR1
      rw [show d + 2 + 3 * D + 9 = d + 3 * D + 11 by omega] at c30
      have hL1 : kRel (kTw w T1 v1) 0 r := kRel_Tw hL
      have g0 : xm_gR (xem (kTw w T1 v1) l t) (xh 0) 4 0 = some (xp (xpi (kTw w T1 v1 5))) := xgS_0 (k := 0) (by omega)
      have g1 : xm_gI (xem (kTw w T1 v1) l t) (xp (xpi (kTw w T1 v1 5))) 2 2 = some (nI (xnk r)) := by rw [xgP_2 xpi_lt, show (kTw w T1 v1 (xpi (kTw w T1 v1 5) + 1)).1 2 = nI (xnk r) from hL1.pk]
      rw [zB_tt hw, if_neg (show ¬ (1 : Int32) = 0 by decide), if_pos hw, yb_30_26, if_pos lt6, if_pos xiT, c86, zbs, xk_v, if_neg (show ¬ (1 : Int32) = 0 by decide), g0, zbs, g1, zbs, zS, c30, zbs, xk_I]
      refine ⟨T2, v2, _, rfl, hR2, fun z i hi => ?_⟩
      dsimp only at z ⊢
      rw [b_and, b_low20 (xnk r) (by omega) i hi, b_not hi, hM z i hi]
      cases decide (i < xnk r) <;> simp
    · rw [zB_ff hw, if_pos rfl, if_neg hw, if_pos xiT, c93, zbs, xk_I]
      by_cases hs : sp_sym f T 40
      · obtain ⟨T2, v2, M, c28, hR2, hM⟩ := @kR_28 w l t sc (d + 3 * D) n f (sp_adv f n T) T1 v1 r (q_fac f n (q_pv r) D) (nI (m + 1)) hB hn hG (fun T T' v h1 h2' h3 => ih d (m + 1) T T' v (by omega) h1 h2' h3) hTa a1 hR1
        obtain ⟨g1, g2, g3, g4⟩ := @q_ts_G f n (sp_adv f n T) (q_fac f n (q_pv r) D) hn hG hTa a1
        obtain ⟨T3, v3, c96, hR3⟩ := @kR_passSignC w l t sc (d + 3 * D + 7) n f _ T2 v2 41 (by omega) hB g1 hR2
        rw [show nI 41 = (41 : Int32) from rfl] at c96 hR3
        rw [zB_tt hs, if_neg (show ¬ (1 : Int32) = 0 by decide), if_pos hs, yb_30_26, if_pos lt6, if_pos xiT, c86, zbs, xk_v, if_pos rfl, zS, c28, zbs, xk_I, if_pos xiT, c96, zbs, xk_v]
        refine ⟨T3, v3, M, rfl, hR3, fun z => ?_⟩
        exact hM (sp_exp2_ok z).1.1
      · obtain ⟨T2, v2, M, c31, hR2, hM⟩ := @kR_31 w l t sc (d + 3 * D + 3) n f T T' v r hB hL hn hT hx h
        rw [zB_ff hs, if_pos rfl, if_neg hs, c31, zbs, xk_I]
        exact ⟨T2, v2, M, rfl, hR2, hM⟩
end KQ2
