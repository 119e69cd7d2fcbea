/-! THE CLASS reads: a route, the vans -/
section KV2
variable {w : xW} {l : Nat → Nat → Int64} {t : Nat} {sc : xm_Sc} {d n i : Nat} {f : Nat → Int32}
/-- what is known of the stops behind one that was read -/
theorem kSt_nx {T : xTk} {r : Nat → Int32} {m : Nat} (hS : kSn r) (h1 : 1 ≤ xnv r) (hm : T.2.2.2.1 = 0 → xst r (xnv r - 1) = m) (z : (sq_stop f n (T, r)).1.2.2.2.1 = 0) : xnv (sq_stop f n (T, r)).2 = xnv r ∧ xst (sq_stop f n (T, r)).2 (xnv r - 1) = m + 1 ∧ (sq_stop f n (T, r)).2 (15 + 11 * (xnv r - 1) + m) = kSv f T r ∧ ∀ s, s < m → (sq_stop f n (T, r)).2 (15 + 11 * (xnv r - 1) + s) = r (15 + 11 * (xnv r - 1) + s) := by
  obtain ⟨z1, z2, z3, z4, z5⟩ := sp_stop_ok2 z
  have e := hm z1
  have hB := hS.1
  have hb6 := hB.b6
  rw [hB.b] at z2
  obtain ⟨q1, q2, q3, q4, q5, q6, q7, q8⟩ := @kSn_S r (xnv r - 1) m (sp_val f T) hS (by omega) e (by omega) (zrg2 (by omega) z2)
  have ekv : kSv f T r = sp_val f T := by
    have y := z
    rw [sq_stop_u] at y
    dsimp only at y
    rw [sp_adv_err] at y
    rw [sp_st4_u] at y
    have y3 := (sp_check_ok (by decide) y).1
    rw [sp_st3_u] at y3
    exact kSv_u.trans (if_pos (sp_check_ok (by decide) y3).1)
  rw [z5, e, ekv]
  exact ⟨q2, q3, q7, q8⟩
theorem kR_loop (hi : i < 2) (hB : kBy w f n) {fi : Int32} : ∀ k m (T T' : xTk) (v : Int32) (p : xG) (r r' : Nat → Int32) (la : Int32), m + k = 9 → kLk f n T T' v p r r' → 1 ≤ xnv r' → (T.2.2.2.1 = 0 → 1 ≤ m ∧ m = xst r (xnv r - 1) ∧ la = r (14 + 11 * (xnv r - 1) + m) ∧ fi = r (15 + 11 * (xnv r - 1))) →
    ∃ T'' v'' p' r'' la' x, xm_R sc xt_M (d + 5) 6 19 [.ref 21, .ref (xp i), .int fi, .int la, .int (nI m)] [] (xem (kTw (xu w (i + 1) p) T' v) l t) = xm_R sc xt_M (d + 5) 6 48 [.ref 21, .ref (xp i), .int fi, .int la', .int x] [] (xem (kTw (xu w (i + 1) p') T'' v'') l t) ∧ kLk f n (sp_stops f n k (T, r)).1 T'' v'' p' (sp_stops f n k (T, r)).2 r'' ∧ xnv r'' = xnv r' ∧ xnk r'' = xnk r' ∧ ((sp_stops f n k (T, r)).1.2.2.2.1 = 0 → la' = (sp_stops f n k (T, r)).2 (14 + 11 * (xnv r - 1) + xst (sp_stops f n k (T, r)).2 (xnv r - 1)) ∧ fi = (sp_stops f n k (T, r)).2 (15 + 11 * (xnv r - 1)) ∧ xnv (sp_stops f n k (T, r)).2 = xnv r) := by
  intro k
  induction k with
  | zero =>
    intro m T T' v p r r' la hm h h1 hy
    rw [sp_stops_0]
    refine ⟨T', v, p, r', la, nI m, ?_, h, rfl, rfl, fun z => ?_⟩
    · rw [yb_6_19, if_pos (show (8 : Int32) < nI m from nI_lt (a := 8) (by omega) (by omega))]
    · obtain ⟨y1, y2, y3, y4⟩ := hy z
      exact ⟨by rw [← y2]; exact y3, y4, rfl⟩
  | succ k ih =>
    intro m T T' v p r r' la hm h h1 hy
    have c92 := @kR_num (xu w (i + 1) p) l t sc (d + 4) f T T' v h.2.1
    rw [sp_stops_s, yb_6_19, if_neg (show ¬ (8 : Int32) < nI m from nI_nlt (a := 8) (b := m) (by omega) (by omega)), if_pos xiT, c92, zbs, xk_I]
    by_cases hz : T.2.2.2.1 = 0 ∧ T.2.2.1 = 2
    · obtain ⟨y1, y2, y3, y4⟩ := hy hz.1
      have hr : r' = r := h.2.2.2.2 hz.1
      obtain ⟨T2, v2, p2, r2, c7, h2, n2, k2⟩ := @kR_stop w l t sc (d + 1) n i f T T' v p r r' m la hi hB h (by omega) h1 (fun _ => ⟨y2, by rw [if_neg (by omega)]; exact y3⟩)
      rw [zB_tt hz, if_neg (show ¬ (1 : Int32) = 0 by decide), if_pos (show (T, r).1.2.2.2.1 = 0 ∧ (T, r).1.2.2.1 = 2 from hz), c7, zbs, xk_I, zS]
      have hS : kSn r := by rw [← hr]; exact h.2.2.2.1
      have h1r : 1 ≤ xnv r := by rw [← hr]; exact h1
      have ev : xnv (sq_stop f n (T, r)).2 = xnv r := (@sp_stop_ok f n T r hS h1r h.1).2.2.1
      obtain ⟨T3, v3, p3, r3, la3, x3, e3, g3, n3, k3, g4⟩ := ih (m + 1) (sq_stop f n (T, r)).1 T2 v2 p2 (sq_stop f n (T, r)).2 r2 (kSv f T r) (by omega) h2 (by rw [n2]; exact h1) (fun z => by
        obtain ⟨q1, q2, q3, q4⟩ := @kSt_nx n f T r m hS h1r (fun _ => y2.symm) z
        rw [ev]
        refine ⟨by omega, q2.symm, ?_, ?_⟩
        · rw [show 14 + 11 * (xnv r - 1) + (m + 1) = 15 + 11 * (xnv r - 1) + m by omega]
          exact q3.symm
        · have := q4 0 (by omega)
          rw [Nat.add_zero] at this
          rw [this]
          exact y4)
      rw [xLe (sq_stop f n (T, r))] at g3 g4
      rw [ev] at g4
      exact ⟨T3, v3, p3, r3, la3, x3, e3, g3, n3.trans n2, k3.trans k2, g4⟩
    · rw [zB_ff hz, if_pos rfl, if_neg (show ¬ ((T, r).1.2.2.2.1 = 0 ∧ (T, r).1.2.2.1 = 2) from hz)]
      refine ⟨T', v, p, r', la, nI m, rfl, h, rfl, rfl, fun z => ?_⟩
      obtain ⟨y1, y2, y3, y4⟩ := hy z
      exact ⟨by rw [← y2]; exact y3, y4, rfl⟩
theorem kR_route {T T' : xTk} {v : Int32} {p : xG} {r r' : Nat → Int32} (hi : i < 2) (hB : kBy w f n) (h : kLk f n T T' v p r r') (h1 : 1 ≤ xnv r') (hy : T.2.2.2.1 = 0 → xst r (xnv r - 1) = 0) :
    ∃ T'' v'' p' r'', xm_C sc xt_M (d + 6) 6 [.ref 21, .ref (xp i)] (xem (kTw (xu w (i + 1) p) T' v) l t) = some (.inl none, xem (kTw (xu w (i + 1) p') T'' v'') l t) ∧ kLk f n (sp_rte f n (sp_stops f n 7 (sq_stop f n (sq_stop f n (T, r))))).1 T'' v'' p' (sp_rte f n (sp_stops f n 7 (sq_stop f n (sq_stop f n (T, r))))).2 r'' ∧ xnv r'' = xnv r' ∧ xnk r'' = xnk r' := by
  obtain ⟨T1, v1, p1, r1, c7, g1, n1, k1⟩ := @kR_stop w l t sc (d + 1) n i f T T' v p r r' 0 (-1) hi hB h (by omega) h1 (fun z => ⟨(hy z).symm, (if_pos rfl).symm⟩)
  rw [show nI 0 = (0 : Int32) from rfl] at c7
  -- the second stop
  have f1 : (sq_stop f n (T, r)).1.2.2.2.1 = 0 → xnv (sq_stop f n (T, r)).2 = xnv r ∧ xst (sq_stop f n (T, r)).2 (xnv r - 1) = 1 ∧ (sq_stop f n (T, r)).2 (15 + 11 * (xnv r - 1)) = kSv f T r := fun z => by
    have z1 := (sp_stop_ok2 z).1
    have hr := h.2.2.2.2 z1
    obtain ⟨q1, q2, q3, q4⟩ := @kSt_nx n f T r 0 (by rw [← hr]; exact h.2.2.2.1) (by rw [← hr]; exact h1) hy z
    exact ⟨q1, q2, q3⟩
  obtain ⟨T2, v2, p2, r2, c72, g2, n2, k2⟩ := @kR_stop w l t sc (d + 1) n i f (sq_stop f n (T, r)).1 T1 v1 p1 (sq_stop f n (T, r)).2 r1 1 (kSv f T r) hi hB g1 (by omega) (by rw [n1]; exact h1) (fun z => by
    obtain ⟨q1, q2, q3⟩ := f1 z
    rw [q1, if_neg (by omega), show 14 + 11 * (xnv r - 1) + 1 = 15 + 11 * (xnv r - 1) by omega]
    exact ⟨q2.symm, q3.symm⟩)
  rw [show nI 1 = (1 : Int32) from rfl] at c72
  have eS := xLe (sq_stop f n (T, r))
  rw [eS] at g2
  have f2 : (sq_stop f n (sq_stop f n (T, r))).1.2.2.2.1 = 0 → 2 = xst (sq_stop f n (sq_stop f n (T, r))).2 (xnv (sq_stop f n (sq_stop f n (T, r))).2 - 1) ∧ kSv f (sq_stop f n (T, r)).1 (sq_stop f n (T, r)).2 = (sq_stop f n (sq_stop f n (T, r))).2 (14 + 11 * (xnv (sq_stop f n (sq_stop f n (T, r))).2 - 1) + 2) ∧ kSv f T r = (sq_stop f n (sq_stop f n (T, r))).2 (15 + 11 * (xnv (sq_stop f n (sq_stop f n (T, r))).2 - 1)) := fun z => by
    rw [← eS] at z
    have z1 := (@sp_stop_ok2 n f (sq_stop f n (T, r)).1 (sq_stop f n (T, r)).2 z).1
    obtain ⟨o1, o2, o3⟩ := f1 z1
    have hr := g1.2.2.2.2 z1
    obtain ⟨q1, q2, q3, q4⟩ := @kSt_nx n f (sq_stop f n (T, r)).1 (sq_stop f n (T, r)).2 1 (by rw [← hr]; exact g1.2.2.2.1) (by rw [← hr, n1]; exact h1) (fun _ => by rw [o1]; exact o2) z
    rw [eS] at q1 q2 q3 q4
    rw [o1] at q2 q3 q4 q1
    rw [q1]
    refine ⟨q2.symm, ?_, ?_⟩
    · rw [show 14 + 11 * (xnv r - 1) + 2 = 15 + 11 * (xnv r - 1) + 1 by omega]
      exact q3.symm
    · have := q4 0 (by omega)
      rw [Nat.add_zero] at this
      rw [this]
      exact o3.symm
  generalize hP : sq_stop f n (sq_stop f n (T, r)) = P at *
  obtain ⟨P1, P2⟩ := P
  obtain ⟨T3, v3, p3, r3, la3, x3, e3, g3, n3, k3, g4⟩ := @kR_loop w l t sc d n i f hi hB (kSv f T r) 7 2 P1 T2 v2 p2 P2 r2 (kSv f (sq_stop f n (T, r)).1 (sq_stop f n (T, r)).2) rfl g2 (by rw [n2, n1]; exact h1) (fun z => ⟨by omega, (f2 z).1, (f2 z).2.1, (f2 z).2.2⟩)
  have hB3 : kBy (xu w (i + 1) p3) f n := kBy_xu (by omega) hB
  have hv3 : (sp_stops f n 7 (P1, P2)).1.2.2.2.1 = 0 → la3 = (sp_stops f n 7 (P1, P2)).2 (14 + 11 * (xnv (sp_stops f n 7 (P1, P2)).2 - 1) + xst (sp_stops f n 7 (P1, P2)).2 (xnv (sp_stops f n 7 (P1, P2)).2 - 1)) ∧ kSv f T r = (sp_stops f n 7 (P1, P2)).2 (15 + 11 * (xnv (sp_stops f n 7 (P1, P2)).2 - 1)) := fun z => by
    obtain ⟨y1, y2, y3⟩ := g4 z
    rw [y3]
    exact ⟨y1, y2⟩
  generalize hQ : sp_stops f n 7 (P1, P2) = Q at *
  have c93 := @kR_sign (xu w (i + 1) p3) l t sc (d + 4) n f hB3 Q.1 T3 v3 g3.1 g3.2.1
  have s67 : ∃ T4, xm_R sc xt_M (d + 5) 6 48 [.ref 21, .ref (xp i), .int (kSv f T r), .int la3, .int x3] [] (xem (kTw (xu w (i + 1) p3) T3 v3) l t) = xm_R sc xt_M (d + 5) 6 67 [.ref 21, .ref (xp i), .int (kSv f T r), .int la3, .int x3] [] (xem (kTw (xu w (i + 1) p3) T4 v3) l t) ∧ kTR f (sp_vn9 f Q) T4 v3 := by
    rw [yb_6_48, if_pos xiT, c93, zbs, xk_I]
    rw [sp_vn9_u]
    by_cases hs : sp_sym f Q.1 59
    · obtain ⟨y1, y2⟩ := hv3 hs.1
      rw [zB_tt hs, if_neg (show ¬ (1 : Int32) = 0 by decide)]
      by_cases he : la3 = kSv f T r
      · obtain ⟨T4, c85, hR4⟩ := @kR_flaw (xu w (i + 1) p3) l t sc (d + 3) f Q.1 T3 v3 4 (by decide) g3.2.1
        rw [if_pos he, if_pos xiT, c85, zbs, xk_v, if_pos (c := sp_sym f Q.1 59 ∧ Q.2 (15 + 11 * (xnv Q.2 - 1)) = Q.2 (14 + 11 * (xnv Q.2 - 1) + xst Q.2 (xnv Q.2 - 1))) ⟨hs, by rw [← y2, ← y1, he]⟩]
        refine ⟨T4, rfl, ?_⟩
        unfold sp_check
        rw [if_pos rfl]
        exact hR4
      · rw [if_neg he, if_neg (c := sp_sym f Q.1 59 ∧ Q.2 (15 + 11 * (xnv Q.2 - 1)) = Q.2 (14 + 11 * (xnv Q.2 - 1) + xst Q.2 (xnv Q.2 - 1))) (fun u => he (by rw [y1, y2, u.2]))]
        refine ⟨T3, rfl, ?_⟩
        unfold sp_check
        rw [if_neg (by decide)]
        exact g3.2.1
    · rw [zB_ff hs, if_pos rfl, if_neg (c := sp_sym f Q.1 59 ∧ Q.2 (15 + 11 * (xnv Q.2 - 1)) = Q.2 (14 + 11 * (xnv Q.2 - 1) + xst Q.2 (xnv Q.2 - 1))) (fun u => hs u.1)]
      refine ⟨T3, rfl, ?_⟩
      unfold sp_check
      rw [if_neg (by decide)]
      exact g3.2.1
  obtain ⟨T4, e48, hR4⟩ := s67
  have hT9 : sp_tw f n (sp_vn9 f Q) := by rw [sp_vn9_u]; exact sp_tw_check g3.1
  obtain ⟨T5, v5, c96, hR5⟩ := @kR_passSign (xu w (i + 1) p3) l t sc (d + 1) n f (sp_vn9 f Q) T4 v3 hB3 hT9 hR4
  refine ⟨T5, v5, p3, r3, ?_, ⟨by rw [sp_rte_a]; exact sp_tw_exp2 hT9, by rw [sp_rte_a]; exact hR5, g3.2.2.1, g3.2.2.2.1, fun z => ?_⟩, n3.trans (n2.trans n1), k3.trans (k2.trans k1)⟩
  · rw [yc_6, c7, zbs, xk_I, c72, zbs, xk_I, show (2 : Int32) = nI 2 from rfl, e3, e48, yb_6_67, if_pos xiT, c96, zbs, xk_v]
  · rw [sp_rte_a] at z
    rw [sp_rte_b]
    have z1 := (sp_exp2_ok z).1.1
    rw [sp_vn9_u] at z1
    exact g3.2.2.2.2 (sp_check_ok (by decide) z1).1
end KV2
