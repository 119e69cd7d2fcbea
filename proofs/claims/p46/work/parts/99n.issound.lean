/-! THE LAW: isSound -/
section IS
variable {w : xW} {ext : List xm_PC} {sc : xm_Sc} {d n : Nat} {r : Nat → Int32} {hs : Nat → Nat → Int32} {sn : Option (Nat → Int32)}
theorem lz_120 (hI : cI w r n hs sn) {a b : Nat} (ha : a < xnb r) (hb : b < xnb r) : xm_C sc xt_M (d + 3) 120 [.ref 0, .int (nI a), .int (nI b)] (xL w ext) = some (.inl (some (.int (kD r a b))), xL w ext) := by
  have hb6 := hI.W.bd.b6
  have e : sp_legsK r (nI a) (nI b) = (0, kD r a b) := by
    unfold sp_legsK sp_br
    rw [hI.W.bd.b, if_pos (zrg' (by omega) ha), if_pos (zrg' (by omega) hb), nI_clamp (by omega), nI_clamp (by omega)]
  rw [la_120 hI (by rw [e]), e]
theorem lz_114 (hI : cI w r n hs sn) {v s : Nat} (hv : v < xnv r) (hs' : s < xst r v) : xm_C sc xt_M (d + 3) 114 [.ref 0, .int (nI v), .int (nI s)] (xL w ext) = some (.inl (some (.int (r (15 + 11 * v + s)))), xL w ext) := by
  have hv4 := hI.W.bd.v4
  have h9 := hI.W.st9 hv
  have e : sp_stop r (nI v) (nI s) = (0, r (15 + 11 * v + s)) := by
    unfold sp_stop
    rw [hI.W.bd.v, nI_clamp (by omega), nI_clamp (by omega), hI.W.st hv, if_pos ⟨zrg' (by omega) hv, zrg' (by omega) hs'⟩]
  rw [la_114 hI (by rw [e]), e]
theorem lz_118 (hI : cI w r n hs sn) {k q : Nat} {rd : Int32} (hk : k < xnk r) (e0 : sp_by r (nI k) rd = some q) : xm_C sc xt_M (d + 4) 118 [.ref 0, .int (nI k), .int rd] (xL w ext) = some (.inl (some (.int (sp_rank r q))), xL w ext) := by
  have hk20 := hI.W.bd.k20
  have e : sp_placeOf r (nI k) rd = (0, sp_rank r q) := by
    unfold sp_placeOf
    rw [hI.W.bd.k, if_pos (zrg' (by omega) hk), e0]
  rw [la_118 hI (by rw [e]), e]
theorem o10I : nI 10 = 10 := by decide +kernel
theorem o11I : nI 11 = 11 := by decide +kernel
theorem o5I : nI 5 = 5 := by decide +kernel
theorem o6I : nI 6 = 6 := by decide +kernel
theorem o7I : nI 7 = 7 := by decide +kernel
theorem oc_187 (hI : cI w r n hs sn) (hS : rS r) : xm_C sc xt_M (d + 7) 187 [.ref 0] (xL w ext) = some (.inl (some (.int 1)), xL w ext) := by
  have hW := hI.W
  have hB := hW.bd
  have hb6 := hB.b6
  have hv4 := hB.v4
  have hk20 := hB.k20
  have hq40 := hB.q40
  have is := cI.is (ext := ext) w
  have s2 := @lz_111 w ext sc (d + 2) n r hs sn hI 2 _ (by omega) sz_2
  have s3 := @lz_111 w ext sc (d + 2) n r hs sn hI 3 _ (by omega) sz_3
  have s0 := @lz_111 w ext sc (d + 2) n r hs sn hI 0 _ (by omega) sz_0
  have s4 := @lz_111 w ext sc (d + 2) n r hs sn hI 4 _ (by omega) sz_4
  have s5 := @lz_111 w ext sc (d + 2) n r hs sn hI 5 _ (by omega) sz_5
  have s10 := @lz_111 w ext sc (d + 2) n r hs sn hI 10 _ (by omega) sz_10
  have s11 := @lz_111 w ext sc (d + 2) n r hs sn hI 11 _ (by omega) sz_11
  rw [o2I, hB.v] at s2
  rw [o3I, hB.k] at s3
  rw [nI_0, hB.b] at s0
  rw [o4I, hB.q] at s4
  rw [o5I] at s5
  rw [o10I, cS_n] at s10
  rw [o11I, cS_n] at s11
  generalize hT : cS r 3 (xnk r) + cS r 4 (xnk r) + sumN (fun v => cP r 1 v (xnk r)) (xnv r) = T0
  have hall : T0 + sumN (fun b => cP r 0 b (xnk r) + cP r 2 b (xnk r)) (xnb r) = xnk r := by
    rw [← hT]
    exact cAll_n hW (xnk r) (Nat.le_refl _)
  have hasks : sumN (fun k => qN r k) (xnk r) = xnq r := cQ_n hW (xnq r) (Nat.le_refl _)
  -- the books
  have lK : ∀ m k v4 v5 v6, k + m = xnk r → xm_R sc xt_M (d + 6) 187 196 [.ref 0, .int (nI (xnk r)), .int (nI (sumN (fun k => qN r k) k)), .int (nI k), v4, v5, v6] [] (xL w ext) = some (.inl (some (.int 1)), xL w ext) := by
    intro m
    induction m with
    | zero =>
      intro k v4 v5 v6 hk
      have ek : k = xnk r := by omega
      subst ek
      rw [yb_187_196, if_pos is, s3, zbs, xk_I, if_pos (nI_le (Nat.le_refl _) (by omega)), if_pos is, s3, zbs, xk_I, if_pos rfl, if_pos is, s4, zbs, xk_I, hasks, if_pos rfl, yb_187_379, if_pos (by decide)]
    | succ m ih =>
      intro k v4 v5 v6 hk
      have hk' : k < xnk r := by omega
      have hH := hS.1 k hk'
      have n4 := @lz_112 w ext sc d n r hs sn hI k 4 hk' (by omega)
      rw [o4I, show (sp_num (fun _ => -1) r k 4).1 = nI (qN r k) from (show (sp_num (fun _ => -1) r k 4).1 = sp_queue r (nI k) from rfl).trans qN_s] at n4
      have n0 := @lz_112 w ext sc d n r hs sn hI k 0 hk' (by omega)
      rw [nI_0, show (sp_num (fun _ => -1) r k 0).1 = r (56 + 6 * k) from rfl] at n0
      have n6 := @lz_112 w ext sc d n r hs sn hI k 6 hk' (by omega)
      rw [o6I, show (sp_num (fun _ => -1) r k 6).1 = r (60 + 6 * k) from rfl] at n6
      have n5 := @lz_112 w ext sc d n r hs sn hI k 5 hk' (by omega)
      rw [o5I, show (sp_num (fun _ => -1) r k 5).1 = r (59 + 6 * k) from rfl] at n5
      have n1 := @lz_112 w ext sc d n r hs sn hI k 1 hk' (by omega)
      rw [o1I, show (sp_num (fun _ => -1) r k 1).1 = r (57 + 6 * k) from rfl] at n1
      have n7 := @lz_112 w ext sc d n r hs sn hI k 7 hk' (by omega)
      rw [o7I, show (sp_num (fun _ => -1) r k 7).1 = r (61 + 6 * k) from rfl] at n7
      have hq := @qN_le r k
      -- its requests
      have lQ : ∀ m i v6, i + m = qN r k → xm_R sc xt_M (d + 6) 187 220 [.ref 0, .int (nI (xnk r)), .int (nI (sumN (fun k => qN r k) (k + 1))), .int (nI k), .int (hU r k i), .int (nI i), v6] [] (xL w ext) = xm_R sc xt_M (d + 6) 187 220 [.ref 0, .int (nI (xnk r)), .int (nI (sumN (fun k => qN r k) (k + 1))), .int (nI k), .int (hU r k (qN r k)), .int (nI (qN r k)), v6] [] (xL w ext) := by
        intro m
        induction m with
        | zero => intro i v6 hi; rw [show i = qN r k by omega]
        | succ m ih2 =>
          intro i v6 hi
          have z := ih2 (i + 1) v6 (by omega)
          rw [yb_187_220 (i5 := nI i), if_pos is, n4, zbs, xk_I, if_neg (nI_ge (by omega) (by omega)), if_pos is, lz_117 hI hk' (by omega) ⟨by decide, by decide⟩, zbs, xk_I, ← nI_succ]
          exact z
      have zq := lQ (qN r k) 0 v6 (Nat.zero_add _)
      rw [nI_0] at zq
      have nx := ih (k + 1)
      rw [yb_187_196, if_pos is, s3, zbs, xk_I, if_neg (nI_ge (by omega) (by omega)), if_pos is, n4, zbs, xk_I, zA]
      refine (show _ = _ from zq).trans ?_
      rw [hU_n hW hk' hH, yb_187_220, if_pos is, n4, zbs, xk_I, if_pos (nI_le (Nat.le_refl _) (by omega)), if_pos is, n0, zbs, xk_I]
      by_cases h2 : r (56 + 6 * k) = 2
      · obtain ⟨q, q1, q2, q3, q4, q5, q6, q7⟩ := rH_one hW hk' h2 hH
        obtain ⟨g1, g2, g3, -⟩ := hH h2
        have p8 := @lz_118 w ext sc (d + 2) n r hs sn hI k q (r (60 + 6 * k)) hk' q5
        rw [sp_rank_c q2] at p8
        obtain ⟨q', u1, u2, u3, u4⟩ := rz_ok (x := 1) hB hk' q6 ⟨by decide, by decide⟩
        have eq' : q' = q := xcnt_inj (p := fun p => r (176 + 3 * p) = nI k) u2 q2 u3
        have p9 := @lz_117 w ext sc (d + 2) n r hs sn hI k _ 1 hk' q6 ⟨by decide, by decide⟩
        rw [u4, eq'] at p9
        dsimp only at p9
        rw [if_neg (by decide), if_neg (by decide), q4] at p9
        rw [if_pos h2, yb_187_265, if_neg (by decide), yb_187_279, zB_tt h2, if_pos rfl, if_neg (by decide), if_pos is, n6, zbs, xk_I, if_pos is, p8, zbs, xk_I, if_pos is, n5, zbs, xk_I, if_neg (by rw [g1]; decide), if_pos is, p9, zbs, xk_I, if_pos is, n1, zbs, xk_I, if_pos rfl, if_pos is, n7, zbs, xk_I, if_pos is, s5, zbs, xk_I, if_pos g3, yb_187_350, ← nI_succ]
        exact nx _ _ _ (by omega)
      · rw [if_neg h2, yb_187_265, if_pos rfl, yb_187_279, zB_ff h2, if_pos rfl, if_pos rfl, yb_187_350, ← nI_succ]
        exact nx _ _ _ (by omega)
  -- the branches
  have lB : ∀ m b v4 v5 v6, b + m = xnb r → xm_R sc xt_M (d + 6) 187 81 [.ref 0, .int (nI (T0 + sumN (fun b => cP r 0 b (xnk r) + cP r 2 b (xnk r)) b)), .int 0, .int (nI b), v4, v5, v6] [] (xL w ext) = some (.inl (some (.int 1)), xL w ext) := by
    intro m
    induction m with
    | zero =>
      intro b v4 v5 v6 hb
      have eb : b = xnb r := by omega
      subst eb
      have z := lK (xnk r) 0 v4 v5 v6 (Nat.zero_add _)
      rw [yb_187_81, if_pos is, s0, zbs, xk_I, if_pos (nI_le (Nat.le_refl _) (by omega)), hall]
      rw [show sumN (fun k => qN r k) 0 = 0 from rfl, nI_0] at z
      exact z
    | succ m ih =>
      intro b v4 v5 v6 hb
      have hb' : b < xnb r := by omega
      have b1 := @lz_116 w ext sc (d + 2) n r hs sn hI b 1 _ (bz_1 hB hb')
      have b2 := @lz_116 w ext sc (d + 2) n r hs sn hI b 2 _ (bz_2 hB hb')
      have b0 := @lz_116 w ext sc (d + 2) n r hs sn hI b 0 _ (bz_0 hB hb')
      rw [o1I, cP_n] at b1
      rw [o2I, cP_n] at b2
      rw [nI_0] at b0
      have hc2 : cP r 2 b (xnk r) ≤ xnk r := xcnt_le
      -- legs both ways
      have lA : ∀ m a v5 v6, a + m = xnb r → ∃ v4', xm_R sc xt_M (d + 6) 187 153 [.ref 0, .int (nI (T0 + sumN (fun b => cP r 0 b (xnk r) + cP r 2 b (xnk r)) (b + 1))), .int 0, .int (nI b), .int (nI a), v5, v6] [] (xL w ext) = xm_R sc xt_M (d + 6) 187 81 [.ref 0, .int (nI (T0 + sumN (fun b => cP r 0 b (xnk r) + cP r 2 b (xnk r)) (b + 1))), .int 0, .int (nI (b + 1)), v4', v5, v6] [] (xL w ext) := by
        intro m
        induction m with
        | zero =>
          intro a v5 v6 ha
          refine ⟨.int (nI a), ?_⟩
          rw [yb_187_153, if_pos is, s0, zbs, xk_I, if_pos (nI_le (by omega) (by omega)), ← nI_succ]
        | succ m ih2 =>
          intro a v5 v6 ha
          obtain ⟨v4', z⟩ := ih2 (a + 1) v5 v6 (by omega)
          refine ⟨v4', ?_⟩
          rw [yb_187_153, if_pos is, s0, zbs, xk_I, if_neg (nI_ge (by omega) (by omega)), if_pos is, lz_120 hI (by omega) hb', zbs, xk_I, if_pos is, lz_120 hI hb' (by omega), zbs, xk_I, if_pos (kD_sym hB (by omega) hb'), ← nI_succ]
          exact z
      have e124 : ∀ v4 v5 v6, xm_R sc xt_M (d + 6) 187 124 [.ref 0, .int (nI (T0 + sumN (fun b => cP r 0 b (xnk r) + cP r 2 b (xnk r)) (b + 1))), .int 0, .int (nI b), v4, v5, v6] [] (xL w ext) = some (.inl (some (.int 1)), xL w ext) := by
        intro v4 v5 v6
        obtain ⟨v4', z⟩ := lA (xnb r) 0 v5 v6 (Nat.zero_add _)
        rw [nI_0] at z
        rw [yb_187_124, if_pos is, lz_120 hI hb' hb', zbs, xk_I, if_pos is, b0, zbs, xk_I, kD_self hB hb']
        by_cases ho : r (6 + b) = 1
        · rw [if_pos ho, if_pos ho, yb_187_145, if_pos rfl, z]
          exact ih (b + 1) _ _ _ (by omega)
        · rw [if_neg ho, if_neg ho, yb_187_145, if_pos rfl, z]
          exact ih (b + 1) _ _ _ (by omega)
      rw [yb_187_81, if_pos is, s0, zbs, xk_I, if_neg (nI_ge (by omega) (by omega)), if_pos is, b1, zbs, xk_I, if_pos is, b2, zbs, xk_I, if_pos is, b0, zbs, xk_I, zA, zA, show T0 + sumN (fun b => cP r 0 b (xnk r) + cP r 2 b (xnk r)) b + (cP r 0 b (xnk r) + cP r 2 b (xnk r)) = T0 + sumN (fun b => cP r 0 b (xnk r) + cP r 2 b (xnk r)) (b + 1) from Nat.add_assoc _ _ _]
      by_cases ho : r (6 + b) = 0
      · have h0 : cP r 2 b (xnk r) = 0 := by
          apply Classical.byContradiction
          intro hne
          obtain ⟨k, k1, k2, -⟩ := (xcnt_kth (p := fun k => sp_isIn r 2 k (nI b)) (m := 0)).mp (show 0 < cP r 2 b (xnk r) by omega)
          have hx := (hS.1 k k1 k2.1).2.1
          rw [k2.2] at hx
          unfold xop at hx
          rw [nI_clamp (by omega), ho] at hx
          exact absurd hx (by decide)
        rw [if_pos ho, if_pos is, b2, zbs, xk_I, h0, if_neg (by decide), e124]
      · rw [if_neg ho, e124]
  -- the vans
  have lV : ∀ m v v4 v5 v6, v + m = xnv r → xm_R sc xt_M (d + 6) 187 18 [.ref 0, .int (nI (cS r 3 (xnk r) + cS r 4 (xnk r) + sumN (fun v => cP r 1 v (xnk r)) v)), .int 0, .int (nI v), v4, v5, v6] [] (xL w ext) = some (.inl (some (.int 1)), xL w ext) := by
    intro m
    induction m with
    | zero =>
      intro v v4 v5 v6 hv
      have ev : v = xnv r := by omega
      subst ev
      have z := lB (xnb r) 0 v4 v5 v6 (Nat.zero_add _)
      rw [nI_0] at z
      rw [yb_187_18, if_pos is, s2, zbs, xk_I, if_pos (nI_le (Nat.le_refl _) (by omega)), hT]
      exact z
    | succ m ih =>
      intro v v4 v5 v6 hv
      have hv' : v < xnv r := by omega
      have v4e := @lz_113 w ext sc (d + 2) n r hs sn hI v 4 _ (vz_4 hB hv')
      have v0e := @lz_113 w ext sc (d + 2) n r hs sn hI v 0 _ (vz_0 hB hv')
      have v3e := @lz_113 w ext sc (d + 2) n r hs sn hI v 3 _ (vz_3 hB hv')
      have v2e := @lz_113 w ext sc (d + 2) n r hs sn hI v 2 _ (vz_2 hB hv')
      rw [o4I, cP_n] at v4e
      rw [nI_0] at v0e
      rw [o3I] at v3e
      rw [o2I] at v2e
      obtain ⟨a1, -, -, a4, -⟩ := hW.v v hv'
      have h9 := hW.st9 hv'
      have hsp := @lz_114 w ext sc (d + 3) n r hs sn hI v _ hv' a4.2
      rw [← a4.1] at hsp
      have hrm := hS.2 v hv'
      unfold rV at hrm
      have hlt : ¬ r (12 + 11 * v) < nI (cP r 1 v (xnk r)) := by
        rw [a1.1]
        exact nI_nlt hrm (by have := a1.2; omega)
      rw [yb_187_18, if_pos is, s2, zbs, xk_I, if_neg (nI_ge (by omega) (by omega)), if_pos is, v4e, zbs, xk_I, if_pos is, v0e, zbs, xk_I, if_neg hlt, if_pos is, v3e, zbs, xk_I, if_pos is, v2e, zbs, xk_I, if_pos is, hsp, zbs, xk_I, if_pos rfl, if_pos is, v4e, zbs, xk_I, zA, ← nI_succ, show cS r 3 (xnk r) + cS r 4 (xnk r) + sumN (fun v => cP r 1 v (xnk r)) v + cP r 1 v (xnk r) = cS r 3 (xnk r) + cS r 4 (xnk r) + sumN (fun v => cP r 1 v (xnk r)) (v + 1) from Nat.add_assoc _ _ _]
      exact ih (v + 1) _ _ _ (by omega)
  have z := lV (xnv r) 0 .null .null .null (Nat.zero_add _)
  rw [nI_0] at z
  rw [yc_187, if_pos is, s10, zbs, xk_I, if_pos is, s11, zbs, xk_I, zA]
  exact z
end IS
