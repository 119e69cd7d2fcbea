/-! THE REFERENCE: a query is asked of each book -/
def qR (a : Nat → Int64) : List Int64 → Prop
  | [] => True
  | x :: s => a s.length = x ∧ qR a s
theorem qR_up {a a' : Nat → Int64} : ∀ (s : List Int64), (∀ i, i < s.length → a' i = a i) → qR a s → qR a' s := by
  intro s
  induction s with
  | nil => exact fun _ _ => trivial
  | cons x s ih =>
    intro h hq
    refine ⟨?_, ih (fun i hi => h i (by rw [List.length_cons]; omega)) hq.2⟩
    rw [h s.length (by rw [List.length_cons]; omega)]
    exact hq.1
theorem q_dec1 {m : Nat} : nI (m + 1) + (-1) = nI m := by
  have e : nI (m + 1) + (-1) = nI (m + 1) - 1 := (Int32.sub_eq_add_neg _ _).symm
  rw [e, nI_pred]
theorem q_m1 : ∀ i, i < 7 → (-1 : Int32) - ((-1) - nI i) = nI i ∧ ((-1 : Int32) - nI i < 0) := by decide +kernel
theorem lg_1 {x : Int64} : (lg_cmp x 1 = 0) = (x = 1) := by
  unfold lg_cmp
  by_cases h : x > 1
  · rw [if_pos h]
    have : ¬ x = 1 := fun z => by rw [z] at h; exact absurd h (by decide)
    exact propext ⟨fun z => absurd z (by decide), fun z => absurd z this⟩
  · rw [if_neg h]
    by_cases h2 : x = 1
    · rw [if_pos h2]
      exact propext ⟨fun _ => h2, fun _ => rfl⟩
    · rw [if_neg h2]
      exact propext ⟨fun z => absurd z (by decide), fun z => absurd z h2⟩
section HF
variable {w : xW} {l : Nat → Nat → Int64} {t : Nat} {sc : xm_Sc} {d : Nat}
theorem zc_288 {x : Int32} {S : xm_PS} : xm_C sc xt_M (d + 1) 288 [.int x] S = some (.inl (some (.int (q_sh x))), S) := by
  rw [yc_288]
  unfold q_sh
  split <;> rfl
theorem zc_289 {i b : Nat} (hW : xWF (xR w)) (hb : b < xnk (xR w)) (hi : i < 7) : xm_C sc xt_M (d + 4) 289 [.ref 191, .int (nI b), .int (nI i)] (xem w l t) = some (.inl (some (.int (q_pr (xR w) b i))), xem w l t) := by
  have hk20 := hW.bd.k20
  have hc7 : i = 0 ∨ i = 1 ∨ i = 2 ∨ i = 3 ∨ i = 4 ∨ i = 5 ∨ i = 6 := by omega
  clear hi
  rw [yc_289]
  rcases hc7 with rfl | rfl | rfl | rfl | rfl | rfl | rfl
  · rw [if_pos (by decide)]
    rfl
  · rw [if_neg (by decide), if_pos (by decide), if_pos xiM, zc_163_0 (by omega), zbs, xk_I]
    rfl
  · rw [if_neg (by decide), if_neg (by decide), if_pos (by decide), if_pos xiM, zc_163_1 (by omega), zbs, xk_I, zc_288, zbs, xk_I]
    rfl
  · rw [if_neg (by decide), if_neg (by decide), if_neg (by decide), if_pos (by decide), if_pos xiM, zc_163_2 (by omega), zbs, xk_I]
    rfl
  · rw [if_neg (by decide), if_neg (by decide), if_neg (by decide), if_neg (by decide), if_pos (by decide), if_pos xiM, zc_188 hb hW, zbs, xk_I, zc_288, zbs, xk_I]
    rfl
  · rw [if_neg (by decide), if_neg (by decide), if_neg (by decide), if_neg (by decide), if_neg (by decide), if_pos (by decide), if_pos xiM, zc_178 hW.bd, zbs, xk_I]
    rfl
  · rw [if_neg (by decide), if_neg (by decide), if_neg (by decide), if_neg (by decide), if_neg (by decide), if_neg (by decide), if_pos xiM, zc_163_3 (by omega), zbs, xk_I]
    rfl
theorem zc_296 {c : Int32} {x y : Int64} {S : xm_PS} : xm_C sc xt_M (d + 1) 296 [.int c, .long x, .long y] S = some (.inl (some (.long (q_opr c x y))), S) := by
  have n24 : (-24 : Int32).toInt = -24 := by decide
  have n23 : (-23 : Int32).toInt = -23 := by decide
  have n22 : (-22 : Int32).toInt = -22 := by decide
  have n21 : (-21 : Int32).toInt = -21 := by decide
  have n20 : (-20 : Int32).toInt = -20 := by decide
  rw [yc_296]
  unfold q_opr
  by_cases h24 : c = -24
  · subst h24
    rw [if_pos n24, if_pos rfl]
  rw [if_neg (fun z => h24 (zti (z.trans n24.symm))), if_neg h24]
  by_cases h23 : c = -23
  · subst h23
    rw [if_pos n23, if_neg (by decide), if_neg (by decide), if_neg (by decide), yb_296_76]
  rw [if_neg (fun z => h23 (zti (z.trans n23.symm)))]
  by_cases h22 : c = -22
  · subst h22
    rw [if_pos n22, if_pos rfl]
    split <;> rfl
  rw [if_neg (fun z => h22 (zti (z.trans n22.symm))), if_neg h22]
  by_cases h21 : c = -21
  · subst h21
    rw [if_pos n21, if_pos rfl]
    split <;> rfl
  rw [if_neg (fun z => h21 (zti (z.trans n21.symm))), if_neg h21]
  by_cases h20 : c = -20
  · subst h20
    rw [if_pos n20, if_pos rfl]
    split <;> rfl
  rw [if_neg (fun z => h20 (zti (z.trans n20.symm))), if_neg h20, yb_296_76]
theorem xaL {i : Nat} (hi : i < 200) : xm_aL (xem w l t) 203 (nI i) = some (l 1 i) := by rw [xaL_1, if_pos (xin hi (by decide)), nI_clamp (by omega)]
theorem xwL {i : Nat} {x : Int64} (hi : i < 200) : xm_wL (xem w l t) 203 (nI i) x = some (xem w (fun a => if a = 1 then vp_updL (l 1) i x else l a) t) := by rw [xwL_1, if_pos (xin hi (by decide)), nI_clamp (by omega)]
theorem qR_w {i : Nat} {x : Int64} {s : List Int64} (hs : s.length = i) (h : qR (l 1) s) : qR ((fun a => if a = 1 then vp_updL (l 1) i x else l a) 1) (x :: s) := by
  have e : ∀ j, (fun a => if a = 1 then vp_updL (l 1) i x else l a) 1 j = if j = i then x else l 1 j := fun j => rfl
  refine ⟨by rw [e, if_pos hs], qR_up s (fun j hj => ?_) h⟩
  rw [e, if_neg (by omega)]
theorem z297 {C b : Nat} {x : Int64} (hW : xWF (xR w)) (hb : b < xnk (xR w)) (hC : (w 3).1 15 = nI C) (hC2 : C ≤ 200) : ∀ (cs : List Int32) (k : Nat) (st : List Int64) (l : Nat → Nat → Int64) (v4 : Value), k + cs.length = C → (∀ j, j < cs.length → (w 3).2 10 (k + j) = cs.getD j 0) → st.length ≤ k → qR (l 1) st → (∀ c, c ∈ cs → ¬ c = -23 → ¬ c ≤ -20 → q_ok c) → q_go (fun c => q_pv (xR w) c b) cs st = some [x] → ∃ l', xm_R sc xt_M (d + 4) 297 4 [.ref 191, .int (nI b), .int (nI st.length), .int (nI k), v4] [] (xem w l t) = some (.inl (some (.int (zB (x = 1)))), xem w l' t) ∧ l' 0 = l 0 := by
  intro cs
  induction cs with
  | nil =>
    intro k st l v4 hk ha hs hq hok hgo
    have e : st = [x] := Option.some.inj hgo
    subst e
    have h0 : l 1 0 = x := hq.1
    have hk' : k = C := hk
    have e1 := lg_1 (x := x)
    rw [yb_297_4, xgM_27, zbs, hC, if_pos (nI_le (by omega) (by omega)), xgM_26, zbs, show (0 : Int32) = nI 0 from rfl, xaL (by omega), zbs, h0]
    refine ⟨l, ?_, rfl⟩
    by_cases hx : x = 1
    · rw [if_pos (show lg_cmp x 1 = nI 0 from by rw [show nI 0 = (0 : Int32) from rfl, e1]; exact hx), zB_tt hx]
    · rw [if_neg (show ¬ lg_cmp x 1 = nI 0 from by rw [show nI 0 = (0 : Int32) from rfl, e1]; exact hx), zB_ff hx]
      rfl
  | cons c cs ih =>
    intro k st l v4 hk ha hs hq hok hgo
    rw [List.length_cons] at hk
    have hc : (w 3).2 10 k = c := by
      have := ha 0 (by rw [List.length_cons]; omega)
      rw [Nat.add_zero] at this
      exact this
    have ha' : ∀ j, j < cs.length → (w 3).2 10 (k + 1 + j) = cs.getD j 0 := fun j hj => by
      have := ha (j + 1) (by rw [List.length_cons]; omega)
      rw [show k + 1 + j = k + (j + 1) by omega, this]
      rfl
    have hok' : ∀ c, c ∈ cs → ¬ c = -23 → ¬ c ≤ -20 → q_ok c := fun c' h' => hok c' (List.mem_cons_of_mem _ h')
    have hgo' : (q_g1 (fun c => q_pv (xR w) c b) c st).bind (q_go (fun c => q_pv (xR w) c b) cs) = some [x] := hgo
    have hcc : xm_aI (xem w l t) (xm 10) 0 (nI k) = some c := by rw [xaM_10, if_pos (xin (show k < 200 by omega) (by decide)), nI_clamp (by omega), hc]
    rw [yb_297_4, xgM_27, zbs, hC, if_neg (nI_ge (a := k) (b := C) (by omega) (by omega)), xgM_25, zbs, hcc, zbs]
    unfold q_g1 at hgo'
    by_cases h23 : c = -23
    · rw [if_pos h23] at hgo' ⊢
      match st, hs, hq, hgo' with
      | [], _, _, hgo' => exact absurd hgo' (by intro z; cases z)
      | y :: s, hs, hq, hgo' =>
        rw [List.length_cons] at hs
        rw [List.length_cons, xgM_26, zbs, zbs, nI_pred, xaL (by omega), zbs, xwL (by omega), zbs, yb_297_118, zS, hq.1]
        have z := ih (k + 1) ((1 - y) :: s) (fun a => if a = 1 then vp_updL (l 1) s.length (1 - y) else l a) (.int c) (by omega) ha' (by rw [List.length_cons]; omega) (qR_w (l := l) (x := 1 - y) rfl hq.2) hok' hgo'
        rw [List.length_cons] at z
        exact z
    · rw [if_neg h23] at hgo' ⊢
      by_cases h20 : c ≤ -20
      · rw [if_pos h20] at hgo' ⊢
        match st, hs, hq, hgo' with
        | [], _, _, hgo' => exact absurd hgo' (by intro z; cases z)
        | [_], _, _, hgo' => exact absurd hgo' (by intro z; cases z)
        | y :: x' :: s, hs, hq, hgo' =>
          rw [List.length_cons, List.length_cons] at hs
          have q1 : l 1 (s.length + 1) = y := hq.1
          have q2 : l 1 s.length = x' := hq.2.1
          rw [List.length_cons, List.length_cons, q_dec1, nI_pred, xgM_26, zbs, zbs, xaL (by omega), zbs, zbs, xaL (by omega), zbs, q1, q2, zc_296, zbs, xk_L, xwL (by omega), zbs, yb_297_118, zS]
          have z := ih (k + 1) (q_opr c x' y :: s) (fun a => if a = 1 then vp_updL (l 1) s.length (q_opr c x' y) else l a) (.int c) (by omega) ha' (by rw [List.length_cons]; omega) (qR_w (l := l) (x := q_opr c x' y) rfl hq.2.2) hok' hgo'
          rw [List.length_cons] at z
          exact z
      · rw [if_neg h20] at hgo' ⊢
        have ok := hok c (List.mem_cons_self) h23 h20
        have z := fun v => ih (k + 1) ((q_pv (xR w) c b).toInt64 :: st) (fun a => if a = 1 then vp_updL (l 1) st.length (q_pv (xR w) c b).toInt64 else l a) v (by omega) ha' (by rw [List.length_cons]; omega) (qR_w (l := l) rfl hq) hok' hgo'
        rw [List.length_cons] at z
        rw [xgM_26, zbs]
        rcases ok with ⟨i, hi, e⟩ | ⟨h1, h2⟩
        · have e289 := @zc_289 w l t sc d i b hW hb hi
          have ep : q_pv (xR w) c b = q_pr (xR w) b i := by rw [e]; exact q_pv_i hi
          rw [if_pos (by rw [e]; exact (q_m1 i hi).2), if_pos xiM, show (-1 : Int32) - c = nI i from by rw [e]; exact (q_m1 i hi).1, e289, zbs, xk_I, ← ep, xwL (by omega), zbs, yb_297_118, zS, zS]
          exact z _
        · rw [if_neg (Int32.not_lt.mpr h1)]
          have ep : q_pv (xR w) c b = c := q_pv_n h1
          rw [ep] at z
          rw [xwL (by omega), zbs, yb_297_118, zS, zS]
          exact z _
theorem zc_297 {b : Nat} {q : xQy} (hW : xWF (xR w)) (hb : b < xnk (xR w)) (hC : (w 3).1 15 = nI q.2.1.length) (hC2 : q.2.1.length ≤ 200) (ha : ∀ j, j < q.2.1.length → (w 3).2 10 j = q.2.1.getD j 0) (hS : qS (q_pv (xR w)) q) : ∃ l', xm_C sc xt_M (d + 5) 297 [.ref 191, .int (nI b)] (xem w l t) = some (.inl (some (.int (zB (q.2.2 b = true)))), xem w l' t) ∧ l' 0 = l 0 := by
  obtain ⟨l', e, e0⟩ := @z297 w t sc d q.2.1.length b (qb (q.2.2 b)) hW hb hC hC2 q.2.1 0 [] l .null (by omega) (fun j hj => by rw [Nat.zero_add]; exact ha j hj) (Nat.zero_le _) trivial hS.2 (hS.1 b [])
  refine ⟨l', ?_, e0⟩
  have eb : zB (qb (q.2.2 b) = 1) = zB (q.2.2 b = true) := by
    cases q.2.2 b
    · rfl
    · rfl
  rw [yc_297, ← eb]
  exact e
end HF
