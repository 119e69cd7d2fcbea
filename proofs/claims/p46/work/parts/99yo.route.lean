/-! TELL: a van's route -/
section RT
variable {T : xm_PS} {sc : xm_Sc} {d a e p h b nv v ns cv : Nat} {g : Nat → Int32}
/-- a stop that is not the last one, nor, at the end, the first -/
theorem t_237 {cvI u : Int32} {i pr fi : Nat} {v15 v16 : Value} (hb : 2 ≤ b ∧ b ≤ 6) (hA : oA T h 0 ns g) (hi : i < ns) (hns : ns ≤ 8) (hi0 : 0 < i) (hpr : g (i - 1) = nI pr) (hpr2 : pr < b) (hfi : g 0 = nI fi) (hfi2 : fi < b) {z : Nat} (hz : z < b) (hz1 : z ≠ pr) (hz2 : i = ns - 1 → z ≠ fi) :
    ∀ D s, s < b → (if s ≤ z then z - s else z + b - s) ≤ D → ∃ s', s' < b ∧ s' ≠ pr ∧ (i = ns - 1 → s' ≠ fi) ∧ xm_R sc xt_M (d + 9) 182 237 [.ref 0, .ref a, .retAddr 5000, .int 0, .ref e, .int cvI, .int (nI b), .int (nI nv), .ref p, .int (nI v), .int u, .int (nI ns), .ref h, .int (nI i), .int (nI s), v15, v16] [] T = xm_R sc xt_M (d + 9) 182 289 [.ref 0, .ref a, .retAddr 5000, .int 0, .ref e, .int cvI, .int (nI b), .int (nI nv), .ref p, .int (nI v), .int u, .int (nI ns), .ref h, .int (nI i), .int (nI s'), v15, v16] [] T := by
  intro D
  induction D with
  | zero =>
    intro s hs hD
    have es : s = z := by
      by_cases c : s ≤ z
      · rw [if_pos c] at hD; omega
      · rw [if_neg c] at hD; omega
    subst es
    refine ⟨s, hs, hz1, hz2, ?_⟩
    have a1 : xm_aI T h 0 (nI i - 1) = some (nI pr) := by
      have y := hA.at (i := i - 1) (by omega) (by omega)
      rw [hpr] at y
      rw [show nI i - 1 = nI (i - 1) by rw [show i = (i - 1) + 1 by omega, nI_pred, Nat.add_sub_cancel]]
      exact y
    have a0 : xm_aI T h 0 0 = some (nI fi) := by
      have y := hA.at (i := 0) (by omega) (by omega)
      rw [hfi, nI_0] at y
      exact y
    rw [yb_182_237 (by omega), if_neg (nI_nle hi0 (by omega)), a1, zbs, if_neg (fun y => hz1 (nI_inj (by omega) (by omega) y)), yb_182_254 (by omega), if_neg (nI_nle hi0 (by omega)), show nI ns - 1 = nI (ns - 1) by rw [show ns = (ns - 1) + 1 by omega, nI_pred, Nat.add_sub_cancel]]
    by_cases c : i = ns - 1
    · rw [if_pos (by rw [c]), a0, zbs, if_neg (fun y => hz2 c (nI_inj (by omega) (by omega) y))]
    · rw [if_neg (fun y => c (nI_inj (by omega) (by omega) y))]
  | succ D ih =>
    intro s hs hD
    have a1 : xm_aI T h 0 (nI i - 1) = some (nI pr) := by
      have y := hA.at (i := i - 1) (by omega) (by omega)
      rw [hpr] at y
      rw [show nI i - 1 = nI (i - 1) by rw [show i = (i - 1) + 1 by omega, nI_pred, Nat.add_sub_cancel]]
      exact y
    have a0 : xm_aI T h 0 0 = some (nI fi) := by
      have y := hA.at (i := 0) (by omega) (by omega)
      rw [hfi, nI_0] at y
      exact y
    have e1 : nI ns - 1 = nI (ns - 1) := by rw [show ns = (ns - 1) + 1 by omega, nI_pred, Nat.add_sub_cancel]
    have stp : s ≠ z → ∃ s', s' < b ∧ s' ≠ pr ∧ (i = ns - 1 → s' ≠ fi) ∧ xm_R sc xt_M (d + 9) 182 277 [.ref 0, .ref a, .retAddr 5000, .int 0, .ref e, .int cvI, .int (nI b), .int (nI nv), .ref p, .int (nI v), .int u, .int (nI ns), .ref h, .int (nI i), .int (nI s), v15, v16] [] T = xm_R sc xt_M (d + 9) 182 289 [.ref 0, .ref a, .retAddr 5000, .int 0, .ref e, .int cvI, .int (nI b), .int (nI nv), .ref p, .int (nI v), .int u, .int (nI ns), .ref h, .int (nI i), .int (nI s'), v15, v16] [] T := by
      intro hne
      by_cases c : s + 1 < b
      · obtain ⟨s', q1, q2, q3, q4⟩ := ih (s + 1) c (by
          by_cases c1 : s ≤ z
          · rw [if_pos c1] at hD; rw [if_pos (by omega)]; omega
          · rw [if_neg c1] at hD; rw [if_neg (by omega)]; omega)
        refine ⟨s', q1, q2, q3, ?_⟩
        rw [yb_182_277 (by omega), if_neg (nI_ne0 (by omega) (by omega)), ← nI_succ, pk_rem (by omega) (by omega) (by omega), Nat.mod_eq_of_lt c]
        exact q4
      · obtain ⟨s', q1, q2, q3, q4⟩ := ih 0 (by omega) (by
          rw [if_pos (by omega)]
          by_cases c1 : s ≤ z
          · omega
          · rw [if_neg c1] at hD; omega)
        refine ⟨s', q1, q2, q3, ?_⟩
        rw [yb_182_277 (by omega), if_neg (nI_ne0 (by omega) (by omega)), ← nI_succ, pk_rem (by omega) (by omega) (by omega), show s + 1 = b by omega, Nat.mod_self]
        exact q4
    by_cases c1 : s = pr
    · obtain ⟨s', q1, q2, q3, q4⟩ := stp (fun y => hz1 (y.symm.trans c1))
      refine ⟨s', q1, q2, q3, ?_⟩
      rw [yb_182_237 (by omega), if_neg (nI_nle hi0 (by omega)), a1, zbs, if_pos (by rw [c1])]
      exact q4
    · by_cases c2 : i = ns - 1 ∧ s = fi
      · obtain ⟨s', q1, q2, q3, q4⟩ := stp (fun y => hz2 c2.1 (y.symm.trans c2.2))
        refine ⟨s', q1, q2, q3, ?_⟩
        rw [yb_182_237 (by omega), if_neg (nI_nle hi0 (by omega)), a1, zbs, if_neg (fun y => c1 (nI_inj (by omega) (by omega) y)), yb_182_254 (by omega), if_neg (nI_nle hi0 (by omega)), e1, if_pos (by rw [c2.1]), a0, zbs, if_pos (by rw [c2.2])]
        exact q4
      · refine ⟨s, hs, c1, fun y z => c2 ⟨y, z⟩, ?_⟩
        rw [yb_182_237 (by omega), if_neg (nI_nle hi0 (by omega)), a1, zbs, if_neg (fun y => c1 (nI_inj (by omega) (by omega) y)), yb_182_254 (by omega), if_neg (nI_nle hi0 (by omega)), e1]
        by_cases c : i = ns - 1
        · rw [if_pos (by rw [c]), a0, zbs, if_neg (fun y => c2 ⟨c, nI_inj (by omega) (by omega) y⟩)]
        · rw [if_neg (fun y => c (nI_inj (by omega) (by omega) y))]
/-- a stop more at the end of a good list -/
theorem stG_app {b : Nat} {s : Nat} (hs : s < b) : ∀ (l : List Nat) (w : Option Nat), stG b w l → (l = [] → w ≠ some s) → (l ≠ [] → l.getD (l.length - 1) 0 ≠ s) → stG b w (l ++ [s]) := by
  intro l
  induction l with
  | nil => exact fun w _ h1 _ => ⟨hs, h1 rfl, trivial⟩
  | cons x l ih =>
    intro w hG h1 h2
    obtain ⟨g1, g2, g3⟩ := (show x < b ∧ w ≠ some x ∧ stG b (some x) l from hG)
    refine ⟨g1, g2, ih (some x) g3 (fun e => ?_) (fun e => ?_)⟩
    · subst e
      have := h2 (by intro h; cases h)
      intro z
      cases z
      exact this rfl
    · have := h2 (by intro h; cases h)
      rw [List.length_cons, Nat.add_sub_cancel] at this
      cases l with
      | nil => exact absurd rfl e
      | cons y l' =>
        rw [List.length_cons, Nat.add_sub_cancel]
        exact this
theorem stG_lt {b : Nat} : ∀ (l : List Nat) (w : Option Nat), stG b w l → ∀ i, i < l.length → l.getD i 0 < b := by
  intro l
  induction l with
  | nil => exact fun _ _ i hi => absurd hi (Nat.not_lt_zero i)
  | cons s l ih =>
    intro w hG i hi
    obtain ⟨k1, k2, k3⟩ := (show s < b ∧ w ≠ some s ∧ stG b (some s) l from hG)
    cases i with
    | zero => exact k1
    | succ i => exact ih (some s) k3 i (by rw [List.length_cons] at hi; omega)
theorem gDn_l {l : List Nat} {y i : Nat} (h : i < l.length) : (l ++ [y]).getD i 0 = l.getD i 0 := by
  rw [List.getD_eq_getElem?_getD, List.getD_eq_getElem?_getD, List.getElem?_append_left h]
theorem gDn_e {l : List Nat} {y : Nat} : (l ++ [y]).getD l.length 0 = y := by
  rw [List.getD_eq_getElem?_getD, List.getElem?_append_right (Nat.le_refl _), Nat.sub_self]
  rfl
/-- the route, stop by stop -/
theorem t_214 {cvI u : Int32} {v15 v16 : Value} (hb : 2 ≤ b ∧ b ≤ 6) (hns : 2 ≤ ns ∧ ns ≤ 8) (h2e : b = 2 → ns % 2 = 0) : ∀ (m i : Nat) (l : List Nat) (T : xm_PS) (g : Nat → Int32) (v14 : Value), i + m = ns → l.length = i → stG b none l → (i = ns → l.getD 0 0 ≠ l.getD (ns - 1) 0) → (b = 2 → ∀ j, j < i → l.getD j 0 = (l.getD 0 0 + j) % 2) → oA T h 0 ns g → (∀ j, j < i → g j = nI (l.getD j 0)) → ∃ (l' : List Nat) (T' : xm_PS) (v14' : Value), l'.length = ns ∧ stG b none l' ∧ l'.getD 0 0 ≠ l'.getD (ns - 1) 0 ∧ oA T' h 0 ns (fun j => nI (l'.getD j 0)) ∧ oF T T' 0 (fun z => z = h) ∧ xm_R sc xt_M (d + 9) 182 214 [.ref 0, .ref a, .retAddr 5000, .int 0, .ref e, .int cvI, .int (nI b), .int (nI nv), .ref p, .int (nI v), .int u, .int (nI ns), .ref h, .int (nI i), v14, v15, v16] [] T = xm_R sc xt_M (d + 9) 182 214 [.ref 0, .ref a, .retAddr 5000, .int 0, .ref e, .int cvI, .int (nI b), .int (nI nv), .ref p, .int (nI v), .int u, .int (nI ns), .ref h, .int (nI ns), v14', v15, v16] [] T' := by
  intro m
  induction m with
  | zero =>
    intro i l T g v14 hi hl hG hfl hpar hA hg
    have ei : i = ns := by omega
    subst ei
    exact ⟨l, T, v14, hl, hG, hfl rfl, hA.cg (fun j hj => (hg j hj).symm), oF.rf, rfl⟩
  | succ m ih =>
    intro i l T g v14 hi hl hG hfl hpar hA hg
    have hin : i < ns := by omega
    have c177 := @oc_177 sc (d + 8) b (u >>> ((4 + (2 * nI i)) &&& 31)) T (by omega) (by omega)
    have hs0 : oMo (u >>> ((4 + (2 * nI i)) &&& 31)) b < b := oMo_lt (by omega)
    -- the stop
    have key : ∃ s', s' < b ∧ (0 < i → s' ≠ l.getD (i - 1) 0 ∧ (i = ns - 1 → s' ≠ l.getD 0 0)) ∧ xm_R sc xt_M (d + 9) 182 237 [.ref 0, .ref a, .retAddr 5000, .int 0, .ref e, .int cvI, .int (nI b), .int (nI nv), .ref p, .int (nI v), .int u, .int (nI ns), .ref h, .int (nI i), .int (nI (oMo (u >>> ((4 + (2 * nI i)) &&& 31)) b)), v15, v16] [] T = xm_R sc xt_M (d + 9) 182 289 [.ref 0, .ref a, .retAddr 5000, .int 0, .ref e, .int cvI, .int (nI b), .int (nI nv), .ref p, .int (nI v), .int u, .int (nI ns), .ref h, .int (nI i), .int (nI s'), v15, v16] [] T := by
      generalize oMo (u >>> ((4 + (2 * nI i)) &&& 31)) b = s at *
      by_cases hi0 : 0 < i
      · have hp1 := stG_lt l none hG (i - 1) (by omega)
        have hp2 := stG_lt l none hG 0 (by omega)
        have hgood : ∃ z, z < b ∧ z ≠ l.getD (i - 1) 0 ∧ (i = ns - 1 → z ≠ l.getD 0 0) := by
          generalize hx : l.getD (i - 1) 0 = x at *
          generalize hy : l.getD 0 0 = y at *
          by_cases b2 : b = 2
          · have hq := hpar b2 (i - 1) (by omega)
            rw [hx] at hq
            have hev := h2e b2
            refine ⟨1 - x, by omega, by omega, fun hlast => ?_⟩
            omega
          · by_cases z0 : (0 : Nat) ≠ x ∧ (0 : Nat) ≠ y
            · exact ⟨0, by omega, z0.1, fun _ => z0.2⟩
            · by_cases z1 : (1 : Nat) ≠ x ∧ (1 : Nat) ≠ y
              · exact ⟨1, by omega, z1.1, fun _ => z1.2⟩
              · exact ⟨2, by omega, by omega, fun _ => by omega⟩
        obtain ⟨z, z1, z2, z3⟩ := hgood
        obtain ⟨s', q1, q2, q3, q4⟩ := @t_237 T sc d a e p h b nv v ns g cvI u i (l.getD (i - 1) 0) (l.getD 0 0) v15 v16 hb hA hin hns.2 hi0 (hg (i - 1) (by omega)) hp1 (hg 0 hi0) hp2 z z1 z2 z3 _ s hs0 (Nat.le_refl _)
        exact ⟨s', q1, fun _ => ⟨q2, q3⟩, q4⟩
      · have ei : i = 0 := by omega
        subst ei
        refine ⟨s, hs0, fun z => absurd z hi0, ?_⟩
        rw [yb_182_237 (by omega), if_pos (by decide), yb_182_254 (by omega), if_pos (by decide)]
    obtain ⟨s', q1, q2, q3⟩ := key
    obtain ⟨T1, e1, A1, F1⟩ := hA.wr2 (i := i) hin (by omega) (y := nI s')
    have hl' : (l ++ [s']).length = i + 1 := by rw [List.length_append, hl]; rfl
    have gl : ∀ j, j < i → (l ++ [s']).getD j 0 = l.getD j 0 := fun j hj => gDn_l (by omega)
    have ge : (l ++ [s']).getD i 0 = s' := by rw [← hl]; exact gDn_e
    obtain ⟨l2, T2, v2, r1, r2, r3, r4, r5, r6⟩ := ih (i + 1) (l ++ [s']) T1 (upd g i (nI s')) (.int (nI s')) (by omega) hl' (stG_app q1 l none hG (fun _ => by intro z; cases z) (fun hne => by
      have hi0 : 0 < i := by
        rw [← hl]
        exact List.length_pos_iff.mpr hne
      rw [hl]
      exact fun z => (q2 hi0).1 z.symm)) (fun hlast => by
      have hi0 : 0 < i := by omega
      rw [gl 0 hi0, show ns - 1 = i by omega, ge]
      exact fun z => (q2 hi0).2 (by omega) z.symm) (fun b2 j hj => by
      by_cases c : j < i
      · rw [gl j c]
        have h0 : (l ++ [s']).getD 0 0 = l.getD 0 0 := gl 0 (by omega)
        rw [h0]
        exact hpar b2 j c
      · have ej : j = i := by omega
        subst ej
        rw [ge]
        by_cases hi0 : 0 < j
        · rw [gl 0 hi0]
          have hq := hpar b2 (j - 1) (by omega)
          have hp1 := stG_lt l none hG (j - 1) (by omega)
          have hq2 := (q2 hi0).1
          have hp0 := stG_lt l none hG 0 (by omega)
          omega
        · have ej : j = 0 := by omega
          subst ej
          rw [ge]
          omega) A1 (fun j hj => by
      by_cases c : j = i
      · rw [c, zu1, ge]
      · rw [zun c, gl j (by omega)]
        exact hg j (by omega))
    refine ⟨l2, T2, v2, r1, r2, r3, r4, F1.tr r5, ?_⟩
    rw [yb_182_214 (by omega), if_neg (nI_ge hin (by omega)), c177, zbs, xk_I, q3, yb_182_289 (by omega), e1, zbs, ← nI_succ]
    exact r6
end RT
