/-! THE LAW: act, vans lost, branches closed and opened -/
section ACW
variable {w : xW} {ext : List xm_PC} {sc : xm_Sc} {d n c : Nat} {r : Nat → Int32} {hs : Nat → Nat → Int32} {sn : Option (Nat → Int32)} {L : Nat → Nat} {x v : Int32}
theorem act_lose (hI : cI w r n hs sn) (hS : rS r) (hD : rD r) (hc : r 4 = nI c) (hc2 : c < 9000) (h0 : oI (xL w ext) L r x) (hL : ∀ a, 191 ≤ L a) (hk5 : xnk r ≤ 5) (hk1 : 0 < xnk r) (hw : oMo v 18 = 14) : aPost (xm_C sc xt_M (d + 8) 185 [.ref 0, .ref (L 0), .int v] (xL w ext)) w ext L r n hs sn c := by
  have hW := hI.W
  have hb6 := hW.bd.b6
  have hv4 := hW.bd.v4
  have hq40 := hW.bd.q40
  have hnb : 0 < xnb r := by have := hW.n.1; omega
  have hkk : oMo (v >>> (4 &&& 31)) (xnk r) < xnk r := oMo_lt hk1
  have hqq : oMo ((v >>> (4 &&& 31)) >>> (3 &&& 31)) 4 < 4 := oMo_lt (by omega)
  have hbb : oMo ((v >>> (4 &&& 31)) >>> (5 &&& 31)) (xnb r) < xnb r := oMo_lt hnb
  have is := cI.is (ext := ext) w
  have hk20 := hW.bd.k20
  have hnv : 0 < xnv r := by have := hW.n.2.1; omega
  have hvv : oMo (v >>> (4 &&& 31)) (xnv r) < xnv r := oMo_lt hnv
  generalize hgv : oMo (v >>> (4 &&& 31)) (xnv r) = vv at *
  have eA : sp_lose r (nI vv) = (0, (sp_loseU r (nI vv) (xnk r)).2, some (sp_loseU r (nI vv) (xnk r)).1) := by
    unfold sp_lose
    rw [if_pos (by unfold sp_vn; rw [hW.bd.v]; exact zrg' (by omega) hvv)]
  have lp : ∀ m i T {i2 i3 i4 i5 i6 i7 i9 : Int32} {p8 : Nat} {v15 : Value}, i + m = xnk r → oM (xL w ext) T L L (sp_loseU r (nI vv) i).1 x 0 (xnk r) → ∃ T' y15, oM (xL w ext) T' L L (sp_loseU r (nI vv) (xnk r)).1 x 0 (xnk r) ∧
      xm_R sc xt_M (d + 7) 185 698 [.ref 0, .ref (L 0), .int i2, .int i3, .int i4, .int i5, .int i6, .int i7, .ref p8, .int i9, .int (nI vv), .int (sp_loseU r (nI vv) i).2, .ref (L 5), .int (nI (xnk r)), .int (nI i), v15] [] T = xm_R sc xt_M (d + 7) 185 698 [.ref 0, .ref (L 0), .int i2, .int i3, .int i4, .int i5, .int i6, .int i7, .ref p8, .int i9, .int (nI vv), .int (sp_loseU r (nI vv) (xnk r)).2, .ref (L 5), .int (nI (xnk r)), .int (nI (xnk r)), y15] [] T' := by
    intro m
    induction m with
    | zero =>
      intro i T i2 i3 i4 i5 i6 i7 i9 p8 v15 hi hT
      have e : i = xnk r := by omega
      subst e
      exact ⟨T, v15, hT, rfl⟩
    | succ m ih =>
      intro i T i2 i3 i4 i5 i6 i7 i9 p8 v15 hi hT
      obtain ⟨g1, g2⟩ := @sp_loseU_ok r (nI vv) hW i (by omega)
      have ek := g2.k
      have hik : i < xnk (sp_loseU r (nI vv) i).1 := by rw [ek]; omega
      have un : sp_loseU r (nI vv) (i + 1) = sp_lose1 (nI vv) i (sp_loseU r (nI vv) i) := rfl
      have hT1 := hT.1
      rw [yb_185_698 (i14 := nI i), if_neg (nI_ge (by omega) (by omega)), hT1.books.at hik (by omega), zbs, hT1.t0 hik, zbs]
      have stay : ¬ sp_isIn (sp_loseU r (nI vv) i).1 1 i (nI vv) → sp_loseU r (nI vv) (i + 1) = sp_loseU r (nI vv) i := fun z => by rw [un]; exact if_neg z
      by_cases c1 : (sp_loseU r (nI vv) i).1 (56 + 6 * i) = 1
      · rw [if_pos c1, hT1.t1 hik, zbs]
        by_cases c2 : (sp_loseU r (nI vv) i).1 (57 + 6 * i) = nI vv
        · have go : sp_loseU r (nI vv) (i + 1) = (sp_put (sp_loseU r (nI vv) i).1 i 4 (-1), (sp_loseU r (nI vv) i).2 + 1) := by rw [un]; exact if_pos ⟨c1, c2⟩
          have m2 := hT1.put g1.lt hik (r' := sp_put (sp_loseU r (nI vv) i).1 i 4 (-1)) (fun j hj => sp_put_o hj)
          rw [ek] at m2
          have m3 := hT.tr hk20 m2
          rw [if_pos c2, if_pos (og_O (hT1.th hik)), oc_176 hT1 hik, zbs, xk_v, yb_185_744, ← nI_succ]
          obtain ⟨T', y15, t1, t2⟩ := @ih (i + 1) _ i2 i3 i4 i5 i6 i7 i9 p8 (.ref (L (30 + i))) (by omega) (by rw [go]; exact m3)
          rw [go] at t2
          exact ⟨T', y15, t1, t2⟩
        · rw [if_neg c2, yb_185_744, ← nI_succ]
          have s := stay (fun z => c2 z.2)
          obtain ⟨T', y15, t1, t2⟩ := @ih (i + 1) T i2 i3 i4 i5 i6 i7 i9 p8 (.ref (L (30 + i))) (by omega) (by rw [s]; exact hT)
          rw [s] at t2
          exact ⟨T', y15, t1, t2⟩
      · rw [if_neg c1, yb_185_744, ← nI_succ]
        have s := stay (fun z => c1 z.1)
        obtain ⟨T', y15, t1, t2⟩ := @ih (i + 1) T i2 i3 i4 i5 i6 i7 i9 p8 (.ref (L (30 + i))) (by omega) (by rw [s]; exact hT)
        rw [s] at t2
        exact ⟨T', y15, t1, t2⟩
  rw [yc_185, oc_177y (y := 18) (k := 18) (by decide +kernel) (by decide) (by decide), zbs, xk_I, h0.g4, zbs, h0.books.len (by decide), zbs, oc_177 hk1 (by omega), zbs, xk_I, oc_177y (y := 4) (k := 4) (by decide +kernel) (by decide) (by decide), zbs, xk_I, h0.g0, zbs, h0.op.len (by decide), zbs, oc_177 hnb (by omega), zbs, xk_I, h0.g4, zbs, h0.books.at hkk (by omega), zbs, if_pos h0.is, oc_162 hW h0, zbs, xk_I, hw, if_pos (show (6 : Int32) ≤ nI 14 by decide), if_pos (show (9 : Int32) ≤ nI 14 by decide), if_neg (show ¬ nI 14 = 9 by decide), if_neg (show ¬ nI 14 = 10 by decide), if_neg (show ¬ nI 14 = 11 by decide), if_neg (show ¬ nI 14 = 12 by decide), if_neg (show ¬ nI 14 = 13 by decide), if_pos (show nI 14 = 14 by decide), h0.g1, zbs, h0.rooms.len (by decide), zbs, oc_177 hnv (by omega), zbs, xk_I, h0.g4, zbs, h0.books.len (by decide), zbs, hgv]
  obtain ⟨T, y15, t1, t2⟩ := @lp (xnk r) 0 (xL w ext) v (nI 14) (v >>> (4 &&& 31)) (nI (oMo (v >>> (4 &&& 31)) (xnk r))) (nI (oMo ((v >>> (4 &&& 31)) >>> (3 &&& 31)) 4)) (nI (oMo ((v >>> (4 &&& 31)) >>> (5 &&& 31)) (xnb r))) (toJ (sp_by r (nI (oMo (v >>> (4 &&& 31)) (xnk r))) (nI (oMo ((v >>> (4 &&& 31)) >>> (3 &&& 31)) 4)))) (L (30 + oMo (v >>> (4 &&& 31)) (xnk r))) .null (Nat.zero_add _) (oM.nw h0 oF.rf)
  obtain ⟨ext1, ex, hI1, hL1, hF1, hE1⟩ := oM_to t1 hL
  have hO := @la_139 w ext1 sc (d + 2) n r hs sn (nI vv) hI (by rw [eA])
  have hQS := @qS_lose r (nI vv) hW hS
  have hQD := @qD_lose r (nI vv) hW hD
  have h4 := q4_12 hc (@q4_lose r (nI vv) hW)
  rw [eA] at hO hQS hQD h4
  obtain ⟨w', e2, post⟩ := @aFin w ext ext1 sc (d + 7) n _ c r hs sn L L x 139 [.ref 0, .int (nI vv)] _ _ hI hS hD hc hO hQS hQD h4 hI1 hL1 hF1 (by omega) hE1
  refine ⟨_, w', ext1, L, x, ?_, post⟩
  rw [nI_0] at t2
  refine (show _ = _ from t2).trans ?_
  rw [yb_185_698, if_pos (nI_le (Nat.le_refl _) (by omega)), ex, if_pos (cI.is w), e2, zbs, xk_I, if_pos rfl, yb_185_766]
  rfl
theorem act_open (hI : cI w r n hs sn) (hS : rS r) (hD : rD r) (hc : r 4 = nI c) (hc2 : c < 9000) (h0 : oI (xL w ext) L r x) (hL : ∀ a, 191 ≤ L a) (hk5 : xnk r ≤ 5) (hk1 : 0 < xnk r) (hw : oMo v 18 = 16) : aPost (xm_C sc xt_M (d + 8) 185 [.ref 0, .ref (L 0), .int v] (xL w ext)) w ext L r n hs sn c := by
  have hW := hI.W
  have hb6 := hW.bd.b6
  have hv4 := hW.bd.v4
  have hq40 := hW.bd.q40
  have hnb : 0 < xnb r := by have := hW.n.1; omega
  have hkk : oMo (v >>> (4 &&& 31)) (xnk r) < xnk r := oMo_lt hk1
  have hqq : oMo ((v >>> (4 &&& 31)) >>> (3 &&& 31)) 4 < 4 := oMo_lt (by omega)
  have hbb : oMo ((v >>> (4 &&& 31)) >>> (5 &&& 31)) (xnb r) < xnb r := oMo_lt hnb
  have is := cI.is (ext := ext) w
  have hk20 := hW.bd.k20
  rw [yc_185, oc_177y (y := 18) (k := 18) (by decide +kernel) (by decide) (by decide), zbs, xk_I, h0.g4, zbs, h0.books.len (by decide), zbs, oc_177 hk1 (by omega), zbs, xk_I, oc_177y (y := 4) (k := 4) (by decide +kernel) (by decide) (by decide), zbs, xk_I, h0.g0, zbs, h0.op.len (by decide), zbs, oc_177 hnb (by omega), zbs, xk_I, h0.g4, zbs, h0.books.at hkk (by omega), zbs, if_pos h0.is, oc_162 hW h0, zbs, xk_I, hw, if_pos (show (6 : Int32) ≤ nI 16 by decide), if_pos (show (9 : Int32) ≤ nI 16 by decide), if_neg (show ¬ nI 16 = 9 by decide), if_neg (show ¬ nI 16 = 10 by decide), if_neg (show ¬ nI 16 = 11 by decide), if_neg (show ¬ nI 16 = 12 by decide), if_neg (show ¬ nI 16 = 13 by decide), if_neg (show ¬ nI 16 = 14 by decide), if_neg (show ¬ nI 16 = 15 by decide), if_pos (show nI 16 = 16 by decide), h0.g0, zbs, h0.op.at hbb (by omega), zbs]
  generalize hgk : oMo (v >>> (4 &&& 31)) (xnk r) = k at *
  generalize hgq : oMo ((v >>> (4 &&& 31)) >>> (3 &&& 31)) 4 = q at *
  generalize hgb : oMo ((v >>> (4 &&& 31)) >>> (5 &&& 31)) (xnb r) = b at *
  have hbk : sp_bk r (nI k) := by
    unfold sp_bk
    rw [hW.bd.k]
    exact zrg' (by omega) hkk
  have hbr : sp_br r (nI b) := by
    unfold sp_br
    rw [hW.bd.b]
    exact zrg' (by omega) hbb
  have kn : (nI k).toNatClampNeg = k := nI_clamp (by omega)
  have bn : (nI b).toNatClampNeg = b := nI_clamp (by omega)
  have ox : xop r (nI b) = (r (6 + b) = 1) := by unfold xop; rw [bn]
  rcases hW.o b (by omega) with ho | ho
  · -- it opens
    have eC : sp_close r (nI b) = (0, -2, none) := by
      unfold sp_close
      rw [if_pos hbr, if_neg (by rw [ox, ho]; decide)]
    have eO : sp_open r (nI b) = (0, sp_openC (upd r (6 + b) 1) (nI b) (xnk r), some (upd r (6 + b) 1)) := by
      unfold sp_open
      rw [if_pos hbr, if_neg (by rw [ox, ho]; decide), bn]
    obtain ⟨S1, ew, m1⟩ := @oI.op1 (xL w ext) L r x hW h0 b 1 hbb
    obtain ⟨ext1, ex, hI1, hL1, hF1, hE1⟩ := oM_to m1 hL
    have hW1 : xWF (upd r (6 + b) 1) := xWF_open hW (by omega) (Or.inr rfl)
    have k1 : xnk (upd r (6 + b) 1) = xnk r := by unfold xnk; rw [zun (by omega)]
    have hOC := @la_141 w ext1 sc (d + 2) n r hs sn (nI b) hI (by rw [eC])
    rw [eC] at hOC
    have hOC' : xm_C sc xt_M (d + 7) 141 [.ref 0, .int (nI b)] (xL w ext1) = some (.inl (some (.int (-2))), xL w ext1) := hOC
    have hO := @la_142 w ext1 sc (d + 2) n r hs sn (nI b) hI (by rw [eO])
    have hQS := @qS_open r (nI b) hW hS
    have hQD := @qD_open r (nI b) hW hD
    have h4 := q4_12 hc (@q4_open r (nI b))
    rw [eO] at hO hQS hQD h4
    obtain ⟨w', e2, post⟩ := @aFin w ext ext1 sc (d + 7) n _ c r hs sn L L x 142 [.ref 0, .int (nI b)] _ _ hI hS hD hc hO hQS hQD h4 hI1 hL1 hF1 (by omega) hE1
    have lp : ∀ m i {i2 i3 i4 i5 i6 i9 : Int32} {p8 : Nat} {v12 v13 v14 v15 : Value}, i + m = xnk r →
        xm_R sc xt_M (d + 7) 185 966 [.ref 0, .ref (L 0), .int i2, .int i3, .int i4, .int i5, .int i6, .int (nI b), .ref p8, .int i9, .int (sp_openC (upd r (6 + b) 1) (nI b) i), .int (nI i), v12, v13, v14, v15] [] (xL w ext1) = some (.inl (some (.int 1)), xL w' ext1) := by
      intro m
      induction m with
      | zero =>
        intro i i2 i3 i4 i5 i6 i9 p8 v12 v13 v14 v15 hi
        rw [yb_185_966, hI1.g4, zbs, hI1.books.len (by decide), zbs, k1, if_pos (nI_le (by omega) (by omega)), if_pos (cI.is w), hOC', zbs, xk_I, if_pos rfl, if_pos (cI.is w), e2, zbs, xk_I, if_pos (by rw [show i = xnk r by omega]), yb_185_1058]
      | succ m ih =>
        intro i i2 i3 i4 i5 i6 i9 p8 v12 v13 v14 v15 hi
        have hik : i < xnk (upd r (6 + b) 1) := by rw [k1]; omega
        have z := @ih (i + 1) i2 i3 i4 i5 i6 i9 p8 v12 v13 v14 v15 (by omega)
        rw [show sp_openC (upd r (6 + b) 1) (nI b) (i + 1) = sp_openC (upd r (6 + b) 1) (nI b) i + zB (sp_opc (upd r (6 + b) 1) (nI b) i) from rfl] at z
        have no : ¬ sp_opc (upd r (6 + b) 1) (nI b) i → xm_R sc xt_M (d + 7) 185 1021 [.ref 0, .ref (L 0), .int i2, .int i3, .int i4, .int i5, .int i6, .int (nI b), .ref p8, .int i9, .int (sp_openC (upd r (6 + b) 1) (nI b) i), .int (nI i), v12, v13, v14, v15] [.int (sp_openC (upd r (6 + b) 1) (nI b) i)] (xL w ext1) = some (.inl (some (.int 1)), xL w' ext1) := fun hn => by
          rw [zB_ff hn] at z
          rw [yb_185_1021, yb_185_1022, ← nI_succ]
          exact z
        rw [yb_185_966 (i11 := nI i), hI1.g4, zbs, hI1.books.len (by decide), zbs, k1, if_neg (nI_ge (by omega) (by omega)), zbs, hI1.books.at hik (by omega), zbs, hI1.t0 hik, zbs]
        by_cases c1 : upd r (6 + b) 1 (56 + 6 * i) = 0
        · rw [if_pos c1, zbs, hI1.books.at hik (by omega), zbs, hI1.t1 hik, zbs]
          by_cases c2 : upd r (6 + b) 1 (57 + 6 * i) = nI b
          · rw [if_pos c2, if_pos hI1.is, oc_161 hW1 hI1 hik, zbs, xk_I]
            by_cases c3 : sp_goal (upd r (6 + b) 1) i = nI b
            · rw [if_pos c3, yb_185_1022, ← nI_succ]
              rw [zB_tt ⟨⟨c1, c2⟩, c3⟩] at z
              exact z
            · rw [if_neg c3]
              exact no (fun y => c3 y.2)
          · rw [if_neg c2]
            exact no (fun y => c2 y.1.2)
        · rw [if_neg c1]
          exact no (fun y => c1 y.1.1)
    refine ⟨_, w', ext1, L, x, ?_, post⟩
    have z := fun {i2 i3 i4 i5 i6 i9 : Int32} {p8 : Nat} {v12 v13 v14 v15 : Value} => @lp (xnk r) 0 i2 i3 i4 i5 i6 i9 p8 v12 v13 v14 v15 (Nat.zero_add _)
    rw [if_pos ho, zbs, ew, zbs, ex]
    have z0 : sp_openC (upd r (6 + b) 1) (nI b) 0 = 0 := rfl
    rw [z0, nI_0] at z
    exact z
  · -- it closes
    have eO : sp_open r (nI b) = (0, -2, none) := by
      unfold sp_open
      rw [if_pos hbr, if_pos (by rw [ox]; exact ho)]
    have eC : sp_close r (nI b) = (0, sp_booksIn (sp_closeU r (nI b) (xnk r)) 0 (nI b), some (sp_closeU r (nI b) (xnk r))) := by
      unfold sp_close
      rw [if_pos hbr, if_pos (by rw [ox]; exact ho)]
    obtain ⟨S1, ew, m1⟩ := @oI.op1 (xL w ext) L r x hW h0 b 0 hbb
    have k1 : xnk (upd r (6 + b) 0) = xnk r := by unfold xnk; rw [zun (by omega)]
    have lp : ∀ m i T {i2 i3 i4 i5 i6 i9 : Int32} {p8 : Nat} {v13 v14 v15 : Value}, i + m = xnk r → oM (xL w ext) T L L (sp_closeU r (nI b) i) x 0 (xnk r) → ∃ T' y13, oM (xL w ext) T' L L (sp_closeU r (nI b) (xnk r)) x 0 (xnk r) ∧
        xm_R sc xt_M (d + 7) 185 872 [.ref 0, .ref (L 0), .int i2, .int i3, .int i4, .int i5, .int i6, .int (nI b), .ref p8, .int i9, .ref (L 5), .int (nI (xnk r)), .int (nI i), v13, v14, v15] [] T = xm_R sc xt_M (d + 7) 185 872 [.ref 0, .ref (L 0), .int i2, .int i3, .int i4, .int i5, .int i6, .int (nI b), .ref p8, .int i9, .ref (L 5), .int (nI (xnk r)), .int (nI (xnk r)), y13, v14, v15] [] T' := by
      intro m
      induction m with
      | zero =>
        intro i T i2 i3 i4 i5 i6 i9 p8 v13 v14 v15 hi hT
        have e : i = xnk r := by omega
        subst e
        exact ⟨T, v13, hT, rfl⟩
      | succ m ih =>
        intro i T i2 i3 i4 i5 i6 i9 p8 v13 v14 v15 hi hT
        obtain ⟨g1, g2⟩ := @sp_closeU_ok r b hW hbb i (by omega)
        have ek : xnk (sp_closeU r (nI b) i) = xnk r := by rw [g2.k, k1]
        have hik : i < xnk (sp_closeU r (nI b) i) := by rw [ek]; omega
        have un : sp_closeU r (nI b) (i + 1) = sp_close1 (nI b) i (sp_closeU r (nI b) i) := rfl
        have hT1 := hT.1
        rw [yb_185_872 (i12 := nI i), if_neg (nI_ge (by omega) (by omega)), hT1.books.at hik (by omega), zbs, hT1.t0 hik, zbs]
        by_cases c1 : sp_closeU r (nI b) i (56 + 6 * i) = 2
        · rw [if_pos c1, hT1.t1 hik, zbs]
          by_cases c2 : sp_closeU r (nI b) i (57 + 6 * i) = nI b
          · have go : sp_closeU r (nI b) (i + 1) = sp_put (sp_closeU r (nI b) i) i 0 (nI b) := by rw [un]; exact if_pos ⟨c1, c2⟩
            have m2 := hT1.put g1.lt hik (r' := sp_put (sp_closeU r (nI b) i) i 0 (nI b)) (fun j hj => sp_put_o hj)
            rw [ek] at m2
            have m3 := hT.tr hk20 m2
            rw [if_pos c2, if_pos (og_O (hT1.th hik)), oc_176 hT1 hik, zbs, xk_v, yb_185_913, ← nI_succ]
            exact @ih (i + 1) _ i2 i3 i4 i5 i6 i9 p8 (.ref (L (30 + i))) v14 v15 (by omega) (by rw [go]; exact m3)
          · rw [if_neg c2, yb_185_913, ← nI_succ]
            exact @ih (i + 1) T i2 i3 i4 i5 i6 i9 p8 (.ref (L (30 + i))) v14 v15 (by omega) (by rw [un, show sp_close1 (nI b) i (sp_closeU r (nI b) i) = sp_closeU r (nI b) i from if_neg (fun z => c2 z.2)]; exact hT)
        · rw [if_neg c1, yb_185_913, ← nI_succ]
          exact @ih (i + 1) T i2 i3 i4 i5 i6 i9 p8 (.ref (L (30 + i))) v14 v15 (by omega) (by rw [un, show sp_close1 (nI b) i (sp_closeU r (nI b) i) = sp_closeU r (nI b) i from if_neg (fun z => c1 z.1)]; exact hT)
    have st : sp_closeU r (nI b) 0 = upd r (6 + b) 0 := by
      show upd r (6 + (nI b).toNatClampNeg) 0 = _
      rw [bn]
    rw [if_neg (show ¬ r (6 + b) = 0 by rw [ho]; decide), zbs, ew, zbs, m1.1.g4, zbs, m1.1.books.len (by decide), zbs, k1]
    obtain ⟨T, y13, t1, t2⟩ := @lp (xnk r) 0 S1 v (nI 16) (v >>> (4 &&& 31)) (nI k) (nI q) (toJ (sp_by r (nI k) (nI q))) (L (30 + k)) .null .null .null (Nat.zero_add _) (by rw [st]; exact m1)
    obtain ⟨ext1, ex, hI1, hL1, hF1, hE1⟩ := oM_to t1 hL
    have hOO := @la_142 w ext1 sc (d + 2) n r hs sn (nI b) hI (by rw [eO])
    rw [eO] at hOO
    have hOO' : xm_C sc xt_M (d + 7) 142 [.ref 0, .int (nI b)] (xL w ext1) = some (.inl (some (.int (-2))), xL w ext1) := hOO
    have hO := @la_141 w ext1 sc (d + 2) n r hs sn (nI b) hI (by rw [eC])
    have hQS := @qS_close r (nI b) hW hS
    have hQD := @qD_close r (nI b) hW hD
    have h4 := q4_12 hc (@q4_close r (nI b) hW)
    rw [eC] at hO hQS hQD h4
    obtain ⟨w', e2, post⟩ := @aFin w ext ext1 sc (d + 7) n _ c r hs sn L L x 141 [.ref 0, .int (nI b)] _ _ hI hS hD hc hO hQS hQD h4 hI1 hL1 hF1 (by omega) hE1
    have hI2 := hI1.cls (w' := w') hL1
    obtain ⟨g1, g2⟩ := @sp_closeU_ok r b hW hbb (xnk r) (Nat.le_refl _)
    refine ⟨_, w', ext1, L, x, ?_, post⟩
    rw [nI_0] at t2
    refine (show _ = _ from t2).trans ?_
    rw [yb_185_872, if_pos (nI_le (Nat.le_refl _) (by omega)), ex, if_pos (cI.is w), hOO', zbs, xk_I, if_pos rfl, if_pos (cI.is w), e2, zbs, xk_I, if_pos hI2.is, oc_173 g1 hI2 (nI_pos (by omega)), zbs, xk_I, if_pos rfl, yb_185_951]
    rfl
theorem oc_185 (hI : cI w r n hs sn) (hS : rS r) (hD : rD r) (hc : r 4 = nI c) (hc2 : c < 9000) (h0 : oI (xL w ext) L r x) (hL : ∀ a, 191 ≤ L a) (hk5 : xnk r ≤ 5) (hk1 : 0 < xnk r) : aPost (xm_C sc xt_M (d + 8) 185 [.ref 0, .ref (L 0), .int v] (xL w ext)) w ext L r n hs sn c := by
  have hlt : oMo v 18 < 18 := oMo_lt (by omega)
  by_cases h6 : oMo v 18 < 6
  · exact act_run hI hS hD hc hc2 h0 hL hk5 hk1 h6
  by_cases h9 : oMo v 18 < 9
  · exact act_ask hI hS hD hc hc2 h0 hL hk5 hk1 (by omega) h9
  have hcs : oMo v 18 = 9 ∨ oMo v 18 = 10 ∨ (oMo v 18 = 11 ∨ oMo v 18 = 12) ∨ oMo v 18 = 13 ∨ oMo v 18 = 14 ∨ oMo v 18 = 15 ∨ oMo v 18 = 16 ∨ oMo v 18 = 17 := by omega
  rcases hcs with e | e | e | e | e | e | e | e
  · exact act_cancel hI hS hD hc hc2 h0 hL hk5 hk1 e
  · exact act_recall hI hS hD hc hc2 h0 hL hk5 hk1 e
  · exact act_take hI hS hD hc hc2 h0 hL hk5 hk1 e
  · exact act_back hI hS hD hc hc2 h0 hL hk5 hk1 e
  · exact act_lose hI hS hD hc hc2 h0 hL hk5 hk1 e
  · exact act_find hI hS hD hc hc2 h0 hL hk5 hk1 e
  · exact act_open hI hS hD hc hc2 h0 hL hk5 hk1 e
  · exact act_hold hI hS hD hc hc2 h0 hL hk5 hk1 e
end ACW
