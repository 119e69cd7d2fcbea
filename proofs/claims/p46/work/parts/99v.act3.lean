/-! THE LAW: act, the last cases -/
section ACV
variable {w : xW} {ext : List xm_PC} {sc : xm_Sc} {d n c : Nat} {r : Nat → Int32} {hs : Nat → Nat → Int32} {sn : Option (Nat → Int32)} {L : Nat → Nat} {x v : Int32}
theorem act_take (hI : cI w r n hs sn) (hS : rS r) (hD : rD r) (hc : r 4 = nI c) (hc2 : c < 9000) (h0 : oI (xL w ext) L r x) (hL : ∀ a, 191 ≤ L a) (hk5 : xnk r ≤ 5) (hk1 : 0 < xnk r) (hw : oMo v 18 = 11 ∨ oMo v 18 = 12) : aPost (xm_C sc xt_M (d + 8) 185 [.ref 0, .ref (L 0), .int v] (xL w ext)) w ext L r n hs sn c := by
  have hW := hI.W
  have hb6 := hW.bd.b6
  have hv4 := hW.bd.v4
  have hq40 := hW.bd.q40
  have hnb : 0 < xnb r := by have := hW.n.1; omega
  have hkk : oMo (v >>> (4 &&& 31)) (xnk r) < xnk r := oMo_lt hk1
  have hqq : oMo ((v >>> (4 &&& 31)) >>> (3 &&& 31)) 4 < 4 := oMo_lt (by omega)
  have hbb : oMo ((v >>> (4 &&& 31)) >>> (5 &&& 31)) (xnb r) < xnb r := oMo_lt hnb
  have is := cI.is (ext := ext) w
  have t490 : ∀ (k : Nat) (y : Int32) (hkk : k < xnk r) {i2 i3 i4 i7 i9 : Int32} {v10 v11 v12 v13 v14 v15 : Value}, aPost (xm_R sc xt_M (d + 7) 185 490 [.ref 0, .ref (L 0), .int i2, .int i3, .int i4, .int (nI k), .int y, .int i7, .ref (L (30 + k)), .int i9, v10, v11, v12, v13, v14, v15] [] (xL w ext)) w ext L r n hs sn c := by
    intro k y hkk i2 i3 i4 i7 i9 v10 v11 v12 v13 v14 v15
    have hk20 := hW.bd.k20
    have hbk : sp_bk r (nI k) := by
      unfold sp_bk
      rw [hW.bd.k]
      exact zrg' (by omega) hkk
    have kn : (nI k).toNatClampNeg = k := nI_clamp (by omega)
    have eA : sp_takeO r (nI k) y = sp_takeN r k y := by
      unfold sp_takeO
      rw [if_pos hbk, kn]
    rw [yb_185_490, h0.t0 hkk, zbs]
    have no : ¬ sp_hf r k y → ∀ {i2 i3 i4 i7 i9 : Int32} {v10 v11 v12 v13 v14 v15 : Value}, aPost (xm_R sc xt_M (d + 7) 185 509 [.ref 0, .ref (L 0), .int i2, .int i3, .int i4, .int (nI k), .int y, .int i7, .ref (L (30 + k)), .int i9, v10, v11, v12, v13, v14, v15] [] (xL w ext)) w ext L r n hs sn c := by
      intro hf i2 i3 i4 i7 i9 v10 v11 v12 v13 v14 v15
      have e : sp_takeO r (nI k) y = (0, -2, none) := by
        rw [eA]
        unfold sp_takeN
        rw [if_neg hf]
      have hO := @la_137 w ext sc (d + 2) n r hs sn (nI k) y hI (by rw [e])
      rw [e] at hO
      obtain ⟨w', e2, post⟩ := @aFin w ext ext sc (d + 7) n 0 c r hs sn L L x 137 [.ref 0, .int (nI k), .int y] (-2) none hI hS hD hc hO (fun _ e => by cases e) (fun _ e => by cases e) (fun _ e => by cases e) h0 hL oF.rf (by omega) (fun _ _ _ => rfl)
      refine ⟨none, w', ext, L, x, ?_, post⟩
      rw [yb_185_509, if_pos is, e2, zbs, xk_I, if_pos rfl, yb_185_527]
      rfl
    by_cases c2 : r (56 + 6 * k) = 2
    · rw [if_pos c2, h0.t3 hkk, zbs]
      by_cases c3 : r (60 + 6 * k) = y
      · obtain ⟨p, ep, hp⟩ := sp_by_held hW hkk c2
        rw [c3] at ep
        have e : sp_takeO r (nI k) y = (0, r (57 + 6 * k), some (upd (sp_put (sp_drop r p) k 3 (-1)) (60 + 6 * k) y)) := by
          rw [eA]
          unfold sp_takeN
          rw [if_pos ⟨c2, c3⟩, ep]
        obtain ⟨S1, L1, e1, m1⟩ := @oc_165 (xL w ext) L r x sc (d + 6) hW h0 p hp
        have l1 := xLt_drop hW hp
        have k1 : xnk (sp_drop r p) = xnk r := by unfold xnk; rw [sp_drop_h (by omega) (by omega)]
        have hk1' : k < xnk (sp_drop r p) := by rw [k1]; exact hkk
        have el : L (30 + k) = L1 (30 + k) := (m1.2.2.1 _ (by omega) (by omega)).symm
        have m2 := m1.1.put l1 hk1' (r' := sp_put (sp_drop r p) k 3 (-1)) (fun i hi => sp_put_o hi)
        have c176 := @oc_176 S1 L1 (sp_drop r p) x sc (d + 6) m1.1 k 3 (-1) hk1'
        have is9 := og_O (m1.1.th hk1')
        rw [k1] at m2
        generalize xm_set S1 (L1 (30 + k)) (.inr (9, oTh (sp_put (sp_drop r p) k 3 (-1)) k)) = S2 at *
        have l2 : xLt (sp_put (sp_drop r p) k 3 (-1)) := oLt l1 (fun i hi => sp_put_h (by omega) hi)
        have k2 : xnk (sp_put (sp_drop r p) k 3 (-1)) = xnk r := by rw [← k1]; unfold xnk; rw [sp_put_h (by omega) (by omega)]
        have hk2' : k < xnk (sp_put (sp_drop r p) k 3 (-1)) := by rw [k2]; exact hkk
        have f3 := @oI.f3 S2 L1 _ x m2.1 k y hk2'
        have m3 := m2.1.put l2 hk2' (r' := upd (sp_put (sp_drop r p) k 3 (-1)) (60 + 6 * k) y) (fun i hi => zun (by omega))
        rw [k2] at m3
        generalize xm_set S2 (L1 (30 + k)) (.inr (9, oTh (upd (sp_put (sp_drop r p) k 3 (-1)) (60 + 6 * k) y) k)) = S3 at *
        obtain ⟨ext1, ex, hI1, hL1, hF1, hE1⟩ := oM_to ((m1.tr hk20 m2).tr hk20 m3) hL
        have hO := @la_137 w ext1 sc (d + 2) n r hs sn (nI k) y hI (by rw [e])
        have hQS := @qS_take r (nI k) y hW hS
        have hQD := @qD_take r (nI k) y hW hD
        have h4 := q4_12 hc (@q4_takeO r (nI k) y hW.bd)
        rw [e] at hO hQS hQD h4
        obtain ⟨w', e2, post⟩ := @aFin w ext ext1 sc (d + 7) n _ c r hs sn L L1 x 137 [.ref 0, .int (nI k), .int y] _ _ hI hS hD hc hO hQS hQD h4 hI1 hL1 hF1 (by omega) hE1
        refine ⟨_, w', ext1, L1, x, ?_, post⟩
        rw [if_pos c3, h0.t1 hkk, zbs, if_pos h0.is, oc_162 hW h0, zbs, xk_I, ep, if_pos h0.is, show toJ (some p) = nI p from rfl, e1, zbs, xk_v, el, if_pos is9, c176, zbs, xk_v, f3, zbs, ex, if_pos (cI.is w), e2, zbs, xk_I, if_pos rfl, yb_185_579]
        rfl
      · rw [if_neg c3]
        exact no (fun z => c3 z.2)
    · rw [if_neg c2]
      exact no (fun z => c2 z.1)
  have t462 : ∀ (k : Nat) (q : Nat) (hkk : k < xnk r) {i2 i3 i4 i7 i9 : Int32} {v10 v11 v12 v13 v14 v15 : Value}, aPost (xm_R sc xt_M (d + 7) 185 462 [.ref 0, .ref (L 0), .int i2, .int i3, .int i4, .int (nI k), .int (nI q), .int i7, .ref (L (30 + k)), .int i9, v10, v11, v12, v13, v14, v15] [] (xL w ext)) w ext L r n hs sn c := by
    intro k q hkk i2 i3 i4 i7 i9 v10 v11 v12 v13 v14 v15
    rw [yb_185_462, h0.t0 hkk, zbs]
    by_cases c2 : r (56 + 6 * k) = 2
    · rw [if_pos c2, oc_177y (y := 4) (k := 4) (by decide +kernel) (by decide) (by decide), zbs, xk_I]
      by_cases c4 : nI (oMo (i4 >>> (7 &&& 31)) 4) ≤ 0
      · rw [if_pos c4]
        exact t490 k _ hkk
      · rw [if_neg c4, h0.t3 hkk, zbs]
        exact t490 k _ hkk
    · rw [if_neg c2]
      exact t490 k _ hkk
  rcases hw with hw | hw
  · rw [yc_185, oc_177y (y := 18) (k := 18) (by decide +kernel) (by decide) (by decide), zbs, xk_I, h0.g4, zbs, h0.books.len (by decide), zbs, oc_177 hk1 (by omega), zbs, xk_I, oc_177y (y := 4) (k := 4) (by decide +kernel) (by decide) (by decide), zbs, xk_I, h0.g0, zbs, h0.op.len (by decide), zbs, oc_177 hnb (by omega), zbs, xk_I, h0.g4, zbs, h0.books.at hkk (by omega), zbs, if_pos h0.is, oc_162 hW h0, zbs, xk_I, hw, if_pos (show (6 : Int32) ≤ nI 11 by decide), if_pos (show (9 : Int32) ≤ nI 11 by decide), if_neg (show ¬ nI 11 = 9 by decide), if_neg (show ¬ nI 11 = 10 by decide), if_pos (show nI 11 = 11 by decide)]
    exact t462 _ _ hkk
  · rw [yc_185, oc_177y (y := 18) (k := 18) (by decide +kernel) (by decide) (by decide), zbs, xk_I, h0.g4, zbs, h0.books.len (by decide), zbs, oc_177 hk1 (by omega), zbs, xk_I, oc_177y (y := 4) (k := 4) (by decide +kernel) (by decide) (by decide), zbs, xk_I, h0.g0, zbs, h0.op.len (by decide), zbs, oc_177 hnb (by omega), zbs, xk_I, h0.g4, zbs, h0.books.at hkk (by omega), zbs, if_pos h0.is, oc_162 hW h0, zbs, xk_I, hw, if_pos (show (6 : Int32) ≤ nI 12 by decide), if_pos (show (9 : Int32) ≤ nI 12 by decide), if_neg (show ¬ nI 12 = 9 by decide), if_neg (show ¬ nI 12 = 10 by decide), if_neg (show ¬ nI 12 = 11 by decide), if_pos (show nI 12 = 12 by decide)]
    exact t462 _ _ hkk
theorem act_back (hI : cI w r n hs sn) (hS : rS r) (hD : rD r) (hc : r 4 = nI c) (hc2 : c < 9000) (h0 : oI (xL w ext) L r x) (hL : ∀ a, 191 ≤ L a) (hk5 : xnk r ≤ 5) (hk1 : 0 < xnk r) (hw : oMo v 18 = 13) : aPost (xm_C sc xt_M (d + 8) 185 [.ref 0, .ref (L 0), .int v] (xL w ext)) w ext L r n hs sn c := by
  have hW := hI.W
  have hb6 := hW.bd.b6
  have hv4 := hW.bd.v4
  have hq40 := hW.bd.q40
  have hnb : 0 < xnb r := by have := hW.n.1; omega
  have hkk : oMo (v >>> (4 &&& 31)) (xnk r) < xnk r := oMo_lt hk1
  have hqq : oMo ((v >>> (4 &&& 31)) >>> (3 &&& 31)) 4 < 4 := oMo_lt (by omega)
  have hbb : oMo ((v >>> (4 &&& 31)) >>> (5 &&& 31)) (xnb r) < xnb r := oMo_lt hnb
  have is := cI.is (ext := ext) w
  rw [yc_185, oc_177y (y := 18) (k := 18) (by decide +kernel) (by decide) (by decide), zbs, xk_I, h0.g4, zbs, h0.books.len (by decide), zbs, oc_177 hk1 (by omega), zbs, xk_I, oc_177y (y := 4) (k := 4) (by decide +kernel) (by decide) (by decide), zbs, xk_I, h0.g0, zbs, h0.op.len (by decide), zbs, oc_177 hnb (by omega), zbs, xk_I, h0.g4, zbs, h0.books.at hkk (by omega), zbs, if_pos h0.is, oc_162 hW h0, zbs, xk_I, hw, if_pos (show (6 : Int32) ≤ nI 13 by decide), if_pos (show (9 : Int32) ≤ nI 13 by decide), if_neg (show ¬ nI 13 = 9 by decide), if_neg (show ¬ nI 13 = 10 by decide), if_neg (show ¬ nI 13 = 11 by decide), if_neg (show ¬ nI 13 = 12 by decide), if_pos (show nI 13 = 13 by decide)]
  generalize hgk : oMo (v >>> (4 &&& 31)) (xnk r) = k at *
  generalize hgq : oMo ((v >>> (4 &&& 31)) >>> (3 &&& 31)) 4 = q at *
  generalize hgb : oMo ((v >>> (4 &&& 31)) >>> (5 &&& 31)) (xnb r) = b at *
  have hbk : sp_bk r (nI k) := by
    unfold sp_bk
    rw [hW.bd.k]
    exact zrg' (by omega) hkk
  have hbr : sp_br r (nI b) := by
    unfold sp_br
    rw [hW.bd.b]
    exact zrg' (by omega) hbb
  have kn : (nI k).toNatClampNeg = k := nI_clamp (by omega)
  have bn : (nI b).toNatClampNeg = b := nI_clamp (by omega)
  have eA : sp_giveBack r (nI k) (nI b) = sp_backN r k (nI b) := by
    unfold sp_giveBack
    rw [if_pos hbk, if_pos hbr, kn]
  have no : ∀ y : Int32, y < 0 → ¬ 0 ≤ y → sp_giveBack r (nI k) (nI b) = (0, y, none) → ∀ {i2 i3 i4 i9 : Int32} {v10 v11 v12 v13 v14 v15 : Value}, aPost (xm_R sc xt_M (d + 7) 185 620 [.ref 0, .ref (L 0), .int i2, .int i3, .int i4, .int (nI k), .int (nI q), .int (nI b), .ref (L (30 + k)), .int i9, v10, v11, v12, v13, v14, v15] [.int y] (xL w ext)) w ext L r n hs sn c := by
    intro y hy hy0 e i2 i3 i4 i9 v10 v11 v12 v13 v14 v15
    have hO := @la_138 w ext sc (d + 2) n r hs sn (nI k) (nI b) hI (by rw [e])
    rw [e] at hO
    obtain ⟨w', e2, post⟩ := @aFin w ext ext sc (d + 7) n 0 c r hs sn L L x 138 [.ref 0, .int (nI k), .int (nI b)] y none hI hS hD hc hO (fun _ e => by cases e) (fun _ e => by cases e) (fun _ e => by cases e) h0 hL oF.rf (by omega) (fun _ _ _ => rfl)
    refine ⟨none, w', ext, L, x, ?_, post⟩
    rw [yb_185_620, if_pos hy, yb_185_635, if_pos is, e2, zbs, xk_I, if_pos rfl, if_neg hy0, yb_185_662]
    rfl
  unfold sp_backN at eA
  rw [h0.t0 hkk, zbs]
  by_cases c3 : r (56 + 6 * k) = 3
  · rw [if_pos c3] at eA
    rw [if_pos c3, h0.g0, zbs, h0.op.at hbb (by omega), zbs]
    have ox : xop r (nI b) = (r (6 + b) = 1) := by unfold xop; rw [bn]
    rcases hW.o b (by omega) with ho | ho
    · rw [if_neg (show ¬ xop r (nI b) by rw [ox, ho]; decide)] at eA
      rw [if_pos ho]
      exact no (-3) (by decide) (by decide) eA
    · rw [if_pos (show xop r (nI b) by rw [ox]; exact ho)] at eA
      have h60 := (hW.k k hkk).2.2.2.2.2.2.2 c3
      have hy0 : 0 ≤ r (60 + 6 * k) := by rw [h60.1]; exact nI_pos' (by have := h60.2; omega)
      have m1 := h0.put hW.lt hkk (r' := sp_put r k 0 (nI b)) (fun i hi => sp_put_o hi)
      have c176 := @oc_176 (xL w ext) L r x sc (d + 6) h0 k 0 (nI b) hkk
      generalize xm_set (xL w ext) (L (30 + k)) (.inr (9, oTh (sp_put r k 0 (nI b)) k)) = S1 at *
      obtain ⟨ext1, ex, hI1, hL1, hF1, hE1⟩ := oM_to m1 hL
      have hO := @la_138 w ext1 sc (d + 2) n r hs sn (nI k) (nI b) hI (by rw [eA])
      have hQS := @qS_back r (nI k) (nI b) hW hS
      have hQD := @qD_back r (nI k) (nI b) hW hD
      have h4 := q4_12 hc (@q4_giveBack r (nI k) (nI b) hW.bd)
      rw [eA] at hO hQS hQD h4
      obtain ⟨w', e2, post⟩ := @aFin w ext ext1 sc (d + 7) n _ c r hs sn L L x 138 [.ref 0, .int (nI k), .int (nI b)] _ _ hI hS hD hc hO hQS hQD h4 hI1 hL1 hF1 (by omega) hE1
      refine ⟨_, w', ext1, L, x, ?_, post⟩
      rw [if_neg (show ¬ r (6 + b) = 0 by rw [ho]; decide), h0.t3 hkk, zbs, yb_185_620, if_neg (Int32.not_lt.mpr hy0), if_pos (og_O (h0.th hkk)), c176, zbs, xk_v, ex, yb_185_635, if_pos (cI.is w), e2, zbs, xk_I, if_pos rfl, if_pos hy0, yb_185_662]
      rfl
  · rw [if_neg c3] at eA
    rw [if_neg c3]
    exact no (-2) (by decide) (by decide) eA
theorem act_find (hI : cI w r n hs sn) (hS : rS r) (hD : rD r) (hc : r 4 = nI c) (hc2 : c < 9000) (h0 : oI (xL w ext) L r x) (hL : ∀ a, 191 ≤ L a) (hk5 : xnk r ≤ 5) (hk1 : 0 < xnk r) (hw : oMo v 18 = 15) : aPost (xm_C sc xt_M (d + 8) 185 [.ref 0, .ref (L 0), .int v] (xL w ext)) w ext L r n hs sn c := by
  have hW := hI.W
  have hb6 := hW.bd.b6
  have hv4 := hW.bd.v4
  have hq40 := hW.bd.q40
  have hnb : 0 < xnb r := by have := hW.n.1; omega
  have hkk : oMo (v >>> (4 &&& 31)) (xnk r) < xnk r := oMo_lt hk1
  have hqq : oMo ((v >>> (4 &&& 31)) >>> (3 &&& 31)) 4 < 4 := oMo_lt (by omega)
  have hbb : oMo ((v >>> (4 &&& 31)) >>> (5 &&& 31)) (xnb r) < xnb r := oMo_lt hnb
  have is := cI.is (ext := ext) w
  rw [yc_185, oc_177y (y := 18) (k := 18) (by decide +kernel) (by decide) (by decide), zbs, xk_I, h0.g4, zbs, h0.books.len (by decide), zbs, oc_177 hk1 (by omega), zbs, xk_I, oc_177y (y := 4) (k := 4) (by decide +kernel) (by decide) (by decide), zbs, xk_I, h0.g0, zbs, h0.op.len (by decide), zbs, oc_177 hnb (by omega), zbs, xk_I, h0.g4, zbs, h0.books.at hkk (by omega), zbs, if_pos h0.is, oc_162 hW h0, zbs, xk_I, hw, if_pos (show (6 : Int32) ≤ nI 15 by decide), if_pos (show (9 : Int32) ≤ nI 15 by decide), if_neg (show ¬ nI 15 = 9 by decide), if_neg (show ¬ nI 15 = 10 by decide), if_neg (show ¬ nI 15 = 11 by decide), if_neg (show ¬ nI 15 = 12 by decide), if_neg (show ¬ nI 15 = 13 by decide), if_neg (show ¬ nI 15 = 14 by decide), if_pos (show nI 15 = 15 by decide)]
  generalize hgk : oMo (v >>> (4 &&& 31)) (xnk r) = k at *
  generalize hgq : oMo ((v >>> (4 &&& 31)) >>> (3 &&& 31)) 4 = q at *
  generalize hgb : oMo ((v >>> (4 &&& 31)) >>> (5 &&& 31)) (xnb r) = b at *
  have hbk : sp_bk r (nI k) := by
    unfold sp_bk
    rw [hW.bd.k]
    exact zrg' (by omega) hkk
  have hbr : sp_br r (nI b) := by
    unfold sp_br
    rw [hW.bd.b]
    exact zrg' (by omega) hbb
  have kn : (nI k).toNatClampNeg = k := nI_clamp (by omega)
  have bn : (nI b).toNatClampNeg = b := nI_clamp (by omega)
  have hk20 := hW.bd.k20
  have eA : sp_find r (nI k) (nI b) = sp_findN r k (nI b) := by
    unfold sp_find
    rw [if_pos hbk, if_pos hbr, kn]
  unfold sp_findN at eA
  rw [h0.t0 hkk, zbs]
  by_cases c4 : r (56 + 6 * k) = 4
  · rw [if_pos c4] at eA
    have hW1 : xWF (sp_put r k 0 (nI b)) := xWF_put hW hkk (Or.inl ⟨rfl, xil_nI hbb (by omega)⟩)
    have k1 : xnk (sp_put r k 0 (nI b)) = xnk r := by unfold xnk; rw [sp_put_h (by omega) (by omega)]
    have m1 := h0.put hW.lt hkk (r' := sp_put r k 0 (nI b)) (fun i hi => sp_put_o hi)
    have c176 := @oc_176 (xL w ext) L r x sc (d + 6) h0 k 0 (nI b) hkk
    generalize xm_set (xL w ext) (L (30 + k)) (.inr (9, oTh (sp_put r k 0 (nI b)) k)) = S1 at *
    obtain ⟨ext1, ex, hI1, hL1, hF1, hE1⟩ := oM_to m1 hL
    have hO := @la_140 w ext1 sc (d + 2) n r hs sn (nI k) (nI b) hI (by rw [eA])
    have hQS := @qS_find r (nI k) (nI b) hW hS
    have hQD := @qD_find r (nI k) (nI b) hW hD
    have h4 := q4_12 hc (@q4_find r (nI k) (nI b) hW.bd)
    rw [eA] at hO hQS hQD h4
    obtain ⟨w', e2, post⟩ := @aFin w ext ext1 sc (d + 7) n _ c r hs sn L L x 140 [.ref 0, .int (nI k), .int (nI b)] _ _ hI hS hD hc hO hQS hQD h4 hI1 hL1 hF1 (by omega) hE1
    have hI2 := hI1.cls (w' := w') hL1
    refine ⟨_, w', ext1, L, x, ?_, post⟩
    rw [if_pos c4, if_pos (og_O (h0.th hkk)), c176, zbs, xk_v, ex, if_pos (cI.is w), e2, zbs, xk_I, if_pos hI2.is, oc_161 hW1 hI2 (by rw [k1]; exact hkk), zbs, xk_I, if_pos rfl, yb_185_833]
    rfl
  · rw [if_neg c4] at eA
    have hO := @la_140 w ext sc (d + 2) n r hs sn (nI k) (nI b) hI (by rw [eA])
    rw [eA] at hO
    obtain ⟨w', e2, post⟩ := @aFin w ext ext sc (d + 7) n 0 c r hs sn L L x 140 [.ref 0, .int (nI k), .int (nI b)] (-2) none hI hS hD hc hO (fun _ e => by cases e) (fun _ e => by cases e) (fun _ e => by cases e) h0 hL oF.rf (by omega) (fun _ _ _ => rfl)
    refine ⟨none, w', ext, L, x, ?_, post⟩
    rw [if_neg c4, if_pos is, e2, zbs, xk_I, if_pos rfl, yb_185_800]
    rfl
theorem act_hold (hI : cI w r n hs sn) (hS : rS r) (hD : rD r) (hc : r 4 = nI c) (hc2 : c < 9000) (h0 : oI (xL w ext) L r x) (hL : ∀ a, 191 ≤ L a) (hk5 : xnk r ≤ 5) (hk1 : 0 < xnk r) (hw : oMo v 18 = 17) : aPost (xm_C sc xt_M (d + 8) 185 [.ref 0, .ref (L 0), .int v] (xL w ext)) w ext L r n hs sn c := by
  have hW := hI.W
  have hb6 := hW.bd.b6
  have hv4 := hW.bd.v4
  have hq40 := hW.bd.q40
  have hnb : 0 < xnb r := by have := hW.n.1; omega
  have hkk : oMo (v >>> (4 &&& 31)) (xnk r) < xnk r := oMo_lt hk1
  have hqq : oMo ((v >>> (4 &&& 31)) >>> (3 &&& 31)) 4 < 4 := oMo_lt (by omega)
  have hbb : oMo ((v >>> (4 &&& 31)) >>> (5 &&& 31)) (xnb r) < xnb r := oMo_lt hnb
  have is := cI.is (ext := ext) w
  have hlt : oMo (v >>> (4 &&& 31)) 9 < 9 := oMo_lt (by omega)
  rw [yc_185, oc_177y (y := 18) (k := 18) (by decide +kernel) (by decide) (by decide), zbs, xk_I, h0.g4, zbs, h0.books.len (by decide), zbs, oc_177 hk1 (by omega), zbs, xk_I, oc_177y (y := 4) (k := 4) (by decide +kernel) (by decide) (by decide), zbs, xk_I, h0.g0, zbs, h0.op.len (by decide), zbs, oc_177 hnb (by omega), zbs, xk_I, h0.g4, zbs, h0.books.at hkk (by omega), zbs, if_pos h0.is, oc_162 hW h0, zbs, xk_I, hw, if_pos (show (6 : Int32) ≤ nI 17 by decide), if_pos (show (9 : Int32) ≤ nI 17 by decide), if_neg (show ¬ nI 17 = 9 by decide), if_neg (show ¬ nI 17 = 10 by decide), if_neg (show ¬ nI 17 = 11 by decide), if_neg (show ¬ nI 17 = 12 by decide), if_neg (show ¬ nI 17 = 13 by decide), if_neg (show ¬ nI 17 = 14 by decide), if_neg (show ¬ nI 17 = 15 by decide), if_neg (show ¬ nI 17 = 16 by decide)]
  generalize hgk : oMo (v >>> (4 &&& 31)) (xnk r) = k at *
  generalize hgq : oMo ((v >>> (4 &&& 31)) >>> (3 &&& 31)) 4 = q at *
  generalize hgb : oMo ((v >>> (4 &&& 31)) >>> (5 &&& 31)) (xnb r) = b at *
  have eA : sp_setHold r (nI (1 + oMo (v >>> (4 &&& 31)) 9)) = ((0, r 5, some (upd r 5 (nI (1 + oMo (v >>> (4 &&& 31)) 9)))) : Int32 × Int32 × Option (Nat → Int32)) := by
    unfold sp_setHold
    rw [if_pos ⟨nI_le (a := 1) (by omega) (by omega), nI_le (b := 50) (by omega) (by omega)⟩]
  have m1 := h0.self hW.lt (r' := upd r 5 (nI (1 + oMo (v >>> (4 &&& 31)) 9))) (x' := x) (fun i _ h5 => zun h5)
  have f7 := @oI.f7 (xL w ext) L r x h0 (nI (1 + oMo (v >>> (4 &&& 31)) 9))
  generalize xm_set (xL w ext) (L 0) (.inr (8, oEf L (upd r 5 (nI (1 + oMo (v >>> (4 &&& 31)) 9))) x)) = S1 at *
  obtain ⟨ext1, ex, hI1, hL1, hF1, hE1⟩ := oM_to m1 hL
  have hO := @la_143 w ext1 sc (d + 2) n r hs sn (nI (1 + oMo (v >>> (4 &&& 31)) 9)) hI (by rw [eA])
  have hQS := @qS_hold r (nI (1 + oMo (v >>> (4 &&& 31)) 9)) hW hS
  have hQD := @qD_hold r (nI (1 + oMo (v >>> (4 &&& 31)) 9)) hW hD
  have h4 := q4_12 hc (@q4_setHold r (nI (1 + oMo (v >>> (4 &&& 31)) 9)))
  rw [eA] at hO hQS hQD h4
  obtain ⟨w', e2, post⟩ := @aFin w ext ext1 sc (d + 7) n _ c r hs sn L L x 143 [.ref 0, .int (nI (1 + oMo (v >>> (4 &&& 31)) 9))] _ _ hI hS hD hc hO hQS hQD h4 hI1 hL1 hF1 (by omega) hE1
  refine ⟨_, w', ext1, L, x, ?_, post⟩
  have g7 := hI1.g7
  rw [zu1] at g7
  rw [h0.g7, zbs, oc_177y (y := 9) (k := 9) (by decide +kernel) (by decide) (by decide), zbs, xk_I, show (1 : Int32) + nI (oMo (v >>> (4 &&& 31)) 9) = nI (1 + oMo (v >>> (4 &&& 31)) 9) by rw [← zA, o1I], f7, zbs, ex, g7, zbs, if_pos (cI.is w), e2, zbs, xk_I, if_pos rfl, yb_185_1096]
  rfl
end ACV
