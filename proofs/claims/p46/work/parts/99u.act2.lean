/-! THE LAW: act, the other cases -/
section ACU
variable {w : xW} {ext : List xm_PC} {sc : xm_Sc} {d n c : Nat} {r : Nat → Int32} {hs : Nat → Nat → Int32} {sn : Option (Nat → Int32)} {L : Nat → Nat} {x v : Int32}
theorem act_ask (hI : cI w r n hs sn) (hS : rS r) (hD : rD r) (hc : r 4 = nI c) (hc2 : c < 9000) (h0 : oI (xL w ext) L r x) (hL : ∀ a, 191 ≤ L a) (hk5 : xnk r ≤ 5) (hk1 : 0 < xnk r) (hw : 6 ≤ oMo v 18) (hw2 : oMo v 18 < 9) : aPost (xm_C sc xt_M (d + 8) 185 [.ref 0, .ref (L 0), .int v] (xL w ext)) w ext L r n hs sn c := by
  have hW := hI.W
  have hb6 := hW.bd.b6
  have hv4 := hW.bd.v4
  have hq40 := hW.bd.q40
  have hnb : 0 < xnb r := by have := hW.n.1; omega
  have hkk : oMo (v >>> (4 &&& 31)) (xnk r) < xnk r := oMo_lt hk1
  have hqq : oMo ((v >>> (4 &&& 31)) >>> (3 &&& 31)) 4 < 4 := oMo_lt (by omega)
  have hbb : oMo ((v >>> (4 &&& 31)) >>> (5 &&& 31)) (xnb r) < xnb r := oMo_lt hnb
  have is := cI.is (ext := ext) w
  rw [yc_185, oc_177y (y := 18) (k := 18) (by decide +kernel) (by decide) (by decide), zbs, xk_I, h0.g4, zbs, h0.books.len (by decide), zbs, oc_177 hk1 (by omega), zbs, xk_I, oc_177y (y := 4) (k := 4) (by decide +kernel) (by decide) (by decide), zbs, xk_I, h0.g0, zbs, h0.op.len (by decide), zbs, oc_177 hnb (by omega), zbs, xk_I, h0.g4, zbs, h0.books.at hkk (by omega), zbs, if_pos h0.is, oc_162 hW h0, zbs, xk_I, if_pos (show (6 : Int32) ≤ nI (oMo v 18) from nI_le (a := 6) hw (by omega)), if_neg (show ¬ (9 : Int32) ≤ nI (oMo v 18) from nI_ge (b := 9) hw2 (by omega))]
  generalize hgk : oMo (v >>> (4 &&& 31)) (xnk r) = k at *
  generalize hgq : oMo ((v >>> (4 &&& 31)) >>> (3 &&& 31)) 4 = q at *
  generalize hgb : oMo ((v >>> (4 &&& 31)) >>> (5 &&& 31)) (xnb r) = b at *
  have hbk : sp_bk r (nI k) := by
    unfold sp_bk
    rw [hW.bd.k]
    exact zrg' (by omega) hkk
  have hbr : sp_br r (nI b) := by
    unfold sp_br
    rw [hW.bd.b]
    exact zrg' (by omega) hbb
  have kn : (nI k).toNatClampNeg = k := nI_clamp (by omega)
  have bn : (nI b).toNatClampNeg = b := nI_clamp (by omega)
  have hrd : 0 ≤ nI q ∧ nI q ≤ 99 := ⟨nI_pos' (by omega), nI_le (b := 99) (by omega) (by omega)⟩
  have e40 : xnq r = 40 → sp_ask r (nI k) (nI q) (nI b) = (0, -2, none) := fun z => by
    unfold sp_ask
    rw [if_pos hbk, if_pos hbr, if_pos hrd, if_pos z]
  have e3 : ¬ xnq r = 40 → (r (56 + 6 * k) = 3 ∧ r (60 + 6 * k) = nI q) → sp_ask r (nI k) (nI q) (nI b) = (0, -3, none) := fun z y => by
    unfold sp_ask
    rw [if_pos hbk, if_pos hbr, if_pos hrd, if_neg z, kn, if_pos y]
  have eS : ¬ xnq r = 40 → ∀ p, sp_by r (nI k) (nI q) = some p → sp_ask r (nI k) (nI q) (nI b) = (0, -3, none) := fun z p y => by
    unfold sp_ask
    rw [if_pos hbk, if_pos hbr, if_pos hrd, if_neg z, y]
    split <;> rfl
  have eN : ¬ xnq r = 40 → ¬ (r (56 + 6 * k) = 3 ∧ r (60 + 6 * k) = nI q) → sp_by r (nI k) (nI q) = none → sp_ask r (nI k) (nI q) (nI b) = (0, sp_queue r (nI k), some (sp_addq r (nI k) (nI q) (nI b))) := fun z y y2 => by
    unfold sp_ask
    rw [if_pos hbk, if_pos hbr, if_pos hrd, if_neg z, kn, if_neg y, y2]
    dsimp only
    rw [oAddQ hq40]
  have no : ∀ y : Int32, y < 0 → ¬ 0 ≤ y → sp_ask r (nI k) (nI q) (nI b) = (0, y, none) → ∀ {i2 i3 i4 i9 : Int32} {p8 : Nat} {v10 v11 v12 v13 v14 v15 : Value}, aPost (xm_R sc xt_M (d + 7) 185 193 [.ref 0, .ref (L 0), .int i2, .int i3, .int i4, .int (nI k), .int (nI q), .int (nI b), .ref p8, .int i9, v10, v11, v12, v13, v14, v15] [.int y] (xL w ext)) w ext L r n hs sn c := by
    intro y hy hy0 e i2 i3 i4 i9 p8 v10 v11 v12 v13 v14 v15
    have hO := @la_134 w ext sc (d + 2) n r hs sn (nI k) (nI q) (nI b) hI (by rw [e])
    rw [e] at hO
    obtain ⟨w', e2, post⟩ := @aFin w ext ext sc (d + 7) n 0 c r hs sn L L x 134 [.ref 0, .int (nI k), .int (nI q), .int (nI b)] y none hI hS hD hc hO (fun _ e => by cases e) (fun _ e => by cases e) (fun _ e => by cases e) h0 hL oF.rf (by omega) (fun _ _ _ => rfl)
    refine ⟨none, w', ext, L, x, ?_, post⟩
    rw [yb_185_193, if_pos hy, yb_185_210, if_pos is, e2, zbs, xk_I, if_pos rfl, if_neg hy0, yb_185_239]
    rfl
  rw [h0.g5, zbs, h0.asks.len (by decide), zbs]
  by_cases c40 : xnq r = 40
  · rw [if_pos (show nI (xnq r) = 40 by rw [c40]; decide)]
    exact no (-2) (by decide) (by decide) (e40 c40)
  · rw [if_neg (show ¬ nI (xnq r) = 40 from fun z => c40 (nI_inj (b := 40) (by omega) (by omega) z))]
    cases eb : sp_by r (nI k) (nI q) with
    | some p =>
      have hp : p < xnq r := sp_by_lt eb
      rw [if_pos (show 0 ≤ toJ (some p) from nI_pos' (by omega)), yb_185_182]
      exact no (-3) (by decide) (by decide) (eS c40 p eb)
    | none =>
      rw [if_neg (show ¬ 0 ≤ toJ none by decide), h0.t0 hkk, zbs]
      by_cases c3 : r (56 + 6 * k) = 3 ∧ r (60 + 6 * k) = nI q
      · rw [if_pos c3.1, h0.t3 hkk, zbs, if_pos c3.2, yb_185_182]
        exact no (-3) (by decide) (by decide) (e3 c40 c3)
      · have eY : sp_ask r (nI k) (nI q) (nI b) = (0, sp_queue r (nI k), some (sp_addq r (nI k) (nI q) (nI b))) := eN c40 c3 eb
        have yes : ∀ {i2 i3 i4 i9 : Int32} {p8 : Nat} {v10 v11 v12 v13 v14 v15 : Value}, aPost (xm_R sc xt_M (d + 7) 185 187 [.ref 0, .ref (L 0), .int i2, .int i3, .int i4, .int (nI k), .int (nI q), .int (nI b), .ref p8, .int i9, v10, v11, v12, v13, v14, v15] [] (xL w ext)) w ext L r n hs sn c := by
          intro i2 i3 i4 i9 p8 v10 v11 v12 v13 v14 v15
          obtain ⟨S1, L1, e1, m1⟩ := @oc_166 (xL w ext) L r x sc (d + 6) hW h0 (nI k) (nI q) (nI b) (by omega)
          obtain ⟨ext1, ex, hI1, hL1, hF1, hE1⟩ := oM_to m1 hL
          have hO := @la_134 w ext1 sc (d + 2) n r hs sn (nI k) (nI q) (nI b) hI (by rw [eY])
          have hQS := @qS_ask r (nI k) (nI b) (nI q) hW hS
          have hQD := @qD_ask r (nI k) (nI b) (nI q) hW (xil_nI (by omega) (by omega)) hD
          have h4 := q4_12 hc (@q4_ask r (nI k) (nI b) (nI q))
          rw [eY] at hO hQS hQD h4
          obtain ⟨w', e2, post⟩ := @aFin w ext ext1 sc (d + 7) n 2 c r hs sn L L1 x 134 [.ref 0, .int (nI k), .int (nI q), .int (nI b)] _ _ hI hS hD hc hO hQS hQD h4 hI1 hL1 hF1 (by omega) hE1
          refine ⟨_, w', ext1, L1, x, ?_, post⟩
          have hqn : qN r k ≤ xnq r := qN_le
          rw [yb_185_187, if_pos h0.is, oc_164 hW h0, zbs, xk_I, yb_185_193, qN_s, if_neg (nI_pos (by omega)), if_pos h0.is, e1, zbs, xk_v, ex, yb_185_210, if_pos (cI.is w), e2, zbs, xk_I, if_pos qN_s, if_pos (nI_pos' (by omega)), yb_185_239]
          rfl
        by_cases c31 : r (56 + 6 * k) = 3
        · rw [if_pos c31, h0.t3 hkk, zbs, if_neg (fun z => c3 ⟨c31, z⟩)]
          exact yes
        · rw [if_neg c31]
          exact yes
theorem act_cancel (hI : cI w r n hs sn) (hS : rS r) (hD : rD r) (hc : r 4 = nI c) (hc2 : c < 9000) (h0 : oI (xL w ext) L r x) (hL : ∀ a, 191 ≤ L a) (hk5 : xnk r ≤ 5) (hk1 : 0 < xnk r) (hw : oMo v 18 = 9) : aPost (xm_C sc xt_M (d + 8) 185 [.ref 0, .ref (L 0), .int v] (xL w ext)) w ext L r n hs sn c := by
  have hW := hI.W
  have hb6 := hW.bd.b6
  have hv4 := hW.bd.v4
  have hq40 := hW.bd.q40
  have hnb : 0 < xnb r := by have := hW.n.1; omega
  have hkk : oMo (v >>> (4 &&& 31)) (xnk r) < xnk r := oMo_lt hk1
  have hqq : oMo ((v >>> (4 &&& 31)) >>> (3 &&& 31)) 4 < 4 := oMo_lt (by omega)
  have hbb : oMo ((v >>> (4 &&& 31)) >>> (5 &&& 31)) (xnb r) < xnb r := oMo_lt hnb
  have is := cI.is (ext := ext) w
  rw [yc_185, oc_177y (y := 18) (k := 18) (by decide +kernel) (by decide) (by decide), zbs, xk_I, h0.g4, zbs, h0.books.len (by decide), zbs, oc_177 hk1 (by omega), zbs, xk_I, oc_177y (y := 4) (k := 4) (by decide +kernel) (by decide) (by decide), zbs, xk_I, h0.g0, zbs, h0.op.len (by decide), zbs, oc_177 hnb (by omega), zbs, xk_I, h0.g4, zbs, h0.books.at hkk (by omega), zbs, if_pos h0.is, oc_162 hW h0, zbs, xk_I, hw, if_pos (show (6 : Int32) ≤ nI 9 by decide), if_pos (show (9 : Int32) ≤ nI 9 by decide), if_pos (show nI 9 = 9 by decide)]
  generalize hgk : oMo (v >>> (4 &&& 31)) (xnk r) = k at *
  generalize hgq : oMo ((v >>> (4 &&& 31)) >>> (3 &&& 31)) 4 = q at *
  generalize hgb : oMo ((v >>> (4 &&& 31)) >>> (5 &&& 31)) (xnb r) = b at *
  have hbk : sp_bk r (nI k) := by
    unfold sp_bk
    rw [hW.bd.k]
    exact zrg' (by omega) hkk
  have hbr : sp_br r (nI b) := by
    unfold sp_br
    rw [hW.bd.b]
    exact zrg' (by omega) hbb
  have kn : (nI k).toNatClampNeg = k := nI_clamp (by omega)
  have bn : (nI b).toNatClampNeg = b := nI_clamp (by omega)
  cases eb : sp_by r (nI k) (nI q) with
  | none =>
    have e : sp_cancel r (nI k) (nI q) = (0, -2, none) := by
      unfold sp_cancel sp_cancelN
      rw [if_pos hbk, kn, eb]
    have hO := @la_135 w ext sc (d + 2) n r hs sn (nI k) (nI q) hI (by rw [e])
    rw [e] at hO
    obtain ⟨w', e2, post⟩ := @aFin w ext ext sc (d + 7) n 0 c r hs sn L L x 135 [.ref 0, .int (nI k), .int (nI q)] (-2) none hI hS hD hc hO (fun _ e => by cases e) (fun _ e => by cases e) (fun _ e => by cases e) h0 hL oF.rf (by omega) (fun _ _ _ => rfl)
    refine ⟨none, w', ext, L, x, ?_, post⟩
    rw [if_neg (show ¬ 0 ≤ toJ none by decide), if_pos is, e2, zbs, xk_I, if_pos rfl, yb_185_269]
    rfl
  | some p =>
    have hp : p < xnq r := sp_by_lt eb
    have e : sp_cancel r (nI k) (nI q) = (0, sp_rank r p, some (sp_drop (if sp_hf r k (nI q) then sp_put r k 0 (r (57 + 6 * k)) else r) p)) := by
      unfold sp_cancel sp_cancelN
      rw [if_pos hbk, kn, eb]
    obtain ⟨hW1, -⟩ := xWF_cancel hW hkk eb
    have t308 : ∀ S1, oM (xL w ext) S1 L L (if sp_hf r k (nI q) then sp_put r k 0 (r (57 + 6 * k)) else r) x 0 (xnk r) → ∀ {i2 i3 i4 : Int32} {p8 : Nat} {v11 v12 v13 v14 v15 : Value}, aPost (xm_R sc xt_M (d + 7) 185 308 [.ref 0, .ref (L 0), .int i2, .int i3, .int i4, .int (nI k), .int (nI q), .int (nI b), .ref p8, .int (nI p), .int (sp_rank r p), v11, v12, v13, v14, v15] [] S1) w ext L r n hs sn c := by
      intro S1 m0 i2 i3 i4 p8 v11 v12 v13 v14 v15
      have hk20 := hW.bd.k20
      have k1 : xnk (if sp_hf r k (nI q) then sp_put r k 0 (r (57 + 6 * k)) else r) = xnk r := by
        split
        · unfold xnk; rw [sp_put_h (by omega) (by omega)]
        · rfl
      have q1 : xnq (if sp_hf r k (nI q) then sp_put r k 0 (r (57 + 6 * k)) else r) = xnq r := by
        split
        · unfold xnq; rw [sp_put_h (by omega) (by omega)]
        · rfl
      obtain ⟨S2, L2, e1, m1⟩ := @oc_165 S1 L _ x sc (d + 6) hW1 m0.1 p (by rw [q1]; exact hp)
      rw [k1] at m1
      obtain ⟨ext1, ex, hI1, hL1, hF1, hE1⟩ := oM_to (m0.tr hk20 m1) hL
      have hO := @la_135 w ext1 sc (d + 2) n r hs sn (nI k) (nI q) hI (by rw [e])
      have hQS := @qS_cancel r (nI k) (nI q) hW hS
      have hQD := @qD_cancel r (nI k) (nI q) hW hD
      have h4 := q4_12 hc (@q4_cancel r (nI k) (nI q) hW.bd)
      rw [e] at hO hQS hQD h4
      obtain ⟨w', e2, post⟩ := @aFin w ext ext1 sc (d + 7) n _ c r hs sn L L2 x 135 [.ref 0, .int (nI k), .int (nI q)] _ _ hI hS hD hc hO hQS hQD h4 hI1 hL1 hF1 (by omega) hE1
      refine ⟨_, w', ext1, L2, x, ?_, post⟩
      rw [yb_185_308, if_pos m0.1.is, e1, zbs, xk_v, ex, if_pos (cI.is w), e2, zbs, xk_I, if_pos rfl, yb_185_332]
      rfl
    have self : ¬ sp_hf r k (nI q) → oM (xL w ext) (xL w ext) L L (if sp_hf r k (nI q) then sp_put r k 0 (r (57 + 6 * k)) else r) x 0 (xnk r) := fun z => by rw [if_neg z]; exact oM.nw h0 oF.rf
    rw [show toJ (some p) = nI p from rfl, if_pos (nI_pos' (by omega)), if_pos h0.is, oc_163 hW h0 hp, zbs, xk_I, h0.t0 hkk, zbs]
    by_cases c2 : r (56 + 6 * k) = 2
    · rw [if_pos c2, h0.t3 hkk, zbs]
      by_cases c3 : r (60 + 6 * k) = nI q
      · rw [if_pos c3, h0.t1 hkk, zbs, if_pos (og_O (h0.th hkk)), oc_176 h0 hkk, zbs, xk_v]
        refine t308 _ ?_
        rw [if_pos ⟨c2, c3⟩]
        exact h0.put hW.lt hkk (fun i hi => sp_put_o hi)
      · rw [if_neg c3]
        exact t308 _ (self (fun z => c3 z.2))
    · rw [if_neg c2]
      exact t308 _ (self (fun z => c2 z.1))
theorem act_recall (hI : cI w r n hs sn) (hS : rS r) (hD : rD r) (hc : r 4 = nI c) (hc2 : c < 9000) (h0 : oI (xL w ext) L r x) (hL : ∀ a, 191 ≤ L a) (hk5 : xnk r ≤ 5) (hk1 : 0 < xnk r) (hw : oMo v 18 = 10) : aPost (xm_C sc xt_M (d + 8) 185 [.ref 0, .ref (L 0), .int v] (xL w ext)) w ext L r n hs sn c := by
  have hW := hI.W
  have hb6 := hW.bd.b6
  have hv4 := hW.bd.v4
  have hq40 := hW.bd.q40
  have hnb : 0 < xnb r := by have := hW.n.1; omega
  have hkk : oMo (v >>> (4 &&& 31)) (xnk r) < xnk r := oMo_lt hk1
  have hqq : oMo ((v >>> (4 &&& 31)) >>> (3 &&& 31)) 4 < 4 := oMo_lt (by omega)
  have hbb : oMo ((v >>> (4 &&& 31)) >>> (5 &&& 31)) (xnb r) < xnb r := oMo_lt hnb
  have is := cI.is (ext := ext) w
  rw [yc_185, oc_177y (y := 18) (k := 18) (by decide +kernel) (by decide) (by decide), zbs, xk_I, h0.g4, zbs, h0.books.len (by decide), zbs, oc_177 hk1 (by omega), zbs, xk_I, oc_177y (y := 4) (k := 4) (by decide +kernel) (by decide) (by decide), zbs, xk_I, h0.g0, zbs, h0.op.len (by decide), zbs, oc_177 hnb (by omega), zbs, xk_I, h0.g4, zbs, h0.books.at hkk (by omega), zbs, if_pos h0.is, oc_162 hW h0, zbs, xk_I, hw, if_pos (show (6 : Int32) ≤ nI 10 by decide), if_pos (show (9 : Int32) ≤ nI 10 by decide), if_neg (show ¬ nI 10 = 9 by decide), if_pos (show nI 10 = 10 by decide)]
  generalize hgk : oMo (v >>> (4 &&& 31)) (xnk r) = k at *
  generalize hgq : oMo ((v >>> (4 &&& 31)) >>> (3 &&& 31)) 4 = q at *
  generalize hgb : oMo ((v >>> (4 &&& 31)) >>> (5 &&& 31)) (xnb r) = b at *
  have hbk : sp_bk r (nI k) := by
    unfold sp_bk
    rw [hW.bd.k]
    exact zrg' (by omega) hkk
  have hbr : sp_br r (nI b) := by
    unfold sp_br
    rw [hW.bd.b]
    exact zrg' (by omega) hbb
  have kn : (nI k).toNatClampNeg = k := nI_clamp (by omega)
  have bn : (nI b).toNatClampNeg = b := nI_clamp (by omega)
  have eA : sp_recall r (nI k) = sp_recallN r k := by
    unfold sp_recall
    rw [if_pos hbk, kn]
  have h56 := (hW.k k hkk).1
  have h59 := (hW.k k hkk).2.2.1
  have no : ∀ y : Int32, ¬ 0 ≤ y → sp_recall r (nI k) = (0, y, none) → ∀ {i2 i3 i4 i9 : Int32} {v10 v11 v12 v13 v14 v15 : Value}, aPost (xm_R sc xt_M (d + 7) 185 383 [.ref 0, .ref (L 0), .int i2, .int i3, .int i4, .int (nI k), .int (nI q), .int (nI b), .ref (L (30 + k)), .int i9, v10, v11, v12, v13, v14, v15] [.int y] (xL w ext)) w ext L r n hs sn c := by
    intro y hy e i2 i3 i4 i9 v10 v11 v12 v13 v14 v15
    have hO := @la_136 w ext sc (d + 2) n r hs sn (nI k) hI (by rw [e])
    rw [e] at hO
    obtain ⟨w', e2, post⟩ := @aFin w ext ext sc (d + 7) n 0 c r hs sn L L x 136 [.ref 0, .int (nI k)] y none hI hS hD hc hO (fun _ e => by cases e) (fun _ e => by cases e) (fun _ e => by cases e) h0 hL oF.rf (by omega) (fun _ _ _ => rfl)
    refine ⟨none, w', ext, L, x, ?_, post⟩
    rw [yb_185_383, if_neg hy, if_pos is, e2, zbs, xk_I, if_pos rfl, yb_185_406]
    rfl
  have yes : sp_recall r (nI k) = (0, r (56 + 6 * k), some (upd (if r (56 + 6 * k) = 2 then sp_put r k 0 (r (57 + 6 * k)) else r) (59 + 6 * k) 1)) → ∀ {i2 i3 i4 i9 : Int32} {v10 v11 v12 v13 v14 v15 : Value}, aPost (xm_R sc xt_M (d + 7) 185 378 [.ref 0, .ref (L 0), .int i2, .int i3, .int i4, .int (nI k), .int (nI q), .int (nI b), .ref (L (30 + k)), .int i9, v10, v11, v12, v13, v14, v15] [] (xL w ext)) w ext L r n hs sn c := by
    intro e i2 i3 i4 i9 v10 v11 v12 v13 v14 v15
    have hk20 := hW.bd.k20
    have t427 : ∀ S1, oM (xL w ext) S1 L L (if r (56 + 6 * k) = 2 then sp_put r k 0 (r (57 + 6 * k)) else r) x 0 (xnk r) → ∀ {i2 i3 i4 i9 : Int32} {v11 v12 v13 v14 v15 : Value}, aPost (xm_R sc xt_M (d + 7) 185 427 [.ref 0, .ref (L 0), .int i2, .int i3, .int i4, .int (nI k), .int (nI q), .int (nI b), .ref (L (30 + k)), .int i9, .int (r (56 + 6 * k)), v11, v12, v13, v14, v15] [] S1) w ext L r n hs sn c := by
      intro S1 m0 i2 i3 i4 i9 v11 v12 v13 v14 v15
      have k1 : xnk (if r (56 + 6 * k) = 2 then sp_put r k 0 (r (57 + 6 * k)) else r) = xnk r := by
        split
        · unfold xnk; rw [sp_put_h (by omega) (by omega)]
        · rfl
      have l1 : xLt (if r (56 + 6 * k) = 2 then sp_put r k 0 (r (57 + 6 * k)) else r) := by
        split
        · exact oLt hW.lt (fun i hi => sp_put_h (by omega) hi)
        · exact hW.lt
      have hk1' : k < xnk (if r (56 + 6 * k) = 2 then sp_put r k 0 (r (57 + 6 * k)) else r) := by rw [k1]; exact hkk
      have m1 := m0.1.put l1 hk1' (r' := upd (if r (56 + 6 * k) = 2 then sp_put r k 0 (r (57 + 6 * k)) else r) (59 + 6 * k) 1) (fun i hi => zun (by omega))
      rw [k1] at m1
      have f5 := @oI.f5 S1 L _ x m0.1 k 1 hk1'
      generalize xm_set S1 (L (30 + k)) (.inr (9, oTh (upd (if r (56 + 6 * k) = 2 then sp_put r k 0 (r (57 + 6 * k)) else r) (59 + 6 * k) 1) k)) = S2 at *
      obtain ⟨ext1, ex, hI1, hL1, hF1, hE1⟩ := oM_to (m0.tr hk20 m1) hL
      have hO := @la_136 w ext1 sc (d + 2) n r hs sn (nI k) hI (by rw [e])
      have hQS := @qS_recall r (nI k) hW hS
      have hQD := @qD_recall r (nI k) hW hD
      have h4 := q4_12 hc (@q4_recall r (nI k) hW.bd)
      rw [e] at hO hQS hQD h4
      obtain ⟨w', e2, post⟩ := @aFin w ext ext1 sc (d + 7) n _ c r hs sn L L x 136 [.ref 0, .int (nI k)] _ _ hI hS hD hc hO hQS hQD h4 hI1 hL1 hF1 (by omega) hE1
      refine ⟨_, w', ext1, L, x, ?_, post⟩
      rw [yb_185_427, f5, zbs, ex, if_pos (cI.is w), e2, zbs, xk_I, if_pos rfl, yb_185_449]
      rfl
    rw [yb_185_378, h0.t0 hkk, zbs, yb_185_383, if_pos (show 0 ≤ r (56 + 6 * k) by rw [h56.1]; exact nI_pos' (by have := h56.2; omega)), h0.t0 hkk, zbs]
    by_cases c2 : r (56 + 6 * k) = 2
    · rw [if_pos c2, h0.t1 hkk, zbs, if_pos (og_O (h0.th hkk)), oc_176 h0 hkk, zbs, xk_v]
      refine t427 _ ?_
      rw [if_pos c2]
      exact h0.put hW.lt hkk (fun i hi => sp_put_o hi)
    · rw [if_neg c2]
      refine t427 _ ?_
      rw [if_neg c2]
      exact oM.nw h0 oF.rf
  rw [h0.t5 hkk, zbs]
  unfold sp_recallN at eA
  rcases h59 with z | z
  · have z1 : ¬ r (59 + 6 * k) = 1 := by rw [z]; decide
    rw [if_neg z1] at eA
    rw [if_pos z, h0.t0 hkk, zbs]
    by_cases c0 : sp_isIn r 0 k (r (58 + 6 * k))
    · rw [if_pos c0] at eA
      rw [if_pos c0.1, h0.t1 hkk, zbs, h0.t2 hkk, zbs, if_pos c0.2]
      exact no (-3) (by decide) eA
    · rw [if_neg c0] at eA
      by_cases c1 : r (56 + 6 * k) = 0
      · rw [if_pos c1, h0.t1 hkk, zbs, h0.t2 hkk, zbs, if_neg (fun z => c0 ⟨c1, z⟩)]
        exact yes eA
      · rw [if_neg c1]
        exact yes eA
  · rw [if_pos z] at eA
    rw [if_neg (show ¬ r (59 + 6 * k) = 0 by rw [z]; decide)]
    exact no (-2) (by decide) eA
end ACU
