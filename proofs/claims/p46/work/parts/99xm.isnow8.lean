/-! THE LAW: isNow, whole -/
section IN
variable {w : xW} {ext : List xm_PC} {sc : xm_Sc} {d n k : Nat} {r : Nat → Int32} {hs : Nat → Nat → Int32} {sn : Option (Nat → Int32)} {L : Nat → Nat} {x : Int32}
theorem dl_123 (v : UInt64) : ∃ y, ∀ S, xm_C sc xt_M (d + 2) 123 [.double v] S = some (.inl (some (.long y)), S) := by
  by_cases h : (Op.cmpValue (FP.dcmp v v) .l) = 0
  · refine ⟨v.toInt64, fun S => ?_⟩
    rw [yc_123, yc_121, if_pos h, zbs, xk_I, if_pos rfl]
  · refine ⟨9221120237041090560, fun S => ?_⟩
    rw [yc_123, yc_121, if_neg h, zbs, xk_I, if_neg (by decide)]
theorem fl_151 (v : UInt32) : ∃ y, ∀ S, xm_C sc xt_M (d + 2) 151 [.float v] S = some (.inl (some (.int y)), S) := by
  by_cases h : (Op.cmpValue (FP.fcmp v v) .l) = 0
  · refine ⟨v.toInt32, fun S => ?_⟩
    rw [yc_151, yc_128, if_pos h, zbs, xk_I, if_pos rfl]
  · refine ⟨2143289344, fun S => ?_⟩
    rw [yc_151, yc_128, if_neg h, zbs, xk_I, if_neg (by decide)]
theorem in_end (hI : cI w r n hs sn) (h0 : oI (xL w ext) L r x) (hk1 : 0 < xnk r) {c : Int32} {p : Nat} (hA : oA (xL w ext) p 0 13 (oSz r)) {v7 v8 v9 v10 : Value} : xm_R sc xt_M (d + 6) 184 381 [.ref 0, .ref (L 0), .int c, .ref p, .int (sp_rooms r (xnv r)), .int (nI (sp_fullN r (xnv r - 1))), .int (nI (xnv r)), v7, v8, v9, v10] [] (xL w ext) = some (.inl (some (.int 1)), xL w ext) := by
  have hW := hI.W
  have hB := hW.bd
  have hk20 := hB.k20
  have hv4 := hB.v4
  have is := cI.is (ext := ext) w
  have a8 : xm_aI (xL w ext) p 0 8 = some (sp_inState r 1) := hA.at (i := 8) (by omega) (by omega)
  have a11 : xm_aI (xL w ext) p 0 11 = some (sp_inState r 4) := hA.at (i := 11) (by omega) (by omega)
  obtain ⟨a, ha, ea⟩ := @k_inState r 1
  obtain ⟨b, hb1, hb2, eb⟩ := k_rooms hW hI.tm.1 (xnv r) (Nat.le_refl _)
  obtain ⟨a', ha', ea'⟩ := @k_inState r 4
  have hn1 := hW.n.2.1
  have fp : (FP.ddiv (FP.i2d (sp_inState r 1)) (FP.i2d (sp_rooms r (xnv r)))) &&& 0x7fffffffffffffff ≤ 0x7ff0000000000000 := by
    rw [ea, eb]
    exact k_fpd a (by omega) b (by omega) (by omega)
  have fp2 : (FP.fdiv (FP.i2f (sp_inState r 4)) (FP.i2f (nI (xnk r)))) &&& 0x7fffffff ≤ 0x7f800000 := by
    rw [ea']
    exact k_fpf a' (by omega) (xnk r) (by omega) hk1
  have e132 := @la_132 w ext sc (d + 3) n r hs sn hI
  rw [show sp_load r = FP.ddiv (FP.i2d (sp_inState r 1)) (FP.i2d (sp_rooms r (xnv r))) from rfl] at e132
  have e133 := @la_133 w ext sc (d + 3) n r hs sn hI
  rw [show sp_lost r = FP.fdiv (FP.i2f (sp_inState r 4)) (FP.i2f (nI (xnk r))) from by
    unfold sp_lost
    rw [hB.k, if_neg (nI_ne0 hk1 (by omega))]] at e133
  have e127 := @la_127 w ext sc (d + 3) n r hs sn hI
  have nz : ¬ nI (xnk r) = 0 := nI_ne0 hk1 (by omega)
  generalize hD : FP.ddiv (FP.i2d (sp_inState r 1)) (FP.i2d (sp_rooms r (xnv r))) = D at *
  generalize hF : FP.fdiv (FP.i2f (sp_inState r 4)) (FP.i2f (nI (xnk r))) = F at *
  obtain ⟨y1, e1⟩ := @dl_123 sc (d + 4) D
  obtain ⟨y2, e2⟩ := @fl_151 sc (d + 4) F
  rw [yb_184_381, h0.g1, zbs, h0.rooms.len (by decide), zbs, if_pos (nI_le (Nat.le_refl _) (by omega)), a8, zbs, hD, if_pos fp, h0.g4, zbs, h0.books.len (by decide), zbs, if_neg nz, a11, zbs, zbs, h0.books.len (by decide), zbs, hF, if_pos fp2, if_pos is, e127, zbs, xk_I, if_pos rfl, if_pos is, e132, zbs, xk_D, e1, zbs, xk_L, e1, zbs, xk_L, lg_self, if_pos rfl, if_pos is, e133, zbs, xk_F, e2, zbs, xk_I, e2, zbs, xk_I, if_pos rfl]
/-- what the class says is what the law's own picture says -/
theorem oc_184 (hI : cI w r n hs sn) (hD : rD r) (h0 : oI (xL w ext) L r x) (hL : ∀ a, 191 ≤ L a) (hk5 : xnk r ≤ 5) (hk1 : 0 < xnk r) : ∃ w' ext', cI w' r n hs sn ∧ oF (xL w ext) (xL w' ext') 17100 oC ∧ xm_C sc xt_M (d + 7) 184 [.ref 0, .ref (L 0)] (xL w ext) = some (.inl (some (.int 1)), xL w' ext') := by
  have hv4 := hI.W.bd.v4
  obtain ⟨w1, ext1, v4', hI1, F1, e1⟩ := @in_4 sc d n r hs sn L x hD hL (by omega) .null .null .null .null .null .null (xnk r) 0 w ext .null (Nat.zero_add _) hI h0
  have h1 := h0.oc hL F1
  have e2 := @in_5 w1 ext1 sc d n r hs sn L x hI1 h1 v4' .null .null .null .null .null .null
  have F2 : oF (xL w1 ext1) (oTf (xL w1 ext1) 13 (oSz r)) 1 oN := oF_P (show 13 ≤ 50 by omega)
  have hA : oA (oTf (xL w1 ext1) 13 (oSz r)) (xL w1 ext1).2.2.length 0 13 (oSz r) := oTf_A
  generalize (xL w1 ext1).2.2.length = p at *
  generalize oTf (xL w1 ext1) 13 (oSz r) = S1 at *
  obtain ⟨ext2, ex⟩ := oF_to F2 (fun h z => False.elim z)
  subst ex
  have h2 := h1.nw F2
  have e3 := @in_202 w1 ext2 sc d n r hs sn hI1 (sp_recN r) p (oSz r) hA oSz_ok (L 0) .null .null .null .null .null .null 13 0 rfl
  rw [nI_0] at e3
  obtain ⟨v7, e4⟩ := @in_233 w1 ext2 sc d n r hs sn L x hI1 h2 (sp_recN r) p .null .null .null (xnq r) 0 .null .null .null (Nat.zero_add _)
  rw [nI_0] at e4
  obtain ⟨ext3, v7', v8', v9', v10', F3, e5⟩ := @in_381 w1 sc d n r hs sn L x hI1 (sp_recN r) p (xnv r) 0 ext2 v7 .null .null .null (Nat.zero_add _) h2
  rw [show sp_rooms r 0 = 0 from rfl, show sp_fullN r (0 - 1) = 0 from rfl, nI_0] at e5
  have h3 := h2.nw F3
  have e6 := @in_end w1 ext3 sc d n r hs sn L x hI1 h3 hk1 (sp_recN r) p (hA.fr F3 id) v7' v8' v9' v10'
  refine ⟨w1, ext3, hI1, ((F1.tr (F2.nw (Nat.le_refl _))).tr (F3.nw (Nat.le_refl _))).mo (by omega) (fun _ _ _ z => z), ?_⟩
  rw [show xsum (fun k => r (59 + 6 * k)) 0 = 0 from rfl, nI_0] at e1
  rw [yc_184]
  refine (show _ = _ from e1).trans ?_
  rw [e2, e3, yb_184_202, if_pos (by decide), e4, e5, e6]
end IN
