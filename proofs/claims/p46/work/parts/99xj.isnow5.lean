/-! THE LAW: isNow, the sizes written -/
section IN
variable {w : xW} {ext : List xm_PC} {sc : xm_Sc} {d n k : Nat} {r : Nat → Int32} {hs : Nat → Nat → Int32} {sn : Option (Nat → Int32)} {L : Nat → Nat} {x : Int32}
theorem in_5 (hI : cI w r n hs sn) (h0 : oI (xL w ext) L r x) {v4 v5 v6 v7 v8 v9 v10 : Value} : xm_R sc xt_M (d + 6) 184 4 [.ref 0, .ref (L 0), .int (sp_recN r), .int (nI (xnk r)), v4, v5, v6, v7, v8, v9, v10] [] (xL w ext) = xm_R sc xt_M (d + 6) 184 202 [.ref 0, .ref (L 0), .int (sp_recN r), .ref (xL w ext).2.2.length, .int 0, v5, v6, v7, v8, v9, v10] [] (oTf (xL w ext) 13 (oSz r)) := by
  have hk20 := hI.W.bd.k20
  have hO : ∀ f, oI (oTf (xL w ext) 13 f) L r x := fun f => h0.nw (oF_P (W := oN) (show 13 ≤ 50 by omega))
  have w0 : ∀ f y, xm_wI (oTf (xL w ext) 13 f) (xL w ext).2.2.length 0 0 y = some (oTf (xL w ext) 13 (upd f 0 y)) := fun f y => oTf_w (i := 0) (by omega) (by omega)
  have w1 : ∀ f y, xm_wI (oTf (xL w ext) 13 f) (xL w ext).2.2.length 0 1 y = some (oTf (xL w ext) 13 (upd f 1 y)) := fun f y => oTf_w (i := 1) (by omega) (by omega)
  have w2 : ∀ f y, xm_wI (oTf (xL w ext) 13 f) (xL w ext).2.2.length 0 2 y = some (oTf (xL w ext) 13 (upd f 2 y)) := fun f y => oTf_w (i := 2) (by omega) (by omega)
  have w3 : ∀ f y, xm_wI (oTf (xL w ext) 13 f) (xL w ext).2.2.length 0 3 y = some (oTf (xL w ext) 13 (upd f 3 y)) := fun f y => oTf_w (i := 3) (by omega) (by omega)
  have w4 : ∀ f y, xm_wI (oTf (xL w ext) 13 f) (xL w ext).2.2.length 0 4 y = some (oTf (xL w ext) 13 (upd f 4 y)) := fun f y => oTf_w (i := 4) (by omega) (by omega)
  have w5 : ∀ f y, xm_wI (oTf (xL w ext) 13 f) (xL w ext).2.2.length 0 5 y = some (oTf (xL w ext) 13 (upd f 5 y)) := fun f y => oTf_w (i := 5) (by omega) (by omega)
  have w6 : ∀ f y, xm_wI (oTf (xL w ext) 13 f) (xL w ext).2.2.length 0 6 y = some (oTf (xL w ext) 13 (upd f 6 y)) := fun f y => oTf_w (i := 6) (by omega) (by omega)
  have w7 : ∀ f y, xm_wI (oTf (xL w ext) 13 f) (xL w ext).2.2.length 0 7 y = some (oTf (xL w ext) 13 (upd f 7 y)) := fun f y => oTf_w (i := 7) (by omega) (by omega)
  have w8 : ∀ f y, xm_wI (oTf (xL w ext) 13 f) (xL w ext).2.2.length 0 8 y = some (oTf (xL w ext) 13 (upd f 8 y)) := fun f y => oTf_w (i := 8) (by omega) (by omega)
  have w9 : ∀ f y, xm_wI (oTf (xL w ext) 13 f) (xL w ext).2.2.length 0 9 y = some (oTf (xL w ext) 13 (upd f 9 y)) := fun f y => oTf_w (i := 9) (by omega) (by omega)
  have w10 : ∀ f y, xm_wI (oTf (xL w ext) 13 f) (xL w ext).2.2.length 0 10 y = some (oTf (xL w ext) 13 (upd f 10 y)) := fun f y => oTf_w (i := 10) (by omega) (by omega)
  have w11 : ∀ f y, xm_wI (oTf (xL w ext) 13 f) (xL w ext).2.2.length 0 11 y = some (oTf (xL w ext) 13 (upd f 11 y)) := fun f y => oTf_w (i := 11) (by omega) (by omega)
  have w12 : ∀ f y, xm_wI (oTf (xL w ext) 13 f) (xL w ext).2.2.length 0 12 y = some (oTf (xL w ext) 13 (upd f 12 y)) := fun f y => oTf_w (i := 12) (by omega) (by omega)
  rw [yb_184_4, h0.g4, zbs, h0.books.len (by decide), zbs, if_pos (nI_le (Nat.le_refl _) (by omega)), if_neg (by decide), if_pos (by decide), oP_eq h0.fl h0.f0, show oP (xL w ext) (.inl (0, (13 : Int32).toNatClampNeg, .inl fun _ => 0)) = oTf (xL w ext) 13 (fun _ => 0) from rfl]
  rw [(hO _).g0, zbs, (hO _).op.len (by decide), zbs, w0, zbs]
  rw [if_pos (hO _).is, oc_174 hI.W (hO _), zbs, xk_I, w1, zbs]
  rw [(hO _).g1, zbs, (hO _).rooms.len (by decide), zbs, w2, zbs]
  rw [(hO _).g4, zbs, (hO _).books.len (by decide), zbs, w3, zbs]
  rw [(hO _).g5, zbs, (hO _).asks.len (by decide), zbs, w4, zbs]
  rw [(hO _).g6, zbs, w5, zbs]
  rw [(hO _).g7, zbs, w6, zbs]
  rw [if_pos (hO _).is, oc_173_n hI.W (hO _), zbs, xk_I, w7, zbs]
  rw [if_pos (hO _).is, oc_173_n hI.W (hO _), zbs, xk_I, w8, zbs]
  rw [if_pos (hO _).is, oc_173_n hI.W (hO _), zbs, xk_I, w9, zbs]
  rw [if_pos (hO _).is, oc_173_n hI.W (hO _), zbs, xk_I, w10, zbs]
  rw [if_pos (hO _).is, oc_173_n hI.W (hO _), zbs, xk_I, w11, zbs]
  rw [w12, zbs]
  unfold oSz
  rw [hI.W.bd.1.1, hI.W.bd.2.1.1, hI.W.bd.2.2.1.1, hI.W.bd.q]
end IN
