/-! THE LAW: isNow, the vans -/
section IN
variable {w : xW} {ext : List xm_PC} {sc : xm_Sc} {d n k : Nat} {r : Nat → Int32} {hs : Nat → Nat → Int32} {sn : Option (Nat → Int32)} {L : Nat → Nat} {x : Int32}
/-- the books in a van, in their order -/
theorem lz_115 (hI : cI w r n hs sn) {v k : Nat} (hv : v < xnv r) (hk : k < xnk r) (hin : sp_isIn r 1 k (nI v)) : xm_C sc xt_M (d + 4) 115 [.ref 0, .int (nI v), .int (nI (cP r 1 v k))] (xL w ext) = some (.inl (some (.int (nI k))), xL w ext) := by
  have hB := hI.W.bd
  have hv4 := hB.v4
  have hk20 := hB.k20
  have hc : cP r 1 v k ≤ k := xcnt_le
  have ef : xfst (fun k' => sp_inp r v (cP r 1 v k) k') 0 (xnk r) = some k := by
    cases e : xfst (fun k' => sp_inp r v (cP r 1 v k) k') 0 (xnk r) with
    | none => exact absurd ⟨hin, rfl⟩ (xfst_none e k (Nat.zero_le _) (by omega))
    | some j =>
      obtain ⟨⟨j1, j2⟩, -⟩ := xfst_some e
      rw [xcnt_inj (p := fun k => sp_isIn r 1 k (nI v)) j1 hin j2]
  have e : sp_inVan r (nI v) (nI (cP r 1 v k)) = (0, nI k) := by
    unfold sp_inVan
    rw [hB.v, if_pos (zrg' (by omega) hv), if_neg (nI_pos (by omega)), nI_clamp (by omega), nI_clamp (by omega), ef]
  rw [la_115 hI (by rw [e]), e]
theorem in_397 (hI : cI w r n hs sn) (h0 : oI (xL w ext) L r x) {v : Nat} (hv : v < xnv r) {c i4 i5 : Int32} {p : Nat} {v9 v10 : Value} : ∀ m k, k + m = xnk r → xm_R sc xt_M (d + 6) 184 397 [.ref 0, .ref (L 0), .int c, .ref p, .int i4, .int i5, .int (nI v), .int (nI (cP r 1 v k)), .int (nI k), v9, v10] [] (xL w ext) = xm_R sc xt_M (d + 6) 184 466 [.ref 0, .ref (L 0), .int c, .ref p, .int i4, .int i5, .int (nI v), .int (nI (cP r 1 v (xnk r))), .int 0, .int 0, v10] [] (xL w ext) := by
  have hW := hI.W
  have hB := hW.bd
  have hk20 := hB.k20
  have is := cI.is (ext := ext) w
  intro m
  induction m with
  | zero =>
    intro k hk
    have e : k = xnk r := by omega
    subst e
    rw [yb_184_397, h0.g4, zbs, h0.books.len (by decide), zbs, if_pos (nI_le (Nat.le_refl _) (by omega))]
  | succ m ih =>
    intro k hk
    have hk' : k < xnk r := by omega
    have z := ih (k + 1) (by omega)
    rw [cP_s] at z
    rw [yb_184_397, h0.g4, zbs, h0.books.len (by decide), zbs, if_neg (nI_ge (by omega) (by omega)), zbs, h0.books.at hk' (by omega), zbs, h0.t0 hk', zbs]
    by_cases c1 : r (56 + 6 * k) = 1
    · rw [if_pos c1, zbs, h0.books.at hk' (by omega), zbs, h0.t1 hk', zbs]
      by_cases c2 : r (57 + 6 * k) = nI v
      · rw [if_pos ⟨c1, c2⟩] at z
        rw [if_pos c2, if_pos is, @lz_115 w ext sc (d + 2) n r hs sn hI v k hv hk' ⟨c1, c2⟩, zbs, xk_I, if_pos rfl, yb_184_454, ← nI_succ, ← nI_succ]
        exact z
      · rw [if_neg (fun y => c2 y.2)] at z
        rw [if_neg c2, yb_184_454, ← nI_succ]
        exact z
    · rw [if_neg (fun y => c1 y.1)] at z
      rw [if_neg c1, yb_184_454, ← nI_succ]
      exact z
def oVn (r : Nat → Int32) (v : Nat) : Nat → Int32 := upd (upd (upd (upd (upd (upd (fun _ => 0) 0 (r (12 + 11 * v))) 1 (r (13 + 11 * v))) 2 (r (14 + 11 * v))) 3 (r (15 + 11 * v + (r (14 + 11 * v)).toNatClampNeg))) 4 (sp_booksIn r 1 (nI v))) 5 (sp_openOn r v)
theorem oVn_ok (hB : xBd r) {v : Nat} (hv : v < xnv r) : ∀ i, i < 6 → sp_van r (nI v) (nI i) = (0, oVn r v i) := by
  intro i hi
  have h : i = 0 ∨ i = 1 ∨ i = 2 ∨ i = 3 ∨ i = 4 ∨ i = 5 := by omega
  rcases h with z | z | z | z | z | z <;> subst z
  · exact vz_0 hB hv
  · exact vz_1 hB hv
  · exact vz_2 hB hv
  · exact vz_3 hB hv
  · exact vz_4 hB hv
  · exact vz_5 hB hv
/-- a van's open branches; its numbers -/
theorem in_466 (hI : cI w r n hs sn) (h0 : oI (xL w ext) L r x) {v : Nat} (hv : v < xnv r) {c i4 i5 : Int32} {p : Nat} {v10 : Value} : ∀ m b, b + m = xnb r → xm_R sc xt_M (d + 6) 184 466 [.ref 0, .ref (L 0), .int c, .ref p, .int i4, .int i5, .int (nI v), .int (nI (cP r 1 v (xnk r))), .int (xsum (fun b => zB (r (6 + b) = 1 ∧ sp_has r v (nI b) = true)) b), .int (nI b), v10] [] (xL w ext) = xm_R sc xt_M (d + 6) 184 581 [.ref 0, .ref (L 0), .int c, .ref p, .int i4, .int i5, .int (nI v), .int (nI (cP r 1 v (xnk r))), .int (sp_openOn r v), .ref (xL w ext).2.2.length, .int 0] [] (oTf (xL w ext) 6 (oVn r v)) := by
  have hW := hI.W
  have hB := hW.bd
  have hk20 := hB.k20
  have hb6 := hB.b6
  have hv4 := hB.v4
  have hst := hW.st9 hv
  obtain ⟨-, -, -, a4, -⟩ := hW.v v hv
  intro m
  induction m with
  | zero =>
    intro b hb
    have e : b = xnb r := by omega
    subst e
    have hO : ∀ f, oI (oTf (xL w ext) 6 f) L r x := fun f => h0.nw (oF_P (W := oN) (show 6 ≤ 50 by omega))
    have w0 : ∀ f y, xm_wI (oTf (xL w ext) 6 f) (xL w ext).2.2.length 0 0 y = some (oTf (xL w ext) 6 (upd f 0 y)) := fun f y => oTf_w (i := 0) (by omega) (by omega)
    have w1 : ∀ f y, xm_wI (oTf (xL w ext) 6 f) (xL w ext).2.2.length 0 1 y = some (oTf (xL w ext) 6 (upd f 1 y)) := fun f y => oTf_w (i := 1) (by omega) (by omega)
    have w2 : ∀ f y, xm_wI (oTf (xL w ext) 6 f) (xL w ext).2.2.length 0 2 y = some (oTf (xL w ext) 6 (upd f 2 y)) := fun f y => oTf_w (i := 2) (by omega) (by omega)
    have w3 : ∀ f y, xm_wI (oTf (xL w ext) 6 f) (xL w ext).2.2.length 0 3 y = some (oTf (xL w ext) 6 (upd f 3 y)) := fun f y => oTf_w (i := 3) (by omega) (by omega)
    have w4 : ∀ f y, xm_wI (oTf (xL w ext) 6 f) (xL w ext).2.2.length 0 4 y = some (oTf (xL w ext) 6 (upd f 4 y)) := fun f y => oTf_w (i := 4) (by omega) (by omega)
    have w5 : ∀ f y, xm_wI (oTf (xL w ext) 6 f) (xL w ext).2.2.length 0 5 y = some (oTf (xL w ext) 6 (upd f 5 y)) := fun f y => oTf_w (i := 5) (by omega) (by omega)
    rw [yb_184_466, h0.g0, zbs, h0.op.len (by decide), zbs, if_pos (nI_le (Nat.le_refl _) (by omega)), if_neg (by decide), if_pos (by decide), oP_eq h0.fl h0.f0, show oP (xL w ext) (.inl (0, (6 : Int32).toNatClampNeg, .inl fun _ => 0)) = oTf (xL w ext) 6 (fun _ => 0) from rfl]
    rw [(hO _).g1, zbs, (hO _).rooms.at hv (by omega), zbs, w0, zbs]
    rw [(hO _).g2, zbs, (hO _).routes.at hv (by omega), zbs, ((hO _).route hv).len (by decide), zbs, w1, zbs]
    rw [(hO _).g3, zbs, (hO _).ats.at hv (by omega), zbs, w2, zbs]
    rw [(hO _).g2, zbs, (hO _).routes.at hv (by omega), zbs, (hO _).g3, zbs, (hO _).ats.at hv (by omega), zbs, ((hO _).route hv).atx a4 (by omega), zbs, w3, zbs, w4, zbs, w5, zbs]
    unfold oVn
    rw [hW.st hv, cP_n]
    rfl
  | succ m ih =>
    intro b hb
    have hb' : b < xnb r := by omega
    have z := ih (b + 1) (by omega)
    rw [show xsum (fun b => zB (r (6 + b) = 1 ∧ sp_has r v (nI b) = true)) (b + 1) = xsum (fun b => zB (r (6 + b) = 1 ∧ sp_has r v (nI b) = true)) b + zB (r (6 + b) = 1 ∧ sp_has r v (nI b) = true) from rfl] at z
    rw [yb_184_466, h0.g0, zbs, h0.op.len (by decide), zbs, if_neg (nI_ge (by omega) (by omega)), zbs, h0.op.at hb' (by omega), zbs]
    rcases hW.o b (by omega) with h | h
    · rw [zB_ff (c := r (6 + b) = 1 ∧ sp_has r v (nI b) = true) (fun y => absurd (h.symm.trans y.1) (by decide))] at z
      rw [if_pos h, ← nI_succ]
      exact z
    · rw [if_neg (by rw [h]; decide), if_pos h0.is, @oc_158 (xL w ext) L r x sc (d + 5) hW h0 v (nI b) hv, zbs, xk_I]
      by_cases c1 : sp_has r v (nI b) = true
      · rw [zB_tt (c := r (6 + b) = 1 ∧ sp_has r v (nI b) = true) ⟨h, c1⟩] at z
        rw [zB_tt c1, if_neg (by decide), ← nI_succ]
        exact z
      · rw [zB_ff (c := r (6 + b) = 1 ∧ sp_has r v (nI b) = true) (fun y => c1 y.2)] at z
        rw [zB_ff c1, if_pos rfl, ← nI_succ]
        exact z
theorem in_581 (hI : cI w r n hs sn) {v : Nat} (hv : v < xnv r) {c i4 i5 i7 i8 : Int32} {p a h1 : Nat} (hA : oA (xL w ext) a 0 6 (oVn r v)) : ∀ m i, i + m = 6 → xm_R sc xt_M (d + 6) 184 581 [.ref 0, .ref h1, .int c, .ref p, .int i4, .int i5, .int (nI v), .int i7, .int i8, .ref a, .int (nI i)] [] (xL w ext) = xm_R sc xt_M (d + 6) 184 581 [.ref 0, .ref h1, .int c, .ref p, .int i4, .int i5, .int (nI v), .int i7, .int i8, .ref a, .int (nI 6)] [] (xL w ext) := by
  intro m
  induction m with
  | zero =>
    intro i hi
    have e : i = 6 := by omega
    subst e
    rfl
  | succ m ih =>
    intro i hi
    have e113 := @lz_113 w ext sc (d + 2) n r hs sn hI v i _ (oVn_ok hI.W.bd hv i (by omega))
    rw [yb_184_581, if_neg (show ¬ (6 : Int32) ≤ nI i from nI_ge (b := 6) (by omega) (by omega)), if_pos (cI.is w), e113, zbs, xk_I, hA.at (by omega) (by omega), zbs, if_pos rfl, ← nI_succ]
    exact ih (i + 1) (by omega)
/-- one van after the other: room and the fullest so far -/
theorem in_381 (hI : cI w r n hs sn) {c : Int32} {p : Nat} : ∀ m v ext0 (v7 v8 v9 v10 : Value), v + m = xnv r → oI (xL w ext0) L r x → ∃ ext1 v7' v8' v9' v10', oF (xL w ext0) (xL w ext1) m oN ∧ xm_R sc xt_M (d + 6) 184 381 [.ref 0, .ref (L 0), .int c, .ref p, .int (sp_rooms r v), .int (nI (sp_fullN r (v - 1))), .int (nI v), v7, v8, v9, v10] [] (xL w ext0) = xm_R sc xt_M (d + 6) 184 381 [.ref 0, .ref (L 0), .int c, .ref p, .int (sp_rooms r (xnv r)), .int (nI (sp_fullN r (xnv r - 1))), .int (nI (xnv r)), v7', v8', v9', v10'] [] (xL w ext1) := by
  have hW := hI.W
  have hB := hW.bd
  have hk20 := hB.k20
  have hb6 := hB.b6
  have hv4 := hB.v4
  intro m
  induction m with
  | zero =>
    intro v ext0 v7 v8 v9 v10 hv h0
    have e : v = xnv r := by omega
    subst e
    exact ⟨ext0, v7, v8, v9, v10, oF.rf, rfl⟩
  | succ m ih =>
    intro v ext0 v7 v8 v9 v10 hv h0
    have hv' : v < xnv r := by omega
    have e1 := @in_397 w ext0 sc d n r hs sn L x hI h0 v hv' c (sp_rooms r v) (nI (sp_fullN r (v - 1))) p v9 v10 (xnk r) 0 (Nat.zero_add _)
    have e2 := @in_466 w ext0 sc d n r hs sn L x hI h0 v hv' c (sp_rooms r v) (nI (sp_fullN r (v - 1))) p v10 (xnb r) 0 (Nat.zero_add _)
    rw [show cP r 1 v 0 = 0 from rfl, nI_0] at e1
    rw [show xsum (fun b => zB (r (6 + b) = 1 ∧ sp_has r v (nI b) = true)) 0 = 0 from rfl, nI_0] at e2
    have F1 : oF (xL w ext0) (oTf (xL w ext0) 6 (oVn r v)) 1 oN := oF_P (show 6 ≤ 50 by omega)
    have hA : oA (oTf (xL w ext0) 6 (oVn r v)) (xL w ext0).2.2.length 0 6 (oVn r v) := oTf_A
    generalize (xL w ext0).2.2.length = a at *
    generalize oTf (xL w ext0) 6 (oVn r v) = S1 at *
    obtain ⟨ext1, ex⟩ := oF_to F1 (fun h z => False.elim z)
    subst ex
    have h1 := h0.nw F1
    have e3 := @in_581 w ext1 sc d n r hs sn hI v hv' c (sp_rooms r v) (nI (sp_fullN r (v - 1))) (nI (cP r 1 v (xnk r))) (sp_openOn r v) p a (L 0) hA 6 0 rfl
    rw [nI_0] at e3
    have hfl : sp_fullN r (v - 1) < xnv r := by
      have := @sp_fullN_le r (v - 1)
      omega
    have hc1 : cP r 1 v (xnk r) ≤ xnk r := xcnt_le
    have hc2 : cP r 1 (sp_fullN r (v - 1)) (xnk r) ≤ xnk r := xcnt_le
    obtain ⟨ext2, v7', v8', v9', v10', F2, e4⟩ := ih (v + 1) ext1 (.int (nI (cP r 1 v (xnk r)))) (.int (sp_openOn r v)) (.ref a) (.int (nI 6)) (by omega) h1
    refine ⟨ext2, v7', v8', v9', v10', (F1.tr F2).mo (by omega) (fun _ _ _ z => z), ?_⟩
    rw [show sp_rooms r (v + 1) = sp_rooms r v + r (12 + 11 * v) from rfl, Nat.add_sub_cancel] at e4
    rw [yb_184_381, h0.g1, zbs, h0.rooms.len (by decide), zbs, if_neg (nI_ge (by omega) (by omega)), e1, e2, e3, yb_184_581, if_pos (by decide), h1.g1, zbs, h1.rooms.at hv' (by omega), zbs, if_pos h1.is, @oc_167 (xL w ext1) L r x sc (d + 5) hW h1 (nI (sp_fullN r (v - 1))), zbs, xk_I, cP_n]
    by_cases cv : v = 0
    · subst cv
      rw [if_pos (show nI (cP r 1 0 (xnk r)) ≤ nI (cP r 1 (sp_fullN r (0 - 1)) (xnk r)) from nI_le (Nat.le_refl _) (by omega)), yb_184_639, ← nI_succ]
      exact e4
    · obtain ⟨u, rfl⟩ : ∃ u, v = u + 1 := ⟨v - 1, by omega⟩
      rw [Nat.add_sub_cancel] at *
      have ef : sp_fullN r (u + 1) = if sp_booksIn r 1 (nI (sp_fullN r u)) < sp_booksIn r 1 (nI (u + 1)) then u + 1 else sp_fullN r u := rfl
      rw [ef, cP_n, cP_n] at e4
      by_cases c1 : cP r 1 (u + 1) (xnk r) ≤ cP r 1 (sp_fullN r u) (xnk r)
      · rw [if_neg (nI_nlt c1 (by omega))] at e4
        rw [if_pos (nI_le c1 (by omega)), yb_184_639, ← nI_succ]
        exact e4
      · rw [if_pos (nI_lt (by omega) (by omega))] at e4
        rw [if_neg (nI_ge (by omega) (by omega)), yb_184_639, ← nI_succ]
        exact e4
end IN
