/-! THE LAW: add, end -/
theorem oA.wr2 {S : xm_PS} {h t n : Nat} {g : Nat → Int32} (ha : oA S h t n g) {i : Nat} (hi : i < n) (hn : n < 2 ^ 31) {y : Int32} : ∃ S', xm_wI S h t (nI i) y = some S' ∧ oA S' h t n (upd g i y) ∧ oF S S' 0 (fun z => z = h) := by
  obtain ⟨f, hc, hf, e⟩ := ha.wr hi hn (y := y)
  refine ⟨_, e, ⟨upd f i y, oS_get hc, fun j hj => ?_⟩, oF_S hc rfl rfl⟩
  show (if j = i then y else f j) = if j = i then y else g j
  rw [hf j hj]
def sdG (t : List Int32) (j : Nat) : Int32 := if j = 5 then nI t.length else pW (fun i => t.getD (20 * (t.length / 20) + i) 0) (t.length % 20) j
/-- t has been said: what of it was fed, and what waits in the array a -/
def sdI (w : xW) (S : xm_PS) (a : Nat) (t : List Int32) : Prop := oA S a 0 6 (sdG t) ∧ (w 0).1 0 = nI (20 * (t.length / 20)) ∧ ∀ i, i < 20 * (t.length / 20) → (w 0).2 0 i = kby (t.getD i 0)
def sdW (a z : Nat) : Prop := z < 191 ∨ z = a
theorem gD_l {t : List Int32} {y : Int32} {i : Nat} (h : i < t.length) : (t ++ [y]).getD i 0 = t.getD i 0 := by
  rw [List.getD_eq_getElem?_getD, List.getD_eq_getElem?_getD, List.getElem?_append_left h]
theorem gD_e {t : List Int32} {y : Int32} : (t ++ [y]).getD t.length 0 = y := by
  rw [List.getD_eq_getElem?_getD, List.getElem?_append_right (Nat.le_refl _), Nat.sub_self]
  rfl
section AD
variable {w : xW} {ext : List xm_PC} {sc : xm_Sc} {d n a : Nat} {r : Nat → Int32} {hs : Nat → Nat → Int32} {sn : Option (Nat → Int32)} {t : List Int32} {y : Int32}
/-- five words made empty again -/
theorem ad_65 (ha : 191 ≤ a) {i2 : Int32} : ∀ m i ext g, i + m = 5 → oA (xL w ext) a 0 6 g → ∃ ext', oA (xL w ext') a 0 6 (fun j => if i ≤ j ∧ j < 5 then 0 else g j) ∧ oF (xL w ext) (xL w ext') 0 (fun z => z = a) ∧ xm_R sc xt_M d 179 65 [.ref 0, .ref a, .int i2, .int (nI i)] [] (xL w ext) = some (.inl none, xL w ext') := by
  intro m
  induction m with
  | zero =>
    intro i ext g hi hA
    refine ⟨ext, hA.cg (fun j hj => if_neg (by omega)), oF.rf, ?_⟩
    rw [yb_179_65, if_pos (show (5 : Int32) ≤ nI i from nI_le (a := 5) (by omega) (by omega))]
  | succ m ih =>
    intro i ext g hi hA
    obtain ⟨S', e1, A1, F1⟩ := hA.wr2 (i := i) (by omega) (by omega) (y := 0)
    obtain ⟨ext1, ex⟩ := oF_to F1 (fun h z => by rw [z]; exact ha)
    subst ex
    obtain ⟨ext2, A2, F2, e2⟩ := ih (i + 1) ext1 _ (by omega) A1
    refine ⟨ext2, A2.cg (fun j hj => ?_), F1.tr F2, ?_⟩
    · show (if i ≤ j ∧ j < 5 then 0 else g j) = if i + 1 ≤ j ∧ j < 5 then 0 else if j = i then 0 else g j
      by_cases c : i = j
      · subst c
        rw [if_pos ⟨Nat.le_refl _, by omega⟩, if_neg (by omega), if_pos rfl]
      · by_cases c2 : i ≤ j ∧ j < 5
        · rw [if_pos c2, if_pos (by omega)]
        · rw [if_neg c2, if_neg (by omega), if_neg (fun z => c z.symm)]
    · rw [yb_179_65, if_neg (show ¬ (5 : Int32) ≤ nI i from nI_ge (b := 5) (by omega) (by omega)), e1, zbs, ← nI_succ]
      exact e2
theorem oc_179 (hI : cI w r n hs sn) (ha : 191 ≤ a) (hS : sdI w (xL w ext) a t) (hl : t.length < 400) (hy : asc y) (ht : ∀ i, i < t.length → asc (t.getD i 0)) : ∃ w' ext', xm_C sc xt_M (d + 4) 179 [.ref 0, .ref a, .int y] (xL w ext) = some (.inl none, xL w' ext') ∧ sdI w' (xL w' ext') a (t ++ [y]) ∧ cI w' r n hs sn ∧ oF (xL w ext) (xL w' ext') 0 (sdW a) := by
  obtain ⟨hA, hb0, hb⟩ := hS
  have el : (t ++ [y]).length = t.length + 1 := List.length_append
  generalize hc : t.length = c at *
  have a5 : xm_aI (xL w ext) a 0 5 = some (nI c) := by
    have z := hA.at (i := 5) (by omega) (by omega)
    rw [show sdG t 5 = nI t.length from if_pos rfl, hc] at z
    exact z
  have aj : xm_aI (xL w ext) a 0 (nI (c % 20 / 4)) = some (pW (fun i => t.getD (20 * (c / 20) + i) 0) (c % 20) (c % 20 / 4)) := by
    have z := hA.at (i := c % 20 / 4) (by omega) (by omega)
    rw [show sdG t (c % 20 / 4) = pW (fun i => t.getD (20 * (t.length / 20) + i) 0) (t.length % 20) (c % 20 / 4) from if_neg (by omega), hc] at z
    exact z
  obtain ⟨S1, e1, A1, F1⟩ := hA.wr2 (i := c % 20 / 4) (by omega) (by omega) (y := pW (fun i => t.getD (20 * (c / 20) + i) 0) (c % 20) (c % 20 / 4) ||| (y <<< (nI (24 - 8 * (c % 4)) &&& 31)))
  have b5 : xm_aI S1 a 0 5 = some (nI c) := by
    have z := A1.at (i := 5) (by omega) (by omega)
    rw [zun (by omega), show sdG t 5 = nI t.length from if_pos rfl, hc] at z
    exact z
  obtain ⟨S2, e2, A2, F2⟩ := A1.wr2 (i := 5) (by omega) (by omega) (y := nI (c + 1))
  have d5 : xm_aI S2 a 0 5 = some (nI (c + 1)) := by
    have z := A2.at (i := 5) (by omega) (by omega)
    rw [zu1] at z
    exact z
  have F12 := F1.tr F2
  obtain ⟨ext2, ex⟩ := oF_to F12 (fun h z => by rw [z]; exact ha)
  subst ex
  -- the words after it
  have hw : ∀ j, j < 6 → upd (upd (sdG t) (c % 20 / 4) (pW (fun i => t.getD (20 * (c / 20) + i) 0) (c % 20) (c % 20 / 4) ||| (y <<< (nI (24 - 8 * (c % 4)) &&& 31)))) 5 (nI (c + 1)) j = if j = 5 then nI (c + 1) else pW (fun i => (t ++ [y]).getD (20 * (c / 20) + i) 0) (c % 20 + 1) j := by
    intro j hj
    by_cases j5 : j = 5
    · subst j5
      rw [zu1, if_pos rfl]
    · rw [zun j5, if_neg j5]
      have cg := @pW_cg (fun i => t.getD (20 * (c / 20) + i) 0) (fun i => (t ++ [y]).getD (20 * (c / 20) + i) 0) (c % 20) (fun i hi => gD_l (by omega)) j
      have ey : (t ++ [y]).getD (20 * (c / 20) + c % 20) 0 = y := by
        rw [show 20 * (c / 20) + c % 20 = t.length by omega]
        exact gD_e
      show _ = if j = c % 20 / 4 then pW (fun i => (t ++ [y]).getD (20 * (c / 20) + i) 0) (c % 20) j ||| ((t ++ [y]).getD (20 * (c / 20) + c % 20) 0 <<< (nI (24 - 8 * (c % 20 % 4)) &&& 31)) else pW (fun i => (t ++ [y]).getD (20 * (c / 20) + i) 0) (c % 20) j
      rw [cg, ey, show c % 20 % 4 = c % 4 by omega]
      by_cases jj : j = c % 20 / 4
      · rw [if_pos jj, jj, zu1]
      · rw [if_neg jj, zun jj]
        show (if j = 5 then nI t.length else pW (fun i => t.getD (20 * (t.length / 20) + i) 0) (t.length % 20) j) = _
        rw [if_neg j5, hc]
  have hst : ∀ K : xm_PS → Option xm_O, ((xm_aI (xL w ext) a 0 5).bind fun n1 => if (20 : Int32) = 0 then none else if (4 : Int32) = 0 then none else (xm_aI (xL w ext) a 0 ((n1 - n1 / 20 * 20) / 4)).bind fun n2 => (xm_aI (xL w ext) a 0 5).bind fun n3 => if (4 : Int32) = 0 then none else (xm_wI (xL w ext) a 0 ((n1 - n1 / 20 * 20) / 4) (n2 ||| (y <<< ((24 - (8 * (n3 - n3 / 4 * 4))) &&& 31)))).bind fun S4 => (xm_aI S4 a 0 5).bind fun n5 => (xm_wI S4 a 0 5 (n5 + 1)).bind K) = K (xL w ext2) := by
    intro K
    rw [a5, zbs, if_neg (by decide), if_neg (by decide), rm_20 (by omega), dv_4 (by omega), aj, zbs, zbs, if_neg (by decide), rm_4 (by omega), sh_24 (c % 4) (by omega), e1, zbs, b5, zbs, ← nI_succ]
    show (xm_wI S1 a 0 (nI 5) (nI (c + 1))).bind K = _
    rw [e2, zbs]
  rw [yc_179, hst, d5, zbs, if_neg (by decide), rm_20 (by omega)]
  by_cases hz : (c + 1) % 20 = 0
  · -- full: feed
    rw [if_pos (by rw [hz, nI_0])]
    have A3 := A2.cg (g' := fun j => if j = 5 then nI (c + 1) else pW (fun i => (t ++ [y]).getD (20 * (c / 20) + i) 0) 20 j) (fun j hj => by
      rw [hw j hj, show c % 20 + 1 = 20 by omega])
    have hby := fun i (hi : i < 20) => @pW_by (fun i => (t ++ [y]).getD (20 * (c / 20) + i) 0) i (fun i hi => by
      show asc ((t ++ [y]).getD (20 * (c / 20) + i) 0)
      by_cases q : 20 * (c / 20) + i < t.length
      · rw [gD_l q]
        exact ht _ (by omega)
      · rw [show 20 * (c / 20) + i = t.length by omega, gD_e]
        exact hy) hi
    generalize pW (fun i => (t ++ [y]).getD (20 * (c / 20) + i) 0) 20 = W5 at *
    have wj : ∀ j, j < 5 → xm_aI (xL w ext2) a 0 (nI j) = some (W5 j) := fun j hj => (A3.at (i := j) (by omega) (by omega)).trans (congrArg some (if_neg (show ¬ j = 5 by omega)))
    have w0 : xm_aI (xL w ext2) a 0 0 = some (W5 0) := wj 0 (by omega)
    have w1 : xm_aI (xL w ext2) a 0 1 = some (W5 1) := wj 1 (by omega)
    have w2 : xm_aI (xL w ext2) a 0 2 = some (W5 2) := wj 2 (by omega)
    have w3 : xm_aI (xL w ext2) a 0 3 = some (W5 3) := wj 3 (by omega)
    have w4 : xm_aI (xL w ext2) a 0 4 = some (W5 4) := wj 4 (by omega)
    obtain ⟨F, ef, hF⟩ := @kd_107 w xl0 0 sc (d + 1) (W5 0) (W5 1) (W5 2) (W5 3) (W5 4) (20 * (c / 20)) (by omega) hb0
    have ef' := xL_C (ext := ext2) ef
    have A4 : oA (xL (kBw w (20 * (c / 20) + 20, F)) ext2) a 0 6 (fun j => if j = 5 then nI (c + 1) else W5 j) := A3.fr oF_xL (fun z => by have : a < 191 := z; omega)
    obtain ⟨ext3, A5, F5, e5⟩ := @ad_65 (kBw w (20 * (c / 20) + 20, F)) sc (d + 3) a ha y 5 0 ext2 _ rfl A4
    rw [nI_0] at e5
    have h20 : 20 * ((c + 1) / 20) = 20 * (c / 20) + 20 := by omega
    refine ⟨_, ext3, ?_, ⟨A5.cg (fun j hj => ?_), ?_, fun i hi => ?_⟩, cI_0 hI (fun i hi => ?_) ⟨20 * (c / 20) + 20, by omega, ?_⟩ ?_, ((F12.mo (Nat.le_refl _) (fun _ _ _ z => Or.inr z)).tr ((oF_xL.mo (Nat.le_refl _) (fun _ _ _ z => Or.inl z)).tr (F5.mo (Nat.le_refl _) (fun _ _ _ z => Or.inr z))))⟩
    · rw [w0, zbs, w1, zbs, w2, zbs, w3, zbs, w4, zbs, if_pos (cI.is w), ef', zbs, xk_I]
      exact e5
    · show (if j = 5 then nI (t ++ [y]).length else pW _ ((t ++ [y]).length % 20) j) = if 0 ≤ j ∧ j < 5 then 0 else if j = 5 then nI (c + 1) else W5 j
      rw [el, hz]
      by_cases j5 : j = 5
      · rw [if_pos j5, if_neg (by omega), if_pos j5]
      · rw [if_neg j5, if_pos (by omega)]
        rfl
    · rw [kBw_c, el, h20]
    · rw [kBw_f]
      rw [el, h20] at hi
      show F i = _
      rw [hF i]
      unfold sp_fd
      by_cases q : 20 * (c / 20) ≤ i
      · rw [if_pos ⟨q, hi⟩]
        refine (hby (i - 20 * (c / 20)) (by omega)).trans ?_
        show kby ((t ++ [y]).getD (20 * (c / 20) + (i - 20 * (c / 20))) 0) = _
        rw [show 20 * (c / 20) + (i - 20 * (c / 20)) = i by omega]
      · rw [if_neg (by omega), hb i (by omega), gD_l (by omega)]
    · show upd (w 0).1 0 (nI (20 * (c / 20) + 20)) i = _
      exact zun (by omega)
    · show upd (w 0).1 0 (nI (20 * (c / 20) + 20)) 0 = _
      exact zu1
    · obtain ⟨q, q1, q2⟩ := hI.2.2.2.2.2
      refine ⟨q, q1, ?_⟩
      show upd (w 0).1 0 (nI (20 * (c / 20) + 20)) 12 = _
      rw [zun (by omega)]
      exact q2
  · rw [if_neg (nI_ne0 (by omega) (by omega))]
    refine ⟨w, ext2, rfl, ⟨A2.cg (fun j hj => ?_), ?_, fun i hi => ?_⟩, hI, F12.mo (Nat.le_refl _) (fun _ _ _ z => Or.inr z)⟩
    · rw [hw j hj]
      show (if j = 5 then nI (t ++ [y]).length else pW (fun i => (t ++ [y]).getD (20 * ((t ++ [y]).length / 20) + i) 0) ((t ++ [y]).length % 20) j) = _
      rw [el, show (c + 1) / 20 = c / 20 by omega, show (c + 1) % 20 = c % 20 + 1 by omega]
    · rw [el, show (c + 1) / 20 = c / 20 by omega]
      exact hb0
    · rw [el, show (c + 1) / 20 = c / 20 by omega] at hi
      rw [hb i hi, gD_l (by omega)]
end AD
