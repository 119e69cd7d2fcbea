/-! THE LAW: say2 of a constant and of a made text; end -/
section SY
variable {sc : xm_Sc} {d n a k : Nat} {r : Nat → Int32} {hs : Nat → Nat → Int32} {sn : Option (Nat → Int32)}
def sdT (t : List Int32) : Prop := t.length ≤ 380 ∧ ∀ i, i < t.length → asc (t.getD i 0)
theorem take_s {t : List Int32} {i : Nat} (h : i < t.length) : t.take (i + 1) = t.take i ++ [t.getD i 0] := by
  rw [List.take_succ, List.getD_eq_getElem?_getD, List.getElem?_eq_getElem h]
  rfl
theorem take_g {t : List Int32} {i j : Nat} (h : j < i) : (t.take i).getD j 0 = t.getD j 0 := by
  rw [List.getD_eq_getElem?_getD, List.getD_eq_getElem?_getD, List.getElem?_take_of_lt h]
theorem sdW_t {a z : Nat} (h : sdW a z) : sdW a z := h
/-- one more of the text's characters -/
theorem sy_1 (ha : 191 ≤ a) {t : List Int32} (hT : sdT t) {i : Nat} (hi : i < t.length) {w : xW} {ext : List xm_PC} (hI : cI w r n hs sn) (hS : sdI w (xL w ext) a (t.take i)) : ∃ w' ext', xm_C sc xt_M (d + 4) 179 [.ref 0, .ref a, .int (t.getD i 0)] (xL w ext) = some (.inl none, xL w' ext') ∧ sdI w' (xL w' ext') a (t.take (i + 1)) ∧ cI w' r n hs sn ∧ oF (xL w ext) (xL w' ext') 0 (sdW a) := by
  obtain ⟨h1, h2⟩ := hT
  have el : (t.take i).length = i := by rw [List.length_take]; omega
  rw [take_s hi]
  exact oc_179 hI ha hS (by omega) (h2 i hi) (fun j hj => by
    rw [el] at hj
    rw [take_g hj]
    exact h2 j (by omega))
/-- a constant, said from its start -/
theorem sy_181 (ha : 191 ≤ a) (hk : k < 26) (hT : sdT (xm_str k)) {w : xW} {ext : List xm_PC} (hI : cI w r n hs sn) (hS : sdI w (xL w ext) a []) : ∃ w' ext', xm_C sc xt_M (d + 6) 181 [.ref 0, .ref a, .retAddr k] (xL w ext) = some (.inl none, xL w' ext') ∧ sdI w' (xL w' ext') a (xm_str k) ∧ cI w' r n hs sn ∧ oF (xL w ext) (xL w' ext') 0 (sdW a) := by
  obtain ⟨h1, h2⟩ := id hT
  have lp : ∀ m i w ext, i + m = (xm_str k).length → cI w r n hs sn → sdI w (xL w ext) a ((xm_str k).take i) → ∃ w' ext', xm_R sc xt_M (d + 5) 181 2 [.ref 0, .ref a, .retAddr k, .int (nI i)] [] (xL w ext) = some (.inl none, xL w' ext') ∧ sdI w' (xL w' ext') a (xm_str k) ∧ cI w' r n hs sn ∧ oF (xL w ext) (xL w' ext') 0 (sdW a) := by
    intro m
    induction m with
    | zero =>
      intro i w ext hi hI hS
      have e : i = (xm_str k).length := by omega
      subst e
      refine ⟨w, ext, ?_, by rw [List.take_length] at hS; exact hS, hI, oF.rf⟩
      have hlk : (xm_str k).length < 2 ^ 31 := by omega
      rw [yb_181_2 (by omega), if_pos (xiK hk), ze_194 hk, zbs, xk_I, if_pos (show nI (sp_ln k) ≤ nI (xm_str k).length from nI_le (Nat.le_refl _) hlk)]
    | succ m ih =>
      intro i w ext hi hI hS
      have hi' : i < (xm_str k).length := by omega
      obtain ⟨w1, ext1, e1, S1, I1, F1⟩ := @sy_1 sc (d + 1) n a r hs sn ha (xm_str k) hT i hi' w ext hI hS
      obtain ⟨w2, ext2, e2, S2, I2, F2⟩ := ih (i + 1) w1 ext1 (by omega) I1 S1
      refine ⟨w2, ext2, ?_, S2, I2, F1.tr F2⟩
      have ech : sp_ch k i = (xm_str k).getD i 0 := by
        obtain ⟨b, hb, eb⟩ := h2 i hi'
        unfold sp_ch
        rw [eb]
        exact (asc_c b hb).1
      rw [yb_181_2 (by omega), if_pos (xiK hk), ze_194 hk, zbs, xk_I, if_neg (nI_ge hi' (by omega)), if_pos (xiK hk), ze_195 hk hi', zbs, xk_I, ech, e1, zbs, xk_v, ← nI_succ]
      exact e2
  obtain ⟨w', ext', e, rest⟩ := lp (xm_str k).length 0 w ext (Nat.zero_add _) hI hS
  refine ⟨w', ext', ?_, rest⟩
  rw [nI_0] at e
  rw [yc_181 (by omega)]
  exact e
/-- a made text, said from its start -/
theorem sy_181R (ha : 191 ≤ a) {t : List Int32} (hT : sdT t) {s qs : Nat} (hs1 : 191 ≤ s) (hs2 : 191 ≤ qs) {w : xW} {ext : List xm_PC} (hst : stI (xL w ext) s qs t) (hI : cI w r n hs sn) (hS : sdI w (xL w ext) a []) : ∃ w' ext', xm_C sc xt_M (d + 6) 181 [.ref 0, .ref a, .ref s] (xL w ext) = some (.inl none, xL w' ext') ∧ sdI w' (xL w' ext') a t ∧ cI w' r n hs sn ∧ oF (xL w ext) (xL w' ext') 0 (sdW a) := by
  obtain ⟨h1, h2⟩ := id hT
  have nsa : s ≠ a := by
    obtain ⟨⟨m1, m2, b'⟩, -⟩ := hst
    obtain ⟨⟨f, b, -⟩, -⟩ := hS
    exact oK_ne b' b (by show 110 ≠ 0; decide)
  have nqa : qs ≠ a := by
    obtain ⟨-, g, b', -⟩ := hst
    obtain ⟨⟨f, b, -⟩, -⟩ := hS
    exact oK_ne b' b (by show 1 ≠ 0; decide)
  have lp : ∀ m i w ext, i + m = t.length → stI (xL w ext) s qs t → cI w r n hs sn → sdI w (xL w ext) a (t.take i) → ∃ w' ext', xm_R sc xt_M (d + 5) 181 2 [.ref 0, .ref a, .ref s, .int (nI i)] [] (xL w ext) = some (.inl none, xL w' ext') ∧ sdI w' (xL w' ext') a t ∧ cI w' r n hs sn ∧ oF (xL w ext) (xL w' ext') 0 (sdW a) := by
    intro m
    induction m with
    | zero =>
      intro i w ext hi hst hI hS
      have e : i = t.length := by omega
      subst e
      refine ⟨w, ext, ?_, by rw [List.take_length] at hS; exact hS, hI, oF.rf⟩
      rw [yb_181R_2, if_pos hst.is, ms_194 hst, zbs, xk_I, if_pos (nI_le (Nat.le_refl _) (by omega))]
    | succ m ih =>
      intro i w ext hi hst hI hS
      have hi' : i < t.length := by omega
      obtain ⟨w1, ext1, e1, S1, I1, F1⟩ := @sy_1 sc (d + 1) n a r hs sn ha t hT i hi' w ext hI hS
      have st1 := hst.fr F1 (fun z => by rcases z with z | z <;> omega) (fun z => by rcases z with z | z <;> omega)
      obtain ⟨w2, ext2, e2, S2, I2, F2⟩ := ih (i + 1) w1 ext1 (by omega) st1 I1 S1
      refine ⟨w2, ext2, ?_, S2, I2, F1.tr F2⟩
      rw [yb_181R_2, if_pos hst.is, ms_194 hst, zbs, xk_I, if_neg (nI_ge hi' (by omega)), if_pos hst.is, ms_195 hst hi' (by omega) (h2 i hi'), zbs, xk_I, e1, zbs, xk_v, ← nI_succ]
      exact e2
  obtain ⟨w', ext', e, rest⟩ := lp t.length 0 w ext (Nat.zero_add _) hst hI hS
  refine ⟨w', ext', ?_, rest⟩
  rw [nI_0] at e
  rw [yc_181R]
  exact e
/-- what was said is whole: the buffer holds it, the array is empty again -/
def sdE (w : xW) (S : xm_PS) (a : Nat) (t : List Int32) : Prop := oA S a 0 6 (fun _ => 0) ∧ (∃ c, t.length ≤ c ∧ c ≤ 800 ∧ (w 0).1 0 = nI c) ∧ ∀ i, i < t.length → (w 0).2 0 i = kby (t.getD i 0)
theorem asc_32 : asc 32 := ⟨32, by omega, by decide⟩
theorem sy_180 (ha : 191 ≤ a) {t : List Int32} (hT : sdT t) {w : xW} {ext : List xm_PC} (hI : cI w r n hs sn) (hS : sdI w (xL w ext) a t) : ∃ w' ext', xm_C sc xt_M (d + 6) 180 [.ref 0, .ref a] (xL w ext) = some (.inl (some (.int (nI t.length))), xL w' ext') ∧ sdE w' (xL w' ext') a t ∧ cI w' r n hs sn ∧ oF (xL w ext) (xL w' ext') 0 (sdW a) := by
  obtain ⟨h1, h2⟩ := id hT
  have lp : ∀ m u w ext, m ≤ 19 → t.length ≤ u.length → u.length ≤ t.length + (19 - m) → (u.length + m) % 20 = 0 → (∀ i, i < t.length → u.getD i 0 = t.getD i 0) → (∀ i, i < u.length → asc (u.getD i 0)) → cI w r n hs sn → sdI w (xL w ext) a u → ∃ w' ext', xm_R sc xt_M (d + 5) 180 4 [.ref 0, .ref a, .int (nI t.length)] [] (xL w ext) = some (.inl (some (.int (nI t.length))), xL w' ext') ∧ sdE w' (xL w' ext') a t ∧ cI w' r n hs sn ∧ oF (xL w ext) (xL w' ext') 0 (sdW a) := by
    intro m
    induction m with
    | zero =>
      intro u w ext _ k1 k2 k3 k4 k5 hI hS
      obtain ⟨hA, hb0, hb⟩ := hS
      have a5 : xm_aI (xL w ext) a 0 5 = some (nI u.length) := by
        have z := hA.at (i := 5) (by omega) (by omega)
        rw [show sdG u 5 = nI u.length from if_pos rfl] at z
        exact z
      obtain ⟨S1, e1, A1, F1⟩ := hA.wr2 (i := 5) (by omega) (by omega) (y := 0)
      obtain ⟨ext1, ex⟩ := oF_to F1 (fun h z => by rw [z]; exact ha)
      subst ex
      have k3' : u.length % 20 = 0 := k3
      refine ⟨w, ext1, ?_, ⟨A1.cg (fun j hj => ?_), ⟨u.length, k1, by omega, ?_⟩, fun i hi => ?_⟩, hI, F1.mo (Nat.le_refl _) (fun _ _ _ z => Or.inr z)⟩
      · have e1' : xm_wI (xL w ext) a 0 5 0 = some (xL w ext1) := e1
        rw [yb_180_4, a5, zbs, if_neg (by decide), rm_20 (by omega), if_pos (by rw [k3', nI_0]), e1', zbs]
      · show (0 : Int32) = if j = 5 then 0 else if j = 5 then nI u.length else pW _ (u.length % 20) j
        by_cases j5 : j = 5
        · rw [if_pos j5]
        · rw [if_neg j5, if_neg j5, k3']
          rfl
      · rw [hb0]
        congr 1
        omega
      · rw [hb i (by omega), k4 i hi]
    | succ m ih =>
      intro u w ext hm k1 k2 k3 k4 k5 hI hS
      have a5 : xm_aI (xL w ext) a 0 5 = some (nI u.length) := by
        have z := hS.1.at (i := 5) (by omega) (by omega)
        rw [show sdG u 5 = nI u.length from if_pos rfl] at z
        exact z
      obtain ⟨w1, ext1, e1, S1, I1, F1⟩ := @oc_179 w ext sc (d + 1) n a r hs sn u 32 hI ha hS (by omega) asc_32 k5
      have el : (u ++ [(32 : Int32)]).length = u.length + 1 := List.length_append
      obtain ⟨w2, ext2, e2, S2, I2, F2⟩ := ih (u ++ [32]) w1 ext1 (by omega) (by omega) (by omega) (by rw [el]; omega) (fun i hi => by rw [gD_l (by omega)]; exact k4 i hi) (fun i hi => by
        by_cases q : i < u.length
        · rw [gD_l q]; exact k5 i q
        · rw [show i = u.length by omega, gD_e]; exact asc_32) I1 S1
      refine ⟨w2, ext2, ?_, S2, I2, F1.tr F2⟩
      rw [yb_180_4, a5, zbs, if_neg (by decide), rm_20 (by omega), if_neg (nI_ne0 (by omega) (by omega)), e1, zbs, xk_v]
      exact e2
  have a5 : xm_aI (xL w ext) a 0 5 = some (nI t.length) := by
    have z := hS.1.at (i := 5) (by omega) (by omega)
    rw [show sdG t 5 = nI t.length from if_pos rfl] at z
    exact z
  have hm : ∃ m, m ≤ 19 ∧ (t.length + m) % 20 = 0 := ⟨(20 - t.length % 20) % 20, by omega, by omega⟩
  obtain ⟨m, hm1, hm2⟩ := hm
  obtain ⟨w', ext', e, rest⟩ := lp m t w ext hm1 (Nat.le_refl _) (by omega) hm2 (fun _ _ => rfl) h2 hI hS
  refine ⟨w', ext', ?_, rest⟩
  rw [yc_180, a5, zbs]
  exact e
end SY
