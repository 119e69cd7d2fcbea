/-! THE LAW: isForeseen -/
theorem lg_self (x : Int64) : lg_cmp x x = 0 := by
  unfold lg_cmp
  simp
theorem xsz_cg {w w' : xW} {l l' : Nat → Nat → Int64} : (xcells w l).map xm_sz = (xcells w' l').map xm_sz := by
  have hA : ∀ m m', (xcA m).map xm_sz = (xcA m').map xm_sz := fun _ _ => rfl
  have hP : ∀ h p p', (xcP h p).map xm_sz = (xcP h p').map xm_sz := fun _ _ _ => rfl
  have hB : ∀ m m', (xcB m).map xm_sz = (xcB m').map xm_sz := fun _ _ => rfl
  have hC : ∀ m m', (xcC m).map xm_sz = (xcC m').map xm_sz := fun _ _ => rfl
  have hD : ∀ m m', (xcD m).map xm_sz = (xcD m').map xm_sz := fun _ _ => rfl
  have hS : ∀ h s s', (xcS h s).map xm_sz = (xcS h s').map xm_sz := fun _ _ _ => rfl
  have hM : ∀ m m' l l', (xcM m l).map xm_sz = (xcM m' l').map xm_sz := fun _ _ _ _ => rfl
  unfold xcells xcF
  simp only [List.map_append]
  rw [hA (w 0) (w' 0), hP 1 (w 1) (w' 1), hP 38 (w 2) (w' 2), hB (w 0) (w' 0), hC (w 0) (w' 0), hD (w 0) (w' 0), hM (w 3) (w' 3) l l', hS (xh 0) (w (0 + 5)) (w' (0 + 5)), hS (xh 1) (w (1 + 5)) (w' (1 + 5)), hS (xh 2) (w (2 + 5)) (w' (2 + 5)), hS (xh 3) (w (3 + 5)) (w' (3 + 5)), hS (xh 4) (w (4 + 5)) (w' (4 + 5)), hS (xh 5) (w (5 + 5)) (w' (5 + 5)), hS (xh 6) (w (6 + 5)) (w' (6 + 5)), hS (xh 7) (w (7 + 5)) (w' (7 + 5)), hS (xh 8) (w (8 + 5)) (w' (8 + 5)), hS (xh 9) (w (9 + 5)) (w' (9 + 5)), hS (xh 10) (w (10 + 5)) (w' (10 + 5)), hS (xh 11) (w (11 + 5)) (w' (11 + 5)), hS (xh 12) (w (12 + 5)) (w' (12 + 5))]
/-- the class's cells -/
def oC (z : Nat) : Prop := z < 191
theorem oF_xL {w w' : xW} {ext : List xm_PC} : oF (xL w ext) (xL w' ext) 0 oC := by
  have hl : ∀ w, (xL w ext).2.2.length = 191 + ext.length := fun w => by
    show (xcells w xl0 ++ ext).length = _
    rw [List.length_append, xcells_len]
  refine ⟨⟨rfl, rfl⟩, by rw [hl, hl]; exact Nat.le_refl _, by rw [hl, hl]; exact Nat.le_refl _, ?_, fun h c hc hw => ?_⟩
  · unfold xm_sn xL
    dsimp only
    rw [List.map_append, List.map_append, @xsz_cg w' w xl0 xl0]
    exact Nat.le_add_right _ _
  · have hge : 191 ≤ h := Nat.le_of_not_lt hw
    have e : ∀ w, (xL w ext).2.2[h]? = ext[h - 191]? := fun w => by
      show (xcells w xl0 ++ ext)[h]? = _
      rw [List.getElem?_append_right (by rw [xcells_len]; exact hge), xcells_len]
    rw [e] at hc ⊢
    exact hc
theorem xL_len {w : xW} {ext : List xm_PC} : (xL w ext).2.2.length = 191 + ext.length := by
  show (xcells w xl0 ++ ext).length = _
  rw [List.length_append, xcells_len]
theorem xL_P {w : xW} {ext : List xm_PC} {c : xm_PC} : oP (xL w ext) c = xL w (ext ++ [c]) := by
  show (true, 0, (xcells w xl0 ++ ext) ++ [c]) = (true, 0, xcells w xl0 ++ (ext ++ [c]))
  rw [List.append_assoc]
section FO
variable {w : xW} {ext : List xm_PC} {sc : xm_Sc} {d n : Nat} {r : Nat → Int32} {hs : Nat → Nat → Int32} {sn : Option (Nat → Int32)}
theorem cI_hs {hs' : Nat → Nat → Int32} (hI : cI w r n hs sn) (h : ∀ p, p < n → hs' p = hs p) : cI w r n hs' sn := by
  obtain ⟨a, b, ⟨c1, c2, m, c3, c4, c5⟩, e, f⟩ := hI
  exact ⟨a, b, ⟨c1, c2, m, c3, c4, fun p hp => by rw [h p hp]; exact c5 p hp⟩, e, f⟩
def fT (w : xW) (ext : List xm_PC) (f : Nat → Int32) : xm_PS := xL w (ext ++ [.inl (0, 9, .inl f)])
theorem fT_A {f : Nat → Int32} : oA (fT w ext f) (191 + ext.length) 0 9 f := by
  refine ⟨f, ?_, fun _ _ => rfl⟩
  unfold fT
  rw [← xL_P, ← xL_len (w := w)]
  exact oP_at
theorem fT_w {f : Nat → Int32} {i : Nat} {y : Int32} (hi : i < 9) : xm_wI (fT w ext f) (191 + ext.length) 0 (nI i) y = some (fT w ext (upd f i y)) := by
  obtain ⟨f0, c, hf, ew⟩ := (@fT_A w ext f).wr hi (by omega) (y := y)
  have e0 : f0 = f := by
    unfold fT at c
    rw [← xL_P, ← xL_len (w := w), oP_at] at c
    cases c
    rfl
  rw [ew, e0]
  unfold fT
  rw [← xL_P, ← xL_P, ← xL_len (w := w), oP_set]
theorem oc_188 (hI : cI w r n hs sn) (hn : n < 10) (hS : rS r) {c k t : Nat} (hc : r 4 = nI c) (hc2 : c < 9000) (hk : k < xnk r) (ht : 0 < t) (ht2 : t ≤ 30) :
    ∃ w' f, xm_C sc xt_M (d + 8) 188 [.ref 0, .int (nI k), .int (nI t)] (xL w ext) = some (.inl (some (.int 1)), fT w' ext f) ∧ cI w' r n hs sn := by
  have hW := hI.W
  have hk20 := hW.bd.k20
  generalize hu : (((r, fun _ => -1, fun _ => 0, 0) : xU)) = u
  have u1 : u.1 = r := by rw [← hu]
  have u0 : u.2.2.2 = nI 0 := by rw [← hu]; exact nI_0.symm
  have eu : (u.1, u.2.1, u.2.2.1, (0 : Int32)) = u := by rw [← hu]
  have hWu : xWF u.1 := by rw [u1]; exact hW
  have hcu : u.1 4 = nI c := by rw [u1]; exact hc
  have hku : k < xnk u.1 := by rw [u1]; exact hk
  have hbk : sp_bk u.1 (nI k) := by
    unfold sp_bk
    rw [hWu.bd.k]
    exact zrg' (by rw [u1]; omega) hku
  obtain ⟨g1, g2, x, g3, g4⟩ := @rS_us u c 0 hWu hcu u0 (by rw [u1]; exact hS) t (by omega)
  obtain ⟨h1, h2, h3⟩ := @sp_us_ok u c hWu hcu t (by omega)
  have tn : (nI t).toNatClampNeg = t := nI_clamp (by omega)
  have kn : (nI k).toNatClampNeg = k := nI_clamp (by omega)
  -- what is foreseen
  have eB : ∀ i, i < 9 → sp_bookIn u (nI k) (nI i) (nI t) = (0, (sp_num (sp_us u t).2.1 (sp_us u t).1 k (nI i)).1) := by
    intro i hi
    unfold sp_bookIn
    rw [if_pos hbk, if_pos ⟨nI_pos' (by omega), nI_le (b := 8) (by omega) (by omega)⟩, if_pos ⟨nI_pos' (by omega), nI_le (b := 200) (by omega) (by omega)⟩, tn, kn]
  have eU : sp_until u 0 (nI k) 0 = (0, toJ (xfst (fun n => sp_cnd 0 0 (sp_us u n).1 k) 0 201)) := by
    unfold sp_until
    rw [if_pos hbk, kn]
  have eR : sp_run u (nI t) = (0, nI x, some (sp_us u t).1) := by
    unfold sp_run
    rw [if_pos ⟨nI_le (a := 1) (by omega) (by omega), nI_le (b := 99) (by omega) (by omega)⟩, if_pos (by rw [hcu, zA]; exact nI_le (b := 9999) (by omega) (by omega)), eu, tn, g4]
  have hx : x < 2 ^ 31 := by
    have h20 : t * xnk u.1 ≤ 30 * 20 := Nat.mul_le_mul ht2 (by rw [u1]; exact hk20)
    exact Nat.lt_of_le_of_lt g3 (Nat.lt_of_le_of_lt (Nat.add_le_add_left h20 0) (by decide))
  generalize hr1 : (sp_us u t).1 = r1 at *
  have hk1 : k < xnk r1 := by rw [g2]; exact hku
  have eq9 : ∀ i, i < 9 → (sp_num (sp_us u t).2.1 r1 k (nI i)).1 = (sp_num (fun _ => -1) r1 k (nI i)).1 := by
    intro i hi
    have h9 : i = 0 ∨ i = 1 ∨ i = 2 ∨ i = 3 ∨ i = 4 ∨ i = 5 ∨ i = 6 ∨ i = 7 ∨ i = 8 := by omega
    rcases h9 with e | e | e | e | e | e | e | e | e <;> subst e
    · rfl
    · rfl
    · rfl
    · rfl
    · rfl
    · rfl
    · rfl
    · rfl
    · exact (kLL_eq (f := (sp_us u t).2.1) h1 hk1).trans (kLL_eq (f := fun _ => -1) h1 hk1).symm
  -- the loop that foresees
  have lp : ∀ m i w f v7 v8, i + m = 9 → cI w r n hs sn → (∀ j, j < i → f j = (sp_num (fun _ => -1) r1 k (nI j)).1) → ∃ w' f', cI w' r n hs sn ∧ (∀ j, j < 9 → f' j = (sp_num (fun _ => -1) r1 k (nI j)).1) ∧
      xm_R sc xt_M (d + 7) 188 14 [.ref 0, .int (nI k), .int (nI t), .long (aAll r), .null, .ref (191 + ext.length), .int (nI i), v7, v8] [] (fT w ext f) = xm_R sc xt_M (d + 7) 188 14 [.ref 0, .int (nI k), .int (nI t), .long (aAll r), .null, .ref (191 + ext.length), .int (nI 9), v7, v8] [] (fT w' ext f') := by
    intro m
    induction m with
    | zero =>
      intro i w f v7 v8 hi hJ hf
      rw [show i = 9 by omega]
      exact ⟨w, f, hJ, fun j hj => hf j (by omega), rfl⟩
    | succ m ih =>
      intro i w f v7 v8 hi hJ hf
      have hJu : cI w u.1 n hs sn := by rw [u1]; exact hJ
      obtain ⟨w1, e1, hJ1⟩ := @la_126 w (ext ++ [.inl (0, 9, .inl f)]) sc d n hs sn u (nI k) (nI i) (nI t) hJu (by rw [eB i (by omega)])
      rw [eB i (by omega)] at e1
      rw [u1] at hJ1
      obtain ⟨w2, f2, q1, q2, q3⟩ := ih (i + 1) w1 (upd f i (sp_num (fun _ => -1) r1 k (nI i)).1) v7 v8 (by omega) hJ1 (fun j hj => by
        show (if j = i then _ else f j) = _
        by_cases ej : j = i
        · subst ej; rw [if_pos rfl]
        · rw [if_neg ej]; exact hf j (by omega))
      refine ⟨w2, f2, q1, q2, ?_⟩
      rw [yb_188_14 (i6 := nI i), if_neg (show ¬ (9 : Int32) ≤ nI i from nI_ge (b := 9) (by omega) (by omega)), if_pos (show xm_isO (fT w ext f) (.ref 0) 7 = true from cI.is w)]
      show ((xm_C sc xt_M (d + 7) 126 [.ref 0, .int (nI k), .int (nI i), .int (nI t)] (xL w (ext ++ [.inl (0, 9, .inl f)]))).bind _) = _
      rw [e1, zbs, xk_I]
      show ((xm_wI (fT w1 ext f) (191 + ext.length) 0 (nI i) (sp_num (sp_us u t).2.1 r1 k (nI i)).1).bind _) = _
      rw [fT_w (by omega), zbs, ← nI_succ, eq9 i (by omega)]
      exact q3
  -- what came
  have lq : ∀ m i w f (n3 : Int32) n' hs', i + m = 9 → cI w r1 n' hs' sn → (∀ j, j < 9 → f j = (sp_num (fun _ => -1) r1 k (nI j)).1) →
      xm_R sc xt_M (d + 7) 188 75 [.ref 0, .int (nI k), .int (nI t), .long (aAll r), .null, .ref (191 + ext.length), .int n3, .int (nI x), .int (nI i)] [] (fT w ext f) = xm_R sc xt_M (d + 7) 188 75 [.ref 0, .int (nI k), .int (nI t), .long (aAll r), .null, .ref (191 + ext.length), .int n3, .int (nI x), .int (nI 9)] [] (fT w ext f) := by
    intro m
    induction m with
    | zero => intro i w f n3 n' hs' hi _ _; rw [show i = 9 by omega]
    | succ m ih =>
      intro i w f n3 n' hs' hi hJ hf
      have e1 := @lz_112 w (ext ++ [.inl (0, 9, .inl f)]) sc (d + 1) n' r1 hs' sn hJ k i hk1 (by omega)
      rw [yb_188_75 (i8 := nI i), if_neg (show ¬ (9 : Int32) ≤ nI i from nI_ge (b := 9) (by omega) (by omega)), if_pos (show xm_isO (fT w ext f) (.ref 0) 7 = true from cI.is w)]
      show ((xm_C sc xt_M (d + 7) 112 [.ref 0, .int (nI k), .int (nI i)] (xL w (ext ++ [.inl (0, 9, .inl f)]))).bind _) = _
      rw [e1, zbs, xk_I]
      show ((xm_aI (fT w ext f) (191 + ext.length) 0 (nI i)).bind _) = _
      rw [fT_A.at (by omega) (by omega), zbs, hf i (by omega), if_pos rfl, ← nI_succ]
      exact ih (i + 1) w f n3 n' hs' (by omega) hJ hf
  -- from the start
  have all0 := @oc_186 w ext sc d n r hs sn hI
  have hp : xL w ext = xL w ext := rfl
  obtain ⟨w1, f1, q1, q2, q3⟩ := lp 9 0 w (fun _ => 0) .null .null (Nat.zero_add _) hI (fun j hj => absurd hj (Nat.not_lt_zero j))
  have q1u : cI w1 u.1 n hs sn := by rw [u1]; exact q1
  obtain ⟨w2, e2, J2⟩ := @la_124 w1 (ext ++ [.inl (0, 9, .inl f1)]) sc d n hs sn u (nI k) q1u (by rw [eU])
  rw [eU] at e2
  rw [u1] at J2
  have all2 := @oc_186 w2 (ext ++ [.inl (0, 9, .inl f1)]) sc d n r hs sn J2
  have J2u : cI w2 u.1 n hs sn := by rw [u1]; exact J2
  have e3 := @la_144 w2 (ext ++ [.inl (0, 9, .inl f1)]) sc d n hs sn u (nI t) J2u (by rw [eR])
  rw [eR] at e3
  obtain ⟨w3, e4, J3, -⟩ := (show ∃ w', xm_C sc xt_M (d + 7) 144 [.ref 0, .int (nI t)] (xL w2 (ext ++ [.inl (0, 9, .inl f1)])) = some (.inl (some (.int (nI x))), xL w' (ext ++ [.inl (0, 9, .inl f1)])) ∧ cI w' r1 (cN n) (cPush n hs u.1) sn ∧ xnb r1 = xnb u.1 ∧ xnv r1 = xnv u.1 ∧ xnk r1 = xnk u.1 from e3)
  rw [u1, show cN n = n + 1 from if_neg (by omega)] at J3
  have sound := @oc_187 w3 (ext ++ [.inl (0, 9, .inl f1)]) sc d (n + 1) r1 _ sn J3 g1
  obtain ⟨w4, e5, J4⟩ := @la_148 w3 (ext ++ [.inl (0, 9, .inl f1)]) sc (d + 3) n r1 _ sn J3
  have top : cPush n hs r n = r := by
    unfold cPush
    rw [if_neg (show ¬ n = 10 by omega), if_pos rfl]
  rw [top] at J4
  have all4 := @oc_186 w4 (ext ++ [.inl (0, 9, .inl f1)]) sc d n r _ sn J4
  refine ⟨w4, f1, ?_, cI_hs J4 (fun p hp => ?_)⟩
  · rw [nI_0] at q3
    rw [yc_188, all0, zbs, xk_L, if_neg (by decide), if_pos (by decide), oP_eq (S := xL w ext) rfl rfl]
    show xm_R sc xt_M (d + 7) 188 14 [.ref 0, .int (nI k), .int (nI t), .long (aAll r), .null, .ref (xL w ext).2.2.length, .int 0, .null, .null] [] (oP (xL w ext) (.inl (0, 9, .inl fun _ => 0))) = _
    rw [xL_P, xL_len]
    refine (show _ = _ from q3).trans ?_
    rw [yb_188_14, if_pos (show (9 : Int32) ≤ nI 9 by decide), if_pos (show xm_isO (fT w1 ext f1) (.ref 0) 7 = true from cI.is w1)]
    show ((xm_C sc xt_M (d + 7) 124 [.ref 0, .int (nI k)] (xL w1 (ext ++ [.inl (0, 9, .inl f1)]))).bind _) = _
    rw [e2, zbs, xk_I, all2, zbs, xk_L, lg_self, if_pos rfl, if_pos (cI.is w2), e4, zbs, xk_I, if_pos (nI_pos' hx)]
    have z := lq 9 0 w3 f1 (toJ (xfst (fun n => sp_cnd 0 0 (sp_us u n).1 k) 0 201)) (n + 1) _ (Nat.zero_add _) J3 q2
    rw [nI_0] at z
    refine (show _ = _ from z).trans ?_
    have tail : ∀ (a b c : Int32), xm_R sc xt_M (d + 7) 188 147 [.ref 0, .int (nI k), .int (nI t), .long (aAll r), .null, .ref (191 + ext.length), .int a, .int b, .int c] [] (fT w3 ext f1) = some (.inl (some (.int 1)), fT w4 ext f1) := by
      intro a b c
      rw [yb_188_147]
      show ((xm_C sc xt_M (d + 7) 187 [.ref 0] (xL w3 (ext ++ [.inl (0, 9, .inl f1)]))).bind _) = _
      rw [sound, zbs, xk_I, if_neg (by decide), if_pos (cI.is w3), e5, zbs, xk_I, if_neg (nI_pos (by omega)), all4, zbs, xk_L, lg_self, if_pos rfl]
      rfl
    rw [yb_188_75, if_pos (show (9 : Int32) ≤ nI 9 by decide)]
    by_cases c1 : toJ (xfst (fun n => sp_cnd 0 0 (sp_us u n).1 k) 0 201) = nI t
    · have harr : sp_arr r1 k := by
        cases e : xfst (fun n => sp_cnd 0 0 (sp_us u n).1 k) 0 201 with
        | none =>
          rw [e] at c1
          exact absurd c1.symm (toJ_ne (by omega))
        | some m =>
          rw [e] at c1
          obtain ⟨m1, -, m2, -⟩ := xfst_some e
          have em : m = t := nI_inj (by omega) (by omega) c1
          subst em
          rcases m1 with z | z
          · rw [← hr1]; exact z.2
          · exact absurd rfl z.1
      have n0 := @lz_112 w3 (ext ++ [.inl (0, 9, .inl f1)]) sc (d + 1) (n + 1) r1 _ sn J3 k 0 hk1 (by omega)
      rw [nI_0, show (sp_num (fun _ => -1) r1 k 0).1 = r1 (56 + 6 * k) from rfl] at n0
      have n3 := @lz_112 w3 (ext ++ [.inl (0, 9, .inl f1)]) sc (d + 1) (n + 1) r1 _ sn J3 k 3 hk1 (by omega)
      rw [o3I, show (sp_num (fun _ => -1) r1 k 3).1 = sp_goal r1 k from rfl] at n3
      have n1 := @lz_112 w3 (ext ++ [.inl (0, 9, .inl f1)]) sc (d + 1) (n + 1) r1 _ sn J3 k 1 hk1 (by omega)
      rw [o1I, show (sp_num (fun _ => -1) r1 k 1).1 = r1 (57 + 6 * k) from rfl] at n1
      rw [if_pos c1, if_pos (show xm_isO (fT w3 ext f1) (.ref 0) 7 = true from cI.is w3)]
      show ((xm_C sc xt_M (d + 7) 112 [.ref 0, .int (nI k), .int 0] (xL w3 (ext ++ [.inl (0, 9, .inl f1)]))).bind _) = _
      rw [n0, zbs, xk_I]
      by_cases c2 : r1 (56 + 6 * k) = 2
      · rw [if_pos c2]
        exact tail _ _ _
      · rcases harr with z | ⟨z0, z1⟩
        · exact absurd z c2
        · rw [if_neg c2, if_pos (cI.is w3), n0, zbs, xk_I, if_pos z0, if_pos (cI.is w3), n3, zbs, xk_I, if_pos (cI.is w3), n1, zbs, xk_I, if_pos z1]
          exact tail _ _ _
    · rw [if_neg c1]
      exact tail _ _ _
  · unfold cPush
    rw [if_neg (show ¬ n = 10 by omega), if_neg (by omega), if_neg (show ¬ n = 10 by omega)]
end FO
