/-! TELL: the requests -/
section TA
variable {S0 T : xm_PS} {sc : xm_Sc} {d a p q m : Nat} {L : Nat → Nat} {r : Nat → Int32} {x : Int32} {t : List Int32} {b nk : Nat}
theorem e15s : xm_str 15 = xm_str 5 ++ [32] := by decide +kernel
theorem tq_204 (hJ : txJ S0 T p q t m) (hI : oI T L r x) {y : Int32} (hy : asc y) (ht : t.length < 400) : ∃ T' q', xm_C sc xt_M (d + 9) 204 [.ref p, .int y] T = some (.inl (some (.ref p)), T') ∧ txJ S0 T' p q' (t ++ [y]) (m + 20) ∧ oI T' L r x := by
  obtain ⟨cap, hb⟩ := hJ.1
  obtain ⟨T', q', cap', e, M⟩ := @sb_204 T sc (d + 4) p q cap t hb y hy ht
  exact ⟨T', q', e, txJ_s hJ M, hI.sb hb M.2.1⟩
theorem tq_205 (hJ : txJ S0 T p q t m) (hI : oI T L r x) {y : Nat} (hy : y < 10) (ht : t.length < 400) : ∃ T' q', xm_C sc xt_M (d + 9) 205 [.ref p, .int (nI y)] T = some (.inl (some (.ref p)), T') ∧ txJ S0 T' p q' (t ++ [nI (48 + y)]) (m + 20) ∧ oI T' L r x := by
  obtain ⟨cap, hb⟩ := hJ.1
  obtain ⟨T', q', cap', e, M⟩ := @sb_205 T sc (d + 4) p q cap t hb y hy ht
  exact ⟨T', q', e, txJ_s hJ M, hI.sb hb M.2.1⟩
theorem tq_203 (hJ : txJ S0 T p q t m) (hI : oI T L r x) {k : Nat} (hk : k < 25) (ht : t.length < 360) : ∃ T' q', xm_C sc xt_M (d + 9) 203 [.ref p, .retAddr k] T = some (.inl (some (.ref p)), T') ∧ txJ S0 T' p q' (t ++ xm_str k) (m + 20) ∧ oI T' L r x := by
  obtain ⟨cap, hb⟩ := hJ.1
  have hl := str_l k hk
  obtain ⟨T', q', cap', e, M⟩ := @sb_203 T sc (d + 4) p q cap k t hb (by omega) (str_a (by omega)) (by omega)
  exact ⟨T', q', e, txJ_s hJ M, hI.sb hb M.2.1⟩
/-- the picture's own writes leave the builder -/
theorem txJ.ow {T' : xm_PS} {n m' : Nat} (hJ : txJ S0 T p q t m) (hI : oI T L r x) (hF : oF T T' m' (oW L n)) (hn : n ≤ xnk r) (hL : ∀ a, S0.2.2.length ≤ L a) : txJ S0 T' p q t (m + m') := by
  have key : ∀ z c, T.2.2[z]? = some c → (oK c = 111 ∨ oK c = 1) → ¬ oW L n z := by
    intro z c hc hk hz
    rcases hz with e | e | e | ⟨k, hkn, e⟩
    · exact oK_ne hc hI.e (by rcases hk with h | h <;> rw [h] <;> show _ ≠ 108 <;> decide) e
    · obtain ⟨f, hf, -⟩ := hI.op
      exact oK_ne hc hf (by rcases hk with h | h <;> rw [h] <;> show _ ≠ 3 <;> decide) e
    · obtain ⟨f, hf, -⟩ := hI.ats
      exact oK_ne hc hf (by rcases hk with h | h <;> rw [h] <;> show _ ≠ 0 <;> decide) e
    · exact oK_ne hc (hI.th (show k < xnk r by omega)) (by rcases hk with h | h <;> rw [h] <;> show _ ≠ 109 <;> decide) e
  refine hJ.ot hF (fun z hz => ?_) (fun c hc hk => key p c hc (Or.inl hk)) (fun c hc hk => key q c hc (Or.inr hk))
  rcases hz with e | e | e | ⟨k, _, e⟩ <;> rw [e] <;> exact hL _
theorem t_ask {i : Nat} {cv i7 : Int32} {v11 v12 v13 v14 v15 v16 : Value} (hs : sc.1 ≤ 260) (hi : i < 5) (hb : 2 ≤ b ∧ b ≤ 6) (hnk : 1 ≤ nk ∧ nk ≤ 5) (hW : xWF r) (eb : xnb r = b) (ek : xnk r = nk) (hq : xnq r ≤ i) (hI : oI T L r 0) (hJ : txJ S0 T p q t m) (hL : ∀ a, S0.2.2.length ≤ L a) (ht : t.length ≤ 140 + 10 * i) :
    ∃ (Q : List (Nat × Nat × Nat)) (T' : xm_PS) (L' : Nat → Nat) (q' m' : Nat) (y11 y12 y13 y14 y15 y16 : Value), (Q.length ≤ 1 ∧ akG r Q) ∧ oI T' L' (Q.foldl aAsk r) 0 ∧ txJ S0 T' p q' (t ++ Q.flatMap tAsk) m' ∧ m' ≤ m + 150 ∧ (∀ a, S0.2.2.length ≤ L' a) ∧ L' 0 = L 0 ∧ xWF (Q.foldl aAsk r) ∧ xnb (Q.foldl aAsk r) = b ∧ xnk (Q.foldl aAsk r) = nk ∧ xnq (Q.foldl aAsk r) ≤ i + 1 ∧
      xm_R sc xt_M (d + 9) 182 549 [.ref 0, .ref a, .retAddr 5000, .int 0, .ref (L 0), .int cv, .int (nI b), .int i7, .ref p, .int (nI nk), .int (nI i), v11, v12, v13, v14, v15, v16] [] T = xm_R sc xt_M (d + 9) 182 549 [.ref 0, .ref a, .retAddr 5000, .int 0, .ref (L 0), .int cv, .int (nI b), .int i7, .ref p, .int (nI nk), .int (nI (i + 1)), y11, y12, y13, y14, y15, y16] [] T' := by
  have ei : ((0 : Int32) + 5) + nI i = nI (5 + i) := by rw [show (0 : Int32) + 5 = 5 by decide]; exact zA (a := 5)
  have c178 := @oc_178 sc (d + 8) (5 + i) T hs (by omega)
  generalize oCe sc (5 + i) = u at *
  have h1 : oMo u nk < nk := oMo_lt (by omega)
  have h2 : oMo (u >>> (3 &&& 31)) 4 < 4 := oMo_lt (by omega)
  have h3 : oMo (u >>> (5 &&& 31)) b < b := oMo_lt (by omega)
  have c1 : xm_C sc xt_M (d + 9) 177 [.int u, .int (nI nk)] T = some (.inl (some (.int (nI (oMo u nk)))), T) := oc_177 (by omega) (by omega)
  have c2 : xm_C sc xt_M (d + 9) 177 [.int (u >>> (3 &&& 31)), .int 4] T = some (.inl (some (.int (nI (oMo (u >>> (3 &&& 31)) 4)))), T) := oc_177y (k := 4) (by decide) (by omega) (by omega)
  have c3 : xm_C sc xt_M (d + 9) 177 [.int (u >>> (5 &&& 31)), .int (nI b)] T = some (.inl (some (.int (nI (oMo (u >>> (5 &&& 31)) b)))), T) := oc_177 (by omega) (by omega)
  generalize oMo u nk = bk at *
  generalize oMo (u >>> (3 &&& 31)) 4 = rd at *
  generalize oMo (u >>> (5 &&& 31)) b = br at *
  have c162 := @oc_162 T L r 0 sc (d + 8) hW hI (nI bk) (nI rd)
  cases hby : sp_by r (nI bk) (nI rd) with
  | some y =>
    have hyq := sp_by_lt hby
    have hB := hW.bd
    have hq40 := hB.q40
    rw [hby] at c162
    refine ⟨[], T, L, q, m, .int u, .int (nI bk), .int (nI rd), .int (nI br), v15, v16, ⟨by show 0 ≤ 1; omega, trivial⟩, hI, by show txJ S0 T p q (t ++ []) m; rw [List.append_nil]; exact hJ, by omega, hL, rfl, hW, eb, ek, by show xnq r ≤ i + 1; omega, ?_⟩
    rw [yb_182_549 (by omega), if_neg (show ¬ (5 : Int32) ≤ nI i from nI_ge (b := 5) (by omega) (by omega)), ei, c178, zbs, xk_I, c1, zbs, xk_I, c2, zbs, xk_I, c3, zbs, xk_I, if_pos hI.is, c162, zbs, xk_I, if_neg (show ¬ toJ (some y) < 0 from nI_pos (by omega)), yb_182_661 (by omega), ← nI_succ]
  | none =>
    rw [hby] at c162
    obtain ⟨T1, L1, c166, M1⟩ := @oc_166 T L r 0 sc (d + 8) hW hI (nI bk) (nI rd) (nI br) (by omega)
    obtain ⟨I1, F1, le, lb⟩ := M1
    have J1 := hJ.ow hI F1 (Nat.le_refl _) hL
    have hL1 := lb S0.2.2.length hJ.2.1.2.1 hL
    have e0 := le 0 (by omega) (by omega)
    obtain ⟨T2, q2, k2, J2, I2⟩ := @tq_203 S0 T1 sc d p q _ L1 _ 0 t J1 I1 15 (by omega) (by omega)
    have n2 : (t ++ xm_str 15).length = t.length + 4 := by rw [List.length_append]; rfl
    obtain ⟨T3, q3, k3, J3, I3⟩ := @tq_205 S0 T2 sc d p q2 _ L1 _ 0 _ J2 I2 bk (by omega) (by omega)
    have n3 : ((t ++ xm_str 15) ++ [nI (48 + bk)]).length = t.length + 5 := by rw [List.length_append, n2]; rfl
    obtain ⟨T4, q4, k4, J4, I4⟩ := @tq_204 S0 T3 sc d p q3 _ L1 _ 0 _ J3 I3 32 asc_32 (by omega)
    have n4 : (((t ++ xm_str 15) ++ [nI (48 + bk)]) ++ [(32 : Int32)]).length = t.length + 6 := by rw [List.length_append, n3]; rfl
    obtain ⟨T5, q5, k5, J5, I5⟩ := @tq_205 S0 T4 sc d p q4 _ L1 _ 0 _ J4 I4 rd (by omega) (by omega)
    have n5 : ((((t ++ xm_str 15) ++ [nI (48 + bk)]) ++ [(32 : Int32)]) ++ [nI (48 + rd)]).length = t.length + 7 := by rw [List.length_append, n4]; rfl
    obtain ⟨T6, q6, k6, J6, I6⟩ := @tq_204 S0 T5 sc d p q5 _ L1 _ 0 _ J5 I5 32 asc_32 (by omega)
    have n6 : (((((t ++ xm_str 15) ++ [nI (48 + bk)]) ++ [(32 : Int32)]) ++ [nI (48 + rd)]) ++ [(32 : Int32)]).length = t.length + 8 := by rw [List.length_append, n5]; rfl
    obtain ⟨T7, q7, k7, J7, I7⟩ := @tq_205 S0 T6 sc d p q6 _ L1 _ 0 _ J6 I6 br (by omega) (by omega)
    have n7 : ((((((t ++ xm_str 15) ++ [nI (48 + bk)]) ++ [(32 : Int32)]) ++ [nI (48 + rd)]) ++ [(32 : Int32)]) ++ [nI (48 + br)]).length = t.length + 9 := by rw [List.length_append, n6]; rfl
    obtain ⟨T8, q8, k8, J8, I8⟩ := @tq_204 S0 T7 sc d p q7 _ L1 _ 0 _ J7 I7 59 ⟨59, by omega, by decide⟩ (by omega)
    have et : ((((((t ++ xm_str 15) ++ [nI (48 + bk)]) ++ [(32 : Int32)]) ++ [nI (48 + rd)]) ++ [(32 : Int32)]) ++ [nI (48 + br)]) ++ [59] = t ++ [(bk, rd, br)].flatMap tAsk := by
      rw [e15s, show [(bk, rd, br)].flatMap tAsk = tAsk (bk, rd, br) from List.append_nil _]
      unfold tAsk
      rw [List.append_assoc, List.append_assoc, List.append_assoc, List.append_assoc, List.append_assoc, List.append_assoc, List.append_assoc]
      rfl
    rw [et] at J8
    obtain ⟨z1, z2, z3, z4⟩ := kAddq_c (r := r) (a := nI bk) (rd := nI rd) (b := nI br) hW.bd (by omega)
    have W8 : xWF (sp_addq r (nI bk) (nI rd) (nI br)) := xWF_addq hW (by omega) (by omega) (by omega) (xil_nI (by omega) (by omega)) hby
    refine ⟨[(bk, rd, br)], T8, L1, q8, _, .int u, .int (nI bk), .int (nI rd), .int (nI br), v15, v16, ⟨Nat.le_refl _, ⟨⟨by show bk < xnk r; omega, by show bk < 10; omega, by show rd < 10; omega, by show br < xnb r; omega, hby⟩, trivial⟩⟩, I8, J8, by omega, hL1, e0, W8, z3.trans eb, z2.trans ek, ?_, ?_⟩
    · show xnq (sp_addq r (nI bk) (nI rd) (nI br)) ≤ i + 1
      omega
    · rw [yb_182_549 (by omega), if_neg (show ¬ (5 : Int32) ≤ nI i from nI_ge (b := 5) (by omega) (by omega)), ei, c178, zbs, xk_I, c1, zbs, xk_I, c2, zbs, xk_I, c3, zbs, xk_I, if_pos hI.is, c162, zbs, xk_I, if_pos (show toJ none < 0 by decide), if_pos hI.is, c166, zbs, xk_v, if_pos J1.is, k2, zbs, xk_R, if_pos J2.is, k3, zbs, xk_R, if_pos J3.is, k4, zbs, xk_R, if_pos J4.is, k5, zbs, xk_R, if_pos J5.is, k6, zbs, xk_R, if_pos J6.is, k7, zbs, xk_R, if_pos J7.is, k8, zbs, xk_R, yb_182_661 (by omega), ← nI_succ]
theorem akG_app : ∀ (Q1 Q2 : List (Nat × Nat × Nat)) (r : Nat → Int32), akG r Q1 → akG (Q1.foldl aAsk r) Q2 → akG r (Q1 ++ Q2) := by
  intro Q1
  induction Q1 with
  | nil => exact fun Q2 r _ h => h
  | cons y Q1 ih => exact fun Q2 r h1 h2 => ⟨h1.1, ih Q2 (aAsk r y) h1.2 h2⟩
theorem t_asks {cv i7 : Int32} {tv : List Int32} {rH : Nat → Int32} (hs : sc.1 ≤ 260) (hb : 2 ≤ b ∧ b ≤ 6) (hnk : 1 ≤ nk ∧ nk ≤ 5) : ∀ (k i : Nat) (Q : List (Nat × Nat × Nat)) (T : xm_PS) (L : Nat → Nat) (q m : Nat) (r : Nat → Int32) (t : List Int32) (v11 v12 v13 v14 v15 v16 : Value), i + k = 5 → Q.length ≤ i → akG rH Q → r = Q.foldl aAsk rH → t = tv ++ Q.flatMap tAsk → t.length ≤ 140 + 10 * i → xWF r → xnb r = b → xnk r = nk → xnq r ≤ i → oI T L r 0 → txJ S0 T p q t m → (∀ a, S0.2.2.length ≤ L a) →
    ∃ (Q' : List (Nat × Nat × Nat)) (T' : xm_PS) (L' : Nat → Nat) (q' m' : Nat) (r' : Nat → Int32) (t' : List Int32) (y11 y12 y13 y14 y15 y16 : Value), Q'.length ≤ 5 ∧ akG rH Q' ∧ r' = Q'.foldl aAsk rH ∧ t' = tv ++ Q'.flatMap tAsk ∧ t'.length ≤ 190 ∧ oI T' L' r' 0 ∧ txJ S0 T' p q' t' m' ∧ m' ≤ m + 150 * k ∧ (∀ a, S0.2.2.length ≤ L' a) ∧ L' 0 = L 0 ∧
      xm_R sc xt_M (d + 9) 182 549 [.ref 0, .ref a, .retAddr 5000, .int 0, .ref (L 0), .int cv, .int (nI b), .int i7, .ref p, .int (nI nk), .int (nI i), v11, v12, v13, v14, v15, v16] [] T = xm_R sc xt_M (d + 9) 182 549 [.ref 0, .ref a, .retAddr 5000, .int 0, .ref (L 0), .int cv, .int (nI b), .int i7, .ref p, .int (nI nk), .int (nI 5), y11, y12, y13, y14, y15, y16] [] T' := by
  intro k
  induction k with
  | zero =>
    intro i Q T L q m r t v11 v12 v13 v14 v15 v16 hi hQl hA hr ht htl hW eb ek hq hI hJ hL
    have e : i = 5 := by omega
    subst e
    exact ⟨Q, T, L, q, m, r, t, v11, v12, v13, v14, v15, v16, hQl, hA, hr, ht, by omega, hI, hJ, by omega, hL, rfl, rfl⟩
  | succ k ih =>
    intro i Q T L q m r t v11 v12 v13 v14 v15 v16 hi hQl hA hr ht htl hW eb ek hq hI hJ hL
    obtain ⟨Q1, T1, L1, q1, m1, x11, x12, x13, x14, x15, x16, ⟨g1, g2⟩, I1, J1, hm1, hL1, e0, W1, eb1, ek1, eq1, e1⟩ := @t_ask S0 T sc d a p q m L r t b nk i cv i7 v11 v12 v13 v14 v15 v16 hs (by omega) hb hnk hW eb ek hq hI hJ hL htl
    have q10 : ∀ l : List (Nat × Nat × Nat), (l.flatMap tAsk).length = 10 * l.length := by
      intro l
      induction l with
      | nil => rfl
      | cons y l ih =>
        rw [List.flatMap_cons, List.length_append, ih, List.length_cons]
        show 10 + 10 * l.length = _
        omega
    obtain ⟨Q2, T2, L2, q2, m2, r2, t2, z11, z12, z13, z14, z15, z16, a1, a2, a3, a4, a5, a6, a7, a8, a9, a10, a11⟩ := ih (i + 1) (Q ++ Q1) T1 L1 q1 m1 (Q1.foldl aAsk r) (t ++ Q1.flatMap tAsk) x11 x12 x13 x14 x15 x16 (by omega) (by rw [List.length_append]; omega) (akG_app Q Q1 rH hA (by rw [← hr]; exact g2)) (by rw [hr, List.foldl_append]) (by rw [ht, List.append_assoc, List.flatMap_append]) (by rw [List.length_append, q10]; omega) W1 eb1 ek1 eq1 I1 J1 hL1
    rw [e0] at a10 a11
    exact ⟨Q2, T2, L2, q2, m2, r2, t2, z11, z12, z13, z14, z15, z16, a1, a2, a3, a4, a5, a6, a7, by omega, a9, a10, e1.trans a11⟩
end TA
