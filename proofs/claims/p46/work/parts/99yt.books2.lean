/-! TELL: all books, the hold, the whole picture -/
section TH
variable {S0 : xm_PS} {sc : xm_Sc} {d a p : Nat} {b nv nk : Nat} {cv : Int32}
def tHv : Option Nat → Int32
  | none => 10
  | some x => nI x
theorem e14s : xm_str 14 = xm_str 4 ++ [32] := by decide +kernel
theorem t_books {rV : Nat → Int32} {tv : List Int32} {i7 : Int32} {v12 v13 v14 v15 v16 : Value} (hb : 2 ≤ b ∧ b ≤ 6) (hnk : nk ≤ 5) : ∀ (m k : Nat) (K : List Nat) (T : xm_PS) (E : Nat → Nat) (q mm : Nat) (r : Nat → Int32) (t : List Int32) (v11 : Value), k + m = nk → K.length = k → r = K.foldl aBook rV → (∀ x ∈ K, x < b) → t = tv ++ K.flatMap tBook → t.length ≤ 91 + 7 * k → kSn r → xnv r = nv → xnb r = b → xnk r = k → tO T E r nv nk 10 → txJ S0 T p q t mm → (∀ a, S0.2.2.length ≤ E a) →
    ∃ (K' : List Nat) (T' : xm_PS) (E' : Nat → Nat) (q' m' : Nat) (r' : Nat → Int32) (t' : List Int32) (y11 : Value), K'.length = nk ∧ r' = K'.foldl aBook rV ∧ (∀ x ∈ K', x < b) ∧ t' = tv ++ K'.flatMap tBook ∧ t'.length ≤ 91 + 7 * nk ∧ kSn r' ∧ xnv r' = nv ∧ xnb r' = b ∧ xnk r' = nk ∧ tO T' E' r' nv nk 10 ∧ txJ S0 T' p q' t' m' ∧ m' ≤ mm + 70 * m ∧ (∀ a, S0.2.2.length ≤ E' a) ∧ E' 0 = E 0 ∧
      xm_R sc xt_M (d + 9) 182 416 [.ref 0, .ref a, .retAddr 5000, .int 0, .ref (E 0), .int cv, .int (nI b), .int i7, .ref p, .int (nI nk), .int (nI k), v11, v12, v13, v14, v15, v16] [] T = xm_R sc xt_M (d + 9) 182 416 [.ref 0, .ref a, .retAddr 5000, .int 0, .ref (E 0), .int cv, .int (nI b), .int i7, .ref p, .int (nI nk), .int (nI nk), y11, v12, v13, v14, v15, v16] [] T' := by
  intro m
  induction m with
  | zero =>
    intro k K T E q mm r t v11 hk hKl hr hKG ht htl hS ev eb ek hO hJ hE
    have e : k = nk := by omega
    subst e
    exact ⟨K, T, E, q, mm, r, t, v11, hKl, hr, hKG, ht, htl, hS, ev, eb, ek, hO, hJ, by omega, hE, rfl, rfl⟩
  | succ m ih =>
    intro k K T E q mm r t v11 hk hKl hr hKG ht htl hS ev eb ek hO hJ hE
    obtain ⟨x, T1, E1, q1, k1, x11, g1, O1, J1, hk1, hE1, e0, e1⟩ := @t_book S0 sc d a p b nv nk cv T E q mm k r t i7 v11 v12 v13 v14 v15 v16 hb (by omega) hnk hS eb ek hO hJ hE htl
    obtain ⟨r1, r2, r3, r4, r5⟩ := aBook_ok (x := x) hS (by omega) (by rw [eb]; exact g1)
    obtain ⟨K2, T2, E2, q2, k2, r2', t2, z11, a1, a2, a3, a4, a5, a6, a7, a8, a9, a10, a11, a12, a13, a14, a15⟩ := ih (k + 1) (K ++ [x]) T1 E1 q1 k1 (aBook r x) (t ++ tBook x) x11 (by omega) (by rw [List.length_append, hKl]; rfl) (by rw [hr, List.foldl_append]; rfl) (fun y hy => by
      rcases List.mem_append.mp hy with h | h
      · exact hKG y h
      · rw [List.mem_singleton.mp h]; exact g1) (by
      rw [ht, List.append_assoc, List.flatMap_append, show [x].flatMap tBook = tBook x from List.append_nil _]) (by
      rw [List.length_append]
      show t.length + 7 ≤ _
      omega) r1 (by omega) (by omega) (by omega) O1 J1 hE1
    rw [e0] at a14 a15
    refine ⟨K2, T2, E2, q2, k2, r2', t2, z11, a1, a2, a3, a4, a5, a6, a7, a8, a9, a10, a11, by omega, a13, a14, e1.trans a15⟩
/-- from the vans to the books -/
theorem t_mid {T : xm_PS} {E : Nat → Nat} {q m : Nat} {r : Nat → Int32} {t : List Int32} {v10 v11 v12 v13 v14 v15 v16 : Value} (hnv : nv ≤ 4) (ek : xnk r = 0) (hO : tO T E r nv 0 10) (hJ : txJ S0 T p q t m) (hE : ∀ a, S0.2.2.length ≤ E a) :
    ∃ (nk : Nat) (T' : xm_PS) (E' : Nat → Nat), (1 ≤ nk ∧ nk ≤ 5) ∧ tO T' E' r nv nk 10 ∧ txJ S0 T' p q t (m + 1) ∧ (∀ a, S0.2.2.length ≤ E' a) ∧ E' 0 = E 0 ∧
      xm_R sc xt_M (d + 9) 182 137 [.ref 0, .ref a, .retAddr 5000, .int 0, .ref (E 0), .int cv, .int (nI b), .int (nI nv), .ref p, .int (nI nv), v10, v11, v12, v13, v14, v15, v16] [] T = xm_R sc xt_M (d + 9) 182 416 [.ref 0, .ref a, .retAddr 5000, .int 0, .ref (E 0), .int cv, .int (nI b), .int (nI nv), .ref p, .int (nI nk), .int 0, v11, v12, v13, v14, v15, v16] [] T' := by
  have hx : oMo (cv >>> (6 &&& 31)) 5 < 5 := oMo_lt (by omega)
  have c177 : xm_C sc xt_M (d + 9) 177 [.int (cv >>> (6 &&& 31)), .int 5] T = some (.inl (some (.int (nI (oMo (cv >>> (6 &&& 31)) 5)))), T) := oc_177y (k := 5) (by decide) (by omega) (by omega)
  generalize oMo (cv >>> (6 &&& 31)) 5 = x at *
  obtain ⟨⟨⟨f1, f2⟩, he, hop⟩, ⟨⟨g, hg, hg'⟩, ⟨f, hf, hf'⟩, hat4, hrts⟩, ⟨⟨f5, h5, h5'⟩, ⟨f6, h6⟩, hth⟩, ⟨d24, d36⟩, d4, d30⟩ := id hO
  obtain ⟨T1, e1, ⟨g1, g2⟩, he1, hn1, F1, L1⟩ := pg_F f1 f2 he (k := 4) (by show 4 < 9; omega) (c := qC (1 + x) 5 fun _ => none) (by show 1 + x ≤ 50; omega)
  obtain ⟨E', hE'⟩ : ∃ E' : Nat → Nat, E' = fun z => if z = 5 then T.2.2.length else E z := ⟨_, rfl⟩
  have en : ∀ z, z ≠ 5 → E' z = E z := fun z hz => by rw [hE']; exact if_neg hz
  have ey : E' 5 = T.2.2.length := by rw [hE']; exact if_pos rfl
  have n0 : ∀ {y : Nat} {c : xm_PC}, T.2.2[y]? = some c → oK c ≠ 108 → T1.2.2[y]? = some c := fun hc kc => F1.2.2.2.2 _ _ hc (fun z => oK_ne hc he kc z)
  have nA : ∀ {y ty n : Nat} {gq : Nat → Int32}, oA T y ty n gq → ty ≠ 108 → oA T1 y ty n gq := fun ho hty => by
    obtain ⟨w, hw, hw2⟩ := ho
    exact ⟨w, n0 hw hty, hw2⟩
  have hO1 : tO T1 E' r nv (1 + x) 10 := by
    refine ⟨⟨⟨g1, g2⟩, ?_, ?_⟩, ⟨⟨g, ?_, hg'⟩, ⟨f, ?_, fun w hw => ?_⟩, ?_, fun w hw => ?_⟩, ⟨⟨fun _ => none, ?_, fun j hj => absurd hj (by omega)⟩, ⟨f6, ?_⟩, fun j hj => absurd hj (by omega)⟩, ⟨?_, ?_⟩, fun w hw => ?_, fun j j2 _ hj2 => absurd hj2 (by omega)⟩
    · rw [en 0 (by omega), en 1 (by omega), en 2 (by omega), en 3 (by omega), en 4 (by omega), ey, en 6 (by omega)]
      exact he1
    · rw [en 1 (by omega)]; exact nA hop (by decide)
    · rw [en 2 (by omega)]; exact nA hg (by decide)
    · rw [en 3 (by omega)]; exact n0 hf (by show 46 ≠ 108; decide)
    · have hv := hO.2.2.2
      rw [en _ (by omega)]; exact hf' w hw
    · rw [en 4 (by omega)]; exact nA hat4 (by decide)
    · rw [en _ (by omega)]; exact nA (hrts w hw) (by decide)
    · rw [ey]; exact hn1
    · rw [en 6 (by omega)]; exact n0 h6 (by show 46 ≠ 108; decide)
    · rw [en 2 (by omega), en 4 (by omega)]; exact d24
    · rw [en 3 (by omega), en 6 (by omega)]; exact d36
    · rw [en 4 (by omega), en _ (by omega)]; exact d4 w hw
  refine ⟨1 + x, T1, E', ⟨by omega, by omega⟩, hO1, hJ.w1 F1 (hE 0) he (by show 108 ≠ 1; decide) (by show 108 ≠ 111; decide), fun z => ?_, en 0 (by omega), ?_⟩
  · by_cases c : z = 5
    · rw [c, ey]; exact hJ.2.1.2.1
    · rw [en z c]; exact hE z
  · rw [yb_182_137 (by omega), if_pos (nI_le (Nat.le_refl _) (by omega)), c177, zbs, xk_I, n1p, if_neg (nI_pos (by omega)), nI_clamp (by omega), if_pos (by omega), oP_eq f1 f2]
    refine (show _ = _ from ?_)
    rw [show (xm_sF (oP T (.inl (5, 1 + x, .inr (.inr (.inr (.inr fun _ => none)))))) (E 0) 8 4 (.ref T.2.2.length)) = some T1 from e1, zbs]
/-- the hold -/
theorem t_hold {T : xm_PS} {E : Nat → Nat} {q m : Nat} {r : Nat → Int32} {t : List Int32} {i7 : Int32} {v11 v12 v13 v14 v15 v16 : Value} (hnk : nk ≤ 5) (hO : tO T E r nv nk 10) (hJ : txJ S0 T p q t m) (hE : ∀ a, S0.2.2.length ≤ E a) (ht : t.length ≤ 130) :
    ∃ (H : Option Nat) (T' : xm_PS) (q' m' : Nat), (∀ x, H = some x → 1 ≤ x ∧ x ≤ 9) ∧ tO T' E r nv nk (tHv H) ∧ txJ S0 T' p q' (t ++ tHold H) m' ∧ m' ≤ m + 60 ∧
      xm_R sc xt_M (d + 9) 182 416 [.ref 0, .ref a, .retAddr 5000, .int 0, .ref (E 0), .int cv, .int (nI b), .int i7, .ref p, .int (nI nk), .int (nI nk), v11, v12, v13, v14, v15, v16] [] T = xm_R sc xt_M (d + 9) 182 549 [.ref 0, .ref a, .retAddr 5000, .int 0, .ref (E 0), .int cv, .int (nI b), .int i7, .ref p, .int (nI nk), .int 0, v11, v12, v13, v14, v15, v16] [] T' := by
  have c177 : xm_C sc xt_M (d + 9) 177 [.int (cv >>> (5 &&& 31)), .int 2] T = some (.inl (some (.int (nI (oMo (cv >>> (5 &&& 31)) 2)))), T) := oc_177y (k := 2) (by decide) (by omega) (by omega)
  by_cases c0 : oMo (cv >>> (5 &&& 31)) 2 = 0
  · have hx : oMo (cv >>> (7 &&& 31)) 8 < 8 := oMo_lt (by omega)
    have c177b : xm_C sc xt_M (d + 9) 177 [.int (cv >>> (7 &&& 31)), .int 8] T = some (.inl (some (.int (nI (oMo (cv >>> (7 &&& 31)) 8)))), T) := oc_177y (k := 8) (by decide) (by omega) (by omega)
    generalize hy : 1 + oMo (cv >>> (7 &&& 31)) 8 = y at *
    obtain ⟨⟨⟨f1, f2⟩, he, hop⟩, o2, o3, o4⟩ := id hO
    obtain ⟨T1, e1, ⟨g1, g2⟩, he1, F1, L1⟩ := pf_S f1 f2 he (k := 7) (by show 7 < 9; omega) (v := .int (nI y))
    have hO1 : tO T1 E r nv nk (nI y) := by
      have n0 : ∀ {z : Nat} {c : xm_PC}, T.2.2[z]? = some c → oK c ≠ 108 → T1.2.2[z]? = some c := fun hc kc => F1.2.2.2.2 _ _ hc (fun z => oK_ne hc he kc z)
      have nA : ∀ {z ty n : Nat} {gq : Nat → Int32}, oA T z ty n gq → ty ≠ 108 → oA T1 z ty n gq := fun ho hty => by
        obtain ⟨w, hw, hw2⟩ := ho
        exact ⟨w, n0 hw hty, hw2⟩
      obtain ⟨⟨g, hg, hg'⟩, ⟨f, hf, hf'⟩, hat4, hrts⟩ := o2
      obtain ⟨⟨f5, h5, h5'⟩, ⟨f6, h6⟩, hth⟩ := o3
      exact ⟨⟨⟨g1, g2⟩, he1, nA hop (by decide)⟩, ⟨⟨g, nA hg (by decide), hg'⟩, ⟨f, n0 hf (by show 46 ≠ 108; decide), hf'⟩, nA hat4 (by decide), fun w hw => nA (hrts w hw) (by decide)⟩, ⟨⟨f5, n0 h5 (by show 45 ≠ 108; decide), h5'⟩, ⟨f6, n0 h6 (by show 46 ≠ 108; decide)⟩, fun j hj => n0 (hth j hj) (by show 109 ≠ 108; decide)⟩, o4⟩
    have J1 := hJ.w1 F1 (hE 0) he (by show 108 ≠ 1; decide) (by show 108 ≠ 111; decide)
    obtain ⟨T2, q2, k2, J2, O2⟩ := @tb_203 S0 T1 sc d p q E r nv nk (nI y) t _ J1 hO1 14 (by omega) (by omega)
    have len2 : (t ++ xm_str 14).length = t.length + 5 := by rw [List.length_append]; rfl
    obtain ⟨T3, q3, k3, J3, O3⟩ := @tb_205 S0 T2 sc d p q2 E r nv nk (nI y) _ _ J2 O2 y (by omega) (by omega)
    have len3 : ((t ++ xm_str 14) ++ [nI (48 + y)]).length = t.length + 6 := by rw [List.length_append, len2]; rfl
    obtain ⟨T4, q4, k4, J4, O4⟩ := @tb_204 S0 T3 sc d p q3 E r nv nk (nI y) _ _ J3 O3 59 ⟨59, by omega, by decide⟩ (by omega)
    have et : ((t ++ xm_str 14) ++ [nI (48 + y)]) ++ [59] = t ++ tHold (some y) := by
      rw [e14s]
      unfold tHold
      rw [List.append_assoc, List.append_assoc, List.append_assoc]
      rfl
    rw [et] at J4
    refine ⟨some y, T4, q4, _, (fun x hx => by cases hx; omega), O4, J4, by omega, ?_⟩
    rw [yb_182_416 (by omega), if_pos (nI_le (Nat.le_refl _) (by omega)), c177, zbs, xk_I, if_pos (by rw [c0, nI_0]), c177b, zbs, xk_I, n1p, hy, e1, zbs, if_pos J1.is, k2, zbs, xk_R, show xm_gI T2 (E 0) 8 7 = some (nI y) from og_I O2.e rfl, zbs, if_pos J2.is, k3, zbs, xk_R, if_pos J3.is, k4, zbs, xk_R, yb_182_546 (by omega)]
  · have hx : oMo (cv >>> (5 &&& 31)) 2 < 2 := oMo_lt (by omega)
    refine ⟨none, T, q, m, (fun x hx => by cases hx), hO, by show txJ S0 T p q (t ++ []) m; rw [List.append_nil]; exact hJ, by omega, ?_⟩
    rw [yb_182_416 (by omega), if_pos (nI_le (Nat.le_refl _) (by omega)), c177, zbs, xk_I, if_neg (nI_ne0 (by omega) (by omega)), yb_182_546 (by omega)]
/-- the picture is whole -/
theorem tO_oI {T : xm_PS} {E : Nat → Nat} {r : Nat → Int32} {H : Option Nat} (hS : kSn r) (ev : xnv r = nv) (ek : xnk r = nk) (hO : tO T E r nv nk (tHv H)) : oI T E (aHold r H) 0 := by
  obtain ⟨⟨⟨f1, f2⟩, he, hop⟩, ⟨⟨g, hg, hg'⟩, ⟨f, hf, hf'⟩, hat4, hrts⟩, ⟨⟨f5, h5, h5'⟩, ⟨f6, h6⟩, hth⟩, ⟨d24, d36⟩, d4, d30⟩ := hO
  obtain ⟨hB, hb2, h3, h4, hh5, hh6, n3, n4, n5, nb, nvv, nkk⟩ := hS
  have lo := (aHold_c (H := H) hB).2
  have hc := xn_cg (r := r) (r' := aHold r H) (fun i hi => lo i (by omega))
  have e5 : aHold r H 5 = (tHv H) := by
    cases H with
    | none => exact n5
    | some x => exact zu1
  have q0 : xnq (aHold r H) = 0 := by
    rw [hc.2.2.2]
    unfold xnq
    rw [n3]
    rfl
  have hv4 := hB.v4
  have hk20 := hB.k20
  refine ⟨⟨⟨f1, f2⟩, ?_⟩, ⟨?_, ?_, ⟨f, ?_, fun i hi => ?_⟩, ?_, ⟨f5, ?_, fun i hi => ?_⟩, ⟨f6, ?_, fun i hi => absurd hi (by omega)⟩⟩, ⟨fun v hv => ?_, fun k hk => ?_, fun q hq => absurd hq (by omega)⟩, ⟨fun j k hjk hk => ?_, ?_, fun v hv => ?_, fun q hq => absurd hq (by omega)⟩⟩
  · unfold oEf
    rw [e5, lo 4 (by omega), n4]
    exact he
  · rw [hc.1]
    exact hop.cg (fun i hi => by rw [lo _ (by omega)]; exact nb i hi)
  · rw [hc.2.1, ev]
    exact hg.cg (fun i hi => by rw [lo _ (by omega)]; exact (hg' i (by omega)).symm)
  · rw [hc.2.1, ev]
    exact hf
  · rw [hc.2.1] at hi
    exact hf' i hi
  · rw [hc.2.1, ev]
    exact hat4.cg (fun i hi => by rw [lo _ (by omega)]; exact nvv i (by omega))
  · rw [hc.2.2.1, ek]
    exact h5
  · rw [hc.2.2.1] at hi
    exact h5' i hi
  · rw [q0]
    exact h6
  · rw [hc.2.1] at hv
    have e : xst (aHold r H) v = xst r v := by
      unfold xst
      rw [lo _ (by omega)]
    rw [e]
    exact (hrts v hv).cg (fun i hi => lo _ (by omega))
  · rw [hc.2.2.1] at hk
    rw [oTh_cg (r := r) (fun i h1 h2 => lo i (by omega))]
    exact hth k hk
  · rw [hc.2.2.1] at hk
    have := d30 j k hjk hk
    omega
  · omega
  · rw [hc.2.1] at hv
    have := d4 v hv
    omega
end TH
