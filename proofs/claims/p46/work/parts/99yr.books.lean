/-! TELL: the vans, the books -/
section TB
variable {S0 : xm_PS} {sc : xm_Sc} {d a p : Nat} {b nv : Nat} {cvI : Int32}
theorem e13s : xm_str 13 = xm_str 3 ++ [32] := by decide +kernel
theorem t_vans (hs : sc.1 ≤ 260) (hb : 2 ≤ b ∧ b ≤ 6) (hnv : nv ≤ 4) : ∀ (m v : Nat) (W : List (Nat × List Nat)) (T : xm_PS) (E : Nat → Nat) (q k : Nat) (r : Nat → Int32) (t : List Int32) (v10 v11 v12 v13 v14 v15 v16 : Value), v + m = nv → W.length = v → r = W.foldl aVan (sp_beg r0Z b) → (∀ V ∈ W, vG b V) → t = (xm_str 1 ++ (tDg b ++ [59])) ++ W.flatMap tVan → t.length ≤ 11 + 20 * v → kSn r → xnv r = v → xnb r = b → xnk r = 0 → tO T E r nv 0 10 → txJ S0 T p q t k → (∀ a, S0.2.2.length ≤ E a) →
    ∃ (W' : List (Nat × List Nat)) (T' : xm_PS) (E' : Nat → Nat) (q' k' : Nat) (r' : Nat → Int32) (t' : List Int32) (y10 y11 y12 y13 y14 y15 y16 : Value), W'.length = nv ∧ r' = W'.foldl aVan (sp_beg r0Z b) ∧ (∀ V ∈ W', vG b V) ∧ t' = (xm_str 1 ++ (tDg b ++ [59])) ++ W'.flatMap tVan ∧ t'.length ≤ 11 + 20 * nv ∧ kSn r' ∧ xnv r' = nv ∧ xnb r' = b ∧ xnk r' = 0 ∧ tO T' E' r' nv 0 10 ∧ txJ S0 T' p q' t' k' ∧ k' ≤ k + 400 * m ∧ (∀ a, S0.2.2.length ≤ E' a) ∧ E' 0 = E 0 ∧
      xm_R sc xt_M (d + 9) 182 137 [.ref 0, .ref a, .retAddr 5000, .int 0, .ref (E 0), .int cvI, .int (nI b), .int (nI nv), .ref p, .int (nI v), v10, v11, v12, v13, v14, v15, v16] [] T = xm_R sc xt_M (d + 9) 182 137 [.ref 0, .ref a, .retAddr 5000, .int 0, .ref (E 0), .int cvI, .int (nI b), .int (nI nv), .ref p, .int (nI nv), y10, y11, y12, y13, y14, y15, y16] [] T' := by
  intro m
  induction m with
  | zero =>
    intro v W T E q k r t v10 v11 v12 v13 v14 v15 v16 hv hWl hr hWG ht htl hS ev eb ek hO hJ hE
    have e : v = nv := by omega
    subst e
    exact ⟨W, T, E, q, k, r, t, v10, v11, v12, v13, v14, v15, v16, hWl, hr, hWG, ht, htl, hS, ev, eb, ek, hO, hJ, by omega, hE, rfl, rfl⟩
  | succ m ih =>
    intro v W T E q k r t v10 v11 v12 v13 v14 v15 v16 hv hWl hr hWG ht htl hS ev eb ek hO hJ hE
    obtain ⟨V, T1, E1, q1, k1, x10, x11, x12, x13, x14, x15, x16, ⟨g1, g2⟩, O1, J1, hk1, hE1, e0, e1⟩ := @t_van S0 T sc d a p q E r nv t k b v cvI v10 v11 v12 v13 v14 v15 v16 hs hb (by omega) hnv hS ev eb ek hO hJ hE htl
    obtain ⟨r1, r2, r3, r4, r5, r6, -⟩ := aVan_ok (V := V) hS (by omega) (by rw [eb]; exact g1)
    have hl := @tVan_len V
    obtain ⟨W2, T2, E2, q2, k2, r2', t2, z10, z11, z12, z13, z14, z15, z16, a1, a2, a3, a4, a5, a6, a7, a8, a9, a10, a11, a12, a13, a14, a15⟩ := ih (v + 1) (W ++ [V]) T1 E1 q1 k1 (aVan r V) (t ++ tVan V) x10 x11 x12 x13 x14 x15 x16 (by omega) (by rw [List.length_append, hWl]; rfl) (by rw [hr, List.foldl_append]; rfl) (fun V' hV' => by
      rcases List.mem_append.mp hV' with h | h
      · exact hWG V' h
      · rw [List.mem_singleton.mp h]; exact g1) (by
      rw [ht, List.append_assoc, List.flatMap_append, show [V].flatMap tVan = tVan V from List.append_nil _]) (by rw [List.length_append]; omega) r1 (by omega) (by omega) (by omega) O1 J1 hE1
    rw [e0] at a14 a15
    refine ⟨W2, T2, E2, q2, k2, r2', t2, z10, z11, z12, z13, z14, z15, z16, a1, a2, a3, a4, a5, a6, a7, a8, a9, a10, a11, by omega, a13, a14, e1.trans a15⟩
theorem oc_175 {S : xm_PS} {x : Nat} {y0 y1 y2 y3 y4 y5 : Value} (hx : S.2.2[x]? = some (.inr (9, [y0, y1, y2, y3, y4, y5]))) : xm_C sc xt_M (d + 1) 175 [.ref x] S = some (.inl none, xm_set S x (.inr (9, [y0, y1, y2, .int (-1), .int (-1), y5]))) := by
  rw [yc_175, og_S hx (by show 3 < 6; omega), zbs, og_S (oS_get hx) (by show 4 < 6; omega), zbs, oS_S]
  rfl
theorem aBook_e {r : Nat → Int32} {x : Nat} (hS : kSn r) (h20 : xnk r < 20) : oTh (aBook r x) (xnk r) = [.int 0, .int (nI x), .int (nI x), .int (-1), .int (-1), .int 0] ∧ (∀ j, j ≠ 2 → ¬ (56 + 6 * xnk r ≤ j ∧ j < 62 + 6 * xnk r) → aBook r x j = r j) := by
  have h59 : r (59 + 6 * xnk r) = 0 := hS.2.2.2.2.2.1 (xnk r) (Nat.le_refl _) h20
  refine ⟨?_, fun j h1 h2 => ?_⟩
  · unfold oTh aBook sp_addB sp_put
    simp only [upd]
    repeat rw [if_neg (by omega)]
    simp (disch := omega) only [if_neg, if_pos, h59]
    simp
  · unfold aBook sp_addB sp_put
    simp (disch := omega) only [upd, if_neg]
end TB
