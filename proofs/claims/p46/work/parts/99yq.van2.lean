/-! TELL: a van, whole -/
section TW
variable {S0 T : xm_PS} {sc : xm_Sc} {d a p q : Nat} {E : Nat → Nat} {r : Nat → Int32} {nv : Nat} {t : List Int32} {m : Nat}
theorem n22p {m : Nat} : (2 : Int32) + ((2 : Int32) * nI m) = nI (2 + 2 * m) := by
  rw [show (2 : Int32) * nI m = nI (2 * m) from pk_mul 2 m, n2p]
theorem va_up_s {f : Nat → Option Nat} {i : Nat} {x : Option Nat} : va_up f i x i = x := if_pos rfl
theorem va_up_n {f : Nat → Option Nat} {i j : Nat} {x : Option Nat} (h : j ≠ i) : va_up f i x j = f j := if_neg h
theorem t_van {b v : Nat} {cvI : Int32} {v10 v11 v12 v13 v14 v15 v16 : Value} (hs : sc.1 ≤ 260) (hb : 2 ≤ b ∧ b ≤ 6) (hv : v < nv) (hnv : nv ≤ 4) (hS : kSn r) (ev : xnv r = v) (eb : xnb r = b) (ek : xnk r = 0) (hO : tO T E r nv 0 10) (hJ : txJ S0 T p q t m) (hE : ∀ a, S0.2.2.length ≤ E a) (ht : t.length ≤ 11 + 20 * v) :
    ∃ (V : Nat × List Nat) (T' : xm_PS) (E' : Nat → Nat) (q' m' : Nat) (y10 y11 y12 y13 y14 y15 y16 : Value), (vG b V ∧ V.2.length ≤ 6) ∧ tO T' E' (aVan r V) nv 0 10 ∧ txJ S0 T' p q' (t ++ tVan V) m' ∧ m' ≤ m + 400 ∧ (∀ a, S0.2.2.length ≤ E' a) ∧ E' 0 = E 0 ∧
      xm_R sc xt_M (d + 9) 182 137 [.ref 0, .ref a, .retAddr 5000, .int 0, .ref (E 0), .int cvI, .int (nI b), .int (nI nv), .ref p, .int (nI v), v10, v11, v12, v13, v14, v15, v16] [] T = xm_R sc xt_M (d + 9) 182 137 [.ref 0, .ref a, .retAddr 5000, .int 0, .ref (E 0), .int cvI, .int (nI b), .int (nI nv), .ref p, .int (nI (v + 1)), y10, y11, y12, y13, y14, y15, y16] [] T' := by
  have ei : ((0 : Int32) + 1) + nI v = nI (1 + v) := by rw [show (0 : Int32) + 1 = 1 by decide, n1p]
  have c178 := @oc_178 sc (d + 8) (1 + v) T hs (by omega)
  generalize oCe sc (1 + v) = u at *
  have hr3 : oMo u 3 < 3 := oMo_lt (by omega)
  have c177a : ∀ S, xm_C sc xt_M (d + 9) 177 [.int u, .int 3] S = some (.inl (some (.int (nI (oMo u 3)))), S) := fun S => oc_177y (k := 3) (by decide) (by omega) (by omega)
  generalize hrm : 1 + oMo u 3 = room at *
  obtain ⟨⟨⟨f1, f2⟩, he, hop⟩, ⟨⟨g, hg, hg'⟩, ⟨f, hf, hf'⟩, hat4, hrts⟩, ⟨⟨f5, h5, -⟩, ⟨f6, h6⟩, -⟩, ⟨d24, d36⟩, d4, -⟩ := id hO
  have gE2 : ∀ S : xm_PS, S.2.2[E 0]? = some (.inr (8, [.ref (E 1), .ref (E 2), .ref (E 3), .ref (E 4), .ref (E 5), .ref (E 6), .int 0, .int 10, .int 0])) → xm_gR S (E 0) 8 1 = some (E 2) := fun S hc => og_R hc rfl
  have gE3 : ∀ S : xm_PS, S.2.2[E 0]? = some (.inr (8, [.ref (E 1), .ref (E 2), .ref (E 3), .ref (E 4), .ref (E 5), .ref (E 6), .int 0, .int 10, .int 0])) → xm_gR S (E 0) 8 2 = some (E 3) := fun S hc => og_R hc rfl
  -- the room
  obtain ⟨T1, e1, A1, F1⟩ := hg.wr2 (i := v) hv (by omega) (y := nI room)
  obtain ⟨gc, hgc, -⟩ := id hg
  have hE2l : E 2 < T.2.2.length := os_lt hgc
  have n02 : E 0 ≠ E 2 := oK_ne he hgc (by show 108 ≠ 0; decide)
  have n03 : E 0 ≠ E 3 := oK_ne he hf (by show 108 ≠ 46; decide)
  have n32 : E 3 ≠ E 2 := oK_ne hf hgc (by show 46 ≠ 0; decide)
  have he1 := F1.2.2.2.2 _ _ he (fun z => n02 z)
  have J1 := hJ.w1 F1 (hE 2) hgc (by show 0 ≠ 1; decide) (by show 0 ≠ 111; decide)
  have fl1 : T1.1 = true ∧ T1.2.1 = 0 := ⟨F1.1.1.trans f1, F1.1.2.trans f2⟩
  have L1 := F1.2.1
  have hSl := hS.1
  -- the route, and all behind it
  have fin : ∀ (ns : Nat) (x14 x15 x16 : Value), 2 ≤ ns → ns ≤ 6 → (b = 2 → ns % 2 = 0) → ∃ (V : Nat × List Nat) (T' : xm_PS) (E' : Nat → Nat) (q' m' : Nat) (y10 y11 y12 y13 y14 y15 y16 : Value), (vG b V ∧ V.2.length ≤ 6) ∧ tO T' E' (aVan r V) nv 0 10 ∧ txJ S0 T' p q' (t ++ tVan V) m' ∧ m' ≤ m + 400 ∧ (∀ a, S0.2.2.length ≤ E' a) ∧ E' 0 = E 0 ∧
      xm_R sc xt_M (d + 9) 182 214 [.ref 0, .ref a, .retAddr 5000, .int 0, .ref (E 0), .int cvI, .int (nI b), .int (nI nv), .ref p, .int (nI v), .int u, .int (nI ns), .ref T1.2.2.length, .int 0, x14, x15, x16] [] (oTf T1 ns fun _ => 0) = xm_R sc xt_M (d + 9) 182 137 [.ref 0, .ref a, .retAddr 5000, .int 0, .ref (E 0), .int cvI, .int (nI b), .int (nI nv), .ref p, .int (nI (v + 1)), y10, y11, y12, y13, y14, y15, y16] [] T' := by
    intro ns x14 x15 x16 hns2 hns6 h2e
    have A2 : oA (oTf T1 ns fun _ => 0) T1.2.2.length 0 ns (fun _ => 0) := oTf_A
    have F2 : oF T1 (oTf T1 ns fun _ => 0) 1 oN := oF_P (show ns ≤ 50 by omega)
    have J2 := J1.nw F2
    generalize hT2 : (oTf T1 ns fun _ => 0) = T2 at *
    generalize hh : T1.2.2.length = h at *
    obtain ⟨l, T3, y14, l1, l2, l3, A3, F3, e3⟩ := @t_214 sc d a (E 0) p h b nv v ns cvI u x15 x16 hb ⟨hns2, by omega⟩ h2e ns 0 [] T2 (fun _ => 0) x14 (Nat.zero_add _) rfl trivial (fun z => by omega) (fun _ j hj => absurd hj (Nat.not_lt_zero j)) A2 (fun j hj => absurd hj (Nat.not_lt_zero j))
    rw [nI_0] at e3
    have keep : ∀ x c, T.2.2[x]? = some c → x ≠ E 2 → T3.2.2[x]? = some c := fun x c hc h2 => by
      have hx := os_lt hc
      exact F3.2.2.2.2 _ _ (F2.2.2.2.2 _ _ (F1.2.2.2.2 _ _ hc (fun z => h2 z)) id) (fun z => by
        have z' : x = h := z
        omega)
    have he3 := keep _ _ he n02
    have hf3 := keep _ _ hf n32
    have ew : xm_wQ T3 (E 3) 6 (nI v) h = some (xm_set T3 (E 3) (qC nv 6 (va_up f v (some h)))) := wQ_c hf3 hv (by omega)
    have F4 : oF T3 (xm_set T3 (E 3) (qC nv 6 (va_up f v (some h)))) 0 (fun z => z = E 3) := oF_S hf3 rfl rfl
    have hq4 : (xm_set T3 (E 3) (qC nv 6 (va_up f v (some h)))).2.2[E 3]? = some (qC nv 6 (va_up f v (some h))) := oS_get hf3
    have hhc : ∃ c, T2.2.2[h]? = some c ∧ oK c = 0 := by
      obtain ⟨y, hy, -⟩ := A2
      exact ⟨_, hy, rfl⟩
    obtain ⟨ch, hch, kh⟩ := hhc
    have hhS : S0.2.2.length ≤ h := by
      have h1 := hE 2
      omega
    have J3 := J2.w1 F3 hhS hch (by rw [kh]; decide) (by rw [kh]; decide)
    have J4 := J3.w1 F4 (hE 3) hf3 (by show 46 ≠ 1; decide) (by show 46 ≠ 111; decide)
    have fl4 : (xm_set T3 (E 3) (qC nv 6 (va_up f v (some h)))).1 = true ∧ (xm_set T3 (E 3) (qC nv 6 (va_up f v (some h)))).2.1 = 0 := ⟨(F4.1.1.trans (F3.1.1.trans F2.1.1)).trans fl1.1, (F4.1.2.trans (F3.1.2.trans F2.1.2)).trans fl1.2⟩
    have hG : vG b (room, l) := ⟨⟨by show 1 ≤ room; omega, by show room ≤ 9; omega⟩, ⟨by show 2 ≤ l.length; omega, by show l.length ≤ 8; omega⟩, l2, by show l.getD 0 0 ≠ l.getD (l.length - 1) 0; rw [l1]; exact l3⟩
    obtain ⟨r1, r2, r3, r4, r5, r6, r7, r8, r9⟩ := aVan_ok (V := (room, l)) hS (by omega) (by rw [eb]; exact hG)
    rw [ev] at r2 r3 r4 r7 r8 r9
    have r3' : xst (aVan r (room, l)) v = ns := r3.trans l1
    have r7' : ∀ i, i < ns → aVan r (room, l) (15 + 11 * v + i) = nI (l.getD i 0) := fun i hi => r7 i (by show i < l.length; omega)
    have r8' : aVan r (room, l) (12 + 11 * v) = nI room := r8
    generalize hgr : aVan r (room, l) = r' at *
    have h3e : ∀ x, (∃ c, T3.2.2[x]? = some c ∧ oK c ≠ 46) → x ≠ E 3 := fun x hx z => by
      obtain ⟨c, hc, kc⟩ := hx
      exact oK_ne hc hf3 kc z
    have keepA : ∀ {x ty n : Nat} {gg : Nat → Int32}, oA T x ty n gg → x ≠ E 2 → ty ≠ 46 → oA (xm_set T3 (E 3) (qC nv 6 (va_up f v (some h)))) x ty n gg := fun {x ty n gg} ho h2 hty => by
      obtain ⟨y, hy, hy2⟩ := ho
      have hy3 := keep _ _ hy h2
      exact ⟨y, F4.2.2.2.2 _ _ hy3 (fun z => h3e _ ⟨_, hy3, hty⟩ z), hy2⟩
    obtain ⟨E', hE'⟩ : ∃ E' : Nat → Nat, E' = fun z => if z = 20 + v then h else E z := ⟨_, rfl⟩
    have en : ∀ z, z ≠ 20 + v → E' z = E z := fun z hz => by rw [hE']; exact if_neg hz
    have ey : E' (20 + v) = h := by rw [hE']; exact if_pos rfl
    have A3c : oA T3 h 0 ns (fun j => nI (l.getD j 0)) := A3
    have hO4 : tO (xm_set T3 (E 3) (qC nv 6 (va_up f v (some h)))) E' r' nv 0 10 := by
      have hk0 : xnk r' = 0 := r5.trans ek
      refine ⟨⟨fl4, ?_, ?_⟩, ⟨⟨upd g v (nI room), ?_, fun w hw => ?_⟩, ⟨va_up f v (some h), ?_, fun w hw => ?_⟩, ?_, fun w hw => ?_⟩, ⟨⟨f5, ?_, fun k hk => absurd hk (by omega)⟩, ⟨f6, ?_⟩, fun k hk => absurd hk (by omega)⟩, ⟨?_, ?_⟩, fun w hw => ?_, fun j k _ hk => absurd hk (by omega)⟩
      · rw [en 0 (by omega), en 1 (by omega), en 2 (by omega), en 3 (by omega), en 4 (by omega), en 5 (by omega), en 6 (by omega)]
        exact F4.2.2.2.2 _ _ he3 (fun z => n03 z)
      · rw [en 1 (by omega), r6]
        obtain ⟨y, hy, -⟩ := id hop
        exact keepA hop (oK_ne hy hgc (by show 3 ≠ 0; decide)) (by decide)
      · rw [en 2 (by omega)]
        have A1' : oA T3 (E 2) 0 nv (upd g v (nI room)) := (A1.fr F2 id).fr F3 (fun z => by have z' : E 2 = h := z; omega)
        exact A1'.fr F4 (fun z => n32 (show E 2 = E 3 from z).symm)
      · rw [r2] at hw
        by_cases c : w = v
        · rw [c, zu1, r8']
        · rw [zun c, r9 _ (by omega) (by omega)]
          exact hg' w (by omega)
      · rw [en 3 (by omega)]
        exact hq4
      · rw [r2] at hw
        by_cases c : w = v
        · rw [c, va_up_s, ey]
        · rw [va_up_n c, en _ (by omega)]
          exact hf' w (by omega)
      · rw [en 4 (by omega)]
        exact keepA hat4 (by omega) (by decide)
      · rw [r2] at hw
        by_cases c : w = v
        · rw [c, ey, r3']
          exact (A3c.fr F4 (fun z => by
            obtain ⟨y, hy, -⟩ := A3c
            exact h3e h ⟨_, hy, by show 0 ≠ 46; decide⟩ z)).cg (fun i hi => r7' i hi)
        · rw [en _ (by omega), r4 w (by omega)]
          have h9 : xst r w < 9 := (hS.2.2.1 w (by omega)).2.2.1.2
          have hd := d4 w (by omega)
          exact (keepA (hrts w (by omega)) (by omega) (by decide)).cg (fun i hi => r9 _ (by omega) (by omega))
      · rw [en 5 (by omega)]
        exact F4.2.2.2.2 _ _ (keep _ _ h5 (oK_ne h5 hgc (by show 45 ≠ 0; decide))) (fun z => oK_ne h5 hf (by show 45 ≠ 46; decide) z)
      · rw [en 6 (by omega)]
        exact F4.2.2.2.2 _ _ (keep _ _ h6 (oK_ne h6 hgc (by show 46 ≠ 0; decide))) (fun z => d36 (show E 6 = E 3 from z).symm)
      · rw [en 2 (by omega), en 4 (by omega)]
        exact d24
      · rw [en 3 (by omega), en 6 (by omega)]
        exact d36
      · rw [r2] at hw
        rw [en 4 (by omega)]
        by_cases c : w = v
        · rw [c, ey]
          have h4l : E 4 < T.2.2.length := hat4.lt
          omega
        · rw [en _ (by omega)]
          exact d4 w (by omega)
    have gE2' : xm_gR (xm_set T3 (E 3) (qC nv 6 (va_up f v (some h)))) (E 0) 8 1 = some (E 2) := gE2 _ (F4.2.2.2.2 _ _ he3 (fun z => n03 z))
    have sm3 : (xm_gA T3 h 0).isSome = true := A3c.sm
    have hE'S : ∀ a, S0.2.2.length ≤ E' a := fun z => by
      by_cases c : z = 20 + v
      · rw [c, ey]; exact hhS
      · rw [en z c]; exact hE z
    generalize xm_set T3 (E 3) (qC nv 6 (va_up f v (some h))) = T4 at *
    -- its text
    obtain ⟨T5, q5, c5, J5, O5⟩ := @tb_203 S0 T4 sc d p q E' r' nv 0 10 t _ J4 hO4 12 (by omega) (by omega)
    have len5 : (t ++ xm_str 12).length = t.length + 4 := by rw [List.length_append]; rfl
    obtain ⟨T6, q6, c6, J6, O6⟩ := @tb_205 S0 T5 sc d p q5 E' r' nv 0 10 _ _ J5 O5 room (by omega) (by omega)
    have len6 : ((t ++ xm_str 12) ++ [nI (48 + room)]).length = t.length + 5 := by rw [List.length_append, len5]; rfl
    have hl10 : ∀ j, j < ns → l.getD j 0 < 10 := fun j hj => by
      have := stG_lt l none l2 j (by omega)
      omega
    obtain ⟨T7, q7, y16, J7, O7, e7⟩ := @t_343 S0 sc d a p E' r' nv 0 10 cvI u (nI b) (nI nv) v ns h l ((t ++ xm_str 12) ++ [nI (48 + room)]) l1 (by omega) hl10 (by omega) (by omega) r3' ey r7' ns 0 T6 q6 _ x16 (Nat.zero_add _) (by
      rw [List.take_zero]
      have e : ((t ++ xm_str 12) ++ [nI (48 + room)]) ++ tSt [] = (t ++ xm_str 12) ++ [nI (48 + room)] := List.append_nil _
      rw [e]
      exact J6) O6
    rw [nI_0] at e7
    have len7 : (((t ++ xm_str 12) ++ [nI (48 + room)]) ++ tSt l).length = t.length + 5 + 2 * ns := by rw [List.length_append, len6, tSt_len, l1]
    obtain ⟨T8, q8, c8, J8, O8⟩ := @tb_204 S0 T7 sc d p q7 E' r' nv 0 10 _ _ J7 O7 59 ⟨59, by omega, by decide⟩ (by omega)
    have et : ((((t ++ xm_str 12) ++ [nI (48 + room)]) ++ tSt l) ++ [59]) = t ++ tVan (room, l) := by
      rw [e12s]
      unfold tVan
      rw [List.append_assoc, List.append_assoc, List.append_assoc, List.append_assoc]
      rfl
    rw [et] at J8
    have a7 : xm_aI T5 (E 2) 0 (nI v) = some (nI room) := by
      obtain ⟨gg, hgg, hgg'⟩ := O5.2.1.1
      rw [en 2 (by omega)] at hgg
      have y := hgg.at hv (by omega)
      rw [hgg' v (by omega), r8'] at y
      exact y
    have gE2'' : xm_gR T5 (E 0) 8 1 = some (E 2) := by
      have y := O5.e
      rw [en 0 (by omega), en 1 (by omega), en 2 (by omega), en 3 (by omega), en 4 (by omega), en 5 (by omega), en 6 (by omega)] at y
      exact gE2 _ y
    have len12 : xm_len T6 h = some (nI ns) := by
      have y := O6.rt (show v < xnv r' by omega)
      rw [ey, r3'] at y
      exact y.len (by decide)
    rw [en 0 (by omega)] at e7
    refine ⟨(room, l), T8, E', q8, _, .int u, .int (nI ns), .ref h, .ref h, .int (nI ns), .int (nI ns), y16, ⟨hG, by show l.length ≤ 6; omega⟩, ?_, J8, by omega, hE'S, en 0 (by omega), ?_⟩
    · rw [hgr]
      exact O8
    · refine (show _ = _ from e3).trans ?_
      rw [yb_182_214 (by omega), if_pos (nI_le (Nat.le_refl _) (by omega)), gE3 _ he3, zbs, if_pos sm3, ew, zbs, if_pos J4.is, c5, zbs, xk_R, gE2'', zbs, a7, zbs, if_pos J5.is, c6, zbs, xk_R, len12, zbs]
      refine (show _ = _ from e7).trans ?_
      rw [yb_182_343 (by omega), if_pos (nI_le (Nat.le_refl _) (by omega)), if_pos J7.is, c8, zbs, xk_R, ← nI_succ]
  rw [yb_182_137 (by omega), if_neg (nI_ge hv (by omega)), ei, c178, zbs, xk_I, gE2 _ he, zbs, c177a, zbs, xk_I, n1p, hrm, e1, zbs]
  by_cases b2 : b = 2
  · have h3 : oMo (u >>> (2 &&& 31)) 3 < 3 := oMo_lt (by omega)
    have c177b : xm_C sc xt_M (d + 9) 177 [.int (u >>> (2 &&& 31)), .int 3] T1 = some (.inl (some (.int (nI (oMo (u >>> (2 &&& 31)) 3)))), T1) := oc_177y (k := 3) (by decide) (by omega) (by omega)
    obtain ⟨V, T', E', q', m', y10, y11, y12, y13, y14, y15, y16, w1, w2, w3, w4, w5, w6, w7⟩ := fin (2 + 2 * oMo (u >>> (2 &&& 31)) 3) v14 v15 v16 (by omega) (by omega) (fun _ => by omega)
    refine ⟨V, T', E', q', m', y10, y11, y12, y13, y14, y15, y16, w1, w2, w3, w4, w5, w6, ?_⟩
    rw [if_pos (show nI b = 2 by rw [b2]; decide), c177b, zbs, xk_I, n22p, if_neg (nI_pos (by omega)), nI_clamp (by omega), if_pos (by omega), oP_eq fl1.1 fl1.2]
    exact w7
  · have h3 : oMo (u >>> (2 &&& 31)) 5 < 5 := oMo_lt (by omega)
    have c177b : xm_C sc xt_M (d + 9) 177 [.int (u >>> (2 &&& 31)), .int 5] T1 = some (.inl (some (.int (nI (oMo (u >>> (2 &&& 31)) 5)))), T1) := oc_177y (k := 5) (by decide) (by omega) (by omega)
    obtain ⟨V, T', E', q', m', y10, y11, y12, y13, y14, y15, y16, w1, w2, w3, w4, w5, w6, w7⟩ := fin (2 + oMo (u >>> (2 &&& 31)) 5) v14 v15 v16 (by omega) (by omega) (fun z => absurd z b2)
    refine ⟨V, T', E', q', m', y10, y11, y12, y13, y14, y15, y16, w1, w2, w3, w4, w5, w6, ?_⟩
    rw [if_neg (show ¬ nI b = 2 from fun z => b2 (nI_inj (by omega) (by omega) (show nI b = nI 2 from z))), c177b, zbs, xk_I, n2p, if_neg (nI_pos (by omega)), nI_clamp (by omega), if_pos (by omega), oP_eq fl1.1 fl1.2]
    exact w7
end TW
