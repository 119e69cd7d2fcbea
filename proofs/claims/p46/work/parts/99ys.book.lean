/-! TELL: a book -/
section TK2
variable {S0 : xm_PS} {sc : xm_Sc} {d a p : Nat} {b nv nk : Nat} {cv : Int32}
theorem oTh_cg2 {r r' : Nat → Int32} {k : Nat} (h : ∀ i, 56 + 6 * k ≤ i → i < 62 + 6 * k → r' i = r i) : oTh r' k = oTh r k := oTh_cg h
theorem t_book {T : xm_PS} {E : Nat → Nat} {q m k : Nat} {r : Nat → Int32} {t : List Int32} {i7 : Int32} {v11 v12 v13 v14 v15 v16 : Value} (hb : 2 ≤ b ∧ b ≤ 6) (hk : k < nk) (hnk : nk ≤ 5) (hS : kSn r) (eb : xnb r = b) (ek : xnk r = k) (hO : tO T E r nv nk 10) (hJ : txJ S0 T p q t m) (hE : ∀ a, S0.2.2.length ≤ E a) (ht : t.length ≤ 91 + 7 * k) :
    ∃ (x : Nat) (T' : xm_PS) (E' : Nat → Nat) (q' m' : Nat) (y11 : Value), x < b ∧ tO T' E' (aBook r x) nv nk 10 ∧ txJ S0 T' p q' (t ++ tBook x) m' ∧ m' ≤ m + 70 ∧ (∀ a, S0.2.2.length ≤ E' a) ∧ E' 0 = E 0 ∧
      xm_R sc xt_M (d + 9) 182 416 [.ref 0, .ref a, .retAddr 5000, .int 0, .ref (E 0), .int cv, .int (nI b), .int i7, .ref p, .int (nI nk), .int (nI k), v11, v12, v13, v14, v15, v16] [] T = xm_R sc xt_M (d + 9) 182 416 [.ref 0, .ref a, .retAddr 5000, .int 0, .ref (E 0), .int cv, .int (nI b), .int i7, .ref p, .int (nI nk), .int (nI (k + 1)), y11, v12, v13, v14, v15, v16] [] T' := by
  have hx : oMo (cv >>> ((9 + nI k) &&& 31)) b < b := oMo_lt (by omega)
  have c177 : ∀ S, xm_C sc xt_M (d + 9) 177 [.int (cv >>> ((9 + nI k) &&& 31)), .int (nI b)] S = some (.inl (some (.int (nI (oMo (cv >>> ((9 + nI k) &&& 31)) b)))), S) := fun S => oc_177 (by omega) (by omega)
  generalize oMo (cv >>> ((9 + nI k) &&& 31)) b = x at *
  obtain ⟨⟨⟨f1, f2⟩, he, hop⟩, ⟨⟨g, hg, hg'⟩, ⟨f, hf, hf'⟩, hat4, hrts⟩, ⟨⟨f5, h5, h5'⟩, ⟨f6, h6⟩, hth⟩, ⟨d24, d36⟩, d4, d30⟩ := id hO
  obtain ⟨r1, r2, r3, r4, r5⟩ := aBook_ok (x := x) hS (by omega) (by rw [eb]; exact hx)
  obtain ⟨t1, t2⟩ := @aBook_e r x hS (by omega)
  rw [ek] at t1 t2 r4
  -- the thing
  have hN : (oP T (.inr (9, xm_new 9))).2.2[T.2.2.length]? = some (.inr (9, [.int 0, .int 0, .int 0, .int 0, .int 0, .int 0])) := oP_at
  have F1 : oF T (oP T (.inr (9, xm_new 9))) 1 oN := oF_P (by decide)
  have e175 := @oc_175 sc (d + 8) (oP T (.inr (9, xm_new 9))) T.2.2.length _ _ _ _ _ _ hN
  have J1 := hJ.nw F1
  have fl1 : (oP T (.inr (9, xm_new 9))).1 = true ∧ (oP T (.inr (9, xm_new 9))).2.1 = 0 := ⟨f1, f2⟩
  have eP : ∀ K, xm_push T (.inr (9, xm_new 9)) K = K T.2.2.length (oP T (.inr (9, xm_new 9))) := fun K => oP_eq f1 f2
  generalize hT1 : oP T (.inr (9, xm_new 9)) = T1 at *
  have hSh : S0.2.2.length ≤ T.2.2.length := by
    have := hJ.2.1.2.1
    exact this
  have old : ∀ y c, T.2.2[y]? = some c → y < T.2.2.length := fun y c hc => os_lt hc
  generalize hh : T.2.2.length = h at *
  have F2 : oF T1 (xm_set T1 h (.inr (9, [.int 0, .int 0, .int 0, .int (-1), .int (-1), .int 0]))) 0 (fun z => z = h) := oF_S hN rfl rfl
  have hN2 : (xm_set T1 h (.inr (9, [.int 0, .int 0, .int 0, .int (-1), .int (-1), .int 0]))).2.2[h]? = some (.inr (9, [.int 0, .int 0, .int 0, .int (-1), .int (-1), .int 0])) := oS_get hN
  have J2 := J1.w1 F2 hSh hN (by show 109 ≠ 1; decide) (by show 109 ≠ 111; decide)
  generalize xm_set T1 h (.inr (9, [.int 0, .int 0, .int 0, .int (-1), .int (-1), .int 0])) = T2 at *
  have s3 : xm_sF T2 h 9 2 (.int (nI x)) = some (xm_set T2 h (.inr (9, [.int 0, .int 0, .int (nI x), .int (-1), .int (-1), .int 0]))) := og_S hN2 (by show 2 < 6; omega)
  have F3 : oF T2 (xm_set T2 h (.inr (9, [.int 0, .int 0, .int (nI x), .int (-1), .int (-1), .int 0]))) 0 (fun z => z = h) := oF_S hN2 rfl rfl
  have hN3 : (xm_set T2 h (.inr (9, [.int 0, .int 0, .int (nI x), .int (-1), .int (-1), .int 0]))).2.2[h]? = some (.inr (9, [.int 0, .int 0, .int (nI x), .int (-1), .int (-1), .int 0])) := oS_get hN2
  have J3 := J2.w1 F3 hSh hN2 (by show 109 ≠ 1; decide) (by show 109 ≠ 111; decide)
  generalize xm_set T2 h (.inr (9, [.int 0, .int 0, .int (nI x), .int (-1), .int (-1), .int 0])) = T3 at *
  have s4 : xm_sF T3 h 9 1 (.int (nI x)) = some (xm_set T3 h (.inr (9, [.int 0, .int (nI x), .int (nI x), .int (-1), .int (-1), .int 0]))) := og_S hN3 (by show 1 < 6; omega)
  have F4 : oF T3 (xm_set T3 h (.inr (9, [.int 0, .int (nI x), .int (nI x), .int (-1), .int (-1), .int 0]))) 0 (fun z => z = h) := oF_S hN3 rfl rfl
  have hN4 : (xm_set T3 h (.inr (9, [.int 0, .int (nI x), .int (nI x), .int (-1), .int (-1), .int 0]))).2.2[h]? = some (.inr (9, [.int 0, .int (nI x), .int (nI x), .int (-1), .int (-1), .int 0])) := oS_get hN3
  have J4 := J3.w1 F4 hSh hN3 (by show 109 ≠ 1; decide) (by show 109 ≠ 111; decide)
  generalize xm_set T3 h (.inr (9, [.int 0, .int (nI x), .int (nI x), .int (-1), .int (-1), .int 0])) = T4 at *
  have F14 : oF T T4 (1 + (0 + (0 + 0))) (fun z => z = h) := (F1.nw (Nat.le_refl _)).tr (F2.tr (F3.tr F4))
  have keep : ∀ y c, T.2.2[y]? = some c → T4.2.2[y]? = some c := fun y c hc => F14.2.2.2.2 _ _ hc (fun z => by
    have := old y c hc
    have z' : y = h := z
    omega)
  have hO4 : tO T4 E r nv nk 10 := hO.fr F14 (fun z hz hzz => by
    obtain ⟨c, hc, -⟩ := hO.cell hz
    have := old _ _ hc
    have z' : E z = h := hzz
    omega)
  have h54 := keep _ _ h5
  have ew : xm_wQ T4 (E 5) 5 (nI k) h = some (xm_set T4 (E 5) (qC nk 5 (va_up f5 k (some h)))) := wQ_c h54 hk (by omega)
  have F5 : oF T4 (xm_set T4 (E 5) (qC nk 5 (va_up f5 k (some h)))) 0 (fun z => z = E 5) := oF_S h54 rfl rfl
  have hq5 : (xm_set T4 (E 5) (qC nk 5 (va_up f5 k (some h)))).2.2[E 5]? = some (qC nk 5 (va_up f5 k (some h))) := oS_get h54
  have J5 := J4.w1 F5 (hE 5) h54 (by show 45 ≠ 1; decide) (by show 45 ≠ 111; decide)
  have hth5 : (xm_set T4 (E 5) (qC nk 5 (va_up f5 k (some h)))).2.2[h]? = some (.inr (9, [.int 0, .int (nI x), .int (nI x), .int (-1), .int (-1), .int 0])) := F5.2.2.2.2 _ _ hN4 (fun z => oK_ne hN4 h54 (by show 109 ≠ 45; decide) z)
  have gh4 : xm_gI T4 h 9 2 = some (nI x) := og_I hN4 rfl
  have isT4 : xm_isO T4 (.ref h) 9 = true := og_O hN4
  have gE5 : xm_gR T4 (E 0) 8 4 = some (E 5) := og_R (keep _ _ he) rfl
  obtain ⟨E', hE'⟩ : ∃ E' : Nat → Nat, E' = fun z => if z = 30 + k then h else E z := ⟨_, rfl⟩
  have en : ∀ z, z ≠ 30 + k → E' z = E z := fun z hz => by rw [hE']; exact if_neg hz
  have ey : E' (30 + k) = h := by rw [hE']; exact if_pos rfl
  have hr' : ∃ r', r' = aBook r x := ⟨_, rfl⟩
  obtain ⟨r', er'⟩ := hr'
  rw [← er'] at r1 r2 r3 r4 r5 t1 t2
  have hB := hS.1
  have hb6 := hB.b6
  have hv4 := hB.v4
  obtain ⟨⟨⟨a1, a2⟩, b1, b2⟩, ⟨⟨gg, c1, c1'⟩, ⟨ff, c2, c2'⟩, c3, c4⟩, ⟨-, ⟨f6', d2⟩, d3⟩, -⟩ := id hO4
  have n5 : ∀ {y : Nat} {c : xm_PC}, T4.2.2[y]? = some c → oK c ≠ 45 → (xm_set T4 (E 5) (qC nk 5 (va_up f5 k (some h)))).2.2[y]? = some c := fun hc kc => F5.2.2.2.2 _ _ hc (fun z => oK_ne hc h54 kc z)
  have nA : ∀ {y ty n : Nat} {gq : Nat → Int32}, oA T4 y ty n gq → ty ≠ 45 → oA (xm_set T4 (E 5) (qC nk 5 (va_up f5 k (some h)))) y ty n gq := fun ho hty => by
    obtain ⟨w, hw, hw2⟩ := ho
    exact ⟨w, n5 hw hty, hw2⟩
  have hO5 : tO (xm_set T4 (E 5) (qC nk 5 (va_up f5 k (some h)))) E' r' nv nk 10 := by
    refine ⟨⟨⟨a1, a2⟩, ?_, ?_⟩, ⟨⟨gg, ?_, fun w hw => ?_⟩, ⟨ff, ?_, fun w hw => ?_⟩, ?_, fun w hw => ?_⟩, ⟨⟨va_up f5 k (some h), ?_, fun j hj => ?_⟩, ⟨f6', ?_⟩, fun j hj => ?_⟩, ⟨?_, ?_⟩, fun w hw => ?_, fun j j2 hjj hj2 => ?_⟩
    · rw [en 0 (by omega), en 1 (by omega), en 2 (by omega), en 3 (by omega), en 4 (by omega), en 5 (by omega), en 6 (by omega)]
      exact n5 b1 (by show 108 ≠ 45; decide)
    · rw [en 1 (by omega), r5]
      exact nA b2 (by decide)
    · rw [en 2 (by omega)]
      exact nA c1 (by decide)
    · rw [r2] at hw
      rw [t2 _ (by omega) (by omega)]
      exact c1' w hw
    · rw [en 3 (by omega)]
      exact n5 c2 (by show 46 ≠ 45; decide)
    · rw [r2] at hw
      rw [en _ (by omega)]
      exact c2' w hw
    · rw [en 4 (by omega)]
      exact nA c3 (by decide)
    · rw [r2] at hw
      have h9 : xst r w < 9 := (hS.2.2.1 w hw).2.2.1.2
      rw [en _ (by omega), r3 w (by omega)]
      exact (nA (c4 w hw) (by decide)).cg (fun i hi => t2 _ (by omega) (by omega))
    · rw [en 5 (by omega)]
      exact hq5
    · rw [r4] at hj
      by_cases c : j = k
      · rw [c, va_up_s, ey]
      · rw [va_up_n c, en _ (by omega)]
        exact h5' j (by omega)
    · rw [en 6 (by omega)]
      exact n5 d2 (by show 46 ≠ 45; decide)
    · rw [r4] at hj
      by_cases c : j = k
      · rw [c, ey, t1]
        exact hth5
      · rw [en _ (by omega), oTh_cg2 (r := r) (fun i h1 h2 => t2 i (by omega) (by omega))]
        exact n5 (d3 j (by omega)) (by show 109 ≠ 45; decide)
    · rw [en 2 (by omega), en 4 (by omega)]
      exact d24
    · rw [en 3 (by omega), en 6 (by omega)]
      exact d36
    · rw [r2] at hw
      rw [en 4 (by omega), en _ (by omega)]
      exact d4 w hw
    · rw [r4] at hj2
      rw [en (30 + j) (by omega)]
      by_cases c : j2 = k
      · rw [c, ey]
        exact old _ _ (hth j (by omega))
      · rw [en _ (by omega)]
        exact d30 j j2 hjj (by omega)
  have hE'S : ∀ a, S0.2.2.length ≤ E' a := fun z => by
    by_cases c : z = 30 + k
    · rw [c, ey]; exact hSh
    · rw [en z c]; exact hE z
  generalize xm_set T4 (E 5) (qC nk 5 (va_up f5 k (some h))) = T5 at *
  obtain ⟨T6, q6, c6, J6, O6⟩ := @tb_203 S0 T5 sc d p q E' r' nv nk 10 t _ J5 hO5 13 (by omega) (by omega)
  have len6 : (t ++ xm_str 13).length = t.length + 5 := by rw [List.length_append]; rfl
  obtain ⟨T7, q7, c7, J7, O7⟩ := @tb_205 S0 T6 sc d p q6 E' r' nv nk 10 _ _ J6 O6 x (by omega) (by omega)
  have len7 : ((t ++ xm_str 13) ++ [nI (48 + x)]).length = t.length + 6 := by rw [List.length_append, len6]; rfl
  obtain ⟨T8, q8, c8, J8, O8⟩ := @tb_204 S0 T7 sc d p q7 E' r' nv nk 10 _ _ J7 O7 59 ⟨59, by omega, by decide⟩ (by omega)
  have et : ((t ++ xm_str 13) ++ [nI (48 + x)]) ++ [59] = t ++ tBook x := by
    rw [e13s]
    unfold tBook
    rw [List.append_assoc, List.append_assoc, List.append_assoc]
    rfl
  rw [et] at J8
  have gh6 : xm_gI T6 h 9 2 = some (nI x) := by
    have y := O6.2.2.1.2.2 k (by omega)
    rw [ey, t1] at y
    exact og_I y rfl
  refine ⟨x, T8, E', q8, _, .ref h, hx, by rw [← er']; exact O8, J8, by omega, hE'S, en 0 (by omega), ?_⟩
  rw [yb_182_416 (by omega), if_neg (nI_ge hk (by omega)), eP, e175, zbs, xk_v, c177, zbs, xk_I, s3, zbs, show xm_gI T3 h 9 2 = some (nI x) from og_I hN3 rfl, zbs, s4, zbs, gE5, zbs, if_pos isT4, ew, zbs, if_pos J5.is, c6, zbs, xk_R, gh6, zbs, if_pos J6.is, c7, zbs, xk_R, if_pos J7.is, c8, zbs, xk_R, ← nI_succ]
end TK2
