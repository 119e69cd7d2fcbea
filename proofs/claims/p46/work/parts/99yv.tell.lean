/-! TELL: whole -/
section TT
def ascL (l : List Int32) : Prop := ∀ y, y ∈ l → asc y
theorem ascL_a {l1 l2 : List Int32} (h1 : ascL l1) (h2 : ascL l2) : ascL (l1 ++ l2) := fun y hy => by
  rcases List.mem_append.mp hy with h | h
  · exact h1 y h
  · exact h2 y h
theorem ascL_s : ∀ k, k < 26 → ascL (xm_str k) := by
  have h : ∀ k, k < 26 → ∀ y, y ∈ xm_str k → y.toNatClampNeg < 128 ∧ y = nI y.toNatClampNeg := by decide +kernel
  exact fun k hk y hy => ⟨_, h k hk y hy⟩
theorem ascL_1 {y : Int32} (h : asc y) : ascL [y] := fun z hz => by rw [List.mem_singleton.mp hz]; exact h
theorem ascL_d {x : Nat} (hx : x < 10) : ascL (tDg x) := ascL_a (ascL_1 asc_32) (ascL_1 (asc_d hx))
theorem asc_59 : asc 59 := ⟨59, by omega, by decide⟩
theorem ascL_f {α : Type} {f : α → List Int32} : ∀ l : List α, (∀ x, x ∈ l → ascL (f x)) → ascL (l.flatMap f) := by
  intro l h y hy
  obtain ⟨x, hx, hxy⟩ := List.mem_flatMap.mp hy
  exact h x hx y hxy
theorem stG_m {b : Nat} : ∀ (l : List Nat) (w : Option Nat), stG b w l → ∀ x, x ∈ l → x < b := by
  intro l
  induction l with
  | nil => exact fun _ _ x hx => absurd hx (List.not_mem_nil)
  | cons s l ih =>
    intro w hG x hx
    obtain ⟨k1, k2, k3⟩ := (show s < b ∧ w ≠ some s ∧ stG b (some s) l from hG)
    rcases List.mem_cons.mp hx with h | h
    · rw [h]; exact k1
    · exact ih (some s) k3 x h
theorem ascL_v {b : Nat} {V : Nat × List Nat} (hb : b ≤ 6) (hG : vG b V) : ascL (tVan V) :=
  ascL_a (ascL_s 2 (by omega)) (ascL_a (ascL_d (by have := hG.1.2; omega)) (ascL_a (ascL_f _ (fun x hx => ascL_d (by have := stG_m _ _ hG.2.2.1 x hx; omega))) (ascL_1 asc_59)))
theorem akG_lt : ∀ (Qs : List (Nat × Nat × Nat)) (r : Nat → Int32), xBd r → xnq r + Qs.length ≤ 40 → akG r Qs → ∀ q, q ∈ Qs → q.1 < 10 ∧ q.2.1 < 10 ∧ q.2.2 < 10 := by
  intro Qs
  induction Qs with
  | nil => exact fun _ _ _ _ q hq => absurd hq (List.not_mem_nil)
  | cons q Qs ih =>
    intro r hB h40 hG y hy
    rw [List.length_cons] at h40
    obtain ⟨⟨g1, g2, g3, g4, g5⟩, g6⟩ := (show (q.1 < xnk r ∧ q.1 < 10 ∧ q.2.1 < 10 ∧ q.2.2 < xnb r ∧ sp_by r (nI q.1) (nI q.2.1) = none) ∧ akG (aAsk r q) Qs from hG)
    have hb6 := hB.b6
    obtain ⟨c1, -⟩ := kAddq_c (r := r) (a := nI q.1) (rd := nI q.2.1) (b := nI q.2.2) hB (by omega)
    have c1' : xnq (aAsk r q) = xnq r + 1 := c1
    rcases List.mem_cons.mp hy with h | h
    · rw [h]; exact ⟨g2, g3, by omega⟩
    · exact ih (aAsk r q) (sp_addq_bd hB (by omega)) (by omega) g6 y h
theorem dTx_asc {b : Nat} {V : Nat × List Nat} {Vs : List (Nat × List Nat)} {Ks : List Nat} {H : Option Nat} {Qs : List (Nat × Nat × Nat)} (hG : dG b V Vs Ks H Qs) : ascL (dTx b V Vs Ks H Qs) := by
  obtain ⟨hb, ⟨hV, hVs⟩, h3, ⟨hK0, hK1, hK2⟩, hH, hQ, hA⟩ := hG
  obtain ⟨s1, s2, s3, s4⟩ := dRK_ok hb hV hVs h3 ⟨hK1, hK2⟩
  have hB : xBd (dRH b V Vs Ks H) := (aHold_c s1.1).1
  have hc := xn_cg (r := dRK b V Vs Ks) (r' := dRH b V Vs Ks H) (fun i hi => (aHold_c s1.1).2 i (by omega))
  have hq0 : xnq (dRH b V Vs Ks H) = 0 := by
    rw [hc.2.2.2]
    unfold xnq
    rw [show dRK b V Vs Ks 3 = 0 from s1.2.2.2.2.2.2.1]
    rfl
  have hlt := akG_lt Qs (dRH b V Vs Ks H) hB (by omega) hA
  unfold dTx
  refine ascL_a (ascL_s 1 (by omega)) (ascL_a (ascL_d (by omega)) (ascL_a (l1 := [59]) (ascL_1 asc_59) (ascL_a (ascL_v hb.2 hV) (ascL_a (ascL_f _ (fun W hW => ascL_v hb.2 (hVs W hW))) (ascL_a (ascL_f _ (fun x hx => ?_)) (ascL_a ?_ (ascL_f _ (fun q hq => ?_))))))))
  · exact ascL_a (ascL_s 3 (by omega)) (ascL_a (ascL_d (by have := hK2 x hx; omega)) (ascL_1 asc_59))
  · cases H with
    | none => exact fun y hy => absurd hy (List.not_mem_nil)
    | some x => exact ascL_a (ascL_s 4 (by omega)) (ascL_a (ascL_d (by have := hH x rfl; omega)) (ascL_1 asc_59))
  · obtain ⟨q1, q2, q3⟩ := hlt q hq
    exact ascL_a (ascL_s 5 (by omega)) (ascL_a (ascL_d q1) (ascL_a (ascL_d q2) (ascL_a (ascL_d q3) (ascL_1 asc_59))))
theorem dRH_W {b : Nat} {V : Nat × List Nat} {Vs : List (Nat × List Nat)} {Ks : List Nat} {H : Option Nat} (hG : dG b V Vs Ks H []) (hl : (dTx b V Vs Ks H []).length < 2 ^ 30) : xWF (dRH b V Vs Ks H) := by
  have hp := all_ok hG (f := fun i => (dTx b V Vs Ks H []).getD i 0) (n := (dTx b V Vs Ks H []).length) hl (hat_all _) rfl
  have tw : sp_tw (fun i => (dTx b V Vs Ks H []).getD i 0) (dTx b V Vs Ks H []).length (tk (fun i => (dTx b V Vs Ks H []).getD i 0) (dTx b V Vs Ks H []).length 0) := sp_tw_scan (Nat.zero_le _)
  have e0 : (sp_all (fun i => (dTx b V Vs Ks H []).getD i 0) (dTx b V Vs Ks H []).length (tk (fun i => (dTx b V Vs Ks H []).getD i 0) (dTx b V Vs Ks H []).length 0, r0Z)).1.2.2.2.1 = 0 := by rw [hp, tk_end]
  have k1 := (sp_all_ok (r := r0Z) tw e0).1
  rw [hp] at k1
  exact k1
variable {w : xW} {ext : List xm_PC} {sc : xm_Sc} {d n a : Nat} {r : Nat → Int32} {hs : Nat → Nat → Int32} {sn : Option (Nat → Int32)}
/-- tell: a script's beginning, on the class and on the law's own picture -/
theorem oc_182 (hsc : sc.1 ≤ 260) (hI : cI w r n hs sn) (ha : 191 ≤ a) (hS : sdI w (xL w ext) a []) : ∃ w' ext' L r', xm_C sc xt_M (d + 10) 182 [.ref 0, .ref a, .retAddr 5000, .int 0] (xL w ext) = some (.inl (some (.ref (L 0))), xL w' ext') ∧ oI (xL w' ext') L r' 0 ∧ (∀ z, 191 ≤ L z) ∧ cI w' r' 0 hs none ∧ rS r' ∧ rD r' ∧ r' 4 = 0 ∧ (1 ≤ xnk r' ∧ xnk r' ≤ 5) ∧ oF (xL w ext) (xL w' ext') 4000 (sdW a) := by
  obtain ⟨b, nv, cv, T0, E0, p, q0, m0, hb, hnv, O0, J0, hm0, hE0, fl0, e0⟩ := @t_0 (xL w ext) sc d a hsc rfl rfl
  obtain ⟨s1, s2, s3, s4⟩ := @kSn_beg r0Z b hb.1 hb.2
  obtain ⟨W, T1, E1, q1, m1, r1, t1, y10, y11, y12, y13, y14, y15, y16, a1, a2, a3, a4, a5, a6, a7, a8, a9, a10, a11, a12, a13, a14, a15⟩ := @t_vans (xL w ext) sc d a p b nv cv hsc hb hnv.2 nv 0 [] T0 E0 q0 m0 (sp_beg r0Z b) (xm_str 1 ++ (tDg b ++ [59])) .null .null .null .null .null .null .null (Nat.zero_add _) rfl rfl (fun V hV => absurd hV (List.not_mem_nil)) (List.append_nil _).symm (by show 11 ≤ 11 + 20 * 0; omega) s1 s2 s4 s3 O0 J0 hE0
  rw [nI_0] at a15
  obtain ⟨nk, T2, E2, hnk, O2, J2, hE2, b14, b15⟩ := @t_mid (xL w ext) sc d a p b nv cv T1 E1 q1 m1 r1 t1 y10 y11 y12 y13 y14 y15 y16 hnv.2 a9 a10 a11 a13
  obtain ⟨K, T3, E3, q3, m3, r3, t3, z11, c1, c2, c3, c4, c5, c6, c7, c8, c9, c10, c11, c12, c13, c14, c15⟩ := @t_books (xL w ext) sc d a p b nv nk cv r1 t1 (nI nv) y12 y13 y14 y15 y16 hb hnk.2 nk 0 [] T2 E2 q1 (m1 + 1) r1 t1 y11 (Nat.zero_add _) rfl rfl (fun V hV => absurd hV (List.not_mem_nil)) (List.append_nil _).symm (by omega) a6 a7 a8 a9 O2 J2 hE2
  rw [nI_0] at c15
  obtain ⟨H, T4, q4, m4, d1, O4, J4, d4, d15⟩ := @t_hold (xL w ext) sc d a p b nv nk cv T3 E3 q3 m3 r3 t3 (nI nv) z11 y12 y13 y14 y15 y16 hnk.2 c10 c11 c13 (by omega)
  have I4 := tO_oI c6 c7 c9 O4
  -- the data
  obtain ⟨V, Vs, eW⟩ : ∃ V Vs, W = V :: Vs := by
    cases W with
    | nil => exact absurd a1 (by show ¬ 0 = nv; omega)
    | cons V Vs => exact ⟨V, Vs, rfl⟩
  subst eW
  have hK0 : K ≠ [] := by
    intro z
    rw [z] at c1
    have : 0 = nk := c1
    omega
  have er1 : r1 = dRV b V Vs := a2
  have er3 : r3 = dRK b V Vs K := by rw [c2, er1]; rfl
  rw [er3] at I4
  have hV := a3 V List.mem_cons_self
  have hVs : ∀ X, X ∈ Vs → vG b X := fun X hX => a3 X (List.mem_cons_of_mem _ hX)
  have hVl : Vs.length ≤ 3 := by have : Vs.length + 1 = nv := a1; omega
  have hG0 : dG b V Vs K H [] := ⟨hb, ⟨hV, hVs⟩, hVl, ⟨hK0, by omega, c3⟩, d1, by show 0 ≤ 40; omega, trivial⟩
  have etv : t3 ++ tHold H = dTx b V Vs K H [] := by
    rw [c4, a4]
    unfold dTx
    rw [List.flatMap_cons]
    show _ = xm_str 1 ++ (tDg b ++ ([59] ++ (tVan V ++ (Vs.flatMap tVan ++ (K.flatMap tBook ++ (tHold H ++ []))))))
    simp only [List.append_assoc, List.append_nil]
  have hHl : (tHold H).length ≤ 7 := by
    cases H with
    | none => show 0 ≤ 7; omega
    | some x => show 7 ≤ 7; omega
  have tl : (t3 ++ tHold H).length ≤ 140 := by
    rw [List.length_append]
    omega
  have hW4 : xWF (dRH b V Vs K H) := dRH_W hG0 (by rw [← etv]; omega)
  obtain ⟨u1, u2, u3, u4⟩ := dRK_ok hb hV hVs hVl ⟨(show K.length ≤ 10 by omega), c3⟩
  have hc := xn_cg (r := dRK b V Vs K) (r' := dRH b V Vs K H) (fun i hi => (aHold_c u1.1).2 i (by omega))
  have hq0 : xnq (dRH b V Vs K H) = 0 := by
    rw [hc.2.2.2]
    unfold xnq
    rw [show dRK b V Vs K 3 = 0 from u1.2.2.2.2.2.2.1]
    rfl
  obtain ⟨Q, T5, L, q5, m5, r5, t5, x11, x12, x13, x14, x15, x16, g1, g2, g3, g4, g5, I5, J5, g8, g9, g10, g11⟩ := @t_asks (xL w ext) sc d a p b nk cv (nI nv) (t3 ++ tHold H) (dRH b V Vs K H) hsc hb hnk 5 0 [] T4 E3 q4 m4 (dRH b V Vs K H) (t3 ++ tHold H) z11 y12 y13 y14 y15 y16 (Nat.zero_add _) (Nat.le_refl _) trivial rfl (List.append_nil _).symm (by omega) hW4 (hc.1.trans u2) (by rw [hc.2.2.1, u4]; exact c1) (by omega) I4 J4 c13
  rw [nI_0] at g11
  have hG : dG b V Vs K H Q := ⟨hb, ⟨hV, hVs⟩, hVl, ⟨hK0, by omega, c3⟩, d1, by omega, g2⟩
  have et5 : t5 = dTx b V Vs K H Q := by
    rw [g4, etv]
    unfold dTx
    show (xm_str 1 ++ (tDg b ++ ([59] ++ (tVan V ++ (Vs.flatMap tVan ++ (K.flatMap tBook ++ (tHold H ++ [])))))) ) ++ Q.flatMap tAsk = xm_str 1 ++ (tDg b ++ ([59] ++ (tVan V ++ (Vs.flatMap tVan ++ (K.flatMap tBook ++ (tHold H ++ Q.flatMap tAsk))))))
    simp only [List.append_assoc, List.append_nil]
  have er5 : r5 = dRQ b V Vs K H Q := g3
  have hsd : sdT t5 := ⟨by omega, fun i hi => by
    rw [et5] at hi ⊢
    have hmem : (dTx b V Vs K H Q).getD i 0 ∈ dTx b V Vs K H Q := by
      rw [List.getD_eq_getElem?_getD, List.getElem?_eq_getElem hi]
      exact List.getElem_mem hi
    exact dTx_asc hG _ hmem⟩
  -- the text, said and loaded
  obtain ⟨cap5, sb5⟩ := J5.1
  obtain ⟨T6, s, qs, k6, st6, F6, ls, lq⟩ := @ms_206 T5 sc (d + 3) p q5 cap5 t5 sb5 (by omega)
  have I6 := I5.nw F6
  have O6 := J5.2.1.nx F6 (fun z hz => False.elim hz)
  obtain ⟨ext6, ex6⟩ := oF_to O6 (fun h z => False.elim z)
  subst ex6
  have hl0 : (xL w ext).2.2.length = 191 + ext.length := xL_len
  have hl5 : 191 ≤ T5.2.2.length := by
    have := J5.2.1.2.1
    omega
  have hS6 : sdI w (xL w ext6) a [] := ⟨hS.1.fr O6 id, hS.2⟩
  have haw : a < (xL w ext).2.2.length := hS.1.lt
  obtain ⟨w7, ext7, k7, S7, J7, F7⟩ := @sy_181R sc (d + 3) n a r hs sn ha t5 hsd s qs (by omega) (by omega) w ext6 st6 hI hS6
  obtain ⟨w8, ext8, k8, E8, J8, F8⟩ := @sy_180 sc (d + 3) n a r hs sn ha t5 hsd w7 ext7 J7 S7
  obtain ⟨w9, k9, J9, S9⟩ := @ld_ok b V Vs K H Q w8 ext8 sc d n a r hs sn hG J8 ha t5 et5 hsd E8
  have hLa : ∀ z, (xL w ext).2.2.length ≤ L z := g9
  have I7 : oI (xL w7 ext7) L r5 0 := I6.fr F7 (fun z _ hz => by
    have h1 := hLa z
    rcases hz with h | h <;> omega)
  have I8 : oI (xL w8 ext8) L r5 0 := I7.fr F8 (fun z _ hz => by
    have h1 := hLa z
    rcases hz with h | h <;> omega)
  have hL191 : ∀ z, 191 ≤ L z := fun z => by have := hLa z; omega
  have I9 : oI (xL w9 ext8) L r5 0 := I8.cls hL191
  obtain ⟨⟨v1, v2, v3, v4⟩, v5, v6, v7⟩ := dRQ_ok hG
  refine ⟨w9, ext8, L, r5, ?_, I9, hL191, by rw [er5]; exact J9, by rw [er5]; exact v6, by rw [er5]; exact v7, ?_, ?_, ?_⟩
  · rw [e0, a15, ← a14, b15, ← b14, c15, ← c14, d15, g11, yb_182_549 (by omega), if_pos (by decide), if_pos J5.is, k6, zbs, xk_R, k7, zbs, xk_v, k8, zbs, xk_I, if_pos (cI.is w8), k9, zbs, xk_I, c1, if_pos rfl, g10]
  · rw [er5, v5 4 (by omega) (by omega) (by omega)]
    exact u1.2.2.2.2.2.2.2.1
  · rw [er5, v3]
    omega
  · exact (((O6.nw (Nat.le_refl _)).tr F7).tr (F8.tr (oF_xL.mo (Nat.le_refl _) (fun _ _ _ z => Or.inl z)))).mo (by omega) (fun _ _ _ z => z)
end TT
