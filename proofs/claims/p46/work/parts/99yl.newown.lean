/-! TELL: a new Own -/
section NO
variable {S : xm_PS} {sc : xm_Sc} {d e k h n t : Nat} {fs : List Value}
theorem oP_wI {f : Nat → Int32} {i : Nat} {y : Int32} (hi : i < n) (hn : n < 2 ^ 31) : xm_wI (oP S (.inl (t, n, .inl f))) S.2.2.length t (nI i) y = some (oP S (.inl (t, n, .inl (upd f i y)))) := by
  unfold xm_wI xm_gA
  rw [show (oP S (.inl (t, n, .inl f))).2.2[S.2.2.length]? = some (.inl (t, n, .inl f)) from oP_at]
  dsimp only
  rw [if_pos rfl]
  dsimp only
  rw [if_pos (xin hi hn), nI_clamp (by omega), oP_set]
theorem wQ_c {f : Nat → Option Nat} {i y : Nat} (hc : S.2.2[h]? = some (.inl (t, n, .inr (.inr (.inr (.inr f)))))) (hi : i < n) (hn : n < 2 ^ 31) : xm_wQ S h t (nI i) y = some (xm_set S h (.inl (t, n, .inr (.inr (.inr (.inr (va_up f i (some y)))))))) := by
  unfold xm_wQ xm_gQ
  rw [hc]
  dsimp only
  rw [if_pos rfl]
  dsimp only
  rw [if_pos (xin hi hn), nI_clamp (by omega)]
/-- a new cell put into a field of e -/
theorem pg_F (f1 : S.1 = true) (f2 : S.2.1 = 0) (he : S.2.2[e]? = some (.inr (8, fs))) (hk : k < fs.length) {c : xm_PC} (hz : xm_sz c ≤ 50) : ∃ S', xm_sF (oP S c) e 8 k (.ref S.2.2.length) = some S' ∧ (S'.1 = true ∧ S'.2.1 = 0) ∧ S'.2.2[e]? = some (.inr (8, fs.set k (.ref S.2.2.length))) ∧ S'.2.2[S.2.2.length]? = some c ∧ oF S S' 1 (fun z => z = e) ∧ S.2.2.length < S'.2.2.length := by
  have hl := os_lt he
  have h1 : (oP S c).2.2[e]? = some (.inr (8, fs)) := oP_old he
  have F1 : oF S (oP S c) 1 (fun z => z = e) := oF_P hz
  have F2 : oF (oP S c) (xm_set (oP S c) e (.inr (8, fs.set k (.ref S.2.2.length)))) 0 (fun z => z = e) := oF_S h1 (by show (fs.set k _).length = fs.length; rw [List.length_set]) rfl
  refine ⟨xm_set (oP S c) e (.inr (8, fs.set k (.ref S.2.2.length))), og_S h1 hk, ⟨f1, f2⟩, oS_get h1, ?_, F1.tr F2, ?_⟩
  · rw [os_ne (by omega)]
    exact oP_at
  · show _ < ((S.2.2 ++ [c]).set _ _).length
    rw [List.length_set, List.length_append]
    show _ < _ + 1
    omega
theorem pf_S (f1 : S.1 = true) (f2 : S.2.1 = 0) (he : S.2.2[e]? = some (.inr (8, fs))) (hk : k < fs.length) {v : Value} : ∃ S', xm_sF S e 8 k v = some S' ∧ (S'.1 = true ∧ S'.2.1 = 0) ∧ S'.2.2[e]? = some (.inr (8, fs.set k v)) ∧ oF S S' 0 (fun z => z = e) ∧ S'.2.2.length = S.2.2.length :=
  ⟨xm_set S e (.inr (8, fs.set k v)), og_S he hk, ⟨f1, f2⟩, oS_get he, oF_S he (by show (fs.set k v).length = fs.length; rw [List.length_set]) rfl, List.length_set ..⟩
/-- the constructor -/
theorem oc_157 (f1 : S.1 = true) (f2 : S.2.1 = 0) (he : S.2.2[e]? = some (.inr (8, xm_new 8))) : ∃ S' x0 x1 x2 x3 x4 x5, xm_C sc xt_M (d + 1) 157 [.ref e] S = some (.inl none, S') ∧ (S'.1 = true ∧ S'.2.1 = 0) ∧ S'.2.2[e]? = some (.inr (8, [.ref x0, .ref x1, .ref x2, .ref x3, .ref x4, .ref x5, .int 0, .int 10, .int 0])) ∧ (∃ f, S'.2.2[x4]? = some (.inl (5, 0, .inr (.inr (.inr (.inr f)))))) ∧ (∃ f, S'.2.2[x5]? = some (.inl (6, 0, .inr (.inr (.inr (.inr f)))))) ∧ oF S S' 7 (fun z => z = e) ∧ S.2.2.length ≤ x4 ∧ S.2.2.length ≤ x5 := by
  have c2 : (2 : Int32).toNatClampNeg = 2 := by decide
  have c1 : (1 : Int32).toNatClampNeg = 1 := by decide
  have c0 : (0 : Int32).toNatClampNeg = 0 := by decide
  have w0 : ∀ (S : xm_PS) (t n : Nat) (f : Nat → Int32) (y : Int32), 0 < n → n < 2 ^ 31 → xm_wI (oP S (.inl (t, n, .inl f))) S.2.2.length t 0 y = some (oP S (.inl (t, n, .inl (upd f 0 y)))) := fun S t n f y h1 h2 => oP_wI (i := 0) h1 h2
  have w1 : ∀ (S : xm_PS) (t n : Nat) (f : Nat → Int32) (y : Int32), 1 < n → n < 2 ^ 31 → xm_wI (oP S (.inl (t, n, .inl f))) S.2.2.length t 1 y = some (oP S (.inl (t, n, .inl (upd f 1 y)))) := fun S t n f y h1 h2 => oP_wI (i := 1) h1 h2
  rw [yc_157, if_neg (by decide), c2, if_pos (by omega), oP_eq f1 f2, w0 _ _ _ _ _ (by omega) (by omega), zbs, w1 _ _ _ _ _ (by omega) (by omega), zbs]
  obtain ⟨S1, e1, ⟨a1, a2⟩, he1, -, F1, l1⟩ := pg_F f1 f2 he (k := 0) (by decide) (c := .inl (3, 2, .inl (upd (upd (fun _ => 0) 0 1) 1 1))) (by show 2 ≤ 50; omega)
  rw [e1, zbs, if_neg (by decide), c1, if_pos (by omega), oP_eq a1 a2, w0 _ _ _ _ _ (by omega) (by omega), zbs]
  obtain ⟨S2, e2, ⟨b1, b2⟩, he2, -, F2, l2⟩ := pg_F a1 a2 he1 (k := 1) (by show 1 < 9; omega) (c := .inl (0, 1, .inl (upd (fun _ => 0) 0 5))) (by show 1 ≤ 50; omega)
  rw [e2, zbs, if_neg (by decide), if_pos (by omega), oP_eq b1 b2]
  -- the routes
  have hq1 : (oP S2 (.inl (6, 1, .inr (.inr (.inr (.inr fun _ => none)))))).2.2[S2.2.2.length]? = some (.inl (6, 1, .inr (.inr (.inr (.inr fun _ => none))))) := oP_at
  have g1 : (oP S2 (.inl (6, 1, .inr (.inr (.inr (.inr fun _ => none)))))).1 = true := b1
  have g2 : (oP S2 (.inl (6, 1, .inr (.inr (.inr (.inr fun _ => none)))))).2.1 = 0 := b2
  have he3 : (oP S2 (.inl (6, 1, .inr (.inr (.inr (.inr fun _ => none)))))).2.2[e]? = _ := oP_old he2
  have F3 : oF S2 (oP S2 (.inl (6, 1, .inr (.inr (.inr (.inr fun _ => none)))))) 1 (fun z => z = e) := oF_P (by show 1 ≤ 50; omega)
  generalize hT : oP S2 (.inl (6, 1, .inr (.inr (.inr (.inr fun _ => none))))) = T at *
  generalize hp : S2.2.2.length = p at *
  rw [if_neg (by decide), if_pos (by omega), oP_eq g1 g2, w0 _ _ _ _ _ (by omega) (by omega), zbs, w1 _ _ _ _ _ (by omega) (by omega), zbs]
  have hgA : (xm_gA (oP T (.inl (0, 2, .inl (upd (upd (fun _ => 0) 0 0) 1 1)))) T.2.2.length 0).isSome = true := (oTf_A (S := T) (n := 2)).sm
  have hpT := os_lt hq1
  have heT := os_lt he3
  have hq2 : (oP T (.inl (0, 2, .inl (upd (upd (fun _ => 0) 0 0) 1 1)))).2.2[p]? = some (.inl (6, 1, .inr (.inr (.inr (.inr fun _ => none))))) := oP_old hq1
  have ew : xm_wQ (oP T (.inl (0, 2, .inl (upd (upd (fun _ => 0) 0 0) 1 1)))) p 6 0 T.2.2.length = some (xm_set (oP T (.inl (0, 2, .inl (upd (upd (fun _ => 0) 0 0) 1 1)))) p (.inl (6, 1, .inr (.inr (.inr (.inr (va_up (fun _ => none) 0 (some T.2.2.length)))))))) := wQ_c (i := 0) hq2 (by omega) (by omega)
  rw [if_pos hgA, ew, zbs]
  have he4 : (oP T (.inl (0, 2, .inl (upd (upd (fun _ => 0) 0 0) 1 1)))).2.2[e]? = _ := oP_old he3
  have nep : e ≠ p := oK_ne he3 hq1 (by show 108 ≠ 46; decide)
  have he5 : (xm_set (oP T (.inl (0, 2, .inl (upd (upd (fun _ => 0) 0 0) 1 1)))) p (.inl (6, 1, .inr (.inr (.inr (.inr (va_up (fun _ => none) 0 (some T.2.2.length)))))))).2.2[e]? = _ := (os_ne nep).trans he4
  have F4 : oF T (oP T (.inl (0, 2, .inl (upd (upd (fun _ => 0) 0 0) 1 1)))) 1 (fun z => z = p) := oF_P (by show 2 ≤ 50; omega)
  have F5 : oF (oP T (.inl (0, 2, .inl (upd (upd (fun _ => 0) 0 0) 1 1)))) (xm_set (oP T (.inl (0, 2, .inl (upd (upd (fun _ => 0) 0 0) 1 1)))) p (.inl (6, 1, .inr (.inr (.inr (.inr (va_up (fun _ => none) 0 (some T.2.2.length)))))))) 0 (fun z => z = p) := oF_S hq2 rfl rfl
  have k1 : (xm_set (oP T (.inl (0, 2, .inl (upd (upd (fun _ => 0) 0 0) 1 1)))) p (.inl (6, 1, .inr (.inr (.inr (.inr (va_up (fun _ => none) 0 (some T.2.2.length)))))))).1 = true := g1
  have k2 : (xm_set (oP T (.inl (0, 2, .inl (upd (upd (fun _ => 0) 0 0) 1 1)))) p (.inl (6, 1, .inr (.inr (.inr (.inr (va_up (fun _ => none) 0 (some T.2.2.length)))))))).2.1 = 0 := g2
  have F45 : oF S2 (xm_set (oP T (.inl (0, 2, .inl (upd (upd (fun _ => 0) 0 0) 1 1)))) p (.inl (6, 1, .inr (.inr (.inr (.inr (va_up (fun _ => none) 0 (some T.2.2.length)))))))) (1 + (1 + 0)) (fun z => z = e) := F3.tr2 (F4.tr F5) (fun x c hc z => by
    have := os_lt hc
    have z' : x = p := z
    omega)
  generalize xm_set (oP T (.inl (0, 2, .inl (upd (upd (fun _ => 0) 0 0) 1 1)))) p (.inl (6, 1, .inr (.inr (.inr (.inr (va_up (fun _ => none) 0 (some T.2.2.length))))))) = U at *
  obtain ⟨S3, c3, ⟨m1, m2⟩, he6, F6, -⟩ := pf_S k1 k2 he5 (k := 2) (by show 2 < 9; omega) (v := .ref p)
  rw [c3, zbs]
  have F06 := (F1.tr F2).tr (F45.tr F6)
  rw [if_neg (by decide), if_pos (by omega), oP_eq m1 m2, w0 _ _ _ _ _ (by omega) (by omega), zbs]
  obtain ⟨S4, e4, ⟨n1, n2⟩, he7, -, F7, l4⟩ := pg_F m1 m2 he6 (k := 3) (by show 3 < 9; omega) (c := .inl (0, 1, .inl (upd (fun _ => 0) 0 0))) (by show 1 ≤ 50; omega)
  rw [e4, zbs, if_neg (by decide), c0, if_pos (by omega), oP_eq n1 n2]
  obtain ⟨S5, e5, ⟨o1, o2⟩, he8, hb5, F8, l5⟩ := pg_F n1 n2 he7 (k := 4) (by show 4 < 9; omega) (c := .inl (5, 0, .inr (.inr (.inr (.inr fun _ => none))))) (by show 0 ≤ 50; omega)
  rw [e5, zbs, if_neg (by decide), if_pos (by omega), oP_eq o1 o2]
  obtain ⟨S6, e6, ⟨q1, q2⟩, he9, hb6, F9, l6⟩ := pg_F o1 o2 he8 (k := 5) (by show 5 < 9; omega) (c := .inl (6, 0, .inr (.inr (.inr (.inr fun _ => none))))) (by show 0 ≤ 50; omega)
  obtain ⟨S7, c7, ⟨r1, r2⟩, he10, F10, -⟩ := pf_S q1 q2 he9 (k := 7) (by show 7 < 9; omega) (v := .int 10)
  rw [e6, zbs, c7, zbs]
  have L1 := F06.2.1
  have hbe : S4.2.2.length ≠ e := by
    have := os_lt he7
    omega
  have hbe2 : S5.2.2.length ≠ e := by
    have := os_lt he8
    omega
  have b6 := F9.2.2.2.2 _ _ hb5 (fun z => hbe z)
  have b7 := F10.2.2.2.2 _ _ b6 (fun z => hbe z)
  have b8 := F10.2.2.2.2 _ _ hb6 (fun z => hbe2 z)
  have L7 := F7.2.1
  exact ⟨_, _, _, _, _, _, _, rfl, ⟨r1, r2⟩, he10, ⟨_, b7⟩, ⟨_, b8⟩, ((F06.tr (F7.tr (F8.tr F9))).tr F10).mo (by omega) (fun _ _ _ z => z), by omega, by omega⟩
end NO
