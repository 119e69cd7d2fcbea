/-! THE LAW: up to its loop -/
section LT
variable {sc : xm_Sc}
theorem zz_A {m : xG} : ((xcA m).map xm_sz).sum = 12 := by simp [xcA, xm_sz]
theorem zz_P {h : Nat} {m : xG} : ((xcP h m).map xm_sz).sum = 72 := by simp [xcP, xm_sz]
theorem zz_S {h : Nat} {m : xG} : ((xcS h m).map xm_sz).sum = 278 := by simp [xcS, xm_sz]
theorem zz_B {m : xG} : ((xcB m).map xm_sz).sum = 1066 := by simp [xcB, xm_sz]
theorem zz_C {m : xG} : ((xcC m).map xm_sz).sum = 37 := by simp [xcC, xm_sz]
theorem zz_D {m : xG} : ((xcD m).map xm_sz).sum = 13 := by simp [xcD, xm_sz]
theorem zz_M {m : xG} {l : Nat → Nat → Int64} : ((xcM m l).map xm_sz).sum = 0 := rfl
theorem xL_sn {w : xW} {ext : List xm_PC} : xm_sn (xL w ext) = 4886 + (ext.map xm_sz).sum := by
  show ((xcells w xl0 ++ ext).map xm_sz).sum + 6 * 0 = _
  rw [List.map_append, List.sum_append]
  have e : ((xcells w xl0).map xm_sz).sum = 4886 := by
    unfold xcells xcF
    simp only [List.map_append, List.sum_append, zz_A, zz_P, zz_S, zz_B, zz_C, zz_D, zz_M]
  rw [e]
  omega
theorem lw_run {S0 S1 S2 S3 S4 S5 S6 S7 S8 S9 S10 S11 S12 S13 S14 S15 S16 : xm_PS} {y : Int32} {hE h6 : Nat} {va : Int64} (eP : ∀ K, xm_push S0 (.inr (7, xm_new 7)) K = K 0 S1) (eC : xm_C sc xt_M 10 106 [.ref 0] S1 = some (.inl none, S2)) (eA : ∀ K, xm_push S2 (.inl (0, 6, .inl fun _ => 0)) K = K 191 S3)
    (e1 : xm_C sc xt_M 10 181 [.ref 0, .ref 191, .retAddr 25] S3 = some (.inl none, S4)) (e2 : xm_C sc xt_M 10 180 [.ref 0, .ref 191] S4 = some (.inl (some (.int y)), S5)) (i5 : xm_isO S5 (.ref 0) 7 = true) (e3 : xm_C sc xt_M 10 109 [.ref 0, .int y] S5 = some (.inl (some (.int 2)), S6)) (i6 : xm_isO S6 (.ref 0) 7 = true)
    (e4 : xm_C sc xt_M 10 112 [.ref 0, .int 0, .int 3] S6 = some (.inl (some (.int 3)), S6)) (e5 : xm_C sc xt_M 10 120 [.ref 0, .int 0, .int 3] S6 = some (.inl (some (.int 2)), S6)) (e6 : xm_C sc xt_M 10 130 [.ref 0] S6 = some (.inl (some (.int 2)), S7)) (i7 : xm_isO S7 (.ref 0) 7 = true) (e7 : xm_C sc xt_M 10 141 [.ref 0, .int 3] S7 = some (.inl (some (.int 1)), S8)) (i8 : xm_isO S8 (.ref 0) 7 = true)
    (e8 : xm_C sc xt_M 10 112 [.ref 0, .int 0, .int 3] S8 = some (.inl (some (.int 1)), S8)) (e9 : xm_C sc xt_M 10 129 [.ref 0] S8 = some (.inl (some (.int 1)), S8)) (e10 : xm_C sc xt_M 10 122 [.ref 0, .int 1, .int 2] S8 = some (.inl (some (.int 2)), S8)) (e11 : xm_C sc xt_M 10 124 [.ref 0, .int 0] S8 = some (.inl (some (.int 4)), S9)) (i9 : xm_isO S9 (.ref 0) 7 = true) (e12 : xm_C sc xt_M 10 125 [.ref 0, .int 0, .int 2] S9 = some (.inl (some (.int 4)), S10)) (i10 : xm_isO S10 (.ref 0) 7 = true)
    (e13 : xm_C sc xt_M 10 142 [.ref 0, .int 3] S10 = some (.inl (some (.int 1)), S11)) (i11 : xm_isO S11 (.ref 0) 7 = true) (e14 : xm_C sc xt_M 10 136 [.ref 0, .int 0] S11 = some (.inl (some (.int (-3))), S11)) (e15 : xm_C sc xt_M 10 135 [.ref 0, .int 0, .int 1] S11 = some (.inl (some (.int 0)), S12)) (i12 : xm_isO S12 (.ref 0) 7 = true) (e16 : xm_C sc xt_M 10 118 [.ref 0, .int 0, .int 2] S12 = some (.inl (some (.int 0)), S12))
    (et : xm_C sc xt_M 10 182 [.ref 0, .ref 191, .retAddr 5000, .int 0] S12 = some (.inl (some (.ref hE)), S13)) (es : xm_C sc xt_M 10 187 [.ref 0] S13 = some (.inl (some (.int 1)), S13)) (en : xm_C sc xt_M 10 184 [.ref 0, .ref hE] S13 = some (.inl (some (.int 1)), S14)) (i14 : xm_isO S14 (.ref 0) 7 = true) (ep : xm_C sc xt_M 10 149 [.ref 0] S14 = some (.inl none, S15)) (ea : xm_C sc xt_M 10 186 [.ref 0] S15 = some (.inl (some (.long va)), S15)) (eG : ∀ K, xm_push S15 (.inl (2, 10, .inr (.inl fun _ => 0))) K = K h6 S16) :
    xm_R sc xt_M 10 189 0 [.retAddr 5000, .null, .null, .null, .null, .null, .null, .null, .null, .null, .null, .null, .null, .null] [] S0 = xm_R sc xt_M 10 189 208 [.retAddr 5000, .ref 0, .ref 191, .ref hE, .long va, .null, .ref h6, .int 0, .int 0, .null, .null, .null, .null, .null] [] S16 := by
  have c6 : (6 : Int32).toNatClampNeg = 6 := by decide
  have c10 : (10 : Int32).toNatClampNeg = 10 := by decide
  rw [yb_189_0 (by omega), eP, eC, zbs, xk_v, if_neg (by decide), c6, if_pos (by omega), eA, e1, zbs, xk_v, e2, zbs, xk_I, if_pos i5, e3, zbs, xk_I, if_pos rfl, if_pos i6, e4, zbs, xk_I, if_pos rfl, if_pos i6, e5, zbs, xk_I, if_pos rfl, if_pos i6, e6, zbs, xk_I, if_pos rfl, if_pos i7, e7, zbs, xk_I, if_pos rfl, if_pos i8, e8, zbs, xk_I, if_pos rfl, if_pos i8, e9, zbs, xk_I, if_pos rfl, if_pos i8, e10, zbs, xk_I, if_pos rfl, if_pos i8, e11, zbs, xk_I, if_pos rfl, if_pos i9, e12, zbs, xk_I, if_pos rfl, if_pos i10, e13, zbs, xk_I, if_pos rfl, if_pos i11, e14, zbs, xk_I, if_pos rfl, if_pos i11, e15, zbs, xk_I, if_pos rfl, if_pos i12, e16, zbs, xk_I, if_pos rfl, et, zbs, xk_R, es, zbs, xk_I, if_neg (by decide), en, zbs, xk_I, if_neg (by decide), if_pos i14, ep, zbs, xk_v, ea, zbs, xk_L, if_neg (by decide), c10, if_pos (by omega), eG]
theorem oF_0 {S0 S1 : xm_PS} {W : Nat → Prop} (F : oF S0 S1 0 W) (l0 : S0.2.2.length = 192) (s0 : xm_sn S0 = 4886 + 6) : S1.2.2.length ≤ 192 ∧ xm_sn S1 ≤ 4892 := by
  have a1 := F.2.2.1
  have a2 := F.2.2.2.1
  omega
theorem lw_b {w9 : xW} {ext2 : List xm_PC} {n9 : Nat} {r9 : Nat → Int32} {hs9 : Nat → Nat → Int32} (hsc : sc.1 ≤ 260) (J9 : cI w9 r9 n9 hs9 none) (S9 : sdI w9 (xL w9 ext2) 191 []) : ∃ (wt : xW) (extt : List xm_PC) (wn : xW) (extn : List xm_PC) (wp : xW) (extp : List xm_PC) (L : Nat → Nat) (r : Nat → Int32) (h6 : Nat), xm_C sc xt_M 10 182 [.ref 0, .ref 191, .retAddr 5000, .int 0] (xL w9 ext2) = some (.inl (some (.ref (L 0))), xL wt extt) ∧ xm_C sc xt_M 10 187 [.ref 0] (xL wt extt) = some (.inl (some (.int 1)), xL wt extt) ∧ xm_C sc xt_M 10 184 [.ref 0, .ref (L 0)] (xL wt extt) = some (.inl (some (.int 1)), xL wn extn) ∧ xm_C sc xt_M 10 149 [.ref 0] (xL wn extn) = some (.inl none, xL wp extn) ∧ xm_C sc xt_M 10 186 [.ref 0] (xL wp extn) = some (.inl (some (.long (aAll r))), xL wp extn) ∧ (∀ K, xm_push (xL wp extn) (.inl (2, 10, .inr (.inl fun _ => 0))) K = K h6 (xL wp extp)) ∧ cI wp r 0 hs9 (some r) ∧ oI (xL wp extp) L r 0 ∧ (∀ z, 191 ≤ L z) ∧ rS r ∧ rD r ∧ r 4 = nI 0 ∧ (1 ≤ xnk r ∧ xnk r ≤ 5) ∧ (∃ f, (xL wp extp).2.2[h6]? = some (.inl (2, 10, .inr (.inl f)))) ∧ 191 ≤ h6 ∧ oF (xL w9 ext2) (xL wp extp) 21101 (sdW 191) := by
  obtain ⟨wt, extt, L, r, et, It, hL, Jt, hrS, hrD, hr4, ⟨hk1, hk5⟩, Ft⟩ := @oc_182 w9 ext2 sc 0 n9 191 r9 hs9 none hsc J9 (Nat.le_refl _) S9
  have es := @oc_187 wt extt sc 3 0 r hs9 none Jt hrS
  obtain ⟨wn, extn, Jn, Fn, en⟩ := @oc_184 wt extt sc 3 0 r hs9 none L 0 Jt hrD It hL hk5 hk1
  have In := It.oc hL Fn
  obtain ⟨wp, ep, Jp⟩ := @la_149 wn extn sc 7 0 r hs9 none Jn
  have Ip := In.cls (w' := wp) hL
  have ea := @oc_186 wp extn sc 3 0 r hs9 (some r) Jp
  have eG : ∀ K, xm_push (xL wp extn) (.inl (2, 10, .inr (.inl fun _ => 0))) K = K (xL wp extn).2.2.length (xL wp (extn ++ [.inl (2, 10, .inr (.inl fun _ => 0))])) := fun K => by
    rw [oP_eq rfl rfl, xL_P]
  have hg : (xL wp (extn ++ [.inl (2, 10, .inr (.inl fun _ => 0))])).2.2[(xL wp extn).2.2.length]? = some (.inl (2, 10, .inr (.inl fun _ => 0))) := by
    rw [← xL_P]
    exact oP_at
  have FG : oF (xL wp extn) (xL wp (extn ++ [.inl (2, 10, .inr (.inl fun _ => 0))])) 1 oN := by
    rw [← xL_P]
    exact oF_P (by show 10 ≤ 50; omega)
  have Ig := Ip.nw FG
  have ll : 191 ≤ (xL wp extn).2.2.length := by rw [xL_len]; exact Nat.le_add_right _ _
  have Fp : oF (xL wn extn) (xL wp extn) 0 oC := oF_xL
  have FF : oF (xL w9 ext2) (xL wp (extn ++ [.inl (2, 10, .inr (.inl fun _ => 0))])) (4000 + (17100 + (0 + 1))) (sdW 191) := Ft.tr ((Fn.mo (Nat.le_refl _) (fun _ _ _ z => Or.inl z)).tr ((Fp.mo (Nat.le_refl _) (fun _ _ _ z => Or.inl z)).tr (FG.nw (Nat.le_refl _))))
  generalize (xL wp extn).2.2.length = h6 at *
  generalize hep : extn ++ [.inl (2, 10, .inr (.inl fun _ => 0))] = extp at *
  exact ⟨wt, extt, wn, extn, wp, extp, L, r, h6, et, es, en, ep, ea, eG, Jp, Ig, hL, hrS, hrD, by rw [hr4, nI_0], ⟨hk1, hk5⟩, ⟨fun _ => 0, hg⟩, ll, FF⟩
theorem lw_a : ∃ (w9 : xW) (ext2 : List xm_PC) (n9 : Nat) (hs9 : Nat → Nat → Int32), cI w9 fxD n9 hs9 none ∧ sdI w9 (xL w9 ext2) 191 [] ∧ (xL w9 ext2).2.2.length ≤ 192 ∧ xm_sn (xL w9 ext2) ≤ 4892 ∧ ∀ {S13 S14 S15 S16 : xm_PS} {hE h6 : Nat} {va : Int64}, xm_C sc xt_M 10 182 [.ref 0, .ref 191, .retAddr 5000, .int 0] (xL w9 ext2) = some (.inl (some (.ref hE)), S13) → xm_C sc xt_M 10 187 [.ref 0] S13 = some (.inl (some (.int 1)), S13) → xm_C sc xt_M 10 184 [.ref 0, .ref hE] S13 = some (.inl (some (.int 1)), S14) → xm_isO S14 (.ref 0) 7 = true → xm_C sc xt_M 10 149 [.ref 0] S14 = some (.inl none, S15) → xm_C sc xt_M 10 186 [.ref 0] S15 = some (.inl (some (.long va)), S15) → (∀ K, xm_push S15 (.inl (2, 10, .inr (.inl fun _ => 0))) K = K h6 S16) →
    xm_R sc xt_M 10 189 0 [.retAddr 5000, .null, .null, .null, .null, .null, .null, .null, .null, .null, .null, .null, .null, .null] [] (true, 0, []) = xm_R sc xt_M 10 189 208 [.retAddr 5000, .ref 0, .ref 191, .ref hE, .long va, .null, .ref h6, .int 0, .int 0, .null, .null, .null, .null, .null] [] S16 := by
  obtain ⟨I0, z0⟩ := en1_I
  have eC := @en1_C sc
  generalize wv ec1 = w0 at *
  have eP : ∀ K, xm_push (true, 0, []) (.inr (7, xm_new 7)) K = K 0 (true, 0, [.inr (7, xm_new 7)]) := fun K => oP_eq rfl rfl
  have eA : ∀ K, xm_push (xL w0 []) (.inl (0, 6, .inl fun _ => 0)) K = K 191 (xL w0 [.inl (0, 6, .inl fun _ => 0)]) := fun K => by
    rw [oP_eq rfl rfl, xL_P]
    have e : (xL w0 []).2.2.length = 191 := xL_len
    rw [e]
    rfl
  have hA : oA (xL w0 [.inl (0, 6, .inl fun _ => 0)]) 191 0 6 (fun _ => 0) := by
    have e : (xL w0 []).2.2.length = 191 := xL_len
    have z := @oTf_A (xL w0 []) (fun _ => 0) 6
    rw [e] at z
    have e2 : oTf (xL w0 []) 6 (fun _ => 0) = xL w0 [.inl (0, 6, .inl fun _ => 0)] := xL_P
    rw [e2] at z
    exact z
  have hS0 : sdI w0 (xL w0 [.inl (0, 6, .inl fun _ => 0)]) 191 [] := ⟨hA.cg (fun j hj => by
    show (if j = 5 then nI 0 else pW _ 0 j) = 0
    by_cases e : j = 5
    · rw [if_pos e, nI_0]
    · rw [if_neg e]
      rfl), z0, fun i hi => absurd hi (Nat.not_lt_zero i)⟩
  have l0 : (xL w0 [.inl (0, 6, .inl fun _ => 0)]).2.2.length = 192 := xL_len
  have sn0 : xm_sn (xL w0 [.inl (0, 6, .inl fun _ => 0)]) = 4886 + 6 := xL_sn
  obtain ⟨w1, ext1, w2, ext2, w3, w4, w5, w6, w7, w8, w9, n9, hs9, e1, e2, e3, e4, e5, e6, e7, e8, e9, e10, e11, e12, e13, e14, e15, e16, J9, S9, F9⟩ := @fx_all w0 [.inl (0, 6, .inl fun _ => 0)] sc 0 er0 _ none I0 hS0
  have is0 : ∀ (w : xW) (ext : List xm_PC), xm_isO (xL w ext) (.ref 0) 7 = true := fun w ext => cI.is w
  obtain ⟨q1, q2⟩ := oF_0 F9 l0 sn0
  exact ⟨w9, ext2, n9, hs9, J9, S9, q1, q2, fun et es en i14 ep ea eG => lw_run eP eC eA e1 e2 (is0 _ _) e3 (is0 _ _) e4 e5 e6 (is0 _ _) e7 (is0 _ _) e8 e9 e10 e11 (is0 _ _) e12 (is0 _ _) e13 (is0 _ _) e14 e15 (is0 _ _) e16 et es en i14 ep ea eG⟩
end LT
