/-! THE LAW: its start -/
section LS
variable {w : xW} {ext : List xm_PC} {sc : xm_Sc} {d n : Nat} {r : Nat → Int32} {hs : Nat → Nat → Int32} {sn : Option (Nat → Int32)}
theorem lb_130 (hI : cI w r n hs sn) : ∃ w', xm_C sc xt_M (d + 6) 130 [.ref 0] (xL w ext) = some (.inl (some (.int (kHub r (xnb r)).1)), xL w' ext) ∧ cI w' r n hs sn ∧ (w' 0).1 0 = (w 0).1 0 := by
  obtain ⟨f, e⟩ := @kd_130 w xl0 0 sc d r hI.R
  exact ⟨_, xL_C e, cI_keep hI kKeep_0, congrFun (kKeep_0 (w := w) (f := f)).2.1 0⟩
theorem lb_am {j : Nat} {as : List Value} {e : Int32 → Nat} {s : Int32 × Int32} (hI : cI w r n hs sn) (h : kAm (xm_C sc xt_M d j as (xem w xl0 0)) w xl0 0 e s) (h0 : s.1 = 0) : ∃ w', xm_C sc xt_M d j as (xL w ext) = some (.inl (some (.int s.2)), xL w' ext) ∧ cI w' r n hs sn ∧ (w' 0).1 0 = (w 0).1 0 := by
  rcases h with ⟨_, w', h1, h2⟩ | ⟨z, _⟩
  · exact ⟨w', xL_C h1, cI_keep hI h2, congrFun h2.2.1 0⟩
  · exact absurd h0 z
theorem lb_op {j : Nat} {as : List Value} {e : Int32 → Nat} {s : Int32 × Int32 × Option (Nat → Int32)} (hI : cI w r n hs sn) (h : ∀ m, n ≤ 10 → m < 10 → (w 0).1 13 = nI n → (w 0).1 14 = nI m → kOpA (xm_C sc xt_M d j as (xem w xl0 0)) w xl0 0 n m e s) (h4 : q4 s (r 4)) {y : Int32} {r1 : Nat → Int32} (h1 : s.2.2.isSome = true) (h2 : s.2.1 = y) (h3 : ∀ i, i < 296 → r1 i = (s.2.2.getD r) i) : ∃ w', xm_C sc xt_M d j as (xL w ext) = some (.inl (some (.int y)), xL w' ext) ∧ cI w' r1 (cN n) (cPush n hs r) sn ∧ (w' 0).1 0 = (w 0).1 0 := by
  obtain ⟨b1, b3, m, b2, b5, b6⟩ := hI.2.2.1
  have A := h m b1 b2 b3 b5
  obtain ⟨x, y', z⟩ := s
  cases z with
  | none => cases h1
  | some r' =>
    have h2' : y' = y := h2
    subst h2'
    obtain ⟨_, w', e1, e2⟩ := (show x = 0 ∧ ∃ w', xm_C sc xt_M d j as (xem w xl0 0) = some (.inl (some (.int y')), xem w' xl0 0) ∧ kOps w w' r' n m from A)
    exact ⟨w', xL_C e1, cI_ext h3 (cI_op hI b2 b5 e2 (q4_to hI h4 r' rfl)), e2.2.2.1 0 (by omega) (by omega)⟩
theorem sd_z {a : Nat} {w' : xW} {t : List Int32} (ha : 191 ≤ a) (hS : sdI w (xL w ext) a []) (h : (w' 0).1 0 = (w 0).1 0) : sdI w' (xL w' ext) a [] := ⟨hS.1.fr oF_xL (fun z => by have : a < 191 := z; omega), h.trans hS.2.1, fun i hi => absurd hi (Nat.not_lt_zero i)⟩
/-- the first text's checks, one behind the other -/
theorem fx_all (hI : cI w r n hs sn) (hS : sdI w (xL w ext) 191 []) : ∃ w1 ext1 w2 ext2 w3 w4 w5 w6 w7 w8 w9 n9 hs9,
    xm_C sc xt_M 10 181 [.ref 0, .ref 191, .retAddr 25] (xL w ext) = some (.inl none, xL w1 ext1) ∧
    xm_C sc xt_M 10 180 [.ref 0, .ref 191] (xL w1 ext1) = some (.inl (some (.int (nI (xm_str 25).length))), xL w2 ext2) ∧
    xm_C sc xt_M 10 109 [.ref 0, .int (nI (xm_str 25).length)] (xL w2 ext2) = some (.inl (some (.int 2)), xL w3 ext2) ∧
    xm_C sc xt_M 10 112 [.ref 0, .int 0, .int 3] (xL w3 ext2) = some (.inl (some (.int 3)), xL w3 ext2) ∧
    xm_C sc xt_M 10 120 [.ref 0, .int 0, .int 3] (xL w3 ext2) = some (.inl (some (.int 2)), xL w3 ext2) ∧
    xm_C sc xt_M 10 130 [.ref 0] (xL w3 ext2) = some (.inl (some (.int 2)), xL w4 ext2) ∧
    xm_C sc xt_M 10 141 [.ref 0, .int 3] (xL w4 ext2) = some (.inl (some (.int 1)), xL w5 ext2) ∧
    xm_C sc xt_M 10 112 [.ref 0, .int 0, .int 3] (xL w5 ext2) = some (.inl (some (.int 1)), xL w5 ext2) ∧
    xm_C sc xt_M 10 129 [.ref 0] (xL w5 ext2) = some (.inl (some (.int 1)), xL w5 ext2) ∧
    xm_C sc xt_M 10 122 [.ref 0, .int 1, .int 2] (xL w5 ext2) = some (.inl (some (.int 2)), xL w5 ext2) ∧
    xm_C sc xt_M 10 124 [.ref 0, .int 0] (xL w5 ext2) = some (.inl (some (.int 4)), xL w6 ext2) ∧
    xm_C sc xt_M 10 125 [.ref 0, .int 0, .int 2] (xL w6 ext2) = some (.inl (some (.int 4)), xL w7 ext2) ∧
    xm_C sc xt_M 10 142 [.ref 0, .int 3] (xL w7 ext2) = some (.inl (some (.int 1)), xL w8 ext2) ∧
    xm_C sc xt_M 10 136 [.ref 0, .int 0] (xL w8 ext2) = some (.inl (some (.int (-3))), xL w8 ext2) ∧
    xm_C sc xt_M 10 135 [.ref 0, .int 0, .int 1] (xL w8 ext2) = some (.inl (some (.int 0)), xL w9 ext2) ∧
    xm_C sc xt_M 10 118 [.ref 0, .int 0, .int 2] (xL w9 ext2) = some (.inl (some (.int 0)), xL w9 ext2) ∧
    cI w9 fxD n9 hs9 none ∧ sdI w9 (xL w9 ext2) 191 [] ∧ oF (xL w ext) (xL w9 ext2) 0 (sdW 191) := by
  have ha : 191 ≤ 191 := Nat.le_refl _
  obtain ⟨w1, ext1, e1, S1, I1, F1⟩ := @sy_181 sc 4 n 191 25 r hs sn ha (by omega) fx_T w ext hI hS
  obtain ⟨w2, ext2, e2, E2, I2, F2⟩ := @sy_180 sc 4 n 191 r hs sn ha (xm_str 25) fx_T w1 ext1 I1 S1
  obtain ⟨w3, e3, I3, S3⟩ := @ld_ok 4 (9, [0, 1, 2]) [(1, [2, 3])] [0, 3] none [(0, 1, 3), (0, 2, 1)] w2 ext2 sc 1 n 191 r hs sn fx_G I2 ha (xm_str 25) fx_t.symm fx_T E2
  have J3 : cI w3 fxL 0 hs none := cI_ext fx_r I3
  have c4 := @la_112 w3 ext2 sc 4 0 fxL hs none 0 3 J3 (by rw [fx_1])
  rw [fx_1] at c4
  have c5 := @la_120 w3 ext2 sc 7 0 fxL hs none 0 3 J3 (by rw [fx_2])
  rw [fx_2] at c5
  obtain ⟨w4, c6, J4, z4⟩ := @lb_130 w3 ext2 sc 4 0 fxL hs none J3
  rw [fx_3] at c6
  have hB : xBd fxL := J3.W.bd
  obtain ⟨w5, c7, J5, z5⟩ := @lb_op w4 ext2 sc 10 0 fxL hs none 141 [.ref 0, .int 3] _ _ J4 (fun m h1 h2 h3 h4 => @kd_141 w4 xl0 0 sc 5 fxL 0 m 3 J4.R h1 h2 h3 h4) (q4_close J4.W) 1 fxC fx_4.2.1 fx_4.2.2 fx_4r
  have c8 := @la_112 w5 ext2 sc 4 _ fxC _ none 0 3 J5 (by rw [fx_5])
  rw [fx_5] at c8
  have c9 := @la_129 w5 ext2 sc 6 _ fxC _ none (sp_far fxC (fun _ => -1)) J5 (kFar_s J5.W.bd)
  rw [fx_6] at c9
  have c10 := @la_122 w5 ext2 sc 7 _ fxC _ none 1 2 J5 (by rw [fx_7])
  rw [fx_7] at c10
  obtain ⟨cc, hcc1, hcc2⟩ := J5.c4
  obtain ⟨w6, c11, J6, z6⟩ := @lb_am w5 ext2 sc 10 _ fxC _ none 124 [.ref 0, .int 0] _ _ J5 (@kd_124 w5 xl0 0 sc 3 fxU 0 cc J5.R hcc2 hcc1) (by rw [fx_a])
  rw [fx_a] at c11
  obtain ⟨w7, c12, J7, z7⟩ := @lb_am w6 ext2 sc 10 _ fxC _ none 125 [.ref 0, .int 0, .int 2] _ _ J6 (@kd_125 w6 xl0 0 sc 3 fxU 0 2 cc J6.R hcc2 hcc1) (by rw [fx_h])
  rw [fx_h] at c12
  obtain ⟨w8, c13, J8, z8⟩ := @lb_op w7 ext2 sc 10 _ fxC _ none 142 [.ref 0, .int 3] _ _ J7 (fun m h1 h2 h3 h4 => @kd_142 w7 xl0 0 sc 5 fxC _ m 3 J7.R h1 h2 h3 h4) q4_open 1 fxL fx_10.2.1 fx_10.2.2 fx_10r
  have c14 := cOp_none (@la_136 w8 ext2 sc 5 _ fxL _ none 0 J8 fx_11.1) fx_11.2.1 fx_11.2.2
  obtain ⟨w9, c15, J9, z9⟩ := @lb_op w8 ext2 sc 10 _ fxL _ none 135 [.ref 0, .int 0, .int 1] _ _ J8 (fun m h1 h2 h3 h4 => @kd_135 w8 xl0 0 sc 5 fxL _ m 0 1 J8.R h1 h2 h3 h4) (q4_cancel J8.W.bd) 0 fxD fx_12.2.1 fx_12.2.2 (fun i _ => rfl)
  have c16 := @la_118 w9 ext2 sc 6 _ fxD _ none 0 2 J9 (by rw [fx_13])
  rw [fx_13] at c16
  have S9 : sdI w9 (xL w9 ext2) 191 [] := @sd_z w3 ext2 191 w9 [] ha S3 (z9.trans (z8.trans (z7.trans (z6.trans (z5.trans z4)))))
  exact ⟨w1, ext1, w2, ext2, w3, w4, w5, w6, w7, w8, w9, _, _, e1, e2, e3, c4, c5, c6, c7, c8, c9, c10, c11, c12, c13, c14, c15, c16, J9, S9, (F1.tr F2).tr (oF_xL.mo (Nat.le_refl _) (fun _ _ _ z => Or.inl z))⟩
end LS
