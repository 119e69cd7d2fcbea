/-! THE LAW: its loop -/
section LL
variable {w : xW} {l : Nat → Nat → Int64} {t : Nat} {sc : xm_Sc} {d : Nat} {v5 v6 v7 v8 : Value}
theorem kl_lt {i n : Nat} (hi : i < 4000) (hn : n ≤ 3072) : (Int32.ofNat n - 6 < nI i) ↔ n < i + 6 := by
  have e6 : (6 : Int32).toInt = 6 := by decide
  have en : (Int32.ofNat n).toInt = n := nI_toInt (n := n) (by omega)
  rw [fa_lt, fb_subI (by rw [en, e6]; omega) (by rw [en, e6]; omega), en, e6, nI_toInt (by omega)]
  omega
theorem kl_in {i n : Nat} (hi : i + 6 ≤ n) (hn : n ≤ 3072) (hsc : sc.1 = n) : kIn sc (nI i) := by
  have e : ∀ k, k < 6 → xm_in (nI i + nI k) sc.1 = true := fun k hk => by
    rw [nI_add, hsc]
    exact xin (by omega) (by omega)
  exact ⟨e 1 (by omega), e 2 (by omega), e 3 (by omega), e 4 (by omega), e 5 (by omega)⟩
theorem kl_head {i n : Nat} (hi : i + 6 ≤ n) (hn : n ≤ 3072) (hsc : sc.1 = n) (hI : kInv w) : kGo t (xm_R sc xt_M (d + 40) 328 23 [.retAddr 5000, .ref 0, .ref 191, .ref 204, .int (nI i), v5, v6, v7, v8] [] (xem w l t)) sc d (nI i) := by
  have h := kl_in hi hn hsc
  rw [yb_328_23 (by omega), if_pos rfl, if_neg (by rw [hsc, kl_lt (by omega) hn]; omega), if_pos ⟨rfl, by rw [hsc]; exact xin (by omega) (by omega)⟩, xem_len]
  generalize ((sc.2 (nI i).toNatClampNeg) &&& 63).toInt = q
  by_cases h0 : q = 0
  · rw [if_pos h0]
    exact kl_228 hI h
  rw [if_neg h0]
  by_cases h1 : q = 1
  · rw [if_pos h1]
    exact kl_301 hI h
  rw [if_neg h1]
  by_cases h2 : q = 2
  · rw [if_pos h2]
    exact kl_357 hI h
  rw [if_neg h2]
  by_cases h3 : q = 3
  · rw [if_pos h3]
    exact kl_370 hI h
  rw [if_neg h3]
  by_cases h4 : q = 4
  · rw [if_pos h4]
    exact kl_426 hI h
  rw [if_neg h4]
  by_cases h5 : q = 5
  · rw [if_pos h5]
    exact kl_494 hI h
  rw [if_neg h5]
  by_cases h6 : q = 6
  · rw [if_pos h6]
    exact kl_562 hI h
  rw [if_neg h6]
  by_cases h7 : q = 7
  · rw [if_pos h7]
    exact kl_630 hI h
  rw [if_neg h7]
  by_cases h8 : q = 8
  · rw [if_pos h8]
    exact kl_698 hI h
  rw [if_neg h8]
  by_cases h9 : q = 9
  · rw [if_pos h9]
    exact kl_766 hI h
  rw [if_neg h9]
  by_cases h10 : q = 10
  · rw [if_pos h10]
    exact kl_846 hI h
  rw [if_neg h10]
  by_cases h11 : q = 11
  · rw [if_pos h11]
    exact kl_914 hI h
  rw [if_neg h11]
  by_cases h12 : q = 12
  · rw [if_pos h12]
    exact kl_939 hI h
  rw [if_neg h12]
  by_cases h13 : q = 13
  · rw [if_pos h13]
    exact kl_1007 hI h
  rw [if_neg h13]
  by_cases h14 : q = 14
  · rw [if_pos h14]
    exact kl_1082 hI h
  rw [if_neg h14]
  by_cases h15 : q = 15
  · rw [if_pos h15]
    exact kl_1150 hI h
  rw [if_neg h15]
  by_cases h16 : q = 16
  · rw [if_pos h16]
    exact kl_1218 hI h
  rw [if_neg h16]
  by_cases h17 : q = 17
  · rw [if_pos h17]
    exact kl_1274 hI h
  rw [if_neg h17]
  by_cases h18 : q = 18
  · rw [if_pos h18]
    exact kl_1342 hI h
  rw [if_neg h18]
  by_cases h19 : q = 19
  · rw [if_pos h19]
    exact kl_1422 hI h
  rw [if_neg h19]
  by_cases h20 : q = 20
  · rw [if_pos h20]
    exact kl_1435 hI h
  rw [if_neg h20]
  by_cases h21 : q = 21
  · rw [if_pos h21]
    exact kl_1448 hI h
  rw [if_neg h21]
  by_cases h22 : q = 22
  · rw [if_pos h22]
    exact kl_1461 hI h
  rw [if_neg h22]
  by_cases h23 : q = 23
  · rw [if_pos h23]
    exact kl_1474 hI h
  rw [if_neg h23]
  by_cases h24 : q = 24
  · rw [if_pos h24]
    exact kl_1515 hI h
  rw [if_neg h24]
  by_cases h25 : q = 25
  · rw [if_pos h25]
    exact kl_1558 hI h
  rw [if_neg h25]
  by_cases h26 : q = 26
  · rw [if_pos h26]
    exact kl_1638 hI h
  rw [if_neg h26]
  by_cases h27 : q = 27
  · rw [if_pos h27]
    exact kl_1706 hI h
  rw [if_neg h27]
  by_cases h28 : q = 28
  · rw [if_pos h28]
    exact kl_1762 hI h
  rw [if_neg h28]
  by_cases h29 : q = 29
  · rw [if_pos h29]
    exact kl_1830 hI h
  rw [if_neg h29]
  by_cases h30 : q = 30
  · rw [if_pos h30]
    exact kl_1898 hI h
  rw [if_neg h30]
  by_cases h31 : q = 31
  · rw [if_pos h31]
    exact kl_1954 hI h
  rw [if_neg h31]
  by_cases h32 : q = 32
  · rw [if_pos h32]
    exact kl_2022 hI h
  rw [if_neg h32]
  by_cases h33 : q = 33
  · rw [if_pos h33]
    exact kl_2078 hI h
  rw [if_neg h33]
  by_cases h34 : q = 34
  · rw [if_pos h34]
    exact kl_2134 hI h
  rw [if_neg h34]
  by_cases h35 : q = 35
  · rw [if_pos h35]
    exact kl_2190 hI h
  rw [if_neg h35]
  by_cases h36 : q = 36
  · rw [if_pos h36]
    exact kl_2246 hI h
  rw [if_neg h36]
  by_cases h37 : q = 37
  · rw [if_pos h37]
    exact kl_2302 hI h
  rw [if_neg h37]
  by_cases h38 : q = 38
  · rw [if_pos h38]
    exact kl_2327 hI h
  rw [if_neg h38]
  by_cases h39 : q = 39
  · rw [if_pos h39]
    exact kl_2340 hI h
  rw [if_neg h39]
  by_cases h40 : q = 40
  · rw [if_pos h40]
    exact kl_2353 hI h
  rw [if_neg h40]
  by_cases h41 : q = 41
  · rw [if_pos h41]
    exact kl_2364 hI h
  rw [if_neg h41]
  by_cases h42 : q = 42
  · rw [if_pos h42]
    exact kl_2377 hI h
  rw [if_neg h42]
  exact ⟨w, l, t, v5, v6, v7, v8, rfl, hI, Nat.le_succ t⟩
theorem kl_loop {n : Nat} (hn : n ≤ 3072) (hsc : sc.1 = n) : ∀ N i w l t v5 v6 v7 v8, i ≤ n + 6 → n ≤ i + 6 * N → kInv w → ∃ w' l' t', xm_R sc xt_M (d + 40) 328 23 [.retAddr 5000, .ref 0, .ref 191, .ref 204, .int (nI i), v5, v6, v7, v8] [] (xem w l t) = some (.inl (some (.int 1)), xem w' l' t') ∧ t' ≤ t + N := by
  intro N
  induction N with
  | zero =>
    intro i w l t v5 v6 v7 v8 hi hN hI
    refine ⟨w, l, t, ?_, Nat.le_refl _⟩
    rw [yb_328_23 (by omega), if_pos rfl, if_pos (by rw [hsc, kl_lt (by omega) hn]; omega), xem_len]
  | succ N ih =>
    intro i w l t v5 v6 v7 v8 hi hN hI
    by_cases h : i + 6 ≤ n
    · obtain ⟨w2, l2, t2, u5, u6, u7, u8, e, hI2, ht⟩ := @kl_head w l t sc d v5 v6 v7 v8 i n h hn hsc hI
      obtain ⟨w', l', t', e', ht'⟩ := ih (i + 6) w2 l2 t2 u5 u6 u7 u8 (by omega) (by omega) hI2
      refine ⟨w', l', t', ?_, by omega⟩
      rw [e, yb_328_2433 (by omega), show nI i + 6 = nI (i + 6) from nI_add (a := i) (b := 6)]
      exact e'
    · refine ⟨w, l, t, ?_, by omega⟩
      rw [yb_328_23 (by omega), if_pos rfl, if_pos (by rw [hsc, kl_lt (by omega) hn]; omega), xem_len]
end LL
