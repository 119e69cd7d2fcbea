/-! bitCount -/
theorem k_and8 (x m : Nat) : x &&& m = 256 * ((x / 256) &&& (m / 256)) + ((x % 256) &&& (m % 256)) := by
  have h1 : (x &&& m) / 2 ^ 8 = (x / 2 ^ 8) &&& (m / 2 ^ 8) := Nat.and_div_two_pow ..
  have h2 : (x &&& m) % 2 ^ 8 = (x % 2 ^ 8) &&& (m % 2 ^ 8) := Nat.and_mod_two_pow ..
  have h3 := Nat.div_add_mod (x &&& m) (2 ^ 8)
  rw [h1, h2] at h3
  exact h3.symm
theorem k_and3 {c b a m : Nat} (hb : b < 256) (ha : a < 256) : (65536 * c + 256 * b + a) &&& m = 65536 * (c &&& (m / 256 / 256)) + 256 * (b &&& (m / 256 % 256)) + (a &&& (m % 256)) := by
  rw [k_and8, show (65536 * c + 256 * b + a) / 256 = 256 * c + b by omega, show (65536 * c + 256 * b + a) % 256 = a by omega, k_and8 (256 * c + b), show (256 * c + b) / 256 = c by omega, show (256 * c + b) % 256 = b by omega]
  omega
def kb_1 (n : Nat) : Nat := n - ((n / 2) &&& 85)
def kb_2 (n : Nat) : Nat := (kb_1 n &&& 51) + ((kb_1 n / 4) &&& 51)
def kb_3 (n : Nat) : Nat := (kb_2 n + kb_2 n / 16) &&& 15
def kb_4 (n : Nat) : Nat := n % 2 + n / 2 % 2 + n / 4 % 2 + n / 8 % 2 + n / 16 % 2 + n / 32 % 2 + n / 64 % 2 + n / 128 % 2
theorem kb_f0 : ∀ n, n < 256 → ((n / 2) &&& 21845 = (n / 2) &&& 85) ∧ ((n / 2) &&& 85) ≤ n ∧ kb_1 n < 256 ∧ kb_3 n = kb_4 n ∧ kb_2 n ≤ 68 ∧ kb_2 n % 16 < 5 := by decide +kernel
theorem kb_f1 : ∀ n, n < 256 → ∀ e, e < 2 → (n / 2 + 128 * e) &&& 85 = (n / 2) &&& 85 := by decide +kernel
theorem kb_f2 : ∀ n, n < 256 → (n &&& 13107 = n &&& 51) ∧ (n / 4 &&& 13107 = n / 4 &&& 51) ∧ ∀ e, e < 4 → (n / 4 + 64 * e) &&& 51 = (n / 4) &&& 51 := by decide +kernel
theorem kb_f3 : ∀ n, n < 69 → ((n + n / 16) &&& 3855 = (n + n / 16) &&& 15) ∧ n + n / 16 + 16 * 4 < 256 ∧ ∀ e, e < 5 → (n + n / 16 + 16 * e) &&& 15 = (n + n / 16) &&& 15 := by decide +kernel
theorem kb_f5 : ∀ n, n < 64 → n &&& 63 = n := by decide +kernel
theorem kb_4le {n : Nat} : kb_4 n ≤ 8 := by
  unfold kb_4
  omega
theorem kb_s1 {c b a : Nat} (hc : c < 256) (hb : b < 256) (ha : a < 256) : (65536 * c + 256 * b + a) - (((65536 * c + 256 * b + a) / 2) &&& 1431655765) = 65536 * kb_1 c + 256 * kb_1 b + kb_1 a := by
  have e : (65536 * c + 256 * b + a) / 2 = 65536 * (c / 2) + 256 * (b / 2 + 128 * (c % 2)) + (a / 2 + 128 * (b % 2)) := by omega
  rw [e, k_and3 (by omega) (by omega)]
  have h1 := kb_f0 c hc
  have h2 := kb_f0 b hb
  have h3 := kb_f0 a ha
  have g2 := kb_f1 b hb (c % 2) (by omega)
  have g3 := kb_f1 a ha (b % 2) (by omega)
  show 65536 * c + 256 * b + a - (65536 * (c / 2 &&& 21845) + 256 * (b / 2 + 128 * (c % 2) &&& 85) + (a / 2 + 128 * (b % 2) &&& 85)) = _
  rw [h1.1, g2, g3]
  unfold kb_1
  omega
theorem kb_s2 {c b a : Nat} (hc : c < 256) (hb : b < 256) (ha : a < 256) : ((65536 * kb_1 c + 256 * kb_1 b + kb_1 a) &&& 858993459) + (((65536 * kb_1 c + 256 * kb_1 b + kb_1 a) / 4) &&& 858993459) = 65536 * kb_2 c + 256 * kb_2 b + kb_2 a := by
  have h1 := (kb_f0 c hc).2.2.1
  have h2 := (kb_f0 b hb).2.2.1
  have h3 := (kb_f0 a ha).2.2.1
  unfold kb_2
  generalize kb_1 c = c at *
  generalize kb_1 b = b at *
  generalize kb_1 a = a at *
  have e : (65536 * c + 256 * b + a) / 4 = 65536 * (c / 4) + 256 * (b / 4 + 64 * (c % 4)) + (a / 4 + 64 * (b % 4)) := by omega
  rw [e, k_and3 (by omega) (by omega), k_and3 (by omega) (by omega)]
  show 65536 * (c &&& 13107) + 256 * (b &&& 51) + (a &&& 51) + (65536 * (c / 4 &&& 13107) + 256 * (b / 4 + 64 * (c % 4) &&& 51) + (a / 4 + 64 * (b % 4) &&& 51)) = _
  rw [(kb_f2 c h1).1, (kb_f2 c h1).2.1, (kb_f2 b h2).2.2 _ (by omega), (kb_f2 a h3).2.2 _ (by omega)]
  omega
theorem kb_s3 {c b a : Nat} (hc : c < 256) (hb : b < 256) (ha : a < 256) : ((65536 * kb_2 c + 256 * kb_2 b + kb_2 a) + (65536 * kb_2 c + 256 * kb_2 b + kb_2 a) / 16) &&& 252645135 = 65536 * kb_4 c + 256 * kb_4 b + kb_4 a := by
  have h1 := (kb_f0 c hc).2.2.2
  have h2 := (kb_f0 b hb).2.2.2
  have h3 := (kb_f0 a ha).2.2.2
  rw [← h1.1, ← h2.1, ← h3.1]
  unfold kb_3
  generalize kb_2 c = c at *
  generalize kb_2 b = b at *
  generalize kb_2 a = a at *
  have f1 := kb_f3 c (by omega)
  have f2 := kb_f3 b (by omega)
  have f3 := kb_f3 a (by omega)
  have e : (65536 * c + 256 * b + a) + (65536 * c + 256 * b + a) / 16 = 65536 * (c + c / 16) + 256 * (b + b / 16 + 16 * (c % 16)) + (a + a / 16 + 16 * (b % 16)) := by omega
  rw [e, k_and3 (by omega) (by omega)]
  show 65536 * (c + c / 16 &&& 3855) + 256 * (b + b / 16 + 16 * (c % 16) &&& 15) + (a + a / 16 + 16 * (b % 16) &&& 15) = _
  rw [f1.1, f2.2.2 _ h1.2.2, f3.2.2 _ h2.2.2]
theorem kb_s4 {x y z : Nat} (hx : x ≤ 8) (hy : y ≤ 8) (hz : z ≤ 8) : (((65536 * x + 256 * y + z) + (65536 * x + 256 * y + z) / 256) + ((65536 * x + 256 * y + z) + (65536 * x + 256 * y + z) / 256) / 65536) &&& 63 = x + y + z := by
  have e : (((65536 * x + 256 * y + z) + (65536 * x + 256 * y + z) / 256) + ((65536 * x + 256 * y + z) + (65536 * x + 256 * y + z) / 256) / 65536) = 65536 * x + 256 * (y + x) + (z + y + x) := by omega
  rw [e, k_and3 (by omega) (by omega)]
  show 65536 * (x &&& 0) + 256 * (y + x &&& 0) + (z + y + x &&& 63) = _
  rw [Nat.and_zero, Nat.and_zero, kb_f5 _ (by omega)]
  omega
theorem kb_sh {n : Nat} (hn : n < 2 ^ 32) : ((nI n).toUInt32 >>> ((1 : Int32).toUInt32 &&& Int32.toUInt32 31)).toInt32 = nI (n / 2) ∧ ((nI n).toUInt32 >>> ((2 : Int32).toUInt32 &&& Int32.toUInt32 31)).toInt32 = nI (n / 4) ∧ ((nI n).toUInt32 >>> ((4 : Int32).toUInt32 &&& Int32.toUInt32 31)).toInt32 = nI (n / 16) ∧
  ((nI n).toUInt32 >>> ((8 : Int32).toUInt32 &&& Int32.toUInt32 31)).toInt32 = nI (n / 256) ∧ ((nI n).toUInt32 >>> ((16 : Int32).toUInt32 &&& Int32.toUInt32 31)).toInt32 = nI (n / 65536) :=
  ⟨pk_ushrN hn 1 1 (by decide +kernel), pk_ushrN hn 2 2 (by decide +kernel), pk_ushrN hn 4 4 (by decide +kernel), pk_ushrN hn 8 8 (by decide +kernel), pk_ushrN hn 16 16 (by decide +kernel)⟩
theorem kb_m (a : Nat) : (nI a &&& 1431655765 = nI (a &&& 1431655765)) ∧ (nI a &&& 858993459 = nI (a &&& 858993459)) ∧ (nI a &&& 252645135 = nI (a &&& 252645135)) ∧ (nI a &&& 63 = nI (a &&& 63)) := ⟨fa_and a 1431655765, fa_and a 858993459, fa_and a 252645135, fa_and a 63⟩
def kq_1 (x : Int32) : Int32 := x - ((x.toUInt32 >>> ((1 : Int32).toUInt32 &&& Int32.toUInt32 31)).toInt32 &&& 1431655765)
def kq_2 (x : Int32) : Int32 := (x &&& 858993459) + ((x.toUInt32 >>> ((2 : Int32).toUInt32 &&& Int32.toUInt32 31)).toInt32 &&& 858993459)
def kq_3 (x : Int32) : Int32 := (x + (x.toUInt32 >>> ((4 : Int32).toUInt32 &&& Int32.toUInt32 31)).toInt32) &&& 252645135
def kq_4 (x : Int32) : Int32 := x + (x.toUInt32 >>> ((8 : Int32).toUInt32 &&& Int32.toUInt32 31)).toInt32
def kq_5 (x : Int32) : Int32 := x + (x.toUInt32 >>> ((16 : Int32).toUInt32 &&& Int32.toUInt32 31)).toInt32
theorem kc_192q {sc : xm_Sc} {d : Nat} {x : Int32} {S : xm_PS} : xm_C sc xt_M (d + 1) 192 [.int x] S = some (.inl (some (.int (kq_5 (kq_4 (kq_3 (kq_2 (kq_1 x)))) &&& 63))), S) := yc_192
theorem kq_1n {n m : Nat} (hn : n < 2 ^ 32) (e : n - ((n / 2) &&& 1431655765) = m) : kq_1 (nI n) = nI m := by
  unfold kq_1
  rw [(kb_sh hn).1, (kb_m (n / 2)).1, pk_sub (Nat.le_trans Nat.and_le_left (by omega)), e]
theorem kq_2n {n m : Nat} (hn : n < 2 ^ 32) (e : (n &&& 858993459) + ((n / 4) &&& 858993459) = m) : kq_2 (nI n) = nI m := by
  unfold kq_2
  rw [(kb_sh hn).2.1, (kb_m n).2.1, (kb_m (n / 4)).2.1, zA, e]
theorem kq_3n {n m : Nat} (hn : n < 2 ^ 32) (e : (n + n / 16) &&& 252645135 = m) : kq_3 (nI n) = nI m := by
  unfold kq_3
  rw [(kb_sh hn).2.2.1, zA, (kb_m (n + n / 16)).2.2.1, e]
theorem kq_4n {n : Nat} (hn : n < 2 ^ 32) : kq_4 (nI n) = nI (n + n / 256) := by
  unfold kq_4
  rw [(kb_sh hn).2.2.2.1, zA]
theorem kq_5n {n : Nat} (hn : n < 2 ^ 32) : kq_5 (nI n) = nI (n + n / 65536) := by
  unfold kq_5
  rw [(kb_sh hn).2.2.2.2, zA]
theorem kc_192n {sc : xm_Sc} {d c b a : Nat} {S : xm_PS} (hc : c < 256) (hb : b < 256) (ha : a < 256) : xm_C sc xt_M (d + 1) 192 [.int (nI (65536 * c + 256 * b + a))] S = some (.inl (some (.int (nI (kb_4 c + kb_4 b + kb_4 a)))), S) := by
  have l1 := (kb_f0 c hc).2.2.1
  have l2 := (kb_f0 b hb).2.2.1
  have l3 := (kb_f0 a ha).2.2.1
  have l4 := (kb_f0 c hc).2.2.2.2.1
  have l5 := (kb_f0 b hb).2.2.2.2.1
  have l6 := (kb_f0 a ha).2.2.2.2.1
  have k1 := @kb_4le c
  have k2 := @kb_4le b
  have k3 := @kb_4le a
  rw [kc_192q, kq_1n (by omega) (kb_s1 hc hb ha), kq_2n (by omega) (kb_s2 hc hb ha), kq_3n (by omega) (kb_s3 hc hb ha), kq_4n (by omega), kq_5n (by omega), (kb_m _).2.2.2, kb_s4 k1 k2 k3]
theorem bt_nI {n i : Nat} (hi : i < 32) : bt (nI n) i = n.testBit i := by
  show (BitVec.ofNat 32 n).getLsbD i = n.testBit i
  rw [BitVec.getLsbD_ofNat]
  simp [hi]
/-- a number whose upper byte is empty -/
theorem kc_192 {sc : xm_Sc} {d : Nat} {x : Int32} {S : xm_PS} (hx : ∀ i, 24 ≤ i → i < 32 → bt x i = false) : xm_C sc xt_M (d + 1) 192 [.int x] S = some (.inl (some (.int (xsum (fun i => zB (bt x i = true)) 24))), S) := by
  obtain ⟨n, hn, rfl⟩ := wb_of32 x
  have hn24 : n < 2 ^ 24 := by
    refine Nat.lt_pow_two_of_testBit n (fun i hi => ?_)
    by_cases h : i < 32
    · rw [← bt_nI h]
      exact hx i hi h
    · exact Nat.testBit_lt_two_pow (Nat.lt_of_lt_of_le hn (Nat.pow_le_pow_right (by omega) (by omega)))
  have hz : ∀ i, i < 24 → zB (bt (nI n) i = true) = nI (n / 2 ^ i % 2) := fun i hi => by
    rw [bt_nI (by omega), Nat.testBit_eq_decide_div_mod_eq]
    have : n / 2 ^ i % 2 < 2 := Nat.mod_lt _ (by omega)
    rcases (show n / 2 ^ i % 2 = 0 ∨ n / 2 ^ i % 2 = 1 by omega) with h | h <;> rw [h] <;> rfl
  have hs : ∀ m, m ≤ 24 → xsum (fun i => zB (bt (nI n) i = true)) m = nI (fb_sm (fun i => n / 2 ^ i % 2) m) := by
    intro m
    induction m with
    | zero => intro _; rfl
    | succ m ih =>
      intro hm
      show xsum (fun i => zB (bt (nI n) i = true)) m + zB (bt (nI n) m = true) = nI (fb_sm (fun i => n / 2 ^ i % 2) m + n / 2 ^ m % 2)
      rw [ih (by omega), hz m (by omega), zA]
  rw [hs 24 (Nat.le_refl _)]
  have e : n = 65536 * (n / 65536) + 256 * (n / 256 % 256) + n % 256 := by omega
  have key := @kc_192n sc d (n / 65536) (n / 256 % 256) (n % 256) S (by omega) (by omega) (by omega)
  rw [← e] at key
  rw [key]
  have u : ∀ f : Nat → Nat, fb_sm f 24 = 0 + f 0 + f 1 + f 2 + f 3 + f 4 + f 5 + f 6 + f 7 + f 8 + f 9 + f 10 + f 11 + f 12 + f 13 + f 14 + f 15 + f 16 + f 17 + f 18 + f 19 + f 20 + f 21 + f 22 + f 23 := fun _ => rfl
  have b1 : ∀ m, kb_4 (m % 256) = m % 2 + m / 2 % 2 + m / 4 % 2 + m / 8 % 2 + m / 16 % 2 + m / 32 % 2 + m / 64 % 2 + m / 128 % 2 := fun m => by
    unfold kb_4
    omega
  have e3 : n / 65536 = n / 65536 % 256 := by omega
  have e2 : fb_sm (fun i => n / 2 ^ i % 2) 24 = kb_4 (n / 65536) + kb_4 (n / 256 % 256) + kb_4 (n % 256) := by
    rw [e3, b1 (n / 65536), b1 (n / 256), b1 n, u]
    simp only [Nat.div_div_eq_div_mul, Nat.reducePow, Nat.reduceMul, Nat.div_one]
    omega
  rw [e2]
