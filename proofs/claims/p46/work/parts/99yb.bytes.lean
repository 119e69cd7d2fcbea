/-! THE LAW SAYS BYTES: packed four to a word, the first high -/
def pW (g : Nat → Int32) : Nat → Nat → Int32
  | 0, _ => 0
  | m + 1, j => if j = m / 4 then pW g m j ||| (g m <<< (nI (24 - 8 * (m % 4)) &&& 31)) else pW g m j
theorem pW_cg {g g' : Nat → Int32} : ∀ m, (∀ i, i < m → g' i = g i) → ∀ j, pW g' m j = pW g m j := by
  intro m
  induction m with
  | zero => intro _ j; rfl
  | succ m ih =>
    intro h j
    show (if j = m / 4 then pW g' m j ||| (g' m <<< (nI (24 - 8 * (m % 4)) &&& 31)) else pW g' m j) = if j = m / 4 then pW g m j ||| (g m <<< (nI (24 - 8 * (m % 4)) &&& 31)) else pW g m j
    rw [ih (fun i hi => h i (by omega)), h m (by omega)]
theorem asc_bit : ∀ a, a < 128 → ∀ i, i < 32 → 8 ≤ i → bt (nI a) i = false := by decide +kernel
theorem pW_bit {g : Nat → Int32} : ∀ m, (∀ i, i < m → asc (g i)) → ∀ j b, b < 32 → bt (pW g m j) b = (decide (4 * j + (3 - b / 8) < m) && bt (g (4 * j + (3 - b / 8))) (b % 8)) := by
  intro m
  induction m with
  | zero =>
    intro _ j b hb
    rw [decide_eq_false (Nat.not_lt_zero _)]
    exact b_0 b
  | succ m ih =>
    intro hg j b hb
    have i1 := ih (fun i hi => hg i (by omega)) j b hb
    show bt (if j = m / 4 then pW g m j ||| (g m <<< (nI (24 - 8 * (m % 4)) &&& 31)) else pW g m j) b = _
    by_cases hj : j = m / 4
    · rw [if_pos hj, b_or, i1, b_shl _ (by omega) _ hb]
      by_cases e : 4 * j + (3 - b / 8) = m
      · rw [e, decide_eq_false (Nat.lt_irrefl m), decide_eq_true (Nat.lt_succ_self m), decide_eq_true (show 24 - 8 * (m % 4) ≤ b by omega), show b - (24 - 8 * (m % 4)) = b % 8 by omega]
        rfl
      · have hz : (decide (24 - 8 * (m % 4) ≤ b) && bt (g m) (b - (24 - 8 * (m % 4)))) = false := by
          by_cases c : 24 - 8 * (m % 4) ≤ b
          · obtain ⟨a, ha, ea⟩ := hg m (by omega)
            rw [ea, asc_bit a ha _ (by omega) (by omega), Bool.and_false]
          · rw [decide_eq_false c, Bool.false_and]
        rw [hz, Bool.or_false]
        by_cases c : 4 * j + (3 - b / 8) < m
        · rw [decide_eq_true c, decide_eq_true (show 4 * j + (3 - b / 8) < m + 1 by omega)]
        · rw [decide_eq_false c, decide_eq_false (show ¬ 4 * j + (3 - b / 8) < m + 1 by omega)]
    · rw [if_neg hj, i1]
      by_cases c : 4 * j + (3 - b / 8) < m
      · rw [decide_eq_true c, decide_eq_true (show 4 * j + (3 - b / 8) < m + 1 by omega)]
      · rw [decide_eq_false c, decide_eq_false (show ¬ 4 * j + (3 - b / 8) < m + 1 by omega)]
theorem pW_w {g : Nat → Int32} {m i : Nat} (hi : i < 20) : sp_w (pW g m 0) (pW g m 1) (pW g m 2) (pW g m 3) (pW g m 4) i = pW g m (i / 4) := by
  unfold sp_w
  by_cases h4 : 4 ≤ i
  · rw [if_pos h4]
    by_cases h8 : 8 ≤ i
    · rw [if_pos h8]
      by_cases h12 : 12 ≤ i
      · rw [if_pos h12]
        by_cases h16 : 16 ≤ i
        · rw [if_pos h16, show i / 4 = 4 by omega]
        · rw [if_neg h16, show i / 4 = 3 by omega]
      · rw [if_neg h12, show i / 4 = 2 by omega]
    · rw [if_neg h8, show i / 4 = 1 by omega]
  · rw [if_neg h4, show i / 4 = 0 by omega]
/-- what feed takes of five words is what was said -/
theorem pW_by {g : Nat → Int32} {i : Nat} (hg : ∀ i, i < 20 → asc (g i)) (hi : i < 20) : kby (sp_fs (sp_w (pW g 20 0) (pW g 20 1) (pW g 20 2) (pW g 20 3) (pW g 20 4) i) i) = kby (g i) := by
  rw [pW_w hi]
  unfold sp_fs
  rw [← kby_and (y := pW g 20 (i / 4) >>> (nI (24 - 8 * (i % 4)) &&& 31))]
  have e : pW g 20 (i / 4) >>> (nI (24 - 8 * (i % 4)) &&& 31) &&& 255 = g i := by
    refine b_ext fun b hb => ?_
    obtain ⟨a, ha, ea⟩ := hg i hi
    rw [b_and, b_255, b_sshr _ (by omega) _ hb]
    by_cases c : b < 8
    · rw [decide_eq_true c, Bool.and_true, if_pos (by omega), pW_bit 20 hg _ _ (by omega), decide_eq_true (by omega), Bool.true_and, show 4 * (i / 4) + (3 - (24 - 8 * (i % 4) + b) / 8) = i by omega, show (24 - 8 * (i % 4) + b) % 8 = b by omega]
    · rw [decide_eq_false c, Bool.and_false, ea, asc_bit a ha b hb (by omega)]
  rw [e]
theorem rm_20 {c : Nat} (hc : c < 2 ^ 31) : nI c - nI c / 20 * 20 = nI (c % 20) := pk_rem (d := 20) hc (by omega) (by omega)
theorem rm_4 {c : Nat} (hc : c < 2 ^ 31) : nI c - nI c / 4 * 4 = nI (c % 4) := pk_rem (d := 4) hc (by omega) (by omega)
theorem dv_4 {c : Nat} (hc : c < 2 ^ 31) : nI c / 4 = nI (c / 4) := pk_div (d := 4) hc (by omega) (by omega)
theorem sh_24 : ∀ m, m < 4 → 24 - 8 * nI m = nI (24 - 8 * m) := by decide +kernel
