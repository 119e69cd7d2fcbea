/-! THE LAW: operations -/
def q4 (s : Int32 × Int32 × Option (Nat → Int32)) (x : Int32) : Prop := ∀ r', s.2.2 = some r' → r' 4 = x
section Q4
variable {r : Nat → Int32} {a b rd x y z : Int32}
theorem q4_none : q4 (y, z, none) x := fun _ h => by cases h
theorem q4_some {r0 : Nat → Int32} (e : r0 4 = x) : q4 (y, z, some r0) x := fun r' h => by
  have h' : r0 = r' := Option.some.inj h
  rw [← h']
  exact e
theorem q4_if {c : Prop} [Decidable c] {p q : Int32 × Int32 × Option (Nat → Int32)} (hp : c → q4 p x) (hq : q4 q x) : q4 (if c then p else q) x := by
  by_cases h : c
  · rw [if_pos h]; exact hp h
  · rw [if_neg h]; exact hq
theorem q4_k (hB : xBd r) (h : sp_bk r a) : a.toNatClampNeg < 20 := by
  have hk20 := hB.k20
  rw [sp_bk, hB.k] at h
  obtain ⟨n, hn, e⟩ := zrg (by omega) h
  rw [e, nI_clamp (by omega)]
  omega
theorem q4_u {i : Nat} (h : 4 ≠ i) : upd r i x 4 = r 4 := if_neg h
theorem q4_ask : q4 (sp_ask r a rd b) (r 4) := by
  unfold sp_ask
  refine q4_if (fun _ => q4_if (fun _ => q4_if (fun _ => q4_if (fun _ => q4_none) (q4_if (fun _ => q4_none) ?_)) q4_none) q4_none) q4_none
  split
  · exact q4_none
  · exact q4_some (sp_addq_h (by omega) (by omega))
theorem q4_cancel (hB : xBd r) : q4 (sp_cancel r a rd) (r 4) := by
  unfold sp_cancel
  refine q4_if (fun h => ?_) q4_none
  have hk := q4_k hB h
  unfold sp_cancelN
  split
  · exact q4_none
  · refine q4_some ((sp_drop_h (by omega) (by omega)).trans ?_)
    split
    · exact sp_put_h hk (by omega)
    · rfl
theorem q4_recall (hB : xBd r) : q4 (sp_recall r a) (r 4) := by
  unfold sp_recall
  refine q4_if (fun h => ?_) q4_none
  have hk := q4_k hB h
  unfold sp_recallN
  refine q4_if (fun _ => q4_none) (q4_if (fun _ => q4_none) (q4_some ((q4_u (by omega)).trans ?_)))
  split
  · exact sp_put_h hk (by omega)
  · rfl
theorem q4_takeO (hB : xBd r) : q4 (sp_takeO r a rd) (r 4) := by
  unfold sp_takeO
  refine q4_if (fun h => ?_) q4_none
  have hk := q4_k hB h
  unfold sp_takeN
  refine q4_if (fun _ => ?_) q4_none
  split
  · exact q4_none
  · exact q4_some ((q4_u (by omega)).trans ((sp_put_h hk (by omega)).trans (sp_drop_h (by omega) (by omega))))
theorem q4_giveBack (hB : xBd r) : q4 (sp_giveBack r a b) (r 4) := by
  unfold sp_giveBack
  refine q4_if (fun h => q4_if (fun _ => ?_) q4_none) q4_none
  have hk := q4_k hB h
  unfold sp_backN
  exact q4_if (fun _ => q4_if (fun _ => q4_some (sp_put_h hk (by omega))) q4_none) q4_none
theorem q4_find (hB : xBd r) : q4 (sp_find r a b) (r 4) := by
  unfold sp_find
  refine q4_if (fun h => q4_if (fun _ => ?_) q4_none) q4_none
  have hk := q4_k hB h
  unfold sp_findN
  exact q4_if (fun _ => q4_some (sp_put_h hk (by omega))) q4_none
theorem q4_setHold : q4 (sp_setHold r x) (r 4) := by
  unfold sp_setHold
  exact q4_if (fun _ => q4_some (q4_u (by omega))) q4_none
theorem q4_lose (hW : xWF r) : q4 (sp_lose r a) (r 4) := by
  unfold sp_lose
  exact q4_if (fun _ => q4_some ((sp_loseU_ok hW (xnk r) (Nat.le_refl _)).2 4 (by omega))) q4_none
theorem q4_close (hW : xWF r) : q4 (sp_close r a) (r 4) := by
  have hb6 := hW.bd.b6
  unfold sp_close
  refine q4_if (fun h => q4_if (fun _ => q4_some ?_) q4_none) q4_none
  rw [sp_br, hW.bd.b] at h
  obtain ⟨n, hn, e⟩ := zrg (by omega) h
  rw [e, (sp_closeU_ok hW hn (xnk r) (Nat.le_refl _)).2 4 (by omega)]
  exact q4_u (by omega)
theorem q4_open : q4 (sp_open r a) (r 4) := by
  unfold sp_open
  exact q4_if (fun _ => q4_if (fun _ => q4_none) (q4_some (q4_u (by omega)))) q4_none
theorem q4_run {u : xU} {c : Nat} (hW : xWF u.1) (hc : u.1 4 = nI c) (hc2 : c < 10000) : ∀ r', (sp_run u a).2.2 = some r' → ∃ c, c < 10000 ∧ r' 4 = nI c := by
  unfold sp_run
  by_cases h : 1 ≤ a ∧ a ≤ 99
  · rw [if_pos h]
    have h0 : ¬ a < 0 := fun z => by
      rw [fa_lt] at z
      have h1 := h.1
      rw [fa_le] at h1
      have e0 : (0 : Int32).toInt = 0 := by decide
      have e1 : (1 : Int32).toInt = 1 := by decide
      omega
    obtain ⟨n, hn, rfl⟩ := nI_of (x := a) h0
    have hn99 : n ≤ 99 := Nat.le_of_not_lt fun z => nI_ge (a := 99) (b := n) z hn h.2
    by_cases g : u.1 4 + nI n ≤ 9999
    · rw [if_pos g]
      intro r' e
      have e' : (sp_us (u.1, u.2.1, u.2.2.1, 0) (nI n).toNatClampNeg).1 = r' := Option.some.inj e
      rw [hc, nI_add] at g
      have hcn : c + n ≤ 9999 := Nat.le_of_not_lt fun z => nI_ge (a := 9999) (b := c + n) z (by omega) g
      rw [nI_clamp hn] at e'
      exact ⟨c + n, by omega, by rw [← e']; exact (sp_us_ok (u := (u.1, u.2.1, u.2.2.1, 0)) hW hc n (by omega)).2.1⟩
    · rw [if_neg g]
      intro r' e
      cases e
  · rw [if_neg h]
    intro r' e
    cases e
end Q4
section OPS
variable {w w1 w2 : xW} {l : Nat → Nat → Int64} {t : Nat} {sc : xm_Sc} {d n m : Nat} {r' : Nat → Int32}
theorem kOps_inv (hI : kInv w) (hn : n ≤ 10) (hm : m < 10) (h13 : (w 0).1 13 = nI n) (h14 : (w 0).1 14 = nI m) (b6 : ∀ p, p < n → kSt w (3 + (m + 10 - n + p) % 10) (fun i => (w 3).2 4 (296 * p + i)) ∧ xpi (w (8 + (m + 10 - n + p) % 10)) = xpi (w 5)) (hK : kOps w w1 r' n m) (hX : xOps w1 w2 r' n) (h4 : ∃ c, c < 10000 ∧ r' 4 = nI c) : kInv w2 := by
  obtain ⟨⟨a1, a2, a3⟩, _, i3, i4, i5, i6⟩ := hI
  obtain ⟨k1, k2, k3, k4, k5, k6, k7, k8⟩ := hK
  obtain ⟨x1, x2, x3, x4, x5, x6, x7, x8⟩ := hX
  have w13 : w1 3 = w 3 := k1 3 (by omega) (by omega) (by omega)
  have wg : ∀ g, g ≠ 0 → g ≠ 3 → g ≠ 5 → g ≠ m + 8 → w2 g = w g := fun g h0 h3 h5 h8 => (x1 g h3).trans (k1 g h0 h5 h8)
  have h5 : xpi (w2 5) = xpi (w 5) := by
    rw [x1 5 (by omega)]
    unfold xpi
    rw [k7]
  have z0 : w2 0 = w1 0 := x1 0 (by omega)
  have z1 : ∀ i, i ≠ 13 → i ≠ 14 → (w2 0).1 i = (w 0).1 i := fun i h1 h2 => by rw [z0]; exact k3 i h1 h2
  have z2 : ∀ a, (w2 0).2 a = (w 0).2 a := fun a => by rw [z0, k2]
  have w3 : ∀ i, i ≠ 1 → i ≠ 2 → i ≠ 4 → (w2 3).1 i = (w 3).1 i := fun i h1 h2 h4 => by rw [x2 i h1 h2 h4, w13]
  have w32 : ∀ a, a ≠ 0 → a ≠ 2 → a ≠ 4 → a ≠ 5 → a ≠ 6 → (w2 3).2 a = (w 3).2 a := fun a h0 h2 h4 h5 h6 => by rw [x3 a h0 h2 h4 h5 h6, w13]
  have hRm : xRm r' := by
    have P1 := a2.1.P
    have P2 := k8.P
    have e : w1 (xpi (w1 (0 + 5)) + 1) = w (xpi (w (0 + 5)) + 1) := by
      have e5 : xpi (w1 (0 + 5)) = xpi (w (0 + 5)) := by
        show (if (w1 5).1 0 = 0 then 0 else 1) = if (w 5).1 0 = 0 then 0 else 1
        rw [k7]
      have := @xpi_lt (w (0 + 5))
      rw [e5, k1 _ (by omega) (by omega) (by omega)]
    rw [e] at P2
    have ev : xnv r' = xnv ((w 3).2 0) := by
      unfold xnv
      rw [← P2.1.2.1, ← P1.1.2.1]
    intro v hv
    rw [← (P2.2.1 v hv).1, (P1.2.1 v (by rw [← ev]; exact hv)).1]
    exact a2.2.1 v (by rw [← ev]; exact hv)
  have hT : kTm r' := ⟨hRm, h4⟩
  have hp : ∀ g, 1 ≤ g → g ≤ 2 → w2 g = w g := fun g h1 h2 => wg g (by omega) (by omega) (by omega) (by omega)
  refine ⟨⟨(w3 0 (by omega) (by omega) (by omega)).trans a1, ?_, by rw [h5, z1 2 (by omega) (by omega)]; exact a3⟩, ⟨if n = 10 then 10 else n + 1, (m + 1) % 10, by split <;> omega, by omega, by rw [z0]; exact k4, x6, by rw [z0]; exact k5, fun p hp' => ?_⟩, ?_, ?_, ?_, ?_⟩
  · exact kSt_ext x4 (kSt_cg (w := w1) (x1 5 (by omega)) (fun g h1 h2 => x1 g (by omega)) ⟨k8, hT⟩)
  · have hnew : p = (if n = 10 then 9 else n) → kSt w2 (3 + ((m + 1) % 10 + 10 - (if n = 10 then 10 else n + 1) + p) % 10) (fun i => (w2 3).2 4 (296 * p + i)) ∧ xpi (w2 (8 + ((m + 1) % 10 + 10 - (if n = 10 then 10 else n + 1) + p) % 10)) = xpi (w2 5) := by
      intro e
      have ei : ((m + 1) % 10 + 10 - (if n = 10 then 10 else n + 1) + p) % 10 = m := by
        rw [e]
        split <;> omega
      rw [ei, h5, show 8 + m = m + 8 by omega, x1 (m + 8) (by omega), kCpd_pi k6]
      refine ⟨?_, rfl⟩
      have hS := @kSt_cpd w ((w 3).2 0) 0 (3 + m) (w1 (m + 8)) k6 a2
      refine kSt_ext (r := (w 3).2 0) (fun i hi => ?_) (kSt_cg ?_ (fun g h1 h2 => ?_) hS)
      · rw [e, x8 i hi, w13]
      · rw [xu_same, show 3 + m + 5 = m + 8 by omega]
        exact x1 (m + 8) (by omega)
      · rw [hp g h1 h2, xu_ne (by omega)]
    by_cases hpe : p = (if n = 10 then 9 else n)
    · exact hnew hpe
    have hpo : p < (if n = 10 then 9 else n) := by
      by_cases h10 : n = 10
      · rw [if_pos h10] at hp' hpe ⊢
        omega
      · rw [if_neg h10] at hp' hpe ⊢
        omega
    have ei : ((m + 1) % 10 + 10 - (if n = 10 then 10 else n + 1) + p) % 10 = (m + 10 - n + (if n = 10 then p + 1 else p)) % 10 := by
      by_cases h10 : n = 10
      · rw [if_pos h10, if_pos h10]
        omega
      · rw [if_neg h10, if_neg h10]
        omega
    have elt : (if n = 10 then p + 1 else p) < n := by
      by_cases h10 : n = 10
      · rw [if_pos h10] at hpo ⊢
        omega
      · rw [if_neg h10] at hpo ⊢
        omega
    have hne : (m + 10 - n + (if n = 10 then p + 1 else p)) % 10 ≠ m := by
      by_cases h10 : n = 10
      · rw [if_pos h10] at hpo ⊢
        omega
      · rw [if_neg h10] at hpo ⊢
        omega
    obtain ⟨g1, g2⟩ := b6 _ elt
    rw [ei, h5, wg _ (by omega) (by omega) (by omega) (show 8 + (m + 10 - n + (if n = 10 then p + 1 else p)) % 10 ≠ m + 8 by omega)]
    refine ⟨kSt_ext (fun i hi => ?_) (kSt_cg (wg _ (by omega) (by omega) (by omega) (show 3 + (m + 10 - n + (if n = 10 then p + 1 else p)) % 10 + 5 ≠ m + 8 by omega)) hp g1), g2⟩
    rw [x7 p i hpo hi, w13]
  · exact kIv3_cg (fun g h => wg g (by omega) (by omega) (by omega) (by omega)) (z1 3 (by omega) (by omega)) (w3 3 (by omega) (by omega) (by omega)) (w32 3 (by omega) (by omega) (by omega) (by omega) (by omega)) h5 i3
  · exact kIv4_cg (z1 0 (by omega) (by omega)) (z2 0) (w3 6 (by omega) (by omega) (by omega)) (w32 8 (by omega) (by omega) (by omega) (by omega) (by omega)) i4
  · exact kIv5_cg (z1 1 (by omega) (by omega)) (w3 13 (by omega) (by omega) (by omega)) i5
  · exact kIv6_cg (z1 12 (by omega) (by omega)) (z2 2) (w3 5 (by omega) (by omega) (by omega)) (w32 7 (by omega) (by omega) (by omega) (by omega) (by omega)) i6
theorem kB_Op {o oK : Option xm_O} {rf : xm_PS → Option xm_O} {e : Int32 → Nat} {s : Int32 × Int32 × Option (Nat → Int32)} (hI : kInv w) (hA : ∀ n m, n ≤ 10 → m < 10 → (w 0).1 13 = nI n → (w 0).1 14 = nI m → kOpA o w l t n m e s) (hX : ∀ w1 l' t' n, w1 3 = w 3 → n ≤ 10 → (w1 3).1 1 = nI n → xOpA (rf (xem w1 l' t')) w1 l' t' n s) (h4 : ∀ r', s.2.2 = some r' → ∃ c, c < 10000 ∧ r' 4 = nI c) (hk0 : ∀ v w1, o = some (.inl (some (.int v)), xem w1 l t) → oK = some (.inl (some (.int 0)), xem w1 (lo l v) t)) (hk1 : ¬ s.1 = 0 → o = some (.inr (e s.1), xem w l (t + 1)) → oK = some (.inl (some (.int s.1)), xem w l (t + 1))) : kB t oK rf := by
  obtain ⟨n, m, b1, b2, b3, b4, b5, b6⟩ := hI.2.1
  have A := hA n m b1 b2 b3 b5
  obtain ⟨x, y, z⟩ := s
  cases z with
  | none =>
    have A' : kAn o w l t (e x) (x, y) := A
    rcases A' with ⟨h1, h2⟩ | ⟨h1, h2⟩
    · obtain ⟨w2, e1, e2, e3⟩ := (show xAns (rf (xem w (lo l y) t)) w (lo l y) t (x, y) from hX w (lo l y) t n rfl b1 b4)
      exact ⟨w, lo l y, t, w2, lo l y, 0, y, hk0 y w h2, e1, e3.trans h1, fun _ => lo_0, kSm_inv (kSm_P e2) hI, by omega⟩
    · obtain ⟨w2, e1, e2, e3⟩ := (show xAns (rf (xem w l (t + 1))) w l (t + 1) (x, y) from hX w l (t + 1) n rfl b1 b4)
      exact ⟨w, l, t + 1, w2, l, x, y, hk1 h1 h2, e1, e3, fun z => absurd z h1, kSm_inv (kSm_P e2) hI, by omega⟩
  | some r' =>
    obtain ⟨h1, w1, h2, h3⟩ := (show x = 0 ∧ ∃ w', o = some (.inl (some (.int y)), xem w' l t) ∧ kOps w w' r' n m from A)
    have w13 : w1 3 = w 3 := h3.1 3 (by omega) (by omega) (by omega)
    obtain ⟨_, w2, e1, e2⟩ := (show x = 0 ∧ ∃ w', rf (xem w1 (lo l y) t) = some (.inl (some (.int y)), xem w' (lo l y) t) ∧ xOps w1 w' r' n from hX w1 (lo l y) t n w13 b1 (by rw [w13]; exact b4))
    exact ⟨w1, lo l y, t, w2, lo l y, 0, y, hk0 y w1 h2, e1, e2.2.2.2.2.1, fun _ => lo_0, kOps_inv hI b1 b2 b3 b5 b6 h3 e2 (h4 r' rfl), by omega⟩
end OPS
