/-! THE LEGS are least numbers of vans -/
def kO (r : Nat → Int32) (a : Nat) : Prop := a < xnb r ∧ r (6 + a) = 1
def kL (r : Nat → Int32) (a b : Nat) : Prop := kO r a ∧ kO r b ∧ a ≠ b ∧ sp_link r (nI a) (nI b) = true
def kWk (r : Nat → Int32) : Nat → Nat → Nat → Prop
  | 0, a, b => a = b ∧ kO r a
  | n + 1, a, b => ∃ c, kL r a c ∧ kWk r n c b
def kcb (x p q : Int32) : Int32 := if p = -1 then x else if q = -1 then x else if x = -1 then p + q else if x ≤ p + q then x else p + q
theorem k_upds {f : Nat → Int32} {i : Nat} : upd f i (f i) = f := by
  funext j
  unfold upd
  split
  · next h => rw [h]
  · rfl
theorem kcb_sh {a y b : Nat} {f : Nat → Int32} : sp_sh a y b f = upd f (6 * a + b) (kcb (f (6 * a + b)) (f (6 * a + y)) (f (6 * y + b))) := by
  unfold sp_sh kcb
  split
  · rw [k_upds]
  · split
    · rw [k_upds]
    · split
      · rfl
      · split
        · rw [k_upds]
        · rfl
theorem kcb_s1 {x d : Int32} (hd : d = 0 ∨ d = -1) : kcb x x d = x := by
  unfold kcb
  rcases hd with rfl | rfl
  · by_cases h : x = -1
    · rw [if_pos h]
    · rw [if_neg h, if_neg (by decide), if_neg h, Int32.add_zero, if_pos (Int32.le_refl x)]
  · by_cases h : x = -1
    · rw [if_pos h]
    · rw [if_neg h, if_pos rfl]
theorem kcb_s2 {x d : Int32} (hd : d = 0 ∨ d = -1) : kcb x d x = x := by
  unfold kcb
  rcases hd with rfl | rfl
  · by_cases h : x = -1
    · rw [if_neg (by decide), if_pos h]
    · rw [if_neg (by decide), if_neg h, if_neg h, Int32.zero_add, if_pos (Int32.le_refl x)]
  · rw [if_pos rfl]
theorem kRow {a y : Nat} {f : Nat → Int32} (hy : y < 6) (ha : a < 6) (hd : f (6 * y + y) = 0 ∨ f (6 * y + y) = -1) : ∀ n, n ≤ 6 → ∀ i, sp_sB a y f n i = if 6 * a ≤ i ∧ i < 6 * a + n then kcb (f i) (f (6 * a + y)) (f (6 * y + (i - 6 * a))) else f i := by
  intro n
  induction n with
  | zero =>
    intro _ i
    rw [if_neg (by omega)]
    rfl
  | succ n ih =>
    intro hn i
    have h := ih (by omega)
    show sp_sh a y n (sp_sB a y f n) i = _
    have e1 : sp_sB a y f n (6 * a + n) = f (6 * a + n) := by rw [h, if_neg (by omega)]
    have e2 : sp_sB a y f n (6 * a + y) = f (6 * a + y) := by
      rw [h]
      split
      · rw [show 6 * a + y - 6 * a = y by omega, kcb_s1 hd]
      · rfl
    have e3 : sp_sB a y f n (6 * y + n) = f (6 * y + n) := by rw [h, if_neg (by omega)]
    rw [kcb_sh, e1, e2, e3]
    by_cases hi : i = 6 * a + n
    · subst hi
      rw [zu1, if_pos (by omega), show 6 * a + n - 6 * a = n by omega]
    · rw [zun hi, h]
      by_cases g : 6 * a ≤ i ∧ i < 6 * a + n
      · rw [if_pos g, if_pos (by omega)]
      · rw [if_neg g, if_neg (by omega)]
theorem kAll {nb y : Nat} {f : Nat → Int32} (hnb : nb ≤ 6) (hy : y < 6) (hd : f (6 * y + y) = 0 ∨ f (6 * y + y) = -1) : ∀ m, m ≤ 6 → ∀ a b, a < 6 → b < 6 → sp_sA nb y f m (6 * a + b) = if a < m ∧ b < nb then kcb (f (6 * a + b)) (f (6 * a + y)) (f (6 * y + b)) else f (6 * a + b) := by
  intro m
  induction m with
  | zero =>
    intro _ a b _ _
    rw [if_neg (by omega)]
    rfl
  | succ m ih =>
    intro hm a b ha hb
    have h := ih (by omega)
    show sp_sB m y (sp_sA nb y f m) nb (6 * a + b) = _
    have hyb : ∀ c, c < 6 → sp_sA nb y f m (6 * y + c) = f (6 * y + c) := fun c hc => by
      rw [h y c hy hc]
      split
      · rw [kcb_s2 hd]
      · rfl
    rw [kRow hy (by omega) (by rw [hyb y hy]; exact hd) nb hnb]
    by_cases e : a = m
    · subst e
      by_cases g : b < nb
      · rw [if_pos (by omega), if_pos ⟨by omega, g⟩, h a b ha hb, if_neg (by omega), h a y ha hy, if_neg (by omega), show 6 * a + b - 6 * a = b by omega, hyb b hb]
      · rw [if_neg (by omega), if_neg (by omega), h a b ha hb, if_neg (by omega)]
    · rw [if_neg (by omega), h a b ha hb]
      by_cases g : a < m ∧ b < nb
      · rw [if_pos g, if_pos (by omega)]
      · rw [if_neg g, if_neg (by omega)]
theorem kInB {r f : Nat → Int32} {a : Nat} : ∀ n, n ≤ 6 → ∀ i, sp_iB r a f n i = if 6 * a ≤ i ∧ i < 6 * a + n then sp_i0 r a (i - 6 * a) else f i := by
  intro n
  induction n with
  | zero =>
    intro _ i
    rw [if_neg (by omega)]
    rfl
  | succ n ih =>
    intro hn i
    show upd (sp_iB r a f n) (6 * a + n) (sp_i0 r a n) i = _
    by_cases hi : i = 6 * a + n
    · subst hi
      rw [zu1, if_pos (by omega), show 6 * a + n - 6 * a = n by omega]
    · rw [zun hi, ih (by omega)]
      by_cases g : 6 * a ≤ i ∧ i < 6 * a + n
      · rw [if_pos g, if_pos (by omega)]
      · rw [if_neg g, if_neg (by omega)]
theorem kInA {r f : Nat → Int32} (hnb : xnb r ≤ 6) : ∀ m, m ≤ 6 → ∀ a b, a < 6 → b < 6 → sp_iA r f m (6 * a + b) = if a < m ∧ b < xnb r then sp_i0 r a b else f (6 * a + b) := by
  intro m
  induction m with
  | zero =>
    intro _ a b _ _
    rw [if_neg (by omega)]
    rfl
  | succ m ih =>
    intro hm a b ha hb
    show sp_iB r m (sp_iA r f m) (xnb r) (6 * a + b) = _
    rw [kInB _ hnb]
    by_cases e : a = m
    · subst e
      by_cases g : b < xnb r
      · rw [if_pos (by omega), if_pos ⟨by omega, g⟩, show 6 * a + b - 6 * a = b by omega]
      · rw [if_neg (by omega), if_neg (by omega), ih (by omega) a b ha hb, if_neg (by omega)]
    · rw [if_neg (by omega), ih (by omega) a b ha hb]
      by_cases g : a < m ∧ b < xnb r
      · rw [if_pos g, if_pos (by omega)]
      · rw [if_neg g, if_neg (by omega)]
/-- walks with what lies between below k -/
def kP (r : Nat → Int32) (k : Nat) : Nat → Nat → Nat → Prop
  | 0, a, b => a = b ∧ kO r a
  | n + 1, a, b => ∃ c, kL r a c ∧ (n ≠ 0 → c < k) ∧ kP r k n c b
theorem kP_dec {r : Nat → Int32} {k : Nat} : ∀ n a b, kP r (k + 1) n a b → kP r k n a b ∨ ∃ p q, p + q ≤ n ∧ kP r k p a k ∧ kP r k q k b := by
  intro n
  induction n with
  | zero => intro a b h; exact Or.inl h
  | succ n ih =>
    intro a b h
    obtain ⟨c, h1, h2, h3⟩ := h
    by_cases hn : n = 0
    · subst hn
      exact Or.inl ⟨c, h1, fun g => absurd rfl g, h3⟩
    · have hc := h2 hn
      have one : c = k → kP r k 1 a k := fun e => ⟨c, h1, fun g => absurd rfl g, e, h1.2.1⟩
      rcases ih c b h3 with g | ⟨p, q, hpq, g1, g2⟩
      · by_cases e : c = k
        · refine Or.inr ⟨1, n, by omega, one e, ?_⟩
          rw [← e]
          rw [← e] at g
          exact g
        · exact Or.inl ⟨c, h1, fun _ => by omega, g⟩
      · by_cases e : c = k
        · exact Or.inr ⟨1, q, by omega, one e, g2⟩
        · exact Or.inr ⟨p + 1, q, by omega, ⟨c, h1, fun _ => by omega, g1⟩, g2⟩
theorem kP_all {r : Nat → Int32} : ∀ n a b, kWk r n a b → kP r (xnb r) n a b := by
  intro n
  induction n with
  | zero => intro a b h; exact h
  | succ n ih =>
    intro a b h
    obtain ⟨c, h1, h2⟩ := h
    exact ⟨c, h1, fun _ => h1.2.1.1, ih c b h2⟩
theorem kWk_app {r : Nat → Int32} : ∀ n m a b c, kWk r n a b → kWk r m b c → kWk r (n + m) a c := by
  intro n
  induction n with
  | zero =>
    intro m a b c h g
    obtain ⟨rfl, _⟩ := h
    rw [Nat.zero_add]
    exact g
  | succ n ih =>
    intro m a b c h g
    obtain ⟨x, h1, h2⟩ := h
    rw [show n + 1 + m = n + m + 1 by omega]
    exact ⟨x, h1, ih m x b c h2 g⟩
theorem kWk_o {r : Nat → Int32} {n a b : Nat} (h : kWk r n a b) : kO r a ∧ kO r b := by
  induction n generalizing a with
  | zero =>
    obtain ⟨rfl, h⟩ := h
    exact ⟨h, h⟩
  | succ n ih =>
    obtain ⟨c, h1, h2⟩ := h
    exact ⟨h1.1, (ih h2).2⟩
def kIv (r : Nat → Int32) (y : Nat) (G : Nat → Int32) : Prop := ∀ a b, a < xnb r → b < xnb r → (G (6 * a + b) = -1 ∨ ∃ n, n ≤ 2 ^ y ∧ G (6 * a + b) = nI n ∧ kWk r n a b) ∧ ∀ n, kP r y n a b → ∃ m, m ≤ n ∧ m ≤ 2 ^ y ∧ G (6 * a + b) = nI m
theorem kIv_0 {r f : Nat → Int32} (hnb : xnb r ≤ 6) : kIv r 0 (sp_iA r f (xnb r)) := by
  intro a b ha hb
  rw [kInA hnb (xnb r) hnb a b (by omega) (by omega), if_pos ⟨ha, hb⟩]
  unfold sp_i0 xop
  rw [nI_clamp (by omega), nI_clamp (by omega)]
  have hab : nI a = nI b ↔ a = b := nI_eq (by omega) (by omega)
  refine ⟨?_, fun n hn => ?_⟩
  · by_cases h1 : r (6 + a) = 1
    · by_cases h2 : r (6 + b) = 1
      · rw [if_pos h1, if_pos h2]
        by_cases h3 : a = b
        · rw [if_pos (hab.mpr h3)]
          exact Or.inr ⟨0, by omega, rfl, h3, ha, h1⟩
        · rw [if_neg (fun g => h3 (hab.mp g))]
          by_cases h4 : sp_link r (nI a) (nI b) = true
          · rw [if_pos h4]
            exact Or.inr ⟨1, by omega, rfl, b, ⟨⟨ha, h1⟩, ⟨hb, h2⟩, h3, h4⟩, rfl, hb, h2⟩
          · rw [if_neg h4]
            exact Or.inl rfl
      · rw [if_pos h1, if_neg h2]
        exact Or.inl rfl
    · rw [if_neg h1]
      exact Or.inl rfl
  · match n, hn with
    | 0, h =>
      obtain ⟨rfl, h⟩ := h
      rw [if_pos h.2, if_pos h.2, if_pos rfl]
      exact ⟨0, by omega, by omega, rfl⟩
    | 1, ⟨c, h1, _, h3⟩ =>
      obtain ⟨rfl, _⟩ := h3
      rw [if_pos h1.1.2, if_pos h1.2.1.2, if_neg (fun g => h1.2.2.1 (hab.mp g)), if_pos h1.2.2.2]
      exact ⟨1, by omega, by omega, rfl⟩
    | n + 2, ⟨c, _, h2, _⟩ => exact absurd (h2 (by omega)) (by omega)
theorem kIv_d {r G : Nat → Int32} {y c : Nat} (hy6 : y ≤ 6) (h : kIv r y G) (hc : c < xnb r) : G (6 * c + c) = 0 ∨ G (6 * c + c) = -1 := by
  obtain ⟨h1, h2⟩ := h c c hc hc
  rcases h1 with h1 | ⟨n, _, _, h3⟩
  · exact Or.inr h1
  · obtain ⟨m, hm, _, e⟩ := h2 0 ⟨rfl, (kWk_o h3).1⟩
    have : m = 0 := by omega
    subst this
    exact Or.inl e
theorem kIv_s {r G : Nat → Int32} {y : Nat} (hnb : xnb r ≤ 6) (hy : y < xnb r) (h : kIv r y G) : kIv r (y + 1) (sp_sA (xnb r) y G (xnb r)) := by
  intro a b ha hb
  have hp : 2 ^ (y + 1) = 2 ^ y + 2 ^ y := by omega
  have hle : 2 ^ y ≤ 2 ^ 6 := Nat.pow_le_pow_right (by omega) (by omega)
  rw [kAll hnb (by omega) (kIv_d (by omega) h hy) (xnb r) hnb a b (by omega) (by omega), if_pos ⟨ha, hb⟩]
  obtain ⟨x1, x2⟩ := h a b ha hb
  obtain ⟨p1, p2⟩ := h a y ha hy
  obtain ⟨q1, q2⟩ := h y b hy hb
  generalize G (6 * a + b) = x at *
  generalize G (6 * a + y) = p at *
  generalize G (6 * y + b) = q at *
  have key : (kcb x p q = -1 ∧ x = -1 ∧ (p = -1 ∨ q = -1)) ∨ ∃ n, n ≤ 2 ^ (y + 1) ∧ kcb x p q = nI n ∧ kWk r n a b ∧ (∀ m, m < 2 ^ 31 → x = nI m → n ≤ m) ∧ ∀ i j, i < 2 ^ 30 → j < 2 ^ 30 → p = nI i → q = nI j → n ≤ i + j := by
    unfold kcb
    rcases p1 with p1 | ⟨i, hi, rfl, wi⟩
    · rw [if_pos p1]
      rcases x1 with x1 | ⟨n, hn, rfl, wn⟩
      · exact Or.inl ⟨x1, x1, Or.inl p1⟩
      · refine Or.inr ⟨n, by omega, rfl, wn, fun m hm e => ?_, fun i j hi _ e _ => ?_⟩
        · have := nI_inj (by omega) hm e
          omega
        · rw [p1] at e
          exact absurd e.symm (toJ_ne (by omega))
    · rw [if_neg (toJ_ne (by omega))]
      rcases q1 with q1 | ⟨j, hj, rfl, wj⟩
      · rw [if_pos q1]
        rcases x1 with x1 | ⟨n, hn, rfl, wn⟩
        · exact Or.inl ⟨x1, x1, Or.inr q1⟩
        · refine Or.inr ⟨n, by omega, rfl, wn, fun m hm e => ?_, fun i j _ hj _ e => ?_⟩
          · have := nI_inj (by omega) hm e
            omega
          · rw [q1] at e
            exact absurd e.symm (toJ_ne (by omega))
      · rw [if_neg (toJ_ne (by omega)), zA]
        have wij := kWk_app i j a y b wi wj
        have fin : ∀ i' j', i' < 2 ^ 30 → j' < 2 ^ 30 → nI i = nI i' → nI j = nI j' → i + j ≤ i' + j' := fun i' j' g1 g2 e1 e2 => by
          have := nI_inj (by omega) (by omega) e1
          have := nI_inj (by omega) (by omega) e2
          omega
        rcases x1 with rfl | ⟨n, hn, rfl, wn⟩
        · rw [if_pos rfl]
          exact Or.inr ⟨i + j, by omega, rfl, wij, fun m hm e => absurd e.symm (toJ_ne hm), fin⟩
        · rw [if_neg (toJ_ne (by omega))]
          by_cases g : n ≤ i + j
          · rw [if_pos (nI_le g (by omega))]
            refine Or.inr ⟨n, by omega, rfl, wn, fun m hm e => ?_, fun i' j' g1 g2 e1 e2 => Nat.le_trans g (fin i' j' g1 g2 e1 e2)⟩
            have := nI_inj (by omega) hm e
            omega
          · rw [if_neg (nI_ge (by omega) (by omega))]
            refine Or.inr ⟨i + j, by omega, rfl, wij, fun m hm e => ?_, fin⟩
            have := nI_inj (by omega) hm e
            omega
  refine ⟨?_, fun n hn => ?_⟩
  · rcases key with ⟨h1, _⟩ | ⟨n, h1, h2, h3, _⟩
    · exact Or.inl h1
    · exact Or.inr ⟨n, h1, h2, h3⟩
  · rcases kP_dec n a b hn with g | ⟨i, j, hij, g1, g2⟩
    · obtain ⟨m, hm, hm2, e⟩ := x2 n g
      rcases key with ⟨_, h2, _⟩ | ⟨n', h1, h2, _, h4, _⟩
      · rw [h2] at e
        exact absurd e.symm (toJ_ne (by omega))
      · have := h4 m (by omega) e
        exact ⟨n', by omega, h1, h2⟩
    · obtain ⟨m1, a1, a2, e1⟩ := p2 i g1
      obtain ⟨m2, b1, b2, e2⟩ := q2 j g2
      rcases key with ⟨_, _, h3 | h3⟩ | ⟨n', h1, h2, _, _, h5⟩
      · rw [h3] at e1
        exact absurd e1.symm (toJ_ne (by omega))
      · rw [h3] at e2
        exact absurd e2.symm (toJ_ne (by omega))
      · have := h5 m1 m2 (by omega) (by omega) e1 e2
        exact ⟨n', by omega, h1, h2⟩
theorem kfar_ok {r f : Nat → Int32} (hnb : xnb r ≤ 6) : kIv r (xnb r) (sp_far r f) := by
  have h : ∀ n, n ≤ xnb r → kIv r n (sp_sY (xnb r) (sp_iA r f (xnb r)) n) := by
    intro n
    induction n with
    | zero => intro _; exact kIv_0 hnb
    | succ n ih => intro hn; exact kIv_s hnb (by omega) (ih (by omega))
  exact h (xnb r) (Nat.le_refl _)
theorem kfar_out {r f : Nat → Int32} (hnb : xnb r ≤ 6) {a b : Nat} (ha : a < 6) (hb : b < 6) (h : ¬ (a < xnb r ∧ b < xnb r)) : sp_far r f (6 * a + b) = f (6 * a + b) := by
  have g : ∀ n, n ≤ xnb r → sp_sY (xnb r) (sp_iA r f (xnb r)) n (6 * a + b) = f (6 * a + b) ∧ kIv r n (sp_sY (xnb r) (sp_iA r f (xnb r)) n) := by
    intro n
    induction n with
    | zero =>
      intro _
      refine ⟨?_, kIv_0 hnb⟩
      show sp_iA r f (xnb r) (6 * a + b) = _
      rw [kInA hnb (xnb r) hnb a b ha hb, if_neg h]
    | succ n ih =>
      intro hn
      obtain ⟨h1, h2⟩ := ih (by omega)
      refine ⟨?_, kIv_s hnb (by omega) h2⟩
      show sp_sA (xnb r) n (sp_sY (xnb r) (sp_iA r f (xnb r)) n) (xnb r) (6 * a + b) = _
      rw [kAll hnb (by omega) (kIv_d (by omega) h2 (by omega)) (xnb r) hnb a b ha hb, if_neg h, h1]
  exact (g (xnb r) (Nat.le_refl _)).1
/-- what the legs are -/
theorem kfar_s {r f : Nat → Int32} (hnb : xnb r ≤ 6) {a b : Nat} (ha : a < xnb r) (hb : b < xnb r) : (sp_far r f (6 * a + b) = -1 ∧ ∀ n, ¬ kWk r n a b) ∨ ∃ n, n ≤ 64 ∧ sp_far r f (6 * a + b) = nI n ∧ kWk r n a b ∧ ∀ m, kWk r m a b → n ≤ m := by
  obtain ⟨h1, h2⟩ := @kfar_ok r f hnb a b ha hb
  have hle : 2 ^ xnb r ≤ 2 ^ 6 := Nat.pow_le_pow_right (by omega) hnb
  rcases h1 with h1 | ⟨n, g1, g2, g3⟩
  · refine Or.inl ⟨h1, fun n hn => ?_⟩
    obtain ⟨m, _, _, e⟩ := h2 n (kP_all n a b hn)
    rw [h1] at e
    exact absurd e.symm (toJ_ne (by omega))
  · refine Or.inr ⟨n, by omega, g2, g3, fun m hm => ?_⟩
    obtain ⟨m', g4, _, e⟩ := h2 m (kP_all m a b hm)
    rw [g2] at e
    have := nI_inj (by omega) (by omega) e
    omega
theorem kfar_eq {r f : Nat → Int32} (hnb : xnb r ≤ 6) {a b : Nat} (ha : a < xnb r) (hb : b < xnb r) : sp_far r f (6 * a + b) = kD r a b := by
  unfold kD
  rcases @kfar_s r f hnb a b ha hb with ⟨h1, h2⟩ | ⟨n, _, h1, h2, h3⟩
  · rcases @kfar_s r (fun _ => -1) hnb a b ha hb with ⟨g1, g2⟩ | ⟨m, _, g1, g2, g3⟩
    · rw [h1, g1]
    · exact absurd g2 (h2 m)
  · rcases @kfar_s r (fun _ => -1) hnb a b ha hb with ⟨g1, g2⟩ | ⟨m, _, g1, g2, g3⟩
    · exact absurd h2 (g2 n)
    · have := h3 m g2
      have := g3 n h2
      rw [h1, g1, show n = m by omega]
theorem kD_out {r : Nat → Int32} (hnb : xnb r ≤ 6) {a b : Nat} (ha : a < 6) (hb : b < 6) (h : ¬ (a < xnb r ∧ b < xnb r)) : kD r a b = -1 := kfar_out hnb ha hb h
theorem kWk_end {r : Nat → Int32} : ∀ n a b, kWk r (n + 1) a b → ∃ c, kWk r n a c ∧ kL r c b := by
  intro n
  induction n with
  | zero =>
    intro a b h
    obtain ⟨c, h1, rfl, h2⟩ := h
    exact ⟨a, ⟨rfl, h1.1⟩, h1⟩
  | succ n ih =>
    intro a b h
    obtain ⟨c, h1, h2⟩ := h
    obtain ⟨x, g1, g2⟩ := ih c b h2
    exact ⟨x, ⟨c, h1, g1⟩, g2⟩
theorem kWk_one {r : Nat → Int32} {a b : Nat} (h : kL r a b) : kWk r 1 a b := ⟨b, h, rfl, h.2.1⟩
/-- reached in at most t -/
def kRt (r : Nat → Int32) (a t b : Nat) : Prop := ∃ n, n ≤ t ∧ kWk r n a b
def kTv (r : Nat → Int32) (a t v : Nat) : Prop := ∃ c, kRt r a t c ∧ sp_has r v (nI c) = true
theorem sp_link_iff {r : Nat → Int32} {a b : Int32} : sp_link r a b = true ↔ ∃ v, v < xnv r ∧ sp_has r v a = true ∧ sp_has r v b = true := by
  unfold sp_link
  rw [xany_iff]
  constructor
  · rintro ⟨v, h1, h2⟩
    rw [Bool.and_eq_true] at h2
    exact ⟨v, h1, h2.1, h2.2⟩
  · rintro ⟨v, h1, h2, h3⟩
    exact ⟨v, h1, by rw [h2, h3]; rfl⟩
theorem kRt_s {r : Nat → Int32} {a t b : Nat} : kRt r a (t + 1) b ↔ kRt r a t b ∨ (kO r b ∧ ∃ v, v < xnv r ∧ kTv r a t v ∧ sp_has r v (nI b) = true) := by
  constructor
  · rintro ⟨n, hn, h⟩
    by_cases g : n ≤ t
    · exact Or.inl ⟨n, g, h⟩
    · have : n = t + 1 := by omega
      subst this
      obtain ⟨c, h1, h2⟩ := kWk_end t a b h
      obtain ⟨v, v1, v2, v3⟩ := sp_link_iff.mp h2.2.2.2
      exact Or.inr ⟨h2.2.1, v, v1, ⟨c, ⟨t, Nat.le_refl _, h1⟩, v2⟩, v3⟩
  · rintro (⟨n, hn, h⟩ | ⟨ho, v, v1, ⟨c, ⟨n, hn, h⟩, v2⟩, v3⟩)
    · exact ⟨n, by omega, h⟩
    · by_cases e : c = b
      · subst e
        exact ⟨n, by omega, h⟩
      · exact ⟨n + 1, by omega, kWk_app n 1 a c b h (kWk_one ⟨(kWk_o h).2, ho, e, sp_link_iff.mpr ⟨v, v1, v2, v3⟩⟩)⟩
theorem kTv_mono {r : Nat → Int32} {a t v : Nat} (h : kTv r a t v) : kTv r a (t + 1) v := by
  obtain ⟨c, ⟨n, hn, h1⟩, h2⟩ := h
  exact ⟨c, ⟨n, by omega, h1⟩, h2⟩
/-- the vans touched stay the same: nothing new is reached -/
theorem kRt_stop {r : Nat → Int32} {a t : Nat} (h : ∀ v, v < xnv r → kTv r a (t + 1) v → kTv r a t v) : ∀ b, kRt r a (t + 2) b → kRt r a (t + 1) b := by
  intro b hb
  rcases kRt_s.mp hb with g | ⟨ho, v, v1, v2, v3⟩
  · exact g
  · exact kRt_s.mpr (Or.inr ⟨ho, v, v1, h v v1 v2, v3⟩)
theorem kRt_stay {r : Nat → Int32} {a t : Nat} (h : ∀ b, kRt r a (t + 1) b → kRt r a t b) : ∀ n b, kRt r a (t + n) b → kRt r a t b := by
  intro n
  induction n with
  | zero => intro b hb; exact hb
  | succ n ih =>
    intro b hb
    rcases kRt_s.mp hb with g | ⟨ho, v, v1, ⟨c, c1, c2⟩, v3⟩
    · exact ih b g
    · exact h b (kRt_s.mpr (Or.inr ⟨ho, v, v1, ⟨c, ih c c1, c2⟩, v3⟩))
/-- in a chain of five, four vans -/
theorem kChain {P : Nat → Nat → Prop} {m : Nat} (hm : m ≤ 4) (mono : ∀ t v, P t v → P (t + 1) v) (h0 : ∃ v, v < m ∧ P 0 v) : ∃ t, t < 4 ∧ ∀ v, v < m → P (t + 1) v → P t v := by
  apply Classical.byContradiction
  intro hn
  have step : ∀ t, t < 4 → ∃ v, v < m ∧ P (t + 1) v ∧ ¬ P t v := by
    intro t ht
    apply Classical.byContradiction
    intro g
    exact hn ⟨t, ht, fun v h1 h2 => Classical.byContradiction fun h3 => g ⟨v, h1, h2, h3⟩⟩
  have up : ∀ n t v, P t v → P (t + n) v := by
    intro n
    induction n with
    | zero => intro t v h; exact h
    | succ n ih => intro t v h; exact mono _ _ (ih t v h)
  obtain ⟨v0, a0, b0⟩ := h0
  obtain ⟨v1, a1, b1, c1⟩ := step 0 (by omega)
  obtain ⟨v2, a2, b2, c2⟩ := step 1 (by omega)
  obtain ⟨v3, a3, b3, c3⟩ := step 2 (by omega)
  obtain ⟨v4, a4, b4, c4⟩ := step 3 (by omega)
  have n01 : v0 ≠ v1 := fun e => c1 (e ▸ b0)
  have n02 : v0 ≠ v2 := fun e => c2 (e ▸ up 1 0 v0 b0)
  have n03 : v0 ≠ v3 := fun e => c3 (e ▸ up 2 0 v0 b0)
  have n04 : v0 ≠ v4 := fun e => c4 (e ▸ up 3 0 v0 b0)
  have n12 : v1 ≠ v2 := fun e => c2 (e ▸ b1)
  have n13 : v1 ≠ v3 := fun e => c3 (e ▸ up 1 1 v1 b1)
  have n14 : v1 ≠ v4 := fun e => c4 (e ▸ up 2 1 v1 b1)
  have n23 : v2 ≠ v3 := fun e => c3 (e ▸ b2)
  have n24 : v2 ≠ v4 := fun e => c4 (e ▸ up 1 2 v2 b2)
  have n34 : v3 ≠ v4 := fun e => c4 (e ▸ b3)
  omega
theorem kRt_4 {r : Nat → Int32} (hv4 : xnv r ≤ 4) {a b n : Nat} (h : kWk r n a b) : kRt r a 4 b := by
  by_cases h0 : ∃ v, v < xnv r ∧ kTv r a 0 v
  · obtain ⟨t, ht, hs⟩ := kChain hv4 (fun t v => @kTv_mono r a t v) h0
    have g := kRt_stay (kRt_stop hs) n b ⟨n, by omega, h⟩
    obtain ⟨m, hm, w⟩ := g
    exact ⟨m, by omega, w⟩
  · have s : ∀ b, kRt r a 1 b → kRt r a 0 b := by
      intro b hb
      rcases kRt_s.mp hb with g | ⟨ho, v, v1, v2, v3⟩
      · exact g
      · exact absurd ⟨v, v1, v2⟩ h0
    obtain ⟨m, hm, w⟩ := kRt_stay s n b ⟨n, by omega, h⟩
    exact ⟨m, by omega, w⟩
theorem kD_s {r : Nat → Int32} (hB : xBd r) {a b : Nat} (ha : a < xnb r) (hb : b < xnb r) : (kD r a b = -1 ∧ ∀ n, ¬ kWk r n a b) ∨ ∃ n, n ≤ 4 ∧ kD r a b = nI n ∧ kWk r n a b ∧ ∀ m, kWk r m a b → n ≤ m := by
  rcases @kfar_s r (fun _ => -1) hB.b6 a b ha hb with h | ⟨n, h0, h1, h2, h3⟩
  · exact Or.inl h
  · obtain ⟨m, hm, w⟩ := kRt_4 hB.v4 h2
    have := h3 m w
    exact Or.inr ⟨n, by omega, h1, h2, h3⟩
/-- one link more -/
theorem kD_tri {r : Nat → Int32} (hB : xBd r) {a b c n : Nat} (ha : a < xnb r) (hb : b < xnb r) (hc : c < xnb r) (oa : kO r a) (hv : ∃ v, v < xnv r ∧ sp_has r v (nI a) = true ∧ sp_has r v (nI c) = true) (hn : n < 2 ^ 30) (h : kD r c b = nI n) : ∃ m, m ≤ n + 1 ∧ kD r a b = nI m := by
  rcases kD_s hB hc hb with ⟨h1, _⟩ | ⟨n', h0, h1, h2, h3⟩
  · rw [h1] at h
    exact absurd h.symm (toJ_ne (by omega))
  · have e := nI_inj (by omega) (by omega) (h.symm.trans h1)
    subst e
    have w : ∃ m, m ≤ n + 1 ∧ kWk r m a b := by
      by_cases g : a = c
      · subst g
        exact ⟨n, by omega, h2⟩
      · exact ⟨n + 1, by omega, c, ⟨oa, (kWk_o h2).1, g, sp_link_iff.mpr hv⟩, h2⟩
    obtain ⟨m, hm, w⟩ := w
    rcases kD_s hB ha hb with ⟨_, g2⟩ | ⟨m', g0, g1, g2, g3⟩
    · exact absurd w (g2 m)
    · exact ⟨m', by have := g3 m w; omega, g1⟩
theorem kD_ro {r : Nat → Int32} (hB : xBd r) {a b n : Nat} (ha : a < xnb r) (hb : b < xnb r) (hn : n < 2 ^ 31) (h : kD r a b = nI n) : n ≤ 4 ∧ kO r a ∧ kO r b := by
  rcases kD_s hB ha hb with ⟨h1, _⟩ | ⟨n', h0, h1, h2, h3⟩
  · rw [h1] at h
    exact absurd h.symm (toJ_ne hn)
  · have e := nI_inj hn (by omega) (h.symm.trans h1)
    exact ⟨by omega, kWk_o h2⟩
