/-! THE REFERENCE: a query is compiled (2): comparisons, factors, tests -/
abbrev xQy : Type := xTk × List Int32 × (Nat → Bool)
def q_op (f : Nat → Int32) (T : xTk) : Int32 := if sp_sym f T 60 then -20 else if sp_sym f T 61 then -21 else -22
def q_ho (op x y : Int32) : Bool := if op = -20 then decide (x < y) else if op = -21 then decide (x = y) else decide (y < x)
noncomputable def q_c3_z (f : Nat → Int32) (n : Nat) (T : xTk) : xTk := sp_adv f n (sp_check T (if q_op f T = -22 ∧ ¬ sp_sym f T 62 then 0 else 1) 1)
noncomputable def q_c3 : (Nat → Int32) → Nat → xTk → xTk := sq_op q_c3_z
theorem q_c3_u {f : Nat → Int32} {n : Nat} {T : xTk} : q_c3 f n T = sp_adv f n (sp_check T (if q_op f T = -22 ∧ ¬ sp_sym f T 62 then 0 else 1) 1) := congrFun (congrFun (congrFun (sq_op_eq (a := q_c3_z)) f) n) T
noncomputable def q_cmp_z (f : Nat → Int32) (n : Nat) (pv : Int32 → Nat → Int32) (T : xTk) : xQy := (q_vT f n (q_c3 f n (q_vT f n T)), (qE (q_vT f n T) (q_vC f n T) ++ qE (q_vT f n (q_c3 f n (q_vT f n T))) (q_vC f n (q_c3 f n (q_vT f n T)))) ++ qE (q_vT f n (q_c3 f n (q_vT f n T))) (q_op f (q_vT f n T)), fun b => q_ho (q_op f (q_vT f n T)) (pv (q_vC f n T) b) (pv (q_vC f n (q_c3 f n (q_vT f n T))) b))
noncomputable def q_cmp : (Nat → Int32) → Nat → (Int32 → Nat → Int32) → xTk → xQy := sq_op q_cmp_z
theorem q_cmp_u {f : Nat → Int32} {n : Nat} {pv : Int32 → Nat → Int32} {T : xTk} : q_cmp f n pv T = (q_vT f n (q_c3 f n (q_vT f n T)), (qE (q_vT f n T) (q_vC f n T) ++ qE (q_vT f n (q_c3 f n (q_vT f n T))) (q_vC f n (q_c3 f n (q_vT f n T)))) ++ qE (q_vT f n (q_c3 f n (q_vT f n T))) (q_op f (q_vT f n T)), fun b => q_ho (q_op f (q_vT f n T)) (pv (q_vC f n T) b) (pv (q_vC f n (q_c3 f n (q_vT f n T))) b)) := congrFun (congrFun (congrFun (congrFun (sq_op_eq (a := q_cmp_z)) f) n) pv) T
noncomputable def q_lp_z (f : Nat → Int32) (n k : Nat) (op : Int32) (cb : Bool → Bool → Bool) (g : xTk → xQy) : Nat → xQy → xQy
  | 0, q => q
  | L + 1, q => if sp_wrd f q.1 k then q_lp_z f n k op cb g L ((g (sp_scan f n q.1)).1, (q.2.1 ++ (g (sp_scan f n q.1)).2.1) ++ qE (g (sp_scan f n q.1)).1 op, fun b => cb (q.2.2 b) ((g (sp_scan f n q.1)).2.2 b)) else q
noncomputable def q_lp : (Nat → Int32) → Nat → Nat → Int32 → (Bool → Bool → Bool) → (xTk → xQy) → Nat → xQy → xQy := sq_op q_lp_z
theorem q_lp_0 {f : Nat → Int32} {n k : Nat} {op : Int32} {cb : Bool → Bool → Bool} {g : xTk → xQy} {q : xQy} : q_lp f n k op cb g 0 q = q := by
  unfold q_lp
  rw [sq_op_eq]
  rfl
theorem q_lp_s {f : Nat → Int32} {n k : Nat} {op : Int32} {cb : Bool → Bool → Bool} {g : xTk → xQy} {L : Nat} {q : xQy} : q_lp f n k op cb g (L + 1) q = if sp_wrd f q.1 k then q_lp f n k op cb g L ((g (sp_scan f n q.1)).1, (q.2.1 ++ (g (sp_scan f n q.1)).2.1) ++ qE (g (sp_scan f n q.1)).1 op, fun b => cb (q.2.2 b) ((g (sp_scan f n q.1)).2.2 b)) else q := by
  unfold q_lp
  rw [sq_op_eq]
  rfl
noncomputable def q_cj (f : Nat → Int32) (n : Nat) (g : xTk → xQy) (T : xTk) : xQy := q_lp f n 41 (-24) (fun x y => x && y) g 200 (g T)
noncomputable def q_ts (f : Nat → Int32) (n : Nat) (g : xTk → xQy) (T : xTk) : xQy := q_lp f n 42 (-25) (fun x y => x || y) (q_cj f n g) 200 (q_cj f n g T)
noncomputable def q_fac_z (f : Nat → Int32) (n : Nat) (pv : Int32 → Nat → Int32) : Nat → xTk → xQy
  | 0, T => if sp_wrd f T 40 ∨ sp_sym f T 40 then (sp_flaw T 3, [], fun _ => false) else q_cmp f n pv T
  | D + 1, T => if sp_wrd f T 40 then ((q_fac_z f n pv D (sp_adv f n T)).1, (q_fac_z f n pv D (sp_adv f n T)).2.1 ++ qE (q_fac_z f n pv D (sp_adv f n T)).1 (-23), fun b => !(q_fac_z f n pv D (sp_adv f n T)).2.2 b) else if sp_sym f T 40 then (sp_exp2 f n (q_ts f n (q_fac_z f n pv D) (sp_adv f n T)).1 41, (q_ts f n (q_fac_z f n pv D) (sp_adv f n T)).2.1, (q_ts f n (q_fac_z f n pv D) (sp_adv f n T)).2.2) else q_cmp f n pv T
noncomputable def q_fac : (Nat → Int32) → Nat → (Int32 → Nat → Int32) → Nat → xTk → xQy := sq_op q_fac_z
theorem q_fac_0 {f : Nat → Int32} {n : Nat} {pv : Int32 → Nat → Int32} {T : xTk} : q_fac f n pv 0 T = if sp_wrd f T 40 ∨ sp_sym f T 40 then (sp_flaw T 3, [], fun _ => false) else q_cmp f n pv T := by
  unfold q_fac
  rw [sq_op_eq]
  rfl
theorem q_fac_s {f : Nat → Int32} {n : Nat} {pv : Int32 → Nat → Int32} {D : Nat} {T : xTk} : q_fac f n pv (D + 1) T = if sp_wrd f T 40 then ((q_fac f n pv D (sp_adv f n T)).1, (q_fac f n pv D (sp_adv f n T)).2.1 ++ qE (q_fac f n pv D (sp_adv f n T)).1 (-23), fun b => !(q_fac f n pv D (sp_adv f n T)).2.2 b) else if sp_sym f T 40 then (sp_exp2 f n (q_ts f n (q_fac f n pv D) (sp_adv f n T)).1 41, (q_ts f n (q_fac f n pv D) (sp_adv f n T)).2.1, (q_ts f n (q_fac f n pv D) (sp_adv f n T)).2.2) else q_cmp f n pv T := by
  unfold q_fac
  rw [sq_op_eq]
  rfl
/-- where a token starts; a token that is there has a sign -/
def q_st (T : xTk) : Nat := T.2.1.toNatClampNeg
def sp_tx (T : xTk) : Prop := T.2.2.1 = 0 ∨ q_st T < T.1
section GR
variable {f : Nat → Int32} {n : Nat} {T : xTk} {b c x : Int32}
theorem q_st_flaw : q_st (sp_flaw T c) = q_st T := by
  unfold sp_flaw
  split <;> rfl
theorem q_st_check : q_st (sp_check T b c) = q_st T := by
  unfold sp_check
  split
  · exact q_st_flaw
  · rfl
theorem sp_tx_flaw (h : sp_tx T) : sp_tx (sp_flaw T c) := by
  unfold sp_flaw
  split
  · exact h
  · exact h
theorem sp_tx_check (h : sp_tx T) : sp_tx (sp_check T b c) := by
  unfold sp_check
  split
  · exact sp_tx_flaw h
  · exact h
theorem sp_scan_x (hn : n ≤ 800) (hp : T.1 ≤ n) : sp_tx (sp_scan f n T) ∧ T.1 ≤ q_st (sp_scan f n T) := by
  have h2 := @xto_le (fun j => ¬ sp_spc f n j) _ (n - T.1) T.1
  unfold sp_scan
  generalize hs : xto (fun j => ¬ sp_spc f n j) T.1 (n - T.1) = s at *
  unfold sp_scS sp_tx q_st
  have es : (nI s).toNatClampNeg = s := nI_clamp (by omega)
  by_cases h : s < n
  · rw [if_pos h]
    by_cases hl : sp_let f n s
    · rw [if_pos hl]
      have := @xto_le (fun j => ¬ sp_let f n j) _ (n - (s + 1)) (s + 1)
      have e : xto (fun j => ¬ sp_let f n j) s (n - s) = xto (fun j => ¬ sp_let f n j) (s + 1) (n - (s + 1)) := by
        rw [show n - s = (n - (s + 1)) + 1 by omega]
        exact xto_n (fun z => z hl)
      dsimp only
      rw [e, es]
      exact ⟨Or.inr (by omega), by omega⟩
    · rw [if_neg hl]
      by_cases hd : sp_dig f n s
      · rw [if_pos hd]
        have := @xto_le (fun j => ¬ sp_dig f n j) _ (n - (s + 1)) (s + 1)
        have e : xto (fun j => ¬ sp_dig f n j) s (n - s) = xto (fun j => ¬ sp_dig f n j) (s + 1) (n - (s + 1)) := by
          rw [show n - s = (n - (s + 1)) + 1 by omega]
          exact xto_n (fun z => z hd)
        dsimp only
        rw [e, es]
        exact ⟨Or.inr (by omega), by omega⟩
      · rw [if_neg hd]
        dsimp only
        rw [es]
        exact ⟨Or.inr (by omega), by omega⟩
  · rw [if_neg h]
    dsimp only
    rw [es]
    exact ⟨Or.inl rfl, by omega⟩
theorem q_st_le (hn : n ≤ 800) (hT : sp_tw f n T) : q_st T ≤ T.1 := by
  obtain ⟨hp, s, hs, hsp, _⟩ := hT
  unfold q_st
  rw [hs, nI_clamp (by omega)]
  exact hsp
theorem sp_adv_x (hn : n ≤ 800) (hT : sp_tw f n T) (hx : sp_tx T) : sp_tx (sp_adv f n T) ∧ q_st T ≤ q_st (sp_adv f n T) ∧ (T.2.2.2.1 = 0 → ¬ T.2.2.1 = 0 → q_st T + 1 ≤ q_st (sp_adv f n T)) := by
  unfold sp_adv
  by_cases h : T.2.2.2.1 = 0
  · rw [if_pos h]
    obtain ⟨a, b⟩ := @sp_scan_x f n T hn hT.1
    have := q_st_le hn hT
    refine ⟨a, by omega, fun _ hk => ?_⟩
    rcases hx with hx | hx
    · exact absurd hx hk
    · omega
  · rw [if_neg h]
    exact ⟨hx, Nat.le_refl _, fun z => absurd z h⟩
/-- what grows -/
def qG (f : Nat → Int32) (n : Nat) (T : xTk) (q : xQy) : Prop := sp_tw f n q.1 ∧ sp_tx q.1 ∧ q.2.1.length + q_st T ≤ q_st q.1 ∧ (¬ T.2.2.2.1 = 0 → q.1 = T)
theorem qE_len : (qE T x).length ≤ 1 := by
  unfold qE
  split
  · exact Nat.le_refl 1
  · exact Nat.zero_le 1
theorem qE_e (h : ¬ T.2.2.2.1 = 0) : qE T x = [] := if_neg h
theorem q_nm_7 (h : ¬ q_nm f T = 7) : ¬ T.2.2.1 = 0 := by
  have g : ∀ k, sp_wrd f T k → ¬ T.2.2.1 = 0 := fun k z y => by
    have := z.1.2.1
    rw [y] at this
    exact absurd this (by decide)
  unfold q_nm at h
  by_cases h0 : sp_wrd f T 27
  · exact g _ h0
  rw [if_neg h0] at h
  by_cases h1 : sp_wrd f T 28
  · exact g _ h1
  rw [if_neg h1] at h
  by_cases h2 : sp_wrd f T 29
  · exact g _ h2
  rw [if_neg h2] at h
  by_cases h3 : sp_wrd f T 30
  · exact g _ h3
  rw [if_neg h3] at h
  by_cases h4 : sp_wrd f T 31
  · exact g _ h4
  rw [if_neg h4] at h
  by_cases h5 : sp_wrd f T 32
  · exact g _ h5
  rw [if_neg h5] at h
  by_cases h6 : sp_wrd f T 33
  · exact g _ h6
  rw [if_neg h6] at h
  exact absurd rfl h
theorem q_vT_G (hn : n ≤ 800) (hT : sp_tw f n T) (hx : sp_tx T) : sp_tw f n (q_vT f n T) ∧ sp_tx (q_vT f n T) ∧ (qE (q_vT f n T) x).length + q_st T ≤ q_st (q_vT f n T) ∧ (¬ T.2.2.2.1 = 0 → q_vT f n T = T) := by
  rw [q_vT_u]
  by_cases h : T.2.2.2.1 = 0 ∧ ¬ T.2.2.1 = 2
  · rw [if_pos h]
    have hTc := @sp_tw_check f n T (if q_nm f T = 7 then 0 else 1) 1 hT
    have hxc := @sp_tx_check T (if q_nm f T = 7 then 0 else 1) 1 hx
    obtain ⟨a1, a2, a3⟩ := sp_adv_x hn hTc hxc
    rw [q_st_check] at a2 a3
    refine ⟨sp_tw_adv hTc, a1, ?_, fun z => absurd h.1 z⟩
    by_cases h7 : q_nm f T = 7
    · have ne : ¬ (sp_adv f n (sp_check T (if q_nm f T = 7 then 0 else 1) 1)).2.2.2.1 = 0 := by
        rw [if_pos h7, sp_check_0, sp_adv_e (sp_flaw_err (by decide))]
        exact sp_flaw_err (by decide)
      rw [qE_e ne]
      show 0 + _ ≤ _
      omega
    · have e : sp_check T (if q_nm f T = 7 then 0 else 1) 1 = T := by rw [if_neg h7, sp_check_1]
      rw [e] at a3 ⊢
      have := a3 h.1 (q_nm_7 h7)
      have := @qE_len (sp_adv f n T) x
      omega
  · rw [if_neg h]
    by_cases z : (sp_rnT f n T 0 9999).2.2.2.1 = 0
    · obtain ⟨z1, z2, z3, z4, z5⟩ := sp_rnT_ok z
      rw [z4]
      obtain ⟨a1, a2, a3⟩ := sp_adv_x hn hT hx
      have := a3 z1 (by rw [z2]; decide)
      have := @qE_len (sp_adv f n T) x
      exact ⟨sp_tw_adv hT, a1, by omega, fun y => absurd z1 y⟩
    · rw [qE_e z]
      have hT2 : sp_tw f n (sp_rn2 f T 0 9999) := sp_tw_check (sp_tw_check hT)
      have hx2 : sp_tx (sp_rn2 f T 0 9999) := sp_tx_check (sp_tx_check hx)
      obtain ⟨a1, a2, a3⟩ := sp_adv_x hn hT2 hx2
      have e : q_st (sp_rn2 f T 0 9999) = q_st T := q_st_check.trans q_st_check
      rw [e] at a2
      refine ⟨sp_tw_adv hT2, a1, ?_, fun y => sp_rnT_e y⟩
      show 0 + _ ≤ _
      unfold sp_rnT
      omega
theorem q_c3_G (hn : n ≤ 800) (hT : sp_tw f n T) (hx : sp_tx T) : sp_tw f n (q_c3 f n T) ∧ sp_tx (q_c3 f n T) ∧ q_st T ≤ q_st (q_c3 f n T) ∧ ((q_c3 f n T).2.2.2.1 = 0 → q_st T + 1 ≤ q_st (q_c3 f n T)) ∧ (¬ T.2.2.2.1 = 0 → q_c3 f n T = T) := by
  rw [q_c3_u]
  have hTc := @sp_tw_check f n T (if q_op f T = -22 ∧ ¬ sp_sym f T 62 then 0 else 1) 1 hT
  have hxc := @sp_tx_check T (if q_op f T = -22 ∧ ¬ sp_sym f T 62 then 0 else 1) 1 hx
  obtain ⟨a1, a2, a3⟩ := sp_adv_x hn hTc hxc
  rw [q_st_check] at a2 a3
  refine ⟨sp_tw_adv hTc, a1, a2, fun z => ?_, fun z => by rw [sp_check_e z, sp_adv_e z]⟩
  have z0 : (sp_check T (if q_op f T = -22 ∧ ¬ sp_sym f T 62 then 0 else 1) 1).2.2.2.1 = 0 := (congrArg Prod.fst sp_adv_err).symm.trans z
  obtain ⟨y1, y2, y3⟩ := sp_check_ok (by decide) z0
  have hs : ∃ k, sp_sym f T k := by
    apply Classical.byContradiction
    intro u
    apply y2
    refine if_pos ⟨?_, fun v => u ⟨62, v⟩⟩
    unfold q_op
    rw [if_neg (fun v => u ⟨60, v⟩), if_neg (fun v => u ⟨61, v⟩)]
  obtain ⟨k, hs⟩ := hs
  refine a3 z0 ?_
  rw [y3, hs.2.1]
  decide
theorem q_cmp_G {pv : Int32 → Nat → Int32} (hn : n ≤ 800) (hT : sp_tw f n T) (hx : sp_tx T) : qG f n T (q_cmp f n pv T) := by
  rw [q_cmp_u]
  obtain ⟨a1, a2, a3, a4⟩ := @q_vT_G f n T (q_vC f n T) hn hT hx
  obtain ⟨b1, b2, b3, b4, b5⟩ := q_c3_G hn a1 a2
  obtain ⟨c1, c2, c3, c4⟩ := @q_vT_G f n (q_c3 f n (q_vT f n T)) (q_vC f n (q_c3 f n (q_vT f n T))) hn b1 b2
  refine ⟨c1, c2, ?_, fun z => ?_⟩
  · dsimp only
    rw [List.length_append, List.length_append]
    by_cases z : (q_vT f n (q_c3 f n (q_vT f n T))).2.2.2.1 = 0
    · have z3 : (q_c3 f n (q_vT f n T)).2.2.2.1 = 0 := Decidable.byContradiction fun y => by
        rw [c4 y] at z
        exact y z
      have := b4 z3
      have := @qE_len (q_vT f n (q_c3 f n (q_vT f n T))) (q_op f (q_vT f n T))
      omega
    · rw [qE_e z, qE_e z] at *
      have : ([] : List Int32).length = 0 := rfl
      omega
  · dsimp only
    rw [b5 (by rw [a4 z]; exact z), a4 z, a4 z]
theorem q_lp_G {k : Nat} {op : Int32} {cb : Bool → Bool → Bool} {g : xTk → xQy} (hn : n ≤ 800) (hg : ∀ T, sp_tw f n T → sp_tx T → qG f n T (g T)) : ∀ L (q : xQy), qG f n T q → qG f n T (q_lp f n k op cb g L q) := by
  intro L
  induction L with
  | zero =>
    intro q h
    rw [q_lp_0]
    exact h
  | succ L ih =>
    intro q h
    rw [q_lp_s]
    by_cases hw : sp_wrd f q.1 k
    · rw [if_pos hw]
      obtain ⟨h1, h2, h3, h4⟩ := h
      obtain ⟨s1, s2⟩ := @sp_scan_x f n q.1 hn h1.1
      have s3 : sp_tw f n (sp_scan f n q.1) := sp_tw_acc h1
      obtain ⟨g1, g2, g3, g4⟩ := hg _ s3 s1
      refine ih _ ⟨g1, g2, ?_, fun z => ?_⟩
      · dsimp only
        rw [List.length_append, List.length_append]
        have := @qE_len (g (sp_scan f n q.1)).1 op
        have hk : ¬ q.1.2.2.1 = 0 := fun z => by
          have := hw.1.2.1
          rw [z] at this
          exact absurd this (by decide)
        rcases h2 with h2 | h2
        · exact absurd h2 hk
        · omega
      · have := h4 z
        rw [this] at hw
        exact absurd hw.1.1 z
    · rw [if_neg hw]
      exact h
theorem q_cj_G {g : xTk → xQy} (hn : n ≤ 800) (hg : ∀ T, sp_tw f n T → sp_tx T → qG f n T (g T)) (hT : sp_tw f n T) (hx : sp_tx T) : qG f n T (q_cj f n g T) := q_lp_G hn hg 200 _ (hg T hT hx)
theorem q_ts_G {g : xTk → xQy} (hn : n ≤ 800) (hg : ∀ T, sp_tw f n T → sp_tx T → qG f n T (g T)) (hT : sp_tw f n T) (hx : sp_tx T) : qG f n T (q_ts f n g T) := q_lp_G hn (fun T h1 h2 => q_cj_G hn hg h1 h2) 200 _ (q_cj_G hn hg hT hx)
theorem q_fac_G {pv : Int32 → Nat → Int32} (hn : n ≤ 800) : ∀ D (T : xTk), sp_tw f n T → sp_tx T → qG f n T (q_fac f n pv D T) := by
  intro D
  induction D with
  | zero =>
    intro T hT hx
    rw [q_fac_0]
    by_cases h : sp_wrd f T 40 ∨ sp_sym f T 40
    · rw [if_pos h]
      refine ⟨?_, sp_tx_flaw hx, ?_, fun z => sp_flaw_e z⟩
      · have := @sp_tw_check f n T 0 3 hT
        rw [sp_check_0] at this
        exact this
      · show 0 + _ ≤ q_st (sp_flaw T 3)
        rw [q_st_flaw]
        omega
    · rw [if_neg h]
      exact q_cmp_G hn hT hx
  | succ D ih =>
    intro T hT hx
    have hTa : sp_tw f n (sp_adv f n T) := sp_tw_adv hT
    obtain ⟨a1, a2, a3⟩ := sp_adv_x hn hT hx
    rw [q_fac_s]
    by_cases h : sp_wrd f T 40
    · rw [if_pos h]
      obtain ⟨b1, b2, b3, b4⟩ := ih _ hTa a1
      refine ⟨b1, b2, ?_, fun z => absurd h.1.1 z⟩
      dsimp only
      rw [List.length_append]
      have := @qE_len (q_fac f n pv D (sp_adv f n T)).1 (-23)
      have := a3 h.1.1 (by rw [h.1.2.1]; decide)
      omega
    · rw [if_neg h]
      by_cases h2 : sp_sym f T 40
      · rw [if_pos h2]
        obtain ⟨b1, b2, b3, b4⟩ := @q_ts_G f n (sp_adv f n T) (q_fac f n pv D) hn ih hTa a1
        have hTc := @sp_tw_check f n _ (zB (sp_sym f (q_ts f n (q_fac f n pv D) (sp_adv f n T)).1 41)) 1 b1
        have hxc := @sp_tx_check _ (zB (sp_sym f (q_ts f n (q_fac f n pv D) (sp_adv f n T)).1 41)) 1 b2
        obtain ⟨d1, d2, d3⟩ := sp_adv_x hn hTc hxc
        rw [q_st_check] at d2
        refine ⟨sp_tw_exp2 b1, d1, ?_, fun z => absurd h2.1 z⟩
        dsimp only
        unfold sp_exp2
        omega
      · rw [if_neg h2]
        exact q_cmp_G hn hT hx
end GR
