/-! what the codes of a query tell -/
def qb (m : Bool) : Int64 := if m = true then 1 else 0
def q_opr (c : Int32) (x y : Int64) : Int64 := if c = -24 then x &&& y else if c = -22 then (if lg_cmp x y ≤ 0 then 0 else 1) else if c = -21 then (if lg_cmp x y = 0 then 1 else 0) else if c = -20 then (if 0 ≤ lg_cmp x y then 0 else 1) else x ||| y
def q_g1 (pv : Int32 → Int32) (c : Int32) (st : List Int64) : Option (List Int64) := if c = -23 then (match st with
    | x :: s => some ((1 - x) :: s)
    | [] => none) else if c ≤ -20 then (match st with
    | y :: x :: s => some (q_opr c x y :: s)
    | _ => none) else some ((pv c).toInt64 :: st)
def q_go (pv : Int32 → Int32) : List Int32 → List Int64 → Option (List Int64)
  | [], st => some st
  | c :: cs, st => (q_g1 pv c st).bind (q_go pv cs)
theorem q_go_app {pv : Int32 → Int32} : ∀ (cs ds : List Int32) (st : List Int64), q_go pv (cs ++ ds) st = (q_go pv cs st).bind (q_go pv ds) := by
  intro cs
  induction cs with
  | nil => intro ds st; rfl
  | cons c cs ih =>
    intro ds st
    show (q_g1 pv c st).bind (q_go pv (cs ++ ds)) = ((q_g1 pv c st).bind (q_go pv cs)).bind (q_go pv ds)
    cases q_g1 pv c st with
    | none => rfl
    | some s => exact ih ds s
theorem q_l64 {a b : Int32} : (a.toInt64 < b.toInt64) = (a < b) := propext (by rw [Int64.lt_iff_toInt_lt, Int32.lt_iff_toInt_lt, Int32.toInt_toInt64, Int32.toInt_toInt64])
theorem q_e64 {a b : Int32} : (a.toInt64 = b.toInt64) = (a = b) := propext ⟨fun h => zti (by rw [← Int32.toInt_toInt64, h, Int32.toInt_toInt64]), fun h => by rw [h]⟩
theorem q_opr_ho {op x y : Int32} (h : op = -20 ∨ op = -21 ∨ op = -22) : q_opr op x.toInt64 y.toInt64 = qb (q_ho op x y) := by
  have e1 := @q_l64 y x
  have e2 := @q_l64 x y
  have e3 := @q_e64 x y
  unfold q_opr q_ho qb lg_cmp
  rcases h with rfl | rfl | rfl
  · rw [if_neg (by decide), if_neg (by decide), if_neg (by decide), if_pos rfl, if_pos rfl]
    by_cases a : x.toInt64 > y.toInt64
    · have : ¬ x < y := fun z => absurd (Int32.lt_trans z (show y < x by rw [← e1]; exact a)) Int32.lt_irrefl
      rw [if_pos a, if_pos (by decide), decide_eq_false this]
      rfl
    · rw [if_neg a]
      have a' : ¬ y < x := by rw [← e1]; exact a
      by_cases b : x.toInt64 = y.toInt64
      · rw [if_pos b, if_pos (by decide)]
        have b' : x = y := by rw [← e3]; exact b
        rw [b', decide_eq_false Int32.lt_irrefl]
        rfl
      · rw [if_neg b, if_neg (by decide)]
        have b' : ¬ x = y := by rw [← e3]; exact b
        have : x < y := Int32.not_le.mp fun z => b' (Int32.le_antisymm (Int32.not_lt.mp a') z)
        rw [decide_eq_true this]
        rfl
  · rw [if_neg (by decide), if_neg (by decide), if_pos rfl, if_neg (show ¬ (-21 : Int32) = -20 by decide), if_pos rfl]
    by_cases a : x.toInt64 > y.toInt64
    · have : ¬ x = y := fun z => absurd (show y < x by rw [← e1]; exact a) (by rw [z]; exact Int32.lt_irrefl)
      rw [if_pos a, if_neg (by decide), decide_eq_false this]
      rfl
    · rw [if_neg a]
      by_cases b : x.toInt64 = y.toInt64
      · rw [if_pos b, if_pos rfl]
        have b' : x = y := by rw [← e3]; exact b
        rw [decide_eq_true b']
        rfl
      · rw [if_neg b, if_neg (by decide)]
        have b' : ¬ x = y := by rw [← e3]; exact b
        rw [decide_eq_false b']
        rfl
  · rw [if_neg (by decide), if_pos rfl, if_neg (show ¬ (-22 : Int32) = -20 by decide), if_neg (show ¬ (-22 : Int32) = -21 by decide)]
    by_cases a : x.toInt64 > y.toInt64
    · have : y < x := by rw [← e1]; exact a
      rw [if_pos a, if_neg (by decide), decide_eq_true this]
      rfl
    · rw [if_neg a]
      have a' : ¬ y < x := by rw [← e1]; exact a
      rw [decide_eq_false a']
      by_cases b : x.toInt64 = y.toInt64
      · rw [if_pos b, if_pos (by decide)]
        rfl
      · rw [if_neg b, if_pos (by decide)]
        rfl
/-- a query's codes tell for each book what it means -/
def qS (pv : Int32 → Nat → Int32) (q : xQy) : Prop := (∀ b st, q_go (fun c => pv c b) q.2.1 st = some (qb (q.2.2 b) :: st)) ∧ ∀ c, c ∈ q.2.1 → ¬ c = -23 → ¬ c ≤ -20 → q_ok c
section QS
variable {f : Nat → Int32} {n : Nat} {T : xTk} {pv : Int32 → Nat → Int32}
theorem q_vC_ok (h : (q_vT f n T).2.2.2.1 = 0) : q_ok (q_vC f n T) := by
  rw [q_vT_u] at h
  rw [q_vC_u]
  by_cases z : T.2.2.2.1 = 0 ∧ ¬ T.2.2.1 = 2
  · rw [if_pos z] at h ⊢
    have z0 : (sp_check T (if q_nm f T = 7 then 0 else 1) 1).2.2.2.1 = 0 := (congrArg Prod.fst sp_adv_err).symm.trans h
    have h7 : ¬ q_nm f T = 7 := fun u => (sp_check_ok (by decide) z0).2.1 (if_pos u)
    have := @q_nm_le f T
    exact Or.inl ⟨q_nm f T, by omega, rfl⟩
  · rw [if_neg z]
    exact Or.inr (@sp_rnV_rng f n T 0 9999 (by decide))
theorem q_ok_i : ∀ i, i < 7 → ¬ ((-1 : Int32) - nI i = -23) ∧ ¬ ((-1 : Int32) - nI i ≤ -20) := by decide +kernel
theorem q_ok_n {c : Int32} (h : q_ok c) : ¬ c = -23 ∧ ¬ c ≤ -20 := by
  rcases h with ⟨i, hi, e⟩ | ⟨h1, _⟩
  · rw [e]
    exact q_ok_i i hi
  · refine ⟨fun z => ?_, fun z => ?_⟩
    · rw [z] at h1
      exact absurd h1 (by decide)
    · exact absurd (Int32.le_trans h1 z) (by decide)
theorem q_g1_v {p : Int32 → Int32} {c : Int32} {st : List Int64} (h : q_ok c) : q_g1 p c st = some ((p c).toInt64 :: st) := by
  unfold q_g1
  rw [if_neg (q_ok_n h).1, if_neg (q_ok_n h).2]
theorem qE_1 {x : Int32} (h : T.2.2.2.1 = 0) : qE T x = [x] := if_pos h
theorem q_op_3 : q_op f T = -20 ∨ q_op f T = -21 ∨ q_op f T = -22 := by
  unfold q_op
  split
  · exact Or.inl rfl
  · split
    · exact Or.inr (Or.inl rfl)
    · exact Or.inr (Or.inr rfl)
theorem q_cmp_S (hn : n ≤ 800) (hT : sp_tw f n T) (hx : sp_tx T) (h : (q_cmp f n pv T).1.2.2.2.1 = 0) : qS pv (q_cmp f n pv T) := by
  rw [q_cmp_u] at h ⊢
  dsimp only at h
  obtain ⟨a1, a2, a3, a4⟩ := @q_vT_G f n T 0 hn hT hx
  obtain ⟨b1, b2, b3, b4, b5⟩ := q_c3_G hn a1 a2
  have z3 : (q_c3 f n (q_vT f n T)).2.2.2.1 = 0 := Decidable.byContradiction fun y => by
    rw [(@q_vT_G f n (q_c3 f n (q_vT f n T)) 0 hn b1 b2).2.2.2 y] at h
    exact y h
  have z1 : (q_vT f n T).2.2.2.1 = 0 := Decidable.byContradiction fun y => by
    rw [b5 y] at z3
    exact y z3
  have k1 := q_vC_ok z1
  have k2 := q_vC_ok h
  have k3 := @q_op_3 f (q_vT f n T)
  rw [qE_1 z1, qE_1 h, qE_1 h]
  generalize q_vC f n T = c1 at *
  generalize q_vC f n (q_c3 f n (q_vT f n T)) = c2 at *
  generalize q_op f (q_vT f n T) = op at *
  refine ⟨fun b st => ?_, fun c hc h1 h2 => ?_⟩
  · show (q_g1 _ c1 st).bind (q_go _ [c2, op]) = _
    rw [q_g1_v k1]
    show (q_g1 _ c2 _).bind (q_go _ [op]) = _
    rw [q_g1_v k2]
    show (q_g1 _ op _).bind (q_go _ []) = _
    have e : q_g1 (fun c => pv c b) op ((pv c2 b).toInt64 :: (pv c1 b).toInt64 :: st) = some (q_opr op (pv c1 b).toInt64 (pv c2 b).toInt64 :: st) := by
      unfold q_g1
      rcases k3 with rfl | rfl | rfl <;> rw [if_neg (by decide), if_pos (by decide)]
    rw [e, q_opr_ho k3]
    rfl
  · have hc' : c ∈ [c1, c2, op] := hc
    rcases List.mem_cons.mp hc' with rfl | hc'
    · exact k1
    · rcases List.mem_cons.mp hc' with rfl | hc'
      · exact k2
      · rcases List.mem_cons.mp hc' with rfl | hc'
        · rcases k3 with rfl | rfl | rfl <;> exact absurd (by decide) h2
        · cases hc'
theorem qb_not {x : Bool} : 1 - qb x = qb (!x) := by cases x <;> rfl
theorem qb_and {x y : Bool} : qb x &&& qb y = qb (x && y) := by cases x <;> cases y <;> rfl
theorem qb_or {x y : Bool} : qb x ||| qb y = qb (x || y) := by cases x <;> cases y <;> rfl
theorem q_lp_S {k : Nat} {op : Int32} {cb : Bool → Bool → Bool} {g : xTk → xQy} (hn : n ≤ 800) (ho : op ≤ -20) (ho2 : ¬ op = -23) (hop : ∀ x y, q_opr op (qb x) (qb y) = qb (cb x y)) (hG : ∀ T, sp_tw f n T → sp_tx T → qG f n T (g T)) (hg : ∀ T, sp_tw f n T → sp_tx T → (g T).1.2.2.2.1 = 0 → qS pv (g T)) : ∀ L (q : xQy), sp_tw f n q.1 → sp_tx q.1 → (q.1.2.2.2.1 = 0 → qS pv q) → (q_lp f n k op cb g L q).1.2.2.2.1 = 0 → qS pv (q_lp f n k op cb g L q) := by
  intro L
  induction L with
  | zero =>
    intro q hT hx hq h
    rw [q_lp_0] at h ⊢
    exact hq h
  | succ L ih =>
    intro q hT hx hq h
    rw [q_lp_s] at h ⊢
    by_cases hw : sp_wrd f q.1 k
    · rw [if_pos hw] at h ⊢
      have s1 := (@sp_scan_x f n q.1 hn hT.1).1
      have s3 : sp_tw f n (sp_scan f n q.1) := sp_tw_acc hT
      obtain ⟨g1, g2, _, _⟩ := hG _ s3 s1
      refine ih _ g1 g2 (fun z => ?_) h
      dsimp only at z
      obtain ⟨p1, p2⟩ := hq hw.1.1
      obtain ⟨r1, r2⟩ := hg _ s3 s1 z
      rw [qE_1 z]
      refine ⟨fun b st => ?_, fun c hc h1 h2 => ?_⟩
      · show q_go _ ((q.2.1 ++ (g (sp_scan f n q.1)).2.1) ++ [op]) st = _
        rw [q_go_app, q_go_app, p1 b st]
        show ((q_go _ (g (sp_scan f n q.1)).2.1 _).bind _) = _
        rw [r1 b]
        show (q_g1 _ op _).bind (q_go _ []) = _
        have e : q_g1 (fun c => pv c b) op (qb ((g (sp_scan f n q.1)).2.2 b) :: qb (q.2.2 b) :: st) = some (q_opr op (qb (q.2.2 b)) (qb ((g (sp_scan f n q.1)).2.2 b)) :: st) := by
          unfold q_g1
          rw [if_neg ho2, if_pos ho]
        rw [e, hop]
        rfl
      · have hc' : c ∈ (q.2.1 ++ (g (sp_scan f n q.1)).2.1) ++ [op] := hc
        rcases List.mem_append.mp hc' with hc' | hc'
        · rcases List.mem_append.mp hc' with hc' | hc'
          · exact p2 c hc' h1 h2
          · exact r2 c hc' h1 h2
        · rcases List.mem_cons.mp hc' with rfl | hc'
          · exact absurd ho h2
          · cases hc'
    · rw [if_neg hw] at h ⊢
      exact hq h
theorem q_cj_S {g : xTk → xQy} (hn : n ≤ 800) (hG : ∀ T, sp_tw f n T → sp_tx T → qG f n T (g T)) (hg : ∀ T, sp_tw f n T → sp_tx T → (g T).1.2.2.2.1 = 0 → qS pv (g T)) (hT : sp_tw f n T) (hx : sp_tx T) (h : (q_cj f n g T).1.2.2.2.1 = 0) : qS pv (q_cj f n g T) := by
  obtain ⟨g1, g2, _, _⟩ := hG T hT hx
  exact q_lp_S hn (by decide) (by decide) (fun x y => by
    unfold q_opr
    rw [if_pos rfl]
    exact qb_and) hG hg 200 _ g1 g2 (hg T hT hx) h
theorem q_ts_S {g : xTk → xQy} (hn : n ≤ 800) (hG : ∀ T, sp_tw f n T → sp_tx T → qG f n T (g T)) (hg : ∀ T, sp_tw f n T → sp_tx T → (g T).1.2.2.2.1 = 0 → qS pv (g T)) (hT : sp_tw f n T) (hx : sp_tx T) (h : (q_ts f n g T).1.2.2.2.1 = 0) : qS pv (q_ts f n g T) := by
  obtain ⟨g1, g2, _, _⟩ := q_cj_G hn hG hT hx
  exact q_lp_S hn (by decide) (by decide) (fun x y => by
    unfold q_opr
    rw [if_neg (by decide), if_neg (by decide), if_neg (by decide), if_neg (by decide)]
    exact qb_or) (fun T h1 h2 => q_cj_G hn hG h1 h2) (fun T h1 h2 h3 => q_cj_S hn hG hg h1 h2 h3) 200 _ g1 g2 (fun z => q_cj_S hn hG hg hT hx z) h
theorem q_fac_S (hn : n ≤ 800) : ∀ D (T : xTk), sp_tw f n T → sp_tx T → (q_fac f n pv D T).1.2.2.2.1 = 0 → qS pv (q_fac f n pv D T) := by
  intro D
  induction D with
  | zero =>
    intro T hT hx h
    rw [q_fac_0] at h ⊢
    by_cases hh : sp_wrd f T 40 ∨ sp_sym f T 40
    · rw [if_pos hh] at h
      exact absurd h (sp_flaw_err (by decide))
    · rw [if_neg hh] at h ⊢
      exact q_cmp_S hn hT hx h
  | succ D ih =>
    intro T hT hx h
    have hTa : sp_tw f n (sp_adv f n T) := sp_tw_adv hT
    obtain ⟨a1, a2, a3⟩ := @sp_adv_x f n T hn hT hx
    have hG : ∀ T, sp_tw f n T → sp_tx T → qG f n T (q_fac f n pv D T) := fun T h1 h2' => q_fac_G hn D T h1 h2'
    rw [q_fac_s] at h ⊢
    by_cases hw : sp_wrd f T 40
    · rw [if_pos hw] at h ⊢
      dsimp only at h
      obtain ⟨p1, p2⟩ := ih _ hTa a1 h
      rw [qE_1 h]
      refine ⟨fun b st => ?_, fun c hc h1 h2 => ?_⟩
      · show q_go _ (_ ++ [-23]) st = _
        rw [q_go_app, p1 b st]
        show some ((1 - qb ((q_fac f n pv D (sp_adv f n T)).2.2 b)) :: st) = _
        rw [qb_not]
      · have hc' : c ∈ (q_fac f n pv D (sp_adv f n T)).2.1 ++ [-23] := hc
        rcases List.mem_append.mp hc' with hc' | hc'
        · exact p2 c hc' h1 h2
        · rcases List.mem_cons.mp hc' with rfl | hc'
          · exact absurd rfl h1
          · cases hc'
    · rw [if_neg hw] at h ⊢
      by_cases hs : sp_sym f T 40
      · rw [if_pos hs] at h ⊢
        exact q_ts_S hn hG ih hTa a1 (sp_exp2_ok h).1.1
      · rw [if_neg hs] at h ⊢
        exact q_cmp_S hn hT hx h
end QS
