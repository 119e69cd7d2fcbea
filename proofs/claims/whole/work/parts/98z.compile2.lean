/-! THE REFERENCE: a query is compiled (3): its methods -/
section QC
variable {w : xW} {l : Nat → Nat → Int64} {t : Nat} {sc : xm_Sc} {d n m c : Nat} {a : Nat → Int32} {T : xTk} {pv : Int32 → Nat → Int32}
theorem qw_2 {cs ds : List Int32} : xQw w m (c + cs.length + ds.length) (ap (ap a c cs) (c + cs.length) ds) = xQw w m (c + (cs ++ ds).length) (ap a c (cs ++ ds)) := by rw [ap_2, List.length_append, Nat.add_assoc]
theorem qw_0 : xQw w m (c + ([] : List Int32).length) (ap a c []) = xQw w m c a := by
  rw [ap_0]
  rfl
theorem z293_143 {b op : Int32} {cs : List Int32} (hn : (w 3).1 7 = nI n) (h2 : n ≤ 200) (hT : sp_tw ((w 3).2 8) n T) (hx : sp_tx T) (hc : c + cs.length ≤ q_st T) (h3 : q_c3 ((w 3).2 8) n T = sp_adv ((w 3).2 8) n (sp_check T b 1)) : xm_R sc xt_M (d + 6) 293 143 [.ref 191, .int op] [.int b, .ref 191] (xem (xPw (xQw w m (c + cs.length) (ap a c cs)) T) l t) = some (.inl none, xem (xPw (xQw w m (c + ((cs ++ qE (q_vT ((w 3).2 8) n (q_c3 ((w 3).2 8) n T)) (q_vC ((w 3).2 8) n (q_c3 ((w 3).2 8) n T))) ++ qE (q_vT ((w 3).2 8) n (q_c3 ((w 3).2 8) n T)) op).length) (ap a c ((cs ++ qE (q_vT ((w 3).2 8) n (q_c3 ((w 3).2 8) n T)) (q_vC ((w 3).2 8) n (q_c3 ((w 3).2 8) n T))) ++ qE (q_vT ((w 3).2 8) n (q_c3 ((w 3).2 8) n T)) op))) (q_vT ((w 3).2 8) n (q_c3 ((w 3).2 8) n T))) l t) := by
  have c273 := @zc_273 (xQw w m (c + cs.length) (ap a c cs)) l t sc (d + 4) T b 1
  have hTc := @sp_tw_check ((w 3).2 8) n T b 1 hT
  have c274 := @zq_274 w l t sc (d + 2) n m (c + cs.length) (ap a c cs) (sp_check T b 1) hn (by omega) hTc.1
  rw [← h3] at c274
  obtain ⟨b1, b2, b3, b4, b5⟩ := @q_c3_G ((w 3).2 8) n T (by omega) hT hx
  have G := fun x => @q_vT_G ((w 3).2 8) n (q_c3 ((w 3).2 8) n T) x (by omega) b1 b2
  generalize hX : q_c3 ((w 3).2 8) n T = X at *
  obtain ⟨e1, e2, e3, e4⟩ := G (q_vC ((w 3).2 8) n X)
  have top := e1.1
  have stl := q_st_le (n := n) (by omega) e1
  have one : (q_vT ((w 3).2 8) n X).2.2.2.1 = 0 → (qE (q_vT ((w 3).2 8) n X) (q_vC ((w 3).2 8) n X)).length = 1 ∧ q_st T + 1 ≤ q_st X := fun z => by
    have z3 : X.2.2.2.1 = 0 := Decidable.byContradiction fun y => by
      rw [e4 y] at z
      exact y z
    unfold qE
    rw [if_pos z]
    exact ⟨rfl, b4 z3⟩
  have c292 := @zq_292 w l t sc d n m (c + cs.length) (ap a c cs) X hn (by omega) b1 (fun z => by have := one z; omega)
  have c290 := @zq_290 w l t sc (d + 5) m (c + cs.length + (qE (q_vT ((w 3).2 8) n X) (q_vC ((w 3).2 8) n X)).length) (ap (ap a c cs) (c + cs.length) (qE (q_vT ((w 3).2 8) n X) (q_vC ((w 3).2 8) n X))) (q_vT ((w 3).2 8) n X) op (fun z => by have := one z; omega)
  rw [qw_2] at c292
  rw [ap_2, show c + cs.length + (qE (q_vT ((w 3).2 8) n X) (q_vC ((w 3).2 8) n X)).length = c + (cs ++ qE (q_vT ((w 3).2 8) n X) (q_vC ((w 3).2 8) n X)).length by rw [List.length_append, Nat.add_assoc], qw_2] at c290
  rw [yb_293_143, if_pos xiM, c273, zbs, xk_v, if_pos xiM, c274, zbs, xk_v, if_pos xiM, c292, zbs, xk_v, if_pos xiM, c290, zbs, xk_v, yb_293_160]
theorem zq_cmp (hn : (w 3).1 7 = nI n) (h2 : n ≤ 200) (hT : sp_tw ((w 3).2 8) n T) (hx : sp_tx T) (hc : c ≤ q_st T) (hw : ¬ sp_wrd ((w 3).2 8) T 40) (hs : ¬ sp_sym ((w 3).2 8) T 40) : xm_C sc xt_M (d + 7) 293 [.ref 191] (xem (xPw (xQw w m c a) T) l t) = some (.inl none, xem (xPw (xQw w m (c + (q_cmp ((w 3).2 8) n pv T).2.1.length) (ap a c (q_cmp ((w 3).2 8) n pv T).2.1)) (q_cmp ((w 3).2 8) n pv T).1) l t) := by
  obtain ⟨a1, a2, a3, a4⟩ := @q_vT_G ((w 3).2 8) n T (q_vC ((w 3).2 8) n T) (by omega) hT hx
  have stl := q_st_le (n := n) (by omega) a1
  have top := a1.1
  have c292 := @zq_292 w l t sc d n m c a T hn (by omega) hT (fun z => by
    have : (qE (q_vT ((w 3).2 8) n T) (q_vC ((w 3).2 8) n T)).length = 1 := by
      unfold qE
      rw [if_pos z]
      rfl
    omega)
  have g : ∀ (op : Int32) (v1 : Value), op = q_op ((w 3).2 8) (q_vT ((w 3).2 8) n T) → xm_R sc xt_M (d + 6) 293 121 [.ref 191, v1] [.int op] (xem (xPw (xQw w m (c + (qE (q_vT ((w 3).2 8) n T) (q_vC ((w 3).2 8) n T)).length) (ap a c (qE (q_vT ((w 3).2 8) n T) (q_vC ((w 3).2 8) n T)))) (q_vT ((w 3).2 8) n T)) l t) = some (.inl none, xem (xPw (xQw w m (c + (q_cmp ((w 3).2 8) n pv T).2.1.length) (ap a c (q_cmp ((w 3).2 8) n pv T).2.1)) (q_cmp ((w 3).2 8) n pv T).1) l t) := by
    intro op v1 hop
    rw [q_cmp_u]
    dsimp only
    have h143 := fun b h3 => @z293_143 w l t sc d n m c a (q_vT ((w 3).2 8) n T) b op (qE (q_vT ((w 3).2 8) n T) (q_vC ((w 3).2 8) n T)) hn h2 a1 a2 (by omega) h3
    have hq3 := @q_c3_u ((w 3).2 8) n (q_vT ((w 3).2 8) n T)
    rw [← hop] at hq3 ⊢
    rw [yb_293_121]
    by_cases h : op = -22
    · rw [if_pos h, if_pos xiM, zq_275 (by omega) a1, zbs, xk_I]
      by_cases h6 : sp_sym ((w 3).2 8) (q_vT ((w 3).2 8) n T) 62
      · rw [zB_tt h6, if_neg (show ¬ (1 : Int32) = 0 by decide), yb_293_138]
        exact h143 1 (by rw [hq3, if_neg (fun z => z.2 h6)])
      · rw [zB_ff h6, if_pos rfl]
        exact h143 0 (by rw [hq3, if_pos ⟨h, h6⟩])
    · rw [if_neg h, yb_293_138]
      exact h143 1 (by rw [hq3, if_neg (fun z => h z.1)])
  rw [yc_293, if_pos xiM, zq_276 (by decide) (by omega) hT, zbs, xk_I, zB_ff hw, if_pos rfl, if_pos xiM, zq_275 (by omega) hT, zbs, xk_I, zB_ff hs, if_pos rfl, if_pos xiM, c292, zbs, xk_v, if_pos xiM, zq_275 (by omega) a1, zbs, xk_I]
  by_cases h0 : sp_sym ((w 3).2 8) (q_vT ((w 3).2 8) n T) 60
  · rw [zB_tt h0, if_neg (show ¬ (1 : Int32) = 0 by decide)]
    exact g _ _ (by unfold q_op; rw [if_pos h0])
  · rw [zB_ff h0, if_pos rfl, if_pos xiM, zq_275 (by omega) a1, zbs, xk_I]
    by_cases h1 : sp_sym ((w 3).2 8) (q_vT ((w 3).2 8) n T) 61
    · rw [zB_tt h1, if_neg (show ¬ (1 : Int32) = 0 by decide)]
      exact g _ _ (by unfold q_op; rw [if_neg h0, if_pos h1])
    · rw [zB_ff h1, if_pos rfl]
      exact g _ _ (by unfold q_op; rw [if_neg h0, if_neg h1])
/-- a loop of conjunctions or of tests: the method number and its word -/
theorem zq_loop (J K : Nat) (op : Int32) (cb : Bool → Bool → Bool) (g : xTk → xQy) (hn : (w 3).1 7 = nI n) (h2 : n ≤ 200) (hK : K < 43) (hG : ∀ T, sp_tw ((w 3).2 8) n T → sp_tx T → qG ((w 3).2 8) n T (g T)) (J2 : Nat)
    (hb : ∀ S : xm_PS, xm_R sc xt_M (d + 6) J 4 [.ref 191] [] S = if xm_isO S (.ref 191) 8 = true then ((xm_C sc xt_M (d + 6) 277 [.ref 191, .retAddr K] S).bind fun o2 => xm_rI o2 (fun n3 S1 => (if n3 = 0 then some (.inl none, S1) else if xm_isO S1 (.ref 191) 8 = true then ((xm_C sc xt_M (d + 6) J2 [.ref 191] S1).bind fun o5 => xm_r0 o5 (fun S4 => if xm_isO S4 (.ref 191) 8 = true then ((xm_C sc xt_M (d + 6) 290 [.ref 191, .int op] S4).bind fun o7 => xm_r0 o7 (fun S6 => xm_R sc xt_M (d + 6) J 4 [.ref 191] [] S6) (fun e S => some (.inr e, S))) else none) (fun e S => some (.inr e, S))) else none)) (fun e S => some (.inr e, S))) else none)
    (hg : ∀ (T : xTk) (c : Nat) (a : Nat → Int32), sp_tw ((w 3).2 8) n T → sp_tx T → c ≤ q_st T → xm_C sc xt_M (d + 6) J2 [.ref 191] (xem (xPw (xQw w m c a) T) l t) = some (.inl none, xem (xPw (xQw w m (c + (g T).2.1.length) (ap a c (g T).2.1)) (g T).1) l t)) :
    ∀ L (q : xQy) (c : Nat) (a : Nat → Int32), sp_tw ((w 3).2 8) n q.1 → sp_tx q.1 → 200 ≤ L + q_st q.1 → c + q.2.1.length ≤ q_st q.1 → xm_R sc xt_M (d + 6) J 4 [.ref 191] [] (xem (xPw (xQw w m (c + q.2.1.length) (ap a c q.2.1)) q.1) l t) = some (.inl none, xem (xPw (xQw w m (c + (q_lp ((w 3).2 8) n K op cb g L q).2.1.length) (ap a c (q_lp ((w 3).2 8) n K op cb g L q).2.1)) (q_lp ((w 3).2 8) n K op cb g L q).1) l t) := by
  intro L
  induction L with
  | zero =>
    intro q c a hT hx hL hc
    have stl := q_st_le (n := n) (by omega) hT
    have top := hT.1
    have hw : ¬ sp_wrd ((w 3).2 8) q.1 K := fun z => by
      rcases hx with hx | hx
      · have := z.1.2.1
        rw [hx] at this
        exact absurd this (by decide)
      · omega
    rw [q_lp_0, hb, if_pos xiM, zq_277 hn hK (by omega) hT, zbs, xk_I, zB_ff hw, if_pos rfl]
    unfold sp_acc
    rw [if_neg hw]
  | succ L ih =>
    intro q c a hT hx hL hc
    rw [q_lp_s, hb, if_pos xiM, zq_277 hn hK (by omega) hT, zbs, xk_I]
    unfold sp_acc
    by_cases hw : sp_wrd ((w 3).2 8) q.1 K
    · obtain ⟨s1, s2⟩ := @sp_scan_x ((w 3).2 8) n q.1 (by omega) hT.1
      have s3 : sp_tw ((w 3).2 8) n (sp_scan ((w 3).2 8) n q.1) := sp_tw_acc hT
      obtain ⟨g1, g2, g3, g4⟩ := hG _ s3 s1
      have hk : ¬ q.1.2.2.1 = 0 := fun z => by
        have := hw.1.2.1
        rw [z] at this
        exact absurd this (by decide)
      have hx' : q_st q.1 < q.1.1 := hx.resolve_left hk
      have stg := q_st_le (n := n) (by omega) g1
      have tog := g1.1
      have c1 := hg (sp_scan ((w 3).2 8) n q.1) (c + q.2.1.length) (ap a c q.2.1) s3 s1 (by omega)
      rw [qw_2] at c1
      have lee := List.length_append (as := q.2.1) (bs := (g (sp_scan ((w 3).2 8) n q.1)).2.1)
      have c2 := @zq_290 w l t sc (d + 5) m (c + (q.2.1 ++ (g (sp_scan ((w 3).2 8) n q.1)).2.1).length) (ap a c (q.2.1 ++ (g (sp_scan ((w 3).2 8) n q.1)).2.1)) (g (sp_scan ((w 3).2 8) n q.1)).1 op (fun _ => by omega)
      rw [qw_2] at c2
      rw [zB_tt hw, if_pos hw, if_pos hw, if_neg (show ¬ (1 : Int32) = 0 by decide), if_pos xiM, c1, zbs, xk_v, if_pos xiM, c2, zbs, xk_v]
      have le1 := @qE_len (g (sp_scan ((w 3).2 8) n q.1)).1 op
      exact ih ((g (sp_scan ((w 3).2 8) n q.1)).1, (q.2.1 ++ (g (sp_scan ((w 3).2 8) n q.1)).2.1) ++ qE (g (sp_scan ((w 3).2 8) n q.1)).1 op, fun b => cb (q.2.2 b) ((g (sp_scan ((w 3).2 8) n q.1)).2.2 b)) c a g1 g2 (by dsimp only; omega) (by dsimp only; rw [List.length_append]; omega)
    · rw [zB_ff hw, if_neg hw, if_neg hw, if_pos rfl]
theorem zq_294 (g : xTk → xQy) (hn : (w 3).1 7 = nI n) (h2 : n ≤ 200) (hG : ∀ T, sp_tw ((w 3).2 8) n T → sp_tx T → qG ((w 3).2 8) n T (g T)) (hg : ∀ (T : xTk) (c : Nat) (a : Nat → Int32), sp_tw ((w 3).2 8) n T → sp_tx T → c ≤ q_st T → xm_C sc xt_M (d + 6) 293 [.ref 191] (xem (xPw (xQw w m c a) T) l t) = some (.inl none, xem (xPw (xQw w m (c + (g T).2.1.length) (ap a c (g T).2.1)) (g T).1) l t)) (hT : sp_tw ((w 3).2 8) n T) (hx : sp_tx T) (hc : c ≤ q_st T) : xm_C sc xt_M (d + 7) 294 [.ref 191] (xem (xPw (xQw w m c a) T) l t) = some (.inl none, xem (xPw (xQw w m (c + (q_cj ((w 3).2 8) n g T).2.1.length) (ap a c (q_cj ((w 3).2 8) n g T).2.1)) (q_cj ((w 3).2 8) n g T).1) l t) := by
  obtain ⟨g1, g2, g3, g4⟩ := hG T hT hx
  rw [yc_294, if_pos xiM, hg T c a hT hx hc, zbs, xk_v]
  exact zq_loop 294 41 (-24) (fun x y => x && y) g hn h2 (by decide) hG 293 (fun S => yb_294_4) hg 200 (g T) c a g1 g2 (by omega) (by omega)
theorem zq_295 (g : xTk → xQy) (hn : (w 3).1 7 = nI n) (h2 : n ≤ 200) (hG : ∀ T, sp_tw ((w 3).2 8) n T → sp_tx T → qG ((w 3).2 8) n T (g T)) (hg : ∀ (T : xTk) (c : Nat) (a : Nat → Int32), sp_tw ((w 3).2 8) n T → sp_tx T → c ≤ q_st T → xm_C sc xt_M (d + 6) 293 [.ref 191] (xem (xPw (xQw w m c a) T) l t) = some (.inl none, xem (xPw (xQw w m (c + (g T).2.1.length) (ap a c (g T).2.1)) (g T).1) l t)) (hT : sp_tw ((w 3).2 8) n T) (hx : sp_tx T) (hc : c ≤ q_st T) : xm_C sc xt_M (d + 8) 295 [.ref 191] (xem (xPw (xQw w m c a) T) l t) = some (.inl none, xem (xPw (xQw w m (c + (q_ts ((w 3).2 8) n g T).2.1.length) (ap a c (q_ts ((w 3).2 8) n g T).2.1)) (q_ts ((w 3).2 8) n g T).1) l t) := by
  have hG2 : ∀ T, sp_tw ((w 3).2 8) n T → sp_tx T → qG ((w 3).2 8) n T (q_cj ((w 3).2 8) n g T) := fun T h1 h2' => q_cj_G (by omega) hG h1 h2'
  have hg2 : ∀ (T : xTk) (c : Nat) (a : Nat → Int32), sp_tw ((w 3).2 8) n T → sp_tx T → c ≤ q_st T → xm_C sc xt_M (d + 7) 294 [.ref 191] (xem (xPw (xQw w m c a) T) l t) = some (.inl none, xem (xPw (xQw w m (c + (q_cj ((w 3).2 8) n g T).2.1.length) (ap a c (q_cj ((w 3).2 8) n g T).2.1)) (q_cj ((w 3).2 8) n g T).1) l t) := fun T c a h1 h2' h3 => zq_294 g hn h2 hG hg h1 h2' h3
  obtain ⟨g1, g2, g3, g4⟩ := hG2 T hT hx
  rw [yc_295, if_pos xiM, hg2 T c a hT hx hc, zbs, xk_v]
  exact zq_loop (d := d + 1) 295 42 (-25) (fun x y => x || y) (q_cj ((w 3).2 8) n g) hn h2 (by decide) hG2 294 (fun S => yb_295_4) hg2 200 (q_cj ((w 3).2 8) n g T) c a g1 g2 (by omega) (by omega)
theorem zq_dec {S : xm_PS → Option xm_O} : (xm_gI (xem (xPw (xQw w (m + 1) c a) T) l t) 191 8 23).bind (fun n3 => (xm_sF (xem (xPw (xQw w (m + 1) c a) T) l t) 191 8 23 (.int (n3 - 1))).bind S) = S (xem (xPw (xQw w m c a) T) l t) := by
  rw [xgM_23, zbs, xPw_1 (by omega), xQw_14, nI_pred, xsM_23, zbs, xPw_s1 (by omega), xQw_s14]
theorem zq_293 (hn : (w 3).1 7 = nI n) (h2 : n ≤ 200) : ∀ D d m (T : xTk) (c : Nat) (a : Nat → Int32), m + D = 6 → sp_tw ((w 3).2 8) n T → sp_tx T → c ≤ q_st T → xm_C sc xt_M (d + 3 * D + 7) 293 [.ref 191] (xem (xPw (xQw w m c a) T) l t) = some (.inl none, xem (xPw (xQw w m (c + (q_fac ((w 3).2 8) n pv D T).2.1.length) (ap a c (q_fac ((w 3).2 8) n pv D T).2.1)) (q_fac ((w 3).2 8) n pv D T).1) l t) := by
  intro D
  induction D with
  | zero =>
    intro d m T c a hm hT hx hc
    have hm6 : m = 6 := by omega
    subst hm6
    have ne := @sp_flaw_err T 3 (by decide)
    have hT3 : sp_tw ((w 3).2 8) n (sp_flaw T 3) := by
      have := @sp_tw_check ((w 3).2 8) n T 0 3 hT
      rw [sp_check_0] at this
      exact this
    show xm_C sc xt_M (d + 7) 293 _ _ = _
    rw [q_fac_0]
    by_cases hw : sp_wrd ((w 3).2 8) T 40
    · rw [if_pos (Or.inl hw)]
      have c290 := @zq_290 w l t sc (d + 5) 7 c a (sp_flaw T 3) (-23) (fun z => absurd z ne)
      rw [qE_e ne, qw_0] at c290
      rw [yc_293, if_pos xiM, zq_276 (by decide) (by omega) hT, zbs, xk_I, zB_tt hw, if_neg (show ¬ (1 : Int32) = 0 by decide), if_pos xiM, zq_291_6 hn (by omega) hT.1, zbs, xk_v, xgPb, zbs, if_neg ne, yb_293_25, if_pos xiM, c290, zbs, xk_v, zq_dec, yb_293_160]
      dsimp only
      rw [qw_0]
    · by_cases hs : sp_sym ((w 3).2 8) T 40
      · rw [if_pos (Or.inr hs)]
        have c279 := @zq_279 w l t sc (d + 1) n 7 c a (sp_flaw T 3) 41 hn (by omega) hT3
        rw [sp_exp2_e ne] at c279
        rw [yc_293, if_pos xiM, zq_276 (by decide) (by omega) hT, zbs, xk_I, zB_ff hw, if_pos rfl, if_pos xiM, zq_275 (by omega) hT, zbs, xk_I, zB_tt hs, if_neg (show ¬ (1 : Int32) = 0 by decide), if_pos xiM, zq_291_6 hn (by omega) hT.1, zbs, xk_v, xgPb, zbs, if_neg ne, yb_293_68, if_pos xiM, c279, zbs, xk_v, zq_dec, yb_293_160]
        dsimp only
        rw [qw_0]
      · rw [if_neg (fun z => z.elim hw hs)]
        exact zq_cmp hn h2 hT hx hc hw hs
  | succ D ih =>
    intro d m T c a hm hT hx hc
    have hTa : sp_tw ((w 3).2 8) n (sp_adv ((w 3).2 8) n T) := sp_tw_adv hT
    obtain ⟨a1, a2, a3⟩ := @sp_adv_x ((w 3).2 8) n T (by omega) hT hx
    have e3 : d + 3 * (D + 1) + 7 = d + 3 * D + 10 := by omega
    rw [e3, q_fac_s]
    have hG : ∀ T, sp_tw ((w 3).2 8) n T → sp_tx T → qG ((w 3).2 8) n T (q_fac ((w 3).2 8) n pv D T) := fun T h1 h2' => q_fac_G (by omega) D T h1 h2'
    by_cases hw : sp_wrd ((w 3).2 8) T 40
    · rw [if_pos hw]
      dsimp only
      have ea : (sp_adv ((w 3).2 8) n T).2.2.2.1 = 0 := (congrArg Prod.fst sp_adv_err).trans hw.1.1
      have st1 := a3 hw.1.1 (by rw [hw.1.2.1]; decide)
      have c293 := ih (d + 2) (m + 1) (sp_adv ((w 3).2 8) n T) c a (by omega) hTa a1 (by omega)
      rw [show d + 2 + 3 * D + 7 = d + 3 * D + 9 by omega] at c293
      obtain ⟨g1, g2, g3, g4⟩ := hG _ hTa a1
      have stg := q_st_le (n := n) (by omega) g1
      have tog := g1.1
      have c290 := @zq_290 w l t sc (d + 3 * D + 8) (m + 1) (c + (q_fac ((w 3).2 8) n pv D (sp_adv ((w 3).2 8) n T)).2.1.length) (ap a c (q_fac ((w 3).2 8) n pv D (sp_adv ((w 3).2 8) n T)).2.1) (q_fac ((w 3).2 8) n pv D (sp_adv ((w 3).2 8) n T)).1 (-23) (fun _ => by omega)
      rw [qw_2] at c290
      rw [yc_293, if_pos xiM, zq_276 (by decide) (by omega) hT, zbs, xk_I, zB_tt hw, if_neg (show ¬ (1 : Int32) = 0 by decide), if_pos xiM, zq_291 hn (by omega) hT.1 (by omega), zbs, xk_v, xgPb, zbs, if_pos ea, if_pos xiM, c293, zbs, xk_v, yb_293_25, if_pos xiM, c290, zbs, xk_v, zq_dec, yb_293_160]
    · rw [if_neg hw]
      by_cases hs : sp_sym ((w 3).2 8) T 40
      · rw [if_pos hs]
        dsimp only
        have ea : (sp_adv ((w 3).2 8) n T).2.2.2.1 = 0 := (congrArg Prod.fst sp_adv_err).trans hs.1
        have c295 := @zq_295 w l t sc (d + 3 * D + 1) n (m + 1) c a (sp_adv ((w 3).2 8) n T) (q_fac ((w 3).2 8) n pv D) hn h2 hG (fun T c a h1 h2' h3 => by
          have := ih d (m + 1) T c a (by omega) h1 h2' h3
          exact this) hTa a1 (by omega)
        obtain ⟨g1, g2, g3, g4⟩ := @q_ts_G ((w 3).2 8) n (sp_adv ((w 3).2 8) n T) (q_fac ((w 3).2 8) n pv D) (by omega) hG hTa a1
        have c279 := @zq_279 w l t sc (d + 3 * D + 4) n (m + 1) (c + (q_ts ((w 3).2 8) n (q_fac ((w 3).2 8) n pv D) (sp_adv ((w 3).2 8) n T)).2.1.length) (ap a c (q_ts ((w 3).2 8) n (q_fac ((w 3).2 8) n pv D) (sp_adv ((w 3).2 8) n T)).2.1) (q_ts ((w 3).2 8) n (q_fac ((w 3).2 8) n pv D) (sp_adv ((w 3).2 8) n T)).1 41 hn (by omega) g1
        rw [yc_293, if_pos xiM, zq_276 (by decide) (by omega) hT, zbs, xk_I, zB_ff hw, if_pos rfl, if_pos xiM, zq_275 (by omega) hT, zbs, xk_I, zB_tt hs, if_neg (show ¬ (1 : Int32) = 0 by decide), if_pos xiM, zq_291 hn (by omega) hT.1 (by omega), zbs, xk_v, xgPb, zbs, if_pos ea, if_pos xiM, c295, zbs, xk_v, yb_293_68, if_pos xiM, c279, zbs, xk_v, zq_dec, yb_293_160]
      · rw [if_neg hs]
        have := @zq_cmp w l t sc (d + 3 * D + 3) n m c a T pv hn h2 hT hx hc hw hs
        exact this
end QC
