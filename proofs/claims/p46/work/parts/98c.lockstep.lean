/-! THE CLASS: a token in lock-step -/
def sp_cv (f : Nat → Int32) (T : xTk) (v : Int32) : Int32 := if T.2.2.1 = 2 then nI (sp_vk f T.2.1.toNatClampNeg (T.1 - T.2.1.toNatClampNeg)) else if T.2.2.1 = 3 then kby (f T.2.1.toNatClampNeg) else v
section KV
variable {w : xW} {l : Nat → Nat → Int64} {t : Nat} {sc : xm_Sc} {d n : Nat} {f : Nat → Int32}
theorem k86_9 (hB : kBy w f n) {s k v : Int32} {e : Int32 × Int32} : ∀ m p, p + m = n → xm_R sc xt_M (d + 2) 86 9 [.ref 21] [] (xem (kTw w (p, s, k, e) v) l t) = xm_R sc xt_M (d + 2) 86 48 [.ref 21] [] (xem (kTw w (xto (fun j => ¬ sp_spc f n j) p m, s, k, e) v) l t) := by
  have h8 := hB.2.2.1
  intro m
  induction m with
  | zero =>
    intro p hp
    rw [yb_86_9, xgK10, zbs, xgK7 hB, zbs, if_pos (nI_le (show n ≤ p by omega) (by show p < 2 ^ 31; omega))]
    rfl
  | succ m ih =>
    intro p hp
    have c := @kc_89 w sc (d + 1) n f p (xem (kTw w (p, s, k, e) v) l t) hB (by omega)
    have ha := @xaKb w l t n (p, s, k, e) v f p hB (by omega)
    rw [yb_86_9, xgK10, zbs, xgK7 hB, zbs, if_neg (nI_ge (a := p) (b := n) (by omega) (by omega)), xgKb hB, zbs, zbs, ha, zbs, c, zbs, xk_I]
    by_cases h : sp_spc f n p
    · rw [zB_tt h, if_neg (by decide), xto_n (fun z => z h), xgK10, zbs, zS, xsK10, zbs]
      exact ih (p + 1) (by omega)
    · rw [zB_ff h, if_pos rfl, xto_y h]
theorem kc_87 (hB : kBy w f n) {p : Nat} {s k v : Int32} {e : Int32 × Int32} (hp : p ≤ n) : xm_C sc xt_M (d + 2) 87 [.ref 21] (xem (kTw w (p, s, k, e) v) l t) = some (.inl none, xem (kTw w (xto (fun j => ¬ sp_let f n j) p (n - p), s, 1, e) v) l t) := by
  rw [yc_87, xsK8, zbs]
  exact @k87 w l t sc d n f hB s 1 v e (n - p) p (by omega)
theorem kc_88 (hB : kBy w f n) {p : Nat} {s k v : Int32} {e : Int32 × Int32} (hp : p ≤ n) : xm_C sc xt_M (d + 2) 88 [.ref 21] (xem (kTw w (p, s, k, e) v) l t) = some (.inl none, xem (kTw w (xto (fun j => ¬ sp_dig f n j) p (n - p), s, 2, e) (nI (sp_vk f p (xto (fun j => ¬ sp_dig f n j) p (n - p) - p)))) l t) := by
  rw [yc_88, xsK8, zbs, xsK11, zbs]
  exact @k88 w l t sc d n f hB p s 2 e (n - p) 0 (by omega)
theorem k86_48 (hB : kBy w f n) {p : Nat} {s k v : Int32} {e : Int32 × Int32} (hp : p ≤ n) : xm_R sc xt_M (d + 2) 86 48 [.ref 21] [] (xem (kTw w (p, s, k, e) v) l t) = some (.inl none, xem (kTw w (sp_scS f n p e) (sp_cv f (sp_scS f n p e) v)) l t) := by
  have h8 := hB.2.2.1
  unfold sp_scS
  rw [yb_86_48, xgK10, zbs, xsK9, zbs, xgK9, zbs, xgK7 hB, zbs]
  by_cases hpn : p < n
  · have c90 := @kc_90 w sc (d + 1) n f p (xem (kTw w (p, nI p, k, e) v) l t) hB hpn
    have c91 := @kc_91 w sc (d + 1) n f p (xem (kTw w (p, nI p, k, e) v) l t) hB hpn
    have ha := @xaKb w l t n (p, nI p, k, e) v f p hB hpn
    have c87 := @kc_87 w l t sc d n f hB p (nI p) k v e hp
    have c88 := @kc_88 w l t sc d n f hB p (nI p) k v e hp
    rw [if_pos (show nI p < nI n from nI_lt hpn (by omega)), if_pos hpn, xgKb hB, zbs, zbs, ha, zbs, c90, zbs, xk_I]
    by_cases hl : sp_let f n p
    · rw [zB_tt hl, if_neg (by decide), if_pos hl, if_pos xiT, c87, zbs, xk_v, yb_86_147]
      unfold sp_cv
      rw [if_neg (show ¬ (1 : Int32) = 2 by decide), if_neg (show ¬ (1 : Int32) = 3 by decide)]
    · rw [zB_ff hl, if_pos rfl, if_neg hl, xgKb hB, zbs, xgK9, zbs, ha, zbs, c91, zbs, xk_I]
      by_cases hd : sp_dig f n p
      · rw [zB_tt hd, if_neg (by decide), if_pos hd, if_pos xiT, c88, zbs, xk_v, yb_86_147]
        unfold sp_cv
        dsimp only
        rw [if_pos rfl, nI_clamp (by omega)]
      · have ha3 := @xaKb w l t n (p, nI p, 3, e) v f p hB hpn
        rw [zB_ff hd, if_pos rfl, if_neg hd, xsK8, zbs, xgKb hB, zbs, xgK9, zbs, ha3, zbs, xsK11, zbs, xgK9, zbs, zS, xsK10, zbs, yb_86_147]
        unfold sp_cv
        dsimp only
        rw [if_neg (show ¬ (3 : Int32) = 2 by decide), if_pos rfl, nI_clamp (by omega)]
  · rw [if_neg (show ¬ nI p < nI n from nI_nlt (by omega) (by omega)), if_neg hpn, xsK8, zbs, yb_86_147]
    unfold sp_cv
    rw [if_neg (show ¬ (0 : Int32) = 2 by decide), if_neg (show ¬ (0 : Int32) = 3 by decide)]
theorem kc_86 (hB : kBy w f n) {T : xTk} {v : Int32} (hp : T.1 ≤ n) (h4 : ¬ T.2.2.1 = 4) : xm_C sc xt_M (d + 3) 86 [.ref 21] (xem (kTw w T v) l t) = some (.inl none, xem (kTw w (sp_scan f n T) (sp_cv f (sp_scan f n T) v)) l t) := by
  obtain ⟨p, s, k, e⟩ := T
  have h1 := @k86_9 w l t sc d n f hB s k v e (n - p) p (by dsimp only at hp; omega)
  have h2 := @xto_le (fun j => ¬ sp_spc f n j) _ (n - p) p
  have h3 := @k86_48 w l t sc d n f hB (xto (fun j => ¬ sp_spc f n j) p (n - p)) s k v e (by dsimp only at hp; omega)
  have e1 : sp_scan f n (p, s, k, e) = sp_scS f n (xto (fun j => ¬ sp_spc f n j) p (n - p)) e := by
    unfold sp_scan
    dsimp only
  rw [e1, yc_86, xgK8, zbs, if_neg h4, h1, h3]
theorem kc_86s {T : xTk} {v : Int32} (h4 : T.2.2.1 = 4) : xm_C sc xt_M (d + 1) 86 [.ref 21] (xem (kTw w T v) l t) = some (.inl none, xem (kTw w T v) l t) := by
  rw [yc_86, xgK8, zbs, if_pos h4]
/-- the class's token (T', v) and the reference's T -/
def kTR (f : Nat → Int32) (T T' : xTk) (v : Int32) : Prop := T'.2.2.2.1 = T.2.2.2.1 ∧ (T.2.2.2.1 = 0 → T'.1 = T.1 ∧ T'.2.1 = T.2.1 ∧ T'.2.2.1 = T.2.2.1 ∧ T'.2.2.2.2 = -1 ∧ ¬ T.2.2.1 = 4 ∧ v = sp_cv f T v) ∧ (¬ T.2.2.2.1 = 0 → T'.2.2.1 = 4 ∧ T'.2.2.2.2 = T.2.2.2.2)
theorem kR_adv (hB : kBy w f n) {T T' : xTk} {v : Int32} (hT : sp_tw f n T) (h : kTR f T T' v) : ∃ T'' v', xm_C sc xt_M (d + 3) 86 [.ref 21] (xem (kTw w T' v) l t) = some (.inl none, xem (kTw w T'' v') l t) ∧ kTR f (sp_adv f n T) T'' v' := by
  obtain ⟨h1, h2, h3⟩ := h
  unfold sp_adv
  by_cases h0 : T.2.2.2.1 = 0
  · obtain ⟨a1, a2, a3, a4, a5, a6⟩ := h2 h0
    rw [if_pos h0]
    have e : sp_scan f n T' = ((sp_scan f n T').1, (sp_scan f n T').2.1, (sp_scan f n T').2.2.1, T'.2.2.2) := by
      unfold sp_scan sp_scS
      split
      · split
        · rfl
        · split <;> rfl
      · rfl
    have q : ∀ s (e1 e2 : Int32 × Int32), (sp_scS f n s e1).1 = (sp_scS f n s e2).1 ∧ (sp_scS f n s e1).2.1 = (sp_scS f n s e2).2.1 ∧ (sp_scS f n s e1).2.2.1 = (sp_scS f n s e2).2.2.1 ∧ (sp_scS f n s e1).2.2.2 = e1 ∧ ¬ (sp_scS f n s e1).2.2.1 = 4 := by
      intro s e1 e2
      unfold sp_scS
      split
      · split
        · exact ⟨rfl, rfl, rfl, rfl, show ¬ (1 : Int32) = 4 by decide⟩
        · split
          · exact ⟨rfl, rfl, rfl, rfl, show ¬ (2 : Int32) = 4 by decide⟩
          · exact ⟨rfl, rfl, rfl, rfl, show ¬ (3 : Int32) = 4 by decide⟩
      · exact ⟨rfl, rfl, rfl, rfl, show ¬ (0 : Int32) = 4 by decide⟩
    refine ⟨_, _, kc_86 hB (by rw [a1]; exact hT.1) (by rw [a3]; exact a5), ?_⟩
    unfold sp_scan
    rw [a1]
    generalize xto (fun j => ¬ sp_spc f n j) T.1 (n - T.1) = s
    obtain ⟨q1, q2, q3, q4, q5⟩ := q s T'.2.2.2 T.2.2.2
    obtain ⟨p1, p2, p3, p4, p5⟩ := q s T.2.2.2 T'.2.2.2
    refine ⟨by rw [q4, p4]; exact h1, fun _ => ⟨q1, q2, q3, by rw [q4]; exact a4, p5, ?_⟩, fun z => absurd (by rw [p4]; exact h0) z⟩
    unfold sp_cv
    rw [q1, q2, q3]
    by_cases z2 : (sp_scS f n s T.2.2.2).2.2.1 = 2
    · rw [if_pos z2, if_pos z2]
    · rw [if_neg z2, if_neg z2]
      by_cases z3 : (sp_scS f n s T.2.2.2).2.2.1 = 3
      · rw [if_pos z3, if_pos z3]
      · rw [if_neg z3, if_neg z3]
  · rw [if_neg h0]
    exact ⟨T', v, kc_86s (h3 h0).1, h1, h2, h3⟩
theorem kc_84 {T : xTk} {v : Int32} : xm_C sc xt_M (d + 1) 84 [.ref 21] (xem (kTw w T v) l t) = some (.inl (some (.int (zB (¬ T.2.2.2.1 = 0)))), xem (kTw w T v) l t) := by
  rw [yc_84, xgK4, zbs]
  by_cases h : T.2.2.2.1 = 0
  · rw [if_pos h, zB_ff (c := ¬ T.2.2.2.1 = 0) (fun z => z h)]
  · rw [if_neg h, zB_tt (c := ¬ T.2.2.2.1 = 0) h]
theorem kR_flaw {T T' : xTk} {v c : Int32} (hc : ¬ c = 0) (h : kTR f T T' v) : ∃ T'', xm_C sc xt_M (d + 2) 85 [.ref 21, .int c] (xem (kTw w T' v) l t) = some (.inl none, xem (kTw w T'' v) l t) ∧ kTR f (sp_flaw T c) T'' v := by
  obtain ⟨h1, h2, h3⟩ := h
  have c84 := @kc_84 w l t sc d T' v
  unfold sp_flaw
  by_cases h0 : T.2.2.2.1 = 0
  · obtain ⟨a1, a2, a3, a4, a5, a6⟩ := h2 h0
    rw [zB_ff (c := ¬ T'.2.2.2.1 = 0) (fun z => z (h1.trans h0))] at c84
    rw [if_pos h0]
    refine ⟨(T'.1, T'.2.1, 4, c, T'.2.1), ?_, rfl, fun z => absurd z hc, fun _ => ⟨rfl, a2⟩⟩
    rw [yc_85, if_pos xiT, c84, zbs, xk_I, if_pos rfl, xsK4, zbs, xgK9, zbs, xsK5, zbs, xsK8, zbs, yb_85_25]
  · rw [zB_tt (c := ¬ T'.2.2.2.1 = 0) (fun z => h0 (h1.symm.trans z))] at c84
    rw [if_neg h0]
    refine ⟨T', ?_, h1, h2, h3⟩
    rw [yc_85, if_pos xiT, c84, zbs, xk_I, if_neg (by decide), yb_85_25]
/-- is it a number -/
theorem kR_num {T T' : xTk} {v : Int32} (h : kTR f T T' v) : xm_C sc xt_M (d + 1) 92 [.ref 21] (xem (kTw w T' v) l t) = some (.inl (some (.int (zB (T.2.2.2.1 = 0 ∧ T.2.2.1 = 2)))), xem (kTw w T' v) l t) := by
  obtain ⟨h1, h2, h3⟩ := h
  rw [yc_92, xgK8, zbs]
  by_cases h0 : T.2.2.2.1 = 0
  · obtain ⟨a1, a2, a3, a4, a5, a6⟩ := h2 h0
    rw [a3]
    by_cases z : T.2.2.1 = 2
    · rw [if_pos z, zB_tt (c := T.2.2.2.1 = 0 ∧ T.2.2.1 = 2) ⟨h0, z⟩]
    · rw [if_neg z, zB_ff (c := T.2.2.2.1 = 0 ∧ T.2.2.1 = 2) (fun y => z y.2)]
  · rw [(h3 h0).1, if_neg (by decide), zB_ff (c := T.2.2.2.1 = 0 ∧ T.2.2.1 = 2) (fun y => h0 y.1)]
/-- is it a sign -/
theorem kR_sign (hB : kBy w f n) {T T' : xTk} {v : Int32} (hT : sp_tw f n T) (h : kTR f T T' v) : xm_C sc xt_M (d + 1) 93 [.ref 21, .int 59] (xem (kTw w T' v) l t) = some (.inl (some (.int (zB (sp_sym f T 59)))), xem (kTw w T' v) l t) := by
  obtain ⟨h1, h2, h3⟩ := h
  rw [yc_93, xgK8, zbs]
  unfold sp_sym
  by_cases h0 : T.2.2.2.1 = 0
  · obtain ⟨a1, a2, a3, a4, a5, a6⟩ := h2 h0
    rw [a3]
    by_cases z : T.2.2.1 = 3
    · obtain ⟨hp, s, hs, hsp, _, hs3⟩ := hT
      have h8 := hB.2.2.1
      have es : T.2.1.toNatClampNeg = s := by rw [hs, nI_clamp (by have := hs3 z; omega)]
      have hx := (hB.2.2.2 s (hs3 z)).2
      have t5 := (kby_t (f s).toNatClampNeg hx.2).2.2.2.2.1
      rw [← hx.1] at t5
      unfold sp_cv at a6
      rw [if_neg (by rw [z]; decide), if_pos z, es] at a6
      rw [if_pos z, xgK11, zbs, es, a6]
      by_cases y : f s = 59
      · rw [if_pos (t5.mpr y), zB_tt (c := T.2.2.2.1 = 0 ∧ T.2.2.1 = 3 ∧ f s = 59) ⟨h0, z, y⟩]
      · rw [if_neg (fun u => y (t5.mp u)), yb_93_20, zB_ff (c := T.2.2.2.1 = 0 ∧ T.2.2.1 = 3 ∧ f s = 59) (fun u => y u.2.2)]
    · rw [if_neg z, yb_93_20, zB_ff (c := T.2.2.2.1 = 0 ∧ T.2.2.1 = 3 ∧ f T.2.1.toNatClampNeg = 59) (fun y => z y.2.1)]
  · rw [(h3 h0).1, if_neg (by decide), yb_93_20, zB_ff (c := T.2.2.2.1 = 0 ∧ T.2.2.1 = 3 ∧ f T.2.1.toNatClampNeg = 59) (fun y => h0 y.1)]
end KV
