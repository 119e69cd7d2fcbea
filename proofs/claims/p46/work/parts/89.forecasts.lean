/-! THE CLASS: forecasts -/
/-- the class's scratch may differ: the spare state, the spare sheet of legs -/
def kKeep (w w' : xW) : Prop := (∀ g, g ≠ 6 → g ≠ 0 → w' g = w g) ∧ (w' 0).1 = (w 0).1 ∧ ∀ a, a ≠ 3 → (w' 0).2 a = (w 0).2 a
theorem kKeep_6 {w : xW} {s : xG} : kKeep w (xu w 6 s) := ⟨fun g h _ => xu_ne h, by rw [xu_ne (by omega)], fun a _ => by rw [xu_ne (by omega)]⟩
theorem kKeep_0 {w : xW} {f : Nat → Int32} : kKeep w (xu w 0 (xs2 (w 0) 3 f)) := ⟨fun g _ h => xu_ne h, by rw [xu_same]; rfl, fun a h => by rw [xu_same]; exact if_neg h⟩
theorem kKeep_rfl {w : xW} : kKeep w w := ⟨fun _ _ _ => rfl, rfl, fun _ _ => rfl⟩
def kAm (o : Option xm_O) (w : xW) (l : Nat → Nat → Int64) (t : Nat) (e : Int32 → Nat) (s : Int32 × Int32) : Prop := (s.1 = 0 ∧ ∃ w', o = some (.inl (some (.int s.2)), xem w' l t) ∧ kKeep w w') ∨ (¬ s.1 = 0 ∧ o = some (.inr (e s.1), xem w l (t + 1)))
theorem kAm_n {o : Option xm_O} {w : xW} {l : Nat → Nat → Int64} {t e : Nat} {s : Int32 × Int32} (h : kAn o w l t e s) : kAm o w l t (fun _ => e) s := by
  rcases h with ⟨h1, h2⟩ | ⟨h1, h2⟩
  · exact Or.inl ⟨h1, w, h2, kKeep_rfl⟩
  · exact Or.inr ⟨h1, h2⟩
section FC
variable {w : xW} {l : Nat → Nat → Int64} {t : Nat} {sc : xm_Sc} {d : Nat} {r : Nat → Int32}
theorem k_us {u : xU} {n c : Nat} {s : xG} (hW : xWF u.1) (hc : u.1 4 = nI c) (hn : c + n + 1 < 20000) (hR : kRel (xu w 6 s) 1 (sp_us u n).1) : ∃ (s' : xG) (x : Int32), xm_C sc xt_M (d + 6) 76 [.ref (xh 1)] (xem (xu w 6 s) l t) = some (.inl (some (.int x)), xem (xu w 6 s') l t) ∧ kRel (xu w 6 s') 1 (sp_us u (n + 1)).1 := by
  obtain ⟨g1, g2, g3⟩ := @sp_us_ok u c hW hc n (by omega)
  have ht : xil ((sp_us u n).1 4 + 1) 20000 := by
    rw [g2, zS]
    exact xil_nI (by omega) (by omega)
  obtain ⟨s', x, e, _, h, _⟩ := @kc_76 (xu w 6 s) l t sc d 1 (sp_us u n).1 (sp_us u n).2.1 (sp_us u n).2.2.1 (sp_us u n).2.2.2 (by omega) hR ht
  rw [show (1 : Nat) + 5 = 6 from rfl, xu_xu] at e h
  exact ⟨s', x, e, h⟩
theorem k124 {u : xU} {c q : Nat} (hW : xWF u.1) (hc : u.1 4 = nI c) (hc2 : c < 10000) (hq : q < xnk u.1) : ∀ m n s, n + m = 201 → kRel (xu w 6 s) 1 (sp_us u n).1 → ∃ s', xm_R sc xt_M (d + 6) 124 18 [.ref 0, .int (nI q), .int (nI n)] [] (xem (xu w 6 s) l t) = some (.inl (some (.int (toJ (xfst (fun n => sp_cnd 0 0 (sp_us u n).1 q) n m)))), xem (xu w 6 s') l t) := by
  have hk20 := hW.bd.k20
  intro m
  induction m with
  | zero =>
    intro n s hn _
    refine ⟨s, ?_⟩
    have e : n = 201 := by omega
    subst e
    rw [yb_124_18, if_pos (show (200 : Int32) < nI 201 from nI_lt (a := 200) (by omega) (by omega))]
    rfl
  | succ m ih =>
    intro n s hn hR
    obtain ⟨g1, g2, g3⟩ := @sp_us_ok u c hW hc n (by omega)
    have hq' : q < xnk (sp_us u n).1 := by
      unfold xnk
      rw [g3 2 (by omega) (by omega) (by omega)]
      exact hq
    have c66 := @kc_66 (xu w 6 s) l t sc (d + 3) 1 (sp_us u n).1 q (by omega) hR hq'
    have hle : ¬ (200 : Int32) < nI n := nI_nlt (a := 200) (by omega) (by omega)
    rw [xfst_s]
    by_cases ha : sp_arr (sp_us u n).1 q
    · rw [if_pos (c := sp_cnd 0 0 (sp_us u n).1 q) (Or.inl ⟨rfl, ha⟩)]
      refine ⟨s, ?_⟩
      rw [yb_124_18]
      simp (disch := first | omega | assumption | exact xpi_lt) only [↓zbE, zbd_some, ↓xk_I, ↓xk_v, zB_0, zB_1, ite_not, ↓reduceIte, zS, zSa_0, zSa_1, zSa_2, zSa_3, zSa_4, zSa_5, zSa_6, zSa_7, zSa_8, zSa_9, zPa_0, zPa_1, zPa_2, zPa_3, zPa_4, xgS_0, xgS_1, xgS_2, xgS_3, xgS_4, xgS_5, xgS_6, xgS_7, xgS_8, xgS_9, xgS_10, xgS_11, xgQ_0, xgQ_1, xgQ_2, xgQ_3, xgQ_4, xgP_0, xgP_1, xgP_2, xgP_3, xgP_4, xgP_5, xgP_6, xgP_7, xgY_0, xiS, xiQ, xiY, xiP, eq_false hle, xgA_6, c66, eq_true ha]
      rfl
    · rw [if_neg (c := sp_cnd 0 0 (sp_us u n).1 q) (fun z => z.elim (fun y => ha y.2) (fun y => y.1 rfl))]
      obtain ⟨s1, x, c76, hR1⟩ := @k_us w l t sc d u n c s hW hc (by omega) hR
      obtain ⟨s', h⟩ := ih (n + 1) s1 (by omega) hR1
      refine ⟨s', Eq.trans ?_ h⟩
      rw [yb_124_18]
      simp (disch := first | omega | assumption | exact xpi_lt) only [↓zbE, zbd_some, ↓xk_I, ↓xk_v, zB_0, zB_1, ite_not, ↓reduceIte, zS, zSa_0, zSa_1, zSa_2, zSa_3, zSa_4, zSa_5, zSa_6, zSa_7, zSa_8, zSa_9, zPa_0, zPa_1, zPa_2, zPa_3, zPa_4, xgS_0, xgS_1, xgS_2, xgS_3, xgS_4, xgS_5, xgS_6, xgS_7, xgS_8, xgS_9, xgS_10, xgS_11, xgQ_0, xgQ_1, xgQ_2, xgQ_3, xgQ_4, xgP_0, xgP_1, xgP_2, xgP_3, xgP_4, xgP_5, xgP_6, xgP_7, xgY_0, xiS, xiQ, xiY, xiP, eq_false hle, xgA_6, c66, eq_false ha, c76]
theorem k125 {u : xU} {c q : Nat} {rd : Int32} (hW : xWF u.1) (hc : u.1 4 = nI c) (hc2 : c < 10000) (hq : q < xnk u.1) : ∀ m n s, n + m = 201 → kRel (xu w 6 s) 1 (sp_us u n).1 → ∃ s', xm_R sc xt_M (d + 6) 125 18 [.ref 0, .int (nI q), .int rd, .int (nI n)] [] (xem (xu w 6 s) l t) = some (.inl (some (.int (toJ (xfst (fun n => sp_cnd 1 rd (sp_us u n).1 q) n m)))), xem (xu w 6 s') l t) := by
  have hk20 := hW.bd.k20
  intro m
  induction m with
  | zero =>
    intro n s hn _
    refine ⟨s, ?_⟩
    have e : n = 201 := by omega
    subst e
    rw [yb_125_18, if_pos (show (200 : Int32) < nI 201 from nI_lt (a := 200) (by omega) (by omega))]
    rfl
  | succ m ih =>
    intro n s hn hR
    obtain ⟨g1, g2, g3⟩ := @sp_us_ok u c hW hc n (by omega)
    have hq' : q < xnk (sp_us u n).1 := by
      unfold xnk
      rw [g3 2 (by omega) (by omega) (by omega)]
      exact hq
    have c64 := @kc_64 (xu w 6 s) l t sc (d + 5) 1 q rd (by omega) (sp_us u n).1 hR hq'
    have hle : ¬ (200 : Int32) < nI n := nI_nlt (a := 200) (by omega) (by omega)
    rw [xfst_s]
    by_cases ha : sp_hf (sp_us u n).1 q rd
    · rw [if_pos (c := sp_cnd 1 rd (sp_us u n).1 q) (Or.inr ⟨by decide, ha⟩)]
      refine ⟨s, ?_⟩
      rw [yb_125_18]
      simp (disch := first | omega | assumption | exact xpi_lt) only [↓zbE, zbd_some, ↓xk_I, ↓xk_v, zB_0, zB_1, ite_not, ↓reduceIte, zS, zSa_0, zSa_1, zSa_2, zSa_3, zSa_4, zSa_5, zSa_6, zSa_7, zSa_8, zSa_9, zPa_0, zPa_1, zPa_2, zPa_3, zPa_4, xgS_0, xgS_1, xgS_2, xgS_3, xgS_4, xgS_5, xgS_6, xgS_7, xgS_8, xgS_9, xgS_10, xgS_11, xgQ_0, xgQ_1, xgQ_2, xgQ_3, xgQ_4, xgP_0, xgP_1, xgP_2, xgP_3, xgP_4, xgP_5, xgP_6, xgP_7, xgY_0, xiS, xiQ, xiY, xiP, eq_false hle, xgA_6, c64, eq_true ha]
      rfl
    · rw [if_neg (c := sp_cnd 1 rd (sp_us u n).1 q) (fun z => z.elim (fun y => absurd y.1 (by decide)) (fun y => ha y.2))]
      obtain ⟨s1, x, c76, hR1⟩ := @k_us w l t sc d u n c s hW hc (by omega) hR
      obtain ⟨s', h⟩ := ih (n + 1) s1 (by omega) hR1
      refine ⟨s', Eq.trans ?_ h⟩
      rw [yb_125_18]
      simp (disch := first | omega | assumption | exact xpi_lt) only [↓zbE, zbd_some, ↓xk_I, ↓xk_v, zB_0, zB_1, ite_not, ↓reduceIte, zS, zSa_0, zSa_1, zSa_2, zSa_3, zSa_4, zSa_5, zSa_6, zSa_7, zSa_8, zSa_9, zPa_0, zPa_1, zPa_2, zPa_3, zPa_4, xgS_0, xgS_1, xgS_2, xgS_3, xgS_4, xgS_5, xgS_6, xgS_7, xgS_8, xgS_9, xgS_10, xgS_11, xgQ_0, xgQ_1, xgQ_2, xgQ_3, xgQ_4, xgP_0, xgP_1, xgP_2, xgP_3, xgP_4, xgP_5, xgP_6, xgP_7, xgY_0, xiS, xiQ, xiY, xiP, eq_false hle, xgA_6, c64, eq_false ha, c76]
theorem kd_124 {u : xU} {a : Int32} {c : Nat} (hR : kRel w 0 u.1) (hc : u.1 4 = nI c) (hc2 : c < 10000) : kAm (xm_C sc xt_M (d + 7) 124 [.ref 0, .int a] (xem w l t)) w l t (fun _ => 0) (sp_until u 0 a 0) := by
  have hB := hR.W.bd
  have hk20 := hB.k20
  have hq40 := hB.q40
  have hv4 := hB.v4
  have hb6 := hB.b6
  rw [yc_124]
  unfold sp_until
  by_cases ha : 0 ≤ a ∧ a ≤ u.1 2 - 1
  · rw [if_pos ha]
    have ha' := ha
    rw [hB.k] at ha'
    obtain ⟨n, hnn, rfl⟩ := zrg (by omega) ha'
    rw [nI_clamp (by omega)]
    have c152 := @kn_152 w l t sc (d + 5) u.1 n hR hnn
    obtain ⟨s, c54, hcp⟩ := @kc_54 w l t sc (d + 4) 1 0 (by omega) (by omega) (by omega)
    have hR1 : kRel (xu w 6 s) 1 (sp_us u 0).1 := kRel_of hR.W (kCpd_rel (k := 1) hB hcp hR.l)
    obtain ⟨s', h⟩ := @k124 w l t sc d u c n hR.W hc hc2 hnn 201 0 s rfl hR1
    refine Or.inl ⟨rfl, xu w 6 s', ?_, kKeep_6⟩
    refine Eq.trans ?_ h
    simp (disch := first | omega | assumption | exact xpi_lt) only [↓zbE, zbd_some, ↓xk_I, ↓xk_v, zB_0, zB_1, ite_not, ↓reduceIte, zS, zSa_0, zSa_1, zSa_2, zSa_3, zSa_4, zSa_5, zSa_6, zSa_7, zSa_8, zSa_9, zPa_0, zPa_1, zPa_2, zPa_3, zPa_4, xgS_0, xgS_1, xgS_2, xgS_3, xgS_4, xgS_5, xgS_6, xgS_7, xgS_8, xgS_9, xgS_10, xgS_11, xgQ_0, xgQ_1, xgQ_2, xgQ_3, xgQ_4, xgP_0, xgP_1, xgP_2, xgP_3, xgP_4, xgP_5, xgP_6, xgP_7, xgY_0, xiS, xiQ, xiY, xiP, xiA, c152, xgA_6, xgA_5, c54]
    rfl
  · rw [if_neg ha]
    have c152 := @kx_152 w l t sc (d + 5) u.1 a hR ha
    refine Or.inr ⟨show ¬ (1 : Int32) = 0 by decide, ?_⟩
    simp (disch := first | omega | assumption | exact xpi_lt) only [↓zbE, zbd_some, ↓xk_I, ↓xk_v, zB_0, zB_1, ite_not, ↓reduceIte, zS, zSa_0, zSa_1, zSa_2, zSa_3, zSa_4, zSa_5, zSa_6, zSa_7, zSa_8, zSa_9, zPa_0, zPa_1, zPa_2, zPa_3, zPa_4, xgS_0, xgS_1, xgS_2, xgS_3, xgS_4, xgS_5, xgS_6, xgS_7, xgS_8, xgS_9, xgS_10, xgS_11, xgQ_0, xgQ_1, xgQ_2, xgQ_3, xgQ_4, xgP_0, xgP_1, xgP_2, xgP_3, xgP_4, xgP_5, xgP_6, xgP_7, xgY_0, xiS, xiQ, xiY, xiP, xiA, c152, ↓xk_vx]
theorem kd_125 {u : xU} {a rd : Int32} {c : Nat} (hR : kRel w 0 u.1) (hc : u.1 4 = nI c) (hc2 : c < 10000) : kAm (xm_C sc xt_M (d + 7) 125 [.ref 0, .int a, .int rd] (xem w l t)) w l t (fun _ => 0) (sp_until u 1 a rd) := by
  have hB := hR.W.bd
  have hk20 := hB.k20
  have hq40 := hB.q40
  have hv4 := hB.v4
  have hb6 := hB.b6
  rw [yc_125]
  unfold sp_until
  by_cases ha : 0 ≤ a ∧ a ≤ u.1 2 - 1
  · rw [if_pos ha]
    have ha' := ha
    rw [hB.k] at ha'
    obtain ⟨n, hnn, rfl⟩ := zrg (by omega) ha'
    rw [nI_clamp (by omega)]
    have c152 := @kn_152 w l t sc (d + 5) u.1 n hR hnn
    obtain ⟨s, c54, hcp⟩ := @kc_54 w l t sc (d + 4) 1 0 (by omega) (by omega) (by omega)
    have hR1 : kRel (xu w 6 s) 1 (sp_us u 0).1 := kRel_of hR.W (kCpd_rel (k := 1) hB hcp hR.l)
    obtain ⟨s', h⟩ := @k125 w l t sc d u c n rd hR.W hc hc2 hnn 201 0 s rfl hR1
    refine Or.inl ⟨rfl, xu w 6 s', ?_, kKeep_6⟩
    refine Eq.trans ?_ h
    simp (disch := first | omega | assumption | exact xpi_lt) only [↓zbE, zbd_some, ↓xk_I, ↓xk_v, zB_0, zB_1, ite_not, ↓reduceIte, zS, zSa_0, zSa_1, zSa_2, zSa_3, zSa_4, zSa_5, zSa_6, zSa_7, zSa_8, zSa_9, zPa_0, zPa_1, zPa_2, zPa_3, zPa_4, xgS_0, xgS_1, xgS_2, xgS_3, xgS_4, xgS_5, xgS_6, xgS_7, xgS_8, xgS_9, xgS_10, xgS_11, xgQ_0, xgQ_1, xgQ_2, xgQ_3, xgQ_4, xgP_0, xgP_1, xgP_2, xgP_3, xgP_4, xgP_5, xgP_6, xgP_7, xgY_0, xiS, xiQ, xiY, xiP, xiA, c152, xgA_6, xgA_5, c54]
    rfl
  · rw [if_neg ha]
    have c152 := @kx_152 w l t sc (d + 5) u.1 a hR ha
    refine Or.inr ⟨show ¬ (1 : Int32) = 0 by decide, ?_⟩
    simp (disch := first | omega | assumption | exact xpi_lt) only [↓zbE, zbd_some, ↓xk_I, ↓xk_v, zB_0, zB_1, ite_not, ↓reduceIte, zS, zSa_0, zSa_1, zSa_2, zSa_3, zSa_4, zSa_5, zSa_6, zSa_7, zSa_8, zSa_9, zPa_0, zPa_1, zPa_2, zPa_3, zPa_4, xgS_0, xgS_1, xgS_2, xgS_3, xgS_4, xgS_5, xgS_6, xgS_7, xgS_8, xgS_9, xgS_10, xgS_11, xgQ_0, xgQ_1, xgQ_2, xgQ_3, xgQ_4, xgP_0, xgP_1, xgP_2, xgP_3, xgP_4, xgP_5, xgP_6, xgP_7, xgY_0, xiS, xiQ, xiY, xiP, xiA, c152, ↓xk_vx]
theorem kd_126 {u : xU} {a x i : Int32} {c : Nat} (hR : kRel w 0 u.1) (hc : u.1 4 = nI c) (hc2 : c < 10000) : kAm (xm_C sc xt_M (d + 7) 126 [.ref 0, .int a, .int x, .int i] (xem w l t)) w l t (fun e => if e = 1 then 0 else 1) (sp_bookIn u a x i) := by
  have hB := hR.W.bd
  have hk20 := hB.k20
  have hq40 := hB.q40
  have hv4 := hB.v4
  have hb6 := hB.b6
  rw [yc_126]
  unfold sp_bookIn
  by_cases ha : 0 ≤ a ∧ a ≤ u.1 2 - 1
  · rw [if_pos ha]
    have ha' := ha
    rw [hB.k] at ha'
    obtain ⟨n, hnn, rfl⟩ := zrg (by omega) ha'
    rw [nI_clamp (by omega)]
    have c152 := @kn_152 w l t sc (d + 5) u.1 n hR hnn
    by_cases hx : 0 ≤ x ∧ x ≤ 8
    · rw [if_pos hx]
      have c155 := @kn_155 w l t sc (d + 5) x 9 (Int32.not_lt.mpr hx.1) ((k_lt_le (m := 8) (by omega)).mpr hx.2)
      by_cases hi : 0 ≤ i ∧ i ≤ 200
      · rw [if_pos hi]
        have c156 := @kn_156 w l t sc (d + 5) i 0 200 (Int32.not_lt.mpr hi.1) hi.2
        obtain ⟨m, hm, rfl⟩ := zrg (m := 201) (by omega) (show 0 ≤ i ∧ i ≤ nI 201 - 1 from hi)
        rw [nI_clamp (by omega)]
        obtain ⟨s, c54, hcp⟩ := @kc_54 w l t sc (d + 4) 1 0 (by omega) (by omega) (by omega)
        have hR1 : kRel (xu w 6 s) 1 (sp_us u 0).1 := kRel_of hR.W (kCpd_rel (k := 1) hB hcp hR.l)
        obtain ⟨s', hR2, h⟩ := xlpE (fun k (s : xG) => xm_R sc xt_M (d + 6) 126 33 [.ref 0, .int (nI n), .int x, .int (nI m), .int (nI k)] [] (xem (xu w 6 s) l t)) (fun k s => kRel (xu w 6 s) 1 (sp_us u k).1) m (by
          intro k s hk hRk
          obtain ⟨s1, y, c76, hR1⟩ := @k_us w l t sc d u k c s hR.W hc (by omega) hRk
          refine ⟨s1, hR1, ?_⟩
          rw [yb_126_33]
          simp (disch := first | omega | assumption | exact xpi_lt) only [↓zbE, zbd_some, ↓xk_I, ↓xk_v, zB_0, zB_1, ite_not, ↓reduceIte, zS, zSa_0, zSa_1, zSa_2, zSa_3, zSa_4, zSa_5, zSa_6, zSa_7, zSa_8, zSa_9, zPa_0, zPa_1, zPa_2, zPa_3, zPa_4, xgS_0, xgS_1, xgS_2, xgS_3, xgS_4, xgS_5, xgS_6, xgS_7, xgS_8, xgS_9, xgS_10, xgS_11, xgQ_0, xgQ_1, xgQ_2, xgQ_3, xgQ_4, xgP_0, xgP_1, xgP_2, xgP_3, xgP_4, xgP_5, xgP_6, xgP_7, xgY_0, xiS, xiQ, xiY, xiP, nI_ge, xgA_6, c76]) s hR1
        obtain ⟨g1, g2, g3⟩ := @sp_us_ok u c hR.W hc m (by omega)
        have hq' : n < xnk (sp_us u m).1 := by
          unfold xnk
          rw [g3 2 (by omega) (by omega) (by omega)]
          exact hnn
        have c75 := @kc_75 (xu w 6 s') l t sc (d + 2) 1 (sp_us u m).1 (sp_us u m).2.1 n x (by omega) hR2 hq'
        refine Or.inl ⟨rfl, xu w 6 s', ?_, kKeep_6⟩
        refine Eq.trans ?_ (h.trans ?_)
        · simp (disch := first | omega | assumption | exact xpi_lt) only [↓zbE, zbd_some, ↓xk_I, ↓xk_v, zB_0, zB_1, ite_not, ↓reduceIte, zS, zSa_0, zSa_1, zSa_2, zSa_3, zSa_4, zSa_5, zSa_6, zSa_7, zSa_8, zSa_9, zPa_0, zPa_1, zPa_2, zPa_3, zPa_4, xgS_0, xgS_1, xgS_2, xgS_3, xgS_4, xgS_5, xgS_6, xgS_7, xgS_8, xgS_9, xgS_10, xgS_11, xgQ_0, xgQ_1, xgQ_2, xgQ_3, xgQ_4, xgP_0, xgP_1, xgP_2, xgP_3, xgP_4, xgP_5, xgP_6, xgP_7, xgY_0, xiS, xiQ, xiY, xiP, xiA, c152, c155, c156, xgA_6, xgA_5, c54]
          rfl
        · rw [yb_126_33]
          simp (disch := first | omega | assumption | exact xpi_lt) only [↓zbE, zbd_some, ↓xk_I, ↓xk_v, zB_0, zB_1, ite_not, ↓reduceIte, zS, zSa_0, zSa_1, zSa_2, zSa_3, zSa_4, zSa_5, zSa_6, zSa_7, zSa_8, zSa_9, zPa_0, zPa_1, zPa_2, zPa_3, zPa_4, xgS_0, xgS_1, xgS_2, xgS_3, xgS_4, xgS_5, xgS_6, xgS_7, xgS_8, xgS_9, xgS_10, xgS_11, xgQ_0, xgQ_1, xgQ_2, xgQ_3, xgQ_4, xgP_0, xgP_1, xgP_2, xgP_3, xgP_4, xgP_5, xgP_6, xgP_7, xgY_0, xiS, xiQ, xiY, xiP, nI_le, xgA_6, c75]
      · rw [if_neg hi]
        have c156 := @kx_156 w l t sc (d + 5) i 0 200 hi
        refine Or.inr ⟨show ¬ (2 : Int32) = 0 by decide, ?_⟩
        show _ = some (Sum.inr 1, xem w l (t + 1))
        simp (disch := first | omega | assumption | exact xpi_lt) only [↓zbE, zbd_some, ↓xk_I, ↓xk_v, zB_0, zB_1, ite_not, ↓reduceIte, zS, zSa_0, zSa_1, zSa_2, zSa_3, zSa_4, zSa_5, zSa_6, zSa_7, zSa_8, zSa_9, zPa_0, zPa_1, zPa_2, zPa_3, zPa_4, xgS_0, xgS_1, xgS_2, xgS_3, xgS_4, xgS_5, xgS_6, xgS_7, xgS_8, xgS_9, xgS_10, xgS_11, xgQ_0, xgQ_1, xgQ_2, xgQ_3, xgQ_4, xgP_0, xgP_1, xgP_2, xgP_3, xgP_4, xgP_5, xgP_6, xgP_7, xgY_0, xiS, xiQ, xiY, xiP, xiA, c152, c155, c156, ↓xk_vx]
    · rw [if_neg hx]
      have c155 := @kx_155 w l t sc (d + 5) x 9 (by
        by_cases g : x < 0
        · exact Or.inl g
        · exact Or.inr (fun z => hx ⟨Int32.not_lt.mp g, (k_lt_le (m := 8) (by omega)).mp z⟩))
      refine Or.inr ⟨show ¬ (1 : Int32) = 0 by decide, ?_⟩
      show _ = some (Sum.inr 0, xem w l (t + 1))
      simp (disch := first | omega | assumption | exact xpi_lt) only [↓zbE, zbd_some, ↓xk_I, ↓xk_v, zB_0, zB_1, ite_not, ↓reduceIte, zS, zSa_0, zSa_1, zSa_2, zSa_3, zSa_4, zSa_5, zSa_6, zSa_7, zSa_8, zSa_9, zPa_0, zPa_1, zPa_2, zPa_3, zPa_4, xgS_0, xgS_1, xgS_2, xgS_3, xgS_4, xgS_5, xgS_6, xgS_7, xgS_8, xgS_9, xgS_10, xgS_11, xgQ_0, xgQ_1, xgQ_2, xgQ_3, xgQ_4, xgP_0, xgP_1, xgP_2, xgP_3, xgP_4, xgP_5, xgP_6, xgP_7, xgY_0, xiS, xiQ, xiY, xiP, xiA, c152, c155, ↓xk_vx]
  · rw [if_neg ha]
    have c152 := @kx_152 w l t sc (d + 5) u.1 a hR ha
    refine Or.inr ⟨show ¬ (1 : Int32) = 0 by decide, ?_⟩
    show _ = some (Sum.inr 0, xem w l (t + 1))
    simp (disch := first | omega | assumption | exact xpi_lt) only [↓zbE, zbd_some, ↓xk_I, ↓xk_v, zB_0, zB_1, ite_not, ↓reduceIte, zS, zSa_0, zSa_1, zSa_2, zSa_3, zSa_4, zSa_5, zSa_6, zSa_7, zSa_8, zSa_9, zPa_0, zPa_1, zPa_2, zPa_3, zPa_4, xgS_0, xgS_1, xgS_2, xgS_3, xgS_4, xgS_5, xgS_6, xgS_7, xgS_8, xgS_9, xgS_10, xgS_11, xgQ_0, xgQ_1, xgQ_2, xgQ_3, xgQ_4, xgP_0, xgP_1, xgP_2, xgP_3, xgP_4, xgP_5, xgP_6, xgP_7, xgY_0, xiS, xiQ, xiY, xiP, xiA, c152, ↓xk_vx]
end FC
