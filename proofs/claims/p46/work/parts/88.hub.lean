/-! hub: the reference and the class -/
abbrev kLostc (r : Nat → Int32) (x a b : Nat) : Prop := ¬ a = x ∧ ¬ b = x ∧ ¬ kD r a b = -1 ∧ kD (upd r (6 + x) 0) a b = -1
def kLostS (r : Nat → Int32) (x a n : Nat) : Int32 := xsum (fun b => zB (kLostc r x a b)) n
def kPairs (r : Nat → Int32) (x n : Nat) : Int32 := xsum (fun a => kLostS r x a (xnb r)) n
def kHub (r : Nat → Int32) : Nat → Int32 × Int32
  | 0 => (-1, -1)
  | i + 1 => if r (6 + i) = 1 then (if kPairs r i (xnb r) ≤ (kHub r i).2 then kHub r i else (nI i, kPairs r i (xnb r))) else kHub r i
theorem ksum_add {f g h : Nat → Int32} {n : Nat} (e : ∀ i, i < n → f i = g i + h i) : xsum f n = xsum g n + xsum h n := by
  induction n with
  | zero => rfl
  | succ n ih =>
    show xsum f n + f n = (xsum g n + g n) + (xsum h n + h n)
    rw [ih (fun i hi => e i (by omega)), e n (by omega)]
    ac_rfl
section CL
variable {r : Nat → Int32} {x : Nat}
theorem kCl_e {i : Nat} (h : i ≠ 6 + x) : upd r (6 + x) 0 i = r i := zun h
theorem kCl_nb : xnb (upd r (6 + x) 0) = xnb r := by unfold xnb; rw [kCl_e (by omega)]
theorem kCl_nv : xnv (upd r (6 + x) 0) = xnv r := by unfold xnv; rw [kCl_e (by omega)]
theorem kCl_has {v : Nat} {b : Int32} (hx : x < 6) : sp_has (upd r (6 + x) 0) v b = sp_has r v b := by
  have es : xst (upd r (6 + x) 0) v = xst r v := by unfold xst; rw [kCl_e (by omega)]
  unfold sp_has
  rw [es]
  refine xany_cg (fun s hs => ?_)
  rw [kCl_e (by omega)]
theorem kCl_O {a : Nat} : kO (upd r (6 + x) 0) a ↔ a ≠ x ∧ kO r a := by
  unfold kO
  rw [kCl_nb]
  by_cases e : a = x
  · subst e
    rw [zu1]
    exact ⟨fun z => absurd z.2 (by decide), fun z => absurd rfl z.1⟩
  · rw [zun (by omega)]
    exact ⟨fun z => ⟨e, z⟩, fun z => z.2⟩
theorem kCl_W (hx : x < 6) : ∀ n a b, kWk (upd r (6 + x) 0) n a b → kWk r n a b := by
  intro n
  induction n with
  | zero =>
    rintro a b ⟨e, h⟩
    exact ⟨e, (kCl_O.mp h).2⟩
  | succ n ih =>
    rintro a b ⟨c, ⟨h1, h2, h3, h4⟩, h5⟩
    refine ⟨c, ⟨(kCl_O.mp h1).2, (kCl_O.mp h2).2, h3, ?_⟩, ih c b h5⟩
    rw [sp_link_iff] at h4 ⊢
    obtain ⟨v, v1, v2, v3⟩ := h4
    rw [kCl_nv] at v1
    rw [kCl_has hx] at v2 v3
    exact ⟨v, v1, v2, v3⟩
theorem kCl_bd (hB : xBd r) : xBd (upd r (6 + x) 0) := xBd_hd (fun i hi => kCl_e (by omega)) hB
theorem kLost_eq {f g : Nat → Int32} (hB : xBd r) (hx : x < 6) (hf : kFar f r) (hg : kFar g (upd r (6 + x) 0)) {a b : Nat} (ha : a < xnb r) (hb : b < xnb r) : zB (sp_prc f x a b) = zB (sp_prc g x a b) + zB (kLostc r x a b) := by
  have hB' := @kCl_bd r x hB
  have ha' : a < xnb (upd r (6 + x) 0) := by rw [kCl_nb]; exact ha
  have hb' : b < xnb (upd r (6 + x) 0) := by rw [kCl_nb]; exact hb
  have e1 : sp_prc f x a b ↔ ¬ a = b ∧ ¬ a = x ∧ ¬ b = x ∧ ¬ kD r a b = -1 := by unfold sp_prc; rw [hf a b ha hb]
  have e2 : sp_prc g x a b ↔ ¬ a = b ∧ ¬ a = x ∧ ¬ b = x ∧ ¬ kD (upd r (6 + x) 0) a b = -1 := by unfold sp_prc; rw [hg a b ha' hb']
  by_cases h1 : a = x
  · rw [zB_ff (fun z => (e1.mp z).2.1 h1), zB_ff (fun z => (e2.mp z).2.1 h1), zB_ff (c := kLostc r x a b) (fun z => z.1 h1)]
    rfl
  by_cases h2 : b = x
  · rw [zB_ff (fun z => (e1.mp z).2.2.1 h2), zB_ff (fun z => (e2.mp z).2.2.1 h2), zB_ff (c := kLostc r x a b) (fun z => z.2.1 h2)]
    rfl
  rcases kD_s hB' ha' hb' with ⟨d1, d2⟩ | ⟨m, m1, m2, m3, _⟩
  · by_cases h3 : kD r a b = -1
    · rw [zB_ff (fun z => (e1.mp z).2.2.2 h3), zB_ff (fun z => (e2.mp z).2.2.2 d1), zB_ff (c := kLostc r x a b) (fun z => z.2.2.1 h3)]
      rfl
    · have h4 : ¬ a = b := fun e => by
        subst e
        rcases kD_s hB ha hb with ⟨c1, _⟩ | ⟨_, _, _, c3, _⟩
        · exact h3 c1
        · exact d2 0 ⟨rfl, kCl_O.mpr ⟨h1, (kWk_o c3).1⟩⟩
      rw [zB_tt (e1.mpr ⟨h4, h1, h2, h3⟩), zB_ff (fun z => (e2.mp z).2.2.2 d1), zB_tt (c := kLostc r x a b) ⟨h1, h2, h3, d1⟩]
      rfl
  · have h3 : ¬ kD r a b = -1 := fun z => by
      rcases kD_s hB ha hb with ⟨_, c2⟩ | ⟨_, _, c2, _, _⟩
      · exact c2 m (kCl_W hx m a b m3)
      · rw [c2] at z
        exact toJ_ne (by omega) z
    have h5 : ¬ kD (upd r (6 + x) 0) a b = -1 := by rw [m2]; exact toJ_ne (by omega)
    by_cases h4 : a = b
    · rw [zB_ff (fun z => (e1.mp z).1 h4), zB_ff (fun z => (e2.mp z).1 h4), zB_ff (c := kLostc r x a b) (fun z => h5 z.2.2.2)]
      rfl
    · rw [zB_tt (e1.mpr ⟨h4, h1, h2, h3⟩), zB_tt (e2.mpr ⟨h4, h1, h2, h5⟩), zB_ff (c := kLostc r x a b) (fun z => h5 z.2.2.2)]
      rfl
theorem kPairs_eq {f g : Nat → Int32} (hB : xBd r) (hx : x < 6) (hf : kFar f r) (hg : kFar g (upd r (6 + x) 0)) : sp_pr f x (xnb r) (xnb r) - sp_pr g x (xnb (upd r (6 + x) 0)) (xnb (upd r (6 + x) 0)) = kPairs r x (xnb r) := by
  rw [kCl_nb]
  have e : sp_pr f x (xnb r) (xnb r) = sp_pr g x (xnb r) (xnb r) + kPairs r x (xnb r) := ksum_add (fun a ha => ksum_add (fun b hb => kLost_eq hB hx hf hg ha hb))
  rw [e, Int32.sub_eq_add_neg, Int32.add_comm (sp_pr g x (xnb r) (xnb r)), Int32.add_assoc, Int32.add_right_neg, Int32.add_zero]
end CL
section HU
variable {w : xW} {l : Nat → Nat → Int64} {t : Nat} {sc : xm_Sc} {d : Nat} {r : Nat → Int32}
theorem kRel_g0 {k : Nat} {s : xG} (hR : kRel w k r) : kRel (xu w 0 s) k r := by
  have e1 : xu w 0 s (k + 5) = w (k + 5) := xu_ne (by omega)
  have e2 : xu w 0 s (xpi (w (k + 5)) + 1) = w (xpi (w (k + 5)) + 1) := xu_ne (by omega)
  unfold kRel
  rw [e1, e2]
  exact hR
theorem kc_104z {a b : Nat} (ha : a < 6) (hb : b < 6) : xm_C sc xt_M (d + 1) 104 [.ref 44, .int (nI a), .int (nI b)] (xem w l t) = some (.inl (some (.int ((w 0).2 3 (6 * a + b)))), xem w l t) := by
  have e : xm_aI (xem w l t) 45 0 (nI (6 * a + b)) = some ((w 0).2 3 (6 * a + b)) := by rw [xaA_Z, if_pos (xin (by omega) (by decide)), nI_clamp (by omega)]
  rw [yc_104, if_neg (nI_pos (by omega)), if_neg (show ¬ (6 : Int32) ≤ nI a from nI_ge (b := 6) ha (by omega)), if_neg (nI_pos (by omega)), if_pos (show nI b < 6 from nI_lt (b := 6) hb (by omega)), xgYs, zbs, kM6, e]
  rfl
theorem kc_131 {x : Nat} (hR : kRel w 0 r) (hx : x < xnb r) : ∃ f : Nat → Int32, xm_C sc xt_M (d + 4) 131 [.ref 0, .int (nI x)] (xem w l t) = some (.inl (some (.int (kPairs r x (xnb r)))), xem (xu w 0 (xs2 (w 0) 3 f)) l t) := by
  have hB := hR.W.bd
  have hk20 := hB.k20
  have hq40 := hB.q40
  have hv4 := hB.v4
  have hb6 := hB.b6
  have hx6 : x < 6 := by omega
  have hP := hR.P
  have hB' := @kCl_bd r x hB
  have hw := @kWy_Z w l t (xpi (w (0 + 5))) (xnb (upd r (6 + x) 0)) (xnv (upd r (6 + x) 0)) xpi_lt (by rw [kCl_nb]; exact hR.pb) (by rw [kCl_nv]; exact hR.pv) (by rw [kCl_nv]; exact hv4)
  obtain ⟨f, e101, hf⟩ := @kc_101 _ _ _ _ _ _ sc d (upd r (6 + x) 0) ((w 0).2 3) ((w (0 + 5)).1 3 &&& (((1 : Int32) <<< (nI x &&& 31)) ^^^ (-1))) hB' hw (fun i hi => by
    rw [b_clr (by omega) hi, kCl_nb]
    by_cases e : i = x
    · subst e
      rw [if_pos rfl, zu1]
      simp
    · rw [if_neg e, zun (by omega)]
      exact hR.s1.2.2.1 i hi) (fun v hv i hi => by
    rw [kCl_nv] at hv
    rw [(hP.2.1 v hv).2.2.1 i hi, kCl_has hx6])
  rw [xs2_self, xu_self] at e101
  have hR1 : kRel (xu w 0 (xs2 (w 0) 3 f)) 0 r := kRel_g0 hR
  have hpb := hR1.pb
  have f3 : (xu w 0 (xs2 (w 0) 3 f) 0).2 3 = f := by rw [xu_same, xs2_same]
  refine ⟨f, ?_⟩
  generalize xu w 0 (xs2 (w 0) 3 f) = w1 at *
  have inn : ∀ a, a < xnb r → ∀ (acc : Int32) (v5 : Value), ∃ v5', xm_R sc xt_M (d + 3) 131 48 [.ref 0, .int (nI x), .int acc, .int (nI a), .int (nI 0), v5] [] (xem w1 l t) = xm_R sc xt_M (d + 3) 131 31 [.ref 0, .int (nI x), .int (acc + kLostS r x a (xnb r)), .int (nI (a + 1)), .int (nI (xnb r)), v5'] [] (xem w1 l t) := by
    intro a ha acc v5
    obtain ⟨v5', e⟩ := xlpJ (fun b (v5 : Value) => xm_R sc xt_M (d + 3) 131 48 [.ref 0, .int (nI x), .int (acc + kLostS r x a b), .int (nI a), .int (nI b), v5] [] (xem w1 l t)) (xnb r) (by
      intro b v5 hb
      have c104 := @kc_104 w1 l t sc (d + 2) 0 a b (by omega) r hR1 (by omega) (by omega)
      have c104z := @kc_104z w1 l t sc (d + 2) a b (by omega) (by omega)
      rw [f3, hf a b (by omega) (by omega)] at c104z
      have es : kLostS r x a (b + 1) = kLostS r x a b + zB (kLostc r x a b) := rfl
      rw [es]
      by_cases h1 : a = x
      · rw [zB_ff (c := kLostc r x a b) (fun z => z.1 h1), Int32.add_zero]
        have h1' : nI a = nI x := by rw [h1]
        exact ⟨_, by rw [yb_131_48]; simp (disch := first | omega | assumption | exact xpi_lt) only [↓zbE, zbd_some, ↓xk_I, ↓xk_v, zB_0, zB_1, ite_not, ↓reduceIte, zS, zSa_0, zSa_1, zSa_2, zSa_3, zSa_4, zSa_5, zSa_6, zSa_7, zSa_8, zSa_9, zPa_0, zPa_1, zPa_2, zPa_3, zPa_4, xgS_0, xgS_1, xgS_2, xgS_3, xgS_4, xgS_5, xgS_6, xgS_7, xgS_8, xgS_9, xgS_10, xgS_11, xgQ_0, xgQ_1, xgQ_2, xgQ_3, xgQ_4, xgP_0, xgP_1, xgP_2, xgP_3, xgP_4, xgP_5, xgP_6, xgP_7, xgY_0, xiS, xiQ, xiY, xiP, eq_true h1', xgA_5, hpb, nI_ge, c104, z10, z00, yb_131_78, yb_131_120, xgA_8, xiYs, c104z]; rfl⟩
      have h1' : ¬ nI a = nI x := fun z => h1 (nI_inj (by omega) (by omega) z)
      by_cases h2 : b = x
      · rw [zB_ff (c := kLostc r x a b) (fun z => z.2.1 h2), Int32.add_zero]
        have h2' : nI b = nI x := by rw [h2]
        exact ⟨_, by rw [yb_131_48]; simp (disch := first | omega | assumption | exact xpi_lt) only [↓zbE, zbd_some, ↓xk_I, ↓xk_v, zB_0, zB_1, ite_not, ↓reduceIte, zS, zSa_0, zSa_1, zSa_2, zSa_3, zSa_4, zSa_5, zSa_6, zSa_7, zSa_8, zSa_9, zPa_0, zPa_1, zPa_2, zPa_3, zPa_4, xgS_0, xgS_1, xgS_2, xgS_3, xgS_4, xgS_5, xgS_6, xgS_7, xgS_8, xgS_9, xgS_10, xgS_11, xgQ_0, xgQ_1, xgQ_2, xgQ_3, xgQ_4, xgP_0, xgP_1, xgP_2, xgP_3, xgP_4, xgP_5, xgP_6, xgP_7, xgY_0, xiS, xiQ, xiY, xiP, eq_false h1', eq_true h2', xgA_5, hpb, nI_ge, c104, z10, z00, yb_131_78, yb_131_120, xgA_8, xiYs, c104z]; rfl⟩
      have h2' : ¬ nI b = nI x := fun z => h2 (nI_inj (by omega) (by omega) z)
      by_cases h3 : kD r a b = -1
      · rw [zB_ff (c := kLostc r x a b) (fun z => z.2.2.1 h3), Int32.add_zero]
        exact ⟨_, by rw [yb_131_48]; simp (disch := first | omega | assumption | exact xpi_lt) only [↓zbE, zbd_some, ↓xk_I, ↓xk_v, zB_0, zB_1, ite_not, ↓reduceIte, zS, zSa_0, zSa_1, zSa_2, zSa_3, zSa_4, zSa_5, zSa_6, zSa_7, zSa_8, zSa_9, zPa_0, zPa_1, zPa_2, zPa_3, zPa_4, xgS_0, xgS_1, xgS_2, xgS_3, xgS_4, xgS_5, xgS_6, xgS_7, xgS_8, xgS_9, xgS_10, xgS_11, xgQ_0, xgQ_1, xgQ_2, xgQ_3, xgQ_4, xgP_0, xgP_1, xgP_2, xgP_3, xgP_4, xgP_5, xgP_6, xgP_7, xgY_0, xiS, xiQ, xiY, xiP, eq_false h1', eq_false h2', h3, xgA_5, hpb, nI_ge, c104, z10, z00, yb_131_78, yb_131_120, xgA_8, xiYs, c104z]; rfl⟩
      by_cases h4 : kD (upd r (6 + x) 0) a b = -1
      · rw [zB_tt (c := kLostc r x a b) ⟨h1, h2, h3, h4⟩]
        exact ⟨_, by rw [yb_131_48]; simp (disch := first | omega | assumption | exact xpi_lt) only [↓zbE, zbd_some, ↓xk_I, ↓xk_v, zB_0, zB_1, ite_not, ↓reduceIte, zS, zSa_0, zSa_1, zSa_2, zSa_3, zSa_4, zSa_5, zSa_6, zSa_7, zSa_8, zSa_9, zPa_0, zPa_1, zPa_2, zPa_3, zPa_4, xgS_0, xgS_1, xgS_2, xgS_3, xgS_4, xgS_5, xgS_6, xgS_7, xgS_8, xgS_9, xgS_10, xgS_11, xgQ_0, xgQ_1, xgQ_2, xgQ_3, xgQ_4, xgP_0, xgP_1, xgP_2, xgP_3, xgP_4, xgP_5, xgP_6, xgP_7, xgY_0, xiS, xiQ, xiY, xiP, Int32.add_assoc, eq_false h1', eq_false h2', h3, h4, xgA_5, hpb, nI_ge, c104, z10, z00, yb_131_78, yb_131_120, xgA_8, xiYs, c104z]; rfl⟩
      · rw [zB_ff (c := kLostc r x a b) (fun z => h4 z.2.2.2), Int32.add_zero]
        exact ⟨_, by rw [yb_131_48]; simp (disch := first | omega | assumption | exact xpi_lt) only [↓zbE, zbd_some, ↓xk_I, ↓xk_v, zB_0, zB_1, ite_not, ↓reduceIte, zS, zSa_0, zSa_1, zSa_2, zSa_3, zSa_4, zSa_5, zSa_6, zSa_7, zSa_8, zSa_9, zPa_0, zPa_1, zPa_2, zPa_3, zPa_4, xgS_0, xgS_1, xgS_2, xgS_3, xgS_4, xgS_5, xgS_6, xgS_7, xgS_8, xgS_9, xgS_10, xgS_11, xgQ_0, xgQ_1, xgQ_2, xgQ_3, xgQ_4, xgP_0, xgP_1, xgP_2, xgP_3, xgP_4, xgP_5, xgP_6, xgP_7, xgY_0, xiS, xiQ, xiY, xiP, eq_false h1', eq_false h2', h3, h4, xgA_5, hpb, nI_ge, c104, z10, z00, yb_131_78, yb_131_120, xgA_8, xiYs, c104z]; rfl⟩) v5
    refine ⟨v5', Eq.trans ?_ (e.trans ?_)⟩
    · rw [show kLostS r x a 0 = 0 from rfl, Int32.add_zero]
    · rw [yb_131_48]
      simp (disch := first | omega | assumption | exact xpi_lt) only [↓zbE, zbd_some, ↓xk_I, ↓xk_v, zB_0, zB_1, ite_not, ↓reduceIte, zS, zSa_0, zSa_1, zSa_2, zSa_3, zSa_4, zSa_5, zSa_6, zSa_7, zSa_8, zSa_9, zPa_0, zPa_1, zPa_2, zPa_3, zPa_4, xgS_0, xgS_1, xgS_2, xgS_3, xgS_4, xgS_5, xgS_6, xgS_7, xgS_8, xgS_9, xgS_10, xgS_11, xgQ_0, xgQ_1, xgQ_2, xgQ_3, xgQ_4, xgP_0, xgP_1, xgP_2, xgP_3, xgP_4, xgP_5, xgP_6, xgP_7, xgY_0, xiS, xiQ, xiY, xiP, xgA_5, hpb, nI_le]
  obtain ⟨jj, e⟩ := xlpJ (fun a (v : Value × Value) => xm_R sc xt_M (d + 3) 131 31 [.ref 0, .int (nI x), .int (kPairs r x a), .int (nI a), v.1, v.2] [] (xem w1 l t)) (xnb r) (by
    intro a v ha
    obtain ⟨v5', h⟩ := inn a ha (kPairs r x a) v.2
    refine ⟨(.int (nI (xnb r)), v5'), ?_⟩
    refine Eq.trans ?_ (h.trans ?_)
    · rw [yb_131_31]
      simp (disch := first | omega | assumption | exact xpi_lt) only [↓zbE, zbd_some, ↓xk_I, ↓xk_v, zB_0, zB_1, ite_not, ↓reduceIte, zS, zSa_0, zSa_1, zSa_2, zSa_3, zSa_4, zSa_5, zSa_6, zSa_7, zSa_8, zSa_9, zPa_0, zPa_1, zPa_2, zPa_3, zPa_4, xgS_0, xgS_1, xgS_2, xgS_3, xgS_4, xgS_5, xgS_6, xgS_7, xgS_8, xgS_9, xgS_10, xgS_11, xgQ_0, xgQ_1, xgQ_2, xgQ_3, xgQ_4, xgP_0, xgP_1, xgP_2, xgP_3, xgP_4, xgP_5, xgP_6, xgP_7, xgY_0, xiS, xiQ, xiY, xiP, xgA_5, hpb, nI_ge]
      rfl
    · rfl) (.null, .null)
  rw [yc_131]
  refine Eq.trans ?_ (e.trans ?_)
  · simp (disch := first | omega | assumption | exact xpi_lt) only [↓zbE, zbd_some, ↓xk_I, ↓xk_v, zB_0, zB_1, ite_not, ↓reduceIte, zS, zSa_0, zSa_1, zSa_2, zSa_3, zSa_4, zSa_5, zSa_6, zSa_7, zSa_8, zSa_9, zPa_0, zPa_1, zPa_2, zPa_3, zPa_4, xgS_0, xgS_1, xgS_2, xgS_3, xgS_4, xgS_5, xgS_6, xgS_7, xgS_8, xgS_9, xgS_10, xgS_11, xgQ_0, xgQ_1, xgQ_2, xgQ_3, xgQ_4, xgP_0, xgP_1, xgP_2, xgP_3, xgP_4, xgP_5, xgP_6, xgP_7, xgY_0, xiS, xiQ, xiY, xiP, xgA_8, xgA_5, xiYs, e101]
    rfl
  · rw [yb_131_31]
    simp (disch := first | omega | assumption | exact xpi_lt) only [↓zbE, zbd_some, ↓xk_I, ↓xk_v, zB_0, zB_1, ite_not, ↓reduceIte, zS, zSa_0, zSa_1, zSa_2, zSa_3, zSa_4, zSa_5, zSa_6, zSa_7, zSa_8, zSa_9, zPa_0, zPa_1, zPa_2, zPa_3, zPa_4, xgS_0, xgS_1, xgS_2, xgS_3, xgS_4, xgS_5, xgS_6, xgS_7, xgS_8, xgS_9, xgS_10, xgS_11, xgQ_0, xgQ_1, xgQ_2, xgQ_3, xgQ_4, xgP_0, xgP_1, xgP_2, xgP_3, xgP_4, xgP_5, xgP_6, xgP_7, xgY_0, xiS, xiQ, xiY, xiP, xgA_5, hpb, nI_le]
theorem kHub_ge {r : Nat → Int32} : ∀ i, -1 ≤ (kHub r i).2 := by
  intro i
  induction i with
  | zero => exact Int32.le_refl _
  | succ i ih =>
    have es : kHub r (i + 1) = if r (6 + i) = 1 then (if kPairs r i (xnb r) ≤ (kHub r i).2 then kHub r i else (nI i, kPairs r i (xnb r))) else kHub r i := rfl
    rw [es]
    split
    · split
      · exact ih
      · next h => exact Int32.le_trans ih (Int32.le_of_lt (Int32.not_le.mp h))
    · exact ih
theorem kd_130 (hR : kRel w 0 r) : ∃ f : Nat → Int32, xm_C sc xt_M (d + 6) 130 [.ref 0] (xem w l t) = some (.inl (some (.int (kHub r (xnb r)).1)), xem (xu w 0 (xs2 (w 0) 3 f)) l t) := by
  have hB := hR.W.bd
  have hk20 := hB.k20
  have hq40 := hB.q40
  have hv4 := hB.v4
  have hb6 := hB.b6
  obtain ⟨⟨f, v4⟩, _, i3⟩ := xlpE (fun i (a : (Nat → Int32) × Value) => xm_R sc xt_M (d + 5) 130 6 [.ref 0, .int (kHub r i).1, .int (kHub r i).2, .int (nI i), a.2] [] (xem (xu w 0 (xs2 (w 0) 3 a.1)) l t)) (fun _ _ => True) (xnb r) (by
    intro i a hi _
    obtain ⟨f, v4⟩ := a
    have hR1 : kRel (xu w 0 (xs2 (w 0) 3 f)) 0 r := kRel_g0 hR
    have hpb := hR1.pb
    have c60 := @kc_60 _ l t sc (d + 4) 0 i (by omega) r hR1 hi
    have hge := @kHub_ge r i
    have es : kHub r (i + 1) = if r (6 + i) = 1 then (if kPairs r i (xnb r) ≤ (kHub r i).2 then kHub r i else (nI i, kPairs r i (xnb r))) else kHub r i := rfl
    rw [es]
    by_cases ho : r (6 + i) = 1
    · rw [if_pos ho]
      obtain ⟨f', c131⟩ := @kc_131 _ l t sc (d + 1) r i hR1 hi
      rw [xu_same, xs2_2, xu_xu] at c131
      refine ⟨(f', .int (kPairs r i (xnb r))), trivial, ?_⟩
      dsimp only
      rw [yb_130_6]
      by_cases hle : kPairs r i (xnb r) ≤ (kHub r i).2
      · rw [if_pos hle]
        simp (disch := first | omega | assumption | exact xpi_lt) only [↓zbE, zbd_some, ↓xk_I, ↓xk_v, zB_0, zB_1, ite_not, ↓reduceIte, zS, zSa_0, zSa_1, zSa_2, zSa_3, zSa_4, zSa_5, zSa_6, zSa_7, zSa_8, zSa_9, zPa_0, zPa_1, zPa_2, zPa_3, zPa_4, xgS_0, xgS_1, xgS_2, xgS_3, xgS_4, xgS_5, xgS_6, xgS_7, xgS_8, xgS_9, xgS_10, xgS_11, xgQ_0, xgQ_1, xgQ_2, xgQ_3, xgQ_4, xgP_0, xgP_1, xgP_2, xgP_3, xgP_4, xgP_5, xgP_6, xgP_7, xgY_0, xiS, xiQ, xiY, xiP, eq_true ho, c131, eq_true hle, xiA, xgA_5, hpb, nI_ge, c60, yb_130_53]
      · rw [if_neg hle]
        simp (disch := first | omega | assumption | exact xpi_lt) only [↓zbE, zbd_some, ↓xk_I, ↓xk_v, zB_0, zB_1, ite_not, ↓reduceIte, zS, zSa_0, zSa_1, zSa_2, zSa_3, zSa_4, zSa_5, zSa_6, zSa_7, zSa_8, zSa_9, zPa_0, zPa_1, zPa_2, zPa_3, zPa_4, xgS_0, xgS_1, xgS_2, xgS_3, xgS_4, xgS_5, xgS_6, xgS_7, xgS_8, xgS_9, xgS_10, xgS_11, xgQ_0, xgQ_1, xgQ_2, xgQ_3, xgQ_4, xgP_0, xgP_1, xgP_2, xgP_3, xgP_4, xgP_5, xgP_6, xgP_7, xgY_0, xiS, xiQ, xiY, xiP, eq_true ho, c131, eq_false hle, xiA, xgA_5, hpb, nI_ge, c60, yb_130_53]
    · rw [if_neg ho]
      refine ⟨(f, .int (-1)), trivial, ?_⟩
      dsimp only
      rw [yb_130_6]
      simp (disch := first | omega | assumption | exact xpi_lt) only [↓zbE, zbd_some, ↓xk_I, ↓xk_v, zB_0, zB_1, ite_not, ↓reduceIte, zS, zSa_0, zSa_1, zSa_2, zSa_3, zSa_4, zSa_5, zSa_6, zSa_7, zSa_8, zSa_9, zPa_0, zPa_1, zPa_2, zPa_3, zPa_4, xgS_0, xgS_1, xgS_2, xgS_3, xgS_4, xgS_5, xgS_6, xgS_7, xgS_8, xgS_9, xgS_10, xgS_11, xgQ_0, xgQ_1, xgQ_2, xgQ_3, xgQ_4, xgP_0, xgP_1, xgP_2, xgP_3, xgP_4, xgP_5, xgP_6, xgP_7, xgY_0, xiS, xiQ, xiY, xiP, eq_false ho, eq_true hge, xiA, xgA_5, hpb, nI_ge, c60, yb_130_53]) ((w 0).2 3, .null) trivial
  rw [xs2_self, xu_self] at i3
  refine ⟨f, ?_⟩
  have hR1 : kRel (xu w 0 (xs2 (w 0) 3 f)) 0 r := kRel_g0 hR
  have hpb := hR1.pb
  rw [yc_130]
  refine Eq.trans ?_ (i3.trans ?_)
  · rfl
  · dsimp only
    rw [yb_130_6]
    simp (disch := first | omega | assumption | exact xpi_lt) only [↓zbE, zbd_some, ↓xk_I, ↓xk_v, zB_0, zB_1, ite_not, ↓reduceIte, zS, zSa_0, zSa_1, zSa_2, zSa_3, zSa_4, zSa_5, zSa_6, zSa_7, zSa_8, zSa_9, zPa_0, zPa_1, zPa_2, zPa_3, zPa_4, xgS_0, xgS_1, xgS_2, xgS_3, xgS_4, xgS_5, xgS_6, xgS_7, xgS_8, xgS_9, xgS_10, xgS_11, xgQ_0, xgQ_1, xgQ_2, xgQ_3, xgQ_4, xgP_0, xgP_1, xgP_2, xgP_3, xgP_4, xgP_5, xgP_6, xgP_7, xgY_0, xiS, xiQ, xiY, xiP, xgA_5, hpb, nI_le]
end HU
