/-! THE CLASS: a stop is added -/
theorem sp_has_addS {r : Nat → Int32} {v s i : Nat} {x : Int32} (hs : r (13 + 11 * v) = nI s) (h8 : s < 8) : sp_has (sp_addS r v s x) v (nI i) = (sp_has r v (nI i) || decide (x = nI i)) := by
  have e : ∀ j, j ≠ 13 + 11 * v → j ≠ 15 + 11 * v + s → sp_addS r v s x j = r j := fun j h1 h2 => (zun h1).trans (zun h2)
  have ex : sp_addS r v s x (15 + 11 * v + s) = x := (zun (by omega)).trans zu1
  have e1 : xst (sp_addS r v s x) v = s + 1 := by
    unfold xst
    rw [show sp_addS r v s x (13 + 11 * v) = nI (s + 1) from zu1, nI_clamp (by omega)]
  have e2 : xst r v = s := by
    unfold xst
    rw [hs, nI_clamp (by omega)]
  unfold sp_has
  rw [e1, e2]
  show (xany (fun q => decide (sp_addS r v s x (15 + 11 * v + q) = nI i)) s || decide (sp_addS r v s x (15 + 11 * v + s) = nI i)) = _
  rw [ex, xany_cg (fun q hq => by rw [e (15 + 11 * v + q) (by omega) (by omega)])]
theorem kPl_19 {p : xG} {r : Nat → Int32} {v s b : Nat} (h : kPl p r) (hv : r 1 = nI (v + 1)) (h4 : v < 4) (hs : r (13 + 11 * v) = nI s) (h8 : s < 8) (hb : b < 6) (h20 : xnk r ≤ 20) (hst : ∀ u, u < v + 1 → xst r u < 9) : kPl (kP19 p v s (nI b)) (sp_addS r v s (nI b)) := by
  obtain ⟨⟨a0, a1, a2⟩, a3, a4⟩ := h
  have e : ∀ j, j ≠ 13 + 11 * v → j ≠ 15 + 11 * v + s → sp_addS r v s (nI b) j = r j := fun j h1 h2 => (zun h1).trans (zun h2)
  have ex : sp_addS r v s (nI b) (15 + 11 * v + s) = nI b := (zun (by omega)).trans zu1
  have es' : sp_addS r v s (nI b) (13 + 11 * v) = nI (s + 1) := zu1
  have ev : xnv r = v + 1 := by unfold xnv; rw [hv, nI_clamp (by omega)]
  have ev' : xnv (sp_addS r v s (nI b)) = v + 1 := by unfold xnv; rw [e 1 (by omega) (by omega), hv, nI_clamp (by omega)]
  have ek : xnk (sp_addS r v s (nI b)) = xnk r := by unfold xnk; rw [e 2 (by omega) (by omega)]
  have p0 : (kP19 p v s (nI b)).2 0 = p.2 0 := rfl
  have p1 : (kP19 p v s (nI b)).2 1 = upd (p.2 1) v (p.2 1 v + 1) := rfl
  have p2 : (kP19 p v s (nI b)).2 2 = upd (p.2 2) v (p.2 2 v ||| ((1 : Int32) <<< (nI b &&& 31))) := rfl
  have p3 : (kP19 p v s (nI b)).2 3 = p.2 3 := rfl
  have p4 : (kP19 p v s (nI b)).2 4 = upd (p.2 4) (8 * v + s) (nI b) := rfl
  refine ⟨⟨?_, ?_, ?_⟩, fun u hu => ?_, fun k hk => ?_⟩
  · rw [e 0 (by omega) (by omega)]
    exact a0
  · rw [e 1 (by omega) (by omega)]
    exact a1
  · rw [e 2 (by omega) (by omega)]
    exact a2
  · rw [ev'] at hu
    obtain ⟨b1, b2, b3, b4⟩ := a3 u (by omega)
    have h9 := hst u hu
    rw [p0, p1, p2, p4, e (12 + 11 * u) (by omega) (by omega)]
    by_cases g : u = v
    · subst g
      have e2 : xst r u = s := by
        unfold xst
        rw [hs, nI_clamp (by omega)]
      have e1 : xst (sp_addS r u s (nI b)) u = s + 1 := by
        unfold xst
        rw [es', nI_clamp (by omega)]
      rw [es', zu1, zu1, b2, hs, zS]
      refine ⟨b1, rfl, fun i hi => ?_, fun q hq => ?_⟩
      · rw [b_set (by omega) hi, sp_has_addS hs h8, b3 i hi]
        by_cases hib : i = b
        · subst hib
          simp [hb]
        · have hne : ¬ nI b = nI i := fun z => hib (nI_inj (by omega) (by omega) z).symm
          rw [if_neg hib, decide_eq_false hne, Bool.or_false]
      · rw [e1] at hq
        by_cases hqs : q = s
        · subst hqs
          rw [ex]
          exact zu1
        · rw [e (15 + 11 * u + q) (by omega) (by omega), zun (by omega)]
          exact b4 q (by omega)
    · have es2 : xst (sp_addS r v s (nI b)) u = xst r u := by
        unfold xst
        rw [e (13 + 11 * u) (by omega) (by omega)]
      rw [e (13 + 11 * u) (by omega) (by omega), zun g, zun g]
      refine ⟨b1, b2, fun i hi => ?_, fun q hq => ?_⟩
      · have e6 : sp_has (sp_addS r v s (nI b)) u (nI i) = sp_has r u (nI i) := by
          unfold sp_has
          rw [es2]
          exact xany_cg (fun q hq => by rw [e (15 + 11 * u + q) (by omega) (by omega)])
        rw [e6]
        exact b3 i hi
      · rw [es2] at hq
        rw [e (15 + 11 * u + q) (by omega) (by omega), zun (by omega)]
        exact b4 q hq
  · rw [ek] at hk
    rw [p3, e (58 + 6 * k) (by omega) (by omega)]
    exact a4 k hk
