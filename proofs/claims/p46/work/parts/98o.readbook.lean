/-! THE REFERENCE reads: books, requests -/
section VO
variable {f : Nat → Int32} {n : Nat} {T : xTk} {r : Nat → Int32} {b c lo hi : Int32}
theorem sp_tw_exp2 (h : sp_tw f n T) : sp_tw f n (sp_exp2 f n T c) := sp_tw_adv (sp_tw_check h)
theorem sp_stops_e {k : Nat} (h : ¬ T.2.2.2.1 = 0) : sp_stops f n k (T, r) = (T, r) := by
  cases k with
  | zero => exact sp_stops_0
  | succ k => rw [sp_stops_s, if_neg (show ¬ ((T, r).1.2.2.2.1 = 0 ∧ (T, r).1.2.2.1 = 2) from fun z => h z.1)]
theorem sp_van_e (h : ¬ T.2.2.2.1 = 0) : sq_van f n (T, r) = (T, r) := by
  have e1 : sp_vn1 f T = T := sp_vn1_u.trans (sp_check_e h)
  have e2 : sp_vn2 f T r = T := by
    rw [sp_vn2_u]
    rw [e1, sp_check_e h]
  have e4 : sp_vn4 f n T r = T := by
    rw [sp_vn4_u, sp_vn3_u]
    rw [e2, sp_adv_e h, sp_rnT_e h]
  rw [sq_van_u]
  dsimp only
  rw [e4, if_neg h]
/-- what reading a van leaves -/
theorem sp_van_ok (hS : kSn r) (hT : sp_tw f n T) : kSn (sq_van f n (T, r)).2 ∧ sp_tw f n (sq_van f n (T, r)).1 ∧ ((sq_van f n (T, r)).1.2.2.2.1 = 0 → T.2.2.2.1 = 0 ∧ xnv (sq_van f n (T, r)).2 = xnv r + 1 ∧ (∀ u, u < xnv r → xst (sq_van f n (T, r)).2 u = xst r u) ∧ 2 ≤ xst (sq_van f n (T, r)).2 (xnv r)) := by
  have hT4 := @sp_vn4_tw n T r f hT
  have hv4 := hS.1.v4
  rw [sq_van_u]
  dsimp only
  by_cases h0 : (sp_vn4 f n T r).2.2.2.1 = 0
  · obtain ⟨o1, o2, o3, o4, o5, o6, o7, o8⟩ := sp_vn4_ok hT hS h0
    obtain ⟨s1, s2, s3, s4, s5, s6⟩ := kSn_V hS rfl o1 o6 o7
    have e5 : sp_addV r (xnv r) (sp_rnV f n (sp_vn3 f n T r) 1 9) = sp_vn5 f n T r := sp_vn5_u.symm
    rw [e5] at s1 s2 s3 s4
    obtain ⟨b1, b2, b3, b4, b5⟩ := @sp_two n (sp_vn4 f n T r) (sp_vn5 f n T r) f (xnv r) s1 s2 s3 hT4
    have e7 : sp_stops f n 7 (sq_stop f n (sq_stop f n (sp_vn4 f n T r, sp_vn5 f n T r))) = sp_vn8 f n T r := sp_vn8_u.symm
    generalize hP : sq_stop f n (sq_stop f n (sp_vn4 f n T r, sp_vn5 f n T r)) = P at *
    obtain ⟨P1, P2⟩ := P
    have hv2 : xnv P2 = xnv r + 1 := b3
    have hv1 : xnv P2 - 1 = xnv r := by omega
    obtain ⟨q1, q2, q3, q4, q5⟩ := @sp_stops_ok f n 7 P1 P2 b1 (by omega) b2
    have hz : (sp_vn8 f n T r).1.2.2.2.1 = 0 → 2 ≤ xst (sp_vn8 f n T r).2 (xnv r) := by
      intro y
      rw [← e7] at y ⊢
      have p0 : P1.2.2.2.1 = 0 := Decidable.byContradiction fun x => by
        rw [sp_stops_e x] at y
        exact x y
      have h2 : xst P2 (xnv r) = 2 := b5 p0
      rw [hv1] at q5
      omega
    rw [e7, hv1] at q4
    rw [e7] at q1 q2 q3
    rw [if_pos h0]
    rw [sp_rte_u]
    refine ⟨q1, sp_tw_exp2 (by rw [sp_vn9_u]; exact sp_tw_check q2), fun z => ?_⟩
    obtain ⟨z1, z2⟩ := sp_exp2_ok z
    have z3 := z1.1
    rw [sp_vn9_u] at z3
    obtain ⟨z4, _, _⟩ := sp_check_ok (by decide) z3
    refine ⟨o2, q3.trans hv2, fun u hu => ?_, hz z4⟩
    exact (q4 u (by omega) (by omega)).trans ((b4 u (by omega) (by omega)).trans (s4 u hu))
  · rw [if_neg h0]
    exact ⟨hS, hT4, fun z => absurd z h0⟩
theorem kSn_B {k : Nat} {x : Int32} (hS : kSn r) (hk : xnk r = k) (h20 : k < 20) (hx : xil x (xnb r)) : kSn (sp_addB r k x) ∧ xnv (sp_addB r k x) = xnv r ∧ (∀ u, u < 4 → xst (sp_addB r k x) u = xst r u) ∧ xnk (sp_addB r k x) = k + 1 ∧ xnb (sp_addB r k x) = xnb r := by
  obtain ⟨hB, hb2, h3, h4, h5, h6, n3, n4, n5, nb, nv, nk⟩ := hS
  have hv4 := hB.v4
  have e : ∀ j, j ≠ 2 → j ≠ 56 + 6 * k → j ≠ 57 + 6 * k → j ≠ 58 + 6 * k → j ≠ 60 + 6 * k → j ≠ 61 + 6 * k → sp_addB r k x j = r j := fun j h2 h56 h57 h58 h60 h61 => (zun h61).trans ((zun h60).trans ((zun h57).trans ((zun h56).trans ((zun h58).trans (zun h2)))))
  have x0 : sp_addB r k x (56 + 6 * k) = 0 := (zun (by omega)).trans ((zun (by omega)).trans ((zun (by omega)).trans zu1))
  have x1 : sp_addB r k x (57 + 6 * k) = x := (zun (by omega)).trans ((zun (by omega)).trans zu1)
  have x2 : sp_addB r k x (58 + 6 * k) = x := (zun (by omega)).trans ((zun (by omega)).trans ((zun (by omega)).trans ((zun (by omega)).trans zu1)))
  have x4 : sp_addB r k x (60 + 6 * k) = -1 := (zun (by omega)).trans zu1
  have x5 : sp_addB r k x (61 + 6 * k) = -1 := zu1
  have e2' : sp_addB r k x 2 = nI (k + 1) := (zun (by omega)).trans ((zun (by omega)).trans ((zun (by omega)).trans ((zun (by omega)).trans ((zun (by omega)).trans zu1))))
  have e0 : xnb (sp_addB r k x) = xnb r := by unfold xnb; rw [e 0 (by omega) (by omega) (by omega) (by omega) (by omega) (by omega)]
  have e1 : xnv (sp_addB r k x) = xnv r := by unfold xnv; rw [e 1 (by omega) (by omega) (by omega) (by omega) (by omega) (by omega)]
  have e2 : xnk (sp_addB r k x) = k + 1 := by unfold xnk; rw [e2', nI_clamp (by omega)]
  have e3 : xnq (sp_addB r k x) = xnq r := by unfold xnq; rw [e 3 (by omega) (by omega) (by omega) (by omega) (by omega) (by omega)]
  have lo : ∀ j, j < 56 → j ≠ 2 → sp_addB r k x j = r j := fun j h1 h2 => e j h2 (by omega) (by omega) (by omega) (by omega) (by omega)
  have ot : ∀ q j, q ≠ k → 56 + 6 * q ≤ j → j < 62 + 6 * q → sp_addB r k x j = r j := fun q j h1 h2 h3 => e j (by omega) (by omega) (by omega) (by omega) (by omega) (by omega)
  have eu : ∀ u, u < 4 → xst (sp_addB r k x) u = xst r u := fun u hu => by unfold xst; rw [lo (13 + 11 * u) (by omega) (by omega)]
  refine ⟨⟨?_, ⟨by rw [e0]; exact hb2.1, fun b hb => by rw [lo (6 + b) (by omega) (by omega)]; exact hb2.2 b hb⟩, fun u hu => ?_, fun u h1 h2 => ?_, fun q hq => ?_, fun q h1 h2 => ?_, ?_, ?_, ?_, fun b hb => ?_, fun u hu => ?_, fun q hq => ?_⟩, e1, eu, e2, e0⟩
  · unfold xBd
    rw [e0, e1, e2, e3, lo 0 (by omega) (by omega), e2', lo 1 (by omega) (by omega), lo 3 (by omega) (by omega)]
    exact ⟨hB.1, hB.2.1, ⟨rfl, by omega⟩, hB.2.2.2⟩
  · rw [e1] at hu
    obtain ⟨a1, a2, a3, a4⟩ := h3 u hu
    rw [e0, lo (12 + 11 * u) (by omega) (by omega), lo (13 + 11 * u) (by omega) (by omega), eu u (by omega)]
    refine ⟨a1, a2, a3, fun s hs => ?_⟩
    have : xst r u < 9 := a3.2
    rw [lo (15 + 11 * u + s) (by omega) (by omega)]
    exact a4 s hs
  · rw [e1] at h1
    rw [lo (13 + 11 * u) (by omega) (by omega), lo (14 + 11 * u) (by omega) (by omega)]
    exact h4 u h1 h2
  · rw [e2] at hq
    rw [e0]
    by_cases g : q = k
    · subst g
      rw [x2]
      exact hx
    · rw [ot q (58 + 6 * q) g (by omega) (by omega)]
      exact h5 q (by omega)
  · rw [e2] at h1
    rw [ot q (59 + 6 * q) (by omega) (by omega) (by omega)]
    exact h6 q (by omega) h2
  · rw [lo 3 (by omega) (by omega)]; exact n3
  · rw [lo 4 (by omega) (by omega)]; exact n4
  · rw [lo 5 (by omega) (by omega)]; exact n5
  · rw [e0] at hb
    have := hB.b6
    rw [lo (6 + b) (by omega) (by omega)]
    exact nb b hb
  · rw [e1] at hu
    rw [lo (14 + 11 * u) (by omega) (by omega)]
    exact nv u hu
  · rw [e2] at hq
    by_cases g : q = k
    · subst g
      rw [x0, x1, x2, x4, x5, e (59 + 6 * q) (by omega) (by omega) (by omega) (by omega) (by omega) (by omega)]
      exact ⟨rfl, rfl, h6 q (by omega) h20, rfl, rfl⟩
    · rw [ot q (56 + 6 * q) g (by omega) (by omega), ot q (57 + 6 * q) g (by omega) (by omega), ot q (58 + 6 * q) g (by omega) (by omega), ot q (59 + 6 * q) g (by omega) (by omega), ot q (60 + 6 * q) g (by omega) (by omega), ot q (61 + 6 * q) g (by omega) (by omega)]
      exact nk q (by omega)
end VO
noncomputable def sp_bk0_z (T : xTk) (r : Nat → Int32) : xTk := sp_check T (if 20 ≤ xnk r then 0 else 1) 3
noncomputable def sp_bk0 : xTk → (Nat → Int32) → xTk := sq_op sp_bk0_z
theorem sp_bk0_u {T : xTk} {r : Nat → Int32} : sp_bk0 T r = sp_check T (if 20 ≤ xnk r then 0 else 1) 3 := congrFun (congrFun (sq_op_eq (a := sp_bk0_z)) T) r
noncomputable def sp_bk1_z (f : Nat → Int32) (n : Nat) (T : xTk) (r : Nat → Int32) : xTk := sp_adv f n (sp_bk0 T r)
noncomputable def sp_bk1 : (Nat → Int32) → Nat → xTk → (Nat → Int32) → xTk := sq_op sp_bk1_z
theorem sp_bk1_u {f : Nat → Int32} {n : Nat} {T : xTk} {r : Nat → Int32} : sp_bk1 f n T r = sp_adv f n (sp_bk0 T r) := congrFun (congrFun (congrFun (congrFun (sq_op_eq (a := sp_bk1_z)) f) n) T) r
noncomputable def sp_bk2_z (f : Nat → Int32) (n : Nat) (T : xTk) (r : Nat → Int32) : xTk := sp_rnT f n (sp_bk1 f n T r) 0 (r 0 - 1)
noncomputable def sp_bk2 : (Nat → Int32) → Nat → xTk → (Nat → Int32) → xTk := sq_op sp_bk2_z
theorem sp_bk2_u {f : Nat → Int32} {n : Nat} {T : xTk} {r : Nat → Int32} : sp_bk2 f n T r = sp_rnT f n (sp_bk1 f n T r) 0 (r 0 - 1) := congrFun (congrFun (congrFun (congrFun (sq_op_eq (a := sp_bk2_z)) f) n) T) r
noncomputable def sp_bkr_z (f : Nat → Int32) (n : Nat) (T : xTk) (r : Nat → Int32) : Nat → Int32 := if (sp_bk2 f n T r).2.2.2.1 = 0 then sp_addB r (xnk r) (sp_rnV f n (sp_bk1 f n T r) 0 (r 0 - 1)) else r
noncomputable def sp_bkr : (Nat → Int32) → Nat → xTk → (Nat → Int32) → Nat → Int32 := sq_op sp_bkr_z
theorem sp_bkr_u {f : Nat → Int32} {n : Nat} {T : xTk} {r : Nat → Int32} : sp_bkr f n T r = if (sp_bk2 f n T r).2.2.2.1 = 0 then sp_addB r (xnk r) (sp_rnV f n (sp_bk1 f n T r) 0 (r 0 - 1)) else r := congrFun (congrFun (congrFun (congrFun (sq_op_eq (a := sp_bkr_z)) f) n) T) r
noncomputable def sp_book1_z (f : Nat → Int32) (n : Nat) (P : xLk) : xLk := (sp_exp2 f n (sp_bk2 f n P.1 P.2) 59, sp_bkr f n P.1 P.2)
noncomputable def sp_book1 : (Nat → Int32) → Nat → xLk → xLk := sq_op sp_book1_z
theorem sp_book1_u {f : Nat → Int32} {n : Nat} {P : xLk} : sp_book1 f n P = (sp_exp2 f n (sp_bk2 f n P.1 P.2) 59, sp_bkr f n P.1 P.2) := congrFun (congrFun (congrFun (sq_op_eq (a := sp_book1_z)) f) n) P
theorem sp_tw_bk0 {f : Nat → Int32} {n : Nat} {T : xTk} {r : Nat → Int32} (h : sp_tw f n T) : sp_tw f n (sp_bk0 T r) := by
  rw [sp_bk0_u]
  exact sp_tw_check h
theorem sp_tw_bk1 {f : Nat → Int32} {n : Nat} {T : xTk} {r : Nat → Int32} (h : sp_tw f n T) : sp_tw f n (sp_bk1 f n T r) := by
  rw [sp_bk1_u]
  exact sp_tw_adv (sp_tw_bk0 h)
theorem sp_tw_bk2 {f : Nat → Int32} {n : Nat} {T : xTk} {r : Nat → Int32} (h : sp_tw f n T) : sp_tw f n (sp_bk2 f n T r) := by
  rw [sp_bk2_u]
  exact sp_tw_rn (sp_tw_bk1 h)
theorem sp_book1_a {f : Nat → Int32} {n : Nat} {T : xTk} {r : Nat → Int32} : (sp_book1 f n (T, r)).1 = sp_exp2 f n (sp_bk2 f n T r) 59 := congrArg Prod.fst sp_book1_u
theorem sp_book1_b {f : Nat → Int32} {n : Nat} {T : xTk} {r : Nat → Int32} : (sp_book1 f n (T, r)).2 = sp_bkr f n T r := congrArg Prod.snd sp_book1_u
section RB
variable {w : xW} {l : Nat → Nat → Int64} {t : Nat} {sc : xm_Sc} {d n : Nat} {T : xTk} {r f : Nat → Int32}
theorem sp_bk2_ok (hB : xBd r) (h : (sp_bk2 f n T r).2.2.2.1 = 0) : T.2.2.2.1 = 0 ∧ xnk r < 20 ∧ xil (sp_rnV f n (sp_bk1 f n T r) 0 (r 0 - 1)) (xnb r) := by
  rw [sp_bk2_u] at h
  have hb6 := hB.b6
  obtain ⟨h1, h2, h3, h4, h5⟩ := sp_rnT_ok h
  rw [sp_bk1_u] at h1
  rw [sp_adv_err] at h1
  rw [sp_bk0_u] at h1
  obtain ⟨g1, g2, g3⟩ := sp_check_ok (by decide) h1
  refine ⟨g1, Decidable.byContradiction fun z => g2 (if_pos (by omega)), ?_⟩
  rw [h5]
  rw [hB.b] at h3
  exact zrg2 (by omega) h3
theorem sp_book1_ok (hS : kSn r) (hT : sp_tw f n T) : kSn (sp_book1 f n (T, r)).2 ∧ sp_tw f n (sp_book1 f n (T, r)).1 ∧ xnv (sp_book1 f n (T, r)).2 = xnv r ∧ (∀ u, u < 4 → xst (sp_book1 f n (T, r)).2 u = xst r u) ∧ ((sp_book1 f n (T, r)).1.2.2.2.1 = 0 → T.2.2.2.1 = 0 ∧ xnk (sp_book1 f n (T, r)).2 = xnk r + 1) := by
  rw [sp_book1_a, sp_book1_b, sp_bkr_u]
  have hT2 : sp_tw f n (sp_bk2 f n T r) := sp_tw_bk2 hT
  by_cases h : (sp_bk2 f n T r).2.2.2.1 = 0
  · obtain ⟨h1, h2, h3⟩ := sp_bk2_ok hS.1 h
    obtain ⟨a1, a2, a3, a4, a5⟩ := kSn_B hS rfl h2 h3
    rw [if_pos h]
    exact ⟨a1, sp_tw_exp2 hT2, a2, a3, fun _ => ⟨h1, a4⟩⟩
  · rw [if_neg h]
    exact ⟨hS, sp_tw_exp2 hT2, rfl, fun _ _ => rfl, fun z => by rw [sp_exp2_e h] at z; exact absurd z h⟩
end RB
/-! a request -/
noncomputable def sp_ak1_z (f : Nat → Int32) (T : xTk) : xTk := sp_check T (zB (sp_wrd f T 5)) 1
noncomputable def sp_ak1 : (Nat → Int32) → xTk → xTk := sq_op sp_ak1_z
theorem sp_ak1_u {f : Nat → Int32} {T : xTk} : sp_ak1 f T = sp_check T (zB (sp_wrd f T 5)) 1 := congrFun (congrFun (sq_op_eq (a := sp_ak1_z)) f) T
noncomputable def sp_ak2_z (f : Nat → Int32) (T : xTk) (r : Nat → Int32) : xTk := sp_check (sp_ak1 f T) (if (sp_ak1 f T).2.2.2.1 = 0 ∧ 40 ≤ xnq r then 0 else 1) 3
noncomputable def sp_ak2 : (Nat → Int32) → xTk → (Nat → Int32) → xTk := sq_op sp_ak2_z
theorem sp_ak2_u {f : Nat → Int32} {T : xTk} {r : Nat → Int32} : sp_ak2 f T r = sp_check (sp_ak1 f T) (if (sp_ak1 f T).2.2.2.1 = 0 ∧ 40 ≤ xnq r then 0 else 1) 3 := congrFun (congrFun (congrFun (sq_op_eq (a := sp_ak2_z)) f) T) r
noncomputable def sp_ak3_z (f : Nat → Int32) (n : Nat) (T : xTk) (r : Nat → Int32) : xTk := sp_adv f n (sp_ak2 f T r)
noncomputable def sp_ak3 : (Nat → Int32) → Nat → xTk → (Nat → Int32) → xTk := sq_op sp_ak3_z
theorem sp_ak3_u {f : Nat → Int32} {n : Nat} {T : xTk} {r : Nat → Int32} : sp_ak3 f n T r = sp_adv f n (sp_ak2 f T r) := congrFun (congrFun (congrFun (congrFun (sq_op_eq (a := sp_ak3_z)) f) n) T) r
noncomputable def sp_ak4_z (f : Nat → Int32) (n : Nat) (T : xTk) (r : Nat → Int32) : xTk := sp_rnT f n (sp_ak3 f n T r) 0 (r 2 - 1)
noncomputable def sp_ak4 : (Nat → Int32) → Nat → xTk → (Nat → Int32) → xTk := sq_op sp_ak4_z
theorem sp_ak4_u {f : Nat → Int32} {n : Nat} {T : xTk} {r : Nat → Int32} : sp_ak4 f n T r = sp_rnT f n (sp_ak3 f n T r) 0 (r 2 - 1) := congrFun (congrFun (congrFun (congrFun (sq_op_eq (a := sp_ak4_z)) f) n) T) r
noncomputable def sp_akB_z (f : Nat → Int32) (n : Nat) (T : xTk) (r : Nat → Int32) : Int32 := sp_rnV f n (sp_ak3 f n T r) 0 (r 2 - 1)
noncomputable def sp_akB : (Nat → Int32) → Nat → xTk → (Nat → Int32) → Int32 := sq_op sp_akB_z
theorem sp_akB_u {f : Nat → Int32} {n : Nat} {T : xTk} {r : Nat → Int32} : sp_akB f n T r = sp_rnV f n (sp_ak3 f n T r) 0 (r 2 - 1) := congrFun (congrFun (congrFun (congrFun (sq_op_eq (a := sp_akB_z)) f) n) T) r
noncomputable def sp_ak6_z (f : Nat → Int32) (n : Nat) (T : xTk) (r : Nat → Int32) : xTk := sp_rn2 f (sp_ak4 f n T r) 0 99
noncomputable def sp_ak6 : (Nat → Int32) → Nat → xTk → (Nat → Int32) → xTk := sq_op sp_ak6_z
theorem sp_ak6_u {f : Nat → Int32} {n : Nat} {T : xTk} {r : Nat → Int32} : sp_ak6 f n T r = sp_rn2 f (sp_ak4 f n T r) 0 99 := congrFun (congrFun (congrFun (congrFun (sq_op_eq (a := sp_ak6_z)) f) n) T) r
noncomputable def sp_ak7_z (f : Nat → Int32) (n : Nat) (T : xTk) (r : Nat → Int32) : xTk := sp_check (sp_ak6 f n T r) (if (sp_ak6 f n T r).2.2.2.1 = 0 ∧ ¬ sp_by r (sp_akB f n T r) (sp_val f (sp_ak4 f n T r)) = none then 0 else 1) 4
noncomputable def sp_ak7 : (Nat → Int32) → Nat → xTk → (Nat → Int32) → xTk := sq_op sp_ak7_z
theorem sp_ak7_u {f : Nat → Int32} {n : Nat} {T : xTk} {r : Nat → Int32} : sp_ak7 f n T r = sp_check (sp_ak6 f n T r) (if (sp_ak6 f n T r).2.2.2.1 = 0 ∧ ¬ sp_by r (sp_akB f n T r) (sp_val f (sp_ak4 f n T r)) = none then 0 else 1) 4 := congrFun (congrFun (congrFun (congrFun (sq_op_eq (a := sp_ak7_z)) f) n) T) r
noncomputable def sp_akR_z (f : Nat → Int32) (n : Nat) (T : xTk) (r : Nat → Int32) : Int32 := if (sp_ak7 f n T r).2.2.2.1 = 0 then sp_val f (sp_ak4 f n T r) else 0
noncomputable def sp_akR : (Nat → Int32) → Nat → xTk → (Nat → Int32) → Int32 := sq_op sp_akR_z
theorem sp_akR_u {f : Nat → Int32} {n : Nat} {T : xTk} {r : Nat → Int32} : sp_akR f n T r = if (sp_ak7 f n T r).2.2.2.1 = 0 then sp_val f (sp_ak4 f n T r) else 0 := congrFun (congrFun (congrFun (congrFun (sq_op_eq (a := sp_akR_z)) f) n) T) r
noncomputable def sp_ak8_z (f : Nat → Int32) (n : Nat) (T : xTk) (r : Nat → Int32) : xTk := sp_adv f n (sp_ak7 f n T r)
noncomputable def sp_ak8 : (Nat → Int32) → Nat → xTk → (Nat → Int32) → xTk := sq_op sp_ak8_z
theorem sp_ak8_u {f : Nat → Int32} {n : Nat} {T : xTk} {r : Nat → Int32} : sp_ak8 f n T r = sp_adv f n (sp_ak7 f n T r) := congrFun (congrFun (congrFun (congrFun (sq_op_eq (a := sp_ak8_z)) f) n) T) r
noncomputable def sp_ak9_z (f : Nat → Int32) (n : Nat) (T : xTk) (r : Nat → Int32) : xTk := sp_rnT f n (sp_ak8 f n T r) 0 (r 0 - 1)
noncomputable def sp_ak9 : (Nat → Int32) → Nat → xTk → (Nat → Int32) → xTk := sq_op sp_ak9_z
theorem sp_ak9_u {f : Nat → Int32} {n : Nat} {T : xTk} {r : Nat → Int32} : sp_ak9 f n T r = sp_rnT f n (sp_ak8 f n T r) 0 (r 0 - 1) := congrFun (congrFun (congrFun (congrFun (sq_op_eq (a := sp_ak9_z)) f) n) T) r
noncomputable def sp_akW_z (f : Nat → Int32) (n : Nat) (T : xTk) (r : Nat → Int32) : Int32 := sp_rnV f n (sp_ak8 f n T r) 0 (r 0 - 1)
noncomputable def sp_akW : (Nat → Int32) → Nat → xTk → (Nat → Int32) → Int32 := sq_op sp_akW_z
theorem sp_akW_u {f : Nat → Int32} {n : Nat} {T : xTk} {r : Nat → Int32} : sp_akW f n T r = sp_rnV f n (sp_ak8 f n T r) 0 (r 0 - 1) := congrFun (congrFun (congrFun (congrFun (sq_op_eq (a := sp_akW_z)) f) n) T) r
noncomputable def sp_akr_z (f : Nat → Int32) (n : Nat) (T : xTk) (r : Nat → Int32) : Nat → Int32 := if (sp_ak9 f n T r).2.2.2.1 = 0 then sp_addq r (sp_akB f n T r) (sp_akR f n T r) (sp_akW f n T r) else r
noncomputable def sp_akr : (Nat → Int32) → Nat → xTk → (Nat → Int32) → Nat → Int32 := sq_op sp_akr_z
theorem sp_akr_u {f : Nat → Int32} {n : Nat} {T : xTk} {r : Nat → Int32} : sp_akr f n T r = if (sp_ak9 f n T r).2.2.2.1 = 0 then sp_addq r (sp_akB f n T r) (sp_akR f n T r) (sp_akW f n T r) else r := congrFun (congrFun (congrFun (congrFun (sq_op_eq (a := sp_akr_z)) f) n) T) r
noncomputable def sp_ask1_z (f : Nat → Int32) (n : Nat) (P : xLk) : xLk := (sp_exp2 f n (sp_ak9 f n P.1 P.2) 59, sp_akr f n P.1 P.2)
noncomputable def sp_ask1 : (Nat → Int32) → Nat → xLk → xLk := sq_op sp_ask1_z
theorem sp_ask1_u {f : Nat → Int32} {n : Nat} {P : xLk} : sp_ask1 f n P = (sp_exp2 f n (sp_ak9 f n P.1 P.2) 59, sp_akr f n P.1 P.2) := congrFun (congrFun (congrFun (sq_op_eq (a := sp_ask1_z)) f) n) P
theorem sp_val_pos {f : Nat → Int32} {T : xTk} : 0 ≤ sp_val f T := by
  unfold sp_val
  split
  · have := @sp_vl_le f T.2.1.toNatClampNeg (T.1 - T.2.1.toNatClampNeg)
    exact nI_pos' (by omega)
  · decide
theorem sp_tw_ak2 {f : Nat → Int32} {n : Nat} {T : xTk} {r : Nat → Int32} (h : sp_tw f n T) : sp_tw f n (sp_ak2 f T r) := by
  rw [sp_ak2_u, sp_ak1_u]
  exact sp_tw_check (sp_tw_check h)
theorem sp_tw_ak3 {f : Nat → Int32} {n : Nat} {T : xTk} {r : Nat → Int32} (h : sp_tw f n T) : sp_tw f n (sp_ak3 f n T r) := by
  rw [sp_ak3_u]
  exact sp_tw_adv (sp_tw_ak2 h)
theorem sp_tw_ak4 {f : Nat → Int32} {n : Nat} {T : xTk} {r : Nat → Int32} (h : sp_tw f n T) : sp_tw f n (sp_ak4 f n T r) := by
  rw [sp_ak4_u]
  exact sp_tw_rn (sp_tw_ak3 h)
theorem sp_tw_ak6 {f : Nat → Int32} {n : Nat} {T : xTk} {r : Nat → Int32} (h : sp_tw f n T) : sp_tw f n (sp_ak6 f n T r) := by
  rw [sp_ak6_u]
  exact sp_tw_check (sp_tw_check (sp_tw_ak4 h))
theorem sp_tw_ak7 {f : Nat → Int32} {n : Nat} {T : xTk} {r : Nat → Int32} (h : sp_tw f n T) : sp_tw f n (sp_ak7 f n T r) := by
  rw [sp_ak7_u]
  exact sp_tw_check (sp_tw_ak6 h)
theorem sp_tw_ak8 {f : Nat → Int32} {n : Nat} {T : xTk} {r : Nat → Int32} (h : sp_tw f n T) : sp_tw f n (sp_ak8 f n T r) := by
  rw [sp_ak8_u]
  exact sp_tw_adv (sp_tw_ak7 h)
theorem sp_tw_ak9 {f : Nat → Int32} {n : Nat} {T : xTk} {r : Nat → Int32} (h : sp_tw f n T) : sp_tw f n (sp_ak9 f n T r) := by
  rw [sp_ak9_u]
  exact sp_tw_rn (sp_tw_ak8 h)
theorem sp_ask1_a {f : Nat → Int32} {n : Nat} {T : xTk} {r : Nat → Int32} : (sp_ask1 f n (T, r)).1 = sp_exp2 f n (sp_ak9 f n T r) 59 := congrArg Prod.fst sp_ask1_u
theorem sp_ask1_b {f : Nat → Int32} {n : Nat} {T : xTk} {r : Nat → Int32} : (sp_ask1 f n (T, r)).2 = if (sp_ak9 f n T r).2.2.2.1 = 0 then sp_addq r (sp_akB f n T r) (sp_akR f n T r) (sp_akW f n T r) else r := (congrArg Prod.snd sp_ask1_u).trans sp_akr_u
section RA
variable {w : xW} {l : Nat → Nat → Int64} {t : Nat} {sc : xm_Sc} {d n : Nat} {T : xTk} {r f : Nat → Int32}
theorem sp_ak7_ok (h : (sp_ak7 f n T r).2.2.2.1 = 0) : T.2.2.2.1 = 0 ∧ sp_wrd f T 5 ∧ xnq r < 40 ∧ (0 ≤ sp_akB f n T r ∧ sp_akB f n T r ≤ r 2 - 1) ∧ (0 ≤ sp_val f (sp_ak4 f n T r) ∧ sp_val f (sp_ak4 f n T r) ≤ 99) ∧ sp_by r (sp_akB f n T r) (sp_val f (sp_ak4 f n T r)) = none := by
  rw [sp_ak7_u] at h
  obtain ⟨h1, h2, h3⟩ := sp_check_ok (by decide) h
  have h1' := h1
  rw [sp_ak6_u] at h1'
  obtain ⟨k1, k2, k3, k4⟩ := sp_rn2_ok h1'
  rw [sp_ak4_u] at k1
  obtain ⟨g1, g2, g3, g4, g5⟩ := sp_rnT_ok k1
  rw [sp_ak3_u] at g1
  rw [sp_adv_err] at g1
  rw [sp_ak2_u] at g1
  obtain ⟨j1, j2, j3⟩ := sp_check_ok (by decide) g1
  have j1' := j1
  rw [sp_ak1_u] at j1'
  obtain ⟨i1, i2, i3⟩ := sp_check_ok (by decide) j1'
  refine ⟨i1, Decidable.byContradiction fun z => i2 (zB_ff z), Decidable.byContradiction fun z => j2 (if_pos ⟨j1, by omega⟩), ?_, k3, Decidable.byContradiction fun z => h2 (if_pos ⟨h1, z⟩)⟩
  rw [sp_akB_u]
  rw [g5]
  exact g3
theorem sp_ak9_ok (hB : xBd r) (h : (sp_ak9 f n T r).2.2.2.1 = 0) : T.2.2.2.1 = 0 ∧ xnq r < 40 ∧ xil (sp_akB f n T r) (xnk r) ∧ xil (sp_akR f n T r) 100 ∧ xil (sp_akW f n T r) (xnb r) ∧ sp_by r (sp_akB f n T r) (sp_akR f n T r) = none := by
  have hb6 := hB.b6
  have hk20 := hB.k20
  rw [sp_ak9_u] at h
  obtain ⟨h1, h2, h3, h4, h5⟩ := sp_rnT_ok h
  rw [sp_ak8_u] at h1
  rw [sp_adv_err] at h1
  obtain ⟨g1, g2, g3, g4, g5, g6⟩ := sp_ak7_ok h1
  have eR : sp_akR f n T r = sp_val f (sp_ak4 f n T r) := sp_akR_u.trans (if_pos h1)
  rw [eR]
  rw [hB.k] at g4
  rw [hB.b] at h3
  refine ⟨g1, g3, zrg2 (by omega) g4, zrg2 (m := 100) (by omega) ⟨g5.1, Int32.le_trans g5.2 (by decide)⟩, ?_, g6⟩
  rw [sp_akW_u]
  rw [h5]
  exact zrg2 (by omega) h3
theorem sp_ask1_ok (hW : xWF r) (hT : sp_tw f n T) : xWF (sp_ask1 f n (T, r)).2 ∧ sp_tw f n (sp_ask1 f n (T, r)).1 ∧ ((sp_ask1 f n (T, r)).1.2.2.2.1 = 0 → T.2.2.2.1 = 0 ∧ xnq (sp_ask1 f n (T, r)).2 = xnq r + 1) ∧ (∀ i, i ≠ 3 → i < 176 → (sp_ask1 f n (T, r)).2 i = r i) := by
  have hB := hW.bd
  have hT9 : sp_tw f n (sp_ak9 f n T r) := sp_tw_ak9 hT
  rw [sp_ask1_a, sp_ask1_b]
  by_cases h : (sp_ak9 f n T r).2.2.2.1 = 0
  · obtain ⟨h1, h2, h3, h4, h5, h6⟩ := sp_ak9_ok hB h
    rw [if_pos h]
    rw [h3.1] at h6 ⊢
    rw [h5.1]
    refine ⟨xWF_addq hW h2 h3.2 h5.2 h4 h6, sp_tw_exp2 hT9, fun _ => ⟨h1, (kAddq_c hB h2).1⟩, fun i h3 h4 => sp_addq_h h3 (by omega)⟩
  · rw [if_neg h]
    exact ⟨hW, sp_tw_exp2 hT9, fun z => by rw [sp_exp2_e h] at z; exact absurd z h, fun _ _ _ => rfl⟩
end RA
