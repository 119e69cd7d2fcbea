/-! OWN: a van takes in -/
section OE
variable {S : xm_PS} {L : Nat → Nat} {r : Nat → Int32} {x : Int32} {sc : xm_Sc} {d : Nat} {f j : Nat → Int32} {p : Nat}
theorem od_bd (hW : xWF r) (hf : kFar f r) (hI : oI S L r x) {k v b : Nat} {i4 y6 : Int32} (hk : k < xnk r) (hv : v < xnv r) (hb : b < xnb r) (hh : sp_has r v (nI b) = true) : ∃ S', oM S S' L L (if sp_goes f r k v (nI b) = true then sp_put r k 1 (nI v) else r) x 1 (xnk r) ∧
    ((xm_C sc xt_M (d + 3) 169 [.ref (L 0), .int (nI k), .int (nI v), .int (nI b)] S).bind fun o22 => xm_rI o22 (fun n23 S21 => (if n23 = 0 then xm_R sc xt_M (d + 3) 170 306 [.ref (L 0), .int (nI v), .int (nI b), .ref p, .int i4, .int (nI k), .int y6] [] S21 else (xm_gR S21 (L 0) 8 4).bind fun n24 => (xm_aQ S21 n24 5 (nI k)).bind fun n25 => if xm_isO S21 (.ref n25) 9 = true then ((xm_C sc xt_M (d + 3) 176 [.ref n25, .int 1, .int (nI v)] S21).bind fun o27 => xm_r0 o27 (fun S26 => xm_R sc xt_M (d + 3) 170 306 [.ref (L 0), .int (nI v), .int (nI b), .ref p, .int i4, .int (nI k), .int y6] [] S26) (fun e S => some (.inr e, S))) else none)) (fun e S => some (.inr e, S))) = xm_R sc xt_M (d + 3) 170 306 [.ref (L 0), .int (nI v), .int (nI b), .ref p, .int i4, .int (nI k), .int y6] [] S' := by
  have hk20 := hW.bd.k20
  obtain ⟨S1, h1, e1⟩ := @oc_169 S L r x sc d f hW hf hI k v b hk hv hb hh
  have hI1 := hI.nw h1
  rw [e1, zbs, xk_I]
  by_cases c : sp_goes f r k v (nI b) = true
  · rw [zB_tt c, if_pos c, if_neg (show ¬ (1 : Int32) = 0 by decide), hI1.g4, zbs, hI1.books.at hk (by omega), zbs, if_pos (og_O (hI1.th hk)), oc_176 hI1 hk, zbs, xk_v]
    exact ⟨_, (oM.nw hI h1).tr hk20 (hI1.put hW.lt hk (fun i hi => sp_put_o hi)), rfl⟩
  · rw [zB_ff c, if_neg c, if_pos (show (0 : Int32) = 0 from rfl)]
    exact ⟨_, oM.nw hI h1, rfl⟩
/-- one book's boarding -/
theorem od_182 (hW : xWF r) (hf : kFar f r) (hI : oI S L r x) (hA : oA S p 3 (xnk r) j) (h1 : p ≠ L 1) {k v b s : Nat} {v6 : Value} {room : Int32} (hk : k < xnk r) (hv : v < xnv r) (hb : b < xnb r) (hs : s < 3) (hh : sp_has r v (nI b) = true) (hr : room = r (12 + 11 * v) - sp_booksIn r 1 (nI v)) (hn : ¬ room ≤ 0) :
    ∃ S' y6, oM S S' L L (sp_tk1 f j v (nI b) (nI s) k (r, room)).1 x 1 (xnk r) ∧ (sp_tk1 f j v (nI b) (nI s) k (r, room)).2 = (sp_tk1 f j v (nI b) (nI s) k (r, room)).1 (12 + 11 * v) - sp_booksIn (sp_tk1 f j v (nI b) (nI s) k (r, room)).1 1 (nI v) ∧
    xm_R sc xt_M (d + 3) 170 182 [.ref (L 0), .int (nI v), .int (nI b), .ref p, .int (nI s), .int (nI k), v6] [] S = xm_R sc xt_M (d + 3) 170 182 [.ref (L 0), .int (nI v), .int (nI b), .ref p, .int (nI s), .int (nI (k + 1)), y6] [] S' := by
  have hk20 := hW.bd.k20
  have hv4 := hW.bd.v4
  obtain ⟨a, ha, ea⟩ : ∃ a, a < 10 ∧ r (12 + 11 * v) = nI a := ⟨_, (hW.v v hv).1.2, (hW.v v hv).1.1⟩
  obtain ⟨c, hc, ec⟩ : ∃ c, c < 21 ∧ sp_booksIn r 1 (nI v) = nI c := ⟨_, by have := xcnt_le (p := fun k => sp_isIn r 1 k (nI v)) (n := xnk r); omega, xsum_cnt⟩
  have hfull : ¬ nI a ≤ nI c := fun z => hn (by rw [hr, ea, ec]; exact (oFull a ha c hc).mp z)
  have self : oM S S L L r x 1 (xnk r) := oM.nw hI (oF.rf.mo (by omega) (fun _ _ _ => id))
  have no : ¬ sp_tkc f j v (nI b) (nI s) k (r, room) → sp_tk1 f j v (nI b) (nI s) k (r, room) = (r, room) := fun h => if_neg h
  rw [yb_170_182, hI.g4, zbs, hI.books.len (by decide), zbs, if_neg (nI_ge (by omega) (by omega)), if_pos hI.is, oc_167 hW hI, zbs, xk_I, hI.g1, zbs, hI.rooms.at hv (by omega), zbs, ea, ec, if_neg hfull, hI.g4, zbs, hI.books.at hk (by omega), zbs, hI.t0 hk, zbs]
  by_cases c1 : r (56 + 6 * k) = 0
  · rw [if_pos c1, zbs, hI.books.at hk (by omega), zbs, hI.t1 hk, zbs]
    by_cases c2 : r (57 + 6 * k) = nI b
    · rw [if_pos c2, hA.at hk (by omega), zbs]
      by_cases c3 : j k = 0
      · rw [if_pos c3, zbs, hI.books.at hk (by omega), zbs, hI.t5 hk, zbs]
        -- the sort is right: it boards, or not
        have yes : sp_class r k = nI s → ∀ y6 : Int32, ∃ S' y6', oM S S' L L (sp_tk1 f j v (nI b) (nI s) k (r, room)).1 x 1 (xnk r) ∧ (sp_tk1 f j v (nI b) (nI s) k (r, room)).2 = (sp_tk1 f j v (nI b) (nI s) k (r, room)).1 (12 + 11 * v) - sp_booksIn (sp_tk1 f j v (nI b) (nI s) k (r, room)).1 1 (nI v) ∧
            ((xm_C sc xt_M (d + 3) 169 [.ref (L 0), .int (nI k), .int (nI v), .int (nI b)] S).bind fun o22 => xm_rI o22 (fun n23 S21 => (if n23 = 0 then xm_R sc xt_M (d + 3) 170 306 [.ref (L 0), .int (nI v), .int (nI b), .ref p, .int (nI s), .int (nI k), .int y6] [] S21 else (xm_gR S21 (L 0) 8 4).bind fun n24 => (xm_aQ S21 n24 5 (nI k)).bind fun n25 => if xm_isO S21 (.ref n25) 9 = true then ((xm_C sc xt_M (d + 3) 176 [.ref n25, .int 1, .int (nI v)] S21).bind fun o27 => xm_r0 o27 (fun S26 => xm_R sc xt_M (d + 3) 170 306 [.ref (L 0), .int (nI v), .int (nI b), .ref p, .int (nI s), .int (nI k), .int y6] [] S26) (fun e S => some (.inr e, S))) else none)) (fun e S => some (.inr e, S))) = xm_R sc xt_M (d + 3) 170 182 [.ref (L 0), .int (nI v), .int (nI b), .ref p, .int (nI s), .int (nI (k + 1)), y6'] [] S' := by
          intro hs1 y6
          obtain ⟨S', m1, e1⟩ := @od_bd S L r x sc d f p hW hf hI k v b (nI s) y6 hk hv hb hh
          refine ⟨S', .int y6, ?_⟩
          rw [e1, yb_170_306, ← nI_succ]
          by_cases c5 : sp_goes f r k v (nI b) = true
          · rw [if_pos c5] at m1
            have e2 : sp_tk1 f j v (nI b) (nI s) k (r, room) = (sp_put r k 1 (nI v), room + (-1)) := if_pos ⟨hn, ⟨c1, c2⟩, c3, hs1, c5⟩
            rw [e2]
            refine ⟨m1, ?_, rfl⟩
            dsimp only
            rw [oIn1 hk (by omega) (by rw [c1]; decide), sp_put_h (by omega) (by omega), oRoom, hr]
          · rw [if_neg c5] at m1
            rw [no (fun z => c5 z.2.2.2.2)]
            exact ⟨m1, hr, rfl⟩
        have nop : ¬ sp_class r k = nI s → ∀ y6 : Int32, ∃ S' y6', oM S S' L L (sp_tk1 f j v (nI b) (nI s) k (r, room)).1 x 1 (xnk r) ∧ (sp_tk1 f j v (nI b) (nI s) k (r, room)).2 = (sp_tk1 f j v (nI b) (nI s) k (r, room)).1 (12 + 11 * v) - sp_booksIn (sp_tk1 f j v (nI b) (nI s) k (r, room)).1 1 (nI v) ∧
            xm_R sc xt_M (d + 3) 170 306 [.ref (L 0), .int (nI v), .int (nI b), .ref p, .int (nI s), .int (nI k), .int y6] [] S = xm_R sc xt_M (d + 3) 170 182 [.ref (L 0), .int (nI v), .int (nI b), .ref p, .int (nI s), .int (nI (k + 1)), y6'] [] S' := by
          intro hs1 y6
          refine ⟨S, .int y6, ?_⟩
          rw [yb_170_306, ← nI_succ, no (fun z => hs1 z.2.2.2.1)]
          exact ⟨self, hr, rfl⟩
        rcases (hW.k k hk).2.2.1 with c4 | c4
        · rw [if_pos c4, if_pos hI.is, oc_160 hW hI, zbs, xk_I]
          cases ef : sp_first r (nI k) with
          | none =>
            have hcl : sp_class r k = 2 := by
              unfold sp_class
              rw [if_neg (by rw [c4]; decide), if_pos ef]
            rw [if_pos (show toJ none < 0 by decide)]
            by_cases c5 : (2 : Int32) = nI s
            · rw [if_pos c5, if_pos hI.is]
              exact yes (hcl.trans c5) 2
            · rw [if_neg c5]
              exact nop (fun z => c5 (hcl.symm.trans z)) 2
          | some q =>
            have hq := sp_first_lt ef
            have hq40 := hW.bd.q40
            have hcl : sp_class r k = 1 := by
              unfold sp_class
              rw [if_neg (by rw [c4]; decide), if_neg (by rw [ef]; exact fun z => nomatch z)]
            rw [if_neg (show ¬ toJ (some q) < 0 from nI_pos (by omega))]
            by_cases c5 : (1 : Int32) = nI s
            · rw [if_pos c5, if_pos hI.is]
              exact yes (hcl.trans c5) 1
            · rw [if_neg c5]
              exact nop (fun z => c5 (hcl.symm.trans z)) 1
        · have hcl : sp_class r k = 0 := by
            unfold sp_class
            rw [if_pos c4]
          rw [if_neg (by rw [c4]; decide)]
          by_cases c5 : (0 : Int32) = nI s
          · rw [if_pos c5, if_pos hI.is]
            exact yes (hcl.trans c5) 0
          · rw [if_neg c5]
            exact nop (fun z => c5 (hcl.symm.trans z)) 0
      · rw [if_neg c3, no (fun z => c3 z.2.2.1), yb_170_306, ← nI_succ]
        exact ⟨S, v6, self, hr, rfl⟩
    · rw [if_neg c2, no (fun z => c2 z.2.1.2), yb_170_306, ← nI_succ]
      exact ⟨S, v6, self, hr, rfl⟩
  · rw [if_neg c1, no (fun z => c1 z.2.1.1), yb_170_306, ← nI_succ]
    exact ⟨S, v6, self, hr, rfl⟩
/-- one sort -/
theorem od_sort {r0 : Nat → Int32} (hW0 : xWF r0) (hf : kFar f r0) (h1 : p ≠ L 1) {v b s : Nat} (hv : v < xnv r0) (hb : b < xnb r0) (hs : s < 3) (hh : sp_has r0 v (nI b) = true) : ∀ m k S (u : (Nat → Int32) × Int32) v6, k + m = xnk r0 → xWF u.1 → xhd r0 u.1 → oI S L u.1 x → oA S p 3 (xnk r0) j → u.2 = u.1 (12 + 11 * v) - sp_booksIn u.1 1 (nI v) →
    ∃ S' y5 y6, oI S' L (xfm (fun k u => sp_tk1 f j v (nI b) (nI s) k u) k m u).1 x ∧ oA S' p 3 (xnk r0) j ∧ oF S S' m (oW L (xnk r0)) ∧
    (xfm (fun k u => sp_tk1 f j v (nI b) (nI s) k u) k m u).2 = (xfm (fun k u => sp_tk1 f j v (nI b) (nI s) k u) k m u).1 (12 + 11 * v) - sp_booksIn (xfm (fun k u => sp_tk1 f j v (nI b) (nI s) k u) k m u).1 1 (nI v) ∧
    xm_R sc xt_M (d + 3) 170 182 [.ref (L 0), .int (nI v), .int (nI b), .ref p, .int (nI s), .int (nI k), v6] [] S = xm_R sc xt_M (d + 3) 170 173 [.ref (L 0), .int (nI v), .int (nI b), .ref p, .int (nI (s + 1)), y5, y6] [] S' := by
  have hk20 := hW0.bd.k20
  have hv4 := hW0.bd.v4
  intro m
  induction m with
  | zero =>
    intro k S u v6 hk hW hd hI hA hr
    have e : k = xnk r0 := by omega
    subst e
    refine ⟨S, .int (nI (xnk r0)), v6, hI, hA, oF.rf, hr, ?_⟩
    rw [yb_170_182, hI.g4, zbs, hI.books.len (by decide), zbs, hd.k, if_pos (nI_le (Nat.le_refl _) (by omega)), yb_170_312, ← nI_succ]
  | succ m ih =>
    intro k S u v6 hk hW hd hI hA hr
    have ek := hd.k
    by_cases hn : u.2 ≤ 0
    · rw [xfm_stop hn]
      obtain ⟨a, ha, ea⟩ : ∃ a, a < 10 ∧ u.1 (12 + 11 * v) = nI a := ⟨_, (hW.v v (by rw [hd.v]; exact hv)).1.2, (hW.v v (by rw [hd.v]; exact hv)).1.1⟩
      obtain ⟨c, hc, ec⟩ : ∃ c, c < 21 ∧ sp_booksIn u.1 1 (nI v) = nI c := ⟨_, by have := xcnt_le (p := fun k => sp_isIn u.1 1 k (nI v)) (n := xnk u.1); omega, xsum_cnt⟩
      have hfull : nI a ≤ nI c := (oFull a ha c hc).mpr (by rw [← ea, ← ec, ← hr]; exact hn)
      refine ⟨S, .int (nI k), v6, hI, hA, oF.rf.mo (by omega) (fun _ _ _ => id), hr, ?_⟩
      rw [yb_170_182, hI.g4, zbs, hI.books.len (by decide), zbs, if_neg (nI_ge (by omega) (by omega)), if_pos hI.is, oc_167 hW hI, zbs, xk_I, hI.g1, zbs, hI.rooms.at (by rw [hd.v]; exact hv) (by rw [hd.v]; omega), zbs, ea, ec, if_pos hfull, yb_170_312, ← nI_succ]
    · have hA' : oA S p 3 (xnk u.1) j := by rw [ek]; exact hA
      obtain ⟨S', y6, m1, m2, m3⟩ := @od_182 S L u.1 x sc d f j p hW (kFar_geo hW0.lt hd.geo hf) hI hA' h1 k v b s v6 u.2 (by omega) (by rw [hd.v]; exact hv) (by rw [hd.b]; exact hb) hs (by rw [hd.geo.has (by omega) (hW0.st9 hv)]; exact hh) hr hn
      obtain ⟨g1, g2⟩ := @sp_tk1_ok f j r0 v k (nI b) (nI s) u hW hd hv (by omega)
      rw [ek] at m1
      have hA1 : oA S' p 3 (xnk r0) j := by
        have z := oW_p hI hA.kd h1
        rw [ek] at z
        exact hA.fr m1.2.1 z
      obtain ⟨T, z5, z6, t1, t2, t3, t4, t5⟩ := ih (k + 1) S' (sp_tk1 f j v (nI b) (nI s) k u) y6 (by omega) g1 g2 m1.1 hA1 m2
      exact ⟨T, z5, z6, t1, t2, (m1.2.1.tr t3).mo (by omega) (fun _ _ _ => id), t4, m3.trans t5⟩
/-- the three sorts -/
theorem od_take {r0 : Nat → Int32} (hW0 : xWF r0) (hf : kFar f r0) (h1 : p ≠ L 1) {v b : Nat} (hv : v < xnv r0) (hb : b < xnb r0) (hh : sp_has r0 v (nI b) = true) {S : xm_PS} (hI : oI S L r0 x) (hA : oA S p 3 (xnk r0) j) {v5 v6 : Value} :
    ∃ S', oI S' L (sp_take f j v (nI b) r0) x ∧ oF S S' (3 * xnk r0) (oW L (xnk r0)) ∧ xm_R sc xt_M (d + 3) 170 173 [.ref (L 0), .int (nI v), .int (nI b), .ref p, .int (nI 0), v5, v6] [] S = some (.inl none, S') := by
  have stp : ∀ s S v5 v6, s < 3 → oI S L (sp_takeU f j v (nI b) r0 s).1 x → oA S p 3 (xnk r0) j → (sp_takeU f j v (nI b) r0 s).2 = (sp_takeU f j v (nI b) r0 s).1 (12 + 11 * v) - sp_booksIn (sp_takeU f j v (nI b) r0 s).1 1 (nI v) → ∃ S' y5 y6, oI S' L (sp_takeU f j v (nI b) r0 (s + 1)).1 x ∧ oA S' p 3 (xnk r0) j ∧ oF S S' (xnk r0) (oW L (xnk r0)) ∧ (sp_takeU f j v (nI b) r0 (s + 1)).2 = (sp_takeU f j v (nI b) r0 (s + 1)).1 (12 + 11 * v) - sp_booksIn (sp_takeU f j v (nI b) r0 (s + 1)).1 1 (nI v) ∧
      xm_R sc xt_M (d + 3) 170 173 [.ref (L 0), .int (nI v), .int (nI b), .ref p, .int (nI s), v5, v6] [] S = xm_R sc xt_M (d + 3) 170 173 [.ref (L 0), .int (nI v), .int (nI b), .ref p, .int (nI (s + 1)), y5, y6] [] S' := by
    intro s S v5 v6 hs hI hA hr
    obtain ⟨g1, g2⟩ := @sp_takeU_ok f j r0 v (nI b) hW0 hv s
    obtain ⟨S', y5, y6, q1, q2, q3, q4, q5⟩ := @od_sort L x sc d f j p r0 hW0 hf h1 v b s hv hb hs hh (xnk r0) 0 S (sp_takeU f j v (nI b) r0 s) v6 (Nat.zero_add _) g1 g2 hI hA hr
    refine ⟨S', y5, y6, q1, q2, q3, q4, ?_⟩
    rw [nI_0] at q5
    rw [yb_170_173, if_neg (fun z => by
      have : s = 0 ∨ s = 1 ∨ s = 2 := by omega
      rcases this with e | e | e <;> subst e <;> exact absurd z (by decide)), q5]
  obtain ⟨S1, a5, a6, p1, p2, p3, p4, p5⟩ := stp 0 S v5 v6 (by omega) hI hA rfl
  obtain ⟨S2, b5, b6, q1, q2, q3, q4, q5⟩ := stp 1 S1 a5 a6 (by omega) p1 p2 p4
  obtain ⟨S3, c5, c6, s1, s2, s3, s4, s5⟩ := stp 2 S2 b5 b6 (by omega) q1 q2 q4
  refine ⟨S3, s1, ((p3.tr q3).tr s3).mo (by omega) (fun _ _ _ => id), ?_⟩
  rw [p5, q5, s5, yb_170_173, if_pos (show (3 : Int32) ≤ nI (2 + 1) by decide)]
theorem oc_170 (hW : xWF r) (hf : kFar f r) (hI : oI S L r x) {v : Nat} (hv : v < xnv r) : ∃ S', xm_C sc xt_M (d + 4) 170 [.ref (L 0), .int (nI v)] S = some (.inl none, S') ∧ oM S S' L L (sp_drive f v (r, j)).1 x (1 + 6 * xnk r) (xnk r) := by
  have hv4 := hW.bd.v4
  have hb6 := hW.bd.b6
  have hk20 := hW.bd.k20
  obtain ⟨p1, p2, p3, p4, p5⟩ := hW.v v hv
  have h9 := hW.st9 hv
  obtain ⟨q, hq, eq⟩ : ∃ q, q < xst r v ∧ r (14 + 11 * v) = nI q := ⟨_, p4.2, p4.1⟩
  have hm : ((r (14 + 11 * v)).toNatClampNeg + 1) % xst r v < xst r v := Nat.mod_lt _ (by have : 2 ≤ xst r v := p3; omega)
  have epm : (q + 1) % xst r v = ((r (14 + 11 * v)).toNatClampNeg + 1) % xst r v := by rw [eq, nI_clamp (by omega)]
  have ez := zmod (q + 1) (by omega) (xst r v) h9 (by have : 2 ≤ xst r v := p3; omega)
  rw [epm] at ez
  obtain ⟨b, hb, eb⟩ := kRt_at hW hv hm
  unfold sp_drive sp_at1
  dsimp only
  generalize ((r (14 + 11 * v)).toNatClampNeg + 1) % xst r v = m at *
  obtain ⟨S7, ew, m7⟩ := @oI.at1 S L r x hW hI v (nI m) hv
  have hW1 : xWF (upd r (14 + 11 * v) (nI m)) := xWF_at hW hv (xil_nI hm (by omega))
  have en : ∀ i, i ≠ 14 + 11 * v → upd r (14 + 11 * v) (nI m) i = r i := fun i hi => zun hi
  have geo : kGeo r (upd r (14 + 11 * v) (nI m)) := kGeo_head (fun i _ _ _ _ h => en i (h v (by omega)))
  have e2 : xnk (upd r (14 + 11 * v) (nI m)) = xnk r := by unfold xnk; rw [en 2 (by omega)]
  have eat : upd r (14 + 11 * v) (nI m) (14 + 11 * v) = nI m := zu1
  have ebr : upd r (14 + 11 * v) (nI m) (15 + 11 * v + m) = nI b := by rw [en _ (by omega)]; exact eb
  have est : xst (upd r (14 + 11 * v) (nI m)) v = xst r v := geo.st (by omega)
  have exop : xop (upd r (14 + 11 * v) (nI m)) (nI b) = (upd r (14 + 11 * v) (nI m) (6 + b) = 1) := by unfold xop; rw [nI_clamp (by omega)]
  have hf1 : kFar f (upd r (14 + 11 * v) (nI m)) := kFar_geo hW.lt geo hf
  have hh1 : sp_has (upd r (14 + 11 * v) (nI m)) v (nI b) = true := sp_has_iff.mpr ⟨m, by rw [est]; exact hm, ebr⟩
  have hv1 : v < xnv (upd r (14 + 11 * v) (nI m)) := by rw [geo.nv]; exact hv
  have hb1 : b < xnb (upd r (14 + 11 * v) (nI m)) := by rw [geo.nb]; exact hb
  have hm1 : m < xst (upd r (14 + 11 * v) (nI m)) v := by rw [est]; exact hm
  generalize upd r (14 + 11 * v) (nI m) = r1 at *
  have hv41 := hW1.bd.v4
  have hb61 := hW1.bd.b6
  have hk201 := hW1.bd.k20
  have exop2 : xop r1 (r (15 + 11 * v + m)) ↔ r1 (6 + b) = 1 := by rw [eb, exop]
  have hI7 := m7.1
  have head : ∀ K : Option xm_O, (if r1 (6 + b) = 0 then some (.inl none, S7) else (xm_gR S7 (L 0) 8 4).bind fun n15 => (xm_len S7 n15).bind fun n16 => (if n16 < 0 then none else if n16.toNatClampNeg ≤ 1000000 then xm_push S7 (.inl (3, n16.toNatClampNeg, .inl fun _ => 0)) fun p17 S18 => xm_R sc xt_M (d + 3) 170 57 [.ref (L 0), .int (nI v), .int (nI b), .ref p17, .int 0, .null, .null] [] S18 else none)) = K → xm_C sc xt_M (d + 4) 170 [.ref (L 0), .int (nI v)] S = K := by
    intro K hK
    rw [yc_170, hI.g3, zbs, zbs, hI.ats.at hv (by omega), zbs, hI.g2, zbs, hI.routes.at hv (by omega), zbs, (hI.route hv).len (by decide), zbs, if_neg (nI_ne0 (by have : 2 ≤ xst r v := p3; omega) (by omega)), eq, ← nI_succ, ez, ew, zbs, hI7.g2, zbs, hI7.routes.at hv1 (by omega), zbs, hI7.g3, zbs, hI7.ats.at hv1 (by omega), zbs, eat, (hI7.route hv1).at hm1 (by omega), zbs, ebr, hI7.g0, zbs, hI7.op.at hb1 (by omega), zbs]
    exact hK
  by_cases ho : r1 (6 + b) = 1
  · rw [if_pos (exop2.mpr ho), eb]
    have hF8 : oF S7 (oP S7 (.inl (3, xnk r1, .inl fun _ => 0))) 1 oN := oF_P (by show xnk r1 ≤ 50; omega)
    have hI8 := hI7.nw hF8
    have hA8 : oA (oP S7 (.inl (3, xnk r1, .inl fun _ => 0))) S7.2.2.length 3 (xnk r1) (fun _ => 0) := ⟨_, oP_at, fun _ _ => rfl⟩
    have hp1 : S7.2.2.length ≠ L 1 := by have := hI7.op.lt; omega
    obtain ⟨S9, y5, y6, u1, u2, u3, u4⟩ := @od_unl L x sc (d + 1) f S7.2.2.length r1 j hW1 hf1 hp1 v b hv1 hb1 hh1 (xnk r1) 0 (oP S7 (.inl (3, xnk r1, .inl fun _ => 0))) .null .null (Nat.zero_add _) hI8 (hA8.cg (fun i _ => if_neg (Nat.not_lt_zero i)))
    obtain ⟨g1, g2⟩ := @sp_unl_ok f r1 j v (nI b) hW1 (xil_nI hb1 (by omega)) (xnk r1) (Nat.le_refl _)
    rw [← e2]
    have ek := g2.k
    obtain ⟨S10, t1, t2, t3⟩ := @od_take L x sc d f (sp_unl f v (nI b) (r1, j) (xnk r1)).2 S7.2.2.length _ g1 (kFar_geo hW1.lt g2.geo hf1) hp1 v b (by rw [g2.v]; exact hv1) (by rw [g2.b]; exact hb1) (by rw [g2.geo.has (by omega) (by rw [est]; exact h9)]; exact hh1) S9 u1 (by rw [ek]; exact u2) y5 y6
    rw [ek] at t2
    rw [nI_0] at u4
    refine ⟨S10, head _ ?_, t1, ?_, fun _ _ _ => rfl, fun _ _ h => h⟩
    · rw [if_neg (by rw [ho]; decide), hI7.g4, zbs, hI7.books.len (by decide), zbs, if_neg (nI_pos (by omega)), nI_clamp (by omega), if_pos (by omega), oP_eq hI7.fl hI7.f0]
      exact u4.trans t3
    · have m72 := m7.2.1
      rw [← e2] at m72
      exact ((m72.tr (((hF8.nw (Nat.le_refl _)).tr2 u3 (fun h c hc z => z.elim id (fun e => absurd (os_lt hc) (by omega)))).tr t2))).mo (by omega) (fun _ _ _ => id)
  · rw [if_neg (fun z => ho (exop2.mp z))]
    have h0 : r1 (6 + b) = 0 := (hW1.o b (by omega)).elim id (fun z => absurd z ho)
    refine ⟨S7, head _ (by rw [if_pos h0]), ?_⟩
    exact m7.mo (by omega)
end OE
