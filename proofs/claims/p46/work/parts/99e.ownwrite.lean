/-! OWN: what writes -/
def oW (L : Nat → Nat) (n : Nat) (h : Nat) : Prop := h = L 0 ∨ h = L 1 ∨ h = L 4 ∨ ∃ k, k < n ∧ h = L (30 + k)
def oM (S S' : xm_PS) (L L' : Nat → Nat) (r' : Nat → Int32) (x' : Int32) (m n : Nat) : Prop := oI S' L' r' x' ∧ oF S S' m (oW L n) ∧ (∀ a, a < 100 → a ≠ 6 → L' a = L a) ∧ ∀ B, B ≤ S.2.2.length → (∀ a, B ≤ L a) → ∀ a, B ≤ L' a
theorem oM.tr {S S1 S2 : xm_PS} {L L1 L2 : Nat → Nat} {r1 r2 : Nat → Int32} {x1 x2 : Int32} {m m' n : Nat} (hn : n ≤ 20) (h : oM S S1 L L1 r1 x1 m n) (g : oM S1 S2 L1 L2 r2 x2 m' n) : oM S S2 L L2 r2 x2 (m + m') n := by
  obtain ⟨a1, a2, a3, a4⟩ := h
  obtain ⟨b1, b2, b3, b4⟩ := g
  have e : oW L1 n = oW L n := by
    funext z
    unfold oW
    rw [a3 0 (by omega) (by omega), a3 1 (by omega) (by omega), a3 4 (by omega) (by omega)]
    refine propext ⟨?_, ?_⟩
    · rintro (z | z | z | ⟨k, hk, z⟩)
      · exact Or.inl z
      · exact Or.inr (Or.inl z)
      · exact Or.inr (Or.inr (Or.inl z))
      · exact Or.inr (Or.inr (Or.inr ⟨k, hk, by rw [z, a3 _ (by omega) (by omega)]⟩))
    · rintro (z | z | z | ⟨k, hk, z⟩)
      · exact Or.inl z
      · exact Or.inr (Or.inl z)
      · exact Or.inr (Or.inr (Or.inl z))
      · exact Or.inr (Or.inr (Or.inr ⟨k, hk, by rw [z, a3 _ (by omega) (by omega)]⟩))
  rw [e] at b2
  exact ⟨b1, a2.tr b2, fun a ha h6 => (b3 a ha h6).trans (a3 a ha h6), fun B hB hL => b4 B (Nat.le_trans hB a2.2.1) (a4 B hB hL)⟩
theorem oM.mo {S S' : xm_PS} {L L' : Nat → Nat} {r' : Nat → Int32} {x' : Int32} {m m' n : Nat} (h : oM S S' L L' r' x' m n) (hm : m ≤ m') : oM S S' L L' r' x' m' n := ⟨h.1, h.2.1.mo hm (fun _ _ _ => id), h.2.2⟩
theorem oM.nw {S S' : xm_PS} {L : Nat → Nat} {r : Nat → Int32} {x : Int32} {m n : Nat} (hI : oI S L r x) (h : oF S S' m oN) : oM S S' L L r x m n := ⟨hI.nw h, h.nw (Nat.le_refl _), fun _ _ _ => rfl, fun _ _ h => h⟩
def oKd (S : xm_PS) (h i : Nat) : Prop := ∃ c, S.2.2[h]? = some c ∧ oK c = i
theorem oKd.ne {S : xm_PS} {h h' i j : Nat} (a : oKd S h i) (b : oKd S h' j) (hn : i ≠ j) : h ≠ h' := by
  obtain ⟨c, c1, c2⟩ := a
  obtain ⟨e, e1, e2⟩ := b
  exact oK_ne c1 e1 (by rw [c2, e2]; exact hn)
theorem oA.kd {S : xm_PS} {h t n : Nat} {g : Nat → Int32} (a : oA S h t n g) : oKd S h t := by
  obtain ⟨f, c, _⟩ := a
  exact ⟨_, c, rfl⟩
theorem oQ.kd {S : xm_PS} {h t n : Nat} {g : Nat → Nat} (a : oQ S h t n g) : oKd S h (40 + t) := by
  obtain ⟨f, c, _⟩ := a
  exact ⟨_, c, rfl⟩
section OW
variable {S S' : xm_PS} {L : Nat → Nat} {r r' : Nat → Int32} {x x' : Int32} {sc : xm_Sc} {d m : Nat}
theorem oI.k0 (hI : oI S L r x) : oKd S (L 0) 108 := ⟨_, hI.e, rfl⟩
theorem oI.kt (hI : oI S L r x) {k : Nat} (hk : k < xnk r) : oKd S (L (30 + k)) 109 := ⟨_, hI.th hk, rfl⟩
theorem oI.tne (hI : oI S L r x) {j k : Nat} (hj : j < xnk r) (hk : k < xnk r) (hn : j ≠ k) : L (30 + j) ≠ L (30 + k) := by
  by_cases h : j < k
  · exact hI.2.2.2.1 j k h hk
  · exact fun e => hI.2.2.2.1 k j (by omega) hj e.symm
theorem oI.bld {W : Nat → Prop} (hI : oI S L r x) (hF : oF S S' m W) (n0 : xnb r' = xnb r) (n1 : xnv r' = xnv r) (n2 : xnk r' = xnk r) (n3 : xnq r' = xnq r) (ns : ∀ v, v < xnv r → xst r' v = xst r v)
    (h0 : S'.2.2[L 0]? = some (.inr (8, oEf L r' x'))) (h1 : oA S' (L 1) 3 (xnb r) (fun b => r' (6 + b))) (h4 : oA S' (L 4) 0 (xnv r) (fun v => r' (14 + 11 * v))) (ht : ∀ k, k < xnk r → S'.2.2[L (30 + k)]? = some (.inr (9, oTh r' k)))
    (w2 : ¬ W (L 2)) (w3 : ¬ W (L 3)) (w5 : ¬ W (L 5)) (w6 : ¬ W (L 6)) (wv : ∀ v, v < xnv r → ¬ W (L (20 + v))) (wq : ∀ q, q < xnq r → ¬ W (L (100 + q)))
    (e12 : ∀ v, v < xnv r → r' (12 + 11 * v) = r (12 + 11 * v)) (e15 : ∀ v s, v < xnv r → s < xst r v → r' (15 + 11 * v + s) = r (15 + 11 * v + s)) (e176 : ∀ q i, q < xnq r → i < 3 → r' (176 + 3 * q + i) = r (176 + 3 * q + i)) : oI S' L r' x' := by
  obtain ⟨⟨⟨a1, a2⟩, a3⟩, ⟨b1, b2, b3, b4, b5, b6⟩, ⟨c1, c2, c3⟩, d1, d2, d3, d4⟩ := hI
  refine ⟨⟨⟨hF.1.1.trans a1, hF.1.2.trans a2⟩, h0⟩, ⟨?_, ?_, ?_, ?_, ?_, ?_⟩, ⟨fun v hv => ?_, fun k hk => ?_, fun q hq => ?_⟩, fun j k hj hk => ?_, d2, fun v hv => ?_, fun q hq => ?_⟩
  · rw [n0]; exact h1
  · rw [n1]; exact (b2.fr hF w2).cg e12
  · rw [n1]; exact b3.fr hF w3
  · rw [n1]; exact h4
  · rw [n2]; exact b5.fr hF w5
  · rw [n3]; exact b6.fr hF w6
  · rw [n1] at hv
    rw [ns v hv]
    exact ((c1 v hv).fr hF (wv v hv)).cg (fun s hs => e15 v s hv hs)
  · rw [n2] at hk; exact ht k hk
  · rw [n3] at hq
    exact ((c3 q hq).fr hF (wq q hq)).cg (fun i hi => e176 q i hq hi)
  · rw [n2] at hk; exact d1 j k hj hk
  · rw [n1] at hv; exact d3 v hv
  · rw [n3] at hq; exact d4 q hq
theorem oS_get {h : Nat} {c0 c : xm_PC} (hc : S.2.2[h]? = some c0) : (xm_set S h c).2.2[h]? = some c := os_same (os_lt hc)
theorem oEf_cg {x : Int32} (h4 : r' 4 = r 4) (h5 : r' 5 = r 5) : oEf L r' x = oEf L r x := by unfold oEf; rw [h4, h5]
theorem oTh_cg {k : Nat} (h : ∀ i, 56 + 6 * k ≤ i → i < 62 + 6 * k → r' i = r i) : oTh r' k = oTh r k := by
  unfold oTh
  rw [h _ (by omega) (by omega), h (57 + 6 * k) (by omega) (by omega), h (58 + 6 * k) (by omega) (by omega), h (59 + 6 * k) (by omega) (by omega), h (60 + 6 * k) (by omega) (by omega), h (61 + 6 * k) (by omega) (by omega)]
/-- a book's cell -/
theorem oI.put (hB : xLt r) (hI : oI S L r x) {k : Nat} (hk : k < xnk r) (e : ∀ i, i < 56 + 6 * k ∨ 62 + 6 * k ≤ i → r' i = r i) : oM S (xm_set S (L (30 + k)) (.inr (9, oTh r' k))) L L r' x 0 (xnk r) := by
  have hv4 := hB.bd.v4
  have hk20 := hB.bd.k20
  have hb6 := hB.bd.b6
  have hF : oF S (xm_set S (L (30 + k)) (.inr (9, oTh r' k))) 0 (fun z => z = L (30 + k)) := oF_S (hI.th hk) rfl rfl
  have ek := hI.kt hk
  refine ⟨?_, hF.mo (Nat.le_refl _) (fun h c _ z => Or.inr (Or.inr (Or.inr ⟨k, hk, z⟩))), fun _ _ _ => rfl, fun _ _ h => h⟩
  refine hI.bld hF (by unfold xnb; rw [e 0 (by omega)]) (by unfold xnv; rw [e 1 (by omega)]) (by unfold xnk; rw [e 2 (by omega)]) (by unfold xnq; rw [e 3 (by omega)]) (fun v hv => by unfold xst; rw [e _ (by omega)]) ?_ ?_ ?_ (fun j hj => ?_) (hI.rooms.kd.ne ek (by decide)) (hI.routes.kd.ne ek (by decide)) (hI.books.kd.ne ek (by decide)) (hI.asks.kd.ne ek (by decide)) (fun v hv => (hI.route hv).kd.ne ek (by decide)) (fun q hq => (hI.ask hq).kd.ne ek (by decide)) (fun v hv => e _ (by omega)) (fun v s hv hs => e _ (by have := hB.st9 hv; omega)) (fun q i _ _ => e _ (by omega))
  · rw [oEf_cg (e 4 (by omega)) (e 5 (by omega))]
    exact hF.2.2.2.2 _ _ hI.e (hI.k0.ne ek (by decide))
  · exact (hI.op.fr hF (hI.op.kd.ne ek (by decide))).cg (fun b hb => e _ (by omega))
  · exact (hI.ats.fr hF (hI.ats.kd.ne ek (by decide))).cg (fun v hv => e _ (by omega))
  · by_cases ej : j = k
    · subst ej
      exact oS_get (hI.th hj)
    · rw [oTh_cg (k := j) (r := r) (fun i h1 h2 => e i (by omega))]
      exact hF.2.2.2.2 _ _ (hI.th hj) (hI.tne hj hk ej)
theorem oTh_put {k : Nat} {st pl : Int32} : oTh (sp_put r k st pl) k = (((((oTh r k).set 0 (.int st)).set 1 (.int pl)).set 3 (.int (-1))).set 4 (.int (-1))) := by
  unfold oTh sp_put upd
  simp
theorem oTh_60 {k : Nat} {y : Int32} : oTh (upd r (60 + 6 * k) y) k = (oTh r k).set 3 (.int y) := by
  unfold oTh upd
  simp
theorem oTh_61 {k : Nat} {y : Int32} : oTh (upd r (61 + 6 * k) y) k = (oTh r k).set 4 (.int y) := by
  unfold oTh upd
  simp
theorem oTh_59 {k : Nat} {y : Int32} : oTh (upd r (59 + 6 * k) y) k = (oTh r k).set 5 (.int y) := by
  unfold oTh upd
  simp
theorem oS_S {h : Nat} {c c' : xm_PC} : xm_set (xm_set S h c) h c' = xm_set S h c' := by
  unfold xm_set
  dsimp only
  rw [List.set_set]
theorem upd_o {i j : Nat} {y : Int32} (h : i ≠ j) : upd r j y i = r i := if_neg h
theorem sp_put_o {k i : Nat} {st pl : Int32} (h : i < 56 + 6 * k ∨ 62 + 6 * k ≤ i) : sp_put r k st pl i = r i := by
  unfold sp_put
  rw [upd_o (by omega), upd_o (by omega), upd_o (by omega), upd_o (by omega)]
theorem oc_176 (hI : oI S L r x) {k : Nat} {st pl : Int32} (hk : k < xnk r) : xm_C sc xt_M (d + 1) 176 [.ref (L (30 + k)), .int st, .int pl] S = some (.inl none, xm_set S (L (30 + k)) (.inr (9, oTh (sp_put r k st pl) k))) := by
  have h0 := hI.th hk
  rw [yc_176, og_S h0 (by show 0 < 6; omega), zbs, og_S (oS_get h0) (by show 1 < 6; omega), zbs, oS_S, og_S (oS_get h0) (by show 3 < 6; omega), zbs, oS_S, og_S (oS_get h0) (by show 4 < 6; omega), zbs, oS_S, oTh_put]
theorem oI.f3 (hI : oI S L r x) {k : Nat} {y : Int32} (hk : k < xnk r) : xm_sF S (L (30 + k)) 9 3 (.int y) = some (xm_set S (L (30 + k)) (.inr (9, oTh (upd r (60 + 6 * k) y) k))) := by
  rw [og_S (hI.th hk) (by show 3 < 6; omega), oTh_60]
theorem oI.f4 (hI : oI S L r x) {k : Nat} {y : Int32} (hk : k < xnk r) : xm_sF S (L (30 + k)) 9 4 (.int y) = some (xm_set S (L (30 + k)) (.inr (9, oTh (upd r (61 + 6 * k) y) k))) := by
  rw [og_S (hI.th hk) (by show 4 < 6; omega), oTh_61]
theorem oI.f5 (hI : oI S L r x) {k : Nat} {y : Int32} (hk : k < xnk r) : xm_sF S (L (30 + k)) 9 5 (.int y) = some (xm_set S (L (30 + k)) (.inr (9, oTh (upd r (59 + 6 * k) y) k))) := by
  rw [og_S (hI.th hk) (by show 5 < 6; omega), oTh_59]
/-- the object's own cell: the time, the limit, what is held -/
theorem oI.self (hB : xLt r) (hI : oI S L r x) (e : ∀ i, i ≠ 4 → i ≠ 5 → r' i = r i) : oM S (xm_set S (L 0) (.inr (8, oEf L r' x'))) L L r' x' 0 (xnk r) := by
  have hv4 := hB.bd.v4
  have hF : oF S (xm_set S (L 0) (.inr (8, oEf L r' x'))) 0 (fun z => z = L 0) := oF_S hI.e rfl rfl
  have ek := hI.k0
  refine ⟨?_, hF.mo (Nat.le_refl _) (fun h c _ z => Or.inl z), fun _ _ _ => rfl, fun _ _ h => h⟩
  refine hI.bld hF (by unfold xnb; rw [e 0 (by omega) (by omega)]) (by unfold xnv; rw [e 1 (by omega) (by omega)]) (by unfold xnk; rw [e 2 (by omega) (by omega)]) (by unfold xnq; rw [e 3 (by omega) (by omega)]) (fun v hv => by unfold xst; rw [e _ (by omega) (by omega)]) ?_ ?_ ?_ (fun j hj => ?_) (hI.rooms.kd.ne ek (by decide)) (hI.routes.kd.ne ek (by decide)) (hI.books.kd.ne ek (by decide)) (hI.asks.kd.ne ek (by decide)) (fun v hv => (hI.route hv).kd.ne ek (by decide)) (fun q hq => (hI.ask hq).kd.ne ek (by decide)) (fun v hv => e _ (by omega) (by omega)) (fun v s hv hs => e _ (by omega) (by omega)) (fun q i _ _ => e _ (by omega) (by omega))
  · exact oS_get hI.e
  · exact (hI.op.fr hF (hI.op.kd.ne ek (by decide))).cg (fun b hb => e _ (by omega) (by omega))
  · exact (hI.ats.fr hF (hI.ats.kd.ne ek (by decide))).cg (fun v hv => e _ (by omega) (by omega))
  · rw [oTh_cg (k := j) (r := r) (fun i h1 h2 => e i (by omega) (by omega))]
    exact hF.2.2.2.2 _ _ (hI.th hj) ((hI.kt hj).ne ek (by decide))
theorem oI.f6 (hI : oI S L r x) {y : Int32} : xm_sF S (L 0) 8 6 (.int y) = some (xm_set S (L 0) (.inr (8, oEf L (upd r 4 y) x))) := by
  rw [og_S hI.e (by show 6 < 9; omega)]
  rfl
theorem oI.f7 (hI : oI S L r x) {y : Int32} : xm_sF S (L 0) 8 7 (.int y) = some (xm_set S (L 0) (.inr (8, oEf L (upd r 5 y) x))) := by
  rw [og_S hI.e (by show 7 < 9; omega)]
  rfl
theorem oI.f8 (hI : oI S L r x) {y : Int32} : xm_sF S (L 0) 8 8 (.int y) = some (xm_set S (L 0) (.inr (8, oEf L r y))) := by
  rw [og_S hI.e (by show 8 < 9; omega)]
  rfl
/-- where a van is -/
theorem oI.at1 (hB : xWF r) (hI : oI S L r x) {v : Nat} {y : Int32} (hv : v < xnv r) : ∃ S1, xm_wI S (L 4) 0 (nI v) y = some S1 ∧ oM S S1 L L (upd r (14 + 11 * v) y) x 0 (xnk r) := by
  have hv4 := hB.bd.v4
  have hk20 := hB.bd.k20
  have hb6 := hB.bd.b6
  obtain ⟨f, c, hf, ew⟩ := hI.ats.wr hv (by omega) (y := y)
  have hF : oF S (xm_set S (L 4) (.inl (0, xnv r, .inl (upd f v y)))) 0 (fun z => z = L 4) := oF_S c rfl rfl
  have ek : oKd S (L 4) 0 := hI.ats.kd
  obtain ⟨-, n2, nv, nq⟩ := hI.2.2.2
  have e : ∀ i, i ≠ 14 + 11 * v → upd r (14 + 11 * v) y i = r i := fun i hi => upd_o hi
  refine ⟨_, ew, ?_, hF.mo (Nat.le_refl _) (fun h c _ z => Or.inr (Or.inr (Or.inl z))), fun _ _ _ => rfl, fun _ _ h => h⟩
  refine hI.bld hF (by unfold xnb; rw [e 0 (by omega)]) (by unfold xnv; rw [e 1 (by omega)]) (by unfold xnk; rw [e 2 (by omega)]) (by unfold xnq; rw [e 3 (by omega)]) (fun v' hv' => by unfold xst; rw [e _ (by omega)]) ?_ ?_ ?_ (fun j hj => ?_) (Ne.symm n2) (hI.routes.kd.ne ek (by decide)) (hI.books.kd.ne ek (by decide)) (hI.asks.kd.ne ek (by decide)) (fun v' hv' => Ne.symm (nv v' hv')) (fun q hq => Ne.symm (nq q hq)) (fun v' hv' => e _ (by omega)) (fun v' s hv' hs => e _ (by have := hB.st9 hv'; omega)) (fun q i _ _ => e _ (by omega))
  · rw [oEf_cg (e 4 (by omega)) (e 5 (by omega))]
    exact hF.2.2.2.2 _ _ hI.e (hI.k0.ne ek (by decide))
  · exact (hI.op.fr hF (hI.op.kd.ne ek (by decide))).cg (fun b hb => e _ (by omega))
  · refine ⟨upd f v y, oS_get c, fun i hi => ?_⟩
    show (if i = v then y else f i) = if 14 + 11 * i = 14 + 11 * v then y else r (14 + 11 * i)
    by_cases ei : i = v
    · rw [if_pos ei, if_pos (by omega)]
    · rw [if_neg ei, if_neg (by omega)]
      exact hf i hi
  · rw [oTh_cg (k := j) (r := r) (fun i h1 h2 => e i (by omega))]
    exact hF.2.2.2.2 _ _ (hI.th hj) ((hI.kt hj).ne ek (by decide))
/-- open and closed -/
theorem oI.op1 (hB : xWF r) (hI : oI S L r x) {b : Nat} {y : Int32} (hb : b < xnb r) : ∃ S1, xm_wI S (L 1) 3 (nI b) y = some S1 ∧ oM S S1 L L (upd r (6 + b) y) x 0 (xnk r) := by
  have hv4 := hB.bd.v4
  have hb6 := hB.bd.b6
  obtain ⟨f, c, hf, ew⟩ := hI.op.wr hb (by omega) (y := y)
  have hF : oF S (xm_set S (L 1) (.inl (3, xnb r, .inl (upd f b y)))) 0 (fun z => z = L 1) := oF_S c rfl rfl
  have ek : oKd S (L 1) 3 := hI.op.kd
  have e : ∀ i, i ≠ 6 + b → upd r (6 + b) y i = r i := fun i hi => upd_o hi
  refine ⟨_, ew, ?_, hF.mo (Nat.le_refl _) (fun h c _ z => Or.inr (Or.inl z)), fun _ _ _ => rfl, fun _ _ h => h⟩
  refine hI.bld hF (by unfold xnb; rw [e 0 (by omega)]) (by unfold xnv; rw [e 1 (by omega)]) (by unfold xnk; rw [e 2 (by omega)]) (by unfold xnq; rw [e 3 (by omega)]) (fun v' hv' => by unfold xst; rw [e _ (by omega)]) ?_ ?_ ?_ (fun j hj => ?_) (hI.rooms.kd.ne ek (by decide)) (hI.routes.kd.ne ek (by decide)) (hI.books.kd.ne ek (by decide)) (hI.asks.kd.ne ek (by decide)) (fun v' hv' => (hI.route hv').kd.ne ek (by decide)) (fun q hq => (hI.ask hq).kd.ne ek (by decide)) (fun v' hv' => e _ (by omega)) (fun v' s hv' hs => e _ (by omega)) (fun q i _ _ => e _ (by omega))
  · rw [oEf_cg (e 4 (by omega)) (e 5 (by omega))]
    exact hF.2.2.2.2 _ _ hI.e (hI.k0.ne ek (by decide))
  · refine ⟨upd f b y, oS_get c, fun i hi => ?_⟩
    show (if i = b then y else f i) = if 6 + i = 6 + b then y else r (6 + i)
    by_cases ei : i = b
    · rw [if_pos ei, if_pos (by omega)]
    · rw [if_neg ei, if_neg (by omega)]
      exact hf i hi
  · exact (hI.ats.fr hF (hI.ats.kd.ne ek (by decide))).cg (fun v hv => e _ (by omega))
  · rw [oTh_cg (k := j) (r := r) (fun i h1 h2 => e i (by omega))]
    exact hF.2.2.2.2 _ _ (hI.th hj) ((hI.kt hj).ne ek (by decide))
end OW
