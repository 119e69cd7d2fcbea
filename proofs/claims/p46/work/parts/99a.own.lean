/-! OWN: the law's own picture of the same row, in cells behind the class's. L: where its things lie (0 itself, 1 open, 2 rooms, 3 routes, 4 at, 5 books, 6 requests, 20 + v a route, 30 + k a book, 100 + q a request) -/
def oA (S : xm_PS) (h t n : Nat) (g : Nat → Int32) : Prop := ∃ f, S.2.2[h]? = some (.inl (t, n, .inl f)) ∧ ∀ i, i < n → f i = g i
def oQ (S : xm_PS) (h t n : Nat) (g : Nat → Nat) : Prop := ∃ f, S.2.2[h]? = some (.inl (t, n, .inr (.inr (.inr (.inr f))))) ∧ ∀ i, i < n → f i = some (g i)
def oTh (r : Nat → Int32) (k : Nat) : List Value := [.int (r (56 + 6 * k)), .int (r (57 + 6 * k)), .int (r (58 + 6 * k)), .int (r (60 + 6 * k)), .int (r (61 + 6 * k)), .int (r (59 + 6 * k))]
def oEf (L : Nat → Nat) (r : Nat → Int32) (x : Int32) : List Value := [.ref (L 1), .ref (L 2), .ref (L 3), .ref (L 4), .ref (L 5), .ref (L 6), .int (r 4), .int (r 5), .int x]
def oI1 (S : xm_PS) (L : Nat → Nat) (r : Nat → Int32) (x : Int32) : Prop := (S.1 = true ∧ S.2.1 = 0) ∧ S.2.2[L 0]? = some (.inr (8, oEf L r x))
def oI2 (S : xm_PS) (L : Nat → Nat) (r : Nat → Int32) : Prop := oA S (L 1) 3 (xnb r) (fun b => r (6 + b)) ∧ oA S (L 2) 0 (xnv r) (fun v => r (12 + 11 * v)) ∧ oQ S (L 3) 6 (xnv r) (fun v => L (20 + v)) ∧ oA S (L 4) 0 (xnv r) (fun v => r (14 + 11 * v)) ∧ oQ S (L 5) 5 (xnk r) (fun k => L (30 + k)) ∧ oQ S (L 6) 6 (xnq r) (fun q => L (100 + q))
def oI3 (S : xm_PS) (L : Nat → Nat) (r : Nat → Int32) : Prop := (∀ v, v < xnv r → oA S (L (20 + v)) 0 (xst r v) (fun s => r (15 + 11 * v + s))) ∧ (∀ k, k < xnk r → S.2.2[L (30 + k)]? = some (.inr (9, oTh r k))) ∧ ∀ q, q < xnq r → oA S (L (100 + q)) 0 3 (fun i => r (176 + 3 * q + i))
def oI4 (L : Nat → Nat) (r : Nat → Int32) : Prop := (∀ j k, j < k → k < xnk r → L (30 + j) ≠ L (30 + k)) ∧ L 4 ≠ L 2 ∧ (∀ v, v < xnv r → L 4 ≠ L (20 + v)) ∧ ∀ q, q < xnq r → L 4 ≠ L (100 + q)
def oI (S : xm_PS) (L : Nat → Nat) (r : Nat → Int32) (x : Int32) : Prop := oI1 S L r x ∧ oI2 S L r ∧ oI3 S L r ∧ oI4 L r
section OG
variable {S : xm_PS} {L : Nat → Nat} {r : Nat → Int32} {x : Int32} {h t n : Nat} {g : Nat → Int32}
theorem og_R {ci k y : Nat} {fs : List Value} (hc : S.2.2[h]? = some (.inr (ci, fs))) (hk : fs[k]? = some (.ref y)) : xm_gR S h ci k = some y := by
  unfold xm_gR xm_gF
  rw [hc]
  dsimp only
  rw [if_pos rfl, hk]
theorem og_I {ci k : Nat} {y : Int32} {fs : List Value} (hc : S.2.2[h]? = some (.inr (ci, fs))) (hk : fs[k]? = some (.int y)) : xm_gI S h ci k = some y := by
  unfold xm_gI xm_gF
  rw [hc]
  dsimp only
  rw [if_pos rfl, hk]
theorem og_S {ci k : Nat} {v : Value} {fs : List Value} (hc : S.2.2[h]? = some (.inr (ci, fs))) (hk : k < fs.length) : xm_sF S h ci k v = some (xm_set S h (.inr (ci, fs.set k v))) := by
  unfold xm_sF
  rw [hc]
  dsimp only
  rw [if_pos ⟨rfl, hk⟩]
theorem og_O {ci : Nat} {fs : List Value} (hc : S.2.2[h]? = some (.inr (ci, fs))) : xm_isO S (.ref h) ci = true := by
  unfold xm_isO
  dsimp only
  rw [hc]
  dsimp only
  rw [Nat.beq_refl]
  rfl
theorem oA.at (ha : oA S h t n g) {i : Nat} (hi : i < n) (hn : n < 2 ^ 31) : xm_aI S h t (nI i) = some (g i) := by
  obtain ⟨f, hc, hf⟩ := ha
  unfold xm_aI xm_gA
  rw [hc]
  dsimp only
  rw [if_pos rfl]
  dsimp only
  rw [if_pos (xin hi hn), nI_clamp (by omega), hf i hi]
theorem oA.len (ha : oA S h t n g) (ht : t < 7) : xm_len S h = some (nI n) := by
  obtain ⟨f, hc, hf⟩ := ha
  unfold xm_len
  rw [hc]
  dsimp only
  rw [if_pos ht]
  rfl
theorem oA.wr (ha : oA S h t n g) {i : Nat} (hi : i < n) (hn : n < 2 ^ 31) {y : Int32} : ∃ f, S.2.2[h]? = some (.inl (t, n, .inl f)) ∧ (∀ j, j < n → f j = g j) ∧ xm_wI S h t (nI i) y = some (xm_set S h (.inl (t, n, .inl (upd f i y)))) := by
  obtain ⟨f, hc, hf⟩ := ha
  refine ⟨f, hc, hf, ?_⟩
  unfold xm_wI xm_gA
  rw [hc]
  dsimp only
  rw [if_pos rfl]
  dsimp only
  rw [if_pos (xin hi hn), nI_clamp (by omega)]
theorem oA.sm (ha : oA S h t n g) : (xm_gA S h t).isSome = true := by
  obtain ⟨f, hc, hf⟩ := ha
  unfold xm_gA
  rw [hc]
  dsimp only
  rw [if_pos rfl]
  rfl
theorem oQ.at {g : Nat → Nat} (ha : oQ S h t n g) {i : Nat} (hi : i < n) (hn : n < 2 ^ 31) : xm_aQ S h t (nI i) = some (g i) := by
  obtain ⟨f, hc, hf⟩ := ha
  unfold xm_aQ xm_gQ
  rw [hc]
  dsimp only
  rw [if_pos rfl]
  dsimp only
  rw [if_pos (xin hi hn), nI_clamp (by omega), hf i hi]
theorem oQ.len {g : Nat → Nat} (ha : oQ S h t n g) (ht : t < 7) : xm_len S h = some (nI n) := by
  obtain ⟨f, hc, hf⟩ := ha
  unfold xm_len
  rw [hc]
  dsimp only
  rw [if_pos ht]
  rfl
theorem oQ.wr {g : Nat → Nat} (ha : oQ S h t n g) {i : Nat} (hi : i < n) (hn : n < 2 ^ 31) {y : Nat} : ∃ f, S.2.2[h]? = some (.inl (t, n, .inr (.inr (.inr (.inr f))))) ∧ (∀ j, j < n → f j = some (g j)) ∧ xm_wQ S h t (nI i) y = some (xm_set S h (.inl (t, n, .inr (.inr (.inr (.inr (va_up f i (some y)))))))) := by
  obtain ⟨f, hc, hf⟩ := ha
  refine ⟨f, hc, hf, ?_⟩
  unfold xm_wQ xm_gQ
  rw [hc]
  dsimp only
  rw [if_pos rfl]
  dsimp only
  rw [if_pos (xin hi hn), nI_clamp (by omega)]
theorem os_same {c : xm_PC} (hl : h < S.2.2.length) : (xm_set S h c).2.2[h]? = some c := by
  show (S.2.2.set h c)[h]? = some c
  rw [List.getElem?_set_self hl]
theorem os_ne {c : xm_PC} {h' : Nat} (hn : h' ≠ h) : (xm_set S h c).2.2[h']? = S.2.2[h']? := by
  show (S.2.2.set h c)[h']? = _
  rw [List.getElem?_set_ne (Ne.symm hn)]
theorem os_lt {c : xm_PC} (hc : S.2.2[h]? = some c) : h < S.2.2.length := (List.getElem?_eq_some_iff.mp hc).1
/-- one more cell -/
def oP (S : xm_PS) (c : xm_PC) : xm_PS := (S.1, S.2.1, S.2.2 ++ [c])
theorem oP_eq {c : xm_PC} {k : Nat → xm_PS → Option xm_O} (h1 : S.1 = true) (h2 : S.2.1 = 0) : xm_push S c k = k S.2.2.length (oP S c) := by
  unfold xm_push
  rw [if_pos ⟨h1, h2⟩]
  rfl
theorem oP_at {c : xm_PC} : (oP S c).2.2[S.2.2.length]? = some c := by
  show (S.2.2 ++ [c])[S.2.2.length]? = some c
  rw [List.getElem?_append_right (Nat.le_refl _), Nat.sub_self]
  rfl
theorem oP_old {c c' : xm_PC} (hc : S.2.2[h]? = some c') : (oP S c).2.2[h]? = some c' := by
  show (S.2.2 ++ [c])[h]? = _
  rw [List.getElem?_append_left (os_lt hc)]
  exact hc
end OG
/-- what changed: cells within W, at most m new ones of 50 slots each -/
def oF (S S' : xm_PS) (m : Nat) (W : Nat → Prop) : Prop := (S'.1 = S.1 ∧ S'.2.1 = S.2.1) ∧ S.2.2.length ≤ S'.2.2.length ∧ S'.2.2.length ≤ S.2.2.length + m ∧ xm_sn S' ≤ xm_sn S + 50 * m ∧ ∀ h c, S.2.2[h]? = some c → ¬ W h → S'.2.2[h]? = some c
def oN (_ : Nat) : Prop := False
theorem oF.rf {S : xm_PS} {W : Nat → Prop} : oF S S 0 W := ⟨⟨rfl, rfl⟩, Nat.le_refl _, Nat.le_refl _, Nat.le_refl _, fun _ _ h _ => h⟩
theorem oF.tr {S S1 S2 : xm_PS} {m n : Nat} {W : Nat → Prop} (h : oF S S1 m W) (g : oF S1 S2 n W) : oF S S2 (m + n) W := by
  obtain ⟨⟨a1, a2⟩, a3, a4, a5, a6⟩ := h
  obtain ⟨⟨b1, b2⟩, b3, b4, b5, b6⟩ := g
  exact ⟨⟨b1.trans a1, b2.trans a2⟩, Nat.le_trans a3 b3, by omega, by omega, fun h c hc hw => b6 h c (a6 h c hc hw) hw⟩
theorem oF.tr2 {S S1 S2 : xm_PS} {m n : Nat} {W W2 : Nat → Prop} (h : oF S S1 m W) (g : oF S1 S2 n W2) (hw : ∀ h c, S.2.2[h]? = some c → W2 h → W h) : oF S S2 (m + n) W := by
  obtain ⟨⟨a1, a2⟩, a3, a4, a5, a6⟩ := h
  obtain ⟨⟨b1, b2⟩, b3, b4, b5, b6⟩ := g
  exact ⟨⟨b1.trans a1, b2.trans a2⟩, Nat.le_trans a3 b3, by omega, by omega, fun h c hc z => b6 h c (a6 h c hc z) (fun z2 => z (hw h c hc z2))⟩
theorem oF.mo {S S' : xm_PS} {m n : Nat} {W W' : Nat → Prop} (h : oF S S' m W) (hm : m ≤ n) (hW : ∀ h c, S.2.2[h]? = some c → W h → W' h) : oF S S' n W' :=
  ⟨h.1, h.2.1, by have := h.2.2.1; omega, by have := h.2.2.2.1; omega, fun x c hc hw => h.2.2.2.2 x c hc (fun z => hw (hW x c hc z))⟩
theorem oF.nw {S S' : xm_PS} {m n : Nat} {W : Nat → Prop} (h : oF S S' m oN) (hm : m ≤ n) : oF S S' n W := h.mo hm (fun _ _ _ z => False.elim z)
theorem oF_P {S : xm_PS} {c : xm_PC} {W : Nat → Prop} (hz : xm_sz c ≤ 50) : oF S (oP S c) 1 W := by
  refine ⟨⟨rfl, rfl⟩, ?_, ?_, ?_, fun h c' hc _ => oP_old hc⟩
  · show S.2.2.length ≤ (S.2.2 ++ [c]).length
    rw [List.length_append]; omega
  · show (S.2.2 ++ [c]).length ≤ _
    rw [List.length_append]; exact Nat.le_refl _
  · show ((S.2.2 ++ [c]).map xm_sz).sum + 6 * S.2.1 ≤ (S.2.2.map xm_sz).sum + 6 * S.2.1 + 50 * 1
    rw [List.map_append, List.sum_append]
    simp only [List.map_cons, List.map_nil, List.sum_cons, List.sum_nil]
    omega
theorem oF_S {S : xm_PS} {h : Nat} {c0 c : xm_PC} {W : Nat → Prop} (hc : S.2.2[h]? = some c0) (hz : xm_sz c = xm_sz c0) (hW : W h) : oF S (xm_set S h c) 0 W := by
  obtain ⟨e1, e2⟩ := xm_set_mo hc hz
  refine ⟨⟨rfl, rfl⟩, Nat.le_of_eq (List.length_set ..).symm, Nat.le_of_eq (List.length_set ..), Nat.le_of_eq e2, fun x c' hx hw => ?_⟩
  have hn : x ≠ h := fun e => hw (by rw [e]; exact hW)
  rw [os_ne hn]
  exact hx
theorem oA.fr {S S' : xm_PS} {m : Nat} {W : Nat → Prop} {h t n : Nat} {g : Nat → Int32} (hF : oF S S' m W) (hw : ¬ W h) (ha : oA S h t n g) : oA S' h t n g := by
  obtain ⟨f, hc, hf⟩ := ha
  exact ⟨f, hF.2.2.2.2 h _ hc hw, hf⟩
theorem oQ.fr {S S' : xm_PS} {m : Nat} {W : Nat → Prop} {h t n : Nat} {g : Nat → Nat} (hF : oF S S' m W) (hw : ¬ W h) (ha : oQ S h t n g) : oQ S' h t n g := by
  obtain ⟨f, hc, hf⟩ := ha
  exact ⟨f, hF.2.2.2.2 h _ hc hw, hf⟩
theorem oA.lt {S : xm_PS} {h t n : Nat} {g : Nat → Int32} (ha : oA S h t n g) : h < S.2.2.length := by
  obtain ⟨f, hc, hf⟩ := ha
  exact os_lt hc
theorem oA.cg {S : xm_PS} {h t n : Nat} {g g' : Nat → Int32} (ha : oA S h t n g) (e : ∀ i, i < n → g' i = g i) : oA S h t n g' := by
  obtain ⟨f, hc, hf⟩ := ha
  exact ⟨f, hc, fun i hi => (hf i hi).trans (e i hi).symm⟩
/-- cells of different kinds are different cells -/
def oK (c : xm_PC) : Nat := match c with
  | .inl (t, _, .inl _) => t
  | .inl (t, _, .inr (.inl _)) => 20 + t
  | .inl (t, _, .inr (.inr _)) => 40 + t
  | .inr (c, _) => 100 + c
theorem oK_ne {S : xm_PS} {h h' : Nat} {c c' : xm_PC} (hc : S.2.2[h]? = some c) (hc' : S.2.2[h']? = some c') (hk : oK c ≠ oK c') : h ≠ h' := fun e => hk (by
  rw [e, hc'] at hc
  cases hc
  rfl)
section OI
variable {S S' : xm_PS} {L : Nat → Nat} {r : Nat → Int32} {x : Int32} {m : Nat}
theorem oI.e (hI : oI S L r x) : S.2.2[L 0]? = some (.inr (8, oEf L r x)) := hI.1.2
theorem oI.op (hI : oI S L r x) : oA S (L 1) 3 (xnb r) (fun b => r (6 + b)) := hI.2.1.1
theorem oI.rooms (hI : oI S L r x) : oA S (L 2) 0 (xnv r) (fun v => r (12 + 11 * v)) := hI.2.1.2.1
theorem oI.routes (hI : oI S L r x) : oQ S (L 3) 6 (xnv r) (fun v => L (20 + v)) := hI.2.1.2.2.1
theorem oI.ats (hI : oI S L r x) : oA S (L 4) 0 (xnv r) (fun v => r (14 + 11 * v)) := hI.2.1.2.2.2.1
theorem oI.books (hI : oI S L r x) : oQ S (L 5) 5 (xnk r) (fun k => L (30 + k)) := hI.2.1.2.2.2.2.1
theorem oI.asks (hI : oI S L r x) : oQ S (L 6) 6 (xnq r) (fun q => L (100 + q)) := hI.2.1.2.2.2.2.2
theorem oI.route (hI : oI S L r x) {v : Nat} (hv : v < xnv r) : oA S (L (20 + v)) 0 (xst r v) (fun s => r (15 + 11 * v + s)) := hI.2.2.1.1 v hv
theorem oI.th (hI : oI S L r x) {k : Nat} (hk : k < xnk r) : S.2.2[L (30 + k)]? = some (.inr (9, oTh r k)) := hI.2.2.1.2.1 k hk
theorem oI.ask (hI : oI S L r x) {q : Nat} (hq : q < xnq r) : oA S (L (100 + q)) 0 3 (fun i => r (176 + 3 * q + i)) := hI.2.2.1.2.2 q hq
theorem oI.fl (hI : oI S L r x) : S.1 = true := hI.1.1.1
theorem oI.f0 (hI : oI S L r x) : S.2.1 = 0 := hI.1.1.2
theorem oI.is (hI : oI S L r x) : xm_isO S (.ref (L 0)) 8 = true := og_O hI.e
theorem oI.g0 (hI : oI S L r x) : xm_gR S (L 0) 8 0 = some (L 1) := og_R hI.e rfl
theorem oI.g1 (hI : oI S L r x) : xm_gR S (L 0) 8 1 = some (L 2) := og_R hI.e rfl
theorem oI.g2 (hI : oI S L r x) : xm_gR S (L 0) 8 2 = some (L 3) := og_R hI.e rfl
theorem oI.g3 (hI : oI S L r x) : xm_gR S (L 0) 8 3 = some (L 4) := og_R hI.e rfl
theorem oI.g4 (hI : oI S L r x) : xm_gR S (L 0) 8 4 = some (L 5) := og_R hI.e rfl
theorem oI.g5 (hI : oI S L r x) : xm_gR S (L 0) 8 5 = some (L 6) := og_R hI.e rfl
theorem oI.g6 (hI : oI S L r x) : xm_gI S (L 0) 8 6 = some (r 4) := og_I hI.e rfl
theorem oI.g7 (hI : oI S L r x) : xm_gI S (L 0) 8 7 = some (r 5) := og_I hI.e rfl
theorem oI.g8 (hI : oI S L r x) : xm_gI S (L 0) 8 8 = some x := og_I hI.e rfl
theorem oI.t0 (hI : oI S L r x) {k : Nat} (hk : k < xnk r) : xm_gI S (L (30 + k)) 9 0 = some (r (56 + 6 * k)) := og_I (hI.th hk) rfl
theorem oI.t1 (hI : oI S L r x) {k : Nat} (hk : k < xnk r) : xm_gI S (L (30 + k)) 9 1 = some (r (57 + 6 * k)) := og_I (hI.th hk) rfl
theorem oI.t2 (hI : oI S L r x) {k : Nat} (hk : k < xnk r) : xm_gI S (L (30 + k)) 9 2 = some (r (58 + 6 * k)) := og_I (hI.th hk) rfl
theorem oI.t3 (hI : oI S L r x) {k : Nat} (hk : k < xnk r) : xm_gI S (L (30 + k)) 9 3 = some (r (60 + 6 * k)) := og_I (hI.th hk) rfl
theorem oI.t4 (hI : oI S L r x) {k : Nat} (hk : k < xnk r) : xm_gI S (L (30 + k)) 9 4 = some (r (61 + 6 * k)) := og_I (hI.th hk) rfl
theorem oI.t5 (hI : oI S L r x) {k : Nat} (hk : k < xnk r) : xm_gI S (L (30 + k)) 9 5 = some (r (59 + 6 * k)) := og_I (hI.th hk) rfl
/-- cells behind, or cells of others: the picture stays -/
theorem oI.fr {W : Nat → Prop} (hI : oI S L r x) (hF : oF S S' m W) (hw : ∀ a, (a < 7 ∨ (20 ≤ a ∧ a < 20 + xnv r) ∨ (30 ≤ a ∧ a < 30 + xnk r) ∨ (100 ≤ a ∧ a < 100 + xnq r)) → ¬ W (L a)) : oI S' L r x := by
  obtain ⟨⟨⟨a1, a2⟩, a3⟩, ⟨b1, b2, b3, b4, b5, b6⟩, ⟨c1, c2, c3⟩, d⟩ := hI
  refine ⟨⟨⟨hF.1.1.trans a1, hF.1.2.trans a2⟩, hF.2.2.2.2 _ _ a3 (hw 0 (by omega))⟩, ⟨b1.fr hF (hw 1 (by omega)), b2.fr hF (hw 2 (by omega)), b3.fr hF (hw 3 (by omega)), b4.fr hF (hw 4 (by omega)), b5.fr hF (hw 5 (by omega)), b6.fr hF (hw 6 (by omega))⟩, ⟨fun v hv => (c1 v hv).fr hF (hw _ (by omega)), fun k hk => hF.2.2.2.2 _ _ (c2 k hk) (hw _ (by omega)), fun q hq => (c3 q hq).fr hF (hw _ (by omega))⟩, d⟩
theorem oI.nw (hI : oI S L r x) (hF : oF S S' m oN) : oI S' L r x := hI.fr hF (fun _ _ => id)
end OI
