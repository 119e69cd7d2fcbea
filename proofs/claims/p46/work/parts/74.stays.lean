/-! THE CLASS: what stays when a row changes -/
theorem xany_cg {p q : Nat → Bool} {n : Nat} (h : ∀ i, i < n → p i = q i) : xany p n = xany q n := by
  induction n with
  | zero => rfl
  | succ n ih =>
    show (xany p n || p n) = (xany q n || q n)
    rw [ih (fun i hi => h i (by omega)), h n (by omega)]
theorem xfst_cg {p q : Nat → Prop} [DecidablePred p] [DecidablePred q] : ∀ {m i : Nat}, (∀ j, i ≤ j → j < i + m → (p j ↔ q j)) → xfst p i m = xfst q i m := by
  intro m
  induction m with
  | zero => intro i _; rfl
  | succ m ih =>
    intro i h
    unfold xfst
    have e := h i (Nat.le_refl _) (by omega)
    by_cases hp : p i
    · rw [if_pos hp, if_pos (e.mp hp)]
    · rw [if_neg hp, if_neg (fun g => hp (e.mpr g)), ih (fun j h1 h2 => h j (by omega) (by omega))]
theorem xsum_cg {f g : Nat → Int32} {n : Nat} (h : ∀ i, i < n → f i = g i) : xsum f n = xsum g n := by
  induction n with
  | zero => rfl
  | succ n ih =>
    show xsum f n + f n = xsum g n + g n
    rw [ih (fun i hi => h i (by omega)), h n (by omega)]
/-- the same branches, open alike, the same routes -/
def kGeo (r r' : Nat → Int32) : Prop := r' 0 = r 0 ∧ r' 1 = r 1 ∧ (∀ b, b < 6 → r' (6 + b) = r (6 + b)) ∧ ∀ v, v < 4 → r' (13 + 11 * v) = r (13 + 11 * v) ∧ ∀ s, s < 8 → r' (15 + 11 * v + s) = r (15 + 11 * v + s)
/-- as much of a well-formed row as copies and lists need -/
def xLt (r : Nat → Int32) : Prop := xBd r ∧ (∀ v, v < xnv r → xst r v < 9) ∧ ∀ q, q < xnq r → xib (r (178 + 3 * q))
theorem xLt.bd {r : Nat → Int32} (h : xLt r) : xBd r := h.1
theorem xLt.st9 {r : Nat → Int32} (h : xLt r) {v : Nat} (hv : v < xnv r) : xst r v < 9 := h.2.1 v hv
theorem xLt.qb {r : Nat → Int32} (h : xLt r) {q : Nat} (hq : q < xnq r) : xib (r (178 + 3 * q)) := h.2.2 q hq
theorem xWF.lt {r : Nat → Int32} (h : xWF r) : xLt r := ⟨h.bd, fun _ hv => h.st9 hv, fun _ hq => h.qb hq⟩
section GE
variable {r r' : Nat → Int32}
theorem kGeo.nb (h : kGeo r r') : xnb r' = xnb r := by unfold xnb; rw [h.1]
theorem kGeo.nv (h : kGeo r r') : xnv r' = xnv r := by unfold xnv; rw [h.2.1]
theorem kGeo.st (h : kGeo r r') {v : Nat} (hv : v < 4) : xst r' v = xst r v := by unfold xst; rw [(h.2.2.2 v hv).1]
theorem kGeo_t {r'' : Nat → Int32} (h : kGeo r r') (g : kGeo r' r'') : kGeo r r'' := ⟨g.1.trans h.1, g.2.1.trans h.2.1, fun b hb => (g.2.2.1 b hb).trans (h.2.2.1 b hb), fun v hv => ⟨(g.2.2.2 v hv).1.trans (h.2.2.2 v hv).1, fun s hs => ((g.2.2.2 v hv).2 s hs).trans ((h.2.2.2 v hv).2 s hs)⟩⟩
theorem kGeo_rfl : kGeo r r := ⟨rfl, rfl, fun _ _ => rfl, fun _ _ => ⟨rfl, fun _ _ => rfl⟩⟩
theorem kGeo.has (h : kGeo r r') {v : Nat} (hv : v < 4) (h9 : xst r v < 9) {b : Int32} : sp_has r' v b = sp_has r v b := by
  unfold sp_has
  rw [h.st hv]
  refine xany_cg (fun s hs => ?_)
  rw [(h.2.2.2 v hv).2 s (by omega)]
theorem kGeo.link (h : kGeo r r') (hW : xLt r) {a b : Int32} : sp_link r' a b = sp_link r a b := by
  have h4 := hW.bd.v4
  unfold sp_link
  rw [h.nv]
  refine xany_cg (fun v hv => ?_)
  have h9 := hW.st9 hv
  rw [h.has (by omega) h9, h.has (by omega) h9]
theorem kGeo.o (h : kGeo r r') {b : Nat} (hb : b < 6) : xop r' (nI b) = xop r (nI b) := by
  unfold xop
  rw [nI_clamp (by omega), h.2.2.1 b hb]
theorem kGeo.i0 (h : kGeo r r') (hW : xLt r) {a b : Nat} (ha : a < 6) (hb : b < 6) : sp_i0 r' a b = sp_i0 r a b := by
  have ea : r' (6 + (nI a).toNatClampNeg) = r (6 + (nI a).toNatClampNeg) := by rw [nI_clamp (by omega)]; exact h.2.2.1 a ha
  have eb : r' (6 + (nI b).toNatClampNeg) = r (6 + (nI b).toNatClampNeg) := by rw [nI_clamp (by omega)]; exact h.2.2.1 b hb
  unfold sp_i0 xop
  rw [h.link hW, ea, eb]
theorem kGeo.iB (h : kGeo r r') (hW : xLt r) {a : Nat} {g : Nat → Int32} (ha : a < 6) : ∀ n, n ≤ 6 → sp_iB r' a g n = sp_iB r a g n := by
  intro n
  induction n with
  | zero =>
    intro _
    have e : ∀ x : Nat → Int32, sp_iB x a g 0 = g := fun _ => rfl
    rw [e, e]
  | succ n ih =>
    intro hn
    have e : ∀ x : Nat → Int32, sp_iB x a g (n + 1) = upd (sp_iB x a g n) (6 * a + n) (sp_i0 x a n) := fun _ => rfl
    rw [e, e, ih (by omega), h.i0 hW ha (by omega)]
theorem kIA_s {x f : Nat → Int32} {n : Nat} : sp_iA x f (n + 1) = sp_iB x n (sp_iA x f n) (xnb x) := rfl
theorem kGeo.iA1 (h : kGeo r r') (hW : xLt r) (h6 : xnb r ≤ 6) {n : Nat} {f : Nat → Int32} (hn : n < 6) (ih : sp_iA r' f n = sp_iA r f n) : sp_iA r' f (n + 1) = sp_iA r f (n + 1) := by
  have e1 : sp_iA r' f (n + 1) = sp_iB r' n (sp_iA r' f n) (xnb r') := kIA_s
  have e2 : sp_iA r f (n + 1) = sp_iB r n (sp_iA r f n) (xnb r) := kIA_s
  have e3 : xnb r' = xnb r := h.nb
  have e4 : sp_iB r' n (sp_iA r f n) (xnb r) = sp_iB r n (sp_iA r f n) (xnb r) := h.iB hW hn (xnb r) h6
  exact e1.trans ((congrArg (fun a => sp_iB r' n a (xnb r')) ih).trans ((congrArg (fun a => sp_iB r' n (sp_iA r f n) a) e3).trans (e4.trans e2.symm)))
theorem kGeo.iA (h : kGeo r r') (hW : xLt r) (h6 : xnb r ≤ 6) {f : Nat → Int32} : ∀ n, n ≤ 6 → sp_iA r' f n = sp_iA r f n := by
  intro n
  induction n with
  | zero =>
    intro _
    have e : ∀ x : Nat → Int32, sp_iA x f 0 = f := fun _ => rfl
    rw [e, e]
  | succ n ih => intro hn; exact h.iA1 hW h6 (by omega) (ih (by omega))
theorem kGeo.far (h : kGeo r r') (hW : xLt r) {f : Nat → Int32} : sp_far r' f = sp_far r f := by
  have h6 : xnb r ≤ 6 := hW.bd.b6
  have e3 : xnb r' = xnb r := h.nb
  have e4 : sp_iA r' f (xnb r) = sp_iA r f (xnb r) := h.iA hW h6 (xnb r) h6
  have e1 : sp_far r' f = sp_sY (xnb r') (sp_iA r' f (xnb r')) (xnb r') := rfl
  have e2 : sp_far r f = sp_sY (xnb r) (sp_iA r f (xnb r)) (xnb r) := rfl
  rw [e3, e4] at e1
  exact e1.trans e2.symm
theorem kGeo.D (h : kGeo r r') (hW : xLt r) {a b : Nat} : kD r' a b = kD r a b := by
  unfold kD
  rw [h.far hW]
theorem kGeo_head (h : ∀ i, i < 56 → i ≠ 3 → i ≠ 4 → i ≠ 5 → (∀ v, v < 4 → i ≠ 14 + 11 * v) → r' i = r i) : kGeo r r' := ⟨h 0 (by omega) (by omega) (by omega) (by omega) (by omega), h 1 (by omega) (by omega) (by omega) (by omega) (by omega), fun b hb => h _ (by omega) (by omega) (by omega) (by omega) (by omega), fun v hv => ⟨h _ (by omega) (by omega) (by omega) (by omega) (by omega), fun s hs => h _ (by omega) (by omega) (by omega) (by omega) (by omega)⟩⟩
/-- the same requests, branches open alike -/
theorem sp_first_cg (hb : ∀ q, q < xnq r → xib (r (178 + 3 * q))) (h3 : xnq r' = xnq r) (hq : ∀ i, 176 ≤ i → i < 176 + 3 * xnq r → r' i = r i) (ho : ∀ b, b < 6 → r' (6 + b) = r (6 + b)) {b : Int32} : sp_first r' b = sp_first r b := by
  unfold sp_first
  rw [h3]
  refine xfst_cg (fun q _ h => ?_)
  rw [hq (176 + 3 * q) (by omega) (by omega)]
  unfold xop
  rw [hq (178 + 3 * q) (by omega) (by omega), ho _ (hb q (by omega)).2]
theorem sp_want_cg {k : Nat} (e : r' (59 + 6 * k) = r (59 + 6 * k)) (hf : sp_first r' (nI k) = sp_first r (nI k)) : sp_want r' k = sp_want r k := by
  unfold sp_want
  rw [e, hf]
end GE
def kRl (w : xW) (k : Nat) (r : Nat → Int32) : Prop := kPl (w (xpi (w (k + 5)) + 1)) r ∧ kS1 (w (k + 5)) r ∧ kS2 (w (k + 5)) r ∧ kS3 (w (k + 5)) r ∧ kS4 (w (k + 5)) r
theorem kRel_of {w : xW} {k : Nat} {r : Nat → Int32} (hW : xWF r) (h : kRl w k r) : kRel w k r := ⟨hW, h⟩
theorem kRel.l {w : xW} {k : Nat} {r : Nat → Int32} (h : kRel w k r) : kRl w k r := h.2
section ST
variable {w : xW} {k : Nat} {s' : xG} {r r' : Nat → Int32}
/-- a state's group changes, not its plan -/
theorem kRl_xu (e0 : s'.1 0 = (w (k + 5)).1 0) (hp : kPl (w (xpi (w (k + 5)) + 1)) r') (h1 : kS1 s' r') (h2 : kS2 s' r') (h3 : kS3 s' r') (h4 : kS4 s' r') : kRl (xu w (k + 5) s') k r' := by
  have e : xpi s' = xpi (w (k + 5)) := by unfold xpi; rw [e0]
  have := @xpi_lt (w (k + 5))
  unfold kRl
  rw [xu_same, e, xu_ne (by omega)]
  exact ⟨hp, h1, h2, h3, h4⟩
theorem xpi_xu (e0 : s'.1 0 = (w (k + 5)).1 0) : xpi (xu w (k + 5) s' (k + 5)) = xpi (w (k + 5)) := by
  rw [xu_same]
  unfold xpi
  rw [e0]
theorem kPl_cg {p : xG} (hW : xLt r) (e : ∀ i, i < 56 → i ≠ 3 → i ≠ 4 → i ≠ 5 → ¬ (6 ≤ i ∧ i < 12) → (∀ v, v < 4 → i ≠ 14 + 11 * v) → r' i = r i) (eh : ∀ q, q < xnk r → r' (58 + 6 * q) = r (58 + 6 * q)) (h : kPl p r) : kPl p r' := by
  have h4 := hW.bd.v4
  have e0 := e 0 (by omega) (by omega) (by omega) (by omega) (by omega) (by omega)
  have e1 := e 1 (by omega) (by omega) (by omega) (by omega) (by omega) (by omega)
  have e2 := e 2 (by omega) (by omega) (by omega) (by omega) (by omega) (by omega)
  have en : xnv r' = xnv r := by unfold xnv; rw [e1]
  have ek : xnk r' = xnk r := by unfold xnk; rw [e2]
  refine ⟨⟨h.1.1.trans e0.symm, h.1.2.1.trans e1.symm, h.1.2.2.trans e2.symm⟩, fun v hv => ?_, fun q hq => ?_⟩
  · rw [en] at hv
    have h9 := hW.st9 hv
    have es : xst r' v = xst r v := by unfold xst; rw [e (13 + 11 * v) (by omega) (by omega) (by omega) (by omega) (by omega) (by omega)]
    obtain ⟨g1, g2, g3, g4⟩ := h.2.1 v hv
    have eh : ∀ b, sp_has r' v b = sp_has r v b := fun b => by
      unfold sp_has
      rw [es]
      refine xany_cg (fun s hs => ?_)
      rw [e (15 + 11 * v + s) (by omega) (by omega) (by omega) (by omega) (by omega) (by omega)]
    refine ⟨g1.trans (e _ (by omega) (by omega) (by omega) (by omega) (by omega) (by omega)).symm, g2.trans (e _ (by omega) (by omega) (by omega) (by omega) (by omega) (by omega)).symm, fun i hi => ?_, fun s hs => ?_⟩
    · rw [g3 i hi, eh]
    · rw [es] at hs
      rw [g4 s hs, e (15 + 11 * v + s) (by omega) (by omega) (by omega) (by omega) (by omega) (by omega)]
  · rw [ek] at hq
    rw [h.2.2 q hq, eh q hq]
/-- a book is put elsewhere -/
theorem kRl_put {q : Nat} {a b c e : Int32} (hW : xLt r) (hR : kRl w k r) (hq : q < xnk r) (ho : ∀ i, i < 56 + 6 * q ∨ 62 + 6 * q ≤ i → r' i = r i) (h2 : r' (58 + 6 * q) = r (58 + 6 * q)) (h3 : r' (59 + 6 * q) = r (59 + 6 * q)) (ea : r' (56 + 6 * q) = a) (eb : r' (57 + 6 * q) = b) (ec : r' (60 + 6 * q) = c) (ee : r' (61 + 6 * q) = e) : kRl (xu w (k + 5) (kPut (w (k + 5)) q a b c e)) k r' := by
  obtain ⟨hp, s1, s2, s3, s4⟩ := hR
  have hk20 := hW.bd.k20
  have hv4 := hW.bd.v4
  have hb6 := hW.bd.b6
  have low : ∀ i, i < 56 → r' i = r i := fun i hi => ho i (by omega)
  have high : ∀ i, 176 ≤ i → r' i = r i := fun i hi => ho i (by omega)
  have eb' : xnb r' = xnb r := by unfold xnb; rw [low 0 (by omega)]
  have ev' : xnv r' = xnv r := by unfold xnv; rw [low 1 (by omega)]
  have ek' : xnk r' = xnk r := by unfold xnk; rw [low 2 (by omega)]
  have eq' : xnq r' = xnq r := by unfold xnq; rw [low 3 (by omega)]
  have e58 : ∀ i, r' (58 + 6 * i) = r (58 + 6 * i) := fun i => by
    by_cases g : i = q
    · rw [g, h2]
    · exact ho _ (by omega)
  have e59 : ∀ i, r' (59 + 6 * i) = r (59 + 6 * i) := fun i => by
    by_cases g : i = q
    · rw [g, h3]
    · exact ho _ (by omega)
  have g2 : ∀ x, (kPut (w (k + 5)) q a b c e).2 x = if x = 4 then upd ((w (k + 5)).2 4) q e else if x = 3 then upd ((w (k + 5)).2 3) q c else if x = 2 then upd ((w (k + 5)).2 2) q b else if x = 1 then upd ((w (k + 5)).2 1) q a else (w (k + 5)).2 x := fun x => rfl
  have geo : kGeo r r' := kGeo_head (fun i hi _ _ _ _ => low i hi)
  refine kRl_xu rfl (kPl_cg hW (fun i hi _ _ _ _ _ => low i hi) (fun i _ => e58 i) hp) ?_ ?_ ?_ ?_
  · obtain ⟨a1, a2, a3, a4, a5⟩ := s1
    refine ⟨a1.trans (low 4 (by omega)).symm, a2.trans (low 5 (by omega)).symm, fun i hi => ?_, fun i hi => ?_, a5.trans (low 3 (by omega)).symm⟩
    · show bt ((w (k + 5)).1 3) i = _
      rw [a3 i hi, eb']
      by_cases g : i < xnb r
      · rw [low (6 + i) (by omega)]
      · simp [g]
    · show bt ((w (k + 5)).1 4) i = _
      rw [a4 i hi, ek', e59]
  · refine ⟨fun v hv => ?_, fun i hi => ?_⟩
    · rw [ev'] at hv
      show (w (k + 5)).2 0 v = _
      rw [s2.1 v hv, low (14 + 11 * v) (by omega)]
    · rw [ek'] at hi
      obtain ⟨b1, b2, b3, b4⟩ := s2.2 i hi
      rw [g2 1, g2 2, g2 3, g2 4]
      simp only [Nat.reduceEqDiff, ↓reduceIte]
      by_cases g : i = q
      · subst g
        rw [zu1, zu1, zu1, zu1, ea, eb, ec, ee]
        exact ⟨rfl, rfl, rfl, rfl⟩
      · rw [zun g, zun g, zun g, zun g, ho (56 + 6 * i) (by omega), ho (57 + 6 * i) (by omega), ho (60 + 6 * i) (by omega), ho (61 + 6 * i) (by omega)]
        exact ⟨b1, b2, b3, b4⟩
  · refine ⟨fun i hi => ?_, fun i hi => ?_⟩
    · rw [eq'] at hi
      rw [high (176 + 3 * i) (by omega), high (177 + 3 * i) (by omega), high (178 + 3 * i) (by omega)]
      exact s3.1 i hi
    · rw [sp_first_cg (fun p hp => hW.qb hp) eq' (fun i h _ => high i h) (fun b hb => low (6 + b) (by omega))]
      exact s3.2 i hi
  · intro x y hx hy
    rw [geo.D hW]
    exact s4 x y hx hy
theorem kRl_sput {q : Nat} {a b : Int32} (hW : xLt r) (hR : kRl w k r) (hq : q < xnk r) : kRl (xu w (k + 5) (kPut (w (k + 5)) q a b (-1) (-1))) k (sp_put r q a b) :=
  kRl_put hW hR hq (fun _ hi => sp_put_ne hi) sp_put_2 sp_put_3 sp_put_0 sp_put_1 sp_put_4 (by
    show (if 61 + 6 * q = 61 + 6 * q then (-1 : Int32) else _) = -1
    rw [if_pos rfl])
end ST
