/-! TELL: the law's own picture while it is being made -/
def qC (n : Nat) (t : Nat) (f : Nat → Option Nat) : xm_PC := .inl (t, n, .inr (.inr (.inr (.inr f))))
def tO1 (S : xm_PS) (E : Nat → Nat) (r : Nat → Int32) (h : Int32) : Prop := (S.1 = true ∧ S.2.1 = 0) ∧ S.2.2[E 0]? = some (.inr (8, [.ref (E 1), .ref (E 2), .ref (E 3), .ref (E 4), .ref (E 5), .ref (E 6), .int 0, .int h, .int 0])) ∧ oA S (E 1) 3 (xnb r) (fun _ => 1)
def tO2 (S : xm_PS) (E : Nat → Nat) (r : Nat → Int32) (nv : Nat) : Prop := (∃ g, oA S (E 2) 0 nv g ∧ ∀ u, u < xnv r → g u = r (12 + 11 * u)) ∧ (∃ f, S.2.2[E 3]? = some (qC nv 6 f) ∧ ∀ u, u < xnv r → f u = some (E (20 + u))) ∧ oA S (E 4) 0 nv (fun _ => 0) ∧ ∀ u, u < xnv r → oA S (E (20 + u)) 0 (xst r u) (fun s => r (15 + 11 * u + s))
def tO3 (S : xm_PS) (E : Nat → Nat) (r : Nat → Int32) (nk : Nat) : Prop := (∃ f, S.2.2[E 5]? = some (qC nk 5 f) ∧ ∀ k, k < xnk r → f k = some (E (30 + k))) ∧ (∃ f, S.2.2[E 6]? = some (qC 0 6 f)) ∧ ∀ k, k < xnk r → S.2.2[E (30 + k)]? = some (.inr (9, oTh r k))
def tO4 (E : Nat → Nat) (r : Nat → Int32) : Prop := (E 2 < E 4 ∧ E 3 ≠ E 6) ∧ (∀ u, u < xnv r → E 4 < E (20 + u)) ∧ ∀ j k, j < k → k < xnk r → E (30 + j) < E (30 + k)
def tO (S : xm_PS) (E : Nat → Nat) (r : Nat → Int32) (nv nk : Nat) (h : Int32) : Prop := tO1 S E r h ∧ tO2 S E r nv ∧ tO3 S E r nk ∧ tO4 E r
def tAl (r : Nat → Int32) (a : Nat) : Prop := a < 7 ∨ (20 ≤ a ∧ a < 20 + xnv r) ∨ (30 ≤ a ∧ a < 30 + xnk r)
section TO
variable {S S' : xm_PS} {E : Nat → Nat} {r : Nat → Int32} {nv nk m p q cap : Nat} {h : Int32} {t : List Int32}
theorem tO.cell (hO : tO S E r nv nk h) {a : Nat} (ha : tAl r a) : ∃ c, S.2.2[E a]? = some c ∧ oK c ≠ 1 ∧ oK c ≠ 111 := by
  obtain ⟨⟨-, b1, b2⟩, ⟨⟨g, c1, -⟩, ⟨f, c2, -⟩, c3, c4⟩, ⟨⟨f5, d1, -⟩, ⟨f6, d2⟩, d3⟩, -⟩ := hO
  have hA : ∀ {x t n : Nat} {g : Nat → Int32}, oA S x t n g → t ≠ 1 → t < 100 → ∃ c, S.2.2[x]? = some c ∧ oK c ≠ 1 ∧ oK c ≠ 111 := fun {x t n g} ho h1 h2 => by
    obtain ⟨f, hc, -⟩ := ho
    exact ⟨_, hc, h1, by show t ≠ 111; omega⟩
  rcases ha with ha | ⟨h1, h2⟩ | ⟨h1, h2⟩
  · have hc : a = 0 ∨ a = 1 ∨ a = 2 ∨ a = 3 ∨ a = 4 ∨ a = 5 ∨ a = 6 := by omega
    rcases hc with e | e | e | e | e | e | e <;> subst e
    · exact ⟨_, b1, by show 108 ≠ 1; decide, by show 108 ≠ 111; decide⟩
    · exact hA b2 (by decide) (by decide)
    · exact hA c1 (by decide) (by decide)
    · exact ⟨_, c2, by show 46 ≠ 1; decide, by show 46 ≠ 111; decide⟩
    · exact hA c3 (by decide) (by decide)
    · exact ⟨_, d1, by show 45 ≠ 1; decide, by show 45 ≠ 111; decide⟩
    · exact ⟨_, d2, by show 46 ≠ 1; decide, by show 46 ≠ 111; decide⟩
  · obtain ⟨u, rfl⟩ : ∃ u, a = 20 + u := ⟨a - 20, by omega⟩
    exact hA (c4 u (by omega)) (by decide) (by decide)
  · obtain ⟨k, rfl⟩ : ∃ k, a = 30 + k := ⟨a - 30, by omega⟩
    exact ⟨_, d3 k (by omega), by show 109 ≠ 1; decide, by show 109 ≠ 111; decide⟩
theorem tO.fr {W : Nat → Prop} (hO : tO S E r nv nk h) (hF : oF S S' m W) (hw : ∀ a, tAl r a → ¬ W (E a)) : tO S' E r nv nk h := by
  obtain ⟨⟨⟨a1, a2⟩, b1, b2⟩, ⟨⟨g, c1, c1'⟩, ⟨f, c2, c2'⟩, c3, c4⟩, ⟨⟨f5, d1, d1'⟩, ⟨f6, d2⟩, d3⟩, e⟩ := hO
  have w : ∀ a, a < 7 → ¬ W (E a) := fun a ha => hw a (Or.inl ha)
  exact ⟨⟨⟨hF.1.1.trans a1, hF.1.2.trans a2⟩, hF.2.2.2.2 _ _ b1 (w 0 (by omega)), b2.fr hF (w 1 (by omega))⟩, ⟨⟨g, c1.fr hF (w 2 (by omega)), c1'⟩, ⟨f, hF.2.2.2.2 _ _ c2 (w 3 (by omega)), c2'⟩, c3.fr hF (w 4 (by omega)), fun u hu => (c4 u hu).fr hF (hw _ (Or.inr (Or.inl ⟨by omega, by omega⟩)))⟩, ⟨⟨f5, hF.2.2.2.2 _ _ d1 (w 5 (by omega)), d1'⟩, ⟨f6, hF.2.2.2.2 _ _ d2 (w 6 (by omega))⟩, fun k hk => hF.2.2.2.2 _ _ (d3 k hk) (hw _ (Or.inr (Or.inr ⟨by omega, by omega⟩)))⟩, e⟩
theorem tO.nw (hO : tO S E r nv nk h) (hF : oF S S' m oN) : tO S' E r nv nk h := hO.fr hF (fun _ _ => id)
theorem tO.sb (hO : tO S E r nv nk h) (hb : sbI S p q t cap) (hF : oF S S' m (sbW p q)) : tO S' E r nv nk h := by
  obtain ⟨-, ⟨m0, bp⟩, ⟨g, bq, -⟩, -⟩ := hb
  refine hO.fr hF (fun a ha z => ?_)
  obtain ⟨c, hc, k1, k2⟩ := hO.cell ha
  rcases z with z | z
  · exact oK_ne hc bp k2 z
  · exact oK_ne hc bq k1 z
theorem oI.sb {x : Int32} {L : Nat → Nat} (hI : oI S L r x) (hb : sbI S p q t cap) (hF : oF S S' m (sbW p q)) : oI S' L r x := by
  obtain ⟨-, ⟨m0, bp⟩, ⟨g, bq, -⟩, -⟩ := hb
  have hA : ∀ {x t n : Nat} {g : Nat → Int32}, oA S x t n g → t ≠ 1 → t < 100 → ¬ sbW p q x := fun {x t n g} ho h1 h2 z => by
    obtain ⟨f, hc, -⟩ := ho
    rcases z with z | z
    · exact oK_ne hc bp (show t ≠ 111 by omega) z
    · exact oK_ne hc bq h1 z
  have hQ : ∀ {x t n : Nat} {g : Nat → Nat}, oQ S x t n g → t < 50 → ¬ sbW p q x := fun {x t n g} ho h2 z => by
    obtain ⟨f, hc, -⟩ := ho
    rcases z with z | z
    · exact oK_ne hc bp (show 40 + t ≠ 111 by omega) z
    · exact oK_ne hc bq (show 40 + t ≠ 1 by omega) z
  refine hI.fr hF (fun a ha z => ?_)
  rcases ha with ha | ⟨h1, h2⟩ | ⟨h1, h2⟩ | ⟨h1, h2⟩
  · have hc : a = 0 ∨ a = 1 ∨ a = 2 ∨ a = 3 ∨ a = 4 ∨ a = 5 ∨ a = 6 := by omega
    rcases hc with e | e | e | e | e | e | e <;> subst e
    · rcases z with z | z
      · exact oK_ne hI.e bp (show 108 ≠ 111 by decide) z
      · exact oK_ne hI.e bq (show 108 ≠ 1 by decide) z
    · exact hA hI.op (by decide) (by decide) z
    · exact hA hI.rooms (by decide) (by decide) z
    · exact hQ hI.routes (by decide) z
    · exact hA hI.ats (by decide) (by decide) z
    · exact hQ hI.books (by decide) z
    · exact hQ hI.asks (by decide) z
  · obtain ⟨u, rfl⟩ : ∃ u, a = 20 + u := ⟨a - 20, by omega⟩
    exact hA (hI.route (by omega)) (by decide) (by decide) z
  · obtain ⟨k, rfl⟩ : ∃ k, a = 30 + k := ⟨a - 30, by omega⟩
    rcases z with z | z
    · exact oK_ne (hI.th (show k < xnk r by omega)) bp (show 109 ≠ 111 by decide) z
    · exact oK_ne (hI.th (show k < xnk r by omega)) bq (show 109 ≠ 1 by decide) z
  · obtain ⟨k, rfl⟩ : ∃ k, a = 100 + k := ⟨a - 100, by omega⟩
    exact hA (hI.ask (by omega)) (by decide) (by decide) z
/-- a cell that is not the builder's, written or new -/
theorem txJ.ot {S0 T T' : xm_PS} {W : Nat → Prop} {m' : Nat} (hJ : txJ S0 T p q t m) (hF : oF T T' m' W) (hW : ∀ z, W z → S0.2.2.length ≤ z) (hp : ∀ c, T.2.2[p]? = some c → oK c = 111 → ¬ W p) (hq : ∀ c, T.2.2[q]? = some c → oK c = 1 → ¬ W q) : txJ S0 T' p q t (m + m') := by
  obtain ⟨⟨cap, hb⟩, h2, h3, h4⟩ := hJ
  have hb' := hb
  obtain ⟨-, ⟨m0, bp⟩, ⟨g, bq, -⟩, -⟩ := hb'
  refine ⟨⟨cap, hb.fr hF (hp _ bp rfl) (hq _ bq rfl)⟩, h2.tr2 hF (fun x c hc z => ?_), h3, h4⟩
  have := os_lt hc
  have := hW x z
  omega
theorem txJ.nw {S0 T T' : xm_PS} {m' : Nat} (hJ : txJ S0 T p q t m) (hF : oF T T' m' oN) : txJ S0 T' p q t (m + m') := hJ.ot hF (fun _ z => False.elim z) (fun _ _ _ => id) (fun _ _ _ => id)
/-- one cell, of another kind -/
theorem txJ.w1 {S0 T T' : xm_PS} {m' x : Nat} {c : xm_PC} (hJ : txJ S0 T p q t m) (hF : oF T T' m' (fun z => z = x)) (hx : S0.2.2.length ≤ x) (hc : T.2.2[x]? = some c) (k1 : oK c ≠ 1) (k2 : oK c ≠ 111) : txJ S0 T' p q t (m + m') :=
  hJ.ot hF (fun z e => by have e' : z = x := e; omega) (fun c' hc' e z => oK_ne hc hc' (by rw [e]; exact k2) (show x = p from (show p = x from z).symm)) (fun c' hc' e z => oK_ne hc hc' (by rw [e]; exact k1) (show x = q from (show q = x from z).symm))
end TO
