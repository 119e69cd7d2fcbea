/-! THE LAW: the class and the law's own picture, one step -/
theorem xL_get {w : xW} {ext : List xm_PC} {h : Nat} (hh : h < 191) : (xL w ext).2.2[h]? = (xcells w xl0)[h]? := by
  show (xcells w xl0 ++ ext)[h]? = _
  rw [List.getElem?_append_left (by rw [xcells_len]; exact hh)]
/-- what leaves the class's cells alone leaves the class -/
theorem oF_to {w : xW} {ext : List xm_PC} {T : xm_PS} {m : Nat} {W : Nat → Prop} (hF : oF (xL w ext) T m W) (hW : ∀ h, W h → 191 ≤ h) : ∃ ext', T = xL w ext' := by
  obtain ⟨⟨a1, a2⟩, a3, -, -, a6⟩ := hF
  rw [xL_len] at a3
  refine ⟨T.2.2.drop 191, ?_⟩
  have e : T.2.2.take 191 = xcells w xl0 := by
    refine List.ext_getElem? (fun h => ?_)
    by_cases hh : h < 191
    · rw [List.getElem?_take_of_lt hh]
      have hl : h < (xcells w xl0).length := by rw [xcells_len]; exact hh
      have hc : (xL w ext).2.2[h]? = some ((xcells w xl0)[h]) := by rw [xL_get hh, List.getElem?_eq_getElem hl]
      rw [a6 h _ hc (fun z => by have := hW h z; omega), List.getElem?_eq_getElem hl]
    · rw [List.getElem?_eq_none (by rw [List.length_take]; omega), List.getElem?_eq_none (by rw [xcells_len]; omega)]
  have e2 : T.2.2 = xcells w xl0 ++ T.2.2.drop 191 := by rw [← e, List.take_append_drop]
  obtain ⟨t1, t2, t3⟩ := T
  show (t1, t2, t3) = (true, 0, xcells w xl0 ++ t3.drop 191)
  have z1 : t1 = true := a1
  have z2 : t2 = 0 := a2
  rw [z1, z2]
  exact congrArg (fun c => ((true, 0, c) : xm_PS)) e2
theorem oI.cls {w w' : xW} {ext : List xm_PC} {L : Nat → Nat} {r : Nat → Int32} {x : Int32} (hI : oI (xL w ext) L r x) (hL : ∀ a, 191 ≤ L a) : oI (xL w' ext) L r x := hI.fr oF_xL (fun a _ z => absurd (hL a) (Nat.not_le_of_lt z))
theorem oM_to {w : xW} {ext : List xm_PC} {T : xm_PS} {L L' : Nat → Nat} {r' : Nat → Int32} {x' : Int32} {m n : Nat} (hM : oM (xL w ext) T L L' r' x' m n) (hL : ∀ a, 191 ≤ L a) : ∃ ext', T = xL w ext' ∧ oI (xL w ext') L' r' x' ∧ (∀ a, 191 ≤ L' a) ∧ oF (xL w ext) (xL w ext') m (oW L n) ∧ ∀ a, a < 100 → a ≠ 6 → L' a = L a := by
  obtain ⟨h1, h2, h3, h4⟩ := hM
  obtain ⟨ext', e⟩ := oF_to h2 (fun h z => by
    rcases z with z | z | z | ⟨k, _, z⟩ <;> rw [z] <;> exact hL _)
  rw [e] at h1 h2
  exact ⟨ext', e, h1, h4 191 (by rw [xL_len]; omega) hL, h2, h3⟩
/-- the state after an act: o, the row it makes, if it does -/
def aPo (w : xW) (ext : List xm_PC) (L : Nat → Nat) (r : Nat → Int32) (n : Nat) (hs : Nat → Nat → Int32) (sn : Option (Nat → Int32)) (c : Nat) (w' : xW) (ext' : List xm_PC) (L' : Nat → Nat) (x' : Int32) (o : Option (Nat → Int32)) : Prop :=
  oI (xL w' ext') L' (o.getD r) x' ∧ (∀ a, 191 ≤ L' a) ∧ (∀ a, a < 100 → a ≠ 6 → L' a = L a) ∧ oF (xL w ext) (xL w' ext') 1600 (fun z => oC z ∨ oW L (xnk r) z) ∧ (match o with
    | none => cI w' r n hs sn
    | some r' => cI w' r' (cN n) (cPush n hs r) sn) ∧ (rS (o.getD r) ∧ rD (o.getD r)) ∧ (xnb (o.getD r) = xnb r ∧ xnv (o.getD r) = xnv r ∧ xnk (o.getD r) = xnk r) ∧ ∃ c', c' ≤ c + 12 ∧ (o.getD r) 4 = nI c'
def aRet (o : Option (Nat → Int32)) : Int32 := match o with
  | none => 0
  | some _ => 1
def aPost (res : Option xm_O) (w : xW) (ext : List xm_PC) (L : Nat → Nat) (r : Nat → Int32) (n : Nat) (hs : Nat → Nat → Int32) (sn : Option (Nat → Int32)) (c : Nat) : Prop := ∃ o w' ext' L' x', res = some (.inl (some (.int (aRet o))), xL w' ext') ∧ aPo w ext L r n hs sn c w' ext' L' x' o
section AP
variable {w : xW} {ext ext1 : List xm_PC} {sc : xm_Sc} {d n m c : Nat} {r : Nat → Int32} {hs : Nat → Nat → Int32} {sn : Option (Nat → Int32)} {L L' : Nat → Nat} {x' : Int32}
/-- the class's answer, with the law's own picture already changed -/
theorem aFin {j : Nat} {as : List Value} {y : Int32} {o : Option (Nat → Int32)} (hI : cI w r n hs sn) (hS : rS r) (hD : rD r) (hc : r 4 = nI c) (hO : cOp (xm_C sc xt_M d j as (xL w ext1)) w ext1 r n hs sn (0, y, o)) (hq : qS (0, y, o)) (hqd : qD (0, y, o)) (h4 : ∀ r', o = some r' → ∃ c', c' ≤ c + 12 ∧ r' 4 = nI c') (h1 : oI (xL w ext1) L' (o.getD r) x') (hL' : ∀ a, 191 ≤ L' a) (hF : oF (xL w ext) (xL w ext1) m (oW L (xnk r))) (hm : m ≤ 1600) (hE : ∀ a, a < 100 → a ≠ 6 → L' a = L a) :
    ∃ w', xm_C sc xt_M d j as (xL w ext1) = some (.inl (some (.int y)), xL w' ext1) ∧ aPo w ext L r n hs sn c w' ext1 L' x' o := by
  have fr : ∀ w', oF (xL w ext) (xL w' ext1) 1600 (fun z => oC z ∨ oW L (xnk r) z) := fun w' => ((hF.mo (Nat.le_refl _) (fun _ _ _ z => Or.inr z)).tr ((oF_xL (w' := w')).mo (Nat.le_refl _) (fun _ _ _ z => Or.inl z))).mo (by omega) (fun _ _ _ z => z)
  cases o with
  | none =>
    have e : xm_C sc xt_M d j as (xL w ext1) = some (.inl (some (.int y)), xL w ext1) := hO
    exact ⟨w, e, h1, hL', hE, fr w, hI, ⟨hS, hD⟩, ⟨rfl, rfl, rfl⟩, c, by omega, hc⟩
  | some r' =>
    obtain ⟨w', e, J, k⟩ := hO
    exact ⟨w', e, h1.cls hL', hL', hE, fr w', J, ⟨hq r' rfl, hqd r' rfl⟩, k, h4 r' rfl⟩
theorem q4_12 {s : Int32 × Int32 × Option (Nat → Int32)} (hc : r 4 = nI c) (h : q4 s (r 4)) : ∀ r', s.2.2 = some r' → ∃ c', c' ≤ c + 12 ∧ r' 4 = nI c' := fun r' e => ⟨c, by omega, (h r' e).trans hc⟩
theorem oc_177y {k : Nat} {v y : Int32} {S : xm_PS} (hy : nI k = y) (h0 : 0 < k) (hk : k < 2 ^ 31) : xm_C sc xt_M (d + 1) 177 [.int v, .int y] S = some (.inl (some (.int (nI (oMo v k)))), S) := by
  rw [← hy]
  exact oc_177 h0 hk
end AP
