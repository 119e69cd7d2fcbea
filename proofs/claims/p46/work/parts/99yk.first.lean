/-! THE LAW'S FIRST TEXT: its row, and what is read of it -/
def fxL : Nat → Int32 := fun i => if i = 0 then 4 else if i = 1 then 2 else if i = 2 then 2 else if i = 3 then 2 else if i = 5 then 10 else if i = 6 then 1 else if i = 7 then 1 else if i = 8 then 1 else if i = 9 then 1 else if i = 12 then 9 else if i = 13 then 3 else if i = 16 then 1 else if i = 17 then 2 else if i = 23 then 1 else if i = 24 then 2 else if i = 26 then 2 else if i = 27 then 3 else if i = 60 then -1 else if i = 61 then -1 else if i = 63 then 3 else if i = 64 then 3 else if i = 66 then -1 else if i = 67 then -1 else if i = 177 then 1 else if i = 178 then 3 else if i = 180 then 2 else if i = 181 then 1 else 0
def fxC : Nat → Int32 := fun i => if i = 9 then 0 else fxL i
def fxT : List Int32 := dTx 4 (9, [0, 1, 2]) [(1, [2, 3])] [0, 3] none [(0, 1, 3), (0, 2, 1)]
def fxR : Nat → Int32 := dRQ 4 (9, [0, 1, 2]) [(1, [2, 3])] [0, 3] none [(0, 1, 3), (0, 2, 1)]
theorem fx_t : fxT = xm_str 25 := by decide +kernel
theorem fx_r : ∀ i, i < 296 → fxL i = fxR i := by decide +kernel
def fxU : xU := (fxC, fun _ => -1, fun _ => 0, 0)
theorem fx_a : sp_until fxU 0 0 0 = (0, 4) := by decide +kernel
theorem fx_h : sp_until fxU 1 0 2 = (0, 4) := by decide +kernel
theorem fx_G : dG 4 (9, [0, 1, 2]) [(1, [2, 3])] [0, 3] none [(0, 1, 3), (0, 2, 1)] := by
  refine ⟨by decide, ⟨⟨by decide, by decide, ?_, by decide⟩, fun W hW => ?_⟩, by decide, ⟨by decide, by decide, by decide⟩, (fun x h => by cases h), by decide, ⟨?_, ?_, trivial⟩⟩
  · show 0 < 4 ∧ none ≠ some 0 ∧ 1 < 4 ∧ some 0 ≠ some 1 ∧ 2 < 4 ∧ some 1 ≠ some 2 ∧ True
    decide
  · have e : W = (1, [2, 3]) := List.mem_singleton.mp hW
    subst e
    refine ⟨by decide, by decide, ?_, by decide⟩
    show 2 < 4 ∧ none ≠ some 2 ∧ 3 < 4 ∧ some 2 ≠ some 3 ∧ True
    decide
  · decide +kernel
  · decide +kernel
theorem fx_T : sdT (xm_str 25) := by
  refine ⟨by decide +kernel, fun i hi => ?_⟩
  have h : ∀ i, i < (xm_str 25).length → ((xm_str 25).getD i 0).toNatClampNeg < 128 ∧ (xm_str 25).getD i 0 = nI ((xm_str 25).getD i 0).toNatClampNeg := by decide +kernel
  exact ⟨_, h i hi⟩
theorem cI_ext {w : xW} {r r' : Nat → Int32} {n : Nat} {hs : Nat → Nat → Int32} {sn : Option (Nat → Int32)} (h : ∀ i, i < 296 → r' i = r i) (hI : cI w r n hs sn) : cI w r' n hs sn := ⟨kSt_ext h hI.1, hI.2⟩
theorem cOp_some {o : Option xm_O} {w : xW} {ext : List xm_PC} {r : Nat → Int32} {n : Nat} {hs : Nat → Nat → Int32} {sn : Option (Nat → Int32)} {s : Int32 × Int32 × Option (Nat → Int32)} (hO : cOp o w ext r n hs sn s) {y : Int32} {r1 : Nat → Int32} (h1 : s.2.2.isSome = true) (h2 : s.2.1 = y) (h3 : ∀ i, i < 296 → r1 i = (s.2.2.getD r) i) : ∃ w', o = some (.inl (some (.int y)), xL w' ext) ∧ cI w' r1 (cN n) (cPush n hs r) sn := by
  obtain ⟨x, y', z⟩ := s
  cases z with
  | none => cases h1
  | some r' =>
    have h2' : y' = y := h2
    subst h2'
    obtain ⟨w', e, J, -⟩ := (show ∃ w', o = some (.inl (some (.int y')), xL w' ext) ∧ cI w' r' (cN n) (cPush n hs r) sn ∧ xnb r' = xnb r ∧ xnv r' = xnv r ∧ xnk r' = xnk r from hO)
    exact ⟨w', e, cI_ext h3 J⟩
def fxD : Nat → Int32 := (sp_cancel fxL 0 1).2.2.getD fxL
theorem fx_1 : sp_bookK fxL 0 3 = (0, 3) := by decide +kernel
theorem fx_2 : sp_legsK fxL 0 3 = (0, 2) := by decide +kernel
theorem fx_3 : (kHub fxL (xnb fxL)).1 = 2 := by decide +kernel
theorem fx_4 : (sp_close fxL 3).1 = 0 ∧ (sp_close fxL 3).2.2.isSome = true ∧ (sp_close fxL 3).2.1 = 1 := by decide +kernel
theorem fx_4r : ∀ i, i < 296 → fxC i = ((sp_close fxL 3).2.2.getD fxL) i := by decide +kernel
theorem fx_5 : sp_bookK fxC 0 3 = (0, 1) := by decide +kernel
theorem fx_6 : sp_str (sp_far fxC (fun _ => -1)) fxC (xnk fxC) = 1 := by decide +kernel
theorem fx_7 : sp_comes fxC 1 2 = (0, 2) := by decide +kernel
theorem fx_10 : (sp_open fxC 3).1 = 0 ∧ (sp_open fxC 3).2.2.isSome = true ∧ (sp_open fxC 3).2.1 = 1 := by decide +kernel
theorem fx_10r : ∀ i, i < 296 → fxL i = ((sp_open fxC 3).2.2.getD fxC) i := by decide +kernel
theorem fx_11 : (sp_recall fxL 0).1 = 0 ∧ (sp_recall fxL 0).2.2.isNone = true ∧ (sp_recall fxL 0).2.1 = -3 := by decide +kernel
theorem fx_12 : (sp_cancel fxL 0 1).1 = 0 ∧ (sp_cancel fxL 0 1).2.2.isSome = true ∧ (sp_cancel fxL 0 1).2.1 = 0 := by decide +kernel
theorem fx_13 : sp_placeOf fxD 0 2 = (0, 0) := by decide +kernel
theorem cOp_none {o : Option xm_O} {w : xW} {ext : List xm_PC} {r : Nat → Int32} {n : Nat} {hs : Nat → Nat → Int32} {sn : Option (Nat → Int32)} {s : Int32 × Int32 × Option (Nat → Int32)} (hO : cOp o w ext r n hs sn s) {y : Int32} (h1 : s.2.2.isNone = true) (h2 : s.2.1 = y) : o = some (.inl (some (.int y)), xL w ext) := by
  obtain ⟨x, y', z⟩ := s
  cases z with
  | some r' => cases h1
  | none =>
    have h2' : y' = y := h2
    subst h2'
    exact hO
