/-! WHAT STANDS BEHIND THE CELLS CHANGES NOTHING: a run that neither makes nor throws is the same run with more cells behind -/
def xm_fe (ext : List xm_PC) (S : xm_PS) : xm_PS := (true, S.2.1, S.2.2 ++ ext)
def xm_fr (ext : List xm_PC) (S : xm_PS) (x y : Option xm_O) : Prop := S.1 = false → ∀ o, x = some o → xm_cn o.2 = xm_cn S → y = some (o.1, xm_fe ext o.2)
theorem xm_fr_n {ext : List xm_PC} {S : xm_PS} {y : Option xm_O} : xm_fr ext S none y := fun _ _ h _ => nomatch h
theorem xm_fr_s {ext : List xm_PC} {S : xm_PS} {v : Option Value ⊕ Nat} : xm_fr ext S (some (v, S)) (some (v, xm_fe ext S)) := fun _ _ h _ => by cases h; rfl
theorem xm_fr_x {ext : List xm_PC} {S : xm_PS} {c : Prop} {i : Decidable c} {v : Option Value ⊕ Nat} {y : Option xm_O} : xm_fr ext S (@ite _ c i (some (v, (S.1, S.2.1 + 1, S.2.2))) none) y := fun _ o h hc => by
  split at h
  · cases h
    have h2 : S.2.2.length + (S.2.1 + 1) = S.2.2.length + S.2.1 := hc
    omega
  · cases h
theorem fe_get {ext : List xm_PC} {S : xm_PS} {h : Nat} {c : xm_PC} (hc : S.2.2[h]? = some c) : (xm_fe ext S).2.2[h]? = some c := by
  show (S.2.2 ++ ext)[h]? = some c
  rw [List.getElem?_append_left ((List.getElem?_eq_some_iff.mp hc).1)]
  exact hc
theorem fe_set {ext : List xm_PC} {S : xm_PS} {h : Nat} {c0 c : xm_PC} (hc : S.2.2[h]? = some c0) : xm_set (xm_fe ext S) h c = xm_fe ext (xm_set S h c) := by
  show (true, S.2.1, (S.2.2 ++ ext).set h c) = (true, S.2.1, S.2.2.set h c ++ ext)
  rw [List.set_append_left _ _ ((List.getElem?_eq_some_iff.mp hc).1)]
section FG
variable {ext : List xm_PC} {S : xm_PS}
theorem fe_gF {h ci k : Nat} : ∀ v, xm_gF S h ci k = some v → xm_gF (xm_fe ext S) h ci k = some v := fun v hv => by
  unfold xm_gF at hv ⊢
  cases hc : S.2.2[h]? with
  | none => rw [hc] at hv; cases hv
  | some c => rw [fe_get hc]; rw [hc] at hv; exact hv
theorem fe_gI {h ci k : Nat} : ∀ v, xm_gI S h ci k = some v → xm_gI (xm_fe ext S) h ci k = some v := fun v hv => by
  unfold xm_gI at hv ⊢
  cases hc : xm_gF S h ci k with
  | none => rw [hc] at hv; cases hv
  | some c => rw [fe_gF _ hc]; rw [hc] at hv; exact hv
theorem fe_gR {h ci k : Nat} : ∀ v, xm_gR S h ci k = some v → xm_gR (xm_fe ext S) h ci k = some v := fun v hv => by
  unfold xm_gR at hv ⊢
  cases hc : xm_gF S h ci k with
  | none => rw [hc] at hv; cases hv
  | some c => rw [fe_gF _ hc]; rw [hc] at hv; exact hv
theorem fe_gA {h t : Nat} : ∀ v, xm_gA S h t = some v → xm_gA (xm_fe ext S) h t = some v := fun v hv => by
  unfold xm_gA at hv ⊢
  cases hc : S.2.2[h]? with
  | none => rw [hc] at hv; cases hv
  | some c => rw [fe_get hc]; rw [hc] at hv; exact hv
theorem fe_gG {h : Nat} : ∀ v, xm_gG S h = some v → xm_gG (xm_fe ext S) h = some v := fun v hv => by
  unfold xm_gG at hv ⊢
  cases hc : S.2.2[h]? with
  | none => rw [hc] at hv; cases hv
  | some c => rw [fe_get hc]; rw [hc] at hv; exact hv
theorem fe_gQ {h t : Nat} : ∀ v, xm_gQ S h t = some v → xm_gQ (xm_fe ext S) h t = some v := fun v hv => by
  unfold xm_gQ at hv ⊢
  cases hc : S.2.2[h]? with
  | none => rw [hc] at hv; cases hv
  | some c => rw [fe_get hc]; rw [hc] at hv; exact hv
theorem fe_len {h : Nat} : ∀ v, xm_len S h = some v → xm_len (xm_fe ext S) h = some v := fun v hv => by
  unfold xm_len at hv ⊢
  cases hc : S.2.2[h]? with
  | none => rw [hc] at hv; cases hv
  | some c => rw [fe_get hc]; rw [hc] at hv; exact hv
theorem fe_aI {h t : Nat} {i : Int32} : ∀ v, xm_aI S h t i = some v → xm_aI (xm_fe ext S) h t i = some v := fun v hv => by
  unfold xm_aI at hv ⊢
  cases hc : xm_gA S h t with
  | none => rw [hc] at hv; cases hv
  | some c => rw [fe_gA _ hc]; rw [hc] at hv; exact hv
theorem fe_aL {h : Nat} {i : Int32} : ∀ v, xm_aL S h i = some v → xm_aL (xm_fe ext S) h i = some v := fun v hv => by
  unfold xm_aL at hv ⊢
  cases hc : xm_gG S h with
  | none => rw [hc] at hv; cases hv
  | some c => rw [fe_gG _ hc]; rw [hc] at hv; exact hv
theorem fe_aQ {h t : Nat} {i : Int32} : ∀ v, xm_aQ S h t i = some v → xm_aQ (xm_fe ext S) h t i = some v := fun v hv => by
  unfold xm_aQ at hv ⊢
  cases hc : xm_gQ S h t with
  | none => rw [hc] at hv; cases hv
  | some c => rw [fe_gQ _ hc]; rw [hc] at hv; exact hv
theorem fe_isO {v : Value} {ci : Nat} : xm_isO S v ci = true → xm_isO (xm_fe ext S) v ci = true := fun hv => by
  cases v with
  | ref h =>
    unfold xm_isO at hv ⊢
    dsimp only at hv ⊢
    cases hc : S.2.2[h]? with
    | none => rw [hc] at hv; cases hv
    | some c => rw [fe_get hc]; rw [hc] at hv; exact hv
  | retAddr k => exact hv
  | _ => exact Bool.noConfusion (show false = true from hv)
theorem fe_sA {h t : Nat} : (xm_gA S h t).isSome = true → (xm_gA (xm_fe ext S) h t).isSome = true := fun hv => by
  cases hc : xm_gA S h t with
  | none => rw [hc] at hv; cases hv
  | some c => rw [fe_gA _ hc]; rfl
def fe_S (ext : List xm_PC) (S : xm_PS) (x y : Option xm_PS) : Prop := ∀ S1, x = some S1 → (S1.1 = S.1 ∧ xm_cn S1 = xm_cn S) ∧ y = some (xm_fe ext S1)
theorem fe_set_S {h : Nat} {c0 c : xm_PC} (hc : S.2.2[h]? = some c0) : ((xm_set S h c).1 = S.1 ∧ xm_cn (xm_set S h c) = xm_cn S) := ⟨rfl, by show (S.2.2.set h c).length + S.2.1 = S.2.2.length + S.2.1; rw [List.length_set]⟩
theorem fe_sF {h ci k : Nat} {v : Value} : fe_S ext S (xm_sF S h ci k v) (xm_sF (xm_fe ext S) h ci k v) := fun S1 hg => by
  obtain ⟨fs, hc, hf, rfl⟩ := xm_sF_some hg
  refine ⟨fe_set_S hc, ?_⟩
  unfold xm_sF
  rw [fe_get hc]
  dsimp only
  rw [if_pos ⟨rfl, hf⟩, fe_set hc]
theorem fe_wI {h t : Nat} {i x : Int32} : fe_S ext S (xm_wI S h t i x) (xm_wI (xm_fe ext S) h t i x) := fun S1 hg => by
  unfold xm_wI at hg ⊢
  cases hq : xm_gA S h t with
  | none => rw [hq] at hg; cases hg
  | some q =>
    rw [fe_gA _ hq]
    rw [hq] at hg
    dsimp only at hg ⊢
    split at hg
    · next z =>
      cases hg
      rw [if_pos z]
      unfold xm_gA at hq
      cases hc : S.2.2[h]? with
      | none => rw [hc] at hq; cases hq
      | some c => exact ⟨fe_set_S hc, by rw [fe_set hc]⟩
    · cases hg
theorem fe_wL {h : Nat} {i : Int32} {x : Int64} : fe_S ext S (xm_wL S h i x) (xm_wL (xm_fe ext S) h i x) := fun S1 hg => by
  unfold xm_wL at hg ⊢
  cases hq : xm_gG S h with
  | none => rw [hq] at hg; cases hg
  | some q =>
    rw [fe_gG _ hq]
    rw [hq] at hg
    dsimp only at hg ⊢
    split at hg
    · next z =>
      cases hg
      rw [if_pos z]
      unfold xm_gG at hq
      cases hc : S.2.2[h]? with
      | none => rw [hc] at hq; cases hq
      | some c => exact ⟨fe_set_S hc, by rw [fe_set hc]⟩
    · cases hg
theorem fe_wQ {h t : Nat} {i : Int32} {x : Nat} : fe_S ext S (xm_wQ S h t i x) (xm_wQ (xm_fe ext S) h t i x) := fun S1 hg => by
  unfold xm_wQ at hg ⊢
  cases hq : xm_gQ S h t with
  | none => rw [hq] at hg; cases hg
  | some q =>
    rw [fe_gQ _ hq]
    rw [hq] at hg
    dsimp only at hg ⊢
    split at hg
    · next z =>
      cases hg
      rw [if_pos z]
      unfold xm_gQ at hq
      cases hc : S.2.2[h]? with
      | none => rw [hc] at hq; cases hq
      | some c => exact ⟨fe_set_S hc, by rw [fe_set hc]⟩
    · cases hg
theorem fe_cp {t h0 h1 : Nat} {sp dp n : Int32} : fe_S ext S (xm_copy S t h0 sp h1 dp n) (xm_copy (xm_fe ext S) t h0 sp h1 dp n) := fun S1 hg => by
  unfold xm_copy at hg ⊢
  cases hq : xm_gA S h0 t with
  | none => rw [hq] at hg; cases hg
  | some q =>
    cases hq1 : xm_gA S h1 t with
    | none => rw [hq, hq1] at hg; cases hg
    | some q1 =>
      rw [fe_gA _ hq, fe_gA _ hq1]
      rw [hq, hq1] at hg
      dsimp only at hg ⊢
      split at hg
      · next z =>
        cases hg
        rw [if_pos z]
        unfold xm_gA at hq1
        cases hc : S.2.2[h1]? with
        | none => rw [hc] at hq1; cases hq1
        | some c => exact ⟨fe_set_S hc, by rw [fe_set hc]⟩
      · cases hg
theorem fe_cpT {k h1 : Nat} {sp dp n : Int32} : fe_S ext S (xm_copyT S k sp h1 dp n) (xm_copyT (xm_fe ext S) k sp h1 dp n) := fun S1 hg => by
  unfold xm_copyT at hg ⊢
  cases hq1 : xm_gA S h1 1 with
  | none => rw [hq1] at hg; cases hg
  | some q1 =>
    rw [fe_gA _ hq1]
    rw [hq1] at hg
    dsimp only at hg ⊢
    split at hg
    · next z =>
      cases hg
      rw [if_pos z]
      unfold xm_gA at hq1
      cases hc : S.2.2[h1]? with
      | none => rw [hc] at hq1; cases hq1
      | some c => exact ⟨fe_set_S hc, by rw [fe_set hc]⟩
    · cases hg
end FG
theorem xm_fr_pI {ext : List xm_PC} {S : xm_PS} {st : List Value} {k k' : Int32 → List Value → Option xm_O} (h : ∀ x r, xm_fr ext S (k x r) (k' x r)) : xm_fr ext S (xm_pI st k) (xm_pI st k') := by
  unfold xm_pI; split <;> first | exact h _ _ | exact xm_fr_n
theorem xm_fr_pL {ext : List xm_PC} {S : xm_PS} {st : List Value} {k k' : Int64 → List Value → Option xm_O} (h : ∀ x r, xm_fr ext S (k x r) (k' x r)) : xm_fr ext S (xm_pL st k) (xm_pL st k') := by
  unfold xm_pL; split <;> first | exact h _ _ | exact xm_fr_n
theorem xm_fr_pF {ext : List xm_PC} {S : xm_PS} {st : List Value} {k k' : UInt32 → List Value → Option xm_O} (h : ∀ x r, xm_fr ext S (k x r) (k' x r)) : xm_fr ext S (xm_pF st k) (xm_pF st k') := by
  unfold xm_pF; split <;> first | exact h _ _ | exact xm_fr_n
theorem xm_fr_pD {ext : List xm_PC} {S : xm_PS} {st : List Value} {k k' : UInt64 → List Value → Option xm_O} (h : ∀ x r, xm_fr ext S (k x r) (k' x r)) : xm_fr ext S (xm_pD st k) (xm_pD st k') := by
  unfold xm_pD; split <;> first | exact h _ _ | exact xm_fr_n
theorem xm_fr_pR {ext : List xm_PC} {S : xm_PS} {st : List Value} {k k' : Nat → List Value → Option xm_O} (h : ∀ x r, xm_fr ext S (k x r) (k' x r)) : xm_fr ext S (xm_pR st k) (xm_pR st k') := by
  unfold xm_pR; split <;> first | exact h _ _ | exact xm_fr_n
theorem xm_fr_pS {ext : List xm_PC} {S : xm_PS} {st : List Value} {k k' : Nat → List Value → Option xm_O} (h : ∀ x r, xm_fr ext S (k x r) (k' x r)) : xm_fr ext S (xm_pS st k) (xm_pS st k') := by
  unfold xm_pS; split <;> first | exact h _ _ | exact xm_fr_n
theorem xm_fr_pRS {ext : List xm_PC} {S : xm_PS} {st : List Value} {k k' : Value → List Value → Option xm_O} (h : ∀ x r, xm_fr ext S (k x r) (k' x r)) : xm_fr ext S (xm_pRS st k) (xm_pRS st k') := by
  unfold xm_pRS; split <;> first | exact h _ _ | exact xm_fr_n
theorem xm_fr_lI {ext : List xm_PC} {S : xm_PS} {ls : List Value} {i : Nat} {k k' : Int32 → Option xm_O} (h : ∀ x, xm_fr ext S (k x) (k' x)) : xm_fr ext S (xm_lI ls i k) (xm_lI ls i k') := by
  unfold xm_lI; split <;> first | exact h _ | exact xm_fr_n
theorem xm_fr_lF {ext : List xm_PC} {S : xm_PS} {ls : List Value} {i : Nat} {k k' : UInt32 → Option xm_O} (h : ∀ x, xm_fr ext S (k x) (k' x)) : xm_fr ext S (xm_lF ls i k) (xm_lF ls i k') := by
  unfold xm_lF; split <;> first | exact h _ | exact xm_fr_n
theorem xm_fr_lL {ext : List xm_PC} {S : xm_PS} {ls : List Value} {i : Nat} {k k' : Int64 → Option xm_O} (h : ∀ x, xm_fr ext S (k x) (k' x)) : xm_fr ext S (xm_lL ls i k) (xm_lL ls i k') := by
  unfold xm_lL; split <;> first | exact h _ | exact xm_fr_n
theorem xm_fr_lD {ext : List xm_PC} {S : xm_PS} {ls : List Value} {i : Nat} {k k' : UInt64 → Option xm_O} (h : ∀ x, xm_fr ext S (k x) (k' x)) : xm_fr ext S (xm_lD ls i k) (xm_lD ls i k') := by
  unfold xm_lD; split <;> first | exact h _ | exact xm_fr_n
theorem xm_fr_ite {ext : List xm_PC} {S : xm_PS} {c : Prop} {i1 : Decidable c} {x x' y y' : Option xm_O} (h1 : xm_fr ext S x x') (h2 : xm_fr ext S y y') : xm_fr ext S (@ite _ c i1 x y) (@ite _ c i1 x' y') := by
  split
  · exact h1
  · exact h2
theorem xm_fr_lA {ext : List xm_PC} {S : xm_PS} {ls : List Value} {i : Nat} {k k' : Value → Option xm_O} (h : ∀ x, xm_fr ext S (k x) (k' x)) : xm_fr ext S (xm_lA ls i k) (xm_lA ls i k') := by
  unfold xm_lA; split <;> first | exact h _ | exact xm_fr_n | exact xm_fr_ite (h _) xm_fr_n
theorem xm_fr_bind {ext : List xm_PC} {S : xm_PS} {α : Type} {x x' : Option α} {k k' : α → Option xm_O} (hx : ∀ v, x = some v → x' = some v) (h : ∀ v, xm_fr ext S (k v) (k' v)) : xm_fr ext S (x.bind k) (x'.bind k') := by
  cases x with
  | none => exact xm_fr_n
  | some v => rw [hx v rfl]; exact h v
theorem xm_fr_bS {ext : List xm_PC} {S : xm_PS} {x x' : Option xm_PS} {k k' : xm_PS → Option xm_O} (hx : fe_S ext S x x') (h : ∀ S, xm_fr ext S (k S) (k' (xm_fe ext S))) : xm_fr ext S (x.bind k) (x'.bind k') := by
  cases x with
  | none => exact xm_fr_n
  | some S1 =>
    obtain ⟨⟨h1, h2⟩, h3⟩ := hx S1 rfl
    rw [h3]
    exact fun hf o ho hc => h S1 (h1.trans hf) o ho (hc.trans h2.symm)
theorem xm_fr_iB {ext : List xm_PC} {S : xm_PS} {b b' : Bool} {x x' : Option xm_O} (hb : b = true → b' = true) (h : xm_fr ext S x x') (_ : xm_fr ext S none none) : xm_fr ext S (if b = true then x else none) (if b' = true then x' else none) := by
  by_cases z : b = true
  · rw [if_pos z, if_pos (hb z)]; exact h
  · rw [if_neg z]; exact xm_fr_n
theorem xm_fr_go {ext : List xm_PC} {S : xm_PS} {k k' : Nat → Option xm_O} {pc : Nat} {off : Int} (h : ∀ t, xm_fr ext S (k t) (k' t)) : xm_fr ext S (xm_go k pc off) (xm_go k' pc off) := by
  unfold xm_go; split <;> first | exact h _ | exact xm_fr_n
theorem xm_fr_ls {ext : List xm_PC} {S : xm_PS} {k k' : Int → Option xm_O} (h : ∀ t, xm_fr ext S (k t) (k' t)) {d x : Int} : ∀ {ps : List (Int × Int)}, xm_fr ext S (xm_ls ps d x k) (xm_ls ps d x k')
  | [] => h _
  | (a, o) :: r => by unfold xm_ls; exact xm_fr_ite (h _) (xm_fr_ls h)
theorem xm_fr_ts {ext : List xm_PC} {S : xm_PS} {k k' : Int → Option xm_O} (h : ∀ t, xm_fr ext S (k t) (k' t)) {d x : Int} : ∀ {ps : List Int} {lo : Int}, xm_fr ext S (xm_ts lo ps d x k) (xm_ts lo ps d x k')
  | [], _ => h _
  | o :: r, _ => by unfold xm_ts; exact xm_fr_ite (h _) (xm_fr_ts h)
theorem xm_fr_cI {ext : List xm_PC} {S : xm_PS} {cd : ClassFile.Cond} {x y : Int32} {a a' b b' : Option xm_O} (h1 : xm_fr ext S a a') (h2 : xm_fr ext S b b') : xm_fr ext S (xm_cI cd x y a b) (xm_cI cd x y a' b') := by
  unfold xm_cI; cases cd <;> simp only <;> first | exact xm_fr_ite h1 h2 | exact xm_fr_ite h2 h1
theorem xm_fr_push {ext : List xm_PC} {S : xm_PS} {c : xm_PC} {k : Nat → xm_PS → Option xm_O} {y : Option xm_O} : xm_fr ext S (xm_push S c k) y := fun hf o ho _ => by
  unfold xm_push at ho
  rw [if_neg (fun z => by rw [hf] at z; exact absurd z.1 (by decide))] at ho
  cases ho
theorem xm_fr_rr {ext : List xm_PC} {c : Nat} {v : Option Value ⊕ Nat} {S : xm_PS} {k k' : List Value → xm_PS → Option xm_O} {kx kx' : Nat → xm_PS → Option xm_O} (h : ∀ l S, xm_fr ext S (k l S) (k' l (xm_fe ext S))) (hx : ∀ e S, xm_fr ext S (kx e S) (kx' e (xm_fe ext S))) : xm_fr ext S (xm_rr c (v, S) k kx) (xm_rr c (v, xm_fe ext S) k' kx') := by
  unfold xm_rr
  split <;> (first | unfold xm_r0 | unfold xm_rI | unfold xm_rL | unfold xm_rF | unfold xm_rD | unfold xm_rR | skip) <;> rcases v with (_ | x) | e <;> (try cases x) <;> first | exact h _ _ | exact hx _ _ | exact xm_fr_n
section FRS
variable {ext : List xm_PC} {sc : xm_Sc} {tab : xm_Segs} {hx : xm_Hx} {call call' : Nat → List Value → xm_PS → Option xm_O} {kont kont' : Nat → List Value → List Value → xm_PS → Option xm_O}
theorem xm_fr_kx (hk : ∀ pc ls st S, xm_fr ext S (kont pc ls st S) (kont' pc ls st (xm_fe ext S))) {pc : Nat} {ls : List Value} {e : Nat} {S : xm_PS} : xm_fr ext S (xm_kx tab hx kont pc ls e S) (xm_kx tab hx kont' pc ls e (xm_fe ext S)) := by
  unfold xm_kx
  split
  · exact xm_fr_s
  · refine xm_fr_ite ?_ xm_fr_n
    split
    · exact xm_fr_n
    · split <;> first | exact hk _ _ _ _ | exact xm_fr_n
theorem xm_fr_call (hc : ∀ j as S, xm_fr ext S (call j as S) (call' j as (xm_fe ext S))) (hcm : ∀ j as S, xm_up S (call j as S)) (hk : ∀ pc ls st S, xm_fr ext S (kont pc ls st S) (kont' pc ls st (xm_fe ext S))) (hm : ∀ pc ls st S, xm_up S (kont pc ls st S)) {kx kx' : Nat → xm_PS → Option xm_O} (hx : ∀ e S, xm_fr ext S (kx e S) (kx' e (xm_fe ext S))) (hxm : ∀ e S, xm_up S (kx e S))
    {pc : Nat} {ls rest : List Value} {S : xm_PS} {j : Nat} {as : List Value} {c : Nat} : xm_fr ext S (xm_call call kont kx pc ls rest S j as c) (xm_call call' kont' kx' pc ls rest (xm_fe ext S) j as c) := by
  unfold xm_call
  refine xm_fr_ite ?_ xm_fr_n
  intro hf o h ho
  cases hq : call j as S with
  | none => rw [hq] at h; cases h
  | some q =>
    rw [hq] at h
    have m1 := hcm j as S q hq
    have m2 : xm_mo q.2 o.2 := by
      rcases xm_rr_some (show xm_rr c q (fun l S => kont (pc + 3) ls (l ++ rest) S) kx = some o from h) with ⟨v, -, h1⟩ | ⟨x, -, h1⟩
      · exact hm _ _ _ _ o h1
      · exact hxm _ _ o h1
    have e1 : xm_cn q.2 = xm_cn S := Nat.le_antisymm (ho ▸ m2.1) m1.1
    have f1 : q.2.1 = false := by
      cases hb : q.2.1 with
      | false => rfl
      | true => exact absurd ((m1.2.2 hb).symm.trans hf) (by decide)
    rw [hc j as S hf q hq e1]
    exact xm_fr_rr (v := q.1) (S := q.2) (k := fun l S => kont (pc + 3) ls (l ++ rest) S) (k' := fun l S => kont' (pc + 3) ls (l ++ rest) S) (fun l S => hk _ _ _ _) hx f1 o h (ho.trans e1.symm)
set_option maxHeartbeats 4000000 in
theorem xm_fr_op (hc : ∀ j as S, xm_fr ext S (call j as S) (call' j as (xm_fe ext S))) (hcm : ∀ j as S, xm_up S (call j as S)) (hk : ∀ pc ls st S, xm_fr ext S (kont pc ls st S) (kont' pc ls st (xm_fe ext S))) (hm : ∀ pc ls st S, xm_up S (kont pc ls st S)) {pc a b c d : Nat} {ls st : List Value} {S : xm_PS} {ins : Instr} : xm_fr ext S (xm_op sc tab hx call kont pc a b c d ls st S ins) (xm_op sc tab hx call' kont' pc a b c d ls st (xm_fe ext S) ins) := by
  have hx' : ∀ pc ls e S, xm_fr ext S (xm_kx tab hx kont pc ls e S) (xm_kx tab hx kont' pc ls e (xm_fe ext S)) := fun _ _ _ _ => xm_fr_kx hk
  have hxu : ∀ pc ls e S, xm_up S (xm_kx tab hx kont pc ls e S) := fun _ _ _ _ => xm_up_kx hm
  cases ins
  case aload => dsimp only [xm_op]; exact (xm_fr_lA fun _ => (hk _ _ _ _))
  case aload_n => dsimp only [xm_op]; exact (xm_fr_lA fun _ => (hk _ _ _ _))
  case iload => exact (xm_fr_lI fun _ => (hk _ _ _ _))
  case iload_n => exact (xm_fr_lI fun _ => (hk _ _ _ _))
  case lload => dsimp only [xm_op]; exact (xm_fr_lL fun _ => (hk _ _ _ _))
  case fload => dsimp only [xm_op]; exact (xm_fr_lF fun _ => (hk _ _ _ _))
  case fload_n => dsimp only [xm_op]; exact (xm_fr_lF fun _ => (hk _ _ _ _))
  case lload_n => exact (xm_fr_lL fun _ => (hk _ _ _ _))
  case dload => exact (xm_fr_lD fun _ => (hk _ _ _ _))
  case dload_n => exact (xm_fr_lD fun _ => (hk _ _ _ _))
  case istore => exact (xm_fr_pI fun _ _ => (hk _ _ _ _))
  case istore_n => exact (xm_fr_pI fun _ _ => (hk _ _ _ _))
  case astore => exact (xm_fr_pR fun _ _ => (hk _ _ _ _))
  case astore_n => exact (xm_fr_pR fun _ _ => (hk _ _ _ _))
  case fstore => dsimp only [xm_op]; exact (xm_fr_pF fun _ _ => (hk _ _ _ _))
  case lstore => dsimp only [xm_op]; exact (xm_fr_pL fun _ _ => (xm_fr_ite (hk _ _ _ _) xm_fr_n))
  case lstore_n => dsimp only [xm_op]; exact (xm_fr_pL fun _ _ => (xm_fr_ite (hk _ _ _ _) xm_fr_n))
  case dstore => exact (xm_fr_pD fun _ _ => (xm_fr_ite (hk _ _ _ _) xm_fr_n))
  case dstore_n => exact (xm_fr_pD fun _ _ => (xm_fr_ite (hk _ _ _ _) xm_fr_n))
  case iinc => exact (xm_fr_lI fun _ => (hk _ _ _ _))
  case iconst => exact (hk _ _ _ _)
  case bipush => exact (hk _ _ _ _)
  case sipush => exact (hk _ _ _ _)
  case lconst => exact (hk _ _ _ _)
  case fconst => exact (hk _ _ _ _)
  case dconst => exact (hk _ _ _ _)
  case ldc =>
    dsimp only [xm_op]
    split
    · exact (hk _ _ _ _)
    · exact (hk _ _ _ _)
  case ldc_w =>
    dsimp only [xm_op]
    split
    · exact (hk _ _ _ _)
    · exact (hk _ _ _ _)
  case ldc2_w => exact (hk _ _ _ _)
  case iadd => exact (xm_fr_pI fun _ _ => (xm_fr_pI fun _ _ => (hk _ _ _ _)))
  case isub => exact (xm_fr_pI fun _ _ => (xm_fr_pI fun _ _ => (hk _ _ _ _)))
  case imul => exact (xm_fr_pI fun _ _ => (xm_fr_pI fun _ _ => (hk _ _ _ _)))
  case idiv => exact (xm_fr_pI fun _ _ => (xm_fr_pI fun _ _ => (xm_fr_ite xm_fr_n (hk _ _ _ _))))
  case irem => exact (xm_fr_pI fun _ _ => (xm_fr_pI fun _ _ => (xm_fr_ite xm_fr_n (hk _ _ _ _))))
  case iand => exact (xm_fr_pI fun _ _ => (xm_fr_pI fun _ _ => (hk _ _ _ _)))
  case ior => exact (xm_fr_pI fun _ _ => (xm_fr_pI fun _ _ => (hk _ _ _ _)))
  case ixor => exact (xm_fr_pI fun _ _ => (xm_fr_pI fun _ _ => (hk _ _ _ _)))
  case ishl => exact (xm_fr_pI fun _ _ => (xm_fr_pI fun _ _ => (hk _ _ _ _)))
  case ishr => exact (xm_fr_pI fun _ _ => (xm_fr_pI fun _ _ => (hk _ _ _ _)))
  case iushr => exact (xm_fr_pI fun _ _ => (xm_fr_pI fun _ _ => (hk _ _ _ _)))
  case i2l => exact (xm_fr_pI fun _ _ => (hk _ _ _ _))
  case l2i => exact (xm_fr_pL fun _ _ => (hk _ _ _ _))
  case i2b => exact (xm_fr_pI fun _ _ => (hk _ _ _ _))
  case i2c => exact (xm_fr_pI fun _ _ => (hk _ _ _ _))
  case i2f => exact (xm_fr_pI fun _ _ => (hk _ _ _ _))
  case i2d => exact (xm_fr_pI fun _ _ => (hk _ _ _ _))
  case f2d => exact (xm_fr_pF fun _ _ => (xm_fr_ite (hk _ _ _ _) xm_fr_n))
  case fdiv => exact (xm_fr_pF fun _ _ => (xm_fr_pF fun _ _ => (xm_fr_ite (hk _ _ _ _) xm_fr_n)))
  case ddiv => exact (xm_fr_pD fun _ _ => (xm_fr_pD fun _ _ => (xm_fr_ite (hk _ _ _ _) xm_fr_n)))
  case dcmp => exact (xm_fr_pD fun _ _ => (xm_fr_pD fun _ _ => (hk _ _ _ _)))
  case ladd => exact (xm_fr_pL fun _ _ => (xm_fr_pL fun _ _ => (hk _ _ _ _)))
  case lsub => exact (xm_fr_pL fun _ _ => (xm_fr_pL fun _ _ => (hk _ _ _ _)))
  case lmul => exact (xm_fr_pL fun _ _ => (xm_fr_pL fun _ _ => (hk _ _ _ _)))
  case land => exact (xm_fr_pL fun _ _ => (xm_fr_pL fun _ _ => (hk _ _ _ _)))
  case lor => exact (xm_fr_pL fun _ _ => (xm_fr_pL fun _ _ => (hk _ _ _ _)))
  case lcmp => exact (xm_fr_pL fun _ _ => (xm_fr_pL fun _ _ => (hk _ _ _ _)))
  case dup => exact (by dsimp only [xm_op]; split <;> first | exact hk _ _ _ _ | exact xm_fr_n)
  case dup2 => exact (by dsimp only [xm_op]; split <;> first | exact hk _ _ _ _ | exact xm_fr_n)
  case pop => dsimp only [xm_op]; split <;> first | exact hk _ _ _ _ | exact xm_fr_n
  case dup_x1 => dsimp only [xm_op]; split <;> first | exact hk _ _ _ _ | exact xm_fr_n
  case aconst_null => dsimp only [xm_op]; exact hk _ _ _ _
  case ifnull => dsimp only [xm_op]; split <;> first | exact hk _ _ _ _ | exact xm_fr_n
  case ifnonnull =>
    dsimp only [xm_op]
    split
    · exact (xm_fr_go fun _ => hk _ _ _ _)
    · exact (xm_fr_ite (xm_fr_go fun _ => hk _ _ _ _) xm_fr_n)
    · exact xm_fr_n
  case checkcast => dsimp only [xm_op]; exact (xm_fr_pR fun _ _ => (xm_fr_bind (by first | exact fe_gI | exact fe_gR | exact fe_gA | exact fe_aI | exact fe_aL | exact fe_aQ | exact fe_len) fun _ => (hk _ _ _ _)))
  case fcmp => dsimp only [xm_op]; exact (xm_fr_pF fun _ _ => (xm_fr_pF fun _ _ => (hk _ _ _ _)))
  case ineg => dsimp only [xm_op]; exact (xm_fr_pI fun _ _ => (hk _ _ _ _))
  case goto => exact (xm_fr_go fun _ => hk _ _ _ _)
  case ifCond => exact (xm_fr_pI fun _ _ => (xm_fr_cI (xm_fr_go fun _ => hk _ _ _ _) (hk _ _ _ _)))
  case if_icmp => exact (xm_fr_pI fun _ _ => (xm_fr_pI fun _ _ => (xm_fr_cI (xm_fr_go fun _ => hk _ _ _ _) (hk _ _ _ _))))
  case tableswitch => exact (xm_fr_pI fun _ _ => (xm_fr_ts fun _ => xm_fr_go fun _ => hk _ _ _ _))
  case lookupswitch => exact (xm_fr_pI fun _ _ => (xm_fr_ls fun _ => xm_fr_go fun _ => hk _ _ _ _))
  case getfield =>
    dsimp only [xm_op]
    split
    · exact (xm_fr_pR fun _ _ => (xm_fr_bind (by first | exact fe_gI | exact fe_gR | exact fe_gA | exact fe_aI | exact fe_aL | exact fe_aQ | exact fe_len) fun _ => (hk _ _ _ _)))
    · exact (xm_fr_pR fun _ _ => (xm_fr_bind (by first | exact fe_gI | exact fe_gR | exact fe_gA | exact fe_aI | exact fe_aL | exact fe_aQ | exact fe_len) fun _ => (hk _ _ _ _)))
    · split
      · exact (xm_fr_bind (by first | exact fe_gI | exact fe_gR | exact fe_gA | exact fe_aI | exact fe_aL | exact fe_aQ | exact fe_len) fun _ => (hk _ _ _ _))
      · exact (xm_fr_ite (hk _ _ _ _) xm_fr_n)
      · exact xm_fr_n
    · split
      · exact (xm_fr_bind (by first | exact fe_gI | exact fe_gR | exact fe_gA | exact fe_aI | exact fe_aL | exact fe_aQ | exact fe_len) fun _ => (hk _ _ _ _))
      · exact (xm_fr_ite (hk _ _ _ _) xm_fr_n)
      · exact xm_fr_n
  case putfield =>
    dsimp only [xm_op]
    split
    · exact (xm_fr_pI fun _ _ => (xm_fr_pR fun _ _ => (xm_fr_bS (by first | exact fe_sF | exact fe_wI | exact fe_wL | exact fe_wQ | exact fe_cp | exact fe_cpT) fun _ => (hk _ _ _ _))))
    · exact (xm_fr_pR fun _ _ => (xm_fr_pR fun _ _ => (xm_fr_bS (by first | exact fe_sF | exact fe_wI | exact fe_wL | exact fe_wQ | exact fe_cp | exact fe_cpT) fun _ => (hk _ _ _ _))))
    · exact (xm_fr_pI fun _ _ => (xm_fr_pR fun _ _ => (xm_fr_ite (xm_fr_bS (by first | exact fe_sF | exact fe_wI | exact fe_wL | exact fe_wQ | exact fe_cp | exact fe_cpT) fun _ => (hk _ _ _ _)) xm_fr_n)))
    · exact (xm_fr_pI fun _ _ => (xm_fr_pR fun _ _ => (xm_fr_ite (xm_fr_bS (by first | exact fe_sF | exact fe_wI | exact fe_wL | exact fe_wQ | exact fe_cp | exact fe_cpT) fun _ => (hk _ _ _ _)) xm_fr_n)))
  case getstatic => dsimp only [xm_op]; split <;> exact hk _ _ _ _
  case iaload =>
    dsimp only [xm_op]
    split
    · exact (xm_fr_pI fun _ _ => (xm_fr_pR fun _ _ => (xm_fr_bind (by first | exact fe_gI | exact fe_gR | exact fe_gA | exact fe_aI | exact fe_aL | exact fe_aQ | exact fe_len) fun _ => (hk _ _ _ _))))
    · exact (xm_fr_pI fun _ _ => (xm_fr_pS fun _ _ => (xm_fr_ite (hk _ _ _ _) xm_fr_n)))
  case baload =>
    dsimp only [xm_op]
    split
    · exact (xm_fr_pI fun _ _ => (xm_fr_pR fun _ _ => (xm_fr_bind (by first | exact fe_gI | exact fe_gR | exact fe_gA | exact fe_aI | exact fe_aL | exact fe_aQ | exact fe_len) fun _ => (hk _ _ _ _))))
    · exact (xm_fr_pI fun _ _ => (xm_fr_pR fun _ _ => (xm_fr_bind (by first | exact fe_gI | exact fe_gR | exact fe_gA | exact fe_aI | exact fe_aL | exact fe_aQ | exact fe_len) fun _ => (hk _ _ _ _))))
    · refine (xm_fr_pI fun _ _ => ?_)
      split
      · exact (xm_fr_bind (by first | exact fe_gI | exact fe_gR | exact fe_gA | exact fe_aI | exact fe_aL | exact fe_aQ | exact fe_len) fun _ => (hk _ _ _ _))
      · exact (xm_fr_ite (hk _ _ _ _) xm_fr_n)
      · exact xm_fr_n
  case laload => exact (xm_fr_pI fun _ _ => (xm_fr_pR fun _ _ => (xm_fr_bind (by first | exact fe_gI | exact fe_gR | exact fe_gA | exact fe_aI | exact fe_aL | exact fe_aQ | exact fe_len) fun _ => (hk _ _ _ _))))
  case aaload => dsimp only [xm_op]; split <;> exact (xm_fr_pI fun _ _ => (xm_fr_pR fun _ _ => (xm_fr_bind (by first | exact fe_gI | exact fe_gR | exact fe_gA | exact fe_aI | exact fe_aL | exact fe_aQ | exact fe_len) fun _ => (hk _ _ _ _))))
  case iastore => exact (xm_fr_pI fun _ _ => (xm_fr_pI fun _ _ => (xm_fr_pR fun _ _ => (xm_fr_bS (by first | exact fe_sF | exact fe_wI | exact fe_wL | exact fe_wQ | exact fe_cp | exact fe_cpT) fun _ => (hk _ _ _ _)))))
  case bastore =>
    dsimp only [xm_op]
    split
    · exact (xm_fr_pI fun _ _ => (xm_fr_pI fun _ _ => (xm_fr_pR fun _ _ => (xm_fr_bS (by first | exact fe_sF | exact fe_wI | exact fe_wL | exact fe_wQ | exact fe_cp | exact fe_cpT) fun _ => (hk _ _ _ _)))))
    · exact (xm_fr_pI fun _ _ => (xm_fr_pI fun _ _ => (xm_fr_pR fun _ _ => (xm_fr_ite (xm_fr_bS (by first | exact fe_sF | exact fe_wI | exact fe_wL | exact fe_wQ | exact fe_cp | exact fe_cpT) fun _ => (hk _ _ _ _)) xm_fr_n))))
  case lastore => exact (xm_fr_pL fun _ _ => (xm_fr_pI fun _ _ => (xm_fr_pR fun _ _ => (xm_fr_bS (by first | exact fe_sF | exact fe_wI | exact fe_wL | exact fe_wQ | exact fe_cp | exact fe_cpT) fun _ => (hk _ _ _ _)))))
  case aastore => dsimp only [xm_op]; split <;> exact (xm_fr_pR fun _ _ => (xm_fr_pI fun _ _ => (xm_fr_pR fun _ _ => (xm_fr_iB (by first | exact fe_isO | exact fe_sA) (xm_fr_bS (by first | exact fe_sF | exact fe_wI | exact fe_wL | exact fe_wQ | exact fe_cp | exact fe_cpT) fun _ => (hk _ _ _ _)) xm_fr_n))))
  case arraylength =>
    dsimp only [xm_op]
    split
    · exact (xm_fr_pR fun _ _ => (xm_fr_bind (by first | exact fe_gI | exact fe_gR | exact fe_gA | exact fe_aI | exact fe_aL | exact fe_aQ | exact fe_len) fun _ => (hk _ _ _ _)))
    · split
      · exact (xm_fr_bind (by first | exact fe_gI | exact fe_gR | exact fe_gA | exact fe_aI | exact fe_aL | exact fe_aQ | exact fe_len) fun _ => (hk _ _ _ _))
      · exact (xm_fr_ite (hk _ _ _ _) xm_fr_n)
      · exact xm_fr_n
    · exact (xm_fr_pS fun _ _ => (xm_fr_ite (hk _ _ _ _) xm_fr_n))
  case newarray =>
    dsimp only [xm_op]
    split
    · exact (xm_fr_pI fun _ _ => (xm_fr_ite xm_fr_n (xm_fr_ite (xm_fr_push) xm_fr_n)))
    · exact (xm_fr_pI fun _ _ => (xm_fr_ite xm_fr_n (xm_fr_ite (xm_fr_push) xm_fr_n)))
  case anewarray => exact (xm_fr_pI fun _ _ => (xm_fr_ite xm_fr_n (xm_fr_ite (xm_fr_push) xm_fr_n)))
  case new =>
    dsimp only [xm_op]
    split
    · exact xm_fr_push
    · exact xm_fr_x
  case invokestatic =>
    dsimp only [xm_op]
    split
    · exact (xm_fr_ite (xm_fr_call (kx := xm_kx tab hx kont pc ls) (kx' := xm_kx tab hx kont' pc ls) hc hcm hk hm (fun _ _ => hx' _ _ _ _) (fun _ _ => hxu _ _ _ _)) xm_fr_n)
    · exact (xm_fr_pI fun _ _ => (xm_fr_pI fun _ _ => (xm_fr_ite (hk _ _ _ _) xm_fr_n)))
    · exact (xm_fr_pI fun _ _ => (xm_fr_pI fun _ _ => (xm_fr_ite (hk _ _ _ _) xm_fr_n)))
    · refine (xm_fr_pI fun _ _ => (xm_fr_pI fun _ _ => (xm_fr_pR fun _ _ => (xm_fr_pI fun _ _ => ?_))))
      split
      · exact (xm_fr_ite (xm_fr_bS (by first | exact fe_sF | exact fe_wI | exact fe_wL | exact fe_wQ | exact fe_cp | exact fe_cpT) fun _ => (hk _ _ _ _)) xm_fr_n)
      · exact (xm_fr_ite (xm_fr_bS (by first | exact fe_sF | exact fe_wI | exact fe_wL | exact fe_wQ | exact fe_cp | exact fe_cpT) fun _ => (hk _ _ _ _)) xm_fr_n)
      · exact xm_fr_n
    · exact (xm_fr_pD fun _ _ => (xm_fr_ite (hk _ _ _ _) xm_fr_n))
    · exact (xm_fr_pF fun _ _ => (xm_fr_ite (hk _ _ _ _) xm_fr_n))
  case invokevirtual =>
    dsimp only [xm_op]
    split
    · exact (xm_fr_pR fun _ _ => (xm_fr_bind (by first | exact fe_gI | exact fe_gR | exact fe_gA | exact fe_aI | exact fe_aL | exact fe_aQ | exact fe_len) fun _ => (xm_fr_ite (xm_fr_push) xm_fr_n)))
    · exact (xm_fr_ite (xm_fr_pR fun _ _ => (xm_fr_iB (by first | exact fe_isO | exact fe_sA) (xm_fr_call (kx := xm_kx tab hx kont pc ls) (kx' := xm_kx tab hx kont' pc ls) hc hcm hk hm (fun _ _ => hx' _ _ _ _) (fun _ _ => hxu _ _ _ _)) xm_fr_n)) xm_fr_n)
    · exact (xm_fr_ite (xm_fr_pRS fun _ _ => (xm_fr_iB (by first | exact fe_isO | exact fe_sA) (xm_fr_call (kx := xm_kx tab hx kont pc ls) (kx' := xm_kx tab hx kont' pc ls) hc hcm hk hm (fun _ _ => hx' _ _ _ _) (fun _ _ => hxu _ _ _ _)) xm_fr_n)) xm_fr_n)
  case invokespecial =>
    dsimp only [xm_op]
    split
    · exact (xm_fr_ite (xm_fr_pR fun _ _ => (xm_fr_call hc hcm hk hm (fun _ _ => xm_fr_n) (fun _ _ => xm_up_n))) xm_fr_n)
    · exact (xm_fr_pR fun _ _ => (xm_fr_ite (hk _ _ _ _) xm_fr_n))
    · exact (xm_fr_ite (xm_fr_pR fun _ _ => (xm_fr_iB (by first | exact fe_isO | exact fe_sA) (xm_fr_call (kx := xm_kx tab hx kont pc ls) (kx' := xm_kx tab hx kont' pc ls) hc hcm hk hm (fun _ _ => hx' _ _ _ _) (fun _ _ => hxu _ _ _ _)) xm_fr_n)) xm_fr_n)
  case ireturn =>
    refine xm_fr_pI fun _ _ => xm_fr_ite ?_ xm_fr_n
    split
    · exact xm_fr_s
    · exact xm_fr_ite xm_fr_s xm_fr_n
    · exact xm_fr_ite xm_fr_s xm_fr_n
    · exact xm_fr_ite xm_fr_s xm_fr_n
  case lreturn => exact (xm_fr_pL fun _ _ => (xm_fr_ite xm_fr_s xm_fr_n))
  case areturn => dsimp only [xm_op]; exact (xm_fr_pR fun _ _ => (xm_fr_ite xm_fr_s xm_fr_n))
  case freturn => exact (xm_fr_pF fun _ _ => (xm_fr_ite xm_fr_s xm_fr_n))
  case dreturn => exact (xm_fr_pD fun _ _ => (xm_fr_ite xm_fr_s xm_fr_n))
  case return_ => exact (xm_fr_ite xm_fr_s xm_fr_n)
  all_goals exact xm_fr_n
theorem xm_fr_step (hc : ∀ j as S, xm_fr ext S (call j as S) (call' j as (xm_fe ext S))) (hcm : ∀ j as S, xm_up S (call j as S)) (hk : ∀ pc ls st S, xm_fr ext S (kont pc ls st S) (kont' pc ls st (xm_fe ext S))) (hm : ∀ pc ls st S, xm_up S (kont pc ls st S)) {pc : Nat} {ls st : List Value} {S : xm_PS} : xm_fr ext S (xm_step sc tab hx call kont pc ls st S) (xm_step sc tab hx call' kont' pc ls st (xm_fe ext S)) := by
  unfold xm_step; split
  · exact xm_fr_n
  · exact xm_fr_op hc hcm hk hm
end FRS
theorem xm_run_fr {ext : List xm_PC} {sc : xm_Sc} {M : Nat → Option xm_MI} : ∀ (n d i pc : Nat) (ls st : List Value) (S : xm_PS), xm_fr ext S (xm_run sc M n d i pc ls st S) (xm_run sc M n d i pc ls st (xm_fe ext S))
  | 0, _, _, _, _, _, _ => xm_fr_n
  | n + 1, d, i, pc, ls, st, S => by
    cases hM : M i with
    | none =>
      unfold xm_run
      rw [hM]
      exact xm_fr_n
    | some q =>
      rw [xm_run_s hM, xm_run_s hM]
      refine xm_fr_step (fun j as S => ?_) (fun j as S => ?_) (fun pc ls st S => xm_run_fr n d i pc ls st S) (fun pc ls st S => xm_up_run n d i pc ls st S)
      · unfold xm_c
        cases d with
        | zero => exact xm_fr_n
        | succ d =>
          dsimp only
          cases M j with
          | none => exact xm_fr_n
          | some r => exact xm_fr_ite (xm_run_fr n d j 0 _ [] S) xm_fr_n
      · unfold xm_c
        cases d with
        | zero => exact xm_up_n
        | succ d =>
          dsimp only
          cases M j with
          | none => exact xm_up_n
          | some r => exact xm_up_ite (xm_up_run n d j 0 _ [] S) xm_up_n
/-- a call of the class's, with the law's cells behind -/
theorem xm_C_fr {ext : List xm_PC} {sc : xm_Sc} {M : Nat → Option xm_MI} {d j : Nat} {as : List Value} {S S' : xm_PS} {v : Option Value ⊕ Nat} (hf : S.1 = false) (hn : xm_cn S' = xm_cn S) (h : xm_C sc M d j as S = some (v, S')) : xm_C sc M d j as (xm_fe ext S) = some (v, xm_fe ext S') := by
  unfold xm_C at h ⊢
  cases d with
  | zero => cases h
  | succ d =>
    dsimp only at h ⊢
    cases hM : M j with
    | none => rw [hM] at h; cases h
    | some r =>
      rw [hM] at h
      dsimp only at h ⊢
      by_cases z : xm_lo r as = true
      · rw [if_pos z] at h ⊢
        obtain ⟨n, hr⟩ := xm_R_iff.mp h
        exact xm_R_iff.mpr ⟨n, xm_run_fr n d j 0 _ [] S hf _ hr hn⟩
      · rw [if_neg z] at h; cases h
def xl0 : Nat → Nat → Int64 := fun _ _ => 0
/-- the law's heap: the class's cells, and the law's behind -/
def xL (w : xW) (ext : List xm_PC) : xm_PS := (true, 0, xcells w xl0 ++ ext)
theorem xcells_len {w : xW} {l : Nat → Nat → Int64} : (xcells w l).length = 191 := by
  unfold xcells xcF
  have hA : ∀ m, (xcA m).length = 1 := fun _ => rfl
  have hP : ∀ h p, (xcP h p).length = 6 := fun _ _ => rfl
  have hB : ∀ m, (xcB m).length = 5 := fun _ => rfl
  have hC : ∀ m, (xcC m).length = 2 := fun _ => rfl
  have hD : ∀ m, (xcD m).length = 2 := fun _ => rfl
  have hS : ∀ h s, (xcS h s).length = 13 := fun _ _ => rfl
  have hM : ∀ m l, (xcM m l).length = 0 := fun _ _ => rfl
  simp only [List.length_append, hA, hP, hB, hC, hD, hS, hM]
theorem xL_C {w w' : xW} {ext : List xm_PC} {sc : xm_Sc} {d j : Nat} {as : List Value} {v : Option Value ⊕ Nat} (h : xm_C sc xt_M d j as (xem w xl0 0) = some (v, xem w' xl0 0)) : xm_C sc xt_M d j as (xL w ext) = some (v, xL w' ext) :=
  xm_C_fr (S := xem w xl0 0) (S' := xem w' xl0 0) rfl rfl h
/-- the class's cells say nothing of group 3: it is free -/
theorem xcells_3 {w : xW} {l : Nat → Nat → Int64} {s : xG} : xcells (xu w 3 s) l = xcells w l := by
  unfold xcells
  rw [xu_ne (show (0 : Nat) ≠ 3 by decide), xu_ne (show (1 : Nat) ≠ 3 by decide), xu_ne (show (2 : Nat) ≠ 3 by decide)]
  unfold xcF xcM
  have e : (fun k => xcS (xh k) (xu w 3 s (k + 5))) = fun k => xcS (xh k) (w (k + 5)) := funext fun k => by rw [xu_ne (show k + 5 ≠ 3 by omega)]
  rw [e]
theorem xem_3 {w : xW} {l : Nat → Nat → Int64} {t : Nat} {s : xG} : xem (xu w 3 s) l t = xem w l t := by unfold xem; rw [xcells_3]
theorem xL_3 {w : xW} {ext : List xm_PC} {s : xG} : xL (xu w 3 s) ext = xL w ext := by unfold xL; rw [xcells_3]
