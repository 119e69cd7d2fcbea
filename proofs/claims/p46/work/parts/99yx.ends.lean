/-! ARRAYS OF REFERENCES HOLD NOTHING PAST THEIR END -/
def xm_okc (c : xm_PC) : Prop := ∀ ty n f, c = .inl (ty, n, .inr (.inr (.inr (.inr f)))) → ∀ i, n ≤ i → f i = none
def xm_fQ (S : xm_PS) : Prop := ∀ (k : Nat) (c : xm_PC), S.2.2[k]? = some c → xm_okc c
def xm_fm (S S' : xm_PS) : Prop := xm_fQ S → xm_fQ S'
theorem xm_fm.rf {S : xm_PS} : xm_fm S S := id
theorem xm_fm.tr {S S1 S2 : xm_PS} (h : xm_fm S S1) (h' : xm_fm S1 S2) : xm_fm S S2 := fun q => h' (h q)
def xm_fu (S : xm_PS) (x : Option xm_O) : Prop := ∀ o, x = some o → xm_fm S o.2
theorem xm_fu_n {S : xm_PS} : xm_fu S none := fun _ h => nomatch h
theorem xm_fu_s {S : xm_PS} {v : Option Value ⊕ Nat} : xm_fu S (some (v, S)) := fun _ h => by cases h; exact xm_fm.rf
theorem xm_fu_x {S : xm_PS} {v : Option Value ⊕ Nat} : xm_fu S (some (v, (S.1, S.2.1 + 1, S.2.2))) := fun _ h => by
  cases h
  exact id
theorem xm_fu_f {S : xm_PS} {x : Option xm_O} (h : xm_fu (false, S.2) x) : xm_fu S x := fun o ho => h o ho
theorem xm_fu_tr {S S1 : xm_PS} {x : Option xm_O} (hm : xm_fm S S1) (h : xm_fu S1 x) : xm_fu S x := fun o ho => hm.tr (h o ho)
theorem xm_fu_pI {S : xm_PS} {st : List Value} {k : Int32 → List Value → Option xm_O} (h : ∀ x r, xm_fu S (k x r)) : xm_fu S (xm_pI st k) := by
  unfold xm_pI; split <;> first | exact h _ _ | exact xm_fu_n
theorem xm_fu_pL {S : xm_PS} {st : List Value} {k : Int64 → List Value → Option xm_O} (h : ∀ x r, xm_fu S (k x r)) : xm_fu S (xm_pL st k) := by
  unfold xm_pL; split <;> first | exact h _ _ | exact xm_fu_n
theorem xm_fu_pF {S : xm_PS} {st : List Value} {k : UInt32 → List Value → Option xm_O} (h : ∀ x r, xm_fu S (k x r)) : xm_fu S (xm_pF st k) := by
  unfold xm_pF; split <;> first | exact h _ _ | exact xm_fu_n
theorem xm_fu_pD {S : xm_PS} {st : List Value} {k : UInt64 → List Value → Option xm_O} (h : ∀ x r, xm_fu S (k x r)) : xm_fu S (xm_pD st k) := by
  unfold xm_pD; split <;> first | exact h _ _ | exact xm_fu_n
theorem xm_fu_pR {S : xm_PS} {st : List Value} {k : Nat → List Value → Option xm_O} (h : ∀ x r, xm_fu S (k x r)) : xm_fu S (xm_pR st k) := by
  unfold xm_pR; split <;> first | exact h _ _ | exact xm_fu_n
theorem xm_fu_pS {S : xm_PS} {st : List Value} {k : Nat → List Value → Option xm_O} (h : ∀ x r, xm_fu S (k x r)) : xm_fu S (xm_pS st k) := by
  unfold xm_pS; split <;> first | exact h _ _ | exact xm_fu_n
theorem xm_fu_pRS {S : xm_PS} {st : List Value} {k : Value → List Value → Option xm_O} (h : ∀ x r, xm_fu S (k x r)) : xm_fu S (xm_pRS st k) := by
  unfold xm_pRS; split <;> first | exact h _ _ | exact xm_fu_n
theorem xm_fu_lI {S : xm_PS} {ls : List Value} {i : Nat} {k : Int32 → Option xm_O} (h : ∀ x, xm_fu S (k x)) : xm_fu S (xm_lI ls i k) := by
  unfold xm_lI; split <;> first | exact h _ | exact xm_fu_n
theorem xm_fu_lL {S : xm_PS} {ls : List Value} {i : Nat} {k : Int64 → Option xm_O} (h : ∀ x, xm_fu S (k x)) : xm_fu S (xm_lL ls i k) := by
  unfold xm_lL; split <;> first | exact h _ | exact xm_fu_n
theorem xm_fu_lF {S : xm_PS} {ls : List Value} {i : Nat} {k : UInt32 → Option xm_O} (h : ∀ x, xm_fu S (k x)) : xm_fu S (xm_lF ls i k) := by
  unfold xm_lF; split <;> first | exact h _ | exact xm_fu_n
theorem xm_fu_lD {S : xm_PS} {ls : List Value} {i : Nat} {k : UInt64 → Option xm_O} (h : ∀ x, xm_fu S (k x)) : xm_fu S (xm_lD ls i k) := by
  unfold xm_lD; split <;> first | exact h _ | exact xm_fu_n
theorem xm_fu_ite {S : xm_PS} {c : Prop} {i1 : Decidable c} {x y : Option xm_O} (h1 : xm_fu S x) (h2 : xm_fu S y) : xm_fu S (@ite _ c i1 x y) := by
  split
  · exact h1
  · exact h2
theorem xm_fu_lA {S : xm_PS} {ls : List Value} {i : Nat} {k : Value → Option xm_O} (h : ∀ x, xm_fu S (k x)) : xm_fu S (xm_lA ls i k) := by
  unfold xm_lA; split <;> first | exact h _ | exact xm_fu_n | exact xm_fu_ite (h _) xm_fu_n
theorem xm_fu_bind {α : Type} {S : xm_PS} {x : Option α} {k : α → Option xm_O} (h : ∀ v, xm_fu S (k v)) : xm_fu S (x.bind k) := by
  cases x with
  | none => exact xm_fu_n
  | some v => exact h v
theorem xm_fu_go {S : xm_PS} {k : Nat → Option xm_O} {pc : Nat} {off : Int} (h : ∀ t, xm_fu S (k t)) : xm_fu S (xm_go k pc off) := by
  unfold xm_go; split <;> first | exact h _ | exact xm_fu_n
theorem xm_fu_ls {S : xm_PS} {k : Int → Option xm_O} (h : ∀ t, xm_fu S (k t)) {d x : Int} : ∀ {ps : List (Int × Int)}, xm_fu S (xm_ls ps d x k)
  | [] => h _
  | (a, o) :: r => by unfold xm_ls; exact xm_fu_ite (h _) (xm_fu_ls h)
theorem xm_fu_ts {S : xm_PS} {k : Int → Option xm_O} (h : ∀ t, xm_fu S (k t)) {d x : Int} : ∀ {ps : List Int} {lo : Int}, xm_fu S (xm_ts lo ps d x k)
  | [], _ => h _
  | o :: r, _ => by unfold xm_ts; exact xm_fu_ite (h _) (xm_fu_ts h)
theorem xm_fu_cI {S : xm_PS} {cd : ClassFile.Cond} {x y : Int32} {a b : Option xm_O} (h1 : xm_fu S a) (h2 : xm_fu S b) : xm_fu S (xm_cI cd x y a b) := by
  unfold xm_cI; cases cd <;> simp only <;> first | exact xm_fu_ite h1 h2 | exact xm_fu_ite h2 h1
theorem xm_fu_push {S : xm_PS} {c : xm_PC} {k : Nat → xm_PS → Option xm_O} (hc : xm_okc c) (h : ∀ a S, xm_fu S (k a S)) : xm_fu S (xm_push S c k) := by
  unfold xm_push
  refine xm_fu_ite (xm_fu_tr (S1 := (S.1, S.2.1, S.2.2 ++ [c])) ?_ (h _ _)) xm_fu_n
  intro hQ k c' e
  have e' : (S.2.2 ++ [c])[k]? = some c' := e
  by_cases hk : k < S.2.2.length
  · rw [List.getElem?_append_left hk] at e'
    exact hQ k c' e'
  · rw [List.getElem?_append_right (Nat.le_of_not_lt hk)] at e'
    have : c' = c := by
      cases hz : k - S.2.2.length with
      | zero =>
        rw [hz] at e'
        exact (Option.some.inj e').symm
      | succ z =>
        rw [hz] at e'
        cases e'
    rw [this]
    exact hc
theorem xm_fset {S : xm_PS} {h : Nat} {c1 : xm_PC} (hc : xm_fQ S → xm_okc c1) : xm_fm S (xm_set S h c1) := by
  intro hQ k c' e
  have e' : (S.2.2.set h c1)[k]? = some c' := e
  rw [List.getElem?_set] at e'
  split at e'
  · split at e'
    · cases e'
      exact hc hQ
    · cases e'
  · exact hQ k c' e'
theorem xm_okc_r {c : Nat} {vs : List Value} : xm_okc (.inr (c, vs)) := fun _ _ _ e => nomatch e
theorem xm_okc_i {t n : Nat} {f : Nat → Int32} : xm_okc (.inl (t, n, .inl f)) := fun _ _ _ e => nomatch e
theorem xm_okc_l {t n : Nat} {f : Nat → Int64} : xm_okc (.inl (t, n, .inr (.inl f))) := fun _ _ _ e => nomatch e
theorem xm_fu_sF {S : xm_PS} {h ci k : Nat} {v : Value} {kk : xm_PS → Option xm_O} (hk : ∀ S1, xm_fu S1 (kk S1)) : xm_fu S ((xm_sF S h ci k v).bind kk) := fun o ho => by
  obtain ⟨S1, hg, ho⟩ := xm_bind_some ho
  obtain ⟨fs, hc, hf, rfl⟩ := xm_sF_some hg
  exact xm_fm.tr (xm_fset fun _ => xm_okc_r) (hk _ o ho)
theorem xm_fu_wI {S : xm_PS} {h t : Nat} {i x : Int32} {kk : xm_PS → Option xm_O} (hk : ∀ S1, xm_fu S1 (kk S1)) : xm_fu S ((xm_wI S h t i x).bind kk) := fun o ho => by
  obtain ⟨S1, hg, ho⟩ := xm_bind_some ho
  obtain ⟨n, f, hc, hf, rfl⟩ := xm_wI_some hg
  exact xm_fm.tr (xm_fset fun _ => xm_okc_i) (hk _ o ho)
theorem xm_fu_wL {S : xm_PS} {h : Nat} {i : Int32} {x : Int64} {kk : xm_PS → Option xm_O} (hk : ∀ S1, xm_fu S1 (kk S1)) : xm_fu S ((xm_wL S h i x).bind kk) := fun o ho => by
  obtain ⟨S1, hg, ho⟩ := xm_bind_some ho
  obtain ⟨n, f, hc, hf, rfl⟩ := xm_wL_some hg
  exact xm_fm.tr (xm_fset fun _ => xm_okc_l) (hk _ o ho)
theorem xm_fu_wQ {S : xm_PS} {h t : Nat} {i : Int32} {x : Nat} {kk : xm_PS → Option xm_O} (hk : ∀ S1, xm_fu S1 (kk S1)) : xm_fu S ((xm_wQ S h t i x).bind kk) := fun o ho => by
  obtain ⟨S1, hg, ho⟩ := xm_bind_some ho
  obtain ⟨n, f, hc, hf, rfl⟩ := xm_wQ_some hg
  exact xm_fm.tr (xm_fset fun hQ ty m g e j hj => by
    cases e
    have h1 := hQ _ _ hc _ _ _ rfl j hj
    show (if j = i.toNatClampNeg then some x else f j) = none
    rw [if_neg (fun z => hf (Or.inr (by omega)))]
    exact h1) (hk _ o ho)
theorem xm_fu_cp {S : xm_PS} {t h0 h1 : Nat} {sp dp n : Int32} {kk : xm_PS → Option xm_O} (hk : ∀ S1, xm_fu S1 (kk S1)) : xm_fu S ((xm_copy S t h0 sp h1 dp n).bind kk) := fun o ho => by
  obtain ⟨S1, hg, ho⟩ := xm_bind_some ho
  obtain ⟨n0, f, n1, g, hc0, hc1, a0, a1, a2, a3, a4, a5, a6, rfl⟩ := xm_copy_some hg
  exact xm_fm.tr (xm_fset fun _ => xm_okc_i) (hk _ o ho)
theorem xm_fu_cpT {S : xm_PS} {k h1 : Nat} {sp dp n : Int32} {kk : xm_PS → Option xm_O} (hk : ∀ S1, xm_fu S1 (kk S1)) : xm_fu S ((xm_copyT S k sp h1 dp n).bind kk) := fun o ho => by
  obtain ⟨S1, hg, ho⟩ := xm_bind_some ho
  obtain ⟨n1, g, hc1, b1, b2, a1, a2, a3, a4, a5, a6, rfl⟩ := xm_copyT_some hg
  exact xm_fm.tr (xm_fset fun _ => xm_okc_i) (hk _ o ho)
section FUP
variable {sc : xm_Sc} {tab : xm_Segs} {hx : xm_Hx} {call : Nat → List Value → xm_PS → Option xm_O} {kont : Nat → List Value → List Value → xm_PS → Option xm_O}
theorem xm_fu_kx (hk : ∀ pc ls st S, xm_fu S (kont pc ls st S)) {pc : Nat} {ls : List Value} {e : Nat} {S : xm_PS} : xm_fu S (xm_kx tab hx kont pc ls e S) := by
  unfold xm_kx
  split
  · exact xm_fu_s
  · refine xm_fu_ite ?_ xm_fu_n
    split
    · exact xm_fu_n
    · split <;> first | exact hk _ _ _ _ | exact xm_fu_n
theorem xm_fu_call (hc : ∀ j as S, xm_fu S (call j as S)) (hk : ∀ pc ls st S, xm_fu S (kont pc ls st S)) {kx : Nat → xm_PS → Option xm_O} (hx : ∀ e S, xm_fu S (kx e S))
    {pc : Nat} {ls rest : List Value} {S : xm_PS} {j : Nat} {as : List Value} {c : Nat} : xm_fu S (xm_call call kont kx pc ls rest S j as c) := by
  unfold xm_call
  refine xm_fu_ite ?_ xm_fu_n
  intro o h
  obtain ⟨o1, ho1, h⟩ := xm_bind_some h
  have hm := hc j as S o1 ho1
  rcases xm_rr_some h with ⟨v, -, h⟩ | ⟨x, -, h⟩
  · exact hm.tr (hk _ _ _ _ o h)
  · exact hm.tr (hx _ _ o h)
set_option maxHeartbeats 4000000 in
theorem xm_fu_op (hc : ∀ j as S, xm_fu S (call j as S)) (hk : ∀ pc ls st S, xm_fu S (kont pc ls st S)) {pc a b c d : Nat} {ls st : List Value} {S : xm_PS} {ins : Instr} : xm_fu S (xm_op sc tab hx call kont pc a b c d ls st S ins) := by
  have hx' : ∀ pc ls e S, xm_fu S (xm_kx tab hx kont pc ls e S) := fun _ _ _ _ => xm_fu_kx hk
  cases ins
  case aload => dsimp only [xm_op]; exact (xm_fu_lA fun _ => (hk _ _ _ _))
  case aload_n => dsimp only [xm_op]; exact (xm_fu_lA fun _ => (hk _ _ _ _))
  case iload => exact (xm_fu_lI fun _ => (hk _ _ _ _))
  case iload_n => exact (xm_fu_lI fun _ => (hk _ _ _ _))
  case lload => dsimp only [xm_op]; exact (xm_fu_lL fun _ => (hk _ _ _ _))
  case fload => dsimp only [xm_op]; exact (xm_fu_lF fun _ => (hk _ _ _ _))
  case fload_n => dsimp only [xm_op]; exact (xm_fu_lF fun _ => (hk _ _ _ _))
  case lload_n => exact (xm_fu_lL fun _ => (hk _ _ _ _))
  case dload => exact (xm_fu_lD fun _ => (hk _ _ _ _))
  case dload_n => exact (xm_fu_lD fun _ => (hk _ _ _ _))
  case istore => exact (xm_fu_pI fun _ _ => (hk _ _ _ _))
  case istore_n => exact (xm_fu_pI fun _ _ => (hk _ _ _ _))
  case astore => exact (xm_fu_pR fun _ _ => (hk _ _ _ _))
  case astore_n => exact (xm_fu_pR fun _ _ => (hk _ _ _ _))
  case fstore => dsimp only [xm_op]; exact (xm_fu_pF fun _ _ => (hk _ _ _ _))
  case lstore => dsimp only [xm_op]; exact (xm_fu_pL fun _ _ => (xm_fu_ite (hk _ _ _ _) xm_fu_n))
  case lstore_n => dsimp only [xm_op]; exact (xm_fu_pL fun _ _ => (xm_fu_ite (hk _ _ _ _) xm_fu_n))
  case dstore => exact (xm_fu_pD fun _ _ => (xm_fu_ite (hk _ _ _ _) xm_fu_n))
  case dstore_n => exact (xm_fu_pD fun _ _ => (xm_fu_ite (hk _ _ _ _) xm_fu_n))
  case iinc => exact (xm_fu_lI fun _ => (hk _ _ _ _))
  case iconst => exact (hk _ _ _ _)
  case bipush => exact (hk _ _ _ _)
  case sipush => exact (hk _ _ _ _)
  case lconst => exact (hk _ _ _ _)
  case fconst => exact (hk _ _ _ _)
  case dconst => exact (hk _ _ _ _)
  case ldc =>
    dsimp only [xm_op]
    split
    · exact (hk _ _ _ _)
    · exact (hk _ _ _ _)
  case ldc_w =>
    dsimp only [xm_op]
    split
    · exact (hk _ _ _ _)
    · exact (hk _ _ _ _)
  case ldc2_w => exact (hk _ _ _ _)
  case iadd => exact (xm_fu_pI fun _ _ => (xm_fu_pI fun _ _ => (hk _ _ _ _)))
  case isub => exact (xm_fu_pI fun _ _ => (xm_fu_pI fun _ _ => (hk _ _ _ _)))
  case imul => exact (xm_fu_pI fun _ _ => (xm_fu_pI fun _ _ => (hk _ _ _ _)))
  case idiv => exact (xm_fu_pI fun _ _ => (xm_fu_pI fun _ _ => (xm_fu_ite xm_fu_n (hk _ _ _ _))))
  case irem => exact (xm_fu_pI fun _ _ => (xm_fu_pI fun _ _ => (xm_fu_ite xm_fu_n (hk _ _ _ _))))
  case iand => exact (xm_fu_pI fun _ _ => (xm_fu_pI fun _ _ => (hk _ _ _ _)))
  case ior => exact (xm_fu_pI fun _ _ => (xm_fu_pI fun _ _ => (hk _ _ _ _)))
  case ixor => exact (xm_fu_pI fun _ _ => (xm_fu_pI fun _ _ => (hk _ _ _ _)))
  case ishl => exact (xm_fu_pI fun _ _ => (xm_fu_pI fun _ _ => (hk _ _ _ _)))
  case ishr => exact (xm_fu_pI fun _ _ => (xm_fu_pI fun _ _ => (hk _ _ _ _)))
  case iushr => exact (xm_fu_pI fun _ _ => (xm_fu_pI fun _ _ => (hk _ _ _ _)))
  case i2l => exact (xm_fu_pI fun _ _ => (hk _ _ _ _))
  case l2i => exact (xm_fu_pL fun _ _ => (hk _ _ _ _))
  case i2b => exact (xm_fu_pI fun _ _ => (hk _ _ _ _))
  case i2c => exact (xm_fu_pI fun _ _ => (hk _ _ _ _))
  case i2f => exact (xm_fu_pI fun _ _ => (hk _ _ _ _))
  case i2d => exact (xm_fu_pI fun _ _ => (hk _ _ _ _))
  case f2d => exact (xm_fu_pF fun _ _ => (xm_fu_ite (hk _ _ _ _) xm_fu_n))
  case fdiv => exact (xm_fu_pF fun _ _ => (xm_fu_pF fun _ _ => (xm_fu_ite (hk _ _ _ _) xm_fu_n)))
  case ddiv => exact (xm_fu_pD fun _ _ => (xm_fu_pD fun _ _ => (xm_fu_ite (hk _ _ _ _) xm_fu_n)))
  case dcmp => exact (xm_fu_pD fun _ _ => (xm_fu_pD fun _ _ => (hk _ _ _ _)))
  case ladd => exact (xm_fu_pL fun _ _ => (xm_fu_pL fun _ _ => (hk _ _ _ _)))
  case lsub => exact (xm_fu_pL fun _ _ => (xm_fu_pL fun _ _ => (hk _ _ _ _)))
  case lmul => exact (xm_fu_pL fun _ _ => (xm_fu_pL fun _ _ => (hk _ _ _ _)))
  case land => exact (xm_fu_pL fun _ _ => (xm_fu_pL fun _ _ => (hk _ _ _ _)))
  case lor => exact (xm_fu_pL fun _ _ => (xm_fu_pL fun _ _ => (hk _ _ _ _)))
  case lcmp => exact (xm_fu_pL fun _ _ => (xm_fu_pL fun _ _ => (hk _ _ _ _)))
  case dup => exact (by dsimp only [xm_op]; split <;> first | exact hk _ _ _ _ | exact xm_fu_n)
  case dup2 => exact (by dsimp only [xm_op]; split <;> first | exact hk _ _ _ _ | exact xm_fu_n)
  case pop => dsimp only [xm_op]; split <;> first | exact hk _ _ _ _ | exact xm_fu_n
  case dup_x1 => dsimp only [xm_op]; split <;> first | exact hk _ _ _ _ | exact xm_fu_n
  case aconst_null => dsimp only [xm_op]; exact hk _ _ _ _
  case ifnull => dsimp only [xm_op]; split <;> first | exact hk _ _ _ _ | exact xm_fu_n
  case ifnonnull =>
    dsimp only [xm_op]
    split
    · exact (xm_fu_go fun _ => hk _ _ _ _)
    · exact (xm_fu_ite (xm_fu_go fun _ => hk _ _ _ _) xm_fu_n)
    · exact xm_fu_n
  case checkcast => dsimp only [xm_op]; exact (xm_fu_pR fun _ _ => (xm_fu_bind fun _ => (hk _ _ _ _)))
  case fcmp => dsimp only [xm_op]; exact (xm_fu_pF fun _ _ => (xm_fu_pF fun _ _ => (hk _ _ _ _)))
  case ineg => dsimp only [xm_op]; exact (xm_fu_pI fun _ _ => (hk _ _ _ _))
  case goto => exact (xm_fu_go fun _ => hk _ _ _ _)
  case ifCond => exact (xm_fu_pI fun _ _ => (xm_fu_cI (xm_fu_go fun _ => hk _ _ _ _) (hk _ _ _ _)))
  case if_icmp => exact (xm_fu_pI fun _ _ => (xm_fu_pI fun _ _ => (xm_fu_cI (xm_fu_go fun _ => hk _ _ _ _) (hk _ _ _ _))))
  case tableswitch => exact (xm_fu_pI fun _ _ => (xm_fu_ts fun _ => xm_fu_go fun _ => hk _ _ _ _))
  case lookupswitch => exact (xm_fu_pI fun _ _ => (xm_fu_ls fun _ => xm_fu_go fun _ => hk _ _ _ _))
  case getfield =>
    dsimp only [xm_op]
    split
    · exact (xm_fu_pR fun _ _ => (xm_fu_bind fun _ => (hk _ _ _ _)))
    · exact (xm_fu_pR fun _ _ => (xm_fu_bind fun _ => (hk _ _ _ _)))
    · split
      · exact (xm_fu_bind fun _ => (hk _ _ _ _))
      · exact (xm_fu_ite (hk _ _ _ _) xm_fu_n)
      · exact xm_fu_n
    · split
      · exact (xm_fu_bind fun _ => (hk _ _ _ _))
      · exact (xm_fu_ite (hk _ _ _ _) xm_fu_n)
      · exact xm_fu_n
  case putfield =>
    dsimp only [xm_op]
    split
    · exact (xm_fu_pI fun _ _ => (xm_fu_pR fun _ _ => (xm_fu_sF fun _ => (hk _ _ _ _))))
    · exact (xm_fu_pR fun _ _ => (xm_fu_pR fun _ _ => (xm_fu_sF fun _ => (hk _ _ _ _))))
    · exact (xm_fu_pI fun _ _ => (xm_fu_pR fun _ _ => (xm_fu_ite (xm_fu_sF fun _ => (hk _ _ _ _)) xm_fu_n)))
    · exact (xm_fu_pI fun _ _ => (xm_fu_pR fun _ _ => (xm_fu_ite (xm_fu_sF fun _ => (hk _ _ _ _)) xm_fu_n)))
  case getstatic => dsimp only [xm_op]; split <;> exact hk _ _ _ _
  case iaload =>
    dsimp only [xm_op]
    split
    · exact (xm_fu_pI fun _ _ => (xm_fu_pR fun _ _ => (xm_fu_bind fun _ => (hk _ _ _ _))))
    · exact (xm_fu_pI fun _ _ => (xm_fu_pS fun _ _ => (xm_fu_ite (hk _ _ _ _) xm_fu_n)))
  case baload =>
    dsimp only [xm_op]
    split
    · exact (xm_fu_pI fun _ _ => (xm_fu_pR fun _ _ => (xm_fu_bind fun _ => (hk _ _ _ _))))
    · exact (xm_fu_pI fun _ _ => (xm_fu_pR fun _ _ => (xm_fu_bind fun _ => (hk _ _ _ _))))
    · refine (xm_fu_pI fun _ _ => ?_)
      split
      · exact (xm_fu_bind fun _ => (hk _ _ _ _))
      · exact (xm_fu_ite (hk _ _ _ _) xm_fu_n)
      · exact xm_fu_n
  case laload => exact (xm_fu_pI fun _ _ => (xm_fu_pR fun _ _ => (xm_fu_bind fun _ => (hk _ _ _ _))))
  case aaload => dsimp only [xm_op]; split <;> exact (xm_fu_pI fun _ _ => (xm_fu_pR fun _ _ => (xm_fu_bind fun _ => (hk _ _ _ _))))
  case iastore => exact (xm_fu_pI fun _ _ => (xm_fu_pI fun _ _ => (xm_fu_pR fun _ _ => (xm_fu_wI fun _ => (hk _ _ _ _)))))
  case bastore =>
    dsimp only [xm_op]
    split
    · exact (xm_fu_pI fun _ _ => (xm_fu_pI fun _ _ => (xm_fu_pR fun _ _ => (xm_fu_wI fun _ => (hk _ _ _ _)))))
    · exact (xm_fu_pI fun _ _ => (xm_fu_pI fun _ _ => (xm_fu_pR fun _ _ => (xm_fu_ite (xm_fu_wI fun _ => (hk _ _ _ _)) xm_fu_n))))
  case lastore => exact (xm_fu_pL fun _ _ => (xm_fu_pI fun _ _ => (xm_fu_pR fun _ _ => (xm_fu_wL fun _ => (hk _ _ _ _)))))
  case aastore => dsimp only [xm_op]; split <;> exact (xm_fu_pR fun _ _ => (xm_fu_pI fun _ _ => (xm_fu_pR fun _ _ => (xm_fu_ite (xm_fu_wQ fun _ => (hk _ _ _ _)) xm_fu_n))))
  case arraylength =>
    dsimp only [xm_op]
    split
    · exact (xm_fu_pR fun _ _ => (xm_fu_bind fun _ => (hk _ _ _ _)))
    · split
      · exact (xm_fu_bind fun _ => (hk _ _ _ _))
      · exact (xm_fu_ite (hk _ _ _ _) xm_fu_n)
      · exact xm_fu_n
    · exact (xm_fu_pS fun _ _ => (xm_fu_ite (hk _ _ _ _) xm_fu_n))
  case newarray =>
    dsimp only [xm_op]
    split
    · exact (xm_fu_pI fun _ _ => (xm_fu_ite xm_fu_n (xm_fu_ite (xm_fu_push (by intro ty n f e; cases e <;> exact fun _ _ => rfl) fun _ _ => hk _ _ _ _) xm_fu_n)))
    · exact (xm_fu_pI fun _ _ => (xm_fu_ite xm_fu_n (xm_fu_ite (xm_fu_push (by intro ty n f e; cases e <;> exact fun _ _ => rfl) fun _ _ => hk _ _ _ _) xm_fu_n)))
  case anewarray => exact (xm_fu_pI fun _ _ => (xm_fu_ite xm_fu_n (xm_fu_ite (xm_fu_push (by intro ty n f e; cases e <;> exact fun _ _ => rfl) fun _ _ => hk _ _ _ _) xm_fu_n)))
  case new =>
    dsimp only [xm_op]
    split
    · exact (xm_fu_push (by intro ty n f e; cases e <;> exact fun _ _ => rfl) fun _ _ => hk _ _ _ _)
    · exact (xm_fu_ite xm_fu_x xm_fu_n)
  case invokestatic =>
    dsimp only [xm_op]
    split
    · exact (xm_fu_ite (xm_fu_call hc hk (fun _ _ => hx' _ _ _ _)) xm_fu_n)
    · exact (xm_fu_pI fun _ _ => (xm_fu_pI fun _ _ => (xm_fu_ite (hk _ _ _ _) xm_fu_n)))
    · exact (xm_fu_pI fun _ _ => (xm_fu_pI fun _ _ => (xm_fu_ite (hk _ _ _ _) xm_fu_n)))
    · refine (xm_fu_pI fun _ _ => (xm_fu_pI fun _ _ => (xm_fu_pR fun _ _ => (xm_fu_pI fun _ _ => ?_))))
      split
      · exact (xm_fu_ite (xm_fu_cp fun _ => (hk _ _ _ _)) xm_fu_n)
      · exact (xm_fu_ite (xm_fu_cpT fun _ => (hk _ _ _ _)) xm_fu_n)
      · exact xm_fu_n
    · exact (xm_fu_pD fun _ _ => (xm_fu_ite (hk _ _ _ _) xm_fu_n))
    · exact (xm_fu_pF fun _ _ => (xm_fu_ite (hk _ _ _ _) xm_fu_n))
  case invokevirtual =>
    dsimp only [xm_op]
    split
    · exact (xm_fu_pR fun _ _ => (xm_fu_bind fun _ => (xm_fu_ite (xm_fu_push (by intro ty n f e; cases e <;> exact fun _ _ => rfl) fun _ _ => hk _ _ _ _) xm_fu_n)))
    · exact (xm_fu_ite (xm_fu_pR fun _ _ => (xm_fu_ite (xm_fu_call hc hk (fun _ _ => hx' _ _ _ _)) xm_fu_n)) xm_fu_n)
    · exact (xm_fu_ite (xm_fu_pRS fun _ _ => (xm_fu_ite (xm_fu_call hc hk (fun _ _ => hx' _ _ _ _)) xm_fu_n)) xm_fu_n)
  case invokespecial =>
    dsimp only [xm_op]
    split
    · exact (xm_fu_ite (xm_fu_pR fun _ _ => (xm_fu_call hc hk (fun _ _ => xm_fu_n))) xm_fu_n)
    · exact (xm_fu_pR fun _ _ => (xm_fu_ite (hk _ _ _ _) xm_fu_n))
    · exact (xm_fu_ite (xm_fu_pR fun _ _ => (xm_fu_ite (xm_fu_call hc hk (fun _ _ => hx' _ _ _ _)) xm_fu_n)) xm_fu_n)
  case ireturn =>
    refine xm_fu_pI fun _ _ => xm_fu_ite ?_ xm_fu_n
    split
    · exact xm_fu_s
    · exact xm_fu_ite xm_fu_s xm_fu_n
    · exact xm_fu_ite xm_fu_s xm_fu_n
    · exact xm_fu_ite xm_fu_s xm_fu_n
  case lreturn => exact (xm_fu_pL fun _ _ => (xm_fu_ite xm_fu_s xm_fu_n))
  case areturn => dsimp only [xm_op]; exact (xm_fu_pR fun _ _ => (xm_fu_ite xm_fu_s xm_fu_n))
  case freturn => exact (xm_fu_pF fun _ _ => (xm_fu_ite xm_fu_s xm_fu_n))
  case dreturn => exact (xm_fu_pD fun _ _ => (xm_fu_ite xm_fu_s xm_fu_n))
  case return_ => exact (xm_fu_ite xm_fu_s xm_fu_n)
  all_goals exact xm_fu_n
theorem xm_fu_step (hc : ∀ j as S, xm_fu S (call j as S)) (hk : ∀ pc ls st S, xm_fu S (kont pc ls st S)) {pc : Nat} {ls st : List Value} {S : xm_PS} : xm_fu S (xm_step sc tab hx call kont pc ls st S) := by
  unfold xm_step; split
  · exact xm_fu_n
  · exact xm_fu_op hc hk
end FUP
theorem xm_fu_run {sc : xm_Sc} {M : Nat → Option xm_MI} : ∀ (n d i pc : Nat) (ls st : List Value) (S : xm_PS), xm_fu S (xm_run sc M n d i pc ls st S)
  | 0, _, _, _, _, _, _ => xm_fu_n
  | n + 1, d, i, pc, ls, st, S => by
    cases hM : M i with
    | none =>
      unfold xm_run
      rw [hM]
      exact xm_fu_n
    | some q =>
      rw [xm_run_s hM]
      refine xm_fu_step (fun j as S => ?_) (fun pc ls st S => xm_fu_run n d i pc ls st S)
      unfold xm_c
      cases d with
      | zero => exact xm_fu_n
      | succ d =>
        dsimp only
        cases M j with
        | none => exact xm_fu_n
        | some r => exact xm_fu_ite (xm_fu_run n d j 0 _ [] S) xm_fu_n
