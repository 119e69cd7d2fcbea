/-! WHAT DOES NOT HANG ON THE SCRIPT -/
def xm_tr (x y : Option xm_O) : Prop := ∀ o, x = some o → o.2.1 = true → y = some o
theorem xm_tr_rfl {x : Option xm_O} : xm_tr x x := fun _ h _ => h
theorem xm_tr_pI {st : List Value} {k k' : Int32 → List Value → Option xm_O} (h : ∀ x r, xm_tr (k x r) (k' x r)) : xm_tr (xm_pI st k) (xm_pI st k') := by
  unfold xm_pI; split <;> first | exact h _ _ | exact xm_tr_rfl
theorem xm_tr_pL {st : List Value} {k k' : Int64 → List Value → Option xm_O} (h : ∀ x r, xm_tr (k x r) (k' x r)) : xm_tr (xm_pL st k) (xm_pL st k') := by
  unfold xm_pL; split <;> first | exact h _ _ | exact xm_tr_rfl
theorem xm_tr_pF {st : List Value} {k k' : UInt32 → List Value → Option xm_O} (h : ∀ x r, xm_tr (k x r) (k' x r)) : xm_tr (xm_pF st k) (xm_pF st k') := by
  unfold xm_pF; split <;> first | exact h _ _ | exact xm_tr_rfl
theorem xm_tr_pD {st : List Value} {k k' : UInt64 → List Value → Option xm_O} (h : ∀ x r, xm_tr (k x r) (k' x r)) : xm_tr (xm_pD st k) (xm_pD st k') := by
  unfold xm_pD; split <;> first | exact h _ _ | exact xm_tr_rfl
theorem xm_tr_pR {st : List Value} {k k' : Nat → List Value → Option xm_O} (h : ∀ x r, xm_tr (k x r) (k' x r)) : xm_tr (xm_pR st k) (xm_pR st k') := by
  unfold xm_pR; split <;> first | exact h _ _ | exact xm_tr_rfl
theorem xm_tr_pS {st : List Value} {k k' : Nat → List Value → Option xm_O} (h : ∀ x r, xm_tr (k x r) (k' x r)) : xm_tr (xm_pS st k) (xm_pS st k') := by
  unfold xm_pS; split <;> first | exact h _ _ | exact xm_tr_rfl
theorem xm_tr_pRS {st : List Value} {k k' : Value → List Value → Option xm_O} (h : ∀ x r, xm_tr (k x r) (k' x r)) : xm_tr (xm_pRS st k) (xm_pRS st k') := by
  unfold xm_pRS; split <;> first | exact h _ _ | exact xm_tr_rfl
theorem xm_tr_lI {ls : List Value} {i : Nat} {k k' : Int32 → Option xm_O} (h : ∀ x, xm_tr (k x) (k' x)) : xm_tr (xm_lI ls i k) (xm_lI ls i k') := by
  unfold xm_lI; split <;> first | exact h _ | exact xm_tr_rfl
theorem xm_tr_lL {ls : List Value} {i : Nat} {k k' : Int64 → Option xm_O} (h : ∀ x, xm_tr (k x) (k' x)) : xm_tr (xm_lL ls i k) (xm_lL ls i k') := by
  unfold xm_lL; split <;> first | exact h _ | exact xm_tr_rfl
theorem xm_tr_lD {ls : List Value} {i : Nat} {k k' : UInt64 → Option xm_O} (h : ∀ x, xm_tr (k x) (k' x)) : xm_tr (xm_lD ls i k) (xm_lD ls i k') := by
  unfold xm_lD; split <;> first | exact h _ | exact xm_tr_rfl
theorem xm_tr_ite {c : Prop} {i1 : Decidable c} {x x' y y' : Option xm_O} (h1 : xm_tr x x') (h2 : xm_tr y y') : xm_tr (@ite _ c i1 x y) (@ite _ c i1 x' y') := by
  split
  · exact h1
  · exact h2
theorem xm_tr_lA {ls : List Value} {i : Nat} {k k' : Value → Option xm_O} (h : ∀ x, xm_tr (k x) (k' x)) : xm_tr (xm_lA ls i k) (xm_lA ls i k') := by
  unfold xm_lA; split <;> first | exact h _ | exact xm_tr_rfl | exact xm_tr_ite (h _) xm_tr_rfl
theorem xm_tr_bind {α : Type} {x : Option α} {k k' : α → Option xm_O} (h : ∀ v, xm_tr (k v) (k' v)) : xm_tr (x.bind k) (x.bind k') := by
  cases x with
  | none => exact xm_tr_rfl
  | some v => exact h v
theorem xm_tr_go {k k' : Nat → Option xm_O} {pc : Nat} {off : Int} (h : ∀ t, xm_tr (k t) (k' t)) : xm_tr (xm_go k pc off) (xm_go k' pc off) := by
  unfold xm_go; split <;> first | exact h _ | exact xm_tr_rfl
theorem xm_tr_ls {k k' : Int → Option xm_O} (h : ∀ t, xm_tr (k t) (k' t)) {d x : Int} : ∀ {ps : List (Int × Int)}, xm_tr (xm_ls ps d x k) (xm_ls ps d x k')
  | [] => h _
  | (a, o) :: r => by unfold xm_ls; exact xm_tr_ite (h _) (xm_tr_ls h)
theorem xm_tr_ts {k k' : Int → Option xm_O} (h : ∀ t, xm_tr (k t) (k' t)) {d x : Int} : ∀ {ps : List Int} {lo : Int}, xm_tr (xm_ts lo ps d x k) (xm_ts lo ps d x k')
  | [], _ => h _
  | o :: r, _ => by unfold xm_ts; exact xm_tr_ite (h _) (xm_tr_ts h)
theorem xm_tr_cI {cd : ClassFile.Cond} {x y : Int32} {a a' b b' : Option xm_O} (h1 : xm_tr a a') (h2 : xm_tr b b') : xm_tr (xm_cI cd x y a b) (xm_cI cd x y a' b') := by
  unfold xm_cI; cases cd <;> simp only <;> first | exact xm_tr_ite h1 h2 | exact xm_tr_ite h2 h1
theorem xm_tr_push {S : xm_PS} {c : xm_PC} {k k' : Nat → xm_PS → Option xm_O} (h : ∀ a S, xm_tr (k a S) (k' a S)) : xm_tr (xm_push S c k) (xm_push S c k') := by
  unfold xm_push; exact xm_tr_ite (h _ _) xm_tr_rfl
theorem xm_tr_rr {c : Nat} {o : xm_O} {k k' : List Value → xm_PS → Option xm_O} {kx kx' : Nat → xm_PS → Option xm_O} (h : ∀ l S, xm_tr (k l S) (k' l S)) (hx : ∀ e S, xm_tr (kx e S) (kx' e S)) : xm_tr (xm_rr c o k kx) (xm_rr c o k' kx') := by
  unfold xm_rr; split
  · unfold xm_r0; split <;> first | exact h _ _ | exact hx _ _ | exact xm_tr_rfl
  · unfold xm_rI; split <;> first | exact h _ _ | exact hx _ _ | exact xm_tr_rfl
  · unfold xm_rL; split <;> first | exact h _ _ | exact hx _ _ | exact xm_tr_rfl
  · unfold xm_rF; split <;> first | exact h _ _ | exact hx _ _ | exact xm_tr_rfl
  · unfold xm_rD; split <;> first | exact h _ _ | exact hx _ _ | exact xm_tr_rfl
  · exact xm_tr_rfl
theorem xm_tr_n {y : Option xm_O} : xm_tr none y := fun _ h _ => nomatch h
section TRS
variable {sc sc0 : xm_Sc} {tab : xm_Segs} {hx : xm_Hx} {call call' : Nat → List Value → xm_PS → Option xm_O} {kont kont' : Nat → List Value → List Value → xm_PS → Option xm_O}
theorem xm_tr_kx (hk : ∀ pc ls st S, xm_tr (kont pc ls st S) (kont' pc ls st S)) {pc : Nat} {ls : List Value} {e : Nat} {S : xm_PS} : xm_tr (xm_kx tab hx kont pc ls e S) (xm_kx tab hx kont' pc ls e S) := by
  unfold xm_kx
  split
  · exact xm_tr_rfl
  · refine xm_tr_ite ?_ xm_tr_rfl
    split
    · exact xm_tr_rfl
    · split <;> first | exact hk _ _ _ _ | exact xm_tr_rfl
theorem xm_tr_call (hc : ∀ j as S, xm_tr (call j as S) (call' j as S)) (hk : ∀ pc ls st S, xm_tr (kont pc ls st S) (kont' pc ls st S)) (hm : ∀ pc ls st S, xm_up S (kont pc ls st S)) {kx kx' : Nat → xm_PS → Option xm_O} (hx : ∀ e S, xm_tr (kx e S) (kx' e S)) (hxm : ∀ e S, xm_up S (kx e S))
    {pc : Nat} {ls rest : List Value} {S : xm_PS} {j : Nat} {as : List Value} {c : Nat} : xm_tr (xm_call call kont kx pc ls rest S j as c) (xm_call call' kont' kx' pc ls rest S j as c) := by
  unfold xm_call
  refine xm_tr_ite ?_ xm_tr_rfl
  intro o h ho
  cases hq : call j as S with
  | none => rw [hq] at h; cases h
  | some q =>
    rw [hq] at h
    have hu : q.2.1 = true := by
      rcases xm_rr_some (show xm_rr c q (fun l S => kont (pc + 3) ls (l ++ rest) S) kx = some o from h) with ⟨v, -, h1⟩ | ⟨x, -, h1⟩
      · exact (hm _ _ _ _ o h1).2.2 ho
      · exact (hxm _ _ o h1).2.2 ho
    rw [hc j as S q hq hu]
    exact xm_tr_rr (k := fun l S => kont (pc + 3) ls (l ++ rest) S) (fun l S => hk _ _ _ _) hx o h ho
set_option maxHeartbeats 4000000 in
theorem xm_tr_op (hc : ∀ j as S, xm_tr (call j as S) (call' j as S)) (hk : ∀ pc ls st S, xm_tr (kont pc ls st S) (kont' pc ls st S)) (hm : ∀ pc ls st S, xm_up S (kont pc ls st S)) (h0 : sc0.1 = 0) {pc a b c d : Nat} {ls st : List Value} {S : xm_PS} {ins : Instr} : xm_tr (xm_op sc0 tab hx call kont pc a b c d ls st S ins) (xm_op sc tab hx call' kont' pc a b c d ls st S ins) := by
  have hx' : ∀ pc ls e S, xm_tr (xm_kx tab hx kont pc ls e S) (xm_kx tab hx kont' pc ls e S) := fun _ _ _ _ => xm_tr_kx hk
  have hxu : ∀ pc ls e S, xm_up S (xm_kx tab hx kont pc ls e S) := fun _ _ _ _ => xm_up_kx hm
  cases ins
  case aload => dsimp only [xm_op]; exact (xm_tr_lA fun _ => (hk _ _ _ _))
  case aload_n => dsimp only [xm_op]; exact (xm_tr_lA fun _ => (hk _ _ _ _))
  case iload => exact (xm_tr_lI fun _ => (hk _ _ _ _))
  case iload_n => exact (xm_tr_lI fun _ => (hk _ _ _ _))
  case lload_n => exact (xm_tr_lL fun _ => (hk _ _ _ _))
  case dload => exact (xm_tr_lD fun _ => (hk _ _ _ _))
  case dload_n => exact (xm_tr_lD fun _ => (hk _ _ _ _))
  case istore => exact (xm_tr_pI fun _ _ => (hk _ _ _ _))
  case istore_n => exact (xm_tr_pI fun _ _ => (hk _ _ _ _))
  case astore => exact (xm_tr_pR fun _ _ => (hk _ _ _ _))
  case astore_n => exact (xm_tr_pR fun _ _ => (hk _ _ _ _))
  case dstore => exact (xm_tr_pD fun _ _ => (xm_tr_ite (hk _ _ _ _) xm_tr_rfl))
  case dstore_n => exact (xm_tr_pD fun _ _ => (xm_tr_ite (hk _ _ _ _) xm_tr_rfl))
  case iinc => exact (xm_tr_lI fun _ => (hk _ _ _ _))
  case iconst => exact (hk _ _ _ _)
  case bipush => exact (hk _ _ _ _)
  case sipush => exact (hk _ _ _ _)
  case lconst => exact (hk _ _ _ _)
  case fconst => exact (hk _ _ _ _)
  case dconst => exact (hk _ _ _ _)
  case ldc =>
    dsimp only [xm_op]
    split
    · exact (hk _ _ _ _)
    · exact (hk _ _ _ _)
  case ldc_w =>
    dsimp only [xm_op]
    split
    · exact (hk _ _ _ _)
    · exact (hk _ _ _ _)
  case ldc2_w => exact (hk _ _ _ _)
  case iadd => exact (xm_tr_pI fun _ _ => (xm_tr_pI fun _ _ => (hk _ _ _ _)))
  case isub => exact (xm_tr_pI fun _ _ => (xm_tr_pI fun _ _ => (hk _ _ _ _)))
  case imul => exact (xm_tr_pI fun _ _ => (xm_tr_pI fun _ _ => (hk _ _ _ _)))
  case idiv => exact (xm_tr_pI fun _ _ => (xm_tr_pI fun _ _ => (xm_tr_ite xm_tr_rfl (hk _ _ _ _))))
  case irem => exact (xm_tr_pI fun _ _ => (xm_tr_pI fun _ _ => (xm_tr_ite xm_tr_rfl (hk _ _ _ _))))
  case iand => exact (xm_tr_pI fun _ _ => (xm_tr_pI fun _ _ => (hk _ _ _ _)))
  case ior => exact (xm_tr_pI fun _ _ => (xm_tr_pI fun _ _ => (hk _ _ _ _)))
  case ixor => exact (xm_tr_pI fun _ _ => (xm_tr_pI fun _ _ => (hk _ _ _ _)))
  case ishl => exact (xm_tr_pI fun _ _ => (xm_tr_pI fun _ _ => (hk _ _ _ _)))
  case ishr => exact (xm_tr_pI fun _ _ => (xm_tr_pI fun _ _ => (hk _ _ _ _)))
  case iushr => exact (xm_tr_pI fun _ _ => (xm_tr_pI fun _ _ => (hk _ _ _ _)))
  case i2l => exact (xm_tr_pI fun _ _ => (hk _ _ _ _))
  case l2i => exact (xm_tr_pL fun _ _ => (hk _ _ _ _))
  case i2b => exact (xm_tr_pI fun _ _ => (hk _ _ _ _))
  case i2c => exact (xm_tr_pI fun _ _ => (hk _ _ _ _))
  case i2f => exact (xm_tr_pI fun _ _ => (hk _ _ _ _))
  case i2d => exact (xm_tr_pI fun _ _ => (hk _ _ _ _))
  case f2d => exact (xm_tr_pF fun _ _ => (xm_tr_ite (hk _ _ _ _) xm_tr_rfl))
  case fdiv => exact (xm_tr_pF fun _ _ => (xm_tr_pF fun _ _ => (xm_tr_ite (hk _ _ _ _) xm_tr_rfl)))
  case ddiv => exact (xm_tr_pD fun _ _ => (xm_tr_pD fun _ _ => (xm_tr_ite (hk _ _ _ _) xm_tr_rfl)))
  case dcmp => exact (xm_tr_pD fun _ _ => (xm_tr_pD fun _ _ => (hk _ _ _ _)))
  case ladd => exact (xm_tr_pL fun _ _ => (xm_tr_pL fun _ _ => (hk _ _ _ _)))
  case lsub => exact (xm_tr_pL fun _ _ => (xm_tr_pL fun _ _ => (hk _ _ _ _)))
  case lmul => exact (xm_tr_pL fun _ _ => (xm_tr_pL fun _ _ => (hk _ _ _ _)))
  case land => exact (xm_tr_pL fun _ _ => (xm_tr_pL fun _ _ => (hk _ _ _ _)))
  case lor => exact (xm_tr_pL fun _ _ => (xm_tr_pL fun _ _ => (hk _ _ _ _)))
  case lcmp => exact (xm_tr_pL fun _ _ => (xm_tr_pL fun _ _ => (hk _ _ _ _)))
  case dup => exact (by dsimp only [xm_op]; split <;> first | exact hk _ _ _ _ | exact xm_tr_rfl)
  case dup2 => exact (by dsimp only [xm_op]; split <;> first | exact hk _ _ _ _ | exact xm_tr_rfl)
  case pop => exact (xm_tr_pI fun _ _ => (hk _ _ _ _))
  case goto => exact (xm_tr_go fun _ => hk _ _ _ _)
  case ifCond => exact (xm_tr_pI fun _ _ => (xm_tr_cI (xm_tr_go fun _ => hk _ _ _ _) (hk _ _ _ _)))
  case if_icmp => exact (xm_tr_pI fun _ _ => (xm_tr_pI fun _ _ => (xm_tr_cI (xm_tr_go fun _ => hk _ _ _ _) (hk _ _ _ _))))
  case tableswitch => exact (xm_tr_pI fun _ _ => (xm_tr_ts fun _ => xm_tr_go fun _ => hk _ _ _ _))
  case lookupswitch => exact (xm_tr_pI fun _ _ => (xm_tr_ls fun _ => xm_tr_go fun _ => hk _ _ _ _))
  case getfield =>
    dsimp only [xm_op]
    split
    · exact (xm_tr_pR fun _ _ => (xm_tr_bind fun _ => (hk _ _ _ _)))
    · exact (xm_tr_pR fun _ _ => (xm_tr_bind fun _ => (hk _ _ _ _)))
    · exact (xm_tr_pS fun _ _ => (xm_tr_ite (hk _ _ _ _) xm_tr_rfl))
    · exact (xm_tr_pS fun _ _ => (xm_tr_ite (hk _ _ _ _) xm_tr_rfl))
  case putfield =>
    dsimp only [xm_op]
    split
    · exact (xm_tr_pI fun _ _ => (xm_tr_pR fun _ _ => (xm_tr_bind fun _ => (hk _ _ _ _))))
    · exact (xm_tr_pR fun _ _ => (xm_tr_pR fun _ _ => (xm_tr_bind fun _ => (hk _ _ _ _))))
    · exact (xm_tr_pI fun _ _ => (xm_tr_pR fun _ _ => (xm_tr_ite (xm_tr_bind fun _ => (hk _ _ _ _)) xm_tr_rfl)))
  case getstatic =>
    dsimp only [xm_op]
    split
    · exact (hk _ _ _ _)
    · exact (hk _ _ _ _)
  case iaload =>
    dsimp only [xm_op]
    split
    · exact (xm_tr_pI fun _ _ => (xm_tr_pR fun _ _ => (xm_tr_bind fun _ => (hk _ _ _ _))))
    · refine (xm_tr_pI fun _ _ => (xm_tr_pS fun _ _ => ?_))
      rw [h0, if_neg (fun z => by
        have z2 := z.2
        unfold xm_in at z2
        rw [decide_eq_true (Nat.zero_le _), Bool.or_true] at z2
        cases z2)]
      exact xm_tr_n
  case baload =>
    dsimp only [xm_op]
    split
    · exact (xm_tr_pI fun _ _ => (xm_tr_pR fun _ _ => (xm_tr_bind fun _ => (hk _ _ _ _))))
    · exact (xm_tr_pI fun _ _ => (xm_tr_pR fun _ _ => (xm_tr_bind fun _ => (hk _ _ _ _))))
    · exact (xm_tr_pI fun _ _ => (xm_tr_pS fun _ _ => (xm_tr_ite (hk _ _ _ _) xm_tr_rfl)))
  case laload => exact (xm_tr_pI fun _ _ => (xm_tr_pR fun _ _ => (xm_tr_bind fun _ => (hk _ _ _ _))))
  case aaload =>
    dsimp only [xm_op]
    split
    · exact (xm_tr_pI fun _ _ => (xm_tr_pR fun _ _ => (xm_tr_bind fun _ => (hk _ _ _ _))))
    · exact (xm_tr_pI fun _ _ => (xm_tr_pR fun _ _ => (xm_tr_bind fun _ => (xm_tr_ite (hk _ _ _ _) xm_tr_rfl))))
  case iastore => exact (xm_tr_pI fun _ _ => (xm_tr_pI fun _ _ => (xm_tr_pR fun _ _ => (xm_tr_bind fun _ => (hk _ _ _ _)))))
  case bastore =>
    dsimp only [xm_op]
    split
    · exact (xm_tr_pI fun _ _ => (xm_tr_pI fun _ _ => (xm_tr_pR fun _ _ => (xm_tr_bind fun _ => (hk _ _ _ _)))))
    · exact (xm_tr_pI fun _ _ => (xm_tr_pI fun _ _ => (xm_tr_pR fun _ _ => (xm_tr_ite (xm_tr_bind fun _ => (hk _ _ _ _)) xm_tr_rfl))))
  case lastore => exact (xm_tr_pL fun _ _ => (xm_tr_pI fun _ _ => (xm_tr_pR fun _ _ => (xm_tr_bind fun _ => (hk _ _ _ _)))))
  case aastore =>
    dsimp only [xm_op]
    split
    · exact (xm_tr_pR fun _ _ => (xm_tr_pI fun _ _ => (xm_tr_pR fun _ _ => (xm_tr_ite (xm_tr_bind fun _ => (hk _ _ _ _)) xm_tr_rfl))))
    · exact (xm_tr_pS fun _ _ => (xm_tr_pI fun _ _ => (xm_tr_pR fun _ _ => (xm_tr_ite (xm_tr_bind fun _ => (hk _ _ _ _)) xm_tr_rfl))))
  case arraylength =>
    dsimp only [xm_op]
    split
    · exact (xm_tr_pR fun _ _ => (xm_tr_bind fun _ => (hk _ _ _ _)))
    · exact (xm_tr_pS fun _ _ => (xm_tr_ite (hk _ _ _ _) xm_tr_rfl))
    · refine (xm_tr_pS fun _ _ => ?_)
      intro o h ho
      split at h
      · have := ((hm _ _ _ _) o h).2.2 ho
        cases this
      · cases h
  case newarray =>
    dsimp only [xm_op]
    split
    · exact (xm_tr_pI fun _ _ => (xm_tr_ite xm_tr_rfl (xm_tr_ite (xm_tr_push fun _ _ => hk _ _ _ _) xm_tr_rfl)))
    · exact (xm_tr_pI fun _ _ => (xm_tr_ite xm_tr_rfl (xm_tr_ite (xm_tr_push fun _ _ => hk _ _ _ _) xm_tr_rfl)))
  case anewarray => exact (xm_tr_pI fun _ _ => (xm_tr_ite xm_tr_rfl (xm_tr_ite (xm_tr_push fun _ _ => hk _ _ _ _) xm_tr_rfl)))
  case new =>
    dsimp only [xm_op]
    split
    · exact (xm_tr_push fun _ _ => hk _ _ _ _)
    · exact (xm_tr_ite xm_tr_rfl xm_tr_rfl)
  case invokestatic =>
    dsimp only [xm_op]
    split
    · exact (xm_tr_ite (xm_tr_call hc hk hm (fun _ _ => hx' _ _ _ _) (fun _ _ => hxu _ _ _ _)) xm_tr_rfl)
    · exact (xm_tr_pI fun _ _ => (xm_tr_pI fun _ _ => (xm_tr_ite (hk _ _ _ _) xm_tr_rfl)))
    · exact (xm_tr_pI fun _ _ => (xm_tr_pI fun _ _ => (xm_tr_ite (hk _ _ _ _) xm_tr_rfl)))
    · exact (xm_tr_pL fun _ _ => (xm_tr_pL fun _ _ => (xm_tr_ite (hk _ _ _ _) xm_tr_rfl)))
    · exact (xm_tr_pI fun _ _ => (xm_tr_pI fun _ _ => (xm_tr_pR fun _ _ => (xm_tr_pI fun _ _ => (xm_tr_pR fun _ _ => (xm_tr_ite (xm_tr_bind fun _ => (hk _ _ _ _)) xm_tr_rfl))))))
  case invokevirtual => exact (xm_tr_ite (xm_tr_pRS fun _ _ => (xm_tr_ite (xm_tr_call hc hk hm (fun _ _ => hx' _ _ _ _) (fun _ _ => hxu _ _ _ _)) xm_tr_rfl)) xm_tr_rfl)
  case invokespecial =>
    dsimp only [xm_op]
    split
    · exact (xm_tr_ite (xm_tr_pR fun _ _ => (xm_tr_call hc hk hm (fun _ _ => xm_tr_rfl) (fun _ _ => xm_up_n))) xm_tr_rfl)
    · exact (xm_tr_pR fun _ _ => (xm_tr_ite (hk _ _ _ _) xm_tr_rfl))
  case ireturn => exact xm_tr_rfl
  case lreturn => exact (xm_tr_pL fun _ _ => (xm_tr_ite xm_tr_rfl xm_tr_rfl))
  case freturn => exact (xm_tr_pF fun _ _ => (xm_tr_ite xm_tr_rfl xm_tr_rfl))
  case dreturn => exact (xm_tr_pD fun _ _ => (xm_tr_ite xm_tr_rfl xm_tr_rfl))
  case return_ => exact (xm_tr_ite xm_tr_rfl xm_tr_rfl)
  all_goals exact xm_tr_rfl
theorem xm_tr_step (hc : ∀ j as S, xm_tr (call j as S) (call' j as S)) (hk : ∀ pc ls st S, xm_tr (kont pc ls st S) (kont' pc ls st S)) (hm : ∀ pc ls st S, xm_up S (kont pc ls st S)) (h0 : sc0.1 = 0) {pc : Nat} {ls st : List Value} {S : xm_PS} : xm_tr (xm_step sc0 tab hx call kont pc ls st S) (xm_step sc tab hx call' kont' pc ls st S) := by
  unfold xm_step; split
  · exact xm_tr_n
  · exact xm_tr_op hc hk hm h0
end TRS
theorem xm_run_tr {sc sc0 : xm_Sc} (h0 : sc0.1 = 0) {M : Nat → Option xm_MI} : ∀ (n d i pc : Nat) (ls st : List Value) (S : xm_PS), xm_tr (xm_run sc0 M n d i pc ls st S) (xm_run sc M n d i pc ls st S)
  | 0, _, _, _, _, _, _ => xm_tr_n
  | n + 1, d, i, pc, ls, st, S => by
    cases hM : M i with
    | none =>
      unfold xm_run
      rw [hM]
      exact xm_tr_n
    | some q =>
      rw [xm_run_s hM, xm_run_s hM]
      refine xm_tr_step (fun j as S => ?_) (fun pc ls st S => xm_run_tr h0 n d i pc ls st S) (fun pc ls st S => xm_up_run n d i pc ls st S) h0
      unfold xm_c
      cases d with
      | zero => exact xm_tr_n
      | succ d =>
        dsimp only
        cases M j with
        | none => exact xm_tr_n
        | some r => exact xm_tr_ite (xm_run_tr h0 n d j 0 _ [] S) xm_tr_n
