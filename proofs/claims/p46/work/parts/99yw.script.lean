/-! A SCRIPT THAT NOBODY READ -/
section SCS
variable {sc sc0 : xm_Sc} {tab : xm_Segs} {hx : xm_Hx} {call call' : Nat → List Value → xm_PS → Option xm_O} {kont kont' : Nat → List Value → List Value → xm_PS → Option xm_O}
set_option maxHeartbeats 4000000 in
theorem xm_sc_op (h0 : ¬ sc0.1 ≤ 260) (hc : ∀ j as S, xm_le (call j as S) (call' j as S)) (hk : ∀ pc ls st S, xm_le (kont pc ls st S) (kont' pc ls st S)) {pc a b c d : Nat} {ls st : List Value} {S : xm_PS} {ins : Instr} : xm_le (xm_op sc0 tab hx call kont pc a b c d ls st S ins) (xm_op sc tab hx call' kont' pc a b c d ls st S ins) := by
  have hx' : ∀ pc ls e S, xm_le (xm_kx tab hx kont pc ls e S) (xm_kx tab hx kont' pc ls e S) := fun _ _ _ _ => xm_le_kx hk
  cases ins
  case aload => dsimp only [xm_op]; exact (xm_le_lA fun _ => (hk _ _ _ _))
  case aload_n => dsimp only [xm_op]; exact (xm_le_lA fun _ => (hk _ _ _ _))
  case iload => exact (xm_le_lI fun _ => (hk _ _ _ _))
  case iload_n => exact (xm_le_lI fun _ => (hk _ _ _ _))
  case lload => dsimp only [xm_op]; exact (xm_le_lL fun _ => (hk _ _ _ _))
  case fload => dsimp only [xm_op]; exact (xm_le_lF fun _ => (hk _ _ _ _))
  case fload_n => dsimp only [xm_op]; exact (xm_le_lF fun _ => (hk _ _ _ _))
  case lload_n => exact (xm_le_lL fun _ => (hk _ _ _ _))
  case dload => exact (xm_le_lD fun _ => (hk _ _ _ _))
  case dload_n => exact (xm_le_lD fun _ => (hk _ _ _ _))
  case istore => exact (xm_le_pI fun _ _ => (hk _ _ _ _))
  case istore_n => exact (xm_le_pI fun _ _ => (hk _ _ _ _))
  case astore => exact (xm_le_pR fun _ _ => (hk _ _ _ _))
  case astore_n => exact (xm_le_pR fun _ _ => (hk _ _ _ _))
  case fstore => dsimp only [xm_op]; exact (xm_le_pF fun _ _ => (hk _ _ _ _))
  case lstore => dsimp only [xm_op]; exact (xm_le_pL fun _ _ => (xm_le_ite (hk _ _ _ _) xm_le_rfl))
  case lstore_n => dsimp only [xm_op]; exact (xm_le_pL fun _ _ => (xm_le_ite (hk _ _ _ _) xm_le_rfl))
  case dstore => exact (xm_le_pD fun _ _ => (xm_le_ite (hk _ _ _ _) xm_le_rfl))
  case dstore_n => exact (xm_le_pD fun _ _ => (xm_le_ite (hk _ _ _ _) xm_le_rfl))
  case iinc => exact (xm_le_lI fun _ => (hk _ _ _ _))
  case iconst => exact (hk _ _ _ _)
  case bipush => exact (hk _ _ _ _)
  case sipush => exact (hk _ _ _ _)
  case lconst => exact (hk _ _ _ _)
  case fconst => exact (hk _ _ _ _)
  case dconst => exact (hk _ _ _ _)
  case ldc =>
    dsimp only [xm_op]
    split
    · exact (hk _ _ _ _)
    · exact (hk _ _ _ _)
  case ldc_w =>
    dsimp only [xm_op]
    split
    · exact (hk _ _ _ _)
    · exact (hk _ _ _ _)
  case ldc2_w => exact (hk _ _ _ _)
  case iadd => exact (xm_le_pI fun _ _ => (xm_le_pI fun _ _ => (hk _ _ _ _)))
  case isub => exact (xm_le_pI fun _ _ => (xm_le_pI fun _ _ => (hk _ _ _ _)))
  case imul => exact (xm_le_pI fun _ _ => (xm_le_pI fun _ _ => (hk _ _ _ _)))
  case idiv => exact (xm_le_pI fun _ _ => (xm_le_pI fun _ _ => (xm_le_ite xm_le_rfl (hk _ _ _ _))))
  case irem => exact (xm_le_pI fun _ _ => (xm_le_pI fun _ _ => (xm_le_ite xm_le_rfl (hk _ _ _ _))))
  case iand => exact (xm_le_pI fun _ _ => (xm_le_pI fun _ _ => (hk _ _ _ _)))
  case ior => exact (xm_le_pI fun _ _ => (xm_le_pI fun _ _ => (hk _ _ _ _)))
  case ixor => exact (xm_le_pI fun _ _ => (xm_le_pI fun _ _ => (hk _ _ _ _)))
  case ishl => exact (xm_le_pI fun _ _ => (xm_le_pI fun _ _ => (hk _ _ _ _)))
  case ishr => exact (xm_le_pI fun _ _ => (xm_le_pI fun _ _ => (hk _ _ _ _)))
  case iushr => exact (xm_le_pI fun _ _ => (xm_le_pI fun _ _ => (hk _ _ _ _)))
  case i2l => exact (xm_le_pI fun _ _ => (hk _ _ _ _))
  case l2i => exact (xm_le_pL fun _ _ => (hk _ _ _ _))
  case i2b => exact (xm_le_pI fun _ _ => (hk _ _ _ _))
  case i2c => exact (xm_le_pI fun _ _ => (hk _ _ _ _))
  case i2f => exact (xm_le_pI fun _ _ => (hk _ _ _ _))
  case i2d => exact (xm_le_pI fun _ _ => (hk _ _ _ _))
  case f2d => exact (xm_le_pF fun _ _ => (xm_le_ite (hk _ _ _ _) xm_le_rfl))
  case fdiv => exact (xm_le_pF fun _ _ => (xm_le_pF fun _ _ => (xm_le_ite (hk _ _ _ _) xm_le_rfl)))
  case ddiv => exact (xm_le_pD fun _ _ => (xm_le_pD fun _ _ => (xm_le_ite (hk _ _ _ _) xm_le_rfl)))
  case dcmp => exact (xm_le_pD fun _ _ => (xm_le_pD fun _ _ => (hk _ _ _ _)))
  case ladd => exact (xm_le_pL fun _ _ => (xm_le_pL fun _ _ => (hk _ _ _ _)))
  case lsub => exact (xm_le_pL fun _ _ => (xm_le_pL fun _ _ => (hk _ _ _ _)))
  case lmul => exact (xm_le_pL fun _ _ => (xm_le_pL fun _ _ => (hk _ _ _ _)))
  case land => exact (xm_le_pL fun _ _ => (xm_le_pL fun _ _ => (hk _ _ _ _)))
  case lor => exact (xm_le_pL fun _ _ => (xm_le_pL fun _ _ => (hk _ _ _ _)))
  case lcmp => exact (xm_le_pL fun _ _ => (xm_le_pL fun _ _ => (hk _ _ _ _)))
  case dup => exact (by dsimp only [xm_op]; split <;> first | exact hk _ _ _ _ | exact xm_le_rfl)
  case dup2 => exact (by dsimp only [xm_op]; split <;> first | exact hk _ _ _ _ | exact xm_le_rfl)
  case pop => dsimp only [xm_op]; split <;> first | exact hk _ _ _ _ | exact xm_le_rfl
  case dup_x1 => dsimp only [xm_op]; split <;> first | exact hk _ _ _ _ | exact xm_le_rfl
  case aconst_null => dsimp only [xm_op]; exact hk _ _ _ _
  case ifnull => dsimp only [xm_op]; split <;> first | exact hk _ _ _ _ | exact xm_le_rfl
  case ifnonnull =>
    dsimp only [xm_op]
    split
    · exact (xm_le_go fun _ => hk _ _ _ _)
    · exact (xm_le_ite (xm_le_go fun _ => hk _ _ _ _) xm_le_rfl)
    · exact xm_le_rfl
  case checkcast => dsimp only [xm_op]; exact (xm_le_pR fun _ _ => (xm_le_bind fun _ => (hk _ _ _ _)))
  case fcmp => dsimp only [xm_op]; exact (xm_le_pF fun _ _ => (xm_le_pF fun _ _ => (hk _ _ _ _)))
  case ineg => dsimp only [xm_op]; exact (xm_le_pI fun _ _ => (hk _ _ _ _))
  case goto => exact (xm_le_go fun _ => hk _ _ _ _)
  case ifCond => exact (xm_le_pI fun _ _ => (xm_le_cI (xm_le_go fun _ => hk _ _ _ _) (hk _ _ _ _)))
  case if_icmp => exact (xm_le_pI fun _ _ => (xm_le_pI fun _ _ => (xm_le_cI (xm_le_go fun _ => hk _ _ _ _) (hk _ _ _ _))))
  case tableswitch => exact (xm_le_pI fun _ _ => (xm_le_ts fun _ => xm_le_go fun _ => hk _ _ _ _))
  case lookupswitch => exact (xm_le_pI fun _ _ => (xm_le_ls fun _ => xm_le_go fun _ => hk _ _ _ _))
  case getfield =>
    dsimp only [xm_op]
    split
    · exact (xm_le_pR fun _ _ => (xm_le_bind fun _ => (hk _ _ _ _)))
    · exact (xm_le_pR fun _ _ => (xm_le_bind fun _ => (hk _ _ _ _)))
    · split
      · exact (xm_le_bind fun _ => (hk _ _ _ _))
      · exact (xm_le_ite (hk _ _ _ _) xm_le_rfl)
      · exact xm_le_rfl
    · split
      · exact (xm_le_bind fun _ => (hk _ _ _ _))
      · exact (xm_le_ite (hk _ _ _ _) xm_le_rfl)
      · exact xm_le_rfl
  case putfield =>
    dsimp only [xm_op]
    split
    · exact (xm_le_pI fun _ _ => (xm_le_pR fun _ _ => (xm_le_bind fun _ => (hk _ _ _ _))))
    · exact (xm_le_pR fun _ _ => (xm_le_pR fun _ _ => (xm_le_bind fun _ => (hk _ _ _ _))))
    · exact (xm_le_pI fun _ _ => (xm_le_pR fun _ _ => (xm_le_ite (xm_le_bind fun _ => (hk _ _ _ _)) xm_le_rfl)))
    · exact (xm_le_pI fun _ _ => (xm_le_pR fun _ _ => (xm_le_ite (xm_le_bind fun _ => (hk _ _ _ _)) xm_le_rfl)))
  case getstatic => dsimp only [xm_op]; split <;> exact hk _ _ _ _
  case iaload =>
    dsimp only [xm_op]
    split
    · exact (xm_le_pI fun _ _ => (xm_le_pR fun _ _ => (xm_le_bind fun _ => (hk _ _ _ _))))
    · refine (xm_le_pI fun _ _ => (xm_le_pS fun _ _ => ?_))
      rw [if_neg (fun z => h0 z.2.1)]
      exact fun _ h => nomatch h
  case baload =>
    dsimp only [xm_op]
    split
    · exact (xm_le_pI fun _ _ => (xm_le_pR fun _ _ => (xm_le_bind fun _ => (hk _ _ _ _))))
    · exact (xm_le_pI fun _ _ => (xm_le_pR fun _ _ => (xm_le_bind fun _ => (hk _ _ _ _))))
    · refine (xm_le_pI fun _ _ => ?_)
      split
      · exact (xm_le_bind fun _ => (hk _ _ _ _))
      · exact (xm_le_ite (hk _ _ _ _) xm_le_rfl)
      · exact xm_le_rfl
  case laload => exact (xm_le_pI fun _ _ => (xm_le_pR fun _ _ => (xm_le_bind fun _ => (hk _ _ _ _))))
  case aaload => dsimp only [xm_op]; split <;> exact (xm_le_pI fun _ _ => (xm_le_pR fun _ _ => (xm_le_bind fun _ => (hk _ _ _ _))))
  case iastore => exact (xm_le_pI fun _ _ => (xm_le_pI fun _ _ => (xm_le_pR fun _ _ => (xm_le_bind fun _ => (hk _ _ _ _)))))
  case bastore =>
    dsimp only [xm_op]
    split
    · exact (xm_le_pI fun _ _ => (xm_le_pI fun _ _ => (xm_le_pR fun _ _ => (xm_le_bind fun _ => (hk _ _ _ _)))))
    · exact (xm_le_pI fun _ _ => (xm_le_pI fun _ _ => (xm_le_pR fun _ _ => (xm_le_ite (xm_le_bind fun _ => (hk _ _ _ _)) xm_le_rfl))))
  case lastore => exact (xm_le_pL fun _ _ => (xm_le_pI fun _ _ => (xm_le_pR fun _ _ => (xm_le_bind fun _ => (hk _ _ _ _)))))
  case aastore => dsimp only [xm_op]; split <;> exact (xm_le_pR fun _ _ => (xm_le_pI fun _ _ => (xm_le_pR fun _ _ => (xm_le_ite (xm_le_bind fun _ => (hk _ _ _ _)) xm_le_rfl))))
  case arraylength =>
    dsimp only [xm_op]
    split
    · exact (xm_le_pR fun _ _ => (xm_le_bind fun _ => (hk _ _ _ _)))
    · split
      · exact (xm_le_bind fun _ => (hk _ _ _ _))
      · exact (xm_le_ite (hk _ _ _ _) xm_le_rfl)
      · exact xm_le_rfl
    · refine (xm_le_pS fun _ _ => ?_)
      rw [if_neg (fun z => h0 z.2)]
      exact fun _ h => nomatch h
  case newarray =>
    dsimp only [xm_op]
    split
    · exact (xm_le_pI fun _ _ => (xm_le_ite xm_le_rfl (xm_le_ite (xm_le_push fun _ _ => hk _ _ _ _) xm_le_rfl)))
    · exact (xm_le_pI fun _ _ => (xm_le_ite xm_le_rfl (xm_le_ite (xm_le_push fun _ _ => hk _ _ _ _) xm_le_rfl)))
  case anewarray => exact (xm_le_pI fun _ _ => (xm_le_ite xm_le_rfl (xm_le_ite (xm_le_push fun _ _ => hk _ _ _ _) xm_le_rfl)))
  case new =>
    dsimp only [xm_op]
    split
    · exact (xm_le_push fun _ _ => hk _ _ _ _)
    · exact (xm_le_ite xm_le_rfl xm_le_rfl)
  case invokestatic =>
    dsimp only [xm_op]
    split
    · exact (xm_le_ite (xm_le_call hc hk (fun _ _ => hx' _ _ _ _)) xm_le_rfl)
    · exact (xm_le_pI fun _ _ => (xm_le_pI fun _ _ => (xm_le_ite (hk _ _ _ _) xm_le_rfl)))
    · exact (xm_le_pI fun _ _ => (xm_le_pI fun _ _ => (xm_le_ite (hk _ _ _ _) xm_le_rfl)))
    · refine (xm_le_pI fun _ _ => (xm_le_pI fun _ _ => (xm_le_pR fun _ _ => (xm_le_pI fun _ _ => ?_))))
      split
      · exact (xm_le_ite (xm_le_bind fun _ => (hk _ _ _ _)) xm_le_rfl)
      · exact (xm_le_ite (xm_le_bind fun _ => (hk _ _ _ _)) xm_le_rfl)
      · exact xm_le_rfl
    · exact (xm_le_pD fun _ _ => (xm_le_ite (hk _ _ _ _) xm_le_rfl))
    · exact (xm_le_pF fun _ _ => (xm_le_ite (hk _ _ _ _) xm_le_rfl))
  case invokevirtual =>
    dsimp only [xm_op]
    split
    · exact (xm_le_pR fun _ _ => (xm_le_bind fun _ => (xm_le_ite (xm_le_push fun _ _ => hk _ _ _ _) xm_le_rfl)))
    · exact (xm_le_ite (xm_le_pR fun _ _ => (xm_le_ite (xm_le_call hc hk (fun _ _ => hx' _ _ _ _)) xm_le_rfl)) xm_le_rfl)
    · exact (xm_le_ite (xm_le_pRS fun _ _ => (xm_le_ite (xm_le_call hc hk (fun _ _ => hx' _ _ _ _)) xm_le_rfl)) xm_le_rfl)
  case invokespecial =>
    dsimp only [xm_op]
    split
    · exact (xm_le_ite (xm_le_pR fun _ _ => (xm_le_call hc hk (fun _ _ => xm_le_rfl))) xm_le_rfl)
    · exact (xm_le_pR fun _ _ => (xm_le_ite (hk _ _ _ _) xm_le_rfl))
    · exact (xm_le_ite (xm_le_pR fun _ _ => (xm_le_ite (xm_le_call hc hk (fun _ _ => hx' _ _ _ _)) xm_le_rfl)) xm_le_rfl)
  case ireturn => exact xm_le_rfl
  case lreturn => exact (xm_le_pL fun _ _ => (xm_le_ite xm_le_rfl xm_le_rfl))
  case areturn => dsimp only [xm_op]; exact (xm_le_pR fun _ _ => (xm_le_ite xm_le_rfl xm_le_rfl))
  case freturn => exact (xm_le_pF fun _ _ => (xm_le_ite xm_le_rfl xm_le_rfl))
  case dreturn => exact (xm_le_pD fun _ _ => (xm_le_ite xm_le_rfl xm_le_rfl))
  case return_ => exact (xm_le_ite xm_le_rfl xm_le_rfl)
  all_goals exact xm_le_rfl
theorem xm_sc_step (h0 : ¬ sc0.1 ≤ 260) (hc : ∀ j as S, xm_le (call j as S) (call' j as S)) (hk : ∀ pc ls st S, xm_le (kont pc ls st S) (kont' pc ls st S)) {pc : Nat} {ls st : List Value} {S : xm_PS} : xm_le (xm_step sc0 tab hx call kont pc ls st S) (xm_step sc tab hx call' kont' pc ls st S) := by
  unfold xm_step; split
  · exact xm_le_rfl
  · exact xm_sc_op h0 hc hk
end SCS
theorem xm_run_sc {sc sc0 : xm_Sc} (h0 : ¬ sc0.1 ≤ 260) (M : Nat → Option xm_MI) : ∀ (n d i pc : Nat) (ls st : List Value) (S : xm_PS), xm_le (xm_run sc0 M n d i pc ls st S) (xm_run sc M n d i pc ls st S)
  | 0, _, _, _, _, _, _ => fun o h => by cases h
  | n + 1, d, i, pc, ls, st, S => by
    unfold xm_run
    cases M i with
    | none => exact xm_le_rfl
    | some q =>
      refine xm_sc_step h0 (fun j as S => ?_) (fun pc ls st S => xm_run_sc h0 M n d i pc ls st S)
      cases d with
      | zero => exact xm_le_rfl
      | succ d =>
        dsimp only
        cases M j with
        | none => exact xm_le_rfl
        | some r => exact xm_le_ite (xm_run_sc h0 M n d j 0 _ [] S) xm_le_rfl
