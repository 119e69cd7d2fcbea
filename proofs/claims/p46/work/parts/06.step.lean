/-! ONE STEP: what the pure machine does, the real one does. -/
def xm_w (e : Nat) : Option Cond := match e / 1000 with
  | 0 => (k2_sels lw_privs)[e]?
  | 1 => tables_1_1[e % 1000]?
  | 2 => tables_1_2[e % 1000]?
  | 3 => tables_1_3[e % 1000]?
  | 4 => tables_1_4[e % 1000]?
  | 5 => tables_1_5[e % 1000]?
  | 6 => tables_1_6[e % 1000]?
  | 7 => tables_1_7[e % 1000]?
  | 9 => xm_selP[e % 1000]?
  | _ => none
theorem xm_w_mem {e : Nat} {w : Cond} (h : xm_w e = some w) : w ∈ xm_tbl := by
  have key : ∀ (l : List Cond) (i : Nat), l[i]? = some w → w ∈ l := fun l i h => List.mem_of_getElem? h
  unfold xm_w at h
  unfold xm_tbl lw_tbl tables_1
  simp only [List.mem_append]
  split at h <;> first | (cases h; done) | (have := key _ _ h; simp [this])
theorem xm_w_gw {e : Nat} {w : Cond} (h : xm_w e = some w) (hg : goodWord w = true) : w ∈ xm_gw := List.mem_filter.mpr ⟨xm_w_mem h, hg⟩
theorem xm_w_bw {e : Nat} {w : Cond} (h : xm_w e = some w) (hg : xm_isBad w = true) : w ∈ xm_bw := List.mem_filter.mpr ⟨xm_w_mem h, hg⟩
def xm_en (e : Nat) : String := if e = 0 then "java/util/NoSuchElementException" else "java/lang/IllegalArgumentException"
def xm_ct1 (e : Nat) : Nat := if e = 0 then 18 else 13
def xm_ic (e : Nat) : Nat := if e = 0 then 202 else 93
def xm_hh (hx : xm_Hx) : List (Nat × Nat × Nat × Nat) := hx.map fun q => (q.1, q.2.1, q.2.2.1, xm_ct1 q.2.2.2)
/-- the field k of the class a, by its row of the class file -/
def xm_fl (a k : Nat) : Option (String × String × String × Bool) := match vwCl[a]? with
  | some q => if k < q.2.2 then some (q.2.1 k) else none
  | none => none
def xm_okT (y : MethodName) (cc : ByteArray) (pc a b d e ik : Nat) : Bool :=
  decide (a < 2) && decide (xm_w e = some (.classLink y.cls ik (xm_en a))) && decide (y.cls = RX10) && (match xm_sr[b]? with
    | some q => decide (q.1 = y.cls) && decide (decode cc (pc + 3) = .ok (.dup, 1)) && (match d with
      | 0 => decide (decode cc (pc + 4) = .ok (.ldc q.2.1, 2)) && decide (decode cc (pc + 6) = .ok (.invokespecial (xm_ic a), 3)) && decide (decode cc (pc + 9) = .ok (.athrow, 1))
      | _ => decide (decode cc (pc + 4) = .ok (.ldc_w q.2.1, 3)) && decide (decode cc (pc + 7) = .ok (.invokespecial (xm_ic a), 3)) && decide (decode cc (pc + 10) = .ok (.athrow, 1)))
    | none => false)
def xm_okF (c : Nat) (ty : FieldType) : Bool := match c with
  | 0 => decide (ty = .int)
  | 1 => match ty with
    | .object _ => true
    | .array _ => true
    | _ => false
  | 2 => decide (ty = .boolean)
  | _ => decide (ty = .byte)
/-- what is called on a StringBuilder under AbstractStringBuilder's name -/
def xm_inhL : List MethodName := [yJ4_append_cf1ce, yJ5_newCapacity_0f7a4, yJ5_ensureCapacityInternal_d00df, yJ5_putStringAt_47b60, yJ5_isLatin1_aae02, yJ5_inflateIfNeededFor_a7421, yJ5_getValue_6d5f1, yJ4_length_8abf5]
/-- what a StringBuilder's methods call of AbstractStringBuilder by 'super' -/
def xm_supL : List MethodName := [yJ5_append_cf1ce, yJ5_append_3fe6f, yJ5_append_c97b9, yJ5_charAt_5068e, yJ5_length_8abf5]
def xm_okK (d e : Nat) (own : String) (i : Nat) (f : String × String × String × Bool) : Bool := match d with
  | 0 => decide (xm_w e = some (.fieldLink own i f.1 f.2.1 f.2.2.1))
  | _ => decide (xm_w e = some (.fieldLinkNest own i f.1 f.2.1 f.2.2.1 RL))
/-- what a row of a method's table must be, beside its decoding; N: the methods' names and their kinds (0 static, 1 called on an object, 2 a constructor) and parameters -/
def xm_okL (N : Nat → Option (MethodName × Nat × Nat)) (y : MethodName) (cc : ByteArray) (maxL : Nat) (ret : Option FieldType) (pc : Nat) (ins : Instr) (a b c d e : Nat) : Bool := match ins with
  | .istore i => decide (i < maxL)
  | .istore_n i => decide (i.val < maxL)
  | .fstore i => decide (i < maxL)
  | .astore i => decide (i < maxL)
  | .astore_n i => decide (i.val < maxL)
  | .iinc i _ => decide (i < maxL)
  | .ifCond _ off => decide (0 ≤ (pc : Int) + off)
  | .if_icmp _ off => decide (0 ≤ (pc : Int) + off)
  | .fconst i => decide (i = 0)
  | .dconst i => decide (i = 0)
  | .ldc i => match b with
    | 0 => decide (xm_w e = some (.constant y.cls i (Int32.ofNat a)))
    | _ => decide (a < 26) && (match xm_sr[a]? with
      | some q => decide (q.1 = y.cls) && decide (q.2.1 = i)
      | none => false)
  | .ldc_w i => match b with
    | 0 => decide (xm_w e = some (.constant y.cls i (Int32.ofNat a)))
    | _ => decide (a < 26) && (match xm_sr[a]? with
      | some q => decide (q.1 = y.cls) && decide (q.2.1 = i)
      | none => false)
  | .ldc2_w i => decide (xm_w e = some (.constantLong y.cls i (Int64.ofNat a)))
  | .lookupswitch _ ps => decide ((ps.toList.zip (ps.toList.drop 1)).all (fun (a, next) => a.1 < next.1) = true)
  | .tableswitch _ lo hi offs => decide (hi + 1 = lo + (offs.size : Int))
  | .getfield i => match c with
    | 2 => decide (xm_w e = some (.fieldLink y.cls i RJ0 "value" "[B"))
    | 0 => match xm_fl a b with
      | some f => xm_okK d e y.cls i f
      | none => false
    | 1 => match xm_fl a b with
      | some f => xm_okK d e y.cls i f
      | none => false
    | _ => decide (xm_w e = some (.fieldLink y.cls i RJ0 "coder" "B"))
  | .putfield i => match xm_fl a b with
    | some f => xm_okK d e y.cls i f && (decide (f.2.2.2 = false) || (decide (y.name = "<init>") && decide (f.1 = y.cls) && decide (d = 0))) && (match parseFieldDescriptor f.2.2.1 with
      | some ty => xm_okF c ty
      | none => false)
    | none => false
  | .getstatic i => match a with
    | 0 => decide (xm_w e = some (.fieldLink y.cls i RJ0 "COMPACT_STRINGS" "Z"))
    | 1 => decide (xm_w e = some (.fieldLink y.cls i RJ3 "SIOOBE_FORMATTER" "Ljava/util/function/BiFunction;"))
    | _ => decide (xm_w e = some (.fieldLink y.cls i RJ6 "DigitOnes" "[B"))
  | .newarray t => match c with
    | 0 => decide (t = .int)
    | 1 => decide (t = .byte)
    | 2 => decide (t = .long)
    | 3 => decide (t = .boolean)
    | _ => false
  | .anewarray i => match c with
    | 4 => decide (xm_w e = some (.classLink y.cls i RX6))
    | 5 => decide (xm_w e = some (.classLink y.cls i RX12))
    | 6 => decide (xm_w e = some (.classLink y.cls i (FieldType.array .int).toString))
    | _ => false
  | .new i => match c with
    | 0 => match vwCl[a]? with
      | some q => decide (xm_w e = some (.classLink y.cls i q.1))
      | none => false
    | _ => xm_okT y cc pc a b d e i
  | .invokestatic i => match d with
    | 0 => match N a with
      | some q => decide (q.2.1 = 0) && decide (q.2.2 = b) && decide (xm_w e = some (.methodLink y.cls i q.1))
      | none => false
    | 1 => decide (xm_w e = some (.methodLink y.cls i Lib.Math.max.name))
    | 2 => decide (xm_w e = some (.methodLink y.cls i Lib.Math.min.name))
    | 4 => decide (xm_w e = some (.methodLink y.cls i arraycopyName))
    | 5 => decide (xm_w e = some (.methodLink y.cls i ⟨"java/lang/Double", "doubleToRawLongBits", "(D)J"⟩))
    | _ => decide (xm_w e = some (.methodLink y.cls i ⟨"java/lang/Float", "floatToRawIntBits", "(F)I"⟩))
  | .invokevirtual i => match d with
    | 101 => decide (xm_w e = some (.methodLink y.cls i ⟨"[B", "clone", "()Ljava/lang/Object;"⟩))
    | 111 => match N a with
      | some q => (decide (q.2.1 = 1) || decide (q.2.1 = 3)) && decide (q.2.2 = b) && decide (xm_w e = some (.methodLink y.cls i ⟨RJ5, q.1.name, q.1.desc⟩)) && decide (q.1 ∈ xm_inhL)
      | none => false
    | d => match N a with
      | some q => decide (q.2.1 = 1) && decide (q.2.2 = b) && (decide (xm_w e = some (.methodLink y.cls i q.1)) || decide (xm_w e = some (.methodLinkNest y.cls i q.1 RL))) && (match d with
        | 100 => decide (q.1.cls = RJ0) && decide (xm_w e = some (.methodLink y.cls i q.1))
        | _ => match vwCl[d]? with
          | some r => decide (q.1.cls = r.1)
          | none => false)
      | none => false
  | .invokespecial i => match d with
    | 0 => match N a with
      | some q => decide (q.2.1 = 2) && decide (q.2.2 = b) && (decide (xm_w e = some (.methodLink y.cls i q.1)) || decide (xm_w e = some (.methodLinkNest y.cls i q.1 RX10)) || decide (xm_w e = some (.methodLinkNest y.cls i q.1 RL)))
      | none => false
    | 1 => decide (xm_w e = some (.methodLink y.cls i Lib.objectInit))
    | _ => match N a with
      | some q => decide (q.2.1 = 3) && decide (q.2.2 = b) && decide (xm_w e = some (.methodLink y.cls i q.1)) && decide (y.cls = RJ4) && decide (q.1 ∈ xm_supL)
      | none => false
  | .checkcast i => decide (xm_w e = some (.classLink y.cls i "[B"))
  | .ireturn => match c with
    | 0 => decide (ret = some .int)
    | 1 => decide (ret = some .boolean)
    | 2 => decide (ret = some .char)
    | _ => decide (ret = some .byte)
  | .areturn => match ret with
    | some t => t.isReference
    | none => false
  | .lreturn => decide (ret = some .long)
  | .freturn => decide (ret = some .float)
  | .dreturn => decide (ret = some .double)
  | .return_ => decide (ret = none)
  | _ => true
def xm_lenOk (ins : Instr) (len : Nat) : Bool := match ins with
  | .aload_n _ => decide (1 = len)
  | .fload_n _ => decide (1 = len)
  | .lstore_n _ => decide (1 = len)
  | .dup_x1 => decide (1 = len)
  | .aconst_null => decide (1 = len)
  | .fcmp _ => decide (1 = len)
  | .ineg => decide (1 = len)
  | .areturn => decide (1 = len)
  | .lload _ => decide (2 = len)
  | .fload _ => decide (2 = len)
  | .fstore _ => decide (2 = len)
  | .lstore _ => decide (2 = len)
  | .ifnull _ => decide (3 = len)
  | .ifnonnull _ => decide (3 = len)
  | .checkcast _ => decide (3 = len)
  | .iload_n _ => decide (1 = len)
  | .lload_n _ => decide (1 = len)
  | .dload_n _ => decide (1 = len)
  | .istore_n _ => decide (1 = len)
  | .astore_n _ => decide (1 = len)
  | .dstore_n _ => decide (1 = len)
  | .iconst _ => decide (1 = len)
  | .lconst _ => decide (1 = len)
  | .fconst _ => decide (1 = len)
  | .dconst _ => decide (1 = len)
  | .iadd => decide (1 = len)
  | .isub => decide (1 = len)
  | .imul => decide (1 = len)
  | .iand => decide (1 = len)
  | .ior => decide (1 = len)
  | .ixor => decide (1 = len)
  | .ishl => decide (1 = len)
  | .ishr => decide (1 = len)
  | .iushr => decide (1 = len)
  | .idiv => decide (1 = len)
  | .irem => decide (1 = len)
  | .i2l => decide (1 = len)
  | .i2b => decide (1 = len)
  | .i2c => decide (1 = len)
  | .i2f => decide (1 = len)
  | .i2d => decide (1 = len)
  | .l2i => decide (1 = len)
  | .f2d => decide (1 = len)
  | .fdiv => decide (1 = len)
  | .ddiv => decide (1 = len)
  | .dcmp _ => decide (1 = len)
  | .ladd => decide (1 = len)
  | .lsub => decide (1 = len)
  | .lmul => decide (1 = len)
  | .land => decide (1 = len)
  | .lor => decide (1 = len)
  | .lcmp => decide (1 = len)
  | .dup => decide (1 = len)
  | .dup2 => decide (1 = len)
  | .pop => decide (1 = len)
  | .iaload => decide (1 = len)
  | .baload => decide (1 = len)
  | .laload => decide (1 = len)
  | .aaload => decide (1 = len)
  | .iastore => decide (1 = len)
  | .bastore => decide (1 = len)
  | .lastore => decide (1 = len)
  | .aastore => decide (1 = len)
  | .arraylength => decide (1 = len)
  | .ireturn => decide (1 = len)
  | .lreturn => decide (1 = len)
  | .freturn => decide (1 = len)
  | .dreturn => decide (1 = len)
  | .return_ => decide (1 = len)
  | .aload _ => decide (2 = len)
  | .iload _ => decide (2 = len)
  | .istore _ => decide (2 = len)
  | .astore _ => decide (2 = len)
  | .dload _ => decide (2 = len)
  | .dstore _ => decide (2 = len)
  | .bipush _ => decide (2 = len)
  | .ldc _ => decide (2 = len)
  | .newarray _ => decide (2 = len)
  | .iinc _ _ => decide (3 = len)
  | .sipush _ => decide (3 = len)
  | .ldc_w _ => decide (3 = len)
  | .ldc2_w _ => decide (3 = len)
  | .goto _ => decide (3 = len)
  | .ifCond _ _ => decide (3 = len)
  | .if_icmp _ _ => decide (3 = len)
  | .getfield _ => decide (3 = len)
  | .putfield _ => decide (3 = len)
  | .getstatic _ => decide (3 = len)
  | .anewarray _ => decide (3 = len)
  | .new _ => decide (3 = len)
  | .invokestatic _ => decide (3 = len)
  | .invokevirtual _ => decide (3 = len)
  | .invokespecial _ => decide (3 = len)
  | _ => true
def xm_okR (N : Nat → Option (MethodName × Nat × Nat)) (q : xm_MI) (r : xm_Row) : Bool :=
  decide (decode q.2.1 r.1 = .ok (r.2.1, r.2.2.1)) && (xm_lenOk r.2.1 r.2.2.1 && xm_okL N q.1 q.2.1 q.2.2.1 q.2.2.2.1 r.1 r.2.1 r.2.2.2.1 r.2.2.2.2.1 r.2.2.2.2.2.1 r.2.2.2.2.2.2.1 r.2.2.2.2.2.2.2)
def xm_cw (q : xm_MI) : Cond := if q.2.2.2.2.1 = [] then .code q.1 q.2.1 q.2.2.1 q.2.2.2.1 else .codeWith q.1 q.2.1 q.2.2.1 q.2.2.2.1 (xm_hh q.2.2.2.2.1)
/-- what a method's words must be; k: its kind, its parameters -/
def xm_okM (q : xm_MI) (k : Nat × Nat) : Prop :=
  plainFor q.1 = true ∧ (q.1.cls ≠ "java/lang/invoke/MethodHandle" ∧ q.1.cls ≠ "java/lang/invoke/VarHandle") ∧ (parseMethodDescriptor q.1.desc).map (fun d => d.parameters.length) = some k.2 ∧ q.2.2.1 ≤ 20 ∧ Cond.initialized q.1.cls ∈ xm_gw ∧ xm_cw q ∈ xm_gw ∧
  (k.1 = 0 → Cond.static q.1 ∈ xm_gw) ∧ (k.1 ≠ 0 → Cond.instanceMethod q.1 ∈ xm_gw) ∧ (k.1 = 1 → Cond.selects q.1.cls q.1 q.1 ∈ xm_gw ∧ q.2.2.2.2.1 = []) ∧ (k.1 = 2 → q.1.name = "<init>" ∧ q.2.2.2.1 = none ∧ q.2.2.2.2.1 = []) ∧ (k.1 = 3 → q.1.name ≠ "<init>" ∧ q.2.2.2.2.1 = []) ∧
  (∀ h ∈ q.2.2.2.2.1, h.2.2.2 < 2 ∧ Cond.classLink q.1.cls (xm_ct1 h.2.2.2) (xm_en h.2.2.2) ∈ xm_gw) ∧ k.1 < 4 ∧ q.2.2.2.2.1.Pairwise (fun a b => a.2.2.2 ≤ b.2.2.2)
def xm_cn (S : xm_PS) : Nat := S.2.2.length + S.2.1
def xm_sz (c : xm_PC) : Nat := match c with
  | .inl (_, n, _) => n
  | .inr (_, fs) => fs.length
def xm_sn (S : xm_PS) : Nat := (S.2.2.map xm_sz).sum + 6 * S.2.1
def xm_mo (S S' : xm_PS) : Prop := xm_cn S ≤ xm_cn S' ∧ xm_sn S ≤ xm_sn S' ∧ (S'.1 = true → S.1 = true)
theorem xm_mo.rf {S : xm_PS} : xm_mo S S := ⟨Nat.le_refl _, Nat.le_refl _, id⟩
theorem xm_mo.tr {S S1 S2 : xm_PS} (h : xm_mo S S1) (h' : xm_mo S1 S2) : xm_mo S S2 := ⟨Nat.le_trans h.1 h'.1, Nat.le_trans h.2.1 h'.2.1, fun e => h.2.2 (h'.2.2 e)⟩
def xm_Rel (B : Nat) (D : va_G) (kA : Nat → ClassId) (sa : Nat → Nat) (su : Value) (S : xm_PS) (H : Heap) : Prop := va_P D vwCl (xm_ws B kA sa su S.2.2) H
def xm_Pc (B : Nat) (D : va_G) (kA : Nat → ClassId) (sa : Nat → Nat) (su : Value) (sc : xm_Sc) (as : List Value) (S : xm_PS) : Array Value → State → Prop := fun a U =>
  a = (as.map (xm_mv B sa su)).toArray ∧ xm_Rel B D kA sa su S U.heap ∧ xm_Kn B D kA sa su sc U ∧ (S.1 = true → U.heap.size ≤ B + xm_cn S)
def xm_Qc (B : Nat) (D : va_G) (kA : Nat → ClassId) (sa : Nat → Nat) (su : Value) (o : Option Value ⊕ Nat) (S : xm_PS) : Array Value → State → Outcome → State → Prop := fun _ st oc t =>
  (∃ v, o = .inl v ∧ oc = .returned (v.map (xm_mv B sa su))) ∧ xm_Rel B D kA sa su S t.heap ∧ va_F (fun q => B ≤ q) st t
def xm_XC (B : Nat) (D : va_G) (kA : Nat → ClassId) (sa : Nat → Nat) (su : Value) (o : Option Value ⊕ Nat) (S : xm_PS) : String → State → State → Prop := fun E st t =>
  (∃ e, o = .inr e ∧ E = xm_en e) ∧ xm_Rel B D kA sa su S t.heap ∧ va_F (fun q => B ≤ q) st t
def xm_rm (d mc ms : Nat) : Room := { frames := d + 6, cells := mc, slots := ms, locals := 50 * d + 100 }
def xm_Call (B : Nat) (D : va_G) (kA : Nat → ClassId) (sa : Nat → Nat) (su : Value) (sc : xm_Sc) (M : Nat → Option xm_MI) (l : Launch) (R : Room) (j : Nat) (as : List Value) (S : xm_PS) (o : Option Value ⊕ Nat) (S1 : xm_PS) : Prop :=
  xm_mo S S1 ∧ ∃ (d : Nat) (q : xm_MI), M j = some q ∧ d + 7 ≤ R.frames ∧ 50 * d + 150 ≤ R.locals ∧
    vx_Met l q.1 (xm_cw q :: xm_gw) (xm_rm d (xm_cn S1 - xm_cn S) (xm_sn S1 - xm_sn S)) (xm_Pc B D kA sa su sc as S) (xm_Qc B D kA sa su o S1) (xm_XC B D kA sa su o S1) (xm_cn S1 - xm_cn S) (xm_sn S1 - xm_sn S) (fun q => B ≤ q)
def xm_G (B : Nat) (D : va_G) (kA : Nat → ClassId) (sa : Nat → Nat) (su : Value) (p : Program) (l : Launch) (e : Env) (R : Room) (s : State) (m : MethodId) (args : Array Value) (below : List Frame) (meth : Method) (c : Code) (K0 N0 : Nat) (Q : State → Prop) (S' : xm_PS) (pc : Nat) (ls st : List Value) (S : xm_PS) : Prop :=
  xm_mo S S' ∧ ∀ (H : Heap) (locs : List Loc) (cells slots : Nat) (lsR : Array Slot), xm_Rel B D kA sa su S H → va_S (fun q => B ≤ q) s.heap H locs → xm_LR B sa su ls lsR → cells + K0 = xm_cn S → slots + N0 = xm_sn S → ls.length = c.maxLocals → (S.1 = true → s.heap.size ≤ B + K0) →
    W p l e R s m args below meth c H locs cells slots Q (F0 m pc lsR (st.map (xm_mv B sa su)))
def xm_Cx (B : Nat) (D : va_G) (kA : Nat → ClassId) (sa : Nat → Nat) (su : Value) (sc : xm_Sc) (q : xm_MI) (p : Program) (l : Launch) (R : Room) (s : State) (m : MethodId) (args : Array Value) (meth : Method) (c : Code) : Prop :=
  p.tables.exec = Jvm.exec ∧ c.code = q.2.1 ∧ s.vm.findClass q.1.cls = some m.cls ∧ (∀ w ∈ xm_gw, w.before args s = true) ∧ c.maxLocals = q.2.2.1 ∧ c.exceptionTable.toList = tableOf (xm_hh q.2.2.2.2.1) ∧ meth.name = q.1.name ∧ xm_Kn B D kA sa su sc s ∧ su.category = 1 ∧ 6 ≤ R.frames ∧ 100 ≤ R.locals
/-- how a body ends: it returns, passes on what a callee threw, or throws -/
def xm_End (B : Nat) (D : va_G) (kA : Nat → ClassId) (sa : Nat → Nat) (su : Value) (p : Program) (l : Launch) (e : Env) (R : Room) (s : State) (m : MethodId) (args : Array Value) (below : List Frame) (meth : Method) (c : Code) (K0 N0 : Nat) (Q : State → Prop) (q : xm_MI) (o : Option Value ⊕ Nat) (S' : xm_PS) : Prop :=
  ∀ (H : Heap) (locs : List Loc) (cells slots : Nat) (lsR : Array Slot) (pc : Nat), va_S (fun q => B ≤ q) s.heap H locs → lsR.size = c.maxLocals →
    (xm_Rel B D kA sa su S' H → cells + K0 = xm_cn S' → slots + N0 = xm_sn S' → (∀ v, o = .inl v → (v = none ∧ decode q.2.1 pc = .ok (.return_, 1) ∧ q.2.2.2.1 = none) ∨ (∃ x ty, v = some (.int x) ∧ decode q.2.1 pc = .ok (.ireturn, 1) ∧ q.2.2.2.1 = some ty ∧ narrow ty (.int x) = .int x) ∨ (∃ x ty, v = some (.ref x) ∧ decode q.2.1 pc = .ok (.areturn, 1) ∧ q.2.2.2.1 = some ty ∧ ty.isReference = true) ∨ (∃ x, v = some (.long x) ∧ decode q.2.1 pc = .ok (.lreturn, 1) ∧ q.2.2.2.1 = some .long) ∨ (∃ x, v = some (.float x) ∧ decode q.2.1 pc = .ok (.freturn, 1) ∧ q.2.2.2.1 = some .float) ∨ (∃ x, v = some (.double x) ∧ decode q.2.1 pc = .ok (.dreturn, 1) ∧ q.2.2.2.1 = some .double) →
        W p l e R s m args below meth c H locs cells slots Q (F0 m pc lsR (v.map (xm_mv B sa su)).toList)) ∧
      (∀ x, o = .inr x → q.2.2.2.2.1 = [] → ∀ (rest : List Value) (a : Addr) (ce : Cell), H[a]? = some ce → ce.vm = .none → s.vm.findClass (xm_en x) = some ce.cls → vx_W p l e R s m args below meth c H locs cells slots Q (F0 m pc lsR rest) a)) ∧
    (∀ (x b d e1 ik : Nat) (S1 : xm_PS) (rest : List Value), o = .inr x → S' = (S1.1, S1.2.1 + 1, S1.2.2) → S1.1 = false → xm_Rel B D kA sa su S1 H → cells + K0 = xm_cn S1 → slots + N0 = xm_sn S1 → q.2.2.2.2.1 = [] → decode q.2.1 pc = .ok (.new ik, 3) → xm_okT q.1 q.2.1 pc x b d e1 ik = true → (rest.map fun v => v.category).sum ≤ 8 →
      W p l e R s m args below meth c H locs cells slots Q (F0 m pc lsR rest))
-- reading a step that succeeded
theorem xm_pI_some {st : List Value} {k : Int32 → List Value → Option xm_O} {o : xm_O} (h : xm_pI st k = some o) : ∃ x r, st = .int x :: r ∧ k x r = some o := by
  unfold xm_pI at h; split at h <;> first | exact ⟨_, _, rfl, h⟩ | cases h
theorem xm_pL_some {st : List Value} {k : Int64 → List Value → Option xm_O} {o : xm_O} (h : xm_pL st k = some o) : ∃ x r, st = .long x :: r ∧ k x r = some o := by
  unfold xm_pL at h; split at h <;> first | exact ⟨_, _, rfl, h⟩ | cases h
theorem xm_pF_some {st : List Value} {k : UInt32 → List Value → Option xm_O} {o : xm_O} (h : xm_pF st k = some o) : ∃ x r, st = .float x :: r ∧ k x r = some o := by
  unfold xm_pF at h; split at h <;> first | exact ⟨_, _, rfl, h⟩ | cases h
theorem xm_pD_some {st : List Value} {k : UInt64 → List Value → Option xm_O} {o : xm_O} (h : xm_pD st k = some o) : ∃ x r, st = .double x :: r ∧ k x r = some o := by
  unfold xm_pD at h; split at h <;> first | exact ⟨_, _, rfl, h⟩ | cases h
theorem xm_pR_some {st : List Value} {k : Nat → List Value → Option xm_O} {o : xm_O} (h : xm_pR st k = some o) : ∃ x r, st = .ref x :: r ∧ k x r = some o := by
  unfold xm_pR at h; split at h <;> first | exact ⟨_, _, rfl, h⟩ | cases h
theorem xm_pS_some {st : List Value} {k : Nat → List Value → Option xm_O} {o : xm_O} (h : xm_pS st k = some o) : ∃ x r, st = .retAddr x :: r ∧ k x r = some o := by
  unfold xm_pS at h; split at h <;> first | exact ⟨_, _, rfl, h⟩ | cases h
theorem xm_pRS_some {st : List Value} {k : Value → List Value → Option xm_O} {o : xm_O} (h : xm_pRS st k = some o) : ∃ v r, st = v :: r ∧ k v r = some o ∧ ((∃ x, v = .ref x) ∨ ∃ x, v = .retAddr x) := by
  unfold xm_pRS at h; split at h <;> first | exact ⟨_, _, rfl, h, Or.inl ⟨_, rfl⟩⟩ | exact ⟨_, _, rfl, h, Or.inr ⟨_, rfl⟩⟩ | cases h
theorem xm_lI_some {ls : List Value} {i : Nat} {k : Int32 → Option xm_O} {o : xm_O} (h : xm_lI ls i k = some o) : ∃ x, ls[i]? = some (.int x) ∧ k x = some o := by
  unfold xm_lI at h; split at h <;> first | exact ⟨_, by assumption, h⟩ | cases h
theorem xm_lF_some {ls : List Value} {i : Nat} {k : UInt32 → Option xm_O} {o : xm_O} (h : xm_lF ls i k = some o) : ∃ x, ls[i]? = some (.float x) ∧ k x = some o := by
  unfold xm_lF at h; split at h <;> first | exact ⟨_, by assumption, h⟩ | cases h
theorem xm_lL_some {ls : List Value} {i : Nat} {k : Int64 → Option xm_O} {o : xm_O} (h : xm_lL ls i k = some o) : ∃ x, ls[i]? = some (.long x) ∧ ls[i + 1]? = some .null ∧ k x = some o := by
  unfold xm_lL at h; split at h <;> first | exact ⟨_, by assumption, by assumption, h⟩ | cases h
theorem xm_lD_some {ls : List Value} {i : Nat} {k : UInt64 → Option xm_O} {o : xm_O} (h : xm_lD ls i k = some o) : ∃ x, ls[i]? = some (.double x) ∧ ls[i + 1]? = some .null ∧ k x = some o := by
  unfold xm_lD at h; split at h <;> first | exact ⟨_, by assumption, by assumption, h⟩ | cases h
theorem xm_lA_some {ls : List Value} {i : Nat} {k : Value → Option xm_O} {o : xm_O} (h : xm_lA ls i k = some o) : (∃ x, ls[i]? = some (.ref x) ∧ k (.ref x) = some o) ∨ ∃ x, ls[i]? = some (.retAddr x) ∧ x < 6000 ∧ k (.retAddr x) = some o := by
  unfold xm_lA at h; split at h
  · exact Or.inl ⟨_, by assumption, h⟩
  · split at h
    · exact Or.inr ⟨_, by assumption, by assumption, h⟩
    · cases h
  · cases h
theorem xm_bind_some {α : Type} {x : Option α} {k : α → Option xm_O} {o : xm_O} (h : x.bind k = some o) : ∃ v, x = some v ∧ k v = some o := by
  cases x with
  | none => cases h
  | some v => exact ⟨v, rfl, h⟩
theorem xm_ite_some {c : Prop} {i1 : Decidable c} {x : Option xm_O} {o : xm_O} (h : @ite _ c i1 x none = some o) : c ∧ x = some o := by
  split at h
  · exact ⟨by assumption, h⟩
  · cases h
theorem xm_ite_some' {c : Prop} {i1 : Decidable c} {x : Option xm_O} {o : xm_O} (h : @ite _ c i1 none x = some o) : ¬ c ∧ x = some o := by
  split at h
  · cases h
  · exact ⟨by assumption, h⟩
theorem xm_go_some {k : Nat → Option xm_O} {pc : Nat} {off : Int} {o : xm_O} (h : xm_go k pc off = some o) : ∃ t : Nat, (pc : Int) + off = (t : Int) ∧ k t = some o := by
  unfold xm_go at h
  split at h
  · next t ht => exact ⟨t, ht, h⟩
  · cases h
theorem xm_fetch_some {T : xm_Segs} {pc : Nat} {r : xm_Row} (h : xm_fetch T pc = some r) : r.1 = pc ∧ ∃ g ∈ T, r ∈ g.2 := by
  unfold xm_fetch at h
  split at h
  · next g hg =>
    have h1 := List.find?_some h
    exact ⟨Nat.eq_of_beq_eq_true h1, g, List.mem_of_find?_eq_some hg, List.mem_of_find?_eq_some h⟩
  · cases h
theorem xm_in_vp {i : Int32} {n : Nat} (h : xm_in i n = true) : vp_in i n := by
  unfold xm_in at h
  simp only [Bool.not_eq_true', Bool.or_eq_false_iff, decide_eq_false_iff_not] at h
  rintro (h1 | h1)
  · exact h.1 h1
  · exact h.2 h1
