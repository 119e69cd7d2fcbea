/-! THE PURE MACHINE: a world of cells by handle, one step of the bytecode on it, its runs. Nothing here speaks of the real machine. -/
abbrev xm_PC : Type := (Nat × vp_A) ⊕ (Nat × List Value)
abbrev xm_PS : Type := Bool × Nat × List xm_PC
abbrev xm_O : Type := (Option Value ⊕ Nat) × xm_PS
abbrev xm_Row : Type := Nat × Instr × Nat × Nat × Nat × Nat × Nat × Nat
/-- the script: its length, its numbers -/
abbrev xm_Sc : Type := Nat × (Nat → Int32)
abbrev xm_Segs : Type := List (Nat × List xm_Row)
abbrev xm_Hx : Type := List (Nat × Nat × Nat × Nat)
/-- name, code, locals, answer, handlers (from, to, handler, kind of what is caught), rows -/
abbrev xm_MI : Type := MethodName × ByteArray × Nat × Option FieldType × xm_Hx × xm_Segs
def xm_fetch (T : xm_Segs) (pc : Nat) : Option xm_Row := match T.find? (fun s => Nat.blt pc s.1) with
  | some s => s.2.find? (fun r => Nat.beq r.1 pc)
  | none => none
def xm_entry (n : Nat) (args : List Value) : List Value :=
  args.flatMap (fun v => if v.category = 2 then [v, .null] else [v]) ++ List.replicate (n - (args.flatMap (fun v => if v.category = 2 then [v, .null] else [v])).length) .null
-- reading what stands on the stack, in the locals
def xm_pI (st : List Value) (k : Int32 → List Value → Option xm_O) : Option xm_O := match st with
  | .int x :: r => k x r
  | _ => none
def xm_pL (st : List Value) (k : Int64 → List Value → Option xm_O) : Option xm_O := match st with
  | .long x :: r => k x r
  | _ => none
def xm_pF (st : List Value) (k : UInt32 → List Value → Option xm_O) : Option xm_O := match st with
  | .float x :: r => k x r
  | _ => none
def xm_pD (st : List Value) (k : UInt64 → List Value → Option xm_O) : Option xm_O := match st with
  | .double x :: r => k x r
  | _ => none
def xm_pR (st : List Value) (k : Nat → List Value → Option xm_O) : Option xm_O := match st with
  | .ref x :: r => k x r
  | _ => none
def xm_pS (st : List Value) (k : Nat → List Value → Option xm_O) : Option xm_O := match st with
  | .retAddr x :: r => k x r
  | _ => none
def xm_lI (ls : List Value) (i : Nat) (k : Int32 → Option xm_O) : Option xm_O := match ls[i]? with
  | some (.int x) => k x
  | _ => none
def xm_lL (ls : List Value) (i : Nat) (k : Int64 → Option xm_O) : Option xm_O := match ls[i]?, ls[i + 1]? with
  | some (.long x), some .null => k x
  | _, _ => none
def xm_lF (ls : List Value) (i : Nat) (k : UInt32 → Option xm_O) : Option xm_O := match ls[i]? with
  | some (.float x) => k x
  | _ => none
def xm_lD (ls : List Value) (i : Nat) (k : UInt64 → Option xm_O) : Option xm_O := match ls[i]?, ls[i + 1]? with
  | some (.double x), some .null => k x
  | _, _ => none
def xm_lA (ls : List Value) (i : Nat) (k : Value → Option xm_O) : Option xm_O := match ls[i]? with
  | some (.ref x) => k (.ref x)
  | some (.retAddr x) => if x < 6000 then k (.retAddr x) else none
  | _ => none
-- cells
def xm_b01 (x : Int32) : Bool := decide (x = 0) || decide (x = 1)
def xm_in (i : Int32) (n : Nat) : Bool := !(decide (i < 0) || decide (n ≤ i.toNatClampNeg))
def xm_gF (S : xm_PS) (h ci k : Nat) : Option Value := match S.2.2[h]? with
  | some (.inr (c, fs)) => if c = ci then fs[k]? else none
  | _ => none
def xm_gI (S : xm_PS) (h ci k : Nat) : Option Int32 := match xm_gF S h ci k with
  | some (.int x) => some x
  | _ => none
def xm_gR (S : xm_PS) (h ci k : Nat) : Option Nat := match xm_gF S h ci k with
  | some (.ref x) => some x
  | _ => none
def xm_set (S : xm_PS) (h : Nat) (c : xm_PC) : xm_PS := (S.1, S.2.1, S.2.2.set h c)
def xm_sF (S : xm_PS) (h ci k : Nat) (v : Value) : Option xm_PS := match S.2.2[h]? with
  | some (.inr (c, fs)) => if c = ci ∧ k < fs.length then some (xm_set S h (.inr (ci, fs.set k v))) else none
  | _ => none
/-- an array of ints (t: 0 int, 1 byte, 3 boolean): its length, its contents -/
def xm_gA (S : xm_PS) (h t : Nat) : Option (Nat × (Nat → Int32)) := match S.2.2[h]? with
  | some (.inl (t', n, .inl f)) => if t' = t then some (n, f) else none
  | _ => none
def xm_gG (S : xm_PS) (h : Nat) : Option (Nat × (Nat → Int64)) := match S.2.2[h]? with
  | some (.inl (t', n, .inr (.inl f))) => if t' = 2 then some (n, f) else none
  | _ => none
def xm_gQ (S : xm_PS) (h t : Nat) : Option (Nat × (Nat → Option Nat)) := match S.2.2[h]? with
  | some (.inl (t', n, .inr (.inr (.inr (.inr f))))) => if t' = t then some (n, f) else none
  | _ => none
def xm_aI (S : xm_PS) (h t : Nat) (i : Int32) : Option Int32 := match xm_gA S h t with
  | some (n, f) => if xm_in i n = true then some (f i.toNatClampNeg) else none
  | none => none
def xm_wI (S : xm_PS) (h t : Nat) (i x : Int32) : Option xm_PS := match xm_gA S h t with
  | some (n, f) => if xm_in i n = true then some (xm_set S h (.inl (t, n, .inl (upd f i.toNatClampNeg x)))) else none
  | none => none
def xm_aL (S : xm_PS) (h : Nat) (i : Int32) : Option Int64 := match xm_gG S h with
  | some (n, f) => if xm_in i n = true then some (f i.toNatClampNeg) else none
  | none => none
def xm_wL (S : xm_PS) (h : Nat) (i : Int32) (x : Int64) : Option xm_PS := match xm_gG S h with
  | some (n, f) => if xm_in i n = true then some (xm_set S h (.inl (2, n, .inr (.inl (vp_updL f i.toNatClampNeg x))))) else none
  | none => none
def xm_aQ (S : xm_PS) (h t : Nat) (i : Int32) : Option Nat := match xm_gQ S h t with
  | some (n, f) => if xm_in i n = true then f i.toNatClampNeg else none
  | none => none
def xm_wQ (S : xm_PS) (h t : Nat) (i : Int32) (x : Nat) : Option xm_PS := match xm_gQ S h t with
  | some (n, f) => if xm_in i n = true then some (xm_set S h (.inl (t, n, .inr (.inr (.inr (.inr (va_up f i.toNatClampNeg (some x)))))))) else none
  | none => none
def xm_len (S : xm_PS) (h : Nat) : Option Int32 := match S.2.2[h]? with
  | some (.inl (t, n, _)) => if t < 7 then some (Int32.ofNat n) else none
  | _ => none
def xm_push (S : xm_PS) (c : xm_PC) (k : Nat → xm_PS → Option xm_O) : Option xm_O := if S.1 = true ∧ S.2.1 = 0 then k S.2.2.length (S.1, S.2.1, S.2.2 ++ [c]) else none
/-- the texts of the String constants, by their place among the tables' words; behind them what Integer.DigitOnes holds -/
def xm_strs : List (List Int32) := [[108, 101, 110, 103, 116, 104, 32, 111, 117, 116, 32, 111, 102, 32, 114, 97, 110, 103, 101], [98, 114, 97, 110, 99, 104, 101, 115], [118, 97, 110], [98, 111, 111, 107], [104, 111, 108, 100], [97, 115, 107], [110, 111, 32, 115, 117, 99, 104, 32, 98, 111, 111, 107], [110, 111, 32, 115, 117, 99, 104, 32, 110, 117, 109, 98, 101, 114], [110, 111, 32, 115, 117, 99, 104, 32, 98, 114, 97, 110, 99, 104], [110, 111, 32, 115, 117, 99, 104, 32, 118, 97, 110], [98, 114, 97, 110, 99, 104, 101, 115, 32], [59], [118, 97, 110, 32], [98, 111, 111, 107, 32], [104, 111, 108, 100, 32], [97, 115, 107, 32], [64], [62], [33], [45], [63], [110, 111, 32, 115, 117, 99, 104, 32, 114, 101, 113, 117, 101, 115, 116], [110, 111, 116, 32, 115, 111, 32, 109, 97, 110, 121, 32, 98, 111, 111, 107, 115, 32, 105, 110, 32, 116, 104, 101, 32, 118, 97, 110], [110, 117, 109, 98, 101, 114, 32, 111, 117, 116, 32, 111, 102, 32, 114, 97, 110, 103, 101], [110, 111, 32, 115, 117, 99, 104, 32, 115, 116, 111, 112], [98, 114, 97, 110, 99, 104, 101, 115, 32, 52, 59, 118, 97, 110, 32, 57, 32, 48, 32, 49, 32, 50, 59, 118, 97, 110, 32, 49, 32, 50, 32, 51, 59, 98, 111, 111, 107, 32, 48, 59, 98, 111, 111, 107, 32, 51, 59, 97, 115, 107, 32, 48, 32, 49, 32, 51, 59, 97, 115, 107, 32, 48, 32, 50, 32, 49, 59], [48, 49, 50, 51, 52, 53, 54, 55, 56, 57, 48, 49, 50, 51, 52, 53, 54, 55, 56, 57, 48, 49, 50, 51, 52, 53, 54, 55, 56, 57, 48, 49, 50, 51, 52, 53, 54, 55, 56, 57, 48, 49, 50, 51, 52, 53, 54, 55, 56, 57, 48, 49, 50, 51, 52, 53, 54, 55, 56, 57, 48, 49, 50, 51, 52, 53, 54, 55, 56, 57, 48, 49, 50, 51, 52, 53, 54, 55, 56, 57, 48, 49, 50, 51, 52, 53, 54, 55, 56, 57, 48, 49, 50, 51, 52, 53, 54, 55, 56, 57]]
def xm_str (k : Nat) : List Int32 := xm_strs.getD k []
/-- is it a byte? -/
def xm_byt (x : Int32) : Bool := decide (x = x.toInt8.toInt32)
def xm_fitR (t : Nat) (f : Nat → Int32) (a n : Nat) : Bool := Nat.beq t 0 || (List.range n).all fun i => xm_byt (f (a + i))
/-- arraycopy over arrays of ints (t = 0) or bytes (t = 1) -/
def xm_copy (S : xm_PS) (t h0 : Nat) (sp : Int32) (h1 : Nat) (dp n : Int32) : Option xm_PS := match xm_gA S h0 t, xm_gA S h1 t with
  | some (n0, f), some (n1, g) =>
    if t < 2 ∧ ¬ sp < 0 ∧ ¬ dp < 0 ∧ ¬ n < 0 ∧ sp.toNatClampNeg + n.toNatClampNeg ≤ n0 ∧ dp.toNatClampNeg + n.toNatClampNeg ≤ n1 ∧ xm_fitR t f sp.toNatClampNeg n.toNatClampNeg = true then
      some (xm_set S h1 (.inl (t, n1, .inl (va_cpy f g sp.toNatClampNeg dp.toNatClampNeg n.toNatClampNeg))))
    else none
  | _, _ => none
/-- arraycopy from a text's bytes -/
def xm_copyT (S : xm_PS) (k : Nat) (sp : Int32) (h1 : Nat) (dp n : Int32) : Option xm_PS := match xm_gA S h1 1 with
  | some (n1, g) =>
    if 1000 ≤ k ∧ k < 1026 ∧ ¬ sp < 0 ∧ ¬ dp < 0 ∧ ¬ n < 0 ∧ sp.toNatClampNeg + n.toNatClampNeg ≤ (xm_str (k - 1000)).length ∧ dp.toNatClampNeg + n.toNatClampNeg ≤ n1 ∧ xm_fitR 1 (fun j => (xm_str (k - 1000)).getD j 0) sp.toNatClampNeg n.toNatClampNeg = true then
      some (xm_set S h1 (.inl (1, n1, .inl (va_cpy (fun j => (xm_str (k - 1000)).getD j 0) g sp.toNatClampNeg dp.toNatClampNeg n.toNatClampNeg))))
    else none
  | _ => none
def xm_go (k : Nat → Option xm_O) (pc : Nat) (off : Int) : Option xm_O := match (pc : Int) + off with
  | .ofNat t => k t
  | .negSucc _ => none
def xm_ls (ps : List (Int × Int)) (d : Int) (x : Int) (k : Int → Option xm_O) : Option xm_O := match ps with
  | [] => k d
  | (a, o) :: r => if x = a then k o else xm_ls r d x k
def xm_ts (lo : Int) (offs : List Int) (d : Int) (x : Int) (k : Int → Option xm_O) : Option xm_O := match offs with
  | [] => k d
  | o :: r => if x = lo then k o else xm_ts (lo + 1) r d x k
-- what a call answers
def xm_r0 (o : xm_O) (k : xm_PS → Option xm_O) (kx : Nat → xm_PS → Option xm_O) : Option xm_O := match o with
  | (.inl none, S) => k S
  | (.inr e, S) => kx e S
  | _ => none
def xm_rI (o : xm_O) (k : Int32 → xm_PS → Option xm_O) (kx : Nat → xm_PS → Option xm_O) : Option xm_O := match o with
  | (.inl (some (.int x)), S) => k x S
  | (.inr e, S) => kx e S
  | _ => none
def xm_rL (o : xm_O) (k : Int64 → xm_PS → Option xm_O) (kx : Nat → xm_PS → Option xm_O) : Option xm_O := match o with
  | (.inl (some (.long x)), S) => k x S
  | (.inr e, S) => kx e S
  | _ => none
def xm_rF (o : xm_O) (k : UInt32 → xm_PS → Option xm_O) (kx : Nat → xm_PS → Option xm_O) : Option xm_O := match o with
  | (.inl (some (.float x)), S) => k x S
  | (.inr e, S) => kx e S
  | _ => none
def xm_rD (o : xm_O) (k : UInt64 → xm_PS → Option xm_O) (kx : Nat → xm_PS → Option xm_O) : Option xm_O := match o with
  | (.inl (some (.double x)), S) => k x S
  | (.inr e, S) => kx e S
  | _ => none
def xm_rR (o : xm_O) (k : Nat → xm_PS → Option xm_O) (kx : Nat → xm_PS → Option xm_O) : Option xm_O := match o with
  | (.inl (some (.ref x)), S) => k x S
  | (.inr e, S) => kx e S
  | _ => none
def xm_rr (c : Nat) (o : xm_O) (k : List Value → xm_PS → Option xm_O) (kx : Nat → xm_PS → Option xm_O) : Option xm_O := match c with
  | 0 => xm_r0 o (fun S => k [] S) kx
  | 1 => xm_rI o (fun x S => k [.int x] S) kx
  | 2 => xm_rL o (fun x S => k [.long x] S) kx
  | 3 => xm_rF o (fun x S => k [.float x] S) kx
  | 4 => xm_rD o (fun x S => k [.double x] S) kx
  | 5 => xm_rR o (fun x S => k [.ref x] S) kx
  | _ => none
/-- a handler stores what it caught; nobody reads it -/
def xm_kx (tab : xm_Segs) (hx : xm_Hx) (kont : Nat → List Value → List Value → xm_PS → Option xm_O) (pc : Nat) (ls : List Value) (e : Nat) (S : xm_PS) : Option xm_O :=
  match hx with
  | [] => some (.inr e, S)
  | _ => if ls.all (fun v => v.category == 1) = true ∧ e < 2 then match hx.find? (fun q => Nat.ble q.1 pc && Nat.blt pc q.2.1 && Nat.beq q.2.2.2 e) with
    | none => none
    | some q => match xm_fetch tab q.2.2.1 with
      | some (_, .astore i, _) => kont (q.2.2.1 + 2) (ls.set i .null) [] S
      | some (_, .astore_n i, _) => kont (q.2.2.1 + 1) (ls.set i.val .null) [] S
      | _ => none
    else none
def xm_cI (cd : ClassFile.Cond) (x y : Int32) (a b : Option xm_O) : Option xm_O := match cd with
  | .eq => if x = y then a else b
  | .ne => if x = y then b else a
  | .lt => if x < y then a else b
  | .ge => if y ≤ x then a else b
  | .gt => if y < x then a else b
  | .le => if x ≤ y then a else b
def xm_news : List (List Value) := [[.int 0, .int 0, .null], [.int 0, .null], [.int 0, .int 0, .int 0, .null, .null, .null, .null, .null], [.int 0, .null, .null, .null, .null], [.null, .int 0, .int 0, .int 0, .int 0, .null, .null, .null, .null, .null, .null, .null], [.int 0, .int 0, .null, .int 0, .int 0, .int 0, .int 0, .int 0], [.null], [.null, .int 0, .int 0, .null, .null, .null, .null, .null, .null, .null, .int 0, .null], [.null, .null, .null, .null, .null, .null, .int 0, .int 0, .int 0], [.int 0, .int 0, .int 0, .int 0, .int 0, .int 0], [.null, .int 0, .int 0, .int 0], [.null, .int 0, .int 0, .int 0]]
/-- what a new object holds, by its class -/
def xm_new (ci : Nat) : List Value := xm_news.getD ci []
/-- the class of a receiver: an object of the class ci; 100: a text, made or constant -/
def xm_isO (S : xm_PS) (v : Value) (ci : Nat) : Bool := match v with
  | .ref h => match S.2.2[h]? with
    | some (.inr (c, _)) => Nat.beq c ci || (Nat.beq ci 100 && Nat.beq c 10)
    | _ => false
  | .retAddr k => Nat.beq ci 100 && Nat.blt k 26
  | _ => false
/-- what may stand under a call's arguments -/
def xm_rok (rest : List Value) : Bool := Nat.ble rest.length 4 || (Nat.ble rest.length 8 && rest.all (fun v => Nat.beq v.category 1))
def xm_call (call : Nat → List Value → xm_PS → Option xm_O) (kont : Nat → List Value → List Value → xm_PS → Option xm_O) (kx : Nat → xm_PS → Option xm_O) (pc : Nat) (ls : List Value) (rest : List Value) (S : xm_PS) (j : Nat) (as : List Value) (c : Nat) : Option xm_O :=
  if xm_rok rest = true then (call j as S).bind fun o => xm_rr c o (fun l S => kont (pc + 3) ls (l ++ rest) S) kx else none
def xm_pRS (st : List Value) (k : Value → List Value → Option xm_O) : Option xm_O := match st with
  | .ref x :: r => k (.ref x) r
  | .retAddr x :: r => k (.retAddr x) r
  | _ => none
def xm_op (sc : xm_Sc) (tab : xm_Segs) (hx : xm_Hx) (call : Nat → List Value → xm_PS → Option xm_O) (kont : Nat → List Value → List Value → xm_PS → Option xm_O) (pc a b c d : Nat) (ls st : List Value) (S : xm_PS) (ins : Instr) : Option xm_O :=
  match ins with
  | .aload i => xm_lA ls i fun v => kont (pc + 2) ls (v :: st) S
  | .aload_n i => xm_lA ls i.val fun v => kont (pc + 1) ls (v :: st) S
  | .iload i => xm_lI ls i fun x => kont (pc + 2) ls (.int x :: st) S
  | .iload_n i => xm_lI ls i.val fun x => kont (pc + 1) ls (.int x :: st) S
  | .lload i => xm_lL ls i fun x => kont (pc + 2) ls (.long x :: st) S
  | .lload_n i => xm_lL ls i.val fun x => kont (pc + 1) ls (.long x :: st) S
  | .fload i => xm_lF ls i fun x => kont (pc + 2) ls (.float x :: st) S
  | .fload_n i => xm_lF ls i.val fun x => kont (pc + 1) ls (.float x :: st) S
  | .dload i => xm_lD ls i fun x => kont (pc + 2) ls (.double x :: st) S
  | .dload_n i => xm_lD ls i.val fun x => kont (pc + 1) ls (.double x :: st) S
  | .istore i => xm_pI st fun x r => kont (pc + 2) (ls.set i (.int x)) r S
  | .istore_n i => xm_pI st fun x r => kont (pc + 1) (ls.set i.val (.int x)) r S
  | .astore i => xm_pR st fun x r => kont (pc + 2) (ls.set i (.ref x)) r S
  | .astore_n i => xm_pR st fun x r => kont (pc + 1) (ls.set i.val (.ref x)) r S
  | .fstore i => xm_pF st fun x r => kont (pc + 2) (ls.set i (.float x)) r S
  | .lstore i => xm_pL st fun x r => if i + 1 < ls.length then kont (pc + 2) ((ls.set i (.long x)).set (i + 1) .null) r S else none
  | .lstore_n i => xm_pL st fun x r => if i.val + 1 < ls.length then kont (pc + 1) ((ls.set i.val (.long x)).set (i.val + 1) .null) r S else none
  | .dstore i => xm_pD st fun x r => if i + 1 < ls.length then kont (pc + 2) ((ls.set i (.double x)).set (i + 1) .null) r S else none
  | .dstore_n i => xm_pD st fun x r => if i.val + 1 < ls.length then kont (pc + 1) ((ls.set i.val (.double x)).set (i.val + 1) .null) r S else none
  | .iinc i n => xm_lI ls i fun x => kont (pc + 3) (ls.set i (.int (x + Int32.ofInt n))) st S
  | .iconst n => kont (pc + 1) ls (.int (Int32.ofInt n) :: st) S
  | .bipush n => kont (pc + 2) ls (.int (Int8.ofInt n).toInt32 :: st) S
  | .sipush n => kont (pc + 3) ls (.int (Int16.ofInt n).toInt32 :: st) S
  | .lconst n => kont (pc + 1) ls (.long (Int64.ofNat n.val) :: st) S
  | .fconst _ => kont (pc + 1) ls (.float FP.fconst0 :: st) S
  | .dconst _ => kont (pc + 1) ls (.double FP.dconst0 :: st) S
  | .ldc _ => match b with
    | 0 => kont (pc + 2) ls (.int (Int32.ofNat a) :: st) S
    | _ => kont (pc + 2) ls (.retAddr a :: st) S
  | .ldc_w _ => match b with
    | 0 => kont (pc + 3) ls (.int (Int32.ofNat a) :: st) S
    | _ => kont (pc + 3) ls (.retAddr a :: st) S
  | .ldc2_w _ => kont (pc + 3) ls (.long (Int64.ofNat a) :: st) S
  | .iadd => xm_pI st fun y r => xm_pI r fun x r => kont (pc + 1) ls (.int (x + y) :: r) S
  | .isub => xm_pI st fun y r => xm_pI r fun x r => kont (pc + 1) ls (.int (x - y) :: r) S
  | .imul => xm_pI st fun y r => xm_pI r fun x r => kont (pc + 1) ls (.int (x * y) :: r) S
  | .idiv => xm_pI st fun y r => xm_pI r fun x r => if y = 0 then none else kont (pc + 1) ls (.int (x / y) :: r) S
  | .irem => xm_pI st fun y r => xm_pI r fun x r => if y = 0 then none else kont (pc + 1) ls (.int (x - x / y * y) :: r) S
  | .iand => xm_pI st fun y r => xm_pI r fun x r => kont (pc + 1) ls (.int (x &&& y) :: r) S
  | .ior => xm_pI st fun y r => xm_pI r fun x r => kont (pc + 1) ls (.int (x ||| y) :: r) S
  | .ixor => xm_pI st fun y r => xm_pI r fun x r => kont (pc + 1) ls (.int (x ^^^ y) :: r) S
  | .ishl => xm_pI st fun y r => xm_pI r fun x r => kont (pc + 1) ls (.int (x <<< (y &&& 31)) :: r) S
  | .ishr => xm_pI st fun y r => xm_pI r fun x r => kont (pc + 1) ls (.int (x >>> (y &&& 31)) :: r) S
  | .iushr => xm_pI st fun y r => xm_pI r fun x r => kont (pc + 1) ls (.int (x.toUInt32 >>> (y.toUInt32 &&& Int32.toUInt32 31)).toInt32 :: r) S
  | .i2l => xm_pI st fun x r => kont (pc + 1) ls (.long x.toInt64 :: r) S
  | .l2i => xm_pL st fun x r => kont (pc + 1) ls (.int x.toInt32 :: r) S
  | .i2b => xm_pI st fun x r => kont (pc + 1) ls (.int x.toInt8.toInt32 :: r) S
  | .i2c => xm_pI st fun x r => kont (pc + 1) ls (.int (x.toUInt32 % 65536).toInt32 :: r) S
  | .i2f => xm_pI st fun x r => kont (pc + 1) ls (.float (FP.i2f x) :: r) S
  | .i2d => xm_pI st fun x r => kont (pc + 1) ls (.double (FP.i2d x) :: r) S
  | .f2d => xm_pF st fun x r => if (FP.f2d x) &&& 0x7fffffffffffffff ≤ 0x7ff0000000000000 then kont (pc + 1) ls (.double (FP.f2d x) :: r) S else none
  | .fdiv => xm_pF st fun y r => xm_pF r fun x r => if (FP.fdiv x y) &&& 0x7fffffff ≤ 0x7f800000 then kont (pc + 1) ls (.float (FP.fdiv x y) :: r) S else none
  | .ddiv => xm_pD st fun y r => xm_pD r fun x r => if (FP.ddiv x y) &&& 0x7fffffffffffffff ≤ 0x7ff0000000000000 then kont (pc + 1) ls (.double (FP.ddiv x y) :: r) S else none
  | .dcmp op => xm_pD st fun y r => xm_pD r fun x r => kont (pc + 1) ls (.int (Op.cmpValue (FP.dcmp x y) op) :: r) S
  | .ladd => xm_pL st fun y r => xm_pL r fun x r => kont (pc + 1) ls (.long (x + y) :: r) S
  | .lsub => xm_pL st fun y r => xm_pL r fun x r => kont (pc + 1) ls (.long (x - y) :: r) S
  | .lmul => xm_pL st fun y r => xm_pL r fun x r => kont (pc + 1) ls (.long (x * y) :: r) S
  | .land => xm_pL st fun y r => xm_pL r fun x r => kont (pc + 1) ls (.long (x &&& y) :: r) S
  | .lor => xm_pL st fun y r => xm_pL r fun x r => kont (pc + 1) ls (.long (x ||| y) :: r) S
  | .lcmp => xm_pL st fun y r => xm_pL r fun x r => kont (pc + 1) ls (.int (lg_cmp x y) :: r) S
  | .dup => match st with
    | .int x :: r => kont (pc + 1) ls (.int x :: .int x :: r) S
    | .ref x :: r => kont (pc + 1) ls (.ref x :: .ref x :: r) S
    | _ => none
  | .dup2 => match st with
    | .int x :: .ref y :: r => kont (pc + 1) ls (.int x :: .ref y :: .int x :: .ref y :: r) S
    | _ => none
  | .dup_x1 => match st with
    | .int x :: .ref y :: r => kont (pc + 1) ls (.int x :: .ref y :: .int x :: r) S
    | _ => none
  | .pop => match st with
    | .int _ :: r => kont (pc + 1) ls r S
    | .ref _ :: r => kont (pc + 1) ls r S
    | _ => none
  | .aconst_null => kont (pc + 1) ls (.null :: st) S
  | .ifnull _ => match st with
    | .ref _ :: r => kont (pc + 3) ls r S
    | _ => none
  | .ifnonnull off => match st with
    | .ref _ :: r => xm_go (fun t => kont t ls r S) pc off
    | .retAddr k :: r => if k < 6000 then xm_go (fun t => kont t ls r S) pc off else none
    | _ => none
  | .checkcast _ => xm_pR st fun h r => (xm_gA S h 1).bind fun _ => kont (pc + 3) ls (.ref h :: r) S
  | .fcmp op => xm_pF st fun y r => xm_pF r fun x r => kont (pc + 1) ls (.int (Op.cmpValue (FP.fcmp x y) op) :: r) S
  | .ineg => xm_pI st fun x r => kont (pc + 1) ls (.int (-x) :: r) S
  | .goto off => xm_go (fun t => kont t ls st S) pc off
  | .ifCond cd off => xm_pI st fun x r => xm_cI cd x 0 (xm_go (fun t => kont t ls r S) pc off) (kont (pc + 3) ls r S)
  | .if_icmp cd off => xm_pI st fun y r => xm_pI r fun x r => xm_cI cd x y (xm_go (fun t => kont t ls r S) pc off) (kont (pc + 3) ls r S)
  | .tableswitch df lo _ offs => xm_pI st fun x r => xm_ts lo offs.toList df x.toInt fun o => xm_go (fun t => kont t ls r S) pc o
  | .lookupswitch df ps => xm_pI st fun x r => xm_ls ps.toList df x.toInt fun o => xm_go (fun t => kont t ls r S) pc o
  | .getfield _ => match c with
    | 0 => xm_pR st fun h r => (xm_gI S h a b).bind fun x => kont (pc + 3) ls (.int x :: r) S
    | 1 => xm_pR st fun h r => (xm_gR S h a b).bind fun x => kont (pc + 3) ls (.ref x :: r) S
    | 2 => match st with
      | .ref h :: r => (xm_gR S h 10 0).bind fun x => kont (pc + 3) ls (.ref x :: r) S
      | .retAddr k :: r => if k < 26 then kont (pc + 3) ls (.retAddr (k + 1000) :: r) S else none
      | _ => none
    | _ => match st with
      | .ref h :: r => (xm_gI S h 10 1).bind fun x => kont (pc + 3) ls (.int x :: r) S
      | .retAddr k :: r => if k < 26 then kont (pc + 3) ls (.int 0 :: r) S else none
      | _ => none
  | .putfield _ => match c with
    | 0 => xm_pI st fun x r => xm_pR r fun h r => (xm_sF S h a b (.int x)).bind fun S => kont (pc + 3) ls r S
    | 1 => xm_pR st fun x r => xm_pR r fun h r => (xm_sF S h a b (.ref x)).bind fun S => kont (pc + 3) ls r S
    | 2 => xm_pI st fun x r => xm_pR r fun h r => if xm_b01 x = true then (xm_sF S h a b (.int x)).bind fun S => kont (pc + 3) ls r S else none
    | _ => xm_pI st fun x r => xm_pR r fun h r => if xm_byt x = true then (xm_sF S h a b (.int x)).bind fun S => kont (pc + 3) ls r S else none
  | .getstatic _ => match a with
    | 0 => kont (pc + 3) ls (.int 1 :: st) S
    | 1 => kont (pc + 3) ls (.retAddr 9999 :: st) S
    | _ => kont (pc + 3) ls (.retAddr 1026 :: st) S
  | .iaload => match c with
    | 0 => xm_pI st fun i r => xm_pR r fun h r => (xm_aI S h 0 i).bind fun x => kont (pc + 1) ls (.int x :: r) S
    | _ => xm_pI st fun i r => xm_pS r fun k r => if k = 5000 ∧ sc.1 ≤ 260 ∧ xm_in i sc.1 = true then kont (pc + 1) ls (.int (sc.2 i.toNatClampNeg) :: r) S else none
  | .baload => match c with
    | 0 => xm_pI st fun i r => xm_pR r fun h r => (xm_aI S h 1 i).bind fun x => kont (pc + 1) ls (.int x :: r) S
    | 1 => xm_pI st fun i r => xm_pR r fun h r => (xm_aI S h 3 i).bind fun x => kont (pc + 1) ls (.int x :: r) S
    | _ => xm_pI st fun i r => match r with
      | .ref h :: r => (xm_aI S h 1 i).bind fun x => kont (pc + 1) ls (.int x :: r) S
      | .retAddr k :: r => if 1000 ≤ k ∧ k < 1027 ∧ xm_in i (xm_str (k - 1000)).length = true then kont (pc + 1) ls (.int ((xm_str (k - 1000)).getD i.toNatClampNeg 0) :: r) S else none
      | _ => none
  | .laload => xm_pI st fun i r => xm_pR r fun h r => (xm_aL S h i).bind fun x => kont (pc + 1) ls (.long x :: r) S
  | .aaload => match c with
    | 0 => xm_pI st fun i r => xm_pR r fun h r => (xm_aQ S h 4 i).bind fun x => kont (pc + 1) ls (.ref x :: r) S
    | 1 => xm_pI st fun i r => xm_pR r fun h r => (xm_aQ S h 5 i).bind fun x => kont (pc + 1) ls (.ref x :: r) S
    | _ => xm_pI st fun i r => xm_pR r fun h r => (xm_aQ S h 6 i).bind fun x => kont (pc + 1) ls (.ref x :: r) S
  | .iastore => xm_pI st fun x r => xm_pI r fun i r => xm_pR r fun h r => (xm_wI S h 0 i x).bind fun S => kont (pc + 1) ls r S
  | .bastore => match c with
    | 0 => xm_pI st fun x r => xm_pI r fun i r => xm_pR r fun h r => (xm_wI S h 1 i x.toInt8.toInt32).bind fun S => kont (pc + 1) ls r S
    | _ => xm_pI st fun x r => xm_pI r fun i r => xm_pR r fun h r => if xm_b01 x = true then (xm_wI S h 3 i x).bind fun S => kont (pc + 1) ls r S else none
  | .lastore => xm_pL st fun x r => xm_pI r fun i r => xm_pR r fun h r => (xm_wL S h i x).bind fun S => kont (pc + 1) ls r S
  | .aastore => match c with
    | 0 => xm_pR st fun x r => xm_pI r fun i r => xm_pR r fun h r => if xm_isO S (.ref x) 4 = true then (xm_wQ S h 4 i x).bind fun S => kont (pc + 1) ls r S else none
    | 1 => xm_pR st fun x r => xm_pI r fun i r => xm_pR r fun h r => if xm_isO S (.ref x) 9 = true then (xm_wQ S h 5 i x).bind fun S => kont (pc + 1) ls r S else none
    | _ => xm_pR st fun x r => xm_pI r fun i r => xm_pR r fun h r => if (xm_gA S x 0).isSome = true then (xm_wQ S h 6 i x).bind fun S => kont (pc + 1) ls r S else none
  | .arraylength => match c with
    | 0 => xm_pR st fun h r => (xm_len S h).bind fun x => kont (pc + 1) ls (.int x :: r) S
    | 1 => match st with
      | .ref h :: r => (xm_len S h).bind fun x => kont (pc + 1) ls (.int x :: r) S
      | .retAddr k :: r => if 1000 ≤ k ∧ k < 1026 then kont (pc + 1) ls (.int (Int32.ofNat (xm_str (k - 1000)).length) :: r) S else none
      | _ => none
    | _ => xm_pS st fun k r => if k = 5000 ∧ sc.1 ≤ 260 then kont (pc + 1) ls (.int (Int32.ofNat sc.1) :: r) S else none
  | .newarray _ => match c with
    | 2 => xm_pI st fun n r => if n < 0 then none else if n.toNatClampNeg ≤ 1000000 then xm_push S (.inl (2, n.toNatClampNeg, .inr (.inl fun _ => 0))) fun h S => kont (pc + 2) ls (.ref h :: r) S else none
    | _ => xm_pI st fun n r => if n < 0 then none else if n.toNatClampNeg ≤ 1000000 then xm_push S (.inl (c, n.toNatClampNeg, .inl fun _ => 0)) fun h S => kont (pc + 2) ls (.ref h :: r) S else none
  | .anewarray _ => xm_pI st fun n r => if n < 0 then none else if n.toNatClampNeg ≤ 1000000 then xm_push S (.inl (c, n.toNatClampNeg, .inr (.inr (.inr (.inr fun _ => none))))) fun h S => kont (pc + 3) ls (.ref h :: r) S else none
  | .new _ => match c with
    | 0 => xm_push S (.inr (a, xm_new a)) fun h S => kont (pc + 3) ls (.ref h :: st) S
    | _ => if S.1 = false ∧ hx = [] ∧ st = [] then some (.inr a, (S.1, S.2.1 + 1, S.2.2)) else none
  | .invokestatic _ => match d with
    | 0 => if b ≤ st.length then xm_call call kont (xm_kx tab hx kont pc ls) pc ls (st.drop b) S a (st.take b).reverse c else none
    | 1 => xm_pI st fun y r => xm_pI r fun x r => if r.length ≤ 4 then kont (pc + 3) ls (.int (if x < y then y else x) :: r) S else none
    | 2 => xm_pI st fun y r => xm_pI r fun x r => if r.length ≤ 4 then kont (pc + 3) ls (.int (if y < x then y else x) :: r) S else none
    | 4 => xm_pI st fun n r => xm_pI r fun dp r => xm_pR r fun h1 r => xm_pI r fun sp r => match r with
      | .ref h0 :: r => if r.length ≤ 4 then (xm_copy S c h0 sp h1 dp n).bind fun S => kont (pc + 3) ls r S else none
      | .retAddr k :: r => if r.length ≤ 4 ∧ c = 1 then (xm_copyT S k sp h1 dp n).bind fun S => kont (pc + 3) ls r S else none
      | _ => none
    | 5 => xm_pD st fun x r => if r.length ≤ 4 then kont (pc + 3) ls (.long x.toInt64 :: r) S else none
    | _ => xm_pF st fun x r => if r.length ≤ 4 then kont (pc + 3) ls (.int x.toInt32 :: r) S else none
  | .invokevirtual _ => match d with
    | 101 => xm_pR st fun h r => (xm_gA S h 1).bind fun q => if r.length ≤ 4 ∧ xm_fitR 1 q.2 0 q.1 = true then xm_push S (.inl (1, q.1, .inl q.2)) fun h2 S => kont (pc + 3) ls (.ref h2 :: r) S else none
    | 111 => if b ≤ st.length then xm_pR (st.drop b) fun h r => if xm_isO S (.ref h) 11 = true then xm_call call kont (xm_kx tab hx kont pc ls) pc ls r S a (.ref h :: (st.take b).reverse) c else none else none
    | d => if b ≤ st.length then xm_pRS (st.drop b) fun v r => if xm_isO S v d = true then xm_call call kont (xm_kx tab hx kont pc ls) pc ls r S a (v :: (st.take b).reverse) c else none else none
  | .invokespecial _ => match d with
    | 0 => if b ≤ st.length then xm_pR (st.drop b) fun h r => xm_call call kont (fun _ _ => none) pc ls r S a (.ref h :: (st.take b).reverse) 0 else none
    | 1 => xm_pR st fun _ r => if r.length ≤ 4 then kont (pc + 3) ls r S else none
    | _ => if b ≤ st.length then xm_pR (st.drop b) fun h r => if xm_isO S (.ref h) 11 = true then xm_call call kont (xm_kx tab hx kont pc ls) pc ls r S a (.ref h :: (st.take b).reverse) c else none else none
  | .ireturn => xm_pI st fun x r => if r = [] then match c with
    | 0 => some (.inl (some (.int x)), S)
    | 1 => if xm_b01 x = true then some (.inl (some (.int x)), S) else none
    | 2 => if x = (x.toUInt32 % 65536).toInt32 then some (.inl (some (.int x)), S) else none
    | _ => if x = x.toInt8.toInt32 then some (.inl (some (.int x)), S) else none
    else none
  | .lreturn => xm_pL st fun x r => if r = [] then some (.inl (some (.long x)), S) else none
  | .areturn => xm_pR st fun x r => if r = [] then some (.inl (some (.ref x)), S) else none
  | .freturn => xm_pF st fun x r => if r = [] then some (.inl (some (.float x)), S) else none
  | .dreturn => xm_pD st fun x r => if r = [] then some (.inl (some (.double x)), S) else none
  | .return_ => if st = [] then some (.inl none, S) else none
  | _ => none
def xm_step (sc : xm_Sc) (tab : xm_Segs) (hx : xm_Hx) (call : Nat → List Value → xm_PS → Option xm_O) (kont : Nat → List Value → List Value → xm_PS → Option xm_O) (pc : Nat) (ls st : List Value) (S : xm_PS) : Option xm_O :=
  match xm_fetch tab pc with
  | none => none
  | some (_, ins, _, a, b, c, d, _) => xm_op sc tab hx call kont pc a b c d ls st S ins
def xm_enter (run : Nat → List Value → List Value → xm_PS → Option xm_O) (q : xm_MI) (as : List Value) (S : xm_PS) : Option xm_O := run 0 (xm_entry q.2.2.1 as) [] S
/-- the arguments fit the method's locals -/
def xm_lo (r : xm_MI) (as : List Value) : Bool := Nat.beq (xm_entry r.2.2.1 as).length r.2.2.1
/-- n: steps left; d: calls that may still stand open -/
def xm_run (sc : xm_Sc) (M : Nat → Option xm_MI) : Nat → Nat → Nat → Nat → List Value → List Value → xm_PS → Option xm_O
  | 0, _, _, _, _, _, _ => none
  | n + 1, d, i, pc, ls, st, S => match M i with
    | none => none
    | some q => xm_step sc q.2.2.2.2.2 q.2.2.2.2.1 (fun j as S => match d with
      | 0 => none
      | d' + 1 => match M j with
        | none => none
        | some r => if xm_lo r as = true then xm_run sc M n d' j 0 (xm_entry r.2.2.1 as) [] S else none) (fun pc ls st S => xm_run sc M n d i pc ls st S) pc ls st S
-- ===== order: what is answered once is answered with more steps =====
def xm_le (x y : Option xm_O) : Prop := ∀ o, x = some o → y = some o
theorem xm_le_rfl {x : Option xm_O} : xm_le x x := fun _ h => h
theorem xm_le_pI {st : List Value} {k k' : Int32 → List Value → Option xm_O} (h : ∀ x r, xm_le (k x r) (k' x r)) : xm_le (xm_pI st k) (xm_pI st k') := by
  unfold xm_pI; split <;> first | exact h _ _ | exact xm_le_rfl
theorem xm_le_pL {st : List Value} {k k' : Int64 → List Value → Option xm_O} (h : ∀ x r, xm_le (k x r) (k' x r)) : xm_le (xm_pL st k) (xm_pL st k') := by
  unfold xm_pL; split <;> first | exact h _ _ | exact xm_le_rfl
theorem xm_le_pF {st : List Value} {k k' : UInt32 → List Value → Option xm_O} (h : ∀ x r, xm_le (k x r) (k' x r)) : xm_le (xm_pF st k) (xm_pF st k') := by
  unfold xm_pF; split <;> first | exact h _ _ | exact xm_le_rfl
theorem xm_le_pD {st : List Value} {k k' : UInt64 → List Value → Option xm_O} (h : ∀ x r, xm_le (k x r) (k' x r)) : xm_le (xm_pD st k) (xm_pD st k') := by
  unfold xm_pD; split <;> first | exact h _ _ | exact xm_le_rfl
theorem xm_le_pR {st : List Value} {k k' : Nat → List Value → Option xm_O} (h : ∀ x r, xm_le (k x r) (k' x r)) : xm_le (xm_pR st k) (xm_pR st k') := by
  unfold xm_pR; split <;> first | exact h _ _ | exact xm_le_rfl
theorem xm_le_pS {st : List Value} {k k' : Nat → List Value → Option xm_O} (h : ∀ x r, xm_le (k x r) (k' x r)) : xm_le (xm_pS st k) (xm_pS st k') := by
  unfold xm_pS; split <;> first | exact h _ _ | exact xm_le_rfl
theorem xm_le_pRS {st : List Value} {k k' : Value → List Value → Option xm_O} (h : ∀ x r, xm_le (k x r) (k' x r)) : xm_le (xm_pRS st k) (xm_pRS st k') := by
  unfold xm_pRS; split <;> first | exact h _ _ | exact xm_le_rfl
theorem xm_le_lI {ls : List Value} {i : Nat} {k k' : Int32 → Option xm_O} (h : ∀ x, xm_le (k x) (k' x)) : xm_le (xm_lI ls i k) (xm_lI ls i k') := by
  unfold xm_lI; split <;> first | exact h _ | exact xm_le_rfl
theorem xm_le_lF {ls : List Value} {i : Nat} {k k' : UInt32 → Option xm_O} (h : ∀ x, xm_le (k x) (k' x)) : xm_le (xm_lF ls i k) (xm_lF ls i k') := by
  unfold xm_lF; split <;> first | exact h _ | exact xm_le_rfl
theorem xm_le_lL {ls : List Value} {i : Nat} {k k' : Int64 → Option xm_O} (h : ∀ x, xm_le (k x) (k' x)) : xm_le (xm_lL ls i k) (xm_lL ls i k') := by
  unfold xm_lL; split <;> first | exact h _ | exact xm_le_rfl
theorem xm_le_lD {ls : List Value} {i : Nat} {k k' : UInt64 → Option xm_O} (h : ∀ x, xm_le (k x) (k' x)) : xm_le (xm_lD ls i k) (xm_lD ls i k') := by
  unfold xm_lD; split <;> first | exact h _ | exact xm_le_rfl
theorem xm_le_ite {c : Prop} {i1 : Decidable c} {x x' y y' : Option xm_O} (h1 : xm_le x x') (h2 : xm_le y y') : xm_le (@ite _ c i1 x y) (@ite _ c i1 x' y') := by
  split
  · exact h1
  · exact h2
theorem xm_le_lA {ls : List Value} {i : Nat} {k k' : Value → Option xm_O} (h : ∀ x, xm_le (k x) (k' x)) : xm_le (xm_lA ls i k) (xm_lA ls i k') := by
  unfold xm_lA; split <;> first | exact h _ | exact xm_le_rfl | exact xm_le_ite (h _) xm_le_rfl
theorem xm_le_bind {α : Type} {x : Option α} {k k' : α → Option xm_O} (h : ∀ v, xm_le (k v) (k' v)) : xm_le (x.bind k) (x.bind k') := by
  cases x with
  | none => exact xm_le_rfl
  | some v => exact h v
theorem xm_le_go {k k' : Nat → Option xm_O} {pc : Nat} {off : Int} (h : ∀ t, xm_le (k t) (k' t)) : xm_le (xm_go k pc off) (xm_go k' pc off) := by
  unfold xm_go; split <;> first | exact h _ | exact xm_le_rfl
theorem xm_le_ls {k k' : Int → Option xm_O} (h : ∀ t, xm_le (k t) (k' t)) {d x : Int} : ∀ {ps : List (Int × Int)}, xm_le (xm_ls ps d x k) (xm_ls ps d x k')
  | [] => h _
  | (a, o) :: r => by unfold xm_ls; exact xm_le_ite (h _) (xm_le_ls h)
theorem xm_le_ts {k k' : Int → Option xm_O} (h : ∀ t, xm_le (k t) (k' t)) {d x : Int} : ∀ {ps : List Int} {lo : Int}, xm_le (xm_ts lo ps d x k) (xm_ts lo ps d x k')
  | [], _ => h _
  | o :: r, _ => by unfold xm_ts; exact xm_le_ite (h _) (xm_le_ts h)
theorem xm_le_cI {cd : ClassFile.Cond} {x y : Int32} {a a' b b' : Option xm_O} (h1 : xm_le a a') (h2 : xm_le b b') : xm_le (xm_cI cd x y a b) (xm_cI cd x y a' b') := by
  unfold xm_cI; cases cd <;> simp only <;> first | exact xm_le_ite h1 h2 | exact xm_le_ite h2 h1
theorem xm_le_push {S : xm_PS} {c : xm_PC} {k k' : Nat → xm_PS → Option xm_O} (h : ∀ a S, xm_le (k a S) (k' a S)) : xm_le (xm_push S c k) (xm_push S c k') := by
  unfold xm_push; exact xm_le_ite (h _ _) xm_le_rfl
theorem xm_le_rr {c : Nat} {o : xm_O} {k k' : List Value → xm_PS → Option xm_O} {kx kx' : Nat → xm_PS → Option xm_O} (h : ∀ l S, xm_le (k l S) (k' l S)) (hx : ∀ e S, xm_le (kx e S) (kx' e S)) : xm_le (xm_rr c o k kx) (xm_rr c o k' kx') := by
  unfold xm_rr; split
  · unfold xm_r0; split <;> first | exact h _ _ | exact hx _ _ | exact xm_le_rfl
  · unfold xm_rI; split <;> first | exact h _ _ | exact hx _ _ | exact xm_le_rfl
  · unfold xm_rL; split <;> first | exact h _ _ | exact hx _ _ | exact xm_le_rfl
  · unfold xm_rF; split <;> first | exact h _ _ | exact hx _ _ | exact xm_le_rfl
  · unfold xm_rD; split <;> first | exact h _ _ | exact hx _ _ | exact xm_le_rfl
  · unfold xm_rR; split <;> first | exact h _ _ | exact hx _ _ | exact xm_le_rfl
  · exact xm_le_rfl
section LE
variable {sc : xm_Sc} {tab : xm_Segs} {hx : xm_Hx} {call call' : Nat → List Value → xm_PS → Option xm_O} {kont kont' : Nat → List Value → List Value → xm_PS → Option xm_O}
theorem xm_le_kx (hk : ∀ pc ls st S, xm_le (kont pc ls st S) (kont' pc ls st S)) {pc : Nat} {ls : List Value} {e : Nat} {S : xm_PS} : xm_le (xm_kx tab hx kont pc ls e S) (xm_kx tab hx kont' pc ls e S) := by
  unfold xm_kx
  split
  · exact xm_le_rfl
  · refine xm_le_ite ?_ xm_le_rfl
    split
    · exact xm_le_rfl
    · split <;> first | exact hk _ _ _ _ | exact xm_le_rfl
theorem xm_le_call (hc : ∀ j as S, xm_le (call j as S) (call' j as S)) (hk : ∀ pc ls st S, xm_le (kont pc ls st S) (kont' pc ls st S)) {kx kx' : Nat → xm_PS → Option xm_O} (hx : ∀ e S, xm_le (kx e S) (kx' e S))
    {pc : Nat} {ls rest : List Value} {S : xm_PS} {j : Nat} {as : List Value} {c : Nat} : xm_le (xm_call call kont kx pc ls rest S j as c) (xm_call call' kont' kx' pc ls rest S j as c) := by
  unfold xm_call
  refine xm_le_ite ?_ xm_le_rfl
  intro o h
  cases hq : call j as S with
  | none => rw [hq] at h; cases h
  | some q =>
    rw [hq] at h
    rw [hc j as S q hq]
    exact xm_le_rr (k := fun l S => kont (pc + 3) ls (l ++ rest) S) (fun l S => hk _ _ _ _) hx o h
set_option maxHeartbeats 4000000 in
theorem xm_le_op (hc : ∀ j as S, xm_le (call j as S) (call' j as S)) (hk : ∀ pc ls st S, xm_le (kont pc ls st S) (kont' pc ls st S)) {pc a b c d : Nat} {ls st : List Value} {S : xm_PS} {ins : Instr} : xm_le (xm_op sc tab hx call kont pc a b c d ls st S ins) (xm_op sc tab hx call' kont' pc a b c d ls st S ins) := by
  have hx' : ∀ pc ls e S, xm_le (xm_kx tab hx kont pc ls e S) (xm_kx tab hx kont' pc ls e S) := fun _ _ _ _ => xm_le_kx hk
  cases ins
  case aload => dsimp only [xm_op]; exact (xm_le_lA fun _ => (hk _ _ _ _))
  case aload_n => dsimp only [xm_op]; exact (xm_le_lA fun _ => (hk _ _ _ _))
  case iload => exact (xm_le_lI fun _ => (hk _ _ _ _))
  case iload_n => exact (xm_le_lI fun _ => (hk _ _ _ _))
  case lload => dsimp only [xm_op]; exact (xm_le_lL fun _ => (hk _ _ _ _))
  case fload => dsimp only [xm_op]; exact (xm_le_lF fun _ => (hk _ _ _ _))
  case fload_n => dsimp only [xm_op]; exact (xm_le_lF fun _ => (hk _ _ _ _))
  case lload_n => exact (xm_le_lL fun _ => (hk _ _ _ _))
  case dload => exact (xm_le_lD fun _ => (hk _ _ _ _))
  case dload_n => exact (xm_le_lD fun _ => (hk _ _ _ _))
  case istore => exact (xm_le_pI fun _ _ => (hk _ _ _ _))
  case istore_n => exact (xm_le_pI fun _ _ => (hk _ _ _ _))
  case astore => exact (xm_le_pR fun _ _ => (hk _ _ _ _))
  case astore_n => exact (xm_le_pR fun _ _ => (hk _ _ _ _))
  case fstore => dsimp only [xm_op]; exact (xm_le_pF fun _ _ => (hk _ _ _ _))
  case lstore => dsimp only [xm_op]; exact (xm_le_pL fun _ _ => (xm_le_ite (hk _ _ _ _) xm_le_rfl))
  case lstore_n => dsimp only [xm_op]; exact (xm_le_pL fun _ _ => (xm_le_ite (hk _ _ _ _) xm_le_rfl))
  case dstore => exact (xm_le_pD fun _ _ => (xm_le_ite (hk _ _ _ _) xm_le_rfl))
  case dstore_n => exact (xm_le_pD fun _ _ => (xm_le_ite (hk _ _ _ _) xm_le_rfl))
  case iinc => exact (xm_le_lI fun _ => (hk _ _ _ _))
  case iconst => exact (hk _ _ _ _)
  case bipush => exact (hk _ _ _ _)
  case sipush => exact (hk _ _ _ _)
  case lconst => exact (hk _ _ _ _)
  case fconst => exact (hk _ _ _ _)
  case dconst => exact (hk _ _ _ _)
  case ldc =>
    dsimp only [xm_op]
    split
    · exact (hk _ _ _ _)
    · exact (hk _ _ _ _)
  case ldc_w =>
    dsimp only [xm_op]
    split
    · exact (hk _ _ _ _)
    · exact (hk _ _ _ _)
  case ldc2_w => exact (hk _ _ _ _)
  case iadd => exact (xm_le_pI fun _ _ => (xm_le_pI fun _ _ => (hk _ _ _ _)))
  case isub => exact (xm_le_pI fun _ _ => (xm_le_pI fun _ _ => (hk _ _ _ _)))
  case imul => exact (xm_le_pI fun _ _ => (xm_le_pI fun _ _ => (hk _ _ _ _)))
  case idiv => exact (xm_le_pI fun _ _ => (xm_le_pI fun _ _ => (xm_le_ite xm_le_rfl (hk _ _ _ _))))
  case irem => exact (xm_le_pI fun _ _ => (xm_le_pI fun _ _ => (xm_le_ite xm_le_rfl (hk _ _ _ _))))
  case iand => exact (xm_le_pI fun _ _ => (xm_le_pI fun _ _ => (hk _ _ _ _)))
  case ior => exact (xm_le_pI fun _ _ => (xm_le_pI fun _ _ => (hk _ _ _ _)))
  case ixor => exact (xm_le_pI fun _ _ => (xm_le_pI fun _ _ => (hk _ _ _ _)))
  case ishl => exact (xm_le_pI fun _ _ => (xm_le_pI fun _ _ => (hk _ _ _ _)))
  case ishr => exact (xm_le_pI fun _ _ => (xm_le_pI fun _ _ => (hk _ _ _ _)))
  case iushr => exact (xm_le_pI fun _ _ => (xm_le_pI fun _ _ => (hk _ _ _ _)))
  case i2l => exact (xm_le_pI fun _ _ => (hk _ _ _ _))
  case l2i => exact (xm_le_pL fun _ _ => (hk _ _ _ _))
  case i2b => exact (xm_le_pI fun _ _ => (hk _ _ _ _))
  case i2c => exact (xm_le_pI fun _ _ => (hk _ _ _ _))
  case i2f => exact (xm_le_pI fun _ _ => (hk _ _ _ _))
  case i2d => exact (xm_le_pI fun _ _ => (hk _ _ _ _))
  case f2d => exact (xm_le_pF fun _ _ => (xm_le_ite (hk _ _ _ _) xm_le_rfl))
  case fdiv => exact (xm_le_pF fun _ _ => (xm_le_pF fun _ _ => (xm_le_ite (hk _ _ _ _) xm_le_rfl)))
  case ddiv => exact (xm_le_pD fun _ _ => (xm_le_pD fun _ _ => (xm_le_ite (hk _ _ _ _) xm_le_rfl)))
  case dcmp => exact (xm_le_pD fun _ _ => (xm_le_pD fun _ _ => (hk _ _ _ _)))
  case ladd => exact (xm_le_pL fun _ _ => (xm_le_pL fun _ _ => (hk _ _ _ _)))
  case lsub => exact (xm_le_pL fun _ _ => (xm_le_pL fun _ _ => (hk _ _ _ _)))
  case lmul => exact (xm_le_pL fun _ _ => (xm_le_pL fun _ _ => (hk _ _ _ _)))
  case land => exact (xm_le_pL fun _ _ => (xm_le_pL fun _ _ => (hk _ _ _ _)))
  case lor => exact (xm_le_pL fun _ _ => (xm_le_pL fun _ _ => (hk _ _ _ _)))
  case lcmp => exact (xm_le_pL fun _ _ => (xm_le_pL fun _ _ => (hk _ _ _ _)))
  case dup => exact (by dsimp only [xm_op]; split <;> first | exact hk _ _ _ _ | exact xm_le_rfl)
  case dup2 => exact (by dsimp only [xm_op]; split <;> first | exact hk _ _ _ _ | exact xm_le_rfl)
  case pop => dsimp only [xm_op]; split <;> first | exact hk _ _ _ _ | exact xm_le_rfl
  case dup_x1 => dsimp only [xm_op]; split <;> first | exact hk _ _ _ _ | exact xm_le_rfl
  case aconst_null => dsimp only [xm_op]; exact hk _ _ _ _
  case ifnull => dsimp only [xm_op]; split <;> first | exact hk _ _ _ _ | exact xm_le_rfl
  case ifnonnull =>
    dsimp only [xm_op]
    split
    · exact (xm_le_go fun _ => hk _ _ _ _)
    · exact (xm_le_ite (xm_le_go fun _ => hk _ _ _ _) xm_le_rfl)
    · exact xm_le_rfl
  case checkcast => dsimp only [xm_op]; exact (xm_le_pR fun _ _ => (xm_le_bind fun _ => (hk _ _ _ _)))
  case fcmp => dsimp only [xm_op]; exact (xm_le_pF fun _ _ => (xm_le_pF fun _ _ => (hk _ _ _ _)))
  case ineg => dsimp only [xm_op]; exact (xm_le_pI fun _ _ => (hk _ _ _ _))
  case goto => exact (xm_le_go fun _ => hk _ _ _ _)
  case ifCond => exact (xm_le_pI fun _ _ => (xm_le_cI (xm_le_go fun _ => hk _ _ _ _) (hk _ _ _ _)))
  case if_icmp => exact (xm_le_pI fun _ _ => (xm_le_pI fun _ _ => (xm_le_cI (xm_le_go fun _ => hk _ _ _ _) (hk _ _ _ _))))
  case tableswitch => exact (xm_le_pI fun _ _ => (xm_le_ts fun _ => xm_le_go fun _ => hk _ _ _ _))
  case lookupswitch => exact (xm_le_pI fun _ _ => (xm_le_ls fun _ => xm_le_go fun _ => hk _ _ _ _))
  case getfield =>
    dsimp only [xm_op]
    split
    · exact (xm_le_pR fun _ _ => (xm_le_bind fun _ => (hk _ _ _ _)))
    · exact (xm_le_pR fun _ _ => (xm_le_bind fun _ => (hk _ _ _ _)))
    · split
      · exact (xm_le_bind fun _ => (hk _ _ _ _))
      · exact (xm_le_ite (hk _ _ _ _) xm_le_rfl)
      · exact xm_le_rfl
    · split
      · exact (xm_le_bind fun _ => (hk _ _ _ _))
      · exact (xm_le_ite (hk _ _ _ _) xm_le_rfl)
      · exact xm_le_rfl
  case putfield =>
    dsimp only [xm_op]
    split
    · exact (xm_le_pI fun _ _ => (xm_le_pR fun _ _ => (xm_le_bind fun _ => (hk _ _ _ _))))
    · exact (xm_le_pR fun _ _ => (xm_le_pR fun _ _ => (xm_le_bind fun _ => (hk _ _ _ _))))
    · exact (xm_le_pI fun _ _ => (xm_le_pR fun _ _ => (xm_le_ite (xm_le_bind fun _ => (hk _ _ _ _)) xm_le_rfl)))
    · exact (xm_le_pI fun _ _ => (xm_le_pR fun _ _ => (xm_le_ite (xm_le_bind fun _ => (hk _ _ _ _)) xm_le_rfl)))
  case getstatic => dsimp only [xm_op]; split <;> exact hk _ _ _ _
  case iaload =>
    dsimp only [xm_op]
    split
    · exact (xm_le_pI fun _ _ => (xm_le_pR fun _ _ => (xm_le_bind fun _ => (hk _ _ _ _))))
    · exact (xm_le_pI fun _ _ => (xm_le_pS fun _ _ => (xm_le_ite (hk _ _ _ _) xm_le_rfl)))
  case baload =>
    dsimp only [xm_op]
    split
    · exact (xm_le_pI fun _ _ => (xm_le_pR fun _ _ => (xm_le_bind fun _ => (hk _ _ _ _))))
    · exact (xm_le_pI fun _ _ => (xm_le_pR fun _ _ => (xm_le_bind fun _ => (hk _ _ _ _))))
    · refine (xm_le_pI fun _ _ => ?_)
      split
      · exact (xm_le_bind fun _ => (hk _ _ _ _))
      · exact (xm_le_ite (hk _ _ _ _) xm_le_rfl)
      · exact xm_le_rfl
  case laload => exact (xm_le_pI fun _ _ => (xm_le_pR fun _ _ => (xm_le_bind fun _ => (hk _ _ _ _))))
  case aaload => dsimp only [xm_op]; split <;> exact (xm_le_pI fun _ _ => (xm_le_pR fun _ _ => (xm_le_bind fun _ => (hk _ _ _ _))))
  case iastore => exact (xm_le_pI fun _ _ => (xm_le_pI fun _ _ => (xm_le_pR fun _ _ => (xm_le_bind fun _ => (hk _ _ _ _)))))
  case bastore =>
    dsimp only [xm_op]
    split
    · exact (xm_le_pI fun _ _ => (xm_le_pI fun _ _ => (xm_le_pR fun _ _ => (xm_le_bind fun _ => (hk _ _ _ _)))))
    · exact (xm_le_pI fun _ _ => (xm_le_pI fun _ _ => (xm_le_pR fun _ _ => (xm_le_ite (xm_le_bind fun _ => (hk _ _ _ _)) xm_le_rfl))))
  case lastore => exact (xm_le_pL fun _ _ => (xm_le_pI fun _ _ => (xm_le_pR fun _ _ => (xm_le_bind fun _ => (hk _ _ _ _)))))
  case aastore => dsimp only [xm_op]; split <;> exact (xm_le_pR fun _ _ => (xm_le_pI fun _ _ => (xm_le_pR fun _ _ => (xm_le_ite (xm_le_bind fun _ => (hk _ _ _ _)) xm_le_rfl))))
  case arraylength =>
    dsimp only [xm_op]
    split
    · exact (xm_le_pR fun _ _ => (xm_le_bind fun _ => (hk _ _ _ _)))
    · split
      · exact (xm_le_bind fun _ => (hk _ _ _ _))
      · exact (xm_le_ite (hk _ _ _ _) xm_le_rfl)
      · exact xm_le_rfl
    · exact (xm_le_pS fun _ _ => (xm_le_ite (hk _ _ _ _) xm_le_rfl))
  case newarray =>
    dsimp only [xm_op]
    split
    · exact (xm_le_pI fun _ _ => (xm_le_ite xm_le_rfl (xm_le_ite (xm_le_push fun _ _ => hk _ _ _ _) xm_le_rfl)))
    · exact (xm_le_pI fun _ _ => (xm_le_ite xm_le_rfl (xm_le_ite (xm_le_push fun _ _ => hk _ _ _ _) xm_le_rfl)))
  case anewarray => exact (xm_le_pI fun _ _ => (xm_le_ite xm_le_rfl (xm_le_ite (xm_le_push fun _ _ => hk _ _ _ _) xm_le_rfl)))
  case new =>
    dsimp only [xm_op]
    split
    · exact (xm_le_push fun _ _ => hk _ _ _ _)
    · exact (xm_le_ite xm_le_rfl xm_le_rfl)
  case invokestatic =>
    dsimp only [xm_op]
    split
    · exact (xm_le_ite (xm_le_call hc hk (fun _ _ => hx' _ _ _ _)) xm_le_rfl)
    · exact (xm_le_pI fun _ _ => (xm_le_pI fun _ _ => (xm_le_ite (hk _ _ _ _) xm_le_rfl)))
    · exact (xm_le_pI fun _ _ => (xm_le_pI fun _ _ => (xm_le_ite (hk _ _ _ _) xm_le_rfl)))
    · refine (xm_le_pI fun _ _ => (xm_le_pI fun _ _ => (xm_le_pR fun _ _ => (xm_le_pI fun _ _ => ?_))))
      split
      · exact (xm_le_ite (xm_le_bind fun _ => (hk _ _ _ _)) xm_le_rfl)
      · exact (xm_le_ite (xm_le_bind fun _ => (hk _ _ _ _)) xm_le_rfl)
      · exact xm_le_rfl
    · exact (xm_le_pD fun _ _ => (xm_le_ite (hk _ _ _ _) xm_le_rfl))
    · exact (xm_le_pF fun _ _ => (xm_le_ite (hk _ _ _ _) xm_le_rfl))
  case invokevirtual =>
    dsimp only [xm_op]
    split
    · exact (xm_le_pR fun _ _ => (xm_le_bind fun _ => (xm_le_ite (xm_le_push fun _ _ => hk _ _ _ _) xm_le_rfl)))
    · exact (xm_le_ite (xm_le_pR fun _ _ => (xm_le_ite (xm_le_call hc hk (fun _ _ => hx' _ _ _ _)) xm_le_rfl)) xm_le_rfl)
    · exact (xm_le_ite (xm_le_pRS fun _ _ => (xm_le_ite (xm_le_call hc hk (fun _ _ => hx' _ _ _ _)) xm_le_rfl)) xm_le_rfl)
  case invokespecial =>
    dsimp only [xm_op]
    split
    · exact (xm_le_ite (xm_le_pR fun _ _ => (xm_le_call hc hk (fun _ _ => xm_le_rfl))) xm_le_rfl)
    · exact (xm_le_pR fun _ _ => (xm_le_ite (hk _ _ _ _) xm_le_rfl))
    · exact (xm_le_ite (xm_le_pR fun _ _ => (xm_le_ite (xm_le_call hc hk (fun _ _ => hx' _ _ _ _)) xm_le_rfl)) xm_le_rfl)
  case ireturn => exact xm_le_rfl
  case lreturn => exact (xm_le_pL fun _ _ => (xm_le_ite xm_le_rfl xm_le_rfl))
  case areturn => dsimp only [xm_op]; exact (xm_le_pR fun _ _ => (xm_le_ite xm_le_rfl xm_le_rfl))
  case freturn => exact (xm_le_pF fun _ _ => (xm_le_ite xm_le_rfl xm_le_rfl))
  case dreturn => exact (xm_le_pD fun _ _ => (xm_le_ite xm_le_rfl xm_le_rfl))
  case return_ => exact (xm_le_ite xm_le_rfl xm_le_rfl)
  all_goals exact xm_le_rfl
theorem xm_le_step (hc : ∀ j as S, xm_le (call j as S) (call' j as S)) (hk : ∀ pc ls st S, xm_le (kont pc ls st S) (kont' pc ls st S)) {pc : Nat} {ls st : List Value} {S : xm_PS} : xm_le (xm_step sc tab hx call kont pc ls st S) (xm_step sc tab hx call' kont' pc ls st S) := by
  unfold xm_step; split
  · exact xm_le_rfl
  · exact xm_le_op hc hk
end LE
-- ===== runs without a count of steps =====
theorem xm_run_le (sc : xm_Sc) (M : Nat → Option xm_MI) : ∀ (n d i pc : Nat) (ls st : List Value) (S : xm_PS), xm_le (xm_run sc M n d i pc ls st S) (xm_run sc M (n + 1) d i pc ls st S)
  | 0, _, _, _, _, _, _ => fun o h => by cases h
  | n + 1, d, i, pc, ls, st, S => by
    unfold xm_run
    cases M i with
    | none => exact xm_le_rfl
    | some q =>
      refine xm_le_step (fun j as S => ?_) (fun pc ls st S => xm_run_le sc M n d i pc ls st S)
      cases d with
      | zero => exact xm_le_rfl
      | succ d =>
        dsimp only
        cases M j with
        | none => exact xm_le_rfl
        | some r => exact xm_le_ite (xm_run_le sc M n d j 0 _ [] S) xm_le_rfl
theorem xm_run_up (sc : xm_Sc) (M : Nat → Option xm_MI) {n m : Nat} (h : n ≤ m) {d i pc : Nat} {ls st : List Value} {S : xm_PS} {o : xm_O} (hr : xm_run sc M n d i pc ls st S = some o) : xm_run sc M m d i pc ls st S = some o := by
  induction h with
  | refl => exact hr
  | step _ ih => exact xm_run_le sc M _ d i pc ls st S o ih
/-- what a run answers, with steps enough -/
noncomputable def xm_R (sc : xm_Sc) (M : Nat → Option xm_MI) (d i pc : Nat) (ls st : List Value) (S : xm_PS) : Option xm_O :=
  @dite _ (∃ o n, xm_run sc M n d i pc ls st S = some o) (Classical.propDecidable _) (fun h => some h.choose) (fun _ => none)
theorem xm_R_iff {sc : xm_Sc} {M : Nat → Option xm_MI} {d i pc : Nat} {ls st : List Value} {S : xm_PS} {o : xm_O} : xm_R sc M d i pc ls st S = some o ↔ ∃ n, xm_run sc M n d i pc ls st S = some o := by
  unfold xm_R
  constructor
  · intro h
    split at h
    · next hh => cases h; exact hh.choose_spec
    · cases h
  · rintro ⟨n, hn⟩
    have hh : ∃ o n, xm_run sc M n d i pc ls st S = some o := ⟨o, n, hn⟩
    rw [dif_pos hh]
    obtain ⟨m, hm⟩ := hh.choose_spec
    have h1 := xm_run_up sc M (Nat.le_max_left n m) hn
    have h2 := xm_run_up sc M (Nat.le_max_right n m) hm
    rw [h1] at h2
    exact h2.symm
/-- a call -/
noncomputable def xm_C (sc : xm_Sc) (M : Nat → Option xm_MI) (d j : Nat) (as : List Value) (S : xm_PS) : Option xm_O := match d with
  | 0 => none
  | d' + 1 => match M j with
    | none => none
    | some r => if xm_lo r as = true then xm_R sc M d' j 0 (xm_entry r.2.2.1 as) [] S else none
def xm_c (sc : xm_Sc) (M : Nat → Option xm_MI) (n d j : Nat) (as : List Value) (S : xm_PS) : Option xm_O := match d with
  | 0 => none
  | d' + 1 => match M j with
    | none => none
    | some r => if xm_lo r as = true then xm_run sc M n d' j 0 (xm_entry r.2.2.1 as) [] S else none
theorem xm_run_s {sc : xm_Sc} {M : Nat → Option xm_MI} {n d i pc : Nat} {ls st : List Value} {S : xm_PS} {q : xm_MI} (hq : M i = some q) : xm_run sc M (n + 1) d i pc ls st S = xm_step sc q.2.2.2.2.2 q.2.2.2.2.1 (xm_c sc M n d) (fun pc ls st S => xm_run sc M n d i pc ls st S) pc ls st S := by
  conv => lhs; unfold xm_run
  rw [hq]
  rfl
theorem xm_c_le {sc : xm_Sc} {M : Nat → Option xm_MI} {n d j : Nat} {as : List Value} {S : xm_PS} : xm_le (xm_c sc M n d j as S) (xm_C sc M d j as S) := by
  unfold xm_c xm_C
  cases d with
  | zero => exact xm_le_rfl
  | succ d =>
    dsimp only
    cases M j with
    | none => exact xm_le_rfl
    | some r => exact xm_le_ite (fun o h => xm_R_iff.mpr ⟨n, h⟩) xm_le_rfl
/-- so many steps are enough, and more -/
def xm_ct (f : Nat → Option xm_O) (g : Option xm_O) : Prop := ∀ o, g = some o → ∃ n, ∀ m, n ≤ m → f m = some o
theorem xm_ct_rfl {g : Option xm_O} : xm_ct (fun _ => g) g := fun o h => ⟨0, fun _ _ => h⟩
theorem xm_ct_pI {st : List Value} {k : Nat → Int32 → List Value → Option xm_O} {k' : Int32 → List Value → Option xm_O} (h : ∀ x r, xm_ct (fun n => k n x r) (k' x r)) : xm_ct (fun n => xm_pI st (k n)) (xm_pI st k') := by
  unfold xm_pI; split <;> first | exact h _ _ | exact xm_ct_rfl
theorem xm_ct_pL {st : List Value} {k : Nat → Int64 → List Value → Option xm_O} {k' : Int64 → List Value → Option xm_O} (h : ∀ x r, xm_ct (fun n => k n x r) (k' x r)) : xm_ct (fun n => xm_pL st (k n)) (xm_pL st k') := by
  unfold xm_pL; split <;> first | exact h _ _ | exact xm_ct_rfl
theorem xm_ct_pF {st : List Value} {k : Nat → UInt32 → List Value → Option xm_O} {k' : UInt32 → List Value → Option xm_O} (h : ∀ x r, xm_ct (fun n => k n x r) (k' x r)) : xm_ct (fun n => xm_pF st (k n)) (xm_pF st k') := by
  unfold xm_pF; split <;> first | exact h _ _ | exact xm_ct_rfl
theorem xm_ct_pD {st : List Value} {k : Nat → UInt64 → List Value → Option xm_O} {k' : UInt64 → List Value → Option xm_O} (h : ∀ x r, xm_ct (fun n => k n x r) (k' x r)) : xm_ct (fun n => xm_pD st (k n)) (xm_pD st k') := by
  unfold xm_pD; split <;> first | exact h _ _ | exact xm_ct_rfl
theorem xm_ct_pR {st : List Value} {k : Nat → Nat → List Value → Option xm_O} {k' : Nat → List Value → Option xm_O} (h : ∀ x r, xm_ct (fun n => k n x r) (k' x r)) : xm_ct (fun n => xm_pR st (k n)) (xm_pR st k') := by
  unfold xm_pR; split <;> first | exact h _ _ | exact xm_ct_rfl
theorem xm_ct_pS {st : List Value} {k : Nat → Nat → List Value → Option xm_O} {k' : Nat → List Value → Option xm_O} (h : ∀ x r, xm_ct (fun n => k n x r) (k' x r)) : xm_ct (fun n => xm_pS st (k n)) (xm_pS st k') := by
  unfold xm_pS; split <;> first | exact h _ _ | exact xm_ct_rfl
theorem xm_ct_pRS {st : List Value} {k : Nat → Value → List Value → Option xm_O} {k' : Value → List Value → Option xm_O} (h : ∀ x r, xm_ct (fun n => k n x r) (k' x r)) : xm_ct (fun n => xm_pRS st (k n)) (xm_pRS st k') := by
  unfold xm_pRS; split <;> first | exact h _ _ | exact xm_ct_rfl
theorem xm_ct_lI {ls : List Value} {i : Nat} {k : Nat → Int32 → Option xm_O} {k' : Int32 → Option xm_O} (h : ∀ x, xm_ct (fun n => k n x) (k' x)) : xm_ct (fun n => xm_lI ls i (k n)) (xm_lI ls i k') := by
  unfold xm_lI; split <;> first | exact h _ | exact xm_ct_rfl
theorem xm_ct_lF {ls : List Value} {i : Nat} {k : Nat → UInt32 → Option xm_O} {k' : UInt32 → Option xm_O} (h : ∀ x, xm_ct (fun n => k n x) (k' x)) : xm_ct (fun n => xm_lF ls i (k n)) (xm_lF ls i k') := by
  unfold xm_lF; split <;> first | exact h _ | exact xm_ct_rfl
theorem xm_ct_lL {ls : List Value} {i : Nat} {k : Nat → Int64 → Option xm_O} {k' : Int64 → Option xm_O} (h : ∀ x, xm_ct (fun n => k n x) (k' x)) : xm_ct (fun n => xm_lL ls i (k n)) (xm_lL ls i k') := by
  unfold xm_lL; split <;> first | exact h _ | exact xm_ct_rfl
theorem xm_ct_lD {ls : List Value} {i : Nat} {k : Nat → UInt64 → Option xm_O} {k' : UInt64 → Option xm_O} (h : ∀ x, xm_ct (fun n => k n x) (k' x)) : xm_ct (fun n => xm_lD ls i (k n)) (xm_lD ls i k') := by
  unfold xm_lD; split <;> first | exact h _ | exact xm_ct_rfl
theorem xm_ct_ite {c : Prop} {i1 : Decidable c} {x y : Nat → Option xm_O} {x' y' : Option xm_O} (h1 : xm_ct x x') (h2 : xm_ct y y') : xm_ct (fun n => @ite _ c i1 (x n) (y n)) (@ite _ c i1 x' y') := by
  split
  · exact h1
  · exact h2
theorem xm_ct_lA {ls : List Value} {i : Nat} {k : Nat → Value → Option xm_O} {k' : Value → Option xm_O} (h : ∀ x, xm_ct (fun n => k n x) (k' x)) : xm_ct (fun n => xm_lA ls i (k n)) (xm_lA ls i k') := by
  unfold xm_lA; split <;> first | exact h _ | exact xm_ct_rfl | exact xm_ct_ite (h _) xm_ct_rfl
theorem xm_ct_bind {α : Type} {x : Option α} {k : Nat → α → Option xm_O} {k' : α → Option xm_O} (h : ∀ v, xm_ct (fun n => k n v) (k' v)) : xm_ct (fun n => x.bind (k n)) (x.bind k') := by
  cases x with
  | none => exact xm_ct_rfl
  | some v => exact h v
theorem xm_ct_go {k : Nat → Nat → Option xm_O} {k' : Nat → Option xm_O} {pc : Nat} {off : Int} (h : ∀ t, xm_ct (fun n => k n t) (k' t)) : xm_ct (fun n => xm_go (k n) pc off) (xm_go k' pc off) := by
  unfold xm_go; split <;> first | exact h _ | exact xm_ct_rfl
theorem xm_ct_ls {k : Nat → Int → Option xm_O} {k' : Int → Option xm_O} (h : ∀ t, xm_ct (fun n => k n t) (k' t)) {d x : Int} : ∀ {ps : List (Int × Int)}, xm_ct (fun n => xm_ls ps d x (k n)) (xm_ls ps d x k')
  | [] => h _
  | (a, o) :: r => by unfold xm_ls; exact xm_ct_ite (h _) (xm_ct_ls h)
theorem xm_ct_ts {k : Nat → Int → Option xm_O} {k' : Int → Option xm_O} (h : ∀ t, xm_ct (fun n => k n t) (k' t)) {d x : Int} : ∀ {ps : List Int} {lo : Int}, xm_ct (fun n => xm_ts lo ps d x (k n)) (xm_ts lo ps d x k')
  | [], _ => h _
  | o :: r, _ => by unfold xm_ts; exact xm_ct_ite (h _) (xm_ct_ts h)
theorem xm_ct_cI {cd : ClassFile.Cond} {x y : Int32} {a b : Nat → Option xm_O} {a' b' : Option xm_O} (h1 : xm_ct a a') (h2 : xm_ct b b') : xm_ct (fun n => xm_cI cd x y (a n) (b n)) (xm_cI cd x y a' b') := by
  unfold xm_cI; cases cd <;> simp only <;> first | exact xm_ct_ite h1 h2 | exact xm_ct_ite h2 h1
theorem xm_ct_push {S : xm_PS} {c : xm_PC} {k : Nat → Nat → xm_PS → Option xm_O} {k' : Nat → xm_PS → Option xm_O} (h : ∀ a S, xm_ct (fun n => k n a S) (k' a S)) : xm_ct (fun n => xm_push S c (k n)) (xm_push S c k') := by
  unfold xm_push; exact xm_ct_ite (h _ _) xm_ct_rfl
theorem xm_ct_rr {c : Nat} {o : xm_O} {k : Nat → List Value → xm_PS → Option xm_O} {k' : List Value → xm_PS → Option xm_O} {kx : Nat → Nat → xm_PS → Option xm_O} {kx' : Nat → xm_PS → Option xm_O} (h : ∀ l S, xm_ct (fun n => k n l S) (k' l S)) (hx : ∀ e S, xm_ct (fun n => kx n e S) (kx' e S)) : xm_ct (fun n => xm_rr c o (k n) (kx n)) (xm_rr c o k' kx') := by
  unfold xm_rr; split
  · unfold xm_r0; split <;> first | exact h _ _ | exact hx _ _ | exact xm_ct_rfl
  · unfold xm_rI; split <;> first | exact h _ _ | exact hx _ _ | exact xm_ct_rfl
  · unfold xm_rL; split <;> first | exact h _ _ | exact hx _ _ | exact xm_ct_rfl
  · unfold xm_rF; split <;> first | exact h _ _ | exact hx _ _ | exact xm_ct_rfl
  · unfold xm_rD; split <;> first | exact h _ _ | exact hx _ _ | exact xm_ct_rfl
  · unfold xm_rR; split <;> first | exact h _ _ | exact hx _ _ | exact xm_ct_rfl
  · exact xm_ct_rfl
section CT
variable {sc : xm_Sc} {tab : xm_Segs} {hx : xm_Hx} {call : Nat → Nat → List Value → xm_PS → Option xm_O} {call' : Nat → List Value → xm_PS → Option xm_O} {kont : Nat → Nat → List Value → List Value → xm_PS → Option xm_O} {kont' : Nat → List Value → List Value → xm_PS → Option xm_O}
theorem xm_ct_kx (hk : ∀ pc ls st S, xm_ct (fun n => kont n pc ls st S) (kont' pc ls st S)) {pc : Nat} {ls : List Value} {e : Nat} {S : xm_PS} : xm_ct (fun n => xm_kx tab hx (kont n) pc ls e S) (xm_kx tab hx kont' pc ls e S) := by
  unfold xm_kx
  split
  · exact xm_ct_rfl
  · refine xm_ct_ite ?_ xm_ct_rfl
    split
    · exact xm_ct_rfl
    · split <;> first | exact hk _ _ _ _ | exact xm_ct_rfl
theorem xm_ct_call (hc : ∀ j as S, xm_ct (fun n => call n j as S) (call' j as S)) (hk : ∀ pc ls st S, xm_ct (fun n => kont n pc ls st S) (kont' pc ls st S)) {kx : Nat → Nat → xm_PS → Option xm_O} {kx' : Nat → xm_PS → Option xm_O} (hx : ∀ e S, xm_ct (fun n => kx n e S) (kx' e S))
    {pc : Nat} {ls rest : List Value} {S : xm_PS} {j : Nat} {as : List Value} {c : Nat} : xm_ct (fun n => xm_call (call n) (kont n) (kx n) pc ls rest S j as c) (xm_call call' kont' kx' pc ls rest S j as c) := by
  unfold xm_call
  refine xm_ct_ite ?_ xm_ct_rfl
  intro o h
  cases hq : call' j as S with
  | none => rw [hq] at h; cases h
  | some q =>
    rw [hq] at h
    obtain ⟨n1, h1⟩ := hc j as S q hq
    obtain ⟨n2, h2⟩ := xm_ct_rr (c := c) (o := q) (k := fun n l S => kont n (pc + 3) ls (l ++ rest) S) (k' := fun l S => kont' (pc + 3) ls (l ++ rest) S) (fun l S => hk _ _ _ _) hx o h
    refine ⟨max n1 n2, fun m hm => ?_⟩
    have e1 : call m j as S = some q := h1 m (Nat.le_trans (Nat.le_max_left _ _) hm)
    show (call m j as S).bind _ = some o
    rw [e1]
    exact h2 m (Nat.le_trans (Nat.le_max_right _ _) hm)
set_option maxHeartbeats 4000000 in
theorem xm_ct_op (hc : ∀ j as S, xm_ct (fun n => call n j as S) (call' j as S)) (hk : ∀ pc ls st S, xm_ct (fun n => kont n pc ls st S) (kont' pc ls st S)) {pc a b c d : Nat} {ls st : List Value} {S : xm_PS} {ins : Instr} : xm_ct (fun n => xm_op sc tab hx (call n) (kont n) pc a b c d ls st S ins) (xm_op sc tab hx call' kont' pc a b c d ls st S ins) := by
  have hx' : ∀ pc ls e S, xm_ct (fun n => xm_kx tab hx (kont n) pc ls e S) (xm_kx tab hx kont' pc ls e S) := fun _ _ _ _ => xm_ct_kx hk
  cases ins
  case aload => dsimp only [xm_op]; exact (xm_ct_lA fun _ => (hk _ _ _ _))
  case aload_n => dsimp only [xm_op]; exact (xm_ct_lA fun _ => (hk _ _ _ _))
  case iload => dsimp only [xm_op]; exact (xm_ct_lI fun _ => (hk _ _ _ _))
  case iload_n => dsimp only [xm_op]; exact (xm_ct_lI fun _ => (hk _ _ _ _))
  case lload => dsimp only [xm_op]; exact (xm_ct_lL fun _ => (hk _ _ _ _))
  case fload => dsimp only [xm_op]; exact (xm_ct_lF fun _ => (hk _ _ _ _))
  case fload_n => dsimp only [xm_op]; exact (xm_ct_lF fun _ => (hk _ _ _ _))
  case lload_n => dsimp only [xm_op]; exact (xm_ct_lL fun _ => (hk _ _ _ _))
  case dload => dsimp only [xm_op]; exact (xm_ct_lD fun _ => (hk _ _ _ _))
  case dload_n => dsimp only [xm_op]; exact (xm_ct_lD fun _ => (hk _ _ _ _))
  case istore => dsimp only [xm_op]; exact (xm_ct_pI fun _ _ => (hk _ _ _ _))
  case istore_n => dsimp only [xm_op]; exact (xm_ct_pI fun _ _ => (hk _ _ _ _))
  case astore => dsimp only [xm_op]; exact (xm_ct_pR fun _ _ => (hk _ _ _ _))
  case astore_n => dsimp only [xm_op]; exact (xm_ct_pR fun _ _ => (hk _ _ _ _))
  case fstore => dsimp only [xm_op]; exact (xm_ct_pF fun _ _ => (hk _ _ _ _))
  case lstore => dsimp only [xm_op]; exact (xm_ct_pL fun _ _ => (xm_ct_ite (hk _ _ _ _) xm_ct_rfl))
  case lstore_n => dsimp only [xm_op]; exact (xm_ct_pL fun _ _ => (xm_ct_ite (hk _ _ _ _) xm_ct_rfl))
  case dstore => dsimp only [xm_op]; exact (xm_ct_pD fun _ _ => (xm_ct_ite (hk _ _ _ _) xm_ct_rfl))
  case dstore_n => dsimp only [xm_op]; exact (xm_ct_pD fun _ _ => (xm_ct_ite (hk _ _ _ _) xm_ct_rfl))
  case iinc => dsimp only [xm_op]; exact (xm_ct_lI fun _ => (hk _ _ _ _))
  case iconst => dsimp only [xm_op]; exact (hk _ _ _ _)
  case bipush => dsimp only [xm_op]; exact (hk _ _ _ _)
  case sipush => dsimp only [xm_op]; exact (hk _ _ _ _)
  case lconst => dsimp only [xm_op]; exact (hk _ _ _ _)
  case fconst => dsimp only [xm_op]; exact (hk _ _ _ _)
  case dconst => dsimp only [xm_op]; exact (hk _ _ _ _)
  case ldc =>
    dsimp only [xm_op]
    split
    · exact (hk _ _ _ _)
    · exact (hk _ _ _ _)
  case ldc_w =>
    dsimp only [xm_op]
    split
    · exact (hk _ _ _ _)
    · exact (hk _ _ _ _)
  case ldc2_w => dsimp only [xm_op]; exact (hk _ _ _ _)
  case iadd => dsimp only [xm_op]; exact (xm_ct_pI fun _ _ => (xm_ct_pI fun _ _ => (hk _ _ _ _)))
  case isub => dsimp only [xm_op]; exact (xm_ct_pI fun _ _ => (xm_ct_pI fun _ _ => (hk _ _ _ _)))
  case imul => dsimp only [xm_op]; exact (xm_ct_pI fun _ _ => (xm_ct_pI fun _ _ => (hk _ _ _ _)))
  case idiv => dsimp only [xm_op]; exact (xm_ct_pI fun _ _ => (xm_ct_pI fun _ _ => (xm_ct_ite xm_ct_rfl (hk _ _ _ _))))
  case irem => dsimp only [xm_op]; exact (xm_ct_pI fun _ _ => (xm_ct_pI fun _ _ => (xm_ct_ite xm_ct_rfl (hk _ _ _ _))))
  case iand => dsimp only [xm_op]; exact (xm_ct_pI fun _ _ => (xm_ct_pI fun _ _ => (hk _ _ _ _)))
  case ior => dsimp only [xm_op]; exact (xm_ct_pI fun _ _ => (xm_ct_pI fun _ _ => (hk _ _ _ _)))
  case ixor => dsimp only [xm_op]; exact (xm_ct_pI fun _ _ => (xm_ct_pI fun _ _ => (hk _ _ _ _)))
  case ishl => dsimp only [xm_op]; exact (xm_ct_pI fun _ _ => (xm_ct_pI fun _ _ => (hk _ _ _ _)))
  case ishr => dsimp only [xm_op]; exact (xm_ct_pI fun _ _ => (xm_ct_pI fun _ _ => (hk _ _ _ _)))
  case iushr => dsimp only [xm_op]; exact (xm_ct_pI fun _ _ => (xm_ct_pI fun _ _ => (hk _ _ _ _)))
  case i2l => dsimp only [xm_op]; exact (xm_ct_pI fun _ _ => (hk _ _ _ _))
  case l2i => dsimp only [xm_op]; exact (xm_ct_pL fun _ _ => (hk _ _ _ _))
  case i2b => dsimp only [xm_op]; exact (xm_ct_pI fun _ _ => (hk _ _ _ _))
  case i2c => dsimp only [xm_op]; exact (xm_ct_pI fun _ _ => (hk _ _ _ _))
  case i2f => dsimp only [xm_op]; exact (xm_ct_pI fun _ _ => (hk _ _ _ _))
  case i2d => dsimp only [xm_op]; exact (xm_ct_pI fun _ _ => (hk _ _ _ _))
  case f2d => dsimp only [xm_op]; exact (xm_ct_pF fun _ _ => (xm_ct_ite (hk _ _ _ _) xm_ct_rfl))
  case fdiv => dsimp only [xm_op]; exact (xm_ct_pF fun _ _ => (xm_ct_pF fun _ _ => (xm_ct_ite (hk _ _ _ _) xm_ct_rfl)))
  case ddiv => dsimp only [xm_op]; exact (xm_ct_pD fun _ _ => (xm_ct_pD fun _ _ => (xm_ct_ite (hk _ _ _ _) xm_ct_rfl)))
  case dcmp => dsimp only [xm_op]; exact (xm_ct_pD fun _ _ => (xm_ct_pD fun _ _ => (hk _ _ _ _)))
  case ladd => dsimp only [xm_op]; exact (xm_ct_pL fun _ _ => (xm_ct_pL fun _ _ => (hk _ _ _ _)))
  case lsub => dsimp only [xm_op]; exact (xm_ct_pL fun _ _ => (xm_ct_pL fun _ _ => (hk _ _ _ _)))
  case lmul => dsimp only [xm_op]; exact (xm_ct_pL fun _ _ => (xm_ct_pL fun _ _ => (hk _ _ _ _)))
  case land => dsimp only [xm_op]; exact (xm_ct_pL fun _ _ => (xm_ct_pL fun _ _ => (hk _ _ _ _)))
  case lor => dsimp only [xm_op]; exact (xm_ct_pL fun _ _ => (xm_ct_pL fun _ _ => (hk _ _ _ _)))
  case lcmp => dsimp only [xm_op]; exact (xm_ct_pL fun _ _ => (xm_ct_pL fun _ _ => (hk _ _ _ _)))
  case dup => dsimp only [xm_op]; split <;> first | exact hk _ _ _ _ | exact xm_ct_rfl
  case dup2 => dsimp only [xm_op]; split <;> first | exact hk _ _ _ _ | exact xm_ct_rfl
  case pop => dsimp only [xm_op]; split <;> first | exact hk _ _ _ _ | exact xm_ct_rfl
  case dup_x1 => dsimp only [xm_op]; split <;> first | exact hk _ _ _ _ | exact xm_ct_rfl
  case aconst_null => dsimp only [xm_op]; exact hk _ _ _ _
  case ifnull => dsimp only [xm_op]; split <;> first | exact hk _ _ _ _ | exact xm_ct_rfl
  case ifnonnull =>
    dsimp only [xm_op]
    split
    · exact (xm_ct_go fun _ => hk _ _ _ _)
    · exact (xm_ct_ite (xm_ct_go fun _ => hk _ _ _ _) xm_ct_rfl)
    · exact xm_ct_rfl
  case checkcast => dsimp only [xm_op]; exact (xm_ct_pR fun _ _ => (xm_ct_bind fun _ => (hk _ _ _ _)))
  case fcmp => dsimp only [xm_op]; exact (xm_ct_pF fun _ _ => (xm_ct_pF fun _ _ => (hk _ _ _ _)))
  case ineg => dsimp only [xm_op]; exact (xm_ct_pI fun _ _ => (hk _ _ _ _))
  case goto => dsimp only [xm_op]; exact (xm_ct_go fun _ => hk _ _ _ _)
  case ifCond => dsimp only [xm_op]; exact (xm_ct_pI fun _ _ => (xm_ct_cI (xm_ct_go fun _ => hk _ _ _ _) (hk _ _ _ _)))
  case if_icmp => dsimp only [xm_op]; exact (xm_ct_pI fun _ _ => (xm_ct_pI fun _ _ => (xm_ct_cI (xm_ct_go fun _ => hk _ _ _ _) (hk _ _ _ _))))
  case tableswitch => dsimp only [xm_op]; exact (xm_ct_pI fun _ _ => (xm_ct_ts fun _ => xm_ct_go fun _ => hk _ _ _ _))
  case lookupswitch => dsimp only [xm_op]; exact (xm_ct_pI fun _ _ => (xm_ct_ls fun _ => xm_ct_go fun _ => hk _ _ _ _))
  case getfield =>
    dsimp only [xm_op]
    split
    · exact (xm_ct_pR fun _ _ => (xm_ct_bind fun _ => (hk _ _ _ _)))
    · exact (xm_ct_pR fun _ _ => (xm_ct_bind fun _ => (hk _ _ _ _)))
    · split
      · exact (xm_ct_bind fun _ => (hk _ _ _ _))
      · exact (xm_ct_ite (hk _ _ _ _) xm_ct_rfl)
      · exact xm_ct_rfl
    · split
      · exact (xm_ct_bind fun _ => (hk _ _ _ _))
      · exact (xm_ct_ite (hk _ _ _ _) xm_ct_rfl)
      · exact xm_ct_rfl
  case putfield =>
    dsimp only [xm_op]
    split
    · exact (xm_ct_pI fun _ _ => (xm_ct_pR fun _ _ => (xm_ct_bind fun _ => (hk _ _ _ _))))
    · exact (xm_ct_pR fun _ _ => (xm_ct_pR fun _ _ => (xm_ct_bind fun _ => (hk _ _ _ _))))
    · exact (xm_ct_pI fun _ _ => (xm_ct_pR fun _ _ => (xm_ct_ite (xm_ct_bind fun _ => (hk _ _ _ _)) xm_ct_rfl)))
    · exact (xm_ct_pI fun _ _ => (xm_ct_pR fun _ _ => (xm_ct_ite (xm_ct_bind fun _ => (hk _ _ _ _)) xm_ct_rfl)))
  case getstatic => dsimp only [xm_op]; split <;> exact hk _ _ _ _
  case iaload =>
    dsimp only [xm_op]
    split
    · exact (xm_ct_pI fun _ _ => (xm_ct_pR fun _ _ => (xm_ct_bind fun _ => (hk _ _ _ _))))
    · exact (xm_ct_pI fun _ _ => (xm_ct_pS fun _ _ => (xm_ct_ite (hk _ _ _ _) xm_ct_rfl)))
  case baload =>
    dsimp only [xm_op]
    split
    · exact (xm_ct_pI fun _ _ => (xm_ct_pR fun _ _ => (xm_ct_bind fun _ => (hk _ _ _ _))))
    · exact (xm_ct_pI fun _ _ => (xm_ct_pR fun _ _ => (xm_ct_bind fun _ => (hk _ _ _ _))))
    · refine (xm_ct_pI fun _ _ => ?_)
      split
      · exact (xm_ct_bind fun _ => (hk _ _ _ _))
      · exact (xm_ct_ite (hk _ _ _ _) xm_ct_rfl)
      · exact xm_ct_rfl
  case laload => dsimp only [xm_op]; exact (xm_ct_pI fun _ _ => (xm_ct_pR fun _ _ => (xm_ct_bind fun _ => (hk _ _ _ _))))
  case aaload => dsimp only [xm_op]; split <;> exact (xm_ct_pI fun _ _ => (xm_ct_pR fun _ _ => (xm_ct_bind fun _ => (hk _ _ _ _))))
  case iastore => dsimp only [xm_op]; exact (xm_ct_pI fun _ _ => (xm_ct_pI fun _ _ => (xm_ct_pR fun _ _ => (xm_ct_bind fun _ => (hk _ _ _ _)))))
  case bastore =>
    dsimp only [xm_op]
    split
    · exact (xm_ct_pI fun _ _ => (xm_ct_pI fun _ _ => (xm_ct_pR fun _ _ => (xm_ct_bind fun _ => (hk _ _ _ _)))))
    · exact (xm_ct_pI fun _ _ => (xm_ct_pI fun _ _ => (xm_ct_pR fun _ _ => (xm_ct_ite (xm_ct_bind fun _ => (hk _ _ _ _)) xm_ct_rfl))))
  case lastore => dsimp only [xm_op]; exact (xm_ct_pL fun _ _ => (xm_ct_pI fun _ _ => (xm_ct_pR fun _ _ => (xm_ct_bind fun _ => (hk _ _ _ _)))))
  case aastore => dsimp only [xm_op]; split <;> exact (xm_ct_pR fun _ _ => (xm_ct_pI fun _ _ => (xm_ct_pR fun _ _ => (xm_ct_ite (xm_ct_bind fun _ => (hk _ _ _ _)) xm_ct_rfl))))
  case arraylength =>
    dsimp only [xm_op]
    split
    · exact (xm_ct_pR fun _ _ => (xm_ct_bind fun _ => (hk _ _ _ _)))
    · split
      · exact (xm_ct_bind fun _ => (hk _ _ _ _))
      · exact (xm_ct_ite (hk _ _ _ _) xm_ct_rfl)
      · exact xm_ct_rfl
    · exact (xm_ct_pS fun _ _ => (xm_ct_ite (hk _ _ _ _) xm_ct_rfl))
  case newarray =>
    dsimp only [xm_op]
    split
    · exact (xm_ct_pI fun _ _ => (xm_ct_ite xm_ct_rfl (xm_ct_ite (xm_ct_push fun _ _ => hk _ _ _ _) xm_ct_rfl)))
    · exact (xm_ct_pI fun _ _ => (xm_ct_ite xm_ct_rfl (xm_ct_ite (xm_ct_push fun _ _ => hk _ _ _ _) xm_ct_rfl)))
  case anewarray => dsimp only [xm_op]; exact (xm_ct_pI fun _ _ => (xm_ct_ite xm_ct_rfl (xm_ct_ite (xm_ct_push fun _ _ => hk _ _ _ _) xm_ct_rfl)))
  case new =>
    dsimp only [xm_op]
    split
    · exact (xm_ct_push fun _ _ => hk _ _ _ _)
    · exact (xm_ct_ite xm_ct_rfl xm_ct_rfl)
  case invokestatic =>
    dsimp only [xm_op]
    split
    · exact (xm_ct_ite (xm_ct_call hc hk (fun _ _ => hx' _ _ _ _)) xm_ct_rfl)
    · exact (xm_ct_pI fun _ _ => (xm_ct_pI fun _ _ => (xm_ct_ite (hk _ _ _ _) xm_ct_rfl)))
    · exact (xm_ct_pI fun _ _ => (xm_ct_pI fun _ _ => (xm_ct_ite (hk _ _ _ _) xm_ct_rfl)))
    · refine (xm_ct_pI fun _ _ => (xm_ct_pI fun _ _ => (xm_ct_pR fun _ _ => (xm_ct_pI fun _ _ => ?_))))
      split
      · exact (xm_ct_ite (xm_ct_bind fun _ => (hk _ _ _ _)) xm_ct_rfl)
      · exact (xm_ct_ite (xm_ct_bind fun _ => (hk _ _ _ _)) xm_ct_rfl)
      · exact xm_ct_rfl
    · exact (xm_ct_pD fun _ _ => (xm_ct_ite (hk _ _ _ _) xm_ct_rfl))
    · exact (xm_ct_pF fun _ _ => (xm_ct_ite (hk _ _ _ _) xm_ct_rfl))
  case invokevirtual =>
    dsimp only [xm_op]
    split
    · exact (xm_ct_pR fun _ _ => (xm_ct_bind fun _ => (xm_ct_ite (xm_ct_push fun _ _ => hk _ _ _ _) xm_ct_rfl)))
    · exact (xm_ct_ite (xm_ct_pR fun _ _ => (xm_ct_ite (xm_ct_call hc hk (fun _ _ => hx' _ _ _ _)) xm_ct_rfl)) xm_ct_rfl)
    · exact (xm_ct_ite (xm_ct_pRS fun _ _ => (xm_ct_ite (xm_ct_call hc hk (fun _ _ => hx' _ _ _ _)) xm_ct_rfl)) xm_ct_rfl)
  case invokespecial =>
    dsimp only [xm_op]
    split
    · exact (xm_ct_ite (xm_ct_pR fun _ _ => (xm_ct_call hc hk (fun _ _ => xm_ct_rfl))) xm_ct_rfl)
    · exact (xm_ct_pR fun _ _ => (xm_ct_ite (hk _ _ _ _) xm_ct_rfl))
    · exact (xm_ct_ite (xm_ct_pR fun _ _ => (xm_ct_ite (xm_ct_call hc hk (fun _ _ => hx' _ _ _ _)) xm_ct_rfl)) xm_ct_rfl)
  case ireturn => exact xm_ct_rfl
  case lreturn => dsimp only [xm_op]; exact (xm_ct_pL fun _ _ => (xm_ct_ite xm_ct_rfl xm_ct_rfl))
  case areturn => dsimp only [xm_op]; exact (xm_ct_pR fun _ _ => (xm_ct_ite xm_ct_rfl xm_ct_rfl))
  case freturn => dsimp only [xm_op]; exact (xm_ct_pF fun _ _ => (xm_ct_ite xm_ct_rfl xm_ct_rfl))
  case dreturn => dsimp only [xm_op]; exact (xm_ct_pD fun _ _ => (xm_ct_ite xm_ct_rfl xm_ct_rfl))
  case return_ => dsimp only [xm_op]; exact (xm_ct_ite xm_ct_rfl xm_ct_rfl)
  all_goals exact xm_ct_rfl
theorem xm_ct_step (hc : ∀ j as S, xm_ct (fun n => call n j as S) (call' j as S)) (hk : ∀ pc ls st S, xm_ct (fun n => kont n pc ls st S) (kont' pc ls st S)) {pc : Nat} {ls st : List Value} {S : xm_PS} : xm_ct (fun n => xm_step sc tab hx (call n) (kont n) pc ls st S) (xm_step sc tab hx call' kont' pc ls st S) := by
  unfold xm_step; split
  · exact xm_ct_rfl
  · exact xm_ct_op hc hk
end CT
/-- one step of a run -/
theorem xm_R_step {sc : xm_Sc} {M : Nat → Option xm_MI} {d i pc : Nat} {ls st : List Value} {S : xm_PS} {q : xm_MI} (hq : M i = some q) : xm_R sc M d i pc ls st S = xm_step sc q.2.2.2.2.2 q.2.2.2.2.1 (xm_C sc M d) (xm_R sc M d i) pc ls st S := by
  have h1 : xm_le (xm_R sc M d i pc ls st S) (xm_step sc q.2.2.2.2.2 q.2.2.2.2.1 (xm_C sc M d) (xm_R sc M d i) pc ls st S) := by
    intro o h
    obtain ⟨n, hn⟩ := xm_R_iff.mp h
    cases n with
    | zero => cases hn
    | succ n =>
      rw [xm_run_s hq] at hn
      exact xm_le_step (fun j as S => xm_c_le) (fun pc ls st S o h => xm_R_iff.mpr ⟨n, h⟩) o hn
  have h2 : xm_le (xm_step sc q.2.2.2.2.2 q.2.2.2.2.1 (xm_C sc M d) (xm_R sc M d i) pc ls st S) (xm_R sc M d i pc ls st S) := by
    intro o h
    obtain ⟨n, hn⟩ := xm_ct_step (call := fun n => xm_c sc M n d) (call' := xm_C sc M d) (kont := fun n pc ls st S => xm_run sc M n d i pc ls st S) (kont' := xm_R sc M d i) (fun j as S o h => by
      unfold xm_C at h
      cases d with
      | zero => cases h
      | succ d =>
        dsimp only at h
        cases hj : M j with
        | none => rw [hj] at h; cases h
        | some r =>
          rw [hj] at h
          dsimp only at h
          by_cases hlo : xm_lo r as = true
          · rw [if_pos hlo] at h
            obtain ⟨n, hn⟩ := xm_R_iff.mp h
            refine ⟨n, fun m hm => ?_⟩
            show xm_c sc M m (d + 1) j as S = some o
            unfold xm_c
            dsimp only
            rw [hj]
            dsimp only
            rw [if_pos hlo]
            exact xm_run_up sc M hm hn
          · rw [if_neg hlo] at h
            cases h) (fun pc ls st S o h => by
      obtain ⟨n, hn⟩ := xm_R_iff.mp h
      exact ⟨n, fun m hm => xm_run_up sc M hm hn⟩) o h
    refine xm_R_iff.mpr ⟨n + 1, ?_⟩
    rw [xm_run_s hq]
    exact hn n (Nat.le_refl _)
  cases hr : xm_R sc M d i pc ls st S with
  | some o => exact (h1 o hr).symm
  | none =>
    cases hs : xm_step sc q.2.2.2.2.2 q.2.2.2.2.1 (xm_C sc M d) (xm_R sc M d i) pc ls st S with
    | none => rfl
    | some o => rw [h2 o hs] at hr; cases hr
