/-! THE CLAIM OUT OF ONE WALK OF THE LAW'S BODY. Your part is whole_start (and what it stands on); all else here is the same for every law, but numbers. -/
def R_law : String := "BranchCourierLaw"
def lw_P (b : Addr) (xs : List Int32) (args : Array Value) (s : State) : Prop := args = #[.ref b] ∧ s.IntsAt b xs ∧ xs.length ≤ 260 ∧ (Jvm.Cond.and given_1 narrow_1).before args s = true
/-- what a walk over the start with the record d0 says of its end, said of the start itself -/
theorem lw_closed {s t : State} {o : Outcome} {d0 : Drawn} {L : List Loc} {k n : Nat} (hd0 : s.drawn.sameBut d0 lw_cs) (hv : ∃ v, o = .returned v) (hW : (s.setDrawn d0).WarmedH t.vm) (hs : (s.setDrawn d0).sameButNew ({ t with vm := s.vm } : State) L k n) : State.butDraws s t lw_cs (fun t1 => Framed s o t1 L k n) := by
  have h2 : t.drawn = d0 := congrArg State.drawn hs.1
  refine ⟨⟨hv, hW, State.sameButNew.setDrawn hs s.drawn⟩, ?_, by decide⟩
  rw [h2]
  exact hd0
def lw_Q (_ : Array Value) (s : State) (o : Outcome) (t : State) : Prop := o = .returned (some (.int 1)) ∧ State.butDraws s t lw_cs (fun t1 => Framed s o t1 [] room_1.cells room_1.slots)
def lw_Z (below : List Frame) (a : Array Value) (s : State) : State → Prop := fun t => ∃ o, t.status = .running ∧ Ended t below o ∧ lw_Q a s o t
/-- the law's own end, with 1 on the stack, nothing written that was there before, its room as the claim has it; d0: the record of draws at this point (at the entry s.drawn: begin with 'refine W.base ?_' and 'have hd0 := Drawn.sameBut.refl s.drawn lw_cs') -/
theorem lw_ret {p : Program} {l : Launch} {e : Env} {s : State} {m : MethodId} {below : List Frame} {meth : Method} {c : Code} {b : Nat} {d0 : Drawn} (hd0 : s.drawn.sameBut d0 lw_cs) (hx : p.tables.exec = Jvm.exec) (hb : c.code = code) (hr : meth.sig.returnType = ret) (hlocks : meth.locks = false) {pc : Nat} {H : Heap} {ls : Array Slot} (hdg : decode code pc = .ok (.ireturn, 1)) : W p l e room_1 (s.setDrawn d0) m #[Value.ref b] below meth c H [] room_1.cells room_1.slots (lw_Z below #[Value.ref b] s) (F0 m pc ls [.int 1]) := by
  intro T hT X
  obtain ⟨fs, hret, hrun, hended, hW, hframe⟩ := X.leave (v := some (.int 1)) (hlocks := hlocks) (fun h => by rw [hr] at h; cases h)
  have hmeth' : T.vm.method? m = some meth := X.method'
  refine ⟨T.setFrames fs, ?_, .returned (some (.int 1)), hrun, hended, rfl, lw_closed hd0 ⟨_, rfl⟩ hW hframe⟩
  jvm_step X.here [X.here.top, hx, hb, hdg, hmeth', hr, ret, narrow_b1]
  (try refine ⟨rfl, ?_⟩); (try refine ⟨rfl, ?_⟩)
  first | (intro acts; rw [hret _ acts rfl rfl rfl]) | rw [hret _ _ rfl rfl rfl]
  exact Steps.refl _
/-- what holds at the law's entry: the machine, the code, the tables' words (any of lw_tbl by 'hts w (by decide +kernel)'), the script of L ints xs at the cell b, what the Statement gives of the start (any of its parts by flat_of_before) -/
def lw_At (p : Program) (s : State) (m : MethodId) (meth : Method) (c : Code) (b L : Nat) (xs : Nat → Int32) : Prop :=
  p.tables.exec = Jvm.exec ∧ c.code = code ∧ meth.sig.returnType = ret ∧ c.maxLocals = 14 ∧ s.vm.findClass R_law = some m.cls ∧ (∀ w ∈ lw_tbl, w.before #[Value.ref b] s = true) ∧ va_X b L xs s s.heap ∧ b < s.heap.size ∧ meth.locks = false ∧ (Jvm.Cond.and given_1 narrow_1).before #[Value.ref b] s = true ∧ c.exceptionTable.toList = [] ∧ meth.name = "law"
/-- what is owed of the pure machine -/
def xe_pure : Prop := ∀ (L : Nat) (xs : Nat → Int32), L ≤ 260 → ∃ (n : Nat) (S1 : xm_PS), xm_run (L, xs) xt_M n 10 189 0 (xm_entry 14 [.retAddr 5000]) [] (true, 0, []) = some (.inl (some (.int 1)), S1) ∧ xm_cn S1 ≤ 400000 ∧ xm_sn S1 ≤ 6500000
theorem xe_flags {l : Launch} (h : l.flags = flags0) : l.stackTraces = false := by
  have h2 : (!l.flags.contains noTraceFlag) = false := by
    rw [h]
    decide +kernel
  exact h2
set_option maxHeartbeats 4000000 in
theorem xe_start (hp : xe_pure) {p : Program} {e : Env} {s : State} {m : MethodId} {below : List Frame} {meth : Method} {c : Code} (l : Launch) (hflags : l.flags = flags0) {b L : Nat} {xs : Nat → Int32} (hL : L ≤ 260) (C0 : lw_At p s m meth c b L xs) : W p l e room_1 s m #[Value.ref b] below meth c s.heap [] 0 0 (lw_Z below #[Value.ref b] s) (entryFrame m ([Value.ref b] : List Value).toArray 14) := by
  obtain ⟨hx, hb, hr, hml, hown, hts, hX, hbl, hlocks, hgv, hex, hmn⟩ := C0
  obtain ⟨D, kA, sa, su, hKn, hsu, hsa⟩ := xe_known (p := p) (m := m) (meth := meth) (c := c) hts hX hbl hgv
  obtain ⟨n, S1, hrun, hcn, hsn⟩ := hp L xs hL
  have hrc : 400000 ≤ room_1.cells := by decide
  have hrs : 6500000 ≤ room_1.slots := by decide
  have hmv : xm_mv s.heap.size sa su (.retAddr 5000) = .ref b := by
    show (if 5000 = 9999 then su else Value.ref (sa 5000)) = _
    rw [if_neg (by decide), hsa]
  have hgw : ∀ w ∈ xm_gw, w.before #[Value.ref b] s = true := fun w hw => xm_htbl hts w (List.mem_filter.mp hw).1
  have hCx : xm_Cx s.heap.size D kA sa su (L, xs) xt_189 p l room_1 s m #[Value.ref b] meth c :=
    ⟨hx, hb, hown, hgw, hml, hex, hmn, hKn, hsu, Nat.le_of_ble_eq_true rfl, Nat.le_of_ble_eq_true rfl⟩
  have hEnd : xm_End s.heap.size D kA sa su p l e room_1 s m #[Value.ref b] below meth c 0 0 (lw_Z below #[Value.ref b] s) xt_189 (.inl (some (.int 1))) S1 := by
    intro H locs cells slots lsR pc hS hsz
    refine ⟨fun hR hc hs => ⟨fun v hv hret => ?_, fun x hx => nomatch hx⟩, fun x b d1 e1 ik S2 rest hx => nomatch hx⟩
    cases hv
    rcases hret with ⟨h, -⟩ | ⟨x, ty, h, hd, -⟩ | ⟨x, ty, h, -⟩ | ⟨x, h, -⟩ | ⟨x, h, -⟩ | ⟨x, h, -⟩
    · cases h
    · cases h
      refine va_forget (fun q hq => hS.2.2 q hq) ?_
      refine W.widen (k := room_1.cells) (n := room_1.slots) (by omega) (by omega) ?_
      refine W.base ?_
      exact lw_ret (Drawn.sameBut.refl s.drawn lw_cs) hx hb hr hlocks hd
    · cases h
    · cases h
    · cases h
    · cases h
  have hG := xm_run_G xt_Tab (l := l) (n := n) (fun k _ => xm_all xt_Tab (xe_flags hflags) hsu k) (M := xt_M) (i := 189) (q := xt_189) rfl hCx (d := 10) ⟨Nat.le_of_ble_eq_true rfl, Nat.le_of_ble_eq_true rfl⟩ (K0 := 0) (N0 := 0) (S' := S1) (o := .inl (some (.int 1)))
    (by show xm_cn S1 ≤ 0 + room_1.cells; omega) (by show xm_sn S1 ≤ 0 + room_1.slots; omega) hEnd n (Nat.le_refl n) 0 (xm_entry 14 [.retAddr 5000]) [] (true, 0, []) hrun
  have hLR := xm_entry_LR (B := s.heap.size) (sa := sa) (su := su) hsu (n := 14) (as := [.retAddr 5000]) (by rw [List.map_cons, hmv]; exact Nat.le_of_ble_eq_true rfl)
  rw [List.map_cons, List.map_nil, hmv] at hLR
  rw [lg_entry_eq]
  exact hG.2 s.heap [] 0 0 _ (fun k q h => by simp [xm_ws] at h) va_S.rf hLR rfl rfl hml.symm (fun _ => Nat.le_refl _)
