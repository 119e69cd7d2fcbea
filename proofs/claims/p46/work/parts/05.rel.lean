/-! THE PURE WORLD IN THE REAL ONE: cell h lies at the address B + h; String constant k (and what hangs on it) at sa k. -/
def xm_mv (B : Nat) (sa : Nat → Nat) (su : Value) (v : Value) : Value := match v with
  | .ref h => .ref (B + h)
  | .retAddr k => if k = 9999 then su else .ref (sa k)
  | .int x => .int x
  | .long x => .long x
  | .float x => .float x
  | .double x => .double x
  | .null => .null
def xm_rf (B : Nat) (sa : Nat → Nat) (t : Nat) (h : Nat) : Nat := B + h
def xm_ar (B : Nat) (sa : Nat → Nat) (t : Nat) (x : vp_A) : vp_A := match x.2 with
  | .inr (.inr (.inr (.inr f))) => (x.1, .inr (.inr (.inr (.inr fun i => (f i).map (xm_rf B sa t)))))
  | .inr (.inr (.inr (.inl f))) => (x.1, .inr (.inr (.inr (.inl f))))
  | .inr (.inr (.inl f)) => (x.1, .inr (.inr (.inl f)))
  | .inr (.inl f) => (x.1, .inr (.inl f))
  | .inl f => (x.1, .inl f)
def xm_ce (B : Nat) (kA : Nat → ClassId) (sa : Nat → Nat) (su : Value) (c : xm_PC) : va_E := match c with
  | .inl (t, x) => .inl (kA t, xm_ar B sa t x)
  | .inr (c, fs) => .inr (c, fs.map (xm_mv B sa su))
def xm_ws (B : Nat) (kA : Nat → ClassId) (sa : Nat → Nat) (su : Value) (ph : List xm_PC) : va_W := ph.mapIdx fun h c => (B + h, xm_ce B kA sa su c)
section WS
variable {B : Nat} {kA : Nat → ClassId} {sa : Nat → Nat} {su : Value} {ph : List xm_PC}
theorem xm_ws_at {h : Nat} {c : xm_PC} (hc : ph[h]? = some c) : (xm_ws B kA sa su ph)[h]? = some (B + h, xm_ce B kA sa su c) := by
  simp [xm_ws, List.getElem?_mapIdx, hc]
theorem xm_ws_of {h : Nat} {q : Nat × va_E} (hq : (xm_ws B kA sa su ph)[h]? = some q) : ∃ c, ph[h]? = some c ∧ q = (B + h, xm_ce B kA sa su c) := by
  rw [xm_ws, List.getElem?_mapIdx] at hq
  cases hc : ph[h]? with
  | none => rw [hc] at hq; cases hq
  | some c => rw [hc] at hq; exact ⟨c, rfl, (Option.some.inj hq).symm⟩
theorem xm_ws_set {h : Nat} {c : xm_PC} : (xm_ws B kA sa su ph).set h (B + h, xm_ce B kA sa su c) = xm_ws B kA sa su (ph.set h c) := by
  apply List.ext_getElem?
  intro i
  simp only [xm_ws, List.getElem?_set, List.getElem?_mapIdx, List.length_mapIdx]
  by_cases hi : h = i
  · subst hi
    by_cases hl : h < ph.length <;> simp [hl]
  · simp [hi]
theorem xm_ws_push {c : xm_PC} : xm_ws B kA sa su ph ++ [(B + ph.length, xm_ce B kA sa su c)] = xm_ws B kA sa su (ph ++ [c]) := by
  simp [xm_ws, List.mapIdx_append]
theorem xm_ws_D : va_D (fun q => B ≤ q) (xm_ws B kA sa su ph) := by
  refine ⟨fun i j p q hi hj hpq => ?_, fun k q hk => ?_⟩
  · obtain ⟨c, -, rfl⟩ := xm_ws_of hi
    obtain ⟨c', -, rfl⟩ := xm_ws_of hj
    have : B + i = B + j := hpq
    omega
  · obtain ⟨c, -, rfl⟩ := xm_ws_of hk
    exact Nat.le_add_right _ _
theorem xm_ws_len : (xm_ws B kA sa su ph).length = ph.length := by simp [xm_ws]
theorem xm_ws_lt {D : va_G} {cl : List vw_C} {H : Heap} (hP : va_P D cl (xm_ws B kA sa su ph) H) (hB : B ≤ H.size) : B + ph.length ≤ H.size := by
  cases hn : ph.length with
  | zero => exact hB
  | succ n =>
    have hl : n < ph.length := by omega
    have h1 := vx_lt hP (xm_ws_at (B := B) (kA := kA) (sa := sa) (su := su) (List.getElem?_eq_getElem hl))
    have h2 : B + n < H.size := h1
    omega
end WS
-- ===== what no run changes =====
def xm_tys (kA : Nat → ClassId) : List (ClassId × FieldType) := [(kA 0, .int), (kA 1, .byte), (kA 2, .long), (kA 3, .boolean), (kA 4, .object RX6), (kA 5, .object RX12), (kA 6, .array .int)]
def xm_sr : List (String × Nat × String) := [("BranchCourier", 91, "length out of range"), ("BranchCourier$LibraryText", 15, "branches"), ("BranchCourier$LibraryText", 66, "van"), ("BranchCourier$LibraryText", 97, "book"), ("BranchCourier$LibraryText", 47, "hold"), ("BranchCourier$LibraryText", 102, "ask"), ("BranchCourier", 356, "no such book"), ("BranchCourier", 362, "no such number"), ("BranchCourier", 360, "no such branch"), ("BranchCourier", 358, "no such van"), ("BranchCourierLaw", 60, "branches "), ("BranchCourierLaw", 69, ";"), ("BranchCourierLaw", 78, "van "), ("BranchCourierLaw", 97, "book "), ("BranchCourierLaw", 102, "hold "), ("BranchCourierLaw", 110, "ask "), ("BranchCourierLaw", 127, "@"), ("BranchCourierLaw", 129, ">"), ("BranchCourierLaw", 131, "!"), ("BranchCourierLaw", 133, "-"), ("BranchCourierLaw", 135, "?"), ("BranchCourier", 227, "no such request"), ("BranchCourier", 203, "not so many books in the van"), ("BranchCourier", 364, "number out of range"), ("BranchCourier", 200, "no such stop"), ("BranchCourierLaw", 303, "branches 4;van 9 0 1 2;van 1 2 3;book 0;book 3;ask 0 1 3;ask 0 2 1;")]
/-- the private methods of AbstractStringBuilder, called on a StringBuilder -/
def xm_prv : List MethodName := [⟨"java/lang/AbstractStringBuilder", "ensureCapacityInternal", "(I)V"⟩, ⟨"java/lang/AbstractStringBuilder", "newCapacity", "(I)I"⟩, ⟨"java/lang/AbstractStringBuilder", "putStringAt", "(ILjava/lang/String;)V"⟩, ⟨"java/lang/AbstractStringBuilder", "inflateIfNeededFor", "(Ljava/lang/String;)V"⟩]
def xm_selP : List Cond := xm_prv.map fun x => Cond.selects "java/lang/StringBuilder" x x
def xm_tbl : List Cond := xm_selP ++ lw_tbl
def xm_gw : List Cond := xm_tbl.filter goodWord
def xm_isBad (w : Cond) : Bool := match w with
  | .declares _ => true
  | .castable _ _ => true
  | .fieldLinkNest .. => true
  | .methodLinkNest _ _ _ _ => true
  | _ => false
def xm_bw : List Cond := xm_tbl.filter xm_isBad
theorem xm_idx_bare (vm : Vm) (comp : ClassId) : (vm.bare.classes.findIdx? fun (x : Class) => match x.kind with | .array component _ => component == comp | _ => false) = (vm.classes.findIdx? fun (x : Class) => match x.kind with | .array component _ => component == comp | _ => false) := by
  simp only [Vm.bare, Array.findIdx?_map]
  rfl
def xm_AOA (U : State) : Prop := (Cond.arrayOver (.array .int)).before #[] U = true
theorem xm_AOA.moved {u U : State} (hvm : u.vm.Alike U.vm) (h : xm_AOA u) : xm_AOA U := by
  obtain ⟨comp, c, k, h1, h2, h3, h4, h5⟩ := arrayOverA_spec h
  obtain ⟨k', hk', he⟩ := hvm.2.2 _ _ h3
  have hi : (U.vm.classes.findIdx? fun (x : Class) => match x.kind with | .array component _ => component == comp | _ => false) = some c := by
    rw [← xm_idx_bare]
    first | rw [hvm.bare_eq] | rw [← hvm.bare_eq]
    rw [xm_idx_bare]
    exact h2
  have hkind : k'.kind = .array comp (.array .int) := by rw [he]; exact h4
  have f1 : U.vm.findClass (FieldType.array .int).toString = some comp := by rw [hvm.findClass]; exact h1
  have f2 : U.vm.findClass ("[" ++ (FieldType.array .int).toString) = some c := by rw [hvm.findClass]; exact h5
  unfold xm_AOA Cond.before Cond.holds
  simp only [Cond.value]
  rw [f1, Option.bind_some]
  refine (congrArg (fun o : Option Nat => (o.bind (fun c => (U.vm.classes[c]?).map fun (k : Class) => match k.kind with | .array _ ty => decide (ty = FieldType.array .int) && decide (U.vm.findClass ("[" ++ (FieldType.array .int).toString) = some c) | _ => false) == some true)) hi).trans ?_
  simp [hk', hkind, f2]
def xm_Kn (B : Nat) (D : va_G) (kA : Nat → ClassId) (sa : Nat → Nat) (su : Value) (sc : xm_Sc) (U : State) : Prop :=
  va_K D vwCl (xm_tys kA) U ∧ (∀ (k : Nat) (q : String × Nat × String), xm_sr[k]? = some q → vk_R q.1 q.2.1 q.2.2 (sa k) U) ∧
  (∀ k, k < 26 → va_O RJ0 (sa k) (fun q => B ≤ q) U U.heap ∧ va_OF RJ0 "coder" "B" (.int 0) (sa k) (fun q => B ≤ q) U U.heap ∧ va_OF RJ0 "value" "[B" (.ref (sa (k + 1000))) (sa k) (fun q => B ≤ q) U U.heap ∧ va_T .byte (sa (k + 1000)) (xm_str k).length (fun j => .int ((xm_str k).getD j 0)) (fun q => B ≤ q) U U.heap) ∧
  va_Z RJ0 "COMPACT_STRINGS" "Z" (.int 1) (fun q => B ≤ q) U U.heap ∧ va_Z RJ3 "SIOOBE_FORMATTER" "Ljava/util/function/BiFunction;" su (fun q => B ≤ q) U U.heap ∧
  vx_Zq Bundle.tN "UNASSIGNED_STACK" Bundle.steD (fun q => B ≤ q) U U.heap ∧ vx_Zq Bundle.tN "SUPPRESSED_SENTINEL" Bundle.listD (fun q => B ≤ q) U U.heap ∧
  (va_X (sa 5000) sc.1 sc.2 U U.heap ∧ sa 5000 < B) ∧ (∀ w ∈ xm_bw, va_Nw w U) ∧ True ∧ va_AO RX6 U ∧ (va_AO RX12 U ∧ xm_AOA U ∧ va_Z RJ6 "DigitOnes" "[B" (.ref (sa 1026)) (fun q => B ≤ q) U U.heap ∧ va_T .byte (sa 1026) (xm_str 26).length (fun j => .int ((xm_str 26).getD j 0)) (fun q => B ≤ q) U U.heap) ∧ B ≤ U.heap.size
theorem xm_bw_warm {s U : State} (hW : s.WarmedH U.vm) {w : Cond} (hw : w ∈ xm_bw) (h : va_Nw w s) : va_Nw w U := by
  have h1 : xm_isBad w = true := (List.mem_filter.mp hw).2
  cases w <;> first | (cases h1; done) | exact va_Nw.warmD hW h | exact va_Nw.warmF hW h | exact va_Nw.warmC hW h | exact va_Nw.warmM hW h
theorem xm_Kn.to {B : Nat} {D : va_G} {kA : Nat → ClassId} {sa : Nat → Nat} {su : Value} {sc : xm_Sc} {s U : State} {locs : List Loc} (h : xm_Kn B D kA sa su sc s) (hW : s.WarmedH U.vm) (hS : va_S (fun q => B ≤ q) s.heap U.heap locs) : xm_Kn B D kA sa su sc U := by
  obtain ⟨h1, h2, h3, h4, h5, h6, h7, ⟨h8, h9⟩, h10, h11, h12, h13, h14⟩ := h
  have ha := hW.alike
  have hq : ∀ a : Nat, a < s.heap.size → ¬ (B ≤ a) → U.heap[a]? = s.heap[a]? := hS.2.1
  refine ⟨h1.moved ha, fun k q hk => (h2 k q hk).warm hW, fun k hk => ?_, (h4.kept hq).moved ha, (h5.kept hq).moved ha, (h6.kept hq).moved ha, (h7.kept hq).moved ha, ⟨(h8.kept (hq _ (by omega) (by omega))).moved ha, h9⟩, fun w hw => xm_bw_warm hW hw (h10 w hw), trivial, h12.moved ha, ⟨h13.1.moved ha, h13.2.1.moved ha, (h13.2.2.1.kept hq).moved ha, (h13.2.2.2.kept hq).moved ha⟩, Nat.le_trans h14 hS.1⟩
  obtain ⟨g1, g2, g3, g4⟩ := h3 k hk
  exact ⟨(g1.kept hq).moved ha, (g2.kept hq).moved ha, (g3.kept hq).moved ha, (g4.kept hq).moved ha⟩
theorem xm_Kn.calling {B : Nat} {D : va_G} {kA : Nat → ClassId} {sa : Nat → Nat} {su : Value} {sc : xm_Sc} {U : State} (h : xm_Kn B D kA sa su sc U) (g : JFrame) (mk : MethodId) (a : Array Value) : xm_Kn B D kA sa su sc (U.calling g mk a) :=
  h.to (U := U.calling g mk a) (State.WarmedH.refl U) (locs := []) va_S.rf
-- ===== locals =====
def xm_LR (B : Nat) (sa : Nat → Nat) (su : Value) (ls : List Value) (lsR : Array Slot) : Prop :=
  lsR.size = ls.length ∧ lv_wf lsR ∧ ∀ (i : Nat) (v : Value), ls[i]? = some v → v ≠ .null → (v.category = 2 → ls[i + 1]? = some .null) → lsR[i]? = some (.val (xm_mv B sa su v))
def xm_lv (B : Nat) (sa : Nat → Nat) (su : Value) (ls : List Value) : List (Nat × Value) := (List.range ls.length).filterMap fun i => match ls[i]? with
  | some v => if v = .null ∨ (v.category = 2 ∧ ¬ ls[i + 1]? = some .null) then none else some (i, xm_mv B sa su v)
  | none => none
section LR
variable {B : Nat} {sa : Nat → Nat} {su : Value} {ls : List Value} {lsR : Array Slot}
theorem xm_lv_mem {q : Nat × Value} : q ∈ xm_lv B sa su ls ↔ ∃ v, ls[q.1]? = some v ∧ v ≠ .null ∧ (v.category = 2 → ls[q.1 + 1]? = some .null) ∧ q.2 = xm_mv B sa su v := by
  unfold xm_lv
  rw [List.mem_filterMap]
  constructor
  · rintro ⟨i, hi, h⟩
    cases hv : ls[i]? with
    | none => rw [hv] at h; cases h
    | some v =>
      rw [hv] at h
      dsimp only at h
      split at h
      · cases h
      · next hc =>
        cases h
        exact ⟨v, hv, fun e => hc (Or.inl e), fun e => Classical.byContradiction fun z => hc (Or.inr ⟨e, z⟩), rfl⟩
  · rintro ⟨v, h1, h2, h3, h4⟩
    refine ⟨q.1, ?_, ?_⟩
    · rw [List.mem_range]
      exact (List.getElem?_eq_some_iff.mp h1).1
    · rw [h1]
      dsimp only
      rw [if_neg (by rintro (e | ⟨e, z⟩) <;> first | exact h2 e | exact z (h3 e)), ← h4]
theorem xm_LR.has (h : xm_LR B sa su ls lsR) : lv_has lsR ls.length (xm_lv B sa su ls) :=
  ⟨h.1, h.2.1, fun q hq => by
    obtain ⟨v, h1, h2, h3, h4⟩ := xm_lv_mem.mp hq
    rw [h4]
    exact h.2.2 q.1 v h1 h2 h3⟩
theorem xm_mv_cat (hsu : su.category = 1) (v : Value) : (xm_mv B sa su v).category = v.category := by
  cases v with
  | retAddr k =>
    show (if k = 9999 then su else Value.ref (sa k)).category = 1
    split
    · exact hsu
    · rfl
  | _ => rfl
theorem xm_LR.set1 (hsu : su.category = 1) {i : Nat} {v : Value} {ls' : Array Slot} (hi : i < ls.length) (hc : v.category = 1) (hv : v ≠ .null)
    (h' : lv_has ls' ls.length ((i, xm_mv B sa su v) :: (xm_lv B sa su ls).filter (fun q => !(q.1 == i) && !(q.1 + 1 == i && q.2.category == 2)))) : xm_LR B sa su (ls.set i v) ls' := by
  refine ⟨by rw [h'.1, List.length_set], h'.2.1, fun j w hj hw hcat => ?_⟩
  by_cases e : j = i
  · subst e
    rw [List.getElem?_set_self hi] at hj
    cases hj
    exact h'.2.2 _ List.mem_cons_self
  · rw [List.getElem?_set_ne (Ne.symm e)] at hj
    have hne : w.category = 2 → j + 1 ≠ i := fun h2 e2 => by
      have := hcat h2
      rw [e2, List.getElem?_set_self hi] at this
      exact hv (Option.some.inj this)
    refine h'.2.2 (j, xm_mv B sa su w) (List.mem_cons_of_mem _ (List.mem_filter.mpr ⟨xm_lv_mem.mpr ⟨w, hj, hw, fun h2 => ?_, rfl⟩, ?_⟩))
    · have := hcat h2
      rwa [List.getElem?_set_ne (Ne.symm (hne h2))] at this
    · simp only [xm_mv_cat hsu, Bool.and_eq_true, Bool.not_eq_true', beq_eq_false_iff_ne, ne_eq, Bool.and_eq_false_iff]
      refine ⟨e, ?_⟩
      by_cases h2 : w.category = 2
      · exact Or.inl (hne h2)
      · exact Or.inr h2
theorem xm_LR.set2 (hsu : su.category = 1) {i : Nat} {v : Value} {ls' : Array Slot} (hi : i + 1 < ls.length) (hv : v ≠ .null)
    (h' : lv_has ls' ls.length ((i, xm_mv B sa su v) :: (xm_lv B sa su ls).filter (fun q => !(q.1 == i) && (!(q.1 == i + 1) && !(q.1 + 1 == i && q.2.category == 2))))) : xm_LR B sa su ((ls.set i v).set (i + 1) .null) ls' := by
  refine ⟨by rw [h'.1, List.length_set, List.length_set], h'.2.1, fun j w hj hw hcat => ?_⟩
  have hl1 : i + 1 < (ls.set i v).length := by rw [List.length_set]; exact hi
  by_cases e1 : j = i + 1
  · subst e1
    rw [List.getElem?_set_self hl1] at hj
    cases hj
    exact absurd rfl hw
  · rw [List.getElem?_set_ne (Ne.symm e1)] at hj
    by_cases e : j = i
    · subst e
      rw [List.getElem?_set_self (by omega)] at hj
      cases hj
      exact h'.2.2 _ List.mem_cons_self
    · rw [List.getElem?_set_ne (Ne.symm e)] at hj
      have hne : w.category = 2 → j + 1 ≠ i := fun h2 e2 => by
        have := hcat h2
        rw [List.getElem?_set_ne (by omega), e2, List.getElem?_set_self (by omega)] at this
        exact hv (Option.some.inj this)
      refine h'.2.2 (j, xm_mv B sa su w) (List.mem_cons_of_mem _ (List.mem_filter.mpr ⟨xm_lv_mem.mpr ⟨w, hj, hw, fun h2 => ?_, rfl⟩, ?_⟩))
      · have := hcat h2
        rwa [List.getElem?_set_ne (by omega), List.getElem?_set_ne (Ne.symm (hne h2))] at this
      · simp only [xm_mv_cat hsu, Bool.and_eq_true, Bool.not_eq_true', beq_eq_false_iff_ne, ne_eq, Bool.and_eq_false_iff]
        refine ⟨e, e1, ?_⟩
        by_cases h2 : w.category = 2
        · exact Or.inl (hne h2)
        · exact Or.inr h2
/-- nothing of two words among the locals: a store that nobody reads -/
theorem xm_LR.set0 (hsu : su.category = 1) {i : Nat} {a : Nat} {ls' : Array Slot} (hi : i < ls.length) (hall : ls.all (fun v => v.category == 1) = true)
    (h' : lv_has ls' ls.length ((i, .ref a) :: (xm_lv B sa su ls).filter (fun q => !(q.1 == i) && !(q.1 + 1 == i && q.2.category == 2)))) : xm_LR B sa su (ls.set i .null) ls' := by
  refine ⟨by rw [h'.1, List.length_set], h'.2.1, fun j w hj hw hcat => ?_⟩
  by_cases e : j = i
  · subst e
    rw [List.getElem?_set_self hi] at hj
    cases hj
    exact absurd rfl hw
  · rw [List.getElem?_set_ne (Ne.symm e)] at hj
    have hc1 : w.category = 1 := by simpa using List.all_eq_true.mp hall w (List.mem_of_getElem? hj)
    refine h'.2.2 (j, xm_mv B sa su w) (List.mem_cons_of_mem _ (List.mem_filter.mpr ⟨xm_lv_mem.mpr ⟨w, hj, hw, fun h2 => by omega, rfl⟩, ?_⟩))
    simp only [xm_mv_cat hsu, Bool.and_eq_true, Bool.not_eq_true', beq_eq_false_iff_ne, ne_eq, Bool.and_eq_false_iff]
    exact ⟨e, Or.inr (by omega)⟩
theorem xm_entry_LR (hsu : su.category = 1) {n : Nat} {as : List Value} (hn : (lg_sl (as.map (xm_mv B sa su))).length ≤ n) : xm_LR B sa su (xm_entry n as) ((lg_sl (as.map (xm_mv B sa su)) ++ List.replicate (n - (lg_sl (as.map (xm_mv B sa su))).length) Slot.unset).toArray) := by
  have hz : ∀ as : List Value, (lg_sl (as.map (xm_mv B sa su))).length = (as.flatMap (fun v => if v.category = 2 then [v, .null] else [v])).length := by
    intro as
    induction as with
    | nil => rfl
    | cons a l ih =>
      simp only [lg_sl, List.map_cons, List.flatMap_cons, List.length_append] at ih ⊢
      rw [ih, xm_mv_cat hsu]
      split <;> rfl
  have hat : ∀ (as : List Value) (i : Nat) (v : Value), (as.flatMap (fun v => if v.category = 2 then [v, Value.null] else [v]))[i]? = some v → v ≠ .null → (lg_sl (as.map (xm_mv B sa su)))[i]? = some (.val (xm_mv B sa su v)) := by
    intro as
    induction as with
    | nil => intro i v h; simp at h
    | cons a l ih =>
      intro i v h hv
      simp only [lg_sl, List.map_cons, List.flatMap_cons] at h ⊢
      rw [xm_mv_cat hsu]
      by_cases hc : a.category = 2
      · rw [if_pos hc] at h ⊢
        match i, h with
        | 0, h => simp at h; rw [← h]; rfl
        | 1, h => simp at h; exact absurd h.symm hv
        | i + 2, h => simpa [lg_sl] using ih i v (by simpa using h) hv
      · rw [if_neg hc] at h ⊢
        match i, h with
        | 0, h => simp at h; rw [← h]; rfl
        | i + 1, h => simpa [lg_sl] using ih i v (by simpa using h) hv
  refine ⟨?_, (lv_entry (as.map (xm_mv B sa su)) hn).2.1, fun i v hi hv _ => ?_⟩
  · rw [(lv_entry (as.map (xm_mv B sa su)) hn).1, xm_entry, List.length_append, List.length_replicate, ← hz]
    omega
  · rw [xm_entry] at hi
    by_cases hl : i < (as.flatMap (fun v => if v.category = 2 then [v, Value.null] else [v])).length
    · rw [List.getElem?_append_left hl] at hi
      have h1 := hat as i v hi hv
      rw [List.getElem?_toArray, List.getElem?_append_left (by rw [hz]; exact hl)]
      exact h1
    · rw [List.getElem?_append_right (by omega), List.getElem?_replicate] at hi
      split at hi
      · cases hi; exact absurd rfl hv
      · cases hi
end LR
