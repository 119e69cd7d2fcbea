/-! THE ENTRY: what is known at the law's start; the law's walk out of one run of the pure machine. -/
def xe_tm (k : Nat) : Term := match xm_sr[k]? with
  | some q => .string q.1 q.2.1
  | none => .string "" 0
def xe_v (k : Nat) : Term := .field (xe_tm k) "java/lang/String" "value" "[B"
def xe_sc (k : Nat) : List Cond := [.exactly (xe_tm k) "java/lang/String", .eq (.field (xe_tm k) "java/lang/String" "coder" "B") (.int 0), .arrayOf (xe_v k) .byte, .eq (.length (xe_v k)) (.int (Int32.ofNat (xm_str k).length))] ++
  (List.range (xm_str k).length).map fun j => .eq (.elem (xe_v k) (.int (Int32.ofNat j))) (.int ((xm_str k).getD j 0))
theorem xe_in_0 : ((flatC (Jvm.Cond.and given_1 narrow_1)).drop 245).take 23 = xe_sc 0 := by decide +kernel
theorem xe_in_1 : ((flatC (Jvm.Cond.and given_1 narrow_1)).drop 268).take 12 = xe_sc 1 := by decide +kernel
theorem xe_in_2 : ((flatC (Jvm.Cond.and given_1 narrow_1)).drop 280).take 7 = xe_sc 2 := by decide +kernel
theorem xe_in_3 : ((flatC (Jvm.Cond.and given_1 narrow_1)).drop 287).take 8 = xe_sc 3 := by decide +kernel
theorem xe_in_4 : ((flatC (Jvm.Cond.and given_1 narrow_1)).drop 295).take 8 = xe_sc 4 := by decide +kernel
theorem xe_in_5 : ((flatC (Jvm.Cond.and given_1 narrow_1)).drop 303).take 7 = xe_sc 5 := by decide +kernel
theorem xe_in_6 : ((flatC (Jvm.Cond.and given_1 narrow_1)).drop 310).take 16 = xe_sc 6 := by decide +kernel
theorem xe_in_7 : ((flatC (Jvm.Cond.and given_1 narrow_1)).drop 326).take 18 = xe_sc 7 := by decide +kernel
theorem xe_in_8 : ((flatC (Jvm.Cond.and given_1 narrow_1)).drop 344).take 18 = xe_sc 8 := by decide +kernel
theorem xe_in_9 : ((flatC (Jvm.Cond.and given_1 narrow_1)).drop 362).take 15 = xe_sc 9 := by decide +kernel
theorem xe_in_10 : ((flatC (Jvm.Cond.and given_1 narrow_1)).drop 377).take 13 = xe_sc 10 := by decide +kernel
theorem xe_in_11 : ((flatC (Jvm.Cond.and given_1 narrow_1)).drop 390).take 5 = xe_sc 11 := by decide +kernel
theorem xe_in_12 : ((flatC (Jvm.Cond.and given_1 narrow_1)).drop 395).take 8 = xe_sc 12 := by decide +kernel
theorem xe_in_13 : ((flatC (Jvm.Cond.and given_1 narrow_1)).drop 403).take 9 = xe_sc 13 := by decide +kernel
theorem xe_in_14 : ((flatC (Jvm.Cond.and given_1 narrow_1)).drop 412).take 9 = xe_sc 14 := by decide +kernel
theorem xe_in_15 : ((flatC (Jvm.Cond.and given_1 narrow_1)).drop 421).take 8 = xe_sc 15 := by decide +kernel
theorem xe_in_16 : ((flatC (Jvm.Cond.and given_1 narrow_1)).drop 429).take 5 = xe_sc 16 := by decide +kernel
theorem xe_in_17 : ((flatC (Jvm.Cond.and given_1 narrow_1)).drop 434).take 5 = xe_sc 17 := by decide +kernel
theorem xe_in_18 : ((flatC (Jvm.Cond.and given_1 narrow_1)).drop 439).take 5 = xe_sc 18 := by decide +kernel
theorem xe_in_19 : ((flatC (Jvm.Cond.and given_1 narrow_1)).drop 444).take 5 = xe_sc 19 := by decide +kernel
theorem xe_in_20 : ((flatC (Jvm.Cond.and given_1 narrow_1)).drop 449).take 5 = xe_sc 20 := by decide +kernel
theorem xe_in_21 : ((flatC (Jvm.Cond.and given_1 narrow_1)).drop 454).take 19 = xe_sc 21 := by decide +kernel
theorem xe_in_22 : ((flatC (Jvm.Cond.and given_1 narrow_1)).drop 473).take 32 = xe_sc 22 := by decide +kernel
theorem xe_in_23 : ((flatC (Jvm.Cond.and given_1 narrow_1)).drop 505).take 23 = xe_sc 23 := by decide +kernel
theorem xe_in_24 : ((flatC (Jvm.Cond.and given_1 narrow_1)).drop 528).take 16 = xe_sc 24 := by decide +kernel
theorem xe_in_25 : ((flatC (Jvm.Cond.and given_1 narrow_1)).drop 544).take 71 = xe_sc 25 := by decide +kernel
theorem xe_sc_in : ∀ k, k < 26 → ∀ w ∈ xe_sc k, w ∈ flatC (Jvm.Cond.and given_1 narrow_1) := by
  have key : ∀ (L M : List Cond) (a n : Nat), (L.drop a).take n = M → ∀ w ∈ M, w ∈ L := fun L M a n h w hw => by
    rw [← h] at hw
    exact List.mem_of_mem_drop (List.mem_of_mem_take hw)
  intro k hk
  match k, hk with
  | 0, _ => exact key _ _ _ _ xe_in_0
  | 1, _ => exact key _ _ _ _ xe_in_1
  | 2, _ => exact key _ _ _ _ xe_in_2
  | 3, _ => exact key _ _ _ _ xe_in_3
  | 4, _ => exact key _ _ _ _ xe_in_4
  | 5, _ => exact key _ _ _ _ xe_in_5
  | 6, _ => exact key _ _ _ _ xe_in_6
  | 7, _ => exact key _ _ _ _ xe_in_7
  | 8, _ => exact key _ _ _ _ xe_in_8
  | 9, _ => exact key _ _ _ _ xe_in_9
  | 10, _ => exact key _ _ _ _ xe_in_10
  | 11, _ => exact key _ _ _ _ xe_in_11
  | 12, _ => exact key _ _ _ _ xe_in_12
  | 13, _ => exact key _ _ _ _ xe_in_13
  | 14, _ => exact key _ _ _ _ xe_in_14
  | 15, _ => exact key _ _ _ _ xe_in_15
  | 16, _ => exact key _ _ _ _ xe_in_16
  | 17, _ => exact key _ _ _ _ xe_in_17
  | 18, _ => exact key _ _ _ _ xe_in_18
  | 19, _ => exact key _ _ _ _ xe_in_19
  | 20, _ => exact key _ _ _ _ xe_in_20
  | 21, _ => exact key _ _ _ _ xe_in_21
  | 22, _ => exact key _ _ _ _ xe_in_22
  | 23, _ => exact key _ _ _ _ xe_in_23
  | 24, _ => exact key _ _ _ _ xe_in_24
  | 25, _ => exact key _ _ _ _ xe_in_25
  | _ + 26, h => omega
def xe_dg : Term := .static RJ6 "DigitOnes" "[B"
def xe_ds : List Cond := [.isRef xe_dg, .arrayOf xe_dg .byte, .eq (.length xe_dg) (.int 100)] ++ (List.range 100).map fun j => .eq (.elem xe_dg (.int (Int32.ofNat j))) (.int ((xm_str 26).getD j 0))
theorem xe_dn : ((flatC (Jvm.Cond.and given_1 narrow_1)).drop 11).take 103 = xe_ds := by decide +kernel
theorem xe_ds_in : ∀ w ∈ xe_ds, w ∈ flatC (Jvm.Cond.and given_1 narrow_1) := fun w hw => by
  rw [← xe_dn] at hw
  exact List.mem_of_mem_drop (List.mem_of_mem_take hw)
theorem xe_dl : (xm_str 26).length = 100 := by decide +kernel
theorem xm_w_lw {e : Nat} {w : Cond} (h : xm_w e = some w) (he : e / 1000 ≠ 9) : w ∈ lw_tbl := by
  have key : ∀ (l : List Cond) (i : Nat), l[i]? = some w → w ∈ l := fun l i h => List.mem_of_getElem? h
  unfold xm_w at h
  unfold lw_tbl tables_1
  simp only [List.mem_append]
  split at h <;> first | (cases h; done) | (next h9 => exact absurd h9 he) | (have := key _ _ h; simp [this])
theorem xm_selP_one {args : Array Value} {s : State} {x : MethodName} (hi : (Cond.selects "java/lang/StringBuilder" ⟨"java/lang/AbstractStringBuilder", "isLatin1", "()Z"⟩ ⟨"java/lang/AbstractStringBuilder", "isLatin1", "()Z"⟩).before args s = true) (hx : x.cls = "java/lang/AbstractStringBuilder")
    (hpriv : (Cond.privateMethod x).before args s = true) (hinst : (Cond.instanceMethod x).before args s = true) : (Cond.selects "java/lang/StringBuilder" x x).before args s = true := by
  obtain ⟨c, r, m, hc, hr, hm, hsel, mk, hmk, hni⟩ := Cond.selects_spec hi
  obtain ⟨mk', methM, hnamed, hmethM, -, -⟩ := Cond.instanceMethod_spec hinst
  have hfound := State.methodFound?_of_named hnamed (by rw [hx]; exact ⟨by decide, by decide⟩)
  have h1 := findClass_of_methodNamed hnamed
  have h2 := findClass_of_methodNamed hm
  rw [hx] at h1
  have hcls : mk'.cls = m.cls := Option.some.inj (h1.symm.trans h2)
  have hs2 : selectMethod {} s.vm c mk' = .method mk' := selectMethod_private hmethM (Cond.privateMethod_at hpriv mk' methM hnamed hmethM)
  simp only [Cond.before, Cond.holds, Cond.value, hc, hfound, hnamed, hs2, hcls, hmk]
  simp
  exact hni
theorem xm_htbl {args : Array Value} {s : State} (hts : ∀ w ∈ lw_tbl, w.before args s = true) : ∀ w ∈ xm_tbl, w.before args s = true := by
  intro w hw
  rcases List.mem_append.mp hw with hw | hw
  · obtain ⟨x, hx, rfl⟩ := List.mem_map.mp hw
    have hL := hts _ (xm_w_lw (e := 5058) (w := Cond.selects "java/lang/StringBuilder" ⟨"java/lang/AbstractStringBuilder", "isLatin1", "()Z"⟩ ⟨"java/lang/AbstractStringBuilder", "isLatin1", "()Z"⟩) (by decide +kernel) (by decide))
    have key : ∀ y ∈ xm_prv, y.cls = "java/lang/AbstractStringBuilder" ∧ Cond.privateMethod y ∈ lw_tbl ∧ Cond.instanceMethod y ∈ lw_tbl := by
      decide +kernel
    obtain ⟨k1, k2, k3⟩ := key x hx
    exact xm_selP_one hL k1 (hts _ k2) (hts _ k3)
  · exact hts w hw
theorem xe_sr_in : (List.range 26).all (fun k => match xm_sr[k]? with
  | some q => decide (Cond.stringRef q.1 q.2.1 q.2.2 ∈ xm_tbl) && decide ((xm_str k).length < 2 ^ 31)
  | none => false) = true := by decide +kernel
theorem xe_sr_len : xm_sr.length = 26 := by decide +kernel
theorem xe_words : Cond.arrayClass .int ∈ xm_gw ∧ Cond.arrayClass .byte ∈ xm_gw ∧ Cond.arrayClass .boolean ∈ xm_gw ∧ Cond.arrayClass .long ∈ xm_gw ∧ Cond.arrayOver (.object RX6) ∈ xm_tbl ∧ Cond.arrayOver (.object RX12) ∈ xm_tbl ∧ Cond.arrayOver (.array .int) ∈ xm_tbl :=
  ⟨xm_w_gw (e := 1090) (by decide +kernel) rfl, xm_w_gw (e := 2042) (by decide +kernel) rfl, xm_w_gw (e := 4220) (by decide +kernel) rfl, xm_w_gw (e := 7055) (by decide +kernel) rfl, xm_w_mem (e := 2067) (by decide +kernel), xm_w_mem (e := 4182) (by decide +kernel), xm_w_mem (e := 4180) (by decide +kernel)⟩
theorem xe_statics : Cond.laysStatic RJ0 "COMPACT_STRINGS" "Z" ∈ xm_tbl ∧ Cond.laysStatic RJ3 "SIOOBE_FORMATTER" "Ljava/util/function/BiFunction;" ∈ xm_tbl ∧ Cond.laysStatic Bundle.tN "UNASSIGNED_STACK" Bundle.steD ∈ xm_tbl ∧ Cond.laysStatic Bundle.tN "SUPPRESSED_SENTINEL" Bundle.listD ∈ xm_tbl ∧
    Cond.initialized RJ0 ∈ xm_tbl ∧ Cond.initialized RJ3 ∈ xm_tbl ∧ Cond.initialized Bundle.tN ∈ xm_tbl ∧ Cond.laysStatic RJ6 "DigitOnes" "[B" ∈ xm_tbl ∧ Cond.initialized RJ6 ∈ xm_tbl := by
  refine ⟨by decide +kernel, by decide +kernel, by decide +kernel, by decide +kernel, by decide +kernel, by decide +kernel, by decide +kernel, by decide +kernel, by decide +kernel⟩
theorem xe_known {p : Program} {s : State} {m : MethodId} {meth : Method} {c : Code} {b L : Nat} {xs : Nat → Int32} (hts0 : ∀ w ∈ lw_tbl, w.before #[Value.ref b] s = true) (hX : va_X b L xs s s.heap) (hbl : b < s.heap.size) (hgv : (Jvm.Cond.and given_1 narrow_1).before #[Value.ref b] s = true) :
    ∃ (D : va_G) (kA : Nat → ClassId) (sa : Nat → Nat) (su : Value), xm_Kn s.heap.size D kA sa su (L, xs) s ∧ su.category = 1 ∧ sa 5000 = b := by
  have hs := flat_of_before _ hgv
  have hts := xm_htbl hts0
  have hgw : ∀ w ∈ xm_gw, w.before #[Value.ref b] s = true := fun w hw => hts w (List.mem_filter.mp hw).1
  have hA : ∀ a : Nat, a < s.heap.size → ¬ (fun q : Nat => s.heap.size ≤ q) a := fun a h h2 => by
    have h2 : s.heap.size ≤ a := h2
    omega
  -- the classes
  have h1 : ∀ k : Nat, ∃ x : ClassId × (Nat → Nat), ∀ q : vw_C, vwCl[k]? = some q → u_Kn s q.1 q.2.1 q.2.2 x.1 x.2 := by
    intro k
    cases hq : vwCl[k]? with
    | none => exact ⟨(0, fun _ => 0), fun q h => nomatch h⟩
    | some r =>
      have hcl := xm_cl_ok r (List.mem_of_getElem? hq)
      obtain ⟨cC, iS, h⟩ := u_known (n := r.2.2) hts (fun w hw => (hcl.2.2.1 w hw).1) (hts _ hcl.2.2.2.1)
      exact ⟨(cC, iS), fun q h9 => by cases h9; exact h⟩
  obtain ⟨dd, hdd⟩ := Classical.axiomOfChoice h1
  -- the arrays
  have hprim : ∀ ty : FieldType, Cond.arrayClass ty ∈ xm_gw → (∀ C, ty ≠ .object C) → ∃ cA, ArrOfT s cA ty ∧ va_RA s cA ty := by
    intro ty hw hno
    obtain ⟨cA, k, comp, f1, f2, f3⟩ := Cond.arrayClass_spec (hgw _ hw)
    refine ⟨cA, fun n z => ⟨fun k h => (by cases h), k, f2, comp, f3⟩, ?_⟩
    cases ty <;> first | exact f1 | exact absurd rfl (hno _)
  have hobj : ∀ C : String, Cond.arrayOver (.object C) ∈ xm_tbl → ∃ cA, ArrOfT s cA (.object C) ∧ va_RA s cA (.object C) := by
    intro C hw
    obtain ⟨comp, cA, k, f1, f2, f3, f4, f5⟩ := Cond.arrayOver_spec (hts _ hw)
    exact ⟨cA, fun n z => ⟨fun k h => (by cases h), k, f3, comp, f4⟩, k, comp, f3, f4, f1, f5⟩
  obtain ⟨wi, wb, wz, wl, wS, wT, wA⟩ := xe_words
  obtain ⟨k0, e0⟩ := hprim .int wi (fun C h => by cases h)
  obtain ⟨k1, e1⟩ := hprim .byte wb (fun C h => by cases h)
  obtain ⟨k2, e2⟩ := hprim .long wl (fun C h => by cases h)
  obtain ⟨k3, e3⟩ := hprim .boolean wz (fun C h => by cases h)
  obtain ⟨k4, e4⟩ := hobj RX6 wS
  obtain ⟨k5, e5⟩ := hobj RX12 wT
  obtain ⟨k6, e6⟩ : ∃ cA, ArrOfT s cA (.array .int) ∧ va_RA s cA (.array .int) := by
    obtain ⟨comp, cA, k, f1, f2, f3, f4, f5⟩ := arrayOverA_spec (hts _ wA)
    exact ⟨cA, fun n z => ⟨fun k h => (by cases h), k, f3, comp, f4⟩, f5⟩
  -- the texts
  have h2 : ∀ k : Nat, ∃ x : Nat × Nat, k < 26 → (xe_tm k).eval #[Value.ref b] s none [] s = some (.ref x.1) ∧ va_O RJ0 x.1 (fun q => s.heap.size ≤ q) s s.heap ∧ va_OF RJ0 "coder" "B" (.int 0) x.1 (fun q => s.heap.size ≤ q) s s.heap ∧ va_OF RJ0 "value" "[B" (.ref x.2) x.1 (fun q => s.heap.size ≤ q) s s.heap ∧ va_T .byte x.2 (xm_str k).length (fun j => .int ((xm_str k).getD j 0)) (fun q => s.heap.size ≤ q) s s.heap := by
    intro k
    by_cases hk : k < 26
    · have hc : ∀ w ∈ xe_sc k, w.before #[Value.ref b] s = true := fun w hw => hs w (xe_sc_in k hk w hw)
      have hl : (xm_str k).length < 2 ^ 31 := by
        have := List.all_eq_true.mp xe_sr_in k (List.mem_range.mpr hk)
        split at this
        · rw [Bool.and_eq_true] at this
          exact of_decide_eq_true this.2
        · cases this
      obtain ⟨aK, aV, hS, hev⟩ := vk_Sof (args := #[Value.ref b]) (s := s) (N := 1) (tm := fun _ => xe_tm k) (len := [(xm_str k).length]) (byt := [xm_str k]) (A := fun q => s.heap.size ≤ q)
        (fun i hi => by obtain rfl : i = 0 := by omega
                        exact hl)
        (fun i hi => hc _ (by simp [xe_sc])) (fun i hi => hc _ (by simp [xe_sc])) (fun i hi => hc _ (by simp [xe_sc, xe_v]))
        (fun i hi => by obtain rfl : i = 0 := by omega
                        exact hc _ (by simp [xe_sc, xe_v]))
        (fun i hi j hj => by obtain rfl : i = 0 := by omega
                             refine hc _ (List.mem_append_right _ (List.mem_map.mpr ⟨j, List.mem_range.mpr hj, rfl⟩)))
        (fun i j hi hj hij => absurd (show i = j by omega) hij) hA
      obtain ⟨q1, q2, q3, q4⟩ := hS.1 0 (by omega)
      exact ⟨(aK 0, aV 0), fun _ => ⟨hev 0 (by omega), q1, q2, q3, q4⟩⟩
    · exact ⟨(0, 0), fun h => absurd h hk⟩
  obtain ⟨ad, had⟩ := Classical.axiomOfChoice h2
  -- the statics
  obtain ⟨l1, l2, l3, l4, i1, i2, i3, l5, i5⟩ := xe_statics
  have hsu : ∃ su : Value, (Term.static RJ3 "SIOOBE_FORMATTER" "Ljava/util/function/BiFunction;").eval #[Value.ref b] s none [] s = some su ∧ su.category = 1 := by
    have h3 : (Cond.isRef (.static RJ3 "SIOOBE_FORMATTER" "Ljava/util/function/BiFunction;")).before #[Value.ref b] s = true := hs _ (by decide +kernel)
    simp only [Cond.before, Cond.holds, Cond.value] at h3
    cases hev : (Term.static RJ3 "SIOOBE_FORMATTER" "Ljava/util/function/BiFunction;").eval #[Value.ref b] s none [] s with
    | none => rw [hev] at h3; cases h3
    | some v => cases v <;> first | exact ⟨_, rfl, rfl⟩ | (rw [hev] at h3; cases h3)
  obtain ⟨su, hsu1, hsu2⟩ := hsu
  have hcs : (Term.static RJ0 "COMPACT_STRINGS" "Z").eval #[Value.ref b] s none [] s = some (.int 1) := va_eqt (hs _ (by decide +kernel))
  have hUS : (Cond.isRef (.static Bundle.tN "UNASSIGNED_STACK" Bundle.steD)).before #[Value.ref b] s = true := hs _ (by decide +kernel)
  have hSS : (Cond.isRef (.static Bundle.tN "SUPPRESSED_SENTINEL" Bundle.listD)).before #[Value.ref b] s = true := hs _ (by decide +kernel)
  obtain ⟨dg, hdg1, hdg2⟩ : ∃ dg : Nat, xe_dg.eval #[Value.ref b] s none [] s = some (.ref dg) ∧ va_T .byte dg (xm_str 26).length (fun j => .int ((xm_str 26).getD j 0)) (fun q => s.heap.size ≤ q) s s.heap := by
    have hc : ∀ w ∈ xe_ds, w.before #[Value.ref b] s = true := fun w hw => hs w (xe_ds_in w hw)
    rw [xe_dl]
    exact va_Tof (f := fun j => .int ((xm_str 26).getD j 0)) (by decide) (hc _ (by simp [xe_ds])) (va_eqt (hc (.eq (.length xe_dg) (.int 100)) (by simp [xe_ds]))) (fun j hj => va_eqt (hc _ (List.mem_append_right _ (List.mem_map.mpr ⟨j, List.mem_range.mpr hj, rfl⟩)))) hA
  refine ⟨(fun k => (dd k).1, fun k => (dd k).2), fun t => match t with
    | 0 => k0
    | 1 => k1
    | 2 => k2
    | 3 => k3
    | 4 => k4
    | 5 => k5
    | _ => k6, fun k => if k < 26 then (ad k).1 else if k < 1026 then (ad (k - 1000)).2 else if k < 2000 then dg else b, su, ?_, hsu2, rfl⟩
  refine ⟨⟨fun k q hq => hdd k q hq, fun k q hq => ?_⟩, fun k q hq => ?_, fun k hk => ?_, va_Zof (hts _ l1) (hts _ i1) hcs hA, va_Zof (hts _ l2) (hts _ i2) hsu1 hA, vx_Zqof (hts _ l3) (hts _ i3) hUS hA, vx_Zqof (hts _ l4) (hts _ i3) hSS hA, ⟨hX, hbl⟩,
    fun w hw => va_Nw.of (xm_bw_tab hw) (hts w (List.mem_filter.mp hw).1), trivial, hts _ wS, ⟨hts _ wT, hts _ wA, va_Zof (hts _ l5) (hts _ i5) hdg1 hA, hdg2⟩, Nat.le_refl _⟩
  · match k, hq with
    | 0, hq => cases hq; exact e0
    | 1, hq => cases hq; exact e1
    | 2, hq => cases hq; exact e2
    | 3, hq => cases hq; exact e3
    | 4, hq => cases hq; exact e4
    | 5, hq => cases hq; exact e5
    | 6, hq => cases hq; exact e6
    | _ + 7, hq => cases hq
  · have hk : k < 26 := by
      have := (List.getElem?_eq_some_iff.mp hq).1
      rw [xe_sr_len] at this
      exact this
    show vk_R q.1 q.2.1 q.2.2 (if k < 26 then (ad k).1 else if k < 1026 then (ad (k - 1000)).2 else if k < 2000 then dg else b) s
    rw [if_pos hk]
    have h3 := List.all_eq_true.mp xe_sr_in k (List.mem_range.mpr hk)
    rw [hq] at h3
    dsimp only at h3
    rw [Bool.and_eq_true] at h3
    have hev := (had k hk).1
    unfold xe_tm at hev
    rw [hq] at hev
    exact vk_R.of (hts _ (of_decide_eq_true h3.1)) hev
  · obtain ⟨-, g1, g2, g3, g4⟩ := had k hk
    have e1 : (if k < 26 then (ad k).1 else if k < 1026 then (ad (k - 1000)).2 else if k < 2000 then dg else b) = (ad k).1 := if_pos hk
    have e2 : (if k + 1000 < 26 then (ad (k + 1000)).1 else if k + 1000 < 1026 then (ad (k + 1000 - 1000)).2 else if k + 1000 < 2000 then dg else b) = (ad k).2 := by
      rw [if_neg (by omega), if_pos (by omega), show k + 1000 - 1000 = k by omega]
    dsimp only
    rw [e1, e2]
    exact ⟨g1, g2, g3, g4⟩
