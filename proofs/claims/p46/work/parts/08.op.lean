/-! ONE STEP, the rest: room, makings, calls, what is caught; then every instruction. -/
theorem xm_nw_eq : nativeFrameWords "java/lang/System" "arraycopy" 5 = 7 := by decide +kernel
theorem xm_jm : Cond.static Lib.Math.max.name ∈ xm_gw ∧ Cond.initialized "java/lang/Math" ∈ xm_gw ∧ Cond.code Lib.Math.max.name Lib.Math.max.code 2 (some .int) ∈ xm_gw ∧ Cond.static Lib.Math.min.name ∈ xm_gw ∧ Cond.code Lib.Math.min.name Lib.Math.min.code 2 (some .int) ∈ xm_gw ∧
    Cond.native arraycopyName ∈ xm_gw ∧ Cond.static arraycopyName ∈ xm_gw ∧ Cond.initialized "java/lang/System" ∈ xm_gw :=
  ⟨(xm_w_gw (e := 5036) (by decide +kernel) rfl), (xm_w_gw (e := 1017) (by decide +kernel) rfl), (xm_w_gw (e := 5037) (by decide +kernel) rfl), (xm_w_gw (e := 2192) (by decide +kernel) rfl), (xm_w_gw (e := 2193) (by decide +kernel) rfl), (xm_w_gw (e := 3122) (by decide +kernel) rfl), (xm_w_gw (e := 3121) (by decide +kernel) rfl), (xm_w_gw (e := 1019) (by decide +kernel) rfl)⟩
theorem xm_jd : (Cond.native ⟨"java/lang/Double", "doubleToRawLongBits", "(D)J"⟩ ∈ xm_gw ∧ Cond.static ⟨"java/lang/Double", "doubleToRawLongBits", "(D)J"⟩ ∈ xm_gw ∧ Cond.initialized "java/lang/Double" ∈ xm_gw) ∧ Cond.native ⟨"java/lang/Float", "floatToRawIntBits", "(F)I"⟩ ∈ xm_gw ∧ Cond.static ⟨"java/lang/Float", "floatToRawIntBits", "(F)I"⟩ ∈ xm_gw ∧ Cond.initialized "java/lang/Float" ∈ xm_gw :=
  ⟨⟨(xm_w_gw (e := 6168) (by decide +kernel) rfl), (xm_w_gw (e := 6167) (by decide +kernel) rfl), (xm_w_gw (e := 1030) (by decide +kernel) rfl)⟩, (xm_w_gw (e := 6182) (by decide +kernel) rfl), (xm_w_gw (e := 6181) (by decide +kernel) rfl), (xm_w_gw (e := 1031) (by decide +kernel) rfl)⟩
theorem xm_jc : Cond.sameMethod "[B" "java/lang/Object" "clone" "()Ljava/lang/Object;" ∈ xm_gw ∧ Cond.native ⟨"java/lang/Object", "clone", "()Ljava/lang/Object;"⟩ ∈ xm_gw ∧ Cond.instanceMethod ⟨"java/lang/Object", "clone", "()Ljava/lang/Object;"⟩ ∈ xm_gw ∧ Cond.selects "[B" ⟨"[B", "clone", "()Ljava/lang/Object;"⟩ ⟨"java/lang/Object", "clone", "()Ljava/lang/Object;"⟩ ∈ xm_gw ∧ Cond.castable "[B" "java/lang/Cloneable" ∈ xm_bw :=
  ⟨(xm_w_gw (e := 5047) (by decide +kernel) rfl), (xm_w_gw (e := 5048) (by decide +kernel) rfl), (xm_w_gw (e := 5049) (by decide +kernel) rfl), (xm_w_gw (e := 5050) (by decide +kernel) rfl), xm_w_bw (e := 5051) (by decide +kernel) rfl⟩
theorem xm_jo : Cond.instanceMethod Lib.objectInit ∈ xm_gw ∧ Cond.code Lib.objectInit ⟨#[0xb1]⟩ 1 none ∈ xm_gw :=
  ⟨(xm_w_gw (e := 1038) (by decide +kernel) rfl), (xm_w_gw (e := 1039) (by decide +kernel) rfl)⟩
theorem xm_cast (x : Nat) (hx : x < 2) : Cond.castable (xm_en x) (xm_en x) ∈ xm_bw := by
  match x, hx with
  | 0, _ => exact xm_w_bw (e := 3147) (by decide +kernel) rfl
  | 1, _ => exact xm_w_bw (e := 2123) (by decide +kernel) rfl
  | _ + 2, z => omega
theorem xm_catn : ∀ {r : List Value}, (r.map fun v => v.category).sum ≤ 2 * r.length
  | [] => Nat.le_refl _
  | a :: r => by
    have h1 : a.category ≤ 2 := by cases a <;> simp [Value.category]
    have h2 := xm_catn (r := r)
    simp only [List.map_cons, List.sum_cons, List.length_cons]
    omega
theorem xm_cat5 {B : Nat} {sa : Nat → Nat} {su : Value} {r : List Value} {n k : Nat} (h : r.length ≤ 4) (hk : 8 + n ≤ k) : ((r.map (xm_mv B sa su)).map fun v => v.category).sum + n ≤ k := by
  have h1 := xm_catn (r := r.map (xm_mv B sa su))
  rw [List.length_map] at h1
  omega
theorem xm_cat6 {B : Nat} {sa : Nat → Nat} {su : Value} {g : JFrame} {r : List Value} {n k : Nat} (hg : g.monitorRoom = 0) (h : r.length ≤ 4) (hk : 8 + n ≤ k) : 2 * g.monitorRoom + ((r.map (xm_mv B sa su)).map fun v => v.category).sum + n ≤ k := by
  have h1 := xm_catn (r := r.map (xm_mv B sa su))
  rw [List.length_map] at h1
  omega
theorem xm_cat8 {B : Nat} {sa : Nat → Nat} {su : Value} {g : JFrame} {r : List Value} (hg : g.monitorRoom = 0) (h : r.length ≤ 4) : 2 * g.monitorRoom + ((r.map (xm_mv B sa su)).map fun v => v.category).sum ≤ 8 := by
  have h1 := xm_catn (r := r.map (xm_mv B sa su))
  rw [List.length_map] at h1
  omega
theorem xm_rok_sum {r : List Value} (h : xm_rok r = true) : (r.map fun v => v.category).sum ≤ 8 := by
  unfold xm_rok at h
  rw [Bool.or_eq_true, Bool.and_eq_true] at h
  rcases h with h | ⟨h1, h2⟩
  · have h1 := Nat.le_of_ble_eq_true h
    have h2 := xm_catn (r := r)
    omega
  · have h1 := Nat.le_of_ble_eq_true h1
    have key : ∀ l : List Value, l.all (fun v => Nat.beq v.category 1) = true → (l.map fun v => v.category).sum = l.length := by
      intro l
      induction l with
      | nil => intro _; rfl
      | cons a l ih =>
        intro h
        rw [List.all_cons, Bool.and_eq_true] at h
        have e := Nat.eq_of_beq_eq_true h.1
        simp only [List.map_cons, List.sum_cons, List.length_cons, ih h.2, e]
        omega
    rw [key r h2]
    exact h1
theorem xm_cat9 {B : Nat} {sa : Nat → Nat} {su : Value} (hsu : su.category = 1) {g : JFrame} {r : List Value} (hg : g.monitorRoom = 0) (h : xm_rok r = true) : 2 * g.monitorRoom + ((r.map (xm_mv B sa su)).map fun v => v.category).sum ≤ 8 := by
  have h1 := xm_rok_sum h
  have h2 : (r.map (xm_mv B sa su)).map (fun v => v.category) = r.map fun v => v.category := by
    rw [List.map_map]
    exact List.map_congr_left fun v _ => xm_mv_cat hsu v
  rw [h2, hg]
  omega
theorem xm_copy_some {S S1 : xm_PS} {t h0 h1 : Nat} {sp dp n : Int32} (hg : xm_copy S t h0 sp h1 dp n = some S1) : ∃ n0 f n1 g, S.2.2[h0]? = some (.inl (t, n0, .inl f)) ∧ S.2.2[h1]? = some (.inl (t, n1, .inl g)) ∧ t < 2 ∧ ¬ sp < 0 ∧ ¬ dp < 0 ∧ ¬ n < 0 ∧
    sp.toNatClampNeg + n.toNatClampNeg ≤ n0 ∧ dp.toNatClampNeg + n.toNatClampNeg ≤ n1 ∧ xm_fitR t f sp.toNatClampNeg n.toNatClampNeg = true ∧ S1 = xm_set S h1 (.inl (t, n1, .inl (va_cpy f g sp.toNatClampNeg dp.toNatClampNeg n.toNatClampNeg))) := by
  unfold xm_copy at hg
  split at hg
  · next n0 f n1 g h2 h3 =>
    split at hg
    · next hc =>
      cases hg
      exact ⟨n0, f, n1, g, xm_gA_some h2, xm_gA_some h3, hc.1, hc.2.1, hc.2.2.1, hc.2.2.2.1, hc.2.2.2.2.1, hc.2.2.2.2.2.1, hc.2.2.2.2.2.2, rfl⟩
    · cases hg
  · cases hg
theorem xm_copyT_some {S S1 : xm_PS} {k h1 : Nat} {sp dp n : Int32} (hg : xm_copyT S k sp h1 dp n = some S1) : ∃ n1 g, S.2.2[h1]? = some (.inl (1, n1, .inl g)) ∧ 1000 ≤ k ∧ k < 1026 ∧ ¬ sp < 0 ∧ ¬ dp < 0 ∧ ¬ n < 0 ∧
    sp.toNatClampNeg + n.toNatClampNeg ≤ (xm_str (k - 1000)).length ∧ dp.toNatClampNeg + n.toNatClampNeg ≤ n1 ∧ xm_fitR 1 (fun j => (xm_str (k - 1000)).getD j 0) sp.toNatClampNeg n.toNatClampNeg = true ∧ S1 = xm_set S h1 (.inl (1, n1, .inl (va_cpy (fun j => (xm_str (k - 1000)).getD j 0) g sp.toNatClampNeg dp.toNatClampNeg n.toNatClampNeg))) := by
  unfold xm_copyT at hg
  split at hg
  · next n1 g h3 =>
    split at hg
    · next hc =>
      cases hg
      exact ⟨n1, g, xm_gA_some h3, hc.1, hc.2.1, hc.2.2.1, hc.2.2.2.1, hc.2.2.2.2.1, hc.2.2.2.2.2.1, hc.2.2.2.2.2.2.1, hc.2.2.2.2.2.2.2, rfl⟩
    · cases hg
  · cases hg
theorem xm_byt_nar {x : Int32} (h : xm_byt x = true) : narrow .byte (.int x) = .int x ∧ fits .byte (.int x) = true := by
  have h1 : x = x.toInt8.toInt32 := of_decide_eq_true h
  constructor
  · rw [h1]; exact pk_nb x
  · rw [h1]; exact pk_fb x
theorem xm_fitR_at {t : Nat} {f : Nat → Int32} {a n : Nat} (h : xm_fitR t f a n = true) (ht : t = 1) {i : Nat} (hi : i < n) : fits .byte (.int (f (a + i))) = true := by
  unfold xm_fitR at h
  subst ht
  rw [Bool.or_eq_true] at h
  rcases h with h | h
  · cases h
  · exact (xm_byt_nar (List.all_eq_true.mp h i (List.mem_range.mpr hi))).2
theorem xm_len_some {S : xm_PS} {h : Nat} {x : Int32} (hg : xm_len S h = some x) : ∃ t a, S.2.2[h]? = some (.inl (t, a)) ∧ t < 7 ∧ x = Int32.ofNat a.1 := by
  unfold xm_len at hg
  split at hg
  · next t n a hc =>
    split at hg
    · next ht => cases hg; exact ⟨t, (n, a), hc, ht, rfl⟩
    · cases hg
  · cases hg
theorem xm_ar_1 {B : Nat} {sa : Nat → Nat} {t : Nat} {x : vp_A} : (xm_ar B sa t x).1 = x.1 := by
  obtain ⟨n, f | f | f | f | f⟩ := x <;> rfl
theorem xm_ce_up {B : Nat} {kA : Nat → ClassId} {sa : Nat → Nat} {su : Value} {t n i x : Nat} {f : Nat → Option Nat} : xm_ce B kA sa su (.inl (t, n, .inr (.inr (.inr (.inr (va_up f i (some x))))))) = .inl (kA t, n, .inr (.inr (.inr (.inr (va_up (fun j => (f j).map (xm_rf B sa t)) i (some (xm_rf B sa t x))))))) := by
  show (Sum.inl (kA t, n, Sum.inr (Sum.inr (Sum.inr (Sum.inr fun j => (va_up f i (some x) j).map (xm_rf B sa t)))))  : va_E) = _
  have e : (fun j => (va_up f i (some x) j).map (xm_rf B sa t)) = va_up (fun j => (f j).map (xm_rf B sa t)) i (some (xm_rf B sa t x)) := by
    funext j
    unfold va_up
    split <;> rfl
  rw [e]
theorem xm_rr_some {c1 : Nat} {o1 o : xm_O} {k : List Value → xm_PS → Option xm_O} {kx : Nat → xm_PS → Option xm_O} (h : xm_rr c1 o1 k kx = some o) : (∃ v : Option Value, o1.1 = .inl v ∧ k v.toList o1.2 = some o) ∨ ∃ x, o1.1 = .inr x ∧ kx x o1.2 = some o := by
  unfold xm_rr at h
  split at h
  · unfold xm_r0 at h
    split at h <;> first | exact Or.inl ⟨_, rfl, h⟩ | exact Or.inr ⟨_, rfl, h⟩ | cases h
  · unfold xm_rI at h
    split at h <;> first | exact Or.inl ⟨_, rfl, h⟩ | exact Or.inr ⟨_, rfl, h⟩ | cases h
  · unfold xm_rL at h
    split at h <;> first | exact Or.inl ⟨_, rfl, h⟩ | exact Or.inr ⟨_, rfl, h⟩ | cases h
  · unfold xm_rF at h
    split at h <;> first | exact Or.inl ⟨_, rfl, h⟩ | exact Or.inr ⟨_, rfl, h⟩ | cases h
  · unfold xm_rD at h
    split at h <;> first | exact Or.inl ⟨_, rfl, h⟩ | exact Or.inr ⟨_, rfl, h⟩ | cases h
  · unfold xm_rR at h
    split at h <;> first | exact Or.inl ⟨_, rfl, h⟩ | exact Or.inr ⟨_, rfl, h⟩ | cases h
  · cases h
/-- no method here has a handler -/
def xm_okH (q : xm_MI) : Prop := q.2.2.2.2.1 = []
theorem xm_inh_w : ∀ y ∈ xm_inhL, Cond.selects RJ4 ⟨RJ5, y.name, y.desc⟩ y ∈ xm_gw ∧ Cond.sameMethod RJ5 RJ5 y.name y.desc ∈ xm_gw ∧ Cond.instanceMethod ⟨RJ5, y.name, y.desc⟩ ∈ xm_gw ∧ ∃ b m r, Cond.code ⟨RJ5, y.name, y.desc⟩ b m r ∈ xm_gw :=
  List.forall_mem_cons.mpr ⟨⟨xm_w_gw (e := 7065) (by decide +kernel) rfl, xm_w_gw (e := 7057) (by decide +kernel) rfl, xm_w_gw (e := 5018) (by decide +kernel) rfl, ⟨prog_17_method_22_code, 3, (Option.some (Jvm.ClassFile.FieldType.object "java/lang/AbstractStringBuilder")), xm_w_gw (e := 5019) (by decide +kernel) rfl⟩⟩, List.forall_mem_cons.mpr ⟨⟨xm_w_gw (e := 9001) (by decide +kernel) rfl, xm_w_gw (e := 7060) (by decide +kernel) rfl, xm_w_gw (e := 5030) (by decide +kernel) rfl, ⟨prog_17_method_10_code, 6, (Option.some Jvm.ClassFile.FieldType.int), xm_w_gw (e := 5031) (by decide +kernel) rfl⟩⟩, List.forall_mem_cons.mpr ⟨⟨xm_w_gw (e := 9000) (by decide +kernel) rfl, xm_w_gw (e := 7059) (by decide +kernel) rfl, xm_w_gw (e := 5026) (by decide +kernel) rfl, ⟨prog_17_method_9_code, 3, (Option.none : Option Jvm.ClassFile.FieldType), xm_w_gw (e := 5027) (by decide +kernel) rfl⟩⟩, List.forall_mem_cons.mpr ⟨⟨xm_w_gw (e := 9002) (by decide +kernel) rfl, xm_w_gw (e := 7061) (by decide +kernel) rfl, xm_w_gw (e := 5078) (by decide +kernel) rfl, ⟨prog_17_method_73_code, 3, (Option.none : Option Jvm.ClassFile.FieldType), xm_w_gw (e := 5079) (by decide +kernel) rfl⟩⟩, List.forall_mem_cons.mpr ⟨⟨xm_w_gw (e := 5058) (by decide +kernel) rfl, xm_w_gw (e := 5057) (by decide +kernel) rfl, xm_w_gw (e := 5056) (by decide +kernel) rfl, ⟨prog_17_method_68_code, 1, (Option.some Jvm.ClassFile.FieldType.boolean), xm_w_gw (e := 5059) (by decide +kernel) rfl⟩⟩, List.forall_mem_cons.mpr ⟨⟨xm_w_gw (e := 9003) (by decide +kernel) rfl, xm_w_gw (e := 7062) (by decide +kernel) rfl, xm_w_gw (e := 5082) (by decide +kernel) rfl, ⟨prog_17_method_71_code, 2, (Option.none : Option Jvm.ClassFile.FieldType), xm_w_gw (e := 5083) (by decide +kernel) rfl⟩⟩, List.forall_mem_cons.mpr ⟨⟨xm_w_gw (e := 5152) (by decide +kernel) rfl, xm_w_gw (e := 5151) (by decide +kernel) rfl, xm_w_gw (e := 5150) (by decide +kernel) rfl, ⟨prog_17_method_64_code, 1, (Option.some (Jvm.ClassFile.FieldType.array Jvm.ClassFile.FieldType.byte)), xm_w_gw (e := 5153) (by decide +kernel) rfl⟩⟩, List.forall_mem_cons.mpr ⟨⟨xm_w_gw (e := 5157) (by decide +kernel) rfl, xm_w_gw (e := 5156) (by decide +kernel) rfl, xm_w_gw (e := 5155) (by decide +kernel) rfl, ⟨prog_17_method_6_code, 1, (Option.some Jvm.ClassFile.FieldType.int), xm_w_gw (e := 5161) (by decide +kernel) rfl⟩⟩, fun _ z => nomatch z⟩⟩⟩⟩⟩⟩⟩⟩
theorem xm_inh_ok {args : Array Value} {s : State} (hts : ∀ w ∈ xm_gw, w.before args s = true) {y : MethodName} (hy : y ∈ xm_inhL) : (Cond.selects RJ4 ⟨RJ5, y.name, y.desc⟩ y).before args s = true ∧ (Cond.sameMethod RJ5 RJ5 y.name y.desc).before args s = true ∧ va_Decl s ⟨RJ5, y.name, y.desc⟩ ∧ True := by
  obtain ⟨h1, h2, h3, b, m, r, h4⟩ := xm_inh_w y hy
  exact ⟨hts _ h1, hts _ h2, va_Decl.of (hts _ h3) (hts _ h4), trivial⟩
theorem xm_sup_w : ∀ y ∈ xm_supL, Cond.sameMethod y.cls y.cls y.name y.desc ∈ xm_gw ∧ Cond.superclass RJ4 y.cls ∈ xm_gw :=
  List.forall_mem_cons.mpr ⟨⟨xm_w_gw (e := 7057) (by decide +kernel) rfl, xm_w_gw (e := 5011) (by decide +kernel) rfl⟩, List.forall_mem_cons.mpr ⟨⟨xm_w_gw (e := 7066) (by decide +kernel) rfl, xm_w_gw (e := 5011) (by decide +kernel) rfl⟩, List.forall_mem_cons.mpr ⟨⟨xm_w_gw (e := 7064) (by decide +kernel) rfl, xm_w_gw (e := 5011) (by decide +kernel) rfl⟩, List.forall_mem_cons.mpr ⟨⟨xm_w_gw (e := 7068) (by decide +kernel) rfl, xm_w_gw (e := 5011) (by decide +kernel) rfl⟩, List.forall_mem_cons.mpr ⟨⟨xm_w_gw (e := 5156) (by decide +kernel) rfl, xm_w_gw (e := 5011) (by decide +kernel) rfl⟩, fun _ z => nomatch z⟩⟩⟩⟩⟩
theorem xm_sup_ok {args : Array Value} {s : State} (hts : ∀ w ∈ xm_gw, w.before args s = true) {y : MethodName} (hy : y ∈ xm_supL) : (Cond.sameMethod y.cls y.cls y.name y.desc).before args s = true ∧ (Cond.superclass RJ4 y.cls).before args s = true := ⟨hts _ (xm_sup_w y hy).1, hts _ (xm_sup_w y hy).2⟩
section OPX
variable {B : Nat} {D : va_G} {kA : Nat → ClassId} {sa : Nat → Nat} {su : Value} {sc : xm_Sc} {M : Nat → Option xm_MI} {p : Program} {l : Launch} {e : Env} {R : Room} {s : State} {m : MethodId} {args : Array Value} {below : List Frame} {meth : Method} {c : Code} {K0 N0 : Nat} {Q : State → Prop} {q : xm_MI} {S' : xm_PS}
variable {N : Nat → Option (MethodName × Nat × Nat)} {KD : Nat → Nat × Nat} {o : Option Value ⊕ Nat} {call : Nat → List Value → xm_PS → Option xm_O} {kont : Nat → List Value → List Value → xm_PS → Option xm_O}
theorem xm_Gd_old {pc pc' : Nat} {ls st st' : List Value} {S : xm_PS} (h : xm_G B D kA sa su p l e R s m args below meth c K0 N0 Q S' pc' ls st' (false, S.2))
    (hw : ∀ (H : Heap) (locs : List Loc) (cells slots : Nat) (lsR : Array Slot), xm_LR B sa su ls lsR → va_S (fun q => B ≤ q) s.heap H locs → xm_Rel B D kA sa su S H → W p l e R s m args below meth c H locs cells slots Q (F0 m pc' lsR (st'.map (xm_mv B sa su))) → W p l e R s m args below meth c H locs cells slots Q (F0 m pc lsR (st.map (xm_mv B sa su)))) : xm_G B D kA sa su p l e R s m args below meth c K0 N0 Q S' pc ls st S :=
  xm_Gg (S1 := (false, S.2)) ⟨Nat.le_refl _, Nat.le_refl _, fun e => nomatch e⟩ h rfl fun H locs cells slots lsR hR hS hL hc hs _ _ k => hw H locs cells slots lsR hL hS hR (k H locs cells slots lsR hR hS hL hc hs)
theorem xm_Gm (hRc : xm_cn S' ≤ K0 + R.cells) (hRs : xm_sn S' ≤ N0 + R.slots) {pc pc' : Nat} {ls st st' : List Value} {S : xm_PS} (h : xm_G B D kA sa su p l e R s m args below meth c K0 N0 Q S' pc' ls st' S)
    (hw : ∀ (H : Heap) (locs : List Loc) (cells slots : Nat) (lsR : Array Slot), lsR.size = c.maxLocals → cells ≤ R.cells → slots ≤ R.slots → W p l e R s m args below meth c H locs cells slots Q (F0 m pc' lsR (st'.map (xm_mv B sa su))) → W p l e R s m args below meth c H locs cells slots Q (F0 m pc lsR (st.map (xm_mv B sa su)))) : xm_G B D kA sa su p l e R s m args below meth c K0 N0 Q S' pc ls st S :=
  ⟨h.1, fun H locs cells slots lsR hR hS hL hc hs hl hx => hw H locs cells slots lsR (hL.1.trans hl) (by have := h.1.1; omega) (by have := h.1.2.1; omega) (h.2 H locs cells slots lsR hR hS hL hc hs hl hx)⟩
theorem xm_ldcSw {H : Heap} {locs : List Loc} {cells slots pc : Nat} {ls : Array Slot} {rest : List Value} {cc : ByteArray} (hexec : p.tables.exec = Jvm.exec) (hb : c.code = cc) {own tx : String} {index q : Nat} (hown : s.vm.findClass own = some m.cls) (hZ : vk_R own index tx q s) (hdg : decode cc pc = .ok (.ldc_w index, 3))
    (k : W p l e R s m args below meth c H locs cells slots Q (F0 m (pc + 3) ls (.ref q :: rest))) : W p l e R s m args below meth c H locs cells slots Q (F0 m pc ls rest) := by
  intro T hT X
  obtain ⟨t, a1, b1⟩ := k T hT X
  exact ⟨t, X.ldcStringW hexec hown (text := tx) (a := q) hZ.1 hZ.2 (g := F0 m pc ls rest) rfl (by rw [hb]; exact hdg) t a1, b1⟩
theorem xm_fl_some {a b : Nat} {f : String × String × String × Bool} (h : xm_fl a b = some f) : ∃ r, vwCl[a]? = some r ∧ b < r.2.2 ∧ f = r.2.1 b := by
  unfold xm_fl at h
  split at h
  · next r hr =>
    split at h
    · next hb => cases h; exact ⟨r, hr, hb, rfl⟩
    · cases h
  · cases h
theorem xm_o_get (hCx : xm_Cx B D kA sa su sc q p l R s m args meth c) {pc i a b d1 e1 h : Nat} {v : Value} {fs ls r : List Value} {S : xm_PS} (hd : decode q.2.1 pc = .ok (.getfield i, 3)) (hok : (match xm_fl a b with
      | some f => xm_okK d1 e1 q.1.cls i f
      | none => false) = true) (hc : S.2.2[h]? = some (.inr (a, fs))) (hf : fs[b]? = some v) (hk : xm_G B D kA sa su p l e R s m args below meth c K0 N0 Q S' (pc + 3) ls (v :: r) S) : xm_G B D kA sa su p l e R s m args below meth c K0 N0 Q S' pc ls (.ref h :: r) S := by
  obtain ⟨hexec, hb, hown, hts, hml, htab, hmn, hKn, hsu, hfr, hlo⟩ := id hCx
  split at hok
  · next f hff =>
    obtain ⟨r1, hr1, hlt, rfl⟩ := xm_fl_some hff
    refine xm_Gs hk fun H locs cells slots lsR _ hS hR k => ?_
    unfold xm_okK at hok
    split at hok
    · exact va_get (C := r1.1) (T := r1.2.1) (N := r1.2.2) hexec hb hts (fun w hw => List.mem_filter.mpr ((xm_cl_ok r1 (List.mem_of_getElem? hr1)).2.2.1 w hw)) hown hKn.1 hR h (xm_ws_at hc) hr1 b hlt (hts _ (xm_w_gw (of_decide_eq_true hok) rfl)) (fun _ z => z) (by rw [List.getElem?_map, hf]; rfl) hd k
    · exact va_getN (C := r1.1) (T := r1.2.1) (N := r1.2.2) hexec hb hts (fun w hw => List.mem_filter.mpr ((xm_cl_ok r1 (List.mem_of_getElem? hr1)).2.2.1 w hw)) hown hKn.1 hR h (xm_ws_at hc) hr1 b hlt (va_Nw.use rfl (hKn.2.2.2.2.2.2.2.2.1 _ (xm_w_bw (of_decide_eq_true hok) rfl))) (fun _ z => z) (by rw [List.getElem?_map, hf]; rfl) hd k
  · cases hok
theorem xm_o_put (hCx : xm_Cx B D kA sa su sc q p l R s m args meth c) {pc i a b c1 d1 e1 h : Nat} {v : Value} {fs ls r : List Value} {S : xm_PS} (hd : decode q.2.1 pc = .ok (.putfield i, 3)) (hok : xm_okL N q.1 q.2.1 q.2.2.1 q.2.2.2.1 pc (.putfield i) a b c1 d1 e1 = true)
    (hnf : ∀ ty, xm_okF c1 ty = true → narrow ty (xm_mv B sa su v) = xm_mv B sa su v ∧ fits ty (xm_mv B sa su v) = true) (hc : S.2.2[h]? = some (.inr (a, fs))) (hf : b < fs.length) (hk : xm_G B D kA sa su p l e R s m args below meth c K0 N0 Q S' (pc + 3) ls r (xm_set S h (.inr (a, fs.set b v)))) : xm_G B D kA sa su p l e R s m args below meth c K0 N0 Q S' pc ls (v :: .ref h :: r) S := by
  obtain ⟨hexec, hb, hown, hts, hml, htab, hmn, hKn, hsu, hfr, hlo⟩ := id hCx
  dsimp only [xm_okL] at hok
  split at hok
  · next f hff =>
    obtain ⟨r1, hr1, hlt, rfl⟩ := xm_fl_some hff
    rw [Bool.and_eq_true, Bool.and_eq_true] at hok
    obtain ⟨⟨h1, h2⟩, h3⟩ := hok
    split at h3
    · next ty hty =>
      obtain ⟨hn1, hn2⟩ := hnf ty h3
      have hcl := xm_cl_ok r1 (List.mem_of_getElem? hr1)
      have hin : ∀ w ∈ u_ws r1.1 r1.2.1 r1.2.2, w ∈ xm_gw := fun w hw => List.mem_filter.mpr (hcl.2.2.1 w hw)
      have hfs : b < (fs.map (xm_mv B sa su)).length := by rw [List.length_map]; exact hf
      have he : xm_ce B kA sa su (.inr (a, fs.set b v)) = .inr (a, (fs.map (xm_mv B sa su)).set b (xm_mv B sa su v)) := by
        show (Sum.inr (a, (fs.set b v).map (xm_mv B sa su)) : va_E) = _
        rw [List.map_set]
      have hz : xm_sz (.inr (a, fs.set b v)) = xm_sz (.inr (a, fs)) := by
        show (fs.set b v).length = fs.length
        rw [List.length_set]
      refine xm_Gh hk hc hz fun H locs cells slots lsR hR hS _ k => ?_
      unfold xm_okK at h1
      split at h1
      · by_cases hfin : (r1.2.1 b).2.2.2 = true
        · have h4 : r1.2.1 b |>.2.2.2 = true := hfin
          rw [Bool.or_eq_true] at h2
          rcases h2 with h2 | h2
          · rw [of_decide_eq_true h2] at h4; cases h4
          · rw [Bool.and_eq_true, Bool.and_eq_true] at h2
            refine va_putF (C := r1.1) (T := r1.2.1) (N := r1.2.2) hexec hb hts hin (fun k => (parseFieldDescriptor (r1.2.1 k).2.2.1).getD .int) hcl.1 hcl.2.1 hown hKn.1 hR xm_ws_D hS h (xm_ws_at hc) hr1 b hlt (hts _ (xm_w_gw (of_decide_eq_true h1) rfl)) (fun _ z => z) h4 (hmn.trans (of_decide_eq_true h2.1.1)) (of_decide_eq_true h2.1.2) hty hn1 hn2 hfs hd fun H1 locs1 hP1 _ hS1 => k H1 locs1 ?_ hS1
            rw [he]
            exact hP1
        · refine va_put (C := r1.1) (T := r1.2.1) (N := r1.2.2) hexec hb hts hin (fun k => (parseFieldDescriptor (r1.2.1 k).2.2.1).getD .int) hcl.1 hcl.2.1 hown hKn.1 hR xm_ws_D hS h (xm_ws_at hc) hr1 b hlt (hts _ (xm_w_gw (of_decide_eq_true h1) rfl)) (fun _ z => z) (by simpa using hfin) hty hn1 hn2 hfs hd fun H1 locs1 hP1 _ hS1 => k H1 locs1 ?_ hS1
          rw [he]
          exact hP1
      · next hd0 =>
        have hfin : (r1.2.1 b).2.2.2 = false := by
          rw [Bool.or_eq_true] at h2
          rcases h2 with h2 | h2
          · exact of_decide_eq_true h2
          · rw [Bool.and_eq_true] at h2
            exact absurd (of_decide_eq_true h2.2) hd0
        refine va_putN (C := r1.1) (T := r1.2.1) (N := r1.2.2) hexec hb hts hin (fun k => (parseFieldDescriptor (r1.2.1 k).2.2.1).getD .int) hcl.1 hcl.2.1 hown hKn.1 hR xm_ws_D hS h (xm_ws_at hc) hr1 b hlt (va_Nw.use rfl (hKn.2.2.2.2.2.2.2.2.1 _ (xm_w_bw (of_decide_eq_true h1) rfl))) (fun _ z => z) hfin hty hn1 hn2 hfs hd fun H1 locs1 hP1 _ hS1 => k H1 locs1 ?_ hS1
        rw [he]
        exact hP1
    · cases h3
  · cases hok
/-- a step that makes one cell -/
theorem xm_Gp (hKn : xm_Kn B D kA sa su sc s) (hRc : xm_cn S' ≤ K0 + R.cells) (hRs : xm_sn S' ≤ N0 + R.slots) {pc pc' : Nat} {ls st st' : List Value} {S : xm_PS} {c0 : xm_PC} (h1 : S.1 = true) (h2 : S.2.1 = 0) (hk : xm_G B D kA sa su p l e R s m args below meth c K0 N0 Q S' pc' ls (.ref S.2.2.length :: st') (S.1, S.2.1, S.2.2 ++ [c0]))
    (hw : ∀ (H : Heap) (locs : List Loc) (cells slots : Nat) (lsR : Array Slot), cells + 1 ≤ R.cells → slots + xm_sz c0 ≤ R.slots →
      (∀ (H1 : Heap), va_at D vwCl (H.size, xm_ce B kA sa su c0) H1 → H1.size = H.size + 1 → (∀ x : Nat, x < H.size → H1[x]? = H[x]?) → W p l e R s m args below meth c H1 locs (cells + 1) (slots + xm_sz c0) Q (F0 m pc' lsR (.ref H.size :: st'.map (xm_mv B sa su)))) →
      W p l e R s m args below meth c H locs cells slots Q (F0 m pc lsR (st.map (xm_mv B sa su)))) : xm_G B D kA sa su p l e R s m args below meth c K0 N0 Q S' pc ls st S := by
  have hcn : xm_cn (S.1, S.2.1, S.2.2 ++ [c0]) = xm_cn S + 1 := by simp only [xm_cn, List.length_append, List.length_cons, List.length_nil]; omega
  have hsn : xm_sn (S.1, S.2.1, S.2.2 ++ [c0]) = xm_sn S + xm_sz c0 := by simp only [xm_sn, List.map_append, List.sum_append, List.map_cons, List.map_nil, List.sum_cons, List.sum_nil]; omega
  have hm := hk.1
  refine ⟨⟨by have := hm.1; omega, by have := hm.2.1; omega, hm.2.2⟩, fun H locs cells slots lsR hR hS hL hc hs hl hx T hT X => ?_⟩
  have hB : B ≤ s.heap.size := hKn.2.2.2.2.2.2.2.2.2.2.2.2
  have hcS : xm_cn S = S.2.2.length := by simp only [xm_cn]; omega
  have hz : H.size = B + S.2.2.length := by
    have h3 := X.heapSize
    rw [hT] at h3
    have h4 := hx h1
    have h5 := xm_ws_lt hR (Nat.le_trans hB hS.1)
    omega
  refine hw H locs cells slots lsR (by have := hm.1; omega) (by have := hm.2.1; omega) (fun H1 he hz1 ho => ?_) T hT X
  have hR1 : xm_Rel B D kA sa su (S.1, S.2.1, S.2.2 ++ [c0]) H1 := by
    show va_P D vwCl (xm_ws B kA sa su (S.2.2 ++ [c0])) H1
    rw [← xm_ws_push]
    refine va_P.app (va_P.kept hR fun k x hx => ho _ (vx_lt hR hx)) fun k x hx => ?_
    have hk0 : k < 1 := (List.getElem?_eq_some_iff.mp hx).1
    rw [show k = 0 by omega] at hx
    cases hx
    rw [← hz]
    exact he
  have := hk.2 H1 locs (cells + 1) (slots + xm_sz c0) lsR hR1 ⟨Nat.le_trans hS.1 (by omega), fun x a1 a2 => (ho x (Nat.lt_of_lt_of_le a1 hS.1)).trans (hS.2.1 x a1 a2), hS.2.2⟩ hL (by omega) (by omega) hl hx
  rw [List.map_cons] at this
  rw [hz]
  exact this
theorem xm_push_some {S : xm_PS} {c0 : xm_PC} {k : Nat → xm_PS → Option xm_O} {r : xm_O} (h : xm_push S c0 k = some r) : S.1 = true ∧ S.2.1 = 0 ∧ k S.2.2.length (S.1, S.2.1, S.2.2 ++ [c0]) = some r := by
  unfold xm_push at h
  obtain ⟨h1, h2⟩ := xm_ite_some h
  exact ⟨h1.1, h1.2, h2⟩
theorem xm_o_newa (hCx : xm_Cx B D kA sa su sc q p l R s m args meth c) (hRc : xm_cn S' ≤ K0 + R.cells) (hRs : xm_sn S' ≤ N0 + R.slots) {pc t : Nat} {ty : FieldType} {atype : ArrayType} {n : Int32} {ls r : List Value} {S : xm_PS} {ar : vp_A} (hd : decode q.2.1 pc = .ok (.newarray atype, 2)) (hty : newarray.typeOf atype = ty) (htys : (xm_tys kA)[t]? = some (kA t, ty))
    (hra : ∀ cA, va_RA s cA ty → s.vm.findClass ("[" ++ ty.toString) = some cA) (har : xm_ar B sa t ar = ar) (hsz : ar.1 = n.toNatClampNeg) (hcell : ∀ cA : ClassId, vp_cell cA ar = arrV cA n.toNatClampNeg (fun _ => defaultValue ty)) (harr : Cond.arrayClass ty ∈ xm_gw) (hbt : componentBytes ty ≤ 8) (hn : ¬ n < 0) (hn2 : n.toNatClampNeg ≤ 1000000)
    (h : xm_push S (.inl (t, ar)) (fun h S => kont (pc + 2) ls (.ref h :: r) S) = some (o, S')) (hk : ∀ pc ls st S, kont pc ls st S = some (o, S') → xm_G B D kA sa su p l e R s m args below meth c K0 N0 Q S' pc ls st S) : xm_G B D kA sa su p l e R s m args below meth c K0 N0 Q S' pc ls (.int n :: r) S := by
  obtain ⟨hexec, hb, hown, hts, hml, htab, hmn, hKn, hsu, hfr, hlo⟩ := id hCx
  subst hty
  obtain ⟨h1, h2, h⟩ := xm_push_some h
  have hs1 : xm_sz (.inl (t, ar)) = n.toNatClampNeg := hsz
  refine xm_Gp hKn hRc hRs h1 h2 (hk _ _ _ _ h) fun H locs cells slots lsR hc hs k => ?_
  rw [hs1] at hs
  refine va_newaK hexec hb (hts _ harr) (g := F0 m pc lsR (.int n :: r.map (xm_mv B sa su))) rfl hd (rest := r.map (xm_mv B sa su)) rfl hn rfl ?_ hc hs rfl fun H1 cA e1 z1 o1 hAr hNm => ?_
  · exact Nat.le_trans (Nat.mul_le_mul hn2 hbt) (Nat.le_of_ble_eq_true rfl)
  · have e2 : cA = kA t := Option.some.inj (hNm.symm.trans (hra _ (hKn.1.2 t _ htys).2))
    subst e2
    have hW := k H1 (by
      show H1[H.size]? = some (vp_cell (kA t) (xm_ar B sa t ar))
      rw [har, hcell]
      exact e1) z1 o1
    rw [hs1] at hW
    exact hW
theorem xm_o_anew (hCx : xm_Cx B D kA sa su sc q p l R s m args meth c) (hRc : xm_cn S' ≤ K0 + R.cells) (hRs : xm_sn S' ≤ N0 + R.slots) {pc t i e1 : Nat} {C : String} {n : Int32} {ls r : List Value} {S : xm_PS} (hlink : xm_w e1 = some (.classLink q.1.cls i C)) (hAO : va_AO C s) (htys : (xm_tys kA)[t]? = some (kA t, .object C)) (hd : decode q.2.1 pc = .ok (.anewarray i, 3)) (hn : ¬ n < 0) (hn2 : n.toNatClampNeg ≤ 1000000)
    (h : xm_push S (.inl (t, n.toNatClampNeg, .inr (.inr (.inr (.inr fun _ => none))))) (fun h S => kont (pc + 3) ls (.ref h :: r) S) = some (o, S')) (hk : ∀ pc ls st S, kont pc ls st S = some (o, S') → xm_G B D kA sa su p l e R s m args below meth c K0 N0 Q S' pc ls st S) : xm_G B D kA sa su p l e R s m args below meth c K0 N0 Q S' pc ls (.int n :: r) S := by
  obtain ⟨hexec, hb, hown, hts, hml, htab, hmn, hKn, hsu, hfr, hlo⟩ := id hCx
  obtain ⟨h1, h2, h⟩ := xm_push_some h
  refine xm_Gp hKn hRc hRs h1 h2 (hk _ _ _ _ h) fun H locs cells slots lsR hc hs k => ?_
  refine W.anew hexec hb hown (hts _ (xm_w_gw hlink rfl)) (va_AO.use hAO) (g := F0 m pc lsR (.int n :: r.map (xm_mv B sa su))) rfl hd (rest := r.map (xm_mv B sa su)) rfl hn ?_ hc hs fun cA kA' comp f1 f2 f3 f4 => ?_
  · exact Nat.le_trans (Nat.mul_le_mul hn2 (Nat.le_refl 4)) (Nat.le_of_ble_eq_true rfl)
  · obtain ⟨_, _, _, _, _, g4⟩ := (hKn.1.2 t _ htys).2
    have e2 : cA = kA t := Option.some.inj (f1.symm.trans g4)
    subst e2
    refine k _ ?_ (Array.size_push _) fun x hx => by rw [Array.getElem?_push, if_neg (Nat.ne_of_lt hx)]
    show (H.push _)[H.size]? = some (arrV (kA t) n.toNatClampNeg (fun _ => .null))
    rw [Array.getElem?_push_size, ← arrV_new]
theorem xm_o_anewA (hCx : xm_Cx B D kA sa su sc q p l R s m args meth c) (hRc : xm_cn S' ≤ K0 + R.cells) (hRs : xm_sn S' ≤ N0 + R.slots) {pc t i e1 : Nat} {n : Int32} {ls r : List Value} {S : xm_PS} (hlink : xm_w e1 = some (.classLink q.1.cls i (FieldType.array .int).toString)) (hAO : (Cond.arrayOver (.array .int)).before args s = true) (htys : (xm_tys kA)[t]? = some (kA t, .array .int)) (hd : decode q.2.1 pc = .ok (.anewarray i, 3)) (hn : ¬ n < 0) (hn2 : n.toNatClampNeg ≤ 1000000)
    (h : xm_push S (.inl (t, n.toNatClampNeg, .inr (.inr (.inr (.inr fun _ => none))))) (fun h S => kont (pc + 3) ls (.ref h :: r) S) = some (o, S')) (hk : ∀ pc ls st S, kont pc ls st S = some (o, S') → xm_G B D kA sa su p l e R s m args below meth c K0 N0 Q S' pc ls st S) : xm_G B D kA sa su p l e R s m args below meth c K0 N0 Q S' pc ls (.int n :: r) S := by
  obtain ⟨hexec, hb, hown, hts, hml, htab, hmn, hKn, hsu, hfr, hlo⟩ := id hCx
  obtain ⟨h1, h2, h⟩ := xm_push_some h
  refine xm_Gp hKn hRc hRs h1 h2 (hk _ _ _ _ h) fun H locs cells slots lsR hc hs k => ?_
  refine W.anewA hexec hb hown (hts _ (xm_w_gw hlink rfl)) hAO (g := F0 m pc lsR (.int n :: r.map (xm_mv B sa su))) rfl hd (rest := r.map (xm_mv B sa su)) rfl hn ?_ hc hs fun cA kA' comp f1 f2 f3 f4 => ?_
  · exact Nat.le_trans (Nat.mul_le_mul hn2 (Nat.le_refl 4)) (Nat.le_of_ble_eq_true rfl)
  · have g4 := (hKn.1.2 t _ htys).2
    have e2 : cA = kA t := Option.some.inj (f1.symm.trans g4)
    subst e2
    refine k _ ?_ (Array.size_push _) fun x hx => by rw [Array.getElem?_push, if_neg (Nat.ne_of_lt hx)]
    show (H.push _)[H.size]? = some (arrV (kA t) n.toNatClampNeg (fun _ => .null))
    rw [Array.getElem?_push_size, ← arrV_new]
theorem xm_o_new (hCx : xm_Cx B D kA sa su sc q p l R s m args meth c) (hRc : xm_cn S' ≤ K0 + R.cells) (hRs : xm_sn S' ≤ N0 + R.slots) {pc a i e1 : Nat} {r1 : vw_C} {ls st : List Value} {S : xm_PS} (hr1 : vwCl[a]? = some r1) (hlink : xm_w e1 = some (.classLink q.1.cls i r1.1)) (hd : decode q.2.1 pc = .ok (.new i, 3))
    (h : xm_push S (.inr (a, xm_new a)) (fun h S => kont (pc + 3) ls (.ref h :: st) S) = some (o, S')) (hk : ∀ pc ls st S, kont pc ls st S = some (o, S') → xm_G B D kA sa su p l e R s m args below meth c K0 N0 Q S' pc ls st S) : xm_G B D kA sa su p l e R s m args below meth c K0 N0 Q S' pc ls st S := by
  obtain ⟨hexec, hb, hown, hts, hml, htab, hmn, hKn, hsu, hfr, hlo⟩ := id hCx
  obtain ⟨h1, h2, h⟩ := xm_push_some h
  have ha : a < 12 := (List.getElem?_eq_some_iff.mp hr1).1
  have hcl := xm_cl_ok r1 (List.mem_of_getElem? hr1)
  obtain ⟨hn1, hn2, hn3⟩ := xm_new_ok a ha r1 hr1
  have hin : ∀ w ∈ u_ws r1.1 r1.2.1 r1.2.2, w ∈ xm_gw := fun w hw => List.mem_filter.mpr (hcl.2.2.1 w hw)
  have hs1 : xm_sz (.inr (a, xm_new a)) = r1.2.2 := hn1
  have hmap : (xm_new a).map (xm_mv B sa su) = xm_new a := by
    rw [List.map_congr_left (g := id) fun v hv => ?_, List.map_id]
    rcases hn3 v hv with rfl | rfl <;> rfl
  have hKn1 := hKn.1.1 a _ hr1
  refine xm_Gp hKn hRc hRs h1 h2 (hk _ _ _ _ h) fun H locs cells slots lsR hc hs k => ?_
  rw [hs1] at hs
  refine W.newcK (g := F0 m pc lsR (st.map (xm_mv B sa su))) hexec hb hown (hts _ (xm_w_gw hlink rfl)) (hts _ (List.mem_filter.mpr ⟨hcl.2.2.2.1, rfl⟩)) (hts _ (List.mem_filter.mpr ⟨hcl.2.2.2.2, rfl⟩)) rfl hd hc hs hKn1.2.1 rfl fun H1 kC hkC e1 z1 o1 => ?_
  have hW := k H1 (by
    show ∃ r : vw_C, vwCl[a]? = some r ∧ t_OB H.size (D.1 a) r.2.2 (D.2 a) H1 (vp_V ((xm_new a).map (xm_mv B sa su)))
    rw [hmap]
    exact ⟨r1, hr1, (u_born (fun k => (parseFieldDescriptor (r1.2.1 k).2.2.1).getD .int) hts hin hKn1 hkC e1 hcl.1).to hn2⟩) z1 o1
  rw [hs1] at hW
  exact hW
theorem xm_cB (hKn : xm_Kn B D kA sa su sc s) : s.vm.findClass "[B" = some (kA 1) := by
  have h : s.vm.findClass ("[" ++ FieldType.byte.toString) = some (kA 1) := (hKn.1.2 1 _ rfl).2
  rwa [show "[" ++ FieldType.byte.toString = "[B" from by decide +kernel] at h
theorem xm_txt (hKn : xm_Kn B D kA sa su sc s) {k0 : Nat} (h1 : 1000 ≤ k0) (h2 : k0 < 1027) : va_T .byte (sa k0) (xm_str (k0 - 1000)).length (fun j => .int ((xm_str (k0 - 1000)).getD j 0)) (fun q => B ≤ q) s s.heap := by
  by_cases h : k0 - 1000 < 26
  · have hT := (hKn.2.2.1 (k0 - 1000) h).2.2.2
    rw [show k0 - 1000 + 1000 = k0 by omega] at hT
    exact hT
  · obtain rfl : k0 = 1026 := by omega
    exact hKn.2.2.2.2.2.2.2.2.2.2.2.1.2.2.2
theorem xm_aldg {cc : ByteArray} {H : Heap} {locs : List Loc} {cells slots pc : Nat} {lsR : Array Slot} {rest : List Value} (hexec : p.tables.exec = Jvm.exec) (hb : c.code = cc) {cl : List vw_C} {tys : List (ClassId × FieldType)} {ws : va_W} {a : Nat} (hK : va_K D cl tys s) (hP : va_P D cl ws H) (q0 t0 : Nat) {cA : ClassId} {n : Nat} {f : Nat → Option Nat} (ha : ws[q0]? = some (a, .inl (cA, n, .inr (.inr (.inr (.inr f)))))) (ht : tys[t0]? = some (cA, .array .int)) {i : Int32} (hin : vp_in i n) (hdg : decode cc pc = .ok (.aaload, 1))
    (kk : W p l e R s m args below meth c H locs cells slots Q (F0 m (pc + 1) lsR (va_rf (f i.toNatClampNeg) :: rest))) : W p l e R s m args below meth c H locs cells slots Q (F0 m pc lsR (.int i :: .ref a :: rest)) := by
  have hlt : i.toNatClampNeg < n := Nat.not_le.mp fun q => hin (Or.inr q)
  exact W.aald (v := va_rf (f i.toNatClampNeg)) (ty := .array .int) hexec hb (hP q0 _ ha) ((hK.2 t0 _ ht).1 n (fun j => va_rf (f j))) rfl (fun q => by cases q) (by show ¬ (i < 0 ∨ (arrV _ _ _).slots.size ≤ _); rw [arrV_size]; exact hin) (by show (arrV _ _ _).slots[_]? = _; rw [arrV_read _ _ hlt]) rfl rfl hdg kk
theorem xm_astg {cc : ByteArray} {H H0 : Heap} {locs : List Loc} {cells slots pc : Nat} {lsR : Array Slot} {rest : List Value} (hexec : p.tables.exec = Jvm.exec) (hb : c.code = cc) {ws : va_W} {A : Nat → Prop} {a : Nat} (hKn : xm_Kn B D kA sa su sc s) (hP : va_P D vwCl ws H) (hD : va_D A ws) (hS : va_S A H0 H locs) (q0 qk : Nat) {n v : Nat} {x : vp_A} {f : Nat → Option Nat} (ha : ws[q0]? = some (a, .inl (kA 6, n, .inr (.inr (.inr (.inr f)))))) (hv : ws[qk]? = some (v, .inl (kA 0, x))) {i : Int32} (hin : vp_in i n) (hdg : decode cc pc = .ok (.aastore, 1))
    (kk : ∀ (H1 : Heap) (locs1 : List Loc), va_P D vwCl (ws.set q0 (a, .inl (kA 6, n, .inr (.inr (.inr (.inr (va_up f i.toNatClampNeg (some v)))))))) H1 → va_S A H0 H1 locs1 → W p l e R s m args below meth c H1 locs1 cells slots Q (F0 m (pc + 1) lsR rest)) : W p l e R s m args below meth c H locs cells slots Q (F0 m pc lsR (.ref v :: .int i :: .ref a :: rest)) := by
  have hlt : i.toNatClampNeg < n := Nat.not_le.mp fun q => hin (Or.inr q)
  have h0 : ¬ i < 0 := fun q => hin (Or.inl q)
  obtain ⟨comp, c6, k6, g1, g2, g3, g4, g5⟩ := arrayOverA_spec hKn.2.2.2.2.2.2.2.2.2.2.2.1.2.1
  have e6 : c6 = kA 6 := Option.some.inj (g5.symm.trans (hKn.1.2 6 _ rfl).2)
  have e0 : comp = kA 0 := by
    have h : s.vm.findClass ("[" ++ FieldType.int.toString) = some (kA 0) := (hKn.1.2 0 _ rfl).2
    rw [show "[" ++ FieldType.int.toString = (FieldType.array .int).toString from by decide +kernel] at h
    exact Option.some.inj (g1.symm.trans h)
  subst e6 e0
  obtain ⟨kC, hkC, -⟩ := Vm.findClass_spec g1
  have hcv : H[v]? = some (vp_cell (kA 0) x) := hP qk _ hv
  have hvm0 : (vp_cell (kA 0) x).vm = .none := by
    obtain ⟨n, f | f | f | f | f⟩ := x <;> rfl
  have hcl0 : (vp_cell (kA 0) x).cls = kA 0 := by
    obtain ⟨n, f | f | f | f | f⟩ := x <;> rfl
  refine W.aast hexec hb (hP q0 _ ha) (fun q h => by cases h) (fun h => by cases h) g3 g4 rfl hkC ⟨h0, by show _ < (arrV _ _ _).slots.size; rw [arrV_size]; exact hlt⟩ hcv (fun q h => by rw [hvm0] at h; cases h) (by rw [hcl0]; exact hkC) (by rw [hcl0]; exact va_asg _ _) rfl rfl hdg fun H1 e z oq => ?_
  refine kk H1 _ (hP.set hD ha ?_ oq) (hS.put z oq (hD.2 q0 _ ha))
  show H1[a]? = some (vp_cell _ _)
  rw [e]
  rw [vp_cell_q, vp_cell_q, arrV_store]
  congr 2
  funext q
  by_cases hq : q = i.toNatClampNeg
  · subst hq
    simp [updV, va_up, va_rf]
  · simp [updV, va_up, hq]
theorem xm_o_clone (hCx : xm_Cx B D kA sa su sc q p l R s m args meth c) (hRc : xm_cn S' ≤ K0 + R.cells) (hRs : xm_sn S' ≤ N0 + R.slots) {pc i e1 hh n : Nat} {f : Nat → Int32} {ls r : List Value} {S : xm_PS} (hlink : xm_w e1 = some (.methodLink q.1.cls i ⟨"[B", "clone", "()Ljava/lang/Object;"⟩)) (hd : decode q.2.1 pc = .ok (.invokevirtual i, 3))
    (hc : S.2.2[hh]? = some (.inl (1, n, .inl f))) (hr4 : r.length ≤ 4) (hfit : xm_fitR 1 f 0 n = true) (h : xm_push S (.inl (1, n, .inl f)) (fun h2 S => kont (pc + 3) ls (.ref h2 :: r) S) = some (o, S')) (hk : ∀ pc ls st S, kont pc ls st S = some (o, S') → xm_G B D kA sa su p l e R s m args below meth c K0 N0 Q S' pc ls st S) : xm_G B D kA sa su p l e R s m args below meth c K0 N0 Q S' pc ls (.ref hh :: r) S := by
  obtain ⟨hexec, hb, hown, hts, hml, htab, hmn, hKn, hsu, hfr, hlo⟩ := id hCx
  obtain ⟨h1, h2, h⟩ := xm_push_some h
  have hG := hk _ _ _ _ h
  have hcn : xm_cn (S.1, S.2.1, S.2.2 ++ [.inl (1, n, .inl f)]) = xm_cn S + 1 := by simp only [xm_cn, List.length_append, List.length_cons, List.length_nil]; omega
  have hsn : xm_sn (S.1, S.2.1, S.2.2 ++ [.inl (1, n, .inl f)]) = xm_sn S + n := by simp only [xm_sn, List.map_append, List.sum_append, List.map_cons, List.map_nil, List.sum_cons, List.sum_nil, xm_sz]; omega
  have hm := hG.1
  have hB : B ≤ s.heap.size := hKn.2.2.2.2.2.2.2.2.2.2.2.2
  have hcS : xm_cn S = S.2.2.length := by simp only [xm_cn]; omega
  refine ⟨⟨by have := hm.1; omega, by have := hm.2.1; omega, hm.2.2⟩, fun H locs cells slots lsR hR hS hL hcc hss hl hx => ?_⟩
  refine va_clone (ad := "[B") hexec hb (by rw [hml, hL.1]; omega) hown (hts _ (xm_w_gw hlink rfl)) (hts _ xm_jc.1) (hts _ xm_jc.2.1) (hts _ xm_jc.2.2.1) (hts _ xm_jc.2.2.2.1) (hKn.2.2.2.2.2.2.2.2.1 _ xm_jc.2.2.2.2) hKn.1 hR xm_ws_D hS (fun q hq => Nat.le_trans hB hq) hh 1 (xm_ws_at hc) (ty := .byte) rfl (xm_cB hKn) (fun i v hv => ?_) (by omega) (xm_cat5 hr4 (by omega)) (by have := hm.1; omega) (by have := hm.2.1; show slots + n ≤ _; omega) hd fun qa H1 _ hP1 hD1 hS1 T hT X => ?_
  · have e9 : vp_cell (kA 1) (xm_ar B sa 1 (n, Sum.inl f)) = arrV (kA 1) n (fun j => .int (f j)) := vp_cell_i _ _ _
    rw [e9] at hv
    have hi : i < n := by
      have := (Array.getElem?_eq_some_iff.mp hv).1
      rwa [arrV_size] at this
    rw [arrV_read _ _ hi] at hv
    cases hv
    have := xm_fitR_at hfit rfl hi
    rwa [Nat.zero_add] at this
  · have hq1 : (xm_ws B kA sa su S.2.2 ++ [(qa, xm_ce B kA sa su (.inl (1, n, .inl f)))])[S.2.2.length]? = some (qa, xm_ce B kA sa su (.inl (1, n, .inl f))) := by
      rw [List.getElem?_append_right (by rw [xm_ws_len]; omega), xm_ws_len, Nat.sub_self]
      rfl
    have hlt := vx_lt hP1 hq1
    have h3 := X.heapSize
    rw [hT] at h3
    have h4 := hx h1
    have hge : B ≤ qa := hD1.2 _ _ hq1
    have hqa : qa = B + S.2.2.length := by
      rcases Nat.lt_or_ge qa (B + S.2.2.length) with hlt2 | hge2
      · exfalso
        have hj : qa - B < S.2.2.length := by omega
        have hq2 : (xm_ws B kA sa su S.2.2 ++ [(qa, xm_ce B kA sa su (.inl (1, n, .inl f)))])[qa - B]? = some (B + (qa - B), xm_ce B kA sa su S.2.2[qa - B]) := by
          rw [List.getElem?_append_left (by rw [xm_ws_len]; exact hj)]
          exact xm_ws_at (List.getElem?_eq_getElem hj)
        have := hD1.1 _ _ _ _ hq1 hq2 (show qa = B + (qa - B) by omega)
        omega
      · have : qa < H1.size := hlt
        omega
    subst hqa
    have hR1 : xm_Rel B D kA sa su (S.1, S.2.1, S.2.2 ++ [.inl (1, n, .inl f)]) H1 := by
      show va_P D vwCl (xm_ws B kA sa su (S.2.2 ++ [.inl (1, n, .inl f)])) H1
      rw [← xm_ws_push]
      exact hP1
    have := hG.2 H1 locs (cells + 1) (slots + n) lsR hR1 hS1 hL (by omega) (by omega) hl hx
    exact this T hT X
theorem xm_vx_of_va {H : Heap} {locs : List Loc} {cells slots mc ms : Nat} {g : JFrame} {rest : List Value} {Qa : State → Outcome → State → Prop} {XC : String → State → State → Prop} {free : Addr → Prop}
    (h : va_Run p l e R s m args below meth c H locs cells slots mc ms g rest Qa free) : vx_Run p l e R s m args below meth c H locs cells slots mc ms g rest Qa XC free := fun T hT X => by
  obtain ⟨v, st₀, t, T', L, h0, X', hL, e1, e2, hQ, st⟩ := h T hT X
  exact Or.inl ⟨v, st₀, t, T', L, h0, X', hL, e1, e2, hQ, st⟩
theorem xm_met_of {y : MethodName} {ws : List Cond} {rm : Room} {Pc : Array Value → State → Prop} {v : Option Value} {S1 : xm_PS} {mc ms : Nat} {free : Addr → Prop}
    (hM : vx_Met l y ws rm Pc (xm_Qc B D kA sa su (.inl v) S1) (xm_XC B D kA sa su (.inl v) S1) mc ms free) : Met l y ws rm Pc (xm_Qc B D kA sa su (.inl v) S1) mc ms free := fun p e ha hc hk s m args below hf happ hP ht => by
  obtain ⟨k, o, h1, h2, h3, hQ⟩ := hM p e ha hc hk s m args below hf happ hP ht
  refine ⟨k, o, h1, h2, h3, ?_⟩
  rcases hQ with hQ | ⟨q, -, E, ce, L, ⟨⟨x, hx, -⟩, -⟩, -⟩
  · exact hQ
  · cases hx
theorem xm_Pc_blind {as : List Value} {S : xm_PS} : FrameBlind (xm_Pc B D kA sa su sc as S) := fun a U g mk h => ⟨h.1, h.2.1, h.2.2.1.calling g mk a, h.2.2.2⟩
/-- a call, however it is made -/
theorem xm_o_run (hCx : xm_Cx B D kA sa su sc q p l R s m args meth c) (hMq : xm_okH q) (hRc : xm_cn S' ≤ K0 + R.cells) (hRs : xm_sn S' ≤ N0 + R.slots) (hEnd : xm_End B D kA sa su p l e R s m args below meth c K0 N0 Q q o S')
    (hk : ∀ pc ls st S, kont pc ls st S = some (o, S') → xm_G B D kA sa su p l e R s m args below meth c K0 N0 Q S' pc ls st S) (hrows : ∀ pc r, xm_fetch q.2.2.2.2.2 pc = some r → xm_okR N q r = true)
    {pc c1 : Nat} {ls st r : List Value} {S S1 : xm_PS} {o1 : Option Value ⊕ Nat} {a : Array Value} {kx : Nat → xm_PS → Option xm_O} (hm : xm_mo S S1) (hrr : xm_rr c1 (o1, S1) (fun l S => kont (pc + 3) ls (l ++ r) S) kx = some (o, S'))
    (hkx : ∀ x S1 r, kx x S1 = some r → xm_kx q.2.2.2.2.2 q.2.2.2.2.1 kont pc ls x S1 = some r)
    (hrun : ∀ (H : Heap) (locs : List Loc) (cells slots : Nat) (lsR : Array Slot), xm_Rel B D kA sa su S H → va_S (fun q => B ≤ q) s.heap H locs → lsR.size = c.maxLocals → (S.1 = true → H.size ≤ B + xm_cn S) → cells + (xm_cn S1 - xm_cn S) ≤ R.cells → slots + (xm_sn S1 - xm_sn S) ≤ R.slots →
      vx_Run p l e R s m args below meth c H locs cells slots (xm_cn S1 - xm_cn S) (xm_sn S1 - xm_sn S) (F0 m pc lsR (st.map (xm_mv B sa su))) (r.map (xm_mv B sa su)) (xm_Qc B D kA sa su o1 S1 a) (xm_XC B D kA sa su o1 S1) (fun q => B ≤ q)) : xm_G B D kA sa su p l e R s m args below meth c K0 N0 Q S' pc ls st S := by
  obtain ⟨hexec, hb, hown, hts, hml, htab, hmn, hKn, hsu, hfr, hlo⟩ := id hCx
  have hzz : ∀ {H : Heap} {cells : Nat} {T : State} {locs : List Loc} {slots : Nat}, T.heap = H → Stand p l e R s m args below meth c T locs cells slots → cells + K0 = xm_cn S → (S.1 = true → s.heap.size ≤ B + K0) → S.1 = true → H.size ≤ B + xm_cn S := by
    intro H cells T locs slots hT X hc hx h1
    have h3 := X.heapSize
    rw [hT] at h3
    have := hx h1
    omega
  rcases xm_rr_some hrr with ⟨v, hv, hh⟩ | ⟨x, hx1, hh⟩
  · have hv : o1 = .inl v := hv
    replace hh : kont (pc + 3) ls (v.toList ++ r) S1 = some (o, S') := hh
    have hG := hk _ _ _ _ hh
    refine ⟨hm.tr hG.1, fun H locs cells slots lsR hR hS hL hc hs hl hx T hT X => ?_⟩
    have m1 := hm.1
    have m2 := hm.2.1
    have m3 := hG.1.1
    have m4 := hG.1.2.1
    rcases hrun H locs cells slots lsR hR hS (hL.1.trans hl) (hzz hT X hc hx) (by omega) (by omega) T hT X with ⟨v', st₀, t, T', L, h0, X', hL', e1, e2, ⟨⟨w, hw, hw2⟩, hRel, hF⟩, st⟩ | ⟨q0, st₀, t, T', L, E, ce, h0, X', hL', e1, e2, ⟨⟨x, hx1, -⟩, -⟩, -⟩
    · have hw3 : v = w := by
        have : (Sum.inl v : Option Value ⊕ Nat) = .inl w := hv.symm.trans hw
        cases this
        rfl
      subst hw3
      have hv' : v' = v.map (xm_mv B sa su) := by cases hw2; rfl
      subst hv'
      obtain ⟨k1, k2, k3⟩ := vx_keep h0 e1 hS (fun _ _ z => z) (fun _ z => z) hL' hF
      obtain ⟨t2, a1, b1⟩ := hG.2 T'.heap (locs ++ L) (cells + (xm_cn S1 - xm_cn S)) (slots + (xm_sn S1 - xm_sn S)) lsR (by rw [e1]; exact hRel) k3 hL (by omega) (by omega) hl (fun z => hx (hm.2.2 z)) T' rfl X'
      refine ⟨t2, st t2 ?_, b1⟩
      have e9 : (v.toList ++ r).map (xm_mv B sa su) = (v.map (xm_mv B sa su)).toList ++ r.map (xm_mv B sa su) := by
        rw [List.map_append]
        cases v <;> rfl
      rw [e9] at a1
      exact a1
    · have : (Sum.inl v : Option Value ⊕ Nat) = .inr x := hv.symm.trans hx1
      cases this
  · have hx1 : o1 = .inr x := hx1
    replace hh : kx x S1 = some (o, S') := hh
    replace hh := hkx _ _ _ hh
    have hth : ∀ {H : Heap} {locs : List Loc} {cells slots : Nat} {lsR : Array Slot}, xm_Rel B D kA sa su S H → va_S (fun q => B ≤ q) s.heap H locs → lsR.size = c.maxLocals → (S.1 = true → H.size ≤ B + xm_cn S) → cells + (xm_cn S1 - xm_cn S) ≤ R.cells → slots + (xm_sn S1 - xm_sn S) ≤ R.slots →
        (∀ (H1 : Heap) (locs1 : List Loc) (q0 : Addr) (ce : Cell), xm_Rel B D kA sa su S1 H1 → va_S (fun q => B ≤ q) s.heap H1 locs1 → H1[q0]? = some ce → ce.vm = .none → s.vm.findClass (xm_en x) = some ce.cls → vx_W p l e R s m args below meth c H1 locs1 (cells + (xm_cn S1 - xm_cn S)) (slots + (xm_sn S1 - xm_sn S)) Q (F0 m pc lsR (r.map (xm_mv B sa su))) q0) →
        W p l e R s m args below meth c H locs cells slots Q (F0 m pc lsR (st.map (xm_mv B sa su))) := by
      intro H locs cells slots lsR hR hS hl hz hc hs k T hT X
      rcases hrun H locs cells slots lsR hR hS hl hz hc hs T hT X with ⟨v', st₀, t, T', L, h0, X', hL', e1, e2, ⟨⟨w, hw, hw2⟩, hRel, hF⟩, st⟩ | ⟨q0, st₀, t, T', L, E, ce, h0, X', hL', e1, e2, ⟨⟨x', hx2, rfl⟩, hRel, hF⟩, hce, hcv, hcl, st⟩
      · have : (Sum.inl w : Option Value ⊕ Nat) = .inr x := hw.symm.trans hx1
        cases this
      · have hxx : x = x' := by
          have : (Sum.inr x : Option Value ⊕ Nat) = .inr x' := hx1.symm.trans hx2
          cases this
          rfl
        subst hxx
        obtain ⟨k1, k2, k3⟩ := vx_keep h0 e1 hS (fun _ _ z => z) (fun _ z => z) hL' hF
        obtain ⟨t2, a1, b1⟩ := k T'.heap (locs ++ L) q0 ce (by rw [e1]; exact hRel) k3 (by rw [e1]; exact hce) hcv hcl T' rfl X'
        exact ⟨t2, st.trans a1, b1⟩
    unfold xm_kx at hh
    split at hh
    · next hnil =>
      cases hh
      refine ⟨hm, fun H locs cells slots lsR hR hS hL hc hs hl hx T hT X => ?_⟩
      have m1 := hm.1
      have m2 := hm.2.1
      exact hth hR hS (hL.1.trans hl) (hzz hT X hc hx) (by omega) (by omega) (fun H1 locs1 q0 ce hR1 hS1 hce hcv hcl => ((hEnd H1 locs1 _ _ lsR pc hS1 (hL.1.trans hl)).1 hR1 (by omega) (by omega)).2 x rfl hnil _ q0 ce hce hcv hcl) T hT X
    · next hnn =>
      exact absurd hMq hnn
theorem xm_gw_good {r1 : xm_MI} (h : xm_cw r1 ∈ xm_gw) : GoodIn xm_gw (xm_cw r1 :: xm_gw) := by
  refine goodIn_sub (fun w hw => ?_) (List.all_eq_true.mpr fun w hw => ?_)
  · rcases List.mem_cons.mp hw with rfl | hw
    · exact h
    · exact hw
  · rcases List.mem_cons.mp hw with rfl | hw
    · exact (List.mem_filter.mp h).2
    · exact (List.mem_filter.mp hw).2
theorem xm_sig {d : String} {n : Nat} (h : (parseMethodDescriptor d).map (fun d => d.parameters.length) = some n) : ∀ sig, parseMethodDescriptor d = some sig → n = sig.parameters.length := by
  intro sig hs
  rw [hs] at h
  exact (Option.some.inj h).symm
theorem xm_stk {st r : List Value} {b : Nat} (h : st.drop b = r) : st.map (xm_mv B sa su) = (((st.take b).reverse).map (xm_mv B sa su)).reverse ++ r.map (xm_mv B sa su) := by
  subst h
  rw [← List.map_reverse, List.reverse_reverse, ← List.map_append, List.take_append_drop]
theorem xm_pre (hKn : xm_Kn B D kA sa su sc s) {S : xm_PS} {H : Heap} {locs : List Loc} {as : List Value} (hR : xm_Rel B D kA sa su S H) (hS : va_S (fun q => B ≤ q) s.heap H locs) (hz : S.1 = true → H.size ≤ B + xm_cn S) (U : State) (hU : U.heap = H) (hW : s.WarmedH U.vm) : xm_Pc B D kA sa su sc as S (as.map (xm_mv B sa su)).toArray U :=
  ⟨rfl, by rw [hU]; exact hR, hKn.to hW (by rw [hU]; exact hS), fun e => by rw [hU]; exact hz e⟩
theorem xm_o_static (hCx : xm_Cx B D kA sa su sc q p l R s m args meth c) (hMq : xm_okH q) (hN : ∀ j, N j = (M j).map (fun r => (r.1, KD j))) (hMok : ∀ j r, M j = some r → (KD j).1 < 4 → xm_okM r (KD j)) (hRc : xm_cn S' ≤ K0 + R.cells) (hRs : xm_sn S' ≤ N0 + R.slots) (hEnd : xm_End B D kA sa su p l e R s m args below meth c K0 N0 Q q o S')
    (hcall : ∀ j as S o1 S1, (KD j).1 < 4 → call j as S = some (o1, S1) → xm_Call B D kA sa su sc M l R j as S o1 S1) (hk : ∀ pc ls st S, kont pc ls st S = some (o, S') → xm_G B D kA sa su p l e R s m args below meth c K0 N0 Q S' pc ls st S) (hrows : ∀ pc r, xm_fetch q.2.2.2.2.2 pc = some r → xm_okR N q r = true)
    {pc i a b c1 e1 : Nat} {ls st : List Value} {S : xm_PS} (hd : decode q.2.1 pc = .ok (.invokestatic i, 3)) (hok : (match N a with
      | some q1 => decide (q1.2.1 = 0) && decide (q1.2.2 = b) && decide (xm_w e1 = some (.methodLink q.1.cls i q1.1))
      | none => false) = true) (hbl : b ≤ st.length) (h : xm_call call kont (xm_kx q.2.2.2.2.2 q.2.2.2.2.1 kont pc ls) pc ls (st.drop b) S a (st.take b).reverse c1 = some (o, S')) : xm_G B D kA sa su p l e R s m args below meth c K0 N0 Q S' pc ls st S := by
  obtain ⟨hexec, hb, hown, hts, hml, htab, hmn, hKn, hsu, hfr, hlo⟩ := id hCx
  rw [hN a] at hok
  split at hok
  · next q1 hq1 =>
    obtain ⟨r1, hr1, rfl⟩ := Option.map_eq_some_iff.mp hq1
    simp only [Bool.and_eq_true, decide_eq_true_eq] at hok
    obtain ⟨⟨hk0, hkb⟩, hlink⟩ := hok
    unfold xm_call at h
    obtain ⟨hlen, h⟩ := xm_ite_some h
    obtain ⟨⟨o1, S1⟩, ho1, h⟩ := xm_bind_some h
    obtain ⟨hm, d, q2, hq2, hfr2, hlo2, hMet⟩ := hcall _ _ _ _ _ (by omega) ho1
    cases hr1.symm.trans hq2
    obtain ⟨g1, g2, g3, g4, g5, g6, g7, g8, g9, g10, g10b, g11, g12, g13⟩ := hMok a r1 hr1 (by omega)
    refine xm_o_run (a := #[]) hCx hMq hRc hRs hEnd hk hrows hm h (fun _ _ _ z => z) fun H locs cells slots lsR hR hS hl hz hc hs => ?_
    have hgd := xm_gw_good g6
    have hnl : (((st.take b).reverse).map (xm_mv B sa su)).length = b := by
      rw [List.length_map, List.length_reverse, List.length_take]
      omega
    have hsg := xm_sig g3
    rw [hkb] at hsg
    have hR9 : d + 6 + 1 ≤ R.frames ∧ 8 + (r1.2.2.1 + 11) + (50 * d + 100) ≤ R.locals := ⟨by omega, by omega⟩
    by_cases hnil : r1.2.2.2.2.1 = []
    · have hcw : xm_cw r1 = .code r1.1 r1.2.1 r1.2.2.1 r1.2.2.2.1 := if_pos hnil
      exact vx_runS (As := ((st.take b).reverse).map (xm_mv B sa su)) (Ts := xm_gw) (own := q.1.cls) (bytes := r1.2.1) (maxL := r1.2.2.1) (ret := r1.2.2.2.1) (n := b) ⟨hexec, hb, hml, hown, hts⟩ hMet
        ⟨⟨rfl, rfl, hR9.1, hR9.2, pay_in hts hgd, by rw [hcw]; exact List.mem_cons_self, by rw [← hcw]; exact hts _ g6, hts _ g5, g2, hsg, hts _ (xm_w_gw hlink rfl)⟩, hts _ (g7 hk0)⟩
        ⟨xm_Pc_blind, xm_pre hKn hR hS hz⟩ rfl hnl (hl.trans hml) (xm_stk rfl) (xm_cat9 hsu rfl hlen) hd ⟨hc, hs⟩
    · have hcw : xm_cw r1 = .codeWith r1.1 r1.2.1 r1.2.2.1 r1.2.2.2.1 (xm_hh r1.2.2.2.2.1) := if_neg hnil
      exact vx_runSX (As := ((st.take b).reverse).map (xm_mv B sa su)) (Ts := xm_gw) (own := q.1.cls) (bytes := r1.2.1) (maxL := r1.2.2.1) (ret := r1.2.2.2.1) (hh := xm_hh r1.2.2.2.2.1) (n := b) ⟨hexec, hb, hml, hown, hts⟩ hMet
        ⟨⟨rfl, rfl, hR9.1, hR9.2, pay_in hts hgd, by rw [hcw]; exact List.mem_cons_self⟩, by rw [← hcw]; exact hts _ g6, hts _ g5, g2, hsg, hts _ (xm_w_gw hlink rfl), hts _ (g7 hk0)⟩
        ⟨xm_Pc_blind, xm_pre hKn hR hS hz⟩ rfl hnl (hl.trans hml) (xm_stk rfl) (xm_cat9 hsu rfl hlen) hd ⟨hc, hs⟩
  · cases hok
theorem xm_o_virtual (hCx : xm_Cx B D kA sa su sc q p l R s m args meth c) (hMq : xm_okH q) (hN : ∀ j, N j = (M j).map (fun r => (r.1, KD j))) (hMok : ∀ j r, M j = some r → (KD j).1 < 4 → xm_okM r (KD j)) (hRc : xm_cn S' ≤ K0 + R.cells) (hRs : xm_sn S' ≤ N0 + R.slots) (hEnd : xm_End B D kA sa su p l e R s m args below meth c K0 N0 Q q o S')
    (hcall : ∀ j as S o1 S1, (KD j).1 < 4 → call j as S = some (o1, S1) → xm_Call B D kA sa su sc M l R j as S o1 S1) (hk : ∀ pc ls st S, kont pc ls st S = some (o, S') → xm_G B D kA sa su p l e R s m args below meth c K0 N0 Q S' pc ls st S) (hrows : ∀ pc r, xm_fetch q.2.2.2.2.2 pc = some r → xm_okR N q r = true)
    {pc i a b c1 d e1 : Nat} {ls st r : List Value} {v : Value} {S : xm_PS} (hd : decode q.2.1 pc = .ok (.invokevirtual i, 3)) (hok : (match N a with
      | some q1 => decide (q1.2.1 = 1) && decide (q1.2.2 = b) && (decide (xm_w e1 = some (.methodLink q.1.cls i q1.1)) || decide (xm_w e1 = some (.methodLinkNest q.1.cls i q1.1 RL))) && (match d with
        | 100 => decide (q1.1.cls = RJ0) && decide (xm_w e1 = some (.methodLink q.1.cls i q1.1))
        | _ => match vwCl[d]? with
          | some r => decide (q1.1.cls = r.1)
          | none => false)
      | none => false) = true) (hbl : b ≤ st.length) (hst : st.drop b = v :: r) (hv : (∃ x, v = .ref x) ∨ ∃ x, v = .retAddr x) (hO : xm_isO S v d = true) (h : xm_call call kont (xm_kx q.2.2.2.2.2 q.2.2.2.2.1 kont pc ls) pc ls r S a (v :: (st.take b).reverse) c1 = some (o, S')) : xm_G B D kA sa su p l e R s m args below meth c K0 N0 Q S' pc ls st S := by
  obtain ⟨hexec, hb, hown, hts, hml, htab, hmn, hKn, hsu, hfr, hlo⟩ := id hCx
  rw [hN a] at hok
  split at hok
  · next q1 hq1 =>
    obtain ⟨r1, hr1, rfl⟩ := Option.map_eq_some_iff.mp hq1
    rw [Bool.and_eq_true, Bool.and_eq_true, Bool.and_eq_true] at hok
    obtain ⟨⟨⟨hk0, hkb⟩, hlink⟩, hrc⟩ := hok
    have hk0 := of_decide_eq_true hk0
    have hkb := of_decide_eq_true hkb
    rw [Bool.or_eq_true] at hlink
    dsimp only at hk0 hkb hlink hrc
    unfold xm_call at h
    obtain ⟨hlen, h⟩ := xm_ite_some h
    obtain ⟨⟨o1, S1⟩, ho1, h⟩ := xm_bind_some h
    obtain ⟨hm, d2, q2, hq2, hfr2, hlo2, hMet⟩ := hcall _ _ _ _ _ (by omega) ho1
    cases hr1.symm.trans hq2
    obtain ⟨g1, g2, g3, g4, g5, g6, g7, g8, g9, g10, g10b, g11, g12, g13⟩ := hMok a r1 hr1 (by omega)
    refine xm_o_run (a := #[]) hCx hMq hRc hRs hEnd hk hrows hm h (fun _ _ _ z => z) fun H locs cells slots lsR hR hS hl hz hc hs => ?_
    have hgd := xm_gw_good g6
    have hnl : (((st.take b).reverse).map (xm_mv B sa su)).length = b := by
      rw [List.length_map, List.length_reverse, List.length_take]
      omega
    have hsg := xm_sig g3
    rw [hkb] at hsg
    have hR9 : d2 + 6 + 1 ≤ R.frames ∧ 8 + (r1.2.2.1 + 11) + (50 * d2 + 100) ≤ R.locals := ⟨by omega, by omega⟩
    obtain ⟨hsel, hnil⟩ := g9 hk0
    have hcw : xm_cw r1 = .code r1.1 r1.2.1 r1.2.2.1 r1.2.2.2.1 := if_pos hnil
    have hrv : ∃ b0, xm_mv B sa su v = .ref b0 ∧ ∃ cellB : Cell, H[b0]? = some cellB ∧ cellB.vm.isStatics = false ∧ s.vm.findClass r1.1.cls = some cellB.cls := by
      rcases hv with ⟨x, rfl⟩ | ⟨x, rfl⟩
      · obtain ⟨c9, fs, hfs, hc9⟩ := xm_isO_ref hO
        refine ⟨B + x, rfl, ?_⟩
        obtain ⟨r2, hr2, -⟩ := id (hR x _ (xm_ws_at hfs))
        have hr2 : vwCl[c9]? = some r2 := hr2
        have hd9 : c9 < 12 := (List.getElem?_eq_some_iff.mp hr2).1
        have hcl : r1.1.cls = r2.1 := by
          split at hrc
          · have : c9 = 10 := by
              rcases hc9 with h9 | ⟨-, h9⟩
              · omega
              · exact h9
            subst this
            rw [Bool.and_eq_true] at hrc
            rw [of_decide_eq_true hrc.1]
            cases hr2
            rfl
          · next hn100 =>
            have : c9 = d := by
              rcases hc9 with h9 | ⟨h9, -⟩
              · exact h9
              · exact absurd h9 hn100
            subst this
            rw [hr2] at hrc
            exact of_decide_eq_true hrc
        rw [hcl]
        exact va_recv hKn.1 hR hr2 (xm_ws_at hfs)
      · unfold xm_isO at hO
        dsimp only at hO
        rw [Bool.and_eq_true] at hO
        have h100 : d = 100 := Nat.eq_of_beq_eq_true hO.1
        have h43 : x < 26 := Nat.le_of_ble_eq_true hO.2
        subst h100
        refine ⟨sa x, xm_mv_ra (by omega), ?_⟩
        obtain ⟨cell, f1, f2, f3, f4⟩ := (hKn.2.2.1 x h43).1.kept hS.2.1
        replace hrc : (decide (r1.1.cls = RJ0) && decide (xm_w e1 = some (.methodLink q.1.cls i r1.1))) = true := hrc
        rw [Bool.and_eq_true] at hrc
        have hcl9 : r1.1.cls = RJ0 := of_decide_eq_true hrc.1
        rw [hcl9]
        exact ⟨cell, f1, f2, f3⟩
    obtain ⟨b0, hb0, hrv⟩ := hrv
    have hpre := xm_pre (as := v :: (st.take b).reverse) hKn hR hS hz
    rw [List.map_cons, hb0] at hpre
    rcases hlink with hlink | hlink
    · exact vx_runV (Ts := xm_gw) (own := q.1.cls) (C := r1.1.cls) (bytes := r1.2.1) (maxL := r1.2.2.1) (ret := r1.2.2.2.1) (n := b) ⟨hexec, hb, hml, hown, hts⟩ hMet
        ⟨⟨rfl, rfl, hR9.1, hR9.2, pay_in hts hgd, by rw [hcw]; exact List.mem_cons_self, by rw [← hcw]; exact hts _ g6, hts _ g5, g2, hsg, hts _ (xm_w_gw (of_decide_eq_true hlink) rfl)⟩, hts _ (g8 (by omega)), hts _ hsel⟩
        ⟨xm_Pc_blind, hrv, hpre⟩ rfl hnl (hl.trans hml) (by have := xm_stk (B := B) (sa := sa) (su := su) hst; rw [List.map_cons, hb0] at this; exact this) (xm_cat9 hsu rfl hlen) hd ⟨hc, hs⟩
    · have hnw := hKn.2.2.2.2.2.2.2.2.1 _ (xm_w_bw (of_decide_eq_true hlink) rfl)
      exact vx_runVN (Ts := xm_gw) (own := q.1.cls) (C := r1.1.cls) (host := RL) (bytes := r1.2.1) (maxL := r1.2.2.1) (ret := r1.2.2.2.1) (n := b) ⟨hexec, hb, hml, hown, hts⟩ hMet
        ⟨va_cnB b hts hgd (by rw [hcw]) rfl rfl hnw (hts _ g5) ⟨g2.1, g2.2, by rw [← hkb]; exact g3⟩ hR9, hts _ (g8 (by omega)), hts _ hsel⟩
        ⟨xm_Pc_blind, hrv, hpre⟩ rfl hnl (hl.trans hml) (by have := xm_stk (B := B) (sa := sa) (su := su) hst; rw [List.map_cons, hb0] at this; exact this) (xm_cat9 hsu rfl hlen) hd ⟨hc, hs⟩
  · cases hok
theorem xm_o_inh (hCx : xm_Cx B D kA sa su sc q p l R s m args meth c) (hMq : xm_okH q) (hN : ∀ j, N j = (M j).map (fun r => (r.1, KD j))) (hMok : ∀ j r, M j = some r → (KD j).1 < 4 → xm_okM r (KD j)) (hRc : xm_cn S' ≤ K0 + R.cells) (hRs : xm_sn S' ≤ N0 + R.slots) (hEnd : xm_End B D kA sa su p l e R s m args below meth c K0 N0 Q q o S')
    (hcall : ∀ j as S o1 S1, (KD j).1 < 4 → call j as S = some (o1, S1) → xm_Call B D kA sa su sc M l R j as S o1 S1) (hk : ∀ pc ls st S, kont pc ls st S = some (o, S') → xm_G B D kA sa su p l e R s m args below meth c K0 N0 Q S' pc ls st S) (hrows : ∀ pc r, xm_fetch q.2.2.2.2.2 pc = some r → xm_okR N q r = true)
    {pc i a b c1 e1 hh : Nat} {ls st r : List Value} {S : xm_PS} (hd : decode q.2.1 pc = .ok (.invokevirtual i, 3)) (hok : (match N a with
      | some q1 => (decide (q1.2.1 = 1) || decide (q1.2.1 = 3)) && decide (q1.2.2 = b) && decide (xm_w e1 = some (.methodLink q.1.cls i ⟨RJ5, q1.1.name, q1.1.desc⟩)) && decide (q1.1 ∈ xm_inhL)
      | none => false) = true) (hbl : b ≤ st.length) (hst : st.drop b = .ref hh :: r) (hO : xm_isO S (.ref hh) 11 = true) (h : xm_call call kont (xm_kx q.2.2.2.2.2 q.2.2.2.2.1 kont pc ls) pc ls r S a (.ref hh :: (st.take b).reverse) c1 = some (o, S')) : xm_G B D kA sa su p l e R s m args below meth c K0 N0 Q S' pc ls st S := by
  obtain ⟨hexec, hb, hown, hts, hml, htab, hmn, hKn, hsu, hfr, hlo⟩ := id hCx
  rw [hN a] at hok
  split at hok
  · next q1 hq1 =>
    obtain ⟨r1, hr1, rfl⟩ := Option.map_eq_some_iff.mp hq1
    simp only [Bool.and_eq_true, Bool.or_eq_true, decide_eq_true_eq] at hok
    obtain ⟨⟨⟨hk0, hkb⟩, hlink⟩, hinh⟩ := hok
    unfold xm_call at h
    obtain ⟨hlen, h⟩ := xm_ite_some h
    obtain ⟨⟨o1, S1⟩, ho1, h⟩ := xm_bind_some h
    obtain ⟨hm, d2, q2, hq2, hfr2, hlo2, hMet⟩ := hcall _ _ _ _ _ (by omega) ho1
    cases hr1.symm.trans hq2
    obtain ⟨g1, g2, g3, g4, g5, g6, g7, g8, g9, g10, g10b, g11, g12, g13⟩ := hMok a r1 hr1 (by omega)
    refine xm_o_run (a := #[]) hCx hMq hRc hRs hEnd hk hrows hm h (fun _ _ _ z => z) fun H locs cells slots lsR hR hS hl hz hc hs => ?_
    have hgd := xm_gw_good g6
    have hnl : (((st.take b).reverse).map (xm_mv B sa su)).length = b := by
      rw [List.length_map, List.length_reverse, List.length_take]
      omega
    have hsg := xm_sig g3
    rw [hkb] at hsg
    have hR9 : d2 + 6 + 1 ≤ R.frames ∧ 8 + (r1.2.2.1 + 11) + (50 * d2 + 100) ≤ R.locals := ⟨by omega, by omega⟩
    have hnil : r1.2.2.2.2.1 = [] := by
      rcases hk0 with h1 | h3
      · exact (g9 h1).2
      · exact (g10b h3).2
    have hcw : xm_cw r1 = .code r1.1 r1.2.1 r1.2.2.1 r1.2.2.2.1 := if_pos hnil
    obtain ⟨fs, hfs⟩ := xm_isO_lt (by omega) hO
    have hrv : ∃ cellB : Cell, H[B + hh]? = some cellB ∧ cellB.vm.isStatics = false ∧ s.vm.findClass RJ4 = some cellB.cls := va_recv hKn.1 hR (q := (RJ4, TJ4, 4)) (ci := 11) rfl (xm_ws_at hfs)
    have hpre := xm_pre (as := .ref hh :: (st.take b).reverse) hKn hR hS hz
    obtain ⟨i1, i2, i3, i4⟩ := xm_inh_ok hts hinh
    exact vx_runU (b := B + hh) (x := ⟨RJ5, r1.1.name, r1.1.desc⟩) (Ts := xm_gw) (own := q.1.cls) (C := RJ4) (owner := RJ5) (bytes := r1.2.1) (maxL := r1.2.2.1) (ret := r1.2.2.2.1) (n := b) ⟨hexec, hb, hml, hown, hts⟩ hMet
      ⟨⟨rfl, rfl, hR9.1, hR9.2, pay_in hts hgd, by rw [hcw]; exact List.mem_cons_self⟩, by rw [← hcw]; exact hts _ g6, hts _ g5, ⟨by decide, by decide⟩, hsg, hts _ (xm_w_gw hlink rfl), i2, i3, i1, hts _ (g8 (by omega))⟩
      ⟨xm_Pc_blind, hrv, hpre⟩ rfl hnl (hl.trans hml) (xm_stk (B := B) (sa := sa) (su := su) hst) (xm_cat9 hsu rfl hlen) hd ⟨hc, hs⟩
  · cases hok
theorem xm_o_super (hCx : xm_Cx B D kA sa su sc q p l R s m args meth c) (hMq : xm_okH q) (hN : ∀ j, N j = (M j).map (fun r => (r.1, KD j))) (hMok : ∀ j r, M j = some r → (KD j).1 < 4 → xm_okM r (KD j)) (hRc : xm_cn S' ≤ K0 + R.cells) (hRs : xm_sn S' ≤ N0 + R.slots) (hEnd : xm_End B D kA sa su p l e R s m args below meth c K0 N0 Q q o S')
    (hcall : ∀ j as S o1 S1, (KD j).1 < 4 → call j as S = some (o1, S1) → xm_Call B D kA sa su sc M l R j as S o1 S1) (hk : ∀ pc ls st S, kont pc ls st S = some (o, S') → xm_G B D kA sa su p l e R s m args below meth c K0 N0 Q S' pc ls st S) (hrows : ∀ pc r, xm_fetch q.2.2.2.2.2 pc = some r → xm_okR N q r = true)
    {pc i a b c1 e1 hh : Nat} {ls st r : List Value} {S : xm_PS} (hd : decode q.2.1 pc = .ok (.invokespecial i, 3)) (hok : (match N a with
      | some q1 => decide (q1.2.1 = 3) && decide (q1.2.2 = b) && decide (xm_w e1 = some (.methodLink q.1.cls i q1.1)) && decide (q.1.cls = RJ4) && decide (q1.1 ∈ xm_supL)
      | none => false) = true) (hbl : b ≤ st.length) (hst : st.drop b = .ref hh :: r) (hO : xm_isO S (.ref hh) 11 = true) (h : xm_call call kont (xm_kx q.2.2.2.2.2 q.2.2.2.2.1 kont pc ls) pc ls r S a (.ref hh :: (st.take b).reverse) c1 = some (o, S')) : xm_G B D kA sa su p l e R s m args below meth c K0 N0 Q S' pc ls st S := by
  obtain ⟨hexec, hb, hown, hts, hml, htab, hmn, hKn, hsu, hfr, hlo⟩ := id hCx
  rw [hN a] at hok
  split at hok
  · next q1 hq1 =>
    obtain ⟨r1, hr1, rfl⟩ := Option.map_eq_some_iff.mp hq1
    simp only [Bool.and_eq_true, Bool.or_eq_true, decide_eq_true_eq] at hok
    obtain ⟨⟨⟨⟨hk0, hkb⟩, hlink⟩, hcl4⟩, hsup⟩ := hok
    unfold xm_call at h
    obtain ⟨hlen, h⟩ := xm_ite_some h
    obtain ⟨⟨o1, S1⟩, ho1, h⟩ := xm_bind_some h
    obtain ⟨hm, d2, q2, hq2, hfr2, hlo2, hMet⟩ := hcall _ _ _ _ _ (by omega) ho1
    cases hr1.symm.trans hq2
    obtain ⟨g1, g2, g3, g4, g5, g6, g7, g8, g9, g10, g10b, g11, g12, g13⟩ := hMok a r1 hr1 (by omega)
    refine xm_o_run (a := #[]) hCx hMq hRc hRs hEnd hk hrows hm h (fun _ _ _ z => z) fun H locs cells slots lsR hR hS hl hz hc hs => ?_
    have hgd := xm_gw_good g6
    have hnl : (((st.take b).reverse).map (xm_mv B sa su)).length = b := by
      rw [List.length_map, List.length_reverse, List.length_take]
      omega
    have hsg := xm_sig g3
    rw [hkb] at hsg
    have hR9 : d2 + 6 + 1 ≤ R.frames ∧ 8 + (r1.2.2.1 + 11) + (50 * d2 + 100) ≤ R.locals := ⟨by omega, by omega⟩
    have hnil : r1.2.2.2.2.1 = [] := (g10b hk0).2
    have hcw : xm_cw r1 = .code r1.1 r1.2.1 r1.2.2.1 r1.2.2.2.1 := if_pos hnil
    obtain ⟨fs, hfs⟩ := xm_isO_lt (by omega) hO
    have hrv : ∃ cellB : Cell, H[B + hh]? = some cellB ∧ cellB.vm.isStatics = false ∧ s.vm.findClass RJ4 = some cellB.cls := va_recv hKn.1 hR (q := (RJ4, TJ4, 4)) (ci := 11) rfl (xm_ws_at hfs)
    have hpre := xm_pre (as := .ref hh :: (st.take b).reverse) hKn hR hS hz
    obtain ⟨i1, i2⟩ := xm_sup_ok hts hsup
    have hat := (hKn.1.1 11 (RJ4, TJ4, 4) rfl).2
    exact vx_runSU (b := B + hh) hat (Ts := xm_gw) (own := q.1.cls) (C := RJ4) (bytes := r1.2.1) (maxL := r1.2.2.1) (ret := r1.2.2.2.1) (n := b) ⟨hexec, hb, hml, hown, hts⟩ hMet
      ⟨⟨rfl, rfl, hR9.1, hR9.2, pay_in hts hgd, by rw [hcw]; exact List.mem_cons_self⟩, hts _ (xm_w_gw hlink rfl), i1, by rw [hcl4]; exact i2, hts _ (g8 (by omega)), hts _ g5, by rw [← hcw]; exact hts _ g6, (g10b hk0).1, hsg⟩
      ⟨xm_Pc_blind, hrv, hpre⟩ rfl hnl (hl.trans hml) (xm_stk (B := B) (sa := sa) (su := su) hst) (xm_cat9 hsu rfl hlen) hd ⟨hc, hs⟩
  · cases hok
theorem xm_o_special (hCx : xm_Cx B D kA sa su sc q p l R s m args meth c) (hMq : xm_okH q) (hN : ∀ j, N j = (M j).map (fun r => (r.1, KD j))) (hMok : ∀ j r, M j = some r → (KD j).1 < 4 → xm_okM r (KD j)) (hRc : xm_cn S' ≤ K0 + R.cells) (hRs : xm_sn S' ≤ N0 + R.slots) (hEnd : xm_End B D kA sa su p l e R s m args below meth c K0 N0 Q q o S')
    (hcall : ∀ j as S o1 S1, (KD j).1 < 4 → call j as S = some (o1, S1) → xm_Call B D kA sa su sc M l R j as S o1 S1) (hk : ∀ pc ls st S, kont pc ls st S = some (o, S') → xm_G B D kA sa su p l e R s m args below meth c K0 N0 Q S' pc ls st S) (hrows : ∀ pc r, xm_fetch q.2.2.2.2.2 pc = some r → xm_okR N q r = true)
    {pc i a b e1 hh : Nat} {ls st r : List Value} {S : xm_PS} (hd : decode q.2.1 pc = .ok (.invokespecial i, 3)) (hok : (match N a with
      | some q1 => decide (q1.2.1 = 2) && decide (q1.2.2 = b) && (decide (xm_w e1 = some (.methodLink q.1.cls i q1.1)) || decide (xm_w e1 = some (.methodLinkNest q.1.cls i q1.1 RX10)) || decide (xm_w e1 = some (.methodLinkNest q.1.cls i q1.1 RL)))
      | none => false) = true) (hbl : b ≤ st.length) (hst : st.drop b = .ref hh :: r) (h : xm_call call kont (fun _ _ => none) pc ls r S a (.ref hh :: (st.take b).reverse) 0 = some (o, S')) : xm_G B D kA sa su p l e R s m args below meth c K0 N0 Q S' pc ls st S := by
  obtain ⟨hexec, hb, hown, hts, hml, htab, hmn, hKn, hsu, hfr, hlo⟩ := id hCx
  rw [hN a] at hok
  split at hok
  · next q1 hq1 =>
    obtain ⟨r1, hr1, rfl⟩ := Option.map_eq_some_iff.mp hq1
    simp only [Bool.and_eq_true, Bool.or_eq_true, decide_eq_true_eq] at hok
    obtain ⟨⟨hk0, hkb⟩, hlink⟩ := hok
    unfold xm_call at h
    obtain ⟨hlen, h⟩ := xm_ite_some h
    obtain ⟨⟨o1, S1⟩, ho1, h⟩ := xm_bind_some h
    obtain ⟨hm, d, q2, hq2, hfr2, hlo2, hMet⟩ := hcall _ _ _ _ _ (by omega) ho1
    cases hr1.symm.trans hq2
    obtain ⟨g1, g2, g3, g4, g5, g6, g7, g8, g9, g10, g10b, g11, g12, g13⟩ := hMok a r1 hr1 (by omega)
    obtain ⟨v, rfl⟩ : ∃ v, o1 = .inl v := by
      rcases xm_rr_some h with ⟨v, hv, -⟩ | ⟨x, -, hx⟩
      · exact ⟨v, hv⟩
      · cases hx
    have hM2 := xm_met_of hMet
    refine xm_o_run (a := #[]) hCx hMq hRc hRs hEnd hk hrows hm h (fun _ _ _ z => nomatch z) fun H locs cells slots lsR hR hS hl hz hc hs => ?_
    have hgd := xm_gw_good g6
    have hnl : (((st.take b).reverse).map (xm_mv B sa su)).length = b := by
      rw [List.length_map, List.length_reverse, List.length_take]
      omega
    have hsg := xm_sig g3
    rw [hkb] at hsg
    have hR9 : d + 6 + 1 ≤ R.frames ∧ 8 + (r1.2.2.1 + 11) + (50 * d + 100) ≤ R.locals := ⟨by omega, by omega⟩
    obtain ⟨hin, hret, hnil⟩ := g10 hk0
    have hcw : xm_cw r1 = .code r1.1 r1.2.1 r1.2.2.1 none := by
      rw [← hret]
      exact if_pos hnil
    have hpre := xm_pre (as := .ref hh :: (st.take b).reverse) hKn hR hS hz
    have hsk := xm_stk (B := B) (sa := sa) (su := su) hst
    rcases hlink with (hlink | hlink) | hlink
    · exact xm_vx_of_va (va_runI (b := B + hh) (Ts := xm_gw) (own := q.1.cls) (bytes := r1.2.1) (maxL := r1.2.2.1) (n := b) ⟨hexec, hb, hml, hown, hts⟩ hM2
        ⟨⟨rfl, rfl, hR9.1, hR9.2, pay_in hts hgd, by rw [hcw]; exact List.mem_cons_self, by rw [← hcw]; exact hts _ g6, hts _ g5, g2, hsg, hts _ (xm_w_gw hlink rfl)⟩, hin, hts _ (g8 (by omega))⟩
        ⟨xm_Pc_blind, hpre⟩ rfl hnl (hl.trans hml) hsk (xm_cat9 hsu rfl hlen) hd ⟨hc, hs⟩)
    · have hnw := hKn.2.2.2.2.2.2.2.2.1 _ (xm_w_bw hlink rfl)
      exact xm_vx_of_va (va_runIN (b := B + hh) (Ts := xm_gw) (own := q.1.cls) (host := RX10) (bytes := r1.2.1) (maxL := r1.2.2.1) (n := b) ⟨hexec, hb, hml, hown, hts⟩ hM2
        ⟨va_cnB b hts hgd (by rw [hcw]) rfl rfl hnw (hts _ g5) ⟨g2.1, g2.2, by rw [← hkb]; exact g3⟩ hR9, hin, hts _ (g8 (by omega))⟩
        ⟨xm_Pc_blind, hpre⟩ rfl hnl (hl.trans hml) hsk (xm_cat9 hsu rfl hlen) hd ⟨hc, hs⟩)
    · have hnw := hKn.2.2.2.2.2.2.2.2.1 _ (xm_w_bw hlink rfl)
      exact xm_vx_of_va (va_runIN (b := B + hh) (Ts := xm_gw) (own := q.1.cls) (host := RL) (bytes := r1.2.1) (maxL := r1.2.2.1) (n := b) ⟨hexec, hb, hml, hown, hts⟩ hM2
        ⟨va_cnB b hts hgd (by rw [hcw]) rfl rfl hnw (hts _ g5) ⟨g2.1, g2.2, by rw [← hkb]; exact g3⟩ hR9, hin, hts _ (g8 (by omega))⟩
        ⟨xm_Pc_blind, hpre⟩ rfl hnl (hl.trans hml) hsk (xm_cat9 hsu rfl hlen) hd ⟨hc, hs⟩)
  · cases hok
set_option maxHeartbeats 8000000 in
theorem xm_ops (hCx : xm_Cx B D kA sa su sc q p l R s m args meth c) (hMq : xm_okH q) (hN : ∀ j, N j = (M j).map (fun r => (r.1, KD j))) (hMok : ∀ j r, M j = some r → (KD j).1 < 4 → xm_okM r (KD j))
    (hRc : xm_cn S' ≤ K0 + R.cells) (hRs : xm_sn S' ≤ N0 + R.slots) (hEnd : xm_End B D kA sa su p l e R s m args below meth c K0 N0 Q q o S')
    (hcall : ∀ j as S o1 S1, (KD j).1 < 4 → call j as S = some (o1, S1) → xm_Call B D kA sa su sc M l R j as S o1 S1) (hk : ∀ pc ls st S, kont pc ls st S = some (o, S') → xm_G B D kA sa su p l e R s m args below meth c K0 N0 Q S' pc ls st S)
    (hrows : ∀ pc r, xm_fetch q.2.2.2.2.2 pc = some r → xm_okR N q r = true)
    {pc len a b c1 d e1 : Nat} {ls st : List Value} {S : xm_PS} {ins : Instr} (hd : decode q.2.1 pc = .ok (ins, len)) (hlen : xm_lenOk ins len = true) (hok : xm_okL N q.1 q.2.1 q.2.2.1 q.2.2.2.1 pc ins a b c1 d e1 = true)
    (h : xm_op sc q.2.2.2.2.2 q.2.2.2.2.1 call kont pc a b c1 d ls st S ins = some (o, S')) : xm_G B D kA sa su p l e R s m args below meth c K0 N0 Q S' pc ls st S := by
  obtain ⟨hexec, hb, hown, hts, hml, htab, hmn, hKn, hsu, hfr, hlo⟩ := id hCx
  cases ins
  case aload i =>
    obtain rfl : len = 2 := (of_decide_eq_true (show decide (2 = len) = true from hlen)).symm
    replace h : xm_lA ls i (fun v => kont (pc + 2) ls (v :: st) S) = some (o, S') := h
    rcases xm_lA_some h with ⟨x, hv, h⟩ | ⟨x, hv, hx6, h⟩
    · exact xm_Gs (hk _ _ _ _ h) fun H locs cells slots lsR hL _ _ k => lv_aload hexec hb hd (hL.2.2 _ _ hv (fun z => by cases z) (fun z => by cases z)) k
    · refine xm_Gs (hk _ _ _ _ h) fun H locs cells slots lsR hL _ _ k => ?_
      have h1 := hL.2.2 _ _ hv (fun z => by cases z) (fun z => by cases z)
      rw [List.map_cons, xm_mv_ra (by omega)] at k
      rw [xm_mv_ra (by omega)] at h1
      exact lv_aload hexec hb hd h1 k
  case aload_n i =>
    obtain rfl : len = 1 := (of_decide_eq_true (show decide (1 = len) = true from hlen)).symm
    replace h : xm_lA ls i.val (fun v => kont (pc + 1) ls (v :: st) S) = some (o, S') := h
    rcases xm_lA_some h with ⟨x, hv, h⟩ | ⟨x, hv, hx6, h⟩
    · exact xm_Gs (hk _ _ _ _ h) fun H locs cells slots lsR hL _ _ k => lv_aload_n hexec hb hd rfl (hL.2.2 _ _ hv (fun z => by cases z) (fun z => by cases z)) k
    · refine xm_Gs (hk _ _ _ _ h) fun H locs cells slots lsR hL _ _ k => ?_
      have h1 := hL.2.2 _ _ hv (fun z => by cases z) (fun z => by cases z)
      rw [List.map_cons, xm_mv_ra (by omega)] at k
      rw [xm_mv_ra (by omega)] at h1
      exact lv_aload_n hexec hb hd rfl h1 k
  case iload i =>
    obtain rfl : len = 2 := (of_decide_eq_true (show decide (2 = len) = true from hlen)).symm
    replace h : xm_lI ls i (fun x => kont (pc + 2) ls (.int x :: st) S) = some (o, S') := h
    obtain ⟨x, hv, h⟩ := xm_lI_some h
    exact xm_Gs (hk _ _ _ _ h) fun H locs cells slots lsR hL _ _ k => lv_iload hexec hb hd (hL.2.2 _ _ hv (fun z => by cases z) (fun z => by cases z)) k
  case iload_n i =>
    obtain rfl : len = 1 := (of_decide_eq_true (show decide (1 = len) = true from hlen)).symm
    replace h : xm_lI ls i.val (fun x => kont (pc + 1) ls (.int x :: st) S) = some (o, S') := h
    obtain ⟨x, hv, h⟩ := xm_lI_some h
    exact xm_Gs (hk _ _ _ _ h) fun H locs cells slots lsR hL _ _ k => lv_iload_n hexec hb hd rfl (hL.2.2 _ _ hv (fun z => by cases z) (fun z => by cases z)) k
  case lload i =>
    obtain rfl : len = 2 := (of_decide_eq_true (show decide (2 = len) = true from hlen)).symm
    replace h : xm_lL ls i (fun x => kont (pc + 2) ls (.long x :: st) S) = some (o, S') := h
    obtain ⟨x, hv, hn, h⟩ := xm_lL_some h
    exact xm_Gs (hk _ _ _ _ h) fun H locs cells slots lsR hL _ _ k => lv_lload hexec hb hd (hL.2.2 _ _ hv (fun z => by cases z) (fun _ => hn)) k
  case lload_n i =>
    obtain rfl : len = 1 := (of_decide_eq_true (show decide (1 = len) = true from hlen)).symm
    replace h : xm_lL ls i.val (fun x => kont (pc + 1) ls (.long x :: st) S) = some (o, S') := h
    obtain ⟨x, hv, hn, h⟩ := xm_lL_some h
    exact xm_Gs (hk _ _ _ _ h) fun H locs cells slots lsR hL _ _ k => lv_lload_n hexec hb hd rfl (hL.2.2 _ _ hv (fun z => by cases z) (fun _ => hn)) k
  case dload i =>
    obtain rfl : len = 2 := (of_decide_eq_true (show decide (2 = len) = true from hlen)).symm
    replace h : xm_lD ls i (fun x => kont (pc + 2) ls (.double x :: st) S) = some (o, S') := h
    obtain ⟨x, hv, hn, h⟩ := xm_lD_some h
    exact xm_Gs (hk _ _ _ _ h) fun H locs cells slots lsR hL _ _ k => lv_dload hexec hb hd (hL.2.2 _ _ hv (fun z => by cases z) (fun _ => hn)) k
  case dload_n i =>
    obtain rfl : len = 1 := (of_decide_eq_true (show decide (1 = len) = true from hlen)).symm
    replace h : xm_lD ls i.val (fun x => kont (pc + 1) ls (.double x :: st) S) = some (o, S') := h
    obtain ⟨x, hv, hn, h⟩ := xm_lD_some h
    exact xm_Gs (hk _ _ _ _ h) fun H locs cells slots lsR hL _ _ k => lv_dload_n hexec hb hd rfl (hL.2.2 _ _ hv (fun z => by cases z) (fun _ => hn)) k
  case fload i =>
    obtain rfl : len = 2 := (of_decide_eq_true (show decide (2 = len) = true from hlen)).symm
    replace h : xm_lF ls i (fun x => kont (pc + 2) ls (.float x :: st) S) = some (o, S') := h
    obtain ⟨x, hv, h⟩ := xm_lF_some h
    exact xm_Gs (hk _ _ _ _ h) fun H locs cells slots lsR hL _ _ k => lv_fload hexec hb hd (hL.2.2 _ _ hv (fun z => by cases z) (fun z => by cases z)) k
  case fload_n i =>
    obtain rfl : len = 1 := (of_decide_eq_true (show decide (1 = len) = true from hlen)).symm
    replace h : xm_lF ls i.val (fun x => kont (pc + 1) ls (.float x :: st) S) = some (o, S') := h
    obtain ⟨x, hv, h⟩ := xm_lF_some h
    exact xm_Gs (hk _ _ _ _ h) fun H locs cells slots lsR hL _ _ k => lv_fload_n hexec hb hd rfl (hL.2.2 _ _ hv (fun z => by cases z) (fun z => by cases z)) k
  case fstore i =>
    obtain rfl : len = 2 := (of_decide_eq_true (show decide (2 = len) = true from hlen)).symm
    replace h : xm_pF st (fun x r => kont (pc + 2) (ls.set i (.float x)) r S) = some (o, S') := h
    have hi : i < q.2.2.1 := of_decide_eq_true hok
    obtain ⟨x, r, hst0, h0⟩ := xm_pF_some h
    clear h
    subst hst0
    have h := h0
    clear h0
    exact xm_Gl (hk _ _ _ _ h) (List.length_set ..) fun H locs cells slots lsR hL hl k => lv_fstore hexec hb hd hL.has (by omega) rfl fun ls' h' => k ls' (xm_LR.set1 (v := .float x) hsu (by omega) rfl (fun z => by cases z) h')
  case lstore i =>
    obtain rfl : len = 2 := (of_decide_eq_true (show decide (2 = len) = true from hlen)).symm
    replace h : xm_pL st (fun x r => if i + 1 < ls.length then kont (pc + 2) ((ls.set i (.long x)).set (i + 1) .null) r S else none) = some (o, S') := h
    obtain ⟨x, r, hst0, h0⟩ := xm_pL_some h
    clear h
    subst hst0
    have h := h0
    clear h0
    obtain ⟨hi, h⟩ := xm_ite_some h
    exact xm_Gl (hk _ _ _ _ h) (by rw [List.length_set, List.length_set]) fun H locs cells slots lsR hL hl k => lv_lstore hexec hb hd hL.has (by omega) rfl fun ls' h' => k ls' (xm_LR.set2 (v := .long x) hsu (by omega) (fun z => by cases z) h')
  case lstore_n i =>
    obtain rfl : len = 1 := (of_decide_eq_true (show decide (1 = len) = true from hlen)).symm
    replace h : xm_pL st (fun x r => if i.val + 1 < ls.length then kont (pc + 1) ((ls.set i.val (.long x)).set (i.val + 1) .null) r S else none) = some (o, S') := h
    obtain ⟨x, r, hst0, h0⟩ := xm_pL_some h
    clear h
    subst hst0
    have h := h0
    clear h0
    obtain ⟨hi, h⟩ := xm_ite_some h
    exact xm_Gl (hk _ _ _ _ h) (by rw [List.length_set, List.length_set]) fun H locs cells slots lsR hL hl k => lv_lstore_n hexec hb hd rfl hL.has (by omega) rfl fun ls' h' => k ls' (xm_LR.set2 (v := .long x) hsu (by omega) (fun z => by cases z) h')
  case istore i =>
    obtain rfl : len = 2 := (of_decide_eq_true (show decide (2 = len) = true from hlen)).symm
    replace h : xm_pI st (fun x r => kont (pc + 2) (ls.set i (.int x)) r S) = some (o, S') := h
    have hi : i < q.2.2.1 := of_decide_eq_true hok
    obtain ⟨x, r, hst0, h0⟩ := xm_pI_some h
    clear h
    subst hst0
    have h := h0
    clear h0
    exact xm_Gl (hk _ _ _ _ h) (List.length_set ..) fun H locs cells slots lsR hL hl k => lv_istore hexec hb hd hL.has (by omega) rfl fun ls' h' => k ls' (xm_LR.set1 hsu (by omega) rfl (fun z => by cases z) h')
  case istore_n i =>
    obtain rfl : len = 1 := (of_decide_eq_true (show decide (1 = len) = true from hlen)).symm
    replace h : xm_pI st (fun x r => kont (pc + 1) (ls.set i.val (.int x)) r S) = some (o, S') := h
    have hi : i.val < q.2.2.1 := of_decide_eq_true hok
    obtain ⟨x, r, hst0, h0⟩ := xm_pI_some h
    clear h
    subst hst0
    have h := h0
    clear h0
    exact xm_Gl (hk _ _ _ _ h) (List.length_set ..) fun H locs cells slots lsR hL hl k => lv_istore_n hexec hb hd rfl hL.has (by omega) rfl fun ls' h' => k ls' (xm_LR.set1 hsu (by omega) rfl (fun z => by cases z) h')
  case astore i =>
    obtain rfl : len = 2 := (of_decide_eq_true (show decide (2 = len) = true from hlen)).symm
    replace h : xm_pR st (fun x r => kont (pc + 2) (ls.set i (.ref x)) r S) = some (o, S') := h
    have hi : i < q.2.2.1 := of_decide_eq_true hok
    obtain ⟨x, r, hst0, h0⟩ := xm_pR_some h
    clear h
    subst hst0
    have h := h0
    clear h0
    exact xm_Gl (hk _ _ _ _ h) (List.length_set ..) fun H locs cells slots lsR hL hl k => lv_astore hexec hb hd hL.has (by omega) rfl fun ls' h' => k ls' (xm_LR.set1 (v := .ref x) hsu (by omega) rfl (fun z => by cases z) h')
  case astore_n i =>
    obtain rfl : len = 1 := (of_decide_eq_true (show decide (1 = len) = true from hlen)).symm
    replace h : xm_pR st (fun x r => kont (pc + 1) (ls.set i.val (.ref x)) r S) = some (o, S') := h
    have hi : i.val < q.2.2.1 := of_decide_eq_true hok
    obtain ⟨x, r, hst0, h0⟩ := xm_pR_some h
    clear h
    subst hst0
    have h := h0
    clear h0
    exact xm_Gl (hk _ _ _ _ h) (List.length_set ..) fun H locs cells slots lsR hL hl k => lv_astore_n hexec hb hd rfl hL.has (by omega) rfl fun ls' h' => k ls' (xm_LR.set1 (v := .ref x) hsu (by omega) rfl (fun z => by cases z) h')
  case dstore i =>
    obtain rfl : len = 2 := (of_decide_eq_true (show decide (2 = len) = true from hlen)).symm
    replace h : xm_pD st (fun x r => if i + 1 < ls.length then kont (pc + 2) ((ls.set i (.double x)).set (i + 1) .null) r S else none) = some (o, S') := h
    obtain ⟨x, r, hst0, h0⟩ := xm_pD_some h
    clear h
    subst hst0
    have h := h0
    clear h0
    obtain ⟨hi, h⟩ := xm_ite_some h
    exact xm_Gl (hk _ _ _ _ h) (by rw [List.length_set, List.length_set]) fun H locs cells slots lsR hL hl k => lv_dstore hexec hb hd hL.has hi rfl fun ls' h' => k ls' (xm_LR.set2 (v := .double x) hsu hi (fun z => by cases z) h')
  case dstore_n i =>
    obtain rfl : len = 1 := (of_decide_eq_true (show decide (1 = len) = true from hlen)).symm
    replace h : xm_pD st (fun x r => if i.val + 1 < ls.length then kont (pc + 1) ((ls.set i.val (.double x)).set (i.val + 1) .null) r S else none) = some (o, S') := h
    obtain ⟨x, r, hst0, h0⟩ := xm_pD_some h
    clear h
    subst hst0
    have h := h0
    clear h0
    obtain ⟨hi, h⟩ := xm_ite_some h
    exact xm_Gl (hk _ _ _ _ h) (by rw [List.length_set, List.length_set]) fun H locs cells slots lsR hL hl k => lv_dstore_n hexec hb hd rfl hL.has hi rfl fun ls' h' => k ls' (xm_LR.set2 (v := .double x) hsu hi (fun z => by cases z) h')
  case iinc i n =>
    obtain rfl : len = 3 := (of_decide_eq_true (show decide (3 = len) = true from hlen)).symm
    replace h : xm_lI ls i (fun x => kont (pc + 3) (ls.set i (.int (x + Int32.ofInt n))) st S) = some (o, S') := h
    have hi : i < q.2.2.1 := of_decide_eq_true hok
    obtain ⟨x, hv, h⟩ := xm_lI_some h
    refine xm_Gl (hk _ _ _ _ h) (List.length_set ..) fun H locs cells slots lsR hL hl k => ?_
    obtain ⟨k1, hk1⟩ := List.getElem?_of_mem ((xm_lv_mem (B := B) (sa := sa) (su := su) (ls := ls) (q := (i, .int x))).mpr ⟨.int x, hv, (fun z => by cases z), (fun z => by cases z), rfl⟩)
    exact lv_iinc hexec hb hd hL.has hk1 rfl (by omega) rfl fun ls' h' => k ls' (xm_LR.set1 hsu (by omega) rfl (fun z => by cases z) h')
  case iconst n =>
    obtain rfl : len = 1 := (of_decide_eq_true (show decide (1 = len) = true from hlen)).symm
    exact xm_Gs (hk _ _ _ _ h) fun H locs cells slots lsR _ _ _ k => lv_iconst hexec hb hd rfl k
  case bipush n =>
    obtain rfl : len = 2 := (of_decide_eq_true (show decide (2 = len) = true from hlen)).symm
    exact xm_Gs (hk _ _ _ _ h) fun H locs cells slots lsR _ _ _ k => lv_bipush hexec hb hd rfl k
  case sipush n =>
    obtain rfl : len = 3 := (of_decide_eq_true (show decide (3 = len) = true from hlen)).symm
    exact xm_Gs (hk _ _ _ _ h) fun H locs cells slots lsR _ _ _ k => lv_sipush hexec hb hd rfl k
  case lconst n =>
    obtain rfl : len = 1 := (of_decide_eq_true (show decide (1 = len) = true from hlen)).symm
    exact xm_Gs (hk _ _ _ _ h) fun H locs cells slots lsR _ _ _ k => lv_lconst hexec hb hd rfl k
  case fconst n =>
    obtain rfl : len = 1 := (of_decide_eq_true (show decide (1 = len) = true from hlen)).symm
    obtain rfl : n = 0 := of_decide_eq_true hok
    exact xm_Gs (hk _ _ _ _ h) fun H locs cells slots lsR _ _ _ k => lv_fconst0 hexec hb hd k
  case dconst n =>
    obtain rfl : len = 1 := (of_decide_eq_true (show decide (1 = len) = true from hlen)).symm
    obtain rfl : n = 0 := of_decide_eq_true hok
    exact xm_Gs (hk _ _ _ _ h) fun H locs cells slots lsR _ _ _ k => lv_dconst0 hexec hb hd k
  case ldc i =>
    obtain rfl : len = 2 := (of_decide_eq_true (show decide (2 = len) = true from hlen)).symm
    dsimp only [xm_op] at h
    dsimp only [xm_okL] at hok
    split at h
    · exact xm_Gs (hk _ _ _ _ h) fun H locs cells slots lsR _ _ _ k => lv_ldc hexec hb hown (hts _ (xm_w_gw (of_decide_eq_true hok) rfl)) hd k
    · next hb0 =>
      have hok : (decide (a < 26) && (match xm_sr[a]? with
        | some r => decide (r.1 = q.1.cls) && decide (r.2.1 = i)
        | none => false)) = true := by
        cases b with
        | zero => exact absurd rfl hb0
        | succ b => exact hok
      rw [Bool.and_eq_true] at hok
      obtain ⟨ha, hok⟩ := hok
      split at hok
      · next r hr =>
        rw [Bool.and_eq_true] at hok
        have h1 : r.1 = q.1.cls := of_decide_eq_true hok.1
        have h2 : r.2.1 = i := of_decide_eq_true hok.2
        refine xm_Gs (hk _ _ _ _ h) fun H locs cells slots lsR _ _ _ k => ?_
        have ha : a < 26 := of_decide_eq_true ha
        rw [List.map_cons, xm_mv_ra (by omega)] at k
        have hZ := hKn.2.1 a r hr
        rw [h1, h2] at hZ
        exact va_ldcS hexec hb hown hZ hd k
      · cases hok
  case ldc_w i =>
    obtain rfl : len = 3 := (of_decide_eq_true (show decide (3 = len) = true from hlen)).symm
    dsimp only [xm_op] at h
    dsimp only [xm_okL] at hok
    split at h
    · exact xm_Gs (hk _ _ _ _ h) fun H locs cells slots lsR _ _ _ k => lv_ldcw hexec hb hown (hts _ (xm_w_gw (of_decide_eq_true hok) rfl)) hd k
    · next hb0 =>
      have hok : (decide (a < 26) && (match xm_sr[a]? with
        | some r => decide (r.1 = q.1.cls) && decide (r.2.1 = i)
        | none => false)) = true := by
        cases b with
        | zero => exact absurd rfl hb0
        | succ b => exact hok
      rw [Bool.and_eq_true] at hok
      obtain ⟨ha, hok⟩ := hok
      split at hok
      · next r hr =>
        rw [Bool.and_eq_true] at hok
        have h1 : r.1 = q.1.cls := of_decide_eq_true hok.1
        have h2 : r.2.1 = i := of_decide_eq_true hok.2
        refine xm_Gs (hk _ _ _ _ h) fun H locs cells slots lsR _ _ _ k => ?_
        have ha : a < 26 := of_decide_eq_true ha
        rw [List.map_cons, xm_mv_ra (by omega)] at k
        have hZ := hKn.2.1 a r hr
        rw [h1, h2] at hZ
        exact xm_ldcSw hexec hb hown hZ hd k
      · cases hok
  case ldc2_w i =>
    obtain rfl : len = 3 := (of_decide_eq_true (show decide (3 = len) = true from hlen)).symm
    exact xm_Gs (hk _ _ _ _ h) fun H locs cells slots lsR _ _ _ k => lv_ldc2 hexec hb hown (hts _ (xm_w_gw (of_decide_eq_true hok) rfl)) hd k
  case iadd =>
    obtain rfl : len = 1 := (of_decide_eq_true (show decide (1 = len) = true from hlen)).symm
    obtain ⟨y, r, hst0, h0⟩ := xm_pI_some h
    clear h
    subst hst0
    have h := h0
    clear h0
    obtain ⟨x, r, hst0, h0⟩ := xm_pI_some h
    clear h
    subst hst0
    have h := h0
    clear h0
    exact xm_Gs (hk _ _ _ _ h) fun H locs cells slots lsR _ _ _ k => lv_iadd hexec hb hd k
  case isub =>
    obtain rfl : len = 1 := (of_decide_eq_true (show decide (1 = len) = true from hlen)).symm
    obtain ⟨y, r, hst0, h0⟩ := xm_pI_some h
    clear h
    subst hst0
    have h := h0
    clear h0
    obtain ⟨x, r, hst0, h0⟩ := xm_pI_some h
    clear h
    subst hst0
    have h := h0
    clear h0
    exact xm_Gs (hk _ _ _ _ h) fun H locs cells slots lsR _ _ _ k => lv_isub hexec hb hd k
  case imul =>
    obtain rfl : len = 1 := (of_decide_eq_true (show decide (1 = len) = true from hlen)).symm
    obtain ⟨y, r, hst0, h0⟩ := xm_pI_some h
    clear h
    subst hst0
    have h := h0
    clear h0
    obtain ⟨x, r, hst0, h0⟩ := xm_pI_some h
    clear h
    subst hst0
    have h := h0
    clear h0
    exact xm_Gs (hk _ _ _ _ h) fun H locs cells slots lsR _ _ _ k => lv_imul hexec hb hd k
  case iand =>
    obtain rfl : len = 1 := (of_decide_eq_true (show decide (1 = len) = true from hlen)).symm
    obtain ⟨y, r, hst0, h0⟩ := xm_pI_some h
    clear h
    subst hst0
    have h := h0
    clear h0
    obtain ⟨x, r, hst0, h0⟩ := xm_pI_some h
    clear h
    subst hst0
    have h := h0
    clear h0
    exact xm_Gs (hk _ _ _ _ h) fun H locs cells slots lsR _ _ _ k => lv_iand hexec hb hd k
  case ior =>
    obtain rfl : len = 1 := (of_decide_eq_true (show decide (1 = len) = true from hlen)).symm
    obtain ⟨y, r, hst0, h0⟩ := xm_pI_some h
    clear h
    subst hst0
    have h := h0
    clear h0
    obtain ⟨x, r, hst0, h0⟩ := xm_pI_some h
    clear h
    subst hst0
    have h := h0
    clear h0
    exact xm_Gs (hk _ _ _ _ h) fun H locs cells slots lsR _ _ _ k => lv_ior hexec hb hd k
  case ixor =>
    obtain rfl : len = 1 := (of_decide_eq_true (show decide (1 = len) = true from hlen)).symm
    obtain ⟨y, r, hst0, h0⟩ := xm_pI_some h
    clear h
    subst hst0
    have h := h0
    clear h0
    obtain ⟨x, r, hst0, h0⟩ := xm_pI_some h
    clear h
    subst hst0
    have h := h0
    clear h0
    exact xm_Gs (hk _ _ _ _ h) fun H locs cells slots lsR _ _ _ k => lv_ixor hexec hb hd k
  case ishl =>
    obtain rfl : len = 1 := (of_decide_eq_true (show decide (1 = len) = true from hlen)).symm
    obtain ⟨y, r, hst0, h0⟩ := xm_pI_some h
    clear h
    subst hst0
    have h := h0
    clear h0
    obtain ⟨x, r, hst0, h0⟩ := xm_pI_some h
    clear h
    subst hst0
    have h := h0
    clear h0
    exact xm_Gs (hk _ _ _ _ h) fun H locs cells slots lsR _ _ _ k => lv_ishl hexec hb hd k
  case ishr =>
    obtain rfl : len = 1 := (of_decide_eq_true (show decide (1 = len) = true from hlen)).symm
    obtain ⟨y, r, hst0, h0⟩ := xm_pI_some h
    clear h
    subst hst0
    have h := h0
    clear h0
    obtain ⟨x, r, hst0, h0⟩ := xm_pI_some h
    clear h
    subst hst0
    have h := h0
    clear h0
    exact xm_Gs (hk _ _ _ _ h) fun H locs cells slots lsR _ _ _ k => lv_ishr hexec hb hd k
  case iushr =>
    obtain rfl : len = 1 := (of_decide_eq_true (show decide (1 = len) = true from hlen)).symm
    obtain ⟨y, r, hst0, h0⟩ := xm_pI_some h
    clear h
    subst hst0
    have h := h0
    clear h0
    obtain ⟨x, r, hst0, h0⟩ := xm_pI_some h
    clear h
    subst hst0
    have h := h0
    clear h0
    exact xm_Gs (hk _ _ _ _ h) fun H locs cells slots lsR _ _ _ k => lv_iushr hexec hb hd rfl k
  case idiv =>
    obtain rfl : len = 1 := (of_decide_eq_true (show decide (1 = len) = true from hlen)).symm
    obtain ⟨y, r, hst0, h0⟩ := xm_pI_some h
    clear h
    subst hst0
    have h := h0
    clear h0
    obtain ⟨x, r, hst0, h0⟩ := xm_pI_some h
    clear h
    subst hst0
    have h := h0
    clear h0
    obtain ⟨hy, h⟩ := xm_ite_some' h
    exact xm_Gs (hk _ _ _ _ h) fun H locs cells slots lsR _ _ _ k => lv_idiv hexec hb hd hy k
  case irem =>
    obtain rfl : len = 1 := (of_decide_eq_true (show decide (1 = len) = true from hlen)).symm
    obtain ⟨y, r, hst0, h0⟩ := xm_pI_some h
    clear h
    subst hst0
    have h := h0
    clear h0
    obtain ⟨x, r, hst0, h0⟩ := xm_pI_some h
    clear h
    subst hst0
    have h := h0
    clear h0
    obtain ⟨hy, h⟩ := xm_ite_some' h
    exact xm_Gs (hk _ _ _ _ h) fun H locs cells slots lsR _ _ _ k => lv_irem hexec hb hd hy k
  case i2l =>
    obtain rfl : len = 1 := (of_decide_eq_true (show decide (1 = len) = true from hlen)).symm
    obtain ⟨x, r, hst0, h0⟩ := xm_pI_some h
    clear h
    subst hst0
    have h := h0
    clear h0
    exact xm_Gs (hk _ _ _ _ h) fun H locs cells slots lsR _ _ _ k => lv_i2l hexec hb hd rfl k
  case i2b =>
    obtain rfl : len = 1 := (of_decide_eq_true (show decide (1 = len) = true from hlen)).symm
    obtain ⟨x, r, hst0, h0⟩ := xm_pI_some h
    clear h
    subst hst0
    have h := h0
    clear h0
    exact xm_Gs (hk _ _ _ _ h) fun H locs cells slots lsR _ _ _ k => lv_i2b hexec hb hd rfl k
  case i2c =>
    obtain rfl : len = 1 := (of_decide_eq_true (show decide (1 = len) = true from hlen)).symm
    obtain ⟨x, r, hst0, h0⟩ := xm_pI_some h
    clear h
    subst hst0
    have h := h0
    clear h0
    exact xm_Gs (hk _ _ _ _ h) fun H locs cells slots lsR _ _ _ k => lv_i2c hexec hb hd rfl k
  case i2f =>
    obtain rfl : len = 1 := (of_decide_eq_true (show decide (1 = len) = true from hlen)).symm
    obtain ⟨x, r, hst0, h0⟩ := xm_pI_some h
    clear h
    subst hst0
    have h := h0
    clear h0
    exact xm_Gs (hk _ _ _ _ h) fun H locs cells slots lsR _ _ _ k => lv_i2f hexec hb hd k
  case i2d =>
    obtain rfl : len = 1 := (of_decide_eq_true (show decide (1 = len) = true from hlen)).symm
    obtain ⟨x, r, hst0, h0⟩ := xm_pI_some h
    clear h
    subst hst0
    have h := h0
    clear h0
    exact xm_Gs (hk _ _ _ _ h) fun H locs cells slots lsR _ _ _ k => lv_i2d hexec hb hd k
  case l2i =>
    obtain rfl : len = 1 := (of_decide_eq_true (show decide (1 = len) = true from hlen)).symm
    obtain ⟨x, r, hst0, h0⟩ := xm_pL_some h
    clear h
    subst hst0
    have h := h0
    clear h0
    exact xm_Gs (hk _ _ _ _ h) fun H locs cells slots lsR _ _ _ k => lv_l2i hexec hb hd rfl k
  case f2d =>
    obtain rfl : len = 1 := (of_decide_eq_true (show decide (1 = len) = true from hlen)).symm
    obtain ⟨x, r, hst0, h0⟩ := xm_pF_some h
    clear h
    subst hst0
    have h := h0
    clear h0
    obtain ⟨hn, h⟩ := xm_ite_some h
    exact xm_Gs (hk _ _ _ _ h) fun H locs cells slots lsR _ _ _ k => lv_f2d hexec hb hd hn k
  case fdiv =>
    obtain rfl : len = 1 := (of_decide_eq_true (show decide (1 = len) = true from hlen)).symm
    obtain ⟨y, r, hst0, h0⟩ := xm_pF_some h
    clear h
    subst hst0
    have h := h0
    clear h0
    obtain ⟨x, r, hst0, h0⟩ := xm_pF_some h
    clear h
    subst hst0
    have h := h0
    clear h0
    obtain ⟨hn, h⟩ := xm_ite_some h
    exact xm_Gs (hk _ _ _ _ h) fun H locs cells slots lsR _ _ _ k => lv_fdiv hexec hb hd hn k
  case ddiv =>
    obtain rfl : len = 1 := (of_decide_eq_true (show decide (1 = len) = true from hlen)).symm
    obtain ⟨y, r, hst0, h0⟩ := xm_pD_some h
    clear h
    subst hst0
    have h := h0
    clear h0
    obtain ⟨x, r, hst0, h0⟩ := xm_pD_some h
    clear h
    subst hst0
    have h := h0
    clear h0
    obtain ⟨hn, h⟩ := xm_ite_some h
    exact xm_Gs (hk _ _ _ _ h) fun H locs cells slots lsR _ _ _ k => lv_ddiv hexec hb hd hn k
  case dcmp op =>
    obtain rfl : len = 1 := (of_decide_eq_true (show decide (1 = len) = true from hlen)).symm
    obtain ⟨y, r, hst0, h0⟩ := xm_pD_some h
    clear h
    subst hst0
    have h := h0
    clear h0
    obtain ⟨x, r, hst0, h0⟩ := xm_pD_some h
    clear h
    subst hst0
    have h := h0
    clear h0
    exact xm_Gs (hk _ _ _ _ h) fun H locs cells slots lsR _ _ _ k => lv_dcmp hexec hb hd k
  case ladd =>
    obtain rfl : len = 1 := (of_decide_eq_true (show decide (1 = len) = true from hlen)).symm
    obtain ⟨y, r, hst0, h0⟩ := xm_pL_some h
    clear h
    subst hst0
    have h := h0
    clear h0
    obtain ⟨x, r, hst0, h0⟩ := xm_pL_some h
    clear h
    subst hst0
    have h := h0
    clear h0
    exact xm_Gs (hk _ _ _ _ h) fun H locs cells slots lsR _ _ _ k => lv_ladd hexec hb hd k
  case lsub =>
    obtain rfl : len = 1 := (of_decide_eq_true (show decide (1 = len) = true from hlen)).symm
    obtain ⟨y, r, hst0, h0⟩ := xm_pL_some h
    clear h
    subst hst0
    have h := h0
    clear h0
    obtain ⟨x, r, hst0, h0⟩ := xm_pL_some h
    clear h
    subst hst0
    have h := h0
    clear h0
    exact xm_Gs (hk _ _ _ _ h) fun H locs cells slots lsR _ _ _ k => lv_lsub hexec hb hd k
  case lmul =>
    obtain rfl : len = 1 := (of_decide_eq_true (show decide (1 = len) = true from hlen)).symm
    obtain ⟨y, r, hst0, h0⟩ := xm_pL_some h
    clear h
    subst hst0
    have h := h0
    clear h0
    obtain ⟨x, r, hst0, h0⟩ := xm_pL_some h
    clear h
    subst hst0
    have h := h0
    clear h0
    exact xm_Gs (hk _ _ _ _ h) fun H locs cells slots lsR _ _ _ k => lv_lmul hexec hb hd k
  case land =>
    obtain rfl : len = 1 := (of_decide_eq_true (show decide (1 = len) = true from hlen)).symm
    obtain ⟨y, r, hst0, h0⟩ := xm_pL_some h
    clear h
    subst hst0
    have h := h0
    clear h0
    obtain ⟨x, r, hst0, h0⟩ := xm_pL_some h
    clear h
    subst hst0
    have h := h0
    clear h0
    exact xm_Gs (hk _ _ _ _ h) fun H locs cells slots lsR _ _ _ k => lv_land hexec hb hd k
  case lor =>
    obtain rfl : len = 1 := (of_decide_eq_true (show decide (1 = len) = true from hlen)).symm
    obtain ⟨y, r, hst0, h0⟩ := xm_pL_some h
    clear h
    subst hst0
    have h := h0
    clear h0
    obtain ⟨x, r, hst0, h0⟩ := xm_pL_some h
    clear h
    subst hst0
    have h := h0
    clear h0
    exact xm_Gs (hk _ _ _ _ h) fun H locs cells slots lsR _ _ _ k => lv_lor hexec hb hd k
  case lcmp =>
    obtain rfl : len = 1 := (of_decide_eq_true (show decide (1 = len) = true from hlen)).symm
    obtain ⟨y, r, hst0, h0⟩ := xm_pL_some h
    clear h
    subst hst0
    have h := h0
    clear h0
    obtain ⟨x, r, hst0, h0⟩ := xm_pL_some h
    clear h
    subst hst0
    have h := h0
    clear h0
    exact xm_Gs (hk _ _ _ _ h) fun H locs cells slots lsR _ _ _ k => W.lcmp hexec hb hd k
  case dup =>
    obtain rfl : len = 1 := (of_decide_eq_true (show decide (1 = len) = true from hlen)).symm
    dsimp only [xm_op] at h
    split at h
    · exact xm_Gs (hk _ _ _ _ h) fun H locs cells slots lsR _ _ _ k => lv_dup hexec hb hd rfl k
    · exact xm_Gs (hk _ _ _ _ h) fun H locs cells slots lsR _ _ _ k => lv_dup hexec hb hd rfl k
    · cases h
  case dup2 =>
    obtain rfl : len = 1 := (of_decide_eq_true (show decide (1 = len) = true from hlen)).symm
    dsimp only [xm_op] at h
    split at h
    · exact xm_Gs (hk _ _ _ _ h) fun H locs cells slots lsR _ _ _ k => lv_dup2_11 hexec hb hd rfl rfl k
    · cases h
  case pop =>
    obtain rfl : len = 1 := (of_decide_eq_true (show decide (1 = len) = true from hlen)).symm
    dsimp only [xm_op] at h
    split at h
    · exact xm_Gs (hk _ _ _ _ h) fun H locs cells slots lsR _ _ _ k => lv_pop hexec hb hd rfl k
    · exact xm_Gs (hk _ _ _ _ h) fun H locs cells slots lsR _ _ _ k => lv_pop hexec hb hd rfl k
    · cases h
  case dup_x1 =>
    obtain rfl : len = 1 := (of_decide_eq_true (show decide (1 = len) = true from hlen)).symm
    dsimp only [xm_op] at h
    split at h
    · exact xm_Gs (hk _ _ _ _ h) fun H locs cells slots lsR _ _ _ k => lv_dup_x1 hexec hb hd rfl rfl k
    · cases h
  case aconst_null =>
    obtain rfl : len = 1 := (of_decide_eq_true (show decide (1 = len) = true from hlen)).symm
    exact xm_Gs (hk _ _ _ _ h) fun H locs cells slots lsR _ _ _ k => lv_null hexec hb hd k
  case ifnull off =>
    obtain rfl : len = 3 := (of_decide_eq_true (show decide (3 = len) = true from hlen)).symm
    dsimp only [xm_op] at h
    split at h
    · exact xm_Gs (hk _ _ _ _ h) fun H locs cells slots lsR _ _ _ k => lv_ifnull hexec hb hd k
    · cases h
  case ifnonnull off =>
    obtain rfl : len = 3 := (of_decide_eq_true (show decide (3 = len) = true from hlen)).symm
    dsimp only [xm_op] at h
    split at h
    · obtain ⟨t, ht, h⟩ := xm_go_some h
      exact xm_Gs (hk _ _ _ _ h) fun H locs cells slots lsR _ _ _ k => lv_ifnonnull hexec hb hd ht k
    · obtain ⟨hk6, h⟩ := xm_ite_some h
      obtain ⟨t, ht, h⟩ := xm_go_some h
      refine xm_Gs (hk _ _ _ _ h) fun H locs cells slots lsR _ _ _ k => ?_
      rw [List.map_cons, xm_mv_ra (by omega)]
      exact lv_ifnonnull hexec hb hd ht k
    · cases h
  case checkcast i =>
    obtain rfl : len = 3 := (of_decide_eq_true (show decide (3 = len) = true from hlen)).symm
    obtain ⟨hh, r, hst0, h0⟩ := xm_pR_some h
    clear h
    subst hst0
    have h := h0
    clear h0
    obtain ⟨qa, hg, h⟩ := xm_bind_some h
    have hc := xm_gA_some (n := qa.1) (f := qa.2) hg
    exact xm_Gs (hk _ _ _ _ h) fun H locs cells slots lsR _ hS hR k => va_castA (nm := "[B") hexec hb hown (hts _ (xm_w_gw (of_decide_eq_true hok) rfl)) hR hh (xm_ws_at hc) (xm_cB hKn) hd k
  case fcmp op =>
    obtain rfl : len = 1 := (of_decide_eq_true (show decide (1 = len) = true from hlen)).symm
    obtain ⟨y, r, hst0, h0⟩ := xm_pF_some h
    clear h
    subst hst0
    have h := h0
    clear h0
    obtain ⟨x, r, hst0, h0⟩ := xm_pF_some h
    clear h
    subst hst0
    have h := h0
    clear h0
    exact xm_Gs (hk _ _ _ _ h) fun H locs cells slots lsR _ _ _ k => lv_fcmp hexec hb hd k
  case ineg =>
    obtain rfl : len = 1 := (of_decide_eq_true (show decide (1 = len) = true from hlen)).symm
    obtain ⟨x, r, hst0, h0⟩ := xm_pI_some h
    clear h
    subst hst0
    have h := h0
    clear h0
    exact xm_Gs (hk _ _ _ _ h) fun H locs cells slots lsR _ _ _ k => lv_ineg hexec hb hd k
  case goto off =>
    obtain rfl : len = 3 := (of_decide_eq_true (show decide (3 = len) = true from hlen)).symm
    obtain ⟨t, ht, h⟩ := xm_go_some h
    exact xm_Gs (hk _ _ _ _ h) fun H locs cells slots lsR _ _ _ k => lv_goto hexec hb hd ht k
  case ifCond cd off =>
    obtain rfl : len = 3 := (of_decide_eq_true (show decide (3 = len) = true from hlen)).symm
    have hoff : 0 ≤ (pc : Int) + off := of_decide_eq_true hok
    have ht0 : (pc : Int) + off = (((pc : Int) + off).toNat : Int) := (Int.toNat_of_nonneg hoff).symm
    obtain ⟨x, r, hst0, h0⟩ := xm_pI_some h
    clear h
    subst hst0
    have h := h0
    clear h0
    cases cd <;> dsimp only [xm_cI] at h <;> split at h
    · next hc =>
      obtain ⟨t, ht, h⟩ := xm_go_some h
      exact xm_Gs (hk _ _ _ _ h) fun H locs cells slots lsR _ _ _ k => lv_if_eq hexec hb hd ht (fun _ => k) (fun z => absurd hc z)
    · next hc =>
      exact xm_Gs (hk _ _ _ _ h) fun H locs cells slots lsR _ _ _ k => lv_if_eq hexec hb hd ht0 (fun z => absurd z hc) (fun _ => k)
    · next hc =>
      exact xm_Gs (hk _ _ _ _ h) fun H locs cells slots lsR _ _ _ k => lv_if_ne hexec hb hd ht0 (fun z => absurd hc z) (fun _ => k)
    · next hc =>
      obtain ⟨t, ht, h⟩ := xm_go_some h
      exact xm_Gs (hk _ _ _ _ h) fun H locs cells slots lsR _ _ _ k => lv_if_ne hexec hb hd ht (fun _ => k) (fun z => absurd z hc)
    · next hc =>
      obtain ⟨t, ht, h⟩ := xm_go_some h
      exact xm_Gs (hk _ _ _ _ h) fun H locs cells slots lsR _ _ _ k => lv_if_lt hexec hb hd ht (fun _ => k) (fun z => absurd hc z)
    · next hc =>
      exact xm_Gs (hk _ _ _ _ h) fun H locs cells slots lsR _ _ _ k => lv_if_lt hexec hb hd ht0 (fun z => absurd z hc) (fun _ => k)
    · next hc =>
      obtain ⟨t, ht, h⟩ := xm_go_some h
      exact xm_Gs (hk _ _ _ _ h) fun H locs cells slots lsR _ _ _ k => lv_if_ge hexec hb hd ht (fun _ => k) (fun z => absurd hc z)
    · next hc =>
      exact xm_Gs (hk _ _ _ _ h) fun H locs cells slots lsR _ _ _ k => lv_if_ge hexec hb hd ht0 (fun z => absurd z hc) (fun _ => k)
    · next hc =>
      obtain ⟨t, ht, h⟩ := xm_go_some h
      exact xm_Gs (hk _ _ _ _ h) fun H locs cells slots lsR _ _ _ k => lv_if_gt hexec hb hd ht (fun _ => k) (fun z => absurd hc z)
    · next hc =>
      exact xm_Gs (hk _ _ _ _ h) fun H locs cells slots lsR _ _ _ k => lv_if_gt hexec hb hd ht0 (fun z => absurd z hc) (fun _ => k)
    · next hc =>
      obtain ⟨t, ht, h⟩ := xm_go_some h
      exact xm_Gs (hk _ _ _ _ h) fun H locs cells slots lsR _ _ _ k => lv_if_le hexec hb hd ht (fun _ => k) (fun z => absurd hc z)
    · next hc =>
      exact xm_Gs (hk _ _ _ _ h) fun H locs cells slots lsR _ _ _ k => lv_if_le hexec hb hd ht0 (fun z => absurd z hc) (fun _ => k)
  case if_icmp cd off =>
    obtain rfl : len = 3 := (of_decide_eq_true (show decide (3 = len) = true from hlen)).symm
    have hoff : 0 ≤ (pc : Int) + off := of_decide_eq_true hok
    have ht0 : (pc : Int) + off = (((pc : Int) + off).toNat : Int) := (Int.toNat_of_nonneg hoff).symm
    obtain ⟨y, r, hst0, h0⟩ := xm_pI_some h
    clear h
    subst hst0
    have h := h0
    clear h0
    obtain ⟨x, r, hst0, h0⟩ := xm_pI_some h
    clear h
    subst hst0
    have h := h0
    clear h0
    cases cd <;> dsimp only [xm_cI] at h <;> split at h
    · next hc =>
      obtain ⟨t, ht, h⟩ := xm_go_some h
      exact xm_Gs (hk _ _ _ _ h) fun H locs cells slots lsR _ _ _ k => lv_icmp_eq hexec hb hd ht (fun _ => k) (fun z => absurd hc z)
    · next hc =>
      exact xm_Gs (hk _ _ _ _ h) fun H locs cells slots lsR _ _ _ k => lv_icmp_eq hexec hb hd ht0 (fun z => absurd z hc) (fun _ => k)
    · next hc =>
      exact xm_Gs (hk _ _ _ _ h) fun H locs cells slots lsR _ _ _ k => lv_icmp_ne hexec hb hd ht0 (fun z => absurd hc z) (fun _ => k)
    · next hc =>
      obtain ⟨t, ht, h⟩ := xm_go_some h
      exact xm_Gs (hk _ _ _ _ h) fun H locs cells slots lsR _ _ _ k => lv_icmp_ne hexec hb hd ht (fun _ => k) (fun z => absurd z hc)
    · next hc =>
      obtain ⟨t, ht, h⟩ := xm_go_some h
      exact xm_Gs (hk _ _ _ _ h) fun H locs cells slots lsR _ _ _ k => lv_icmp_lt hexec hb hd ht (fun _ => k) (fun z => absurd hc z)
    · next hc =>
      exact xm_Gs (hk _ _ _ _ h) fun H locs cells slots lsR _ _ _ k => lv_icmp_lt hexec hb hd ht0 (fun z => absurd z hc) (fun _ => k)
    · next hc =>
      obtain ⟨t, ht, h⟩ := xm_go_some h
      exact xm_Gs (hk _ _ _ _ h) fun H locs cells slots lsR _ _ _ k => lv_icmp_ge hexec hb hd ht (fun _ => k) (fun z => absurd hc z)
    · next hc =>
      exact xm_Gs (hk _ _ _ _ h) fun H locs cells slots lsR _ _ _ k => lv_icmp_ge hexec hb hd ht0 (fun z => absurd z hc) (fun _ => k)
    · next hc =>
      obtain ⟨t, ht, h⟩ := xm_go_some h
      exact xm_Gs (hk _ _ _ _ h) fun H locs cells slots lsR _ _ _ k => lv_icmp_gt hexec hb hd ht (fun _ => k) (fun z => absurd hc z)
    · next hc =>
      exact xm_Gs (hk _ _ _ _ h) fun H locs cells slots lsR _ _ _ k => lv_icmp_gt hexec hb hd ht0 (fun z => absurd z hc) (fun _ => k)
    · next hc =>
      obtain ⟨t, ht, h⟩ := xm_go_some h
      exact xm_Gs (hk _ _ _ _ h) fun H locs cells slots lsR _ _ _ k => lv_icmp_le hexec hb hd ht (fun _ => k) (fun z => absurd hc z)
    · next hc =>
      exact xm_Gs (hk _ _ _ _ h) fun H locs cells slots lsR _ _ _ k => lv_icmp_le hexec hb hd ht0 (fun z => absurd z hc) (fun _ => k)
  case tableswitch df lo hi offs =>
    have hhi : hi + 1 = lo + (offs.size : Int) := of_decide_eq_true hok
    obtain ⟨x, r, hst0, h0⟩ := xm_pI_some h
    clear h
    subst hst0
    have h := h0
    clear h0
    rcases xm_ts_some h with ⟨h1, h⟩ | ⟨h1, h2, f, h3, h⟩
    · obtain ⟨t, ht, h⟩ := xm_go_some h
      rw [Array.length_toList] at h1
      exact xm_Gs (hk _ _ _ _ h) fun H locs cells slots lsR _ _ _ k => lv_tableOut hexec hb hd (by omega) ht k
    · obtain ⟨t, ht, h⟩ := xm_go_some h
      rw [Array.length_toList] at h2
      exact xm_Gs (hk _ _ _ _ h) fun H locs cells slots lsR _ _ _ k => lv_tableIn hexec hb hd h1 (by omega) (by rw [← Array.getElem?_toList]; exact h3) ht k
  case lookupswitch df ps =>
    obtain ⟨x, r, hst0, h0⟩ := xm_pI_some h
    clear h
    subst hst0
    have h := h0
    clear h0
    have h := xm_ls_some h
    obtain ⟨t, ht, h⟩ := xm_go_some h
    exact xm_Gs (hk _ _ _ _ h) fun H locs cells slots lsR _ _ _ k => lv_lookup hexec hb hd (of_decide_eq_true hok) rfl ht k
  case getfield i =>
    obtain rfl : len = 3 := (of_decide_eq_true (show decide (3 = len) = true from hlen)).symm
    dsimp only [xm_op] at h
    split at h
    · obtain ⟨hh, r, hst0, h0⟩ := xm_pR_some h
      clear h
      subst hst0
      have h := h0
      clear h0
      obtain ⟨x, hg, h⟩ := xm_bind_some h
      obtain ⟨fs, hc, hf⟩ := xm_gI_some hg
      exact xm_o_get (d1 := d) hCx hd hok hc hf (hk _ _ _ _ h)
    · obtain ⟨hh, r, hst0, h0⟩ := xm_pR_some h
      clear h
      subst hst0
      have h := h0
      clear h0
      obtain ⟨x, hg, h⟩ := xm_bind_some h
      obtain ⟨fs, hc, hf⟩ := xm_gR_some hg
      exact xm_o_get (d1 := d) hCx hd hok hc hf (hk _ _ _ _ h)
    · split at h
      · next hh r =>
        obtain ⟨x, hg, h⟩ := xm_bind_some h
        obtain ⟨fs, hc, hf⟩ := xm_gR_some hg
        exact xm_o_get (d1 := 0) hCx hd (a := 10) (b := 0) hok hc hf (hk _ _ _ _ h)
      · next k0 r =>
        obtain ⟨hk0, h⟩ := xm_ite_some h
        refine xm_Gs (hk _ _ _ _ h) fun H locs cells slots lsR _ hS _ k => ?_
        rw [List.map_cons, xm_mv_ra (by omega)] at k ⊢
        exact vk_getf hexec hb (hKn.2.2.1 k0 hk0).2.2.1 hS hown (hts _ (xm_w_gw (of_decide_eq_true hok) rfl)) (fun _ z => z) hd k
      · cases h
    · next hc0 hc1 hc2 =>
      have hok : decide (xm_w e1 = some (.fieldLink q.1.cls i RJ0 "coder" "B")) = true := by
        match c1, hc0, hc1, hc2 with
        | 0, z, _, _ => exact absurd rfl z
        | 1, _, z, _ => exact absurd rfl z
        | 2, _, _, z => exact absurd rfl z
        | _ + 3, _, _, _ => exact hok
      split at h
      · next hh r =>
        obtain ⟨x, hg, h⟩ := xm_bind_some h
        obtain ⟨fs, hc, hf⟩ := xm_gI_some hg
        exact xm_o_get (d1 := 0) hCx hd (a := 10) (b := 1) hok hc hf (hk _ _ _ _ h)
      · next k0 r =>
        obtain ⟨hk0, h⟩ := xm_ite_some h
        refine xm_Gs (hk _ _ _ _ h) fun H locs cells slots lsR _ hS _ k => ?_
        rw [List.map_cons, xm_mv_ra (by omega)]
        exact vk_getf hexec hb (hKn.2.2.1 k0 hk0).2.1 hS hown (hts _ (xm_w_gw (of_decide_eq_true hok) rfl)) (fun _ z => z) hd k
      · cases h
  case putfield i =>
    obtain rfl : len = 3 := (of_decide_eq_true (show decide (3 = len) = true from hlen)).symm
    dsimp only [xm_op] at h
    split at h
    · obtain ⟨x, r, hst0, h0⟩ := xm_pI_some h
      clear h
      subst hst0
      have h := h0
      clear h0
      obtain ⟨hh, r, hst0, h0⟩ := xm_pR_some h
      clear h
      subst hst0
      have h := h0
      clear h0
      obtain ⟨S1, hg, h⟩ := xm_bind_some h
      obtain ⟨fs, hc, hf, rfl⟩ := xm_sF_some hg
      exact xm_o_put (d1 := d) (c1 := 0) (v := .int x) hCx hd hok (fun ty hty => by rw [of_decide_eq_true hty]; exact ⟨rfl, rfl⟩) hc hf (hk _ _ _ _ h)
    · obtain ⟨x, r, hst0, h0⟩ := xm_pR_some h
      clear h
      subst hst0
      have h := h0
      clear h0
      obtain ⟨hh, r, hst0, h0⟩ := xm_pR_some h
      clear h
      subst hst0
      have h := h0
      clear h0
      obtain ⟨S1, hg, h⟩ := xm_bind_some h
      obtain ⟨fs, hc, hf, rfl⟩ := xm_sF_some hg
      exact xm_o_put (d1 := d) (c1 := 1) (v := .ref x) hCx hd hok (fun ty hty => by cases ty <;> first | (cases hty; done) | exact ⟨rfl, rfl⟩) hc hf (hk _ _ _ _ h)
    · obtain ⟨x, r, hst0, h0⟩ := xm_pI_some h
      clear h
      subst hst0
      have h := h0
      clear h0
      obtain ⟨hh, r, hst0, h0⟩ := xm_pR_some h
      clear h
      subst hst0
      have h := h0
      clear h0
      obtain ⟨h01, h⟩ := xm_ite_some h
      obtain ⟨S1, hg, h⟩ := xm_bind_some h
      obtain ⟨fs, hc, hf, rfl⟩ := xm_sF_some hg
      refine xm_o_put (d1 := d) (c1 := 2) (v := .int x) hCx hd hok (fun ty hty => ?_) hc hf (hk _ _ _ _ h)
      rw [of_decide_eq_true hty]
      exact ⟨(xm_b01_nar h01).1, (xm_b01_nar h01).2.1⟩
    · next hc0 hc1 hc2 =>
      obtain ⟨x, r, hst0, h0⟩ := xm_pI_some h
      clear h
      subst hst0
      have h := h0
      clear h0
      obtain ⟨hh, r, hst0, h0⟩ := xm_pR_some h
      clear h
      subst hst0
      have h := h0
      clear h0
      obtain ⟨h01, h⟩ := xm_ite_some h
      obtain ⟨S1, hg, h⟩ := xm_bind_some h
      obtain ⟨fs, hc, hf, rfl⟩ := xm_sF_some hg
      refine xm_o_put (d1 := d) (c1 := c1) (v := .int x) hCx hd hok (fun ty hty => ?_) hc hf (hk _ _ _ _ h)
      have hty : ty = .byte := by
        match c1, hc0, hc1, hc2, hty with
        | 0, z, _, _, _ => exact absurd rfl z
        | 1, _, z, _, _ => exact absurd rfl z
        | 2, _, _, z, _ => exact absurd rfl z
        | _ + 3, _, _, _, hty => exact of_decide_eq_true hty
      rw [hty]
      exact xm_byt_nar h01
  case getstatic i =>
    obtain rfl : len = 3 := (of_decide_eq_true (show decide (3 = len) = true from hlen)).symm
    dsimp only [xm_op] at h
    split at h
    · exact xm_Gs (hk _ _ _ _ h) fun H locs cells slots lsR _ hS _ k => va_gets hexec hb hKn.2.2.2.1 hS hown (hts _ (xm_w_gw (of_decide_eq_true hok) rfl)) (fun _ z => z) hd k
    · exact xm_Gs (hk _ _ _ _ h) fun H locs cells slots lsR _ hS _ k => va_gets hexec hb hKn.2.2.2.2.1 hS hown (hts _ (xm_w_gw (of_decide_eq_true hok) rfl)) (fun _ z => z) hd k
    · next ha0 ha1 =>
      have hok : decide (xm_w e1 = some (.fieldLink q.1.cls i RJ6 "DigitOnes" "[B")) = true := by
        match a, ha0, ha1 with
        | 0, z, _ => exact absurd rfl z
        | 1, _, z => exact absurd rfl z
        | _ + 2, _, _ => exact hok
      exact xm_Gs (hk _ _ _ _ h) fun H locs cells slots lsR _ hS _ k => va_gets hexec hb hKn.2.2.2.2.2.2.2.2.2.2.2.1.2.2.1 hS hown (hts _ (xm_w_gw (of_decide_eq_true hok) rfl)) (fun _ z => z) hd k
  case iaload =>
    obtain rfl : len = 1 := (of_decide_eq_true (show decide (1 = len) = true from hlen)).symm
    dsimp only [xm_op] at h
    split at h
    · obtain ⟨i, r, hst0, h0⟩ := xm_pI_some h
      clear h
      subst hst0
      have h := h0
      clear h0
      obtain ⟨hh, r, hst0, h0⟩ := xm_pR_some h
      clear h
      subst hst0
      have h := h0
      clear h0
      obtain ⟨x, hg, h⟩ := xm_bind_some h
      obtain ⟨n, f, hc, hin, rfl⟩ := xm_aI_some hg
      exact xm_Gs (hk _ _ _ _ h) fun H locs cells slots lsR _ hS hR k => va_iald hexec hb hKn.1 hR hh 0 (xm_ws_at hc) rfl hin hd k
    · obtain ⟨i, r, hst0, h0⟩ := xm_pI_some h
      clear h
      subst hst0
      have h := h0
      clear h0
      obtain ⟨k0, r, hst0, h0⟩ := xm_pS_some h
      clear h
      subst hst0
      have h := h0
      clear h0
      obtain ⟨⟨hst0, -, hin⟩, h0⟩ := xm_ite_some h
      clear h
      subst hst0
      have h := h0
      clear h0
      refine xm_Gs (hk _ _ _ _ h) fun H locs cells slots lsR _ hS _ k => ?_
      simp only [List.map_cons]
      rw [xm_mv_ra (by omega)]
      exact va_sld hexec hb hKn.2.2.2.2.2.2.2.1.1 (Nat.lt_of_lt_of_le hKn.2.2.2.2.2.2.2.1.2 hKn.2.2.2.2.2.2.2.2.2.2.2.2) (Nat.not_le.mpr hKn.2.2.2.2.2.2.2.1.2) hS (xm_in_vp hin) hd k
  case baload =>
    obtain rfl : len = 1 := (of_decide_eq_true (show decide (1 = len) = true from hlen)).symm
    dsimp only [xm_op] at h
    split at h
    · obtain ⟨i, r, hst0, h0⟩ := xm_pI_some h
      clear h
      subst hst0
      have h := h0
      clear h0
      obtain ⟨hh, r, hst0, h0⟩ := xm_pR_some h
      clear h
      subst hst0
      have h := h0
      clear h0
      obtain ⟨x, hg, h⟩ := xm_bind_some h
      obtain ⟨n, f, hc, hin, rfl⟩ := xm_aI_some hg
      exact xm_Gs (hk _ _ _ _ h) fun H locs cells slots lsR _ hS hR k => va_bald hexec hb hKn.1 hR hh 1 (xm_ws_at hc) rfl hin hd k
    · obtain ⟨i, r, hst0, h0⟩ := xm_pI_some h
      clear h
      subst hst0
      have h := h0
      clear h0
      obtain ⟨hh, r, hst0, h0⟩ := xm_pR_some h
      clear h
      subst hst0
      have h := h0
      clear h0
      obtain ⟨x, hg, h⟩ := xm_bind_some h
      obtain ⟨n, f, hc, hin, rfl⟩ := xm_aI_some hg
      exact xm_Gs (hk _ _ _ _ h) fun H locs cells slots lsR _ hS hR k => va_zald hexec hb hKn.1 hR hh 3 (xm_ws_at hc) rfl hin hd k
    · obtain ⟨i, r, hst0, h0⟩ := xm_pI_some h
      clear h
      subst hst0
      have h := h0
      clear h0
      split at h
      · next hh r =>
        obtain ⟨x, hg, h⟩ := xm_bind_some h
        obtain ⟨n, f, hc, hin, rfl⟩ := xm_aI_some hg
        exact xm_Gs (hk _ _ _ _ h) fun H locs cells slots lsR _ hS hR k => va_bald hexec hb hKn.1 hR hh 1 (xm_ws_at hc) rfl hin hd k
      · next k0 r =>
        obtain ⟨⟨h1, h2, hin⟩, h⟩ := xm_ite_some h
        refine xm_Gs (hk _ _ _ _ h) fun H locs cells slots lsR _ hS _ k => ?_
        have hT := xm_txt hKn h1 h2
        simp only [List.map_cons]
        rw [xm_mv_ra (by omega)]
        exact va_tb hexec hb hT hS (xm_in_vp hin) rfl hd k
      · cases h
  case laload =>
    obtain rfl : len = 1 := (of_decide_eq_true (show decide (1 = len) = true from hlen)).symm
    obtain ⟨i, r, hst0, h0⟩ := xm_pI_some h
    clear h
    subst hst0
    have h := h0
    clear h0
    obtain ⟨hh, r, hst0, h0⟩ := xm_pR_some h
    clear h
    subst hst0
    have h := h0
    clear h0
    obtain ⟨x, hg, h⟩ := xm_bind_some h
    obtain ⟨n, f, hc, hin, rfl⟩ := xm_aL_some hg
    exact xm_Gs (hk _ _ _ _ h) fun H locs cells slots lsR _ hS hR k => va_lald hexec hb hKn.1 hR hh 2 (xm_ws_at hc) rfl hin hd k
  case aaload =>
    obtain rfl : len = 1 := (of_decide_eq_true (show decide (1 = len) = true from hlen)).symm
    dsimp only [xm_op] at h
    split at h
    · obtain ⟨i, r, hst0, h0⟩ := xm_pI_some h
      clear h
      subst hst0
      have h := h0
      clear h0
      obtain ⟨hh, r, hst0, h0⟩ := xm_pR_some h
      clear h
      subst hst0
      have h := h0
      clear h0
      obtain ⟨x, hg, h⟩ := xm_bind_some h
      obtain ⟨n, f, hc, hin, hx⟩ := xm_aQ_some hg
      refine xm_Gs (hk _ _ _ _ h) fun H locs cells slots lsR _ hS hR k => va_aldq hexec hb hKn.1 hR hh 4 (xm_ws_at hc) rfl hin hd ?_
      rw [hx]
      exact k
    · obtain ⟨i, r, hst0, h0⟩ := xm_pI_some h
      clear h
      subst hst0
      have h := h0
      clear h0
      obtain ⟨hh, r, hst0, h0⟩ := xm_pR_some h
      clear h
      subst hst0
      have h := h0
      clear h0
      obtain ⟨x, hg, h⟩ := xm_bind_some h
      obtain ⟨n, f, hc, hin, hx⟩ := xm_aQ_some hg
      refine xm_Gs (hk _ _ _ _ h) fun H locs cells slots lsR _ hS hR k => va_aldq hexec hb hKn.1 hR hh 5 (xm_ws_at hc) rfl hin hd ?_
      rw [hx]
      exact k
    · obtain ⟨i, r, hst0, h0⟩ := xm_pI_some h
      clear h
      subst hst0
      have h := h0
      clear h0
      obtain ⟨hh, r, hst0, h0⟩ := xm_pR_some h
      clear h
      subst hst0
      have h := h0
      clear h0
      obtain ⟨x, hg, h⟩ := xm_bind_some h
      obtain ⟨n, f, hc, hin, hx⟩ := xm_aQ_some hg
      refine xm_Gs (hk _ _ _ _ h) fun H locs cells slots lsR _ hS hR k => xm_aldg hexec hb hKn.1 hR hh 6 (xm_ws_at hc) rfl hin hd ?_
      rw [hx]
      exact k
  case iastore =>
    obtain rfl : len = 1 := (of_decide_eq_true (show decide (1 = len) = true from hlen)).symm
    obtain ⟨x, r, hst0, h0⟩ := xm_pI_some h
    clear h
    subst hst0
    have h := h0
    clear h0
    obtain ⟨i, r, hst0, h0⟩ := xm_pI_some h
    clear h
    subst hst0
    have h := h0
    clear h0
    obtain ⟨hh, r, hst0, h0⟩ := xm_pR_some h
    clear h
    subst hst0
    have h := h0
    clear h0
    obtain ⟨S1, hg, h⟩ := xm_bind_some h
    obtain ⟨n, f, hc, hin, rfl⟩ := xm_wI_some hg
    exact xm_Gh (hk _ _ _ _ h) hc rfl fun H locs cells slots lsR hR hS _ k => va_iast hexec hb hKn.1 hR xm_ws_D hS hh 0 (xm_ws_at hc) rfl hin hd fun H1 locs1 hP1 _ hS1 => k H1 locs1 hP1 hS1
  case bastore =>
    obtain rfl : len = 1 := (of_decide_eq_true (show decide (1 = len) = true from hlen)).symm
    dsimp only [xm_op] at h
    split at h
    · obtain ⟨x, r, hst0, h0⟩ := xm_pI_some h
      clear h
      subst hst0
      have h := h0
      clear h0
      obtain ⟨i, r, hst0, h0⟩ := xm_pI_some h
      clear h
      subst hst0
      have h := h0
      clear h0
      obtain ⟨hh, r, hst0, h0⟩ := xm_pR_some h
      clear h
      subst hst0
      have h := h0
      clear h0
      obtain ⟨S1, hg, h⟩ := xm_bind_some h
      obtain ⟨n, f, hc, hin, rfl⟩ := xm_wI_some hg
      exact xm_Gh (hk _ _ _ _ h) hc rfl fun H locs cells slots lsR hR hS _ k => va_bast hexec hb hKn.1 hR xm_ws_D hS hh 1 (xm_ws_at hc) rfl hin hd fun H1 locs1 hP1 _ hS1 => k H1 locs1 (by rw [vp_nar_byte] at hP1; exact hP1) hS1
    · obtain ⟨x, r, hst0, h0⟩ := xm_pI_some h
      clear h
      subst hst0
      have h := h0
      clear h0
      obtain ⟨i, r, hst0, h0⟩ := xm_pI_some h
      clear h
      subst hst0
      have h := h0
      clear h0
      obtain ⟨hh, r, hst0, h0⟩ := xm_pR_some h
      clear h
      subst hst0
      have h := h0
      clear h0
      obtain ⟨h01, h⟩ := xm_ite_some h
      obtain ⟨S1, hg, h⟩ := xm_bind_some h
      obtain ⟨n, f, hc, hin, rfl⟩ := xm_wI_some hg
      exact xm_Gh (hk _ _ _ _ h) hc rfl fun H locs cells slots lsR hR hS _ k => va_zast hexec hb hKn.1 hR xm_ws_D hS hh 3 (xm_ws_at hc) rfl hin hd fun H1 locs1 hP1 _ hS1 => k H1 locs1 (by rw [(xm_b01_nar h01).2.2] at hP1; exact hP1) hS1
  case lastore =>
    obtain rfl : len = 1 := (of_decide_eq_true (show decide (1 = len) = true from hlen)).symm
    obtain ⟨x, r, hst0, h0⟩ := xm_pL_some h
    clear h
    subst hst0
    have h := h0
    clear h0
    obtain ⟨i, r, hst0, h0⟩ := xm_pI_some h
    clear h
    subst hst0
    have h := h0
    clear h0
    obtain ⟨hh, r, hst0, h0⟩ := xm_pR_some h
    clear h
    subst hst0
    have h := h0
    clear h0
    obtain ⟨S1, hg, h⟩ := xm_bind_some h
    obtain ⟨n, f, hc, hin, rfl⟩ := xm_wL_some hg
    exact xm_Gh (hk _ _ _ _ h) hc rfl fun H locs cells slots lsR hR hS _ k => va_last hexec hb hKn.1 hR xm_ws_D hS hh 2 (xm_ws_at hc) rfl hin hd fun H1 locs1 hP1 _ hS1 => k H1 locs1 hP1 hS1
  case aastore =>
    obtain rfl : len = 1 := (of_decide_eq_true (show decide (1 = len) = true from hlen)).symm
    dsimp only [xm_op] at h
    split at h
    · obtain ⟨x, r, hst0, h0⟩ := xm_pR_some h
      clear h
      subst hst0
      have h := h0
      clear h0
      obtain ⟨i, r, hst0, h0⟩ := xm_pI_some h
      clear h
      subst hst0
      have h := h0
      clear h0
      obtain ⟨hh, r, hst0, h0⟩ := xm_pR_some h
      clear h
      subst hst0
      have h := h0
      clear h0
      obtain ⟨hO, h⟩ := xm_ite_some h
      obtain ⟨fs, hO⟩ := xm_isO_lt (by omega) hO
      obtain ⟨S1, hg, h⟩ := xm_bind_some h
      obtain ⟨n, f, hc, hin, rfl⟩ := xm_wQ_some hg
      exact xm_Gh (hk _ _ _ _ h) hc rfl fun H locs cells slots lsR hR hS _ k => va_astq hexec hb hKn.1 hR xm_ws_D hS hh 4 x 4 (r := (RX6, TX6, 12)) (xm_ws_at hc) rfl (xm_ws_at hO) rfl hin hd fun H1 locs1 hP1 _ hS1 => k H1 locs1 (by rw [xm_ce_up]; exact hP1) hS1
    · obtain ⟨x, r, hst0, h0⟩ := xm_pR_some h
      clear h
      subst hst0
      have h := h0
      clear h0
      obtain ⟨i, r, hst0, h0⟩ := xm_pI_some h
      clear h
      subst hst0
      have h := h0
      clear h0
      obtain ⟨hh, r, hst0, h0⟩ := xm_pR_some h
      clear h
      subst hst0
      have h := h0
      clear h0
      obtain ⟨hO, h⟩ := xm_ite_some h
      obtain ⟨fs, hO⟩ := xm_isO_lt (by omega) hO
      obtain ⟨S1, hg, h⟩ := xm_bind_some h
      obtain ⟨n, f, hc, hin, rfl⟩ := xm_wQ_some hg
      exact xm_Gh (hk _ _ _ _ h) hc rfl fun H locs cells slots lsR hR hS _ k => va_astq hexec hb hKn.1 hR xm_ws_D hS hh 5 x 9 (r := (RX12, TX12, 6)) (xm_ws_at hc) rfl (xm_ws_at hO) rfl hin hd fun H1 locs1 hP1 _ hS1 => k H1 locs1 (by rw [xm_ce_up]; exact hP1) hS1
    · obtain ⟨x, r, hst0, h0⟩ := xm_pR_some h
      clear h
      subst hst0
      have h := h0
      clear h0
      obtain ⟨i, r, hst0, h0⟩ := xm_pI_some h
      clear h
      subst hst0
      have h := h0
      clear h0
      obtain ⟨hh, r, hst0, h0⟩ := xm_pR_some h
      clear h
      subst hst0
      have h := h0
      clear h0
      obtain ⟨hO, h⟩ := xm_ite_some h
      obtain ⟨S1, hg, h⟩ := xm_bind_some h
      obtain ⟨n, f, hc, hin, rfl⟩ := xm_wQ_some hg
      obtain ⟨qa, hqa⟩ := Option.isSome_iff_exists.mp hO
      have hcx := xm_gA_some (n := qa.1) (f := qa.2) hqa
      exact xm_Gh (hk _ _ _ _ h) hc rfl fun H locs cells slots lsR hR hS _ k => xm_astg hexec hb hKn hR xm_ws_D hS hh x (xm_ws_at hc) (xm_ws_at hcx) hin hd fun H1 locs1 hP1 hS1 => k H1 locs1 (by rw [xm_ce_up]; exact hP1) hS1
  case arraylength =>
    obtain rfl : len = 1 := (of_decide_eq_true (show decide (1 = len) = true from hlen)).symm
    dsimp only [xm_op] at h
    split at h
    · obtain ⟨hh, r, hst0, h0⟩ := xm_pR_some h
      clear h
      subst hst0
      have h := h0
      clear h0
      obtain ⟨x, hg, h⟩ := xm_bind_some h
      obtain ⟨t, ar, hc, ht, rfl⟩ := xm_len_some hg
      refine xm_Gs (hk _ _ _ _ h) fun H locs cells slots lsR _ hS hR k => ?_
      obtain ⟨ty, hty⟩ : ∃ ty, (xm_tys kA)[t]? = some (kA t, ty) := by
        match t, ht with
        | 0, _ => exact ⟨_, rfl⟩
        | 1, _ => exact ⟨_, rfl⟩
        | 2, _ => exact ⟨_, rfl⟩
        | 3, _ => exact ⟨_, rfl⟩
        | 4, _ => exact ⟨_, rfl⟩
        | 5, _ => exact ⟨_, rfl⟩
        | 6, _ => exact ⟨_, rfl⟩
        | _ + 7, z => omega
      exact va_alen hexec hb hKn.1 hR hh t (xm_ws_at hc) hty (by rw [xm_ar_1]) hd k
    · split at h
      · next hh r =>
        obtain ⟨x, hg, h⟩ := xm_bind_some h
        obtain ⟨t, ar, hc, ht, rfl⟩ := xm_len_some hg
        refine xm_Gs (hk _ _ _ _ h) fun H locs cells slots lsR _ hS hR k => ?_
        obtain ⟨ty, hty⟩ : ∃ ty, (xm_tys kA)[t]? = some (kA t, ty) := by
          match t, ht with
          | 0, _ => exact ⟨_, rfl⟩
          | 1, _ => exact ⟨_, rfl⟩
          | 2, _ => exact ⟨_, rfl⟩
          | 3, _ => exact ⟨_, rfl⟩
          | 4, _ => exact ⟨_, rfl⟩
          | 5, _ => exact ⟨_, rfl⟩
          | 6, _ => exact ⟨_, rfl⟩
          | _ + 7, z => omega
        exact va_alen hexec hb hKn.1 hR hh t (xm_ws_at hc) hty (by rw [xm_ar_1]) hd k
      · next k0 r =>
        obtain ⟨⟨h1, h2⟩, h⟩ := xm_ite_some h
        refine xm_Gs (hk _ _ _ _ h) fun H locs cells slots lsR _ hS hR k => ?_
        have hT := xm_txt hKn h1 (by omega)
        rw [List.map_cons, xm_mv_ra (by omega)]
        exact va_tlen hexec hb hT hS rfl hd k
      · cases h
    · obtain ⟨k0, r, hst0, h0⟩ := xm_pS_some h
      clear h
      subst hst0
      have h := h0
      clear h0
      obtain ⟨⟨hst0, -⟩, h0⟩ := xm_ite_some h
      clear h
      subst hst0
      have h := h0
      clear h0
      refine xm_Gs (hk _ _ _ _ h) fun H locs cells slots lsR _ hS hR k => ?_
      rw [List.map_cons, xm_mv_ra (by omega)]
      exact va_slen hexec hb hKn.2.2.2.2.2.2.2.1.1 (Nat.lt_of_lt_of_le hKn.2.2.2.2.2.2.2.1.2 hKn.2.2.2.2.2.2.2.2.2.2.2.2) (Nat.not_le.mpr hKn.2.2.2.2.2.2.2.1.2) hS hd k
  case newarray t =>
    obtain rfl : len = 2 := (of_decide_eq_true (show decide (2 = len) = true from hlen)).symm
    dsimp only [xm_op] at h
    split at h
    · obtain ⟨n, r, hst0, h0⟩ := xm_pI_some h
      clear h
      subst hst0
      have h := h0
      clear h0
      obtain ⟨hn, h⟩ := xm_ite_some' h
      obtain ⟨hn2, h⟩ := xm_ite_some h
      obtain rfl : t = .long := of_decide_eq_true hok
      exact xm_o_newa hCx hRc hRs (ty := .long) hd rfl (t := 2) rfl (fun _ z => z) rfl rfl (fun cA => by rw [vp_cell_l]; rfl) (xm_w_gw (e := 7055) (by decide +kernel) rfl) (by decide) hn hn2 h hk
    · next hc2 =>
      obtain ⟨n, r, hst0, h0⟩ := xm_pI_some h
      clear h
      subst hst0
      have h := h0
      clear h0
      obtain ⟨hn, h⟩ := xm_ite_some' h
      obtain ⟨hn2, h⟩ := xm_ite_some h
      match c1, hc2, hok, h with
      | 0, _, hok, h =>
        obtain rfl : t = .int := of_decide_eq_true hok
        exact xm_o_newa hCx hRc hRs (ty := .int) hd rfl (t := 0) rfl (fun _ z => z) rfl rfl (fun cA => by rw [vp_cell_i]; rfl) (xm_w_gw (e := 1090) (by decide +kernel) rfl) (by decide) hn hn2 h hk
      | 1, _, hok, h =>
        obtain rfl : t = .byte := of_decide_eq_true hok
        exact xm_o_newa hCx hRc hRs (ty := .byte) hd rfl (t := 1) rfl (fun _ z => z) rfl rfl (fun cA => by rw [vp_cell_i]; rfl) (xm_w_gw (e := 2042) (by decide +kernel) rfl) (by decide) hn hn2 h hk
      | 3, _, hok, h =>
        obtain rfl : t = .boolean := of_decide_eq_true hok
        exact xm_o_newa hCx hRc hRs (ty := .boolean) hd rfl (t := 3) rfl (fun _ z => z) rfl rfl (fun cA => by rw [vp_cell_i]; rfl) (xm_w_gw (e := 4220) (by decide +kernel) rfl) (by decide) hn hn2 h hk
      | 2, z, _, _ => exact absurd rfl z
      | _ + 4, _, hok, _ => cases hok
  case anewarray i =>
    obtain rfl : len = 3 := (of_decide_eq_true (show decide (3 = len) = true from hlen)).symm
    dsimp only [xm_op] at h
    obtain ⟨n, r, hst0, h0⟩ := xm_pI_some h
    clear h
    subst hst0
    have h := h0
    clear h0
    obtain ⟨hn, h⟩ := xm_ite_some' h
    obtain ⟨hn2, h⟩ := xm_ite_some h
    match c1, hok, h with
    | 4, hok, h => exact xm_o_anew hCx hRc hRs (C := RX6) (t := 4) (of_decide_eq_true hok) hKn.2.2.2.2.2.2.2.2.2.2.1 rfl hd hn hn2 h hk
    | 5, hok, h => exact xm_o_anew hCx hRc hRs (C := RX12) (t := 5) (of_decide_eq_true hok) hKn.2.2.2.2.2.2.2.2.2.2.2.1.1 rfl hd hn hn2 h hk
    | 6, hok, h => exact xm_o_anewA hCx hRc hRs (t := 6) (of_decide_eq_true hok) hKn.2.2.2.2.2.2.2.2.2.2.2.1.2.1 rfl hd hn hn2 h hk
    | 0, hok, _ => cases hok
    | 1, hok, _ => cases hok
    | 2, hok, _ => cases hok
    | 3, hok, _ => cases hok
    | _ + 7, hok, _ => cases hok
  case new i =>
    obtain rfl : len = 3 := (of_decide_eq_true (show decide (3 = len) = true from hlen)).symm
    dsimp only [xm_op] at h
    split at h
    · dsimp only [xm_okL] at hok
      replace hok : (match vwCl[a]? with
        | some q1 => decide (xm_w e1 = some (.classLink q.1.cls i q1.1))
        | none => false) = true := hok
      split at hok
      · next r hr => exact xm_o_new hCx hRc hRs hr (of_decide_eq_true hok) hd h hk
      · cases hok
    · next hc0 =>
      have hok : xm_okT q.1 q.2.1 pc a b d e1 i = true := by
        match c1, hc0 with
        | 0, z => exact absurd rfl z
        | _ + 1, _ => exact hok
      obtain ⟨⟨hx1, hx2, hst0⟩, h0⟩ := xm_ite_some h
      clear h
      subst hst0
      have h := h0
      clear h0
      cases h
      refine ⟨⟨by simp [xm_cn], by simp only [xm_sn]; omega, id⟩, fun H locs cells slots lsR hR hS hL hcc hss hl _ => ?_⟩
      exact (hEnd H locs cells slots lsR pc hS (hL.1.trans hl)).2 a b d e1 i S _ rfl rfl hx1 hR hcc hss hx2 hd hok (Nat.le_of_ble_eq_true rfl)
  case invokestatic i =>
    obtain rfl : len = 3 := (of_decide_eq_true (show decide (3 = len) = true from hlen)).symm
    dsimp only [xm_op] at h
    split at h
    · dsimp only [xm_okL] at hok
      obtain ⟨hbl, h⟩ := xm_ite_some h
      exact xm_o_static hCx hMq hN hMok hRc hRs hEnd hcall hk hrows hd hok hbl h
    · obtain ⟨y, r, hst0, h0⟩ := xm_pI_some h
      clear h
      subst hst0
      have h := h0
      clear h0
      obtain ⟨x, r, hst0, h0⟩ := xm_pI_some h
      clear h
      subst hst0
      have h := h0
      clear h0
      obtain ⟨hr4, h⟩ := xm_ite_some h
      refine xm_Gm hRc hRs (hk _ _ _ _ h) fun H locs cells slots lsR hl hc hs k => va_mmax hexec hb (by omega) hown (hts _ (xm_w_gw (of_decide_eq_true hok) rfl)) (hts _ xm_jm.1) (hts _ xm_jm.2.1) (hts _ xm_jm.2.2.1) (by omega) (xm_cat5 hr4 (by omega)) hc hs hd k
    · obtain ⟨y, r, hst0, h0⟩ := xm_pI_some h
      clear h
      subst hst0
      have h := h0
      clear h0
      obtain ⟨x, r, hst0, h0⟩ := xm_pI_some h
      clear h
      subst hst0
      have h := h0
      clear h0
      obtain ⟨hr4, h⟩ := xm_ite_some h
      refine xm_Gm hRc hRs (hk _ _ _ _ h) fun H locs cells slots lsR hl hc hs k => va_mmin hexec hb (by omega) hown (hts _ (xm_w_gw (of_decide_eq_true hok) rfl)) (hts _ xm_jm.2.2.2.1) (hts _ xm_jm.2.1) (hts _ xm_jm.2.2.2.2.1) (by omega) (xm_cat5 hr4 (by omega)) hc hs hd k
    · obtain ⟨n, r, hst0, h0⟩ := xm_pI_some h
      clear h
      subst hst0
      have h := h0
      clear h0
      obtain ⟨dp, r, hst0, h0⟩ := xm_pI_some h
      clear h
      subst hst0
      have h := h0
      clear h0
      obtain ⟨h1, r, hst0, h0⟩ := xm_pR_some h
      clear h
      subst hst0
      have h := h0
      clear h0
      obtain ⟨sp, r, hst0, h0⟩ := xm_pI_some h
      clear h
      subst hst0
      have h := h0
      clear h0
      split at h
      · next h0 r =>
        obtain ⟨hr4, h⟩ := xm_ite_some h
        obtain ⟨S1, hg, h⟩ := xm_bind_some h
        obtain ⟨n0, f, n1, g, hc0, hc1, a0, a1, a2, a3, a4, a5, a6, rfl⟩ := xm_copy_some hg
        refine xm_Gh (hk _ _ _ _ h) hc1 rfl fun H locs cells slots lsR hR hS hl k => ?_
        match c1, a0, a6, hc0, hc1, k with
        | 0, _, _, hc0, hc1, k => exact va_copyi hexec hb (by omega) hown (hts _ (xm_w_gw (of_decide_eq_true hok) rfl)) (hts _ xm_jm.2.2.2.2.2.1) (hts _ xm_jm.2.2.2.2.2.2.1) (hts _ xm_jm.2.2.2.2.2.2.2) hKn.1 hR xm_ws_D hS h0 h1 0 0 (xm_ws_at hc0) (xm_ws_at hc1) rfl rfl rfl a1 a2 a3 a4 a5 (fun _ _ => rfl) (by omega) (xm_cat5 hr4 (by rw [xm_nw_eq]; omega)) hd fun H1 locs1 hP1 _ hS1 => k H1 locs1 hP1 hS1
        | 1, _, a6, hc0, hc1, k => exact va_copyi hexec hb (by omega) hown (hts _ (xm_w_gw (of_decide_eq_true hok) rfl)) (hts _ xm_jm.2.2.2.2.2.1) (hts _ xm_jm.2.2.2.2.2.2.1) (hts _ xm_jm.2.2.2.2.2.2.2) hKn.1 hR xm_ws_D hS h0 h1 1 1 (xm_ws_at hc0) (xm_ws_at hc1) rfl rfl rfl a1 a2 a3 a4 a5 (fun _ hi => xm_fitR_at a6 rfl hi) (by omega) (xm_cat5 hr4 (by rw [xm_nw_eq]; omega)) hd fun H1 locs1 hP1 _ hS1 => k H1 locs1 hP1 hS1
        | _ + 2, z, _, _, _, _ => omega
      · next k0 r =>
        obtain ⟨⟨hr4, hst0⟩, h0⟩ := xm_ite_some h
        clear h
        subst hst0
        have h := h0
        clear h0
        obtain ⟨S1, hg, h⟩ := xm_bind_some h
        obtain ⟨n1, g, hc1, hk1, hk2, a1, a2, a3, a4, a5, a6, rfl⟩ := xm_copyT_some hg
        refine xm_Gh (hk _ _ _ _ h) hc1 rfl fun H locs cells slots lsR hR hS hl k => ?_
        have hT := xm_txt hKn hk1 (by omega)
        simp only [List.map_cons]
        rw [xm_mv_ra (by omega)]
        exact vk_copyt hexec hb (by omega) hown (hts _ (xm_w_gw (of_decide_eq_true hok) rfl)) (hts _ xm_jm.2.2.2.2.2.1) (hts _ xm_jm.2.2.2.2.2.2.1) (hts _ xm_jm.2.2.2.2.2.2.2) hKn.1 hR xm_ws_D hS hT h1 1 (xm_ws_at hc1) rfl a1 a2 a3 a4 a5 (fun _ hi => xm_fitR_at a6 rfl hi) (by omega) (xm_cat5 hr4 (by rw [xm_nw_eq]; omega)) hd fun H1 locs1 hP1 _ hS1 => k H1 locs1 hP1 hS1
      · cases h
    · obtain ⟨x, r, hst0, h0⟩ := xm_pD_some h
      clear h
      subst hst0
      have h := h0
      clear h0
      obtain ⟨hr4, h⟩ := xm_ite_some h
      exact xm_Gm hRc hRs (hk _ _ _ _ h) fun H locs cells slots lsR hl hc hs k => vn_d2l hexec hb (by omega) hown (hts _ (xm_w_gw (of_decide_eq_true hok) rfl)) (hts _ xm_jd.1.1) (hts _ xm_jd.1.2.1) (hts _ xm_jd.1.2.2) (by omega) (xm_cat5 hr4 (by omega)) hd k
    · next hd0 hd1 hd2 hd4 hd5 =>
      have hok : decide (xm_w e1 = some (.methodLink q.1.cls i ⟨"java/lang/Float", "floatToRawIntBits", "(F)I"⟩)) = true := by
        match d, hd0, hd1, hd2, hd4, hd5 with
        | 0, z, _, _, _, _ => exact absurd rfl z
        | 1, _, z, _, _, _ => exact absurd rfl z
        | 2, _, _, z, _, _ => exact absurd rfl z
        | 3, _, _, _, _, _ => exact hok
        | 4, _, _, _, z, _ => exact absurd rfl z
        | 5, _, _, _, _, z => exact absurd rfl z
        | _ + 6, _, _, _, _, _ => exact hok
      obtain ⟨x, r, hst0, h0⟩ := xm_pF_some h
      clear h
      subst hst0
      have h := h0
      clear h0
      obtain ⟨hr4, h⟩ := xm_ite_some h
      exact xm_Gm hRc hRs (hk _ _ _ _ h) fun H locs cells slots lsR hl hc hs k => vn_f2i hexec hb (by omega) hown (hts _ (xm_w_gw (of_decide_eq_true hok) rfl)) (hts _ xm_jd.2.1) (hts _ xm_jd.2.2.1) (hts _ xm_jd.2.2.2) (by omega) (xm_cat5 hr4 (by omega)) hd k
  case invokevirtual i =>
    obtain rfl : len = 3 := (of_decide_eq_true (show decide (3 = len) = true from hlen)).symm
    dsimp only [xm_op] at h
    dsimp only [xm_okL] at hok
    split at h
    · obtain ⟨hh, r, hst0, h0⟩ := xm_pR_some h
      clear h
      subst hst0
      have h := h0
      clear h0
      obtain ⟨qa, hg, h⟩ := xm_bind_some h
      obtain ⟨⟨hr4, hfit⟩, h⟩ := xm_ite_some h
      exact xm_o_clone (e1 := e1) hCx hRc hRs (of_decide_eq_true hok) hd (xm_gA_some (n := qa.1) (f := qa.2) hg) hr4 hfit h hk
    · obtain ⟨hbl, h⟩ := xm_ite_some h
      obtain ⟨hh, r, hst', h⟩ := xm_pR_some h
      obtain ⟨hO, h⟩ := xm_ite_some h
      exact xm_o_inh hCx hMq hN hMok hRc hRs hEnd hcall hk hrows hd hok hbl hst' hO h
    · next hd1 hd2 =>
      obtain ⟨hbl, h⟩ := xm_ite_some h
      obtain ⟨v, r, hst', h, hv⟩ := xm_pRS_some h
      obtain ⟨hO, h⟩ := xm_ite_some h
      refine xm_o_virtual (e1 := e1) hCx hMq hN hMok hRc hRs hEnd hcall hk hrows hd ?_ hbl hst' hv hO h
      split at hok
      · exact absurd rfl hd1
      · exact absurd rfl hd2
      · exact hok
  case invokespecial i =>
    obtain rfl : len = 3 := (of_decide_eq_true (show decide (3 = len) = true from hlen)).symm
    dsimp only [xm_op] at h
    dsimp only [xm_okL] at hok
    split at h
    · obtain ⟨hbl, h⟩ := xm_ite_some h
      obtain ⟨hh, r, hst', h⟩ := xm_pR_some h
      exact xm_o_special hCx hMq hN hMok hRc hRs hEnd hcall hk hrows hd hok hbl hst' h
    · obtain ⟨hh, r, hst0, h0⟩ := xm_pR_some h
      clear h
      subst hst0
      have h := h0
      clear h0
      obtain ⟨hr4, h⟩ := xm_ite_some h
      exact xm_Gm hRc hRs (hk _ _ _ _ h) fun H locs cells slots lsR hl hc hs k => W.objInit hexec hb hown (hts _ (xm_w_gw (of_decide_eq_true hok) rfl)) (hts _ xm_jo.1) (hts _ xm_jo.2) rfl (by show lsR.size = _; omega) rfl hd (by omega) (xm_cat6 rfl hr4 (by omega)) k
    · next hd0 hd1 =>
      obtain ⟨hbl, h⟩ := xm_ite_some h
      obtain ⟨hh, r, hst', h⟩ := xm_pR_some h
      obtain ⟨hO, h⟩ := xm_ite_some h
      refine xm_o_super (e1 := e1) hCx hMq hN hMok hRc hRs hEnd hcall hk hrows hd ?_ hbl hst' hO h
      split at hok
      · exact absurd rfl hd0
      · exact absurd rfl hd1
      · exact hok
  case ireturn =>
    obtain rfl : len = 1 := (of_decide_eq_true (show decide (1 = len) = true from hlen)).symm
    obtain ⟨x, r, hst0, h0⟩ := xm_pI_some h
    clear h
    subst hst0
    have h := h0
    clear h0
    obtain ⟨hst0, h0⟩ := xm_ite_some h
    clear h
    subst hst0
    have h := h0
    clear h0
    have key : ∀ ty, q.2.2.2.1 = some ty → narrow ty (.int x) = .int x → some (Sum.inl (some (Value.int x)), S) = some (o, S') → xm_G B D kA sa su p l e R s m args below meth c K0 N0 Q S' pc ls [.int x] S := by
      intro ty h1 h2 h3
      cases h3
      refine ⟨xm_mo.rf, fun H locs cells slots lsR hR hS hL hcc hss hl _ => ?_⟩
      exact ((hEnd H locs cells slots lsR pc hS (hL.1.trans hl)).1 hR hcc hss).1 _ rfl (Or.inr (Or.inl ⟨x, ty, rfl, hd, h1, h2⟩))
    split at h
    · exact key .int (of_decide_eq_true hok) rfl h
    · obtain ⟨h01, h⟩ := xm_ite_some h
      exact key .boolean (of_decide_eq_true hok) (xm_b01_nar h01).1 h
    · obtain ⟨h01, h⟩ := xm_ite_some h
      exact key .char (of_decide_eq_true hok) (by rw [h01]; exact pk_nc x) h
    · next hc0 hc1 hc2 =>
      obtain ⟨h01, h⟩ := xm_ite_some h
      have hok : decide (q.2.2.2.1 = some .byte) = true := by
        match c1, hc0, hc1, hc2 with
        | 0, z, _, _ => exact absurd rfl z
        | 1, _, z, _ => exact absurd rfl z
        | 2, _, _, z => exact absurd rfl z
        | _ + 3, _, _, _ => exact hok
      exact key .byte (of_decide_eq_true hok) (by rw [h01]; exact pk_nb x) h
  case lreturn =>
    obtain rfl : len = 1 := (of_decide_eq_true (show decide (1 = len) = true from hlen)).symm
    obtain ⟨x, r, hst0, h0⟩ := xm_pL_some h
    clear h
    subst hst0
    have h := h0
    clear h0
    obtain ⟨hst0, h0⟩ := xm_ite_some h
    clear h
    subst hst0
    have h := h0
    clear h0
    cases h
    refine ⟨xm_mo.rf, fun H locs cells slots lsR hR hS hL hcc hss hl _ => ?_⟩
    exact ((hEnd H locs cells slots lsR pc hS (hL.1.trans hl)).1 hR hcc hss).1 _ rfl (Or.inr (Or.inr (Or.inr (Or.inl ⟨x, rfl, hd, of_decide_eq_true hok⟩))))
  case freturn =>
    obtain rfl : len = 1 := (of_decide_eq_true (show decide (1 = len) = true from hlen)).symm
    obtain ⟨x, r, hst0, h0⟩ := xm_pF_some h
    clear h
    subst hst0
    have h := h0
    clear h0
    obtain ⟨hst0, h0⟩ := xm_ite_some h
    clear h
    subst hst0
    have h := h0
    clear h0
    cases h
    refine ⟨xm_mo.rf, fun H locs cells slots lsR hR hS hL hcc hss hl _ => ?_⟩
    exact ((hEnd H locs cells slots lsR pc hS (hL.1.trans hl)).1 hR hcc hss).1 _ rfl (Or.inr (Or.inr (Or.inr (Or.inr (Or.inl ⟨x, rfl, hd, of_decide_eq_true hok⟩)))))
  case dreturn =>
    obtain rfl : len = 1 := (of_decide_eq_true (show decide (1 = len) = true from hlen)).symm
    obtain ⟨x, r, hst0, h0⟩ := xm_pD_some h
    clear h
    subst hst0
    have h := h0
    clear h0
    obtain ⟨hst0, h0⟩ := xm_ite_some h
    clear h
    subst hst0
    have h := h0
    clear h0
    cases h
    refine ⟨xm_mo.rf, fun H locs cells slots lsR hR hS hL hcc hss hl _ => ?_⟩
    exact ((hEnd H locs cells slots lsR pc hS (hL.1.trans hl)).1 hR hcc hss).1 _ rfl (Or.inr (Or.inr (Or.inr (Or.inr (Or.inr ⟨x, rfl, hd, of_decide_eq_true hok⟩)))))
  case areturn =>
    obtain rfl : len = 1 := (of_decide_eq_true (show decide (1 = len) = true from hlen)).symm
    obtain ⟨x, r, hst0, h0⟩ := xm_pR_some h
    clear h
    subst hst0
    have h := h0
    clear h0
    obtain ⟨hst0, h0⟩ := xm_ite_some h
    clear h
    subst hst0
    have h := h0
    clear h0
    cases h
    dsimp only [xm_okL] at hok
    split at hok
    · next ty hty =>
      refine ⟨xm_mo.rf, fun H locs cells slots lsR hR hS hL hcc hss hl _ => ?_⟩
      exact ((hEnd H locs cells slots lsR pc hS (hL.1.trans hl)).1 hR hcc hss).1 _ rfl (Or.inr (Or.inr (Or.inl ⟨x, ty, rfl, hd, hty, hok⟩)))
    · cases hok
  case return_ =>
    obtain rfl : len = 1 := (of_decide_eq_true (show decide (1 = len) = true from hlen)).symm
    obtain ⟨hst0, h0⟩ := xm_ite_some h
    clear h
    subst hst0
    have h := h0
    clear h0
    cases h
    refine ⟨xm_mo.rf, fun H locs cells slots lsR hR hS hL hcc hss hl _ => ?_⟩
    exact ((hEnd H locs cells slots lsR pc hS (hL.1.trans hl)).1 hR hcc hss).1 _ rfl (Or.inl ⟨rfl, hd, of_decide_eq_true hok⟩)
  all_goals (cases h; done)
end OPX
