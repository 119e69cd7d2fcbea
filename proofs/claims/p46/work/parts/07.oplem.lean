/-! ONE STEP, kind by kind: each instruction of the pure machine by the kit's row for it. -/
section OP
variable {B : Nat} {D : va_G} {kA : Nat → ClassId} {sa : Nat → Nat} {su : Value} {sc : xm_Sc} {M : Nat → Option xm_MI} {p : Program} {l : Launch} {e : Env} {R : Room} {s : State} {m : MethodId} {args : Array Value} {below : List Frame} {meth : Method} {c : Code} {K0 N0 : Nat} {Q : State → Prop} {q : xm_MI} {S' : xm_PS}
theorem xm_mv_ra {x : Nat} (h : x ≠ 9999) : xm_mv B sa su (.retAddr x) = .ref (sa x) := if_neg h
theorem xm_Gg {pc pc' : Nat} {ls ls' st st' : List Value} {S S1 : xm_PS} (hm : xm_mo S S1) (h : xm_G B D kA sa su p l e R s m args below meth c K0 N0 Q S' pc' ls' st' S1) (hlen : ls'.length = ls.length)
    (hw : ∀ (H : Heap) (locs : List Loc) (cells slots : Nat) (lsR : Array Slot), xm_Rel B D kA sa su S H → va_S (fun q => B ≤ q) s.heap H locs → xm_LR B sa su ls lsR → cells + K0 = xm_cn S → slots + N0 = xm_sn S → ls.length = c.maxLocals → (S.1 = true → s.heap.size ≤ B + K0) →
      (∀ (H' : Heap) (locs' : List Loc) (cells' slots' : Nat) (lsR' : Array Slot), xm_Rel B D kA sa su S1 H' → va_S (fun q => B ≤ q) s.heap H' locs' → xm_LR B sa su ls' lsR' → cells' + K0 = xm_cn S1 → slots' + N0 = xm_sn S1 → W p l e R s m args below meth c H' locs' cells' slots' Q (F0 m pc' lsR' (st'.map (xm_mv B sa su)))) →
      W p l e R s m args below meth c H locs cells slots Q (F0 m pc lsR (st.map (xm_mv B sa su)))) : xm_G B D kA sa su p l e R s m args below meth c K0 N0 Q S' pc ls st S :=
  ⟨hm.tr h.1, fun H locs cells slots lsR hR hS hL hc hs hl hx => hw H locs cells slots lsR hR hS hL hc hs hl hx fun H' locs' cells' slots' lsR' hR' hS' hL' hc' hs' => h.2 H' locs' cells' slots' lsR' hR' hS' hL' hc' hs' (hlen.trans hl) fun e => hx (hm.2.2 e)⟩
/-- a step on the stack alone -/
theorem xm_Gs {pc pc' : Nat} {ls st st' : List Value} {S : xm_PS} (h : xm_G B D kA sa su p l e R s m args below meth c K0 N0 Q S' pc' ls st' S)
    (hw : ∀ (H : Heap) (locs : List Loc) (cells slots : Nat) (lsR : Array Slot), xm_LR B sa su ls lsR → va_S (fun q => B ≤ q) s.heap H locs → xm_Rel B D kA sa su S H → W p l e R s m args below meth c H locs cells slots Q (F0 m pc' lsR (st'.map (xm_mv B sa su))) → W p l e R s m args below meth c H locs cells slots Q (F0 m pc lsR (st.map (xm_mv B sa su)))) : xm_G B D kA sa su p l e R s m args below meth c K0 N0 Q S' pc ls st S :=
  xm_Gg xm_mo.rf h rfl fun H locs cells slots lsR hR hS hL hc hs _ _ k => hw H locs cells slots lsR hL hS hR (k H locs cells slots lsR hR hS hL hc hs)
/-- a step that sets a place among the locals -/
theorem xm_Gl {pc pc' : Nat} {ls ls' st st' : List Value} {S : xm_PS} (h : xm_G B D kA sa su p l e R s m args below meth c K0 N0 Q S' pc' ls' st' S) (hlen : ls'.length = ls.length)
    (hw : ∀ (H : Heap) (locs : List Loc) (cells slots : Nat) (lsR : Array Slot), xm_LR B sa su ls lsR → ls.length = c.maxLocals → (∀ lsR' : Array Slot, xm_LR B sa su ls' lsR' → W p l e R s m args below meth c H locs cells slots Q (F0 m pc' lsR' (st'.map (xm_mv B sa su)))) → W p l e R s m args below meth c H locs cells slots Q (F0 m pc lsR (st.map (xm_mv B sa su)))) : xm_G B D kA sa su p l e R s m args below meth c K0 N0 Q S' pc ls st S :=
  xm_Gg xm_mo.rf h hlen fun H locs cells slots lsR hR hS hL hc hs hl _ k => hw H locs cells slots lsR hL hl fun lsR' hL' => k H locs cells slots lsR' hR hS hL' hc hs
theorem xm_set_sum {l0 : List Nat} {i x : Nat} (h : l0[i]? = some x) : l0.set i x = l0 := by
  apply List.ext_getElem?
  intro j
  rw [List.getElem?_set]
  split
  · next e =>
    subst e
    rw [h]
    split
    · rfl
    · next hn => exact absurd (List.getElem?_eq_some_iff.mp h).1 hn
  · rfl
theorem xm_set_mo {S : xm_PS} {h : Nat} {c0 c1 : xm_PC} (hc : S.2.2[h]? = some c0) (hz : xm_sz c1 = xm_sz c0) : xm_cn (xm_set S h c1) = xm_cn S ∧ xm_sn (xm_set S h c1) = xm_sn S := by
  refine ⟨by simp [xm_cn, xm_set], ?_⟩
  simp only [xm_sn, xm_set, List.map_set]
  rw [xm_set_sum (by rw [List.getElem?_map, hc, hz]; rfl)]
/-- a step that writes one cell -/
theorem xm_Gh {pc pc' h : Nat} {ls st st' : List Value} {S : xm_PS} {c0 c1 : xm_PC} (hk : xm_G B D kA sa su p l e R s m args below meth c K0 N0 Q S' pc' ls st' (xm_set S h c1)) (hc : S.2.2[h]? = some c0) (hz : xm_sz c1 = xm_sz c0)
    (hw : ∀ (H : Heap) (locs : List Loc) (cells slots : Nat) (lsR : Array Slot), xm_Rel B D kA sa su S H → va_S (fun q => B ≤ q) s.heap H locs → lsR.size = c.maxLocals →
      (∀ (H1 : Heap) (locs1 : List Loc), va_P D vwCl ((xm_ws B kA sa su S.2.2).set h (B + h, xm_ce B kA sa su c1)) H1 → va_S (fun q => B ≤ q) s.heap H1 locs1 → W p l e R s m args below meth c H1 locs1 cells slots Q (F0 m pc' lsR (st'.map (xm_mv B sa su)))) →
      W p l e R s m args below meth c H locs cells slots Q (F0 m pc lsR (st.map (xm_mv B sa su)))) : xm_G B D kA sa su p l e R s m args below meth c K0 N0 Q S' pc ls st S := by
  obtain ⟨e1, e2⟩ := xm_set_mo hc hz
  refine xm_Gg ⟨Nat.le_of_eq e1.symm, Nat.le_of_eq e2.symm, id⟩ hk rfl fun H locs cells slots lsR hR hS hL hcc hss hl _ k => hw H locs cells slots lsR hR hS (hL.1.trans hl) fun H1 locs1 hP1 hS1 => k H1 locs1 cells slots lsR ?_ hS1 hL (by rw [e1]; exact hcc) (by rw [e2]; exact hss)
  rw [xm_ws_set] at hP1
  exact hP1
theorem xm_gF_some {S : xm_PS} {h ci k : Nat} {v : Value} (hg : xm_gF S h ci k = some v) : ∃ fs, S.2.2[h]? = some (.inr (ci, fs)) ∧ fs[k]? = some v := by
  unfold xm_gF at hg
  split at hg
  · next c' fs hc =>
    split at hg
    · next e => subst e; exact ⟨fs, hc, hg⟩
    · cases hg
  · cases hg
theorem xm_gI_some {S : xm_PS} {h ci k : Nat} {x : Int32} (hg : xm_gI S h ci k = some x) : ∃ fs, S.2.2[h]? = some (.inr (ci, fs)) ∧ fs[k]? = some (.int x) := by
  unfold xm_gI at hg
  split at hg
  · next y hy => cases hg; exact xm_gF_some hy
  · cases hg
theorem xm_gR_some {S : xm_PS} {h ci k x : Nat} (hg : xm_gR S h ci k = some x) : ∃ fs, S.2.2[h]? = some (.inr (ci, fs)) ∧ fs[k]? = some (.ref x) := by
  unfold xm_gR at hg
  split at hg
  · next y hy => cases hg; exact xm_gF_some hy
  · cases hg
theorem xm_sF_some {S S1 : xm_PS} {h ci k : Nat} {v : Value} (hg : xm_sF S h ci k v = some S1) : ∃ fs, S.2.2[h]? = some (.inr (ci, fs)) ∧ k < fs.length ∧ S1 = xm_set S h (.inr (ci, fs.set k v)) := by
  unfold xm_sF at hg
  split at hg
  · next c' fs hc =>
    split at hg
    · next e => obtain ⟨e, hl⟩ := e; subst e; cases hg; exact ⟨fs, hc, hl, rfl⟩
    · cases hg
  · cases hg
theorem xm_gA_some {S : xm_PS} {h t n : Nat} {f : Nat → Int32} (hg : xm_gA S h t = some (n, f)) : S.2.2[h]? = some (.inl (t, n, .inl f)) := by
  unfold xm_gA at hg
  split at hg
  · next c' n' f' hc =>
    split at hg
    · next e => subst e; cases hg; exact hc
    · cases hg
  · cases hg
theorem xm_gG_some {S : xm_PS} {h n : Nat} {f : Nat → Int64} (hg : xm_gG S h = some (n, f)) : S.2.2[h]? = some (.inl (2, n, .inr (.inl f))) := by
  unfold xm_gG at hg
  split at hg
  · next c' n' f' hc =>
    split at hg
    · next e => subst e; cases hg; exact hc
    · cases hg
  · cases hg
theorem xm_gQ_some {S : xm_PS} {h t n : Nat} {f : Nat → Option Nat} (hg : xm_gQ S h t = some (n, f)) : S.2.2[h]? = some (.inl (t, n, .inr (.inr (.inr (.inr f))))) := by
  unfold xm_gQ at hg
  split at hg
  · next c' n' f' hc =>
    split at hg
    · next e => subst e; cases hg; exact hc
    · cases hg
  · cases hg
theorem xm_aI_some {S : xm_PS} {h t : Nat} {i x : Int32} (hg : xm_aI S h t i = some x) : ∃ n f, S.2.2[h]? = some (.inl (t, n, .inl f)) ∧ vp_in i n ∧ x = f i.toNatClampNeg := by
  unfold xm_aI at hg
  split at hg
  · next n f hc =>
    split at hg
    · next e => cases hg; exact ⟨n, f, xm_gA_some hc, xm_in_vp e, rfl⟩
    · cases hg
  · cases hg
theorem xm_wI_some {S S1 : xm_PS} {h t : Nat} {i x : Int32} (hg : xm_wI S h t i x = some S1) : ∃ n f, S.2.2[h]? = some (.inl (t, n, .inl f)) ∧ vp_in i n ∧ S1 = xm_set S h (.inl (t, n, .inl (upd f i.toNatClampNeg x))) := by
  unfold xm_wI at hg
  split at hg
  · next n f hc =>
    split at hg
    · next e => cases hg; exact ⟨n, f, xm_gA_some hc, xm_in_vp e, rfl⟩
    · cases hg
  · cases hg
theorem xm_aL_some {S : xm_PS} {h : Nat} {i : Int32} {x : Int64} (hg : xm_aL S h i = some x) : ∃ n f, S.2.2[h]? = some (.inl (2, n, .inr (.inl f))) ∧ vp_in i n ∧ x = f i.toNatClampNeg := by
  unfold xm_aL at hg
  split at hg
  · next n f hc =>
    split at hg
    · next e => cases hg; exact ⟨n, f, xm_gG_some hc, xm_in_vp e, rfl⟩
    · cases hg
  · cases hg
theorem xm_wL_some {S S1 : xm_PS} {h : Nat} {i : Int32} {x : Int64} (hg : xm_wL S h i x = some S1) : ∃ n f, S.2.2[h]? = some (.inl (2, n, .inr (.inl f))) ∧ vp_in i n ∧ S1 = xm_set S h (.inl (2, n, .inr (.inl (vp_updL f i.toNatClampNeg x)))) := by
  unfold xm_wL at hg
  split at hg
  · next n f hc =>
    split at hg
    · next e => cases hg; exact ⟨n, f, xm_gG_some hc, xm_in_vp e, rfl⟩
    · cases hg
  · cases hg
theorem xm_aQ_some {S : xm_PS} {h t x : Nat} {i : Int32} (hg : xm_aQ S h t i = some x) : ∃ n f, S.2.2[h]? = some (.inl (t, n, .inr (.inr (.inr (.inr f))))) ∧ vp_in i n ∧ f i.toNatClampNeg = some x := by
  unfold xm_aQ at hg
  split at hg
  · next n f hc =>
    split at hg
    · next e => exact ⟨n, f, xm_gQ_some hc, xm_in_vp e, hg⟩
    · cases hg
  · cases hg
theorem xm_wQ_some {S S1 : xm_PS} {h t x : Nat} {i : Int32} (hg : xm_wQ S h t i x = some S1) : ∃ n f, S.2.2[h]? = some (.inl (t, n, .inr (.inr (.inr (.inr f))))) ∧ vp_in i n ∧ S1 = xm_set S h (.inl (t, n, .inr (.inr (.inr (.inr (va_up f i.toNatClampNeg (some x))))))) := by
  unfold xm_wQ at hg
  split at hg
  · next n f hc =>
    split at hg
    · next e => cases hg; exact ⟨n, f, xm_gQ_some hc, xm_in_vp e, rfl⟩
    · cases hg
  · cases hg
theorem xm_isO_ref {S : xm_PS} {h ci : Nat} (hg : xm_isO S (.ref h) ci = true) : ∃ c fs, S.2.2[h]? = some (.inr (c, fs)) ∧ (c = ci ∨ (ci = 100 ∧ c = 10)) := by
  unfold xm_isO at hg
  dsimp only at hg
  split at hg
  · next c' fs hc =>
    refine ⟨c', fs, hc, ?_⟩
    rw [Bool.or_eq_true, Bool.and_eq_true] at hg
    rcases hg with hg | ⟨h1, h2⟩
    · exact Or.inl (Nat.eq_of_beq_eq_true hg)
    · exact Or.inr ⟨Nat.eq_of_beq_eq_true h1, Nat.eq_of_beq_eq_true h2⟩
  · cases hg
theorem xm_isO_lt {S : xm_PS} {h ci : Nat} (hci : ci < 100) (hg : xm_isO S (.ref h) ci = true) : ∃ fs, S.2.2[h]? = some (.inr (ci, fs)) := by
  obtain ⟨c, fs, h1, h2⟩ := xm_isO_ref hg
  have : c = ci := by omega
  subst this
  exact ⟨fs, h1⟩
theorem xm_ts_some {k : Int → Option xm_O} {d x : Int} {o : xm_O} : ∀ {offs : List Int} {lo : Int}, xm_ts lo offs d x k = some o → ((x < lo ∨ lo + (offs.length : Int) ≤ x) ∧ k d = some o) ∨ (¬ x < lo ∧ x < lo + (offs.length : Int) ∧ ∃ f, offs[(x - lo).toNat]? = some f ∧ k f = some o)
  | [], lo, h => by
    refine Or.inl ⟨?_, h⟩
    simp only [List.length_nil]
    omega
  | f :: r, lo, h => by
    unfold xm_ts at h
    split at h
    · next e =>
      subst e
      refine Or.inr ⟨by omega, by simp only [List.length_cons]; omega, f, ?_, h⟩
      rw [Int.sub_self]
      rfl
    · next ne =>
      rcases xm_ts_some h with ⟨h1, h2⟩ | ⟨h1, h2, g, h3, h4⟩
      · refine Or.inl ⟨?_, h2⟩
        simp only [List.length_cons]
        omega
      · refine Or.inr ⟨by omega, by simp only [List.length_cons]; omega, g, ?_, h4⟩
        rw [show (x - lo).toNat = (x - (lo + 1)).toNat + 1 by omega, List.getElem?_cons_succ]
        exact h3
theorem xm_ls_some {k : Int → Option xm_O} {d x : Int} {o : xm_O} : ∀ {ps : List (Int × Int)}, xm_ls ps d x k = some o → k (Op.lookupswitch.offset ps d x) = some o
  | [], h => h
  | (a, f) :: r, h => by
    unfold xm_ls at h
    rw [Op.lookupswitch.offset_cons]
    split at h
    · next e => rw [if_pos e.symm]; exact h
    · next e => rw [if_neg (Ne.symm e)]; exact xm_ls_some h
theorem xm_b01_nar {x : Int32} (h : xm_b01 x = true) : narrow .boolean (.int x) = .int x ∧ fits .boolean (.int x) = true ∧ vp_nar .boolean x = x := by
  unfold xm_b01 at h
  simp only [Bool.or_eq_true, decide_eq_true_eq] at h
  rcases h with rfl | rfl <;> exact ⟨rfl, rfl, rfl⟩
theorem xm_cl_ok : ∀ r ∈ vwCl, (∀ k, k < r.2.2 → parseFieldDescriptor (r.2.1 k).2.2.1 = some ((parseFieldDescriptor (r.2.1 k).2.2.1).getD .int)) ∧ (∀ a, a < r.2.2 → ∀ b, b < r.2.2 → a ≠ b → (r.2.1 a).2.1 ≠ (r.2.1 b).2.1) ∧ (∀ w ∈ u_ws r.1 r.2.1 r.2.2, w ∈ xm_tbl ∧ goodWord w = true) ∧ (Cond.instantiable r.1 r.2.2 ∈ xm_tbl ∧ Cond.initialized r.1 ∈ xm_tbl) := by decide +kernel
theorem xm_new_ok : ∀ a, a < 12 → ∀ r, vwCl[a]? = some r → (xm_new a).length = r.2.2 ∧ (∀ k, k < r.2.2 → defaultValue ((parseFieldDescriptor (r.2.1 k).2.2.1).getD .int) = vp_V (xm_new a) k) ∧ (∀ v ∈ xm_new a, v = .null ∨ v = .int 0) := by
  have h : ∀ a, a < 12 → (match vwCl[a]? with
    | none => true
    | some r => decide ((xm_new a).length = r.2.2) && (List.range r.2.2).all (fun k => decide (defaultValue ((parseFieldDescriptor (r.2.1 k).2.2.1).getD .int) = vp_V (xm_new a) k)) && (xm_new a).all (fun v => decide (v = .null ∨ v = .int 0))) = true := by decide +kernel
  intro a ha r hr
  have h1 := h a ha
  rw [hr] at h1
  simp only [Bool.and_eq_true, decide_eq_true_eq, List.all_eq_true, List.mem_range] at h1
  exact ⟨h1.1.1, h1.1.2, h1.2⟩
end OP
