/-! RUNS: what a run of the pure machine answers, the real one answers; a contract for every method at once. -/
theorem xm_bw_tab {w : Cond} (h : w ∈ xm_bw) : w.onTables = true := by
  have h2 : xm_isBad w = true := (List.mem_filter.mp h).2
  cases w <;> first | rfl | (cases h2; done)
def xm_ix (x : Nat) : Nat := if x = 0 then 13 else 7
def xm_rx (x : Nat) : ByteArray := if x = 0 then prog_39_method_4_code else prog_25_method_2_code
def xm_names : List String := ["java/lang/RuntimeException", "java/lang/Exception"]


theorem xm_thr0 : (xm_atX RX10 (xm_ic 0) (xm_en 0) 13 prog_39_method_4_code xm_names).all (fun w => (decide (w ∈ xm_gw) || decide (w ∈ xm_bw)) && vx_ot w) = true := by decide +kernel
theorem xm_thr1 : (xm_atX RX10 (xm_ic 1) (xm_en 1) 7 prog_25_method_2_code xm_names).all (fun w => (decide (w ∈ xm_gw) || decide (w ∈ xm_bw)) && vx_ot w) = true := by decide +kernel
theorem xm_thr (x : Nat) (hx : x < 2) : Bundle.fit (xm_en x) = true ∧ (∀ n ∈ xm_names, Bundle.fit n = true) ∧ Cond.initialized (xm_en x) ∈ xm_gw ∧ (∀ w ∈ xm_atX RX10 (xm_ic x) (xm_en x) (xm_ix x) (xm_rx x) xm_names, (w ∈ xm_gw ∨ w ∈ xm_bw) ∧ vx_ot w = true) ∧
    decode (xm_rx x) 0 = .ok (.aload_n 0, 1) ∧ decode (xm_rx x) 1 = .ok (.aload_n 1, 1) ∧ decode (xm_rx x) 2 = .ok (.invokespecial (xm_ix x), 3) ∧ decode (xm_rx x) 5 = .ok (.return_, 1) := by
  have hn : ∀ n ∈ xm_names, Bundle.fit n = true := by decide +kernel
  have key : ∀ L : List Cond, L.all (fun w => (decide (w ∈ xm_gw) || decide (w ∈ xm_bw)) && vx_ot w) = true → ∀ w ∈ L, (w ∈ xm_gw ∨ w ∈ xm_bw) ∧ vx_ot w = true := by
    intro L h w hw
    have h1 := List.all_eq_true.mp h w hw
    simpa only [Bool.and_eq_true, Bool.or_eq_true, decide_eq_true_eq] using h1
  match x, hx with
  | 0, _ => exact ⟨by decide +kernel, hn, List.mem_filter.mpr ⟨by decide +kernel, rfl⟩, key _ xm_thr0, by decide +kernel, by decide +kernel, by decide +kernel, by decide +kernel⟩
  | 1, _ => exact ⟨by decide +kernel, hn, List.mem_filter.mpr ⟨by decide +kernel, rfl⟩, key _ xm_thr1, by decide +kernel, by decide +kernel, by decide +kernel, by decide +kernel⟩
  | _ + 2, z => omega
section RUNS
variable {B : Nat} {D : va_G} {kA : Nat → ClassId} {sa : Nat → Nat} {su : Value} {sc : xm_Sc} {M : Nat → Option xm_MI} {N : Nat → Option (MethodName × Nat × Nat)} {KD : Nat → Nat × Nat} {l : Launch}
/-- what the table of methods must be -/
def xm_Tab (M : Nat → Option xm_MI) (N : Nat → Option (MethodName × Nat × Nat)) (KD : Nat → Nat × Nat) : Prop :=
  (∀ j, N j = (M j).map (fun r => (r.1, KD j))) ∧ (∀ j r, M j = some r → (KD j).1 < 4 → xm_okM r (KD j)) ∧ (∀ j r, M j = some r → xm_okH r) ∧ ∀ j q, M j = some q → ∀ pc r, xm_fetch q.2.2.2.2.2 pc = some r → xm_okR N q r = true
/-- the contracts of all methods, for runs of n steps -/
def xm_P (KD : Nat → Nat × Nat) (B : Nat) (D : va_G) (kA : Nat → ClassId) (sa : Nat → Nat) (su : Value) (sc : xm_Sc) (M : Nat → Option xm_MI) (l : Launch) (n : Nat) : Prop := ∀ (d j : Nat) (r : xm_MI) (as : List Value) (S S1 : xm_PS) (o : Option Value ⊕ Nat), M j = some r → (KD j).1 < 4 → xm_lo r as = true → xm_run sc M n d j 0 (xm_entry r.2.2.1 as) [] S = some (o, S1) →
  vx_Met l r.1 (xm_cw r :: xm_gw) (xm_rm d (xm_cn S1 - xm_cn S) (xm_sn S1 - xm_sn S)) (xm_Pc B D kA sa su sc as S) (xm_Qc B D kA sa su o S1) (xm_XC B D kA sa su o S1) (xm_cn S1 - xm_cn S) (xm_sn S1 - xm_sn S) (fun q => B ≤ q)
theorem xm_run_G (hT : xm_Tab M N KD) {n : Nat} (hP : ∀ k, k < n → xm_P KD B D kA sa su sc M l k) {p : Program} {e : Env} {R : Room} {s : State} {m : MethodId} {args : Array Value} {below : List Frame} {meth : Method} {c : Code} {K0 N0 : Nat} {Q : State → Prop} {q : xm_MI} {S' : xm_PS} {o : Option Value ⊕ Nat} {d i : Nat}
    (hq : M i = some q) (hCx : xm_Cx B D kA sa su sc q p l R s m args meth c) (hRd : d + 6 ≤ R.frames ∧ 50 * d + 100 ≤ R.locals) (hRc : xm_cn S' ≤ K0 + R.cells) (hRs : xm_sn S' ≤ N0 + R.slots) (hEnd : xm_End B D kA sa su p l e R s m args below meth c K0 N0 Q q o S') :
    ∀ k, k ≤ n → ∀ (pc : Nat) (ls st : List Value) (S : xm_PS), xm_run sc M k d i pc ls st S = some (o, S') → xm_G B D kA sa su p l e R s m args below meth c K0 N0 Q S' pc ls st S := by
  intro k
  induction k with
  | zero => intro _ pc ls st S h; cases h
  | succ k ih =>
    intro hk pc ls st S h
    rw [xm_run_s hq] at h
    unfold xm_step at h
    split at h
    · cases h
    · next pc0 ins len a b c1 d1 e1 hf =>
      obtain ⟨hN, hM, hHd, hR⟩ := hT
      have hro := hR i q hq pc _ hf
      unfold xm_okR at hro
      simp only [Bool.and_eq_true] at hro
      obtain ⟨h1, h2, h3⟩ := hro
      obtain ⟨hpc0, -⟩ := xm_fetch_some hf
      have hpc0 : pc0 = pc := hpc0
      subst hpc0
      refine xm_ops hCx (hHd i q hq) hN hM hRc hRs hEnd (fun j as S o1 S1 hkd hc => ?_) (fun pc ls st S h => ih (by omega) pc ls st S h) (hR i q hq) (of_decide_eq_true h1) h2 h3 h
      unfold xm_c at hc
      cases d with
      | zero => cases hc
      | succ d' =>
        dsimp only at hc
        cases hj : M j with
        | none => rw [hj] at hc; cases hc
        | some r =>
          rw [hj] at hc
          dsimp only at hc
          obtain ⟨hlo, hc⟩ := xm_ite_some hc
          exact ⟨xm_up_run _ _ _ _ _ _ _ _ hc, d', r, hj, by omega, by omega, hP k (by omega) d' j r as S S1 o1 hj hkd hlo hc⟩
theorem xm_all (hT : xm_Tab M N KD) (hl : l.stackTraces = false) (hsu : su.category = 1) : ∀ n, xm_P KD B D kA sa su sc M l n := by
  intro n
  induction n using Nat.strongRecOn with
  | _ n hP =>
    intro d j r as S S1 o hj hkd hlo hrun
    have hmo : xm_mo S S1 := xm_up_run _ _ _ _ _ _ _ _ hrun
    obtain ⟨g1, g2, g3, g4, g5, g6, g7, g8, g9, g10, g10b, g11, g12, g13⟩ := hT.2.1 j r hj hkd
    have body : ∀ p e s m args below meth c s₁, BodyLoose p l r.1 (headSpec (xm_cw r :: xm_gw) (xm_rm d (xm_cn S1 - xm_cn S) (xm_sn S1 - xm_sn S))) r.2.1 r.2.2.1 r.2.2.2.1 e s m args below meth c s₁ → c.maxLocals = r.2.2.1 → xm_Pc B D kA sa su sc as S args s → c.exceptionTable.toList = tableOf (xm_hh r.2.2.2.2.1) →
        W p l e (headSpec (xm_cw r :: xm_gw) (xm_rm d (xm_cn S1 - xm_cn S) (xm_sn S1 - xm_sn S))).room s m args below meth c s.heap [] 0 0 (vx_MQ below (xm_Qc B D kA sa su o S1) (xm_XC B D kA sa su o S1) args s (xm_cn S1 - xm_cn S) (xm_sn S1 - xm_sn S) (fun q => B ≤ q)) (entryFrame m args r.2.2.1) := by
      intro p e s m args below meth c s₁ BL hml hPc htab
      obtain ⟨rfl, hRel, hKn, hz⟩ := hPc
      have hts0 := atoms_spec (ws := xm_cw r :: xm_gw) BL.pre
      have hts : ∀ w ∈ xm_gw, w.before (as.map (xm_mv B sa su)).toArray s = true := fun w hw => hts0 w (List.mem_cons_of_mem _ hw)
      have hown : s.vm.findClass r.1.cls = some m.cls := findClass_of_methodNamed BL.named
      have hmn : meth.name = r.1.name := (name_of_methodNamed BL.named BL.method).1
      have hlocks := BL.notSynchronized
      have hCx : xm_Cx B D kA sa su sc r p l (xm_rm d (xm_cn S1 - xm_cn S) (xm_sn S1 - xm_sn S)) s m (as.map (xm_mv B sa su)).toArray meth c :=
        ⟨BL.exec, BL.bytes, hown, hts, hml, htab, hmn, hKn, hsu, by show 6 ≤ d + 6; omega, by show 100 ≤ 50 * d + 100; omega⟩
      have hlen : (lg_sl (as.map (xm_mv B sa su))).length ≤ r.2.2.1 := by
        have h1 : (xm_entry r.2.2.1 as).length = r.2.2.1 := Nat.eq_of_beq_eq_true hlo
        have h2 : (lg_sl (as.map (xm_mv B sa su))).length = (as.flatMap (fun v => if v.category = 2 then [v, .null] else [v])).length := by
          clear hlo hrun hRel hts0 hts hown hmn hlocks hCx hKn hz BL h1
          induction as with
          | nil => rfl
          | cons a l ih =>
            simp only [lg_sl, List.map_cons, List.flatMap_cons, List.length_append] at ih ⊢
            rw [ih, xm_mv_cat hsu]
            split <;> rfl
        rw [h2]
        simp only [xm_entry, List.length_append, List.length_replicate] at h1
        omega
      have m1 := hmo.1
      have m2 := hmo.2.1
      have hEnd : xm_End B D kA sa su p l e (xm_rm d (xm_cn S1 - xm_cn S) (xm_sn S1 - xm_sn S)) s m (as.map (xm_mv B sa su)).toArray below meth c (xm_cn S) (xm_sn S) (vx_MQ below (xm_Qc B D kA sa su o S1) (xm_XC B D kA sa su o S1) (as.map (xm_mv B sa su)).toArray s (xm_cn S1 - xm_cn S) (xm_sn S1 - xm_sn S) (fun q => B ≤ q)) r o S1 := by
        intro H locs cells slots lsR pc hS hsz
        refine ⟨fun hR hc hs => ⟨fun v hv hret => ?_, fun x hx hnil rest a ce hce hcv hcl => ?_⟩, fun x b d1 e1 ik S2 rest hx hS2 hS2f hR hc hs hnil hd hok hrest => ?_⟩
        · obtain rfl : cells = xm_cn S1 - xm_cn S := by omega
          obtain rfl : slots = xm_sn S1 - xm_sn S := by omega
          have hQ : ∀ (w : Option Value), w.map (xm_mv B sa su) = w → o = .inl w → ∀ t : State, t.heap = H → s.WarmedH t.vm → xm_Qc B D kA sa su o S1 (as.map (xm_mv B sa su)).toArray s (.returned w) t := fun w hw ho t ht _ => ⟨⟨w, ho, by rw [hw]⟩, by rw [ht]; exact hR, hS.F ht⟩
          have hQr : ∀ (x : Nat), o = .inl (some (.ref x)) → ∀ t : State, t.heap = H → s.WarmedH t.vm → xm_Qc B D kA sa su o S1 (as.map (xm_mv B sa su)).toArray s (.returned (some (.ref (B + x)))) t := fun x ho t ht _ => ⟨⟨_, ho, rfl⟩, by rw [ht]; exact hR, hS.F ht⟩
          rcases hret with ⟨rfl, hd, hr⟩ | ⟨x, ty, rfl, hd, hr, hn⟩ | ⟨x, ty, rfl, hd, hr, hn⟩ | ⟨x, rfl, hd, hr⟩ | ⟨x, rfl, hd, hr⟩ | ⟨x, rfl, hd, hr⟩
          · exact vx_ret (W.vret BL.exec BL.bytes (BL.returns.trans hr) (hQ _ rfl hv) hS.2.2 hd hlocks)
          · exact vx_ret (W.zret BL.exec BL.bytes (BL.returns.trans hr) hn (hQ _ rfl hv) hS.2.2 hd hlocks)
          · have hn2 : (∃ n, ty = .object n) ∨ ∃ t, ty = .array t := by
              cases ty <;> first | (cases hn; done) | exact Or.inl ⟨_, rfl⟩ | exact Or.inr ⟨_, rfl⟩
            exact vx_ret (W.aret BL.exec BL.bytes (BL.returns.trans hr) hn2 (Or.inr ⟨_, rfl⟩) (hQr x hv) hS.2.2 hd hlocks)
          · exact vx_ret (W.lret BL.exec BL.bytes (BL.returns.trans hr) (hQ _ rfl hv) hS.2.2 hd hlocks)
          · exact vx_ret (W.fret BL.exec BL.bytes (BL.returns.trans hr) (hQ _ rfl hv) hS.2.2 hd hlocks)
          · exact vx_ret (W.dret BL.exec BL.bytes (BL.returns.trans hr) (hQ _ rfl hv) hS.2.2 hd hlocks)
        · refine vx_out (fun z hz => ?_) hlocks hce hcv hcl (fun t ht hal => ⟨⟨x, hx, rfl⟩, by rw [ht]; exact hR, hS.F ht⟩) hS.2.2 (by omega) (by omega)
          rw [htab, hnil] at hz
          cases hz
        · have hcn : xm_cn S1 = xm_cn S2 + 1 := by rw [hS2]; simp only [xm_cn]; omega
          have hsn : xm_sn S1 = xm_sn S2 + 6 := by rw [hS2]; simp only [xm_sn]; omega
          unfold xm_okT at hok
          simp only [Bool.and_eq_true, decide_eq_true_eq] at hok
          obtain ⟨⟨⟨hx2, hlink⟩, hcls⟩, hok⟩ := hok
          obtain ⟨t1, t2, t3, t4, x0, x1, x2, x5⟩ := xm_thr x hx2
          rw [hcls] at hown hlink
          have hat : ∀ w ∈ xm_atX RX10 (xm_ic x) (xm_en x) (xm_ix x) (xm_rx x) xm_names, w.before (as.map (xm_mv B sa su)).toArray s = true := fun w hw => by
            rcases (t4 w hw).1 with h | h
            · exact hts w h
            · exact va_Nw.use (xm_bw_tab h) (hKn.2.2.2.2.2.2.2.2.1 w h)
          have hgood : ∀ w ∈ Cond.classLink RX10 ik (xm_en x) :: Cond.initialized (xm_en x) :: xm_atX RX10 (xm_ic x) (xm_en x) (xm_ix x) (xm_rx x) xm_names, vx_ot w = true := by
            intro w hw
            rcases List.mem_cons.mp hw with rfl | hw
            · rfl
            rcases List.mem_cons.mp hw with rfl | hw
            · rfl
            exact (t4 w hw).2
          have hout : ∀ k, ∀ z ∈ c.exceptionTable.toList, covers z k = false := by
            intro k z hz
            rw [htab, hnil] at hz
            cases hz
          have hXC : ∀ t : State, s.vm.Alike t.vm → H.size ≤ t.heap.size → (∀ q : Nat, q < H.size → t.heap[q]? = H[q]?) → xm_XC B D kA sa su o S1 (xm_en x) s t := by
            intro t _ hz1 hz2
            refine ⟨⟨x, hx, rfl⟩, ?_, Nat.le_trans hS.1 hz1, fun q h1 h2 => (hz2 q (Nat.lt_of_lt_of_le h1 hS.1)).trans (hS.2.1 q h1 h2)⟩
            rw [hS2]
            exact va_P.kept hR fun k y hy => hz2 _ (vx_lt hR hy)
          split at hok
          · next qs hqs =>
            simp only [Bool.and_eq_true, decide_eq_true_eq] at hok
            obtain ⟨⟨hqc, hd3⟩, hok⟩ := hok
            have hstr := hKn.2.1 b qs hqs
            rw [hqc, hcls] at hstr
            have hfr : xm_names.length + 3 < (xm_rm d (xm_cn S1 - xm_cn S) (xm_sn S1 - xm_sn S)).frames := by show 2 + 3 < d + 6; omega
            have hlo : (rest.map fun v => v.category).sum + (13 * (xm_names.length + 1) + 43) ≤ (xm_rm d (xm_cn S1 - xm_cn S) (xm_sn S1 - xm_sn S)).locals := by
              show _ + (13 * (2 + 1) + 43) ≤ 50 * d + 100
              omega
            have hrc : cells + 1 ≤ xm_cn S1 - xm_cn S := by omega
            have hrs : slots + 6 ≤ xm_sn S1 - xm_sn S := by omega
            match d1, hok with
            | 0, hok =>
              simp only [Bool.and_eq_true, decide_eq_true_eq] at hok
              exact xm_thrxS BL.exec BL.bytes hl x0 x1 x2 x5 hown t1 t2 (hts _ (xm_w_gw hlink rfl)) (hts _ t3) hstr hat hgood hKn.2.2.2.2.2.1 hKn.2.2.2.2.2.2.1 hS hsz hd hd3 hok.1.1 hok.1.2 hok.2 (hout _) hfr hlo hrc hrs hlocks hXC hS.2.2 hrc hrs
            | _ + 1, hok =>
              simp only [Bool.and_eq_true, decide_eq_true_eq] at hok
              exact xm_thrxSW BL.exec BL.bytes hl x0 x1 x2 x5 hown t1 t2 (hts _ (xm_w_gw hlink rfl)) (hts _ t3) hstr hat hgood hKn.2.2.2.2.2.1 hKn.2.2.2.2.2.2.1 hS hsz hd hd3 hok.1.1 hok.1.2 hok.2 (hout _) hfr hlo hrc hrs hlocks hXC hS.2.2 hrc hrs
          · cases hok
      have hG := xm_run_G hT (l := l) hP hj hCx ⟨Nat.le_refl (d + 6), Nat.le_refl (50 * d + 100)⟩ (K0 := xm_cn S) (N0 := xm_sn S) (S' := S1) (o := o) (by show xm_cn S1 ≤ xm_cn S + (xm_cn S1 - xm_cn S); omega) (by show xm_sn S1 ≤ xm_sn S + (xm_sn S1 - xm_sn S); omega) hEnd n (Nat.le_refl n) 0 (xm_entry r.2.2.1 as) [] S hrun
      have hLR := xm_entry_LR (B := B) (sa := sa) hsu hlen
      rw [lg_entry_eq]
      exact hG.2 s.heap [] 0 0 _ hRel va_S.rf hLR (by omega) (by omega) (by rw [hml]; exact Nat.eq_of_beq_eq_true hlo) (fun e => hz e)
    by_cases hnil : r.2.2.2.2.1 = []
    · have hcw : xm_cw r = .code r.1 r.2.1 r.2.2.1 r.2.2.2.1 := if_pos hnil
      refine xm_ofWF (cc := r.2.1) (maxL := r.2.2.1) (ret := r.2.2.2.1) g1 (by rw [hcw]) fun p e s m args below meth c s₁ BL hml ht hPc => body p e s m args below meth c s₁ BL hml hPc ?_
      rw [hnil]
      cases hx : c.exceptionTable.toList with
      | nil => rfl
      | cons a l => exact absurd (ht a (by rw [hx]; exact List.mem_cons_self)) id
    · have hcw : xm_cw r = .codeWith r.1 r.2.1 r.2.2.1 r.2.2.2.1 (xm_hh r.2.2.2.2.1) := if_neg hnil
      refine xm_ofWHF (cc := r.2.1) (maxL := r.2.2.1) (ret := r.2.2.2.1) (hh := xm_hh r.2.2.2.2.1) g1 (by rw [hcw]) fun p e s m args below meth c s₁ BL hml hPc => body p e s m args below meth c s₁ BL hml hPc ?_
      exact vx_table (x := r.1) (y := r.1) (bytes := r.2.1) (maxL' := r.2.2.1) (ret' := r.2.2.2.1) BL (by rw [← hcw]; exact atoms_spec (ws := xm_cw r :: xm_gw) BL.pre _ List.mem_cons_self)
end RUNS
