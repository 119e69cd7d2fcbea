/-! TELL: a van -/
section TV
variable {S0 T : xm_PS} {sc : xm_Sc} {d a p q : Nat} {E : Nat → Nat} {r : Nat → Int32} {nv nk : Nat} {h : Int32} {t : List Int32} {m : Nat}
theorem tO.rt (hO : tO T E r nv nk h) {u : Nat} (hu : u < xnv r) : oA T (E (20 + u)) 0 (xst r u) (fun s => r (15 + 11 * u + s)) := hO.2.1.2.2.2 u hu
theorem tO.e (hO : tO T E r nv nk h) : T.2.2[E 0]? = some (.inr (8, [.ref (E 1), .ref (E 2), .ref (E 3), .ref (E 4), .ref (E 5), .ref (E 6), .int 0, .int h, .int 0])) := hO.1.2.1
theorem e12s : xm_str 12 = xm_str 2 ++ [32] := by decide +kernel
theorem asc_d {x : Nat} (hx : x < 10) : asc (nI (48 + x)) := ⟨48 + x, by omega, rfl⟩
theorem tSt_app (l : List Nat) (s : Nat) : tSt (l ++ [s]) = tSt l ++ tDg s := by
  unfold tSt
  rw [List.flatMap_append]
  show _ ++ (tDg s ++ []) = _
  rw [List.append_nil]
theorem takeN_s {t : List Nat} {i : Nat} (h : i < t.length) : t.take (i + 1) = t.take i ++ [t.getD i 0] := by
  rw [List.take_succ, List.getD_eq_getElem?_getD, List.getElem?_eq_getElem h]
  rfl
/-- one step of the builder, the picture staying -/
theorem tb_204 (hJ : txJ S0 T p q t m) (hO : tO T E r nv nk h) {y : Int32} (hy : asc y) (ht : t.length < 400) : ∃ T' q', xm_C sc xt_M (d + 9) 204 [.ref p, .int y] T = some (.inl (some (.ref p)), T') ∧ txJ S0 T' p q' (t ++ [y]) (m + 20) ∧ tO T' E r nv nk h := by
  obtain ⟨cap, hb⟩ := hJ.1
  obtain ⟨T', q', cap', e, M⟩ := @sb_204 T sc (d + 4) p q cap t hb y hy ht
  exact ⟨T', q', e, txJ_s hJ M, hO.sb hb M.2.1⟩
theorem tb_205 (hJ : txJ S0 T p q t m) (hO : tO T E r nv nk h) {x : Nat} (hx : x < 10) (ht : t.length < 400) : ∃ T' q', xm_C sc xt_M (d + 9) 205 [.ref p, .int (nI x)] T = some (.inl (some (.ref p)), T') ∧ txJ S0 T' p q' (t ++ [nI (48 + x)]) (m + 20) ∧ tO T' E r nv nk h := by
  obtain ⟨cap, hb⟩ := hJ.1
  obtain ⟨T', q', cap', e, M⟩ := @sb_205 T sc (d + 4) p q cap t hb x hx ht
  exact ⟨T', q', e, txJ_s hJ M, hO.sb hb M.2.1⟩
theorem tb_203 (hJ : txJ S0 T p q t m) (hO : tO T E r nv nk h) {k : Nat} (hk : k < 25) (ht : t.length < 360) : ∃ T' q', xm_C sc xt_M (d + 9) 203 [.ref p, .retAddr k] T = some (.inl (some (.ref p)), T') ∧ txJ S0 T' p q' (t ++ xm_str k) (m + 20) ∧ tO T' E r nv nk h := by
  obtain ⟨cap, hb⟩ := hJ.1
  have hl := str_l k hk
  obtain ⟨T', q', cap', e, M⟩ := @sb_203 T sc (d + 4) p q cap k t hb (by omega) (str_a (by omega)) (by omega)
  exact ⟨T', q', e, txJ_s hJ M, hO.sb hb M.2.1⟩
theorem txJ.is (hJ : txJ S0 T p q t m) : xm_isO T (.ref p) 11 = true := by
  obtain ⟨⟨cap, hb⟩, -⟩ := hJ
  exact hb.is
/-- the stops' text -/
theorem t_343 {cvI u : Int32} {i6 i7 : Int32} {v ns h12 : Nat} {l : List Nat} {base : List Int32} (hl : l.length = ns) (hns : ns ≤ 8) (hl10 : ∀ j, j < ns → l.getD j 0 < 10) (hbase : base.length < 340) (hv : v < xnv r) (hx : xst r v = ns) (hE : E (20 + v) = h12) (hr : ∀ j, j < ns → r (15 + 11 * v + j) = nI (l.getD j 0)) : ∀ (m i : Nat) (T : xm_PS) (q k : Nat) (v16 : Value), i + m = ns → txJ S0 T p q (base ++ tSt (l.take i)) k → tO T E r nv nk h → ∃ (T' : xm_PS) (q' : Nat) (v16' : Value), txJ S0 T' p q' (base ++ tSt l) (k + 40 * m) ∧ tO T' E r nv nk h ∧ xm_R sc xt_M (d + 9) 182 343 [.ref 0, .ref a, .retAddr 5000, .int 0, .ref (E 0), .int cvI, .int i6, .int i7, .ref p, .int (nI v), .int u, .int (nI ns), .ref h12, .ref h12, .int (nI ns), .int (nI i), v16] [] T = xm_R sc xt_M (d + 9) 182 343 [.ref 0, .ref a, .retAddr 5000, .int 0, .ref (E 0), .int cvI, .int i6, .int i7, .ref p, .int (nI v), .int u, .int (nI ns), .ref h12, .ref h12, .int (nI ns), .int (nI ns), v16'] [] T' := by
  intro m
  induction m with
  | zero =>
    intro i T q k v16 hi hJ hO
    have ei : i = ns := by omega
    subst ei
    rw [← hl, List.take_length] at hJ
    exact ⟨T, q, v16, hJ, hO, rfl⟩
  | succ m ih =>
    intro i T q k v16 hi hJ hO
    have hin : i < ns := by omega
    have hA := hO.rt hv
    rw [hE, hx] at hA
    have e0 : xm_aI T h12 0 (nI i) = some (nI (l.getD i 0)) := by
      have y := hA.at hin (by omega)
      rw [hr i hin] at y
      exact y
    have len1 : (base ++ tSt (l.take i)).length = base.length + 2 * i := by
      rw [List.length_append, tSt_len, List.length_take]
      omega
    obtain ⟨T1, q1, c1, J1, O1⟩ := @tb_204 S0 T sc d p q E r nv nk h _ _ hJ hO 32 asc_32 (by omega)
    obtain ⟨T2, q2, c2, J2, O2⟩ := @tb_205 S0 T1 sc d p q1 E r nv nk h _ _ J1 O1 (l.getD i 0) (hl10 i hin) (by rw [List.length_append, len1]; show _ + 1 < 400; omega)
    have et : ((base ++ tSt (l.take i)) ++ [32]) ++ [nI (48 + l.getD i 0)] = base ++ tSt (l.take (i + 1)) := by
      rw [takeN_s (by omega), tSt_app, List.append_assoc, List.append_assoc]
      rfl
    rw [et] at J2
    obtain ⟨T3, q3, v16', J3, O3, e3⟩ := ih (i + 1) T2 q2 _ (.int (nI (l.getD i 0))) (by omega) J2 O2
    refine ⟨T3, q3, v16', ?_, O3, ?_⟩
    · have em : k + 20 + 20 + 40 * m = k + 40 * (m + 1) := by omega
      rw [← em]
      exact J3
    · rw [yb_182_343 (by omega), if_neg (nI_ge hin (by omega)), e0, zbs, if_pos hJ.is, c1, zbs, xk_R, if_pos J1.is, c2, zbs, xk_R, ← nI_succ]
      exact e3
end TV
