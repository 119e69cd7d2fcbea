/-! THE LAW: questions of both sides -/
def kB (t : Nat) (oK : Option xm_O) (rf : xm_PS → Option xm_O) : Prop := ∃ w1 l1 t1 w2 l2 k v, oK = some (.inl (some (.int k)), xem w1 l1 t1) ∧ rf (xem w1 l1 t1) = some (.inl (some (.int v)), xem w2 l2 t1) ∧ (w2 3).1 2 = k ∧ (k = 0 → l2 0 0 = v.toInt64) ∧ kInv w2 ∧ t1 ≤ t + 1
def kBz (t : Nat) (oK : Option xm_O) (rf : xm_PS → Option xm_O) : Prop := ∃ w1 l1 t1 w2 l2 k v, oK = some (.inl (some (.int k)), xem w1 l1 t1) ∧ rf (xem w1 l1 t1) = some (.inl (some (.int v)), xem w2 l2 t1) ∧ (w2 3).1 2 = k ∧ (k = 0 → l2 0 0 = v.toInt64 ∧ (v = 0 ∨ v = 1)) ∧ kInv w2 ∧ t1 ≤ t + 1
section BQ
variable {w : xW} {l : Nat → Nat → Int64} {t : Nat} {sc : xm_Sc} {d : Nat} {r : Nat → Int32}
theorem kB_An {o oK : Option xm_O} {rf : xm_PS → Option xm_O} {e : Nat} {s : Int32 × Int32} (hI : kInv w) (hA : kAn o w l t e s) (h01 : s.1 = 0 ∨ s.1 = 1) (hk0 : ∀ v, o = some (.inl (some (.int v)), xem w l t) → (s.1 = 0 → v = s.2) → oK = some (.inl (some (.int 0)), xem w (lo l v) t)) (hk1 : o = some (.inr e, xem w l (t + 1)) → oK = some (.inl (some (.int 1)), xem w l (t + 1))) (hr : ∀ l' t', ∃ w2, rf (xem w l' t') = some (.inl (some (.int s.2)), xem w2 l' t') ∧ (w2 3).1 2 = s.1 ∧ kSm w w2) : kB t oK rf := by
  rcases hA with ⟨h1, h2⟩ | ⟨h1, h2⟩
  · obtain ⟨w2, e1, e2, e3⟩ := hr (lo l s.2) t
    exact ⟨w, lo l s.2, t, w2, lo l s.2, 0, s.2, hk0 s.2 h2 (fun _ => rfl), e1, e2.trans h1, fun _ => lo_0, kSm_inv e3 hI, by omega⟩
  · obtain ⟨w2, e1, e2, e3⟩ := hr l (t + 1)
    exact ⟨w, l, t + 1, w2, l, 1, s.2, hk1 h2, e1, e2.trans (h01.resolve_left h1), fun z => absurd z (by decide), kSm_inv e3 hI, by omega⟩
theorem kB_Anz {o oK : Option xm_O} {rf : xm_PS → Option xm_O} {e : Nat} {s : Int32 × Int32} (hI : kInv w) (hA : kAn o w l t e s) (h01 : s.1 = 0 ∨ s.1 = 1) (hv : s.1 = 0 → s.2 = 0 ∨ s.2 = 1) (hk0 : ∀ v, o = some (.inl (some (.int v)), xem w l t) → (s.1 = 0 → v = s.2) → oK = some (.inl (some (.int 0)), xem w (lo l v) t)) (hk1 : o = some (.inr e, xem w l (t + 1)) → oK = some (.inl (some (.int 1)), xem w l (t + 1))) (hr : ∀ l' t', ∃ w2, rf (xem w l' t') = some (.inl (some (.int s.2)), xem w2 l' t') ∧ (w2 3).1 2 = s.1 ∧ kSm w w2) : kBz t oK rf := by
  rcases hA with ⟨h1, h2⟩ | ⟨h1, h2⟩
  · obtain ⟨w2, e1, e2, e3⟩ := hr (lo l s.2) t
    exact ⟨w, lo l s.2, t, w2, lo l s.2, 0, s.2, hk0 s.2 h2 (fun _ => rfl), e1, e2.trans h1, fun _ => ⟨lo_0, hv h1⟩, kSm_inv e3 hI, by omega⟩
  · obtain ⟨w2, e1, e2, e3⟩ := hr l (t + 1)
    exact ⟨w, l, t + 1, w2, l, 1, s.2, hk1 h2, e1, e2.trans (h01.resolve_left h1), fun z => absurd z (by decide), kSm_inv e3 hI, by omega⟩
theorem kB_Am {o oK : Option xm_O} {rf : xm_PS → Option xm_O} {e : Int32 → Nat} {s : Int32 × Int32} (hI : kInv w) (hA : kAm o w l t e s) (hk0 : ∀ v w1, o = some (.inl (some (.int v)), xem w1 l t) → oK = some (.inl (some (.int 0)), xem w1 (lo l v) t)) (hk1 : ¬ s.1 = 0 → o = some (.inr (e s.1), xem w l (t + 1)) → oK = some (.inl (some (.int s.1)), xem w l (t + 1))) (hr : ∀ w1 l' t', kKeep w w1 → ∃ w2, rf (xem w1 l' t') = some (.inl (some (.int s.2)), xem w2 l' t') ∧ (w2 3).1 2 = s.1 ∧ kSm w1 w2) : kB t oK rf := by
  rcases hA with ⟨h1, w1, h2, h3⟩ | ⟨h1, h2⟩
  · obtain ⟨w2, e1, e2, e3⟩ := hr w1 (lo l s.2) t h3
    exact ⟨w1, lo l s.2, t, w2, lo l s.2, 0, s.2, hk0 s.2 w1 h2, e1, e2.trans h1, fun _ => lo_0, kSm_inv (kSm_t (kSm_K h3) e3) hI, by omega⟩
  · obtain ⟨w2, e1, e2, e3⟩ := hr w l (t + 1) kKeep_rfl
    exact ⟨w, l, t + 1, w2, l, s.1, s.2, hk1 h1 h2, e1, e2, fun z => absurd z h1, kSm_inv e3 hI, by omega⟩
theorem kInv.x (hI : kInv w) : xR w = (w 3).2 0 := by
  unfold xR xri
  rw [if_pos hI.1.1]
theorem kInv.ri (hI : kInv w) : xri (w 3) = 0 := by
  unfold xri
  rw [if_pos hI.1.1]
theorem kInv.R (hI : kInv w) : kRel w 0 (xR w) := by rw [hI.x]; exact hI.1.2.1.1
theorem kInv.m (hI : kInv w) : xRm (xR w) := by rw [hI.x]; exact hI.1.2.1.2.1
theorem kInv.t4 (hI : kInv w) : ∃ c, c < 10000 ∧ xR w 4 = nI c := by rw [hI.x]; exact hI.1.2.1.2.2
theorem sp_num_f {f g : Nat → Int32} {k : Nat} {x : Int32} (hW : xWF r) (hk : k < xnk r) : (sp_num f r k x).1 = (sp_num g r k x).1 := by
  unfold sp_num
  split
  · rfl
  split
  · rfl
  split
  · rfl
  split
  · rfl
  split
  · rfl
  split
  · rfl
  split
  · rfl
  split
  · rfl
  rw [kLL_eq hW hk, kLL_eq hW hk]
theorem zi01 {c : Prop} [Decidable c] {p q : Int32 × Int32} (hp : p.1 = 0 ∨ p.1 = 1) (hq : q.1 = 0 ∨ q.1 = 1) : (if c then p else q).1 = 0 ∨ (if c then p else q).1 = 1 := by
  split
  · exact hp
  · exact hq
theorem s1_size {x : Int32} : (sp_size r x).1 = 0 ∨ (sp_size r x).1 = 1 := by
  unfold sp_size
  refine zi01 (Or.inl rfl) ?_
  refine zi01 (Or.inl rfl) ?_
  refine zi01 (Or.inl rfl) ?_
  refine zi01 (Or.inl rfl) ?_
  refine zi01 (Or.inl rfl) ?_
  refine zi01 (Or.inl rfl) ?_
  refine zi01 (Or.inl rfl) ?_
  refine zi01 (Or.inl rfl) ?_
  refine zi01 (Or.inl rfl) ?_
  refine zi01 (Or.inl rfl) ?_
  refine zi01 (Or.inl rfl) ?_
  refine zi01 (Or.inl rfl) ?_
  refine zi01 (Or.inl rfl) ?_
  exact Or.inr rfl
theorem s1_bookK {a x : Int32} : (sp_bookK r a x).1 = 0 ∨ (sp_bookK r a x).1 = 1 := by
  unfold sp_bookK
  repeat' (first | (with_reducible exact Or.inl rfl) | (with_reducible exact Or.inr rfl) | refine zi01 ?_ ?_ | split)
theorem s1_van {a x : Int32} : (sp_van r a x).1 = 0 ∨ (sp_van r a x).1 = 1 := by
  unfold sp_van sp_vanN
  repeat' (first | (with_reducible exact Or.inl rfl) | (with_reducible exact Or.inr rfl) | refine zi01 ?_ ?_ | split)
theorem s1_stop {a x : Int32} : (sp_stop r a x).1 = 0 ∨ (sp_stop r a x).1 = 1 := by
  unfold sp_stop
  repeat' (first | (with_reducible exact Or.inl rfl) | (with_reducible exact Or.inr rfl) | refine zi01 ?_ ?_ | split)
theorem s1_inVan {a x : Int32} : (sp_inVan r a x).1 = 0 ∨ (sp_inVan r a x).1 = 1 := by
  unfold sp_inVan
  repeat' (first | (with_reducible exact Or.inl rfl) | (with_reducible exact Or.inr rfl) | refine zi01 ?_ ?_ | split)
theorem s1_branch {a x : Int32} : (sp_branch r a x).1 = 0 ∨ (sp_branch r a x).1 = 1 := by
  unfold sp_branch sp_branchN
  repeat' (first | (with_reducible exact Or.inl rfl) | (with_reducible exact Or.inr rfl) | refine zi01 ?_ ?_ | split)
theorem s1_request {a x y : Int32} : (sp_request r a x y).1 = 0 ∨ (sp_request r a x y).1 = 1 := by
  unfold sp_request
  repeat' (first | (with_reducible exact Or.inl rfl) | (with_reducible exact Or.inr rfl) | refine zi01 ?_ ?_ | split)
theorem s1_placeOf {a x : Int32} : (sp_placeOf r a x).1 = 0 ∨ (sp_placeOf r a x).1 = 1 := by
  unfold sp_placeOf
  repeat' (first | (with_reducible exact Or.inl rfl) | (with_reducible exact Or.inr rfl) | refine zi01 ?_ ?_ | split)
theorem s1_legsK {a x : Int32} : (sp_legsK r a x).1 = 0 ∨ (sp_legsK r a x).1 = 1 := by
  unfold sp_legsK
  repeat' (first | (with_reducible exact Or.inl rfl) | (with_reducible exact Or.inr rfl) | refine zi01 ?_ ?_ | split)
theorem s1_comes {a x : Int32} : (sp_comes r a x).1 = 0 ∨ (sp_comes r a x).1 = 1 := by
  unfold sp_comes
  repeat' (first | (with_reducible exact Or.inl rfl) | (with_reducible exact Or.inr rfl) | refine zi01 ?_ ?_ | split)
theorem s1_meet {a x : Int32} : (sp_meet r a x).1 = 0 ∨ (sp_meet r a x).1 = 1 := by
  unfold sp_meet
  repeat' (first | (with_reducible exact Or.inl rfl) | (with_reducible exact Or.inr rfl) | refine zi01 ?_ ?_ | split)
theorem s1_wouldK {f : Nat → Int32} {a x : Int32} : (sp_wouldK f r a x).1 = 0 ∨ (sp_wouldK f r a x).1 = 1 := by
  unfold sp_wouldK
  repeat' (first | (with_reducible exact Or.inl rfl) | (with_reducible exact Or.inr rfl) | refine zi01 ?_ ?_ | split)
theorem xT_t {x : Int32} : (xT w x 3).1 2 = x := by
  unfold xT
  rw [xu_same]
  exact xs1_same
theorem xM_t {x : Int32} {a f j : Nat → Int32} : (xMw (xT w x) a f j 3).1 2 = x := by rw [xMw_2, xT_t]
theorem kb_300 {x : Int32} (hI : kInv w) : kB t (xm_C sc xt_M (d + 40) 300 [.ref 0, .int x, .ref 204] (xem w l t)) (xm_C sc xt_M (d + 40) 206 [.ref 191, .int x]) := by
  have hR := hI.R
  exact kB_An hI (@kd_111 w l t sc (d + 35) (xR w) x hR) s1_size (fun v h _ => kh_300 h) (fun h => kh_300_1 h) (fun l' t' => ⟨_, @zc_206 w l' t' sc (d + 36) x hR.W.bd, xT_t, kSm_T⟩)
theorem kb_302 {a x : Int32} (hI : kInv w) : kB t (xm_C sc xt_M (d + 40) 302 [.ref 0, .int a, .int x, .ref 204] (xem w l t)) (xm_C sc xt_M (d + 40) 211 [.ref 191, .int a, .int x]) := by
  have hR := hI.R
  exact kB_An hI (@kd_113 w l t sc (d + 35) (xR w) a x hR) s1_van (fun v h _ => kh_302 h) (fun h => kh_302_1 h) (fun l' t' => ⟨_, @zc_211 w l' t' sc (d + 35) a x hR.W, xT_t, kSm_T⟩)
theorem kb_303 {a x : Int32} (hI : kInv w) : kB t (xm_C sc xt_M (d + 40) 303 [.ref 0, .int a, .int x, .ref 204] (xem w l t)) (xm_C sc xt_M (d + 40) 212 [.ref 191, .int a, .int x]) := by
  have hR := hI.R
  exact kB_An hI (@kd_114 w l t sc (d + 36) (xR w) a x hR) s1_stop (fun v h _ => kh_303 h) (fun h => kh_303_1 h) (fun l' t' => ⟨_, @zc_212 w l' t' sc (d + 35) a x hR.W, xT_t, kSm_T⟩)
theorem kb_304 {a x : Int32} (hI : kInv w) : kB t (xm_C sc xt_M (d + 40) 304 [.ref 0, .int a, .int x, .ref 204] (xem w l t)) (xm_C sc xt_M (d + 40) 213 [.ref 191, .int a, .int x]) := by
  have hR := hI.R
  exact kB_An hI (@kd_115 w l t sc (d + 35) (xR w) a x hR) s1_inVan (fun v h _ => kh_304 h) (fun h => kh_304_1 h) (fun l' t' => ⟨_, @zc_213 w l' t' sc (d + 36) a x hR.W, xT_t, kSm_T⟩)
theorem kb_305 {a x : Int32} (hI : kInv w) : kB t (xm_C sc xt_M (d + 40) 305 [.ref 0, .int a, .int x, .ref 204] (xem w l t)) (xm_C sc xt_M (d + 40) 218 [.ref 191, .int a, .int x]) := by
  have hR := hI.R
  exact kB_An hI (@kd_116 w l t sc (d + 35) (xR w) a x hR) s1_branch (fun v h _ => kh_305 h) (fun h => kh_305_1 h) (fun l' t' => ⟨_, @zc_218 w l' t' sc (d + 35) a x hR.W, xT_t, kSm_T⟩)
theorem kb_306 {a x y : Int32} (hI : kInv w) : kB t (xm_C sc xt_M (d + 40) 306 [.ref 0, .int a, .int x, .int y, .ref 204] (xem w l t)) (xm_C sc xt_M (d + 40) 220 [.ref 191, .int a, .int x, .int y]) := by
  have hR := hI.R
  exact kB_An hI (@kd_117 w l t sc (d + 35) (xR w) a x y hR) s1_request (fun v h _ => kh_306 h) (fun h => kh_306_1 h) (fun l' t' => ⟨_, @zc_220 w l' t' sc (d + 35) a x y hR.W, xT_t, kSm_T⟩)
theorem kb_307 {a x : Int32} (hI : kInv w) : kB t (xm_C sc xt_M (d + 40) 307 [.ref 0, .int a, .int x, .ref 204] (xem w l t)) (xm_C sc xt_M (d + 40) 221 [.ref 191, .int a, .int x]) := by
  have hR := hI.R
  exact kB_An hI (@kd_118 w l t sc (d + 35) (xR w) a x hR) s1_placeOf (fun v h _ => kh_307 h) (fun h => kh_307_1 h) (fun l' t' => ⟨_, @zc_221 w l' t' sc (d + 36) a x hR.W, xT_t, kSm_T⟩)
theorem kb_310 {a x : Int32} (hI : kInv w) : kB t (xm_C sc xt_M (d + 40) 310 [.ref 0, .int a, .int x, .ref 204] (xem w l t)) (xm_C sc xt_M (d + 40) 226 [.ref 191, .int a, .int x]) := by
  have hR := hI.R
  exact kB_An hI (@kd_122 w l t sc (d + 36) (xR w) a x hR) s1_comes (fun v h _ => kh_310 h) (fun h => kh_310_1 h) (fun l' t' => ⟨_, @zc_226 w l' t' sc (d + 37) a x hR.W, xT_t, kSm_T⟩)
theorem kb_311 {a x : Int32} (hI : kInv w) : kB t (xm_C sc xt_M (d + 40) 311 [.ref 0, .int a, .int x, .ref 204] (xem w l t)) (xm_C sc xt_M (d + 40) 227 [.ref 191, .int a, .int x]) := by
  have hR := hI.R
  exact kB_An hI (@kd_123 w l t sc (d + 36) (xR w) a x hR) s1_meet (fun v h _ => kh_311 h) (fun h => kh_311_1 h) (fun l' t' => ⟨_, @zc_227 w l' t' sc (d + 37) a x hR.W, xT_t, kSm_T⟩)
theorem kb_301 {a x : Int32} (hI : kInv w) : kB t (xm_C sc xt_M (d + 40) 301 [.ref 0, .int a, .int x, .ref 204] (xem w l t)) (xm_C sc xt_M (d + 40) 209 [.ref 191, .int a, .int x]) := by
  have hR := hI.R
  refine kB_An hI (@kd_112 w l t sc (d + 33) (xR w) a x hR) s1_bookK (fun v h _ => kh_301 h) (fun h => kh_301_1 h) (fun l' t' => ?_)
  have z := @zc_209 w l' t' sc (d + 33) (xR w) (xF w) (xJ w) a x hR.W
  rw [xMw_self] at z
  unfold sp_bookK
  by_cases h1 : sp_bk (xR w) a
  · by_cases h2 : 0 ≤ x ∧ x ≤ 8
    · rw [if_pos h1, if_pos h2]
      rw [if_pos (show sp_bkc (xR w) a x from ⟨h1, h2⟩)] at z
      have h1' := h1
      rw [sp_bk, hR.W.bd.k] at h1'
      obtain ⟨n, hn, e⟩ := zrg (by have := hR.W.bd.k20; omega) h1'
      have en : a.toNatClampNeg = n := by rw [e, nI_clamp (by have := hR.W.bd.k20; omega)]
      have ef : (sp_num (xF w) (xR w) a.toNatClampNeg x).1 = (sp_num (fun _ => -1) (xR w) a.toNatClampNeg x).1 := by
        rw [en]
        exact sp_num_f hR.W hn
      rw [ef] at z
      exact ⟨_, z, xM_t, kSm_M hI.1.1⟩
    · rw [if_pos h1, if_neg h2]
      rw [if_neg (show ¬ sp_bkc (xR w) a x from fun y => h2 y.2)] at z
      exact ⟨_, z, xM_t, kSm_M hI.1.1⟩
  · rw [if_neg h1]
    rw [if_neg (show ¬ sp_bkc (xR w) a x from fun y => h1 y.1)] at z
    exact ⟨_, z, xM_t, kSm_M hI.1.1⟩
theorem kb_308 {a x : Int32} (hI : kInv w) : kB t (xm_C sc xt_M (d + 40) 308 [.ref 0, .int a, .int x, .ref 204] (xem w l t)) (xm_C sc xt_M (d + 40) 223 [.ref 191, .int a, .int x]) := by
  have hR := hI.R
  refine kB_An hI (@kd_120 w l t sc (d + 36) (xR w) a x hR) s1_legsK (fun v h _ => kh_308 h) (fun h => kh_308_1 h) (fun l' t' => ?_)
  have z := @zc_223 w l' t' sc (d + 35) (xR w) (xF w) (xJ w) a x hR.W
  rw [xMw_self] at z
  unfold sp_legsK
  by_cases h1 : sp_br (xR w) a
  · by_cases h2 : sp_br (xR w) x
    · rw [if_pos h1, if_pos h2]
      rw [if_pos (show sp_lgc (xR w) a x from ⟨h1, h2⟩)] at z
      have b6 := hR.W.bd.b6
      have h1' := h1
      rw [sp_br, hR.W.bd.b] at h1'
      obtain ⟨n, hn, e⟩ := zrg (by omega) h1'
      have h2' := h2
      rw [sp_br, hR.W.bd.b] at h2'
      obtain ⟨n2, hn2, e2⟩ := zrg (by omega) h2'
      have en : a.toNatClampNeg = n := by rw [e, nI_clamp (by omega)]
      have en2 : x.toNatClampNeg = n2 := by rw [e2, nI_clamp (by omega)]
      have ef : xfx (sp_far (xR w) (xF w)) a x = kD (xR w) a.toNatClampNeg x.toNatClampNeg := by
        unfold xfx
        rw [en, en2, kfar_eq b6 hn hn2]
      rw [ef] at z
      exact ⟨_, z, xM_t, kSm_M hI.1.1⟩
    · rw [if_pos h1, if_neg h2]
      rw [if_neg (show ¬ sp_lgc (xR w) a x from fun y => h2 y.2)] at z
      exact ⟨_, z, xM_t, kSm_M hI.1.1⟩
  · rw [if_neg h1]
    rw [if_neg (show ¬ sp_lgc (xR w) a x from fun y => h1 y.1)] at z
    exact ⟨_, z, xM_t, kSm_M hI.1.1⟩
theorem zB_01 {c : Prop} [Decidable c] : zB c = 0 ∨ zB c = 1 := by
  unfold zB
  split
  · exact Or.inr rfl
  · exact Or.inl rfl
theorem kb_309 {a x : Int32} (hI : kInv w) : kBz t (xm_C sc xt_M (d + 40) 309 [.ref 0, .int a, .int x, .ref 204] (xem w l t)) (xm_C sc xt_M (d + 40) 224 [.ref 191, .int a, .int x]) := by
  have hR := hI.R
  have v01 : (sp_wouldK (sp_far (xR w) (xF w)) (xR w) a x).1 = 0 → (sp_wouldK (sp_far (xR w) (xF w)) (xR w) a x).2 = 0 ∨ (sp_wouldK (sp_far (xR w) (xF w)) (xR w) a x).2 = 1 := by
    unfold sp_wouldK
    intro _
    split
    · split
      · exact zB_01
      · exact Or.inl rfl
    · exact Or.inl rfl
  have hA := @kd_121 w l t sc (d + 35) (xR w) (sp_far (xR w) (xF w)) a x hR (kFar_s hR.W.bd)
  refine kB_Anz hI hA s1_wouldK v01 (fun v h hv => ?_) (fun h => kh_309_1 h) (fun l' t' => ?_)
  · rcases hA with ⟨h1, h2⟩ | ⟨h1, h2⟩
    · exact kh_309 (by rw [hv h1]; exact v01 h1) h
    · rw [h] at h2
      cases h2
  have z := @zc_224 w l' t' sc (d + 35) (xR w) (xF w) (xJ w) a x hR.W
  rw [xMw_self] at z
  unfold sp_wouldK
  by_cases h1 : sp_bk (xR w) a
  · by_cases h2 : sp_vn (xR w) x
    · rw [if_pos h1, if_pos h2]
      rw [if_pos (show sp_wlc (xR w) a x from ⟨h1, h2⟩)] at z
      exact ⟨_, z, xM_t, kSm_M hI.1.1⟩
    · rw [if_pos h1, if_neg h2]
      rw [if_neg (show ¬ sp_wlc (xR w) a x from fun y => h2 y.2)] at z
      exact ⟨_, z, xM_t, kSm_M hI.1.1⟩
  · rw [if_neg h1]
    rw [if_neg (show ¬ sp_wlc (xR w) a x from fun y => h1 y.1)] at z
    exact ⟨_, z, xM_t, kSm_M hI.1.1⟩
theorem kK_3 {w1 : xW} (h : kKeep w w1) : w1 3 = w 3 := h.1 3 (by omega) (by omega)
theorem kK_R {w1 : xW} (h : kKeep w w1) : xR w1 = xR w := by
  unfold xR
  rw [kK_3 h]
theorem kK_Me {w1 : xW} (h : kKeep w w1) : xMe w1 = xMe w := by
  unfold xMe xR xF xJ xH
  rw [kK_3 h]
theorem kb_312 {a : Int32} (hI : kInv w) : kB t (xm_C sc xt_M (d + 40) 312 [.ref 0, .int a, .ref 204] (xem w l t)) (xm_C sc xt_M (d + 40) 231 [.ref 191, .int a]) := by
  have hR := hI.R
  obtain ⟨c, c1, c2⟩ := hI.t4
  refine kB_Am hI (@kd_124 w l t sc (d + 32) (xMe w) a c hR c2 c1) (fun v w1 h => kh_312 h) (fun h1 h => ?_) (fun w1 l' t' hk => ?_)
  · have : (sp_until (xMe w) 0 a 0).1 = 1 := by
      have z : (sp_until (xMe w) 0 a 0).1 = 0 ∨ (sp_until (xMe w) 0 a 0).1 = 1 := by
        unfold sp_until
        split
        · exact Or.inl rfl
        · exact Or.inr rfl
      exact z.resolve_left h1
    rw [this]
    exact kh_312_1 h
  · obtain ⟨w2, e1, e2, e3⟩ := @zc_231 w1 l' t' sc (d + 31) a c (by rw [kK_3 hk]; exact hI.ri) (by rw [kK_R hk]; exact hR.W) (by rw [kK_R hk]; exact c2) c1
    rw [kK_Me hk] at e1 e3
    exact ⟨w2, e1, e3, kSm_P e2⟩
theorem kb_313 {a x : Int32} (hI : kInv w) : kB t (xm_C sc xt_M (d + 40) 313 [.ref 0, .int a, .int x, .ref 204] (xem w l t)) (xm_C sc xt_M (d + 40) 232 [.ref 191, .int a, .int x]) := by
  have hR := hI.R
  obtain ⟨c, c1, c2⟩ := hI.t4
  refine kB_Am hI (@kd_125 w l t sc (d + 32) (xMe w) a x c hR c2 c1) (fun v w1 h => kh_313 h) (fun h1 h => ?_) (fun w1 l' t' hk => ?_)
  · have : (sp_until (xMe w) 1 a x).1 = 1 := by
      have z : (sp_until (xMe w) 1 a x).1 = 0 ∨ (sp_until (xMe w) 1 a x).1 = 1 := by
        unfold sp_until
        split
        · exact Or.inl rfl
        · exact Or.inr rfl
      exact z.resolve_left h1
    rw [this]
    exact kh_313_1 h
  · obtain ⟨w2, e1, e2, e3⟩ := @zc_232 w1 l' t' sc (d + 31) a x c (by rw [kK_3 hk]; exact hI.ri) (by rw [kK_R hk]; exact hR.W) (by rw [kK_R hk]; exact c2) c1
    rw [kK_Me hk] at e1 e3
    exact ⟨w2, e1, e3, kSm_P e2⟩
theorem kb_314 {a x y : Int32} (hI : kInv w) : kB t (xm_C sc xt_M (d + 40) 314 [.ref 0, .int a, .int x, .int y, .ref 204] (xem w l t)) (xm_C sc xt_M (d + 40) 233 [.ref 191, .int a, .int x, .int y]) := by
  have hR := hI.R
  obtain ⟨c, c1, c2⟩ := hI.t4
  refine kB_Am hI (@kd_126 w l t sc (d + 32) (xMe w) a x y c hR c2 c1) (fun v w1 h => kh_314 h) (fun h1 h => ?_) (fun w1 l' t' hk => ?_)
  · have z : (sp_bookIn (xMe w) a x y).1 = 0 ∨ (sp_bookIn (xMe w) a x y).1 = 1 ∨ (sp_bookIn (xMe w) a x y).1 = 2 := by
      unfold sp_bookIn
      split
      · split
        · split
          · exact Or.inl rfl
          · exact Or.inr (Or.inr rfl)
        · exact Or.inr (Or.inl rfl)
      · exact Or.inr (Or.inl rfl)
    rcases z with z | z | z
    · exact absurd z h1
    · rw [z] at h ⊢
      exact kh_314_1 h
    · rw [z] at h ⊢
      exact kh_314_2 h
  · obtain ⟨w2, e1, e2, e3⟩ := @zc_233 w1 l' t' sc (d + 31) a x y c (by rw [kK_3 hk]; exact hI.ri) (by rw [kK_R hk]; exact hR.W) (by rw [kK_R hk]; exact c2) c1
    rw [kK_Me hk] at e1 e3
    exact ⟨w2, e1, e3, kSm_P e2⟩
end BQ
