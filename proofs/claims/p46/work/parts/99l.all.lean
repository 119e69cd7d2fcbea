/-! THE LAW: most, cell, and what it reads of the class; all -/
def oMo (v : Int32) (k : Nat) : Nat := (v &&& 2147483647).toNatClampNeg % k
theorem oM31 (v : Int32) : ∃ u, u < 2 ^ 31 ∧ v &&& 2147483647 = nI u := by
  obtain ⟨n, hn, rfl⟩ := wb_of32 v
  refine ⟨n % 2 ^ 31, Nat.mod_lt _ (by decide), ?_⟩
  show nI n &&& nI 2147483647 = _
  rw [nx_and, show 2147483647 = 2 ^ 31 - 1 by decide, Nat.and_two_pow_sub_one_eq_mod]
theorem oMo_lt {v : Int32} {k : Nat} (h : 0 < k) : oMo v k < k := Nat.mod_lt _ h
theorem oc_177 {sc : xm_Sc} {d k : Nat} {v : Int32} {S : xm_PS} (h0 : 0 < k) (hk : k < 2 ^ 31) : xm_C sc xt_M (d + 1) 177 [.int v, .int (nI k)] S = some (.inl (some (.int (nI (oMo v k)))), S) := by
  obtain ⟨u, hu, eu⟩ := oM31 v
  unfold oMo
  rw [yc_177, if_neg (nI_ne0 h0 hk), eu, pk_rem hu h0 hk, nI_clamp hu]
def oCe (sc : xm_Sc) (i : Nat) : Int32 := if sc.1 ≤ i then 37 * nI i else sc.2 i
theorem oc_178 {sc : xm_Sc} {d i : Nat} {S : xm_PS} (hs : sc.1 ≤ 260) (hi : i < 1000) : xm_C sc xt_M (d + 1) 178 [.retAddr 5000, .int (nI i)] S = some (.inl (some (.int (oCe sc i))), S) := by
  rw [yc_178 (by decide), if_pos ⟨rfl, hs⟩]
  unfold oCe
  by_cases h : sc.1 ≤ i
  · rw [if_pos h, if_pos (show Int32.ofNat sc.1 ≤ nI i from nI_le h (by omega))]
  · rw [if_neg h, if_neg (show ¬ Int32.ofNat sc.1 ≤ nI i from nI_ge (by omega) (by omega)), if_pos ⟨rfl, hs, xin (by omega) (by omega)⟩, nI_clamp (by omega)]
section SZ
variable {r : Nat → Int32}
theorem sz_0 : sp_size r (nI 0) = (0, r 0) := by
  unfold sp_size
  rw [if_pos (by decide)]
theorem sz_1 : sp_size r (nI 1) = (0, sp_openN r) := by
  unfold sp_size
  rw [if_neg (by decide), if_pos (by decide)]
theorem sz_2 : sp_size r (nI 2) = (0, r 1) := by
  unfold sp_size
  rw [if_neg (by decide), if_neg (by decide), if_pos (by decide)]
theorem sz_3 : sp_size r (nI 3) = (0, r 2) := by
  unfold sp_size
  rw [if_neg (by decide), if_neg (by decide), if_neg (by decide), if_pos (by decide)]
theorem sz_4 : sp_size r (nI 4) = (0, r 3) := by
  unfold sp_size
  rw [if_neg (by decide), if_neg (by decide), if_neg (by decide), if_neg (by decide), if_pos (by decide)]
theorem sz_5 : sp_size r (nI 5) = (0, r 4) := by
  unfold sp_size
  rw [if_neg (by decide), if_neg (by decide), if_neg (by decide), if_neg (by decide), if_neg (by decide), if_pos (by decide)]
theorem sz_6 : sp_size r (nI 6) = (0, r 5) := by
  unfold sp_size
  rw [if_neg (by decide), if_neg (by decide), if_neg (by decide), if_neg (by decide), if_neg (by decide), if_neg (by decide), if_pos (by decide)]
theorem sz_7 : sp_size r (nI 7) = (0, sp_inState r 0) := by
  unfold sp_size
  rw [if_neg (by decide), if_neg (by decide), if_neg (by decide), if_neg (by decide), if_neg (by decide), if_neg (by decide), if_neg (by decide), if_pos (by decide)]
theorem sz_8 : sp_size r (nI 8) = (0, sp_inState r 1) := by
  unfold sp_size
  rw [if_neg (by decide), if_neg (by decide), if_neg (by decide), if_neg (by decide), if_neg (by decide), if_neg (by decide), if_neg (by decide), if_neg (by decide), if_pos (by decide)]
theorem sz_9 : sp_size r (nI 9) = (0, sp_inState r 2) := by
  unfold sp_size
  rw [if_neg (by decide), if_neg (by decide), if_neg (by decide), if_neg (by decide), if_neg (by decide), if_neg (by decide), if_neg (by decide), if_neg (by decide), if_neg (by decide), if_pos (by decide)]
theorem sz_10 : sp_size r (nI 10) = (0, sp_inState r 3) := by
  unfold sp_size
  rw [if_neg (by decide), if_neg (by decide), if_neg (by decide), if_neg (by decide), if_neg (by decide), if_neg (by decide), if_neg (by decide), if_neg (by decide), if_neg (by decide), if_neg (by decide), if_pos (by decide)]
theorem sz_11 : sp_size r (nI 11) = (0, sp_inState r 4) := by
  unfold sp_size
  rw [if_neg (by decide), if_neg (by decide), if_neg (by decide), if_neg (by decide), if_neg (by decide), if_neg (by decide), if_neg (by decide), if_neg (by decide), if_neg (by decide), if_neg (by decide), if_neg (by decide), if_pos (by decide)]
theorem sz_12 : sp_size r (nI 12) = (0, sp_recN r) := by
  unfold sp_size
  rw [if_neg (by decide), if_neg (by decide), if_neg (by decide), if_neg (by decide), if_neg (by decide), if_neg (by decide), if_neg (by decide), if_neg (by decide), if_neg (by decide), if_neg (by decide), if_neg (by decide), if_neg (by decide), if_pos (by decide)]
theorem vz_0 (hB : xBd r) {v : Nat} (hv : v < xnv r) : sp_van r (nI v) (nI 0) = (0, r (12 + 11 * v)) := by
  have hv4 := hB.v4
  unfold sp_van sp_vanN
  rw [hB.v, if_pos (zrg' (by omega) hv), if_pos (by decide), nI_clamp (by omega)]
theorem vz_1 (hB : xBd r) {v : Nat} (hv : v < xnv r) : sp_van r (nI v) (nI 1) = (0, r (13 + 11 * v)) := by
  have hv4 := hB.v4
  unfold sp_van sp_vanN
  rw [hB.v, if_pos (zrg' (by omega) hv), if_neg (by decide), if_pos (by decide), nI_clamp (by omega)]
theorem vz_2 (hB : xBd r) {v : Nat} (hv : v < xnv r) : sp_van r (nI v) (nI 2) = (0, r (14 + 11 * v)) := by
  have hv4 := hB.v4
  unfold sp_van sp_vanN
  rw [hB.v, if_pos (zrg' (by omega) hv), if_neg (by decide), if_neg (by decide), if_pos (by decide), nI_clamp (by omega)]
theorem vz_3 (hB : xBd r) {v : Nat} (hv : v < xnv r) : sp_van r (nI v) (nI 3) = (0, r (15 + 11 * v + (r (14 + 11 * v)).toNatClampNeg)) := by
  have hv4 := hB.v4
  unfold sp_van sp_vanN
  rw [hB.v, if_pos (zrg' (by omega) hv), if_neg (by decide), if_neg (by decide), if_neg (by decide), if_pos (by decide), nI_clamp (by omega)]
theorem vz_4 (hB : xBd r) {v : Nat} (hv : v < xnv r) : sp_van r (nI v) (nI 4) = (0, sp_booksIn r 1 (nI v)) := by
  have hv4 := hB.v4
  unfold sp_van sp_vanN
  rw [hB.v, if_pos (zrg' (by omega) hv), if_neg (by decide), if_neg (by decide), if_neg (by decide), if_neg (by decide), if_pos (by decide), nI_clamp (by omega)]
theorem vz_5 (hB : xBd r) {v : Nat} (hv : v < xnv r) : sp_van r (nI v) (nI 5) = (0, sp_openOn r v) := by
  have hv4 := hB.v4
  unfold sp_van sp_vanN
  rw [hB.v, if_pos (zrg' (by omega) hv), if_neg (by decide), if_neg (by decide), if_neg (by decide), if_neg (by decide), if_neg (by decide), if_pos (by decide), nI_clamp (by omega)]
theorem bz_0 (hB : xBd r) {b : Nat} (hb : b < xnb r) : sp_branch r (nI b) (nI 0) = (0, r (6 + b)) := by
  have hb6 := hB.b6
  unfold sp_branch sp_branchN
  rw [hB.b, if_pos (zrg' (by omega) hb), if_pos (by decide), nI_clamp (by omega)]
theorem bz_1 (hB : xBd r) {b : Nat} (hb : b < xnb r) : sp_branch r (nI b) (nI 1) = (0, sp_booksIn r 0 (nI b)) := by
  have hb6 := hB.b6
  unfold sp_branch sp_branchN
  rw [hB.b, if_pos (zrg' (by omega) hb), if_neg (by decide), if_pos (by decide), nI_clamp (by omega)]
theorem bz_2 (hB : xBd r) {b : Nat} (hb : b < xnb r) : sp_branch r (nI b) (nI 2) = (0, sp_booksIn r 2 (nI b)) := by
  have hb6 := hB.b6
  unfold sp_branch sp_branchN
  rw [hB.b, if_pos (zrg' (by omega) hb), if_neg (by decide), if_neg (by decide), if_pos (by decide), nI_clamp (by omega)]
theorem sz_ok : ∀ i, i < 13 → (sp_size r (nI i)).1 = 0 := by
  intro i hi
  have h : i = 0 ∨ i = 1 ∨ i = 2 ∨ i = 3 ∨ i = 4 ∨ i = 5 ∨ i = 6 ∨ i = 7 ∨ i = 8 ∨ i = 9 ∨ i = 10 ∨ i = 11 ∨ i = 12 := by omega
  rcases h with e | e | e | e | e | e | e | e | e | e | e | e | e <;> subst e
  · rw [sz_0]
  · rw [sz_1]
  · rw [sz_2]
  · rw [sz_3]
  · rw [sz_4]
  · rw [sz_5]
  · rw [sz_6]
  · rw [sz_7]
  · rw [sz_8]
  · rw [sz_9]
  · rw [sz_10]
  · rw [sz_11]
  · rw [sz_12]
theorem vz_ok (hB : xBd r) {v : Nat} (hv : v < xnv r) : ∀ i, i < 6 → (sp_van r (nI v) (nI i)).1 = 0 := by
  intro i hi
  have h : i = 0 ∨ i = 1 ∨ i = 2 ∨ i = 3 ∨ i = 4 ∨ i = 5 := by omega
  rcases h with e | e | e | e | e | e <;> subst e
  · rw [vz_0 hB hv]
  · rw [vz_1 hB hv]
  · rw [vz_2 hB hv]
  · rw [vz_3 hB hv]
  · rw [vz_4 hB hv]
  · rw [vz_5 hB hv]
theorem bk_ok (hB : xBd r) {k i : Nat} (hk : k < xnk r) (hi : i < 9) : sp_bookK r (nI k) (nI i) = (0, (sp_num (fun _ => -1) r k (nI i)).1) := by
  have hk20 := hB.k20
  unfold sp_bookK sp_bk
  rw [hB.k, if_pos (zrg' (by omega) hk), if_pos ⟨nI_pos' (by omega), nI_le (b := 8) (by omega) (by omega)⟩, nI_clamp (by omega)]
/-- how many requests a book has; the i-th of them -/
def qN (r : Nat → Int32) (k : Nat) : Nat := xcnt (fun q => r (176 + 3 * q) = nI k) (xnq r)
theorem qN_s {k : Nat} : sp_queue r (nI k) = nI (qN r k) := xsum_cnt
theorem qN_le {k : Nat} : qN r k ≤ xnq r := xcnt_le
theorem sp_rank_c {k q : Nat} (h : r (176 + 3 * q) = nI k) : sp_rank r q = nI (xcnt (fun p => r (176 + 3 * p) = nI k) q) := by
  unfold sp_rank
  rw [h]
  exact xsum_cnt
theorem rq_at (hB : xBd r) {k i : Nat} (hi : i < qN r k) : ∃ q, sp_at r (nI k) (nI i) = some q ∧ q < xnq r ∧ r (176 + 3 * q) = nI k ∧ xcnt (fun p => r (176 + 3 * p) = nI k) q = i := by
  have hq40 := hB.q40
  obtain ⟨q, q1, q2, q3⟩ := (xcnt_kth (p := fun q => r (176 + 3 * q) = nI k)).mp hi
  have hc : xfst (fun q => r (176 + 3 * q) = nI k ∧ sp_rank r q = nI i) 0 (xnq r) ≠ none := fun z => xfst_none z q (Nat.zero_le _) (by omega) ⟨q2, by rw [sp_rank_c q2, q3]⟩
  cases e : sp_at r (nI k) (nI i) with
  | none => exact absurd e hc
  | some p =>
    obtain ⟨⟨p1, p2⟩, -, p3, -⟩ := xfst_some e
    refine ⟨p, rfl, by omega, p1, ?_⟩
    rw [sp_rank_c p1] at p2
    have : xcnt (fun p => r (176 + 3 * p) = nI k) p ≤ p := xcnt_le
    exact nI_inj (by omega) (by have := @qN_le r k; omega) p2
theorem rz_ok (hB : xBd r) {k i : Nat} {x : Int32} (hk : k < xnk r) (hi : i < qN r k) (hx : 0 ≤ x ∧ x ≤ 2) : ∃ q, q < xnq r ∧ r (176 + 3 * q) = nI k ∧ xcnt (fun p => r (176 + 3 * p) = nI k) q = i ∧ sp_request r (nI k) (nI i) x = (0, if x = 2 then zB (r (56 + 6 * k) = 2 ∧ r (60 + 6 * k) = r (177 + 3 * q)) else if x = 0 then r (177 + 3 * q) else r (178 + 3 * q)) := by
  have hk20 := hB.k20
  obtain ⟨q, q1, q2, q3, q4⟩ := rq_at hB hi
  refine ⟨q, q2, q3, q4, ?_⟩
  unfold sp_request
  rw [hB.k, if_pos ⟨zrg' (by omega) hk, hx⟩, q1, nI_clamp (by omega)]
end SZ
def aA (r : Nat → Int32) : Nat → Int64
  | 0 => 0
  | i + 1 => (31 * aA r i) + (sp_size r (nI i)).2.toInt64
def aB (r : Nat → Int32) (k : Nat) (v : Int64) : Nat → Int64
  | 0 => v
  | i + 1 => (31 * aB r k v i) + (sp_num (fun _ => -1) r k (nI i)).1.toInt64
def aC (r : Nat → Int32) (k : Nat) (v : Int64) : Nat → Int64
  | 0 => v
  | i + 1 => (31 * ((31 * ((31 * aC r k v i) + (sp_request r (nI k) (nI i) 0).2.toInt64)) + (sp_request r (nI k) (nI i) 1).2.toInt64)) + (sp_request r (nI k) (nI i) 2).2.toInt64
def aD (r : Nat → Int32) (v : Int64) : Nat → Int64
  | 0 => v
  | k + 1 => aC r k (aB r k (aD r v k) 8) (qN r k)
def aE (r : Nat → Int32) (v : Int64) : Nat → Int64
  | 0 => v
  | k + 1 => (31 * aE r v k) + (sp_van r (nI k) (nI 2)).2.toInt64
def aF (r : Nat → Int32) (v : Int64) : Nat → Int64
  | 0 => v
  | k + 1 => (31 * aF r v k) + (sp_branch r (nI k) (nI 0)).2.toInt64
def aAll (r : Nat → Int32) : Int64 := aF r (aE r (aD r (aA r 13) (xnk r)) (xnv r)) (xnb r)
section AL
variable {w : xW} {ext : List xm_PC} {sc : xm_Sc} {d n : Nat} {r : Nat → Int32} {hs : Nat → Nat → Int32} {sn : Option (Nat → Int32)}
theorem lz_111 (hI : cI w r n hs sn) {i : Nat} {v : Int32} (hi : i < 13) (e : sp_size r (nI i) = (0, v)) : xm_C sc xt_M (d + 4) 111 [.ref 0, .int (nI i)] (xL w ext) = some (.inl (some (.int v)), xL w ext) := by
  rw [la_111 hI (by rw [e]), e]
theorem lz_112 (hI : cI w r n hs sn) {k i : Nat} (hk : k < xnk r) (hi : i < 9) : xm_C sc xt_M (d + 6) 112 [.ref 0, .int (nI k), .int (nI i)] (xL w ext) = some (.inl (some (.int (sp_num (fun _ => -1) r k (nI i)).1)), xL w ext) := by
  have e := bk_ok hI.W.bd hk hi
  rw [la_112 hI (by rw [e]), e]
theorem lz_113 (hI : cI w r n hs sn) {v i : Nat} {x : Int32} (e : sp_van r (nI v) (nI i) = (0, x)) : xm_C sc xt_M (d + 4) 113 [.ref 0, .int (nI v), .int (nI i)] (xL w ext) = some (.inl (some (.int x)), xL w ext) := by
  rw [la_113 hI (by rw [e]), e]
theorem lz_116 (hI : cI w r n hs sn) {b i : Nat} {x : Int32} (e : sp_branch r (nI b) (nI i) = (0, x)) : xm_C sc xt_M (d + 4) 116 [.ref 0, .int (nI b), .int (nI i)] (xL w ext) = some (.inl (some (.int x)), xL w ext) := by
  rw [la_116 hI (by rw [e]), e]
theorem lz_117 (hI : cI w r n hs sn) {k i : Nat} {x : Int32} (hk : k < xnk r) (hi : i < qN r k) (hx : 0 ≤ x ∧ x ≤ 2) : xm_C sc xt_M (d + 4) 117 [.ref 0, .int (nI k), .int (nI i), .int x] (xL w ext) = some (.inl (some (.int (sp_request r (nI k) (nI i) x).2)), xL w ext) := by
  obtain ⟨q, -, -, -, e⟩ := rz_ok hI.W.bd hk hi hx
  exact la_117 hI (by rw [e])
theorem nb_n {r : Nat → Int32} (hB : xBd r) : r 0 = nI (xnb r) := hB.b
theorem o3I : nI 3 = 3 := by decide +kernel
theorem o4I : nI 4 = 4 := by decide +kernel
theorem oc_186 (hI : cI w r n hs sn) : xm_C sc xt_M (d + 7) 186 [.ref 0] (xL w ext) = some (.inl (some (.long (aAll r))), xL w ext) := by
  have hW := hI.W
  have hB := hW.bd
  have hb6 := hB.b6
  have hv4 := hB.v4
  have hk20 := hB.k20
  have hq40 := hB.q40
  have is := cI.is (ext := ext) w
  have s2 := @lz_111 w ext sc (d + 2) n r hs sn hI 2 _ (by omega) sz_2
  have s3 := @lz_111 w ext sc (d + 2) n r hs sn hI 3 _ (by omega) sz_3
  have s0 := @lz_111 w ext sc (d + 2) n r hs sn hI 0 _ (by omega) sz_0
  rw [o2I, hB.v] at s2
  rw [o3I, hB.k] at s3
  rw [nI_0, hB.b] at s0
  have lF : ∀ m k v v4, k + m = xnb r → xm_R sc xt_M (d + 6) 186 174 [.ref 0, .long (aF r v k), .null, .int (nI k), v4] [] (xL w ext) = some (.inl (some (.long (aF r v (xnb r)))), xL w ext) := by
    intro m
    induction m with
    | zero =>
      intro k v v4 hk
      rw [yb_186_174, if_pos is, s0, zbs, xk_I, if_pos (nI_le (by omega) (by omega)), show k = xnb r by omega]
    | succ m ih =>
      intro k v v4 hk
      have e := @lz_116 w ext sc (d + 2) n r hs sn hI k 0 _ (bz_0 hB (show k < xnb r by omega))
      rw [nI_0] at e
      rw [yb_186_174, if_pos is, s0, zbs, xk_I, if_neg (nI_ge (by omega) (by omega)), if_pos is, e, zbs, xk_I, ← nI_succ]
      have z := ih (k + 1) v v4 (by omega)
      rw [show aF r v (k + 1) = (31 * aF r v k) + (sp_branch r (nI k) (nI 0)).2.toInt64 from rfl, bz_0 hB (show k < xnb r by omega)] at z
      exact z
  have lE : ∀ m k v v4, k + m = xnv r → xm_R sc xt_M (d + 6) 186 143 [.ref 0, .long (aE r v k), .null, .int (nI k), v4] [] (xL w ext) = some (.inl (some (.long (aF r (aE r v (xnv r)) (xnb r)))), xL w ext) := by
    intro m
    induction m with
    | zero =>
      intro k v v4 hk
      have z := lF (xnb r) 0 (aE r v (xnv r)) v4 (Nat.zero_add _)
      rw [nI_0] at z
      rw [yb_186_143, if_pos is, s2, zbs, xk_I, if_pos (nI_le (by omega) (by omega)), show k = xnv r by omega]
      exact z
    | succ m ih =>
      intro k v v4 hk
      have e := @lz_113 w ext sc (d + 2) n r hs sn hI k 2 _ (vz_2 hB (show k < xnv r by omega))
      rw [o2I] at e
      rw [yb_186_143, if_pos is, s2, zbs, xk_I, if_neg (nI_ge (by omega) (by omega)), if_pos is, e, zbs, xk_I, ← nI_succ]
      have z := ih (k + 1) v v4 (by omega)
      rw [show aE r v (k + 1) = (31 * aE r v k) + (sp_van r (nI k) (nI 2)).2.toInt64 from rfl, vz_2 hB (show k < xnv r by omega)] at z
      exact z
  have lC : ∀ m k i v, k < xnk r → i + m = qN r k → xm_R sc xt_M (d + 6) 186 74 [.ref 0, .long (aC r k v i), .null, .int (nI k), .int (nI i)] [] (xL w ext) = xm_R sc xt_M (d + 6) 186 31 [.ref 0, .long (aC r k v (qN r k)), .null, .int (nI (k + 1)), .int (nI (qN r k))] [] (xL w ext) := by
    intro m
    induction m with
    | zero =>
      intro k i v hk hi
      have e := @lz_112 w ext sc d n r hs sn hI k 4 hk (by omega)
      rw [o4I, show (sp_num (fun _ => -1) r k 4).1 = nI (qN r k) from (show (sp_num (fun _ => -1) r k 4).1 = sp_queue r (nI k) from rfl).trans qN_s] at e
      have hq := @qN_le r k
      rw [yb_186_74, if_pos is, e, zbs, xk_I, if_pos (nI_le (by omega) (by omega)), ← nI_succ, show i = qN r k by omega]
    | succ m ih =>
      intro k i v hk hi
      have e := @lz_112 w ext sc d n r hs sn hI k 4 hk (by omega)
      rw [o4I, show (sp_num (fun _ => -1) r k 4).1 = nI (qN r k) from (show (sp_num (fun _ => -1) r k 4).1 = sp_queue r (nI k) from rfl).trans qN_s] at e
      have hq := @qN_le r k
      rw [yb_186_74, if_pos is, e, zbs, xk_I, if_neg (nI_ge (by omega) (by omega)), if_pos is, lz_117 hI hk (by omega) ⟨by decide, by decide⟩, zbs, xk_I, if_pos is, lz_117 hI hk (by omega) ⟨by decide, by decide⟩, zbs, xk_I, if_pos is, lz_117 hI hk (by omega) ⟨by decide, by decide⟩, zbs, xk_I, ← nI_succ]
      exact ih k (i + 1) v hk (by omega)
  have lB : ∀ m k i v, k < xnk r → i + m = 8 → xm_R sc xt_M (d + 6) 186 43 [.ref 0, .long (aB r k v i), .null, .int (nI k), .int (nI i)] [] (xL w ext) = xm_R sc xt_M (d + 6) 186 74 [.ref 0, .long (aB r k v 8), .null, .int (nI k), .int 0] [] (xL w ext) := by
    intro m
    induction m with
    | zero =>
      intro k i v hk hi
      rw [yb_186_43, if_pos (show (8 : Int32) ≤ nI i from nI_le (a := 8) (by omega) (by omega)), show i = 8 by omega]
    | succ m ih =>
      intro k i v hk hi
      rw [yb_186_43, if_neg (show ¬ (8 : Int32) ≤ nI i from nI_ge (b := 8) (by omega) (by omega)), if_pos is, lz_112 hI hk (by omega), zbs, xk_I, ← nI_succ]
      exact ih k (i + 1) v hk (by omega)
  have lD : ∀ m k v v4, k + m = xnk r → xm_R sc xt_M (d + 6) 186 31 [.ref 0, .long (aD r v k), .null, .int (nI k), v4] [] (xL w ext) = some (.inl (some (.long (aF r (aE r (aD r v (xnk r)) (xnv r)) (xnb r)))), xL w ext) := by
    intro m
    induction m with
    | zero =>
      intro k v v4 hk
      have z := lE (xnv r) 0 (aD r v (xnk r)) v4 (Nat.zero_add _)
      rw [nI_0] at z
      rw [yb_186_31, if_pos is, s3, zbs, xk_I, if_pos (nI_le (by omega) (by omega)), show k = xnk r by omega]
      exact z
    | succ m ih =>
      intro k v v4 hk
      have z1 := lB 8 k 0 (aD r v k) (by omega) (by omega)
      have z2 := lC (qN r k) k 0 (aB r k (aD r v k) 8) (by omega) (Nat.zero_add _)
      rw [nI_0] at z1 z2
      rw [yb_186_31, if_pos is, s3, zbs, xk_I, if_neg (nI_ge (by omega) (by omega))]
      exact z1.trans (z2.trans (ih (k + 1) v _ (by omega)))
  have lA : ∀ m i v4, i + m = 13 → xm_R sc xt_M (d + 6) 186 4 [.ref 0, .long (aA r i), .null, .int (nI i), v4] [] (xL w ext) = some (.inl (some (.long (aAll r))), xL w ext) := by
    intro m
    induction m with
    | zero =>
      intro i v4 hi
      have z := lD (xnk r) 0 (aA r 13) v4 (Nat.zero_add _)
      rw [nI_0] at z
      rw [yb_186_4, if_pos (show (13 : Int32) ≤ nI i from nI_le (a := 13) (by omega) (by omega)), show i = 13 by omega]
      exact z
    | succ m ih =>
      intro i v4 hi
      rw [yb_186_4, if_neg (show ¬ (13 : Int32) ≤ nI i from nI_ge (b := 13) (by omega) (by omega)), if_pos is, la_111 hI (sz_ok i (by omega)), zbs, xk_I, ← nI_succ]
      exact ih (i + 1) v4 (by omega)
  have z := lA 13 0 .null (Nat.zero_add _)
  rw [nI_0] at z
  rw [yc_186]
  exact z
end AL
