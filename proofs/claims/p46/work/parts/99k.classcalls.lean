/-! THE LAW calls the class: answers over its heap -/
def q4 (s : Int32 × Int32 × Option (Nat → Int32)) (x : Int32) : Prop := ∀ r', s.2.2 = some r' → r' 4 = x
section Q4
variable {r : Nat → Int32} {a b rd x y z : Int32}
theorem q4_none : q4 (y, z, none) x := fun _ h => by cases h
theorem q4_some {r0 : Nat → Int32} (e : r0 4 = x) : q4 (y, z, some r0) x := fun r' h => by
  have h' : r0 = r' := Option.some.inj h
  rw [← h']
  exact e
theorem q4_if {c : Prop} [Decidable c] {p q : Int32 × Int32 × Option (Nat → Int32)} (hp : c → q4 p x) (hq : q4 q x) : q4 (if c then p else q) x := by
  by_cases h : c
  · rw [if_pos h]; exact hp h
  · rw [if_neg h]; exact hq
theorem q4_k (hB : xBd r) (h : sp_bk r a) : a.toNatClampNeg < 20 := by
  have hk20 := hB.k20
  rw [sp_bk, hB.k] at h
  obtain ⟨n, hn, e⟩ := zrg (by omega) h
  rw [e, nI_clamp (by omega)]
  omega
theorem q4_u {i : Nat} (h : 4 ≠ i) : upd r i x 4 = r 4 := if_neg h
theorem q4_ask : q4 (sp_ask r a rd b) (r 4) := by
  unfold sp_ask
  refine q4_if (fun _ => q4_if (fun _ => q4_if (fun _ => q4_if (fun _ => q4_none) (q4_if (fun _ => q4_none) ?_)) q4_none) q4_none) q4_none
  split
  · exact q4_none
  · exact q4_some (sp_addq_h (by omega) (by omega))
theorem q4_cancel (hB : xBd r) : q4 (sp_cancel r a rd) (r 4) := by
  unfold sp_cancel
  refine q4_if (fun h => ?_) q4_none
  have hk := q4_k hB h
  unfold sp_cancelN
  split
  · exact q4_none
  · refine q4_some ((sp_drop_h (by omega) (by omega)).trans ?_)
    split
    · exact sp_put_h hk (by omega)
    · rfl
theorem q4_recall (hB : xBd r) : q4 (sp_recall r a) (r 4) := by
  unfold sp_recall
  refine q4_if (fun h => ?_) q4_none
  have hk := q4_k hB h
  unfold sp_recallN
  refine q4_if (fun _ => q4_none) (q4_if (fun _ => q4_none) (q4_some ((q4_u (by omega)).trans ?_)))
  split
  · exact sp_put_h hk (by omega)
  · rfl
theorem q4_takeO (hB : xBd r) : q4 (sp_takeO r a rd) (r 4) := by
  unfold sp_takeO
  refine q4_if (fun h => ?_) q4_none
  have hk := q4_k hB h
  unfold sp_takeN
  refine q4_if (fun _ => ?_) q4_none
  split
  · exact q4_none
  · exact q4_some ((q4_u (by omega)).trans ((sp_put_h hk (by omega)).trans (sp_drop_h (by omega) (by omega))))
theorem q4_giveBack (hB : xBd r) : q4 (sp_giveBack r a b) (r 4) := by
  unfold sp_giveBack
  refine q4_if (fun h => q4_if (fun _ => ?_) q4_none) q4_none
  have hk := q4_k hB h
  unfold sp_backN
  exact q4_if (fun _ => q4_if (fun _ => q4_some (sp_put_h hk (by omega))) q4_none) q4_none
theorem q4_find (hB : xBd r) : q4 (sp_find r a b) (r 4) := by
  unfold sp_find
  refine q4_if (fun h => q4_if (fun _ => ?_) q4_none) q4_none
  have hk := q4_k hB h
  unfold sp_findN
  exact q4_if (fun _ => q4_some (sp_put_h hk (by omega))) q4_none
theorem q4_setHold : q4 (sp_setHold r x) (r 4) := by
  unfold sp_setHold
  exact q4_if (fun _ => q4_some (q4_u (by omega))) q4_none
theorem q4_lose (hW : xWF r) : q4 (sp_lose r a) (r 4) := by
  unfold sp_lose
  exact q4_if (fun _ => q4_some ((sp_loseU_ok hW (xnk r) (Nat.le_refl _)).2 4 (by omega))) q4_none
theorem q4_close (hW : xWF r) : q4 (sp_close r a) (r 4) := by
  have hb6 := hW.bd.b6
  unfold sp_close
  refine q4_if (fun h => q4_if (fun _ => q4_some ?_) q4_none) q4_none
  rw [sp_br, hW.bd.b] at h
  obtain ⟨n, hn, e⟩ := zrg (by omega) h
  rw [e, (sp_closeU_ok hW hn (xnk r) (Nat.le_refl _)).2 4 (by omega)]
  exact q4_u (by omega)
theorem q4_open : q4 (sp_open r a) (r 4) := by
  unfold sp_open
  exact q4_if (fun _ => q4_if (fun _ => q4_none) (q4_some (q4_u (by omega)))) q4_none
theorem q4_run {u : xU} {c : Nat} (hW : xWF u.1) (hc : u.1 4 = nI c) (hc2 : c < 10000) : ∀ r', (sp_run u a).2.2 = some r' → ∃ c, c < 10000 ∧ r' 4 = nI c := by
  unfold sp_run
  by_cases h : 1 ≤ a ∧ a ≤ 99
  · rw [if_pos h]
    have h0 : ¬ a < 0 := fun z => by
      rw [fa_lt] at z
      have h1 := h.1
      rw [fa_le] at h1
      have e0 : (0 : Int32).toInt = 0 := by decide
      have e1 : (1 : Int32).toInt = 1 := by decide
      omega
    obtain ⟨n, hn, rfl⟩ := nI_of (x := a) h0
    have hn99 : n ≤ 99 := Nat.le_of_not_lt fun z => nI_ge (a := 99) (b := n) z hn h.2
    by_cases g : u.1 4 + nI n ≤ 9999
    · rw [if_pos g]
      intro r' e
      have e' : (sp_us (u.1, u.2.1, u.2.2.1, 0) (nI n).toNatClampNeg).1 = r' := Option.some.inj e
      rw [hc, nI_add] at g
      have hcn : c + n ≤ 9999 := Nat.le_of_not_lt fun z => nI_ge (a := 9999) (b := c + n) z (by omega) g
      rw [nI_clamp hn] at e'
      exact ⟨c + n, by omega, by rw [← e']; exact (sp_us_ok (u := (u.1, u.2.1, u.2.2.1, 0)) hW hc n (by omega)).2.1⟩
    · rw [if_neg g]
      intro r' e
      cases e
  · rw [if_neg h]
    intro r' e
    cases e
end Q4

theorem kAn_L {w : xW} {ext : List xm_PC} {sc : xm_Sc} {d j e : Nat} {as : List Value} {s : Int32 × Int32} (h : kAn (xm_C sc xt_M d j as (xem w xl0 0)) w xl0 0 e s) (h0 : s.1 = 0) : xm_C sc xt_M d j as (xL w ext) = some (.inl (some (.int s.2)), xL w ext) := by
  rcases h with ⟨_, h⟩ | ⟨z, _⟩
  · exact xL_C h
  · exact absurd h0 z
/-- an operation's answer over the law's heap -/
def cOp (o : Option xm_O) (w : xW) (ext : List xm_PC) (r : Nat → Int32) (n : Nat) (hs : Nat → Nat → Int32) (sn : Option (Nat → Int32)) (s : Int32 × Int32 × Option (Nat → Int32)) : Prop := match s.2.2 with
  | none => o = some (.inl (some (.int s.2.1)), xL w ext)
  | some r' => ∃ w', o = some (.inl (some (.int s.2.1)), xL w' ext) ∧ cI w' r' (cN n) (cPush n hs r) sn ∧ xnb r' = xnb r ∧ xnv r' = xnv r ∧ xnk r' = xnk r
section LA
variable {w : xW} {ext : List xm_PC} {sc : xm_Sc} {d n : Nat} {r : Nat → Int32} {hs : Nat → Nat → Int32} {sn : Option (Nat → Int32)}
theorem cI.is (w : xW) : xm_isO (xL w ext) (.ref 0) 7 = true := fe_isO (S := xem w xl0 0) xiA
theorem cOp_of {j : Nat} {as : List Value} {e : Int32 → Nat} {s : Int32 × Int32 × Option (Nat → Int32)} (hI : cI w r n hs sn) (h : ∀ m, n ≤ 10 → m < 10 → (w 0).1 13 = nI n → (w 0).1 14 = nI m → kOpA (xm_C sc xt_M d j as (xem w xl0 0)) w xl0 0 n m e s) (h0 : s.1 = 0) (h4 : ∀ r', s.2.2 = some r' → ∃ c, c < 10000 ∧ r' 4 = nI c) : cOp (xm_C sc xt_M d j as (xL w ext)) w ext r n hs sn s := by
  obtain ⟨b1, b3, m, b2, b5, b6⟩ := hI.2.2.1
  have A := h m b1 b2 b3 b5
  obtain ⟨x, y, z⟩ := s
  cases z with
  | none => exact kAn_L (show kAn _ w xl0 0 (e x) (x, y) from A) h0
  | some r' =>
    obtain ⟨_, w', e1, e2⟩ := (show x = 0 ∧ ∃ w', xm_C sc xt_M d j as (xem w xl0 0) = some (.inl (some (.int y)), xem w' xl0 0) ∧ kOps w w' r' n m from A)
    exact ⟨w', xL_C e1, cI_op hI b2 b5 e2 (h4 r' rfl), kOps_c hI b2 e2⟩
theorem cI.c4 (hI : cI w r n hs sn) : ∃ c, c < 10000 ∧ r 4 = nI c := hI.tm.2
theorem q4_to {s : Int32 × Int32 × Option (Nat → Int32)} (hI : cI w r n hs sn) (h : q4 s (r 4)) : ∀ r', s.2.2 = some r' → ∃ c, c < 10000 ∧ r' 4 = nI c := fun r' e => by
  obtain ⟨c, h1, h2⟩ := hI.c4
  exact ⟨c, h1, (h r' e).trans h2⟩
theorem la_111 {x : Int32} (hI : cI w r n hs sn) (h0 : (sp_size r x).1 = 0) : xm_C sc xt_M (d + 4) 111 [.ref 0, .int x] (xL w ext) = some (.inl (some (.int (sp_size r x).2)), xL w ext) := kAn_L (@kd_111 w xl0 0 sc d r x hI.R) h0
theorem la_112 {a x : Int32} (hI : cI w r n hs sn) (h0 : (sp_bookK r a x).1 = 0) : xm_C sc xt_M (d + 6) 112 [.ref 0, .int a, .int x] (xL w ext) = some (.inl (some (.int (sp_bookK r a x).2)), xL w ext) := kAn_L (@kd_112 w xl0 0 sc d r a x hI.R) h0
theorem la_118 {a x : Int32} (hI : cI w r n hs sn) (h0 : (sp_placeOf r a x).1 = 0) : xm_C sc xt_M (d + 4) 118 [.ref 0, .int a, .int x] (xL w ext) = some (.inl (some (.int (sp_placeOf r a x).2)), xL w ext) := kAn_L (@kd_118 w xl0 0 sc d r a x hI.R) h0
theorem la_120 {a x : Int32} (hI : cI w r n hs sn) (h0 : (sp_legsK r a x).1 = 0) : xm_C sc xt_M (d + 3) 120 [.ref 0, .int a, .int x] (xL w ext) = some (.inl (some (.int (sp_legsK r a x).2)), xL w ext) := kAn_L (@kd_120 w xl0 0 sc d r a x hI.R) h0
theorem la_114 {a x : Int32} (hI : cI w r n hs sn) (h0 : (sp_stop r a x).1 = 0) : xm_C sc xt_M (d + 3) 114 [.ref 0, .int a, .int x] (xL w ext) = some (.inl (some (.int (sp_stop r a x).2)), xL w ext) := kAn_L (@kd_114 w xl0 0 sc d r a x hI.R) h0
theorem la_115 {a x : Int32} (hI : cI w r n hs sn) (h0 : (sp_inVan r a x).1 = 0) : xm_C sc xt_M (d + 4) 115 [.ref 0, .int a, .int x] (xL w ext) = some (.inl (some (.int (sp_inVan r a x).2)), xL w ext) := kAn_L (@kd_115 w xl0 0 sc d r a x hI.R) h0
theorem la_117 {a i x : Int32} (hI : cI w r n hs sn) (h0 : (sp_request r a i x).1 = 0) : xm_C sc xt_M (d + 4) 117 [.ref 0, .int a, .int i, .int x] (xL w ext) = some (.inl (some (.int (sp_request r a i x).2)), xL w ext) := kAn_L (@kd_117 w xl0 0 sc d r a i x hI.R) h0
theorem la_113 {a x : Int32} (hI : cI w r n hs sn) (h0 : (sp_van r a x).1 = 0) : xm_C sc xt_M (d + 4) 113 [.ref 0, .int a, .int x] (xL w ext) = some (.inl (some (.int (sp_van r a x).2)), xL w ext) := kAn_L (@kd_113 w xl0 0 sc d r a x hI.R) h0
theorem la_116 {a x : Int32} (hI : cI w r n hs sn) (h0 : (sp_branch r a x).1 = 0) : xm_C sc xt_M (d + 4) 116 [.ref 0, .int a, .int x] (xL w ext) = some (.inl (some (.int (sp_branch r a x).2)), xL w ext) := kAn_L (@kd_116 w xl0 0 sc d r a x hI.R) h0
theorem la_122 {a x : Int32} (hI : cI w r n hs sn) (h0 : (sp_comes r a x).1 = 0) : xm_C sc xt_M (d + 3) 122 [.ref 0, .int a, .int x] (xL w ext) = some (.inl (some (.int (sp_comes r a x).2)), xL w ext) := kAn_L (@kd_122 w xl0 0 sc d r a x hI.R) h0
theorem la_127 (hI : cI w r n hs sn) : xm_C sc xt_M (d + 3) 127 [.ref 0] (xL w ext) = some (.inl (some (.int (nI (sp_fullN r (xnv r - 1))))), xL w ext) := xL_C (@kd_127 w xl0 0 sc d r hI.R)
theorem la_129 {f : Nat → Int32} (hI : cI w r n hs sn) (hf : kFar f r) : xm_C sc xt_M (d + 4) 129 [.ref 0] (xL w ext) = some (.inl (some (.int (sp_str f r (xnk r)))), xL w ext) := xL_C (@kd_129 w xl0 0 sc d r f hI.R hf)
theorem la_132 (hI : cI w r n hs sn) : xm_C sc xt_M (d + 3) 132 [.ref 0] (xL w ext) = some (.inl (some (.double (sp_load r))), xL w ext) := xL_C (@kd_132 w xl0 0 sc d r hI.R hI.tm.1)
theorem la_133 (hI : cI w r n hs sn) : xm_C sc xt_M (d + 3) 133 [.ref 0] (xL w ext) = some (.inl (some (.float (sp_lost r))), xL w ext) := xL_C (@kd_133 w xl0 0 sc d r hI.R)
theorem la_130 (hI : cI w r n hs sn) : ∃ w', xm_C sc xt_M (d + 6) 130 [.ref 0] (xL w ext) = some (.inl (some (.int (kHub r (xnb r)).1)), xL w' ext) ∧ cI w' r n hs sn := by
  obtain ⟨f, e⟩ := @kd_130 w xl0 0 sc d r hI.R
  exact ⟨_, xL_C e, cI_keep hI kKeep_0⟩
theorem kAm_L {j : Nat} {as : List Value} {e : Int32 → Nat} {s : Int32 × Int32} (hI : cI w r n hs sn) (h : kAm (xm_C sc xt_M d j as (xem w xl0 0)) w xl0 0 e s) (h0 : s.1 = 0) : ∃ w', xm_C sc xt_M d j as (xL w ext) = some (.inl (some (.int s.2)), xL w' ext) ∧ cI w' r n hs sn := by
  rcases h with ⟨_, w', h1, h2⟩ | ⟨z, _⟩
  · exact ⟨w', xL_C h1, cI_keep hI h2⟩
  · exact absurd h0 z
theorem la_124 {u : xU} {a : Int32} (hI : cI w u.1 n hs sn) (h0 : (sp_until u 0 a 0).1 = 0) : ∃ w', xm_C sc xt_M (d + 7) 124 [.ref 0, .int a] (xL w ext) = some (.inl (some (.int (sp_until u 0 a 0).2)), xL w' ext) ∧ cI w' u.1 n hs sn := by
  obtain ⟨c, h1, h2⟩ := hI.c4
  exact kAm_L hI (@kd_124 w xl0 0 sc d u a c hI.R h2 h1) h0
theorem la_125 {u : xU} {a rd : Int32} (hI : cI w u.1 n hs sn) (h0 : (sp_until u 1 a rd).1 = 0) : ∃ w', xm_C sc xt_M (d + 7) 125 [.ref 0, .int a, .int rd] (xL w ext) = some (.inl (some (.int (sp_until u 1 a rd).2)), xL w' ext) ∧ cI w' u.1 n hs sn := by
  obtain ⟨c, h1, h2⟩ := hI.c4
  exact kAm_L hI (@kd_125 w xl0 0 sc d u a rd c hI.R h2 h1) h0
theorem la_126 {u : xU} {a x i : Int32} (hI : cI w u.1 n hs sn) (h0 : (sp_bookIn u a x i).1 = 0) : ∃ w', xm_C sc xt_M (d + 7) 126 [.ref 0, .int a, .int x, .int i] (xL w ext) = some (.inl (some (.int (sp_bookIn u a x i).2)), xL w' ext) ∧ cI w' u.1 n hs sn := by
  obtain ⟨c, h1, h2⟩ := hI.c4
  exact kAm_L hI (@kd_126 w xl0 0 sc d u a x i c hI.R h2 h1) h0
theorem la_134 {a rd b : Int32} (hI : cI w r n hs sn) (h0 : (sp_ask r a rd b).1 = 0) : cOp (xm_C sc xt_M (d + 5) 134 [.ref 0, .int a, .int rd, .int b] (xL w ext)) w ext r n hs sn (sp_ask r a rd b) :=
  cOp_of hI (fun m h1 h2 h3 h4 => @kd_134 w xl0 0 sc d r n m a rd b hI.R h1 h2 h3 h4) h0 (q4_to hI (q4_ask))
theorem la_135 {a rd : Int32} (hI : cI w r n hs sn) (h0 : (sp_cancel r a rd).1 = 0) : cOp (xm_C sc xt_M (d + 5) 135 [.ref 0, .int a, .int rd] (xL w ext)) w ext r n hs sn (sp_cancel r a rd) :=
  cOp_of hI (fun m h1 h2 h3 h4 => @kd_135 w xl0 0 sc d r n m a rd hI.R h1 h2 h3 h4) h0 (q4_to hI (q4_cancel hI.W.bd))
theorem la_136 {a : Int32} (hI : cI w r n hs sn) (h0 : (sp_recall r a).1 = 0) : cOp (xm_C sc xt_M (d + 5) 136 [.ref 0, .int a] (xL w ext)) w ext r n hs sn (sp_recall r a) :=
  cOp_of hI (fun m h1 h2 h3 h4 => @kd_136 w xl0 0 sc d r n m a hI.R h1 h2 h3 h4) h0 (q4_to hI (q4_recall hI.W.bd))
theorem la_137 {a rd : Int32} (hI : cI w r n hs sn) (h0 : (sp_takeO r a rd).1 = 0) : cOp (xm_C sc xt_M (d + 5) 137 [.ref 0, .int a, .int rd] (xL w ext)) w ext r n hs sn (sp_takeO r a rd) :=
  cOp_of hI (fun m h1 h2 h3 h4 => @kd_137 w xl0 0 sc d r n m a rd hI.R h1 h2 h3 h4) h0 (q4_to hI (q4_takeO hI.W.bd))
theorem la_138 {a b : Int32} (hI : cI w r n hs sn) (h0 : (sp_giveBack r a b).1 = 0) : cOp (xm_C sc xt_M (d + 5) 138 [.ref 0, .int a, .int b] (xL w ext)) w ext r n hs sn (sp_giveBack r a b) :=
  cOp_of hI (fun m h1 h2 h3 h4 => @kd_138 w xl0 0 sc d r n m a b hI.R h1 h2 h3 h4) h0 (q4_to hI (q4_giveBack hI.W.bd))
theorem la_140 {a b : Int32} (hI : cI w r n hs sn) (h0 : (sp_find r a b).1 = 0) : cOp (xm_C sc xt_M (d + 5) 140 [.ref 0, .int a, .int b] (xL w ext)) w ext r n hs sn (sp_find r a b) :=
  cOp_of hI (fun m h1 h2 h3 h4 => @kd_140 w xl0 0 sc d r n m a b hI.R h1 h2 h3 h4) h0 (q4_to hI (q4_find hI.W.bd))
theorem la_143 {x : Int32} (hI : cI w r n hs sn) (h0 : (sp_setHold r x).1 = 0) : cOp (xm_C sc xt_M (d + 5) 143 [.ref 0, .int x] (xL w ext)) w ext r n hs sn (sp_setHold r x) :=
  cOp_of hI (fun m h1 h2 h3 h4 => @kd_143 w xl0 0 sc d r n m x hI.R h1 h2 h3 h4) h0 (q4_to hI (q4_setHold))
theorem la_139 {a : Int32} (hI : cI w r n hs sn) (h0 : (sp_lose r a).1 = 0) : cOp (xm_C sc xt_M (d + 5) 139 [.ref 0, .int a] (xL w ext)) w ext r n hs sn (sp_lose r a) :=
  cOp_of hI (fun m h1 h2 h3 h4 => @kd_139 w xl0 0 sc d r n m a hI.R h1 h2 h3 h4) h0 (q4_to hI (q4_lose hI.W))
theorem la_141 {a : Int32} (hI : cI w r n hs sn) (h0 : (sp_close r a).1 = 0) : cOp (xm_C sc xt_M (d + 5) 141 [.ref 0, .int a] (xL w ext)) w ext r n hs sn (sp_close r a) :=
  cOp_of hI (fun m h1 h2 h3 h4 => @kd_141 w xl0 0 sc d r n m a hI.R h1 h2 h3 h4) h0 (q4_to hI (q4_close hI.W))
theorem la_142 {a : Int32} (hI : cI w r n hs sn) (h0 : (sp_open r a).1 = 0) : cOp (xm_C sc xt_M (d + 5) 142 [.ref 0, .int a] (xL w ext)) w ext r n hs sn (sp_open r a) :=
  cOp_of hI (fun m h1 h2 h3 h4 => @kd_142 w xl0 0 sc d r n m a hI.R h1 h2 h3 h4) h0 (q4_to hI (q4_open))
theorem la_144 {u : xU} {a : Int32} (hI : cI w u.1 n hs sn) (h0 : (sp_run u a).1 = 0) : cOp (xm_C sc xt_M (d + 7) 144 [.ref 0, .int a] (xL w ext)) w ext u.1 n hs sn (sp_run u a) := by
  obtain ⟨c, h1, h2⟩ := hI.c4
  exact cOp_of hI (fun m h3 h4 h5 h6 => @kd_144 w xl0 0 sc d n m c a u hI.R h3 h4 h5 h6 h2 h1) h0 (q4_run hI.W h2 h1)
theorem la_147 (hI : cI w r n hs sn) : xm_C sc xt_M (d + 1) 147 [.ref 0] (xL w ext) = some (.inl (some (.int (nI n))), xL w ext) := xL_C (@kd_147 w xl0 0 sc d n hI.2.2.1.2.1)
theorem la_148_0 (hI : cI w r 0 hs sn) : xm_C sc xt_M (d + 1) 148 [.ref 0] (xL w ext) = some (.inl (some (.int (-1))), xL w ext) := xL_C (@kd_148_0 w xl0 0 sc d (hI.2.2.1.2.1.trans nI_0))
theorem la_148 (hI : cI w r (n + 1) hs sn) : ∃ w', xm_C sc xt_M (d + 4) 148 [.ref 0] (xL w ext) = some (.inl (some (.int (nI n))), xL w' ext) ∧ cI w' (hs n) n hs sn := by
  obtain ⟨b1, b3, m, b2, b5, b6⟩ := hI.2.2.1
  obtain ⟨s, e1, e2⟩ := @kd_148 w xl0 0 sc d n m (by omega) b2 b3 b5
  exact ⟨_, xL_C e1, cI_undo hI b2 b5 e2⟩
theorem la_149 (hI : cI w r n hs sn) : ∃ w', xm_C sc xt_M (d + 3) 149 [.ref 0] (xL w ext) = some (.inl none, xL w' ext) ∧ cI w' r n hs (some r) := by
  obtain ⟨s, e1, e2⟩ := @kd_149 w xl0 0 sc d
  exact ⟨_, xL_C e1, cI_snap hI e2⟩
theorem la_150 {r0 : Nat → Int32} (hI : cI w r n hs (some r0)) : ∃ w', xm_C sc xt_M (d + 3) 150 [.ref 0] (xL w ext) = some (.inl (some (.int 1)), xL w' ext) ∧ cI w' r0 0 hs (some r0) := by
  obtain ⟨s, e1, e2⟩ := @kd_150 w xl0 0 sc d hI.2.2.2.1.1
  exact ⟨_, xL_C e1, cI_rest hI e2⟩
end LA
