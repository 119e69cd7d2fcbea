/-! THE ENTRY: what the constructors leave -/
def fI (c : List xm_PC) (k : Nat) : Nat → Int32 := match c[k]? with
  | some (.inl (_, _, .inl f)) => f
  | _ => fun _ => 0
def fL (c : List xm_PC) (k : Nat) : Nat → Int64 := match c[k]? with
  | some (.inl (_, _, .inr (.inl f))) => f
  | _ => fun _ => 0
def ske (x y : xm_PC) : Bool := match x, y with
  | .inr (a, vs), .inr (b, us) => decide (a = b) && decide (vs = us)
  | .inl (a, n, .inl _), .inl (b, m, .inl _) => decide (a = b) && decide (n = m)
  | .inl (a, n, .inr (.inl _)), .inl (b, m, .inr (.inl _)) => decide (a = b) && decide (n = m)
  | .inl (a, n, .inr (.inr (.inr (.inr f)))), .inl (b, m, .inr (.inr (.inr (.inr g)))) => decide (a = b) && (decide (n = m) && (List.range n).all (fun i => decide (f i = g i)))
  | _, _ => false
def agr (c : List xm_PC) (k : Nat) (y : xm_PC) : Prop := match y with
  | .inl (_, _, .inl g) => g = fI c k
  | .inl (_, _, .inr (.inl g)) => g = fL c k
  | .inl (_, n, .inr (.inr (.inr (.inr g)))) => ∀ i, n ≤ i → g i = none
  | _ => True
def skes : List xm_PC → List xm_PC → Bool
  | [], [] => true
  | x :: r, y :: s => ske x y && skes r s
  | _, _ => false
def agrs (c : List xm_PC) : Nat → List xm_PC → Prop
  | _, [] => True
  | k, y :: s => agr c k y ∧ agrs c (k + 1) s
theorem ske_eq {C : List xm_PC} {k : Nat} {x y : xm_PC} (hC : C[k]? = some x) (ha : agr C k y) (hs : ske x y = true) (hq : xm_okc x) : x = y := by
  unfold ske at hs
  split at hs
  · rw [Bool.and_eq_true] at hs
    rw [of_decide_eq_true hs.1, of_decide_eq_true hs.2]
  · rw [Bool.and_eq_true] at hs
    have e : _ = fI C k := ha
    unfold fI at e
    rw [hC] at e
    rw [of_decide_eq_true hs.1, of_decide_eq_true hs.2, e]
  · rw [Bool.and_eq_true] at hs
    have e : _ = fL C k := ha
    unfold fL at e
    rw [hC] at e
    rw [of_decide_eq_true hs.1, of_decide_eq_true hs.2, e]
  · next a n f b m g =>
    rw [Bool.and_eq_true, Bool.and_eq_true] at hs
    have h1 := of_decide_eq_true hs.1
    have h2 := of_decide_eq_true hs.2.1
    subst h1
    subst h2
    have h3 := hs.2.2
    rw [List.all_eq_true] at h3
    have e : f = g := by
      funext i
      by_cases hi : i < n
      · exact of_decide_eq_true (h3 i (List.mem_range.2 hi))
      · rw [hq _ _ _ rfl i (Nat.le_of_not_lt hi)]
        exact ((show ∀ i, n ≤ i → g i = none from ha) i (Nat.le_of_not_lt hi)).symm
    rw [e]
  · cases hs
theorem skes_eq {C : List xm_PC} : ∀ (c d : List xm_PC) (k : Nat), (∀ (i : Nat) (x : xm_PC), c[i]? = some x → C[k + i]? = some x) → agrs C k d → skes c d = true → (∀ (i : Nat) (x : xm_PC), C[i]? = some x → xm_okc x) → c = d
  | [], [], _, _, _, _, _ => rfl
  | [], _ :: _, _, _, _, h, _ => by cases h
  | _ :: _, [], _, _, _, h, _ => by cases h
  | x :: r, y :: s, k, hC, ha, h, hq => by
    have h' : (ske x y && skes r s) = true := h
    rw [Bool.and_eq_true] at h'
    have e1 : C[k]? = some x := hC 0 x rfl
    rw [ske_eq e1 ha.1 h'.1 (hq k x e1), skes_eq r s (k + 1) (fun i z hz => by
      have := hC (i + 1) z hz
      rw [show k + 1 + i = k + (i + 1) by omega]
      exact this) ha.2 h'.2 hq]
def wsc (g : Nat) (i : Nat) : Int32 := if g = 0 then (if i = 1 then -1 else if i = 2 then 1 else 0) else if g = 1 then (if i = 0 then 2 else if i = 1 then 1 else 0) else if g = 5 then (if i = 2 then 10 else if i = 3 then 3 else 0) else 0
def wpo (g : Nat) (a : Nat) : Nat := if g = 0 then (if a = 0 then 20 else if a = 1 then 22 else if a = 2 then 24 else 45) else if g = 1 then 2 + a else if g = 2 then 39 + a else if g = 3 then 0 else xh (g - 5) + (if a < 5 then a + 1 else if a < 9 then a + 2 else 12)
def wv (c : List xm_PC) : xW := fun g => (wsc g, fun a => fI c (wpo g a))
theorem agrs_app {c : List xm_PC} : ∀ (a b : List xm_PC) (k n : Nat), a.length = n → agrs c k a → agrs c (k + n) b → agrs c k (a ++ b)
  | [], b, k, n, hn, _, h => by
    cases hn
    exact h
  | x :: r, b, k, n, hn, ha, h => by
    cases hn
    refine ⟨ha.1, agrs_app r b (k + 1) r.length rfl ha.2 ?_⟩
    rw [show k + 1 + r.length = k + (x :: r).length by rw [List.length_cons]; omega]
    exact h
theorem agrs_1 {c : List xm_PC} {k : Nat} {x : xm_PC} {r : List xm_PC} (h : agr c k x) (hr : agrs c (k + 1) r) : agrs c k (x :: r) := ⟨h, hr⟩
theorem agrs_0 {c : List xm_PC} {k : Nat} : agrs c k [] := trivial
theorem agrs_S {c : List xm_PC} {k h : Nat} {s : xG} (hk : k = h) (h0 : s.2 0 = fI c (h + 1)) (h1 : s.2 1 = fI c (h + 2)) (h2 : s.2 2 = fI c (h + 3)) (h3 : s.2 3 = fI c (h + 4)) (h4 : s.2 4 = fI c (h + 5)) (h5 : s.2 5 = fI c (h + 7)) (h6 : s.2 6 = fI c (h + 8)) (h7 : s.2 7 = fI c (h + 9)) (h8 : s.2 8 = fI c (h + 10)) (h9 : s.2 9 = fI c (h + 12)) : agrs c k (xcS h s) := by
  subst hk
  exact ⟨trivial, h0, h1, h2, h3, h4, trivial, h5, h6, h7, h8, trivial, h9, trivial⟩
theorem wv_S {c : List xm_PC} {k h : Nat} (g : Nat) (hg : g < 13) (hk : k = h) (hh : h = xh g) : agrs c k (xcS h (wv c (g + 5))) := by
  have e : ∀ a, (wv c (g + 5)).2 a = fI c (h + (if a < 5 then a + 1 else if a < 9 then a + 2 else 12)) := fun a => by
    show fI c (wpo (g + 5) a) = _
    unfold wpo
    rw [if_neg (by omega), if_neg (by omega), if_neg (by omega), if_neg (by omega), Nat.add_sub_cancel, hh]
  exact agrs_S hk (e 0) (e 1) (e 2) (e 3) (e 4) (e 5) (e 6) (e 7) (e 8) (e 9)
theorem wv_agr {c : List xm_PC} : agrs c 0 (xcells (wv c) xl0) := by
  unfold xcells xcF
  refine agrs_app _ _ 0 1 rfl ⟨trivial, trivial⟩ ?_
  refine agrs_app _ _ 1 6 rfl ⟨trivial, rfl, rfl, rfl, rfl, rfl, trivial⟩ ?_
  refine agrs_app _ _ 7 13 rfl (wv_S 0 (by omega) rfl rfl) ?_
  refine agrs_app _ _ 20 5 rfl ⟨rfl, trivial, rfl, trivial, rfl, trivial⟩ ?_
  refine agrs_app _ _ 25 13 rfl (wv_S 1 (by omega) rfl rfl) ?_
  refine agrs_app _ _ 38 6 rfl ⟨trivial, rfl, rfl, rfl, rfl, rfl, trivial⟩ ?_
  refine agrs_app _ _ 44 2 rfl ⟨trivial, rfl, trivial⟩ ?_
  refine agrs_app _ _ 46 13 rfl (wv_S 2 (by omega) rfl rfl) ?_
  refine agrs_app _ _ 59 2 rfl ⟨trivial, fun i hi => if_neg (Nat.not_lt.2 hi), trivial⟩ ?_
  refine agrs_app _ _ 61 13 rfl (wv_S 3 (by omega) rfl rfl) ?_
  refine agrs_app _ _ 74 13 rfl (wv_S 4 (by omega) rfl rfl) ?_
  refine agrs_app _ _ 87 13 rfl (wv_S 5 (by omega) rfl rfl) ?_
  refine agrs_app _ _ 100 13 rfl (wv_S 6 (by omega) rfl rfl) ?_
  refine agrs_app _ _ 113 13 rfl (wv_S 7 (by omega) rfl rfl) ?_
  refine agrs_app _ _ 126 13 rfl (wv_S 8 (by omega) rfl rfl) ?_
  refine agrs_app _ _ 139 13 rfl (wv_S 9 (by omega) rfl rfl) ?_
  refine agrs_app _ _ 152 13 rfl (wv_S 10 (by omega) rfl rfl) ?_
  refine agrs_app _ _ 165 13 rfl (wv_S 11 (by omega) rfl rfl) ?_
  refine agrs_app _ _ 178 13 rfl (wv_S 12 (by omega) rfl rfl) ?_
  exact trivial
def sc0 : xm_Sc := (1000, fun _ => 0)
def en1 : Option xm_O := xm_run sc0 xt_M 8000 9 106 0 (xm_entry 3 [.ref 0]) [] (true, 0, [.inr (7, xm_new 7)])
def ec1 : List xm_PC := match en1 with
  | some (_, _, _, c) => c
  | none => []
def eok (o : Option xm_O) : Bool := match o with
  | some (.inl none, true, 0, _) => true
  | _ => false
