/-! THE WORLD in groups: 0 the class itself, 1 and 2 its plans, 3 the reference, 5 and on the states (0 current, 1 spare, 2 snapshot, 3 to 12 the history's rows); a group is numbers and rows of numbers. -/
abbrev xG : Type := (Nat → Int32) × (Nat → Nat → Int32)
abbrev xW : Type := Nat → xG
def xu (w : xW) (g : Nat) (s : xG) : xW := fun g' => if g' = g then s else w g'
def xs1 (s : xG) (i : Nat) (x : Int32) : xG := (upd s.1 i x, s.2)
def xs2 (s : xG) (a : Nat) (f : Nat → Int32) : xG := (s.1, fun a' => if a' = a then f else s.2 a')
theorem xu_same {w : xW} {g : Nat} {s : xG} : xu w g s g = s := if_pos rfl
theorem xu_ne {w : xW} {g g' : Nat} {s : xG} (h : g' ≠ g) : xu w g s g' = w g' := if_neg h
theorem xu_xu {w : xW} {g : Nat} {s s' : xG} : xu (xu w g s) g s' = xu w g s' := by
  funext g'
  unfold xu
  split <;> rfl
theorem xu_self {w : xW} {g : Nat} : xu w g (w g) = w := by
  funext g'
  unfold xu
  split
  · next h => rw [h]
  · rfl
theorem xu_swap {w : xW} {g h : Nat} {s s' : xG} (hn : g ≠ h) : xu (xu w g s) h s' = xu (xu w h s') g s := by
  funext g'
  unfold xu
  by_cases h1 : g' = g
  · subst h1
    simp [hn]
  · simp [h1]
theorem xs1_same {s : xG} {i : Nat} {x : Int32} : (xs1 s i x).1 i = x := if_pos rfl
theorem xs1_ne {s : xG} {i j : Nat} {x : Int32} (h : j ≠ i) : (xs1 s i x).1 j = s.1 j := if_neg h
theorem xs1_2 {s : xG} {i : Nat} {x : Int32} : (xs1 s i x).2 = s.2 := rfl
theorem xs2_1 {s : xG} {a : Nat} {f : Nat → Int32} : (xs2 s a f).1 = s.1 := rfl
theorem xs2_same {s : xG} {a : Nat} {f : Nat → Int32} : (xs2 s a f).2 a = f := if_pos rfl
theorem xs2_ne {s : xG} {a b : Nat} {f : Nat → Int32} (h : b ≠ a) : (xs2 s a f).2 b = s.2 b := if_neg h
def xh (k : Nat) : Nat := match k with
  | 0 => 7
  | 1 => 25
  | 2 => 46
  | k + 3 => 61 + 13 * k
def xp (j : Nat) : Nat := match j with
  | 0 => 1
  | _ => 38
def xpi (s : xG) : Nat := if s.1 0 = 0 then 0 else 1
theorem xpi_lt {s : xG} : xpi s < 2 := by
  unfold xpi
  split <;> decide
def xri (m : xG) : Nat := if m.1 0 = 0 then 0 else 1
theorem xri_lt {s : xG} : xri s < 2 := by
  unfold xri
  split <;> decide
/-- the model's rows, by their numbers -/
def xm (n : Nat) : Nat := 192 + n
def xnm (i : Nat) : Nat := match i with
  | 0 => 27
  | 1 => 28
  | 2 => 29
  | 3 => 30
  | 4 => 31
  | 5 => 32
  | _ => 33
def xbh (m : xG) : Nat := if m.1 6 = 0 then 22 else 20
def xcP (h : Nat) (p : xG) : List xm_PC := [.inr (2, [.int (p.1 0), .int (p.1 1), .int (p.1 2), .ref (h + 1), .ref (h + 2), .ref (h + 3), .ref (h + 4), .ref (h + 5)]), .inl (0, 4, .inl (p.2 0)), .inl (0, 4, .inl (p.2 1)), .inl (0, 4, .inl (p.2 2)), .inl (0, 20, .inl (p.2 3)), .inl (0, 32, .inl (p.2 4))]
def xcS (h : Nat) (s : xG) : List xm_PC := [.inr (4, [.ref (xp (xpi s)), .int (s.1 1), .int (s.1 2), .int (s.1 3), .int (s.1 4), .ref (h + 1), .ref (h + 2), .ref (h + 3), .ref (h + 4), .ref (h + 5), .ref (h + 6), .ref (h + 11)]),
  .inl (0, 4, .inl (s.2 0)), .inl (0, 20, .inl (s.2 1)), .inl (0, 20, .inl (s.2 2)), .inl (0, 20, .inl (s.2 3)), .inl (0, 20, .inl (s.2 4)),
  .inr (3, [.int (s.1 5), .ref (h + 7), .ref (h + 8), .ref (h + 9), .ref (h + 10)]), .inl (0, 40, .inl (s.2 5)), .inl (0, 40, .inl (s.2 6)), .inl (0, 40, .inl (s.2 7)), .inl (0, 20, .inl (s.2 8)), .inr (6, [.ref (h + 12)]), .inl (0, 36, .inl (s.2 9))]
def xcA (m : xG) : List xm_PC := [.inr (7, [.ref 20, .int (m.1 0), .int (m.1 1), .ref 21, .ref 23, .ref (xh 0), .ref (xh 1), .ref (xp (if m.1 2 = 0 then 0 else 1)), .ref 44, .ref (xh 2), .int (m.1 3), .ref 59])]
def xcB (m : xG) : List xm_PC := [.inl (1, 800, .inl (m.2 0)), .inr (5, [.int (m.1 4), .int (m.1 5), .ref (xbh m), .int (m.1 7), .int (m.1 8), .int (m.1 9), .int (m.1 10), .int (m.1 11)]), .inl (1, 0, .inl (m.2 1)), .inr (1, [.int (m.1 12), .ref 24]), .inl (1, 256, .inl (m.2 2))]
def xcC (m : xG) : List xm_PC := [.inr (6, [.ref 45]), .inl (0, 36, .inl (m.2 3))]
def xcD (m : xG) : List xm_PC := [.inr (0, [.int (m.1 13), .int (m.1 14), .ref 60]), .inl (4, 10, .inr (.inr (.inr (.inr fun i => if i < 10 then some (xh (3 + i)) else none))))]
/-- the reference has no cells here: its group is what the class is held against -/
def xcM (_ : xG) (_ : Nat → Nat → Int64) : List xm_PC := []
def xcF (m p0 p1 md : xG) (st : Nat → List xm_PC) (l : Nat → Nat → Int64) : List xm_PC := xcA m ++ (xcP 1 p0 ++ (st 0 ++ (xcB m ++ (st 1 ++ (xcP 38 p1 ++ (xcC m ++ (st 2 ++ (xcD m ++ (st 3 ++ (st 4 ++ (st 5 ++ (st 6 ++ (st 7 ++ (st 8 ++ (st 9 ++ (st 10 ++ (st 11 ++ (st 12 ++ xcM md l))))))))))))))))))
def xcells (w : xW) (l : Nat → Nat → Int64) : List xm_PC := xcF (w 0) (w 1) (w 2) (w 3) (fun k => xcS (xh k) (w (k + 5))) l
/-- the heap of a world; t: how often something was thrown -/
def xem (w : xW) (l : Nat → Nat → Int64) (t : Nat) : xm_PS := (false, t, xcells w l)
section XW
variable {w : xW} {l : Nat → Nat → Int64} {t : Nat}
theorem xem_len : (false, (xem w l t).2) = xem w l t := rfl
theorem xF_get {m p0 p1 md : xG} {st : Nat → List xm_PC} (hst : ∀ k, (st k).length = 13) (k j : Nat) (hk : k < 13) (hj : j < 13) : (xcF m p0 p1 md st l)[xh k + j]? = (st k)[j]? := by
  have hA : ∀ m, (xcA m).length = 1 := fun _ => rfl
  have hP : ∀ h p, (xcP h p).length = 6 := fun _ _ => rfl
  have hB : ∀ m, (xcB m).length = 5 := fun _ => rfl
  have hC : ∀ m, (xcC m).length = 2 := fun _ => rfl
  have hD : ∀ m, (xcD m).length = 2 := fun _ => rfl
  have R : ∀ (a b : List xm_PC) (n c i : Nat), a.length = n → c = n + i → (a ++ b)[c]? = b[i]? := fun a b n c i h e => by
    rw [List.getElem?_append_right (by omega), show c - a.length = i by omega]
  have L : ∀ (a b : List xm_PC), a.length = 13 → (a ++ b)[j]? = a[j]? := fun a b h => List.getElem?_append_left (by omega)
  unfold xcF
  match k, hk with
  | 0, _ =>
    show _[7 + j]? = _
    rw [R _ _ 1 _ (6 + j) (hA m) (by omega)]
    rw [R _ _ 6 _ j (hP 1 p0) (by omega)]
    exact L _ _ (hst 0)
  | 1, _ =>
    show _[25 + j]? = _
    rw [R _ _ 1 _ (24 + j) (hA m) (by omega)]
    rw [R _ _ 6 _ (18 + j) (hP 1 p0) (by omega)]
    rw [R _ _ 13 _ (5 + j) (hst 0) (by omega)]
    rw [R _ _ 5 _ j (hB m) (by omega)]
    exact L _ _ (hst 1)
  | 2, _ =>
    show _[46 + j]? = _
    rw [R _ _ 1 _ (45 + j) (hA m) (by omega)]
    rw [R _ _ 6 _ (39 + j) (hP 1 p0) (by omega)]
    rw [R _ _ 13 _ (26 + j) (hst 0) (by omega)]
    rw [R _ _ 5 _ (21 + j) (hB m) (by omega)]
    rw [R _ _ 13 _ (8 + j) (hst 1) (by omega)]
    rw [R _ _ 6 _ (2 + j) (hP 38 p1) (by omega)]
    rw [R _ _ 2 _ j (hC m) (by omega)]
    exact L _ _ (hst 2)
  | 3, _ =>
    show _[61 + j]? = _
    rw [R _ _ 1 _ (60 + j) (hA m) (by omega)]
    rw [R _ _ 6 _ (54 + j) (hP 1 p0) (by omega)]
    rw [R _ _ 13 _ (41 + j) (hst 0) (by omega)]
    rw [R _ _ 5 _ (36 + j) (hB m) (by omega)]
    rw [R _ _ 13 _ (23 + j) (hst 1) (by omega)]
    rw [R _ _ 6 _ (17 + j) (hP 38 p1) (by omega)]
    rw [R _ _ 2 _ (15 + j) (hC m) (by omega)]
    rw [R _ _ 13 _ (2 + j) (hst 2) (by omega)]
    rw [R _ _ 2 _ j (hD m) (by omega)]
    exact L _ _ (hst 3)
  | 4, _ =>
    show _[74 + j]? = _
    rw [R _ _ 1 _ (73 + j) (hA m) (by omega)]
    rw [R _ _ 6 _ (67 + j) (hP 1 p0) (by omega)]
    rw [R _ _ 13 _ (54 + j) (hst 0) (by omega)]
    rw [R _ _ 5 _ (49 + j) (hB m) (by omega)]
    rw [R _ _ 13 _ (36 + j) (hst 1) (by omega)]
    rw [R _ _ 6 _ (30 + j) (hP 38 p1) (by omega)]
    rw [R _ _ 2 _ (28 + j) (hC m) (by omega)]
    rw [R _ _ 13 _ (15 + j) (hst 2) (by omega)]
    rw [R _ _ 2 _ (13 + j) (hD m) (by omega)]
    rw [R _ _ 13 _ j (hst 3) (by omega)]
    exact L _ _ (hst 4)
  | 5, _ =>
    show _[87 + j]? = _
    rw [R _ _ 1 _ (86 + j) (hA m) (by omega)]
    rw [R _ _ 6 _ (80 + j) (hP 1 p0) (by omega)]
    rw [R _ _ 13 _ (67 + j) (hst 0) (by omega)]
    rw [R _ _ 5 _ (62 + j) (hB m) (by omega)]
    rw [R _ _ 13 _ (49 + j) (hst 1) (by omega)]
    rw [R _ _ 6 _ (43 + j) (hP 38 p1) (by omega)]
    rw [R _ _ 2 _ (41 + j) (hC m) (by omega)]
    rw [R _ _ 13 _ (28 + j) (hst 2) (by omega)]
    rw [R _ _ 2 _ (26 + j) (hD m) (by omega)]
    rw [R _ _ 13 _ (13 + j) (hst 3) (by omega)]
    rw [R _ _ 13 _ j (hst 4) (by omega)]
    exact L _ _ (hst 5)
  | 6, _ =>
    show _[100 + j]? = _
    rw [R _ _ 1 _ (99 + j) (hA m) (by omega)]
    rw [R _ _ 6 _ (93 + j) (hP 1 p0) (by omega)]
    rw [R _ _ 13 _ (80 + j) (hst 0) (by omega)]
    rw [R _ _ 5 _ (75 + j) (hB m) (by omega)]
    rw [R _ _ 13 _ (62 + j) (hst 1) (by omega)]
    rw [R _ _ 6 _ (56 + j) (hP 38 p1) (by omega)]
    rw [R _ _ 2 _ (54 + j) (hC m) (by omega)]
    rw [R _ _ 13 _ (41 + j) (hst 2) (by omega)]
    rw [R _ _ 2 _ (39 + j) (hD m) (by omega)]
    rw [R _ _ 13 _ (26 + j) (hst 3) (by omega)]
    rw [R _ _ 13 _ (13 + j) (hst 4) (by omega)]
    rw [R _ _ 13 _ j (hst 5) (by omega)]
    exact L _ _ (hst 6)
  | 7, _ =>
    show _[113 + j]? = _
    rw [R _ _ 1 _ (112 + j) (hA m) (by omega)]
    rw [R _ _ 6 _ (106 + j) (hP 1 p0) (by omega)]
    rw [R _ _ 13 _ (93 + j) (hst 0) (by omega)]
    rw [R _ _ 5 _ (88 + j) (hB m) (by omega)]
    rw [R _ _ 13 _ (75 + j) (hst 1) (by omega)]
    rw [R _ _ 6 _ (69 + j) (hP 38 p1) (by omega)]
    rw [R _ _ 2 _ (67 + j) (hC m) (by omega)]
    rw [R _ _ 13 _ (54 + j) (hst 2) (by omega)]
    rw [R _ _ 2 _ (52 + j) (hD m) (by omega)]
    rw [R _ _ 13 _ (39 + j) (hst 3) (by omega)]
    rw [R _ _ 13 _ (26 + j) (hst 4) (by omega)]
    rw [R _ _ 13 _ (13 + j) (hst 5) (by omega)]
    rw [R _ _ 13 _ j (hst 6) (by omega)]
    exact L _ _ (hst 7)
  | 8, _ =>
    show _[126 + j]? = _
    rw [R _ _ 1 _ (125 + j) (hA m) (by omega)]
    rw [R _ _ 6 _ (119 + j) (hP 1 p0) (by omega)]
    rw [R _ _ 13 _ (106 + j) (hst 0) (by omega)]
    rw [R _ _ 5 _ (101 + j) (hB m) (by omega)]
    rw [R _ _ 13 _ (88 + j) (hst 1) (by omega)]
    rw [R _ _ 6 _ (82 + j) (hP 38 p1) (by omega)]
    rw [R _ _ 2 _ (80 + j) (hC m) (by omega)]
    rw [R _ _ 13 _ (67 + j) (hst 2) (by omega)]
    rw [R _ _ 2 _ (65 + j) (hD m) (by omega)]
    rw [R _ _ 13 _ (52 + j) (hst 3) (by omega)]
    rw [R _ _ 13 _ (39 + j) (hst 4) (by omega)]
    rw [R _ _ 13 _ (26 + j) (hst 5) (by omega)]
    rw [R _ _ 13 _ (13 + j) (hst 6) (by omega)]
    rw [R _ _ 13 _ j (hst 7) (by omega)]
    exact L _ _ (hst 8)
  | 9, _ =>
    show _[139 + j]? = _
    rw [R _ _ 1 _ (138 + j) (hA m) (by omega)]
    rw [R _ _ 6 _ (132 + j) (hP 1 p0) (by omega)]
    rw [R _ _ 13 _ (119 + j) (hst 0) (by omega)]
    rw [R _ _ 5 _ (114 + j) (hB m) (by omega)]
    rw [R _ _ 13 _ (101 + j) (hst 1) (by omega)]
    rw [R _ _ 6 _ (95 + j) (hP 38 p1) (by omega)]
    rw [R _ _ 2 _ (93 + j) (hC m) (by omega)]
    rw [R _ _ 13 _ (80 + j) (hst 2) (by omega)]
    rw [R _ _ 2 _ (78 + j) (hD m) (by omega)]
    rw [R _ _ 13 _ (65 + j) (hst 3) (by omega)]
    rw [R _ _ 13 _ (52 + j) (hst 4) (by omega)]
    rw [R _ _ 13 _ (39 + j) (hst 5) (by omega)]
    rw [R _ _ 13 _ (26 + j) (hst 6) (by omega)]
    rw [R _ _ 13 _ (13 + j) (hst 7) (by omega)]
    rw [R _ _ 13 _ j (hst 8) (by omega)]
    exact L _ _ (hst 9)
  | 10, _ =>
    show _[152 + j]? = _
    rw [R _ _ 1 _ (151 + j) (hA m) (by omega)]
    rw [R _ _ 6 _ (145 + j) (hP 1 p0) (by omega)]
    rw [R _ _ 13 _ (132 + j) (hst 0) (by omega)]
    rw [R _ _ 5 _ (127 + j) (hB m) (by omega)]
    rw [R _ _ 13 _ (114 + j) (hst 1) (by omega)]
    rw [R _ _ 6 _ (108 + j) (hP 38 p1) (by omega)]
    rw [R _ _ 2 _ (106 + j) (hC m) (by omega)]
    rw [R _ _ 13 _ (93 + j) (hst 2) (by omega)]
    rw [R _ _ 2 _ (91 + j) (hD m) (by omega)]
    rw [R _ _ 13 _ (78 + j) (hst 3) (by omega)]
    rw [R _ _ 13 _ (65 + j) (hst 4) (by omega)]
    rw [R _ _ 13 _ (52 + j) (hst 5) (by omega)]
    rw [R _ _ 13 _ (39 + j) (hst 6) (by omega)]
    rw [R _ _ 13 _ (26 + j) (hst 7) (by omega)]
    rw [R _ _ 13 _ (13 + j) (hst 8) (by omega)]
    rw [R _ _ 13 _ j (hst 9) (by omega)]
    exact L _ _ (hst 10)
  | 11, _ =>
    show _[165 + j]? = _
    rw [R _ _ 1 _ (164 + j) (hA m) (by omega)]
    rw [R _ _ 6 _ (158 + j) (hP 1 p0) (by omega)]
    rw [R _ _ 13 _ (145 + j) (hst 0) (by omega)]
    rw [R _ _ 5 _ (140 + j) (hB m) (by omega)]
    rw [R _ _ 13 _ (127 + j) (hst 1) (by omega)]
    rw [R _ _ 6 _ (121 + j) (hP 38 p1) (by omega)]
    rw [R _ _ 2 _ (119 + j) (hC m) (by omega)]
    rw [R _ _ 13 _ (106 + j) (hst 2) (by omega)]
    rw [R _ _ 2 _ (104 + j) (hD m) (by omega)]
    rw [R _ _ 13 _ (91 + j) (hst 3) (by omega)]
    rw [R _ _ 13 _ (78 + j) (hst 4) (by omega)]
    rw [R _ _ 13 _ (65 + j) (hst 5) (by omega)]
    rw [R _ _ 13 _ (52 + j) (hst 6) (by omega)]
    rw [R _ _ 13 _ (39 + j) (hst 7) (by omega)]
    rw [R _ _ 13 _ (26 + j) (hst 8) (by omega)]
    rw [R _ _ 13 _ (13 + j) (hst 9) (by omega)]
    rw [R _ _ 13 _ j (hst 10) (by omega)]
    exact L _ _ (hst 11)
  | 12, _ =>
    show _[178 + j]? = _
    rw [R _ _ 1 _ (177 + j) (hA m) (by omega)]
    rw [R _ _ 6 _ (171 + j) (hP 1 p0) (by omega)]
    rw [R _ _ 13 _ (158 + j) (hst 0) (by omega)]
    rw [R _ _ 5 _ (153 + j) (hB m) (by omega)]
    rw [R _ _ 13 _ (140 + j) (hst 1) (by omega)]
    rw [R _ _ 6 _ (134 + j) (hP 38 p1) (by omega)]
    rw [R _ _ 2 _ (132 + j) (hC m) (by omega)]
    rw [R _ _ 13 _ (119 + j) (hst 2) (by omega)]
    rw [R _ _ 2 _ (117 + j) (hD m) (by omega)]
    rw [R _ _ 13 _ (104 + j) (hst 3) (by omega)]
    rw [R _ _ 13 _ (91 + j) (hst 4) (by omega)]
    rw [R _ _ 13 _ (78 + j) (hst 5) (by omega)]
    rw [R _ _ 13 _ (65 + j) (hst 6) (by omega)]
    rw [R _ _ 13 _ (52 + j) (hst 7) (by omega)]
    rw [R _ _ 13 _ (39 + j) (hst 8) (by omega)]
    rw [R _ _ 13 _ (26 + j) (hst 9) (by omega)]
    rw [R _ _ 13 _ (13 + j) (hst 10) (by omega)]
    rw [R _ _ 13 _ j (hst 11) (by omega)]
    exact L _ _ (hst 12)
  | _ + 13, h => omega
theorem xF_set {m p0 p1 md : xG} {st : Nat → List xm_PC} (hst : ∀ k, (st k).length = 13) (k j : Nat) (hk : k < 13) (hj : j < 13) (c : xm_PC) : (xcF m p0 p1 md st l).set (xh k + j) c = xcF m p0 p1 md (fun k' => if k' = k then (st k).set j c else st k') l := by
  have hA : ∀ m, (xcA m).length = 1 := fun _ => rfl
  have hP : ∀ h p, (xcP h p).length = 6 := fun _ _ => rfl
  have hB : ∀ m, (xcB m).length = 5 := fun _ => rfl
  have hC : ∀ m, (xcC m).length = 2 := fun _ => rfl
  have hD : ∀ m, (xcD m).length = 2 := fun _ => rfl
  have R : ∀ (a b : List xm_PC) (n q i : Nat), a.length = n → q = n + i → (a ++ b).set q c = a ++ b.set i c := fun a b n q i h e => by
    rw [List.set_append_right _ _ (by omega), show q - a.length = i by omega]
  have L : ∀ (a b : List xm_PC), a.length = 13 → (a ++ b).set j c = a.set j c ++ b := fun a b h => List.set_append_left _ _ (by omega)
  unfold xcF
  match k, hk with
  | 0, _ =>
    show List.set _ (7 + j) c = _
    rw [R _ _ 1 _ (6 + j) (hA m) (by omega)]
    rw [R _ _ 6 _ j (hP 1 p0) (by omega)]
    rw [L _ _ (hst 0)]
    rfl
  | 1, _ =>
    show List.set _ (25 + j) c = _
    rw [R _ _ 1 _ (24 + j) (hA m) (by omega)]
    rw [R _ _ 6 _ (18 + j) (hP 1 p0) (by omega)]
    rw [R _ _ 13 _ (5 + j) (hst 0) (by omega)]
    rw [R _ _ 5 _ j (hB m) (by omega)]
    rw [L _ _ (hst 1)]
    rfl
  | 2, _ =>
    show List.set _ (46 + j) c = _
    rw [R _ _ 1 _ (45 + j) (hA m) (by omega)]
    rw [R _ _ 6 _ (39 + j) (hP 1 p0) (by omega)]
    rw [R _ _ 13 _ (26 + j) (hst 0) (by omega)]
    rw [R _ _ 5 _ (21 + j) (hB m) (by omega)]
    rw [R _ _ 13 _ (8 + j) (hst 1) (by omega)]
    rw [R _ _ 6 _ (2 + j) (hP 38 p1) (by omega)]
    rw [R _ _ 2 _ j (hC m) (by omega)]
    rw [L _ _ (hst 2)]
    rfl
  | 3, _ =>
    show List.set _ (61 + j) c = _
    rw [R _ _ 1 _ (60 + j) (hA m) (by omega)]
    rw [R _ _ 6 _ (54 + j) (hP 1 p0) (by omega)]
    rw [R _ _ 13 _ (41 + j) (hst 0) (by omega)]
    rw [R _ _ 5 _ (36 + j) (hB m) (by omega)]
    rw [R _ _ 13 _ (23 + j) (hst 1) (by omega)]
    rw [R _ _ 6 _ (17 + j) (hP 38 p1) (by omega)]
    rw [R _ _ 2 _ (15 + j) (hC m) (by omega)]
    rw [R _ _ 13 _ (2 + j) (hst 2) (by omega)]
    rw [R _ _ 2 _ j (hD m) (by omega)]
    rw [L _ _ (hst 3)]
    rfl
  | 4, _ =>
    show List.set _ (74 + j) c = _
    rw [R _ _ 1 _ (73 + j) (hA m) (by omega)]
    rw [R _ _ 6 _ (67 + j) (hP 1 p0) (by omega)]
    rw [R _ _ 13 _ (54 + j) (hst 0) (by omega)]
    rw [R _ _ 5 _ (49 + j) (hB m) (by omega)]
    rw [R _ _ 13 _ (36 + j) (hst 1) (by omega)]
    rw [R _ _ 6 _ (30 + j) (hP 38 p1) (by omega)]
    rw [R _ _ 2 _ (28 + j) (hC m) (by omega)]
    rw [R _ _ 13 _ (15 + j) (hst 2) (by omega)]
    rw [R _ _ 2 _ (13 + j) (hD m) (by omega)]
    rw [R _ _ 13 _ j (hst 3) (by omega)]
    rw [L _ _ (hst 4)]
    rfl
  | 5, _ =>
    show List.set _ (87 + j) c = _
    rw [R _ _ 1 _ (86 + j) (hA m) (by omega)]
    rw [R _ _ 6 _ (80 + j) (hP 1 p0) (by omega)]
    rw [R _ _ 13 _ (67 + j) (hst 0) (by omega)]
    rw [R _ _ 5 _ (62 + j) (hB m) (by omega)]
    rw [R _ _ 13 _ (49 + j) (hst 1) (by omega)]
    rw [R _ _ 6 _ (43 + j) (hP 38 p1) (by omega)]
    rw [R _ _ 2 _ (41 + j) (hC m) (by omega)]
    rw [R _ _ 13 _ (28 + j) (hst 2) (by omega)]
    rw [R _ _ 2 _ (26 + j) (hD m) (by omega)]
    rw [R _ _ 13 _ (13 + j) (hst 3) (by omega)]
    rw [R _ _ 13 _ j (hst 4) (by omega)]
    rw [L _ _ (hst 5)]
    rfl
  | 6, _ =>
    show List.set _ (100 + j) c = _
    rw [R _ _ 1 _ (99 + j) (hA m) (by omega)]
    rw [R _ _ 6 _ (93 + j) (hP 1 p0) (by omega)]
    rw [R _ _ 13 _ (80 + j) (hst 0) (by omega)]
    rw [R _ _ 5 _ (75 + j) (hB m) (by omega)]
    rw [R _ _ 13 _ (62 + j) (hst 1) (by omega)]
    rw [R _ _ 6 _ (56 + j) (hP 38 p1) (by omega)]
    rw [R _ _ 2 _ (54 + j) (hC m) (by omega)]
    rw [R _ _ 13 _ (41 + j) (hst 2) (by omega)]
    rw [R _ _ 2 _ (39 + j) (hD m) (by omega)]
    rw [R _ _ 13 _ (26 + j) (hst 3) (by omega)]
    rw [R _ _ 13 _ (13 + j) (hst 4) (by omega)]
    rw [R _ _ 13 _ j (hst 5) (by omega)]
    rw [L _ _ (hst 6)]
    rfl
  | 7, _ =>
    show List.set _ (113 + j) c = _
    rw [R _ _ 1 _ (112 + j) (hA m) (by omega)]
    rw [R _ _ 6 _ (106 + j) (hP 1 p0) (by omega)]
    rw [R _ _ 13 _ (93 + j) (hst 0) (by omega)]
    rw [R _ _ 5 _ (88 + j) (hB m) (by omega)]
    rw [R _ _ 13 _ (75 + j) (hst 1) (by omega)]
    rw [R _ _ 6 _ (69 + j) (hP 38 p1) (by omega)]
    rw [R _ _ 2 _ (67 + j) (hC m) (by omega)]
    rw [R _ _ 13 _ (54 + j) (hst 2) (by omega)]
    rw [R _ _ 2 _ (52 + j) (hD m) (by omega)]
    rw [R _ _ 13 _ (39 + j) (hst 3) (by omega)]
    rw [R _ _ 13 _ (26 + j) (hst 4) (by omega)]
    rw [R _ _ 13 _ (13 + j) (hst 5) (by omega)]
    rw [R _ _ 13 _ j (hst 6) (by omega)]
    rw [L _ _ (hst 7)]
    rfl
  | 8, _ =>
    show List.set _ (126 + j) c = _
    rw [R _ _ 1 _ (125 + j) (hA m) (by omega)]
    rw [R _ _ 6 _ (119 + j) (hP 1 p0) (by omega)]
    rw [R _ _ 13 _ (106 + j) (hst 0) (by omega)]
    rw [R _ _ 5 _ (101 + j) (hB m) (by omega)]
    rw [R _ _ 13 _ (88 + j) (hst 1) (by omega)]
    rw [R _ _ 6 _ (82 + j) (hP 38 p1) (by omega)]
    rw [R _ _ 2 _ (80 + j) (hC m) (by omega)]
    rw [R _ _ 13 _ (67 + j) (hst 2) (by omega)]
    rw [R _ _ 2 _ (65 + j) (hD m) (by omega)]
    rw [R _ _ 13 _ (52 + j) (hst 3) (by omega)]
    rw [R _ _ 13 _ (39 + j) (hst 4) (by omega)]
    rw [R _ _ 13 _ (26 + j) (hst 5) (by omega)]
    rw [R _ _ 13 _ (13 + j) (hst 6) (by omega)]
    rw [R _ _ 13 _ j (hst 7) (by omega)]
    rw [L _ _ (hst 8)]
    rfl
  | 9, _ =>
    show List.set _ (139 + j) c = _
    rw [R _ _ 1 _ (138 + j) (hA m) (by omega)]
    rw [R _ _ 6 _ (132 + j) (hP 1 p0) (by omega)]
    rw [R _ _ 13 _ (119 + j) (hst 0) (by omega)]
    rw [R _ _ 5 _ (114 + j) (hB m) (by omega)]
    rw [R _ _ 13 _ (101 + j) (hst 1) (by omega)]
    rw [R _ _ 6 _ (95 + j) (hP 38 p1) (by omega)]
    rw [R _ _ 2 _ (93 + j) (hC m) (by omega)]
    rw [R _ _ 13 _ (80 + j) (hst 2) (by omega)]
    rw [R _ _ 2 _ (78 + j) (hD m) (by omega)]
    rw [R _ _ 13 _ (65 + j) (hst 3) (by omega)]
    rw [R _ _ 13 _ (52 + j) (hst 4) (by omega)]
    rw [R _ _ 13 _ (39 + j) (hst 5) (by omega)]
    rw [R _ _ 13 _ (26 + j) (hst 6) (by omega)]
    rw [R _ _ 13 _ (13 + j) (hst 7) (by omega)]
    rw [R _ _ 13 _ j (hst 8) (by omega)]
    rw [L _ _ (hst 9)]
    rfl
  | 10, _ =>
    show List.set _ (152 + j) c = _
    rw [R _ _ 1 _ (151 + j) (hA m) (by omega)]
    rw [R _ _ 6 _ (145 + j) (hP 1 p0) (by omega)]
    rw [R _ _ 13 _ (132 + j) (hst 0) (by omega)]
    rw [R _ _ 5 _ (127 + j) (hB m) (by omega)]
    rw [R _ _ 13 _ (114 + j) (hst 1) (by omega)]
    rw [R _ _ 6 _ (108 + j) (hP 38 p1) (by omega)]
    rw [R _ _ 2 _ (106 + j) (hC m) (by omega)]
    rw [R _ _ 13 _ (93 + j) (hst 2) (by omega)]
    rw [R _ _ 2 _ (91 + j) (hD m) (by omega)]
    rw [R _ _ 13 _ (78 + j) (hst 3) (by omega)]
    rw [R _ _ 13 _ (65 + j) (hst 4) (by omega)]
    rw [R _ _ 13 _ (52 + j) (hst 5) (by omega)]
    rw [R _ _ 13 _ (39 + j) (hst 6) (by omega)]
    rw [R _ _ 13 _ (26 + j) (hst 7) (by omega)]
    rw [R _ _ 13 _ (13 + j) (hst 8) (by omega)]
    rw [R _ _ 13 _ j (hst 9) (by omega)]
    rw [L _ _ (hst 10)]
    rfl
  | 11, _ =>
    show List.set _ (165 + j) c = _
    rw [R _ _ 1 _ (164 + j) (hA m) (by omega)]
    rw [R _ _ 6 _ (158 + j) (hP 1 p0) (by omega)]
    rw [R _ _ 13 _ (145 + j) (hst 0) (by omega)]
    rw [R _ _ 5 _ (140 + j) (hB m) (by omega)]
    rw [R _ _ 13 _ (127 + j) (hst 1) (by omega)]
    rw [R _ _ 6 _ (121 + j) (hP 38 p1) (by omega)]
    rw [R _ _ 2 _ (119 + j) (hC m) (by omega)]
    rw [R _ _ 13 _ (106 + j) (hst 2) (by omega)]
    rw [R _ _ 2 _ (104 + j) (hD m) (by omega)]
    rw [R _ _ 13 _ (91 + j) (hst 3) (by omega)]
    rw [R _ _ 13 _ (78 + j) (hst 4) (by omega)]
    rw [R _ _ 13 _ (65 + j) (hst 5) (by omega)]
    rw [R _ _ 13 _ (52 + j) (hst 6) (by omega)]
    rw [R _ _ 13 _ (39 + j) (hst 7) (by omega)]
    rw [R _ _ 13 _ (26 + j) (hst 8) (by omega)]
    rw [R _ _ 13 _ (13 + j) (hst 9) (by omega)]
    rw [R _ _ 13 _ j (hst 10) (by omega)]
    rw [L _ _ (hst 11)]
    rfl
  | 12, _ =>
    show List.set _ (178 + j) c = _
    rw [R _ _ 1 _ (177 + j) (hA m) (by omega)]
    rw [R _ _ 6 _ (171 + j) (hP 1 p0) (by omega)]
    rw [R _ _ 13 _ (158 + j) (hst 0) (by omega)]
    rw [R _ _ 5 _ (153 + j) (hB m) (by omega)]
    rw [R _ _ 13 _ (140 + j) (hst 1) (by omega)]
    rw [R _ _ 6 _ (134 + j) (hP 38 p1) (by omega)]
    rw [R _ _ 2 _ (132 + j) (hC m) (by omega)]
    rw [R _ _ 13 _ (119 + j) (hst 2) (by omega)]
    rw [R _ _ 2 _ (117 + j) (hD m) (by omega)]
    rw [R _ _ 13 _ (104 + j) (hst 3) (by omega)]
    rw [R _ _ 13 _ (91 + j) (hst 4) (by omega)]
    rw [R _ _ 13 _ (78 + j) (hst 5) (by omega)]
    rw [R _ _ 13 _ (65 + j) (hst 6) (by omega)]
    rw [R _ _ 13 _ (52 + j) (hst 7) (by omega)]
    rw [R _ _ 13 _ (39 + j) (hst 8) (by omega)]
    rw [R _ _ 13 _ (26 + j) (hst 9) (by omega)]
    rw [R _ _ 13 _ (13 + j) (hst 10) (by omega)]
    rw [R _ _ 13 _ j (hst 11) (by omega)]
    rw [L _ _ (hst 12)]
    rfl
  | _ + 13, h => omega
theorem xcS_len {h : Nat} {s : xG} : (xcS h s).length = 13 := rfl
theorem xat_S (k j : Nat) (hk : k < 13) (hj : j < 13) : (xcells w l)[xh k + j]? = (xcS (xh k) (w (k + 5)))[j]? := xF_get (fun _ => xcS_len) k j hk hj
theorem xset_S {k j : Nat} {c : xm_PC} {s' : xG} (hk : k < 13) (hj : j < 13) (hs : (xcS (xh k) (w (k + 5))).set j c = xcS (xh k) s') : (xcells w l).set (xh k + j) c = xcells (xu w (k + 5) s') l := by
  unfold xcells
  rw [xF_set (fun _ => xcS_len) k j hk hj, hs]
  have e : ∀ g, g < 5 → xu w (k + 5) s' g = w g := fun g hg => xu_ne (by omega)
  rw [e 0 (by omega), e 1 (by omega), e 2 (by omega), e 3 (by omega)]
  congr 1
  funext k'
  by_cases h : k' = k
  · subst h
    rw [if_pos rfl, xu_same]
  · rw [if_neg h, xu_ne (by omega)]
theorem xat_P (i j : Nat) (hi : i < 2) (hj : j < 6) : (xcells w l)[xp i + j]? = (xcP (xp i) (w (i + 1)))[j]? := by
  match i, hi with
  | 0, _ => match j, hj with
    | 0, _ => rfl
    | 1, _ => rfl
    | 2, _ => rfl
    | 3, _ => rfl
    | 4, _ => rfl
    | 5, _ => rfl
    | _ + 6, h => omega
  | 1, _ => match j, hj with
    | 0, _ => rfl
    | 1, _ => rfl
    | 2, _ => rfl
    | 3, _ => rfl
    | 4, _ => rfl
    | 5, _ => rfl
    | _ + 6, h => omega
  | _ + 2, h => omega
theorem xset_P {i j : Nat} {c : xm_PC} {s' : xG} (hi : i < 2) (hj : j < 6) (hs : (xcP (xp i) (w (i + 1))).set j c = xcP (xp i) s') : (xcells w l).set (xp i + j) c = xcells (xu w (i + 1) s') l := by
  have e : ∀ g, g ≠ i + 1 → xu w (i + 1) s' g = w g := fun g hg => xu_ne hg
  have e5 : (fun k => xcS (xh k) (xu w (i + 1) s' (k + 5))) = fun k => xcS (xh k) (w (k + 5)) := by
    funext k
    rw [e (k + 5) (by omega)]
  unfold xcells
  rw [e5, e 0 (by omega), e 3 (by omega)]
  match i, hi with
  | 0, _ =>
    have hs1 : xcP 1 s' = (xcP 1 (w 1)).set j c := hs.symm
    rw [e 2 (by omega), xu_same]
    unfold xcF
    rw [hs1]
    match j, hj with
    | 0, _ => rfl
    | 1, _ => rfl
    | 2, _ => rfl
    | 3, _ => rfl
    | 4, _ => rfl
    | 5, _ => rfl
    | _ + 6, h => omega
  | 1, _ =>
    have hs1 : xcP 38 s' = (xcP 38 (w 2)).set j c := hs.symm
    rw [e 1 (by omega), xu_same]
    unfold xcF
    rw [hs1]
    match j, hj with
    | 0, _ => rfl
    | 1, _ => rfl
    | 2, _ => rfl
    | 3, _ => rfl
    | 4, _ => rfl
    | 5, _ => rfl
    | _ + 6, h => omega
  | _ + 2, h => omega
theorem xu_F0 {s : xG} : xcells (xu w 0 s) l = xcF s (w 1) (w 2) (w 3) (fun k => xcS (xh k) (w (k + 5))) l := by
  have e5 : (fun k => xcS (xh k) (xu w 0 s (k + 5))) = fun k => xcS (xh k) (w (k + 5)) := by
    funext k
    rw [xu_ne (by omega)]
  unfold xcells
  rw [e5, xu_same, xu_ne (by omega), xu_ne (by omega), xu_ne (by omega)]
theorem xu_F3 {s : xG} : xcells (xu w 3 s) l = xcF (w 0) (w 1) (w 2) s (fun k => xcS (xh k) (w (k + 5))) l := by
  have e5 : (fun k => xcS (xh k) (xu w 3 s (k + 5))) = fun k => xcS (xh k) (w (k + 5)) := by
    funext k
    rw [xu_ne (by omega)]
  unfold xcells
  rw [e5, xu_same, xu_ne (by omega), xu_ne (by omega), xu_ne (by omega)]
theorem xgF {h ci n : Nat} {fs : List Value} {v : Value} (h1 : (xcells w l)[h]? = some (.inr (ci, fs))) (h2 : fs[n]? = some v) : xm_gF (xem w l t) h ci n = some v := by
  unfold xm_gF
  rw [show (xem w l t).2.2 = xcells w l from rfl, h1]
  exact (if_pos rfl).trans h2
theorem xgI {h ci n : Nat} {fs : List Value} {x : Int32} (h1 : (xcells w l)[h]? = some (.inr (ci, fs))) (h2 : fs[n]? = some (.int x)) : xm_gI (xem w l t) h ci n = some x := by
  unfold xm_gI
  rw [xgF h1 h2]
theorem xgR {h ci n x : Nat} {fs : List Value} (h1 : (xcells w l)[h]? = some (.inr (ci, fs))) (h2 : fs[n]? = some (.ref x)) : xm_gR (xem w l t) h ci n = some x := by
  unfold xm_gR
  rw [xgF h1 h2]
theorem xsF {h ci n : Nat} {fs : List Value} {v : Value} {w' : xW} (h1 : (xcells w l)[h]? = some (.inr (ci, fs))) (h2 : n < fs.length) (h3 : (xcells w l).set h (.inr (ci, fs.set n v)) = xcells w' l) : xm_sF (xem w l t) h ci n v = some (xem w' l t) := by
  unfold xm_sF
  rw [show (xem w l t).2.2 = xcells w l from rfl, h1]
  refine (if_pos ⟨rfl, h2⟩).trans ?_
  show some (false, t, (xcells w l).set h (.inr (ci, fs.set n v))) = _
  rw [h3]
  rfl
theorem xaI {h ty n : Nat} {f : Nat → Int32} {i : Int32} (h1 : (xcells w l)[h]? = some (.inl (ty, n, .inl f))) : xm_aI (xem w l t) h ty i = if xm_in i n = true then some (f i.toNatClampNeg) else none := by
  unfold xm_aI xm_gA
  rw [show (xem w l t).2.2 = xcells w l from rfl, h1]
  dsimp only
  rw [if_pos rfl]
theorem xwI {h ty n : Nat} {f : Nat → Int32} {i x : Int32} {w' : xW} (h1 : (xcells w l)[h]? = some (.inl (ty, n, .inl f))) (h3 : (xcells w l).set h (.inl (ty, n, .inl (upd f i.toNatClampNeg x))) = xcells w' l) : xm_wI (xem w l t) h ty i x = if xm_in i n = true then some (xem w' l t) else none := by
  unfold xm_wI xm_gA
  rw [show (xem w l t).2.2 = xcells w l from rfl, h1]
  dsimp only
  rw [if_pos rfl]
  show (if xm_in i n = true then some (false, t, (xcells w l).set h (.inl (ty, n, .inl (upd f i.toNatClampNeg x)))) else none) = _
  rw [h3]
  rfl
theorem xiO {h ci : Nat} {fs : List Value} (h1 : (xcells w l)[h]? = some (.inr (ci, fs))) : xm_isO (xem w l t) (.ref h) ci = true := by
  unfold xm_isO
  dsimp only
  rw [show (xem w l t).2.2 = xcells w l from rfl, h1]
  show (Nat.beq ci ci || _) = true
  rw [Nat.beq_refl]
  rfl
theorem xcy {h0 h1 n0 n1 : Nat} {f g : Nat → Int32} {n : Int32} {w' : xW} (e0 : (xcells w l)[h0]? = some (.inl (0, n0, .inl f))) (e1 : (xcells w l)[h1]? = some (.inl (0, n1, .inl g))) (hn : ¬ n < 0) (a0 : n.toNatClampNeg ≤ n0) (a1 : n.toNatClampNeg ≤ n1)
    (h3 : (xcells w l).set h1 (.inl (0, n1, .inl (fun k => if k < n.toNatClampNeg then f k else g k))) = xcells w' l) : xm_copy (xem w l t) 0 h0 0 h1 0 n = some (xem w' l t) := by
  unfold xm_copy xm_gA
  rw [show (xem w l t).2.2 = xcells w l from rfl, e0, e1]
  dsimp only
  rw [if_pos rfl, if_pos rfl]
  have z : (0 : Int32).toNatClampNeg = 0 := by decide +kernel
  have hc : va_cpy f g (0 : Int32).toNatClampNeg (0 : Int32).toNatClampNeg n.toNatClampNeg = fun k => if k < n.toNatClampNeg then f k else g k := by
    funext k
    unfold va_cpy
    rw [z]
    simp
  dsimp only
  rw [if_pos ⟨by decide, by decide +kernel, by decide +kernel, hn, by rw [z]; omega, by rw [z]; omega, rfl⟩, hc]
  show some (false, t, (xcells w l).set h1 _) = _
  rw [h3]
  rfl
section XS
variable {k : Nat}
set_option maxRecDepth 10000 in
theorem xgS_1 (hk : k < 13) : xm_gI (xem w l t) (xh k) 4 1 = some ((w (k + 5)).1 1) := xgI (xat_S k 0 hk (by decide)) rfl
set_option maxRecDepth 10000 in
theorem xsS_1 {x : Int32} (hk : k < 13) : xm_sF (xem w l t) (xh k) 4 1 (.int x) = some (xem (xu w (k + 5) (xs1 (w (k + 5)) 1 x)) l t) := xsF (xat_S k 0 hk (by decide)) (Nat.le_of_ble_eq_true rfl) (xset_S hk (j := 0) (by decide) rfl)
set_option maxRecDepth 10000 in
theorem xgS_2 (hk : k < 13) : xm_gI (xem w l t) (xh k) 4 2 = some ((w (k + 5)).1 2) := xgI (xat_S k 0 hk (by decide)) rfl
set_option maxRecDepth 10000 in
theorem xsS_2 {x : Int32} (hk : k < 13) : xm_sF (xem w l t) (xh k) 4 2 (.int x) = some (xem (xu w (k + 5) (xs1 (w (k + 5)) 2 x)) l t) := xsF (xat_S k 0 hk (by decide)) (Nat.le_of_ble_eq_true rfl) (xset_S hk (j := 0) (by decide) rfl)
set_option maxRecDepth 10000 in
theorem xgS_3 (hk : k < 13) : xm_gI (xem w l t) (xh k) 4 3 = some ((w (k + 5)).1 3) := xgI (xat_S k 0 hk (by decide)) rfl
set_option maxRecDepth 10000 in
theorem xsS_3 {x : Int32} (hk : k < 13) : xm_sF (xem w l t) (xh k) 4 3 (.int x) = some (xem (xu w (k + 5) (xs1 (w (k + 5)) 3 x)) l t) := xsF (xat_S k 0 hk (by decide)) (Nat.le_of_ble_eq_true rfl) (xset_S hk (j := 0) (by decide) rfl)
set_option maxRecDepth 10000 in
theorem xgS_4 (hk : k < 13) : xm_gI (xem w l t) (xh k) 4 4 = some ((w (k + 5)).1 4) := xgI (xat_S k 0 hk (by decide)) rfl
set_option maxRecDepth 10000 in
theorem xsS_4 {x : Int32} (hk : k < 13) : xm_sF (xem w l t) (xh k) 4 4 (.int x) = some (xem (xu w (k + 5) (xs1 (w (k + 5)) 4 x)) l t) := xsF (xat_S k 0 hk (by decide)) (Nat.le_of_ble_eq_true rfl) (xset_S hk (j := 0) (by decide) rfl)
set_option maxRecDepth 10000 in
theorem xgS_0 (hk : k < 13) : xm_gR (xem w l t) (xh k) 4 0 = some (xp (xpi (w (k + 5)))) := xgR (xat_S k 0 hk (by decide)) rfl
set_option maxRecDepth 10000 in
theorem xgS_5 (hk : k < 13) : xm_gR (xem w l t) (xh k) 4 5 = some (xh k + 1) := xgR (xat_S k 0 hk (by decide)) rfl
set_option maxRecDepth 10000 in
theorem xgS_6 (hk : k < 13) : xm_gR (xem w l t) (xh k) 4 6 = some (xh k + 2) := xgR (xat_S k 0 hk (by decide)) rfl
set_option maxRecDepth 10000 in
theorem xgS_7 (hk : k < 13) : xm_gR (xem w l t) (xh k) 4 7 = some (xh k + 3) := xgR (xat_S k 0 hk (by decide)) rfl
set_option maxRecDepth 10000 in
theorem xgS_8 (hk : k < 13) : xm_gR (xem w l t) (xh k) 4 8 = some (xh k + 4) := xgR (xat_S k 0 hk (by decide)) rfl
set_option maxRecDepth 10000 in
theorem xgS_9 (hk : k < 13) : xm_gR (xem w l t) (xh k) 4 9 = some (xh k + 5) := xgR (xat_S k 0 hk (by decide)) rfl
set_option maxRecDepth 10000 in
theorem xgS_10 (hk : k < 13) : xm_gR (xem w l t) (xh k) 4 10 = some (xh k + 6) := xgR (xat_S k 0 hk (by decide)) rfl
set_option maxRecDepth 10000 in
theorem xgS_11 (hk : k < 13) : xm_gR (xem w l t) (xh k) 4 11 = some (xh k + 11) := xgR (xat_S k 0 hk (by decide)) rfl
set_option maxRecDepth 10000 in
theorem xiS (hk : k < 13) : xm_isO (xem w l t) (.ref (xh k)) 4 = true := xiO (xat_S k 0 hk (by decide))
set_option maxRecDepth 10000 in
theorem xsS_0 {j : Nat} (hk : k < 13) (hj : j < 2) : xm_sF (xem w l t) (xh k) 4 0 (.ref (xp j)) = some (xem (xu w (k + 5) (xs1 (w (k + 5)) 0 (nI j))) l t) := by
  refine xsF (xat_S k 0 hk (by decide)) (Nat.le_of_ble_eq_true rfl) (xset_S hk (j := 0) (by decide) ?_)
  match j, hj with
  | 0, _ => rfl
  | 1, _ => rfl
  | _ + 2, h => omega
set_option maxRecDepth 10000 in
theorem xgQ_0 (hk : k < 13) : xm_gI (xem w l t) (xh k + 6) 3 0 = some ((w (k + 5)).1 5) := xgI (xat_S k 6 hk (by decide)) rfl
set_option maxRecDepth 10000 in
theorem xsQ_0 {x : Int32} (hk : k < 13) : xm_sF (xem w l t) (xh k + 6) 3 0 (.int x) = some (xem (xu w (k + 5) (xs1 (w (k + 5)) 5 x)) l t) := xsF (xat_S k 6 hk (by decide)) (Nat.le_of_ble_eq_true rfl) (xset_S hk (j := 6) (by decide) rfl)
set_option maxRecDepth 10000 in
theorem xgQ_1 (hk : k < 13) : xm_gR (xem w l t) (xh k + 6) 3 1 = some (xh k + 7) := (xgR (xat_S k 6 hk (by decide)) rfl)
set_option maxRecDepth 10000 in
theorem xgQ_2 (hk : k < 13) : xm_gR (xem w l t) (xh k + 6) 3 2 = some (xh k + 8) := (xgR (xat_S k 6 hk (by decide)) rfl)
set_option maxRecDepth 10000 in
theorem xgQ_3 (hk : k < 13) : xm_gR (xem w l t) (xh k + 6) 3 3 = some (xh k + 9) := (xgR (xat_S k 6 hk (by decide)) rfl)
set_option maxRecDepth 10000 in
theorem xgQ_4 (hk : k < 13) : xm_gR (xem w l t) (xh k + 6) 3 4 = some (xh k + 10) := (xgR (xat_S k 6 hk (by decide)) rfl)
set_option maxRecDepth 10000 in
theorem xiQ (hk : k < 13) : xm_isO (xem w l t) (.ref (xh k + 6)) 3 = true := xiO (xat_S k 6 hk (by decide))
set_option maxRecDepth 10000 in
theorem xgY_0 (hk : k < 13) : xm_gR (xem w l t) (xh k + 11) 6 0 = some (xh k + 12) := xgR (xat_S k 11 hk (by decide)) rfl
set_option maxRecDepth 10000 in
theorem xiY (hk : k < 13) : xm_isO (xem w l t) (.ref (xh k + 11)) 6 = true := xiO (xat_S k 11 hk (by decide))
set_option maxRecDepth 10000 in
theorem xaS_0 {i : Int32} (hk : k < 13) : xm_aI (xem w l t) (xh k + 1) 0 i = if xm_in i 4 = true then some ((w (k + 5)).2 0 i.toNatClampNeg) else none := xaI (xat_S k 1 hk (by decide))
set_option maxRecDepth 10000 in
theorem xwS_0 {i x : Int32} (hk : k < 13) : xm_wI (xem w l t) (xh k + 1) 0 i x = if xm_in i 4 = true then some (xem (xu w (k + 5) (xs2 (w (k + 5)) 0 (upd ((w (k + 5)).2 0) i.toNatClampNeg x))) l t) else none := xwI (xat_S k 1 hk (by decide)) (xset_S hk (j := 1) (by decide) rfl)
set_option maxRecDepth 10000 in
theorem xcS_0 {j : Nat} (hk : k < 13) (hj : j < 13) : xm_copy (xem w l t) 0 (xh j + 1) 0 (xh k + 1) 0 4 = some (xem (xu w (k + 5) (xs2 (w (k + 5)) 0 (fun q => if q < 4 then (w (j + 5)).2 0 q else (w (k + 5)).2 0 q))) l t) := xcy (n := 4) (xat_S j 1 hj (by decide)) (xat_S k 1 hk (by decide)) (by decide +kernel) (by decide +kernel) (by decide +kernel) (xset_S hk (j := 1) (by decide) rfl)
set_option maxRecDepth 10000 in
theorem xaS_1 {i : Int32} (hk : k < 13) : xm_aI (xem w l t) (xh k + 2) 0 i = if xm_in i 20 = true then some ((w (k + 5)).2 1 i.toNatClampNeg) else none := xaI (xat_S k 2 hk (by decide))
set_option maxRecDepth 10000 in
theorem xwS_1 {i x : Int32} (hk : k < 13) : xm_wI (xem w l t) (xh k + 2) 0 i x = if xm_in i 20 = true then some (xem (xu w (k + 5) (xs2 (w (k + 5)) 1 (upd ((w (k + 5)).2 1) i.toNatClampNeg x))) l t) else none := xwI (xat_S k 2 hk (by decide)) (xset_S hk (j := 2) (by decide) rfl)
set_option maxRecDepth 10000 in
theorem xcS_1 {j : Nat} (hk : k < 13) (hj : j < 13) : xm_copy (xem w l t) 0 (xh j + 2) 0 (xh k + 2) 0 20 = some (xem (xu w (k + 5) (xs2 (w (k + 5)) 1 (fun q => if q < 20 then (w (j + 5)).2 1 q else (w (k + 5)).2 1 q))) l t) := xcy (n := 20) (xat_S j 2 hj (by decide)) (xat_S k 2 hk (by decide)) (by decide +kernel) (by decide +kernel) (by decide +kernel) (xset_S hk (j := 2) (by decide) rfl)
set_option maxRecDepth 10000 in
theorem xaS_2 {i : Int32} (hk : k < 13) : xm_aI (xem w l t) (xh k + 3) 0 i = if xm_in i 20 = true then some ((w (k + 5)).2 2 i.toNatClampNeg) else none := xaI (xat_S k 3 hk (by decide))
set_option maxRecDepth 10000 in
theorem xwS_2 {i x : Int32} (hk : k < 13) : xm_wI (xem w l t) (xh k + 3) 0 i x = if xm_in i 20 = true then some (xem (xu w (k + 5) (xs2 (w (k + 5)) 2 (upd ((w (k + 5)).2 2) i.toNatClampNeg x))) l t) else none := xwI (xat_S k 3 hk (by decide)) (xset_S hk (j := 3) (by decide) rfl)
set_option maxRecDepth 10000 in
theorem xcS_2 {j : Nat} (hk : k < 13) (hj : j < 13) : xm_copy (xem w l t) 0 (xh j + 3) 0 (xh k + 3) 0 20 = some (xem (xu w (k + 5) (xs2 (w (k + 5)) 2 (fun q => if q < 20 then (w (j + 5)).2 2 q else (w (k + 5)).2 2 q))) l t) := xcy (n := 20) (xat_S j 3 hj (by decide)) (xat_S k 3 hk (by decide)) (by decide +kernel) (by decide +kernel) (by decide +kernel) (xset_S hk (j := 3) (by decide) rfl)
set_option maxRecDepth 10000 in
theorem xaS_3 {i : Int32} (hk : k < 13) : xm_aI (xem w l t) (xh k + 4) 0 i = if xm_in i 20 = true then some ((w (k + 5)).2 3 i.toNatClampNeg) else none := xaI (xat_S k 4 hk (by decide))
set_option maxRecDepth 10000 in
theorem xwS_3 {i x : Int32} (hk : k < 13) : xm_wI (xem w l t) (xh k + 4) 0 i x = if xm_in i 20 = true then some (xem (xu w (k + 5) (xs2 (w (k + 5)) 3 (upd ((w (k + 5)).2 3) i.toNatClampNeg x))) l t) else none := xwI (xat_S k 4 hk (by decide)) (xset_S hk (j := 4) (by decide) rfl)
set_option maxRecDepth 10000 in
theorem xcS_3 {j : Nat} (hk : k < 13) (hj : j < 13) : xm_copy (xem w l t) 0 (xh j + 4) 0 (xh k + 4) 0 20 = some (xem (xu w (k + 5) (xs2 (w (k + 5)) 3 (fun q => if q < 20 then (w (j + 5)).2 3 q else (w (k + 5)).2 3 q))) l t) := xcy (n := 20) (xat_S j 4 hj (by decide)) (xat_S k 4 hk (by decide)) (by decide +kernel) (by decide +kernel) (by decide +kernel) (xset_S hk (j := 4) (by decide) rfl)
set_option maxRecDepth 10000 in
theorem xaS_4 {i : Int32} (hk : k < 13) : xm_aI (xem w l t) (xh k + 5) 0 i = if xm_in i 20 = true then some ((w (k + 5)).2 4 i.toNatClampNeg) else none := xaI (xat_S k 5 hk (by decide))
set_option maxRecDepth 10000 in
theorem xwS_4 {i x : Int32} (hk : k < 13) : xm_wI (xem w l t) (xh k + 5) 0 i x = if xm_in i 20 = true then some (xem (xu w (k + 5) (xs2 (w (k + 5)) 4 (upd ((w (k + 5)).2 4) i.toNatClampNeg x))) l t) else none := xwI (xat_S k 5 hk (by decide)) (xset_S hk (j := 5) (by decide) rfl)
set_option maxRecDepth 10000 in
theorem xcS_4 {j : Nat} (hk : k < 13) (hj : j < 13) : xm_copy (xem w l t) 0 (xh j + 5) 0 (xh k + 5) 0 20 = some (xem (xu w (k + 5) (xs2 (w (k + 5)) 4 (fun q => if q < 20 then (w (j + 5)).2 4 q else (w (k + 5)).2 4 q))) l t) := xcy (n := 20) (xat_S j 5 hj (by decide)) (xat_S k 5 hk (by decide)) (by decide +kernel) (by decide +kernel) (by decide +kernel) (xset_S hk (j := 5) (by decide) rfl)
set_option maxRecDepth 10000 in
theorem xaS_5 {i : Int32} (hk : k < 13) : xm_aI (xem w l t) (xh k + 7) 0 i = if xm_in i 40 = true then some ((w (k + 5)).2 5 i.toNatClampNeg) else none := xaI (xat_S k 7 hk (by decide))
set_option maxRecDepth 10000 in
theorem xwS_5 {i x : Int32} (hk : k < 13) : xm_wI (xem w l t) (xh k + 7) 0 i x = if xm_in i 40 = true then some (xem (xu w (k + 5) (xs2 (w (k + 5)) 5 (upd ((w (k + 5)).2 5) i.toNatClampNeg x))) l t) else none := xwI (xat_S k 7 hk (by decide)) (xset_S hk (j := 7) (by decide) rfl)
set_option maxRecDepth 10000 in
theorem xcS_5 {j : Nat} (hk : k < 13) (hj : j < 13) : xm_copy (xem w l t) 0 (xh j + 7) 0 (xh k + 7) 0 40 = some (xem (xu w (k + 5) (xs2 (w (k + 5)) 5 (fun q => if q < 40 then (w (j + 5)).2 5 q else (w (k + 5)).2 5 q))) l t) := xcy (n := 40) (xat_S j 7 hj (by decide)) (xat_S k 7 hk (by decide)) (by decide +kernel) (by decide +kernel) (by decide +kernel) (xset_S hk (j := 7) (by decide) rfl)
set_option maxRecDepth 10000 in
theorem xaS_6 {i : Int32} (hk : k < 13) : xm_aI (xem w l t) (xh k + 8) 0 i = if xm_in i 40 = true then some ((w (k + 5)).2 6 i.toNatClampNeg) else none := xaI (xat_S k 8 hk (by decide))
set_option maxRecDepth 10000 in
theorem xwS_6 {i x : Int32} (hk : k < 13) : xm_wI (xem w l t) (xh k + 8) 0 i x = if xm_in i 40 = true then some (xem (xu w (k + 5) (xs2 (w (k + 5)) 6 (upd ((w (k + 5)).2 6) i.toNatClampNeg x))) l t) else none := xwI (xat_S k 8 hk (by decide)) (xset_S hk (j := 8) (by decide) rfl)
set_option maxRecDepth 10000 in
theorem xcS_6 {j : Nat} (hk : k < 13) (hj : j < 13) : xm_copy (xem w l t) 0 (xh j + 8) 0 (xh k + 8) 0 40 = some (xem (xu w (k + 5) (xs2 (w (k + 5)) 6 (fun q => if q < 40 then (w (j + 5)).2 6 q else (w (k + 5)).2 6 q))) l t) := xcy (n := 40) (xat_S j 8 hj (by decide)) (xat_S k 8 hk (by decide)) (by decide +kernel) (by decide +kernel) (by decide +kernel) (xset_S hk (j := 8) (by decide) rfl)
set_option maxRecDepth 10000 in
theorem xaS_7 {i : Int32} (hk : k < 13) : xm_aI (xem w l t) (xh k + 9) 0 i = if xm_in i 40 = true then some ((w (k + 5)).2 7 i.toNatClampNeg) else none := xaI (xat_S k 9 hk (by decide))
set_option maxRecDepth 10000 in
theorem xwS_7 {i x : Int32} (hk : k < 13) : xm_wI (xem w l t) (xh k + 9) 0 i x = if xm_in i 40 = true then some (xem (xu w (k + 5) (xs2 (w (k + 5)) 7 (upd ((w (k + 5)).2 7) i.toNatClampNeg x))) l t) else none := xwI (xat_S k 9 hk (by decide)) (xset_S hk (j := 9) (by decide) rfl)
set_option maxRecDepth 10000 in
theorem xcS_7 {j : Nat} (hk : k < 13) (hj : j < 13) : xm_copy (xem w l t) 0 (xh j + 9) 0 (xh k + 9) 0 40 = some (xem (xu w (k + 5) (xs2 (w (k + 5)) 7 (fun q => if q < 40 then (w (j + 5)).2 7 q else (w (k + 5)).2 7 q))) l t) := xcy (n := 40) (xat_S j 9 hj (by decide)) (xat_S k 9 hk (by decide)) (by decide +kernel) (by decide +kernel) (by decide +kernel) (xset_S hk (j := 9) (by decide) rfl)
set_option maxRecDepth 10000 in
theorem xaS_8 {i : Int32} (hk : k < 13) : xm_aI (xem w l t) (xh k + 10) 0 i = if xm_in i 20 = true then some ((w (k + 5)).2 8 i.toNatClampNeg) else none := xaI (xat_S k 10 hk (by decide))
set_option maxRecDepth 10000 in
theorem xwS_8 {i x : Int32} (hk : k < 13) : xm_wI (xem w l t) (xh k + 10) 0 i x = if xm_in i 20 = true then some (xem (xu w (k + 5) (xs2 (w (k + 5)) 8 (upd ((w (k + 5)).2 8) i.toNatClampNeg x))) l t) else none := xwI (xat_S k 10 hk (by decide)) (xset_S hk (j := 10) (by decide) rfl)
set_option maxRecDepth 10000 in
theorem xcS_8 {j : Nat} (hk : k < 13) (hj : j < 13) : xm_copy (xem w l t) 0 (xh j + 10) 0 (xh k + 10) 0 20 = some (xem (xu w (k + 5) (xs2 (w (k + 5)) 8 (fun q => if q < 20 then (w (j + 5)).2 8 q else (w (k + 5)).2 8 q))) l t) := xcy (n := 20) (xat_S j 10 hj (by decide)) (xat_S k 10 hk (by decide)) (by decide +kernel) (by decide +kernel) (by decide +kernel) (xset_S hk (j := 10) (by decide) rfl)
set_option maxRecDepth 10000 in
theorem xaS_9 {i : Int32} (hk : k < 13) : xm_aI (xem w l t) (xh k + 12) 0 i = if xm_in i 36 = true then some ((w (k + 5)).2 9 i.toNatClampNeg) else none := xaI (xat_S k 12 hk (by decide))
set_option maxRecDepth 10000 in
theorem xwS_9 {i x : Int32} (hk : k < 13) : xm_wI (xem w l t) (xh k + 12) 0 i x = if xm_in i 36 = true then some (xem (xu w (k + 5) (xs2 (w (k + 5)) 9 (upd ((w (k + 5)).2 9) i.toNatClampNeg x))) l t) else none := xwI (xat_S k 12 hk (by decide)) (xset_S hk (j := 12) (by decide) rfl)
set_option maxRecDepth 10000 in
theorem xcS_9 {j : Nat} (hk : k < 13) (hj : j < 13) : xm_copy (xem w l t) 0 (xh j + 12) 0 (xh k + 12) 0 36 = some (xem (xu w (k + 5) (xs2 (w (k + 5)) 9 (fun q => if q < 36 then (w (j + 5)).2 9 q else (w (k + 5)).2 9 q))) l t) := xcy (n := 36) (xat_S j 12 hj (by decide)) (xat_S k 12 hk (by decide)) (by decide +kernel) (by decide +kernel) (by decide +kernel) (xset_S hk (j := 12) (by decide) rfl)
end XS
section XP
variable {i : Nat}
set_option maxRecDepth 10000 in
theorem xgP_0 (hi : i < 2) : xm_gI (xem w l t) (xp i) 2 0 = some ((w (i + 1)).1 0) := xgI (xat_P i 0 hi (by decide)) rfl
set_option maxRecDepth 10000 in
theorem xsP_0 {x : Int32} (hi : i < 2) : xm_sF (xem w l t) (xp i) 2 0 (.int x) = some (xem (xu w (i + 1) (xs1 (w (i + 1)) 0 x)) l t) := xsF (xat_P i 0 hi (by decide)) (Nat.le_of_ble_eq_true rfl) (xset_P hi (j := 0) (by decide) rfl)
set_option maxRecDepth 10000 in
theorem xgP_1 (hi : i < 2) : xm_gI (xem w l t) (xp i) 2 1 = some ((w (i + 1)).1 1) := xgI (xat_P i 0 hi (by decide)) rfl
set_option maxRecDepth 10000 in
theorem xsP_1 {x : Int32} (hi : i < 2) : xm_sF (xem w l t) (xp i) 2 1 (.int x) = some (xem (xu w (i + 1) (xs1 (w (i + 1)) 1 x)) l t) := xsF (xat_P i 0 hi (by decide)) (Nat.le_of_ble_eq_true rfl) (xset_P hi (j := 0) (by decide) rfl)
set_option maxRecDepth 10000 in
theorem xgP_2 (hi : i < 2) : xm_gI (xem w l t) (xp i) 2 2 = some ((w (i + 1)).1 2) := xgI (xat_P i 0 hi (by decide)) rfl
set_option maxRecDepth 10000 in
theorem xsP_2 {x : Int32} (hi : i < 2) : xm_sF (xem w l t) (xp i) 2 2 (.int x) = some (xem (xu w (i + 1) (xs1 (w (i + 1)) 2 x)) l t) := xsF (xat_P i 0 hi (by decide)) (Nat.le_of_ble_eq_true rfl) (xset_P hi (j := 0) (by decide) rfl)
set_option maxRecDepth 10000 in
theorem xgP_3 (hi : i < 2) : xm_gR (xem w l t) (xp i) 2 3 = some (xp i + 1) := xgR (xat_P i 0 hi (by decide)) rfl
set_option maxRecDepth 10000 in
theorem xgP_4 (hi : i < 2) : xm_gR (xem w l t) (xp i) 2 4 = some (xp i + 2) := xgR (xat_P i 0 hi (by decide)) rfl
set_option maxRecDepth 10000 in
theorem xgP_5 (hi : i < 2) : xm_gR (xem w l t) (xp i) 2 5 = some (xp i + 3) := xgR (xat_P i 0 hi (by decide)) rfl
set_option maxRecDepth 10000 in
theorem xgP_6 (hi : i < 2) : xm_gR (xem w l t) (xp i) 2 6 = some (xp i + 4) := xgR (xat_P i 0 hi (by decide)) rfl
set_option maxRecDepth 10000 in
theorem xgP_7 (hi : i < 2) : xm_gR (xem w l t) (xp i) 2 7 = some (xp i + 5) := xgR (xat_P i 0 hi (by decide)) rfl
set_option maxRecDepth 10000 in
theorem xiP (hi : i < 2) : xm_isO (xem w l t) (.ref (xp i)) 2 = true := xiO (xat_P i 0 hi (by decide))
set_option maxRecDepth 10000 in
theorem xaP_0 {j : Int32} (hi : i < 2) : xm_aI (xem w l t) (xp i + 1) 0 j = if xm_in j 4 = true then some ((w (i + 1)).2 0 j.toNatClampNeg) else none := xaI (xat_P i 1 hi (by decide))
set_option maxRecDepth 10000 in
theorem xwP_0 {j x : Int32} (hi : i < 2) : xm_wI (xem w l t) (xp i + 1) 0 j x = if xm_in j 4 = true then some (xem (xu w (i + 1) (xs2 (w (i + 1)) 0 (upd ((w (i + 1)).2 0) j.toNatClampNeg x))) l t) else none := xwI (xat_P i 1 hi (by decide)) (xset_P hi (j := 1) (by decide) rfl)
set_option maxRecDepth 10000 in
theorem xaP_1 {j : Int32} (hi : i < 2) : xm_aI (xem w l t) (xp i + 2) 0 j = if xm_in j 4 = true then some ((w (i + 1)).2 1 j.toNatClampNeg) else none := xaI (xat_P i 2 hi (by decide))
set_option maxRecDepth 10000 in
theorem xwP_1 {j x : Int32} (hi : i < 2) : xm_wI (xem w l t) (xp i + 2) 0 j x = if xm_in j 4 = true then some (xem (xu w (i + 1) (xs2 (w (i + 1)) 1 (upd ((w (i + 1)).2 1) j.toNatClampNeg x))) l t) else none := xwI (xat_P i 2 hi (by decide)) (xset_P hi (j := 2) (by decide) rfl)
set_option maxRecDepth 10000 in
theorem xaP_2 {j : Int32} (hi : i < 2) : xm_aI (xem w l t) (xp i + 3) 0 j = if xm_in j 4 = true then some ((w (i + 1)).2 2 j.toNatClampNeg) else none := xaI (xat_P i 3 hi (by decide))
set_option maxRecDepth 10000 in
theorem xwP_2 {j x : Int32} (hi : i < 2) : xm_wI (xem w l t) (xp i + 3) 0 j x = if xm_in j 4 = true then some (xem (xu w (i + 1) (xs2 (w (i + 1)) 2 (upd ((w (i + 1)).2 2) j.toNatClampNeg x))) l t) else none := xwI (xat_P i 3 hi (by decide)) (xset_P hi (j := 3) (by decide) rfl)
set_option maxRecDepth 10000 in
theorem xaP_3 {j : Int32} (hi : i < 2) : xm_aI (xem w l t) (xp i + 4) 0 j = if xm_in j 20 = true then some ((w (i + 1)).2 3 j.toNatClampNeg) else none := xaI (xat_P i 4 hi (by decide))
set_option maxRecDepth 10000 in
theorem xwP_3 {j x : Int32} (hi : i < 2) : xm_wI (xem w l t) (xp i + 4) 0 j x = if xm_in j 20 = true then some (xem (xu w (i + 1) (xs2 (w (i + 1)) 3 (upd ((w (i + 1)).2 3) j.toNatClampNeg x))) l t) else none := xwI (xat_P i 4 hi (by decide)) (xset_P hi (j := 4) (by decide) rfl)
set_option maxRecDepth 10000 in
theorem xaP_4 {j : Int32} (hi : i < 2) : xm_aI (xem w l t) (xp i + 5) 0 j = if xm_in j 32 = true then some ((w (i + 1)).2 4 j.toNatClampNeg) else none := xaI (xat_P i 5 hi (by decide))
set_option maxRecDepth 10000 in
theorem xwP_4 {j x : Int32} (hi : i < 2) : xm_wI (xem w l t) (xp i + 5) 0 j x = if xm_in j 32 = true then some (xem (xu w (i + 1) (xs2 (w (i + 1)) 4 (upd ((w (i + 1)).2 4) j.toNatClampNeg x))) l t) else none := xwI (xat_P i 5 hi (by decide)) (xset_P hi (j := 5) (by decide) rfl)
end XP
set_option maxRecDepth 10000 in
theorem xgA_1 : xm_gI (xem w l t) 0 7 1 = some ((w 0).1 0) := xgI (h := 0) rfl rfl
set_option maxRecDepth 10000 in
theorem xsA_1 {x : Int32} : xm_sF (xem w l t) 0 7 1 (.int x) = some (xem (xu w 0 (xs1 (w 0) 0 x)) l t) := xsF (h := 0) rfl (Nat.le_of_ble_eq_true rfl) (by rw [xu_F0]; rfl)
set_option maxRecDepth 10000 in
theorem xgA_2 : xm_gI (xem w l t) 0 7 2 = some ((w 0).1 1) := xgI (h := 0) rfl rfl
set_option maxRecDepth 10000 in
theorem xsA_2 {x : Int32} : xm_sF (xem w l t) 0 7 2 (.int x) = some (xem (xu w 0 (xs1 (w 0) 1 x)) l t) := xsF (h := 0) rfl (Nat.le_of_ble_eq_true rfl) (by rw [xu_F0]; rfl)
set_option maxRecDepth 10000 in
theorem xgA_10 : xm_gI (xem w l t) 0 7 10 = some ((w 0).1 3) := xgI (h := 0) rfl rfl
set_option maxRecDepth 10000 in
theorem xsA_10 {x : Int32} : xm_sF (xem w l t) 0 7 10 (.int x) = some (xem (xu w 0 (xs1 (w 0) 3 x)) l t) := xsF (h := 0) rfl (Nat.le_of_ble_eq_true rfl) (by rw [xu_F0]; rfl)
set_option maxRecDepth 10000 in
theorem xgA_0 : xm_gR (xem w l t) 0 7 0 = some 20 := xgR (h := 0) rfl rfl
set_option maxRecDepth 10000 in
theorem xgA_3 : xm_gR (xem w l t) 0 7 3 = some 21 := xgR (h := 0) rfl rfl
set_option maxRecDepth 10000 in
theorem xgA_4 : xm_gR (xem w l t) 0 7 4 = some 23 := xgR (h := 0) rfl rfl
set_option maxRecDepth 10000 in
theorem xgA_5 : xm_gR (xem w l t) 0 7 5 = some (xh 0) := xgR (h := 0) rfl rfl
set_option maxRecDepth 10000 in
theorem xgA_6 : xm_gR (xem w l t) 0 7 6 = some (xh 1) := xgR (h := 0) rfl rfl
set_option maxRecDepth 10000 in
theorem xgA_8 : xm_gR (xem w l t) 0 7 8 = some 44 := xgR (h := 0) rfl rfl
set_option maxRecDepth 10000 in
theorem xgA_9 : xm_gR (xem w l t) 0 7 9 = some (xh 2) := xgR (h := 0) rfl rfl
set_option maxRecDepth 10000 in
theorem xgA_11 : xm_gR (xem w l t) 0 7 11 = some 59 := xgR (h := 0) rfl rfl
set_option maxRecDepth 10000 in
theorem xgA_7 : xm_gR (xem w l t) 0 7 7 = some (xp (if (w 0).1 2 = 0 then 0 else 1)) := xgR (h := 0) rfl rfl
set_option maxRecDepth 10000 in
theorem xsA_7 {j : Nat} (hj : j < 2) : xm_sF (xem w l t) 0 7 7 (.ref (xp j)) = some (xem (xu w 0 (xs1 (w 0) 2 (nI j))) l t) := by
  match j, hj with
  | 0, _ => exact xsF (h := 0) rfl (Nat.le_of_ble_eq_true rfl) (by rw [xu_F0]; rfl)
  | 1, _ => exact xsF (h := 0) rfl (Nat.le_of_ble_eq_true rfl) (by rw [xu_F0]; rfl)
  | _ + 2, h => omega
set_option maxRecDepth 10000 in
theorem xiA : xm_isO (xem w l t) (.ref 0) 7 = true := xiO (h := 0) rfl
set_option maxRecDepth 10000 in
theorem xgT_0 : xm_gI (xem w l t) 21 5 0 = some ((w 0).1 4) := xgI (h := 21) rfl rfl
set_option maxRecDepth 10000 in
theorem xsT_0 {x : Int32} : xm_sF (xem w l t) 21 5 0 (.int x) = some (xem (xu w 0 (xs1 (w 0) 4 x)) l t) := xsF (h := 21) rfl (Nat.le_of_ble_eq_true rfl) (by rw [xu_F0]; rfl)
set_option maxRecDepth 10000 in
theorem xgT_1 : xm_gI (xem w l t) 21 5 1 = some ((w 0).1 5) := xgI (h := 21) rfl rfl
set_option maxRecDepth 10000 in
theorem xsT_1 {x : Int32} : xm_sF (xem w l t) 21 5 1 (.int x) = some (xem (xu w 0 (xs1 (w 0) 5 x)) l t) := xsF (h := 21) rfl (Nat.le_of_ble_eq_true rfl) (by rw [xu_F0]; rfl)
set_option maxRecDepth 10000 in
theorem xgT_3 : xm_gI (xem w l t) 21 5 3 = some ((w 0).1 7) := xgI (h := 21) rfl rfl
set_option maxRecDepth 10000 in
theorem xsT_3 {x : Int32} : xm_sF (xem w l t) 21 5 3 (.int x) = some (xem (xu w 0 (xs1 (w 0) 7 x)) l t) := xsF (h := 21) rfl (Nat.le_of_ble_eq_true rfl) (by rw [xu_F0]; rfl)
set_option maxRecDepth 10000 in
theorem xgT_4 : xm_gI (xem w l t) 21 5 4 = some ((w 0).1 8) := xgI (h := 21) rfl rfl
set_option maxRecDepth 10000 in
theorem xsT_4 {x : Int32} : xm_sF (xem w l t) 21 5 4 (.int x) = some (xem (xu w 0 (xs1 (w 0) 8 x)) l t) := xsF (h := 21) rfl (Nat.le_of_ble_eq_true rfl) (by rw [xu_F0]; rfl)
set_option maxRecDepth 10000 in
theorem xgT_5 : xm_gI (xem w l t) 21 5 5 = some ((w 0).1 9) := xgI (h := 21) rfl rfl
set_option maxRecDepth 10000 in
theorem xsT_5 {x : Int32} : xm_sF (xem w l t) 21 5 5 (.int x) = some (xem (xu w 0 (xs1 (w 0) 9 x)) l t) := xsF (h := 21) rfl (Nat.le_of_ble_eq_true rfl) (by rw [xu_F0]; rfl)
set_option maxRecDepth 10000 in
theorem xgT_6 : xm_gI (xem w l t) 21 5 6 = some ((w 0).1 10) := xgI (h := 21) rfl rfl
set_option maxRecDepth 10000 in
theorem xsT_6 {x : Int32} : xm_sF (xem w l t) 21 5 6 (.int x) = some (xem (xu w 0 (xs1 (w 0) 10 x)) l t) := xsF (h := 21) rfl (Nat.le_of_ble_eq_true rfl) (by rw [xu_F0]; rfl)
set_option maxRecDepth 10000 in
theorem xgT_7 : xm_gI (xem w l t) 21 5 7 = some ((w 0).1 11) := xgI (h := 21) rfl rfl
set_option maxRecDepth 10000 in
theorem xsT_7 {x : Int32} : xm_sF (xem w l t) 21 5 7 (.int x) = some (xem (xu w 0 (xs1 (w 0) 11 x)) l t) := xsF (h := 21) rfl (Nat.le_of_ble_eq_true rfl) (by rw [xu_F0]; rfl)
set_option maxRecDepth 10000 in
theorem xgT_2 : xm_gR (xem w l t) 21 5 2 = some (xbh (w 0)) := xgR (h := 21) rfl rfl
set_option maxRecDepth 10000 in
theorem xsT_2 : xm_sF (xem w l t) 21 5 2 (.ref 20) = some (xem (xu w 0 (xs1 (w 0) 6 1)) l t) := xsF (h := 21) rfl (Nat.le_of_ble_eq_true rfl) (by rw [xu_F0]; rfl)
set_option maxRecDepth 10000 in
theorem xiT : xm_isO (xem w l t) (.ref 21) 5 = true := xiO (h := 21) rfl
set_option maxRecDepth 10000 in
theorem xgL_0 : xm_gI (xem w l t) 23 1 0 = some ((w 0).1 12) := xgI (h := 23) rfl rfl
set_option maxRecDepth 10000 in
theorem xsL_0 {x : Int32} : xm_sF (xem w l t) 23 1 0 (.int x) = some (xem (xu w 0 (xs1 (w 0) 12 x)) l t) := xsF (h := 23) rfl (Nat.le_of_ble_eq_true rfl) (by rw [xu_F0]; rfl)
set_option maxRecDepth 10000 in
theorem xgL_1 : xm_gR (xem w l t) 23 1 1 = some 24 := xgR (h := 23) rfl rfl
set_option maxRecDepth 10000 in
theorem xiL : xm_isO (xem w l t) (.ref 23) 1 = true := xiO (h := 23) rfl
set_option maxRecDepth 10000 in
theorem xgYs : xm_gR (xem w l t) 44 6 0 = some 45 := xgR (h := 44) rfl rfl
set_option maxRecDepth 10000 in
theorem xiYs : xm_isO (xem w l t) (.ref 44) 6 = true := xiO (h := 44) rfl
set_option maxRecDepth 10000 in
theorem xgH_0 : xm_gI (xem w l t) 59 0 0 = some ((w 0).1 13) := xgI (h := 59) rfl rfl
set_option maxRecDepth 10000 in
theorem xsH_0 {x : Int32} : xm_sF (xem w l t) 59 0 0 (.int x) = some (xem (xu w 0 (xs1 (w 0) 13 x)) l t) := xsF (h := 59) rfl (Nat.le_of_ble_eq_true rfl) (by rw [xu_F0]; rfl)
set_option maxRecDepth 10000 in
theorem xgH_1 : xm_gI (xem w l t) 59 0 1 = some ((w 0).1 14) := xgI (h := 59) rfl rfl
set_option maxRecDepth 10000 in
theorem xsH_1 {x : Int32} : xm_sF (xem w l t) 59 0 1 (.int x) = some (xem (xu w 0 (xs1 (w 0) 14 x)) l t) := xsF (h := 59) rfl (Nat.le_of_ble_eq_true rfl) (by rw [xu_F0]; rfl)
set_option maxRecDepth 10000 in
theorem xgH_2 : xm_gR (xem w l t) 59 0 2 = some 60 := xgR (h := 59) rfl rfl
set_option maxRecDepth 10000 in
theorem xiH : xm_isO (xem w l t) (.ref 59) 0 = true := xiO (h := 59) rfl
theorem xaH {n : Nat} (hn : n < 10) : xm_aQ (xem w l t) 60 4 (nI n) = some (xh (3 + n)) := by
  have h1 : (xcells w l)[60]? = some (.inl (4, 10, .inr (.inr (.inr (.inr fun i => if i < 10 then some (xh (3 + i)) else none))))) := rfl
  unfold xm_aQ xm_gQ
  rw [show (xem w l t).2.2 = xcells w l from rfl, h1]
  dsimp only
  rw [if_pos rfl]
  dsimp only
  have h2 : xm_in (nI n) 10 = true := by
    match n, hn with
    | 0, _ | 1, _ | 2, _ | 3, _ | 4, _ | 5, _ | 6, _ | 7, _ | 8, _ | 9, _ => decide +kernel
    | _ + 10, h => omega
  rw [if_pos h2, nI_clamp (by omega), if_pos hn]
set_option maxRecDepth 10000 in
theorem xaA_B {i : Int32} : xm_aI (xem w l t) 20 1 i = if xm_in i 800 = true then some ((w 0).2 0 i.toNatClampNeg) else none := xaI (h := 20) rfl
set_option maxRecDepth 10000 in
theorem xwA_B {i x : Int32} : xm_wI (xem w l t) 20 1 i x = if xm_in i 800 = true then some (xem (xu w 0 (xs2 (w 0) 0 (upd ((w 0).2 0) i.toNatClampNeg x))) l t) else none := xwI (h := 20) rfl (by rw [xu_F0]; rfl)
set_option maxRecDepth 10000 in
theorem xaA_E {i : Int32} : xm_aI (xem w l t) 22 1 i = if xm_in i 0 = true then some ((w 0).2 1 i.toNatClampNeg) else none := xaI (h := 22) rfl
set_option maxRecDepth 10000 in
theorem xwA_E {i x : Int32} : xm_wI (xem w l t) 22 1 i x = if xm_in i 0 = true then some (xem (xu w 0 (xs2 (w 0) 1 (upd ((w 0).2 1) i.toNatClampNeg x))) l t) else none := xwI (h := 22) rfl (by rw [xu_F0]; rfl)
set_option maxRecDepth 10000 in
theorem xaA_X {i : Int32} : xm_aI (xem w l t) 24 1 i = if xm_in i 256 = true then some ((w 0).2 2 i.toNatClampNeg) else none := xaI (h := 24) rfl
set_option maxRecDepth 10000 in
theorem xwA_X {i x : Int32} : xm_wI (xem w l t) 24 1 i x = if xm_in i 256 = true then some (xem (xu w 0 (xs2 (w 0) 2 (upd ((w 0).2 2) i.toNatClampNeg x))) l t) else none := xwI (h := 24) rfl (by rw [xu_F0]; rfl)
set_option maxRecDepth 10000 in
theorem xaA_Z {i : Int32} : xm_aI (xem w l t) 45 0 i = if xm_in i 36 = true then some ((w 0).2 3 i.toNatClampNeg) else none := xaI (h := 45) rfl
set_option maxRecDepth 10000 in
theorem xwA_Z {i x : Int32} : xm_wI (xem w l t) 45 0 i x = if xm_in i 36 = true then some (xem (xu w 0 (xs2 (w 0) 3 (upd ((w 0).2 3) i.toNatClampNeg x))) l t) else none := xwI (h := 45) rfl (by rw [xu_F0]; rfl)
set_option maxRecDepth 10000 in
theorem xlB : xm_len (xem w l t) 20 = some 800 := rfl
set_option maxRecDepth 10000 in
theorem xlE : xm_len (xem w l t) 22 = some 0 := rfl
end XW
/-! numbers -/
theorem nIl (n : Nat) : (OfNat.ofNat n : Int32) = nI (OfNat.ofNat n) := rfl
theorem xin {n m : Nat} (h : n < m) (hm : m < 2 ^ 31) : xm_in (nI n) m = true := by
  unfold xm_in
  have h1 : ¬ nI n < 0 := nI_pos (by omega)
  have h2 : ¬ m ≤ (nI n).toNatClampNeg := by rw [nI_clamp (by omega)]; omega
  simp [h1, h2]
theorem xin_no {i : Int32} {m : Nat} (h : xm_in i m = true) : ∃ n, n < m ∧ i = nI n := by
  have h1 := xm_in_vp h
  obtain ⟨j, hj, rfl⟩ := nI_of (x := i) (fun z => h1 (Or.inl z))
  refine ⟨j, ?_, rfl⟩
  have h2 : ¬ m ≤ (nI j).toNatClampNeg := fun z => h1 (Or.inr z)
  rw [nI_clamp hj] at h2
  omega
