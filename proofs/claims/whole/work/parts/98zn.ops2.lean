/-! THE LAW: operations, one by one -/
theorem zo01 {c : Prop} [Decidable c] {p q : Int32 × Int32 × Option (Nat → Int32)} (hp : p.1 = 0 ∨ p.1 = 1) (hq : q.1 = 0 ∨ q.1 = 1) : (if c then p else q).1 = 0 ∨ (if c then p else q).1 = 1 := by
  split
  · exact hp
  · exact hq
section OP3
variable {w : xW} {l : Nat → Nat → Int64} {t : Nat} {sc : xm_Sc} {d : Nat} {r : Nat → Int32}
theorem xR_3 {w1 : xW} (h : w1 3 = w 3) : xR w1 = xR w := by
  unfold xR
  rw [h]
theorem xMe_3 {w1 : xW} (h : w1 3 = w 3) : xMe w1 = xMe w := by
  unfold xMe xR xF xJ xH
  rw [h]
theorem s1_cancel {a x : Int32} : (sp_cancel r a x).1 = 0 ∨ (sp_cancel r a x).1 = 1 := by
  unfold sp_cancel sp_cancelN
  repeat' (first | (with_reducible exact Or.inl rfl) | (with_reducible exact Or.inr rfl) | refine zo01 ?_ ?_ | split)
theorem s1_recall {a : Int32} : (sp_recall r a).1 = 0 ∨ (sp_recall r a).1 = 1 := by
  unfold sp_recall sp_recallN
  repeat' (first | (with_reducible exact Or.inl rfl) | (with_reducible exact Or.inr rfl) | refine zo01 ?_ ?_ | split)
theorem s1_takeO {a x : Int32} : (sp_takeO r a x).1 = 0 ∨ (sp_takeO r a x).1 = 1 := by
  unfold sp_takeO sp_takeN
  repeat' (first | (with_reducible exact Or.inl rfl) | (with_reducible exact Or.inr rfl) | refine zo01 ?_ ?_ | split)
theorem s1_giveBack {a x : Int32} : (sp_giveBack r a x).1 = 0 ∨ (sp_giveBack r a x).1 = 1 := by
  unfold sp_giveBack sp_backN
  repeat' (first | (with_reducible exact Or.inl rfl) | (with_reducible exact Or.inr rfl) | refine zo01 ?_ ?_ | split)
theorem s1_find {a x : Int32} : (sp_find r a x).1 = 0 ∨ (sp_find r a x).1 = 1 := by
  unfold sp_find sp_findN
  repeat' (first | (with_reducible exact Or.inl rfl) | (with_reducible exact Or.inr rfl) | refine zo01 ?_ ?_ | split)
theorem s1_setHold {a : Int32} : (sp_setHold r a).1 = 0 ∨ (sp_setHold r a).1 = 1 := by
  unfold sp_setHold
  repeat' (first | (with_reducible exact Or.inl rfl) | (with_reducible exact Or.inr rfl) | refine zo01 ?_ ?_ | split)
theorem s1_lose {a : Int32} : (sp_lose r a).1 = 0 ∨ (sp_lose r a).1 = 1 := by
  unfold sp_lose
  repeat' (first | (with_reducible exact Or.inl rfl) | (with_reducible exact Or.inr rfl) | refine zo01 ?_ ?_ | split)
theorem s1_close {a : Int32} : (sp_close r a).1 = 0 ∨ (sp_close r a).1 = 1 := by
  unfold sp_close
  repeat' (first | (with_reducible exact Or.inl rfl) | (with_reducible exact Or.inr rfl) | refine zo01 ?_ ?_ | split)
theorem s1_open {a : Int32} : (sp_open r a).1 = 0 ∨ (sp_open r a).1 = 1 := by
  unfold sp_open
  repeat' (first | (with_reducible exact Or.inl rfl) | (with_reducible exact Or.inr rfl) | refine zo01 ?_ ?_ | split)
theorem s1_run {u : xU} {a : Int32} : (sp_run u a).1 = 0 ∨ (sp_run u a).1 = 1 := by
  unfold sp_run
  repeat' (first | (with_reducible exact Or.inl rfl) | (with_reducible exact Or.inr rfl) | refine zo01 ?_ ?_ | split)
theorem s1_ask {a x y : Int32} : (sp_ask r a x y).1 = 0 ∨ (sp_ask r a x y).1 = 1 ∨ (sp_ask r a x y).1 = 2 := by
  unfold sp_ask
  split
  · split
    · split
      · left
        split
        · rfl
        · split
          · rfl
          · split <;> rfl
      · exact Or.inr (Or.inr rfl)
    · exact Or.inr (Or.inl rfl)
  · exact Or.inr (Or.inl rfl)
theorem kb_315 {a x y : Int32} (hI : kInv w) : kB t (xm_C sc xt_M (d + 40) 315 [.ref 0, .int a, .int x, .int y, .ref 204] (xem w l t)) (xm_C sc xt_M (d + 40) 241 [.ref 191, .int a, .int x, .int y]) := by
  have hR := hI.R
  obtain ⟨c, c1, c2⟩ := hI.t4
  refine kB_Op (s := (sp_ask (xR w) a x y)) hI (fun n m b1 b2 b3 b5 => @kd_134 w l t sc (d + 34) (xR w) n m a x y hR b1 b2 b3 b5) (fun w1 l' t' n h b1 b4 => ?_) (fun r' e => ⟨c, c1, (q4_ask r' e).trans c2⟩) (fun v w1 h => kh_315 h) (fun h1 h => ?_)
  · rw [← xR_3 h]
    exact @zc_241 w1 l' t' sc (d + 36) a x y n (by rw [h]; exact hI.ri) (by rw [xR_3 h]; exact hR.W) b1 b4
  · rcases @s1_ask (xR w) a x y with z | z | z
    · exact absurd z h1
    · rw [z] at h ⊢
      exact kh_315_1 h
    · rw [z] at h ⊢
      exact kh_315_2 h
theorem kb_316 {a x : Int32} (hI : kInv w) : kB t (xm_C sc xt_M (d + 40) 316 [.ref 0, .int a, .int x, .ref 204] (xem w l t)) (xm_C sc xt_M (d + 40) 242 [.ref 191, .int a, .int x]) := by
  have hR := hI.R
  obtain ⟨c, c1, c2⟩ := hI.t4
  refine kB_Op (s := (sp_cancel (xR w) a x)) hI (fun n m b1 b2 b3 b5 => @kd_135 w l t sc (d + 34) (xR w) n m a x hR b1 b2 b3 b5) (fun w1 l' t' n h b1 b4 => ?_) (fun r' e => ⟨c, c1, (q4_cancel hR.W.bd r' e).trans c2⟩) (fun v w1 h => kh_316 h) (fun h1 h => ?_)
  · rw [← xR_3 h]
    exact @zc_242 w1 l' t' sc (d + 35) a x n (by rw [h]; exact hI.ri) (by rw [xR_3 h]; exact hR.W) b1 b4
  · rw [(@s1_cancel (xR w) a x).resolve_left h1]
    exact kh_316_1 h
theorem kb_317 {a : Int32} (hI : kInv w) : kB t (xm_C sc xt_M (d + 40) 317 [.ref 0, .int a, .ref 204] (xem w l t)) (xm_C sc xt_M (d + 40) 243 [.ref 191, .int a]) := by
  have hR := hI.R
  obtain ⟨c, c1, c2⟩ := hI.t4
  refine kB_Op (s := (sp_recall (xR w) a)) hI (fun n m b1 b2 b3 b5 => @kd_136 w l t sc (d + 34) (xR w) n m a hR b1 b2 b3 b5) (fun w1 l' t' n h b1 b4 => ?_) (fun r' e => ⟨c, c1, (q4_recall hR.W.bd r' e).trans c2⟩) (fun v w1 h => kh_317 h) (fun h1 h => ?_)
  · rw [← xR_3 h]
    exact @zc_243 w1 l' t' sc (d + 35) a n (by rw [h]; exact hI.ri) (by rw [xR_3 h]; exact hR.W) b1 b4
  · rw [(@s1_recall (xR w) a).resolve_left h1]
    exact kh_317_1 h
theorem kb_318 {a x : Int32} (hI : kInv w) : kB t (xm_C sc xt_M (d + 40) 318 [.ref 0, .int a, .int x, .ref 204] (xem w l t)) (xm_C sc xt_M (d + 40) 244 [.ref 191, .int a, .int x]) := by
  have hR := hI.R
  obtain ⟨c, c1, c2⟩ := hI.t4
  refine kB_Op (s := (sp_takeO (xR w) a x)) hI (fun n m b1 b2 b3 b5 => @kd_137 w l t sc (d + 34) (xR w) n m a x hR b1 b2 b3 b5) (fun w1 l' t' n h b1 b4 => ?_) (fun r' e => ⟨c, c1, (q4_takeO hR.W.bd r' e).trans c2⟩) (fun v w1 h => kh_318 h) (fun h1 h => ?_)
  · rw [← xR_3 h]
    exact @zc_244 w1 l' t' sc (d + 35) a x n (by rw [h]; exact hI.ri) (by rw [xR_3 h]; exact hR.W) b1 b4
  · rw [(@s1_takeO (xR w) a x).resolve_left h1]
    exact kh_318_1 h
theorem kb_319 {a x : Int32} (hI : kInv w) : kB t (xm_C sc xt_M (d + 40) 319 [.ref 0, .int a, .int x, .ref 204] (xem w l t)) (xm_C sc xt_M (d + 40) 245 [.ref 191, .int a, .int x]) := by
  have hR := hI.R
  obtain ⟨c, c1, c2⟩ := hI.t4
  refine kB_Op (s := (sp_giveBack (xR w) a x)) hI (fun n m b1 b2 b3 b5 => @kd_138 w l t sc (d + 34) (xR w) n m a x hR b1 b2 b3 b5) (fun w1 l' t' n h b1 b4 => ?_) (fun r' e => ⟨c, c1, (q4_giveBack hR.W.bd r' e).trans c2⟩) (fun v w1 h => kh_319 h) (fun h1 h => ?_)
  · rw [← xR_3 h]
    exact @zc_245 w1 l' t' sc (d + 35) a x n (by rw [h]; exact hI.ri) (by rw [xR_3 h]; exact hR.W) b1 b4
  · rw [(@s1_giveBack (xR w) a x).resolve_left h1]
    exact kh_319_1 h
theorem kb_320 {a : Int32} (hI : kInv w) : kB t (xm_C sc xt_M (d + 40) 320 [.ref 0, .int a, .ref 204] (xem w l t)) (xm_C sc xt_M (d + 40) 246 [.ref 191, .int a]) := by
  have hR := hI.R
  obtain ⟨c, c1, c2⟩ := hI.t4
  refine kB_Op (s := (sp_lose (xR w) a)) hI (fun n m b1 b2 b3 b5 => @kd_139 w l t sc (d + 34) (xR w) n m a hR b1 b2 b3 b5) (fun w1 l' t' n h b1 b4 => ?_) (fun r' e => ⟨c, c1, (q4_lose hR.W r' e).trans c2⟩) (fun v w1 h => kh_320 h) (fun h1 h => ?_)
  · rw [← xR_3 h]
    exact @zc_246 w1 l' t' sc (d + 35) a n (by rw [h]; exact hI.ri) (by rw [xR_3 h]; exact hR.W) b1 b4
  · rw [(@s1_lose (xR w) a).resolve_left h1]
    exact kh_320_1 h
theorem kb_321 {a x : Int32} (hI : kInv w) : kB t (xm_C sc xt_M (d + 40) 321 [.ref 0, .int a, .int x, .ref 204] (xem w l t)) (xm_C sc xt_M (d + 40) 247 [.ref 191, .int a, .int x]) := by
  have hR := hI.R
  obtain ⟨c, c1, c2⟩ := hI.t4
  refine kB_Op (s := (sp_find (xR w) a x)) hI (fun n m b1 b2 b3 b5 => @kd_140 w l t sc (d + 34) (xR w) n m a x hR b1 b2 b3 b5) (fun w1 l' t' n h b1 b4 => ?_) (fun r' e => ⟨c, c1, (q4_find hR.W.bd r' e).trans c2⟩) (fun v w1 h => kh_321 h) (fun h1 h => ?_)
  · rw [← xR_3 h]
    exact @zc_247 w1 l' t' sc (d + 35) a x n (by rw [h]; exact hI.ri) (by rw [xR_3 h]; exact hR.W) b1 b4
  · rw [(@s1_find (xR w) a x).resolve_left h1]
    exact kh_321_1 h
theorem kb_322 {a : Int32} (hI : kInv w) : kB t (xm_C sc xt_M (d + 40) 322 [.ref 0, .int a, .ref 204] (xem w l t)) (xm_C sc xt_M (d + 40) 248 [.ref 191, .int a]) := by
  have hR := hI.R
  obtain ⟨c, c1, c2⟩ := hI.t4
  refine kB_Op (s := (sp_close (xR w) a)) hI (fun n m b1 b2 b3 b5 => @kd_141 w l t sc (d + 34) (xR w) n m a hR b1 b2 b3 b5) (fun w1 l' t' n h b1 b4 => ?_) (fun r' e => ⟨c, c1, (q4_close hR.W r' e).trans c2⟩) (fun v w1 h => kh_322 h) (fun h1 h => ?_)
  · rw [← xR_3 h]
    exact @zc_248 w1 l' t' sc (d + 35) a n (by rw [h]; exact hI.ri) (by rw [xR_3 h]; exact hR.W) b1 b4
  · rw [(@s1_close (xR w) a).resolve_left h1]
    exact kh_322_1 h
theorem kb_323 {a : Int32} (hI : kInv w) : kB t (xm_C sc xt_M (d + 40) 323 [.ref 0, .int a, .ref 204] (xem w l t)) (xm_C sc xt_M (d + 40) 249 [.ref 191, .int a]) := by
  have hR := hI.R
  obtain ⟨c, c1, c2⟩ := hI.t4
  refine kB_Op (s := (sp_open (xR w) a)) hI (fun n m b1 b2 b3 b5 => @kd_142 w l t sc (d + 34) (xR w) n m a hR b1 b2 b3 b5) (fun w1 l' t' n h b1 b4 => ?_) (fun r' e => ⟨c, c1, (q4_open r' e).trans c2⟩) (fun v w1 h => kh_323 h) (fun h1 h => ?_)
  · rw [← xR_3 h]
    exact @zc_249 w1 l' t' sc (d + 35) a n (by rw [h]; exact hI.ri) (by rw [xR_3 h]; exact hR.W) b1 b4
  · rw [(@s1_open (xR w) a).resolve_left h1]
    exact kh_323_1 h
theorem kb_324 {a : Int32} (hI : kInv w) : kB t (xm_C sc xt_M (d + 40) 324 [.ref 0, .int a, .ref 204] (xem w l t)) (xm_C sc xt_M (d + 40) 250 [.ref 191, .int a]) := by
  have hR := hI.R
  obtain ⟨c, c1, c2⟩ := hI.t4
  refine kB_Op (s := (sp_setHold (xR w) a)) hI (fun n m b1 b2 b3 b5 => @kd_143 w l t sc (d + 34) (xR w) n m a hR b1 b2 b3 b5) (fun w1 l' t' n h b1 b4 => ?_) (fun r' e => ⟨c, c1, (q4_setHold r' e).trans c2⟩) (fun v w1 h => kh_324 h) (fun h1 h => ?_)
  · rw [← xR_3 h]
    exact @zc_250 w1 l' t' sc (d + 36) a n (by rw [h]; exact hI.ri) (by rw [xR_3 h]; exact hR.W) b1 b4
  · rw [(@s1_setHold (xR w) a).resolve_left h1]
    exact kh_324_1 h
theorem kb_325 {a : Int32} (hI : kInv w) : kB t (xm_C sc xt_M (d + 40) 325 [.ref 0, .int a, .ref 204] (xem w l t)) (xm_C sc xt_M (d + 40) 251 [.ref 191, .int a]) := by
  have hR := hI.R
  obtain ⟨c, c1, c2⟩ := hI.t4
  refine kB_Op (s := (sp_run (xMe w) a)) hI (fun n m b1 b2 b3 b5 => @kd_144 w l t sc (d + 32) n m c a (xMe w) hR b1 b2 b3 b5 c2 c1) (fun w1 l' t' n h b1 b4 => ?_) (q4_run (u := xMe w) hR.W c2 c1) (fun v w1 h => kh_325 h) (fun h1 h => ?_)
  · rw [← xMe_3 h]
    exact @zc_251 w1 l' t' sc (d + 32) a n c (by rw [h]; exact hI.ri) (by rw [xR_3 h]; exact hR.W) b1 b4 (by rw [xR_3 h]; exact c2) c1
  · rw [(@s1_run (xMe w) a).resolve_left h1]
    exact kh_325_1 h
end OP3
