/-! THE LAW: its cases -/
theorem lg_self {x : Int64} : lg_cmp x x = 0 := by
  unfold lg_cmp
  rw [if_neg (show ¬ x > x from Int64.lt_irrefl), if_pos rfl]
def kIn (sc : xm_Sc) (x : Int32) : Prop := xm_in (x + 1) sc.1 = true ∧ xm_in (x + 2) sc.1 = true ∧ xm_in (x + 3) sc.1 = true ∧ xm_in (x + 4) sc.1 = true ∧ xm_in (x + 5) sc.1 = true
def kGo (t : Nat) (o : Option xm_O) (sc : xm_Sc) (d : Nat) (x : Int32) : Prop := ∃ w2 l2 t2 u5 u6 u7 u8, o = xm_R sc xt_M (d + 40) 328 2433 [.retAddr 5000, .ref 0, .ref 191, .ref 204, .int x, u5, u6, u7, u8] [] (xem w2 l2 t2) ∧ kInv w2 ∧ t2 ≤ t + 1
section LC
variable {w : xW} {l : Nat → Nat → Int64} {t : Nat} {sc : xm_Sc} {d : Nat} {x : Int32} {v5 v6 v7 v8 : Value}
theorem kl_228 (hI : kInv w) (h : kIn sc x) : kGo t (xm_R sc xt_M (d + 40) 328 228 [.retAddr 5000, .ref 0, .ref 191, .ref 204, .int x, v5, v6, v7, v8] [] (xem w l t)) sc d x := by
  obtain ⟨w1, l1, t1, w2, l2, v, e1, e2, e5, e6⟩ := ke_107 (w := w) (l := l) (t := t) (sc := sc) (d := d) (a := sc.2 (x + 1).toNatClampNeg) (b := sc.2 (x + 2).toNatClampNeg) (c := sc.2 (x + 3).toNatClampNeg) (e := sc.2 (x + 4).toNatClampNeg) (f := sc.2 (x + 5).toNatClampNeg) hI
  refine ⟨w2, l2, t1, v5, v6, v7, v8, ?_, e5, e6⟩
  rw [yb_328_228 (by omega), if_pos ⟨rfl, h.1⟩, if_pos ⟨rfl, h.2.1⟩, if_pos ⟨rfl, h.2.2.1⟩, if_pos ⟨rfl, h.2.2.2.1⟩, if_pos ⟨rfl, h.2.2.2.2⟩, if_pos xiA, e1, zbs, xk_I, if_pos ⟨rfl, h.1⟩, if_pos ⟨rfl, h.2.1⟩, if_pos ⟨rfl, h.2.2.1⟩, if_pos ⟨rfl, h.2.2.2.1⟩, if_pos ⟨rfl, h.2.2.2.2⟩, if_pos xiM, e2, zbs, xk_I, if_pos rfl]
theorem kl_301 (hI : kInv w) (h : kIn sc x) : kGo t (xm_R sc xt_M (d + 40) 328 301 [.retAddr 5000, .ref 0, .ref 191, .ref 204, .int x, v5, v6, v7, v8] [] (xem w l t)) sc d x := by
  obtain ⟨w1, l1, t1, w2, l2, k, v, e1, e2, e3, e4, e5, e6⟩ := kb_299 (w := w) (l := l) (t := t) (sc := sc) (d := d) (x := sc.2 (x + 1).toNatClampNeg) hI
  refine ⟨w2, l2, t1, .int k, .int v, v7, v8, ?_, e5, e6⟩
  rw [yb_328_301 (by omega), if_pos ⟨rfl, h.1⟩, e1, zbs, xk_I, if_pos ⟨rfl, h.1⟩, if_pos xiM, e2, zbs, xk_I, if_pos xiM, zc_158, zbs, xk_I, if_pos e3]
  by_cases hk : k = 0
  · rw [if_pos hk, xaL0, zbs, if_pos (by rw [e4 hk]; exact lg_self), yb_328_354 (by omega)]
  · rw [if_neg hk, yb_328_354 (by omega)]
theorem kl_357 (hI : kInv w) (h : kIn sc x) : kGo t (xm_R sc xt_M (d + 40) 328 357 [.retAddr 5000, .ref 0, .ref 191, .ref 204, .int x, v5, v6, v7, v8] [] (xem w l t)) sc d x := by
  obtain ⟨w1, l1, t1, w2, l2, v, e1, e2, e5, e6⟩ := ke_110 (w := w) (l := l) (t := t) (sc := sc) (d := d)  hI
  refine ⟨w2, l2, t1, v5, v6, v7, v8, ?_, e5, e6⟩
  rw [yb_328_357 (by omega), if_pos xiA, e1, zbs, xk_I, if_pos xiM, e2, zbs, xk_I, if_pos rfl]
theorem kl_370 (hI : kInv w) (h : kIn sc x) : kGo t (xm_R sc xt_M (d + 40) 328 370 [.retAddr 5000, .ref 0, .ref 191, .ref 204, .int x, v5, v6, v7, v8] [] (xem w l t)) sc d x := by
  obtain ⟨w1, l1, t1, w2, l2, k, v, e1, e2, e3, e4, e5, e6⟩ := kb_300 (w := w) (l := l) (t := t) (sc := sc) (d := d) (x := sc.2 (x + 1).toNatClampNeg) hI
  refine ⟨w2, l2, t1, .int k, .int v, v7, v8, ?_, e5, e6⟩
  rw [yb_328_370 (by omega), if_pos ⟨rfl, h.1⟩, e1, zbs, xk_I, if_pos ⟨rfl, h.1⟩, if_pos xiM, e2, zbs, xk_I, if_pos xiM, zc_158, zbs, xk_I, if_pos e3]
  by_cases hk : k = 0
  · rw [if_pos hk, xaL0, zbs, if_pos (by rw [e4 hk]; exact lg_self), yb_328_423 (by omega)]
  · rw [if_neg hk, yb_328_423 (by omega)]
theorem kl_426 (hI : kInv w) (h : kIn sc x) : kGo t (xm_R sc xt_M (d + 40) 328 426 [.retAddr 5000, .ref 0, .ref 191, .ref 204, .int x, v5, v6, v7, v8] [] (xem w l t)) sc d x := by
  obtain ⟨w1, l1, t1, w2, l2, k, v, e1, e2, e3, e4, e5, e6⟩ := kb_301 (w := w) (l := l) (t := t) (sc := sc) (d := d) (a := sc.2 (x + 1).toNatClampNeg) (x := sc.2 (x + 2).toNatClampNeg) hI
  refine ⟨w2, l2, t1, .int k, .int v, v7, v8, ?_, e5, e6⟩
  rw [yb_328_426 (by omega), if_pos ⟨rfl, h.1⟩, if_pos ⟨rfl, h.2.1⟩, e1, zbs, xk_I, if_pos ⟨rfl, h.1⟩, if_pos ⟨rfl, h.2.1⟩, if_pos xiM, e2, zbs, xk_I, if_pos xiM, zc_158, zbs, xk_I, if_pos e3]
  by_cases hk : k = 0
  · rw [if_pos hk, xaL0, zbs, if_pos (by rw [e4 hk]; exact lg_self), yb_328_491 (by omega)]
  · rw [if_neg hk, yb_328_491 (by omega)]
theorem kl_494 (hI : kInv w) (h : kIn sc x) : kGo t (xm_R sc xt_M (d + 40) 328 494 [.retAddr 5000, .ref 0, .ref 191, .ref 204, .int x, v5, v6, v7, v8] [] (xem w l t)) sc d x := by
  obtain ⟨w1, l1, t1, w2, l2, k, v, e1, e2, e3, e4, e5, e6⟩ := kb_302 (w := w) (l := l) (t := t) (sc := sc) (d := d) (a := sc.2 (x + 1).toNatClampNeg) (x := sc.2 (x + 2).toNatClampNeg) hI
  refine ⟨w2, l2, t1, .int k, .int v, v7, v8, ?_, e5, e6⟩
  rw [yb_328_494 (by omega), if_pos ⟨rfl, h.1⟩, if_pos ⟨rfl, h.2.1⟩, e1, zbs, xk_I, if_pos ⟨rfl, h.1⟩, if_pos ⟨rfl, h.2.1⟩, if_pos xiM, e2, zbs, xk_I, if_pos xiM, zc_158, zbs, xk_I, if_pos e3]
  by_cases hk : k = 0
  · rw [if_pos hk, xaL0, zbs, if_pos (by rw [e4 hk]; exact lg_self), yb_328_559 (by omega)]
  · rw [if_neg hk, yb_328_559 (by omega)]
theorem kl_562 (hI : kInv w) (h : kIn sc x) : kGo t (xm_R sc xt_M (d + 40) 328 562 [.retAddr 5000, .ref 0, .ref 191, .ref 204, .int x, v5, v6, v7, v8] [] (xem w l t)) sc d x := by
  obtain ⟨w1, l1, t1, w2, l2, k, v, e1, e2, e3, e4, e5, e6⟩ := kb_303 (w := w) (l := l) (t := t) (sc := sc) (d := d) (a := sc.2 (x + 1).toNatClampNeg) (x := sc.2 (x + 2).toNatClampNeg) hI
  refine ⟨w2, l2, t1, .int k, .int v, v7, v8, ?_, e5, e6⟩
  rw [yb_328_562 (by omega), if_pos ⟨rfl, h.1⟩, if_pos ⟨rfl, h.2.1⟩, e1, zbs, xk_I, if_pos ⟨rfl, h.1⟩, if_pos ⟨rfl, h.2.1⟩, if_pos xiM, e2, zbs, xk_I, if_pos xiM, zc_158, zbs, xk_I, if_pos e3]
  by_cases hk : k = 0
  · rw [if_pos hk, xaL0, zbs, if_pos (by rw [e4 hk]; exact lg_self), yb_328_627 (by omega)]
  · rw [if_neg hk, yb_328_627 (by omega)]
theorem kl_630 (hI : kInv w) (h : kIn sc x) : kGo t (xm_R sc xt_M (d + 40) 328 630 [.retAddr 5000, .ref 0, .ref 191, .ref 204, .int x, v5, v6, v7, v8] [] (xem w l t)) sc d x := by
  obtain ⟨w1, l1, t1, w2, l2, k, v, e1, e2, e3, e4, e5, e6⟩ := kb_304 (w := w) (l := l) (t := t) (sc := sc) (d := d) (a := sc.2 (x + 1).toNatClampNeg) (x := sc.2 (x + 2).toNatClampNeg) hI
  refine ⟨w2, l2, t1, .int k, .int v, v7, v8, ?_, e5, e6⟩
  rw [yb_328_630 (by omega), if_pos ⟨rfl, h.1⟩, if_pos ⟨rfl, h.2.1⟩, e1, zbs, xk_I, if_pos ⟨rfl, h.1⟩, if_pos ⟨rfl, h.2.1⟩, if_pos xiM, e2, zbs, xk_I, if_pos xiM, zc_158, zbs, xk_I, if_pos e3]
  by_cases hk : k = 0
  · rw [if_pos hk, xaL0, zbs, if_pos (by rw [e4 hk]; exact lg_self), yb_328_695 (by omega)]
  · rw [if_neg hk, yb_328_695 (by omega)]
theorem kl_698 (hI : kInv w) (h : kIn sc x) : kGo t (xm_R sc xt_M (d + 40) 328 698 [.retAddr 5000, .ref 0, .ref 191, .ref 204, .int x, v5, v6, v7, v8] [] (xem w l t)) sc d x := by
  obtain ⟨w1, l1, t1, w2, l2, k, v, e1, e2, e3, e4, e5, e6⟩ := kb_305 (w := w) (l := l) (t := t) (sc := sc) (d := d) (a := sc.2 (x + 1).toNatClampNeg) (x := sc.2 (x + 2).toNatClampNeg) hI
  refine ⟨w2, l2, t1, .int k, .int v, v7, v8, ?_, e5, e6⟩
  rw [yb_328_698 (by omega), if_pos ⟨rfl, h.1⟩, if_pos ⟨rfl, h.2.1⟩, e1, zbs, xk_I, if_pos ⟨rfl, h.1⟩, if_pos ⟨rfl, h.2.1⟩, if_pos xiM, e2, zbs, xk_I, if_pos xiM, zc_158, zbs, xk_I, if_pos e3]
  by_cases hk : k = 0
  · rw [if_pos hk, xaL0, zbs, if_pos (by rw [e4 hk]; exact lg_self), yb_328_763 (by omega)]
  · rw [if_neg hk, yb_328_763 (by omega)]
theorem kl_766 (hI : kInv w) (h : kIn sc x) : kGo t (xm_R sc xt_M (d + 40) 328 766 [.retAddr 5000, .ref 0, .ref 191, .ref 204, .int x, v5, v6, v7, v8] [] (xem w l t)) sc d x := by
  obtain ⟨w1, l1, t1, w2, l2, k, v, e1, e2, e3, e4, e5, e6⟩ := kb_306 (w := w) (l := l) (t := t) (sc := sc) (d := d) (a := sc.2 (x + 1).toNatClampNeg) (x := sc.2 (x + 2).toNatClampNeg) (y := sc.2 (x + 3).toNatClampNeg) hI
  refine ⟨w2, l2, t1, .int k, .int v, v7, v8, ?_, e5, e6⟩
  rw [yb_328_766 (by omega), if_pos ⟨rfl, h.1⟩, if_pos ⟨rfl, h.2.1⟩, if_pos ⟨rfl, h.2.2.1⟩, e1, zbs, xk_I, if_pos ⟨rfl, h.1⟩, if_pos ⟨rfl, h.2.1⟩, if_pos ⟨rfl, h.2.2.1⟩, if_pos xiM, e2, zbs, xk_I, if_pos xiM, zc_158, zbs, xk_I, if_pos e3]
  by_cases hk : k = 0
  · rw [if_pos hk, xaL0, zbs, if_pos (by rw [e4 hk]; exact lg_self), yb_328_843 (by omega)]
  · rw [if_neg hk, yb_328_843 (by omega)]
theorem kl_846 (hI : kInv w) (h : kIn sc x) : kGo t (xm_R sc xt_M (d + 40) 328 846 [.retAddr 5000, .ref 0, .ref 191, .ref 204, .int x, v5, v6, v7, v8] [] (xem w l t)) sc d x := by
  obtain ⟨w1, l1, t1, w2, l2, k, v, e1, e2, e3, e4, e5, e6⟩ := kb_307 (w := w) (l := l) (t := t) (sc := sc) (d := d) (a := sc.2 (x + 1).toNatClampNeg) (x := sc.2 (x + 2).toNatClampNeg) hI
  refine ⟨w2, l2, t1, .int k, .int v, v7, v8, ?_, e5, e6⟩
  rw [yb_328_846 (by omega), if_pos ⟨rfl, h.1⟩, if_pos ⟨rfl, h.2.1⟩, e1, zbs, xk_I, if_pos ⟨rfl, h.1⟩, if_pos ⟨rfl, h.2.1⟩, if_pos xiM, e2, zbs, xk_I, if_pos xiM, zc_158, zbs, xk_I, if_pos e3]
  by_cases hk : k = 0
  · rw [if_pos hk, xaL0, zbs, if_pos (by rw [e4 hk]; exact lg_self), yb_328_911 (by omega)]
  · rw [if_neg hk, yb_328_911 (by omega)]
theorem kl_914 (hI : kInv w) (h : kIn sc x) : kGo t (xm_R sc xt_M (d + 40) 328 914 [.retAddr 5000, .ref 0, .ref 191, .ref 204, .int x, v5, v6, v7, v8] [] (xem w l t)) sc d x := by
  obtain ⟨w1, l1, t1, w2, l2, v, e1, e2, e5, e6⟩ := ke_119 (w := w) (l := l) (t := t) (sc := sc) (d := d) (x := sc.2 (x + 1).toNatClampNeg) hI
  refine ⟨w2, l2, t1, v5, v6, v7, v8, ?_, e5, e6⟩
  rw [yb_328_914 (by omega), if_pos ⟨rfl, h.1⟩, if_pos xiA, e1, zbs, xk_I, if_pos ⟨rfl, h.1⟩, if_pos xiM, e2, zbs, xk_I, if_pos rfl]
theorem kl_939 (hI : kInv w) (h : kIn sc x) : kGo t (xm_R sc xt_M (d + 40) 328 939 [.retAddr 5000, .ref 0, .ref 191, .ref 204, .int x, v5, v6, v7, v8] [] (xem w l t)) sc d x := by
  obtain ⟨w1, l1, t1, w2, l2, k, v, e1, e2, e3, e4, e5, e6⟩ := kb_308 (w := w) (l := l) (t := t) (sc := sc) (d := d) (a := sc.2 (x + 1).toNatClampNeg) (x := sc.2 (x + 2).toNatClampNeg) hI
  refine ⟨w2, l2, t1, .int k, .int v, v7, v8, ?_, e5, e6⟩
  rw [yb_328_939 (by omega), if_pos ⟨rfl, h.1⟩, if_pos ⟨rfl, h.2.1⟩, e1, zbs, xk_I, if_pos ⟨rfl, h.1⟩, if_pos ⟨rfl, h.2.1⟩, if_pos xiM, e2, zbs, xk_I, if_pos xiM, zc_158, zbs, xk_I, if_pos e3]
  by_cases hk : k = 0
  · rw [if_pos hk, xaL0, zbs, if_pos (by rw [e4 hk]; exact lg_self), yb_328_1004 (by omega)]
  · rw [if_neg hk, yb_328_1004 (by omega)]
theorem kl_1007 (hI : kInv w) (h : kIn sc x) : kGo t (xm_R sc xt_M (d + 40) 328 1007 [.retAddr 5000, .ref 0, .ref 191, .ref 204, .int x, v5, v6, v7, v8] [] (xem w l t)) sc d x := by
  obtain ⟨w1, l1, t1, w2, l2, k, v, e1, e2, e3, e4, e5, e6⟩ := kb_309 (w := w) (l := l) (t := t) (sc := sc) (d := d) (a := sc.2 (x + 1).toNatClampNeg) (x := sc.2 (x + 2).toNatClampNeg) hI
  refine ⟨w2, l2, t1, .int k, .int v, v7, v8, ?_, e5, e6⟩
  rw [yb_328_1007 (by omega), if_pos ⟨rfl, h.1⟩, if_pos ⟨rfl, h.2.1⟩, e1, zbs, xk_I, if_pos ⟨rfl, h.1⟩, if_pos ⟨rfl, h.2.1⟩, if_pos xiM, e2, zbs, xk_I, if_pos xiM, zc_158, zbs, xk_I, if_pos e3]
  by_cases hk : k = 0
  · rw [if_pos hk, xaL0, zbs]
    by_cases hv : v = 0
    · rw [if_pos hv, if_pos (by rw [(e4 hk).1, hv]; exact lg_self), yb_328_1079 (by omega)]
    · rw [if_neg hv, if_pos (by rw [(e4 hk).1, (e4 hk).2.resolve_left hv]; exact lg_self), yb_328_1079 (by omega)]
  · rw [if_neg hk, yb_328_1079 (by omega)]
theorem kl_1082 (hI : kInv w) (h : kIn sc x) : kGo t (xm_R sc xt_M (d + 40) 328 1082 [.retAddr 5000, .ref 0, .ref 191, .ref 204, .int x, v5, v6, v7, v8] [] (xem w l t)) sc d x := by
  obtain ⟨w1, l1, t1, w2, l2, k, v, e1, e2, e3, e4, e5, e6⟩ := kb_310 (w := w) (l := l) (t := t) (sc := sc) (d := d) (a := sc.2 (x + 1).toNatClampNeg) (x := sc.2 (x + 2).toNatClampNeg) hI
  refine ⟨w2, l2, t1, .int k, .int v, v7, v8, ?_, e5, e6⟩
  rw [yb_328_1082 (by omega), if_pos ⟨rfl, h.1⟩, if_pos ⟨rfl, h.2.1⟩, e1, zbs, xk_I, if_pos ⟨rfl, h.1⟩, if_pos ⟨rfl, h.2.1⟩, if_pos xiM, e2, zbs, xk_I, if_pos xiM, zc_158, zbs, xk_I, if_pos e3]
  by_cases hk : k = 0
  · rw [if_pos hk, xaL0, zbs, if_pos (by rw [e4 hk]; exact lg_self), yb_328_1147 (by omega)]
  · rw [if_neg hk, yb_328_1147 (by omega)]
theorem kl_1150 (hI : kInv w) (h : kIn sc x) : kGo t (xm_R sc xt_M (d + 40) 328 1150 [.retAddr 5000, .ref 0, .ref 191, .ref 204, .int x, v5, v6, v7, v8] [] (xem w l t)) sc d x := by
  obtain ⟨w1, l1, t1, w2, l2, k, v, e1, e2, e3, e4, e5, e6⟩ := kb_311 (w := w) (l := l) (t := t) (sc := sc) (d := d) (a := sc.2 (x + 1).toNatClampNeg) (x := sc.2 (x + 2).toNatClampNeg) hI
  refine ⟨w2, l2, t1, .int k, .int v, v7, v8, ?_, e5, e6⟩
  rw [yb_328_1150 (by omega), if_pos ⟨rfl, h.1⟩, if_pos ⟨rfl, h.2.1⟩, e1, zbs, xk_I, if_pos ⟨rfl, h.1⟩, if_pos ⟨rfl, h.2.1⟩, if_pos xiM, e2, zbs, xk_I, if_pos xiM, zc_158, zbs, xk_I, if_pos e3]
  by_cases hk : k = 0
  · rw [if_pos hk, xaL0, zbs, if_pos (by rw [e4 hk]; exact lg_self), yb_328_1215 (by omega)]
  · rw [if_neg hk, yb_328_1215 (by omega)]
theorem kl_1218 (hI : kInv w) (h : kIn sc x) : kGo t (xm_R sc xt_M (d + 40) 328 1218 [.retAddr 5000, .ref 0, .ref 191, .ref 204, .int x, v5, v6, v7, v8] [] (xem w l t)) sc d x := by
  obtain ⟨w1, l1, t1, w2, l2, k, v, e1, e2, e3, e4, e5, e6⟩ := kb_312 (w := w) (l := l) (t := t) (sc := sc) (d := d) (a := sc.2 (x + 1).toNatClampNeg) hI
  refine ⟨w2, l2, t1, .int k, .int v, v7, v8, ?_, e5, e6⟩
  rw [yb_328_1218 (by omega), if_pos ⟨rfl, h.1⟩, e1, zbs, xk_I, if_pos ⟨rfl, h.1⟩, if_pos xiM, e2, zbs, xk_I, if_pos xiM, zc_158, zbs, xk_I, if_pos e3]
  by_cases hk : k = 0
  · rw [if_pos hk, xaL0, zbs, if_pos (by rw [e4 hk]; exact lg_self), yb_328_1271 (by omega)]
  · rw [if_neg hk, yb_328_1271 (by omega)]
theorem kl_1274 (hI : kInv w) (h : kIn sc x) : kGo t (xm_R sc xt_M (d + 40) 328 1274 [.retAddr 5000, .ref 0, .ref 191, .ref 204, .int x, v5, v6, v7, v8] [] (xem w l t)) sc d x := by
  obtain ⟨w1, l1, t1, w2, l2, k, v, e1, e2, e3, e4, e5, e6⟩ := kb_313 (w := w) (l := l) (t := t) (sc := sc) (d := d) (a := sc.2 (x + 1).toNatClampNeg) (x := sc.2 (x + 2).toNatClampNeg) hI
  refine ⟨w2, l2, t1, .int k, .int v, v7, v8, ?_, e5, e6⟩
  rw [yb_328_1274 (by omega), if_pos ⟨rfl, h.1⟩, if_pos ⟨rfl, h.2.1⟩, e1, zbs, xk_I, if_pos ⟨rfl, h.1⟩, if_pos ⟨rfl, h.2.1⟩, if_pos xiM, e2, zbs, xk_I, if_pos xiM, zc_158, zbs, xk_I, if_pos e3]
  by_cases hk : k = 0
  · rw [if_pos hk, xaL0, zbs, if_pos (by rw [e4 hk]; exact lg_self), yb_328_1339 (by omega)]
  · rw [if_neg hk, yb_328_1339 (by omega)]
theorem kl_1342 (hI : kInv w) (h : kIn sc x) : kGo t (xm_R sc xt_M (d + 40) 328 1342 [.retAddr 5000, .ref 0, .ref 191, .ref 204, .int x, v5, v6, v7, v8] [] (xem w l t)) sc d x := by
  obtain ⟨w1, l1, t1, w2, l2, k, v, e1, e2, e3, e4, e5, e6⟩ := kb_314 (w := w) (l := l) (t := t) (sc := sc) (d := d) (a := sc.2 (x + 1).toNatClampNeg) (x := sc.2 (x + 2).toNatClampNeg) (y := sc.2 (x + 3).toNatClampNeg) hI
  refine ⟨w2, l2, t1, .int k, .int v, v7, v8, ?_, e5, e6⟩
  rw [yb_328_1342 (by omega), if_pos ⟨rfl, h.1⟩, if_pos ⟨rfl, h.2.1⟩, if_pos ⟨rfl, h.2.2.1⟩, e1, zbs, xk_I, if_pos ⟨rfl, h.1⟩, if_pos ⟨rfl, h.2.1⟩, if_pos ⟨rfl, h.2.2.1⟩, if_pos xiM, e2, zbs, xk_I, if_pos xiM, zc_158, zbs, xk_I, if_pos e3]
  by_cases hk : k = 0
  · rw [if_pos hk, xaL0, zbs, if_pos (by rw [e4 hk]; exact lg_self), yb_328_1419 (by omega)]
  · rw [if_neg hk, yb_328_1419 (by omega)]
theorem kl_1422 (hI : kInv w) (h : kIn sc x) : kGo t (xm_R sc xt_M (d + 40) 328 1422 [.retAddr 5000, .ref 0, .ref 191, .ref 204, .int x, v5, v6, v7, v8] [] (xem w l t)) sc d x := by
  obtain ⟨w1, l1, t1, w2, l2, v, e1, e2, e5, e6⟩ := ke_127 (w := w) (l := l) (t := t) (sc := sc) (d := d)  hI
  refine ⟨w2, l2, t1, v5, v6, v7, v8, ?_, e5, e6⟩
  rw [yb_328_1422 (by omega), if_pos xiA, e1, zbs, xk_I, if_pos xiM, e2, zbs, xk_I, if_pos rfl]
theorem kl_1435 (hI : kInv w) (h : kIn sc x) : kGo t (xm_R sc xt_M (d + 40) 328 1435 [.retAddr 5000, .ref 0, .ref 191, .ref 204, .int x, v5, v6, v7, v8] [] (xem w l t)) sc d x := by
  obtain ⟨w1, l1, t1, w2, l2, v, e1, e2, e5, e6⟩ := ke_128 (w := w) (l := l) (t := t) (sc := sc) (d := d)  hI
  refine ⟨w2, l2, t1, v5, v6, v7, v8, ?_, e5, e6⟩
  rw [yb_328_1435 (by omega), if_pos xiA, e1, zbs, xk_I, if_pos xiM, e2, zbs, xk_I, if_pos rfl]
theorem kl_1448 (hI : kInv w) (h : kIn sc x) : kGo t (xm_R sc xt_M (d + 40) 328 1448 [.retAddr 5000, .ref 0, .ref 191, .ref 204, .int x, v5, v6, v7, v8] [] (xem w l t)) sc d x := by
  obtain ⟨w1, l1, t1, w2, l2, v, e1, e2, e5, e6⟩ := ke_129 (w := w) (l := l) (t := t) (sc := sc) (d := d)  hI
  refine ⟨w2, l2, t1, v5, v6, v7, v8, ?_, e5, e6⟩
  rw [yb_328_1448 (by omega), if_pos xiA, e1, zbs, xk_I, if_pos xiM, e2, zbs, xk_I, if_pos rfl]
theorem kl_1461 (hI : kInv w) (h : kIn sc x) : kGo t (xm_R sc xt_M (d + 40) 328 1461 [.retAddr 5000, .ref 0, .ref 191, .ref 204, .int x, v5, v6, v7, v8] [] (xem w l t)) sc d x := by
  obtain ⟨w1, l1, t1, w2, l2, v, e1, e2, e5, e6⟩ := ke_130 (w := w) (l := l) (t := t) (sc := sc) (d := d)  hI
  refine ⟨w2, l2, t1, v5, v6, v7, v8, ?_, e5, e6⟩
  rw [yb_328_1461 (by omega), if_pos xiA, e1, zbs, xk_I, if_pos xiM, e2, zbs, xk_I, if_pos rfl]
theorem kl_1474 (hI : kInv w) (h : kIn sc x) : kGo t (xm_R sc xt_M (d + 40) 328 1474 [.retAddr 5000, .ref 0, .ref 191, .ref 204, .int x, v5, v6, v7, v8] [] (xem w l t)) sc d x := by
  obtain ⟨v, w2, e1, e2, e3⟩ := ke_132 (w := w) (l := l) (t := t) (sc := sc) (d := d) hI
  refine ⟨w2, l, t, .double v, .null, .double v, .null, ?_, e3, Nat.le_succ t⟩
  rw [yb_328_1474 (by omega), if_pos xiA, e1, zbs, xk_D, if_pos xiM, e2, zbs, xk_D]
  by_cases hv : (Op.cmpValue (FP.dcmp v v) .l) = 0
  · rw [if_pos hv, yb_328_1512 (by omega)]
  · rw [if_neg hv, if_neg hv, if_neg hv, yb_328_1512 (by omega)]
theorem kl_1515 (hI : kInv w) (h : kIn sc x) : kGo t (xm_R sc xt_M (d + 40) 328 1515 [.retAddr 5000, .ref 0, .ref 191, .ref 204, .int x, v5, v6, v7, v8] [] (xem w l t)) sc d x := by
  obtain ⟨v, w2, e1, e2, e3, e4⟩ := ke_133 (w := w) (l := l) (t := t) (sc := sc) (d := d) hI
  refine ⟨w2, l, t, .double (FP.f2d v), .null, .double (FP.f2d v), .null, ?_, e3, Nat.le_succ t⟩
  rw [yb_328_1515 (by omega), if_pos xiA, e1, zbs, xk_F, if_pos e4, if_pos xiM, e2, zbs, xk_F, if_pos e4]
  by_cases hv : (Op.cmpValue (FP.dcmp (FP.f2d v) (FP.f2d v)) .l) = 0
  · rw [if_pos hv, yb_328_1555 (by omega)]
  · rw [if_neg hv, if_neg hv, if_neg hv, yb_328_1555 (by omega)]
theorem kl_1558 (hI : kInv w) (h : kIn sc x) : kGo t (xm_R sc xt_M (d + 40) 328 1558 [.retAddr 5000, .ref 0, .ref 191, .ref 204, .int x, v5, v6, v7, v8] [] (xem w l t)) sc d x := by
  obtain ⟨w1, l1, t1, w2, l2, k, v, e1, e2, e3, e4, e5, e6⟩ := kb_315 (w := w) (l := l) (t := t) (sc := sc) (d := d) (a := sc.2 (x + 1).toNatClampNeg) (x := sc.2 (x + 2).toNatClampNeg) (y := sc.2 (x + 3).toNatClampNeg) hI
  refine ⟨w2, l2, t1, .int k, .int v, v7, v8, ?_, e5, e6⟩
  rw [yb_328_1558 (by omega), if_pos ⟨rfl, h.1⟩, if_pos ⟨rfl, h.2.1⟩, if_pos ⟨rfl, h.2.2.1⟩, e1, zbs, xk_I, if_pos ⟨rfl, h.1⟩, if_pos ⟨rfl, h.2.1⟩, if_pos ⟨rfl, h.2.2.1⟩, if_pos xiM, e2, zbs, xk_I, if_pos xiM, zc_158, zbs, xk_I, if_pos e3]
  by_cases hk : k = 0
  · rw [if_pos hk, xaL0, zbs, if_pos (by rw [e4 hk]; exact lg_self), yb_328_1635 (by omega)]
  · rw [if_neg hk, yb_328_1635 (by omega)]
theorem kl_1638 (hI : kInv w) (h : kIn sc x) : kGo t (xm_R sc xt_M (d + 40) 328 1638 [.retAddr 5000, .ref 0, .ref 191, .ref 204, .int x, v5, v6, v7, v8] [] (xem w l t)) sc d x := by
  obtain ⟨w1, l1, t1, w2, l2, k, v, e1, e2, e3, e4, e5, e6⟩ := kb_316 (w := w) (l := l) (t := t) (sc := sc) (d := d) (a := sc.2 (x + 1).toNatClampNeg) (x := sc.2 (x + 2).toNatClampNeg) hI
  refine ⟨w2, l2, t1, .int k, .int v, v7, v8, ?_, e5, e6⟩
  rw [yb_328_1638 (by omega), if_pos ⟨rfl, h.1⟩, if_pos ⟨rfl, h.2.1⟩, e1, zbs, xk_I, if_pos ⟨rfl, h.1⟩, if_pos ⟨rfl, h.2.1⟩, if_pos xiM, e2, zbs, xk_I, if_pos xiM, zc_158, zbs, xk_I, if_pos e3]
  by_cases hk : k = 0
  · rw [if_pos hk, xaL0, zbs, if_pos (by rw [e4 hk]; exact lg_self), yb_328_1703 (by omega)]
  · rw [if_neg hk, yb_328_1703 (by omega)]
theorem kl_1706 (hI : kInv w) (h : kIn sc x) : kGo t (xm_R sc xt_M (d + 40) 328 1706 [.retAddr 5000, .ref 0, .ref 191, .ref 204, .int x, v5, v6, v7, v8] [] (xem w l t)) sc d x := by
  obtain ⟨w1, l1, t1, w2, l2, k, v, e1, e2, e3, e4, e5, e6⟩ := kb_317 (w := w) (l := l) (t := t) (sc := sc) (d := d) (a := sc.2 (x + 1).toNatClampNeg) hI
  refine ⟨w2, l2, t1, .int k, .int v, v7, v8, ?_, e5, e6⟩
  rw [yb_328_1706 (by omega), if_pos ⟨rfl, h.1⟩, e1, zbs, xk_I, if_pos ⟨rfl, h.1⟩, if_pos xiM, e2, zbs, xk_I, if_pos xiM, zc_158, zbs, xk_I, if_pos e3]
  by_cases hk : k = 0
  · rw [if_pos hk, xaL0, zbs, if_pos (by rw [e4 hk]; exact lg_self), yb_328_1759 (by omega)]
  · rw [if_neg hk, yb_328_1759 (by omega)]
theorem kl_1762 (hI : kInv w) (h : kIn sc x) : kGo t (xm_R sc xt_M (d + 40) 328 1762 [.retAddr 5000, .ref 0, .ref 191, .ref 204, .int x, v5, v6, v7, v8] [] (xem w l t)) sc d x := by
  obtain ⟨w1, l1, t1, w2, l2, k, v, e1, e2, e3, e4, e5, e6⟩ := kb_318 (w := w) (l := l) (t := t) (sc := sc) (d := d) (a := sc.2 (x + 1).toNatClampNeg) (x := sc.2 (x + 2).toNatClampNeg) hI
  refine ⟨w2, l2, t1, .int k, .int v, v7, v8, ?_, e5, e6⟩
  rw [yb_328_1762 (by omega), if_pos ⟨rfl, h.1⟩, if_pos ⟨rfl, h.2.1⟩, e1, zbs, xk_I, if_pos ⟨rfl, h.1⟩, if_pos ⟨rfl, h.2.1⟩, if_pos xiM, e2, zbs, xk_I, if_pos xiM, zc_158, zbs, xk_I, if_pos e3]
  by_cases hk : k = 0
  · rw [if_pos hk, xaL0, zbs, if_pos (by rw [e4 hk]; exact lg_self), yb_328_1827 (by omega)]
  · rw [if_neg hk, yb_328_1827 (by omega)]
theorem kl_1830 (hI : kInv w) (h : kIn sc x) : kGo t (xm_R sc xt_M (d + 40) 328 1830 [.retAddr 5000, .ref 0, .ref 191, .ref 204, .int x, v5, v6, v7, v8] [] (xem w l t)) sc d x := by
  obtain ⟨w1, l1, t1, w2, l2, k, v, e1, e2, e3, e4, e5, e6⟩ := kb_319 (w := w) (l := l) (t := t) (sc := sc) (d := d) (a := sc.2 (x + 1).toNatClampNeg) (x := sc.2 (x + 2).toNatClampNeg) hI
  refine ⟨w2, l2, t1, .int k, .int v, v7, v8, ?_, e5, e6⟩
  rw [yb_328_1830 (by omega), if_pos ⟨rfl, h.1⟩, if_pos ⟨rfl, h.2.1⟩, e1, zbs, xk_I, if_pos ⟨rfl, h.1⟩, if_pos ⟨rfl, h.2.1⟩, if_pos xiM, e2, zbs, xk_I, if_pos xiM, zc_158, zbs, xk_I, if_pos e3]
  by_cases hk : k = 0
  · rw [if_pos hk, xaL0, zbs, if_pos (by rw [e4 hk]; exact lg_self), yb_328_1895 (by omega)]
  · rw [if_neg hk, yb_328_1895 (by omega)]
theorem kl_1898 (hI : kInv w) (h : kIn sc x) : kGo t (xm_R sc xt_M (d + 40) 328 1898 [.retAddr 5000, .ref 0, .ref 191, .ref 204, .int x, v5, v6, v7, v8] [] (xem w l t)) sc d x := by
  obtain ⟨w1, l1, t1, w2, l2, k, v, e1, e2, e3, e4, e5, e6⟩ := kb_320 (w := w) (l := l) (t := t) (sc := sc) (d := d) (a := sc.2 (x + 1).toNatClampNeg) hI
  refine ⟨w2, l2, t1, .int k, .int v, v7, v8, ?_, e5, e6⟩
  rw [yb_328_1898 (by omega), if_pos ⟨rfl, h.1⟩, e1, zbs, xk_I, if_pos ⟨rfl, h.1⟩, if_pos xiM, e2, zbs, xk_I, if_pos xiM, zc_158, zbs, xk_I, if_pos e3]
  by_cases hk : k = 0
  · rw [if_pos hk, xaL0, zbs, if_pos (by rw [e4 hk]; exact lg_self), yb_328_1951 (by omega)]
  · rw [if_neg hk, yb_328_1951 (by omega)]
theorem kl_1954 (hI : kInv w) (h : kIn sc x) : kGo t (xm_R sc xt_M (d + 40) 328 1954 [.retAddr 5000, .ref 0, .ref 191, .ref 204, .int x, v5, v6, v7, v8] [] (xem w l t)) sc d x := by
  obtain ⟨w1, l1, t1, w2, l2, k, v, e1, e2, e3, e4, e5, e6⟩ := kb_321 (w := w) (l := l) (t := t) (sc := sc) (d := d) (a := sc.2 (x + 1).toNatClampNeg) (x := sc.2 (x + 2).toNatClampNeg) hI
  refine ⟨w2, l2, t1, .int k, .int v, v7, v8, ?_, e5, e6⟩
  rw [yb_328_1954 (by omega), if_pos ⟨rfl, h.1⟩, if_pos ⟨rfl, h.2.1⟩, e1, zbs, xk_I, if_pos ⟨rfl, h.1⟩, if_pos ⟨rfl, h.2.1⟩, if_pos xiM, e2, zbs, xk_I, if_pos xiM, zc_158, zbs, xk_I, if_pos e3]
  by_cases hk : k = 0
  · rw [if_pos hk, xaL0, zbs, if_pos (by rw [e4 hk]; exact lg_self), yb_328_2019 (by omega)]
  · rw [if_neg hk, yb_328_2019 (by omega)]
theorem kl_2022 (hI : kInv w) (h : kIn sc x) : kGo t (xm_R sc xt_M (d + 40) 328 2022 [.retAddr 5000, .ref 0, .ref 191, .ref 204, .int x, v5, v6, v7, v8] [] (xem w l t)) sc d x := by
  obtain ⟨w1, l1, t1, w2, l2, k, v, e1, e2, e3, e4, e5, e6⟩ := kb_322 (w := w) (l := l) (t := t) (sc := sc) (d := d) (a := sc.2 (x + 1).toNatClampNeg) hI
  refine ⟨w2, l2, t1, .int k, .int v, v7, v8, ?_, e5, e6⟩
  rw [yb_328_2022 (by omega), if_pos ⟨rfl, h.1⟩, e1, zbs, xk_I, if_pos ⟨rfl, h.1⟩, if_pos xiM, e2, zbs, xk_I, if_pos xiM, zc_158, zbs, xk_I, if_pos e3]
  by_cases hk : k = 0
  · rw [if_pos hk, xaL0, zbs, if_pos (by rw [e4 hk]; exact lg_self), yb_328_2075 (by omega)]
  · rw [if_neg hk, yb_328_2075 (by omega)]
theorem kl_2078 (hI : kInv w) (h : kIn sc x) : kGo t (xm_R sc xt_M (d + 40) 328 2078 [.retAddr 5000, .ref 0, .ref 191, .ref 204, .int x, v5, v6, v7, v8] [] (xem w l t)) sc d x := by
  obtain ⟨w1, l1, t1, w2, l2, k, v, e1, e2, e3, e4, e5, e6⟩ := kb_323 (w := w) (l := l) (t := t) (sc := sc) (d := d) (a := sc.2 (x + 1).toNatClampNeg) hI
  refine ⟨w2, l2, t1, .int k, .int v, v7, v8, ?_, e5, e6⟩
  rw [yb_328_2078 (by omega), if_pos ⟨rfl, h.1⟩, e1, zbs, xk_I, if_pos ⟨rfl, h.1⟩, if_pos xiM, e2, zbs, xk_I, if_pos xiM, zc_158, zbs, xk_I, if_pos e3]
  by_cases hk : k = 0
  · rw [if_pos hk, xaL0, zbs, if_pos (by rw [e4 hk]; exact lg_self), yb_328_2131 (by omega)]
  · rw [if_neg hk, yb_328_2131 (by omega)]
theorem kl_2134 (hI : kInv w) (h : kIn sc x) : kGo t (xm_R sc xt_M (d + 40) 328 2134 [.retAddr 5000, .ref 0, .ref 191, .ref 204, .int x, v5, v6, v7, v8] [] (xem w l t)) sc d x := by
  obtain ⟨w1, l1, t1, w2, l2, k, v, e1, e2, e3, e4, e5, e6⟩ := kb_324 (w := w) (l := l) (t := t) (sc := sc) (d := d) (a := sc.2 (x + 1).toNatClampNeg) hI
  refine ⟨w2, l2, t1, .int k, .int v, v7, v8, ?_, e5, e6⟩
  rw [yb_328_2134 (by omega), if_pos ⟨rfl, h.1⟩, e1, zbs, xk_I, if_pos ⟨rfl, h.1⟩, if_pos xiM, e2, zbs, xk_I, if_pos xiM, zc_158, zbs, xk_I, if_pos e3]
  by_cases hk : k = 0
  · rw [if_pos hk, xaL0, zbs, if_pos (by rw [e4 hk]; exact lg_self), yb_328_2187 (by omega)]
  · rw [if_neg hk, yb_328_2187 (by omega)]
theorem kl_2190 (hI : kInv w) (h : kIn sc x) : kGo t (xm_R sc xt_M (d + 40) 328 2190 [.retAddr 5000, .ref 0, .ref 191, .ref 204, .int x, v5, v6, v7, v8] [] (xem w l t)) sc d x := by
  obtain ⟨w1, l1, t1, w2, l2, k, v, e1, e2, e3, e4, e5, e6⟩ := kb_325 (w := w) (l := l) (t := t) (sc := sc) (d := d) (a := sc.2 (x + 1).toNatClampNeg) hI
  refine ⟨w2, l2, t1, .int k, .int v, v7, v8, ?_, e5, e6⟩
  rw [yb_328_2190 (by omega), if_pos ⟨rfl, h.1⟩, e1, zbs, xk_I, if_pos ⟨rfl, h.1⟩, if_pos xiM, e2, zbs, xk_I, if_pos xiM, zc_158, zbs, xk_I, if_pos e3]
  by_cases hk : k = 0
  · rw [if_pos hk, xaL0, zbs, if_pos (by rw [e4 hk]; exact lg_self), yb_328_2243 (by omega)]
  · rw [if_neg hk, yb_328_2243 (by omega)]
theorem kl_2246 (hI : kInv w) (h : kIn sc x) : kGo t (xm_R sc xt_M (d + 40) 328 2246 [.retAddr 5000, .ref 0, .ref 191, .ref 204, .int x, v5, v6, v7, v8] [] (xem w l t)) sc d x := by
  obtain ⟨w1, l1, t1, w2, l2, k, v, e1, e2, e3, e4, e5, e6⟩ := kb_326 (w := w) (l := l) (t := t) (sc := sc) (d := d) (a := sc.2 (x + 1).toNatClampNeg) hI
  refine ⟨w2, l2, t1, .int k, .int v, v7, v8, ?_, e5, e6⟩
  rw [yb_328_2246 (by omega), if_pos ⟨rfl, h.1⟩, e1, zbs, xk_I, if_pos ⟨rfl, h.1⟩, if_pos xiM, e2, zbs, xk_I, if_pos xiM, zc_158, zbs, xk_I, if_pos e3]
  by_cases hk : k = 0
  · rw [if_pos hk, xaL0, zbs, if_pos (by rw [e4 hk]; exact lg_self), yb_328_2299 (by omega)]
  · rw [if_neg hk, yb_328_2299 (by omega)]
theorem kl_2302 (hI : kInv w) (h : kIn sc x) : kGo t (xm_R sc xt_M (d + 40) 328 2302 [.retAddr 5000, .ref 0, .ref 191, .ref 204, .int x, v5, v6, v7, v8] [] (xem w l t)) sc d x := by
  obtain ⟨w1, l1, t1, w2, l2, v, e1, e2, e5, e6⟩ := ke_146 (w := w) (l := l) (t := t) (sc := sc) (d := d) (x := sc.2 (x + 1).toNatClampNeg) hI
  refine ⟨w2, l2, t1, v5, v6, v7, v8, ?_, e5, e6⟩
  rw [yb_328_2302 (by omega), if_pos ⟨rfl, h.1⟩, if_pos xiA, e1, zbs, xk_I, if_pos ⟨rfl, h.1⟩, if_pos xiM, e2, zbs, xk_I, if_pos rfl]
theorem kl_2327 (hI : kInv w) (h : kIn sc x) : kGo t (xm_R sc xt_M (d + 40) 328 2327 [.retAddr 5000, .ref 0, .ref 191, .ref 204, .int x, v5, v6, v7, v8] [] (xem w l t)) sc d x := by
  obtain ⟨w1, l1, t1, w2, l2, v, e1, e2, e5, e6⟩ := ke_147 (w := w) (l := l) (t := t) (sc := sc) (d := d)  hI
  refine ⟨w2, l2, t1, v5, v6, v7, v8, ?_, e5, e6⟩
  rw [yb_328_2327 (by omega), if_pos xiA, e1, zbs, xk_I, if_pos xiM, e2, zbs, xk_I, if_pos rfl]
theorem kl_2340 (hI : kInv w) (h : kIn sc x) : kGo t (xm_R sc xt_M (d + 40) 328 2340 [.retAddr 5000, .ref 0, .ref 191, .ref 204, .int x, v5, v6, v7, v8] [] (xem w l t)) sc d x := by
  obtain ⟨w1, l1, t1, w2, l2, v, e1, e2, e5, e6⟩ := ke_148 (w := w) (l := l) (t := t) (sc := sc) (d := d)  hI
  refine ⟨w2, l2, t1, v5, v6, v7, v8, ?_, e5, e6⟩
  rw [yb_328_2340 (by omega), if_pos xiA, e1, zbs, xk_I, if_pos xiM, e2, zbs, xk_I, if_pos rfl]
theorem kl_2353 (hI : kInv w) (h : kIn sc x) : kGo t (xm_R sc xt_M (d + 40) 328 2353 [.retAddr 5000, .ref 0, .ref 191, .ref 204, .int x, v5, v6, v7, v8] [] (xem w l t)) sc d x := by
  obtain ⟨w1, l1, t1, w2, l2, e1, e2, e5, e6⟩ := ke_149 (w := w) (l := l) (t := t) (sc := sc) (d := d) hI
  refine ⟨w2, l2, t1, v5, v6, v7, v8, ?_, e5, e6⟩
  rw [yb_328_2353 (by omega), if_pos xiA, e1, zbs, xk_v, if_pos xiM, e2, zbs, xk_v]
theorem kl_2364 (hI : kInv w) (h : kIn sc x) : kGo t (xm_R sc xt_M (d + 40) 328 2364 [.retAddr 5000, .ref 0, .ref 191, .ref 204, .int x, v5, v6, v7, v8] [] (xem w l t)) sc d x := by
  obtain ⟨w1, l1, t1, w2, l2, v, e1, e2, e5, e6⟩ := ke_150 (w := w) (l := l) (t := t) (sc := sc) (d := d)  hI
  refine ⟨w2, l2, t1, v5, v6, v7, v8, ?_, e5, e6⟩
  rw [yb_328_2364 (by omega), if_pos xiA, e1, zbs, xk_I, if_pos xiM, e2, zbs, xk_I, if_pos rfl]
theorem kl_2377 (hI : kInv w) (h : kIn sc x) : kGo t (xm_R sc xt_M (d + 40) 328 2377 [.retAddr 5000, .ref 0, .ref 191, .ref 204, .int x, v5, v6, v7, v8] [] (xem w l t)) sc d x := by
  obtain ⟨w1, l1, t1, w2, l2, k, v, e1, e2, e3, e4, e5, e6⟩ := kb_327 (w := w) (l := l) (t := t) (sc := sc) (d := d) (x := sc.2 (x + 1).toNatClampNeg) hI
  refine ⟨w2, l2, t1, .int k, .int v, v7, v8, ?_, e5, e6⟩
  rw [yb_328_2377 (by omega), if_pos ⟨rfl, h.1⟩, e1, zbs, xk_I, if_pos ⟨rfl, h.1⟩, if_pos xiM, e2, zbs, xk_I, if_pos xiM, zc_158, zbs, xk_I, if_pos e3]
  by_cases hk : k = 0
  · rw [if_pos hk, xaL0, zbs, if_pos (by rw [e4 hk]; exact lg_self), yb_328_2430 (by omega)]
  · rw [if_neg hk, yb_328_2430 (by omega)]
end LC
