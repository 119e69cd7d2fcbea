/-! THE LAW's helpers -/
def lo (l : Nat → Nat → Int64) (v : Int32) : Nat → Nat → Int64 := fun a => if a = 0 then vp_updL (l 0) 0 v.toInt64 else l a
theorem lo_0 {l : Nat → Nat → Int64} {v : Int32} : lo l v 0 0 = v.toInt64 := rfl
section LH
variable {w w1 : xW} {l : Nat → Nat → Int64} {t t1 : Nat} {sc : xm_Sc} {d : Nat}
theorem xaL0 : xm_aL (xem w l t) 204 0 = some (l 0 0) := by
  rw [xaL_0, show (0 : Int32) = nI 0 from rfl, if_pos (xin (show 0 < 1 by omega) (by decide)), nI_clamp (by omega)]
theorem xwL0 {v : Int32} : xm_wL (xem w l t) 204 0 v.toInt64 = some (xem w (lo l v) t) := by
  rw [xwL_0, show (0 : Int32) = nI 0 from rfl, if_pos (xin (show 0 < 1 by omega) (by decide)), nI_clamp (by omega)]
  rfl
theorem kSm_K (h : kKeep w w1) : kSm w w1 := ⟨fun g h0 _ h6 => h.1 g h6 h0, fun i _ => by rw [h.2.1], h.2.2 0 (by omega), h.2.2 2 (by omega), fun i _ => by rw [h.1 3 (by omega) (by omega)], fun a _ => by rw [h.1 3 (by omega) (by omega)], fun i _ => by rw [h.1 3 (by omega) (by omega)]⟩
theorem kSm_T {x : Int32} : kSm w (xT w x) := ⟨fun g _ h3 _ => xu_ne h3, fun i _ => by rw [show xT w x 0 = w 0 from xu_ne (by omega)], by rw [show xT w x 0 = w 0 from xu_ne (by omega)], by rw [show xT w x 0 = w 0 from xu_ne (by omega)], fun i hi => xTl_1 (by omega), fun a _ => by rw [xTl_2], fun i _ => by rw [xTl_2]⟩
theorem kSm_P (h : xKp w w1) : kSm w w1 := ⟨fun g _ h3 _ => h.1 g h3, fun i _ => by rw [h.1 0 (by omega)], by rw [h.1 0 (by omega)], by rw [h.1 0 (by omega)], fun i hi => h.2.1 i (by omega) (by omega), fun a ha => h.2.2.1 a (by omega) (by omega) (by omega) (by omega), h.2.2.2⟩
theorem kSm_M {x : Int32} {f j : Nat → Int32} (h0 : (w 3).1 0 = 0) : kSm w (xMw (xT w x) (xR w) f j) := by
  have eri : xri (xT w x 3) = 0 := by
    unfold xri
    rw [xTl_1 (by omega), if_pos h0]
  have e0 : xri (w 3) = 0 := by
    unfold xri
    rw [if_pos h0]
  have eR : xR w = (w 3).2 0 := by
    unfold xR
    rw [e0]
  have ne : ∀ g, g ≠ 3 → xMw (xT w x) (xR w) f j g = w g := fun g h => (xMw_ne h).trans (xu_ne h)
  refine ⟨fun g _ h3 _ => ne g h3, fun i _ => by rw [ne 0 (by omega)], by rw [ne 0 (by omega)], by rw [ne 0 (by omega)], fun i hi => by rw [xMw_2, xTl_1 (by omega)], fun a ha => ?_, fun i _ => ?_⟩
  · rw [xMw_3]
    unfold xMg
    rw [eri]
    show (if a = 6 then j else if a = 5 then f else if a = 0 then xR w else (xT w x 3).2 a) = _
    rw [if_neg (by omega), if_neg (by omega), if_neg (by omega), xTl_2]
  · rw [xMw_3]
    unfold xMg
    rw [eri]
    show xR w i = _
    rw [eR]
theorem kh_299 {x0 v : Int32} (h : xm_C sc xt_M d 109 [.ref 0, .int x0] (xem w l t) = some (.inl (some (.int v)), xem w1 l t)) : xm_C sc xt_M (d + 1) 299 [.ref 0, .int x0, .ref 204] (xem w l t) = some (.inl (some (.int 0)), xem w1 (lo l v) t) := by
  rw [yc_299, if_pos xiA, h, zbs, xk_I, xwL0, zbs]
theorem kh_299_1 {x0 : Int32} (h : xm_C sc xt_M d 109 [.ref 0, .int x0] (xem w l t) = some (.inr 1, xem w l t1)) : xm_C sc xt_M (d + 1) 299 [.ref 0, .int x0, .ref 204] (xem w l t) = some (.inl (some (.int 1)), xem w l t1) := by
  rw [yc_299, if_pos xiA, h, zbs, xk_Ix]
  exact yb_299_13
theorem kh_300 {x0 v : Int32} (h : xm_C sc xt_M d 111 [.ref 0, .int x0] (xem w l t) = some (.inl (some (.int v)), xem w1 l t)) : xm_C sc xt_M (d + 1) 300 [.ref 0, .int x0, .ref 204] (xem w l t) = some (.inl (some (.int 0)), xem w1 (lo l v) t) := by
  rw [yc_300, if_pos xiA, h, zbs, xk_I, xwL0, zbs]
theorem kh_300_1 {x0 : Int32} (h : xm_C sc xt_M d 111 [.ref 0, .int x0] (xem w l t) = some (.inr 0, xem w l t1)) : xm_C sc xt_M (d + 1) 300 [.ref 0, .int x0, .ref 204] (xem w l t) = some (.inl (some (.int 1)), xem w l t1) := by
  rw [yc_300, if_pos xiA, h, zbs, xk_Ix]
  exact yb_300_13
theorem kh_301 {x0 x1 v : Int32} (h : xm_C sc xt_M d 112 [.ref 0, .int x0, .int x1] (xem w l t) = some (.inl (some (.int v)), xem w1 l t)) : xm_C sc xt_M (d + 1) 301 [.ref 0, .int x0, .int x1, .ref 204] (xem w l t) = some (.inl (some (.int 0)), xem w1 (lo l v) t) := by
  rw [yc_301, if_pos xiA, h, zbs, xk_I, xwL0, zbs]
theorem kh_301_1 {x0 x1 : Int32} (h : xm_C sc xt_M d 112 [.ref 0, .int x0, .int x1] (xem w l t) = some (.inr 0, xem w l t1)) : xm_C sc xt_M (d + 1) 301 [.ref 0, .int x0, .int x1, .ref 204] (xem w l t) = some (.inl (some (.int 1)), xem w l t1) := by
  rw [yc_301, if_pos xiA, h, zbs, xk_Ix]
  exact yb_301_15
theorem kh_302 {x0 x1 v : Int32} (h : xm_C sc xt_M d 113 [.ref 0, .int x0, .int x1] (xem w l t) = some (.inl (some (.int v)), xem w1 l t)) : xm_C sc xt_M (d + 1) 302 [.ref 0, .int x0, .int x1, .ref 204] (xem w l t) = some (.inl (some (.int 0)), xem w1 (lo l v) t) := by
  rw [yc_302, if_pos xiA, h, zbs, xk_I, xwL0, zbs]
theorem kh_302_1 {x0 x1 : Int32} (h : xm_C sc xt_M d 113 [.ref 0, .int x0, .int x1] (xem w l t) = some (.inr 0, xem w l t1)) : xm_C sc xt_M (d + 1) 302 [.ref 0, .int x0, .int x1, .ref 204] (xem w l t) = some (.inl (some (.int 1)), xem w l t1) := by
  rw [yc_302, if_pos xiA, h, zbs, xk_Ix]
  exact yb_302_15
theorem kh_303 {x0 x1 v : Int32} (h : xm_C sc xt_M d 114 [.ref 0, .int x0, .int x1] (xem w l t) = some (.inl (some (.int v)), xem w1 l t)) : xm_C sc xt_M (d + 1) 303 [.ref 0, .int x0, .int x1, .ref 204] (xem w l t) = some (.inl (some (.int 0)), xem w1 (lo l v) t) := by
  rw [yc_303, if_pos xiA, h, zbs, xk_I, xwL0, zbs]
theorem kh_303_1 {x0 x1 : Int32} (h : xm_C sc xt_M d 114 [.ref 0, .int x0, .int x1] (xem w l t) = some (.inr 0, xem w l t1)) : xm_C sc xt_M (d + 1) 303 [.ref 0, .int x0, .int x1, .ref 204] (xem w l t) = some (.inl (some (.int 1)), xem w l t1) := by
  rw [yc_303, if_pos xiA, h, zbs, xk_Ix]
  exact yb_303_15
theorem kh_304 {x0 x1 v : Int32} (h : xm_C sc xt_M d 115 [.ref 0, .int x0, .int x1] (xem w l t) = some (.inl (some (.int v)), xem w1 l t)) : xm_C sc xt_M (d + 1) 304 [.ref 0, .int x0, .int x1, .ref 204] (xem w l t) = some (.inl (some (.int 0)), xem w1 (lo l v) t) := by
  rw [yc_304, if_pos xiA, h, zbs, xk_I, xwL0, zbs]
theorem kh_304_1 {x0 x1 : Int32} (h : xm_C sc xt_M d 115 [.ref 0, .int x0, .int x1] (xem w l t) = some (.inr 0, xem w l t1)) : xm_C sc xt_M (d + 1) 304 [.ref 0, .int x0, .int x1, .ref 204] (xem w l t) = some (.inl (some (.int 1)), xem w l t1) := by
  rw [yc_304, if_pos xiA, h, zbs, xk_Ix]
  exact yb_304_15
theorem kh_305 {x0 x1 v : Int32} (h : xm_C sc xt_M d 116 [.ref 0, .int x0, .int x1] (xem w l t) = some (.inl (some (.int v)), xem w1 l t)) : xm_C sc xt_M (d + 1) 305 [.ref 0, .int x0, .int x1, .ref 204] (xem w l t) = some (.inl (some (.int 0)), xem w1 (lo l v) t) := by
  rw [yc_305, if_pos xiA, h, zbs, xk_I, xwL0, zbs]
theorem kh_305_1 {x0 x1 : Int32} (h : xm_C sc xt_M d 116 [.ref 0, .int x0, .int x1] (xem w l t) = some (.inr 0, xem w l t1)) : xm_C sc xt_M (d + 1) 305 [.ref 0, .int x0, .int x1, .ref 204] (xem w l t) = some (.inl (some (.int 1)), xem w l t1) := by
  rw [yc_305, if_pos xiA, h, zbs, xk_Ix]
  exact yb_305_15
theorem kh_306 {x0 x1 x2 v : Int32} (h : xm_C sc xt_M d 117 [.ref 0, .int x0, .int x1, .int x2] (xem w l t) = some (.inl (some (.int v)), xem w1 l t)) : xm_C sc xt_M (d + 1) 306 [.ref 0, .int x0, .int x1, .int x2, .ref 204] (xem w l t) = some (.inl (some (.int 0)), xem w1 (lo l v) t) := by
  rw [yc_306, if_pos xiA, h, zbs, xk_I, xwL0, zbs]
theorem kh_306_1 {x0 x1 x2 : Int32} (h : xm_C sc xt_M d 117 [.ref 0, .int x0, .int x1, .int x2] (xem w l t) = some (.inr 0, xem w l t1)) : xm_C sc xt_M (d + 1) 306 [.ref 0, .int x0, .int x1, .int x2, .ref 204] (xem w l t) = some (.inl (some (.int 1)), xem w l t1) := by
  rw [yc_306, if_pos xiA, h, zbs, xk_Ix]
  exact yb_306_17
theorem kh_307 {x0 x1 v : Int32} (h : xm_C sc xt_M d 118 [.ref 0, .int x0, .int x1] (xem w l t) = some (.inl (some (.int v)), xem w1 l t)) : xm_C sc xt_M (d + 1) 307 [.ref 0, .int x0, .int x1, .ref 204] (xem w l t) = some (.inl (some (.int 0)), xem w1 (lo l v) t) := by
  rw [yc_307, if_pos xiA, h, zbs, xk_I, xwL0, zbs]
theorem kh_307_1 {x0 x1 : Int32} (h : xm_C sc xt_M d 118 [.ref 0, .int x0, .int x1] (xem w l t) = some (.inr 0, xem w l t1)) : xm_C sc xt_M (d + 1) 307 [.ref 0, .int x0, .int x1, .ref 204] (xem w l t) = some (.inl (some (.int 1)), xem w l t1) := by
  rw [yc_307, if_pos xiA, h, zbs, xk_Ix]
  exact yb_307_15
theorem kh_308 {x0 x1 v : Int32} (h : xm_C sc xt_M d 120 [.ref 0, .int x0, .int x1] (xem w l t) = some (.inl (some (.int v)), xem w1 l t)) : xm_C sc xt_M (d + 1) 308 [.ref 0, .int x0, .int x1, .ref 204] (xem w l t) = some (.inl (some (.int 0)), xem w1 (lo l v) t) := by
  rw [yc_308, if_pos xiA, h, zbs, xk_I, xwL0, zbs]
theorem kh_308_1 {x0 x1 : Int32} (h : xm_C sc xt_M d 120 [.ref 0, .int x0, .int x1] (xem w l t) = some (.inr 0, xem w l t1)) : xm_C sc xt_M (d + 1) 308 [.ref 0, .int x0, .int x1, .ref 204] (xem w l t) = some (.inl (some (.int 1)), xem w l t1) := by
  rw [yc_308, if_pos xiA, h, zbs, xk_Ix]
  exact yb_308_15
theorem kh_310 {x0 x1 v : Int32} (h : xm_C sc xt_M d 122 [.ref 0, .int x0, .int x1] (xem w l t) = some (.inl (some (.int v)), xem w1 l t)) : xm_C sc xt_M (d + 1) 310 [.ref 0, .int x0, .int x1, .ref 204] (xem w l t) = some (.inl (some (.int 0)), xem w1 (lo l v) t) := by
  rw [yc_310, if_pos xiA, h, zbs, xk_I, xwL0, zbs]
theorem kh_310_1 {x0 x1 : Int32} (h : xm_C sc xt_M d 122 [.ref 0, .int x0, .int x1] (xem w l t) = some (.inr 0, xem w l t1)) : xm_C sc xt_M (d + 1) 310 [.ref 0, .int x0, .int x1, .ref 204] (xem w l t) = some (.inl (some (.int 1)), xem w l t1) := by
  rw [yc_310, if_pos xiA, h, zbs, xk_Ix]
  exact yb_310_15
theorem kh_311 {x0 x1 v : Int32} (h : xm_C sc xt_M d 123 [.ref 0, .int x0, .int x1] (xem w l t) = some (.inl (some (.int v)), xem w1 l t)) : xm_C sc xt_M (d + 1) 311 [.ref 0, .int x0, .int x1, .ref 204] (xem w l t) = some (.inl (some (.int 0)), xem w1 (lo l v) t) := by
  rw [yc_311, if_pos xiA, h, zbs, xk_I, xwL0, zbs]
theorem kh_311_1 {x0 x1 : Int32} (h : xm_C sc xt_M d 123 [.ref 0, .int x0, .int x1] (xem w l t) = some (.inr 0, xem w l t1)) : xm_C sc xt_M (d + 1) 311 [.ref 0, .int x0, .int x1, .ref 204] (xem w l t) = some (.inl (some (.int 1)), xem w l t1) := by
  rw [yc_311, if_pos xiA, h, zbs, xk_Ix]
  exact yb_311_15
theorem kh_312 {x0 v : Int32} (h : xm_C sc xt_M d 124 [.ref 0, .int x0] (xem w l t) = some (.inl (some (.int v)), xem w1 l t)) : xm_C sc xt_M (d + 1) 312 [.ref 0, .int x0, .ref 204] (xem w l t) = some (.inl (some (.int 0)), xem w1 (lo l v) t) := by
  rw [yc_312, if_pos xiA, h, zbs, xk_I, xwL0, zbs]
theorem kh_312_1 {x0 : Int32} (h : xm_C sc xt_M d 124 [.ref 0, .int x0] (xem w l t) = some (.inr 0, xem w l t1)) : xm_C sc xt_M (d + 1) 312 [.ref 0, .int x0, .ref 204] (xem w l t) = some (.inl (some (.int 1)), xem w l t1) := by
  rw [yc_312, if_pos xiA, h, zbs, xk_Ix]
  exact yb_312_13
theorem kh_313 {x0 x1 v : Int32} (h : xm_C sc xt_M d 125 [.ref 0, .int x0, .int x1] (xem w l t) = some (.inl (some (.int v)), xem w1 l t)) : xm_C sc xt_M (d + 1) 313 [.ref 0, .int x0, .int x1, .ref 204] (xem w l t) = some (.inl (some (.int 0)), xem w1 (lo l v) t) := by
  rw [yc_313, if_pos xiA, h, zbs, xk_I, xwL0, zbs]
theorem kh_313_1 {x0 x1 : Int32} (h : xm_C sc xt_M d 125 [.ref 0, .int x0, .int x1] (xem w l t) = some (.inr 0, xem w l t1)) : xm_C sc xt_M (d + 1) 313 [.ref 0, .int x0, .int x1, .ref 204] (xem w l t) = some (.inl (some (.int 1)), xem w l t1) := by
  rw [yc_313, if_pos xiA, h, zbs, xk_Ix]
  exact yb_313_15
theorem kh_314 {x0 x1 x2 v : Int32} (h : xm_C sc xt_M d 126 [.ref 0, .int x0, .int x1, .int x2] (xem w l t) = some (.inl (some (.int v)), xem w1 l t)) : xm_C sc xt_M (d + 1) 314 [.ref 0, .int x0, .int x1, .int x2, .ref 204] (xem w l t) = some (.inl (some (.int 0)), xem w1 (lo l v) t) := by
  rw [yc_314, if_pos xiA, h, zbs, xk_I, xwL0, zbs]
theorem kh_314_1 {x0 x1 x2 : Int32} (h : xm_C sc xt_M d 126 [.ref 0, .int x0, .int x1, .int x2] (xem w l t) = some (.inr 0, xem w l t1)) : xm_C sc xt_M (d + 1) 314 [.ref 0, .int x0, .int x1, .int x2, .ref 204] (xem w l t) = some (.inl (some (.int 1)), xem w l t1) := by
  rw [yc_314, if_pos xiA, h, zbs, xk_Ix]
  exact yb_314_17
theorem kh_314_2 {x0 x1 x2 : Int32} (h : xm_C sc xt_M d 126 [.ref 0, .int x0, .int x1, .int x2] (xem w l t) = some (.inr 1, xem w l t1)) : xm_C sc xt_M (d + 1) 314 [.ref 0, .int x0, .int x1, .int x2, .ref 204] (xem w l t) = some (.inl (some (.int 2)), xem w l t1) := by
  rw [yc_314, if_pos xiA, h, zbs, xk_Ix]
  exact yb_314_21
theorem kh_315 {x0 x1 x2 v : Int32} (h : xm_C sc xt_M d 134 [.ref 0, .int x0, .int x1, .int x2] (xem w l t) = some (.inl (some (.int v)), xem w1 l t)) : xm_C sc xt_M (d + 1) 315 [.ref 0, .int x0, .int x1, .int x2, .ref 204] (xem w l t) = some (.inl (some (.int 0)), xem w1 (lo l v) t) := by
  rw [yc_315, if_pos xiA, h, zbs, xk_I, xwL0, zbs]
theorem kh_315_1 {x0 x1 x2 : Int32} (h : xm_C sc xt_M d 134 [.ref 0, .int x0, .int x1, .int x2] (xem w l t) = some (.inr 0, xem w l t1)) : xm_C sc xt_M (d + 1) 315 [.ref 0, .int x0, .int x1, .int x2, .ref 204] (xem w l t) = some (.inl (some (.int 1)), xem w l t1) := by
  rw [yc_315, if_pos xiA, h, zbs, xk_Ix]
  exact yb_315_17
theorem kh_315_2 {x0 x1 x2 : Int32} (h : xm_C sc xt_M d 134 [.ref 0, .int x0, .int x1, .int x2] (xem w l t) = some (.inr 1, xem w l t1)) : xm_C sc xt_M (d + 1) 315 [.ref 0, .int x0, .int x1, .int x2, .ref 204] (xem w l t) = some (.inl (some (.int 2)), xem w l t1) := by
  rw [yc_315, if_pos xiA, h, zbs, xk_Ix]
  exact yb_315_21
theorem kh_316 {x0 x1 v : Int32} (h : xm_C sc xt_M d 135 [.ref 0, .int x0, .int x1] (xem w l t) = some (.inl (some (.int v)), xem w1 l t)) : xm_C sc xt_M (d + 1) 316 [.ref 0, .int x0, .int x1, .ref 204] (xem w l t) = some (.inl (some (.int 0)), xem w1 (lo l v) t) := by
  rw [yc_316, if_pos xiA, h, zbs, xk_I, xwL0, zbs]
theorem kh_316_1 {x0 x1 : Int32} (h : xm_C sc xt_M d 135 [.ref 0, .int x0, .int x1] (xem w l t) = some (.inr 0, xem w l t1)) : xm_C sc xt_M (d + 1) 316 [.ref 0, .int x0, .int x1, .ref 204] (xem w l t) = some (.inl (some (.int 1)), xem w l t1) := by
  rw [yc_316, if_pos xiA, h, zbs, xk_Ix]
  exact yb_316_15
theorem kh_317 {x0 v : Int32} (h : xm_C sc xt_M d 136 [.ref 0, .int x0] (xem w l t) = some (.inl (some (.int v)), xem w1 l t)) : xm_C sc xt_M (d + 1) 317 [.ref 0, .int x0, .ref 204] (xem w l t) = some (.inl (some (.int 0)), xem w1 (lo l v) t) := by
  rw [yc_317, if_pos xiA, h, zbs, xk_I, xwL0, zbs]
theorem kh_317_1 {x0 : Int32} (h : xm_C sc xt_M d 136 [.ref 0, .int x0] (xem w l t) = some (.inr 0, xem w l t1)) : xm_C sc xt_M (d + 1) 317 [.ref 0, .int x0, .ref 204] (xem w l t) = some (.inl (some (.int 1)), xem w l t1) := by
  rw [yc_317, if_pos xiA, h, zbs, xk_Ix]
  exact yb_317_13
theorem kh_318 {x0 x1 v : Int32} (h : xm_C sc xt_M d 137 [.ref 0, .int x0, .int x1] (xem w l t) = some (.inl (some (.int v)), xem w1 l t)) : xm_C sc xt_M (d + 1) 318 [.ref 0, .int x0, .int x1, .ref 204] (xem w l t) = some (.inl (some (.int 0)), xem w1 (lo l v) t) := by
  rw [yc_318, if_pos xiA, h, zbs, xk_I, xwL0, zbs]
theorem kh_318_1 {x0 x1 : Int32} (h : xm_C sc xt_M d 137 [.ref 0, .int x0, .int x1] (xem w l t) = some (.inr 0, xem w l t1)) : xm_C sc xt_M (d + 1) 318 [.ref 0, .int x0, .int x1, .ref 204] (xem w l t) = some (.inl (some (.int 1)), xem w l t1) := by
  rw [yc_318, if_pos xiA, h, zbs, xk_Ix]
  exact yb_318_15
theorem kh_319 {x0 x1 v : Int32} (h : xm_C sc xt_M d 138 [.ref 0, .int x0, .int x1] (xem w l t) = some (.inl (some (.int v)), xem w1 l t)) : xm_C sc xt_M (d + 1) 319 [.ref 0, .int x0, .int x1, .ref 204] (xem w l t) = some (.inl (some (.int 0)), xem w1 (lo l v) t) := by
  rw [yc_319, if_pos xiA, h, zbs, xk_I, xwL0, zbs]
theorem kh_319_1 {x0 x1 : Int32} (h : xm_C sc xt_M d 138 [.ref 0, .int x0, .int x1] (xem w l t) = some (.inr 0, xem w l t1)) : xm_C sc xt_M (d + 1) 319 [.ref 0, .int x0, .int x1, .ref 204] (xem w l t) = some (.inl (some (.int 1)), xem w l t1) := by
  rw [yc_319, if_pos xiA, h, zbs, xk_Ix]
  exact yb_319_15
theorem kh_320 {x0 v : Int32} (h : xm_C sc xt_M d 139 [.ref 0, .int x0] (xem w l t) = some (.inl (some (.int v)), xem w1 l t)) : xm_C sc xt_M (d + 1) 320 [.ref 0, .int x0, .ref 204] (xem w l t) = some (.inl (some (.int 0)), xem w1 (lo l v) t) := by
  rw [yc_320, if_pos xiA, h, zbs, xk_I, xwL0, zbs]
theorem kh_320_1 {x0 : Int32} (h : xm_C sc xt_M d 139 [.ref 0, .int x0] (xem w l t) = some (.inr 0, xem w l t1)) : xm_C sc xt_M (d + 1) 320 [.ref 0, .int x0, .ref 204] (xem w l t) = some (.inl (some (.int 1)), xem w l t1) := by
  rw [yc_320, if_pos xiA, h, zbs, xk_Ix]
  exact yb_320_13
theorem kh_321 {x0 x1 v : Int32} (h : xm_C sc xt_M d 140 [.ref 0, .int x0, .int x1] (xem w l t) = some (.inl (some (.int v)), xem w1 l t)) : xm_C sc xt_M (d + 1) 321 [.ref 0, .int x0, .int x1, .ref 204] (xem w l t) = some (.inl (some (.int 0)), xem w1 (lo l v) t) := by
  rw [yc_321, if_pos xiA, h, zbs, xk_I, xwL0, zbs]
theorem kh_321_1 {x0 x1 : Int32} (h : xm_C sc xt_M d 140 [.ref 0, .int x0, .int x1] (xem w l t) = some (.inr 0, xem w l t1)) : xm_C sc xt_M (d + 1) 321 [.ref 0, .int x0, .int x1, .ref 204] (xem w l t) = some (.inl (some (.int 1)), xem w l t1) := by
  rw [yc_321, if_pos xiA, h, zbs, xk_Ix]
  exact yb_321_15
theorem kh_322 {x0 v : Int32} (h : xm_C sc xt_M d 141 [.ref 0, .int x0] (xem w l t) = some (.inl (some (.int v)), xem w1 l t)) : xm_C sc xt_M (d + 1) 322 [.ref 0, .int x0, .ref 204] (xem w l t) = some (.inl (some (.int 0)), xem w1 (lo l v) t) := by
  rw [yc_322, if_pos xiA, h, zbs, xk_I, xwL0, zbs]
theorem kh_322_1 {x0 : Int32} (h : xm_C sc xt_M d 141 [.ref 0, .int x0] (xem w l t) = some (.inr 0, xem w l t1)) : xm_C sc xt_M (d + 1) 322 [.ref 0, .int x0, .ref 204] (xem w l t) = some (.inl (some (.int 1)), xem w l t1) := by
  rw [yc_322, if_pos xiA, h, zbs, xk_Ix]
  exact yb_322_13
theorem kh_323 {x0 v : Int32} (h : xm_C sc xt_M d 142 [.ref 0, .int x0] (xem w l t) = some (.inl (some (.int v)), xem w1 l t)) : xm_C sc xt_M (d + 1) 323 [.ref 0, .int x0, .ref 204] (xem w l t) = some (.inl (some (.int 0)), xem w1 (lo l v) t) := by
  rw [yc_323, if_pos xiA, h, zbs, xk_I, xwL0, zbs]
theorem kh_323_1 {x0 : Int32} (h : xm_C sc xt_M d 142 [.ref 0, .int x0] (xem w l t) = some (.inr 0, xem w l t1)) : xm_C sc xt_M (d + 1) 323 [.ref 0, .int x0, .ref 204] (xem w l t) = some (.inl (some (.int 1)), xem w l t1) := by
  rw [yc_323, if_pos xiA, h, zbs, xk_Ix]
  exact yb_323_13
theorem kh_324 {x0 v : Int32} (h : xm_C sc xt_M d 143 [.ref 0, .int x0] (xem w l t) = some (.inl (some (.int v)), xem w1 l t)) : xm_C sc xt_M (d + 1) 324 [.ref 0, .int x0, .ref 204] (xem w l t) = some (.inl (some (.int 0)), xem w1 (lo l v) t) := by
  rw [yc_324, if_pos xiA, h, zbs, xk_I, xwL0, zbs]
theorem kh_324_1 {x0 : Int32} (h : xm_C sc xt_M d 143 [.ref 0, .int x0] (xem w l t) = some (.inr 1, xem w l t1)) : xm_C sc xt_M (d + 1) 324 [.ref 0, .int x0, .ref 204] (xem w l t) = some (.inl (some (.int 1)), xem w l t1) := by
  rw [yc_324, if_pos xiA, h, zbs, xk_Ix]
  exact yb_324_13
theorem kh_325 {x0 v : Int32} (h : xm_C sc xt_M d 144 [.ref 0, .int x0] (xem w l t) = some (.inl (some (.int v)), xem w1 l t)) : xm_C sc xt_M (d + 1) 325 [.ref 0, .int x0, .ref 204] (xem w l t) = some (.inl (some (.int 0)), xem w1 (lo l v) t) := by
  rw [yc_325, if_pos xiA, h, zbs, xk_I, xwL0, zbs]
theorem kh_325_1 {x0 : Int32} (h : xm_C sc xt_M d 144 [.ref 0, .int x0] (xem w l t) = some (.inr 1, xem w l t1)) : xm_C sc xt_M (d + 1) 325 [.ref 0, .int x0, .ref 204] (xem w l t) = some (.inl (some (.int 1)), xem w l t1) := by
  rw [yc_325, if_pos xiA, h, zbs, xk_Ix]
  exact yb_325_13
theorem kh_326 {x0 v : Int32} (h : xm_C sc xt_M d 145 [.ref 0, .int x0] (xem w l t) = some (.inl (some (.int v)), xem w1 l t)) : xm_C sc xt_M (d + 1) 326 [.ref 0, .int x0, .ref 204] (xem w l t) = some (.inl (some (.int 0)), xem w1 (lo l v) t) := by
  rw [yc_326, if_pos xiA, h, zbs, xk_I, xwL0, zbs]
theorem kh_326_1 {x0 : Int32} (h : xm_C sc xt_M d 145 [.ref 0, .int x0] (xem w l t) = some (.inr 0, xem w l t1)) : xm_C sc xt_M (d + 1) 326 [.ref 0, .int x0, .ref 204] (xem w l t) = some (.inl (some (.int 1)), xem w l t1) := by
  rw [yc_326, if_pos xiA, h, zbs, xk_Ix]
  exact yb_326_13
theorem kh_327 {x0 v : Int32} (h : xm_C sc xt_M d 151 [.ref 0, .int x0] (xem w l t) = some (.inl (some (.int v)), xem w1 l t)) : xm_C sc xt_M (d + 1) 327 [.ref 0, .int x0, .ref 204] (xem w l t) = some (.inl (some (.int 0)), xem w1 (lo l v) t) := by
  rw [yc_327, if_pos xiA, h, zbs, xk_I, xwL0, zbs]
theorem kh_327_1 {x0 : Int32} (h : xm_C sc xt_M d 151 [.ref 0, .int x0] (xem w l t) = some (.inr 1, xem w l t1)) : xm_C sc xt_M (d + 1) 327 [.ref 0, .int x0, .ref 204] (xem w l t) = some (.inl (some (.int 1)), xem w l t1) := by
  rw [yc_327, if_pos xiA, h, zbs, xk_Ix]
  exact yb_327_13
theorem kh_309 {x0 x1 v : Int32} (hv : v = 0 ∨ v = 1) (h : xm_C sc xt_M d 121 [.ref 0, .int x0, .int x1] (xem w l t) = some (.inl (some (.int v)), xem w1 l t)) : xm_C sc xt_M (d + 1) 309 [.ref 0, .int x0, .int x1, .ref 204] (xem w l t) = some (.inl (some (.int 0)), xem w1 (lo l v) t) := by
  rw [yc_309, if_pos xiA, h, zbs, xk_I]
  rcases hv with rfl | rfl
  · have := @xwL0 w1 l t 0
    rw [show (0 : Int32).toInt64 = 0 from rfl] at this
    rw [if_pos rfl, this, zbs]
  · have := @xwL0 w1 l t 1
    rw [show (1 : Int32).toInt64 = 1 from rfl] at this
    rw [if_neg (by decide), this, zbs]
theorem kh_309_1 {x0 x1 : Int32} (h : xm_C sc xt_M d 121 [.ref 0, .int x0, .int x1] (xem w l t) = some (.inr 0, xem w l t1)) : xm_C sc xt_M (d + 1) 309 [.ref 0, .int x0, .int x1, .ref 204] (xem w l t) = some (.inl (some (.int 1)), xem w l t1) := by
  rw [yc_309, if_pos xiA, h, zbs, xk_Ix]
  exact yb_309_22
end LH
