/-! a row for each block, by program (wip/p46/mk14.py) -/
set_option maxRecDepth 4000 in
theorem yb_142_0 {sc : xm_Sc} {d : Nat} {h0 : Nat} {i1 : Int32} {v2 : Value} {v3 : Value} {S : xm_PS}  : xm_R sc xt_M d 142 0 [.ref h0, .int i1, v2, v3] [] S = if xm_isO S (.ref h0) 7 = true then ((xm_C sc xt_M d 154 [.ref h0, .int i1] S).bind fun o2 => xm_r0 o2 (fun S1 => (xm_gR S1 h0 7 5).bind fun n3 => if xm_isO S1 (.ref n3) 4 = true then ((xm_C sc xt_M d 60 [.ref n3, .int i1] S1).bind fun o5 => xm_rI o5 (fun n6 S4 => (if n6 = 0 then (xm_gR S4 h0 7 11).bind fun n7 => (xm_gR S4 h0 7 5).bind fun n8 => if xm_isO S4 (.ref n7) 0 = true then ((xm_C sc xt_M d 2 [.ref n7, .ref n8] S4).bind fun o10 => xm_r0 o10 (fun S9 => (xm_gR S9 h0 7 5).bind fun n11 => (xm_gR S9 h0 7 5).bind fun n12 => (xm_gI S9 n12 4 3).bind fun n13 => if xm_isO S9 (.ref n11) 4 = true then ((xm_C sc xt_M d 55 [.ref n11, .int (n13 ||| (1 <<< (i1 &&& 31)))] S9).bind fun o15 => xm_r0 o15 (fun S14 => xm_R sc xt_M d 142 52 [.ref h0, .int i1, .int 0, .int 0] [] S14) (fun e S => some (.inr e, S))) else none) (fun e S => some (.inr e, S))) else none else some (.inl (some (.int (-2))), S4))) (fun e S => some (.inr e, S))) else none) (fun e S => some (.inr e, S))) else none := by
  refine yt_142_0.trans ?_
  simp only [yt_142_1, yt_142_2, yt_142_5, yt_142_6, yt_142_9, yt_142_10, yt_142_13, yt_142_16, yt_142_18, yt_142_19, yt_142_20, yt_142_23, yt_142_24, yt_142_27, yt_142_30, yt_142_31, yt_142_34, yt_142_35, yt_142_38, yt_142_41, yt_142_42, yt_142_43, yt_142_44, yt_142_45, yt_142_48, yt_142_49, yt_142_50, yt_142_51, xe_T, xk_xf, xl_A0, xl_I1, xp_I, xp_R, xp_RS, xq_c0, xr_0, xr_1, List.set_cons_zero, List.set_cons_succ, List.cons_append, List.nil_append, Nat.reduceAdd]
set_option maxRecDepth 4000 in
theorem yb_142_52 {sc : xm_Sc} {d : Nat} {h0 : Nat} {i1 : Int32} {i2 : Int32} {i3 : Int32} {S : xm_PS}  : xm_R sc xt_M d 142 52 [.ref h0, .int i1, .int i2, .int i3] [] S = (xm_gR S h0 7 5).bind fun n1 => (xm_gR S n1 4 0).bind fun n2 => (xm_gI S n2 2 2).bind fun n3 => (if n3 ≤ i3 then some (.inl (some (.int i2)), S) else (xm_gR S h0 7 5).bind fun n4 => if xm_isO S (.ref n4) 4 = true then ((xm_C sc xt_M d 63 [.ref n4, .int i3, .int 0, .int i1] S).bind fun o6 => xm_rI o6 (fun n7 S5 => (if n7 = 0 then xm_R sc xt_M d 142 94 [.ref h0, .int i1, .int i2, .int i3] [] S5 else (xm_gR S5 h0 7 5).bind fun n8 => if xm_isO S5 (.ref n8) 4 = true then ((xm_C sc xt_M d 67 [.ref n8, .int i3] S5).bind fun o10 => xm_rI o10 (fun n11 S9 => (if n11 = i1 then xm_R sc xt_M d 142 94 [.ref h0, .int i1, .int (i2 + 1), .int i3] [] S9 else xm_R sc xt_M d 142 94 [.ref h0, .int i1, .int i2, .int i3] [] S9)) (fun e S => some (.inr e, S))) else none)) (fun e S => some (.inr e, S))) else none) := by
  refine yt_142_52.trans ?_
  simp only [yt_142_53, yt_142_54, yt_142_57, yt_142_60, yt_142_63, yt_142_66, yt_142_67, yt_142_70, yt_142_71, yt_142_72, yt_142_73, yt_142_76, yt_142_79, yt_142_80, yt_142_83, yt_142_84, yt_142_87, yt_142_88, yt_142_91, yt_142_100, yt_142_101, xe_T, xk_xf, xl_A0, xl_I1, xl_I2, xl_I3, xp_I, xp_R, xp_RS, xq_c0, xr_1, List.set_cons_zero, List.set_cons_succ, List.cons_append, List.nil_append, Nat.reduceAdd]
set_option maxRecDepth 4000 in
theorem yb_142_94 {sc : xm_Sc} {d : Nat} {h0 : Nat} {i1 : Int32} {i2 : Int32} {i3 : Int32} {S : xm_PS}  : xm_R sc xt_M d 142 94 [.ref h0, .int i1, .int i2, .int i3] [] S = xm_R sc xt_M d 142 52 [.ref h0, .int i1, .int i2, .int (i3 + 1)] [] S := by
  refine yt_142_94.trans ?_
  simp only [yt_142_97, xl_I3, List.set_cons_zero, List.set_cons_succ]
set_option maxRecDepth 4000 in
theorem yb_143_0 {sc : xm_Sc} {d : Nat} {h0 : Nat} {i1 : Int32} {v2 : Value} {S : xm_PS}  : xm_R sc xt_M d 143 0 [.ref h0, .int i1, v2] [] S = (xm_C sc xt_M d 156 [.int i1, .int 1, .int 50] S).bind fun o2 => xm_r0 o2 (fun S1 => (xm_gR S1 h0 7 11).bind fun n3 => (xm_gR S1 h0 7 5).bind fun n4 => if xm_isO S1 (.ref n3) 0 = true then ((xm_C sc xt_M d 2 [.ref n3, .ref n4] S1).bind fun o6 => xm_r0 o6 (fun S5 => (xm_gR S5 h0 7 5).bind fun n7 => (xm_gI S5 n7 4 2).bind fun n8 => (xm_gR S5 h0 7 5).bind fun n9 => (xm_sF S5 n9 4 2 (.int i1)).bind fun S10 => some (.inl (some (.int n8)), S10)) (fun e S => some (.inr e, S))) else none) (fun e S => some (.inr e, S)) := by
  refine yt_143_0.trans ?_
  simp only [yt_143_1, yt_143_2, yt_143_4, yt_143_7, yt_143_8, yt_143_11, yt_143_12, yt_143_15, yt_143_18, yt_143_19, yt_143_22, yt_143_25, yt_143_26, yt_143_27, yt_143_30, yt_143_31, yt_143_34, yt_143_35, xe_T, xk_xf, xl_A0, xl_I1, xl_I2, xp_I, xp_R, xp_RS, xq_c0, xr_0, List.set_cons_zero, List.set_cons_succ, List.cons_append, List.nil_append, Nat.reduceAdd]
set_option maxRecDepth 4000 in
theorem yb_144_0 {sc : xm_Sc} {d : Nat} {h0 : Nat} {i1 : Int32} {v2 : Value} {v3 : Value} {S : xm_PS}  : xm_R sc xt_M d 144 0 [.ref h0, .int i1, v2, v3] [] S = (xm_C sc xt_M d 156 [.int i1, .int 1, .int 99] S).bind fun o2 => xm_r0 o2 (fun S1 => (xm_gR S1 h0 7 5).bind fun n3 => (xm_gI S1 n3 4 1).bind fun n4 => (if (n4 + i1) ≤ 9999 then (xm_gR S1 h0 7 11).bind fun n5 => (xm_gR S1 h0 7 5).bind fun n6 => if xm_isO S1 (.ref n5) 0 = true then ((xm_C sc xt_M d 2 [.ref n5, .ref n6] S1).bind fun o8 => xm_r0 o8 (fun S7 => xm_R sc xt_M d 144 40 [.ref h0, .int i1, .int 0, .int 0] [] S7) (fun e S => some (.inr e, S))) else none else some (.inl (some (.int (-2))), S1))) (fun e S => some (.inr e, S)) := by
  refine yt_144_0.trans ?_
  simp only [yt_144_1, yt_144_2, yt_144_4, yt_144_7, yt_144_8, yt_144_11, yt_144_14, yt_144_15, yt_144_16, yt_144_19, yt_144_22, yt_144_24, yt_144_25, yt_144_26, yt_144_29, yt_144_30, yt_144_33, yt_144_36, yt_144_37, yt_144_38, yt_144_39, xe_T, xk_xf, xl_A0, xl_I1, xp_I, xp_R, xp_RS, xq_c0, xr_0, List.set_cons_zero, List.set_cons_succ, List.cons_append, List.nil_append, Nat.reduceAdd]
set_option maxRecDepth 4000 in
theorem yb_144_40 {sc : xm_Sc} {d : Nat} {h0 : Nat} {i1 : Int32} {i2 : Int32} {i3 : Int32} {S : xm_PS}  : xm_R sc xt_M d 144 40 [.ref h0, .int i1, .int i2, .int i3] [] S = (if i1 ≤ i3 then some (.inl (some (.int i2)), S) else (xm_gR S h0 7 5).bind fun n1 => (xm_C sc xt_M d 76 [.ref n1] S).bind fun o3 => xm_rI o3 (fun n4 S2 => xm_R sc xt_M d 144 40 [.ref h0, .int i1, .int (i2 + n4), .int (i3 + 1)] [] S2) (fun e S => some (.inr e, S))) := by
  refine yt_144_40.trans ?_
  simp only [yt_144_41, yt_144_42, yt_144_45, yt_144_46, yt_144_47, yt_144_50, yt_144_53, yt_144_54, yt_144_55, yt_144_58, yt_144_61, yt_144_62, xe_T, xk_xf, xl_A0, xl_I1, xl_I2, xl_I3, xp_I, xp_R, xq_c1, xr_1, List.set_cons_zero, List.set_cons_succ, List.cons_append, List.nil_append, Nat.reduceAdd]
set_option maxRecDepth 4000 in
theorem yb_145_0 {sc : xm_Sc} {d : Nat} {h0 : Nat} {i1 : Int32} {S : xm_PS}  : xm_R sc xt_M d 145 0 [.ref h0, .int i1] [] S = if xm_isO S (.ref h0) 7 = true then ((xm_C sc xt_M d 152 [.ref h0, .int i1] S).bind fun o2 => xm_r0 o2 (fun S1 => (xm_gR S1 h0 7 4).bind fun n3 => (xm_gR S1 h0 7 5).bind fun n4 => if xm_isO S1 (.ref n3) 1 = true then ((xm_C sc xt_M d 12 [.ref n3, .ref n4, .int i1] S1).bind fun o6 => xm_r0 o6 (fun S5 => (xm_gR S5 h0 7 4).bind fun n7 => (xm_gI S5 n7 1 0).bind fun n8 => some (.inl (some (.int n8)), S5)) (fun e S => some (.inr e, S))) else none) (fun e S => some (.inr e, S))) else none := by
  refine yt_145_0.trans ?_
  simp only [yt_145_1, yt_145_2, yt_145_5, yt_145_6, yt_145_9, yt_145_10, yt_145_13, yt_145_14, yt_145_17, yt_145_18, yt_145_21, yt_145_24, xe_T, xk_xf, xl_A0, xl_I1, xp_I, xp_R, xp_RS, xq_c0, xr_0, List.cons_append, List.nil_append, Nat.reduceAdd]
set_option maxRecDepth 4000 in
theorem yb_146_0 {sc : xm_Sc} {d : Nat} {h0 : Nat} {i1 : Int32} {S : xm_PS}  : xm_R sc xt_M d 146 0 [.ref h0, .int i1] [] S = (if i1 < 0 then xm_R sc xt_M d 146 15 [.ref h0, .int i1] [] S else (xm_gR S h0 7 4).bind fun n1 => (xm_gI S n1 1 0).bind fun n2 => (if i1 < n2 then (xm_gR S h0 7 4).bind fun n3 => (xm_gR S n3 1 1).bind fun n4 => (xm_aI S n4 1 i1).bind fun n5 => some (.inl (some (.int n5)), S) else xm_R sc xt_M d 146 15 [.ref h0, .int i1] [] S)) := by
  refine yt_146_0.trans ?_
  simp only [yt_146_1, yt_146_4, yt_146_5, yt_146_6, yt_146_9, yt_146_12, yt_146_19, yt_146_20, yt_146_23, yt_146_26, yt_146_27, yt_146_28, xe_T, xl_A0, xl_I1, xp_I, xp_R]
set_option maxRecDepth 4000 in
theorem yb_146_15 {sc : xm_Sc} {d : Nat} {h0 : Nat} {i1 : Int32} {S : xm_PS}  : xm_R sc xt_M d 146 15 [.ref h0, .int i1] [] S = some (.inl (some (.int (-1))), S) := by
  refine yt_146_15.trans ?_
  simp only [yt_146_16, yt_146_28, xe_T, xp_I]
set_option maxRecDepth 4000 in
theorem yb_147_0 {sc : xm_Sc} {d : Nat} {h0 : Nat} {S : xm_PS}  : xm_R sc xt_M d 147 0 [.ref h0] [] S = (xm_gR S h0 7 11).bind fun n1 => (xm_gI S n1 0 0).bind fun n2 => some (.inl (some (.int n2)), S) := by
  refine yt_147_0.trans ?_
  simp only [yt_147_1, yt_147_4, yt_147_7, xe_T, xl_A0, xp_I, xp_R]
set_option maxRecDepth 4000 in
theorem yb_148_0 {sc : xm_Sc} {d : Nat} {h0 : Nat} {S : xm_PS}  : xm_R sc xt_M d 148 0 [.ref h0] [] S = (xm_gR S h0 7 11).bind fun n1 => (xm_gI S n1 0 0).bind fun n2 => (if n2 = 0 then some (.inl (some (.int (-1))), S) else (xm_gR S h0 7 11).bind fun n3 => (xm_gR S h0 7 5).bind fun n4 => if xm_isO S (.ref n3) 0 = true then ((xm_C sc xt_M d 3 [.ref n3, .ref n4] S).bind fun o6 => xm_r0 o6 (fun S5 => (xm_gR S5 h0 7 11).bind fun n7 => (xm_gI S5 n7 0 0).bind fun n8 => some (.inl (some (.int n8)), S5)) (fun e S => some (.inr e, S))) else none) := by
  refine yt_148_0.trans ?_
  simp only [yt_148_1, yt_148_4, yt_148_7, yt_148_10, yt_148_11, yt_148_12, yt_148_13, yt_148_16, yt_148_17, yt_148_20, yt_148_23, yt_148_24, yt_148_27, yt_148_30, xe_T, xk_xf, xl_A0, xp_I, xp_R, xp_RS, xq_c0, xr_0, List.cons_append, List.nil_append, Nat.reduceAdd]
set_option maxRecDepth 4000 in
theorem yb_149_0 {sc : xm_Sc} {d : Nat} {h0 : Nat} {S : xm_PS}  : xm_R sc xt_M d 149 0 [.ref h0] [] S = (xm_gR S h0 7 9).bind fun n1 => (xm_gR S h0 7 5).bind fun n2 => if xm_isO S (.ref n1) 4 = true then ((xm_C sc xt_M d 54 [.ref n1, .ref n2] S).bind fun o4 => xm_r0 o4 (fun S3 => (xm_sF S3 h0 7 10 (.int 1)).bind fun S5 => some (.inl none, S5)) (fun e S => some (.inr e, S))) else none := by
  refine yt_149_0.trans ?_
  simp only [yt_149_1, yt_149_4, yt_149_5, yt_149_8, yt_149_11, yt_149_12, yt_149_13, yt_149_16, xb_1, xe_T, xk_xf, xl_A0, xp_I, xp_R, xp_RS, xq_c0, xr_0, List.cons_append, List.nil_append, Nat.reduceAdd]
set_option maxRecDepth 4000 in
theorem yb_150_0 {sc : xm_Sc} {d : Nat} {h0 : Nat} {S : xm_PS}  : xm_R sc xt_M d 150 0 [.ref h0] [] S = (xm_gI S h0 7 10).bind fun n1 => (if n1 = 0 then some (.inl (some (.int 0)), S) else (xm_gR S h0 7 5).bind fun n2 => (xm_gR S h0 7 9).bind fun n3 => if xm_isO S (.ref n2) 4 = true then ((xm_C sc xt_M d 54 [.ref n2, .ref n3] S).bind fun o5 => xm_r0 o5 (fun S4 => (xm_gR S4 h0 7 11).bind fun n6 => if xm_isO S4 (.ref n6) 0 = true then ((xm_C sc xt_M d 1 [.ref n6] S4).bind fun o8 => xm_r0 o8 (fun S7 => some (.inl (some (.int 1)), S7)) (fun e S => some (.inr e, S))) else none) (fun e S => some (.inr e, S))) else none) := by
  refine yt_150_0.trans ?_
  simp only [yt_150_1, yt_150_4, yt_150_7, yt_150_8, yt_150_9, yt_150_10, yt_150_13, yt_150_14, yt_150_17, yt_150_20, yt_150_21, yt_150_24, yt_150_27, yt_150_28, xb_0, xb_1, xe_T, xk_xf, xl_A0, xp_I, xp_R, xp_RS, xq_c0, xr_0, List.cons_append, List.nil_append, Nat.reduceAdd]
set_option maxRecDepth 4000 in
theorem yb_152_0 {sc : xm_Sc} {d : Nat} {h0 : Nat} {i1 : Int32} {S : xm_PS}  : xm_R sc xt_M d 152 0 [.ref h0, .int i1] [] S = (if i1 < 0 then xm_R sc xt_M d 152 18 [.ref h0, .int i1] [] S else (xm_gR S h0 7 5).bind fun n1 => (xm_gR S n1 4 0).bind fun n2 => (xm_gI S n2 2 2).bind fun n3 => (if i1 < n3 then some (.inl none, S) else xm_R sc xt_M d 152 18 [.ref h0, .int i1] [] S)) := by
  refine yt_152_0.trans ?_
  simp only [yt_152_1, yt_152_4, yt_152_5, yt_152_6, yt_152_9, yt_152_12, yt_152_15, yt_152_29, xe_T, xl_A0, xl_I1, xp_I, xp_R]
set_option maxRecDepth 4000 in
theorem yb_152_18 {sc : xm_Sc} {d : Nat} {h0 : Nat} {i1 : Int32} {S : xm_PS}  : xm_R sc xt_M d 152 18 [.ref h0, .int i1] [] S = if S.1 = false ∧ ([] : xm_Hx) = [] ∧ ([] : List Value) = [] then some (.inr 0, (S.1, S.2.1 + 1, S.2.2)) else none := by
  refine yt_152_18.trans ?_
  simp only []
set_option maxRecDepth 4000 in
theorem yb_153_0 {sc : xm_Sc} {d : Nat} {h0 : Nat} {i1 : Int32} {S : xm_PS}  : xm_R sc xt_M d 153 0 [.ref h0, .int i1] [] S = (if i1 < 0 then xm_R sc xt_M d 153 18 [.ref h0, .int i1] [] S else (xm_gR S h0 7 5).bind fun n1 => (xm_gR S n1 4 0).bind fun n2 => (xm_gI S n2 2 1).bind fun n3 => (if i1 < n3 then some (.inl none, S) else xm_R sc xt_M d 153 18 [.ref h0, .int i1] [] S)) := by
  refine yt_153_0.trans ?_
  simp only [yt_153_1, yt_153_4, yt_153_5, yt_153_6, yt_153_9, yt_153_12, yt_153_15, yt_153_29, xe_T, xl_A0, xl_I1, xp_I, xp_R]
set_option maxRecDepth 4000 in
theorem yb_153_18 {sc : xm_Sc} {d : Nat} {h0 : Nat} {i1 : Int32} {S : xm_PS}  : xm_R sc xt_M d 153 18 [.ref h0, .int i1] [] S = if S.1 = false ∧ ([] : xm_Hx) = [] ∧ ([] : List Value) = [] then some (.inr 0, (S.1, S.2.1 + 1, S.2.2)) else none := by
  refine yt_153_18.trans ?_
  simp only []
set_option maxRecDepth 4000 in
theorem yb_154_0 {sc : xm_Sc} {d : Nat} {h0 : Nat} {i1 : Int32} {S : xm_PS}  : xm_R sc xt_M d 154 0 [.ref h0, .int i1] [] S = (if i1 < 0 then xm_R sc xt_M d 154 18 [.ref h0, .int i1] [] S else (xm_gR S h0 7 5).bind fun n1 => (xm_gR S n1 4 0).bind fun n2 => (xm_gI S n2 2 0).bind fun n3 => (if i1 < n3 then some (.inl none, S) else xm_R sc xt_M d 154 18 [.ref h0, .int i1] [] S)) := by
  refine yt_154_0.trans ?_
  simp only [yt_154_1, yt_154_4, yt_154_5, yt_154_6, yt_154_9, yt_154_12, yt_154_15, yt_154_29, xe_T, xl_A0, xl_I1, xp_I, xp_R]
set_option maxRecDepth 4000 in
theorem yb_154_18 {sc : xm_Sc} {d : Nat} {h0 : Nat} {i1 : Int32} {S : xm_PS}  : xm_R sc xt_M d 154 18 [.ref h0, .int i1] [] S = if S.1 = false ∧ ([] : xm_Hx) = [] ∧ ([] : List Value) = [] then some (.inr 0, (S.1, S.2.1 + 1, S.2.2)) else none := by
  refine yt_154_18.trans ?_
  simp only []
set_option maxRecDepth 4000 in
theorem yb_155_0 {sc : xm_Sc} {d : Nat} {i0 : Int32} {i1 : Int32} {S : xm_PS}  : xm_R sc xt_M d 155 0 [.int i0, .int i1] [] S = (if i0 < 0 then xm_R sc xt_M d 155 9 [.int i0, .int i1] [] S else (if i0 < i1 then some (.inl none, S) else xm_R sc xt_M d 155 9 [.int i0, .int i1] [] S)) := by
  refine yt_155_0.trans ?_
  simp only [yt_155_1, yt_155_4, yt_155_5, yt_155_6, yt_155_20, xe_T, xl_I0, xl_I1, xp_I]
set_option maxRecDepth 4000 in
theorem yb_155_9 {sc : xm_Sc} {d : Nat} {i0 : Int32} {i1 : Int32} {S : xm_PS}  : xm_R sc xt_M d 155 9 [.int i0, .int i1] [] S = if S.1 = false ∧ ([] : xm_Hx) = [] ∧ ([] : List Value) = [] then some (.inr 0, (S.1, S.2.1 + 1, S.2.2)) else none := by
  refine yt_155_9.trans ?_
  simp only []
set_option maxRecDepth 4000 in
theorem yb_156_0 {sc : xm_Sc} {d : Nat} {i0 : Int32} {i1 : Int32} {i2 : Int32} {S : xm_PS}  : xm_R sc xt_M d 156 0 [.int i0, .int i1, .int i2] [] S = (if i0 < i1 then xm_R sc xt_M d 156 10 [.int i0, .int i1, .int i2] [] S else (if i0 ≤ i2 then some (.inl none, S) else xm_R sc xt_M d 156 10 [.int i0, .int i1, .int i2] [] S)) := by
  refine yt_156_0.trans ?_
  simp only [yt_156_1, yt_156_2, yt_156_5, yt_156_6, yt_156_7, yt_156_21, xe_T, xl_I0, xl_I1, xl_I2, xp_I]
set_option maxRecDepth 4000 in
theorem yb_156_10 {sc : xm_Sc} {d : Nat} {i0 : Int32} {i1 : Int32} {i2 : Int32} {S : xm_PS}  : xm_R sc xt_M d 156 10 [.int i0, .int i1, .int i2] [] S = if S.1 = false ∧ ([] : xm_Hx) = [] ∧ ([] : List Value) = [] then some (.inr 1, (S.1, S.2.1 + 1, S.2.2)) else none := by
  refine yt_156_10.trans ?_
  simp only []
