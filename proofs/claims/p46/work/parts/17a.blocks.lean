/-! a row for each block, by program (wip/p46/mk14.py) -/
set_option maxRecDepth 4000 in
theorem yb_1_0 {sc : xm_Sc} {d : Nat} {h0 : Nat} {S : xm_PS}  : xm_R sc xt_M d 1 0 [.ref h0] [] S = (xm_sF S h0 0 0 (.int 0)).bind fun S1 => some (.inl none, S1) := by
  refine yt_1_0.trans ?_
  simp only [yt_1_1, yt_1_2, yt_1_5, xe_T, xl_A0, xp_I, xp_R]
set_option maxRecDepth 4000 in
theorem yb_2_0 {sc : xm_Sc} {d : Nat} {h0 : Nat} {h1 : Nat} {S : xm_PS}  : xm_R sc xt_M d 2 0 [.ref h0, .ref h1] [] S = (xm_gR S h0 0 2).bind fun n1 => (xm_gI S h0 0 1).bind fun n2 => (xm_aQ S n1 4 n2).bind fun n3 => if xm_isO S (.ref n3) 4 = true then ((xm_C sc xt_M d 54 [.ref n3, .ref h1] S).bind fun o5 => xm_r0 o5 (fun S4 => (xm_gI S4 h0 0 1).bind fun n6 => (if 10 ≤ (n6 + 1) then (xm_sF S4 h0 0 1 (.int 0)).bind fun S7 => (xm_gI S7 h0 0 0).bind fun n8 => (xm_sF S7 h0 0 0 (.int (if (10 : Int32) < (n8 + 1) then 10 else (n8 + 1)))).bind fun S9 => some (.inl none, S9) else (xm_gI S4 h0 0 1).bind fun n10 => (xm_sF S4 h0 0 1 (.int (n10 + 1))).bind fun S11 => (xm_gI S11 h0 0 0).bind fun n12 => (xm_sF S11 h0 0 0 (.int (if (10 : Int32) < (n12 + 1) then 10 else (n12 + 1)))).bind fun S13 => some (.inl none, S13))) (fun e S => some (.inr e, S))) else none := by
  refine yt_2_0.trans ?_
  simp only [yt_2_1, yt_2_4, yt_2_5, yt_2_8, yt_2_9, yt_2_10, yt_2_13, yt_2_14, yt_2_15, yt_2_18, yt_2_19, yt_2_20, yt_2_22, yt_2_25, yt_2_26, yt_2_29, yt_2_30, yt_2_31, yt_2_34, yt_2_35, yt_2_38, yt_2_39, yt_2_40, yt_2_43, yt_2_44, yt_2_45, yt_2_47, yt_2_50, yt_2_53, xe_T, xk_xf, xl_A0, xl_A1, xp_I, xp_R, xp_RS, xq_c0, xq_r1, xr_0, List.cons_append, List.nil_append, Nat.reduceAdd]
set_option maxRecDepth 4000 in
theorem yb_3_0 {sc : xm_Sc} {d : Nat} {h0 : Nat} {h1 : Nat} {S : xm_PS}  : xm_R sc xt_M d 3 0 [.ref h0, .ref h1] [] S = (xm_gI S h0 0 0).bind fun n1 => (if n1 ≤ 0 then xm_R sc xt_M d 3 52 [.ref h0, .ref h1] [] S else (xm_gI S h0 0 1).bind fun n2 => (if n2 ≤ 0 then (xm_sF S h0 0 1 (.int 9)).bind fun S3 => (xm_gI S3 h0 0 0).bind fun n4 => (xm_sF S3 h0 0 0 (.int (n4 - 1))).bind fun S5 => (xm_gR S5 h0 0 2).bind fun n6 => (xm_gI S5 h0 0 1).bind fun n7 => (xm_aQ S5 n6 4 n7).bind fun n8 => if xm_isO S5 (.ref h1) 4 = true then ((xm_C sc xt_M d 54 [.ref h1, .ref n8] S5).bind fun o10 => xm_r0 o10 (fun S9 => xm_R sc xt_M d 3 52 [.ref h0, .ref h1] [] S9) (fun e S => some (.inr e, S))) else none else (xm_gI S h0 0 1).bind fun n11 => (xm_sF S h0 0 1 (.int (n11 - 1))).bind fun S12 => (xm_gI S12 h0 0 0).bind fun n13 => (xm_sF S12 h0 0 0 (.int (n13 - 1))).bind fun S14 => (xm_gR S14 h0 0 2).bind fun n15 => (xm_gI S14 h0 0 1).bind fun n16 => (xm_aQ S14 n15 4 n16).bind fun n17 => if xm_isO S14 (.ref h1) 4 = true then ((xm_C sc xt_M d 54 [.ref h1, .ref n17] S14).bind fun o19 => xm_r0 o19 (fun S18 => xm_R sc xt_M d 3 52 [.ref h0, .ref h1] [] S18) (fun e S => some (.inr e, S))) else none)) := by
  refine yt_3_0.trans ?_
  simp only [yt_3_1, yt_3_4, yt_3_7, yt_3_8, yt_3_9, yt_3_12, yt_3_15, yt_3_16, yt_3_19, yt_3_20, yt_3_21, yt_3_24, yt_3_26, yt_3_29, yt_3_30, yt_3_31, yt_3_34, yt_3_35, yt_3_36, yt_3_39, yt_3_40, yt_3_41, yt_3_44, yt_3_45, yt_3_48, yt_3_49, xk_xf, xl_A0, xl_A1, xp_I, xp_R, xp_RS, xq_c0, xr_0, List.cons_append, List.nil_append, Nat.reduceAdd]
set_option maxRecDepth 4000 in
theorem yb_3_52 {sc : xm_Sc} {d : Nat} {h0 : Nat} {h1 : Nat} {S : xm_PS}  : xm_R sc xt_M d 3 52 [.ref h0, .ref h1] [] S = some (.inl none, S) := by
  refine yt_3_52.trans ?_
  simp only [xe_T]
set_option maxRecDepth 4000 in
theorem yb_4_0 {sc : xm_Sc} {d : Nat} {h0 : Nat} {h1 : Nat} {v2 : Value} {S : xm_PS}  : xm_R sc xt_M d 4 0 [.ref h0, .ref h1, v2] [] S = (xm_gR S h1 4 0).bind fun n1 => if xm_isO S (.ref h0) 5 = true then ((xm_C sc xt_M d 95 [.ref h0, .retAddr 1] S).bind fun o3 => xm_r0 o3 (fun S2 => if xm_isO S2 (.ref h0) 5 = true then ((xm_C sc xt_M d 99 [.ref h0, .int 2, .int 6] S2).bind fun o5 => xm_rI o5 (fun n6 S4 => if xm_isO S4 (.ref n1) 2 = true then ((xm_C sc xt_M d 17 [.ref n1, .int n6] S4).bind fun o8 => xm_r0 o8 (fun S7 => if xm_isO S7 (.ref h0) 5 = true then ((xm_C sc xt_M d 96 [.ref h0, .int 59] S7).bind fun o10 => xm_r0 o10 (fun S9 => (xm_C sc xt_M d 5 [.ref h0, .ref n1] S9).bind fun o12 => xm_r0 o12 (fun S11 => (xm_C sc xt_M d 8 [.ref h0, .ref n1] S11).bind fun o14 => xm_r0 o14 (fun S13 => if xm_isO S13 (.ref h1) 4 = true then ((xm_C sc xt_M d 53 [.ref h1] S13).bind fun o16 => xm_r0 o16 (fun S15 => if xm_isO S15 (.ref h0) 5 = true then ((xm_C sc xt_M d 94 [.ref h0, .retAddr 4] S15).bind fun o18 => xm_rI o18 (fun n19 S17 => (if n19 = 0 then xm_R sc xt_M d 4 72 [.ref h0, .ref h1, .ref n1] [] S17 else if xm_isO S17 (.ref h0) 5 = true then ((xm_C sc xt_M d 86 [.ref h0] S17).bind fun o21 => xm_r0 o21 (fun S20 => if xm_isO S20 (.ref h0) 5 = true then ((xm_C sc xt_M d 99 [.ref h0, .int 1, .int 50] S20).bind fun o23 => xm_rI o23 (fun n24 S22 => (xm_sF S22 h1 4 2 (.int n24)).bind fun S25 => if xm_isO S25 (.ref h0) 5 = true then ((xm_C sc xt_M d 96 [.ref h0, .int 59] S25).bind fun o27 => xm_r0 o27 (fun S26 => xm_R sc xt_M d 4 72 [.ref h0, .ref h1, .ref n1] [] S26) (fun e S => some (.inr e, S))) else none) (fun e S => some (.inr e, S))) else none) (fun e S => some (.inr e, S))) else none)) (fun e S => some (.inr e, S))) else none) (fun e S => some (.inr e, S))) else none) (fun e S => some (.inr e, S))) (fun e S => some (.inr e, S))) (fun e S => some (.inr e, S))) else none) (fun e S => some (.inr e, S))) else none) (fun e S => some (.inr e, S))) else none) (fun e S => some (.inr e, S))) else none := by
  refine yt_4_0.trans ?_
  simp only [yt_4_1, yt_4_4, yt_4_5, yt_4_6, yt_4_8, yt_4_11, yt_4_12, yt_4_13, yt_4_14, yt_4_16, yt_4_19, yt_4_22, yt_4_23, yt_4_25, yt_4_28, yt_4_29, yt_4_30, yt_4_33, yt_4_34, yt_4_35, yt_4_38, yt_4_39, yt_4_42, yt_4_43, yt_4_45, yt_4_48, yt_4_51, yt_4_52, yt_4_55, yt_4_56, yt_4_57, yt_4_58, yt_4_60, yt_4_63, yt_4_66, yt_4_67, yt_4_69, xk_xf, xl_A0, xl_A1, xl_A2, xp_I, xp_R, xp_RS, xq_c0, xq_c1, xr_0, xr_1, List.set_cons_zero, List.set_cons_succ, List.cons_append, List.nil_append, Nat.reduceAdd]
set_option maxRecDepth 4000 in
theorem yb_4_72 {sc : xm_Sc} {d : Nat} {h0 : Nat} {h1 : Nat} {h2 : Nat} {S : xm_PS}  : xm_R sc xt_M d 4 72 [.ref h0, .ref h1, .ref h2] [] S = (xm_C sc xt_M d 9 [.ref h0, .ref h1] S).bind fun o2 => xm_r0 o2 (fun S1 => if xm_isO S1 (.ref h0) 5 = true then ((xm_C sc xt_M d 97 [.ref h0] S1).bind fun o4 => xm_r0 o4 (fun S3 => some (.inl none, S3)) (fun e S => some (.inr e, S))) else none) (fun e S => some (.inr e, S)) := by
  refine yt_4_72.trans ?_
  simp only [yt_4_73, yt_4_74, yt_4_77, yt_4_78, yt_4_81, xe_T, xk_xf, xl_A0, xl_A1, xp_RS, xq_c0, xr_0, List.cons_append, List.nil_append, Nat.reduceAdd]
set_option maxRecDepth 4000 in
theorem yb_5_0 {sc : xm_Sc} {d : Nat} {h0 : Nat} {h1 : Nat} {v2 : Value} {S : xm_PS}  : xm_R sc xt_M d 5 0 [.ref h0, .ref h1, v2] [] S = if xm_isO S (.ref h0) 5 = true then ((xm_C sc xt_M d 94 [.ref h0, .retAddr 2] S).bind fun o2 => xm_rI o2 (fun n3 S1 => (if n3 = 0 then if xm_isO S1 (.ref h0) 5 = true then ((xm_C sc xt_M d 85 [.ref h0, .int 1] S1).bind fun o5 => xm_r0 o5 (fun S4 => xm_R sc xt_M d 5 14 [.ref h0, .ref h1, v2] [] S4) (fun e S => some (.inr e, S))) else none else xm_R sc xt_M d 5 14 [.ref h0, .ref h1, v2] [] S1)) (fun e S => some (.inr e, S))) else none := by
  refine yt_5_0.trans ?_
  simp only [yt_5_1, yt_5_3, yt_5_6, yt_5_9, yt_5_10, yt_5_11, xk_xf, xl_A0, xp_I, xp_RS, xq_c0, xr_0, xr_1, List.cons_append, List.nil_append, Nat.reduceAdd]
set_option maxRecDepth 4000 in
theorem yb_5_14 {sc : xm_Sc} {d : Nat} {h0 : Nat} {h1 : Nat} {v2 : Value} {S : xm_PS}  : xm_R sc xt_M d 5 14 [.ref h0, .ref h1, v2] [] S = xm_R sc xt_M d 5 16 [.ref h0, .ref h1, .int 0] [] S := by
  refine yt_5_14.trans ?_
  simp only [yt_5_15, xp_I, List.set_cons_zero, List.set_cons_succ]
set_option maxRecDepth 4000 in
theorem yb_5_16 {sc : xm_Sc} {d : Nat} {h0 : Nat} {h1 : Nat} {i2 : Int32} {S : xm_PS}  : xm_R sc xt_M d 5 16 [.ref h0, .ref h1, .int i2] [] S = (if 4 ≤ i2 then xm_R sc xt_M d 5 56 [.ref h0, .ref h1, .int i2] [] S else if xm_isO S (.ref h0) 5 = true then ((xm_C sc xt_M d 94 [.ref h0, .retAddr 2] S).bind fun o2 => xm_rI o2 (fun n3 S1 => (if n3 = 0 then xm_R sc xt_M d 5 56 [.ref h0, .ref h1, .int i2] [] S1 else if xm_isO S1 (.ref h0) 5 = true then ((xm_C sc xt_M d 86 [.ref h0] S1).bind fun o5 => xm_r0 o5 (fun S4 => if xm_isO S4 (.ref h0) 5 = true then ((xm_C sc xt_M d 99 [.ref h0, .int 1, .int 9] S4).bind fun o7 => xm_rI o7 (fun n8 S6 => if xm_isO S6 (.ref h1) 2 = true then ((xm_C sc xt_M d 18 [.ref h1, .int n8] S6).bind fun o10 => xm_r0 o10 (fun S9 => (xm_C sc xt_M d 6 [.ref h0, .ref h1] S9).bind fun o12 => xm_r0 o12 (fun S11 => xm_R sc xt_M d 5 16 [.ref h0, .ref h1, .int (i2 + 1)] [] S11) (fun e S => some (.inr e, S))) (fun e S => some (.inr e, S))) else none) (fun e S => some (.inr e, S))) else none) (fun e S => some (.inr e, S))) else none)) (fun e S => some (.inr e, S))) else none) := by
  refine yt_5_16.trans ?_
  simp only [yt_5_17, yt_5_18, yt_5_21, yt_5_22, yt_5_24, yt_5_27, yt_5_30, yt_5_31, yt_5_34, yt_5_35, yt_5_36, yt_5_37, yt_5_39, yt_5_42, yt_5_45, yt_5_46, yt_5_47, yt_5_50, yt_5_53, xk_xf, xl_A0, xl_A1, xl_I2, xp_I, xp_RS, xq_c0, xq_c1, xr_0, xr_1, List.set_cons_zero, List.set_cons_succ, List.cons_append, List.nil_append, Nat.reduceAdd]
set_option maxRecDepth 4000 in
theorem yb_5_56 {sc : xm_Sc} {d : Nat} {h0 : Nat} {h1 : Nat} {i2 : Int32} {S : xm_PS}  : xm_R sc xt_M d 5 56 [.ref h0, .ref h1, .int i2] [] S = if xm_isO S (.ref h0) 5 = true then ((xm_C sc xt_M d 94 [.ref h0, .retAddr 2] S).bind fun o2 => xm_rI o2 (fun n3 S1 => (if n3 = 0 then xm_R sc xt_M d 5 70 [.ref h0, .ref h1, .int i2] [] S1 else if xm_isO S1 (.ref h0) 5 = true then ((xm_C sc xt_M d 85 [.ref h0, .int 3] S1).bind fun o5 => xm_r0 o5 (fun S4 => xm_R sc xt_M d 5 70 [.ref h0, .ref h1, .int i2] [] S4) (fun e S => some (.inr e, S))) else none)) (fun e S => some (.inr e, S))) else none := by
  refine yt_5_56.trans ?_
  simp only [yt_5_57, yt_5_59, yt_5_62, yt_5_65, yt_5_66, yt_5_67, xk_xf, xl_A0, xp_I, xp_RS, xq_c0, xr_0, xr_1, List.cons_append, List.nil_append, Nat.reduceAdd]
set_option maxRecDepth 4000 in
theorem yb_5_70 {sc : xm_Sc} {d : Nat} {h0 : Nat} {h1 : Nat} {i2 : Int32} {S : xm_PS}  : xm_R sc xt_M d 5 70 [.ref h0, .ref h1, .int i2] [] S = some (.inl none, S) := by
  refine yt_5_70.trans ?_
  simp only [xe_T]
set_option maxRecDepth 4000 in
theorem yb_6_0 {sc : xm_Sc} {d : Nat} {h0 : Nat} {h1 : Nat} {v2 : Value} {v3 : Value} {v4 : Value} {S : xm_PS}  : xm_R sc xt_M d 6 0 [.ref h0, .ref h1, v2, v3, v4] [] S = (xm_C sc xt_M d 7 [.ref h0, .ref h1, .int 0, .int (-1)] S).bind fun o2 => xm_rI o2 (fun n3 S1 => (xm_C sc xt_M d 7 [.ref h0, .ref h1, .int 1, .int n3] S1).bind fun o5 => xm_rI o5 (fun n6 S4 => xm_R sc xt_M d 6 19 [.ref h0, .ref h1, .int n3, .int n6, .int 2] [] S4) (fun e S => some (.inr e, S))) (fun e S => some (.inr e, S)) := by
  refine yt_6_0.trans ?_
  simp only [yt_6_1, yt_6_2, yt_6_3, yt_6_4, yt_6_7, yt_6_8, yt_6_9, yt_6_10, yt_6_11, yt_6_12, yt_6_15, yt_6_16, yt_6_17, xk_xf, xl_A0, xl_A1, xl_I2, xp_I, xq_c0, xr_1, List.set_cons_zero, List.set_cons_succ, List.cons_append, List.nil_append, Nat.reduceAdd]
set_option maxRecDepth 4000 in
theorem yb_6_19 {sc : xm_Sc} {d : Nat} {h0 : Nat} {h1 : Nat} {i2 : Int32} {i3 : Int32} {i4 : Int32} {S : xm_PS}  : xm_R sc xt_M d 6 19 [.ref h0, .ref h1, .int i2, .int i3, .int i4] [] S = (if 8 < i4 then xm_R sc xt_M d 6 48 [.ref h0, .ref h1, .int i2, .int i3, .int i4] [] S else if xm_isO S (.ref h0) 5 = true then ((xm_C sc xt_M d 92 [.ref h0] S).bind fun o2 => xm_rI o2 (fun n3 S1 => (if n3 = 0 then xm_R sc xt_M d 6 48 [.ref h0, .ref h1, .int i2, .int i3, .int i4] [] S1 else (xm_C sc xt_M d 7 [.ref h0, .ref h1, .int i4, .int i3] S1).bind fun o5 => xm_rI o5 (fun n6 S4 => xm_R sc xt_M d 6 19 [.ref h0, .ref h1, .int i2, .int n6, .int (i4 + 1)] [] S4) (fun e S => some (.inr e, S)))) (fun e S => some (.inr e, S))) else none) := by
  refine yt_6_19.trans ?_
  simp only [yt_6_21, yt_6_23, yt_6_26, yt_6_27, yt_6_30, yt_6_33, yt_6_34, yt_6_35, yt_6_37, yt_6_38, yt_6_41, yt_6_42, yt_6_45, xk_xf, xl_A0, xl_A1, xl_I3, xl_I4, xp_I, xp_RS, xq_c0, xr_1, List.set_cons_zero, List.set_cons_succ, List.cons_append, List.nil_append, Nat.reduceAdd]
set_option maxRecDepth 4000 in
theorem yb_6_48 {sc : xm_Sc} {d : Nat} {h0 : Nat} {h1 : Nat} {i2 : Int32} {i3 : Int32} {i4 : Int32} {S : xm_PS}  : xm_R sc xt_M d 6 48 [.ref h0, .ref h1, .int i2, .int i3, .int i4] [] S = if xm_isO S (.ref h0) 5 = true then ((xm_C sc xt_M d 93 [.ref h0, .int 59] S).bind fun o2 => xm_rI o2 (fun n3 S1 => (if n3 = 0 then xm_R sc xt_M d 6 67 [.ref h0, .ref h1, .int i2, .int i3, .int i4] [] S1 else (if i3 = i2 then if xm_isO S1 (.ref h0) 5 = true then ((xm_C sc xt_M d 85 [.ref h0, .int 4] S1).bind fun o5 => xm_r0 o5 (fun S4 => xm_R sc xt_M d 6 67 [.ref h0, .ref h1, .int i2, .int i3, .int i4] [] S4) (fun e S => some (.inr e, S))) else none else xm_R sc xt_M d 6 67 [.ref h0, .ref h1, .int i2, .int i3, .int i4] [] S1))) (fun e S => some (.inr e, S))) else none := by
  refine yt_6_48.trans ?_
  simp only [yt_6_49, yt_6_51, yt_6_54, yt_6_57, yt_6_58, yt_6_59, yt_6_62, yt_6_63, yt_6_64, xk_xf, xl_A0, xl_I2, xl_I3, xp_I, xp_RS, xq_c0, xr_0, xr_1, List.cons_append, List.nil_append, Nat.reduceAdd]
set_option maxRecDepth 4000 in
theorem yb_6_67 {sc : xm_Sc} {d : Nat} {h0 : Nat} {h1 : Nat} {i2 : Int32} {i3 : Int32} {i4 : Int32} {S : xm_PS}  : xm_R sc xt_M d 6 67 [.ref h0, .ref h1, .int i2, .int i3, .int i4] [] S = if xm_isO S (.ref h0) 5 = true then ((xm_C sc xt_M d 96 [.ref h0, .int 59] S).bind fun o2 => xm_r0 o2 (fun S1 => some (.inl none, S1)) (fun e S => some (.inr e, S))) else none := by
  refine yt_6_67.trans ?_
  simp only [yt_6_68, yt_6_70, yt_6_73, xe_T, xk_xf, xl_A0, xp_RS, xq_c0, xr_0, List.cons_append, List.nil_append, Nat.reduceAdd]
set_option maxRecDepth 4000 in
theorem yb_7_0 {sc : xm_Sc} {d : Nat} {h0 : Nat} {h1 : Nat} {i2 : Int32} {i3 : Int32} {v4 : Value} {S : xm_PS}  : xm_R sc xt_M d 7 0 [.ref h0, .ref h1, .int i2, .int i3, v4] [] S = (xm_gI S h1 2 0).bind fun n1 => if xm_isO S (.ref h0) 5 = true then ((xm_C sc xt_M d 98 [.ref h0, .int 0, .int (n1 - 1)] S).bind fun o3 => xm_rI o3 (fun n4 S2 => (if i2 < 8 then xm_R sc xt_M d 7 24 [.ref h0, .ref h1, .int i2, .int i3, .int n4] [] S2 else if xm_isO S2 (.ref h0) 5 = true then ((xm_C sc xt_M d 85 [.ref h0, .int 3] S2).bind fun o6 => xm_r0 o6 (fun S5 => xm_R sc xt_M d 7 24 [.ref h0, .ref h1, .int i2, .int i3, .int n4] [] S5) (fun e S => some (.inr e, S))) else none)) (fun e S => some (.inr e, S))) else none := by
  refine yt_7_0.trans ?_
  simp only [yt_7_1, yt_7_2, yt_7_3, yt_7_6, yt_7_7, yt_7_8, yt_7_11, yt_7_13, yt_7_14, yt_7_16, yt_7_19, yt_7_20, yt_7_21, xk_xf, xl_A0, xl_A1, xl_I2, xp_I, xp_R, xp_RS, xq_c0, xr_0, xr_1, List.set_cons_zero, List.set_cons_succ, List.cons_append, List.nil_append, Nat.reduceAdd]
set_option maxRecDepth 4000 in
theorem yb_7_24 {sc : xm_Sc} {d : Nat} {h0 : Nat} {h1 : Nat} {i2 : Int32} {i3 : Int32} {i4 : Int32} {S : xm_PS}  : xm_R sc xt_M d 7 24 [.ref h0, .ref h1, .int i2, .int i3, .int i4] [] S = (if i4 = i3 then if xm_isO S (.ref h0) 5 = true then ((xm_C sc xt_M d 85 [.ref h0, .int 4] S).bind fun o2 => xm_r0 o2 (fun S1 => xm_R sc xt_M d 7 35 [.ref h0, .ref h1, .int i2, .int i3, .int i4] [] S1) (fun e S => some (.inr e, S))) else none else xm_R sc xt_M d 7 35 [.ref h0, .ref h1, .int i2, .int i3, .int i4] [] S) := by
  refine yt_7_24.trans ?_
  simp only [yt_7_26, yt_7_27, yt_7_30, yt_7_31, yt_7_32, xk_xf, xl_A0, xl_I3, xl_I4, xp_I, xp_RS, xq_c0, xr_0, List.cons_append, List.nil_append, Nat.reduceAdd]
set_option maxRecDepth 4000 in
theorem yb_7_35 {sc : xm_Sc} {d : Nat} {h0 : Nat} {h1 : Nat} {i2 : Int32} {i3 : Int32} {i4 : Int32} {S : xm_PS}  : xm_R sc xt_M d 7 35 [.ref h0, .ref h1, .int i2, .int i3, .int i4] [] S = if xm_isO S (.ref h0) 5 = true then ((xm_C sc xt_M d 86 [.ref h0] S).bind fun o2 => xm_r0 o2 (fun S1 => if xm_isO S1 (.ref h1) 2 = true then ((xm_C sc xt_M d 19 [.ref h1, .int i4] S1).bind fun o4 => xm_r0 o4 (fun S3 => some (.inl (some (.int i4)), S3)) (fun e S => some (.inr e, S))) else none) (fun e S => some (.inr e, S))) else none := by
  refine yt_7_35.trans ?_
  simp only [yt_7_36, yt_7_39, yt_7_40, yt_7_42, yt_7_45, yt_7_47, xe_T, xk_xf, xl_A0, xl_A1, xl_I4, xp_I, xp_RS, xq_c0, xr_0, List.cons_append, List.nil_append, Nat.reduceAdd]
set_option maxRecDepth 4000 in
theorem yb_8_0 {sc : xm_Sc} {d : Nat} {h0 : Nat} {h1 : Nat} {v2 : Value} {S : xm_PS}  : xm_R sc xt_M d 8 0 [.ref h0, .ref h1, v2] [] S = xm_R sc xt_M d 8 2 [.ref h0, .ref h1, .int 0] [] S := by
  refine yt_8_0.trans ?_
  simp only [yt_8_1, xp_I, List.set_cons_zero, List.set_cons_succ]
set_option maxRecDepth 4000 in
theorem yb_8_2 {sc : xm_Sc} {d : Nat} {h0 : Nat} {h1 : Nat} {i2 : Int32} {S : xm_PS}  : xm_R sc xt_M d 8 2 [.ref h0, .ref h1, .int i2] [] S = (if 20 ≤ i2 then xm_R sc xt_M d 8 48 [.ref h0, .ref h1, .int i2] [] S else if xm_isO S (.ref h0) 5 = true then ((xm_C sc xt_M d 94 [.ref h0, .retAddr 3] S).bind fun o2 => xm_rI o2 (fun n3 S1 => (if n3 = 0 then xm_R sc xt_M d 8 48 [.ref h0, .ref h1, .int i2] [] S1 else if xm_isO S1 (.ref h0) 5 = true then ((xm_C sc xt_M d 86 [.ref h0] S1).bind fun o5 => xm_r0 o5 (fun S4 => (xm_gI S4 h1 2 0).bind fun n6 => if xm_isO S4 (.ref h0) 5 = true then ((xm_C sc xt_M d 99 [.ref h0, .int 0, .int (n6 - 1)] S4).bind fun o8 => xm_rI o8 (fun n9 S7 => if xm_isO S7 (.ref h1) 2 = true then ((xm_C sc xt_M d 20 [.ref h1, .int n9] S7).bind fun o11 => xm_r0 o11 (fun S10 => if xm_isO S10 (.ref h0) 5 = true then ((xm_C sc xt_M d 96 [.ref h0, .int 59] S10).bind fun o13 => xm_r0 o13 (fun S12 => xm_R sc xt_M d 8 2 [.ref h0, .ref h1, .int (i2 + 1)] [] S12) (fun e S => some (.inr e, S))) else none) (fun e S => some (.inr e, S))) else none) (fun e S => some (.inr e, S))) else none) (fun e S => some (.inr e, S))) else none)) (fun e S => some (.inr e, S))) else none) := by
  refine yt_8_2.trans ?_
  simp only [yt_8_3, yt_8_5, yt_8_8, yt_8_9, yt_8_11, yt_8_14, yt_8_17, yt_8_18, yt_8_21, yt_8_22, yt_8_23, yt_8_24, yt_8_25, yt_8_28, yt_8_29, yt_8_30, yt_8_33, yt_8_36, yt_8_37, yt_8_39, yt_8_42, yt_8_45, xk_xf, xl_A0, xl_A1, xl_I2, xp_I, xp_R, xp_RS, xq_c0, xq_c1, xr_0, xr_1, List.set_cons_zero, List.set_cons_succ, List.cons_append, List.nil_append, Nat.reduceAdd]
set_option maxRecDepth 4000 in
theorem yb_8_48 {sc : xm_Sc} {d : Nat} {h0 : Nat} {h1 : Nat} {i2 : Int32} {S : xm_PS}  : xm_R sc xt_M d 8 48 [.ref h0, .ref h1, .int i2] [] S = if xm_isO S (.ref h0) 5 = true then ((xm_C sc xt_M d 94 [.ref h0, .retAddr 3] S).bind fun o2 => xm_rI o2 (fun n3 S1 => (if n3 = 0 then xm_R sc xt_M d 8 62 [.ref h0, .ref h1, .int i2] [] S1 else if xm_isO S1 (.ref h0) 5 = true then ((xm_C sc xt_M d 85 [.ref h0, .int 3] S1).bind fun o5 => xm_r0 o5 (fun S4 => xm_R sc xt_M d 8 62 [.ref h0, .ref h1, .int i2] [] S4) (fun e S => some (.inr e, S))) else none)) (fun e S => some (.inr e, S))) else none := by
  refine yt_8_48.trans ?_
  simp only [yt_8_49, yt_8_51, yt_8_54, yt_8_57, yt_8_58, yt_8_59, xk_xf, xl_A0, xp_I, xp_RS, xq_c0, xr_0, xr_1, List.cons_append, List.nil_append, Nat.reduceAdd]
set_option maxRecDepth 4000 in
theorem yb_8_62 {sc : xm_Sc} {d : Nat} {h0 : Nat} {h1 : Nat} {i2 : Int32} {S : xm_PS}  : xm_R sc xt_M d 8 62 [.ref h0, .ref h1, .int i2] [] S = some (.inl none, S) := by
  refine yt_8_62.trans ?_
  simp only [xe_T]
set_option maxRecDepth 4000 in
theorem yb_9_0 {sc : xm_Sc} {d : Nat} {h0 : Nat} {h1 : Nat} {v2 : Value} {S : xm_PS}  : xm_R sc xt_M d 9 0 [.ref h0, .ref h1, v2] [] S = xm_R sc xt_M d 9 2 [.ref h0, .ref h1, .int 0] [] S := by
  refine yt_9_0.trans ?_
  simp only [yt_9_1, xp_I, List.set_cons_zero, List.set_cons_succ]
set_option maxRecDepth 4000 in
theorem yb_9_2 {sc : xm_Sc} {d : Nat} {h0 : Nat} {h1 : Nat} {i2 : Int32} {S : xm_PS}  : xm_R sc xt_M d 9 2 [.ref h0, .ref h1, .int i2] [] S = (if 40 ≤ i2 then xm_R sc xt_M d 9 32 [.ref h0, .ref h1, .int i2] [] S else if xm_isO S (.ref h0) 5 = true then ((xm_C sc xt_M d 94 [.ref h0, .retAddr 5] S).bind fun o2 => xm_rI o2 (fun n3 S1 => (if n3 = 0 then xm_R sc xt_M d 9 32 [.ref h0, .ref h1, .int i2] [] S1 else if xm_isO S1 (.ref h0) 5 = true then ((xm_C sc xt_M d 86 [.ref h0] S1).bind fun o5 => xm_r0 o5 (fun S4 => (xm_C sc xt_M d 10 [.ref h0, .ref h1] S4).bind fun o7 => xm_r0 o7 (fun S6 => xm_R sc xt_M d 9 2 [.ref h0, .ref h1, .int (i2 + 1)] [] S6) (fun e S => some (.inr e, S))) (fun e S => some (.inr e, S))) else none)) (fun e S => some (.inr e, S))) else none) := by
  refine yt_9_2.trans ?_
  simp only [yt_9_3, yt_9_5, yt_9_8, yt_9_9, yt_9_11, yt_9_14, yt_9_17, yt_9_18, yt_9_21, yt_9_22, yt_9_23, yt_9_26, yt_9_29, xk_xf, xl_A0, xl_A1, xl_I2, xp_I, xp_RS, xq_c0, xr_0, xr_1, List.set_cons_zero, List.set_cons_succ, List.cons_append, List.nil_append, Nat.reduceAdd]
set_option maxRecDepth 4000 in
theorem yb_9_32 {sc : xm_Sc} {d : Nat} {h0 : Nat} {h1 : Nat} {i2 : Int32} {S : xm_PS}  : xm_R sc xt_M d 9 32 [.ref h0, .ref h1, .int i2] [] S = if xm_isO S (.ref h0) 5 = true then ((xm_C sc xt_M d 94 [.ref h0, .retAddr 5] S).bind fun o2 => xm_rI o2 (fun n3 S1 => (if n3 = 0 then xm_R sc xt_M d 9 46 [.ref h0, .ref h1, .int i2] [] S1 else if xm_isO S1 (.ref h0) 5 = true then ((xm_C sc xt_M d 85 [.ref h0, .int 3] S1).bind fun o5 => xm_r0 o5 (fun S4 => xm_R sc xt_M d 9 46 [.ref h0, .ref h1, .int i2] [] S4) (fun e S => some (.inr e, S))) else none)) (fun e S => some (.inr e, S))) else none := by
  refine yt_9_32.trans ?_
  simp only [yt_9_33, yt_9_35, yt_9_38, yt_9_41, yt_9_42, yt_9_43, xk_xf, xl_A0, xp_I, xp_RS, xq_c0, xr_0, xr_1, List.cons_append, List.nil_append, Nat.reduceAdd]
set_option maxRecDepth 4000 in
theorem yb_9_46 {sc : xm_Sc} {d : Nat} {h0 : Nat} {h1 : Nat} {i2 : Int32} {S : xm_PS}  : xm_R sc xt_M d 9 46 [.ref h0, .ref h1, .int i2] [] S = some (.inl none, S) := by
  refine yt_9_46.trans ?_
  simp only [xe_T]
set_option maxRecDepth 4000 in
theorem yb_10_0 {sc : xm_Sc} {d : Nat} {h0 : Nat} {h1 : Nat} {v2 : Value} {v3 : Value} {v4 : Value} {S : xm_PS}  : xm_R sc xt_M d 10 0 [.ref h0, .ref h1, v2, v3, v4] [] S = (xm_gR S h1 4 0).bind fun n1 => (xm_gI S n1 2 2).bind fun n2 => if xm_isO S (.ref h0) 5 = true then ((xm_C sc xt_M d 99 [.ref h0, .int 0, .int (n2 - 1)] S).bind fun o4 => xm_rI o4 (fun n5 S3 => if xm_isO S3 (.ref h0) 5 = true then ((xm_C sc xt_M d 98 [.ref h0, .int 0, .int 99] S3).bind fun o7 => xm_rI o7 (fun n8 S6 => (xm_gR S6 h1 4 10).bind fun n9 => if xm_isO S6 (.ref n9) 3 = true then ((xm_C sc xt_M d 44 [.ref n9, .int n5, .int n8] S6).bind fun o11 => xm_rI o11 (fun n12 S10 => (if n12 = (-1) then xm_R sc xt_M d 10 41 [.ref h0, .ref h1, .int n5, .int n8, v4] [] S10 else if xm_isO S10 (.ref h0) 5 = true then ((xm_C sc xt_M d 85 [.ref h0, .int 4] S10).bind fun o14 => xm_r0 o14 (fun S13 => xm_R sc xt_M d 10 41 [.ref h0, .ref h1, .int n5, .int n8, v4] [] S13) (fun e S => some (.inr e, S))) else none)) (fun e S => some (.inr e, S))) else none) (fun e S => some (.inr e, S))) else none) (fun e S => some (.inr e, S))) else none := by
  refine yt_10_0.trans ?_
  simp only [yt_10_1, yt_10_2, yt_10_3, yt_10_6, yt_10_9, yt_10_10, yt_10_11, yt_10_14, yt_10_15, yt_10_16, yt_10_17, yt_10_19, yt_10_22, yt_10_23, yt_10_24, yt_10_27, yt_10_28, yt_10_29, yt_10_32, yt_10_33, yt_10_36, yt_10_37, yt_10_38, xk_xf, xl_A0, xl_A1, xl_I2, xl_I3, xp_I, xp_R, xp_RS, xq_c0, xr_0, xr_1, List.set_cons_zero, List.set_cons_succ, List.cons_append, List.nil_append, Nat.reduceAdd]
set_option maxRecDepth 4000 in
theorem yb_10_41 {sc : xm_Sc} {d : Nat} {h0 : Nat} {h1 : Nat} {i2 : Int32} {i3 : Int32} {v4 : Value} {S : xm_PS}  : xm_R sc xt_M d 10 41 [.ref h0, .ref h1, .int i2, .int i3, v4] [] S = if xm_isO S (.ref h0) 5 = true then ((xm_C sc xt_M d 86 [.ref h0] S).bind fun o2 => xm_r0 o2 (fun S1 => (xm_gR S1 h1 4 0).bind fun n3 => (xm_gI S1 n3 2 0).bind fun n4 => if xm_isO S1 (.ref h0) 5 = true then ((xm_C sc xt_M d 99 [.ref h0, .int 0, .int (n4 - 1)] S1).bind fun o6 => xm_rI o6 (fun n7 S5 => if xm_isO S5 (.ref h0) 5 = true then ((xm_C sc xt_M d 96 [.ref h0, .int 59] S5).bind fun o9 => xm_r0 o9 (fun S8 => if xm_isO S8 (.ref h1) 4 = true then ((xm_C sc xt_M d 56 [.ref h1, .int i2, .int i3, .int n7] S8).bind fun o11 => xm_r0 o11 (fun S10 => some (.inl none, S10)) (fun e S => some (.inr e, S))) else none) (fun e S => some (.inr e, S))) else none) (fun e S => some (.inr e, S))) else none) (fun e S => some (.inr e, S))) else none := by
  refine yt_10_41.trans ?_
  simp only [yt_10_42, yt_10_45, yt_10_46, yt_10_47, yt_10_48, yt_10_51, yt_10_54, yt_10_55, yt_10_56, yt_10_59, yt_10_61, yt_10_62, yt_10_64, yt_10_67, yt_10_68, yt_10_69, yt_10_70, yt_10_72, yt_10_75, xe_T, xk_xf, xl_A0, xl_A1, xl_I2, xl_I3, xl_I4, xp_I, xp_R, xp_RS, xq_c0, xr_0, xr_1, List.set_cons_zero, List.set_cons_succ, List.cons_append, List.nil_append, Nat.reduceAdd]
set_option maxRecDepth 4000 in
theorem yb_12_0 {sc : xm_Sc} {d : Nat} {h0 : Nat} {h1 : Nat} {i2 : Int32} {v3 : Value} {v4 : Value} {S : xm_PS}  : xm_R sc xt_M d 12 0 [.ref h0, .ref h1, .int i2, v3, v4] [] S = (xm_sF S h0 1 0 (.int 0)).bind fun S1 => if xm_isO S1 (.ref h0) 1 = true then ((xm_C sc xt_M d 14 [.ref h0, .int i2] S1).bind fun o3 => xm_r0 o3 (fun S2 => if xm_isO S2 (.ref h0) 1 = true then ((xm_C sc xt_M d 13 [.ref h0, .ref h1, .int i2] S2).bind fun o5 => xm_r0 o5 (fun S4 => if xm_isO S4 (.ref h1) 4 = true then ((xm_C sc xt_M d 62 [.ref h1, .int i2] S4).bind fun o7 => xm_rI o7 (fun n8 S6 => (if n8 = 0 then xm_R sc xt_M d 12 30 [.ref h0, .ref h1, .int i2, v3, v4] [] S6 else if xm_isO S6 (.ref h0) 1 = true then ((xm_C sc xt_M d 15 [.ref h0, .int 114] S6).bind fun o10 => xm_r0 o10 (fun S9 => xm_R sc xt_M d 12 30 [.ref h0, .ref h1, .int i2, v3, v4] [] S9) (fun e S => some (.inr e, S))) else none)) (fun e S => some (.inr e, S))) else none) (fun e S => some (.inr e, S))) else none) (fun e S => some (.inr e, S))) else none := by
  refine yt_12_0.trans ?_
  simp only [yt_12_1, yt_12_2, yt_12_5, yt_12_6, yt_12_7, yt_12_10, yt_12_11, yt_12_12, yt_12_13, yt_12_16, yt_12_17, yt_12_18, yt_12_21, yt_12_24, yt_12_25, yt_12_27, xk_xf, xl_A0, xl_A1, xl_I2, xp_I, xp_R, xp_RS, xq_c0, xr_0, xr_1, List.cons_append, List.nil_append, Nat.reduceAdd]
set_option maxRecDepth 4000 in
theorem yb_12_30 {sc : xm_Sc} {d : Nat} {h0 : Nat} {h1 : Nat} {i2 : Int32} {v3 : Value} {v4 : Value} {S : xm_PS}  : xm_R sc xt_M d 12 30 [.ref h0, .ref h1, .int i2, v3, v4] [] S = (xm_gR S h1 4 10).bind fun n1 => xm_R sc xt_M d 12 38 [.ref h0, .ref h1, .int i2, .ref n1, .int 0] [] S := by
  refine yt_12_30.trans ?_
  simp only [yt_12_31, yt_12_34, yt_12_35, yt_12_36, xl_A1, xp_I, xp_R, List.set_cons_zero, List.set_cons_succ]
set_option maxRecDepth 4000 in
theorem yb_12_38 {sc : xm_Sc} {d : Nat} {h0 : Nat} {h1 : Nat} {i2 : Int32} {h3 : Nat} {i4 : Int32} {S : xm_PS}  : xm_R sc xt_M d 12 38 [.ref h0, .ref h1, .int i2, .ref h3, .int i4] [] S = (xm_gI S h3 3 0).bind fun n1 => (if n1 ≤ i4 then some (.inl none, S) else (xm_gR S h3 3 1).bind fun n2 => (xm_aI S n2 0 i4).bind fun n3 => (if n3 = i2 then if xm_isO S (.ref h0) 1 = true then ((xm_C sc xt_M d 15 [.ref h0, .int 32] S).bind fun o5 => xm_r0 o5 (fun S4 => (xm_gR S4 h3 3 2).bind fun n6 => (xm_aI S4 n6 0 i4).bind fun n7 => if xm_isO S4 (.ref h0) 1 = true then ((xm_C sc xt_M d 14 [.ref h0, .int n7] S4).bind fun o9 => xm_r0 o9 (fun S8 => if xm_isO S8 (.ref h0) 1 = true then ((xm_C sc xt_M d 15 [.ref h0, .int 58] S8).bind fun o11 => xm_r0 o11 (fun S10 => (xm_gR S10 h3 3 3).bind fun n12 => (xm_aI S10 n12 0 i4).bind fun n13 => if xm_isO S10 (.ref h0) 1 = true then ((xm_C sc xt_M d 14 [.ref h0, .int n13] S10).bind fun o15 => xm_r0 o15 (fun S14 => xm_R sc xt_M d 12 92 [.ref h0, .ref h1, .int i2, .ref h3, .int i4] [] S14) (fun e S => some (.inr e, S))) else none) (fun e S => some (.inr e, S))) else none) (fun e S => some (.inr e, S))) else none) (fun e S => some (.inr e, S))) else none else xm_R sc xt_M d 12 92 [.ref h0, .ref h1, .int i2, .ref h3, .int i4] [] S)) := by
  refine yt_12_38.trans ?_
  simp only [yt_12_40, yt_12_41, yt_12_44, yt_12_47, yt_12_48, yt_12_51, yt_12_53, yt_12_54, yt_12_55, yt_12_58, yt_12_59, yt_12_61, yt_12_64, yt_12_65, yt_12_66, yt_12_69, yt_12_71, yt_12_72, yt_12_75, yt_12_76, yt_12_78, yt_12_81, yt_12_82, yt_12_83, yt_12_86, yt_12_88, yt_12_89, yt_12_98, xe_T, xk_xf, xl_A0, xl_A3, xl_I2, xl_I4, xp_I, xp_R, xp_RS, xq_c0, xr_0, List.cons_append, List.nil_append, Nat.reduceAdd]
set_option maxRecDepth 4000 in
theorem yb_12_92 {sc : xm_Sc} {d : Nat} {h0 : Nat} {h1 : Nat} {i2 : Int32} {h3 : Nat} {i4 : Int32} {S : xm_PS}  : xm_R sc xt_M d 12 92 [.ref h0, .ref h1, .int i2, .ref h3, .int i4] [] S = xm_R sc xt_M d 12 38 [.ref h0, .ref h1, .int i2, .ref h3, .int (i4 + 1)] [] S := by
  refine yt_12_92.trans ?_
  simp only [yt_12_95, xl_I4, List.set_cons_zero, List.set_cons_succ]
set_option maxRecDepth 4000 in
theorem yb_13_0 {sc : xm_Sc} {d : Nat} {h0 : Nat} {h1 : Nat} {i2 : Int32} {S : xm_PS}  : xm_R sc xt_M d 13 0 [.ref h0, .ref h1, .int i2] [] S = (xm_gR S h1 4 6).bind fun n1 => (xm_aI S n1 0 i2).bind fun n2 => (if n2.toInt = 0 then if xm_isO S (.ref h0) 1 = true then ((xm_C sc xt_M d 15 [.ref h0, .int 64] S).bind fun o24 => xm_r0 o24 (fun S23 => (xm_gR S23 h1 4 7).bind fun n25 => (xm_aI S23 n25 0 i2).bind fun n26 => if xm_isO S23 (.ref h0) 1 = true then ((xm_C sc xt_M d 14 [.ref h0, .int n26] S23).bind fun o28 => xm_r0 o28 (fun S27 => xm_R sc xt_M d 13 118 [.ref h0, .ref h1, .int i2] [] S27) (fun e S => some (.inr e, S))) else none) (fun e S => some (.inr e, S))) else none else (if n2.toInt = 1 then if xm_isO S (.ref h0) 1 = true then ((xm_C sc xt_M d 15 [.ref h0, .int 62] S).bind fun o18 => xm_r0 o18 (fun S17 => (xm_gR S17 h1 4 7).bind fun n19 => (xm_aI S17 n19 0 i2).bind fun n20 => if xm_isO S17 (.ref h0) 1 = true then ((xm_C sc xt_M d 14 [.ref h0, .int n20] S17).bind fun o22 => xm_r0 o22 (fun S21 => xm_R sc xt_M d 13 118 [.ref h0, .ref h1, .int i2] [] S21) (fun e S => some (.inr e, S))) else none) (fun e S => some (.inr e, S))) else none else (if n2.toInt = 2 then if xm_isO S (.ref h0) 1 = true then ((xm_C sc xt_M d 15 [.ref h0, .int 33] S).bind fun o12 => xm_r0 o12 (fun S11 => (xm_gR S11 h1 4 7).bind fun n13 => (xm_aI S11 n13 0 i2).bind fun n14 => if xm_isO S11 (.ref h0) 1 = true then ((xm_C sc xt_M d 14 [.ref h0, .int n14] S11).bind fun o16 => xm_r0 o16 (fun S15 => xm_R sc xt_M d 13 118 [.ref h0, .ref h1, .int i2] [] S15) (fun e S => some (.inr e, S))) else none) (fun e S => some (.inr e, S))) else none else (if n2.toInt = 3 then if xm_isO S (.ref h0) 1 = true then ((xm_C sc xt_M d 15 [.ref h0, .int 45] S).bind fun o6 => xm_r0 o6 (fun S5 => (xm_gR S5 h1 4 8).bind fun n7 => (xm_aI S5 n7 0 i2).bind fun n8 => if xm_isO S5 (.ref h0) 1 = true then ((xm_C sc xt_M d 14 [.ref h0, .int n8] S5).bind fun o10 => xm_r0 o10 (fun S9 => xm_R sc xt_M d 13 118 [.ref h0, .ref h1, .int i2] [] S9) (fun e S => some (.inr e, S))) else none) (fun e S => some (.inr e, S))) else none else if xm_isO S (.ref h0) 1 = true then ((xm_C sc xt_M d 15 [.ref h0, .int 63] S).bind fun o4 => xm_r0 o4 (fun S3 => xm_R sc xt_M d 13 118 [.ref h0, .ref h1, .int i2] [] S3) (fun e S => some (.inr e, S))) else none)))) := by
  refine yt_13_0.trans ?_
  simp only [yt_13_1, yt_13_4, yt_13_5, yt_13_6, yt_13_36, yt_13_37, yt_13_39, yt_13_42, yt_13_43, yt_13_44, yt_13_47, yt_13_48, yt_13_49, yt_13_52, yt_13_55, yt_13_56, yt_13_58, yt_13_61, yt_13_62, yt_13_63, yt_13_66, yt_13_67, yt_13_68, yt_13_71, yt_13_74, yt_13_75, yt_13_77, yt_13_80, yt_13_81, yt_13_82, yt_13_85, yt_13_86, yt_13_87, yt_13_90, yt_13_93, yt_13_94, yt_13_96, yt_13_99, yt_13_100, yt_13_101, yt_13_104, yt_13_105, yt_13_106, yt_13_109, yt_13_112, yt_13_113, yt_13_115, xk_xf, xl_A0, xl_A1, xl_I2, xp_I, xp_R, xp_RS, xq_c0, xr_0, List.cons_append, List.nil_append, Nat.reduceAdd]
set_option maxRecDepth 4000 in
theorem yb_13_118 {sc : xm_Sc} {d : Nat} {h0 : Nat} {h1 : Nat} {i2 : Int32} {S : xm_PS}  : xm_R sc xt_M d 13 118 [.ref h0, .ref h1, .int i2] [] S = some (.inl none, S) := by
  refine yt_13_118.trans ?_
  simp only [xe_T]
set_option maxRecDepth 4000 in
theorem yb_14_0 {sc : xm_Sc} {d : Nat} {h0 : Nat} {i1 : Int32} {S : xm_PS}  : xm_R sc xt_M d 14 0 [.ref h0, .int i1] [] S = (if i1 < 10 then xm_R sc xt_M d 14 17 [.ref h0, .int i1] [] S else if (10 : Int32) = 0 then none else if xm_isO S (.ref h0) 1 = true then ((xm_C sc xt_M d 15 [.ref h0, .int (48 + (i1 / 10))] S).bind fun o2 => xm_r0 o2 (fun S1 => xm_R sc xt_M d 14 17 [.ref h0, .int i1] [] S1) (fun e S => some (.inr e, S))) else none) := by
  refine yt_14_0.trans ?_
  simp only [yt_14_1, yt_14_3, yt_14_6, yt_14_7, yt_14_9, yt_14_10, yt_14_12, yt_14_13, yt_14_14, xk_xf, xl_A0, xl_I1, xp_I, xp_RS, xq_c0, xr_0, List.cons_append, List.nil_append, Nat.reduceAdd]
set_option maxRecDepth 4000 in
theorem yb_14_17 {sc : xm_Sc} {d : Nat} {h0 : Nat} {i1 : Int32} {S : xm_PS}  : xm_R sc xt_M d 14 17 [.ref h0, .int i1] [] S = if (10 : Int32) = 0 then none else if xm_isO S (.ref h0) 1 = true then ((xm_C sc xt_M d 15 [.ref h0, .int (48 + (i1 - i1 / 10 * 10))] S).bind fun o2 => xm_r0 o2 (fun S1 => some (.inl none, S1)) (fun e S => some (.inr e, S))) else none := by
  refine yt_14_17.trans ?_
  simp only [yt_14_18, yt_14_20, yt_14_21, yt_14_23, yt_14_24, yt_14_25, yt_14_28, xe_T, xk_xf, xl_A0, xl_I1, xp_I, xp_RS, xq_c0, xr_0, List.cons_append, List.nil_append, Nat.reduceAdd]
set_option maxRecDepth 4000 in
theorem yb_15_0 {sc : xm_Sc} {d : Nat} {h0 : Nat} {i1 : Int32} {S : xm_PS}  : xm_R sc xt_M d 15 0 [.ref h0, .int i1] [] S = (xm_gI S h0 1 0).bind fun n1 => (if 256 ≤ n1 then xm_R sc xt_M d 15 31 [.ref h0, .int i1] [] S else (xm_gR S h0 1 1).bind fun n2 => (xm_gI S h0 1 0).bind fun n3 => (xm_wI S n2 1 n3 i1.toInt8.toInt32.toInt8.toInt32).bind fun S4 => (xm_gI S4 h0 1 0).bind fun n5 => (xm_sF S4 h0 1 0 (.int (n5 + 1))).bind fun S6 => xm_R sc xt_M d 15 31 [.ref h0, .int i1] [] S6) := by
  refine yt_15_0.trans ?_
  simp only [yt_15_1, yt_15_4, yt_15_7, yt_15_10, yt_15_11, yt_15_14, yt_15_15, yt_15_18, yt_15_19, yt_15_20, yt_15_21, yt_15_22, yt_15_23, yt_15_26, yt_15_27, yt_15_28, xl_A0, xl_I1, xp_I, xp_R]
set_option maxRecDepth 4000 in
theorem yb_15_31 {sc : xm_Sc} {d : Nat} {h0 : Nat} {i1 : Int32} {S : xm_PS}  : xm_R sc xt_M d 15 31 [.ref h0, .int i1] [] S = some (.inl none, S) := by
  refine yt_15_31.trans ?_
  simp only [xe_T]
set_option maxRecDepth 4000 in
theorem yb_17_0 {sc : xm_Sc} {d : Nat} {h0 : Nat} {i1 : Int32} {S : xm_PS}  : xm_R sc xt_M d 17 0 [.ref h0, .int i1] [] S = (xm_sF S h0 2 0 (.int i1)).bind fun S1 => (xm_sF S1 h0 2 1 (.int 0)).bind fun S2 => (xm_sF S2 h0 2 2 (.int 0)).bind fun S3 => some (.inl none, S3) := by
  refine yt_17_0.trans ?_
  simp only [yt_17_1, yt_17_2, yt_17_5, yt_17_6, yt_17_7, yt_17_10, yt_17_11, yt_17_12, yt_17_15, xe_T, xl_A0, xl_I1, xp_I, xp_R]
set_option maxRecDepth 4000 in
theorem yb_18_0 {sc : xm_Sc} {d : Nat} {h0 : Nat} {i1 : Int32} {S : xm_PS}  : xm_R sc xt_M d 18 0 [.ref h0, .int i1] [] S = (xm_gI S h0 2 1).bind fun n1 => (if 4 ≤ n1 then xm_R sc xt_M d 18 48 [.ref h0, .int i1] [] S else (xm_gR S h0 2 3).bind fun n2 => (xm_gI S h0 2 1).bind fun n3 => (xm_wI S n2 0 n3 i1).bind fun S4 => (xm_gR S4 h0 2 4).bind fun n5 => (xm_gI S4 h0 2 1).bind fun n6 => (xm_wI S4 n5 0 n6 0).bind fun S7 => (xm_gR S7 h0 2 5).bind fun n8 => (xm_gI S7 h0 2 1).bind fun n9 => (xm_wI S7 n8 0 n9 0).bind fun S10 => (xm_gI S10 h0 2 1).bind fun n11 => (xm_sF S10 h0 2 1 (.int (n11 + 1))).bind fun S12 => xm_R sc xt_M d 18 48 [.ref h0, .int i1] [] S12) := by
  refine yt_18_0.trans ?_
  simp only [yt_18_1, yt_18_4, yt_18_5, yt_18_8, yt_18_9, yt_18_12, yt_18_13, yt_18_16, yt_18_17, yt_18_18, yt_18_19, yt_18_22, yt_18_23, yt_18_26, yt_18_27, yt_18_28, yt_18_29, yt_18_32, yt_18_33, yt_18_36, yt_18_37, yt_18_38, yt_18_39, yt_18_40, yt_18_43, yt_18_44, yt_18_45, xl_A0, xl_I1, xp_I, xp_R]
set_option maxRecDepth 4000 in
theorem yb_18_48 {sc : xm_Sc} {d : Nat} {h0 : Nat} {i1 : Int32} {S : xm_PS}  : xm_R sc xt_M d 18 48 [.ref h0, .int i1] [] S = some (.inl none, S) := by
  refine yt_18_48.trans ?_
  simp only [xe_T]
set_option maxRecDepth 4000 in
theorem yb_19_0 {sc : xm_Sc} {d : Nat} {h0 : Nat} {i1 : Int32} {v2 : Value} {S : xm_PS}  : xm_R sc xt_M d 19 0 [.ref h0, .int i1, v2] [] S = (xm_gI S h0 2 1).bind fun n1 => (if (n1 - 1) < 0 then xm_R sc xt_M d 19 61 [.ref h0, .int i1, .int (n1 - 1)] [] S else (xm_gR S h0 2 4).bind fun n2 => (xm_aI S n2 0 (n1 - 1)).bind fun n3 => (if 8 ≤ n3 then xm_R sc xt_M d 19 61 [.ref h0, .int i1, .int (n1 - 1)] [] S else (xm_gR S h0 2 7).bind fun n4 => (xm_gR S h0 2 4).bind fun n5 => (xm_aI S n5 0 (n1 - 1)).bind fun n6 => (xm_wI S n4 0 (((n1 - 1) * 8) + n6) i1).bind fun S7 => (xm_gR S7 h0 2 5).bind fun n8 => (xm_aI S7 n8 0 (n1 - 1)).bind fun n9 => (xm_wI S7 n8 0 (n1 - 1) (n9 ||| (1 <<< (i1 &&& 31)))).bind fun S10 => (xm_gR S10 h0 2 4).bind fun n11 => (xm_aI S10 n11 0 (n1 - 1)).bind fun n12 => (xm_wI S10 n11 0 (n1 - 1) (n12 + 1)).bind fun S13 => xm_R sc xt_M d 19 61 [.ref h0, .int i1, .int (n1 - 1)] [] S13)) := by
  refine yt_19_0.trans ?_
  simp only [yt_19_1, yt_19_4, yt_19_5, yt_19_6, yt_19_7, yt_19_8, yt_19_11, yt_19_12, yt_19_15, yt_19_16, yt_19_17, yt_19_19, yt_19_22, yt_19_23, yt_19_26, yt_19_27, yt_19_29, yt_19_30, yt_19_31, yt_19_34, yt_19_35, yt_19_36, yt_19_37, yt_19_38, yt_19_39, yt_19_40, yt_19_43, yt_19_44, yt_19_45, yt_19_46, yt_19_47, yt_19_48, yt_19_49, yt_19_50, yt_19_51, yt_19_52, yt_19_55, yt_19_56, yt_19_57, yt_19_58, yt_19_59, yt_19_60, xl_A0, xl_I1, xl_I2, xp_I, xp_R, List.set_cons_zero, List.set_cons_succ]
set_option maxRecDepth 4000 in
theorem yb_19_61 {sc : xm_Sc} {d : Nat} {h0 : Nat} {i1 : Int32} {i2 : Int32} {S : xm_PS}  : xm_R sc xt_M d 19 61 [.ref h0, .int i1, .int i2] [] S = some (.inl none, S) := by
  refine yt_19_61.trans ?_
  simp only [xe_T]
set_option maxRecDepth 4000 in
theorem yb_20_0 {sc : xm_Sc} {d : Nat} {h0 : Nat} {i1 : Int32} {S : xm_PS}  : xm_R sc xt_M d 20 0 [.ref h0, .int i1] [] S = (xm_gI S h0 2 2).bind fun n1 => (if 20 ≤ n1 then xm_R sc xt_M d 20 29 [.ref h0, .int i1] [] S else (xm_gR S h0 2 6).bind fun n2 => (xm_gI S h0 2 2).bind fun n3 => (xm_wI S n2 0 n3 i1).bind fun S4 => (xm_gI S4 h0 2 2).bind fun n5 => (xm_sF S4 h0 2 2 (.int (n5 + 1))).bind fun S6 => xm_R sc xt_M d 20 29 [.ref h0, .int i1] [] S6) := by
  refine yt_20_0.trans ?_
  simp only [yt_20_1, yt_20_4, yt_20_6, yt_20_9, yt_20_10, yt_20_13, yt_20_14, yt_20_17, yt_20_18, yt_20_19, yt_20_20, yt_20_21, yt_20_24, yt_20_25, yt_20_26, xl_A0, xl_I1, xp_I, xp_R]
set_option maxRecDepth 4000 in
theorem yb_20_29 {sc : xm_Sc} {d : Nat} {h0 : Nat} {i1 : Int32} {S : xm_PS}  : xm_R sc xt_M d 20 29 [.ref h0, .int i1] [] S = some (.inl none, S) := by
  refine yt_20_29.trans ?_
  simp only [xe_T]
set_option maxRecDepth 4000 in
theorem yb_21_0 {sc : xm_Sc} {d : Nat} {h0 : Nat} {i1 : Int32} {i2 : Int32} {S : xm_PS}  : xm_R sc xt_M d 21 0 [.ref h0, .int i1, .int i2] [] S = (xm_gR S h0 2 7).bind fun n1 => (xm_aI S n1 0 ((i1 * 8) + i2)).bind fun n2 => some (.inl (some (.int n2)), S) := by
  refine yt_21_0.trans ?_
  simp only [yt_21_1, yt_21_4, yt_21_5, yt_21_7, yt_21_8, yt_21_9, yt_21_10, yt_21_11, xe_T, xl_A0, xl_I1, xl_I2, xp_I, xp_R]
set_option maxRecDepth 4000 in
theorem yb_22_0 {sc : xm_Sc} {d : Nat} {h0 : Nat} {i1 : Int32} {i2 : Int32} {S : xm_PS}  : xm_R sc xt_M d 22 0 [.ref h0, .int i1, .int i2] [] S = (xm_gR S h0 2 4).bind fun n1 => (xm_aI S n1 0 i1).bind fun n2 => (if n2 ≤ (i2 + 1) then some (.inl (some (.int 0)), S) else some (.inl (some (.int (i2 + 1))), S)) := by
  refine yt_22_0.trans ?_
  simp only [yt_22_1, yt_22_2, yt_22_3, yt_22_4, yt_22_7, yt_22_8, yt_22_9, yt_22_12, yt_22_13, yt_22_14, yt_22_15, yt_22_18, yt_22_19, xe_T, xl_A0, xl_I1, xl_I2, xp_I, xp_R]
set_option maxRecDepth 4000 in
theorem yb_23_0 {sc : xm_Sc} {d : Nat} {h0 : Nat} {i1 : Int32} {i2 : Int32} {S : xm_PS}  : xm_R sc xt_M d 23 0 [.ref h0, .int i1, .int i2] [] S = (xm_gR S h0 2 5).bind fun n1 => (xm_aI S n1 0 i1).bind fun n2 => (if ((n2 >>> (i2 &&& 31)) &&& 1) = 1 then some (.inl (some (.int 1)), S) else some (.inl (some (.int 0)), S)) := by
  refine yt_23_0.trans ?_
  simp only [yt_23_1, yt_23_4, yt_23_5, yt_23_6, yt_23_7, yt_23_8, yt_23_9, yt_23_10, yt_23_11, yt_23_14, yt_23_15, yt_23_18, yt_23_19, xb_0, xb_1, xe_T, xl_A0, xl_I1, xl_I2, xp_I, xp_R]
set_option maxRecDepth 4000 in
theorem yb_24_0 {sc : xm_Sc} {d : Nat} {h0 : Nat} {i1 : Int32} {v2 : Value} {v3 : Value} {S : xm_PS}  : xm_R sc xt_M d 24 0 [.ref h0, .int i1, v2, v3] [] S = xm_R sc xt_M d 24 4 [.ref h0, .int i1, .int 0, .int 0] [] S := by
  refine yt_24_0.trans ?_
  simp only [yt_24_1, yt_24_2, yt_24_3, xp_I, List.set_cons_zero, List.set_cons_succ]
set_option maxRecDepth 4000 in
theorem yb_24_4 {sc : xm_Sc} {d : Nat} {h0 : Nat} {i1 : Int32} {i2 : Int32} {i3 : Int32} {S : xm_PS}  : xm_R sc xt_M d 24 4 [.ref h0, .int i1, .int i2, .int i3] [] S = (xm_gI S h0 2 1).bind fun n1 => (if n1 ≤ i3 then some (.inl (some (.int i2)), S) else if xm_isO S (.ref h0) 2 = true then ((xm_C sc xt_M d 23 [.ref h0, .int i3, .int i1] S).bind fun o3 => xm_rI o3 (fun n4 S2 => (if n4 = 0 then xm_R sc xt_M d 24 24 [.ref h0, .int i1, .int i2, .int i3] [] S2 else xm_R sc xt_M d 24 24 [.ref h0, .int i1, .int (i2 + 1), .int i3] [] S2)) (fun e S => some (.inr e, S))) else none) := by
  refine yt_24_4.trans ?_
  simp only [yt_24_5, yt_24_6, yt_24_9, yt_24_12, yt_24_13, yt_24_14, yt_24_15, yt_24_18, yt_24_21, yt_24_30, yt_24_31, xe_T, xk_xf, xl_A0, xl_I1, xl_I2, xl_I3, xp_I, xp_R, xp_RS, xq_c0, xr_1, List.set_cons_zero, List.set_cons_succ, List.cons_append, List.nil_append, Nat.reduceAdd]
set_option maxRecDepth 4000 in
theorem yb_24_24 {sc : xm_Sc} {d : Nat} {h0 : Nat} {i1 : Int32} {i2 : Int32} {i3 : Int32} {S : xm_PS}  : xm_R sc xt_M d 24 24 [.ref h0, .int i1, .int i2, .int i3] [] S = xm_R sc xt_M d 24 4 [.ref h0, .int i1, .int i2, .int (i3 + 1)] [] S := by
  refine yt_24_24.trans ?_
  simp only [yt_24_27, xl_I3, List.set_cons_zero, List.set_cons_succ]
set_option maxRecDepth 4000 in
theorem yb_25_0 {sc : xm_Sc} {d : Nat} {h0 : Nat} {i1 : Int32} {v2 : Value} {v3 : Value} {S : xm_PS}  : xm_R sc xt_M d 25 0 [.ref h0, .int i1, v2, v3] [] S = xm_R sc xt_M d 25 4 [.ref h0, .int i1, .int 0, .int 0] [] S := by
  refine yt_25_0.trans ?_
  simp only [yt_25_1, yt_25_2, yt_25_3, xp_I, List.set_cons_zero, List.set_cons_succ]
set_option maxRecDepth 4000 in
theorem yb_25_4 {sc : xm_Sc} {d : Nat} {h0 : Nat} {i1 : Int32} {i2 : Int32} {i3 : Int32} {S : xm_PS}  : xm_R sc xt_M d 25 4 [.ref h0, .int i1, .int i2, .int i3] [] S = (xm_gI S h0 2 2).bind fun n1 => (if n1 ≤ i3 then some (.inl (some (.int i2)), S) else (xm_gR S h0 2 6).bind fun n2 => (xm_aI S n2 0 i3).bind fun n3 => (if n3 = i1 then xm_R sc xt_M d 25 25 [.ref h0, .int i1, .int (i2 + 1), .int i3] [] S else xm_R sc xt_M d 25 25 [.ref h0, .int i1, .int i2, .int i3] [] S)) := by
  refine yt_25_4.trans ?_
  simp only [yt_25_5, yt_25_6, yt_25_9, yt_25_12, yt_25_13, yt_25_16, yt_25_17, yt_25_18, yt_25_19, yt_25_22, yt_25_31, yt_25_32, xe_T, xl_A0, xl_I1, xl_I2, xl_I3, xp_I, xp_R, List.set_cons_zero, List.set_cons_succ]
set_option maxRecDepth 4000 in
theorem yb_25_25 {sc : xm_Sc} {d : Nat} {h0 : Nat} {i1 : Int32} {i2 : Int32} {i3 : Int32} {S : xm_PS}  : xm_R sc xt_M d 25 25 [.ref h0, .int i1, .int i2, .int i3] [] S = xm_R sc xt_M d 25 4 [.ref h0, .int i1, .int i2, .int (i3 + 1)] [] S := by
  refine yt_25_25.trans ?_
  simp only [yt_25_28, xl_I3, List.set_cons_zero, List.set_cons_succ]
set_option maxRecDepth 4000 in
theorem yb_37_0 {sc : xm_Sc} {d : Nat} {h0 : Nat} {S : xm_PS}  : xm_R sc xt_M d 37 0 [.ref h0] [] S = (xm_sF S h0 3 0 (.int 0)).bind fun S1 => some (.inl none, S1) := by
  refine yt_37_0.trans ?_
  simp only [yt_37_1, yt_37_2, yt_37_5, xe_T, xl_A0, xp_I, xp_R]
set_option maxRecDepth 4000 in
theorem yb_38_0 {sc : xm_Sc} {d : Nat} {h0 : Nat} {i1 : Int32} {i2 : Int32} {i3 : Int32} {S : xm_PS}  : xm_R sc xt_M d 38 0 [.ref h0, .int i1, .int i2, .int i3] [] S = (xm_gI S h0 3 0).bind fun n1 => (if 40 ≤ n1 then xm_R sc xt_M d 38 49 [.ref h0, .int i1, .int i2, .int i3] [] S else (xm_gR S h0 3 1).bind fun n2 => (xm_gI S h0 3 0).bind fun n3 => (xm_wI S n2 0 n3 i1).bind fun S4 => (xm_gR S4 h0 3 2).bind fun n5 => (xm_gI S4 h0 3 0).bind fun n6 => (xm_wI S4 n5 0 n6 i2).bind fun S7 => (xm_gR S7 h0 3 3).bind fun n8 => (xm_gI S7 h0 3 0).bind fun n9 => (xm_wI S7 n8 0 n9 i3).bind fun S10 => (xm_gI S10 h0 3 0).bind fun n11 => (xm_sF S10 h0 3 0 (.int (n11 + 1))).bind fun S12 => xm_R sc xt_M d 38 49 [.ref h0, .int i1, .int i2, .int i3] [] S12) := by
  refine yt_38_0.trans ?_
  simp only [yt_38_1, yt_38_4, yt_38_6, yt_38_9, yt_38_10, yt_38_13, yt_38_14, yt_38_17, yt_38_18, yt_38_19, yt_38_20, yt_38_23, yt_38_24, yt_38_27, yt_38_28, yt_38_29, yt_38_30, yt_38_33, yt_38_34, yt_38_37, yt_38_38, yt_38_39, yt_38_40, yt_38_41, yt_38_44, yt_38_45, yt_38_46, xl_A0, xl_I1, xl_I2, xl_I3, xp_I, xp_R]
set_option maxRecDepth 4000 in
theorem yb_38_49 {sc : xm_Sc} {d : Nat} {h0 : Nat} {i1 : Int32} {i2 : Int32} {i3 : Int32} {S : xm_PS}  : xm_R sc xt_M d 38 49 [.ref h0, .int i1, .int i2, .int i3] [] S = some (.inl none, S) := by
  refine yt_38_49.trans ?_
  simp only [xe_T]
set_option maxRecDepth 4000 in
theorem yb_39_0 {sc : xm_Sc} {d : Nat} {h0 : Nat} {i1 : Int32} {v2 : Value} {S : xm_PS}  : xm_R sc xt_M d 39 0 [.ref h0, .int i1, v2] [] S = (if i1 < 0 then xm_R sc xt_M d 39 12 [.ref h0, .int i1, v2] [] S else (xm_gI S h0 3 0).bind fun n1 => (if i1 < n1 then (xm_gI S h0 3 0).bind fun n2 => (xm_sF S h0 3 0 (.int (n2 - 1))).bind fun S3 => xm_R sc xt_M d 39 25 [.ref h0, .int i1, .int i1] [] S3 else xm_R sc xt_M d 39 12 [.ref h0, .int i1, v2] [] S)) := by
  refine yt_39_0.trans ?_
  simp only [yt_39_1, yt_39_4, yt_39_5, yt_39_6, yt_39_9, yt_39_13, yt_39_14, yt_39_15, yt_39_18, yt_39_19, yt_39_20, yt_39_23, yt_39_24, xl_A0, xl_I1, xp_I, xp_R, List.set_cons_zero, List.set_cons_succ]
set_option maxRecDepth 4000 in
theorem yb_39_12 {sc : xm_Sc} {d : Nat} {h0 : Nat} {i1 : Int32} {v2 : Value} {S : xm_PS}  : xm_R sc xt_M d 39 12 [.ref h0, .int i1, v2] [] S = some (.inl none, S) := by
  refine yt_39_12.trans ?_
  simp only [xe_T]
set_option maxRecDepth 4000 in
theorem yb_39_25 {sc : xm_Sc} {d : Nat} {h0 : Nat} {i1 : Int32} {i2 : Int32} {S : xm_PS}  : xm_R sc xt_M d 39 25 [.ref h0, .int i1, .int i2] [] S = (xm_gI S h0 3 0).bind fun n1 => (if n1 ≤ i2 then some (.inl none, S) else (xm_gR S h0 3 1).bind fun n2 => (xm_gR S h0 3 1).bind fun n3 => (xm_aI S n3 0 (i2 + 1)).bind fun n4 => (xm_wI S n2 0 i2 n4).bind fun S5 => (xm_gR S5 h0 3 2).bind fun n6 => (xm_gR S5 h0 3 2).bind fun n7 => (xm_aI S5 n7 0 (i2 + 1)).bind fun n8 => (xm_wI S5 n6 0 i2 n8).bind fun S9 => (xm_gR S9 h0 3 3).bind fun n10 => (xm_gR S9 h0 3 3).bind fun n11 => (xm_aI S9 n11 0 (i2 + 1)).bind fun n12 => (xm_wI S9 n10 0 i2 n12).bind fun S13 => xm_R sc xt_M d 39 25 [.ref h0, .int i1, .int (i2 + 1)] [] S13) := by
  refine yt_39_25.trans ?_
  simp only [yt_39_26, yt_39_27, yt_39_30, yt_39_33, yt_39_34, yt_39_37, yt_39_38, yt_39_39, yt_39_42, yt_39_43, yt_39_44, yt_39_45, yt_39_46, yt_39_47, yt_39_48, yt_39_51, yt_39_52, yt_39_53, yt_39_56, yt_39_57, yt_39_58, yt_39_59, yt_39_60, yt_39_61, yt_39_62, yt_39_65, yt_39_66, yt_39_67, yt_39_70, yt_39_71, yt_39_72, yt_39_73, yt_39_74, yt_39_75, yt_39_78, yt_39_81, xe_T, xl_A0, xl_I2, xp_I, xp_R, List.set_cons_zero, List.set_cons_succ]
set_option maxRecDepth 4000 in
theorem yb_40_0 {sc : xm_Sc} {d : Nat} {h0 : Nat} {i1 : Int32} {v2 : Value} {S : xm_PS}  : xm_R sc xt_M d 40 0 [.ref h0, .int i1, v2] [] S = xm_R sc xt_M d 40 2 [.ref h0, .int i1, .int 0] [] S := by
  refine yt_40_0.trans ?_
  simp only [yt_40_1, xp_I, List.set_cons_zero, List.set_cons_succ]
set_option maxRecDepth 4000 in
theorem yb_40_2 {sc : xm_Sc} {d : Nat} {h0 : Nat} {i1 : Int32} {i2 : Int32} {S : xm_PS}  : xm_R sc xt_M d 40 2 [.ref h0, .int i1, .int i2] [] S = (if 20 ≤ i2 then (xm_gI S h0 3 0).bind fun n1 => xm_R sc xt_M d 40 28 [.ref h0, .int i1, .int (n1 - 1)] [] S else (xm_gR S h0 3 4).bind fun n2 => (xm_wI S n2 0 i2 (-1)).bind fun S3 => xm_R sc xt_M d 40 2 [.ref h0, .int i1, .int (i2 + 1)] [] S3) := by
  refine yt_40_2.trans ?_
  simp only [yt_40_3, yt_40_5, yt_40_8, yt_40_9, yt_40_12, yt_40_13, yt_40_14, yt_40_15, yt_40_18, yt_40_21, yt_40_22, yt_40_25, yt_40_26, yt_40_27, xl_A0, xl_I2, xp_I, xp_R, List.set_cons_zero, List.set_cons_succ]
set_option maxRecDepth 4000 in
theorem yb_40_28 {sc : xm_Sc} {d : Nat} {h0 : Nat} {i1 : Int32} {i2 : Int32} {S : xm_PS}  : xm_R sc xt_M d 40 28 [.ref h0, .int i1, .int i2] [] S = (if i2 < 0 then some (.inl none, S) else (xm_gR S h0 3 3).bind fun n1 => (xm_aI S n1 0 i2).bind fun n2 => (if ((i1 >>> (n2 &&& 31)) &&& 1) = 1 then (xm_gR S h0 3 4).bind fun n3 => (xm_gR S h0 3 1).bind fun n4 => (xm_aI S n4 0 i2).bind fun n5 => (xm_wI S n3 0 n5 i2).bind fun S6 => xm_R sc xt_M d 40 58 [.ref h0, .int i1, .int i2] [] S6 else xm_R sc xt_M d 40 58 [.ref h0, .int i1, .int i2] [] S)) := by
  refine yt_40_28.trans ?_
  simp only [yt_40_29, yt_40_32, yt_40_33, yt_40_34, yt_40_37, yt_40_38, yt_40_39, yt_40_40, yt_40_41, yt_40_42, yt_40_43, yt_40_46, yt_40_47, yt_40_50, yt_40_51, yt_40_54, yt_40_55, yt_40_56, yt_40_57, yt_40_64, xe_T, xl_A0, xl_I1, xl_I2, xp_I, xp_R]
set_option maxRecDepth 4000 in
theorem yb_40_58 {sc : xm_Sc} {d : Nat} {h0 : Nat} {i1 : Int32} {i2 : Int32} {S : xm_PS}  : xm_R sc xt_M d 40 58 [.ref h0, .int i1, .int i2] [] S = xm_R sc xt_M d 40 28 [.ref h0, .int i1, .int (i2 + (-1))] [] S := by
  refine yt_40_58.trans ?_
  simp only [yt_40_61, xl_I2, List.set_cons_zero, List.set_cons_succ]
set_option maxRecDepth 4000 in
theorem yb_41_0 {sc : xm_Sc} {d : Nat} {h0 : Nat} {i1 : Int32} {S : xm_PS}  : xm_R sc xt_M d 41 0 [.ref h0, .int i1] [] S = (xm_gR S h0 3 4).bind fun n1 => (xm_aI S n1 0 i1).bind fun n2 => (if n2 = (-1) then some (.inl (some (.int 0)), S) else some (.inl (some (.int 1)), S)) := by
  refine yt_41_0.trans ?_
  simp only [yt_41_1, yt_41_4, yt_41_5, yt_41_6, yt_41_7, yt_41_10, yt_41_11, yt_41_14, yt_41_15, xb_0, xb_1, xe_T, xl_A0, xl_I1, xp_I, xp_R]
set_option maxRecDepth 4000 in
theorem yb_42_0 {sc : xm_Sc} {d : Nat} {h0 : Nat} {i1 : Int32} {v2 : Value} {S : xm_PS}  : xm_R sc xt_M d 42 0 [.ref h0, .int i1, v2] [] S = (xm_gR S h0 3 4).bind fun n1 => (xm_aI S n1 0 i1).bind fun n2 => (if n2 = (-1) then some (.inl (some (.int (-1))), S) else (xm_gR S h0 3 3).bind fun n3 => (xm_aI S n3 0 n2).bind fun n4 => some (.inl (some (.int n4)), S)) := by
  refine yt_42_0.trans ?_
  simp only [yt_42_1, yt_42_4, yt_42_5, yt_42_6, yt_42_7, yt_42_8, yt_42_9, yt_42_12, yt_42_13, yt_42_16, yt_42_17, yt_42_20, yt_42_21, yt_42_22, xe_T, xl_A0, xl_I1, xl_I2, xp_I, xp_R, List.set_cons_zero, List.set_cons_succ]
set_option maxRecDepth 4000 in
theorem yb_43_0 {sc : xm_Sc} {d : Nat} {h0 : Nat} {i1 : Int32} {v2 : Value} {S : xm_PS}  : xm_R sc xt_M d 43 0 [.ref h0, .int i1, v2] [] S = (xm_gR S h0 3 4).bind fun n1 => (xm_aI S n1 0 i1).bind fun n2 => (if n2 = (-1) then some (.inl (some (.int (-1))), S) else (xm_gR S h0 3 2).bind fun n3 => (xm_aI S n3 0 n2).bind fun n4 => some (.inl (some (.int n4)), S)) := by
  refine yt_43_0.trans ?_
  simp only [yt_43_1, yt_43_4, yt_43_5, yt_43_6, yt_43_7, yt_43_8, yt_43_9, yt_43_12, yt_43_13, yt_43_16, yt_43_17, yt_43_20, yt_43_21, yt_43_22, xe_T, xl_A0, xl_I1, xl_I2, xp_I, xp_R, List.set_cons_zero, List.set_cons_succ]
set_option maxRecDepth 4000 in
theorem yb_44_0 {sc : xm_Sc} {d : Nat} {h0 : Nat} {i1 : Int32} {i2 : Int32} {v3 : Value} {S : xm_PS}  : xm_R sc xt_M d 44 0 [.ref h0, .int i1, .int i2, v3] [] S = xm_R sc xt_M d 44 2 [.ref h0, .int i1, .int i2, .int 0] [] S := by
  refine yt_44_0.trans ?_
  simp only [yt_44_1, xp_I, List.set_cons_zero, List.set_cons_succ]
set_option maxRecDepth 4000 in
theorem yb_44_2 {sc : xm_Sc} {d : Nat} {h0 : Nat} {i1 : Int32} {i2 : Int32} {i3 : Int32} {S : xm_PS}  : xm_R sc xt_M d 44 2 [.ref h0, .int i1, .int i2, .int i3] [] S = (xm_gI S h0 3 0).bind fun n1 => (if n1 ≤ i3 then some (.inl (some (.int (-1))), S) else (xm_gR S h0 3 1).bind fun n2 => (xm_aI S n2 0 i3).bind fun n3 => (if n3 = i1 then (xm_gR S h0 3 2).bind fun n4 => (xm_aI S n4 0 i3).bind fun n5 => (if n5 = i2 then some (.inl (some (.int i3)), S) else xm_R sc xt_M d 44 32 [.ref h0, .int i1, .int i2, .int i3] [] S) else xm_R sc xt_M d 44 32 [.ref h0, .int i1, .int i2, .int i3] [] S)) := by
  refine yt_44_2.trans ?_
  simp only [yt_44_3, yt_44_4, yt_44_7, yt_44_10, yt_44_11, yt_44_14, yt_44_15, yt_44_16, yt_44_17, yt_44_20, yt_44_21, yt_44_24, yt_44_25, yt_44_26, yt_44_27, yt_44_30, yt_44_31, yt_44_38, yt_44_39, xe_T, xl_A0, xl_I1, xl_I2, xl_I3, xp_I, xp_R]
set_option maxRecDepth 4000 in
theorem yb_44_32 {sc : xm_Sc} {d : Nat} {h0 : Nat} {i1 : Int32} {i2 : Int32} {i3 : Int32} {S : xm_PS}  : xm_R sc xt_M d 44 32 [.ref h0, .int i1, .int i2, .int i3] [] S = xm_R sc xt_M d 44 2 [.ref h0, .int i1, .int i2, .int (i3 + 1)] [] S := by
  refine yt_44_32.trans ?_
  simp only [yt_44_35, xl_I3, List.set_cons_zero, List.set_cons_succ]
set_option maxRecDepth 4000 in
theorem yb_45_0 {sc : xm_Sc} {d : Nat} {h0 : Nat} {i1 : Int32} {i2 : Int32} {v3 : Value} {v4 : Value} {S : xm_PS}  : xm_R sc xt_M d 45 0 [.ref h0, .int i1, .int i2, v3, v4] [] S = xm_R sc xt_M d 45 5 [.ref h0, .int i1, .int i2, .int 0, .int 0] [] S := by
  refine yt_45_0.trans ?_
  simp only [yt_45_1, yt_45_2, yt_45_3, xp_I, List.set_cons_zero, List.set_cons_succ]
set_option maxRecDepth 4000 in
theorem yb_45_5 {sc : xm_Sc} {d : Nat} {h0 : Nat} {i1 : Int32} {i2 : Int32} {i3 : Int32} {i4 : Int32} {S : xm_PS}  : xm_R sc xt_M d 45 5 [.ref h0, .int i1, .int i2, .int i3, .int i4] [] S = (xm_gI S h0 3 0).bind fun n1 => (if n1 ≤ i4 then some (.inl (some (.int (-1))), S) else (xm_gR S h0 3 1).bind fun n2 => (xm_aI S n2 0 i4).bind fun n3 => (if n3 = i1 then (if i3 = i2 then some (.inl (some (.int i4)), S) else xm_R sc xt_M d 45 36 [.ref h0, .int i1, .int i2, .int (i3 + 1), .int i4] [] S) else xm_R sc xt_M d 45 36 [.ref h0, .int i1, .int i2, .int i3, .int i4] [] S)) := by
  refine yt_45_5.trans ?_
  simp only [yt_45_7, yt_45_8, yt_45_11, yt_45_14, yt_45_15, yt_45_18, yt_45_20, yt_45_21, yt_45_22, yt_45_25, yt_45_26, yt_45_27, yt_45_30, yt_45_32, yt_45_33, yt_45_42, yt_45_43, xe_T, xl_A0, xl_I1, xl_I2, xl_I3, xl_I4, xp_I, xp_R, List.set_cons_zero, List.set_cons_succ]
set_option maxRecDepth 4000 in
theorem yb_45_36 {sc : xm_Sc} {d : Nat} {h0 : Nat} {i1 : Int32} {i2 : Int32} {i3 : Int32} {i4 : Int32} {S : xm_PS}  : xm_R sc xt_M d 45 36 [.ref h0, .int i1, .int i2, .int i3, .int i4] [] S = xm_R sc xt_M d 45 5 [.ref h0, .int i1, .int i2, .int i3, .int (i4 + 1)] [] S := by
  refine yt_45_36.trans ?_
  simp only [yt_45_39, xl_I4, List.set_cons_zero, List.set_cons_succ]
set_option maxRecDepth 4000 in
theorem yb_46_0 {sc : xm_Sc} {d : Nat} {h0 : Nat} {i1 : Int32} {i2 : Int32} {v3 : Value} {v4 : Value} {S : xm_PS}  : xm_R sc xt_M d 46 0 [.ref h0, .int i1, .int i2, v3, v4] [] S = xm_R sc xt_M d 46 5 [.ref h0, .int i1, .int i2, .int 0, .int 0] [] S := by
  refine yt_46_0.trans ?_
  simp only [yt_46_1, yt_46_2, yt_46_3, xp_I, List.set_cons_zero, List.set_cons_succ]
set_option maxRecDepth 4000 in
theorem yb_46_5 {sc : xm_Sc} {d : Nat} {h0 : Nat} {i1 : Int32} {i2 : Int32} {i3 : Int32} {i4 : Int32} {S : xm_PS}  : xm_R sc xt_M d 46 5 [.ref h0, .int i1, .int i2, .int i3, .int i4] [] S = (xm_gI S h0 3 0).bind fun n1 => (if n1 ≤ i4 then some (.inl (some (.int (-1))), S) else (xm_gR S h0 3 1).bind fun n2 => (xm_aI S n2 0 i4).bind fun n3 => (if n3 = i1 then (xm_gR S h0 3 2).bind fun n4 => (xm_aI S n4 0 i4).bind fun n5 => (if n5 = i2 then some (.inl (some (.int i3)), S) else xm_R sc xt_M d 46 41 [.ref h0, .int i1, .int i2, .int (i3 + 1), .int i4] [] S) else xm_R sc xt_M d 46 41 [.ref h0, .int i1, .int i2, .int i3, .int i4] [] S)) := by
  refine yt_46_5.trans ?_
  simp only [yt_46_7, yt_46_8, yt_46_11, yt_46_14, yt_46_15, yt_46_18, yt_46_20, yt_46_21, yt_46_22, yt_46_25, yt_46_26, yt_46_29, yt_46_31, yt_46_32, yt_46_33, yt_46_36, yt_46_37, yt_46_38, yt_46_47, yt_46_48, xe_T, xl_A0, xl_I1, xl_I2, xl_I3, xl_I4, xp_I, xp_R, List.set_cons_zero, List.set_cons_succ]
set_option maxRecDepth 4000 in
theorem yb_46_41 {sc : xm_Sc} {d : Nat} {h0 : Nat} {i1 : Int32} {i2 : Int32} {i3 : Int32} {i4 : Int32} {S : xm_PS}  : xm_R sc xt_M d 46 41 [.ref h0, .int i1, .int i2, .int i3, .int i4] [] S = xm_R sc xt_M d 46 5 [.ref h0, .int i1, .int i2, .int i3, .int (i4 + 1)] [] S := by
  refine yt_46_41.trans ?_
  simp only [yt_46_44, xl_I4, List.set_cons_zero, List.set_cons_succ]
set_option maxRecDepth 4000 in
theorem yb_47_0 {sc : xm_Sc} {d : Nat} {h0 : Nat} {i1 : Int32} {S : xm_PS}  : xm_R sc xt_M d 47 0 [.ref h0, .int i1] [] S = (xm_gR S h0 3 1).bind fun n1 => if xm_isO S (.ref h0) 3 = true then ((xm_C sc xt_M d 50 [.ref h0, .ref n1, .int i1] S).bind fun o3 => xm_rI o3 (fun n4 S2 => some (.inl (some (.int n4)), S2)) (fun e S => some (.inr e, S))) else none := by
  refine yt_47_0.trans ?_
  simp only [yt_47_1, yt_47_2, yt_47_5, yt_47_6, yt_47_9, xe_T, xk_xf, xl_A0, xl_I1, xp_I, xp_R, xp_RS, xq_c0, xr_1, List.cons_append, List.nil_append, Nat.reduceAdd]
set_option maxRecDepth 4000 in
theorem yb_49_0 {sc : xm_Sc} {d : Nat} {h0 : Nat} {i1 : Int32} {S : xm_PS}  : xm_R sc xt_M d 49 0 [.ref h0, .int i1] [] S = (xm_gR S h0 3 3).bind fun n1 => if xm_isO S (.ref h0) 3 = true then ((xm_C sc xt_M d 50 [.ref h0, .ref n1, .int i1] S).bind fun o3 => xm_rI o3 (fun n4 S2 => some (.inl (some (.int n4)), S2)) (fun e S => some (.inr e, S))) else none := by
  refine yt_49_0.trans ?_
  simp only [yt_49_1, yt_49_2, yt_49_5, yt_49_6, yt_49_9, xe_T, xk_xf, xl_A0, xl_I1, xp_I, xp_R, xp_RS, xq_c0, xr_1, List.cons_append, List.nil_append, Nat.reduceAdd]
set_option maxRecDepth 4000 in
theorem yb_50_0 {sc : xm_Sc} {d : Nat} {h0 : Nat} {h1 : Nat} {i2 : Int32} {v3 : Value} {v4 : Value} {S : xm_PS}  : xm_R sc xt_M d 50 0 [.ref h0, .ref h1, .int i2, v3, v4] [] S = xm_R sc xt_M d 50 5 [.ref h0, .ref h1, .int i2, .int 0, .int 0] [] S := by
  refine yt_50_0.trans ?_
  simp only [yt_50_1, yt_50_2, yt_50_3, xp_I, List.set_cons_zero, List.set_cons_succ]
set_option maxRecDepth 4000 in
theorem yb_50_5 {sc : xm_Sc} {d : Nat} {h0 : Nat} {h1 : Nat} {i2 : Int32} {i3 : Int32} {i4 : Int32} {S : xm_PS}  : xm_R sc xt_M d 50 5 [.ref h0, .ref h1, .int i2, .int i3, .int i4] [] S = (xm_gI S h0 3 0).bind fun n1 => (if n1 ≤ i4 then some (.inl (some (.int i3)), S) else (xm_aI S h1 0 i4).bind fun n2 => (if n2 = i2 then xm_R sc xt_M d 50 25 [.ref h0, .ref h1, .int i2, .int (i3 + 1), .int i4] [] S else xm_R sc xt_M d 50 25 [.ref h0, .ref h1, .int i2, .int i3, .int i4] [] S)) := by
  refine yt_50_5.trans ?_
  simp only [yt_50_7, yt_50_8, yt_50_11, yt_50_14, yt_50_15, yt_50_17, yt_50_18, yt_50_19, yt_50_22, yt_50_31, yt_50_32, xe_T, xl_A0, xl_A1, xl_I2, xl_I3, xl_I4, xp_I, xp_R, List.set_cons_zero, List.set_cons_succ]
set_option maxRecDepth 4000 in
theorem yb_50_25 {sc : xm_Sc} {d : Nat} {h0 : Nat} {h1 : Nat} {i2 : Int32} {i3 : Int32} {i4 : Int32} {S : xm_PS}  : xm_R sc xt_M d 50 25 [.ref h0, .ref h1, .int i2, .int i3, .int i4] [] S = xm_R sc xt_M d 50 5 [.ref h0, .ref h1, .int i2, .int i3, .int (i4 + 1)] [] S := by
  refine yt_50_25.trans ?_
  simp only [yt_50_28, xl_I4, List.set_cons_zero, List.set_cons_succ]
set_option maxRecDepth 4000 in
theorem yb_51_0 {sc : xm_Sc} {d : Nat} {h0 : Nat} {h1 : Nat} {S : xm_PS}  : xm_R sc xt_M d 51 0 [.ref h0, .ref h1] [] S = (xm_gI S h1 3 0).bind fun n1 => (xm_sF S h0 3 0 (.int n1)).bind fun S2 => (xm_gR S2 h1 3 1).bind fun n3 => (xm_gR S2 h0 3 1).bind fun n4 => (xm_copy S2 0 n3 0 n4 0 40).bind fun S5 => (xm_gR S5 h1 3 2).bind fun n6 => (xm_gR S5 h0 3 2).bind fun n7 => (xm_copy S5 0 n6 0 n7 0 40).bind fun S8 => (xm_gR S8 h1 3 3).bind fun n9 => (xm_gR S8 h0 3 3).bind fun n10 => (xm_copy S8 0 n9 0 n10 0 40).bind fun S11 => (xm_gR S11 h1 3 4).bind fun n12 => (xm_gR S11 h0 3 4).bind fun n13 => (xm_copy S11 0 n12 0 n13 0 20).bind fun S14 => some (.inl none, S14) := by
  refine yt_51_0.trans ?_
  simp only [yt_51_1, yt_51_2, yt_51_5, yt_51_8, yt_51_9, yt_51_12, yt_51_13, yt_51_14, yt_51_17, yt_51_18, yt_51_20, yt_51_23, yt_51_24, yt_51_27, yt_51_28, yt_51_29, yt_51_32, yt_51_33, yt_51_35, yt_51_38, yt_51_39, yt_51_42, yt_51_43, yt_51_44, yt_51_47, yt_51_48, yt_51_50, yt_51_53, yt_51_54, yt_51_57, yt_51_58, yt_51_59, yt_51_62, yt_51_63, yt_51_65, yt_51_68, xe_T, xl_A0, xl_A1, xp_I, xp_R, xq_r0]
set_option maxRecDepth 4000 in
theorem yb_53_0 {sc : xm_Sc} {d : Nat} {h0 : Nat} {v1 : Value} {S : xm_PS}  : xm_R sc xt_M d 53 0 [.ref h0, v1] [] S = (xm_sF S h0 4 1 (.int 0)).bind fun S1 => (xm_sF S1 h0 4 2 (.int 10)).bind fun S2 => (xm_sF S2 h0 4 4 (.int 0)).bind fun S3 => xm_R sc xt_M d 53 18 [.ref h0, .int 0] [] S3 := by
  refine yt_53_0.trans ?_
  simp only [yt_53_1, yt_53_2, yt_53_5, yt_53_6, yt_53_8, yt_53_11, yt_53_12, yt_53_13, yt_53_16, yt_53_17, xl_A0, xp_I, xp_R, List.set_cons_zero, List.set_cons_succ]
set_option maxRecDepth 4000 in
theorem yb_53_18 {sc : xm_Sc} {d : Nat} {h0 : Nat} {i1 : Int32} {S : xm_PS}  : xm_R sc xt_M d 53 18 [.ref h0, .int i1] [] S = (if 4 ≤ i1 then xm_R sc xt_M d 53 38 [.ref h0, .int 0] [] S else (xm_gR S h0 4 5).bind fun n1 => (xm_wI S n1 0 i1 0).bind fun S2 => xm_R sc xt_M d 53 18 [.ref h0, .int (i1 + 1)] [] S2) := by
  refine yt_53_18.trans ?_
  simp only [yt_53_19, yt_53_20, yt_53_23, yt_53_24, yt_53_27, yt_53_28, yt_53_29, yt_53_30, yt_53_33, yt_53_36, yt_53_37, xl_A0, xl_I1, xp_I, xp_R, List.set_cons_zero, List.set_cons_succ]
set_option maxRecDepth 4000 in
theorem yb_53_38 {sc : xm_Sc} {d : Nat} {h0 : Nat} {i1 : Int32} {S : xm_PS}  : xm_R sc xt_M d 53 38 [.ref h0, .int i1] [] S = (xm_gR S h0 4 0).bind fun n1 => (xm_gI S n1 2 2).bind fun n2 => (if n2 ≤ i1 then (xm_gR S h0 4 10).bind fun n3 => if xm_isO S (.ref n3) 3 = true then ((xm_C sc xt_M d 37 [.ref n3] S).bind fun o5 => xm_r0 o5 (fun S4 => (xm_gR S4 h0 4 0).bind fun n6 => (xm_gI S4 n6 2 0).bind fun n7 => if xm_isO S4 (.ref h0) 4 = true then ((xm_C sc xt_M d 55 [.ref h0, .int ((1 <<< (n7 &&& 31)) - 1)] S4).bind fun o9 => xm_r0 o9 (fun S8 => some (.inl none, S8)) (fun e S => some (.inr e, S))) else none) (fun e S => some (.inr e, S))) else none else (xm_gR S h0 4 0).bind fun n10 => (xm_gR S n10 2 6).bind fun n11 => (xm_aI S n11 0 i1).bind fun n12 => if xm_isO S (.ref h0) 4 = true then ((xm_C sc xt_M d 59 [.ref h0, .int i1, .int n12] S).bind fun o14 => xm_r0 o14 (fun S13 => xm_R sc xt_M d 53 38 [.ref h0, .int (i1 + 1)] [] S13) (fun e S => some (.inr e, S))) else none) := by
  refine yt_53_38.trans ?_
  simp only [yt_53_39, yt_53_40, yt_53_43, yt_53_46, yt_53_49, yt_53_50, yt_53_51, yt_53_52, yt_53_55, yt_53_58, yt_53_59, yt_53_60, yt_53_63, yt_53_66, yt_53_69, yt_53_70, yt_53_73, yt_53_76, yt_53_77, yt_53_78, yt_53_79, yt_53_82, yt_53_85, yt_53_86, yt_53_87, yt_53_88, yt_53_91, xe_T, xk_xf, xl_A0, xl_I1, xp_I, xp_R, xp_RS, xq_c0, xr_0, List.set_cons_zero, List.set_cons_succ, List.cons_append, List.nil_append, Nat.reduceAdd]
set_option maxRecDepth 4000 in
theorem yb_54_0 {sc : xm_Sc} {d : Nat} {h0 : Nat} {h1 : Nat} {S : xm_PS}  : xm_R sc xt_M d 54 0 [.ref h0, .ref h1] [] S = (xm_gR S h1 4 0).bind fun n1 => (xm_sF S h0 4 0 (.ref n1)).bind fun S2 => (xm_gI S2 h1 4 1).bind fun n3 => (xm_sF S2 h0 4 1 (.int n3)).bind fun S4 => (xm_gI S4 h1 4 2).bind fun n5 => (xm_sF S4 h0 4 2 (.int n5)).bind fun S6 => (xm_gI S6 h1 4 3).bind fun n7 => (xm_sF S6 h0 4 3 (.int n7)).bind fun S8 => (xm_gI S8 h1 4 4).bind fun n9 => (xm_sF S8 h0 4 4 (.int n9)).bind fun S10 => (xm_gR S10 h1 4 5).bind fun n11 => (xm_gR S10 h0 4 5).bind fun n12 => (xm_copy S10 0 n11 0 n12 0 4).bind fun S13 => (xm_gR S13 h1 4 6).bind fun n14 => (xm_gR S13 h0 4 6).bind fun n15 => (xm_copy S13 0 n14 0 n15 0 20).bind fun S16 => (xm_gR S16 h1 4 7).bind fun n17 => (xm_gR S16 h0 4 7).bind fun n18 => (xm_copy S16 0 n17 0 n18 0 20).bind fun S19 => (xm_gR S19 h1 4 8).bind fun n20 => (xm_gR S19 h0 4 8).bind fun n21 => (xm_copy S19 0 n20 0 n21 0 20).bind fun S22 => (xm_gR S22 h1 4 9).bind fun n23 => (xm_gR S22 h0 4 9).bind fun n24 => (xm_copy S22 0 n23 0 n24 0 20).bind fun S25 => (xm_gR S25 h0 4 10).bind fun n26 => (xm_gR S25 h1 4 10).bind fun n27 => if xm_isO S25 (.ref n26) 3 = true then ((xm_C sc xt_M d 51 [.ref n26, .ref n27] S25).bind fun o29 => xm_r0 o29 (fun S28 => (xm_gR S28 h0 4 11).bind fun n30 => (xm_gR S28 h1 4 11).bind fun n31 => if xm_isO S28 (.ref n30) 6 = true then ((xm_C sc xt_M d 105 [.ref n30, .ref n31] S28).bind fun o33 => xm_r0 o33 (fun S32 => some (.inl none, S32)) (fun e S => some (.inr e, S))) else none) (fun e S => some (.inr e, S))) else none := by
  refine yt_54_0.trans ?_
  simp only [yt_54_1, yt_54_2, yt_54_5, yt_54_8, yt_54_9, yt_54_10, yt_54_13, yt_54_16, yt_54_17, yt_54_18, yt_54_21, yt_54_24, yt_54_25, yt_54_26, yt_54_29, yt_54_32, yt_54_33, yt_54_34, yt_54_37, yt_54_40, yt_54_41, yt_54_44, yt_54_45, yt_54_46, yt_54_49, yt_54_50, yt_54_51, yt_54_54, yt_54_55, yt_54_58, yt_54_59, yt_54_60, yt_54_63, yt_54_64, yt_54_66, yt_54_69, yt_54_70, yt_54_73, yt_54_74, yt_54_75, yt_54_78, yt_54_79, yt_54_81, yt_54_84, yt_54_85, yt_54_88, yt_54_89, yt_54_90, yt_54_93, yt_54_94, yt_54_96, yt_54_99, yt_54_100, yt_54_103, yt_54_104, yt_54_105, yt_54_108, yt_54_109, yt_54_111, yt_54_114, yt_54_115, yt_54_118, yt_54_119, yt_54_122, yt_54_125, yt_54_126, yt_54_129, yt_54_130, yt_54_133, yt_54_136, xe_T, xk_xf, xl_A0, xl_A1, xp_I, xp_R, xp_RS, xq_c0, xq_r0, xr_0, List.cons_append, List.nil_append, Nat.reduceAdd]
set_option maxRecDepth 4000 in
theorem yb_55_0 {sc : xm_Sc} {d : Nat} {h0 : Nat} {i1 : Int32} {S : xm_PS}  : xm_R sc xt_M d 55 0 [.ref h0, .int i1] [] S = (xm_sF S h0 4 3 (.int i1)).bind fun S1 => (xm_gR S1 h0 4 11).bind fun n2 => (xm_gR S1 h0 4 0).bind fun n3 => if xm_isO S1 (.ref n2) 6 = true then ((xm_C sc xt_M d 101 [.ref n2, .ref n3, .int i1] S1).bind fun o5 => xm_r0 o5 (fun S4 => (xm_gR S4 h0 4 10).bind fun n6 => if xm_isO S4 (.ref n6) 3 = true then ((xm_C sc xt_M d 40 [.ref n6, .int i1] S4).bind fun o8 => xm_r0 o8 (fun S7 => some (.inl none, S7)) (fun e S => some (.inr e, S))) else none) (fun e S => some (.inr e, S))) else none := by
  refine yt_55_0.trans ?_
  simp only [yt_55_1, yt_55_2, yt_55_5, yt_55_6, yt_55_9, yt_55_10, yt_55_13, yt_55_14, yt_55_17, yt_55_18, yt_55_21, yt_55_22, yt_55_25, xe_T, xk_xf, xl_A0, xl_I1, xp_I, xp_R, xp_RS, xq_c0, xr_0, List.cons_append, List.nil_append, Nat.reduceAdd]
set_option maxRecDepth 4000 in
theorem yb_56_0 {sc : xm_Sc} {d : Nat} {h0 : Nat} {i1 : Int32} {i2 : Int32} {i3 : Int32} {S : xm_PS}  : xm_R sc xt_M d 56 0 [.ref h0, .int i1, .int i2, .int i3] [] S = (xm_gR S h0 4 10).bind fun n1 => if xm_isO S (.ref n1) 3 = true then ((xm_C sc xt_M d 38 [.ref n1, .int i1, .int i2, .int i3] S).bind fun o3 => xm_r0 o3 (fun S2 => (xm_gR S2 h0 4 10).bind fun n4 => (xm_gI S2 h0 4 3).bind fun n5 => if xm_isO S2 (.ref n4) 3 = true then ((xm_C sc xt_M d 40 [.ref n4, .int n5] S2).bind fun o7 => xm_r0 o7 (fun S6 => some (.inl none, S6)) (fun e S => some (.inr e, S))) else none) (fun e S => some (.inr e, S))) else none := by
  refine yt_56_0.trans ?_
  simp only [yt_56_1, yt_56_4, yt_56_5, yt_56_6, yt_56_7, yt_56_10, yt_56_11, yt_56_14, yt_56_15, yt_56_18, yt_56_21, xe_T, xk_xf, xl_A0, xl_I1, xl_I2, xl_I3, xp_R, xp_RS, xq_c0, xr_0, List.cons_append, List.nil_append, Nat.reduceAdd]
set_option maxRecDepth 4000 in
theorem yb_57_0 {sc : xm_Sc} {d : Nat} {h0 : Nat} {i1 : Int32} {i2 : Int32} {S : xm_PS}  : xm_R sc xt_M d 57 0 [.ref h0, .int i1, .int i2] [] S = (xm_gR S h0 4 10).bind fun n1 => (xm_gR S h0 4 10).bind fun n2 => if xm_isO S (.ref n2) 3 = true then ((xm_C sc xt_M d 44 [.ref n2, .int i1, .int i2] S).bind fun o4 => xm_rI o4 (fun n5 S3 => if xm_isO S3 (.ref n1) 3 = true then ((xm_C sc xt_M d 39 [.ref n1, .int n5] S3).bind fun o7 => xm_r0 o7 (fun S6 => (xm_gR S6 h0 4 10).bind fun n8 => (xm_gI S6 h0 4 3).bind fun n9 => if xm_isO S6 (.ref n8) 3 = true then ((xm_C sc xt_M d 40 [.ref n8, .int n9] S6).bind fun o11 => xm_r0 o11 (fun S10 => some (.inl none, S10)) (fun e S => some (.inr e, S))) else none) (fun e S => some (.inr e, S))) else none) (fun e S => some (.inr e, S))) else none := by
  refine yt_57_0.trans ?_
  simp only [yt_57_1, yt_57_4, yt_57_5, yt_57_8, yt_57_9, yt_57_10, yt_57_13, yt_57_16, yt_57_17, yt_57_20, yt_57_21, yt_57_24, yt_57_27, xe_T, xk_xf, xl_A0, xl_I1, xl_I2, xp_R, xp_RS, xq_c0, xq_c1, xr_0, xr_1, List.cons_append, List.nil_append, Nat.reduceAdd]
set_option maxRecDepth 4000 in
theorem yb_58_0 {sc : xm_Sc} {d : Nat} {h0 : Nat} {i1 : Int32} {i2 : Int32} {i3 : Int32} {i4 : Int32} {i5 : Int32} {S : xm_PS}  : xm_R sc xt_M d 58 0 [.ref h0, .int i1, .int i2, .int i3, .int i4, .int i5] [] S = (xm_gR S h0 4 6).bind fun n1 => (xm_wI S n1 0 i1 i2).bind fun S2 => (xm_gR S2 h0 4 7).bind fun n3 => (xm_wI S2 n3 0 i1 i3).bind fun S4 => (xm_gR S4 h0 4 8).bind fun n5 => (xm_wI S4 n5 0 i1 i4).bind fun S6 => (xm_gR S6 h0 4 9).bind fun n7 => (xm_wI S6 n7 0 i1 i5).bind fun S8 => some (.inl none, S8) := by
  refine yt_58_0.trans ?_
  simp only [yt_58_1, yt_58_4, yt_58_5, yt_58_6, yt_58_7, yt_58_8, yt_58_11, yt_58_12, yt_58_13, yt_58_14, yt_58_15, yt_58_18, yt_58_19, yt_58_21, yt_58_22, yt_58_23, yt_58_26, yt_58_27, yt_58_29, yt_58_30, xe_T, xl_A0, xl_I1, xl_I2, xl_I3, xl_I4, xl_I5, xp_I, xp_R]
set_option maxRecDepth 4000 in
theorem yb_59_0 {sc : xm_Sc} {d : Nat} {h0 : Nat} {i1 : Int32} {i2 : Int32} {S : xm_PS}  : xm_R sc xt_M d 59 0 [.ref h0, .int i1, .int i2] [] S = if xm_isO S (.ref h0) 4 = true then ((xm_C sc xt_M d 58 [.ref h0, .int i1, .int 0, .int i2, .int (-1), .int (-1)] S).bind fun o2 => xm_r0 o2 (fun S1 => some (.inl none, S1)) (fun e S => some (.inr e, S))) else none := by
  refine yt_59_0.trans ?_
  simp only [yt_59_1, yt_59_2, yt_59_3, yt_59_4, yt_59_5, yt_59_6, yt_59_9, xe_T, xk_xf, xl_A0, xl_I1, xl_I2, xp_RS, xq_c0, xr_0, List.cons_append, List.nil_append, Nat.reduceAdd]
set_option maxRecDepth 4000 in
theorem yb_60_0 {sc : xm_Sc} {d : Nat} {h0 : Nat} {i1 : Int32} {S : xm_PS}  : xm_R sc xt_M d 60 0 [.ref h0, .int i1] [] S = (if i1 < 0 then xm_R sc xt_M d 60 31 [.ref h0, .int i1] [] S else (xm_gR S h0 4 0).bind fun n1 => (xm_gI S n1 2 0).bind fun n2 => (if n2 ≤ i1 then xm_R sc xt_M d 60 31 [.ref h0, .int i1] [] S else (xm_gI S h0 4 3).bind fun n3 => (if ((n3 >>> (i1 &&& 31)) &&& 1) = 1 then some (.inl (some (.int 1)), S) else xm_R sc xt_M d 60 31 [.ref h0, .int i1] [] S))) := by
  refine yt_60_0.trans ?_
  simp only [yt_60_1, yt_60_4, yt_60_5, yt_60_6, yt_60_9, yt_60_12, yt_60_15, yt_60_16, yt_60_19, yt_60_20, yt_60_21, yt_60_22, yt_60_23, yt_60_24, yt_60_27, yt_60_28, yt_60_32, xb_1, xe_T, xl_A0, xl_I1, xp_I, xp_R]
set_option maxRecDepth 4000 in
theorem yb_60_31 {sc : xm_Sc} {d : Nat} {h0 : Nat} {i1 : Int32} {S : xm_PS}  : xm_R sc xt_M d 60 31 [.ref h0, .int i1] [] S = some (.inl (some (.int 0)), S) := by
  refine yt_60_31.trans ?_
  simp only [yt_60_32, xb_0, xe_T, xp_I]
set_option maxRecDepth 4000 in
theorem yb_61_0 {sc : xm_Sc} {d : Nat} {h0 : Nat} {i1 : Int32} {S : xm_PS}  : xm_R sc xt_M d 61 0 [.ref h0, .int i1] [] S = (xm_gI S h0 4 3).bind fun n1 => (xm_C sc xt_M d 192 [.int (i1 &&& n1)] S).bind fun o3 => xm_rI o3 (fun n4 S2 => some (.inl (some (.int n4)), S2)) (fun e S => some (.inr e, S)) := by
  refine yt_61_0.trans ?_
  simp only [yt_61_1, yt_61_2, yt_61_5, yt_61_6, yt_61_9, xe_T, xk_xf, xl_A0, xl_I1, xp_I, xp_R, xq_c0, xr_1, List.cons_append, List.nil_append, Nat.reduceAdd]
set_option maxRecDepth 4000 in
theorem yb_62_0 {sc : xm_Sc} {d : Nat} {h0 : Nat} {i1 : Int32} {S : xm_PS}  : xm_R sc xt_M d 62 0 [.ref h0, .int i1] [] S = (xm_gI S h0 4 4).bind fun n1 => (if ((n1 >>> (i1 &&& 31)) &&& 1) = 1 then some (.inl (some (.int 1)), S) else some (.inl (some (.int 0)), S)) := by
  refine yt_62_0.trans ?_
  simp only [yt_62_1, yt_62_4, yt_62_5, yt_62_6, yt_62_7, yt_62_8, yt_62_9, yt_62_12, yt_62_13, yt_62_16, yt_62_17, xb_0, xb_1, xe_T, xl_A0, xl_I1, xp_I, xp_R]
set_option maxRecDepth 4000 in
theorem yb_63_0 {sc : xm_Sc} {d : Nat} {h0 : Nat} {i1 : Int32} {i2 : Int32} {i3 : Int32} {S : xm_PS}  : xm_R sc xt_M d 63 0 [.ref h0, .int i1, .int i2, .int i3] [] S = (xm_gR S h0 4 6).bind fun n1 => (xm_aI S n1 0 i1).bind fun n2 => (if n2 = i2 then (xm_gR S h0 4 7).bind fun n3 => (xm_aI S n3 0 i1).bind fun n4 => (if n4 = i3 then some (.inl (some (.int 1)), S) else xm_R sc xt_M d 63 24 [.ref h0, .int i1, .int i2, .int i3] [] S) else xm_R sc xt_M d 63 24 [.ref h0, .int i1, .int i2, .int i3] [] S) := by
  refine yt_63_0.trans ?_
  simp only [yt_63_1, yt_63_4, yt_63_5, yt_63_6, yt_63_7, yt_63_10, yt_63_11, yt_63_14, yt_63_15, yt_63_16, yt_63_17, yt_63_20, yt_63_21, yt_63_25, xb_1, xe_T, xl_A0, xl_I1, xl_I2, xl_I3, xp_I, xp_R]
set_option maxRecDepth 4000 in
theorem yb_63_24 {sc : xm_Sc} {d : Nat} {h0 : Nat} {i1 : Int32} {i2 : Int32} {i3 : Int32} {S : xm_PS}  : xm_R sc xt_M d 63 24 [.ref h0, .int i1, .int i2, .int i3] [] S = some (.inl (some (.int 0)), S) := by
  refine yt_63_24.trans ?_
  simp only [yt_63_25, xb_0, xe_T, xp_I]
set_option maxRecDepth 4000 in
theorem yb_64_0 {sc : xm_Sc} {d : Nat} {h0 : Nat} {i1 : Int32} {i2 : Int32} {S : xm_PS}  : xm_R sc xt_M d 64 0 [.ref h0, .int i1, .int i2] [] S = (xm_gR S h0 4 6).bind fun n1 => (xm_aI S n1 0 i1).bind fun n2 => (if n2 = 2 then (xm_gR S h0 4 8).bind fun n3 => (xm_aI S n3 0 i1).bind fun n4 => (if n4 = i2 then some (.inl (some (.int 1)), S) else xm_R sc xt_M d 64 24 [.ref h0, .int i1, .int i2] [] S) else xm_R sc xt_M d 64 24 [.ref h0, .int i1, .int i2] [] S) := by
  refine yt_64_0.trans ?_
  simp only [yt_64_1, yt_64_4, yt_64_5, yt_64_6, yt_64_7, yt_64_10, yt_64_11, yt_64_14, yt_64_15, yt_64_16, yt_64_17, yt_64_20, yt_64_21, yt_64_25, xb_1, xe_T, xl_A0, xl_I1, xl_I2, xp_I, xp_R]
set_option maxRecDepth 4000 in
theorem yb_64_24 {sc : xm_Sc} {d : Nat} {h0 : Nat} {i1 : Int32} {i2 : Int32} {S : xm_PS}  : xm_R sc xt_M d 64 24 [.ref h0, .int i1, .int i2] [] S = some (.inl (some (.int 0)), S) := by
  refine yt_64_24.trans ?_
  simp only [yt_64_25, xb_0, xe_T, xp_I]
set_option maxRecDepth 4000 in
theorem yb_65_0 {sc : xm_Sc} {d : Nat} {h0 : Nat} {i1 : Int32} {i2 : Int32} {S : xm_PS}  : xm_R sc xt_M d 65 0 [.ref h0, .int i1, .int i2] [] S = (xm_gR S h0 4 6).bind fun n1 => (xm_aI S n1 0 i1).bind fun n2 => (if n2 = 3 then (xm_gR S h0 4 8).bind fun n3 => (xm_aI S n3 0 i1).bind fun n4 => (if n4 = i2 then some (.inl (some (.int 1)), S) else xm_R sc xt_M d 65 24 [.ref h0, .int i1, .int i2] [] S) else xm_R sc xt_M d 65 24 [.ref h0, .int i1, .int i2] [] S) := by
  refine yt_65_0.trans ?_
  simp only [yt_65_1, yt_65_4, yt_65_5, yt_65_6, yt_65_7, yt_65_10, yt_65_11, yt_65_14, yt_65_15, yt_65_16, yt_65_17, yt_65_20, yt_65_21, yt_65_25, xb_1, xe_T, xl_A0, xl_I1, xl_I2, xp_I, xp_R]
set_option maxRecDepth 4000 in
theorem yb_65_24 {sc : xm_Sc} {d : Nat} {h0 : Nat} {i1 : Int32} {i2 : Int32} {S : xm_PS}  : xm_R sc xt_M d 65 24 [.ref h0, .int i1, .int i2] [] S = some (.inl (some (.int 0)), S) := by
  refine yt_65_24.trans ?_
  simp only [yt_65_25, xb_0, xe_T, xp_I]
set_option maxRecDepth 4000 in
theorem yb_66_0 {sc : xm_Sc} {d : Nat} {h0 : Nat} {i1 : Int32} {S : xm_PS}  : xm_R sc xt_M d 66 0 [.ref h0, .int i1] [] S = (xm_gR S h0 4 6).bind fun n1 => (xm_aI S n1 0 i1).bind fun n2 => (if n2 = 2 then xm_R sc xt_M d 66 33 [.ref h0, .int i1] [] S else (xm_gR S h0 4 6).bind fun n3 => (xm_aI S n3 0 i1).bind fun n4 => (if n4 = 0 then (xm_gR S h0 4 7).bind fun n5 => (xm_aI S n5 0 i1).bind fun n6 => if xm_isO S (.ref h0) 4 = true then ((xm_C sc xt_M d 67 [.ref h0, .int i1] S).bind fun o8 => xm_rI o8 (fun n9 S7 => (if n6 = n9 then xm_R sc xt_M d 66 33 [.ref h0, .int i1] [] S7 else xm_R sc xt_M d 66 37 [.ref h0, .int i1] [] S7)) (fun e S => some (.inr e, S))) else none else xm_R sc xt_M d 66 37 [.ref h0, .int i1] [] S)) := by
  refine yt_66_0.trans ?_
  simp only [yt_66_1, yt_66_4, yt_66_5, yt_66_6, yt_66_7, yt_66_10, yt_66_11, yt_66_14, yt_66_15, yt_66_16, yt_66_19, yt_66_20, yt_66_23, yt_66_24, yt_66_25, yt_66_26, yt_66_27, yt_66_30, xk_xf, xl_A0, xl_I1, xp_I, xp_R, xp_RS, xq_c1, xr_1, List.cons_append, List.nil_append, Nat.reduceAdd]
set_option maxRecDepth 4000 in
theorem yb_66_33 {sc : xm_Sc} {d : Nat} {h0 : Nat} {i1 : Int32} {S : xm_PS}  : xm_R sc xt_M d 66 33 [.ref h0, .int i1] [] S = some (.inl (some (.int 1)), S) := by
  refine yt_66_33.trans ?_
  simp only [yt_66_34, yt_66_38, xb_1, xe_T, xp_I]
set_option maxRecDepth 4000 in
theorem yb_66_37 {sc : xm_Sc} {d : Nat} {h0 : Nat} {i1 : Int32} {S : xm_PS}  : xm_R sc xt_M d 66 37 [.ref h0, .int i1] [] S = some (.inl (some (.int 0)), S) := by
  refine yt_66_37.trans ?_
  simp only [yt_66_38, xb_0, xe_T, xp_I]
set_option maxRecDepth 4000 in
theorem yb_67_0 {sc : xm_Sc} {d : Nat} {h0 : Nat} {i1 : Int32} {S : xm_PS}  : xm_R sc xt_M d 67 0 [.ref h0, .int i1] [] S = if xm_isO S (.ref h0) 4 = true then ((xm_C sc xt_M d 62 [.ref h0, .int i1] S).bind fun o2 => xm_rI o2 (fun n3 S1 => (if n3 = 0 then (xm_gR S1 h0 4 10).bind fun n4 => if xm_isO S1 (.ref n4) 3 = true then ((xm_C sc xt_M d 41 [.ref n4, .int i1] S1).bind fun o6 => xm_rI o6 (fun n7 S5 => (if n7 = 0 then xm_R sc xt_M d 67 28 [.ref h0, .int i1] [] S5 else (xm_gR S5 h0 4 10).bind fun n8 => if xm_isO S5 (.ref n8) 3 = true then ((xm_C sc xt_M d 42 [.ref n8, .int i1] S5).bind fun o10 => xm_rI o10 (fun n11 S9 => some (.inl (some (.int n11)), S9)) (fun e S => some (.inr e, S))) else none)) (fun e S => some (.inr e, S))) else none else xm_R sc xt_M d 67 28 [.ref h0, .int i1] [] S1)) (fun e S => some (.inr e, S))) else none := by
  refine yt_67_0.trans ?_
  simp only [yt_67_1, yt_67_2, yt_67_5, yt_67_8, yt_67_9, yt_67_12, yt_67_13, yt_67_16, yt_67_19, yt_67_20, yt_67_23, yt_67_24, yt_67_27, xe_T, xk_xf, xl_A0, xl_I1, xp_I, xp_R, xp_RS, xq_c0, xr_1, List.cons_append, List.nil_append, Nat.reduceAdd]
set_option maxRecDepth 4000 in
theorem yb_67_28 {sc : xm_Sc} {d : Nat} {h0 : Nat} {i1 : Int32} {S : xm_PS}  : xm_R sc xt_M d 67 28 [.ref h0, .int i1] [] S = (xm_gR S h0 4 0).bind fun n1 => (xm_gR S n1 2 6).bind fun n2 => (xm_aI S n2 0 i1).bind fun n3 => if xm_isO S (.ref h0) 4 = true then ((xm_C sc xt_M d 60 [.ref h0, .int n3] S).bind fun o5 => xm_rI o5 (fun n6 S4 => (if n6 = 0 then some (.inl (some (.int (-1))), S4) else (xm_gR S4 h0 4 0).bind fun n7 => (xm_gR S4 n7 2 6).bind fun n8 => (xm_aI S4 n8 0 i1).bind fun n9 => some (.inl (some (.int n9)), S4))) (fun e S => some (.inr e, S))) else none := by
  refine yt_67_28.trans ?_
  simp only [yt_67_29, yt_67_30, yt_67_33, yt_67_36, yt_67_37, yt_67_38, yt_67_41, yt_67_44, yt_67_45, yt_67_48, yt_67_51, yt_67_52, yt_67_53, yt_67_56, yt_67_57, xe_T, xk_xf, xl_A0, xl_I1, xp_I, xp_R, xp_RS, xq_c0, xr_1, List.cons_append, List.nil_append, Nat.reduceAdd]
set_option maxRecDepth 4000 in
theorem yb_68_0 {sc : xm_Sc} {d : Nat} {h0 : Nat} {i1 : Int32} {v2 : Value} {S : xm_PS}  : xm_R sc xt_M d 68 0 [.ref h0, .int i1, v2] [] S = (xm_gR S h0 4 6).bind fun n1 => (xm_aI S n1 0 i1).bind fun n2 => (if n2 = 0 then xm_R sc xt_M d 68 19 [.ref h0, .int i1, v2] [] S else (xm_gR S h0 4 6).bind fun n3 => (xm_aI S n3 0 i1).bind fun n4 => (if n4 = 2 then xm_R sc xt_M d 68 19 [.ref h0, .int i1, v2] [] S else (if (0 : Int32) = 0 then some (.inl (some (.int (-1))), S) else (xm_gR S h0 4 11).bind fun n5 => (xm_gR S h0 4 7).bind fun n6 => (xm_aI S n6 0 i1).bind fun n7 => if xm_isO S (.ref h0) 4 = true then ((xm_C sc xt_M d 67 [.ref h0, .int i1] S).bind fun o9 => xm_rI o9 (fun n10 S8 => if xm_isO S8 (.ref n5) 6 = true then ((xm_C sc xt_M d 104 [.ref n5, .int n7, .int n10] S8).bind fun o12 => xm_rI o12 (fun n13 S11 => some (.inl (some (.int n13)), S11)) (fun e S => some (.inr e, S))) else none) (fun e S => some (.inr e, S))) else none))) := by
  refine yt_68_0.trans ?_
  simp only [yt_68_1, yt_68_4, yt_68_5, yt_68_6, yt_68_9, yt_68_10, yt_68_13, yt_68_14, yt_68_15, yt_68_16, yt_68_23, yt_68_24, yt_68_25, yt_68_26, yt_68_29, yt_68_30, yt_68_33, yt_68_34, yt_68_37, yt_68_38, yt_68_39, yt_68_40, yt_68_41, yt_68_44, yt_68_47, yt_68_50, yt_68_51, xe_T, xk_xf, xl_A0, xl_I1, xl_I2, xp_I, xp_R, xp_RS, xq_c0, xq_c2, xr_1, List.set_cons_zero, List.set_cons_succ, List.cons_append, List.nil_append, Nat.reduceAdd]
set_option maxRecDepth 4000 in
theorem yb_68_19 {sc : xm_Sc} {d : Nat} {h0 : Nat} {i1 : Int32} {v2 : Value} {S : xm_PS}  : xm_R sc xt_M d 68 19 [.ref h0, .int i1, v2] [] S = (if (1 : Int32) = 0 then some (.inl (some (.int (-1))), S) else (xm_gR S h0 4 11).bind fun n1 => (xm_gR S h0 4 7).bind fun n2 => (xm_aI S n2 0 i1).bind fun n3 => if xm_isO S (.ref h0) 4 = true then ((xm_C sc xt_M d 67 [.ref h0, .int i1] S).bind fun o5 => xm_rI o5 (fun n6 S4 => if xm_isO S4 (.ref n1) 6 = true then ((xm_C sc xt_M d 104 [.ref n1, .int n3, .int n6] S4).bind fun o8 => xm_rI o8 (fun n9 S7 => some (.inl (some (.int n9)), S7)) (fun e S => some (.inr e, S))) else none) (fun e S => some (.inr e, S))) else none) := by
  refine yt_68_19.trans ?_
  simp only [yt_68_20, yt_68_24, yt_68_25, yt_68_26, yt_68_29, yt_68_30, yt_68_33, yt_68_34, yt_68_37, yt_68_38, yt_68_39, yt_68_40, yt_68_41, yt_68_44, yt_68_47, yt_68_50, yt_68_51, xe_T, xk_xf, xl_A0, xl_I1, xl_I2, xp_I, xp_R, xp_RS, xq_c0, xq_c2, xr_1, List.set_cons_zero, List.set_cons_succ, List.cons_append, List.nil_append, Nat.reduceAdd]
set_option maxRecDepth 4000 in
theorem yb_69_0 {sc : xm_Sc} {d : Nat} {h0 : Nat} {i1 : Int32} {i2 : Int32} {i3 : Int32} {v4 : Value} {v5 : Value} {S : xm_PS}  : xm_R sc xt_M d 69 0 [.ref h0, .int i1, .int i2, .int i3, v4, v5] [] S = if xm_isO S (.ref h0) 4 = true then ((xm_C sc xt_M d 67 [.ref h0, .int i1] S).bind fun o2 => xm_rI o2 (fun n3 S1 => (xm_gR S1 h0 4 11).bind fun n4 => if xm_isO S1 (.ref n4) 6 = true then ((xm_C sc xt_M d 104 [.ref n4, .int i3, .int n3] S1).bind fun o6 => xm_rI o6 (fun n7 S5 => (if n7 < 1 then xm_R sc xt_M d 69 43 [.ref h0, .int i1, .int i2, .int i3, .int n3, .int n7] [] S5 else if xm_isO S5 (.ref h0) 4 = true then ((xm_C sc xt_M d 71 [.ref h0, .int i2, .int n3] S5).bind fun o9 => xm_rI o9 (fun n10 S8 => (if n10 = (n7 - 1) then some (.inl (some (.int 1)), S8) else xm_R sc xt_M d 69 43 [.ref h0, .int i1, .int i2, .int i3, .int n3, .int n7] [] S8)) (fun e S => some (.inr e, S))) else none)) (fun e S => some (.inr e, S))) else none) (fun e S => some (.inr e, S))) else none := by
  refine yt_69_0.trans ?_
  simp only [yt_69_1, yt_69_2, yt_69_5, yt_69_7, yt_69_8, yt_69_11, yt_69_12, yt_69_14, yt_69_17, yt_69_19, yt_69_21, yt_69_22, yt_69_25, yt_69_26, yt_69_27, yt_69_29, yt_69_32, yt_69_34, yt_69_35, yt_69_36, yt_69_39, yt_69_40, yt_69_44, xb_1, xe_T, xk_xf, xl_A0, xl_I1, xl_I2, xl_I3, xl_I4, xl_I5, xp_I, xp_R, xp_RS, xq_c0, xr_1, List.set_cons_zero, List.set_cons_succ, List.cons_append, List.nil_append, Nat.reduceAdd]
set_option maxRecDepth 4000 in
theorem yb_69_43 {sc : xm_Sc} {d : Nat} {h0 : Nat} {i1 : Int32} {i2 : Int32} {i3 : Int32} {i4 : Int32} {i5 : Int32} {S : xm_PS}  : xm_R sc xt_M d 69 43 [.ref h0, .int i1, .int i2, .int i3, .int i4, .int i5] [] S = some (.inl (some (.int 0)), S) := by
  refine yt_69_43.trans ?_
  simp only [yt_69_44, xb_0, xe_T, xp_I]
set_option maxRecDepth 4000 in
theorem yb_70_0 {sc : xm_Sc} {d : Nat} {h0 : Nat} {i1 : Int32} {i2 : Int32} {i3 : Int32} {v4 : Value} {v5 : Value} {S : xm_PS}  : xm_R sc xt_M d 70 0 [.ref h0, .int i1, .int i2, .int i3, v4, v5] [] S = if xm_isO S (.ref h0) 4 = true then ((xm_C sc xt_M d 67 [.ref h0, .int i1] S).bind fun o2 => xm_rI o2 (fun n3 S1 => (if n3 = (-1) then some (.inl (some (.int 1)), S1) else (xm_gR S1 h0 4 11).bind fun n4 => if xm_isO S1 (.ref n4) 6 = true then ((xm_C sc xt_M d 104 [.ref n4, .int i3, .int n3] S1).bind fun o6 => xm_rI o6 (fun n7 S5 => (if n7 = (-1) then xm_R sc xt_M d 70 49 [.ref h0, .int i1, .int i2, .int i3, .int n3, .int n7] [] S5 else if xm_isO S5 (.ref h0) 4 = true then ((xm_C sc xt_M d 71 [.ref h0, .int i2, .int n3] S5).bind fun o9 => xm_rI o9 (fun n10 S8 => (if n10 < n7 then xm_R sc xt_M d 70 49 [.ref h0, .int i1, .int i2, .int i3, .int n3, .int n7] [] S8 else some (.inl (some (.int 1)), S8))) (fun e S => some (.inr e, S))) else none)) (fun e S => some (.inr e, S))) else none)) (fun e S => some (.inr e, S))) else none := by
  refine yt_70_0.trans ?_
  simp only [yt_70_1, yt_70_2, yt_70_5, yt_70_7, yt_70_9, yt_70_10, yt_70_13, yt_70_14, yt_70_15, yt_70_16, yt_70_19, yt_70_20, yt_70_22, yt_70_25, yt_70_27, yt_70_29, yt_70_30, yt_70_33, yt_70_34, yt_70_35, yt_70_37, yt_70_40, yt_70_42, yt_70_45, yt_70_46, yt_70_50, xb_1, xe_T, xk_xf, xl_A0, xl_I1, xl_I2, xl_I3, xl_I4, xl_I5, xp_I, xp_R, xp_RS, xq_c0, xr_1, List.set_cons_zero, List.set_cons_succ, List.cons_append, List.nil_append, Nat.reduceAdd]
set_option maxRecDepth 4000 in
theorem yb_70_49 {sc : xm_Sc} {d : Nat} {h0 : Nat} {i1 : Int32} {i2 : Int32} {i3 : Int32} {i4 : Int32} {i5 : Int32} {S : xm_PS}  : xm_R sc xt_M d 70 49 [.ref h0, .int i1, .int i2, .int i3, .int i4, .int i5] [] S = some (.inl (some (.int 0)), S) := by
  refine yt_70_49.trans ?_
  simp only [yt_70_50, xb_0, xe_T, xp_I]
set_option maxRecDepth 4000 in
theorem yb_71_0 {sc : xm_Sc} {d : Nat} {h0 : Nat} {i1 : Int32} {i2 : Int32} {v3 : Value} {v4 : Value} {v5 : Value} {S : xm_PS}  : xm_R sc xt_M d 71 0 [.ref h0, .int i1, .int i2, v3, v4, v5] [] S = xm_R sc xt_M d 71 6 [.ref h0, .int i1, .int i2, .int 6, .int 0, v5] [] S := by
  refine yt_71_0.trans ?_
  simp only [yt_71_2, yt_71_3, yt_71_4, xp_I, List.set_cons_zero, List.set_cons_succ]
set_option maxRecDepth 4000 in
theorem yb_71_6 {sc : xm_Sc} {d : Nat} {h0 : Nat} {i1 : Int32} {i2 : Int32} {i3 : Int32} {i4 : Int32} {v5 : Value} {S : xm_PS}  : xm_R sc xt_M d 71 6 [.ref h0, .int i1, .int i2, .int i3, .int i4, v5] [] S = (xm_gR S h0 4 0).bind fun n1 => (xm_gI S n1 2 0).bind fun n2 => (if n2 ≤ i4 then some (.inl (some (.int i3)), S) else (xm_gR S h0 4 0).bind fun n3 => if xm_isO S (.ref n3) 2 = true then ((xm_C sc xt_M d 23 [.ref n3, .int i1, .int i4] S).bind fun o5 => xm_rI o5 (fun n6 S4 => (if n6 = 0 then (if ((-1) : Int32) = (-1) then xm_R sc xt_M d 71 62 [.ref h0, .int i1, .int i2, .int i3, .int i4, .int (-1)] [] S4 else (if i3 ≤ ((-1) : Int32) then xm_R sc xt_M d 71 62 [.ref h0, .int i1, .int i2, .int i3, .int i4, .int (-1)] [] S4 else xm_R sc xt_M d 71 62 [.ref h0, .int i1, .int i2, .int (-1), .int i4, .int (-1)] [] S4)) else (xm_gR S4 h0 4 11).bind fun n7 => if xm_isO S4 (.ref n7) 6 = true then ((xm_C sc xt_M d 104 [.ref n7, .int i4, .int i2] S4).bind fun o9 => xm_rI o9 (fun n10 S8 => (if n10 = (-1) then xm_R sc xt_M d 71 62 [.ref h0, .int i1, .int i2, .int i3, .int i4, .int n10] [] S8 else (if i3 ≤ n10 then xm_R sc xt_M d 71 62 [.ref h0, .int i1, .int i2, .int i3, .int i4, .int n10] [] S8 else xm_R sc xt_M d 71 62 [.ref h0, .int i1, .int i2, .int n10, .int i4, .int n10] [] S8))) (fun e S => some (.inr e, S))) else none)) (fun e S => some (.inr e, S))) else none) := by
  refine yt_71_6.trans ?_
  simp only [yt_71_8, yt_71_9, yt_71_12, yt_71_15, yt_71_18, yt_71_19, yt_71_22, yt_71_23, yt_71_25, yt_71_28, yt_71_31, yt_71_32, yt_71_35, yt_71_37, yt_71_38, yt_71_41, yt_71_44, yt_71_45, yt_71_47, yt_71_49, yt_71_50, yt_71_53, yt_71_55, yt_71_56, yt_71_59, yt_71_61, yt_71_68, yt_71_69, xe_T, xk_xf, xl_A0, xl_I1, xl_I2, xl_I3, xl_I4, xl_I5, xp_I, xp_R, xp_RS, xq_c0, xr_1, List.set_cons_zero, List.set_cons_succ, List.cons_append, List.nil_append, Nat.reduceAdd]
set_option maxRecDepth 4000 in
theorem yb_71_62 {sc : xm_Sc} {d : Nat} {h0 : Nat} {i1 : Int32} {i2 : Int32} {i3 : Int32} {i4 : Int32} {i5 : Int32} {S : xm_PS}  : xm_R sc xt_M d 71 62 [.ref h0, .int i1, .int i2, .int i3, .int i4, .int i5] [] S = xm_R sc xt_M d 71 6 [.ref h0, .int i1, .int i2, .int i3, .int (i4 + 1), .int i5] [] S := by
  refine yt_71_62.trans ?_
  simp only [yt_71_65, xl_I4, List.set_cons_zero, List.set_cons_succ]
set_option maxRecDepth 4000 in
theorem yb_72_0 {sc : xm_Sc} {d : Nat} {h0 : Nat} {i1 : Int32} {v2 : Value} {v3 : Value} {S : xm_PS}  : xm_R sc xt_M d 72 0 [.ref h0, .int i1, v2, v3] [] S = xm_R sc xt_M d 72 4 [.ref h0, .int i1, .int 0, .int 0] [] S := by
  refine yt_72_0.trans ?_
  simp only [yt_72_1, yt_72_2, yt_72_3, xp_I, List.set_cons_zero, List.set_cons_succ]
set_option maxRecDepth 4000 in
theorem yb_72_4 {sc : xm_Sc} {d : Nat} {h0 : Nat} {i1 : Int32} {i2 : Int32} {i3 : Int32} {S : xm_PS}  : xm_R sc xt_M d 72 4 [.ref h0, .int i1, .int i2, .int i3] [] S = (xm_gR S h0 4 0).bind fun n1 => (xm_gI S n1 2 2).bind fun n2 => (if n2 ≤ i3 then some (.inl (some (.int i2)), S) else (xm_gR S h0 4 6).bind fun n3 => (xm_aI S n3 0 i3).bind fun n4 => (if n4 = i1 then xm_R sc xt_M d 72 28 [.ref h0, .int i1, .int (i2 + 1), .int i3] [] S else xm_R sc xt_M d 72 28 [.ref h0, .int i1, .int i2, .int i3] [] S)) := by
  refine yt_72_4.trans ?_
  simp only [yt_72_5, yt_72_6, yt_72_9, yt_72_12, yt_72_15, yt_72_16, yt_72_19, yt_72_20, yt_72_21, yt_72_22, yt_72_25, yt_72_34, yt_72_35, xe_T, xl_A0, xl_I1, xl_I2, xl_I3, xp_I, xp_R, List.set_cons_zero, List.set_cons_succ]
set_option maxRecDepth 4000 in
theorem yb_72_28 {sc : xm_Sc} {d : Nat} {h0 : Nat} {i1 : Int32} {i2 : Int32} {i3 : Int32} {S : xm_PS}  : xm_R sc xt_M d 72 28 [.ref h0, .int i1, .int i2, .int i3] [] S = xm_R sc xt_M d 72 4 [.ref h0, .int i1, .int i2, .int (i3 + 1)] [] S := by
  refine yt_72_28.trans ?_
  simp only [yt_72_31, xl_I3, List.set_cons_zero, List.set_cons_succ]
set_option maxRecDepth 4000 in
theorem yb_73_0 {sc : xm_Sc} {d : Nat} {h0 : Nat} {i1 : Int32} {i2 : Int32} {v3 : Value} {v4 : Value} {S : xm_PS}  : xm_R sc xt_M d 73 0 [.ref h0, .int i1, .int i2, v3, v4] [] S = xm_R sc xt_M d 73 5 [.ref h0, .int i1, .int i2, .int 0, .int 0] [] S := by
  refine yt_73_0.trans ?_
  simp only [yt_73_1, yt_73_2, yt_73_3, xp_I, List.set_cons_zero, List.set_cons_succ]
set_option maxRecDepth 4000 in
theorem yb_73_5 {sc : xm_Sc} {d : Nat} {h0 : Nat} {i1 : Int32} {i2 : Int32} {i3 : Int32} {i4 : Int32} {S : xm_PS}  : xm_R sc xt_M d 73 5 [.ref h0, .int i1, .int i2, .int i3, .int i4] [] S = (xm_gR S h0 4 0).bind fun n1 => (xm_gI S n1 2 2).bind fun n2 => (if n2 ≤ i4 then some (.inl (some (.int i3)), S) else if xm_isO S (.ref h0) 4 = true then ((xm_C sc xt_M d 63 [.ref h0, .int i4, .int i1, .int i2] S).bind fun o4 => xm_rI o4 (fun n5 S3 => (if n5 = 0 then xm_R sc xt_M d 73 31 [.ref h0, .int i1, .int i2, .int i3, .int i4] [] S3 else xm_R sc xt_M d 73 31 [.ref h0, .int i1, .int i2, .int (i3 + 1), .int i4] [] S3)) (fun e S => some (.inr e, S))) else none) := by
  refine yt_73_5.trans ?_
  simp only [yt_73_7, yt_73_8, yt_73_11, yt_73_14, yt_73_17, yt_73_18, yt_73_20, yt_73_21, yt_73_22, yt_73_25, yt_73_28, yt_73_37, yt_73_38, xe_T, xk_xf, xl_A0, xl_I1, xl_I2, xl_I3, xl_I4, xp_I, xp_R, xp_RS, xq_c0, xr_1, List.set_cons_zero, List.set_cons_succ, List.cons_append, List.nil_append, Nat.reduceAdd]
set_option maxRecDepth 4000 in
theorem yb_73_31 {sc : xm_Sc} {d : Nat} {h0 : Nat} {i1 : Int32} {i2 : Int32} {i3 : Int32} {i4 : Int32} {S : xm_PS}  : xm_R sc xt_M d 73 31 [.ref h0, .int i1, .int i2, .int i3, .int i4] [] S = xm_R sc xt_M d 73 5 [.ref h0, .int i1, .int i2, .int i3, .int (i4 + 1)] [] S := by
  refine yt_73_31.trans ?_
  simp only [yt_73_34, xl_I4, List.set_cons_zero, List.set_cons_succ]
set_option maxRecDepth 4000 in
theorem yb_74_0 {sc : xm_Sc} {d : Nat} {h0 : Nat} {i1 : Int32} {i2 : Int32} {v3 : Value} {v4 : Value} {S : xm_PS}  : xm_R sc xt_M d 74 0 [.ref h0, .int i1, .int i2, v3, v4] [] S = xm_R sc xt_M d 74 5 [.ref h0, .int i1, .int i2, .int 0, .int 0] [] S := by
  refine yt_74_0.trans ?_
  simp only [yt_74_1, yt_74_2, yt_74_3, xp_I, List.set_cons_zero, List.set_cons_succ]
set_option maxRecDepth 4000 in
theorem yb_74_5 {sc : xm_Sc} {d : Nat} {h0 : Nat} {i1 : Int32} {i2 : Int32} {i3 : Int32} {i4 : Int32} {S : xm_PS}  : xm_R sc xt_M d 74 5 [.ref h0, .int i1, .int i2, .int i3, .int i4] [] S = (xm_gR S h0 4 0).bind fun n1 => (xm_gI S n1 2 2).bind fun n2 => (if n2 ≤ i4 then some (.inl (some (.int (-1))), S) else if xm_isO S (.ref h0) 4 = true then ((xm_C sc xt_M d 63 [.ref h0, .int i4, .int 1, .int i1] S).bind fun o4 => xm_rI o4 (fun n5 S3 => (if n5 = 0 then xm_R sc xt_M d 74 39 [.ref h0, .int i1, .int i2, .int i3, .int i4] [] S3 else (if i3 = i2 then some (.inl (some (.int i4)), S3) else xm_R sc xt_M d 74 39 [.ref h0, .int i1, .int i2, .int (i3 + 1), .int i4] [] S3))) (fun e S => some (.inr e, S))) else none) := by
  refine yt_74_5.trans ?_
  simp only [yt_74_7, yt_74_8, yt_74_11, yt_74_14, yt_74_17, yt_74_18, yt_74_20, yt_74_21, yt_74_22, yt_74_25, yt_74_28, yt_74_29, yt_74_30, yt_74_33, yt_74_35, yt_74_36, yt_74_45, yt_74_46, xe_T, xk_xf, xl_A0, xl_I1, xl_I2, xl_I3, xl_I4, xp_I, xp_R, xp_RS, xq_c0, xr_1, List.set_cons_zero, List.set_cons_succ, List.cons_append, List.nil_append, Nat.reduceAdd]
set_option maxRecDepth 4000 in
theorem yb_74_39 {sc : xm_Sc} {d : Nat} {h0 : Nat} {i1 : Int32} {i2 : Int32} {i3 : Int32} {i4 : Int32} {S : xm_PS}  : xm_R sc xt_M d 74 39 [.ref h0, .int i1, .int i2, .int i3, .int i4] [] S = xm_R sc xt_M d 74 5 [.ref h0, .int i1, .int i2, .int i3, .int (i4 + 1)] [] S := by
  refine yt_74_39.trans ?_
  simp only [yt_74_42, xl_I4, List.set_cons_zero, List.set_cons_succ]
set_option maxRecDepth 4000 in
theorem yb_75_0 {sc : xm_Sc} {d : Nat} {h0 : Nat} {i1 : Int32} {i2 : Int32} {S : xm_PS}  : xm_R sc xt_M d 75 0 [.ref h0, .int i1, .int i2] [] S = (if i2.toInt = 0 then (xm_gR S h0 4 6).bind fun n23 => (xm_aI S n23 0 i1).bind fun n24 => some (.inl (some (.int n24)), S) else (if i2.toInt = 1 then (xm_gR S h0 4 7).bind fun n21 => (xm_aI S n21 0 i1).bind fun n22 => some (.inl (some (.int n22)), S) else (if i2.toInt = 2 then (xm_gR S h0 4 0).bind fun n18 => (xm_gR S n18 2 6).bind fun n19 => (xm_aI S n19 0 i1).bind fun n20 => some (.inl (some (.int n20)), S) else (if i2.toInt = 3 then if xm_isO S (.ref h0) 4 = true then ((xm_C sc xt_M d 67 [.ref h0, .int i1] S).bind fun o16 => xm_rI o16 (fun n17 S15 => some (.inl (some (.int n17)), S15)) (fun e S => some (.inr e, S))) else none else (if i2.toInt = 4 then (xm_gR S h0 4 10).bind fun n11 => if xm_isO S (.ref n11) 3 = true then ((xm_C sc xt_M d 47 [.ref n11, .int i1] S).bind fun o13 => xm_rI o13 (fun n14 S12 => some (.inl (some (.int n14)), S12)) (fun e S => some (.inr e, S))) else none else (if i2.toInt = 5 then if xm_isO S (.ref h0) 4 = true then ((xm_C sc xt_M d 62 [.ref h0, .int i1] S).bind fun o9 => xm_rI o9 (fun n10 S8 => (if n10 = 0 then some (.inl (some (.int 0)), S8) else some (.inl (some (.int 1)), S8))) (fun e S => some (.inr e, S))) else none else (if i2.toInt = 6 then (xm_gR S h0 4 8).bind fun n6 => (xm_aI S n6 0 i1).bind fun n7 => some (.inl (some (.int n7)), S) else (if i2.toInt = 7 then (xm_gR S h0 4 9).bind fun n4 => (xm_aI S n4 0 i1).bind fun n5 => some (.inl (some (.int n5)), S) else if xm_isO S (.ref h0) 4 = true then ((xm_C sc xt_M d 68 [.ref h0, .int i1] S).bind fun o2 => xm_rI o2 (fun n3 S1 => some (.inl (some (.int n3)), S1)) (fun e S => some (.inr e, S))) else none)))))))) := by
  refine yt_75_0.trans ?_
  simp only [yt_75_1, yt_75_48, yt_75_49, yt_75_52, yt_75_53, yt_75_54, yt_75_55, yt_75_56, yt_75_59, yt_75_60, yt_75_61, yt_75_62, yt_75_63, yt_75_66, yt_75_69, yt_75_70, yt_75_71, yt_75_72, yt_75_73, yt_75_74, yt_75_77, yt_75_78, yt_75_79, yt_75_82, yt_75_83, yt_75_86, yt_75_87, yt_75_88, yt_75_89, yt_75_92, yt_75_95, yt_75_96, yt_75_99, yt_75_100, yt_75_101, yt_75_102, yt_75_105, yt_75_106, yt_75_107, yt_75_108, yt_75_109, yt_75_112, yt_75_113, yt_75_114, yt_75_115, yt_75_116, yt_75_117, yt_75_120, xe_T, xk_xf, xl_A0, xl_I1, xl_I2, xp_I, xp_R, xp_RS, xq_c0, xr_1, List.cons_append, List.nil_append, Nat.reduceAdd]
set_option maxRecDepth 4000 in
theorem yb_76_0 {sc : xm_Sc} {d : Nat} {h0 : Nat} {v1 : Value} {v2 : Value} {S : xm_PS}  : xm_R sc xt_M d 76 0 [.ref h0, v1, v2] [] S = (xm_gI S h0 4 1).bind fun n1 => (xm_sF S h0 4 1 (.int (n1 + 1))).bind fun S2 => xm_R sc xt_M d 76 12 [.ref h0, .int 0, v2] [] S2 := by
  refine yt_76_0.trans ?_
  simp only [yt_76_1, yt_76_2, yt_76_5, yt_76_6, yt_76_7, yt_76_10, yt_76_11, xl_A0, xp_I, xp_R, List.set_cons_zero, List.set_cons_succ]
set_option maxRecDepth 4000 in
theorem yb_76_12 {sc : xm_Sc} {d : Nat} {h0 : Nat} {i1 : Int32} {v2 : Value} {S : xm_PS}  : xm_R sc xt_M d 76 12 [.ref h0, .int i1, v2] [] S = (xm_gR S h0 4 0).bind fun n1 => (xm_gI S n1 2 1).bind fun n2 => (if n2 ≤ i1 then (xm_C sc xt_M d 80 [.ref h0] S).bind fun o4 => xm_r0 o4 (fun S3 => (xm_C sc xt_M d 81 [.ref h0] S3).bind fun o6 => xm_rI o6 (fun n7 S5 => some (.inl (some (.int n7)), S5)) (fun e S => some (.inr e, S))) (fun e S => some (.inr e, S)) else (xm_gR S h0 4 5).bind fun n8 => (xm_gR S h0 4 0).bind fun n9 => (xm_gR S h0 4 5).bind fun n10 => (xm_aI S n10 0 i1).bind fun n11 => if xm_isO S (.ref n9) 2 = true then ((xm_C sc xt_M d 22 [.ref n9, .int i1, .int n11] S).bind fun o13 => xm_rI o13 (fun n14 S12 => (xm_wI S12 n8 0 i1 n14).bind fun S15 => (xm_gR S15 h0 4 0).bind fun n16 => (xm_gR S15 h0 4 5).bind fun n17 => (xm_aI S15 n17 0 i1).bind fun n18 => if xm_isO S15 (.ref n16) 2 = true then ((xm_C sc xt_M d 21 [.ref n16, .int i1, .int n18] S15).bind fun o20 => xm_rI o20 (fun n21 S19 => if xm_isO S19 (.ref h0) 4 = true then ((xm_C sc xt_M d 60 [.ref h0, .int n21] S19).bind fun o23 => xm_rI o23 (fun n24 S22 => (if n24 = 0 then xm_R sc xt_M d 76 78 [.ref h0, .int i1, .int n21] [] S22 else (xm_C sc xt_M d 77 [.ref h0, .int i1, .int n21] S22).bind fun o26 => xm_r0 o26 (fun S25 => (xm_C sc xt_M d 78 [.ref h0, .int i1, .int n21] S25).bind fun o28 => xm_r0 o28 (fun S27 => xm_R sc xt_M d 76 78 [.ref h0, .int i1, .int n21] [] S27) (fun e S => some (.inr e, S))) (fun e S => some (.inr e, S)))) (fun e S => some (.inr e, S))) else none) (fun e S => some (.inr e, S))) else none) (fun e S => some (.inr e, S))) else none) := by
  refine yt_76_12.trans ?_
  simp only [yt_76_13, yt_76_14, yt_76_17, yt_76_20, yt_76_23, yt_76_24, yt_76_27, yt_76_28, yt_76_29, yt_76_32, yt_76_33, yt_76_34, yt_76_37, yt_76_38, yt_76_39, yt_76_42, yt_76_43, yt_76_44, yt_76_47, yt_76_48, yt_76_49, yt_76_52, yt_76_53, yt_76_54, yt_76_57, yt_76_58, yt_76_59, yt_76_60, yt_76_63, yt_76_66, yt_76_67, yt_76_68, yt_76_69, yt_76_72, yt_76_73, yt_76_74, yt_76_75, yt_76_84, yt_76_85, yt_76_88, yt_76_89, yt_76_92, xe_T, xk_xf, xl_A0, xl_I1, xl_I2, xp_I, xp_R, xp_RS, xq_c0, xq_c2, xr_0, xr_1, List.set_cons_zero, List.set_cons_succ, List.cons_append, List.nil_append, Nat.reduceAdd]
set_option maxRecDepth 4000 in
theorem yb_76_78 {sc : xm_Sc} {d : Nat} {h0 : Nat} {i1 : Int32} {i2 : Int32} {S : xm_PS}  : xm_R sc xt_M d 76 78 [.ref h0, .int i1, .int i2] [] S = xm_R sc xt_M d 76 12 [.ref h0, .int (i1 + 1), .int i2] [] S := by
  refine yt_76_78.trans ?_
  simp only [yt_76_81, xl_I1, List.set_cons_zero, List.set_cons_succ]
