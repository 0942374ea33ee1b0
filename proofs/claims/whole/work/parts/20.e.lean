theorem d_Sh_init_0 : decode prog_4_method_1_code 0 = .ok (.aload_n 0, 1) := by decide +kernel
theorem d_Sh_init_1 : decode prog_4_method_1_code 1 = .ok (.invokespecial 3, 3) := by decide +kernel
theorem d_Sh_init_4 : decode prog_4_method_1_code 4 = .ok (.aload_n 0, 1) := by decide +kernel
theorem d_Sh_init_5 : decode prog_4_method_1_code 5 = .ok (.bipush 40, 2) := by decide +kernel
theorem d_Sh_init_7 : decode prog_4_method_1_code 7 = .ok (.newarray .int, 2) := by decide +kernel
theorem d_Sh_init_9 : decode prog_4_method_1_code 9 = .ok (.putfield 9, 3) := by decide +kernel
theorem d_Sh_init_12 : decode prog_4_method_1_code 12 = .ok (.aload_n 0, 1) := by decide +kernel
theorem d_Sh_init_13 : decode prog_4_method_1_code 13 = .ok (.iconst 0, 1) := by decide +kernel
theorem d_Sh_init_14 : decode prog_4_method_1_code 14 = .ok (.putfield 15, 3) := by decide +kernel
theorem d_Sh_init_17 : decode prog_4_method_1_code 17 = .ok (.aload_n 0, 1) := by decide +kernel
theorem d_Sh_init_18 : decode prog_4_method_1_code 18 = .ok (.iconst 0, 1) := by decide +kernel
theorem d_Sh_init_19 : decode prog_4_method_1_code 19 = .ok (.putfield 19, 3) := by decide +kernel
theorem d_Sh_init_22 : decode prog_4_method_1_code 22 = .ok (.return_, 1) := by decide +kernel
set_option maxHeartbeats 4000000 in
set_option maxRecDepth 100000 in
theorem c_Sh_init (l : Launch) (E : QE) (a : Nat) : qN E l y_Sh_init prog_4_method_1_code 1 1 a (1, [.null, .int 0, .int 0]) 1 40 (fun w => ∃ n, w = shL E a n) := by
  refine qN_of (by decide) (by decide) (fun p e s m below meth c ls A X hin hP hD hS hl => ?_)
  refine lv_aload_n X.x X.b d_Sh_init_0 rfl (lv_at hl 0 rfl) ?_
  refine qN_obj X mw_169 hl.1 d_Sh_init_1 (by decide) (by decide) ?_
  refine lv_aload_n X.x X.b d_Sh_init_4 rfl (lv_at hl 0 rfl) ?_
  refine lv_bipush (v := (nI 40)) X.x X.b d_Sh_init_5 (by decide) ?_
  refine qN_newI X hP hD hS (N := 40) (by decide) (Nat.le_of_ble_eq_true rfl) (Nat.le_of_ble_eq_true rfl) d_Sh_init_7 (fun q7 H hP hD hS => ?_)
  have hP : va_P (eG E) vwC ([(a, .inr (1, [.null, .int 0, .int 0]))] ++ [(q7, .inl (eC E 0, 40, .inl (fun _ => 0)))]) H := hP
  have hD : va_D A ([(a, .inr (1, [.null, .int 0, .int 0]))] ++ [(q7, .inl (eC E 0, 40, .inl (fun _ => 0)))]) := hD
  refine W.widen (k := 1) (n := 40) (by omega) (by omega) ?_
  refine va_putF (D := eG E) (ci := 1) (v := .ref q7) (ty := qt1 0) (C := "CarelessMist$Sheet") (T := qT1) (N := 3) X.x X.b X.ts qj1 qt1 qp1 qn1 X.ow X.K hP hD hS 0 rfl rfl 0 (by decide) (X.ts _ mw_170) (fun _ h9 => h9) rfl hin rfl rfl rfl rfl (Nat.le_of_ble_eq_true rfl) d_Sh_init_9 (fun H locs hP hD hS => ?_)
  have hP : va_P (eG E) vwC ([(a, .inr (1, [.ref q7, .int 0, .int 0]))] ++ [(q7, .inl (eC E 0, 40, .inl (fun _ => 0)))]) H := hP
  have hD : va_D A ([(a, .inr (1, [.ref q7, .int 0, .int 0]))] ++ [(q7, .inl (eC E 0, 40, .inl (fun _ => 0)))]) := hD
  refine lv_aload_n X.x X.b d_Sh_init_12 rfl (lv_at hl 0 rfl) ?_
  refine lv_iconst (v := (nI 0)) X.x X.b d_Sh_init_13 (by decide) ?_
  refine va_put (D := eG E) (ci := 1) (v := .int (nI 0)) (ty := qt1 1) (C := "CarelessMist$Sheet") (T := qT1) (N := 3) X.x X.b X.ts qj1 qt1 qp1 qn1 X.ow X.K hP hD hS 0 rfl rfl 1 (by decide) (X.ts _ mw_172) (fun _ h9 => h9) rfl rfl (by first | rfl | decide) rfl (Nat.le_of_ble_eq_true rfl) d_Sh_init_14 (fun H locs hP hD hS => ?_)
  have hP : va_P (eG E) vwC ([(a, .inr (1, [.ref q7, .int (nI 0), .int 0]))] ++ [(q7, .inl (eC E 0, 40, .inl (fun _ => 0)))]) H := hP
  have hD : va_D A ([(a, .inr (1, [.ref q7, .int (nI 0), .int 0]))] ++ [(q7, .inl (eC E 0, 40, .inl (fun _ => 0)))]) := hD
  refine lv_aload_n X.x X.b d_Sh_init_17 rfl (lv_at hl 0 rfl) ?_
  refine lv_iconst (v := (nI 0)) X.x X.b d_Sh_init_18 (by decide) ?_
  refine va_put (D := eG E) (ci := 1) (v := .int (nI 0)) (ty := qt1 2) (C := "CarelessMist$Sheet") (T := qT1) (N := 3) X.x X.b X.ts qj1 qt1 qp1 qn1 X.ow X.K hP hD hS 0 rfl rfl 2 (by decide) (X.ts _ mw_174) (fun _ h9 => h9) rfl rfl (by first | rfl | decide) rfl (Nat.le_of_ble_eq_true rfl) d_Sh_init_19 (fun H locs hP hD hS => ?_)
  have hP : va_P (eG E) vwC ([(a, .inr (1, [.ref q7, .int (nI 0), .int (nI 0)]))] ++ [(q7, .inl (eC E 0, 40, .inl (fun _ => 0)))]) H := hP
  have hD : va_D A ([(a, .inr (1, [.ref q7, .int (nI 0), .int (nI 0)]))] ++ [(q7, .inl (eC E 0, 40, .inl (fun _ => 0)))]) := hD
  exact qN_ret X (⟨_, rfl⟩) hP hD hS (by decide) (by decide) d_Sh_init_22
theorem d_Tp_init_0 : decode prog_5_method_1_code 0 = .ok (.aload_n 0, 1) := by decide +kernel
theorem d_Tp_init_1 : decode prog_5_method_1_code 1 = .ok (.invokespecial 3, 3) := by decide +kernel
theorem d_Tp_init_4 : decode prog_5_method_1_code 4 = .ok (.aload_n 0, 1) := by decide +kernel
theorem d_Tp_init_5 : decode prog_5_method_1_code 5 = .ok (.bipush 120, 2) := by decide +kernel
theorem d_Tp_init_7 : decode prog_5_method_1_code 7 = .ok (.newarray .int, 2) := by decide +kernel
theorem d_Tp_init_9 : decode prog_5_method_1_code 9 = .ok (.putfield 9, 3) := by decide +kernel
theorem d_Tp_init_12 : decode prog_5_method_1_code 12 = .ok (.aload_n 0, 1) := by decide +kernel
theorem d_Tp_init_13 : decode prog_5_method_1_code 13 = .ok (.iconst 0, 1) := by decide +kernel
theorem d_Tp_init_14 : decode prog_5_method_1_code 14 = .ok (.putfield 15, 3) := by decide +kernel
theorem d_Tp_init_17 : decode prog_5_method_1_code 17 = .ok (.aload_n 0, 1) := by decide +kernel
theorem d_Tp_init_18 : decode prog_5_method_1_code 18 = .ok (.iconst 0, 1) := by decide +kernel
theorem d_Tp_init_19 : decode prog_5_method_1_code 19 = .ok (.putfield 19, 3) := by decide +kernel
theorem d_Tp_init_22 : decode prog_5_method_1_code 22 = .ok (.aload_n 0, 1) := by decide +kernel
theorem d_Tp_init_23 : decode prog_5_method_1_code 23 = .ok (.iconst 0, 1) := by decide +kernel
theorem d_Tp_init_24 : decode prog_5_method_1_code 24 = .ok (.putfield 22, 3) := by decide +kernel
theorem d_Tp_init_27 : decode prog_5_method_1_code 27 = .ok (.aload_n 0, 1) := by decide +kernel
theorem d_Tp_init_28 : decode prog_5_method_1_code 28 = .ok (.iconst 0, 1) := by decide +kernel
theorem d_Tp_init_29 : decode prog_5_method_1_code 29 = .ok (.putfield 25, 3) := by decide +kernel
theorem d_Tp_init_32 : decode prog_5_method_1_code 32 = .ok (.aload_n 0, 1) := by decide +kernel
theorem d_Tp_init_33 : decode prog_5_method_1_code 33 = .ok (.iconst 0, 1) := by decide +kernel
theorem d_Tp_init_34 : decode prog_5_method_1_code 34 = .ok (.putfield 28, 3) := by decide +kernel
theorem d_Tp_init_37 : decode prog_5_method_1_code 37 = .ok (.return_, 1) := by decide +kernel
set_option maxHeartbeats 4000000 in
set_option maxRecDepth 100000 in
theorem c_Tp_init (l : Launch) (E : QE) (a : Nat) : qN E l y_Tp_init prog_5_method_1_code 1 1 a (2, [.null, .int 0, .int 0, .int 0, .int 0, .int 0]) 1 120 (fun w => ∃ n, w = tpL E a n) := by
  refine qN_of (by decide) (by decide) (fun p e s m below meth c ls A X hin hP hD hS hl => ?_)
  refine lv_aload_n X.x X.b d_Tp_init_0 rfl (lv_at hl 0 rfl) ?_
  refine qN_obj X mw_142 hl.1 d_Tp_init_1 (by decide) (by decide) ?_
  refine lv_aload_n X.x X.b d_Tp_init_4 rfl (lv_at hl 0 rfl) ?_
  refine lv_bipush (v := (nI 120)) X.x X.b d_Tp_init_5 (by decide) ?_
  refine qN_newI X hP hD hS (N := 120) (by decide) (Nat.le_of_ble_eq_true rfl) (Nat.le_of_ble_eq_true rfl) d_Tp_init_7 (fun q7 H hP hD hS => ?_)
  have hP : va_P (eG E) vwC ([(a, .inr (2, [.null, .int 0, .int 0, .int 0, .int 0, .int 0]))] ++ [(q7, .inl (eC E 0, 120, .inl (fun _ => 0)))]) H := hP
  have hD : va_D A ([(a, .inr (2, [.null, .int 0, .int 0, .int 0, .int 0, .int 0]))] ++ [(q7, .inl (eC E 0, 120, .inl (fun _ => 0)))]) := hD
  refine W.widen (k := 1) (n := 120) (by omega) (by omega) ?_
  refine va_putF (D := eG E) (ci := 2) (v := .ref q7) (ty := qt2 0) (C := "CarelessMist$Tape") (T := qT2) (N := 6) X.x X.b X.ts qj2 qt2 qp2 qn2 X.ow X.K hP hD hS 0 rfl rfl 0 (by decide) (X.ts _ mw_143) (fun _ h9 => h9) rfl hin rfl rfl rfl rfl (Nat.le_of_ble_eq_true rfl) d_Tp_init_9 (fun H locs hP hD hS => ?_)
  have hP : va_P (eG E) vwC ([(a, .inr (2, [.ref q7, .int 0, .int 0, .int 0, .int 0, .int 0]))] ++ [(q7, .inl (eC E 0, 120, .inl (fun _ => 0)))]) H := hP
  have hD : va_D A ([(a, .inr (2, [.ref q7, .int 0, .int 0, .int 0, .int 0, .int 0]))] ++ [(q7, .inl (eC E 0, 120, .inl (fun _ => 0)))]) := hD
  refine lv_aload_n X.x X.b d_Tp_init_12 rfl (lv_at hl 0 rfl) ?_
  refine lv_iconst (v := (nI 0)) X.x X.b d_Tp_init_13 (by decide) ?_
  refine va_put (D := eG E) (ci := 2) (v := .int (nI 0)) (ty := qt2 1) (C := "CarelessMist$Tape") (T := qT2) (N := 6) X.x X.b X.ts qj2 qt2 qp2 qn2 X.ow X.K hP hD hS 0 rfl rfl 1 (by decide) (X.ts _ mw_144) (fun _ h9 => h9) rfl rfl (by first | rfl | decide) rfl (Nat.le_of_ble_eq_true rfl) d_Tp_init_14 (fun H locs hP hD hS => ?_)
  have hP : va_P (eG E) vwC ([(a, .inr (2, [.ref q7, .int (nI 0), .int 0, .int 0, .int 0, .int 0]))] ++ [(q7, .inl (eC E 0, 120, .inl (fun _ => 0)))]) H := hP
  have hD : va_D A ([(a, .inr (2, [.ref q7, .int (nI 0), .int 0, .int 0, .int 0, .int 0]))] ++ [(q7, .inl (eC E 0, 120, .inl (fun _ => 0)))]) := hD
  refine lv_aload_n X.x X.b d_Tp_init_17 rfl (lv_at hl 0 rfl) ?_
  refine lv_iconst (v := (nI 0)) X.x X.b d_Tp_init_18 (by decide) ?_
  refine va_put (D := eG E) (ci := 2) (v := .int (nI 0)) (ty := qt2 2) (C := "CarelessMist$Tape") (T := qT2) (N := 6) X.x X.b X.ts qj2 qt2 qp2 qn2 X.ow X.K hP hD hS 0 rfl rfl 2 (by decide) (X.ts _ mw_146) (fun _ h9 => h9) rfl rfl (by first | rfl | decide) rfl (Nat.le_of_ble_eq_true rfl) d_Tp_init_19 (fun H locs hP hD hS => ?_)
  have hP : va_P (eG E) vwC ([(a, .inr (2, [.ref q7, .int (nI 0), .int (nI 0), .int 0, .int 0, .int 0]))] ++ [(q7, .inl (eC E 0, 120, .inl (fun _ => 0)))]) H := hP
  have hD : va_D A ([(a, .inr (2, [.ref q7, .int (nI 0), .int (nI 0), .int 0, .int 0, .int 0]))] ++ [(q7, .inl (eC E 0, 120, .inl (fun _ => 0)))]) := hD
  refine lv_aload_n X.x X.b d_Tp_init_22 rfl (lv_at hl 0 rfl) ?_
  refine lv_iconst (v := (nI 0)) X.x X.b d_Tp_init_23 (by decide) ?_
  refine va_put (D := eG E) (ci := 2) (v := .int (nI 0)) (ty := qt2 3) (C := "CarelessMist$Tape") (T := qT2) (N := 6) X.x X.b X.ts qj2 qt2 qp2 qn2 X.ow X.K hP hD hS 0 rfl rfl 3 (by decide) (X.ts _ mw_147) (fun _ h9 => h9) rfl rfl (by first | rfl | decide) rfl (Nat.le_of_ble_eq_true rfl) d_Tp_init_24 (fun H locs hP hD hS => ?_)
  have hP : va_P (eG E) vwC ([(a, .inr (2, [.ref q7, .int (nI 0), .int (nI 0), .int (nI 0), .int 0, .int 0]))] ++ [(q7, .inl (eC E 0, 120, .inl (fun _ => 0)))]) H := hP
  have hD : va_D A ([(a, .inr (2, [.ref q7, .int (nI 0), .int (nI 0), .int (nI 0), .int 0, .int 0]))] ++ [(q7, .inl (eC E 0, 120, .inl (fun _ => 0)))]) := hD
  refine lv_aload_n X.x X.b d_Tp_init_27 rfl (lv_at hl 0 rfl) ?_
  refine lv_iconst (v := (nI 0)) X.x X.b d_Tp_init_28 (by decide) ?_
  refine va_put (D := eG E) (ci := 2) (v := .int (nI 0)) (ty := qt2 4) (C := "CarelessMist$Tape") (T := qT2) (N := 6) X.x X.b X.ts qj2 qt2 qp2 qn2 X.ow X.K hP hD hS 0 rfl rfl 4 (by decide) (X.ts _ mw_148) (fun _ h9 => h9) rfl rfl (by first | rfl | decide) rfl (Nat.le_of_ble_eq_true rfl) d_Tp_init_29 (fun H locs hP hD hS => ?_)
  have hP : va_P (eG E) vwC ([(a, .inr (2, [.ref q7, .int (nI 0), .int (nI 0), .int (nI 0), .int (nI 0), .int 0]))] ++ [(q7, .inl (eC E 0, 120, .inl (fun _ => 0)))]) H := hP
  have hD : va_D A ([(a, .inr (2, [.ref q7, .int (nI 0), .int (nI 0), .int (nI 0), .int (nI 0), .int 0]))] ++ [(q7, .inl (eC E 0, 120, .inl (fun _ => 0)))]) := hD
  refine lv_aload_n X.x X.b d_Tp_init_32 rfl (lv_at hl 0 rfl) ?_
  refine lv_iconst (v := (nI 0)) X.x X.b d_Tp_init_33 (by decide) ?_
  refine va_put (D := eG E) (ci := 2) (v := .int (nI 0)) (ty := qt2 5) (C := "CarelessMist$Tape") (T := qT2) (N := 6) X.x X.b X.ts qj2 qt2 qp2 qn2 X.ow X.K hP hD hS 0 rfl rfl 5 (by decide) (X.ts _ mw_149) (fun _ h9 => h9) rfl rfl (by first | rfl | decide) rfl (Nat.le_of_ble_eq_true rfl) d_Tp_init_34 (fun H locs hP hD hS => ?_)
  have hP : va_P (eG E) vwC ([(a, .inr (2, [.ref q7, .int (nI 0), .int (nI 0), .int (nI 0), .int (nI 0), .int (nI 0)]))] ++ [(q7, .inl (eC E 0, 120, .inl (fun _ => 0)))]) H := hP
  have hD : va_D A ([(a, .inr (2, [.ref q7, .int (nI 0), .int (nI 0), .int (nI 0), .int (nI 0), .int (nI 0)]))] ++ [(q7, .inl (eC E 0, 120, .inl (fun _ => 0)))]) := hD
  exact qN_ret X (⟨_, rfl⟩) hP hD hS (by decide) (by decide) d_Tp_init_37
theorem d_Cm_init_0 : decode prog_2_method_1_code 0 = .ok (.aload_n 0, 1) := by decide +kernel
theorem d_Cm_init_1 : decode prog_2_method_1_code 1 = .ok (.invokespecial 3, 3) := by decide +kernel
theorem d_Cm_init_4 : decode prog_2_method_1_code 4 = .ok (.aload_n 0, 1) := by decide +kernel
theorem d_Cm_init_5 : decode prog_2_method_1_code 5 = .ok (.bipush 6, 2) := by decide +kernel
theorem d_Cm_init_7 : decode prog_2_method_1_code 7 = .ok (.newarray .int, 2) := by decide +kernel
theorem d_Cm_init_9 : decode prog_2_method_1_code 9 = .ok (.putfield 9, 3) := by decide +kernel
theorem d_Cm_init_12 : decode prog_2_method_1_code 12 = .ok (.aload_n 0, 1) := by decide +kernel
theorem d_Cm_init_13 : decode prog_2_method_1_code 13 = .ok (.bipush 8, 2) := by decide +kernel
theorem d_Cm_init_15 : decode prog_2_method_1_code 15 = .ok (.iconst 3, 1) := by decide +kernel
theorem d_Cm_init_16 : decode prog_2_method_1_code 16 = .ok (.multianewarray 15 2, 4) := by decide +kernel
theorem d_Cm_init_20 : decode prog_2_method_1_code 20 = .ok (.putfield 17, 3) := by decide +kernel
theorem d_Cm_init_23 : decode prog_2_method_1_code 23 = .ok (.aload_n 0, 1) := by decide +kernel
theorem d_Cm_init_24 : decode prog_2_method_1_code 24 = .ok (.bipush 6, 2) := by decide +kernel
theorem d_Cm_init_26 : decode prog_2_method_1_code 26 = .ok (.bipush 6, 2) := by decide +kernel
theorem d_Cm_init_28 : decode prog_2_method_1_code 28 = .ok (.multianewarray 15 2, 4) := by decide +kernel
theorem d_Cm_init_32 : decode prog_2_method_1_code 32 = .ok (.putfield 20, 3) := by decide +kernel
theorem d_Cm_init_35 : decode prog_2_method_1_code 35 = .ok (.aload_n 0, 1) := by decide +kernel
theorem d_Cm_init_36 : decode prog_2_method_1_code 36 = .ok (.bipush 10, 2) := by decide +kernel
theorem d_Cm_init_38 : decode prog_2_method_1_code 38 = .ok (.newarray .int, 2) := by decide +kernel
theorem d_Cm_init_40 : decode prog_2_method_1_code 40 = .ok (.putfield 23, 3) := by decide +kernel
theorem d_Cm_init_43 : decode prog_2_method_1_code 43 = .ok (.aload_n 0, 1) := by decide +kernel
theorem d_Cm_init_44 : decode prog_2_method_1_code 44 = .ok (.iconst 0, 1) := by decide +kernel
theorem d_Cm_init_45 : decode prog_2_method_1_code 45 = .ok (.putfield 26, 3) := by decide +kernel
theorem d_Cm_init_48 : decode prog_2_method_1_code 48 = .ok (.aload_n 0, 1) := by decide +kernel
theorem d_Cm_init_49 : decode prog_2_method_1_code 49 = .ok (.iconst 0, 1) := by decide +kernel
theorem d_Cm_init_50 : decode prog_2_method_1_code 50 = .ok (.putfield 30, 3) := by decide +kernel
theorem d_Cm_init_53 : decode prog_2_method_1_code 53 = .ok (.aload_n 0, 1) := by decide +kernel
theorem d_Cm_init_54 : decode prog_2_method_1_code 54 = .ok (.iconst 0, 1) := by decide +kernel
theorem d_Cm_init_55 : decode prog_2_method_1_code 55 = .ok (.putfield 33, 3) := by decide +kernel
theorem d_Cm_init_58 : decode prog_2_method_1_code 58 = .ok (.aload_n 0, 1) := by decide +kernel
theorem d_Cm_init_59 : decode prog_2_method_1_code 59 = .ok (.iconst 1, 1) := by decide +kernel
theorem d_Cm_init_60 : decode prog_2_method_1_code 60 = .ok (.putfield 36, 3) := by decide +kernel
theorem d_Cm_init_63 : decode prog_2_method_1_code 63 = .ok (.aload_n 0, 1) := by decide +kernel
theorem d_Cm_init_64 : decode prog_2_method_1_code 64 = .ok (.getfield 23, 3) := by decide +kernel
theorem d_Cm_init_67 : decode prog_2_method_1_code 67 = .ok (.iconst (-1), 1) := by decide +kernel
theorem d_Cm_init_68 : decode prog_2_method_1_code 68 = .ok (.invokestatic 39, 3) := by decide +kernel
theorem d_Cm_init_71 : decode prog_2_method_1_code 71 = .ok (.return_, 1) := by decide +kernel
set_option maxHeartbeats 4000000 in
set_option maxRecDepth 100000 in
theorem c_Cm_init (l : Launch) (E : QE) (a : Nat) : qN E l y_Cm_init prog_2_method_1_code 1 3 a (0, [.null, .null, .null, .null, .int 0, .int 0, .int 0, .int 0]) 18 90 (fun w => ∃ l t w' z, w = cmL E a l t w' z) := by
  refine qN_of (by decide) (by decide) (fun p e s m below meth c ls A X hin hP hD hS hl => ?_)
  refine lv_aload_n X.x X.b d_Cm_init_0 rfl (lv_at hl 0 rfl) ?_
  refine qN_obj X mw_93 hl.1 d_Cm_init_1 (by decide) (by decide) ?_
  refine lv_aload_n X.x X.b d_Cm_init_4 rfl (lv_at hl 0 rfl) ?_
  refine lv_bipush (v := (nI 6)) X.x X.b d_Cm_init_5 (by decide) ?_
  refine qN_newI X hP hD hS (N := 6) (by decide) (Nat.le_of_ble_eq_true rfl) (Nat.le_of_ble_eq_true rfl) d_Cm_init_7 (fun q7 H hP hD hS => ?_)
  have hP : va_P (eG E) vwC ([(a, .inr (0, [.null, .null, .null, .null, .int 0, .int 0, .int 0, .int 0]))] ++ [(q7, .inl (eC E 0, 6, .inl (fun _ => 0)))]) H := hP
  have hD : va_D A ([(a, .inr (0, [.null, .null, .null, .null, .int 0, .int 0, .int 0, .int 0]))] ++ [(q7, .inl (eC E 0, 6, .inl (fun _ => 0)))]) := hD
  refine W.widen (k := 1) (n := 6) (by omega) (by omega) ?_
  refine va_putF (D := eG E) (ci := 0) (v := .ref q7) (ty := qt0 0) (C := "CarelessMist$Common") (T := qT0) (N := 8) X.x X.b X.ts qj0 qt0 qp0 qn0 X.ow X.K hP hD hS 0 rfl rfl 0 (by decide) (X.ts _ mw_99) (fun _ h9 => h9) rfl hin rfl rfl rfl rfl (Nat.le_of_ble_eq_true rfl) d_Cm_init_9 (fun H locs hP hD hS => ?_)
  have hP : va_P (eG E) vwC ([(a, .inr (0, [.ref q7, .null, .null, .null, .int 0, .int 0, .int 0, .int 0]))] ++ [(q7, .inl (eC E 0, 6, .inl (fun _ => 0)))]) H := hP
  have hD : va_D A ([(a, .inr (0, [.ref q7, .null, .null, .null, .int 0, .int 0, .int 0, .int 0]))] ++ [(q7, .inl (eC E 0, 6, .inl (fun _ => 0)))]) := hD
  refine lv_aload_n X.x X.b d_Cm_init_12 rfl (lv_at hl 0 rfl) ?_
  refine lv_bipush (v := (nI 8)) X.x X.b d_Cm_init_13 (by decide) ?_
  refine lv_iconst (v := (nI 3)) X.x X.b d_Cm_init_15 (by decide) ?_
  refine qN_newM X hP hD hS (N := 8) (M := 3) (by decide) (by decide) (qTB_in (w := .classLink "CarelessMist$Common" 15 "[[I") (i := 94) (by decide +kernel) rfl) (Nat.le_of_ble_eq_true rfl) (Nat.le_of_ble_eq_true rfl) d_Cm_init_16 (fun q16 H locs hP hD hS => ?_)
  have hP : va_P (eG E) vwC ([(a, .inr (0, [.ref q7, .null, .null, .null, .int 0, .int 0, .int 0, .int 0]))] ++ [(q7, .inl (eC E 0, 6, .inl (fun _ => 0)))] ++ qMW E q16 8 3) H := hP
  have hD : va_D A ([(a, .inr (0, [.ref q7, .null, .null, .null, .int 0, .int 0, .int 0, .int 0]))] ++ [(q7, .inl (eC E 0, 6, .inl (fun _ => 0)))] ++ qMW E q16 8 3) := hD
  refine W.widen (k := 10) (n := 38) (by omega) (by omega) ?_
  refine va_putF (D := eG E) (ci := 0) (v := .ref q16) (ty := qt0 1) (C := "CarelessMist$Common") (T := qT0) (N := 8) X.x X.b X.ts qj0 qt0 qp0 qn0 X.ow X.K hP hD hS 0 rfl rfl 1 (by decide) (X.ts _ mw_102) (fun _ h9 => h9) rfl hin rfl rfl rfl rfl (Nat.le_of_ble_eq_true rfl) d_Cm_init_20 (fun H locs hP hD hS => ?_)
  have hP : va_P (eG E) vwC ([(a, .inr (0, [.ref q7, .ref q16, .null, .null, .int 0, .int 0, .int 0, .int 0]))] ++ [(q7, .inl (eC E 0, 6, .inl (fun _ => 0)))] ++ qMW E q16 8 3) H := hP
  have hD : va_D A ([(a, .inr (0, [.ref q7, .ref q16, .null, .null, .int 0, .int 0, .int 0, .int 0]))] ++ [(q7, .inl (eC E 0, 6, .inl (fun _ => 0)))] ++ qMW E q16 8 3) := hD
  refine lv_aload_n X.x X.b d_Cm_init_23 rfl (lv_at hl 0 rfl) ?_
  refine lv_bipush (v := (nI 6)) X.x X.b d_Cm_init_24 (by decide) ?_
  refine lv_bipush (v := (nI 6)) X.x X.b d_Cm_init_26 (by decide) ?_
  refine qN_newM X hP hD hS (N := 6) (M := 6) (by decide) (by decide) (qTB_in (w := .classLink "CarelessMist$Common" 15 "[[I") (i := 94) (by decide +kernel) rfl) (Nat.le_of_ble_eq_true rfl) (Nat.le_of_ble_eq_true rfl) d_Cm_init_28 (fun q28 H locs hP hD hS => ?_)
  have hP : va_P (eG E) vwC ([(a, .inr (0, [.ref q7, .ref q16, .null, .null, .int 0, .int 0, .int 0, .int 0]))] ++ [(q7, .inl (eC E 0, 6, .inl (fun _ => 0)))] ++ qMW E q16 8 3 ++ qMW E q28 6 6) H := hP
  have hD : va_D A ([(a, .inr (0, [.ref q7, .ref q16, .null, .null, .int 0, .int 0, .int 0, .int 0]))] ++ [(q7, .inl (eC E 0, 6, .inl (fun _ => 0)))] ++ qMW E q16 8 3 ++ qMW E q28 6 6) := hD
  refine W.widen (k := 17) (n := 80) (by omega) (by omega) ?_
  refine va_putF (D := eG E) (ci := 0) (v := .ref q28) (ty := qt0 2) (C := "CarelessMist$Common") (T := qT0) (N := 8) X.x X.b X.ts qj0 qt0 qp0 qn0 X.ow X.K hP hD hS 0 rfl rfl 2 (by decide) (X.ts _ mw_104) (fun _ h9 => h9) rfl hin rfl rfl rfl rfl (Nat.le_of_ble_eq_true rfl) d_Cm_init_32 (fun H locs hP hD hS => ?_)
  have hP : va_P (eG E) vwC ([(a, .inr (0, [.ref q7, .ref q16, .ref q28, .null, .int 0, .int 0, .int 0, .int 0]))] ++ [(q7, .inl (eC E 0, 6, .inl (fun _ => 0)))] ++ qMW E q16 8 3 ++ qMW E q28 6 6) H := hP
  have hD : va_D A ([(a, .inr (0, [.ref q7, .ref q16, .ref q28, .null, .int 0, .int 0, .int 0, .int 0]))] ++ [(q7, .inl (eC E 0, 6, .inl (fun _ => 0)))] ++ qMW E q16 8 3 ++ qMW E q28 6 6) := hD
  refine lv_aload_n X.x X.b d_Cm_init_35 rfl (lv_at hl 0 rfl) ?_
  refine lv_bipush (v := (nI 10)) X.x X.b d_Cm_init_36 (by decide) ?_
  refine qN_newI X hP hD hS (N := 10) (by decide) (Nat.le_of_ble_eq_true rfl) (Nat.le_of_ble_eq_true rfl) d_Cm_init_38 (fun q38 H hP hD hS => ?_)
  have hP : va_P (eG E) vwC ([(a, .inr (0, [.ref q7, .ref q16, .ref q28, .null, .int 0, .int 0, .int 0, .int 0]))] ++ [(q7, .inl (eC E 0, 6, .inl (fun _ => 0)))] ++ qMW E q16 8 3 ++ qMW E q28 6 6 ++ [(q38, .inl (eC E 0, 10, .inl (fun _ => 0)))]) H := hP
  have hD : va_D A ([(a, .inr (0, [.ref q7, .ref q16, .ref q28, .null, .int 0, .int 0, .int 0, .int 0]))] ++ [(q7, .inl (eC E 0, 6, .inl (fun _ => 0)))] ++ qMW E q16 8 3 ++ qMW E q28 6 6 ++ [(q38, .inl (eC E 0, 10, .inl (fun _ => 0)))]) := hD
  refine W.widen (k := 18) (n := 90) (by omega) (by omega) ?_
  refine va_putF (D := eG E) (ci := 0) (v := .ref q38) (ty := qt0 3) (C := "CarelessMist$Common") (T := qT0) (N := 8) X.x X.b X.ts qj0 qt0 qp0 qn0 X.ow X.K hP hD hS 0 rfl rfl 3 (by decide) (X.ts _ mw_107) (fun _ h9 => h9) rfl hin rfl rfl rfl rfl (Nat.le_of_ble_eq_true rfl) d_Cm_init_40 (fun H locs hP hD hS => ?_)
  have hP : va_P (eG E) vwC ([(a, .inr (0, [.ref q7, .ref q16, .ref q28, .ref q38, .int 0, .int 0, .int 0, .int 0]))] ++ [(q7, .inl (eC E 0, 6, .inl (fun _ => 0)))] ++ qMW E q16 8 3 ++ qMW E q28 6 6 ++ [(q38, .inl (eC E 0, 10, .inl (fun _ => 0)))]) H := hP
  have hD : va_D A ([(a, .inr (0, [.ref q7, .ref q16, .ref q28, .ref q38, .int 0, .int 0, .int 0, .int 0]))] ++ [(q7, .inl (eC E 0, 6, .inl (fun _ => 0)))] ++ qMW E q16 8 3 ++ qMW E q28 6 6 ++ [(q38, .inl (eC E 0, 10, .inl (fun _ => 0)))]) := hD
  refine lv_aload_n X.x X.b d_Cm_init_43 rfl (lv_at hl 0 rfl) ?_
  refine lv_iconst (v := (nI 0)) X.x X.b d_Cm_init_44 (by decide) ?_
  refine va_put (D := eG E) (ci := 0) (v := .int (nI 0)) (ty := qt0 4) (C := "CarelessMist$Common") (T := qT0) (N := 8) X.x X.b X.ts qj0 qt0 qp0 qn0 X.ow X.K hP hD hS 0 rfl rfl 4 (by decide) (X.ts _ mw_109) (fun _ h9 => h9) rfl rfl (by first | rfl | decide) rfl (Nat.le_of_ble_eq_true rfl) d_Cm_init_45 (fun H locs hP hD hS => ?_)
  have hP : va_P (eG E) vwC ([(a, .inr (0, [.ref q7, .ref q16, .ref q28, .ref q38, .int (nI 0), .int 0, .int 0, .int 0]))] ++ [(q7, .inl (eC E 0, 6, .inl (fun _ => 0)))] ++ qMW E q16 8 3 ++ qMW E q28 6 6 ++ [(q38, .inl (eC E 0, 10, .inl (fun _ => 0)))]) H := hP
  have hD : va_D A ([(a, .inr (0, [.ref q7, .ref q16, .ref q28, .ref q38, .int (nI 0), .int 0, .int 0, .int 0]))] ++ [(q7, .inl (eC E 0, 6, .inl (fun _ => 0)))] ++ qMW E q16 8 3 ++ qMW E q28 6 6 ++ [(q38, .inl (eC E 0, 10, .inl (fun _ => 0)))]) := hD
  refine lv_aload_n X.x X.b d_Cm_init_48 rfl (lv_at hl 0 rfl) ?_
  refine lv_iconst (v := (nI 0)) X.x X.b d_Cm_init_49 (by decide) ?_
  refine va_put (D := eG E) (ci := 0) (v := .int (nI 0)) (ty := qt0 5) (C := "CarelessMist$Common") (T := qT0) (N := 8) X.x X.b X.ts qj0 qt0 qp0 qn0 X.ow X.K hP hD hS 0 rfl rfl 5 (by decide) (X.ts _ mw_112) (fun _ h9 => h9) rfl rfl (by first | rfl | decide) rfl (Nat.le_of_ble_eq_true rfl) d_Cm_init_50 (fun H locs hP hD hS => ?_)
  have hP : va_P (eG E) vwC ([(a, .inr (0, [.ref q7, .ref q16, .ref q28, .ref q38, .int (nI 0), .int (nI 0), .int 0, .int 0]))] ++ [(q7, .inl (eC E 0, 6, .inl (fun _ => 0)))] ++ qMW E q16 8 3 ++ qMW E q28 6 6 ++ [(q38, .inl (eC E 0, 10, .inl (fun _ => 0)))]) H := hP
  have hD : va_D A ([(a, .inr (0, [.ref q7, .ref q16, .ref q28, .ref q38, .int (nI 0), .int (nI 0), .int 0, .int 0]))] ++ [(q7, .inl (eC E 0, 6, .inl (fun _ => 0)))] ++ qMW E q16 8 3 ++ qMW E q28 6 6 ++ [(q38, .inl (eC E 0, 10, .inl (fun _ => 0)))]) := hD
  refine lv_aload_n X.x X.b d_Cm_init_53 rfl (lv_at hl 0 rfl) ?_
  refine lv_iconst (v := (nI 0)) X.x X.b d_Cm_init_54 (by decide) ?_
  refine va_put (D := eG E) (ci := 0) (v := .int (nI 0)) (ty := qt0 6) (C := "CarelessMist$Common") (T := qT0) (N := 8) X.x X.b X.ts qj0 qt0 qp0 qn0 X.ow X.K hP hD hS 0 rfl rfl 6 (by decide) (X.ts _ mw_115) (fun _ h9 => h9) rfl rfl (by first | rfl | decide) rfl (Nat.le_of_ble_eq_true rfl) d_Cm_init_55 (fun H locs hP hD hS => ?_)
  have hP : va_P (eG E) vwC ([(a, .inr (0, [.ref q7, .ref q16, .ref q28, .ref q38, .int (nI 0), .int (nI 0), .int (nI 0), .int 0]))] ++ [(q7, .inl (eC E 0, 6, .inl (fun _ => 0)))] ++ qMW E q16 8 3 ++ qMW E q28 6 6 ++ [(q38, .inl (eC E 0, 10, .inl (fun _ => 0)))]) H := hP
  have hD : va_D A ([(a, .inr (0, [.ref q7, .ref q16, .ref q28, .ref q38, .int (nI 0), .int (nI 0), .int (nI 0), .int 0]))] ++ [(q7, .inl (eC E 0, 6, .inl (fun _ => 0)))] ++ qMW E q16 8 3 ++ qMW E q28 6 6 ++ [(q38, .inl (eC E 0, 10, .inl (fun _ => 0)))]) := hD
  refine lv_aload_n X.x X.b d_Cm_init_58 rfl (lv_at hl 0 rfl) ?_
  refine lv_iconst (v := (nI 1)) X.x X.b d_Cm_init_59 (by decide) ?_
  refine va_put (D := eG E) (ci := 0) (v := .int (nI 1)) (ty := qt0 7) (C := "CarelessMist$Common") (T := qT0) (N := 8) X.x X.b X.ts qj0 qt0 qp0 qn0 X.ow X.K hP hD hS 0 rfl rfl 7 (by decide) (X.ts _ mw_117) (fun _ h9 => h9) rfl rfl (by first | rfl | decide) rfl (Nat.le_of_ble_eq_true rfl) d_Cm_init_60 (fun H locs hP hD hS => ?_)
  have hP : va_P (eG E) vwC ([(a, .inr (0, [.ref q7, .ref q16, .ref q28, .ref q38, .int (nI 0), .int (nI 0), .int (nI 0), .int (nI 1)]))] ++ [(q7, .inl (eC E 0, 6, .inl (fun _ => 0)))] ++ qMW E q16 8 3 ++ qMW E q28 6 6 ++ [(q38, .inl (eC E 0, 10, .inl (fun _ => 0)))]) H := hP
  have hD : va_D A ([(a, .inr (0, [.ref q7, .ref q16, .ref q28, .ref q38, .int (nI 0), .int (nI 0), .int (nI 0), .int (nI 1)]))] ++ [(q7, .inl (eC E 0, 6, .inl (fun _ => 0)))] ++ qMW E q16 8 3 ++ qMW E q28 6 6 ++ [(q38, .inl (eC E 0, 10, .inl (fun _ => 0)))]) := hD
  refine lv_aload_n X.x X.b d_Cm_init_63 rfl (lv_at hl 0 rfl) ?_
  refine va_get (D := eG E) (C := "CarelessMist$Common") (T := qT0) (N := 8) X.x X.b X.ts qj0 X.ow X.K hP 0 rfl rfl 3 (by decide) (X.ts _ mw_107) (fun _ h9 => h9) (v := .ref q38) rfl d_Cm_init_64 ?_
  refine lv_iconst (v := (-1)) X.x X.b d_Cm_init_67 (by decide) ?_
  refine qN_fill X (n := 10) (by decide) hP hD hS mw_96 ⟨by decide, by decide⟩ hl.1 (Nat.le_of_ble_eq_true rfl) ⟨Nat.le_of_ble_eq_true rfl, Nat.le_of_ble_eq_true rfl⟩ d_Cm_init_68 (fun H locs hP hD hS => ?_)
  have hP : va_P (eG E) vwC ([(a, .inr (0, [.ref q7, .ref q16, .ref q28, .ref q38, .int (nI 0), .int (nI 0), .int (nI 0), .int (nI 1)]))] ++ [(q7, .inl (eC E 0, 6, .inl (fun _ => 0)))] ++ qMW E q16 8 3 ++ qMW E q28 6 6 ++ [(q38, .inl (eC E 0, 10, .inl (fun j => if j < 10 then (-1) else 0)))]) H := hP
  have hD : va_D A ([(a, .inr (0, [.ref q7, .ref q16, .ref q28, .ref q38, .int (nI 0), .int (nI 0), .int (nI 0), .int (nI 1)]))] ++ [(q7, .inl (eC E 0, 6, .inl (fun _ => 0)))] ++ qMW E q16 8 3 ++ qMW E q28 6 6 ++ [(q38, .inl (eC E 0, 10, .inl (fun j => if j < 10 then (-1) else 0)))]) := hD
  exact qN_ret X (⟨_, _, _, _, rfl⟩) hP hD hS (by decide) (by decide) d_Cm_init_71
