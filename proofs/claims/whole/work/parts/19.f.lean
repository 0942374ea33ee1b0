theorem d_R_isToldSo_0 : decode prog_7_method_93_code 0 = .ok (.aload_n 0, 1) := by decide +kernel
theorem d_R_isToldSo_1 : decode prog_7_method_93_code 1 = .ok (.getfield 45, 3) := by decide +kernel
theorem d_R_isToldSo_4 : decode prog_7_method_93_code 4 = .ok (.iload_n 1, 1) := by decide +kernel
theorem d_R_isToldSo_5 : decode prog_7_method_93_code 5 = .ok (.iconst 1, 1) := by decide +kernel
theorem d_R_isToldSo_6 : decode prog_7_method_93_code 6 = .ok (.iadd, 1) := by decide +kernel
theorem d_R_isToldSo_7 : decode prog_7_method_93_code 7 = .ok (.iaload, 1) := by decide +kernel
theorem d_R_isToldSo_8 : decode prog_7_method_93_code 8 = .ok (.istore_n 2, 1) := by decide +kernel
theorem d_R_isToldSo_9 : decode prog_7_method_93_code 9 = .ok (.aload_n 0, 1) := by decide +kernel
theorem d_R_isToldSo_10 : decode prog_7_method_93_code 10 = .ok (.getfield 45, 3) := by decide +kernel
theorem d_R_isToldSo_13 : decode prog_7_method_93_code 13 = .ok (.iload_n 1, 1) := by decide +kernel
theorem d_R_isToldSo_14 : decode prog_7_method_93_code 14 = .ok (.iconst 2, 1) := by decide +kernel
theorem d_R_isToldSo_15 : decode prog_7_method_93_code 15 = .ok (.iadd, 1) := by decide +kernel
theorem d_R_isToldSo_16 : decode prog_7_method_93_code 16 = .ok (.iaload, 1) := by decide +kernel
theorem d_R_isToldSo_17 : decode prog_7_method_93_code 17 = .ok (.istore_n 3, 1) := by decide +kernel
theorem d_R_isToldSo_18 : decode prog_7_method_93_code 18 = .ok (.aload_n 0, 1) := by decide +kernel
theorem d_R_isToldSo_19 : decode prog_7_method_93_code 19 = .ok (.getfield 45, 3) := by decide +kernel
theorem d_R_isToldSo_22 : decode prog_7_method_93_code 22 = .ok (.iload_n 1, 1) := by decide +kernel
theorem d_R_isToldSo_23 : decode prog_7_method_93_code 23 = .ok (.iconst 3, 1) := by decide +kernel
theorem d_R_isToldSo_24 : decode prog_7_method_93_code 24 = .ok (.iadd, 1) := by decide +kernel
theorem d_R_isToldSo_25 : decode prog_7_method_93_code 25 = .ok (.iaload, 1) := by decide +kernel
theorem d_R_isToldSo_26 : decode prog_7_method_93_code 26 = .ok (.istore 4, 2) := by decide +kernel
theorem d_R_isToldSo_28 : decode prog_7_method_93_code 28 = .ok (.aload_n 0, 1) := by decide +kernel
theorem d_R_isToldSo_29 : decode prog_7_method_93_code 29 = .ok (.getfield 45, 3) := by decide +kernel
theorem d_R_isToldSo_32 : decode prog_7_method_93_code 32 = .ok (.iload_n 1, 1) := by decide +kernel
theorem d_R_isToldSo_33 : decode prog_7_method_93_code 33 = .ok (.iaload, 1) := by decide +kernel
theorem d_R_isToldSo_34 : decode prog_7_method_93_code 34 = .ok (.lookupswitch 87 #[(10, 26), (11, 69)], 26) := by decide +kernel
theorem d_R_isToldSo_60 : decode prog_7_method_93_code 60 = .ok (.aload_n 0, 1) := by decide +kernel
theorem d_R_isToldSo_61 : decode prog_7_method_93_code 61 = .ok (.iload_n 2, 1) := by decide +kernel
theorem d_R_isToldSo_62 : decode prog_7_method_93_code 62 = .ok (.iload_n 3, 1) := by decide +kernel
theorem d_R_isToldSo_63 : decode prog_7_method_93_code 63 = .ok (.invokevirtual 101, 3) := by decide +kernel
theorem d_R_isToldSo_66 : decode prog_7_method_93_code 66 = .ok (.istore 5, 2) := by decide +kernel
theorem d_R_isToldSo_68 : decode prog_7_method_93_code 68 = .ok (.aload_n 0, 1) := by decide +kernel
theorem d_R_isToldSo_69 : decode prog_7_method_93_code 69 = .ok (.getfield 9, 3) := by decide +kernel
theorem d_R_isToldSo_72 : decode prog_7_method_93_code 72 = .ok (.iload 5, 2) := by decide +kernel
theorem d_R_isToldSo_74 : decode prog_7_method_93_code 74 = .ok (.iconst 2, 1) := by decide +kernel
theorem d_R_isToldSo_75 : decode prog_7_method_93_code 75 = .ok (.invokestatic 88, 3) := by decide +kernel
theorem d_R_isToldSo_78 : decode prog_7_method_93_code 78 = .ok (.iload 4, 2) := by decide +kernel
theorem d_R_isToldSo_80 : decode prog_7_method_93_code 80 = .ok (.iastore, 1) := by decide +kernel
theorem d_R_isToldSo_81 : decode prog_7_method_93_code 81 = .ok (.aload_n 0, 1) := by decide +kernel
theorem d_R_isToldSo_82 : decode prog_7_method_93_code 82 = .ok (.getfield 9, 3) := by decide +kernel
theorem d_R_isToldSo_85 : decode prog_7_method_93_code 85 = .ok (.iload 5, 2) := by decide +kernel
theorem d_R_isToldSo_87 : decode prog_7_method_93_code 87 = .ok (.iconst 3, 1) := by decide +kernel
theorem d_R_isToldSo_88 : decode prog_7_method_93_code 88 = .ok (.invokestatic 88, 3) := by decide +kernel
theorem d_R_isToldSo_91 : decode prog_7_method_93_code 91 = .ok (.aload_n 0, 1) := by decide +kernel
theorem d_R_isToldSo_92 : decode prog_7_method_93_code 92 = .ok (.getfield 45, 3) := by decide +kernel
theorem d_R_isToldSo_95 : decode prog_7_method_93_code 95 = .ok (.iload_n 1, 1) := by decide +kernel
theorem d_R_isToldSo_96 : decode prog_7_method_93_code 96 = .ok (.iconst 4, 1) := by decide +kernel
theorem d_R_isToldSo_97 : decode prog_7_method_93_code 97 = .ok (.iadd, 1) := by decide +kernel
theorem d_R_isToldSo_98 : decode prog_7_method_93_code 98 = .ok (.iaload, 1) := by decide +kernel
theorem d_R_isToldSo_99 : decode prog_7_method_93_code 99 = .ok (.iastore, 1) := by decide +kernel
theorem d_R_isToldSo_100 : decode prog_7_method_93_code 100 = .ok (.goto 33, 3) := by decide +kernel
theorem d_R_isToldSo_133 : decode prog_7_method_93_code 133 = .ok (.return_, 1) := by decide +kernel
theorem d_R_isToldSo_103 : decode prog_7_method_93_code 103 = .ok (.aload_n 0, 1) := by decide +kernel
theorem d_R_isToldSo_104 : decode prog_7_method_93_code 104 = .ok (.getfield 9, 3) := by decide +kernel
theorem d_R_isToldSo_107 : decode prog_7_method_93_code 107 = .ok (.iconst 4, 1) := by decide +kernel
theorem d_R_isToldSo_108 : decode prog_7_method_93_code 108 = .ok (.iload_n 2, 1) := by decide +kernel
theorem d_R_isToldSo_109 : decode prog_7_method_93_code 109 = .ok (.iadd, 1) := by decide +kernel
theorem d_R_isToldSo_110 : decode prog_7_method_93_code 110 = .ok (.bipush 10, 2) := by decide +kernel
theorem d_R_isToldSo_112 : decode prog_7_method_93_code 112 = .ok (.iload_n 3, 1) := by decide +kernel
theorem d_R_isToldSo_113 : decode prog_7_method_93_code 113 = .ok (.imul, 1) := by decide +kernel
theorem d_R_isToldSo_114 : decode prog_7_method_93_code 114 = .ok (.iload 4, 2) := by decide +kernel
theorem d_R_isToldSo_116 : decode prog_7_method_93_code 116 = .ok (.iadd, 1) := by decide +kernel
theorem d_R_isToldSo_117 : decode prog_7_method_93_code 117 = .ok (.iastore, 1) := by decide +kernel
theorem d_R_isToldSo_118 : decode prog_7_method_93_code 118 = .ok (.goto 15, 3) := by decide +kernel
theorem d_R_isToldSo_121 : decode prog_7_method_93_code 121 = .ok (.aload_n 0, 1) := by decide +kernel
theorem d_R_isToldSo_122 : decode prog_7_method_93_code 122 = .ok (.aload_n 0, 1) := by decide +kernel
theorem d_R_isToldSo_123 : decode prog_7_method_93_code 123 = .ok (.getfield 45, 3) := by decide +kernel
theorem d_R_isToldSo_126 : decode prog_7_method_93_code 126 = .ok (.iload_n 1, 1) := by decide +kernel
theorem d_R_isToldSo_127 : decode prog_7_method_93_code 127 = .ok (.iaload, 1) := by decide +kernel
theorem d_R_isToldSo_128 : decode prog_7_method_93_code 128 = .ok (.iload_n 2, 1) := by decide +kernel
theorem d_R_isToldSo_129 : decode prog_7_method_93_code 129 = .ok (.invokevirtual 98, 3) := by decide +kernel
theorem d_R_isToldSo_132 : decode prog_7_method_93_code 132 = .ok (.pop, 1) := by decide +kernel
set_option maxHeartbeats 1000000 in
set_option maxRecDepth 20000 in
theorem c_R_isToldSo_w (l : Launch) (E : QE) (S : QM) (ι ν : Nat → Int32) (hι : S 21 = ι) (hν : S 16 = ν) (hwf : WF ν) (mi : Nat) (hmi : mi ≤ 119) (hk0 : ι (5 * mi) = nI 10) (hf : nW ν < 6) : qCV E l y_R_isToldSo prog_7_method_93_code 6 3 [.ref (eA E 70), .int (nI (5 * mi))] S (qr S 16 (apl ι mi ν)) := by
  refine qCV_of (by decide) (Nat.le_of_ble_eq_true rfl) (fun p e s m below meth c ls X hW hl => ?_)
  have hl : lv_has ls 6 [(0, .ref (eA E 70)), (1, .int (nI (5 * mi)))] := hl
  have htl := hwf.tl
  have hwl := hwf.wl
  have hdl := hwf.dl
  refine lv_aload_n X.x X.b d_R_isToldSo_0 rfl (lv_at hl 0 rfl) ?_
  refine q_getr X hW qj4 rfl _ ds_R 13 (by decide) mw_699 rfl (c1 := 77) rfl d_R_isToldSo_1 ?_
  refine lv_iload_n X.x X.b d_R_isToldSo_4 rfl (lv_at hl 1 rfl) ?_
  refine lv_iconst (v := nI 1) X.x X.b d_R_isToldSo_5 (by decide) ?_
  refine lv_iadd X.x X.b d_R_isToldSo_6 ?_
  rw [nI_add]
  refine g_ald X hW ds_77 (q_in (by omega) (by decide)) (p0 := 5 * mi + 1) (q_tn (by omega) (by omega)) (v := ι (5 * mi + 1)) (by rw [hι]) d_R_isToldSo_7 ?_
  refine lv_istore_n (lv' := [(2, .int (ι (5 * mi + 1))), (0, .ref (eA E 70)), (1, .int (nI (5 * mi)))]) X.x X.b d_R_isToldSo_8 rfl hl (by decide) rfl (fun ls hl => ?_)
  refine lv_aload_n X.x X.b d_R_isToldSo_9 rfl (lv_at hl 1 rfl) ?_
  refine q_getr X hW qj4 rfl _ ds_R 13 (by decide) mw_699 rfl (c1 := 77) rfl d_R_isToldSo_10 ?_
  refine lv_iload_n X.x X.b d_R_isToldSo_13 rfl (lv_at hl 2 rfl) ?_
  refine lv_iconst (v := nI 2) X.x X.b d_R_isToldSo_14 (by decide) ?_
  refine lv_iadd X.x X.b d_R_isToldSo_15 ?_
  rw [nI_add]
  refine g_ald X hW ds_77 (q_in (by omega) (by decide)) (p0 := 5 * mi + 2) (q_tn (by omega) (by omega)) (v := ι (5 * mi + 2)) (by rw [hι]) d_R_isToldSo_16 ?_
  refine lv_istore_n (lv' := [(3, .int (ι (5 * mi + 2))), (2, .int (ι (5 * mi + 1))), (0, .ref (eA E 70)), (1, .int (nI (5 * mi)))]) X.x X.b d_R_isToldSo_17 rfl hl (by decide) rfl (fun ls hl => ?_)
  refine lv_aload_n X.x X.b d_R_isToldSo_18 rfl (lv_at hl 2 rfl) ?_
  refine q_getr X hW qj4 rfl _ ds_R 13 (by decide) mw_699 rfl (c1 := 77) rfl d_R_isToldSo_19 ?_
  refine lv_iload_n X.x X.b d_R_isToldSo_22 rfl (lv_at hl 3 rfl) ?_
  refine lv_iconst (v := nI 3) X.x X.b d_R_isToldSo_23 (by decide) ?_
  refine lv_iadd X.x X.b d_R_isToldSo_24 ?_
  rw [nI_add]
  refine g_ald X hW ds_77 (q_in (by omega) (by decide)) (p0 := 5 * mi + 3) (q_tn (by omega) (by omega)) (v := ι (5 * mi + 3)) (by rw [hι]) d_R_isToldSo_25 ?_
  refine lv_istore (lv' := [(4, .int (ι (5 * mi + 3))), (3, .int (ι (5 * mi + 2))), (2, .int (ι (5 * mi + 1))), (0, .ref (eA E 70)), (1, .int (nI (5 * mi)))]) X.x X.b d_R_isToldSo_26 hl (by decide) rfl (fun ls hl => ?_)
  refine lv_aload_n X.x X.b d_R_isToldSo_28 rfl (lv_at hl 3 rfl) ?_
  refine q_getr X hW qj4 rfl _ ds_R 13 (by decide) mw_699 rfl (c1 := 77) rfl d_R_isToldSo_29 ?_
  refine lv_iload_n X.x X.b d_R_isToldSo_32 rfl (lv_at hl 4 rfl) ?_
  refine g_ald X hW ds_77 (q_in (by omega) (by decide)) (p0 := 5 * mi) (q_tn (by omega) (by omega)) (v := ι (5 * mi)) (by rw [hι]) d_R_isToldSo_33 ?_
  rw [hk0]
  refine lv_lookup (tgt := 60) (off := 26) X.x X.b d_R_isToldSo_34 (by decide) (by decide) (by decide) ?_
  refine lv_aload_n X.x X.b d_R_isToldSo_60 rfl (lv_at hl 3 rfl) ?_
  refine lv_iload_n X.x X.b d_R_isToldSo_61 rfl (lv_at hl 2 rfl) ?_
  refine lv_iload_n X.x X.b d_R_isToldSo_62 rfl (lv_at hl 1 rfl) ?_
  refine q_cvi X (c_R_setsOut l E S ν (by rw [hν]) hwf (ι (5 * mi + 1)) (ι (5 * mi + 2)) (by omega)) hW (q_recv X hW ds_R rfl) ok_R_setsOut mw_798 ⟨by decide, by decide⟩ (As := [.int (ι (5 * mi + 1)), .int (ι (5 * mi + 2))]) rfl rfl (Nat.le_of_ble_eq_true rfl) (lv := [(4, .int (ι (5 * mi + 3))), (3, .int (ι (5 * mi + 2))), (2, .int (ι (5 * mi + 1))), (0, .ref (eA E 70)), (1, .int (nI (5 * mi)))]) hl ⟨Nat.le_refl 0, Nat.le_refl 0⟩ d_R_isToldSo_63 (fun H locs hW => ?_)
  have hW : qWH E (qr S 16 (addW ν (ι (5 * mi + 1)) (ι (5 * mi + 2)))) s H locs := hW
  refine lv_istore (lv' := [(5, .int (nI (nW ν))), (4, .int (ι (5 * mi + 3))), (3, .int (ι (5 * mi + 2))), (2, .int (ι (5 * mi + 1))), (0, .ref (eA E 70)), (1, .int (nI (5 * mi)))]) X.x X.b d_R_isToldSo_66 hl (by decide) rfl (fun ls hl => ?_)
  refine lv_aload_n X.x X.b d_R_isToldSo_68 rfl (lv_at hl 4 rfl) ?_
  refine q_getr X hW qj4 rfl _ ds_R 0 (by decide) mw_686 rfl (c1 := 71) rfl d_R_isToldSo_69 ?_
  refine lv_iload X.x X.b d_R_isToldSo_72 (lv_at hl 0 rfl) ?_
  refine lv_iconst (v := nI 2) X.x X.b d_R_isToldSo_74 (by decide) ?_
  refine q_csi X (c_R_walkerAt l E (qr S 16 (addW ν (ι (5 * mi + 1)) (ι (5 * mi + 2)))) (nW ν) 2) hW ok_R_walkerAt mw_802 ⟨by decide, by decide⟩ (As := [.int (nI (nW ν)), .int (nI 2)]) rfl rfl (Nat.le_of_ble_eq_true rfl) (lv := [(5, .int (nI (nW ν))), (4, .int (ι (5 * mi + 3))), (3, .int (ι (5 * mi + 2))), (2, .int (ι (5 * mi + 1))), (0, .ref (eA E 70)), (1, .int (nI (5 * mi)))]) hl ⟨Nat.le_refl 0, Nat.le_refl 0⟩ d_R_isToldSo_75 (fun H locs hW => ?_)
  refine lv_iload X.x X.b d_R_isToldSo_78 (lv_at hl 1 rfl) ?_
  refine g_ast X hW ds_71 (q_in (by omega) (by decide)) (p0 := 44 + 6 * (nW ν) + 2) (q_tn (by omega) (by omega)) (ρ := addW ν (ι (5 * mi + 1)) (ι (5 * mi + 2))) (by rw [qr_at]) d_R_isToldSo_80 (fun H locs hW => ?_)
  obtain ⟨r80, er80⟩ : ∃ z, z = upd (addW ν (ι (5 * mi + 1)) (ι (5 * mi + 2))) (44 + 6 * (nW ν) + 2) (ι (5 * mi + 3)) := ⟨_, rfl⟩
  rw [← er80] at hW
  rw [qr_qr] at hW
  refine lv_aload_n X.x X.b d_R_isToldSo_81 rfl (lv_at hl 4 rfl) ?_
  refine q_getr X hW qj4 rfl _ ds_R 0 (by decide) mw_686 rfl (c1 := 71) rfl d_R_isToldSo_82 ?_
  refine lv_iload X.x X.b d_R_isToldSo_85 (lv_at hl 0 rfl) ?_
  refine lv_iconst (v := nI 3) X.x X.b d_R_isToldSo_87 (by decide) ?_
  refine q_csi X (c_R_walkerAt l E (qr S 16 r80) (nW ν) 3) hW ok_R_walkerAt mw_802 ⟨by decide, by decide⟩ (As := [.int (nI (nW ν)), .int (nI 3)]) rfl rfl (Nat.le_of_ble_eq_true rfl) (lv := [(5, .int (nI (nW ν))), (4, .int (ι (5 * mi + 3))), (3, .int (ι (5 * mi + 2))), (2, .int (ι (5 * mi + 1))), (0, .ref (eA E 70)), (1, .int (nI (5 * mi)))]) hl ⟨Nat.le_refl 0, Nat.le_refl 0⟩ d_R_isToldSo_88 (fun H locs hW => ?_)
  refine lv_aload_n X.x X.b d_R_isToldSo_91 rfl (lv_at hl 4 rfl) ?_
  refine q_getr X hW qj4 rfl _ ds_R 13 (by decide) mw_699 rfl (c1 := 77) rfl d_R_isToldSo_92 ?_
  refine lv_iload_n X.x X.b d_R_isToldSo_95 rfl (lv_at hl 5 rfl) ?_
  refine lv_iconst (v := nI 4) X.x X.b d_R_isToldSo_96 (by decide) ?_
  refine lv_iadd X.x X.b d_R_isToldSo_97 ?_
  rw [nI_add]
  refine g_ald X hW ds_77 (q_in (by omega) (by decide)) (p0 := 5 * mi + 4) (q_tn (by omega) (by omega)) (v := ι (5 * mi + 4)) (by rw [qr_ne (by omega), hι]) d_R_isToldSo_98 ?_
  refine g_ast X hW ds_71 (q_in (by omega) (by decide)) (p0 := 44 + 6 * (nW ν) + 3) (q_tn (by omega) (by omega)) (ρ := r80) (by rw [qr_at]) d_R_isToldSo_99 (fun H locs hW => ?_)
  obtain ⟨r99, er99⟩ : ∃ z, z = upd r80 (44 + 6 * (nW ν) + 3) (ι (5 * mi + 4)) := ⟨_, rfl⟩
  rw [← er99] at hW
  rw [qr_qr] at hW
  refine lv_goto (tgt := 133) X.x X.b d_R_isToldSo_100 (by decide) ?_
  exact q_vret X hW (by rw [er99, er80, apl, if_pos hk0, wkR]) d_R_isToldSo_133
set_option maxHeartbeats 1000000 in
set_option maxRecDepth 20000 in
theorem c_R_isToldSo_t (l : Launch) (E : QE) (S : QM) (ι ν : Nat → Int32) (hι : S 21 = ι) (hν : S 16 = ν) (hwf : WF ν) (mi : Nat) (hmi : mi ≤ 119) (hk0 : ι (5 * mi) = nI 11) (i : Nat) (hi : i ≤ 5) (hi2 : ι (5 * mi + 1) = nI i) : qCV E l y_R_isToldSo prog_7_method_93_code 6 3 [.ref (eA E 70), .int (nI (5 * mi))] S (qr S 16 (apl ι mi ν)) := by
  refine qCV_of (by decide) (Nat.le_of_ble_eq_true rfl) (fun p e s m below meth c ls X hW hl => ?_)
  have hl : lv_has ls 6 [(0, .ref (eA E 70)), (1, .int (nI (5 * mi)))] := hl
  have htl := hwf.tl
  have hwl := hwf.wl
  have hdl := hwf.dl
  refine lv_aload_n X.x X.b d_R_isToldSo_0 rfl (lv_at hl 0 rfl) ?_
  refine q_getr X hW qj4 rfl _ ds_R 13 (by decide) mw_699 rfl (c1 := 77) rfl d_R_isToldSo_1 ?_
  refine lv_iload_n X.x X.b d_R_isToldSo_4 rfl (lv_at hl 1 rfl) ?_
  refine lv_iconst (v := nI 1) X.x X.b d_R_isToldSo_5 (by decide) ?_
  refine lv_iadd X.x X.b d_R_isToldSo_6 ?_
  rw [nI_add]
  refine g_ald X hW ds_77 (q_in (by omega) (by decide)) (p0 := 5 * mi + 1) (q_tn (by omega) (by omega)) (v := ι (5 * mi + 1)) (by rw [hι]) d_R_isToldSo_7 ?_
  rw [hi2]
  refine lv_istore_n (lv' := [(2, .int (nI i)), (0, .ref (eA E 70)), (1, .int (nI (5 * mi)))]) X.x X.b d_R_isToldSo_8 rfl hl (by decide) rfl (fun ls hl => ?_)
  refine lv_aload_n X.x X.b d_R_isToldSo_9 rfl (lv_at hl 1 rfl) ?_
  refine q_getr X hW qj4 rfl _ ds_R 13 (by decide) mw_699 rfl (c1 := 77) rfl d_R_isToldSo_10 ?_
  refine lv_iload_n X.x X.b d_R_isToldSo_13 rfl (lv_at hl 2 rfl) ?_
  refine lv_iconst (v := nI 2) X.x X.b d_R_isToldSo_14 (by decide) ?_
  refine lv_iadd X.x X.b d_R_isToldSo_15 ?_
  rw [nI_add]
  refine g_ald X hW ds_77 (q_in (by omega) (by decide)) (p0 := 5 * mi + 2) (q_tn (by omega) (by omega)) (v := ι (5 * mi + 2)) (by rw [hι]) d_R_isToldSo_16 ?_
  refine lv_istore_n (lv' := [(3, .int (ι (5 * mi + 2))), (2, .int (nI i)), (0, .ref (eA E 70)), (1, .int (nI (5 * mi)))]) X.x X.b d_R_isToldSo_17 rfl hl (by decide) rfl (fun ls hl => ?_)
  refine lv_aload_n X.x X.b d_R_isToldSo_18 rfl (lv_at hl 2 rfl) ?_
  refine q_getr X hW qj4 rfl _ ds_R 13 (by decide) mw_699 rfl (c1 := 77) rfl d_R_isToldSo_19 ?_
  refine lv_iload_n X.x X.b d_R_isToldSo_22 rfl (lv_at hl 3 rfl) ?_
  refine lv_iconst (v := nI 3) X.x X.b d_R_isToldSo_23 (by decide) ?_
  refine lv_iadd X.x X.b d_R_isToldSo_24 ?_
  rw [nI_add]
  refine g_ald X hW ds_77 (q_in (by omega) (by decide)) (p0 := 5 * mi + 3) (q_tn (by omega) (by omega)) (v := ι (5 * mi + 3)) (by rw [hι]) d_R_isToldSo_25 ?_
  refine lv_istore (lv' := [(4, .int (ι (5 * mi + 3))), (3, .int (ι (5 * mi + 2))), (2, .int (nI i)), (0, .ref (eA E 70)), (1, .int (nI (5 * mi)))]) X.x X.b d_R_isToldSo_26 hl (by decide) rfl (fun ls hl => ?_)
  refine lv_aload_n X.x X.b d_R_isToldSo_28 rfl (lv_at hl 3 rfl) ?_
  refine q_getr X hW qj4 rfl _ ds_R 13 (by decide) mw_699 rfl (c1 := 77) rfl d_R_isToldSo_29 ?_
  refine lv_iload_n X.x X.b d_R_isToldSo_32 rfl (lv_at hl 4 rfl) ?_
  refine g_ald X hW ds_77 (q_in (by omega) (by decide)) (p0 := 5 * mi) (q_tn (by omega) (by omega)) (v := ι (5 * mi)) (by rw [hι]) d_R_isToldSo_33 ?_
  rw [hk0]
  refine lv_lookup (tgt := 103) (off := 69) X.x X.b d_R_isToldSo_34 (by decide) (by decide) (by decide) ?_
  refine lv_aload_n X.x X.b d_R_isToldSo_103 rfl (lv_at hl 3 rfl) ?_
  refine q_getr X hW qj4 rfl _ ds_R 0 (by decide) mw_686 rfl (c1 := 71) rfl d_R_isToldSo_104 ?_
  refine lv_iconst (v := nI 4) X.x X.b d_R_isToldSo_107 (by decide) ?_
  refine lv_iload_n X.x X.b d_R_isToldSo_108 rfl (lv_at hl 2 rfl) ?_
  refine lv_iadd X.x X.b d_R_isToldSo_109 ?_
  rw [nI_add]
  refine lv_bipush (v := nI 10) X.x X.b d_R_isToldSo_110 (by decide) ?_
  refine lv_iload_n X.x X.b d_R_isToldSo_112 rfl (lv_at hl 1 rfl) ?_
  refine lv_imul X.x X.b d_R_isToldSo_113 ?_
  refine lv_iload X.x X.b d_R_isToldSo_114 (lv_at hl 0 rfl) ?_
  refine lv_iadd X.x X.b d_R_isToldSo_116 ?_
  refine g_ast X hW ds_71 (q_in (by omega) (by decide)) (p0 := 4 + i) (q_tn (by omega) (by omega)) (ρ := ν) (by rw [hν]) d_R_isToldSo_117 (fun H locs hW => ?_)
  obtain ⟨r117, er117⟩ : ∃ z, z = upd ν (4 + i) (((nI 10) * (ι (5 * mi + 2))) + (ι (5 * mi + 3))) := ⟨_, rfl⟩
  rw [← er117] at hW
  refine lv_goto (tgt := 133) X.x X.b d_R_isToldSo_118 (by decide) ?_
  exact q_vret X hW (by rw [er117, apl, if_neg (by rw [hk0]; decide), if_pos hk0, tnR, hi2, nI_clamp (by omega)]) d_R_isToldSo_133
set_option maxHeartbeats 1000000 in
set_option maxRecDepth 20000 in
theorem c_R_isToldSo_h (l : Launch) (E : QE) (S : QM) (ι ν : Nat → Int32) (hι : S 21 = ι) (hν : S 16 = ν) (hwf : WF ν) (mi : Nat) (hmi : mi ≤ 119) (k : Nat) (hk6 : k ≤ 6) (hk0 : ι (5 * mi) = nI k) (hf : nT ν < 8) : qCV E l y_R_isToldSo prog_7_method_93_code 6 3 [.ref (eA E 70), .int (nI (5 * mi))] S (qr S 16 (apl ι mi ν)) := by
  refine qCV_of (by decide) (Nat.le_of_ble_eq_true rfl) (fun p e s m below meth c ls X hW hl => ?_)
  have hl : lv_has ls 6 [(0, .ref (eA E 70)), (1, .int (nI (5 * mi)))] := hl
  have htl := hwf.tl
  have hwl := hwf.wl
  have hdl := hwf.dl
  refine lv_aload_n X.x X.b d_R_isToldSo_0 rfl (lv_at hl 0 rfl) ?_
  refine q_getr X hW qj4 rfl _ ds_R 13 (by decide) mw_699 rfl (c1 := 77) rfl d_R_isToldSo_1 ?_
  refine lv_iload_n X.x X.b d_R_isToldSo_4 rfl (lv_at hl 1 rfl) ?_
  refine lv_iconst (v := nI 1) X.x X.b d_R_isToldSo_5 (by decide) ?_
  refine lv_iadd X.x X.b d_R_isToldSo_6 ?_
  rw [nI_add]
  refine g_ald X hW ds_77 (q_in (by omega) (by decide)) (p0 := 5 * mi + 1) (q_tn (by omega) (by omega)) (v := ι (5 * mi + 1)) (by rw [hι]) d_R_isToldSo_7 ?_
  refine lv_istore_n (lv' := [(2, .int (ι (5 * mi + 1))), (0, .ref (eA E 70)), (1, .int (nI (5 * mi)))]) X.x X.b d_R_isToldSo_8 rfl hl (by decide) rfl (fun ls hl => ?_)
  refine lv_aload_n X.x X.b d_R_isToldSo_9 rfl (lv_at hl 1 rfl) ?_
  refine q_getr X hW qj4 rfl _ ds_R 13 (by decide) mw_699 rfl (c1 := 77) rfl d_R_isToldSo_10 ?_
  refine lv_iload_n X.x X.b d_R_isToldSo_13 rfl (lv_at hl 2 rfl) ?_
  refine lv_iconst (v := nI 2) X.x X.b d_R_isToldSo_14 (by decide) ?_
  refine lv_iadd X.x X.b d_R_isToldSo_15 ?_
  rw [nI_add]
  refine g_ald X hW ds_77 (q_in (by omega) (by decide)) (p0 := 5 * mi + 2) (q_tn (by omega) (by omega)) (v := ι (5 * mi + 2)) (by rw [hι]) d_R_isToldSo_16 ?_
  refine lv_istore_n (lv' := [(3, .int (ι (5 * mi + 2))), (2, .int (ι (5 * mi + 1))), (0, .ref (eA E 70)), (1, .int (nI (5 * mi)))]) X.x X.b d_R_isToldSo_17 rfl hl (by decide) rfl (fun ls hl => ?_)
  refine lv_aload_n X.x X.b d_R_isToldSo_18 rfl (lv_at hl 2 rfl) ?_
  refine q_getr X hW qj4 rfl _ ds_R 13 (by decide) mw_699 rfl (c1 := 77) rfl d_R_isToldSo_19 ?_
  refine lv_iload_n X.x X.b d_R_isToldSo_22 rfl (lv_at hl 3 rfl) ?_
  refine lv_iconst (v := nI 3) X.x X.b d_R_isToldSo_23 (by decide) ?_
  refine lv_iadd X.x X.b d_R_isToldSo_24 ?_
  rw [nI_add]
  refine g_ald X hW ds_77 (q_in (by omega) (by decide)) (p0 := 5 * mi + 3) (q_tn (by omega) (by omega)) (v := ι (5 * mi + 3)) (by rw [hι]) d_R_isToldSo_25 ?_
  refine lv_istore (lv' := [(4, .int (ι (5 * mi + 3))), (3, .int (ι (5 * mi + 2))), (2, .int (ι (5 * mi + 1))), (0, .ref (eA E 70)), (1, .int (nI (5 * mi)))]) X.x X.b d_R_isToldSo_26 hl (by decide) rfl (fun ls hl => ?_)
  refine lv_aload_n X.x X.b d_R_isToldSo_28 rfl (lv_at hl 3 rfl) ?_
  refine q_getr X hW qj4 rfl _ ds_R 13 (by decide) mw_699 rfl (c1 := 77) rfl d_R_isToldSo_29 ?_
  refine lv_iload_n X.x X.b d_R_isToldSo_32 rfl (lv_at hl 4 rfl) ?_
  refine g_ald X hW ds_77 (q_in (by omega) (by decide)) (p0 := 5 * mi) (q_tn (by omega) (by omega)) (v := ι (5 * mi)) (by rw [hι]) d_R_isToldSo_33 ?_
  rw [hk0]
  by_cases c34_10 : nI k = nI 10
  · exact absurd ((nI_eq (a := k) (b := 10) (by omega) (by omega)).mp c34_10) (by omega)
  by_cases c34_11 : nI k = nI 11
  · exact absurd ((nI_eq (a := k) (b := 11) (by omega) (by omega)).mp c34_11) (by omega)
  refine lv_lookup (tgt := 121) (off := 87) X.x X.b d_R_isToldSo_34 (by decide) (by show Op.lookupswitch.offset [(10, 26), (11, 69)] 87 _ = _; rw [lv_osw c34_10 (by decide), lv_osw c34_11 (by decide)]; rfl) (by decide) ?_
  refine lv_aload_n X.x X.b d_R_isToldSo_121 rfl (lv_at hl 3 rfl) ?_
  refine lv_aload_n X.x X.b d_R_isToldSo_122 rfl (lv_at hl 3 rfl) ?_
  refine q_getr X hW qj4 rfl _ ds_R 13 (by decide) mw_699 rfl (c1 := 77) rfl d_R_isToldSo_123 ?_
  refine lv_iload_n X.x X.b d_R_isToldSo_126 rfl (lv_at hl 4 rfl) ?_
  refine g_ald X hW ds_77 (q_in (by omega) (by decide)) (p0 := 5 * mi) (q_tn (by omega) (by omega)) (v := ι (5 * mi)) (by rw [hι]) d_R_isToldSo_127 ?_
  rw [hk0]
  refine lv_iload_n X.x X.b d_R_isToldSo_128 rfl (lv_at hl 2 rfl) ?_
  refine q_cvi X (c_R_comes l E S ν (by rw [hν]) hwf (nI k) (ι (5 * mi + 1)) (by omega)) hW (q_recv X hW ds_R rfl) ok_R_comes mw_787 ⟨by decide, by decide⟩ (As := [.int (nI k), .int (ι (5 * mi + 1))]) rfl rfl (Nat.le_of_ble_eq_true rfl) (lv := [(4, .int (ι (5 * mi + 3))), (3, .int (ι (5 * mi + 2))), (2, .int (ι (5 * mi + 1))), (0, .ref (eA E 70)), (1, .int (nI (5 * mi)))]) hl ⟨Nat.le_refl 0, Nat.le_refl 0⟩ d_R_isToldSo_129 (fun H locs hW => ?_)
  have hW : qWH E (qr S 16 (addT ν (nI k) (ι (5 * mi + 1)))) s H locs := hW
  refine lv_pop X.x X.b d_R_isToldSo_132 rfl ?_
  exact q_vret X hW (by rw [apl, hk0, if_neg c34_10, if_neg c34_11]) d_R_isToldSo_133

theorem c_R_readItem (l : Launch) (E : QE) (S : QM) (υ ξ ι ρ : Nat → Int32) (hυ : S 15 = υ) (hξ : S 20 = ξ) (hι : S 21 = ι) (hwf : WF ρ) (len n : Nat) (kp : Int32) (mi : Nat) (hk : stK ξ len n kp (nI 0) mi (nT ρ) (nW ρ) υ) (hn : n ≤ len) (hlen : len ≤ 120) (h0 : ∀ i, i < len → 0 ≤ ξ i) (hmi : mi ≤ 119) : qCPv E l y_R_readItem prog_7_method_92_code 4 8 [.ref (eA E 70)] S (itP S ξ len mi kp ι ρ (rItm ξ len n ρ)) := by
  by_cases hw7 : wrd ξ len n 7
  · exact c_R_readItem_w l E S υ ξ ι ρ hυ hξ hι hwf len n kp mi hk hn hlen h0 hmi (fun j hj z => by have := wrd_u (by omega) (by omega) z hw7; omega) hw7
  · by_cases hw10 : wrd ξ len n 10
    · exact c_R_readItem_t l E S υ ξ ι ρ hυ hξ hι hwf len n kp mi hk hn hlen h0 hmi (fun j hj z => by have := wrd_u (by omega) (by omega) z hw10; omega) hw7 hw10
    · cases hkw : kwd ξ len n with
      | none => exact c_R_readItem_n l E S υ ξ ι ρ hυ hξ hι hwf len n kp mi hk hn hlen h0 hmi (fun j hj => kwd_no hkw hj) hw7 hw10 hkw
      | some k =>
        have hk6 := kwd_le hkw
        exact c_R_readItem_k l E S υ ξ ι ρ hυ hξ hι hwf len n kp mi hk hn hlen h0 hmi k (by omega) (fun j hj => ⟨fun z => wrd_u (by omega) (by omega) z (kwd_w hkw), fun z => by rw [z]; exact kwd_w hkw⟩) hw7 hw10 hkw
theorem c_R_isToldSo (l : Launch) (E : QE) (S : QM) (ι ν : Nat → Int32) (hι : S 21 = ι) (hν : S 16 = ν) (hwf : WF ν) (mi : Nat) (hmi : mi ≤ 119) (hok : okI ι mi ν) : qCV E l y_R_isToldSo prog_7_method_93_code 6 3 [.ref (eA E 70), .int (nI (5 * mi))] S (qr S 16 (apl ι mi ν)) := by
  rcases hok with ⟨h1, h2⟩ | ⟨h1, i, h2, h3⟩ | ⟨k, h1, h2, h3⟩
  · exact c_R_isToldSo_w l E S ι ν hι hν hwf mi hmi h1 h2
  · exact c_R_isToldSo_t l E S ι ν hι hν hwf mi hmi h1 i h2 h3
  · exact c_R_isToldSo_h l E S ι ν hι hν hwf mi hmi k h1 h2 h3
