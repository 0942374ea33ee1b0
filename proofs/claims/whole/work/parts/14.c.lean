theorem d_Tp_append_0 : decode prog_5_method_2_code 0 = .ok (.iload_n 2, 1) := by decide +kernel
theorem d_Tp_append_1 : decode prog_5_method_2_code 1 = .ok (.iconst 1, 1) := by decide +kernel
theorem d_Tp_append_2 : decode prog_5_method_2_code 2 = .ok (.isub, 1) := by decide +kernel
theorem d_Tp_append_3 : decode prog_5_method_2_code 3 = .ok (.istore_n 3, 1) := by decide +kernel
theorem d_Tp_append_4 : decode prog_5_method_2_code 4 = .ok (.iload_n 3, 1) := by decide +kernel
theorem d_Tp_append_5 : decode prog_5_method_2_code 5 = .ok (.ifCond .lt 47, 3) := by decide +kernel
theorem d_Tp_append_8 : decode prog_5_method_2_code 8 = .ok (.aload_n 0, 1) := by decide +kernel
theorem d_Tp_append_9 : decode prog_5_method_2_code 9 = .ok (.getfield 15, 3) := by decide +kernel
theorem d_Tp_append_12 : decode prog_5_method_2_code 12 = .ok (.bipush 120, 2) := by decide +kernel
theorem d_Tp_append_14 : decode prog_5_method_2_code 14 = .ok (.if_icmp .ge 38, 3) := by decide +kernel
theorem d_Tp_append_17 : decode prog_5_method_2_code 17 = .ok (.aload_n 0, 1) := by decide +kernel
theorem d_Tp_append_18 : decode prog_5_method_2_code 18 = .ok (.getfield 9, 3) := by decide +kernel
theorem d_Tp_append_21 : decode prog_5_method_2_code 21 = .ok (.aload_n 0, 1) := by decide +kernel
theorem d_Tp_append_22 : decode prog_5_method_2_code 22 = .ok (.getfield 15, 3) := by decide +kernel
theorem d_Tp_append_25 : decode prog_5_method_2_code 25 = .ok (.iload_n 1, 1) := by decide +kernel
theorem d_Tp_append_26 : decode prog_5_method_2_code 26 = .ok (.bipush 8, 2) := by decide +kernel
theorem d_Tp_append_28 : decode prog_5_method_2_code 28 = .ok (.iload_n 3, 1) := by decide +kernel
theorem d_Tp_append_29 : decode prog_5_method_2_code 29 = .ok (.imul, 1) := by decide +kernel
theorem d_Tp_append_30 : decode prog_5_method_2_code 30 = .ok (.iushr, 1) := by decide +kernel
theorem d_Tp_append_31 : decode prog_5_method_2_code 31 = .ok (.sipush 255, 3) := by decide +kernel
theorem d_Tp_append_34 : decode prog_5_method_2_code 34 = .ok (.iand, 1) := by decide +kernel
theorem d_Tp_append_35 : decode prog_5_method_2_code 35 = .ok (.iastore, 1) := by decide +kernel
theorem d_Tp_append_36 : decode prog_5_method_2_code 36 = .ok (.aload_n 0, 1) := by decide +kernel
theorem d_Tp_append_37 : decode prog_5_method_2_code 37 = .ok (.dup, 1) := by decide +kernel
theorem d_Tp_append_38 : decode prog_5_method_2_code 38 = .ok (.getfield 15, 3) := by decide +kernel
theorem d_Tp_append_41 : decode prog_5_method_2_code 41 = .ok (.iconst 1, 1) := by decide +kernel
theorem d_Tp_append_42 : decode prog_5_method_2_code 42 = .ok (.iadd, 1) := by decide +kernel
theorem d_Tp_append_43 : decode prog_5_method_2_code 43 = .ok (.putfield 15, 3) := by decide +kernel
theorem d_Tp_append_46 : decode prog_5_method_2_code 46 = .ok (.iinc 3 (-1), 3) := by decide +kernel
theorem d_Tp_append_49 : decode prog_5_method_2_code 49 = .ok (.goto (-45), 3) := by decide +kernel
theorem d_Tp_append_52 : decode prog_5_method_2_code 52 = .ok (.return_, 1) := by decide +kernel
theorem d_X_image_0 : decode prog_1_method_39_code 0 = .ok (.aload_n 0, 1) := by decide +kernel
theorem d_X_image_1 : decode prog_1_method_39_code 1 = .ok (.getfield 16, 3) := by decide +kernel
theorem d_X_image_4 : decode prog_1_method_39_code 4 = .ok (.aload_n 0, 1) := by decide +kernel
theorem d_X_image_5 : decode prog_1_method_39_code 5 = .ok (.getfield 12, 3) := by decide +kernel
theorem d_X_image_8 : decode prog_1_method_39_code 8 = .ok (.invokevirtual 140, 3) := by decide +kernel
theorem d_X_image_11 : decode prog_1_method_39_code 11 = .ok (.aload_n 0, 1) := by decide +kernel
theorem d_X_image_12 : decode prog_1_method_39_code 12 = .ok (.iconst 1, 1) := by decide +kernel
theorem d_X_image_13 : decode prog_1_method_39_code 13 = .ok (.putfield 22, 3) := by decide +kernel
theorem d_X_image_16 : decode prog_1_method_39_code 16 = .ok (.iconst 1, 1) := by decide +kernel
theorem d_X_image_17 : decode prog_1_method_39_code 17 = .ok (.ireturn, 1) := by decide +kernel
theorem d_X_undo_0 : decode prog_1_method_40_code 0 = .ok (.aload_n 0, 1) := by decide +kernel
theorem d_X_undo_1 : decode prog_1_method_40_code 1 = .ok (.getfield 22, 3) := by decide +kernel
theorem d_X_undo_4 : decode prog_1_method_40_code 4 = .ok (.ifCond .ne 10, 3) := by decide +kernel
theorem d_X_undo_14 : decode prog_1_method_40_code 14 = .ok (.aload_n 0, 1) := by decide +kernel
theorem d_X_undo_15 : decode prog_1_method_40_code 15 = .ok (.getfield 12, 3) := by decide +kernel
theorem d_X_undo_18 : decode prog_1_method_40_code 18 = .ok (.aload_n 0, 1) := by decide +kernel
theorem d_X_undo_19 : decode prog_1_method_40_code 19 = .ok (.getfield 16, 3) := by decide +kernel
theorem d_X_undo_22 : decode prog_1_method_40_code 22 = .ok (.invokevirtual 140, 3) := by decide +kernel
theorem d_X_undo_25 : decode prog_1_method_40_code 25 = .ok (.aload_n 0, 1) := by decide +kernel
theorem d_X_undo_26 : decode prog_1_method_40_code 26 = .ok (.getfield 12, 3) := by decide +kernel
theorem d_X_undo_29 : decode prog_1_method_40_code 29 = .ok (.getfield 87, 3) := by decide +kernel
theorem d_X_undo_32 : decode prog_1_method_40_code 32 = .ok (.ireturn, 1) := by decide +kernel
theorem d_X_undo_7 : decode prog_1_method_40_code 7 = .ok (.aload_n 0, 1) := by decide +kernel
theorem d_X_undo_8 : decode prog_1_method_40_code 8 = .ok (.ldc 148, 2) := by decide +kernel
theorem d_X_undo_10 : decode prog_1_method_40_code 10 = .ok (.invokevirtual 49, 3) := by decide +kernel
theorem d_X_undo_13 : decode prog_1_method_40_code 13 = .ok (.ireturn, 1) := by decide +kernel
theorem d_X_tear_0 : decode prog_1_method_41_code 0 = .ok (.aload_n 0, 1) := by decide +kernel
theorem d_X_tear_1 : decode prog_1_method_41_code 1 = .ok (.getfield 22, 3) := by decide +kernel
theorem d_X_tear_4 : decode prog_1_method_41_code 4 = .ok (.ifCond .eq 7, 3) := by decide +kernel
theorem d_X_tear_7 : decode prog_1_method_41_code 7 = .ok (.iconst 1, 1) := by decide +kernel
theorem d_X_tear_8 : decode prog_1_method_41_code 8 = .ok (.goto 4, 3) := by decide +kernel
theorem d_X_tear_12 : decode prog_1_method_41_code 12 = .ok (.istore_n 1, 1) := by decide +kernel
theorem d_X_tear_13 : decode prog_1_method_41_code 13 = .ok (.aload_n 0, 1) := by decide +kernel
theorem d_X_tear_14 : decode prog_1_method_41_code 14 = .ok (.iconst 0, 1) := by decide +kernel
theorem d_X_tear_15 : decode prog_1_method_41_code 15 = .ok (.putfield 22, 3) := by decide +kernel
theorem d_X_tear_18 : decode prog_1_method_41_code 18 = .ok (.iload_n 1, 1) := by decide +kernel
theorem d_X_tear_19 : decode prog_1_method_41_code 19 = .ok (.ireturn, 1) := by decide +kernel
theorem d_X_tear_11 : decode prog_1_method_41_code 11 = .ok (.iconst 0, 1) := by decide +kernel
theorem d_X_count_0 : decode prog_1_method_42_code 0 = .ok (.iload_n 1, 1) := by decide +kernel
theorem d_X_count_1 : decode prog_1_method_42_code 1 = .ok (.tableswitch 113 0 7 #[47, 55, 63, 71, 80, 89, 97, 105], 47) := by decide +kernel
theorem d_X_count_48 : decode prog_1_method_42_code 48 = .ok (.aload_n 0, 1) := by decide +kernel
theorem d_X_count_49 : decode prog_1_method_42_code 49 = .ok (.getfield 12, 3) := by decide +kernel
theorem d_X_count_52 : decode prog_1_method_42_code 52 = .ok (.getfield 87, 3) := by decide +kernel
theorem d_X_count_55 : decode prog_1_method_42_code 55 = .ok (.ireturn, 1) := by decide +kernel
theorem d_X_count_56 : decode prog_1_method_42_code 56 = .ok (.aload_n 0, 1) := by decide +kernel
theorem d_X_count_57 : decode prog_1_method_42_code 57 = .ok (.getfield 12, 3) := by decide +kernel
theorem d_X_count_60 : decode prog_1_method_42_code 60 = .ok (.getfield 59, 3) := by decide +kernel
theorem d_X_count_63 : decode prog_1_method_42_code 63 = .ok (.ireturn, 1) := by decide +kernel
theorem d_X_count_64 : decode prog_1_method_42_code 64 = .ok (.aload_n 0, 1) := by decide +kernel
theorem d_X_count_65 : decode prog_1_method_42_code 65 = .ok (.getfield 12, 3) := by decide +kernel
theorem d_X_count_68 : decode prog_1_method_42_code 68 = .ok (.getfield 68, 3) := by decide +kernel
theorem d_X_count_71 : decode prog_1_method_42_code 71 = .ok (.ireturn, 1) := by decide +kernel
theorem d_X_count_72 : decode prog_1_method_42_code 72 = .ok (.aload_n 0, 1) := by decide +kernel
theorem d_X_count_73 : decode prog_1_method_42_code 73 = .ok (.getfield 12, 3) := by decide +kernel
theorem d_X_count_76 : decode prog_1_method_42_code 76 = .ok (.iconst 4, 1) := by decide +kernel
theorem d_X_count_77 : decode prog_1_method_42_code 77 = .ok (.invokevirtual 121, 3) := by decide +kernel
theorem d_X_count_80 : decode prog_1_method_42_code 80 = .ok (.ireturn, 1) := by decide +kernel
theorem d_X_count_81 : decode prog_1_method_42_code 81 = .ok (.aload_n 0, 1) := by decide +kernel
theorem d_X_count_82 : decode prog_1_method_42_code 82 = .ok (.getfield 12, 3) := by decide +kernel
theorem d_X_count_85 : decode prog_1_method_42_code 85 = .ok (.iconst 5, 1) := by decide +kernel
theorem d_X_count_86 : decode prog_1_method_42_code 86 = .ok (.invokevirtual 121, 3) := by decide +kernel
theorem d_X_count_89 : decode prog_1_method_42_code 89 = .ok (.ireturn, 1) := by decide +kernel
theorem d_X_count_90 : decode prog_1_method_42_code 90 = .ok (.aload_n 0, 1) := by decide +kernel
theorem d_X_count_91 : decode prog_1_method_42_code 91 = .ok (.getfield 29, 3) := by decide +kernel
theorem d_X_count_94 : decode prog_1_method_42_code 94 = .ok (.getfield 178, 3) := by decide +kernel
theorem d_X_count_97 : decode prog_1_method_42_code 97 = .ok (.ireturn, 1) := by decide +kernel
theorem d_X_count_98 : decode prog_1_method_42_code 98 = .ok (.aload_n 0, 1) := by decide +kernel
theorem d_X_count_99 : decode prog_1_method_42_code 99 = .ok (.getfield 12, 3) := by decide +kernel
theorem d_X_count_102 : decode prog_1_method_42_code 102 = .ok (.getfield 175, 3) := by decide +kernel
theorem d_X_count_105 : decode prog_1_method_42_code 105 = .ok (.ireturn, 1) := by decide +kernel
theorem d_X_count_106 : decode prog_1_method_42_code 106 = .ok (.aload_n 0, 1) := by decide +kernel
theorem d_X_count_107 : decode prog_1_method_42_code 107 = .ok (.getfield 12, 3) := by decide +kernel
theorem d_X_count_110 : decode prog_1_method_42_code 110 = .ok (.invokevirtual 222, 3) := by decide +kernel
theorem d_X_count_113 : decode prog_1_method_42_code 113 = .ok (.ireturn, 1) := by decide +kernel
theorem d_X_count_114 : decode prog_1_method_42_code 114 = .ok (.aload_n 0, 1) := by decide +kernel
theorem d_X_count_115 : decode prog_1_method_42_code 115 = .ok (.ldc 48, 2) := by decide +kernel
theorem d_X_count_117 : decode prog_1_method_42_code 117 = .ok (.invokevirtual 49, 3) := by decide +kernel
theorem d_X_count_120 : decode prog_1_method_42_code 120 = .ok (.ireturn, 1) := by decide +kernel
theorem d_X_status_0 : decode prog_1_method_43_code 0 = .ok (.iload_n 1, 1) := by decide +kernel
theorem d_X_status_1 : decode prog_1_method_43_code 1 = .ok (.iconst (-1), 1) := by decide +kernel
theorem d_X_status_2 : decode prog_1_method_43_code 2 = .ok (.bipush 6, 2) := by decide +kernel
theorem d_X_status_4 : decode prog_1_method_43_code 4 = .ok (.invokestatic 44, 3) := by decide +kernel
theorem d_X_status_7 : decode prog_1_method_43_code 7 = .ok (.ifCond .ne 10, 3) := by decide +kernel
theorem d_X_status_17 : decode prog_1_method_43_code 17 = .ok (.iload_n 1, 1) := by decide +kernel
theorem d_X_status_18 : decode prog_1_method_43_code 18 = .ok (.ifCond .lt 10, 3) := by decide +kernel
theorem d_X_status_21 : decode prog_1_method_43_code 21 = .ok (.aload_n 0, 1) := by decide +kernel
theorem d_X_status_22 : decode prog_1_method_43_code 22 = .ok (.getfield 40, 3) := by decide +kernel
theorem d_X_status_25 : decode prog_1_method_43_code 25 = .ok (.iload_n 1, 1) := by decide +kernel
theorem d_X_status_26 : decode prog_1_method_43_code 26 = .ok (.iaload, 1) := by decide +kernel
theorem d_X_status_27 : decode prog_1_method_43_code 27 = .ok (.ireturn, 1) := by decide +kernel
theorem d_X_status_28 : decode prog_1_method_43_code 28 = .ok (.iconst 0, 1) := by decide +kernel
theorem d_X_status_29 : decode prog_1_method_43_code 29 = .ok (.istore_n 2, 1) := by decide +kernel
theorem d_X_status_30 : decode prog_1_method_43_code 30 = .ok (.iconst 0, 1) := by decide +kernel
theorem d_X_status_31 : decode prog_1_method_43_code 31 = .ok (.istore_n 3, 1) := by decide +kernel
theorem d_X_status_32 : decode prog_1_method_43_code 32 = .ok (.iload_n 3, 1) := by decide +kernel
theorem d_X_status_33 : decode prog_1_method_43_code 33 = .ok (.bipush 7, 2) := by decide +kernel
theorem d_X_status_35 : decode prog_1_method_43_code 35 = .ok (.if_icmp .ge 18, 3) := by decide +kernel
theorem d_X_status_38 : decode prog_1_method_43_code 38 = .ok (.iload_n 2, 1) := by decide +kernel
theorem d_X_status_39 : decode prog_1_method_43_code 39 = .ok (.aload_n 0, 1) := by decide +kernel
theorem d_X_status_40 : decode prog_1_method_43_code 40 = .ok (.getfield 40, 3) := by decide +kernel
theorem d_X_status_43 : decode prog_1_method_43_code 43 = .ok (.iload_n 3, 1) := by decide +kernel
theorem d_X_status_44 : decode prog_1_method_43_code 44 = .ok (.iaload, 1) := by decide +kernel
theorem d_X_status_45 : decode prog_1_method_43_code 45 = .ok (.iadd, 1) := by decide +kernel
theorem d_X_status_46 : decode prog_1_method_43_code 46 = .ok (.istore_n 2, 1) := by decide +kernel
theorem d_X_status_47 : decode prog_1_method_43_code 47 = .ok (.iinc 3 1, 3) := by decide +kernel
theorem d_X_status_50 : decode prog_1_method_43_code 50 = .ok (.goto (-18), 3) := by decide +kernel
theorem d_X_status_53 : decode prog_1_method_43_code 53 = .ok (.iload_n 2, 1) := by decide +kernel
theorem d_X_status_54 : decode prog_1_method_43_code 54 = .ok (.ireturn, 1) := by decide +kernel
theorem d_X_status_10 : decode prog_1_method_43_code 10 = .ok (.aload_n 0, 1) := by decide +kernel
theorem d_X_status_11 : decode prog_1_method_43_code 11 = .ok (.ldc 48, 2) := by decide +kernel
theorem d_X_status_13 : decode prog_1_method_43_code 13 = .ok (.invokevirtual 49, 3) := by decide +kernel
theorem d_X_status_16 : decode prog_1_method_43_code 16 = .ok (.ireturn, 1) := by decide +kernel
theorem d_X_feed_0 : decode prog_1_method_29_code 0 = .ok (.iload_n 2, 1) := by decide +kernel
theorem d_X_feed_1 : decode prog_1_method_29_code 1 = .ok (.iconst 1, 1) := by decide +kernel
theorem d_X_feed_2 : decode prog_1_method_29_code 2 = .ok (.iconst 4, 1) := by decide +kernel
theorem d_X_feed_3 : decode prog_1_method_29_code 3 = .ok (.invokestatic 44, 3) := by decide +kernel
theorem d_X_feed_6 : decode prog_1_method_29_code 6 = .ok (.ifCond .ne 10, 3) := by decide +kernel
theorem d_X_feed_16 : decode prog_1_method_29_code 16 = .ok (.aload_n 0, 1) := by decide +kernel
theorem d_X_feed_17 : decode prog_1_method_29_code 17 = .ok (.getfield 29, 3) := by decide +kernel
theorem d_X_feed_20 : decode prog_1_method_29_code 20 = .ok (.getfield 178, 3) := by decide +kernel
theorem d_X_feed_23 : decode prog_1_method_29_code 23 = .ok (.bipush 120, 2) := by decide +kernel
theorem d_X_feed_25 : decode prog_1_method_29_code 25 = .ok (.iload_n 2, 1) := by decide +kernel
theorem d_X_feed_26 : decode prog_1_method_29_code 26 = .ok (.isub, 1) := by decide +kernel
theorem d_X_feed_27 : decode prog_1_method_29_code 27 = .ok (.if_icmp .le 10, 3) := by decide +kernel
theorem d_X_feed_37 : decode prog_1_method_29_code 37 = .ok (.aload_n 0, 1) := by decide +kernel
theorem d_X_feed_38 : decode prog_1_method_29_code 38 = .ok (.getfield 29, 3) := by decide +kernel
theorem d_X_feed_41 : decode prog_1_method_29_code 41 = .ok (.iload_n 1, 1) := by decide +kernel
theorem d_X_feed_42 : decode prog_1_method_29_code 42 = .ok (.iload_n 2, 1) := by decide +kernel
theorem d_X_feed_43 : decode prog_1_method_29_code 43 = .ok (.invokevirtual 181, 3) := by decide +kernel
theorem d_X_feed_46 : decode prog_1_method_29_code 46 = .ok (.aload_n 0, 1) := by decide +kernel
theorem d_X_feed_47 : decode prog_1_method_29_code 47 = .ok (.getfield 29, 3) := by decide +kernel
theorem d_X_feed_50 : decode prog_1_method_29_code 50 = .ok (.getfield 178, 3) := by decide +kernel
theorem d_X_feed_53 : decode prog_1_method_29_code 53 = .ok (.ireturn, 1) := by decide +kernel
theorem d_X_feed_30 : decode prog_1_method_29_code 30 = .ok (.aload_n 0, 1) := by decide +kernel
theorem d_X_feed_31 : decode prog_1_method_29_code 31 = .ok (.ldc 63, 2) := by decide +kernel
theorem d_X_feed_33 : decode prog_1_method_29_code 33 = .ok (.invokevirtual 49, 3) := by decide +kernel
theorem d_X_feed_36 : decode prog_1_method_29_code 36 = .ok (.ireturn, 1) := by decide +kernel
theorem d_X_feed_9 : decode prog_1_method_29_code 9 = .ok (.aload_n 0, 1) := by decide +kernel
theorem d_X_feed_10 : decode prog_1_method_29_code 10 = .ok (.ldc 48, 2) := by decide +kernel
theorem d_X_feed_12 : decode prog_1_method_29_code 12 = .ok (.invokevirtual 49, 3) := by decide +kernel
theorem d_X_feed_15 : decode prog_1_method_29_code 15 = .ok (.ireturn, 1) := by decide +kernel
theorem d_X_wipe_0 : decode prog_1_method_30_code 0 = .ok (.aload_n 0, 1) := by decide +kernel
theorem d_X_wipe_1 : decode prog_1_method_30_code 1 = .ok (.getfield 29, 3) := by decide +kernel
theorem d_X_wipe_4 : decode prog_1_method_30_code 4 = .ok (.getfield 178, 3) := by decide +kernel
theorem d_X_wipe_7 : decode prog_1_method_30_code 7 = .ok (.istore_n 1, 1) := by decide +kernel
theorem d_X_wipe_8 : decode prog_1_method_30_code 8 = .ok (.aload_n 0, 1) := by decide +kernel
theorem d_X_wipe_9 : decode prog_1_method_30_code 9 = .ok (.getfield 29, 3) := by decide +kernel
theorem d_X_wipe_12 : decode prog_1_method_30_code 12 = .ok (.iconst 0, 1) := by decide +kernel
theorem d_X_wipe_13 : decode prog_1_method_30_code 13 = .ok (.putfield 178, 3) := by decide +kernel
theorem d_X_wipe_16 : decode prog_1_method_30_code 16 = .ok (.iload_n 1, 1) := by decide +kernel
theorem d_X_wipe_17 : decode prog_1_method_30_code 17 = .ok (.ireturn, 1) := by decide +kernel
set_option maxHeartbeats 1000000 in
set_option maxRecDepth 20000 in
theorem c_Tp_append_1 (l : Launch) (E : QE) (S : QM) (θ σ : Nat → Int32) (hθ : S 4 = θ) (hσ : S 5 = σ) (len : Nat) (hlen : θ 1 = nI len) (v : Int32) (hl : len + 1 ≤ 120) : qCV E l y_Tp_append prog_5_method_2_code 4 1 [.ref (eA E 58), .int v, .int (nI 1)] S (qr (qr S 5 (apS σ len v 1 0)) 4 (upd θ 1 (nI (len + 1)))) := by
  refine qCV_of (by decide) (Nat.le_of_ble_eq_true rfl) (fun p e s m below meth c ls X hW hl => ?_)
  have hl : lv_has ls 4 [(0, .ref (eA E 58)), (1, .int v), (2, .int (nI 1))] := hl
  refine lv_iload_n X.x X.b d_Tp_append_0 rfl (lv_at hl 2 rfl) ?_
  refine lv_iconst (v := nI 1) X.x X.b d_Tp_append_1 (by decide) ?_
  refine lv_isub X.x X.b d_Tp_append_2 ?_
  rw [show (nI 1) - (nI 1) = nI 0 from by decide]
  refine lv_istore_n (lv' := [(3, .int (nI 0)), (0, .ref (eA E 58)), (1, .int v), (2, .int (nI 1))]) X.x X.b d_Tp_append_3 rfl hl (by decide) rfl (fun ls hl => ?_)
  refine lv_iload_n X.x X.b d_Tp_append_4 rfl (lv_at hl 0 rfl) ?_
  refine lv_if_lt (tgt := 52) X.x X.b d_Tp_append_5 (by decide) (fun c5 => ?_) (fun c5 => ?_)
  · exact absurd c5 (by decide)
  · have c5 : ¬ 0 < 0 := fun z => c5 ((nI_ltI (a := 0) (b := 0) (by omega) (by omega)).mpr z)
    refine lv_aload_n X.x X.b d_Tp_append_8 rfl (lv_at hl 1 rfl) ?_
    refine g_geti X hW qj2 rfl _ ds_T 1 (by decide) mw_144 rfl (r0 := 4) (p0 := 1) rfl (v := θ 1) (by rw [hθ]) d_Tp_append_9 ?_
    rw [hlen]
    refine lv_bipush (v := nI 120) X.x X.b d_Tp_append_12 (by decide) ?_
    refine lv_icmp_ge (tgt := 52) X.x X.b d_Tp_append_14 (by decide) (fun c14 => ?_) (fun c14 => ?_)
    · have c14 : 120 ≤ len := (nI_leI (a := 120) (b := len) (by omega) (by omega)).mp c14
      omega
    · have c14 : ¬ 120 ≤ len := fun z => c14 ((nI_leI (a := 120) (b := len) (by omega) (by omega)).mpr z)
      refine lv_aload_n X.x X.b d_Tp_append_17 rfl (lv_at hl 1 rfl) ?_
      refine q_getr X hW qj2 rfl _ ds_T 0 (by decide) mw_143 rfl (c1 := 59) rfl d_Tp_append_18 ?_
      refine lv_aload_n X.x X.b d_Tp_append_21 rfl (lv_at hl 1 rfl) ?_
      refine g_geti X hW qj2 rfl _ ds_T 1 (by decide) mw_144 rfl (r0 := 4) (p0 := 1) rfl (v := θ 1) (by rw [hθ]) d_Tp_append_22 ?_
      rw [hlen]
      refine lv_iload_n X.x X.b d_Tp_append_25 rfl (lv_at hl 2 rfl) ?_
      refine lv_bipush (v := nI 8) X.x X.b d_Tp_append_26 (by decide) ?_
      refine lv_iload_n X.x X.b d_Tp_append_28 rfl (lv_at hl 0 rfl) ?_
      refine lv_imul X.x X.b d_Tp_append_29 ?_
      rw [show (nI 8) * (nI 0) = nI 0 from by decide]
      refine lv_iushr (v := (v.toUInt32 >>> ((nI 0).toUInt32 &&& Int32.toUInt32 31)).toInt32) X.x X.b d_Tp_append_30 rfl ?_
      refine lv_sipush (v := nI 255) X.x X.b d_Tp_append_31 (by decide) ?_
      refine lv_iand X.x X.b d_Tp_append_34 ?_
      refine g_ast X hW ds_tb (q_in (by omega) (by decide)) (p0 := len) (q_tn (by omega) (by omega)) (ρ := σ) (by rw [hσ]) d_Tp_append_35 (fun H locs hW => ?_)
      refine lv_aload_n X.x X.b d_Tp_append_36 rfl (lv_at hl 1 rfl) ?_
      refine lv_dup X.x X.b d_Tp_append_37 rfl ?_
      refine g_geti X hW qj2 rfl _ ds_T 1 (by decide) mw_144 rfl (r0 := 4) (p0 := 1) rfl (v := θ 1) (by rw [qr_ne (by omega), hθ]) d_Tp_append_38 ?_
      rw [hlen]
      refine lv_iconst (v := nI 1) X.x X.b d_Tp_append_41 (by decide) ?_
      refine lv_iadd X.x X.b d_Tp_append_42 ?_
      rw [nI_add]
      refine g_puti X hW qj2 qp2 qn2 rfl _ ds_T 1 (by decide) mw_144 rfl rfl (r0 := 4) (p0 := 1) rfl rfl rfl (ρ := θ) (by rw [qr_ne (by omega), hθ]) d_Tp_append_43 (fun H locs hW => ?_)
      refine lv_iinc (v := (-1)) (lv' := [(3, .int (-1)), (0, .ref (eA E 58)), (1, .int v), (2, .int (nI 1))]) X.x X.b d_Tp_append_46 hl (k := 0) rfl (by decide) (by decide) rfl (fun ls hl => ?_)
      refine lv_goto (tgt := 4) X.x X.b d_Tp_append_49 (by decide) ?_
      refine lv_iload_n X.x X.b d_Tp_append_4 rfl (lv_at hl 0 rfl) ?_
      refine lv_if_lt (tgt := 52) X.x X.b d_Tp_append_5 (by decide) (fun c5 => ?_) (fun c5 => ?_)
      · exact q_vret X hW rfl d_Tp_append_52
      · exact absurd (by decide) c5
set_option maxHeartbeats 1000000 in
set_option maxRecDepth 20000 in
theorem c_Tp_append_2 (l : Launch) (E : QE) (S : QM) (θ σ : Nat → Int32) (hθ : S 4 = θ) (hσ : S 5 = σ) (len : Nat) (hlen : θ 1 = nI len) (v : Int32) (hl : len + 2 ≤ 120) : qCV E l y_Tp_append prog_5_method_2_code 4 1 [.ref (eA E 58), .int v, .int (nI 2)] S (qr (qr S 5 (apS σ len v 2 0)) 4 (upd θ 1 (nI (len + 2)))) := by
  refine qCV_of (by decide) (Nat.le_of_ble_eq_true rfl) (fun p e s m below meth c ls X hW hl => ?_)
  have hl : lv_has ls 4 [(0, .ref (eA E 58)), (1, .int v), (2, .int (nI 2))] := hl
  refine lv_iload_n X.x X.b d_Tp_append_0 rfl (lv_at hl 2 rfl) ?_
  refine lv_iconst (v := nI 1) X.x X.b d_Tp_append_1 (by decide) ?_
  refine lv_isub X.x X.b d_Tp_append_2 ?_
  rw [show (nI 2) - (nI 1) = nI 1 from by decide]
  refine lv_istore_n (lv' := [(3, .int (nI 1)), (0, .ref (eA E 58)), (1, .int v), (2, .int (nI 2))]) X.x X.b d_Tp_append_3 rfl hl (by decide) rfl (fun ls hl => ?_)
  refine lv_iload_n X.x X.b d_Tp_append_4 rfl (lv_at hl 0 rfl) ?_
  refine lv_if_lt (tgt := 52) X.x X.b d_Tp_append_5 (by decide) (fun c5 => ?_) (fun c5 => ?_)
  · exact absurd c5 (by decide)
  · have c5 : ¬ 1 < 0 := fun z => c5 ((nI_ltI (a := 1) (b := 0) (by omega) (by omega)).mpr z)
    refine lv_aload_n X.x X.b d_Tp_append_8 rfl (lv_at hl 1 rfl) ?_
    refine g_geti X hW qj2 rfl _ ds_T 1 (by decide) mw_144 rfl (r0 := 4) (p0 := 1) rfl (v := θ 1) (by rw [hθ]) d_Tp_append_9 ?_
    rw [hlen]
    refine lv_bipush (v := nI 120) X.x X.b d_Tp_append_12 (by decide) ?_
    refine lv_icmp_ge (tgt := 52) X.x X.b d_Tp_append_14 (by decide) (fun c14 => ?_) (fun c14 => ?_)
    · have c14 : 120 ≤ len := (nI_leI (a := 120) (b := len) (by omega) (by omega)).mp c14
      omega
    · have c14 : ¬ 120 ≤ len := fun z => c14 ((nI_leI (a := 120) (b := len) (by omega) (by omega)).mpr z)
      refine lv_aload_n X.x X.b d_Tp_append_17 rfl (lv_at hl 1 rfl) ?_
      refine q_getr X hW qj2 rfl _ ds_T 0 (by decide) mw_143 rfl (c1 := 59) rfl d_Tp_append_18 ?_
      refine lv_aload_n X.x X.b d_Tp_append_21 rfl (lv_at hl 1 rfl) ?_
      refine g_geti X hW qj2 rfl _ ds_T 1 (by decide) mw_144 rfl (r0 := 4) (p0 := 1) rfl (v := θ 1) (by rw [hθ]) d_Tp_append_22 ?_
      rw [hlen]
      refine lv_iload_n X.x X.b d_Tp_append_25 rfl (lv_at hl 2 rfl) ?_
      refine lv_bipush (v := nI 8) X.x X.b d_Tp_append_26 (by decide) ?_
      refine lv_iload_n X.x X.b d_Tp_append_28 rfl (lv_at hl 0 rfl) ?_
      refine lv_imul X.x X.b d_Tp_append_29 ?_
      rw [show (nI 8) * (nI 1) = nI 8 from by decide]
      refine lv_iushr (v := (v.toUInt32 >>> ((nI 8).toUInt32 &&& Int32.toUInt32 31)).toInt32) X.x X.b d_Tp_append_30 rfl ?_
      refine lv_sipush (v := nI 255) X.x X.b d_Tp_append_31 (by decide) ?_
      refine lv_iand X.x X.b d_Tp_append_34 ?_
      refine g_ast X hW ds_tb (q_in (by omega) (by decide)) (p0 := len) (q_tn (by omega) (by omega)) (ρ := σ) (by rw [hσ]) d_Tp_append_35 (fun H locs hW => ?_)
      refine lv_aload_n X.x X.b d_Tp_append_36 rfl (lv_at hl 1 rfl) ?_
      refine lv_dup X.x X.b d_Tp_append_37 rfl ?_
      refine g_geti X hW qj2 rfl _ ds_T 1 (by decide) mw_144 rfl (r0 := 4) (p0 := 1) rfl (v := θ 1) (by rw [qr_ne (by omega), hθ]) d_Tp_append_38 ?_
      rw [hlen]
      refine lv_iconst (v := nI 1) X.x X.b d_Tp_append_41 (by decide) ?_
      refine lv_iadd X.x X.b d_Tp_append_42 ?_
      rw [nI_add]
      refine g_puti X hW qj2 qp2 qn2 rfl _ ds_T 1 (by decide) mw_144 rfl rfl (r0 := 4) (p0 := 1) rfl rfl rfl (ρ := θ) (by rw [qr_ne (by omega), hθ]) d_Tp_append_43 (fun H locs hW => ?_)
      refine lv_iinc (v := nI 0) (lv' := [(3, .int (nI 0)), (0, .ref (eA E 58)), (1, .int v), (2, .int (nI 2))]) X.x X.b d_Tp_append_46 hl (k := 0) rfl (by decide) (by decide) rfl (fun ls hl => ?_)
      refine lv_goto (tgt := 4) X.x X.b d_Tp_append_49 (by decide) ?_
      refine lv_iload_n X.x X.b d_Tp_append_4 rfl (lv_at hl 0 rfl) ?_
      refine lv_if_lt (tgt := 52) X.x X.b d_Tp_append_5 (by decide) (fun c5 => ?_) (fun c5 => ?_)
      · exact absurd c5 (by decide)
      · have c5 : ¬ 0 < 0 := fun z => c5 ((nI_ltI (a := 0) (b := 0) (by omega) (by omega)).mpr z)
        refine lv_aload_n X.x X.b d_Tp_append_8 rfl (lv_at hl 1 rfl) ?_
        refine g_geti X hW qj2 rfl _ ds_T 1 (by decide) mw_144 rfl (r0 := 4) (p0 := 1) rfl (v := (upd θ 1 (nI (len + 1))) 1) (by rw [qr_at]) d_Tp_append_9 ?_
        rw [upd_at]
        refine lv_bipush (v := nI 120) X.x X.b d_Tp_append_12 (by decide) ?_
        refine lv_icmp_ge (tgt := 52) X.x X.b d_Tp_append_14 (by decide) (fun c14 => ?_) (fun c14 => ?_)
        · have c14 : 120 ≤ (len + 1) := (nI_leI (a := 120) (b := (len + 1)) (by omega) (by omega)).mp c14
          omega
        · have c14 : ¬ 120 ≤ (len + 1) := fun z => c14 ((nI_leI (a := 120) (b := (len + 1)) (by omega) (by omega)).mpr z)
          refine lv_aload_n X.x X.b d_Tp_append_17 rfl (lv_at hl 1 rfl) ?_
          refine q_getr X hW qj2 rfl _ ds_T 0 (by decide) mw_143 rfl (c1 := 59) rfl d_Tp_append_18 ?_
          refine lv_aload_n X.x X.b d_Tp_append_21 rfl (lv_at hl 1 rfl) ?_
          refine g_geti X hW qj2 rfl _ ds_T 1 (by decide) mw_144 rfl (r0 := 4) (p0 := 1) rfl (v := (upd θ 1 (nI (len + 1))) 1) (by rw [qr_at]) d_Tp_append_22 ?_
          rw [upd_at]
          refine lv_iload_n X.x X.b d_Tp_append_25 rfl (lv_at hl 2 rfl) ?_
          refine lv_bipush (v := nI 8) X.x X.b d_Tp_append_26 (by decide) ?_
          refine lv_iload_n X.x X.b d_Tp_append_28 rfl (lv_at hl 0 rfl) ?_
          refine lv_imul X.x X.b d_Tp_append_29 ?_
          rw [show (nI 8) * (nI 0) = nI 0 from by decide]
          refine lv_iushr (v := (v.toUInt32 >>> ((nI 0).toUInt32 &&& Int32.toUInt32 31)).toInt32) X.x X.b d_Tp_append_30 rfl ?_
          refine lv_sipush (v := nI 255) X.x X.b d_Tp_append_31 (by decide) ?_
          refine lv_iand X.x X.b d_Tp_append_34 ?_
          refine g_ast X hW ds_tb (q_in (by omega) (by decide)) (p0 := len + 1) (q_tn (by omega) (by omega)) (ρ := upd σ len (((v.toUInt32 >>> ((nI 8).toUInt32 &&& Int32.toUInt32 31)).toInt32) &&& (nI 255))) (by rw [qr_ne (by omega), qr_at]) d_Tp_append_35 (fun H locs hW => ?_)
          rw [qr_in (by omega)] at hW
          refine lv_aload_n X.x X.b d_Tp_append_36 rfl (lv_at hl 1 rfl) ?_
          refine lv_dup X.x X.b d_Tp_append_37 rfl ?_
          refine g_geti X hW qj2 rfl _ ds_T 1 (by decide) mw_144 rfl (r0 := 4) (p0 := 1) rfl (v := (upd θ 1 (nI (len + 1))) 1) (by rw [qr_at]) d_Tp_append_38 ?_
          rw [upd_at]
          refine lv_iconst (v := nI 1) X.x X.b d_Tp_append_41 (by decide) ?_
          refine lv_iadd X.x X.b d_Tp_append_42 ?_
          rw [nI_add]
          refine g_puti X hW qj2 qp2 qn2 rfl _ ds_T 1 (by decide) mw_144 rfl rfl (r0 := 4) (p0 := 1) rfl rfl rfl (ρ := upd θ 1 (nI (len + 1))) (by rw [qr_at]) d_Tp_append_43 (fun H locs hW => ?_)
          rw [qr_qr] at hW
          rw [upd_upd] at hW
          refine lv_iinc (v := (-1)) (lv' := [(3, .int (-1)), (0, .ref (eA E 58)), (1, .int v), (2, .int (nI 2))]) X.x X.b d_Tp_append_46 hl (k := 0) rfl (by decide) (by decide) rfl (fun ls hl => ?_)
          refine lv_goto (tgt := 4) X.x X.b d_Tp_append_49 (by decide) ?_
          refine lv_iload_n X.x X.b d_Tp_append_4 rfl (lv_at hl 0 rfl) ?_
          refine lv_if_lt (tgt := 52) X.x X.b d_Tp_append_5 (by decide) (fun c5 => ?_) (fun c5 => ?_)
          · exact q_vret X hW rfl d_Tp_append_52
          · exact absurd (by decide) c5
set_option maxHeartbeats 1000000 in
set_option maxRecDepth 20000 in
theorem c_Tp_append_3 (l : Launch) (E : QE) (S : QM) (θ σ : Nat → Int32) (hθ : S 4 = θ) (hσ : S 5 = σ) (len : Nat) (hlen : θ 1 = nI len) (v : Int32) (hl : len + 3 ≤ 120) : qCV E l y_Tp_append prog_5_method_2_code 4 1 [.ref (eA E 58), .int v, .int (nI 3)] S (qr (qr S 5 (apS σ len v 3 0)) 4 (upd θ 1 (nI (len + 3)))) := by
  refine qCV_of (by decide) (Nat.le_of_ble_eq_true rfl) (fun p e s m below meth c ls X hW hl => ?_)
  have hl : lv_has ls 4 [(0, .ref (eA E 58)), (1, .int v), (2, .int (nI 3))] := hl
  refine lv_iload_n X.x X.b d_Tp_append_0 rfl (lv_at hl 2 rfl) ?_
  refine lv_iconst (v := nI 1) X.x X.b d_Tp_append_1 (by decide) ?_
  refine lv_isub X.x X.b d_Tp_append_2 ?_
  rw [show (nI 3) - (nI 1) = nI 2 from by decide]
  refine lv_istore_n (lv' := [(3, .int (nI 2)), (0, .ref (eA E 58)), (1, .int v), (2, .int (nI 3))]) X.x X.b d_Tp_append_3 rfl hl (by decide) rfl (fun ls hl => ?_)
  refine lv_iload_n X.x X.b d_Tp_append_4 rfl (lv_at hl 0 rfl) ?_
  refine lv_if_lt (tgt := 52) X.x X.b d_Tp_append_5 (by decide) (fun c5 => ?_) (fun c5 => ?_)
  · exact absurd c5 (by decide)
  · have c5 : ¬ 2 < 0 := fun z => c5 ((nI_ltI (a := 2) (b := 0) (by omega) (by omega)).mpr z)
    refine lv_aload_n X.x X.b d_Tp_append_8 rfl (lv_at hl 1 rfl) ?_
    refine g_geti X hW qj2 rfl _ ds_T 1 (by decide) mw_144 rfl (r0 := 4) (p0 := 1) rfl (v := θ 1) (by rw [hθ]) d_Tp_append_9 ?_
    rw [hlen]
    refine lv_bipush (v := nI 120) X.x X.b d_Tp_append_12 (by decide) ?_
    refine lv_icmp_ge (tgt := 52) X.x X.b d_Tp_append_14 (by decide) (fun c14 => ?_) (fun c14 => ?_)
    · have c14 : 120 ≤ len := (nI_leI (a := 120) (b := len) (by omega) (by omega)).mp c14
      omega
    · have c14 : ¬ 120 ≤ len := fun z => c14 ((nI_leI (a := 120) (b := len) (by omega) (by omega)).mpr z)
      refine lv_aload_n X.x X.b d_Tp_append_17 rfl (lv_at hl 1 rfl) ?_
      refine q_getr X hW qj2 rfl _ ds_T 0 (by decide) mw_143 rfl (c1 := 59) rfl d_Tp_append_18 ?_
      refine lv_aload_n X.x X.b d_Tp_append_21 rfl (lv_at hl 1 rfl) ?_
      refine g_geti X hW qj2 rfl _ ds_T 1 (by decide) mw_144 rfl (r0 := 4) (p0 := 1) rfl (v := θ 1) (by rw [hθ]) d_Tp_append_22 ?_
      rw [hlen]
      refine lv_iload_n X.x X.b d_Tp_append_25 rfl (lv_at hl 2 rfl) ?_
      refine lv_bipush (v := nI 8) X.x X.b d_Tp_append_26 (by decide) ?_
      refine lv_iload_n X.x X.b d_Tp_append_28 rfl (lv_at hl 0 rfl) ?_
      refine lv_imul X.x X.b d_Tp_append_29 ?_
      rw [show (nI 8) * (nI 2) = nI 16 from by decide]
      refine lv_iushr (v := (v.toUInt32 >>> ((nI 16).toUInt32 &&& Int32.toUInt32 31)).toInt32) X.x X.b d_Tp_append_30 rfl ?_
      refine lv_sipush (v := nI 255) X.x X.b d_Tp_append_31 (by decide) ?_
      refine lv_iand X.x X.b d_Tp_append_34 ?_
      refine g_ast X hW ds_tb (q_in (by omega) (by decide)) (p0 := len) (q_tn (by omega) (by omega)) (ρ := σ) (by rw [hσ]) d_Tp_append_35 (fun H locs hW => ?_)
      refine lv_aload_n X.x X.b d_Tp_append_36 rfl (lv_at hl 1 rfl) ?_
      refine lv_dup X.x X.b d_Tp_append_37 rfl ?_
      refine g_geti X hW qj2 rfl _ ds_T 1 (by decide) mw_144 rfl (r0 := 4) (p0 := 1) rfl (v := θ 1) (by rw [qr_ne (by omega), hθ]) d_Tp_append_38 ?_
      rw [hlen]
      refine lv_iconst (v := nI 1) X.x X.b d_Tp_append_41 (by decide) ?_
      refine lv_iadd X.x X.b d_Tp_append_42 ?_
      rw [nI_add]
      refine g_puti X hW qj2 qp2 qn2 rfl _ ds_T 1 (by decide) mw_144 rfl rfl (r0 := 4) (p0 := 1) rfl rfl rfl (ρ := θ) (by rw [qr_ne (by omega), hθ]) d_Tp_append_43 (fun H locs hW => ?_)
      refine lv_iinc (v := nI 1) (lv' := [(3, .int (nI 1)), (0, .ref (eA E 58)), (1, .int v), (2, .int (nI 3))]) X.x X.b d_Tp_append_46 hl (k := 0) rfl (by decide) (by decide) rfl (fun ls hl => ?_)
      refine lv_goto (tgt := 4) X.x X.b d_Tp_append_49 (by decide) ?_
      refine lv_iload_n X.x X.b d_Tp_append_4 rfl (lv_at hl 0 rfl) ?_
      refine lv_if_lt (tgt := 52) X.x X.b d_Tp_append_5 (by decide) (fun c5 => ?_) (fun c5 => ?_)
      · exact absurd c5 (by decide)
      · have c5 : ¬ 1 < 0 := fun z => c5 ((nI_ltI (a := 1) (b := 0) (by omega) (by omega)).mpr z)
        refine lv_aload_n X.x X.b d_Tp_append_8 rfl (lv_at hl 1 rfl) ?_
        refine g_geti X hW qj2 rfl _ ds_T 1 (by decide) mw_144 rfl (r0 := 4) (p0 := 1) rfl (v := (upd θ 1 (nI (len + 1))) 1) (by rw [qr_at]) d_Tp_append_9 ?_
        rw [upd_at]
        refine lv_bipush (v := nI 120) X.x X.b d_Tp_append_12 (by decide) ?_
        refine lv_icmp_ge (tgt := 52) X.x X.b d_Tp_append_14 (by decide) (fun c14 => ?_) (fun c14 => ?_)
        · have c14 : 120 ≤ (len + 1) := (nI_leI (a := 120) (b := (len + 1)) (by omega) (by omega)).mp c14
          omega
        · have c14 : ¬ 120 ≤ (len + 1) := fun z => c14 ((nI_leI (a := 120) (b := (len + 1)) (by omega) (by omega)).mpr z)
          refine lv_aload_n X.x X.b d_Tp_append_17 rfl (lv_at hl 1 rfl) ?_
          refine q_getr X hW qj2 rfl _ ds_T 0 (by decide) mw_143 rfl (c1 := 59) rfl d_Tp_append_18 ?_
          refine lv_aload_n X.x X.b d_Tp_append_21 rfl (lv_at hl 1 rfl) ?_
          refine g_geti X hW qj2 rfl _ ds_T 1 (by decide) mw_144 rfl (r0 := 4) (p0 := 1) rfl (v := (upd θ 1 (nI (len + 1))) 1) (by rw [qr_at]) d_Tp_append_22 ?_
          rw [upd_at]
          refine lv_iload_n X.x X.b d_Tp_append_25 rfl (lv_at hl 2 rfl) ?_
          refine lv_bipush (v := nI 8) X.x X.b d_Tp_append_26 (by decide) ?_
          refine lv_iload_n X.x X.b d_Tp_append_28 rfl (lv_at hl 0 rfl) ?_
          refine lv_imul X.x X.b d_Tp_append_29 ?_
          rw [show (nI 8) * (nI 1) = nI 8 from by decide]
          refine lv_iushr (v := (v.toUInt32 >>> ((nI 8).toUInt32 &&& Int32.toUInt32 31)).toInt32) X.x X.b d_Tp_append_30 rfl ?_
          refine lv_sipush (v := nI 255) X.x X.b d_Tp_append_31 (by decide) ?_
          refine lv_iand X.x X.b d_Tp_append_34 ?_
          refine g_ast X hW ds_tb (q_in (by omega) (by decide)) (p0 := len + 1) (q_tn (by omega) (by omega)) (ρ := upd σ len (((v.toUInt32 >>> ((nI 16).toUInt32 &&& Int32.toUInt32 31)).toInt32) &&& (nI 255))) (by rw [qr_ne (by omega), qr_at]) d_Tp_append_35 (fun H locs hW => ?_)
          rw [qr_in (by omega)] at hW
          refine lv_aload_n X.x X.b d_Tp_append_36 rfl (lv_at hl 1 rfl) ?_
          refine lv_dup X.x X.b d_Tp_append_37 rfl ?_
          refine g_geti X hW qj2 rfl _ ds_T 1 (by decide) mw_144 rfl (r0 := 4) (p0 := 1) rfl (v := (upd θ 1 (nI (len + 1))) 1) (by rw [qr_at]) d_Tp_append_38 ?_
          rw [upd_at]
          refine lv_iconst (v := nI 1) X.x X.b d_Tp_append_41 (by decide) ?_
          refine lv_iadd X.x X.b d_Tp_append_42 ?_
          rw [nI_add]
          refine g_puti X hW qj2 qp2 qn2 rfl _ ds_T 1 (by decide) mw_144 rfl rfl (r0 := 4) (p0 := 1) rfl rfl rfl (ρ := upd θ 1 (nI (len + 1))) (by rw [qr_at]) d_Tp_append_43 (fun H locs hW => ?_)
          rw [qr_qr] at hW
          rw [upd_upd] at hW
          refine lv_iinc (v := nI 0) (lv' := [(3, .int (nI 0)), (0, .ref (eA E 58)), (1, .int v), (2, .int (nI 3))]) X.x X.b d_Tp_append_46 hl (k := 0) rfl (by decide) (by decide) rfl (fun ls hl => ?_)
          refine lv_goto (tgt := 4) X.x X.b d_Tp_append_49 (by decide) ?_
          refine lv_iload_n X.x X.b d_Tp_append_4 rfl (lv_at hl 0 rfl) ?_
          refine lv_if_lt (tgt := 52) X.x X.b d_Tp_append_5 (by decide) (fun c5 => ?_) (fun c5 => ?_)
          · exact absurd c5 (by decide)
          · have c5 : ¬ 0 < 0 := fun z => c5 ((nI_ltI (a := 0) (b := 0) (by omega) (by omega)).mpr z)
            refine lv_aload_n X.x X.b d_Tp_append_8 rfl (lv_at hl 1 rfl) ?_
            refine g_geti X hW qj2 rfl _ ds_T 1 (by decide) mw_144 rfl (r0 := 4) (p0 := 1) rfl (v := (upd θ 1 (nI (len + 1 + 1))) 1) (by rw [qr_at]) d_Tp_append_9 ?_
            rw [upd_at]
            refine lv_bipush (v := nI 120) X.x X.b d_Tp_append_12 (by decide) ?_
            refine lv_icmp_ge (tgt := 52) X.x X.b d_Tp_append_14 (by decide) (fun c14 => ?_) (fun c14 => ?_)
            · have c14 : 120 ≤ (len + 1 + 1) := (nI_leI (a := 120) (b := (len + 1 + 1)) (by omega) (by omega)).mp c14
              omega
            · have c14 : ¬ 120 ≤ (len + 1 + 1) := fun z => c14 ((nI_leI (a := 120) (b := (len + 1 + 1)) (by omega) (by omega)).mpr z)
              refine lv_aload_n X.x X.b d_Tp_append_17 rfl (lv_at hl 1 rfl) ?_
              refine q_getr X hW qj2 rfl _ ds_T 0 (by decide) mw_143 rfl (c1 := 59) rfl d_Tp_append_18 ?_
              refine lv_aload_n X.x X.b d_Tp_append_21 rfl (lv_at hl 1 rfl) ?_
              refine g_geti X hW qj2 rfl _ ds_T 1 (by decide) mw_144 rfl (r0 := 4) (p0 := 1) rfl (v := (upd θ 1 (nI (len + 1 + 1))) 1) (by rw [qr_at]) d_Tp_append_22 ?_
              rw [upd_at]
              refine lv_iload_n X.x X.b d_Tp_append_25 rfl (lv_at hl 2 rfl) ?_
              refine lv_bipush (v := nI 8) X.x X.b d_Tp_append_26 (by decide) ?_
              refine lv_iload_n X.x X.b d_Tp_append_28 rfl (lv_at hl 0 rfl) ?_
              refine lv_imul X.x X.b d_Tp_append_29 ?_
              rw [show (nI 8) * (nI 0) = nI 0 from by decide]
              refine lv_iushr (v := (v.toUInt32 >>> ((nI 0).toUInt32 &&& Int32.toUInt32 31)).toInt32) X.x X.b d_Tp_append_30 rfl ?_
              refine lv_sipush (v := nI 255) X.x X.b d_Tp_append_31 (by decide) ?_
              refine lv_iand X.x X.b d_Tp_append_34 ?_
              refine g_ast X hW ds_tb (q_in (by omega) (by decide)) (p0 := len + 1 + 1) (q_tn (by omega) (by omega)) (ρ := upd (upd σ len (((v.toUInt32 >>> ((nI 16).toUInt32 &&& Int32.toUInt32 31)).toInt32) &&& (nI 255))) (len + 1) (((v.toUInt32 >>> ((nI 8).toUInt32 &&& Int32.toUInt32 31)).toInt32) &&& (nI 255))) (by rw [qr_ne (by omega), qr_at]) d_Tp_append_35 (fun H locs hW => ?_)
              rw [qr_in (by omega)] at hW
              refine lv_aload_n X.x X.b d_Tp_append_36 rfl (lv_at hl 1 rfl) ?_
              refine lv_dup X.x X.b d_Tp_append_37 rfl ?_
              refine g_geti X hW qj2 rfl _ ds_T 1 (by decide) mw_144 rfl (r0 := 4) (p0 := 1) rfl (v := (upd θ 1 (nI (len + 1 + 1))) 1) (by rw [qr_at]) d_Tp_append_38 ?_
              rw [upd_at]
              refine lv_iconst (v := nI 1) X.x X.b d_Tp_append_41 (by decide) ?_
              refine lv_iadd X.x X.b d_Tp_append_42 ?_
              rw [nI_add]
              refine g_puti X hW qj2 qp2 qn2 rfl _ ds_T 1 (by decide) mw_144 rfl rfl (r0 := 4) (p0 := 1) rfl rfl rfl (ρ := upd θ 1 (nI (len + 1 + 1))) (by rw [qr_at]) d_Tp_append_43 (fun H locs hW => ?_)
              rw [qr_qr] at hW
              rw [upd_upd] at hW
              refine lv_iinc (v := (-1)) (lv' := [(3, .int (-1)), (0, .ref (eA E 58)), (1, .int v), (2, .int (nI 3))]) X.x X.b d_Tp_append_46 hl (k := 0) rfl (by decide) (by decide) rfl (fun ls hl => ?_)
              refine lv_goto (tgt := 4) X.x X.b d_Tp_append_49 (by decide) ?_
              refine lv_iload_n X.x X.b d_Tp_append_4 rfl (lv_at hl 0 rfl) ?_
              refine lv_if_lt (tgt := 52) X.x X.b d_Tp_append_5 (by decide) (fun c5 => ?_) (fun c5 => ?_)
              · exact q_vret X hW rfl d_Tp_append_52
              · exact absurd (by decide) c5
set_option maxHeartbeats 1000000 in
set_option maxRecDepth 20000 in
theorem c_Tp_append_4 (l : Launch) (E : QE) (S : QM) (θ σ : Nat → Int32) (hθ : S 4 = θ) (hσ : S 5 = σ) (len : Nat) (hlen : θ 1 = nI len) (v : Int32) (hl : len + 4 ≤ 120) : qCV E l y_Tp_append prog_5_method_2_code 4 1 [.ref (eA E 58), .int v, .int (nI 4)] S (qr (qr S 5 (apS σ len v 4 0)) 4 (upd θ 1 (nI (len + 4)))) := by
  refine qCV_of (by decide) (Nat.le_of_ble_eq_true rfl) (fun p e s m below meth c ls X hW hl => ?_)
  have hl : lv_has ls 4 [(0, .ref (eA E 58)), (1, .int v), (2, .int (nI 4))] := hl
  refine lv_iload_n X.x X.b d_Tp_append_0 rfl (lv_at hl 2 rfl) ?_
  refine lv_iconst (v := nI 1) X.x X.b d_Tp_append_1 (by decide) ?_
  refine lv_isub X.x X.b d_Tp_append_2 ?_
  rw [show (nI 4) - (nI 1) = nI 3 from by decide]
  refine lv_istore_n (lv' := [(3, .int (nI 3)), (0, .ref (eA E 58)), (1, .int v), (2, .int (nI 4))]) X.x X.b d_Tp_append_3 rfl hl (by decide) rfl (fun ls hl => ?_)
  refine lv_iload_n X.x X.b d_Tp_append_4 rfl (lv_at hl 0 rfl) ?_
  refine lv_if_lt (tgt := 52) X.x X.b d_Tp_append_5 (by decide) (fun c5 => ?_) (fun c5 => ?_)
  · exact absurd c5 (by decide)
  · have c5 : ¬ 3 < 0 := fun z => c5 ((nI_ltI (a := 3) (b := 0) (by omega) (by omega)).mpr z)
    refine lv_aload_n X.x X.b d_Tp_append_8 rfl (lv_at hl 1 rfl) ?_
    refine g_geti X hW qj2 rfl _ ds_T 1 (by decide) mw_144 rfl (r0 := 4) (p0 := 1) rfl (v := θ 1) (by rw [hθ]) d_Tp_append_9 ?_
    rw [hlen]
    refine lv_bipush (v := nI 120) X.x X.b d_Tp_append_12 (by decide) ?_
    refine lv_icmp_ge (tgt := 52) X.x X.b d_Tp_append_14 (by decide) (fun c14 => ?_) (fun c14 => ?_)
    · have c14 : 120 ≤ len := (nI_leI (a := 120) (b := len) (by omega) (by omega)).mp c14
      omega
    · have c14 : ¬ 120 ≤ len := fun z => c14 ((nI_leI (a := 120) (b := len) (by omega) (by omega)).mpr z)
      refine lv_aload_n X.x X.b d_Tp_append_17 rfl (lv_at hl 1 rfl) ?_
      refine q_getr X hW qj2 rfl _ ds_T 0 (by decide) mw_143 rfl (c1 := 59) rfl d_Tp_append_18 ?_
      refine lv_aload_n X.x X.b d_Tp_append_21 rfl (lv_at hl 1 rfl) ?_
      refine g_geti X hW qj2 rfl _ ds_T 1 (by decide) mw_144 rfl (r0 := 4) (p0 := 1) rfl (v := θ 1) (by rw [hθ]) d_Tp_append_22 ?_
      rw [hlen]
      refine lv_iload_n X.x X.b d_Tp_append_25 rfl (lv_at hl 2 rfl) ?_
      refine lv_bipush (v := nI 8) X.x X.b d_Tp_append_26 (by decide) ?_
      refine lv_iload_n X.x X.b d_Tp_append_28 rfl (lv_at hl 0 rfl) ?_
      refine lv_imul X.x X.b d_Tp_append_29 ?_
      rw [show (nI 8) * (nI 3) = nI 24 from by decide]
      refine lv_iushr (v := (v.toUInt32 >>> ((nI 24).toUInt32 &&& Int32.toUInt32 31)).toInt32) X.x X.b d_Tp_append_30 rfl ?_
      refine lv_sipush (v := nI 255) X.x X.b d_Tp_append_31 (by decide) ?_
      refine lv_iand X.x X.b d_Tp_append_34 ?_
      refine g_ast X hW ds_tb (q_in (by omega) (by decide)) (p0 := len) (q_tn (by omega) (by omega)) (ρ := σ) (by rw [hσ]) d_Tp_append_35 (fun H locs hW => ?_)
      refine lv_aload_n X.x X.b d_Tp_append_36 rfl (lv_at hl 1 rfl) ?_
      refine lv_dup X.x X.b d_Tp_append_37 rfl ?_
      refine g_geti X hW qj2 rfl _ ds_T 1 (by decide) mw_144 rfl (r0 := 4) (p0 := 1) rfl (v := θ 1) (by rw [qr_ne (by omega), hθ]) d_Tp_append_38 ?_
      rw [hlen]
      refine lv_iconst (v := nI 1) X.x X.b d_Tp_append_41 (by decide) ?_
      refine lv_iadd X.x X.b d_Tp_append_42 ?_
      rw [nI_add]
      refine g_puti X hW qj2 qp2 qn2 rfl _ ds_T 1 (by decide) mw_144 rfl rfl (r0 := 4) (p0 := 1) rfl rfl rfl (ρ := θ) (by rw [qr_ne (by omega), hθ]) d_Tp_append_43 (fun H locs hW => ?_)
      refine lv_iinc (v := nI 2) (lv' := [(3, .int (nI 2)), (0, .ref (eA E 58)), (1, .int v), (2, .int (nI 4))]) X.x X.b d_Tp_append_46 hl (k := 0) rfl (by decide) (by decide) rfl (fun ls hl => ?_)
      refine lv_goto (tgt := 4) X.x X.b d_Tp_append_49 (by decide) ?_
      refine lv_iload_n X.x X.b d_Tp_append_4 rfl (lv_at hl 0 rfl) ?_
      refine lv_if_lt (tgt := 52) X.x X.b d_Tp_append_5 (by decide) (fun c5 => ?_) (fun c5 => ?_)
      · exact absurd c5 (by decide)
      · have c5 : ¬ 2 < 0 := fun z => c5 ((nI_ltI (a := 2) (b := 0) (by omega) (by omega)).mpr z)
        refine lv_aload_n X.x X.b d_Tp_append_8 rfl (lv_at hl 1 rfl) ?_
        refine g_geti X hW qj2 rfl _ ds_T 1 (by decide) mw_144 rfl (r0 := 4) (p0 := 1) rfl (v := (upd θ 1 (nI (len + 1))) 1) (by rw [qr_at]) d_Tp_append_9 ?_
        rw [upd_at]
        refine lv_bipush (v := nI 120) X.x X.b d_Tp_append_12 (by decide) ?_
        refine lv_icmp_ge (tgt := 52) X.x X.b d_Tp_append_14 (by decide) (fun c14 => ?_) (fun c14 => ?_)
        · have c14 : 120 ≤ (len + 1) := (nI_leI (a := 120) (b := (len + 1)) (by omega) (by omega)).mp c14
          omega
        · have c14 : ¬ 120 ≤ (len + 1) := fun z => c14 ((nI_leI (a := 120) (b := (len + 1)) (by omega) (by omega)).mpr z)
          refine lv_aload_n X.x X.b d_Tp_append_17 rfl (lv_at hl 1 rfl) ?_
          refine q_getr X hW qj2 rfl _ ds_T 0 (by decide) mw_143 rfl (c1 := 59) rfl d_Tp_append_18 ?_
          refine lv_aload_n X.x X.b d_Tp_append_21 rfl (lv_at hl 1 rfl) ?_
          refine g_geti X hW qj2 rfl _ ds_T 1 (by decide) mw_144 rfl (r0 := 4) (p0 := 1) rfl (v := (upd θ 1 (nI (len + 1))) 1) (by rw [qr_at]) d_Tp_append_22 ?_
          rw [upd_at]
          refine lv_iload_n X.x X.b d_Tp_append_25 rfl (lv_at hl 2 rfl) ?_
          refine lv_bipush (v := nI 8) X.x X.b d_Tp_append_26 (by decide) ?_
          refine lv_iload_n X.x X.b d_Tp_append_28 rfl (lv_at hl 0 rfl) ?_
          refine lv_imul X.x X.b d_Tp_append_29 ?_
          rw [show (nI 8) * (nI 2) = nI 16 from by decide]
          refine lv_iushr (v := (v.toUInt32 >>> ((nI 16).toUInt32 &&& Int32.toUInt32 31)).toInt32) X.x X.b d_Tp_append_30 rfl ?_
          refine lv_sipush (v := nI 255) X.x X.b d_Tp_append_31 (by decide) ?_
          refine lv_iand X.x X.b d_Tp_append_34 ?_
          refine g_ast X hW ds_tb (q_in (by omega) (by decide)) (p0 := len + 1) (q_tn (by omega) (by omega)) (ρ := upd σ len (((v.toUInt32 >>> ((nI 24).toUInt32 &&& Int32.toUInt32 31)).toInt32) &&& (nI 255))) (by rw [qr_ne (by omega), qr_at]) d_Tp_append_35 (fun H locs hW => ?_)
          rw [qr_in (by omega)] at hW
          refine lv_aload_n X.x X.b d_Tp_append_36 rfl (lv_at hl 1 rfl) ?_
          refine lv_dup X.x X.b d_Tp_append_37 rfl ?_
          refine g_geti X hW qj2 rfl _ ds_T 1 (by decide) mw_144 rfl (r0 := 4) (p0 := 1) rfl (v := (upd θ 1 (nI (len + 1))) 1) (by rw [qr_at]) d_Tp_append_38 ?_
          rw [upd_at]
          refine lv_iconst (v := nI 1) X.x X.b d_Tp_append_41 (by decide) ?_
          refine lv_iadd X.x X.b d_Tp_append_42 ?_
          rw [nI_add]
          refine g_puti X hW qj2 qp2 qn2 rfl _ ds_T 1 (by decide) mw_144 rfl rfl (r0 := 4) (p0 := 1) rfl rfl rfl (ρ := upd θ 1 (nI (len + 1))) (by rw [qr_at]) d_Tp_append_43 (fun H locs hW => ?_)
          rw [qr_qr] at hW
          rw [upd_upd] at hW
          refine lv_iinc (v := nI 1) (lv' := [(3, .int (nI 1)), (0, .ref (eA E 58)), (1, .int v), (2, .int (nI 4))]) X.x X.b d_Tp_append_46 hl (k := 0) rfl (by decide) (by decide) rfl (fun ls hl => ?_)
          refine lv_goto (tgt := 4) X.x X.b d_Tp_append_49 (by decide) ?_
          refine lv_iload_n X.x X.b d_Tp_append_4 rfl (lv_at hl 0 rfl) ?_
          refine lv_if_lt (tgt := 52) X.x X.b d_Tp_append_5 (by decide) (fun c5 => ?_) (fun c5 => ?_)
          · exact absurd c5 (by decide)
          · have c5 : ¬ 1 < 0 := fun z => c5 ((nI_ltI (a := 1) (b := 0) (by omega) (by omega)).mpr z)
            refine lv_aload_n X.x X.b d_Tp_append_8 rfl (lv_at hl 1 rfl) ?_
            refine g_geti X hW qj2 rfl _ ds_T 1 (by decide) mw_144 rfl (r0 := 4) (p0 := 1) rfl (v := (upd θ 1 (nI (len + 1 + 1))) 1) (by rw [qr_at]) d_Tp_append_9 ?_
            rw [upd_at]
            refine lv_bipush (v := nI 120) X.x X.b d_Tp_append_12 (by decide) ?_
            refine lv_icmp_ge (tgt := 52) X.x X.b d_Tp_append_14 (by decide) (fun c14 => ?_) (fun c14 => ?_)
            · have c14 : 120 ≤ (len + 1 + 1) := (nI_leI (a := 120) (b := (len + 1 + 1)) (by omega) (by omega)).mp c14
              omega
            · have c14 : ¬ 120 ≤ (len + 1 + 1) := fun z => c14 ((nI_leI (a := 120) (b := (len + 1 + 1)) (by omega) (by omega)).mpr z)
              refine lv_aload_n X.x X.b d_Tp_append_17 rfl (lv_at hl 1 rfl) ?_
              refine q_getr X hW qj2 rfl _ ds_T 0 (by decide) mw_143 rfl (c1 := 59) rfl d_Tp_append_18 ?_
              refine lv_aload_n X.x X.b d_Tp_append_21 rfl (lv_at hl 1 rfl) ?_
              refine g_geti X hW qj2 rfl _ ds_T 1 (by decide) mw_144 rfl (r0 := 4) (p0 := 1) rfl (v := (upd θ 1 (nI (len + 1 + 1))) 1) (by rw [qr_at]) d_Tp_append_22 ?_
              rw [upd_at]
              refine lv_iload_n X.x X.b d_Tp_append_25 rfl (lv_at hl 2 rfl) ?_
              refine lv_bipush (v := nI 8) X.x X.b d_Tp_append_26 (by decide) ?_
              refine lv_iload_n X.x X.b d_Tp_append_28 rfl (lv_at hl 0 rfl) ?_
              refine lv_imul X.x X.b d_Tp_append_29 ?_
              rw [show (nI 8) * (nI 1) = nI 8 from by decide]
              refine lv_iushr (v := (v.toUInt32 >>> ((nI 8).toUInt32 &&& Int32.toUInt32 31)).toInt32) X.x X.b d_Tp_append_30 rfl ?_
              refine lv_sipush (v := nI 255) X.x X.b d_Tp_append_31 (by decide) ?_
              refine lv_iand X.x X.b d_Tp_append_34 ?_
              refine g_ast X hW ds_tb (q_in (by omega) (by decide)) (p0 := len + 1 + 1) (q_tn (by omega) (by omega)) (ρ := upd (upd σ len (((v.toUInt32 >>> ((nI 24).toUInt32 &&& Int32.toUInt32 31)).toInt32) &&& (nI 255))) (len + 1) (((v.toUInt32 >>> ((nI 16).toUInt32 &&& Int32.toUInt32 31)).toInt32) &&& (nI 255))) (by rw [qr_ne (by omega), qr_at]) d_Tp_append_35 (fun H locs hW => ?_)
              rw [qr_in (by omega)] at hW
              refine lv_aload_n X.x X.b d_Tp_append_36 rfl (lv_at hl 1 rfl) ?_
              refine lv_dup X.x X.b d_Tp_append_37 rfl ?_
              refine g_geti X hW qj2 rfl _ ds_T 1 (by decide) mw_144 rfl (r0 := 4) (p0 := 1) rfl (v := (upd θ 1 (nI (len + 1 + 1))) 1) (by rw [qr_at]) d_Tp_append_38 ?_
              rw [upd_at]
              refine lv_iconst (v := nI 1) X.x X.b d_Tp_append_41 (by decide) ?_
              refine lv_iadd X.x X.b d_Tp_append_42 ?_
              rw [nI_add]
              refine g_puti X hW qj2 qp2 qn2 rfl _ ds_T 1 (by decide) mw_144 rfl rfl (r0 := 4) (p0 := 1) rfl rfl rfl (ρ := upd θ 1 (nI (len + 1 + 1))) (by rw [qr_at]) d_Tp_append_43 (fun H locs hW => ?_)
              rw [qr_qr] at hW
              rw [upd_upd] at hW
              refine lv_iinc (v := nI 0) (lv' := [(3, .int (nI 0)), (0, .ref (eA E 58)), (1, .int v), (2, .int (nI 4))]) X.x X.b d_Tp_append_46 hl (k := 0) rfl (by decide) (by decide) rfl (fun ls hl => ?_)
              refine lv_goto (tgt := 4) X.x X.b d_Tp_append_49 (by decide) ?_
              refine lv_iload_n X.x X.b d_Tp_append_4 rfl (lv_at hl 0 rfl) ?_
              refine lv_if_lt (tgt := 52) X.x X.b d_Tp_append_5 (by decide) (fun c5 => ?_) (fun c5 => ?_)
              · exact absurd c5 (by decide)
              · have c5 : ¬ 0 < 0 := fun z => c5 ((nI_ltI (a := 0) (b := 0) (by omega) (by omega)).mpr z)
                refine lv_aload_n X.x X.b d_Tp_append_8 rfl (lv_at hl 1 rfl) ?_
                refine g_geti X hW qj2 rfl _ ds_T 1 (by decide) mw_144 rfl (r0 := 4) (p0 := 1) rfl (v := (upd θ 1 (nI (len + 1 + 1 + 1))) 1) (by rw [qr_at]) d_Tp_append_9 ?_
                rw [upd_at]
                refine lv_bipush (v := nI 120) X.x X.b d_Tp_append_12 (by decide) ?_
                refine lv_icmp_ge (tgt := 52) X.x X.b d_Tp_append_14 (by decide) (fun c14 => ?_) (fun c14 => ?_)
                · have c14 : 120 ≤ (len + 1 + 1 + 1) := (nI_leI (a := 120) (b := (len + 1 + 1 + 1)) (by omega) (by omega)).mp c14
                  omega
                · have c14 : ¬ 120 ≤ (len + 1 + 1 + 1) := fun z => c14 ((nI_leI (a := 120) (b := (len + 1 + 1 + 1)) (by omega) (by omega)).mpr z)
                  refine lv_aload_n X.x X.b d_Tp_append_17 rfl (lv_at hl 1 rfl) ?_
                  refine q_getr X hW qj2 rfl _ ds_T 0 (by decide) mw_143 rfl (c1 := 59) rfl d_Tp_append_18 ?_
                  refine lv_aload_n X.x X.b d_Tp_append_21 rfl (lv_at hl 1 rfl) ?_
                  refine g_geti X hW qj2 rfl _ ds_T 1 (by decide) mw_144 rfl (r0 := 4) (p0 := 1) rfl (v := (upd θ 1 (nI (len + 1 + 1 + 1))) 1) (by rw [qr_at]) d_Tp_append_22 ?_
                  rw [upd_at]
                  refine lv_iload_n X.x X.b d_Tp_append_25 rfl (lv_at hl 2 rfl) ?_
                  refine lv_bipush (v := nI 8) X.x X.b d_Tp_append_26 (by decide) ?_
                  refine lv_iload_n X.x X.b d_Tp_append_28 rfl (lv_at hl 0 rfl) ?_
                  refine lv_imul X.x X.b d_Tp_append_29 ?_
                  rw [show (nI 8) * (nI 0) = nI 0 from by decide]
                  refine lv_iushr (v := (v.toUInt32 >>> ((nI 0).toUInt32 &&& Int32.toUInt32 31)).toInt32) X.x X.b d_Tp_append_30 rfl ?_
                  refine lv_sipush (v := nI 255) X.x X.b d_Tp_append_31 (by decide) ?_
                  refine lv_iand X.x X.b d_Tp_append_34 ?_
                  refine g_ast X hW ds_tb (q_in (by omega) (by decide)) (p0 := len + 1 + 1 + 1) (q_tn (by omega) (by omega)) (ρ := upd (upd (upd σ len (((v.toUInt32 >>> ((nI 24).toUInt32 &&& Int32.toUInt32 31)).toInt32) &&& (nI 255))) (len + 1) (((v.toUInt32 >>> ((nI 16).toUInt32 &&& Int32.toUInt32 31)).toInt32) &&& (nI 255))) (len + 1 + 1) (((v.toUInt32 >>> ((nI 8).toUInt32 &&& Int32.toUInt32 31)).toInt32) &&& (nI 255))) (by rw [qr_ne (by omega), qr_at]) d_Tp_append_35 (fun H locs hW => ?_)
                  rw [qr_in (by omega)] at hW
                  refine lv_aload_n X.x X.b d_Tp_append_36 rfl (lv_at hl 1 rfl) ?_
                  refine lv_dup X.x X.b d_Tp_append_37 rfl ?_
                  refine g_geti X hW qj2 rfl _ ds_T 1 (by decide) mw_144 rfl (r0 := 4) (p0 := 1) rfl (v := (upd θ 1 (nI (len + 1 + 1 + 1))) 1) (by rw [qr_at]) d_Tp_append_38 ?_
                  rw [upd_at]
                  refine lv_iconst (v := nI 1) X.x X.b d_Tp_append_41 (by decide) ?_
                  refine lv_iadd X.x X.b d_Tp_append_42 ?_
                  rw [nI_add]
                  refine g_puti X hW qj2 qp2 qn2 rfl _ ds_T 1 (by decide) mw_144 rfl rfl (r0 := 4) (p0 := 1) rfl rfl rfl (ρ := upd θ 1 (nI (len + 1 + 1 + 1))) (by rw [qr_at]) d_Tp_append_43 (fun H locs hW => ?_)
                  rw [qr_qr] at hW
                  rw [upd_upd] at hW
                  refine lv_iinc (v := (-1)) (lv' := [(3, .int (-1)), (0, .ref (eA E 58)), (1, .int v), (2, .int (nI 4))]) X.x X.b d_Tp_append_46 hl (k := 0) rfl (by decide) (by decide) rfl (fun ls hl => ?_)
                  refine lv_goto (tgt := 4) X.x X.b d_Tp_append_49 (by decide) ?_
                  refine lv_iload_n X.x X.b d_Tp_append_4 rfl (lv_at hl 0 rfl) ?_
                  refine lv_if_lt (tgt := 52) X.x X.b d_Tp_append_5 (by decide) (fun c5 => ?_) (fun c5 => ?_)
                  · exact q_vret X hW rfl d_Tp_append_52
                  · exact absurd (by decide) c5
set_option maxHeartbeats 1000000 in
set_option maxRecDepth 20000 in
theorem c_X_image (l : Launch) (E : QE) (S : QM) (ρ φ : Nat → Int32) (hρ : S 0 = ρ) (hφ : S 14 = φ) (hwf : WF ρ) (π κ : Nat → Int32) (hπ : S 3 = π) (hκ : S 1 = κ) : qCI E l y_X_image prog_1_method_39_code 1 .int 3 [.ref (eA E 0)] S (nI 1) (qr (qr S 1 (becS κ ρ)) 3 (upd π 3 (nI 1))) := by
  refine qCI_of (by decide) (Nat.le_of_ble_eq_true rfl) (fun p e s m below meth c ls X hW hl => ?_)
  have hl : lv_has ls 1 [(0, .ref (eA E 0))] := hl
  have htl := hwf.tl
  have hwl := hwf.wl
  have hdl := hwf.dl
  refine lv_aload_n X.x X.b d_X_image_0 rfl (lv_at hl 0 rfl) ?_
  refine q_getr X hW qj3 rfl _ ds_X 1 (by decide) mw_184 rfl (c1 := cB 1) rfl d_X_image_1 ?_
  refine lv_aload_n X.x X.b d_X_image_4 rfl (lv_at hl 0 rfl) ?_
  refine q_getr X hW qj3 rfl _ ds_X 0 (by decide) mw_183 rfl (c1 := cB 0) rfl d_X_image_5 ?_
  refine q_cvv X (c_Cm_become l E 1 0 (by decide) (by decide) (by decide) S κ ρ (by rw [hκ]) (by rw [hρ]) hwf) hW (q_recv X hW (ds_cm (k := 1) (by decide)) rfl) ok_Cm_become mw_371 ⟨by decide, by decide⟩ (As := [.ref (eA E (cB 0))]) rfl rfl (Nat.le_of_ble_eq_true rfl) (lv := [(0, .ref (eA E 0))]) hl ⟨Nat.le_refl 0, Nat.le_refl 0⟩ d_X_image_8 (fun H locs hW => ?_)
  have hW : qWH E (qr S 1 (becS κ ρ)) s H locs := hW
  refine lv_aload_n X.x X.b d_X_image_11 rfl (lv_at hl 0 rfl) ?_
  refine lv_iconst (v := nI 1) X.x X.b d_X_image_12 (by decide) ?_
  refine g_puti X hW qj3 qp3 qn3 rfl _ ds_X 3 (by decide) mw_186 rfl rfl (r0 := 3) (p0 := 3) rfl (by decide) (by decide) (ρ := π) (by rw [qr_ne (by omega), hπ]) d_X_image_13 (fun H locs hW => ?_)
  obtain ⟨r13, er13⟩ : ∃ z, z = upd π 3 (nI 1) := ⟨_, rfl⟩
  rw [← er13] at hW
  refine lv_iconst (v := nI 1) X.x X.b d_X_image_16 (by decide) ?_
  exact q_zret X rfl hW ⟨rfl, by rw [er13]⟩ d_X_image_17
set_option maxHeartbeats 1000000 in
set_option maxRecDepth 20000 in
theorem c_X_undo_g (l : Launch) (E : QE) (S : QM) (ρ φ : Nat → Int32) (hρ : S 0 = ρ) (hφ : S 14 = φ) (hwf : WF ρ) (π κ : Nat → Int32) (hπ : S 3 = π) (hκ : S 1 = κ) (hwk : WF κ) (hk : ¬ π 3 = 0) : qCI E l y_X_undo prog_1_method_40_code 1 .int 3 [.ref (eA E 0)] S (becS ρ κ 0) (qr S 0 (becS ρ κ)) := by
  refine qCI_of (by decide) (Nat.le_of_ble_eq_true rfl) (fun p e s m below meth c ls X hW hl => ?_)
  have hl : lv_has ls 1 [(0, .ref (eA E 0))] := hl
  have htl := hwf.tl
  have hwl := hwf.wl
  have hdl := hwf.dl
  refine lv_aload_n X.x X.b d_X_undo_0 rfl (lv_at hl 0 rfl) ?_
  refine g_geti X hW qj3 rfl _ ds_X 3 (by decide) mw_186 rfl (r0 := 3) (p0 := 3) rfl (v := π 3) (by rw [hπ]) d_X_undo_1 ?_
  refine lv_if_ne (tgt := 14) X.x X.b d_X_undo_4 (by decide) (fun c4 => ?_) (fun c4 => ?_)
  · refine lv_aload_n X.x X.b d_X_undo_14 rfl (lv_at hl 0 rfl) ?_
    refine q_getr X hW qj3 rfl _ ds_X 0 (by decide) mw_183 rfl (c1 := cB 0) rfl d_X_undo_15 ?_
    refine lv_aload_n X.x X.b d_X_undo_18 rfl (lv_at hl 0 rfl) ?_
    refine q_getr X hW qj3 rfl _ ds_X 1 (by decide) mw_184 rfl (c1 := cB 1) rfl d_X_undo_19 ?_
    refine q_cvv X (c_Cm_become l E 0 1 (by decide) (by decide) (by decide) S ρ κ (by rw [hρ]) (by rw [hκ]) hwk) hW (q_recv X hW (ds_cm (k := 0) (by decide)) rfl) ok_Cm_become mw_371 ⟨by decide, by decide⟩ (As := [.ref (eA E (cB 1))]) rfl rfl (Nat.le_of_ble_eq_true rfl) (lv := [(0, .ref (eA E 0))]) hl ⟨Nat.le_refl 0, Nat.le_refl 0⟩ d_X_undo_22 (fun H locs hW => ?_)
    have hW : qWH E (qr S 0 (becS ρ κ)) s H locs := hW
    refine lv_aload_n X.x X.b d_X_undo_25 rfl (lv_at hl 0 rfl) ?_
    refine q_getr X hW qj3 rfl _ ds_X 0 (by decide) mw_183 rfl (c1 := cB 0) rfl d_X_undo_26 ?_
    refine g_geti X hW qj0 rfl _ (ds_cm (k := 0) (by decide)) 6 (by decide) mw_116 rfl (r0 := 0) (p0 := 0) rfl (v := (becS ρ κ) 0) (by rw [qr_at]) d_X_undo_29 ?_
    exact q_zret X rfl hW ⟨rfl, rfl⟩ d_X_undo_32
  · exact absurd c4 hk
set_option maxHeartbeats 1000000 in
set_option maxRecDepth 20000 in
theorem c_X_undo_n (l : Launch) (E : QE) (S : QM) (ρ φ : Nat → Int32) (hρ : S 0 = ρ) (hφ : S 14 = φ) (hwf : WF ρ) (π κ : Nat → Int32) (hπ : S 3 = π) (hκ : S 1 = κ) (hk : π 3 = 0) : qCI E l y_X_undo prog_1_method_40_code 1 .int 3 [.ref (eA E 0)] S (-1000004) (qr S 14 (fnS φ 3)) := by
  refine qCI_of (by decide) (Nat.le_of_ble_eq_true rfl) (fun p e s m below meth c ls X hW hl => ?_)
  have hl : lv_has ls 1 [(0, .ref (eA E 0))] := hl
  have htl := hwf.tl
  have hwl := hwf.wl
  have hdl := hwf.dl
  refine lv_aload_n X.x X.b d_X_undo_0 rfl (lv_at hl 0 rfl) ?_
  refine g_geti X hW qj3 rfl _ ds_X 3 (by decide) mw_186 rfl (r0 := 3) (p0 := 3) rfl (v := π 3) (by rw [hπ]) d_X_undo_1 ?_
  refine lv_if_ne (tgt := 14) X.x X.b d_X_undo_4 (by decide) (fun c4 => ?_) (fun c4 => ?_)
  · exact absurd hk c4
  · refine lv_aload_n X.x X.b d_X_undo_7 rfl (lv_at hl 0 rfl) ?_
    refine lv_ldc (v := (-1000004)) X.x X.b X.ow (X.ts _ mw_390) d_X_undo_8 ?_
    refine q_cvi X (c_X_told_3 l E S φ (by rw [hφ])) hW (q_recv X hW ds_X rfl) ok_X_told mw_213 ⟨by decide, by decide⟩ (As := [.int (-1000004)]) rfl rfl (Nat.le_of_ble_eq_true rfl) (lv := [(0, .ref (eA E 0))]) hl ⟨Nat.le_refl 0, Nat.le_refl 0⟩ d_X_undo_10 (fun H locs hW => ?_)
    have hW : qWH E (qr S 14 (fnS φ 3)) s H locs := hW
    exact q_zret X rfl hW ⟨rfl, rfl⟩ d_X_undo_13
set_option maxHeartbeats 1000000 in
set_option maxRecDepth 20000 in
theorem c_X_tear_g (l : Launch) (E : QE) (S : QM) (ρ φ : Nat → Int32) (hρ : S 0 = ρ) (hφ : S 14 = φ) (hwf : WF ρ) (π κ : Nat → Int32) (hπ : S 3 = π) (hκ : S 1 = κ) (hk : ¬ π 3 = 0) : qCI E l y_X_tear prog_1_method_41_code 2 .int 1 [.ref (eA E 0)] S (nI 1) (qr S 3 (upd π 3 (nI 0))) := by
  refine qCI_of (by decide) (Nat.le_of_ble_eq_true rfl) (fun p e s m below meth c ls X hW hl => ?_)
  have hl : lv_has ls 2 [(0, .ref (eA E 0))] := hl
  have htl := hwf.tl
  have hwl := hwf.wl
  have hdl := hwf.dl
  refine lv_aload_n X.x X.b d_X_tear_0 rfl (lv_at hl 0 rfl) ?_
  refine g_geti X hW qj3 rfl _ ds_X 3 (by decide) mw_186 rfl (r0 := 3) (p0 := 3) rfl (v := π 3) (by rw [hπ]) d_X_tear_1 ?_
  refine lv_if_eq (tgt := 11) X.x X.b d_X_tear_4 (by decide) (fun c4 => ?_) (fun c4 => ?_)
  · exact absurd c4 hk
  · refine lv_iconst (v := nI 1) X.x X.b d_X_tear_7 (by decide) ?_
    refine lv_goto (tgt := 12) X.x X.b d_X_tear_8 (by decide) ?_
    refine lv_istore_n (lv' := [(1, .int (nI 1)), (0, .ref (eA E 0))]) X.x X.b d_X_tear_12 rfl hl (by decide) rfl (fun ls hl => ?_)
    refine lv_aload_n X.x X.b d_X_tear_13 rfl (lv_at hl 1 rfl) ?_
    refine lv_iconst (v := nI 0) X.x X.b d_X_tear_14 (by decide) ?_
    refine g_puti X hW qj3 qp3 qn3 rfl _ ds_X 3 (by decide) mw_186 rfl rfl (r0 := 3) (p0 := 3) rfl (by decide) (by decide) (ρ := π) (by rw [hπ]) d_X_tear_15 (fun H locs hW => ?_)
    obtain ⟨r15, er15⟩ : ∃ z, z = upd π 3 (nI 0) := ⟨_, rfl⟩
    rw [← er15] at hW
    refine lv_iload_n X.x X.b d_X_tear_18 rfl (lv_at hl 0 rfl) ?_
    exact q_zret X rfl hW ⟨rfl, by rw [er15]⟩ d_X_tear_19
set_option maxHeartbeats 1000000 in
set_option maxRecDepth 20000 in
theorem c_X_tear_n (l : Launch) (E : QE) (S : QM) (ρ φ : Nat → Int32) (hρ : S 0 = ρ) (hφ : S 14 = φ) (hwf : WF ρ) (π κ : Nat → Int32) (hπ : S 3 = π) (hκ : S 1 = κ) (hk : π 3 = 0) : qCI E l y_X_tear prog_1_method_41_code 2 .int 1 [.ref (eA E 0)] S (nI 0) (qr S 3 (upd π 3 (nI 0))) := by
  refine qCI_of (by decide) (Nat.le_of_ble_eq_true rfl) (fun p e s m below meth c ls X hW hl => ?_)
  have hl : lv_has ls 2 [(0, .ref (eA E 0))] := hl
  have htl := hwf.tl
  have hwl := hwf.wl
  have hdl := hwf.dl
  refine lv_aload_n X.x X.b d_X_tear_0 rfl (lv_at hl 0 rfl) ?_
  refine g_geti X hW qj3 rfl _ ds_X 3 (by decide) mw_186 rfl (r0 := 3) (p0 := 3) rfl (v := π 3) (by rw [hπ]) d_X_tear_1 ?_
  refine lv_if_eq (tgt := 11) X.x X.b d_X_tear_4 (by decide) (fun c4 => ?_) (fun c4 => ?_)
  · refine lv_iconst (v := nI 0) X.x X.b d_X_tear_11 (by decide) ?_
    refine lv_istore_n (lv' := [(1, .int (nI 0)), (0, .ref (eA E 0))]) X.x X.b d_X_tear_12 rfl hl (by decide) rfl (fun ls hl => ?_)
    refine lv_aload_n X.x X.b d_X_tear_13 rfl (lv_at hl 1 rfl) ?_
    refine lv_iconst (v := nI 0) X.x X.b d_X_tear_14 (by decide) ?_
    refine g_puti X hW qj3 qp3 qn3 rfl _ ds_X 3 (by decide) mw_186 rfl rfl (r0 := 3) (p0 := 3) rfl (by decide) (by decide) (ρ := π) (by rw [hπ]) d_X_tear_15 (fun H locs hW => ?_)
    obtain ⟨r15, er15⟩ : ∃ z, z = upd π 3 (nI 0) := ⟨_, rfl⟩
    rw [← er15] at hW
    refine lv_iload_n X.x X.b d_X_tear_18 rfl (lv_at hl 0 rfl) ?_
    exact q_zret X rfl hW ⟨rfl, by rw [er15]⟩ d_X_tear_19
  · exact absurd hk c4
set_option maxHeartbeats 1000000 in
set_option maxRecDepth 20000 in
theorem c_X_count_0 (l : Launch) (E : QE) (S : QM) (ρ φ : Nat → Int32) (hρ : S 0 = ρ) (hφ : S 14 = φ) (hwf : WF ρ) (θ : Nat → Int32) (hθ : S 4 = θ) : qCI E l y_X_count prog_1_method_42_code 2 .int 5 [.ref (eA E 0), .int (nI 0)] S (ρ 0) S := by
  refine qCI_of (by decide) (Nat.le_of_ble_eq_true rfl) (fun p e s m below meth c ls X hW hl => ?_)
  have hl : lv_has ls 2 [(0, .ref (eA E 0)), (1, .int (nI 0))] := hl
  have htl := hwf.tl
  have hwl := hwf.wl
  have hdl := hwf.dl
  refine lv_iload_n X.x X.b d_X_count_0 rfl (lv_at hl 1 rfl) ?_
  refine lv_tableIn (tgt := 48) (off := 47) X.x X.b d_X_count_1 (by decide) (by decide) (by decide) (by decide) ?_
  refine lv_aload_n X.x X.b d_X_count_48 rfl (lv_at hl 0 rfl) ?_
  refine q_getr X hW qj3 rfl _ ds_X 0 (by decide) mw_183 rfl (c1 := cB 0) rfl d_X_count_49 ?_
  refine g_geti X hW qj0 rfl _ (ds_cm (k := 0) (by decide)) 6 (by decide) mw_116 rfl (r0 := 0) (p0 := 0) rfl (v := ρ 0) (by rw [hρ]) d_X_count_52 ?_
  exact q_zret X rfl hW ⟨rfl, rfl⟩ d_X_count_55
set_option maxHeartbeats 1000000 in
set_option maxRecDepth 20000 in
theorem c_X_count_1 (l : Launch) (E : QE) (S : QM) (ρ φ : Nat → Int32) (hρ : S 0 = ρ) (hφ : S 14 = φ) (hwf : WF ρ) (θ : Nat → Int32) (hθ : S 4 = θ) : qCI E l y_X_count prog_1_method_42_code 2 .int 5 [.ref (eA E 0), .int (nI 1)] S (ρ 1) S := by
  refine qCI_of (by decide) (Nat.le_of_ble_eq_true rfl) (fun p e s m below meth c ls X hW hl => ?_)
  have hl : lv_has ls 2 [(0, .ref (eA E 0)), (1, .int (nI 1))] := hl
  have htl := hwf.tl
  have hwl := hwf.wl
  have hdl := hwf.dl
  refine lv_iload_n X.x X.b d_X_count_0 rfl (lv_at hl 1 rfl) ?_
  refine lv_tableIn (tgt := 56) (off := 55) X.x X.b d_X_count_1 (by decide) (by decide) (by decide) (by decide) ?_
  refine lv_aload_n X.x X.b d_X_count_56 rfl (lv_at hl 0 rfl) ?_
  refine q_getr X hW qj3 rfl _ ds_X 0 (by decide) mw_183 rfl (c1 := cB 0) rfl d_X_count_57 ?_
  refine g_geti X hW qj0 rfl _ (ds_cm (k := 0) (by decide)) 4 (by decide) mw_110 rfl (r0 := 0) (p0 := 1) rfl (v := ρ 1) (by rw [hρ]) d_X_count_60 ?_
  exact q_zret X rfl hW ⟨rfl, rfl⟩ d_X_count_63
set_option maxHeartbeats 1000000 in
set_option maxRecDepth 20000 in
theorem c_X_count_2 (l : Launch) (E : QE) (S : QM) (ρ φ : Nat → Int32) (hρ : S 0 = ρ) (hφ : S 14 = φ) (hwf : WF ρ) (θ : Nat → Int32) (hθ : S 4 = θ) : qCI E l y_X_count prog_1_method_42_code 2 .int 5 [.ref (eA E 0), .int (nI 2)] S (ρ 3) S := by
  refine qCI_of (by decide) (Nat.le_of_ble_eq_true rfl) (fun p e s m below meth c ls X hW hl => ?_)
  have hl : lv_has ls 2 [(0, .ref (eA E 0)), (1, .int (nI 2))] := hl
  have htl := hwf.tl
  have hwl := hwf.wl
  have hdl := hwf.dl
  refine lv_iload_n X.x X.b d_X_count_0 rfl (lv_at hl 1 rfl) ?_
  refine lv_tableIn (tgt := 64) (off := 63) X.x X.b d_X_count_1 (by decide) (by decide) (by decide) (by decide) ?_
  refine lv_aload_n X.x X.b d_X_count_64 rfl (lv_at hl 0 rfl) ?_
  refine q_getr X hW qj3 rfl _ ds_X 0 (by decide) mw_183 rfl (c1 := cB 0) rfl d_X_count_65 ?_
  refine g_geti X hW qj0 rfl _ (ds_cm (k := 0) (by decide)) 5 (by decide) mw_113 rfl (r0 := 0) (p0 := 3) rfl (v := ρ 3) (by rw [hρ]) d_X_count_68 ?_
  exact q_zret X rfl hW ⟨rfl, rfl⟩ d_X_count_71
set_option maxHeartbeats 1000000 in
set_option maxRecDepth 20000 in
theorem c_X_count_3 (l : Launch) (E : QE) (S : QM) (ρ φ : Nat → Int32) (hρ : S 0 = ρ) (hφ : S 14 = φ) (hwf : WF ρ) (θ : Nat → Int32) (hθ : S 4 = θ) : qCI E l y_X_count prog_1_method_42_code 2 .int 5 [.ref (eA E 0), .int (nI 3)] S (sumS ρ 4) S := by
  refine qCI_of (by decide) (Nat.le_of_ble_eq_true rfl) (fun p e s m below meth c ls X hW hl => ?_)
  have hl : lv_has ls 2 [(0, .ref (eA E 0)), (1, .int (nI 3))] := hl
  have htl := hwf.tl
  have hwl := hwf.wl
  have hdl := hwf.dl
  refine lv_iload_n X.x X.b d_X_count_0 rfl (lv_at hl 1 rfl) ?_
  refine lv_tableIn (tgt := 72) (off := 71) X.x X.b d_X_count_1 (by decide) (by decide) (by decide) (by decide) ?_
  refine lv_aload_n X.x X.b d_X_count_72 rfl (lv_at hl 0 rfl) ?_
  refine q_getr X hW qj3 rfl _ ds_X 0 (by decide) mw_183 rfl (c1 := cB 0) rfl d_X_count_73 ?_
  refine lv_iconst (v := nI 4) X.x X.b d_X_count_76 (by decide) ?_
  refine q_cvi X (c_Cm_sumOf l E 0 (by decide) S ρ (by rw [hρ]) hwf 4 (by omega)) hW (q_recv X hW (ds_cm (k := 0) (by decide)) rfl) ok_Cm_sumOf mw_338 ⟨by decide, by decide⟩ (As := [.int (nI 4)]) rfl rfl (Nat.le_of_ble_eq_true rfl) (lv := [(0, .ref (eA E 0)), (1, .int (nI 3))]) hl ⟨Nat.le_refl 0, Nat.le_refl 0⟩ d_X_count_77 (fun H locs hW => ?_)
  exact q_zret X rfl hW ⟨rfl, rfl⟩ d_X_count_80
set_option maxHeartbeats 1000000 in
set_option maxRecDepth 20000 in
theorem c_X_count_4 (l : Launch) (E : QE) (S : QM) (ρ φ : Nat → Int32) (hρ : S 0 = ρ) (hφ : S 14 = φ) (hwf : WF ρ) (θ : Nat → Int32) (hθ : S 4 = θ) : qCI E l y_X_count prog_1_method_42_code 2 .int 5 [.ref (eA E 0), .int (nI 4)] S (sumS ρ 5) S := by
  refine qCI_of (by decide) (Nat.le_of_ble_eq_true rfl) (fun p e s m below meth c ls X hW hl => ?_)
  have hl : lv_has ls 2 [(0, .ref (eA E 0)), (1, .int (nI 4))] := hl
  have htl := hwf.tl
  have hwl := hwf.wl
  have hdl := hwf.dl
  refine lv_iload_n X.x X.b d_X_count_0 rfl (lv_at hl 1 rfl) ?_
  refine lv_tableIn (tgt := 81) (off := 80) X.x X.b d_X_count_1 (by decide) (by decide) (by decide) (by decide) ?_
  refine lv_aload_n X.x X.b d_X_count_81 rfl (lv_at hl 0 rfl) ?_
  refine q_getr X hW qj3 rfl _ ds_X 0 (by decide) mw_183 rfl (c1 := cB 0) rfl d_X_count_82 ?_
  refine lv_iconst (v := nI 5) X.x X.b d_X_count_85 (by decide) ?_
  refine q_cvi X (c_Cm_sumOf l E 0 (by decide) S ρ (by rw [hρ]) hwf 5 (by omega)) hW (q_recv X hW (ds_cm (k := 0) (by decide)) rfl) ok_Cm_sumOf mw_338 ⟨by decide, by decide⟩ (As := [.int (nI 5)]) rfl rfl (Nat.le_of_ble_eq_true rfl) (lv := [(0, .ref (eA E 0)), (1, .int (nI 4))]) hl ⟨Nat.le_refl 0, Nat.le_refl 0⟩ d_X_count_86 (fun H locs hW => ?_)
  exact q_zret X rfl hW ⟨rfl, rfl⟩ d_X_count_89
set_option maxHeartbeats 1000000 in
set_option maxRecDepth 20000 in
theorem c_X_count_5 (l : Launch) (E : QE) (S : QM) (ρ φ : Nat → Int32) (hρ : S 0 = ρ) (hφ : S 14 = φ) (hwf : WF ρ) (θ : Nat → Int32) (hθ : S 4 = θ) : qCI E l y_X_count prog_1_method_42_code 2 .int 5 [.ref (eA E 0), .int (nI 5)] S (θ 1) S := by
  refine qCI_of (by decide) (Nat.le_of_ble_eq_true rfl) (fun p e s m below meth c ls X hW hl => ?_)
  have hl : lv_has ls 2 [(0, .ref (eA E 0)), (1, .int (nI 5))] := hl
  have htl := hwf.tl
  have hwl := hwf.wl
  have hdl := hwf.dl
  refine lv_iload_n X.x X.b d_X_count_0 rfl (lv_at hl 1 rfl) ?_
  refine lv_tableIn (tgt := 90) (off := 89) X.x X.b d_X_count_1 (by decide) (by decide) (by decide) (by decide) ?_
  refine lv_aload_n X.x X.b d_X_count_90 rfl (lv_at hl 0 rfl) ?_
  refine q_getr X hW qj3 rfl _ ds_X 4 (by decide) mw_187 rfl (c1 := 58) rfl d_X_count_91 ?_
  refine g_geti X hW qj2 rfl _ ds_T 1 (by decide) mw_145 rfl (r0 := 4) (p0 := 1) rfl (v := θ 1) (by rw [hθ]) d_X_count_94 ?_
  exact q_zret X rfl hW ⟨rfl, rfl⟩ d_X_count_97
set_option maxHeartbeats 1000000 in
set_option maxRecDepth 20000 in
theorem c_X_count_6 (l : Launch) (E : QE) (S : QM) (ρ φ : Nat → Int32) (hρ : S 0 = ρ) (hφ : S 14 = φ) (hwf : WF ρ) (θ : Nat → Int32) (hθ : S 4 = θ) : qCI E l y_X_count prog_1_method_42_code 2 .int 5 [.ref (eA E 0), .int (nI 6)] S (ρ 2) S := by
  refine qCI_of (by decide) (Nat.le_of_ble_eq_true rfl) (fun p e s m below meth c ls X hW hl => ?_)
  have hl : lv_has ls 2 [(0, .ref (eA E 0)), (1, .int (nI 6))] := hl
  have htl := hwf.tl
  have hwl := hwf.wl
  have hdl := hwf.dl
  refine lv_iload_n X.x X.b d_X_count_0 rfl (lv_at hl 1 rfl) ?_
  refine lv_tableIn (tgt := 98) (off := 97) X.x X.b d_X_count_1 (by decide) (by decide) (by decide) (by decide) ?_
  refine lv_aload_n X.x X.b d_X_count_98 rfl (lv_at hl 0 rfl) ?_
  refine q_getr X hW qj3 rfl _ ds_X 0 (by decide) mw_183 rfl (c1 := cB 0) rfl d_X_count_99 ?_
  refine g_geti X hW qj0 rfl _ (ds_cm (k := 0) (by decide)) 7 (by decide) mw_118 rfl (r0 := 0) (p0 := 2) rfl (v := ρ 2) (by rw [hρ]) d_X_count_102 ?_
  exact q_zret X rfl hW ⟨rfl, rfl⟩ d_X_count_105
set_option maxHeartbeats 1000000 in
set_option maxRecDepth 20000 in
theorem c_X_count_7 (l : Launch) (E : QE) (S : QM) (ρ φ : Nat → Int32) (hρ : S 0 = ρ) (hφ : S 14 = φ) (hwf : WF ρ) (θ : Nat → Int32) (hθ : S 4 = θ) : qCI E l y_X_count prog_1_method_42_code 2 .int 5 [.ref (eA E 0), .int (nI 7)] S (hldS ρ) S := by
  refine qCI_of (by decide) (Nat.le_of_ble_eq_true rfl) (fun p e s m below meth c ls X hW hl => ?_)
  have hl : lv_has ls 2 [(0, .ref (eA E 0)), (1, .int (nI 7))] := hl
  have htl := hwf.tl
  have hwl := hwf.wl
  have hdl := hwf.dl
  refine lv_iload_n X.x X.b d_X_count_0 rfl (lv_at hl 1 rfl) ?_
  refine lv_tableIn (tgt := 106) (off := 105) X.x X.b d_X_count_1 (by decide) (by decide) (by decide) (by decide) ?_
  refine lv_aload_n X.x X.b d_X_count_106 rfl (lv_at hl 0 rfl) ?_
  refine q_getr X hW qj3 rfl _ ds_X 0 (by decide) mw_183 rfl (c1 := cB 0) rfl d_X_count_107 ?_
  refine q_cvi X (c_Cm_heldSpots l E 0 (by decide) S ρ (by rw [hρ]) hwf ) hW (q_recv X hW (ds_cm (k := 0) (by decide)) rfl) ok_Cm_heldSpots mw_663 ⟨by decide, by decide⟩ (As := []) rfl rfl (Nat.le_of_ble_eq_true rfl) (lv := [(0, .ref (eA E 0)), (1, .int (nI 7))]) hl ⟨Nat.le_refl 0, Nat.le_refl 0⟩ d_X_count_110 (fun H locs hW => ?_)
  exact q_zret X rfl hW ⟨rfl, rfl⟩ d_X_count_113
set_option maxHeartbeats 1000000 in
set_option maxRecDepth 20000 in
theorem c_X_count_b (l : Launch) (E : QE) (S : QM) (ρ φ : Nat → Int32) (hρ : S 0 = ρ) (hφ : S 14 = φ) (hwf : WF ρ) (x : Int32) (h : ¬ inR 0 7 x) : qCI E l y_X_count prog_1_method_42_code 2 .int 5 [.ref (eA E 0), .int x] S (-1000001) (qr S 14 (fnS φ 0)) := by
  refine qCI_of (by decide) (Nat.le_of_ble_eq_true rfl) (fun p e s m below meth c ls X hW hl => ?_)
  have hl : lv_has ls 2 [(0, .ref (eA E 0)), (1, .int x)] := hl
  have htl := hwf.tl
  have hwl := hwf.wl
  have hdl := hwf.dl
  refine lv_iload_n X.x X.b d_X_count_0 rfl (lv_at hl 1 rfl) ?_
  by_cases c1_0 : x = nI 0
  · exact absurd (show inR 0 7 x by rw [c1_0]; exact (inR_i (by omega) (by decide)).mpr (by omega)) h
  by_cases c1_1 : x = nI 1
  · exact absurd (show inR 0 7 x by rw [c1_1]; exact (inR_i (by omega) (by decide)).mpr (by omega)) h
  by_cases c1_2 : x = nI 2
  · exact absurd (show inR 0 7 x by rw [c1_2]; exact (inR_i (by omega) (by decide)).mpr (by omega)) h
  by_cases c1_3 : x = nI 3
  · exact absurd (show inR 0 7 x by rw [c1_3]; exact (inR_i (by omega) (by decide)).mpr (by omega)) h
  by_cases c1_4 : x = nI 4
  · exact absurd (show inR 0 7 x by rw [c1_4]; exact (inR_i (by omega) (by decide)).mpr (by omega)) h
  by_cases c1_5 : x = nI 5
  · exact absurd (show inR 0 7 x by rw [c1_5]; exact (inR_i (by omega) (by decide)).mpr (by omega)) h
  by_cases c1_6 : x = nI 6
  · exact absurd (show inR 0 7 x by rw [c1_6]; exact (inR_i (by omega) (by decide)).mpr (by omega)) h
  by_cases c1_7 : x = nI 7
  · exact absurd (show inR 0 7 x by rw [c1_7]; exact (inR_i (by omega) (by decide)).mpr (by omega)) h
  refine lv_tableOut (tgt := 114) X.x X.b d_X_count_1 (by have qc1_0 := lv_neT c1_0 (by decide : Int32.toInt (nI 0) = 0); have qc1_1 := lv_neT c1_1 (by decide : Int32.toInt (nI 1) = 1); have qc1_2 := lv_neT c1_2 (by decide : Int32.toInt (nI 2) = 2); have qc1_3 := lv_neT c1_3 (by decide : Int32.toInt (nI 3) = 3); have qc1_4 := lv_neT c1_4 (by decide : Int32.toInt (nI 4) = 4); have qc1_5 := lv_neT c1_5 (by decide : Int32.toInt (nI 5) = 5); have qc1_6 := lv_neT c1_6 (by decide : Int32.toInt (nI 6) = 6); have qc1_7 := lv_neT c1_7 (by decide : Int32.toInt (nI 7) = 7); omega) (by decide) ?_
  refine lv_aload_n X.x X.b d_X_count_114 rfl (lv_at hl 0 rfl) ?_
  refine lv_ldc (v := (-1000001)) X.x X.b X.ow (X.ts _ mw_212) d_X_count_115 ?_
  refine q_cvi X (c_X_told_0 l E S φ (by rw [hφ])) hW (q_recv X hW ds_X rfl) ok_X_told mw_213 ⟨by decide, by decide⟩ (As := [.int (-1000001)]) rfl rfl (Nat.le_of_ble_eq_true rfl) (lv := [(0, .ref (eA E 0)), (1, .int x)]) hl ⟨Nat.le_refl 0, Nat.le_refl 0⟩ d_X_count_117 (fun H locs hW => ?_)
  have hW : qWH E (qr S 14 (fnS φ 0)) s H locs := hW
  exact q_zret X rfl hW ⟨rfl, rfl⟩ d_X_count_120
set_option maxHeartbeats 1000000 in
set_option maxRecDepth 20000 in
theorem c_X_status_g (l : Launch) (E : QE) (S : QM) (ρ φ : Nat → Int32) (hρ : S 0 = ρ) (hφ : S 14 = φ) (hwf : WF ρ) (i : Nat) (hi : i ≤ 6) : qCI E l y_X_status prog_1_method_43_code 4 .int 3 [.ref (eA E 0), .int (nI i)] S (φ i) S := by
  refine qCI_of (by decide) (Nat.le_of_ble_eq_true rfl) (fun p e s m below meth c ls X hW hl => ?_)
  have hl : lv_has ls 4 [(0, .ref (eA E 0)), (1, .int (nI i))] := hl
  have htl := hwf.tl
  have hwl := hwf.wl
  have hdl := hwf.dl
  refine lv_iload_n X.x X.b d_X_status_0 rfl (lv_at hl 1 rfl) ?_
  refine lv_iconst (v := (-1)) X.x X.b d_X_status_1 (by decide) ?_
  refine lv_bipush (v := nI 6) X.x X.b d_X_status_2 (by decide) ?_
  refine q_csi X (c_X_within l E S (nI i) (-1) (nI 6)) hW ok_X_within mw_209 ⟨by decide, by decide⟩ (As := [.int (nI i), .int (-1), .int (nI 6)]) rfl rfl (Nat.le_of_ble_eq_true rfl) (lv := [(0, .ref (eA E 0)), (1, .int (nI i))]) hl ⟨Nat.le_refl 0, Nat.le_refl 0⟩ d_X_status_4 (fun H locs hW => ?_)
  refine lv_if_ne (tgt := 17) X.x X.b d_X_status_7 (by decide) (fun c7 => ?_) (fun c7 => ?_)
  · have c7 := b2i_n c7
    refine lv_iload_n X.x X.b d_X_status_17 rfl (lv_at hl 1 rfl) ?_
    refine lv_if_lt (tgt := 28) X.x X.b d_X_status_18 (by decide) (fun c18 => ?_) (fun c18 => ?_)
    · have c18 : i < 0 := (nI_ltI (a := i) (b := 0) (by omega) (by omega)).mp c18
      omega
    · have c18 : ¬ i < 0 := fun z => c18 ((nI_ltI (a := i) (b := 0) (by omega) (by omega)).mpr z)
      refine lv_aload_n X.x X.b d_X_status_21 rfl (lv_at hl 0 rfl) ?_
      refine q_getr X hW qj3 rfl _ ds_X 6 (by decide) mw_189 rfl (c1 := 69) rfl d_X_status_22 ?_
      refine lv_iload_n X.x X.b d_X_status_25 rfl (lv_at hl 1 rfl) ?_
      refine g_ald X hW ds_f (q_in (by omega) (by decide)) (p0 := i) (q_tn (by omega) (by omega)) (v := φ i) (by rw [hφ]) d_X_status_26 ?_
      exact q_zret X rfl hW ⟨rfl, rfl⟩ d_X_status_27
  · have c7 := b2i_e c7
    exact absurd ⟨ile_m1 (by omega), (nI_leI (by omega) (by omega)).mpr (by omega)⟩ c7
set_option maxHeartbeats 1000000 in
set_option maxRecDepth 20000 in
theorem c_X_status_m (l : Launch) (E : QE) (S : QM) (ρ φ : Nat → Int32) (hρ : S 0 = ρ) (hφ : S 14 = φ) (hwf : WF ρ) : qCI E l y_X_status prog_1_method_43_code 4 .int 3 [.ref (eA E 0), .int (-1)] S (stsS φ) S := by
  refine qCI_of (by decide) (Nat.le_of_ble_eq_true rfl) (fun p e s m below meth c ls X hW hl => ?_)
  have hl : lv_has ls 4 [(0, .ref (eA E 0)), (1, .int (-1))] := hl
  have htl := hwf.tl
  have hwl := hwf.wl
  have hdl := hwf.dl
  refine lv_iload_n X.x X.b d_X_status_0 rfl (lv_at hl 1 rfl) ?_
  refine lv_iconst (v := (-1)) X.x X.b d_X_status_1 (by decide) ?_
  refine lv_bipush (v := nI 6) X.x X.b d_X_status_2 (by decide) ?_
  refine q_csi X (c_X_within l E S (-1) (-1) (nI 6)) hW ok_X_within mw_209 ⟨by decide, by decide⟩ (As := [.int (-1), .int (-1), .int (nI 6)]) rfl rfl (Nat.le_of_ble_eq_true rfl) (lv := [(0, .ref (eA E 0)), (1, .int (-1))]) hl ⟨Nat.le_refl 0, Nat.le_refl 0⟩ d_X_status_4 (fun H locs hW => ?_)
  refine lv_if_ne (tgt := 17) X.x X.b d_X_status_7 (by decide) (fun c7 => ?_) (fun c7 => ?_)
  · have c7 := b2i_n c7
    refine lv_iload_n X.x X.b d_X_status_17 rfl (lv_at hl 1 rfl) ?_
    refine lv_if_lt (tgt := 28) X.x X.b d_X_status_18 (by decide) (fun c18 => ?_) (fun c18 => ?_)
    · refine lv_iconst (v := nI 0) X.x X.b d_X_status_28 (by decide) ?_
      refine lv_istore_n (lv' := [(2, .int (nI 0)), (0, .ref (eA E 0)), (1, .int (-1))]) X.x X.b d_X_status_29 rfl hl (by decide) rfl (fun ls hl => ?_)
      refine lv_iconst (v := nI 0) X.x X.b d_X_status_30 (by decide) ?_
      refine lv_istore_n (lv' := [(3, .int (nI 0)), (2, .int (nI 0)), (0, .ref (eA E 0)), (1, .int (-1))]) X.x X.b d_X_status_31 rfl hl (by decide) rfl (fun ls hl => ?_)
      have loop32 : ∀ (fu32 : Nat) (j : Nat) (a : Int32), j ≤ 7 → a = fo (fun i a => a + φ i) j (nI 0) → 7 - j < fu32 → ∀ (H : Heap) (locs : List Loc) (ls : Array Slot), qWH E S s H locs → lv_has ls 4 [(3, .int (nI j)), (2, .int a), (0, .ref (eA E 0)), (1, .int (-1))] → W p l e (qRm 3) s m ([.ref (eA E 0), .int (-1)] : List Value).toArray below meth c H locs 0 0 (MQ below (qQi E (stsS φ) S s.heap.size) ([.ref (eA E 0), .int (-1)] : List Value).toArray s 0 0 (qAA E s.heap.size)) (F0 m 32 ls []) := by
        intro fu32
        induction fu32 with
        | zero =>
          intro j a hj ha hfu
          exact absurd hfu (Nat.not_lt_zero _)
        | succ fu32 ih32 =>
          intro j a hj ha hfu H locs ls hW hl
          refine lv_iload_n X.x X.b d_X_status_32 rfl (lv_at hl 0 rfl) ?_
          refine lv_bipush (v := nI 7) X.x X.b d_X_status_33 (by decide) ?_
          refine lv_icmp_ge (tgt := 53) X.x X.b d_X_status_35 (by decide) (fun c35 => ?_) (fun c35 => ?_)
          · have c35 : 7 ≤ j := (nI_leI (a := 7) (b := j) (by omega) (by omega)).mp c35
            refine lv_iload_n X.x X.b d_X_status_53 rfl (lv_at hl 1 rfl) ?_
            exact q_zret X rfl hW ⟨by rw [ha, show j = 7 by omega]; rfl, rfl⟩ d_X_status_54
          · have c35 : ¬ 7 ≤ j := fun z => c35 ((nI_leI (a := 7) (b := j) (by omega) (by omega)).mpr z)
            refine lv_iload_n X.x X.b d_X_status_38 rfl (lv_at hl 1 rfl) ?_
            refine lv_aload_n X.x X.b d_X_status_39 rfl (lv_at hl 2 rfl) ?_
            refine q_getr X hW qj3 rfl _ ds_X 6 (by decide) mw_189 rfl (c1 := 69) rfl d_X_status_40 ?_
            refine lv_iload_n X.x X.b d_X_status_43 rfl (lv_at hl 0 rfl) ?_
            refine g_ald X hW ds_f (q_in (by omega) (by decide)) (p0 := j) (q_tn (by omega) (by omega)) (v := φ j) (by rw [hφ]) d_X_status_44 ?_
            refine lv_iadd X.x X.b d_X_status_45 ?_
            refine lv_istore_n (lv' := [(2, .int (a + (φ j))), (3, .int (nI j)), (0, .ref (eA E 0)), (1, .int (-1))]) X.x X.b d_X_status_46 rfl hl (by decide) rfl (fun ls hl => ?_)
            refine lv_iinc (v := nI (j + 1)) (lv' := [(3, .int (nI (j + 1))), (2, .int (a + (φ j))), (0, .ref (eA E 0)), (1, .int (-1))]) X.x X.b d_X_status_47 hl (k := 1) rfl (by rw [show Int32.ofInt 1 = nI 1 from by decide, nI_add]) (by decide) rfl (fun ls hl => ?_)
            refine lv_goto (tgt := 32) X.x X.b d_X_status_50 (by decide) ?_
            exact ih32 (j + 1) (a + (φ j)) (by omega) (by rw [fo_succ, ← ha]) (by omega) _ _ _ hW (lv_sub hl [0, 1, 2, 3] rfl)
      exact loop32 (7 - 0 + 1) 0 (nI 0) (by omega) rfl (Nat.lt_succ_self _) _ _ _ hW (lv_sub hl [0, 1, 2, 3] rfl)
    · exact absurd (by decide) c18
  · have c7 := b2i_e c7
    exact absurd (by decide) c7
set_option maxHeartbeats 1000000 in
set_option maxRecDepth 20000 in
theorem c_X_status_b (l : Launch) (E : QE) (S : QM) (ρ φ : Nat → Int32) (hρ : S 0 = ρ) (hφ : S 14 = φ) (hwf : WF ρ) (x : Int32) (h : ¬ ((-1) ≤ x ∧ x ≤ nI 6)) : qCI E l y_X_status prog_1_method_43_code 4 .int 3 [.ref (eA E 0), .int x] S (-1000001) (qr S 14 (fnS φ 0)) := by
  refine qCI_of (by decide) (Nat.le_of_ble_eq_true rfl) (fun p e s m below meth c ls X hW hl => ?_)
  have hl : lv_has ls 4 [(0, .ref (eA E 0)), (1, .int x)] := hl
  have htl := hwf.tl
  have hwl := hwf.wl
  have hdl := hwf.dl
  refine lv_iload_n X.x X.b d_X_status_0 rfl (lv_at hl 1 rfl) ?_
  refine lv_iconst (v := (-1)) X.x X.b d_X_status_1 (by decide) ?_
  refine lv_bipush (v := nI 6) X.x X.b d_X_status_2 (by decide) ?_
  refine q_csi X (c_X_within l E S x (-1) (nI 6)) hW ok_X_within mw_209 ⟨by decide, by decide⟩ (As := [.int x, .int (-1), .int (nI 6)]) rfl rfl (Nat.le_of_ble_eq_true rfl) (lv := [(0, .ref (eA E 0)), (1, .int x)]) hl ⟨Nat.le_refl 0, Nat.le_refl 0⟩ d_X_status_4 (fun H locs hW => ?_)
  refine lv_if_ne (tgt := 17) X.x X.b d_X_status_7 (by decide) (fun c7 => ?_) (fun c7 => ?_)
  · have c7 := b2i_n c7
    exact absurd c7 h
  · have c7 := b2i_e c7
    refine lv_aload_n X.x X.b d_X_status_10 rfl (lv_at hl 0 rfl) ?_
    refine lv_ldc (v := (-1000001)) X.x X.b X.ow (X.ts _ mw_212) d_X_status_11 ?_
    refine q_cvi X (c_X_told_0 l E S φ (by rw [hφ])) hW (q_recv X hW ds_X rfl) ok_X_told mw_213 ⟨by decide, by decide⟩ (As := [.int (-1000001)]) rfl rfl (Nat.le_of_ble_eq_true rfl) (lv := [(0, .ref (eA E 0)), (1, .int x)]) hl ⟨Nat.le_refl 0, Nat.le_refl 0⟩ d_X_status_13 (fun H locs hW => ?_)
    have hW : qWH E (qr S 14 (fnS φ 0)) s H locs := hW
    exact q_zret X rfl hW ⟨rfl, rfl⟩ d_X_status_16
set_option maxHeartbeats 1000000 in
set_option maxRecDepth 20000 in
theorem c_X_feed_1 (l : Launch) (E : QE) (S : QM) (ρ φ : Nat → Int32) (hρ : S 0 = ρ) (hφ : S 14 = φ) (hwf : WF ρ) (θ σ : Nat → Int32) (hθ : S 4 = θ) (hσ : S 5 = σ) (len : Nat) (hlen : θ 1 = nI len) (hl : len ≤ 120) (v : Int32) (hf : len + 1 ≤ 120) : qCI E l y_X_feed prog_1_method_29_code 3 .int 3 [.ref (eA E 0), .int v, .int (nI 1)] S (nI (len + 1)) (qr (qr S 5 (apS σ len v 1 0)) 4 (upd θ 1 (nI (len + 1)))) := by
  refine qCI_of (by decide) (Nat.le_of_ble_eq_true rfl) (fun p e s m below meth c ls X hW hl => ?_)
  have hl : lv_has ls 3 [(0, .ref (eA E 0)), (1, .int v), (2, .int (nI 1))] := hl
  have htl := hwf.tl
  have hwl := hwf.wl
  have hdl := hwf.dl
  refine lv_iload_n X.x X.b d_X_feed_0 rfl (lv_at hl 2 rfl) ?_
  refine lv_iconst (v := nI 1) X.x X.b d_X_feed_1 (by decide) ?_
  refine lv_iconst (v := nI 4) X.x X.b d_X_feed_2 (by decide) ?_
  refine q_csi X (c_X_within l E S (nI 1) (nI 1) (nI 4)) hW ok_X_within mw_209 ⟨by decide, by decide⟩ (As := [.int (nI 1), .int (nI 1), .int (nI 4)]) rfl rfl (Nat.le_of_ble_eq_true rfl) (lv := [(0, .ref (eA E 0)), (1, .int v), (2, .int (nI 1))]) hl ⟨Nat.le_refl 0, Nat.le_refl 0⟩ d_X_feed_3 (fun H locs hW => ?_)
  refine lv_if_ne (tgt := 16) X.x X.b d_X_feed_6 (by decide) (fun c6 => ?_) (fun c6 => ?_)
  · have c6 := b2i_n c6
    have c6 := (inR_i (by omega) (by decide)).mp c6
    refine lv_aload_n X.x X.b d_X_feed_16 rfl (lv_at hl 0 rfl) ?_
    refine q_getr X hW qj3 rfl _ ds_X 4 (by decide) mw_187 rfl (c1 := 58) rfl d_X_feed_17 ?_
    refine g_geti X hW qj2 rfl _ ds_T 1 (by decide) mw_145 rfl (r0 := 4) (p0 := 1) rfl (v := θ 1) (by rw [hθ]) d_X_feed_20 ?_
    rw [hlen]
    refine lv_bipush (v := nI 120) X.x X.b d_X_feed_23 (by decide) ?_
    refine lv_iload_n X.x X.b d_X_feed_25 rfl (lv_at hl 2 rfl) ?_
    refine lv_isub X.x X.b d_X_feed_26 ?_
    rw [pk_sub (by omega)]
    refine lv_icmp_le (tgt := 37) X.x X.b d_X_feed_27 (by decide) (fun c27 => ?_) (fun c27 => ?_)
    · have c27 : len ≤ (120 - 1) := (nI_leI (a := len) (b := (120 - 1)) (by omega) (by omega)).mp c27
      refine lv_aload_n X.x X.b d_X_feed_37 rfl (lv_at hl 0 rfl) ?_
      refine q_getr X hW qj3 rfl _ ds_X 4 (by decide) mw_187 rfl (c1 := 58) rfl d_X_feed_38 ?_
      refine lv_iload_n X.x X.b d_X_feed_41 rfl (lv_at hl 1 rfl) ?_
      refine lv_iload_n X.x X.b d_X_feed_42 rfl (lv_at hl 2 rfl) ?_
      refine q_cvv X (c_Tp_append_1 l E S θ σ (by rw [hθ]) (by rw [hσ]) len hlen v (by omega)) hW (q_recv X hW ds_T rfl) ok_Tp_append mw_474 ⟨by decide, by decide⟩ (As := [.int v, .int (nI 1)]) rfl rfl (Nat.le_of_ble_eq_true rfl) (lv := [(0, .ref (eA E 0)), (1, .int v), (2, .int (nI 1))]) hl ⟨Nat.le_refl 0, Nat.le_refl 0⟩ d_X_feed_43 (fun H locs hW => ?_)
      have hW : qWH E (qr (qr S 5 (apS σ len v 1 0)) 4 (upd θ 1 (nI (len + 1)))) s H locs := hW
      refine lv_aload_n X.x X.b d_X_feed_46 rfl (lv_at hl 0 rfl) ?_
      refine q_getr X hW qj3 rfl _ ds_X 4 (by decide) mw_187 rfl (c1 := 58) rfl d_X_feed_47 ?_
      refine g_geti X hW qj2 rfl _ ds_T 1 (by decide) mw_145 rfl (r0 := 4) (p0 := 1) rfl (v := (upd θ 1 (nI (len + 1))) 1) (by rw [qr_at]) d_X_feed_50 ?_
      rw [upd_at]
      exact q_zret X rfl hW ⟨rfl, rfl⟩ d_X_feed_53
    · have c27 : ¬ len ≤ (120 - 1) := fun z => c27 ((nI_leI (a := len) (b := (120 - 1)) (by omega) (by omega)).mpr z)
      omega
  · have c6 := b2i_e c6
    have c6 := mt (inR_i (by omega) (by decide)).mpr c6
    omega
set_option maxHeartbeats 1000000 in
set_option maxRecDepth 20000 in
theorem c_X_feed_f1 (l : Launch) (E : QE) (S : QM) (ρ φ : Nat → Int32) (hρ : S 0 = ρ) (hφ : S 14 = φ) (hwf : WF ρ) (θ σ : Nat → Int32) (hθ : S 4 = θ) (hσ : S 5 = σ) (len : Nat) (hlen : θ 1 = nI len) (hl : len ≤ 120) (v : Int32) (hf : ¬ len + 1 ≤ 120) : qCI E l y_X_feed prog_1_method_29_code 3 .int 3 [.ref (eA E 0), .int v, .int (nI 1)] S (-1000002) (qr S 14 (fnS φ 1)) := by
  refine qCI_of (by decide) (Nat.le_of_ble_eq_true rfl) (fun p e s m below meth c ls X hW hl => ?_)
  have hl : lv_has ls 3 [(0, .ref (eA E 0)), (1, .int v), (2, .int (nI 1))] := hl
  have htl := hwf.tl
  have hwl := hwf.wl
  have hdl := hwf.dl
  refine lv_iload_n X.x X.b d_X_feed_0 rfl (lv_at hl 2 rfl) ?_
  refine lv_iconst (v := nI 1) X.x X.b d_X_feed_1 (by decide) ?_
  refine lv_iconst (v := nI 4) X.x X.b d_X_feed_2 (by decide) ?_
  refine q_csi X (c_X_within l E S (nI 1) (nI 1) (nI 4)) hW ok_X_within mw_209 ⟨by decide, by decide⟩ (As := [.int (nI 1), .int (nI 1), .int (nI 4)]) rfl rfl (Nat.le_of_ble_eq_true rfl) (lv := [(0, .ref (eA E 0)), (1, .int v), (2, .int (nI 1))]) hl ⟨Nat.le_refl 0, Nat.le_refl 0⟩ d_X_feed_3 (fun H locs hW => ?_)
  refine lv_if_ne (tgt := 16) X.x X.b d_X_feed_6 (by decide) (fun c6 => ?_) (fun c6 => ?_)
  · have c6 := b2i_n c6
    have c6 := (inR_i (by omega) (by decide)).mp c6
    refine lv_aload_n X.x X.b d_X_feed_16 rfl (lv_at hl 0 rfl) ?_
    refine q_getr X hW qj3 rfl _ ds_X 4 (by decide) mw_187 rfl (c1 := 58) rfl d_X_feed_17 ?_
    refine g_geti X hW qj2 rfl _ ds_T 1 (by decide) mw_145 rfl (r0 := 4) (p0 := 1) rfl (v := θ 1) (by rw [hθ]) d_X_feed_20 ?_
    rw [hlen]
    refine lv_bipush (v := nI 120) X.x X.b d_X_feed_23 (by decide) ?_
    refine lv_iload_n X.x X.b d_X_feed_25 rfl (lv_at hl 2 rfl) ?_
    refine lv_isub X.x X.b d_X_feed_26 ?_
    rw [pk_sub (by omega)]
    refine lv_icmp_le (tgt := 37) X.x X.b d_X_feed_27 (by decide) (fun c27 => ?_) (fun c27 => ?_)
    · have c27 : len ≤ (120 - 1) := (nI_leI (a := len) (b := (120 - 1)) (by omega) (by omega)).mp c27
      omega
    · have c27 : ¬ len ≤ (120 - 1) := fun z => c27 ((nI_leI (a := len) (b := (120 - 1)) (by omega) (by omega)).mpr z)
      refine lv_aload_n X.x X.b d_X_feed_30 rfl (lv_at hl 0 rfl) ?_
      refine lv_ldc (v := (-1000002)) X.x X.b X.ow (X.ts _ mw_227) d_X_feed_31 ?_
      refine q_cvi X (c_X_told_1 l E S φ (by rw [hφ])) hW (q_recv X hW ds_X rfl) ok_X_told mw_213 ⟨by decide, by decide⟩ (As := [.int (-1000002)]) rfl rfl (Nat.le_of_ble_eq_true rfl) (lv := [(0, .ref (eA E 0)), (1, .int v), (2, .int (nI 1))]) hl ⟨Nat.le_refl 0, Nat.le_refl 0⟩ d_X_feed_33 (fun H locs hW => ?_)
      have hW : qWH E (qr S 14 (fnS φ 1)) s H locs := hW
      exact q_zret X rfl hW ⟨rfl, rfl⟩ d_X_feed_36
  · have c6 := b2i_e c6
    have c6 := mt (inR_i (by omega) (by decide)).mpr c6
    omega
set_option maxHeartbeats 1000000 in
set_option maxRecDepth 20000 in
theorem c_X_feed_2 (l : Launch) (E : QE) (S : QM) (ρ φ : Nat → Int32) (hρ : S 0 = ρ) (hφ : S 14 = φ) (hwf : WF ρ) (θ σ : Nat → Int32) (hθ : S 4 = θ) (hσ : S 5 = σ) (len : Nat) (hlen : θ 1 = nI len) (hl : len ≤ 120) (v : Int32) (hf : len + 2 ≤ 120) : qCI E l y_X_feed prog_1_method_29_code 3 .int 3 [.ref (eA E 0), .int v, .int (nI 2)] S (nI (len + 2)) (qr (qr S 5 (apS σ len v 2 0)) 4 (upd θ 1 (nI (len + 2)))) := by
  refine qCI_of (by decide) (Nat.le_of_ble_eq_true rfl) (fun p e s m below meth c ls X hW hl => ?_)
  have hl : lv_has ls 3 [(0, .ref (eA E 0)), (1, .int v), (2, .int (nI 2))] := hl
  have htl := hwf.tl
  have hwl := hwf.wl
  have hdl := hwf.dl
  refine lv_iload_n X.x X.b d_X_feed_0 rfl (lv_at hl 2 rfl) ?_
  refine lv_iconst (v := nI 1) X.x X.b d_X_feed_1 (by decide) ?_
  refine lv_iconst (v := nI 4) X.x X.b d_X_feed_2 (by decide) ?_
  refine q_csi X (c_X_within l E S (nI 2) (nI 1) (nI 4)) hW ok_X_within mw_209 ⟨by decide, by decide⟩ (As := [.int (nI 2), .int (nI 1), .int (nI 4)]) rfl rfl (Nat.le_of_ble_eq_true rfl) (lv := [(0, .ref (eA E 0)), (1, .int v), (2, .int (nI 2))]) hl ⟨Nat.le_refl 0, Nat.le_refl 0⟩ d_X_feed_3 (fun H locs hW => ?_)
  refine lv_if_ne (tgt := 16) X.x X.b d_X_feed_6 (by decide) (fun c6 => ?_) (fun c6 => ?_)
  · have c6 := b2i_n c6
    have c6 := (inR_i (by omega) (by decide)).mp c6
    refine lv_aload_n X.x X.b d_X_feed_16 rfl (lv_at hl 0 rfl) ?_
    refine q_getr X hW qj3 rfl _ ds_X 4 (by decide) mw_187 rfl (c1 := 58) rfl d_X_feed_17 ?_
    refine g_geti X hW qj2 rfl _ ds_T 1 (by decide) mw_145 rfl (r0 := 4) (p0 := 1) rfl (v := θ 1) (by rw [hθ]) d_X_feed_20 ?_
    rw [hlen]
    refine lv_bipush (v := nI 120) X.x X.b d_X_feed_23 (by decide) ?_
    refine lv_iload_n X.x X.b d_X_feed_25 rfl (lv_at hl 2 rfl) ?_
    refine lv_isub X.x X.b d_X_feed_26 ?_
    rw [pk_sub (by omega)]
    refine lv_icmp_le (tgt := 37) X.x X.b d_X_feed_27 (by decide) (fun c27 => ?_) (fun c27 => ?_)
    · have c27 : len ≤ (120 - 2) := (nI_leI (a := len) (b := (120 - 2)) (by omega) (by omega)).mp c27
      refine lv_aload_n X.x X.b d_X_feed_37 rfl (lv_at hl 0 rfl) ?_
      refine q_getr X hW qj3 rfl _ ds_X 4 (by decide) mw_187 rfl (c1 := 58) rfl d_X_feed_38 ?_
      refine lv_iload_n X.x X.b d_X_feed_41 rfl (lv_at hl 1 rfl) ?_
      refine lv_iload_n X.x X.b d_X_feed_42 rfl (lv_at hl 2 rfl) ?_
      refine q_cvv X (c_Tp_append_2 l E S θ σ (by rw [hθ]) (by rw [hσ]) len hlen v (by omega)) hW (q_recv X hW ds_T rfl) ok_Tp_append mw_474 ⟨by decide, by decide⟩ (As := [.int v, .int (nI 2)]) rfl rfl (Nat.le_of_ble_eq_true rfl) (lv := [(0, .ref (eA E 0)), (1, .int v), (2, .int (nI 2))]) hl ⟨Nat.le_refl 0, Nat.le_refl 0⟩ d_X_feed_43 (fun H locs hW => ?_)
      have hW : qWH E (qr (qr S 5 (apS σ len v 2 0)) 4 (upd θ 1 (nI (len + 2)))) s H locs := hW
      refine lv_aload_n X.x X.b d_X_feed_46 rfl (lv_at hl 0 rfl) ?_
      refine q_getr X hW qj3 rfl _ ds_X 4 (by decide) mw_187 rfl (c1 := 58) rfl d_X_feed_47 ?_
      refine g_geti X hW qj2 rfl _ ds_T 1 (by decide) mw_145 rfl (r0 := 4) (p0 := 1) rfl (v := (upd θ 1 (nI (len + 2))) 1) (by rw [qr_at]) d_X_feed_50 ?_
      rw [upd_at]
      exact q_zret X rfl hW ⟨rfl, rfl⟩ d_X_feed_53
    · have c27 : ¬ len ≤ (120 - 2) := fun z => c27 ((nI_leI (a := len) (b := (120 - 2)) (by omega) (by omega)).mpr z)
      omega
  · have c6 := b2i_e c6
    have c6 := mt (inR_i (by omega) (by decide)).mpr c6
    omega
set_option maxHeartbeats 1000000 in
set_option maxRecDepth 20000 in
theorem c_X_feed_f2 (l : Launch) (E : QE) (S : QM) (ρ φ : Nat → Int32) (hρ : S 0 = ρ) (hφ : S 14 = φ) (hwf : WF ρ) (θ σ : Nat → Int32) (hθ : S 4 = θ) (hσ : S 5 = σ) (len : Nat) (hlen : θ 1 = nI len) (hl : len ≤ 120) (v : Int32) (hf : ¬ len + 2 ≤ 120) : qCI E l y_X_feed prog_1_method_29_code 3 .int 3 [.ref (eA E 0), .int v, .int (nI 2)] S (-1000002) (qr S 14 (fnS φ 1)) := by
  refine qCI_of (by decide) (Nat.le_of_ble_eq_true rfl) (fun p e s m below meth c ls X hW hl => ?_)
  have hl : lv_has ls 3 [(0, .ref (eA E 0)), (1, .int v), (2, .int (nI 2))] := hl
  have htl := hwf.tl
  have hwl := hwf.wl
  have hdl := hwf.dl
  refine lv_iload_n X.x X.b d_X_feed_0 rfl (lv_at hl 2 rfl) ?_
  refine lv_iconst (v := nI 1) X.x X.b d_X_feed_1 (by decide) ?_
  refine lv_iconst (v := nI 4) X.x X.b d_X_feed_2 (by decide) ?_
  refine q_csi X (c_X_within l E S (nI 2) (nI 1) (nI 4)) hW ok_X_within mw_209 ⟨by decide, by decide⟩ (As := [.int (nI 2), .int (nI 1), .int (nI 4)]) rfl rfl (Nat.le_of_ble_eq_true rfl) (lv := [(0, .ref (eA E 0)), (1, .int v), (2, .int (nI 2))]) hl ⟨Nat.le_refl 0, Nat.le_refl 0⟩ d_X_feed_3 (fun H locs hW => ?_)
  refine lv_if_ne (tgt := 16) X.x X.b d_X_feed_6 (by decide) (fun c6 => ?_) (fun c6 => ?_)
  · have c6 := b2i_n c6
    have c6 := (inR_i (by omega) (by decide)).mp c6
    refine lv_aload_n X.x X.b d_X_feed_16 rfl (lv_at hl 0 rfl) ?_
    refine q_getr X hW qj3 rfl _ ds_X 4 (by decide) mw_187 rfl (c1 := 58) rfl d_X_feed_17 ?_
    refine g_geti X hW qj2 rfl _ ds_T 1 (by decide) mw_145 rfl (r0 := 4) (p0 := 1) rfl (v := θ 1) (by rw [hθ]) d_X_feed_20 ?_
    rw [hlen]
    refine lv_bipush (v := nI 120) X.x X.b d_X_feed_23 (by decide) ?_
    refine lv_iload_n X.x X.b d_X_feed_25 rfl (lv_at hl 2 rfl) ?_
    refine lv_isub X.x X.b d_X_feed_26 ?_
    rw [pk_sub (by omega)]
    refine lv_icmp_le (tgt := 37) X.x X.b d_X_feed_27 (by decide) (fun c27 => ?_) (fun c27 => ?_)
    · have c27 : len ≤ (120 - 2) := (nI_leI (a := len) (b := (120 - 2)) (by omega) (by omega)).mp c27
      omega
    · have c27 : ¬ len ≤ (120 - 2) := fun z => c27 ((nI_leI (a := len) (b := (120 - 2)) (by omega) (by omega)).mpr z)
      refine lv_aload_n X.x X.b d_X_feed_30 rfl (lv_at hl 0 rfl) ?_
      refine lv_ldc (v := (-1000002)) X.x X.b X.ow (X.ts _ mw_227) d_X_feed_31 ?_
      refine q_cvi X (c_X_told_1 l E S φ (by rw [hφ])) hW (q_recv X hW ds_X rfl) ok_X_told mw_213 ⟨by decide, by decide⟩ (As := [.int (-1000002)]) rfl rfl (Nat.le_of_ble_eq_true rfl) (lv := [(0, .ref (eA E 0)), (1, .int v), (2, .int (nI 2))]) hl ⟨Nat.le_refl 0, Nat.le_refl 0⟩ d_X_feed_33 (fun H locs hW => ?_)
      have hW : qWH E (qr S 14 (fnS φ 1)) s H locs := hW
      exact q_zret X rfl hW ⟨rfl, rfl⟩ d_X_feed_36
  · have c6 := b2i_e c6
    have c6 := mt (inR_i (by omega) (by decide)).mpr c6
    omega
set_option maxHeartbeats 1000000 in
set_option maxRecDepth 20000 in
theorem c_X_feed_3 (l : Launch) (E : QE) (S : QM) (ρ φ : Nat → Int32) (hρ : S 0 = ρ) (hφ : S 14 = φ) (hwf : WF ρ) (θ σ : Nat → Int32) (hθ : S 4 = θ) (hσ : S 5 = σ) (len : Nat) (hlen : θ 1 = nI len) (hl : len ≤ 120) (v : Int32) (hf : len + 3 ≤ 120) : qCI E l y_X_feed prog_1_method_29_code 3 .int 3 [.ref (eA E 0), .int v, .int (nI 3)] S (nI (len + 3)) (qr (qr S 5 (apS σ len v 3 0)) 4 (upd θ 1 (nI (len + 3)))) := by
  refine qCI_of (by decide) (Nat.le_of_ble_eq_true rfl) (fun p e s m below meth c ls X hW hl => ?_)
  have hl : lv_has ls 3 [(0, .ref (eA E 0)), (1, .int v), (2, .int (nI 3))] := hl
  have htl := hwf.tl
  have hwl := hwf.wl
  have hdl := hwf.dl
  refine lv_iload_n X.x X.b d_X_feed_0 rfl (lv_at hl 2 rfl) ?_
  refine lv_iconst (v := nI 1) X.x X.b d_X_feed_1 (by decide) ?_
  refine lv_iconst (v := nI 4) X.x X.b d_X_feed_2 (by decide) ?_
  refine q_csi X (c_X_within l E S (nI 3) (nI 1) (nI 4)) hW ok_X_within mw_209 ⟨by decide, by decide⟩ (As := [.int (nI 3), .int (nI 1), .int (nI 4)]) rfl rfl (Nat.le_of_ble_eq_true rfl) (lv := [(0, .ref (eA E 0)), (1, .int v), (2, .int (nI 3))]) hl ⟨Nat.le_refl 0, Nat.le_refl 0⟩ d_X_feed_3 (fun H locs hW => ?_)
  refine lv_if_ne (tgt := 16) X.x X.b d_X_feed_6 (by decide) (fun c6 => ?_) (fun c6 => ?_)
  · have c6 := b2i_n c6
    have c6 := (inR_i (by omega) (by decide)).mp c6
    refine lv_aload_n X.x X.b d_X_feed_16 rfl (lv_at hl 0 rfl) ?_
    refine q_getr X hW qj3 rfl _ ds_X 4 (by decide) mw_187 rfl (c1 := 58) rfl d_X_feed_17 ?_
    refine g_geti X hW qj2 rfl _ ds_T 1 (by decide) mw_145 rfl (r0 := 4) (p0 := 1) rfl (v := θ 1) (by rw [hθ]) d_X_feed_20 ?_
    rw [hlen]
    refine lv_bipush (v := nI 120) X.x X.b d_X_feed_23 (by decide) ?_
    refine lv_iload_n X.x X.b d_X_feed_25 rfl (lv_at hl 2 rfl) ?_
    refine lv_isub X.x X.b d_X_feed_26 ?_
    rw [pk_sub (by omega)]
    refine lv_icmp_le (tgt := 37) X.x X.b d_X_feed_27 (by decide) (fun c27 => ?_) (fun c27 => ?_)
    · have c27 : len ≤ (120 - 3) := (nI_leI (a := len) (b := (120 - 3)) (by omega) (by omega)).mp c27
      refine lv_aload_n X.x X.b d_X_feed_37 rfl (lv_at hl 0 rfl) ?_
      refine q_getr X hW qj3 rfl _ ds_X 4 (by decide) mw_187 rfl (c1 := 58) rfl d_X_feed_38 ?_
      refine lv_iload_n X.x X.b d_X_feed_41 rfl (lv_at hl 1 rfl) ?_
      refine lv_iload_n X.x X.b d_X_feed_42 rfl (lv_at hl 2 rfl) ?_
      refine q_cvv X (c_Tp_append_3 l E S θ σ (by rw [hθ]) (by rw [hσ]) len hlen v (by omega)) hW (q_recv X hW ds_T rfl) ok_Tp_append mw_474 ⟨by decide, by decide⟩ (As := [.int v, .int (nI 3)]) rfl rfl (Nat.le_of_ble_eq_true rfl) (lv := [(0, .ref (eA E 0)), (1, .int v), (2, .int (nI 3))]) hl ⟨Nat.le_refl 0, Nat.le_refl 0⟩ d_X_feed_43 (fun H locs hW => ?_)
      have hW : qWH E (qr (qr S 5 (apS σ len v 3 0)) 4 (upd θ 1 (nI (len + 3)))) s H locs := hW
      refine lv_aload_n X.x X.b d_X_feed_46 rfl (lv_at hl 0 rfl) ?_
      refine q_getr X hW qj3 rfl _ ds_X 4 (by decide) mw_187 rfl (c1 := 58) rfl d_X_feed_47 ?_
      refine g_geti X hW qj2 rfl _ ds_T 1 (by decide) mw_145 rfl (r0 := 4) (p0 := 1) rfl (v := (upd θ 1 (nI (len + 3))) 1) (by rw [qr_at]) d_X_feed_50 ?_
      rw [upd_at]
      exact q_zret X rfl hW ⟨rfl, rfl⟩ d_X_feed_53
    · have c27 : ¬ len ≤ (120 - 3) := fun z => c27 ((nI_leI (a := len) (b := (120 - 3)) (by omega) (by omega)).mpr z)
      omega
  · have c6 := b2i_e c6
    have c6 := mt (inR_i (by omega) (by decide)).mpr c6
    omega
set_option maxHeartbeats 1000000 in
set_option maxRecDepth 20000 in
theorem c_X_feed_f3 (l : Launch) (E : QE) (S : QM) (ρ φ : Nat → Int32) (hρ : S 0 = ρ) (hφ : S 14 = φ) (hwf : WF ρ) (θ σ : Nat → Int32) (hθ : S 4 = θ) (hσ : S 5 = σ) (len : Nat) (hlen : θ 1 = nI len) (hl : len ≤ 120) (v : Int32) (hf : ¬ len + 3 ≤ 120) : qCI E l y_X_feed prog_1_method_29_code 3 .int 3 [.ref (eA E 0), .int v, .int (nI 3)] S (-1000002) (qr S 14 (fnS φ 1)) := by
  refine qCI_of (by decide) (Nat.le_of_ble_eq_true rfl) (fun p e s m below meth c ls X hW hl => ?_)
  have hl : lv_has ls 3 [(0, .ref (eA E 0)), (1, .int v), (2, .int (nI 3))] := hl
  have htl := hwf.tl
  have hwl := hwf.wl
  have hdl := hwf.dl
  refine lv_iload_n X.x X.b d_X_feed_0 rfl (lv_at hl 2 rfl) ?_
  refine lv_iconst (v := nI 1) X.x X.b d_X_feed_1 (by decide) ?_
  refine lv_iconst (v := nI 4) X.x X.b d_X_feed_2 (by decide) ?_
  refine q_csi X (c_X_within l E S (nI 3) (nI 1) (nI 4)) hW ok_X_within mw_209 ⟨by decide, by decide⟩ (As := [.int (nI 3), .int (nI 1), .int (nI 4)]) rfl rfl (Nat.le_of_ble_eq_true rfl) (lv := [(0, .ref (eA E 0)), (1, .int v), (2, .int (nI 3))]) hl ⟨Nat.le_refl 0, Nat.le_refl 0⟩ d_X_feed_3 (fun H locs hW => ?_)
  refine lv_if_ne (tgt := 16) X.x X.b d_X_feed_6 (by decide) (fun c6 => ?_) (fun c6 => ?_)
  · have c6 := b2i_n c6
    have c6 := (inR_i (by omega) (by decide)).mp c6
    refine lv_aload_n X.x X.b d_X_feed_16 rfl (lv_at hl 0 rfl) ?_
    refine q_getr X hW qj3 rfl _ ds_X 4 (by decide) mw_187 rfl (c1 := 58) rfl d_X_feed_17 ?_
    refine g_geti X hW qj2 rfl _ ds_T 1 (by decide) mw_145 rfl (r0 := 4) (p0 := 1) rfl (v := θ 1) (by rw [hθ]) d_X_feed_20 ?_
    rw [hlen]
    refine lv_bipush (v := nI 120) X.x X.b d_X_feed_23 (by decide) ?_
    refine lv_iload_n X.x X.b d_X_feed_25 rfl (lv_at hl 2 rfl) ?_
    refine lv_isub X.x X.b d_X_feed_26 ?_
    rw [pk_sub (by omega)]
    refine lv_icmp_le (tgt := 37) X.x X.b d_X_feed_27 (by decide) (fun c27 => ?_) (fun c27 => ?_)
    · have c27 : len ≤ (120 - 3) := (nI_leI (a := len) (b := (120 - 3)) (by omega) (by omega)).mp c27
      omega
    · have c27 : ¬ len ≤ (120 - 3) := fun z => c27 ((nI_leI (a := len) (b := (120 - 3)) (by omega) (by omega)).mpr z)
      refine lv_aload_n X.x X.b d_X_feed_30 rfl (lv_at hl 0 rfl) ?_
      refine lv_ldc (v := (-1000002)) X.x X.b X.ow (X.ts _ mw_227) d_X_feed_31 ?_
      refine q_cvi X (c_X_told_1 l E S φ (by rw [hφ])) hW (q_recv X hW ds_X rfl) ok_X_told mw_213 ⟨by decide, by decide⟩ (As := [.int (-1000002)]) rfl rfl (Nat.le_of_ble_eq_true rfl) (lv := [(0, .ref (eA E 0)), (1, .int v), (2, .int (nI 3))]) hl ⟨Nat.le_refl 0, Nat.le_refl 0⟩ d_X_feed_33 (fun H locs hW => ?_)
      have hW : qWH E (qr S 14 (fnS φ 1)) s H locs := hW
      exact q_zret X rfl hW ⟨rfl, rfl⟩ d_X_feed_36
  · have c6 := b2i_e c6
    have c6 := mt (inR_i (by omega) (by decide)).mpr c6
    omega
set_option maxHeartbeats 1000000 in
set_option maxRecDepth 20000 in
theorem c_X_feed_4 (l : Launch) (E : QE) (S : QM) (ρ φ : Nat → Int32) (hρ : S 0 = ρ) (hφ : S 14 = φ) (hwf : WF ρ) (θ σ : Nat → Int32) (hθ : S 4 = θ) (hσ : S 5 = σ) (len : Nat) (hlen : θ 1 = nI len) (hl : len ≤ 120) (v : Int32) (hf : len + 4 ≤ 120) : qCI E l y_X_feed prog_1_method_29_code 3 .int 3 [.ref (eA E 0), .int v, .int (nI 4)] S (nI (len + 4)) (qr (qr S 5 (apS σ len v 4 0)) 4 (upd θ 1 (nI (len + 4)))) := by
  refine qCI_of (by decide) (Nat.le_of_ble_eq_true rfl) (fun p e s m below meth c ls X hW hl => ?_)
  have hl : lv_has ls 3 [(0, .ref (eA E 0)), (1, .int v), (2, .int (nI 4))] := hl
  have htl := hwf.tl
  have hwl := hwf.wl
  have hdl := hwf.dl
  refine lv_iload_n X.x X.b d_X_feed_0 rfl (lv_at hl 2 rfl) ?_
  refine lv_iconst (v := nI 1) X.x X.b d_X_feed_1 (by decide) ?_
  refine lv_iconst (v := nI 4) X.x X.b d_X_feed_2 (by decide) ?_
  refine q_csi X (c_X_within l E S (nI 4) (nI 1) (nI 4)) hW ok_X_within mw_209 ⟨by decide, by decide⟩ (As := [.int (nI 4), .int (nI 1), .int (nI 4)]) rfl rfl (Nat.le_of_ble_eq_true rfl) (lv := [(0, .ref (eA E 0)), (1, .int v), (2, .int (nI 4))]) hl ⟨Nat.le_refl 0, Nat.le_refl 0⟩ d_X_feed_3 (fun H locs hW => ?_)
  refine lv_if_ne (tgt := 16) X.x X.b d_X_feed_6 (by decide) (fun c6 => ?_) (fun c6 => ?_)
  · have c6 := b2i_n c6
    have c6 := (inR_i (by omega) (by decide)).mp c6
    refine lv_aload_n X.x X.b d_X_feed_16 rfl (lv_at hl 0 rfl) ?_
    refine q_getr X hW qj3 rfl _ ds_X 4 (by decide) mw_187 rfl (c1 := 58) rfl d_X_feed_17 ?_
    refine g_geti X hW qj2 rfl _ ds_T 1 (by decide) mw_145 rfl (r0 := 4) (p0 := 1) rfl (v := θ 1) (by rw [hθ]) d_X_feed_20 ?_
    rw [hlen]
    refine lv_bipush (v := nI 120) X.x X.b d_X_feed_23 (by decide) ?_
    refine lv_iload_n X.x X.b d_X_feed_25 rfl (lv_at hl 2 rfl) ?_
    refine lv_isub X.x X.b d_X_feed_26 ?_
    rw [pk_sub (by omega)]
    refine lv_icmp_le (tgt := 37) X.x X.b d_X_feed_27 (by decide) (fun c27 => ?_) (fun c27 => ?_)
    · have c27 : len ≤ (120 - 4) := (nI_leI (a := len) (b := (120 - 4)) (by omega) (by omega)).mp c27
      refine lv_aload_n X.x X.b d_X_feed_37 rfl (lv_at hl 0 rfl) ?_
      refine q_getr X hW qj3 rfl _ ds_X 4 (by decide) mw_187 rfl (c1 := 58) rfl d_X_feed_38 ?_
      refine lv_iload_n X.x X.b d_X_feed_41 rfl (lv_at hl 1 rfl) ?_
      refine lv_iload_n X.x X.b d_X_feed_42 rfl (lv_at hl 2 rfl) ?_
      refine q_cvv X (c_Tp_append_4 l E S θ σ (by rw [hθ]) (by rw [hσ]) len hlen v (by omega)) hW (q_recv X hW ds_T rfl) ok_Tp_append mw_474 ⟨by decide, by decide⟩ (As := [.int v, .int (nI 4)]) rfl rfl (Nat.le_of_ble_eq_true rfl) (lv := [(0, .ref (eA E 0)), (1, .int v), (2, .int (nI 4))]) hl ⟨Nat.le_refl 0, Nat.le_refl 0⟩ d_X_feed_43 (fun H locs hW => ?_)
      have hW : qWH E (qr (qr S 5 (apS σ len v 4 0)) 4 (upd θ 1 (nI (len + 4)))) s H locs := hW
      refine lv_aload_n X.x X.b d_X_feed_46 rfl (lv_at hl 0 rfl) ?_
      refine q_getr X hW qj3 rfl _ ds_X 4 (by decide) mw_187 rfl (c1 := 58) rfl d_X_feed_47 ?_
      refine g_geti X hW qj2 rfl _ ds_T 1 (by decide) mw_145 rfl (r0 := 4) (p0 := 1) rfl (v := (upd θ 1 (nI (len + 4))) 1) (by rw [qr_at]) d_X_feed_50 ?_
      rw [upd_at]
      exact q_zret X rfl hW ⟨rfl, rfl⟩ d_X_feed_53
    · have c27 : ¬ len ≤ (120 - 4) := fun z => c27 ((nI_leI (a := len) (b := (120 - 4)) (by omega) (by omega)).mpr z)
      omega
  · have c6 := b2i_e c6
    have c6 := mt (inR_i (by omega) (by decide)).mpr c6
    omega
set_option maxHeartbeats 1000000 in
set_option maxRecDepth 20000 in
theorem c_X_feed_f4 (l : Launch) (E : QE) (S : QM) (ρ φ : Nat → Int32) (hρ : S 0 = ρ) (hφ : S 14 = φ) (hwf : WF ρ) (θ σ : Nat → Int32) (hθ : S 4 = θ) (hσ : S 5 = σ) (len : Nat) (hlen : θ 1 = nI len) (hl : len ≤ 120) (v : Int32) (hf : ¬ len + 4 ≤ 120) : qCI E l y_X_feed prog_1_method_29_code 3 .int 3 [.ref (eA E 0), .int v, .int (nI 4)] S (-1000002) (qr S 14 (fnS φ 1)) := by
  refine qCI_of (by decide) (Nat.le_of_ble_eq_true rfl) (fun p e s m below meth c ls X hW hl => ?_)
  have hl : lv_has ls 3 [(0, .ref (eA E 0)), (1, .int v), (2, .int (nI 4))] := hl
  have htl := hwf.tl
  have hwl := hwf.wl
  have hdl := hwf.dl
  refine lv_iload_n X.x X.b d_X_feed_0 rfl (lv_at hl 2 rfl) ?_
  refine lv_iconst (v := nI 1) X.x X.b d_X_feed_1 (by decide) ?_
  refine lv_iconst (v := nI 4) X.x X.b d_X_feed_2 (by decide) ?_
  refine q_csi X (c_X_within l E S (nI 4) (nI 1) (nI 4)) hW ok_X_within mw_209 ⟨by decide, by decide⟩ (As := [.int (nI 4), .int (nI 1), .int (nI 4)]) rfl rfl (Nat.le_of_ble_eq_true rfl) (lv := [(0, .ref (eA E 0)), (1, .int v), (2, .int (nI 4))]) hl ⟨Nat.le_refl 0, Nat.le_refl 0⟩ d_X_feed_3 (fun H locs hW => ?_)
  refine lv_if_ne (tgt := 16) X.x X.b d_X_feed_6 (by decide) (fun c6 => ?_) (fun c6 => ?_)
  · have c6 := b2i_n c6
    have c6 := (inR_i (by omega) (by decide)).mp c6
    refine lv_aload_n X.x X.b d_X_feed_16 rfl (lv_at hl 0 rfl) ?_
    refine q_getr X hW qj3 rfl _ ds_X 4 (by decide) mw_187 rfl (c1 := 58) rfl d_X_feed_17 ?_
    refine g_geti X hW qj2 rfl _ ds_T 1 (by decide) mw_145 rfl (r0 := 4) (p0 := 1) rfl (v := θ 1) (by rw [hθ]) d_X_feed_20 ?_
    rw [hlen]
    refine lv_bipush (v := nI 120) X.x X.b d_X_feed_23 (by decide) ?_
    refine lv_iload_n X.x X.b d_X_feed_25 rfl (lv_at hl 2 rfl) ?_
    refine lv_isub X.x X.b d_X_feed_26 ?_
    rw [pk_sub (by omega)]
    refine lv_icmp_le (tgt := 37) X.x X.b d_X_feed_27 (by decide) (fun c27 => ?_) (fun c27 => ?_)
    · have c27 : len ≤ (120 - 4) := (nI_leI (a := len) (b := (120 - 4)) (by omega) (by omega)).mp c27
      omega
    · have c27 : ¬ len ≤ (120 - 4) := fun z => c27 ((nI_leI (a := len) (b := (120 - 4)) (by omega) (by omega)).mpr z)
      refine lv_aload_n X.x X.b d_X_feed_30 rfl (lv_at hl 0 rfl) ?_
      refine lv_ldc (v := (-1000002)) X.x X.b X.ow (X.ts _ mw_227) d_X_feed_31 ?_
      refine q_cvi X (c_X_told_1 l E S φ (by rw [hφ])) hW (q_recv X hW ds_X rfl) ok_X_told mw_213 ⟨by decide, by decide⟩ (As := [.int (-1000002)]) rfl rfl (Nat.le_of_ble_eq_true rfl) (lv := [(0, .ref (eA E 0)), (1, .int v), (2, .int (nI 4))]) hl ⟨Nat.le_refl 0, Nat.le_refl 0⟩ d_X_feed_33 (fun H locs hW => ?_)
      have hW : qWH E (qr S 14 (fnS φ 1)) s H locs := hW
      exact q_zret X rfl hW ⟨rfl, rfl⟩ d_X_feed_36
  · have c6 := b2i_e c6
    have c6 := mt (inR_i (by omega) (by decide)).mpr c6
    omega
set_option maxHeartbeats 1000000 in
set_option maxRecDepth 20000 in
theorem c_X_feed_b (l : Launch) (E : QE) (S : QM) (ρ φ : Nat → Int32) (hρ : S 0 = ρ) (hφ : S 14 = φ) (hwf : WF ρ) (v x : Int32) (h : ¬ inR 1 4 x) : qCI E l y_X_feed prog_1_method_29_code 3 .int 3 [.ref (eA E 0), .int v, .int x] S (-1000001) (qr S 14 (fnS φ 0)) := by
  refine qCI_of (by decide) (Nat.le_of_ble_eq_true rfl) (fun p e s m below meth c ls X hW hl => ?_)
  have hl : lv_has ls 3 [(0, .ref (eA E 0)), (1, .int v), (2, .int x)] := hl
  have htl := hwf.tl
  have hwl := hwf.wl
  have hdl := hwf.dl
  refine lv_iload_n X.x X.b d_X_feed_0 rfl (lv_at hl 2 rfl) ?_
  refine lv_iconst (v := nI 1) X.x X.b d_X_feed_1 (by decide) ?_
  refine lv_iconst (v := nI 4) X.x X.b d_X_feed_2 (by decide) ?_
  refine q_csi X (c_X_within l E S x (nI 1) (nI 4)) hW ok_X_within mw_209 ⟨by decide, by decide⟩ (As := [.int x, .int (nI 1), .int (nI 4)]) rfl rfl (Nat.le_of_ble_eq_true rfl) (lv := [(0, .ref (eA E 0)), (1, .int v), (2, .int x)]) hl ⟨Nat.le_refl 0, Nat.le_refl 0⟩ d_X_feed_3 (fun H locs hW => ?_)
  refine lv_if_ne (tgt := 16) X.x X.b d_X_feed_6 (by decide) (fun c6 => ?_) (fun c6 => ?_)
  · have c6 := b2i_n c6
    exact absurd c6 h
  · have c6 := b2i_e c6
    refine lv_aload_n X.x X.b d_X_feed_9 rfl (lv_at hl 0 rfl) ?_
    refine lv_ldc (v := (-1000001)) X.x X.b X.ow (X.ts _ mw_212) d_X_feed_10 ?_
    refine q_cvi X (c_X_told_0 l E S φ (by rw [hφ])) hW (q_recv X hW ds_X rfl) ok_X_told mw_213 ⟨by decide, by decide⟩ (As := [.int (-1000001)]) rfl rfl (Nat.le_of_ble_eq_true rfl) (lv := [(0, .ref (eA E 0)), (1, .int v), (2, .int x)]) hl ⟨Nat.le_refl 0, Nat.le_refl 0⟩ d_X_feed_12 (fun H locs hW => ?_)
    have hW : qWH E (qr S 14 (fnS φ 0)) s H locs := hW
    exact q_zret X rfl hW ⟨rfl, rfl⟩ d_X_feed_15
set_option maxHeartbeats 1000000 in
set_option maxRecDepth 20000 in
theorem c_X_wipe (l : Launch) (E : QE) (S : QM) (ρ φ : Nat → Int32) (hρ : S 0 = ρ) (hφ : S 14 = φ) (hwf : WF ρ) (θ : Nat → Int32) (hθ : S 4 = θ) : qCI E l y_X_wipe prog_1_method_30_code 2 .int 1 [.ref (eA E 0)] S (θ 1) (qr S 4 (upd θ 1 (nI 0))) := by
  refine qCI_of (by decide) (Nat.le_of_ble_eq_true rfl) (fun p e s m below meth c ls X hW hl => ?_)
  have hl : lv_has ls 2 [(0, .ref (eA E 0))] := hl
  have htl := hwf.tl
  have hwl := hwf.wl
  have hdl := hwf.dl
  refine lv_aload_n X.x X.b d_X_wipe_0 rfl (lv_at hl 0 rfl) ?_
  refine q_getr X hW qj3 rfl _ ds_X 4 (by decide) mw_187 rfl (c1 := 58) rfl d_X_wipe_1 ?_
  refine g_geti X hW qj2 rfl _ ds_T 1 (by decide) mw_145 rfl (r0 := 4) (p0 := 1) rfl (v := θ 1) (by rw [hθ]) d_X_wipe_4 ?_
  refine lv_istore_n (lv' := [(1, .int (θ 1)), (0, .ref (eA E 0))]) X.x X.b d_X_wipe_7 rfl hl (by decide) rfl (fun ls hl => ?_)
  refine lv_aload_n X.x X.b d_X_wipe_8 rfl (lv_at hl 1 rfl) ?_
  refine q_getr X hW qj3 rfl _ ds_X 4 (by decide) mw_187 rfl (c1 := 58) rfl d_X_wipe_9 ?_
  refine lv_iconst (v := nI 0) X.x X.b d_X_wipe_12 (by decide) ?_
  refine g_puti X hW qj2 qp2 qn2 rfl _ ds_T 1 (by decide) mw_145 rfl rfl (r0 := 4) (p0 := 1) rfl rfl rfl (ρ := θ) (by rw [hθ]) d_X_wipe_13 (fun H locs hW => ?_)
  obtain ⟨r13, er13⟩ : ∃ z, z = upd θ 1 (nI 0) := ⟨_, rfl⟩
  rw [← er13] at hW
  refine lv_iload_n X.x X.b d_X_wipe_16 rfl (lv_at hl 0 rfl) ?_
  exact q_zret X rfl hW ⟨rfl, by rw [er13]⟩ d_X_wipe_17
