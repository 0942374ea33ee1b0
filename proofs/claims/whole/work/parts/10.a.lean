theorem d_X_within_0 : decode prog_1_method_44_code 0 = .ok (.iload_n 1, 1) := by decide +kernel
theorem d_X_within_1 : decode prog_1_method_44_code 1 = .ok (.iload_n 0, 1) := by decide +kernel
theorem d_X_within_2 : decode prog_1_method_44_code 2 = .ok (.if_icmp .gt 12, 3) := by decide +kernel
theorem d_X_within_5 : decode prog_1_method_44_code 5 = .ok (.iload_n 0, 1) := by decide +kernel
theorem d_X_within_6 : decode prog_1_method_44_code 6 = .ok (.iload_n 2, 1) := by decide +kernel
theorem d_X_within_7 : decode prog_1_method_44_code 7 = .ok (.if_icmp .gt 7, 3) := by decide +kernel
theorem d_X_within_10 : decode prog_1_method_44_code 10 = .ok (.iconst 1, 1) := by decide +kernel
theorem d_X_within_11 : decode prog_1_method_44_code 11 = .ok (.goto 4, 3) := by decide +kernel
theorem d_X_within_14 : decode prog_1_method_44_code 14 = .ok (.iconst 0, 1) := by decide +kernel
theorem d_X_within_15 : decode prog_1_method_44_code 15 = .ok (.ireturn, 1) := by decide +kernel
theorem d_Kd_clear_0 : decode prog_3_method_3_code 0 = .ok (.iload_n 0, 1) := by decide +kernel
theorem d_Kd_clear_1 : decode prog_3_method_3_code 1 = .ok (.tableswitch 54 1 6 #[39, 42, 45, 47, 49, 51], 39) := by decide +kernel
theorem d_Kd_clear_40 : decode prog_3_method_3_code 40 = .ok (.bipush 15, 2) := by decide +kernel
theorem d_Kd_clear_42 : decode prog_3_method_3_code 42 = .ok (.ireturn, 1) := by decide +kernel
theorem d_Kd_clear_43 : decode prog_3_method_3_code 43 = .ok (.bipush 6, 2) := by decide +kernel
theorem d_Kd_clear_45 : decode prog_3_method_3_code 45 = .ok (.ireturn, 1) := by decide +kernel
theorem d_Kd_clear_46 : decode prog_3_method_3_code 46 = .ok (.iconst 3, 1) := by decide +kernel
theorem d_Kd_clear_47 : decode prog_3_method_3_code 47 = .ok (.ireturn, 1) := by decide +kernel
theorem d_Kd_clear_48 : decode prog_3_method_3_code 48 = .ok (.iconst 2, 1) := by decide +kernel
theorem d_Kd_clear_49 : decode prog_3_method_3_code 49 = .ok (.ireturn, 1) := by decide +kernel
theorem d_Kd_clear_50 : decode prog_3_method_3_code 50 = .ok (.iconst 0, 1) := by decide +kernel
theorem d_Kd_clear_51 : decode prog_3_method_3_code 51 = .ok (.ireturn, 1) := by decide +kernel
theorem d_Kd_clear_52 : decode prog_3_method_3_code 52 = .ok (.bipush 7, 2) := by decide +kernel
theorem d_Kd_clear_54 : decode prog_3_method_3_code 54 = .ok (.ireturn, 1) := by decide +kernel
theorem d_Kd_clear_55 : decode prog_3_method_3_code 55 = .ok (.iconst 4, 1) := by decide +kernel
theorem d_Kd_clear_56 : decode prog_3_method_3_code 56 = .ok (.ireturn, 1) := by decide +kernel
theorem d_Kd_dim_0 : decode prog_3_method_4_code 0 = .ok (.iload_n 0, 1) := by decide +kernel
theorem d_Kd_dim_1 : decode prog_3_method_4_code 1 = .ok (.tableswitch 64 1 6 #[39, 41, 43, 45, 56, 58], 39) := by decide +kernel
theorem d_Kd_dim_40 : decode prog_3_method_4_code 40 = .ok (.iconst 1, 1) := by decide +kernel
theorem d_Kd_dim_41 : decode prog_3_method_4_code 41 = .ok (.ireturn, 1) := by decide +kernel
theorem d_Kd_dim_42 : decode prog_3_method_4_code 42 = .ok (.iconst 1, 1) := by decide +kernel
theorem d_Kd_dim_43 : decode prog_3_method_4_code 43 = .ok (.ireturn, 1) := by decide +kernel
theorem d_Kd_dim_44 : decode prog_3_method_4_code 44 = .ok (.iconst 0, 1) := by decide +kernel
theorem d_Kd_dim_45 : decode prog_3_method_4_code 45 = .ok (.ireturn, 1) := by decide +kernel
theorem d_Kd_dim_46 : decode prog_3_method_4_code 46 = .ok (.iload_n 1, 1) := by decide +kernel
theorem d_Kd_dim_47 : decode prog_3_method_4_code 47 = .ok (.iconst 3, 1) := by decide +kernel
theorem d_Kd_dim_48 : decode prog_3_method_4_code 48 = .ok (.if_icmp .lt 7, 3) := by decide +kernel
theorem d_Kd_dim_51 : decode prog_3_method_4_code 51 = .ok (.iconst 2, 1) := by decide +kernel
theorem d_Kd_dim_52 : decode prog_3_method_4_code 52 = .ok (.goto 4, 3) := by decide +kernel
theorem d_Kd_dim_55 : decode prog_3_method_4_code 55 = .ok (.iconst 0, 1) := by decide +kernel
theorem d_Kd_dim_56 : decode prog_3_method_4_code 56 = .ok (.ireturn, 1) := by decide +kernel
theorem d_Kd_dim_57 : decode prog_3_method_4_code 57 = .ok (.iconst 5, 1) := by decide +kernel
theorem d_Kd_dim_58 : decode prog_3_method_4_code 58 = .ok (.ireturn, 1) := by decide +kernel
theorem d_Kd_dim_59 : decode prog_3_method_4_code 59 = .ok (.iconst 1, 1) := by decide +kernel
theorem d_Kd_dim_60 : decode prog_3_method_4_code 60 = .ok (.iload_n 2, 1) := by decide +kernel
theorem d_Kd_dim_61 : decode prog_3_method_4_code 61 = .ok (.iconst 2, 1) := by decide +kernel
theorem d_Kd_dim_62 : decode prog_3_method_4_code 62 = .ok (.irem, 1) := by decide +kernel
theorem d_Kd_dim_63 : decode prog_3_method_4_code 63 = .ok (.iadd, 1) := by decide +kernel
theorem d_Kd_dim_64 : decode prog_3_method_4_code 64 = .ok (.ireturn, 1) := by decide +kernel
theorem d_Kd_dim_65 : decode prog_3_method_4_code 65 = .ok (.iconst 0, 1) := by decide +kernel
theorem d_Kd_dim_66 : decode prog_3_method_4_code 66 = .ok (.ireturn, 1) := by decide +kernel
theorem d_Kd_moves_0 : decode prog_3_method_5_code 0 = .ok (.iload_n 1, 1) := by decide +kernel
theorem d_Kd_moves_1 : decode prog_3_method_5_code 1 = .ok (.iconst 3, 1) := by decide +kernel
theorem d_Kd_moves_2 : decode prog_3_method_5_code 2 = .ok (.irem, 1) := by decide +kernel
theorem d_Kd_moves_3 : decode prog_3_method_5_code 3 = .ok (.ifCond .ne 7, 3) := by decide +kernel
theorem d_Kd_moves_6 : decode prog_3_method_5_code 6 = .ok (.iconst 1, 1) := by decide +kernel
theorem d_Kd_moves_7 : decode prog_3_method_5_code 7 = .ok (.goto 4, 3) := by decide +kernel
theorem d_Kd_moves_10 : decode prog_3_method_5_code 10 = .ok (.iconst 0, 1) := by decide +kernel
theorem d_Kd_moves_11 : decode prog_3_method_5_code 11 = .ok (.istore_n 2, 1) := by decide +kernel
theorem d_Kd_moves_12 : decode prog_3_method_5_code 12 = .ok (.iload_n 2, 1) := by decide +kernel
theorem d_Kd_moves_13 : decode prog_3_method_5_code 13 = .ok (.iconst 1, 1) := by decide +kernel
theorem d_Kd_moves_14 : decode prog_3_method_5_code 14 = .ok (.iadd, 1) := by decide +kernel
theorem d_Kd_moves_15 : decode prog_3_method_5_code 15 = .ok (.istore_n 3, 1) := by decide +kernel
theorem d_Kd_moves_16 : decode prog_3_method_5_code 16 = .ok (.iload_n 0, 1) := by decide +kernel
theorem d_Kd_moves_17 : decode prog_3_method_5_code 17 = .ok (.tableswitch 35 2 4 #[27, 29, 31], 27) := by decide +kernel
theorem d_Kd_moves_44 : decode prog_3_method_5_code 44 = .ok (.iload_n 2, 1) := by decide +kernel
theorem d_Kd_moves_45 : decode prog_3_method_5_code 45 = .ok (.ireturn, 1) := by decide +kernel
theorem d_Kd_moves_46 : decode prog_3_method_5_code 46 = .ok (.iload_n 3, 1) := by decide +kernel
theorem d_Kd_moves_47 : decode prog_3_method_5_code 47 = .ok (.ireturn, 1) := by decide +kernel
theorem d_Kd_moves_48 : decode prog_3_method_5_code 48 = .ok (.iconst 2, 1) := by decide +kernel
theorem d_Kd_moves_49 : decode prog_3_method_5_code 49 = .ok (.iload_n 3, 1) := by decide +kernel
theorem d_Kd_moves_50 : decode prog_3_method_5_code 50 = .ok (.imul, 1) := by decide +kernel
theorem d_Kd_moves_51 : decode prog_3_method_5_code 51 = .ok (.ireturn, 1) := by decide +kernel
theorem d_Kd_moves_52 : decode prog_3_method_5_code 52 = .ok (.iconst 0, 1) := by decide +kernel
theorem d_Kd_moves_53 : decode prog_3_method_5_code 53 = .ok (.ireturn, 1) := by decide +kernel
theorem d_Kd_touches_0 : decode prog_3_method_6_code 0 = .ok (.iload_n 0, 1) := by decide +kernel
theorem d_Kd_touches_1 : decode prog_3_method_6_code 1 = .ok (.tableswitch 53 1 6 #[39, 53, 41, 43, 39, 39], 39) := by decide +kernel
theorem d_Kd_touches_40 : decode prog_3_method_6_code 40 = .ok (.iconst 0, 1) := by decide +kernel
theorem d_Kd_touches_41 : decode prog_3_method_6_code 41 = .ok (.ireturn, 1) := by decide +kernel
theorem d_Kd_touches_42 : decode prog_3_method_6_code 42 = .ok (.iconst 1, 1) := by decide +kernel
theorem d_Kd_touches_43 : decode prog_3_method_6_code 43 = .ok (.ireturn, 1) := by decide +kernel
theorem d_Kd_touches_44 : decode prog_3_method_6_code 44 = .ok (.iload_n 1, 1) := by decide +kernel
theorem d_Kd_touches_45 : decode prog_3_method_6_code 45 = .ok (.ifCond .ne 7, 3) := by decide +kernel
theorem d_Kd_touches_48 : decode prog_3_method_6_code 48 = .ok (.iconst 1, 1) := by decide +kernel
theorem d_Kd_touches_49 : decode prog_3_method_6_code 49 = .ok (.goto 4, 3) := by decide +kernel
theorem d_Kd_touches_52 : decode prog_3_method_6_code 52 = .ok (.iconst 0, 1) := by decide +kernel
theorem d_Kd_touches_53 : decode prog_3_method_6_code 53 = .ok (.ireturn, 1) := by decide +kernel
theorem d_Kd_touches_54 : decode prog_3_method_6_code 54 = .ok (.iload_n 1, 1) := by decide +kernel
theorem d_Kd_touches_55 : decode prog_3_method_6_code 55 = .ok (.ireturn, 1) := by decide +kernel
theorem d_Cm_hasThing_0 : decode prog_2_method_3_code 0 = .ok (.iconst 0, 1) := by decide +kernel
theorem d_Cm_hasThing_1 : decode prog_2_method_3_code 1 = .ok (.iload_n 1, 1) := by decide +kernel
theorem d_Cm_hasThing_2 : decode prog_2_method_3_code 2 = .ok (.if_icmp .gt 15, 3) := by decide +kernel
theorem d_Cm_hasThing_5 : decode prog_2_method_3_code 5 = .ok (.iload_n 1, 1) := by decide +kernel
theorem d_Cm_hasThing_6 : decode prog_2_method_3_code 6 = .ok (.aload_n 0, 1) := by decide +kernel
theorem d_Cm_hasThing_7 : decode prog_2_method_3_code 7 = .ok (.getfield 26, 3) := by decide +kernel
theorem d_Cm_hasThing_10 : decode prog_2_method_3_code 10 = .ok (.if_icmp .ge 7, 3) := by decide +kernel
theorem d_Cm_hasThing_13 : decode prog_2_method_3_code 13 = .ok (.iconst 1, 1) := by decide +kernel
theorem d_Cm_hasThing_14 : decode prog_2_method_3_code 14 = .ok (.goto 4, 3) := by decide +kernel
theorem d_Cm_hasThing_17 : decode prog_2_method_3_code 17 = .ok (.iconst 0, 1) := by decide +kernel
theorem d_Cm_hasThing_18 : decode prog_2_method_3_code 18 = .ok (.ireturn, 1) := by decide +kernel
theorem d_Cm_hasWalker_0 : decode prog_2_method_4_code 0 = .ok (.iconst 0, 1) := by decide +kernel
theorem d_Cm_hasWalker_1 : decode prog_2_method_4_code 1 = .ok (.iload_n 1, 1) := by decide +kernel
theorem d_Cm_hasWalker_2 : decode prog_2_method_4_code 2 = .ok (.if_icmp .gt 15, 3) := by decide +kernel
theorem d_Cm_hasWalker_5 : decode prog_2_method_4_code 5 = .ok (.iload_n 1, 1) := by decide +kernel
theorem d_Cm_hasWalker_6 : decode prog_2_method_4_code 6 = .ok (.aload_n 0, 1) := by decide +kernel
theorem d_Cm_hasWalker_7 : decode prog_2_method_4_code 7 = .ok (.getfield 30, 3) := by decide +kernel
theorem d_Cm_hasWalker_10 : decode prog_2_method_4_code 10 = .ok (.if_icmp .ge 7, 3) := by decide +kernel
theorem d_Cm_hasWalker_13 : decode prog_2_method_4_code 13 = .ok (.iconst 1, 1) := by decide +kernel
theorem d_Cm_hasWalker_14 : decode prog_2_method_4_code 14 = .ok (.goto 4, 3) := by decide +kernel
theorem d_Cm_hasWalker_17 : decode prog_2_method_4_code 17 = .ok (.iconst 0, 1) := by decide +kernel
theorem d_Cm_hasWalker_18 : decode prog_2_method_4_code 18 = .ok (.ireturn, 1) := by decide +kernel
theorem d_Cm_canSee_0 : decode prog_2_method_8_code 0 = .ok (.aload_n 0, 1) := by decide +kernel
theorem d_Cm_canSee_1 : decode prog_2_method_8_code 1 = .ok (.getfield 17, 3) := by decide +kernel
theorem d_Cm_canSee_4 : decode prog_2_method_8_code 4 = .ok (.iload_n 2, 1) := by decide +kernel
theorem d_Cm_canSee_5 : decode prog_2_method_8_code 5 = .ok (.aaload, 1) := by decide +kernel
theorem d_Cm_canSee_6 : decode prog_2_method_8_code 6 = .ok (.astore_n 3, 1) := by decide +kernel
theorem d_Cm_canSee_7 : decode prog_2_method_8_code 7 = .ok (.aload_n 0, 1) := by decide +kernel
theorem d_Cm_canSee_8 : decode prog_2_method_8_code 8 = .ok (.getfield 20, 3) := by decide +kernel
theorem d_Cm_canSee_11 : decode prog_2_method_8_code 11 = .ok (.iload_n 1, 1) := by decide +kernel
theorem d_Cm_canSee_12 : decode prog_2_method_8_code 12 = .ok (.aaload, 1) := by decide +kernel
theorem d_Cm_canSee_13 : decode prog_2_method_8_code 13 = .ok (.iconst 3, 1) := by decide +kernel
theorem d_Cm_canSee_14 : decode prog_2_method_8_code 14 = .ok (.iaload, 1) := by decide +kernel
theorem d_Cm_canSee_15 : decode prog_2_method_8_code 15 = .ok (.iload_n 2, 1) := by decide +kernel
theorem d_Cm_canSee_16 : decode prog_2_method_8_code 16 = .ok (.ishr, 1) := by decide +kernel
theorem d_Cm_canSee_17 : decode prog_2_method_8_code 17 = .ok (.iconst 1, 1) := by decide +kernel
theorem d_Cm_canSee_18 : decode prog_2_method_8_code 18 = .ok (.iand, 1) := by decide +kernel
theorem d_Cm_canSee_19 : decode prog_2_method_8_code 19 = .ok (.iconst 1, 1) := by decide +kernel
theorem d_Cm_canSee_20 : decode prog_2_method_8_code 20 = .ok (.if_icmp .ne 7, 3) := by decide +kernel
theorem d_Cm_canSee_23 : decode prog_2_method_8_code 23 = .ok (.iconst 1, 1) := by decide +kernel
theorem d_Cm_canSee_24 : decode prog_2_method_8_code 24 = .ok (.goto 4, 3) := by decide +kernel
theorem d_Cm_canSee_27 : decode prog_2_method_8_code 27 = .ok (.iconst 0, 1) := by decide +kernel
theorem d_Cm_canSee_28 : decode prog_2_method_8_code 28 = .ok (.istore 4, 2) := by decide +kernel
theorem d_Cm_canSee_30 : decode prog_2_method_8_code 30 = .ok (.iload 4, 2) := by decide +kernel
theorem d_Cm_canSee_32 : decode prog_2_method_8_code 32 = .ok (.ifCond .eq 19, 3) := by decide +kernel
theorem d_Cm_canSee_35 : decode prog_2_method_8_code 35 = .ok (.aload_n 3, 1) := by decide +kernel
theorem d_Cm_canSee_36 : decode prog_2_method_8_code 36 = .ok (.iconst 0, 1) := by decide +kernel
theorem d_Cm_canSee_37 : decode prog_2_method_8_code 37 = .ok (.iaload, 1) := by decide +kernel
theorem d_Cm_canSee_38 : decode prog_2_method_8_code 38 = .ok (.aload_n 3, 1) := by decide +kernel
theorem d_Cm_canSee_39 : decode prog_2_method_8_code 39 = .ok (.iconst 2, 1) := by decide +kernel
theorem d_Cm_canSee_40 : decode prog_2_method_8_code 40 = .ok (.iaload, 1) := by decide +kernel
theorem d_Cm_canSee_41 : decode prog_2_method_8_code 41 = .ok (.aload_n 0, 1) := by decide +kernel
theorem d_Cm_canSee_42 : decode prog_2_method_8_code 42 = .ok (.getfield 33, 3) := by decide +kernel
theorem d_Cm_canSee_45 : decode prog_2_method_8_code 45 = .ok (.invokestatic 52, 3) := by decide +kernel
theorem d_Cm_canSee_48 : decode prog_2_method_8_code 48 = .ok (.goto 9, 3) := by decide +kernel
theorem d_Cm_canSee_51 : decode prog_2_method_8_code 51 = .ok (.aload_n 3, 1) := by decide +kernel
theorem d_Cm_canSee_52 : decode prog_2_method_8_code 52 = .ok (.iconst 0, 1) := by decide +kernel
theorem d_Cm_canSee_53 : decode prog_2_method_8_code 53 = .ok (.iaload, 1) := by decide +kernel
theorem d_Cm_canSee_54 : decode prog_2_method_8_code 54 = .ok (.invokestatic 58, 3) := by decide +kernel
theorem d_Cm_canSee_57 : decode prog_2_method_8_code 57 = .ok (.istore 5, 2) := by decide +kernel
theorem d_Cm_canSee_59 : decode prog_2_method_8_code 59 = .ok (.aload_n 0, 1) := by decide +kernel
theorem d_Cm_canSee_60 : decode prog_2_method_8_code 60 = .ok (.getfield 20, 3) := by decide +kernel
theorem d_Cm_canSee_63 : decode prog_2_method_8_code 63 = .ok (.iload_n 1, 1) := by decide +kernel
theorem d_Cm_canSee_64 : decode prog_2_method_8_code 64 = .ok (.aaload, 1) := by decide +kernel
theorem d_Cm_canSee_65 : decode prog_2_method_8_code 65 = .ok (.iconst 0, 1) := by decide +kernel
theorem d_Cm_canSee_66 : decode prog_2_method_8_code 66 = .ok (.iaload, 1) := by decide +kernel
theorem d_Cm_canSee_67 : decode prog_2_method_8_code 67 = .ok (.aload_n 3, 1) := by decide +kernel
theorem d_Cm_canSee_68 : decode prog_2_method_8_code 68 = .ok (.iconst 1, 1) := by decide +kernel
theorem d_Cm_canSee_69 : decode prog_2_method_8_code 69 = .ok (.iaload, 1) := by decide +kernel
theorem d_Cm_canSee_70 : decode prog_2_method_8_code 70 = .ok (.isub, 1) := by decide +kernel
theorem d_Cm_canSee_71 : decode prog_2_method_8_code 71 = .ok (.invokestatic 62, 3) := by decide +kernel
theorem d_Cm_canSee_74 : decode prog_2_method_8_code 74 = .ok (.iload 5, 2) := by decide +kernel
theorem d_Cm_canSee_76 : decode prog_2_method_8_code 76 = .ok (.if_icmp .gt 7, 3) := by decide +kernel
theorem d_Cm_canSee_79 : decode prog_2_method_8_code 79 = .ok (.iconst 1, 1) := by decide +kernel
theorem d_Cm_canSee_80 : decode prog_2_method_8_code 80 = .ok (.goto 4, 3) := by decide +kernel
theorem d_Cm_canSee_83 : decode prog_2_method_8_code 83 = .ok (.iconst 0, 1) := by decide +kernel
theorem d_Cm_canSee_84 : decode prog_2_method_8_code 84 = .ok (.ireturn, 1) := by decide +kernel
theorem d_Cm_findsWay_0 : decode prog_2_method_9_code 0 = .ok (.iconst 0, 1) := by decide +kernel
theorem d_Cm_findsWay_1 : decode prog_2_method_9_code 1 = .ok (.istore_n 3, 1) := by decide +kernel
theorem d_Cm_findsWay_2 : decode prog_2_method_9_code 2 = .ok (.iload_n 3, 1) := by decide +kernel
theorem d_Cm_findsWay_3 : decode prog_2_method_9_code 3 = .ok (.aload_n 0, 1) := by decide +kernel
theorem d_Cm_findsWay_4 : decode prog_2_method_9_code 4 = .ok (.getfield 30, 3) := by decide +kernel
theorem d_Cm_findsWay_7 : decode prog_2_method_9_code 7 = .ok (.if_icmp .ge 39, 3) := by decide +kernel
theorem d_Cm_findsWay_10 : decode prog_2_method_9_code 10 = .ok (.aload_n 0, 1) := by decide +kernel
theorem d_Cm_findsWay_11 : decode prog_2_method_9_code 11 = .ok (.getfield 20, 3) := by decide +kernel
theorem d_Cm_findsWay_14 : decode prog_2_method_9_code 14 = .ok (.iload_n 3, 1) := by decide +kernel
theorem d_Cm_findsWay_15 : decode prog_2_method_9_code 15 = .ok (.aaload, 1) := by decide +kernel
theorem d_Cm_findsWay_16 : decode prog_2_method_9_code 16 = .ok (.iconst 0, 1) := by decide +kernel
theorem d_Cm_findsWay_17 : decode prog_2_method_9_code 17 = .ok (.iaload, 1) := by decide +kernel
theorem d_Cm_findsWay_18 : decode prog_2_method_9_code 18 = .ok (.aload_n 0, 1) := by decide +kernel
theorem d_Cm_findsWay_19 : decode prog_2_method_9_code 19 = .ok (.getfield 20, 3) := by decide +kernel
theorem d_Cm_findsWay_22 : decode prog_2_method_9_code 22 = .ok (.iload_n 1, 1) := by decide +kernel
theorem d_Cm_findsWay_23 : decode prog_2_method_9_code 23 = .ok (.aaload, 1) := by decide +kernel
theorem d_Cm_findsWay_24 : decode prog_2_method_9_code 24 = .ok (.iconst 0, 1) := by decide +kernel
theorem d_Cm_findsWay_25 : decode prog_2_method_9_code 25 = .ok (.iaload, 1) := by decide +kernel
theorem d_Cm_findsWay_26 : decode prog_2_method_9_code 26 = .ok (.if_icmp .ne 14, 3) := by decide +kernel
theorem d_Cm_findsWay_29 : decode prog_2_method_9_code 29 = .ok (.aload_n 0, 1) := by decide +kernel
theorem d_Cm_findsWay_30 : decode prog_2_method_9_code 30 = .ok (.iload_n 3, 1) := by decide +kernel
theorem d_Cm_findsWay_31 : decode prog_2_method_9_code 31 = .ok (.iload_n 2, 1) := by decide +kernel
theorem d_Cm_findsWay_32 : decode prog_2_method_9_code 32 = .ok (.invokevirtual 67, 3) := by decide +kernel
theorem d_Cm_findsWay_35 : decode prog_2_method_9_code 35 = .ok (.ifCond .eq 5, 3) := by decide +kernel
theorem d_Cm_findsWay_38 : decode prog_2_method_9_code 38 = .ok (.iconst 1, 1) := by decide +kernel
theorem d_Cm_findsWay_39 : decode prog_2_method_9_code 39 = .ok (.ireturn, 1) := by decide +kernel
theorem d_Cm_findsWay_40 : decode prog_2_method_9_code 40 = .ok (.iinc 3 1, 3) := by decide +kernel
theorem d_Cm_findsWay_43 : decode prog_2_method_9_code 43 = .ok (.goto (-41), 3) := by decide +kernel
theorem d_Cm_findsWay_46 : decode prog_2_method_9_code 46 = .ok (.iconst 0, 1) := by decide +kernel
theorem d_Cm_findsWay_47 : decode prog_2_method_9_code 47 = .ok (.ireturn, 1) := by decide +kernel
set_option maxHeartbeats 1000000 in
set_option maxRecDepth 20000 in
theorem c_X_within (l : Launch) (E : QE) (S : QM) (v lo hi : Int32) : qCI E l y_X_within prog_1_method_44_code 3 .boolean 1 [.int v, .int lo, .int hi] S (b2i (lo ≤ v ∧ v ≤ hi)) S := by
  refine qCI_of (by decide) (Nat.le_of_ble_eq_true rfl) (fun p e s m below meth c ls X hW hl => ?_)
  have hl : lv_has ls 3 [(0, .int v), (1, .int lo), (2, .int hi)] := hl
  refine lv_iload_n X.x X.b d_X_within_0 rfl (lv_at hl 1 rfl) ?_
  refine lv_iload_n X.x X.b d_X_within_1 rfl (lv_at hl 0 rfl) ?_
  refine lv_icmp_gt (tgt := 14) X.x X.b d_X_within_2 (by decide) (fun c2 => ?_) (fun c2 => ?_)
  · refine lv_iconst (v := nI 0) X.x X.b d_X_within_14 (by decide) ?_
    exact q_zret X (by decide) hW ⟨(b2i_f (fun z => Int32.not_lt.mpr z.1 c2)).symm, rfl⟩ d_X_within_15
  · refine lv_iload_n X.x X.b d_X_within_5 rfl (lv_at hl 0 rfl) ?_
    refine lv_iload_n X.x X.b d_X_within_6 rfl (lv_at hl 2 rfl) ?_
    refine lv_icmp_gt (tgt := 14) X.x X.b d_X_within_7 (by decide) (fun c7 => ?_) (fun c7 => ?_)
    · refine lv_iconst (v := nI 0) X.x X.b d_X_within_14 (by decide) ?_
      exact q_zret X (by decide) hW ⟨(b2i_f (fun z => Int32.not_lt.mpr z.2 c7)).symm, rfl⟩ d_X_within_15
    · refine lv_iconst (v := nI 1) X.x X.b d_X_within_10 (by decide) ?_
      refine lv_goto (tgt := 15) X.x X.b d_X_within_11 (by decide) ?_
      exact q_zret X (by decide) hW ⟨(b2i_t ⟨Int32.not_lt.mp c2, Int32.not_lt.mp c7⟩).symm, rfl⟩ d_X_within_15
set_option maxHeartbeats 1000000 in
set_option maxRecDepth 20000 in
theorem c_Kd_clear (l : Launch) (E : QE) (S : QM) (kd : Int32) : qCI E l y_Kd_clear prog_3_method_3_code 1 .int 1 [.int kd] S (clr kd) S := by
  refine qCI_of (by decide) (Nat.le_of_ble_eq_true rfl) (fun p e s m below meth c ls X hW hl => ?_)
  have hl : lv_has ls 1 [(0, .int kd)] := hl
  refine lv_iload_n X.x X.b d_Kd_clear_0 rfl (lv_at hl 0 rfl) ?_
  by_cases c1_1 : kd = nI 1
  · refine W.eq (congrArg (fun z => F0 m 1 ls (.int z :: [])) c1_1) ?_
    refine lv_tableIn (tgt := 40) (off := 39) X.x X.b d_Kd_clear_1 (by decide) (by decide) (by decide) (by decide) ?_
    refine lv_bipush (v := nI 15) X.x X.b d_Kd_clear_40 (by decide) ?_
    exact q_zret X rfl hW ⟨by simp_all [clr]; try rfl, rfl⟩ d_Kd_clear_42
  by_cases c1_2 : kd = nI 2
  · refine W.eq (congrArg (fun z => F0 m 1 ls (.int z :: [])) c1_2) ?_
    refine lv_tableIn (tgt := 43) (off := 42) X.x X.b d_Kd_clear_1 (by decide) (by decide) (by decide) (by decide) ?_
    refine lv_bipush (v := nI 6) X.x X.b d_Kd_clear_43 (by decide) ?_
    exact q_zret X rfl hW ⟨by simp_all [clr]; try rfl, rfl⟩ d_Kd_clear_45
  by_cases c1_3 : kd = nI 3
  · refine W.eq (congrArg (fun z => F0 m 1 ls (.int z :: [])) c1_3) ?_
    refine lv_tableIn (tgt := 46) (off := 45) X.x X.b d_Kd_clear_1 (by decide) (by decide) (by decide) (by decide) ?_
    refine lv_iconst (v := nI 3) X.x X.b d_Kd_clear_46 (by decide) ?_
    exact q_zret X rfl hW ⟨by simp_all [clr]; try rfl, rfl⟩ d_Kd_clear_47
  by_cases c1_4 : kd = nI 4
  · refine W.eq (congrArg (fun z => F0 m 1 ls (.int z :: [])) c1_4) ?_
    refine lv_tableIn (tgt := 48) (off := 47) X.x X.b d_Kd_clear_1 (by decide) (by decide) (by decide) (by decide) ?_
    refine lv_iconst (v := nI 2) X.x X.b d_Kd_clear_48 (by decide) ?_
    exact q_zret X rfl hW ⟨by simp_all [clr]; try rfl, rfl⟩ d_Kd_clear_49
  by_cases c1_5 : kd = nI 5
  · refine W.eq (congrArg (fun z => F0 m 1 ls (.int z :: [])) c1_5) ?_
    refine lv_tableIn (tgt := 50) (off := 49) X.x X.b d_Kd_clear_1 (by decide) (by decide) (by decide) (by decide) ?_
    refine lv_iconst (v := nI 0) X.x X.b d_Kd_clear_50 (by decide) ?_
    exact q_zret X rfl hW ⟨by simp_all [clr]; try rfl, rfl⟩ d_Kd_clear_51
  by_cases c1_6 : kd = nI 6
  · refine W.eq (congrArg (fun z => F0 m 1 ls (.int z :: [])) c1_6) ?_
    refine lv_tableIn (tgt := 52) (off := 51) X.x X.b d_Kd_clear_1 (by decide) (by decide) (by decide) (by decide) ?_
    refine lv_bipush (v := nI 7) X.x X.b d_Kd_clear_52 (by decide) ?_
    exact q_zret X rfl hW ⟨by simp_all [clr]; try rfl, rfl⟩ d_Kd_clear_54
  refine lv_tableOut (tgt := 55) X.x X.b d_Kd_clear_1 (by have qc1_1 := lv_neT c1_1 (by decide : Int32.toInt (nI 1) = 1); have qc1_2 := lv_neT c1_2 (by decide : Int32.toInt (nI 2) = 2); have qc1_3 := lv_neT c1_3 (by decide : Int32.toInt (nI 3) = 3); have qc1_4 := lv_neT c1_4 (by decide : Int32.toInt (nI 4) = 4); have qc1_5 := lv_neT c1_5 (by decide : Int32.toInt (nI 5) = 5); have qc1_6 := lv_neT c1_6 (by decide : Int32.toInt (nI 6) = 6); omega) (by decide) ?_
  refine lv_iconst (v := nI 4) X.x X.b d_Kd_clear_55 (by decide) ?_
  exact q_zret X rfl hW ⟨by simp_all [clr]; try rfl, rfl⟩ d_Kd_clear_56
set_option maxHeartbeats 1000000 in
set_option maxRecDepth 20000 in
theorem c_Kd_dim (l : Launch) (E : QE) (S : QM) (kd met day : Int32) : qCI E l y_Kd_dim prog_3_method_4_code 3 .int 1 [.int kd, .int met, .int day] S (dmm kd met day) S := by
  refine qCI_of (by decide) (Nat.le_of_ble_eq_true rfl) (fun p e s m below meth c ls X hW hl => ?_)
  have hl : lv_has ls 3 [(0, .int kd), (1, .int met), (2, .int day)] := hl
  refine lv_iload_n X.x X.b d_Kd_dim_0 rfl (lv_at hl 0 rfl) ?_
  by_cases c1_1 : kd = nI 1
  · refine W.eq (congrArg (fun z => F0 m 1 ls (.int z :: [])) c1_1) ?_
    refine lv_tableIn (tgt := 40) (off := 39) X.x X.b d_Kd_dim_1 (by decide) (by decide) (by decide) (by decide) ?_
    refine lv_iconst (v := nI 1) X.x X.b d_Kd_dim_40 (by decide) ?_
    exact q_zret X rfl hW ⟨by simp_all [dmm, ← Int32.not_lt]; try rfl, rfl⟩ d_Kd_dim_41
  by_cases c1_2 : kd = nI 2
  · refine W.eq (congrArg (fun z => F0 m 1 ls (.int z :: [])) c1_2) ?_
    refine lv_tableIn (tgt := 42) (off := 41) X.x X.b d_Kd_dim_1 (by decide) (by decide) (by decide) (by decide) ?_
    refine lv_iconst (v := nI 1) X.x X.b d_Kd_dim_42 (by decide) ?_
    exact q_zret X rfl hW ⟨by simp_all [dmm, ← Int32.not_lt]; try rfl, rfl⟩ d_Kd_dim_43
  by_cases c1_3 : kd = nI 3
  · refine W.eq (congrArg (fun z => F0 m 1 ls (.int z :: [])) c1_3) ?_
    refine lv_tableIn (tgt := 44) (off := 43) X.x X.b d_Kd_dim_1 (by decide) (by decide) (by decide) (by decide) ?_
    refine lv_iconst (v := nI 0) X.x X.b d_Kd_dim_44 (by decide) ?_
    exact q_zret X rfl hW ⟨by simp_all [dmm, ← Int32.not_lt]; try rfl, rfl⟩ d_Kd_dim_45
  by_cases c1_4 : kd = nI 4
  · refine W.eq (congrArg (fun z => F0 m 1 ls (.int z :: [])) c1_4) ?_
    refine lv_tableIn (tgt := 46) (off := 45) X.x X.b d_Kd_dim_1 (by decide) (by decide) (by decide) (by decide) ?_
    refine lv_iload_n X.x X.b d_Kd_dim_46 rfl (lv_at hl 1 rfl) ?_
    refine lv_iconst (v := nI 3) X.x X.b d_Kd_dim_47 (by decide) ?_
    refine lv_icmp_lt (tgt := 55) X.x X.b d_Kd_dim_48 (by decide) (fun c48 => ?_) (fun c48 => ?_)
    · refine lv_iconst (v := nI 0) X.x X.b d_Kd_dim_55 (by decide) ?_
      exact q_zret X rfl hW ⟨by simp_all [dmm, ← Int32.not_lt]; try rfl, rfl⟩ d_Kd_dim_56
    · refine lv_iconst (v := nI 2) X.x X.b d_Kd_dim_51 (by decide) ?_
      refine lv_goto (tgt := 56) X.x X.b d_Kd_dim_52 (by decide) ?_
      exact q_zret X rfl hW ⟨by simp_all [dmm, ← Int32.not_lt]; try rfl, rfl⟩ d_Kd_dim_56
  by_cases c1_5 : kd = nI 5
  · refine W.eq (congrArg (fun z => F0 m 1 ls (.int z :: [])) c1_5) ?_
    refine lv_tableIn (tgt := 57) (off := 56) X.x X.b d_Kd_dim_1 (by decide) (by decide) (by decide) (by decide) ?_
    refine lv_iconst (v := nI 5) X.x X.b d_Kd_dim_57 (by decide) ?_
    exact q_zret X rfl hW ⟨by simp_all [dmm, ← Int32.not_lt]; try rfl, rfl⟩ d_Kd_dim_58
  by_cases c1_6 : kd = nI 6
  · refine W.eq (congrArg (fun z => F0 m 1 ls (.int z :: [])) c1_6) ?_
    refine lv_tableIn (tgt := 59) (off := 58) X.x X.b d_Kd_dim_1 (by decide) (by decide) (by decide) (by decide) ?_
    refine lv_iconst (v := nI 1) X.x X.b d_Kd_dim_59 (by decide) ?_
    refine lv_iload_n X.x X.b d_Kd_dim_60 rfl (lv_at hl 2 rfl) ?_
    refine lv_iconst (v := nI 2) X.x X.b d_Kd_dim_61 (by decide) ?_
    refine lv_irem X.x X.b d_Kd_dim_62 (by decide) ?_
    refine lv_iadd X.x X.b d_Kd_dim_63 ?_
    exact q_zret X rfl hW ⟨by simp_all [dmm, ← Int32.not_lt]; try rfl, rfl⟩ d_Kd_dim_64
  refine lv_tableOut (tgt := 65) X.x X.b d_Kd_dim_1 (by have qc1_1 := lv_neT c1_1 (by decide : Int32.toInt (nI 1) = 1); have qc1_2 := lv_neT c1_2 (by decide : Int32.toInt (nI 2) = 2); have qc1_3 := lv_neT c1_3 (by decide : Int32.toInt (nI 3) = 3); have qc1_4 := lv_neT c1_4 (by decide : Int32.toInt (nI 4) = 4); have qc1_5 := lv_neT c1_5 (by decide : Int32.toInt (nI 5) = 5); have qc1_6 := lv_neT c1_6 (by decide : Int32.toInt (nI 6) = 6); omega) (by decide) ?_
  refine lv_iconst (v := nI 0) X.x X.b d_Kd_dim_65 (by decide) ?_
  exact q_zret X rfl hW ⟨by simp_all [dmm, ← Int32.not_lt]; try rfl, rfl⟩ d_Kd_dim_66
set_option maxHeartbeats 1000000 in
set_option maxRecDepth 20000 in
theorem c_Kd_moves (l : Launch) (E : QE) (S : QM) (kd day : Int32) : qCI E l y_Kd_moves prog_3_method_5_code 4 .int 1 [.int kd, .int day] S (mvs kd day) S := by
  refine qCI_of (by decide) (Nat.le_of_ble_eq_true rfl) (fun p e s m below meth c ls X hW hl => ?_)
  have hl : lv_has ls 4 [(0, .int kd), (1, .int day)] := hl
  refine lv_iload_n X.x X.b d_Kd_moves_0 rfl (lv_at hl 1 rfl) ?_
  refine lv_iconst (v := nI 3) X.x X.b d_Kd_moves_1 (by decide) ?_
  refine lv_irem X.x X.b d_Kd_moves_2 (by decide) ?_
  refine lv_if_ne (tgt := 10) X.x X.b d_Kd_moves_3 (by decide) (fun c3 => ?_) (fun c3 => ?_)
  · refine lv_iconst (v := nI 0) X.x X.b d_Kd_moves_10 (by decide) ?_
    refine lv_istore_n (lv' := [(2, .int (nI 0)), (0, .int kd), (1, .int day)]) X.x X.b d_Kd_moves_11 rfl hl (by decide) rfl (fun ls hl => ?_)
    refine lv_iload_n X.x X.b d_Kd_moves_12 rfl (lv_at hl 0 rfl) ?_
    refine lv_iconst (v := nI 1) X.x X.b d_Kd_moves_13 (by decide) ?_
    refine lv_iadd X.x X.b d_Kd_moves_14 ?_
    rw [nI_add]
    refine lv_istore_n (lv' := [(3, .int (nI (0 + 1))), (2, .int (nI 0)), (0, .int kd), (1, .int day)]) X.x X.b d_Kd_moves_15 rfl hl (by decide) rfl (fun ls hl => ?_)
    refine lv_iload_n X.x X.b d_Kd_moves_16 rfl (lv_at hl 2 rfl) ?_
    by_cases c17_2 : kd = nI 2
    · refine W.eq (congrArg (fun z => F0 m 17 ls (.int z :: [])) c17_2) ?_
      refine lv_tableIn (tgt := 44) (off := 27) X.x X.b d_Kd_moves_17 (by decide) (by decide) (by decide) (by decide) ?_
      refine lv_iload_n X.x X.b d_Kd_moves_44 rfl (lv_at hl 1 rfl) ?_
      exact q_zret X rfl hW ⟨by simp_all [mvs, b2i]; try rfl, rfl⟩ d_Kd_moves_45
    by_cases c17_3 : kd = nI 3
    · refine W.eq (congrArg (fun z => F0 m 17 ls (.int z :: [])) c17_3) ?_
      refine lv_tableIn (tgt := 46) (off := 29) X.x X.b d_Kd_moves_17 (by decide) (by decide) (by decide) (by decide) ?_
      refine lv_iload_n X.x X.b d_Kd_moves_46 rfl (lv_at hl 0 rfl) ?_
      exact q_zret X rfl hW ⟨by simp_all [mvs, b2i]; try rfl, rfl⟩ d_Kd_moves_47
    by_cases c17_4 : kd = nI 4
    · refine W.eq (congrArg (fun z => F0 m 17 ls (.int z :: [])) c17_4) ?_
      refine lv_tableIn (tgt := 48) (off := 31) X.x X.b d_Kd_moves_17 (by decide) (by decide) (by decide) (by decide) ?_
      refine lv_iconst (v := nI 2) X.x X.b d_Kd_moves_48 (by decide) ?_
      refine lv_iload_n X.x X.b d_Kd_moves_49 rfl (lv_at hl 0 rfl) ?_
      refine lv_imul X.x X.b d_Kd_moves_50 ?_
      rw [pk_mul]
      exact q_zret X rfl hW ⟨by simp_all [mvs, b2i]; try rfl, rfl⟩ d_Kd_moves_51
    refine lv_tableOut (tgt := 52) X.x X.b d_Kd_moves_17 (by have qc17_2 := lv_neT c17_2 (by decide : Int32.toInt (nI 2) = 2); have qc17_3 := lv_neT c17_3 (by decide : Int32.toInt (nI 3) = 3); have qc17_4 := lv_neT c17_4 (by decide : Int32.toInt (nI 4) = 4); omega) (by decide) ?_
    refine lv_iconst (v := nI 0) X.x X.b d_Kd_moves_52 (by decide) ?_
    exact q_zret X rfl hW ⟨by simp_all [mvs, b2i]; try rfl, rfl⟩ d_Kd_moves_53
  · refine lv_iconst (v := nI 1) X.x X.b d_Kd_moves_6 (by decide) ?_
    refine lv_goto (tgt := 11) X.x X.b d_Kd_moves_7 (by decide) ?_
    refine lv_istore_n (lv' := [(2, .int (nI 1)), (0, .int kd), (1, .int day)]) X.x X.b d_Kd_moves_11 rfl hl (by decide) rfl (fun ls hl => ?_)
    refine lv_iload_n X.x X.b d_Kd_moves_12 rfl (lv_at hl 0 rfl) ?_
    refine lv_iconst (v := nI 1) X.x X.b d_Kd_moves_13 (by decide) ?_
    refine lv_iadd X.x X.b d_Kd_moves_14 ?_
    rw [nI_add]
    refine lv_istore_n (lv' := [(3, .int (nI (1 + 1))), (2, .int (nI 1)), (0, .int kd), (1, .int day)]) X.x X.b d_Kd_moves_15 rfl hl (by decide) rfl (fun ls hl => ?_)
    refine lv_iload_n X.x X.b d_Kd_moves_16 rfl (lv_at hl 2 rfl) ?_
    by_cases c17_2 : kd = nI 2
    · refine W.eq (congrArg (fun z => F0 m 17 ls (.int z :: [])) c17_2) ?_
      refine lv_tableIn (tgt := 44) (off := 27) X.x X.b d_Kd_moves_17 (by decide) (by decide) (by decide) (by decide) ?_
      refine lv_iload_n X.x X.b d_Kd_moves_44 rfl (lv_at hl 1 rfl) ?_
      exact q_zret X rfl hW ⟨by simp_all [mvs, b2i]; try rfl, rfl⟩ d_Kd_moves_45
    by_cases c17_3 : kd = nI 3
    · refine W.eq (congrArg (fun z => F0 m 17 ls (.int z :: [])) c17_3) ?_
      refine lv_tableIn (tgt := 46) (off := 29) X.x X.b d_Kd_moves_17 (by decide) (by decide) (by decide) (by decide) ?_
      refine lv_iload_n X.x X.b d_Kd_moves_46 rfl (lv_at hl 0 rfl) ?_
      exact q_zret X rfl hW ⟨by simp_all [mvs, b2i]; try rfl, rfl⟩ d_Kd_moves_47
    by_cases c17_4 : kd = nI 4
    · refine W.eq (congrArg (fun z => F0 m 17 ls (.int z :: [])) c17_4) ?_
      refine lv_tableIn (tgt := 48) (off := 31) X.x X.b d_Kd_moves_17 (by decide) (by decide) (by decide) (by decide) ?_
      refine lv_iconst (v := nI 2) X.x X.b d_Kd_moves_48 (by decide) ?_
      refine lv_iload_n X.x X.b d_Kd_moves_49 rfl (lv_at hl 0 rfl) ?_
      refine lv_imul X.x X.b d_Kd_moves_50 ?_
      rw [pk_mul]
      exact q_zret X rfl hW ⟨by simp_all [mvs, b2i]; try rfl, rfl⟩ d_Kd_moves_51
    refine lv_tableOut (tgt := 52) X.x X.b d_Kd_moves_17 (by have qc17_2 := lv_neT c17_2 (by decide : Int32.toInt (nI 2) = 2); have qc17_3 := lv_neT c17_3 (by decide : Int32.toInt (nI 3) = 3); have qc17_4 := lv_neT c17_4 (by decide : Int32.toInt (nI 4) = 4); omega) (by decide) ?_
    refine lv_iconst (v := nI 0) X.x X.b d_Kd_moves_52 (by decide) ?_
    exact q_zret X rfl hW ⟨by simp_all [mvs, b2i]; try rfl, rfl⟩ d_Kd_moves_53
set_option maxHeartbeats 1000000 in
set_option maxRecDepth 20000 in
theorem c_Kd_touches (l : Launch) (E : QE) (S : QM) (kd cd : Int32) (hcd : cd = nI 0 ∨ cd = nI 1) : qCI E l y_Kd_touches prog_3_method_6_code 2 .boolean 1 [.int kd, .int cd] S (tch kd cd) S := by
  refine qCI_of (by decide) (Nat.le_of_ble_eq_true rfl) (fun p e s m below meth c ls X hW hl => ?_)
  have hl : lv_has ls 2 [(0, .int kd), (1, .int cd)] := hl
  refine lv_iload_n X.x X.b d_Kd_touches_0 rfl (lv_at hl 0 rfl) ?_
  by_cases c1_1 : kd = nI 1
  · refine W.eq (congrArg (fun z => F0 m 1 ls (.int z :: [])) c1_1) ?_
    refine lv_tableIn (tgt := 40) (off := 39) X.x X.b d_Kd_touches_1 (by decide) (by decide) (by decide) (by decide) ?_
    refine lv_iconst (v := nI 0) X.x X.b d_Kd_touches_40 (by decide) ?_
    exact q_zret X (by decide) hW ⟨by simp_all [tch, b2i]; try rfl, rfl⟩ d_Kd_touches_41
  by_cases c1_2 : kd = nI 2
  · refine W.eq (congrArg (fun z => F0 m 1 ls (.int z :: [])) c1_2) ?_
    refine lv_tableIn (tgt := 54) (off := 53) X.x X.b d_Kd_touches_1 (by decide) (by decide) (by decide) (by decide) ?_
    refine lv_iload_n X.x X.b d_Kd_touches_54 rfl (lv_at hl 1 rfl) ?_
    exact q_zret X (by rcases hcd with h | h <;> rw [h] <;> rfl) hW ⟨by simp_all [tch, b2i]; try rfl, rfl⟩ d_Kd_touches_55
  by_cases c1_3 : kd = nI 3
  · refine W.eq (congrArg (fun z => F0 m 1 ls (.int z :: [])) c1_3) ?_
    refine lv_tableIn (tgt := 42) (off := 41) X.x X.b d_Kd_touches_1 (by decide) (by decide) (by decide) (by decide) ?_
    refine lv_iconst (v := nI 1) X.x X.b d_Kd_touches_42 (by decide) ?_
    exact q_zret X (by decide) hW ⟨by simp_all [tch, b2i]; try rfl, rfl⟩ d_Kd_touches_43
  by_cases c1_4 : kd = nI 4
  · refine W.eq (congrArg (fun z => F0 m 1 ls (.int z :: [])) c1_4) ?_
    refine lv_tableIn (tgt := 44) (off := 43) X.x X.b d_Kd_touches_1 (by decide) (by decide) (by decide) (by decide) ?_
    refine lv_iload_n X.x X.b d_Kd_touches_44 rfl (lv_at hl 1 rfl) ?_
    refine lv_if_ne (tgt := 52) X.x X.b d_Kd_touches_45 (by decide) (fun c45 => ?_) (fun c45 => ?_)
    · refine lv_iconst (v := nI 0) X.x X.b d_Kd_touches_52 (by decide) ?_
      exact q_zret X (by decide) hW ⟨by simp_all [tch, b2i]; try rfl, rfl⟩ d_Kd_touches_53
    · refine lv_iconst (v := nI 1) X.x X.b d_Kd_touches_48 (by decide) ?_
      refine lv_goto (tgt := 53) X.x X.b d_Kd_touches_49 (by decide) ?_
      exact q_zret X (by decide) hW ⟨by simp_all [tch, b2i]; try rfl, rfl⟩ d_Kd_touches_53
  by_cases c1_5 : kd = nI 5
  · refine W.eq (congrArg (fun z => F0 m 1 ls (.int z :: [])) c1_5) ?_
    refine lv_tableIn (tgt := 40) (off := 39) X.x X.b d_Kd_touches_1 (by decide) (by decide) (by decide) (by decide) ?_
    refine lv_iconst (v := nI 0) X.x X.b d_Kd_touches_40 (by decide) ?_
    exact q_zret X (by decide) hW ⟨by simp_all [tch, b2i]; try rfl, rfl⟩ d_Kd_touches_41
  by_cases c1_6 : kd = nI 6
  · refine W.eq (congrArg (fun z => F0 m 1 ls (.int z :: [])) c1_6) ?_
    refine lv_tableIn (tgt := 40) (off := 39) X.x X.b d_Kd_touches_1 (by decide) (by decide) (by decide) (by decide) ?_
    refine lv_iconst (v := nI 0) X.x X.b d_Kd_touches_40 (by decide) ?_
    exact q_zret X (by decide) hW ⟨by simp_all [tch, b2i]; try rfl, rfl⟩ d_Kd_touches_41
  refine lv_tableOut (tgt := 54) X.x X.b d_Kd_touches_1 (by have qc1_1 := lv_neT c1_1 (by decide : Int32.toInt (nI 1) = 1); have qc1_2 := lv_neT c1_2 (by decide : Int32.toInt (nI 2) = 2); have qc1_3 := lv_neT c1_3 (by decide : Int32.toInt (nI 3) = 3); have qc1_4 := lv_neT c1_4 (by decide : Int32.toInt (nI 4) = 4); have qc1_5 := lv_neT c1_5 (by decide : Int32.toInt (nI 5) = 5); have qc1_6 := lv_neT c1_6 (by decide : Int32.toInt (nI 6) = 6); omega) (by decide) ?_
  refine lv_iload_n X.x X.b d_Kd_touches_54 rfl (lv_at hl 1 rfl) ?_
  exact q_zret X (by rcases hcd with h | h <;> rw [h] <;> rfl) hW ⟨by simp_all [tch, b2i]; try rfl, rfl⟩ d_Kd_touches_55
set_option maxHeartbeats 1000000 in
set_option maxRecDepth 20000 in
theorem c_Cm_hasThing (l : Launch) (E : QE) (k : Nat) (hk : k < 3) (S : QM) (ρ : Nat → Int32) (hρ : S k = ρ) (hwf : WF ρ) (x : Int32) : qCI E l y_Cm_hasThing prog_2_method_3_code 2 .boolean 1 [.ref (eA E (cB k)), .int x] S (b2i (isT ρ x)) S := by
  refine qCI_of (by decide) (Nat.le_of_ble_eq_true rfl) (fun p e s m below meth c ls X hW hl => ?_)
  have hl : lv_has ls 2 [(0, .ref (eA E (cB k))), (1, .int x)] := hl
  have htl := hwf.tl
  have hwl := hwf.wl
  have hdl := hwf.dl
  refine lv_iconst (v := nI 0) X.x X.b d_Cm_hasThing_0 (by decide) ?_
  refine lv_iload_n X.x X.b d_Cm_hasThing_1 rfl (lv_at hl 1 rfl) ?_
  refine lv_icmp_gt (tgt := 17) X.x X.b d_Cm_hasThing_2 (by decide) (fun c2 => ?_) (fun c2 => ?_)
  · refine lv_iconst (v := nI 0) X.x X.b d_Cm_hasThing_17 (by decide) ?_
    exact q_zret X (by decide) hW ⟨(b2i_f (fun z => Int32.not_lt.mpr z.1 c2)).symm, rfl⟩ d_Cm_hasThing_18
  · refine lv_iload_n X.x X.b d_Cm_hasThing_5 rfl (lv_at hl 1 rfl) ?_
    refine lv_aload_n X.x X.b d_Cm_hasThing_6 rfl (lv_at hl 0 rfl) ?_
    refine g_geti X hW qj0 rfl _ (ds_cm hk) 4 (by decide) mw_109 rfl (r0 := k) (p0 := 1) rfl (v := ρ 1) (by rw [hρ]) d_Cm_hasThing_7 ?_
    refine lv_icmp_ge (tgt := 17) X.x X.b d_Cm_hasThing_10 (by decide) (fun c10 => ?_) (fun c10 => ?_)
    · refine lv_iconst (v := nI 0) X.x X.b d_Cm_hasThing_17 (by decide) ?_
      exact q_zret X (by decide) hW ⟨(b2i_f (fun z => Int32.not_le.mpr z.2 c10)).symm, rfl⟩ d_Cm_hasThing_18
    · refine lv_iconst (v := nI 1) X.x X.b d_Cm_hasThing_13 (by decide) ?_
      refine lv_goto (tgt := 18) X.x X.b d_Cm_hasThing_14 (by decide) ?_
      exact q_zret X (by decide) hW ⟨(b2i_t ⟨Int32.not_lt.mp c2, Int32.not_le.mp c10⟩).symm, rfl⟩ d_Cm_hasThing_18
set_option maxHeartbeats 1000000 in
set_option maxRecDepth 20000 in
theorem c_Cm_hasWalker (l : Launch) (E : QE) (k : Nat) (hk : k < 3) (S : QM) (ρ : Nat → Int32) (hρ : S k = ρ) (hwf : WF ρ) (x : Int32) : qCI E l y_Cm_hasWalker prog_2_method_4_code 2 .boolean 1 [.ref (eA E (cB k)), .int x] S (b2i (isW ρ x)) S := by
  refine qCI_of (by decide) (Nat.le_of_ble_eq_true rfl) (fun p e s m below meth c ls X hW hl => ?_)
  have hl : lv_has ls 2 [(0, .ref (eA E (cB k))), (1, .int x)] := hl
  have htl := hwf.tl
  have hwl := hwf.wl
  have hdl := hwf.dl
  refine lv_iconst (v := nI 0) X.x X.b d_Cm_hasWalker_0 (by decide) ?_
  refine lv_iload_n X.x X.b d_Cm_hasWalker_1 rfl (lv_at hl 1 rfl) ?_
  refine lv_icmp_gt (tgt := 17) X.x X.b d_Cm_hasWalker_2 (by decide) (fun c2 => ?_) (fun c2 => ?_)
  · refine lv_iconst (v := nI 0) X.x X.b d_Cm_hasWalker_17 (by decide) ?_
    exact q_zret X (by decide) hW ⟨(b2i_f (fun z => Int32.not_lt.mpr z.1 c2)).symm, rfl⟩ d_Cm_hasWalker_18
  · refine lv_iload_n X.x X.b d_Cm_hasWalker_5 rfl (lv_at hl 1 rfl) ?_
    refine lv_aload_n X.x X.b d_Cm_hasWalker_6 rfl (lv_at hl 0 rfl) ?_
    refine g_geti X hW qj0 rfl _ (ds_cm hk) 5 (by decide) mw_112 rfl (r0 := k) (p0 := 3) rfl (v := ρ 3) (by rw [hρ]) d_Cm_hasWalker_7 ?_
    refine lv_icmp_ge (tgt := 17) X.x X.b d_Cm_hasWalker_10 (by decide) (fun c10 => ?_) (fun c10 => ?_)
    · refine lv_iconst (v := nI 0) X.x X.b d_Cm_hasWalker_17 (by decide) ?_
      exact q_zret X (by decide) hW ⟨(b2i_f (fun z => Int32.not_le.mpr z.2 c10)).symm, rfl⟩ d_Cm_hasWalker_18
    · refine lv_iconst (v := nI 1) X.x X.b d_Cm_hasWalker_13 (by decide) ?_
      refine lv_goto (tgt := 18) X.x X.b d_Cm_hasWalker_14 (by decide) ?_
      exact q_zret X (by decide) hW ⟨(b2i_t ⟨Int32.not_lt.mp c2, Int32.not_le.mp c10⟩).symm, rfl⟩ d_Cm_hasWalker_18
set_option maxHeartbeats 1000000 in
set_option maxRecDepth 20000 in
theorem c_Cm_canSee (l : Launch) (E : QE) (k : Nat) (hk : k < 3) (S : QM) (ρ : Nat → Int32) (hρ : S k = ρ) (hwf : WF ρ) (w t : Nat) (hw : w < nW ρ) (ht : t < nT ρ) : qCI E l y_Cm_canSee prog_2_method_8_code 6 .boolean 2 [.ref (eA E (cB k)), .int (nI w), .int (nI t)] S (b2i (see ρ w t)) S := by
  refine qCI_of (by decide) (Nat.le_of_ble_eq_true rfl) (fun p e s m below meth c ls X hW hl => ?_)
  have hl : lv_has ls 6 [(0, .ref (eA E (cB k))), (1, .int (nI w)), (2, .int (nI t))] := hl
  have htl := hwf.tl
  have hwl := hwf.wl
  have hdl := hwf.dl
  refine lv_aload_n X.x X.b d_Cm_canSee_0 rfl (lv_at hl 0 rfl) ?_
  refine q_getr X hW qj0 rfl _ (ds_cm hk) 1 (by decide) mw_102 rfl (c1 := cB k + 2) rfl d_Cm_canSee_1 ?_
  refine lv_iload_n X.x X.b d_Cm_canSee_4 rfl (lv_at hl 2 rfl) ?_
  refine g_th hk X hW (show t < 8 by omega) d_Cm_canSee_5 ?_
  refine lv_astore_n (lv' := [(3, .ref (eA E (cB k + 5 + t))), (0, .ref (eA E (cB k))), (1, .int (nI w)), (2, .int (nI t))]) X.x X.b d_Cm_canSee_6 rfl hl (by decide) rfl (fun ls hl => ?_)
  refine lv_aload_n X.x X.b d_Cm_canSee_7 rfl (lv_at hl 1 rfl) ?_
  refine q_getr X hW qj0 rfl _ (ds_cm hk) 2 (by decide) mw_104 rfl (c1 := cB k + 3) rfl d_Cm_canSee_8 ?_
  refine lv_iload_n X.x X.b d_Cm_canSee_11 rfl (lv_at hl 2 rfl) ?_
  refine g_wk hk X hW (show w < 6 by omega) d_Cm_canSee_12 ?_
  refine lv_iconst (v := nI 3) X.x X.b d_Cm_canSee_13 (by decide) ?_
  refine g_ald X hW (ds_w (w := w) hk (by omega)) (q_in (by omega) (by decide)) (p0 := 44 + 6 * w + 3) (q_tn (by omega) (by omega)) (v := ρ (44 + 6 * w + 3)) (by rw [hρ]) d_Cm_canSee_14 ?_
  refine lv_iload_n X.x X.b d_Cm_canSee_15 rfl (lv_at hl 3 rfl) ?_
  refine lv_ishr X.x X.b d_Cm_canSee_16 ?_
  refine lv_iconst (v := nI 1) X.x X.b d_Cm_canSee_17 (by decide) ?_
  refine lv_iand X.x X.b d_Cm_canSee_18 ?_
  refine lv_iconst (v := nI 1) X.x X.b d_Cm_canSee_19 (by decide) ?_
  refine lv_icmp_ne (tgt := 27) X.x X.b d_Cm_canSee_20 (by decide) (fun c20 => ?_) (fun c20 => ?_)
  · refine lv_iconst (v := nI 0) X.x X.b d_Cm_canSee_27 (by decide) ?_
    refine lv_istore (lv' := [(4, .int (nI 0)), (3, .ref (eA E (cB k + 5 + t))), (0, .ref (eA E (cB k))), (1, .int (nI w)), (2, .int (nI t))]) X.x X.b d_Cm_canSee_28 hl (by decide) rfl (fun ls hl => ?_)
    refine lv_iload X.x X.b d_Cm_canSee_30 (lv_at hl 0 rfl) ?_
    refine lv_if_eq (tgt := 51) X.x X.b d_Cm_canSee_32 (by decide) (fun c32 => ?_) (fun c32 => ?_)
    · have c32 : 0 = 0 := (nI_eq (by omega) (by omega)).mp c32
      refine lv_aload_n X.x X.b d_Cm_canSee_51 rfl (lv_at hl 1 rfl) ?_
      refine lv_iconst (v := nI 0) X.x X.b d_Cm_canSee_52 (by decide) ?_
      refine g_ald X hW (ds_t (t := t) hk (by omega)) (q_in (by omega) (by decide)) (p0 := 20 + 3 * t) (q_tn (by omega) (by omega)) (v := ρ (20 + 3 * t)) (by rw [hρ]) d_Cm_canSee_53 ?_
      refine q_csi X (c_Kd_clear l E S (ρ (20 + 3 * t))) hW ok_Kd_clear mw_286 ⟨by decide, by decide⟩ (As := [.int (ρ (20 + 3 * t))]) rfl rfl (Nat.le_of_ble_eq_true rfl) (lv := [(4, .int (nI 0)), (3, .ref (eA E (cB k + 5 + t))), (0, .ref (eA E (cB k))), (1, .int (nI w)), (2, .int (nI t))]) hl ⟨Nat.le_refl 0, Nat.le_refl 0⟩ d_Cm_canSee_54 (fun H locs hW => ?_)
      refine lv_istore (lv' := [(5, .int (clr (ρ (20 + 3 * t)))), (4, .int (nI 0)), (3, .ref (eA E (cB k + 5 + t))), (0, .ref (eA E (cB k))), (1, .int (nI w)), (2, .int (nI t))]) X.x X.b d_Cm_canSee_57 hl (by decide) rfl (fun ls hl => ?_)
      refine lv_aload_n X.x X.b d_Cm_canSee_59 rfl (lv_at hl 3 rfl) ?_
      refine q_getr X hW qj0 rfl _ (ds_cm hk) 2 (by decide) mw_104 rfl (c1 := cB k + 3) rfl d_Cm_canSee_60 ?_
      refine lv_iload_n X.x X.b d_Cm_canSee_63 rfl (lv_at hl 4 rfl) ?_
      refine g_wk hk X hW (show w < 6 by omega) d_Cm_canSee_64 ?_
      refine lv_iconst (v := nI 0) X.x X.b d_Cm_canSee_65 (by decide) ?_
      refine g_ald X hW (ds_w (w := w) hk (by omega)) (q_in (by omega) (by decide)) (p0 := 44 + 6 * w) (q_tn (by omega) (by omega)) (v := ρ (44 + 6 * w)) (by rw [hρ]) d_Cm_canSee_66 ?_
      refine lv_aload_n X.x X.b d_Cm_canSee_67 rfl (lv_at hl 2 rfl) ?_
      refine lv_iconst (v := nI 1) X.x X.b d_Cm_canSee_68 (by decide) ?_
      refine g_ald X hW (ds_t (t := t) hk (by omega)) (q_in (by omega) (by decide)) (p0 := 20 + 3 * t + 1) (q_tn (by omega) (by omega)) (v := ρ (20 + 3 * t + 1)) (by rw [hρ]) d_Cm_canSee_69 ?_
      refine lv_isub X.x X.b d_Cm_canSee_70 ?_
      refine va_mabs X.x X.b (X.ml.trans hl.1.symm) X.ow (X.ts _ mw_287) (X.ts _ (qTB_in (i := 288) (by decide +kernel) rfl)) (X.ts _ (qTB_in (i := 73) (by decide +kernel) rfl)) (X.ts _ (qTB_in (i := 289) (by decide +kernel) rfl)) (by decide) (Nat.le_of_ble_eq_true rfl) (Nat.le_refl 0) (Nat.le_refl 0) d_Cm_canSee_71 ?_
      refine lv_topi (fun x71 ex71 => ?_)
      refine lv_iload X.x X.b d_Cm_canSee_74 (lv_at hl 0 rfl) ?_
      refine lv_icmp_gt (tgt := 83) X.x X.b d_Cm_canSee_76 (by decide) (fun c76 => ?_) (fun c76 => ?_)
      · refine lv_iconst (v := nI 0) X.x X.b d_Cm_canSee_83 (by decide) ?_
        exact q_zret X (by decide) hW ⟨(b2i_f (fun z => by have z1 : iab _ ≤ sght ρ w t := z; unfold sght at z1; (first | rw [if_pos c20] at z1 | rw [if_neg c20] at z1); unfold iab at z1; rw [← ex71] at z1; exact Int32.not_lt.mpr z1 c76)).symm, rfl⟩ d_Cm_canSee_84
      · refine lv_iconst (v := nI 1) X.x X.b d_Cm_canSee_79 (by decide) ?_
        refine lv_goto (tgt := 84) X.x X.b d_Cm_canSee_80 (by decide) ?_
        exact q_zret X (by decide) hW ⟨(b2i_t (by show iab _ ≤ sght ρ w t; unfold sght; (first | rw [if_pos c20] | rw [if_neg c20]); unfold iab; rw [← ex71]; exact Int32.not_lt.mp c76)).symm, rfl⟩ d_Cm_canSee_84
    · exact absurd (by decide) c32
  · refine lv_iconst (v := nI 1) X.x X.b d_Cm_canSee_23 (by decide) ?_
    refine lv_goto (tgt := 28) X.x X.b d_Cm_canSee_24 (by decide) ?_
    refine lv_istore (lv' := [(4, .int (nI 1)), (3, .ref (eA E (cB k + 5 + t))), (0, .ref (eA E (cB k))), (1, .int (nI w)), (2, .int (nI t))]) X.x X.b d_Cm_canSee_28 hl (by decide) rfl (fun ls hl => ?_)
    refine lv_iload X.x X.b d_Cm_canSee_30 (lv_at hl 0 rfl) ?_
    refine lv_if_eq (tgt := 51) X.x X.b d_Cm_canSee_32 (by decide) (fun c32 => ?_) (fun c32 => ?_)
    · exact absurd c32 (by decide)
    · have c32 : ¬ 1 = 0 := fun z => c32 ((nI_eq (by omega) (by omega)).mpr z)
      refine lv_aload_n X.x X.b d_Cm_canSee_35 rfl (lv_at hl 1 rfl) ?_
      refine lv_iconst (v := nI 0) X.x X.b d_Cm_canSee_36 (by decide) ?_
      refine g_ald X hW (ds_t (t := t) hk (by omega)) (q_in (by omega) (by decide)) (p0 := 20 + 3 * t) (q_tn (by omega) (by omega)) (v := ρ (20 + 3 * t)) (by rw [hρ]) d_Cm_canSee_37 ?_
      refine lv_aload_n X.x X.b d_Cm_canSee_38 rfl (lv_at hl 1 rfl) ?_
      refine lv_iconst (v := nI 2) X.x X.b d_Cm_canSee_39 (by decide) ?_
      refine g_ald X hW (ds_t (t := t) hk (by omega)) (q_in (by omega) (by decide)) (p0 := 20 + 3 * t + 2) (q_tn (by omega) (by omega)) (v := ρ (20 + 3 * t + 2)) (by rw [hρ]) d_Cm_canSee_40 ?_
      refine lv_aload_n X.x X.b d_Cm_canSee_41 rfl (lv_at hl 2 rfl) ?_
      refine g_geti X hW qj0 rfl _ (ds_cm hk) 6 (by decide) mw_115 rfl (r0 := k) (p0 := 0) rfl (v := ρ 0) (by rw [hρ]) d_Cm_canSee_42 ?_
      refine q_csi X (c_Kd_dim l E S (ρ (20 + 3 * t)) (ρ (20 + 3 * t + 2)) (ρ 0)) hW ok_Kd_dim mw_285 ⟨by decide, by decide⟩ (As := [.int (ρ (20 + 3 * t)), .int (ρ (20 + 3 * t + 2)), .int (ρ 0)]) rfl rfl (Nat.le_of_ble_eq_true rfl) (lv := [(4, .int (nI 1)), (3, .ref (eA E (cB k + 5 + t))), (0, .ref (eA E (cB k))), (1, .int (nI w)), (2, .int (nI t))]) hl ⟨Nat.le_refl 0, Nat.le_refl 0⟩ d_Cm_canSee_45 (fun H locs hW => ?_)
      refine lv_goto (tgt := 57) X.x X.b d_Cm_canSee_48 (by decide) ?_
      refine lv_istore (lv' := [(5, .int (dmm (ρ (20 + 3 * t)) (ρ (20 + 3 * t + 2)) (ρ 0))), (4, .int (nI 1)), (3, .ref (eA E (cB k + 5 + t))), (0, .ref (eA E (cB k))), (1, .int (nI w)), (2, .int (nI t))]) X.x X.b d_Cm_canSee_57 hl (by decide) rfl (fun ls hl => ?_)
      refine lv_aload_n X.x X.b d_Cm_canSee_59 rfl (lv_at hl 3 rfl) ?_
      refine q_getr X hW qj0 rfl _ (ds_cm hk) 2 (by decide) mw_104 rfl (c1 := cB k + 3) rfl d_Cm_canSee_60 ?_
      refine lv_iload_n X.x X.b d_Cm_canSee_63 rfl (lv_at hl 4 rfl) ?_
      refine g_wk hk X hW (show w < 6 by omega) d_Cm_canSee_64 ?_
      refine lv_iconst (v := nI 0) X.x X.b d_Cm_canSee_65 (by decide) ?_
      refine g_ald X hW (ds_w (w := w) hk (by omega)) (q_in (by omega) (by decide)) (p0 := 44 + 6 * w) (q_tn (by omega) (by omega)) (v := ρ (44 + 6 * w)) (by rw [hρ]) d_Cm_canSee_66 ?_
      refine lv_aload_n X.x X.b d_Cm_canSee_67 rfl (lv_at hl 2 rfl) ?_
      refine lv_iconst (v := nI 1) X.x X.b d_Cm_canSee_68 (by decide) ?_
      refine g_ald X hW (ds_t (t := t) hk (by omega)) (q_in (by omega) (by decide)) (p0 := 20 + 3 * t + 1) (q_tn (by omega) (by omega)) (v := ρ (20 + 3 * t + 1)) (by rw [hρ]) d_Cm_canSee_69 ?_
      refine lv_isub X.x X.b d_Cm_canSee_70 ?_
      refine va_mabs X.x X.b (X.ml.trans hl.1.symm) X.ow (X.ts _ mw_287) (X.ts _ (qTB_in (i := 288) (by decide +kernel) rfl)) (X.ts _ (qTB_in (i := 73) (by decide +kernel) rfl)) (X.ts _ (qTB_in (i := 289) (by decide +kernel) rfl)) (by decide) (Nat.le_of_ble_eq_true rfl) (Nat.le_refl 0) (Nat.le_refl 0) d_Cm_canSee_71 ?_
      refine lv_topi (fun x71 ex71 => ?_)
      refine lv_iload X.x X.b d_Cm_canSee_74 (lv_at hl 0 rfl) ?_
      refine lv_icmp_gt (tgt := 83) X.x X.b d_Cm_canSee_76 (by decide) (fun c76 => ?_) (fun c76 => ?_)
      · refine lv_iconst (v := nI 0) X.x X.b d_Cm_canSee_83 (by decide) ?_
        exact q_zret X (by decide) hW ⟨(b2i_f (fun z => by have z1 : iab _ ≤ sght ρ w t := z; unfold sght at z1; (first | rw [if_pos c20] at z1 | rw [if_neg c20] at z1); unfold iab at z1; rw [← ex71] at z1; exact Int32.not_lt.mpr z1 c76)).symm, rfl⟩ d_Cm_canSee_84
      · refine lv_iconst (v := nI 1) X.x X.b d_Cm_canSee_79 (by decide) ?_
        refine lv_goto (tgt := 84) X.x X.b d_Cm_canSee_80 (by decide) ?_
        exact q_zret X (by decide) hW ⟨(b2i_t (by show iab _ ≤ sght ρ w t; unfold sght; (first | rw [if_pos c20] | rw [if_neg c20]); unfold iab; rw [← ex71]; exact Int32.not_lt.mp c76)).symm, rfl⟩ d_Cm_canSee_84
set_option maxHeartbeats 1000000 in
set_option maxRecDepth 20000 in
theorem c_Cm_findsWay (l : Launch) (E : QE) (k : Nat) (hk : k < 3) (S : QM) (ρ : Nat → Int32) (hρ : S k = ρ) (hwf : WF ρ) (w t : Nat) (hw : w < nW ρ) (ht : t < nT ρ) : qCI E l y_Cm_findsWay prog_2_method_9_code 4 .boolean 3 [.ref (eA E (cB k)), .int (nI w), .int (nI t)] S (b2i (fnd ρ w t)) S := by
  refine qCI_of (by decide) (Nat.le_of_ble_eq_true rfl) (fun p e s m below meth c ls X hW hl => ?_)
  have hl : lv_has ls 4 [(0, .ref (eA E (cB k))), (1, .int (nI w)), (2, .int (nI t))] := hl
  have htl := hwf.tl
  have hwl := hwf.wl
  have hdl := hwf.dl
  refine lv_iconst (v := nI 0) X.x X.b d_Cm_findsWay_0 (by decide) ?_
  refine lv_istore_n (lv' := [(3, .int (nI 0)), (0, .ref (eA E (cB k))), (1, .int (nI w)), (2, .int (nI t))]) X.x X.b d_Cm_findsWay_1 rfl hl (by decide) rfl (fun ls hl => ?_)
  have loop2 : ∀ (fu2 : Nat) (j : Nat), j ≤ nW ρ → (∀ o, o < j → ¬ (ρ (44 + 6 * o) = ρ (44 + 6 * w) ∧ see ρ o t)) → nW ρ - j < fu2 → ∀ (H : Heap) (locs : List Loc) (ls : Array Slot), qWH E S s H locs → lv_has ls 4 [(3, .int (nI j)), (0, .ref (eA E (cB k))), (1, .int (nI w)), (2, .int (nI t))] → W p l e (qRm 3) s m ([.ref (eA E (cB k)), .int (nI w), .int (nI t)] : List Value).toArray below meth c H locs 0 0 (MQ below (qQi E (b2i (fnd ρ w t)) S s.heap.size) ([.ref (eA E (cB k)), .int (nI w), .int (nI t)] : List Value).toArray s 0 0 (qAA E s.heap.size)) (F0 m 2 ls []) := by
    intro fu2
    induction fu2 with
    | zero =>
      intro j hj hn hfu
      exact absurd hfu (Nat.not_lt_zero _)
    | succ fu2 ih2 =>
      intro j hj hn hfu H locs ls hW hl
      refine lv_iload_n X.x X.b d_Cm_findsWay_2 rfl (lv_at hl 0 rfl) ?_
      refine lv_aload_n X.x X.b d_Cm_findsWay_3 rfl (lv_at hl 1 rfl) ?_
      refine g_geti X hW qj0 rfl _ (ds_cm hk) 5 (by decide) mw_112 rfl (r0 := k) (p0 := 3) rfl (v := ρ 3) (by rw [hρ]) d_Cm_findsWay_4 ?_
      rw [hwf.w]
      refine lv_icmp_ge (tgt := 46) X.x X.b d_Cm_findsWay_7 (by decide) (fun c7 => ?_) (fun c7 => ?_)
      · have c7 : (nW ρ) ≤ j := (nI_leI (by omega) (by omega)).mp c7
        refine lv_iconst (v := nI 0) X.x X.b d_Cm_findsWay_46 (by decide) ?_
        exact q_zret X (by decide) hW ⟨(b2i_f (fun z => by obtain ⟨o, h1, h2⟩ := z; exact hn o (by omega) h2)).symm, rfl⟩ d_Cm_findsWay_47
      · have c7 : ¬ (nW ρ) ≤ j := fun z => c7 ((nI_leI (by omega) (by omega)).mpr z)
        refine lv_aload_n X.x X.b d_Cm_findsWay_10 rfl (lv_at hl 1 rfl) ?_
        refine q_getr X hW qj0 rfl _ (ds_cm hk) 2 (by decide) mw_104 rfl (c1 := cB k + 3) rfl d_Cm_findsWay_11 ?_
        refine lv_iload_n X.x X.b d_Cm_findsWay_14 rfl (lv_at hl 0 rfl) ?_
        refine g_wk hk X hW (show j < 6 by omega) d_Cm_findsWay_15 ?_
        refine lv_iconst (v := nI 0) X.x X.b d_Cm_findsWay_16 (by decide) ?_
        refine g_ald X hW (ds_w (w := j) hk (by omega)) (q_in (by omega) (by decide)) (p0 := 44 + 6 * j) (q_tn (by omega) (by omega)) (v := ρ (44 + 6 * j)) (by rw [hρ]) d_Cm_findsWay_17 ?_
        refine lv_aload_n X.x X.b d_Cm_findsWay_18 rfl (lv_at hl 1 rfl) ?_
        refine q_getr X hW qj0 rfl _ (ds_cm hk) 2 (by decide) mw_104 rfl (c1 := cB k + 3) rfl d_Cm_findsWay_19 ?_
        refine lv_iload_n X.x X.b d_Cm_findsWay_22 rfl (lv_at hl 2 rfl) ?_
        refine g_wk hk X hW (show w < 6 by omega) d_Cm_findsWay_23 ?_
        refine lv_iconst (v := nI 0) X.x X.b d_Cm_findsWay_24 (by decide) ?_
        refine g_ald X hW (ds_w (w := w) hk (by omega)) (q_in (by omega) (by decide)) (p0 := 44 + 6 * w) (q_tn (by omega) (by omega)) (v := ρ (44 + 6 * w)) (by rw [hρ]) d_Cm_findsWay_25 ?_
        refine lv_icmp_ne (tgt := 40) X.x X.b d_Cm_findsWay_26 (by decide) (fun c26 => ?_) (fun c26 => ?_)
        · refine lv_iinc (v := nI (j + 1)) (lv' := [(3, .int (nI (j + 1))), (0, .ref (eA E (cB k))), (1, .int (nI w)), (2, .int (nI t))]) X.x X.b d_Cm_findsWay_40 hl (k := 0) rfl (by rw [show Int32.ofInt 1 = nI 1 from by decide, nI_add]) (by decide) rfl (fun ls hl => ?_)
          refine lv_goto (tgt := 2) X.x X.b d_Cm_findsWay_43 (by decide) ?_
          exact ih2 (j + 1) (by omega) (fun o ho => by rcases Nat.lt_succ_iff_lt_or_eq.mp ho with h | h; exact hn o h; subst h; intro z; first | exact c26 z.1 | exact c35 z.2) (by omega) _ _ _ hW (lv_sub hl [0, 1, 2, 3] rfl)
        · refine lv_aload_n X.x X.b d_Cm_findsWay_29 rfl (lv_at hl 1 rfl) ?_
          refine lv_iload_n X.x X.b d_Cm_findsWay_30 rfl (lv_at hl 0 rfl) ?_
          refine lv_iload_n X.x X.b d_Cm_findsWay_31 rfl (lv_at hl 3 rfl) ?_
          refine q_cvi X (c_Cm_canSee l E k hk S ρ (by rw [hρ]) hwf j t (by omega) (by omega)) hW (q_recv X hW (ds_cm hk) rfl) ok_Cm_canSee mw_298 ⟨by decide, by decide⟩ (As := [.int (nI j), .int (nI t)]) rfl rfl (Nat.le_of_ble_eq_true rfl) (lv := [(3, .int (nI j)), (0, .ref (eA E (cB k))), (1, .int (nI w)), (2, .int (nI t))]) hl ⟨Nat.le_refl 0, Nat.le_refl 0⟩ d_Cm_findsWay_32 (fun H locs hW => ?_)
          refine lv_if_eq (tgt := 40) X.x X.b d_Cm_findsWay_35 (by decide) (fun c35 => ?_) (fun c35 => ?_)
          · have c35 := b2i_e c35
            refine lv_iinc (v := nI (j + 1)) (lv' := [(3, .int (nI (j + 1))), (0, .ref (eA E (cB k))), (1, .int (nI w)), (2, .int (nI t))]) X.x X.b d_Cm_findsWay_40 hl (k := 0) rfl (by rw [show Int32.ofInt 1 = nI 1 from by decide, nI_add]) (by decide) rfl (fun ls hl => ?_)
            refine lv_goto (tgt := 2) X.x X.b d_Cm_findsWay_43 (by decide) ?_
            exact ih2 (j + 1) (by omega) (fun o ho => by rcases Nat.lt_succ_iff_lt_or_eq.mp ho with h | h; exact hn o h; subst h; intro z; first | exact c26 z.1 | exact c35 z.2) (by omega) _ _ _ hW (lv_sub hl [0, 1, 2, 3] rfl)
          · have c35 := b2i_n c35
            refine lv_iconst (v := nI 1) X.x X.b d_Cm_findsWay_38 (by decide) ?_
            exact q_zret X (by decide) hW ⟨(b2i_t ⟨j, by omega, c26, c35⟩).symm, rfl⟩ d_Cm_findsWay_39
  exact loop2 (nW ρ - 0 + 1) 0 (by omega) (fun o ho => absurd ho (Nat.not_lt_zero o)) (Nat.lt_succ_self _) _ _ _ hW (lv_sub hl [0, 1, 2, 3] rfl)
