theorem d_Tp_readPerhaps_0 : decode prog_5_method_7_code 0 = .ok (.aload_n 0, 1) := by decide +kernel
theorem d_Tp_readPerhaps_1 : decode prog_5_method_7_code 1 = .ok (.aload_n 1, 1) := by decide +kernel
theorem d_Tp_readPerhaps_2 : decode prog_5_method_7_code 2 = .ok (.invokevirtual 40, 3) := by decide +kernel
theorem d_Tp_readPerhaps_5 : decode prog_5_method_7_code 5 = .ok (.ifCond .ne 5, 3) := by decide +kernel
theorem d_Tp_readPerhaps_8 : decode prog_5_method_7_code 8 = .ok (.iconst 1, 1) := by decide +kernel
theorem d_Tp_readPerhaps_9 : decode prog_5_method_7_code 9 = .ok (.ireturn, 1) := by decide +kernel
theorem d_Tp_readPerhaps_10 : decode prog_5_method_7_code 10 = .ok (.aload_n 0, 1) := by decide +kernel
theorem d_Tp_readPerhaps_11 : decode prog_5_method_7_code 11 = .ok (.invokevirtual 31, 3) := by decide +kernel
theorem d_Tp_readPerhaps_14 : decode prog_5_method_7_code 14 = .ok (.aload_n 0, 1) := by decide +kernel
theorem d_Tp_readPerhaps_15 : decode prog_5_method_7_code 15 = .ok (.getstatic 91, 3) := by decide +kernel
theorem d_Tp_readPerhaps_18 : decode prog_5_method_7_code 18 = .ok (.iload_n 3, 1) := by decide +kernel
theorem d_Tp_readPerhaps_19 : decode prog_5_method_7_code 19 = .ok (.iaload, 1) := by decide +kernel
theorem d_Tp_readPerhaps_20 : decode prog_5_method_7_code 20 = .ok (.getstatic 94, 3) := by decide +kernel
theorem d_Tp_readPerhaps_23 : decode prog_5_method_7_code 23 = .ok (.iload_n 3, 1) := by decide +kernel
theorem d_Tp_readPerhaps_24 : decode prog_5_method_7_code 24 = .ok (.iaload, 1) := by decide +kernel
theorem d_Tp_readPerhaps_25 : decode prog_5_method_7_code 25 = .ok (.invokevirtual 65, 3) := by decide +kernel
theorem d_Tp_readPerhaps_28 : decode prog_5_method_7_code 28 = .ok (.ifCond .ne 5, 3) := by decide +kernel
theorem d_Tp_readPerhaps_31 : decode prog_5_method_7_code 31 = .ok (.iconst 0, 1) := by decide +kernel
theorem d_Tp_readPerhaps_32 : decode prog_5_method_7_code 32 = .ok (.ireturn, 1) := by decide +kernel
theorem d_Tp_readPerhaps_33 : decode prog_5_method_7_code 33 = .ok (.aload_n 2, 1) := by decide +kernel
theorem d_Tp_readPerhaps_34 : decode prog_5_method_7_code 34 = .ok (.iload_n 3, 1) := by decide +kernel
theorem d_Tp_readPerhaps_35 : decode prog_5_method_7_code 35 = .ok (.aload_n 0, 1) := by decide +kernel
theorem d_Tp_readPerhaps_36 : decode prog_5_method_7_code 36 = .ok (.getfield 28, 3) := by decide +kernel
theorem d_Tp_readPerhaps_39 : decode prog_5_method_7_code 39 = .ok (.iastore, 1) := by decide +kernel
theorem d_Tp_readPerhaps_40 : decode prog_5_method_7_code 40 = .ok (.aload_n 0, 1) := by decide +kernel
theorem d_Tp_readPerhaps_41 : decode prog_5_method_7_code 41 = .ok (.invokevirtual 31, 3) := by decide +kernel
theorem d_Tp_readPerhaps_44 : decode prog_5_method_7_code 44 = .ok (.iconst 1, 1) := by decide +kernel
theorem d_Tp_readPerhaps_45 : decode prog_5_method_7_code 45 = .ok (.ireturn, 1) := by decide +kernel
theorem d_Tp_readThing_0 : decode prog_5_method_5_code 0 = .ok (.aload_n 1, 1) := by decide +kernel
theorem d_Tp_readThing_1 : decode prog_5_method_5_code 1 = .ok (.getfield 60, 3) := by decide +kernel
theorem d_Tp_readThing_4 : decode prog_5_method_5_code 4 = .ok (.bipush 8, 2) := by decide +kernel
theorem d_Tp_readThing_6 : decode prog_5_method_5_code 6 = .ok (.if_icmp .lt 5, 3) := by decide +kernel
theorem d_Tp_readThing_9 : decode prog_5_method_5_code 9 = .ok (.iconst 0, 1) := by decide +kernel
theorem d_Tp_readThing_10 : decode prog_5_method_5_code 10 = .ok (.ireturn, 1) := by decide +kernel
theorem d_Tp_readThing_11 : decode prog_5_method_5_code 11 = .ok (.aload_n 0, 1) := by decide +kernel
theorem d_Tp_readThing_12 : decode prog_5_method_5_code 12 = .ok (.invokevirtual 31, 3) := by decide +kernel
theorem d_Tp_readThing_15 : decode prog_5_method_5_code 15 = .ok (.aload_n 0, 1) := by decide +kernel
theorem d_Tp_readThing_16 : decode prog_5_method_5_code 16 = .ok (.iconst 0, 1) := by decide +kernel
theorem d_Tp_readThing_17 : decode prog_5_method_5_code 17 = .ok (.bipush 15, 2) := by decide +kernel
theorem d_Tp_readThing_19 : decode prog_5_method_5_code 19 = .ok (.invokevirtual 65, 3) := by decide +kernel
theorem d_Tp_readThing_22 : decode prog_5_method_5_code 22 = .ok (.ifCond .ne 5, 3) := by decide +kernel
theorem d_Tp_readThing_25 : decode prog_5_method_5_code 25 = .ok (.iconst 0, 1) := by decide +kernel
theorem d_Tp_readThing_26 : decode prog_5_method_5_code 26 = .ok (.ireturn, 1) := by decide +kernel
theorem d_Tp_readThing_27 : decode prog_5_method_5_code 27 = .ok (.aload_n 1, 1) := by decide +kernel
theorem d_Tp_readThing_28 : decode prog_5_method_5_code 28 = .ok (.iload_n 2, 1) := by decide +kernel
theorem d_Tp_readThing_29 : decode prog_5_method_5_code 29 = .ok (.aload_n 0, 1) := by decide +kernel
theorem d_Tp_readThing_30 : decode prog_5_method_5_code 30 = .ok (.getfield 28, 3) := by decide +kernel
theorem d_Tp_readThing_33 : decode prog_5_method_5_code 33 = .ok (.invokevirtual 69, 3) := by decide +kernel
theorem d_Tp_readThing_36 : decode prog_5_method_5_code 36 = .ok (.pop, 1) := by decide +kernel
theorem d_Tp_readThing_37 : decode prog_5_method_5_code 37 = .ok (.aload_n 0, 1) := by decide +kernel
theorem d_Tp_readThing_38 : decode prog_5_method_5_code 38 = .ok (.invokevirtual 31, 3) := by decide +kernel
theorem d_Tp_readThing_41 : decode prog_5_method_5_code 41 = .ok (.iconst 1, 1) := by decide +kernel
theorem d_Tp_readThing_42 : decode prog_5_method_5_code 42 = .ok (.ireturn, 1) := by decide +kernel
theorem d_Tp_readTurn_0 : decode prog_5_method_8_code 0 = .ok (.aload_n 0, 1) := by decide +kernel
theorem d_Tp_readTurn_1 : decode prog_5_method_8_code 1 = .ok (.invokevirtual 31, 3) := by decide +kernel
theorem d_Tp_readTurn_4 : decode prog_5_method_8_code 4 = .ok (.aload_n 0, 1) := by decide +kernel
theorem d_Tp_readTurn_5 : decode prog_5_method_8_code 5 = .ok (.iconst 0, 1) := by decide +kernel
theorem d_Tp_readTurn_6 : decode prog_5_method_8_code 6 = .ok (.iconst 5, 1) := by decide +kernel
theorem d_Tp_readTurn_7 : decode prog_5_method_8_code 7 = .ok (.invokevirtual 65, 3) := by decide +kernel
theorem d_Tp_readTurn_10 : decode prog_5_method_8_code 10 = .ok (.ifCond .ne 5, 3) := by decide +kernel
theorem d_Tp_readTurn_13 : decode prog_5_method_8_code 13 = .ok (.iconst 0, 1) := by decide +kernel
theorem d_Tp_readTurn_14 : decode prog_5_method_8_code 14 = .ok (.ireturn, 1) := by decide +kernel
theorem d_Tp_readTurn_15 : decode prog_5_method_8_code 15 = .ok (.aload_n 0, 1) := by decide +kernel
theorem d_Tp_readTurn_16 : decode prog_5_method_8_code 16 = .ok (.getfield 28, 3) := by decide +kernel
theorem d_Tp_readTurn_19 : decode prog_5_method_8_code 19 = .ok (.istore_n 2, 1) := by decide +kernel
theorem d_Tp_readTurn_20 : decode prog_5_method_8_code 20 = .ok (.aload_n 0, 1) := by decide +kernel
theorem d_Tp_readTurn_21 : decode prog_5_method_8_code 21 = .ok (.invokevirtual 31, 3) := by decide +kernel
theorem d_Tp_readTurn_24 : decode prog_5_method_8_code 24 = .ok (.aload_n 0, 1) := by decide +kernel
theorem d_Tp_readTurn_25 : decode prog_5_method_8_code 25 = .ok (.iconst 0, 1) := by decide +kernel
theorem d_Tp_readTurn_26 : decode prog_5_method_8_code 26 = .ok (.iconst 5, 1) := by decide +kernel
theorem d_Tp_readTurn_27 : decode prog_5_method_8_code 27 = .ok (.invokevirtual 65, 3) := by decide +kernel
theorem d_Tp_readTurn_30 : decode prog_5_method_8_code 30 = .ok (.ifCond .ne 5, 3) := by decide +kernel
theorem d_Tp_readTurn_33 : decode prog_5_method_8_code 33 = .ok (.iconst 0, 1) := by decide +kernel
theorem d_Tp_readTurn_34 : decode prog_5_method_8_code 34 = .ok (.ireturn, 1) := by decide +kernel
theorem d_Tp_readTurn_35 : decode prog_5_method_8_code 35 = .ok (.aload_n 0, 1) := by decide +kernel
theorem d_Tp_readTurn_36 : decode prog_5_method_8_code 36 = .ok (.getfield 28, 3) := by decide +kernel
theorem d_Tp_readTurn_39 : decode prog_5_method_8_code 39 = .ok (.istore_n 3, 1) := by decide +kernel
theorem d_Tp_readTurn_40 : decode prog_5_method_8_code 40 = .ok (.aload_n 0, 1) := by decide +kernel
theorem d_Tp_readTurn_41 : decode prog_5_method_8_code 41 = .ok (.invokevirtual 31, 3) := by decide +kernel
theorem d_Tp_readTurn_44 : decode prog_5_method_8_code 44 = .ok (.aload_n 0, 1) := by decide +kernel
theorem d_Tp_readTurn_45 : decode prog_5_method_8_code 45 = .ok (.iconst 0, 1) := by decide +kernel
theorem d_Tp_readTurn_46 : decode prog_5_method_8_code 46 = .ok (.bipush 7, 2) := by decide +kernel
theorem d_Tp_readTurn_48 : decode prog_5_method_8_code 48 = .ok (.invokevirtual 65, 3) := by decide +kernel
theorem d_Tp_readTurn_51 : decode prog_5_method_8_code 51 = .ok (.ifCond .ne 5, 3) := by decide +kernel
theorem d_Tp_readTurn_54 : decode prog_5_method_8_code 54 = .ok (.iconst 0, 1) := by decide +kernel
theorem d_Tp_readTurn_55 : decode prog_5_method_8_code 55 = .ok (.ireturn, 1) := by decide +kernel
theorem d_Tp_readTurn_56 : decode prog_5_method_8_code 56 = .ok (.aload_n 1, 1) := by decide +kernel
theorem d_Tp_readTurn_57 : decode prog_5_method_8_code 57 = .ok (.getfield 97, 3) := by decide +kernel
theorem d_Tp_readTurn_60 : decode prog_5_method_8_code 60 = .ok (.iload_n 2, 1) := by decide +kernel
theorem d_Tp_readTurn_61 : decode prog_5_method_8_code 61 = .ok (.bipush 10, 2) := by decide +kernel
theorem d_Tp_readTurn_63 : decode prog_5_method_8_code 63 = .ok (.iload_n 3, 1) := by decide +kernel
theorem d_Tp_readTurn_64 : decode prog_5_method_8_code 64 = .ok (.imul, 1) := by decide +kernel
theorem d_Tp_readTurn_65 : decode prog_5_method_8_code 65 = .ok (.aload_n 0, 1) := by decide +kernel
theorem d_Tp_readTurn_66 : decode prog_5_method_8_code 66 = .ok (.getfield 28, 3) := by decide +kernel
theorem d_Tp_readTurn_69 : decode prog_5_method_8_code 69 = .ok (.iadd, 1) := by decide +kernel
theorem d_Tp_readTurn_70 : decode prog_5_method_8_code 70 = .ok (.iastore, 1) := by decide +kernel
theorem d_Tp_readTurn_71 : decode prog_5_method_8_code 71 = .ok (.aload_n 0, 1) := by decide +kernel
theorem d_Tp_readTurn_72 : decode prog_5_method_8_code 72 = .ok (.invokevirtual 31, 3) := by decide +kernel
theorem d_Tp_readTurn_75 : decode prog_5_method_8_code 75 = .ok (.iconst 1, 1) := by decide +kernel
theorem d_Tp_readTurn_76 : decode prog_5_method_8_code 76 = .ok (.ireturn, 1) := by decide +kernel
theorem d_Tp_readWalker_0 : decode prog_5_method_6_code 0 = .ok (.aload_n 1, 1) := by decide +kernel
theorem d_Tp_readWalker_1 : decode prog_5_method_6_code 1 = .ok (.getfield 73, 3) := by decide +kernel
theorem d_Tp_readWalker_4 : decode prog_5_method_6_code 4 = .ok (.bipush 6, 2) := by decide +kernel
theorem d_Tp_readWalker_6 : decode prog_5_method_6_code 6 = .ok (.if_icmp .lt 5, 3) := by decide +kernel
theorem d_Tp_readWalker_9 : decode prog_5_method_6_code 9 = .ok (.iconst 0, 1) := by decide +kernel
theorem d_Tp_readWalker_10 : decode prog_5_method_6_code 10 = .ok (.ireturn, 1) := by decide +kernel
theorem d_Tp_readWalker_11 : decode prog_5_method_6_code 11 = .ok (.aload_n 0, 1) := by decide +kernel
theorem d_Tp_readWalker_12 : decode prog_5_method_6_code 12 = .ok (.invokevirtual 31, 3) := by decide +kernel
theorem d_Tp_readWalker_15 : decode prog_5_method_6_code 15 = .ok (.aload_n 0, 1) := by decide +kernel
theorem d_Tp_readWalker_16 : decode prog_5_method_6_code 16 = .ok (.iconst 0, 1) := by decide +kernel
theorem d_Tp_readWalker_17 : decode prog_5_method_6_code 17 = .ok (.bipush 15, 2) := by decide +kernel
theorem d_Tp_readWalker_19 : decode prog_5_method_6_code 19 = .ok (.invokevirtual 65, 3) := by decide +kernel
theorem d_Tp_readWalker_22 : decode prog_5_method_6_code 22 = .ok (.ifCond .ne 5, 3) := by decide +kernel
theorem d_Tp_readWalker_25 : decode prog_5_method_6_code 25 = .ok (.iconst 0, 1) := by decide +kernel
theorem d_Tp_readWalker_26 : decode prog_5_method_6_code 26 = .ok (.ireturn, 1) := by decide +kernel
theorem d_Tp_readWalker_27 : decode prog_5_method_6_code 27 = .ok (.aload_n 0, 1) := by decide +kernel
theorem d_Tp_readWalker_28 : decode prog_5_method_6_code 28 = .ok (.getfield 28, 3) := by decide +kernel
theorem d_Tp_readWalker_31 : decode prog_5_method_6_code 31 = .ok (.istore_n 2, 1) := by decide +kernel
theorem d_Tp_readWalker_32 : decode prog_5_method_6_code 32 = .ok (.aload_n 0, 1) := by decide +kernel
theorem d_Tp_readWalker_33 : decode prog_5_method_6_code 33 = .ok (.invokevirtual 31, 3) := by decide +kernel
theorem d_Tp_readWalker_36 : decode prog_5_method_6_code 36 = .ok (.aload_n 0, 1) := by decide +kernel
theorem d_Tp_readWalker_37 : decode prog_5_method_6_code 37 = .ok (.iconst 0, 1) := by decide +kernel
theorem d_Tp_readWalker_38 : decode prog_5_method_6_code 38 = .ok (.bipush 7, 2) := by decide +kernel
theorem d_Tp_readWalker_40 : decode prog_5_method_6_code 40 = .ok (.invokevirtual 65, 3) := by decide +kernel
theorem d_Tp_readWalker_43 : decode prog_5_method_6_code 43 = .ok (.ifCond .ne 5, 3) := by decide +kernel
theorem d_Tp_readWalker_46 : decode prog_5_method_6_code 46 = .ok (.iconst 0, 1) := by decide +kernel
theorem d_Tp_readWalker_47 : decode prog_5_method_6_code 47 = .ok (.ireturn, 1) := by decide +kernel
theorem d_Tp_readWalker_48 : decode prog_5_method_6_code 48 = .ok (.aload_n 1, 1) := by decide +kernel
theorem d_Tp_readWalker_49 : decode prog_5_method_6_code 49 = .ok (.getfield 76, 3) := by decide +kernel
theorem d_Tp_readWalker_52 : decode prog_5_method_6_code 52 = .ok (.aload_n 1, 1) := by decide +kernel
theorem d_Tp_readWalker_53 : decode prog_5_method_6_code 53 = .ok (.iload_n 2, 1) := by decide +kernel
theorem d_Tp_readWalker_54 : decode prog_5_method_6_code 54 = .ok (.aload_n 0, 1) := by decide +kernel
theorem d_Tp_readWalker_55 : decode prog_5_method_6_code 55 = .ok (.getfield 28, 3) := by decide +kernel
theorem d_Tp_readWalker_58 : decode prog_5_method_6_code 58 = .ok (.invokevirtual 80, 3) := by decide +kernel
theorem d_Tp_readWalker_61 : decode prog_5_method_6_code 61 = .ok (.aaload, 1) := by decide +kernel
theorem d_Tp_readWalker_62 : decode prog_5_method_6_code 62 = .ok (.astore_n 3, 1) := by decide +kernel
theorem d_Tp_readWalker_63 : decode prog_5_method_6_code 63 = .ok (.aload_n 0, 1) := by decide +kernel
theorem d_Tp_readWalker_64 : decode prog_5_method_6_code 64 = .ok (.invokevirtual 31, 3) := by decide +kernel
theorem d_Tp_readWalker_67 : decode prog_5_method_6_code 67 = .ok (.aload_n 0, 1) := by decide +kernel
theorem d_Tp_readWalker_68 : decode prog_5_method_6_code 68 = .ok (.ldc 83, 2) := by decide +kernel
theorem d_Tp_readWalker_70 : decode prog_5_method_6_code 70 = .ok (.aload_n 3, 1) := by decide +kernel
theorem d_Tp_readWalker_71 : decode prog_5_method_6_code 71 = .ok (.iconst 2, 1) := by decide +kernel
theorem d_Tp_readWalker_72 : decode prog_5_method_6_code 72 = .ok (.invokevirtual 85, 3) := by decide +kernel
theorem d_Tp_readWalker_75 : decode prog_5_method_6_code 75 = .ok (.ifCond .eq 18, 3) := by decide +kernel
theorem d_Tp_readWalker_78 : decode prog_5_method_6_code 78 = .ok (.aload_n 0, 1) := by decide +kernel
theorem d_Tp_readWalker_79 : decode prog_5_method_6_code 79 = .ok (.ldc 89, 2) := by decide +kernel
theorem d_Tp_readWalker_81 : decode prog_5_method_6_code 81 = .ok (.aload_n 3, 1) := by decide +kernel
theorem d_Tp_readWalker_82 : decode prog_5_method_6_code 82 = .ok (.iconst 3, 1) := by decide +kernel
theorem d_Tp_readWalker_83 : decode prog_5_method_6_code 83 = .ok (.invokevirtual 85, 3) := by decide +kernel
theorem d_Tp_readWalker_86 : decode prog_5_method_6_code 86 = .ok (.ifCond .eq 7, 3) := by decide +kernel
theorem d_Tp_readWalker_89 : decode prog_5_method_6_code 89 = .ok (.iconst 1, 1) := by decide +kernel
theorem d_Tp_readWalker_90 : decode prog_5_method_6_code 90 = .ok (.goto 4, 3) := by decide +kernel
theorem d_Tp_readWalker_93 : decode prog_5_method_6_code 93 = .ok (.iconst 0, 1) := by decide +kernel
theorem d_Tp_readWalker_94 : decode prog_5_method_6_code 94 = .ok (.ireturn, 1) := by decide +kernel
theorem d_Tp_readItem_0 : decode prog_5_method_4_code 0 = .ok (.aload_n 0, 1) := by decide +kernel
theorem d_Tp_readItem_1 : decode prog_5_method_4_code 1 = .ok (.ldc 38, 2) := by decide +kernel
theorem d_Tp_readItem_3 : decode prog_5_method_4_code 3 = .ok (.invokevirtual 40, 3) := by decide +kernel
theorem d_Tp_readItem_6 : decode prog_5_method_4_code 6 = .ok (.ifCond .eq 9, 3) := by decide +kernel
theorem d_Tp_readItem_9 : decode prog_5_method_4_code 9 = .ok (.aload_n 0, 1) := by decide +kernel
theorem d_Tp_readItem_10 : decode prog_5_method_4_code 10 = .ok (.aload_n 1, 1) := by decide +kernel
theorem d_Tp_readItem_11 : decode prog_5_method_4_code 11 = .ok (.invokevirtual 44, 3) := by decide +kernel
theorem d_Tp_readItem_14 : decode prog_5_method_4_code 14 = .ok (.ireturn, 1) := by decide +kernel
theorem d_Tp_readItem_15 : decode prog_5_method_4_code 15 = .ok (.aload_n 0, 1) := by decide +kernel
theorem d_Tp_readItem_16 : decode prog_5_method_4_code 16 = .ok (.ldc 47, 2) := by decide +kernel
theorem d_Tp_readItem_18 : decode prog_5_method_4_code 18 = .ok (.invokevirtual 40, 3) := by decide +kernel
theorem d_Tp_readItem_21 : decode prog_5_method_4_code 21 = .ok (.ifCond .eq 9, 3) := by decide +kernel
theorem d_Tp_readItem_24 : decode prog_5_method_4_code 24 = .ok (.aload_n 0, 1) := by decide +kernel
theorem d_Tp_readItem_25 : decode prog_5_method_4_code 25 = .ok (.aload_n 1, 1) := by decide +kernel
theorem d_Tp_readItem_26 : decode prog_5_method_4_code 26 = .ok (.invokevirtual 49, 3) := by decide +kernel
theorem d_Tp_readItem_29 : decode prog_5_method_4_code 29 = .ok (.ireturn, 1) := by decide +kernel
theorem d_Tp_readItem_30 : decode prog_5_method_4_code 30 = .ok (.aload_n 0, 1) := by decide +kernel
theorem d_Tp_readItem_31 : decode prog_5_method_4_code 31 = .ok (.invokevirtual 52, 3) := by decide +kernel
theorem d_Tp_readItem_34 : decode prog_5_method_4_code 34 = .ok (.istore_n 2, 1) := by decide +kernel
theorem d_Tp_readItem_35 : decode prog_5_method_4_code 35 = .ok (.iload_n 2, 1) := by decide +kernel
theorem d_Tp_readItem_36 : decode prog_5_method_4_code 36 = .ok (.ifCond .lt 16, 3) := by decide +kernel
theorem d_Tp_readItem_52 : decode prog_5_method_4_code 52 = .ok (.iconst 0, 1) := by decide +kernel
theorem d_Tp_readItem_53 : decode prog_5_method_4_code 53 = .ok (.ireturn, 1) := by decide +kernel
theorem d_Tp_readItem_39 : decode prog_5_method_4_code 39 = .ok (.aload_n 0, 1) := by decide +kernel
theorem d_Tp_readItem_40 : decode prog_5_method_4_code 40 = .ok (.aload_n 1, 1) := by decide +kernel
theorem d_Tp_readItem_41 : decode prog_5_method_4_code 41 = .ok (.iload_n 2, 1) := by decide +kernel
theorem d_Tp_readItem_42 : decode prog_5_method_4_code 42 = .ok (.invokevirtual 56, 3) := by decide +kernel
theorem d_Tp_readItem_45 : decode prog_5_method_4_code 45 = .ok (.ifCond .eq 7, 3) := by decide +kernel
theorem d_Tp_readItem_48 : decode prog_5_method_4_code 48 = .ok (.iconst 1, 1) := by decide +kernel
theorem d_Tp_readItem_49 : decode prog_5_method_4_code 49 = .ok (.goto 4, 3) := by decide +kernel
set_option maxHeartbeats 1000000 in
set_option maxRecDepth 20000 in
theorem c_Tp_readPerhaps_2 (l : Launch) (E : QE) (S : QM) (θ σ ρ : Nat → Int32) (hθ : S 4 = θ) (hσ : S 5 = σ) (hρ : S 2 = ρ) (hwf : WF ρ) (len n : Nat) (hk : tkOK σ len n θ) (hn : n ≤ len) (hlen : len ≤ 120) (w : Nat) (hw : w < 6) : qCPi E l y_Tp_readPerhaps prog_5_method_7_code 4 .boolean 6 [.ref (eA E 58), .ref (eK E 8), .ref (eA E (cB 2 + 13 + w)), .int (nI 2)] S (b2i ((rPer σ len 8 (44 + 6 * w + 2) 1 5 n ρ).1 = true)) (rdG S σ len (rPer σ len 8 (44 + 6 * w + 2) 1 5 n ρ)) := by
  refine qCPi_of (by decide) (Nat.le_of_ble_eq_true rfl) (fun p e s m below meth c ls X hW hl => ?_)
  have hl : lv_has ls 4 [(0, .ref (eA E 58)), (1, .ref (eK E 8)), (2, .ref (eA E (cB 2 + 13 + w))), (3, .int (nI 2))] := hl
  have hW : qWH E (qr (qr S 4 θ) 2 ρ) s s.heap [] := by rw [show qr (qr S 4 θ) 2 ρ = S from by rw [← hθ, qr_self, ← hρ, qr_self]]; exact hW
  obtain ⟨kθ_1, kθ_2, kθ_3, kθ_4, kθ_5⟩ := id hk
  have hb1 := tN_n (σ := σ) (len := len) (n := n) (by omega)
  have hb2 := tN_le (σ := σ) (len := len) (n := n) (by omega)
  have hb3 := tK_le (σ := σ) (len := len) (n := n)
  refine lv_aload_n X.x X.b d_Tp_readPerhaps_0 rfl (lv_at hl 0 rfl) ?_
  refine lv_aload_n X.x X.b d_Tp_readPerhaps_1 rfl (lv_at hl 1 rfl) ?_
  refine q_cvi X (c_Tp_isWord l E (qr (qr S 4 θ) 2 ρ) θ σ (by rw [qr_ne (by omega), qr_at]) (by rw [qr_ne (by omega), qr_ne (by omega), hσ]) len n hk (by omega) (by omega) 8 (by omega)) hW (q_recv X hW ds_T rfl) ok_Tp_isWord mw_506 ⟨by decide, by decide⟩ (As := [.ref (eK E 8)]) rfl rfl (Nat.le_of_ble_eq_true rfl) (lv := [(0, .ref (eA E 58)), (1, .ref (eK E 8)), (2, .ref (eA E (cB 2 + 13 + w))), (3, .int (nI 2))]) hl ⟨Nat.le_refl 0, Nat.le_refl 0⟩ d_Tp_readPerhaps_2 (fun H locs hW => ?_)
  refine lv_if_ne (tgt := 10) X.x X.b d_Tp_readPerhaps_5 (by decide) (fun c5 => ?_) (fun c5 => ?_)
  · have c5 := b2i_n c5
    refine lv_aload_n X.x X.b d_Tp_readPerhaps_10 rfl (lv_at hl 0 rfl) ?_
    refine q_cvvp X (c_Tp_step l E (qr (qr S 4 θ) 2 ρ) θ σ (by rw [qr_ne (by omega), qr_at]) (by rw [qr_ne (by omega), qr_ne (by omega), hσ]) len (tN σ len n) kθ_1 kθ_2 (by omega) (by omega)) hW (q_recv X hW ds_T rfl) ok_Tp_step mw_490 ⟨by decide, by decide⟩ (As := []) rfl rfl (Nat.le_of_ble_eq_true rfl) (lv := [(0, .ref (eA E 58)), (1, .ref (eK E 8)), (2, .ref (eA E (cB 2 + 13 + w))), (3, .int (nI 2))]) hl ⟨Nat.le_refl 0, Nat.le_refl 0⟩ d_Tp_readPerhaps_11 (fun H locs Sq11 hP11 hW => ?_)
    obtain ⟨τ11, hτ11, rfl⟩ := hP11
    have hW : qWH E (qr (qr S 4 τ11) 2 ρ) s H locs := (by have h := hW; rw [qr_in (by omega)] at h; exact h)
    obtain ⟨kτ11_1, kτ11_2, kτ11_3, kτ11_4, kτ11_5⟩ := id hτ11
    have bτ11 := tN_n (σ := σ) (len := len) (n := tN σ len n) (by omega)
    have dτ11 := tN_le (σ := σ) (len := len) (n := tN σ len n) (by omega)
    have eτ11 := tK_le (σ := σ) (len := len) (n := tN σ len n)
    refine lv_aload_n X.x X.b d_Tp_readPerhaps_14 rfl (lv_at hl 0 rfl) ?_
    refine q_getsN X hW X.Z.2.1 X.Z.2.2.2.2.2.2.2.2.1 d_Tp_readPerhaps_15 ?_
    refine lv_iload_n X.x X.b d_Tp_readPerhaps_18 rfl (lv_at hl 3 rfl) ?_
    refine g_zald X hW X.Z.2.1 (q_in (show 2 < 6 by omega) (by decide)) (q_tn (by omega) (Nat.zero_add _)) d_Tp_readPerhaps_19 ?_
    rw [show zt1.getD 2 0 = nI 1 from by decide]
    refine q_getsN X hW X.Z.2.2.1 X.Z.2.2.2.2.2.2.2.2.2 d_Tp_readPerhaps_20 ?_
    refine lv_iload_n X.x X.b d_Tp_readPerhaps_23 rfl (lv_at hl 3 rfl) ?_
    refine g_zald X hW X.Z.2.2.1 (q_in (show 2 < 6 by omega) (by decide)) (q_tn (by omega) (Nat.zero_add _)) d_Tp_readPerhaps_24 ?_
    rw [show zt2.getD 2 0 = nI 5 from by decide]
    refine q_cvi X (c_Tp_isNumber l E (qr (qr S 4 τ11) 2 ρ) τ11 σ (by rw [qr_ne (by omega), qr_at]) (by rw [qr_ne (by omega), qr_ne (by omega), hσ]) len (tN σ len n) hτ11 (by omega) (by omega) 1 5) hW (q_recv X hW ds_T rfl) ok_Tp_isNumber mw_562 ⟨by decide, by decide⟩ (As := [.int (nI 1), .int (nI 5)]) rfl rfl (Nat.le_of_ble_eq_true rfl) (lv := [(0, .ref (eA E 58)), (1, .ref (eK E 8)), (2, .ref (eA E (cB 2 + 13 + w))), (3, .int (nI 2))]) hl ⟨Nat.le_refl 0, Nat.le_refl 0⟩ d_Tp_readPerhaps_25 (fun H locs hW => ?_)
    refine lv_if_ne (tgt := 33) X.x X.b d_Tp_readPerhaps_28 (by decide) (fun c28 => ?_) (fun c28 => ?_)
    · have c28 := b2i_n c28
      refine lv_aload_n X.x X.b d_Tp_readPerhaps_33 rfl (lv_at hl 2 rfl) ?_
      refine lv_iload_n X.x X.b d_Tp_readPerhaps_34 rfl (lv_at hl 3 rfl) ?_
      refine lv_aload_n X.x X.b d_Tp_readPerhaps_35 rfl (lv_at hl 0 rfl) ?_
      refine g_geti X hW qj2 rfl _ ds_T 5 (by decide) mw_149 rfl (r0 := 4) (p0 := 5) rfl (v := τ11 5) (by rw [qr_ne (by omega), qr_at]) d_Tp_readPerhaps_36 ?_
      rw [kτ11_5]
      refine g_ast X hW (ds_w (w := w) (show 2 < 3 by decide) (by omega)) (q_in (by omega) (by decide)) (p0 := 44 + 6 * w + 2) (q_tn (by omega) (by omega)) (ρ := ρ) (by rw [qr_at]) d_Tp_readPerhaps_39 (fun H locs hW => ?_)
      obtain ⟨r39, er39⟩ : ∃ z, z = upd ρ (44 + 6 * w + 2) (tV σ len (tN σ len n)) := ⟨_, rfl⟩
      rw [← er39] at hW
      rw [qr_qr] at hW
      refine lv_aload_n X.x X.b d_Tp_readPerhaps_40 rfl (lv_at hl 0 rfl) ?_
      refine q_cvvp X (c_Tp_step l E (qr (qr S 4 τ11) 2 r39) τ11 σ (by rw [qr_ne (by omega), qr_at]) (by rw [qr_ne (by omega), qr_ne (by omega), hσ]) len (tN σ len (tN σ len n)) kτ11_1 kτ11_2 (by omega) (by omega)) hW (q_recv X hW ds_T rfl) ok_Tp_step mw_490 ⟨by decide, by decide⟩ (As := []) rfl rfl (Nat.le_of_ble_eq_true rfl) (lv := [(0, .ref (eA E 58)), (1, .ref (eK E 8)), (2, .ref (eA E (cB 2 + 13 + w))), (3, .int (nI 2))]) hl ⟨Nat.le_refl 0, Nat.le_refl 0⟩ d_Tp_readPerhaps_41 (fun H locs Sq41 hP41 hW => ?_)
      obtain ⟨τ41, hτ41, rfl⟩ := hP41
      have hW : qWH E (qr (qr S 4 τ41) 2 r39) s H locs := (by have h := hW; rw [qr_in (by omega)] at h; exact h)
      obtain ⟨kτ41_1, kτ41_2, kτ41_3, kτ41_4, kτ41_5⟩ := id hτ41
      have bτ41 := tN_n (σ := σ) (len := len) (n := tN σ len (tN σ len n)) (by omega)
      have dτ41 := tN_le (σ := σ) (len := len) (n := tN σ len (tN σ len n)) (by omega)
      have eτ41 := tK_le (σ := σ) (len := len) (n := tN σ len (tN σ len n))
      refine lv_iconst (v := nI 1) X.x X.b d_Tp_readPerhaps_44 (by decide) ?_
      have eR : rPer σ len 8 (44 + 6 * w + 2) 1 5 n ρ = (true, (tN σ len (tN σ len n), upd ρ (44 + 6 * w + 2) (tV σ len (tN σ len n)))) := by rw [rPer, if_neg (fun z => z c5), if_neg (fun z => z c28)]
      exact q_pzret X (by decide) hW ⟨(b2i_t (by rw [eR])).symm, ⟨τ41, by rw [eR]; exact hτ41, by rw [eR, er39]⟩⟩ d_Tp_readPerhaps_45
    · have c28 := b2i_e c28
      refine lv_iconst (v := nI 0) X.x X.b d_Tp_readPerhaps_31 (by decide) ?_
      have eR : rPer σ len 8 (44 + 6 * w + 2) 1 5 n ρ = (false, (tN σ len n, ρ)) := by rw [rPer, if_neg (fun z => z c5), if_pos c28]
      exact q_pzret X (by decide) hW ⟨(b2i_f (by rw [eR]; exact Bool.false_ne_true)).symm, ⟨τ11, by rw [eR]; exact hτ11, by rw [eR]⟩⟩ d_Tp_readPerhaps_32
  · have c5 := b2i_e c5
    refine lv_iconst (v := nI 1) X.x X.b d_Tp_readPerhaps_8 (by decide) ?_
    have eR : rPer σ len 8 (44 + 6 * w + 2) 1 5 n ρ = (true, (n, ρ)) := by rw [rPer, if_pos c5]
    exact q_pzret X (by decide) hW ⟨(b2i_t (by rw [eR])).symm, ⟨θ, by rw [eR]; exact hk, by rw [eR]⟩⟩ d_Tp_readPerhaps_9
set_option maxHeartbeats 1000000 in
set_option maxRecDepth 20000 in
theorem c_Tp_readPerhaps_3 (l : Launch) (E : QE) (S : QM) (θ σ ρ : Nat → Int32) (hθ : S 4 = θ) (hσ : S 5 = σ) (hρ : S 2 = ρ) (hwf : WF ρ) (len n : Nat) (hk : tkOK σ len n θ) (hn : n ≤ len) (hlen : len ≤ 120) (w : Nat) (hw : w < 6) : qCPi E l y_Tp_readPerhaps prog_5_method_7_code 4 .boolean 6 [.ref (eA E 58), .ref (eK E 9), .ref (eA E (cB 2 + 13 + w)), .int (nI 3)] S (b2i ((rPer σ len 9 (44 + 6 * w + 3) 0 255 n ρ).1 = true)) (rdG S σ len (rPer σ len 9 (44 + 6 * w + 3) 0 255 n ρ)) := by
  refine qCPi_of (by decide) (Nat.le_of_ble_eq_true rfl) (fun p e s m below meth c ls X hW hl => ?_)
  have hl : lv_has ls 4 [(0, .ref (eA E 58)), (1, .ref (eK E 9)), (2, .ref (eA E (cB 2 + 13 + w))), (3, .int (nI 3))] := hl
  have hW : qWH E (qr (qr S 4 θ) 2 ρ) s s.heap [] := by rw [show qr (qr S 4 θ) 2 ρ = S from by rw [← hθ, qr_self, ← hρ, qr_self]]; exact hW
  obtain ⟨kθ_1, kθ_2, kθ_3, kθ_4, kθ_5⟩ := id hk
  have hb1 := tN_n (σ := σ) (len := len) (n := n) (by omega)
  have hb2 := tN_le (σ := σ) (len := len) (n := n) (by omega)
  have hb3 := tK_le (σ := σ) (len := len) (n := n)
  refine lv_aload_n X.x X.b d_Tp_readPerhaps_0 rfl (lv_at hl 0 rfl) ?_
  refine lv_aload_n X.x X.b d_Tp_readPerhaps_1 rfl (lv_at hl 1 rfl) ?_
  refine q_cvi X (c_Tp_isWord l E (qr (qr S 4 θ) 2 ρ) θ σ (by rw [qr_ne (by omega), qr_at]) (by rw [qr_ne (by omega), qr_ne (by omega), hσ]) len n hk (by omega) (by omega) 9 (by omega)) hW (q_recv X hW ds_T rfl) ok_Tp_isWord mw_506 ⟨by decide, by decide⟩ (As := [.ref (eK E 9)]) rfl rfl (Nat.le_of_ble_eq_true rfl) (lv := [(0, .ref (eA E 58)), (1, .ref (eK E 9)), (2, .ref (eA E (cB 2 + 13 + w))), (3, .int (nI 3))]) hl ⟨Nat.le_refl 0, Nat.le_refl 0⟩ d_Tp_readPerhaps_2 (fun H locs hW => ?_)
  refine lv_if_ne (tgt := 10) X.x X.b d_Tp_readPerhaps_5 (by decide) (fun c5 => ?_) (fun c5 => ?_)
  · have c5 := b2i_n c5
    refine lv_aload_n X.x X.b d_Tp_readPerhaps_10 rfl (lv_at hl 0 rfl) ?_
    refine q_cvvp X (c_Tp_step l E (qr (qr S 4 θ) 2 ρ) θ σ (by rw [qr_ne (by omega), qr_at]) (by rw [qr_ne (by omega), qr_ne (by omega), hσ]) len (tN σ len n) kθ_1 kθ_2 (by omega) (by omega)) hW (q_recv X hW ds_T rfl) ok_Tp_step mw_490 ⟨by decide, by decide⟩ (As := []) rfl rfl (Nat.le_of_ble_eq_true rfl) (lv := [(0, .ref (eA E 58)), (1, .ref (eK E 9)), (2, .ref (eA E (cB 2 + 13 + w))), (3, .int (nI 3))]) hl ⟨Nat.le_refl 0, Nat.le_refl 0⟩ d_Tp_readPerhaps_11 (fun H locs Sq11 hP11 hW => ?_)
    obtain ⟨τ11, hτ11, rfl⟩ := hP11
    have hW : qWH E (qr (qr S 4 τ11) 2 ρ) s H locs := (by have h := hW; rw [qr_in (by omega)] at h; exact h)
    obtain ⟨kτ11_1, kτ11_2, kτ11_3, kτ11_4, kτ11_5⟩ := id hτ11
    have bτ11 := tN_n (σ := σ) (len := len) (n := tN σ len n) (by omega)
    have dτ11 := tN_le (σ := σ) (len := len) (n := tN σ len n) (by omega)
    have eτ11 := tK_le (σ := σ) (len := len) (n := tN σ len n)
    refine lv_aload_n X.x X.b d_Tp_readPerhaps_14 rfl (lv_at hl 0 rfl) ?_
    refine q_getsN X hW X.Z.2.1 X.Z.2.2.2.2.2.2.2.2.1 d_Tp_readPerhaps_15 ?_
    refine lv_iload_n X.x X.b d_Tp_readPerhaps_18 rfl (lv_at hl 3 rfl) ?_
    refine g_zald X hW X.Z.2.1 (q_in (show 3 < 6 by omega) (by decide)) (q_tn (by omega) (Nat.zero_add _)) d_Tp_readPerhaps_19 ?_
    rw [show zt1.getD 3 0 = nI 0 from by decide]
    refine q_getsN X hW X.Z.2.2.1 X.Z.2.2.2.2.2.2.2.2.2 d_Tp_readPerhaps_20 ?_
    refine lv_iload_n X.x X.b d_Tp_readPerhaps_23 rfl (lv_at hl 3 rfl) ?_
    refine g_zald X hW X.Z.2.2.1 (q_in (show 3 < 6 by omega) (by decide)) (q_tn (by omega) (Nat.zero_add _)) d_Tp_readPerhaps_24 ?_
    rw [show zt2.getD 3 0 = nI 255 from by decide]
    refine q_cvi X (c_Tp_isNumber l E (qr (qr S 4 τ11) 2 ρ) τ11 σ (by rw [qr_ne (by omega), qr_at]) (by rw [qr_ne (by omega), qr_ne (by omega), hσ]) len (tN σ len n) hτ11 (by omega) (by omega) 0 255) hW (q_recv X hW ds_T rfl) ok_Tp_isNumber mw_562 ⟨by decide, by decide⟩ (As := [.int (nI 0), .int (nI 255)]) rfl rfl (Nat.le_of_ble_eq_true rfl) (lv := [(0, .ref (eA E 58)), (1, .ref (eK E 9)), (2, .ref (eA E (cB 2 + 13 + w))), (3, .int (nI 3))]) hl ⟨Nat.le_refl 0, Nat.le_refl 0⟩ d_Tp_readPerhaps_25 (fun H locs hW => ?_)
    refine lv_if_ne (tgt := 33) X.x X.b d_Tp_readPerhaps_28 (by decide) (fun c28 => ?_) (fun c28 => ?_)
    · have c28 := b2i_n c28
      refine lv_aload_n X.x X.b d_Tp_readPerhaps_33 rfl (lv_at hl 2 rfl) ?_
      refine lv_iload_n X.x X.b d_Tp_readPerhaps_34 rfl (lv_at hl 3 rfl) ?_
      refine lv_aload_n X.x X.b d_Tp_readPerhaps_35 rfl (lv_at hl 0 rfl) ?_
      refine g_geti X hW qj2 rfl _ ds_T 5 (by decide) mw_149 rfl (r0 := 4) (p0 := 5) rfl (v := τ11 5) (by rw [qr_ne (by omega), qr_at]) d_Tp_readPerhaps_36 ?_
      rw [kτ11_5]
      refine g_ast X hW (ds_w (w := w) (show 2 < 3 by decide) (by omega)) (q_in (by omega) (by decide)) (p0 := 44 + 6 * w + 3) (q_tn (by omega) (by omega)) (ρ := ρ) (by rw [qr_at]) d_Tp_readPerhaps_39 (fun H locs hW => ?_)
      obtain ⟨r39, er39⟩ : ∃ z, z = upd ρ (44 + 6 * w + 3) (tV σ len (tN σ len n)) := ⟨_, rfl⟩
      rw [← er39] at hW
      rw [qr_qr] at hW
      refine lv_aload_n X.x X.b d_Tp_readPerhaps_40 rfl (lv_at hl 0 rfl) ?_
      refine q_cvvp X (c_Tp_step l E (qr (qr S 4 τ11) 2 r39) τ11 σ (by rw [qr_ne (by omega), qr_at]) (by rw [qr_ne (by omega), qr_ne (by omega), hσ]) len (tN σ len (tN σ len n)) kτ11_1 kτ11_2 (by omega) (by omega)) hW (q_recv X hW ds_T rfl) ok_Tp_step mw_490 ⟨by decide, by decide⟩ (As := []) rfl rfl (Nat.le_of_ble_eq_true rfl) (lv := [(0, .ref (eA E 58)), (1, .ref (eK E 9)), (2, .ref (eA E (cB 2 + 13 + w))), (3, .int (nI 3))]) hl ⟨Nat.le_refl 0, Nat.le_refl 0⟩ d_Tp_readPerhaps_41 (fun H locs Sq41 hP41 hW => ?_)
      obtain ⟨τ41, hτ41, rfl⟩ := hP41
      have hW : qWH E (qr (qr S 4 τ41) 2 r39) s H locs := (by have h := hW; rw [qr_in (by omega)] at h; exact h)
      obtain ⟨kτ41_1, kτ41_2, kτ41_3, kτ41_4, kτ41_5⟩ := id hτ41
      have bτ41 := tN_n (σ := σ) (len := len) (n := tN σ len (tN σ len n)) (by omega)
      have dτ41 := tN_le (σ := σ) (len := len) (n := tN σ len (tN σ len n)) (by omega)
      have eτ41 := tK_le (σ := σ) (len := len) (n := tN σ len (tN σ len n))
      refine lv_iconst (v := nI 1) X.x X.b d_Tp_readPerhaps_44 (by decide) ?_
      have eR : rPer σ len 9 (44 + 6 * w + 3) 0 255 n ρ = (true, (tN σ len (tN σ len n), upd ρ (44 + 6 * w + 3) (tV σ len (tN σ len n)))) := by rw [rPer, if_neg (fun z => z c5), if_neg (fun z => z c28)]
      exact q_pzret X (by decide) hW ⟨(b2i_t (by rw [eR])).symm, ⟨τ41, by rw [eR]; exact hτ41, by rw [eR, er39]⟩⟩ d_Tp_readPerhaps_45
    · have c28 := b2i_e c28
      refine lv_iconst (v := nI 0) X.x X.b d_Tp_readPerhaps_31 (by decide) ?_
      have eR : rPer σ len 9 (44 + 6 * w + 3) 0 255 n ρ = (false, (tN σ len n, ρ)) := by rw [rPer, if_neg (fun z => z c5), if_pos c28]
      exact q_pzret X (by decide) hW ⟨(b2i_f (by rw [eR]; exact Bool.false_ne_true)).symm, ⟨τ11, by rw [eR]; exact hτ11, by rw [eR]⟩⟩ d_Tp_readPerhaps_32
  · have c5 := b2i_e c5
    refine lv_iconst (v := nI 1) X.x X.b d_Tp_readPerhaps_8 (by decide) ?_
    have eR : rPer σ len 9 (44 + 6 * w + 3) 0 255 n ρ = (true, (n, ρ)) := by rw [rPer, if_pos c5]
    exact q_pzret X (by decide) hW ⟨(b2i_t (by rw [eR])).symm, ⟨θ, by rw [eR]; exact hk, by rw [eR]⟩⟩ d_Tp_readPerhaps_9
set_option maxHeartbeats 1000000 in
set_option maxRecDepth 20000 in
theorem c_Tp_readThing (l : Launch) (E : QE) (S : QM) (θ σ ρ : Nat → Int32) (hθ : S 4 = θ) (hσ : S 5 = σ) (hρ : S 2 = ρ) (hwf : WF ρ) (len n : Nat) (hk : tkOK σ len n θ) (hn : n ≤ len) (hlen : len ≤ 120) (k : Nat) : qCPi E l y_Tp_readThing prog_5_method_5_code 3 .boolean 5 [.ref (eA E 58), .ref (eA E (cB 2)), .int (nI k)] S (b2i ((rThi σ len k n ρ).1 = true)) (rdG S σ len (rThi σ len k n ρ)) := by
  refine qCPi_of (by decide) (Nat.le_of_ble_eq_true rfl) (fun p e s m below meth c ls X hW hl => ?_)
  have hl : lv_has ls 3 [(0, .ref (eA E 58)), (1, .ref (eA E (cB 2))), (2, .int (nI k))] := hl
  have hW : qWH E (qr (qr S 4 θ) 2 ρ) s s.heap [] := by rw [show qr (qr S 4 θ) 2 ρ = S from by rw [← hθ, qr_self, ← hρ, qr_self]]; exact hW
  obtain ⟨kθ_1, kθ_2, kθ_3, kθ_4, kθ_5⟩ := id hk
  have hb1 := tN_n (σ := σ) (len := len) (n := n) (by omega)
  have hb2 := tN_le (σ := σ) (len := len) (n := n) (by omega)
  have hb3 := tK_le (σ := σ) (len := len) (n := n)
  have htl := hwf.tl
  have hwl := hwf.wl
  have hdl := hwf.dl
  refine lv_aload_n X.x X.b d_Tp_readThing_0 rfl (lv_at hl 1 rfl) ?_
  refine g_geti X hW qj0 rfl _ (ds_cm (k := 2) (by decide)) 4 (by decide) mw_111 rfl (r0 := 2) (p0 := 1) rfl (v := ρ 1) (by rw [qr_at]) d_Tp_readThing_1 ?_
  rw [hwf.t]
  refine lv_bipush (v := nI 8) X.x X.b d_Tp_readThing_4 (by decide) ?_
  refine lv_icmp_lt (tgt := 11) X.x X.b d_Tp_readThing_6 (by decide) (fun c6 => ?_) (fun c6 => ?_)
  · have c6 : (nT ρ) < 8 := (nI_ltI (a := (nT ρ)) (b := 8) (by omega) (by omega)).mp c6
    refine lv_aload_n X.x X.b d_Tp_readThing_11 rfl (lv_at hl 0 rfl) ?_
    refine q_cvvp X (c_Tp_step l E (qr (qr S 4 θ) 2 ρ) θ σ (by rw [qr_ne (by omega), qr_at]) (by rw [qr_ne (by omega), qr_ne (by omega), hσ]) len (tN σ len n) kθ_1 kθ_2 (by omega) (by omega)) hW (q_recv X hW ds_T rfl) ok_Tp_step mw_490 ⟨by decide, by decide⟩ (As := []) rfl rfl (Nat.le_of_ble_eq_true rfl) (lv := [(0, .ref (eA E 58)), (1, .ref (eA E (cB 2))), (2, .int (nI k))]) hl ⟨Nat.le_refl 0, Nat.le_refl 0⟩ d_Tp_readThing_12 (fun H locs Sq12 hP12 hW => ?_)
    obtain ⟨τ12, hτ12, rfl⟩ := hP12
    have hW : qWH E (qr (qr S 4 τ12) 2 ρ) s H locs := (by have h := hW; rw [qr_in (by omega)] at h; exact h)
    obtain ⟨kτ12_1, kτ12_2, kτ12_3, kτ12_4, kτ12_5⟩ := id hτ12
    have bτ12 := tN_n (σ := σ) (len := len) (n := tN σ len n) (by omega)
    have dτ12 := tN_le (σ := σ) (len := len) (n := tN σ len n) (by omega)
    have eτ12 := tK_le (σ := σ) (len := len) (n := tN σ len n)
    refine lv_aload_n X.x X.b d_Tp_readThing_15 rfl (lv_at hl 0 rfl) ?_
    refine lv_iconst (v := nI 0) X.x X.b d_Tp_readThing_16 (by decide) ?_
    refine lv_bipush (v := nI 15) X.x X.b d_Tp_readThing_17 (by decide) ?_
    refine q_cvi X (c_Tp_isNumber l E (qr (qr S 4 τ12) 2 ρ) τ12 σ (by rw [qr_ne (by omega), qr_at]) (by rw [qr_ne (by omega), qr_ne (by omega), hσ]) len (tN σ len n) hτ12 (by omega) (by omega) 0 15) hW (q_recv X hW ds_T rfl) ok_Tp_isNumber mw_562 ⟨by decide, by decide⟩ (As := [.int (nI 0), .int (nI 15)]) rfl rfl (Nat.le_of_ble_eq_true rfl) (lv := [(0, .ref (eA E 58)), (1, .ref (eA E (cB 2))), (2, .int (nI k))]) hl ⟨Nat.le_refl 0, Nat.le_refl 0⟩ d_Tp_readThing_19 (fun H locs hW => ?_)
    refine lv_if_ne (tgt := 27) X.x X.b d_Tp_readThing_22 (by decide) (fun c22 => ?_) (fun c22 => ?_)
    · have c22 := b2i_n c22
      refine lv_aload_n X.x X.b d_Tp_readThing_27 rfl (lv_at hl 1 rfl) ?_
      refine lv_iload_n X.x X.b d_Tp_readThing_28 rfl (lv_at hl 2 rfl) ?_
      refine lv_aload_n X.x X.b d_Tp_readThing_29 rfl (lv_at hl 0 rfl) ?_
      refine g_geti X hW qj2 rfl _ ds_T 5 (by decide) mw_149 rfl (r0 := 4) (p0 := 5) rfl (v := τ12 5) (by rw [qr_ne (by omega), qr_at]) d_Tp_readThing_30 ?_
      rw [kτ12_5]
      refine q_cvi X (c_Cm_addThing l E 2 (by decide) (qr (qr S 4 τ12) 2 ρ) ρ (by rw [qr_at]) hwf (nI k) (tV σ len (tN σ len n)) (by omega)) hW (q_recv X hW (ds_cm (k := 2) (by decide)) rfl) ok_Cm_addThing mw_596 ⟨by decide, by decide⟩ (As := [.int (nI k), .int (tV σ len (tN σ len n))]) rfl rfl (Nat.le_of_ble_eq_true rfl) (lv := [(0, .ref (eA E 58)), (1, .ref (eA E (cB 2))), (2, .int (nI k))]) hl ⟨Nat.le_refl 0, Nat.le_refl 0⟩ d_Tp_readThing_33 (fun H locs hW => ?_)
      have hW : qWH E (qr (qr S 4 τ12) 2 (addT ρ (nI k) (tV σ len (tN σ len n)))) s H locs := (by have h := hW; rw [qr_qr] at h; exact h)
      refine lv_pop X.x X.b d_Tp_readThing_36 rfl ?_
      refine lv_aload_n X.x X.b d_Tp_readThing_37 rfl (lv_at hl 0 rfl) ?_
      refine q_cvvp X (c_Tp_step l E (qr (qr S 4 τ12) 2 (addT ρ (nI k) (tV σ len (tN σ len n)))) τ12 σ (by rw [qr_ne (by omega), qr_at]) (by rw [qr_ne (by omega), qr_ne (by omega), hσ]) len (tN σ len (tN σ len n)) kτ12_1 kτ12_2 (by omega) (by omega)) hW (q_recv X hW ds_T rfl) ok_Tp_step mw_490 ⟨by decide, by decide⟩ (As := []) rfl rfl (Nat.le_of_ble_eq_true rfl) (lv := [(0, .ref (eA E 58)), (1, .ref (eA E (cB 2))), (2, .int (nI k))]) hl ⟨Nat.le_refl 0, Nat.le_refl 0⟩ d_Tp_readThing_38 (fun H locs Sq38 hP38 hW => ?_)
      obtain ⟨τ38, hτ38, rfl⟩ := hP38
      have hW : qWH E (qr (qr S 4 τ38) 2 (addT ρ (nI k) (tV σ len (tN σ len n)))) s H locs := (by have h := hW; rw [qr_in (by omega)] at h; exact h)
      obtain ⟨kτ38_1, kτ38_2, kτ38_3, kτ38_4, kτ38_5⟩ := id hτ38
      have bτ38 := tN_n (σ := σ) (len := len) (n := tN σ len (tN σ len n)) (by omega)
      have dτ38 := tN_le (σ := σ) (len := len) (n := tN σ len (tN σ len n)) (by omega)
      have eτ38 := tK_le (σ := σ) (len := len) (n := tN σ len (tN σ len n))
      refine lv_iconst (v := nI 1) X.x X.b d_Tp_readThing_41 (by decide) ?_
      have eR : rThi σ len k n ρ = (true, (tN σ len (tN σ len n), addT ρ (nI k) (tV σ len (tN σ len n)))) := by rw [rThi, if_neg (fun z => z (by omega)), if_neg (fun z => z c22)]
      exact q_pzret X (by decide) hW ⟨(b2i_t (by rw [eR])).symm, ⟨τ38, by rw [eR]; exact hτ38, by rw [eR]⟩⟩ d_Tp_readThing_42
    · have c22 := b2i_e c22
      refine lv_iconst (v := nI 0) X.x X.b d_Tp_readThing_25 (by decide) ?_
      have eR : rThi σ len k n ρ = (false, (tN σ len n, ρ)) := by rw [rThi, if_neg (fun z => z (by omega)), if_pos c22]
      exact q_pzret X (by decide) hW ⟨(b2i_f (by rw [eR]; exact Bool.false_ne_true)).symm, ⟨τ12, by rw [eR]; exact hτ12, by rw [eR]⟩⟩ d_Tp_readThing_26
  · have c6 : ¬ (nT ρ) < 8 := fun z => c6 ((nI_ltI (a := (nT ρ)) (b := 8) (by omega) (by omega)).mpr z)
    refine lv_iconst (v := nI 0) X.x X.b d_Tp_readThing_9 (by decide) ?_
    have eR : rThi σ len k n ρ = (false, (n, ρ)) := by rw [rThi, if_pos (by omega)]
    exact q_pzret X (by decide) hW ⟨(b2i_f (by rw [eR]; exact Bool.false_ne_true)).symm, ⟨θ, by rw [eR]; exact hk, by rw [eR]⟩⟩ d_Tp_readThing_10
set_option maxHeartbeats 1000000 in
set_option maxRecDepth 20000 in
theorem c_Tp_readTurn (l : Launch) (E : QE) (S : QM) (θ σ ρ : Nat → Int32) (hθ : S 4 = θ) (hσ : S 5 = σ) (hρ : S 2 = ρ) (hwf : WF ρ) (len n : Nat) (hk : tkOK σ len n θ) (hn : n ≤ len) (hlen : len ≤ 120) : qCPi E l y_Tp_readTurn prog_5_method_8_code 4 .boolean 5 [.ref (eA E 58), .ref (eA E (cB 2))] S (b2i ((rTur σ len n ρ).1 = true)) (rdG S σ len (rTur σ len n ρ)) := by
  refine qCPi_of (by decide) (Nat.le_of_ble_eq_true rfl) (fun p e s m below meth c ls X hW hl => ?_)
  have hl : lv_has ls 4 [(0, .ref (eA E 58)), (1, .ref (eA E (cB 2)))] := hl
  have hW : qWH E (qr (qr S 4 θ) 2 ρ) s s.heap [] := by rw [show qr (qr S 4 θ) 2 ρ = S from by rw [← hθ, qr_self, ← hρ, qr_self]]; exact hW
  obtain ⟨kθ_1, kθ_2, kθ_3, kθ_4, kθ_5⟩ := id hk
  have hb1 := tN_n (σ := σ) (len := len) (n := n) (by omega)
  have hb2 := tN_le (σ := σ) (len := len) (n := n) (by omega)
  have hb3 := tK_le (σ := σ) (len := len) (n := n)
  have htl := hwf.tl
  have hwl := hwf.wl
  have hdl := hwf.dl
  refine lv_aload_n X.x X.b d_Tp_readTurn_0 rfl (lv_at hl 0 rfl) ?_
  refine q_cvvp X (c_Tp_step l E (qr (qr S 4 θ) 2 ρ) θ σ (by rw [qr_ne (by omega), qr_at]) (by rw [qr_ne (by omega), qr_ne (by omega), hσ]) len (tN σ len n) kθ_1 kθ_2 (by omega) (by omega)) hW (q_recv X hW ds_T rfl) ok_Tp_step mw_490 ⟨by decide, by decide⟩ (As := []) rfl rfl (Nat.le_of_ble_eq_true rfl) (lv := [(0, .ref (eA E 58)), (1, .ref (eA E (cB 2)))]) hl ⟨Nat.le_refl 0, Nat.le_refl 0⟩ d_Tp_readTurn_1 (fun H locs Sq1 hP1 hW => ?_)
  obtain ⟨τ1, hτ1, rfl⟩ := hP1
  have hW : qWH E (qr (qr S 4 τ1) 2 ρ) s H locs := (by have h := hW; rw [qr_in (by omega)] at h; exact h)
  obtain ⟨kτ1_1, kτ1_2, kτ1_3, kτ1_4, kτ1_5⟩ := id hτ1
  have bτ1 := tN_n (σ := σ) (len := len) (n := tN σ len n) (by omega)
  have dτ1 := tN_le (σ := σ) (len := len) (n := tN σ len n) (by omega)
  have eτ1 := tK_le (σ := σ) (len := len) (n := tN σ len n)
  refine lv_aload_n X.x X.b d_Tp_readTurn_4 rfl (lv_at hl 0 rfl) ?_
  refine lv_iconst (v := nI 0) X.x X.b d_Tp_readTurn_5 (by decide) ?_
  refine lv_iconst (v := nI 5) X.x X.b d_Tp_readTurn_6 (by decide) ?_
  refine q_cvi X (c_Tp_isNumber l E (qr (qr S 4 τ1) 2 ρ) τ1 σ (by rw [qr_ne (by omega), qr_at]) (by rw [qr_ne (by omega), qr_ne (by omega), hσ]) len (tN σ len n) hτ1 (by omega) (by omega) 0 5) hW (q_recv X hW ds_T rfl) ok_Tp_isNumber mw_562 ⟨by decide, by decide⟩ (As := [.int (nI 0), .int (nI 5)]) rfl rfl (Nat.le_of_ble_eq_true rfl) (lv := [(0, .ref (eA E 58)), (1, .ref (eA E (cB 2)))]) hl ⟨Nat.le_refl 0, Nat.le_refl 0⟩ d_Tp_readTurn_7 (fun H locs hW => ?_)
  refine lv_if_ne (tgt := 15) X.x X.b d_Tp_readTurn_10 (by decide) (fun c10 => ?_) (fun c10 => ?_)
  · have c10 := b2i_n c10
    refine lv_aload_n X.x X.b d_Tp_readTurn_15 rfl (lv_at hl 0 rfl) ?_
    refine g_geti X hW qj2 rfl _ ds_T 5 (by decide) mw_149 rfl (r0 := 4) (p0 := 5) rfl (v := τ1 5) (by rw [qr_ne (by omega), qr_at]) d_Tp_readTurn_16 ?_
    rw [kτ1_5]
    obtain ⟨j16, -, hj16, ej16⟩ := inR_n (by decide) c10.2
    rw [ej16]
    refine lv_istore_n (lv' := [(2, .int (nI j16)), (0, .ref (eA E 58)), (1, .ref (eA E (cB 2)))]) X.x X.b d_Tp_readTurn_19 rfl hl (by decide) rfl (fun ls hl => ?_)
    refine lv_aload_n X.x X.b d_Tp_readTurn_20 rfl (lv_at hl 1 rfl) ?_
    refine q_cvvp X (c_Tp_step l E (qr (qr S 4 τ1) 2 ρ) τ1 σ (by rw [qr_ne (by omega), qr_at]) (by rw [qr_ne (by omega), qr_ne (by omega), hσ]) len (tN σ len (tN σ len n)) kτ1_1 kτ1_2 (by omega) (by omega)) hW (q_recv X hW ds_T rfl) ok_Tp_step mw_490 ⟨by decide, by decide⟩ (As := []) rfl rfl (Nat.le_of_ble_eq_true rfl) (lv := [(2, .int (nI j16)), (0, .ref (eA E 58)), (1, .ref (eA E (cB 2)))]) hl ⟨Nat.le_refl 0, Nat.le_refl 0⟩ d_Tp_readTurn_21 (fun H locs Sq21 hP21 hW => ?_)
    obtain ⟨τ21, hτ21, rfl⟩ := hP21
    have hW : qWH E (qr (qr S 4 τ21) 2 ρ) s H locs := (by have h := hW; rw [qr_in (by omega)] at h; exact h)
    obtain ⟨kτ21_1, kτ21_2, kτ21_3, kτ21_4, kτ21_5⟩ := id hτ21
    have bτ21 := tN_n (σ := σ) (len := len) (n := tN σ len (tN σ len n)) (by omega)
    have dτ21 := tN_le (σ := σ) (len := len) (n := tN σ len (tN σ len n)) (by omega)
    have eτ21 := tK_le (σ := σ) (len := len) (n := tN σ len (tN σ len n))
    refine lv_aload_n X.x X.b d_Tp_readTurn_24 rfl (lv_at hl 1 rfl) ?_
    refine lv_iconst (v := nI 0) X.x X.b d_Tp_readTurn_25 (by decide) ?_
    refine lv_iconst (v := nI 5) X.x X.b d_Tp_readTurn_26 (by decide) ?_
    refine q_cvi X (c_Tp_isNumber l E (qr (qr S 4 τ21) 2 ρ) τ21 σ (by rw [qr_ne (by omega), qr_at]) (by rw [qr_ne (by omega), qr_ne (by omega), hσ]) len (tN σ len (tN σ len n)) hτ21 (by omega) (by omega) 0 5) hW (q_recv X hW ds_T rfl) ok_Tp_isNumber mw_562 ⟨by decide, by decide⟩ (As := [.int (nI 0), .int (nI 5)]) rfl rfl (Nat.le_of_ble_eq_true rfl) (lv := [(2, .int (nI j16)), (0, .ref (eA E 58)), (1, .ref (eA E (cB 2)))]) hl ⟨Nat.le_refl 0, Nat.le_refl 0⟩ d_Tp_readTurn_27 (fun H locs hW => ?_)
    refine lv_if_ne (tgt := 35) X.x X.b d_Tp_readTurn_30 (by decide) (fun c30 => ?_) (fun c30 => ?_)
    · have c30 := b2i_n c30
      refine lv_aload_n X.x X.b d_Tp_readTurn_35 rfl (lv_at hl 1 rfl) ?_
      refine g_geti X hW qj2 rfl _ ds_T 5 (by decide) mw_149 rfl (r0 := 4) (p0 := 5) rfl (v := τ21 5) (by rw [qr_ne (by omega), qr_at]) d_Tp_readTurn_36 ?_
      rw [kτ21_5]
      refine lv_istore_n (lv' := [(3, .int (tV σ len (tN σ len (tN σ len n)))), (2, .int (nI j16)), (0, .ref (eA E 58)), (1, .ref (eA E (cB 2)))]) X.x X.b d_Tp_readTurn_39 rfl hl (by decide) rfl (fun ls hl => ?_)
      refine lv_aload_n X.x X.b d_Tp_readTurn_40 rfl (lv_at hl 2 rfl) ?_
      refine q_cvvp X (c_Tp_step l E (qr (qr S 4 τ21) 2 ρ) τ21 σ (by rw [qr_ne (by omega), qr_at]) (by rw [qr_ne (by omega), qr_ne (by omega), hσ]) len (tN σ len (tN σ len (tN σ len n))) kτ21_1 kτ21_2 (by omega) (by omega)) hW (q_recv X hW ds_T rfl) ok_Tp_step mw_490 ⟨by decide, by decide⟩ (As := []) rfl rfl (Nat.le_of_ble_eq_true rfl) (lv := [(3, .int (tV σ len (tN σ len (tN σ len n)))), (2, .int (nI j16)), (0, .ref (eA E 58)), (1, .ref (eA E (cB 2)))]) hl ⟨Nat.le_refl 0, Nat.le_refl 0⟩ d_Tp_readTurn_41 (fun H locs Sq41 hP41 hW => ?_)
      obtain ⟨τ41, hτ41, rfl⟩ := hP41
      have hW : qWH E (qr (qr S 4 τ41) 2 ρ) s H locs := (by have h := hW; rw [qr_in (by omega)] at h; exact h)
      obtain ⟨kτ41_1, kτ41_2, kτ41_3, kτ41_4, kτ41_5⟩ := id hτ41
      have bτ41 := tN_n (σ := σ) (len := len) (n := tN σ len (tN σ len (tN σ len n))) (by omega)
      have dτ41 := tN_le (σ := σ) (len := len) (n := tN σ len (tN σ len (tN σ len n))) (by omega)
      have eτ41 := tK_le (σ := σ) (len := len) (n := tN σ len (tN σ len (tN σ len n)))
      refine lv_aload_n X.x X.b d_Tp_readTurn_44 rfl (lv_at hl 2 rfl) ?_
      refine lv_iconst (v := nI 0) X.x X.b d_Tp_readTurn_45 (by decide) ?_
      refine lv_bipush (v := nI 7) X.x X.b d_Tp_readTurn_46 (by decide) ?_
      refine q_cvi X (c_Tp_isNumber l E (qr (qr S 4 τ41) 2 ρ) τ41 σ (by rw [qr_ne (by omega), qr_at]) (by rw [qr_ne (by omega), qr_ne (by omega), hσ]) len (tN σ len (tN σ len (tN σ len n))) hτ41 (by omega) (by omega) 0 7) hW (q_recv X hW ds_T rfl) ok_Tp_isNumber mw_562 ⟨by decide, by decide⟩ (As := [.int (nI 0), .int (nI 7)]) rfl rfl (Nat.le_of_ble_eq_true rfl) (lv := [(3, .int (tV σ len (tN σ len (tN σ len n)))), (2, .int (nI j16)), (0, .ref (eA E 58)), (1, .ref (eA E (cB 2)))]) hl ⟨Nat.le_refl 0, Nat.le_refl 0⟩ d_Tp_readTurn_48 (fun H locs hW => ?_)
      refine lv_if_ne (tgt := 56) X.x X.b d_Tp_readTurn_51 (by decide) (fun c51 => ?_) (fun c51 => ?_)
      · have c51 := b2i_n c51
        refine lv_aload_n X.x X.b d_Tp_readTurn_56 rfl (lv_at hl 3 rfl) ?_
        refine q_getr X hW qj0 rfl _ (ds_cm (k := 2) (by decide)) 0 (by decide) mw_101 rfl (c1 := cB 2 + 1) rfl d_Tp_readTurn_57 ?_
        refine lv_iload_n X.x X.b d_Tp_readTurn_60 rfl (lv_at hl 1 rfl) ?_
        refine lv_bipush (v := nI 10) X.x X.b d_Tp_readTurn_61 (by decide) ?_
        refine lv_iload_n X.x X.b d_Tp_readTurn_63 rfl (lv_at hl 0 rfl) ?_
        refine lv_imul X.x X.b d_Tp_readTurn_64 ?_
        refine lv_aload_n X.x X.b d_Tp_readTurn_65 rfl (lv_at hl 2 rfl) ?_
        refine g_geti X hW qj2 rfl _ ds_T 5 (by decide) mw_149 rfl (r0 := 4) (p0 := 5) rfl (v := τ41 5) (by rw [qr_ne (by omega), qr_at]) d_Tp_readTurn_66 ?_
        rw [kτ41_5]
        refine lv_iadd X.x X.b d_Tp_readTurn_69 ?_
        refine g_ast X hW (ds_ls (k := 2) (by decide)) (q_in (by omega) (by decide)) (p0 := 4 + j16) (q_tn (by omega) (by omega)) (ρ := ρ) (by rw [qr_at]) d_Tp_readTurn_70 (fun H locs hW => ?_)
        obtain ⟨r70, er70⟩ : ∃ z, z = upd ρ (4 + j16) (((nI 10) * (tV σ len (tN σ len (tN σ len n)))) + (tV σ len (tN σ len (tN σ len (tN σ len n))))) := ⟨_, rfl⟩
        rw [← er70] at hW
        rw [qr_qr] at hW
        refine lv_aload_n X.x X.b d_Tp_readTurn_71 rfl (lv_at hl 2 rfl) ?_
        refine q_cvvp X (c_Tp_step l E (qr (qr S 4 τ41) 2 r70) τ41 σ (by rw [qr_ne (by omega), qr_at]) (by rw [qr_ne (by omega), qr_ne (by omega), hσ]) len (tN σ len (tN σ len (tN σ len (tN σ len n)))) kτ41_1 kτ41_2 (by omega) (by omega)) hW (q_recv X hW ds_T rfl) ok_Tp_step mw_490 ⟨by decide, by decide⟩ (As := []) rfl rfl (Nat.le_of_ble_eq_true rfl) (lv := [(3, .int (tV σ len (tN σ len (tN σ len n)))), (2, .int (nI j16)), (0, .ref (eA E 58)), (1, .ref (eA E (cB 2)))]) hl ⟨Nat.le_refl 0, Nat.le_refl 0⟩ d_Tp_readTurn_72 (fun H locs Sq72 hP72 hW => ?_)
        obtain ⟨τ72, hτ72, rfl⟩ := hP72
        have hW : qWH E (qr (qr S 4 τ72) 2 r70) s H locs := (by have h := hW; rw [qr_in (by omega)] at h; exact h)
        obtain ⟨kτ72_1, kτ72_2, kτ72_3, kτ72_4, kτ72_5⟩ := id hτ72
        have bτ72 := tN_n (σ := σ) (len := len) (n := tN σ len (tN σ len (tN σ len (tN σ len n)))) (by omega)
        have dτ72 := tN_le (σ := σ) (len := len) (n := tN σ len (tN σ len (tN σ len (tN σ len n)))) (by omega)
        have eτ72 := tK_le (σ := σ) (len := len) (n := tN σ len (tN σ len (tN σ len (tN σ len n))))
        refine lv_iconst (v := nI 1) X.x X.b d_Tp_readTurn_75 (by decide) ?_
        have eR : rTur σ len n ρ = (true, (tN σ len (tN σ len (tN σ len (tN σ len n))), upd ρ (4 + j16) ((nI 10) * (tV σ len (tN σ len (tN σ len n))) + (tV σ len (tN σ len (tN σ len (tN σ len n))))))) := by rw [rTur, if_neg (fun z => z c10), if_neg (fun z => z c30), if_neg (fun z => z c51), ej16, nI_clamp (by omega)]
        exact q_pzret X (by decide) hW ⟨(b2i_t (by rw [eR])).symm, ⟨τ72, by rw [eR]; exact hτ72, by rw [eR, er70]⟩⟩ d_Tp_readTurn_76
      · have c51 := b2i_e c51
        refine lv_iconst (v := nI 0) X.x X.b d_Tp_readTurn_54 (by decide) ?_
        have eR : rTur σ len n ρ = (false, (tN σ len (tN σ len (tN σ len n)), ρ)) := by rw [rTur, if_neg (fun z => z c10), if_neg (fun z => z c30), if_pos c51]
        exact q_pzret X (by decide) hW ⟨(b2i_f (by rw [eR]; exact Bool.false_ne_true)).symm, ⟨τ41, by rw [eR]; exact hτ41, by rw [eR]⟩⟩ d_Tp_readTurn_55
    · have c30 := b2i_e c30
      refine lv_iconst (v := nI 0) X.x X.b d_Tp_readTurn_33 (by decide) ?_
      have eR : rTur σ len n ρ = (false, (tN σ len (tN σ len n), ρ)) := by rw [rTur, if_neg (fun z => z c10), if_pos c30]
      exact q_pzret X (by decide) hW ⟨(b2i_f (by rw [eR]; exact Bool.false_ne_true)).symm, ⟨τ21, by rw [eR]; exact hτ21, by rw [eR]⟩⟩ d_Tp_readTurn_34
  · have c10 := b2i_e c10
    refine lv_iconst (v := nI 0) X.x X.b d_Tp_readTurn_13 (by decide) ?_
    have eR : rTur σ len n ρ = (false, (tN σ len n, ρ)) := by rw [rTur, if_pos c10]
    exact q_pzret X (by decide) hW ⟨(b2i_f (by rw [eR]; exact Bool.false_ne_true)).symm, ⟨τ1, by rw [eR]; exact hτ1, by rw [eR]⟩⟩ d_Tp_readTurn_14
set_option maxHeartbeats 1000000 in
set_option maxRecDepth 20000 in
theorem c_Tp_readWalker (l : Launch) (E : QE) (S : QM) (θ σ ρ : Nat → Int32) (hθ : S 4 = θ) (hσ : S 5 = σ) (hρ : S 2 = ρ) (hwf : WF ρ) (len n : Nat) (hk : tkOK σ len n θ) (hn : n ≤ len) (hlen : len ≤ 120) : qCPi E l y_Tp_readWalker prog_5_method_6_code 4 .boolean 7 [.ref (eA E 58), .ref (eA E (cB 2))] S (b2i ((rWal σ len n ρ).1 = true)) (rdG S σ len (rWal σ len n ρ)) := by
  refine qCPi_of (by decide) (Nat.le_of_ble_eq_true rfl) (fun p e s m below meth c ls X hW hl => ?_)
  have hl : lv_has ls 4 [(0, .ref (eA E 58)), (1, .ref (eA E (cB 2)))] := hl
  have hW : qWH E (qr (qr S 4 θ) 2 ρ) s s.heap [] := by rw [show qr (qr S 4 θ) 2 ρ = S from by rw [← hθ, qr_self, ← hρ, qr_self]]; exact hW
  obtain ⟨kθ_1, kθ_2, kθ_3, kθ_4, kθ_5⟩ := id hk
  have hb1 := tN_n (σ := σ) (len := len) (n := n) (by omega)
  have hb2 := tN_le (σ := σ) (len := len) (n := n) (by omega)
  have hb3 := tK_le (σ := σ) (len := len) (n := n)
  have htl := hwf.tl
  have hwl := hwf.wl
  have hdl := hwf.dl
  refine lv_aload_n X.x X.b d_Tp_readWalker_0 rfl (lv_at hl 1 rfl) ?_
  refine g_geti X hW qj0 rfl _ (ds_cm (k := 2) (by decide)) 5 (by decide) mw_114 rfl (r0 := 2) (p0 := 3) rfl (v := ρ 3) (by rw [qr_at]) d_Tp_readWalker_1 ?_
  rw [hwf.w]
  refine lv_bipush (v := nI 6) X.x X.b d_Tp_readWalker_4 (by decide) ?_
  refine lv_icmp_lt (tgt := 11) X.x X.b d_Tp_readWalker_6 (by decide) (fun c6 => ?_) (fun c6 => ?_)
  · have c6 : (nW ρ) < 6 := (nI_ltI (a := (nW ρ)) (b := 6) (by omega) (by omega)).mp c6
    refine lv_aload_n X.x X.b d_Tp_readWalker_11 rfl (lv_at hl 0 rfl) ?_
    refine q_cvvp X (c_Tp_step l E (qr (qr S 4 θ) 2 ρ) θ σ (by rw [qr_ne (by omega), qr_at]) (by rw [qr_ne (by omega), qr_ne (by omega), hσ]) len (tN σ len n) kθ_1 kθ_2 (by omega) (by omega)) hW (q_recv X hW ds_T rfl) ok_Tp_step mw_490 ⟨by decide, by decide⟩ (As := []) rfl rfl (Nat.le_of_ble_eq_true rfl) (lv := [(0, .ref (eA E 58)), (1, .ref (eA E (cB 2)))]) hl ⟨Nat.le_refl 0, Nat.le_refl 0⟩ d_Tp_readWalker_12 (fun H locs Sq12 hP12 hW => ?_)
    obtain ⟨τ12, hτ12, rfl⟩ := hP12
    have hW : qWH E (qr (qr S 4 τ12) 2 ρ) s H locs := (by have h := hW; rw [qr_in (by omega)] at h; exact h)
    obtain ⟨kτ12_1, kτ12_2, kτ12_3, kτ12_4, kτ12_5⟩ := id hτ12
    have bτ12 := tN_n (σ := σ) (len := len) (n := tN σ len n) (by omega)
    have dτ12 := tN_le (σ := σ) (len := len) (n := tN σ len n) (by omega)
    have eτ12 := tK_le (σ := σ) (len := len) (n := tN σ len n)
    refine lv_aload_n X.x X.b d_Tp_readWalker_15 rfl (lv_at hl 0 rfl) ?_
    refine lv_iconst (v := nI 0) X.x X.b d_Tp_readWalker_16 (by decide) ?_
    refine lv_bipush (v := nI 15) X.x X.b d_Tp_readWalker_17 (by decide) ?_
    refine q_cvi X (c_Tp_isNumber l E (qr (qr S 4 τ12) 2 ρ) τ12 σ (by rw [qr_ne (by omega), qr_at]) (by rw [qr_ne (by omega), qr_ne (by omega), hσ]) len (tN σ len n) hτ12 (by omega) (by omega) 0 15) hW (q_recv X hW ds_T rfl) ok_Tp_isNumber mw_562 ⟨by decide, by decide⟩ (As := [.int (nI 0), .int (nI 15)]) rfl rfl (Nat.le_of_ble_eq_true rfl) (lv := [(0, .ref (eA E 58)), (1, .ref (eA E (cB 2)))]) hl ⟨Nat.le_refl 0, Nat.le_refl 0⟩ d_Tp_readWalker_19 (fun H locs hW => ?_)
    refine lv_if_ne (tgt := 27) X.x X.b d_Tp_readWalker_22 (by decide) (fun c22 => ?_) (fun c22 => ?_)
    · have c22 := b2i_n c22
      refine lv_aload_n X.x X.b d_Tp_readWalker_27 rfl (lv_at hl 0 rfl) ?_
      refine g_geti X hW qj2 rfl _ ds_T 5 (by decide) mw_149 rfl (r0 := 4) (p0 := 5) rfl (v := τ12 5) (by rw [qr_ne (by omega), qr_at]) d_Tp_readWalker_28 ?_
      rw [kτ12_5]
      refine lv_istore_n (lv' := [(2, .int (tV σ len (tN σ len n))), (0, .ref (eA E 58)), (1, .ref (eA E (cB 2)))]) X.x X.b d_Tp_readWalker_31 rfl hl (by decide) rfl (fun ls hl => ?_)
      refine lv_aload_n X.x X.b d_Tp_readWalker_32 rfl (lv_at hl 1 rfl) ?_
      refine q_cvvp X (c_Tp_step l E (qr (qr S 4 τ12) 2 ρ) τ12 σ (by rw [qr_ne (by omega), qr_at]) (by rw [qr_ne (by omega), qr_ne (by omega), hσ]) len (tN σ len (tN σ len n)) kτ12_1 kτ12_2 (by omega) (by omega)) hW (q_recv X hW ds_T rfl) ok_Tp_step mw_490 ⟨by decide, by decide⟩ (As := []) rfl rfl (Nat.le_of_ble_eq_true rfl) (lv := [(2, .int (tV σ len (tN σ len n))), (0, .ref (eA E 58)), (1, .ref (eA E (cB 2)))]) hl ⟨Nat.le_refl 0, Nat.le_refl 0⟩ d_Tp_readWalker_33 (fun H locs Sq33 hP33 hW => ?_)
      obtain ⟨τ33, hτ33, rfl⟩ := hP33
      have hW : qWH E (qr (qr S 4 τ33) 2 ρ) s H locs := (by have h := hW; rw [qr_in (by omega)] at h; exact h)
      obtain ⟨kτ33_1, kτ33_2, kτ33_3, kτ33_4, kτ33_5⟩ := id hτ33
      have bτ33 := tN_n (σ := σ) (len := len) (n := tN σ len (tN σ len n)) (by omega)
      have dτ33 := tN_le (σ := σ) (len := len) (n := tN σ len (tN σ len n)) (by omega)
      have eτ33 := tK_le (σ := σ) (len := len) (n := tN σ len (tN σ len n))
      refine lv_aload_n X.x X.b d_Tp_readWalker_36 rfl (lv_at hl 1 rfl) ?_
      refine lv_iconst (v := nI 0) X.x X.b d_Tp_readWalker_37 (by decide) ?_
      refine lv_bipush (v := nI 7) X.x X.b d_Tp_readWalker_38 (by decide) ?_
      refine q_cvi X (c_Tp_isNumber l E (qr (qr S 4 τ33) 2 ρ) τ33 σ (by rw [qr_ne (by omega), qr_at]) (by rw [qr_ne (by omega), qr_ne (by omega), hσ]) len (tN σ len (tN σ len n)) hτ33 (by omega) (by omega) 0 7) hW (q_recv X hW ds_T rfl) ok_Tp_isNumber mw_562 ⟨by decide, by decide⟩ (As := [.int (nI 0), .int (nI 7)]) rfl rfl (Nat.le_of_ble_eq_true rfl) (lv := [(2, .int (tV σ len (tN σ len n))), (0, .ref (eA E 58)), (1, .ref (eA E (cB 2)))]) hl ⟨Nat.le_refl 0, Nat.le_refl 0⟩ d_Tp_readWalker_40 (fun H locs hW => ?_)
      refine lv_if_ne (tgt := 48) X.x X.b d_Tp_readWalker_43 (by decide) (fun c43 => ?_) (fun c43 => ?_)
      · have c43 := b2i_n c43
        refine lv_aload_n X.x X.b d_Tp_readWalker_48 rfl (lv_at hl 2 rfl) ?_
        refine q_getr X hW qj0 rfl _ (ds_cm (k := 2) (by decide)) 2 (by decide) mw_105 rfl (c1 := cB 2 + 3) rfl d_Tp_readWalker_49 ?_
        refine lv_aload_n X.x X.b d_Tp_readWalker_52 rfl (lv_at hl 2 rfl) ?_
        refine lv_iload_n X.x X.b d_Tp_readWalker_53 rfl (lv_at hl 0 rfl) ?_
        refine lv_aload_n X.x X.b d_Tp_readWalker_54 rfl (lv_at hl 1 rfl) ?_
        refine g_geti X hW qj2 rfl _ ds_T 5 (by decide) mw_149 rfl (r0 := 4) (p0 := 5) rfl (v := τ33 5) (by rw [qr_ne (by omega), qr_at]) d_Tp_readWalker_55 ?_
        rw [kτ33_5]
        refine q_cvi X (c_Cm_addWalker l E 2 (by decide) (qr (qr S 4 τ33) 2 ρ) ρ (by rw [qr_at]) hwf (tV σ len (tN σ len n)) (tV σ len (tN σ len (tN σ len n))) (by omega)) hW (q_recv X hW (ds_cm (k := 2) (by decide)) rfl) ok_Cm_addWalker mw_567 ⟨by decide, by decide⟩ (As := [.int (tV σ len (tN σ len n)), .int (tV σ len (tN σ len (tN σ len n)))]) rfl rfl (Nat.le_of_ble_eq_true rfl) (lv := [(2, .int (tV σ len (tN σ len n))), (0, .ref (eA E 58)), (1, .ref (eA E (cB 2)))]) hl ⟨Nat.le_refl 0, Nat.le_refl 0⟩ d_Tp_readWalker_58 (fun H locs hW => ?_)
        have hW : qWH E (qr (qr S 4 τ33) 2 (addW ρ (tV σ len (tN σ len n)) (tV σ len (tN σ len (tN σ len n))))) s H locs := (by have h := hW; rw [qr_qr] at h; exact h)
        obtain ⟨j58, -, hj58, ej58⟩ := inR_n (by decide) c22.2
        have hwa : WF (addW ρ (tV σ len (tN σ len n)) (tV σ len (tN σ len (tN σ len n)))) := by rw [ej58]; exact WF_addW hwf (by omega) hj58
        refine g_wk (show 2 < 3 by decide) X hW (show nW ρ < 6 by omega) d_Tp_readWalker_61 ?_
        refine lv_astore_n (lv' := [(3, .ref (eA E (cB 2 + 13 + (nW ρ)))), (2, .int (tV σ len (tN σ len n))), (0, .ref (eA E 58)), (1, .ref (eA E (cB 2)))]) X.x X.b d_Tp_readWalker_62 rfl hl (by decide) rfl (fun ls hl => ?_)
        refine lv_aload_n X.x X.b d_Tp_readWalker_63 rfl (lv_at hl 2 rfl) ?_
        refine q_cvvp X (c_Tp_step l E (qr (qr S 4 τ33) 2 (addW ρ (tV σ len (tN σ len n)) (tV σ len (tN σ len (tN σ len n))))) τ33 σ (by rw [qr_ne (by omega), qr_at]) (by rw [qr_ne (by omega), qr_ne (by omega), hσ]) len (tN σ len (tN σ len (tN σ len n))) kτ33_1 kτ33_2 (by omega) (by omega)) hW (q_recv X hW ds_T rfl) ok_Tp_step mw_490 ⟨by decide, by decide⟩ (As := []) rfl rfl (Nat.le_of_ble_eq_true rfl) (lv := [(3, .ref (eA E (cB 2 + 13 + (nW ρ)))), (2, .int (tV σ len (tN σ len n))), (0, .ref (eA E 58)), (1, .ref (eA E (cB 2)))]) hl ⟨Nat.le_refl 0, Nat.le_refl 0⟩ d_Tp_readWalker_64 (fun H locs Sq64 hP64 hW => ?_)
        obtain ⟨τ64, hτ64, rfl⟩ := hP64
        have hW : qWH E (qr (qr S 4 τ64) 2 (addW ρ (tV σ len (tN σ len n)) (tV σ len (tN σ len (tN σ len n))))) s H locs := (by have h := hW; rw [qr_in (by omega)] at h; exact h)
        obtain ⟨kτ64_1, kτ64_2, kτ64_3, kτ64_4, kτ64_5⟩ := id hτ64
        have bτ64 := tN_n (σ := σ) (len := len) (n := tN σ len (tN σ len (tN σ len n))) (by omega)
        have dτ64 := tN_le (σ := σ) (len := len) (n := tN σ len (tN σ len (tN σ len n))) (by omega)
        have eτ64 := tK_le (σ := σ) (len := len) (n := tN σ len (tN σ len (tN σ len n)))
        refine lv_aload_n X.x X.b d_Tp_readWalker_67 rfl (lv_at hl 2 rfl) ?_
        refine q_ldcs X (tx := "pace") (i := 8) (by decide) d_Tp_readWalker_68 ?_
        refine lv_aload_n X.x X.b d_Tp_readWalker_70 rfl (lv_at hl 0 rfl) ?_
        refine lv_iconst (v := nI 2) X.x X.b d_Tp_readWalker_71 (by decide) ?_
        refine q_cvip X (c_Tp_readPerhaps_2 l E (qr (qr S 4 τ64) 2 (addW ρ (tV σ len (tN σ len n)) (tV σ len (tN σ len (tN σ len n))))) τ64 σ (addW ρ (tV σ len (tN σ len n)) (tV σ len (tN σ len (tN σ len n)))) (by rw [qr_ne (by omega), qr_at]) (by rw [qr_ne (by omega), qr_ne (by omega), hσ]) (by rw [qr_at]) hwa len (tN σ len (tN σ len (tN σ len n))) hτ64 (by omega) (by omega) (nW ρ) (by omega)) hW (q_recv X hW ds_T rfl) ok_Tp_readPerhaps mw_569 ⟨by decide, by decide⟩ (As := [.ref (eK E 8), .ref (eA E (cB 2 + 13 + (nW ρ))), .int (nI 2)]) rfl rfl (Nat.le_of_ble_eq_true rfl) (lv := [(3, .ref (eA E (cB 2 + 13 + (nW ρ)))), (2, .int (tV σ len (tN σ len n))), (0, .ref (eA E 58)), (1, .ref (eA E (cB 2)))]) hl ⟨Nat.le_refl 0, Nat.le_refl 0⟩ d_Tp_readWalker_72 (fun H locs Sq72 hP72 hW => ?_)
        obtain ⟨τ72, hτ72, rfl⟩ := hP72
        have hW : qWH E (qr (qr S 4 τ72) 2 ((rPer σ len 8 (44 + 6 * nW ρ + 2) 1 5 (tN σ len (tN σ len (tN σ len n))) (addW ρ (tV σ len (tN σ len n)) (tV σ len (tN σ len (tN σ len n))))).2.2)) s H locs := (by have h := hW; first | (rw [qr_in (by omega), qr_in (by omega)] at h; exact h) | (rw [qr_in (by omega), qr_qr] at h; exact h))
        have z72 : (rPer σ len 8 (44 + 6 * nW ρ + 2) 1 5 (tN σ len (tN σ len (tN σ len n))) (addW ρ (tV σ len (tN σ len n)) (tV σ len (tN σ len (tN σ len n))))).2.1 ≤ len := (rPer_le (by omega)).2
        obtain ⟨kτ72_1, kτ72_2, kτ72_3, kτ72_4, kτ72_5⟩ := id hτ72
        have bτ72 := tN_n (σ := σ) (len := len) (n := (rPer σ len 8 (44 + 6 * nW ρ + 2) 1 5 (tN σ len (tN σ len (tN σ len n))) (addW ρ (tV σ len (tN σ len n)) (tV σ len (tN σ len (tN σ len n))))).2.1) (by omega)
        have dτ72 := tN_le (σ := σ) (len := len) (n := (rPer σ len 8 (44 + 6 * nW ρ + 2) 1 5 (tN σ len (tN σ len (tN σ len n))) (addW ρ (tV σ len (tN σ len n)) (tV σ len (tN σ len (tN σ len n))))).2.1) (by omega)
        have eτ72 := tK_le (σ := σ) (len := len) (n := (rPer σ len 8 (44 + 6 * nW ρ + 2) 1 5 (tN σ len (tN σ len (tN σ len n))) (addW ρ (tV σ len (tN σ len n)) (tV σ len (tN σ len (tN σ len n))))).2.1)
        have hwr : WF (rPer σ len 8 (44 + 6 * nW ρ + 2) 1 5 (tN σ len (tN σ len (tN σ len n))) (addW ρ (tV σ len (tN σ len n)) (tV σ len (tN σ len (tN σ len n))))).2.2 := (rPer2_wf hwa (by omega)).1
        refine lv_if_eq (tgt := 93) X.x X.b d_Tp_readWalker_75 (by decide) (fun c75 => ?_) (fun c75 => ?_)
        · have c75 := b2i_e c75
          refine lv_iconst (v := nI 0) X.x X.b d_Tp_readWalker_93 (by decide) ?_
          have eR : rWal σ len n ρ = rPer σ len 8 (44 + 6 * nW ρ + 2) 1 5 (tN σ len (tN σ len (tN σ len n))) (addW ρ (tV σ len (tN σ len n)) (tV σ len (tN σ len (tN σ len n)))) := by rw [rWal, if_neg (fun z => z (by omega)), if_neg (fun z => z c22), if_neg (fun z => z c43), if_neg c75]
          exact q_pzret X (by decide) hW ⟨(b2i_f (by rw [eR]; exact c75)).symm, ⟨τ72, by rw [eR]; exact hτ72, by rw [eR]⟩⟩ d_Tp_readWalker_94
        · have c75 := b2i_n c75
          refine lv_aload_n X.x X.b d_Tp_readWalker_78 rfl (lv_at hl 2 rfl) ?_
          refine q_ldcs X (tx := "cares") (i := 9) (by decide) d_Tp_readWalker_79 ?_
          refine lv_aload_n X.x X.b d_Tp_readWalker_81 rfl (lv_at hl 0 rfl) ?_
          refine lv_iconst (v := nI 3) X.x X.b d_Tp_readWalker_82 (by decide) ?_
          refine q_cvip X (c_Tp_readPerhaps_3 l E (qr (qr S 4 τ72) 2 ((rPer σ len 8 (44 + 6 * nW ρ + 2) 1 5 (tN σ len (tN σ len (tN σ len n))) (addW ρ (tV σ len (tN σ len n)) (tV σ len (tN σ len (tN σ len n))))).2.2)) τ72 σ ((rPer σ len 8 (44 + 6 * nW ρ + 2) 1 5 (tN σ len (tN σ len (tN σ len n))) (addW ρ (tV σ len (tN σ len n)) (tV σ len (tN σ len (tN σ len n))))).2.2) (by rw [qr_ne (by omega), qr_at]) (by rw [qr_ne (by omega), qr_ne (by omega), hσ]) (by rw [qr_at]) hwr len ((rPer σ len 8 (44 + 6 * nW ρ + 2) 1 5 (tN σ len (tN σ len (tN σ len n))) (addW ρ (tV σ len (tN σ len n)) (tV σ len (tN σ len (tN σ len n))))).2.1) hτ72 (by omega) (by omega) (nW ρ) (by omega)) hW (q_recv X hW ds_T rfl) ok_Tp_readPerhaps mw_569 ⟨by decide, by decide⟩ (As := [.ref (eK E 9), .ref (eA E (cB 2 + 13 + (nW ρ))), .int (nI 3)]) rfl rfl (Nat.le_of_ble_eq_true rfl) (lv := [(3, .ref (eA E (cB 2 + 13 + (nW ρ)))), (2, .int (tV σ len (tN σ len n))), (0, .ref (eA E 58)), (1, .ref (eA E (cB 2)))]) hl ⟨Nat.le_refl 0, Nat.le_refl 0⟩ d_Tp_readWalker_83 (fun H locs Sq83 hP83 hW => ?_)
          obtain ⟨τ83, hτ83, rfl⟩ := hP83
          have hW : qWH E (qr (qr S 4 τ83) 2 ((rPer σ len 9 (44 + 6 * nW ρ + 3) 0 255 ((rPer σ len 8 (44 + 6 * nW ρ + 2) 1 5 (tN σ len (tN σ len (tN σ len n))) (addW ρ (tV σ len (tN σ len n)) (tV σ len (tN σ len (tN σ len n))))).2.1) ((rPer σ len 8 (44 + 6 * nW ρ + 2) 1 5 (tN σ len (tN σ len (tN σ len n))) (addW ρ (tV σ len (tN σ len n)) (tV σ len (tN σ len (tN σ len n))))).2.2)).2.2)) s H locs := (by have h := hW; first | (rw [qr_in (by omega), qr_in (by omega)] at h; exact h) | (rw [qr_in (by omega), qr_qr] at h; exact h))
          have z83 : (rPer σ len 9 (44 + 6 * nW ρ + 3) 0 255 ((rPer σ len 8 (44 + 6 * nW ρ + 2) 1 5 (tN σ len (tN σ len (tN σ len n))) (addW ρ (tV σ len (tN σ len n)) (tV σ len (tN σ len (tN σ len n))))).2.1) ((rPer σ len 8 (44 + 6 * nW ρ + 2) 1 5 (tN σ len (tN σ len (tN σ len n))) (addW ρ (tV σ len (tN σ len n)) (tV σ len (tN σ len (tN σ len n))))).2.2)).2.1 ≤ len := (rPer_le (by omega)).2
          obtain ⟨kτ83_1, kτ83_2, kτ83_3, kτ83_4, kτ83_5⟩ := id hτ83
          have bτ83 := tN_n (σ := σ) (len := len) (n := (rPer σ len 9 (44 + 6 * nW ρ + 3) 0 255 ((rPer σ len 8 (44 + 6 * nW ρ + 2) 1 5 (tN σ len (tN σ len (tN σ len n))) (addW ρ (tV σ len (tN σ len n)) (tV σ len (tN σ len (tN σ len n))))).2.1) ((rPer σ len 8 (44 + 6 * nW ρ + 2) 1 5 (tN σ len (tN σ len (tN σ len n))) (addW ρ (tV σ len (tN σ len n)) (tV σ len (tN σ len (tN σ len n))))).2.2)).2.1) (by omega)
          have dτ83 := tN_le (σ := σ) (len := len) (n := (rPer σ len 9 (44 + 6 * nW ρ + 3) 0 255 ((rPer σ len 8 (44 + 6 * nW ρ + 2) 1 5 (tN σ len (tN σ len (tN σ len n))) (addW ρ (tV σ len (tN σ len n)) (tV σ len (tN σ len (tN σ len n))))).2.1) ((rPer σ len 8 (44 + 6 * nW ρ + 2) 1 5 (tN σ len (tN σ len (tN σ len n))) (addW ρ (tV σ len (tN σ len n)) (tV σ len (tN σ len (tN σ len n))))).2.2)).2.1) (by omega)
          have eτ83 := tK_le (σ := σ) (len := len) (n := (rPer σ len 9 (44 + 6 * nW ρ + 3) 0 255 ((rPer σ len 8 (44 + 6 * nW ρ + 2) 1 5 (tN σ len (tN σ len (tN σ len n))) (addW ρ (tV σ len (tN σ len n)) (tV σ len (tN σ len (tN σ len n))))).2.1) ((rPer σ len 8 (44 + 6 * nW ρ + 2) 1 5 (tN σ len (tN σ len (tN σ len n))) (addW ρ (tV σ len (tN σ len n)) (tV σ len (tN σ len (tN σ len n))))).2.2)).2.1)
          refine lv_if_eq (tgt := 93) X.x X.b d_Tp_readWalker_86 (by decide) (fun c86 => ?_) (fun c86 => ?_)
          · have c86 := b2i_e c86
            refine lv_iconst (v := nI 0) X.x X.b d_Tp_readWalker_93 (by decide) ?_
            have eR : rWal σ len n ρ = rPer σ len 9 (44 + 6 * nW ρ + 3) 0 255 (rPer σ len 8 (44 + 6 * nW ρ + 2) 1 5 (tN σ len (tN σ len (tN σ len n))) (addW ρ (tV σ len (tN σ len n)) (tV σ len (tN σ len (tN σ len n))))).2.1 (rPer σ len 8 (44 + 6 * nW ρ + 2) 1 5 (tN σ len (tN σ len (tN σ len n))) (addW ρ (tV σ len (tN σ len n)) (tV σ len (tN σ len (tN σ len n))))).2.2 := by rw [rWal, if_neg (fun z => z (by omega)), if_neg (fun z => z c22), if_neg (fun z => z c43), if_pos c75]
            exact q_pzret X (by decide) hW ⟨(b2i_f (by rw [eR]; exact c86)).symm, ⟨τ83, by rw [eR]; exact hτ83, by rw [eR]⟩⟩ d_Tp_readWalker_94
          · have c86 := b2i_n c86
            refine lv_iconst (v := nI 1) X.x X.b d_Tp_readWalker_89 (by decide) ?_
            refine lv_goto (tgt := 94) X.x X.b d_Tp_readWalker_90 (by decide) ?_
            have eR : rWal σ len n ρ = rPer σ len 9 (44 + 6 * nW ρ + 3) 0 255 (rPer σ len 8 (44 + 6 * nW ρ + 2) 1 5 (tN σ len (tN σ len (tN σ len n))) (addW ρ (tV σ len (tN σ len n)) (tV σ len (tN σ len (tN σ len n))))).2.1 (rPer σ len 8 (44 + 6 * nW ρ + 2) 1 5 (tN σ len (tN σ len (tN σ len n))) (addW ρ (tV σ len (tN σ len n)) (tV σ len (tN σ len (tN σ len n))))).2.2 := by rw [rWal, if_neg (fun z => z (by omega)), if_neg (fun z => z c22), if_neg (fun z => z c43), if_pos c75]
            exact q_pzret X (by decide) hW ⟨(b2i_t (by rw [eR]; exact c86)).symm, ⟨τ83, by rw [eR]; exact hτ83, by rw [eR]⟩⟩ d_Tp_readWalker_94
      · have c43 := b2i_e c43
        refine lv_iconst (v := nI 0) X.x X.b d_Tp_readWalker_46 (by decide) ?_
        have eR : rWal σ len n ρ = (false, (tN σ len (tN σ len n), ρ)) := by rw [rWal, if_neg (fun z => z (by omega)), if_neg (fun z => z c22), if_pos c43]
        exact q_pzret X (by decide) hW ⟨(b2i_f (by rw [eR]; exact Bool.false_ne_true)).symm, ⟨τ33, by rw [eR]; exact hτ33, by rw [eR]⟩⟩ d_Tp_readWalker_47
    · have c22 := b2i_e c22
      refine lv_iconst (v := nI 0) X.x X.b d_Tp_readWalker_25 (by decide) ?_
      have eR : rWal σ len n ρ = (false, (tN σ len n, ρ)) := by rw [rWal, if_neg (fun z => z (by omega)), if_pos c22]
      exact q_pzret X (by decide) hW ⟨(b2i_f (by rw [eR]; exact Bool.false_ne_true)).symm, ⟨τ12, by rw [eR]; exact hτ12, by rw [eR]⟩⟩ d_Tp_readWalker_26
  · have c6 : ¬ (nW ρ) < 6 := fun z => c6 ((nI_ltI (a := (nW ρ)) (b := 6) (by omega) (by omega)).mpr z)
    refine lv_iconst (v := nI 0) X.x X.b d_Tp_readWalker_9 (by decide) ?_
    have eR : rWal σ len n ρ = (false, (n, ρ)) := by rw [rWal, if_pos (by omega)]
    exact q_pzret X (by decide) hW ⟨(b2i_f (by rw [eR]; exact Bool.false_ne_true)).symm, ⟨θ, by rw [eR]; exact hk, by rw [eR]⟩⟩ d_Tp_readWalker_10
set_option maxHeartbeats 1000000 in
set_option maxRecDepth 20000 in
theorem c_Tp_readItem_n (l : Launch) (E : QE) (S : QM) (θ σ ρ : Nat → Int32) (hθ : S 4 = θ) (hσ : S 5 = σ) (hρ : S 2 = ρ) (hwf : WF ρ) (len n : Nat) (hk : tkOK σ len n θ) (hn : n ≤ len) (hlen : len ≤ 120) (hkw : kwd σ len n = none) : qCPi E l y_Tp_readItem prog_5_method_4_code 3 .boolean 8 [.ref (eA E 58), .ref (eA E (cB 2))] S (b2i ((rItm σ len n ρ).1 = true)) (rdG S σ len (rItm σ len n ρ)) := by
  refine qCPi_of (by decide) (Nat.le_of_ble_eq_true rfl) (fun p e s m below meth c ls X hW hl => ?_)
  have hl : lv_has ls 3 [(0, .ref (eA E 58)), (1, .ref (eA E (cB 2)))] := hl
  have hW : qWH E (qr (qr S 4 θ) 2 ρ) s s.heap [] := by rw [show qr (qr S 4 θ) 2 ρ = S from by rw [← hθ, qr_self, ← hρ, qr_self]]; exact hW
  obtain ⟨kθ_1, kθ_2, kθ_3, kθ_4, kθ_5⟩ := id hk
  have hb1 := tN_n (σ := σ) (len := len) (n := n) (by omega)
  have hb2 := tN_le (σ := σ) (len := len) (n := n) (by omega)
  have hb3 := tK_le (σ := σ) (len := len) (n := n)
  have htl := hwf.tl
  have hwl := hwf.wl
  have hdl := hwf.dl
  refine lv_aload_n X.x X.b d_Tp_readItem_0 rfl (lv_at hl 0 rfl) ?_
  refine q_ldcs X (tx := "walker") (i := 7) (by decide) d_Tp_readItem_1 ?_
  refine q_cvi X (c_Tp_isWord l E (qr (qr S 4 θ) 2 ρ) θ σ (by rw [qr_ne (by omega), qr_at]) (by rw [qr_ne (by omega), qr_ne (by omega), hσ]) len n hk (by omega) (by omega) 7 (by omega)) hW (q_recv X hW ds_T rfl) ok_Tp_isWord mw_506 ⟨by decide, by decide⟩ (As := [.ref (eK E 7)]) rfl rfl (Nat.le_of_ble_eq_true rfl) (lv := [(0, .ref (eA E 58)), (1, .ref (eA E (cB 2)))]) hl ⟨Nat.le_refl 0, Nat.le_refl 0⟩ d_Tp_readItem_3 (fun H locs hW => ?_)
  refine lv_if_eq (tgt := 15) X.x X.b d_Tp_readItem_6 (by decide) (fun c6 => ?_) (fun c6 => ?_)
  · have c6 := b2i_e c6
    refine lv_aload_n X.x X.b d_Tp_readItem_15 rfl (lv_at hl 0 rfl) ?_
    refine q_ldcs X (tx := "turn") (i := 10) (by decide) d_Tp_readItem_16 ?_
    refine q_cvi X (c_Tp_isWord l E (qr (qr S 4 θ) 2 ρ) θ σ (by rw [qr_ne (by omega), qr_at]) (by rw [qr_ne (by omega), qr_ne (by omega), hσ]) len n hk (by omega) (by omega) 10 (by omega)) hW (q_recv X hW ds_T rfl) ok_Tp_isWord mw_506 ⟨by decide, by decide⟩ (As := [.ref (eK E 10)]) rfl rfl (Nat.le_of_ble_eq_true rfl) (lv := [(0, .ref (eA E 58)), (1, .ref (eA E (cB 2)))]) hl ⟨Nat.le_refl 0, Nat.le_refl 0⟩ d_Tp_readItem_18 (fun H locs hW => ?_)
    refine lv_if_eq (tgt := 30) X.x X.b d_Tp_readItem_21 (by decide) (fun c21 => ?_) (fun c21 => ?_)
    · have c21 := b2i_e c21
      refine lv_aload_n X.x X.b d_Tp_readItem_30 rfl (lv_at hl 0 rfl) ?_
      refine q_cvi X (c_Tp_kindOfWord l E (qr (qr S 4 θ) 2 ρ) θ σ (by rw [qr_ne (by omega), qr_at]) (by rw [qr_ne (by omega), qr_ne (by omega), hσ]) len n hk (by omega) (by omega)) hW (q_recv X hW ds_T rfl) ok_Tp_kindOfWord mw_581 ⟨by decide, by decide⟩ (As := []) rfl rfl (Nat.le_of_ble_eq_true rfl) (lv := [(0, .ref (eA E 58)), (1, .ref (eA E (cB 2)))]) hl ⟨Nat.le_refl 0, Nat.le_refl 0⟩ d_Tp_readItem_31 (fun H locs hW => ?_)
      rw [kwI_n hkw]
      refine lv_istore_n (lv' := [(2, .int (-1)), (0, .ref (eA E 58)), (1, .ref (eA E (cB 2)))]) X.x X.b d_Tp_readItem_34 rfl hl (by decide) rfl (fun ls hl => ?_)
      refine lv_iload_n X.x X.b d_Tp_readItem_35 rfl (lv_at hl 0 rfl) ?_
      refine lv_if_lt (tgt := 52) X.x X.b d_Tp_readItem_36 (by decide) (fun c36 => ?_) (fun c36 => ?_)
      · refine lv_iconst (v := nI 0) X.x X.b d_Tp_readItem_52 (by decide) ?_
        have eR : rItm σ len n ρ = (false, (n, ρ)) := by rw [rItm, if_neg c6, if_neg c21, hkw]
        exact q_pzret X (by decide) hW ⟨(b2i_f (by rw [eR]; exact Bool.false_ne_true)).symm, ⟨θ, by rw [eR]; exact hk, by rw [eR]⟩⟩ d_Tp_readItem_53
      · exact absurd (by decide) c36
    · have c21 := b2i_n c21
      refine lv_aload_n X.x X.b d_Tp_readItem_24 rfl (lv_at hl 0 rfl) ?_
      refine lv_aload_n X.x X.b d_Tp_readItem_25 rfl (lv_at hl 1 rfl) ?_
      refine q_cvip X (c_Tp_readTurn l E (qr (qr S 4 θ) 2 ρ) θ σ ρ (by rw [qr_ne (by omega), qr_at]) (by rw [qr_ne (by omega), qr_ne (by omega), hσ]) (by rw [qr_at]) hwf len n hk (by omega) (by omega)) hW (q_recv X hW ds_T rfl) ok_Tp_readTurn mw_577 ⟨by decide, by decide⟩ (As := [.ref (eA E (cB 2))]) rfl rfl (Nat.le_of_ble_eq_true rfl) (lv := [(0, .ref (eA E 58)), (1, .ref (eA E (cB 2)))]) hl ⟨Nat.le_refl 0, Nat.le_refl 0⟩ d_Tp_readItem_26 (fun H locs Sq26 hP26 hW => ?_)
      obtain ⟨τ26, hτ26, rfl⟩ := hP26
      have hW : qWH E (qr (qr S 4 τ26) 2 ((rTur σ len n ρ).2.2)) s H locs := (by have h := hW; first | (rw [qr_in (by omega), qr_in (by omega)] at h; exact h) | (rw [qr_in (by omega), qr_qr] at h; exact h))
      have z26 : (rTur σ len n ρ).2.1 ≤ len := (rTur_le (by omega)).2.1
      obtain ⟨kτ26_1, kτ26_2, kτ26_3, kτ26_4, kτ26_5⟩ := id hτ26
      have bτ26 := tN_n (σ := σ) (len := len) (n := (rTur σ len n ρ).2.1) (by omega)
      have dτ26 := tN_le (σ := σ) (len := len) (n := (rTur σ len n ρ).2.1) (by omega)
      have eτ26 := tK_le (σ := σ) (len := len) (n := (rTur σ len n ρ).2.1)
      have eR : rItm σ len n ρ = rTur σ len n ρ := by rw [rItm, if_neg c6, if_pos c21]
      exact q_pzret X b2i_z hW ⟨by rw [eR], ⟨τ26, by rw [eR]; exact hτ26, by rw [eR]⟩⟩ d_Tp_readItem_29
  · have c6 := b2i_n c6
    refine lv_aload_n X.x X.b d_Tp_readItem_9 rfl (lv_at hl 0 rfl) ?_
    refine lv_aload_n X.x X.b d_Tp_readItem_10 rfl (lv_at hl 1 rfl) ?_
    refine q_cvip X (c_Tp_readWalker l E (qr (qr S 4 θ) 2 ρ) θ σ ρ (by rw [qr_ne (by omega), qr_at]) (by rw [qr_ne (by omega), qr_ne (by omega), hσ]) (by rw [qr_at]) hwf len n hk (by omega) (by omega)) hW (q_recv X hW ds_T rfl) ok_Tp_readWalker mw_558 ⟨by decide, by decide⟩ (As := [.ref (eA E (cB 2))]) rfl rfl (Nat.le_of_ble_eq_true rfl) (lv := [(0, .ref (eA E 58)), (1, .ref (eA E (cB 2)))]) hl ⟨Nat.le_refl 0, Nat.le_refl 0⟩ d_Tp_readItem_11 (fun H locs Sq11 hP11 hW => ?_)
    obtain ⟨τ11, hτ11, rfl⟩ := hP11
    have hW : qWH E (qr (qr S 4 τ11) 2 ((rWal σ len n ρ).2.2)) s H locs := (by have h := hW; first | (rw [qr_in (by omega), qr_in (by omega)] at h; exact h) | (rw [qr_in (by omega), qr_qr] at h; exact h))
    have z11 : (rWal σ len n ρ).2.1 ≤ len := (rWal_le (by omega)).2.1
    obtain ⟨kτ11_1, kτ11_2, kτ11_3, kτ11_4, kτ11_5⟩ := id hτ11
    have bτ11 := tN_n (σ := σ) (len := len) (n := (rWal σ len n ρ).2.1) (by omega)
    have dτ11 := tN_le (σ := σ) (len := len) (n := (rWal σ len n ρ).2.1) (by omega)
    have eτ11 := tK_le (σ := σ) (len := len) (n := (rWal σ len n ρ).2.1)
    have eR : rItm σ len n ρ = rWal σ len n ρ := by rw [rItm, if_pos c6]
    exact q_pzret X b2i_z hW ⟨by rw [eR], ⟨τ11, by rw [eR]; exact hτ11, by rw [eR]⟩⟩ d_Tp_readItem_14
set_option maxHeartbeats 1000000 in
set_option maxRecDepth 20000 in
theorem c_Tp_readItem_k (l : Launch) (E : QE) (S : QM) (θ σ ρ : Nat → Int32) (hθ : S 4 = θ) (hσ : S 5 = σ) (hρ : S 2 = ρ) (hwf : WF ρ) (len n : Nat) (hk : tkOK σ len n θ) (hn : n ≤ len) (hlen : len ≤ 120) (k : Nat) (hkw : kwd σ len n = some k) : qCPi E l y_Tp_readItem prog_5_method_4_code 3 .boolean 8 [.ref (eA E 58), .ref (eA E (cB 2))] S (b2i ((rItm σ len n ρ).1 = true)) (rdG S σ len (rItm σ len n ρ)) := by
  refine qCPi_of (by decide) (Nat.le_of_ble_eq_true rfl) (fun p e s m below meth c ls X hW hl => ?_)
  have hl : lv_has ls 3 [(0, .ref (eA E 58)), (1, .ref (eA E (cB 2)))] := hl
  have hW : qWH E (qr (qr S 4 θ) 2 ρ) s s.heap [] := by rw [show qr (qr S 4 θ) 2 ρ = S from by rw [← hθ, qr_self, ← hρ, qr_self]]; exact hW
  obtain ⟨kθ_1, kθ_2, kθ_3, kθ_4, kθ_5⟩ := id hk
  have hb1 := tN_n (σ := σ) (len := len) (n := n) (by omega)
  have hb2 := tN_le (σ := σ) (len := len) (n := n) (by omega)
  have hb3 := tK_le (σ := σ) (len := len) (n := n)
  have htl := hwf.tl
  have hwl := hwf.wl
  have hdl := hwf.dl
  have hkl := kwd_le hkw
  refine lv_aload_n X.x X.b d_Tp_readItem_0 rfl (lv_at hl 0 rfl) ?_
  refine q_ldcs X (tx := "walker") (i := 7) (by decide) d_Tp_readItem_1 ?_
  refine q_cvi X (c_Tp_isWord l E (qr (qr S 4 θ) 2 ρ) θ σ (by rw [qr_ne (by omega), qr_at]) (by rw [qr_ne (by omega), qr_ne (by omega), hσ]) len n hk (by omega) (by omega) 7 (by omega)) hW (q_recv X hW ds_T rfl) ok_Tp_isWord mw_506 ⟨by decide, by decide⟩ (As := [.ref (eK E 7)]) rfl rfl (Nat.le_of_ble_eq_true rfl) (lv := [(0, .ref (eA E 58)), (1, .ref (eA E (cB 2)))]) hl ⟨Nat.le_refl 0, Nat.le_refl 0⟩ d_Tp_readItem_3 (fun H locs hW => ?_)
  refine lv_if_eq (tgt := 15) X.x X.b d_Tp_readItem_6 (by decide) (fun c6 => ?_) (fun c6 => ?_)
  · have c6 := b2i_e c6
    refine lv_aload_n X.x X.b d_Tp_readItem_15 rfl (lv_at hl 0 rfl) ?_
    refine q_ldcs X (tx := "turn") (i := 10) (by decide) d_Tp_readItem_16 ?_
    refine q_cvi X (c_Tp_isWord l E (qr (qr S 4 θ) 2 ρ) θ σ (by rw [qr_ne (by omega), qr_at]) (by rw [qr_ne (by omega), qr_ne (by omega), hσ]) len n hk (by omega) (by omega) 10 (by omega)) hW (q_recv X hW ds_T rfl) ok_Tp_isWord mw_506 ⟨by decide, by decide⟩ (As := [.ref (eK E 10)]) rfl rfl (Nat.le_of_ble_eq_true rfl) (lv := [(0, .ref (eA E 58)), (1, .ref (eA E (cB 2)))]) hl ⟨Nat.le_refl 0, Nat.le_refl 0⟩ d_Tp_readItem_18 (fun H locs hW => ?_)
    refine lv_if_eq (tgt := 30) X.x X.b d_Tp_readItem_21 (by decide) (fun c21 => ?_) (fun c21 => ?_)
    · have c21 := b2i_e c21
      refine lv_aload_n X.x X.b d_Tp_readItem_30 rfl (lv_at hl 0 rfl) ?_
      refine q_cvi X (c_Tp_kindOfWord l E (qr (qr S 4 θ) 2 ρ) θ σ (by rw [qr_ne (by omega), qr_at]) (by rw [qr_ne (by omega), qr_ne (by omega), hσ]) len n hk (by omega) (by omega)) hW (q_recv X hW ds_T rfl) ok_Tp_kindOfWord mw_581 ⟨by decide, by decide⟩ (As := []) rfl rfl (Nat.le_of_ble_eq_true rfl) (lv := [(0, .ref (eA E 58)), (1, .ref (eA E (cB 2)))]) hl ⟨Nat.le_refl 0, Nat.le_refl 0⟩ d_Tp_readItem_31 (fun H locs hW => ?_)
      rw [kwI_s hkw]
      refine lv_istore_n (lv' := [(2, .int (nI k)), (0, .ref (eA E 58)), (1, .ref (eA E (cB 2)))]) X.x X.b d_Tp_readItem_34 rfl hl (by decide) rfl (fun ls hl => ?_)
      refine lv_iload_n X.x X.b d_Tp_readItem_35 rfl (lv_at hl 0 rfl) ?_
      refine lv_if_lt (tgt := 52) X.x X.b d_Tp_readItem_36 (by decide) (fun c36 => ?_) (fun c36 => ?_)
      · have c36 : k < 0 := (nI_ltI (a := k) (b := 0) (by omega) (by omega)).mp c36
        omega
      · have c36 : ¬ k < 0 := fun z => c36 ((nI_ltI (a := k) (b := 0) (by omega) (by omega)).mpr z)
        refine lv_aload_n X.x X.b d_Tp_readItem_39 rfl (lv_at hl 1 rfl) ?_
        refine lv_aload_n X.x X.b d_Tp_readItem_40 rfl (lv_at hl 2 rfl) ?_
        refine lv_iload_n X.x X.b d_Tp_readItem_41 rfl (lv_at hl 0 rfl) ?_
        refine q_cvip X (c_Tp_readThing l E (qr (qr S 4 θ) 2 ρ) θ σ ρ (by rw [qr_ne (by omega), qr_at]) (by rw [qr_ne (by omega), qr_ne (by omega), hσ]) (by rw [qr_at]) hwf len n hk (by omega) (by omega) k) hW (q_recv X hW ds_T rfl) ok_Tp_readThing mw_592 ⟨by decide, by decide⟩ (As := [.ref (eA E (cB 2)), .int (nI k)]) rfl rfl (Nat.le_of_ble_eq_true rfl) (lv := [(2, .int (nI k)), (0, .ref (eA E 58)), (1, .ref (eA E (cB 2)))]) hl ⟨Nat.le_refl 0, Nat.le_refl 0⟩ d_Tp_readItem_42 (fun H locs Sq42 hP42 hW => ?_)
        obtain ⟨τ42, hτ42, rfl⟩ := hP42
        have hW : qWH E (qr (qr S 4 τ42) 2 ((rThi σ len k n ρ).2.2)) s H locs := (by have h := hW; first | (rw [qr_in (by omega), qr_in (by omega)] at h; exact h) | (rw [qr_in (by omega), qr_qr] at h; exact h))
        have z42 : (rThi σ len k n ρ).2.1 ≤ len := (rThi_le (by omega)).2.1
        obtain ⟨kτ42_1, kτ42_2, kτ42_3, kτ42_4, kτ42_5⟩ := id hτ42
        have bτ42 := tN_n (σ := σ) (len := len) (n := (rThi σ len k n ρ).2.1) (by omega)
        have dτ42 := tN_le (σ := σ) (len := len) (n := (rThi σ len k n ρ).2.1) (by omega)
        have eτ42 := tK_le (σ := σ) (len := len) (n := (rThi σ len k n ρ).2.1)
        refine lv_if_eq (tgt := 52) X.x X.b d_Tp_readItem_45 (by decide) (fun c45 => ?_) (fun c45 => ?_)
        · have c45 := b2i_e c45
          refine lv_iconst (v := nI 0) X.x X.b d_Tp_readItem_52 (by decide) ?_
          have eR : rItm σ len n ρ = rThi σ len k n ρ := by rw [rItm, if_neg c6, if_neg c21, hkw]
          exact q_pzret X (by decide) hW ⟨(b2i_f (by rw [eR]; exact c45)).symm, ⟨τ42, by rw [eR]; exact hτ42, by rw [eR]⟩⟩ d_Tp_readItem_53
        · have c45 := b2i_n c45
          refine lv_iconst (v := nI 1) X.x X.b d_Tp_readItem_48 (by decide) ?_
          refine lv_goto (tgt := 53) X.x X.b d_Tp_readItem_49 (by decide) ?_
          have eR : rItm σ len n ρ = rThi σ len k n ρ := by rw [rItm, if_neg c6, if_neg c21, hkw]
          exact q_pzret X (by decide) hW ⟨(b2i_t (by rw [eR]; exact c45)).symm, ⟨τ42, by rw [eR]; exact hτ42, by rw [eR]⟩⟩ d_Tp_readItem_53
    · have c21 := b2i_n c21
      refine lv_aload_n X.x X.b d_Tp_readItem_24 rfl (lv_at hl 0 rfl) ?_
      refine lv_aload_n X.x X.b d_Tp_readItem_25 rfl (lv_at hl 1 rfl) ?_
      refine q_cvip X (c_Tp_readTurn l E (qr (qr S 4 θ) 2 ρ) θ σ ρ (by rw [qr_ne (by omega), qr_at]) (by rw [qr_ne (by omega), qr_ne (by omega), hσ]) (by rw [qr_at]) hwf len n hk (by omega) (by omega)) hW (q_recv X hW ds_T rfl) ok_Tp_readTurn mw_577 ⟨by decide, by decide⟩ (As := [.ref (eA E (cB 2))]) rfl rfl (Nat.le_of_ble_eq_true rfl) (lv := [(0, .ref (eA E 58)), (1, .ref (eA E (cB 2)))]) hl ⟨Nat.le_refl 0, Nat.le_refl 0⟩ d_Tp_readItem_26 (fun H locs Sq26 hP26 hW => ?_)
      obtain ⟨τ26, hτ26, rfl⟩ := hP26
      have hW : qWH E (qr (qr S 4 τ26) 2 ((rTur σ len n ρ).2.2)) s H locs := (by have h := hW; first | (rw [qr_in (by omega), qr_in (by omega)] at h; exact h) | (rw [qr_in (by omega), qr_qr] at h; exact h))
      have z26 : (rTur σ len n ρ).2.1 ≤ len := (rTur_le (by omega)).2.1
      obtain ⟨kτ26_1, kτ26_2, kτ26_3, kτ26_4, kτ26_5⟩ := id hτ26
      have bτ26 := tN_n (σ := σ) (len := len) (n := (rTur σ len n ρ).2.1) (by omega)
      have dτ26 := tN_le (σ := σ) (len := len) (n := (rTur σ len n ρ).2.1) (by omega)
      have eτ26 := tK_le (σ := σ) (len := len) (n := (rTur σ len n ρ).2.1)
      have eR : rItm σ len n ρ = rTur σ len n ρ := by rw [rItm, if_neg c6, if_pos c21]
      exact q_pzret X b2i_z hW ⟨by rw [eR], ⟨τ26, by rw [eR]; exact hτ26, by rw [eR]⟩⟩ d_Tp_readItem_29
  · have c6 := b2i_n c6
    refine lv_aload_n X.x X.b d_Tp_readItem_9 rfl (lv_at hl 0 rfl) ?_
    refine lv_aload_n X.x X.b d_Tp_readItem_10 rfl (lv_at hl 1 rfl) ?_
    refine q_cvip X (c_Tp_readWalker l E (qr (qr S 4 θ) 2 ρ) θ σ ρ (by rw [qr_ne (by omega), qr_at]) (by rw [qr_ne (by omega), qr_ne (by omega), hσ]) (by rw [qr_at]) hwf len n hk (by omega) (by omega)) hW (q_recv X hW ds_T rfl) ok_Tp_readWalker mw_558 ⟨by decide, by decide⟩ (As := [.ref (eA E (cB 2))]) rfl rfl (Nat.le_of_ble_eq_true rfl) (lv := [(0, .ref (eA E 58)), (1, .ref (eA E (cB 2)))]) hl ⟨Nat.le_refl 0, Nat.le_refl 0⟩ d_Tp_readItem_11 (fun H locs Sq11 hP11 hW => ?_)
    obtain ⟨τ11, hτ11, rfl⟩ := hP11
    have hW : qWH E (qr (qr S 4 τ11) 2 ((rWal σ len n ρ).2.2)) s H locs := (by have h := hW; first | (rw [qr_in (by omega), qr_in (by omega)] at h; exact h) | (rw [qr_in (by omega), qr_qr] at h; exact h))
    have z11 : (rWal σ len n ρ).2.1 ≤ len := (rWal_le (by omega)).2.1
    obtain ⟨kτ11_1, kτ11_2, kτ11_3, kτ11_4, kτ11_5⟩ := id hτ11
    have bτ11 := tN_n (σ := σ) (len := len) (n := (rWal σ len n ρ).2.1) (by omega)
    have dτ11 := tN_le (σ := σ) (len := len) (n := (rWal σ len n ρ).2.1) (by omega)
    have eτ11 := tK_le (σ := σ) (len := len) (n := (rWal σ len n ρ).2.1)
    have eR : rItm σ len n ρ = rWal σ len n ρ := by rw [rItm, if_pos c6]
    exact q_pzret X b2i_z hW ⟨by rw [eR], ⟨τ11, by rw [eR]; exact hτ11, by rw [eR]⟩⟩ d_Tp_readItem_14
theorem c_Tp_readItem (l : Launch) (E : QE) (S : QM) (θ σ ρ : Nat → Int32) (hθ : S 4 = θ) (hσ : S 5 = σ) (hρ : S 2 = ρ) (hwf : WF ρ) (len n : Nat) (hk : tkOK σ len n θ) (hn : n ≤ len) (hlen : len ≤ 120) : qCPi E l y_Tp_readItem prog_5_method_4_code 3 .boolean 8 [.ref (eA E 58), .ref (eA E (cB 2))] S (b2i ((rItm σ len n ρ).1 = true)) (rdG S σ len (rItm σ len n ρ)) := by
  cases hkw : kwd σ len n with
  | none => exact c_Tp_readItem_n l E S θ σ ρ hθ hσ hρ hwf len n hk hn hlen hkw
  | some k => exact c_Tp_readItem_k l E S θ σ ρ hθ hσ hρ hwf len n hk hn hlen k hkw
