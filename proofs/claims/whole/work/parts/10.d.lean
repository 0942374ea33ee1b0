theorem d_Cm_addThing_0 : decode prog_2_method_5_code 0 = .ok (.aload_n 0, 1) := by decide +kernel
theorem d_Cm_addThing_1 : decode prog_2_method_5_code 1 = .ok (.getfield 17, 3) := by decide +kernel
theorem d_Cm_addThing_4 : decode prog_2_method_5_code 4 = .ok (.aload_n 0, 1) := by decide +kernel
theorem d_Cm_addThing_5 : decode prog_2_method_5_code 5 = .ok (.getfield 26, 3) := by decide +kernel
theorem d_Cm_addThing_8 : decode prog_2_method_5_code 8 = .ok (.aaload, 1) := by decide +kernel
theorem d_Cm_addThing_9 : decode prog_2_method_5_code 9 = .ok (.astore_n 3, 1) := by decide +kernel
theorem d_Cm_addThing_10 : decode prog_2_method_5_code 10 = .ok (.aload_n 3, 1) := by decide +kernel
theorem d_Cm_addThing_11 : decode prog_2_method_5_code 11 = .ok (.iconst 0, 1) := by decide +kernel
theorem d_Cm_addThing_12 : decode prog_2_method_5_code 12 = .ok (.iload_n 1, 1) := by decide +kernel
theorem d_Cm_addThing_13 : decode prog_2_method_5_code 13 = .ok (.iastore, 1) := by decide +kernel
theorem d_Cm_addThing_14 : decode prog_2_method_5_code 14 = .ok (.aload_n 3, 1) := by decide +kernel
theorem d_Cm_addThing_15 : decode prog_2_method_5_code 15 = .ok (.iconst 1, 1) := by decide +kernel
theorem d_Cm_addThing_16 : decode prog_2_method_5_code 16 = .ok (.iload_n 2, 1) := by decide +kernel
theorem d_Cm_addThing_17 : decode prog_2_method_5_code 17 = .ok (.iastore, 1) := by decide +kernel
theorem d_Cm_addThing_18 : decode prog_2_method_5_code 18 = .ok (.aload_n 3, 1) := by decide +kernel
theorem d_Cm_addThing_19 : decode prog_2_method_5_code 19 = .ok (.iconst 2, 1) := by decide +kernel
theorem d_Cm_addThing_20 : decode prog_2_method_5_code 20 = .ok (.iconst 0, 1) := by decide +kernel
theorem d_Cm_addThing_21 : decode prog_2_method_5_code 21 = .ok (.iastore, 1) := by decide +kernel
theorem d_Cm_addThing_22 : decode prog_2_method_5_code 22 = .ok (.aload_n 0, 1) := by decide +kernel
theorem d_Cm_addThing_23 : decode prog_2_method_5_code 23 = .ok (.dup, 1) := by decide +kernel
theorem d_Cm_addThing_24 : decode prog_2_method_5_code 24 = .ok (.getfield 26, 3) := by decide +kernel
theorem d_Cm_addThing_27 : decode prog_2_method_5_code 27 = .ok (.iconst 1, 1) := by decide +kernel
theorem d_Cm_addThing_28 : decode prog_2_method_5_code 28 = .ok (.iadd, 1) := by decide +kernel
theorem d_Cm_addThing_29 : decode prog_2_method_5_code 29 = .ok (.putfield 26, 3) := by decide +kernel
theorem d_Cm_addThing_32 : decode prog_2_method_5_code 32 = .ok (.aload_n 0, 1) := by decide +kernel
theorem d_Cm_addThing_33 : decode prog_2_method_5_code 33 = .ok (.getfield 26, 3) := by decide +kernel
theorem d_Cm_addThing_36 : decode prog_2_method_5_code 36 = .ok (.iconst 1, 1) := by decide +kernel
theorem d_Cm_addThing_37 : decode prog_2_method_5_code 37 = .ok (.isub, 1) := by decide +kernel
theorem d_Cm_addThing_38 : decode prog_2_method_5_code 38 = .ok (.ireturn, 1) := by decide +kernel
theorem d_Cm_addWalker_0 : decode prog_2_method_6_code 0 = .ok (.aload_n 0, 1) := by decide +kernel
theorem d_Cm_addWalker_1 : decode prog_2_method_6_code 1 = .ok (.getfield 20, 3) := by decide +kernel
theorem d_Cm_addWalker_4 : decode prog_2_method_6_code 4 = .ok (.aload_n 0, 1) := by decide +kernel
theorem d_Cm_addWalker_5 : decode prog_2_method_6_code 5 = .ok (.getfield 30, 3) := by decide +kernel
theorem d_Cm_addWalker_8 : decode prog_2_method_6_code 8 = .ok (.aaload, 1) := by decide +kernel
theorem d_Cm_addWalker_9 : decode prog_2_method_6_code 9 = .ok (.astore_n 3, 1) := by decide +kernel
theorem d_Cm_addWalker_10 : decode prog_2_method_6_code 10 = .ok (.aload_n 3, 1) := by decide +kernel
theorem d_Cm_addWalker_11 : decode prog_2_method_6_code 11 = .ok (.iconst 0, 1) := by decide +kernel
theorem d_Cm_addWalker_12 : decode prog_2_method_6_code 12 = .ok (.iload_n 1, 1) := by decide +kernel
theorem d_Cm_addWalker_13 : decode prog_2_method_6_code 13 = .ok (.iastore, 1) := by decide +kernel
theorem d_Cm_addWalker_14 : decode prog_2_method_6_code 14 = .ok (.aload_n 3, 1) := by decide +kernel
theorem d_Cm_addWalker_15 : decode prog_2_method_6_code 15 = .ok (.iconst 1, 1) := by decide +kernel
theorem d_Cm_addWalker_16 : decode prog_2_method_6_code 16 = .ok (.iload_n 2, 1) := by decide +kernel
theorem d_Cm_addWalker_17 : decode prog_2_method_6_code 17 = .ok (.iastore, 1) := by decide +kernel
theorem d_Cm_addWalker_18 : decode prog_2_method_6_code 18 = .ok (.aload_n 3, 1) := by decide +kernel
theorem d_Cm_addWalker_19 : decode prog_2_method_6_code 19 = .ok (.iconst 2, 1) := by decide +kernel
theorem d_Cm_addWalker_20 : decode prog_2_method_6_code 20 = .ok (.iconst 2, 1) := by decide +kernel
theorem d_Cm_addWalker_21 : decode prog_2_method_6_code 21 = .ok (.iastore, 1) := by decide +kernel
theorem d_Cm_addWalker_22 : decode prog_2_method_6_code 22 = .ok (.aload_n 3, 1) := by decide +kernel
theorem d_Cm_addWalker_23 : decode prog_2_method_6_code 23 = .ok (.iconst 3, 1) := by decide +kernel
theorem d_Cm_addWalker_24 : decode prog_2_method_6_code 24 = .ok (.iconst 0, 1) := by decide +kernel
theorem d_Cm_addWalker_25 : decode prog_2_method_6_code 25 = .ok (.iastore, 1) := by decide +kernel
theorem d_Cm_addWalker_26 : decode prog_2_method_6_code 26 = .ok (.aload_n 3, 1) := by decide +kernel
theorem d_Cm_addWalker_27 : decode prog_2_method_6_code 27 = .ok (.iconst 4, 1) := by decide +kernel
theorem d_Cm_addWalker_28 : decode prog_2_method_6_code 28 = .ok (.iconst 0, 1) := by decide +kernel
theorem d_Cm_addWalker_29 : decode prog_2_method_6_code 29 = .ok (.iastore, 1) := by decide +kernel
theorem d_Cm_addWalker_30 : decode prog_2_method_6_code 30 = .ok (.aload_n 3, 1) := by decide +kernel
theorem d_Cm_addWalker_31 : decode prog_2_method_6_code 31 = .ok (.iconst 5, 1) := by decide +kernel
theorem d_Cm_addWalker_32 : decode prog_2_method_6_code 32 = .ok (.iconst 0, 1) := by decide +kernel
theorem d_Cm_addWalker_33 : decode prog_2_method_6_code 33 = .ok (.iastore, 1) := by decide +kernel
theorem d_Cm_addWalker_34 : decode prog_2_method_6_code 34 = .ok (.aload_n 0, 1) := by decide +kernel
theorem d_Cm_addWalker_35 : decode prog_2_method_6_code 35 = .ok (.dup, 1) := by decide +kernel
theorem d_Cm_addWalker_36 : decode prog_2_method_6_code 36 = .ok (.getfield 30, 3) := by decide +kernel
theorem d_Cm_addWalker_39 : decode prog_2_method_6_code 39 = .ok (.iconst 1, 1) := by decide +kernel
theorem d_Cm_addWalker_40 : decode prog_2_method_6_code 40 = .ok (.iadd, 1) := by decide +kernel
theorem d_Cm_addWalker_41 : decode prog_2_method_6_code 41 = .ok (.putfield 30, 3) := by decide +kernel
theorem d_Cm_addWalker_44 : decode prog_2_method_6_code 44 = .ok (.aload_n 0, 1) := by decide +kernel
theorem d_Cm_addWalker_45 : decode prog_2_method_6_code 45 = .ok (.getfield 30, 3) := by decide +kernel
theorem d_Cm_addWalker_48 : decode prog_2_method_6_code 48 = .ok (.iconst 1, 1) := by decide +kernel
theorem d_Cm_addWalker_49 : decode prog_2_method_6_code 49 = .ok (.isub, 1) := by decide +kernel
theorem d_Cm_addWalker_50 : decode prog_2_method_6_code 50 = .ok (.ireturn, 1) := by decide +kernel
theorem d_Cm_draw_0 : decode prog_2_method_7_code 0 = .ok (.aload_n 0, 1) := by decide +kernel
theorem d_Cm_draw_1 : decode prog_2_method_7_code 1 = .ok (.aload_n 0, 1) := by decide +kernel
theorem d_Cm_draw_2 : decode prog_2_method_7_code 2 = .ok (.getfield 36, 3) := by decide +kernel
theorem d_Cm_draw_5 : decode prog_2_method_7_code 5 = .ok (.ldc 51, 2) := by decide +kernel
theorem d_Cm_draw_7 : decode prog_2_method_7_code 7 = .ok (.imul, 1) := by decide +kernel
theorem d_Cm_draw_8 : decode prog_2_method_7_code 8 = .ok (.sipush 12345, 3) := by decide +kernel
theorem d_Cm_draw_11 : decode prog_2_method_7_code 11 = .ok (.iadd, 1) := by decide +kernel
theorem d_Cm_draw_12 : decode prog_2_method_7_code 12 = .ok (.putfield 36, 3) := by decide +kernel
theorem d_Cm_draw_15 : decode prog_2_method_7_code 15 = .ok (.aload_n 0, 1) := by decide +kernel
theorem d_Cm_draw_16 : decode prog_2_method_7_code 16 = .ok (.getfield 36, 3) := by decide +kernel
theorem d_Cm_draw_19 : decode prog_2_method_7_code 19 = .ok (.bipush 8, 2) := by decide +kernel
theorem d_Cm_draw_21 : decode prog_2_method_7_code 21 = .ok (.iushr, 1) := by decide +kernel
theorem d_Cm_draw_22 : decode prog_2_method_7_code 22 = .ok (.ireturn, 1) := by decide +kernel
theorem d_Cm_become_0 : decode prog_2_method_2_code 0 = .ok (.aload_n 1, 1) := by decide +kernel
theorem d_Cm_become_1 : decode prog_2_method_2_code 1 = .ok (.getfield 9, 3) := by decide +kernel
theorem d_Cm_become_4 : decode prog_2_method_2_code 4 = .ok (.iconst 0, 1) := by decide +kernel
theorem d_Cm_become_5 : decode prog_2_method_2_code 5 = .ok (.aload_n 0, 1) := by decide +kernel
theorem d_Cm_become_6 : decode prog_2_method_2_code 6 = .ok (.getfield 9, 3) := by decide +kernel
theorem d_Cm_become_9 : decode prog_2_method_2_code 9 = .ok (.iconst 0, 1) := by decide +kernel
theorem d_Cm_become_10 : decode prog_2_method_2_code 10 = .ok (.bipush 6, 2) := by decide +kernel
theorem d_Cm_become_12 : decode prog_2_method_2_code 12 = .ok (.invokestatic 45, 3) := by decide +kernel
theorem d_Cm_become_15 : decode prog_2_method_2_code 15 = .ok (.iconst 0, 1) := by decide +kernel
theorem d_Cm_become_16 : decode prog_2_method_2_code 16 = .ok (.istore_n 2, 1) := by decide +kernel
theorem d_Cm_become_17 : decode prog_2_method_2_code 17 = .ok (.iload_n 2, 1) := by decide +kernel
theorem d_Cm_become_18 : decode prog_2_method_2_code 18 = .ok (.aload_n 1, 1) := by decide +kernel
theorem d_Cm_become_19 : decode prog_2_method_2_code 19 = .ok (.getfield 26, 3) := by decide +kernel
theorem d_Cm_become_22 : decode prog_2_method_2_code 22 = .ok (.if_icmp .ge 27, 3) := by decide +kernel
theorem d_Cm_become_25 : decode prog_2_method_2_code 25 = .ok (.aload_n 1, 1) := by decide +kernel
theorem d_Cm_become_26 : decode prog_2_method_2_code 26 = .ok (.getfield 17, 3) := by decide +kernel
theorem d_Cm_become_29 : decode prog_2_method_2_code 29 = .ok (.iload_n 2, 1) := by decide +kernel
theorem d_Cm_become_30 : decode prog_2_method_2_code 30 = .ok (.aaload, 1) := by decide +kernel
theorem d_Cm_become_31 : decode prog_2_method_2_code 31 = .ok (.iconst 0, 1) := by decide +kernel
theorem d_Cm_become_32 : decode prog_2_method_2_code 32 = .ok (.aload_n 0, 1) := by decide +kernel
theorem d_Cm_become_33 : decode prog_2_method_2_code 33 = .ok (.getfield 17, 3) := by decide +kernel
theorem d_Cm_become_36 : decode prog_2_method_2_code 36 = .ok (.iload_n 2, 1) := by decide +kernel
theorem d_Cm_become_37 : decode prog_2_method_2_code 37 = .ok (.aaload, 1) := by decide +kernel
theorem d_Cm_become_38 : decode prog_2_method_2_code 38 = .ok (.iconst 0, 1) := by decide +kernel
theorem d_Cm_become_39 : decode prog_2_method_2_code 39 = .ok (.iconst 3, 1) := by decide +kernel
theorem d_Cm_become_40 : decode prog_2_method_2_code 40 = .ok (.invokestatic 45, 3) := by decide +kernel
theorem d_Cm_become_43 : decode prog_2_method_2_code 43 = .ok (.iinc 2 1, 3) := by decide +kernel
theorem d_Cm_become_46 : decode prog_2_method_2_code 46 = .ok (.goto (-29), 3) := by decide +kernel
theorem d_Cm_become_49 : decode prog_2_method_2_code 49 = .ok (.iconst 0, 1) := by decide +kernel
theorem d_Cm_become_50 : decode prog_2_method_2_code 50 = .ok (.istore_n 2, 1) := by decide +kernel
theorem d_Cm_become_51 : decode prog_2_method_2_code 51 = .ok (.iload_n 2, 1) := by decide +kernel
theorem d_Cm_become_52 : decode prog_2_method_2_code 52 = .ok (.aload_n 1, 1) := by decide +kernel
theorem d_Cm_become_53 : decode prog_2_method_2_code 53 = .ok (.getfield 30, 3) := by decide +kernel
theorem d_Cm_become_56 : decode prog_2_method_2_code 56 = .ok (.if_icmp .ge 28, 3) := by decide +kernel
theorem d_Cm_become_59 : decode prog_2_method_2_code 59 = .ok (.aload_n 1, 1) := by decide +kernel
theorem d_Cm_become_60 : decode prog_2_method_2_code 60 = .ok (.getfield 20, 3) := by decide +kernel
theorem d_Cm_become_63 : decode prog_2_method_2_code 63 = .ok (.iload_n 2, 1) := by decide +kernel
theorem d_Cm_become_64 : decode prog_2_method_2_code 64 = .ok (.aaload, 1) := by decide +kernel
theorem d_Cm_become_65 : decode prog_2_method_2_code 65 = .ok (.iconst 0, 1) := by decide +kernel
theorem d_Cm_become_66 : decode prog_2_method_2_code 66 = .ok (.aload_n 0, 1) := by decide +kernel
theorem d_Cm_become_67 : decode prog_2_method_2_code 67 = .ok (.getfield 20, 3) := by decide +kernel
theorem d_Cm_become_70 : decode prog_2_method_2_code 70 = .ok (.iload_n 2, 1) := by decide +kernel
theorem d_Cm_become_71 : decode prog_2_method_2_code 71 = .ok (.aaload, 1) := by decide +kernel
theorem d_Cm_become_72 : decode prog_2_method_2_code 72 = .ok (.iconst 0, 1) := by decide +kernel
theorem d_Cm_become_73 : decode prog_2_method_2_code 73 = .ok (.bipush 6, 2) := by decide +kernel
theorem d_Cm_become_75 : decode prog_2_method_2_code 75 = .ok (.invokestatic 45, 3) := by decide +kernel
theorem d_Cm_become_78 : decode prog_2_method_2_code 78 = .ok (.iinc 2 1, 3) := by decide +kernel
theorem d_Cm_become_81 : decode prog_2_method_2_code 81 = .ok (.goto (-30), 3) := by decide +kernel
theorem d_Cm_become_84 : decode prog_2_method_2_code 84 = .ok (.aload_n 1, 1) := by decide +kernel
theorem d_Cm_become_85 : decode prog_2_method_2_code 85 = .ok (.getfield 23, 3) := by decide +kernel
theorem d_Cm_become_88 : decode prog_2_method_2_code 88 = .ok (.iconst 0, 1) := by decide +kernel
theorem d_Cm_become_89 : decode prog_2_method_2_code 89 = .ok (.aload_n 0, 1) := by decide +kernel
theorem d_Cm_become_90 : decode prog_2_method_2_code 90 = .ok (.getfield 23, 3) := by decide +kernel
theorem d_Cm_become_93 : decode prog_2_method_2_code 93 = .ok (.iconst 0, 1) := by decide +kernel
theorem d_Cm_become_94 : decode prog_2_method_2_code 94 = .ok (.bipush 10, 2) := by decide +kernel
theorem d_Cm_become_96 : decode prog_2_method_2_code 96 = .ok (.invokestatic 45, 3) := by decide +kernel
theorem d_Cm_become_99 : decode prog_2_method_2_code 99 = .ok (.aload_n 0, 1) := by decide +kernel
theorem d_Cm_become_100 : decode prog_2_method_2_code 100 = .ok (.aload_n 1, 1) := by decide +kernel
theorem d_Cm_become_101 : decode prog_2_method_2_code 101 = .ok (.getfield 26, 3) := by decide +kernel
theorem d_Cm_become_104 : decode prog_2_method_2_code 104 = .ok (.putfield 26, 3) := by decide +kernel
theorem d_Cm_become_107 : decode prog_2_method_2_code 107 = .ok (.aload_n 0, 1) := by decide +kernel
theorem d_Cm_become_108 : decode prog_2_method_2_code 108 = .ok (.aload_n 1, 1) := by decide +kernel
theorem d_Cm_become_109 : decode prog_2_method_2_code 109 = .ok (.getfield 30, 3) := by decide +kernel
theorem d_Cm_become_112 : decode prog_2_method_2_code 112 = .ok (.putfield 30, 3) := by decide +kernel
theorem d_Cm_become_115 : decode prog_2_method_2_code 115 = .ok (.aload_n 0, 1) := by decide +kernel
theorem d_Cm_become_116 : decode prog_2_method_2_code 116 = .ok (.aload_n 1, 1) := by decide +kernel
theorem d_Cm_become_117 : decode prog_2_method_2_code 117 = .ok (.getfield 33, 3) := by decide +kernel
theorem d_Cm_become_120 : decode prog_2_method_2_code 120 = .ok (.putfield 33, 3) := by decide +kernel
theorem d_Cm_become_123 : decode prog_2_method_2_code 123 = .ok (.aload_n 0, 1) := by decide +kernel
theorem d_Cm_become_124 : decode prog_2_method_2_code 124 = .ok (.aload_n 1, 1) := by decide +kernel
theorem d_Cm_become_125 : decode prog_2_method_2_code 125 = .ok (.getfield 36, 3) := by decide +kernel
theorem d_Cm_become_128 : decode prog_2_method_2_code 128 = .ok (.putfield 36, 3) := by decide +kernel
theorem d_Cm_become_131 : decode prog_2_method_2_code 131 = .ok (.return_, 1) := by decide +kernel
theorem d_Cm_sumOf_0 : decode prog_2_method_14_code 0 = .ok (.iconst 0, 1) := by decide +kernel
theorem d_Cm_sumOf_1 : decode prog_2_method_14_code 1 = .ok (.istore_n 2, 1) := by decide +kernel
theorem d_Cm_sumOf_2 : decode prog_2_method_14_code 2 = .ok (.iconst 0, 1) := by decide +kernel
theorem d_Cm_sumOf_3 : decode prog_2_method_14_code 3 = .ok (.istore_n 3, 1) := by decide +kernel
theorem d_Cm_sumOf_4 : decode prog_2_method_14_code 4 = .ok (.iload_n 3, 1) := by decide +kernel
theorem d_Cm_sumOf_5 : decode prog_2_method_14_code 5 = .ok (.aload_n 0, 1) := by decide +kernel
theorem d_Cm_sumOf_6 : decode prog_2_method_14_code 6 = .ok (.getfield 30, 3) := by decide +kernel
theorem d_Cm_sumOf_9 : decode prog_2_method_14_code 9 = .ok (.if_icmp .ge 20, 3) := by decide +kernel
theorem d_Cm_sumOf_12 : decode prog_2_method_14_code 12 = .ok (.iload_n 2, 1) := by decide +kernel
theorem d_Cm_sumOf_13 : decode prog_2_method_14_code 13 = .ok (.aload_n 0, 1) := by decide +kernel
theorem d_Cm_sumOf_14 : decode prog_2_method_14_code 14 = .ok (.getfield 20, 3) := by decide +kernel
theorem d_Cm_sumOf_17 : decode prog_2_method_14_code 17 = .ok (.iload_n 3, 1) := by decide +kernel
theorem d_Cm_sumOf_18 : decode prog_2_method_14_code 18 = .ok (.aaload, 1) := by decide +kernel
theorem d_Cm_sumOf_19 : decode prog_2_method_14_code 19 = .ok (.iload_n 1, 1) := by decide +kernel
theorem d_Cm_sumOf_20 : decode prog_2_method_14_code 20 = .ok (.iaload, 1) := by decide +kernel
theorem d_Cm_sumOf_21 : decode prog_2_method_14_code 21 = .ok (.iadd, 1) := by decide +kernel
theorem d_Cm_sumOf_22 : decode prog_2_method_14_code 22 = .ok (.istore_n 2, 1) := by decide +kernel
theorem d_Cm_sumOf_23 : decode prog_2_method_14_code 23 = .ok (.iinc 3 1, 3) := by decide +kernel
theorem d_Cm_sumOf_26 : decode prog_2_method_14_code 26 = .ok (.goto (-22), 3) := by decide +kernel
theorem d_Cm_sumOf_29 : decode prog_2_method_14_code 29 = .ok (.iload_n 2, 1) := by decide +kernel
theorem d_Cm_sumOf_30 : decode prog_2_method_14_code 30 = .ok (.ireturn, 1) := by decide +kernel
theorem d_Cm_seersOf_0 : decode prog_2_method_15_code 0 = .ok (.iconst 0, 1) := by decide +kernel
theorem d_Cm_seersOf_1 : decode prog_2_method_15_code 1 = .ok (.istore_n 2, 1) := by decide +kernel
theorem d_Cm_seersOf_2 : decode prog_2_method_15_code 2 = .ok (.iconst 0, 1) := by decide +kernel
theorem d_Cm_seersOf_3 : decode prog_2_method_15_code 3 = .ok (.istore_n 3, 1) := by decide +kernel
theorem d_Cm_seersOf_4 : decode prog_2_method_15_code 4 = .ok (.iload_n 3, 1) := by decide +kernel
theorem d_Cm_seersOf_5 : decode prog_2_method_15_code 5 = .ok (.aload_n 0, 1) := by decide +kernel
theorem d_Cm_seersOf_6 : decode prog_2_method_15_code 6 = .ok (.getfield 30, 3) := by decide +kernel
theorem d_Cm_seersOf_9 : decode prog_2_method_15_code 9 = .ok (.if_icmp .ge 24, 3) := by decide +kernel
theorem d_Cm_seersOf_12 : decode prog_2_method_15_code 12 = .ok (.aload_n 0, 1) := by decide +kernel
theorem d_Cm_seersOf_13 : decode prog_2_method_15_code 13 = .ok (.iload_n 3, 1) := by decide +kernel
theorem d_Cm_seersOf_14 : decode prog_2_method_15_code 14 = .ok (.iload_n 1, 1) := by decide +kernel
theorem d_Cm_seersOf_15 : decode prog_2_method_15_code 15 = .ok (.invokevirtual 67, 3) := by decide +kernel
theorem d_Cm_seersOf_18 : decode prog_2_method_15_code 18 = .ok (.ifCond .eq 9, 3) := by decide +kernel
theorem d_Cm_seersOf_21 : decode prog_2_method_15_code 21 = .ok (.iload_n 2, 1) := by decide +kernel
theorem d_Cm_seersOf_22 : decode prog_2_method_15_code 22 = .ok (.iconst 1, 1) := by decide +kernel
theorem d_Cm_seersOf_23 : decode prog_2_method_15_code 23 = .ok (.iload_n 3, 1) := by decide +kernel
theorem d_Cm_seersOf_24 : decode prog_2_method_15_code 24 = .ok (.ishl, 1) := by decide +kernel
theorem d_Cm_seersOf_25 : decode prog_2_method_15_code 25 = .ok (.ior, 1) := by decide +kernel
theorem d_Cm_seersOf_26 : decode prog_2_method_15_code 26 = .ok (.istore_n 2, 1) := by decide +kernel
theorem d_Cm_seersOf_27 : decode prog_2_method_15_code 27 = .ok (.iinc 3 1, 3) := by decide +kernel
theorem d_Cm_seersOf_30 : decode prog_2_method_15_code 30 = .ok (.goto (-26), 3) := by decide +kernel
theorem d_Cm_seersOf_33 : decode prog_2_method_15_code 33 = .ok (.iload_n 2, 1) := by decide +kernel
theorem d_Cm_seersOf_34 : decode prog_2_method_15_code 34 = .ok (.ireturn, 1) := by decide +kernel
theorem d_Cm_guidedWalkers_0 : decode prog_2_method_16_code 0 = .ok (.iconst 0, 1) := by decide +kernel
theorem d_Cm_guidedWalkers_1 : decode prog_2_method_16_code 1 = .ok (.istore_n 1, 1) := by decide +kernel
theorem d_Cm_guidedWalkers_2 : decode prog_2_method_16_code 2 = .ok (.iconst 0, 1) := by decide +kernel
theorem d_Cm_guidedWalkers_3 : decode prog_2_method_16_code 3 = .ok (.istore_n 2, 1) := by decide +kernel
theorem d_Cm_guidedWalkers_4 : decode prog_2_method_16_code 4 = .ok (.iload_n 2, 1) := by decide +kernel
theorem d_Cm_guidedWalkers_5 : decode prog_2_method_16_code 5 = .ok (.aload_n 0, 1) := by decide +kernel
theorem d_Cm_guidedWalkers_6 : decode prog_2_method_16_code 6 = .ok (.getfield 30, 3) := by decide +kernel
theorem d_Cm_guidedWalkers_9 : decode prog_2_method_16_code 9 = .ok (.if_icmp .ge 41, 3) := by decide +kernel
theorem d_Cm_guidedWalkers_12 : decode prog_2_method_16_code 12 = .ok (.aload_n 0, 1) := by decide +kernel
theorem d_Cm_guidedWalkers_13 : decode prog_2_method_16_code 13 = .ok (.getfield 20, 3) := by decide +kernel
theorem d_Cm_guidedWalkers_16 : decode prog_2_method_16_code 16 = .ok (.iload_n 2, 1) := by decide +kernel
theorem d_Cm_guidedWalkers_17 : decode prog_2_method_16_code 17 = .ok (.aaload, 1) := by decide +kernel
theorem d_Cm_guidedWalkers_18 : decode prog_2_method_16_code 18 = .ok (.iconst 1, 1) := by decide +kernel
theorem d_Cm_guidedWalkers_19 : decode prog_2_method_16_code 19 = .ok (.iaload, 1) := by decide +kernel
theorem d_Cm_guidedWalkers_20 : decode prog_2_method_16_code 20 = .ok (.istore_n 3, 1) := by decide +kernel
theorem d_Cm_guidedWalkers_21 : decode prog_2_method_16_code 21 = .ok (.aload_n 0, 1) := by decide +kernel
theorem d_Cm_guidedWalkers_22 : decode prog_2_method_16_code 22 = .ok (.iload_n 3, 1) := by decide +kernel
theorem d_Cm_guidedWalkers_23 : decode prog_2_method_16_code 23 = .ok (.invokevirtual 75, 3) := by decide +kernel
theorem d_Cm_guidedWalkers_26 : decode prog_2_method_16_code 26 = .ok (.ifCond .eq 18, 3) := by decide +kernel
theorem d_Cm_guidedWalkers_29 : decode prog_2_method_16_code 29 = .ok (.aload_n 0, 1) := by decide +kernel
theorem d_Cm_guidedWalkers_30 : decode prog_2_method_16_code 30 = .ok (.iload_n 2, 1) := by decide +kernel
theorem d_Cm_guidedWalkers_31 : decode prog_2_method_16_code 31 = .ok (.iload_n 3, 1) := by decide +kernel
theorem d_Cm_guidedWalkers_32 : decode prog_2_method_16_code 32 = .ok (.invokevirtual 79, 3) := by decide +kernel
theorem d_Cm_guidedWalkers_35 : decode prog_2_method_16_code 35 = .ok (.ifCond .eq 9, 3) := by decide +kernel
theorem d_Cm_guidedWalkers_38 : decode prog_2_method_16_code 38 = .ok (.iload_n 1, 1) := by decide +kernel
theorem d_Cm_guidedWalkers_39 : decode prog_2_method_16_code 39 = .ok (.iconst 1, 1) := by decide +kernel
theorem d_Cm_guidedWalkers_40 : decode prog_2_method_16_code 40 = .ok (.iload_n 2, 1) := by decide +kernel
theorem d_Cm_guidedWalkers_41 : decode prog_2_method_16_code 41 = .ok (.ishl, 1) := by decide +kernel
theorem d_Cm_guidedWalkers_42 : decode prog_2_method_16_code 42 = .ok (.ior, 1) := by decide +kernel
theorem d_Cm_guidedWalkers_43 : decode prog_2_method_16_code 43 = .ok (.istore_n 1, 1) := by decide +kernel
theorem d_Cm_guidedWalkers_44 : decode prog_2_method_16_code 44 = .ok (.iinc 2 1, 3) := by decide +kernel
theorem d_Cm_guidedWalkers_47 : decode prog_2_method_16_code 47 = .ok (.goto (-43), 3) := by decide +kernel
theorem d_Cm_guidedWalkers_50 : decode prog_2_method_16_code 50 = .ok (.iload_n 1, 1) := by decide +kernel
theorem d_Cm_guidedWalkers_51 : decode prog_2_method_16_code 51 = .ok (.ireturn, 1) := by decide +kernel
theorem d_Cm_thingsCaredFor_0 : decode prog_2_method_17_code 0 = .ok (.iconst 0, 1) := by decide +kernel
theorem d_Cm_thingsCaredFor_1 : decode prog_2_method_17_code 1 = .ok (.istore_n 1, 1) := by decide +kernel
theorem d_Cm_thingsCaredFor_2 : decode prog_2_method_17_code 2 = .ok (.iconst 0, 1) := by decide +kernel
theorem d_Cm_thingsCaredFor_3 : decode prog_2_method_17_code 3 = .ok (.istore_n 2, 1) := by decide +kernel
theorem d_Cm_thingsCaredFor_4 : decode prog_2_method_17_code 4 = .ok (.iload_n 2, 1) := by decide +kernel
theorem d_Cm_thingsCaredFor_5 : decode prog_2_method_17_code 5 = .ok (.aload_n 0, 1) := by decide +kernel
theorem d_Cm_thingsCaredFor_6 : decode prog_2_method_17_code 6 = .ok (.getfield 30, 3) := by decide +kernel
theorem d_Cm_thingsCaredFor_9 : decode prog_2_method_17_code 9 = .ok (.if_icmp .ge 20, 3) := by decide +kernel
theorem d_Cm_thingsCaredFor_12 : decode prog_2_method_17_code 12 = .ok (.iload_n 1, 1) := by decide +kernel
theorem d_Cm_thingsCaredFor_13 : decode prog_2_method_17_code 13 = .ok (.aload_n 0, 1) := by decide +kernel
theorem d_Cm_thingsCaredFor_14 : decode prog_2_method_17_code 14 = .ok (.getfield 20, 3) := by decide +kernel
theorem d_Cm_thingsCaredFor_17 : decode prog_2_method_17_code 17 = .ok (.iload_n 2, 1) := by decide +kernel
theorem d_Cm_thingsCaredFor_18 : decode prog_2_method_17_code 18 = .ok (.aaload, 1) := by decide +kernel
theorem d_Cm_thingsCaredFor_19 : decode prog_2_method_17_code 19 = .ok (.iconst 3, 1) := by decide +kernel
theorem d_Cm_thingsCaredFor_20 : decode prog_2_method_17_code 20 = .ok (.iaload, 1) := by decide +kernel
theorem d_Cm_thingsCaredFor_21 : decode prog_2_method_17_code 21 = .ok (.ior, 1) := by decide +kernel
theorem d_Cm_thingsCaredFor_22 : decode prog_2_method_17_code 22 = .ok (.istore_n 1, 1) := by decide +kernel
theorem d_Cm_thingsCaredFor_23 : decode prog_2_method_17_code 23 = .ok (.iinc 2 1, 3) := by decide +kernel
theorem d_Cm_thingsCaredFor_26 : decode prog_2_method_17_code 26 = .ok (.goto (-22), 3) := by decide +kernel
theorem d_Cm_thingsCaredFor_29 : decode prog_2_method_17_code 29 = .ok (.iload_n 1, 1) := by decide +kernel
theorem d_Cm_thingsCaredFor_30 : decode prog_2_method_17_code 30 = .ok (.iconst 1, 1) := by decide +kernel
theorem d_Cm_thingsCaredFor_31 : decode prog_2_method_17_code 31 = .ok (.aload_n 0, 1) := by decide +kernel
theorem d_Cm_thingsCaredFor_32 : decode prog_2_method_17_code 32 = .ok (.getfield 26, 3) := by decide +kernel
theorem d_Cm_thingsCaredFor_35 : decode prog_2_method_17_code 35 = .ok (.ishl, 1) := by decide +kernel
theorem d_Cm_thingsCaredFor_36 : decode prog_2_method_17_code 36 = .ok (.iconst 1, 1) := by decide +kernel
theorem d_Cm_thingsCaredFor_37 : decode prog_2_method_17_code 37 = .ok (.isub, 1) := by decide +kernel
theorem d_Cm_thingsCaredFor_38 : decode prog_2_method_17_code 38 = .ok (.iand, 1) := by decide +kernel
theorem d_Cm_thingsCaredFor_39 : decode prog_2_method_17_code 39 = .ok (.ireturn, 1) := by decide +kernel
theorem d_Cm_cellsWithWalkers_0 : decode prog_2_method_18_code 0 = .ok (.iconst 0, 1) := by decide +kernel
theorem d_Cm_cellsWithWalkers_1 : decode prog_2_method_18_code 1 = .ok (.istore_n 1, 1) := by decide +kernel
theorem d_Cm_cellsWithWalkers_2 : decode prog_2_method_18_code 2 = .ok (.iconst 0, 1) := by decide +kernel
theorem d_Cm_cellsWithWalkers_3 : decode prog_2_method_18_code 3 = .ok (.istore_n 2, 1) := by decide +kernel
theorem d_Cm_cellsWithWalkers_4 : decode prog_2_method_18_code 4 = .ok (.iload_n 2, 1) := by decide +kernel
theorem d_Cm_cellsWithWalkers_5 : decode prog_2_method_18_code 5 = .ok (.aload_n 0, 1) := by decide +kernel
theorem d_Cm_cellsWithWalkers_6 : decode prog_2_method_18_code 6 = .ok (.getfield 30, 3) := by decide +kernel
theorem d_Cm_cellsWithWalkers_9 : decode prog_2_method_18_code 9 = .ok (.if_icmp .ge 22, 3) := by decide +kernel
theorem d_Cm_cellsWithWalkers_12 : decode prog_2_method_18_code 12 = .ok (.iload_n 1, 1) := by decide +kernel
theorem d_Cm_cellsWithWalkers_13 : decode prog_2_method_18_code 13 = .ok (.iconst 1, 1) := by decide +kernel
theorem d_Cm_cellsWithWalkers_14 : decode prog_2_method_18_code 14 = .ok (.aload_n 0, 1) := by decide +kernel
theorem d_Cm_cellsWithWalkers_15 : decode prog_2_method_18_code 15 = .ok (.getfield 20, 3) := by decide +kernel
theorem d_Cm_cellsWithWalkers_18 : decode prog_2_method_18_code 18 = .ok (.iload_n 2, 1) := by decide +kernel
theorem d_Cm_cellsWithWalkers_19 : decode prog_2_method_18_code 19 = .ok (.aaload, 1) := by decide +kernel
theorem d_Cm_cellsWithWalkers_20 : decode prog_2_method_18_code 20 = .ok (.iconst 0, 1) := by decide +kernel
theorem d_Cm_cellsWithWalkers_21 : decode prog_2_method_18_code 21 = .ok (.iaload, 1) := by decide +kernel
theorem d_Cm_cellsWithWalkers_22 : decode prog_2_method_18_code 22 = .ok (.ishl, 1) := by decide +kernel
theorem d_Cm_cellsWithWalkers_23 : decode prog_2_method_18_code 23 = .ok (.ior, 1) := by decide +kernel
theorem d_Cm_cellsWithWalkers_24 : decode prog_2_method_18_code 24 = .ok (.istore_n 1, 1) := by decide +kernel
theorem d_Cm_cellsWithWalkers_25 : decode prog_2_method_18_code 25 = .ok (.iinc 2 1, 3) := by decide +kernel
theorem d_Cm_cellsWithWalkers_28 : decode prog_2_method_18_code 28 = .ok (.goto (-24), 3) := by decide +kernel
theorem d_Cm_cellsWithWalkers_31 : decode prog_2_method_18_code 31 = .ok (.iload_n 1, 1) := by decide +kernel
theorem d_Cm_cellsWithWalkers_32 : decode prog_2_method_18_code 32 = .ok (.ireturn, 1) := by decide +kernel
theorem d_Cm_cellsWithThings_0 : decode prog_2_method_19_code 0 = .ok (.iconst 0, 1) := by decide +kernel
theorem d_Cm_cellsWithThings_1 : decode prog_2_method_19_code 1 = .ok (.istore_n 1, 1) := by decide +kernel
theorem d_Cm_cellsWithThings_2 : decode prog_2_method_19_code 2 = .ok (.iconst 0, 1) := by decide +kernel
theorem d_Cm_cellsWithThings_3 : decode prog_2_method_19_code 3 = .ok (.istore_n 2, 1) := by decide +kernel
theorem d_Cm_cellsWithThings_4 : decode prog_2_method_19_code 4 = .ok (.iload_n 2, 1) := by decide +kernel
theorem d_Cm_cellsWithThings_5 : decode prog_2_method_19_code 5 = .ok (.aload_n 0, 1) := by decide +kernel
theorem d_Cm_cellsWithThings_6 : decode prog_2_method_19_code 6 = .ok (.getfield 26, 3) := by decide +kernel
theorem d_Cm_cellsWithThings_9 : decode prog_2_method_19_code 9 = .ok (.if_icmp .ge 22, 3) := by decide +kernel
theorem d_Cm_cellsWithThings_12 : decode prog_2_method_19_code 12 = .ok (.iload_n 1, 1) := by decide +kernel
theorem d_Cm_cellsWithThings_13 : decode prog_2_method_19_code 13 = .ok (.iconst 1, 1) := by decide +kernel
theorem d_Cm_cellsWithThings_14 : decode prog_2_method_19_code 14 = .ok (.aload_n 0, 1) := by decide +kernel
theorem d_Cm_cellsWithThings_15 : decode prog_2_method_19_code 15 = .ok (.getfield 17, 3) := by decide +kernel
theorem d_Cm_cellsWithThings_18 : decode prog_2_method_19_code 18 = .ok (.iload_n 2, 1) := by decide +kernel
theorem d_Cm_cellsWithThings_19 : decode prog_2_method_19_code 19 = .ok (.aaload, 1) := by decide +kernel
theorem d_Cm_cellsWithThings_20 : decode prog_2_method_19_code 20 = .ok (.iconst 1, 1) := by decide +kernel
theorem d_Cm_cellsWithThings_21 : decode prog_2_method_19_code 21 = .ok (.iaload, 1) := by decide +kernel
theorem d_Cm_cellsWithThings_22 : decode prog_2_method_19_code 22 = .ok (.ishl, 1) := by decide +kernel
theorem d_Cm_cellsWithThings_23 : decode prog_2_method_19_code 23 = .ok (.ior, 1) := by decide +kernel
theorem d_Cm_cellsWithThings_24 : decode prog_2_method_19_code 24 = .ok (.istore_n 1, 1) := by decide +kernel
theorem d_Cm_cellsWithThings_25 : decode prog_2_method_19_code 25 = .ok (.iinc 2 1, 3) := by decide +kernel
theorem d_Cm_cellsWithThings_28 : decode prog_2_method_19_code 28 = .ok (.goto (-24), 3) := by decide +kernel
theorem d_Cm_cellsWithThings_31 : decode prog_2_method_19_code 31 = .ok (.iload_n 1, 1) := by decide +kernel
theorem d_Cm_cellsWithThings_32 : decode prog_2_method_19_code 32 = .ok (.ireturn, 1) := by decide +kernel
theorem d_Cm_unseenThings_0 : decode prog_2_method_20_code 0 = .ok (.iconst 0, 1) := by decide +kernel
theorem d_Cm_unseenThings_1 : decode prog_2_method_20_code 1 = .ok (.istore_n 1, 1) := by decide +kernel
theorem d_Cm_unseenThings_2 : decode prog_2_method_20_code 2 = .ok (.iconst 0, 1) := by decide +kernel
theorem d_Cm_unseenThings_3 : decode prog_2_method_20_code 3 = .ok (.istore_n 2, 1) := by decide +kernel
theorem d_Cm_unseenThings_4 : decode prog_2_method_20_code 4 = .ok (.iload_n 2, 1) := by decide +kernel
theorem d_Cm_unseenThings_5 : decode prog_2_method_20_code 5 = .ok (.aload_n 0, 1) := by decide +kernel
theorem d_Cm_unseenThings_6 : decode prog_2_method_20_code 6 = .ok (.getfield 26, 3) := by decide +kernel
theorem d_Cm_unseenThings_9 : decode prog_2_method_20_code 9 = .ok (.if_icmp .ge 23, 3) := by decide +kernel
theorem d_Cm_unseenThings_12 : decode prog_2_method_20_code 12 = .ok (.aload_n 0, 1) := by decide +kernel
theorem d_Cm_unseenThings_13 : decode prog_2_method_20_code 13 = .ok (.iload_n 2, 1) := by decide +kernel
theorem d_Cm_unseenThings_14 : decode prog_2_method_20_code 14 = .ok (.invokevirtual 108, 3) := by decide +kernel
theorem d_Cm_unseenThings_17 : decode prog_2_method_20_code 17 = .ok (.ifCond .ne 9, 3) := by decide +kernel
theorem d_Cm_unseenThings_20 : decode prog_2_method_20_code 20 = .ok (.iload_n 1, 1) := by decide +kernel
theorem d_Cm_unseenThings_21 : decode prog_2_method_20_code 21 = .ok (.iconst 1, 1) := by decide +kernel
theorem d_Cm_unseenThings_22 : decode prog_2_method_20_code 22 = .ok (.iload_n 2, 1) := by decide +kernel
theorem d_Cm_unseenThings_23 : decode prog_2_method_20_code 23 = .ok (.ishl, 1) := by decide +kernel
theorem d_Cm_unseenThings_24 : decode prog_2_method_20_code 24 = .ok (.ior, 1) := by decide +kernel
theorem d_Cm_unseenThings_25 : decode prog_2_method_20_code 25 = .ok (.istore_n 1, 1) := by decide +kernel
theorem d_Cm_unseenThings_26 : decode prog_2_method_20_code 26 = .ok (.iinc 2 1, 3) := by decide +kernel
theorem d_Cm_unseenThings_29 : decode prog_2_method_20_code 29 = .ok (.goto (-25), 3) := by decide +kernel
theorem d_Cm_unseenThings_32 : decode prog_2_method_20_code 32 = .ok (.iload_n 1, 1) := by decide +kernel
theorem d_Cm_unseenThings_33 : decode prog_2_method_20_code 33 = .ok (.ireturn, 1) := by decide +kernel
theorem d_Cm_heldSpots_0 : decode prog_2_method_21_code 0 = .ok (.iconst 0, 1) := by decide +kernel
theorem d_Cm_heldSpots_1 : decode prog_2_method_21_code 1 = .ok (.istore_n 1, 1) := by decide +kernel
theorem d_Cm_heldSpots_2 : decode prog_2_method_21_code 2 = .ok (.iconst 0, 1) := by decide +kernel
theorem d_Cm_heldSpots_3 : decode prog_2_method_21_code 3 = .ok (.istore_n 2, 1) := by decide +kernel
theorem d_Cm_heldSpots_4 : decode prog_2_method_21_code 4 = .ok (.iload_n 2, 1) := by decide +kernel
theorem d_Cm_heldSpots_5 : decode prog_2_method_21_code 5 = .ok (.bipush 10, 2) := by decide +kernel
theorem d_Cm_heldSpots_7 : decode prog_2_method_21_code 7 = .ok (.if_icmp .ge 21, 3) := by decide +kernel
theorem d_Cm_heldSpots_10 : decode prog_2_method_21_code 10 = .ok (.aload_n 0, 1) := by decide +kernel
theorem d_Cm_heldSpots_11 : decode prog_2_method_21_code 11 = .ok (.getfield 23, 3) := by decide +kernel
theorem d_Cm_heldSpots_14 : decode prog_2_method_21_code 14 = .ok (.iload_n 2, 1) := by decide +kernel
theorem d_Cm_heldSpots_15 : decode prog_2_method_21_code 15 = .ok (.iaload, 1) := by decide +kernel
theorem d_Cm_heldSpots_16 : decode prog_2_method_21_code 16 = .ok (.ifCond .lt 6, 3) := by decide +kernel
theorem d_Cm_heldSpots_19 : decode prog_2_method_21_code 19 = .ok (.iinc 1 1, 3) := by decide +kernel
theorem d_Cm_heldSpots_22 : decode prog_2_method_21_code 22 = .ok (.iinc 2 1, 3) := by decide +kernel
theorem d_Cm_heldSpots_25 : decode prog_2_method_21_code 25 = .ok (.goto (-21), 3) := by decide +kernel
theorem d_Cm_heldSpots_28 : decode prog_2_method_21_code 28 = .ok (.iload_n 1, 1) := by decide +kernel
theorem d_Cm_heldSpots_29 : decode prog_2_method_21_code 29 = .ok (.ireturn, 1) := by decide +kernel
set_option maxHeartbeats 1000000 in
set_option maxRecDepth 20000 in
theorem c_Cm_addThing (l : Launch) (E : QE) (k : Nat) (hk : k < 3) (S : QM) (ρ : Nat → Int32) (hρ : S k = ρ) (hwf : WF ρ) (kd cl : Int32) (hfull : nT ρ < 8) : qCI E l y_Cm_addThing prog_2_method_5_code 4 .int 1 [.ref (eA E (cB k)), .int kd, .int cl] S (nI (nT ρ)) (qr S k (addT ρ kd cl)) := by
  refine qCI_of (by decide) (Nat.le_of_ble_eq_true rfl) (fun p e s m below meth c ls X hW hl => ?_)
  have hl : lv_has ls 4 [(0, .ref (eA E (cB k))), (1, .int kd), (2, .int cl)] := hl
  have htl := hwf.tl
  have hwl := hwf.wl
  have hdl := hwf.dl
  refine lv_aload_n X.x X.b d_Cm_addThing_0 rfl (lv_at hl 0 rfl) ?_
  refine q_getr X hW qj0 rfl _ (ds_cm hk) 1 (by decide) mw_102 rfl (c1 := cB k + 2) rfl d_Cm_addThing_1 ?_
  refine lv_aload_n X.x X.b d_Cm_addThing_4 rfl (lv_at hl 0 rfl) ?_
  refine g_geti X hW qj0 rfl _ (ds_cm hk) 4 (by decide) mw_109 rfl (r0 := k) (p0 := 1) rfl (v := ρ 1) (by rw [hρ]) d_Cm_addThing_5 ?_
  rw [hwf.t]
  refine g_th hk X hW (show nT ρ < 8 by omega) d_Cm_addThing_8 ?_
  refine lv_astore_n (lv' := [(3, .ref (eA E (cB k + 5 + (nT ρ)))), (0, .ref (eA E (cB k))), (1, .int kd), (2, .int cl)]) X.x X.b d_Cm_addThing_9 rfl hl (by decide) rfl (fun ls hl => ?_)
  refine lv_aload_n X.x X.b d_Cm_addThing_10 rfl (lv_at hl 0 rfl) ?_
  refine lv_iconst (v := nI 0) X.x X.b d_Cm_addThing_11 (by decide) ?_
  refine lv_iload_n X.x X.b d_Cm_addThing_12 rfl (lv_at hl 2 rfl) ?_
  refine g_ast X hW (ds_t (t := nT ρ) hk (by omega)) (q_in (by omega) (by decide)) (p0 := 20 + 3 * (nT ρ)) (q_tn (by omega) (by omega)) (ρ := ρ) (by rw [hρ]) d_Cm_addThing_13 (fun H locs hW => ?_)
  obtain ⟨r13, er13⟩ : ∃ z, z = upd ρ (20 + 3 * (nT ρ)) kd := ⟨_, rfl⟩
  rw [← er13] at hW
  refine lv_aload_n X.x X.b d_Cm_addThing_14 rfl (lv_at hl 0 rfl) ?_
  refine lv_iconst (v := nI 1) X.x X.b d_Cm_addThing_15 (by decide) ?_
  refine lv_iload_n X.x X.b d_Cm_addThing_16 rfl (lv_at hl 3 rfl) ?_
  refine g_ast X hW (ds_t (t := nT ρ) hk (by omega)) (q_in (by omega) (by decide)) (p0 := 20 + 3 * (nT ρ) + 1) (q_tn (by omega) (by omega)) (ρ := r13) (by rw [qr_at]) d_Cm_addThing_17 (fun H locs hW => ?_)
  obtain ⟨r17, er17⟩ : ∃ z, z = upd r13 (20 + 3 * (nT ρ) + 1) cl := ⟨_, rfl⟩
  rw [← er17] at hW
  rw [qr_qr] at hW
  refine lv_aload_n X.x X.b d_Cm_addThing_18 rfl (lv_at hl 0 rfl) ?_
  refine lv_iconst (v := nI 2) X.x X.b d_Cm_addThing_19 (by decide) ?_
  refine lv_iconst (v := nI 0) X.x X.b d_Cm_addThing_20 (by decide) ?_
  refine g_ast X hW (ds_t (t := nT ρ) hk (by omega)) (q_in (by omega) (by decide)) (p0 := 20 + 3 * (nT ρ) + 2) (q_tn (by omega) (by omega)) (ρ := r17) (by rw [qr_at]) d_Cm_addThing_21 (fun H locs hW => ?_)
  obtain ⟨r21, er21⟩ : ∃ z, z = upd r17 (20 + 3 * (nT ρ) + 2) (nI 0) := ⟨_, rfl⟩
  rw [← er21] at hW
  rw [qr_qr] at hW
  refine lv_aload_n X.x X.b d_Cm_addThing_22 rfl (lv_at hl 1 rfl) ?_
  refine lv_dup X.x X.b d_Cm_addThing_23 rfl ?_
  refine g_geti X hW qj0 rfl _ (ds_cm hk) 4 (by decide) mw_109 rfl (r0 := k) (p0 := 1) rfl (v := r21 1) (by rw [qr_at]) d_Cm_addThing_24 ?_
  rw [show r21 1 = nI (nT ρ) from by rw [er21, upN (by omega), er17, upN (by omega), er13, upN (by omega)]; exact hwf.t]
  refine lv_iconst (v := nI 1) X.x X.b d_Cm_addThing_27 (by decide) ?_
  refine lv_iadd X.x X.b d_Cm_addThing_28 ?_
  rw [nI_add]
  refine g_puti X hW qj0 qp0 qn0 rfl _ (ds_cm hk) 4 (by decide) mw_109 rfl rfl (r0 := k) (p0 := 1) rfl rfl rfl (ρ := r21) (by rw [qr_at]) d_Cm_addThing_29 (fun H locs hW => ?_)
  obtain ⟨r29, er29⟩ : ∃ z, z = upd r21 1 (nI ((nT ρ) + 1)) := ⟨_, rfl⟩
  rw [← er29] at hW
  rw [qr_qr] at hW
  refine lv_aload_n X.x X.b d_Cm_addThing_32 rfl (lv_at hl 1 rfl) ?_
  refine g_geti X hW qj0 rfl _ (ds_cm hk) 4 (by decide) mw_109 rfl (r0 := k) (p0 := 1) rfl (v := r29 1) (by rw [qr_at]) d_Cm_addThing_33 ?_
  rw [show r29 1 = nI (nT ρ + 1) from by rw [er29, upd_at]]
  refine lv_iconst (v := nI 1) X.x X.b d_Cm_addThing_36 (by decide) ?_
  refine lv_isub X.x X.b d_Cm_addThing_37 ?_
  rw [pk_sub (by omega)]
  exact q_zret X rfl hW ⟨by rw [show nT ρ + 1 - 1 = nT ρ by omega], by rw [er29, er21, er17, er13]; rfl⟩ d_Cm_addThing_38
set_option maxHeartbeats 1000000 in
set_option maxRecDepth 20000 in
theorem c_Cm_addWalker (l : Launch) (E : QE) (k : Nat) (hk : k < 3) (S : QM) (ρ : Nat → Int32) (hρ : S k = ρ) (hwf : WF ρ) (cl am : Int32) (hfull : nW ρ < 6) : qCI E l y_Cm_addWalker prog_2_method_6_code 4 .int 1 [.ref (eA E (cB k)), .int cl, .int am] S (nI (nW ρ)) (qr S k (addW ρ cl am)) := by
  refine qCI_of (by decide) (Nat.le_of_ble_eq_true rfl) (fun p e s m below meth c ls X hW hl => ?_)
  have hl : lv_has ls 4 [(0, .ref (eA E (cB k))), (1, .int cl), (2, .int am)] := hl
  have htl := hwf.tl
  have hwl := hwf.wl
  have hdl := hwf.dl
  refine lv_aload_n X.x X.b d_Cm_addWalker_0 rfl (lv_at hl 0 rfl) ?_
  refine q_getr X hW qj0 rfl _ (ds_cm hk) 2 (by decide) mw_104 rfl (c1 := cB k + 3) rfl d_Cm_addWalker_1 ?_
  refine lv_aload_n X.x X.b d_Cm_addWalker_4 rfl (lv_at hl 0 rfl) ?_
  refine g_geti X hW qj0 rfl _ (ds_cm hk) 5 (by decide) mw_112 rfl (r0 := k) (p0 := 3) rfl (v := ρ 3) (by rw [hρ]) d_Cm_addWalker_5 ?_
  rw [hwf.w]
  refine g_wk hk X hW (show nW ρ < 6 by omega) d_Cm_addWalker_8 ?_
  refine lv_astore_n (lv' := [(3, .ref (eA E (cB k + 13 + (nW ρ)))), (0, .ref (eA E (cB k))), (1, .int cl), (2, .int am)]) X.x X.b d_Cm_addWalker_9 rfl hl (by decide) rfl (fun ls hl => ?_)
  refine lv_aload_n X.x X.b d_Cm_addWalker_10 rfl (lv_at hl 0 rfl) ?_
  refine lv_iconst (v := nI 0) X.x X.b d_Cm_addWalker_11 (by decide) ?_
  refine lv_iload_n X.x X.b d_Cm_addWalker_12 rfl (lv_at hl 2 rfl) ?_
  refine g_ast X hW (ds_w (w := nW ρ) hk (by omega)) (q_in (by omega) (by decide)) (p0 := 44 + 6 * (nW ρ)) (q_tn (by omega) (by omega)) (ρ := ρ) (by rw [hρ]) d_Cm_addWalker_13 (fun H locs hW => ?_)
  obtain ⟨r13, er13⟩ : ∃ z, z = upd ρ (44 + 6 * (nW ρ)) cl := ⟨_, rfl⟩
  rw [← er13] at hW
  refine lv_aload_n X.x X.b d_Cm_addWalker_14 rfl (lv_at hl 0 rfl) ?_
  refine lv_iconst (v := nI 1) X.x X.b d_Cm_addWalker_15 (by decide) ?_
  refine lv_iload_n X.x X.b d_Cm_addWalker_16 rfl (lv_at hl 3 rfl) ?_
  refine g_ast X hW (ds_w (w := nW ρ) hk (by omega)) (q_in (by omega) (by decide)) (p0 := 44 + 6 * (nW ρ) + 1) (q_tn (by omega) (by omega)) (ρ := r13) (by rw [qr_at]) d_Cm_addWalker_17 (fun H locs hW => ?_)
  obtain ⟨r17, er17⟩ : ∃ z, z = upd r13 (44 + 6 * (nW ρ) + 1) am := ⟨_, rfl⟩
  rw [← er17] at hW
  rw [qr_qr] at hW
  refine lv_aload_n X.x X.b d_Cm_addWalker_18 rfl (lv_at hl 0 rfl) ?_
  refine lv_iconst (v := nI 2) X.x X.b d_Cm_addWalker_19 (by decide) ?_
  refine lv_iconst (v := nI 2) X.x X.b d_Cm_addWalker_20 (by decide) ?_
  refine g_ast X hW (ds_w (w := nW ρ) hk (by omega)) (q_in (by omega) (by decide)) (p0 := 44 + 6 * (nW ρ) + 2) (q_tn (by omega) (by omega)) (ρ := r17) (by rw [qr_at]) d_Cm_addWalker_21 (fun H locs hW => ?_)
  obtain ⟨r21, er21⟩ : ∃ z, z = upd r17 (44 + 6 * (nW ρ) + 2) (nI 2) := ⟨_, rfl⟩
  rw [← er21] at hW
  rw [qr_qr] at hW
  refine lv_aload_n X.x X.b d_Cm_addWalker_22 rfl (lv_at hl 0 rfl) ?_
  refine lv_iconst (v := nI 3) X.x X.b d_Cm_addWalker_23 (by decide) ?_
  refine lv_iconst (v := nI 0) X.x X.b d_Cm_addWalker_24 (by decide) ?_
  refine g_ast X hW (ds_w (w := nW ρ) hk (by omega)) (q_in (by omega) (by decide)) (p0 := 44 + 6 * (nW ρ) + 3) (q_tn (by omega) (by omega)) (ρ := r21) (by rw [qr_at]) d_Cm_addWalker_25 (fun H locs hW => ?_)
  obtain ⟨r25, er25⟩ : ∃ z, z = upd r21 (44 + 6 * (nW ρ) + 3) (nI 0) := ⟨_, rfl⟩
  rw [← er25] at hW
  rw [qr_qr] at hW
  refine lv_aload_n X.x X.b d_Cm_addWalker_26 rfl (lv_at hl 0 rfl) ?_
  refine lv_iconst (v := nI 4) X.x X.b d_Cm_addWalker_27 (by decide) ?_
  refine lv_iconst (v := nI 0) X.x X.b d_Cm_addWalker_28 (by decide) ?_
  refine g_ast X hW (ds_w (w := nW ρ) hk (by omega)) (q_in (by omega) (by decide)) (p0 := 44 + 6 * (nW ρ) + 4) (q_tn (by omega) (by omega)) (ρ := r25) (by rw [qr_at]) d_Cm_addWalker_29 (fun H locs hW => ?_)
  obtain ⟨r29, er29⟩ : ∃ z, z = upd r25 (44 + 6 * (nW ρ) + 4) (nI 0) := ⟨_, rfl⟩
  rw [← er29] at hW
  rw [qr_qr] at hW
  refine lv_aload_n X.x X.b d_Cm_addWalker_30 rfl (lv_at hl 0 rfl) ?_
  refine lv_iconst (v := nI 5) X.x X.b d_Cm_addWalker_31 (by decide) ?_
  refine lv_iconst (v := nI 0) X.x X.b d_Cm_addWalker_32 (by decide) ?_
  refine g_ast X hW (ds_w (w := nW ρ) hk (by omega)) (q_in (by omega) (by decide)) (p0 := 44 + 6 * (nW ρ) + 5) (q_tn (by omega) (by omega)) (ρ := r29) (by rw [qr_at]) d_Cm_addWalker_33 (fun H locs hW => ?_)
  obtain ⟨r33, er33⟩ : ∃ z, z = upd r29 (44 + 6 * (nW ρ) + 5) (nI 0) := ⟨_, rfl⟩
  rw [← er33] at hW
  rw [qr_qr] at hW
  refine lv_aload_n X.x X.b d_Cm_addWalker_34 rfl (lv_at hl 1 rfl) ?_
  refine lv_dup X.x X.b d_Cm_addWalker_35 rfl ?_
  refine g_geti X hW qj0 rfl _ (ds_cm hk) 5 (by decide) mw_112 rfl (r0 := k) (p0 := 3) rfl (v := r33 3) (by rw [qr_at]) d_Cm_addWalker_36 ?_
  rw [show r33 3 = nI (nW ρ) from by rw [er33, upN (by omega), er29, upN (by omega), er25, upN (by omega), er21, upN (by omega), er17, upN (by omega), er13, upN (by omega)]; exact hwf.w]
  refine lv_iconst (v := nI 1) X.x X.b d_Cm_addWalker_39 (by decide) ?_
  refine lv_iadd X.x X.b d_Cm_addWalker_40 ?_
  rw [nI_add]
  refine g_puti X hW qj0 qp0 qn0 rfl _ (ds_cm hk) 5 (by decide) mw_112 rfl rfl (r0 := k) (p0 := 3) rfl rfl rfl (ρ := r33) (by rw [qr_at]) d_Cm_addWalker_41 (fun H locs hW => ?_)
  obtain ⟨r41, er41⟩ : ∃ z, z = upd r33 3 (nI ((nW ρ) + 1)) := ⟨_, rfl⟩
  rw [← er41] at hW
  rw [qr_qr] at hW
  refine lv_aload_n X.x X.b d_Cm_addWalker_44 rfl (lv_at hl 1 rfl) ?_
  refine g_geti X hW qj0 rfl _ (ds_cm hk) 5 (by decide) mw_112 rfl (r0 := k) (p0 := 3) rfl (v := r41 3) (by rw [qr_at]) d_Cm_addWalker_45 ?_
  rw [show r41 3 = nI (nW ρ + 1) from by rw [er41, upd_at]]
  refine lv_iconst (v := nI 1) X.x X.b d_Cm_addWalker_48 (by decide) ?_
  refine lv_isub X.x X.b d_Cm_addWalker_49 ?_
  rw [pk_sub (by omega)]
  exact q_zret X rfl hW ⟨by rw [show nW ρ + 1 - 1 = nW ρ by omega], by rw [er41, er33, er29, er25, er21, er17, er13]; rfl⟩ d_Cm_addWalker_50
set_option maxHeartbeats 1000000 in
set_option maxRecDepth 20000 in
theorem c_Cm_draw (l : Launch) (E : QE) (k : Nat) (hk : k < 3) (S : QM) (ρ : Nat → Int32) (hρ : S k = ρ) (hwf : WF ρ) : qCI E l y_Cm_draw prog_2_method_7_code 1 .int 1 [.ref (eA E (cB k))] S (drw (nxt (ρ 2))) (qr S k (upd ρ 2 (nxt (ρ 2)))) := by
  refine qCI_of (by decide) (Nat.le_of_ble_eq_true rfl) (fun p e s m below meth c ls X hW hl => ?_)
  have hl : lv_has ls 1 [(0, .ref (eA E (cB k)))] := hl
  refine lv_aload_n X.x X.b d_Cm_draw_0 rfl (lv_at hl 0 rfl) ?_
  refine lv_aload_n X.x X.b d_Cm_draw_1 rfl (lv_at hl 0 rfl) ?_
  refine g_geti X hW qj0 rfl _ (ds_cm hk) 7 (by decide) mw_117 rfl (r0 := k) (p0 := 2) rfl (v := ρ 2) (by rw [hρ]) d_Cm_draw_2 ?_
  refine lv_ldc (v := nI 1103515245) X.x X.b X.ow (X.ts _ mw_458) d_Cm_draw_5 ?_
  refine lv_imul X.x X.b d_Cm_draw_7 ?_
  refine lv_sipush (v := nI 12345) X.x X.b d_Cm_draw_8 (by decide) ?_
  refine lv_iadd X.x X.b d_Cm_draw_11 ?_
  refine g_puti X hW qj0 qp0 qn0 rfl _ (ds_cm hk) 7 (by decide) mw_117 rfl rfl (r0 := k) (p0 := 2) rfl rfl rfl (ρ := ρ) (by rw [hρ]) d_Cm_draw_12 (fun H locs hW => ?_)
  obtain ⟨r12, er12⟩ : ∃ z, z = upd ρ 2 (((ρ 2) * (nI 1103515245)) + (nI 12345)) := ⟨_, rfl⟩
  rw [← er12] at hW
  refine lv_aload_n X.x X.b d_Cm_draw_15 rfl (lv_at hl 0 rfl) ?_
  refine g_geti X hW qj0 rfl _ (ds_cm hk) 7 (by decide) mw_117 rfl (r0 := k) (p0 := 2) rfl (v := r12 2) (by rw [qr_at]) d_Cm_draw_16 ?_
  refine lv_bipush (v := nI 8) X.x X.b d_Cm_draw_19 (by decide) ?_
  refine lv_iushr (v := ((r12 2).toUInt32 >>> ((nI 8).toUInt32 &&& Int32.toUInt32 31)).toInt32) X.x X.b d_Cm_draw_21 rfl ?_
  exact q_zret X rfl hW ⟨by rw [er12, upd_at]; rfl, by rw [er12]; rfl⟩ d_Cm_draw_22
set_option maxHeartbeats 1000000 in
set_option maxRecDepth 20000 in
theorem c_Cm_become (l : Launch) (E : QE) (k k2 : Nat) (hk : k < 3) (hk2 : k2 < 3) (hne : ¬ k = k2) (S : QM) (ρ ν : Nat → Int32) (hρ : S k = ρ) (hν : S k2 = ν) (hwf : WF ν) : qCV E l y_Cm_become prog_2_method_2_code 3 1 [.ref (eA E (cB k)), .ref (eA E (cB k2))] S (qr S k (becS ρ ν)) := by
  refine qCV_of (by decide) (Nat.le_of_ble_eq_true rfl) (fun p e s m below meth c ls X hW hl => ?_)
  have hl : lv_has ls 3 [(0, .ref (eA E (cB k))), (1, .ref (eA E (cB k2)))] := hl
  have htl := hwf.tl
  have hwl := hwf.wl
  refine lv_aload_n X.x X.b d_Cm_become_0 rfl (lv_at hl 1 rfl) ?_
  refine q_getr X hW qj0 rfl _ (ds_cm hk2) 0 (by decide) mw_99 rfl (c1 := cB k2 + 1) rfl d_Cm_become_1 ?_
  refine lv_iconst (v := nI 0) X.x X.b d_Cm_become_4 (by decide) ?_
  refine lv_aload_n X.x X.b d_Cm_become_5 rfl (lv_at hl 0 rfl) ?_
  refine q_getr X hW qj0 rfl _ (ds_cm hk) 0 (by decide) mw_99 rfl (c1 := cB k + 1) rfl d_Cm_become_6 ?_
  refine lv_iconst (v := nI 0) X.x X.b d_Cm_become_9 (by decide) ?_
  refine lv_bipush (v := nI 6) X.x X.b d_Cm_become_10 (by decide) ?_
  refine g_copy X hl.1 hW mw_375 mw_377 mw_376 mw_74 (ds_ls hk2) (ds_ls hk) (sp := 0) (dp := 0) (n := 6) (by omega) (by omega) (by omega) (by omega) (by omega) (by decide) (Nat.le_of_ble_eq_true rfl) d_Cm_become_12 (fun H locs hW => ?_)
  obtain ⟨r12, er12⟩ : ∃ z, z = cpy ν 4 ρ 4 6 := ⟨_, rfl⟩
  have hW : qWH E (qr S k r12) s H locs := by rw [er12]; have h := hW; rw [qcp_qr] at h; (try rw [hν] at h); (try rw [hρ] at h); exact h
  refine lv_iconst (v := nI 0) X.x X.b d_Cm_become_15 (by decide) ?_
  refine lv_istore_n (lv' := [(2, .int (nI 0)), (0, .ref (eA E (cB k))), (1, .ref (eA E (cB k2)))]) X.x X.b d_Cm_become_16 rfl hl (by decide) rfl (fun ls hl => ?_)
  have loop17 : ∀ (fu17 : Nat) (j : Nat) (μ : Nat → Int32), j ≤ nT ν → μ = fo (fun t μ => cpy ν (20 + 3 * t) μ (20 + 3 * t) 3) j (cpy ν 4 ρ 4 6) → nT ν - j < fu17 → ∀ (H : Heap) (locs : List Loc) (ls : Array Slot), qWH E (qr S k μ) s H locs → lv_has ls 3 [(2, .int (nI j)), (0, .ref (eA E (cB k))), (1, .ref (eA E (cB k2)))] → W p l e (qRm 1) s m ([.ref (eA E (cB k)), .ref (eA E (cB k2))] : List Value).toArray below meth c H locs 0 0 (MQ below (qQv E (qr S k (becS ρ ν)) s.heap.size) ([.ref (eA E (cB k)), .ref (eA E (cB k2))] : List Value).toArray s 0 0 (qAA E s.heap.size)) (F0 m 17 ls []) := by
    intro fu17
    induction fu17 with
    | zero =>
      intro j μ hj hm hfu
      exact absurd hfu (Nat.not_lt_zero _)
    | succ fu17 ih17 =>
      intro j μ hj hm hfu H locs ls hW hl
      refine lv_iload_n X.x X.b d_Cm_become_17 rfl (lv_at hl 0 rfl) ?_
      refine lv_aload_n X.x X.b d_Cm_become_18 rfl (lv_at hl 2 rfl) ?_
      refine g_geti X hW qj0 rfl _ (ds_cm hk2) 4 (by decide) mw_109 rfl (r0 := k2) (p0 := 1) rfl (v := ν 1) (by rw [qr_ne (by omega), hν]) d_Cm_become_19 ?_
      rw [hwf.t]
      refine lv_icmp_ge (tgt := 49) X.x X.b d_Cm_become_22 (by decide) (fun c22 => ?_) (fun c22 => ?_)
      · have c22 : (nT ν) ≤ j := (nI_leI (a := (nT ν)) (b := j) (by omega) (by omega)).mp c22
        refine lv_iconst (v := nI 0) X.x X.b d_Cm_become_49 (by decide) ?_
        refine lv_istore_n (lv' := [(2, .int (nI 0)), (0, .ref (eA E (cB k))), (1, .ref (eA E (cB k2)))]) X.x X.b d_Cm_become_50 rfl hl (by decide) rfl (fun ls hl => ?_)
        have loop51 : ∀ (fu51 : Nat) (j : Nat) (μ : Nat → Int32), j ≤ nW ν → μ = fo (fun w μ => cpy ν (44 + 6 * w) μ (44 + 6 * w) 6) j (bec1 ρ ν) → nW ν - j < fu51 → ∀ (H : Heap) (locs : List Loc) (ls : Array Slot), qWH E (qr S k μ) s H locs → lv_has ls 3 [(2, .int (nI j)), (0, .ref (eA E (cB k))), (1, .ref (eA E (cB k2)))] → W p l e (qRm 1) s m ([.ref (eA E (cB k)), .ref (eA E (cB k2))] : List Value).toArray below meth c H locs 0 0 (MQ below (qQv E (qr S k (becS ρ ν)) s.heap.size) ([.ref (eA E (cB k)), .ref (eA E (cB k2))] : List Value).toArray s 0 0 (qAA E s.heap.size)) (F0 m 51 ls []) := by
          intro fu51
          induction fu51 with
          | zero =>
            intro j μ hj hm hfu
            exact absurd hfu (Nat.not_lt_zero _)
          | succ fu51 ih51 =>
            intro j μ hj hm hfu H locs ls hW hl
            refine lv_iload_n X.x X.b d_Cm_become_51 rfl (lv_at hl 0 rfl) ?_
            refine lv_aload_n X.x X.b d_Cm_become_52 rfl (lv_at hl 2 rfl) ?_
            refine g_geti X hW qj0 rfl _ (ds_cm hk2) 5 (by decide) mw_112 rfl (r0 := k2) (p0 := 3) rfl (v := ν 3) (by rw [qr_ne (by omega), hν]) d_Cm_become_53 ?_
            rw [hwf.w]
            refine lv_icmp_ge (tgt := 84) X.x X.b d_Cm_become_56 (by decide) (fun c56 => ?_) (fun c56 => ?_)
            · have c56 : (nW ν) ≤ j := (nI_leI (a := (nW ν)) (b := j) (by omega) (by omega)).mp c56
              refine lv_aload_n X.x X.b d_Cm_become_84 rfl (lv_at hl 2 rfl) ?_
              refine q_getr X hW qj0 rfl _ (ds_cm hk2) 3 (by decide) mw_107 rfl (c1 := cB k2 + 4) rfl d_Cm_become_85 ?_
              refine lv_iconst (v := nI 0) X.x X.b d_Cm_become_88 (by decide) ?_
              refine lv_aload_n X.x X.b d_Cm_become_89 rfl (lv_at hl 1 rfl) ?_
              refine q_getr X hW qj0 rfl _ (ds_cm hk) 3 (by decide) mw_107 rfl (c1 := cB k + 4) rfl d_Cm_become_90 ?_
              refine lv_iconst (v := nI 0) X.x X.b d_Cm_become_93 (by decide) ?_
              refine lv_bipush (v := nI 10) X.x X.b d_Cm_become_94 (by decide) ?_
              refine g_copy X hl.1 hW mw_375 mw_377 mw_376 mw_74 (ds_sp hk2) (ds_sp hk) (sp := 0) (dp := 0) (n := 10) (by omega) (by omega) (by omega) (by omega) (by omega) (by decide) (Nat.le_of_ble_eq_true rfl) d_Cm_become_96 (fun H locs hW => ?_)
              obtain ⟨r96, er96⟩ : ∃ z, z = cpy ν 10 μ 10 10 := ⟨_, rfl⟩
              have hW : qWH E (qr S k r96) s H locs := by rw [er96]; have h := hW; rw [qcp_qr, qr_qr] at h; (try rw [qr_ne (by omega), hν] at h); (try rw [qr_at] at h); exact h
              refine lv_aload_n X.x X.b d_Cm_become_99 rfl (lv_at hl 1 rfl) ?_
              refine lv_aload_n X.x X.b d_Cm_become_100 rfl (lv_at hl 2 rfl) ?_
              refine g_geti X hW qj0 rfl _ (ds_cm hk2) 4 (by decide) mw_109 rfl (r0 := k2) (p0 := 1) rfl (v := ν 1) (by rw [qr_ne (by omega), hν]) d_Cm_become_101 ?_
              refine g_puti X hW qj0 qp0 qn0 rfl _ (ds_cm hk) 4 (by decide) mw_109 rfl rfl (r0 := k) (p0 := 1) rfl rfl rfl (ρ := r96) (by rw [qr_at]) d_Cm_become_104 (fun H locs hW => ?_)
              obtain ⟨r104, er104⟩ : ∃ z, z = upd r96 1 (ν 1) := ⟨_, rfl⟩
              rw [← er104] at hW
              rw [qr_qr] at hW
              refine lv_aload_n X.x X.b d_Cm_become_107 rfl (lv_at hl 1 rfl) ?_
              refine lv_aload_n X.x X.b d_Cm_become_108 rfl (lv_at hl 2 rfl) ?_
              refine g_geti X hW qj0 rfl _ (ds_cm hk2) 5 (by decide) mw_112 rfl (r0 := k2) (p0 := 3) rfl (v := ν 3) (by rw [qr_ne (by omega), hν]) d_Cm_become_109 ?_
              refine g_puti X hW qj0 qp0 qn0 rfl _ (ds_cm hk) 5 (by decide) mw_112 rfl rfl (r0 := k) (p0 := 3) rfl rfl rfl (ρ := r104) (by rw [qr_at]) d_Cm_become_112 (fun H locs hW => ?_)
              obtain ⟨r112, er112⟩ : ∃ z, z = upd r104 3 (ν 3) := ⟨_, rfl⟩
              rw [← er112] at hW
              rw [qr_qr] at hW
              refine lv_aload_n X.x X.b d_Cm_become_115 rfl (lv_at hl 1 rfl) ?_
              refine lv_aload_n X.x X.b d_Cm_become_116 rfl (lv_at hl 2 rfl) ?_
              refine g_geti X hW qj0 rfl _ (ds_cm hk2) 6 (by decide) mw_115 rfl (r0 := k2) (p0 := 0) rfl (v := ν 0) (by rw [qr_ne (by omega), hν]) d_Cm_become_117 ?_
              refine g_puti X hW qj0 qp0 qn0 rfl _ (ds_cm hk) 6 (by decide) mw_115 rfl rfl (r0 := k) (p0 := 0) rfl rfl rfl (ρ := r112) (by rw [qr_at]) d_Cm_become_120 (fun H locs hW => ?_)
              obtain ⟨r120, er120⟩ : ∃ z, z = upd r112 0 (ν 0) := ⟨_, rfl⟩
              rw [← er120] at hW
              rw [qr_qr] at hW
              refine lv_aload_n X.x X.b d_Cm_become_123 rfl (lv_at hl 1 rfl) ?_
              refine lv_aload_n X.x X.b d_Cm_become_124 rfl (lv_at hl 2 rfl) ?_
              refine g_geti X hW qj0 rfl _ (ds_cm hk2) 7 (by decide) mw_117 rfl (r0 := k2) (p0 := 2) rfl (v := ν 2) (by rw [qr_ne (by omega), hν]) d_Cm_become_125 ?_
              refine g_puti X hW qj0 qp0 qn0 rfl _ (ds_cm hk) 7 (by decide) mw_117 rfl rfl (r0 := k) (p0 := 2) rfl rfl rfl (ρ := r120) (by rw [qr_at]) d_Cm_become_128 (fun H locs hW => ?_)
              obtain ⟨r128, er128⟩ : ∃ z, z = upd r120 2 (ν 2) := ⟨_, rfl⟩
              rw [← er128] at hW
              rw [qr_qr] at hW
              exact q_vret X hW (by rw [er128, er120, er112, er104, er96, hm, show j = nW ν by omega]; rfl) d_Cm_become_131
            · have c56 : ¬ (nW ν) ≤ j := fun z => c56 ((nI_leI (a := (nW ν)) (b := j) (by omega) (by omega)).mpr z)
              refine lv_aload_n X.x X.b d_Cm_become_59 rfl (lv_at hl 2 rfl) ?_
              refine q_getr X hW qj0 rfl _ (ds_cm hk2) 2 (by decide) mw_104 rfl (c1 := cB k2 + 3) rfl d_Cm_become_60 ?_
              refine lv_iload_n X.x X.b d_Cm_become_63 rfl (lv_at hl 0 rfl) ?_
              refine g_wk hk2 X hW (show j < 6 by omega) d_Cm_become_64 ?_
              refine lv_iconst (v := nI 0) X.x X.b d_Cm_become_65 (by decide) ?_
              refine lv_aload_n X.x X.b d_Cm_become_66 rfl (lv_at hl 1 rfl) ?_
              refine q_getr X hW qj0 rfl _ (ds_cm hk) 2 (by decide) mw_104 rfl (c1 := cB k + 3) rfl d_Cm_become_67 ?_
              refine lv_iload_n X.x X.b d_Cm_become_70 rfl (lv_at hl 0 rfl) ?_
              refine g_wk hk X hW (show j < 6 by omega) d_Cm_become_71 ?_
              refine lv_iconst (v := nI 0) X.x X.b d_Cm_become_72 (by decide) ?_
              refine lv_bipush (v := nI 6) X.x X.b d_Cm_become_73 (by decide) ?_
              refine g_copy X hl.1 hW mw_375 mw_377 mw_376 mw_74 (ds_w (w := j) hk2 (by omega)) (ds_w (w := j) hk (by omega)) (sp := 0) (dp := 0) (n := 6) (by omega) (by omega) (by omega) (by omega) (by omega) (by decide) (Nat.le_of_ble_eq_true rfl) d_Cm_become_75 (fun H locs hW => ?_)
              obtain ⟨r75, er75⟩ : ∃ z, z = cpy ν (44 + 6 * j) μ (44 + 6 * j) 6 := ⟨_, rfl⟩
              have hW : qWH E (qr S k r75) s H locs := by rw [er75]; have h := hW; rw [qcp_qr, qr_qr] at h; (try rw [qr_ne (by omega), hν] at h); (try rw [qr_at] at h); exact h
              refine lv_iinc (v := nI (j + 1)) (lv' := [(2, .int (nI (j + 1))), (0, .ref (eA E (cB k))), (1, .ref (eA E (cB k2)))]) X.x X.b d_Cm_become_78 hl (k := 0) rfl (by rw [show Int32.ofInt 1 = nI 1 from by decide, nI_add]) (by decide) rfl (fun ls hl => ?_)
              refine lv_goto (tgt := 51) X.x X.b d_Cm_become_81 (by decide) ?_
              exact ih51 (j + 1) r75 (by omega) (by rw [er75, hm]; rfl) (by omega) _ _ _ hW (lv_sub hl [0, 1, 2] rfl)
        exact loop51 (nW ν - 0 + 1) 0 μ (by omega) (by rw [hm, show j = nT ν by omega]; rfl) (Nat.lt_succ_self _) _ _ _ hW (lv_sub hl [0, 1, 2] rfl)
      · have c22 : ¬ (nT ν) ≤ j := fun z => c22 ((nI_leI (a := (nT ν)) (b := j) (by omega) (by omega)).mpr z)
        refine lv_aload_n X.x X.b d_Cm_become_25 rfl (lv_at hl 2 rfl) ?_
        refine q_getr X hW qj0 rfl _ (ds_cm hk2) 1 (by decide) mw_102 rfl (c1 := cB k2 + 2) rfl d_Cm_become_26 ?_
        refine lv_iload_n X.x X.b d_Cm_become_29 rfl (lv_at hl 0 rfl) ?_
        refine g_th hk2 X hW (show j < 8 by omega) d_Cm_become_30 ?_
        refine lv_iconst (v := nI 0) X.x X.b d_Cm_become_31 (by decide) ?_
        refine lv_aload_n X.x X.b d_Cm_become_32 rfl (lv_at hl 1 rfl) ?_
        refine q_getr X hW qj0 rfl _ (ds_cm hk) 1 (by decide) mw_102 rfl (c1 := cB k + 2) rfl d_Cm_become_33 ?_
        refine lv_iload_n X.x X.b d_Cm_become_36 rfl (lv_at hl 0 rfl) ?_
        refine g_th hk X hW (show j < 8 by omega) d_Cm_become_37 ?_
        refine lv_iconst (v := nI 0) X.x X.b d_Cm_become_38 (by decide) ?_
        refine lv_iconst (v := nI 3) X.x X.b d_Cm_become_39 (by decide) ?_
        refine g_copy X hl.1 hW mw_375 mw_377 mw_376 mw_74 (ds_t (t := j) hk2 (by omega)) (ds_t (t := j) hk (by omega)) (sp := 0) (dp := 0) (n := 3) (by omega) (by omega) (by omega) (by omega) (by omega) (by decide) (Nat.le_of_ble_eq_true rfl) d_Cm_become_40 (fun H locs hW => ?_)
        obtain ⟨r40, er40⟩ : ∃ z, z = cpy ν (20 + 3 * j) μ (20 + 3 * j) 3 := ⟨_, rfl⟩
        have hW : qWH E (qr S k r40) s H locs := by rw [er40]; have h := hW; rw [qcp_qr, qr_qr] at h; (try rw [qr_ne (by omega), hν] at h); (try rw [qr_at] at h); exact h
        refine lv_iinc (v := nI (j + 1)) (lv' := [(2, .int (nI (j + 1))), (0, .ref (eA E (cB k))), (1, .ref (eA E (cB k2)))]) X.x X.b d_Cm_become_43 hl (k := 0) rfl (by rw [show Int32.ofInt 1 = nI 1 from by decide, nI_add]) (by decide) rfl (fun ls hl => ?_)
        refine lv_goto (tgt := 17) X.x X.b d_Cm_become_46 (by decide) ?_
        exact ih17 (j + 1) r40 (by omega) (by rw [er40, hm]; rfl) (by omega) _ _ _ hW (lv_sub hl [0, 1, 2] rfl)
  exact loop17 (nT ν - 0 + 1) 0 r12 (by omega) (by rw [er12]; rfl) (Nat.lt_succ_self _) _ _ _ hW (lv_sub hl [0, 1, 2] rfl)
set_option maxHeartbeats 1000000 in
set_option maxRecDepth 20000 in
theorem c_Cm_sumOf (l : Launch) (E : QE) (k : Nat) (hk : k < 3) (S : QM) (ρ : Nat → Int32) (hρ : S k = ρ) (hwf : WF ρ) (f : Nat) (hf : f < 6) : qCI E l y_Cm_sumOf prog_2_method_14_code 4 .int 1 [.ref (eA E (cB k)), .int (nI f)] S (sumS ρ f) S := by
  refine qCI_of (by decide) (Nat.le_of_ble_eq_true rfl) (fun p e s m below meth c ls X hW hl => ?_)
  have hl : lv_has ls 4 [(0, .ref (eA E (cB k))), (1, .int (nI f))] := hl
  have htl := hwf.tl
  have hwl := hwf.wl
  have hdl := hwf.dl
  refine lv_iconst (v := nI 0) X.x X.b d_Cm_sumOf_0 (by decide) ?_
  refine lv_istore_n (lv' := [(2, .int (nI 0)), (0, .ref (eA E (cB k))), (1, .int (nI f))]) X.x X.b d_Cm_sumOf_1 rfl hl (by decide) rfl (fun ls hl => ?_)
  refine lv_iconst (v := nI 0) X.x X.b d_Cm_sumOf_2 (by decide) ?_
  refine lv_istore_n (lv' := [(3, .int (nI 0)), (2, .int (nI 0)), (0, .ref (eA E (cB k))), (1, .int (nI f))]) X.x X.b d_Cm_sumOf_3 rfl hl (by decide) rfl (fun ls hl => ?_)
  have loop4 : ∀ (fu4 : Nat) (j : Nat) (a : Int32), j ≤ nW ρ → a = fo (fun w a => a + ρ (44 + 6 * w + f)) j (nI 0) → nW ρ - j < fu4 → ∀ (H : Heap) (locs : List Loc) (ls : Array Slot), qWH E S s H locs → lv_has ls 4 [(3, .int (nI j)), (2, .int a), (0, .ref (eA E (cB k))), (1, .int (nI f))] → W p l e (qRm 1) s m ([.ref (eA E (cB k)), .int (nI f)] : List Value).toArray below meth c H locs 0 0 (MQ below (qQi E (sumS ρ f) S s.heap.size) ([.ref (eA E (cB k)), .int (nI f)] : List Value).toArray s 0 0 (qAA E s.heap.size)) (F0 m 4 ls []) := by
    intro fu4
    induction fu4 with
    | zero =>
      intro j a hj ha hfu
      exact absurd hfu (Nat.not_lt_zero _)
    | succ fu4 ih4 =>
      intro j a hj ha hfu H locs ls hW hl
      refine lv_iload_n X.x X.b d_Cm_sumOf_4 rfl (lv_at hl 0 rfl) ?_
      refine lv_aload_n X.x X.b d_Cm_sumOf_5 rfl (lv_at hl 2 rfl) ?_
      refine g_geti X hW qj0 rfl _ (ds_cm hk) 5 (by decide) mw_112 rfl (r0 := k) (p0 := 3) rfl (v := ρ 3) (by rw [hρ]) d_Cm_sumOf_6 ?_
      rw [hwf.w]
      refine lv_icmp_ge (tgt := 29) X.x X.b d_Cm_sumOf_9 (by decide) (fun c9 => ?_) (fun c9 => ?_)
      · have c9 : (nW ρ) ≤ j := (nI_leI (a := (nW ρ)) (b := j) (by omega) (by omega)).mp c9
        refine lv_iload_n X.x X.b d_Cm_sumOf_29 rfl (lv_at hl 1 rfl) ?_
        exact q_zret X rfl hW ⟨by rw [ha, show j = nW ρ by omega]; rfl, rfl⟩ d_Cm_sumOf_30
      · have c9 : ¬ (nW ρ) ≤ j := fun z => c9 ((nI_leI (a := (nW ρ)) (b := j) (by omega) (by omega)).mpr z)
        refine lv_iload_n X.x X.b d_Cm_sumOf_12 rfl (lv_at hl 1 rfl) ?_
        refine lv_aload_n X.x X.b d_Cm_sumOf_13 rfl (lv_at hl 2 rfl) ?_
        refine q_getr X hW qj0 rfl _ (ds_cm hk) 2 (by decide) mw_104 rfl (c1 := cB k + 3) rfl d_Cm_sumOf_14 ?_
        refine lv_iload_n X.x X.b d_Cm_sumOf_17 rfl (lv_at hl 0 rfl) ?_
        refine g_wk hk X hW (show j < 6 by omega) d_Cm_sumOf_18 ?_
        refine lv_iload_n X.x X.b d_Cm_sumOf_19 rfl (lv_at hl 3 rfl) ?_
        refine g_ald X hW (ds_w (w := j) hk (by omega)) (q_in (by omega) (by decide)) (p0 := 44 + 6 * j + f) (q_tn (by omega) (by omega)) (v := ρ (44 + 6 * j + f)) (by rw [hρ]) d_Cm_sumOf_20 ?_
        refine lv_iadd X.x X.b d_Cm_sumOf_21 ?_
        refine lv_istore_n (lv' := [(2, .int (a + (ρ (44 + 6 * j + f)))), (3, .int (nI j)), (0, .ref (eA E (cB k))), (1, .int (nI f))]) X.x X.b d_Cm_sumOf_22 rfl hl (by decide) rfl (fun ls hl => ?_)
        refine lv_iinc (v := nI (j + 1)) (lv' := [(3, .int (nI (j + 1))), (2, .int (a + (ρ (44 + 6 * j + f)))), (0, .ref (eA E (cB k))), (1, .int (nI f))]) X.x X.b d_Cm_sumOf_23 hl (k := 1) rfl (by rw [show Int32.ofInt 1 = nI 1 from by decide, nI_add]) (by decide) rfl (fun ls hl => ?_)
        refine lv_goto (tgt := 4) X.x X.b d_Cm_sumOf_26 (by decide) ?_
        exact ih4 (j + 1) (a + (ρ (44 + 6 * j + f))) (by omega) (by rw [fo_succ, ← ha]) (by omega) _ _ _ hW (lv_sub hl [0, 1, 2, 3] rfl)
  exact loop4 (nW ρ - 0 + 1) 0 (nI 0) (by omega) rfl (Nat.lt_succ_self _) _ _ _ hW (lv_sub hl [0, 1, 2, 3] rfl)
set_option maxHeartbeats 1000000 in
set_option maxRecDepth 20000 in
theorem c_Cm_seersOf (l : Launch) (E : QE) (k : Nat) (hk : k < 3) (S : QM) (ρ : Nat → Int32) (hρ : S k = ρ) (hwf : WF ρ) (t : Nat) (ht : t < nT ρ) : qCI E l y_Cm_seersOf prog_2_method_15_code 4 .int 3 [.ref (eA E (cB k)), .int (nI t)] S (snbS ρ t) S := by
  refine qCI_of (by decide) (Nat.le_of_ble_eq_true rfl) (fun p e s m below meth c ls X hW hl => ?_)
  have hl : lv_has ls 4 [(0, .ref (eA E (cB k))), (1, .int (nI t))] := hl
  have htl := hwf.tl
  have hwl := hwf.wl
  have hdl := hwf.dl
  refine lv_iconst (v := nI 0) X.x X.b d_Cm_seersOf_0 (by decide) ?_
  refine lv_istore_n (lv' := [(2, .int (nI 0)), (0, .ref (eA E (cB k))), (1, .int (nI t))]) X.x X.b d_Cm_seersOf_1 rfl hl (by decide) rfl (fun ls hl => ?_)
  refine lv_iconst (v := nI 0) X.x X.b d_Cm_seersOf_2 (by decide) ?_
  refine lv_istore_n (lv' := [(3, .int (nI 0)), (2, .int (nI 0)), (0, .ref (eA E (cB k))), (1, .int (nI t))]) X.x X.b d_Cm_seersOf_3 rfl hl (by decide) rfl (fun ls hl => ?_)
  have loop4 : ∀ (fu4 : Nat) (j : Nat) (a : Int32), j ≤ nW ρ → a = fo (fun i a => if see ρ i t then a ||| bt i else a) j (nI 0) → nW ρ - j < fu4 → ∀ (H : Heap) (locs : List Loc) (ls : Array Slot), qWH E S s H locs → lv_has ls 4 [(3, .int (nI j)), (2, .int a), (0, .ref (eA E (cB k))), (1, .int (nI t))] → W p l e (qRm 3) s m ([.ref (eA E (cB k)), .int (nI t)] : List Value).toArray below meth c H locs 0 0 (MQ below (qQi E (snbS ρ t) S s.heap.size) ([.ref (eA E (cB k)), .int (nI t)] : List Value).toArray s 0 0 (qAA E s.heap.size)) (F0 m 4 ls []) := by
    intro fu4
    induction fu4 with
    | zero =>
      intro j a hj ha hfu
      exact absurd hfu (Nat.not_lt_zero _)
    | succ fu4 ih4 =>
      intro j a hj ha hfu H locs ls hW hl
      refine lv_iload_n X.x X.b d_Cm_seersOf_4 rfl (lv_at hl 0 rfl) ?_
      refine lv_aload_n X.x X.b d_Cm_seersOf_5 rfl (lv_at hl 2 rfl) ?_
      refine g_geti X hW qj0 rfl _ (ds_cm hk) 5 (by decide) mw_112 rfl (r0 := k) (p0 := 3) rfl (v := ρ 3) (by rw [hρ]) d_Cm_seersOf_6 ?_
      rw [hwf.w]
      refine lv_icmp_ge (tgt := 33) X.x X.b d_Cm_seersOf_9 (by decide) (fun c9 => ?_) (fun c9 => ?_)
      · have c9 : (nW ρ) ≤ j := (nI_leI (a := (nW ρ)) (b := j) (by omega) (by omega)).mp c9
        refine lv_iload_n X.x X.b d_Cm_seersOf_33 rfl (lv_at hl 1 rfl) ?_
        exact q_zret X rfl hW ⟨by rw [ha, show j = nW ρ by omega]; rfl, rfl⟩ d_Cm_seersOf_34
      · have c9 : ¬ (nW ρ) ≤ j := fun z => c9 ((nI_leI (a := (nW ρ)) (b := j) (by omega) (by omega)).mpr z)
        refine lv_aload_n X.x X.b d_Cm_seersOf_12 rfl (lv_at hl 2 rfl) ?_
        refine lv_iload_n X.x X.b d_Cm_seersOf_13 rfl (lv_at hl 0 rfl) ?_
        refine lv_iload_n X.x X.b d_Cm_seersOf_14 rfl (lv_at hl 3 rfl) ?_
        refine q_cvi X (c_Cm_canSee l E k hk S ρ (by rw [hρ]) hwf j t (by omega) (by omega)) hW (q_recv X hW (ds_cm hk) rfl) ok_Cm_canSee mw_298 ⟨by decide, by decide⟩ (As := [.int (nI j), .int (nI t)]) rfl rfl (Nat.le_of_ble_eq_true rfl) (lv := [(3, .int (nI j)), (2, .int a), (0, .ref (eA E (cB k))), (1, .int (nI t))]) hl ⟨Nat.le_refl 0, Nat.le_refl 0⟩ d_Cm_seersOf_15 (fun H locs hW => ?_)
        refine lv_if_eq (tgt := 27) X.x X.b d_Cm_seersOf_18 (by decide) (fun c18 => ?_) (fun c18 => ?_)
        · have c18 := b2i_e c18
          refine lv_iinc (v := nI (j + 1)) (lv' := [(3, .int (nI (j + 1))), (2, .int a), (0, .ref (eA E (cB k))), (1, .int (nI t))]) X.x X.b d_Cm_seersOf_27 hl (k := 0) rfl (by rw [show Int32.ofInt 1 = nI 1 from by decide, nI_add]) (by decide) rfl (fun ls hl => ?_)
          refine lv_goto (tgt := 4) X.x X.b d_Cm_seersOf_30 (by decide) ?_
          exact ih4 (j + 1) a (by omega) (by rw [fo_succ, ← ha]; first | exact (if_pos c18).symm | exact (if_neg c18).symm) (by omega) _ _ _ hW (lv_sub hl [0, 1, 2, 3] rfl)
        · have c18 := b2i_n c18
          refine lv_iload_n X.x X.b d_Cm_seersOf_21 rfl (lv_at hl 1 rfl) ?_
          refine lv_iconst (v := nI 1) X.x X.b d_Cm_seersOf_22 (by decide) ?_
          refine lv_iload_n X.x X.b d_Cm_seersOf_23 rfl (lv_at hl 0 rfl) ?_
          refine lv_ishl X.x X.b d_Cm_seersOf_24 ?_
          refine lv_ior X.x X.b d_Cm_seersOf_25 ?_
          refine lv_istore_n (lv' := [(2, .int (a ||| ((nI 1) <<< ((nI j) &&& 31)))), (3, .int (nI j)), (0, .ref (eA E (cB k))), (1, .int (nI t))]) X.x X.b d_Cm_seersOf_26 rfl hl (by decide) rfl (fun ls hl => ?_)
          refine lv_iinc (v := nI (j + 1)) (lv' := [(3, .int (nI (j + 1))), (2, .int (a ||| ((nI 1) <<< ((nI j) &&& 31)))), (0, .ref (eA E (cB k))), (1, .int (nI t))]) X.x X.b d_Cm_seersOf_27 hl (k := 1) rfl (by rw [show Int32.ofInt 1 = nI 1 from by decide, nI_add]) (by decide) rfl (fun ls hl => ?_)
          refine lv_goto (tgt := 4) X.x X.b d_Cm_seersOf_30 (by decide) ?_
          exact ih4 (j + 1) (a ||| ((nI 1) <<< ((nI j) &&& 31))) (by omega) (by rw [fo_succ, ← ha]; first | exact (if_pos c18).symm | exact (if_neg c18).symm) (by omega) _ _ _ hW (lv_sub hl [0, 1, 2, 3] rfl)
  exact loop4 (nW ρ - 0 + 1) 0 (nI 0) (by omega) rfl (Nat.lt_succ_self _) _ _ _ hW (lv_sub hl [0, 1, 2, 3] rfl)
set_option maxHeartbeats 1000000 in
set_option maxRecDepth 20000 in
theorem c_Cm_guidedWalkers (l : Launch) (E : QE) (k : Nat) (hk : k < 3) (S : QM) (ρ : Nat → Int32) (hρ : S k = ρ) (hwf : WF ρ) : qCI E l y_Cm_guidedWalkers prog_2_method_16_code 4 .int 4 [.ref (eA E (cB k))] S (setS (gdd ρ) (nW ρ)) S := by
  refine qCI_of (by decide) (Nat.le_of_ble_eq_true rfl) (fun p e s m below meth c ls X hW hl => ?_)
  have hl : lv_has ls 4 [(0, .ref (eA E (cB k)))] := hl
  have htl := hwf.tl
  have hwl := hwf.wl
  have hdl := hwf.dl
  refine lv_iconst (v := nI 0) X.x X.b d_Cm_guidedWalkers_0 (by decide) ?_
  refine lv_istore_n (lv' := [(1, .int (nI 0)), (0, .ref (eA E (cB k)))]) X.x X.b d_Cm_guidedWalkers_1 rfl hl (by decide) rfl (fun ls hl => ?_)
  refine lv_iconst (v := nI 0) X.x X.b d_Cm_guidedWalkers_2 (by decide) ?_
  refine lv_istore_n (lv' := [(2, .int (nI 0)), (1, .int (nI 0)), (0, .ref (eA E (cB k)))]) X.x X.b d_Cm_guidedWalkers_3 rfl hl (by decide) rfl (fun ls hl => ?_)
  have loop4 : ∀ (fu4 : Nat) (j : Nat) (a : Int32), j ≤ nW ρ → a = fo (fun i a => if (isT ρ (ρ (44 + 6 * i + 1)) ∧ fnd ρ i (ρ (44 + 6 * i + 1)).toNatClampNeg) then a ||| bt i else a) j (nI 0) → nW ρ - j < fu4 → ∀ (H : Heap) (locs : List Loc) (ls : Array Slot), qWH E S s H locs → lv_has ls 4 [(2, .int (nI j)), (1, .int a), (0, .ref (eA E (cB k)))] → W p l e (qRm 4) s m ([.ref (eA E (cB k))] : List Value).toArray below meth c H locs 0 0 (MQ below (qQi E (setS (gdd ρ) (nW ρ)) S s.heap.size) ([.ref (eA E (cB k))] : List Value).toArray s 0 0 (qAA E s.heap.size)) (F0 m 4 ls []) := by
    intro fu4
    induction fu4 with
    | zero =>
      intro j a hj ha hfu
      exact absurd hfu (Nat.not_lt_zero _)
    | succ fu4 ih4 =>
      intro j a hj ha hfu H locs ls hW hl
      refine lv_iload_n X.x X.b d_Cm_guidedWalkers_4 rfl (lv_at hl 0 rfl) ?_
      refine lv_aload_n X.x X.b d_Cm_guidedWalkers_5 rfl (lv_at hl 2 rfl) ?_
      refine g_geti X hW qj0 rfl _ (ds_cm hk) 5 (by decide) mw_112 rfl (r0 := k) (p0 := 3) rfl (v := ρ 3) (by rw [hρ]) d_Cm_guidedWalkers_6 ?_
      rw [hwf.w]
      refine lv_icmp_ge (tgt := 50) X.x X.b d_Cm_guidedWalkers_9 (by decide) (fun c9 => ?_) (fun c9 => ?_)
      · have c9 : (nW ρ) ≤ j := (nI_leI (a := (nW ρ)) (b := j) (by omega) (by omega)).mp c9
        refine lv_iload_n X.x X.b d_Cm_guidedWalkers_50 rfl (lv_at hl 1 rfl) ?_
        exact q_zret X rfl hW ⟨by rw [ha, show j = nW ρ by omega]; rfl, rfl⟩ d_Cm_guidedWalkers_51
      · have c9 : ¬ (nW ρ) ≤ j := fun z => c9 ((nI_leI (a := (nW ρ)) (b := j) (by omega) (by omega)).mpr z)
        refine lv_aload_n X.x X.b d_Cm_guidedWalkers_12 rfl (lv_at hl 2 rfl) ?_
        refine q_getr X hW qj0 rfl _ (ds_cm hk) 2 (by decide) mw_104 rfl (c1 := cB k + 3) rfl d_Cm_guidedWalkers_13 ?_
        refine lv_iload_n X.x X.b d_Cm_guidedWalkers_16 rfl (lv_at hl 0 rfl) ?_
        refine g_wk hk X hW (show j < 6 by omega) d_Cm_guidedWalkers_17 ?_
        refine lv_iconst (v := nI 1) X.x X.b d_Cm_guidedWalkers_18 (by decide) ?_
        refine g_ald X hW (ds_w (w := j) hk (by omega)) (q_in (by omega) (by decide)) (p0 := 44 + 6 * j + 1) (q_tn (by omega) (by omega)) (v := ρ (44 + 6 * j + 1)) (by rw [hρ]) d_Cm_guidedWalkers_19 ?_
        refine lv_topi (fun x19 ex19 => ?_)
        refine lv_istore_n (lv' := [(3, .int x19), (2, .int (nI j)), (1, .int a), (0, .ref (eA E (cB k)))]) X.x X.b d_Cm_guidedWalkers_20 rfl hl (by decide) rfl (fun ls hl => ?_)
        refine lv_aload_n X.x X.b d_Cm_guidedWalkers_21 rfl (lv_at hl 3 rfl) ?_
        refine lv_iload_n X.x X.b d_Cm_guidedWalkers_22 rfl (lv_at hl 0 rfl) ?_
        refine q_cvi X (c_Cm_hasThing l E k hk S ρ (by rw [hρ]) hwf x19) hW (q_recv X hW (ds_cm hk) rfl) ok_Cm_hasThing mw_314 ⟨by decide, by decide⟩ (As := [.int x19]) rfl rfl (Nat.le_of_ble_eq_true rfl) (lv := [(3, .int x19), (2, .int (nI j)), (1, .int a), (0, .ref (eA E (cB k)))]) hl ⟨Nat.le_refl 0, Nat.le_refl 0⟩ d_Cm_guidedWalkers_23 (fun H locs hW => ?_)
        refine lv_if_eq (tgt := 44) X.x X.b d_Cm_guidedWalkers_26 (by decide) (fun c26 => ?_) (fun c26 => ?_)
        · have c26 := b2i_e c26
          refine lv_iinc (v := nI (j + 1)) (lv' := [(2, .int (nI (j + 1))), (3, .int x19), (1, .int a), (0, .ref (eA E (cB k)))]) X.x X.b d_Cm_guidedWalkers_44 hl (k := 1) rfl (by rw [show Int32.ofInt 1 = nI 1 from by decide, nI_add]) (by decide) rfl (fun ls hl => ?_)
          refine lv_goto (tgt := 4) X.x X.b d_Cm_guidedWalkers_47 (by decide) ?_
          exact ih4 (j + 1) a (by omega) (by rw [fo_succ, ← ha]; first | exact (if_pos (by rw [← ex19, nI_clamp (by omega)]; exact ⟨c26, c35⟩)).symm | exact (if_neg (by rw [← ex19]; exact fun z => c26 z.1)).symm | exact (if_neg (by rw [← ex19, nI_clamp (by omega)]; exact fun z => c35 z.2)).symm) (by omega) _ _ _ hW (lv_sub hl [0, 2, 3] rfl)
        · have c26 := b2i_n c26
          obtain ⟨t26, ht26, rfl⟩ := isT_n hwf c26
          refine lv_aload_n X.x X.b d_Cm_guidedWalkers_29 rfl (lv_at hl 3 rfl) ?_
          refine lv_iload_n X.x X.b d_Cm_guidedWalkers_30 rfl (lv_at hl 1 rfl) ?_
          refine lv_iload_n X.x X.b d_Cm_guidedWalkers_31 rfl (lv_at hl 0 rfl) ?_
          refine q_cvi X (c_Cm_findsWay l E k hk S ρ (by rw [hρ]) hwf j t26 (by omega) (by omega)) hW (q_recv X hW (ds_cm hk) rfl) ok_Cm_findsWay mw_315 ⟨by decide, by decide⟩ (As := [.int (nI j), .int (nI t26)]) rfl rfl (Nat.le_of_ble_eq_true rfl) (lv := [(3, .int (nI t26)), (2, .int (nI j)), (1, .int a), (0, .ref (eA E (cB k)))]) hl ⟨Nat.le_refl 0, Nat.le_refl 0⟩ d_Cm_guidedWalkers_32 (fun H locs hW => ?_)
          refine lv_if_eq (tgt := 44) X.x X.b d_Cm_guidedWalkers_35 (by decide) (fun c35 => ?_) (fun c35 => ?_)
          · have c35 := b2i_e c35
            refine lv_iinc (v := nI (j + 1)) (lv' := [(2, .int (nI (j + 1))), (3, .int (nI t26)), (1, .int a), (0, .ref (eA E (cB k)))]) X.x X.b d_Cm_guidedWalkers_44 hl (k := 1) rfl (by rw [show Int32.ofInt 1 = nI 1 from by decide, nI_add]) (by decide) rfl (fun ls hl => ?_)
            refine lv_goto (tgt := 4) X.x X.b d_Cm_guidedWalkers_47 (by decide) ?_
            exact ih4 (j + 1) a (by omega) (by rw [fo_succ, ← ha]; first | exact (if_pos (by rw [← ex19, nI_clamp (by omega)]; exact ⟨c26, c35⟩)).symm | exact (if_neg (by rw [← ex19]; exact fun z => c26 z.1)).symm | exact (if_neg (by rw [← ex19, nI_clamp (by omega)]; exact fun z => c35 z.2)).symm) (by omega) _ _ _ hW (lv_sub hl [0, 2, 3] rfl)
          · have c35 := b2i_n c35
            refine lv_iload_n X.x X.b d_Cm_guidedWalkers_38 rfl (lv_at hl 2 rfl) ?_
            refine lv_iconst (v := nI 1) X.x X.b d_Cm_guidedWalkers_39 (by decide) ?_
            refine lv_iload_n X.x X.b d_Cm_guidedWalkers_40 rfl (lv_at hl 1 rfl) ?_
            refine lv_ishl X.x X.b d_Cm_guidedWalkers_41 ?_
            refine lv_ior X.x X.b d_Cm_guidedWalkers_42 ?_
            refine lv_istore_n (lv' := [(1, .int (a ||| ((nI 1) <<< ((nI j) &&& 31)))), (3, .int (nI t26)), (2, .int (nI j)), (0, .ref (eA E (cB k)))]) X.x X.b d_Cm_guidedWalkers_43 rfl hl (by decide) rfl (fun ls hl => ?_)
            refine lv_iinc (v := nI (j + 1)) (lv' := [(2, .int (nI (j + 1))), (1, .int (a ||| ((nI 1) <<< ((nI j) &&& 31)))), (3, .int (nI t26)), (0, .ref (eA E (cB k)))]) X.x X.b d_Cm_guidedWalkers_44 hl (k := 2) rfl (by rw [show Int32.ofInt 1 = nI 1 from by decide, nI_add]) (by decide) rfl (fun ls hl => ?_)
            refine lv_goto (tgt := 4) X.x X.b d_Cm_guidedWalkers_47 (by decide) ?_
            exact ih4 (j + 1) (a ||| ((nI 1) <<< ((nI j) &&& 31))) (by omega) (by rw [fo_succ, ← ha]; first | exact (if_pos (by rw [← ex19, nI_clamp (by omega)]; exact ⟨c26, c35⟩)).symm | exact (if_neg (by rw [← ex19]; exact fun z => c26 z.1)).symm | exact (if_neg (by rw [← ex19, nI_clamp (by omega)]; exact fun z => c35 z.2)).symm) (by omega) _ _ _ hW (lv_sub hl [0, 1, 3] rfl)
  exact loop4 (nW ρ - 0 + 1) 0 (nI 0) (by omega) rfl (Nat.lt_succ_self _) _ _ _ hW (lv_sub hl [0, 1, 2] rfl)
set_option maxHeartbeats 1000000 in
set_option maxRecDepth 20000 in
theorem c_Cm_thingsCaredFor (l : Launch) (E : QE) (k : Nat) (hk : k < 3) (S : QM) (ρ : Nat → Int32) (hρ : S k = ρ) (hwf : WF ρ) : qCI E l y_Cm_thingsCaredFor prog_2_method_17_code 3 .int 1 [.ref (eA E (cB k))] S (carS ρ) S := by
  refine qCI_of (by decide) (Nat.le_of_ble_eq_true rfl) (fun p e s m below meth c ls X hW hl => ?_)
  have hl : lv_has ls 3 [(0, .ref (eA E (cB k)))] := hl
  have htl := hwf.tl
  have hwl := hwf.wl
  have hdl := hwf.dl
  refine lv_iconst (v := nI 0) X.x X.b d_Cm_thingsCaredFor_0 (by decide) ?_
  refine lv_istore_n (lv' := [(1, .int (nI 0)), (0, .ref (eA E (cB k)))]) X.x X.b d_Cm_thingsCaredFor_1 rfl hl (by decide) rfl (fun ls hl => ?_)
  refine lv_iconst (v := nI 0) X.x X.b d_Cm_thingsCaredFor_2 (by decide) ?_
  refine lv_istore_n (lv' := [(2, .int (nI 0)), (1, .int (nI 0)), (0, .ref (eA E (cB k)))]) X.x X.b d_Cm_thingsCaredFor_3 rfl hl (by decide) rfl (fun ls hl => ?_)
  have loop4 : ∀ (fu4 : Nat) (j : Nat) (a : Int32), j ≤ nW ρ → a = fo (fun i a => a ||| ρ (44 + 6 * i + 3)) j (nI 0) → nW ρ - j < fu4 → ∀ (H : Heap) (locs : List Loc) (ls : Array Slot), qWH E S s H locs → lv_has ls 3 [(2, .int (nI j)), (1, .int a), (0, .ref (eA E (cB k)))] → W p l e (qRm 1) s m ([.ref (eA E (cB k))] : List Value).toArray below meth c H locs 0 0 (MQ below (qQi E (carS ρ) S s.heap.size) ([.ref (eA E (cB k))] : List Value).toArray s 0 0 (qAA E s.heap.size)) (F0 m 4 ls []) := by
    intro fu4
    induction fu4 with
    | zero =>
      intro j a hj ha hfu
      exact absurd hfu (Nat.not_lt_zero _)
    | succ fu4 ih4 =>
      intro j a hj ha hfu H locs ls hW hl
      refine lv_iload_n X.x X.b d_Cm_thingsCaredFor_4 rfl (lv_at hl 0 rfl) ?_
      refine lv_aload_n X.x X.b d_Cm_thingsCaredFor_5 rfl (lv_at hl 2 rfl) ?_
      refine g_geti X hW qj0 rfl _ (ds_cm hk) 5 (by decide) mw_112 rfl (r0 := k) (p0 := 3) rfl (v := ρ 3) (by rw [hρ]) d_Cm_thingsCaredFor_6 ?_
      rw [hwf.w]
      refine lv_icmp_ge (tgt := 29) X.x X.b d_Cm_thingsCaredFor_9 (by decide) (fun c9 => ?_) (fun c9 => ?_)
      · have c9 : (nW ρ) ≤ j := (nI_leI (a := (nW ρ)) (b := j) (by omega) (by omega)).mp c9
        refine lv_iload_n X.x X.b d_Cm_thingsCaredFor_29 rfl (lv_at hl 1 rfl) ?_
        refine lv_iconst (v := nI 1) X.x X.b d_Cm_thingsCaredFor_30 (by decide) ?_
        refine lv_aload_n X.x X.b d_Cm_thingsCaredFor_31 rfl (lv_at hl 2 rfl) ?_
        refine g_geti X hW qj0 rfl _ (ds_cm hk) 4 (by decide) mw_109 rfl (r0 := k) (p0 := 1) rfl (v := ρ 1) (by rw [hρ]) d_Cm_thingsCaredFor_32 ?_
        refine lv_ishl X.x X.b d_Cm_thingsCaredFor_35 ?_
        refine lv_iconst (v := nI 1) X.x X.b d_Cm_thingsCaredFor_36 (by decide) ?_
        refine lv_isub X.x X.b d_Cm_thingsCaredFor_37 ?_
        refine lv_iand X.x X.b d_Cm_thingsCaredFor_38 ?_
        exact q_zret X rfl hW ⟨by rw [ha, show j = nW ρ by omega]; rfl, rfl⟩ d_Cm_thingsCaredFor_39
      · have c9 : ¬ (nW ρ) ≤ j := fun z => c9 ((nI_leI (a := (nW ρ)) (b := j) (by omega) (by omega)).mpr z)
        refine lv_iload_n X.x X.b d_Cm_thingsCaredFor_12 rfl (lv_at hl 1 rfl) ?_
        refine lv_aload_n X.x X.b d_Cm_thingsCaredFor_13 rfl (lv_at hl 2 rfl) ?_
        refine q_getr X hW qj0 rfl _ (ds_cm hk) 2 (by decide) mw_104 rfl (c1 := cB k + 3) rfl d_Cm_thingsCaredFor_14 ?_
        refine lv_iload_n X.x X.b d_Cm_thingsCaredFor_17 rfl (lv_at hl 0 rfl) ?_
        refine g_wk hk X hW (show j < 6 by omega) d_Cm_thingsCaredFor_18 ?_
        refine lv_iconst (v := nI 3) X.x X.b d_Cm_thingsCaredFor_19 (by decide) ?_
        refine g_ald X hW (ds_w (w := j) hk (by omega)) (q_in (by omega) (by decide)) (p0 := 44 + 6 * j + 3) (q_tn (by omega) (by omega)) (v := ρ (44 + 6 * j + 3)) (by rw [hρ]) d_Cm_thingsCaredFor_20 ?_
        refine lv_ior X.x X.b d_Cm_thingsCaredFor_21 ?_
        refine lv_istore_n (lv' := [(1, .int (a ||| (ρ (44 + 6 * j + 3)))), (2, .int (nI j)), (0, .ref (eA E (cB k)))]) X.x X.b d_Cm_thingsCaredFor_22 rfl hl (by decide) rfl (fun ls hl => ?_)
        refine lv_iinc (v := nI (j + 1)) (lv' := [(2, .int (nI (j + 1))), (1, .int (a ||| (ρ (44 + 6 * j + 3)))), (0, .ref (eA E (cB k)))]) X.x X.b d_Cm_thingsCaredFor_23 hl (k := 1) rfl (by rw [show Int32.ofInt 1 = nI 1 from by decide, nI_add]) (by decide) rfl (fun ls hl => ?_)
        refine lv_goto (tgt := 4) X.x X.b d_Cm_thingsCaredFor_26 (by decide) ?_
        exact ih4 (j + 1) (a ||| (ρ (44 + 6 * j + 3))) (by omega) (by rw [fo_succ, ← ha]) (by omega) _ _ _ hW (lv_sub hl [0, 1, 2] rfl)
  exact loop4 (nW ρ - 0 + 1) 0 (nI 0) (by omega) rfl (Nat.lt_succ_self _) _ _ _ hW (lv_sub hl [0, 1, 2] rfl)
set_option maxHeartbeats 1000000 in
set_option maxRecDepth 20000 in
theorem c_Cm_cellsWithWalkers (l : Launch) (E : QE) (k : Nat) (hk : k < 3) (S : QM) (ρ : Nat → Int32) (hρ : S k = ρ) (hwf : WF ρ) : qCI E l y_Cm_cellsWithWalkers prog_2_method_18_code 3 .int 1 [.ref (eA E (cB k))] S (wcsS ρ) S := by
  refine qCI_of (by decide) (Nat.le_of_ble_eq_true rfl) (fun p e s m below meth c ls X hW hl => ?_)
  have hl : lv_has ls 3 [(0, .ref (eA E (cB k)))] := hl
  have htl := hwf.tl
  have hwl := hwf.wl
  have hdl := hwf.dl
  refine lv_iconst (v := nI 0) X.x X.b d_Cm_cellsWithWalkers_0 (by decide) ?_
  refine lv_istore_n (lv' := [(1, .int (nI 0)), (0, .ref (eA E (cB k)))]) X.x X.b d_Cm_cellsWithWalkers_1 rfl hl (by decide) rfl (fun ls hl => ?_)
  refine lv_iconst (v := nI 0) X.x X.b d_Cm_cellsWithWalkers_2 (by decide) ?_
  refine lv_istore_n (lv' := [(2, .int (nI 0)), (1, .int (nI 0)), (0, .ref (eA E (cB k)))]) X.x X.b d_Cm_cellsWithWalkers_3 rfl hl (by decide) rfl (fun ls hl => ?_)
  have loop4 : ∀ (fu4 : Nat) (j : Nat) (a : Int32), j ≤ nW ρ → a = fo (fun i a => a ||| nI 1 <<< (ρ (44 + 6 * i) &&& 31)) j (nI 0) → nW ρ - j < fu4 → ∀ (H : Heap) (locs : List Loc) (ls : Array Slot), qWH E S s H locs → lv_has ls 3 [(2, .int (nI j)), (1, .int a), (0, .ref (eA E (cB k)))] → W p l e (qRm 1) s m ([.ref (eA E (cB k))] : List Value).toArray below meth c H locs 0 0 (MQ below (qQi E (wcsS ρ) S s.heap.size) ([.ref (eA E (cB k))] : List Value).toArray s 0 0 (qAA E s.heap.size)) (F0 m 4 ls []) := by
    intro fu4
    induction fu4 with
    | zero =>
      intro j a hj ha hfu
      exact absurd hfu (Nat.not_lt_zero _)
    | succ fu4 ih4 =>
      intro j a hj ha hfu H locs ls hW hl
      refine lv_iload_n X.x X.b d_Cm_cellsWithWalkers_4 rfl (lv_at hl 0 rfl) ?_
      refine lv_aload_n X.x X.b d_Cm_cellsWithWalkers_5 rfl (lv_at hl 2 rfl) ?_
      refine g_geti X hW qj0 rfl _ (ds_cm hk) 5 (by decide) mw_112 rfl (r0 := k) (p0 := 3) rfl (v := ρ 3) (by rw [hρ]) d_Cm_cellsWithWalkers_6 ?_
      rw [hwf.w]
      refine lv_icmp_ge (tgt := 31) X.x X.b d_Cm_cellsWithWalkers_9 (by decide) (fun c9 => ?_) (fun c9 => ?_)
      · have c9 : (nW ρ) ≤ j := (nI_leI (a := (nW ρ)) (b := j) (by omega) (by omega)).mp c9
        refine lv_iload_n X.x X.b d_Cm_cellsWithWalkers_31 rfl (lv_at hl 1 rfl) ?_
        exact q_zret X rfl hW ⟨by rw [ha, show j = nW ρ by omega]; rfl, rfl⟩ d_Cm_cellsWithWalkers_32
      · have c9 : ¬ (nW ρ) ≤ j := fun z => c9 ((nI_leI (a := (nW ρ)) (b := j) (by omega) (by omega)).mpr z)
        refine lv_iload_n X.x X.b d_Cm_cellsWithWalkers_12 rfl (lv_at hl 1 rfl) ?_
        refine lv_iconst (v := nI 1) X.x X.b d_Cm_cellsWithWalkers_13 (by decide) ?_
        refine lv_aload_n X.x X.b d_Cm_cellsWithWalkers_14 rfl (lv_at hl 2 rfl) ?_
        refine q_getr X hW qj0 rfl _ (ds_cm hk) 2 (by decide) mw_104 rfl (c1 := cB k + 3) rfl d_Cm_cellsWithWalkers_15 ?_
        refine lv_iload_n X.x X.b d_Cm_cellsWithWalkers_18 rfl (lv_at hl 0 rfl) ?_
        refine g_wk hk X hW (show j < 6 by omega) d_Cm_cellsWithWalkers_19 ?_
        refine lv_iconst (v := nI 0) X.x X.b d_Cm_cellsWithWalkers_20 (by decide) ?_
        refine g_ald X hW (ds_w (w := j) hk (by omega)) (q_in (by omega) (by decide)) (p0 := 44 + 6 * j) (q_tn (by omega) (by omega)) (v := ρ (44 + 6 * j)) (by rw [hρ]) d_Cm_cellsWithWalkers_21 ?_
        refine lv_ishl X.x X.b d_Cm_cellsWithWalkers_22 ?_
        refine lv_ior X.x X.b d_Cm_cellsWithWalkers_23 ?_
        refine lv_istore_n (lv' := [(1, .int (a ||| ((nI 1) <<< ((ρ (44 + 6 * j)) &&& 31)))), (2, .int (nI j)), (0, .ref (eA E (cB k)))]) X.x X.b d_Cm_cellsWithWalkers_24 rfl hl (by decide) rfl (fun ls hl => ?_)
        refine lv_iinc (v := nI (j + 1)) (lv' := [(2, .int (nI (j + 1))), (1, .int (a ||| ((nI 1) <<< ((ρ (44 + 6 * j)) &&& 31)))), (0, .ref (eA E (cB k)))]) X.x X.b d_Cm_cellsWithWalkers_25 hl (k := 1) rfl (by rw [show Int32.ofInt 1 = nI 1 from by decide, nI_add]) (by decide) rfl (fun ls hl => ?_)
        refine lv_goto (tgt := 4) X.x X.b d_Cm_cellsWithWalkers_28 (by decide) ?_
        exact ih4 (j + 1) (a ||| ((nI 1) <<< ((ρ (44 + 6 * j)) &&& 31))) (by omega) (by rw [fo_succ, ← ha]) (by omega) _ _ _ hW (lv_sub hl [0, 1, 2] rfl)
  exact loop4 (nW ρ - 0 + 1) 0 (nI 0) (by omega) rfl (Nat.lt_succ_self _) _ _ _ hW (lv_sub hl [0, 1, 2] rfl)
set_option maxHeartbeats 1000000 in
set_option maxRecDepth 20000 in
theorem c_Cm_cellsWithThings (l : Launch) (E : QE) (k : Nat) (hk : k < 3) (S : QM) (ρ : Nat → Int32) (hρ : S k = ρ) (hwf : WF ρ) : qCI E l y_Cm_cellsWithThings prog_2_method_19_code 3 .int 1 [.ref (eA E (cB k))] S (tcsS ρ) S := by
  refine qCI_of (by decide) (Nat.le_of_ble_eq_true rfl) (fun p e s m below meth c ls X hW hl => ?_)
  have hl : lv_has ls 3 [(0, .ref (eA E (cB k)))] := hl
  have htl := hwf.tl
  have hwl := hwf.wl
  have hdl := hwf.dl
  refine lv_iconst (v := nI 0) X.x X.b d_Cm_cellsWithThings_0 (by decide) ?_
  refine lv_istore_n (lv' := [(1, .int (nI 0)), (0, .ref (eA E (cB k)))]) X.x X.b d_Cm_cellsWithThings_1 rfl hl (by decide) rfl (fun ls hl => ?_)
  refine lv_iconst (v := nI 0) X.x X.b d_Cm_cellsWithThings_2 (by decide) ?_
  refine lv_istore_n (lv' := [(2, .int (nI 0)), (1, .int (nI 0)), (0, .ref (eA E (cB k)))]) X.x X.b d_Cm_cellsWithThings_3 rfl hl (by decide) rfl (fun ls hl => ?_)
  have loop4 : ∀ (fu4 : Nat) (j : Nat) (a : Int32), j ≤ nT ρ → a = fo (fun i a => a ||| nI 1 <<< (ρ (20 + 3 * i + 1) &&& 31)) j (nI 0) → nT ρ - j < fu4 → ∀ (H : Heap) (locs : List Loc) (ls : Array Slot), qWH E S s H locs → lv_has ls 3 [(2, .int (nI j)), (1, .int a), (0, .ref (eA E (cB k)))] → W p l e (qRm 1) s m ([.ref (eA E (cB k))] : List Value).toArray below meth c H locs 0 0 (MQ below (qQi E (tcsS ρ) S s.heap.size) ([.ref (eA E (cB k))] : List Value).toArray s 0 0 (qAA E s.heap.size)) (F0 m 4 ls []) := by
    intro fu4
    induction fu4 with
    | zero =>
      intro j a hj ha hfu
      exact absurd hfu (Nat.not_lt_zero _)
    | succ fu4 ih4 =>
      intro j a hj ha hfu H locs ls hW hl
      refine lv_iload_n X.x X.b d_Cm_cellsWithThings_4 rfl (lv_at hl 0 rfl) ?_
      refine lv_aload_n X.x X.b d_Cm_cellsWithThings_5 rfl (lv_at hl 2 rfl) ?_
      refine g_geti X hW qj0 rfl _ (ds_cm hk) 4 (by decide) mw_109 rfl (r0 := k) (p0 := 1) rfl (v := ρ 1) (by rw [hρ]) d_Cm_cellsWithThings_6 ?_
      rw [hwf.t]
      refine lv_icmp_ge (tgt := 31) X.x X.b d_Cm_cellsWithThings_9 (by decide) (fun c9 => ?_) (fun c9 => ?_)
      · have c9 : (nT ρ) ≤ j := (nI_leI (a := (nT ρ)) (b := j) (by omega) (by omega)).mp c9
        refine lv_iload_n X.x X.b d_Cm_cellsWithThings_31 rfl (lv_at hl 1 rfl) ?_
        exact q_zret X rfl hW ⟨by rw [ha, show j = nT ρ by omega]; rfl, rfl⟩ d_Cm_cellsWithThings_32
      · have c9 : ¬ (nT ρ) ≤ j := fun z => c9 ((nI_leI (a := (nT ρ)) (b := j) (by omega) (by omega)).mpr z)
        refine lv_iload_n X.x X.b d_Cm_cellsWithThings_12 rfl (lv_at hl 1 rfl) ?_
        refine lv_iconst (v := nI 1) X.x X.b d_Cm_cellsWithThings_13 (by decide) ?_
        refine lv_aload_n X.x X.b d_Cm_cellsWithThings_14 rfl (lv_at hl 2 rfl) ?_
        refine q_getr X hW qj0 rfl _ (ds_cm hk) 1 (by decide) mw_102 rfl (c1 := cB k + 2) rfl d_Cm_cellsWithThings_15 ?_
        refine lv_iload_n X.x X.b d_Cm_cellsWithThings_18 rfl (lv_at hl 0 rfl) ?_
        refine g_th hk X hW (show j < 8 by omega) d_Cm_cellsWithThings_19 ?_
        refine lv_iconst (v := nI 1) X.x X.b d_Cm_cellsWithThings_20 (by decide) ?_
        refine g_ald X hW (ds_t (t := j) hk (by omega)) (q_in (by omega) (by decide)) (p0 := 20 + 3 * j + 1) (q_tn (by omega) (by omega)) (v := ρ (20 + 3 * j + 1)) (by rw [hρ]) d_Cm_cellsWithThings_21 ?_
        refine lv_ishl X.x X.b d_Cm_cellsWithThings_22 ?_
        refine lv_ior X.x X.b d_Cm_cellsWithThings_23 ?_
        refine lv_istore_n (lv' := [(1, .int (a ||| ((nI 1) <<< ((ρ (20 + 3 * j + 1)) &&& 31)))), (2, .int (nI j)), (0, .ref (eA E (cB k)))]) X.x X.b d_Cm_cellsWithThings_24 rfl hl (by decide) rfl (fun ls hl => ?_)
        refine lv_iinc (v := nI (j + 1)) (lv' := [(2, .int (nI (j + 1))), (1, .int (a ||| ((nI 1) <<< ((ρ (20 + 3 * j + 1)) &&& 31)))), (0, .ref (eA E (cB k)))]) X.x X.b d_Cm_cellsWithThings_25 hl (k := 1) rfl (by rw [show Int32.ofInt 1 = nI 1 from by decide, nI_add]) (by decide) rfl (fun ls hl => ?_)
        refine lv_goto (tgt := 4) X.x X.b d_Cm_cellsWithThings_28 (by decide) ?_
        exact ih4 (j + 1) (a ||| ((nI 1) <<< ((ρ (20 + 3 * j + 1)) &&& 31))) (by omega) (by rw [fo_succ, ← ha]) (by omega) _ _ _ hW (lv_sub hl [0, 1, 2] rfl)
  exact loop4 (nT ρ - 0 + 1) 0 (nI 0) (by omega) rfl (Nat.lt_succ_self _) _ _ _ hW (lv_sub hl [0, 1, 2] rfl)
set_option maxHeartbeats 1000000 in
set_option maxRecDepth 20000 in
theorem c_Cm_unseenThings (l : Launch) (E : QE) (k : Nat) (hk : k < 3) (S : QM) (ρ : Nat → Int32) (hρ : S k = ρ) (hwf : WF ρ) : qCI E l y_Cm_unseenThings prog_2_method_20_code 3 .int 4 [.ref (eA E (cB k))] S (unsS ρ) S := by
  refine qCI_of (by decide) (Nat.le_of_ble_eq_true rfl) (fun p e s m below meth c ls X hW hl => ?_)
  have hl : lv_has ls 3 [(0, .ref (eA E (cB k)))] := hl
  have htl := hwf.tl
  have hwl := hwf.wl
  have hdl := hwf.dl
  refine lv_iconst (v := nI 0) X.x X.b d_Cm_unseenThings_0 (by decide) ?_
  refine lv_istore_n (lv' := [(1, .int (nI 0)), (0, .ref (eA E (cB k)))]) X.x X.b d_Cm_unseenThings_1 rfl hl (by decide) rfl (fun ls hl => ?_)
  refine lv_iconst (v := nI 0) X.x X.b d_Cm_unseenThings_2 (by decide) ?_
  refine lv_istore_n (lv' := [(2, .int (nI 0)), (1, .int (nI 0)), (0, .ref (eA E (cB k)))]) X.x X.b d_Cm_unseenThings_3 rfl hl (by decide) rfl (fun ls hl => ?_)
  have loop4 : ∀ (fu4 : Nat) (j : Nat) (a : Int32), j ≤ nT ρ → a = fo (fun i a => if snbS ρ i = 0 then a ||| bt i else a) j (nI 0) → nT ρ - j < fu4 → ∀ (H : Heap) (locs : List Loc) (ls : Array Slot), qWH E S s H locs → lv_has ls 3 [(2, .int (nI j)), (1, .int a), (0, .ref (eA E (cB k)))] → W p l e (qRm 4) s m ([.ref (eA E (cB k))] : List Value).toArray below meth c H locs 0 0 (MQ below (qQi E (unsS ρ) S s.heap.size) ([.ref (eA E (cB k))] : List Value).toArray s 0 0 (qAA E s.heap.size)) (F0 m 4 ls []) := by
    intro fu4
    induction fu4 with
    | zero =>
      intro j a hj ha hfu
      exact absurd hfu (Nat.not_lt_zero _)
    | succ fu4 ih4 =>
      intro j a hj ha hfu H locs ls hW hl
      refine lv_iload_n X.x X.b d_Cm_unseenThings_4 rfl (lv_at hl 0 rfl) ?_
      refine lv_aload_n X.x X.b d_Cm_unseenThings_5 rfl (lv_at hl 2 rfl) ?_
      refine g_geti X hW qj0 rfl _ (ds_cm hk) 4 (by decide) mw_109 rfl (r0 := k) (p0 := 1) rfl (v := ρ 1) (by rw [hρ]) d_Cm_unseenThings_6 ?_
      rw [hwf.t]
      refine lv_icmp_ge (tgt := 32) X.x X.b d_Cm_unseenThings_9 (by decide) (fun c9 => ?_) (fun c9 => ?_)
      · have c9 : (nT ρ) ≤ j := (nI_leI (a := (nT ρ)) (b := j) (by omega) (by omega)).mp c9
        refine lv_iload_n X.x X.b d_Cm_unseenThings_32 rfl (lv_at hl 1 rfl) ?_
        exact q_zret X rfl hW ⟨by rw [ha, show j = nT ρ by omega]; rfl, rfl⟩ d_Cm_unseenThings_33
      · have c9 : ¬ (nT ρ) ≤ j := fun z => c9 ((nI_leI (a := (nT ρ)) (b := j) (by omega) (by omega)).mpr z)
        refine lv_aload_n X.x X.b d_Cm_unseenThings_12 rfl (lv_at hl 2 rfl) ?_
        refine lv_iload_n X.x X.b d_Cm_unseenThings_13 rfl (lv_at hl 0 rfl) ?_
        refine q_cvi X (c_Cm_seersOf l E k hk S ρ (by rw [hρ]) hwf j (by omega)) hW (q_recv X hW (ds_cm hk) rfl) ok_Cm_seersOf mw_366 ⟨by decide, by decide⟩ (As := [.int (nI j)]) rfl rfl (Nat.le_of_ble_eq_true rfl) (lv := [(2, .int (nI j)), (1, .int a), (0, .ref (eA E (cB k)))]) hl ⟨Nat.le_refl 0, Nat.le_refl 0⟩ d_Cm_unseenThings_14 (fun H locs hW => ?_)
        refine lv_if_ne (tgt := 26) X.x X.b d_Cm_unseenThings_17 (by decide) (fun c17 => ?_) (fun c17 => ?_)
        · refine lv_iinc (v := nI (j + 1)) (lv' := [(2, .int (nI (j + 1))), (1, .int a), (0, .ref (eA E (cB k)))]) X.x X.b d_Cm_unseenThings_26 hl (k := 0) rfl (by rw [show Int32.ofInt 1 = nI 1 from by decide, nI_add]) (by decide) rfl (fun ls hl => ?_)
          refine lv_goto (tgt := 4) X.x X.b d_Cm_unseenThings_29 (by decide) ?_
          exact ih4 (j + 1) a (by omega) (by rw [fo_succ, ← ha]; first | exact (if_pos c17).symm | exact (if_neg c17).symm) (by omega) _ _ _ hW (lv_sub hl [0, 1, 2] rfl)
        · refine lv_iload_n X.x X.b d_Cm_unseenThings_20 rfl (lv_at hl 1 rfl) ?_
          refine lv_iconst (v := nI 1) X.x X.b d_Cm_unseenThings_21 (by decide) ?_
          refine lv_iload_n X.x X.b d_Cm_unseenThings_22 rfl (lv_at hl 0 rfl) ?_
          refine lv_ishl X.x X.b d_Cm_unseenThings_23 ?_
          refine lv_ior X.x X.b d_Cm_unseenThings_24 ?_
          refine lv_istore_n (lv' := [(1, .int (a ||| ((nI 1) <<< ((nI j) &&& 31)))), (2, .int (nI j)), (0, .ref (eA E (cB k)))]) X.x X.b d_Cm_unseenThings_25 rfl hl (by decide) rfl (fun ls hl => ?_)
          refine lv_iinc (v := nI (j + 1)) (lv' := [(2, .int (nI (j + 1))), (1, .int (a ||| ((nI 1) <<< ((nI j) &&& 31)))), (0, .ref (eA E (cB k)))]) X.x X.b d_Cm_unseenThings_26 hl (k := 1) rfl (by rw [show Int32.ofInt 1 = nI 1 from by decide, nI_add]) (by decide) rfl (fun ls hl => ?_)
          refine lv_goto (tgt := 4) X.x X.b d_Cm_unseenThings_29 (by decide) ?_
          exact ih4 (j + 1) (a ||| ((nI 1) <<< ((nI j) &&& 31))) (by omega) (by rw [fo_succ, ← ha]; first | exact (if_pos c17).symm | exact (if_neg c17).symm) (by omega) _ _ _ hW (lv_sub hl [0, 1, 2] rfl)
  exact loop4 (nT ρ - 0 + 1) 0 (nI 0) (by omega) rfl (Nat.lt_succ_self _) _ _ _ hW (lv_sub hl [0, 1, 2] rfl)
set_option maxHeartbeats 1000000 in
set_option maxRecDepth 20000 in
theorem c_Cm_heldSpots (l : Launch) (E : QE) (k : Nat) (hk : k < 3) (S : QM) (ρ : Nat → Int32) (hρ : S k = ρ) (hwf : WF ρ) : qCI E l y_Cm_heldSpots prog_2_method_21_code 3 .int 1 [.ref (eA E (cB k))] S (hldS ρ) S := by
  refine qCI_of (by decide) (Nat.le_of_ble_eq_true rfl) (fun p e s m below meth c ls X hW hl => ?_)
  have hl : lv_has ls 3 [(0, .ref (eA E (cB k)))] := hl
  have htl := hwf.tl
  have hwl := hwf.wl
  have hdl := hwf.dl
  refine lv_iconst (v := nI 0) X.x X.b d_Cm_heldSpots_0 (by decide) ?_
  refine lv_istore_n (lv' := [(1, .int (nI 0)), (0, .ref (eA E (cB k)))]) X.x X.b d_Cm_heldSpots_1 rfl hl (by decide) rfl (fun ls hl => ?_)
  refine lv_iconst (v := nI 0) X.x X.b d_Cm_heldSpots_2 (by decide) ?_
  refine lv_istore_n (lv' := [(2, .int (nI 0)), (1, .int (nI 0)), (0, .ref (eA E (cB k)))]) X.x X.b d_Cm_heldSpots_3 rfl hl (by decide) rfl (fun ls hl => ?_)
  have loop4 : ∀ (fu4 : Nat) (j : Nat) (a : Int32), j ≤ 10 → a = fo (fun i a => if ρ (10 + i) < 0 then a else a + 1) j (nI 0) → 10 - j < fu4 → ∀ (H : Heap) (locs : List Loc) (ls : Array Slot), qWH E S s H locs → lv_has ls 3 [(2, .int (nI j)), (1, .int a), (0, .ref (eA E (cB k)))] → W p l e (qRm 1) s m ([.ref (eA E (cB k))] : List Value).toArray below meth c H locs 0 0 (MQ below (qQi E (hldS ρ) S s.heap.size) ([.ref (eA E (cB k))] : List Value).toArray s 0 0 (qAA E s.heap.size)) (F0 m 4 ls []) := by
    intro fu4
    induction fu4 with
    | zero =>
      intro j a hj ha hfu
      exact absurd hfu (Nat.not_lt_zero _)
    | succ fu4 ih4 =>
      intro j a hj ha hfu H locs ls hW hl
      refine lv_iload_n X.x X.b d_Cm_heldSpots_4 rfl (lv_at hl 0 rfl) ?_
      refine lv_bipush (v := nI 10) X.x X.b d_Cm_heldSpots_5 (by decide) ?_
      refine lv_icmp_ge (tgt := 28) X.x X.b d_Cm_heldSpots_7 (by decide) (fun c7 => ?_) (fun c7 => ?_)
      · have c7 : 10 ≤ j := (nI_leI (a := 10) (b := j) (by omega) (by omega)).mp c7
        refine lv_iload_n X.x X.b d_Cm_heldSpots_28 rfl (lv_at hl 1 rfl) ?_
        exact q_zret X rfl hW ⟨by rw [ha, show j = 10 by omega]; rfl, rfl⟩ d_Cm_heldSpots_29
      · have c7 : ¬ 10 ≤ j := fun z => c7 ((nI_leI (a := 10) (b := j) (by omega) (by omega)).mpr z)
        refine lv_aload_n X.x X.b d_Cm_heldSpots_10 rfl (lv_at hl 2 rfl) ?_
        refine q_getr X hW qj0 rfl _ (ds_cm hk) 3 (by decide) mw_107 rfl (c1 := cB k + 4) rfl d_Cm_heldSpots_11 ?_
        refine lv_iload_n X.x X.b d_Cm_heldSpots_14 rfl (lv_at hl 0 rfl) ?_
        refine g_ald X hW (ds_sp hk) (q_in (by omega) (by decide)) (p0 := 10 + j) (q_tn (by omega) (by omega)) (v := ρ (10 + j)) (by rw [hρ]) d_Cm_heldSpots_15 ?_
        refine lv_if_lt (tgt := 22) X.x X.b d_Cm_heldSpots_16 (by decide) (fun c16 => ?_) (fun c16 => ?_)
        · refine lv_iinc (v := nI (j + 1)) (lv' := [(2, .int (nI (j + 1))), (1, .int a), (0, .ref (eA E (cB k)))]) X.x X.b d_Cm_heldSpots_22 hl (k := 0) rfl (by rw [show Int32.ofInt 1 = nI 1 from by decide, nI_add]) (by decide) rfl (fun ls hl => ?_)
          refine lv_goto (tgt := 4) X.x X.b d_Cm_heldSpots_25 (by decide) ?_
          exact ih4 (j + 1) a (by omega) (by rw [fo_succ, ← ha]; first | exact (if_pos c16).symm | exact (if_neg c16).symm) (by omega) _ _ _ hW (lv_sub hl [0, 1, 2] rfl)
        · refine lv_iinc (v := a + 1) (lv' := [(1, .int (a + 1)), (2, .int (nI j)), (0, .ref (eA E (cB k)))]) X.x X.b d_Cm_heldSpots_19 hl (k := 1) rfl (by rw [show Int32.ofInt (1) = 1 from by decide]) (by decide) rfl (fun ls hl => ?_)
          refine lv_iinc (v := nI (j + 1)) (lv' := [(2, .int (nI (j + 1))), (1, .int (a + 1)), (0, .ref (eA E (cB k)))]) X.x X.b d_Cm_heldSpots_22 hl (k := 1) rfl (by rw [show Int32.ofInt 1 = nI 1 from by decide, nI_add]) (by decide) rfl (fun ls hl => ?_)
          refine lv_goto (tgt := 4) X.x X.b d_Cm_heldSpots_25 (by decide) ?_
          exact ih4 (j + 1) (a + 1) (by omega) (by rw [fo_succ, ← ha]; first | exact (if_pos c16).symm | exact (if_neg c16).symm) (by omega) _ _ _ hW (lv_sub hl [0, 1, 2] rfl)
  exact loop4 (10 - 0 + 1) 0 (nI 0) (by omega) rfl (Nat.lt_succ_self _) _ _ _ hW (lv_sub hl [0, 1, 2] rfl)
