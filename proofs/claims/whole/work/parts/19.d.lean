theorem d_R_addItem_0 : decode prog_7_method_88_code 0 = .ok (.iconst 5, 1) := by decide +kernel
theorem d_R_addItem_1 : decode prog_7_method_88_code 1 = .ok (.aload_n 0, 1) := by decide +kernel
theorem d_R_addItem_2 : decode prog_7_method_88_code 2 = .ok (.getfield 288, 3) := by decide +kernel
theorem d_R_addItem_5 : decode prog_7_method_88_code 5 = .ok (.imul, 1) := by decide +kernel
theorem d_R_addItem_6 : decode prog_7_method_88_code 6 = .ok (.istore 6, 2) := by decide +kernel
theorem d_R_addItem_8 : decode prog_7_method_88_code 8 = .ok (.aload_n 0, 1) := by decide +kernel
theorem d_R_addItem_9 : decode prog_7_method_88_code 9 = .ok (.getfield 45, 3) := by decide +kernel
theorem d_R_addItem_12 : decode prog_7_method_88_code 12 = .ok (.iload 6, 2) := by decide +kernel
theorem d_R_addItem_14 : decode prog_7_method_88_code 14 = .ok (.iload_n 1, 1) := by decide +kernel
theorem d_R_addItem_15 : decode prog_7_method_88_code 15 = .ok (.iastore, 1) := by decide +kernel
theorem d_R_addItem_16 : decode prog_7_method_88_code 16 = .ok (.aload_n 0, 1) := by decide +kernel
theorem d_R_addItem_17 : decode prog_7_method_88_code 17 = .ok (.getfield 45, 3) := by decide +kernel
theorem d_R_addItem_20 : decode prog_7_method_88_code 20 = .ok (.iload 6, 2) := by decide +kernel
theorem d_R_addItem_22 : decode prog_7_method_88_code 22 = .ok (.iconst 1, 1) := by decide +kernel
theorem d_R_addItem_23 : decode prog_7_method_88_code 23 = .ok (.iadd, 1) := by decide +kernel
theorem d_R_addItem_24 : decode prog_7_method_88_code 24 = .ok (.iload_n 2, 1) := by decide +kernel
theorem d_R_addItem_25 : decode prog_7_method_88_code 25 = .ok (.iastore, 1) := by decide +kernel
theorem d_R_addItem_26 : decode prog_7_method_88_code 26 = .ok (.aload_n 0, 1) := by decide +kernel
theorem d_R_addItem_27 : decode prog_7_method_88_code 27 = .ok (.getfield 45, 3) := by decide +kernel
theorem d_R_addItem_30 : decode prog_7_method_88_code 30 = .ok (.iload 6, 2) := by decide +kernel
theorem d_R_addItem_32 : decode prog_7_method_88_code 32 = .ok (.iconst 2, 1) := by decide +kernel
theorem d_R_addItem_33 : decode prog_7_method_88_code 33 = .ok (.iadd, 1) := by decide +kernel
theorem d_R_addItem_34 : decode prog_7_method_88_code 34 = .ok (.iload_n 3, 1) := by decide +kernel
theorem d_R_addItem_35 : decode prog_7_method_88_code 35 = .ok (.iastore, 1) := by decide +kernel
theorem d_R_addItem_36 : decode prog_7_method_88_code 36 = .ok (.aload_n 0, 1) := by decide +kernel
theorem d_R_addItem_37 : decode prog_7_method_88_code 37 = .ok (.getfield 45, 3) := by decide +kernel
theorem d_R_addItem_40 : decode prog_7_method_88_code 40 = .ok (.iload 6, 2) := by decide +kernel
theorem d_R_addItem_42 : decode prog_7_method_88_code 42 = .ok (.iconst 3, 1) := by decide +kernel
theorem d_R_addItem_43 : decode prog_7_method_88_code 43 = .ok (.iadd, 1) := by decide +kernel
theorem d_R_addItem_44 : decode prog_7_method_88_code 44 = .ok (.iload 4, 2) := by decide +kernel
theorem d_R_addItem_46 : decode prog_7_method_88_code 46 = .ok (.iastore, 1) := by decide +kernel
theorem d_R_addItem_47 : decode prog_7_method_88_code 47 = .ok (.aload_n 0, 1) := by decide +kernel
theorem d_R_addItem_48 : decode prog_7_method_88_code 48 = .ok (.getfield 45, 3) := by decide +kernel
theorem d_R_addItem_51 : decode prog_7_method_88_code 51 = .ok (.iload 6, 2) := by decide +kernel
theorem d_R_addItem_53 : decode prog_7_method_88_code 53 = .ok (.iconst 4, 1) := by decide +kernel
theorem d_R_addItem_54 : decode prog_7_method_88_code 54 = .ok (.iadd, 1) := by decide +kernel
theorem d_R_addItem_55 : decode prog_7_method_88_code 55 = .ok (.iload 5, 2) := by decide +kernel
theorem d_R_addItem_57 : decode prog_7_method_88_code 57 = .ok (.iastore, 1) := by decide +kernel
theorem d_R_addItem_58 : decode prog_7_method_88_code 58 = .ok (.aload_n 0, 1) := by decide +kernel
theorem d_R_addItem_59 : decode prog_7_method_88_code 59 = .ok (.dup, 1) := by decide +kernel
theorem d_R_addItem_60 : decode prog_7_method_88_code 60 = .ok (.getfield 288, 3) := by decide +kernel
theorem d_R_addItem_63 : decode prog_7_method_88_code 63 = .ok (.iconst 1, 1) := by decide +kernel
theorem d_R_addItem_64 : decode prog_7_method_88_code 64 = .ok (.iadd, 1) := by decide +kernel
theorem d_R_addItem_65 : decode prog_7_method_88_code 65 = .ok (.putfield 288, 3) := by decide +kernel
theorem d_R_addItem_68 : decode prog_7_method_88_code 68 = .ok (.return_, 1) := by decide +kernel
theorem d_R_readThing_0 : decode prog_7_method_90_code 0 = .ok (.aload_n 0, 1) := by decide +kernel
theorem d_R_readThing_1 : decode prog_7_method_90_code 1 = .ok (.aload_n 0, 1) := by decide +kernel
theorem d_R_readThing_2 : decode prog_7_method_90_code 2 = .ok (.getfield 295, 3) := by decide +kernel
theorem d_R_readThing_5 : decode prog_7_method_90_code 5 = .ok (.bipush 8, 2) := by decide +kernel
theorem d_R_readThing_7 : decode prog_7_method_90_code 7 = .ok (.if_icmp .ge 7, 3) := by decide +kernel
theorem d_R_readThing_10 : decode prog_7_method_90_code 10 = .ok (.iconst 1, 1) := by decide +kernel
theorem d_R_readThing_11 : decode prog_7_method_90_code 11 = .ok (.goto 4, 3) := by decide +kernel
theorem d_R_readThing_14 : decode prog_7_method_90_code 14 = .ok (.iconst 0, 1) := by decide +kernel
theorem d_R_readThing_15 : decode prog_7_method_90_code 15 = .ok (.invokevirtual 284, 3) := by decide +kernel
theorem d_R_readThing_18 : decode prog_7_method_90_code 18 = .ok (.aload_n 0, 1) := by decide +kernel
theorem d_R_readThing_19 : decode prog_7_method_90_code 19 = .ok (.iload_n 1, 1) := by decide +kernel
theorem d_R_readThing_20 : decode prog_7_method_90_code 20 = .ok (.aload_n 0, 1) := by decide +kernel
theorem d_R_readThing_21 : decode prog_7_method_90_code 21 = .ok (.iconst 0, 1) := by decide +kernel
theorem d_R_readThing_22 : decode prog_7_method_90_code 22 = .ok (.bipush 15, 2) := by decide +kernel
theorem d_R_readThing_24 : decode prog_7_method_90_code 24 = .ok (.invokevirtual 298, 3) := by decide +kernel
theorem d_R_readThing_27 : decode prog_7_method_90_code 27 = .ok (.iconst 0, 1) := by decide +kernel
theorem d_R_readThing_28 : decode prog_7_method_90_code 28 = .ok (.iconst 0, 1) := by decide +kernel
theorem d_R_readThing_29 : decode prog_7_method_90_code 29 = .ok (.iconst 0, 1) := by decide +kernel
theorem d_R_readThing_30 : decode prog_7_method_90_code 30 = .ok (.invokevirtual 301, 3) := by decide +kernel
theorem d_R_readThing_33 : decode prog_7_method_90_code 33 = .ok (.aload_n 0, 1) := by decide +kernel
theorem d_R_readThing_34 : decode prog_7_method_90_code 34 = .ok (.dup, 1) := by decide +kernel
theorem d_R_readThing_35 : decode prog_7_method_90_code 35 = .ok (.getfield 295, 3) := by decide +kernel
theorem d_R_readThing_38 : decode prog_7_method_90_code 38 = .ok (.iconst 1, 1) := by decide +kernel
theorem d_R_readThing_39 : decode prog_7_method_90_code 39 = .ok (.iadd, 1) := by decide +kernel
theorem d_R_readThing_40 : decode prog_7_method_90_code 40 = .ok (.putfield 295, 3) := by decide +kernel
theorem d_R_readThing_43 : decode prog_7_method_90_code 43 = .ok (.return_, 1) := by decide +kernel
theorem d_R_readWalker_0 : decode prog_7_method_91_code 0 = .ok (.aload_n 0, 1) := by decide +kernel
theorem d_R_readWalker_1 : decode prog_7_method_91_code 1 = .ok (.aload_n 0, 1) := by decide +kernel
theorem d_R_readWalker_2 : decode prog_7_method_91_code 2 = .ok (.getfield 305, 3) := by decide +kernel
theorem d_R_readWalker_5 : decode prog_7_method_91_code 5 = .ok (.bipush 6, 2) := by decide +kernel
theorem d_R_readWalker_7 : decode prog_7_method_91_code 7 = .ok (.if_icmp .ge 7, 3) := by decide +kernel
theorem d_R_readWalker_10 : decode prog_7_method_91_code 10 = .ok (.iconst 1, 1) := by decide +kernel
theorem d_R_readWalker_11 : decode prog_7_method_91_code 11 = .ok (.goto 4, 3) := by decide +kernel
theorem d_R_readWalker_14 : decode prog_7_method_91_code 14 = .ok (.iconst 0, 1) := by decide +kernel
theorem d_R_readWalker_15 : decode prog_7_method_91_code 15 = .ok (.invokevirtual 284, 3) := by decide +kernel
theorem d_R_readWalker_18 : decode prog_7_method_91_code 18 = .ok (.aload_n 0, 1) := by decide +kernel
theorem d_R_readWalker_19 : decode prog_7_method_91_code 19 = .ok (.iconst 0, 1) := by decide +kernel
theorem d_R_readWalker_20 : decode prog_7_method_91_code 20 = .ok (.bipush 15, 2) := by decide +kernel
theorem d_R_readWalker_22 : decode prog_7_method_91_code 22 = .ok (.invokevirtual 298, 3) := by decide +kernel
theorem d_R_readWalker_25 : decode prog_7_method_91_code 25 = .ok (.istore_n 1, 1) := by decide +kernel
theorem d_R_readWalker_26 : decode prog_7_method_91_code 26 = .ok (.aload_n 0, 1) := by decide +kernel
theorem d_R_readWalker_27 : decode prog_7_method_91_code 27 = .ok (.iconst 0, 1) := by decide +kernel
theorem d_R_readWalker_28 : decode prog_7_method_91_code 28 = .ok (.bipush 7, 2) := by decide +kernel
theorem d_R_readWalker_30 : decode prog_7_method_91_code 30 = .ok (.invokevirtual 298, 3) := by decide +kernel
theorem d_R_readWalker_33 : decode prog_7_method_91_code 33 = .ok (.istore_n 2, 1) := by decide +kernel
theorem d_R_readWalker_34 : decode prog_7_method_91_code 34 = .ok (.aload_n 0, 1) := by decide +kernel
theorem d_R_readWalker_35 : decode prog_7_method_91_code 35 = .ok (.ldc_w 308, 3) := by decide +kernel
theorem d_R_readWalker_38 : decode prog_7_method_91_code 38 = .ok (.invokevirtual 310, 3) := by decide +kernel
theorem d_R_readWalker_41 : decode prog_7_method_91_code 41 = .ok (.ifCond .eq 12, 3) := by decide +kernel
theorem d_R_readWalker_44 : decode prog_7_method_91_code 44 = .ok (.aload_n 0, 1) := by decide +kernel
theorem d_R_readWalker_45 : decode prog_7_method_91_code 45 = .ok (.iconst 1, 1) := by decide +kernel
theorem d_R_readWalker_46 : decode prog_7_method_91_code 46 = .ok (.iconst 5, 1) := by decide +kernel
theorem d_R_readWalker_47 : decode prog_7_method_91_code 47 = .ok (.invokevirtual 298, 3) := by decide +kernel
theorem d_R_readWalker_50 : decode prog_7_method_91_code 50 = .ok (.goto 4, 3) := by decide +kernel
theorem d_R_readWalker_53 : decode prog_7_method_91_code 53 = .ok (.iconst 2, 1) := by decide +kernel
theorem d_R_readWalker_54 : decode prog_7_method_91_code 54 = .ok (.istore_n 3, 1) := by decide +kernel
theorem d_R_readWalker_55 : decode prog_7_method_91_code 55 = .ok (.aload_n 0, 1) := by decide +kernel
theorem d_R_readWalker_56 : decode prog_7_method_91_code 56 = .ok (.bipush 10, 2) := by decide +kernel
theorem d_R_readWalker_58 : decode prog_7_method_91_code 58 = .ok (.iload_n 1, 1) := by decide +kernel
theorem d_R_readWalker_59 : decode prog_7_method_91_code 59 = .ok (.iload_n 2, 1) := by decide +kernel
theorem d_R_readWalker_60 : decode prog_7_method_91_code 60 = .ok (.iload_n 3, 1) := by decide +kernel
theorem d_R_readWalker_61 : decode prog_7_method_91_code 61 = .ok (.aload_n 0, 1) := by decide +kernel
theorem d_R_readWalker_62 : decode prog_7_method_91_code 62 = .ok (.ldc_w 313, 3) := by decide +kernel
theorem d_R_readWalker_65 : decode prog_7_method_91_code 65 = .ok (.invokevirtual 310, 3) := by decide +kernel
theorem d_R_readWalker_68 : decode prog_7_method_91_code 68 = .ok (.ifCond .eq 14, 3) := by decide +kernel
theorem d_R_readWalker_71 : decode prog_7_method_91_code 71 = .ok (.aload_n 0, 1) := by decide +kernel
theorem d_R_readWalker_72 : decode prog_7_method_91_code 72 = .ok (.iconst 0, 1) := by decide +kernel
theorem d_R_readWalker_73 : decode prog_7_method_91_code 73 = .ok (.sipush 255, 3) := by decide +kernel
theorem d_R_readWalker_76 : decode prog_7_method_91_code 76 = .ok (.invokevirtual 298, 3) := by decide +kernel
theorem d_R_readWalker_79 : decode prog_7_method_91_code 79 = .ok (.goto 4, 3) := by decide +kernel
theorem d_R_readWalker_82 : decode prog_7_method_91_code 82 = .ok (.iconst 0, 1) := by decide +kernel
theorem d_R_readWalker_83 : decode prog_7_method_91_code 83 = .ok (.invokevirtual 301, 3) := by decide +kernel
theorem d_R_readWalker_86 : decode prog_7_method_91_code 86 = .ok (.aload_n 0, 1) := by decide +kernel
theorem d_R_readWalker_87 : decode prog_7_method_91_code 87 = .ok (.dup, 1) := by decide +kernel
theorem d_R_readWalker_88 : decode prog_7_method_91_code 88 = .ok (.getfield 305, 3) := by decide +kernel
theorem d_R_readWalker_91 : decode prog_7_method_91_code 91 = .ok (.iconst 1, 1) := by decide +kernel
theorem d_R_readWalker_92 : decode prog_7_method_91_code 92 = .ok (.iadd, 1) := by decide +kernel
theorem d_R_readWalker_93 : decode prog_7_method_91_code 93 = .ok (.putfield 305, 3) := by decide +kernel
theorem d_R_readWalker_96 : decode prog_7_method_91_code 96 = .ok (.return_, 1) := by decide +kernel
theorem d_R_readItem_0 : decode prog_7_method_92_code 0 = .ok (.iconst (-1), 1) := by decide +kernel
theorem d_R_readItem_1 : decode prog_7_method_92_code 1 = .ok (.istore_n 1, 1) := by decide +kernel
theorem d_R_readItem_2 : decode prog_7_method_92_code 2 = .ok (.iconst 0, 1) := by decide +kernel
theorem d_R_readItem_3 : decode prog_7_method_92_code 3 = .ok (.istore_n 2, 1) := by decide +kernel
theorem d_R_readItem_4 : decode prog_7_method_92_code 4 = .ok (.iload_n 2, 1) := by decide +kernel
theorem d_R_readItem_5 : decode prog_7_method_92_code 5 = .ok (.aload_n 0, 1) := by decide +kernel
theorem d_R_readItem_6 : decode prog_7_method_92_code 6 = .ok (.getfield 41, 3) := by decide +kernel
theorem d_R_readItem_9 : decode prog_7_method_92_code 9 = .ok (.arraylength, 1) := by decide +kernel
theorem d_R_readItem_10 : decode prog_7_method_92_code 10 = .ok (.if_icmp .ge 28, 3) := by decide +kernel
theorem d_R_readItem_13 : decode prog_7_method_92_code 13 = .ok (.aload_n 0, 1) := by decide +kernel
theorem d_R_readItem_14 : decode prog_7_method_92_code 14 = .ok (.aload_n 0, 1) := by decide +kernel
theorem d_R_readItem_15 : decode prog_7_method_92_code 15 = .ok (.getfield 41, 3) := by decide +kernel
theorem d_R_readItem_18 : decode prog_7_method_92_code 18 = .ok (.iload_n 2, 1) := by decide +kernel
theorem d_R_readItem_19 : decode prog_7_method_92_code 19 = .ok (.aaload, 1) := by decide +kernel
theorem d_R_readItem_20 : decode prog_7_method_92_code 20 = .ok (.invokevirtual 291, 3) := by decide +kernel
theorem d_R_readItem_23 : decode prog_7_method_92_code 23 = .ok (.ifCond .eq 7, 3) := by decide +kernel
theorem d_R_readItem_26 : decode prog_7_method_92_code 26 = .ok (.iload_n 2, 1) := by decide +kernel
theorem d_R_readItem_27 : decode prog_7_method_92_code 27 = .ok (.goto 4, 3) := by decide +kernel
theorem d_R_readItem_30 : decode prog_7_method_92_code 30 = .ok (.iload_n 1, 1) := by decide +kernel
theorem d_R_readItem_31 : decode prog_7_method_92_code 31 = .ok (.istore_n 1, 1) := by decide +kernel
theorem d_R_readItem_32 : decode prog_7_method_92_code 32 = .ok (.iinc 2 1, 3) := by decide +kernel
theorem d_R_readItem_35 : decode prog_7_method_92_code 35 = .ok (.goto (-31), 3) := by decide +kernel
theorem d_R_readItem_38 : decode prog_7_method_92_code 38 = .ok (.iload_n 1, 1) := by decide +kernel
theorem d_R_readItem_39 : decode prog_7_method_92_code 39 = .ok (.ifCond .lt 11, 3) := by decide +kernel
theorem d_R_readItem_42 : decode prog_7_method_92_code 42 = .ok (.aload_n 0, 1) := by decide +kernel
theorem d_R_readItem_43 : decode prog_7_method_92_code 43 = .ok (.iload_n 1, 1) := by decide +kernel
theorem d_R_readItem_44 : decode prog_7_method_92_code 44 = .ok (.invokevirtual 314, 3) := by decide +kernel
theorem d_R_readItem_47 : decode prog_7_method_92_code 47 = .ok (.goto 68, 3) := by decide +kernel
theorem d_R_readItem_115 : decode prog_7_method_92_code 115 = .ok (.return_, 1) := by decide +kernel
theorem d_R_readItem_50 : decode prog_7_method_92_code 50 = .ok (.aload_n 0, 1) := by decide +kernel
theorem d_R_readItem_51 : decode prog_7_method_92_code 51 = .ok (.ldc_w 317, 3) := by decide +kernel
theorem d_R_readItem_54 : decode prog_7_method_92_code 54 = .ok (.invokevirtual 291, 3) := by decide +kernel
theorem d_R_readItem_57 : decode prog_7_method_92_code 57 = .ok (.ifCond .eq 10, 3) := by decide +kernel
theorem d_R_readItem_60 : decode prog_7_method_92_code 60 = .ok (.aload_n 0, 1) := by decide +kernel
theorem d_R_readItem_61 : decode prog_7_method_92_code 61 = .ok (.invokevirtual 319, 3) := by decide +kernel
theorem d_R_readItem_64 : decode prog_7_method_92_code 64 = .ok (.goto 51, 3) := by decide +kernel
theorem d_R_readItem_67 : decode prog_7_method_92_code 67 = .ok (.aload_n 0, 1) := by decide +kernel
theorem d_R_readItem_68 : decode prog_7_method_92_code 68 = .ok (.ldc_w 322, 3) := by decide +kernel
theorem d_R_readItem_71 : decode prog_7_method_92_code 71 = .ok (.invokevirtual 310, 3) := by decide +kernel
theorem d_R_readItem_74 : decode prog_7_method_92_code 74 = .ok (.ifCond .eq 36, 3) := by decide +kernel
theorem d_R_readItem_77 : decode prog_7_method_92_code 77 = .ok (.aload_n 0, 1) := by decide +kernel
theorem d_R_readItem_78 : decode prog_7_method_92_code 78 = .ok (.iconst 0, 1) := by decide +kernel
theorem d_R_readItem_79 : decode prog_7_method_92_code 79 = .ok (.iconst 5, 1) := by decide +kernel
theorem d_R_readItem_80 : decode prog_7_method_92_code 80 = .ok (.invokevirtual 298, 3) := by decide +kernel
theorem d_R_readItem_83 : decode prog_7_method_92_code 83 = .ok (.istore_n 2, 1) := by decide +kernel
theorem d_R_readItem_84 : decode prog_7_method_92_code 84 = .ok (.aload_n 0, 1) := by decide +kernel
theorem d_R_readItem_85 : decode prog_7_method_92_code 85 = .ok (.iconst 0, 1) := by decide +kernel
theorem d_R_readItem_86 : decode prog_7_method_92_code 86 = .ok (.iconst 5, 1) := by decide +kernel
theorem d_R_readItem_87 : decode prog_7_method_92_code 87 = .ok (.invokevirtual 298, 3) := by decide +kernel
theorem d_R_readItem_90 : decode prog_7_method_92_code 90 = .ok (.istore_n 3, 1) := by decide +kernel
theorem d_R_readItem_91 : decode prog_7_method_92_code 91 = .ok (.aload_n 0, 1) := by decide +kernel
theorem d_R_readItem_92 : decode prog_7_method_92_code 92 = .ok (.bipush 11, 2) := by decide +kernel
theorem d_R_readItem_94 : decode prog_7_method_92_code 94 = .ok (.iload_n 2, 1) := by decide +kernel
theorem d_R_readItem_95 : decode prog_7_method_92_code 95 = .ok (.iload_n 3, 1) := by decide +kernel
theorem d_R_readItem_96 : decode prog_7_method_92_code 96 = .ok (.aload_n 0, 1) := by decide +kernel
theorem d_R_readItem_97 : decode prog_7_method_92_code 97 = .ok (.iconst 0, 1) := by decide +kernel
theorem d_R_readItem_98 : decode prog_7_method_92_code 98 = .ok (.bipush 7, 2) := by decide +kernel
theorem d_R_readItem_100 : decode prog_7_method_92_code 100 = .ok (.invokevirtual 298, 3) := by decide +kernel
theorem d_R_readItem_103 : decode prog_7_method_92_code 103 = .ok (.iconst 0, 1) := by decide +kernel
theorem d_R_readItem_104 : decode prog_7_method_92_code 104 = .ok (.invokevirtual 301, 3) := by decide +kernel
theorem d_R_readItem_107 : decode prog_7_method_92_code 107 = .ok (.goto 8, 3) := by decide +kernel
theorem d_R_readItem_110 : decode prog_7_method_92_code 110 = .ok (.aload_n 0, 1) := by decide +kernel
theorem d_R_readItem_111 : decode prog_7_method_92_code 111 = .ok (.iconst 0, 1) := by decide +kernel
theorem d_R_readItem_112 : decode prog_7_method_92_code 112 = .ok (.invokevirtual 284, 3) := by decide +kernel
set_option maxHeartbeats 1000000 in
set_option maxRecDepth 20000 in
theorem c_R_addItem (l : Launch) (E : QE) (S : QM) (υ ι : Nat → Int32) (hυ : S 15 = υ) (hι : S 21 = ι) (mi : Nat) (kυ_14 : υ 14 = nI mi) (hmi : mi ≤ 119) (x0 x1 x2 x3 x4 : Int32) : qCPv E l y_R_addItem prog_7_method_88_code 7 1 [.ref (eA E 70), .int x0, .int x1, .int x2, .int x3, .int x4] S (fun u => ∃ τ, τ 14 = nI (mi + 1) ∧ (∀ q, ¬ q = 14 → τ q = υ q) ∧ u = qr (qr S 21 (itm ι mi x0 x1 x2 x3 x4)) 15 τ) := by
  refine qCPv_of (by decide) (Nat.le_of_ble_eq_true rfl) (fun p e s m below meth c ls X hW hl => ?_)
  have hl : lv_has ls 7 [(0, .ref (eA E 70)), (1, .int x0), (2, .int x1), (3, .int x2), (4, .int x3), (5, .int x4)] := hl
  refine lv_iconst (v := nI 5) X.x X.b d_R_addItem_0 (by decide) ?_
  refine lv_aload_n X.x X.b d_R_addItem_1 rfl (lv_at hl 0 rfl) ?_
  refine g_geti X hW qj4 rfl _ ds_R 14 (by decide) mw_700 rfl (r0 := 15) (p0 := 14) rfl (v := υ 14) (by rw [hυ]) d_R_addItem_2 ?_
  rw [kυ_14]
  refine lv_imul X.x X.b d_R_addItem_5 ?_
  rw [pk_mul]
  refine lv_istore (lv' := [(6, .int (nI (5 * mi))), (0, .ref (eA E 70)), (1, .int x0), (2, .int x1), (3, .int x2), (4, .int x3), (5, .int x4)]) X.x X.b d_R_addItem_6 hl (by decide) rfl (fun ls hl => ?_)
  refine lv_aload_n X.x X.b d_R_addItem_8 rfl (lv_at hl 1 rfl) ?_
  refine q_getr X hW qj4 rfl _ ds_R 13 (by decide) mw_699 rfl (c1 := 77) rfl d_R_addItem_9 ?_
  refine lv_iload X.x X.b d_R_addItem_12 (lv_at hl 0 rfl) ?_
  refine lv_iload_n X.x X.b d_R_addItem_14 rfl (lv_at hl 2 rfl) ?_
  refine g_ast X hW ds_77 (q_in (by omega) (by decide)) (p0 := 5 * mi) (q_tn (by omega) (by omega)) (ρ := ι) (by rw [hι]) d_R_addItem_15 (fun H locs hW => ?_)
  obtain ⟨r15, er15⟩ : ∃ z, z = upd ι (5 * mi) x0 := ⟨_, rfl⟩
  rw [← er15] at hW
  refine lv_aload_n X.x X.b d_R_addItem_16 rfl (lv_at hl 1 rfl) ?_
  refine q_getr X hW qj4 rfl _ ds_R 13 (by decide) mw_699 rfl (c1 := 77) rfl d_R_addItem_17 ?_
  refine lv_iload X.x X.b d_R_addItem_20 (lv_at hl 0 rfl) ?_
  refine lv_iconst (v := nI 1) X.x X.b d_R_addItem_22 (by decide) ?_
  refine lv_iadd X.x X.b d_R_addItem_23 ?_
  rw [nI_add]
  refine lv_iload_n X.x X.b d_R_addItem_24 rfl (lv_at hl 3 rfl) ?_
  refine g_ast X hW ds_77 (q_in (by omega) (by decide)) (p0 := 5 * mi + 1) (q_tn (by omega) (by omega)) (ρ := r15) (by rw [qr_at]) d_R_addItem_25 (fun H locs hW => ?_)
  obtain ⟨r25, er25⟩ : ∃ z, z = upd r15 (5 * mi + 1) x1 := ⟨_, rfl⟩
  rw [← er25] at hW
  rw [qr_qr] at hW
  refine lv_aload_n X.x X.b d_R_addItem_26 rfl (lv_at hl 1 rfl) ?_
  refine q_getr X hW qj4 rfl _ ds_R 13 (by decide) mw_699 rfl (c1 := 77) rfl d_R_addItem_27 ?_
  refine lv_iload X.x X.b d_R_addItem_30 (lv_at hl 0 rfl) ?_
  refine lv_iconst (v := nI 2) X.x X.b d_R_addItem_32 (by decide) ?_
  refine lv_iadd X.x X.b d_R_addItem_33 ?_
  rw [nI_add]
  refine lv_iload_n X.x X.b d_R_addItem_34 rfl (lv_at hl 4 rfl) ?_
  refine g_ast X hW ds_77 (q_in (by omega) (by decide)) (p0 := 5 * mi + 2) (q_tn (by omega) (by omega)) (ρ := r25) (by rw [qr_at]) d_R_addItem_35 (fun H locs hW => ?_)
  obtain ⟨r35, er35⟩ : ∃ z, z = upd r25 (5 * mi + 2) x2 := ⟨_, rfl⟩
  rw [← er35] at hW
  rw [qr_qr] at hW
  refine lv_aload_n X.x X.b d_R_addItem_36 rfl (lv_at hl 1 rfl) ?_
  refine q_getr X hW qj4 rfl _ ds_R 13 (by decide) mw_699 rfl (c1 := 77) rfl d_R_addItem_37 ?_
  refine lv_iload X.x X.b d_R_addItem_40 (lv_at hl 0 rfl) ?_
  refine lv_iconst (v := nI 3) X.x X.b d_R_addItem_42 (by decide) ?_
  refine lv_iadd X.x X.b d_R_addItem_43 ?_
  rw [nI_add]
  refine lv_iload X.x X.b d_R_addItem_44 (lv_at hl 5 rfl) ?_
  refine g_ast X hW ds_77 (q_in (by omega) (by decide)) (p0 := 5 * mi + 3) (q_tn (by omega) (by omega)) (ρ := r35) (by rw [qr_at]) d_R_addItem_46 (fun H locs hW => ?_)
  obtain ⟨r46, er46⟩ : ∃ z, z = upd r35 (5 * mi + 3) x3 := ⟨_, rfl⟩
  rw [← er46] at hW
  rw [qr_qr] at hW
  refine lv_aload_n X.x X.b d_R_addItem_47 rfl (lv_at hl 1 rfl) ?_
  refine q_getr X hW qj4 rfl _ ds_R 13 (by decide) mw_699 rfl (c1 := 77) rfl d_R_addItem_48 ?_
  refine lv_iload X.x X.b d_R_addItem_51 (lv_at hl 0 rfl) ?_
  refine lv_iconst (v := nI 4) X.x X.b d_R_addItem_53 (by decide) ?_
  refine lv_iadd X.x X.b d_R_addItem_54 ?_
  rw [nI_add]
  refine lv_iload X.x X.b d_R_addItem_55 (lv_at hl 6 rfl) ?_
  refine g_ast X hW ds_77 (q_in (by omega) (by decide)) (p0 := 5 * mi + 4) (q_tn (by omega) (by omega)) (ρ := r46) (by rw [qr_at]) d_R_addItem_57 (fun H locs hW => ?_)
  obtain ⟨r57, er57⟩ : ∃ z, z = upd r46 (5 * mi + 4) x4 := ⟨_, rfl⟩
  rw [← er57] at hW
  rw [qr_qr] at hW
  refine lv_aload_n X.x X.b d_R_addItem_58 rfl (lv_at hl 1 rfl) ?_
  refine lv_dup X.x X.b d_R_addItem_59 rfl ?_
  refine g_geti X hW qj4 rfl _ ds_R 14 (by decide) mw_700 rfl (r0 := 15) (p0 := 14) rfl (v := υ 14) (by rw [qr_ne (by omega), hυ]) d_R_addItem_60 ?_
  rw [kυ_14]
  refine lv_iconst (v := nI 1) X.x X.b d_R_addItem_63 (by decide) ?_
  refine lv_iadd X.x X.b d_R_addItem_64 ?_
  rw [nI_add]
  refine g_puti X hW qj4 qp4 qn4 rfl _ ds_R 14 (by decide) mw_700 rfl rfl (r0 := 15) (p0 := 14) rfl rfl rfl (ρ := υ) (by rw [qr_ne (by omega), hυ]) d_R_addItem_65 (fun H locs hW => ?_)
  obtain ⟨r65, er65⟩ : ∃ z, z = upd υ 14 (nI (mi + 1)) := ⟨_, rfl⟩
  rw [← er65] at hW
  have kr65_14 : r65 14 = nI (mi + 1) := by rw [er65, upd_at]
  exact q_pvret X hW ⟨r65, kr65_14, fun q hq => by rw [er65, upN hq], by rw [er57, er46, er35, er25, er15]; rfl⟩ d_R_addItem_68
set_option maxHeartbeats 1000000 in
set_option maxRecDepth 20000 in
theorem c_R_readThing (l : Launch) (E : QE) (S : QM) (υ ξ ι ρ : Nat → Int32) (hυ : S 15 = υ) (hξ : S 20 = ξ) (hι : S 21 = ι) (hwf : WF ρ) (len n : Nat) (kp : Int32) (mi : Nat) (hk : stK ξ len n kp (nI 0) mi (nT ρ) (nW ρ) υ) (hn : n ≤ len) (hlen : len ≤ 120) (h0 : ∀ i, i < len → 0 ≤ ξ i) (hmi : mi ≤ 119) (k : Nat) (hk6 : k ≤ 6) : qCPv E l y_R_readThing prog_7_method_90_code 2 5 [.ref (eA E 70), .int (nI k)] S (itP S ξ len mi kp ι ρ (rThi ξ len k n ρ)) := by
  refine qCPv_of (by decide) (Nat.le_of_ble_eq_true rfl) (fun p e s m below meth c ls X hW hl => ?_)
  have hl : lv_has ls 2 [(0, .ref (eA E 70)), (1, .int (nI k))] := hl
  have hW : qWH E (qr (qr S 21 ι) 15 υ) s s.heap [] := by rw [show qr (qr S 21 ι) 15 υ = S from by rw [← hι, qr_self, ← hυ, qr_self]]; exact hW
  obtain ⟨kυ_3, kυ_6, kυ_7, kυ_8, kυ_9, kυ_10, kυ_11, kυ_14, kυ_15, kυ_16⟩ := id hk
  have hb1 := tN_n (σ := ξ) (len := len) (n := n) (by omega)
  have hb2 := tN_le (σ := ξ) (len := len) (n := n) (by omega)
  have hb3 := kR_le (σ := ξ) (len := len) (n := n)
  have htl := hwf.tl
  have hwl := hwf.wl
  have hdl := hwf.dl
  refine lv_aload_n X.x X.b d_R_readThing_0 rfl (lv_at hl 0 rfl) ?_
  refine lv_aload_n X.x X.b d_R_readThing_1 rfl (lv_at hl 0 rfl) ?_
  refine g_geti X hW qj4 rfl _ ds_R 15 (by decide) mw_701 rfl (r0 := 15) (p0 := 15) rfl (v := υ 15) (by rw [qr_at]) d_R_readThing_2 ?_
  rw [kυ_15]
  refine lv_bipush (v := nI 8) X.x X.b d_R_readThing_5 (by decide) ?_
  refine lv_icmp_ge (tgt := 14) X.x X.b d_R_readThing_7 (by decide) (fun c7 => ?_) (fun c7 => ?_)
  · have c7 : 8 ≤ (nT ρ) := (nI_leI (a := 8) (b := (nT ρ)) (by omega) (by omega)).mp c7
    refine lv_iconst (v := nI 0) X.x X.b d_R_readThing_14 (by decide) ?_
    refine q_cvvp X (c_R_must_f l E (qr (qr S 21 ι) 15 υ) υ ξ (by rw [qr_at]) (by rw [qr_ne (by omega), qr_ne (by omega), hξ]) len n kp mi (nT ρ) (nW ρ) hk (by omega) hlen h0) hW (q_recv X hW ds_R rfl) ok_R_must mw_1100 ⟨by decide, by decide⟩ (As := [.int (nI 0)]) rfl rfl (Nat.le_of_ble_eq_true rfl) (lv := [(0, .ref (eA E 70)), (1, .int (nI k))]) hl ⟨Nat.le_refl 0, Nat.le_refl 0⟩ d_R_readThing_15 (fun H locs Sq15 hP15 hW => ?_)
    obtain ⟨τ15, hτ15, rfl⟩ := hP15
    have hW : qWH E (qr (qr S 21 ι) 15 τ15) s H locs := (by have h := hW; rw [qr_qr] at h; exact h)
    obtain ⟨kτ15_3, kτ15_6, kτ15_7, kτ15_8, kτ15_9, kτ15_10, kτ15_11, kτ15_14, kτ15_15, kτ15_16⟩ := id hτ15
    have bτ15 := tN_n (σ := ξ) (len := len) (n := n) (by omega)
    have dτ15 := tN_le (σ := ξ) (len := len) (n := n) (by omega)
    have eτ15 := kR_le (σ := ξ) (len := len) (n := n)
    refine lv_aload_n X.x X.b d_R_readThing_18 rfl (lv_at hl 0 rfl) ?_
    refine lv_iload_n X.x X.b d_R_readThing_19 rfl (lv_at hl 1 rfl) ?_
    refine lv_aload_n X.x X.b d_R_readThing_20 rfl (lv_at hl 0 rfl) ?_
    refine lv_iconst (v := nI 0) X.x X.b d_R_readThing_21 (by decide) ?_
    refine lv_bipush (v := nI 15) X.x X.b d_R_readThing_22 (by decide) ?_
    refine q_cvip X (c_R_number_w l E (qr (qr S 21 ι) 15 τ15) τ15 ξ (by rw [qr_at]) (by rw [qr_ne (by omega), qr_ne (by omega), hξ]) len n kp mi (nT ρ) (nW ρ) hτ15 (by omega) hlen h0 0 15) hW (q_recv X hW ds_R rfl) ok_R_number mw_1104 ⟨by decide, by decide⟩ (As := [.int (nI 0), .int (nI 15)]) rfl rfl (Nat.le_of_ble_eq_true rfl) (lv := [(0, .ref (eA E 70)), (1, .int (nI k))]) hl ⟨Nat.le_refl 0, Nat.le_refl 0⟩ d_R_readThing_24 (fun H locs Sq24 hP24 hW => ?_)
    obtain ⟨τ24, hτ24, rfl⟩ := hP24
    have hW : qWH E (qr (qr S 21 ι) 15 τ24) s H locs := (by have h := hW; rw [qr_qr] at h; exact h)
    obtain ⟨kτ24_3, kτ24_6, kτ24_7, kτ24_8, kτ24_9, kτ24_10, kτ24_11, kτ24_14, kτ24_15, kτ24_16⟩ := id hτ24
    have bτ24 := tN_n (σ := ξ) (len := len) (n := n) (by omega)
    have dτ24 := tN_le (σ := ξ) (len := len) (n := n) (by omega)
    have eτ24 := kR_le (σ := ξ) (len := len) (n := n)
    refine lv_iconst (v := nI 0) X.x X.b d_R_readThing_27 (by decide) ?_
    refine lv_iconst (v := nI 0) X.x X.b d_R_readThing_28 (by decide) ?_
    refine lv_iconst (v := nI 0) X.x X.b d_R_readThing_29 (by decide) ?_
    refine q_cvvp X (c_R_addItem l E (qr (qr S 21 ι) 15 τ24) τ24 ι (by rw [qr_at]) (by rw [qr_ne (by omega), qr_at]) mi kτ24_14 (by omega) (nI k) (tV ξ len n) (nI 0) (nI 0) (nI 0)) hW (q_recv X hW ds_R rfl) ok_R_addItem mw_1108 ⟨by decide, by decide⟩ (As := [.int (nI k), .int (tV ξ len n), .int (nI 0), .int (nI 0), .int (nI 0)]) rfl rfl (Nat.le_of_ble_eq_true rfl) (lv := [(0, .ref (eA E 70)), (1, .int (nI k))]) hl ⟨Nat.le_refl 0, Nat.le_refl 0⟩ d_R_readThing_30 (fun H locs Sq30 hP30 hW => ?_)
    obtain ⟨τ30, hτ30a, hτ30b, rfl⟩ := hP30
    have hW : qWH E (qr (qr S 21 (itm ι mi (nI k) (tV ξ len n) (nI 0) (nI 0) (nI 0))) 15 τ30) s H locs := (by have h := hW; rw [qr_in (by omega), qr_in (by omega)] at h; exact h)
    have kτ30_3 : τ30 3 = kp := by rw [hτ30b _ (by decide)]; exact kτ24_3
    have kτ30_6 : τ30 6 = nI len := by rw [hτ30b _ (by decide)]; exact kτ24_6
    have kτ30_7 : τ30 7 = nI (tS ξ len n) := by rw [hτ30b _ (by decide)]; exact kτ24_7
    have kτ30_8 : τ30 8 = nI (tN ξ len n) := by rw [hτ30b _ (by decide)]; exact kτ24_8
    have kτ30_9 : τ30 9 = nI (kR (tK ξ len n)) := by rw [hτ30b _ (by decide)]; exact kτ24_9
    have kτ30_10 : τ30 10 = tV ξ len n := by rw [hτ30b _ (by decide)]; exact kτ24_10
    have kτ30_11 : τ30 11 = nI 1 := by rw [hτ30b _ (by decide)]; exact kτ24_11
    have kτ30_14 := hτ30a
    have kτ30_15 : τ30 15 = nI (nT ρ) := by rw [hτ30b _ (by decide)]; exact kτ24_15
    have kτ30_16 : τ30 16 = nI (nW ρ) := by rw [hτ30b _ (by decide)]; exact kτ24_16
    refine lv_aload_n X.x X.b d_R_readThing_33 rfl (lv_at hl 0 rfl) ?_
    refine lv_dup X.x X.b d_R_readThing_34 rfl ?_
    refine g_geti X hW qj4 rfl _ ds_R 15 (by decide) mw_701 rfl (r0 := 15) (p0 := 15) rfl (v := τ30 15) (by rw [qr_at]) d_R_readThing_35 ?_
    rw [kτ30_15]
    refine lv_iconst (v := nI 1) X.x X.b d_R_readThing_38 (by decide) ?_
    refine lv_iadd X.x X.b d_R_readThing_39 ?_
    rw [nI_add]
    refine g_puti X hW qj4 qp4 qn4 rfl _ ds_R 15 (by decide) mw_701 rfl rfl (r0 := 15) (p0 := 15) rfl rfl rfl (ρ := τ30) (by rw [qr_at]) d_R_readThing_40 (fun H locs hW => ?_)
    obtain ⟨r40, er40⟩ : ∃ z, z = upd τ30 15 (nI ((nT ρ) + 1)) := ⟨_, rfl⟩
    rw [← er40] at hW
    have kr40_10 : r40 10 = tV ξ len n := by rw [er40, upN (by omega)]; exact kτ30_10
    have kr40_11 : r40 11 = nI 1 := by rw [er40, upN (by omega)]; exact kτ30_11
    have kr40_14 : r40 14 = nI (mi + 1) := by rw [er40, upN (by omega)]; exact kτ30_14
    have kr40_15 : r40 15 = nI ((nT ρ) + 1) := by rw [er40, upd_at]
    have kr40_16 : r40 16 = nI (nW ρ) := by rw [er40, upN (by omega)]; exact kτ30_16
    have kr40_3 : r40 3 = kp := by rw [er40, upN (by omega)]; exact kτ30_3
    have kr40_6 : r40 6 = nI len := by rw [er40, upN (by omega)]; exact kτ30_6
    have kr40_7 : r40 7 = nI (tS ξ len n) := by rw [er40, upN (by omega)]; exact kτ30_7
    have kr40_8 : r40 8 = nI (tN ξ len n) := by rw [er40, upN (by omega)]; exact kτ30_8
    have kr40_9 : r40 9 = nI (kR (tK ξ len n)) := by rw [er40, upN (by omega)]; exact kτ30_9
    rw [qr_qr] at hW
    have eR : rThi ξ len k n ρ = (false, (n, ρ)) := by rw [rThi, if_pos (by omega)]
    exact q_pvret X hW ⟨r40, _, _, _, _, by rw [eR]; exact ⟨kr40_3, kr40_6, kr40_7, kr40_8, kr40_9, kr40_10, kr40_11, kr40_14, kr40_15, kr40_16⟩, fun z => absurd z (by rw [eR]; exact Bool.false_ne_true), rfl⟩ d_R_readThing_43
  · have c7 : ¬ 8 ≤ (nT ρ) := fun z => c7 ((nI_leI (a := 8) (b := (nT ρ)) (by omega) (by omega)).mpr z)
    refine lv_iconst (v := nI 1) X.x X.b d_R_readThing_10 (by decide) ?_
    refine lv_goto (tgt := 15) X.x X.b d_R_readThing_11 (by decide) ?_
    refine q_cvvp X (c_R_must_t l E (qr (qr S 21 ι) 15 υ) υ ξ (by rw [qr_at]) (by rw [qr_ne (by omega), qr_ne (by omega), hξ]) len n kp mi (nT ρ) (nW ρ) hk (by omega) hlen h0) hW (q_recv X hW ds_R rfl) ok_R_must mw_1100 ⟨by decide, by decide⟩ (As := [.int (nI 1)]) rfl rfl (Nat.le_of_ble_eq_true rfl) (lv := [(0, .ref (eA E 70)), (1, .int (nI k))]) hl ⟨Nat.le_refl 0, Nat.le_refl 0⟩ d_R_readThing_15 (fun H locs Sq15 hP15 hW => ?_)
    obtain ⟨τ15, hτ15, rfl⟩ := hP15
    have hW : qWH E (qr (qr S 21 ι) 15 τ15) s H locs := (by have h := hW; rw [qr_qr] at h; exact h)
    obtain ⟨kτ15_3, kτ15_6, kτ15_7, kτ15_8, kτ15_9, kτ15_10, kτ15_11, kτ15_14, kτ15_15, kτ15_16⟩ := id hτ15
    have bτ15 := tN_n (σ := ξ) (len := len) (n := tN ξ len n) (by omega)
    have dτ15 := tN_le (σ := ξ) (len := len) (n := tN ξ len n) (by omega)
    have eτ15 := kR_le (σ := ξ) (len := len) (n := tN ξ len n)
    refine lv_aload_n X.x X.b d_R_readThing_18 rfl (lv_at hl 0 rfl) ?_
    refine lv_iload_n X.x X.b d_R_readThing_19 rfl (lv_at hl 1 rfl) ?_
    refine lv_aload_n X.x X.b d_R_readThing_20 rfl (lv_at hl 0 rfl) ?_
    refine lv_iconst (v := nI 0) X.x X.b d_R_readThing_21 (by decide) ?_
    refine lv_bipush (v := nI 15) X.x X.b d_R_readThing_22 (by decide) ?_
    by_cases hs24 : num ξ len (tN ξ len n) 0 15
    · refine q_cvip X (c_R_number_t l E (qr (qr S 21 ι) 15 τ15) τ15 ξ (by rw [qr_at]) (by rw [qr_ne (by omega), qr_ne (by omega), hξ]) len (tN ξ len n) kp mi (nT ρ) (nW ρ) hτ15 (by omega) hlen h0 0 15 hs24) hW (q_recv X hW ds_R rfl) ok_R_number mw_1104 ⟨by decide, by decide⟩ (As := [.int (nI 0), .int (nI 15)]) rfl rfl (Nat.le_of_ble_eq_true rfl) (lv := [(0, .ref (eA E 70)), (1, .int (nI k))]) hl ⟨Nat.le_refl 0, Nat.le_refl 0⟩ d_R_readThing_24 (fun H locs Sq24 hP24 hW => ?_)
      obtain ⟨τ24, hτ24, rfl⟩ := hP24
      have hW : qWH E (qr (qr S 21 ι) 15 τ24) s H locs := (by have h := hW; rw [qr_qr] at h; exact h)
      obtain ⟨kτ24_3, kτ24_6, kτ24_7, kτ24_8, kτ24_9, kτ24_10, kτ24_11, kτ24_14, kτ24_15, kτ24_16⟩ := id hτ24
      have bτ24 := tN_n (σ := ξ) (len := len) (n := tN ξ len (tN ξ len n)) (by omega)
      have dτ24 := tN_le (σ := ξ) (len := len) (n := tN ξ len (tN ξ len n)) (by omega)
      have eτ24 := kR_le (σ := ξ) (len := len) (n := tN ξ len (tN ξ len n))
      refine lv_iconst (v := nI 0) X.x X.b d_R_readThing_27 (by decide) ?_
      refine lv_iconst (v := nI 0) X.x X.b d_R_readThing_28 (by decide) ?_
      refine lv_iconst (v := nI 0) X.x X.b d_R_readThing_29 (by decide) ?_
      refine q_cvvp X (c_R_addItem l E (qr (qr S 21 ι) 15 τ24) τ24 ι (by rw [qr_at]) (by rw [qr_ne (by omega), qr_at]) mi kτ24_14 (by omega) (nI k) (tV ξ len (tN ξ len n)) (nI 0) (nI 0) (nI 0)) hW (q_recv X hW ds_R rfl) ok_R_addItem mw_1108 ⟨by decide, by decide⟩ (As := [.int (nI k), .int (tV ξ len (tN ξ len n)), .int (nI 0), .int (nI 0), .int (nI 0)]) rfl rfl (Nat.le_of_ble_eq_true rfl) (lv := [(0, .ref (eA E 70)), (1, .int (nI k))]) hl ⟨Nat.le_refl 0, Nat.le_refl 0⟩ d_R_readThing_30 (fun H locs Sq30 hP30 hW => ?_)
      obtain ⟨τ30, hτ30a, hτ30b, rfl⟩ := hP30
      have hW : qWH E (qr (qr S 21 (itm ι mi (nI k) (tV ξ len (tN ξ len n)) (nI 0) (nI 0) (nI 0))) 15 τ30) s H locs := (by have h := hW; rw [qr_in (by omega), qr_in (by omega)] at h; exact h)
      have kτ30_3 : τ30 3 = kp := by rw [hτ30b _ (by decide)]; exact kτ24_3
      have kτ30_6 : τ30 6 = nI len := by rw [hτ30b _ (by decide)]; exact kτ24_6
      have kτ30_7 : τ30 7 = nI (tS ξ len (tN ξ len (tN ξ len n))) := by rw [hτ30b _ (by decide)]; exact kτ24_7
      have kτ30_8 : τ30 8 = nI (tN ξ len (tN ξ len (tN ξ len n))) := by rw [hτ30b _ (by decide)]; exact kτ24_8
      have kτ30_9 : τ30 9 = nI (kR (tK ξ len (tN ξ len (tN ξ len n)))) := by rw [hτ30b _ (by decide)]; exact kτ24_9
      have kτ30_10 : τ30 10 = tV ξ len (tN ξ len (tN ξ len n)) := by rw [hτ30b _ (by decide)]; exact kτ24_10
      have kτ30_11 : τ30 11 = nI 0 := by rw [hτ30b _ (by decide)]; exact kτ24_11
      have kτ30_14 := hτ30a
      have kτ30_15 : τ30 15 = nI (nT ρ) := by rw [hτ30b _ (by decide)]; exact kτ24_15
      have kτ30_16 : τ30 16 = nI (nW ρ) := by rw [hτ30b _ (by decide)]; exact kτ24_16
      refine lv_aload_n X.x X.b d_R_readThing_33 rfl (lv_at hl 0 rfl) ?_
      refine lv_dup X.x X.b d_R_readThing_34 rfl ?_
      refine g_geti X hW qj4 rfl _ ds_R 15 (by decide) mw_701 rfl (r0 := 15) (p0 := 15) rfl (v := τ30 15) (by rw [qr_at]) d_R_readThing_35 ?_
      rw [kτ30_15]
      refine lv_iconst (v := nI 1) X.x X.b d_R_readThing_38 (by decide) ?_
      refine lv_iadd X.x X.b d_R_readThing_39 ?_
      rw [nI_add]
      refine g_puti X hW qj4 qp4 qn4 rfl _ ds_R 15 (by decide) mw_701 rfl rfl (r0 := 15) (p0 := 15) rfl rfl rfl (ρ := τ30) (by rw [qr_at]) d_R_readThing_40 (fun H locs hW => ?_)
      obtain ⟨r40, er40⟩ : ∃ z, z = upd τ30 15 (nI ((nT ρ) + 1)) := ⟨_, rfl⟩
      rw [← er40] at hW
      have kr40_10 : r40 10 = tV ξ len (tN ξ len (tN ξ len n)) := by rw [er40, upN (by omega)]; exact kτ30_10
      have kr40_11 : r40 11 = nI 0 := by rw [er40, upN (by omega)]; exact kτ30_11
      have kr40_14 : r40 14 = nI (mi + 1) := by rw [er40, upN (by omega)]; exact kτ30_14
      have kr40_15 : r40 15 = nI ((nT ρ) + 1) := by rw [er40, upd_at]
      have kr40_16 : r40 16 = nI (nW ρ) := by rw [er40, upN (by omega)]; exact kτ30_16
      have kr40_3 : r40 3 = kp := by rw [er40, upN (by omega)]; exact kτ30_3
      have kr40_6 : r40 6 = nI len := by rw [er40, upN (by omega)]; exact kτ30_6
      have kr40_7 : r40 7 = nI (tS ξ len (tN ξ len (tN ξ len n))) := by rw [er40, upN (by omega)]; exact kτ30_7
      have kr40_8 : r40 8 = nI (tN ξ len (tN ξ len (tN ξ len n))) := by rw [er40, upN (by omega)]; exact kτ30_8
      have kr40_9 : r40 9 = nI (kR (tK ξ len (tN ξ len (tN ξ len n)))) := by rw [er40, upN (by omega)]; exact kτ30_9
      rw [qr_qr] at hW
      have eR : rThi ξ len k n ρ = (true, (tN ξ len (tN ξ len n), addT ρ (nI k) (tV ξ len (tN ξ len n)))) := by rw [rThi, if_neg (fun z => z (by omega)), if_neg (fun z => z hs24)]
      have e1 := addT_n (kd := nI k) (cl := tV ξ len (tN ξ len n)) hwf (by omega)
      exact q_pvret X hW ⟨r40, _, _, _, _, by rw [eR]; exact ⟨kr40_3, kr40_6, kr40_7, kr40_8, kr40_9, kr40_10, kr40_11, kr40_14, kr40_15, kr40_16⟩, fun _ => by rw [eR]; exact ⟨rfl, e1.1.symm, e1.2.1.symm, (it_thing hk6 (by omega)).1, (it_thing hk6 (by omega)).2, fun q hq => itm_lo hq⟩, rfl⟩ d_R_readThing_43
    · refine q_cvip X (c_R_number_f l E (qr (qr S 21 ι) 15 τ15) τ15 ξ (by rw [qr_at]) (by rw [qr_ne (by omega), qr_ne (by omega), hξ]) len (tN ξ len n) kp mi (nT ρ) (nW ρ) hτ15 (by omega) hlen h0 0 15 hs24) hW (q_recv X hW ds_R rfl) ok_R_number mw_1104 ⟨by decide, by decide⟩ (As := [.int (nI 0), .int (nI 15)]) rfl rfl (Nat.le_of_ble_eq_true rfl) (lv := [(0, .ref (eA E 70)), (1, .int (nI k))]) hl ⟨Nat.le_refl 0, Nat.le_refl 0⟩ d_R_readThing_24 (fun H locs Sq24 hP24 hW => ?_)
      obtain ⟨τ24, hτ24, rfl⟩ := hP24
      have hW : qWH E (qr (qr S 21 ι) 15 τ24) s H locs := (by have h := hW; rw [qr_qr] at h; exact h)
      obtain ⟨kτ24_3, kτ24_6, kτ24_7, kτ24_8, kτ24_9, kτ24_10, kτ24_11, kτ24_14, kτ24_15, kτ24_16⟩ := id hτ24
      have bτ24 := tN_n (σ := ξ) (len := len) (n := (tN ξ len n)) (by omega)
      have dτ24 := tN_le (σ := ξ) (len := len) (n := (tN ξ len n)) (by omega)
      have eτ24 := kR_le (σ := ξ) (len := len) (n := (tN ξ len n))
      refine lv_iconst (v := nI 0) X.x X.b d_R_readThing_27 (by decide) ?_
      refine lv_iconst (v := nI 0) X.x X.b d_R_readThing_28 (by decide) ?_
      refine lv_iconst (v := nI 0) X.x X.b d_R_readThing_29 (by decide) ?_
      refine q_cvvp X (c_R_addItem l E (qr (qr S 21 ι) 15 τ24) τ24 ι (by rw [qr_at]) (by rw [qr_ne (by omega), qr_at]) mi kτ24_14 (by omega) (nI k) (tV ξ len (tN ξ len n)) (nI 0) (nI 0) (nI 0)) hW (q_recv X hW ds_R rfl) ok_R_addItem mw_1108 ⟨by decide, by decide⟩ (As := [.int (nI k), .int (tV ξ len (tN ξ len n)), .int (nI 0), .int (nI 0), .int (nI 0)]) rfl rfl (Nat.le_of_ble_eq_true rfl) (lv := [(0, .ref (eA E 70)), (1, .int (nI k))]) hl ⟨Nat.le_refl 0, Nat.le_refl 0⟩ d_R_readThing_30 (fun H locs Sq30 hP30 hW => ?_)
      obtain ⟨τ30, hτ30a, hτ30b, rfl⟩ := hP30
      have hW : qWH E (qr (qr S 21 (itm ι mi (nI k) (tV ξ len (tN ξ len n)) (nI 0) (nI 0) (nI 0))) 15 τ30) s H locs := (by have h := hW; rw [qr_in (by omega), qr_in (by omega)] at h; exact h)
      have kτ30_3 : τ30 3 = kp := by rw [hτ30b _ (by decide)]; exact kτ24_3
      have kτ30_6 : τ30 6 = nI len := by rw [hτ30b _ (by decide)]; exact kτ24_6
      have kτ30_7 : τ30 7 = nI (tS ξ len (tN ξ len n)) := by rw [hτ30b _ (by decide)]; exact kτ24_7
      have kτ30_8 : τ30 8 = nI (tN ξ len (tN ξ len n)) := by rw [hτ30b _ (by decide)]; exact kτ24_8
      have kτ30_9 : τ30 9 = nI (kR (tK ξ len (tN ξ len n))) := by rw [hτ30b _ (by decide)]; exact kτ24_9
      have kτ30_10 : τ30 10 = tV ξ len (tN ξ len n) := by rw [hτ30b _ (by decide)]; exact kτ24_10
      have kτ30_11 : τ30 11 = nI 1 := by rw [hτ30b _ (by decide)]; exact kτ24_11
      have kτ30_14 := hτ30a
      have kτ30_15 : τ30 15 = nI (nT ρ) := by rw [hτ30b _ (by decide)]; exact kτ24_15
      have kτ30_16 : τ30 16 = nI (nW ρ) := by rw [hτ30b _ (by decide)]; exact kτ24_16
      refine lv_aload_n X.x X.b d_R_readThing_33 rfl (lv_at hl 0 rfl) ?_
      refine lv_dup X.x X.b d_R_readThing_34 rfl ?_
      refine g_geti X hW qj4 rfl _ ds_R 15 (by decide) mw_701 rfl (r0 := 15) (p0 := 15) rfl (v := τ30 15) (by rw [qr_at]) d_R_readThing_35 ?_
      rw [kτ30_15]
      refine lv_iconst (v := nI 1) X.x X.b d_R_readThing_38 (by decide) ?_
      refine lv_iadd X.x X.b d_R_readThing_39 ?_
      rw [nI_add]
      refine g_puti X hW qj4 qp4 qn4 rfl _ ds_R 15 (by decide) mw_701 rfl rfl (r0 := 15) (p0 := 15) rfl rfl rfl (ρ := τ30) (by rw [qr_at]) d_R_readThing_40 (fun H locs hW => ?_)
      obtain ⟨r40, er40⟩ : ∃ z, z = upd τ30 15 (nI ((nT ρ) + 1)) := ⟨_, rfl⟩
      rw [← er40] at hW
      have kr40_10 : r40 10 = tV ξ len (tN ξ len n) := by rw [er40, upN (by omega)]; exact kτ30_10
      have kr40_11 : r40 11 = nI 1 := by rw [er40, upN (by omega)]; exact kτ30_11
      have kr40_14 : r40 14 = nI (mi + 1) := by rw [er40, upN (by omega)]; exact kτ30_14
      have kr40_15 : r40 15 = nI ((nT ρ) + 1) := by rw [er40, upd_at]
      have kr40_16 : r40 16 = nI (nW ρ) := by rw [er40, upN (by omega)]; exact kτ30_16
      have kr40_3 : r40 3 = kp := by rw [er40, upN (by omega)]; exact kτ30_3
      have kr40_6 : r40 6 = nI len := by rw [er40, upN (by omega)]; exact kτ30_6
      have kr40_7 : r40 7 = nI (tS ξ len (tN ξ len n)) := by rw [er40, upN (by omega)]; exact kτ30_7
      have kr40_8 : r40 8 = nI (tN ξ len (tN ξ len n)) := by rw [er40, upN (by omega)]; exact kτ30_8
      have kr40_9 : r40 9 = nI (kR (tK ξ len (tN ξ len n))) := by rw [er40, upN (by omega)]; exact kτ30_9
      rw [qr_qr] at hW
      have eR : rThi ξ len k n ρ = (false, (tN ξ len n, ρ)) := by rw [rThi, if_neg (fun z => z (by omega)), if_pos hs24]
      exact q_pvret X hW ⟨r40, _, _, _, _, by rw [eR]; exact ⟨kr40_3, kr40_6, kr40_7, kr40_8, kr40_9, kr40_10, kr40_11, kr40_14, kr40_15, kr40_16⟩, fun z => absurd z (by rw [eR]; exact Bool.false_ne_true), rfl⟩ d_R_readThing_43
set_option maxHeartbeats 1000000 in
set_option maxRecDepth 20000 in
theorem c_R_readWalker (l : Launch) (E : QE) (S : QM) (υ ξ ι ρ : Nat → Int32) (hυ : S 15 = υ) (hξ : S 20 = ξ) (hι : S 21 = ι) (hwf : WF ρ) (len n : Nat) (kp : Int32) (mi : Nat) (hk : stK ξ len n kp (nI 0) mi (nT ρ) (nW ρ) υ) (hn : n ≤ len) (hlen : len ≤ 120) (h0 : ∀ i, i < len → 0 ≤ ξ i) (hmi : mi ≤ 119) : qCPv E l y_R_readWalker prog_7_method_91_code 4 7 [.ref (eA E 70)] S (itP S ξ len mi kp ι ρ (rWal ξ len n ρ)) := by
  refine qCPv_of (by decide) (Nat.le_of_ble_eq_true rfl) (fun p e s m below meth c ls X hW hl => ?_)
  have hl : lv_has ls 4 [(0, .ref (eA E 70))] := hl
  have hW : qWH E (qr (qr S 21 ι) 15 υ) s s.heap [] := by rw [show qr (qr S 21 ι) 15 υ = S from by rw [← hι, qr_self, ← hυ, qr_self]]; exact hW
  obtain ⟨kυ_3, kυ_6, kυ_7, kυ_8, kυ_9, kυ_10, kυ_11, kυ_14, kυ_15, kυ_16⟩ := id hk
  have hb1 := tN_n (σ := ξ) (len := len) (n := n) (by omega)
  have hb2 := tN_le (σ := ξ) (len := len) (n := n) (by omega)
  have hb3 := kR_le (σ := ξ) (len := len) (n := n)
  have htl := hwf.tl
  have hwl := hwf.wl
  have hdl := hwf.dl
  refine lv_aload_n X.x X.b d_R_readWalker_0 rfl (lv_at hl 0 rfl) ?_
  refine lv_aload_n X.x X.b d_R_readWalker_1 rfl (lv_at hl 0 rfl) ?_
  refine g_geti X hW qj4 rfl _ ds_R 16 (by decide) mw_702 rfl (r0 := 15) (p0 := 16) rfl (v := υ 16) (by rw [qr_at]) d_R_readWalker_2 ?_
  rw [kυ_16]
  refine lv_bipush (v := nI 6) X.x X.b d_R_readWalker_5 (by decide) ?_
  refine lv_icmp_ge (tgt := 14) X.x X.b d_R_readWalker_7 (by decide) (fun c7 => ?_) (fun c7 => ?_)
  · have c7 : 6 ≤ (nW ρ) := (nI_leI (a := 6) (b := (nW ρ)) (by omega) (by omega)).mp c7
    refine lv_iconst (v := nI 0) X.x X.b d_R_readWalker_14 (by decide) ?_
    refine q_cvvp X (c_R_must_f l E (qr (qr S 21 ι) 15 υ) υ ξ (by rw [qr_at]) (by rw [qr_ne (by omega), qr_ne (by omega), hξ]) len n kp mi (nT ρ) (nW ρ) hk (by omega) hlen h0) hW (q_recv X hW ds_R rfl) ok_R_must mw_1100 ⟨by decide, by decide⟩ (As := [.int (nI 0)]) rfl rfl (Nat.le_of_ble_eq_true rfl) (lv := [(0, .ref (eA E 70))]) hl ⟨Nat.le_refl 0, Nat.le_refl 0⟩ d_R_readWalker_15 (fun H locs Sq15 hP15 hW => ?_)
    obtain ⟨τ15, hτ15, rfl⟩ := hP15
    have hW : qWH E (qr (qr S 21 ι) 15 τ15) s H locs := (by have h := hW; rw [qr_qr] at h; exact h)
    obtain ⟨kτ15_3, kτ15_6, kτ15_7, kτ15_8, kτ15_9, kτ15_10, kτ15_11, kτ15_14, kτ15_15, kτ15_16⟩ := id hτ15
    have bτ15 := tN_n (σ := ξ) (len := len) (n := n) (by omega)
    have dτ15 := tN_le (σ := ξ) (len := len) (n := n) (by omega)
    have eτ15 := kR_le (σ := ξ) (len := len) (n := n)
    refine lv_aload_n X.x X.b d_R_readWalker_18 rfl (lv_at hl 0 rfl) ?_
    refine lv_iconst (v := nI 0) X.x X.b d_R_readWalker_19 (by decide) ?_
    refine lv_bipush (v := nI 15) X.x X.b d_R_readWalker_20 (by decide) ?_
    refine q_cvip X (c_R_number_w l E (qr (qr S 21 ι) 15 τ15) τ15 ξ (by rw [qr_at]) (by rw [qr_ne (by omega), qr_ne (by omega), hξ]) len n kp mi (nT ρ) (nW ρ) hτ15 (by omega) hlen h0 0 15) hW (q_recv X hW ds_R rfl) ok_R_number mw_1104 ⟨by decide, by decide⟩ (As := [.int (nI 0), .int (nI 15)]) rfl rfl (Nat.le_of_ble_eq_true rfl) (lv := [(0, .ref (eA E 70))]) hl ⟨Nat.le_refl 0, Nat.le_refl 0⟩ d_R_readWalker_22 (fun H locs Sq22 hP22 hW => ?_)
    obtain ⟨τ22, hτ22, rfl⟩ := hP22
    have hW : qWH E (qr (qr S 21 ι) 15 τ22) s H locs := (by have h := hW; rw [qr_qr] at h; exact h)
    obtain ⟨kτ22_3, kτ22_6, kτ22_7, kτ22_8, kτ22_9, kτ22_10, kτ22_11, kτ22_14, kτ22_15, kτ22_16⟩ := id hτ22
    have bτ22 := tN_n (σ := ξ) (len := len) (n := n) (by omega)
    have dτ22 := tN_le (σ := ξ) (len := len) (n := n) (by omega)
    have eτ22 := kR_le (σ := ξ) (len := len) (n := n)
    refine lv_istore_n (lv' := [(1, .int (tV ξ len n)), (0, .ref (eA E 70))]) X.x X.b d_R_readWalker_25 rfl hl (by decide) rfl (fun ls hl => ?_)
    refine lv_aload_n X.x X.b d_R_readWalker_26 rfl (lv_at hl 1 rfl) ?_
    refine lv_iconst (v := nI 0) X.x X.b d_R_readWalker_27 (by decide) ?_
    refine lv_bipush (v := nI 7) X.x X.b d_R_readWalker_28 (by decide) ?_
    refine q_cvip X (c_R_number_w l E (qr (qr S 21 ι) 15 τ22) τ22 ξ (by rw [qr_at]) (by rw [qr_ne (by omega), qr_ne (by omega), hξ]) len n kp mi (nT ρ) (nW ρ) hτ22 (by omega) hlen h0 0 7) hW (q_recv X hW ds_R rfl) ok_R_number mw_1104 ⟨by decide, by decide⟩ (As := [.int (nI 0), .int (nI 7)]) rfl rfl (Nat.le_of_ble_eq_true rfl) (lv := [(1, .int (tV ξ len n)), (0, .ref (eA E 70))]) hl ⟨Nat.le_refl 0, Nat.le_refl 0⟩ d_R_readWalker_30 (fun H locs Sq30 hP30 hW => ?_)
    obtain ⟨τ30, hτ30, rfl⟩ := hP30
    have hW : qWH E (qr (qr S 21 ι) 15 τ30) s H locs := (by have h := hW; rw [qr_qr] at h; exact h)
    obtain ⟨kτ30_3, kτ30_6, kτ30_7, kτ30_8, kτ30_9, kτ30_10, kτ30_11, kτ30_14, kτ30_15, kτ30_16⟩ := id hτ30
    have bτ30 := tN_n (σ := ξ) (len := len) (n := n) (by omega)
    have dτ30 := tN_le (σ := ξ) (len := len) (n := n) (by omega)
    have eτ30 := kR_le (σ := ξ) (len := len) (n := n)
    refine lv_istore_n (lv' := [(2, .int (tV ξ len n)), (1, .int (tV ξ len n)), (0, .ref (eA E 70))]) X.x X.b d_R_readWalker_33 rfl hl (by decide) rfl (fun ls hl => ?_)
    refine lv_aload_n X.x X.b d_R_readWalker_34 rfl (lv_at hl 2 rfl) ?_
    refine q_ldcsW X (tx := "pace") (i := 8) (by decide) d_R_readWalker_35 ?_
    refine q_cvip X (c_R_takesWord_w l E (qr (qr S 21 ι) 15 τ30) τ30 ξ (by rw [qr_at]) (by rw [qr_ne (by omega), qr_ne (by omega), hξ]) len n kp mi (nT ρ) (nW ρ) hτ30 (by omega) hlen h0 8 (by omega)) hW (q_recv X hW ds_R rfl) ok_R_takesWord mw_1118 ⟨by decide, by decide⟩ (As := [.ref (eK E 8)]) rfl rfl (Nat.le_of_ble_eq_true rfl) (lv := [(2, .int (tV ξ len n)), (1, .int (tV ξ len n)), (0, .ref (eA E 70))]) hl ⟨Nat.le_refl 0, Nat.le_refl 0⟩ d_R_readWalker_38 (fun H locs Sq38 hP38 hW => ?_)
    obtain ⟨τ38, hτ38, rfl⟩ := hP38
    have hW : qWH E (qr (qr S 21 ι) 15 τ38) s H locs := (by have h := hW; rw [qr_qr] at h; exact h)
    obtain ⟨kτ38_3, kτ38_6, kτ38_7, kτ38_8, kτ38_9, kτ38_10, kτ38_11, kτ38_14, kτ38_15, kτ38_16⟩ := id hτ38
    have bτ38 := tN_n (σ := ξ) (len := len) (n := n) (by omega)
    have dτ38 := tN_le (σ := ξ) (len := len) (n := n) (by omega)
    have eτ38 := kR_le (σ := ξ) (len := len) (n := n)
    refine lv_if_eq (tgt := 53) X.x X.b d_R_readWalker_41 (by decide) (fun c41 => ?_) (fun c41 => ?_)
    · have c41 : 0 = 0 := (nI_eq (a := 0) (b := 0) (by omega) (by omega)).mp c41
      refine lv_iconst (v := nI 2) X.x X.b d_R_readWalker_53 (by decide) ?_
      refine lv_istore_n (lv' := [(3, .int (nI 2)), (2, .int (tV ξ len n)), (1, .int (tV ξ len n)), (0, .ref (eA E 70))]) X.x X.b d_R_readWalker_54 rfl hl (by decide) rfl (fun ls hl => ?_)
      refine lv_aload_n X.x X.b d_R_readWalker_55 rfl (lv_at hl 3 rfl) ?_
      refine lv_bipush (v := nI 10) X.x X.b d_R_readWalker_56 (by decide) ?_
      refine lv_iload_n X.x X.b d_R_readWalker_58 rfl (lv_at hl 2 rfl) ?_
      refine lv_iload_n X.x X.b d_R_readWalker_59 rfl (lv_at hl 1 rfl) ?_
      refine lv_iload_n X.x X.b d_R_readWalker_60 rfl (lv_at hl 0 rfl) ?_
      refine lv_aload_n X.x X.b d_R_readWalker_61 rfl (lv_at hl 3 rfl) ?_
      refine q_ldcsW X (tx := "cares") (i := 9) (by decide) d_R_readWalker_62 ?_
      refine q_cvip X (c_R_takesWord_w l E (qr (qr S 21 ι) 15 τ38) τ38 ξ (by rw [qr_at]) (by rw [qr_ne (by omega), qr_ne (by omega), hξ]) len n kp mi (nT ρ) (nW ρ) hτ38 (by omega) hlen h0 9 (by omega)) hW (q_recv X hW ds_R rfl) ok_R_takesWord mw_1118 ⟨by decide, by decide⟩ (As := [.ref (eK E 9)]) rfl rfl (Nat.le_of_ble_eq_true rfl) (lv := [(3, .int (nI 2)), (2, .int (tV ξ len n)), (1, .int (tV ξ len n)), (0, .ref (eA E 70))]) hl ⟨Nat.le_refl 0, Nat.le_refl 0⟩ d_R_readWalker_65 (fun H locs Sq65 hP65 hW => ?_)
      obtain ⟨τ65, hτ65, rfl⟩ := hP65
      have hW : qWH E (qr (qr S 21 ι) 15 τ65) s H locs := (by have h := hW; rw [qr_qr] at h; exact h)
      obtain ⟨kτ65_3, kτ65_6, kτ65_7, kτ65_8, kτ65_9, kτ65_10, kτ65_11, kτ65_14, kτ65_15, kτ65_16⟩ := id hτ65
      have bτ65 := tN_n (σ := ξ) (len := len) (n := n) (by omega)
      have dτ65 := tN_le (σ := ξ) (len := len) (n := n) (by omega)
      have eτ65 := kR_le (σ := ξ) (len := len) (n := n)
      refine lv_if_eq (tgt := 82) X.x X.b d_R_readWalker_68 (by decide) (fun c68 => ?_) (fun c68 => ?_)
      · have c68 : 0 = 0 := (nI_eq (a := 0) (b := 0) (by omega) (by omega)).mp c68
        refine lv_iconst (v := nI 0) X.x X.b d_R_readWalker_82 (by decide) ?_
        refine q_cvvp X (c_R_addItem l E (qr (qr S 21 ι) 15 τ65) τ65 ι (by rw [qr_at]) (by rw [qr_ne (by omega), qr_at]) mi kτ65_14 (by omega) (nI 10) (tV ξ len n) (tV ξ len n) (nI 2) (nI 0)) hW (q_recv X hW ds_R rfl) ok_R_addItem mw_1108 ⟨by decide, by decide⟩ (As := [.int (nI 10), .int (tV ξ len n), .int (tV ξ len n), .int (nI 2), .int (nI 0)]) rfl rfl (Nat.le_of_ble_eq_true rfl) (lv := [(3, .int (nI 2)), (2, .int (tV ξ len n)), (1, .int (tV ξ len n)), (0, .ref (eA E 70))]) hl ⟨Nat.le_refl 0, Nat.le_refl 0⟩ d_R_readWalker_83 (fun H locs Sq83 hP83 hW => ?_)
        obtain ⟨τ83, hτ83a, hτ83b, rfl⟩ := hP83
        have hW : qWH E (qr (qr S 21 (itm ι mi (nI 10) (tV ξ len n) (tV ξ len n) (nI 2) (nI 0))) 15 τ83) s H locs := (by have h := hW; rw [qr_in (by omega), qr_in (by omega)] at h; exact h)
        have kτ83_3 : τ83 3 = kp := by rw [hτ83b _ (by decide)]; exact kτ65_3
        have kτ83_6 : τ83 6 = nI len := by rw [hτ83b _ (by decide)]; exact kτ65_6
        have kτ83_7 : τ83 7 = nI (tS ξ len n) := by rw [hτ83b _ (by decide)]; exact kτ65_7
        have kτ83_8 : τ83 8 = nI (tN ξ len n) := by rw [hτ83b _ (by decide)]; exact kτ65_8
        have kτ83_9 : τ83 9 = nI (kR (tK ξ len n)) := by rw [hτ83b _ (by decide)]; exact kτ65_9
        have kτ83_10 : τ83 10 = tV ξ len n := by rw [hτ83b _ (by decide)]; exact kτ65_10
        have kτ83_11 : τ83 11 = nI 1 := by rw [hτ83b _ (by decide)]; exact kτ65_11
        have kτ83_14 := hτ83a
        have kτ83_15 : τ83 15 = nI (nT ρ) := by rw [hτ83b _ (by decide)]; exact kτ65_15
        have kτ83_16 : τ83 16 = nI (nW ρ) := by rw [hτ83b _ (by decide)]; exact kτ65_16
        refine lv_aload_n X.x X.b d_R_readWalker_86 rfl (lv_at hl 3 rfl) ?_
        refine lv_dup X.x X.b d_R_readWalker_87 rfl ?_
        refine g_geti X hW qj4 rfl _ ds_R 16 (by decide) mw_702 rfl (r0 := 15) (p0 := 16) rfl (v := τ83 16) (by rw [qr_at]) d_R_readWalker_88 ?_
        rw [kτ83_16]
        refine lv_iconst (v := nI 1) X.x X.b d_R_readWalker_91 (by decide) ?_
        refine lv_iadd X.x X.b d_R_readWalker_92 ?_
        rw [nI_add]
        refine g_puti X hW qj4 qp4 qn4 rfl _ ds_R 16 (by decide) mw_702 rfl rfl (r0 := 15) (p0 := 16) rfl rfl rfl (ρ := τ83) (by rw [qr_at]) d_R_readWalker_93 (fun H locs hW => ?_)
        obtain ⟨r93, er93⟩ : ∃ z, z = upd τ83 16 (nI ((nW ρ) + 1)) := ⟨_, rfl⟩
        rw [← er93] at hW
        have kr93_10 : r93 10 = tV ξ len n := by rw [er93, upN (by omega)]; exact kτ83_10
        have kr93_11 : r93 11 = nI 1 := by rw [er93, upN (by omega)]; exact kτ83_11
        have kr93_14 : r93 14 = nI (mi + 1) := by rw [er93, upN (by omega)]; exact kτ83_14
        have kr93_15 : r93 15 = nI (nT ρ) := by rw [er93, upN (by omega)]; exact kτ83_15
        have kr93_16 : r93 16 = nI ((nW ρ) + 1) := by rw [er93, upd_at]
        have kr93_3 : r93 3 = kp := by rw [er93, upN (by omega)]; exact kτ83_3
        have kr93_6 : r93 6 = nI len := by rw [er93, upN (by omega)]; exact kτ83_6
        have kr93_7 : r93 7 = nI (tS ξ len n) := by rw [er93, upN (by omega)]; exact kτ83_7
        have kr93_8 : r93 8 = nI (tN ξ len n) := by rw [er93, upN (by omega)]; exact kτ83_8
        have kr93_9 : r93 9 = nI (kR (tK ξ len n)) := by rw [er93, upN (by omega)]; exact kτ83_9
        rw [qr_qr] at hW
        have eR : rWal ξ len n ρ = (false, (n, ρ)) := by rw [rWal, if_pos (by omega)]
        exact q_pvret X hW ⟨r93, _, _, _, _, by rw [eR]; exact ⟨kr93_3, kr93_6, kr93_7, kr93_8, kr93_9, kr93_10, kr93_11, kr93_14, kr93_15, kr93_16⟩, fun z => absurd z (by rw [eR]; exact Bool.false_ne_true), rfl⟩ d_R_readWalker_96
      · exact absurd (by decide) c68
    · exact absurd (by decide) c41
  · have c7 : ¬ 6 ≤ (nW ρ) := fun z => c7 ((nI_leI (a := 6) (b := (nW ρ)) (by omega) (by omega)).mpr z)
    refine lv_iconst (v := nI 1) X.x X.b d_R_readWalker_10 (by decide) ?_
    refine lv_goto (tgt := 15) X.x X.b d_R_readWalker_11 (by decide) ?_
    refine q_cvvp X (c_R_must_t l E (qr (qr S 21 ι) 15 υ) υ ξ (by rw [qr_at]) (by rw [qr_ne (by omega), qr_ne (by omega), hξ]) len n kp mi (nT ρ) (nW ρ) hk (by omega) hlen h0) hW (q_recv X hW ds_R rfl) ok_R_must mw_1100 ⟨by decide, by decide⟩ (As := [.int (nI 1)]) rfl rfl (Nat.le_of_ble_eq_true rfl) (lv := [(0, .ref (eA E 70))]) hl ⟨Nat.le_refl 0, Nat.le_refl 0⟩ d_R_readWalker_15 (fun H locs Sq15 hP15 hW => ?_)
    obtain ⟨τ15, hτ15, rfl⟩ := hP15
    have hW : qWH E (qr (qr S 21 ι) 15 τ15) s H locs := (by have h := hW; rw [qr_qr] at h; exact h)
    obtain ⟨kτ15_3, kτ15_6, kτ15_7, kτ15_8, kτ15_9, kτ15_10, kτ15_11, kτ15_14, kτ15_15, kτ15_16⟩ := id hτ15
    have bτ15 := tN_n (σ := ξ) (len := len) (n := tN ξ len n) (by omega)
    have dτ15 := tN_le (σ := ξ) (len := len) (n := tN ξ len n) (by omega)
    have eτ15 := kR_le (σ := ξ) (len := len) (n := tN ξ len n)
    refine lv_aload_n X.x X.b d_R_readWalker_18 rfl (lv_at hl 0 rfl) ?_
    refine lv_iconst (v := nI 0) X.x X.b d_R_readWalker_19 (by decide) ?_
    refine lv_bipush (v := nI 15) X.x X.b d_R_readWalker_20 (by decide) ?_
    by_cases hs22 : num ξ len (tN ξ len n) 0 15
    · refine q_cvip X (c_R_number_t l E (qr (qr S 21 ι) 15 τ15) τ15 ξ (by rw [qr_at]) (by rw [qr_ne (by omega), qr_ne (by omega), hξ]) len (tN ξ len n) kp mi (nT ρ) (nW ρ) hτ15 (by omega) hlen h0 0 15 hs22) hW (q_recv X hW ds_R rfl) ok_R_number mw_1104 ⟨by decide, by decide⟩ (As := [.int (nI 0), .int (nI 15)]) rfl rfl (Nat.le_of_ble_eq_true rfl) (lv := [(0, .ref (eA E 70))]) hl ⟨Nat.le_refl 0, Nat.le_refl 0⟩ d_R_readWalker_22 (fun H locs Sq22 hP22 hW => ?_)
      obtain ⟨τ22, hτ22, rfl⟩ := hP22
      have hW : qWH E (qr (qr S 21 ι) 15 τ22) s H locs := (by have h := hW; rw [qr_qr] at h; exact h)
      obtain ⟨kτ22_3, kτ22_6, kτ22_7, kτ22_8, kτ22_9, kτ22_10, kτ22_11, kτ22_14, kτ22_15, kτ22_16⟩ := id hτ22
      have bτ22 := tN_n (σ := ξ) (len := len) (n := tN ξ len (tN ξ len n)) (by omega)
      have dτ22 := tN_le (σ := ξ) (len := len) (n := tN ξ len (tN ξ len n)) (by omega)
      have eτ22 := kR_le (σ := ξ) (len := len) (n := tN ξ len (tN ξ len n))
      refine lv_istore_n (lv' := [(1, .int (tV ξ len (tN ξ len n))), (0, .ref (eA E 70))]) X.x X.b d_R_readWalker_25 rfl hl (by decide) rfl (fun ls hl => ?_)
      refine lv_aload_n X.x X.b d_R_readWalker_26 rfl (lv_at hl 1 rfl) ?_
      refine lv_iconst (v := nI 0) X.x X.b d_R_readWalker_27 (by decide) ?_
      refine lv_bipush (v := nI 7) X.x X.b d_R_readWalker_28 (by decide) ?_
      by_cases hs30 : num ξ len (tN ξ len (tN ξ len n)) 0 7
      · refine q_cvip X (c_R_number_t l E (qr (qr S 21 ι) 15 τ22) τ22 ξ (by rw [qr_at]) (by rw [qr_ne (by omega), qr_ne (by omega), hξ]) len (tN ξ len (tN ξ len n)) kp mi (nT ρ) (nW ρ) hτ22 (by omega) hlen h0 0 7 hs30) hW (q_recv X hW ds_R rfl) ok_R_number mw_1104 ⟨by decide, by decide⟩ (As := [.int (nI 0), .int (nI 7)]) rfl rfl (Nat.le_of_ble_eq_true rfl) (lv := [(1, .int (tV ξ len (tN ξ len n))), (0, .ref (eA E 70))]) hl ⟨Nat.le_refl 0, Nat.le_refl 0⟩ d_R_readWalker_30 (fun H locs Sq30 hP30 hW => ?_)
        obtain ⟨τ30, hτ30, rfl⟩ := hP30
        have hW : qWH E (qr (qr S 21 ι) 15 τ30) s H locs := (by have h := hW; rw [qr_qr] at h; exact h)
        obtain ⟨kτ30_3, kτ30_6, kτ30_7, kτ30_8, kτ30_9, kτ30_10, kτ30_11, kτ30_14, kτ30_15, kτ30_16⟩ := id hτ30
        have bτ30 := tN_n (σ := ξ) (len := len) (n := tN ξ len (tN ξ len (tN ξ len n))) (by omega)
        have dτ30 := tN_le (σ := ξ) (len := len) (n := tN ξ len (tN ξ len (tN ξ len n))) (by omega)
        have eτ30 := kR_le (σ := ξ) (len := len) (n := tN ξ len (tN ξ len (tN ξ len n)))
        refine lv_istore_n (lv' := [(2, .int (tV ξ len (tN ξ len (tN ξ len n)))), (1, .int (tV ξ len (tN ξ len n))), (0, .ref (eA E 70))]) X.x X.b d_R_readWalker_33 rfl hl (by decide) rfl (fun ls hl => ?_)
        refine lv_aload_n X.x X.b d_R_readWalker_34 rfl (lv_at hl 2 rfl) ?_
        refine q_ldcsW X (tx := "pace") (i := 8) (by decide) d_R_readWalker_35 ?_
        by_cases hs38 : wrd ξ len (tN ξ len (tN ξ len (tN ξ len n))) 8
        · refine q_cvip X (c_R_takesWord_t l E (qr (qr S 21 ι) 15 τ30) τ30 ξ (by rw [qr_at]) (by rw [qr_ne (by omega), qr_ne (by omega), hξ]) len (tN ξ len (tN ξ len (tN ξ len n))) kp mi (nT ρ) (nW ρ) hτ30 (by omega) hlen h0 8 (by omega) hs38) hW (q_recv X hW ds_R rfl) ok_R_takesWord mw_1118 ⟨by decide, by decide⟩ (As := [.ref (eK E 8)]) rfl rfl (Nat.le_of_ble_eq_true rfl) (lv := [(2, .int (tV ξ len (tN ξ len (tN ξ len n)))), (1, .int (tV ξ len (tN ξ len n))), (0, .ref (eA E 70))]) hl ⟨Nat.le_refl 0, Nat.le_refl 0⟩ d_R_readWalker_38 (fun H locs Sq38 hP38 hW => ?_)
          obtain ⟨τ38, hτ38, rfl⟩ := hP38
          have hW : qWH E (qr (qr S 21 ι) 15 τ38) s H locs := (by have h := hW; rw [qr_qr] at h; exact h)
          obtain ⟨kτ38_3, kτ38_6, kτ38_7, kτ38_8, kτ38_9, kτ38_10, kτ38_11, kτ38_14, kτ38_15, kτ38_16⟩ := id hτ38
          have bτ38 := tN_n (σ := ξ) (len := len) (n := tN ξ len (tN ξ len (tN ξ len (tN ξ len n)))) (by omega)
          have dτ38 := tN_le (σ := ξ) (len := len) (n := tN ξ len (tN ξ len (tN ξ len (tN ξ len n)))) (by omega)
          have eτ38 := kR_le (σ := ξ) (len := len) (n := tN ξ len (tN ξ len (tN ξ len (tN ξ len n))))
          refine lv_if_eq (tgt := 53) X.x X.b d_R_readWalker_41 (by decide) (fun c41 => ?_) (fun c41 => ?_)
          · exact absurd c41 (by decide)
          · have c41 : ¬ 1 = 0 := fun z => c41 ((nI_eq (a := 1) (b := 0) (by omega) (by omega)).mpr z)
            refine lv_aload_n X.x X.b d_R_readWalker_44 rfl (lv_at hl 2 rfl) ?_
            refine lv_iconst (v := nI 1) X.x X.b d_R_readWalker_45 (by decide) ?_
            refine lv_iconst (v := nI 5) X.x X.b d_R_readWalker_46 (by decide) ?_
            by_cases hs47 : num ξ len (tN ξ len (tN ξ len (tN ξ len (tN ξ len n)))) 1 5
            · refine q_cvip X (c_R_number_t l E (qr (qr S 21 ι) 15 τ38) τ38 ξ (by rw [qr_at]) (by rw [qr_ne (by omega), qr_ne (by omega), hξ]) len (tN ξ len (tN ξ len (tN ξ len (tN ξ len n)))) kp mi (nT ρ) (nW ρ) hτ38 (by omega) hlen h0 1 5 hs47) hW (q_recv X hW ds_R rfl) ok_R_number mw_1104 ⟨by decide, by decide⟩ (As := [.int (nI 1), .int (nI 5)]) rfl rfl (Nat.le_of_ble_eq_true rfl) (lv := [(2, .int (tV ξ len (tN ξ len (tN ξ len n)))), (1, .int (tV ξ len (tN ξ len n))), (0, .ref (eA E 70))]) hl ⟨Nat.le_refl 0, Nat.le_refl 0⟩ d_R_readWalker_47 (fun H locs Sq47 hP47 hW => ?_)
              obtain ⟨τ47, hτ47, rfl⟩ := hP47
              have hW : qWH E (qr (qr S 21 ι) 15 τ47) s H locs := (by have h := hW; rw [qr_qr] at h; exact h)
              obtain ⟨kτ47_3, kτ47_6, kτ47_7, kτ47_8, kτ47_9, kτ47_10, kτ47_11, kτ47_14, kτ47_15, kτ47_16⟩ := id hτ47
              have bτ47 := tN_n (σ := ξ) (len := len) (n := tN ξ len (tN ξ len (tN ξ len (tN ξ len (tN ξ len n))))) (by omega)
              have dτ47 := tN_le (σ := ξ) (len := len) (n := tN ξ len (tN ξ len (tN ξ len (tN ξ len (tN ξ len n))))) (by omega)
              have eτ47 := kR_le (σ := ξ) (len := len) (n := tN ξ len (tN ξ len (tN ξ len (tN ξ len (tN ξ len n)))))
              refine lv_goto (tgt := 54) X.x X.b d_R_readWalker_50 (by decide) ?_
              refine lv_istore_n (lv' := [(3, .int (tV ξ len (tN ξ len (tN ξ len (tN ξ len (tN ξ len n)))))), (2, .int (tV ξ len (tN ξ len (tN ξ len n)))), (1, .int (tV ξ len (tN ξ len n))), (0, .ref (eA E 70))]) X.x X.b d_R_readWalker_54 rfl hl (by decide) rfl (fun ls hl => ?_)
              refine lv_aload_n X.x X.b d_R_readWalker_55 rfl (lv_at hl 3 rfl) ?_
              refine lv_bipush (v := nI 10) X.x X.b d_R_readWalker_56 (by decide) ?_
              refine lv_iload_n X.x X.b d_R_readWalker_58 rfl (lv_at hl 2 rfl) ?_
              refine lv_iload_n X.x X.b d_R_readWalker_59 rfl (lv_at hl 1 rfl) ?_
              refine lv_iload_n X.x X.b d_R_readWalker_60 rfl (lv_at hl 0 rfl) ?_
              refine lv_aload_n X.x X.b d_R_readWalker_61 rfl (lv_at hl 3 rfl) ?_
              refine q_ldcsW X (tx := "cares") (i := 9) (by decide) d_R_readWalker_62 ?_
              by_cases hs65 : wrd ξ len (tN ξ len (tN ξ len (tN ξ len (tN ξ len (tN ξ len n))))) 9
              · refine q_cvip X (c_R_takesWord_t l E (qr (qr S 21 ι) 15 τ47) τ47 ξ (by rw [qr_at]) (by rw [qr_ne (by omega), qr_ne (by omega), hξ]) len (tN ξ len (tN ξ len (tN ξ len (tN ξ len (tN ξ len n))))) kp mi (nT ρ) (nW ρ) hτ47 (by omega) hlen h0 9 (by omega) hs65) hW (q_recv X hW ds_R rfl) ok_R_takesWord mw_1118 ⟨by decide, by decide⟩ (As := [.ref (eK E 9)]) rfl rfl (Nat.le_of_ble_eq_true rfl) (lv := [(3, .int (tV ξ len (tN ξ len (tN ξ len (tN ξ len (tN ξ len n)))))), (2, .int (tV ξ len (tN ξ len (tN ξ len n)))), (1, .int (tV ξ len (tN ξ len n))), (0, .ref (eA E 70))]) hl ⟨Nat.le_refl 0, Nat.le_refl 0⟩ d_R_readWalker_65 (fun H locs Sq65 hP65 hW => ?_)
                obtain ⟨τ65, hτ65, rfl⟩ := hP65
                have hW : qWH E (qr (qr S 21 ι) 15 τ65) s H locs := (by have h := hW; rw [qr_qr] at h; exact h)
                obtain ⟨kτ65_3, kτ65_6, kτ65_7, kτ65_8, kτ65_9, kτ65_10, kτ65_11, kτ65_14, kτ65_15, kτ65_16⟩ := id hτ65
                have bτ65 := tN_n (σ := ξ) (len := len) (n := tN ξ len (tN ξ len (tN ξ len (tN ξ len (tN ξ len (tN ξ len n)))))) (by omega)
                have dτ65 := tN_le (σ := ξ) (len := len) (n := tN ξ len (tN ξ len (tN ξ len (tN ξ len (tN ξ len (tN ξ len n)))))) (by omega)
                have eτ65 := kR_le (σ := ξ) (len := len) (n := tN ξ len (tN ξ len (tN ξ len (tN ξ len (tN ξ len (tN ξ len n))))))
                refine lv_if_eq (tgt := 82) X.x X.b d_R_readWalker_68 (by decide) (fun c68 => ?_) (fun c68 => ?_)
                · exact absurd c68 (by decide)
                · have c68 : ¬ 1 = 0 := fun z => c68 ((nI_eq (a := 1) (b := 0) (by omega) (by omega)).mpr z)
                  refine lv_aload_n X.x X.b d_R_readWalker_71 rfl (lv_at hl 3 rfl) ?_
                  refine lv_iconst (v := nI 0) X.x X.b d_R_readWalker_72 (by decide) ?_
                  refine lv_sipush (v := nI 255) X.x X.b d_R_readWalker_73 (by decide) ?_
                  by_cases hs76 : num ξ len (tN ξ len (tN ξ len (tN ξ len (tN ξ len (tN ξ len (tN ξ len n)))))) 0 255
                  · refine q_cvip X (c_R_number_t l E (qr (qr S 21 ι) 15 τ65) τ65 ξ (by rw [qr_at]) (by rw [qr_ne (by omega), qr_ne (by omega), hξ]) len (tN ξ len (tN ξ len (tN ξ len (tN ξ len (tN ξ len (tN ξ len n)))))) kp mi (nT ρ) (nW ρ) hτ65 (by omega) hlen h0 0 255 hs76) hW (q_recv X hW ds_R rfl) ok_R_number mw_1104 ⟨by decide, by decide⟩ (As := [.int (nI 0), .int (nI 255)]) rfl rfl (Nat.le_of_ble_eq_true rfl) (lv := [(3, .int (tV ξ len (tN ξ len (tN ξ len (tN ξ len (tN ξ len n)))))), (2, .int (tV ξ len (tN ξ len (tN ξ len n)))), (1, .int (tV ξ len (tN ξ len n))), (0, .ref (eA E 70))]) hl ⟨Nat.le_refl 0, Nat.le_refl 0⟩ d_R_readWalker_76 (fun H locs Sq76 hP76 hW => ?_)
                    obtain ⟨τ76, hτ76, rfl⟩ := hP76
                    have hW : qWH E (qr (qr S 21 ι) 15 τ76) s H locs := (by have h := hW; rw [qr_qr] at h; exact h)
                    obtain ⟨kτ76_3, kτ76_6, kτ76_7, kτ76_8, kτ76_9, kτ76_10, kτ76_11, kτ76_14, kτ76_15, kτ76_16⟩ := id hτ76
                    have bτ76 := tN_n (σ := ξ) (len := len) (n := tN ξ len (tN ξ len (tN ξ len (tN ξ len (tN ξ len (tN ξ len (tN ξ len n))))))) (by omega)
                    have dτ76 := tN_le (σ := ξ) (len := len) (n := tN ξ len (tN ξ len (tN ξ len (tN ξ len (tN ξ len (tN ξ len (tN ξ len n))))))) (by omega)
                    have eτ76 := kR_le (σ := ξ) (len := len) (n := tN ξ len (tN ξ len (tN ξ len (tN ξ len (tN ξ len (tN ξ len (tN ξ len n)))))))
                    refine lv_goto (tgt := 83) X.x X.b d_R_readWalker_79 (by decide) ?_
                    refine q_cvvp X (c_R_addItem l E (qr (qr S 21 ι) 15 τ76) τ76 ι (by rw [qr_at]) (by rw [qr_ne (by omega), qr_at]) mi kτ76_14 (by omega) (nI 10) (tV ξ len (tN ξ len n)) (tV ξ len (tN ξ len (tN ξ len n))) (tV ξ len (tN ξ len (tN ξ len (tN ξ len (tN ξ len n))))) (tV ξ len (tN ξ len (tN ξ len (tN ξ len (tN ξ len (tN ξ len (tN ξ len n)))))))) hW (q_recv X hW ds_R rfl) ok_R_addItem mw_1108 ⟨by decide, by decide⟩ (As := [.int (nI 10), .int (tV ξ len (tN ξ len n)), .int (tV ξ len (tN ξ len (tN ξ len n))), .int (tV ξ len (tN ξ len (tN ξ len (tN ξ len (tN ξ len n))))), .int (tV ξ len (tN ξ len (tN ξ len (tN ξ len (tN ξ len (tN ξ len (tN ξ len n)))))))]) rfl rfl (Nat.le_of_ble_eq_true rfl) (lv := [(3, .int (tV ξ len (tN ξ len (tN ξ len (tN ξ len (tN ξ len n)))))), (2, .int (tV ξ len (tN ξ len (tN ξ len n)))), (1, .int (tV ξ len (tN ξ len n))), (0, .ref (eA E 70))]) hl ⟨Nat.le_refl 0, Nat.le_refl 0⟩ d_R_readWalker_83 (fun H locs Sq83 hP83 hW => ?_)
                    obtain ⟨τ83, hτ83a, hτ83b, rfl⟩ := hP83
                    have hW : qWH E (qr (qr S 21 (itm ι mi (nI 10) (tV ξ len (tN ξ len n)) (tV ξ len (tN ξ len (tN ξ len n))) (tV ξ len (tN ξ len (tN ξ len (tN ξ len (tN ξ len n))))) (tV ξ len (tN ξ len (tN ξ len (tN ξ len (tN ξ len (tN ξ len (tN ξ len n))))))))) 15 τ83) s H locs := (by have h := hW; rw [qr_in (by omega), qr_in (by omega)] at h; exact h)
                    have kτ83_3 : τ83 3 = kp := by rw [hτ83b _ (by decide)]; exact kτ76_3
                    have kτ83_6 : τ83 6 = nI len := by rw [hτ83b _ (by decide)]; exact kτ76_6
                    have kτ83_7 : τ83 7 = nI (tS ξ len (tN ξ len (tN ξ len (tN ξ len (tN ξ len (tN ξ len (tN ξ len (tN ξ len n)))))))) := by rw [hτ83b _ (by decide)]; exact kτ76_7
                    have kτ83_8 : τ83 8 = nI (tN ξ len (tN ξ len (tN ξ len (tN ξ len (tN ξ len (tN ξ len (tN ξ len (tN ξ len n)))))))) := by rw [hτ83b _ (by decide)]; exact kτ76_8
                    have kτ83_9 : τ83 9 = nI (kR (tK ξ len (tN ξ len (tN ξ len (tN ξ len (tN ξ len (tN ξ len (tN ξ len (tN ξ len n))))))))) := by rw [hτ83b _ (by decide)]; exact kτ76_9
                    have kτ83_10 : τ83 10 = tV ξ len (tN ξ len (tN ξ len (tN ξ len (tN ξ len (tN ξ len (tN ξ len (tN ξ len n))))))) := by rw [hτ83b _ (by decide)]; exact kτ76_10
                    have kτ83_11 : τ83 11 = nI 0 := by rw [hτ83b _ (by decide)]; exact kτ76_11
                    have kτ83_14 := hτ83a
                    have kτ83_15 : τ83 15 = nI (nT ρ) := by rw [hτ83b _ (by decide)]; exact kτ76_15
                    have kτ83_16 : τ83 16 = nI (nW ρ) := by rw [hτ83b _ (by decide)]; exact kτ76_16
                    refine lv_aload_n X.x X.b d_R_readWalker_86 rfl (lv_at hl 3 rfl) ?_
                    refine lv_dup X.x X.b d_R_readWalker_87 rfl ?_
                    refine g_geti X hW qj4 rfl _ ds_R 16 (by decide) mw_702 rfl (r0 := 15) (p0 := 16) rfl (v := τ83 16) (by rw [qr_at]) d_R_readWalker_88 ?_
                    rw [kτ83_16]
                    refine lv_iconst (v := nI 1) X.x X.b d_R_readWalker_91 (by decide) ?_
                    refine lv_iadd X.x X.b d_R_readWalker_92 ?_
                    rw [nI_add]
                    refine g_puti X hW qj4 qp4 qn4 rfl _ ds_R 16 (by decide) mw_702 rfl rfl (r0 := 15) (p0 := 16) rfl rfl rfl (ρ := τ83) (by rw [qr_at]) d_R_readWalker_93 (fun H locs hW => ?_)
                    obtain ⟨r93, er93⟩ : ∃ z, z = upd τ83 16 (nI ((nW ρ) + 1)) := ⟨_, rfl⟩
                    rw [← er93] at hW
                    have kr93_10 : r93 10 = tV ξ len (tN ξ len (tN ξ len (tN ξ len (tN ξ len (tN ξ len (tN ξ len (tN ξ len n))))))) := by rw [er93, upN (by omega)]; exact kτ83_10
                    have kr93_11 : r93 11 = nI 0 := by rw [er93, upN (by omega)]; exact kτ83_11
                    have kr93_14 : r93 14 = nI (mi + 1) := by rw [er93, upN (by omega)]; exact kτ83_14
                    have kr93_15 : r93 15 = nI (nT ρ) := by rw [er93, upN (by omega)]; exact kτ83_15
                    have kr93_16 : r93 16 = nI ((nW ρ) + 1) := by rw [er93, upd_at]
                    have kr93_3 : r93 3 = kp := by rw [er93, upN (by omega)]; exact kτ83_3
                    have kr93_6 : r93 6 = nI len := by rw [er93, upN (by omega)]; exact kτ83_6
                    have kr93_7 : r93 7 = nI (tS ξ len (tN ξ len (tN ξ len (tN ξ len (tN ξ len (tN ξ len (tN ξ len (tN ξ len n)))))))) := by rw [er93, upN (by omega)]; exact kτ83_7
                    have kr93_8 : r93 8 = nI (tN ξ len (tN ξ len (tN ξ len (tN ξ len (tN ξ len (tN ξ len (tN ξ len (tN ξ len n)))))))) := by rw [er93, upN (by omega)]; exact kτ83_8
                    have kr93_9 : r93 9 = nI (kR (tK ξ len (tN ξ len (tN ξ len (tN ξ len (tN ξ len (tN ξ len (tN ξ len (tN ξ len n))))))))) := by rw [er93, upN (by omega)]; exact kτ83_9
                    rw [qr_qr] at hW
                    have eP : rPer ξ len 8 (44 + 6 * nW ρ + 2) 1 5 (tN ξ len (tN ξ len (tN ξ len n))) (addW ρ (tV ξ len (tN ξ len n)) (tV ξ len (tN ξ len (tN ξ len n)))) = (true, (tN ξ len (tN ξ len (tN ξ len (tN ξ len (tN ξ len n)))), upd (addW ρ (tV ξ len (tN ξ len n)) (tV ξ len (tN ξ len (tN ξ len n)))) (44 + 6 * nW ρ + 2) (tV ξ len (tN ξ len (tN ξ len (tN ξ len (tN ξ len n))))))) := by rw [rPer, if_neg (fun z => z hs38), if_neg (fun z => z hs47)]
                    have eQ : rPer ξ len 9 (44 + 6 * nW ρ + 3) 0 255 (tN ξ len (tN ξ len (tN ξ len (tN ξ len (tN ξ len n))))) (upd (addW ρ (tV ξ len (tN ξ len n)) (tV ξ len (tN ξ len (tN ξ len n)))) (44 + 6 * nW ρ + 2) (tV ξ len (tN ξ len (tN ξ len (tN ξ len (tN ξ len n)))))) = (true, (tN ξ len (tN ξ len (tN ξ len (tN ξ len (tN ξ len (tN ξ len (tN ξ len n)))))), upd (upd (addW ρ (tV ξ len (tN ξ len n)) (tV ξ len (tN ξ len (tN ξ len n)))) (44 + 6 * nW ρ + 2) (tV ξ len (tN ξ len (tN ξ len (tN ξ len (tN ξ len n)))))) (44 + 6 * nW ρ + 3) (tV ξ len (tN ξ len (tN ξ len (tN ξ len (tN ξ len (tN ξ len (tN ξ len n))))))))) := by rw [rPer, if_neg (fun z => z hs65), if_neg (fun z => z hs76)]
                    have eR : rWal ξ len n ρ = (true, (tN ξ len (tN ξ len (tN ξ len (tN ξ len (tN ξ len (tN ξ len (tN ξ len n)))))), upd (upd (addW ρ (tV ξ len (tN ξ len n)) (tV ξ len (tN ξ len (tN ξ len n)))) (44 + 6 * nW ρ + 2) (tV ξ len (tN ξ len (tN ξ len (tN ξ len (tN ξ len n)))))) (44 + 6 * nW ρ + 3) (tV ξ len (tN ξ len (tN ξ len (tN ξ len (tN ξ len (tN ξ len (tN ξ len n))))))))) := by rw [rWal, if_neg (fun z => z (by omega)), if_neg (fun z => z hs22), if_neg (fun z => z hs30), eP, if_pos rfl]; exact eQ
                    have e1 := addW_n (cl := tV ξ len (tN ξ len n)) (am := tV ξ len (tN ξ len (tN ξ len n))) hwf (by omega)
                    have eT : nT ρ = nT (upd (upd (addW ρ (tV ξ len (tN ξ len n)) (tV ξ len (tN ξ len (tN ξ len n)))) (44 + 6 * nW ρ + 2) (tV ξ len (tN ξ len (tN ξ len (tN ξ len (tN ξ len n)))))) (44 + 6 * nW ρ + 3) (tV ξ len (tN ξ len (tN ξ len (tN ξ len (tN ξ len (tN ξ len (tN ξ len n)))))))) := by rw [nT_up (by omega), nT_up (by omega), e1.2.1]
                    have eW : nW ρ + 1 = nW (upd (upd (addW ρ (tV ξ len (tN ξ len n)) (tV ξ len (tN ξ len (tN ξ len n)))) (44 + 6 * nW ρ + 2) (tV ξ len (tN ξ len (tN ξ len (tN ξ len (tN ξ len n)))))) (44 + 6 * nW ρ + 3) (tV ξ len (tN ξ len (tN ξ len (tN ξ len (tN ξ len (tN ξ len (tN ξ len n)))))))) := by rw [nW_up (by omega), nW_up (by omega), e1.1]
                    exact q_pvret X hW ⟨r93, _, _, _, _, by rw [eR]; exact ⟨kr93_3, kr93_6, kr93_7, kr93_8, kr93_9, kr93_10, kr93_11, kr93_14, kr93_15, kr93_16⟩, fun _ => by rw [eR]; exact ⟨rfl, eT, eW, (it_walk (by omega)).1, (it_walk (by omega)).2.trans rfl, fun q hq => itm_lo hq⟩, rfl⟩ d_R_readWalker_96
                  · refine q_cvip X (c_R_number_f l E (qr (qr S 21 ι) 15 τ65) τ65 ξ (by rw [qr_at]) (by rw [qr_ne (by omega), qr_ne (by omega), hξ]) len (tN ξ len (tN ξ len (tN ξ len (tN ξ len (tN ξ len (tN ξ len n)))))) kp mi (nT ρ) (nW ρ) hτ65 (by omega) hlen h0 0 255 hs76) hW (q_recv X hW ds_R rfl) ok_R_number mw_1104 ⟨by decide, by decide⟩ (As := [.int (nI 0), .int (nI 255)]) rfl rfl (Nat.le_of_ble_eq_true rfl) (lv := [(3, .int (tV ξ len (tN ξ len (tN ξ len (tN ξ len (tN ξ len n)))))), (2, .int (tV ξ len (tN ξ len (tN ξ len n)))), (1, .int (tV ξ len (tN ξ len n))), (0, .ref (eA E 70))]) hl ⟨Nat.le_refl 0, Nat.le_refl 0⟩ d_R_readWalker_76 (fun H locs Sq76 hP76 hW => ?_)
                    obtain ⟨τ76, hτ76, rfl⟩ := hP76
                    have hW : qWH E (qr (qr S 21 ι) 15 τ76) s H locs := (by have h := hW; rw [qr_qr] at h; exact h)
                    obtain ⟨kτ76_3, kτ76_6, kτ76_7, kτ76_8, kτ76_9, kτ76_10, kτ76_11, kτ76_14, kτ76_15, kτ76_16⟩ := id hτ76
                    have bτ76 := tN_n (σ := ξ) (len := len) (n := (tN ξ len (tN ξ len (tN ξ len (tN ξ len (tN ξ len (tN ξ len n))))))) (by omega)
                    have dτ76 := tN_le (σ := ξ) (len := len) (n := (tN ξ len (tN ξ len (tN ξ len (tN ξ len (tN ξ len (tN ξ len n))))))) (by omega)
                    have eτ76 := kR_le (σ := ξ) (len := len) (n := (tN ξ len (tN ξ len (tN ξ len (tN ξ len (tN ξ len (tN ξ len n)))))))
                    refine lv_goto (tgt := 83) X.x X.b d_R_readWalker_79 (by decide) ?_
                    refine q_cvvp X (c_R_addItem l E (qr (qr S 21 ι) 15 τ76) τ76 ι (by rw [qr_at]) (by rw [qr_ne (by omega), qr_at]) mi kτ76_14 (by omega) (nI 10) (tV ξ len (tN ξ len n)) (tV ξ len (tN ξ len (tN ξ len n))) (tV ξ len (tN ξ len (tN ξ len (tN ξ len (tN ξ len n))))) (tV ξ len (tN ξ len (tN ξ len (tN ξ len (tN ξ len (tN ξ len (tN ξ len n)))))))) hW (q_recv X hW ds_R rfl) ok_R_addItem mw_1108 ⟨by decide, by decide⟩ (As := [.int (nI 10), .int (tV ξ len (tN ξ len n)), .int (tV ξ len (tN ξ len (tN ξ len n))), .int (tV ξ len (tN ξ len (tN ξ len (tN ξ len (tN ξ len n))))), .int (tV ξ len (tN ξ len (tN ξ len (tN ξ len (tN ξ len (tN ξ len (tN ξ len n)))))))]) rfl rfl (Nat.le_of_ble_eq_true rfl) (lv := [(3, .int (tV ξ len (tN ξ len (tN ξ len (tN ξ len (tN ξ len n)))))), (2, .int (tV ξ len (tN ξ len (tN ξ len n)))), (1, .int (tV ξ len (tN ξ len n))), (0, .ref (eA E 70))]) hl ⟨Nat.le_refl 0, Nat.le_refl 0⟩ d_R_readWalker_83 (fun H locs Sq83 hP83 hW => ?_)
                    obtain ⟨τ83, hτ83a, hτ83b, rfl⟩ := hP83
                    have hW : qWH E (qr (qr S 21 (itm ι mi (nI 10) (tV ξ len (tN ξ len n)) (tV ξ len (tN ξ len (tN ξ len n))) (tV ξ len (tN ξ len (tN ξ len (tN ξ len (tN ξ len n))))) (tV ξ len (tN ξ len (tN ξ len (tN ξ len (tN ξ len (tN ξ len (tN ξ len n))))))))) 15 τ83) s H locs := (by have h := hW; rw [qr_in (by omega), qr_in (by omega)] at h; exact h)
                    have kτ83_3 : τ83 3 = kp := by rw [hτ83b _ (by decide)]; exact kτ76_3
                    have kτ83_6 : τ83 6 = nI len := by rw [hτ83b _ (by decide)]; exact kτ76_6
                    have kτ83_7 : τ83 7 = nI (tS ξ len (tN ξ len (tN ξ len (tN ξ len (tN ξ len (tN ξ len (tN ξ len n))))))) := by rw [hτ83b _ (by decide)]; exact kτ76_7
                    have kτ83_8 : τ83 8 = nI (tN ξ len (tN ξ len (tN ξ len (tN ξ len (tN ξ len (tN ξ len (tN ξ len n))))))) := by rw [hτ83b _ (by decide)]; exact kτ76_8
                    have kτ83_9 : τ83 9 = nI (kR (tK ξ len (tN ξ len (tN ξ len (tN ξ len (tN ξ len (tN ξ len (tN ξ len n)))))))) := by rw [hτ83b _ (by decide)]; exact kτ76_9
                    have kτ83_10 : τ83 10 = tV ξ len (tN ξ len (tN ξ len (tN ξ len (tN ξ len (tN ξ len (tN ξ len n)))))) := by rw [hτ83b _ (by decide)]; exact kτ76_10
                    have kτ83_11 : τ83 11 = nI 1 := by rw [hτ83b _ (by decide)]; exact kτ76_11
                    have kτ83_14 := hτ83a
                    have kτ83_15 : τ83 15 = nI (nT ρ) := by rw [hτ83b _ (by decide)]; exact kτ76_15
                    have kτ83_16 : τ83 16 = nI (nW ρ) := by rw [hτ83b _ (by decide)]; exact kτ76_16
                    refine lv_aload_n X.x X.b d_R_readWalker_86 rfl (lv_at hl 3 rfl) ?_
                    refine lv_dup X.x X.b d_R_readWalker_87 rfl ?_
                    refine g_geti X hW qj4 rfl _ ds_R 16 (by decide) mw_702 rfl (r0 := 15) (p0 := 16) rfl (v := τ83 16) (by rw [qr_at]) d_R_readWalker_88 ?_
                    rw [kτ83_16]
                    refine lv_iconst (v := nI 1) X.x X.b d_R_readWalker_91 (by decide) ?_
                    refine lv_iadd X.x X.b d_R_readWalker_92 ?_
                    rw [nI_add]
                    refine g_puti X hW qj4 qp4 qn4 rfl _ ds_R 16 (by decide) mw_702 rfl rfl (r0 := 15) (p0 := 16) rfl rfl rfl (ρ := τ83) (by rw [qr_at]) d_R_readWalker_93 (fun H locs hW => ?_)
                    obtain ⟨r93, er93⟩ : ∃ z, z = upd τ83 16 (nI ((nW ρ) + 1)) := ⟨_, rfl⟩
                    rw [← er93] at hW
                    have kr93_10 : r93 10 = tV ξ len (tN ξ len (tN ξ len (tN ξ len (tN ξ len (tN ξ len (tN ξ len n)))))) := by rw [er93, upN (by omega)]; exact kτ83_10
                    have kr93_11 : r93 11 = nI 1 := by rw [er93, upN (by omega)]; exact kτ83_11
                    have kr93_14 : r93 14 = nI (mi + 1) := by rw [er93, upN (by omega)]; exact kτ83_14
                    have kr93_15 : r93 15 = nI (nT ρ) := by rw [er93, upN (by omega)]; exact kτ83_15
                    have kr93_16 : r93 16 = nI ((nW ρ) + 1) := by rw [er93, upd_at]
                    have kr93_3 : r93 3 = kp := by rw [er93, upN (by omega)]; exact kτ83_3
                    have kr93_6 : r93 6 = nI len := by rw [er93, upN (by omega)]; exact kτ83_6
                    have kr93_7 : r93 7 = nI (tS ξ len (tN ξ len (tN ξ len (tN ξ len (tN ξ len (tN ξ len (tN ξ len n))))))) := by rw [er93, upN (by omega)]; exact kτ83_7
                    have kr93_8 : r93 8 = nI (tN ξ len (tN ξ len (tN ξ len (tN ξ len (tN ξ len (tN ξ len (tN ξ len n))))))) := by rw [er93, upN (by omega)]; exact kτ83_8
                    have kr93_9 : r93 9 = nI (kR (tK ξ len (tN ξ len (tN ξ len (tN ξ len (tN ξ len (tN ξ len (tN ξ len n)))))))) := by rw [er93, upN (by omega)]; exact kτ83_9
                    rw [qr_qr] at hW
                    have eP : rPer ξ len 8 (44 + 6 * nW ρ + 2) 1 5 (tN ξ len (tN ξ len (tN ξ len n))) (addW ρ (tV ξ len (tN ξ len n)) (tV ξ len (tN ξ len (tN ξ len n)))) = (true, (tN ξ len (tN ξ len (tN ξ len (tN ξ len (tN ξ len n)))), upd (addW ρ (tV ξ len (tN ξ len n)) (tV ξ len (tN ξ len (tN ξ len n)))) (44 + 6 * nW ρ + 2) (tV ξ len (tN ξ len (tN ξ len (tN ξ len (tN ξ len n))))))) := by rw [rPer, if_neg (fun z => z hs38), if_neg (fun z => z hs47)]
                    have eQ : rPer ξ len 9 (44 + 6 * nW ρ + 3) 0 255 (tN ξ len (tN ξ len (tN ξ len (tN ξ len (tN ξ len n))))) (upd (addW ρ (tV ξ len (tN ξ len n)) (tV ξ len (tN ξ len (tN ξ len n)))) (44 + 6 * nW ρ + 2) (tV ξ len (tN ξ len (tN ξ len (tN ξ len (tN ξ len n)))))) = (false, (tN ξ len (tN ξ len (tN ξ len (tN ξ len (tN ξ len (tN ξ len n))))), upd (addW ρ (tV ξ len (tN ξ len n)) (tV ξ len (tN ξ len (tN ξ len n)))) (44 + 6 * nW ρ + 2) (tV ξ len (tN ξ len (tN ξ len (tN ξ len (tN ξ len n))))))) := by rw [rPer, if_neg (fun z => z hs65), if_pos hs76]
                    have eR : rWal ξ len n ρ = (false, (tN ξ len (tN ξ len (tN ξ len (tN ξ len (tN ξ len (tN ξ len n))))), upd (addW ρ (tV ξ len (tN ξ len n)) (tV ξ len (tN ξ len (tN ξ len n)))) (44 + 6 * nW ρ + 2) (tV ξ len (tN ξ len (tN ξ len (tN ξ len (tN ξ len n))))))) := by rw [rWal, if_neg (fun z => z (by omega)), if_neg (fun z => z hs22), if_neg (fun z => z hs30), eP, if_pos rfl]; exact eQ
                    exact q_pvret X hW ⟨r93, _, _, _, _, by rw [eR]; exact ⟨kr93_3, kr93_6, kr93_7, kr93_8, kr93_9, kr93_10, kr93_11, kr93_14, kr93_15, kr93_16⟩, fun z => absurd z (by rw [eR]; exact Bool.false_ne_true), rfl⟩ d_R_readWalker_96
              · refine q_cvip X (c_R_takesWord_f l E (qr (qr S 21 ι) 15 τ47) τ47 ξ (by rw [qr_at]) (by rw [qr_ne (by omega), qr_ne (by omega), hξ]) len (tN ξ len (tN ξ len (tN ξ len (tN ξ len (tN ξ len n))))) kp mi (nT ρ) (nW ρ) hτ47 (by omega) hlen h0 9 (by omega) hs65) hW (q_recv X hW ds_R rfl) ok_R_takesWord mw_1118 ⟨by decide, by decide⟩ (As := [.ref (eK E 9)]) rfl rfl (Nat.le_of_ble_eq_true rfl) (lv := [(3, .int (tV ξ len (tN ξ len (tN ξ len (tN ξ len (tN ξ len n)))))), (2, .int (tV ξ len (tN ξ len (tN ξ len n)))), (1, .int (tV ξ len (tN ξ len n))), (0, .ref (eA E 70))]) hl ⟨Nat.le_refl 0, Nat.le_refl 0⟩ d_R_readWalker_65 (fun H locs Sq65 hP65 hW => ?_)
                obtain ⟨τ65, hτ65, rfl⟩ := hP65
                have hW : qWH E (qr (qr S 21 ι) 15 τ65) s H locs := (by have h := hW; rw [qr_qr] at h; exact h)
                obtain ⟨kτ65_3, kτ65_6, kτ65_7, kτ65_8, kτ65_9, kτ65_10, kτ65_11, kτ65_14, kτ65_15, kτ65_16⟩ := id hτ65
                have bτ65 := tN_n (σ := ξ) (len := len) (n := (tN ξ len (tN ξ len (tN ξ len (tN ξ len (tN ξ len n)))))) (by omega)
                have dτ65 := tN_le (σ := ξ) (len := len) (n := (tN ξ len (tN ξ len (tN ξ len (tN ξ len (tN ξ len n)))))) (by omega)
                have eτ65 := kR_le (σ := ξ) (len := len) (n := (tN ξ len (tN ξ len (tN ξ len (tN ξ len (tN ξ len n))))))
                refine lv_if_eq (tgt := 82) X.x X.b d_R_readWalker_68 (by decide) (fun c68 => ?_) (fun c68 => ?_)
                · have c68 : 0 = 0 := (nI_eq (a := 0) (b := 0) (by omega) (by omega)).mp c68
                  refine lv_iconst (v := nI 0) X.x X.b d_R_readWalker_82 (by decide) ?_
                  refine q_cvvp X (c_R_addItem l E (qr (qr S 21 ι) 15 τ65) τ65 ι (by rw [qr_at]) (by rw [qr_ne (by omega), qr_at]) mi kτ65_14 (by omega) (nI 10) (tV ξ len (tN ξ len n)) (tV ξ len (tN ξ len (tN ξ len n))) (tV ξ len (tN ξ len (tN ξ len (tN ξ len (tN ξ len n))))) (nI 0)) hW (q_recv X hW ds_R rfl) ok_R_addItem mw_1108 ⟨by decide, by decide⟩ (As := [.int (nI 10), .int (tV ξ len (tN ξ len n)), .int (tV ξ len (tN ξ len (tN ξ len n))), .int (tV ξ len (tN ξ len (tN ξ len (tN ξ len (tN ξ len n))))), .int (nI 0)]) rfl rfl (Nat.le_of_ble_eq_true rfl) (lv := [(3, .int (tV ξ len (tN ξ len (tN ξ len (tN ξ len (tN ξ len n)))))), (2, .int (tV ξ len (tN ξ len (tN ξ len n)))), (1, .int (tV ξ len (tN ξ len n))), (0, .ref (eA E 70))]) hl ⟨Nat.le_refl 0, Nat.le_refl 0⟩ d_R_readWalker_83 (fun H locs Sq83 hP83 hW => ?_)
                  obtain ⟨τ83, hτ83a, hτ83b, rfl⟩ := hP83
                  have hW : qWH E (qr (qr S 21 (itm ι mi (nI 10) (tV ξ len (tN ξ len n)) (tV ξ len (tN ξ len (tN ξ len n))) (tV ξ len (tN ξ len (tN ξ len (tN ξ len (tN ξ len n))))) (nI 0))) 15 τ83) s H locs := (by have h := hW; rw [qr_in (by omega), qr_in (by omega)] at h; exact h)
                  have kτ83_3 : τ83 3 = kp := by rw [hτ83b _ (by decide)]; exact kτ65_3
                  have kτ83_6 : τ83 6 = nI len := by rw [hτ83b _ (by decide)]; exact kτ65_6
                  have kτ83_7 : τ83 7 = nI (tS ξ len (tN ξ len (tN ξ len (tN ξ len (tN ξ len (tN ξ len n)))))) := by rw [hτ83b _ (by decide)]; exact kτ65_7
                  have kτ83_8 : τ83 8 = nI (tN ξ len (tN ξ len (tN ξ len (tN ξ len (tN ξ len (tN ξ len n)))))) := by rw [hτ83b _ (by decide)]; exact kτ65_8
                  have kτ83_9 : τ83 9 = nI (kR (tK ξ len (tN ξ len (tN ξ len (tN ξ len (tN ξ len (tN ξ len n))))))) := by rw [hτ83b _ (by decide)]; exact kτ65_9
                  have kτ83_10 : τ83 10 = tV ξ len (tN ξ len (tN ξ len (tN ξ len (tN ξ len (tN ξ len n))))) := by rw [hτ83b _ (by decide)]; exact kτ65_10
                  have kτ83_11 : τ83 11 = nI 0 := by rw [hτ83b _ (by decide)]; exact kτ65_11
                  have kτ83_14 := hτ83a
                  have kτ83_15 : τ83 15 = nI (nT ρ) := by rw [hτ83b _ (by decide)]; exact kτ65_15
                  have kτ83_16 : τ83 16 = nI (nW ρ) := by rw [hτ83b _ (by decide)]; exact kτ65_16
                  refine lv_aload_n X.x X.b d_R_readWalker_86 rfl (lv_at hl 3 rfl) ?_
                  refine lv_dup X.x X.b d_R_readWalker_87 rfl ?_
                  refine g_geti X hW qj4 rfl _ ds_R 16 (by decide) mw_702 rfl (r0 := 15) (p0 := 16) rfl (v := τ83 16) (by rw [qr_at]) d_R_readWalker_88 ?_
                  rw [kτ83_16]
                  refine lv_iconst (v := nI 1) X.x X.b d_R_readWalker_91 (by decide) ?_
                  refine lv_iadd X.x X.b d_R_readWalker_92 ?_
                  rw [nI_add]
                  refine g_puti X hW qj4 qp4 qn4 rfl _ ds_R 16 (by decide) mw_702 rfl rfl (r0 := 15) (p0 := 16) rfl rfl rfl (ρ := τ83) (by rw [qr_at]) d_R_readWalker_93 (fun H locs hW => ?_)
                  obtain ⟨r93, er93⟩ : ∃ z, z = upd τ83 16 (nI ((nW ρ) + 1)) := ⟨_, rfl⟩
                  rw [← er93] at hW
                  have kr93_10 : r93 10 = tV ξ len (tN ξ len (tN ξ len (tN ξ len (tN ξ len (tN ξ len n))))) := by rw [er93, upN (by omega)]; exact kτ83_10
                  have kr93_11 : r93 11 = nI 0 := by rw [er93, upN (by omega)]; exact kτ83_11
                  have kr93_14 : r93 14 = nI (mi + 1) := by rw [er93, upN (by omega)]; exact kτ83_14
                  have kr93_15 : r93 15 = nI (nT ρ) := by rw [er93, upN (by omega)]; exact kτ83_15
                  have kr93_16 : r93 16 = nI ((nW ρ) + 1) := by rw [er93, upd_at]
                  have kr93_3 : r93 3 = kp := by rw [er93, upN (by omega)]; exact kτ83_3
                  have kr93_6 : r93 6 = nI len := by rw [er93, upN (by omega)]; exact kτ83_6
                  have kr93_7 : r93 7 = nI (tS ξ len (tN ξ len (tN ξ len (tN ξ len (tN ξ len (tN ξ len n)))))) := by rw [er93, upN (by omega)]; exact kτ83_7
                  have kr93_8 : r93 8 = nI (tN ξ len (tN ξ len (tN ξ len (tN ξ len (tN ξ len (tN ξ len n)))))) := by rw [er93, upN (by omega)]; exact kτ83_8
                  have kr93_9 : r93 9 = nI (kR (tK ξ len (tN ξ len (tN ξ len (tN ξ len (tN ξ len (tN ξ len n))))))) := by rw [er93, upN (by omega)]; exact kτ83_9
                  rw [qr_qr] at hW
                  have eP : rPer ξ len 8 (44 + 6 * nW ρ + 2) 1 5 (tN ξ len (tN ξ len (tN ξ len n))) (addW ρ (tV ξ len (tN ξ len n)) (tV ξ len (tN ξ len (tN ξ len n)))) = (true, (tN ξ len (tN ξ len (tN ξ len (tN ξ len (tN ξ len n)))), upd (addW ρ (tV ξ len (tN ξ len n)) (tV ξ len (tN ξ len (tN ξ len n)))) (44 + 6 * nW ρ + 2) (tV ξ len (tN ξ len (tN ξ len (tN ξ len (tN ξ len n))))))) := by rw [rPer, if_neg (fun z => z hs38), if_neg (fun z => z hs47)]
                  have eQ : rPer ξ len 9 (44 + 6 * nW ρ + 3) 0 255 (tN ξ len (tN ξ len (tN ξ len (tN ξ len (tN ξ len n))))) (upd (addW ρ (tV ξ len (tN ξ len n)) (tV ξ len (tN ξ len (tN ξ len n)))) (44 + 6 * nW ρ + 2) (tV ξ len (tN ξ len (tN ξ len (tN ξ len (tN ξ len n)))))) = (true, (tN ξ len (tN ξ len (tN ξ len (tN ξ len (tN ξ len n)))), upd (addW ρ (tV ξ len (tN ξ len n)) (tV ξ len (tN ξ len (tN ξ len n)))) (44 + 6 * nW ρ + 2) (tV ξ len (tN ξ len (tN ξ len (tN ξ len (tN ξ len n))))))) := by rw [rPer, if_pos hs65]
                  have eR : rWal ξ len n ρ = (true, (tN ξ len (tN ξ len (tN ξ len (tN ξ len (tN ξ len n)))), upd (addW ρ (tV ξ len (tN ξ len n)) (tV ξ len (tN ξ len (tN ξ len n)))) (44 + 6 * nW ρ + 2) (tV ξ len (tN ξ len (tN ξ len (tN ξ len (tN ξ len n))))))) := by rw [rWal, if_neg (fun z => z (by omega)), if_neg (fun z => z hs22), if_neg (fun z => z hs30), eP, if_pos rfl]; exact eQ
                  have e1 := addW_n (cl := tV ξ len (tN ξ len n)) (am := tV ξ len (tN ξ len (tN ξ len n))) hwf (by omega)
                  have eT : nT ρ = nT (upd (addW ρ (tV ξ len (tN ξ len n)) (tV ξ len (tN ξ len (tN ξ len n)))) (44 + 6 * nW ρ + 2) (tV ξ len (tN ξ len (tN ξ len (tN ξ len (tN ξ len n)))))) := by rw [nT_up (by omega), e1.2.1]
                  have eW : nW ρ + 1 = nW (upd (addW ρ (tV ξ len (tN ξ len n)) (tV ξ len (tN ξ len (tN ξ len n)))) (44 + 6 * nW ρ + 2) (tV ξ len (tN ξ len (tN ξ len (tN ξ len (tN ξ len n)))))) := by rw [nW_up (by omega), e1.1]
                  exact q_pvret X hW ⟨r93, _, _, _, _, by rw [eR]; exact ⟨kr93_3, kr93_6, kr93_7, kr93_8, kr93_9, kr93_10, kr93_11, kr93_14, kr93_15, kr93_16⟩, fun _ => by rw [eR]; exact ⟨rfl, eT, eW, (it_walk (by omega)).1, (it_walk (by omega)).2.trans wk_p0, fun q hq => itm_lo hq⟩, rfl⟩ d_R_readWalker_96
                · exact absurd (by decide) c68
            · refine q_cvip X (c_R_number_f l E (qr (qr S 21 ι) 15 τ38) τ38 ξ (by rw [qr_at]) (by rw [qr_ne (by omega), qr_ne (by omega), hξ]) len (tN ξ len (tN ξ len (tN ξ len (tN ξ len n)))) kp mi (nT ρ) (nW ρ) hτ38 (by omega) hlen h0 1 5 hs47) hW (q_recv X hW ds_R rfl) ok_R_number mw_1104 ⟨by decide, by decide⟩ (As := [.int (nI 1), .int (nI 5)]) rfl rfl (Nat.le_of_ble_eq_true rfl) (lv := [(2, .int (tV ξ len (tN ξ len (tN ξ len n)))), (1, .int (tV ξ len (tN ξ len n))), (0, .ref (eA E 70))]) hl ⟨Nat.le_refl 0, Nat.le_refl 0⟩ d_R_readWalker_47 (fun H locs Sq47 hP47 hW => ?_)
              obtain ⟨τ47, hτ47, rfl⟩ := hP47
              have hW : qWH E (qr (qr S 21 ι) 15 τ47) s H locs := (by have h := hW; rw [qr_qr] at h; exact h)
              obtain ⟨kτ47_3, kτ47_6, kτ47_7, kτ47_8, kτ47_9, kτ47_10, kτ47_11, kτ47_14, kτ47_15, kτ47_16⟩ := id hτ47
              have bτ47 := tN_n (σ := ξ) (len := len) (n := (tN ξ len (tN ξ len (tN ξ len (tN ξ len n))))) (by omega)
              have dτ47 := tN_le (σ := ξ) (len := len) (n := (tN ξ len (tN ξ len (tN ξ len (tN ξ len n))))) (by omega)
              have eτ47 := kR_le (σ := ξ) (len := len) (n := (tN ξ len (tN ξ len (tN ξ len (tN ξ len n)))))
              refine lv_goto (tgt := 54) X.x X.b d_R_readWalker_50 (by decide) ?_
              refine lv_istore_n (lv' := [(3, .int (tV ξ len (tN ξ len (tN ξ len (tN ξ len (tN ξ len n)))))), (2, .int (tV ξ len (tN ξ len (tN ξ len n)))), (1, .int (tV ξ len (tN ξ len n))), (0, .ref (eA E 70))]) X.x X.b d_R_readWalker_54 rfl hl (by decide) rfl (fun ls hl => ?_)
              refine lv_aload_n X.x X.b d_R_readWalker_55 rfl (lv_at hl 3 rfl) ?_
              refine lv_bipush (v := nI 10) X.x X.b d_R_readWalker_56 (by decide) ?_
              refine lv_iload_n X.x X.b d_R_readWalker_58 rfl (lv_at hl 2 rfl) ?_
              refine lv_iload_n X.x X.b d_R_readWalker_59 rfl (lv_at hl 1 rfl) ?_
              refine lv_iload_n X.x X.b d_R_readWalker_60 rfl (lv_at hl 0 rfl) ?_
              refine lv_aload_n X.x X.b d_R_readWalker_61 rfl (lv_at hl 3 rfl) ?_
              refine q_ldcsW X (tx := "cares") (i := 9) (by decide) d_R_readWalker_62 ?_
              refine q_cvip X (c_R_takesWord_w l E (qr (qr S 21 ι) 15 τ47) τ47 ξ (by rw [qr_at]) (by rw [qr_ne (by omega), qr_ne (by omega), hξ]) len (tN ξ len (tN ξ len (tN ξ len (tN ξ len n)))) kp mi (nT ρ) (nW ρ) hτ47 (by omega) hlen h0 9 (by omega)) hW (q_recv X hW ds_R rfl) ok_R_takesWord mw_1118 ⟨by decide, by decide⟩ (As := [.ref (eK E 9)]) rfl rfl (Nat.le_of_ble_eq_true rfl) (lv := [(3, .int (tV ξ len (tN ξ len (tN ξ len (tN ξ len (tN ξ len n)))))), (2, .int (tV ξ len (tN ξ len (tN ξ len n)))), (1, .int (tV ξ len (tN ξ len n))), (0, .ref (eA E 70))]) hl ⟨Nat.le_refl 0, Nat.le_refl 0⟩ d_R_readWalker_65 (fun H locs Sq65 hP65 hW => ?_)
              obtain ⟨τ65, hτ65, rfl⟩ := hP65
              have hW : qWH E (qr (qr S 21 ι) 15 τ65) s H locs := (by have h := hW; rw [qr_qr] at h; exact h)
              obtain ⟨kτ65_3, kτ65_6, kτ65_7, kτ65_8, kτ65_9, kτ65_10, kτ65_11, kτ65_14, kτ65_15, kτ65_16⟩ := id hτ65
              have bτ65 := tN_n (σ := ξ) (len := len) (n := (tN ξ len (tN ξ len (tN ξ len (tN ξ len n))))) (by omega)
              have dτ65 := tN_le (σ := ξ) (len := len) (n := (tN ξ len (tN ξ len (tN ξ len (tN ξ len n))))) (by omega)
              have eτ65 := kR_le (σ := ξ) (len := len) (n := (tN ξ len (tN ξ len (tN ξ len (tN ξ len n)))))
              refine lv_if_eq (tgt := 82) X.x X.b d_R_readWalker_68 (by decide) (fun c68 => ?_) (fun c68 => ?_)
              · have c68 : 0 = 0 := (nI_eq (a := 0) (b := 0) (by omega) (by omega)).mp c68
                refine lv_iconst (v := nI 0) X.x X.b d_R_readWalker_82 (by decide) ?_
                refine q_cvvp X (c_R_addItem l E (qr (qr S 21 ι) 15 τ65) τ65 ι (by rw [qr_at]) (by rw [qr_ne (by omega), qr_at]) mi kτ65_14 (by omega) (nI 10) (tV ξ len (tN ξ len n)) (tV ξ len (tN ξ len (tN ξ len n))) (tV ξ len (tN ξ len (tN ξ len (tN ξ len (tN ξ len n))))) (nI 0)) hW (q_recv X hW ds_R rfl) ok_R_addItem mw_1108 ⟨by decide, by decide⟩ (As := [.int (nI 10), .int (tV ξ len (tN ξ len n)), .int (tV ξ len (tN ξ len (tN ξ len n))), .int (tV ξ len (tN ξ len (tN ξ len (tN ξ len (tN ξ len n))))), .int (nI 0)]) rfl rfl (Nat.le_of_ble_eq_true rfl) (lv := [(3, .int (tV ξ len (tN ξ len (tN ξ len (tN ξ len (tN ξ len n)))))), (2, .int (tV ξ len (tN ξ len (tN ξ len n)))), (1, .int (tV ξ len (tN ξ len n))), (0, .ref (eA E 70))]) hl ⟨Nat.le_refl 0, Nat.le_refl 0⟩ d_R_readWalker_83 (fun H locs Sq83 hP83 hW => ?_)
                obtain ⟨τ83, hτ83a, hτ83b, rfl⟩ := hP83
                have hW : qWH E (qr (qr S 21 (itm ι mi (nI 10) (tV ξ len (tN ξ len n)) (tV ξ len (tN ξ len (tN ξ len n))) (tV ξ len (tN ξ len (tN ξ len (tN ξ len (tN ξ len n))))) (nI 0))) 15 τ83) s H locs := (by have h := hW; rw [qr_in (by omega), qr_in (by omega)] at h; exact h)
                have kτ83_3 : τ83 3 = kp := by rw [hτ83b _ (by decide)]; exact kτ65_3
                have kτ83_6 : τ83 6 = nI len := by rw [hτ83b _ (by decide)]; exact kτ65_6
                have kτ83_7 : τ83 7 = nI (tS ξ len (tN ξ len (tN ξ len (tN ξ len (tN ξ len n))))) := by rw [hτ83b _ (by decide)]; exact kτ65_7
                have kτ83_8 : τ83 8 = nI (tN ξ len (tN ξ len (tN ξ len (tN ξ len (tN ξ len n))))) := by rw [hτ83b _ (by decide)]; exact kτ65_8
                have kτ83_9 : τ83 9 = nI (kR (tK ξ len (tN ξ len (tN ξ len (tN ξ len (tN ξ len n)))))) := by rw [hτ83b _ (by decide)]; exact kτ65_9
                have kτ83_10 : τ83 10 = tV ξ len (tN ξ len (tN ξ len (tN ξ len (tN ξ len n)))) := by rw [hτ83b _ (by decide)]; exact kτ65_10
                have kτ83_11 : τ83 11 = nI 1 := by rw [hτ83b _ (by decide)]; exact kτ65_11
                have kτ83_14 := hτ83a
                have kτ83_15 : τ83 15 = nI (nT ρ) := by rw [hτ83b _ (by decide)]; exact kτ65_15
                have kτ83_16 : τ83 16 = nI (nW ρ) := by rw [hτ83b _ (by decide)]; exact kτ65_16
                refine lv_aload_n X.x X.b d_R_readWalker_86 rfl (lv_at hl 3 rfl) ?_
                refine lv_dup X.x X.b d_R_readWalker_87 rfl ?_
                refine g_geti X hW qj4 rfl _ ds_R 16 (by decide) mw_702 rfl (r0 := 15) (p0 := 16) rfl (v := τ83 16) (by rw [qr_at]) d_R_readWalker_88 ?_
                rw [kτ83_16]
                refine lv_iconst (v := nI 1) X.x X.b d_R_readWalker_91 (by decide) ?_
                refine lv_iadd X.x X.b d_R_readWalker_92 ?_
                rw [nI_add]
                refine g_puti X hW qj4 qp4 qn4 rfl _ ds_R 16 (by decide) mw_702 rfl rfl (r0 := 15) (p0 := 16) rfl rfl rfl (ρ := τ83) (by rw [qr_at]) d_R_readWalker_93 (fun H locs hW => ?_)
                obtain ⟨r93, er93⟩ : ∃ z, z = upd τ83 16 (nI ((nW ρ) + 1)) := ⟨_, rfl⟩
                rw [← er93] at hW
                have kr93_10 : r93 10 = tV ξ len (tN ξ len (tN ξ len (tN ξ len (tN ξ len n)))) := by rw [er93, upN (by omega)]; exact kτ83_10
                have kr93_11 : r93 11 = nI 1 := by rw [er93, upN (by omega)]; exact kτ83_11
                have kr93_14 : r93 14 = nI (mi + 1) := by rw [er93, upN (by omega)]; exact kτ83_14
                have kr93_15 : r93 15 = nI (nT ρ) := by rw [er93, upN (by omega)]; exact kτ83_15
                have kr93_16 : r93 16 = nI ((nW ρ) + 1) := by rw [er93, upd_at]
                have kr93_3 : r93 3 = kp := by rw [er93, upN (by omega)]; exact kτ83_3
                have kr93_6 : r93 6 = nI len := by rw [er93, upN (by omega)]; exact kτ83_6
                have kr93_7 : r93 7 = nI (tS ξ len (tN ξ len (tN ξ len (tN ξ len (tN ξ len n))))) := by rw [er93, upN (by omega)]; exact kτ83_7
                have kr93_8 : r93 8 = nI (tN ξ len (tN ξ len (tN ξ len (tN ξ len (tN ξ len n))))) := by rw [er93, upN (by omega)]; exact kτ83_8
                have kr93_9 : r93 9 = nI (kR (tK ξ len (tN ξ len (tN ξ len (tN ξ len (tN ξ len n)))))) := by rw [er93, upN (by omega)]; exact kτ83_9
                rw [qr_qr] at hW
                have eP : rPer ξ len 8 (44 + 6 * nW ρ + 2) 1 5 (tN ξ len (tN ξ len (tN ξ len n))) (addW ρ (tV ξ len (tN ξ len n)) (tV ξ len (tN ξ len (tN ξ len n)))) = (false, (tN ξ len (tN ξ len (tN ξ len (tN ξ len n))), addW ρ (tV ξ len (tN ξ len n)) (tV ξ len (tN ξ len (tN ξ len n))))) := by rw [rPer, if_neg (fun z => z hs38), if_pos hs47]
                have eR : rWal ξ len n ρ = (false, (tN ξ len (tN ξ len (tN ξ len (tN ξ len n))), addW ρ (tV ξ len (tN ξ len n)) (tV ξ len (tN ξ len (tN ξ len n))))) := by rw [rWal, if_neg (fun z => z (by omega)), if_neg (fun z => z hs22), if_neg (fun z => z hs30), eP, if_neg (by exact Bool.false_ne_true)]
                exact q_pvret X hW ⟨r93, _, _, _, _, by rw [eR]; exact ⟨kr93_3, kr93_6, kr93_7, kr93_8, kr93_9, kr93_10, kr93_11, kr93_14, kr93_15, kr93_16⟩, fun z => absurd z (by rw [eR]; exact Bool.false_ne_true), rfl⟩ d_R_readWalker_96
              · exact absurd (by decide) c68
        · refine q_cvip X (c_R_takesWord_f l E (qr (qr S 21 ι) 15 τ30) τ30 ξ (by rw [qr_at]) (by rw [qr_ne (by omega), qr_ne (by omega), hξ]) len (tN ξ len (tN ξ len (tN ξ len n))) kp mi (nT ρ) (nW ρ) hτ30 (by omega) hlen h0 8 (by omega) hs38) hW (q_recv X hW ds_R rfl) ok_R_takesWord mw_1118 ⟨by decide, by decide⟩ (As := [.ref (eK E 8)]) rfl rfl (Nat.le_of_ble_eq_true rfl) (lv := [(2, .int (tV ξ len (tN ξ len (tN ξ len n)))), (1, .int (tV ξ len (tN ξ len n))), (0, .ref (eA E 70))]) hl ⟨Nat.le_refl 0, Nat.le_refl 0⟩ d_R_readWalker_38 (fun H locs Sq38 hP38 hW => ?_)
          obtain ⟨τ38, hτ38, rfl⟩ := hP38
          have hW : qWH E (qr (qr S 21 ι) 15 τ38) s H locs := (by have h := hW; rw [qr_qr] at h; exact h)
          obtain ⟨kτ38_3, kτ38_6, kτ38_7, kτ38_8, kτ38_9, kτ38_10, kτ38_11, kτ38_14, kτ38_15, kτ38_16⟩ := id hτ38
          have bτ38 := tN_n (σ := ξ) (len := len) (n := (tN ξ len (tN ξ len (tN ξ len n)))) (by omega)
          have dτ38 := tN_le (σ := ξ) (len := len) (n := (tN ξ len (tN ξ len (tN ξ len n)))) (by omega)
          have eτ38 := kR_le (σ := ξ) (len := len) (n := (tN ξ len (tN ξ len (tN ξ len n))))
          refine lv_if_eq (tgt := 53) X.x X.b d_R_readWalker_41 (by decide) (fun c41 => ?_) (fun c41 => ?_)
          · have c41 : 0 = 0 := (nI_eq (a := 0) (b := 0) (by omega) (by omega)).mp c41
            refine lv_iconst (v := nI 2) X.x X.b d_R_readWalker_53 (by decide) ?_
            refine lv_istore_n (lv' := [(3, .int (nI 2)), (2, .int (tV ξ len (tN ξ len (tN ξ len n)))), (1, .int (tV ξ len (tN ξ len n))), (0, .ref (eA E 70))]) X.x X.b d_R_readWalker_54 rfl hl (by decide) rfl (fun ls hl => ?_)
            refine lv_aload_n X.x X.b d_R_readWalker_55 rfl (lv_at hl 3 rfl) ?_
            refine lv_bipush (v := nI 10) X.x X.b d_R_readWalker_56 (by decide) ?_
            refine lv_iload_n X.x X.b d_R_readWalker_58 rfl (lv_at hl 2 rfl) ?_
            refine lv_iload_n X.x X.b d_R_readWalker_59 rfl (lv_at hl 1 rfl) ?_
            refine lv_iload_n X.x X.b d_R_readWalker_60 rfl (lv_at hl 0 rfl) ?_
            refine lv_aload_n X.x X.b d_R_readWalker_61 rfl (lv_at hl 3 rfl) ?_
            refine q_ldcsW X (tx := "cares") (i := 9) (by decide) d_R_readWalker_62 ?_
            by_cases hs65 : wrd ξ len (tN ξ len (tN ξ len (tN ξ len n))) 9
            · refine q_cvip X (c_R_takesWord_t l E (qr (qr S 21 ι) 15 τ38) τ38 ξ (by rw [qr_at]) (by rw [qr_ne (by omega), qr_ne (by omega), hξ]) len (tN ξ len (tN ξ len (tN ξ len n))) kp mi (nT ρ) (nW ρ) hτ38 (by omega) hlen h0 9 (by omega) hs65) hW (q_recv X hW ds_R rfl) ok_R_takesWord mw_1118 ⟨by decide, by decide⟩ (As := [.ref (eK E 9)]) rfl rfl (Nat.le_of_ble_eq_true rfl) (lv := [(3, .int (nI 2)), (2, .int (tV ξ len (tN ξ len (tN ξ len n)))), (1, .int (tV ξ len (tN ξ len n))), (0, .ref (eA E 70))]) hl ⟨Nat.le_refl 0, Nat.le_refl 0⟩ d_R_readWalker_65 (fun H locs Sq65 hP65 hW => ?_)
              obtain ⟨τ65, hτ65, rfl⟩ := hP65
              have hW : qWH E (qr (qr S 21 ι) 15 τ65) s H locs := (by have h := hW; rw [qr_qr] at h; exact h)
              obtain ⟨kτ65_3, kτ65_6, kτ65_7, kτ65_8, kτ65_9, kτ65_10, kτ65_11, kτ65_14, kτ65_15, kτ65_16⟩ := id hτ65
              have bτ65 := tN_n (σ := ξ) (len := len) (n := tN ξ len (tN ξ len (tN ξ len (tN ξ len n)))) (by omega)
              have dτ65 := tN_le (σ := ξ) (len := len) (n := tN ξ len (tN ξ len (tN ξ len (tN ξ len n)))) (by omega)
              have eτ65 := kR_le (σ := ξ) (len := len) (n := tN ξ len (tN ξ len (tN ξ len (tN ξ len n))))
              refine lv_if_eq (tgt := 82) X.x X.b d_R_readWalker_68 (by decide) (fun c68 => ?_) (fun c68 => ?_)
              · exact absurd c68 (by decide)
              · have c68 : ¬ 1 = 0 := fun z => c68 ((nI_eq (a := 1) (b := 0) (by omega) (by omega)).mpr z)
                refine lv_aload_n X.x X.b d_R_readWalker_71 rfl (lv_at hl 3 rfl) ?_
                refine lv_iconst (v := nI 0) X.x X.b d_R_readWalker_72 (by decide) ?_
                refine lv_sipush (v := nI 255) X.x X.b d_R_readWalker_73 (by decide) ?_
                by_cases hs76 : num ξ len (tN ξ len (tN ξ len (tN ξ len (tN ξ len n)))) 0 255
                · refine q_cvip X (c_R_number_t l E (qr (qr S 21 ι) 15 τ65) τ65 ξ (by rw [qr_at]) (by rw [qr_ne (by omega), qr_ne (by omega), hξ]) len (tN ξ len (tN ξ len (tN ξ len (tN ξ len n)))) kp mi (nT ρ) (nW ρ) hτ65 (by omega) hlen h0 0 255 hs76) hW (q_recv X hW ds_R rfl) ok_R_number mw_1104 ⟨by decide, by decide⟩ (As := [.int (nI 0), .int (nI 255)]) rfl rfl (Nat.le_of_ble_eq_true rfl) (lv := [(3, .int (nI 2)), (2, .int (tV ξ len (tN ξ len (tN ξ len n)))), (1, .int (tV ξ len (tN ξ len n))), (0, .ref (eA E 70))]) hl ⟨Nat.le_refl 0, Nat.le_refl 0⟩ d_R_readWalker_76 (fun H locs Sq76 hP76 hW => ?_)
                  obtain ⟨τ76, hτ76, rfl⟩ := hP76
                  have hW : qWH E (qr (qr S 21 ι) 15 τ76) s H locs := (by have h := hW; rw [qr_qr] at h; exact h)
                  obtain ⟨kτ76_3, kτ76_6, kτ76_7, kτ76_8, kτ76_9, kτ76_10, kτ76_11, kτ76_14, kτ76_15, kτ76_16⟩ := id hτ76
                  have bτ76 := tN_n (σ := ξ) (len := len) (n := tN ξ len (tN ξ len (tN ξ len (tN ξ len (tN ξ len n))))) (by omega)
                  have dτ76 := tN_le (σ := ξ) (len := len) (n := tN ξ len (tN ξ len (tN ξ len (tN ξ len (tN ξ len n))))) (by omega)
                  have eτ76 := kR_le (σ := ξ) (len := len) (n := tN ξ len (tN ξ len (tN ξ len (tN ξ len (tN ξ len n)))))
                  refine lv_goto (tgt := 83) X.x X.b d_R_readWalker_79 (by decide) ?_
                  refine q_cvvp X (c_R_addItem l E (qr (qr S 21 ι) 15 τ76) τ76 ι (by rw [qr_at]) (by rw [qr_ne (by omega), qr_at]) mi kτ76_14 (by omega) (nI 10) (tV ξ len (tN ξ len n)) (tV ξ len (tN ξ len (tN ξ len n))) (nI 2) (tV ξ len (tN ξ len (tN ξ len (tN ξ len (tN ξ len n)))))) hW (q_recv X hW ds_R rfl) ok_R_addItem mw_1108 ⟨by decide, by decide⟩ (As := [.int (nI 10), .int (tV ξ len (tN ξ len n)), .int (tV ξ len (tN ξ len (tN ξ len n))), .int (nI 2), .int (tV ξ len (tN ξ len (tN ξ len (tN ξ len (tN ξ len n)))))]) rfl rfl (Nat.le_of_ble_eq_true rfl) (lv := [(3, .int (nI 2)), (2, .int (tV ξ len (tN ξ len (tN ξ len n)))), (1, .int (tV ξ len (tN ξ len n))), (0, .ref (eA E 70))]) hl ⟨Nat.le_refl 0, Nat.le_refl 0⟩ d_R_readWalker_83 (fun H locs Sq83 hP83 hW => ?_)
                  obtain ⟨τ83, hτ83a, hτ83b, rfl⟩ := hP83
                  have hW : qWH E (qr (qr S 21 (itm ι mi (nI 10) (tV ξ len (tN ξ len n)) (tV ξ len (tN ξ len (tN ξ len n))) (nI 2) (tV ξ len (tN ξ len (tN ξ len (tN ξ len (tN ξ len n))))))) 15 τ83) s H locs := (by have h := hW; rw [qr_in (by omega), qr_in (by omega)] at h; exact h)
                  have kτ83_3 : τ83 3 = kp := by rw [hτ83b _ (by decide)]; exact kτ76_3
                  have kτ83_6 : τ83 6 = nI len := by rw [hτ83b _ (by decide)]; exact kτ76_6
                  have kτ83_7 : τ83 7 = nI (tS ξ len (tN ξ len (tN ξ len (tN ξ len (tN ξ len (tN ξ len n)))))) := by rw [hτ83b _ (by decide)]; exact kτ76_7
                  have kτ83_8 : τ83 8 = nI (tN ξ len (tN ξ len (tN ξ len (tN ξ len (tN ξ len (tN ξ len n)))))) := by rw [hτ83b _ (by decide)]; exact kτ76_8
                  have kτ83_9 : τ83 9 = nI (kR (tK ξ len (tN ξ len (tN ξ len (tN ξ len (tN ξ len (tN ξ len n))))))) := by rw [hτ83b _ (by decide)]; exact kτ76_9
                  have kτ83_10 : τ83 10 = tV ξ len (tN ξ len (tN ξ len (tN ξ len (tN ξ len (tN ξ len n))))) := by rw [hτ83b _ (by decide)]; exact kτ76_10
                  have kτ83_11 : τ83 11 = nI 0 := by rw [hτ83b _ (by decide)]; exact kτ76_11
                  have kτ83_14 := hτ83a
                  have kτ83_15 : τ83 15 = nI (nT ρ) := by rw [hτ83b _ (by decide)]; exact kτ76_15
                  have kτ83_16 : τ83 16 = nI (nW ρ) := by rw [hτ83b _ (by decide)]; exact kτ76_16
                  refine lv_aload_n X.x X.b d_R_readWalker_86 rfl (lv_at hl 3 rfl) ?_
                  refine lv_dup X.x X.b d_R_readWalker_87 rfl ?_
                  refine g_geti X hW qj4 rfl _ ds_R 16 (by decide) mw_702 rfl (r0 := 15) (p0 := 16) rfl (v := τ83 16) (by rw [qr_at]) d_R_readWalker_88 ?_
                  rw [kτ83_16]
                  refine lv_iconst (v := nI 1) X.x X.b d_R_readWalker_91 (by decide) ?_
                  refine lv_iadd X.x X.b d_R_readWalker_92 ?_
                  rw [nI_add]
                  refine g_puti X hW qj4 qp4 qn4 rfl _ ds_R 16 (by decide) mw_702 rfl rfl (r0 := 15) (p0 := 16) rfl rfl rfl (ρ := τ83) (by rw [qr_at]) d_R_readWalker_93 (fun H locs hW => ?_)
                  obtain ⟨r93, er93⟩ : ∃ z, z = upd τ83 16 (nI ((nW ρ) + 1)) := ⟨_, rfl⟩
                  rw [← er93] at hW
                  have kr93_10 : r93 10 = tV ξ len (tN ξ len (tN ξ len (tN ξ len (tN ξ len (tN ξ len n))))) := by rw [er93, upN (by omega)]; exact kτ83_10
                  have kr93_11 : r93 11 = nI 0 := by rw [er93, upN (by omega)]; exact kτ83_11
                  have kr93_14 : r93 14 = nI (mi + 1) := by rw [er93, upN (by omega)]; exact kτ83_14
                  have kr93_15 : r93 15 = nI (nT ρ) := by rw [er93, upN (by omega)]; exact kτ83_15
                  have kr93_16 : r93 16 = nI ((nW ρ) + 1) := by rw [er93, upd_at]
                  have kr93_3 : r93 3 = kp := by rw [er93, upN (by omega)]; exact kτ83_3
                  have kr93_6 : r93 6 = nI len := by rw [er93, upN (by omega)]; exact kτ83_6
                  have kr93_7 : r93 7 = nI (tS ξ len (tN ξ len (tN ξ len (tN ξ len (tN ξ len (tN ξ len n)))))) := by rw [er93, upN (by omega)]; exact kτ83_7
                  have kr93_8 : r93 8 = nI (tN ξ len (tN ξ len (tN ξ len (tN ξ len (tN ξ len (tN ξ len n)))))) := by rw [er93, upN (by omega)]; exact kτ83_8
                  have kr93_9 : r93 9 = nI (kR (tK ξ len (tN ξ len (tN ξ len (tN ξ len (tN ξ len (tN ξ len n))))))) := by rw [er93, upN (by omega)]; exact kτ83_9
                  rw [qr_qr] at hW
                  have eP : rPer ξ len 8 (44 + 6 * nW ρ + 2) 1 5 (tN ξ len (tN ξ len (tN ξ len n))) (addW ρ (tV ξ len (tN ξ len n)) (tV ξ len (tN ξ len (tN ξ len n)))) = (true, (tN ξ len (tN ξ len (tN ξ len n)), addW ρ (tV ξ len (tN ξ len n)) (tV ξ len (tN ξ len (tN ξ len n))))) := by rw [rPer, if_pos hs38]
                  have eQ : rPer ξ len 9 (44 + 6 * nW ρ + 3) 0 255 (tN ξ len (tN ξ len (tN ξ len n))) (addW ρ (tV ξ len (tN ξ len n)) (tV ξ len (tN ξ len (tN ξ len n)))) = (true, (tN ξ len (tN ξ len (tN ξ len (tN ξ len (tN ξ len n)))), upd (addW ρ (tV ξ len (tN ξ len n)) (tV ξ len (tN ξ len (tN ξ len n)))) (44 + 6 * nW ρ + 3) (tV ξ len (tN ξ len (tN ξ len (tN ξ len (tN ξ len n))))))) := by rw [rPer, if_neg (fun z => z hs65), if_neg (fun z => z hs76)]
                  have eR : rWal ξ len n ρ = (true, (tN ξ len (tN ξ len (tN ξ len (tN ξ len (tN ξ len n)))), upd (addW ρ (tV ξ len (tN ξ len n)) (tV ξ len (tN ξ len (tN ξ len n)))) (44 + 6 * nW ρ + 3) (tV ξ len (tN ξ len (tN ξ len (tN ξ len (tN ξ len n))))))) := by rw [rWal, if_neg (fun z => z (by omega)), if_neg (fun z => z hs22), if_neg (fun z => z hs30), eP, if_pos rfl]; exact eQ
                  have e1 := addW_n (cl := tV ξ len (tN ξ len n)) (am := tV ξ len (tN ξ len (tN ξ len n))) hwf (by omega)
                  have eT : nT ρ = nT (upd (addW ρ (tV ξ len (tN ξ len n)) (tV ξ len (tN ξ len (tN ξ len n)))) (44 + 6 * nW ρ + 3) (tV ξ len (tN ξ len (tN ξ len (tN ξ len (tN ξ len n)))))) := by rw [nT_up (by omega), e1.2.1]
                  have eW : nW ρ + 1 = nW (upd (addW ρ (tV ξ len (tN ξ len n)) (tV ξ len (tN ξ len (tN ξ len n)))) (44 + 6 * nW ρ + 3) (tV ξ len (tN ξ len (tN ξ len (tN ξ len (tN ξ len n)))))) := by rw [nW_up (by omega), e1.1]
                  exact q_pvret X hW ⟨r93, _, _, _, _, by rw [eR]; exact ⟨kr93_3, kr93_6, kr93_7, kr93_8, kr93_9, kr93_10, kr93_11, kr93_14, kr93_15, kr93_16⟩, fun _ => by rw [eR]; exact ⟨rfl, eT, eW, (it_walk (by omega)).1, (it_walk (by omega)).2.trans wk_2c, fun q hq => itm_lo hq⟩, rfl⟩ d_R_readWalker_96
                · refine q_cvip X (c_R_number_f l E (qr (qr S 21 ι) 15 τ65) τ65 ξ (by rw [qr_at]) (by rw [qr_ne (by omega), qr_ne (by omega), hξ]) len (tN ξ len (tN ξ len (tN ξ len (tN ξ len n)))) kp mi (nT ρ) (nW ρ) hτ65 (by omega) hlen h0 0 255 hs76) hW (q_recv X hW ds_R rfl) ok_R_number mw_1104 ⟨by decide, by decide⟩ (As := [.int (nI 0), .int (nI 255)]) rfl rfl (Nat.le_of_ble_eq_true rfl) (lv := [(3, .int (nI 2)), (2, .int (tV ξ len (tN ξ len (tN ξ len n)))), (1, .int (tV ξ len (tN ξ len n))), (0, .ref (eA E 70))]) hl ⟨Nat.le_refl 0, Nat.le_refl 0⟩ d_R_readWalker_76 (fun H locs Sq76 hP76 hW => ?_)
                  obtain ⟨τ76, hτ76, rfl⟩ := hP76
                  have hW : qWH E (qr (qr S 21 ι) 15 τ76) s H locs := (by have h := hW; rw [qr_qr] at h; exact h)
                  obtain ⟨kτ76_3, kτ76_6, kτ76_7, kτ76_8, kτ76_9, kτ76_10, kτ76_11, kτ76_14, kτ76_15, kτ76_16⟩ := id hτ76
                  have bτ76 := tN_n (σ := ξ) (len := len) (n := (tN ξ len (tN ξ len (tN ξ len (tN ξ len n))))) (by omega)
                  have dτ76 := tN_le (σ := ξ) (len := len) (n := (tN ξ len (tN ξ len (tN ξ len (tN ξ len n))))) (by omega)
                  have eτ76 := kR_le (σ := ξ) (len := len) (n := (tN ξ len (tN ξ len (tN ξ len (tN ξ len n)))))
                  refine lv_goto (tgt := 83) X.x X.b d_R_readWalker_79 (by decide) ?_
                  refine q_cvvp X (c_R_addItem l E (qr (qr S 21 ι) 15 τ76) τ76 ι (by rw [qr_at]) (by rw [qr_ne (by omega), qr_at]) mi kτ76_14 (by omega) (nI 10) (tV ξ len (tN ξ len n)) (tV ξ len (tN ξ len (tN ξ len n))) (nI 2) (tV ξ len (tN ξ len (tN ξ len (tN ξ len (tN ξ len n)))))) hW (q_recv X hW ds_R rfl) ok_R_addItem mw_1108 ⟨by decide, by decide⟩ (As := [.int (nI 10), .int (tV ξ len (tN ξ len n)), .int (tV ξ len (tN ξ len (tN ξ len n))), .int (nI 2), .int (tV ξ len (tN ξ len (tN ξ len (tN ξ len (tN ξ len n)))))]) rfl rfl (Nat.le_of_ble_eq_true rfl) (lv := [(3, .int (nI 2)), (2, .int (tV ξ len (tN ξ len (tN ξ len n)))), (1, .int (tV ξ len (tN ξ len n))), (0, .ref (eA E 70))]) hl ⟨Nat.le_refl 0, Nat.le_refl 0⟩ d_R_readWalker_83 (fun H locs Sq83 hP83 hW => ?_)
                  obtain ⟨τ83, hτ83a, hτ83b, rfl⟩ := hP83
                  have hW : qWH E (qr (qr S 21 (itm ι mi (nI 10) (tV ξ len (tN ξ len n)) (tV ξ len (tN ξ len (tN ξ len n))) (nI 2) (tV ξ len (tN ξ len (tN ξ len (tN ξ len (tN ξ len n))))))) 15 τ83) s H locs := (by have h := hW; rw [qr_in (by omega), qr_in (by omega)] at h; exact h)
                  have kτ83_3 : τ83 3 = kp := by rw [hτ83b _ (by decide)]; exact kτ76_3
                  have kτ83_6 : τ83 6 = nI len := by rw [hτ83b _ (by decide)]; exact kτ76_6
                  have kτ83_7 : τ83 7 = nI (tS ξ len (tN ξ len (tN ξ len (tN ξ len (tN ξ len n))))) := by rw [hτ83b _ (by decide)]; exact kτ76_7
                  have kτ83_8 : τ83 8 = nI (tN ξ len (tN ξ len (tN ξ len (tN ξ len (tN ξ len n))))) := by rw [hτ83b _ (by decide)]; exact kτ76_8
                  have kτ83_9 : τ83 9 = nI (kR (tK ξ len (tN ξ len (tN ξ len (tN ξ len (tN ξ len n)))))) := by rw [hτ83b _ (by decide)]; exact kτ76_9
                  have kτ83_10 : τ83 10 = tV ξ len (tN ξ len (tN ξ len (tN ξ len (tN ξ len n)))) := by rw [hτ83b _ (by decide)]; exact kτ76_10
                  have kτ83_11 : τ83 11 = nI 1 := by rw [hτ83b _ (by decide)]; exact kτ76_11
                  have kτ83_14 := hτ83a
                  have kτ83_15 : τ83 15 = nI (nT ρ) := by rw [hτ83b _ (by decide)]; exact kτ76_15
                  have kτ83_16 : τ83 16 = nI (nW ρ) := by rw [hτ83b _ (by decide)]; exact kτ76_16
                  refine lv_aload_n X.x X.b d_R_readWalker_86 rfl (lv_at hl 3 rfl) ?_
                  refine lv_dup X.x X.b d_R_readWalker_87 rfl ?_
                  refine g_geti X hW qj4 rfl _ ds_R 16 (by decide) mw_702 rfl (r0 := 15) (p0 := 16) rfl (v := τ83 16) (by rw [qr_at]) d_R_readWalker_88 ?_
                  rw [kτ83_16]
                  refine lv_iconst (v := nI 1) X.x X.b d_R_readWalker_91 (by decide) ?_
                  refine lv_iadd X.x X.b d_R_readWalker_92 ?_
                  rw [nI_add]
                  refine g_puti X hW qj4 qp4 qn4 rfl _ ds_R 16 (by decide) mw_702 rfl rfl (r0 := 15) (p0 := 16) rfl rfl rfl (ρ := τ83) (by rw [qr_at]) d_R_readWalker_93 (fun H locs hW => ?_)
                  obtain ⟨r93, er93⟩ : ∃ z, z = upd τ83 16 (nI ((nW ρ) + 1)) := ⟨_, rfl⟩
                  rw [← er93] at hW
                  have kr93_10 : r93 10 = tV ξ len (tN ξ len (tN ξ len (tN ξ len (tN ξ len n)))) := by rw [er93, upN (by omega)]; exact kτ83_10
                  have kr93_11 : r93 11 = nI 1 := by rw [er93, upN (by omega)]; exact kτ83_11
                  have kr93_14 : r93 14 = nI (mi + 1) := by rw [er93, upN (by omega)]; exact kτ83_14
                  have kr93_15 : r93 15 = nI (nT ρ) := by rw [er93, upN (by omega)]; exact kτ83_15
                  have kr93_16 : r93 16 = nI ((nW ρ) + 1) := by rw [er93, upd_at]
                  have kr93_3 : r93 3 = kp := by rw [er93, upN (by omega)]; exact kτ83_3
                  have kr93_6 : r93 6 = nI len := by rw [er93, upN (by omega)]; exact kτ83_6
                  have kr93_7 : r93 7 = nI (tS ξ len (tN ξ len (tN ξ len (tN ξ len (tN ξ len n))))) := by rw [er93, upN (by omega)]; exact kτ83_7
                  have kr93_8 : r93 8 = nI (tN ξ len (tN ξ len (tN ξ len (tN ξ len (tN ξ len n))))) := by rw [er93, upN (by omega)]; exact kτ83_8
                  have kr93_9 : r93 9 = nI (kR (tK ξ len (tN ξ len (tN ξ len (tN ξ len (tN ξ len n)))))) := by rw [er93, upN (by omega)]; exact kτ83_9
                  rw [qr_qr] at hW
                  have eP : rPer ξ len 8 (44 + 6 * nW ρ + 2) 1 5 (tN ξ len (tN ξ len (tN ξ len n))) (addW ρ (tV ξ len (tN ξ len n)) (tV ξ len (tN ξ len (tN ξ len n)))) = (true, (tN ξ len (tN ξ len (tN ξ len n)), addW ρ (tV ξ len (tN ξ len n)) (tV ξ len (tN ξ len (tN ξ len n))))) := by rw [rPer, if_pos hs38]
                  have eQ : rPer ξ len 9 (44 + 6 * nW ρ + 3) 0 255 (tN ξ len (tN ξ len (tN ξ len n))) (addW ρ (tV ξ len (tN ξ len n)) (tV ξ len (tN ξ len (tN ξ len n)))) = (false, (tN ξ len (tN ξ len (tN ξ len (tN ξ len n))), addW ρ (tV ξ len (tN ξ len n)) (tV ξ len (tN ξ len (tN ξ len n))))) := by rw [rPer, if_neg (fun z => z hs65), if_pos hs76]
                  have eR : rWal ξ len n ρ = (false, (tN ξ len (tN ξ len (tN ξ len (tN ξ len n))), addW ρ (tV ξ len (tN ξ len n)) (tV ξ len (tN ξ len (tN ξ len n))))) := by rw [rWal, if_neg (fun z => z (by omega)), if_neg (fun z => z hs22), if_neg (fun z => z hs30), eP, if_pos rfl]; exact eQ
                  exact q_pvret X hW ⟨r93, _, _, _, _, by rw [eR]; exact ⟨kr93_3, kr93_6, kr93_7, kr93_8, kr93_9, kr93_10, kr93_11, kr93_14, kr93_15, kr93_16⟩, fun z => absurd z (by rw [eR]; exact Bool.false_ne_true), rfl⟩ d_R_readWalker_96
            · refine q_cvip X (c_R_takesWord_f l E (qr (qr S 21 ι) 15 τ38) τ38 ξ (by rw [qr_at]) (by rw [qr_ne (by omega), qr_ne (by omega), hξ]) len (tN ξ len (tN ξ len (tN ξ len n))) kp mi (nT ρ) (nW ρ) hτ38 (by omega) hlen h0 9 (by omega) hs65) hW (q_recv X hW ds_R rfl) ok_R_takesWord mw_1118 ⟨by decide, by decide⟩ (As := [.ref (eK E 9)]) rfl rfl (Nat.le_of_ble_eq_true rfl) (lv := [(3, .int (nI 2)), (2, .int (tV ξ len (tN ξ len (tN ξ len n)))), (1, .int (tV ξ len (tN ξ len n))), (0, .ref (eA E 70))]) hl ⟨Nat.le_refl 0, Nat.le_refl 0⟩ d_R_readWalker_65 (fun H locs Sq65 hP65 hW => ?_)
              obtain ⟨τ65, hτ65, rfl⟩ := hP65
              have hW : qWH E (qr (qr S 21 ι) 15 τ65) s H locs := (by have h := hW; rw [qr_qr] at h; exact h)
              obtain ⟨kτ65_3, kτ65_6, kτ65_7, kτ65_8, kτ65_9, kτ65_10, kτ65_11, kτ65_14, kτ65_15, kτ65_16⟩ := id hτ65
              have bτ65 := tN_n (σ := ξ) (len := len) (n := (tN ξ len (tN ξ len (tN ξ len n)))) (by omega)
              have dτ65 := tN_le (σ := ξ) (len := len) (n := (tN ξ len (tN ξ len (tN ξ len n)))) (by omega)
              have eτ65 := kR_le (σ := ξ) (len := len) (n := (tN ξ len (tN ξ len (tN ξ len n))))
              refine lv_if_eq (tgt := 82) X.x X.b d_R_readWalker_68 (by decide) (fun c68 => ?_) (fun c68 => ?_)
              · have c68 : 0 = 0 := (nI_eq (a := 0) (b := 0) (by omega) (by omega)).mp c68
                refine lv_iconst (v := nI 0) X.x X.b d_R_readWalker_82 (by decide) ?_
                refine q_cvvp X (c_R_addItem l E (qr (qr S 21 ι) 15 τ65) τ65 ι (by rw [qr_at]) (by rw [qr_ne (by omega), qr_at]) mi kτ65_14 (by omega) (nI 10) (tV ξ len (tN ξ len n)) (tV ξ len (tN ξ len (tN ξ len n))) (nI 2) (nI 0)) hW (q_recv X hW ds_R rfl) ok_R_addItem mw_1108 ⟨by decide, by decide⟩ (As := [.int (nI 10), .int (tV ξ len (tN ξ len n)), .int (tV ξ len (tN ξ len (tN ξ len n))), .int (nI 2), .int (nI 0)]) rfl rfl (Nat.le_of_ble_eq_true rfl) (lv := [(3, .int (nI 2)), (2, .int (tV ξ len (tN ξ len (tN ξ len n)))), (1, .int (tV ξ len (tN ξ len n))), (0, .ref (eA E 70))]) hl ⟨Nat.le_refl 0, Nat.le_refl 0⟩ d_R_readWalker_83 (fun H locs Sq83 hP83 hW => ?_)
                obtain ⟨τ83, hτ83a, hτ83b, rfl⟩ := hP83
                have hW : qWH E (qr (qr S 21 (itm ι mi (nI 10) (tV ξ len (tN ξ len n)) (tV ξ len (tN ξ len (tN ξ len n))) (nI 2) (nI 0))) 15 τ83) s H locs := (by have h := hW; rw [qr_in (by omega), qr_in (by omega)] at h; exact h)
                have kτ83_3 : τ83 3 = kp := by rw [hτ83b _ (by decide)]; exact kτ65_3
                have kτ83_6 : τ83 6 = nI len := by rw [hτ83b _ (by decide)]; exact kτ65_6
                have kτ83_7 : τ83 7 = nI (tS ξ len (tN ξ len (tN ξ len (tN ξ len n)))) := by rw [hτ83b _ (by decide)]; exact kτ65_7
                have kτ83_8 : τ83 8 = nI (tN ξ len (tN ξ len (tN ξ len (tN ξ len n)))) := by rw [hτ83b _ (by decide)]; exact kτ65_8
                have kτ83_9 : τ83 9 = nI (kR (tK ξ len (tN ξ len (tN ξ len (tN ξ len n))))) := by rw [hτ83b _ (by decide)]; exact kτ65_9
                have kτ83_10 : τ83 10 = tV ξ len (tN ξ len (tN ξ len (tN ξ len n))) := by rw [hτ83b _ (by decide)]; exact kτ65_10
                have kτ83_11 : τ83 11 = nI 0 := by rw [hτ83b _ (by decide)]; exact kτ65_11
                have kτ83_14 := hτ83a
                have kτ83_15 : τ83 15 = nI (nT ρ) := by rw [hτ83b _ (by decide)]; exact kτ65_15
                have kτ83_16 : τ83 16 = nI (nW ρ) := by rw [hτ83b _ (by decide)]; exact kτ65_16
                refine lv_aload_n X.x X.b d_R_readWalker_86 rfl (lv_at hl 3 rfl) ?_
                refine lv_dup X.x X.b d_R_readWalker_87 rfl ?_
                refine g_geti X hW qj4 rfl _ ds_R 16 (by decide) mw_702 rfl (r0 := 15) (p0 := 16) rfl (v := τ83 16) (by rw [qr_at]) d_R_readWalker_88 ?_
                rw [kτ83_16]
                refine lv_iconst (v := nI 1) X.x X.b d_R_readWalker_91 (by decide) ?_
                refine lv_iadd X.x X.b d_R_readWalker_92 ?_
                rw [nI_add]
                refine g_puti X hW qj4 qp4 qn4 rfl _ ds_R 16 (by decide) mw_702 rfl rfl (r0 := 15) (p0 := 16) rfl rfl rfl (ρ := τ83) (by rw [qr_at]) d_R_readWalker_93 (fun H locs hW => ?_)
                obtain ⟨r93, er93⟩ : ∃ z, z = upd τ83 16 (nI ((nW ρ) + 1)) := ⟨_, rfl⟩
                rw [← er93] at hW
                have kr93_10 : r93 10 = tV ξ len (tN ξ len (tN ξ len (tN ξ len n))) := by rw [er93, upN (by omega)]; exact kτ83_10
                have kr93_11 : r93 11 = nI 0 := by rw [er93, upN (by omega)]; exact kτ83_11
                have kr93_14 : r93 14 = nI (mi + 1) := by rw [er93, upN (by omega)]; exact kτ83_14
                have kr93_15 : r93 15 = nI (nT ρ) := by rw [er93, upN (by omega)]; exact kτ83_15
                have kr93_16 : r93 16 = nI ((nW ρ) + 1) := by rw [er93, upd_at]
                have kr93_3 : r93 3 = kp := by rw [er93, upN (by omega)]; exact kτ83_3
                have kr93_6 : r93 6 = nI len := by rw [er93, upN (by omega)]; exact kτ83_6
                have kr93_7 : r93 7 = nI (tS ξ len (tN ξ len (tN ξ len (tN ξ len n)))) := by rw [er93, upN (by omega)]; exact kτ83_7
                have kr93_8 : r93 8 = nI (tN ξ len (tN ξ len (tN ξ len (tN ξ len n)))) := by rw [er93, upN (by omega)]; exact kτ83_8
                have kr93_9 : r93 9 = nI (kR (tK ξ len (tN ξ len (tN ξ len (tN ξ len n))))) := by rw [er93, upN (by omega)]; exact kτ83_9
                rw [qr_qr] at hW
                have eP : rPer ξ len 8 (44 + 6 * nW ρ + 2) 1 5 (tN ξ len (tN ξ len (tN ξ len n))) (addW ρ (tV ξ len (tN ξ len n)) (tV ξ len (tN ξ len (tN ξ len n)))) = (true, (tN ξ len (tN ξ len (tN ξ len n)), addW ρ (tV ξ len (tN ξ len n)) (tV ξ len (tN ξ len (tN ξ len n))))) := by rw [rPer, if_pos hs38]
                have eQ : rPer ξ len 9 (44 + 6 * nW ρ + 3) 0 255 (tN ξ len (tN ξ len (tN ξ len n))) (addW ρ (tV ξ len (tN ξ len n)) (tV ξ len (tN ξ len (tN ξ len n)))) = (true, (tN ξ len (tN ξ len (tN ξ len n)), addW ρ (tV ξ len (tN ξ len n)) (tV ξ len (tN ξ len (tN ξ len n))))) := by rw [rPer, if_pos hs65]
                have eR : rWal ξ len n ρ = (true, (tN ξ len (tN ξ len (tN ξ len n)), addW ρ (tV ξ len (tN ξ len n)) (tV ξ len (tN ξ len (tN ξ len n))))) := by rw [rWal, if_neg (fun z => z (by omega)), if_neg (fun z => z hs22), if_neg (fun z => z hs30), eP, if_pos rfl]; exact eQ
                have e1 := addW_n (cl := tV ξ len (tN ξ len n)) (am := tV ξ len (tN ξ len (tN ξ len n))) hwf (by omega)
                have eT : nT ρ = nT (addW ρ (tV ξ len (tN ξ len n)) (tV ξ len (tN ξ len (tN ξ len n)))) := by rw [e1.2.1]
                have eW : nW ρ + 1 = nW (addW ρ (tV ξ len (tN ξ len n)) (tV ξ len (tN ξ len (tN ξ len n)))) := by rw [e1.1]
                exact q_pvret X hW ⟨r93, _, _, _, _, by rw [eR]; exact ⟨kr93_3, kr93_6, kr93_7, kr93_8, kr93_9, kr93_10, kr93_11, kr93_14, kr93_15, kr93_16⟩, fun _ => by rw [eR]; exact ⟨rfl, eT, eW, (it_walk (by omega)).1, (it_walk (by omega)).2.trans wk_22, fun q hq => itm_lo hq⟩, rfl⟩ d_R_readWalker_96
              · exact absurd (by decide) c68
          · exact absurd (by decide) c41
      · refine q_cvip X (c_R_number_f l E (qr (qr S 21 ι) 15 τ22) τ22 ξ (by rw [qr_at]) (by rw [qr_ne (by omega), qr_ne (by omega), hξ]) len (tN ξ len (tN ξ len n)) kp mi (nT ρ) (nW ρ) hτ22 (by omega) hlen h0 0 7 hs30) hW (q_recv X hW ds_R rfl) ok_R_number mw_1104 ⟨by decide, by decide⟩ (As := [.int (nI 0), .int (nI 7)]) rfl rfl (Nat.le_of_ble_eq_true rfl) (lv := [(1, .int (tV ξ len (tN ξ len n))), (0, .ref (eA E 70))]) hl ⟨Nat.le_refl 0, Nat.le_refl 0⟩ d_R_readWalker_30 (fun H locs Sq30 hP30 hW => ?_)
        obtain ⟨τ30, hτ30, rfl⟩ := hP30
        have hW : qWH E (qr (qr S 21 ι) 15 τ30) s H locs := (by have h := hW; rw [qr_qr] at h; exact h)
        obtain ⟨kτ30_3, kτ30_6, kτ30_7, kτ30_8, kτ30_9, kτ30_10, kτ30_11, kτ30_14, kτ30_15, kτ30_16⟩ := id hτ30
        have bτ30 := tN_n (σ := ξ) (len := len) (n := (tN ξ len (tN ξ len n))) (by omega)
        have dτ30 := tN_le (σ := ξ) (len := len) (n := (tN ξ len (tN ξ len n))) (by omega)
        have eτ30 := kR_le (σ := ξ) (len := len) (n := (tN ξ len (tN ξ len n)))
        refine lv_istore_n (lv' := [(2, .int (tV ξ len (tN ξ len (tN ξ len n)))), (1, .int (tV ξ len (tN ξ len n))), (0, .ref (eA E 70))]) X.x X.b d_R_readWalker_33 rfl hl (by decide) rfl (fun ls hl => ?_)
        refine lv_aload_n X.x X.b d_R_readWalker_34 rfl (lv_at hl 2 rfl) ?_
        refine q_ldcsW X (tx := "pace") (i := 8) (by decide) d_R_readWalker_35 ?_
        refine q_cvip X (c_R_takesWord_w l E (qr (qr S 21 ι) 15 τ30) τ30 ξ (by rw [qr_at]) (by rw [qr_ne (by omega), qr_ne (by omega), hξ]) len (tN ξ len (tN ξ len n)) kp mi (nT ρ) (nW ρ) hτ30 (by omega) hlen h0 8 (by omega)) hW (q_recv X hW ds_R rfl) ok_R_takesWord mw_1118 ⟨by decide, by decide⟩ (As := [.ref (eK E 8)]) rfl rfl (Nat.le_of_ble_eq_true rfl) (lv := [(2, .int (tV ξ len (tN ξ len (tN ξ len n)))), (1, .int (tV ξ len (tN ξ len n))), (0, .ref (eA E 70))]) hl ⟨Nat.le_refl 0, Nat.le_refl 0⟩ d_R_readWalker_38 (fun H locs Sq38 hP38 hW => ?_)
        obtain ⟨τ38, hτ38, rfl⟩ := hP38
        have hW : qWH E (qr (qr S 21 ι) 15 τ38) s H locs := (by have h := hW; rw [qr_qr] at h; exact h)
        obtain ⟨kτ38_3, kτ38_6, kτ38_7, kτ38_8, kτ38_9, kτ38_10, kτ38_11, kτ38_14, kτ38_15, kτ38_16⟩ := id hτ38
        have bτ38 := tN_n (σ := ξ) (len := len) (n := (tN ξ len (tN ξ len n))) (by omega)
        have dτ38 := tN_le (σ := ξ) (len := len) (n := (tN ξ len (tN ξ len n))) (by omega)
        have eτ38 := kR_le (σ := ξ) (len := len) (n := (tN ξ len (tN ξ len n)))
        refine lv_if_eq (tgt := 53) X.x X.b d_R_readWalker_41 (by decide) (fun c41 => ?_) (fun c41 => ?_)
        · have c41 : 0 = 0 := (nI_eq (a := 0) (b := 0) (by omega) (by omega)).mp c41
          refine lv_iconst (v := nI 2) X.x X.b d_R_readWalker_53 (by decide) ?_
          refine lv_istore_n (lv' := [(3, .int (nI 2)), (2, .int (tV ξ len (tN ξ len (tN ξ len n)))), (1, .int (tV ξ len (tN ξ len n))), (0, .ref (eA E 70))]) X.x X.b d_R_readWalker_54 rfl hl (by decide) rfl (fun ls hl => ?_)
          refine lv_aload_n X.x X.b d_R_readWalker_55 rfl (lv_at hl 3 rfl) ?_
          refine lv_bipush (v := nI 10) X.x X.b d_R_readWalker_56 (by decide) ?_
          refine lv_iload_n X.x X.b d_R_readWalker_58 rfl (lv_at hl 2 rfl) ?_
          refine lv_iload_n X.x X.b d_R_readWalker_59 rfl (lv_at hl 1 rfl) ?_
          refine lv_iload_n X.x X.b d_R_readWalker_60 rfl (lv_at hl 0 rfl) ?_
          refine lv_aload_n X.x X.b d_R_readWalker_61 rfl (lv_at hl 3 rfl) ?_
          refine q_ldcsW X (tx := "cares") (i := 9) (by decide) d_R_readWalker_62 ?_
          refine q_cvip X (c_R_takesWord_w l E (qr (qr S 21 ι) 15 τ38) τ38 ξ (by rw [qr_at]) (by rw [qr_ne (by omega), qr_ne (by omega), hξ]) len (tN ξ len (tN ξ len n)) kp mi (nT ρ) (nW ρ) hτ38 (by omega) hlen h0 9 (by omega)) hW (q_recv X hW ds_R rfl) ok_R_takesWord mw_1118 ⟨by decide, by decide⟩ (As := [.ref (eK E 9)]) rfl rfl (Nat.le_of_ble_eq_true rfl) (lv := [(3, .int (nI 2)), (2, .int (tV ξ len (tN ξ len (tN ξ len n)))), (1, .int (tV ξ len (tN ξ len n))), (0, .ref (eA E 70))]) hl ⟨Nat.le_refl 0, Nat.le_refl 0⟩ d_R_readWalker_65 (fun H locs Sq65 hP65 hW => ?_)
          obtain ⟨τ65, hτ65, rfl⟩ := hP65
          have hW : qWH E (qr (qr S 21 ι) 15 τ65) s H locs := (by have h := hW; rw [qr_qr] at h; exact h)
          obtain ⟨kτ65_3, kτ65_6, kτ65_7, kτ65_8, kτ65_9, kτ65_10, kτ65_11, kτ65_14, kτ65_15, kτ65_16⟩ := id hτ65
          have bτ65 := tN_n (σ := ξ) (len := len) (n := (tN ξ len (tN ξ len n))) (by omega)
          have dτ65 := tN_le (σ := ξ) (len := len) (n := (tN ξ len (tN ξ len n))) (by omega)
          have eτ65 := kR_le (σ := ξ) (len := len) (n := (tN ξ len (tN ξ len n)))
          refine lv_if_eq (tgt := 82) X.x X.b d_R_readWalker_68 (by decide) (fun c68 => ?_) (fun c68 => ?_)
          · have c68 : 0 = 0 := (nI_eq (a := 0) (b := 0) (by omega) (by omega)).mp c68
            refine lv_iconst (v := nI 0) X.x X.b d_R_readWalker_82 (by decide) ?_
            refine q_cvvp X (c_R_addItem l E (qr (qr S 21 ι) 15 τ65) τ65 ι (by rw [qr_at]) (by rw [qr_ne (by omega), qr_at]) mi kτ65_14 (by omega) (nI 10) (tV ξ len (tN ξ len n)) (tV ξ len (tN ξ len (tN ξ len n))) (nI 2) (nI 0)) hW (q_recv X hW ds_R rfl) ok_R_addItem mw_1108 ⟨by decide, by decide⟩ (As := [.int (nI 10), .int (tV ξ len (tN ξ len n)), .int (tV ξ len (tN ξ len (tN ξ len n))), .int (nI 2), .int (nI 0)]) rfl rfl (Nat.le_of_ble_eq_true rfl) (lv := [(3, .int (nI 2)), (2, .int (tV ξ len (tN ξ len (tN ξ len n)))), (1, .int (tV ξ len (tN ξ len n))), (0, .ref (eA E 70))]) hl ⟨Nat.le_refl 0, Nat.le_refl 0⟩ d_R_readWalker_83 (fun H locs Sq83 hP83 hW => ?_)
            obtain ⟨τ83, hτ83a, hτ83b, rfl⟩ := hP83
            have hW : qWH E (qr (qr S 21 (itm ι mi (nI 10) (tV ξ len (tN ξ len n)) (tV ξ len (tN ξ len (tN ξ len n))) (nI 2) (nI 0))) 15 τ83) s H locs := (by have h := hW; rw [qr_in (by omega), qr_in (by omega)] at h; exact h)
            have kτ83_3 : τ83 3 = kp := by rw [hτ83b _ (by decide)]; exact kτ65_3
            have kτ83_6 : τ83 6 = nI len := by rw [hτ83b _ (by decide)]; exact kτ65_6
            have kτ83_7 : τ83 7 = nI (tS ξ len (tN ξ len (tN ξ len n))) := by rw [hτ83b _ (by decide)]; exact kτ65_7
            have kτ83_8 : τ83 8 = nI (tN ξ len (tN ξ len (tN ξ len n))) := by rw [hτ83b _ (by decide)]; exact kτ65_8
            have kτ83_9 : τ83 9 = nI (kR (tK ξ len (tN ξ len (tN ξ len n)))) := by rw [hτ83b _ (by decide)]; exact kτ65_9
            have kτ83_10 : τ83 10 = tV ξ len (tN ξ len (tN ξ len n)) := by rw [hτ83b _ (by decide)]; exact kτ65_10
            have kτ83_11 : τ83 11 = nI 1 := by rw [hτ83b _ (by decide)]; exact kτ65_11
            have kτ83_14 := hτ83a
            have kτ83_15 : τ83 15 = nI (nT ρ) := by rw [hτ83b _ (by decide)]; exact kτ65_15
            have kτ83_16 : τ83 16 = nI (nW ρ) := by rw [hτ83b _ (by decide)]; exact kτ65_16
            refine lv_aload_n X.x X.b d_R_readWalker_86 rfl (lv_at hl 3 rfl) ?_
            refine lv_dup X.x X.b d_R_readWalker_87 rfl ?_
            refine g_geti X hW qj4 rfl _ ds_R 16 (by decide) mw_702 rfl (r0 := 15) (p0 := 16) rfl (v := τ83 16) (by rw [qr_at]) d_R_readWalker_88 ?_
            rw [kτ83_16]
            refine lv_iconst (v := nI 1) X.x X.b d_R_readWalker_91 (by decide) ?_
            refine lv_iadd X.x X.b d_R_readWalker_92 ?_
            rw [nI_add]
            refine g_puti X hW qj4 qp4 qn4 rfl _ ds_R 16 (by decide) mw_702 rfl rfl (r0 := 15) (p0 := 16) rfl rfl rfl (ρ := τ83) (by rw [qr_at]) d_R_readWalker_93 (fun H locs hW => ?_)
            obtain ⟨r93, er93⟩ : ∃ z, z = upd τ83 16 (nI ((nW ρ) + 1)) := ⟨_, rfl⟩
            rw [← er93] at hW
            have kr93_10 : r93 10 = tV ξ len (tN ξ len (tN ξ len n)) := by rw [er93, upN (by omega)]; exact kτ83_10
            have kr93_11 : r93 11 = nI 1 := by rw [er93, upN (by omega)]; exact kτ83_11
            have kr93_14 : r93 14 = nI (mi + 1) := by rw [er93, upN (by omega)]; exact kτ83_14
            have kr93_15 : r93 15 = nI (nT ρ) := by rw [er93, upN (by omega)]; exact kτ83_15
            have kr93_16 : r93 16 = nI ((nW ρ) + 1) := by rw [er93, upd_at]
            have kr93_3 : r93 3 = kp := by rw [er93, upN (by omega)]; exact kτ83_3
            have kr93_6 : r93 6 = nI len := by rw [er93, upN (by omega)]; exact kτ83_6
            have kr93_7 : r93 7 = nI (tS ξ len (tN ξ len (tN ξ len n))) := by rw [er93, upN (by omega)]; exact kτ83_7
            have kr93_8 : r93 8 = nI (tN ξ len (tN ξ len (tN ξ len n))) := by rw [er93, upN (by omega)]; exact kτ83_8
            have kr93_9 : r93 9 = nI (kR (tK ξ len (tN ξ len (tN ξ len n)))) := by rw [er93, upN (by omega)]; exact kτ83_9
            rw [qr_qr] at hW
            have eR : rWal ξ len n ρ = (false, (tN ξ len (tN ξ len n), ρ)) := by rw [rWal, if_neg (fun z => z (by omega)), if_neg (fun z => z hs22), if_pos hs30]
            exact q_pvret X hW ⟨r93, _, _, _, _, by rw [eR]; exact ⟨kr93_3, kr93_6, kr93_7, kr93_8, kr93_9, kr93_10, kr93_11, kr93_14, kr93_15, kr93_16⟩, fun z => absurd z (by rw [eR]; exact Bool.false_ne_true), rfl⟩ d_R_readWalker_96
          · exact absurd (by decide) c68
        · exact absurd (by decide) c41
    · refine q_cvip X (c_R_number_f l E (qr (qr S 21 ι) 15 τ15) τ15 ξ (by rw [qr_at]) (by rw [qr_ne (by omega), qr_ne (by omega), hξ]) len (tN ξ len n) kp mi (nT ρ) (nW ρ) hτ15 (by omega) hlen h0 0 15 hs22) hW (q_recv X hW ds_R rfl) ok_R_number mw_1104 ⟨by decide, by decide⟩ (As := [.int (nI 0), .int (nI 15)]) rfl rfl (Nat.le_of_ble_eq_true rfl) (lv := [(0, .ref (eA E 70))]) hl ⟨Nat.le_refl 0, Nat.le_refl 0⟩ d_R_readWalker_22 (fun H locs Sq22 hP22 hW => ?_)
      obtain ⟨τ22, hτ22, rfl⟩ := hP22
      have hW : qWH E (qr (qr S 21 ι) 15 τ22) s H locs := (by have h := hW; rw [qr_qr] at h; exact h)
      obtain ⟨kτ22_3, kτ22_6, kτ22_7, kτ22_8, kτ22_9, kτ22_10, kτ22_11, kτ22_14, kτ22_15, kτ22_16⟩ := id hτ22
      have bτ22 := tN_n (σ := ξ) (len := len) (n := (tN ξ len n)) (by omega)
      have dτ22 := tN_le (σ := ξ) (len := len) (n := (tN ξ len n)) (by omega)
      have eτ22 := kR_le (σ := ξ) (len := len) (n := (tN ξ len n))
      refine lv_istore_n (lv' := [(1, .int (tV ξ len (tN ξ len n))), (0, .ref (eA E 70))]) X.x X.b d_R_readWalker_25 rfl hl (by decide) rfl (fun ls hl => ?_)
      refine lv_aload_n X.x X.b d_R_readWalker_26 rfl (lv_at hl 1 rfl) ?_
      refine lv_iconst (v := nI 0) X.x X.b d_R_readWalker_27 (by decide) ?_
      refine lv_bipush (v := nI 7) X.x X.b d_R_readWalker_28 (by decide) ?_
      refine q_cvip X (c_R_number_w l E (qr (qr S 21 ι) 15 τ22) τ22 ξ (by rw [qr_at]) (by rw [qr_ne (by omega), qr_ne (by omega), hξ]) len (tN ξ len n) kp mi (nT ρ) (nW ρ) hτ22 (by omega) hlen h0 0 7) hW (q_recv X hW ds_R rfl) ok_R_number mw_1104 ⟨by decide, by decide⟩ (As := [.int (nI 0), .int (nI 7)]) rfl rfl (Nat.le_of_ble_eq_true rfl) (lv := [(1, .int (tV ξ len (tN ξ len n))), (0, .ref (eA E 70))]) hl ⟨Nat.le_refl 0, Nat.le_refl 0⟩ d_R_readWalker_30 (fun H locs Sq30 hP30 hW => ?_)
      obtain ⟨τ30, hτ30, rfl⟩ := hP30
      have hW : qWH E (qr (qr S 21 ι) 15 τ30) s H locs := (by have h := hW; rw [qr_qr] at h; exact h)
      obtain ⟨kτ30_3, kτ30_6, kτ30_7, kτ30_8, kτ30_9, kτ30_10, kτ30_11, kτ30_14, kτ30_15, kτ30_16⟩ := id hτ30
      have bτ30 := tN_n (σ := ξ) (len := len) (n := (tN ξ len n)) (by omega)
      have dτ30 := tN_le (σ := ξ) (len := len) (n := (tN ξ len n)) (by omega)
      have eτ30 := kR_le (σ := ξ) (len := len) (n := (tN ξ len n))
      refine lv_istore_n (lv' := [(2, .int (tV ξ len (tN ξ len n))), (1, .int (tV ξ len (tN ξ len n))), (0, .ref (eA E 70))]) X.x X.b d_R_readWalker_33 rfl hl (by decide) rfl (fun ls hl => ?_)
      refine lv_aload_n X.x X.b d_R_readWalker_34 rfl (lv_at hl 2 rfl) ?_
      refine q_ldcsW X (tx := "pace") (i := 8) (by decide) d_R_readWalker_35 ?_
      refine q_cvip X (c_R_takesWord_w l E (qr (qr S 21 ι) 15 τ30) τ30 ξ (by rw [qr_at]) (by rw [qr_ne (by omega), qr_ne (by omega), hξ]) len (tN ξ len n) kp mi (nT ρ) (nW ρ) hτ30 (by omega) hlen h0 8 (by omega)) hW (q_recv X hW ds_R rfl) ok_R_takesWord mw_1118 ⟨by decide, by decide⟩ (As := [.ref (eK E 8)]) rfl rfl (Nat.le_of_ble_eq_true rfl) (lv := [(2, .int (tV ξ len (tN ξ len n))), (1, .int (tV ξ len (tN ξ len n))), (0, .ref (eA E 70))]) hl ⟨Nat.le_refl 0, Nat.le_refl 0⟩ d_R_readWalker_38 (fun H locs Sq38 hP38 hW => ?_)
      obtain ⟨τ38, hτ38, rfl⟩ := hP38
      have hW : qWH E (qr (qr S 21 ι) 15 τ38) s H locs := (by have h := hW; rw [qr_qr] at h; exact h)
      obtain ⟨kτ38_3, kτ38_6, kτ38_7, kτ38_8, kτ38_9, kτ38_10, kτ38_11, kτ38_14, kτ38_15, kτ38_16⟩ := id hτ38
      have bτ38 := tN_n (σ := ξ) (len := len) (n := (tN ξ len n)) (by omega)
      have dτ38 := tN_le (σ := ξ) (len := len) (n := (tN ξ len n)) (by omega)
      have eτ38 := kR_le (σ := ξ) (len := len) (n := (tN ξ len n))
      refine lv_if_eq (tgt := 53) X.x X.b d_R_readWalker_41 (by decide) (fun c41 => ?_) (fun c41 => ?_)
      · have c41 : 0 = 0 := (nI_eq (a := 0) (b := 0) (by omega) (by omega)).mp c41
        refine lv_iconst (v := nI 2) X.x X.b d_R_readWalker_53 (by decide) ?_
        refine lv_istore_n (lv' := [(3, .int (nI 2)), (2, .int (tV ξ len (tN ξ len n))), (1, .int (tV ξ len (tN ξ len n))), (0, .ref (eA E 70))]) X.x X.b d_R_readWalker_54 rfl hl (by decide) rfl (fun ls hl => ?_)
        refine lv_aload_n X.x X.b d_R_readWalker_55 rfl (lv_at hl 3 rfl) ?_
        refine lv_bipush (v := nI 10) X.x X.b d_R_readWalker_56 (by decide) ?_
        refine lv_iload_n X.x X.b d_R_readWalker_58 rfl (lv_at hl 2 rfl) ?_
        refine lv_iload_n X.x X.b d_R_readWalker_59 rfl (lv_at hl 1 rfl) ?_
        refine lv_iload_n X.x X.b d_R_readWalker_60 rfl (lv_at hl 0 rfl) ?_
        refine lv_aload_n X.x X.b d_R_readWalker_61 rfl (lv_at hl 3 rfl) ?_
        refine q_ldcsW X (tx := "cares") (i := 9) (by decide) d_R_readWalker_62 ?_
        refine q_cvip X (c_R_takesWord_w l E (qr (qr S 21 ι) 15 τ38) τ38 ξ (by rw [qr_at]) (by rw [qr_ne (by omega), qr_ne (by omega), hξ]) len (tN ξ len n) kp mi (nT ρ) (nW ρ) hτ38 (by omega) hlen h0 9 (by omega)) hW (q_recv X hW ds_R rfl) ok_R_takesWord mw_1118 ⟨by decide, by decide⟩ (As := [.ref (eK E 9)]) rfl rfl (Nat.le_of_ble_eq_true rfl) (lv := [(3, .int (nI 2)), (2, .int (tV ξ len (tN ξ len n))), (1, .int (tV ξ len (tN ξ len n))), (0, .ref (eA E 70))]) hl ⟨Nat.le_refl 0, Nat.le_refl 0⟩ d_R_readWalker_65 (fun H locs Sq65 hP65 hW => ?_)
        obtain ⟨τ65, hτ65, rfl⟩ := hP65
        have hW : qWH E (qr (qr S 21 ι) 15 τ65) s H locs := (by have h := hW; rw [qr_qr] at h; exact h)
        obtain ⟨kτ65_3, kτ65_6, kτ65_7, kτ65_8, kτ65_9, kτ65_10, kτ65_11, kτ65_14, kτ65_15, kτ65_16⟩ := id hτ65
        have bτ65 := tN_n (σ := ξ) (len := len) (n := (tN ξ len n)) (by omega)
        have dτ65 := tN_le (σ := ξ) (len := len) (n := (tN ξ len n)) (by omega)
        have eτ65 := kR_le (σ := ξ) (len := len) (n := (tN ξ len n))
        refine lv_if_eq (tgt := 82) X.x X.b d_R_readWalker_68 (by decide) (fun c68 => ?_) (fun c68 => ?_)
        · have c68 : 0 = 0 := (nI_eq (a := 0) (b := 0) (by omega) (by omega)).mp c68
          refine lv_iconst (v := nI 0) X.x X.b d_R_readWalker_82 (by decide) ?_
          refine q_cvvp X (c_R_addItem l E (qr (qr S 21 ι) 15 τ65) τ65 ι (by rw [qr_at]) (by rw [qr_ne (by omega), qr_at]) mi kτ65_14 (by omega) (nI 10) (tV ξ len (tN ξ len n)) (tV ξ len (tN ξ len n)) (nI 2) (nI 0)) hW (q_recv X hW ds_R rfl) ok_R_addItem mw_1108 ⟨by decide, by decide⟩ (As := [.int (nI 10), .int (tV ξ len (tN ξ len n)), .int (tV ξ len (tN ξ len n)), .int (nI 2), .int (nI 0)]) rfl rfl (Nat.le_of_ble_eq_true rfl) (lv := [(3, .int (nI 2)), (2, .int (tV ξ len (tN ξ len n))), (1, .int (tV ξ len (tN ξ len n))), (0, .ref (eA E 70))]) hl ⟨Nat.le_refl 0, Nat.le_refl 0⟩ d_R_readWalker_83 (fun H locs Sq83 hP83 hW => ?_)
          obtain ⟨τ83, hτ83a, hτ83b, rfl⟩ := hP83
          have hW : qWH E (qr (qr S 21 (itm ι mi (nI 10) (tV ξ len (tN ξ len n)) (tV ξ len (tN ξ len n)) (nI 2) (nI 0))) 15 τ83) s H locs := (by have h := hW; rw [qr_in (by omega), qr_in (by omega)] at h; exact h)
          have kτ83_3 : τ83 3 = kp := by rw [hτ83b _ (by decide)]; exact kτ65_3
          have kτ83_6 : τ83 6 = nI len := by rw [hτ83b _ (by decide)]; exact kτ65_6
          have kτ83_7 : τ83 7 = nI (tS ξ len (tN ξ len n)) := by rw [hτ83b _ (by decide)]; exact kτ65_7
          have kτ83_8 : τ83 8 = nI (tN ξ len (tN ξ len n)) := by rw [hτ83b _ (by decide)]; exact kτ65_8
          have kτ83_9 : τ83 9 = nI (kR (tK ξ len (tN ξ len n))) := by rw [hτ83b _ (by decide)]; exact kτ65_9
          have kτ83_10 : τ83 10 = tV ξ len (tN ξ len n) := by rw [hτ83b _ (by decide)]; exact kτ65_10
          have kτ83_11 : τ83 11 = nI 1 := by rw [hτ83b _ (by decide)]; exact kτ65_11
          have kτ83_14 := hτ83a
          have kτ83_15 : τ83 15 = nI (nT ρ) := by rw [hτ83b _ (by decide)]; exact kτ65_15
          have kτ83_16 : τ83 16 = nI (nW ρ) := by rw [hτ83b _ (by decide)]; exact kτ65_16
          refine lv_aload_n X.x X.b d_R_readWalker_86 rfl (lv_at hl 3 rfl) ?_
          refine lv_dup X.x X.b d_R_readWalker_87 rfl ?_
          refine g_geti X hW qj4 rfl _ ds_R 16 (by decide) mw_702 rfl (r0 := 15) (p0 := 16) rfl (v := τ83 16) (by rw [qr_at]) d_R_readWalker_88 ?_
          rw [kτ83_16]
          refine lv_iconst (v := nI 1) X.x X.b d_R_readWalker_91 (by decide) ?_
          refine lv_iadd X.x X.b d_R_readWalker_92 ?_
          rw [nI_add]
          refine g_puti X hW qj4 qp4 qn4 rfl _ ds_R 16 (by decide) mw_702 rfl rfl (r0 := 15) (p0 := 16) rfl rfl rfl (ρ := τ83) (by rw [qr_at]) d_R_readWalker_93 (fun H locs hW => ?_)
          obtain ⟨r93, er93⟩ : ∃ z, z = upd τ83 16 (nI ((nW ρ) + 1)) := ⟨_, rfl⟩
          rw [← er93] at hW
          have kr93_10 : r93 10 = tV ξ len (tN ξ len n) := by rw [er93, upN (by omega)]; exact kτ83_10
          have kr93_11 : r93 11 = nI 1 := by rw [er93, upN (by omega)]; exact kτ83_11
          have kr93_14 : r93 14 = nI (mi + 1) := by rw [er93, upN (by omega)]; exact kτ83_14
          have kr93_15 : r93 15 = nI (nT ρ) := by rw [er93, upN (by omega)]; exact kτ83_15
          have kr93_16 : r93 16 = nI ((nW ρ) + 1) := by rw [er93, upd_at]
          have kr93_3 : r93 3 = kp := by rw [er93, upN (by omega)]; exact kτ83_3
          have kr93_6 : r93 6 = nI len := by rw [er93, upN (by omega)]; exact kτ83_6
          have kr93_7 : r93 7 = nI (tS ξ len (tN ξ len n)) := by rw [er93, upN (by omega)]; exact kτ83_7
          have kr93_8 : r93 8 = nI (tN ξ len (tN ξ len n)) := by rw [er93, upN (by omega)]; exact kτ83_8
          have kr93_9 : r93 9 = nI (kR (tK ξ len (tN ξ len n))) := by rw [er93, upN (by omega)]; exact kτ83_9
          rw [qr_qr] at hW
          have eR : rWal ξ len n ρ = (false, (tN ξ len n, ρ)) := by rw [rWal, if_neg (fun z => z (by omega)), if_pos hs22]
          exact q_pvret X hW ⟨r93, _, _, _, _, by rw [eR]; exact ⟨kr93_3, kr93_6, kr93_7, kr93_8, kr93_9, kr93_10, kr93_11, kr93_14, kr93_15, kr93_16⟩, fun z => absurd z (by rw [eR]; exact Bool.false_ne_true), rfl⟩ d_R_readWalker_96
        · exact absurd (by decide) c68
      · exact absurd (by decide) c41
set_option maxHeartbeats 1000000 in
set_option maxRecDepth 20000 in
theorem c_R_readItem_k (l : Launch) (E : QE) (S : QM) (υ ξ ι ρ : Nat → Int32) (hυ : S 15 = υ) (hξ : S 20 = ξ) (hι : S 21 = ι) (hwf : WF ρ) (len n : Nat) (kp : Int32) (mi : Nat) (hk : stK ξ len n kp (nI 0) mi (nT ρ) (nW ρ) υ) (hn : n ≤ len) (hlen : len ≤ 120) (h0 : ∀ i, i < len → 0 ≤ ξ i) (hmi : mi ≤ 119) (k : Nat) (hk7 : k < 7) (hwk : ∀ j, j < 7 → (wrd ξ len n j ↔ j = k)) (hw7 : ¬ wrd ξ len n 7) (hw10 : ¬ wrd ξ len n 10) (hkw : kwd ξ len n = some k) : qCPv E l y_R_readItem prog_7_method_92_code 4 8 [.ref (eA E 70)] S (itP S ξ len mi kp ι ρ (rItm ξ len n ρ)) := by
  refine qCPv_of (by decide) (Nat.le_of_ble_eq_true rfl) (fun p e s m below meth c ls X hW hl => ?_)
  have hl : lv_has ls 4 [(0, .ref (eA E 70))] := hl
  obtain ⟨kυ_3, kυ_6, kυ_7, kυ_8, kυ_9, kυ_10, kυ_11, kυ_14, kυ_15, kυ_16⟩ := id hk
  have hb1 := tN_n (σ := ξ) (len := len) (n := n) (by omega)
  have hb2 := tN_le (σ := ξ) (len := len) (n := n) (by omega)
  have hb3 := kR_le (σ := ξ) (len := len) (n := n)
  have htl := hwf.tl
  have hwl := hwf.wl
  have hdl := hwf.dl
  refine lv_iconst (v := (-1)) X.x X.b d_R_readItem_0 (by decide) ?_
  refine lv_istore_n (lv' := [(1, .int (-1)), (0, .ref (eA E 70))]) X.x X.b d_R_readItem_1 rfl hl (by decide) rfl (fun ls hl => ?_)
  refine lv_iconst (v := nI 0) X.x X.b d_R_readItem_2 (by decide) ?_
  refine lv_istore_n (lv' := [(2, .int (nI 0)), (1, .int (-1)), (0, .ref (eA E 70))]) X.x X.b d_R_readItem_3 rfl hl (by decide) rfl (fun ls hl => ?_)
  have loop4 : ∀ (fu4 : Nat) (j : Nat) (a : Int32), j ≤ 7 → a = (if k < j then nI k else (-1)) → 7 - j < fu4 → ∀ (H : Heap) (locs : List Loc) (ls : Array Slot), qWH E S s H locs → lv_has ls 4 [(2, .int (nI j)), (1, .int a), (0, .ref (eA E 70))] → W p l e (qRm 8) s m ([.ref (eA E 70)] : List Value).toArray below meth c H locs 0 0 (MQ below (qQpv E (itP S ξ len mi kp ι ρ (rItm ξ len n ρ)) s.heap.size) ([.ref (eA E 70)] : List Value).toArray s 0 0 (qAA E s.heap.size)) (F0 m 4 ls []) := by
    intro fu4
    induction fu4 with
    | zero =>
      intro j a hj ha hfu
      exact absurd hfu (Nat.not_lt_zero _)
    | succ fu4 ih4 =>
      intro j a hj ha hfu H locs ls hW hl
      refine lv_iload_n X.x X.b d_R_readItem_4 rfl (lv_at hl 0 rfl) ?_
      refine lv_aload_n X.x X.b d_R_readItem_5 rfl (lv_at hl 2 rfl) ?_
      refine q_getr X hW qj4 rfl _ ds_R 12 (by decide) mw_698 rfl (c1 := 76) rfl d_R_readItem_6 ?_
      refine q_rlen X hW 76 ds_76 (ty := .object "java/lang/String") rfl (v := nI 7) rfl d_R_readItem_9 ?_
      refine lv_icmp_ge (tgt := 38) X.x X.b d_R_readItem_10 (by decide) (fun c10 => ?_) (fun c10 => ?_)
      · have c10 : 7 ≤ j := (nI_leI (a := 7) (b := j) (by omega) (by omega)).mp c10
        have ea : a = nI k := by rw [ha, if_pos (by omega)]
        subst ea
        refine lv_iload_n X.x X.b d_R_readItem_38 rfl (lv_at hl 1 rfl) ?_
        refine lv_if_lt (tgt := 50) X.x X.b d_R_readItem_39 (by decide) (fun c39 => ?_) (fun c39 => ?_)
        · have c39 : k < 0 := (nI_ltI (a := k) (b := 0) (by omega) (by omega)).mp c39
          omega
        · have c39 : ¬ k < 0 := fun z => c39 ((nI_ltI (a := k) (b := 0) (by omega) (by omega)).mpr z)
          refine lv_aload_n X.x X.b d_R_readItem_42 rfl (lv_at hl 2 rfl) ?_
          refine lv_iload_n X.x X.b d_R_readItem_43 rfl (lv_at hl 1 rfl) ?_
          refine q_cvvp X (c_R_readThing l E S υ ξ ι ρ (by rw [hυ]) (by rw [hξ]) (by rw [hι]) hwf len n kp mi hk (by omega) hlen h0 (by omega) k (by omega)) hW (q_recv X hW ds_R rfl) ok_R_readThing mw_1096 ⟨by decide, by decide⟩ (As := [.int (nI k)]) rfl rfl (Nat.le_of_ble_eq_true rfl) (lv := [(2, .int (nI j)), (1, .int (nI k)), (0, .ref (eA E 70))]) hl ⟨Nat.le_refl 0, Nat.le_refl 0⟩ d_R_readItem_44 (fun H locs Sq44 hP44 hW => ?_)
          refine lv_goto (tgt := 115) X.x X.b d_R_readItem_47 (by decide) ?_
          have eR : rItm ξ len n ρ = rThi ξ len k n ρ := by rw [rItm, if_neg hw7, if_neg hw10, hkw]
          exact q_pvret X hW (by rw [eR]; exact hP44) d_R_readItem_115
      · have c10 : ¬ 7 ≤ j := fun z => c10 ((nI_leI (a := 7) (b := j) (by omega) (by omega)).mpr z)
        refine lv_aload_n X.x X.b d_R_readItem_13 rfl (lv_at hl 2 rfl) ?_
        refine lv_aload_n X.x X.b d_R_readItem_14 rfl (lv_at hl 2 rfl) ?_
        refine q_getr X hW qj4 rfl _ ds_R 12 (by decide) mw_698 rfl (c1 := 76) rfl d_R_readItem_15 ?_
        refine lv_iload_n X.x X.b d_R_readItem_18 rfl (lv_at hl 0 rfl) ?_
        refine q_kn X hW (t := j) (by omega) d_R_readItem_19 ?_
        refine q_cvi X (c_R_isWord l E S υ ξ (by rw [hυ]) (by rw [hξ]) len n kp (nI 0) mi (nT ρ) (nW ρ) hk (by omega) hlen h0 j (by omega)) hW (q_recv X hW ds_R rfl) ok_R_isWord mw_1090 ⟨by decide, by decide⟩ (As := [.ref (eK E j)]) rfl rfl (Nat.le_of_ble_eq_true rfl) (lv := [(2, .int (nI j)), (1, .int a), (0, .ref (eA E 70))]) hl ⟨Nat.le_refl 0, Nat.le_refl 0⟩ d_R_readItem_20 (fun H locs hW => ?_)
        refine lv_if_eq (tgt := 30) X.x X.b d_R_readItem_23 (by decide) (fun c23 => ?_) (fun c23 => ?_)
        · have c23 := b2i_e c23
          refine lv_iload_n X.x X.b d_R_readItem_30 rfl (lv_at hl 1 rfl) ?_
          refine lv_istore_n (lv' := [(1, .int a), (2, .int (nI j)), (0, .ref (eA E 70))]) X.x X.b d_R_readItem_31 rfl hl (by decide) rfl (fun ls hl => ?_)
          refine lv_iinc (v := nI (j + 1)) (lv' := [(2, .int (nI (j + 1))), (1, .int a), (0, .ref (eA E 70))]) X.x X.b d_R_readItem_32 hl (k := 1) rfl (by rw [show Int32.ofInt 1 = nI 1 from by decide, nI_add]) (by decide) rfl (fun ls hl => ?_)
          refine lv_goto (tgt := 4) X.x X.b d_R_readItem_35 (by decide) ?_
          exact ih4 (j + 1) a (by omega) (by have e : ¬ j = k := fun e => c23 ((hwk j (by omega)).mpr e); rw [ha]; by_cases z : k < j; rw [if_pos z, if_pos (by omega)]; rw [if_neg z, if_neg (by omega)]) (by omega) _ _ _ hW (lv_sub hl [0, 1, 2] rfl)
        · have c23 := b2i_n c23
          refine lv_iload_n X.x X.b d_R_readItem_26 rfl (lv_at hl 0 rfl) ?_
          refine lv_goto (tgt := 31) X.x X.b d_R_readItem_27 (by decide) ?_
          refine lv_istore_n (lv' := [(1, .int (nI j)), (2, .int (nI j)), (0, .ref (eA E 70))]) X.x X.b d_R_readItem_31 rfl hl (by decide) rfl (fun ls hl => ?_)
          refine lv_iinc (v := nI (j + 1)) (lv' := [(2, .int (nI (j + 1))), (1, .int (nI j)), (0, .ref (eA E 70))]) X.x X.b d_R_readItem_32 hl (k := 1) rfl (by rw [show Int32.ofInt 1 = nI 1 from by decide, nI_add]) (by decide) rfl (fun ls hl => ?_)
          refine lv_goto (tgt := 4) X.x X.b d_R_readItem_35 (by decide) ?_
          exact ih4 (j + 1) (nI j) (by omega) (by have e := (hwk j (by omega)).mp c23; rw [if_pos (by omega), e]) (by omega) _ _ _ hW (lv_sub hl [0, 1, 2] rfl)
  exact loop4 (7 - 0 + 1) 0 (-1) (by omega) (by rw [if_neg (by omega)]) (Nat.lt_succ_self _) _ _ _ hW (lv_sub hl [0, 1, 2] rfl)
set_option maxHeartbeats 1000000 in
set_option maxRecDepth 20000 in
theorem c_R_readItem_w (l : Launch) (E : QE) (S : QM) (υ ξ ι ρ : Nat → Int32) (hυ : S 15 = υ) (hξ : S 20 = ξ) (hι : S 21 = ι) (hwf : WF ρ) (len n : Nat) (kp : Int32) (mi : Nat) (hk : stK ξ len n kp (nI 0) mi (nT ρ) (nW ρ) υ) (hn : n ≤ len) (hlen : len ≤ 120) (h0 : ∀ i, i < len → 0 ≤ ξ i) (hmi : mi ≤ 119) (hwk : ∀ j, j < 7 → ¬ wrd ξ len n j) (hw7 : wrd ξ len n 7) : qCPv E l y_R_readItem prog_7_method_92_code 4 8 [.ref (eA E 70)] S (itP S ξ len mi kp ι ρ (rItm ξ len n ρ)) := by
  refine qCPv_of (by decide) (Nat.le_of_ble_eq_true rfl) (fun p e s m below meth c ls X hW hl => ?_)
  have hl : lv_has ls 4 [(0, .ref (eA E 70))] := hl
  obtain ⟨kυ_3, kυ_6, kυ_7, kυ_8, kυ_9, kυ_10, kυ_11, kυ_14, kυ_15, kυ_16⟩ := id hk
  have hb1 := tN_n (σ := ξ) (len := len) (n := n) (by omega)
  have hb2 := tN_le (σ := ξ) (len := len) (n := n) (by omega)
  have hb3 := kR_le (σ := ξ) (len := len) (n := n)
  have htl := hwf.tl
  have hwl := hwf.wl
  have hdl := hwf.dl
  refine lv_iconst (v := (-1)) X.x X.b d_R_readItem_0 (by decide) ?_
  refine lv_istore_n (lv' := [(1, .int (-1)), (0, .ref (eA E 70))]) X.x X.b d_R_readItem_1 rfl hl (by decide) rfl (fun ls hl => ?_)
  refine lv_iconst (v := nI 0) X.x X.b d_R_readItem_2 (by decide) ?_
  refine lv_istore_n (lv' := [(2, .int (nI 0)), (1, .int (-1)), (0, .ref (eA E 70))]) X.x X.b d_R_readItem_3 rfl hl (by decide) rfl (fun ls hl => ?_)
  have loop4 : ∀ (fu4 : Nat) (j : Nat) (a : Int32), j ≤ 7 → a = (-1) → 7 - j < fu4 → ∀ (H : Heap) (locs : List Loc) (ls : Array Slot), qWH E S s H locs → lv_has ls 4 [(2, .int (nI j)), (1, .int a), (0, .ref (eA E 70))] → W p l e (qRm 8) s m ([.ref (eA E 70)] : List Value).toArray below meth c H locs 0 0 (MQ below (qQpv E (itP S ξ len mi kp ι ρ (rItm ξ len n ρ)) s.heap.size) ([.ref (eA E 70)] : List Value).toArray s 0 0 (qAA E s.heap.size)) (F0 m 4 ls []) := by
    intro fu4
    induction fu4 with
    | zero =>
      intro j a hj ha hfu
      exact absurd hfu (Nat.not_lt_zero _)
    | succ fu4 ih4 =>
      intro j a hj ha hfu H locs ls hW hl
      refine lv_iload_n X.x X.b d_R_readItem_4 rfl (lv_at hl 0 rfl) ?_
      refine lv_aload_n X.x X.b d_R_readItem_5 rfl (lv_at hl 2 rfl) ?_
      refine q_getr X hW qj4 rfl _ ds_R 12 (by decide) mw_698 rfl (c1 := 76) rfl d_R_readItem_6 ?_
      refine q_rlen X hW 76 ds_76 (ty := .object "java/lang/String") rfl (v := nI 7) rfl d_R_readItem_9 ?_
      refine lv_icmp_ge (tgt := 38) X.x X.b d_R_readItem_10 (by decide) (fun c10 => ?_) (fun c10 => ?_)
      · have c10 : 7 ≤ j := (nI_leI (a := 7) (b := j) (by omega) (by omega)).mp c10
        have ea : a = (-1) := ha
        subst ea
        refine lv_iload_n X.x X.b d_R_readItem_38 rfl (lv_at hl 1 rfl) ?_
        refine lv_if_lt (tgt := 50) X.x X.b d_R_readItem_39 (by decide) (fun c39 => ?_) (fun c39 => ?_)
        · refine lv_aload_n X.x X.b d_R_readItem_50 rfl (lv_at hl 2 rfl) ?_
          refine q_ldcsW X (tx := "walker") (i := 7) (by decide) d_R_readItem_51 ?_
          refine q_cvi X (c_R_isWord l E S υ ξ (by rw [hυ]) (by rw [hξ]) len n kp (nI 0) mi (nT ρ) (nW ρ) hk (by omega) hlen h0 7 (by omega)) hW (q_recv X hW ds_R rfl) ok_R_isWord mw_1090 ⟨by decide, by decide⟩ (As := [.ref (eK E 7)]) rfl rfl (Nat.le_of_ble_eq_true rfl) (lv := [(2, .int (nI j)), (1, .int (-1)), (0, .ref (eA E 70))]) hl ⟨Nat.le_refl 0, Nat.le_refl 0⟩ d_R_readItem_54 (fun H locs hW => ?_)
          refine lv_if_eq (tgt := 67) X.x X.b d_R_readItem_57 (by decide) (fun c57 => ?_) (fun c57 => ?_)
          · have c57 := b2i_e c57
            exact absurd hw7 c57
          · have c57 := b2i_n c57
            refine lv_aload_n X.x X.b d_R_readItem_60 rfl (lv_at hl 2 rfl) ?_
            refine q_cvvp X (c_R_readWalker l E S υ ξ ι ρ (by rw [hυ]) (by rw [hξ]) (by rw [hι]) hwf len n kp mi hk (by omega) hlen h0 (by omega)) hW (q_recv X hW ds_R rfl) ok_R_readWalker mw_1113 ⟨by decide, by decide⟩ (As := []) rfl rfl (Nat.le_of_ble_eq_true rfl) (lv := [(2, .int (nI j)), (1, .int (-1)), (0, .ref (eA E 70))]) hl ⟨Nat.le_refl 0, Nat.le_refl 0⟩ d_R_readItem_61 (fun H locs Sq61 hP61 hW => ?_)
            refine lv_goto (tgt := 115) X.x X.b d_R_readItem_64 (by decide) ?_
            have eR : rItm ξ len n ρ = rWal ξ len n ρ := by rw [rItm, if_pos hw7]
            exact q_pvret X hW (by rw [eR]; exact hP61) d_R_readItem_115
        · exact absurd (by decide) c39
      · have c10 : ¬ 7 ≤ j := fun z => c10 ((nI_leI (a := 7) (b := j) (by omega) (by omega)).mpr z)
        refine lv_aload_n X.x X.b d_R_readItem_13 rfl (lv_at hl 2 rfl) ?_
        refine lv_aload_n X.x X.b d_R_readItem_14 rfl (lv_at hl 2 rfl) ?_
        refine q_getr X hW qj4 rfl _ ds_R 12 (by decide) mw_698 rfl (c1 := 76) rfl d_R_readItem_15 ?_
        refine lv_iload_n X.x X.b d_R_readItem_18 rfl (lv_at hl 0 rfl) ?_
        refine q_kn X hW (t := j) (by omega) d_R_readItem_19 ?_
        refine q_cvi X (c_R_isWord l E S υ ξ (by rw [hυ]) (by rw [hξ]) len n kp (nI 0) mi (nT ρ) (nW ρ) hk (by omega) hlen h0 j (by omega)) hW (q_recv X hW ds_R rfl) ok_R_isWord mw_1090 ⟨by decide, by decide⟩ (As := [.ref (eK E j)]) rfl rfl (Nat.le_of_ble_eq_true rfl) (lv := [(2, .int (nI j)), (1, .int a), (0, .ref (eA E 70))]) hl ⟨Nat.le_refl 0, Nat.le_refl 0⟩ d_R_readItem_20 (fun H locs hW => ?_)
        refine lv_if_eq (tgt := 30) X.x X.b d_R_readItem_23 (by decide) (fun c23 => ?_) (fun c23 => ?_)
        · have c23 := b2i_e c23
          refine lv_iload_n X.x X.b d_R_readItem_30 rfl (lv_at hl 1 rfl) ?_
          refine lv_istore_n (lv' := [(1, .int a), (2, .int (nI j)), (0, .ref (eA E 70))]) X.x X.b d_R_readItem_31 rfl hl (by decide) rfl (fun ls hl => ?_)
          refine lv_iinc (v := nI (j + 1)) (lv' := [(2, .int (nI (j + 1))), (1, .int a), (0, .ref (eA E 70))]) X.x X.b d_R_readItem_32 hl (k := 1) rfl (by rw [show Int32.ofInt 1 = nI 1 from by decide, nI_add]) (by decide) rfl (fun ls hl => ?_)
          refine lv_goto (tgt := 4) X.x X.b d_R_readItem_35 (by decide) ?_
          exact ih4 (j + 1) a (by omega) ha (by omega) _ _ _ hW (lv_sub hl [0, 1, 2] rfl)
        · have c23 := b2i_n c23
          exact absurd c23 (hwk j (by omega))
  exact loop4 (7 - 0 + 1) 0 (-1) (by omega) rfl (Nat.lt_succ_self _) _ _ _ hW (lv_sub hl [0, 1, 2] rfl)
set_option maxHeartbeats 1000000 in
set_option maxRecDepth 20000 in
theorem c_R_readItem_t (l : Launch) (E : QE) (S : QM) (υ ξ ι ρ : Nat → Int32) (hυ : S 15 = υ) (hξ : S 20 = ξ) (hι : S 21 = ι) (hwf : WF ρ) (len n : Nat) (kp : Int32) (mi : Nat) (hk : stK ξ len n kp (nI 0) mi (nT ρ) (nW ρ) υ) (hn : n ≤ len) (hlen : len ≤ 120) (h0 : ∀ i, i < len → 0 ≤ ξ i) (hmi : mi ≤ 119) (hwk : ∀ j, j < 7 → ¬ wrd ξ len n j) (hw7 : ¬ wrd ξ len n 7) (hw10 : wrd ξ len n 10) : qCPv E l y_R_readItem prog_7_method_92_code 4 8 [.ref (eA E 70)] S (itP S ξ len mi kp ι ρ (rItm ξ len n ρ)) := by
  refine qCPv_of (by decide) (Nat.le_of_ble_eq_true rfl) (fun p e s m below meth c ls X hW hl => ?_)
  have hl : lv_has ls 4 [(0, .ref (eA E 70))] := hl
  have hW : qWH E (qr (qr S 21 ι) 15 υ) s s.heap [] := by rw [show qr (qr S 21 ι) 15 υ = S from by rw [← hι, qr_self, ← hυ, qr_self]]; exact hW
  obtain ⟨kυ_3, kυ_6, kυ_7, kυ_8, kυ_9, kυ_10, kυ_11, kυ_14, kυ_15, kυ_16⟩ := id hk
  have hb1 := tN_n (σ := ξ) (len := len) (n := n) (by omega)
  have hb2 := tN_le (σ := ξ) (len := len) (n := n) (by omega)
  have hb3 := kR_le (σ := ξ) (len := len) (n := n)
  have htl := hwf.tl
  have hwl := hwf.wl
  have hdl := hwf.dl
  have hs71 := hw10
  refine lv_iconst (v := (-1)) X.x X.b d_R_readItem_0 (by decide) ?_
  refine lv_istore_n (lv' := [(1, .int (-1)), (0, .ref (eA E 70))]) X.x X.b d_R_readItem_1 rfl hl (by decide) rfl (fun ls hl => ?_)
  refine lv_iconst (v := nI 0) X.x X.b d_R_readItem_2 (by decide) ?_
  refine lv_istore_n (lv' := [(2, .int (nI 0)), (1, .int (-1)), (0, .ref (eA E 70))]) X.x X.b d_R_readItem_3 rfl hl (by decide) rfl (fun ls hl => ?_)
  have loop4 : ∀ (fu4 : Nat) (j : Nat) (a : Int32), j ≤ 7 → a = (-1) → 7 - j < fu4 → ∀ (H : Heap) (locs : List Loc) (ls : Array Slot), qWH E (qr (qr S 21 ι) 15 υ) s H locs → lv_has ls 4 [(2, .int (nI j)), (1, .int a), (0, .ref (eA E 70))] → W p l e (qRm 8) s m ([.ref (eA E 70)] : List Value).toArray below meth c H locs 0 0 (MQ below (qQpv E (itP S ξ len mi kp ι ρ (rItm ξ len n ρ)) s.heap.size) ([.ref (eA E 70)] : List Value).toArray s 0 0 (qAA E s.heap.size)) (F0 m 4 ls []) := by
    intro fu4
    induction fu4 with
    | zero =>
      intro j a hj ha hfu
      exact absurd hfu (Nat.not_lt_zero _)
    | succ fu4 ih4 =>
      intro j a hj ha hfu H locs ls hW hl
      refine lv_iload_n X.x X.b d_R_readItem_4 rfl (lv_at hl 0 rfl) ?_
      refine lv_aload_n X.x X.b d_R_readItem_5 rfl (lv_at hl 2 rfl) ?_
      refine q_getr X hW qj4 rfl _ ds_R 12 (by decide) mw_698 rfl (c1 := 76) rfl d_R_readItem_6 ?_
      refine q_rlen X hW 76 ds_76 (ty := .object "java/lang/String") rfl (v := nI 7) rfl d_R_readItem_9 ?_
      refine lv_icmp_ge (tgt := 38) X.x X.b d_R_readItem_10 (by decide) (fun c10 => ?_) (fun c10 => ?_)
      · have c10 : 7 ≤ j := (nI_leI (a := 7) (b := j) (by omega) (by omega)).mp c10
        have ea : a = (-1) := ha
        subst ea
        refine lv_iload_n X.x X.b d_R_readItem_38 rfl (lv_at hl 1 rfl) ?_
        refine lv_if_lt (tgt := 50) X.x X.b d_R_readItem_39 (by decide) (fun c39 => ?_) (fun c39 => ?_)
        · refine lv_aload_n X.x X.b d_R_readItem_50 rfl (lv_at hl 2 rfl) ?_
          refine q_ldcsW X (tx := "walker") (i := 7) (by decide) d_R_readItem_51 ?_
          refine q_cvi X (c_R_isWord l E (qr (qr S 21 ι) 15 υ) υ ξ (by rw [qr_at]) (by rw [qr_ne (by omega), qr_ne (by omega), hξ]) len n kp (nI 0) mi (nT ρ) (nW ρ) hk (by omega) hlen h0 7 (by omega)) hW (q_recv X hW ds_R rfl) ok_R_isWord mw_1090 ⟨by decide, by decide⟩ (As := [.ref (eK E 7)]) rfl rfl (Nat.le_of_ble_eq_true rfl) (lv := [(2, .int (nI j)), (1, .int (-1)), (0, .ref (eA E 70))]) hl ⟨Nat.le_refl 0, Nat.le_refl 0⟩ d_R_readItem_54 (fun H locs hW => ?_)
          refine lv_if_eq (tgt := 67) X.x X.b d_R_readItem_57 (by decide) (fun c57 => ?_) (fun c57 => ?_)
          · have c57 := b2i_e c57
            refine lv_aload_n X.x X.b d_R_readItem_67 rfl (lv_at hl 2 rfl) ?_
            refine q_ldcsW X (tx := "turn") (i := 10) (by decide) d_R_readItem_68 ?_
            refine q_cvip X (c_R_takesWord_t l E (qr (qr S 21 ι) 15 υ) υ ξ (by rw [qr_at]) (by rw [qr_ne (by omega), qr_ne (by omega), hξ]) len n kp mi (nT ρ) (nW ρ) hk (by omega) hlen h0 10 (by omega) hs71) hW (q_recv X hW ds_R rfl) ok_R_takesWord mw_1118 ⟨by decide, by decide⟩ (As := [.ref (eK E 10)]) rfl rfl (Nat.le_of_ble_eq_true rfl) (lv := [(2, .int (nI j)), (1, .int (-1)), (0, .ref (eA E 70))]) hl ⟨Nat.le_refl 0, Nat.le_refl 0⟩ d_R_readItem_71 (fun H locs Sq71 hP71 hW => ?_)
            obtain ⟨τ71, hτ71, rfl⟩ := hP71
            have hW : qWH E (qr (qr S 21 ι) 15 τ71) s H locs := (by have h := hW; rw [qr_qr] at h; exact h)
            obtain ⟨kτ71_3, kτ71_6, kτ71_7, kτ71_8, kτ71_9, kτ71_10, kτ71_11, kτ71_14, kτ71_15, kτ71_16⟩ := id hτ71
            have bτ71 := tN_n (σ := ξ) (len := len) (n := tN ξ len n) (by omega)
            have dτ71 := tN_le (σ := ξ) (len := len) (n := tN ξ len n) (by omega)
            have eτ71 := kR_le (σ := ξ) (len := len) (n := tN ξ len n)
            refine lv_if_eq (tgt := 110) X.x X.b d_R_readItem_74 (by decide) (fun c74 => ?_) (fun c74 => ?_)
            · exact absurd c74 (by decide)
            · have c74 : ¬ 1 = 0 := fun z => c74 ((nI_eq (a := 1) (b := 0) (by omega) (by omega)).mpr z)
              refine lv_aload_n X.x X.b d_R_readItem_77 rfl (lv_at hl 2 rfl) ?_
              refine lv_iconst (v := nI 0) X.x X.b d_R_readItem_78 (by decide) ?_
              refine lv_iconst (v := nI 5) X.x X.b d_R_readItem_79 (by decide) ?_
              by_cases hs80 : num ξ len (tN ξ len n) 0 5
              · refine q_cvip X (c_R_number_t l E (qr (qr S 21 ι) 15 τ71) τ71 ξ (by rw [qr_at]) (by rw [qr_ne (by omega), qr_ne (by omega), hξ]) len (tN ξ len n) kp mi (nT ρ) (nW ρ) hτ71 (by omega) hlen h0 0 5 hs80) hW (q_recv X hW ds_R rfl) ok_R_number mw_1104 ⟨by decide, by decide⟩ (As := [.int (nI 0), .int (nI 5)]) rfl rfl (Nat.le_of_ble_eq_true rfl) (lv := [(2, .int (nI j)), (1, .int (-1)), (0, .ref (eA E 70))]) hl ⟨Nat.le_refl 0, Nat.le_refl 0⟩ d_R_readItem_80 (fun H locs Sq80 hP80 hW => ?_)
                obtain ⟨τ80, hτ80, rfl⟩ := hP80
                have hW : qWH E (qr (qr S 21 ι) 15 τ80) s H locs := (by have h := hW; rw [qr_qr] at h; exact h)
                obtain ⟨kτ80_3, kτ80_6, kτ80_7, kτ80_8, kτ80_9, kτ80_10, kτ80_11, kτ80_14, kτ80_15, kτ80_16⟩ := id hτ80
                have bτ80 := tN_n (σ := ξ) (len := len) (n := tN ξ len (tN ξ len n)) (by omega)
                have dτ80 := tN_le (σ := ξ) (len := len) (n := tN ξ len (tN ξ len n)) (by omega)
                have eτ80 := kR_le (σ := ξ) (len := len) (n := tN ξ len (tN ξ len n))
                refine lv_istore_n (lv' := [(2, .int (tV ξ len (tN ξ len n))), (1, .int (-1)), (0, .ref (eA E 70))]) X.x X.b d_R_readItem_83 rfl hl (by decide) rfl (fun ls hl => ?_)
                refine lv_aload_n X.x X.b d_R_readItem_84 rfl (lv_at hl 2 rfl) ?_
                refine lv_iconst (v := nI 0) X.x X.b d_R_readItem_85 (by decide) ?_
                refine lv_iconst (v := nI 5) X.x X.b d_R_readItem_86 (by decide) ?_
                by_cases hs87 : num ξ len (tN ξ len (tN ξ len n)) 0 5
                · refine q_cvip X (c_R_number_t l E (qr (qr S 21 ι) 15 τ80) τ80 ξ (by rw [qr_at]) (by rw [qr_ne (by omega), qr_ne (by omega), hξ]) len (tN ξ len (tN ξ len n)) kp mi (nT ρ) (nW ρ) hτ80 (by omega) hlen h0 0 5 hs87) hW (q_recv X hW ds_R rfl) ok_R_number mw_1104 ⟨by decide, by decide⟩ (As := [.int (nI 0), .int (nI 5)]) rfl rfl (Nat.le_of_ble_eq_true rfl) (lv := [(2, .int (tV ξ len (tN ξ len n))), (1, .int (-1)), (0, .ref (eA E 70))]) hl ⟨Nat.le_refl 0, Nat.le_refl 0⟩ d_R_readItem_87 (fun H locs Sq87 hP87 hW => ?_)
                  obtain ⟨τ87, hτ87, rfl⟩ := hP87
                  have hW : qWH E (qr (qr S 21 ι) 15 τ87) s H locs := (by have h := hW; rw [qr_qr] at h; exact h)
                  obtain ⟨kτ87_3, kτ87_6, kτ87_7, kτ87_8, kτ87_9, kτ87_10, kτ87_11, kτ87_14, kτ87_15, kτ87_16⟩ := id hτ87
                  have bτ87 := tN_n (σ := ξ) (len := len) (n := tN ξ len (tN ξ len (tN ξ len n))) (by omega)
                  have dτ87 := tN_le (σ := ξ) (len := len) (n := tN ξ len (tN ξ len (tN ξ len n))) (by omega)
                  have eτ87 := kR_le (σ := ξ) (len := len) (n := tN ξ len (tN ξ len (tN ξ len n)))
                  refine lv_istore_n (lv' := [(3, .int (tV ξ len (tN ξ len (tN ξ len n)))), (2, .int (tV ξ len (tN ξ len n))), (1, .int (-1)), (0, .ref (eA E 70))]) X.x X.b d_R_readItem_90 rfl hl (by decide) rfl (fun ls hl => ?_)
                  refine lv_aload_n X.x X.b d_R_readItem_91 rfl (lv_at hl 3 rfl) ?_
                  refine lv_bipush (v := nI 11) X.x X.b d_R_readItem_92 (by decide) ?_
                  refine lv_iload_n X.x X.b d_R_readItem_94 rfl (lv_at hl 1 rfl) ?_
                  refine lv_iload_n X.x X.b d_R_readItem_95 rfl (lv_at hl 0 rfl) ?_
                  refine lv_aload_n X.x X.b d_R_readItem_96 rfl (lv_at hl 3 rfl) ?_
                  refine lv_iconst (v := nI 0) X.x X.b d_R_readItem_97 (by decide) ?_
                  refine lv_bipush (v := nI 7) X.x X.b d_R_readItem_98 (by decide) ?_
                  by_cases hs100 : num ξ len (tN ξ len (tN ξ len (tN ξ len n))) 0 7
                  · refine q_cvip X (c_R_number_t l E (qr (qr S 21 ι) 15 τ87) τ87 ξ (by rw [qr_at]) (by rw [qr_ne (by omega), qr_ne (by omega), hξ]) len (tN ξ len (tN ξ len (tN ξ len n))) kp mi (nT ρ) (nW ρ) hτ87 (by omega) hlen h0 0 7 hs100) hW (q_recv X hW ds_R rfl) ok_R_number mw_1104 ⟨by decide, by decide⟩ (As := [.int (nI 0), .int (nI 7)]) rfl rfl (Nat.le_of_ble_eq_true rfl) (lv := [(3, .int (tV ξ len (tN ξ len (tN ξ len n)))), (2, .int (tV ξ len (tN ξ len n))), (1, .int (-1)), (0, .ref (eA E 70))]) hl ⟨Nat.le_refl 0, Nat.le_refl 0⟩ d_R_readItem_100 (fun H locs Sq100 hP100 hW => ?_)
                    obtain ⟨τ100, hτ100, rfl⟩ := hP100
                    have hW : qWH E (qr (qr S 21 ι) 15 τ100) s H locs := (by have h := hW; rw [qr_qr] at h; exact h)
                    obtain ⟨kτ100_3, kτ100_6, kτ100_7, kτ100_8, kτ100_9, kτ100_10, kτ100_11, kτ100_14, kτ100_15, kτ100_16⟩ := id hτ100
                    have bτ100 := tN_n (σ := ξ) (len := len) (n := tN ξ len (tN ξ len (tN ξ len (tN ξ len n)))) (by omega)
                    have dτ100 := tN_le (σ := ξ) (len := len) (n := tN ξ len (tN ξ len (tN ξ len (tN ξ len n)))) (by omega)
                    have eτ100 := kR_le (σ := ξ) (len := len) (n := tN ξ len (tN ξ len (tN ξ len (tN ξ len n))))
                    refine lv_iconst (v := nI 0) X.x X.b d_R_readItem_103 (by decide) ?_
                    refine q_cvvp X (c_R_addItem l E (qr (qr S 21 ι) 15 τ100) τ100 ι (by rw [qr_at]) (by rw [qr_ne (by omega), qr_at]) mi kτ100_14 (by omega) (nI 11) (tV ξ len (tN ξ len n)) (tV ξ len (tN ξ len (tN ξ len n))) (tV ξ len (tN ξ len (tN ξ len (tN ξ len n)))) (nI 0)) hW (q_recv X hW ds_R rfl) ok_R_addItem mw_1108 ⟨by decide, by decide⟩ (As := [.int (nI 11), .int (tV ξ len (tN ξ len n)), .int (tV ξ len (tN ξ len (tN ξ len n))), .int (tV ξ len (tN ξ len (tN ξ len (tN ξ len n)))), .int (nI 0)]) rfl rfl (Nat.le_of_ble_eq_true rfl) (lv := [(3, .int (tV ξ len (tN ξ len (tN ξ len n)))), (2, .int (tV ξ len (tN ξ len n))), (1, .int (-1)), (0, .ref (eA E 70))]) hl ⟨Nat.le_refl 0, Nat.le_refl 0⟩ d_R_readItem_104 (fun H locs Sq104 hP104 hW => ?_)
                    obtain ⟨τ104, hτ104a, hτ104b, rfl⟩ := hP104
                    have hW : qWH E (qr (qr S 21 (itm ι mi (nI 11) (tV ξ len (tN ξ len n)) (tV ξ len (tN ξ len (tN ξ len n))) (tV ξ len (tN ξ len (tN ξ len (tN ξ len n)))) (nI 0))) 15 τ104) s H locs := (by have h := hW; rw [qr_in (by omega), qr_in (by omega)] at h; exact h)
                    have kτ104_3 : τ104 3 = kp := by rw [hτ104b _ (by decide)]; exact kτ100_3
                    have kτ104_6 : τ104 6 = nI len := by rw [hτ104b _ (by decide)]; exact kτ100_6
                    have kτ104_7 : τ104 7 = nI (tS ξ len (tN ξ len (tN ξ len (tN ξ len (tN ξ len n))))) := by rw [hτ104b _ (by decide)]; exact kτ100_7
                    have kτ104_8 : τ104 8 = nI (tN ξ len (tN ξ len (tN ξ len (tN ξ len (tN ξ len n))))) := by rw [hτ104b _ (by decide)]; exact kτ100_8
                    have kτ104_9 : τ104 9 = nI (kR (tK ξ len (tN ξ len (tN ξ len (tN ξ len (tN ξ len n)))))) := by rw [hτ104b _ (by decide)]; exact kτ100_9
                    have kτ104_10 : τ104 10 = tV ξ len (tN ξ len (tN ξ len (tN ξ len (tN ξ len n)))) := by rw [hτ104b _ (by decide)]; exact kτ100_10
                    have kτ104_11 : τ104 11 = nI 0 := by rw [hτ104b _ (by decide)]; exact kτ100_11
                    have kτ104_14 := hτ104a
                    have kτ104_15 : τ104 15 = nI (nT ρ) := by rw [hτ104b _ (by decide)]; exact kτ100_15
                    have kτ104_16 : τ104 16 = nI (nW ρ) := by rw [hτ104b _ (by decide)]; exact kτ100_16
                    refine lv_goto (tgt := 115) X.x X.b d_R_readItem_107 (by decide) ?_
                    have eR : rItm ξ len n ρ = (true, (tN ξ len (tN ξ len (tN ξ len (tN ξ len n))), upd ρ (4 + (tV ξ len (tN ξ len n)).toNatClampNeg) (nI 10 * tV ξ len (tN ξ len (tN ξ len n)) + tV ξ len (tN ξ len (tN ξ len (tN ξ len n)))))) := by rw [rItm, if_neg hw7, if_pos hw10, rTur, if_neg (fun z => z hs80), if_neg (fun z => z hs87), if_neg (fun z => z hs100)]
                    obtain ⟨j80, -, hj80, ej80⟩ := inR_n (by decide) hs80.2
                    have eI : 4 + (tV ξ len (tN ξ len n)).toNatClampNeg = 4 + j80 := by rw [ej80, nI_clamp (by omega)]
                    exact q_pvret X hW ⟨τ104, _, _, _, _, by rw [eR]; exact ⟨kτ104_3, kτ104_6, kτ104_7, kτ104_8, kτ104_9, kτ104_10, kτ104_11, kτ104_14, kτ104_15, kτ104_16⟩, fun _ => by rw [eR]; exact ⟨rfl, (nT_up (by omega)).symm, (nW_up (by omega)).symm, (it_turn ⟨j80, hj80, ej80⟩).1, (it_turn ⟨j80, hj80, ej80⟩).2, fun q hq => itm_lo hq⟩, rfl⟩ d_R_readItem_115
                  · refine q_cvip X (c_R_number_f l E (qr (qr S 21 ι) 15 τ87) τ87 ξ (by rw [qr_at]) (by rw [qr_ne (by omega), qr_ne (by omega), hξ]) len (tN ξ len (tN ξ len (tN ξ len n))) kp mi (nT ρ) (nW ρ) hτ87 (by omega) hlen h0 0 7 hs100) hW (q_recv X hW ds_R rfl) ok_R_number mw_1104 ⟨by decide, by decide⟩ (As := [.int (nI 0), .int (nI 7)]) rfl rfl (Nat.le_of_ble_eq_true rfl) (lv := [(3, .int (tV ξ len (tN ξ len (tN ξ len n)))), (2, .int (tV ξ len (tN ξ len n))), (1, .int (-1)), (0, .ref (eA E 70))]) hl ⟨Nat.le_refl 0, Nat.le_refl 0⟩ d_R_readItem_100 (fun H locs Sq100 hP100 hW => ?_)
                    obtain ⟨τ100, hτ100, rfl⟩ := hP100
                    have hW : qWH E (qr (qr S 21 ι) 15 τ100) s H locs := (by have h := hW; rw [qr_qr] at h; exact h)
                    obtain ⟨kτ100_3, kτ100_6, kτ100_7, kτ100_8, kτ100_9, kτ100_10, kτ100_11, kτ100_14, kτ100_15, kτ100_16⟩ := id hτ100
                    have bτ100 := tN_n (σ := ξ) (len := len) (n := (tN ξ len (tN ξ len (tN ξ len n)))) (by omega)
                    have dτ100 := tN_le (σ := ξ) (len := len) (n := (tN ξ len (tN ξ len (tN ξ len n)))) (by omega)
                    have eτ100 := kR_le (σ := ξ) (len := len) (n := (tN ξ len (tN ξ len (tN ξ len n))))
                    refine lv_iconst (v := nI 0) X.x X.b d_R_readItem_103 (by decide) ?_
                    refine q_cvvp X (c_R_addItem l E (qr (qr S 21 ι) 15 τ100) τ100 ι (by rw [qr_at]) (by rw [qr_ne (by omega), qr_at]) mi kτ100_14 (by omega) (nI 11) (tV ξ len (tN ξ len n)) (tV ξ len (tN ξ len (tN ξ len n))) (tV ξ len (tN ξ len (tN ξ len (tN ξ len n)))) (nI 0)) hW (q_recv X hW ds_R rfl) ok_R_addItem mw_1108 ⟨by decide, by decide⟩ (As := [.int (nI 11), .int (tV ξ len (tN ξ len n)), .int (tV ξ len (tN ξ len (tN ξ len n))), .int (tV ξ len (tN ξ len (tN ξ len (tN ξ len n)))), .int (nI 0)]) rfl rfl (Nat.le_of_ble_eq_true rfl) (lv := [(3, .int (tV ξ len (tN ξ len (tN ξ len n)))), (2, .int (tV ξ len (tN ξ len n))), (1, .int (-1)), (0, .ref (eA E 70))]) hl ⟨Nat.le_refl 0, Nat.le_refl 0⟩ d_R_readItem_104 (fun H locs Sq104 hP104 hW => ?_)
                    obtain ⟨τ104, hτ104a, hτ104b, rfl⟩ := hP104
                    have hW : qWH E (qr (qr S 21 (itm ι mi (nI 11) (tV ξ len (tN ξ len n)) (tV ξ len (tN ξ len (tN ξ len n))) (tV ξ len (tN ξ len (tN ξ len (tN ξ len n)))) (nI 0))) 15 τ104) s H locs := (by have h := hW; rw [qr_in (by omega), qr_in (by omega)] at h; exact h)
                    have kτ104_3 : τ104 3 = kp := by rw [hτ104b _ (by decide)]; exact kτ100_3
                    have kτ104_6 : τ104 6 = nI len := by rw [hτ104b _ (by decide)]; exact kτ100_6
                    have kτ104_7 : τ104 7 = nI (tS ξ len (tN ξ len (tN ξ len (tN ξ len n)))) := by rw [hτ104b _ (by decide)]; exact kτ100_7
                    have kτ104_8 : τ104 8 = nI (tN ξ len (tN ξ len (tN ξ len (tN ξ len n)))) := by rw [hτ104b _ (by decide)]; exact kτ100_8
                    have kτ104_9 : τ104 9 = nI (kR (tK ξ len (tN ξ len (tN ξ len (tN ξ len n))))) := by rw [hτ104b _ (by decide)]; exact kτ100_9
                    have kτ104_10 : τ104 10 = tV ξ len (tN ξ len (tN ξ len (tN ξ len n))) := by rw [hτ104b _ (by decide)]; exact kτ100_10
                    have kτ104_11 : τ104 11 = nI 1 := by rw [hτ104b _ (by decide)]; exact kτ100_11
                    have kτ104_14 := hτ104a
                    have kτ104_15 : τ104 15 = nI (nT ρ) := by rw [hτ104b _ (by decide)]; exact kτ100_15
                    have kτ104_16 : τ104 16 = nI (nW ρ) := by rw [hτ104b _ (by decide)]; exact kτ100_16
                    refine lv_goto (tgt := 115) X.x X.b d_R_readItem_107 (by decide) ?_
                    have eR : rItm ξ len n ρ = (false, (tN ξ len (tN ξ len (tN ξ len n)), ρ)) := by rw [rItm, if_neg hw7, if_pos hw10, rTur, if_neg (fun z => z hs80), if_neg (fun z => z hs87), if_pos hs100]
                    exact q_pvret X hW ⟨τ104, _, _, _, _, by rw [eR]; exact ⟨kτ104_3, kτ104_6, kτ104_7, kτ104_8, kτ104_9, kτ104_10, kτ104_11, kτ104_14, kτ104_15, kτ104_16⟩, fun z => absurd z (by rw [eR]; exact Bool.false_ne_true), rfl⟩ d_R_readItem_115
                · refine q_cvip X (c_R_number_f l E (qr (qr S 21 ι) 15 τ80) τ80 ξ (by rw [qr_at]) (by rw [qr_ne (by omega), qr_ne (by omega), hξ]) len (tN ξ len (tN ξ len n)) kp mi (nT ρ) (nW ρ) hτ80 (by omega) hlen h0 0 5 hs87) hW (q_recv X hW ds_R rfl) ok_R_number mw_1104 ⟨by decide, by decide⟩ (As := [.int (nI 0), .int (nI 5)]) rfl rfl (Nat.le_of_ble_eq_true rfl) (lv := [(2, .int (tV ξ len (tN ξ len n))), (1, .int (-1)), (0, .ref (eA E 70))]) hl ⟨Nat.le_refl 0, Nat.le_refl 0⟩ d_R_readItem_87 (fun H locs Sq87 hP87 hW => ?_)
                  obtain ⟨τ87, hτ87, rfl⟩ := hP87
                  have hW : qWH E (qr (qr S 21 ι) 15 τ87) s H locs := (by have h := hW; rw [qr_qr] at h; exact h)
                  obtain ⟨kτ87_3, kτ87_6, kτ87_7, kτ87_8, kτ87_9, kτ87_10, kτ87_11, kτ87_14, kτ87_15, kτ87_16⟩ := id hτ87
                  have bτ87 := tN_n (σ := ξ) (len := len) (n := (tN ξ len (tN ξ len n))) (by omega)
                  have dτ87 := tN_le (σ := ξ) (len := len) (n := (tN ξ len (tN ξ len n))) (by omega)
                  have eτ87 := kR_le (σ := ξ) (len := len) (n := (tN ξ len (tN ξ len n)))
                  refine lv_istore_n (lv' := [(3, .int (tV ξ len (tN ξ len (tN ξ len n)))), (2, .int (tV ξ len (tN ξ len n))), (1, .int (-1)), (0, .ref (eA E 70))]) X.x X.b d_R_readItem_90 rfl hl (by decide) rfl (fun ls hl => ?_)
                  refine lv_aload_n X.x X.b d_R_readItem_91 rfl (lv_at hl 3 rfl) ?_
                  refine lv_bipush (v := nI 11) X.x X.b d_R_readItem_92 (by decide) ?_
                  refine lv_iload_n X.x X.b d_R_readItem_94 rfl (lv_at hl 1 rfl) ?_
                  refine lv_iload_n X.x X.b d_R_readItem_95 rfl (lv_at hl 0 rfl) ?_
                  refine lv_aload_n X.x X.b d_R_readItem_96 rfl (lv_at hl 3 rfl) ?_
                  refine lv_iconst (v := nI 0) X.x X.b d_R_readItem_97 (by decide) ?_
                  refine lv_bipush (v := nI 7) X.x X.b d_R_readItem_98 (by decide) ?_
                  refine q_cvip X (c_R_number_w l E (qr (qr S 21 ι) 15 τ87) τ87 ξ (by rw [qr_at]) (by rw [qr_ne (by omega), qr_ne (by omega), hξ]) len (tN ξ len (tN ξ len n)) kp mi (nT ρ) (nW ρ) hτ87 (by omega) hlen h0 0 7) hW (q_recv X hW ds_R rfl) ok_R_number mw_1104 ⟨by decide, by decide⟩ (As := [.int (nI 0), .int (nI 7)]) rfl rfl (Nat.le_of_ble_eq_true rfl) (lv := [(3, .int (tV ξ len (tN ξ len (tN ξ len n)))), (2, .int (tV ξ len (tN ξ len n))), (1, .int (-1)), (0, .ref (eA E 70))]) hl ⟨Nat.le_refl 0, Nat.le_refl 0⟩ d_R_readItem_100 (fun H locs Sq100 hP100 hW => ?_)
                  obtain ⟨τ100, hτ100, rfl⟩ := hP100
                  have hW : qWH E (qr (qr S 21 ι) 15 τ100) s H locs := (by have h := hW; rw [qr_qr] at h; exact h)
                  obtain ⟨kτ100_3, kτ100_6, kτ100_7, kτ100_8, kτ100_9, kτ100_10, kτ100_11, kτ100_14, kτ100_15, kτ100_16⟩ := id hτ100
                  have bτ100 := tN_n (σ := ξ) (len := len) (n := (tN ξ len (tN ξ len n))) (by omega)
                  have dτ100 := tN_le (σ := ξ) (len := len) (n := (tN ξ len (tN ξ len n))) (by omega)
                  have eτ100 := kR_le (σ := ξ) (len := len) (n := (tN ξ len (tN ξ len n)))
                  refine lv_iconst (v := nI 0) X.x X.b d_R_readItem_103 (by decide) ?_
                  refine q_cvvp X (c_R_addItem l E (qr (qr S 21 ι) 15 τ100) τ100 ι (by rw [qr_at]) (by rw [qr_ne (by omega), qr_at]) mi kτ100_14 (by omega) (nI 11) (tV ξ len (tN ξ len n)) (tV ξ len (tN ξ len (tN ξ len n))) (tV ξ len (tN ξ len (tN ξ len n))) (nI 0)) hW (q_recv X hW ds_R rfl) ok_R_addItem mw_1108 ⟨by decide, by decide⟩ (As := [.int (nI 11), .int (tV ξ len (tN ξ len n)), .int (tV ξ len (tN ξ len (tN ξ len n))), .int (tV ξ len (tN ξ len (tN ξ len n))), .int (nI 0)]) rfl rfl (Nat.le_of_ble_eq_true rfl) (lv := [(3, .int (tV ξ len (tN ξ len (tN ξ len n)))), (2, .int (tV ξ len (tN ξ len n))), (1, .int (-1)), (0, .ref (eA E 70))]) hl ⟨Nat.le_refl 0, Nat.le_refl 0⟩ d_R_readItem_104 (fun H locs Sq104 hP104 hW => ?_)
                  obtain ⟨τ104, hτ104a, hτ104b, rfl⟩ := hP104
                  have hW : qWH E (qr (qr S 21 (itm ι mi (nI 11) (tV ξ len (tN ξ len n)) (tV ξ len (tN ξ len (tN ξ len n))) (tV ξ len (tN ξ len (tN ξ len n))) (nI 0))) 15 τ104) s H locs := (by have h := hW; rw [qr_in (by omega), qr_in (by omega)] at h; exact h)
                  have kτ104_3 : τ104 3 = kp := by rw [hτ104b _ (by decide)]; exact kτ100_3
                  have kτ104_6 : τ104 6 = nI len := by rw [hτ104b _ (by decide)]; exact kτ100_6
                  have kτ104_7 : τ104 7 = nI (tS ξ len (tN ξ len (tN ξ len n))) := by rw [hτ104b _ (by decide)]; exact kτ100_7
                  have kτ104_8 : τ104 8 = nI (tN ξ len (tN ξ len (tN ξ len n))) := by rw [hτ104b _ (by decide)]; exact kτ100_8
                  have kτ104_9 : τ104 9 = nI (kR (tK ξ len (tN ξ len (tN ξ len n)))) := by rw [hτ104b _ (by decide)]; exact kτ100_9
                  have kτ104_10 : τ104 10 = tV ξ len (tN ξ len (tN ξ len n)) := by rw [hτ104b _ (by decide)]; exact kτ100_10
                  have kτ104_11 : τ104 11 = nI 1 := by rw [hτ104b _ (by decide)]; exact kτ100_11
                  have kτ104_14 := hτ104a
                  have kτ104_15 : τ104 15 = nI (nT ρ) := by rw [hτ104b _ (by decide)]; exact kτ100_15
                  have kτ104_16 : τ104 16 = nI (nW ρ) := by rw [hτ104b _ (by decide)]; exact kτ100_16
                  refine lv_goto (tgt := 115) X.x X.b d_R_readItem_107 (by decide) ?_
                  have eR : rItm ξ len n ρ = (false, (tN ξ len (tN ξ len n), ρ)) := by rw [rItm, if_neg hw7, if_pos hw10, rTur, if_neg (fun z => z hs80), if_pos hs87]
                  exact q_pvret X hW ⟨τ104, _, _, _, _, by rw [eR]; exact ⟨kτ104_3, kτ104_6, kτ104_7, kτ104_8, kτ104_9, kτ104_10, kτ104_11, kτ104_14, kτ104_15, kτ104_16⟩, fun z => absurd z (by rw [eR]; exact Bool.false_ne_true), rfl⟩ d_R_readItem_115
              · refine q_cvip X (c_R_number_f l E (qr (qr S 21 ι) 15 τ71) τ71 ξ (by rw [qr_at]) (by rw [qr_ne (by omega), qr_ne (by omega), hξ]) len (tN ξ len n) kp mi (nT ρ) (nW ρ) hτ71 (by omega) hlen h0 0 5 hs80) hW (q_recv X hW ds_R rfl) ok_R_number mw_1104 ⟨by decide, by decide⟩ (As := [.int (nI 0), .int (nI 5)]) rfl rfl (Nat.le_of_ble_eq_true rfl) (lv := [(2, .int (nI j)), (1, .int (-1)), (0, .ref (eA E 70))]) hl ⟨Nat.le_refl 0, Nat.le_refl 0⟩ d_R_readItem_80 (fun H locs Sq80 hP80 hW => ?_)
                obtain ⟨τ80, hτ80, rfl⟩ := hP80
                have hW : qWH E (qr (qr S 21 ι) 15 τ80) s H locs := (by have h := hW; rw [qr_qr] at h; exact h)
                obtain ⟨kτ80_3, kτ80_6, kτ80_7, kτ80_8, kτ80_9, kτ80_10, kτ80_11, kτ80_14, kτ80_15, kτ80_16⟩ := id hτ80
                have bτ80 := tN_n (σ := ξ) (len := len) (n := (tN ξ len n)) (by omega)
                have dτ80 := tN_le (σ := ξ) (len := len) (n := (tN ξ len n)) (by omega)
                have eτ80 := kR_le (σ := ξ) (len := len) (n := (tN ξ len n))
                refine lv_istore_n (lv' := [(2, .int (tV ξ len (tN ξ len n))), (1, .int (-1)), (0, .ref (eA E 70))]) X.x X.b d_R_readItem_83 rfl hl (by decide) rfl (fun ls hl => ?_)
                refine lv_aload_n X.x X.b d_R_readItem_84 rfl (lv_at hl 2 rfl) ?_
                refine lv_iconst (v := nI 0) X.x X.b d_R_readItem_85 (by decide) ?_
                refine lv_iconst (v := nI 5) X.x X.b d_R_readItem_86 (by decide) ?_
                refine q_cvip X (c_R_number_w l E (qr (qr S 21 ι) 15 τ80) τ80 ξ (by rw [qr_at]) (by rw [qr_ne (by omega), qr_ne (by omega), hξ]) len (tN ξ len n) kp mi (nT ρ) (nW ρ) hτ80 (by omega) hlen h0 0 5) hW (q_recv X hW ds_R rfl) ok_R_number mw_1104 ⟨by decide, by decide⟩ (As := [.int (nI 0), .int (nI 5)]) rfl rfl (Nat.le_of_ble_eq_true rfl) (lv := [(2, .int (tV ξ len (tN ξ len n))), (1, .int (-1)), (0, .ref (eA E 70))]) hl ⟨Nat.le_refl 0, Nat.le_refl 0⟩ d_R_readItem_87 (fun H locs Sq87 hP87 hW => ?_)
                obtain ⟨τ87, hτ87, rfl⟩ := hP87
                have hW : qWH E (qr (qr S 21 ι) 15 τ87) s H locs := (by have h := hW; rw [qr_qr] at h; exact h)
                obtain ⟨kτ87_3, kτ87_6, kτ87_7, kτ87_8, kτ87_9, kτ87_10, kτ87_11, kτ87_14, kτ87_15, kτ87_16⟩ := id hτ87
                have bτ87 := tN_n (σ := ξ) (len := len) (n := (tN ξ len n)) (by omega)
                have dτ87 := tN_le (σ := ξ) (len := len) (n := (tN ξ len n)) (by omega)
                have eτ87 := kR_le (σ := ξ) (len := len) (n := (tN ξ len n))
                refine lv_istore_n (lv' := [(3, .int (tV ξ len (tN ξ len n))), (2, .int (tV ξ len (tN ξ len n))), (1, .int (-1)), (0, .ref (eA E 70))]) X.x X.b d_R_readItem_90 rfl hl (by decide) rfl (fun ls hl => ?_)
                refine lv_aload_n X.x X.b d_R_readItem_91 rfl (lv_at hl 3 rfl) ?_
                refine lv_bipush (v := nI 11) X.x X.b d_R_readItem_92 (by decide) ?_
                refine lv_iload_n X.x X.b d_R_readItem_94 rfl (lv_at hl 1 rfl) ?_
                refine lv_iload_n X.x X.b d_R_readItem_95 rfl (lv_at hl 0 rfl) ?_
                refine lv_aload_n X.x X.b d_R_readItem_96 rfl (lv_at hl 3 rfl) ?_
                refine lv_iconst (v := nI 0) X.x X.b d_R_readItem_97 (by decide) ?_
                refine lv_bipush (v := nI 7) X.x X.b d_R_readItem_98 (by decide) ?_
                refine q_cvip X (c_R_number_w l E (qr (qr S 21 ι) 15 τ87) τ87 ξ (by rw [qr_at]) (by rw [qr_ne (by omega), qr_ne (by omega), hξ]) len (tN ξ len n) kp mi (nT ρ) (nW ρ) hτ87 (by omega) hlen h0 0 7) hW (q_recv X hW ds_R rfl) ok_R_number mw_1104 ⟨by decide, by decide⟩ (As := [.int (nI 0), .int (nI 7)]) rfl rfl (Nat.le_of_ble_eq_true rfl) (lv := [(3, .int (tV ξ len (tN ξ len n))), (2, .int (tV ξ len (tN ξ len n))), (1, .int (-1)), (0, .ref (eA E 70))]) hl ⟨Nat.le_refl 0, Nat.le_refl 0⟩ d_R_readItem_100 (fun H locs Sq100 hP100 hW => ?_)
                obtain ⟨τ100, hτ100, rfl⟩ := hP100
                have hW : qWH E (qr (qr S 21 ι) 15 τ100) s H locs := (by have h := hW; rw [qr_qr] at h; exact h)
                obtain ⟨kτ100_3, kτ100_6, kτ100_7, kτ100_8, kτ100_9, kτ100_10, kτ100_11, kτ100_14, kτ100_15, kτ100_16⟩ := id hτ100
                have bτ100 := tN_n (σ := ξ) (len := len) (n := (tN ξ len n)) (by omega)
                have dτ100 := tN_le (σ := ξ) (len := len) (n := (tN ξ len n)) (by omega)
                have eτ100 := kR_le (σ := ξ) (len := len) (n := (tN ξ len n))
                refine lv_iconst (v := nI 0) X.x X.b d_R_readItem_103 (by decide) ?_
                refine q_cvvp X (c_R_addItem l E (qr (qr S 21 ι) 15 τ100) τ100 ι (by rw [qr_at]) (by rw [qr_ne (by omega), qr_at]) mi kτ100_14 (by omega) (nI 11) (tV ξ len (tN ξ len n)) (tV ξ len (tN ξ len n)) (tV ξ len (tN ξ len n)) (nI 0)) hW (q_recv X hW ds_R rfl) ok_R_addItem mw_1108 ⟨by decide, by decide⟩ (As := [.int (nI 11), .int (tV ξ len (tN ξ len n)), .int (tV ξ len (tN ξ len n)), .int (tV ξ len (tN ξ len n)), .int (nI 0)]) rfl rfl (Nat.le_of_ble_eq_true rfl) (lv := [(3, .int (tV ξ len (tN ξ len n))), (2, .int (tV ξ len (tN ξ len n))), (1, .int (-1)), (0, .ref (eA E 70))]) hl ⟨Nat.le_refl 0, Nat.le_refl 0⟩ d_R_readItem_104 (fun H locs Sq104 hP104 hW => ?_)
                obtain ⟨τ104, hτ104a, hτ104b, rfl⟩ := hP104
                have hW : qWH E (qr (qr S 21 (itm ι mi (nI 11) (tV ξ len (tN ξ len n)) (tV ξ len (tN ξ len n)) (tV ξ len (tN ξ len n)) (nI 0))) 15 τ104) s H locs := (by have h := hW; rw [qr_in (by omega), qr_in (by omega)] at h; exact h)
                have kτ104_3 : τ104 3 = kp := by rw [hτ104b _ (by decide)]; exact kτ100_3
                have kτ104_6 : τ104 6 = nI len := by rw [hτ104b _ (by decide)]; exact kτ100_6
                have kτ104_7 : τ104 7 = nI (tS ξ len (tN ξ len n)) := by rw [hτ104b _ (by decide)]; exact kτ100_7
                have kτ104_8 : τ104 8 = nI (tN ξ len (tN ξ len n)) := by rw [hτ104b _ (by decide)]; exact kτ100_8
                have kτ104_9 : τ104 9 = nI (kR (tK ξ len (tN ξ len n))) := by rw [hτ104b _ (by decide)]; exact kτ100_9
                have kτ104_10 : τ104 10 = tV ξ len (tN ξ len n) := by rw [hτ104b _ (by decide)]; exact kτ100_10
                have kτ104_11 : τ104 11 = nI 1 := by rw [hτ104b _ (by decide)]; exact kτ100_11
                have kτ104_14 := hτ104a
                have kτ104_15 : τ104 15 = nI (nT ρ) := by rw [hτ104b _ (by decide)]; exact kτ100_15
                have kτ104_16 : τ104 16 = nI (nW ρ) := by rw [hτ104b _ (by decide)]; exact kτ100_16
                refine lv_goto (tgt := 115) X.x X.b d_R_readItem_107 (by decide) ?_
                have eR : rItm ξ len n ρ = (false, (tN ξ len n, ρ)) := by rw [rItm, if_neg hw7, if_pos hw10, rTur, if_pos hs80]
                exact q_pvret X hW ⟨τ104, _, _, _, _, by rw [eR]; exact ⟨kτ104_3, kτ104_6, kτ104_7, kτ104_8, kτ104_9, kτ104_10, kτ104_11, kτ104_14, kτ104_15, kτ104_16⟩, fun z => absurd z (by rw [eR]; exact Bool.false_ne_true), rfl⟩ d_R_readItem_115
          · have c57 := b2i_n c57
            exact absurd c57 hw7
        · exact absurd (by decide) c39
      · have c10 : ¬ 7 ≤ j := fun z => c10 ((nI_leI (a := 7) (b := j) (by omega) (by omega)).mpr z)
        refine lv_aload_n X.x X.b d_R_readItem_13 rfl (lv_at hl 2 rfl) ?_
        refine lv_aload_n X.x X.b d_R_readItem_14 rfl (lv_at hl 2 rfl) ?_
        refine q_getr X hW qj4 rfl _ ds_R 12 (by decide) mw_698 rfl (c1 := 76) rfl d_R_readItem_15 ?_
        refine lv_iload_n X.x X.b d_R_readItem_18 rfl (lv_at hl 0 rfl) ?_
        refine q_kn X hW (t := j) (by omega) d_R_readItem_19 ?_
        refine q_cvi X (c_R_isWord l E (qr (qr S 21 ι) 15 υ) υ ξ (by rw [qr_at]) (by rw [qr_ne (by omega), qr_ne (by omega), hξ]) len n kp (nI 0) mi (nT ρ) (nW ρ) hk (by omega) hlen h0 j (by omega)) hW (q_recv X hW ds_R rfl) ok_R_isWord mw_1090 ⟨by decide, by decide⟩ (As := [.ref (eK E j)]) rfl rfl (Nat.le_of_ble_eq_true rfl) (lv := [(2, .int (nI j)), (1, .int a), (0, .ref (eA E 70))]) hl ⟨Nat.le_refl 0, Nat.le_refl 0⟩ d_R_readItem_20 (fun H locs hW => ?_)
        refine lv_if_eq (tgt := 30) X.x X.b d_R_readItem_23 (by decide) (fun c23 => ?_) (fun c23 => ?_)
        · have c23 := b2i_e c23
          refine lv_iload_n X.x X.b d_R_readItem_30 rfl (lv_at hl 1 rfl) ?_
          refine lv_istore_n (lv' := [(1, .int a), (2, .int (nI j)), (0, .ref (eA E 70))]) X.x X.b d_R_readItem_31 rfl hl (by decide) rfl (fun ls hl => ?_)
          refine lv_iinc (v := nI (j + 1)) (lv' := [(2, .int (nI (j + 1))), (1, .int a), (0, .ref (eA E 70))]) X.x X.b d_R_readItem_32 hl (k := 1) rfl (by rw [show Int32.ofInt 1 = nI 1 from by decide, nI_add]) (by decide) rfl (fun ls hl => ?_)
          refine lv_goto (tgt := 4) X.x X.b d_R_readItem_35 (by decide) ?_
          exact ih4 (j + 1) a (by omega) ha (by omega) _ _ _ hW (lv_sub hl [0, 1, 2] rfl)
        · have c23 := b2i_n c23
          exact absurd c23 (hwk j (by omega))
  exact loop4 (7 - 0 + 1) 0 (-1) (by omega) rfl (Nat.lt_succ_self _) _ _ _ hW (lv_sub hl [0, 1, 2] rfl)
set_option maxHeartbeats 1000000 in
set_option maxRecDepth 20000 in
theorem c_R_readItem_n (l : Launch) (E : QE) (S : QM) (υ ξ ι ρ : Nat → Int32) (hυ : S 15 = υ) (hξ : S 20 = ξ) (hι : S 21 = ι) (hwf : WF ρ) (len n : Nat) (kp : Int32) (mi : Nat) (hk : stK ξ len n kp (nI 0) mi (nT ρ) (nW ρ) υ) (hn : n ≤ len) (hlen : len ≤ 120) (h0 : ∀ i, i < len → 0 ≤ ξ i) (hmi : mi ≤ 119) (hwk : ∀ j, j < 7 → ¬ wrd ξ len n j) (hw7 : ¬ wrd ξ len n 7) (hw10 : ¬ wrd ξ len n 10) (hkw : kwd ξ len n = none) : qCPv E l y_R_readItem prog_7_method_92_code 4 8 [.ref (eA E 70)] S (itP S ξ len mi kp ι ρ (rItm ξ len n ρ)) := by
  refine qCPv_of (by decide) (Nat.le_of_ble_eq_true rfl) (fun p e s m below meth c ls X hW hl => ?_)
  have hl : lv_has ls 4 [(0, .ref (eA E 70))] := hl
  have hW : qWH E (qr (qr S 21 ι) 15 υ) s s.heap [] := by rw [show qr (qr S 21 ι) 15 υ = S from by rw [← hι, qr_self, ← hυ, qr_self]]; exact hW
  obtain ⟨kυ_3, kυ_6, kυ_7, kυ_8, kυ_9, kυ_10, kυ_11, kυ_14, kυ_15, kυ_16⟩ := id hk
  have hb1 := tN_n (σ := ξ) (len := len) (n := n) (by omega)
  have hb2 := tN_le (σ := ξ) (len := len) (n := n) (by omega)
  have hb3 := kR_le (σ := ξ) (len := len) (n := n)
  have htl := hwf.tl
  have hwl := hwf.wl
  have hdl := hwf.dl
  have hs71 := hw10
  refine lv_iconst (v := (-1)) X.x X.b d_R_readItem_0 (by decide) ?_
  refine lv_istore_n (lv' := [(1, .int (-1)), (0, .ref (eA E 70))]) X.x X.b d_R_readItem_1 rfl hl (by decide) rfl (fun ls hl => ?_)
  refine lv_iconst (v := nI 0) X.x X.b d_R_readItem_2 (by decide) ?_
  refine lv_istore_n (lv' := [(2, .int (nI 0)), (1, .int (-1)), (0, .ref (eA E 70))]) X.x X.b d_R_readItem_3 rfl hl (by decide) rfl (fun ls hl => ?_)
  have loop4 : ∀ (fu4 : Nat) (j : Nat) (a : Int32), j ≤ 7 → a = (-1) → 7 - j < fu4 → ∀ (H : Heap) (locs : List Loc) (ls : Array Slot), qWH E (qr (qr S 21 ι) 15 υ) s H locs → lv_has ls 4 [(2, .int (nI j)), (1, .int a), (0, .ref (eA E 70))] → W p l e (qRm 8) s m ([.ref (eA E 70)] : List Value).toArray below meth c H locs 0 0 (MQ below (qQpv E (itP S ξ len mi kp ι ρ (rItm ξ len n ρ)) s.heap.size) ([.ref (eA E 70)] : List Value).toArray s 0 0 (qAA E s.heap.size)) (F0 m 4 ls []) := by
    intro fu4
    induction fu4 with
    | zero =>
      intro j a hj ha hfu
      exact absurd hfu (Nat.not_lt_zero _)
    | succ fu4 ih4 =>
      intro j a hj ha hfu H locs ls hW hl
      refine lv_iload_n X.x X.b d_R_readItem_4 rfl (lv_at hl 0 rfl) ?_
      refine lv_aload_n X.x X.b d_R_readItem_5 rfl (lv_at hl 2 rfl) ?_
      refine q_getr X hW qj4 rfl _ ds_R 12 (by decide) mw_698 rfl (c1 := 76) rfl d_R_readItem_6 ?_
      refine q_rlen X hW 76 ds_76 (ty := .object "java/lang/String") rfl (v := nI 7) rfl d_R_readItem_9 ?_
      refine lv_icmp_ge (tgt := 38) X.x X.b d_R_readItem_10 (by decide) (fun c10 => ?_) (fun c10 => ?_)
      · have c10 : 7 ≤ j := (nI_leI (a := 7) (b := j) (by omega) (by omega)).mp c10
        have ea : a = (-1) := ha
        subst ea
        refine lv_iload_n X.x X.b d_R_readItem_38 rfl (lv_at hl 1 rfl) ?_
        refine lv_if_lt (tgt := 50) X.x X.b d_R_readItem_39 (by decide) (fun c39 => ?_) (fun c39 => ?_)
        · refine lv_aload_n X.x X.b d_R_readItem_50 rfl (lv_at hl 2 rfl) ?_
          refine q_ldcsW X (tx := "walker") (i := 7) (by decide) d_R_readItem_51 ?_
          refine q_cvi X (c_R_isWord l E (qr (qr S 21 ι) 15 υ) υ ξ (by rw [qr_at]) (by rw [qr_ne (by omega), qr_ne (by omega), hξ]) len n kp (nI 0) mi (nT ρ) (nW ρ) hk (by omega) hlen h0 7 (by omega)) hW (q_recv X hW ds_R rfl) ok_R_isWord mw_1090 ⟨by decide, by decide⟩ (As := [.ref (eK E 7)]) rfl rfl (Nat.le_of_ble_eq_true rfl) (lv := [(2, .int (nI j)), (1, .int (-1)), (0, .ref (eA E 70))]) hl ⟨Nat.le_refl 0, Nat.le_refl 0⟩ d_R_readItem_54 (fun H locs hW => ?_)
          refine lv_if_eq (tgt := 67) X.x X.b d_R_readItem_57 (by decide) (fun c57 => ?_) (fun c57 => ?_)
          · have c57 := b2i_e c57
            refine lv_aload_n X.x X.b d_R_readItem_67 rfl (lv_at hl 2 rfl) ?_
            refine q_ldcsW X (tx := "turn") (i := 10) (by decide) d_R_readItem_68 ?_
            refine q_cvip X (c_R_takesWord_f l E (qr (qr S 21 ι) 15 υ) υ ξ (by rw [qr_at]) (by rw [qr_ne (by omega), qr_ne (by omega), hξ]) len n kp mi (nT ρ) (nW ρ) hk (by omega) hlen h0 10 (by omega) hs71) hW (q_recv X hW ds_R rfl) ok_R_takesWord mw_1118 ⟨by decide, by decide⟩ (As := [.ref (eK E 10)]) rfl rfl (Nat.le_of_ble_eq_true rfl) (lv := [(2, .int (nI j)), (1, .int (-1)), (0, .ref (eA E 70))]) hl ⟨Nat.le_refl 0, Nat.le_refl 0⟩ d_R_readItem_71 (fun H locs Sq71 hP71 hW => ?_)
            obtain ⟨τ71, hτ71, rfl⟩ := hP71
            have hW : qWH E (qr (qr S 21 ι) 15 τ71) s H locs := (by have h := hW; rw [qr_qr] at h; exact h)
            obtain ⟨kτ71_3, kτ71_6, kτ71_7, kτ71_8, kτ71_9, kτ71_10, kτ71_11, kτ71_14, kτ71_15, kτ71_16⟩ := id hτ71
            have bτ71 := tN_n (σ := ξ) (len := len) (n := n) (by omega)
            have dτ71 := tN_le (σ := ξ) (len := len) (n := n) (by omega)
            have eτ71 := kR_le (σ := ξ) (len := len) (n := n)
            refine lv_if_eq (tgt := 110) X.x X.b d_R_readItem_74 (by decide) (fun c74 => ?_) (fun c74 => ?_)
            · have c74 : 0 = 0 := (nI_eq (a := 0) (b := 0) (by omega) (by omega)).mp c74
              refine lv_aload_n X.x X.b d_R_readItem_110 rfl (lv_at hl 2 rfl) ?_
              refine lv_iconst (v := nI 0) X.x X.b d_R_readItem_111 (by decide) ?_
              refine q_cvvp X (c_R_must_f l E (qr (qr S 21 ι) 15 τ71) τ71 ξ (by rw [qr_at]) (by rw [qr_ne (by omega), qr_ne (by omega), hξ]) len n kp mi (nT ρ) (nW ρ) hτ71 (by omega) hlen h0) hW (q_recv X hW ds_R rfl) ok_R_must mw_1100 ⟨by decide, by decide⟩ (As := [.int (nI 0)]) rfl rfl (Nat.le_of_ble_eq_true rfl) (lv := [(2, .int (nI j)), (1, .int (-1)), (0, .ref (eA E 70))]) hl ⟨Nat.le_refl 0, Nat.le_refl 0⟩ d_R_readItem_112 (fun H locs Sq112 hP112 hW => ?_)
              obtain ⟨τ112, hτ112, rfl⟩ := hP112
              have hW : qWH E (qr (qr S 21 ι) 15 τ112) s H locs := (by have h := hW; rw [qr_qr] at h; exact h)
              obtain ⟨kτ112_3, kτ112_6, kτ112_7, kτ112_8, kτ112_9, kτ112_10, kτ112_11, kτ112_14, kτ112_15, kτ112_16⟩ := id hτ112
              have bτ112 := tN_n (σ := ξ) (len := len) (n := n) (by omega)
              have dτ112 := tN_le (σ := ξ) (len := len) (n := n) (by omega)
              have eτ112 := kR_le (σ := ξ) (len := len) (n := n)
              have eR : rItm ξ len n ρ = (false, (n, ρ)) := by rw [rItm, if_neg hw7, if_neg hw10, hkw]
              exact q_pvret X hW ⟨τ112, _, _, _, _, by rw [eR]; exact ⟨kτ112_3, kτ112_6, kτ112_7, kτ112_8, kτ112_9, kτ112_10, kτ112_11, kτ112_14, kτ112_15, kτ112_16⟩, fun z => absurd z (by rw [eR]; exact Bool.false_ne_true), rfl⟩ d_R_readItem_115
            · exact absurd (by decide) c74
          · have c57 := b2i_n c57
            exact absurd c57 hw7
        · exact absurd (by decide) c39
      · have c10 : ¬ 7 ≤ j := fun z => c10 ((nI_leI (a := 7) (b := j) (by omega) (by omega)).mpr z)
        refine lv_aload_n X.x X.b d_R_readItem_13 rfl (lv_at hl 2 rfl) ?_
        refine lv_aload_n X.x X.b d_R_readItem_14 rfl (lv_at hl 2 rfl) ?_
        refine q_getr X hW qj4 rfl _ ds_R 12 (by decide) mw_698 rfl (c1 := 76) rfl d_R_readItem_15 ?_
        refine lv_iload_n X.x X.b d_R_readItem_18 rfl (lv_at hl 0 rfl) ?_
        refine q_kn X hW (t := j) (by omega) d_R_readItem_19 ?_
        refine q_cvi X (c_R_isWord l E (qr (qr S 21 ι) 15 υ) υ ξ (by rw [qr_at]) (by rw [qr_ne (by omega), qr_ne (by omega), hξ]) len n kp (nI 0) mi (nT ρ) (nW ρ) hk (by omega) hlen h0 j (by omega)) hW (q_recv X hW ds_R rfl) ok_R_isWord mw_1090 ⟨by decide, by decide⟩ (As := [.ref (eK E j)]) rfl rfl (Nat.le_of_ble_eq_true rfl) (lv := [(2, .int (nI j)), (1, .int a), (0, .ref (eA E 70))]) hl ⟨Nat.le_refl 0, Nat.le_refl 0⟩ d_R_readItem_20 (fun H locs hW => ?_)
        refine lv_if_eq (tgt := 30) X.x X.b d_R_readItem_23 (by decide) (fun c23 => ?_) (fun c23 => ?_)
        · have c23 := b2i_e c23
          refine lv_iload_n X.x X.b d_R_readItem_30 rfl (lv_at hl 1 rfl) ?_
          refine lv_istore_n (lv' := [(1, .int a), (2, .int (nI j)), (0, .ref (eA E 70))]) X.x X.b d_R_readItem_31 rfl hl (by decide) rfl (fun ls hl => ?_)
          refine lv_iinc (v := nI (j + 1)) (lv' := [(2, .int (nI (j + 1))), (1, .int a), (0, .ref (eA E 70))]) X.x X.b d_R_readItem_32 hl (k := 1) rfl (by rw [show Int32.ofInt 1 = nI 1 from by decide, nI_add]) (by decide) rfl (fun ls hl => ?_)
          refine lv_goto (tgt := 4) X.x X.b d_R_readItem_35 (by decide) ?_
          exact ih4 (j + 1) a (by omega) ha (by omega) _ _ _ hW (lv_sub hl [0, 1, 2] rfl)
        · have c23 := b2i_n c23
          exact absurd c23 (hwk j (by omega))
  exact loop4 (7 - 0 + 1) 0 (-1) (by omega) rfl (Nat.lt_succ_self _) _ _ _ hW (lv_sub hl [0, 1, 2] rfl)
